set_option maxHeartbeats 1000000 in
set_option maxRecDepth 100000 in
theorem ct_X7_isIn (tl : List CD) (M : Mem) (x k : Int) (hx : 0 ≤ x ∧ x < 2147483648) (hk : 0 ≤ k ∧ k < 32) : Ct 0 mX7_isIn (LB ++ tl) [aI x, aI k] M (fun r M1 => M = M1 ∧ r = some (aI (b2 (BT x k.toNat)))) := by
  refine Ct.of (own := RX7) rfl (by decide +kernel) (Nat.le_of_ble_eq_true rfl) (fun X cx rt => ?_)
  refine aw_eq (loc2 := [(0, aI x), (1, aI k)]) ?_ rfl rfl rfl rfl
  refine aw_rngL 0 rfl (fun rl_x rh_x => ?_)
  refine aw_rngL 1 rfl (fun rl_k rh_k => ?_)
  refine aw_iload_n cx dX7_isIn_0 rfl 0 rfl ?_
  refine aw_iload_n cx dX7_isIn_1 rfl 1 rfl ?_
  refine aw_ishr cx dX7_isIn_2 (fun z2q hz2q => ?_)
  refine aw_iconst (n := 1) cx dX7_isIn_3 (by decide) ?_
  refine aw_iand cx dX7_isIn_4 (fun z4q hz4q => ?_)
  refine aw_iconst (n := 1) cx dX7_isIn_5 (by decide) ?_
  refine aw_icmp_ne (tgt := 13) cx dX7_isIn_6 (by decide) (fun c6q => ?_) (fun c6q => ?_)
  · refine aw_iconst (n := 0) cx dX7_isIn_13 (by decide) ?_
    refine aw_zret cx rt dX7_isIn_14 (by decide) ?_
    have qb : z4q = b2 (BT x k.toNat) := by rw [hz4q, hz2q]; exact isbit hx hk
    exact ⟨rfl, congrArg (fun q => some (aI q)) (b2_0 (fun p => c6q (qb.trans (b2_1 p).symm)))⟩
  · refine aw_iconst (n := 1) cx dX7_isIn_9 (by decide) ?_
    refine aw_goto (tgt := 14) cx dX7_isIn_10 (by decide) ?_
    refine aw_zret cx rt dX7_isIn_14 (by decide) ?_
    have qb : z4q = b2 (BT x k.toNat) := by rw [hz4q, hz2q]; exact isbit hx hk
    exact ⟨rfl, congrArg (fun q => some (aI q)) (b2_1 (b2_y qb (by omega)))⟩
set_option maxHeartbeats 1000000 in
set_option maxRecDepth 100000 in
theorem ct_X7_isTwo (tl : List CD) (M : Mem) (v : Int) : Ct 1 mX7_isTwo (LB ++ tl) [aI v] M (fun r M1 => M = M1 ∧ r = some (aI (b2 (0 ≤ v ∧ v ≤ 1)))) := by
  refine Ct.of (own := RX7) rfl (by decide +kernel) (Nat.le_of_ble_eq_true rfl) (fun X cx rt => ?_)
  refine aw_eq (loc2 := [(0, aI v)]) ?_ rfl rfl rfl rfl
  refine aw_rngL 0 rfl (fun rl_v rh_v => ?_)
  refine aw_iload_n cx dX7_isTwo_0 rfl 0 rfl ?_
  refine aw_iconst (n := 0) cx dX7_isTwo_1 (by decide) ?_
  refine aw_iconst (n := 1) cx dX7_isTwo_2 (by decide) ?_
  refine aw_callS (as := [aI v, aI 0, aI 1]) (stk := []) cx dX7_isTwo_3 ml_X7_113 ms_X7_in (by decide) rfl rfl (Nat.le_of_ble_eq_true rfl) (ct_X7_in tl M _ _ _ ) (fun rr3q M_3q hp3q => ?_)
  obtain ⟨rfl, rfl⟩ := hp3q
  refine aw_top (stk := []) (fun z3q hz3q => ?_)
  refine aw_zret cx rt dX7_isTwo_6 (by have q := b2_in (0 ≤ v ∧ v ≤ 1); omega) ?_
  exact ⟨rfl, congrArg (fun q => some (aI q)) hz3q⟩
set_option maxHeartbeats 1000000 in
set_option maxRecDepth 100000 in
theorem ct_X7_isThree (tl : List CD) (M : Mem) (v : Int) : Ct 1 mX7_isThree (LB ++ tl) [aI v] M (fun r M1 => M = M1 ∧ r = some (aI (b2 (0 ≤ v ∧ v ≤ 2)))) := by
  refine Ct.of (own := RX7) rfl (by decide +kernel) (Nat.le_of_ble_eq_true rfl) (fun X cx rt => ?_)
  refine aw_eq (loc2 := [(0, aI v)]) ?_ rfl rfl rfl rfl
  refine aw_rngL 0 rfl (fun rl_v rh_v => ?_)
  refine aw_iload_n cx dX7_isThree_0 rfl 0 rfl ?_
  refine aw_iconst (n := 0) cx dX7_isThree_1 (by decide) ?_
  refine aw_iconst (n := 2) cx dX7_isThree_2 (by decide) ?_
  refine aw_callS (as := [aI v, aI 0, aI 2]) (stk := []) cx dX7_isThree_3 ml_X7_113 ms_X7_in (by decide) rfl rfl (Nat.le_of_ble_eq_true rfl) (ct_X7_in tl M _ _ _ ) (fun rr3q M_3q hp3q => ?_)
  obtain ⟨rfl, rfl⟩ := hp3q
  refine aw_top (stk := []) (fun z3q hz3q => ?_)
  refine aw_zret cx rt dX7_isThree_6 (by have q := b2_in (0 ≤ v ∧ v ≤ 2); omega) ?_
  exact ⟨rfl, congrArg (fun q => some (aI q)) hz3q⟩
set_option maxHeartbeats 1000000 in
set_option maxRecDepth 100000 in
theorem ct_X7_isNight (tl : List CD) (M : Mem) (v : Int) : Ct 1 mX7_isNight (LB ++ tl) [aI v] M (fun r M1 => M = M1 ∧ r = some (aI (b2 (0 ≤ v ∧ v ≤ 23)))) := by
  refine Ct.of (own := RX7) rfl (by decide +kernel) (Nat.le_of_ble_eq_true rfl) (fun X cx rt => ?_)
  refine aw_eq (loc2 := [(0, aI v)]) ?_ rfl rfl rfl rfl
  refine aw_rngL 0 rfl (fun rl_v rh_v => ?_)
  refine aw_iload_n cx dX7_isNight_0 rfl 0 rfl ?_
  refine aw_iconst (n := 0) cx dX7_isNight_1 (by decide) ?_
  refine aw_bipush (n := 23) cx dX7_isNight_2 (by decide) ?_
  refine aw_callS (as := [aI v, aI 0, aI 23]) (stk := []) cx dX7_isNight_4 ml_X7_113 ms_X7_in (by decide) rfl rfl (Nat.le_of_ble_eq_true rfl) (ct_X7_in tl M _ _ _ ) (fun rr4q M_4q hp4q => ?_)
  obtain ⟨rfl, rfl⟩ := hp4q
  refine aw_top (stk := []) (fun z4q hz4q => ?_)
  refine aw_zret cx rt dX7_isNight_7 (by have q := b2_in (0 ≤ v ∧ v ≤ 23); omega) ?_
  exact ⟨rfl, congrArg (fun q => some (aI q)) hz4q⟩
set_option maxHeartbeats 1000000 in
set_option maxRecDepth 100000 in
theorem ct_X7_isTown (tl : List CD) (M : Mem) (v : Int) : Ct 1 mX7_isTown (LB ++ tl) [aI v] M (fun r M1 => M = M1 ∧ r = some (aI (b2 (0 ≤ v ∧ v ≤ 7)))) := by
  refine Ct.of (own := RX7) rfl (by decide +kernel) (Nat.le_of_ble_eq_true rfl) (fun X cx rt => ?_)
  refine aw_eq (loc2 := [(0, aI v)]) ?_ rfl rfl rfl rfl
  refine aw_rngL 0 rfl (fun rl_v rh_v => ?_)
  refine aw_iload_n cx dX7_isTown_0 rfl 0 rfl ?_
  refine aw_iconst (n := 0) cx dX7_isTown_1 (by decide) ?_
  refine aw_bipush (n := 7) cx dX7_isTown_2 (by decide) ?_
  refine aw_callS (as := [aI v, aI 0, aI 7]) (stk := []) cx dX7_isTown_4 ml_X7_113 ms_X7_in (by decide) rfl rfl (Nat.le_of_ble_eq_true rfl) (ct_X7_in tl M _ _ _ ) (fun rr4q M_4q hp4q => ?_)
  obtain ⟨rfl, rfl⟩ := hp4q
  refine aw_top (stk := []) (fun z4q hz4q => ?_)
  refine aw_zret cx rt dX7_isTown_7 (by have q := b2_in (0 ≤ v ∧ v ≤ 7); omega) ?_
  exact ⟨rfl, congrArg (fun q => some (aI q)) hz4q⟩
set_option maxHeartbeats 1000000 in
set_option maxRecDepth 100000 in
theorem ct_X7_isSheet (tl : List CD) (M : Mem) (v : Int) : Ct 1 mX7_isSheet (LB ++ tl) [aI v] M (fun r M1 => M = M1 ∧ r = some (aI (b2 (0 ≤ v ∧ v ≤ 3)))) := by
  refine Ct.of (own := RX7) rfl (by decide +kernel) (Nat.le_of_ble_eq_true rfl) (fun X cx rt => ?_)
  refine aw_eq (loc2 := [(0, aI v)]) ?_ rfl rfl rfl rfl
  refine aw_rngL 0 rfl (fun rl_v rh_v => ?_)
  refine aw_iload_n cx dX7_isSheet_0 rfl 0 rfl ?_
  refine aw_iconst (n := 0) cx dX7_isSheet_1 (by decide) ?_
  refine aw_iconst (n := 3) cx dX7_isSheet_2 (by decide) ?_
  refine aw_callS (as := [aI v, aI 0, aI 3]) (stk := []) cx dX7_isSheet_3 ml_X7_113 ms_X7_in (by decide) rfl rfl (Nat.le_of_ble_eq_true rfl) (ct_X7_in tl M _ _ _ ) (fun rr3q M_3q hp3q => ?_)
  obtain ⟨rfl, rfl⟩ := hp3q
  refine aw_top (stk := []) (fun z3q hz3q => ?_)
  refine aw_zret cx rt dX7_isSheet_6 (by have q := b2_in (0 ≤ v ∧ v ≤ 3); omega) ?_
  exact ⟨rfl, congrArg (fun q => some (aI q)) hz3q⟩
set_option maxHeartbeats 1000000 in
set_option maxRecDepth 100000 in
theorem ct_X7_far (tl : List CD) (M : Mem) (x y : Int) (hx : -1000 ≤ x ∧ x ≤ 1000) (hy : -1000 ≤ y ∧ y ≤ 1000) : Ct 0 mX7_far (LB ++ tl) [aI x, aI y] M (fun r M1 => M = M1 ∧ ∃ z, r = some (aI z) ∧ ((x ≤ y ∧ z = y - x) ∨ (y ≤ x ∧ z = x - y))) := by
  refine Ct.of (own := RX7) rfl (by decide +kernel) (Nat.le_of_ble_eq_true rfl) (fun X cx rt => ?_)
  refine aw_eq (loc2 := [(0, aI x), (1, aI y)]) ?_ rfl rfl rfl rfl
  refine aw_rngL 0 rfl (fun rl_x rh_x => ?_)
  refine aw_rngL 1 rfl (fun rl_y rh_y => ?_)
  refine aw_iload_n cx dX7_far_0 rfl 0 rfl ?_
  refine aw_iload_n cx dX7_far_1 rfl 1 rfl ?_
  refine aw_icmp_ge (tgt := 11) cx dX7_far_2 (by decide) (fun c2q => ?_) (fun c2q => ?_)
  · refine aw_iload_n cx dX7_far_11 rfl 0 rfl ?_
    refine aw_iload_n cx dX7_far_12 rfl 1 rfl ?_
    refine aw_isub cx dX7_far_13 (by omega) (fun z13q hz13q => ?_)
    refine aw_iret cx rt dX7_far_14 ?_
    exact ⟨rfl, _, rfl, by omega⟩
  · refine aw_iload_n cx dX7_far_5 rfl 1 rfl ?_
    refine aw_iload_n cx dX7_far_6 rfl 0 rfl ?_
    refine aw_isub cx dX7_far_7 (by omega) (fun z7q hz7q => ?_)
    refine aw_goto (tgt := 14) cx dX7_far_8 (by decide) ?_
    refine aw_iret cx rt dX7_far_14 ?_
    exact ⟨rfl, _, rfl, by omega⟩
set_option maxHeartbeats 1000000 in
set_option maxRecDepth 100000 in
theorem ct_X7_meets (tl : List CD) (M : Mem) (k : Int) (hk : 1 ≤ k ∧ k ≤ 5) : Ct 0 mX7_meets (LB ++ tl) [aR 32, aI k] M (fun r M1 => ∃ x, r = some (aI x) ∧ M1 = up M 32 43 k ∧ x = -10 - k) := by
  refine Ct.of (own := RX7) rfl (by decide +kernel) (Nat.le_of_ble_eq_true rfl) (fun X cx rt => ?_)
  refine aw_eq (loc2 := [(0, aR 32), (1, aI k)]) ?_ rfl rfl rfl rfl
  refine aw_rngL 1 rfl (fun rl_k rh_k => ?_)
  refine aw_aload_n cx dX7_meets_0 rfl 0 rfl ?_
  refine aw_iload_n cx dX7_meets_1 rfl 1 rfl ?_
  refine aw_putI cx dX7_meets_2 fl_X7_349 kt_X7 rfl rfl (lb_32 tl) rfl (⟨by omega, by omega⟩) ?_
  obtain ⟨M_2q, hM_2q⟩ : ∃ qm, qm = up M 32 43 k := ⟨_, rfl⟩
  rw [← hM_2q]
  refine aw_bipush (n := (-10)) cx dX7_meets_5 (by decide) ?_
  refine aw_iload_n cx dX7_meets_7 rfl 1 rfl ?_
  refine aw_isub cx dX7_meets_8 (by omega) (fun z8q hz8q => ?_)
  refine aw_iret cx rt dX7_meets_9 ?_
  exact ⟨z8q, rfl, hM_2q, hz8q⟩
set_option maxHeartbeats 1000000 in
set_option maxRecDepth 100000 in
theorem ct_X7_clashes (tl : List CD) (M : Mem) (i j : Int) (hi : 0 ≤ i ∧ i < 12) (hj : 0 ≤ j ∧ j < 12) : Ct 1 mX7_clashes (LB ++ tl) [aR 32, aI i, aI j] M (fun r M1 => M = M1 ∧ r = some (aI (b2 (AP (M 46) (M 45) (M 44) i.toNat j.toNat)))) := by
  refine Ct.of (own := RX7) rfl (by decide +kernel) (Nat.le_of_ble_eq_true rfl) (fun X cx rt => ?_)
  refine aw_eq (loc2 := [(0, aR 32), (1, aI i), (2, aI j)]) ?_ rfl rfl rfl rfl
  refine aw_rngL 1 rfl (fun rl_i rh_i => ?_)
  refine aw_rngL 2 rfl (fun rl_j rh_j => ?_)
  refine aw_aload_n cx dX7_clashes_0 rfl 0 rfl ?_
  refine aw_getR (q := 46) cx dX7_clashes_1 fl_X7_49 (lb_32 tl) rfl rfl ?_
  refine aw_iload_n cx dX7_clashes_4 rfl 1 rfl ?_
  refine aw_iald cx dX7_clashes_5 (lb_46 tl) (⟨by omega, by omega⟩) (fun z5q hz5q lo_z5q hi_z5q => ?_)
  refine aw_aload_n cx dX7_clashes_6 rfl 0 rfl ?_
  refine aw_getR (q := 46) cx dX7_clashes_7 fl_X7_49 (lb_32 tl) rfl rfl ?_
  refine aw_iload_n cx dX7_clashes_10 rfl 2 rfl ?_
  refine aw_iald cx dX7_clashes_11 (lb_46 tl) (⟨by omega, by omega⟩) (fun z11q hz11q lo_z11q hi_z11q => ?_)
  refine aw_icmp_ne (tgt := 52) cx dX7_clashes_12 (by decide) (fun c12q => ?_) (fun c12q => ?_)
  · refine aw_iconst (n := 0) cx dX7_clashes_52 (by decide) ?_
    refine aw_zret cx rt dX7_clashes_53 (by decide) ?_
    exact ⟨rfl, congrArg (fun q => some (aI q)) (b2_0 (by unfold AP; omega))⟩
  · refine aw_aload_n cx dX7_clashes_15 rfl 0 rfl ?_
    refine aw_getR (q := 45) cx dX7_clashes_16 fl_X7_46 (lb_32 tl) rfl rfl ?_
    refine aw_iload_n cx dX7_clashes_19 rfl 1 rfl ?_
    refine aw_iald cx dX7_clashes_20 (lb_45 tl) (⟨by omega, by omega⟩) (fun z20q hz20q lo_z20q hi_z20q => ?_)
    refine aw_aload_n cx dX7_clashes_21 rfl 0 rfl ?_
    refine aw_getR (q := 45) cx dX7_clashes_22 fl_X7_46 (lb_32 tl) rfl rfl ?_
    refine aw_iload_n cx dX7_clashes_25 rfl 2 rfl ?_
    refine aw_iald cx dX7_clashes_26 (lb_45 tl) (⟨by omega, by omega⟩) (fun z26q hz26q lo_z26q hi_z26q => ?_)
    refine aw_callS (as := [aI z20q, aI z26q]) (stk := []) cx dX7_clashes_27 ml_X7_193 ms_X7_far (by decide) rfl rfl (Nat.le_of_ble_eq_true rfl) (ct_X7_far tl M _ _ (by omega) (by omega)) (fun rr27q M_27q hp27q => ?_)
    obtain ⟨rfl, z27q, rfl, hfaz27⟩ := hp27q
    refine aw_eq (stk2 := [aI z27q]) ?_ rfl rfl rfl rfl
    refine aw_aload_n cx dX7_clashes_30 rfl 0 rfl ?_
    refine aw_getR (q := 44) cx dX7_clashes_31 fl_X7_43 (lb_32 tl) rfl rfl ?_
    refine aw_iload_n cx dX7_clashes_34 rfl 1 rfl ?_
    refine aw_iald cx dX7_clashes_35 (lb_44 tl) (⟨by omega, by omega⟩) (fun z35q hz35q lo_z35q hi_z35q => ?_)
    refine aw_aload_n cx dX7_clashes_36 rfl 0 rfl ?_
    refine aw_getR (q := 44) cx dX7_clashes_37 fl_X7_43 (lb_32 tl) rfl rfl ?_
    refine aw_iload_n cx dX7_clashes_40 rfl 2 rfl ?_
    refine aw_iald cx dX7_clashes_41 (lb_44 tl) (⟨by omega, by omega⟩) (fun z41q hz41q lo_z41q hi_z41q => ?_)
    refine aw_callS (as := [aI z35q, aI z41q]) (stk := [aI z27q]) cx dX7_clashes_42 ml_X7_193 ms_X7_far (by decide) rfl rfl (Nat.le_of_ble_eq_true rfl) (ct_X7_far tl M _ _ (by omega) (by omega)) (fun rr42q M_42q hp42q => ?_)
    obtain ⟨rfl, z42q, rfl, hfaz42⟩ := hp42q
    refine aw_eq (stk2 := [aI z42q, aI z27q]) ?_ rfl rfl rfl rfl
    refine aw_icmp_le (tgt := 52) cx dX7_clashes_45 (by decide) (fun c45q => ?_) (fun c45q => ?_)
    · refine aw_iconst (n := 0) cx dX7_clashes_52 (by decide) ?_
      refine aw_zret cx rt dX7_clashes_53 (by decide) ?_
      exact ⟨rfl, congrArg (fun q => some (aI q)) (b2_0 (by unfold AP; omega))⟩
    · refine aw_iconst (n := 1) cx dX7_clashes_48 (by decide) ?_
      refine aw_goto (tgt := 53) cx dX7_clashes_49 (by decide) ?_
      refine aw_zret cx rt dX7_clashes_53 (by decide) ?_
      exact ⟨rfl, congrArg (fun q => some (aI q)) (b2_1 (by unfold AP; omega))⟩
