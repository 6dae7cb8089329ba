set_option maxHeartbeats 1000000 in
set_option maxRecDepth 100000 in
theorem ct_X6_tale (tl : List CD) (M : Mem) (i what : Int) : Ct 1 mX6_tale (LB ++ tl) [aR 0, aI i, aI what] M (fun r M1 => M = M1 ∧ ∃ x, r = some (aI x) ∧ aTale (M 5 4) (M 6) (M 7) (M 8) (M 9) i what x) := by
  refine Ct.of (own := RX6) rfl (by decide +kernel) (Nat.le_of_ble_eq_true rfl) (fun X cx rt => ?_)
  refine aw_eq (loc2 := [(0, aR 0), (1, aI i), (2, aI what)]) ?_ rfl rfl rfl rfl
  refine aw_rngL 1 rfl (fun rl_i rh_i => ?_)
  refine aw_rngL 2 rfl (fun rl_what rh_what => ?_)
  refine aw_ok (fun om => ?_)
  have hsz : 0 ≤ M 5 4 ∧ M 5 4 ≤ 12 := okF om (lb_5 tl) (j := 4) rfl (show (0 : Nat) ≠ 1 by decide)
  refine aw_iload_n cx dX6_tale_0 rfl 1 rfl ?_
  refine aw_aload_n cx dX6_tale_1 rfl 0 rfl ?_
  refine aw_getR (q := 5) cx dX6_tale_2 fl_X6_24 (lb_0 tl) rfl rfl ?_
  refine aw_getI cx dX6_tale_5 fl_X6_105 (lb_5 tl) rfl (fun z5q hz5q lo_z5q hi_z5q => ?_)
  refine aw_callS (as := [aI i, aI z5q]) (stk := []) cx dX6_tale_8 ml_X6_84 ms_X6_outside (by decide) rfl rfl (Nat.le_of_ble_eq_true rfl) (ct_X6_outside tl M _ _ ) (fun rr8q M_8q hp8q => ?_)
  obtain ⟨rfl, rfl⟩ := hp8q
  refine aw_top (stk := []) (fun z8q hz8q => ?_)
  refine aw_if_eq (tgt := 17) cx dX6_tale_11 (by decide) (fun c11q => ?_) (fun c11q => ?_)
  · have d11q := b2_e0.mp (hz8q.symm.trans c11q)
    refine aw_iload_n cx dX6_tale_17 rfl 2 rfl ?_
    by_cases c18_0q : what = 0
    · refine aw_tabIn (off := 30) (tgt := 48) cx dX6_tale_18 (by omega) (by omega) (by rw [c18_0q]; rfl) (by decide) ?_
      refine aw_aload_n cx dX6_tale_48 rfl 0 rfl ?_
      refine aw_getR (q := 5) cx dX6_tale_49 fl_X6_24 (lb_0 tl) rfl rfl ?_
      refine aw_getR (q := 6) cx dX6_tale_52 fl_X6_106 (lb_5 tl) rfl rfl ?_
      refine aw_iload_n cx dX6_tale_55 rfl 1 rfl ?_
      refine aw_iald cx dX6_tale_56 (lb_6 tl) (⟨by omega, by omega⟩) (fun z56q hz56q lo_z56q hi_z56q => ?_)
      refine aw_iret cx rt dX6_tale_57 ?_
      first | exact ⟨rfl, _, rfl, Or.inl ⟨by omega, by omega⟩⟩ | exact ⟨rfl, _, rfl, Or.inr ⟨by omega, by omega, by omega⟩⟩
    by_cases c18_1q : what = 1
    · refine aw_tabIn (off := 40) (tgt := 58) cx dX6_tale_18 (by omega) (by omega) (by rw [c18_1q]; rfl) (by decide) ?_
      refine aw_aload_n cx dX6_tale_58 rfl 0 rfl ?_
      refine aw_getR (q := 5) cx dX6_tale_59 fl_X6_24 (lb_0 tl) rfl rfl ?_
      refine aw_getR (q := 7) cx dX6_tale_62 fl_X6_109 (lb_5 tl) rfl rfl ?_
      refine aw_iload_n cx dX6_tale_65 rfl 1 rfl ?_
      refine aw_iald cx dX6_tale_66 (lb_7 tl) (⟨by omega, by omega⟩) (fun z66q hz66q lo_z66q hi_z66q => ?_)
      refine aw_iret cx rt dX6_tale_67 ?_
      first | exact ⟨rfl, _, rfl, Or.inl ⟨by omega, by omega⟩⟩ | exact ⟨rfl, _, rfl, Or.inr ⟨by omega, by omega, by omega⟩⟩
    by_cases c18_2q : what = 2
    · refine aw_tabIn (off := 50) (tgt := 68) cx dX6_tale_18 (by omega) (by omega) (by rw [c18_2q]; rfl) (by decide) ?_
      refine aw_aload_n cx dX6_tale_68 rfl 0 rfl ?_
      refine aw_getR (q := 5) cx dX6_tale_69 fl_X6_24 (lb_0 tl) rfl rfl ?_
      refine aw_getR (q := 8) cx dX6_tale_72 fl_X6_112 (lb_5 tl) rfl rfl ?_
      refine aw_iload_n cx dX6_tale_75 rfl 1 rfl ?_
      refine aw_iald cx dX6_tale_76 (lb_8 tl) (⟨by omega, by omega⟩) (fun z76q hz76q lo_z76q hi_z76q => ?_)
      refine aw_iret cx rt dX6_tale_77 ?_
      first | exact ⟨rfl, _, rfl, Or.inl ⟨by omega, by omega⟩⟩ | exact ⟨rfl, _, rfl, Or.inr ⟨by omega, by omega, by omega⟩⟩
    by_cases c18_3q : what = 3
    · refine aw_tabIn (off := 60) (tgt := 78) cx dX6_tale_18 (by omega) (by omega) (by rw [c18_3q]; rfl) (by decide) ?_
      refine aw_aload_n cx dX6_tale_78 rfl 0 rfl ?_
      refine aw_getR (q := 5) cx dX6_tale_79 fl_X6_24 (lb_0 tl) rfl rfl ?_
      refine aw_getR (q := 9) cx dX6_tale_82 fl_X6_115 (lb_5 tl) rfl rfl ?_
      refine aw_iload_n cx dX6_tale_85 rfl 1 rfl ?_
      refine aw_iald cx dX6_tale_86 (lb_9 tl) (⟨by omega, by omega⟩) (fun z86q hz86q lo_z86q hi_z86q => ?_)
      refine aw_iret cx rt dX6_tale_87 ?_
      first | exact ⟨rfl, _, rfl, Or.inl ⟨by omega, by omega⟩⟩ | exact ⟨rfl, _, rfl, Or.inr ⟨by omega, by omega, by omega⟩⟩
    refine aw_tabOut (tgt := 88) cx dX6_tale_18 (by omega) (by decide) ?_
    refine aw_bipush (n := (-2)) cx dX6_tale_88 (by decide) ?_
    refine aw_iret cx rt dX6_tale_90 ?_
    first | exact ⟨rfl, _, rfl, Or.inl ⟨by omega, by omega⟩⟩ | exact ⟨rfl, _, rfl, Or.inr ⟨by omega, by omega, by omega⟩⟩
  · have d11q := b2_y hz8q c11q
    refine aw_bipush (n := (-2)) cx dX6_tale_14 (by decide) ?_
    refine aw_iret cx rt dX6_tale_16 ?_
    first | exact ⟨rfl, _, rfl, Or.inl ⟨by omega, by omega⟩⟩ | exact ⟨rfl, _, rfl, Or.inr ⟨by omega, by omega, by omega⟩⟩
set_option maxHeartbeats 1000000 in
set_option maxRecDepth 100000 in
theorem ct_X6_charge (tl : List CD) (M : Mem) (i what : Int) : Ct 1 mX6_charge (LB ++ tl) [aR 0, aI i, aI what] M (fun r M1 => M = M1 ∧ ∃ x, r = some (aI x) ∧ aCharge (M 15 2) (M 16) (M 17) i what x) := by
  refine Ct.of (own := RX6) rfl (by decide +kernel) (Nat.le_of_ble_eq_true rfl) (fun X cx rt => ?_)
  refine aw_eq (loc2 := [(0, aR 0), (1, aI i), (2, aI what)]) ?_ rfl rfl rfl rfl
  refine aw_rngL 1 rfl (fun rl_i rh_i => ?_)
  refine aw_rngL 2 rfl (fun rl_what rh_what => ?_)
  refine aw_ok (fun om => ?_)
  have hcz : 0 ≤ M 15 2 ∧ M 15 2 ≤ 8 := okF om (lb_15 tl) (j := 2) rfl (show (0 : Nat) ≠ 1 by decide)
  refine aw_iload_n cx dX6_charge_0 rfl 1 rfl ?_
  refine aw_aload_n cx dX6_charge_1 rfl 0 rfl ?_
  refine aw_getR (q := 15) cx dX6_charge_2 fl_X6_34 (lb_0 tl) rfl rfl ?_
  refine aw_getI cx dX6_charge_5 fl_X6_118 (lb_15 tl) rfl (fun z5q hz5q lo_z5q hi_z5q => ?_)
  refine aw_callS (as := [aI i, aI z5q]) (stk := []) cx dX6_charge_8 ml_X6_84 ms_X6_outside (by decide) rfl rfl (Nat.le_of_ble_eq_true rfl) (ct_X6_outside tl M _ _ ) (fun rr8q M_8q hp8q => ?_)
  obtain ⟨rfl, rfl⟩ := hp8q
  refine aw_top (stk := []) (fun z8q hz8q => ?_)
  refine aw_if_ne (tgt := 22) cx dX6_charge_11 (by decide) (fun c11q => ?_) (fun c11q => ?_)
  · have d11q := b2_y hz8q c11q
    refine aw_bipush (n := (-2)) cx dX6_charge_22 (by decide) ?_
    refine aw_iret cx rt dX6_charge_24 ?_
    first | exact ⟨rfl, _, rfl, Or.inl ⟨by omega, by omega⟩⟩ | exact ⟨rfl, _, rfl, Or.inr ⟨by omega, by omega, by omega⟩⟩
  · have d11q := b2_e0.mp (hz8q.symm.trans c11q)
    refine aw_iload_n cx dX6_charge_14 rfl 2 rfl ?_
    refine aw_iconst (n := 2) cx dX6_charge_15 (by decide) ?_
    refine aw_callS (as := [aI what, aI 2]) (stk := []) cx dX6_charge_16 ml_X6_84 ms_X6_outside (by decide) rfl rfl (Nat.le_of_ble_eq_true rfl) (ct_X6_outside tl M _ _ ) (fun rr16q M_16q hp16q => ?_)
    obtain ⟨rfl, rfl⟩ := hp16q
    refine aw_top (stk := []) (fun z16q hz16q => ?_)
    refine aw_if_eq (tgt := 25) cx dX6_charge_19 (by decide) (fun c19q => ?_) (fun c19q => ?_)
    · have d19q := b2_e0.mp (hz16q.symm.trans c19q)
      refine aw_iload_n cx dX6_charge_25 rfl 2 rfl ?_
      refine aw_if_ne (tgt := 41) cx dX6_charge_26 (by decide) (fun c26q => ?_) (fun c26q => ?_)
      · refine aw_aload_n cx dX6_charge_41 rfl 0 rfl ?_
        refine aw_getR (q := 15) cx dX6_charge_42 fl_X6_34 (lb_0 tl) rfl rfl ?_
        refine aw_getR (q := 17) cx dX6_charge_45 fl_X6_120 (lb_15 tl) rfl rfl ?_
        refine aw_iload_n cx dX6_charge_48 rfl 1 rfl ?_
        refine aw_iald cx dX6_charge_49 (lb_17 tl) (⟨by omega, by omega⟩) (fun z49q hz49q lo_z49q hi_z49q => ?_)
        refine aw_iret cx rt dX6_charge_50 ?_
        first | exact ⟨rfl, _, rfl, Or.inl ⟨by omega, by omega⟩⟩ | exact ⟨rfl, _, rfl, Or.inr ⟨by omega, by omega, by omega⟩⟩
      · refine aw_aload_n cx dX6_charge_29 rfl 0 rfl ?_
        refine aw_getR (q := 15) cx dX6_charge_30 fl_X6_34 (lb_0 tl) rfl rfl ?_
        refine aw_getR (q := 16) cx dX6_charge_33 fl_X6_119 (lb_15 tl) rfl rfl ?_
        refine aw_iload_n cx dX6_charge_36 rfl 1 rfl ?_
        refine aw_iald cx dX6_charge_37 (lb_16 tl) (⟨by omega, by omega⟩) (fun z37q hz37q lo_z37q hi_z37q => ?_)
        refine aw_goto (tgt := 50) cx dX6_charge_38 (by decide) ?_
        refine aw_iret cx rt dX6_charge_50 ?_
        first | exact ⟨rfl, _, rfl, Or.inl ⟨by omega, by omega⟩⟩ | exact ⟨rfl, _, rfl, Or.inr ⟨by omega, by omega, by omega⟩⟩
    · have d19q := b2_y hz16q c19q
      refine aw_bipush (n := (-2)) cx dX6_charge_22 (by decide) ?_
      refine aw_iret cx rt dX6_charge_24 ?_
      first | exact ⟨rfl, _, rfl, Or.inl ⟨by omega, by omega⟩⟩ | exact ⟨rfl, _, rfl, Or.inr ⟨by omega, by omega, by omega⟩⟩
set_option maxHeartbeats 1000000 in
set_option maxRecDepth 100000 in
theorem ct_X6_need (tl : List CD) (M : Mem) (v : Int) : Ct 0 mX6_need (LB ++ tl) [aR 0, aI v] M (fun r M1 => ∃ x, r = some (aI x) ∧ (((v < 1 ∨ 40 < v) ∧ x = -2 ∧ M1 = M) ∨ (1 ≤ v ∧ v ≤ 40 ∧ x = M 0 12 ∧ M1 = up M 0 12 v))) := by
  refine Ct.of (own := RX6) rfl (by decide +kernel) (Nat.le_of_ble_eq_true rfl) (fun X cx rt => ?_)
  refine aw_eq (loc2 := [(0, aR 0), (1, aI v)]) ?_ rfl rfl rfl rfl
  refine aw_rngL 1 rfl (fun rl_v rh_v => ?_)
  refine aw_iload_n cx dX6_need_0 rfl 1 rfl ?_
  refine aw_iconst (n := 1) cx dX6_need_1 (by decide) ?_
  refine aw_icmp_lt (tgt := 11) cx dX6_need_2 (by decide) (fun c2q => ?_) (fun c2q => ?_)
  · refine aw_bipush (n := (-2)) cx dX6_need_11 (by decide) ?_
    refine aw_iret cx rt dX6_need_13 ?_
    exact ⟨-2, rfl, Or.inl ⟨by omega, rfl, rfl⟩⟩
  · refine aw_iload_n cx dX6_need_5 rfl 1 rfl ?_
    refine aw_bipush (n := 40) cx dX6_need_6 (by decide) ?_
    refine aw_icmp_le (tgt := 14) cx dX6_need_8 (by decide) (fun c8q => ?_) (fun c8q => ?_)
    · refine aw_aload_n cx dX6_need_14 rfl 0 rfl ?_
      refine aw_getI cx dX6_need_15 fl_X6_74 (lb_0 tl) rfl (fun z15q hz15q lo_z15q hi_z15q => ?_)
      refine aw_istore_n (loc2 := [(2, aI z15q), (0, aR 0), (1, aI v)]) cx dX6_need_18 rfl (by decide) rfl ?_
      refine aw_aload_n cx dX6_need_19 rfl 1 rfl ?_
      refine aw_iload_n cx dX6_need_20 rfl 2 rfl ?_
      refine aw_putI cx dX6_need_21 fl_X6_74 kt_X6 rfl rfl (lb_0 tl) rfl (⟨by omega, by omega⟩) ?_
      obtain ⟨M_21q, hM_21q⟩ : ∃ q, q = up M 0 12 v := ⟨_, rfl⟩
      rw [← hM_21q]
      refine aw_iload_n cx dX6_need_24 rfl 0 rfl ?_
      refine aw_iret cx rt dX6_need_25 ?_
      exact ⟨z15q, rfl, Or.inr ⟨by omega, by omega, hz15q, hM_21q⟩⟩
    · refine aw_bipush (n := (-2)) cx dX6_need_11 (by decide) ?_
      refine aw_iret cx rt dX6_need_13 ?_
      exact ⟨-2, rfl, Or.inl ⟨by omega, rfl, rfl⟩⟩
set_option maxHeartbeats 1000000 in
set_option maxRecDepth 100000 in
theorem ct_X6_event (tl : List CD) (M : Mem) (kind night number : Int) : Ct 1 mX6_event (LB ++ tl) [aR 0, aI kind, aI night, aI number] M (fun r M1 => ∃ x, r = some (aI x) ∧ (((kind < 0 ∨ 2 < kind ∨ night < 0 ∨ 23 < night ∨ number < 0 ∨ 9 < number) ∧ x = -2 ∧ M1 = M) ∨ ((0 ≤ kind ∧ kind ≤ 2 ∧ 0 ≤ night ∧ night ≤ 23 ∧ 0 ≤ number ∧ number ≤ 9) ∧ M 18 3 = 8 ∧ x = -4 ∧ M1 = M) ∨ ((0 ≤ kind ∧ kind ≤ 2 ∧ 0 ≤ night ∧ night ≤ 23 ∧ 0 ≤ number ∧ number ≤ 9) ∧ M 18 3 < 8 ∧ x = M 18 3 + 1 ∧ FR [18, 19, 20, 21] M M1 ∧ M1 18 3 = M 18 3 + 1 ∧ M1 19 = up1 (M 19) (M 18 3).toNat kind ∧ M1 20 = up1 (M 20) (M 18 3).toNat night ∧ M1 21 = up1 (M 21) (M 18 3).toNat number))) := by
  refine Ct.of (own := RX6) rfl (by decide +kernel) (Nat.le_of_ble_eq_true rfl) (fun X cx rt => ?_)
  refine aw_eq (loc2 := [(0, aR 0), (1, aI kind), (2, aI night), (3, aI number)]) ?_ rfl rfl rfl rfl
  refine aw_rngL 1 rfl (fun rl_kind rh_kind => ?_)
  refine aw_rngL 2 rfl (fun rl_night rh_night => ?_)
  refine aw_rngL 3 rfl (fun rl_number rh_number => ?_)
  refine aw_ok (fun om => ?_)
  have hse : 0 ≤ M 18 3 ∧ M 18 3 ≤ 8 := okF om (lb_18 tl) (j := 3) rfl (show (0 : Nat) ≠ 1 by decide)
  refine aw_iload_n cx dX6_event_0 rfl 1 rfl ?_
  refine aw_iconst (n := 3) cx dX6_event_1 (by decide) ?_
  refine aw_callS (as := [aI kind, aI 3]) (stk := []) cx dX6_event_2 ml_X6_84 ms_X6_outside (by decide) rfl rfl (Nat.le_of_ble_eq_true rfl) (ct_X6_outside tl M _ _ ) (fun rr2q M_2q hp2q => ?_)
  obtain ⟨rfl, rfl⟩ := hp2q
  refine aw_top (stk := []) (fun z2q hz2q => ?_)
  refine aw_if_ne (tgt := 26) cx dX6_event_5 (by decide) (fun c5q => ?_) (fun c5q => ?_)
  · have d5q := b2_y hz2q c5q
    refine aw_bipush (n := (-2)) cx dX6_event_26 (by decide) ?_
    refine aw_iret cx rt dX6_event_28 ?_
    exact ⟨-2, rfl, Or.inl ⟨by omega, rfl, rfl⟩⟩
  · have d5q := b2_e0.mp (hz2q.symm.trans c5q)
    refine aw_iload_n cx dX6_event_8 rfl 2 rfl ?_
    refine aw_bipush (n := 24) cx dX6_event_9 (by decide) ?_
    refine aw_callS (as := [aI night, aI 24]) (stk := []) cx dX6_event_11 ml_X6_84 ms_X6_outside (by decide) rfl rfl (Nat.le_of_ble_eq_true rfl) (ct_X6_outside tl M _ _ ) (fun rr11q M_11q hp11q => ?_)
    obtain ⟨rfl, rfl⟩ := hp11q
    refine aw_top (stk := []) (fun z11q hz11q => ?_)
    refine aw_if_ne (tgt := 26) cx dX6_event_14 (by decide) (fun c14q => ?_) (fun c14q => ?_)
    · have d14q := b2_y hz11q c14q
      refine aw_bipush (n := (-2)) cx dX6_event_26 (by decide) ?_
      refine aw_iret cx rt dX6_event_28 ?_
      exact ⟨-2, rfl, Or.inl ⟨by omega, rfl, rfl⟩⟩
    · have d14q := b2_e0.mp (hz11q.symm.trans c14q)
      refine aw_iload_n cx dX6_event_17 rfl 3 rfl ?_
      refine aw_bipush (n := 10) cx dX6_event_18 (by decide) ?_
      refine aw_callS (as := [aI number, aI 10]) (stk := []) cx dX6_event_20 ml_X6_84 ms_X6_outside (by decide) rfl rfl (Nat.le_of_ble_eq_true rfl) (ct_X6_outside tl M _ _ ) (fun rr20q M_20q hp20q => ?_)
      obtain ⟨rfl, rfl⟩ := hp20q
      refine aw_top (stk := []) (fun z20q hz20q => ?_)
      refine aw_if_eq (tgt := 29) cx dX6_event_23 (by decide) (fun c23q => ?_) (fun c23q => ?_)
      · have d23q := b2_e0.mp (hz20q.symm.trans c23q)
        refine aw_aload_n cx dX6_event_29 rfl 0 rfl ?_
        refine aw_getR (q := 18) cx dX6_event_30 fl_X6_41 (lb_0 tl) rfl rfl ?_
        refine aw_getI cx dX6_event_33 fl_X6_121 (lb_18 tl) rfl (fun z33q hz33q lo_z33q hi_z33q => ?_)
        refine aw_bipush (n := 8) cx dX6_event_36 (by decide) ?_
        refine aw_icmp_lt (tgt := 44) cx dX6_event_38 (by decide) (fun c38q => ?_) (fun c38q => ?_)
        · refine aw_aload_n cx dX6_event_44 rfl 0 rfl ?_
          refine aw_getR (q := 18) cx dX6_event_45 fl_X6_41 (lb_0 tl) rfl rfl ?_
          refine aw_getR (q := 19) cx dX6_event_48 fl_X6_122 (lb_18 tl) rfl rfl ?_
          refine aw_aload_n cx dX6_event_51 rfl 0 rfl ?_
          refine aw_getR (q := 18) cx dX6_event_52 fl_X6_41 (lb_0 tl) rfl rfl ?_
          refine aw_getI cx dX6_event_55 fl_X6_121 (lb_18 tl) rfl (fun z55q hz55q lo_z55q hi_z55q => ?_)
          refine aw_iload_n cx dX6_event_58 rfl 1 rfl ?_
          refine aw_iast cx dX6_event_59 (lb_19 tl) (⟨by omega, by omega⟩) (⟨by omega, by omega⟩) ?_
          obtain ⟨M_59q, hM_59q⟩ : ∃ q, q = up M 19 (Int.toNat (z55q)) (kind) := ⟨_, rfl⟩
          rw [← hM_59q]
          refine aw_aload_n cx dX6_event_60 rfl 0 rfl ?_
          refine aw_getR (q := 18) cx dX6_event_61 fl_X6_41 (lb_0 tl) rfl rfl ?_
          refine aw_getR (q := 20) cx dX6_event_64 fl_X6_125 (lb_18 tl) rfl rfl ?_
          
          refine aw_aload_n cx dX6_event_67 rfl 0 rfl ?_
          refine aw_getR (q := 18) cx dX6_event_68 fl_X6_41 (lb_0 tl) rfl rfl ?_
          refine aw_getI cx dX6_event_71 fl_X6_121 (lb_18 tl) rfl (fun z71q hz71q lo_z71q hi_z71q => ?_)
          refine aw_iload_n cx dX6_event_74 rfl 2 rfl ?_
          refine aw_iast cx dX6_event_75 (lb_20 tl) (by rw [up_ne hM_59q (by omega)] at hz71q; exact ⟨by omega, by omega⟩) (⟨by omega, by omega⟩) ?_
          obtain ⟨M_75q, hM_75q⟩ : ∃ q, q = up M_59q 20 (Int.toNat (z71q)) (night) := ⟨_, rfl⟩
          rw [← hM_75q]
          refine aw_aload_n cx dX6_event_76 rfl 0 rfl ?_
          refine aw_getR (q := 18) cx dX6_event_77 fl_X6_41 (lb_0 tl) rfl rfl ?_
          refine aw_getR (q := 21) cx dX6_event_80 fl_X6_126 (lb_18 tl) rfl rfl ?_
          refine aw_aload_n cx dX6_event_83 rfl 0 rfl ?_
          refine aw_getR (q := 18) cx dX6_event_84 fl_X6_41 (lb_0 tl) rfl rfl ?_
          refine aw_getI cx dX6_event_87 fl_X6_121 (lb_18 tl) rfl (fun z87q hz87q lo_z87q hi_z87q => ?_)
          refine aw_iload_n cx dX6_event_90 rfl 3 rfl ?_
          refine aw_iast cx dX6_event_91 (lb_21 tl) (by rw [up_ne hM_75q (by omega), up_ne hM_59q (by omega)] at hz87q; exact ⟨by omega, by omega⟩) (⟨by omega, by omega⟩) ?_
          obtain ⟨M_91q, hM_91q⟩ : ∃ q, q = up M_75q 21 (Int.toNat (z87q)) (number) := ⟨_, rfl⟩
          rw [← hM_91q]
          refine aw_aload_n cx dX6_event_92 rfl 0 rfl ?_
          refine aw_getR (q := 18) cx dX6_event_93 fl_X6_41 (lb_0 tl) rfl rfl ?_
          refine aw_dup cx dX6_event_96 rfl ?_
          refine aw_getI cx dX6_event_97 fl_X6_121 (lb_18 tl) rfl (fun z97q hz97q lo_z97q hi_z97q => ?_)
          refine aw_iconst (n := 1) cx dX6_event_100 (by decide) ?_
          refine aw_iadd cx dX6_event_101 (by omega) (fun z101q hz101q => ?_)
          refine aw_putI cx dX6_event_102 fl_X6_121 kt_X2 rfl rfl (lb_18 tl) rfl (by rw [up_ne hM_91q (by omega), up_ne hM_75q (by omega), up_ne hM_59q (by omega)] at hz97q; exact ⟨by omega, by omega⟩) ?_
          obtain ⟨M_102q, hM_102q⟩ : ∃ q, q = up M_91q 18 3 z101q := ⟨_, rfl⟩
          rw [← hM_102q]
          refine aw_aload_n cx dX6_event_105 rfl 0 rfl ?_
          refine aw_getR (q := 18) cx dX6_event_106 fl_X6_41 (lb_0 tl) rfl rfl ?_
          refine aw_getI cx dX6_event_109 fl_X6_121 (lb_18 tl) rfl (fun z109q hz109q lo_z109q hi_z109q => ?_)
          refine aw_iret cx rt dX6_event_112 ?_
          rw [up_ne hM_59q (by omega)] at hz71q
          rw [up_ne hM_75q (by omega), up_ne hM_59q (by omega)] at hz87q
          rw [up_ne hM_91q (by omega), up_ne hM_75q (by omega), up_ne hM_59q (by omega)] at hz97q
          have q1q : M_102q 18 3 = M 18 3 + 1 := by rw [up_eq hM_102q]; omega
          refine ⟨z109q, rfl, Or.inr (Or.inr ⟨by omega, by omega, by omega, (((FR.rf.put hM_59q (by decide)).put hM_75q (by decide)).put hM_91q (by decide)).put hM_102q (by decide), q1q, ?_, ?_, ?_⟩)⟩
          · rw [hM_102q, up_off (by decide), hM_91q, up_off (by decide), hM_75q, up_off (by decide), hM_59q, up_row, hz55q]
          · rw [hM_102q, up_off (by decide), hM_91q, up_off (by decide), hM_75q, up_row, hM_59q, up_off (by decide), hz71q]
          · rw [hM_102q, up_off (by decide), hM_91q, up_row, hM_75q, up_off (by decide), hM_59q, up_off (by decide), hz87q]
        · refine aw_bipush (n := (-4)) cx dX6_event_41 (by decide) ?_
          refine aw_iret cx rt dX6_event_43 ?_
          exact ⟨-4, rfl, Or.inr (Or.inl ⟨by omega, by omega, rfl, rfl⟩)⟩
      · have d23q := b2_y hz20q c23q
        refine aw_bipush (n := (-2)) cx dX6_event_26 (by decide) ?_
        refine aw_iret cx rt dX6_event_28 ?_
        exact ⟨-2, rfl, Or.inl ⟨by omega, rfl, rfl⟩⟩
set_option maxHeartbeats 1000000 in
set_option maxRecDepth 100000 in
theorem ct_X6_back (tl : List CD) (M : Mem)  : Ct 0 mX6_back (LB ++ tl) [aR 0] M (fun r M1 => ∃ x, r = some (aI x) ∧ ((M 18 3 = 0 ∧ x = -3 ∧ M1 = M) ∨ (0 < M 18 3 ∧ x = M 18 3 - 1 ∧ M1 = up M 18 3 (M 18 3 - 1)))) := by
  refine Ct.of (own := RX6) rfl (by decide +kernel) (Nat.le_of_ble_eq_true rfl) (fun X cx rt => ?_)
  refine aw_eq (loc2 := [(0, aR 0)]) ?_ rfl rfl rfl rfl
  refine aw_ok (fun om => ?_)
  have hse : 0 ≤ M 18 3 ∧ M 18 3 ≤ 8 := okF om (lb_18 tl) (j := 3) rfl (show (0 : Nat) ≠ 1 by decide)
  refine aw_aload_n cx dX6_back_0 rfl 0 rfl ?_
  refine aw_getR (q := 18) cx dX6_back_1 fl_X6_41 (lb_0 tl) rfl rfl ?_
  refine aw_getI cx dX6_back_4 fl_X6_121 (lb_18 tl) rfl (fun z4q hz4q lo_z4q hi_z4q => ?_)
  refine aw_if_ne (tgt := 13) cx dX6_back_7 (by decide) (fun c7q => ?_) (fun c7q => ?_)
  · refine aw_aload_n cx dX6_back_13 rfl 0 rfl ?_
    refine aw_getR (q := 18) cx dX6_back_14 fl_X6_41 (lb_0 tl) rfl rfl ?_
    refine aw_dup cx dX6_back_17 rfl ?_
    refine aw_getI cx dX6_back_18 fl_X6_121 (lb_18 tl) rfl (fun z18q hz18q lo_z18q hi_z18q => ?_)
    refine aw_iconst (n := 1) cx dX6_back_21 (by decide) ?_
    refine aw_isub cx dX6_back_22 (by omega) (fun z22q hz22q => ?_)
    refine aw_putI cx dX6_back_23 fl_X6_121 kt_X2 rfl rfl (lb_18 tl) rfl (⟨by omega, by omega⟩) ?_
    obtain ⟨M_23q, hM_23q⟩ : ∃ q, q = up M 18 3 z22q := ⟨_, rfl⟩
    rw [← hM_23q]
    refine aw_aload_n cx dX6_back_26 rfl 0 rfl ?_
    refine aw_getR (q := 18) cx dX6_back_27 fl_X6_41 (lb_0 tl) rfl rfl ?_
    refine aw_getI cx dX6_back_30 fl_X6_121 (lb_18 tl) rfl (fun z30q hz30q lo_z30q hi_z30q => ?_)
    refine aw_iret cx rt dX6_back_33 ?_
    exact ⟨z30q, rfl, Or.inr ⟨by omega, by rw [hz30q, up_eq hM_23q]; omega, by rw [hM_23q, show z22q = M 18 3 - 1 by omega]⟩⟩
  · refine aw_bipush (n := (-3)) cx dX6_back_10 (by decide) ?_
    refine aw_iret cx rt dX6_back_12 ?_
    exact ⟨-3, rfl, Or.inl ⟨by omega, rfl, rfl⟩⟩
set_option maxHeartbeats 1000000 in
set_option maxRecDepth 100000 in
theorem ct_X6_clash (tl : List CD) (M : Mem) (i j : Int) : Ct 2 mX6_clash (LB ++ tl) [aR 0, aI i, aI j] M (fun r M1 => M = M1 ∧ ∃ x, r = some (aI x) ∧ (((i < 0 ∨ M 5 4 ≤ i ∨ j < 0 ∨ M 5 4 ≤ j ∨ i = j) ∧ x = -2) ∨ (0 ≤ i ∧ i < M 5 4 ∧ 0 ≤ j ∧ j < M 5 4 ∧ i ≠ j ∧ x = b2 (AP (M 8) (M 7) (M 6) i.toNat j.toNat)))) := by
  refine Ct.of (own := RX6) rfl (by decide +kernel) (Nat.le_of_ble_eq_true rfl) (fun X cx rt => ?_)
  refine aw_eq (loc2 := [(0, aR 0), (1, aI i), (2, aI j)]) ?_ rfl rfl rfl rfl
  refine aw_rngL 1 rfl (fun rl_i rh_i => ?_)
  refine aw_rngL 2 rfl (fun rl_j rh_j => ?_)
  refine aw_ok (fun om => ?_)
  have hsz : 0 ≤ M 5 4 ∧ M 5 4 ≤ 12 := okF om (lb_5 tl) (j := 4) rfl (show (0 : Nat) ≠ 1 by decide)
  refine aw_iload_n cx dX6_clash_0 rfl 1 rfl ?_
  refine aw_aload_n cx dX6_clash_1 rfl 0 rfl ?_
  refine aw_getR (q := 5) cx dX6_clash_2 fl_X6_24 (lb_0 tl) rfl rfl ?_
  refine aw_getI cx dX6_clash_5 fl_X6_105 (lb_5 tl) rfl (fun z5q hz5q lo_z5q hi_z5q => ?_)
  refine aw_callS (as := [aI i, aI z5q]) (stk := []) cx dX6_clash_8 ml_X6_84 ms_X6_outside (by decide) rfl rfl (Nat.le_of_ble_eq_true rfl) (ct_X6_outside tl M _ _ ) (fun rr8q M_8q hp8q => ?_)
  obtain ⟨rfl, rfl⟩ := hp8q
  refine aw_top (stk := []) (fun z8q hz8q => ?_)
  refine aw_if_ne (tgt := 33) cx dX6_clash_11 (by decide) (fun c11q => ?_) (fun c11q => ?_)
  · have d11q := b2_y hz8q c11q
    refine aw_bipush (n := (-2)) cx dX6_clash_33 (by decide) ?_
    refine aw_iret cx rt dX6_clash_35 ?_
    exact ⟨rfl, _, rfl, Or.inl ⟨by omega, rfl⟩⟩
  · have d11q := b2_e0.mp (hz8q.symm.trans c11q)
    refine aw_iload_n cx dX6_clash_14 rfl 2 rfl ?_
    refine aw_aload_n cx dX6_clash_15 rfl 0 rfl ?_
    refine aw_getR (q := 5) cx dX6_clash_16 fl_X6_24 (lb_0 tl) rfl rfl ?_
    refine aw_getI cx dX6_clash_19 fl_X6_105 (lb_5 tl) rfl (fun z19q hz19q lo_z19q hi_z19q => ?_)
    refine aw_callS (as := [aI j, aI z19q]) (stk := []) cx dX6_clash_22 ml_X6_84 ms_X6_outside (by decide) rfl rfl (Nat.le_of_ble_eq_true rfl) (ct_X6_outside tl M _ _ ) (fun rr22q M_22q hp22q => ?_)
    obtain ⟨rfl, rfl⟩ := hp22q
    refine aw_top (stk := []) (fun z22q hz22q => ?_)
    refine aw_if_ne (tgt := 33) cx dX6_clash_25 (by decide) (fun c25q => ?_) (fun c25q => ?_)
    · have d25q := b2_y hz22q c25q
      refine aw_bipush (n := (-2)) cx dX6_clash_33 (by decide) ?_
      refine aw_iret cx rt dX6_clash_35 ?_
      exact ⟨rfl, _, rfl, Or.inl ⟨by omega, rfl⟩⟩
    · have d25q := b2_e0.mp (hz22q.symm.trans c25q)
      refine aw_iload_n cx dX6_clash_28 rfl 1 rfl ?_
      refine aw_iload_n cx dX6_clash_29 rfl 2 rfl ?_
      refine aw_icmp_ne (tgt := 36) cx dX6_clash_30 (by decide) (fun c30q => ?_) (fun c30q => ?_)
      · refine aw_aload_n cx dX6_clash_36 rfl 0 rfl ?_
        refine aw_getR (q := 5) cx dX6_clash_37 fl_X6_24 (lb_0 tl) rfl rfl ?_
        refine aw_iload_n cx dX6_clash_40 rfl 1 rfl ?_
        refine aw_iload_n cx dX6_clash_41 rfl 2 rfl ?_
        refine aw_callV (as := [aI i, aI j]) (k := 5) (stk := []) cx dX6_clash_42 ml_X6_140 mv_X4_apart rfl (lb_5 tl) (by decide) rfl rfl (Nat.le_of_ble_eq_true rfl) (ct_X4_apart tl M 5 _ _ (Or.inl rfl) (by first | assumption | omega) (by first | assumption | omega)) (fun rr42q M_42q hp42q => ?_)
        obtain ⟨rfl, rfl⟩ := hp42q
        refine aw_top (stk := []) (fun z42q hz42q => ?_)
        refine aw_if_eq (tgt := 52) cx dX6_clash_45 (by decide) (fun c45q => ?_) (fun c45q => ?_)
        · have d45q := b2_e0.mp (hz42q.symm.trans c45q)
          refine aw_iconst (n := 0) cx dX6_clash_52 (by decide) ?_
          refine aw_iret cx rt dX6_clash_53 ?_
          exact ⟨rfl, _, rfl, Or.inr ⟨by omega, by omega, by omega, by omega, by omega, b2_0 d45q⟩⟩
        · have d45q := b2_y hz42q c45q
          refine aw_iconst (n := 1) cx dX6_clash_48 (by decide) ?_
          refine aw_goto (tgt := 53) cx dX6_clash_49 (by decide) ?_
          refine aw_iret cx rt dX6_clash_53 ?_
          exact ⟨rfl, _, rfl, Or.inr ⟨by omega, by omega, by omega, by omega, by omega, b2_1 d45q⟩⟩
      · refine aw_bipush (n := (-2)) cx dX6_clash_33 (by decide) ?_
        refine aw_iret cx rt dX6_clash_35 ?_
        exact ⟨rfl, _, rfl, Or.inl ⟨by omega, rfl⟩⟩
set_option maxHeartbeats 1000000 in
set_option maxRecDepth 100000 in
theorem ct_X6_stands (tl : List CD) (M : Mem) (i what : Int) : Ct 5 mX6_stands (LB ++ tl) [aR 0, aI i, aI what] M (fun r M1 => ∃ x, r = some (aI x) ∧ FR SC M M1 ∧ aStands (M 5 4) (fgT M) i what x) := by
  refine Ct.of (own := RX6) rfl (by decide +kernel) (Nat.le_of_ble_eq_true rfl) (fun X cx rt => ?_)
  refine aw_eq (loc2 := [(0, aR 0), (1, aI i), (2, aI what)]) ?_ rfl rfl rfl rfl
  refine aw_rngL 1 rfl (fun rl_i rh_i => ?_)
  refine aw_rngL 2 rfl (fun rl_what rh_what => ?_)
  refine aw_ok (fun om => ?_)
  have hsz : 0 ≤ M 5 4 ∧ M 5 4 ≤ 12 := okF om (lb_5 tl) (j := 4) rfl (show (0 : Nat) ≠ 1 by decide)
  have hNN : ∀ j, 0 ≤ M 6 j := fun j => (okA om (lb_6 tl) j).1
  refine aw_iload_n cx dX6_stands_0 rfl 1 rfl ?_
  refine aw_aload_n cx dX6_stands_1 rfl 0 rfl ?_
  refine aw_getR (q := 5) cx dX6_stands_2 fl_X6_24 (lb_0 tl) rfl rfl ?_
  refine aw_getI cx dX6_stands_5 fl_X6_105 (lb_5 tl) rfl (fun z5q hz5q lo_z5q hi_z5q => ?_)
  refine aw_callS (as := [aI i, aI z5q]) (stk := []) cx dX6_stands_8 ml_X6_84 ms_X6_outside (by decide) rfl rfl (Nat.le_of_ble_eq_true rfl) (ct_X6_outside tl M _ _ ) (fun rr8q M_8q hp8q => ?_)
  obtain ⟨rfl, rfl⟩ := hp8q
  refine aw_top (stk := []) (fun z8q hz8q => ?_)
  refine aw_if_ne (tgt := 22) cx dX6_stands_11 (by decide) (fun c11q => ?_) (fun c11q => ?_)
  · have d11q := b2_y hz8q c11q
    refine aw_bipush (n := (-2)) cx dX6_stands_22 (by decide) ?_
    refine aw_iret cx rt dX6_stands_24 ?_
    exact ⟨-2, rfl, FR.rf, Or.inl ⟨by omega, rfl⟩⟩
  · have d11q := b2_e0.mp (hz8q.symm.trans c11q)
    refine aw_iload_n cx dX6_stands_14 rfl 2 rfl ?_
    refine aw_iconst (n := 3) cx dX6_stands_15 (by decide) ?_
    refine aw_callS (as := [aI what, aI 3]) (stk := []) cx dX6_stands_16 ml_X6_84 ms_X6_outside (by decide) rfl rfl (Nat.le_of_ble_eq_true rfl) (ct_X6_outside tl M _ _ ) (fun rr16q M_16q hp16q => ?_)
    obtain ⟨rfl, rfl⟩ := hp16q
    refine aw_top (stk := []) (fun z16q hz16q => ?_)
    refine aw_if_eq (tgt := 25) cx dX6_stands_19 (by decide) (fun c19q => ?_) (fun c19q => ?_)
    · have d19q := b2_e0.mp (hz16q.symm.trans c19q)
      refine aw_aload_n cx dX6_stands_25 rfl 0 rfl ?_
      refine aw_callV (as := []) (k := 0) (stk := []) cx dX6_stands_26 ml_X6_143 mv_X6_hearAsTold rfl (lb_0 tl) (by decide) rfl rfl (Nat.le_of_ble_eq_true rfl) (ct_X6_hearAsTold tl M  ) (fun rr26q M_26q hp26q => ?_)
      obtain ⟨rfl, hfrM_26, hrnM_26, hkkM_26, htlM_26, hctM_26⟩ := hp26q
      refine aw_eq (stk2 := []) ?_ rfl rfl rfl rfl
      have hF := fX_eq (F := fgT M) (F' := fgT M) FGe.rf hNN hrnM_26
      have e5q := congrFun (hfrM_26 5 (by decide)) 4
      have e15q := congrFun (hfrM_26 15 (by decide)) 2
      have e12q := congrFun (hfrM_26 0 (by decide)) 12
      have hFc := hF.1 i.toNat (show i.toNat < (M 5 4).toNat by omega)
      have hFg := hF.2.1 i.toNat (show i.toNat < (M 5 4).toNat by omega)
      refine aw_iload_n cx dX6_stands_29 rfl 2 rfl ?_
      refine aw_if_ne (tgt := 51) cx dX6_stands_30 (by decide) (fun c30q => ?_) (fun c30q => ?_)
      · refine aw_iload_n cx dX6_stands_51 rfl 2 rfl ?_
        refine aw_iconst (n := 1) cx dX6_stands_52 (by decide) ?_
        refine aw_icmp_ne (tgt := 68) cx dX6_stands_53 (by decide) (fun c53q => ?_) (fun c53q => ?_)
        · refine aw_aload_n cx dX6_stands_68 rfl 0 rfl ?_
          refine aw_getR (q := 22) cx dX6_stands_69 fl_X6_50 (lb_0 tl) rfl rfl ?_
          refine aw_iload_n cx dX6_stands_72 rfl 1 rfl ?_
          refine aw_callV (as := [aI i]) (k := 22) (stk := []) cx dX6_stands_73 ml_X6_153 mv_X0_firstAgainst rfl (lb_22 tl) (by decide) rfl rfl (Nat.le_of_ble_eq_true rfl) (ct_X0_firstAgainst tl M_26q 5 _ (Or.inl rfl) (htlM_26) (⟨by omega, by omega⟩)) (fun rr73q M_73q hp73q => ?_)
          obtain ⟨rfl, z73q, rfl, hfz73q⟩ := hp73q
          refine aw_eq (stk2 := [aI z73q]) ?_ rfl rfl rfl rfl
          refine aw_iret cx rt dX6_stands_76 ?_
          refine ⟨z73q, rfl, hfrM_26.sc, Or.inr ⟨by omega, by omega, Or.inr (Or.inr ⟨by omega, ?_⟩)⟩⟩
          refine FST_c (fun a ha => ?_) hfz73q
          have q := hF.1 a (show a < (M 5 4).toNat by omega)
          show (M_26q 23 a = 1 ∧ AP (M_26q 8) (M_26q 7) (M_26q 6) a i.toNat) ↔ (fC (-1) (fgT M) a = 1 ∧ AP (M 8) (M 7) (M 6) a i.toNat)
          rw [q, hfrM_26 8 (by decide), hfrM_26 7 (by decide), hfrM_26 6 (by decide)]
        · refine aw_aload_n cx dX6_stands_56 rfl 0 rfl ?_
          refine aw_getR (q := 22) cx dX6_stands_57 fl_X6_50 (lb_0 tl) rfl rfl ?_
          refine aw_getR (q := 24) cx dX6_stands_60 fl_X6_150 (lb_22 tl) rfl rfl ?_
          refine aw_iload_n cx dX6_stands_63 rfl 1 rfl ?_
          refine aw_iald cx dX6_stands_64 (lb_24 tl) (⟨by omega, by omega⟩) (fun z64q hz64q lo_z64q hi_z64q => ?_)
          refine aw_goto (tgt := 76) cx dX6_stands_65 (by decide) ?_
          refine aw_iret cx rt dX6_stands_76 ?_
          exact ⟨z64q, rfl, hfrM_26.sc, Or.inr ⟨by omega, by omega, Or.inr (Or.inl ⟨by omega, by omega⟩)⟩⟩
      · refine aw_aload_n cx dX6_stands_33 rfl 0 rfl ?_
        refine aw_getR (q := 22) cx dX6_stands_34 fl_X6_50 (lb_0 tl) rfl rfl ?_
        refine aw_getR (q := 23) cx dX6_stands_37 fl_X6_146 (lb_22 tl) rfl rfl ?_
        refine aw_iload_n cx dX6_stands_40 rfl 1 rfl ?_
        refine aw_zald cx dX6_stands_41 (lb_23 tl) (⟨by omega, by omega⟩) (fun z41q hz41q lo_z41q hi_z41q => ?_)
        refine aw_if_eq (tgt := 49) cx dX6_stands_42 (by decide) (fun c42q => ?_) (fun c42q => ?_)
        · refine aw_iconst (n := 0) cx dX6_stands_49 (by decide) ?_
          refine aw_iret cx rt dX6_stands_50 ?_
          exact ⟨_, rfl, hfrM_26.sc, Or.inr ⟨by omega, by omega, Or.inl ⟨by omega, by omega⟩⟩⟩
        · refine aw_iconst (n := 1) cx dX6_stands_45 (by decide) ?_
          refine aw_goto (tgt := 50) cx dX6_stands_46 (by decide) ?_
          refine aw_iret cx rt dX6_stands_50 ?_
          exact ⟨_, rfl, hfrM_26.sc, Or.inr ⟨by omega, by omega, Or.inl ⟨by omega, by omega⟩⟩⟩
    · have d19q := b2_y hz16q c19q
      refine aw_bipush (n := (-2)) cx dX6_stands_22 (by decide) ?_
      refine aw_iret cx rt dX6_stands_24 ?_
      exact ⟨-2, rfl, FR.rf, Or.inl ⟨by omega, rfl⟩⟩
set_option maxHeartbeats 1000000 in
set_option maxRecDepth 100000 in
theorem ct_X6_man (tl : List CD) (M : Mem) (night town what : Int) : Ct 5 mX6_man (LB ++ tl) [aR 0, aI night, aI town, aI what] M (fun r M1 => ∃ x, r = some (aI x) ∧ FR SC M M1 ∧ aMan (fgT M) night town what x) := by
  refine Ct.of (own := RX6) rfl (by decide +kernel) (Nat.le_of_ble_eq_true rfl) (fun X cx rt => ?_)
  refine aw_eq (loc2 := [(0, aR 0), (1, aI night), (2, aI town), (3, aI what)]) ?_ rfl rfl rfl rfl
  refine aw_rngL 1 rfl (fun rl_night rh_night => ?_)
  refine aw_rngL 2 rfl (fun rl_town rh_town => ?_)
  refine aw_rngL 3 rfl (fun rl_what rh_what => ?_)
  refine aw_ok (fun om => ?_)
  have hsz : 0 ≤ M 5 4 ∧ M 5 4 ≤ 12 := okF om (lb_5 tl) (j := 4) rfl (show (0 : Nat) ≠ 1 by decide)
  have hNN : ∀ j, 0 ≤ M 6 j := fun j => (okA om (lb_6 tl) j).1
  refine aw_iload_n cx dX6_man_0 rfl 1 rfl ?_
  refine aw_bipush (n := 24) cx dX6_man_1 (by decide) ?_
  refine aw_callS (as := [aI night, aI 24]) (stk := []) cx dX6_man_3 ml_X6_84 ms_X6_outside (by decide) rfl rfl (Nat.le_of_ble_eq_true rfl) (ct_X6_outside tl M _ _ ) (fun rr3q M_3q hp3q => ?_)
  obtain ⟨rfl, rfl⟩ := hp3q
  refine aw_top (stk := []) (fun z3q hz3q => ?_)
  refine aw_if_ne (tgt := 26) cx dX6_man_6 (by decide) (fun c6q => ?_) (fun c6q => ?_)
  · have d6q := b2_y hz3q c6q
    refine aw_bipush (n := (-2)) cx dX6_man_26 (by decide) ?_
    refine aw_iret cx rt dX6_man_28 ?_
    exact ⟨-2, rfl, FR.rf, Or.inl ⟨by omega, rfl⟩⟩
  · have d6q := b2_e0.mp (hz3q.symm.trans c6q)
    refine aw_iload_n cx dX6_man_9 rfl 2 rfl ?_
    refine aw_bipush (n := 8) cx dX6_man_10 (by decide) ?_
    refine aw_callS (as := [aI town, aI 8]) (stk := []) cx dX6_man_12 ml_X6_84 ms_X6_outside (by decide) rfl rfl (Nat.le_of_ble_eq_true rfl) (ct_X6_outside tl M _ _ ) (fun rr12q M_12q hp12q => ?_)
    obtain ⟨rfl, rfl⟩ := hp12q
    refine aw_top (stk := []) (fun z12q hz12q => ?_)
    refine aw_if_ne (tgt := 26) cx dX6_man_15 (by decide) (fun c15q => ?_) (fun c15q => ?_)
    · have d15q := b2_y hz12q c15q
      refine aw_bipush (n := (-2)) cx dX6_man_26 (by decide) ?_
      refine aw_iret cx rt dX6_man_28 ?_
      exact ⟨-2, rfl, FR.rf, Or.inl ⟨by omega, rfl⟩⟩
    · have d15q := b2_e0.mp (hz12q.symm.trans c15q)
      refine aw_iload_n cx dX6_man_18 rfl 3 rfl ?_
      refine aw_iconst (n := 2) cx dX6_man_19 (by decide) ?_
      refine aw_callS (as := [aI what, aI 2]) (stk := []) cx dX6_man_20 ml_X6_84 ms_X6_outside (by decide) rfl rfl (Nat.le_of_ble_eq_true rfl) (ct_X6_outside tl M _ _ ) (fun rr20q M_20q hp20q => ?_)
      obtain ⟨rfl, rfl⟩ := hp20q
      refine aw_top (stk := []) (fun z20q hz20q => ?_)
      refine aw_if_eq (tgt := 29) cx dX6_man_23 (by decide) (fun c23q => ?_) (fun c23q => ?_)
      · have d23q := b2_e0.mp (hz20q.symm.trans c23q)
        refine aw_aload_n cx dX6_man_29 rfl 0 rfl ?_
        refine aw_callV (as := []) (k := 0) (stk := []) cx dX6_man_30 ml_X6_143 mv_X6_hearAsTold rfl (lb_0 tl) (by decide) rfl rfl (Nat.le_of_ble_eq_true rfl) (ct_X6_hearAsTold tl M  ) (fun rr30q M_30q hp30q => ?_)
        obtain ⟨rfl, hfrM_30, hrnM_30, hkkM_30, htlM_30, hctM_30⟩ := hp30q
        refine aw_eq (stk2 := []) ?_ rfl rfl rfl rfl
        have hF := fX_eq (F := fgT M) (F' := fgT M) FGe.rf hNN hrnM_30
        have e5q := congrFun (hfrM_30 5 (by decide)) 4
        have e15q := congrFun (hfrM_30 15 (by decide)) 2
        have e12q := congrFun (hfrM_30 0 (by decide)) 12
        refine aw_aload_n cx dX6_man_33 rfl 0 rfl ?_
        refine aw_getR (q := 22) cx dX6_man_34 fl_X6_50 (lb_0 tl) rfl rfl ?_
        refine aw_iload_n cx dX6_man_37 rfl 1 rfl ?_
        refine aw_iload_n cx dX6_man_38 rfl 2 rfl ?_
        refine aw_callV (as := [aI night, aI town]) (k := 22) (stk := []) cx dX6_man_39 ml_X6_156 mv_X0_standing rfl (lb_22 tl) (by decide) rfl rfl (Nat.le_of_ble_eq_true rfl) (ct_X0_standing tl M_30q 5 _ _ (Or.inl rfl) (htlM_30) (by omega) (by omega)) (fun rr39q M_39q hp39q => ?_)
        obtain ⟨rfl, rfl⟩ := hp39q
        refine aw_top (stk := []) (fun z39q hz39q => ?_)
        have hs39 : z39q = fSTD (-1) (fgT M) night town.toNat := by rw [hz39q]; exact told_stdI hfrM_30 hrnM_30 hkkM_30 hNN (by omega)
        refine aw_istore (loc2 := [(4, aI z39q), (0, aR 0), (1, aI night), (2, aI town), (3, aI what)]) cx dX6_man_42 (by decide) rfl ?_
        refine aw_iload_n cx dX6_man_44 rfl 4 rfl ?_
        refine aw_if_ne (tgt := 57) cx dX6_man_45 (by decide) (fun c45q => ?_) (fun c45q => ?_)
        · refine aw_iload cx dX6_man_57 0 rfl ?_
          refine aw_callS (as := [aI z39q]) (stk := []) cx dX6_man_59 ml_X6_165 ms_X6_rankBy (by decide) rfl rfl (Nat.le_of_ble_eq_true rfl) (ct_X6_rankBy tl M_30q _ ) (fun rr59q M_59q hp59q => ?_)
          obtain ⟨rfl, rfl⟩ := hp59q
          refine aw_top (stk := []) (fun z59q hz59q => ?_)
          have hrz59q : 0 ≤ z59q ∧ z59q ≤ 3 := by rw [hz59q]; exact RNK_in _
          refine aw_iret cx rt dX6_man_62 ?_
          exact ⟨z59q, rfl, hfrM_30.sc, Or.inr ⟨by omega, by omega, by omega, by omega, Or.inr ⟨by omega, by rw [hz59q, hs39]⟩⟩⟩
        · refine aw_iconst (n := 0) cx dX6_man_48 (by decide) ?_
          refine aw_iload cx dX6_man_49 0 rfl ?_
          refine aw_mmax (stk := []) cx dX6_man_51 ml_X6_160 (by decide) (Nat.le_of_ble_eq_true rfl) (fun z51q hz51q => ?_)
          refine aw_goto (tgt := 62) cx dX6_man_54 (by decide) ?_
          refine aw_iret cx rt dX6_man_62 ?_
          exact ⟨z51q, rfl, hfrM_30.sc, Or.inr ⟨by omega, by omega, by omega, by omega, Or.inl ⟨by omega, by rw [hz51q, hs39]⟩⟩⟩
      · have d23q := b2_y hz20q c23q
        refine aw_bipush (n := (-2)) cx dX6_man_26 (by decide) ?_
        refine aw_iret cx rt dX6_man_28 ?_
        exact ⟨-2, rfl, FR.rf, Or.inl ⟨by omega, rfl⟩⟩
set_option maxHeartbeats 1000000 in
set_option maxRecDepth 100000 in
theorem ct_X6_belief (tl : List CD) (M : Mem) (i : Int) : Ct 5 mX6_belief (LB ++ tl) [aR 0, aI i] M (fun r M1 => ∃ x, r = some (aI x) ∧ FR [22, 23, 24, 25, 26] M M1 ∧ aBelief (M 15 2) (fgT M) (qgT M) i x) := by
  refine Ct.of (own := RX6) rfl (by decide +kernel) (Nat.le_of_ble_eq_true rfl) (fun X cx rt => ?_)
  refine aw_eq (loc2 := [(0, aR 0), (1, aI i)]) ?_ rfl rfl rfl rfl
  refine aw_rngL 1 rfl (fun rl_i rh_i => ?_)
  refine aw_ok (fun om => ?_)
  have hcz : 0 ≤ M 15 2 ∧ M 15 2 ≤ 8 := okF om (lb_15 tl) (j := 2) rfl (show (0 : Nat) ≠ 1 by decide)
  have hNN : ∀ j, 0 ≤ M 6 j := fun j => (okA om (lb_6 tl) j).1
  refine aw_iload_n cx dX6_belief_0 rfl 1 rfl ?_
  refine aw_aload_n cx dX6_belief_1 rfl 0 rfl ?_
  refine aw_getR (q := 15) cx dX6_belief_2 fl_X6_34 (lb_0 tl) rfl rfl ?_
  refine aw_getI cx dX6_belief_5 fl_X6_118 (lb_15 tl) rfl (fun z5q hz5q lo_z5q hi_z5q => ?_)
  refine aw_callS (as := [aI i, aI z5q]) (stk := []) cx dX6_belief_8 ml_X6_84 ms_X6_outside (by decide) rfl rfl (Nat.le_of_ble_eq_true rfl) (ct_X6_outside tl M _ _ ) (fun rr8q M_8q hp8q => ?_)
  obtain ⟨rfl, rfl⟩ := hp8q
  refine aw_top (stk := []) (fun z8q hz8q => ?_)
  refine aw_if_eq (tgt := 17) cx dX6_belief_11 (by decide) (fun c11q => ?_) (fun c11q => ?_)
  · have d11q := b2_e0.mp (hz8q.symm.trans c11q)
    refine aw_aload_n cx dX6_belief_17 rfl 0 rfl ?_
    refine aw_callV (as := []) (k := 0) (stk := []) cx dX6_belief_18 ml_X6_143 mv_X6_hearAsTold rfl (lb_0 tl) (by decide) rfl rfl (Nat.le_of_ble_eq_true rfl) (ct_X6_hearAsTold tl M  ) (fun rr18q M_18q hp18q => ?_)
    obtain ⟨rfl, hfrM_18, hrnM_18, hkkM_18, htlM_18, hctM_18⟩ := hp18q
    refine aw_eq (stk2 := []) ?_ rfl rfl rfl rfl
    have hF := fX_eq (F := fgT M) (F' := fgT M) FGe.rf hNN hrnM_18
    have e5q := congrFun (hfrM_18 5 (by decide)) 4
    have e15q := congrFun (hfrM_18 15 (by decide)) 2
    have e12q := congrFun (hfrM_18 0 (by decide)) 12
    refine aw_aload_n cx dX6_belief_21 rfl 0 rfl ?_
    refine aw_getR (q := 22) cx dX6_belief_22 fl_X6_50 (lb_0 tl) rfl rfl ?_
    refine aw_aload_n cx dX6_belief_25 rfl 0 rfl ?_
    refine aw_getR (q := 15) cx dX6_belief_26 fl_X6_34 (lb_0 tl) rfl rfl ?_
    refine aw_getR (q := 16) cx dX6_belief_29 fl_X6_119 (lb_15 tl) rfl rfl ?_
    refine aw_iload_n cx dX6_belief_32 rfl 1 rfl ?_
    refine aw_iald cx dX6_belief_33 (lb_16 tl) (⟨by omega, by omega⟩) (fun z33q hz33q lo_z33q hi_z33q => ?_)
    refine aw_aload_n cx dX6_belief_34 rfl 0 rfl ?_
    refine aw_getR (q := 15) cx dX6_belief_35 fl_X6_34 (lb_0 tl) rfl rfl ?_
    refine aw_getR (q := 17) cx dX6_belief_38 fl_X6_120 (lb_15 tl) rfl rfl ?_
    refine aw_iload_n cx dX6_belief_41 rfl 1 rfl ?_
    refine aw_iald cx dX6_belief_42 (lb_17 tl) (⟨by omega, by omega⟩) (fun z42q hz42q lo_z42q hi_z42q => ?_)
    refine aw_callV (as := [aI z33q, aI z42q]) (k := 22) (stk := []) cx dX6_belief_43 ml_X6_169 mv_X0_trust rfl (lb_22 tl) (by decide) rfl rfl (Nat.le_of_ble_eq_true rfl) (ct_X0_trust tl M_18q 5 _ _ (Or.inl rfl) (htlM_18) (by omega) (by omega)) (fun rr43q M_43q hp43q => ?_)
    obtain ⟨rfl, rfl⟩ := hp43q
    refine aw_top (stk := []) (fun z43q hz43q => ?_)
    have hs43 : z43q = fBLF (-1) (fgT M) (M 16 i.toNat) (M 17 i.toNat) := by rw [hz43q, hz33q, hz42q, hfrM_18 16 (by decide), hfrM_18 17 (by decide)]; exact told_blf hfrM_18 hrnM_18 hkkM_18 hNN
    refine aw_iret cx rt dX6_belief_46 ?_
    exact ⟨z43q, rfl, hfrM_18, Or.inr ⟨by omega, by omega, hs43⟩⟩
  · have d11q := b2_y hz8q c11q
    refine aw_ldc (x := (-2147483648)) cx dX6_belief_14 kc_X6_168 (by decide +kernel) ?_
    refine aw_iret cx rt dX6_belief_16 ?_
    exact ⟨_, rfl, FR.rf, Or.inl ⟨by omega, rfl⟩⟩
set_option maxHeartbeats 1000000 in
set_option maxRecDepth 100000 in
theorem ct_X6_cleared (tl : List CD) (M : Mem) (i what : Int) : Ct 5 mX6_cleared (LB ++ tl) [aR 0, aI i, aI what] M (fun r M1 => ∃ x, r = some (aI x) ∧ FR [22, 23, 24, 25, 26] M M1 ∧ aCleared (M 15 2) (fgT M) (qgT M) i what x) := by
  refine Ct.of (own := RX6) rfl (by decide +kernel) (Nat.le_of_ble_eq_true rfl) (fun X cx rt => ?_)
  refine aw_eq (loc2 := [(0, aR 0), (1, aI i), (2, aI what)]) ?_ rfl rfl rfl rfl
  refine aw_rngL 1 rfl (fun rl_i rh_i => ?_)
  refine aw_rngL 2 rfl (fun rl_what rh_what => ?_)
  refine aw_ok (fun om => ?_)
  have hcz : 0 ≤ M 15 2 ∧ M 15 2 ≤ 8 := okF om (lb_15 tl) (j := 2) rfl (show (0 : Nat) ≠ 1 by decide)
  have hNN : ∀ j, 0 ≤ M 6 j := fun j => (okA om (lb_6 tl) j).1
  refine aw_iload_n cx dX6_cleared_0 rfl 1 rfl ?_
  refine aw_aload_n cx dX6_cleared_1 rfl 0 rfl ?_
  refine aw_getR (q := 15) cx dX6_cleared_2 fl_X6_34 (lb_0 tl) rfl rfl ?_
  refine aw_getI cx dX6_cleared_5 fl_X6_118 (lb_15 tl) rfl (fun z5q hz5q lo_z5q hi_z5q => ?_)
  refine aw_callS (as := [aI i, aI z5q]) (stk := []) cx dX6_cleared_8 ml_X6_84 ms_X6_outside (by decide) rfl rfl (Nat.le_of_ble_eq_true rfl) (ct_X6_outside tl M _ _ ) (fun rr8q M_8q hp8q => ?_)
  obtain ⟨rfl, rfl⟩ := hp8q
  refine aw_top (stk := []) (fun z8q hz8q => ?_)
  refine aw_if_ne (tgt := 22) cx dX6_cleared_11 (by decide) (fun c11q => ?_) (fun c11q => ?_)
  · have d11q := b2_y hz8q c11q
    refine aw_bipush (n := (-2)) cx dX6_cleared_22 (by decide) ?_
    refine aw_iret cx rt dX6_cleared_24 ?_
    exact ⟨-2, rfl, FR.rf, Or.inl ⟨by omega, rfl⟩⟩
  · have d11q := b2_e0.mp (hz8q.symm.trans c11q)
    refine aw_iload_n cx dX6_cleared_14 rfl 2 rfl ?_
    refine aw_iconst (n := 2) cx dX6_cleared_15 (by decide) ?_
    refine aw_callS (as := [aI what, aI 2]) (stk := []) cx dX6_cleared_16 ml_X6_84 ms_X6_outside (by decide) rfl rfl (Nat.le_of_ble_eq_true rfl) (ct_X6_outside tl M _ _ ) (fun rr16q M_16q hp16q => ?_)
    obtain ⟨rfl, rfl⟩ := hp16q
    refine aw_top (stk := []) (fun z16q hz16q => ?_)
    refine aw_if_eq (tgt := 25) cx dX6_cleared_19 (by decide) (fun c19q => ?_) (fun c19q => ?_)
    · have d19q := b2_e0.mp (hz16q.symm.trans c19q)
      refine aw_aload_n cx dX6_cleared_25 rfl 0 rfl ?_
      refine aw_callV (as := []) (k := 0) (stk := []) cx dX6_cleared_26 ml_X6_143 mv_X6_hearAsTold rfl (lb_0 tl) (by decide) rfl rfl (Nat.le_of_ble_eq_true rfl) (ct_X6_hearAsTold tl M  ) (fun rr26q M_26q hp26q => ?_)
      obtain ⟨rfl, hfrM_26, hrnM_26, hkkM_26, htlM_26, hctM_26⟩ := hp26q
      refine aw_eq (stk2 := []) ?_ rfl rfl rfl rfl
      have hF := fX_eq (F := fgT M) (F' := fgT M) FGe.rf hNN hrnM_26
      have e5q := congrFun (hfrM_26 5 (by decide)) 4
      have e15q := congrFun (hfrM_26 15 (by decide)) 2
      have e12q := congrFun (hfrM_26 0 (by decide)) 12
      refine aw_aload_n cx dX6_cleared_29 rfl 0 rfl ?_
      refine aw_getR (q := 15) cx dX6_cleared_30 fl_X6_34 (lb_0 tl) rfl rfl ?_
      refine aw_getR (q := 16) cx dX6_cleared_33 fl_X6_119 (lb_15 tl) rfl rfl ?_
      refine aw_iload_n cx dX6_cleared_36 rfl 1 rfl ?_
      refine aw_iald cx dX6_cleared_37 (lb_16 tl) (⟨by omega, by omega⟩) (fun z37q hz37q lo_z37q hi_z37q => ?_)
      refine aw_istore_n (loc2 := [(3, aI z37q), (0, aR 0), (1, aI i), (2, aI what)]) cx dX6_cleared_38 rfl (by decide) rfl ?_
      refine aw_aload_n cx dX6_cleared_39 rfl 1 rfl ?_
      refine aw_getR (q := 15) cx dX6_cleared_40 fl_X6_34 (lb_0 tl) rfl rfl ?_
      refine aw_getR (q := 17) cx dX6_cleared_43 fl_X6_120 (lb_15 tl) rfl rfl ?_
      refine aw_iload_n cx dX6_cleared_46 rfl 2 rfl ?_
      refine aw_iald cx dX6_cleared_47 (lb_17 tl) (⟨by omega, by omega⟩) (fun z47q hz47q lo_z47q hi_z47q => ?_)
      refine aw_istore (loc2 := [(4, aI z47q), (3, aI z37q), (0, aR 0), (1, aI i), (2, aI what)]) cx dX6_cleared_48 (by decide) rfl ?_
      refine aw_iload_n cx dX6_cleared_50 rfl 4 rfl ?_
      refine aw_if_ne (tgt := 77) cx dX6_cleared_51 (by decide) (fun c51q => ?_) (fun c51q => ?_)
      · refine aw_aload_n cx dX6_cleared_77 rfl 2 rfl ?_
        refine aw_getR (q := 22) cx dX6_cleared_78 fl_X6_50 (lb_0 tl) rfl rfl ?_
        refine aw_iload_n cx dX6_cleared_81 rfl 1 rfl ?_
        refine aw_iload cx dX6_cleared_82 0 rfl ?_
        refine aw_callV (as := [aI z37q, aI z47q]) (k := 22) (stk := []) cx dX6_cleared_84 ml_X6_172 mv_X0_trustedTown rfl (lb_22 tl) (by decide) rfl rfl (Nat.le_of_ble_eq_true rfl) (ct_X0_trustedTown tl M_26q 5 _ _ (Or.inl rfl) (htlM_26) (by omega) (by omega)) (fun rr84q M_84q hp84q => ?_)
        obtain ⟨rfl, z84q, rfl, haxz84q⟩ := hp84q
        refine aw_eq (stk2 := [aI z84q]) ?_ rfl rfl rfl rfl
        refine aw_iret cx rt dX6_cleared_87 ?_
        obtain ⟨y84, hy84⟩ := haxz84q
        refine ⟨z84q, rfl, hfrM_26, Or.inr ⟨by omega, by omega, Or.inr ⟨by omega, y84, ?_⟩⟩⟩
        refine AMX_c (fun t ht => ?_) hy84
        rw [hz37q, hz47q, hfrM_26 16 (by decide), hfrM_26 17 (by decide)]
        unfold GX
        split
        · rename_i q; show (-1 : Int) = if (t : Int) = M 17 i.toNat then -1 else _; rw [if_pos q]
        · rename_i q; show _ = if (t : Int) = M 17 i.toNat then -1 else _; rw [if_neg q]; exact told_sup hfrM_26 hrnM_26 hkkM_26 hNN ht
      · refine aw_aload_n cx dX6_cleared_54 rfl 2 rfl ?_
        refine aw_getR (q := 22) cx dX6_cleared_55 fl_X6_50 (lb_0 tl) rfl rfl ?_
        refine aw_iload_n cx dX6_cleared_58 rfl 1 rfl ?_
        refine aw_iload cx dX6_cleared_59 0 rfl ?_
        refine aw_callV (as := [aI z37q, aI z47q]) (k := 22) (stk := []) cx dX6_cleared_61 ml_X6_169 mv_X0_trust rfl (lb_22 tl) (by decide) rfl rfl (Nat.le_of_ble_eq_true rfl) (ct_X0_trust tl M_26q 5 _ _ (Or.inl rfl) (htlM_26) (by omega) (by omega)) (fun rr61q M_61q hp61q => ?_)
        obtain ⟨rfl, rfl⟩ := hp61q
        refine aw_top (stk := []) (fun z61q hz61q => ?_)
        have hs61 : z61q = fBLF (-1) (fgT M) (M 16 i.toNat) (M 17 i.toNat) := by rw [hz61q, hz37q, hz47q, hfrM_26 16 (by decide), hfrM_26 17 (by decide)]; exact told_blf hfrM_26 hrnM_26 hkkM_26 hNN
        refine aw_aload_n cx dX6_cleared_64 rfl 2 rfl ?_
        refine aw_getI cx dX6_cleared_65 fl_X6_74 (lb_0 tl) rfl (fun z65q hz65q lo_z65q hi_z65q => ?_)
        refine aw_icmp_lt (tgt := 75) cx dX6_cleared_68 (by decide) (fun c68q => ?_) (fun c68q => ?_)
        · refine aw_iconst (n := 0) cx dX6_cleared_75 (by decide) ?_
          refine aw_iret cx rt dX6_cleared_76 ?_
          exact ⟨_, rfl, hfrM_26, Or.inr ⟨by omega, by omega, Or.inl ⟨by omega, b2_0 (show ¬ M 0 12 ≤ fBLF (-1) (fgT M) (M 16 i.toNat) (M 17 i.toNat) by omega)⟩⟩⟩
        · refine aw_iconst (n := 1) cx dX6_cleared_71 (by decide) ?_
          refine aw_goto (tgt := 76) cx dX6_cleared_72 (by decide) ?_
          refine aw_iret cx rt dX6_cleared_76 ?_
          exact ⟨_, rfl, hfrM_26, Or.inr ⟨by omega, by omega, Or.inl ⟨by omega, b2_1 (show M 0 12 ≤ fBLF (-1) (fgT M) (M 16 i.toNat) (M 17 i.toNat) by omega)⟩⟩⟩
    · have d19q := b2_y hz16q c19q
      refine aw_bipush (n := (-2)) cx dX6_cleared_22 (by decide) ?_
      refine aw_iret cx rt dX6_cleared_24 ?_
      exact ⟨-2, rfl, FR.rf, Or.inl ⟨by omega, rfl⟩⟩
