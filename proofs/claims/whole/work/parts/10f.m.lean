set_option maxHeartbeats 1000000 in
set_option maxRecDepth 100000 in
theorem ct_X7_type_0 (tl : List CD) (M : Mem) (b : Int) : Ct 2 mX7_type (LB ++ tl) [aR 32, aI 0, aI b] M (fun r M1 => ∃ x, r = some (aI x) ∧ (((b < 0 ∨ 255 < b) ∧ x = -2 ∧ M1 = M) ∨ (0 ≤ b ∧ b ≤ 255 ∧ M 33 0 = 59 ∧ x = -4 ∧ M1 = M) ∨ (0 ≤ b ∧ b ≤ 255 ∧ M 33 0 < 59 ∧ x = M 33 0 + 1 ∧ FR [33, 34] M M1 ∧ M1 33 = up1 (M 33) 0 (M 33 0 + 1) ∧ M1 34 = up1 (M 34) (M 33 0).toNat b))) := by
  refine Ct.of (own := RX7) rfl (by decide +kernel) (Nat.le_of_ble_eq_true rfl) (fun X cx rt => ?_)
  refine aw_eq (loc2 := [(0, aR 32), (1, aI 0), (2, aI b)]) ?_ rfl rfl rfl rfl
  refine aw_rngL 2 rfl (fun rl_b rh_b => ?_)
  refine aw_ok (fun om => ?_)
  have ht59 : 0 ≤ M 33 0 ∧ M 33 0 ≤ 59 := okA om (lb_33 tl) 0
  refine aw_iload_n cx dX7_type_0 rfl 1 rfl ?_
  refine aw_callS (as := [aI 0]) (stk := []) cx dX7_type_1 ml_X7_117 ms_X7_isTwo (by decide) rfl rfl (Nat.le_of_ble_eq_true rfl) (ct_X7_isTwo tl M _ ) (fun rr1q M_1q hp1q => ?_)
  obtain ⟨rfl, rfl⟩ := hp1q
  refine aw_top (stk := []) (fun z1q hz1q => ?_)
  refine aw_if_eq (tgt := 18) cx dX7_type_4 (by decide) (fun c4q => ?_) (fun c4q => ?_)
  · exfalso
    have d4q := b2_e0.mp (hz1q.symm.trans c4q)
    exact d4q ⟨by decide, by decide⟩
  · have d4q := b2_y hz1q c4q
    refine aw_iload_n cx dX7_type_7 rfl 2 rfl ?_
    refine aw_iconst (n := 0) cx dX7_type_8 (by decide) ?_
    refine aw_sipush (n := 255) cx dX7_type_9 (by decide) ?_
    refine aw_callS (as := [aI b, aI 0, aI 255]) (stk := []) cx dX7_type_12 ml_X7_113 ms_X7_in (by decide) rfl rfl (Nat.le_of_ble_eq_true rfl) (ct_X7_in tl M _ _ _ ) (fun rr12q M_12q hp12q => ?_)
    obtain ⟨rfl, rfl⟩ := hp12q
    refine aw_top (stk := []) (fun z12q hz12q => ?_)
    refine aw_if_ne (tgt := 21) cx dX7_type_15 (by decide) (fun c15q => ?_) (fun c15q => ?_)
    · have d15q := b2_y hz12q c15q
      refine aw_aload_n cx dX7_type_21 rfl 0 rfl ?_
      refine aw_getR (q := 33) cx dX7_type_22 fl_X7_7 (lb_32 tl) rfl rfl ?_
      refine aw_iload_n cx dX7_type_25 rfl 1 rfl ?_
      refine aw_iald cx dX7_type_26 (lb_33 tl) (⟨by omega, by omega⟩) (fun z26q hz26q lo_z26q hi_z26q => ?_)
      have q26q : z26q = M 33 0 := hz26q
      refine aw_iload_n cx dX7_type_27 rfl 1 rfl ?_
      refine aw_if_ne (tgt := 36) cx dX7_type_28 (by decide) (fun c28q => ?_) (fun c28q => ?_)
      · exact absurd c28q (by decide)
      · refine aw_bipush (n := 59) cx dX7_type_31 (by decide) ?_
        refine aw_goto (tgt := 38) cx dX7_type_33 (by decide) ?_
        refine aw_icmp_ne (tgt := 44) cx dX7_type_38 (by decide) (fun c38q => ?_) (fun c38q => ?_)
        · refine aw_aload_n cx dX7_type_44 rfl 0 rfl ?_
          refine aw_getR (q := 34) cx dX7_type_45 fl_X7_13 (lb_32 tl) rfl rfl ?_
          refine aw_bipush (n := 59) cx dX7_type_48 (by decide) ?_
          refine aw_iload_n cx dX7_type_50 rfl 1 rfl ?_
          refine aw_imul cx dX7_type_51 (by omega) (fun z51q hz51q => ?_)
          refine aw_aload_n cx dX7_type_52 rfl 0 rfl ?_
          refine aw_getR (q := 33) cx dX7_type_53 fl_X7_7 (lb_32 tl) rfl rfl ?_
          refine aw_iload_n cx dX7_type_56 rfl 1 rfl ?_
          refine aw_iald cx dX7_type_57 (lb_33 tl) (⟨by omega, by omega⟩) (fun z57q hz57q lo_z57q hi_z57q => ?_)
          have q57q : z57q = M 33 0 := hz57q
          refine aw_iadd cx dX7_type_58 (by omega) (fun z58q hz58q => ?_)
          refine aw_iload_n cx dX7_type_59 rfl 2 rfl ?_
          refine aw_iast cx dX7_type_60 (lb_34 tl) (⟨by omega, by omega⟩) (⟨by omega, by omega⟩) ?_
          obtain ⟨M_60q, hM_60q⟩ : ∃ qm, qm = up M (34) (Int.toNat (z58q)) (b) := ⟨_, rfl⟩
          rw [← hM_60q]
          refine aw_aload_n cx dX7_type_61 rfl 0 rfl ?_
          refine aw_getR (q := 33) cx dX7_type_62 fl_X7_7 (lb_32 tl) rfl rfl ?_
          refine aw_iload_n cx dX7_type_65 rfl 1 rfl ?_
          refine aw_dup2 cx dX7_type_66 rfl rfl ?_
          refine aw_iald cx dX7_type_67 (lb_33 tl) (⟨by omega, by omega⟩) (fun z67q hz67q lo_z67q hi_z67q => ?_)
          have q67q : z67q = M 33 0 := by have q : z67q = M_60q 33 0 := hz67q; rw [q, up_of hM_60q (by decide)]
          refine aw_iconst (n := 1) cx dX7_type_68 (by decide) ?_
          refine aw_iadd cx dX7_type_69 (by omega) (fun z69q hz69q => ?_)
          refine aw_iast cx dX7_type_70 (lb_33 tl) (⟨by omega, by omega⟩) (⟨by omega, by omega⟩) ?_
          obtain ⟨M_70q, hM_70q⟩ : ∃ qm, qm = up M_60q (33) (Int.toNat (0)) (z69q) := ⟨_, rfl⟩
          rw [← hM_70q]
          refine aw_aload_n cx dX7_type_71 rfl 0 rfl ?_
          refine aw_getR (q := 33) cx dX7_type_72 fl_X7_7 (lb_32 tl) rfl rfl ?_
          refine aw_iload_n cx dX7_type_75 rfl 1 rfl ?_
          refine aw_iald cx dX7_type_76 (lb_33 tl) (⟨by omega, by omega⟩) (fun z76q hz76q lo_z76q hi_z76q => ?_)
          have hlz76 : z76q = z69q := by rw [hz76q]; exact up_eq hM_70q
          have q76q : z76q = M 33 0 + 1 := by have q : z76q = M_70q 33 0 := hz76q; have q2q : M_70q 33 0 = z69q := up_eq hM_70q; omega
          refine aw_iret cx rt dX7_type_77 ?_
          have g33 : M_70q 33 = up1 (M 33) 0 (M 33 0 + 1) := by
            have q : M_70q 33 = up1 (M_60q 33) 0 z69q := up_rw hM_70q
            rw [q, up_of hM_60q (by decide), show z69q = M 33 0 + 1 by omega]
          have g34 : M_70q 34 = up1 (M 34) (M 33 0).toNat b := by
            rw [up_of hM_70q (by decide), up_rw hM_60q]
            congr 1
            omega
          exact ⟨_, rfl, Or.inr (Or.inr ⟨by omega, by omega, by omega, by omega, (FR.rf.put hM_60q (by decide)).put hM_70q (by decide), g33, g34⟩)⟩
        · refine aw_bipush (n := (-4)) cx dX7_type_41 (by decide) ?_
          refine aw_iret cx rt dX7_type_43 ?_
          exact ⟨_, rfl, Or.inr (Or.inl ⟨by omega, by omega, by omega, rfl, rfl⟩)⟩
    · have d15q := b2_e0.mp (hz12q.symm.trans c15q)
      refine aw_bipush (n := (-2)) cx dX7_type_18 (by decide) ?_
      refine aw_iret cx rt dX7_type_20 ?_
      exact ⟨_, rfl, Or.inl ⟨by omega, rfl, rfl⟩⟩
set_option maxHeartbeats 1000000 in
set_option maxRecDepth 100000 in
theorem ct_X7_wipe_0 (tl : List CD) (M : Mem)  : Ct 2 mX7_wipe (LB ++ tl) [aR 32, aI 0] M (fun r M1 => ∃ x, r = some (aI x) ∧ x = M 33 0 ∧ M1 = up M 33 0 0) := by
  refine Ct.of (own := RX7) rfl (by decide +kernel) (Nat.le_of_ble_eq_true rfl) (fun X cx rt => ?_)
  refine aw_eq (loc2 := [(0, aR 32), (1, aI 0)]) ?_ rfl rfl rfl rfl
  refine aw_iload_n cx dX7_wipe_0 rfl 1 rfl ?_
  refine aw_callS (as := [aI 0]) (stk := []) cx dX7_wipe_1 ml_X7_117 ms_X7_isTwo (by decide) rfl rfl (Nat.le_of_ble_eq_true rfl) (ct_X7_isTwo tl M _ ) (fun rr1q M_1q hp1q => ?_)
  obtain ⟨rfl, rfl⟩ := hp1q
  refine aw_top (stk := []) (fun z1q hz1q => ?_)
  refine aw_if_ne (tgt := 10) cx dX7_wipe_4 (by decide) (fun c4q => ?_) (fun c4q => ?_)
  · have d4q := b2_y hz1q c4q
    refine aw_aload_n cx dX7_wipe_10 rfl 0 rfl ?_
    refine aw_getR (q := 33) cx dX7_wipe_11 fl_X7_7 (lb_32 tl) rfl rfl ?_
    refine aw_iload_n cx dX7_wipe_14 rfl 1 rfl ?_
    refine aw_iald cx dX7_wipe_15 (lb_33 tl) (⟨by omega, by omega⟩) (fun z15q hz15q lo_z15q hi_z15q => ?_)
    refine aw_istore_n (loc2 := [(2, aI z15q), (0, aR 32), (1, aI 0)]) cx dX7_wipe_16 rfl (by decide) rfl ?_
    refine aw_aload_n cx dX7_wipe_17 rfl 1 rfl ?_
    refine aw_getR (q := 33) cx dX7_wipe_18 fl_X7_7 (lb_32 tl) rfl rfl ?_
    refine aw_iload_n cx dX7_wipe_21 rfl 2 rfl ?_
    refine aw_iconst (n := 0) cx dX7_wipe_22 (by decide) ?_
    refine aw_iast cx dX7_wipe_23 (lb_33 tl) (⟨by omega, by omega⟩) (⟨by omega, by omega⟩) ?_
    obtain ⟨M_23q, hM_23q⟩ : ∃ qm, qm = up M (33) (Int.toNat (0)) (0) := ⟨_, rfl⟩
    rw [← hM_23q]
    refine aw_iload_n cx dX7_wipe_24 rfl 0 rfl ?_
    refine aw_iret cx rt dX7_wipe_25 ?_
    exact ⟨_, rfl, hz15q, hM_23q⟩
  · exfalso
    have d4q := b2_e0.mp (hz1q.symm.trans c4q)
    exact d4q ⟨by decide, by decide⟩
set_option maxHeartbeats 1000000 in
set_option maxRecDepth 100000 in
theorem ct_X7_undo_0 (tl : List CD) (M : Mem)  : Ct 2 mX7_undo (LB ++ tl) [aR 32, aI 0] M (fun r M1 => ∃ x, r = some (aI x) ∧ ((M 33 0 = 0 ∧ x = -3 ∧ M1 = M) ∨ (0 < M 33 0 ∧ x = M 33 0 - 1 ∧ M1 = up M 33 0 (M 33 0 - 1)))) := by
  refine Ct.of (own := RX7) rfl (by decide +kernel) (Nat.le_of_ble_eq_true rfl) (fun X cx rt => ?_)
  refine aw_eq (loc2 := [(0, aR 32), (1, aI 0)]) ?_ rfl rfl rfl rfl
  refine aw_ok (fun om => ?_)
  have ht59 : 0 ≤ M 33 0 ∧ M 33 0 ≤ 59 := okA om (lb_33 tl) 0
  refine aw_iload_n cx dX7_undo_0 rfl 1 rfl ?_
  refine aw_callS (as := [aI 0]) (stk := []) cx dX7_undo_1 ml_X7_117 ms_X7_isTwo (by decide) rfl rfl (Nat.le_of_ble_eq_true rfl) (ct_X7_isTwo tl M _ ) (fun rr1q M_1q hp1q => ?_)
  obtain ⟨rfl, rfl⟩ := hp1q
  refine aw_top (stk := []) (fun z1q hz1q => ?_)
  refine aw_if_ne (tgt := 10) cx dX7_undo_4 (by decide) (fun c4q => ?_) (fun c4q => ?_)
  · have d4q := b2_y hz1q c4q
    refine aw_aload_n cx dX7_undo_10 rfl 0 rfl ?_
    refine aw_getR (q := 33) cx dX7_undo_11 fl_X7_7 (lb_32 tl) rfl rfl ?_
    refine aw_iload_n cx dX7_undo_14 rfl 1 rfl ?_
    refine aw_iald cx dX7_undo_15 (lb_33 tl) (⟨by omega, by omega⟩) (fun z15q hz15q lo_z15q hi_z15q => ?_)
    have q15q : z15q = M 33 0 := hz15q
    refine aw_if_ne (tgt := 22) cx dX7_undo_16 (by decide) (fun c16q => ?_) (fun c16q => ?_)
    · refine aw_aload_n cx dX7_undo_22 rfl 0 rfl ?_
      refine aw_getR (q := 33) cx dX7_undo_23 fl_X7_7 (lb_32 tl) rfl rfl ?_
      refine aw_iload_n cx dX7_undo_26 rfl 1 rfl ?_
      refine aw_dup2 cx dX7_undo_27 rfl rfl ?_
      refine aw_iald cx dX7_undo_28 (lb_33 tl) (⟨by omega, by omega⟩) (fun z28q hz28q lo_z28q hi_z28q => ?_)
      have q28q : z28q = M 33 0 := hz28q
      refine aw_iconst (n := 1) cx dX7_undo_29 (by decide) ?_
      refine aw_isub cx dX7_undo_30 (by omega) (fun z30q hz30q => ?_)
      refine aw_iast cx dX7_undo_31 (lb_33 tl) (⟨by omega, by omega⟩) (⟨by omega, by omega⟩) ?_
      obtain ⟨M_31q, hM_31q⟩ : ∃ qm, qm = up M (33) (Int.toNat (0)) (z30q) := ⟨_, rfl⟩
      rw [← hM_31q]
      refine aw_aload_n cx dX7_undo_32 rfl 0 rfl ?_
      refine aw_getR (q := 33) cx dX7_undo_33 fl_X7_7 (lb_32 tl) rfl rfl ?_
      refine aw_iload_n cx dX7_undo_36 rfl 1 rfl ?_
      refine aw_iald cx dX7_undo_37 (lb_33 tl) (⟨by omega, by omega⟩) (fun z37q hz37q lo_z37q hi_z37q => ?_)
      have hlz37 : z37q = z30q := by rw [hz37q]; exact up_eq hM_31q
      have q37q : z37q = z30q := by have q : z37q = M_31q 33 0 := hz37q; rw [q]; exact up_eq hM_31q
      refine aw_iret cx rt dX7_undo_38 ?_
      exact ⟨_, rfl, Or.inr ⟨by omega, by omega, by rw [show M 33 0 - 1 = z30q by omega]; exact hM_31q⟩⟩
    · refine aw_bipush (n := (-3)) cx dX7_undo_19 (by decide) ?_
      refine aw_iret cx rt dX7_undo_21 ?_
      exact ⟨_, rfl, Or.inl ⟨by omega, rfl, rfl⟩⟩
  · exfalso
    have d4q := b2_e0.mp (hz1q.symm.trans c4q)
    exact d4q ⟨by decide, by decide⟩
set_option maxHeartbeats 1000000 in
set_option maxRecDepth 100000 in
theorem ct_X7_type_1 (tl : List CD) (M : Mem) (b : Int) (h23q : M 33 1 ≤ 23) : Ct 2 mX7_type (LB ++ tl) [aR 32, aI 1, aI b] M (fun r M1 => ∃ x, r = some (aI x) ∧ (((b < 0 ∨ 255 < b) ∧ x = -2 ∧ M1 = M) ∨ (0 ≤ b ∧ b ≤ 255 ∧ M 33 1 = 23 ∧ x = -4 ∧ M1 = M) ∨ (0 ≤ b ∧ b ≤ 255 ∧ M 33 1 < 23 ∧ x = M 33 1 + 1 ∧ FR [33, 34] M M1 ∧ M1 33 = up1 (M 33) 1 (M 33 1 + 1) ∧ M1 34 = up1 (M 34) (59 + (M 33 1).toNat) b))) := by
  refine Ct.of (own := RX7) rfl (by decide +kernel) (Nat.le_of_ble_eq_true rfl) (fun X cx rt => ?_)
  refine aw_eq (loc2 := [(0, aR 32), (1, aI 1), (2, aI b)]) ?_ rfl rfl rfl rfl
  refine aw_rngL 2 rfl (fun rl_b rh_b => ?_)
  refine aw_ok (fun om => ?_)
  have ht59 : 0 ≤ M 33 1 ∧ M 33 1 ≤ 59 := okA om (lb_33 tl) 1
  refine aw_iload_n cx dX7_type_0 rfl 1 rfl ?_
  refine aw_callS (as := [aI 1]) (stk := []) cx dX7_type_1 ml_X7_117 ms_X7_isTwo (by decide) rfl rfl (Nat.le_of_ble_eq_true rfl) (ct_X7_isTwo tl M _ ) (fun rr1q M_1q hp1q => ?_)
  obtain ⟨rfl, rfl⟩ := hp1q
  refine aw_top (stk := []) (fun z1q hz1q => ?_)
  refine aw_if_eq (tgt := 18) cx dX7_type_4 (by decide) (fun c4q => ?_) (fun c4q => ?_)
  · exfalso
    have d4q := b2_e0.mp (hz1q.symm.trans c4q)
    exact d4q ⟨by decide, by decide⟩
  · have d4q := b2_y hz1q c4q
    refine aw_iload_n cx dX7_type_7 rfl 2 rfl ?_
    refine aw_iconst (n := 0) cx dX7_type_8 (by decide) ?_
    refine aw_sipush (n := 255) cx dX7_type_9 (by decide) ?_
    refine aw_callS (as := [aI b, aI 0, aI 255]) (stk := []) cx dX7_type_12 ml_X7_113 ms_X7_in (by decide) rfl rfl (Nat.le_of_ble_eq_true rfl) (ct_X7_in tl M _ _ _ ) (fun rr12q M_12q hp12q => ?_)
    obtain ⟨rfl, rfl⟩ := hp12q
    refine aw_top (stk := []) (fun z12q hz12q => ?_)
    refine aw_if_ne (tgt := 21) cx dX7_type_15 (by decide) (fun c15q => ?_) (fun c15q => ?_)
    · have d15q := b2_y hz12q c15q
      refine aw_aload_n cx dX7_type_21 rfl 0 rfl ?_
      refine aw_getR (q := 33) cx dX7_type_22 fl_X7_7 (lb_32 tl) rfl rfl ?_
      refine aw_iload_n cx dX7_type_25 rfl 1 rfl ?_
      refine aw_iald cx dX7_type_26 (lb_33 tl) (⟨by omega, by omega⟩) (fun z26q hz26q lo_z26q hi_z26q => ?_)
      have q26q : z26q = M 33 1 := hz26q
      refine aw_iload_n cx dX7_type_27 rfl 1 rfl ?_
      refine aw_if_ne (tgt := 36) cx dX7_type_28 (by decide) (fun c28q => ?_) (fun c28q => ?_)
      · refine aw_bipush (n := 23) cx dX7_type_36 (by decide) ?_
        refine aw_icmp_ne (tgt := 44) cx dX7_type_38 (by decide) (fun c38q => ?_) (fun c38q => ?_)
        · refine aw_aload_n cx dX7_type_44 rfl 0 rfl ?_
          refine aw_getR (q := 34) cx dX7_type_45 fl_X7_13 (lb_32 tl) rfl rfl ?_
          refine aw_bipush (n := 59) cx dX7_type_48 (by decide) ?_
          refine aw_iload_n cx dX7_type_50 rfl 1 rfl ?_
          refine aw_imul cx dX7_type_51 (by omega) (fun z51q hz51q => ?_)
          refine aw_aload_n cx dX7_type_52 rfl 0 rfl ?_
          refine aw_getR (q := 33) cx dX7_type_53 fl_X7_7 (lb_32 tl) rfl rfl ?_
          refine aw_iload_n cx dX7_type_56 rfl 1 rfl ?_
          refine aw_iald cx dX7_type_57 (lb_33 tl) (⟨by omega, by omega⟩) (fun z57q hz57q lo_z57q hi_z57q => ?_)
          have q57q : z57q = M 33 1 := hz57q
          refine aw_iadd cx dX7_type_58 (by omega) (fun z58q hz58q => ?_)
          refine aw_iload_n cx dX7_type_59 rfl 2 rfl ?_
          refine aw_iast cx dX7_type_60 (lb_34 tl) (⟨by omega, by omega⟩) (⟨by omega, by omega⟩) ?_
          obtain ⟨M_60q, hM_60q⟩ : ∃ qm, qm = up M (34) (Int.toNat (z58q)) (b) := ⟨_, rfl⟩
          rw [← hM_60q]
          refine aw_aload_n cx dX7_type_61 rfl 0 rfl ?_
          refine aw_getR (q := 33) cx dX7_type_62 fl_X7_7 (lb_32 tl) rfl rfl ?_
          refine aw_iload_n cx dX7_type_65 rfl 1 rfl ?_
          refine aw_dup2 cx dX7_type_66 rfl rfl ?_
          refine aw_iald cx dX7_type_67 (lb_33 tl) (⟨by omega, by omega⟩) (fun z67q hz67q lo_z67q hi_z67q => ?_)
          have q67q : z67q = M 33 1 := by have q : z67q = M_60q 33 1 := hz67q; rw [q, up_of hM_60q (by decide)]
          refine aw_iconst (n := 1) cx dX7_type_68 (by decide) ?_
          refine aw_iadd cx dX7_type_69 (by omega) (fun z69q hz69q => ?_)
          refine aw_iast cx dX7_type_70 (lb_33 tl) (⟨by omega, by omega⟩) (⟨by omega, by omega⟩) ?_
          obtain ⟨M_70q, hM_70q⟩ : ∃ qm, qm = up M_60q (33) (Int.toNat (1)) (z69q) := ⟨_, rfl⟩
          rw [← hM_70q]
          refine aw_aload_n cx dX7_type_71 rfl 0 rfl ?_
          refine aw_getR (q := 33) cx dX7_type_72 fl_X7_7 (lb_32 tl) rfl rfl ?_
          refine aw_iload_n cx dX7_type_75 rfl 1 rfl ?_
          refine aw_iald cx dX7_type_76 (lb_33 tl) (⟨by omega, by omega⟩) (fun z76q hz76q lo_z76q hi_z76q => ?_)
          have hlz76 : z76q = z69q := by rw [hz76q]; exact up_eq hM_70q
          have q76q : z76q = M 33 1 + 1 := by have q : z76q = M_70q 33 1 := hz76q; have q2q : M_70q 33 1 = z69q := up_eq hM_70q; omega
          refine aw_iret cx rt dX7_type_77 ?_
          have g33 : M_70q 33 = up1 (M 33) 1 (M 33 1 + 1) := by
            have q : M_70q 33 = up1 (M_60q 33) 1 z69q := up_rw hM_70q
            rw [q, up_of hM_60q (by decide), show z69q = M 33 1 + 1 by omega]
          have g34 : M_70q 34 = up1 (M 34) (59 + (M 33 1).toNat) b := by
            rw [up_of hM_70q (by decide), up_rw hM_60q]
            congr 1
            omega
          exact ⟨_, rfl, Or.inr (Or.inr ⟨by omega, by omega, by omega, by omega, (FR.rf.put hM_60q (by decide)).put hM_70q (by decide), g33, g34⟩)⟩
        · refine aw_bipush (n := (-4)) cx dX7_type_41 (by decide) ?_
          refine aw_iret cx rt dX7_type_43 ?_
          exact ⟨_, rfl, Or.inr (Or.inl ⟨by omega, by omega, by omega, rfl, rfl⟩)⟩
      · exact absurd c28q (by decide)
    · have d15q := b2_e0.mp (hz12q.symm.trans c15q)
      refine aw_bipush (n := (-2)) cx dX7_type_18 (by decide) ?_
      refine aw_iret cx rt dX7_type_20 ?_
      exact ⟨_, rfl, Or.inl ⟨by omega, rfl, rfl⟩⟩
set_option maxHeartbeats 1000000 in
set_option maxRecDepth 100000 in
theorem ct_X7_wipe_1 (tl : List CD) (M : Mem)  : Ct 2 mX7_wipe (LB ++ tl) [aR 32, aI 1] M (fun r M1 => ∃ x, r = some (aI x) ∧ x = M 33 1 ∧ M1 = up M 33 1 0) := by
  refine Ct.of (own := RX7) rfl (by decide +kernel) (Nat.le_of_ble_eq_true rfl) (fun X cx rt => ?_)
  refine aw_eq (loc2 := [(0, aR 32), (1, aI 1)]) ?_ rfl rfl rfl rfl
  refine aw_iload_n cx dX7_wipe_0 rfl 1 rfl ?_
  refine aw_callS (as := [aI 1]) (stk := []) cx dX7_wipe_1 ml_X7_117 ms_X7_isTwo (by decide) rfl rfl (Nat.le_of_ble_eq_true rfl) (ct_X7_isTwo tl M _ ) (fun rr1q M_1q hp1q => ?_)
  obtain ⟨rfl, rfl⟩ := hp1q
  refine aw_top (stk := []) (fun z1q hz1q => ?_)
  refine aw_if_ne (tgt := 10) cx dX7_wipe_4 (by decide) (fun c4q => ?_) (fun c4q => ?_)
  · have d4q := b2_y hz1q c4q
    refine aw_aload_n cx dX7_wipe_10 rfl 0 rfl ?_
    refine aw_getR (q := 33) cx dX7_wipe_11 fl_X7_7 (lb_32 tl) rfl rfl ?_
    refine aw_iload_n cx dX7_wipe_14 rfl 1 rfl ?_
    refine aw_iald cx dX7_wipe_15 (lb_33 tl) (⟨by omega, by omega⟩) (fun z15q hz15q lo_z15q hi_z15q => ?_)
    refine aw_istore_n (loc2 := [(2, aI z15q), (0, aR 32), (1, aI 1)]) cx dX7_wipe_16 rfl (by decide) rfl ?_
    refine aw_aload_n cx dX7_wipe_17 rfl 1 rfl ?_
    refine aw_getR (q := 33) cx dX7_wipe_18 fl_X7_7 (lb_32 tl) rfl rfl ?_
    refine aw_iload_n cx dX7_wipe_21 rfl 2 rfl ?_
    refine aw_iconst (n := 0) cx dX7_wipe_22 (by decide) ?_
    refine aw_iast cx dX7_wipe_23 (lb_33 tl) (⟨by omega, by omega⟩) (⟨by omega, by omega⟩) ?_
    obtain ⟨M_23q, hM_23q⟩ : ∃ qm, qm = up M (33) (Int.toNat (1)) (0) := ⟨_, rfl⟩
    rw [← hM_23q]
    refine aw_iload_n cx dX7_wipe_24 rfl 0 rfl ?_
    refine aw_iret cx rt dX7_wipe_25 ?_
    exact ⟨_, rfl, hz15q, hM_23q⟩
  · exfalso
    have d4q := b2_e0.mp (hz1q.symm.trans c4q)
    exact d4q ⟨by decide, by decide⟩
set_option maxHeartbeats 1000000 in
set_option maxRecDepth 100000 in
theorem ct_X7_undo_1 (tl : List CD) (M : Mem)  : Ct 2 mX7_undo (LB ++ tl) [aR 32, aI 1] M (fun r M1 => ∃ x, r = some (aI x) ∧ ((M 33 1 = 0 ∧ x = -3 ∧ M1 = M) ∨ (0 < M 33 1 ∧ x = M 33 1 - 1 ∧ M1 = up M 33 1 (M 33 1 - 1)))) := by
  refine Ct.of (own := RX7) rfl (by decide +kernel) (Nat.le_of_ble_eq_true rfl) (fun X cx rt => ?_)
  refine aw_eq (loc2 := [(0, aR 32), (1, aI 1)]) ?_ rfl rfl rfl rfl
  refine aw_ok (fun om => ?_)
  have ht59 : 0 ≤ M 33 1 ∧ M 33 1 ≤ 59 := okA om (lb_33 tl) 1
  refine aw_iload_n cx dX7_undo_0 rfl 1 rfl ?_
  refine aw_callS (as := [aI 1]) (stk := []) cx dX7_undo_1 ml_X7_117 ms_X7_isTwo (by decide) rfl rfl (Nat.le_of_ble_eq_true rfl) (ct_X7_isTwo tl M _ ) (fun rr1q M_1q hp1q => ?_)
  obtain ⟨rfl, rfl⟩ := hp1q
  refine aw_top (stk := []) (fun z1q hz1q => ?_)
  refine aw_if_ne (tgt := 10) cx dX7_undo_4 (by decide) (fun c4q => ?_) (fun c4q => ?_)
  · have d4q := b2_y hz1q c4q
    refine aw_aload_n cx dX7_undo_10 rfl 0 rfl ?_
    refine aw_getR (q := 33) cx dX7_undo_11 fl_X7_7 (lb_32 tl) rfl rfl ?_
    refine aw_iload_n cx dX7_undo_14 rfl 1 rfl ?_
    refine aw_iald cx dX7_undo_15 (lb_33 tl) (⟨by omega, by omega⟩) (fun z15q hz15q lo_z15q hi_z15q => ?_)
    have q15q : z15q = M 33 1 := hz15q
    refine aw_if_ne (tgt := 22) cx dX7_undo_16 (by decide) (fun c16q => ?_) (fun c16q => ?_)
    · refine aw_aload_n cx dX7_undo_22 rfl 0 rfl ?_
      refine aw_getR (q := 33) cx dX7_undo_23 fl_X7_7 (lb_32 tl) rfl rfl ?_
      refine aw_iload_n cx dX7_undo_26 rfl 1 rfl ?_
      refine aw_dup2 cx dX7_undo_27 rfl rfl ?_
      refine aw_iald cx dX7_undo_28 (lb_33 tl) (⟨by omega, by omega⟩) (fun z28q hz28q lo_z28q hi_z28q => ?_)
      have q28q : z28q = M 33 1 := hz28q
      refine aw_iconst (n := 1) cx dX7_undo_29 (by decide) ?_
      refine aw_isub cx dX7_undo_30 (by omega) (fun z30q hz30q => ?_)
      refine aw_iast cx dX7_undo_31 (lb_33 tl) (⟨by omega, by omega⟩) (⟨by omega, by omega⟩) ?_
      obtain ⟨M_31q, hM_31q⟩ : ∃ qm, qm = up M (33) (Int.toNat (1)) (z30q) := ⟨_, rfl⟩
      rw [← hM_31q]
      refine aw_aload_n cx dX7_undo_32 rfl 0 rfl ?_
      refine aw_getR (q := 33) cx dX7_undo_33 fl_X7_7 (lb_32 tl) rfl rfl ?_
      refine aw_iload_n cx dX7_undo_36 rfl 1 rfl ?_
      refine aw_iald cx dX7_undo_37 (lb_33 tl) (⟨by omega, by omega⟩) (fun z37q hz37q lo_z37q hi_z37q => ?_)
      have hlz37 : z37q = z30q := by rw [hz37q]; exact up_eq hM_31q
      have q37q : z37q = z30q := by have q : z37q = M_31q 33 1 := hz37q; rw [q]; exact up_eq hM_31q
      refine aw_iret cx rt dX7_undo_38 ?_
      exact ⟨_, rfl, Or.inr ⟨by omega, by omega, by rw [show M 33 1 - 1 = z30q by omega]; exact hM_31q⟩⟩
    · refine aw_bipush (n := (-3)) cx dX7_undo_19 (by decide) ?_
      refine aw_iret cx rt dX7_undo_21 ?_
      exact ⟨_, rfl, Or.inl ⟨by omega, rfl, rfl⟩⟩
  · exfalso
    have d4q := b2_e0.mp (hz1q.symm.trans c4q)
    exact d4q ⟨by decide, by decide⟩
set_option maxHeartbeats 1000000 in
set_option maxRecDepth 100000 in
theorem ct_X7_type_x (tl : List CD) (M : Mem) (text b : Int) (htx : text < 0 ∨ 1 < text) : Ct 2 mX7_type (LB ++ tl) [aR 32, aI text, aI b] M (fun r M1 => M = M1 ∧ r = some (aI (-2))) := by
  refine Ct.of (own := RX7) rfl (by decide +kernel) (Nat.le_of_ble_eq_true rfl) (fun X cx rt => ?_)
  refine aw_eq (loc2 := [(0, aR 32), (1, aI text), (2, aI b)]) ?_ rfl rfl rfl rfl
  refine aw_rngL 1 rfl (fun rl_text rh_text => ?_)
  refine aw_rngL 2 rfl (fun rl_b rh_b => ?_)
  refine aw_iload_n cx dX7_type_0 rfl 1 rfl ?_
  refine aw_callS (as := [aI text]) (stk := []) cx dX7_type_1 ml_X7_117 ms_X7_isTwo (by decide) rfl rfl (Nat.le_of_ble_eq_true rfl) (ct_X7_isTwo tl M _ ) (fun rr1q M_1q hp1q => ?_)
  obtain ⟨rfl, rfl⟩ := hp1q
  refine aw_top (stk := []) (fun z1q hz1q => ?_)
  refine aw_if_eq (tgt := 18) cx dX7_type_4 (by decide) (fun c4q => ?_) (fun c4q => ?_)
  · have d4q := b2_e0.mp (hz1q.symm.trans c4q)
    refine aw_bipush (n := (-2)) cx dX7_type_18 (by decide) ?_
    refine aw_iret cx rt dX7_type_20 ?_
    exact ⟨rfl, rfl⟩
  · exfalso
    have d4q := b2_y hz1q c4q
    omega
set_option maxHeartbeats 1000000 in
set_option maxRecDepth 100000 in
theorem ct_X7_wipe_x (tl : List CD) (M : Mem) (text : Int) (htx : text < 0 ∨ 1 < text) : Ct 2 mX7_wipe (LB ++ tl) [aR 32, aI text] M (fun r M1 => M = M1 ∧ r = some (aI (-2))) := by
  refine Ct.of (own := RX7) rfl (by decide +kernel) (Nat.le_of_ble_eq_true rfl) (fun X cx rt => ?_)
  refine aw_eq (loc2 := [(0, aR 32), (1, aI text)]) ?_ rfl rfl rfl rfl
  refine aw_rngL 1 rfl (fun rl_text rh_text => ?_)
  refine aw_iload_n cx dX7_wipe_0 rfl 1 rfl ?_
  refine aw_callS (as := [aI text]) (stk := []) cx dX7_wipe_1 ml_X7_117 ms_X7_isTwo (by decide) rfl rfl (Nat.le_of_ble_eq_true rfl) (ct_X7_isTwo tl M _ ) (fun rr1q M_1q hp1q => ?_)
  obtain ⟨rfl, rfl⟩ := hp1q
  refine aw_top (stk := []) (fun z1q hz1q => ?_)
  refine aw_if_ne (tgt := 10) cx dX7_wipe_4 (by decide) (fun c4q => ?_) (fun c4q => ?_)
  · exfalso
    have d4q := b2_y hz1q c4q
    omega
  · have d4q := b2_e0.mp (hz1q.symm.trans c4q)
    refine aw_bipush (n := (-2)) cx dX7_wipe_7 (by decide) ?_
    refine aw_iret cx rt dX7_wipe_9 ?_
    exact ⟨rfl, rfl⟩
set_option maxHeartbeats 1000000 in
set_option maxRecDepth 100000 in
theorem ct_X7_undo_x (tl : List CD) (M : Mem) (text : Int) (htx : text < 0 ∨ 1 < text) : Ct 2 mX7_undo (LB ++ tl) [aR 32, aI text] M (fun r M1 => M = M1 ∧ r = some (aI (-2))) := by
  refine Ct.of (own := RX7) rfl (by decide +kernel) (Nat.le_of_ble_eq_true rfl) (fun X cx rt => ?_)
  refine aw_eq (loc2 := [(0, aR 32), (1, aI text)]) ?_ rfl rfl rfl rfl
  refine aw_rngL 1 rfl (fun rl_text rh_text => ?_)
  refine aw_iload_n cx dX7_undo_0 rfl 1 rfl ?_
  refine aw_callS (as := [aI text]) (stk := []) cx dX7_undo_1 ml_X7_117 ms_X7_isTwo (by decide) rfl rfl (Nat.le_of_ble_eq_true rfl) (ct_X7_isTwo tl M _ ) (fun rr1q M_1q hp1q => ?_)
  obtain ⟨rfl, rfl⟩ := hp1q
  refine aw_top (stk := []) (fun z1q hz1q => ?_)
  refine aw_if_ne (tgt := 10) cx dX7_undo_4 (by decide) (fun c4q => ?_) (fun c4q => ?_)
  · exfalso
    have d4q := b2_y hz1q c4q
    omega
  · have d4q := b2_e0.mp (hz1q.symm.trans c4q)
    refine aw_bipush (n := (-2)) cx dX7_undo_7 (by decide) ?_
    refine aw_iret cx rt dX7_undo_9 ?_
    exact ⟨rfl, rfl⟩
set_option maxHeartbeats 1000000 in
set_option maxRecDepth 100000 in
theorem ct_X7_need (tl : List CD) (M : Mem) (v : Int) : Ct 1 mX7_need (LB ++ tl) [aR 32, aI v] M (fun r M1 => ∃ x, r = some (aI x) ∧ (((v < 1 ∨ 40 < v) ∧ x = -2 ∧ M1 = M) ∨ (1 ≤ v ∧ v ≤ 40 ∧ x = M 32 10 ∧ M1 = up M 32 10 v))) := by
  refine Ct.of (own := RX7) rfl (by decide +kernel) (Nat.le_of_ble_eq_true rfl) (fun X cx rt => ?_)
  refine aw_eq (loc2 := [(0, aR 32), (1, aI v)]) ?_ rfl rfl rfl rfl
  refine aw_rngL 1 rfl (fun rl_v rh_v => ?_)
  refine aw_iload_n cx dX7_need_0 rfl 1 rfl ?_
  refine aw_iconst (n := 1) cx dX7_need_1 (by decide) ?_
  refine aw_bipush (n := 40) cx dX7_need_2 (by decide) ?_
  refine aw_callS (as := [aI v, aI 1, aI 40]) (stk := []) cx dX7_need_4 ml_X7_113 ms_X7_in (by decide) rfl rfl (Nat.le_of_ble_eq_true rfl) (ct_X7_in tl M _ _ _ ) (fun rr4q M_4q hp4q => ?_)
  obtain ⟨rfl, rfl⟩ := hp4q
  refine aw_top (stk := []) (fun z4q hz4q => ?_)
  refine aw_if_ne (tgt := 13) cx dX7_need_7 (by decide) (fun c7q => ?_) (fun c7q => ?_)
  · have d7q := b2_y hz4q c7q
    refine aw_aload_n cx dX7_need_13 rfl 0 rfl ?_
    refine aw_getI cx dX7_need_14 fl_X7_107 (lb_32 tl) rfl (fun z14q hz14q lo_z14q hi_z14q => ?_)
    refine aw_istore_n (loc2 := [(2, aI z14q), (0, aR 32), (1, aI v)]) cx dX7_need_17 rfl (by decide) rfl ?_
    refine aw_aload_n cx dX7_need_18 rfl 1 rfl ?_
    refine aw_iload_n cx dX7_need_19 rfl 2 rfl ?_
    refine aw_putI cx dX7_need_20 fl_X7_107 kt_X7 rfl rfl (lb_32 tl) rfl (⟨by omega, by omega⟩) ?_
    obtain ⟨M_20q, hM_20q⟩ : ∃ qm, qm = up M 32 10 v := ⟨_, rfl⟩
    rw [← hM_20q]
    refine aw_iload_n cx dX7_need_23 rfl 0 rfl ?_
    refine aw_iret cx rt dX7_need_24 ?_
    exact ⟨_, rfl, Or.inr ⟨by omega, by omega, hz14q, hM_20q⟩⟩
  · have d7q := b2_e0.mp (hz4q.symm.trans c7q)
    refine aw_bipush (n := (-2)) cx dX7_need_10 (by decide) ?_
    refine aw_iret cx rt dX7_need_12 ?_
    exact ⟨_, rfl, Or.inl ⟨by omega, rfl, rfl⟩⟩
set_option maxHeartbeats 1000000 in
set_option maxRecDepth 100000 in
theorem ct_X7_event (tl : List CD) (M : Mem) (kind night number : Int) : Ct 2 mX7_event (LB ++ tl) [aR 32, aI kind, aI night, aI number] M (fun r M1 => ∃ x, r = some (aI x) ∧ (((kind < 0 ∨ 2 < kind ∨ night < 0 ∨ 23 < night ∨ number < 0 ∨ 9 < number) ∧ x = -2 ∧ M1 = M) ∨ ((0 ≤ kind ∧ kind ≤ 2 ∧ 0 ≤ night ∧ night ≤ 23 ∧ 0 ≤ number ∧ number ≤ 9) ∧ M 32 11 = 8 ∧ x = -4 ∧ M1 = M) ∨ ((0 ≤ kind ∧ kind ≤ 2 ∧ 0 ≤ night ∧ night ≤ 23 ∧ 0 ≤ number ∧ number ≤ 9) ∧ M 32 11 < 8 ∧ x = M 32 11 + 1 ∧ FX [41, 42, 43] [11] M M1 ∧ M1 32 11 = M 32 11 + 1 ∧ M1 41 = up1 (M 41) (M 32 11).toNat kind ∧ M1 42 = up1 (M 42) (M 32 11).toNat night ∧ M1 43 = up1 (M 43) (M 32 11).toNat number))) := by
  refine Ct.of (own := RX7) rfl (by decide +kernel) (Nat.le_of_ble_eq_true rfl) (fun X cx rt => ?_)
  refine aw_eq (loc2 := [(0, aR 32), (1, aI kind), (2, aI night), (3, aI number)]) ?_ rfl rfl rfl rfl
  refine aw_rngL 1 rfl (fun rl_kind rh_kind => ?_)
  refine aw_rngL 2 rfl (fun rl_night rh_night => ?_)
  refine aw_rngL 3 rfl (fun rl_number rh_number => ?_)
  refine aw_ok (fun om => ?_)
  have hse : 0 ≤ M 32 11 ∧ M 32 11 ≤ 8 := okF om (lb_32 tl) (j := 11) rfl (show (0 : Nat) ≠ 1 by decide)
  refine aw_iload_n cx dX7_event_0 rfl 1 rfl ?_
  refine aw_callS (as := [aI kind]) (stk := []) cx dX7_event_1 ml_X7_168 ms_X7_isThree (by decide) rfl rfl (Nat.le_of_ble_eq_true rfl) (ct_X7_isThree tl M _ ) (fun rr1q M_1q hp1q => ?_)
  obtain ⟨rfl, rfl⟩ := hp1q
  refine aw_top (stk := []) (fun z1q hz1q => ?_)
  refine aw_if_eq (tgt := 24) cx dX7_event_4 (by decide) (fun c4q => ?_) (fun c4q => ?_)
  · have d4q := b2_e0.mp (hz1q.symm.trans c4q)
    refine aw_bipush (n := (-2)) cx dX7_event_24 (by decide) ?_
    refine aw_iret cx rt dX7_event_26 ?_
    exact ⟨_, rfl, Or.inl ⟨by omega, rfl, rfl⟩⟩
  · have d4q := b2_y hz1q c4q
    refine aw_iload_n cx dX7_event_7 rfl 2 rfl ?_
    refine aw_callS (as := [aI night]) (stk := []) cx dX7_event_8 ml_X7_129 ms_X7_isNight (by decide) rfl rfl (Nat.le_of_ble_eq_true rfl) (ct_X7_isNight tl M _ ) (fun rr8q M_8q hp8q => ?_)
    obtain ⟨rfl, rfl⟩ := hp8q
    refine aw_top (stk := []) (fun z8q hz8q => ?_)
    refine aw_if_eq (tgt := 24) cx dX7_event_11 (by decide) (fun c11q => ?_) (fun c11q => ?_)
    · have d11q := b2_e0.mp (hz8q.symm.trans c11q)
      refine aw_bipush (n := (-2)) cx dX7_event_24 (by decide) ?_
      refine aw_iret cx rt dX7_event_26 ?_
      exact ⟨_, rfl, Or.inl ⟨by omega, rfl, rfl⟩⟩
    · have d11q := b2_y hz8q c11q
      refine aw_iload_n cx dX7_event_14 rfl 3 rfl ?_
      refine aw_iconst (n := 0) cx dX7_event_15 (by decide) ?_
      refine aw_bipush (n := 9) cx dX7_event_16 (by decide) ?_
      refine aw_callS (as := [aI number, aI 0, aI 9]) (stk := []) cx dX7_event_18 ml_X7_113 ms_X7_in (by decide) rfl rfl (Nat.le_of_ble_eq_true rfl) (ct_X7_in tl M _ _ _ ) (fun rr18q M_18q hp18q => ?_)
      obtain ⟨rfl, rfl⟩ := hp18q
      refine aw_top (stk := []) (fun z18q hz18q => ?_)
      refine aw_if_ne (tgt := 27) cx dX7_event_21 (by decide) (fun c21q => ?_) (fun c21q => ?_)
      · have d21q := b2_y hz18q c21q
        refine aw_aload_n cx dX7_event_27 rfl 0 rfl ?_
        refine aw_getI cx dX7_event_28 fl_X7_171 (lb_32 tl) rfl (fun z28q hz28q lo_z28q hi_z28q => ?_)
        refine aw_bipush (n := 8) cx dX7_event_31 (by decide) ?_
        refine aw_icmp_ne (tgt := 39) cx dX7_event_33 (by decide) (fun c33q => ?_) (fun c33q => ?_)
        · refine aw_aload_n cx dX7_event_39 rfl 0 rfl ?_
          refine aw_getR (q := 41) cx dX7_event_40 fl_X7_34 (lb_32 tl) rfl rfl ?_
          refine aw_aload_n cx dX7_event_43 rfl 0 rfl ?_
          refine aw_getI cx dX7_event_44 fl_X7_171 (lb_32 tl) rfl (fun z44q hz44q lo_z44q hi_z44q => ?_)
          refine aw_iload_n cx dX7_event_47 rfl 1 rfl ?_
          refine aw_iast cx dX7_event_48 (lb_41 tl) (⟨by omega, by omega⟩) (⟨by omega, by omega⟩) ?_
          obtain ⟨M_48q, hM_48q⟩ : ∃ qm, qm = up M (41) (Int.toNat (z44q)) (kind) := ⟨_, rfl⟩
          rw [← hM_48q]
          refine aw_aload_n cx dX7_event_49 rfl 0 rfl ?_
          refine aw_getR (q := 42) cx dX7_event_50 fl_X7_37 (lb_32 tl) rfl rfl ?_
          refine aw_aload_n cx dX7_event_53 rfl 0 rfl ?_
          refine aw_getI cx dX7_event_54 fl_X7_171 (lb_32 tl) rfl (fun z54q hz54q lo_z54q hi_z54q => ?_)
          have q54q : z54q = M 32 11 := by rw [hz54q, up_ne hM_48q (by omega)]
          refine aw_iload_n cx dX7_event_57 rfl 2 rfl ?_
          refine aw_iast cx dX7_event_58 (lb_42 tl) (⟨by omega, by omega⟩) (⟨by omega, by omega⟩) ?_
          obtain ⟨M_58q, hM_58q⟩ : ∃ qm, qm = up M_48q (42) (Int.toNat (z54q)) (night) := ⟨_, rfl⟩
          rw [← hM_58q]
          refine aw_aload_n cx dX7_event_59 rfl 0 rfl ?_
          refine aw_getR (q := 43) cx dX7_event_60 fl_X7_40 (lb_32 tl) rfl rfl ?_
          refine aw_aload_n cx dX7_event_63 rfl 0 rfl ?_
          refine aw_getI cx dX7_event_64 fl_X7_171 (lb_32 tl) rfl (fun z64q hz64q lo_z64q hi_z64q => ?_)
          have q64q : z64q = M 32 11 := by rw [hz64q, up_ne hM_58q (by omega), up_ne hM_48q (by omega)]
          refine aw_iload_n cx dX7_event_67 rfl 3 rfl ?_
          refine aw_iast cx dX7_event_68 (lb_43 tl) (⟨by omega, by omega⟩) (⟨by omega, by omega⟩) ?_
          obtain ⟨M_68q, hM_68q⟩ : ∃ qm, qm = up M_58q (43) (Int.toNat (z64q)) (number) := ⟨_, rfl⟩
          rw [← hM_68q]
          refine aw_aload_n cx dX7_event_69 rfl 0 rfl ?_
          refine aw_dup cx dX7_event_70 rfl ?_
          refine aw_getI cx dX7_event_71 fl_X7_171 (lb_32 tl) rfl (fun z71q hz71q lo_z71q hi_z71q => ?_)
          have q71q : z71q = M 32 11 := by rw [hz71q, up_ne hM_68q (by omega), up_ne hM_58q (by omega), up_ne hM_48q (by omega)]
          refine aw_iconst (n := 1) cx dX7_event_74 (by decide) ?_
          refine aw_iadd cx dX7_event_75 (by omega) (fun z75q hz75q => ?_)
          refine aw_putI cx dX7_event_76 fl_X7_171 kt_X7 rfl rfl (lb_32 tl) rfl (⟨by omega, by omega⟩) ?_
          obtain ⟨M_76q, hM_76q⟩ : ∃ qm, qm = up M_68q 32 11 z75q := ⟨_, rfl⟩
          rw [← hM_76q]
          refine aw_aload_n cx dX7_event_79 rfl 0 rfl ?_
          refine aw_getI cx dX7_event_80 fl_X7_171 (lb_32 tl) rfl (fun z80q hz80q lo_z80q hi_z80q => ?_)
          have q80q : z80q = z75q := by rw [hz80q]; exact up_eq hM_76q
          refine aw_iret cx rt dX7_event_83 ?_
          refine ⟨_, rfl, Or.inr (Or.inr ⟨by omega, by omega, by omega, (((FX.rf.pc hM_48q (by decide)).pc hM_58q (by decide)).pc hM_68q (by decide)).put hM_76q (by decide), by rw [up_eq hM_76q]; omega, ?_, ?_, ?_⟩)⟩
          · rw [up_of hM_76q (by decide), up_of hM_68q (by decide), up_of hM_58q (by decide), up_rw hM_48q, hz44q]
          · rw [up_of hM_76q (by decide), up_of hM_68q (by decide), up_rw hM_58q, up_of hM_48q (by decide), q54q]
          · rw [up_of hM_76q (by decide), up_rw hM_68q, up_of hM_58q (by decide), up_of hM_48q (by decide), q64q]
        · refine aw_bipush (n := (-4)) cx dX7_event_36 (by decide) ?_
          refine aw_iret cx rt dX7_event_38 ?_
          exact ⟨_, rfl, Or.inr (Or.inl ⟨by omega, by omega, rfl, rfl⟩)⟩
      · have d21q := b2_e0.mp (hz18q.symm.trans c21q)
        refine aw_bipush (n := (-2)) cx dX7_event_24 (by decide) ?_
        refine aw_iret cx rt dX7_event_26 ?_
        exact ⟨_, rfl, Or.inl ⟨by omega, rfl, rfl⟩⟩
set_option maxHeartbeats 1000000 in
set_option maxRecDepth 100000 in
theorem ct_X7_back (tl : List CD) (M : Mem)  : Ct 0 mX7_back (LB ++ tl) [aR 32] M (fun r M1 => ∃ x, r = some (aI x) ∧ ((M 32 11 = 0 ∧ x = -3 ∧ M1 = M) ∨ (0 < M 32 11 ∧ x = M 32 11 - 1 ∧ M1 = up M 32 11 (M 32 11 - 1)))) := by
  refine Ct.of (own := RX7) rfl (by decide +kernel) (Nat.le_of_ble_eq_true rfl) (fun X cx rt => ?_)
  refine aw_eq (loc2 := [(0, aR 32)]) ?_ rfl rfl rfl rfl
  refine aw_aload_n cx dX7_back_0 rfl 0 rfl ?_
  refine aw_getI cx dX7_back_1 fl_X7_171 (lb_32 tl) rfl (fun z1q hz1q lo_z1q hi_z1q => ?_)
  refine aw_if_ne (tgt := 10) cx dX7_back_4 (by decide) (fun c4q => ?_) (fun c4q => ?_)
  · refine aw_aload_n cx dX7_back_10 rfl 0 rfl ?_
    refine aw_dup cx dX7_back_11 rfl ?_
    refine aw_getI cx dX7_back_12 fl_X7_171 (lb_32 tl) rfl (fun z12q hz12q lo_z12q hi_z12q => ?_)
    refine aw_iconst (n := 1) cx dX7_back_15 (by decide) ?_
    refine aw_isub cx dX7_back_16 (by omega) (fun z16q hz16q => ?_)
    refine aw_putI cx dX7_back_17 fl_X7_171 kt_X7 rfl rfl (lb_32 tl) rfl (⟨by omega, by omega⟩) ?_
    obtain ⟨M_17q, hM_17q⟩ : ∃ qm, qm = up M 32 11 z16q := ⟨_, rfl⟩
    rw [← hM_17q]
    refine aw_aload_n cx dX7_back_20 rfl 0 rfl ?_
    refine aw_getI cx dX7_back_21 fl_X7_171 (lb_32 tl) rfl (fun z21q hz21q lo_z21q hi_z21q => ?_)
    refine aw_iret cx rt dX7_back_24 ?_
    have q21q : z21q = z16q := by rw [hz21q]; exact up_eq hM_17q
    exact ⟨_, rfl, Or.inr ⟨by omega, by omega, by rw [show M 32 11 - 1 = z16q by omega]; exact hM_17q⟩⟩
  · refine aw_bipush (n := (-3)) cx dX7_back_7 (by decide) ?_
    refine aw_iret cx rt dX7_back_9 ?_
    exact ⟨_, rfl, Or.inl ⟨by omega, rfl, rfl⟩⟩
set_option maxHeartbeats 1000000 in
set_option maxRecDepth 100000 in
theorem ct_X7_seen (tl : List CD) (M : Mem) (c is : Int) : Ct 2 mX7_seen (LB ++ tl) [aR 32, aI c, aI is] M (fun r M1 => ∃ x, r = some (aI x) ∧ (((c < 0 ∨ 7 < c ∨ is < 0 ∨ 1 < is) ∧ x = -2 ∧ M1 = M) ∨ ((0 ≤ c ∧ c ≤ 7 ∧ 0 ≤ is ∧ is ≤ 1) ∧ M 32 34 = 8 ∧ x = -4 ∧ M1 = M) ∨ ((0 ≤ c ∧ c ≤ 7 ∧ 0 ≤ is ∧ is ≤ 1) ∧ M 32 34 < 8 ∧ x = M 32 34 + 1 ∧ FX [57, 58] [34] M M1 ∧ M1 32 34 = M 32 34 + 1 ∧ M1 57 = up1 (M 57) (M 32 34).toNat c ∧ M1 58 = up1 (M 58) (M 32 34).toNat is))) := by
  refine Ct.of (own := RX7) rfl (by decide +kernel) (Nat.le_of_ble_eq_true rfl) (fun X cx rt => ?_)
  refine aw_eq (loc2 := [(0, aR 32), (1, aI c), (2, aI is)]) ?_ rfl rfl rfl rfl
  refine aw_rngL 1 rfl (fun rl_c rh_c => ?_)
  refine aw_rngL 2 rfl (fun rl_is rh_is => ?_)
  refine aw_ok (fun om => ?_)
  have hrs : 0 ≤ M 32 34 ∧ M 32 34 ≤ 8 := okF om (lb_32 tl) (j := 34) rfl (show (0 : Nat) ≠ 1 by decide)
  refine aw_iload_n cx dX7_seen_0 rfl 1 rfl ?_
  refine aw_iconst (n := 0) cx dX7_seen_1 (by decide) ?_
  refine aw_bipush (n := 7) cx dX7_seen_2 (by decide) ?_
  refine aw_callS (as := [aI c, aI 0, aI 7]) (stk := []) cx dX7_seen_4 ml_X7_113 ms_X7_in (by decide) rfl rfl (Nat.le_of_ble_eq_true rfl) (ct_X7_in tl M _ _ _ ) (fun rr4q M_4q hp4q => ?_)
  obtain ⟨rfl, rfl⟩ := hp4q
  refine aw_top (stk := []) (fun z4q hz4q => ?_)
  refine aw_if_eq (tgt := 17) cx dX7_seen_7 (by decide) (fun c7q => ?_) (fun c7q => ?_)
  · have d7q := b2_e0.mp (hz4q.symm.trans c7q)
    refine aw_bipush (n := (-2)) cx dX7_seen_17 (by decide) ?_
    refine aw_iret cx rt dX7_seen_19 ?_
    exact ⟨_, rfl, Or.inl ⟨by omega, rfl, rfl⟩⟩
  · have d7q := b2_y hz4q c7q
    refine aw_iload_n cx dX7_seen_10 rfl 2 rfl ?_
    refine aw_callS (as := [aI is]) (stk := []) cx dX7_seen_11 ml_X7_117 ms_X7_isTwo (by decide) rfl rfl (Nat.le_of_ble_eq_true rfl) (ct_X7_isTwo tl M _ ) (fun rr11q M_11q hp11q => ?_)
    obtain ⟨rfl, rfl⟩ := hp11q
    refine aw_top (stk := []) (fun z11q hz11q => ?_)
    refine aw_if_ne (tgt := 20) cx dX7_seen_14 (by decide) (fun c14q => ?_) (fun c14q => ?_)
    · have d14q := b2_y hz11q c14q
      refine aw_aload_n cx dX7_seen_20 rfl 0 rfl ?_
      refine aw_getI cx dX7_seen_21 fl_X7_314 (lb_32 tl) rfl (fun z21q hz21q lo_z21q hi_z21q => ?_)
      refine aw_bipush (n := 8) cx dX7_seen_24 (by decide) ?_
      refine aw_icmp_ne (tgt := 32) cx dX7_seen_26 (by decide) (fun c26q => ?_) (fun c26q => ?_)
      · refine aw_aload_n cx dX7_seen_32 rfl 0 rfl ?_
        refine aw_getR (q := 57) cx dX7_seen_33 fl_X7_82 (lb_32 tl) rfl rfl ?_
        refine aw_aload_n cx dX7_seen_36 rfl 0 rfl ?_
        refine aw_getI cx dX7_seen_37 fl_X7_314 (lb_32 tl) rfl (fun z37q hz37q lo_z37q hi_z37q => ?_)
        refine aw_iload_n cx dX7_seen_40 rfl 1 rfl ?_
        refine aw_iast cx dX7_seen_41 (lb_57 tl) (⟨by omega, by omega⟩) (⟨by omega, by omega⟩) ?_
        obtain ⟨M_41q, hM_41q⟩ : ∃ qm, qm = up M (57) (Int.toNat (z37q)) (c) := ⟨_, rfl⟩
        rw [← hM_41q]
        refine aw_aload_n cx dX7_seen_42 rfl 0 rfl ?_
        refine aw_getR (q := 58) cx dX7_seen_43 fl_X7_85 (lb_32 tl) rfl rfl ?_
        refine aw_aload_n cx dX7_seen_46 rfl 0 rfl ?_
        refine aw_getI cx dX7_seen_47 fl_X7_314 (lb_32 tl) rfl (fun z47q hz47q lo_z47q hi_z47q => ?_)
        have q47q : z47q = M 32 34 := by rw [hz47q, up_ne hM_41q (by omega)]
        refine aw_iload_n cx dX7_seen_50 rfl 2 rfl ?_
        refine aw_iast cx dX7_seen_51 (lb_58 tl) (⟨by omega, by omega⟩) (⟨by omega, by omega⟩) ?_
        obtain ⟨M_51q, hM_51q⟩ : ∃ qm, qm = up M_41q (58) (Int.toNat (z47q)) (is) := ⟨_, rfl⟩
        rw [← hM_51q]
        refine aw_aload_n cx dX7_seen_52 rfl 0 rfl ?_
        refine aw_dup cx dX7_seen_53 rfl ?_
        refine aw_getI cx dX7_seen_54 fl_X7_314 (lb_32 tl) rfl (fun z54q hz54q lo_z54q hi_z54q => ?_)
        have q54q : z54q = M 32 34 := by rw [hz54q, up_ne hM_51q (by omega), up_ne hM_41q (by omega)]
        refine aw_iconst (n := 1) cx dX7_seen_57 (by decide) ?_
        refine aw_iadd cx dX7_seen_58 (by omega) (fun z58q hz58q => ?_)
        refine aw_putI cx dX7_seen_59 fl_X7_314 kt_X7 rfl rfl (lb_32 tl) rfl (⟨by omega, by omega⟩) ?_
        obtain ⟨M_59q, hM_59q⟩ : ∃ qm, qm = up M_51q 32 34 z58q := ⟨_, rfl⟩
        rw [← hM_59q]
        refine aw_aload_n cx dX7_seen_62 rfl 0 rfl ?_
        refine aw_getI cx dX7_seen_63 fl_X7_314 (lb_32 tl) rfl (fun z63q hz63q lo_z63q hi_z63q => ?_)
        have q63q : z63q = z58q := by rw [hz63q]; exact up_eq hM_59q
        refine aw_iret cx rt dX7_seen_66 ?_
        refine ⟨_, rfl, Or.inr (Or.inr ⟨by omega, by omega, by omega, ((FX.rf.pc hM_41q (by decide)).pc hM_51q (by decide)).put hM_59q (by decide), by rw [up_eq hM_59q]; omega, ?_, ?_⟩)⟩
        · rw [up_of hM_59q (by decide), up_of hM_51q (by decide), up_rw hM_41q, hz37q]
        · rw [up_of hM_59q (by decide), up_rw hM_51q, up_of hM_41q (by decide), q47q]
      · refine aw_bipush (n := (-4)) cx dX7_seen_29 (by decide) ?_
        refine aw_iret cx rt dX7_seen_31 ?_
        exact ⟨_, rfl, Or.inr (Or.inl ⟨by omega, by omega, rfl, rfl⟩)⟩
    · have d14q := b2_e0.mp (hz11q.symm.trans c14q)
      refine aw_bipush (n := (-2)) cx dX7_seen_17 (by decide) ?_
      refine aw_iret cx rt dX7_seen_19 ?_
      exact ⟨_, rfl, Or.inl ⟨by omega, rfl, rfl⟩⟩
set_option maxHeartbeats 1000000 in
set_option maxRecDepth 100000 in
theorem ct_X7_forget (tl : List CD) (M : Mem)  : Ct 0 mX7_forget (LB ++ tl) [aR 32] M (fun r M1 => ∃ x, r = some (aI x) ∧ x = M 32 34 ∧ M1 = up M 32 34 0) := by
  refine Ct.of (own := RX7) rfl (by decide +kernel) (Nat.le_of_ble_eq_true rfl) (fun X cx rt => ?_)
  refine aw_eq (loc2 := [(0, aR 32)]) ?_ rfl rfl rfl rfl
  refine aw_aload_n cx dX7_forget_0 rfl 0 rfl ?_
  refine aw_getI cx dX7_forget_1 fl_X7_314 (lb_32 tl) rfl (fun z1q hz1q lo_z1q hi_z1q => ?_)
  refine aw_istore_n (loc2 := [(1, aI z1q), (0, aR 32)]) cx dX7_forget_4 rfl (by decide) rfl ?_
  refine aw_aload_n cx dX7_forget_5 rfl 1 rfl ?_
  refine aw_iconst (n := 0) cx dX7_forget_6 (by decide) ?_
  refine aw_putI cx dX7_forget_7 fl_X7_314 kt_X7 rfl rfl (lb_32 tl) rfl (⟨by omega, by omega⟩) ?_
  obtain ⟨M_7q, hM_7q⟩ : ∃ qm, qm = up M 32 34 0 := ⟨_, rfl⟩
  rw [← hM_7q]
  refine aw_iload_n cx dX7_forget_10 rfl 0 rfl ?_
  refine aw_iret cx rt dX7_forget_11 ?_
  exact ⟨_, rfl, hz1q, hM_7q⟩
set_option maxHeartbeats 1000000 in
set_option maxRecDepth 100000 in
theorem ct_X7_lose (tl : List CD) (M : Mem) (s : Int) : Ct 2 mX7_lose (LB ++ tl) [aR 32, aI s] M (fun r M1 => ∃ x, r = some (aI x) ∧ (((s < 0 ∨ 3 < s) ∧ x = -2 ∧ M1 = M) ∨ ((0 ≤ s ∧ s ≤ 3) ∧ M 60 s.toNat = 0 ∧ x = -11 ∧ M1 = up M 32 43 1) ∨ ((0 ≤ s ∧ s ≤ 3) ∧ M 60 s.toNat = 1 ∧ x = M 62 s.toNat ∧ M1 = up M 60 s.toNat 0))) := by
  refine Ct.of (own := RX7) rfl (by decide +kernel) (Nat.le_of_ble_eq_true rfl) (fun X cx rt => ?_)
  refine aw_eq (loc2 := [(0, aR 32), (1, aI s)]) ?_ rfl rfl rfl rfl
  refine aw_rngL 1 rfl (fun rl_s rh_s => ?_)
  refine aw_iload_n cx dX7_lose_0 rfl 1 rfl ?_
  refine aw_callS (as := [aI s]) (stk := []) cx dX7_lose_1 ml_X7_174 ms_X7_isSheet (by decide) rfl rfl (Nat.le_of_ble_eq_true rfl) (ct_X7_isSheet tl M _ ) (fun rr1q M_1q hp1q => ?_)
  obtain ⟨rfl, rfl⟩ := hp1q
  refine aw_top (stk := []) (fun z1q hz1q => ?_)
  refine aw_if_ne (tgt := 10) cx dX7_lose_4 (by decide) (fun c4q => ?_) (fun c4q => ?_)
  · have d4q := b2_y hz1q c4q
    refine aw_aload_n cx dX7_lose_10 rfl 0 rfl ?_
    refine aw_getR (q := 60) cx dX7_lose_11 fl_X7_91 (lb_32 tl) rfl rfl ?_
    refine aw_iload_n cx dX7_lose_14 rfl 1 rfl ?_
    refine aw_zald cx dX7_lose_15 (lb_60 tl) (⟨by omega, by omega⟩) (fun z15q hz15q lo_z15q hi_z15q => ?_)
    refine aw_if_ne (tgt := 25) cx dX7_lose_16 (by decide) (fun c16q => ?_) (fun c16q => ?_)
    · refine aw_aload_n cx dX7_lose_25 rfl 0 rfl ?_
      refine aw_getR (q := 60) cx dX7_lose_26 fl_X7_91 (lb_32 tl) rfl rfl ?_
      refine aw_iload_n cx dX7_lose_29 rfl 1 rfl ?_
      refine aw_iconst (n := 0) cx dX7_lose_30 (by decide) ?_
      refine aw_zast cx dX7_lose_31 (lb_60 tl) (⟨by omega, by omega⟩) (⟨by omega, by omega⟩) (by omega) ?_
      obtain ⟨M_31q, hM_31q⟩ : ∃ qm, qm = up M (60) (Int.toNat (s)) (0) := ⟨_, rfl⟩
      rw [← hM_31q]
      refine aw_aload_n cx dX7_lose_32 rfl 0 rfl ?_
      refine aw_getR (q := 62) cx dX7_lose_33 fl_X7_98 (lb_32 tl) rfl rfl ?_
      refine aw_iload_n cx dX7_lose_36 rfl 1 rfl ?_
      refine aw_iald cx dX7_lose_37 (lb_62 tl) (⟨by omega, by omega⟩) (fun z37q hz37q lo_z37q hi_z37q => ?_)
      refine aw_iret cx rt dX7_lose_38 ?_
      exact ⟨_, rfl, Or.inr (Or.inr ⟨by omega, by omega, by rw [hz37q, up_of hM_31q (by decide)], hM_31q⟩)⟩
    · refine aw_aload_n cx dX7_lose_19 rfl 0 rfl ?_
      refine aw_iconst (n := 1) cx dX7_lose_20 (by decide) ?_
      refine aw_callV (as := [aI 1]) (k := 32) (stk := []) cx dX7_lose_21 ml_X7_177 mv_X7_meets rfl (lb_32 tl) (by decide) rfl rfl (Nat.le_of_ble_eq_true rfl) (ct_X7_meets tl M _ (by omega)) (fun rr21q M_21q hp21q => ?_)
      obtain ⟨z21q, rfl, hMuM_21, hxM_21⟩ := hp21q
      refine aw_eq (stk2 := [aI z21q]) ?_ rfl rfl rfl rfl
      refine aw_iret cx rt dX7_lose_24 ?_
      exact ⟨_, rfl, Or.inr (Or.inl ⟨by omega, by omega, by omega, hMuM_21⟩)⟩
  · have d4q := b2_e0.mp (hz1q.symm.trans c4q)
    refine aw_bipush (n := (-2)) cx dX7_lose_7 (by decide) ?_
    refine aw_iret cx rt dX7_lose_9 ?_
    exact ⟨_, rfl, Or.inl ⟨by omega, rfl, rfl⟩⟩
set_option maxHeartbeats 1000000 in
set_option maxRecDepth 100000 in
theorem ct_X7_lacks (tl : List CD) (M : Mem) (s f i : Int) (hs : 0 ≤ s ∧ s ≤ 3) : Ct 1 mX7_lacks (LB ++ tl) [aR 32, aI s, aI f, aI i] M (fun r M1 => M = M1 ∧ ∃ x, r = some (aI x) ∧ ((M 60 s.toNat = 0 ∧ x = 1) ∨ (M 60 s.toNat = 1 ∧ M 61 s.toNat ≠ f ∧ x = 3) ∨ (M 60 s.toNat = 1 ∧ M 61 s.toNat = f ∧ (0 ≤ i ∧ i < M 62 s.toNat) ∧ x = 0) ∨ (M 60 s.toNat = 1 ∧ M 61 s.toNat = f ∧ ¬ (0 ≤ i ∧ i < M 62 s.toNat) ∧ x = 2))) := by
  refine Ct.of (own := RX7) rfl (by decide +kernel) (Nat.le_of_ble_eq_true rfl) (fun X cx rt => ?_)
  refine aw_eq (loc2 := [(0, aR 32), (1, aI s), (2, aI f), (3, aI i)]) ?_ rfl rfl rfl rfl
  refine aw_rngL 1 rfl (fun rl_s rh_s => ?_)
  refine aw_rngL 2 rfl (fun rl_f rh_f => ?_)
  refine aw_rngL 3 rfl (fun rl_i rh_i => ?_)
  refine aw_aload_n cx dX7_lacks_0 rfl 0 rfl ?_
  refine aw_getR (q := 60) cx dX7_lacks_1 fl_X7_91 (lb_32 tl) rfl rfl ?_
  refine aw_iload_n cx dX7_lacks_4 rfl 1 rfl ?_
  refine aw_zald cx dX7_lacks_5 (lb_60 tl) (⟨by omega, by omega⟩) (fun z5q hz5q lo_z5q hi_z5q => ?_)
  refine aw_if_ne (tgt := 13) cx dX7_lacks_6 (by decide) (fun c6q => ?_) (fun c6q => ?_)
  · refine aw_aload_n cx dX7_lacks_13 rfl 0 rfl ?_
    refine aw_getR (q := 61) cx dX7_lacks_14 fl_X7_95 (lb_32 tl) rfl rfl ?_
    refine aw_iload_n cx dX7_lacks_17 rfl 1 rfl ?_
    refine aw_iald cx dX7_lacks_18 (lb_61 tl) (⟨by omega, by omega⟩) (fun z18q hz18q lo_z18q hi_z18q => ?_)
    refine aw_iload_n cx dX7_lacks_19 rfl 2 rfl ?_
    refine aw_icmp_eq (tgt := 27) cx dX7_lacks_20 (by decide) (fun c20q => ?_) (fun c20q => ?_)
    · refine aw_iload_n cx dX7_lacks_27 rfl 3 rfl ?_
      refine aw_iconst (n := 0) cx dX7_lacks_28 (by decide) ?_
      refine aw_aload_n cx dX7_lacks_29 rfl 0 rfl ?_
      refine aw_getR (q := 62) cx dX7_lacks_30 fl_X7_98 (lb_32 tl) rfl rfl ?_
      refine aw_iload_n cx dX7_lacks_33 rfl 1 rfl ?_
      refine aw_iald cx dX7_lacks_34 (lb_62 tl) (⟨by omega, by omega⟩) (fun z34q hz34q lo_z34q hi_z34q => ?_)
      refine aw_iconst (n := 1) cx dX7_lacks_35 (by decide) ?_
      refine aw_isub cx dX7_lacks_36 (by omega) (fun z36q hz36q => ?_)
      refine aw_callS (as := [aI i, aI 0, aI z36q]) (stk := []) cx dX7_lacks_37 ml_X7_113 ms_X7_in (by decide) rfl rfl (Nat.le_of_ble_eq_true rfl) (ct_X7_in tl M _ _ _ ) (fun rr37q M_37q hp37q => ?_)
      obtain ⟨rfl, rfl⟩ := hp37q
      refine aw_top (stk := []) (fun z37q hz37q => ?_)
      refine aw_if_eq (tgt := 47) cx dX7_lacks_40 (by decide) (fun c40q => ?_) (fun c40q => ?_)
      · have d40q := b2_e0.mp (hz37q.symm.trans c40q)
        refine aw_iconst (n := 2) cx dX7_lacks_47 (by decide) ?_
        refine aw_iret cx rt dX7_lacks_48 ?_
        exact ⟨rfl, _, rfl, by omega⟩
      · have d40q := b2_y hz37q c40q
        refine aw_iconst (n := 0) cx dX7_lacks_43 (by decide) ?_
        refine aw_goto (tgt := 48) cx dX7_lacks_44 (by decide) ?_
        refine aw_iret cx rt dX7_lacks_48 ?_
        exact ⟨rfl, _, rfl, by omega⟩
    · refine aw_iconst (n := 3) cx dX7_lacks_23 (by decide) ?_
      refine aw_goto (tgt := 48) cx dX7_lacks_24 (by decide) ?_
      refine aw_iret cx rt dX7_lacks_48 ?_
      exact ⟨rfl, _, rfl, by omega⟩
  · refine aw_iconst (n := 1) cx dX7_lacks_9 (by decide) ?_
    refine aw_goto (tgt := 48) cx dX7_lacks_10 (by decide) ?_
    refine aw_iret cx rt dX7_lacks_48 ?_
    exact ⟨rfl, _, rfl, by omega⟩
set_option maxHeartbeats 1000000 in
set_option maxRecDepth 100000 in
theorem ct_X7_keep (tl : List CD) (M : Mem) (s i v : Int) (hs : 0 ≤ s ∧ s ≤ 3) (hi : 0 ≤ i ∧ i < 60) : Ct 0 mX7_keep (LB ++ tl) [aR 32, aI s, aI i, aI v] M (fun r M1 => r = none ∧ M1 = up M 63 (60 * s.toNat + i.toNat) (CUT (M 61 s.toNat) v)) := by
  refine Ct.of (own := RX7) rfl (by decide +kernel) (Nat.le_of_ble_eq_true rfl) (fun X cx rt => ?_)
  refine aw_eq (loc2 := [(0, aR 32), (1, aI s), (2, aI i), (3, aI v)]) ?_ rfl rfl rfl rfl
  refine aw_rngL 1 rfl (fun rl_s rh_s => ?_)
  refine aw_rngL 2 rfl (fun rl_i rh_i => ?_)
  refine aw_rngL 3 rfl (fun rl_v rh_v => ?_)
  refine aw_aload_n cx dX7_keep_0 rfl 0 rfl ?_
  refine aw_getR (q := 63) cx dX7_keep_1 fl_X7_101 (lb_32 tl) rfl rfl ?_
  refine aw_bipush (n := 60) cx dX7_keep_4 (by decide) ?_
  refine aw_iload_n cx dX7_keep_6 rfl 1 rfl ?_
  refine aw_imul cx dX7_keep_7 (by omega) (fun z7q hz7q => ?_)
  refine aw_iload_n cx dX7_keep_8 rfl 2 rfl ?_
  refine aw_iadd cx dX7_keep_9 (by omega) (fun z9q hz9q => ?_)
  refine aw_aload_n cx dX7_keep_10 rfl 0 rfl ?_
  refine aw_getR (q := 61) cx dX7_keep_11 fl_X7_95 (lb_32 tl) rfl rfl ?_
  refine aw_iload_n cx dX7_keep_14 rfl 1 rfl ?_
  refine aw_iald cx dX7_keep_15 (lb_61 tl) (⟨by omega, by omega⟩) (fun z15q hz15q lo_z15q hi_z15q => ?_)
  refine aw_if_ne (tgt := 24) cx dX7_keep_16 (by decide) (fun c16q => ?_) (fun c16q => ?_)
  · refine aw_aload_n cx dX7_keep_24 rfl 0 rfl ?_
    refine aw_getR (q := 61) cx dX7_keep_25 fl_X7_95 (lb_32 tl) rfl rfl ?_
    refine aw_iload_n cx dX7_keep_28 rfl 1 rfl ?_
    refine aw_iald cx dX7_keep_29 (lb_61 tl) (⟨by omega, by omega⟩) (fun z29q hz29q lo_z29q hi_z29q => ?_)
    refine aw_iconst (n := 1) cx dX7_keep_30 (by decide) ?_
    refine aw_icmp_ne (tgt := 39) cx dX7_keep_31 (by decide) (fun c31q => ?_) (fun c31q => ?_)
    · refine aw_iload_n cx dX7_keep_39 rfl 3 rfl ?_
      refine aw_iast cx dX7_keep_40 (lb_63 tl) (⟨by omega, by omega⟩) (by first | (have q := CUT_in (f := 0) (v := v) ⟨rl_v, rh_v⟩; unfold CUT at q; rw [if_pos rfl, ← hz20q] at q; omega) | (have q := CUT_in (f := 1) (v := v) ⟨rl_v, rh_v⟩; unfold CUT at q; rw [if_neg (by decide), if_pos rfl, ← hz35q] at q; omega) | omega) ?_
      obtain ⟨M_40q, hM_40q⟩ : ∃ qm, qm = up M (63) (Int.toNat (z9q)) (v) := ⟨_, rfl⟩
      rw [← hM_40q]
      refine aw_vret cx rt dX7_keep_41 ?_
      refine ⟨rfl, ?_⟩
      rw [hM_40q, show z9q.toNat = 60 * s.toNat + i.toNat by omega]
      congr 1
      unfold CUT
      first
      | (rw [if_pos (by omega), hz20q]; done)
      | (rw [if_neg (by omega), if_pos (by omega), hz35q]; done)
      | (rw [if_neg (by omega), if_neg (by omega)]; done)
    · refine aw_iload_n cx dX7_keep_34 rfl 3 rfl ?_
      refine aw_i2s cx dX7_keep_35 (fun z35q hz35q => ?_)
      refine aw_goto (tgt := 40) cx dX7_keep_36 (by decide) ?_
      refine aw_iast cx dX7_keep_40 (lb_63 tl) (⟨by omega, by omega⟩) (by first | (have q := CUT_in (f := 0) (v := v) ⟨rl_v, rh_v⟩; unfold CUT at q; rw [if_pos rfl, ← hz20q] at q; omega) | (have q := CUT_in (f := 1) (v := v) ⟨rl_v, rh_v⟩; unfold CUT at q; rw [if_neg (by decide), if_pos rfl, ← hz35q] at q; omega) | omega) ?_
      obtain ⟨M_40q, hM_40q⟩ : ∃ qm, qm = up M (63) (Int.toNat (z9q)) (z35q) := ⟨_, rfl⟩
      rw [← hM_40q]
      refine aw_vret cx rt dX7_keep_41 ?_
      refine ⟨rfl, ?_⟩
      rw [hM_40q, show z9q.toNat = 60 * s.toNat + i.toNat by omega]
      congr 1
      unfold CUT
      first
      | (rw [if_pos (by omega), hz20q]; done)
      | (rw [if_neg (by omega), if_pos (by omega), hz35q]; done)
      | (rw [if_neg (by omega), if_neg (by omega)]; done)
  · refine aw_iload_n cx dX7_keep_19 rfl 3 rfl ?_
    refine aw_i2b cx dX7_keep_20 (fun z20q hz20q => ?_)
    refine aw_goto (tgt := 40) cx dX7_keep_21 (by decide) ?_
    refine aw_iast cx dX7_keep_40 (lb_63 tl) (⟨by omega, by omega⟩) (by first | (have q := CUT_in (f := 0) (v := v) ⟨rl_v, rh_v⟩; unfold CUT at q; rw [if_pos rfl, ← hz20q] at q; omega) | (have q := CUT_in (f := 1) (v := v) ⟨rl_v, rh_v⟩; unfold CUT at q; rw [if_neg (by decide), if_pos rfl, ← hz35q] at q; omega) | omega) ?_
    obtain ⟨M_40q, hM_40q⟩ : ∃ qm, qm = up M (63) (Int.toNat (z9q)) (z20q) := ⟨_, rfl⟩
    rw [← hM_40q]
    refine aw_vret cx rt dX7_keep_41 ?_
    refine ⟨rfl, ?_⟩
    rw [hM_40q, show z9q.toNat = 60 * s.toNat + i.toNat by omega]
    congr 1
    unfold CUT
    first
    | (rw [if_pos (by omega), hz20q]; done)
    | (rw [if_neg (by omega), if_pos (by omega), hz35q]; done)
    | (rw [if_neg (by omega), if_neg (by omega)]; done)
set_option maxHeartbeats 1000000 in
set_option maxRecDepth 100000 in
theorem ct_X7_put (tl : List CD) (M : Mem) (s f i v : Int) : Ct 2 mX7_put (LB ++ tl) [aR 32, aI s, aI f, aI i, aI v] M (fun r M1 => ∃ x, r = some (aI x) ∧ (((s < 0 ∨ 3 < s ∨ f < 0 ∨ 2 < f) ∧ x = -2 ∧ M1 = M) ∨ ((0 ≤ s ∧ s ≤ 3 ∧ 0 ≤ f ∧ f ≤ 2) ∧ M 60 s.toNat = 0 ∧ x = -11 ∧ M1 = up M 32 43 1) ∨ ((0 ≤ s ∧ s ≤ 3 ∧ 0 ≤ f ∧ f ≤ 2) ∧ M 60 s.toNat = 1 ∧ M 61 s.toNat ≠ f ∧ x = -13 ∧ M1 = up M 32 43 3) ∨ ((0 ≤ s ∧ s ≤ 3 ∧ 0 ≤ f ∧ f ≤ 2) ∧ M 60 s.toNat = 1 ∧ M 61 s.toNat = f ∧ ¬ (0 ≤ i ∧ i < M 62 s.toNat) ∧ x = -12 ∧ M1 = up M 32 43 2) ∨ ((0 ≤ s ∧ s ≤ 3 ∧ 0 ≤ f ∧ f ≤ 2) ∧ M 60 s.toNat = 1 ∧ M 61 s.toNat = f ∧ (0 ≤ i ∧ i < M 62 s.toNat) ∧ x = 1 ∧ M1 = up M 63 (60 * s.toNat + i.toNat) (CUT f v)))) := by
  refine Ct.of (own := RX7) rfl (by decide +kernel) (Nat.le_of_ble_eq_true rfl) (fun X cx rt => ?_)
  refine aw_eq (loc2 := [(0, aR 32), (1, aI s), (2, aI f), (3, aI i), (4, aI v)]) ?_ rfl rfl rfl rfl
  refine aw_rngL 1 rfl (fun rl_s rh_s => ?_)
  refine aw_rngL 2 rfl (fun rl_f rh_f => ?_)
  refine aw_rngL 3 rfl (fun rl_i rh_i => ?_)
  refine aw_rngL 4 rfl (fun rl_v rh_v => ?_)
  refine aw_ok (fun om => ?_)
  have o62 := okA om (lb_62 tl) s.toNat
  refine aw_iload_n cx dX7_put_0 rfl 1 rfl ?_
  refine aw_callS (as := [aI s]) (stk := []) cx dX7_put_1 ml_X7_174 ms_X7_isSheet (by decide) rfl rfl (Nat.le_of_ble_eq_true rfl) (ct_X7_isSheet tl M _ ) (fun rr1q M_1q hp1q => ?_)
  obtain ⟨rfl, rfl⟩ := hp1q
  refine aw_top (stk := []) (fun z1q hz1q => ?_)
  refine aw_if_eq (tgt := 16) cx dX7_put_4 (by decide) (fun c4q => ?_) (fun c4q => ?_)
  · have d4q := b2_e0.mp (hz1q.symm.trans c4q)
    refine aw_bipush (n := (-2)) cx dX7_put_16 (by decide) ?_
    refine aw_iret cx rt dX7_put_18 ?_
    exact ⟨_, rfl, Or.inl ⟨by omega, rfl, rfl⟩⟩
  · have d4q := b2_y hz1q c4q
    refine aw_iload_n cx dX7_put_7 rfl 2 rfl ?_
    refine aw_iconst (n := 0) cx dX7_put_8 (by decide) ?_
    refine aw_iconst (n := 2) cx dX7_put_9 (by decide) ?_
    refine aw_callS (as := [aI f, aI 0, aI 2]) (stk := []) cx dX7_put_10 ml_X7_113 ms_X7_in (by decide) rfl rfl (Nat.le_of_ble_eq_true rfl) (ct_X7_in tl M _ _ _ ) (fun rr10q M_10q hp10q => ?_)
    obtain ⟨rfl, rfl⟩ := hp10q
    refine aw_top (stk := []) (fun z10q hz10q => ?_)
    refine aw_if_ne (tgt := 19) cx dX7_put_13 (by decide) (fun c13q => ?_) (fun c13q => ?_)
    · have d13q := b2_y hz10q c13q
      refine aw_aload_n cx dX7_put_19 rfl 0 rfl ?_
      refine aw_iload_n cx dX7_put_20 rfl 1 rfl ?_
      refine aw_iload_n cx dX7_put_21 rfl 2 rfl ?_
      refine aw_iload_n cx dX7_put_22 rfl 3 rfl ?_
      refine aw_callV (as := [aI s, aI f, aI i]) (k := 32) (stk := []) cx dX7_put_23 ml_X7_352 mv_X7_lacks rfl (lb_32 tl) (by decide) rfl rfl (Nat.le_of_ble_eq_true rfl) (ct_X7_lacks tl M _ _ _ (by omega)) (fun rr23q M_23q hp23q => ?_)
      obtain ⟨rfl, z23q, rfl, hlaz23⟩ := hp23q
      refine aw_eq (stk2 := [aI z23q]) ?_ rfl rfl rfl rfl
      refine aw_istore (loc2 := [(5, aI z23q), (0, aR 32), (1, aI s), (2, aI f), (3, aI i), (4, aI v)]) cx dX7_put_26 (by decide) rfl ?_
      refine aw_iload cx dX7_put_28 0 rfl ?_
      refine aw_if_le (tgt := 40) cx dX7_put_30 (by decide) (fun c30q => ?_) (fun c30q => ?_)
      · refine aw_aload_n cx dX7_put_40 rfl 1 rfl ?_
        refine aw_iload_n cx dX7_put_41 rfl 2 rfl ?_
        refine aw_iload_n cx dX7_put_42 rfl 4 rfl ?_
        refine aw_iload cx dX7_put_43 5 rfl ?_
        refine aw_callV (as := [aI s, aI i, aI v]) (k := 32) (stk := []) cx dX7_put_45 ml_X7_355 mv_X7_keep rfl (lb_32 tl) (by decide) rfl rfl (Nat.le_of_ble_eq_true rfl) (ct_X7_keep tl M _ _ _ (by omega) (by omega)) (fun rr45q M_45q hp45q => ?_)
        obtain ⟨rfl, hMuM_45⟩ := hp45q
        refine aw_eq (stk2 := []) ?_ rfl rfl rfl rfl
        refine aw_iconst (n := 1) cx dX7_put_48 (by decide) ?_
        refine aw_iret cx rt dX7_put_49 ?_
        rcases hlaz23 with g | g | g | g
        · omega
        · omega
        · exact ⟨_, rfl, Or.inr (Or.inr (Or.inr (Or.inr ⟨by omega, g.1, g.2.1, g.2.2.1, rfl, by rw [hMuM_45, g.2.1]⟩)))⟩
        · omega
      · refine aw_aload_n cx dX7_put_33 rfl 1 rfl ?_
        refine aw_iload cx dX7_put_34 0 rfl ?_
        refine aw_callV (as := [aI z23q]) (k := 32) (stk := []) cx dX7_put_36 ml_X7_177 mv_X7_meets rfl (lb_32 tl) (by decide) rfl rfl (Nat.le_of_ble_eq_true rfl) (ct_X7_meets tl M _ (by omega)) (fun rr36q M_36q hp36q => ?_)
        obtain ⟨z36q, rfl, hMuM_36, hxM_36⟩ := hp36q
        refine aw_eq (stk2 := [aI z36q]) ?_ rfl rfl rfl rfl
        refine aw_iret cx rt dX7_put_39 ?_
        rcases hlaz23 with g | g | g | g
        · exact ⟨_, rfl, Or.inr (Or.inl ⟨by omega, g.1, by omega, by rw [hMuM_36, g.2]⟩)⟩
        · exact ⟨_, rfl, Or.inr (Or.inr (Or.inl ⟨by omega, g.1, g.2.1, by omega, by rw [hMuM_36, g.2.2]⟩))⟩
        · omega
        · exact ⟨_, rfl, Or.inr (Or.inr (Or.inr (Or.inl ⟨by omega, g.1, g.2.1, g.2.2.1, by omega, by rw [hMuM_36, g.2.2.2]⟩)))⟩
    · have d13q := b2_e0.mp (hz10q.symm.trans c13q)
      refine aw_bipush (n := (-2)) cx dX7_put_16 (by decide) ?_
      refine aw_iret cx rt dX7_put_18 ?_
      exact ⟨_, rfl, Or.inl ⟨by omega, rfl, rfl⟩⟩
set_option maxHeartbeats 1000000 in
set_option maxRecDepth 100000 in
theorem ct_X7_get (tl : List CD) (M : Mem) (s f i : Int) : Ct 2 mX7_get (LB ++ tl) [aR 32, aI s, aI f, aI i] M (fun r M1 => ∃ x, r = some (aI x) ∧ (((s < 0 ∨ 3 < s ∨ f < 0 ∨ 2 < f) ∧ x = -2147483648 ∧ M1 = M) ∨ ((0 ≤ s ∧ s ≤ 3 ∧ 0 ≤ f ∧ f ≤ 2) ∧ M 60 s.toNat = 0 ∧ x = -2147483648 ∧ M1 = up M 32 43 1) ∨ ((0 ≤ s ∧ s ≤ 3 ∧ 0 ≤ f ∧ f ≤ 2) ∧ M 60 s.toNat = 1 ∧ M 61 s.toNat ≠ f ∧ x = -2147483648 ∧ M1 = up M 32 43 3) ∨ ((0 ≤ s ∧ s ≤ 3 ∧ 0 ≤ f ∧ f ≤ 2) ∧ M 60 s.toNat = 1 ∧ M 61 s.toNat = f ∧ ¬ (0 ≤ i ∧ i < M 62 s.toNat) ∧ x = -2147483648 ∧ M1 = up M 32 43 2) ∨ ((0 ≤ s ∧ s ≤ 3 ∧ 0 ≤ f ∧ f ≤ 2) ∧ M 60 s.toNat = 1 ∧ M 61 s.toNat = f ∧ (0 ≤ i ∧ i < M 62 s.toNat) ∧ x = M 63 (60 * s.toNat + i.toNat) ∧ M1 = M))) := by
  refine Ct.of (own := RX7) rfl (by decide +kernel) (Nat.le_of_ble_eq_true rfl) (fun X cx rt => ?_)
  refine aw_eq (loc2 := [(0, aR 32), (1, aI s), (2, aI f), (3, aI i)]) ?_ rfl rfl rfl rfl
  refine aw_rngL 1 rfl (fun rl_s rh_s => ?_)
  refine aw_rngL 2 rfl (fun rl_f rh_f => ?_)
  refine aw_rngL 3 rfl (fun rl_i rh_i => ?_)
  refine aw_ok (fun om => ?_)
  have o62 := okA om (lb_62 tl) s.toNat
  refine aw_iload_n cx dX7_get_0 rfl 1 rfl ?_
  refine aw_callS (as := [aI s]) (stk := []) cx dX7_get_1 ml_X7_174 ms_X7_isSheet (by decide) rfl rfl (Nat.le_of_ble_eq_true rfl) (ct_X7_isSheet tl M _ ) (fun rr1q M_1q hp1q => ?_)
  obtain ⟨rfl, rfl⟩ := hp1q
  refine aw_top (stk := []) (fun z1q hz1q => ?_)
  refine aw_if_eq (tgt := 16) cx dX7_get_4 (by decide) (fun c4q => ?_) (fun c4q => ?_)
  · have d4q := b2_e0.mp (hz1q.symm.trans c4q)
    refine aw_ldc (x := (-2147483648)) cx dX7_get_16 kc_X7_255 (by decide +kernel) ?_
    refine aw_iret cx rt dX7_get_18 ?_
    exact ⟨_, rfl, Or.inl ⟨by omega, rfl, rfl⟩⟩
  · have d4q := b2_y hz1q c4q
    refine aw_iload_n cx dX7_get_7 rfl 2 rfl ?_
    refine aw_iconst (n := 0) cx dX7_get_8 (by decide) ?_
    refine aw_iconst (n := 2) cx dX7_get_9 (by decide) ?_
    refine aw_callS (as := [aI f, aI 0, aI 2]) (stk := []) cx dX7_get_10 ml_X7_113 ms_X7_in (by decide) rfl rfl (Nat.le_of_ble_eq_true rfl) (ct_X7_in tl M _ _ _ ) (fun rr10q M_10q hp10q => ?_)
    obtain ⟨rfl, rfl⟩ := hp10q
    refine aw_top (stk := []) (fun z10q hz10q => ?_)
    refine aw_if_ne (tgt := 19) cx dX7_get_13 (by decide) (fun c13q => ?_) (fun c13q => ?_)
    · have d13q := b2_y hz10q c13q
      refine aw_aload_n cx dX7_get_19 rfl 0 rfl ?_
      refine aw_iload_n cx dX7_get_20 rfl 1 rfl ?_
      refine aw_iload_n cx dX7_get_21 rfl 2 rfl ?_
      refine aw_iload_n cx dX7_get_22 rfl 3 rfl ?_
      refine aw_callV (as := [aI s, aI f, aI i]) (k := 32) (stk := []) cx dX7_get_23 ml_X7_352 mv_X7_lacks rfl (lb_32 tl) (by decide) rfl rfl (Nat.le_of_ble_eq_true rfl) (ct_X7_lacks tl M _ _ _ (by omega)) (fun rr23q M_23q hp23q => ?_)
      obtain ⟨rfl, z23q, rfl, hlaz23⟩ := hp23q
      refine aw_eq (stk2 := [aI z23q]) ?_ rfl rfl rfl rfl
      refine aw_istore (loc2 := [(4, aI z23q), (0, aR 32), (1, aI s), (2, aI f), (3, aI i)]) cx dX7_get_26 (by decide) rfl ?_
      refine aw_iload cx dX7_get_28 0 rfl ?_
      refine aw_if_le (tgt := 42) cx dX7_get_30 (by decide) (fun c30q => ?_) (fun c30q => ?_)
      · refine aw_aload_n cx dX7_get_42 rfl 1 rfl ?_
        refine aw_getR (q := 63) cx dX7_get_43 fl_X7_101 (lb_32 tl) rfl rfl ?_
        refine aw_bipush (n := 60) cx dX7_get_46 (by decide) ?_
        refine aw_iload_n cx dX7_get_48 rfl 2 rfl ?_
        refine aw_imul cx dX7_get_49 (by omega) (fun z49q hz49q => ?_)
        refine aw_iload_n cx dX7_get_50 rfl 4 rfl ?_
        refine aw_iadd cx dX7_get_51 (by omega) (fun z51q hz51q => ?_)
        refine aw_iald cx dX7_get_52 (lb_63 tl) (by rcases hlaz23 with g | g | g | g <;> omega) (fun z52q hz52q lo_z52q hi_z52q => ?_)
        refine aw_iret cx rt dX7_get_53 ?_
        rcases hlaz23 with g | g | g | g
        · omega
        · omega
        · exact ⟨_, rfl, Or.inr (Or.inr (Or.inr (Or.inr ⟨by omega, g.1, g.2.1, g.2.2.1, by rw [hz52q, show z51q.toNat = 60 * s.toNat + i.toNat by omega], rfl⟩)))⟩
        · omega
      · refine aw_aload_n cx dX7_get_33 rfl 1 rfl ?_
        refine aw_iload cx dX7_get_34 0 rfl ?_
        refine aw_putI cx dX7_get_36 fl_X7_349 kt_X7 rfl rfl (lb_32 tl) rfl (⟨by omega, by omega⟩) ?_
        obtain ⟨M_36q, hM_36q⟩ : ∃ qm, qm = up M 32 43 z23q := ⟨_, rfl⟩
        rw [← hM_36q]
        refine aw_ldc (x := (-2147483648)) cx dX7_get_39 kc_X7_255 (by decide +kernel) ?_
        refine aw_iret cx rt dX7_get_41 ?_
        rcases hlaz23 with g | g | g | g
        · exact ⟨_, rfl, Or.inr (Or.inl ⟨by omega, g.1, rfl, by rw [hM_36q, g.2]⟩)⟩
        · exact ⟨_, rfl, Or.inr (Or.inr (Or.inl ⟨by omega, g.1, g.2.1, rfl, by rw [hM_36q, g.2.2]⟩))⟩
        · omega
        · exact ⟨_, rfl, Or.inr (Or.inr (Or.inr (Or.inl ⟨by omega, g.1, g.2.1, g.2.2.1, rfl, by rw [hM_36q, g.2.2.2]⟩)))⟩
    · have d13q := b2_e0.mp (hz10q.symm.trans c13q)
      refine aw_ldc (x := (-2147483648)) cx dX7_get_16 kc_X7_255 (by decide +kernel) ?_
      refine aw_iret cx rt dX7_get_18 ?_
      exact ⟨_, rfl, Or.inl ⟨by omega, rfl, rfl⟩⟩
set_option maxHeartbeats 1000000 in
set_option maxRecDepth 100000 in
theorem ct_X7_sheet (tl : List CD) (M : Mem) (s f n : Int) : Ct 2 mX7_sheet (LB ++ tl) [aR 32, aI s, aI f, aI n] M (fun r M1 => ∃ x, r = some (aI x) ∧ (((s < 0 ∨ 3 < s ∨ f < 0 ∨ 2 < f ∨ 60 < n) ∧ x = -2 ∧ M1 = M) ∨ (((0 ≤ s ∧ s ≤ 3 ∧ 0 ≤ f ∧ f ≤ 2) ∧ n < 0) ∧ x = -15 ∧ M1 = up M 32 43 5) ∨ (((0 ≤ s ∧ s ≤ 3 ∧ 0 ≤ f ∧ f ≤ 2) ∧ 0 ≤ n ∧ n ≤ 60) ∧ x = n ∧ FR [60, 61, 62, 63] M M1 ∧ M1 60 = up1 (M 60) s.toNat 1 ∧ M1 61 = up1 (M 61) s.toNat f ∧ M1 62 = up1 (M 62) s.toNat n ∧ M1 63 = WRT (fun _ => 0) (60 * s.toNat) (M 63) 60))) := by
  refine Ct.of (own := RX7) rfl (by decide +kernel) (Nat.le_of_ble_eq_true rfl) (fun X cx rt => ?_)
  refine aw_eq (loc2 := [(0, aR 32), (1, aI s), (2, aI f), (3, aI n)]) ?_ rfl rfl rfl rfl
  refine aw_rngL 1 rfl (fun rl_s rh_s => ?_)
  refine aw_rngL 2 rfl (fun rl_f rh_f => ?_)
  refine aw_rngL 3 rfl (fun rl_n rh_n => ?_)
  refine aw_iload_n cx dX7_sheet_0 rfl 1 rfl ?_
  refine aw_callS (as := [aI s]) (stk := []) cx dX7_sheet_1 ml_X7_174 ms_X7_isSheet (by decide) rfl rfl (Nat.le_of_ble_eq_true rfl) (ct_X7_isSheet tl M _ ) (fun rr1q M_1q hp1q => ?_)
  obtain ⟨rfl, rfl⟩ := hp1q
  refine aw_top (stk := []) (fun z1q hz1q => ?_)
  refine aw_if_eq (tgt := 22) cx dX7_sheet_4 (by decide) (fun c4q => ?_) (fun c4q => ?_)
  · have d4q := b2_e0.mp (hz1q.symm.trans c4q)
    refine aw_bipush (n := (-2)) cx dX7_sheet_22 (by decide) ?_
    refine aw_iret cx rt dX7_sheet_24 ?_
    exact ⟨_, rfl, Or.inl ⟨by omega, rfl, rfl⟩⟩
  · have d4q := b2_y hz1q c4q
    refine aw_iload_n cx dX7_sheet_7 rfl 2 rfl ?_
    refine aw_iconst (n := 0) cx dX7_sheet_8 (by decide) ?_
    refine aw_iconst (n := 2) cx dX7_sheet_9 (by decide) ?_
    refine aw_callS (as := [aI f, aI 0, aI 2]) (stk := []) cx dX7_sheet_10 ml_X7_113 ms_X7_in (by decide) rfl rfl (Nat.le_of_ble_eq_true rfl) (ct_X7_in tl M _ _ _ ) (fun rr10q M_10q hp10q => ?_)
    obtain ⟨rfl, rfl⟩ := hp10q
    refine aw_top (stk := []) (fun z10q hz10q => ?_)
    refine aw_if_eq (tgt := 22) cx dX7_sheet_13 (by decide) (fun c13q => ?_) (fun c13q => ?_)
    · have d13q := b2_e0.mp (hz10q.symm.trans c13q)
      refine aw_bipush (n := (-2)) cx dX7_sheet_22 (by decide) ?_
      refine aw_iret cx rt dX7_sheet_24 ?_
      exact ⟨_, rfl, Or.inl ⟨by omega, rfl, rfl⟩⟩
    · have d13q := b2_y hz10q c13q
      refine aw_iload_n cx dX7_sheet_16 rfl 3 rfl ?_
      refine aw_bipush (n := 60) cx dX7_sheet_17 (by decide) ?_
      refine aw_icmp_le (tgt := 25) cx dX7_sheet_19 (by decide) (fun c19q => ?_) (fun c19q => ?_)
      · refine aw_iload_n cx dX7_sheet_25 rfl 3 rfl ?_
        refine aw_if_ge (tgt := 35) cx dX7_sheet_26 (by decide) (fun c26q => ?_) (fun c26q => ?_)
        · refine aw_aload_n cx dX7_sheet_35 rfl 0 rfl ?_
          refine aw_getR (q := 60) cx dX7_sheet_36 fl_X7_91 (lb_32 tl) rfl rfl ?_
          refine aw_iload_n cx dX7_sheet_39 rfl 1 rfl ?_
          refine aw_iconst (n := 1) cx dX7_sheet_40 (by decide) ?_
          refine aw_zast cx dX7_sheet_41 (lb_60 tl) (⟨by omega, by omega⟩) (⟨by omega, by omega⟩) (by omega) ?_
          obtain ⟨M_41q, hM_41q⟩ : ∃ qm, qm = up M (60) (Int.toNat (s)) (1) := ⟨_, rfl⟩
          rw [← hM_41q]
          refine aw_aload_n cx dX7_sheet_42 rfl 0 rfl ?_
          refine aw_getR (q := 61) cx dX7_sheet_43 fl_X7_95 (lb_32 tl) rfl rfl ?_
          refine aw_iload_n cx dX7_sheet_46 rfl 1 rfl ?_
          refine aw_iload_n cx dX7_sheet_47 rfl 2 rfl ?_
          refine aw_iast cx dX7_sheet_48 (lb_61 tl) (⟨by omega, by omega⟩) (⟨by omega, by omega⟩) ?_
          obtain ⟨M_48q, hM_48q⟩ : ∃ qm, qm = up M_41q (61) (Int.toNat (s)) (f) := ⟨_, rfl⟩
          rw [← hM_48q]
          refine aw_aload_n cx dX7_sheet_49 rfl 0 rfl ?_
          refine aw_getR (q := 62) cx dX7_sheet_50 fl_X7_98 (lb_32 tl) rfl rfl ?_
          refine aw_iload_n cx dX7_sheet_53 rfl 1 rfl ?_
          refine aw_iload_n cx dX7_sheet_54 rfl 3 rfl ?_
          refine aw_iast cx dX7_sheet_55 (lb_62 tl) (⟨by omega, by omega⟩) (⟨by omega, by omega⟩) ?_
          obtain ⟨M_55q, hM_55q⟩ : ∃ qm, qm = up M_48q (62) (Int.toNat (s)) (n) := ⟨_, rfl⟩
          rw [← hM_55q]
          refine aw_iconst (n := 0) cx dX7_sheet_56 (by decide) ?_
          refine aw_istore (loc2 := [(4, aI 0), (0, aR 32), (1, aI s), (2, aI f), (3, aI n)]) cx dX7_sheet_57 (by decide) rfl ?_
          have lp59q : ∀ (fu : Nat) (x4q : Int) (N59q : Mem), (0 ≤ x4q ∧ x4q ≤ 60) → (FR [63] M_55q N59q) → (N59q 63 = WRT (fun _ => 0) (60 * s.toNat) (M 63) x4q.toNat) → ((60 - x4q).toNat) < fu → AW X (LB ++ tl) 5 59 [(0, aR 32), (1, aI s), (2, aI f), (3, aI n), (4, aI x4q)] [] N59q := by
            intro fu
            induction fu with
            | zero =>
              intro x4q N59q h0q hf hx hm
              exact absurd hm (Nat.not_lt_zero _)
            | succ fu ih59q =>
              intro x4q N59q h0q hf hx hm
              refine aw_iload cx dX7_sheet_59 4 rfl ?_
              refine aw_bipush (n := 60) cx dX7_sheet_61 (by decide) ?_
              refine aw_icmp_ge (tgt := 85) cx dX7_sheet_63 (by decide) (fun c63q => ?_) (fun c63q => ?_)
              · refine aw_iload_n cx dX7_sheet_85 rfl 3 rfl ?_
                refine aw_iret cx rt dX7_sheet_86 ?_
                refine ⟨_, rfl, Or.inr (Or.inr ⟨by omega, rfl, (((FR.rf.put hM_41q (by decide)).put hM_48q (by decide)).put hM_55q (by decide)).tr hf (by decide), ?_, ?_, ?_, ?_⟩)⟩
                · rw [hf 60 (by decide), up_of hM_55q (by decide), up_of hM_48q (by decide), up_rw hM_41q]
                · rw [hf 61 (by decide), up_of hM_55q (by decide), up_rw hM_48q, up_of hM_41q (by decide)]
                · rw [hf 62 (by decide), up_rw hM_55q, up_of hM_48q (by decide), up_of hM_41q (by decide)]
                · rw [hx, show x4q.toNat = 60 by omega]
              · refine aw_aload_n cx dX7_sheet_66 rfl 0 rfl ?_
                refine aw_getR (q := 63) cx dX7_sheet_67 fl_X7_101 (lb_32 tl) rfl rfl ?_
                refine aw_bipush (n := 60) cx dX7_sheet_70 (by decide) ?_
                refine aw_iload_n cx dX7_sheet_72 rfl 1 rfl ?_
                refine aw_imul cx dX7_sheet_73 (by omega) (fun z73q hz73q => ?_)
                refine aw_iload cx dX7_sheet_74 4 rfl ?_
                refine aw_iadd cx dX7_sheet_76 (by omega) (fun z76q hz76q => ?_)
                refine aw_iconst (n := 0) cx dX7_sheet_77 (by decide) ?_
                refine aw_iast cx dX7_sheet_78 (lb_63 tl) (⟨by omega, by omega⟩) (⟨by omega, by omega⟩) ?_
                obtain ⟨M_78q, hM_78q⟩ : ∃ qm, qm = up N59q (63) (Int.toNat (z76q)) (0) := ⟨_, rfl⟩
                rw [← hM_78q]
                refine aw_iinc cx dX7_sheet_79 4 rfl (by decide) (by omega) (fun z79q hz79q => ?_)
                refine aw_loc (loc2 := [(4, aI z79q), (0, aR 32), (1, aI s), (2, aI f), (3, aI n)]) rfl ?_
                refine aw_goto (tgt := 59) cx dX7_sheet_82 (by decide) ?_
                refine aw_sub [1, 2, 3, 4, 0] rfl ?_
                refine ih59q _ _  ?i_h0 ?i_hf ?i_hx ?i_m
                case i_h0 =>
                  omega
                case i_hf =>
                  exact hf.put hM_78q (by decide)
                case i_hx =>
                  rw [up_rw hM_78q, hz79q, tn_s h0q.1]; exact WRT_s hx (by omega) rfl
                case i_m =>
                  omega
          refine aw_sub [1, 2, 3, 4, 0] rfl ?_
          refine lp59q _ _ _  ?i_h0 ?i_hf ?i_hx (Nat.lt_succ_self _)
          case i_h0 =>
            omega
          case i_hf =>
            exact FR.rf
          case i_hx =>
            rw [up_of hM_55q (by decide), up_of hM_48q (by decide), up_of hM_41q (by decide)]; exact WRT_0.symm
        · refine aw_aload_n cx dX7_sheet_29 rfl 0 rfl ?_
          refine aw_iconst (n := 5) cx dX7_sheet_30 (by decide) ?_
          refine aw_callV (as := [aI 5]) (k := 32) (stk := []) cx dX7_sheet_31 ml_X7_177 mv_X7_meets rfl (lb_32 tl) (by decide) rfl rfl (Nat.le_of_ble_eq_true rfl) (ct_X7_meets tl M _ (by omega)) (fun rr31q M_31q hp31q => ?_)
          obtain ⟨z31q, rfl, hMuM_31, hxM_31⟩ := hp31q
          refine aw_eq (stk2 := [aI z31q]) ?_ rfl rfl rfl rfl
          refine aw_iret cx rt dX7_sheet_34 ?_
          exact ⟨_, rfl, Or.inr (Or.inl ⟨by omega, by omega, hMuM_31⟩)⟩
      · refine aw_bipush (n := (-2)) cx dX7_sheet_22 (by decide) ?_
        refine aw_iret cx rt dX7_sheet_24 ?_
        exact ⟨_, rfl, Or.inl ⟨by omega, rfl, rfl⟩⟩
set_option maxHeartbeats 1000000 in
set_option maxRecDepth 100000 in
theorem ct_X7_copy (tl : List CD) (M : Mem) (s fro t to2 len : Int) : Ct 2 mX7_copy (LB ++ tl) [aR 32, aI s, aI fro, aI t, aI to2, aI len] M (fun r M1 => ∃ x, r = some (aI x) ∧ (((s < 0 ∨ 3 < s ∨ t < 0 ∨ 3 < t) ∧ x = -2 ∧ M1 = M) ∨ ((0 ≤ s ∧ s ≤ 3 ∧ 0 ≤ t ∧ t ≤ 3) ∧ (M 60 s.toNat = 0 ∨ M 60 t.toNat = 0) ∧ x = -11 ∧ M1 = up M 32 43 1) ∨ ((0 ≤ s ∧ s ≤ 3 ∧ 0 ≤ t ∧ t ≤ 3) ∧ (M 60 s.toNat = 1 ∧ M 60 t.toNat = 1) ∧ M 61 s.toNat ≠ M 61 t.toNat ∧ x = -14 ∧ M1 = up M 32 43 4) ∨ ((0 ≤ s ∧ s ≤ 3 ∧ 0 ≤ t ∧ t ≤ 3) ∧ (M 60 s.toNat = 1 ∧ M 60 t.toNat = 1) ∧ M 61 s.toNat = M 61 t.toNat ∧ ¬ (0 ≤ len ∧ 0 ≤ fro ∧ fro + len ≤ M 62 s.toNat ∧ 0 ≤ to2 ∧ to2 + len ≤ M 62 t.toNat) ∧ x = -12 ∧ M1 = up M 32 43 2) ∨ ((0 ≤ s ∧ s ≤ 3 ∧ 0 ≤ t ∧ t ≤ 3) ∧ (M 60 s.toNat = 1 ∧ M 60 t.toNat = 1) ∧ M 61 s.toNat = M 61 t.toNat ∧ (0 ≤ len ∧ 0 ≤ fro ∧ fro + len ≤ M 62 s.toNat ∧ 0 ≤ to2 ∧ to2 + len ≤ M 62 t.toNat) ∧ x = 1 ∧ FR [63, 64] M M1 ∧ M1 63 = CPY (M 63) (60 * s.toNat + fro.toNat) (60 * t.toNat + to2.toNat) len.toNat))) := by
  refine Ct.of (own := RX7) rfl (by decide +kernel) (Nat.le_of_ble_eq_true rfl) (fun X cx rt => ?_)
  refine aw_eq (loc2 := [(0, aR 32), (1, aI s), (2, aI fro), (3, aI t), (4, aI to2), (5, aI len)]) ?_ rfl rfl rfl rfl
  refine aw_rngL 1 rfl (fun rl_s rh_s => ?_)
  refine aw_rngL 2 rfl (fun rl_fro rh_fro => ?_)
  refine aw_rngL 3 rfl (fun rl_t rh_t => ?_)
  refine aw_rngL 4 rfl (fun rl_to2 rh_to2 => ?_)
  refine aw_rngL 5 rfl (fun rl_len rh_len => ?_)
  refine aw_ok (fun om => ?_)
  have o62 := okA om (lb_62 tl) s.toNat
  have p62 := okA om (lb_62 tl) t.toNat
  refine aw_iload_n cx dX7_copy_0 rfl 1 rfl ?_
  refine aw_callS (as := [aI s]) (stk := []) cx dX7_copy_1 ml_X7_174 ms_X7_isSheet (by decide) rfl rfl (Nat.le_of_ble_eq_true rfl) (ct_X7_isSheet tl M _ ) (fun rr1q M_1q hp1q => ?_)
  obtain ⟨rfl, rfl⟩ := hp1q
  refine aw_top (stk := []) (fun z1q hz1q => ?_)
  refine aw_if_eq (tgt := 14) cx dX7_copy_4 (by decide) (fun c4q => ?_) (fun c4q => ?_)
  · have d4q := b2_e0.mp (hz1q.symm.trans c4q)
    refine aw_bipush (n := (-2)) cx dX7_copy_14 (by decide) ?_
    refine aw_iret cx rt dX7_copy_16 ?_
    exact ⟨_, rfl, Or.inl ⟨by omega, rfl, rfl⟩⟩
  · have d4q := b2_y hz1q c4q
    refine aw_iload_n cx dX7_copy_7 rfl 3 rfl ?_
    refine aw_callS (as := [aI t]) (stk := []) cx dX7_copy_8 ml_X7_174 ms_X7_isSheet (by decide) rfl rfl (Nat.le_of_ble_eq_true rfl) (ct_X7_isSheet tl M _ ) (fun rr8q M_8q hp8q => ?_)
    obtain ⟨rfl, rfl⟩ := hp8q
    refine aw_top (stk := []) (fun z8q hz8q => ?_)
    refine aw_if_ne (tgt := 17) cx dX7_copy_11 (by decide) (fun c11q => ?_) (fun c11q => ?_)
    · have d11q := b2_y hz8q c11q
      refine aw_aload_n cx dX7_copy_17 rfl 0 rfl ?_
      refine aw_getR (q := 60) cx dX7_copy_18 fl_X7_91 (lb_32 tl) rfl rfl ?_
      refine aw_iload_n cx dX7_copy_21 rfl 1 rfl ?_
      refine aw_zald cx dX7_copy_22 (lb_60 tl) (⟨by omega, by omega⟩) (fun z22q hz22q lo_z22q hi_z22q => ?_)
      refine aw_if_eq (tgt := 35) cx dX7_copy_23 (by decide) (fun c23q => ?_) (fun c23q => ?_)
      · refine aw_aload_n cx dX7_copy_35 rfl 0 rfl ?_
        refine aw_iconst (n := 1) cx dX7_copy_36 (by decide) ?_
        refine aw_callV (as := [aI 1]) (k := 32) (stk := []) cx dX7_copy_37 ml_X7_177 mv_X7_meets rfl (lb_32 tl) (by decide) rfl rfl (Nat.le_of_ble_eq_true rfl) (ct_X7_meets tl M _ (by omega)) (fun rr37q M_37q hp37q => ?_)
        obtain ⟨z37q, rfl, hMuM_37, hxM_37⟩ := hp37q
        refine aw_eq (stk2 := [aI z37q]) ?_ rfl rfl rfl rfl
        refine aw_iret cx rt dX7_copy_40 ?_
        exact ⟨_, rfl, Or.inr (Or.inl ⟨by omega, by omega, by omega, hMuM_37⟩)⟩
      · refine aw_aload_n cx dX7_copy_26 rfl 0 rfl ?_
        refine aw_getR (q := 60) cx dX7_copy_27 fl_X7_91 (lb_32 tl) rfl rfl ?_
        refine aw_iload_n cx dX7_copy_30 rfl 3 rfl ?_
        refine aw_zald cx dX7_copy_31 (lb_60 tl) (⟨by omega, by omega⟩) (fun z31q hz31q lo_z31q hi_z31q => ?_)
        refine aw_if_ne (tgt := 41) cx dX7_copy_32 (by decide) (fun c32q => ?_) (fun c32q => ?_)
        · refine aw_aload_n cx dX7_copy_41 rfl 0 rfl ?_
          refine aw_getR (q := 61) cx dX7_copy_42 fl_X7_95 (lb_32 tl) rfl rfl ?_
          refine aw_iload_n cx dX7_copy_45 rfl 1 rfl ?_
          refine aw_iald cx dX7_copy_46 (lb_61 tl) (⟨by omega, by omega⟩) (fun z46q hz46q lo_z46q hi_z46q => ?_)
          refine aw_aload_n cx dX7_copy_47 rfl 0 rfl ?_
          refine aw_getR (q := 61) cx dX7_copy_48 fl_X7_95 (lb_32 tl) rfl rfl ?_
          refine aw_iload_n cx dX7_copy_51 rfl 3 rfl ?_
          refine aw_iald cx dX7_copy_52 (lb_61 tl) (⟨by omega, by omega⟩) (fun z52q hz52q lo_z52q hi_z52q => ?_)
          refine aw_icmp_eq (tgt := 62) cx dX7_copy_53 (by decide) (fun c53q => ?_) (fun c53q => ?_)
          · refine aw_iload_n cx dX7_copy_62 rfl 2 rfl ?_
            refine aw_if_lt (tgt := 111) cx dX7_copy_63 (by decide) (fun c63q => ?_) (fun c63q => ?_)
            · refine aw_aload_n cx dX7_copy_111 rfl 0 rfl ?_
              refine aw_iconst (n := 2) cx dX7_copy_112 (by decide) ?_
              refine aw_callV (as := [aI 2]) (k := 32) (stk := []) cx dX7_copy_113 ml_X7_177 mv_X7_meets rfl (lb_32 tl) (by decide) rfl rfl (Nat.le_of_ble_eq_true rfl) (ct_X7_meets tl M _ (by omega)) (fun rr113q M_113q hp113q => ?_)
              obtain ⟨z113q, rfl, hMuM_113, hxM_113⟩ := hp113q
              refine aw_eq (stk2 := [aI z113q]) ?_ rfl rfl rfl rfl
              refine aw_iret cx rt dX7_copy_116 ?_
              exact ⟨_, rfl, Or.inr (Or.inr (Or.inr (Or.inl ⟨by omega, by omega, by omega, by omega, by omega, hMuM_113⟩)))⟩
            · refine aw_iload cx dX7_copy_66 4 rfl ?_
              refine aw_if_lt (tgt := 111) cx dX7_copy_68 (by decide) (fun c68q => ?_) (fun c68q => ?_)
              · refine aw_aload_n cx dX7_copy_111 rfl 0 rfl ?_
                refine aw_iconst (n := 2) cx dX7_copy_112 (by decide) ?_
                refine aw_callV (as := [aI 2]) (k := 32) (stk := []) cx dX7_copy_113 ml_X7_177 mv_X7_meets rfl (lb_32 tl) (by decide) rfl rfl (Nat.le_of_ble_eq_true rfl) (ct_X7_meets tl M _ (by omega)) (fun rr113q M_113q hp113q => ?_)
                obtain ⟨z113q, rfl, hMuM_113, hxM_113⟩ := hp113q
                refine aw_eq (stk2 := [aI z113q]) ?_ rfl rfl rfl rfl
                refine aw_iret cx rt dX7_copy_116 ?_
                exact ⟨_, rfl, Or.inr (Or.inr (Or.inr (Or.inl ⟨by omega, by omega, by omega, by omega, by omega, hMuM_113⟩)))⟩
              · refine aw_iload cx dX7_copy_71 5 rfl ?_
                refine aw_if_lt (tgt := 111) cx dX7_copy_73 (by decide) (fun c73q => ?_) (fun c73q => ?_)
                · refine aw_aload_n cx dX7_copy_111 rfl 0 rfl ?_
                  refine aw_iconst (n := 2) cx dX7_copy_112 (by decide) ?_
                  refine aw_callV (as := [aI 2]) (k := 32) (stk := []) cx dX7_copy_113 ml_X7_177 mv_X7_meets rfl (lb_32 tl) (by decide) rfl rfl (Nat.le_of_ble_eq_true rfl) (ct_X7_meets tl M _ (by omega)) (fun rr113q M_113q hp113q => ?_)
                  obtain ⟨z113q, rfl, hMuM_113, hxM_113⟩ := hp113q
                  refine aw_eq (stk2 := [aI z113q]) ?_ rfl rfl rfl rfl
                  refine aw_iret cx rt dX7_copy_116 ?_
                  exact ⟨_, rfl, Or.inr (Or.inr (Or.inr (Or.inl ⟨by omega, by omega, by omega, by omega, by omega, hMuM_113⟩)))⟩
                · refine aw_iload_n cx dX7_copy_76 rfl 2 rfl ?_
                  refine aw_i2l cx dX7_copy_77 ?_
                  refine aw_iload cx dX7_copy_78 5 rfl ?_
                  refine aw_i2l cx dX7_copy_80 ?_
                  refine aw_ladd cx dX7_copy_81 (by omega) (fun z81q hz81q => ?_)
                  refine aw_aload_n cx dX7_copy_82 rfl 0 rfl ?_
                  refine aw_getR (q := 62) cx dX7_copy_83 fl_X7_98 (lb_32 tl) rfl rfl ?_
                  refine aw_iload_n cx dX7_copy_86 rfl 1 rfl ?_
                  refine aw_iald cx dX7_copy_87 (lb_62 tl) (⟨by omega, by omega⟩) (fun z87q hz87q lo_z87q hi_z87q => ?_)
                  refine aw_i2l cx dX7_copy_88 ?_
                  refine aw_lcmp cx dX7_copy_89 (fun c89q => ?_) (fun c89q => ?_) (fun c89q => ?_)
                  · refine aw_if_gt (tgt := 111) cx dX7_copy_90 (by decide) (fun c90q => ?_) (fun c90q => ?_)
                    · refine aw_aload_n cx dX7_copy_111 rfl 0 rfl ?_
                      refine aw_iconst (n := 2) cx dX7_copy_112 (by decide) ?_
                      refine aw_callV (as := [aI 2]) (k := 32) (stk := []) cx dX7_copy_113 ml_X7_177 mv_X7_meets rfl (lb_32 tl) (by decide) rfl rfl (Nat.le_of_ble_eq_true rfl) (ct_X7_meets tl M _ (by omega)) (fun rr113q M_113q hp113q => ?_)
                      obtain ⟨z113q, rfl, hMuM_113, hxM_113⟩ := hp113q
                      refine aw_eq (stk2 := [aI z113q]) ?_ rfl rfl rfl rfl
                      refine aw_iret cx rt dX7_copy_116 ?_
                      exact ⟨_, rfl, Or.inr (Or.inr (Or.inr (Or.inl ⟨by omega, by omega, by omega, by omega, by omega, hMuM_113⟩)))⟩
                    · exact absurd c90q (by decide)
                  · refine aw_if_gt (tgt := 111) cx dX7_copy_90 (by decide) (fun c90q => ?_) (fun c90q => ?_)
                    · exact absurd c90q (by decide)
                    · refine aw_iload cx dX7_copy_93 4 rfl ?_
                      refine aw_i2l cx dX7_copy_95 ?_
                      refine aw_iload cx dX7_copy_96 5 rfl ?_
                      refine aw_i2l cx dX7_copy_98 ?_
                      refine aw_ladd cx dX7_copy_99 (by omega) (fun z99q hz99q => ?_)
                      refine aw_aload_n cx dX7_copy_100 rfl 0 rfl ?_
                      refine aw_getR (q := 62) cx dX7_copy_101 fl_X7_98 (lb_32 tl) rfl rfl ?_
                      refine aw_iload_n cx dX7_copy_104 rfl 3 rfl ?_
                      refine aw_iald cx dX7_copy_105 (lb_62 tl) (⟨by omega, by omega⟩) (fun z105q hz105q lo_z105q hi_z105q => ?_)
                      refine aw_i2l cx dX7_copy_106 ?_
                      refine aw_lcmp cx dX7_copy_107 (fun c107q => ?_) (fun c107q => ?_) (fun c107q => ?_)
                      · refine aw_if_le (tgt := 117) cx dX7_copy_108 (by decide) (fun c108q => ?_) (fun c108q => ?_)
                        · exact absurd c108q (by decide)
                        · refine aw_aload_n cx dX7_copy_111 rfl 0 rfl ?_
                          refine aw_iconst (n := 2) cx dX7_copy_112 (by decide) ?_
                          refine aw_callV (as := [aI 2]) (k := 32) (stk := []) cx dX7_copy_113 ml_X7_177 mv_X7_meets rfl (lb_32 tl) (by decide) rfl rfl (Nat.le_of_ble_eq_true rfl) (ct_X7_meets tl M _ (by omega)) (fun rr113q M_113q hp113q => ?_)
                          obtain ⟨z113q, rfl, hMuM_113, hxM_113⟩ := hp113q
                          refine aw_eq (stk2 := [aI z113q]) ?_ rfl rfl rfl rfl
                          refine aw_iret cx rt dX7_copy_116 ?_
                          exact ⟨_, rfl, Or.inr (Or.inr (Or.inr (Or.inl ⟨by omega, by omega, by omega, by omega, by omega, hMuM_113⟩)))⟩
                      · refine aw_if_le (tgt := 117) cx dX7_copy_108 (by decide) (fun c108q => ?_) (fun c108q => ?_)
                        · refine aw_iconst (n := 0) cx dX7_copy_117 (by decide) ?_
                          refine aw_istore (loc2 := [(6, aI 0), (0, aR 32), (1, aI s), (2, aI fro), (3, aI t), (4, aI to2), (5, aI len)]) cx dX7_copy_118 (by decide) rfl ?_
                          have lp120q : ∀ (fu : Nat) (x6q : Int) (N120q : Mem), (0 ≤ x6q ∧ x6q ≤ len) → (FR [64] M N120q) → (∀ k, k < x6q.toNat → N120q 64 k = M 63 (60 * s.toNat + fro.toNat + k)) → ((len - x6q).toNat) < fu → AW X (LB ++ tl) 7 120 [(0, aR 32), (1, aI s), (2, aI fro), (3, aI t), (4, aI to2), (5, aI len), (6, aI x6q)] [] N120q := by
                            intro fu
                            induction fu with
                            | zero =>
                              intro x6q N120q h0q hf hx hm
                              exact absurd hm (Nat.not_lt_zero _)
                            | succ fu ih120q =>
                              intro x6q N120q h0q hf hx hm
                              refine aw_iload cx dX7_copy_120 6 rfl ?_
                              refine aw_iload cx dX7_copy_122 5 rfl ?_
                              refine aw_icmp_ge (tgt := 154) cx dX7_copy_124 (by decide) (fun c124q => ?_) (fun c124q => ?_)
                              · have hx2 : ∀ k, k < len.toNat → N120q 64 k = M 63 (60 * s.toNat + fro.toNat + k) := fun k hk => hx k (by omega)
                                refine aw_iconst (n := 0) cx dX7_copy_154 (by decide) ?_
                                refine aw_istore (loc2 := [(6, aI 0), (0, aR 32), (1, aI s), (2, aI fro), (3, aI t), (4, aI to2), (5, aI len)]) cx dX7_copy_155 (by decide) rfl ?_
                                have lp157q : ∀ (fu : Nat) (x6q : Int) (N157q : Mem), (0 ≤ x6q ∧ x6q ≤ len) → (FR [63, 64] M N157q) → (N157q 64 = N120q 64) → (N157q 63 = CPY (M 63) (60 * s.toNat + fro.toNat) (60 * t.toNat + to2.toNat) x6q.toNat) → ((len - x6q).toNat) < fu → AW X (LB ++ tl) 7 157 [(0, aR 32), (1, aI s), (2, aI fro), (3, aI t), (4, aI to2), (5, aI len), (6, aI x6q)] [] N157q := by
                                  intro fu
                                  induction fu with
                                  | zero =>
                                    intro x6q N157q k0 kf k4 kx hm
                                    exact absurd hm (Nat.not_lt_zero _)
                                  | succ fu ih157q =>
                                    intro x6q N157q k0 kf k4 kx hm
                                    refine aw_iload cx dX7_copy_157 6 rfl ?_
                                    refine aw_iload cx dX7_copy_159 5 rfl ?_
                                    refine aw_icmp_ge (tgt := 192) cx dX7_copy_161 (by decide) (fun c161q => ?_) (fun c161q => ?_)
                                    · refine aw_iconst (n := 1) cx dX7_copy_192 (by decide) ?_
                                      refine aw_iret cx rt dX7_copy_193 ?_
                                      exact ⟨_, rfl, Or.inr (Or.inr (Or.inr (Or.inr ⟨by omega, by omega, by omega, by omega, rfl, kf, by rw [kx, show x6q.toNat = len.toNat by omega]⟩)))⟩
                                    · refine aw_aload_n cx dX7_copy_164 rfl 0 rfl ?_
                                      refine aw_getR (q := 63) cx dX7_copy_165 fl_X7_101 (lb_32 tl) rfl rfl ?_
                                      refine aw_bipush (n := 60) cx dX7_copy_168 (by decide) ?_
                                      refine aw_iload_n cx dX7_copy_170 rfl 3 rfl ?_
                                      refine aw_imul cx dX7_copy_171 (by omega) (fun z171q hz171q => ?_)
                                      refine aw_iload cx dX7_copy_172 4 rfl ?_
                                      refine aw_iadd cx dX7_copy_174 (by omega) (fun z174q hz174q => ?_)
                                      refine aw_iload cx dX7_copy_175 6 rfl ?_
                                      refine aw_iadd cx dX7_copy_177 (by omega) (fun z177q hz177q => ?_)
                                      refine aw_aload_n cx dX7_copy_178 rfl 0 rfl ?_
                                      refine aw_getR (q := 64) cx dX7_copy_179 fl_X7_104 (lb_32 tl) rfl rfl ?_
                                      refine aw_iload cx dX7_copy_182 6 rfl ?_
                                      refine aw_iald cx dX7_copy_184 (lb_64 tl) (⟨by omega, by omega⟩) (fun z184q hz184q lo_z184q hi_z184q => ?_)
                                      refine aw_iast cx dX7_copy_185 (lb_63 tl) (⟨by omega, by omega⟩) (⟨by omega, by omega⟩) ?_
                                      obtain ⟨M_185q, hM_185q⟩ : ∃ qm, qm = up N157q (63) (Int.toNat (z177q)) (z184q) := ⟨_, rfl⟩
                                      rw [← hM_185q]
                                      refine aw_iinc cx dX7_copy_186 6 rfl (by decide) (by omega) (fun z186q hz186q => ?_)
                                      refine aw_loc (loc2 := [(6, aI z186q), (0, aR 32), (1, aI s), (2, aI fro), (3, aI t), (4, aI to2), (5, aI len)]) rfl ?_
                                      refine aw_goto (tgt := 157) cx dX7_copy_189 (by decide) ?_
                                      refine aw_sub [1, 2, 3, 4, 5, 6, 0] rfl ?_
                                      refine ih157q _ _  ?i_k0 ?i_kf ?i_k4 ?i_kx ?i_m
                                      case i_k0 =>
                                        omega
                                      case i_kf =>
                                        exact kf.put hM_185q (by decide)
                                      case i_k4 =>
                                        rw [up_of hM_185q (by decide)]; exact k4
                                      case i_kx =>
                                        rw [up_rw hM_185q, hz186q, tn_s k0.1]; exact CPY_s kx (by omega) (by rw [hz184q, k4]; exact hx2 x6q.toNat (by omega))
                                      case i_m =>
                                        omega
                                refine aw_sub [1, 2, 3, 4, 5, 6, 0] rfl ?_
                                refine lp157q _ _ _  ?i_k0 ?i_kf ?i_k4 ?i_kx (Nat.lt_succ_self _)
                                case i_k0 =>
                                  omega
                                case i_kf =>
                                  exact hf.mono (by decide)
                                case i_k4 =>
                                  rfl
                                case i_kx =>
                                  rw [hf 63 (by decide)]; exact CPY_0.symm
                              · refine aw_aload_n cx dX7_copy_127 rfl 0 rfl ?_
                                refine aw_getR (q := 64) cx dX7_copy_128 fl_X7_104 (lb_32 tl) rfl rfl ?_
                                refine aw_iload cx dX7_copy_131 6 rfl ?_
                                refine aw_aload_n cx dX7_copy_133 rfl 0 rfl ?_
                                refine aw_getR (q := 63) cx dX7_copy_134 fl_X7_101 (lb_32 tl) rfl rfl ?_
                                refine aw_bipush (n := 60) cx dX7_copy_137 (by decide) ?_
                                refine aw_iload_n cx dX7_copy_139 rfl 1 rfl ?_
                                refine aw_imul cx dX7_copy_140 (by omega) (fun z140q hz140q => ?_)
                                refine aw_iload_n cx dX7_copy_141 rfl 2 rfl ?_
                                refine aw_iadd cx dX7_copy_142 (by omega) (fun z142q hz142q => ?_)
                                refine aw_iload cx dX7_copy_143 6 rfl ?_
                                refine aw_iadd cx dX7_copy_145 (by omega) (fun z145q hz145q => ?_)
                                refine aw_iald cx dX7_copy_146 (lb_63 tl) (⟨by omega, by omega⟩) (fun z146q hz146q lo_z146q hi_z146q => ?_)
                                refine aw_iast cx dX7_copy_147 (lb_64 tl) (⟨by omega, by omega⟩) (⟨by omega, by omega⟩) ?_
                                obtain ⟨M_147q, hM_147q⟩ : ∃ qm, qm = up N120q (64) (Int.toNat (x6q)) (z146q) := ⟨_, rfl⟩
                                rw [← hM_147q]
                                refine aw_iinc cx dX7_copy_148 6 rfl (by decide) (by omega) (fun z148q hz148q => ?_)
                                refine aw_loc (loc2 := [(6, aI z148q), (0, aR 32), (1, aI s), (2, aI fro), (3, aI t), (4, aI to2), (5, aI len)]) rfl ?_
                                refine aw_goto (tgt := 120) cx dX7_copy_151 (by decide) ?_
                                refine aw_sub [1, 2, 3, 4, 5, 6, 0] rfl ?_
                                refine ih120q _ _  ?i_h0 ?i_hf ?i_hx ?i_m
                                case i_h0 =>
                                  omega
                                case i_hf =>
                                  exact hf.put hM_147q (by decide)
                                case i_hx =>
                                  rw [hz148q]; refine row_s (g := fun k => M 63 (60 * s.toNat + fro.toNat + k)) h0q.1 hM_147q hx ?_
                                  rw [hz146q, hf 63 (by decide)]; congr 1; omega
                                case i_m =>
                                  omega
                          refine aw_sub [1, 2, 3, 4, 5, 6, 0] rfl ?_
                          refine lp120q _ _ _  ?i_h0 ?i_hf ?i_hx (Nat.lt_succ_self _)
                          case i_h0 =>
                            omega
                          case i_hf =>
                            exact FR.rf
                          case i_hx =>
                            exact all_0
                        · exact absurd c108q (by decide)
                      · refine aw_if_le (tgt := 117) cx dX7_copy_108 (by decide) (fun c108q => ?_) (fun c108q => ?_)
                        · refine aw_iconst (n := 0) cx dX7_copy_117 (by decide) ?_
                          refine aw_istore (loc2 := [(6, aI 0), (0, aR 32), (1, aI s), (2, aI fro), (3, aI t), (4, aI to2), (5, aI len)]) cx dX7_copy_118 (by decide) rfl ?_
                          have lp120q : ∀ (fu : Nat) (x6q : Int) (N120q : Mem), (0 ≤ x6q ∧ x6q ≤ len) → (FR [64] M N120q) → (∀ k, k < x6q.toNat → N120q 64 k = M 63 (60 * s.toNat + fro.toNat + k)) → ((len - x6q).toNat) < fu → AW X (LB ++ tl) 7 120 [(0, aR 32), (1, aI s), (2, aI fro), (3, aI t), (4, aI to2), (5, aI len), (6, aI x6q)] [] N120q := by
                            intro fu
                            induction fu with
                            | zero =>
                              intro x6q N120q h0q hf hx hm
                              exact absurd hm (Nat.not_lt_zero _)
                            | succ fu ih120q =>
                              intro x6q N120q h0q hf hx hm
                              refine aw_iload cx dX7_copy_120 6 rfl ?_
                              refine aw_iload cx dX7_copy_122 5 rfl ?_
                              refine aw_icmp_ge (tgt := 154) cx dX7_copy_124 (by decide) (fun c124q => ?_) (fun c124q => ?_)
                              · have hx2 : ∀ k, k < len.toNat → N120q 64 k = M 63 (60 * s.toNat + fro.toNat + k) := fun k hk => hx k (by omega)
                                refine aw_iconst (n := 0) cx dX7_copy_154 (by decide) ?_
                                refine aw_istore (loc2 := [(6, aI 0), (0, aR 32), (1, aI s), (2, aI fro), (3, aI t), (4, aI to2), (5, aI len)]) cx dX7_copy_155 (by decide) rfl ?_
                                have lp157q : ∀ (fu : Nat) (x6q : Int) (N157q : Mem), (0 ≤ x6q ∧ x6q ≤ len) → (FR [63, 64] M N157q) → (N157q 64 = N120q 64) → (N157q 63 = CPY (M 63) (60 * s.toNat + fro.toNat) (60 * t.toNat + to2.toNat) x6q.toNat) → ((len - x6q).toNat) < fu → AW X (LB ++ tl) 7 157 [(0, aR 32), (1, aI s), (2, aI fro), (3, aI t), (4, aI to2), (5, aI len), (6, aI x6q)] [] N157q := by
                                  intro fu
                                  induction fu with
                                  | zero =>
                                    intro x6q N157q k0 kf k4 kx hm
                                    exact absurd hm (Nat.not_lt_zero _)
                                  | succ fu ih157q =>
                                    intro x6q N157q k0 kf k4 kx hm
                                    refine aw_iload cx dX7_copy_157 6 rfl ?_
                                    refine aw_iload cx dX7_copy_159 5 rfl ?_
                                    refine aw_icmp_ge (tgt := 192) cx dX7_copy_161 (by decide) (fun c161q => ?_) (fun c161q => ?_)
                                    · refine aw_iconst (n := 1) cx dX7_copy_192 (by decide) ?_
                                      refine aw_iret cx rt dX7_copy_193 ?_
                                      exact ⟨_, rfl, Or.inr (Or.inr (Or.inr (Or.inr ⟨by omega, by omega, by omega, by omega, rfl, kf, by rw [kx, show x6q.toNat = len.toNat by omega]⟩)))⟩
                                    · refine aw_aload_n cx dX7_copy_164 rfl 0 rfl ?_
                                      refine aw_getR (q := 63) cx dX7_copy_165 fl_X7_101 (lb_32 tl) rfl rfl ?_
                                      refine aw_bipush (n := 60) cx dX7_copy_168 (by decide) ?_
                                      refine aw_iload_n cx dX7_copy_170 rfl 3 rfl ?_
                                      refine aw_imul cx dX7_copy_171 (by omega) (fun z171q hz171q => ?_)
                                      refine aw_iload cx dX7_copy_172 4 rfl ?_
                                      refine aw_iadd cx dX7_copy_174 (by omega) (fun z174q hz174q => ?_)
                                      refine aw_iload cx dX7_copy_175 6 rfl ?_
                                      refine aw_iadd cx dX7_copy_177 (by omega) (fun z177q hz177q => ?_)
                                      refine aw_aload_n cx dX7_copy_178 rfl 0 rfl ?_
                                      refine aw_getR (q := 64) cx dX7_copy_179 fl_X7_104 (lb_32 tl) rfl rfl ?_
                                      refine aw_iload cx dX7_copy_182 6 rfl ?_
                                      refine aw_iald cx dX7_copy_184 (lb_64 tl) (⟨by omega, by omega⟩) (fun z184q hz184q lo_z184q hi_z184q => ?_)
                                      refine aw_iast cx dX7_copy_185 (lb_63 tl) (⟨by omega, by omega⟩) (⟨by omega, by omega⟩) ?_
                                      obtain ⟨M_185q, hM_185q⟩ : ∃ qm, qm = up N157q (63) (Int.toNat (z177q)) (z184q) := ⟨_, rfl⟩
                                      rw [← hM_185q]
                                      refine aw_iinc cx dX7_copy_186 6 rfl (by decide) (by omega) (fun z186q hz186q => ?_)
                                      refine aw_loc (loc2 := [(6, aI z186q), (0, aR 32), (1, aI s), (2, aI fro), (3, aI t), (4, aI to2), (5, aI len)]) rfl ?_
                                      refine aw_goto (tgt := 157) cx dX7_copy_189 (by decide) ?_
                                      refine aw_sub [1, 2, 3, 4, 5, 6, 0] rfl ?_
                                      refine ih157q _ _  ?i_k0 ?i_kf ?i_k4 ?i_kx ?i_m
                                      case i_k0 =>
                                        omega
                                      case i_kf =>
                                        exact kf.put hM_185q (by decide)
                                      case i_k4 =>
                                        rw [up_of hM_185q (by decide)]; exact k4
                                      case i_kx =>
                                        rw [up_rw hM_185q, hz186q, tn_s k0.1]; exact CPY_s kx (by omega) (by rw [hz184q, k4]; exact hx2 x6q.toNat (by omega))
                                      case i_m =>
                                        omega
                                refine aw_sub [1, 2, 3, 4, 5, 6, 0] rfl ?_
                                refine lp157q _ _ _  ?i_k0 ?i_kf ?i_k4 ?i_kx (Nat.lt_succ_self _)
                                case i_k0 =>
                                  omega
                                case i_kf =>
                                  exact hf.mono (by decide)
                                case i_k4 =>
                                  rfl
                                case i_kx =>
                                  rw [hf 63 (by decide)]; exact CPY_0.symm
                              · refine aw_aload_n cx dX7_copy_127 rfl 0 rfl ?_
                                refine aw_getR (q := 64) cx dX7_copy_128 fl_X7_104 (lb_32 tl) rfl rfl ?_
                                refine aw_iload cx dX7_copy_131 6 rfl ?_
                                refine aw_aload_n cx dX7_copy_133 rfl 0 rfl ?_
                                refine aw_getR (q := 63) cx dX7_copy_134 fl_X7_101 (lb_32 tl) rfl rfl ?_
                                refine aw_bipush (n := 60) cx dX7_copy_137 (by decide) ?_
                                refine aw_iload_n cx dX7_copy_139 rfl 1 rfl ?_
                                refine aw_imul cx dX7_copy_140 (by omega) (fun z140q hz140q => ?_)
                                refine aw_iload_n cx dX7_copy_141 rfl 2 rfl ?_
                                refine aw_iadd cx dX7_copy_142 (by omega) (fun z142q hz142q => ?_)
                                refine aw_iload cx dX7_copy_143 6 rfl ?_
                                refine aw_iadd cx dX7_copy_145 (by omega) (fun z145q hz145q => ?_)
                                refine aw_iald cx dX7_copy_146 (lb_63 tl) (⟨by omega, by omega⟩) (fun z146q hz146q lo_z146q hi_z146q => ?_)
                                refine aw_iast cx dX7_copy_147 (lb_64 tl) (⟨by omega, by omega⟩) (⟨by omega, by omega⟩) ?_
                                obtain ⟨M_147q, hM_147q⟩ : ∃ qm, qm = up N120q (64) (Int.toNat (x6q)) (z146q) := ⟨_, rfl⟩
                                rw [← hM_147q]
                                refine aw_iinc cx dX7_copy_148 6 rfl (by decide) (by omega) (fun z148q hz148q => ?_)
                                refine aw_loc (loc2 := [(6, aI z148q), (0, aR 32), (1, aI s), (2, aI fro), (3, aI t), (4, aI to2), (5, aI len)]) rfl ?_
                                refine aw_goto (tgt := 120) cx dX7_copy_151 (by decide) ?_
                                refine aw_sub [1, 2, 3, 4, 5, 6, 0] rfl ?_
                                refine ih120q _ _  ?i_h0 ?i_hf ?i_hx ?i_m
                                case i_h0 =>
                                  omega
                                case i_hf =>
                                  exact hf.put hM_147q (by decide)
                                case i_hx =>
                                  rw [hz148q]; refine row_s (g := fun k => M 63 (60 * s.toNat + fro.toNat + k)) h0q.1 hM_147q hx ?_
                                  rw [hz146q, hf 63 (by decide)]; congr 1; omega
                                case i_m =>
                                  omega
                          refine aw_sub [1, 2, 3, 4, 5, 6, 0] rfl ?_
                          refine lp120q _ _ _  ?i_h0 ?i_hf ?i_hx (Nat.lt_succ_self _)
                          case i_h0 =>
                            omega
                          case i_hf =>
                            exact FR.rf
                          case i_hx =>
                            exact all_0
                        · exact absurd c108q (by decide)
                  · refine aw_if_gt (tgt := 111) cx dX7_copy_90 (by decide) (fun c90q => ?_) (fun c90q => ?_)
                    · exact absurd c90q (by decide)
                    · refine aw_iload cx dX7_copy_93 4 rfl ?_
                      refine aw_i2l cx dX7_copy_95 ?_
                      refine aw_iload cx dX7_copy_96 5 rfl ?_
                      refine aw_i2l cx dX7_copy_98 ?_
                      refine aw_ladd cx dX7_copy_99 (by omega) (fun z99q hz99q => ?_)
                      refine aw_aload_n cx dX7_copy_100 rfl 0 rfl ?_
                      refine aw_getR (q := 62) cx dX7_copy_101 fl_X7_98 (lb_32 tl) rfl rfl ?_
                      refine aw_iload_n cx dX7_copy_104 rfl 3 rfl ?_
                      refine aw_iald cx dX7_copy_105 (lb_62 tl) (⟨by omega, by omega⟩) (fun z105q hz105q lo_z105q hi_z105q => ?_)
                      refine aw_i2l cx dX7_copy_106 ?_
                      refine aw_lcmp cx dX7_copy_107 (fun c107q => ?_) (fun c107q => ?_) (fun c107q => ?_)
                      · refine aw_if_le (tgt := 117) cx dX7_copy_108 (by decide) (fun c108q => ?_) (fun c108q => ?_)
                        · exact absurd c108q (by decide)
                        · refine aw_aload_n cx dX7_copy_111 rfl 0 rfl ?_
                          refine aw_iconst (n := 2) cx dX7_copy_112 (by decide) ?_
                          refine aw_callV (as := [aI 2]) (k := 32) (stk := []) cx dX7_copy_113 ml_X7_177 mv_X7_meets rfl (lb_32 tl) (by decide) rfl rfl (Nat.le_of_ble_eq_true rfl) (ct_X7_meets tl M _ (by omega)) (fun rr113q M_113q hp113q => ?_)
                          obtain ⟨z113q, rfl, hMuM_113, hxM_113⟩ := hp113q
                          refine aw_eq (stk2 := [aI z113q]) ?_ rfl rfl rfl rfl
                          refine aw_iret cx rt dX7_copy_116 ?_
                          exact ⟨_, rfl, Or.inr (Or.inr (Or.inr (Or.inl ⟨by omega, by omega, by omega, by omega, by omega, hMuM_113⟩)))⟩
                      · refine aw_if_le (tgt := 117) cx dX7_copy_108 (by decide) (fun c108q => ?_) (fun c108q => ?_)
                        · refine aw_iconst (n := 0) cx dX7_copy_117 (by decide) ?_
                          refine aw_istore (loc2 := [(6, aI 0), (0, aR 32), (1, aI s), (2, aI fro), (3, aI t), (4, aI to2), (5, aI len)]) cx dX7_copy_118 (by decide) rfl ?_
                          have lp120q : ∀ (fu : Nat) (x6q : Int) (N120q : Mem), (0 ≤ x6q ∧ x6q ≤ len) → (FR [64] M N120q) → (∀ k, k < x6q.toNat → N120q 64 k = M 63 (60 * s.toNat + fro.toNat + k)) → ((len - x6q).toNat) < fu → AW X (LB ++ tl) 7 120 [(0, aR 32), (1, aI s), (2, aI fro), (3, aI t), (4, aI to2), (5, aI len), (6, aI x6q)] [] N120q := by
                            intro fu
                            induction fu with
                            | zero =>
                              intro x6q N120q h0q hf hx hm
                              exact absurd hm (Nat.not_lt_zero _)
                            | succ fu ih120q =>
                              intro x6q N120q h0q hf hx hm
                              refine aw_iload cx dX7_copy_120 6 rfl ?_
                              refine aw_iload cx dX7_copy_122 5 rfl ?_
                              refine aw_icmp_ge (tgt := 154) cx dX7_copy_124 (by decide) (fun c124q => ?_) (fun c124q => ?_)
                              · have hx2 : ∀ k, k < len.toNat → N120q 64 k = M 63 (60 * s.toNat + fro.toNat + k) := fun k hk => hx k (by omega)
                                refine aw_iconst (n := 0) cx dX7_copy_154 (by decide) ?_
                                refine aw_istore (loc2 := [(6, aI 0), (0, aR 32), (1, aI s), (2, aI fro), (3, aI t), (4, aI to2), (5, aI len)]) cx dX7_copy_155 (by decide) rfl ?_
                                have lp157q : ∀ (fu : Nat) (x6q : Int) (N157q : Mem), (0 ≤ x6q ∧ x6q ≤ len) → (FR [63, 64] M N157q) → (N157q 64 = N120q 64) → (N157q 63 = CPY (M 63) (60 * s.toNat + fro.toNat) (60 * t.toNat + to2.toNat) x6q.toNat) → ((len - x6q).toNat) < fu → AW X (LB ++ tl) 7 157 [(0, aR 32), (1, aI s), (2, aI fro), (3, aI t), (4, aI to2), (5, aI len), (6, aI x6q)] [] N157q := by
                                  intro fu
                                  induction fu with
                                  | zero =>
                                    intro x6q N157q k0 kf k4 kx hm
                                    exact absurd hm (Nat.not_lt_zero _)
                                  | succ fu ih157q =>
                                    intro x6q N157q k0 kf k4 kx hm
                                    refine aw_iload cx dX7_copy_157 6 rfl ?_
                                    refine aw_iload cx dX7_copy_159 5 rfl ?_
                                    refine aw_icmp_ge (tgt := 192) cx dX7_copy_161 (by decide) (fun c161q => ?_) (fun c161q => ?_)
                                    · refine aw_iconst (n := 1) cx dX7_copy_192 (by decide) ?_
                                      refine aw_iret cx rt dX7_copy_193 ?_
                                      exact ⟨_, rfl, Or.inr (Or.inr (Or.inr (Or.inr ⟨by omega, by omega, by omega, by omega, rfl, kf, by rw [kx, show x6q.toNat = len.toNat by omega]⟩)))⟩
                                    · refine aw_aload_n cx dX7_copy_164 rfl 0 rfl ?_
                                      refine aw_getR (q := 63) cx dX7_copy_165 fl_X7_101 (lb_32 tl) rfl rfl ?_
                                      refine aw_bipush (n := 60) cx dX7_copy_168 (by decide) ?_
                                      refine aw_iload_n cx dX7_copy_170 rfl 3 rfl ?_
                                      refine aw_imul cx dX7_copy_171 (by omega) (fun z171q hz171q => ?_)
                                      refine aw_iload cx dX7_copy_172 4 rfl ?_
                                      refine aw_iadd cx dX7_copy_174 (by omega) (fun z174q hz174q => ?_)
                                      refine aw_iload cx dX7_copy_175 6 rfl ?_
                                      refine aw_iadd cx dX7_copy_177 (by omega) (fun z177q hz177q => ?_)
                                      refine aw_aload_n cx dX7_copy_178 rfl 0 rfl ?_
                                      refine aw_getR (q := 64) cx dX7_copy_179 fl_X7_104 (lb_32 tl) rfl rfl ?_
                                      refine aw_iload cx dX7_copy_182 6 rfl ?_
                                      refine aw_iald cx dX7_copy_184 (lb_64 tl) (⟨by omega, by omega⟩) (fun z184q hz184q lo_z184q hi_z184q => ?_)
                                      refine aw_iast cx dX7_copy_185 (lb_63 tl) (⟨by omega, by omega⟩) (⟨by omega, by omega⟩) ?_
                                      obtain ⟨M_185q, hM_185q⟩ : ∃ qm, qm = up N157q (63) (Int.toNat (z177q)) (z184q) := ⟨_, rfl⟩
                                      rw [← hM_185q]
                                      refine aw_iinc cx dX7_copy_186 6 rfl (by decide) (by omega) (fun z186q hz186q => ?_)
                                      refine aw_loc (loc2 := [(6, aI z186q), (0, aR 32), (1, aI s), (2, aI fro), (3, aI t), (4, aI to2), (5, aI len)]) rfl ?_
                                      refine aw_goto (tgt := 157) cx dX7_copy_189 (by decide) ?_
                                      refine aw_sub [1, 2, 3, 4, 5, 6, 0] rfl ?_
                                      refine ih157q _ _  ?i_k0 ?i_kf ?i_k4 ?i_kx ?i_m
                                      case i_k0 =>
                                        omega
                                      case i_kf =>
                                        exact kf.put hM_185q (by decide)
                                      case i_k4 =>
                                        rw [up_of hM_185q (by decide)]; exact k4
                                      case i_kx =>
                                        rw [up_rw hM_185q, hz186q, tn_s k0.1]; exact CPY_s kx (by omega) (by rw [hz184q, k4]; exact hx2 x6q.toNat (by omega))
                                      case i_m =>
                                        omega
                                refine aw_sub [1, 2, 3, 4, 5, 6, 0] rfl ?_
                                refine lp157q _ _ _  ?i_k0 ?i_kf ?i_k4 ?i_kx (Nat.lt_succ_self _)
                                case i_k0 =>
                                  omega
                                case i_kf =>
                                  exact hf.mono (by decide)
                                case i_k4 =>
                                  rfl
                                case i_kx =>
                                  rw [hf 63 (by decide)]; exact CPY_0.symm
                              · refine aw_aload_n cx dX7_copy_127 rfl 0 rfl ?_
                                refine aw_getR (q := 64) cx dX7_copy_128 fl_X7_104 (lb_32 tl) rfl rfl ?_
                                refine aw_iload cx dX7_copy_131 6 rfl ?_
                                refine aw_aload_n cx dX7_copy_133 rfl 0 rfl ?_
                                refine aw_getR (q := 63) cx dX7_copy_134 fl_X7_101 (lb_32 tl) rfl rfl ?_
                                refine aw_bipush (n := 60) cx dX7_copy_137 (by decide) ?_
                                refine aw_iload_n cx dX7_copy_139 rfl 1 rfl ?_
                                refine aw_imul cx dX7_copy_140 (by omega) (fun z140q hz140q => ?_)
                                refine aw_iload_n cx dX7_copy_141 rfl 2 rfl ?_
                                refine aw_iadd cx dX7_copy_142 (by omega) (fun z142q hz142q => ?_)
                                refine aw_iload cx dX7_copy_143 6 rfl ?_
                                refine aw_iadd cx dX7_copy_145 (by omega) (fun z145q hz145q => ?_)
                                refine aw_iald cx dX7_copy_146 (lb_63 tl) (⟨by omega, by omega⟩) (fun z146q hz146q lo_z146q hi_z146q => ?_)
                                refine aw_iast cx dX7_copy_147 (lb_64 tl) (⟨by omega, by omega⟩) (⟨by omega, by omega⟩) ?_
                                obtain ⟨M_147q, hM_147q⟩ : ∃ qm, qm = up N120q (64) (Int.toNat (x6q)) (z146q) := ⟨_, rfl⟩
                                rw [← hM_147q]
                                refine aw_iinc cx dX7_copy_148 6 rfl (by decide) (by omega) (fun z148q hz148q => ?_)
                                refine aw_loc (loc2 := [(6, aI z148q), (0, aR 32), (1, aI s), (2, aI fro), (3, aI t), (4, aI to2), (5, aI len)]) rfl ?_
                                refine aw_goto (tgt := 120) cx dX7_copy_151 (by decide) ?_
                                refine aw_sub [1, 2, 3, 4, 5, 6, 0] rfl ?_
                                refine ih120q _ _  ?i_h0 ?i_hf ?i_hx ?i_m
                                case i_h0 =>
                                  omega
                                case i_hf =>
                                  exact hf.put hM_147q (by decide)
                                case i_hx =>
                                  rw [hz148q]; refine row_s (g := fun k => M 63 (60 * s.toNat + fro.toNat + k)) h0q.1 hM_147q hx ?_
                                  rw [hz146q, hf 63 (by decide)]; congr 1; omega
                                case i_m =>
                                  omega
                          refine aw_sub [1, 2, 3, 4, 5, 6, 0] rfl ?_
                          refine lp120q _ _ _  ?i_h0 ?i_hf ?i_hx (Nat.lt_succ_self _)
                          case i_h0 =>
                            omega
                          case i_hf =>
                            exact FR.rf
                          case i_hx =>
                            exact all_0
                        · exact absurd c108q (by decide)
                      · refine aw_if_le (tgt := 117) cx dX7_copy_108 (by decide) (fun c108q => ?_) (fun c108q => ?_)
                        · refine aw_iconst (n := 0) cx dX7_copy_117 (by decide) ?_
                          refine aw_istore (loc2 := [(6, aI 0), (0, aR 32), (1, aI s), (2, aI fro), (3, aI t), (4, aI to2), (5, aI len)]) cx dX7_copy_118 (by decide) rfl ?_
                          have lp120q : ∀ (fu : Nat) (x6q : Int) (N120q : Mem), (0 ≤ x6q ∧ x6q ≤ len) → (FR [64] M N120q) → (∀ k, k < x6q.toNat → N120q 64 k = M 63 (60 * s.toNat + fro.toNat + k)) → ((len - x6q).toNat) < fu → AW X (LB ++ tl) 7 120 [(0, aR 32), (1, aI s), (2, aI fro), (3, aI t), (4, aI to2), (5, aI len), (6, aI x6q)] [] N120q := by
                            intro fu
                            induction fu with
                            | zero =>
                              intro x6q N120q h0q hf hx hm
                              exact absurd hm (Nat.not_lt_zero _)
                            | succ fu ih120q =>
                              intro x6q N120q h0q hf hx hm
                              refine aw_iload cx dX7_copy_120 6 rfl ?_
                              refine aw_iload cx dX7_copy_122 5 rfl ?_
                              refine aw_icmp_ge (tgt := 154) cx dX7_copy_124 (by decide) (fun c124q => ?_) (fun c124q => ?_)
                              · have hx2 : ∀ k, k < len.toNat → N120q 64 k = M 63 (60 * s.toNat + fro.toNat + k) := fun k hk => hx k (by omega)
                                refine aw_iconst (n := 0) cx dX7_copy_154 (by decide) ?_
                                refine aw_istore (loc2 := [(6, aI 0), (0, aR 32), (1, aI s), (2, aI fro), (3, aI t), (4, aI to2), (5, aI len)]) cx dX7_copy_155 (by decide) rfl ?_
                                have lp157q : ∀ (fu : Nat) (x6q : Int) (N157q : Mem), (0 ≤ x6q ∧ x6q ≤ len) → (FR [63, 64] M N157q) → (N157q 64 = N120q 64) → (N157q 63 = CPY (M 63) (60 * s.toNat + fro.toNat) (60 * t.toNat + to2.toNat) x6q.toNat) → ((len - x6q).toNat) < fu → AW X (LB ++ tl) 7 157 [(0, aR 32), (1, aI s), (2, aI fro), (3, aI t), (4, aI to2), (5, aI len), (6, aI x6q)] [] N157q := by
                                  intro fu
                                  induction fu with
                                  | zero =>
                                    intro x6q N157q k0 kf k4 kx hm
                                    exact absurd hm (Nat.not_lt_zero _)
                                  | succ fu ih157q =>
                                    intro x6q N157q k0 kf k4 kx hm
                                    refine aw_iload cx dX7_copy_157 6 rfl ?_
                                    refine aw_iload cx dX7_copy_159 5 rfl ?_
                                    refine aw_icmp_ge (tgt := 192) cx dX7_copy_161 (by decide) (fun c161q => ?_) (fun c161q => ?_)
                                    · refine aw_iconst (n := 1) cx dX7_copy_192 (by decide) ?_
                                      refine aw_iret cx rt dX7_copy_193 ?_
                                      exact ⟨_, rfl, Or.inr (Or.inr (Or.inr (Or.inr ⟨by omega, by omega, by omega, by omega, rfl, kf, by rw [kx, show x6q.toNat = len.toNat by omega]⟩)))⟩
                                    · refine aw_aload_n cx dX7_copy_164 rfl 0 rfl ?_
                                      refine aw_getR (q := 63) cx dX7_copy_165 fl_X7_101 (lb_32 tl) rfl rfl ?_
                                      refine aw_bipush (n := 60) cx dX7_copy_168 (by decide) ?_
                                      refine aw_iload_n cx dX7_copy_170 rfl 3 rfl ?_
                                      refine aw_imul cx dX7_copy_171 (by omega) (fun z171q hz171q => ?_)
                                      refine aw_iload cx dX7_copy_172 4 rfl ?_
                                      refine aw_iadd cx dX7_copy_174 (by omega) (fun z174q hz174q => ?_)
                                      refine aw_iload cx dX7_copy_175 6 rfl ?_
                                      refine aw_iadd cx dX7_copy_177 (by omega) (fun z177q hz177q => ?_)
                                      refine aw_aload_n cx dX7_copy_178 rfl 0 rfl ?_
                                      refine aw_getR (q := 64) cx dX7_copy_179 fl_X7_104 (lb_32 tl) rfl rfl ?_
                                      refine aw_iload cx dX7_copy_182 6 rfl ?_
                                      refine aw_iald cx dX7_copy_184 (lb_64 tl) (⟨by omega, by omega⟩) (fun z184q hz184q lo_z184q hi_z184q => ?_)
                                      refine aw_iast cx dX7_copy_185 (lb_63 tl) (⟨by omega, by omega⟩) (⟨by omega, by omega⟩) ?_
                                      obtain ⟨M_185q, hM_185q⟩ : ∃ qm, qm = up N157q (63) (Int.toNat (z177q)) (z184q) := ⟨_, rfl⟩
                                      rw [← hM_185q]
                                      refine aw_iinc cx dX7_copy_186 6 rfl (by decide) (by omega) (fun z186q hz186q => ?_)
                                      refine aw_loc (loc2 := [(6, aI z186q), (0, aR 32), (1, aI s), (2, aI fro), (3, aI t), (4, aI to2), (5, aI len)]) rfl ?_
                                      refine aw_goto (tgt := 157) cx dX7_copy_189 (by decide) ?_
                                      refine aw_sub [1, 2, 3, 4, 5, 6, 0] rfl ?_
                                      refine ih157q _ _  ?i_k0 ?i_kf ?i_k4 ?i_kx ?i_m
                                      case i_k0 =>
                                        omega
                                      case i_kf =>
                                        exact kf.put hM_185q (by decide)
                                      case i_k4 =>
                                        rw [up_of hM_185q (by decide)]; exact k4
                                      case i_kx =>
                                        rw [up_rw hM_185q, hz186q, tn_s k0.1]; exact CPY_s kx (by omega) (by rw [hz184q, k4]; exact hx2 x6q.toNat (by omega))
                                      case i_m =>
                                        omega
                                refine aw_sub [1, 2, 3, 4, 5, 6, 0] rfl ?_
                                refine lp157q _ _ _  ?i_k0 ?i_kf ?i_k4 ?i_kx (Nat.lt_succ_self _)
                                case i_k0 =>
                                  omega
                                case i_kf =>
                                  exact hf.mono (by decide)
                                case i_k4 =>
                                  rfl
                                case i_kx =>
                                  rw [hf 63 (by decide)]; exact CPY_0.symm
                              · refine aw_aload_n cx dX7_copy_127 rfl 0 rfl ?_
                                refine aw_getR (q := 64) cx dX7_copy_128 fl_X7_104 (lb_32 tl) rfl rfl ?_
                                refine aw_iload cx dX7_copy_131 6 rfl ?_
                                refine aw_aload_n cx dX7_copy_133 rfl 0 rfl ?_
                                refine aw_getR (q := 63) cx dX7_copy_134 fl_X7_101 (lb_32 tl) rfl rfl ?_
                                refine aw_bipush (n := 60) cx dX7_copy_137 (by decide) ?_
                                refine aw_iload_n cx dX7_copy_139 rfl 1 rfl ?_
                                refine aw_imul cx dX7_copy_140 (by omega) (fun z140q hz140q => ?_)
                                refine aw_iload_n cx dX7_copy_141 rfl 2 rfl ?_
                                refine aw_iadd cx dX7_copy_142 (by omega) (fun z142q hz142q => ?_)
                                refine aw_iload cx dX7_copy_143 6 rfl ?_
                                refine aw_iadd cx dX7_copy_145 (by omega) (fun z145q hz145q => ?_)
                                refine aw_iald cx dX7_copy_146 (lb_63 tl) (⟨by omega, by omega⟩) (fun z146q hz146q lo_z146q hi_z146q => ?_)
                                refine aw_iast cx dX7_copy_147 (lb_64 tl) (⟨by omega, by omega⟩) (⟨by omega, by omega⟩) ?_
                                obtain ⟨M_147q, hM_147q⟩ : ∃ qm, qm = up N120q (64) (Int.toNat (x6q)) (z146q) := ⟨_, rfl⟩
                                rw [← hM_147q]
                                refine aw_iinc cx dX7_copy_148 6 rfl (by decide) (by omega) (fun z148q hz148q => ?_)
                                refine aw_loc (loc2 := [(6, aI z148q), (0, aR 32), (1, aI s), (2, aI fro), (3, aI t), (4, aI to2), (5, aI len)]) rfl ?_
                                refine aw_goto (tgt := 120) cx dX7_copy_151 (by decide) ?_
                                refine aw_sub [1, 2, 3, 4, 5, 6, 0] rfl ?_
                                refine ih120q _ _  ?i_h0 ?i_hf ?i_hx ?i_m
                                case i_h0 =>
                                  omega
                                case i_hf =>
                                  exact hf.put hM_147q (by decide)
                                case i_hx =>
                                  rw [hz148q]; refine row_s (g := fun k => M 63 (60 * s.toNat + fro.toNat + k)) h0q.1 hM_147q hx ?_
                                  rw [hz146q, hf 63 (by decide)]; congr 1; omega
                                case i_m =>
                                  omega
                          refine aw_sub [1, 2, 3, 4, 5, 6, 0] rfl ?_
                          refine lp120q _ _ _  ?i_h0 ?i_hf ?i_hx (Nat.lt_succ_self _)
                          case i_h0 =>
                            omega
                          case i_hf =>
                            exact FR.rf
                          case i_hx =>
                            exact all_0
                        · exact absurd c108q (by decide)
          · refine aw_aload_n cx dX7_copy_56 rfl 0 rfl ?_
            refine aw_iconst (n := 4) cx dX7_copy_57 (by decide) ?_
            refine aw_callV (as := [aI 4]) (k := 32) (stk := []) cx dX7_copy_58 ml_X7_177 mv_X7_meets rfl (lb_32 tl) (by decide) rfl rfl (Nat.le_of_ble_eq_true rfl) (ct_X7_meets tl M _ (by omega)) (fun rr58q M_58q hp58q => ?_)
            obtain ⟨z58q, rfl, hMuM_58, hxM_58⟩ := hp58q
            refine aw_eq (stk2 := [aI z58q]) ?_ rfl rfl rfl rfl
            refine aw_iret cx rt dX7_copy_61 ?_
            exact ⟨_, rfl, Or.inr (Or.inr (Or.inl ⟨by omega, by omega, by omega, by omega, hMuM_58⟩))⟩
        · refine aw_aload_n cx dX7_copy_35 rfl 0 rfl ?_
          refine aw_iconst (n := 1) cx dX7_copy_36 (by decide) ?_
          refine aw_callV (as := [aI 1]) (k := 32) (stk := []) cx dX7_copy_37 ml_X7_177 mv_X7_meets rfl (lb_32 tl) (by decide) rfl rfl (Nat.le_of_ble_eq_true rfl) (ct_X7_meets tl M _ (by omega)) (fun rr37q M_37q hp37q => ?_)
          obtain ⟨z37q, rfl, hMuM_37, hxM_37⟩ := hp37q
          refine aw_eq (stk2 := [aI z37q]) ?_ rfl rfl rfl rfl
          refine aw_iret cx rt dX7_copy_40 ?_
          exact ⟨_, rfl, Or.inr (Or.inl ⟨by omega, by omega, by omega, hMuM_37⟩)⟩
    · have d11q := b2_e0.mp (hz8q.symm.trans c11q)
      refine aw_bipush (n := (-2)) cx dX7_copy_14 (by decide) ?_
      refine aw_iret cx rt dX7_copy_16 ?_
      exact ⟨_, rfl, Or.inl ⟨by omega, rfl, rfl⟩⟩
set_option maxHeartbeats 1000000 in
set_option maxRecDepth 100000 in
theorem ct_X7_write (tl : List CD) (M : Mem) (town s : Int) (hj : JQ M) : Ct 8 mX7_write (LB ++ tl) [aR 32, aI town, aI s] M (fun r M1 => ∃ x, r = some (aI x) ∧ (((town < 0 ∨ 7 < town ∨ s < 0 ∨ 3 < s) ∧ x = -2 ∧ M1 = M) ∨ ((0 ≤ town ∧ town ≤ 7 ∧ 0 ≤ s ∧ s ≤ 3) ∧ M 60 s.toNat = 0 ∧ x = -11 ∧ M1 = up M 32 43 1) ∨ ((0 ≤ town ∧ town ≤ 7 ∧ 0 ≤ s ∧ s ≤ 3) ∧ M 60 s.toNat = 1 ∧ x = min 24 (M 62 s.toNat) ∧ FX (63 :: RC) RF M M1 ∧ M1 63 = WRT (fun i => max 0 (fSTD (-1) (fgT M) (i : Int) town.toNat)) (60 * s.toNat) (M 63) x.toNat))) := by
  refine Ct.of (own := RX7) rfl (by decide +kernel) (Nat.le_of_ble_eq_true rfl) (fun X cx rt => ?_)
  refine aw_eq (loc2 := [(0, aR 32), (1, aI town), (2, aI s)]) ?_ rfl rfl rfl rfl
  refine aw_rngL 1 rfl (fun rl_town rh_town => ?_)
  refine aw_rngL 2 rfl (fun rl_s rh_s => ?_)
  refine aw_ok (fun om => ?_)
  have o62 := okA om (lb_62 tl) s.toNat
  refine aw_iload_n cx dX7_write_0 rfl 1 rfl ?_
  refine aw_callS (as := [aI town]) (stk := []) cx dX7_write_1 ml_X7_132 ms_X7_isTown (by decide) rfl rfl (Nat.le_of_ble_eq_true rfl) (ct_X7_isTown tl M _ ) (fun rr1q M_1q hp1q => ?_)
  obtain ⟨rfl, rfl⟩ := hp1q
  refine aw_top (stk := []) (fun z1q hz1q => ?_)
  refine aw_if_eq (tgt := 14) cx dX7_write_4 (by decide) (fun c4q => ?_) (fun c4q => ?_)
  · have d4q := b2_e0.mp (hz1q.symm.trans c4q)
    refine aw_bipush (n := (-2)) cx dX7_write_14 (by decide) ?_
    refine aw_iret cx rt dX7_write_16 ?_
    exact ⟨_, rfl, Or.inl ⟨by omega, rfl, rfl⟩⟩
  · have d4q := b2_y hz1q c4q
    refine aw_iload_n cx dX7_write_7 rfl 2 rfl ?_
    refine aw_callS (as := [aI s]) (stk := []) cx dX7_write_8 ml_X7_174 ms_X7_isSheet (by decide) rfl rfl (Nat.le_of_ble_eq_true rfl) (ct_X7_isSheet tl M _ ) (fun rr8q M_8q hp8q => ?_)
    obtain ⟨rfl, rfl⟩ := hp8q
    refine aw_top (stk := []) (fun z8q hz8q => ?_)
    refine aw_if_ne (tgt := 17) cx dX7_write_11 (by decide) (fun c11q => ?_) (fun c11q => ?_)
    · have d11q := b2_y hz8q c11q
      refine aw_aload_n cx dX7_write_17 rfl 0 rfl ?_
      refine aw_getR (q := 60) cx dX7_write_18 fl_X7_91 (lb_32 tl) rfl rfl ?_
      refine aw_iload_n cx dX7_write_21 rfl 2 rfl ?_
      refine aw_zald cx dX7_write_22 (lb_60 tl) (⟨by omega, by omega⟩) (fun z22q hz22q lo_z22q hi_z22q => ?_)
      refine aw_if_ne (tgt := 32) cx dX7_write_23 (by decide) (fun c23q => ?_) (fun c23q => ?_)
      · refine aw_aload_n cx dX7_write_32 rfl 0 rfl ?_
        refine aw_callV (as := []) (k := 32) (stk := []) cx dX7_write_33 ml_X7_243 mv_X7_runsTold rfl (lb_32 tl) (by decide) rfl rfl (Nat.le_of_ble_eq_true rfl) (ct_X7_runsTold tl M  (hj)) (fun rr33q M_33q hp33q => ?_)
        obtain ⟨rfl, hfxM_33, hrdM_33, hnwM_33, hrfM_33⟩ := hp33q
        refine aw_eq (stk2 := []) ?_ rfl rfl rfl rfl
        obtain ⟨rf1, rf2, rf3, rf4, rf5, rf6, rf7⟩ := hrfM_33
        have f62 := congrFun (hfxM_33.at 62 (by decide)) s.toNat
        refine aw_iconst (n := 0) cx dX7_write_36 (by decide) ?_
        refine aw_istore_n (loc2 := [(3, aI 0), (0, aR 32), (1, aI town), (2, aI s)]) cx dX7_write_37 rfl (by decide) rfl ?_
        have lp38q : ∀ (fu : Nat) (x3q : Int) (N38q : Mem), (0 ≤ x3q ∧ x3q ≤ min 24 (M 62 s.toNat)) → (FX (63 :: RC) RF M N38q) → (N38q 52 = M_33q 52) → (N38q 63 = WRT (fun i => max 0 (fSTD (-1) (fgT M) (i : Int) town.toNat)) (60 * s.toNat) (M 63) x3q.toNat) → ((24 - x3q).toNat) < fu → AW X (LB ++ tl) 4 38 [(0, aR 32), (1, aI town), (2, aI s), (3, aI x3q)] [] N38q := by
          intro fu
          induction fu with
          | zero =>
            intro x3q N38q h0q hf h52q hx hm
            exact absurd hm (Nat.not_lt_zero _)
          | succ fu ih38q =>
            intro x3q N38q h0q hf h52q hx hm
            have g62 := congrFun (hf.at 62 (by decide)) s.toNat
            refine aw_iload_n cx dX7_write_38 rfl 3 rfl ?_
            refine aw_aload_n cx dX7_write_39 rfl 0 rfl ?_
            refine aw_getR (q := 62) cx dX7_write_40 fl_X7_98 (lb_32 tl) rfl rfl ?_
            refine aw_iload_n cx dX7_write_43 rfl 2 rfl ?_
            refine aw_iald cx dX7_write_44 (lb_62 tl) (⟨by omega, by omega⟩) (fun z44q hz44q lo_z44q hi_z44q => ?_)
            refine aw_icmp_ge (tgt := 77) cx dX7_write_45 (by decide) (fun c45q => ?_) (fun c45q => ?_)
            · refine aw_iload_n cx dX7_write_77 rfl 3 rfl ?_
              refine aw_iret cx rt dX7_write_78 ?_
              exact ⟨_, rfl, Or.inr (Or.inr ⟨by omega, by omega, by omega, hf, hx⟩)⟩
            · refine aw_iload_n cx dX7_write_48 rfl 3 rfl ?_
              refine aw_bipush (n := 24) cx dX7_write_49 (by decide) ?_
              refine aw_icmp_ge (tgt := 77) cx dX7_write_51 (by decide) (fun c51q => ?_) (fun c51q => ?_)
              · refine aw_iload_n cx dX7_write_77 rfl 3 rfl ?_
                refine aw_iret cx rt dX7_write_78 ?_
                exact ⟨_, rfl, Or.inr (Or.inr ⟨by omega, by omega, by omega, hf, hx⟩)⟩
              · refine aw_aload_n cx dX7_write_54 rfl 0 rfl ?_
                refine aw_iload_n cx dX7_write_55 rfl 2 rfl ?_
                refine aw_iload_n cx dX7_write_56 rfl 3 rfl ?_
                refine aw_aload_n cx dX7_write_57 rfl 0 rfl ?_
                refine aw_getR (q := 52) cx dX7_write_58 fl_X7_67 (lb_32 tl) rfl rfl ?_
                refine aw_bipush (n := 24) cx dX7_write_61 (by decide) ?_
                refine aw_iload_n cx dX7_write_63 rfl 1 rfl ?_
                refine aw_imul cx dX7_write_64 (by omega) (fun z64q hz64q => ?_)
                refine aw_iload_n cx dX7_write_65 rfl 3 rfl ?_
                refine aw_iadd cx dX7_write_66 (by omega) (fun z66q hz66q => ?_)
                refine aw_iald cx dX7_write_67 (lb_52 tl) (⟨by omega, by omega⟩) (fun z67q hz67q lo_z67q hi_z67q => ?_)
                refine aw_callV (as := [aI s, aI x3q, aI z67q]) (k := 32) (stk := []) cx dX7_write_68 ml_X7_355 mv_X7_keep rfl (lb_32 tl) (by decide) rfl rfl (Nat.le_of_ble_eq_true rfl) (ct_X7_keep tl N38q _ _ _ (by omega) (by omega)) (fun rr68q M_68q hp68q => ?_)
                obtain ⟨rfl, hMuM_68⟩ := hp68q
                refine aw_eq (stk2 := []) ?_ rfl rfl rfl rfl
                refine aw_iinc cx dX7_write_71 3 rfl (by decide) (by omega) (fun z71q hz71q => ?_)
                refine aw_loc (loc2 := [(3, aI z71q), (0, aR 32), (1, aI town), (2, aI s)]) rfl ?_
                refine aw_goto (tgt := 38) cx dX7_write_74 (by decide) ?_
                refine aw_sub [1, 2, 3, 0] rfl ?_
                refine ih38q _ _  ?i_h0 ?i_hf ?i_h52 ?i_hx ?i_m
                case i_h0 =>
                  omega
                case i_hf =>
                  exact hf.pc hMuM_68 (by decide)
                case i_h52 =>
                  rw [up_of hMuM_68 (by decide)]; exact h52q
                case i_hx =>
                  have q4q := (rf4 town.toNat (by omega) x3q.toNat (by omega)).1
                  have e67q : z67q = max 0 (fSTD (-1) (fgT M) ((x3q.toNat : Nat) : Int) town.toNat) := by rw [hz67q, h52q, show z66q.toNat = 24 * town.toNat + x3q.toNat by omega]; exact q4q
                  rw [up_rw hMuM_68, hz71q, tn_s h0q.1]
                  exact WRT_s hx (by omega) (by rw [CUT_sm (by omega)]; exact e67q)
                case i_m =>
                  omega
        refine aw_sub [1, 2, 3, 0] rfl ?_
        refine lp38q _ _ _  ?i_h0 ?i_hf ?i_h52 ?i_hx (Nat.lt_succ_self _)
        case i_h0 =>
          omega
        case i_hf =>
          exact hfxM_33.mono (by decide) (by decide)
        case i_h52 =>
          rfl
        case i_hx =>
          rw [hfxM_33.at 63 (by decide)]; exact WRT_0.symm
      · refine aw_aload_n cx dX7_write_26 rfl 0 rfl ?_
        refine aw_iconst (n := 1) cx dX7_write_27 (by decide) ?_
        refine aw_callV (as := [aI 1]) (k := 32) (stk := []) cx dX7_write_28 ml_X7_177 mv_X7_meets rfl (lb_32 tl) (by decide) rfl rfl (Nat.le_of_ble_eq_true rfl) (ct_X7_meets tl M _ (by omega)) (fun rr28q M_28q hp28q => ?_)
        obtain ⟨z28q, rfl, hMuM_28, hxM_28⟩ := hp28q
        refine aw_eq (stk2 := [aI z28q]) ?_ rfl rfl rfl rfl
        refine aw_iret cx rt dX7_write_31 ?_
        exact ⟨_, rfl, Or.inr (Or.inl ⟨by omega, by omega, by omega, hMuM_28⟩)⟩
    · have d11q := b2_e0.mp (hz8q.symm.trans c11q)
      refine aw_bipush (n := (-2)) cx dX7_write_14 (by decide) ?_
      refine aw_iret cx rt dX7_write_16 ?_
      exact ⟨_, rfl, Or.inl ⟨by omega, rfl, rfl⟩⟩
set_option maxHeartbeats 1000000 in
set_option maxRecDepth 100000 in
theorem ct_X7_read (tl : List CD) (M : Mem) (s : Int) : Ct 3 mX7_read (LB ++ tl) [aR 32, aI s] M (fun r M1 => ∃ x, r = some (aI x) ∧ (((s < 0 ∨ 3 < s) ∧ x = -2 ∧ M1 = M) ∨ ((0 ≤ s ∧ s ≤ 3) ∧ M 60 s.toNat = 0 ∧ x = -11 ∧ M1 = up M 32 43 1) ∨ ((0 ≤ s ∧ s ≤ 3) ∧ M 60 s.toNat = 1 ∧ FX [41, 42, 43] [11] M M1 ∧ RDX (fun i => M 63 (60 * s.toNat + i)) (M 62 s.toNat).toNat (M 32 11) x ∧ M1 32 11 = M 32 11 + x ∧ M1 41 = RDA (M 41) (fun i => M 63 (60 * s.toNat + i)) (M 32 11) x 0 ∧ M1 42 = RDA (M 42) (fun i => M 63 (60 * s.toNat + i)) (M 32 11) x 1 ∧ M1 43 = RDA (M 43) (fun i => M 63 (60 * s.toNat + i)) (M 32 11) x 2))) := by
  refine Ct.of (own := RX7) rfl (by decide +kernel) (Nat.le_of_ble_eq_true rfl) (fun X cx rt => ?_)
  refine aw_eq (loc2 := [(0, aR 32), (1, aI s)]) ?_ rfl rfl rfl rfl
  refine aw_rngL 1 rfl (fun rl_s rh_s => ?_)
  refine aw_ok (fun om => ?_)
  have hse : 0 ≤ M 32 11 ∧ M 32 11 ≤ 8 := okF om (lb_32 tl) (j := 11) rfl (show (0 : Nat) ≠ 1 by decide)
  have o62 := okA om (lb_62 tl) s.toNat
  refine aw_iload_n cx dX7_read_0 rfl 1 rfl ?_
  refine aw_callS (as := [aI s]) (stk := []) cx dX7_read_1 ml_X7_174 ms_X7_isSheet (by decide) rfl rfl (Nat.le_of_ble_eq_true rfl) (ct_X7_isSheet tl M _ ) (fun rr1q M_1q hp1q => ?_)
  obtain ⟨rfl, rfl⟩ := hp1q
  refine aw_top (stk := []) (fun z1q hz1q => ?_)
  refine aw_if_ne (tgt := 10) cx dX7_read_4 (by decide) (fun c4q => ?_) (fun c4q => ?_)
  · have d4q := b2_y hz1q c4q
    refine aw_aload_n cx dX7_read_10 rfl 0 rfl ?_
    refine aw_getR (q := 60) cx dX7_read_11 fl_X7_91 (lb_32 tl) rfl rfl ?_
    refine aw_iload_n cx dX7_read_14 rfl 1 rfl ?_
    refine aw_zald cx dX7_read_15 (lb_60 tl) (⟨by omega, by omega⟩) (fun z15q hz15q lo_z15q hi_z15q => ?_)
    refine aw_if_ne (tgt := 25) cx dX7_read_16 (by decide) (fun c16q => ?_) (fun c16q => ?_)
    · refine aw_iconst (n := 0) cx dX7_read_25 (by decide) ?_
      refine aw_istore_n (loc2 := [(2, aI 0), (0, aR 32), (1, aI s)]) cx dX7_read_26 rfl (by decide) rfl ?_
      refine aw_bipush (n := 60) cx dX7_read_27 (by decide) ?_
      refine aw_iload_n cx dX7_read_29 rfl 2 rfl ?_
      refine aw_imul cx dX7_read_30 (by omega) (fun z30q hz30q => ?_)
      refine aw_istore_n (loc2 := [(3, aI z30q), (2, aI 0), (0, aR 32), (1, aI s)]) cx dX7_read_31 rfl (by decide) rfl ?_
      have lp32q : ∀ (fu : Nat) (x2q : Int) (N32q : Mem), (0 ≤ x2q ∧ x2q ≤ 20) → (FX [41, 42, 43] [11] M N32q) → (N32q 32 11 = M 32 11 + x2q) → (N32q 41 = RDA (M 41) (fun i => M 63 (60 * s.toNat + i)) (M 32 11) x2q 0) → (N32q 42 = RDA (M 42) (fun i => M 63 (60 * s.toNat + i)) (M 32 11) x2q 1) → (N32q 43 = RDA (M 43) (fun i => M 63 (60 * s.toNat + i)) (M 32 11) x2q 2) → (∀ j : Nat, (j : Int) < x2q → 3 * j + 2 < (M 62 s.toNat).toNat ∧ EVK (fun i => M 63 (60 * s.toNat + i)) j ∧ M 32 11 + j < 8) → ((20 - x2q).toNat) < fu → AW X (LB ++ tl) 4 32 [(0, aR 32), (1, aI s), (2, aI x2q), (3, aI z30q)] [] N32q := by
        intro fu
        induction fu with
        | zero =>
          intro x2q N32q h0q hf hsz ha0 ha1 ha2 hall hm
          exact absurd hm (Nat.not_lt_zero _)
        | succ fu ih32q =>
          intro x2q N32q h0q hf hsz ha0 ha1 ha2 hall hm
          have g62 := congrFun (hf.at 62 (by decide)) s.toNat
          refine aw_iconst (n := 3) cx dX7_read_32 (by decide) ?_
          refine aw_iload_n cx dX7_read_33 rfl 2 rfl ?_
          refine aw_imul cx dX7_read_34 (by omega) (fun z34q hz34q => ?_)
          refine aw_iconst (n := 2) cx dX7_read_35 (by decide) ?_
          refine aw_iadd cx dX7_read_36 (by omega) (fun z36q hz36q => ?_)
          refine aw_aload_n cx dX7_read_37 rfl 0 rfl ?_
          refine aw_getR (q := 62) cx dX7_read_38 fl_X7_98 (lb_32 tl) rfl rfl ?_
          refine aw_iload_n cx dX7_read_41 rfl 1 rfl ?_
          refine aw_iald cx dX7_read_42 (lb_62 tl) (⟨by omega, by omega⟩) (fun z42q hz42q lo_z42q hi_z42q => ?_)
          refine aw_icmp_ge (tgt := 93) cx dX7_read_43 (by decide) (fun c43q => ?_) (fun c43q => ?_)
          · refine aw_iload_n cx dX7_read_93 rfl 2 rfl ?_
            refine aw_iret cx rt dX7_read_94 ?_
            exact ⟨x2q, rfl, Or.inr (Or.inr ⟨by omega, by omega, hf, ⟨h0q.1, hall, Or.inl (by omega)⟩, hsz, ha0, ha1, ha2⟩)⟩
          · refine aw_aload_n cx dX7_read_46 rfl 0 rfl ?_
            refine aw_aload_n cx dX7_read_47 rfl 0 rfl ?_
            refine aw_getR (q := 63) cx dX7_read_48 fl_X7_101 (lb_32 tl) rfl rfl ?_
            refine aw_iload_n cx dX7_read_51 rfl 3 rfl ?_
            refine aw_iconst (n := 3) cx dX7_read_52 (by decide) ?_
            refine aw_iload_n cx dX7_read_53 rfl 2 rfl ?_
            refine aw_imul cx dX7_read_54 (by omega) (fun z54q hz54q => ?_)
            refine aw_iadd cx dX7_read_55 (by omega) (fun z55q hz55q => ?_)
            refine aw_iald cx dX7_read_56 (lb_63 tl) (⟨by omega, by omega⟩) (fun z56q hz56q lo_z56q hi_z56q => ?_)
            refine aw_aload_n cx dX7_read_57 rfl 0 rfl ?_
            refine aw_getR (q := 63) cx dX7_read_58 fl_X7_101 (lb_32 tl) rfl rfl ?_
            refine aw_iload_n cx dX7_read_61 rfl 3 rfl ?_
            refine aw_iconst (n := 3) cx dX7_read_62 (by decide) ?_
            refine aw_iload_n cx dX7_read_63 rfl 2 rfl ?_
            refine aw_imul cx dX7_read_64 (by omega) (fun z64q hz64q => ?_)
            refine aw_iadd cx dX7_read_65 (by omega) (fun z65q hz65q => ?_)
            refine aw_iconst (n := 1) cx dX7_read_66 (by decide) ?_
            refine aw_iadd cx dX7_read_67 (by omega) (fun z67q hz67q => ?_)
            refine aw_iald cx dX7_read_68 (lb_63 tl) (⟨by omega, by omega⟩) (fun z68q hz68q lo_z68q hi_z68q => ?_)
            refine aw_aload_n cx dX7_read_69 rfl 0 rfl ?_
            refine aw_getR (q := 63) cx dX7_read_70 fl_X7_101 (lb_32 tl) rfl rfl ?_
            refine aw_iload_n cx dX7_read_73 rfl 3 rfl ?_
            refine aw_iconst (n := 3) cx dX7_read_74 (by decide) ?_
            refine aw_iload_n cx dX7_read_75 rfl 2 rfl ?_
            refine aw_imul cx dX7_read_76 (by omega) (fun z76q hz76q => ?_)
            refine aw_iadd cx dX7_read_77 (by omega) (fun z77q hz77q => ?_)
            refine aw_iconst (n := 2) cx dX7_read_78 (by decide) ?_
            refine aw_iadd cx dX7_read_79 (by omega) (fun z79q hz79q => ?_)
            refine aw_iald cx dX7_read_80 (lb_63 tl) (⟨by omega, by omega⟩) (fun z80q hz80q lo_z80q hi_z80q => ?_)
            refine aw_callV (as := [aI z56q, aI z68q, aI z80q]) (k := 32) (stk := []) cx dX7_read_81 ml_X7_180 mv_X7_event rfl (lb_32 tl) (by decide) rfl rfl (Nat.le_of_ble_eq_true rfl) (ct_X7_event tl N32q _ _ _ ) (fun rr81q M_81q hp81q => ?_)
            obtain ⟨z81q, rfl, hevM_81⟩ := hp81q
            refine aw_eq (stk2 := [aI z81q]) ?_ rfl rfl rfl rfl
            have e56q : z56q = (fun i => M 63 (60 * s.toNat + i)) (3 * x2q.toNat) := by rw [hz56q, hf.at 63 (by decide)]; show M 63 _ = M 63 _; congr 1; omega
            have e68q : z68q = (fun i => M 63 (60 * s.toNat + i)) (3 * x2q.toNat + 1) := by rw [hz68q, hf.at 63 (by decide)]; show M 63 _ = M 63 _; congr 1; omega
            have e80q : z80q = (fun i => M 63 (60 * s.toNat + i)) (3 * x2q.toNat + 2) := by rw [hz80q, hf.at 63 (by decide)]; show M 63 _ = M 63 _; congr 1; omega
            refine aw_if_le (tgt := 93) cx dX7_read_84 (by decide) (fun c84q => ?_) (fun c84q => ?_)
            · refine aw_iload_n cx dX7_read_93 rfl 2 rfl ?_
              refine aw_iret cx rt dX7_read_94 ?_
              have hg : M_81q = N32q ∧ (¬ EVK (fun i => M 63 (60 * s.toNat + i)) x2q.toNat ∨ M 32 11 + x2q = 8) := by
                rcases hevM_81 with g | g | g
                · refine ⟨g.2.2, Or.inl (fun k => ?_)⟩
                  unfold EVK at k
                  rw [← e56q, ← e68q, ← e80q] at k
                  omega
                · exact ⟨g.2.2.2, Or.inr (by omega)⟩
                · have := g.2.2.1; exfalso; omega
              rw [hg.1]
              exact ⟨x2q, rfl, Or.inr (Or.inr ⟨by omega, by omega, hf, ⟨h0q.1, hall, Or.inr hg.2⟩, hsz, ha0, ha1, ha2⟩)⟩
            · have hg : (M_81q 32 11 = N32q 32 11 + 1 ∧ FX [41, 42, 43] [11] N32q M_81q ∧ N32q 32 11 < 8 ∧ (0 ≤ z56q ∧ z56q ≤ 2 ∧ 0 ≤ z68q ∧ z68q ≤ 23 ∧ 0 ≤ z80q ∧ z80q ≤ 9)) ∧ M_81q 41 = up1 (N32q 41) (N32q 32 11).toNat z56q ∧ M_81q 42 = up1 (N32q 42) (N32q 32 11).toNat z68q ∧ M_81q 43 = up1 (N32q 43) (N32q 32 11).toNat z80q := by
                rcases hevM_81 with g | g | g
                · have := g.2.1; exfalso; omega
                · have := g.2.2.1; exfalso; omega
                · exact ⟨⟨g.2.2.2.2.1, g.2.2.2.1, g.2.1, g.1⟩, g.2.2.2.2.2⟩
              obtain ⟨⟨g1, g2, g3, g4⟩, g5, g6, g7⟩ := hg
              refine aw_iinc cx dX7_read_87 2 rfl (by decide) (by omega) (fun z87q hz87q => ?_)
              refine aw_loc (loc2 := [(2, aI z87q), (0, aR 32), (1, aI s), (3, aI z30q)]) rfl ?_
              refine aw_goto (tgt := 32) cx dX7_read_90 (by decide) ?_
              refine aw_sub [1, 2, 0, 3] rfl ?_
              refine ih32q _ _  ?i_h0 ?i_hf ?i_hsz ?i_ha0 ?i_ha1 ?i_ha2 ?i_hall ?i_m
              case i_h0 =>
                omega
              case i_hf =>
                exact hf.tr g2 (by decide) (by decide)
              case i_hsz =>
                omega
              case i_ha0 =>
                rw [g5, hz87q]; exact RDA_s hse.1 h0q.1 ha0 (by omega) e56q
              case i_ha1 =>
                rw [g6, hz87q]; exact RDA_s hse.1 h0q.1 ha1 (by omega) e68q
              case i_ha2 =>
                rw [g7, hz87q]; exact RDA_s hse.1 h0q.1 ha2 (by omega) e80q
              case i_hall =>
                intro j hj
                by_cases hjx : (j : Int) < x2q
                · exact hall j hjx
                · have hje : j = x2q.toNat := by omega
                  subst hje
                  refine ⟨by omega, ?_, by omega⟩
                  unfold EVK
                  rw [← e56q, ← e68q, ← e80q]
                  exact g4
              case i_m =>
                omega
      refine aw_sub [2, 3, 1, 0] rfl ?_
      refine lp32q _ _ _  ?i_h0 ?i_hf ?i_hsz ?i_ha0 ?i_ha1 ?i_ha2 ?i_hall (Nat.lt_succ_self _)
      case i_h0 =>
        omega
      case i_hf =>
        exact FX.rf
      case i_hsz =>
        omega
      case i_ha0 =>
        exact RDA_0.symm
      case i_ha1 =>
        exact RDA_0.symm
      case i_ha2 =>
        exact RDA_0.symm
      case i_hall =>
        intro j hj; exfalso; omega
    · refine aw_aload_n cx dX7_read_19 rfl 0 rfl ?_
      refine aw_iconst (n := 1) cx dX7_read_20 (by decide) ?_
      refine aw_callV (as := [aI 1]) (k := 32) (stk := []) cx dX7_read_21 ml_X7_177 mv_X7_meets rfl (lb_32 tl) (by decide) rfl rfl (Nat.le_of_ble_eq_true rfl) (ct_X7_meets tl M _ (by omega)) (fun rr21q M_21q hp21q => ?_)
      obtain ⟨z21q, rfl, hMuM_21, hxM_21⟩ := hp21q
      refine aw_eq (stk2 := [aI z21q]) ?_ rfl rfl rfl rfl
      refine aw_iret cx rt dX7_read_24 ?_
      exact ⟨_, rfl, Or.inr (Or.inl ⟨by omega, by omega, by omega, hMuM_21⟩)⟩
  · have d4q := b2_e0.mp (hz1q.symm.trans c4q)
    refine aw_bipush (n := (-2)) cx dX7_read_7 (by decide) ?_
    refine aw_iret cx rt dX7_read_9 ?_
    exact ⟨_, rfl, Or.inl ⟨by omega, rfl, rfl⟩⟩
