set_option maxHeartbeats 1000000 in
set_option maxRecDepth 100000 in
theorem ct_X7_runsTold (tl : List CD) (M : Mem)  (hj : JQ M) : Ct 7 mX7_runsTold (LB ++ tl) [aR 32] M (fun r M1 => r = none ∧ FX RC RF M M1 ∧ RD M1 ∧ NOW M M1 ∧ RNF (-1) (fgT M) (qgT M) M1) := by
  refine Ct.of (own := RX7) rfl (by decide +kernel) (Nat.le_of_ble_eq_true rfl) (fun X cx rt => ?_)
  refine aw_eq (loc2 := [(0, aR 32)]) ?_ rfl rfl rfl rfl
  refine aw_aload_n cx dX7_runsTold_0 rfl 0 rfl ?_
  refine aw_callV (as := []) (k := 32) (stk := []) cx dX7_runsTold_1 ml_X7_234 mv_X7_asTold rfl (lb_32 tl) (by decide) rfl rfl (Nat.le_of_ble_eq_true rfl) (ct_X7_asTold tl M  (hj)) (fun rr1q M_1q hp1q => ?_)
  obtain ⟨rfl, hfxM_1, hrdM_1, hnwM_1⟩ := hp1q
  refine aw_eq (stk2 := []) ?_ rfl rfl rfl rfl
  refine aw_ok (fun om1k => ?_)
  have h44k : ∀ j, 0 ≤ M_1q 44 j := fun j => (okA om1k (lb_44 tl) j).1
  have h7k : 0 ≤ M_1q 32 7 ∧ M_1q 32 7 ≤ 8 := okF om1k (lb_32 tl) (j := 7) rfl (show (0 : Nat) ≠ 1 by decide)
  refine aw_aload_n cx dX7_runsTold_4 rfl 0 rfl ?_
  refine aw_callV (as := []) (k := 32) (stk := []) cx dX7_runsTold_5 ml_X7_237 mv_X7_runs rfl (lb_32 tl) (by decide) rfl rfl (Nat.le_of_ble_eq_true rfl) (ct_X7_runs tl M_1q  ) (fun rr5q M_5q hp5q => ?_)
  obtain ⟨rfl, hfxM_5, hrnM_5⟩ := hp5q
  refine aw_eq (stk2 := []) ?_ rfl rfl rfl rfl
  refine aw_vret cx rt dX7_runsTold_8 ?_
  exact ⟨rfl, (hfxM_1.mono (by decide) (by decide)).tr hfxM_5 (by decide) (by decide), RD_fx hrdM_1 hfxM_5 (by decide), NOW_fx hnwM_1 hfxM_5 (by decide), NOW_f hj hfxM_1 (by decide) hrdM_1 hnwM_1 h44k (by omega) hrnM_5⟩
set_option maxHeartbeats 1000000 in
set_option maxRecDepth 100000 in
theorem ct_X7_many (tl : List CD) (M : Mem) (b : Int) (hb : 0 ≤ b ∧ b < 2147483648) : Ct 1 mX7_many (LB ++ tl) [aI b] M (fun r M1 => M = M1 ∧ r = some (aI (PCN b))) := by
  refine Ct.of (own := RX7) rfl (by decide +kernel) (Nat.le_of_ble_eq_true rfl) (fun X cx rt => ?_)
  refine aw_eq (loc2 := [(0, aI b)]) ?_ rfl rfl rfl rfl
  refine aw_rngL 0 rfl (fun rl_b rh_b => ?_)
  refine aw_iconst (n := 0) cx dX7_many_0 (by decide) ?_
  refine aw_istore_n (loc2 := [(1, aI 0), (0, aI b)]) cx dX7_many_1 rfl (by decide) rfl ?_
  refine aw_iconst (n := 0) cx dX7_many_2 (by decide) ?_
  refine aw_istore_n (loc2 := [(2, aI 0), (1, aI 0), (0, aI b)]) cx dX7_many_3 rfl (by decide) rfl ?_
  have lp4q : ∀ (fu : Nat) (x1q : Int) (x2q : Int), (0 ≤ x2q ∧ x2q ≤ 12) → (0 ≤ x1q ∧ x1q ≤ x2q) → (x1q = sm (fun k => b2 (BT b k)) x2q.toNat) → ((12 - x2q).toNat) < fu → AW X (LB ++ tl) 3 4 [(0, aI b), (1, aI x1q), (2, aI x2q)] [] M := by
    intro fu
    induction fu with
    | zero =>
      intro x1q x2q h0q h1q hx hm
      exact absurd hm (Nat.not_lt_zero _)
    | succ fu ih4q =>
      intro x1q x2q h0q h1q hx hm
      refine aw_iload_n cx dX7_many_4 rfl 2 rfl ?_
      refine aw_bipush (n := 12) cx dX7_many_5 (by decide) ?_
      refine aw_icmp_ge (tgt := 32) cx dX7_many_7 (by decide) (fun c7q => ?_) (fun c7q => ?_)
      · refine aw_iload_n cx dX7_many_32 rfl 1 rfl ?_
        refine aw_iret cx rt dX7_many_33 ?_
        exact ⟨rfl, congrArg (fun q => some (aI q)) (by rw [hx, show x2q.toNat = 12 by omega]; rfl)⟩
      · refine aw_iload_n cx dX7_many_10 rfl 1 rfl ?_
        refine aw_iload_n cx dX7_many_11 rfl 0 rfl ?_
        refine aw_iload_n cx dX7_many_12 rfl 2 rfl ?_
        refine aw_callS (as := [aI b, aI x2q]) (stk := [aI x1q]) cx dX7_many_13 ml_X7_196 ms_X7_isIn (by decide) rfl rfl (Nat.le_of_ble_eq_true rfl) (ct_X7_isIn tl M _ _ (by omega) (by omega)) (fun rr13q M_13q hp13q => ?_)
        obtain ⟨rfl, rfl⟩ := hp13q
        refine aw_top (stk := [aI x1q]) (fun z13q hz13q => ?_)
        refine aw_if_eq (tgt := 23) cx dX7_many_16 (by decide) (fun c16q => ?_) (fun c16q => ?_)
        · have d16q := b2_e0.mp (hz13q.symm.trans c16q)
          refine aw_iconst (n := 0) cx dX7_many_23 (by decide) ?_
          refine aw_iadd cx dX7_many_24 (by omega) (fun z24q hz24q => ?_)
          refine aw_istore_n (loc2 := [(1, aI z24q), (0, aI b), (2, aI x2q)]) cx dX7_many_25 rfl (by decide) rfl ?_
          refine aw_iinc cx dX7_many_26 2 rfl (by decide) (by omega) (fun z26q hz26q => ?_)
          refine aw_loc (loc2 := [(2, aI z26q), (1, aI z24q), (0, aI b)]) rfl ?_
          refine aw_goto (tgt := 4) cx dX7_many_29 (by decide) ?_
          refine aw_sub [2, 1, 0] rfl ?_
          refine ih4q _ _  ?i_h0 ?i_h1 ?i_hx ?i_m
          case i_h0 =>
            omega
          case i_h1 =>
            omega
          case i_hx =>
            rw [hz26q, sm_i h0q.1]; first | (rw [b2_t d16q]; omega) | (rw [b2_f d16q]; omega)
          case i_m =>
            omega
        · have d16q := b2_y hz13q c16q
          refine aw_iconst (n := 1) cx dX7_many_19 (by decide) ?_
          refine aw_goto (tgt := 24) cx dX7_many_20 (by decide) ?_
          refine aw_iadd cx dX7_many_24 (by omega) (fun z24q hz24q => ?_)
          refine aw_istore_n (loc2 := [(1, aI z24q), (0, aI b), (2, aI x2q)]) cx dX7_many_25 rfl (by decide) rfl ?_
          refine aw_iinc cx dX7_many_26 2 rfl (by decide) (by omega) (fun z26q hz26q => ?_)
          refine aw_loc (loc2 := [(2, aI z26q), (1, aI z24q), (0, aI b)]) rfl ?_
          refine aw_goto (tgt := 4) cx dX7_many_29 (by decide) ?_
          refine aw_sub [2, 1, 0] rfl ?_
          refine ih4q _ _  ?i_h0 ?i_h1 ?i_hx ?i_m
          case i_h0 =>
            omega
          case i_h1 =>
            omega
          case i_hx =>
            rw [hz26q, sm_i h0q.1]; first | (rw [b2_t d16q]; omega) | (rw [b2_f d16q]; omega)
          case i_m =>
            omega
  refine aw_sub [2, 1, 0] rfl ?_
  refine lp4q _ _ _  ?i_h0 ?i_h1 ?i_hx (Nat.lt_succ_self _)
  case i_h0 =>
    omega
  case i_h1 =>
    omega
  case i_hx =>
    rfl
set_option maxHeartbeats 1000000 in
set_option maxRecDepth 100000 in
theorem ct_X7_clashOf (tl : List CD) (M : Mem) (i j : Int) (hj : JQ M) (hi1 : 0 ≤ i ∧ i < M 5 4) (hi2 : 0 ≤ j ∧ j < M 5 4) : Ct 7 mX7_clashOf (LB ++ tl) [aR 32, aI i, aI j] M (fun r M1 => ∃ x, r = some (aI x) ∧ FX RC RF M M1 ∧ RD M1 ∧ (x = b2 (AP (M 8) (M 7) (M 6) i.toNat j.toNat))) := by
  refine Ct.of (own := RX7) rfl (by decide +kernel) (Nat.le_of_ble_eq_true rfl) (fun X cx rt => ?_)
  refine aw_eq (loc2 := [(0, aR 32), (1, aI i), (2, aI j)]) ?_ rfl rfl rfl rfl
  refine aw_rngL 1 rfl (fun rl_i rh_i => ?_)
  refine aw_rngL 2 rfl (fun rl_j rh_j => ?_)
  refine aw_ok (fun om => ?_)
  have hsz : 0 ≤ M 5 4 ∧ M 5 4 ≤ 12 := okF om (lb_5 tl) (j := 4) rfl (show (0 : Nat) ≠ 1 by decide)
  refine aw_aload_n cx dX7_clashOf_0 rfl 0 rfl ?_
  refine aw_callV (as := []) (k := 32) (stk := []) cx dX7_clashOf_1 ml_X7_234 mv_X7_asTold rfl (lb_32 tl) (by decide) rfl rfl (Nat.le_of_ble_eq_true rfl) (ct_X7_asTold tl M  (hj)) (fun rr1q M_1q hp1q => ?_)
  obtain ⟨rfl, hfxM_1, hrdM_1, hnwM_1⟩ := hp1q
  refine aw_eq (stk2 := []) ?_ rfl rfl rfl rfl
  have n4 := hnwM_1.2.2.2
  refine aw_aload_n cx dX7_clashOf_4 rfl 0 rfl ?_
  refine aw_iload_n cx dX7_clashOf_5 rfl 1 rfl ?_
  refine aw_iload_n cx dX7_clashOf_6 rfl 2 rfl ?_
  refine aw_callV (as := [aI i, aI j]) (k := 32) (stk := []) cx dX7_clashOf_7 ml_X7_200 mv_X7_clashes rfl (lb_32 tl) (by decide) rfl rfl (Nat.le_of_ble_eq_true rfl) (ct_X7_clashes tl M_1q _ _ (by omega) (by omega)) (fun rr7q M_7q hp7q => ?_)
  obtain ⟨rfl, rfl⟩ := hp7q
  refine aw_top (stk := []) (fun z7q hz7q => ?_)
  have na := n4 i.toNat (by omega)
  have nb := n4 j.toNat (by omega)
  have hap : AP (M_1q 46) (M_1q 45) (M_1q 44) i.toNat j.toNat ↔ AP (M 8) (M 7) (M 6) i.toNat j.toNat := by unfold AP; rw [na.1, na.2.1, na.2.2.1, nb.1, nb.2.1, nb.2.2.1]
  refine aw_if_eq (tgt := 17) cx dX7_clashOf_10 (by decide) (fun c10q => ?_) (fun c10q => ?_)
  · have d10q := b2_e0.mp (hz7q.symm.trans c10q)
    refine aw_iconst (n := 0) cx dX7_clashOf_17 (by decide) ?_
    refine aw_iret cx rt dX7_clashOf_18 ?_
    exact ⟨_, rfl, hfxM_1.mono (by decide) (by decide), hrdM_1, b2_0 (by rw [← hap]; exact d10q)⟩
  · have d10q := b2_y hz7q c10q
    refine aw_iconst (n := 1) cx dX7_clashOf_13 (by decide) ?_
    refine aw_goto (tgt := 18) cx dX7_clashOf_14 (by decide) ?_
    refine aw_iret cx rt dX7_clashOf_18 ?_
    exact ⟨_, rfl, hfxM_1.mono (by decide) (by decide), hrdM_1, b2_1 (by rw [← hap]; exact d10q)⟩
set_option maxHeartbeats 1000000 in
set_option maxRecDepth 100000 in
theorem ct_X7_clash (tl : List CD) (M : Mem) (i j : Int) (hj : JQ M) : Ct 8 mX7_clash (LB ++ tl) [aR 32, aI i, aI j] M (fun r M1 => ∃ x, r = some (aI x) ∧ FX RC RF M M1 ∧ (((i < 0 ∨ M 5 4 ≤ i ∨ j < 0 ∨ M 5 4 ≤ j ∨ i = j) ∧ x = -2) ∨ (0 ≤ i ∧ i < M 5 4 ∧ 0 ≤ j ∧ j < M 5 4 ∧ i ≠ j ∧ x = b2 (AP (M 8) (M 7) (M 6) i.toNat j.toNat)))) := by
  refine Ct.of (own := RX7) rfl (by decide +kernel) (Nat.le_of_ble_eq_true rfl) (fun X cx rt => ?_)
  refine aw_eq (loc2 := [(0, aR 32), (1, aI i), (2, aI j)]) ?_ rfl rfl rfl rfl
  refine aw_rngL 1 rfl (fun rl_i rh_i => ?_)
  refine aw_rngL 2 rfl (fun rl_j rh_j => ?_)
  refine aw_ok (fun om => ?_)
  have hsz : 0 ≤ M 5 4 ∧ M 5 4 ≤ 12 := okF om (lb_5 tl) (j := 4) rfl (show (0 : Nat) ≠ 1 by decide)
  refine aw_aload_n cx dX7_clash_0 rfl 0 rfl ?_
  refine aw_iload_n cx dX7_clash_1 rfl 1 rfl ?_
  refine aw_callV (as := [aI i]) (k := 32) (stk := []) cx dX7_clash_2 ml_X7_156 mv_X7_isTale rfl (lb_32 tl) (by decide) rfl rfl (Nat.le_of_ble_eq_true rfl) (ct_X7_isTale tl M _ (hj.1)) (fun rr2q M_2q hp2q => ?_)
  obtain ⟨z2q, rfl, hfxM_2, hrdM_2, hisM_2⟩ := hp2q
  refine aw_eq (stk2 := [aI z2q]) ?_ rfl rfl rfl rfl
  refine aw_if_eq (tgt := 30) cx dX7_clash_5 (by decide) (fun c5q => ?_) (fun c5q => ?_)
  · refine aw_bipush (n := (-2)) cx dX7_clash_30 (by decide) ?_
    refine aw_iret cx rt dX7_clash_32 ?_
    first | exact ⟨_, rfl, fxb.tr hfxM_24 (by decide) (by decide), Or.inr ⟨by omega, by omega, by omega, by omega, by omega, hanM_24⟩⟩ | exact ⟨_, rfl, fxb, Or.inl ⟨by omega, rfl⟩⟩ | exact ⟨_, rfl, hfxM_2.mono (by decide) (by decide), Or.inl ⟨by omega, rfl⟩⟩
  · refine aw_aload_n cx dX7_clash_8 rfl 0 rfl ?_
    refine aw_iload_n cx dX7_clash_9 rfl 2 rfl ?_
    refine aw_callV (as := [aI j]) (k := 32) (stk := []) cx dX7_clash_10 ml_X7_156 mv_X7_isTale rfl (lb_32 tl) (by decide) rfl rfl (Nat.le_of_ble_eq_true rfl) (ct_X7_isTale tl M_2q _ ((JQ_fx hj hfxM_2 (by decide)).1)) (fun rr10q M_10q hp10q => ?_)
    obtain ⟨z10q, rfl, hfxM_10, hrdM_10, hisM_10⟩ := hp10q
    refine aw_eq (stk2 := [aI z10q]) ?_ rfl rfl rfl rfl
    rw [hfxM_2.at 5 (by decide)] at hisM_10
    have fxb : FX RC RF M M_10q := (hfxM_2.mono (by decide) (by decide)).tr hfxM_10 (by decide) (by decide)
    refine aw_if_eq (tgt := 30) cx dX7_clash_13 (by decide) (fun c13q => ?_) (fun c13q => ?_)
    · refine aw_bipush (n := (-2)) cx dX7_clash_30 (by decide) ?_
      refine aw_iret cx rt dX7_clash_32 ?_
      first | exact ⟨_, rfl, fxb.tr hfxM_24 (by decide) (by decide), Or.inr ⟨by omega, by omega, by omega, by omega, by omega, hanM_24⟩⟩ | exact ⟨_, rfl, fxb, Or.inl ⟨by omega, rfl⟩⟩ | exact ⟨_, rfl, hfxM_2.mono (by decide) (by decide), Or.inl ⟨by omega, rfl⟩⟩
    · refine aw_iload_n cx dX7_clash_16 rfl 1 rfl ?_
      refine aw_iload_n cx dX7_clash_17 rfl 2 rfl ?_
      refine aw_icmp_eq (tgt := 30) cx dX7_clash_18 (by decide) (fun c18q => ?_) (fun c18q => ?_)
      · refine aw_bipush (n := (-2)) cx dX7_clash_30 (by decide) ?_
        refine aw_iret cx rt dX7_clash_32 ?_
        first | exact ⟨_, rfl, fxb.tr hfxM_24 (by decide) (by decide), Or.inr ⟨by omega, by omega, by omega, by omega, by omega, hanM_24⟩⟩ | exact ⟨_, rfl, fxb, Or.inl ⟨by omega, rfl⟩⟩ | exact ⟨_, rfl, hfxM_2.mono (by decide) (by decide), Or.inl ⟨by omega, rfl⟩⟩
      · refine aw_aload_n cx dX7_clash_21 rfl 0 rfl ?_
        refine aw_iload_n cx dX7_clash_22 rfl 1 rfl ?_
        refine aw_iload_n cx dX7_clash_23 rfl 2 rfl ?_
        refine aw_callV (as := [aI i, aI j]) (k := 32) (stk := []) cx dX7_clash_24 ml_X7_240 mv_X7_clashOf rfl (lb_32 tl) (by decide) rfl rfl (Nat.le_of_ble_eq_true rfl) (ct_X7_clashOf tl M_10q _ _ (JQ_fx hj fxb (by decide)) (by rw [fxb.at 5 (by decide)]; omega) (by rw [fxb.at 5 (by decide)]; omega)) (fun rr24q M_24q hp24q => ?_)
        obtain ⟨z24q, rfl, hfxM_24, hrdM_24, hanM_24⟩ := hp24q
        refine aw_eq (stk2 := [aI z24q]) ?_ rfl rfl rfl rfl
        rw [fxb.at 8 (by decide), fxb.at 7 (by decide), fxb.at 6 (by decide)] at hanM_24
        refine aw_goto (tgt := 32) cx dX7_clash_27 (by decide) ?_
        refine aw_iret cx rt dX7_clash_32 ?_
        first | exact ⟨_, rfl, fxb.tr hfxM_24 (by decide) (by decide), Or.inr ⟨by omega, by omega, by omega, by omega, by omega, hanM_24⟩⟩ | exact ⟨_, rfl, fxb, Or.inl ⟨by omega, rfl⟩⟩ | exact ⟨_, rfl, hfxM_2.mono (by decide) (by decide), Or.inl ⟨by omega, rfl⟩⟩
set_option maxHeartbeats 1000000 in
set_option maxRecDepth 100000 in
theorem ct_X7_taleOf (tl : List CD) (M : Mem) (k what : Int) (hk : 0 ≤ k ∧ k < 13) : Ct 0 mX7_taleOf (LB ++ tl) [aR 32, aI k, aI what] M (fun r M1 => M = M1 ∧ ∃ x, r = some (aI x) ∧ ((what = 0 ∧ x = M 35 k.toNat) ∨ (what = 1 ∧ x = M 36 k.toNat) ∨ (what = 2 ∧ x = M 37 k.toNat) ∨ (what ≠ 0 ∧ what ≠ 1 ∧ what ≠ 2 ∧ x = M 38 k.toNat))) := by
  refine Ct.of (own := RX7) rfl (by decide +kernel) (Nat.le_of_ble_eq_true rfl) (fun X cx rt => ?_)
  refine aw_eq (loc2 := [(0, aR 32), (1, aI k), (2, aI what)]) ?_ rfl rfl rfl rfl
  refine aw_rngL 1 rfl (fun rl_k rh_k => ?_)
  refine aw_rngL 2 rfl (fun rl_what rh_what => ?_)
  refine aw_iload_n cx dX7_taleOf_0 rfl 2 rfl ?_
  refine aw_if_ne (tgt := 13) cx dX7_taleOf_1 (by decide) (fun c1q => ?_) (fun c1q => ?_)
  · refine aw_iload_n cx dX7_taleOf_13 rfl 2 rfl ?_
    refine aw_iconst (n := 1) cx dX7_taleOf_14 (by decide) ?_
    refine aw_icmp_ne (tgt := 27) cx dX7_taleOf_15 (by decide) (fun c15q => ?_) (fun c15q => ?_)
    · refine aw_iload_n cx dX7_taleOf_27 rfl 2 rfl ?_
      refine aw_iconst (n := 2) cx dX7_taleOf_28 (by decide) ?_
      refine aw_icmp_ne (tgt := 41) cx dX7_taleOf_29 (by decide) (fun c29q => ?_) (fun c29q => ?_)
      · refine aw_aload_n cx dX7_taleOf_41 rfl 0 rfl ?_
        refine aw_getR (q := 38) cx dX7_taleOf_42 fl_X7_25 (lb_32 tl) rfl rfl ?_
        refine aw_iload_n cx dX7_taleOf_45 rfl 1 rfl ?_
        refine aw_iald cx dX7_taleOf_46 (lb_38 tl) (⟨by omega, by omega⟩) (fun z46q hz46q lo_z46q hi_z46q => ?_)
        refine aw_iret cx rt dX7_taleOf_47 ?_
        exact ⟨rfl, _, rfl, by omega⟩
      · refine aw_aload_n cx dX7_taleOf_32 rfl 0 rfl ?_
        refine aw_getR (q := 37) cx dX7_taleOf_33 fl_X7_22 (lb_32 tl) rfl rfl ?_
        refine aw_iload_n cx dX7_taleOf_36 rfl 1 rfl ?_
        refine aw_iald cx dX7_taleOf_37 (lb_37 tl) (⟨by omega, by omega⟩) (fun z37q hz37q lo_z37q hi_z37q => ?_)
        refine aw_goto (tgt := 47) cx dX7_taleOf_38 (by decide) ?_
        refine aw_iret cx rt dX7_taleOf_47 ?_
        exact ⟨rfl, _, rfl, by omega⟩
    · refine aw_aload_n cx dX7_taleOf_18 rfl 0 rfl ?_
      refine aw_getR (q := 36) cx dX7_taleOf_19 fl_X7_19 (lb_32 tl) rfl rfl ?_
      refine aw_iload_n cx dX7_taleOf_22 rfl 1 rfl ?_
      refine aw_iald cx dX7_taleOf_23 (lb_36 tl) (⟨by omega, by omega⟩) (fun z23q hz23q lo_z23q hi_z23q => ?_)
      refine aw_goto (tgt := 47) cx dX7_taleOf_24 (by decide) ?_
      refine aw_iret cx rt dX7_taleOf_47 ?_
      exact ⟨rfl, _, rfl, by omega⟩
  · refine aw_aload_n cx dX7_taleOf_4 rfl 0 rfl ?_
    refine aw_getR (q := 35) cx dX7_taleOf_5 fl_X7_16 (lb_32 tl) rfl rfl ?_
    refine aw_iload_n cx dX7_taleOf_8 rfl 1 rfl ?_
    refine aw_iald cx dX7_taleOf_9 (lb_35 tl) (⟨by omega, by omega⟩) (fun z9q hz9q lo_z9q hi_z9q => ?_)
    refine aw_goto (tgt := 47) cx dX7_taleOf_10 (by decide) ?_
    refine aw_iret cx rt dX7_taleOf_47 ?_
    exact ⟨rfl, _, rfl, by omega⟩
set_option maxHeartbeats 1000000 in
set_option maxRecDepth 100000 in
theorem ct_X7_tale (tl : List CD) (M : Mem) (k what : Int) (hj : JQ M) : Ct 7 mX7_tale (LB ++ tl) [aR 32, aI k, aI what] M (fun r M1 => ∃ x, r = some (aI x) ∧ FX RC RF M M1 ∧ (aTale (M 5 4) (M 6) (M 7) (M 8) (M 9) k what x)) := by
  refine Ct.of (own := RX7) rfl (by decide +kernel) (Nat.le_of_ble_eq_true rfl) (fun X cx rt => ?_)
  refine aw_eq (loc2 := [(0, aR 32), (1, aI k), (2, aI what)]) ?_ rfl rfl rfl rfl
  refine aw_rngL 1 rfl (fun rl_k rh_k => ?_)
  refine aw_rngL 2 rfl (fun rl_what rh_what => ?_)
  refine aw_ok (fun om => ?_)
  have hsz : 0 ≤ M 5 4 ∧ M 5 4 ≤ 12 := okF om (lb_5 tl) (j := 4) rfl (show (0 : Nat) ≠ 1 by decide)
  refine aw_aload_n cx dX7_tale_0 rfl 0 rfl ?_
  refine aw_iload_n cx dX7_tale_1 rfl 1 rfl ?_
  refine aw_callV (as := [aI k]) (k := 32) (stk := []) cx dX7_tale_2 ml_X7_156 mv_X7_isTale rfl (lb_32 tl) (by decide) rfl rfl (Nat.le_of_ble_eq_true rfl) (ct_X7_isTale tl M _ (hj.1)) (fun rr2q M_2q hp2q => ?_)
  obtain ⟨z2q, rfl, hfxM_2, hrdM_2, hisM_2⟩ := hp2q
  refine aw_eq (stk2 := [aI z2q]) ?_ rfl rfl rfl rfl
  refine aw_if_eq (tgt := 26) cx dX7_tale_5 (by decide) (fun c5q => ?_) (fun c5q => ?_)
  · refine aw_bipush (n := (-2)) cx dX7_tale_26 (by decide) ?_
    refine aw_iret cx rt dX7_tale_28 ?_
    refine ⟨_, rfl, hfxM_2.mono (by decide) (by decide), ?_⟩
    unfold aTale
    omega
  · refine aw_iload_n cx dX7_tale_8 rfl 2 rfl ?_
    refine aw_iconst (n := 0) cx dX7_tale_9 (by decide) ?_
    refine aw_iconst (n := 3) cx dX7_tale_10 (by decide) ?_
    refine aw_callS (as := [aI what, aI 0, aI 3]) (stk := []) cx dX7_tale_11 ml_X7_113 ms_X7_in (by decide) rfl rfl (Nat.le_of_ble_eq_true rfl) (ct_X7_in tl M_2q _ _ _ ) (fun rr11q M_11q hp11q => ?_)
    obtain ⟨rfl, rfl⟩ := hp11q
    refine aw_top (stk := []) (fun z11q hz11q => ?_)
    refine aw_if_eq (tgt := 26) cx dX7_tale_14 (by decide) (fun c14q => ?_) (fun c14q => ?_)
    · have d14q := b2_e0.mp (hz11q.symm.trans c14q)
      refine aw_bipush (n := (-2)) cx dX7_tale_26 (by decide) ?_
      refine aw_iret cx rt dX7_tale_28 ?_
      refine ⟨_, rfl, hfxM_2.mono (by decide) (by decide), ?_⟩
      unfold aTale
      omega
    · have d14q := b2_y hz11q c14q
      refine aw_aload_n cx dX7_tale_17 rfl 0 rfl ?_
      refine aw_iload_n cx dX7_tale_18 rfl 1 rfl ?_
      refine aw_iload_n cx dX7_tale_19 rfl 2 rfl ?_
      refine aw_callV (as := [aI k, aI what]) (k := 32) (stk := []) cx dX7_tale_20 ml_X7_159 mv_X7_taleOf rfl (lb_32 tl) (by decide) rfl rfl (Nat.le_of_ble_eq_true rfl) (ct_X7_taleOf tl M_2q _ _ (by omega)) (fun rr20q M_20q hp20q => ?_)
      obtain ⟨rfl, z20q, rfl, htoz20⟩ := hp20q
      refine aw_eq (stk2 := [aI z20q]) ?_ rfl rfl rfl rfl
      have q := hrdM_2.2.1 k.toNat (by rw [hfxM_2.at 5 (by decide)]; omega)
      rw [hfxM_2.at 6 (by decide), hfxM_2.at 7 (by decide), hfxM_2.at 8 (by decide), hfxM_2.at 9 (by decide)] at q
      refine aw_goto (tgt := 28) cx dX7_tale_23 (by decide) ?_
      refine aw_iret cx rt dX7_tale_28 ?_
      refine ⟨_, rfl, hfxM_2.mono (by decide) (by decide), ?_⟩
      unfold aTale
      omega
set_option maxHeartbeats 1000000 in
set_option maxRecDepth 100000 in
theorem ct_X7_chargeOf (tl : List CD) (M : Mem) (k what : Int) (hk : 0 ≤ k ∧ k < 9) : Ct 0 mX7_chargeOf (LB ++ tl) [aR 32, aI k, aI what] M (fun r M1 => M = M1 ∧ ∃ x, r = some (aI x) ∧ ((what = 0 ∧ x = M 39 k.toNat) ∨ (what ≠ 0 ∧ x = M 40 k.toNat))) := by
  refine Ct.of (own := RX7) rfl (by decide +kernel) (Nat.le_of_ble_eq_true rfl) (fun X cx rt => ?_)
  refine aw_eq (loc2 := [(0, aR 32), (1, aI k), (2, aI what)]) ?_ rfl rfl rfl rfl
  refine aw_rngL 1 rfl (fun rl_k rh_k => ?_)
  refine aw_rngL 2 rfl (fun rl_what rh_what => ?_)
  refine aw_iload_n cx dX7_chargeOf_0 rfl 2 rfl ?_
  refine aw_if_ne (tgt := 13) cx dX7_chargeOf_1 (by decide) (fun c1q => ?_) (fun c1q => ?_)
  · refine aw_aload_n cx dX7_chargeOf_13 rfl 0 rfl ?_
    refine aw_getR (q := 40) cx dX7_chargeOf_14 fl_X7_31 (lb_32 tl) rfl rfl ?_
    refine aw_iload_n cx dX7_chargeOf_17 rfl 1 rfl ?_
    refine aw_iald cx dX7_chargeOf_18 (lb_40 tl) (⟨by omega, by omega⟩) (fun z18q hz18q lo_z18q hi_z18q => ?_)
    refine aw_iret cx rt dX7_chargeOf_19 ?_
    exact ⟨rfl, _, rfl, by omega⟩
  · refine aw_aload_n cx dX7_chargeOf_4 rfl 0 rfl ?_
    refine aw_getR (q := 39) cx dX7_chargeOf_5 fl_X7_28 (lb_32 tl) rfl rfl ?_
    refine aw_iload_n cx dX7_chargeOf_8 rfl 1 rfl ?_
    refine aw_iald cx dX7_chargeOf_9 (lb_39 tl) (⟨by omega, by omega⟩) (fun z9q hz9q lo_z9q hi_z9q => ?_)
    refine aw_goto (tgt := 19) cx dX7_chargeOf_10 (by decide) ?_
    refine aw_iret cx rt dX7_chargeOf_19 ?_
    exact ⟨rfl, _, rfl, by omega⟩
set_option maxHeartbeats 1000000 in
set_option maxRecDepth 100000 in
theorem ct_X7_charge (tl : List CD) (M : Mem) (k what : Int) (hj : JQ M) : Ct 7 mX7_charge (LB ++ tl) [aR 32, aI k, aI what] M (fun r M1 => ∃ x, r = some (aI x) ∧ FX RC RF M M1 ∧ (aCharge (M 15 2) (M 16) (M 17) k what x)) := by
  refine Ct.of (own := RX7) rfl (by decide +kernel) (Nat.le_of_ble_eq_true rfl) (fun X cx rt => ?_)
  refine aw_eq (loc2 := [(0, aR 32), (1, aI k), (2, aI what)]) ?_ rfl rfl rfl rfl
  refine aw_rngL 1 rfl (fun rl_k rh_k => ?_)
  refine aw_rngL 2 rfl (fun rl_what rh_what => ?_)
  refine aw_ok (fun om => ?_)
  have hcz : 0 ≤ M 15 2 ∧ M 15 2 ≤ 8 := okF om (lb_15 tl) (j := 2) rfl (show (0 : Nat) ≠ 1 by decide)
  refine aw_aload_n cx dX7_charge_0 rfl 0 rfl ?_
  refine aw_iload_n cx dX7_charge_1 rfl 1 rfl ?_
  refine aw_callV (as := [aI k]) (k := 32) (stk := []) cx dX7_charge_2 ml_X7_162 mv_X7_isCharge rfl (lb_32 tl) (by decide) rfl rfl (Nat.le_of_ble_eq_true rfl) (ct_X7_isCharge tl M _ (hj.1)) (fun rr2q M_2q hp2q => ?_)
  obtain ⟨z2q, rfl, hfxM_2, hrdM_2, hisM_2⟩ := hp2q
  refine aw_eq (stk2 := [aI z2q]) ?_ rfl rfl rfl rfl
  refine aw_if_eq (tgt := 24) cx dX7_charge_5 (by decide) (fun c5q => ?_) (fun c5q => ?_)
  · refine aw_bipush (n := (-2)) cx dX7_charge_24 (by decide) ?_
    refine aw_iret cx rt dX7_charge_26 ?_
    refine ⟨_, rfl, hfxM_2.mono (by decide) (by decide), ?_⟩
    unfold aCharge
    omega
  · refine aw_iload_n cx dX7_charge_8 rfl 2 rfl ?_
    refine aw_callS (as := [aI what]) (stk := []) cx dX7_charge_9 ml_X7_117 ms_X7_isTwo (by decide) rfl rfl (Nat.le_of_ble_eq_true rfl) (ct_X7_isTwo tl M_2q _ ) (fun rr9q M_9q hp9q => ?_)
    obtain ⟨rfl, rfl⟩ := hp9q
    refine aw_top (stk := []) (fun z9q hz9q => ?_)
    refine aw_if_eq (tgt := 24) cx dX7_charge_12 (by decide) (fun c12q => ?_) (fun c12q => ?_)
    · have d12q := b2_e0.mp (hz9q.symm.trans c12q)
      refine aw_bipush (n := (-2)) cx dX7_charge_24 (by decide) ?_
      refine aw_iret cx rt dX7_charge_26 ?_
      refine ⟨_, rfl, hfxM_2.mono (by decide) (by decide), ?_⟩
      unfold aCharge
      omega
    · have d12q := b2_y hz9q c12q
      refine aw_aload_n cx dX7_charge_15 rfl 0 rfl ?_
      refine aw_iload_n cx dX7_charge_16 rfl 1 rfl ?_
      refine aw_iload_n cx dX7_charge_17 rfl 2 rfl ?_
      refine aw_callV (as := [aI k, aI what]) (k := 32) (stk := []) cx dX7_charge_18 ml_X7_165 mv_X7_chargeOf rfl (lb_32 tl) (by decide) rfl rfl (Nat.le_of_ble_eq_true rfl) (ct_X7_chargeOf tl M_2q _ _ (by omega)) (fun rr18q M_18q hp18q => ?_)
      obtain ⟨rfl, z18q, rfl, htoz18⟩ := hp18q
      refine aw_eq (stk2 := [aI z18q]) ?_ rfl rfl rfl rfl
      have q := hrdM_2.2.2.2 k.toNat (by rw [hfxM_2.at 15 (by decide)]; omega)
      rw [hfxM_2.at 16 (by decide), hfxM_2.at 17 (by decide)] at q
      refine aw_goto (tgt := 26) cx dX7_charge_21 (by decide) ?_
      refine aw_iret cx rt dX7_charge_26 ?_
      refine ⟨_, rfl, hfxM_2.mono (by decide) (by decide), ?_⟩
      unfold aCharge
      omega
set_option maxHeartbeats 1000000 in
set_option maxRecDepth 100000 in
theorem ct_X7_standsOf (tl : List CD) (M : Mem) (k what : Int) (hj : JQ M) (hk : 0 ≤ k ∧ k < M 5 4) (hw : 0 ≤ what ∧ what ≤ 2) : Ct 8 mX7_standsOf (LB ++ tl) [aR 32, aI k, aI what] M (fun r M1 => ∃ x, r = some (aI x) ∧ FX RC RF M M1 ∧ RD M1 ∧ (aStands (M 5 4) (fgT M) k what x)) := by
  refine Ct.of (own := RX7) rfl (by decide +kernel) (Nat.le_of_ble_eq_true rfl) (fun X cx rt => ?_)
  refine aw_eq (loc2 := [(0, aR 32), (1, aI k), (2, aI what)]) ?_ rfl rfl rfl rfl
  refine aw_rngL 1 rfl (fun rl_k rh_k => ?_)
  refine aw_rngL 2 rfl (fun rl_what rh_what => ?_)
  refine aw_ok (fun om => ?_)
  have hsz : 0 ≤ M 5 4 ∧ M 5 4 ≤ 12 := okF om (lb_5 tl) (j := 4) rfl (show (0 : Nat) ≠ 1 by decide)
  refine aw_aload_n cx dX7_standsOf_0 rfl 0 rfl ?_
  refine aw_callV (as := []) (k := 32) (stk := []) cx dX7_standsOf_1 ml_X7_243 mv_X7_runsTold rfl (lb_32 tl) (by decide) rfl rfl (Nat.le_of_ble_eq_true rfl) (ct_X7_runsTold tl M  (hj)) (fun rr1q M_1q hp1q => ?_)
  obtain ⟨rfl, hfxM_1, hrdM_1, hnwM_1, hrfM_1⟩ := hp1q
  refine aw_eq (stk2 := []) ?_ rfl rfl rfl rfl
  obtain ⟨rf1, rf2, rf3, rf4, rf5, rf6, rf7⟩ := hrfM_1
  refine aw_iload_n cx dX7_standsOf_4 rfl 2 rfl ?_
  refine aw_if_ne (tgt := 17) cx dX7_standsOf_5 (by decide) (fun c5q => ?_) (fun c5q => ?_)
  · refine aw_iload_n cx dX7_standsOf_17 rfl 2 rfl ?_
    refine aw_iconst (n := 1) cx dX7_standsOf_18 (by decide) ?_
    refine aw_icmp_ne (tgt := 31) cx dX7_standsOf_19 (by decide) (fun c19q => ?_) (fun c19q => ?_)
    · refine aw_aload_n cx dX7_standsOf_31 rfl 0 rfl ?_
      refine aw_getR (q := 50) cx dX7_standsOf_32 fl_X7_61 (lb_32 tl) rfl rfl ?_
      refine aw_iload_n cx dX7_standsOf_35 rfl 1 rfl ?_
      refine aw_iald cx dX7_standsOf_36 (lb_50 tl) (⟨by omega, by omega⟩) (fun z36q hz36q lo_z36q hi_z36q => ?_)
      refine aw_iret cx rt dX7_standsOf_37 ?_
      exact ⟨_, rfl, hfxM_1, hrdM_1, Or.inr ⟨by omega, by omega, Or.inr (Or.inr ⟨by omega, by rw [hz36q]; exact rf7 k.toNat (show k.toNat < (M 5 4).toNat by omega)⟩)⟩⟩
    · refine aw_aload_n cx dX7_standsOf_22 rfl 0 rfl ?_
      refine aw_getR (q := 49) cx dX7_standsOf_23 fl_X7_58 (lb_32 tl) rfl rfl ?_
      refine aw_iload_n cx dX7_standsOf_26 rfl 1 rfl ?_
      refine aw_iald cx dX7_standsOf_27 (lb_49 tl) (⟨by omega, by omega⟩) (fun z27q hz27q lo_z27q hi_z27q => ?_)
      refine aw_goto (tgt := 37) cx dX7_standsOf_28 (by decide) ?_
      refine aw_iret cx rt dX7_standsOf_37 ?_
      exact ⟨_, rfl, hfxM_1, hrdM_1, Or.inr ⟨by omega, by omega, Or.inr (Or.inl ⟨by omega, by rw [hz27q]; exact rf3 k.toNat (show k.toNat < (M 5 4).toNat by omega)⟩)⟩⟩
  · refine aw_aload_n cx dX7_standsOf_8 rfl 0 rfl ?_
    refine aw_getR (q := 48) cx dX7_standsOf_9 fl_X7_55 (lb_32 tl) rfl rfl ?_
    refine aw_iload_n cx dX7_standsOf_12 rfl 1 rfl ?_
    refine aw_iald cx dX7_standsOf_13 (lb_48 tl) (⟨by omega, by omega⟩) (fun z13q hz13q lo_z13q hi_z13q => ?_)
    refine aw_goto (tgt := 37) cx dX7_standsOf_14 (by decide) ?_
    refine aw_iret cx rt dX7_standsOf_37 ?_
    exact ⟨_, rfl, hfxM_1, hrdM_1, Or.inr ⟨by omega, by omega, Or.inl ⟨by omega, by rw [hz13q]; exact rf2 k.toNat (show k.toNat < (M 5 4).toNat by omega)⟩⟩⟩
set_option maxHeartbeats 1000000 in
set_option maxRecDepth 100000 in
theorem ct_X7_stands (tl : List CD) (M : Mem) (k what : Int) (hj : JQ M) : Ct 9 mX7_stands (LB ++ tl) [aR 32, aI k, aI what] M (fun r M1 => ∃ x, r = some (aI x) ∧ FX RC RF M M1 ∧ (aStands (M 5 4) (fgT M) k what x)) := by
  refine Ct.of (own := RX7) rfl (by decide +kernel) (Nat.le_of_ble_eq_true rfl) (fun X cx rt => ?_)
  refine aw_eq (loc2 := [(0, aR 32), (1, aI k), (2, aI what)]) ?_ rfl rfl rfl rfl
  refine aw_rngL 1 rfl (fun rl_k rh_k => ?_)
  refine aw_rngL 2 rfl (fun rl_what rh_what => ?_)
  refine aw_ok (fun om => ?_)
  have hsz : 0 ≤ M 5 4 ∧ M 5 4 ≤ 12 := okF om (lb_5 tl) (j := 4) rfl (show (0 : Nat) ≠ 1 by decide)
  refine aw_aload_n cx dX7_stands_0 rfl 0 rfl ?_
  refine aw_iload_n cx dX7_stands_1 rfl 1 rfl ?_
  refine aw_callV (as := [aI k]) (k := 32) (stk := []) cx dX7_stands_2 ml_X7_156 mv_X7_isTale rfl (lb_32 tl) (by decide) rfl rfl (Nat.le_of_ble_eq_true rfl) (ct_X7_isTale tl M _ (hj.1)) (fun rr2q M_2q hp2q => ?_)
  obtain ⟨z2q, rfl, hfxM_2, hrdM_2, hisM_2⟩ := hp2q
  refine aw_eq (stk2 := [aI z2q]) ?_ rfl rfl rfl rfl
  have efg := fg_fx hfxM_2 (by decide)
  refine aw_if_eq (tgt := 24) cx dX7_stands_5 (by decide) (fun c5q => ?_) (fun c5q => ?_)
  · refine aw_bipush (n := (-2)) cx dX7_stands_24 (by decide) ?_
    refine aw_iret cx rt dX7_stands_26 ?_
    first | exact ⟨_, rfl, (hfxM_2.mono (by decide) (by decide)).tr hfxM_18 (by decide) (by decide), hanM_18⟩ | exact ⟨_, rfl, hfxM_2.mono (by decide) (by decide), Or.inl ⟨by omega, rfl⟩⟩
  · refine aw_iload_n cx dX7_stands_8 rfl 2 rfl ?_
    refine aw_callS (as := [aI what]) (stk := []) cx dX7_stands_9 ml_X7_168 ms_X7_isThree (by decide) rfl rfl (Nat.le_of_ble_eq_true rfl) (ct_X7_isThree tl M_2q _ ) (fun rr9q M_9q hp9q => ?_)
    obtain ⟨rfl, rfl⟩ := hp9q
    refine aw_top (stk := []) (fun z9q hz9q => ?_)
    refine aw_if_eq (tgt := 24) cx dX7_stands_12 (by decide) (fun c12q => ?_) (fun c12q => ?_)
    · have d12q := b2_e0.mp (hz9q.symm.trans c12q)
      refine aw_bipush (n := (-2)) cx dX7_stands_24 (by decide) ?_
      refine aw_iret cx rt dX7_stands_26 ?_
      first | exact ⟨_, rfl, (hfxM_2.mono (by decide) (by decide)).tr hfxM_18 (by decide) (by decide), hanM_18⟩ | exact ⟨_, rfl, hfxM_2.mono (by decide) (by decide), Or.inl ⟨by omega, rfl⟩⟩
    · have d12q := b2_y hz9q c12q
      refine aw_aload_n cx dX7_stands_15 rfl 0 rfl ?_
      refine aw_iload_n cx dX7_stands_16 rfl 1 rfl ?_
      refine aw_iload_n cx dX7_stands_17 rfl 2 rfl ?_
      refine aw_callV (as := [aI k, aI what]) (k := 32) (stk := []) cx dX7_stands_18 ml_X7_246 mv_X7_standsOf rfl (lb_32 tl) (by decide) rfl rfl (Nat.le_of_ble_eq_true rfl) (ct_X7_standsOf tl M_2q _ _ (JQ_fx hj hfxM_2 (by decide)) (by rw [hfxM_2.at 5 (by decide)]; omega) (by omega)) (fun rr18q M_18q hp18q => ?_)
      obtain ⟨z18q, rfl, hfxM_18, hrdM_18, hanM_18⟩ := hp18q
      refine aw_eq (stk2 := [aI z18q]) ?_ rfl rfl rfl rfl
      rw [hfxM_2.at 5 (by decide), efg.1] at hanM_18
      refine aw_goto (tgt := 26) cx dX7_stands_21 (by decide) ?_
      refine aw_iret cx rt dX7_stands_26 ?_
      first | exact ⟨_, rfl, (hfxM_2.mono (by decide) (by decide)).tr hfxM_18 (by decide) (by decide), hanM_18⟩ | exact ⟨_, rfl, hfxM_2.mono (by decide) (by decide), Or.inl ⟨by omega, rfl⟩⟩
set_option maxHeartbeats 1000000 in
set_option maxRecDepth 100000 in
theorem ct_X7_manOf (tl : List CD) (M : Mem) (night town what : Int) (hj : JQ M) (hn : 0 ≤ night ∧ night ≤ 23) (ht : 0 ≤ town ∧ town ≤ 7) (hw : 0 ≤ what ∧ what ≤ 1) : Ct 8 mX7_manOf (LB ++ tl) [aR 32, aI night, aI town, aI what] M (fun r M1 => ∃ x, r = some (aI x) ∧ FX RC RF M M1 ∧ RD M1 ∧ (aMan (fgT M) night town what x)) := by
  refine Ct.of (own := RX7) rfl (by decide +kernel) (Nat.le_of_ble_eq_true rfl) (fun X cx rt => ?_)
  refine aw_eq (loc2 := [(0, aR 32), (1, aI night), (2, aI town), (3, aI what)]) ?_ rfl rfl rfl rfl
  refine aw_rngL 1 rfl (fun rl_night rh_night => ?_)
  refine aw_rngL 2 rfl (fun rl_town rh_town => ?_)
  refine aw_rngL 3 rfl (fun rl_what rh_what => ?_)
  refine aw_aload_n cx dX7_manOf_0 rfl 0 rfl ?_
  refine aw_callV (as := []) (k := 32) (stk := []) cx dX7_manOf_1 ml_X7_243 mv_X7_runsTold rfl (lb_32 tl) (by decide) rfl rfl (Nat.le_of_ble_eq_true rfl) (ct_X7_runsTold tl M  (hj)) (fun rr1q M_1q hp1q => ?_)
  obtain ⟨rfl, hfxM_1, hrdM_1, hnwM_1, hrfM_1⟩ := hp1q
  refine aw_eq (stk2 := []) ?_ rfl rfl rfl rfl
  obtain ⟨rf1, rf2, rf3, rf4, rf5, rf6, rf7⟩ := hrfM_1
  have q4q := rf4 town.toNat (by omega) night.toNat (by omega)
  rw [show ((night.toNat : Nat) : Int) = night by omega] at q4q
  refine aw_iload_n cx dX7_manOf_4 rfl 3 rfl ?_
  refine aw_if_ne (tgt := 22) cx dX7_manOf_5 (by decide) (fun c5q => ?_) (fun c5q => ?_)
  · refine aw_aload_n cx dX7_manOf_22 rfl 0 rfl ?_
    refine aw_getR (q := 53) cx dX7_manOf_23 fl_X7_70 (lb_32 tl) rfl rfl ?_
    refine aw_bipush (n := 24) cx dX7_manOf_26 (by decide) ?_
    refine aw_iload_n cx dX7_manOf_28 rfl 2 rfl ?_
    refine aw_imul cx dX7_manOf_29 (by omega) (fun z29q hz29q => ?_)
    refine aw_iload_n cx dX7_manOf_30 rfl 1 rfl ?_
    refine aw_iadd cx dX7_manOf_31 (by omega) (fun z31q hz31q => ?_)
    refine aw_iald cx dX7_manOf_32 (lb_53 tl) (⟨by omega, by omega⟩) (fun z32q hz32q lo_z32q hi_z32q => ?_)
    refine aw_iret cx rt dX7_manOf_33 ?_
    exact ⟨_, rfl, hfxM_1, hrdM_1, Or.inr ⟨by omega, by omega, by omega, by omega, Or.inr ⟨by omega, by rw [hz32q, show z31q.toNat = 24 * town.toNat + night.toNat by omega]; exact q4q.2.1⟩⟩⟩
  · refine aw_aload_n cx dX7_manOf_8 rfl 0 rfl ?_
    refine aw_getR (q := 52) cx dX7_manOf_9 fl_X7_67 (lb_32 tl) rfl rfl ?_
    refine aw_bipush (n := 24) cx dX7_manOf_12 (by decide) ?_
    refine aw_iload_n cx dX7_manOf_14 rfl 2 rfl ?_
    refine aw_imul cx dX7_manOf_15 (by omega) (fun z15q hz15q => ?_)
    refine aw_iload_n cx dX7_manOf_16 rfl 1 rfl ?_
    refine aw_iadd cx dX7_manOf_17 (by omega) (fun z17q hz17q => ?_)
    refine aw_iald cx dX7_manOf_18 (lb_52 tl) (⟨by omega, by omega⟩) (fun z18q hz18q lo_z18q hi_z18q => ?_)
    refine aw_goto (tgt := 33) cx dX7_manOf_19 (by decide) ?_
    refine aw_iret cx rt dX7_manOf_33 ?_
    exact ⟨_, rfl, hfxM_1, hrdM_1, Or.inr ⟨by omega, by omega, by omega, by omega, Or.inl ⟨by omega, by rw [hz18q, show z17q.toNat = 24 * town.toNat + night.toNat by omega]; exact q4q.1⟩⟩⟩
set_option maxHeartbeats 1000000 in
set_option maxRecDepth 100000 in
theorem ct_X7_man (tl : List CD) (M : Mem) (night town what : Int) (hj : JQ M) : Ct 9 mX7_man (LB ++ tl) [aR 32, aI night, aI town, aI what] M (fun r M1 => ∃ x, r = some (aI x) ∧ FX RC RF M M1 ∧ (aMan (fgT M) night town what x)) := by
  refine Ct.of (own := RX7) rfl (by decide +kernel) (Nat.le_of_ble_eq_true rfl) (fun X cx rt => ?_)
  refine aw_eq (loc2 := [(0, aR 32), (1, aI night), (2, aI town), (3, aI what)]) ?_ rfl rfl rfl rfl
  refine aw_rngL 1 rfl (fun rl_night rh_night => ?_)
  refine aw_rngL 2 rfl (fun rl_town rh_town => ?_)
  refine aw_rngL 3 rfl (fun rl_what rh_what => ?_)
  refine aw_iload_n cx dX7_man_0 rfl 1 rfl ?_
  refine aw_callS (as := [aI night]) (stk := []) cx dX7_man_1 ml_X7_129 ms_X7_isNight (by decide) rfl rfl (Nat.le_of_ble_eq_true rfl) (ct_X7_isNight tl M _ ) (fun rr1q M_1q hp1q => ?_)
  obtain ⟨rfl, rfl⟩ := hp1q
  refine aw_top (stk := []) (fun z1q hz1q => ?_)
  refine aw_if_eq (tgt := 31) cx dX7_man_4 (by decide) (fun c4q => ?_) (fun c4q => ?_)
  · have d4q := b2_e0.mp (hz1q.symm.trans c4q)
    refine aw_bipush (n := (-2)) cx dX7_man_31 (by decide) ?_
    refine aw_iret cx rt dX7_man_33 ?_
    first | exact ⟨_, rfl, hfxM_25, hanM_25⟩ | exact ⟨_, rfl, FX.rf, Or.inl ⟨by omega, rfl⟩⟩
  · have d4q := b2_y hz1q c4q
    refine aw_iload_n cx dX7_man_7 rfl 2 rfl ?_
    refine aw_callS (as := [aI town]) (stk := []) cx dX7_man_8 ml_X7_132 ms_X7_isTown (by decide) rfl rfl (Nat.le_of_ble_eq_true rfl) (ct_X7_isTown tl M _ ) (fun rr8q M_8q hp8q => ?_)
    obtain ⟨rfl, rfl⟩ := hp8q
    refine aw_top (stk := []) (fun z8q hz8q => ?_)
    refine aw_if_eq (tgt := 31) cx dX7_man_11 (by decide) (fun c11q => ?_) (fun c11q => ?_)
    · have d11q := b2_e0.mp (hz8q.symm.trans c11q)
      refine aw_bipush (n := (-2)) cx dX7_man_31 (by decide) ?_
      refine aw_iret cx rt dX7_man_33 ?_
      first | exact ⟨_, rfl, hfxM_25, hanM_25⟩ | exact ⟨_, rfl, FX.rf, Or.inl ⟨by omega, rfl⟩⟩
    · have d11q := b2_y hz8q c11q
      refine aw_iload_n cx dX7_man_14 rfl 3 rfl ?_
      refine aw_callS (as := [aI what]) (stk := []) cx dX7_man_15 ml_X7_117 ms_X7_isTwo (by decide) rfl rfl (Nat.le_of_ble_eq_true rfl) (ct_X7_isTwo tl M _ ) (fun rr15q M_15q hp15q => ?_)
      obtain ⟨rfl, rfl⟩ := hp15q
      refine aw_top (stk := []) (fun z15q hz15q => ?_)
      refine aw_if_eq (tgt := 31) cx dX7_man_18 (by decide) (fun c18q => ?_) (fun c18q => ?_)
      · have d18q := b2_e0.mp (hz15q.symm.trans c18q)
        refine aw_bipush (n := (-2)) cx dX7_man_31 (by decide) ?_
        refine aw_iret cx rt dX7_man_33 ?_
        first | exact ⟨_, rfl, hfxM_25, hanM_25⟩ | exact ⟨_, rfl, FX.rf, Or.inl ⟨by omega, rfl⟩⟩
      · have d18q := b2_y hz15q c18q
        refine aw_aload_n cx dX7_man_21 rfl 0 rfl ?_
        refine aw_iload_n cx dX7_man_22 rfl 1 rfl ?_
        refine aw_iload_n cx dX7_man_23 rfl 2 rfl ?_
        refine aw_iload_n cx dX7_man_24 rfl 3 rfl ?_
        refine aw_callV (as := [aI night, aI town, aI what]) (k := 32) (stk := []) cx dX7_man_25 ml_X7_249 mv_X7_manOf rfl (lb_32 tl) (by decide) rfl rfl (Nat.le_of_ble_eq_true rfl) (ct_X7_manOf tl M _ _ _ (hj) (by omega) (by omega) (by omega)) (fun rr25q M_25q hp25q => ?_)
        obtain ⟨z25q, rfl, hfxM_25, hrdM_25, hanM_25⟩ := hp25q
        refine aw_eq (stk2 := [aI z25q]) ?_ rfl rfl rfl rfl
        refine aw_goto (tgt := 33) cx dX7_man_28 (by decide) ?_
        refine aw_iret cx rt dX7_man_33 ?_
        first | exact ⟨_, rfl, hfxM_25, hanM_25⟩ | exact ⟨_, rfl, FX.rf, Or.inl ⟨by omega, rfl⟩⟩
set_option maxHeartbeats 1000000 in
set_option maxRecDepth 100000 in
theorem ct_X7_beliefOf (tl : List CD) (M : Mem) (c : Int) (hj : JQ M) (hc : 0 ≤ c ∧ c < M 15 2) : Ct 8 mX7_beliefOf (LB ++ tl) [aR 32, aI c] M (fun r M1 => ∃ x, r = some (aI x) ∧ FX RC RF M M1 ∧ RD M1 ∧ (aBelief (M 15 2) (fgT M) (qgT M) c x)) := by
  refine Ct.of (own := RX7) rfl (by decide +kernel) (Nat.le_of_ble_eq_true rfl) (fun X cx rt => ?_)
  refine aw_eq (loc2 := [(0, aR 32), (1, aI c)]) ?_ rfl rfl rfl rfl
  refine aw_rngL 1 rfl (fun rl_c rh_c => ?_)
  refine aw_ok (fun om => ?_)
  have hcz : 0 ≤ M 15 2 ∧ M 15 2 ≤ 8 := okF om (lb_15 tl) (j := 2) rfl (show (0 : Nat) ≠ 1 by decide)
  have o16 := okA om (lb_16 tl) c.toNat
  have o17 := okA om (lb_17 tl) c.toNat
  refine aw_aload_n cx dX7_beliefOf_0 rfl 0 rfl ?_
  refine aw_callV (as := []) (k := 32) (stk := []) cx dX7_beliefOf_1 ml_X7_243 mv_X7_runsTold rfl (lb_32 tl) (by decide) rfl rfl (Nat.le_of_ble_eq_true rfl) (ct_X7_runsTold tl M  (hj)) (fun rr1q M_1q hp1q => ?_)
  obtain ⟨rfl, hfxM_1, hrdM_1, hnwM_1, hrfM_1⟩ := hp1q
  refine aw_eq (stk2 := []) ?_ rfl rfl rfl rfl
  obtain ⟨rf1, rf2, rf3, rf4, rf5, rf6, rf7⟩ := hrfM_1
  have q4q := hrdM_1.2.2.2 c.toNat (by rw [hfxM_1.at 15 (by decide)]; omega)
  rw [hfxM_1.at 16 (by decide), hfxM_1.at 17 (by decide)] at q4q
  refine aw_aload_n cx dX7_beliefOf_4 rfl 0 rfl ?_
  refine aw_iload_n cx dX7_beliefOf_5 rfl 1 rfl ?_
  refine aw_callV (as := [aI c]) (k := 32) (stk := []) cx dX7_beliefOf_6 ml_X7_231 mv_X7_beliefNow rfl (lb_32 tl) (by decide) rfl rfl (Nat.le_of_ble_eq_true rfl) (ct_X7_beliefNow tl M_1q _ (by omega)) (fun rr6q M_6q hp6q => ?_)
  obtain ⟨rfl, rfl⟩ := hp6q
  refine aw_top (stk := []) (fun z6q hz6q => ?_)
  refine aw_iret cx rt dX7_beliefOf_9 ?_
  refine ⟨_, rfl, hfxM_1, hrdM_1, Or.inr ⟨by omega, by omega, ?_⟩⟩
  rw [hz6q, q4q.1, q4q.2]
  exact rf5 (M 16 c.toNat) (M 17 c.toNat) o16 o17
set_option maxHeartbeats 1000000 in
set_option maxRecDepth 100000 in
theorem ct_X7_belief (tl : List CD) (M : Mem) (c : Int) (hj : JQ M) : Ct 9 mX7_belief (LB ++ tl) [aR 32, aI c] M (fun r M1 => ∃ x, r = some (aI x) ∧ FX RC RF M M1 ∧ (aBelief (M 15 2) (fgT M) (qgT M) c x)) := by
  refine Ct.of (own := RX7) rfl (by decide +kernel) (Nat.le_of_ble_eq_true rfl) (fun X cx rt => ?_)
  refine aw_eq (loc2 := [(0, aR 32), (1, aI c)]) ?_ rfl rfl rfl rfl
  refine aw_rngL 1 rfl (fun rl_c rh_c => ?_)
  refine aw_ok (fun om => ?_)
  have hcz : 0 ≤ M 15 2 ∧ M 15 2 ≤ 8 := okF om (lb_15 tl) (j := 2) rfl (show (0 : Nat) ≠ 1 by decide)
  refine aw_aload_n cx dX7_belief_0 rfl 0 rfl ?_
  refine aw_iload_n cx dX7_belief_1 rfl 1 rfl ?_
  refine aw_callV (as := [aI c]) (k := 32) (stk := []) cx dX7_belief_2 ml_X7_162 mv_X7_isCharge rfl (lb_32 tl) (by decide) rfl rfl (Nat.le_of_ble_eq_true rfl) (ct_X7_isCharge tl M _ (hj.1)) (fun rr2q M_2q hp2q => ?_)
  obtain ⟨z2q, rfl, hfxM_2, hrdM_2, hisM_2⟩ := hp2q
  refine aw_eq (stk2 := [aI z2q]) ?_ rfl rfl rfl rfl
  have efg := fg_fx hfxM_2 (by decide)
  refine aw_if_eq (tgt := 16) cx dX7_belief_5 (by decide) (fun c5q => ?_) (fun c5q => ?_)
  · refine aw_ldc (x := (-2147483648)) cx dX7_belief_16 kc_X7_255 (by decide +kernel) ?_
    refine aw_iret cx rt dX7_belief_18 ?_
    first | exact ⟨_, rfl, (hfxM_2.mono (by decide) (by decide)).tr hfxM_10 (by decide) (by decide), hanM_10⟩ | exact ⟨_, rfl, hfxM_2.mono (by decide) (by decide), Or.inl ⟨by omega, rfl⟩⟩
  · refine aw_aload_n cx dX7_belief_8 rfl 0 rfl ?_
    refine aw_iload_n cx dX7_belief_9 rfl 1 rfl ?_
    refine aw_callV (as := [aI c]) (k := 32) (stk := []) cx dX7_belief_10 ml_X7_252 mv_X7_beliefOf rfl (lb_32 tl) (by decide) rfl rfl (Nat.le_of_ble_eq_true rfl) (ct_X7_beliefOf tl M_2q _ (JQ_fx hj hfxM_2 (by decide)) (by rw [hfxM_2.at 15 (by decide)]; omega)) (fun rr10q M_10q hp10q => ?_)
    obtain ⟨z10q, rfl, hfxM_10, hrdM_10, hanM_10⟩ := hp10q
    refine aw_eq (stk2 := [aI z10q]) ?_ rfl rfl rfl rfl
    rw [hfxM_2.at 15 (by decide), efg.1, efg.2] at hanM_10
    refine aw_goto (tgt := 18) cx dX7_belief_13 (by decide) ?_
    refine aw_iret cx rt dX7_belief_18 ?_
    first | exact ⟨_, rfl, (hfxM_2.mono (by decide) (by decide)).tr hfxM_10 (by decide) (by decide), hanM_10⟩ | exact ⟨_, rfl, hfxM_2.mono (by decide) (by decide), Or.inl ⟨by omega, rfl⟩⟩
set_option maxHeartbeats 1000000 in
set_option maxRecDepth 100000 in
theorem ct_X7_clearedOf (tl : List CD) (M : Mem) (c what : Int) (hj : JQ M) (hc : 0 ≤ c ∧ c < M 15 2) (hw : 0 ≤ what ∧ what ≤ 1) : Ct 8 mX7_clearedOf (LB ++ tl) [aR 32, aI c, aI what] M (fun r M1 => ∃ x, r = some (aI x) ∧ FX RC RF M M1 ∧ RD M1 ∧ (aCleared (M 15 2) (fgT M) (qgT M) c what x)) := by
  refine Ct.of (own := RX7) rfl (by decide +kernel) (Nat.le_of_ble_eq_true rfl) (fun X cx rt => ?_)
  refine aw_eq (loc2 := [(0, aR 32), (1, aI c), (2, aI what)]) ?_ rfl rfl rfl rfl
  refine aw_rngL 1 rfl (fun rl_c rh_c => ?_)
  refine aw_rngL 2 rfl (fun rl_what rh_what => ?_)
  refine aw_ok (fun om => ?_)
  have hcz : 0 ≤ M 15 2 ∧ M 15 2 ≤ 8 := okF om (lb_15 tl) (j := 2) rfl (show (0 : Nat) ≠ 1 by decide)
  have o16 := okA om (lb_16 tl) c.toNat
  have o17 := okA om (lb_17 tl) c.toNat
  refine aw_aload_n cx dX7_clearedOf_0 rfl 0 rfl ?_
  refine aw_callV (as := []) (k := 32) (stk := []) cx dX7_clearedOf_1 ml_X7_243 mv_X7_runsTold rfl (lb_32 tl) (by decide) rfl rfl (Nat.le_of_ble_eq_true rfl) (ct_X7_runsTold tl M  (hj)) (fun rr1q M_1q hp1q => ?_)
  obtain ⟨rfl, hfxM_1, hrdM_1, hnwM_1, hrfM_1⟩ := hp1q
  refine aw_eq (stk2 := []) ?_ rfl rfl rfl rfl
  obtain ⟨rf1, rf2, rf3, rf4, rf5, rf6, rf7⟩ := hrfM_1
  have q4q := hrdM_1.2.2.2 c.toNat (by rw [hfxM_1.at 15 (by decide)]; omega)
  rw [hfxM_1.at 16 (by decide), hfxM_1.at 17 (by decide)] at q4q
  refine aw_iload_n cx dX7_clearedOf_4 rfl 2 rfl ?_
  refine aw_if_ne (tgt := 19) cx dX7_clearedOf_5 (by decide) (fun c5q => ?_) (fun c5q => ?_)
  · refine aw_aload_n cx dX7_clearedOf_19 rfl 0 rfl ?_
    refine aw_iload_n cx dX7_clearedOf_20 rfl 1 rfl ?_
    refine aw_callV (as := [aI c]) (k := 32) (stk := []) cx dX7_clearedOf_21 ml_X7_215 mv_X7_bestTown rfl (lb_32 tl) (by decide) rfl rfl (Nat.le_of_ble_eq_true rfl) (ct_X7_bestTown tl M_1q _ (by omega)) (fun rr21q M_21q hp21q => ?_)
    obtain ⟨rfl, z21q, rfl, lo_z21q, hi_z21q, yz21, hbtz21⟩ := hp21q
    refine aw_eq (stk2 := [aI z21q]) ?_ rfl rfl rfl rfl
    refine aw_iret cx rt dX7_clearedOf_24 ?_
    refine ⟨_, rfl, hfxM_1, hrdM_1, Or.inr ⟨by omega, by omega, Or.inr ⟨by omega, yz21, ?_⟩⟩⟩
    have q := hbtz21
    rw [q4q.1, q4q.2] at q
    refine AMX_c (fun b hb => ?_) q
    show GX (M 17 c.toNat) _ b = GX (M 17 c.toNat) _ b
    unfold GX
    by_cases e : (b : Int) = M 17 c.toNat
    · rw [if_pos e, if_pos e]
    · rw [if_neg e, if_neg e]
      have q6q := (rf4 b hb (M 16 c.toNat).toNat (by omega)).2.2
      rw [show (((M 16 c.toNat).toNat : Nat) : Int) = M 16 c.toNat by omega] at q6q
      exact q6q
  · refine aw_aload_n cx dX7_clearedOf_8 rfl 0 rfl ?_
    refine aw_getI cx dX7_clearedOf_9 fl_X7_228 (lb_32 tl) rfl (fun z9q hz9q lo_z9q hi_z9q => ?_)
    refine aw_iload_n cx dX7_clearedOf_12 rfl 1 rfl ?_
    refine aw_ishr cx dX7_clearedOf_13 (fun z13q hz13q => ?_)
    refine aw_iconst (n := 1) cx dX7_clearedOf_14 (by decide) ?_
    refine aw_iand cx dX7_clearedOf_15 (fun z15q hz15q => ?_)
    refine aw_goto (tgt := 24) cx dX7_clearedOf_16 (by decide) ?_
    refine aw_iret cx rt dX7_clearedOf_24 ?_
    refine ⟨_, rfl, hfxM_1, hrdM_1, Or.inr ⟨by omega, by omega, Or.inl ⟨by omega, ?_⟩⟩⟩
    rw [hz15q, hz13q, isbit (by omega) (by omega)]
    apply b2_c
    have hb := BTF_s (P := fun c => (qgT M).1 ≤ fBLF (-1) (fgT M) ((qgT M).2.2.1 c) ((qgT M).2.2.2 c)) (M 15 2).toNat (by omega)
    rw [hz9q, rf6]
    exact hb.2.2 c.toNat (by omega)
set_option maxHeartbeats 1000000 in
set_option maxRecDepth 100000 in
theorem ct_X7_cleared (tl : List CD) (M : Mem) (c what : Int) (hj : JQ M) : Ct 9 mX7_cleared (LB ++ tl) [aR 32, aI c, aI what] M (fun r M1 => ∃ x, r = some (aI x) ∧ FX RC RF M M1 ∧ (aCleared (M 15 2) (fgT M) (qgT M) c what x)) := by
  refine Ct.of (own := RX7) rfl (by decide +kernel) (Nat.le_of_ble_eq_true rfl) (fun X cx rt => ?_)
  refine aw_eq (loc2 := [(0, aR 32), (1, aI c), (2, aI what)]) ?_ rfl rfl rfl rfl
  refine aw_rngL 1 rfl (fun rl_c rh_c => ?_)
  refine aw_rngL 2 rfl (fun rl_what rh_what => ?_)
  refine aw_ok (fun om => ?_)
  have hcz : 0 ≤ M 15 2 ∧ M 15 2 ≤ 8 := okF om (lb_15 tl) (j := 2) rfl (show (0 : Nat) ≠ 1 by decide)
  refine aw_aload_n cx dX7_cleared_0 rfl 0 rfl ?_
  refine aw_iload_n cx dX7_cleared_1 rfl 1 rfl ?_
  refine aw_callV (as := [aI c]) (k := 32) (stk := []) cx dX7_cleared_2 ml_X7_162 mv_X7_isCharge rfl (lb_32 tl) (by decide) rfl rfl (Nat.le_of_ble_eq_true rfl) (ct_X7_isCharge tl M _ (hj.1)) (fun rr2q M_2q hp2q => ?_)
  obtain ⟨z2q, rfl, hfxM_2, hrdM_2, hisM_2⟩ := hp2q
  refine aw_eq (stk2 := [aI z2q]) ?_ rfl rfl rfl rfl
  have efg := fg_fx hfxM_2 (by decide)
  refine aw_if_eq (tgt := 24) cx dX7_cleared_5 (by decide) (fun c5q => ?_) (fun c5q => ?_)
  · refine aw_bipush (n := (-2)) cx dX7_cleared_24 (by decide) ?_
    refine aw_iret cx rt dX7_cleared_26 ?_
    first | exact ⟨_, rfl, (hfxM_2.mono (by decide) (by decide)).tr hfxM_18 (by decide) (by decide), hanM_18⟩ | exact ⟨_, rfl, hfxM_2.mono (by decide) (by decide), Or.inl ⟨by omega, rfl⟩⟩
  · refine aw_iload_n cx dX7_cleared_8 rfl 2 rfl ?_
    refine aw_callS (as := [aI what]) (stk := []) cx dX7_cleared_9 ml_X7_117 ms_X7_isTwo (by decide) rfl rfl (Nat.le_of_ble_eq_true rfl) (ct_X7_isTwo tl M_2q _ ) (fun rr9q M_9q hp9q => ?_)
    obtain ⟨rfl, rfl⟩ := hp9q
    refine aw_top (stk := []) (fun z9q hz9q => ?_)
    refine aw_if_eq (tgt := 24) cx dX7_cleared_12 (by decide) (fun c12q => ?_) (fun c12q => ?_)
    · have d12q := b2_e0.mp (hz9q.symm.trans c12q)
      refine aw_bipush (n := (-2)) cx dX7_cleared_24 (by decide) ?_
      refine aw_iret cx rt dX7_cleared_26 ?_
      first | exact ⟨_, rfl, (hfxM_2.mono (by decide) (by decide)).tr hfxM_18 (by decide) (by decide), hanM_18⟩ | exact ⟨_, rfl, hfxM_2.mono (by decide) (by decide), Or.inl ⟨by omega, rfl⟩⟩
    · have d12q := b2_y hz9q c12q
      refine aw_aload_n cx dX7_cleared_15 rfl 0 rfl ?_
      refine aw_iload_n cx dX7_cleared_16 rfl 1 rfl ?_
      refine aw_iload_n cx dX7_cleared_17 rfl 2 rfl ?_
      refine aw_callV (as := [aI c, aI what]) (k := 32) (stk := []) cx dX7_cleared_18 ml_X7_256 mv_X7_clearedOf rfl (lb_32 tl) (by decide) rfl rfl (Nat.le_of_ble_eq_true rfl) (ct_X7_clearedOf tl M_2q _ _ (JQ_fx hj hfxM_2 (by decide)) (by rw [hfxM_2.at 15 (by decide)]; omega) (by omega)) (fun rr18q M_18q hp18q => ?_)
      obtain ⟨z18q, rfl, hfxM_18, hrdM_18, hanM_18⟩ := hp18q
      refine aw_eq (stk2 := [aI z18q]) ?_ rfl rfl rfl rfl
      rw [hfxM_2.at 15 (by decide), efg.1, efg.2] at hanM_18
      refine aw_goto (tgt := 26) cx dX7_cleared_21 (by decide) ?_
      refine aw_iret cx rt dX7_cleared_26 ?_
      first | exact ⟨_, rfl, (hfxM_2.mono (by decide) (by decide)).tr hfxM_18 (by decide) (by decide), hanM_18⟩ | exact ⟨_, rfl, hfxM_2.mono (by decide) (by decide), Or.inl ⟨by omega, rfl⟩⟩
