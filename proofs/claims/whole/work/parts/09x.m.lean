set_option maxHeartbeats 1000000 in
set_option maxRecDepth 100000 in
theorem ct_X7_moveOf (tl : List CD) (M : Mem) (k what : Int) (hj : JQ M) (hk : 0 ≤ k ∧ k < M 5 4) (hw : 0 ≤ what ∧ what ≤ 1) : Ct 8 mX7_moveOf (LB ++ tl) [aR 32, aI k, aI what] M (fun r M1 => ∃ x, r = some (aI x) ∧ FX RC RF M M1 ∧ RD M1 ∧ (aPick (k < 0 ∨ M 5 4 ≤ k) (fMV (fgT M) (qgT M) k.toNat) 8 what x)) := by
  refine Ct.of (own := RX7) rfl (by decide +kernel) (Nat.le_of_ble_eq_true rfl) (fun X cx rt => ?_)
  refine aw_eq (loc2 := [(0, aR 32), (1, aI k), (2, aI what)]) ?_ rfl rfl rfl rfl
  refine aw_rngL 1 rfl (fun rl_k rh_k => ?_)
  refine aw_rngL 2 rfl (fun rl_what rh_what => ?_)
  refine aw_ok (fun om => ?_)
  have hsz : 0 ≤ M 5 4 ∧ M 5 4 ≤ 12 := okF om (lb_5 tl) (j := 4) rfl (show (0 : Nat) ≠ 1 by decide)
  refine aw_aload_n cx dX7_moveOf_0 rfl 0 rfl ?_
  refine aw_callV (as := []) (k := 32) (stk := []) cx dX7_moveOf_1 ml_X7_290 mv_X7_starts rfl (lb_32 tl) (by decide) rfl rfl (Nat.le_of_ble_eq_true rfl) (ct_X7_starts tl M  (hj)) (fun rr1q M_1q hp1q => ?_)
  obtain ⟨rfl, hfxM_1, hrdM_1, hnwM_1, hbsM_1, hmsM_1⟩ := hp1q
  refine aw_eq (stk2 := []) ?_ rfl rfl rfl rfl
  obtain ⟨n1, n2, n3, n4⟩ := hnwM_1
  refine aw_iconst (n := 0) cx dX7_moveOf_4 (by decide) ?_
  refine aw_istore_n (loc2 := [(3, aI 0), (0, aR 32), (1, aI k), (2, aI what)]) cx dX7_moveOf_5 rfl (by decide) rfl ?_
  have lp6q : ∀ (fu : Nat) (x3q : Int) (N6q : Mem), (0 ≤ x3q ∧ x3q ≤ 8) → (FX [45, 48, 49, 50, 51, 52, 53] [28, 30, 31] M_1q N6q) → (∀ i, i ≠ k.toNat → N6q 45 i = M_1q 45 i) → (AMX (fMV (fgT M) (qgT M) k.toNat) (-1) x3q.toNat (N6q 32 30) (N6q 32 31)) → ((8 - x3q).toNat) < fu → AW X (LB ++ tl) 4 6 [(0, aR 32), (1, aI k), (2, aI what), (3, aI x3q)] [] N6q := by
    intro fu
    induction fu with
    | zero =>
      intro x3q N6q h0q hf hk2 hx hm
      exact absurd hm (Nat.not_lt_zero _)
    | succ fu ih6q =>
      intro x3q N6q h0q hf hk2 hx hm
      refine aw_iload_n cx dX7_moveOf_6 rfl 3 rfl ?_
      refine aw_bipush (n := 8) cx dX7_moveOf_7 (by decide) ?_
      refine aw_icmp_ge (tgt := 30) cx dX7_moveOf_9 (by decide) (fun c9q => ?_) (fun c9q => ?_)
      · refine aw_iload_n cx dX7_moveOf_30 rfl 2 rfl ?_
        refine aw_if_ne (tgt := 41) cx dX7_moveOf_31 (by decide) (fun c31q => ?_) (fun c31q => ?_)
        · refine aw_aload_n cx dX7_moveOf_41 rfl 0 rfl ?_
          refine aw_getI cx dX7_moveOf_42 fl_X7_287 (lb_32 tl) rfl (fun z42q hz42q lo_z42q hi_z42q => ?_)
          refine aw_iret cx rt dX7_moveOf_45 ?_
          exact ⟨_, rfl, (hfxM_1.mono (by decide) (by decide)).tr hf (by decide) (by decide), RD_fx hrdM_1 hf (by decide), Or.inr ⟨by omega, _, _, by rw [show x3q.toNat = 8 by omega] at hx; exact hx, Or.inr ⟨by omega, hz42q⟩⟩⟩
        · refine aw_aload_n cx dX7_moveOf_34 rfl 0 rfl ?_
          refine aw_getI cx dX7_moveOf_35 fl_X7_284 (lb_32 tl) rfl (fun z35q hz35q lo_z35q hi_z35q => ?_)
          refine aw_goto (tgt := 45) cx dX7_moveOf_38 (by decide) ?_
          refine aw_iret cx rt dX7_moveOf_45 ?_
          exact ⟨_, rfl, (hfxM_1.mono (by decide) (by decide)).tr hf (by decide) (by decide), RD_fx hrdM_1 hf (by decide), Or.inr ⟨by omega, _, _, by rw [show x3q.toNat = 8 by omega] at hx; exact hx, Or.inl ⟨by omega, hz35q⟩⟩⟩
      · refine aw_aload_n cx dX7_moveOf_12 rfl 0 rfl ?_
        refine aw_getR (q := 45) cx dX7_moveOf_13 fl_X7_46 (lb_32 tl) rfl rfl ?_
        refine aw_iload_n cx dX7_moveOf_16 rfl 1 rfl ?_
        refine aw_iload_n cx dX7_moveOf_17 rfl 3 rfl ?_
        refine aw_iast cx dX7_moveOf_18 (lb_45 tl) (⟨by omega, by omega⟩) (⟨by omega, by omega⟩) ?_
        obtain ⟨M_18q, hM_18q⟩ : ∃ qm, qm = up N6q (45) (Int.toNat (k)) (x3q) := ⟨_, rfl⟩
        rw [← hM_18q]
        refine aw_ok (fun omk => ?_)
        have h44k : ∀ j, 0 ≤ M_18q 44 j := fun j => (okA omk (lb_44 tl) j).1
        have h7k : 0 ≤ M_18q 32 7 ∧ M_18q 32 7 ≤ 8 := okF omk (lb_32 tl) (j := 7) rfl (show (0 : Nat) ≠ 1 by decide)
        refine aw_aload_n cx dX7_moveOf_19 rfl 0 rfl ?_
        refine aw_iload_n cx dX7_moveOf_20 rfl 3 rfl ?_
        refine aw_callV (as := [aI x3q]) (k := 32) (stk := []) cx dX7_moveOf_21 ml_X7_293 mv_X7_tries rfl (lb_32 tl) (by decide) rfl rfl (Nat.le_of_ble_eq_true rfl) (ct_X7_tries tl M_18q _ (by omega)) (fun rr21q M_21q hp21q => ?_)
        obtain ⟨rfl, hfxM_21, hrnM_21, hbmM_21⟩ := hp21q
        refine aw_eq (stk2 := []) ?_ rfl rfl rfl rfl
        have fxa : FX [45, 48, 49, 50, 51, 52, 53] [28, 30, 31] M_1q M_18q := hf.pc hM_18q (by decide)
        have fxm : FX RC RF M M_18q := hfxM_1.tr fxa (by decide) (by decide)
        have hrf := now_g (F := setT (fgT M) k.toNat ((x3q.toNat : Nat) : Int)) (lo := -1) hj fxm (RD_fx hrdM_1 fxa (by decide)) (by rw [fxa.fd 20 (by decide)]; exact n2) (by rw [fxa.fd 15 (by decide), n1]; rfl) rfl (fun e _ => by rw [fxa.fd 21 (by decide), n3, KEN_0]; rfl) rfl rfl (by
          intro i hi
          have q := n4 i hi
          refine ⟨by rw [fxa.at 44 (by decide)]; exact q.1, ?_, by rw [fxa.at 46 (by decide)]; exact q.2.2.1, by rw [fxa.at 47 (by decide)]; exact q.2.2.2⟩
          show M_18q 45 i = up1 (M 7) k.toNat ((x3q.toNat : Nat) : Int) i
          unfold up1
          by_cases e : i = k.toNat
          · rw [if_pos e, e, up_eq hM_18q]; omega
          · rw [if_neg e, up_ne hM_18q (by omega), hk2 i e]; exact q.2.1) h44k h7k.2 hrnM_21
        have hmv : PCN (M_21q 32 28) = fMV (fgT M) (qgT M) k.toNat x3q.toNat := by rw [hrf.2.2.2.2.2.1]; rfl
        have f31 : M_18q 32 31 = N6q 32 31 := up_ne hM_18q (by omega)
        have f30 : M_18q 32 30 = N6q 32 30 := up_ne hM_18q (by omega)
        rw [f30, f31, hmv] at hbmM_21
        refine aw_iinc cx dX7_moveOf_24 3 rfl (by decide) (by omega) (fun z24q hz24q => ?_)
        refine aw_loc (loc2 := [(3, aI z24q), (0, aR 32), (1, aI k), (2, aI what)]) rfl ?_
        refine aw_goto (tgt := 6) cx dX7_moveOf_27 (by decide) ?_
        refine aw_sub [1, 2, 3, 0] rfl ?_
        refine ih6q _ _  ?i_h0 ?i_hf ?i_hk2 ?i_hx ?i_m
        case i_h0 =>
          omega
        case i_hf =>
          exact fxa.tr hfxM_21 (by decide) (by decide)
        case i_hk2 =>
          intro i hi; rw [hfxM_21.at 45 (by decide), up_ne hM_18q (by omega)]; exact hk2 i hi
        case i_hx =>
          rw [hz24q]
          rcases hbmM_21 with ⟨q1q, q2q, q3q⟩ | ⟨q1q, q2q, q3q⟩
          · rw [q2q, q3q]; exact AMX_up h0q.1 hx q1q
          · rw [q2q, q3q]; exact AMX_no h0q.1 hx q1q
        case i_m =>
          omega
  refine aw_sub [1, 2, 3, 0] rfl ?_
  refine lp6q _ _ _  ?i_h0 ?i_hf ?i_hk2 ?i_hx (Nat.lt_succ_self _)
  case i_h0 =>
    omega
  case i_hf =>
    exact FX.rf
  case i_hk2 =>
    exact fun _ _ => rfl
  case i_hx =>
    rw [hbsM_1, hmsM_1]; exact AMX_0 _ _
set_option maxHeartbeats 1000000 in
set_option maxRecDepth 100000 in
theorem ct_X7_move (tl : List CD) (M : Mem) (k what : Int) (hj : JQ M) : Ct 9 mX7_move (LB ++ tl) [aR 32, aI k, aI what] M (fun r M1 => ∃ x, r = some (aI x) ∧ FX RC RF M M1 ∧ (aPick (k < 0 ∨ M 5 4 ≤ k) (fMV (fgT M) (qgT M) k.toNat) 8 what x)) := by
  refine Ct.of (own := RX7) rfl (by decide +kernel) (Nat.le_of_ble_eq_true rfl) (fun X cx rt => ?_)
  refine aw_eq (loc2 := [(0, aR 32), (1, aI k), (2, aI what)]) ?_ rfl rfl rfl rfl
  refine aw_rngL 1 rfl (fun rl_k rh_k => ?_)
  refine aw_rngL 2 rfl (fun rl_what rh_what => ?_)
  refine aw_ok (fun om => ?_)
  have hsz : 0 ≤ M 5 4 ∧ M 5 4 ≤ 12 := okF om (lb_5 tl) (j := 4) rfl (show (0 : Nat) ≠ 1 by decide)
  refine aw_aload_n cx dX7_move_0 rfl 0 rfl ?_
  refine aw_iload_n cx dX7_move_1 rfl 1 rfl ?_
  refine aw_callV (as := [aI k]) (k := 32) (stk := []) cx dX7_move_2 ml_X7_156 mv_X7_isTale rfl (lb_32 tl) (by decide) rfl rfl (Nat.le_of_ble_eq_true rfl) (ct_X7_isTale tl M _ (hj.1)) (fun rr2q M_2q hp2q => ?_)
  obtain ⟨z2q, rfl, hfxM_2, hrdM_2, hisM_2⟩ := hp2q
  refine aw_eq (stk2 := [aI z2q]) ?_ rfl rfl rfl rfl
  have efg := fg_fx hfxM_2 (by decide)
  refine aw_if_eq (tgt := 24) cx dX7_move_5 (by decide) (fun c5q => ?_) (fun c5q => ?_)
  · refine aw_bipush (n := (-2)) cx dX7_move_24 (by decide) ?_
    refine aw_iret cx rt dX7_move_26 ?_
    first | exact ⟨_, rfl, (hfxM_2.mono (by decide) (by decide)).tr hfxM_18 (by decide) (by decide), hanM_18⟩ | exact ⟨_, rfl, hfxM_2.mono (by decide) (by decide), Or.inl ⟨by omega, rfl⟩⟩
  · refine aw_iload_n cx dX7_move_8 rfl 2 rfl ?_
    refine aw_callS (as := [aI what]) (stk := []) cx dX7_move_9 ml_X7_117 ms_X7_isTwo (by decide) rfl rfl (Nat.le_of_ble_eq_true rfl) (ct_X7_isTwo tl M_2q _ ) (fun rr9q M_9q hp9q => ?_)
    obtain ⟨rfl, rfl⟩ := hp9q
    refine aw_top (stk := []) (fun z9q hz9q => ?_)
    refine aw_if_eq (tgt := 24) cx dX7_move_12 (by decide) (fun c12q => ?_) (fun c12q => ?_)
    · have d12q := b2_e0.mp (hz9q.symm.trans c12q)
      refine aw_bipush (n := (-2)) cx dX7_move_24 (by decide) ?_
      refine aw_iret cx rt dX7_move_26 ?_
      first | exact ⟨_, rfl, (hfxM_2.mono (by decide) (by decide)).tr hfxM_18 (by decide) (by decide), hanM_18⟩ | exact ⟨_, rfl, hfxM_2.mono (by decide) (by decide), Or.inl ⟨by omega, rfl⟩⟩
    · have d12q := b2_y hz9q c12q
      refine aw_aload_n cx dX7_move_15 rfl 0 rfl ?_
      refine aw_iload_n cx dX7_move_16 rfl 1 rfl ?_
      refine aw_iload_n cx dX7_move_17 rfl 2 rfl ?_
      refine aw_callV (as := [aI k, aI what]) (k := 32) (stk := []) cx dX7_move_18 ml_X7_296 mv_X7_moveOf rfl (lb_32 tl) (by decide) rfl rfl (Nat.le_of_ble_eq_true rfl) (ct_X7_moveOf tl M_2q _ _ (JQ_fx hj hfxM_2 (by decide)) (by rw [hfxM_2.at 5 (by decide)]; omega) (by omega)) (fun rr18q M_18q hp18q => ?_)
      obtain ⟨z18q, rfl, hfxM_18, hrdM_18, hanM_18⟩ := hp18q
      refine aw_eq (stk2 := [aI z18q]) ?_ rfl rfl rfl rfl
      rw [hfxM_2.at 5 (by decide), efg.1, efg.2] at hanM_18
      refine aw_goto (tgt := 26) cx dX7_move_21 (by decide) ?_
      refine aw_iret cx rt dX7_move_26 ?_
      first | exact ⟨_, rfl, (hfxM_2.mono (by decide) (by decide)).tr hfxM_18 (by decide) (by decide), hanM_18⟩ | exact ⟨_, rfl, hfxM_2.mono (by decide) (by decide), Or.inl ⟨by omega, rfl⟩⟩
set_option maxHeartbeats 1000000 in
set_option maxRecDepth 100000 in
theorem ct_X7_dropOf (tl : List CD) (M : Mem) (what : Int) (hj : JQ M) (hw : 0 ≤ what ∧ what ≤ 1) : Ct 8 mX7_dropOf (LB ++ tl) [aR 32, aI what] M (fun r M1 => ∃ x, r = some (aI x) ∧ FX RC RF M M1 ∧ RD M1 ∧ (aPick False (fDR (fgT M) (qgT M)) (M 5 4).toNat what x)) := by
  refine Ct.of (own := RX7) rfl (by decide +kernel) (Nat.le_of_ble_eq_true rfl) (fun X cx rt => ?_)
  refine aw_eq (loc2 := [(0, aR 32), (1, aI what)]) ?_ rfl rfl rfl rfl
  refine aw_rngL 1 rfl (fun rl_what rh_what => ?_)
  refine aw_ok (fun om => ?_)
  have hsz : 0 ≤ M 5 4 ∧ M 5 4 ≤ 12 := okF om (lb_5 tl) (j := 4) rfl (show (0 : Nat) ≠ 1 by decide)
  refine aw_aload_n cx dX7_dropOf_0 rfl 0 rfl ?_
  refine aw_callV (as := []) (k := 32) (stk := []) cx dX7_dropOf_1 ml_X7_290 mv_X7_starts rfl (lb_32 tl) (by decide) rfl rfl (Nat.le_of_ble_eq_true rfl) (ct_X7_starts tl M  (hj)) (fun rr1q M_1q hp1q => ?_)
  obtain ⟨rfl, hfxM_1, hrdM_1, hnwM_1, hbsM_1, hmsM_1⟩ := hp1q
  refine aw_eq (stk2 := []) ?_ rfl rfl rfl rfl
  obtain ⟨n1, n2, n3, n4⟩ := hnwM_1
  have er2 : M_1q 32 2 = M 5 4 := by rw [hrdM_1.1, hfxM_1.at 5 (by decide)]
  refine aw_iconst (n := 0) cx dX7_dropOf_4 (by decide) ?_
  refine aw_istore_n (loc2 := [(2, aI 0), (0, aR 32), (1, aI what)]) cx dX7_dropOf_5 rfl (by decide) rfl ?_
  have lp6q : ∀ (fu : Nat) (x2q : Int) (N6q : Mem), (0 ≤ x2q ∧ x2q ≤ M 5 4) → (FX [48, 49, 50, 51, 52, 53] [20, 28, 30, 31] M_1q N6q) → (AMX (fDR (fgT M) (qgT M)) (-1) x2q.toNat (N6q 32 30) (N6q 32 31)) → ((M 5 4 - x2q).toNat) < fu → AW X (LB ++ tl) 3 6 [(0, aR 32), (1, aI what), (2, aI x2q)] [] N6q := by
    intro fu
    induction fu with
    | zero =>
      intro x2q N6q h0q hf hx hm
      exact absurd hm (Nat.not_lt_zero _)
    | succ fu ih6q =>
      intro x2q N6q h0q hf hx hm
      have e2q := hf.fd 2 (by decide)
      refine aw_iload_n cx dX7_dropOf_6 rfl 2 rfl ?_
      refine aw_aload_n cx dX7_dropOf_7 rfl 0 rfl ?_
      refine aw_getI cx dX7_dropOf_8 fl_X7_135 (lb_32 tl) rfl (fun z8q hz8q lo_z8q hi_z8q => ?_)
      refine aw_icmp_ge (tgt := 30) cx dX7_dropOf_11 (by decide) (fun c11q => ?_) (fun c11q => ?_)
      · refine aw_iload_n cx dX7_dropOf_30 rfl 1 rfl ?_
        refine aw_if_ne (tgt := 41) cx dX7_dropOf_31 (by decide) (fun c31q => ?_) (fun c31q => ?_)
        · refine aw_aload_n cx dX7_dropOf_41 rfl 0 rfl ?_
          refine aw_getI cx dX7_dropOf_42 fl_X7_287 (lb_32 tl) rfl (fun z42q hz42q lo_z42q hi_z42q => ?_)
          refine aw_iret cx rt dX7_dropOf_45 ?_
          exact ⟨_, rfl, (hfxM_1.mono (by decide) (by decide)).tr hf (by decide) (by decide), RD_fx hrdM_1 hf (by decide), Or.inr ⟨fun q => q, _, _, by rw [show x2q.toNat = (M 5 4).toNat by omega] at hx; exact hx, Or.inr ⟨by omega, hz42q⟩⟩⟩
        · refine aw_aload_n cx dX7_dropOf_34 rfl 0 rfl ?_
          refine aw_getI cx dX7_dropOf_35 fl_X7_284 (lb_32 tl) rfl (fun z35q hz35q lo_z35q hi_z35q => ?_)
          refine aw_goto (tgt := 45) cx dX7_dropOf_38 (by decide) ?_
          refine aw_iret cx rt dX7_dropOf_45 ?_
          exact ⟨_, rfl, (hfxM_1.mono (by decide) (by decide)).tr hf (by decide) (by decide), RD_fx hrdM_1 hf (by decide), Or.inr ⟨fun q => q, _, _, by rw [show x2q.toNat = (M 5 4).toNat by omega] at hx; exact hx, Or.inl ⟨by omega, hz35q⟩⟩⟩
      · refine aw_aload_n cx dX7_dropOf_14 rfl 0 rfl ?_
        refine aw_iload_n cx dX7_dropOf_15 rfl 2 rfl ?_
        refine aw_putI cx dX7_dropOf_16 fl_X7_187 kt_X7 rfl rfl (lb_32 tl) rfl (⟨by omega, by omega⟩) ?_
        obtain ⟨M_16q, hM_16q⟩ : ∃ qm, qm = up N6q 32 20 x2q := ⟨_, rfl⟩
        rw [← hM_16q]
        refine aw_ok (fun omk => ?_)
        have h44k : ∀ j, 0 ≤ M_16q 44 j := fun j => (okA omk (lb_44 tl) j).1
        have h7k : 0 ≤ M_16q 32 7 ∧ M_16q 32 7 ≤ 8 := okF omk (lb_32 tl) (j := 7) rfl (show (0 : Nat) ≠ 1 by decide)
        refine aw_aload_n cx dX7_dropOf_19 rfl 0 rfl ?_
        refine aw_iload_n cx dX7_dropOf_20 rfl 2 rfl ?_
        refine aw_callV (as := [aI x2q]) (k := 32) (stk := []) cx dX7_dropOf_21 ml_X7_293 mv_X7_tries rfl (lb_32 tl) (by decide) rfl rfl (Nat.le_of_ble_eq_true rfl) (ct_X7_tries tl M_16q _ (by omega)) (fun rr21q M_21q hp21q => ?_)
        obtain ⟨rfl, hfxM_21, hrnM_21, hbmM_21⟩ := hp21q
        refine aw_eq (stk2 := []) ?_ rfl rfl rfl rfl
        have fxa : FX [48, 49, 50, 51, 52, 53] [20, 28, 30, 31] M_1q M_16q := hf.put hM_16q (by decide)
        have fxm : FX RC RF M M_16q := hfxM_1.tr fxa (by decide) (by decide)
        have hrf := now_g (F := fgT M) (lo := x2q) hj fxm (RD_fx hrdM_1 fxa (by decide)) (up_eq hM_16q) (by rw [fxa.fd 15 (by decide), n1]; rfl) rfl (fun e _ => by rw [fxa.fd 21 (by decide), n3, KEN_0]; rfl) rfl rfl (by
          intro i hi
          rw [fxa.at 44 (by decide), fxa.at 45 (by decide), fxa.at 46 (by decide), fxa.at 47 (by decide)]
          exact n4 i hi) h44k h7k.2 hrnM_21
        have hmv : PCN (M_21q 32 28) = fDR (fgT M) (qgT M) x2q.toNat := by
          rw [hrf.2.2.2.2.2.1]
          show _ = PCN (fCB ((x2q.toNat : Nat) : Int) (fgT M) (qgT M))
          rw [show ((x2q.toNat : Nat) : Int) = x2q by omega]
        have f31 : M_16q 32 31 = N6q 32 31 := up_ne hM_16q (by omega)
        have f30 : M_16q 32 30 = N6q 32 30 := up_ne hM_16q (by omega)
        rw [f30, f31, hmv] at hbmM_21
        refine aw_iinc cx dX7_dropOf_24 2 rfl (by decide) (by omega) (fun z24q hz24q => ?_)
        refine aw_loc (loc2 := [(2, aI z24q), (0, aR 32), (1, aI what)]) rfl ?_
        refine aw_goto (tgt := 6) cx dX7_dropOf_27 (by decide) ?_
        refine aw_sub [1, 2, 0] rfl ?_
        refine ih6q _ _  ?i_h0 ?i_hf ?i_hx ?i_m
        case i_h0 =>
          omega
        case i_hf =>
          exact fxa.tr hfxM_21 (by decide) (by decide)
        case i_hx =>
          rw [hz24q]
          rcases hbmM_21 with ⟨q1q, q2q, q3q⟩ | ⟨q1q, q2q, q3q⟩
          · rw [q2q, q3q]; exact AMX_up h0q.1 hx q1q
          · rw [q2q, q3q]; exact AMX_no h0q.1 hx q1q
        case i_m =>
          omega
  refine aw_sub [1, 2, 0] rfl ?_
  refine lp6q _ _ _  ?i_h0 ?i_hf ?i_hx (Nat.lt_succ_self _)
  case i_h0 =>
    omega
  case i_hf =>
    exact FX.rf
  case i_hx =>
    rw [hbsM_1, hmsM_1]; exact AMX_0 _ _
set_option maxHeartbeats 1000000 in
set_option maxRecDepth 100000 in
theorem ct_X7_drop (tl : List CD) (M : Mem) (what : Int) (hj : JQ M) : Ct 9 mX7_drop (LB ++ tl) [aR 32, aI what] M (fun r M1 => ∃ x, r = some (aI x) ∧ FX RC RF M M1 ∧ (aPick False (fDR (fgT M) (qgT M)) (M 5 4).toNat what x)) := by
  refine Ct.of (own := RX7) rfl (by decide +kernel) (Nat.le_of_ble_eq_true rfl) (fun X cx rt => ?_)
  refine aw_eq (loc2 := [(0, aR 32), (1, aI what)]) ?_ rfl rfl rfl rfl
  refine aw_rngL 1 rfl (fun rl_what rh_what => ?_)
  refine aw_iload_n cx dX7_drop_0 rfl 1 rfl ?_
  refine aw_callS (as := [aI what]) (stk := []) cx dX7_drop_1 ml_X7_117 ms_X7_isTwo (by decide) rfl rfl (Nat.le_of_ble_eq_true rfl) (ct_X7_isTwo tl M _ ) (fun rr1q M_1q hp1q => ?_)
  obtain ⟨rfl, rfl⟩ := hp1q
  refine aw_top (stk := []) (fun z1q hz1q => ?_)
  refine aw_if_eq (tgt := 15) cx dX7_drop_4 (by decide) (fun c4q => ?_) (fun c4q => ?_)
  · have d4q := b2_e0.mp (hz1q.symm.trans c4q)
    refine aw_bipush (n := (-2)) cx dX7_drop_15 (by decide) ?_
    refine aw_iret cx rt dX7_drop_17 ?_
    first | exact ⟨_, rfl, hfxM_9, hanM_9⟩ | exact ⟨_, rfl, FX.rf, Or.inl ⟨by omega, rfl⟩⟩
  · have d4q := b2_y hz1q c4q
    refine aw_aload_n cx dX7_drop_7 rfl 0 rfl ?_
    refine aw_iload_n cx dX7_drop_8 rfl 1 rfl ?_
    refine aw_callV (as := [aI what]) (k := 32) (stk := []) cx dX7_drop_9 ml_X7_299 mv_X7_dropOf rfl (lb_32 tl) (by decide) rfl rfl (Nat.le_of_ble_eq_true rfl) (ct_X7_dropOf tl M _ (hj) (by omega)) (fun rr9q M_9q hp9q => ?_)
    obtain ⟨z9q, rfl, hfxM_9, hrdM_9, hanM_9⟩ := hp9q
    refine aw_eq (stk2 := [aI z9q]) ?_ rfl rfl rfl rfl
    refine aw_goto (tgt := 17) cx dX7_drop_12 (by decide) ?_
    refine aw_iret cx rt dX7_drop_17 ?_
    first | exact ⟨_, rfl, hfxM_9, hanM_9⟩ | exact ⟨_, rfl, FX.rf, Or.inl ⟨by omega, rfl⟩⟩
set_option maxHeartbeats 1000000 in
set_option maxRecDepth 100000 in
theorem ct_X7_isSeen (tl : List CD) (M : Mem)  : Ct 4 mX7_isSeen (LB ++ tl) [aR 32] M (fun r M1 => ∃ x, r = some (aI x) ∧ FX [48, 49, 50, 51, 52, 53] [28] M M1 ∧ RUNS M M1 ∧ (x = 0 ∨ x = 1) ∧ (x = 1 ↔ SO (M 32 34).toNat (M 57) (M 58) (M 32 7) (M1 32 28))) := by
  refine Ct.of (own := RX7) rfl (by decide +kernel) (Nat.le_of_ble_eq_true rfl) (fun X cx rt => ?_)
  refine aw_eq (loc2 := [(0, aR 32)]) ?_ rfl rfl rfl rfl
  refine aw_ok (fun om => ?_)
  have hrs : 0 ≤ M 32 34 ∧ M 32 34 ≤ 8 := okF om (lb_32 tl) (j := 34) rfl (show (0 : Nat) ≠ 1 by decide)
  refine aw_aload_n cx dX7_isSeen_0 rfl 0 rfl ?_
  refine aw_callV (as := []) (k := 32) (stk := []) cx dX7_isSeen_1 ml_X7_237 mv_X7_runs rfl (lb_32 tl) (by decide) rfl rfl (Nat.le_of_ble_eq_true rfl) (ct_X7_runs tl M  ) (fun rr1q M_1q hp1q => ?_)
  obtain ⟨rfl, hfxM_1, hrnM_1⟩ := hp1q
  refine aw_eq (stk2 := []) ?_ rfl rfl rfl rfl
  have f34 := hfxM_1.fd 34 (by decide)
  have f7 := hfxM_1.fd 7 (by decide)
  have f57 := hfxM_1.at 57 (by decide)
  have f58 := hfxM_1.at 58 (by decide)
  refine aw_iconst (n := 1) cx dX7_isSeen_4 (by decide) ?_
  refine aw_istore_n (loc2 := [(1, aI 1), (0, aR 32)]) cx dX7_isSeen_5 rfl (by decide) rfl ?_
  refine aw_iconst (n := 0) cx dX7_isSeen_6 (by decide) ?_
  refine aw_istore_n (loc2 := [(2, aI 0), (1, aI 1), (0, aR 32)]) cx dX7_isSeen_7 rfl (by decide) rfl ?_
  have lp8q : ∀ (fu : Nat) (x1q : Int) (x2q : Int), (0 ≤ x2q ∧ x2q ≤ M 32 34) → (x1q = 0 ∨ x1q = 1) → (x1q = 1 ↔ SO x2q.toNat (M 57) (M 58) (M 32 7) (M_1q 32 28)) → ((M 32 34 - x2q).toNat) < fu → AW X (LB ++ tl) 3 8 [(0, aR 32), (1, aI x1q), (2, aI x2q)] [] M_1q := by
    intro fu
    induction fu with
    | zero =>
      intro x1q x2q h0q h01q hx hm
      exact absurd hm (Nat.not_lt_zero _)
    | succ fu ih8q =>
      intro x1q x2q h0q h01q hx hm
      refine aw_iload_n cx dX7_isSeen_8 rfl 2 rfl ?_
      refine aw_aload_n cx dX7_isSeen_9 rfl 0 rfl ?_
      refine aw_getI cx dX7_isSeen_10 fl_X7_314 (lb_32 tl) rfl (fun z10q hz10q lo_z10q hi_z10q => ?_)
      refine aw_icmp_ge (tgt := 76) cx dX7_isSeen_13 (by decide) (fun c13q => ?_) (fun c13q => ?_)
      · refine aw_iload_n cx dX7_isSeen_76 rfl 1 rfl ?_
        refine aw_zret cx rt dX7_isSeen_77 (by omega) ?_
        refine ⟨x1q, rfl, hfxM_1, hrnM_1, h01q, ?_⟩
        rw [show (M 32 34).toNat = x2q.toNat by omega]; exact hx
      · refine aw_iload_n cx dX7_isSeen_16 rfl 1 rfl ?_
        refine aw_if_eq (tgt := 76) cx dX7_isSeen_17 (by decide) (fun c17q => ?_) (fun c17q => ?_)
        · refine aw_iload_n cx dX7_isSeen_76 rfl 1 rfl ?_
          refine aw_zret cx rt dX7_isSeen_77 (by omega) ?_
          refine ⟨x1q, rfl, hfxM_1, hrnM_1, h01q, ⟨fun q => absurd q (by omega), fun q => absurd (hx.mpr (SO_le q (by omega))) (by omega)⟩⟩
        · refine aw_aload_n cx dX7_isSeen_20 rfl 0 rfl ?_
          refine aw_getR (q := 57) cx dX7_isSeen_21 fl_X7_82 (lb_32 tl) rfl rfl ?_
          refine aw_iload_n cx dX7_isSeen_24 rfl 2 rfl ?_
          refine aw_iald cx dX7_isSeen_25 (lb_57 tl) (⟨by omega, by omega⟩) (fun z25q hz25q lo_z25q hi_z25q => ?_)
          have g57 : z25q = M 57 x2q.toNat := by rw [hz25q, f57]
          refine aw_aload_n cx dX7_isSeen_26 rfl 0 rfl ?_
          refine aw_getI cx dX7_isSeen_27 fl_X7_138 (lb_32 tl) rfl (fun z27q hz27q lo_z27q hi_z27q => ?_)
          refine aw_icmp_ge (tgt := 68) cx dX7_isSeen_30 (by decide) (fun c30q => ?_) (fun c30q => ?_)
          · refine aw_iconst (n := 0) cx dX7_isSeen_68 (by decide) ?_
            refine aw_istore_n (loc2 := [(1, aI 0), (0, aR 32), (2, aI x2q)]) cx dX7_isSeen_69 rfl (by decide) rfl ?_
            refine aw_iinc cx dX7_isSeen_70 2 rfl (by decide) (by omega) (fun z70q hz70q => ?_)
            refine aw_loc (loc2 := [(2, aI z70q), (1, aI 0), (0, aR 32)]) rfl ?_
            refine aw_goto (tgt := 8) cx dX7_isSeen_73 (by decide) ?_
            refine aw_sub [2, 1, 0] rfl ?_
            refine ih8q _ _  ?i_h0 ?i_h01 ?i_hx ?i_m
            case i_h0 =>
              omega
            case i_h01 =>
              omega
            case i_hx =>
              first
              | (rw [hz70q, SO_s h0q.1]
                 refine ⟨fun _ => ⟨hx.mp (by omega), by omega, ?_⟩, fun _ => rfl⟩
                 rw [← g57]
                 by_cases hb : BT (M_1q 32 28) z25q.toNat
                 · rw [hz34q, show z42q = z25q by omega, b2_t hb] at hz43q
                   exact ⟨fun _ => by omega, fun _ => hb⟩
                 · rw [hz34q, show z42q = z25q by omega, b2_f hb] at hz43q
                   exact ⟨fun z => absurd z hb, fun z => by exfalso; omega⟩)
              | (rw [hz70q, SO_s h0q.1]
                 refine ⟨fun q => absurd q (by decide), fun q => ?_⟩
                 have q2q := q.2
                 rw [← g57] at q2q
                 exfalso
                 by_cases hb : BT (M_1q 32 28) z25q.toNat
                 · have q3q := q2q.2.mp hb
                   first
                   | omega
                   | (rw [hz34q, show z42q = z25q by omega, b2_t hb] at hz43q; omega)
                 · have q3q : ¬ M 58 x2q.toNat = 1 := fun z => hb (q2q.2.mpr z)
                   first
                   | omega
                   | (rw [hz34q, show z42q = z25q by omega, b2_f hb] at hz43q; omega))
            case i_m =>
              omega
          · refine aw_aload_n cx dX7_isSeen_33 rfl 0 rfl ?_
            refine aw_getI cx dX7_isSeen_34 fl_X7_228 (lb_32 tl) rfl (fun z34q hz34q lo_z34q hi_z34q => ?_)
            refine aw_aload_n cx dX7_isSeen_37 rfl 0 rfl ?_
            refine aw_getR (q := 57) cx dX7_isSeen_38 fl_X7_82 (lb_32 tl) rfl rfl ?_
            refine aw_iload_n cx dX7_isSeen_41 rfl 2 rfl ?_
            refine aw_iald cx dX7_isSeen_42 (lb_57 tl) (⟨by omega, by omega⟩) (fun z42q hz42q lo_z42q hi_z42q => ?_)
            refine aw_callS (as := [aI z34q, aI z42q]) (stk := []) cx dX7_isSeen_43 ml_X7_196 ms_X7_isIn (by decide) rfl rfl (Nat.le_of_ble_eq_true rfl) (ct_X7_isIn tl M_1q _ _ (by omega) (by omega)) (fun rr43q M_43q hp43q => ?_)
            obtain ⟨rfl, rfl⟩ := hp43q
            refine aw_top (stk := []) (fun z43q hz43q => ?_)
            refine aw_aload_n cx dX7_isSeen_46 rfl 0 rfl ?_
            refine aw_getR (q := 58) cx dX7_isSeen_47 fl_X7_85 (lb_32 tl) rfl rfl ?_
            refine aw_iload_n cx dX7_isSeen_50 rfl 2 rfl ?_
            refine aw_iald cx dX7_isSeen_51 (lb_58 tl) (⟨by omega, by omega⟩) (fun z51q hz51q lo_z51q hi_z51q => ?_)
            have g58 : z51q = M 58 x2q.toNat := by rw [hz51q, f58]
            refine aw_iconst (n := 1) cx dX7_isSeen_52 (by decide) ?_
            refine aw_icmp_ne (tgt := 60) cx dX7_isSeen_53 (by decide) (fun c53q => ?_) (fun c53q => ?_)
            · refine aw_iconst (n := 0) cx dX7_isSeen_60 (by decide) ?_
              refine aw_icmp_ne (tgt := 68) cx dX7_isSeen_61 (by decide) (fun c61q => ?_) (fun c61q => ?_)
              · refine aw_iconst (n := 0) cx dX7_isSeen_68 (by decide) ?_
                refine aw_istore_n (loc2 := [(1, aI 0), (0, aR 32), (2, aI x2q)]) cx dX7_isSeen_69 rfl (by decide) rfl ?_
                refine aw_iinc cx dX7_isSeen_70 2 rfl (by decide) (by omega) (fun z70q hz70q => ?_)
                refine aw_loc (loc2 := [(2, aI z70q), (1, aI 0), (0, aR 32)]) rfl ?_
                refine aw_goto (tgt := 8) cx dX7_isSeen_73 (by decide) ?_
                refine aw_sub [2, 1, 0] rfl ?_
                refine ih8q _ _  ?i_h0 ?i_h01 ?i_hx ?i_m
                case i_h0 =>
                  omega
                case i_h01 =>
                  omega
                case i_hx =>
                  first
                  | (rw [hz70q, SO_s h0q.1]
                     refine ⟨fun _ => ⟨hx.mp (by omega), by omega, ?_⟩, fun _ => rfl⟩
                     rw [← g57]
                     by_cases hb : BT (M_1q 32 28) z25q.toNat
                     · rw [hz34q, show z42q = z25q by omega, b2_t hb] at hz43q
                       exact ⟨fun _ => by omega, fun _ => hb⟩
                     · rw [hz34q, show z42q = z25q by omega, b2_f hb] at hz43q
                       exact ⟨fun z => absurd z hb, fun z => by exfalso; omega⟩)
                  | (rw [hz70q, SO_s h0q.1]
                     refine ⟨fun q => absurd q (by decide), fun q => ?_⟩
                     have q2q := q.2
                     rw [← g57] at q2q
                     exfalso
                     by_cases hb : BT (M_1q 32 28) z25q.toNat
                     · have q3q := q2q.2.mp hb
                       first
                       | omega
                       | (rw [hz34q, show z42q = z25q by omega, b2_t hb] at hz43q; omega)
                     · have q3q : ¬ M 58 x2q.toNat = 1 := fun z => hb (q2q.2.mpr z)
                       first
                       | omega
                       | (rw [hz34q, show z42q = z25q by omega, b2_f hb] at hz43q; omega))
                case i_m =>
                  omega
              · refine aw_iconst (n := 1) cx dX7_isSeen_64 (by decide) ?_
                refine aw_goto (tgt := 69) cx dX7_isSeen_65 (by decide) ?_
                refine aw_istore_n (loc2 := [(1, aI 1), (0, aR 32), (2, aI x2q)]) cx dX7_isSeen_69 rfl (by decide) rfl ?_
                refine aw_iinc cx dX7_isSeen_70 2 rfl (by decide) (by omega) (fun z70q hz70q => ?_)
                refine aw_loc (loc2 := [(2, aI z70q), (1, aI 1), (0, aR 32)]) rfl ?_
                refine aw_goto (tgt := 8) cx dX7_isSeen_73 (by decide) ?_
                refine aw_sub [2, 1, 0] rfl ?_
                refine ih8q _ _  ?i_h0 ?i_h01 ?i_hx ?i_m
                case i_h0 =>
                  omega
                case i_h01 =>
                  omega
                case i_hx =>
                  first
                  | (rw [hz70q, SO_s h0q.1]
                     refine ⟨fun _ => ⟨hx.mp (by omega), by omega, ?_⟩, fun _ => rfl⟩
                     rw [← g57]
                     by_cases hb : BT (M_1q 32 28) z25q.toNat
                     · rw [hz34q, show z42q = z25q by omega, b2_t hb] at hz43q
                       exact ⟨fun _ => by omega, fun _ => hb⟩
                     · rw [hz34q, show z42q = z25q by omega, b2_f hb] at hz43q
                       exact ⟨fun z => absurd z hb, fun z => by exfalso; omega⟩)
                  | (rw [hz70q, SO_s h0q.1]
                     refine ⟨fun q => absurd q (by decide), fun q => ?_⟩
                     have q2q := q.2
                     rw [← g57] at q2q
                     exfalso
                     by_cases hb : BT (M_1q 32 28) z25q.toNat
                     · have q3q := q2q.2.mp hb
                       first
                       | omega
                       | (rw [hz34q, show z42q = z25q by omega, b2_t hb] at hz43q; omega)
                     · have q3q : ¬ M 58 x2q.toNat = 1 := fun z => hb (q2q.2.mpr z)
                       first
                       | omega
                       | (rw [hz34q, show z42q = z25q by omega, b2_f hb] at hz43q; omega))
                case i_m =>
                  omega
            · refine aw_iconst (n := 1) cx dX7_isSeen_56 (by decide) ?_
              refine aw_goto (tgt := 61) cx dX7_isSeen_57 (by decide) ?_
              refine aw_icmp_ne (tgt := 68) cx dX7_isSeen_61 (by decide) (fun c61q => ?_) (fun c61q => ?_)
              · refine aw_iconst (n := 0) cx dX7_isSeen_68 (by decide) ?_
                refine aw_istore_n (loc2 := [(1, aI 0), (0, aR 32), (2, aI x2q)]) cx dX7_isSeen_69 rfl (by decide) rfl ?_
                refine aw_iinc cx dX7_isSeen_70 2 rfl (by decide) (by omega) (fun z70q hz70q => ?_)
                refine aw_loc (loc2 := [(2, aI z70q), (1, aI 0), (0, aR 32)]) rfl ?_
                refine aw_goto (tgt := 8) cx dX7_isSeen_73 (by decide) ?_
                refine aw_sub [2, 1, 0] rfl ?_
                refine ih8q _ _  ?i_h0 ?i_h01 ?i_hx ?i_m
                case i_h0 =>
                  omega
                case i_h01 =>
                  omega
                case i_hx =>
                  first
                  | (rw [hz70q, SO_s h0q.1]
                     refine ⟨fun _ => ⟨hx.mp (by omega), by omega, ?_⟩, fun _ => rfl⟩
                     rw [← g57]
                     by_cases hb : BT (M_1q 32 28) z25q.toNat
                     · rw [hz34q, show z42q = z25q by omega, b2_t hb] at hz43q
                       exact ⟨fun _ => by omega, fun _ => hb⟩
                     · rw [hz34q, show z42q = z25q by omega, b2_f hb] at hz43q
                       exact ⟨fun z => absurd z hb, fun z => by exfalso; omega⟩)
                  | (rw [hz70q, SO_s h0q.1]
                     refine ⟨fun q => absurd q (by decide), fun q => ?_⟩
                     have q2q := q.2
                     rw [← g57] at q2q
                     exfalso
                     by_cases hb : BT (M_1q 32 28) z25q.toNat
                     · have q3q := q2q.2.mp hb
                       first
                       | omega
                       | (rw [hz34q, show z42q = z25q by omega, b2_t hb] at hz43q; omega)
                     · have q3q : ¬ M 58 x2q.toNat = 1 := fun z => hb (q2q.2.mpr z)
                       first
                       | omega
                       | (rw [hz34q, show z42q = z25q by omega, b2_f hb] at hz43q; omega))
                case i_m =>
                  omega
              · refine aw_iconst (n := 1) cx dX7_isSeen_64 (by decide) ?_
                refine aw_goto (tgt := 69) cx dX7_isSeen_65 (by decide) ?_
                refine aw_istore_n (loc2 := [(1, aI 1), (0, aR 32), (2, aI x2q)]) cx dX7_isSeen_69 rfl (by decide) rfl ?_
                refine aw_iinc cx dX7_isSeen_70 2 rfl (by decide) (by omega) (fun z70q hz70q => ?_)
                refine aw_loc (loc2 := [(2, aI z70q), (1, aI 1), (0, aR 32)]) rfl ?_
                refine aw_goto (tgt := 8) cx dX7_isSeen_73 (by decide) ?_
                refine aw_sub [2, 1, 0] rfl ?_
                refine ih8q _ _  ?i_h0 ?i_h01 ?i_hx ?i_m
                case i_h0 =>
                  omega
                case i_h01 =>
                  omega
                case i_hx =>
                  first
                  | (rw [hz70q, SO_s h0q.1]
                     refine ⟨fun _ => ⟨hx.mp (by omega), by omega, ?_⟩, fun _ => rfl⟩
                     rw [← g57]
                     by_cases hb : BT (M_1q 32 28) z25q.toNat
                     · rw [hz34q, show z42q = z25q by omega, b2_t hb] at hz43q
                       exact ⟨fun _ => by omega, fun _ => hb⟩
                     · rw [hz34q, show z42q = z25q by omega, b2_f hb] at hz43q
                       exact ⟨fun z => absurd z hb, fun z => by exfalso; omega⟩)
                  | (rw [hz70q, SO_s h0q.1]
                     refine ⟨fun q => absurd q (by decide), fun q => ?_⟩
                     have q2q := q.2
                     rw [← g57] at q2q
                     exfalso
                     by_cases hb : BT (M_1q 32 28) z25q.toNat
                     · have q3q := q2q.2.mp hb
                       first
                       | omega
                       | (rw [hz34q, show z42q = z25q by omega, b2_t hb] at hz43q; omega)
                     · have q3q : ¬ M 58 x2q.toNat = 1 := fun z => hb (q2q.2.mpr z)
                       first
                       | omega
                       | (rw [hz34q, show z42q = z25q by omega, b2_f hb] at hz43q; omega))
                case i_m =>
                  omega
  refine aw_sub [2, 1, 0] rfl ?_
  refine lp8q _ _ _  ?i_h0 ?i_h01 ?i_hx (Nat.lt_succ_self _)
  case i_h0 =>
    omega
  case i_h01 =>
    omega
  case i_hx =>
    exact ⟨fun _ => SO_0, fun _ => rfl⟩
set_option maxHeartbeats 1000000 in
set_option maxRecDepth 100000 in
theorem ct_X7_neverNow (tl : List CD) (M : Mem)  (hj : JQ M) : Ct 7 mX7_neverNow (LB ++ tl) [aR 32] M (fun r M1 => ∃ x, r = some (aI x) ∧ FX RC RF M M1 ∧ RD M1 ∧ (aNever (fgT M) (qgT M) (M 0 13).toNat (M 27) (M 28) x)) := by
  refine Ct.of (own := RX7) rfl (by decide +kernel) (Nat.le_of_ble_eq_true rfl) (fun X cx rt => ?_)
  refine aw_eq (loc2 := [(0, aR 32)]) ?_ rfl rfl rfl rfl
  refine aw_ok (fun om => ?_)
  have hcz : 0 ≤ M 15 2 ∧ M 15 2 ≤ 8 := okF om (lb_15 tl) (j := 2) rfl (show (0 : Nat) ≠ 1 by decide)
  have hse : 0 ≤ M 18 3 ∧ M 18 3 ≤ 8 := okF om (lb_18 tl) (j := 3) rfl (show (0 : Nat) ≠ 1 by decide)
  refine aw_aload_n cx dX7_neverNow_0 rfl 0 rfl ?_
  refine aw_callV (as := []) (k := 32) (stk := []) cx dX7_neverNow_1 ml_X7_234 mv_X7_asTold rfl (lb_32 tl) (by decide) rfl rfl (Nat.le_of_ble_eq_true rfl) (ct_X7_asTold tl M  (hj)) (fun rr1q M_1q hp1q => ?_)
  obtain ⟨rfl, hfxM_1, hrdM_1, hnwM_1⟩ := hp1q
  refine aw_eq (stk2 := []) ?_ rfl rfl rfl rfl
  obtain ⟨n1, n2, n3, n4⟩ := hnwM_1
  have e11q : M_1q 32 11 = M 18 3 := by rw [hfxM_1.fd 11 (by decide)]; exact hj.2.1.1
  refine aw_iconst (n := 0) cx dX7_neverNow_4 (by decide) ?_
  refine aw_istore_n (loc2 := [(1, aI 0), (0, aR 32)]) cx dX7_neverNow_5 rfl (by decide) rfl ?_
  refine aw_iconst (n := 0) cx dX7_neverNow_6 (by decide) ?_
  refine aw_istore_n (loc2 := [(2, aI 0), (1, aI 0), (0, aR 32)]) cx dX7_neverNow_7 rfl (by decide) rfl ?_
  have lp8q : ∀ (fu : Nat) (x1q : Int) (x2q : Int) (N8q : Mem), (0 ≤ x2q ∧ x2q ≤ M 18 3) → (FX [48, 49, 50, 51, 52, 53] [21, 28] M_1q N8q) → (BTS (aNeverP (fgT M) (qgT M) (M 0 13).toNat (M 27) (M 28)) x2q.toNat x1q) → ((M 18 3 - x2q).toNat) < fu → AW X (LB ++ tl) 3 8 [(0, aR 32), (1, aI x1q), (2, aI x2q)] [] N8q := by
    intro fu
    induction fu with
    | zero =>
      intro x1q x2q N8q h0q hf hx hm
      exact absurd hm (Nat.not_lt_zero _)
    | succ fu ih8q =>
      intro x1q x2q N8q h0q hf hx hm
      have e11b := hf.fd 11 (by decide)
      have hxl := BTS_le (m := 8) hx (by omega)
      refine aw_iload_n cx dX7_neverNow_8 rfl 2 rfl ?_
      refine aw_aload_n cx dX7_neverNow_9 rfl 0 rfl ?_
      refine aw_getI cx dX7_neverNow_10 fl_X7_171 (lb_32 tl) rfl (fun z10q hz10q lo_z10q hi_z10q => ?_)
      refine aw_icmp_ge (tgt := 46) cx dX7_neverNow_13 (by decide) (fun c13q => ?_) (fun c13q => ?_)
      · refine aw_iload_n cx dX7_neverNow_46 rfl 1 rfl ?_
        refine aw_iret cx rt dX7_neverNow_47 ?_
        refine ⟨_, rfl, (hfxM_1.mono (by decide) (by decide)).tr hf (by decide) (by decide), RD_fx hrdM_1 hf (by decide), ?_⟩
        rw [show x2q.toNat = (M 18 3).toNat by omega] at hx
        exact hx
      · refine aw_aload_n cx dX7_neverNow_16 rfl 0 rfl ?_
        refine aw_iconst (n := 1) cx dX7_neverNow_17 (by decide) ?_
        refine aw_iload_n cx dX7_neverNow_18 rfl 2 rfl ?_
        refine aw_ishl cx dX7_neverNow_19 (fun z19q hz19q => ?_)
        refine aw_putI cx dX7_neverNow_20 fl_X7_190 kt_X7 rfl rfl (lb_32 tl) rfl (by have q := bShl_lt (k := x2q) (n := 8) (by omega) (by omega); rw [hz19q]; omega) ?_
        obtain ⟨M_20q, hM_20q⟩ : ∃ qm, qm = up N8q 32 21 z19q := ⟨_, rfl⟩
        rw [← hM_20q]
        refine aw_ok (fun omk => ?_)
        have h44k : ∀ j, 0 ≤ M_20q 44 j := fun j => (okA omk (lb_44 tl) j).1
        have h7k : 0 ≤ M_20q 32 7 ∧ M_20q 32 7 ≤ 8 := okF omk (lb_32 tl) (j := 7) rfl (show (0 : Nat) ≠ 1 by decide)
        refine aw_iload_n cx dX7_neverNow_23 rfl 1 rfl ?_
        refine aw_aload_n cx dX7_neverNow_24 rfl 0 rfl ?_
        refine aw_callV (as := []) (k := 32) (stk := [aI x1q]) cx dX7_neverNow_25 ml_X7_317 mv_X7_isSeen rfl (lb_32 tl) (by decide) rfl rfl (Nat.le_of_ble_eq_true rfl) (ct_X7_isSeen tl M_20q  ) (fun rr25q M_25q hp25q => ?_)
        obtain ⟨z25q, rfl, hfxM_25, hrnM_25, h01M_25, hsoM_25⟩ := hp25q
        refine aw_eq (stk2 := [aI z25q, aI x1q]) ?_ rfl rfl rfl rfl
        have fxa : FX [48, 49, 50, 51, 52, 53] [21, 28] M_1q M_20q := hf.put hM_20q (by decide)
        have fxm : FX RC RF M M_20q := (hfxM_1.mono (by decide) (by decide)).tr fxa (by decide) (by decide)
        have hrdx := RD_fx hrdM_1 fxa (by decide)
        have hrf := now_g (F := setK (fgT M) (up1 (gK (fgT M)) x2q.toNat (-1))) (lo := -1) hj fxm hrdx (by rw [fxa.fd 20 (by decide)]; exact n2) (by rw [fxa.fd 15 (by decide), n1]; rfl) rfl (fun e _ => by rw [up_eq hM_20q, hz19q]; exact KEN_1 (by omega)) rfl rfl (by
          intro i hi
          rw [fxa.at 44 (by decide), fxa.at 45 (by decide), fxa.at 46 (by decide), fxa.at 47 (by decide)]
          exact n4 i hi) h44k h7k.2 hrnM_25
        have hse2 := (SO_j (cn := ((qgT M).2.1 : Int)) (x := M_25q 32 28) hj fxm hrdx (show (((M 15 2).toNat : Nat) : Int) = M 15 2 by omega))
        have hP : z25q = 1 ↔ aNeverP (fgT M) (qgT M) (M 0 13).toNat (M 27) (M 28) x2q.toNat := by
          rw [hsoM_25, hse2, hrf.2.2.2.2.2.1]
          exact Iff.rfl
        refine aw_if_eq (tgt := 37) cx dX7_neverNow_28 (by decide) (fun c28q => ?_) (fun c28q => ?_)
        · refine aw_iconst (n := 0) cx dX7_neverNow_37 (by decide) ?_
          refine aw_ior cx dX7_neverNow_38 (fun z38q hz38q => ?_)
          refine aw_istore_n (loc2 := [(1, aI z38q), (0, aR 32), (2, aI x2q)]) cx dX7_neverNow_39 rfl (by decide) rfl ?_
          refine aw_iinc cx dX7_neverNow_40 2 rfl (by decide) (by omega) (fun z40q hz40q => ?_)
          refine aw_loc (loc2 := [(2, aI z40q), (1, aI z38q), (0, aR 32)]) rfl ?_
          refine aw_goto (tgt := 8) cx dX7_neverNow_43 (by decide) ?_
          refine aw_sub [2, 1, 0] rfl ?_
          refine ih8q _ _ _  ?i_h0 ?i_hf ?i_hx ?i_m
          case i_h0 =>
            omega
          case i_hf =>
            exact fxa.tr hfxM_25 (by decide) (by decide)
          case i_hx =>
            rw [hz40q, hz38q]; first | (rw [bOr_z (by omega)]; exact BTS_n (by omega) hx (fun q => absurd (hP.mpr q) (by omega))) | (rw [hz33q]; exact BTS_y (by omega) hx (hP.mp (by omega)))
          case i_m =>
            omega
        · refine aw_iconst (n := 1) cx dX7_neverNow_31 (by decide) ?_
          refine aw_iload_n cx dX7_neverNow_32 rfl 2 rfl ?_
          refine aw_ishl cx dX7_neverNow_33 (fun z33q hz33q => ?_)
          refine aw_goto (tgt := 38) cx dX7_neverNow_34 (by decide) ?_
          refine aw_ior cx dX7_neverNow_38 (fun z38q hz38q => ?_)
          refine aw_istore_n (loc2 := [(1, aI z38q), (0, aR 32), (2, aI x2q)]) cx dX7_neverNow_39 rfl (by decide) rfl ?_
          refine aw_iinc cx dX7_neverNow_40 2 rfl (by decide) (by omega) (fun z40q hz40q => ?_)
          refine aw_loc (loc2 := [(2, aI z40q), (1, aI z38q), (0, aR 32)]) rfl ?_
          refine aw_goto (tgt := 8) cx dX7_neverNow_43 (by decide) ?_
          refine aw_sub [2, 1, 0] rfl ?_
          refine ih8q _ _ _  ?i_h0 ?i_hf ?i_hx ?i_m
          case i_h0 =>
            omega
          case i_hf =>
            exact fxa.tr hfxM_25 (by decide) (by decide)
          case i_hx =>
            rw [hz40q, hz38q]; first | (rw [bOr_z (by omega)]; exact BTS_n (by omega) hx (fun q => absurd (hP.mpr q) (by omega))) | (rw [hz33q]; exact BTS_y (by omega) hx (hP.mp (by omega)))
          case i_m =>
            omega
  refine aw_sub [2, 1, 0] rfl ?_
  refine lp8q _ _ _ _  ?i_h0 ?i_hf ?i_hx (Nat.lt_succ_self _)
  case i_h0 =>
    omega
  case i_hf =>
    exact FX.rf
  case i_hx =>
    exact BTS_0
set_option maxHeartbeats 1000000 in
set_option maxRecDepth 100000 in
theorem ct_X7_never (tl : List CD) (M : Mem)  (hj : JQ M) : Ct 8 mX7_never (LB ++ tl) [aR 32] M (fun r M1 => ∃ x, r = some (aI x) ∧ FX RC RF M M1 ∧ (aNever (fgT M) (qgT M) (M 0 13).toNat (M 27) (M 28) x)) := by
  refine Ct.of (own := RX7) rfl (by decide +kernel) (Nat.le_of_ble_eq_true rfl) (fun X cx rt => ?_)
  refine aw_eq (loc2 := [(0, aR 32)]) ?_ rfl rfl rfl rfl
  refine aw_aload_n cx dX7_never_0 rfl 0 rfl ?_
  refine aw_callV (as := []) (k := 32) (stk := []) cx dX7_never_1 ml_X7_321 mv_X7_neverNow rfl (lb_32 tl) (by decide) rfl rfl (Nat.le_of_ble_eq_true rfl) (ct_X7_neverNow tl M  (hj)) (fun rr1q M_1q hp1q => ?_)
  obtain ⟨z1q, rfl, hfxM_1, hrdM_1, hanM_1⟩ := hp1q
  refine aw_eq (stk2 := [aI z1q]) ?_ rfl rfl rfl rfl
  refine aw_iret cx rt dX7_never_4 ?_
  exact ⟨_, rfl, hfxM_1, hanM_1⟩
set_option maxHeartbeats 1000000 in
set_option maxRecDepth 100000 in
theorem ct_X7_whoseBy (tl : List CD) (M : Mem) (k : Int) (hj : JQ M) (hk : 0 ≤ k ∧ k < M 5 4) : Ct 7 mX7_whoseBy (LB ++ tl) [aR 32, aI k] M (fun r M1 => ∃ x, r = some (aI x) ∧ FX RC RF M M1 ∧ RD M1 ∧ (BTS (fun v => SO (M 0 13).toNat (M 27) (M 28) ((qgT M).2.1 : Int) (fCB (-1) (setW (fgT M) k.toNat (v : Int)) (qgT M))) 10 x ∧ ∀ v, v < 10 → M1 59 v = fWB (fgT M) (qgT M) k.toNat v)) := by
  refine Ct.of (own := RX7) rfl (by decide +kernel) (Nat.le_of_ble_eq_true rfl) (fun X cx rt => ?_)
  refine aw_eq (loc2 := [(0, aR 32), (1, aI k)]) ?_ rfl rfl rfl rfl
  refine aw_rngL 1 rfl (fun rl_k rh_k => ?_)
  refine aw_ok (fun om => ?_)
  have hsz : 0 ≤ M 5 4 ∧ M 5 4 ≤ 12 := okF om (lb_5 tl) (j := 4) rfl (show (0 : Nat) ≠ 1 by decide)
  have hcz : 0 ≤ M 15 2 ∧ M 15 2 ≤ 8 := okF om (lb_15 tl) (j := 2) rfl (show (0 : Nat) ≠ 1 by decide)
  refine aw_aload_n cx dX7_whoseBy_0 rfl 0 rfl ?_
  refine aw_callV (as := []) (k := 32) (stk := []) cx dX7_whoseBy_1 ml_X7_234 mv_X7_asTold rfl (lb_32 tl) (by decide) rfl rfl (Nat.le_of_ble_eq_true rfl) (ct_X7_asTold tl M  (hj)) (fun rr1q M_1q hp1q => ?_)
  obtain ⟨rfl, hfxM_1, hrdM_1, hnwM_1⟩ := hp1q
  refine aw_eq (stk2 := []) ?_ rfl rfl rfl rfl
  obtain ⟨n1, n2, n3, n4⟩ := hnwM_1
  refine aw_iconst (n := 0) cx dX7_whoseBy_4 (by decide) ?_
  refine aw_istore_n (loc2 := [(2, aI 0), (0, aR 32), (1, aI k)]) cx dX7_whoseBy_5 rfl (by decide) rfl ?_
  refine aw_iconst (n := 0) cx dX7_whoseBy_6 (by decide) ?_
  refine aw_istore_n (loc2 := [(3, aI 0), (2, aI 0), (0, aR 32), (1, aI k)]) cx dX7_whoseBy_7 rfl (by decide) rfl ?_
  have lp8q : ∀ (fu : Nat) (x2q : Int) (x3q : Int) (N8q : Mem), (0 ≤ x3q ∧ x3q ≤ 10) → (FX [46, 48, 49, 50, 51, 52, 53, 59] [28] M_1q N8q) → (∀ i, i ≠ k.toNat → N8q 46 i = M_1q 46 i) → (BTS (fun v => SO (M 0 13).toNat (M 27) (M 28) ((qgT M).2.1 : Int) (fCB (-1) (setW (fgT M) k.toNat (v : Int)) (qgT M))) x3q.toNat x2q) → (∀ v, v < x3q.toNat → N8q 59 v = fWB (fgT M) (qgT M) k.toNat v) → ((10 - x3q).toNat) < fu → AW X (LB ++ tl) 4 8 [(0, aR 32), (1, aI k), (2, aI x2q), (3, aI x3q)] [] N8q := by
    intro fu
    induction fu with
    | zero =>
      intro x2q x3q N8q h0q hf hk2 hx hc hm
      exact absurd hm (Nat.not_lt_zero _)
    | succ fu ih8q =>
      intro x2q x3q N8q h0q hf hk2 hx hc hm
      have hxl := BTS_le (m := 10) hx (by omega)
      refine aw_iload_n cx dX7_whoseBy_8 rfl 3 rfl ?_
      refine aw_bipush (n := 10) cx dX7_whoseBy_9 (by decide) ?_
      refine aw_icmp_ge (tgt := 54) cx dX7_whoseBy_11 (by decide) (fun c11q => ?_) (fun c11q => ?_)
      · refine aw_iload_n cx dX7_whoseBy_54 rfl 2 rfl ?_
        refine aw_iret cx rt dX7_whoseBy_55 ?_
        refine ⟨_, rfl, (hfxM_1.mono (by decide) (by decide)).tr hf (by decide) (by decide), RD_fx hrdM_1 hf (by decide), ?_⟩
        rw [show x3q.toNat = 10 by omega] at hx
        rw [show x3q.toNat = 10 by omega] at hc
        exact ⟨hx, hc⟩
      · refine aw_aload_n cx dX7_whoseBy_14 rfl 0 rfl ?_
        refine aw_getR (q := 46) cx dX7_whoseBy_15 fl_X7_49 (lb_32 tl) rfl rfl ?_
        refine aw_iload_n cx dX7_whoseBy_18 rfl 1 rfl ?_
        refine aw_iload_n cx dX7_whoseBy_19 rfl 3 rfl ?_
        refine aw_iast cx dX7_whoseBy_20 (lb_46 tl) (⟨by omega, by omega⟩) (⟨by omega, by omega⟩) ?_
        obtain ⟨M_20q, hM_20q⟩ : ∃ qm, qm = up N8q (46) (Int.toNat (k)) (x3q) := ⟨_, rfl⟩
        rw [← hM_20q]
        refine aw_ok (fun omk => ?_)
        have h44k : ∀ j, 0 ≤ M_20q 44 j := fun j => (okA omk (lb_44 tl) j).1
        have h7k : 0 ≤ M_20q 32 7 ∧ M_20q 32 7 ≤ 8 := okF omk (lb_32 tl) (j := 7) rfl (show (0 : Nat) ≠ 1 by decide)
        refine aw_iload_n cx dX7_whoseBy_21 rfl 2 rfl ?_
        refine aw_aload_n cx dX7_whoseBy_22 rfl 0 rfl ?_
        refine aw_callV (as := []) (k := 32) (stk := [aI x2q]) cx dX7_whoseBy_23 ml_X7_317 mv_X7_isSeen rfl (lb_32 tl) (by decide) rfl rfl (Nat.le_of_ble_eq_true rfl) (ct_X7_isSeen tl M_20q  ) (fun rr23q M_23q hp23q => ?_)
        obtain ⟨z23q, rfl, hfxM_23, hrnM_23, h01M_23, hsoM_23⟩ := hp23q
        refine aw_eq (stk2 := [aI z23q, aI x2q]) ?_ rfl rfl rfl rfl
        have fxa : FX [46, 48, 49, 50, 51, 52, 53, 59] [28] M_1q M_20q := hf.pc hM_20q (by decide)
        have fxm : FX RC RF M M_20q := (hfxM_1.mono (by decide) (by decide)).tr fxa (by decide) (by decide)
        have hrdx := RD_fx hrdM_1 fxa (by decide)
        have hrf := now_g (F := setW (fgT M) k.toNat ((x3q.toNat : Nat) : Int)) (lo := -1) hj fxm hrdx (by rw [fxa.fd 20 (by decide)]; exact n2) (by rw [fxa.fd 15 (by decide), n1]; rfl) rfl (fun e _ => by rw [fxa.fd 21 (by decide), n3, KEN_0]; rfl) rfl rfl (by
          intro i hi
          have q := n4 i hi
          refine ⟨by rw [fxa.at 44 (by decide)]; exact q.1, by rw [fxa.at 45 (by decide)]; exact q.2.1, ?_, by rw [fxa.at 47 (by decide)]; exact q.2.2.2⟩
          show M_20q 46 i = up1 (M 8) k.toNat ((x3q.toNat : Nat) : Int) i
          unfold up1
          by_cases e : i = k.toNat
          · rw [if_pos e, e, up_eq hM_20q]; omega
          · rw [if_neg e, up_ne hM_20q (by omega), hk2 i e]; exact q.2.2.1) h44k h7k.2 hrnM_23
        have hse2 := (SO_j (cn := ((qgT M).2.1 : Int)) (x := M_23q 32 28) hj fxm hrdx (show (((M 15 2).toNat : Nat) : Int) = M 15 2 by omega))
        have hP : z23q = 1 ↔ (fun v => SO (M 0 13).toNat (M 27) (M 28) ((qgT M).2.1 : Int) (fCB (-1) (setW (fgT M) k.toNat (v : Int)) (qgT M))) x3q.toNat := by
          rw [hsoM_23, hse2, hrf.2.2.2.2.2.1]
        refine aw_if_eq (tgt := 35) cx dX7_whoseBy_26 (by decide) (fun c26q => ?_) (fun c26q => ?_)
        · refine aw_iconst (n := 0) cx dX7_whoseBy_35 (by decide) ?_
          refine aw_ior cx dX7_whoseBy_36 (fun z36q hz36q => ?_)
          refine aw_istore_n (loc2 := [(2, aI z36q), (0, aR 32), (1, aI k), (3, aI x3q)]) cx dX7_whoseBy_37 rfl (by decide) rfl ?_
          refine aw_aload_n cx dX7_whoseBy_38 rfl 1 rfl ?_
          refine aw_getR (q := 59) cx dX7_whoseBy_39 fl_X7_88 (lb_32 tl) rfl rfl ?_
          refine aw_iload_n cx dX7_whoseBy_42 rfl 3 rfl ?_
          refine aw_aload_n cx dX7_whoseBy_43 rfl 1 rfl ?_
          refine aw_getI cx dX7_whoseBy_44 fl_X7_228 (lb_32 tl) rfl (fun z44q hz44q lo_z44q hi_z44q => ?_)
          refine aw_iast cx dX7_whoseBy_47 (lb_59 tl) (⟨by omega, by omega⟩) (⟨by omega, by omega⟩) ?_
          obtain ⟨M_47q, hM_47q⟩ : ∃ qm, qm = up M_23q (59) (Int.toNat (x3q)) (z44q) := ⟨_, rfl⟩
          rw [← hM_47q]
          refine aw_iinc cx dX7_whoseBy_48 3 rfl (by decide) (by omega) (fun z48q hz48q => ?_)
          refine aw_loc (loc2 := [(3, aI z48q), (2, aI z36q), (0, aR 32), (1, aI k)]) rfl ?_
          refine aw_goto (tgt := 8) cx dX7_whoseBy_51 (by decide) ?_
          refine aw_sub [2, 3, 1, 0] rfl ?_
          refine ih8q _ _ _  ?i_h0 ?i_hf ?i_hk2 ?i_hx ?i_hc ?i_m
          case i_h0 =>
            omega
          case i_hf =>
            exact (fxa.tr hfxM_23 (by decide) (by decide)).pc hM_47q (by decide)
          case i_hk2 =>
            intro i hi; rw [up_ne hM_47q (by omega), hfxM_23.at 46 (by decide), up_ne hM_20q (by omega)]; exact hk2 i hi
          case i_hx =>
            rw [hz48q, hz36q]; first | (rw [bOr_z (by omega)]; exact BTS_n (by omega) hx (fun q => absurd (hP.mpr q) (by omega))) | (rw [hz31q]; exact BTS_y (by omega) hx (hP.mp (by omega)))
          case i_hc =>
            rw [hz48q]; refine row_s h0q.1 hM_47q (fun e he => ?_) (by rw [hz44q]; exact hrf.2.2.2.2.2.1)
            rw [hfxM_23.at 59 (by decide), up_ne hM_20q (by omega)]; exact hc e he
          case i_m =>
            omega
        · refine aw_iconst (n := 1) cx dX7_whoseBy_29 (by decide) ?_
          refine aw_iload_n cx dX7_whoseBy_30 rfl 3 rfl ?_
          refine aw_ishl cx dX7_whoseBy_31 (fun z31q hz31q => ?_)
          refine aw_goto (tgt := 36) cx dX7_whoseBy_32 (by decide) ?_
          refine aw_ior cx dX7_whoseBy_36 (fun z36q hz36q => ?_)
          refine aw_istore_n (loc2 := [(2, aI z36q), (0, aR 32), (1, aI k), (3, aI x3q)]) cx dX7_whoseBy_37 rfl (by decide) rfl ?_
          refine aw_aload_n cx dX7_whoseBy_38 rfl 1 rfl ?_
          refine aw_getR (q := 59) cx dX7_whoseBy_39 fl_X7_88 (lb_32 tl) rfl rfl ?_
          refine aw_iload_n cx dX7_whoseBy_42 rfl 3 rfl ?_
          refine aw_aload_n cx dX7_whoseBy_43 rfl 1 rfl ?_
          refine aw_getI cx dX7_whoseBy_44 fl_X7_228 (lb_32 tl) rfl (fun z44q hz44q lo_z44q hi_z44q => ?_)
          refine aw_iast cx dX7_whoseBy_47 (lb_59 tl) (⟨by omega, by omega⟩) (⟨by omega, by omega⟩) ?_
          obtain ⟨M_47q, hM_47q⟩ : ∃ qm, qm = up M_23q (59) (Int.toNat (x3q)) (z44q) := ⟨_, rfl⟩
          rw [← hM_47q]
          refine aw_iinc cx dX7_whoseBy_48 3 rfl (by decide) (by omega) (fun z48q hz48q => ?_)
          refine aw_loc (loc2 := [(3, aI z48q), (2, aI z36q), (0, aR 32), (1, aI k)]) rfl ?_
          refine aw_goto (tgt := 8) cx dX7_whoseBy_51 (by decide) ?_
          refine aw_sub [2, 3, 1, 0] rfl ?_
          refine ih8q _ _ _  ?i_h0 ?i_hf ?i_hk2 ?i_hx ?i_hc ?i_m
          case i_h0 =>
            omega
          case i_hf =>
            exact (fxa.tr hfxM_23 (by decide) (by decide)).pc hM_47q (by decide)
          case i_hk2 =>
            intro i hi; rw [up_ne hM_47q (by omega), hfxM_23.at 46 (by decide), up_ne hM_20q (by omega)]; exact hk2 i hi
          case i_hx =>
            rw [hz48q, hz36q]; first | (rw [bOr_z (by omega)]; exact BTS_n (by omega) hx (fun q => absurd (hP.mpr q) (by omega))) | (rw [hz31q]; exact BTS_y (by omega) hx (hP.mp (by omega)))
          case i_hc =>
            rw [hz48q]; refine row_s h0q.1 hM_47q (fun e he => ?_) (by rw [hz44q]; exact hrf.2.2.2.2.2.1)
            rw [hfxM_23.at 59 (by decide), up_ne hM_20q (by omega)]; exact hc e he
          case i_m =>
            omega
  refine aw_sub [2, 3, 1, 0] rfl ?_
  refine lp8q _ _ _ _  ?i_h0 ?i_hf ?i_hk2 ?i_hx ?i_hc (Nat.lt_succ_self _)
  case i_h0 =>
    omega
  case i_hf =>
    exact FX.rf
  case i_hk2 =>
    exact fun _ _ => rfl
  case i_hx =>
    exact BTS_0
  case i_hc =>
    exact all_0
set_option maxHeartbeats 1000000 in
set_option maxRecDepth 100000 in
theorem ct_X7_sortsBy (tl : List CD) (M : Mem) (k : Int) (hj : JQ M) (hk : 0 ≤ k ∧ k < M 5 4) : Ct 7 mX7_sortsBy (LB ++ tl) [aR 32, aI k] M (fun r M1 => ∃ x, r = some (aI x) ∧ FX RC RF M M1 ∧ RD M1 ∧ (BTS (fun v => SO (M 0 13).toNat (M 27) (M 28) ((qgT M).2.1 : Int) (fCB (-1) (setS (fgT M) k.toNat (v : Int)) (qgT M))) 3 x)) := by
  refine Ct.of (own := RX7) rfl (by decide +kernel) (Nat.le_of_ble_eq_true rfl) (fun X cx rt => ?_)
  refine aw_eq (loc2 := [(0, aR 32), (1, aI k)]) ?_ rfl rfl rfl rfl
  refine aw_rngL 1 rfl (fun rl_k rh_k => ?_)
  refine aw_ok (fun om => ?_)
  have hsz : 0 ≤ M 5 4 ∧ M 5 4 ≤ 12 := okF om (lb_5 tl) (j := 4) rfl (show (0 : Nat) ≠ 1 by decide)
  have hcz : 0 ≤ M 15 2 ∧ M 15 2 ≤ 8 := okF om (lb_15 tl) (j := 2) rfl (show (0 : Nat) ≠ 1 by decide)
  refine aw_aload_n cx dX7_sortsBy_0 rfl 0 rfl ?_
  refine aw_callV (as := []) (k := 32) (stk := []) cx dX7_sortsBy_1 ml_X7_234 mv_X7_asTold rfl (lb_32 tl) (by decide) rfl rfl (Nat.le_of_ble_eq_true rfl) (ct_X7_asTold tl M  (hj)) (fun rr1q M_1q hp1q => ?_)
  obtain ⟨rfl, hfxM_1, hrdM_1, hnwM_1⟩ := hp1q
  refine aw_eq (stk2 := []) ?_ rfl rfl rfl rfl
  obtain ⟨n1, n2, n3, n4⟩ := hnwM_1
  refine aw_iconst (n := 0) cx dX7_sortsBy_4 (by decide) ?_
  refine aw_istore_n (loc2 := [(2, aI 0), (0, aR 32), (1, aI k)]) cx dX7_sortsBy_5 rfl (by decide) rfl ?_
  refine aw_iconst (n := 0) cx dX7_sortsBy_6 (by decide) ?_
  refine aw_istore_n (loc2 := [(3, aI 0), (2, aI 0), (0, aR 32), (1, aI k)]) cx dX7_sortsBy_7 rfl (by decide) rfl ?_
  have lp8q : ∀ (fu : Nat) (x2q : Int) (x3q : Int) (N8q : Mem), (0 ≤ x3q ∧ x3q ≤ 3) → (FX [47, 48, 49, 50, 51, 52, 53] [28] M_1q N8q) → (∀ i, i ≠ k.toNat → N8q 47 i = M_1q 47 i) → (BTS (fun v => SO (M 0 13).toNat (M 27) (M 28) ((qgT M).2.1 : Int) (fCB (-1) (setS (fgT M) k.toNat (v : Int)) (qgT M))) x3q.toNat x2q) → ((3 - x3q).toNat) < fu → AW X (LB ++ tl) 4 8 [(0, aR 32), (1, aI k), (2, aI x2q), (3, aI x3q)] [] N8q := by
    intro fu
    induction fu with
    | zero =>
      intro x2q x3q N8q h0q hf hk2 hx hm
      exact absurd hm (Nat.not_lt_zero _)
    | succ fu ih8q =>
      intro x2q x3q N8q h0q hf hk2 hx hm
      have hxl := BTS_le (m := 10) hx (by omega)
      refine aw_iload_n cx dX7_sortsBy_8 rfl 3 rfl ?_
      refine aw_iconst (n := 3) cx dX7_sortsBy_9 (by decide) ?_
      refine aw_icmp_ge (tgt := 43) cx dX7_sortsBy_10 (by decide) (fun c10q => ?_) (fun c10q => ?_)
      · refine aw_iload_n cx dX7_sortsBy_43 rfl 2 rfl ?_
        refine aw_iret cx rt dX7_sortsBy_44 ?_
        refine ⟨_, rfl, (hfxM_1.mono (by decide) (by decide)).tr hf (by decide) (by decide), RD_fx hrdM_1 hf (by decide), ?_⟩
        rw [show x3q.toNat = 3 by omega] at hx
        exact hx
      · refine aw_aload_n cx dX7_sortsBy_13 rfl 0 rfl ?_
        refine aw_getR (q := 47) cx dX7_sortsBy_14 fl_X7_52 (lb_32 tl) rfl rfl ?_
        refine aw_iload_n cx dX7_sortsBy_17 rfl 1 rfl ?_
        refine aw_iload_n cx dX7_sortsBy_18 rfl 3 rfl ?_
        refine aw_iast cx dX7_sortsBy_19 (lb_47 tl) (⟨by omega, by omega⟩) (⟨by omega, by omega⟩) ?_
        obtain ⟨M_19q, hM_19q⟩ : ∃ qm, qm = up N8q (47) (Int.toNat (k)) (x3q) := ⟨_, rfl⟩
        rw [← hM_19q]
        refine aw_ok (fun omk => ?_)
        have h44k : ∀ j, 0 ≤ M_19q 44 j := fun j => (okA omk (lb_44 tl) j).1
        have h7k : 0 ≤ M_19q 32 7 ∧ M_19q 32 7 ≤ 8 := okF omk (lb_32 tl) (j := 7) rfl (show (0 : Nat) ≠ 1 by decide)
        refine aw_iload_n cx dX7_sortsBy_20 rfl 2 rfl ?_
        refine aw_aload_n cx dX7_sortsBy_21 rfl 0 rfl ?_
        refine aw_callV (as := []) (k := 32) (stk := [aI x2q]) cx dX7_sortsBy_22 ml_X7_317 mv_X7_isSeen rfl (lb_32 tl) (by decide) rfl rfl (Nat.le_of_ble_eq_true rfl) (ct_X7_isSeen tl M_19q  ) (fun rr22q M_22q hp22q => ?_)
        obtain ⟨z22q, rfl, hfxM_22, hrnM_22, h01M_22, hsoM_22⟩ := hp22q
        refine aw_eq (stk2 := [aI z22q, aI x2q]) ?_ rfl rfl rfl rfl
        have fxa : FX [47, 48, 49, 50, 51, 52, 53] [28] M_1q M_19q := hf.pc hM_19q (by decide)
        have fxm : FX RC RF M M_19q := (hfxM_1.mono (by decide) (by decide)).tr fxa (by decide) (by decide)
        have hrdx := RD_fx hrdM_1 fxa (by decide)
        have hrf := now_g (F := setS (fgT M) k.toNat ((x3q.toNat : Nat) : Int)) (lo := -1) hj fxm hrdx (by rw [fxa.fd 20 (by decide)]; exact n2) (by rw [fxa.fd 15 (by decide), n1]; rfl) rfl (fun e _ => by rw [fxa.fd 21 (by decide), n3, KEN_0]; rfl) rfl rfl (by
          intro i hi
          have q := n4 i hi
          refine ⟨by rw [fxa.at 44 (by decide)]; exact q.1, by rw [fxa.at 45 (by decide)]; exact q.2.1, by rw [fxa.at 46 (by decide)]; exact q.2.2.1, ?_⟩
          show M_19q 47 i = up1 (M 9) k.toNat ((x3q.toNat : Nat) : Int) i
          unfold up1
          by_cases e : i = k.toNat
          · rw [if_pos e, e, up_eq hM_19q]; omega
          · rw [if_neg e, up_ne hM_19q (by omega), hk2 i e]; exact q.2.2.2) h44k h7k.2 hrnM_22
        have hse2 := (SO_j (cn := ((qgT M).2.1 : Int)) (x := M_22q 32 28) hj fxm hrdx (show (((M 15 2).toNat : Nat) : Int) = M 15 2 by omega))
        have hP : z22q = 1 ↔ (fun v => SO (M 0 13).toNat (M 27) (M 28) ((qgT M).2.1 : Int) (fCB (-1) (setS (fgT M) k.toNat (v : Int)) (qgT M))) x3q.toNat := by
          rw [hsoM_22, hse2, hrf.2.2.2.2.2.1]
        refine aw_if_eq (tgt := 34) cx dX7_sortsBy_25 (by decide) (fun c25q => ?_) (fun c25q => ?_)
        · refine aw_iconst (n := 0) cx dX7_sortsBy_34 (by decide) ?_
          refine aw_ior cx dX7_sortsBy_35 (fun z35q hz35q => ?_)
          refine aw_istore_n (loc2 := [(2, aI z35q), (0, aR 32), (1, aI k), (3, aI x3q)]) cx dX7_sortsBy_36 rfl (by decide) rfl ?_
          refine aw_iinc cx dX7_sortsBy_37 3 rfl (by decide) (by omega) (fun z37q hz37q => ?_)
          refine aw_loc (loc2 := [(3, aI z37q), (2, aI z35q), (0, aR 32), (1, aI k)]) rfl ?_
          refine aw_goto (tgt := 8) cx dX7_sortsBy_40 (by decide) ?_
          refine aw_sub [2, 3, 1, 0] rfl ?_
          refine ih8q _ _ _  ?i_h0 ?i_hf ?i_hk2 ?i_hx ?i_m
          case i_h0 =>
            omega
          case i_hf =>
            exact fxa.tr hfxM_22 (by decide) (by decide)
          case i_hk2 =>
            intro i hi; rw [hfxM_22.at 47 (by decide), up_ne hM_19q (by omega)]; exact hk2 i hi
          case i_hx =>
            rw [hz37q, hz35q]; first | (rw [bOr_z (by omega)]; exact BTS_n (by omega) hx (fun q => absurd (hP.mpr q) (by omega))) | (rw [hz30q]; exact BTS_y (by omega) hx (hP.mp (by omega)))
          case i_m =>
            omega
        · refine aw_iconst (n := 1) cx dX7_sortsBy_28 (by decide) ?_
          refine aw_iload_n cx dX7_sortsBy_29 rfl 3 rfl ?_
          refine aw_ishl cx dX7_sortsBy_30 (fun z30q hz30q => ?_)
          refine aw_goto (tgt := 35) cx dX7_sortsBy_31 (by decide) ?_
          refine aw_ior cx dX7_sortsBy_35 (fun z35q hz35q => ?_)
          refine aw_istore_n (loc2 := [(2, aI z35q), (0, aR 32), (1, aI k), (3, aI x3q)]) cx dX7_sortsBy_36 rfl (by decide) rfl ?_
          refine aw_iinc cx dX7_sortsBy_37 3 rfl (by decide) (by omega) (fun z37q hz37q => ?_)
          refine aw_loc (loc2 := [(3, aI z37q), (2, aI z35q), (0, aR 32), (1, aI k)]) rfl ?_
          refine aw_goto (tgt := 8) cx dX7_sortsBy_40 (by decide) ?_
          refine aw_sub [2, 3, 1, 0] rfl ?_
          refine ih8q _ _ _  ?i_h0 ?i_hf ?i_hk2 ?i_hx ?i_m
          case i_h0 =>
            omega
          case i_hf =>
            exact fxa.tr hfxM_22 (by decide) (by decide)
          case i_hk2 =>
            intro i hi; rw [hfxM_22.at 47 (by decide), up_ne hM_19q (by omega)]; exact hk2 i hi
          case i_hx =>
            rw [hz37q, hz35q]; first | (rw [bOr_z (by omega)]; exact BTS_n (by omega) hx (fun q => absurd (hP.mpr q) (by omega))) | (rw [hz30q]; exact BTS_y (by omega) hx (hP.mp (by omega)))
          case i_m =>
            omega
  refine aw_sub [2, 3, 1, 0] rfl ?_
  refine lp8q _ _ _ _  ?i_h0 ?i_hf ?i_hk2 ?i_hx (Nat.lt_succ_self _)
  case i_h0 =>
    omega
  case i_hf =>
    exact FX.rf
  case i_hk2 =>
    exact fun _ _ => rfl
  case i_hx =>
    exact BTS_0
set_option maxHeartbeats 1000000 in
set_option maxRecDepth 100000 in
theorem ct_X7_was (tl : List CD) (M : Mem) (k what : Int) (hj : JQ M) : Ct 8 mX7_was (LB ++ tl) [aR 32, aI k, aI what] M (fun r M1 => ∃ x, r = some (aI x) ∧ FX RC RF M M1 ∧ (aWas (M 5 4) (fgT M) (qgT M) (M 0 13).toNat (M 27) (M 28) k what x)) := by
  refine Ct.of (own := RX7) rfl (by decide +kernel) (Nat.le_of_ble_eq_true rfl) (fun X cx rt => ?_)
  refine aw_eq (loc2 := [(0, aR 32), (1, aI k), (2, aI what)]) ?_ rfl rfl rfl rfl
  refine aw_rngL 1 rfl (fun rl_k rh_k => ?_)
  refine aw_rngL 2 rfl (fun rl_what rh_what => ?_)
  refine aw_ok (fun om => ?_)
  have hsz : 0 ≤ M 5 4 ∧ M 5 4 ≤ 12 := okF om (lb_5 tl) (j := 4) rfl (show (0 : Nat) ≠ 1 by decide)
  refine aw_aload_n cx dX7_was_0 rfl 0 rfl ?_
  refine aw_iload_n cx dX7_was_1 rfl 1 rfl ?_
  refine aw_callV (as := [aI k]) (k := 32) (stk := []) cx dX7_was_2 ml_X7_156 mv_X7_isTale rfl (lb_32 tl) (by decide) rfl rfl (Nat.le_of_ble_eq_true rfl) (ct_X7_isTale tl M _ (hj.1)) (fun rr2q M_2q hp2q => ?_)
  obtain ⟨z2q, rfl, hfxM_2, hrdM_2, hisM_2⟩ := hp2q
  refine aw_eq (stk2 := [aI z2q]) ?_ rfl rfl rfl rfl
  have efg := fg_fx hfxM_2 (by decide)
  refine aw_if_eq (tgt := 35) cx dX7_was_5 (by decide) (fun c5q => ?_) (fun c5q => ?_)
  · refine aw_bipush (n := (-2)) cx dX7_was_35 (by decide) ?_
    refine aw_iret cx rt dX7_was_37 ?_
    first | exact ⟨_, rfl, (hfxM_2.mono (by decide) (by decide)).tr hfxM_21 (by decide) (by decide), Or.inr ⟨by omega, by omega, Or.inl ⟨by omega, hanM_21⟩⟩⟩ | exact ⟨_, rfl, (hfxM_2.mono (by decide) (by decide)).tr hfxM_29 (by decide) (by decide), Or.inr ⟨by omega, by omega, Or.inr ⟨by omega, hanM_29⟩⟩⟩ | exact ⟨_, rfl, hfxM_2.mono (by decide) (by decide), Or.inl ⟨by omega, rfl⟩⟩
  · refine aw_iload_n cx dX7_was_8 rfl 2 rfl ?_
    refine aw_callS (as := [aI what]) (stk := []) cx dX7_was_9 ml_X7_117 ms_X7_isTwo (by decide) rfl rfl (Nat.le_of_ble_eq_true rfl) (ct_X7_isTwo tl M_2q _ ) (fun rr9q M_9q hp9q => ?_)
    obtain ⟨rfl, rfl⟩ := hp9q
    refine aw_top (stk := []) (fun z9q hz9q => ?_)
    refine aw_if_eq (tgt := 35) cx dX7_was_12 (by decide) (fun c12q => ?_) (fun c12q => ?_)
    · have d12q := b2_e0.mp (hz9q.symm.trans c12q)
      refine aw_bipush (n := (-2)) cx dX7_was_35 (by decide) ?_
      refine aw_iret cx rt dX7_was_37 ?_
      first | exact ⟨_, rfl, (hfxM_2.mono (by decide) (by decide)).tr hfxM_21 (by decide) (by decide), Or.inr ⟨by omega, by omega, Or.inl ⟨by omega, hanM_21⟩⟩⟩ | exact ⟨_, rfl, (hfxM_2.mono (by decide) (by decide)).tr hfxM_29 (by decide) (by decide), Or.inr ⟨by omega, by omega, Or.inr ⟨by omega, hanM_29⟩⟩⟩ | exact ⟨_, rfl, hfxM_2.mono (by decide) (by decide), Or.inl ⟨by omega, rfl⟩⟩
    · have d12q := b2_y hz9q c12q
      refine aw_iload_n cx dX7_was_15 rfl 2 rfl ?_
      refine aw_if_ne (tgt := 27) cx dX7_was_16 (by decide) (fun c16q => ?_) (fun c16q => ?_)
      · refine aw_aload_n cx dX7_was_27 rfl 0 rfl ?_
        refine aw_iload_n cx dX7_was_28 rfl 1 rfl ?_
        refine aw_callV (as := [aI k]) (k := 32) (stk := []) cx dX7_was_29 ml_X7_327 mv_X7_sortsBy rfl (lb_32 tl) (by decide) rfl rfl (Nat.le_of_ble_eq_true rfl) (ct_X7_sortsBy tl M_2q _ (JQ_fx hj hfxM_2 (by decide)) (by rw [hfxM_2.at 5 (by decide)]; omega)) (fun rr29q M_29q hp29q => ?_)
        obtain ⟨z29q, rfl, hfxM_29, hrdM_29, hanM_29⟩ := hp29q
        refine aw_eq (stk2 := [aI z29q]) ?_ rfl rfl rfl rfl
        rw [efg.1, efg.2, hfxM_2.at 0 (by decide), hfxM_2.at 27 (by decide), hfxM_2.at 28 (by decide)] at hanM_29
        refine aw_goto (tgt := 37) cx dX7_was_32 (by decide) ?_
        refine aw_iret cx rt dX7_was_37 ?_
        first | exact ⟨_, rfl, (hfxM_2.mono (by decide) (by decide)).tr hfxM_21 (by decide) (by decide), Or.inr ⟨by omega, by omega, Or.inl ⟨by omega, hanM_21⟩⟩⟩ | exact ⟨_, rfl, (hfxM_2.mono (by decide) (by decide)).tr hfxM_29 (by decide) (by decide), Or.inr ⟨by omega, by omega, Or.inr ⟨by omega, hanM_29⟩⟩⟩ | exact ⟨_, rfl, hfxM_2.mono (by decide) (by decide), Or.inl ⟨by omega, rfl⟩⟩
      · refine aw_aload_n cx dX7_was_19 rfl 0 rfl ?_
        refine aw_iload_n cx dX7_was_20 rfl 1 rfl ?_
        refine aw_callV (as := [aI k]) (k := 32) (stk := []) cx dX7_was_21 ml_X7_324 mv_X7_whoseBy rfl (lb_32 tl) (by decide) rfl rfl (Nat.le_of_ble_eq_true rfl) (ct_X7_whoseBy tl M_2q _ (JQ_fx hj hfxM_2 (by decide)) (by rw [hfxM_2.at 5 (by decide)]; omega)) (fun rr21q M_21q hp21q => ?_)
        obtain ⟨z21q, rfl, hfxM_21, hrdM_21, hanM_21, hcbM_21⟩ := hp21q
        refine aw_eq (stk2 := [aI z21q]) ?_ rfl rfl rfl rfl
        rw [efg.1, efg.2, hfxM_2.at 0 (by decide), hfxM_2.at 27 (by decide), hfxM_2.at 28 (by decide)] at hanM_21
        refine aw_goto (tgt := 37) cx dX7_was_24 (by decide) ?_
        refine aw_iret cx rt dX7_was_37 ?_
        first | exact ⟨_, rfl, (hfxM_2.mono (by decide) (by decide)).tr hfxM_21 (by decide) (by decide), Or.inr ⟨by omega, by omega, Or.inl ⟨by omega, hanM_21⟩⟩⟩ | exact ⟨_, rfl, (hfxM_2.mono (by decide) (by decide)).tr hfxM_29 (by decide) (by decide), Or.inr ⟨by omega, by omega, Or.inr ⟨by omega, hanM_29⟩⟩⟩ | exact ⟨_, rfl, hfxM_2.mono (by decide) (by decide), Or.inl ⟨by omega, rfl⟩⟩
