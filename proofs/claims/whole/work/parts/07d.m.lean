set_option maxHeartbeats 1000000 in
set_option maxRecDepth 100000 in
theorem ct_X6_move (tl : List CD) (M : Mem) (k what : Int) : Ct 5 mX6_move (LB ++ tl) [aR 0, aI k, aI what] M (fun r M1 => ∃ x, r = some (aI x) ∧ FR SC M M1 ∧ aPick (k < 0 ∨ M 5 4 ≤ k) (fMV (fgT M) (qgT M) k.toNat) 8 what x) := by
  refine Ct.of (own := RX6) rfl (by decide +kernel) (Nat.le_of_ble_eq_true rfl) (fun X cx rt => ?_)
  refine aw_eq (loc2 := [(0, aR 0), (1, aI k), (2, aI what)]) ?_ rfl rfl rfl rfl
  refine aw_rngL 1 rfl (fun rl_k rh_k => ?_)
  refine aw_rngL 2 rfl (fun rl_what rh_what => ?_)
  refine aw_ok (fun om => ?_)
  have hsz : 0 ≤ M 5 4 ∧ M 5 4 ≤ 12 := okF om (lb_5 tl) (j := 4) rfl (show (0 : Nat) ≠ 1 by decide)
  have hse : 0 ≤ M 18 3 ∧ M 18 3 ≤ 8 := okF om (lb_18 tl) (j := 3) rfl (show (0 : Nat) ≠ 1 by decide)
  have hcz : 0 ≤ M 15 2 ∧ M 15 2 ≤ 8 := okF om (lb_15 tl) (j := 2) rfl (show (0 : Nat) ≠ 1 by decide)
  have hNN : ∀ j, 0 ≤ M 6 j := fun j => (okA om (lb_6 tl) j).1
  have hal := all_bits hse
  refine aw_iload_n cx dX6_move_0 rfl 1 rfl ?_
  refine aw_aload_n cx dX6_move_1 rfl 0 rfl ?_
  refine aw_getR (q := 5) cx dX6_move_2 fl_X6_24 (lb_0 tl) rfl rfl ?_
  refine aw_getI cx dX6_move_5 fl_X6_105 (lb_5 tl) rfl (fun z5q hz5q lo_z5q hi_z5q => ?_)
  refine aw_callS (as := [aI k, aI z5q]) (stk := []) cx dX6_move_8 ml_X6_84 ms_X6_outside (by decide) rfl rfl (Nat.le_of_ble_eq_true rfl) (ct_X6_outside tl M _ _ ) (fun rr8q M_8q hp8q => ?_)
  obtain ⟨rfl, rfl⟩ := hp8q
  refine aw_top (stk := []) (fun z8q hz8q => ?_)
  refine aw_if_ne (tgt := 22) cx dX6_move_11 (by decide) (fun c11q => ?_) (fun c11q => ?_)
  · have d11q := b2_y hz8q c11q
    refine aw_bipush (n := (-2)) cx dX6_move_22 (by decide) ?_
    refine aw_iret cx rt dX6_move_24 ?_
    exact ⟨-2, rfl, FR.rf, Or.inl ⟨by omega, rfl⟩⟩
  · have d11q := b2_e0.mp (hz8q.symm.trans c11q)
    refine aw_iload_n cx dX6_move_14 rfl 2 rfl ?_
    refine aw_iconst (n := 2) cx dX6_move_15 (by decide) ?_
    refine aw_callS (as := [aI what, aI 2]) (stk := []) cx dX6_move_16 ml_X6_84 ms_X6_outside (by decide) rfl rfl (Nat.le_of_ble_eq_true rfl) (ct_X6_outside tl M _ _ ) (fun rr16q M_16q hp16q => ?_)
    obtain ⟨rfl, rfl⟩ := hp16q
    refine aw_top (stk := []) (fun z16q hz16q => ?_)
    refine aw_if_eq (tgt := 25) cx dX6_move_19 (by decide) (fun c19q => ?_) (fun c19q => ?_)
    · have d19q := b2_e0.mp (hz16q.symm.trans c19q)
      refine aw_aload_n cx dX6_move_25 rfl 0 rfl ?_
      refine aw_getR (q := 10) cx dX6_move_26 fl_X6_28 (lb_0 tl) rfl rfl ?_
      refine aw_aload_n cx dX6_move_29 rfl 0 rfl ?_
      refine aw_getR (q := 5) cx dX6_move_30 fl_X6_24 (lb_0 tl) rfl rfl ?_
      refine aw_callV (as := [aR 5]) (k := 10) (stk := []) cx dX6_move_33 ml_X6_202 mv_X4_becomeLike rfl (lb_10 tl) (by decide) rfl rfl (Nat.le_of_ble_eq_true rfl) (ct_X4_becomeLike tl M  ) (fun rr33q M_33q hp33q => ?_)
      obtain ⟨rfl, hfrM_33, hs4M_33, hs5M_33, hsmM_33⟩ := hp33q
      refine aw_eq (stk2 := []) ?_ rfl rfl rfl rfl
      refine aw_iconst (n := (-1)) cx dX6_move_36 (by decide) ?_
      refine aw_istore_n (loc2 := [(3, aI ((-1))), (0, aR 0), (1, aI k), (2, aI what)]) cx dX6_move_37 rfl (by decide) rfl ?_
      refine aw_iconst (n := (-1)) cx dX6_move_38 (by decide) ?_
      refine aw_istore (loc2 := [(4, aI ((-1))), (3, aI ((-1))), (0, aR 0), (1, aI k), (2, aI what)]) cx dX6_move_39 (by decide) rfl ?_
      refine aw_iconst (n := 0) cx dX6_move_41 (by decide) ?_
      refine aw_istore (loc2 := [(5, aI 0), (4, aI ((-1))), (3, aI ((-1))), (0, aR 0), (1, aI k), (2, aI what)]) cx dX6_move_42 (by decide) rfl ?_
      have lp44q : ∀ (fu : Nat) (x3q : Int) (x4q : Int) (x5q : Int) (N44q : Mem), (0 ≤ x5q ∧ x5q ≤ 8) → (FR SC M N44q) → (N44q 10 4 = M 5 4) → (∀ i, i < (M 5 4).toNat → N44q 11 i = M 6 i ∧ (i ≠ k.toNat → N44q 12 i = M 7 i) ∧ N44q 13 i = M 8 i ∧ N44q 14 i = M 9 i) → (AMX (fMV (fgT M) (qgT M) k.toNat) (-1) x5q.toNat x3q x4q) → ((8 - x5q).toNat) < fu → AW X (LB ++ tl) 7 44 [(0, aR 0), (1, aI k), (2, aI what), (3, aI x3q), (4, aI x4q), (5, aI x5q)] [] N44q := by
        intro fu
        induction fu with
        | zero =>
          intro x3q x4q x5q N44q h0q hf hs ha hx hm
          exact absurd hm (Nat.not_lt_zero _)
        | succ fu ih44q =>
          intro x3q x4q x5q N44q h0q hf hs ha hx hm
          have g0 := hf 0 (by decide)
          have g5 := hf 5 (by decide)
          have g6 := hf 6 (by decide)
          have g7 := hf 7 (by decide)
          have g8 := hf 8 (by decide)
          have g9 := hf 9 (by decide)
          have g15 := hf 15 (by decide)
          have g16 := hf 16 (by decide)
          have g17 := hf 17 (by decide)
          have g18 := hf 18 (by decide)
          have g19 := hf 19 (by decide)
          have g20 := hf 20 (by decide)
          have g21 := hf 21 (by decide)
          have g183 := congrFun g18 3
          have g54 := congrFun g5 4
          have hqg := QG_fr g0 g15 g16 g17
          refine aw_iload cx dX6_move_44 5 rfl ?_
          refine aw_bipush (n := 8) cx dX6_move_46 (by decide) ?_
          refine aw_icmp_ge (tgt := 102) cx dX6_move_48 (by decide) (fun c48q => ?_) (fun c48q => ?_)
          · refine aw_iload_n cx dX6_move_102 rfl 2 rfl ?_
            refine aw_if_ne (tgt := 110) cx dX6_move_103 (by decide) (fun c103q => ?_) (fun c103q => ?_)
            · refine aw_iload cx dX6_move_110 4 rfl ?_
              refine aw_iret cx rt dX6_move_112 ?_
              exact ⟨x4q, rfl, hf, Or.inr ⟨by omega, x3q, x4q, by rw [show x5q = 8 by omega] at hx; exact hx, Or.inr ⟨by omega, rfl⟩⟩⟩
            · refine aw_iload_n cx dX6_move_106 rfl 3 rfl ?_
              refine aw_goto (tgt := 112) cx dX6_move_107 (by decide) ?_
              refine aw_iret cx rt dX6_move_112 ?_
              exact ⟨x3q, rfl, hf, Or.inr ⟨by omega, x3q, x4q, by rw [show x5q = 8 by omega] at hx; exact hx, Or.inl ⟨by omega, rfl⟩⟩⟩
          · refine aw_aload_n cx dX6_move_51 rfl 0 rfl ?_
            refine aw_getR (q := 10) cx dX6_move_52 fl_X6_28 (lb_0 tl) rfl rfl ?_
            refine aw_getR (q := 12) cx dX6_move_55 fl_X6_109 (lb_10 tl) rfl rfl ?_
            refine aw_iload_n cx dX6_move_58 rfl 1 rfl ?_
            refine aw_iload cx dX6_move_59 5 rfl ?_
            refine aw_iast cx dX6_move_61 (lb_12 tl) (⟨by omega, by omega⟩) (⟨by omega, by omega⟩) ?_
            obtain ⟨M_61q, hM_61q⟩ : ∃ q, q = up N44q 12 (Int.toNat (k)) (x5q) := ⟨_, rfl⟩
            rw [← hM_61q]
            refine aw_aload_n cx dX6_move_62 rfl 0 rfl ?_
            refine aw_aload_n cx dX6_move_63 rfl 0 rfl ?_
            refine aw_getR (q := 10) cx dX6_move_64 fl_X6_28 (lb_0 tl) rfl rfl ?_
            refine aw_aload_n cx dX6_move_67 rfl 0 rfl ?_
            refine aw_getR (q := 18) cx dX6_move_68 fl_X6_41 (lb_0 tl) rfl rfl ?_
            refine aw_callV (as := []) (k := 18) (stk := [aR 10, aR 0]) cx dX6_move_71 ml_X6_175 mv_X2_all rfl (lb_18 tl) (by decide) rfl rfl (Nat.le_of_ble_eq_true rfl) (ct_X2_all tl M_61q  ) (fun rr71q M_71q hp71q => ?_)
            obtain ⟨rfl, rfl⟩ := hp71q
            refine aw_top (stk := [aR 10, aR 0]) (fun z71q hz71q => ?_)
            refine aw_callV (as := [aR 10, aI z71q]) (k := 0) (stk := []) cx dX6_move_74 ml_X6_178 mv_X6_clearedBits rfl (lb_0 tl) (by decide) rfl rfl (Nat.le_of_ble_eq_true rfl) (ct_X6_clearedBits tl M_61q 10 _ (Or.inr rfl) (by rw [hz71q, up_ne hM_61q (by omega), g183]; omega)) (fun rr74q M_74q hp74q => ?_)
            obtain ⟨z74q, rfl, hfrM_74, hcbM_74, hxrM_74, hctM_74, hrnM_74, hkkM_74, htlM_74⟩ := hp74q
            refine aw_eq (stk2 := [aI z74q]) ?_ rfl rfl rfl rfl
            rw [hz71q, up_ne hM_61q (by omega), g183] at hcbM_74 hrnM_74
            have hfe : FGe (fgH M_61q 10 (bShl 1 (M 18 3) - 1)) (setT (fgT M) k.toNat ((x5q.toNat : Nat) : Int)) := by
              refine trial_f hse (by rw [hM_61q, up_off (by decide)]; exact g18) (by rw [hM_61q, up_off (by decide)]; exact g19) (by rw [hM_61q, up_off (by decide)]; exact g20) (by rw [hM_61q, up_off (by decide)]; exact g21) (by rw [up_ne hM_61q (by omega)]; exact hs) ⟨rfl, rfl, rfl, rfl, rfl⟩ (fun i hi => ?_)
              have q := ha i hi
              refine ⟨by rw [up_ne hM_61q (by omega)]; exact q.1, ?_, by rw [up_ne hM_61q (by omega)]; exact q.2.2.1, by rw [up_ne hM_61q (by omega)]; exact q.2.2.2⟩
              show M_61q 12 i = up1 (M 7) k.toNat ((x5q.toNat : Nat) : Int) i
              unfold up1
              by_cases e : i = k.toNat
              · rw [if_pos e, e, up_eq hM_61q]; omega
              · rw [if_neg e, up_ne hM_61q (by omega)]; exact q.2.1 e
            have hq2 : qgT M_61q = qgT M := by rw [← hqg]; exact QG_fr (by rw [hM_61q, up_off (by decide)]) (by rw [hM_61q, up_off (by decide)]) (by rw [hM_61q, up_off (by decide)]) (by rw [hM_61q, up_off (by decide)])
            refine aw_ok (fun om7 => ?_)
            have hN7 : ∀ j, 0 ≤ M_61q 11 j := fun j => by rw [← hfrM_74 11 (by decide)]; exact (okA om7 (lb_11 tl) j).1
            rw [hq2, fCB_cg hfe QGe.rf hN7 (show (M 15 2).toNat ≤ 8 by omega) hrnM_74] at hcbM_74
            refine aw_callS (as := [aI z74q]) (stk := []) cx dX6_move_77 ml_X6_182 ms_J6_bitCount_0f7a4 (by decide) rfl rfl (Nat.le_of_ble_eq_true rfl) (ct_J6_bitCount_0f7a4 tl M_74q _ (by omega)) (fun rr77q M_77q hp77q => ?_)
            obtain ⟨rfl, rfl⟩ := hp77q
            refine aw_top (stk := []) (fun z77q hz77q => ?_)
            have hrz77q : 0 ≤ z77q ∧ z77q ≤ 12 := by rw [hz77q]; exact PCN_in _
            have hs77 : z77q = fMV (fgT M) (qgT M) k.toNat x5q.toNat := by rw [hz77q, hcbM_74]; rfl
            refine aw_istore (loc2 := [(6, aI z77q), (0, aR 0), (1, aI k), (2, aI what), (3, aI x3q), (4, aI x4q), (5, aI x5q)]) cx dX6_move_80 (by decide) rfl ?_
            refine aw_iload cx dX6_move_82 0 rfl ?_
            refine aw_iload cx dX6_move_84 5 rfl ?_
            refine aw_icmp_le (tgt := 96) cx dX6_move_86 (by decide) (fun c86q => ?_) (fun c86q => ?_)
            · refine aw_iinc cx dX6_move_96 6 rfl (by decide) (by omega) (fun z96q hz96q => ?_)
              refine aw_loc (loc2 := [(5, aI z96q), (6, aI z77q), (0, aR 0), (1, aI k), (2, aI what), (3, aI x3q), (4, aI x4q)]) rfl ?_
              refine aw_goto (tgt := 44) cx dX6_move_99 (by decide) ?_
              refine aw_sub [2, 3, 4, 5, 6, 0] rfl ?_
              refine ih44q _ _ _ _  ?i_h0 ?i_hf ?i_hs ?i_ha ?i_hx ?i_m
              case i_h0 =>
                omega
              case i_hf =>
                exact (hf.put hM_61q (by decide)).tr hfrM_74 (by decide)
              case i_hs =>
                rw [hfrM_74 10 (by decide), up_ne hM_61q (by omega)]; exact hs
              case i_ha =>
                intro i hi
                have q := ha i hi
                exact ⟨by rw [hfrM_74 11 (by decide), up_ne hM_61q (by omega)]; exact q.1, fun z => by rw [hfrM_74 12 (by decide), up_ne hM_61q (by omega)]; exact q.2.1 z, by rw [hfrM_74 13 (by decide), up_ne hM_61q (by omega)]; exact q.2.2.1, by rw [hfrM_74 14 (by decide), up_ne hM_61q (by omega)]; exact q.2.2.2⟩
              case i_hx =>
                rw [hz96q]; exact AMX_no h0q.1 hx (by rw [← hs77]; omega)
              case i_m =>
                omega
            · refine aw_iload cx dX6_move_89 6 rfl ?_
              refine aw_istore_n (loc2 := [(3, aI x5q), (6, aI z77q), (0, aR 0), (1, aI k), (2, aI what), (4, aI x4q), (5, aI x5q)]) cx dX6_move_91 rfl (by decide) rfl ?_
              refine aw_iload cx dX6_move_92 1 rfl ?_
              refine aw_istore (loc2 := [(4, aI z77q), (3, aI x5q), (6, aI z77q), (0, aR 0), (1, aI k), (2, aI what), (5, aI x5q)]) cx dX6_move_94 (by decide) rfl ?_
              refine aw_iinc cx dX6_move_96 6 rfl (by decide) (by omega) (fun z96q hz96q => ?_)
              refine aw_loc (loc2 := [(5, aI z96q), (4, aI z77q), (3, aI x5q), (6, aI z77q), (0, aR 0), (1, aI k), (2, aI what)]) rfl ?_
              refine aw_goto (tgt := 44) cx dX6_move_99 (by decide) ?_
              refine aw_sub [4, 5, 6, 2, 1, 0] rfl ?_
              refine ih44q _ _ _ _  ?i_h0 ?i_hf ?i_hs ?i_ha ?i_hx ?i_m
              case i_h0 =>
                omega
              case i_hf =>
                exact (hf.put hM_61q (by decide)).tr hfrM_74 (by decide)
              case i_hs =>
                rw [hfrM_74 10 (by decide), up_ne hM_61q (by omega)]; exact hs
              case i_ha =>
                intro i hi
                have q := ha i hi
                exact ⟨by rw [hfrM_74 11 (by decide), up_ne hM_61q (by omega)]; exact q.1, fun z => by rw [hfrM_74 12 (by decide), up_ne hM_61q (by omega)]; exact q.2.1 z, by rw [hfrM_74 13 (by decide), up_ne hM_61q (by omega)]; exact q.2.2.1, by rw [hfrM_74 14 (by decide), up_ne hM_61q (by omega)]; exact q.2.2.2⟩
              case i_hx =>
                rw [hz96q, hs77]; exact AMX_up h0q.1 hx (by rw [← hs77]; omega)
              case i_m =>
                omega
      refine aw_sub [3, 4, 5, 2, 1, 0] rfl ?_
      refine lp44q _ _ _ _ _  ?i_h0 ?i_hf ?i_hs ?i_ha ?i_hx (Nat.lt_succ_self _)
      case i_h0 =>
        omega
      case i_hf =>
        exact hfrM_33.mono (by decide)
      case i_hs =>
        exact hs4M_33
      case i_ha =>
        exact fun i hi => ⟨(hsmM_33 i hi).1, fun _ => (hsmM_33 i hi).2.1, (hsmM_33 i hi).2.2.1, (hsmM_33 i hi).2.2.2⟩
      case i_hx =>
        exact AMX_0 _ _
    · have d19q := b2_y hz16q c19q
      refine aw_bipush (n := (-2)) cx dX6_move_22 (by decide) ?_
      refine aw_iret cx rt dX6_move_24 ?_
      exact ⟨-2, rfl, FR.rf, Or.inl ⟨by omega, rfl⟩⟩
set_option maxHeartbeats 1000000 in
set_option maxRecDepth 100000 in
theorem ct_X6_lives (tl : List CD) (M : Mem) (seed n what : Int) : Ct 5 mX6_lives (LB ++ tl) [aR 0, aI seed, aI n, aI what] M (fun r M1 => ∃ x, r = some (aI x) ∧ FR SC M M1 ∧ aLives (lvF M seed n) (qgT M) n what x) := by
  refine Ct.of (own := RX6) rfl (by decide +kernel) (Nat.le_of_ble_eq_true rfl) (fun X cx rt => ?_)
  refine aw_eq (loc2 := [(0, aR 0), (1, aI seed), (2, aI n), (3, aI what)]) ?_ rfl rfl rfl rfl
  refine aw_rngL 1 rfl (fun rl_seed rh_seed => ?_)
  refine aw_rngL 2 rfl (fun rl_n rh_n => ?_)
  refine aw_rngL 3 rfl (fun rl_what rh_what => ?_)
  refine aw_ok (fun om => ?_)
  have hsz : 0 ≤ M 5 4 ∧ M 5 4 ≤ 12 := okF om (lb_5 tl) (j := 4) rfl (show (0 : Nat) ≠ 1 by decide)
  have hse : 0 ≤ M 18 3 ∧ M 18 3 ≤ 8 := okF om (lb_18 tl) (j := 3) rfl (show (0 : Nat) ≠ 1 by decide)
  have hcz : 0 ≤ M 15 2 ∧ M 15 2 ≤ 8 := okF om (lb_15 tl) (j := 2) rfl (show (0 : Nat) ≠ 1 by decide)
  have hal := all_bits hse
  refine aw_iload_n cx dX6_lives_0 rfl 2 rfl ?_
  refine aw_bipush (n := 13) cx dX6_lives_1 (by decide) ?_
  refine aw_callS (as := [aI n, aI 13]) (stk := []) cx dX6_lives_3 ml_X6_84 ms_X6_outside (by decide) rfl rfl (Nat.le_of_ble_eq_true rfl) (ct_X6_outside tl M _ _ ) (fun rr3q M_3q hp3q => ?_)
  obtain ⟨rfl, rfl⟩ := hp3q
  refine aw_top (stk := []) (fun z3q hz3q => ?_)
  refine aw_if_ne (tgt := 17) cx dX6_lives_6 (by decide) (fun c6q => ?_) (fun c6q => ?_)
  · have d6q := b2_y hz3q c6q
    refine aw_bipush (n := (-2)) cx dX6_lives_17 (by decide) ?_
    refine aw_iret cx rt dX6_lives_19 ?_
    exact ⟨-2, rfl, FR.rf, Or.inl ⟨by omega, rfl⟩⟩
  · have d6q := b2_e0.mp (hz3q.symm.trans c6q)
    refine aw_iload_n cx dX6_lives_9 rfl 3 rfl ?_
    refine aw_iconst (n := 2) cx dX6_lives_10 (by decide) ?_
    refine aw_callS (as := [aI what, aI 2]) (stk := []) cx dX6_lives_11 ml_X6_84 ms_X6_outside (by decide) rfl rfl (Nat.le_of_ble_eq_true rfl) (ct_X6_outside tl M _ _ ) (fun rr11q M_11q hp11q => ?_)
    obtain ⟨rfl, rfl⟩ := hp11q
    refine aw_top (stk := []) (fun z11q hz11q => ?_)
    refine aw_if_eq (tgt := 20) cx dX6_lives_14 (by decide) (fun c14q => ?_) (fun c14q => ?_)
    · have d14q := b2_e0.mp (hz11q.symm.trans c14q)
      refine aw_aload_n cx dX6_lives_20 rfl 0 rfl ?_
      refine aw_getR (q := 10) cx dX6_lives_21 fl_X6_28 (lb_0 tl) rfl rfl ?_
      refine aw_iload_n cx dX6_lives_24 rfl 1 rfl ?_
      refine aw_iload_n cx dX6_lives_25 rfl 2 rfl ?_
      refine aw_callV (as := [aI seed, aI n]) (k := 10) (stk := []) cx dX6_lives_26 ml_X6_241 mv_X4_drawLots rfl (lb_10 tl) (by decide) rfl rfl (Nat.le_of_ble_eq_true rfl) (ct_X4_drawLots tl M _ _ (by omega)) (fun rr26q M_26q hp26q => ?_)
      obtain ⟨rfl, hfrM_26, hs4M_26, hltM_26⟩ := hp26q
      refine aw_eq (stk2 := []) ?_ rfl rfl rfl rfl
      have hf := hfrM_26
      have g0 := hf 0 (by decide)
      have g5 := hf 5 (by decide)
      have g6 := hf 6 (by decide)
      have g7 := hf 7 (by decide)
      have g8 := hf 8 (by decide)
      have g9 := hf 9 (by decide)
      have g15 := hf 15 (by decide)
      have g16 := hf 16 (by decide)
      have g17 := hf 17 (by decide)
      have g18 := hf 18 (by decide)
      have g19 := hf 19 (by decide)
      have g20 := hf 20 (by decide)
      have g21 := hf 21 (by decide)
      have g183 := congrFun g18 3
      have g54 := congrFun g5 4
      have hqg := QG_fr g0 g15 g16 g17
      refine aw_aload_n cx dX6_lives_29 rfl 0 rfl ?_
      refine aw_aload_n cx dX6_lives_30 rfl 0 rfl ?_
      refine aw_getR (q := 10) cx dX6_lives_31 fl_X6_28 (lb_0 tl) rfl rfl ?_
      refine aw_aload_n cx dX6_lives_34 rfl 0 rfl ?_
      refine aw_getR (q := 18) cx dX6_lives_35 fl_X6_41 (lb_0 tl) rfl rfl ?_
      refine aw_callV (as := []) (k := 18) (stk := [aR 10, aR 0]) cx dX6_lives_38 ml_X6_175 mv_X2_all rfl (lb_18 tl) (by decide) rfl rfl (Nat.le_of_ble_eq_true rfl) (ct_X2_all tl M_26q  ) (fun rr38q M_38q hp38q => ?_)
      obtain ⟨rfl, rfl⟩ := hp38q
      refine aw_top (stk := [aR 10, aR 0]) (fun z38q hz38q => ?_)
      refine aw_callV (as := [aR 10, aI z38q]) (k := 0) (stk := []) cx dX6_lives_41 ml_X6_178 mv_X6_clearedBits rfl (lb_0 tl) (by decide) rfl rfl (Nat.le_of_ble_eq_true rfl) (ct_X6_clearedBits tl M_26q 10 _ (Or.inr rfl) (by rw [hz38q, g183]; omega)) (fun rr41q M_41q hp41q => ?_)
      obtain ⟨z41q, rfl, hfrM_41, hcbM_41, hxrM_41, hctM_41, hrnM_41, hkkM_41, htlM_41⟩ := hp41q
      refine aw_eq (stk2 := [aI z41q]) ?_ rfl rfl rfl rfl
      rw [hz38q, g183] at hcbM_41 hrnM_41 hctM_41
      have hfe : FGe (fgH M_26q 10 (bShl 1 (M 18 3) - 1)) (lvF M seed n) := by
        refine ⟨?_, ?_, ?_, ?_⟩
        · show (M_26q 10 4).toNat = n.toNat
          rw [hs4M_26]
        · show (M_26q 18 3).toNat = (M 18 3).toNat
          rw [g18]
        · intro e he
          have he2 : e < (M 18 3).toNat := by rw [← g18]; exact he
          refine ⟨?_, ?_, ?_⟩
          · show KEF _ (M_26q 19) e = M 19 e
            rw [KEF_all hse he2, g19]
          · show M_26q 20 e = M 20 e
            rw [g20]
          · show M_26q 21 e = M 21 e
            rw [g21]
        · intro i hi
          exact hltM_26 i (by rw [← hs4M_26]; exact hi)
      refine aw_ok (fun om7 => ?_)
      have hN7 : ∀ j, 0 ≤ M_26q 11 j := fun j => by rw [← hfrM_41 11 (by decide)]; exact (okA om7 (lb_11 tl) j).1
      rw [hqg, fCB_cg hfe QGe.rf hN7 (show (M 15 2).toNat ≤ 8 by omega) hrnM_41] at hcbM_41
      have hc41 := fC_cg hfe hN7 hrnM_41
      have hfq : FR SC M M_41q := (hfrM_26.mono (by decide)).tr hfrM_41 (by decide)
      refine aw_istore (loc2 := [(4, aI z41q), (0, aR 0), (1, aI seed), (2, aI n), (3, aI what)]) cx dX6_lives_44 (by decide) rfl ?_
      refine aw_iload_n cx dX6_lives_46 rfl 4 rfl ?_
      refine aw_if_ne (tgt := 58) cx dX6_lives_47 (by decide) (fun c47q => ?_) (fun c47q => ?_)
      · refine aw_aload_n cx dX6_lives_58 rfl 1 rfl ?_
        refine aw_getR (q := 22) cx dX6_lives_59 fl_X6_50 (lb_0 tl) rfl rfl ?_
        refine aw_getI cx dX6_lives_62 fl_X6_187 (lb_22 tl) rfl (fun z62q hz62q lo_z62q hi_z62q => ?_)
        refine aw_iret cx rt dX6_lives_65 ?_
        exact ⟨z62q, rfl, hfq, Or.inr ⟨by omega, by omega, Or.inr ⟨by omega, by rw [hz62q, hctM_41]; exact hc41⟩⟩⟩
      · refine aw_iload cx dX6_lives_50 0 rfl ?_
        refine aw_callS (as := [aI z41q]) (stk := []) cx dX6_lives_52 ml_X6_182 ms_J6_bitCount_0f7a4 (by decide) rfl rfl (Nat.le_of_ble_eq_true rfl) (ct_J6_bitCount_0f7a4 tl M_41q _ (by omega)) (fun rr52q M_52q hp52q => ?_)
        obtain ⟨rfl, rfl⟩ := hp52q
        refine aw_top (stk := []) (fun z52q hz52q => ?_)
        have hrz52q : 0 ≤ z52q ∧ z52q ≤ 12 := by rw [hz52q]; exact PCN_in _
        refine aw_goto (tgt := 65) cx dX6_lives_55 (by decide) ?_
        refine aw_iret cx rt dX6_lives_65 ?_
        exact ⟨z52q, rfl, hfq, Or.inr ⟨by omega, by omega, Or.inl ⟨by omega, by rw [hz52q, hcbM_41]⟩⟩⟩
    · have d14q := b2_y hz11q c14q
      refine aw_bipush (n := (-2)) cx dX6_lives_17 (by decide) ?_
      refine aw_iret cx rt dX6_lives_19 ?_
      exact ⟨-2, rfl, FR.rf, Or.inl ⟨by omega, rfl⟩⟩
set_option maxHeartbeats 1000000 in
set_option maxRecDepth 100000 in
theorem ct_X6_count (tl : List CD) (M : Mem) (what : Int) : Ct 5 mX6_count (LB ++ tl) [aR 0, aI what] M (fun r M1 => ∃ x, r = some (aI x) ∧ FR SC M M1 ∧ (((what < 0 ∨ 8 < what) ∧ x = -2) ∨ (what = 0 ∧ x = M 5 4) ∨ (what = 1 ∧ x = M 15 2) ∨ (what = 2 ∧ x = M 1 2) ∨ (what = 3 ∧ x = M 3 2) ∨ (what = 4 ∧ x = M 0 12) ∨ (what = 5 ∧ x = M 18 3) ∨ (what = 6 ∧ x = PCN (fCB (-1) (fgT M) (qgT M))) ∨ (what = 7 ∧ x = M 0 13) ∨ (what = 8 ∧ x = M 0 14))) := by
  refine Ct.of (own := RX6) rfl (by decide +kernel) (Nat.le_of_ble_eq_true rfl) (fun X cx rt => ?_)
  refine aw_eq (loc2 := [(0, aR 0), (1, aI what)]) ?_ rfl rfl rfl rfl
  refine aw_rngL 1 rfl (fun rl_what rh_what => ?_)
  refine aw_ok (fun om => ?_)
  have hsz : 0 ≤ M 5 4 ∧ M 5 4 ≤ 12 := okF om (lb_5 tl) (j := 4) rfl (show (0 : Nat) ≠ 1 by decide)
  have hse : 0 ≤ M 18 3 ∧ M 18 3 ≤ 8 := okF om (lb_18 tl) (j := 3) rfl (show (0 : Nat) ≠ 1 by decide)
  have hcz : 0 ≤ M 15 2 ∧ M 15 2 ≤ 8 := okF om (lb_15 tl) (j := 2) rfl (show (0 : Nat) ≠ 1 by decide)
  have hNN : ∀ j, 0 ≤ M 6 j := fun j => (okA om (lb_6 tl) j).1
  have hal := all_bits hse
  refine aw_iload_n cx dX6_count_0 rfl 1 rfl ?_
  by_cases c1_0q : what = 0
  · refine aw_tabIn (off := 51) (tgt := 52) cx dX6_count_1 (by omega) (by omega) (by rw [c1_0q]; rfl) (by decide) ?_
    refine aw_aload_n cx dX6_count_52 rfl 0 rfl ?_
    refine aw_getR (q := 5) cx dX6_count_53 fl_X6_24 (lb_0 tl) rfl rfl ?_
    refine aw_getI cx dX6_count_56 fl_X6_105 (lb_5 tl) rfl (fun z56q hz56q lo_z56q hi_z56q => ?_)
    refine aw_iret cx rt dX6_count_59 ?_
    exact ⟨_, rfl, FR.rf, Or.inr (Or.inl ⟨by omega, by assumption⟩)⟩
  by_cases c1_1q : what = 1
  · refine aw_tabIn (off := 59) (tgt := 60) cx dX6_count_1 (by omega) (by omega) (by rw [c1_1q]; rfl) (by decide) ?_
    refine aw_aload_n cx dX6_count_60 rfl 0 rfl ?_
    refine aw_getR (q := 15) cx dX6_count_61 fl_X6_34 (lb_0 tl) rfl rfl ?_
    refine aw_getI cx dX6_count_64 fl_X6_118 (lb_15 tl) rfl (fun z64q hz64q lo_z64q hi_z64q => ?_)
    refine aw_iret cx rt dX6_count_67 ?_
    exact ⟨_, rfl, FR.rf, Or.inr (Or.inr (Or.inl ⟨by omega, by assumption⟩))⟩
  by_cases c1_2q : what = 2
  · refine aw_tabIn (off := 67) (tgt := 68) cx dX6_count_1 (by omega) (by omega) (by rw [c1_2q]; rfl) (by decide) ?_
    refine aw_aload_n cx dX6_count_68 rfl 0 rfl ?_
    refine aw_getR (q := 1) cx dX6_count_69 fl_X6_14 (lb_0 tl) rfl rfl ?_
    refine aw_getI cx dX6_count_72 fl_X6_92 (lb_1 tl) rfl (fun z72q hz72q lo_z72q hi_z72q => ?_)
    refine aw_iret cx rt dX6_count_75 ?_
    exact ⟨_, rfl, FR.rf, Or.inr (Or.inr (Or.inr (Or.inl ⟨by omega, by assumption⟩)))⟩
  by_cases c1_3q : what = 3
  · refine aw_tabIn (off := 75) (tgt := 76) cx dX6_count_1 (by omega) (by omega) (by rw [c1_3q]; rfl) (by decide) ?_
    refine aw_aload_n cx dX6_count_76 rfl 0 rfl ?_
    refine aw_getR (q := 3) cx dX6_count_77 fl_X6_18 (lb_0 tl) rfl rfl ?_
    refine aw_getI cx dX6_count_80 fl_X6_92 (lb_3 tl) rfl (fun z80q hz80q lo_z80q hi_z80q => ?_)
    refine aw_iret cx rt dX6_count_83 ?_
    exact ⟨_, rfl, FR.rf, Or.inr (Or.inr (Or.inr (Or.inr (Or.inl ⟨by omega, by assumption⟩))))⟩
  by_cases c1_4q : what = 4
  · refine aw_tabIn (off := 83) (tgt := 84) cx dX6_count_1 (by omega) (by omega) (by rw [c1_4q]; rfl) (by decide) ?_
    refine aw_aload_n cx dX6_count_84 rfl 0 rfl ?_
    refine aw_getI cx dX6_count_85 fl_X6_74 (lb_0 tl) rfl (fun z85q hz85q lo_z85q hi_z85q => ?_)
    refine aw_iret cx rt dX6_count_88 ?_
    exact ⟨_, rfl, FR.rf, Or.inr (Or.inr (Or.inr (Or.inr (Or.inr (Or.inl ⟨by omega, by assumption⟩)))))⟩
  by_cases c1_5q : what = 5
  · refine aw_tabIn (off := 88) (tgt := 89) cx dX6_count_1 (by omega) (by omega) (by rw [c1_5q]; rfl) (by decide) ?_
    refine aw_aload_n cx dX6_count_89 rfl 0 rfl ?_
    refine aw_getR (q := 18) cx dX6_count_90 fl_X6_41 (lb_0 tl) rfl rfl ?_
    refine aw_getI cx dX6_count_93 fl_X6_121 (lb_18 tl) rfl (fun z93q hz93q lo_z93q hi_z93q => ?_)
    refine aw_iret cx rt dX6_count_96 ?_
    exact ⟨_, rfl, FR.rf, Or.inr (Or.inr (Or.inr (Or.inr (Or.inr (Or.inr (Or.inl ⟨by omega, by assumption⟩))))))⟩
  by_cases c1_6q : what = 6
  · refine aw_tabIn (off := 96) (tgt := 97) cx dX6_count_1 (by omega) (by omega) (by rw [c1_6q]; rfl) (by decide) ?_
    refine aw_aload_n cx dX6_count_97 rfl 0 rfl ?_
    refine aw_aload_n cx dX6_count_98 rfl 0 rfl ?_
    refine aw_getR (q := 5) cx dX6_count_99 fl_X6_24 (lb_0 tl) rfl rfl ?_
    refine aw_aload_n cx dX6_count_102 rfl 0 rfl ?_
    refine aw_getR (q := 18) cx dX6_count_103 fl_X6_41 (lb_0 tl) rfl rfl ?_
    refine aw_callV (as := []) (k := 18) (stk := [aR 5, aR 0]) cx dX6_count_106 ml_X6_175 mv_X2_all rfl (lb_18 tl) (by decide) rfl rfl (Nat.le_of_ble_eq_true rfl) (ct_X2_all tl M  ) (fun rr106q M_106q hp106q => ?_)
    obtain ⟨rfl, rfl⟩ := hp106q
    refine aw_top (stk := [aR 5, aR 0]) (fun z106q hz106q => ?_)
    refine aw_callV (as := [aR 5, aI z106q]) (k := 0) (stk := []) cx dX6_count_109 ml_X6_178 mv_X6_clearedBits rfl (lb_0 tl) (by decide) rfl rfl (Nat.le_of_ble_eq_true rfl) (ct_X6_clearedBits tl M 5 _ (Or.inl rfl) (by omega)) (fun rr109q M_109q hp109q => ?_)
    obtain ⟨z109q, rfl, hfrM_109, hcbM_109, hxrM_109, hctM_109, hrnM_109, hkkM_109, htlM_109⟩ := hp109q
    refine aw_eq (stk2 := [aI z109q]) ?_ rfl rfl rfl rfl
    rw [hz106q] at hcbM_109 hrnM_109
    rw [fCB_told (x := 0) hse hNN hrnM_109] at hcbM_109
    refine aw_callS (as := [aI z109q]) (stk := []) cx dX6_count_112 ml_X6_182 ms_J6_bitCount_0f7a4 (by decide) rfl rfl (Nat.le_of_ble_eq_true rfl) (ct_J6_bitCount_0f7a4 tl M_109q _ (by omega)) (fun rr112q M_112q hp112q => ?_)
    obtain ⟨rfl, rfl⟩ := hp112q
    refine aw_top (stk := []) (fun z112q hz112q => ?_)
    have hrz112q : 0 ≤ z112q ∧ z112q ≤ 12 := by rw [hz112q]; exact PCN_in _
    refine aw_iret cx rt dX6_count_115 ?_
    exact ⟨z112q, rfl, hfrM_109.sc, Or.inr (Or.inr (Or.inr (Or.inr (Or.inr (Or.inr (Or.inr (Or.inl ⟨by omega, by rw [← hcbM_109, ← hz112q]⟩)))))))⟩
  by_cases c1_7q : what = 7
  · refine aw_tabIn (off := 115) (tgt := 116) cx dX6_count_1 (by omega) (by omega) (by rw [c1_7q]; rfl) (by decide) ?_
    refine aw_aload_n cx dX6_count_116 rfl 0 rfl ?_
    refine aw_getI cx dX6_count_117 fl_X6_78 (lb_0 tl) rfl (fun z117q hz117q lo_z117q hi_z117q => ?_)
    refine aw_iret cx rt dX6_count_120 ?_
    exact ⟨_, rfl, FR.rf, Or.inr (Or.inr (Or.inr (Or.inr (Or.inr (Or.inr (Or.inr (Or.inr (Or.inl ⟨by omega, by assumption⟩))))))))⟩
  by_cases c1_8q : what = 8
  · refine aw_tabIn (off := 120) (tgt := 121) cx dX6_count_1 (by omega) (by omega) (by rw [c1_8q]; rfl) (by decide) ?_
    refine aw_aload_n cx dX6_count_121 rfl 0 rfl ?_
    refine aw_getI cx dX6_count_122 fl_X6_81 (lb_0 tl) rfl (fun z122q hz122q lo_z122q hi_z122q => ?_)
    refine aw_iret cx rt dX6_count_125 ?_
    exact ⟨_, rfl, FR.rf, Or.inr (Or.inr (Or.inr (Or.inr (Or.inr (Or.inr (Or.inr (Or.inr (Or.inr (⟨by omega, by assumption⟩)))))))))⟩
  refine aw_tabOut (tgt := 126) cx dX6_count_1 (by omega) (by decide) ?_
  refine aw_bipush (n := (-2)) cx dX6_count_126 (by decide) ?_
  refine aw_iret cx rt dX6_count_128 ?_
  exact ⟨_, rfl, FR.rf, Or.inl ⟨by omega, rfl⟩⟩
set_option maxHeartbeats 1000000 in
set_option maxRecDepth 100000 in
theorem ct_X6_never (tl : List CD) (M : Mem)  : Ct 5 mX6_never (LB ++ tl) [aR 0] M (fun r M1 => ∃ x, r = some (aI x) ∧ FR SC M M1 ∧ aNever (fgT M) (qgT M) (M 0 13).toNat (M 27) (M 28) x) := by
  refine Ct.of (own := RX6) rfl (by decide +kernel) (Nat.le_of_ble_eq_true rfl) (fun X cx rt => ?_)
  refine aw_eq (loc2 := [(0, aR 0)]) ?_ rfl rfl rfl rfl
  refine aw_ok (fun om => ?_)
  have hsz : 0 ≤ M 5 4 ∧ M 5 4 ≤ 12 := okF om (lb_5 tl) (j := 4) rfl (show (0 : Nat) ≠ 1 by decide)
  have hse : 0 ≤ M 18 3 ∧ M 18 3 ≤ 8 := okF om (lb_18 tl) (j := 3) rfl (show (0 : Nat) ≠ 1 by decide)
  have hcz : 0 ≤ M 15 2 ∧ M 15 2 ≤ 8 := okF om (lb_15 tl) (j := 2) rfl (show (0 : Nat) ≠ 1 by decide)
  have hNN : ∀ j, 0 ≤ M 6 j := fun j => (okA om (lb_6 tl) j).1
  have hal := all_bits hse
  refine aw_iconst (n := 0) cx dX6_never_0 (by decide) ?_
  refine aw_istore_n (loc2 := [(1, aI 0), (0, aR 0)]) cx dX6_never_1 rfl (by decide) rfl ?_
  refine aw_iconst (n := 0) cx dX6_never_2 (by decide) ?_
  refine aw_istore_n (loc2 := [(2, aI 0), (1, aI 0), (0, aR 0)]) cx dX6_never_3 rfl (by decide) rfl ?_
  have lp4q : ∀ (fu : Nat) (x1q : Int) (x2q : Int) (N4q : Mem), (0 ≤ x2q ∧ x2q ≤ M 18 3) → (FR SC M N4q) → (BTS (aNeverP (fgT M) (qgT M) (M 0 13).toNat (M 27) (M 28)) x2q.toNat x1q) → ((M 18 3 - x2q).toNat) < fu → AW X (LB ++ tl) 3 4 [(0, aR 0), (1, aI x1q), (2, aI x2q)] [] N4q := by
    intro fu
    induction fu with
    | zero =>
      intro x1q x2q N4q h0q hf hx hm
      exact absurd hm (Nat.not_lt_zero _)
    | succ fu ih4q =>
      intro x1q x2q N4q h0q hf hx hm
      have g0 := hf 0 (by decide)
      have g5 := hf 5 (by decide)
      have g6 := hf 6 (by decide)
      have g7 := hf 7 (by decide)
      have g8 := hf 8 (by decide)
      have g9 := hf 9 (by decide)
      have g15 := hf 15 (by decide)
      have g16 := hf 16 (by decide)
      have g17 := hf 17 (by decide)
      have g18 := hf 18 (by decide)
      have g19 := hf 19 (by decide)
      have g20 := hf 20 (by decide)
      have g21 := hf 21 (by decide)
      have g183 := congrFun g18 3
      have g54 := congrFun g5 4
      have hqg := QG_fr g0 g15 g16 g17
      refine aw_iload_n cx dX6_never_4 rfl 2 rfl ?_
      refine aw_aload_n cx dX6_never_5 rfl 0 rfl ?_
      refine aw_getR (q := 18) cx dX6_never_6 fl_X6_41 (lb_0 tl) rfl rfl ?_
      refine aw_getI cx dX6_never_9 fl_X6_121 (lb_18 tl) rfl (fun z9q hz9q lo_z9q hi_z9q => ?_)
      refine aw_icmp_ge (tgt := 55) cx dX6_never_12 (by decide) (fun c12q => ?_) (fun c12q => ?_)
      · refine aw_iload_n cx dX6_never_55 rfl 1 rfl ?_
        refine aw_iret cx rt dX6_never_56 ?_
        exact ⟨x1q, rfl, hf, by rw [show x2q = M 18 3 by omega] at hx; exact hx⟩
      · refine aw_aload_n cx dX6_never_15 rfl 0 rfl ?_
        refine aw_aload_n cx dX6_never_16 rfl 0 rfl ?_
        refine aw_aload_n cx dX6_never_17 rfl 0 rfl ?_
        refine aw_getR (q := 5) cx dX6_never_18 fl_X6_24 (lb_0 tl) rfl rfl ?_
        refine aw_aload_n cx dX6_never_21 rfl 0 rfl ?_
        refine aw_getR (q := 18) cx dX6_never_22 fl_X6_41 (lb_0 tl) rfl rfl ?_
        refine aw_callV (as := []) (k := 18) (stk := [aR 5, aR 0, aR 0]) cx dX6_never_25 ml_X6_175 mv_X2_all rfl (lb_18 tl) (by decide) rfl rfl (Nat.le_of_ble_eq_true rfl) (ct_X2_all tl N4q  ) (fun rr25q M_25q hp25q => ?_)
        obtain ⟨rfl, rfl⟩ := hp25q
        refine aw_top (stk := [aR 5, aR 0, aR 0]) (fun z25q hz25q => ?_)
        refine aw_iconst (n := 1) cx dX6_never_28 (by decide) ?_
        refine aw_iload_n cx dX6_never_29 rfl 2 rfl ?_
        refine aw_ishl cx dX6_never_30 (fun z30q hz30q => ?_)
        refine aw_iconst (n := (-1)) cx dX6_never_31 (by decide) ?_
        refine aw_ixor cx dX6_never_32 (fun z32q hz32q => ?_)
        refine aw_iand cx dX6_never_33 (fun z33q hz33q => ?_)
        refine aw_callV (as := [aR 5, aI z33q]) (k := 0) (stk := [aR 0]) cx dX6_never_34 ml_X6_178 mv_X6_clearedBits rfl (lb_0 tl) (by decide) rfl rfl (Nat.le_of_ble_eq_true rfl) (ct_X6_clearedBits tl N4q 5 _ (Or.inl rfl) (by have q := off_in (m := M 18 3) (a := x2q) hse (by omega); rw [hz33q, hz32q, hz30q, hz25q, g183]; omega)) (fun rr34q M_34q hp34q => ?_)
        obtain ⟨z34q, rfl, hfrM_34, hcbM_34, hxrM_34, hctM_34, hrnM_34, hkkM_34, htlM_34⟩ := hp34q
        refine aw_eq (stk2 := [aI z34q, aR 0]) ?_ rfl rfl rfl rfl
        have hz33b : z33q = bAnd (bShl 1 (M 18 3) - 1) (bXor (bShl 1 x2q) (-1)) := by rw [hz33q, hz32q, hz30q, hz25q, g183]
        rw [hz33b] at hcbM_34 hrnM_34
        have hfe : FGe (fgH N4q 5 (bAnd (bShl 1 (M 18 3) - 1) (bXor (bShl 1 x2q) (-1)))) (setK (fgT M) (up1 (M 19) x2q.toNat (-1))) := by
          refine ⟨?_, ?_, ?_, ?_⟩
          · show (N4q 5 4).toNat = (M 5 4).toNat
            rw [g5]
          · show (N4q 18 3).toNat = (M 18 3).toNat
            rw [g18]
          · intro e he
            have he2 : e < (M 18 3).toNat := by rw [← g18]; exact he
            refine ⟨?_, ?_, ?_⟩
            · show KEF _ (N4q 19) e = up1 (M 19) x2q.toNat (-1) e
              rw [KEF_off hse (by omega) he2, g19]
            · show N4q 20 e = M 20 e
              rw [g20]
            · show N4q 21 e = M 21 e
              rw [g21]
          · intro i hi
            exact ⟨by show N4q 6 i = M 6 i; rw [g6], by show N4q 7 i = M 7 i; rw [g7], by show N4q 8 i = M 8 i; rw [g8], by show N4q 9 i = M 9 i; rw [g9]⟩
        have hN7 : ∀ j, 0 ≤ N4q 6 j := fun j => by rw [g6]; exact hNN j
        rw [hqg, fCB_cg hfe QGe.rf hN7 (show (M 15 2).toNat ≤ 8 by omega) hrnM_34] at hcbM_34
        have hfS : FR SC M M_34q := hf.tr hfrM_34 (by decide)
        refine aw_callV (as := [aI z34q]) (k := 0) (stk := []) cx dX6_never_37 ml_X6_220 mv_X6_comesOutSo rfl (lb_0 tl) (by decide) rfl rfl (Nat.le_of_ble_eq_true rfl) (ct_X6_comesOutSo tl M_34q _ (by omega)) (fun rr37q M_37q hp37q => ?_)
        obtain ⟨rfl, z37q, rfl, h01z37q, hsoz37⟩ := hp37q
        refine aw_eq (stk2 := [aI z37q]) ?_ rfl rfl rfl rfl
        have hso : z37q = 1 ↔ SO (M 0 13).toNat (M 27) (M 28) (M 15 2) z34q := by have q := hsoz37; rw [hfS 0 (by decide), hfS 15 (by decide), hfS 27 (by decide), hfS 28 (by decide)] at q; exact q
        have hnp : aNeverP (fgT M) (qgT M) (M 0 13).toNat (M 27) (M 28) x2q.toNat ↔ SO (M 0 13).toNat (M 27) (M 28) (M 15 2) z34q := by rw [hcbM_34]; show SO _ _ _ (((M 15 2).toNat : Nat) : Int) _ ↔ _; rw [show (((M 15 2).toNat : Nat) : Int) = M 15 2 by omega]; exact Iff.rfl
        refine aw_if_eq (tgt := 49) cx dX6_never_40 (by decide) (fun c40q => ?_) (fun c40q => ?_)
        · refine aw_iinc cx dX6_never_49 2 rfl (by decide) (by omega) (fun z49q hz49q => ?_)
          refine aw_loc (loc2 := [(2, aI z49q), (0, aR 0), (1, aI x1q)]) rfl ?_
          refine aw_goto (tgt := 4) cx dX6_never_52 (by decide) ?_
          refine aw_sub [1, 2, 0] rfl ?_
          refine ih4q _ _ _  ?i_h0 ?i_hf ?i_hx ?i_m
          case i_h0 =>
            omega
          case i_hf =>
            exact hf.tr hfrM_34 (by decide)
          case i_hx =>
            rw [hz49q]; exact BTS_n (by omega) hx (by rw [hnp, ← hso]; omega)
          case i_m =>
            omega
        · refine aw_iload_n cx dX6_never_43 rfl 1 rfl ?_
          refine aw_iconst (n := 1) cx dX6_never_44 (by decide) ?_
          refine aw_iload_n cx dX6_never_45 rfl 2 rfl ?_
          refine aw_ishl cx dX6_never_46 (fun z46q hz46q => ?_)
          refine aw_ior cx dX6_never_47 (fun z47q hz47q => ?_)
          refine aw_istore_n (loc2 := [(1, aI z47q), (0, aR 0), (2, aI x2q)]) cx dX6_never_48 rfl (by decide) rfl ?_
          refine aw_iinc cx dX6_never_49 2 rfl (by decide) (by omega) (fun z49q hz49q => ?_)
          refine aw_loc (loc2 := [(2, aI z49q), (1, aI z47q), (0, aR 0)]) rfl ?_
          refine aw_goto (tgt := 4) cx dX6_never_52 (by decide) ?_
          refine aw_sub [2, 1, 0] rfl ?_
          refine ih4q _ _ _  ?i_h0 ?i_hf ?i_hx ?i_m
          case i_h0 =>
            omega
          case i_hf =>
            exact hf.tr hfrM_34 (by decide)
          case i_hx =>
            rw [hz49q, hz47q, hz46q]; exact BTS_y (by omega) hx (by rw [hnp, ← hso]; omega)
          case i_m =>
            omega
  refine aw_sub [2, 1, 0] rfl ?_
  refine lp4q _ _ _ _  ?i_h0 ?i_hf ?i_hx (Nat.lt_succ_self _)
  case i_h0 =>
    omega
  case i_hf =>
    exact FR.rf
  case i_hx =>
    exact BTS_0
