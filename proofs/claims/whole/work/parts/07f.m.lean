set_option maxHeartbeats 1000000 in
set_option maxRecDepth 100000 in
theorem ct_X6_was_0 (tl : List CD) (M : Mem) (k : Int) : Ct 5 mX6_was (LB ++ tl) [aR 0, aI k, aI 0] M (fun r M1 => ∃ x, r = some (aI x) ∧ FR SC M M1 ∧ aWas (M 5 4) (fgT M) (qgT M) (M 0 13).toNat (M 27) (M 28) k 0 x) := by
  refine Ct.of (own := RX6) rfl (by decide +kernel) (Nat.le_of_ble_eq_true rfl) (fun X cx rt => ?_)
  refine aw_eq (loc2 := [(0, aR 0), (1, aI k), (2, aI 0)]) ?_ rfl rfl rfl rfl
  refine aw_rngL 1 rfl (fun rl_k rh_k => ?_)
  refine aw_ok (fun om => ?_)
  have hsz : 0 ≤ M 5 4 ∧ M 5 4 ≤ 12 := okF om (lb_5 tl) (j := 4) rfl (show (0 : Nat) ≠ 1 by decide)
  have hse : 0 ≤ M 18 3 ∧ M 18 3 ≤ 8 := okF om (lb_18 tl) (j := 3) rfl (show (0 : Nat) ≠ 1 by decide)
  have hcz : 0 ≤ M 15 2 ∧ M 15 2 ≤ 8 := okF om (lb_15 tl) (j := 2) rfl (show (0 : Nat) ≠ 1 by decide)
  have hNN : ∀ j, 0 ≤ M 6 j := fun j => (okA om (lb_6 tl) j).1
  have hal := all_bits hse
  refine aw_iload_n cx dX6_was_0 rfl 1 rfl ?_
  refine aw_aload_n cx dX6_was_1 rfl 0 rfl ?_
  refine aw_getR (q := 5) cx dX6_was_2 fl_X6_24 (lb_0 tl) rfl rfl ?_
  refine aw_getI cx dX6_was_5 fl_X6_105 (lb_5 tl) rfl (fun z5q hz5q lo_z5q hi_z5q => ?_)
  refine aw_callS (as := [aI k, aI z5q]) (stk := []) cx dX6_was_8 ml_X6_84 ms_X6_outside (by decide) rfl rfl (Nat.le_of_ble_eq_true rfl) (ct_X6_outside tl M _ _ ) (fun rr8q M_8q hp8q => ?_)
  obtain ⟨rfl, rfl⟩ := hp8q
  refine aw_top (stk := []) (fun z8q hz8q => ?_)
  refine aw_if_ne (tgt := 22) cx dX6_was_11 (by decide) (fun c11q => ?_) (fun c11q => ?_)
  · have d11q := b2_y hz8q c11q
    refine aw_bipush (n := (-2)) cx dX6_was_22 (by decide) ?_
    refine aw_iret cx rt dX6_was_24 ?_
    exact ⟨-2, rfl, FR.rf, Or.inl ⟨by omega, rfl⟩⟩
  · have d11q := b2_e0.mp (hz8q.symm.trans c11q)
    refine aw_iload_n cx dX6_was_14 rfl 2 rfl ?_
    refine aw_iconst (n := 2) cx dX6_was_15 (by decide) ?_
    refine aw_callS (as := [aI 0, aI 2]) (stk := []) cx dX6_was_16 ml_X6_84 ms_X6_outside (by decide) rfl rfl (Nat.le_of_ble_eq_true rfl) (ct_X6_outside tl M _ _ ) (fun rr16q M_16q hp16q => ?_)
    obtain ⟨rfl, rfl⟩ := hp16q
    refine aw_top (stk := []) (fun z16q hz16q => ?_)
    refine aw_if_eq (tgt := 25) cx dX6_was_19 (by decide) (fun c19q => ?_) (fun c19q => ?_)
    · have d19q := b2_e0.mp (hz16q.symm.trans c19q)
      refine aw_aload_n cx dX6_was_25 rfl 0 rfl ?_
      refine aw_getR (q := 10) cx dX6_was_26 fl_X6_28 (lb_0 tl) rfl rfl ?_
      refine aw_aload_n cx dX6_was_29 rfl 0 rfl ?_
      refine aw_getR (q := 5) cx dX6_was_30 fl_X6_24 (lb_0 tl) rfl rfl ?_
      refine aw_callV (as := [aR 5]) (k := 10) (stk := []) cx dX6_was_33 ml_X6_202 mv_X4_becomeLike rfl (lb_10 tl) (by decide) rfl rfl (Nat.le_of_ble_eq_true rfl) (ct_X4_becomeLike tl M  ) (fun rr33q M_33q hp33q => ?_)
      obtain ⟨rfl, hfrM_33, hs4M_33, hs5M_33, hsmM_33⟩ := hp33q
      refine aw_eq (stk2 := []) ?_ rfl rfl rfl rfl
      refine aw_iload_n cx dX6_was_36 rfl 2 rfl ?_
      refine aw_if_ne (tgt := 50) cx dX6_was_37 (by decide) (fun c37q => ?_) (fun c37q => ?_)
      · exact absurd c37q (by decide)
      · refine aw_aload_n cx dX6_was_40 rfl 0 rfl ?_
        refine aw_getR (q := 10) cx dX6_was_41 fl_X6_28 (lb_0 tl) rfl rfl ?_
        refine aw_getR (q := 13) cx dX6_was_44 fl_X6_112 (lb_10 tl) rfl rfl ?_
        refine aw_goto (tgt := 57) cx dX6_was_47 (by decide) ?_
        refine aw_astore_n (loc2 := [(3, aR 13), (0, aR 0), (1, aI k), (2, aI 0)]) cx dX6_was_57 rfl (by decide) rfl ?_
        refine aw_iload_n cx dX6_was_58 rfl 3 rfl ?_
        refine aw_if_ne (tgt := 67) cx dX6_was_59 (by decide) (fun c59q => ?_) (fun c59q => ?_)
        · exact absurd c59q (by decide)
        · refine aw_bipush (n := 10) cx dX6_was_62 (by decide) ?_
          refine aw_goto (tgt := 68) cx dX6_was_64 (by decide) ?_
          refine aw_istore (loc2 := [(4, aI 10), (3, aR 13), (0, aR 0), (1, aI k), (2, aI 0)]) cx dX6_was_68 (by decide) rfl ?_
          refine aw_iconst (n := 0) cx dX6_was_70 (by decide) ?_
          refine aw_istore (loc2 := [(5, aI 0), (4, aI 10), (3, aR 13), (0, aR 0), (1, aI k), (2, aI 0)]) cx dX6_was_71 (by decide) rfl ?_
          refine aw_iconst (n := 0) cx dX6_was_73 (by decide) ?_
          refine aw_istore (loc2 := [(6, aI 0), (5, aI 0), (4, aI 10), (3, aR 13), (0, aR 0), (1, aI k), (2, aI 0)]) cx dX6_was_74 (by decide) rfl ?_
          have lp76q : ∀ (fu : Nat) (x5q : Int) (x6q : Int) (N76q : Mem), (0 ≤ x6q ∧ x6q ≤ 10) → (FR SC M N76q) → (N76q 10 4 = M 5 4) → (∀ i, i < (M 5 4).toNat → N76q 11 i = M 6 i ∧ N76q 12 i = M 7 i ∧ (i ≠ k.toNat → N76q 13 i = M 8 i) ∧ N76q 14 i = M 9 i) → (BTS (fun v => SO (M 0 13).toNat (M 27) (M 28) ((qgT M).2.1 : Int) (fCB (-1) (setW (fgT M) k.toNat (v : Int)) (qgT M))) x6q.toNat x5q) → ((10 - x6q).toNat) < fu → AW X (LB ++ tl) 7 76 [(0, aR 0), (1, aI k), (2, aI 0), (3, aR 13), (4, aI 10), (5, aI x5q), (6, aI x6q)] [] N76q := by
            intro fu
            induction fu with
            | zero =>
              intro x5q x6q N76q h0q hf hs ha hx hm
              exact absurd hm (Nat.not_lt_zero _)
            | succ fu ih76q =>
              intro x5q x6q N76q h0q hf hs ha hx hm
              have g0 := hf 0 (by decide)
              have g5 := hf 5 (by decide)
              have g6 := hf 6 (by decide)
              have g7 := hf 7 (by decide)
              have g8 := hf 8 (by decide)
              have g9 := hf 9 (by decide)
              have g15 := hf 15 (by decide)
              have g16 := hf 16 (by decide)
              have g17 := hf 17 (by decide)
              have g18 := hf 18 (by decide)
              have g19 := hf 19 (by decide)
              have g20 := hf 20 (by decide)
              have g21 := hf 21 (by decide)
              have g183 := congrFun g18 3
              have g54 := congrFun g5 4
              have hqg := QG_fr g0 g15 g16 g17
              refine aw_iload cx dX6_was_76 6 rfl ?_
              refine aw_iload cx dX6_was_78 4 rfl ?_
              refine aw_icmp_ge (tgt := 125) cx dX6_was_80 (by decide) (fun c80q => ?_) (fun c80q => ?_)
              · refine aw_iload cx dX6_was_125 5 rfl ?_
                refine aw_iret cx rt dX6_was_127 ?_
                refine ⟨x5q, rfl, hf, Or.inr ⟨by omega, by omega, Or.inl ⟨rfl, ?_⟩⟩⟩
                rw [show x6q = 10 by omega] at hx; exact hx
              · refine aw_aload_n cx dX6_was_83 rfl 3 rfl ?_
                refine aw_iload_n cx dX6_was_84 rfl 1 rfl ?_
                refine aw_iload cx dX6_was_85 6 rfl ?_
                refine aw_iast cx dX6_was_87 (lb_13 tl) (⟨by omega, by omega⟩) (⟨by omega, by omega⟩) ?_
                obtain ⟨M_87q, hM_87q⟩ : ∃ q, q = up N76q 13 (Int.toNat (k)) (x6q) := ⟨_, rfl⟩
                rw [← hM_87q]
                refine aw_aload_n cx dX6_was_88 rfl 0 rfl ?_
                refine aw_aload_n cx dX6_was_89 rfl 0 rfl ?_
                refine aw_aload_n cx dX6_was_90 rfl 0 rfl ?_
                refine aw_getR (q := 10) cx dX6_was_91 fl_X6_28 (lb_0 tl) rfl rfl ?_
                refine aw_aload_n cx dX6_was_94 rfl 0 rfl ?_
                refine aw_getR (q := 18) cx dX6_was_95 fl_X6_41 (lb_0 tl) rfl rfl ?_
                refine aw_callV (as := []) (k := 18) (stk := [aR 10, aR 0, aR 0]) cx dX6_was_98 ml_X6_175 mv_X2_all rfl (lb_18 tl) (by decide) rfl rfl (Nat.le_of_ble_eq_true rfl) (ct_X2_all tl M_87q  ) (fun rr98q M_98q hp98q => ?_)
                obtain ⟨rfl, rfl⟩ := hp98q
                refine aw_top (stk := [aR 10, aR 0, aR 0]) (fun z98q hz98q => ?_)
                refine aw_callV (as := [aR 10, aI z98q]) (k := 0) (stk := [aR 0]) cx dX6_was_101 ml_X6_178 mv_X6_clearedBits rfl (lb_0 tl) (by decide) rfl rfl (Nat.le_of_ble_eq_true rfl) (ct_X6_clearedBits tl M_87q 10 _ (Or.inr rfl) (by rw [hz98q, up_ne hM_87q (by omega), g183]; omega)) (fun rr101q M_101q hp101q => ?_)
                obtain ⟨z101q, rfl, hfrM_101, hcbM_101, hxrM_101, hctM_101, hrnM_101, hkkM_101, htlM_101⟩ := hp101q
                refine aw_eq (stk2 := [aI z101q, aR 0]) ?_ rfl rfl rfl rfl
                rw [hz98q, up_ne hM_87q (by omega), g183] at hcbM_101 hrnM_101
                have hfe : FGe (fgH M_87q 10 (bShl 1 (M 18 3) - 1)) (setW (fgT M) k.toNat ((x6q.toNat : Nat) : Int)) := by
                  refine trial_f hse (by rw [hM_87q, up_off (by decide)]; exact g18) (by rw [hM_87q, up_off (by decide)]; exact g19) (by rw [hM_87q, up_off (by decide)]; exact g20) (by rw [hM_87q, up_off (by decide)]; exact g21) (by rw [up_ne hM_87q (by omega)]; exact hs) ⟨rfl, rfl, rfl, rfl, rfl⟩ (fun i hi => ?_)
                  have q := ha i hi
                  refine ⟨by rw [up_ne hM_87q (by omega)]; exact q.1, by rw [up_ne hM_87q (by omega)]; exact q.2.1, ?_, by rw [up_ne hM_87q (by omega)]; exact q.2.2.2⟩
                  show M_87q 13 i = up1 (M 8) k.toNat ((x6q.toNat : Nat) : Int) i
                  unfold up1
                  by_cases e : i = k.toNat
                  · rw [if_pos e, e, up_eq hM_87q]; omega
                  · rw [if_neg e, up_ne hM_87q (by omega)]; exact q.2.2.1 e
                have hq2 : qgT M_87q = qgT M := by rw [← hqg]; exact QG_fr (by rw [hM_87q, up_off (by decide)]) (by rw [hM_87q, up_off (by decide)]) (by rw [hM_87q, up_off (by decide)]) (by rw [hM_87q, up_off (by decide)])
                refine aw_ok (fun om7 => ?_)
                have hN7 : ∀ j, 0 ≤ M_87q 11 j := fun j => by rw [← hfrM_101 11 (by decide)]; exact (okA om7 (lb_11 tl) j).1
                rw [hq2, fCB_cg hfe QGe.rf hN7 (show (M 15 2).toNat ≤ 8 by omega) hrnM_101] at hcbM_101
                have hfS : FR SC M M_101q := (hf.put hM_87q (by decide)).tr hfrM_101 (by decide)
                refine aw_callV (as := [aI z101q]) (k := 0) (stk := []) cx dX6_was_104 ml_X6_220 mv_X6_comesOutSo rfl (lb_0 tl) (by decide) rfl rfl (Nat.le_of_ble_eq_true rfl) (ct_X6_comesOutSo tl M_101q _ (by omega)) (fun rr104q M_104q hp104q => ?_)
                obtain ⟨rfl, z104q, rfl, h01z104q, hsoz104⟩ := hp104q
                refine aw_eq (stk2 := [aI z104q]) ?_ rfl rfl rfl rfl
                have hso : z104q = 1 ↔ SO (M 0 13).toNat (M 27) (M 28) (M 15 2) z101q := by have q := hsoz104; rw [hfS 0 (by decide), hfS 15 (by decide), hfS 27 (by decide), hfS 28 (by decide)] at q; exact q
                refine aw_if_eq (tgt := 119) cx dX6_was_107 (by decide) (fun c107q => ?_) (fun c107q => ?_)
                · refine aw_iinc cx dX6_was_119 6 rfl (by decide) (by omega) (fun z119q hz119q => ?_)
                  refine aw_loc (loc2 := [(6, aI z119q), (0, aR 0), (1, aI k), (2, aI 0), (3, aR 13), (4, aI 10), (5, aI x5q)]) rfl ?_
                  refine aw_goto (tgt := 76) cx dX6_was_122 (by decide) ?_
                  refine aw_sub [1, 2, 3, 4, 5, 6, 0] rfl ?_
                  refine ih76q _ _ _  ?i_h0 ?i_hf ?i_hs ?i_ha ?i_hx ?i_m
                  case i_h0 =>
                    omega
                  case i_hf =>
                    exact hfS
                  case i_hs =>
                    rw [hfrM_101 10 (by decide), up_ne hM_87q (by omega)]; exact hs
                  case i_ha =>
                    intro i hi
                    have q := ha i hi
                    exact ⟨by rw [hfrM_101 11 (by decide), up_ne hM_87q (by omega)]; exact q.1, by rw [hfrM_101 12 (by decide), up_ne hM_87q (by omega)]; exact q.2.1, fun z => by rw [hfrM_101 13 (by decide), up_ne hM_87q (by omega)]; exact q.2.2.1 z, by rw [hfrM_101 14 (by decide), up_ne hM_87q (by omega)]; exact q.2.2.2⟩
                  case i_hx =>
                    rw [hz119q]; exact BTS_n (by omega) hx (by show ¬ SO _ _ _ (((M 15 2).toNat : Nat) : Int) _; rw [show (((M 15 2).toNat : Nat) : Int) = M 15 2 by omega, ← hcbM_101, ← hso]; omega)
                  case i_m =>
                    omega
                · refine aw_iload cx dX6_was_110 5 rfl ?_
                  refine aw_iconst (n := 1) cx dX6_was_112 (by decide) ?_
                  refine aw_iload cx dX6_was_113 6 rfl ?_
                  refine aw_ishl cx dX6_was_115 (fun z115q hz115q => ?_)
                  refine aw_ior cx dX6_was_116 (fun z116q hz116q => ?_)
                  refine aw_istore (loc2 := [(5, aI z116q), (0, aR 0), (1, aI k), (2, aI 0), (3, aR 13), (4, aI 10), (6, aI x6q)]) cx dX6_was_117 (by decide) rfl ?_
                  refine aw_iinc cx dX6_was_119 6 rfl (by decide) (by omega) (fun z119q hz119q => ?_)
                  refine aw_loc (loc2 := [(6, aI z119q), (5, aI z116q), (0, aR 0), (1, aI k), (2, aI 0), (3, aR 13), (4, aI 10)]) rfl ?_
                  refine aw_goto (tgt := 76) cx dX6_was_122 (by decide) ?_
                  refine aw_sub [2, 3, 4, 5, 6, 1, 0] rfl ?_
                  refine ih76q _ _ _  ?i_h0 ?i_hf ?i_hs ?i_ha ?i_hx ?i_m
                  case i_h0 =>
                    omega
                  case i_hf =>
                    exact hfS
                  case i_hs =>
                    rw [hfrM_101 10 (by decide), up_ne hM_87q (by omega)]; exact hs
                  case i_ha =>
                    intro i hi
                    have q := ha i hi
                    exact ⟨by rw [hfrM_101 11 (by decide), up_ne hM_87q (by omega)]; exact q.1, by rw [hfrM_101 12 (by decide), up_ne hM_87q (by omega)]; exact q.2.1, fun z => by rw [hfrM_101 13 (by decide), up_ne hM_87q (by omega)]; exact q.2.2.1 z, by rw [hfrM_101 14 (by decide), up_ne hM_87q (by omega)]; exact q.2.2.2⟩
                  case i_hx =>
                    rw [hz119q, hz116q, hz115q]; exact BTS_y (by omega) hx (by show SO _ _ _ (((M 15 2).toNat : Nat) : Int) _; rw [show (((M 15 2).toNat : Nat) : Int) = M 15 2 by omega, ← hcbM_101, ← hso]; omega)
                  case i_m =>
                    omega
          refine aw_sub [4, 5, 6, 3, 2, 1, 0] rfl ?_
          refine lp76q _ _ _ _  ?i_h0 ?i_hf ?i_hs ?i_ha ?i_hx (Nat.lt_succ_self _)
          case i_h0 =>
            omega
          case i_hf =>
            exact hfrM_33.mono (by decide)
          case i_hs =>
            exact hs4M_33
          case i_ha =>
            exact fun i hi => ⟨(hsmM_33 i hi).1, (hsmM_33 i hi).2.1, fun _ => (hsmM_33 i hi).2.2.1, (hsmM_33 i hi).2.2.2⟩
          case i_hx =>
            exact BTS_0
    · have d19q := b2_y hz16q c19q
      refine aw_bipush (n := (-2)) cx dX6_was_22 (by decide) ?_
      refine aw_iret cx rt dX6_was_24 ?_
      exact ⟨-2, rfl, FR.rf, Or.inl ⟨by omega, rfl⟩⟩
set_option maxHeartbeats 1000000 in
set_option maxRecDepth 100000 in
theorem ct_X6_was_1 (tl : List CD) (M : Mem) (k : Int) : Ct 5 mX6_was (LB ++ tl) [aR 0, aI k, aI 1] M (fun r M1 => ∃ x, r = some (aI x) ∧ FR SC M M1 ∧ aWas (M 5 4) (fgT M) (qgT M) (M 0 13).toNat (M 27) (M 28) k 1 x) := by
  refine Ct.of (own := RX6) rfl (by decide +kernel) (Nat.le_of_ble_eq_true rfl) (fun X cx rt => ?_)
  refine aw_eq (loc2 := [(0, aR 0), (1, aI k), (2, aI 1)]) ?_ rfl rfl rfl rfl
  refine aw_rngL 1 rfl (fun rl_k rh_k => ?_)
  refine aw_ok (fun om => ?_)
  have hsz : 0 ≤ M 5 4 ∧ M 5 4 ≤ 12 := okF om (lb_5 tl) (j := 4) rfl (show (0 : Nat) ≠ 1 by decide)
  have hse : 0 ≤ M 18 3 ∧ M 18 3 ≤ 8 := okF om (lb_18 tl) (j := 3) rfl (show (0 : Nat) ≠ 1 by decide)
  have hcz : 0 ≤ M 15 2 ∧ M 15 2 ≤ 8 := okF om (lb_15 tl) (j := 2) rfl (show (0 : Nat) ≠ 1 by decide)
  have hNN : ∀ j, 0 ≤ M 6 j := fun j => (okA om (lb_6 tl) j).1
  have hal := all_bits hse
  refine aw_iload_n cx dX6_was_0 rfl 1 rfl ?_
  refine aw_aload_n cx dX6_was_1 rfl 0 rfl ?_
  refine aw_getR (q := 5) cx dX6_was_2 fl_X6_24 (lb_0 tl) rfl rfl ?_
  refine aw_getI cx dX6_was_5 fl_X6_105 (lb_5 tl) rfl (fun z5q hz5q lo_z5q hi_z5q => ?_)
  refine aw_callS (as := [aI k, aI z5q]) (stk := []) cx dX6_was_8 ml_X6_84 ms_X6_outside (by decide) rfl rfl (Nat.le_of_ble_eq_true rfl) (ct_X6_outside tl M _ _ ) (fun rr8q M_8q hp8q => ?_)
  obtain ⟨rfl, rfl⟩ := hp8q
  refine aw_top (stk := []) (fun z8q hz8q => ?_)
  refine aw_if_ne (tgt := 22) cx dX6_was_11 (by decide) (fun c11q => ?_) (fun c11q => ?_)
  · have d11q := b2_y hz8q c11q
    refine aw_bipush (n := (-2)) cx dX6_was_22 (by decide) ?_
    refine aw_iret cx rt dX6_was_24 ?_
    exact ⟨-2, rfl, FR.rf, Or.inl ⟨by omega, rfl⟩⟩
  · have d11q := b2_e0.mp (hz8q.symm.trans c11q)
    refine aw_iload_n cx dX6_was_14 rfl 2 rfl ?_
    refine aw_iconst (n := 2) cx dX6_was_15 (by decide) ?_
    refine aw_callS (as := [aI 1, aI 2]) (stk := []) cx dX6_was_16 ml_X6_84 ms_X6_outside (by decide) rfl rfl (Nat.le_of_ble_eq_true rfl) (ct_X6_outside tl M _ _ ) (fun rr16q M_16q hp16q => ?_)
    obtain ⟨rfl, rfl⟩ := hp16q
    refine aw_top (stk := []) (fun z16q hz16q => ?_)
    refine aw_if_eq (tgt := 25) cx dX6_was_19 (by decide) (fun c19q => ?_) (fun c19q => ?_)
    · have d19q := b2_e0.mp (hz16q.symm.trans c19q)
      refine aw_aload_n cx dX6_was_25 rfl 0 rfl ?_
      refine aw_getR (q := 10) cx dX6_was_26 fl_X6_28 (lb_0 tl) rfl rfl ?_
      refine aw_aload_n cx dX6_was_29 rfl 0 rfl ?_
      refine aw_getR (q := 5) cx dX6_was_30 fl_X6_24 (lb_0 tl) rfl rfl ?_
      refine aw_callV (as := [aR 5]) (k := 10) (stk := []) cx dX6_was_33 ml_X6_202 mv_X4_becomeLike rfl (lb_10 tl) (by decide) rfl rfl (Nat.le_of_ble_eq_true rfl) (ct_X4_becomeLike tl M  ) (fun rr33q M_33q hp33q => ?_)
      obtain ⟨rfl, hfrM_33, hs4M_33, hs5M_33, hsmM_33⟩ := hp33q
      refine aw_eq (stk2 := []) ?_ rfl rfl rfl rfl
      refine aw_iload_n cx dX6_was_36 rfl 2 rfl ?_
      refine aw_if_ne (tgt := 50) cx dX6_was_37 (by decide) (fun c37q => ?_) (fun c37q => ?_)
      · refine aw_aload_n cx dX6_was_50 rfl 0 rfl ?_
        refine aw_getR (q := 10) cx dX6_was_51 fl_X6_28 (lb_0 tl) rfl rfl ?_
        refine aw_getR (q := 14) cx dX6_was_54 fl_X6_115 (lb_10 tl) rfl rfl ?_
        refine aw_astore_n (loc2 := [(3, aR 14), (0, aR 0), (1, aI k), (2, aI 1)]) cx dX6_was_57 rfl (by decide) rfl ?_
        refine aw_iload_n cx dX6_was_58 rfl 3 rfl ?_
        refine aw_if_ne (tgt := 67) cx dX6_was_59 (by decide) (fun c59q => ?_) (fun c59q => ?_)
        · refine aw_iconst (n := 3) cx dX6_was_67 (by decide) ?_
          refine aw_istore (loc2 := [(4, aI 3), (3, aR 14), (0, aR 0), (1, aI k), (2, aI 1)]) cx dX6_was_68 (by decide) rfl ?_
          refine aw_iconst (n := 0) cx dX6_was_70 (by decide) ?_
          refine aw_istore (loc2 := [(5, aI 0), (4, aI 3), (3, aR 14), (0, aR 0), (1, aI k), (2, aI 1)]) cx dX6_was_71 (by decide) rfl ?_
          refine aw_iconst (n := 0) cx dX6_was_73 (by decide) ?_
          refine aw_istore (loc2 := [(6, aI 0), (5, aI 0), (4, aI 3), (3, aR 14), (0, aR 0), (1, aI k), (2, aI 1)]) cx dX6_was_74 (by decide) rfl ?_
          have lp76q : ∀ (fu : Nat) (x5q : Int) (x6q : Int) (N76q : Mem), (0 ≤ x6q ∧ x6q ≤ 3) → (FR SC M N76q) → (N76q 10 4 = M 5 4) → (∀ i, i < (M 5 4).toNat → N76q 11 i = M 6 i ∧ N76q 12 i = M 7 i ∧ N76q 13 i = M 8 i ∧ (i ≠ k.toNat → N76q 14 i = M 9 i)) → (BTS (fun v => SO (M 0 13).toNat (M 27) (M 28) ((qgT M).2.1 : Int) (fCB (-1) (setS (fgT M) k.toNat (v : Int)) (qgT M))) x6q.toNat x5q) → ((3 - x6q).toNat) < fu → AW X (LB ++ tl) 7 76 [(0, aR 0), (1, aI k), (2, aI 1), (3, aR 14), (4, aI 3), (5, aI x5q), (6, aI x6q)] [] N76q := by
            intro fu
            induction fu with
            | zero =>
              intro x5q x6q N76q h0q hf hs ha hx hm
              exact absurd hm (Nat.not_lt_zero _)
            | succ fu ih76q =>
              intro x5q x6q N76q h0q hf hs ha hx hm
              have g0 := hf 0 (by decide)
              have g5 := hf 5 (by decide)
              have g6 := hf 6 (by decide)
              have g7 := hf 7 (by decide)
              have g8 := hf 8 (by decide)
              have g9 := hf 9 (by decide)
              have g15 := hf 15 (by decide)
              have g16 := hf 16 (by decide)
              have g17 := hf 17 (by decide)
              have g18 := hf 18 (by decide)
              have g19 := hf 19 (by decide)
              have g20 := hf 20 (by decide)
              have g21 := hf 21 (by decide)
              have g183 := congrFun g18 3
              have g54 := congrFun g5 4
              have hqg := QG_fr g0 g15 g16 g17
              refine aw_iload cx dX6_was_76 6 rfl ?_
              refine aw_iload cx dX6_was_78 4 rfl ?_
              refine aw_icmp_ge (tgt := 125) cx dX6_was_80 (by decide) (fun c80q => ?_) (fun c80q => ?_)
              · refine aw_iload cx dX6_was_125 5 rfl ?_
                refine aw_iret cx rt dX6_was_127 ?_
                refine ⟨x5q, rfl, hf, Or.inr ⟨by omega, by omega, Or.inr ⟨rfl, ?_⟩⟩⟩
                rw [show x6q = 3 by omega] at hx; exact hx
              · refine aw_aload_n cx dX6_was_83 rfl 3 rfl ?_
                refine aw_iload_n cx dX6_was_84 rfl 1 rfl ?_
                refine aw_iload cx dX6_was_85 6 rfl ?_
                refine aw_iast cx dX6_was_87 (lb_14 tl) (⟨by omega, by omega⟩) (⟨by omega, by omega⟩) ?_
                obtain ⟨M_87q, hM_87q⟩ : ∃ q, q = up N76q 14 (Int.toNat (k)) (x6q) := ⟨_, rfl⟩
                rw [← hM_87q]
                refine aw_aload_n cx dX6_was_88 rfl 0 rfl ?_
                refine aw_aload_n cx dX6_was_89 rfl 0 rfl ?_
                refine aw_aload_n cx dX6_was_90 rfl 0 rfl ?_
                refine aw_getR (q := 10) cx dX6_was_91 fl_X6_28 (lb_0 tl) rfl rfl ?_
                refine aw_aload_n cx dX6_was_94 rfl 0 rfl ?_
                refine aw_getR (q := 18) cx dX6_was_95 fl_X6_41 (lb_0 tl) rfl rfl ?_
                refine aw_callV (as := []) (k := 18) (stk := [aR 10, aR 0, aR 0]) cx dX6_was_98 ml_X6_175 mv_X2_all rfl (lb_18 tl) (by decide) rfl rfl (Nat.le_of_ble_eq_true rfl) (ct_X2_all tl M_87q  ) (fun rr98q M_98q hp98q => ?_)
                obtain ⟨rfl, rfl⟩ := hp98q
                refine aw_top (stk := [aR 10, aR 0, aR 0]) (fun z98q hz98q => ?_)
                refine aw_callV (as := [aR 10, aI z98q]) (k := 0) (stk := [aR 0]) cx dX6_was_101 ml_X6_178 mv_X6_clearedBits rfl (lb_0 tl) (by decide) rfl rfl (Nat.le_of_ble_eq_true rfl) (ct_X6_clearedBits tl M_87q 10 _ (Or.inr rfl) (by rw [hz98q, up_ne hM_87q (by omega), g183]; omega)) (fun rr101q M_101q hp101q => ?_)
                obtain ⟨z101q, rfl, hfrM_101, hcbM_101, hxrM_101, hctM_101, hrnM_101, hkkM_101, htlM_101⟩ := hp101q
                refine aw_eq (stk2 := [aI z101q, aR 0]) ?_ rfl rfl rfl rfl
                rw [hz98q, up_ne hM_87q (by omega), g183] at hcbM_101 hrnM_101
                have hfe : FGe (fgH M_87q 10 (bShl 1 (M 18 3) - 1)) (setS (fgT M) k.toNat ((x6q.toNat : Nat) : Int)) := by
                  refine trial_f hse (by rw [hM_87q, up_off (by decide)]; exact g18) (by rw [hM_87q, up_off (by decide)]; exact g19) (by rw [hM_87q, up_off (by decide)]; exact g20) (by rw [hM_87q, up_off (by decide)]; exact g21) (by rw [up_ne hM_87q (by omega)]; exact hs) ⟨rfl, rfl, rfl, rfl, rfl⟩ (fun i hi => ?_)
                  have q := ha i hi
                  refine ⟨by rw [up_ne hM_87q (by omega)]; exact q.1, by rw [up_ne hM_87q (by omega)]; exact q.2.1, by rw [up_ne hM_87q (by omega)]; exact q.2.2.1, ?_⟩
                  show M_87q 14 i = up1 (M 9) k.toNat ((x6q.toNat : Nat) : Int) i
                  unfold up1
                  by_cases e : i = k.toNat
                  · rw [if_pos e, e, up_eq hM_87q]; omega
                  · rw [if_neg e, up_ne hM_87q (by omega)]; exact q.2.2.2 e
                have hq2 : qgT M_87q = qgT M := by rw [← hqg]; exact QG_fr (by rw [hM_87q, up_off (by decide)]) (by rw [hM_87q, up_off (by decide)]) (by rw [hM_87q, up_off (by decide)]) (by rw [hM_87q, up_off (by decide)])
                refine aw_ok (fun om7 => ?_)
                have hN7 : ∀ j, 0 ≤ M_87q 11 j := fun j => by rw [← hfrM_101 11 (by decide)]; exact (okA om7 (lb_11 tl) j).1
                rw [hq2, fCB_cg hfe QGe.rf hN7 (show (M 15 2).toNat ≤ 8 by omega) hrnM_101] at hcbM_101
                have hfS : FR SC M M_101q := (hf.put hM_87q (by decide)).tr hfrM_101 (by decide)
                refine aw_callV (as := [aI z101q]) (k := 0) (stk := []) cx dX6_was_104 ml_X6_220 mv_X6_comesOutSo rfl (lb_0 tl) (by decide) rfl rfl (Nat.le_of_ble_eq_true rfl) (ct_X6_comesOutSo tl M_101q _ (by omega)) (fun rr104q M_104q hp104q => ?_)
                obtain ⟨rfl, z104q, rfl, h01z104q, hsoz104⟩ := hp104q
                refine aw_eq (stk2 := [aI z104q]) ?_ rfl rfl rfl rfl
                have hso : z104q = 1 ↔ SO (M 0 13).toNat (M 27) (M 28) (M 15 2) z101q := by have q := hsoz104; rw [hfS 0 (by decide), hfS 15 (by decide), hfS 27 (by decide), hfS 28 (by decide)] at q; exact q
                refine aw_if_eq (tgt := 119) cx dX6_was_107 (by decide) (fun c107q => ?_) (fun c107q => ?_)
                · refine aw_iinc cx dX6_was_119 6 rfl (by decide) (by omega) (fun z119q hz119q => ?_)
                  refine aw_loc (loc2 := [(6, aI z119q), (0, aR 0), (1, aI k), (2, aI 1), (3, aR 14), (4, aI 3), (5, aI x5q)]) rfl ?_
                  refine aw_goto (tgt := 76) cx dX6_was_122 (by decide) ?_
                  refine aw_sub [1, 2, 3, 4, 5, 6, 0] rfl ?_
                  refine ih76q _ _ _  ?i_h0 ?i_hf ?i_hs ?i_ha ?i_hx ?i_m
                  case i_h0 =>
                    omega
                  case i_hf =>
                    exact hfS
                  case i_hs =>
                    rw [hfrM_101 10 (by decide), up_ne hM_87q (by omega)]; exact hs
                  case i_ha =>
                    intro i hi
                    have q := ha i hi
                    exact ⟨by rw [hfrM_101 11 (by decide), up_ne hM_87q (by omega)]; exact q.1, by rw [hfrM_101 12 (by decide), up_ne hM_87q (by omega)]; exact q.2.1, by rw [hfrM_101 13 (by decide), up_ne hM_87q (by omega)]; exact q.2.2.1, fun z => by rw [hfrM_101 14 (by decide), up_ne hM_87q (by omega)]; exact q.2.2.2 z⟩
                  case i_hx =>
                    rw [hz119q]; exact BTS_n (by omega) hx (by show ¬ SO _ _ _ (((M 15 2).toNat : Nat) : Int) _; rw [show (((M 15 2).toNat : Nat) : Int) = M 15 2 by omega, ← hcbM_101, ← hso]; omega)
                  case i_m =>
                    omega
                · refine aw_iload cx dX6_was_110 5 rfl ?_
                  refine aw_iconst (n := 1) cx dX6_was_112 (by decide) ?_
                  refine aw_iload cx dX6_was_113 6 rfl ?_
                  refine aw_ishl cx dX6_was_115 (fun z115q hz115q => ?_)
                  refine aw_ior cx dX6_was_116 (fun z116q hz116q => ?_)
                  refine aw_istore (loc2 := [(5, aI z116q), (0, aR 0), (1, aI k), (2, aI 1), (3, aR 14), (4, aI 3), (6, aI x6q)]) cx dX6_was_117 (by decide) rfl ?_
                  refine aw_iinc cx dX6_was_119 6 rfl (by decide) (by omega) (fun z119q hz119q => ?_)
                  refine aw_loc (loc2 := [(6, aI z119q), (5, aI z116q), (0, aR 0), (1, aI k), (2, aI 1), (3, aR 14), (4, aI 3)]) rfl ?_
                  refine aw_goto (tgt := 76) cx dX6_was_122 (by decide) ?_
                  refine aw_sub [2, 3, 4, 5, 6, 1, 0] rfl ?_
                  refine ih76q _ _ _  ?i_h0 ?i_hf ?i_hs ?i_ha ?i_hx ?i_m
                  case i_h0 =>
                    omega
                  case i_hf =>
                    exact hfS
                  case i_hs =>
                    rw [hfrM_101 10 (by decide), up_ne hM_87q (by omega)]; exact hs
                  case i_ha =>
                    intro i hi
                    have q := ha i hi
                    exact ⟨by rw [hfrM_101 11 (by decide), up_ne hM_87q (by omega)]; exact q.1, by rw [hfrM_101 12 (by decide), up_ne hM_87q (by omega)]; exact q.2.1, by rw [hfrM_101 13 (by decide), up_ne hM_87q (by omega)]; exact q.2.2.1, fun z => by rw [hfrM_101 14 (by decide), up_ne hM_87q (by omega)]; exact q.2.2.2 z⟩
                  case i_hx =>
                    rw [hz119q, hz116q, hz115q]; exact BTS_y (by omega) hx (by show SO _ _ _ (((M 15 2).toNat : Nat) : Int) _; rw [show (((M 15 2).toNat : Nat) : Int) = M 15 2 by omega, ← hcbM_101, ← hso]; omega)
                  case i_m =>
                    omega
          refine aw_sub [4, 5, 6, 3, 2, 1, 0] rfl ?_
          refine lp76q _ _ _ _  ?i_h0 ?i_hf ?i_hs ?i_ha ?i_hx (Nat.lt_succ_self _)
          case i_h0 =>
            omega
          case i_hf =>
            exact hfrM_33.mono (by decide)
          case i_hs =>
            exact hs4M_33
          case i_ha =>
            exact fun i hi => ⟨(hsmM_33 i hi).1, (hsmM_33 i hi).2.1, (hsmM_33 i hi).2.2.1, fun _ => (hsmM_33 i hi).2.2.2⟩
          case i_hx =>
            exact BTS_0
        · exact absurd c59q (by decide)
      · exact absurd c37q (by decide)
    · have d19q := b2_y hz16q c19q
      refine aw_bipush (n := (-2)) cx dX6_was_22 (by decide) ?_
      refine aw_iret cx rt dX6_was_24 ?_
      exact ⟨-2, rfl, FR.rf, Or.inl ⟨by omega, rfl⟩⟩
set_option maxHeartbeats 1000000 in
set_option maxRecDepth 100000 in
theorem ct_X6_was_x (tl : List CD) (M : Mem) (k what : Int) (hwx : what < 0 ∨ 1 < what) : Ct 5 mX6_was (LB ++ tl) [aR 0, aI k, aI what] M (fun r M1 => ∃ x, r = some (aI x) ∧ FR SC M M1 ∧ aWas (M 5 4) (fgT M) (qgT M) (M 0 13).toNat (M 27) (M 28) k what x) := by
  refine Ct.of (own := RX6) rfl (by decide +kernel) (Nat.le_of_ble_eq_true rfl) (fun X cx rt => ?_)
  refine aw_eq (loc2 := [(0, aR 0), (1, aI k), (2, aI what)]) ?_ rfl rfl rfl rfl
  refine aw_rngL 1 rfl (fun rl_k rh_k => ?_)
  refine aw_rngL 2 rfl (fun rl_what rh_what => ?_)
  refine aw_ok (fun om => ?_)
  have hsz : 0 ≤ M 5 4 ∧ M 5 4 ≤ 12 := okF om (lb_5 tl) (j := 4) rfl (show (0 : Nat) ≠ 1 by decide)
  refine aw_iload_n cx dX6_was_0 rfl 1 rfl ?_
  refine aw_aload_n cx dX6_was_1 rfl 0 rfl ?_
  refine aw_getR (q := 5) cx dX6_was_2 fl_X6_24 (lb_0 tl) rfl rfl ?_
  refine aw_getI cx dX6_was_5 fl_X6_105 (lb_5 tl) rfl (fun z5q hz5q lo_z5q hi_z5q => ?_)
  refine aw_callS (as := [aI k, aI z5q]) (stk := []) cx dX6_was_8 ml_X6_84 ms_X6_outside (by decide) rfl rfl (Nat.le_of_ble_eq_true rfl) (ct_X6_outside tl M _ _ ) (fun rr8q M_8q hp8q => ?_)
  obtain ⟨rfl, rfl⟩ := hp8q
  refine aw_top (stk := []) (fun z8q hz8q => ?_)
  refine aw_if_ne (tgt := 22) cx dX6_was_11 (by decide) (fun c11q => ?_) (fun c11q => ?_)
  · have d11q := b2_y hz8q c11q
    refine aw_bipush (n := (-2)) cx dX6_was_22 (by decide) ?_
    refine aw_iret cx rt dX6_was_24 ?_
    exact ⟨-2, rfl, FR.rf, Or.inl ⟨by omega, rfl⟩⟩
  · have d11q := b2_e0.mp (hz8q.symm.trans c11q)
    refine aw_iload_n cx dX6_was_14 rfl 2 rfl ?_
    refine aw_iconst (n := 2) cx dX6_was_15 (by decide) ?_
    refine aw_callS (as := [aI what, aI 2]) (stk := []) cx dX6_was_16 ml_X6_84 ms_X6_outside (by decide) rfl rfl (Nat.le_of_ble_eq_true rfl) (ct_X6_outside tl M _ _ ) (fun rr16q M_16q hp16q => ?_)
    obtain ⟨rfl, rfl⟩ := hp16q
    refine aw_top (stk := []) (fun z16q hz16q => ?_)
    refine aw_if_eq (tgt := 25) cx dX6_was_19 (by decide) (fun c19q => ?_) (fun c19q => ?_)
    · exfalso
      have d19q := b2_e0.mp (hz16q.symm.trans c19q)
      omega
    · have d19q := b2_y hz16q c19q
      refine aw_bipush (n := (-2)) cx dX6_was_22 (by decide) ?_
      refine aw_iret cx rt dX6_was_24 ?_
      exact ⟨-2, rfl, FR.rf, Or.inl ⟨by omega, rfl⟩⟩
set_option maxHeartbeats 1000000 in
set_option maxRecDepth 100000 in
theorem ct_X6_addToTally (tl : List CD) (M : Mem) (b : Int) (hb : 0 ≤ b ∧ b < 2147483648) (ht : ∀ c, c < 8 → M 30 c ≤ 9) : Ct 0 mX6_addToTally (LB ++ tl) [aR 0, aI b] M (fun r M1 => r = none ∧ FR [30] M M1 ∧ ∀ c, c < 8 → M1 30 c = M 30 c + b2 (BT b c)) := by
  refine Ct.of (own := RX6) rfl (by decide +kernel) (Nat.le_of_ble_eq_true rfl) (fun X cx rt => ?_)
  refine aw_eq (loc2 := [(0, aR 0), (1, aI b)]) ?_ rfl rfl rfl rfl
  refine aw_rngL 1 rfl (fun rl_b rh_b => ?_)
  refine aw_iconst (n := 0) cx dX6_addToTally_0 (by decide) ?_
  refine aw_istore_n (loc2 := [(2, aI 0), (0, aR 0), (1, aI b)]) cx dX6_addToTally_1 rfl (by decide) rfl ?_
  have lp2q : ∀ (fu : Nat) (x2q : Int) (N2q : Mem), (0 ≤ x2q ∧ x2q ≤ 8) → (FR [30] M N2q) → (∀ c, c < x2q.toNat → N2q 30 c = M 30 c + b2 (BT b c)) → (∀ c, x2q.toNat ≤ c → N2q 30 c = M 30 c) → ((8 - x2q).toNat) < fu → AW X (LB ++ tl) 3 2 [(0, aR 0), (1, aI b), (2, aI x2q)] [] N2q := by
    intro fu
    induction fu with
    | zero =>
      intro x2q N2q h0q hf ha hz hm
      exact absurd hm (Nat.not_lt_zero _)
    | succ fu ih2q =>
      intro x2q N2q h0q hf ha hz hm
      refine aw_iload_n cx dX6_addToTally_2 rfl 2 rfl ?_
      refine aw_bipush (n := 8) cx dX6_addToTally_3 (by decide) ?_
      refine aw_icmp_ge (tgt := 28) cx dX6_addToTally_5 (by decide) (fun c5q => ?_) (fun c5q => ?_)
      · refine aw_vret cx rt dX6_addToTally_28 ?_
        exact ⟨rfl, hf, fun c hc => ha c (by omega)⟩
      · refine aw_aload_n cx dX6_addToTally_8 rfl 0 rfl ?_
        refine aw_getR (q := 30) cx dX6_addToTally_9 fl_X6_67 (lb_0 tl) rfl rfl ?_
        refine aw_iload_n cx dX6_addToTally_12 rfl 2 rfl ?_
        refine aw_dup2 cx dX6_addToTally_13 rfl rfl ?_
        refine aw_iald cx dX6_addToTally_14 (lb_30 tl) (⟨by omega, by omega⟩) (fun z14q hz14q lo_z14q hi_z14q => ?_)
        refine aw_iload_n cx dX6_addToTally_15 rfl 1 rfl ?_
        refine aw_iload_n cx dX6_addToTally_16 rfl 2 rfl ?_
        refine aw_ishr cx dX6_addToTally_17 (fun z17q hz17q => ?_)
        refine aw_iconst (n := 1) cx dX6_addToTally_18 (by decide) ?_
        refine aw_iand cx dX6_addToTally_19 (fun z19q hz19q => ?_)
        have hb19 : z19q = b2 (BT b x2q.toNat) := by rw [hz19q, hz17q]; exact isbit hb (by omega)
        have hbi := b2_in (BT b x2q.toNat)
        have ht2 := ht x2q.toNat (by omega)
        have hz2q := hz x2q.toNat (Nat.le_refl _)
        refine aw_iadd cx dX6_addToTally_20 (by omega) (fun z20q hz20q => ?_)
        refine aw_iast cx dX6_addToTally_21 (lb_30 tl) (⟨by omega, by omega⟩) (⟨by omega, by omega⟩) ?_
        obtain ⟨M_21q, hM_21q⟩ : ∃ q, q = up N2q 30 (Int.toNat (x2q)) (z20q) := ⟨_, rfl⟩
        rw [← hM_21q]
        refine aw_iinc cx dX6_addToTally_22 2 rfl (by decide) (by omega) (fun z22q hz22q => ?_)
        refine aw_loc (loc2 := [(2, aI z22q), (0, aR 0), (1, aI b)]) rfl ?_
        refine aw_goto (tgt := 2) cx dX6_addToTally_25 (by decide) ?_
        refine aw_sub [1, 2, 0] rfl ?_
        refine ih2q _ _  ?i_h0 ?i_hf ?i_ha ?i_hz ?i_m
        case i_h0 =>
          omega
        case i_hf =>
          exact hf.put hM_21q (by decide)
        case i_ha =>
          rw [hz22q]; refine row_s (g := fun c => M 30 c + b2 (BT b c)) h0q.1 hM_21q ha ?_; rw [hz20q, hb19, hz14q, hz x2q.toNat (Nat.le_refl _)]
        case i_hz =>
          intro c hc; rw [up_ne hM_21q (by omega)]; exact hz c (by omega)
        case i_m =>
          omega
  refine aw_sub [1, 2, 0] rfl ?_
  refine lp2q _ _ _  ?i_h0 ?i_hf ?i_ha ?i_hz (Nat.lt_succ_self _)
  case i_h0 =>
    omega
  case i_hf =>
    exact FR.rf
  case i_ha =>
    exact all_0
  case i_hz =>
    exact fun _ _ => rfl
set_option maxHeartbeats 1000000 in
set_option maxRecDepth 100000 in
theorem ct_X6_ask (tl : List CD) (M : Mem) (k : Int) : Ct 5 mX6_ask (LB ++ tl) [aR 0, aI k] M (fun r M1 => ∃ x, r = some (aI x) ∧ FR SC M M1 ∧ aAsk (M 5 4) (fgT M) (qgT M) (M 0 13).toNat (M 27) (M 28) k x) := by
  refine Ct.of (own := RX6) rfl (by decide +kernel) (Nat.le_of_ble_eq_true rfl) (fun X cx rt => ?_)
  refine aw_eq (loc2 := [(0, aR 0), (1, aI k)]) ?_ rfl rfl rfl rfl
  refine aw_rngL 1 rfl (fun rl_k rh_k => ?_)
  refine aw_ok (fun om => ?_)
  have hsz : 0 ≤ M 5 4 ∧ M 5 4 ≤ 12 := okF om (lb_5 tl) (j := 4) rfl (show (0 : Nat) ≠ 1 by decide)
  have hse : 0 ≤ M 18 3 ∧ M 18 3 ≤ 8 := okF om (lb_18 tl) (j := 3) rfl (show (0 : Nat) ≠ 1 by decide)
  have hcz : 0 ≤ M 15 2 ∧ M 15 2 ≤ 8 := okF om (lb_15 tl) (j := 2) rfl (show (0 : Nat) ≠ 1 by decide)
  have hNN : ∀ j, 0 ≤ M 6 j := fun j => (okA om (lb_6 tl) j).1
  have hal := all_bits hse
  refine aw_iload_n cx dX6_ask_0 rfl 1 rfl ?_
  refine aw_aload_n cx dX6_ask_1 rfl 0 rfl ?_
  refine aw_getR (q := 5) cx dX6_ask_2 fl_X6_24 (lb_0 tl) rfl rfl ?_
  refine aw_getI cx dX6_ask_5 fl_X6_105 (lb_5 tl) rfl (fun z5q hz5q lo_z5q hi_z5q => ?_)
  refine aw_callS (as := [aI k, aI z5q]) (stk := []) cx dX6_ask_8 ml_X6_84 ms_X6_outside (by decide) rfl rfl (Nat.le_of_ble_eq_true rfl) (ct_X6_outside tl M _ _ ) (fun rr8q M_8q hp8q => ?_)
  obtain ⟨rfl, rfl⟩ := hp8q
  refine aw_top (stk := []) (fun z8q hz8q => ?_)
  refine aw_if_eq (tgt := 17) cx dX6_ask_11 (by decide) (fun c11q => ?_) (fun c11q => ?_)
  · have d11q := b2_e0.mp (hz8q.symm.trans c11q)
    refine aw_aload_n cx dX6_ask_17 rfl 0 rfl ?_
    refine aw_getR (q := 10) cx dX6_ask_18 fl_X6_28 (lb_0 tl) rfl rfl ?_
    refine aw_aload_n cx dX6_ask_21 rfl 0 rfl ?_
    refine aw_getR (q := 5) cx dX6_ask_22 fl_X6_24 (lb_0 tl) rfl rfl ?_
    refine aw_callV (as := [aR 5]) (k := 10) (stk := []) cx dX6_ask_25 ml_X6_202 mv_X4_becomeLike rfl (lb_10 tl) (by decide) rfl rfl (Nat.le_of_ble_eq_true rfl) (ct_X4_becomeLike tl M  ) (fun rr25q M_25q hp25q => ?_)
    obtain ⟨rfl, hfrM_25, hs4M_25, hs5M_25, hsmM_25⟩ := hp25q
    refine aw_eq (stk2 := []) ?_ rfl rfl rfl rfl
    refine aw_aload_n cx dX6_ask_28 rfl 0 rfl ?_
    refine aw_getR (q := 30) cx dX6_ask_29 fl_X6_67 (lb_0 tl) rfl rfl ?_
    refine aw_iconst (n := 0) cx dX6_ask_32 (by decide) ?_
    refine aw_callS (as := [aR 30, aI 0]) (stk := []) cx dX6_ask_33 ml_X6_223 ms_J7_fill_53178 (by decide) rfl rfl (Nat.le_of_ble_eq_true rfl) (ct_J7_fill_53178 tl M_25q _ _ _ _ (lb_30 tl) (⟨by decide, by decide⟩)) (fun rr33q M_33q hp33q => ?_)
    obtain ⟨rfl, hfrM_33, hflM_33⟩ := hp33q
    refine aw_eq (stk2 := []) ?_ rfl rfl rfl rfl
    refine aw_iconst (n := 0) cx dX6_ask_36 (by decide) ?_
    refine aw_istore_n (loc2 := [(2, aI 0), (0, aR 0), (1, aI k)]) cx dX6_ask_37 rfl (by decide) rfl ?_
    refine aw_iconst (n := 0) cx dX6_ask_38 (by decide) ?_
    refine aw_istore_n (loc2 := [(3, aI 0), (2, aI 0), (0, aR 0), (1, aI k)]) cx dX6_ask_39 rfl (by decide) rfl ?_
    have lp40q : ∀ (fu : Nat) (x2q : Int) (x3q : Int) (N40q : Mem), (0 ≤ x3q ∧ x3q ≤ 10) → (FR SC M N40q) → (N40q 10 4 = M 5 4) → (∀ i, i < (M 5 4).toNat → N40q 11 i = M 6 i ∧ N40q 12 i = M 7 i ∧ (i ≠ k.toNat → N40q 13 i = M 8 i) ∧ N40q 14 i = M 9 i) → (x2q = fFT (fWP (fgT M) (qgT M) (M 0 13).toNat (M 27) (M 28) k.toNat) x3q.toNat) → (∀ c, c < 8 → N40q 30 c = fTL (fWP (fgT M) (qgT M) (M 0 13).toNat (M 27) (M 28) k.toNat) (fWB (fgT M) (qgT M) k.toNat) x3q.toNat c) → ((10 - x3q).toNat) < fu → AW X (LB ++ tl) 7 40 [(0, aR 0), (1, aI k), (2, aI x2q), (3, aI x3q)] [] N40q := by
      intro fu
      induction fu with
      | zero =>
        intro x2q x3q N40q h0q hf hs ha hx hy hm
        exact absurd hm (Nat.not_lt_zero _)
      | succ fu ih40q =>
        intro x2q x3q N40q h0q hf hs ha hx hy hm
        have g0 := hf 0 (by decide)
        have g5 := hf 5 (by decide)
        have g6 := hf 6 (by decide)
        have g7 := hf 7 (by decide)
        have g8 := hf 8 (by decide)
        have g9 := hf 9 (by decide)
        have g15 := hf 15 (by decide)
        have g16 := hf 16 (by decide)
        have g17 := hf 17 (by decide)
        have g18 := hf 18 (by decide)
        have g19 := hf 19 (by decide)
        have g20 := hf 20 (by decide)
        have g21 := hf 21 (by decide)
        have g183 := congrFun g18 3
        have g54 := congrFun g5 4
        have hqg := QG_fr g0 g15 g16 g17
        have hft := fTL_in (fWP (fgT M) (qgT M) (M 0 13).toNat (M 27) (M 28) k.toNat) (fWB (fgT M) (qgT M) k.toNat) x3q.toNat 0
        refine aw_iload_n cx dX6_ask_40 rfl 3 rfl ?_
        refine aw_bipush (n := 10) cx dX6_ask_41 (by decide) ?_
        refine aw_icmp_ge (tgt := 97) cx dX6_ask_43 (by decide) (fun c43q => ?_) (fun c43q => ?_)
        · have hx10 : x3q = 10 := by omega
          rw [hx10] at hx hy
          have hft2 := fTL_in (fWP (fgT M) (qgT M) (M 0 13).toNat (M 27) (M 28) k.toNat) (fWB (fgT M) (qgT M) k.toNat) 10 0
          have hx0 : x2q = fFT (fWP (fgT M) (qgT M) (M 0 13).toNat (M 27) (M 28) k.toNat) 10 := hx
          refine aw_iconst (n := 0) cx dX6_ask_97 (by decide) ?_
          refine aw_istore_n (loc2 := [(3, aI 0), (0, aR 0), (1, aI k), (2, aI x2q)]) cx dX6_ask_98 rfl (by decide) rfl ?_
          refine aw_iload_n cx dX6_ask_99 rfl 3 rfl ?_
          refine aw_iconst (n := 1) cx dX6_ask_100 (by decide) ?_
          refine aw_iadd cx dX6_ask_101 (by omega) (fun z101q hz101q => ?_)
          refine aw_istore (loc2 := [(4, aI z101q), (3, aI 0), (0, aR 0), (1, aI k), (2, aI x2q)]) cx dX6_ask_102 (by decide) rfl ?_
          refine aw_iconst (n := 0) cx dX6_ask_104 (by decide) ?_
          refine aw_istore (loc2 := [(5, aI 0), (4, aI z101q), (3, aI 0), (0, aR 0), (1, aI k), (2, aI x2q)]) cx dX6_ask_105 (by decide) rfl ?_
          have lp107q : ∀ (fu : Nat) (x3q : Int) (x4q : Int) (x5q : Int), (0 ≤ x5q ∧ x5q ≤ 8) → ((x5q = 0 ∧ x4q = x2q + 1) ∨ AMN (fAL (fWP (fgT M) (qgT M) (M 0 13).toNat (M 27) (M 28) k.toNat) (fWB (fgT M) (qgT M) k.toNat)) x5q.toNat x3q x4q) → (-2147483648 ≤ x3q ∧ x3q ≤ 8) → ((8 - x5q).toNat) < fu → AW X (LB ++ tl) 7 107 [(0, aR 0), (1, aI k), (2, aI x2q), (3, aI x3q), (4, aI x4q), (5, aI x5q)] [] N40q := by
            intro fu
            induction fu with
            | zero =>
              intro x3q x4q x5q h1q hm1 hxx hm
              exact absurd hm (Nat.not_lt_zero _)
            | succ fu ih107q =>
              intro x3q x4q x5q h1q hm1 hxx hm
              refine aw_iload cx dX6_ask_107 5 rfl ?_
              refine aw_bipush (n := 8) cx dX6_ask_109 (by decide) ?_
              refine aw_icmp_ge (tgt := 155) cx dX6_ask_111 (by decide) (fun c111q => ?_) (fun c111q => ?_)
              · refine aw_iload_n cx dX6_ask_155 rfl 3 rfl ?_
                refine aw_iret cx rt dX6_ask_156 ?_
                refine ⟨x3q, rfl, hf, Or.inr ⟨by omega, by omega, x4q, ?_⟩⟩
                rcases hm1 with ⟨q1q, q2q⟩ | q
                · exact absurd q1q (by omega)
                · rw [show x5q = 8 by omega] at q; exact q
              · refine aw_aload_n cx dX6_ask_114 rfl 0 rfl ?_
                refine aw_getR (q := 30) cx dX6_ask_115 fl_X6_67 (lb_0 tl) rfl rfl ?_
                refine aw_iload cx dX6_ask_118 5 rfl ?_
                refine aw_iald cx dX6_ask_120 (lb_30 tl) (⟨by omega, by omega⟩) (fun z120q hz120q lo_z120q hi_z120q => ?_)
                have hft3 := fTL_in (fWP (fgT M) (qgT M) (M 0 13).toNat (M 27) (M 28) k.toNat) (fWB (fgT M) (qgT M) k.toNat) 10 x5q.toNat
                have hy3 : N40q 30 x5q.toNat = fTL (fWP (fgT M) (qgT M) (M 0 13).toNat (M 27) (M 28) k.toNat) (fWB (fgT M) (qgT M) k.toNat) 10 x5q.toNat := hy x5q.toNat (by omega)
                refine aw_iload_n cx dX6_ask_121 rfl 2 rfl ?_
                refine aw_aload_n cx dX6_ask_122 rfl 0 rfl ?_
                refine aw_getR (q := 30) cx dX6_ask_123 fl_X6_67 (lb_0 tl) rfl rfl ?_
                refine aw_iload cx dX6_ask_126 5 rfl ?_
                refine aw_iald cx dX6_ask_128 (lb_30 tl) (⟨by omega, by omega⟩) (fun z128q hz128q lo_z128q hi_z128q => ?_)
                refine aw_isub cx dX6_ask_129 (by omega) (fun z129q hz129q => ?_)
                refine aw_mmax (stk := []) cx dX6_ask_130 ml_X6_160 (by decide) (Nat.le_of_ble_eq_true rfl) (fun z130q hz130q => ?_)
                refine aw_istore (loc2 := [(6, aI z130q), (0, aR 0), (1, aI k), (2, aI x2q), (3, aI x3q), (4, aI x4q), (5, aI x5q)]) cx dX6_ask_133 (by decide) rfl ?_
                have hal2 : z130q = fAL (fWP (fgT M) (qgT M) (M 0 13).toNat (M 27) (M 28) k.toNat) (fWB (fgT M) (qgT M) k.toNat) x5q.toNat := by unfold fAL; rw [hz130q, hz129q, hz128q, hz120q, hy3, hx0]
                refine aw_iload cx dX6_ask_135 0 rfl ?_
                refine aw_iload cx dX6_ask_137 5 rfl ?_
                refine aw_icmp_ge (tgt := 149) cx dX6_ask_139 (by decide) (fun c139q => ?_) (fun c139q => ?_)
                · refine aw_iinc cx dX6_ask_149 6 rfl (by decide) (by omega) (fun z149q hz149q => ?_)
                  refine aw_loc (loc2 := [(5, aI z149q), (6, aI z130q), (0, aR 0), (1, aI k), (2, aI x2q), (3, aI x3q), (4, aI x4q)]) rfl ?_
                  refine aw_goto (tgt := 107) cx dX6_ask_152 (by decide) ?_
                  refine aw_sub [2, 3, 4, 5, 6, 0] rfl ?_
                  refine ih107q _ _ _  ?i_h1 ?i_hm1 ?i_hxx ?i_m
                  case i_h1 =>
                    omega
                  case i_hm1 =>
                    rw [hz149q]; rcases hm1 with ⟨q1q, q2q⟩ | q
                    · exact absurd q2q (by omega)
                    · exact Or.inr (AMN_no h1q.1 q (by rw [← hal2]; omega))
                  case i_hxx =>
                    omega
                  case i_m =>
                    omega
                · refine aw_iload cx dX6_ask_142 6 rfl ?_
                  refine aw_istore_n (loc2 := [(3, aI x5q), (6, aI z130q), (0, aR 0), (1, aI k), (2, aI x2q), (4, aI x4q), (5, aI x5q)]) cx dX6_ask_144 rfl (by decide) rfl ?_
                  refine aw_iload cx dX6_ask_145 1 rfl ?_
                  refine aw_istore (loc2 := [(4, aI z130q), (3, aI x5q), (6, aI z130q), (0, aR 0), (1, aI k), (2, aI x2q), (5, aI x5q)]) cx dX6_ask_147 (by decide) rfl ?_
                  refine aw_iinc cx dX6_ask_149 6 rfl (by decide) (by omega) (fun z149q hz149q => ?_)
                  refine aw_loc (loc2 := [(5, aI z149q), (4, aI z130q), (3, aI x5q), (6, aI z130q), (0, aR 0), (1, aI k), (2, aI x2q)]) rfl ?_
                  refine aw_goto (tgt := 107) cx dX6_ask_152 (by decide) ?_
                  refine aw_sub [4, 5, 6, 2, 1, 0] rfl ?_
                  refine ih107q _ _ _  ?i_h1 ?i_hm1 ?i_hxx ?i_m
                  case i_h1 =>
                    omega
                  case i_hm1 =>
                    rw [hz149q, hal2]; rcases hm1 with ⟨q1q, q2q⟩ | q
                    · exact Or.inr (AMN_1 q1q)
                    · exact Or.inr (AMN_up h1q.1 q (by rw [← hal2]; omega))
                  case i_hxx =>
                    omega
                  case i_m =>
                    omega
          refine aw_sub [3, 4, 5, 2, 1, 0] rfl ?_
          refine lp107q _ _ _ _  ?i_h1 ?i_hm1 ?i_hxx (Nat.lt_succ_self _)
          case i_h1 =>
            omega
          case i_hm1 =>
            exact Or.inl ⟨rfl, by omega⟩
          case i_hxx =>
            omega
        · refine aw_aload_n cx dX6_ask_46 rfl 0 rfl ?_
          refine aw_getR (q := 10) cx dX6_ask_47 fl_X6_28 (lb_0 tl) rfl rfl ?_
          refine aw_getR (q := 13) cx dX6_ask_50 fl_X6_112 (lb_10 tl) rfl rfl ?_
          refine aw_iload_n cx dX6_ask_53 rfl 1 rfl ?_
          refine aw_iload_n cx dX6_ask_54 rfl 3 rfl ?_
          refine aw_iast cx dX6_ask_55 (lb_13 tl) (⟨by omega, by omega⟩) (⟨by omega, by omega⟩) ?_
          obtain ⟨M_55q, hM_55q⟩ : ∃ q, q = up N40q 13 (Int.toNat (k)) (x3q) := ⟨_, rfl⟩
          rw [← hM_55q]
          refine aw_aload_n cx dX6_ask_56 rfl 0 rfl ?_
          refine aw_aload_n cx dX6_ask_57 rfl 0 rfl ?_
          refine aw_getR (q := 10) cx dX6_ask_58 fl_X6_28 (lb_0 tl) rfl rfl ?_
          refine aw_aload_n cx dX6_ask_61 rfl 0 rfl ?_
          refine aw_getR (q := 18) cx dX6_ask_62 fl_X6_41 (lb_0 tl) rfl rfl ?_
          refine aw_callV (as := []) (k := 18) (stk := [aR 10, aR 0]) cx dX6_ask_65 ml_X6_175 mv_X2_all rfl (lb_18 tl) (by decide) rfl rfl (Nat.le_of_ble_eq_true rfl) (ct_X2_all tl M_55q  ) (fun rr65q M_65q hp65q => ?_)
          obtain ⟨rfl, rfl⟩ := hp65q
          refine aw_top (stk := [aR 10, aR 0]) (fun z65q hz65q => ?_)
          refine aw_callV (as := [aR 10, aI z65q]) (k := 0) (stk := []) cx dX6_ask_68 ml_X6_178 mv_X6_clearedBits rfl (lb_0 tl) (by decide) rfl rfl (Nat.le_of_ble_eq_true rfl) (ct_X6_clearedBits tl M_55q 10 _ (Or.inr rfl) (by rw [hz65q, up_ne hM_55q (by omega), g183]; omega)) (fun rr68q M_68q hp68q => ?_)
          obtain ⟨z68q, rfl, hfrM_68, hcbM_68, hxrM_68, hctM_68, hrnM_68, hkkM_68, htlM_68⟩ := hp68q
          refine aw_eq (stk2 := [aI z68q]) ?_ rfl rfl rfl rfl
          rw [hz65q, up_ne hM_55q (by omega), g183] at hcbM_68 hrnM_68
          have hfe : FGe (fgH M_55q 10 (bShl 1 (M 18 3) - 1)) (setW (fgT M) k.toNat ((x3q.toNat : Nat) : Int)) := by
            refine trial_f hse (by rw [hM_55q, up_off (by decide)]; exact g18) (by rw [hM_55q, up_off (by decide)]; exact g19) (by rw [hM_55q, up_off (by decide)]; exact g20) (by rw [hM_55q, up_off (by decide)]; exact g21) (by rw [up_ne hM_55q (by omega)]; exact hs) ⟨rfl, rfl, rfl, rfl, rfl⟩ (fun i hi => ?_)
            have q := ha i hi
            refine ⟨by rw [up_ne hM_55q (by omega)]; exact q.1, by rw [up_ne hM_55q (by omega)]; exact q.2.1, ?_, by rw [up_ne hM_55q (by omega)]; exact q.2.2.2⟩
            show M_55q 13 i = up1 (M 8) k.toNat ((x3q.toNat : Nat) : Int) i
            unfold up1
            by_cases e : i = k.toNat
            · rw [if_pos e, e, up_eq hM_55q]; omega
            · rw [if_neg e, up_ne hM_55q (by omega)]; exact q.2.2.1 e
          have hq2 : qgT M_55q = qgT M := by rw [← hqg]; exact QG_fr (by rw [hM_55q, up_off (by decide)]) (by rw [hM_55q, up_off (by decide)]) (by rw [hM_55q, up_off (by decide)]) (by rw [hM_55q, up_off (by decide)])
          refine aw_ok (fun om7 => ?_)
          have hN7 : ∀ j, 0 ≤ M_55q 11 j := fun j => by rw [← hfrM_68 11 (by decide)]; exact (okA om7 (lb_11 tl) j).1
          rw [hq2, fCB_cg hfe QGe.rf hN7 (show (M 15 2).toNat ≤ 8 by omega) hrnM_68] at hcbM_68
          have hfS : FR SC M M_68q := (hf.put hM_55q (by decide)).tr hfrM_68 (by decide)
          have hcb2 : z68q = fWB (fgT M) (qgT M) k.toNat x3q.toNat := hcbM_68
          refine aw_istore (loc2 := [(4, aI z68q), (0, aR 0), (1, aI k), (2, aI x2q), (3, aI x3q)]) cx dX6_ask_71 (by decide) rfl ?_
          refine aw_aload_n cx dX6_ask_73 rfl 1 rfl ?_
          refine aw_iload cx dX6_ask_74 0 rfl ?_
          refine aw_callV (as := [aI z68q]) (k := 0) (stk := []) cx dX6_ask_76 ml_X6_220 mv_X6_comesOutSo rfl (lb_0 tl) (by decide) rfl rfl (Nat.le_of_ble_eq_true rfl) (ct_X6_comesOutSo tl M_68q _ (by omega)) (fun rr76q M_76q hp76q => ?_)
          obtain ⟨rfl, z76q, rfl, h01z76q, hsoz76⟩ := hp76q
          refine aw_eq (stk2 := [aI z76q]) ?_ rfl rfl rfl rfl
          have hso : z76q = 1 ↔ SO (M 0 13).toNat (M 27) (M 28) (M 15 2) z68q := by have q := hsoz76; rw [hfS 0 (by decide), hfS 15 (by decide), hfS 27 (by decide), hfS 28 (by decide)] at q; exact q
          have hpw : (fWP (fgT M) (qgT M) (M 0 13).toNat (M 27) (M 28) k.toNat) x3q.toNat ↔ z76q = 1 := by rw [hso]; show SO _ _ _ (((M 15 2).toNat : Nat) : Int) _ ↔ _; rw [show (((M 15 2).toNat : Nat) : Int) = M 15 2 by omega, hcb2]
          refine aw_if_eq (tgt := 91) cx dX6_ask_79 (by decide) (fun c79q => ?_) (fun c79q => ?_)
          · refine aw_iinc cx dX6_ask_91 4 rfl (by decide) (by omega) (fun z91q hz91q => ?_)
            refine aw_loc (loc2 := [(3, aI z91q), (4, aI z68q), (0, aR 0), (1, aI k), (2, aI x2q)]) rfl ?_
            refine aw_goto (tgt := 40) cx dX6_ask_94 (by decide) ?_
            refine aw_sub [2, 3, 4, 0] rfl ?_
            refine ih40q _ _ _  ?i_h0 ?i_hf ?i_hs ?i_ha ?i_hx ?i_hy ?i_m
            case i_h0 =>
              omega
            case i_hf =>
              exact hfS
            case i_hs =>
              rw [hfrM_68 10 (by decide), up_ne hM_55q (by omega)]; exact hs
            case i_ha =>
              intro i hi
              have q := ha i hi
              exact ⟨by rw [hfrM_68 11 (by decide), up_ne hM_55q (by omega)]; exact q.1, by rw [hfrM_68 12 (by decide), up_ne hM_55q (by omega)]; exact q.2.1, fun z => by rw [hfrM_68 13 (by decide), up_ne hM_55q (by omega)]; exact q.2.2.1 z, by rw [hfrM_68 14 (by decide), up_ne hM_55q (by omega)]; exact q.2.2.2⟩
            case i_hx =>
              rw [hz91q, fFT_i h0q.1, bC_f (by rw [hpw]; omega), ← hx]; omega
            case i_hy =>
              intro c hc; rw [hz91q, fTL_i h0q.1, bC_f (fun q => absurd (hpw.mp q.1) (by omega)), hfrM_68 30 (by decide), up_ne hM_55q (by omega), hy c hc]; omega
            case i_m =>
              omega
          · refine aw_iinc cx dX6_ask_82 3 rfl (by decide) (by omega) (fun z82q hz82q => ?_)
            refine aw_loc (loc2 := [(2, aI z82q), (4, aI z68q), (0, aR 0), (1, aI k), (3, aI x3q)]) rfl ?_
            refine aw_aload_n cx dX6_ask_85 rfl 2 rfl ?_
            refine aw_iload cx dX6_ask_86 1 rfl ?_
            refine aw_callV (as := [aI z68q]) (k := 0) (stk := []) cx dX6_ask_88 ml_X6_229 mv_X6_addToTally rfl (lb_0 tl) (by decide) rfl rfl (Nat.le_of_ble_eq_true rfl) (ct_X6_addToTally tl M_68q _ (by omega) (fun c hc => by rw [hfrM_68 30 (by decide), up_ne hM_55q (by omega), hy c hc]; have q := fTL_in (fWP (fgT M) (qgT M) (M 0 13).toNat (M 27) (M 28) k.toNat) (fWB (fgT M) (qgT M) k.toNat) x3q.toNat c; omega)) (fun rr88q M_88q hp88q => ?_)
            obtain ⟨rfl, hfrM_88, htlM_88⟩ := hp88q
            refine aw_eq (stk2 := []) ?_ rfl rfl rfl rfl
            refine aw_iinc cx dX6_ask_91 4 rfl (by decide) (by omega) (fun z91q hz91q => ?_)
            refine aw_loc (loc2 := [(3, aI z91q), (2, aI z82q), (4, aI z68q), (0, aR 0), (1, aI k)]) rfl ?_
            refine aw_goto (tgt := 40) cx dX6_ask_94 (by decide) ?_
            refine aw_sub [3, 4, 1, 0] rfl ?_
            refine ih40q _ _ _  ?i_h0 ?i_hf ?i_hs ?i_ha ?i_hx ?i_hy ?i_m
            case i_h0 =>
              omega
            case i_hf =>
              exact hfS.tr hfrM_88 (by decide)
            case i_hs =>
              rw [hfrM_88 10 (by decide), hfrM_68 10 (by decide), up_ne hM_55q (by omega)]; exact hs
            case i_ha =>
              intro i hi
              have q := ha i hi
              exact ⟨by rw [hfrM_88 11 (by decide), hfrM_68 11 (by decide), up_ne hM_55q (by omega)]; exact q.1, by rw [hfrM_88 12 (by decide), hfrM_68 12 (by decide), up_ne hM_55q (by omega)]; exact q.2.1, fun z => by rw [hfrM_88 13 (by decide), hfrM_68 13 (by decide), up_ne hM_55q (by omega)]; exact q.2.2.1 z, by rw [hfrM_88 14 (by decide), hfrM_68 14 (by decide), up_ne hM_55q (by omega)]; exact q.2.2.2⟩
            case i_hx =>
              rw [hz91q, fFT_i h0q.1, bC_t (by rw [hpw]; omega), ← hx]; omega
            case i_hy =>
              intro c hc; rw [hz91q, fTL_i h0q.1, htlM_88 c hc, hfrM_68 30 (by decide), up_ne hM_55q (by omega), hy c hc, hcb2, ← bC_b]; congr 1; by_cases q : BT (fWB (fgT M) (qgT M) k.toNat x3q.toNat) c
              · rw [bC_t q, bC_t ⟨hpw.mpr (by omega), q⟩]
              · rw [bC_f q, bC_f (fun z => q z.2)]
            case i_m =>
              omega
    refine aw_sub [2, 3, 1, 0] rfl ?_
    refine lp40q _ _ _ _  ?i_h0 ?i_hf ?i_hs ?i_ha ?i_hx ?i_hy (Nat.lt_succ_self _)
    case i_h0 =>
      omega
    case i_hf =>
      exact (hfrM_25.mono (by decide)).tr hfrM_33 (by decide)
    case i_hs =>
      rw [hfrM_33 10 (by decide)]; exact hs4M_25
    case i_ha =>
      intro i hi; rw [hfrM_33 11 (by decide), hfrM_33 12 (by decide), hfrM_33 13 (by decide), hfrM_33 14 (by decide)]; exact ⟨(hsmM_25 i hi).1, (hsmM_25 i hi).2.1, fun _ => (hsmM_25 i hi).2.2.1, (hsmM_25 i hi).2.2.2⟩
    case i_hx =>
      rfl
    case i_hy =>
      intro c hc; rw [hflM_33 c hc]; rfl
  · have d11q := b2_y hz8q c11q
    refine aw_bipush (n := (-2)) cx dX6_ask_14 (by decide) ?_
    refine aw_iret cx rt dX6_ask_16 ?_
    exact ⟨-2, rfl, FR.rf, Or.inl ⟨by omega, rfl⟩⟩
