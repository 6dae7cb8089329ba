set_option maxHeartbeats 1000000 in
set_option maxRecDepth 100000 in
theorem ct_X6_drop (tl : List CD) (M : Mem) (what : Int) : Ct 5 mX6_drop (LB ++ tl) [aR 0, aI what] M (fun r M1 => ∃ x, r = some (aI x) ∧ FR SC M M1 ∧ aPick False (fDR (fgT M) (qgT M)) (M 5 4).toNat what x) := by
  refine Ct.of (own := RX6) rfl (by decide +kernel) (Nat.le_of_ble_eq_true rfl) (fun X cx rt => ?_)
  refine aw_eq (loc2 := [(0, aR 0), (1, aI what)]) ?_ rfl rfl rfl rfl
  refine aw_rngL 1 rfl (fun rl_what rh_what => ?_)
  refine aw_ok (fun om => ?_)
  have hsz : 0 ≤ M 5 4 ∧ M 5 4 ≤ 12 := okF om (lb_5 tl) (j := 4) rfl (show (0 : Nat) ≠ 1 by decide)
  have hse : 0 ≤ M 18 3 ∧ M 18 3 ≤ 8 := okF om (lb_18 tl) (j := 3) rfl (show (0 : Nat) ≠ 1 by decide)
  have hcz : 0 ≤ M 15 2 ∧ M 15 2 ≤ 8 := okF om (lb_15 tl) (j := 2) rfl (show (0 : Nat) ≠ 1 by decide)
  have hNN : ∀ j, 0 ≤ M 6 j := fun j => (okA om (lb_6 tl) j).1
  have hal := all_bits hse
  refine aw_iload_n cx dX6_drop_0 rfl 1 rfl ?_
  refine aw_iconst (n := 2) cx dX6_drop_1 (by decide) ?_
  refine aw_callS (as := [aI what, aI 2]) (stk := []) cx dX6_drop_2 ml_X6_84 ms_X6_outside (by decide) rfl rfl (Nat.le_of_ble_eq_true rfl) (ct_X6_outside tl M _ _ ) (fun rr2q M_2q hp2q => ?_)
  obtain ⟨rfl, rfl⟩ := hp2q
  refine aw_top (stk := []) (fun z2q hz2q => ?_)
  refine aw_if_eq (tgt := 11) cx dX6_drop_5 (by decide) (fun c5q => ?_) (fun c5q => ?_)
  · have d5q := b2_e0.mp (hz2q.symm.trans c5q)
    refine aw_iconst (n := (-1)) cx dX6_drop_11 (by decide) ?_
    refine aw_istore_n (loc2 := [(2, aI ((-1))), (0, aR 0), (1, aI what)]) cx dX6_drop_12 rfl (by decide) rfl ?_
    refine aw_iconst (n := (-1)) cx dX6_drop_13 (by decide) ?_
    refine aw_istore_n (loc2 := [(3, aI ((-1))), (2, aI ((-1))), (0, aR 0), (1, aI what)]) cx dX6_drop_14 rfl (by decide) rfl ?_
    refine aw_iconst (n := 0) cx dX6_drop_15 (by decide) ?_
    refine aw_istore (loc2 := [(4, aI 0), (3, aI ((-1))), (2, aI ((-1))), (0, aR 0), (1, aI what)]) cx dX6_drop_16 (by decide) rfl ?_
    have lp18q : ∀ (fu : Nat) (x2q : Int) (x3q : Int) (x4q : Int) (N18q : Mem), (0 ≤ x4q ∧ x4q ≤ M 5 4) → (FR SC M N18q) → (AMX (fDR (fgT M) (qgT M)) (-1) x4q.toNat x2q x3q) → ((M 5 4 - x4q).toNat) < fu → AW X (LB ++ tl) 6 18 [(0, aR 0), (1, aI what), (2, aI x2q), (3, aI x3q), (4, aI x4q)] [] N18q := by
      intro fu
      induction fu with
      | zero =>
        intro x2q x3q x4q N18q h0q hf hx hm
        exact absurd hm (Nat.not_lt_zero _)
      | succ fu ih18q =>
        intro x2q x3q x4q N18q h0q hf hx hm
        have g0 := hf 0 (by decide)
        have g5 := hf 5 (by decide)
        have g6 := hf 6 (by decide)
        have g7 := hf 7 (by decide)
        have g8 := hf 8 (by decide)
        have g9 := hf 9 (by decide)
        have g15 := hf 15 (by decide)
        have g16 := hf 16 (by decide)
        have g17 := hf 17 (by decide)
        have g18 := hf 18 (by decide)
        have g19 := hf 19 (by decide)
        have g20 := hf 20 (by decide)
        have g21 := hf 21 (by decide)
        have g183 := congrFun g18 3
        have g54 := congrFun g5 4
        have hqg := QG_fr g0 g15 g16 g17
        refine aw_iload cx dX6_drop_18 4 rfl ?_
        refine aw_aload_n cx dX6_drop_20 rfl 0 rfl ?_
        refine aw_getR (q := 5) cx dX6_drop_21 fl_X6_24 (lb_0 tl) rfl rfl ?_
        refine aw_getI cx dX6_drop_24 fl_X6_105 (lb_5 tl) rfl (fun z24q hz24q lo_z24q hi_z24q => ?_)
        refine aw_icmp_ge (tgt := 88) cx dX6_drop_27 (by decide) (fun c27q => ?_) (fun c27q => ?_)
        · refine aw_iload_n cx dX6_drop_88 rfl 1 rfl ?_
          refine aw_if_ne (tgt := 96) cx dX6_drop_89 (by decide) (fun c89q => ?_) (fun c89q => ?_)
          · refine aw_iload_n cx dX6_drop_96 rfl 3 rfl ?_
            refine aw_iret cx rt dX6_drop_97 ?_
            exact ⟨x3q, rfl, hf, Or.inr ⟨fun q => q, x2q, x3q, by rw [show x4q = M 5 4 by omega] at hx; exact hx, Or.inr ⟨by omega, rfl⟩⟩⟩
          · refine aw_iload_n cx dX6_drop_92 rfl 2 rfl ?_
            refine aw_goto (tgt := 97) cx dX6_drop_93 (by decide) ?_
            refine aw_iret cx rt dX6_drop_97 ?_
            exact ⟨x2q, rfl, hf, Or.inr ⟨fun q => q, x2q, x3q, by rw [show x4q = M 5 4 by omega] at hx; exact hx, Or.inl ⟨by omega, rfl⟩⟩⟩
        · refine aw_aload_n cx dX6_drop_30 rfl 0 rfl ?_
          refine aw_getR (q := 10) cx dX6_drop_31 fl_X6_28 (lb_0 tl) rfl rfl ?_
          refine aw_aload_n cx dX6_drop_34 rfl 0 rfl ?_
          refine aw_getR (q := 5) cx dX6_drop_35 fl_X6_24 (lb_0 tl) rfl rfl ?_
          refine aw_callV (as := [aR 5]) (k := 10) (stk := []) cx dX6_drop_38 ml_X6_202 mv_X4_becomeLike rfl (lb_10 tl) (by decide) rfl rfl (Nat.le_of_ble_eq_true rfl) (ct_X4_becomeLike tl N18q  ) (fun rr38q M_38q hp38q => ?_)
          obtain ⟨rfl, hfrM_38, hs4M_38, hs5M_38, hsmM_38⟩ := hp38q
          refine aw_eq (stk2 := []) ?_ rfl rfl rfl rfl
          refine aw_aload_n cx dX6_drop_41 rfl 0 rfl ?_
          refine aw_getR (q := 10) cx dX6_drop_42 fl_X6_28 (lb_0 tl) rfl rfl ?_
          refine aw_iload cx dX6_drop_45 4 rfl ?_
          refine aw_callV (as := [aI x4q]) (k := 10) (stk := []) cx dX6_drop_47 ml_X6_206 mv_X4_leaveOut rfl (lb_10 tl) (by decide) rfl rfl (Nat.le_of_ble_eq_true rfl) (ct_X4_leaveOut tl M_38q _ (by rw [hs4M_38]; omega)) (fun rr47q M_47q hp47q => ?_)
          obtain ⟨rfl, hfrM_47, hs4M_47, hsmM_47⟩ := hp47q
          refine aw_eq (stk2 := []) ?_ rfl rfl rfl rfl
          have k183 : M_47q 18 3 = M 18 3 := by rw [hfrM_47 18 (by decide), hfrM_38 18 (by decide)]; exact g183
          refine aw_aload_n cx dX6_drop_50 rfl 0 rfl ?_
          refine aw_aload_n cx dX6_drop_51 rfl 0 rfl ?_
          refine aw_getR (q := 10) cx dX6_drop_52 fl_X6_28 (lb_0 tl) rfl rfl ?_
          refine aw_aload_n cx dX6_drop_55 rfl 0 rfl ?_
          refine aw_getR (q := 18) cx dX6_drop_56 fl_X6_41 (lb_0 tl) rfl rfl ?_
          refine aw_callV (as := []) (k := 18) (stk := [aR 10, aR 0]) cx dX6_drop_59 ml_X6_175 mv_X2_all rfl (lb_18 tl) (by decide) rfl rfl (Nat.le_of_ble_eq_true rfl) (ct_X2_all tl M_47q  ) (fun rr59q M_59q hp59q => ?_)
          obtain ⟨rfl, rfl⟩ := hp59q
          refine aw_top (stk := [aR 10, aR 0]) (fun z59q hz59q => ?_)
          refine aw_callV (as := [aR 10, aI z59q]) (k := 0) (stk := []) cx dX6_drop_62 ml_X6_178 mv_X6_clearedBits rfl (lb_0 tl) (by decide) rfl rfl (Nat.le_of_ble_eq_true rfl) (ct_X6_clearedBits tl M_47q 10 _ (Or.inr rfl) (by rw [hz59q, k183]; omega)) (fun rr62q M_62q hp62q => ?_)
          obtain ⟨z62q, rfl, hfrM_62, hcbM_62, hxrM_62, hctM_62, hrnM_62, hkkM_62, htlM_62⟩ := hp62q
          refine aw_eq (stk2 := [aI z62q]) ?_ rfl rfl rfl rfl
          rw [hz59q, k183] at hcbM_62 hrnM_62
          have hfe : FGe (fgH M_47q 10 (bShl 1 (M 18 3) - 1)) (SHF (fgT M) x4q.toNat) := by
            refine ⟨?_, ?_, ?_, ?_⟩
            · show (M_47q 10 4).toNat = (M 5 4).toNat - 1
              rw [hs4M_47, hs4M_38, g54]; omega
            · show (M_47q 18 3).toNat = (M 18 3).toNat
              rw [k183]
            · intro e he
              have he2 : e < (M 18 3).toNat := by rw [← k183]; exact he
              refine ⟨?_, ?_, ?_⟩
              · show KEF _ (M_47q 19) e = M 19 e
                rw [KEF_all hse he2, hfrM_47 19 (by decide), hfrM_38 19 (by decide), g19]
              · show M_47q 20 e = M 20 e
                rw [hfrM_47 20 (by decide), hfrM_38 20 (by decide), g20]
              · show M_47q 21 e = M 21 e
                rw [hfrM_47 21 (by decide), hfrM_38 21 (by decide), g21]
            · intro i hi
              have hi2 : (i : Int) < M_38q 10 4 - 1 := by have h9q : i < (M_47q 10 4).toNat := hi; rw [hs4M_47] at h9q; omega
              have q := hsmM_47 i hi2
              have es : (if (i : Int) < x4q then i else i + 1) = shx x4q.toNat i := by unfold shx; by_cases e : i < x4q.toNat; rw [if_pos e, if_pos (by omega)]; rw [if_neg e, if_neg (by omega)]
              rw [es] at q
              have hsl : shx x4q.toNat i < (N18q 5 4).toNat := by rw [hs4M_38] at hi2; exact shx_in (by omega) (by omega)
              have q2q := hsmM_38 (shx x4q.toNat i) hsl
              rw [g6, g7, g8, g9] at q2q
              exact ⟨q.1.trans q2q.1, q.2.1.trans q2q.2.1, q.2.2.1.trans q2q.2.2.1, q.2.2.2.trans q2q.2.2.2⟩
          have hq2 : qgT M_47q = qgT M := by rw [← hqg]; exact QG_fr (by rw [hfrM_47 0 (by decide), hfrM_38 0 (by decide)]) (by rw [hfrM_47 15 (by decide), hfrM_38 15 (by decide)]) (by rw [hfrM_47 16 (by decide), hfrM_38 16 (by decide)]) (by rw [hfrM_47 17 (by decide), hfrM_38 17 (by decide)])
          refine aw_ok (fun om7 => ?_)
          have hN7 : ∀ j, 0 ≤ M_47q 11 j := fun j => by rw [← hfrM_62 11 (by decide)]; exact (okA om7 (lb_11 tl) j).1
          have hrs := RUN_eq hfe hrnM_62
          rw [hq2, fCB_cg hfe QGe.rf hN7 (show (M 15 2).toNat ≤ 8 by omega) hrnM_62, drop_fCB (F := fgT M) (show x4q.toNat < (M 5 4).toNat by omega) hNN (show (M 15 2).toNat ≤ 8 by omega) hrs] at hcbM_62
          have hfS : FR SC M M_62q := ((hf.tr hfrM_38 (by decide)).tr hfrM_47 (by decide)).tr hfrM_62 (by decide)
          refine aw_callS (as := [aI z62q]) (stk := []) cx dX6_drop_65 ml_X6_182 ms_J6_bitCount_0f7a4 (by decide) rfl rfl (Nat.le_of_ble_eq_true rfl) (ct_J6_bitCount_0f7a4 tl M_62q _ (by omega)) (fun rr65q M_65q hp65q => ?_)
          obtain ⟨rfl, rfl⟩ := hp65q
          refine aw_top (stk := []) (fun z65q hz65q => ?_)
          have hrz65q : 0 ≤ z65q ∧ z65q ≤ 12 := by rw [hz65q]; exact PCN_in _
          have hs65 : z65q = fDR (fgT M) (qgT M) x4q.toNat := by rw [hz65q, hcbM_62]; rfl
          refine aw_istore (loc2 := [(5, aI z65q), (0, aR 0), (1, aI what), (2, aI x2q), (3, aI x3q), (4, aI x4q)]) cx dX6_drop_68 (by decide) rfl ?_
          refine aw_iload cx dX6_drop_70 0 rfl ?_
          refine aw_iload_n cx dX6_drop_72 rfl 4 rfl ?_
          refine aw_icmp_le (tgt := 82) cx dX6_drop_73 (by decide) (fun c73q => ?_) (fun c73q => ?_)
          · refine aw_iinc cx dX6_drop_82 5 rfl (by decide) (by omega) (fun z82q hz82q => ?_)
            refine aw_loc (loc2 := [(4, aI z82q), (5, aI z65q), (0, aR 0), (1, aI what), (2, aI x2q), (3, aI x3q)]) rfl ?_
            refine aw_goto (tgt := 18) cx dX6_drop_85 (by decide) ?_
            refine aw_sub [2, 3, 4, 5, 0] rfl ?_
            refine ih18q _ _ _ _  ?i_h0 ?i_hf ?i_hx ?i_m
            case i_h0 =>
              omega
            case i_hf =>
              exact hfS
            case i_hx =>
              rw [hz82q]; exact AMX_no h0q.1 hx (by rw [← hs65]; omega)
            case i_m =>
              omega
          · refine aw_iload cx dX6_drop_76 5 rfl ?_
            refine aw_istore_n (loc2 := [(2, aI x4q), (5, aI z65q), (0, aR 0), (1, aI what), (3, aI x3q), (4, aI x4q)]) cx dX6_drop_78 rfl (by decide) rfl ?_
            refine aw_iload cx dX6_drop_79 1 rfl ?_
            refine aw_istore_n (loc2 := [(3, aI z65q), (2, aI x4q), (5, aI z65q), (0, aR 0), (1, aI what), (4, aI x4q)]) cx dX6_drop_81 rfl (by decide) rfl ?_
            refine aw_iinc cx dX6_drop_82 5 rfl (by decide) (by omega) (fun z82q hz82q => ?_)
            refine aw_loc (loc2 := [(4, aI z82q), (3, aI z65q), (2, aI x4q), (5, aI z65q), (0, aR 0), (1, aI what)]) rfl ?_
            refine aw_goto (tgt := 18) cx dX6_drop_85 (by decide) ?_
            refine aw_sub [4, 5, 2, 1, 0] rfl ?_
            refine ih18q _ _ _ _  ?i_h0 ?i_hf ?i_hx ?i_m
            case i_h0 =>
              omega
            case i_hf =>
              exact hfS
            case i_hx =>
              rw [hz82q, hs65]; exact AMX_up h0q.1 hx (by rw [← hs65]; omega)
            case i_m =>
              omega
    refine aw_sub [3, 4, 2, 1, 0] rfl ?_
    refine lp18q _ _ _ _ _  ?i_h0 ?i_hf ?i_hx (Nat.lt_succ_self _)
    case i_h0 =>
      omega
    case i_hf =>
      exact FR.rf
    case i_hx =>
      exact AMX_0 _ _
  · have d5q := b2_y hz2q c5q
    refine aw_bipush (n := (-2)) cx dX6_drop_8 (by decide) ?_
    refine aw_iret cx rt dX6_drop_10 ?_
    exact ⟨-2, rfl, FR.rf, Or.inl ⟨Or.inr (by omega), rfl⟩⟩
