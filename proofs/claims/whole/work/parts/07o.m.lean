set_option maxHeartbeats 1000000 in
set_option maxRecDepth 100000 in
theorem ct_X6_digestOfTales (tl : List CD) (M : Mem) (h : Int) : Ct 6 mX6_digestOfTales (LB ++ tl) [aR 0, aL h] M (fun r M1 => ∃ x, r = some (aL x) ∧ FR SC M M1 ∧ x = lpF (dgT1 M) h (M 5 4).toNat) := by
  refine Ct.of (own := RX6) rfl (by decide +kernel) (Nat.le_of_ble_eq_true rfl) (fun X cx rt => ?_)
  refine aw_eq (loc2 := [(0, aR 0), (1, aL h)]) ?_ rfl rfl rfl rfl
  refine aw_ok (fun om => ?_)
  have hsz : 0 ≤ M 5 4 ∧ M 5 4 ≤ 12 := okF om (lb_5 tl) (j := 4) rfl (show (0 : Nat) ≠ 1 by decide)
  refine aw_lload_n cx dX6_digestOfTales_0 rfl 1 rfl ?_
  refine aw_lstore_n (loc2 := [(3, aL h), (0, aR 0), (1, aL h)]) cx dX6_digestOfTales_1 rfl (by decide) rfl ?_
  refine aw_iconst (n := 0) cx dX6_digestOfTales_2 (by decide) ?_
  refine aw_istore (loc2 := [(5, aI 0), (3, aL h), (0, aR 0), (1, aL h)]) cx dX6_digestOfTales_3 (by decide) rfl ?_
  have lp5q : ∀ (fu : Nat) (x3q : Int) (x5q : Int) (N5q : Mem), (0 ≤ x5q ∧ x5q ≤ M 5 4) → (FR SC M N5q) → (x3q = lpF (dgT1 M) h x5q.toNat) → ((M 5 4 - x5q).toNat) < fu → AW X (LB ++ tl) 7 5 [(0, aR 0), (1, aL h), (3, aL x3q), (5, aI x5q)] [] N5q := by
    intro fu
    induction fu with
    | zero =>
      intro x3q x5q N5q h0q hf hx hm
      exact absurd hm (Nat.not_lt_zero _)
    | succ fu ih5q =>
      intro x3q x5q N5q h0q hf hx hm
      have g54 := congrFun (hf 5 (by decide)) 4
      refine aw_iload cx dX6_digestOfTales_5 3 rfl ?_
      refine aw_aload_n cx dX6_digestOfTales_7 rfl 0 rfl ?_
      refine aw_getR (q := 5) cx dX6_digestOfTales_8 fl_X6_24 (lb_0 tl) rfl rfl ?_
      refine aw_getI cx dX6_digestOfTales_11 fl_X6_105 (lb_5 tl) rfl (fun z11q hz11q lo_z11q hi_z11q => ?_)
      refine aw_icmp_ge (tgt := 159) cx dX6_digestOfTales_14 (by decide) (fun c14q => ?_) (fun c14q => ?_)
      · refine aw_lload_n cx dX6_digestOfTales_159 rfl 2 rfl ?_
        refine aw_lret cx rt dX6_digestOfTales_160 ?_
        exact ⟨x3q, rfl, hf, by rw [hx, show x5q = M 5 4 by omega]⟩
      · refine aw_iconst (n := 0) cx dX6_digestOfTales_17 (by decide) ?_
        refine aw_istore (loc2 := [(6, aI 0), (0, aR 0), (1, aL h), (3, aL x3q), (5, aI x5q)]) cx dX6_digestOfTales_18 (by decide) rfl ?_
        have lp20q : ∀ (fu : Nat) (x3q : Int) (x6q : Int), (0 ≤ x6q ∧ x6q ≤ 4) → (x3q = lpD (dTale M x5q) (lpF (dgT1 M) h x5q.toNat) x6q.toNat) → ((4 - x6q).toNat) < fu → AW X (LB ++ tl) 7 20 [(0, aR 0), (1, aL h), (3, aL x3q), (5, aI x5q), (6, aI x6q)] [] N5q := by
          intro fu
          induction fu with
          | zero =>
            intro x3q x6q h1q hx20 hm
            exact absurd hm (Nat.not_lt_zero _)
          | succ fu ih20q =>
            intro x3q x6q h1q hx20 hm
            refine aw_iload cx dX6_digestOfTales_20 4 rfl ?_
            refine aw_iconst (n := 4) cx dX6_digestOfTales_22 (by decide) ?_
            refine aw_icmp_ge (tgt := 48) cx dX6_digestOfTales_23 (by decide) (fun c23q => ?_) (fun c23q => ?_)
            · refine aw_iconst (n := 0) cx dX6_digestOfTales_48 (by decide) ?_
              refine aw_istore (loc2 := [(6, aI 0), (0, aR 0), (1, aL h), (3, aL x3q), (5, aI x5q)]) cx dX6_digestOfTales_49 (by decide) rfl ?_
              have lp51q : ∀ (fu : Nat) (x3q : Int) (x6q : Int) (N51q : Mem), (0 ≤ x6q ∧ x6q ≤ 3) → (FR SC M N51q) → (x3q = lpD (dStands M x5q) (lpD (dTale M x5q) (lpF (dgT1 M) h x5q.toNat) 4) x6q.toNat) → ((3 - x6q).toNat) < fu → AW X (LB ++ tl) 7 51 [(0, aR 0), (1, aL h), (3, aL x3q), (5, aI x5q), (6, aI x6q)] [] N51q := by
                intro fu
                induction fu with
                | zero =>
                  intro x3q x6q N51q h2q hf hx51 hm
                  exact absurd hm (Nat.not_lt_zero _)
                | succ fu ih51q =>
                  intro x3q x6q N51q h2q hf hx51 hm
                  refine aw_iload cx dX6_digestOfTales_51 4 rfl ?_
                  refine aw_iconst (n := 3) cx dX6_digestOfTales_53 (by decide) ?_
                  refine aw_icmp_ge (tgt := 79) cx dX6_digestOfTales_54 (by decide) (fun c54q => ?_) (fun c54q => ?_)
                  · rw [show x6q.toNat = 3 by omega] at hx51
                    refine aw_ldc2 (x := 31) cx dX6_digestOfTales_79 kc_X6_268 (by decide +kernel) ?_
                    refine aw_lload_n cx dX6_digestOfTales_82 rfl 2 rfl ?_
                    refine aw_lmulW cx dX6_digestOfTales_83 (fun z83q hz83q => ?_)
                    refine aw_aload_n cx dX6_digestOfTales_84 rfl 0 rfl ?_
                    refine aw_iload cx dX6_digestOfTales_85 3 rfl ?_
                    refine aw_iconst (n := 0) cx dX6_digestOfTales_87 (by decide) ?_
                    refine aw_callV (as := [aI x5q, aI 0]) (k := 0) (stk := [aL z83q]) cx dX6_digestOfTales_88 ml_X6_319 mv_X6_move rfl (lb_0 tl) (by decide) rfl rfl (Nat.le_of_ble_eq_true rfl) (ct_X6_move tl N51q _ _ ) (fun rr88q M_88q hp88q => ?_)
                    obtain ⟨z88q, rfl, hfrM_88, hmvM_88⟩ := hp88q
                    refine aw_eq (stk2 := [aI z88q, aL z83q]) ?_ rfl rfl rfl rfl
                    have f88 : FR SC M M_88q := hf.tr hfrM_88 (by decide)
                    have r88 : z88q = dMove M x5q 0 := pk_e (by have q := hmvM_88; rw [hf 5 (by decide), (fg_sc hf).1, (fg_sc hf).2] at q; exact q) (fun _ _ => aPick_u)
                    refine aw_i2l cx dX6_digestOfTales_91 ?_
                    refine aw_laddW cx dX6_digestOfTales_92 (fun z92q hz92q => ?_)
                    refine aw_lstore_n (loc2 := [(3, aL z92q), (0, aR 0), (1, aL h), (5, aI x5q), (6, aI x6q)]) cx dX6_digestOfTales_93 rfl (by decide) rfl ?_
                    refine aw_ldc2 (x := 31) cx dX6_digestOfTales_94 kc_X6_268 (by decide +kernel) ?_
                    refine aw_lload_n cx dX6_digestOfTales_97 rfl 0 rfl ?_
                    refine aw_lmulW cx dX6_digestOfTales_98 (fun z98q hz98q => ?_)
                    refine aw_aload_n cx dX6_digestOfTales_99 rfl 1 rfl ?_
                    refine aw_iload cx dX6_digestOfTales_100 3 rfl ?_
                    refine aw_iconst (n := 1) cx dX6_digestOfTales_102 (by decide) ?_
                    refine aw_callV (as := [aI x5q, aI 1]) (k := 0) (stk := [aL z98q]) cx dX6_digestOfTales_103 ml_X6_319 mv_X6_move rfl (lb_0 tl) (by decide) rfl rfl (Nat.le_of_ble_eq_true rfl) (ct_X6_move tl M_88q _ _ ) (fun rr103q M_103q hp103q => ?_)
                    obtain ⟨z103q, rfl, hfrM_103, hmvM_103⟩ := hp103q
                    refine aw_eq (stk2 := [aI z103q, aL z98q]) ?_ rfl rfl rfl rfl
                    have f103 : FR SC M M_103q := f88.tr hfrM_103 (by decide)
                    have r103 : z103q = dMove M x5q 1 := pk_e (by have q := hmvM_103; rw [f88 5 (by decide), (fg_sc f88).1, (fg_sc f88).2] at q; exact q) (fun _ _ => aPick_u)
                    refine aw_i2l cx dX6_digestOfTales_106 ?_
                    refine aw_laddW cx dX6_digestOfTales_107 (fun z107q hz107q => ?_)
                    refine aw_lstore_n (loc2 := [(3, aL z107q), (0, aR 0), (1, aL h), (5, aI x5q), (6, aI x6q)]) cx dX6_digestOfTales_108 rfl (by decide) rfl ?_
                    refine aw_ldc2 (x := 31) cx dX6_digestOfTales_109 kc_X6_268 (by decide +kernel) ?_
                    refine aw_lload_n cx dX6_digestOfTales_112 rfl 0 rfl ?_
                    refine aw_lmulW cx dX6_digestOfTales_113 (fun z113q hz113q => ?_)
                    refine aw_aload_n cx dX6_digestOfTales_114 rfl 1 rfl ?_
                    refine aw_iload cx dX6_digestOfTales_115 3 rfl ?_
                    refine aw_iconst (n := 0) cx dX6_digestOfTales_117 (by decide) ?_
                    refine aw_callV (as := [aI x5q, aI 0]) (k := 0) (stk := [aL z113q]) cx dX6_digestOfTales_118 ml_X6_322 mv_X6_was rfl (lb_0 tl) (by decide) rfl rfl (Nat.le_of_ble_eq_true rfl) (ct_X6_was_0 tl M_103q _ ) (fun rr118q M_118q hp118q => ?_)
                    obtain ⟨z118q, rfl, hfrM_118, hwsM_118⟩ := hp118q
                    refine aw_eq (stk2 := [aI z118q, aL z113q]) ?_ rfl rfl rfl rfl
                    have f118 : FR SC M M_118q := f103.tr hfrM_118 (by decide)
                    have r118 : z118q = dWas M x5q 0 := pk_e (by have q := hwsM_118; rw [f103 5 (by decide), f103 0 (by decide), f103 27 (by decide), f103 28 (by decide), (fg_sc f103).1, (fg_sc f103).2] at q; exact q) (fun _ _ => aWas_u)
                    refine aw_i2l cx dX6_digestOfTales_121 ?_
                    refine aw_laddW cx dX6_digestOfTales_122 (fun z122q hz122q => ?_)
                    refine aw_lstore_n (loc2 := [(3, aL z122q), (0, aR 0), (1, aL h), (5, aI x5q), (6, aI x6q)]) cx dX6_digestOfTales_123 rfl (by decide) rfl ?_
                    refine aw_ldc2 (x := 31) cx dX6_digestOfTales_124 kc_X6_268 (by decide +kernel) ?_
                    refine aw_lload_n cx dX6_digestOfTales_127 rfl 0 rfl ?_
                    refine aw_lmulW cx dX6_digestOfTales_128 (fun z128q hz128q => ?_)
                    refine aw_aload_n cx dX6_digestOfTales_129 rfl 1 rfl ?_
                    refine aw_iload cx dX6_digestOfTales_130 3 rfl ?_
                    refine aw_iconst (n := 1) cx dX6_digestOfTales_132 (by decide) ?_
                    refine aw_callV (as := [aI x5q, aI 1]) (k := 0) (stk := [aL z128q]) cx dX6_digestOfTales_133 ml_X6_322 mv_X6_was rfl (lb_0 tl) (by decide) rfl rfl (Nat.le_of_ble_eq_true rfl) (ct_X6_was_1 tl M_118q _ ) (fun rr133q M_133q hp133q => ?_)
                    obtain ⟨z133q, rfl, hfrM_133, hwsM_133⟩ := hp133q
                    refine aw_eq (stk2 := [aI z133q, aL z128q]) ?_ rfl rfl rfl rfl
                    have f133 : FR SC M M_133q := f118.tr hfrM_133 (by decide)
                    have r133 : z133q = dWas M x5q 1 := pk_e (by have q := hwsM_133; rw [f118 5 (by decide), f118 0 (by decide), f118 27 (by decide), f118 28 (by decide), (fg_sc f118).1, (fg_sc f118).2] at q; exact q) (fun _ _ => aWas_u)
                    refine aw_i2l cx dX6_digestOfTales_136 ?_
                    refine aw_laddW cx dX6_digestOfTales_137 (fun z137q hz137q => ?_)
                    refine aw_lstore_n (loc2 := [(3, aL z137q), (0, aR 0), (1, aL h), (5, aI x5q), (6, aI x6q)]) cx dX6_digestOfTales_138 rfl (by decide) rfl ?_
                    refine aw_ldc2 (x := 31) cx dX6_digestOfTales_139 kc_X6_268 (by decide +kernel) ?_
                    refine aw_lload_n cx dX6_digestOfTales_142 rfl 0 rfl ?_
                    refine aw_lmulW cx dX6_digestOfTales_143 (fun z143q hz143q => ?_)
                    refine aw_aload_n cx dX6_digestOfTales_144 rfl 1 rfl ?_
                    refine aw_iload cx dX6_digestOfTales_145 3 rfl ?_
                    refine aw_callV (as := [aI x5q]) (k := 0) (stk := [aL z143q]) cx dX6_digestOfTales_147 ml_X6_325 mv_X6_ask rfl (lb_0 tl) (by decide) rfl rfl (Nat.le_of_ble_eq_true rfl) (ct_X6_ask tl M_133q _ ) (fun rr147q M_147q hp147q => ?_)
                    obtain ⟨z147q, rfl, hfrM_147, hakM_147⟩ := hp147q
                    refine aw_eq (stk2 := [aI z147q, aL z143q]) ?_ rfl rfl rfl rfl
                    have f147 : FR SC M M_147q := f133.tr hfrM_147 (by decide)
                    have r147 : z147q = dAsk M x5q := pk_e (by have q := hakM_147; rw [f133 5 (by decide), f133 0 (by decide), f133 27 (by decide), f133 28 (by decide), (fg_sc f133).1, (fg_sc f133).2] at q; exact q) (fun _ _ => aAsk_u)
                    refine aw_i2l cx dX6_digestOfTales_150 ?_
                    refine aw_laddW cx dX6_digestOfTales_151 (fun z151q hz151q => ?_)
                    refine aw_lstore_n (loc2 := [(3, aL z151q), (0, aR 0), (1, aL h), (5, aI x5q), (6, aI x6q)]) cx dX6_digestOfTales_152 rfl (by decide) rfl ?_
                    refine aw_iinc cx dX6_digestOfTales_153 3 rfl (by decide) (by omega) (fun z153q hz153q => ?_)
                    refine aw_loc (loc2 := [(5, aI z153q), (3, aL z151q), (0, aR 0), (1, aL h), (6, aI x6q)]) rfl ?_
                    refine aw_goto (tgt := 5) cx dX6_digestOfTales_156 (by decide) ?_
                    refine aw_sub [2, 3, 1, 0] rfl ?_
                    refine ih5q _ _ _  ?i_h0 ?i_hf ?i_hx ?i_m
                    case i_h0 =>
                      omega
                    case i_hf =>
                      exact f147
                    case i_hx =>
                      rw [hz153q, lpF_i h0q.1]; unfold dgT1; rw [hz151q, hz143q, r147, hz137q, hz128q, r133, hz122q, hz113q, r118, hz107q, hz98q, r103, hz92q, hz83q, r88, hx51]; rfl
                    case i_m =>
                      omega
                  · refine aw_ldc2 (x := 31) cx dX6_digestOfTales_57 kc_X6_268 (by decide +kernel) ?_
                    refine aw_lload_n cx dX6_digestOfTales_60 rfl 2 rfl ?_
                    refine aw_lmulW cx dX6_digestOfTales_61 (fun z61q hz61q => ?_)
                    refine aw_aload_n cx dX6_digestOfTales_62 rfl 0 rfl ?_
                    refine aw_iload cx dX6_digestOfTales_63 3 rfl ?_
                    refine aw_iload cx dX6_digestOfTales_65 4 rfl ?_
                    refine aw_callV (as := [aI x5q, aI x6q]) (k := 0) (stk := [aL z61q]) cx dX6_digestOfTales_67 ml_X6_316 mv_X6_stands rfl (lb_0 tl) (by decide) rfl rfl (Nat.le_of_ble_eq_true rfl) (ct_X6_stands tl N51q _ _ ) (fun rr67q M_67q hp67q => ?_)
                    obtain ⟨z67q, rfl, hfrM_67, hstM_67⟩ := hp67q
                    refine aw_eq (stk2 := [aI z67q, aL z61q]) ?_ rfl rfl rfl rfl
                    have f67 : FR SC M M_67q := hf.tr hfrM_67 (by decide)
                    have r67 : z67q = dStands M x5q x6q.toNat := pk_e (by have q := hstM_67; rw [hf 5 (by decide), (fg_sc hf).1] at q; rw [show ((x6q.toNat : Nat) : Int) = x6q by omega]; exact q) (fun _ _ => aStands_u)
                    refine aw_i2l cx dX6_digestOfTales_70 ?_
                    refine aw_laddW cx dX6_digestOfTales_71 (fun z71q hz71q => ?_)
                    refine aw_lstore_n (loc2 := [(3, aL z71q), (0, aR 0), (1, aL h), (5, aI x5q), (6, aI x6q)]) cx dX6_digestOfTales_72 rfl (by decide) rfl ?_
                    refine aw_iinc cx dX6_digestOfTales_73 4 rfl (by decide) (by omega) (fun z73q hz73q => ?_)
                    refine aw_loc (loc2 := [(6, aI z73q), (3, aL z71q), (0, aR 0), (1, aL h), (5, aI x5q)]) rfl ?_
                    refine aw_goto (tgt := 51) cx dX6_digestOfTales_76 (by decide) ?_
                    refine aw_sub [2, 3, 1, 4, 0] rfl ?_
                    refine ih51q _ _ _  ?i_h2 ?i_hf ?i_hx51 ?i_m
                    case i_h2 =>
                      omega
                    case i_hf =>
                      exact f67
                    case i_hx51 =>
                      rw [hz73q, lpD_i h2q.1, hz71q, hz61q, r67, hx51]; rfl
                    case i_m =>
                      omega
              refine aw_sub [1, 2, 3, 4, 0] rfl ?_
              refine lp51q _ _ _ _  ?i_h2 ?i_hf ?i_hx51 (Nat.lt_succ_self _)
              case i_h2 =>
                omega
              case i_hf =>
                exact hf
              case i_hx51 =>
                rw [hx20, show x6q = 4 by omega]; rfl
            · refine aw_ldc2 (x := 31) cx dX6_digestOfTales_26 kc_X6_268 (by decide +kernel) ?_
              refine aw_lload_n cx dX6_digestOfTales_29 rfl 2 rfl ?_
              refine aw_lmulW cx dX6_digestOfTales_30 (fun z30q hz30q => ?_)
              refine aw_aload_n cx dX6_digestOfTales_31 rfl 0 rfl ?_
              refine aw_iload cx dX6_digestOfTales_32 3 rfl ?_
              refine aw_iload cx dX6_digestOfTales_34 4 rfl ?_
              refine aw_callV (as := [aI x5q, aI x6q]) (k := 0) (stk := [aL z30q]) cx dX6_digestOfTales_36 ml_X6_313 mv_X6_tale rfl (lb_0 tl) (by decide) rfl rfl (Nat.le_of_ble_eq_true rfl) (ct_X6_tale tl N5q _ _ ) (fun rr36q M_36q hp36q => ?_)
              obtain ⟨rfl, z36q, rfl, htaz36⟩ := hp36q
              refine aw_eq (stk2 := [aI z36q, aL z30q]) ?_ rfl rfl rfl rfl
              have r36 : z36q = dTale M x5q x6q.toNat := pk_e (by have q := htaz36; rw [hf 5 (by decide), hf 6 (by decide), hf 7 (by decide), hf 8 (by decide), hf 9 (by decide)] at q; rw [show ((x6q.toNat : Nat) : Int) = x6q by omega]; exact q) (fun _ _ => aTale_u)
              refine aw_i2l cx dX6_digestOfTales_39 ?_
              refine aw_laddW cx dX6_digestOfTales_40 (fun z40q hz40q => ?_)
              refine aw_lstore_n (loc2 := [(3, aL z40q), (0, aR 0), (1, aL h), (5, aI x5q), (6, aI x6q)]) cx dX6_digestOfTales_41 rfl (by decide) rfl ?_
              refine aw_iinc cx dX6_digestOfTales_42 4 rfl (by decide) (by omega) (fun z42q hz42q => ?_)
              refine aw_loc (loc2 := [(6, aI z42q), (3, aL z40q), (0, aR 0), (1, aL h), (5, aI x5q)]) rfl ?_
              refine aw_goto (tgt := 20) cx dX6_digestOfTales_45 (by decide) ?_
              refine aw_sub [2, 3, 1, 4, 0] rfl ?_
              refine ih20q _ _  ?i_h1 ?i_hx20 ?i_m
              case i_h1 =>
                omega
              case i_hx20 =>
                rw [hz42q, lpD_i h1q.1, hz40q, hz30q, r36, hx20]; rfl
              case i_m =>
                omega
        refine aw_sub [1, 2, 3, 4, 0] rfl ?_
        refine lp20q _ _ _  ?i_h1 ?i_hx20 (Nat.lt_succ_self _)
        case i_h1 =>
          omega
        case i_hx20 =>
          exact hx
  refine aw_sub [2, 3, 1, 0] rfl ?_
  refine lp5q _ _ _ _  ?i_h0 ?i_hf ?i_hx (Nat.lt_succ_self _)
  case i_h0 =>
    omega
  case i_hf =>
    exact FR.rf
  case i_hx =>
    rfl
set_option maxHeartbeats 1000000 in
set_option maxRecDepth 100000 in
theorem ct_X6_digestOfCharges (tl : List CD) (M : Mem) (h : Int) : Ct 6 mX6_digestOfCharges (LB ++ tl) [aR 0, aL h] M (fun r M1 => ∃ x, r = some (aL x) ∧ FR SC M M1 ∧ x = lpF (dgC1 M) h (M 15 2).toNat) := by
  refine Ct.of (own := RX6) rfl (by decide +kernel) (Nat.le_of_ble_eq_true rfl) (fun X cx rt => ?_)
  refine aw_eq (loc2 := [(0, aR 0), (1, aL h)]) ?_ rfl rfl rfl rfl
  refine aw_ok (fun om => ?_)
  have hcz : 0 ≤ M 15 2 ∧ M 15 2 ≤ 8 := okF om (lb_15 tl) (j := 2) rfl (show (0 : Nat) ≠ 1 by decide)
  have hse : 0 ≤ M 18 3 ∧ M 18 3 ≤ 8 := okF om (lb_18 tl) (j := 3) rfl (show (0 : Nat) ≠ 1 by decide)
  refine aw_lload_n cx dX6_digestOfCharges_0 rfl 1 rfl ?_
  refine aw_lstore_n (loc2 := [(3, aL h), (0, aR 0), (1, aL h)]) cx dX6_digestOfCharges_1 rfl (by decide) rfl ?_
  refine aw_aload_n cx dX6_digestOfCharges_2 rfl 1 rfl ?_
  refine aw_iconst (n := 5) cx dX6_digestOfCharges_3 (by decide) ?_
  refine aw_callV (as := [aI 5]) (k := 0) (stk := []) cx dX6_digestOfCharges_4 ml_X6_234 mv_X6_tallyFavour rfl (lb_0 tl) (by decide) rfl rfl (Nat.le_of_ble_eq_true rfl) (ct_X6_tallyFavour tl M _ (by omega)) (fun rr4q M_4q hp4q => ?_)
  obtain ⟨rfl, hfrM_4, hfaM_4⟩ := hp4q
  refine aw_eq (stk2 := []) ?_ rfl rfl rfl rfl
  refine aw_iconst (n := 0) cx dX6_digestOfCharges_7 (by decide) ?_
  refine aw_istore (loc2 := [(5, aI 0), (3, aL h), (0, aR 0), (1, aL h)]) cx dX6_digestOfCharges_8 (by decide) rfl ?_
  have lp10q : ∀ (fu : Nat) (x3q : Int) (x5q : Int) (N10q : Mem), (0 ≤ x5q ∧ x5q ≤ M 15 2) → (FR SC M N10q) → (∀ j, j < (M 15 2).toNat → N10q 31 j = fFAV (fgT M) (qgT M) 5 j) → (x3q = lpF (dgC1 M) h x5q.toNat) → ((M 15 2 - x5q).toNat) < fu → AW X (LB ++ tl) 6 10 [(0, aR 0), (1, aL h), (3, aL x3q), (5, aI x5q)] [] N10q := by
    intro fu
    induction fu with
    | zero =>
      intro x3q x5q N10q h0q hf hfv hx hm
      exact absurd hm (Nat.not_lt_zero _)
    | succ fu ih10q =>
      intro x3q x5q N10q h0q hf hfv hx hm
      have g152 := congrFun (hf 15 (by decide)) 2
      have g183 := congrFun (hf 18 (by decide)) 3
      refine aw_iload cx dX6_digestOfCharges_10 3 rfl ?_
      refine aw_aload_n cx dX6_digestOfCharges_12 rfl 0 rfl ?_
      refine aw_getR (q := 15) cx dX6_digestOfCharges_13 fl_X6_34 (lb_0 tl) rfl rfl ?_
      refine aw_getI cx dX6_digestOfCharges_16 fl_X6_118 (lb_15 tl) rfl (fun z16q hz16q lo_z16q hi_z16q => ?_)
      refine aw_icmp_ge (tgt := 140) cx dX6_digestOfCharges_19 (by decide) (fun c19q => ?_) (fun c19q => ?_)
      · refine aw_lload_n cx dX6_digestOfCharges_140 rfl 2 rfl ?_
        refine aw_lret cx rt dX6_digestOfCharges_141 ?_
        exact ⟨x3q, rfl, hf, by rw [hx, show x5q = M 15 2 by omega]⟩
      · refine aw_ldc2 (x := 31) cx dX6_digestOfCharges_22 kc_X6_268 (by decide +kernel) ?_
        refine aw_lload_n cx dX6_digestOfCharges_25 rfl 2 rfl ?_
        refine aw_lmulW cx dX6_digestOfCharges_26 (fun z26q hz26q => ?_)
        refine aw_aload_n cx dX6_digestOfCharges_27 rfl 0 rfl ?_
        refine aw_iload cx dX6_digestOfCharges_28 3 rfl ?_
        refine aw_iconst (n := 0) cx dX6_digestOfCharges_30 (by decide) ?_
        refine aw_callV (as := [aI x5q, aI 0]) (k := 0) (stk := [aL z26q]) cx dX6_digestOfCharges_31 ml_X6_328 mv_X6_charge rfl (lb_0 tl) (by decide) rfl rfl (Nat.le_of_ble_eq_true rfl) (ct_X6_charge tl N10q _ _ ) (fun rr31q M_31q hp31q => ?_)
        obtain ⟨rfl, z31q, rfl, htaz31⟩ := hp31q
        refine aw_eq (stk2 := [aI z31q, aL z26q]) ?_ rfl rfl rfl rfl
        have r31 : z31q = dCharge M x5q 0 := pk_e (by have q := htaz31; rw [hf 15 (by decide), hf 16 (by decide), hf 17 (by decide)] at q; exact q) (fun _ _ => aCharge_u)
        refine aw_i2l cx dX6_digestOfCharges_34 ?_
        refine aw_laddW cx dX6_digestOfCharges_35 (fun z35q hz35q => ?_)
        refine aw_lstore_n (loc2 := [(3, aL z35q), (0, aR 0), (1, aL h), (5, aI x5q)]) cx dX6_digestOfCharges_36 rfl (by decide) rfl ?_
        refine aw_ldc2 (x := 31) cx dX6_digestOfCharges_37 kc_X6_268 (by decide +kernel) ?_
        refine aw_lload_n cx dX6_digestOfCharges_40 rfl 0 rfl ?_
        refine aw_lmulW cx dX6_digestOfCharges_41 (fun z41q hz41q => ?_)
        refine aw_aload_n cx dX6_digestOfCharges_42 rfl 1 rfl ?_
        refine aw_iload cx dX6_digestOfCharges_43 3 rfl ?_
        refine aw_iconst (n := 1) cx dX6_digestOfCharges_45 (by decide) ?_
        refine aw_callV (as := [aI x5q, aI 1]) (k := 0) (stk := [aL z41q]) cx dX6_digestOfCharges_46 ml_X6_328 mv_X6_charge rfl (lb_0 tl) (by decide) rfl rfl (Nat.le_of_ble_eq_true rfl) (ct_X6_charge tl N10q _ _ ) (fun rr46q M_46q hp46q => ?_)
        obtain ⟨rfl, z46q, rfl, htaz46⟩ := hp46q
        refine aw_eq (stk2 := [aI z46q, aL z41q]) ?_ rfl rfl rfl rfl
        have r46 : z46q = dCharge M x5q 1 := pk_e (by have q := htaz46; rw [hf 15 (by decide), hf 16 (by decide), hf 17 (by decide)] at q; exact q) (fun _ _ => aCharge_u)
        refine aw_i2l cx dX6_digestOfCharges_49 ?_
        refine aw_laddW cx dX6_digestOfCharges_50 (fun z50q hz50q => ?_)
        refine aw_lstore_n (loc2 := [(3, aL z50q), (0, aR 0), (1, aL h), (5, aI x5q)]) cx dX6_digestOfCharges_51 rfl (by decide) rfl ?_
        refine aw_ldc2 (x := 31) cx dX6_digestOfCharges_52 kc_X6_268 (by decide +kernel) ?_
        refine aw_lload_n cx dX6_digestOfCharges_55 rfl 0 rfl ?_
        refine aw_lmulW cx dX6_digestOfCharges_56 (fun z56q hz56q => ?_)
        refine aw_aload_n cx dX6_digestOfCharges_57 rfl 1 rfl ?_
        refine aw_iload cx dX6_digestOfCharges_58 3 rfl ?_
        refine aw_callV (as := [aI x5q]) (k := 0) (stk := [aL z56q]) cx dX6_digestOfCharges_60 ml_X6_331 mv_X6_belief rfl (lb_0 tl) (by decide) rfl rfl (Nat.le_of_ble_eq_true rfl) (ct_X6_belief tl N10q _ ) (fun rr60q M_60q hp60q => ?_)
        obtain ⟨z60q, rfl, hfrM_60, hstM_60⟩ := hp60q
        refine aw_eq (stk2 := [aI z60q, aL z56q]) ?_ rfl rfl rfl rfl
        have f60 : FR SC M M_60q := hf.tr hfrM_60 (by decide)
        have r60 : z60q = dBelief M x5q := pk_e (by have q := hstM_60; rw [hf 15 (by decide), (fg_sc hf).1, (fg_sc hf).2] at q; exact q) (fun _ _ => aBelief_u)
        refine aw_i2l cx dX6_digestOfCharges_63 ?_
        refine aw_laddW cx dX6_digestOfCharges_64 (fun z64q hz64q => ?_)
        refine aw_lstore_n (loc2 := [(3, aL z64q), (0, aR 0), (1, aL h), (5, aI x5q)]) cx dX6_digestOfCharges_65 rfl (by decide) rfl ?_
        refine aw_ldc2 (x := 31) cx dX6_digestOfCharges_66 kc_X6_268 (by decide +kernel) ?_
        refine aw_lload_n cx dX6_digestOfCharges_69 rfl 0 rfl ?_
        refine aw_lmulW cx dX6_digestOfCharges_70 (fun z70q hz70q => ?_)
        refine aw_aload_n cx dX6_digestOfCharges_71 rfl 1 rfl ?_
        refine aw_iload cx dX6_digestOfCharges_72 3 rfl ?_
        refine aw_iconst (n := 0) cx dX6_digestOfCharges_74 (by decide) ?_
        refine aw_callV (as := [aI x5q, aI 0]) (k := 0) (stk := [aL z70q]) cx dX6_digestOfCharges_75 ml_X6_334 mv_X6_cleared rfl (lb_0 tl) (by decide) rfl rfl (Nat.le_of_ble_eq_true rfl) (ct_X6_cleared tl M_60q _ _ ) (fun rr75q M_75q hp75q => ?_)
        obtain ⟨z75q, rfl, hfrM_75, hstM_75⟩ := hp75q
        refine aw_eq (stk2 := [aI z75q, aL z70q]) ?_ rfl rfl rfl rfl
        have f75 : FR SC M M_75q := f60.tr hfrM_75 (by decide)
        have r75 : z75q = dCleared M x5q 0 := pk_e (by have q := hstM_75; rw [f60 15 (by decide), (fg_sc f60).1, (fg_sc f60).2] at q; exact q) (fun _ _ => aCleared_u)
        refine aw_i2l cx dX6_digestOfCharges_78 ?_
        refine aw_laddW cx dX6_digestOfCharges_79 (fun z79q hz79q => ?_)
        refine aw_lstore_n (loc2 := [(3, aL z79q), (0, aR 0), (1, aL h), (5, aI x5q)]) cx dX6_digestOfCharges_80 rfl (by decide) rfl ?_
        refine aw_ldc2 (x := 31) cx dX6_digestOfCharges_81 kc_X6_268 (by decide +kernel) ?_
        refine aw_lload_n cx dX6_digestOfCharges_84 rfl 0 rfl ?_
        refine aw_lmulW cx dX6_digestOfCharges_85 (fun z85q hz85q => ?_)
        refine aw_aload_n cx dX6_digestOfCharges_86 rfl 1 rfl ?_
        refine aw_iload cx dX6_digestOfCharges_87 3 rfl ?_
        refine aw_iconst (n := 1) cx dX6_digestOfCharges_89 (by decide) ?_
        refine aw_callV (as := [aI x5q, aI 1]) (k := 0) (stk := [aL z85q]) cx dX6_digestOfCharges_90 ml_X6_334 mv_X6_cleared rfl (lb_0 tl) (by decide) rfl rfl (Nat.le_of_ble_eq_true rfl) (ct_X6_cleared tl M_75q _ _ ) (fun rr90q M_90q hp90q => ?_)
        obtain ⟨z90q, rfl, hfrM_90, hstM_90⟩ := hp90q
        refine aw_eq (stk2 := [aI z90q, aL z85q]) ?_ rfl rfl rfl rfl
        have f90 : FR SC M M_90q := f75.tr hfrM_90 (by decide)
        have r90 : z90q = dCleared M x5q 1 := pk_e (by have q := hstM_90; rw [f75 15 (by decide), (fg_sc f75).1, (fg_sc f75).2] at q; exact q) (fun _ _ => aCleared_u)
        refine aw_i2l cx dX6_digestOfCharges_93 ?_
        refine aw_laddW cx dX6_digestOfCharges_94 (fun z94q hz94q => ?_)
        refine aw_lstore_n (loc2 := [(3, aL z94q), (0, aR 0), (1, aL h), (5, aI x5q)]) cx dX6_digestOfCharges_95 rfl (by decide) rfl ?_
        refine aw_ldc2 (x := 31) cx dX6_digestOfCharges_96 kc_X6_268 (by decide +kernel) ?_
        refine aw_lload_n cx dX6_digestOfCharges_99 rfl 0 rfl ?_
        refine aw_lmulW cx dX6_digestOfCharges_100 (fun z100q hz100q => ?_)
        refine aw_aload_n cx dX6_digestOfCharges_101 rfl 1 rfl ?_
        refine aw_aload_n cx dX6_digestOfCharges_102 rfl 1 rfl ?_
        refine aw_getR (q := 31) cx dX6_digestOfCharges_103 fl_X6_70 (lb_0 tl) rfl rfl ?_
        refine aw_iload cx dX6_digestOfCharges_106 3 rfl ?_
        refine aw_lald cx dX6_digestOfCharges_108 (lb_31 tl) (⟨by omega, by omega⟩) (fun z108q hz108q lo_z108q hi_z108q => ?_)
        refine aw_iconst (n := 0) cx dX6_digestOfCharges_109 (by decide) ?_
        refine aw_callV (as := [aL z108q, aI 0]) (k := 0) (stk := [aL z100q]) cx dX6_digestOfCharges_110 ml_X6_237 mv_X6_lowestTerm rfl (lb_0 tl) (by decide) rfl rfl (Nat.le_of_ble_eq_true rfl) (ct_X6_lowestTerm tl M_90q _ _ (by omega) (by omega)) (fun rr110q M_110q hp110q => ?_)
        obtain ⟨rfl, z110q, rfl, hlwz110⟩ := hp110q
        refine aw_eq (stk2 := [aL z110q, aL z100q]) ?_ rfl rfl rfl rfl
        have v108 : z108q = fFAV (fgT M) (qgT M) 5 x5q.toNat := by rw [hz108q, hfrM_90 31 (by decide), hfrM_75 31 (by decide), hfrM_60 31 (by decide)]; exact hfv _ (by omega)
        have r110 : z110q = dLow M x5q 0 := pk_e (by have q := hlwz110; rw [v108, f90 18 (by decide)] at q; exact q) (fun _ _ => aLow_u)
        refine aw_laddW cx dX6_digestOfCharges_113 (fun z113q hz113q => ?_)
        refine aw_lstore_n (loc2 := [(3, aL z113q), (0, aR 0), (1, aL h), (5, aI x5q)]) cx dX6_digestOfCharges_114 rfl (by decide) rfl ?_
        refine aw_ldc2 (x := 31) cx dX6_digestOfCharges_115 kc_X6_268 (by decide +kernel) ?_
        refine aw_lload_n cx dX6_digestOfCharges_118 rfl 0 rfl ?_
        refine aw_lmulW cx dX6_digestOfCharges_119 (fun z119q hz119q => ?_)
        refine aw_aload_n cx dX6_digestOfCharges_120 rfl 1 rfl ?_
        refine aw_aload_n cx dX6_digestOfCharges_121 rfl 1 rfl ?_
        refine aw_getR (q := 31) cx dX6_digestOfCharges_122 fl_X6_70 (lb_0 tl) rfl rfl ?_
        refine aw_iload cx dX6_digestOfCharges_125 3 rfl ?_
        refine aw_lald cx dX6_digestOfCharges_127 (lb_31 tl) (⟨by omega, by omega⟩) (fun z127q hz127q lo_z127q hi_z127q => ?_)
        refine aw_iconst (n := 1) cx dX6_digestOfCharges_128 (by decide) ?_
        refine aw_callV (as := [aL z127q, aI 1]) (k := 0) (stk := [aL z119q]) cx dX6_digestOfCharges_129 ml_X6_237 mv_X6_lowestTerm rfl (lb_0 tl) (by decide) rfl rfl (Nat.le_of_ble_eq_true rfl) (ct_X6_lowestTerm tl M_90q _ _ (by omega) (by omega)) (fun rr129q M_129q hp129q => ?_)
        obtain ⟨rfl, z129q, rfl, hlwz129⟩ := hp129q
        refine aw_eq (stk2 := [aL z129q, aL z119q]) ?_ rfl rfl rfl rfl
        have v127 : z127q = fFAV (fgT M) (qgT M) 5 x5q.toNat := by rw [hz127q, hfrM_90 31 (by decide), hfrM_75 31 (by decide), hfrM_60 31 (by decide)]; exact hfv _ (by omega)
        have r129 : z129q = dLow M x5q 1 := pk_e (by have q := hlwz129; rw [v127, f90 18 (by decide)] at q; exact q) (fun _ _ => aLow_u)
        refine aw_laddW cx dX6_digestOfCharges_132 (fun z132q hz132q => ?_)
        refine aw_lstore_n (loc2 := [(3, aL z132q), (0, aR 0), (1, aL h), (5, aI x5q)]) cx dX6_digestOfCharges_133 rfl (by decide) rfl ?_
        refine aw_iinc cx dX6_digestOfCharges_134 3 rfl (by decide) (by omega) (fun z134q hz134q => ?_)
        refine aw_loc (loc2 := [(5, aI z134q), (3, aL z132q), (0, aR 0), (1, aL h)]) rfl ?_
        refine aw_goto (tgt := 10) cx dX6_digestOfCharges_137 (by decide) ?_
        refine aw_sub [2, 3, 1, 0] rfl ?_
        refine ih10q _ _ _  ?i_h0 ?i_hf ?i_hfv ?i_hx ?i_m
        case i_h0 =>
          omega
        case i_hf =>
          exact f90
        case i_hfv =>
          intro j hj; rw [hfrM_90 31 (by decide), hfrM_75 31 (by decide), hfrM_60 31 (by decide)]; exact hfv j hj
        case i_hx =>
          rw [hz134q, lpF_i h0q.1]; unfold dgC1; rw [hz132q, hz119q, r129, hz113q, hz100q, r110, hz94q, hz85q, r90, hz79q, hz70q, r75, hz64q, hz56q, r60, hz50q, hz41q, r46, hz35q, hz26q, r31, hx]; rfl
        case i_m =>
          omega
  refine aw_sub [2, 3, 1, 0] rfl ?_
  refine lp10q _ _ _ _  ?i_h0 ?i_hf ?i_hfv ?i_hx (Nat.lt_succ_self _)
  case i_h0 =>
    omega
  case i_hf =>
    exact hfrM_4
  case i_hfv =>
    exact hfaM_4
  case i_hx =>
    rfl
