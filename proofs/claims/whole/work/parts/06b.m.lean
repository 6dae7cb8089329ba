set_option maxHeartbeats 1000000 in
set_option maxRecDepth 100000 in
theorem ct_X6_rankBy (tl : List CD) (M : Mem) (s : Int) : Ct 0 mX6_rankBy (LB ++ tl) [aI s] M (fun r M1 => M = M1 ∧ r = some (aI (RNK s))) := by
  refine Ct.of (own := RX6) rfl (by decide +kernel) (Nat.le_of_ble_eq_true rfl) (fun X cx rt => ?_)
  refine aw_eq (loc2 := [(0, aI s)]) ?_ rfl rfl rfl rfl
  refine aw_rngL 0 rfl (fun rl_s rh_s => ?_)
  refine aw_iload_n cx dX6_rankBy_0 rfl 0 rfl ?_
  refine aw_iconst (n := (-1)) cx dX6_rankBy_1 (by decide) ?_
  refine aw_icmp_ne (tgt := 7) cx dX6_rankBy_2 (by decide) (fun c2q => ?_) (fun c2q => ?_)
  · refine aw_iload_n cx dX6_rankBy_7 rfl 0 rfl ?_
    refine aw_bipush (n := 6) cx dX6_rankBy_8 (by decide) ?_
    refine aw_icmp_ge (tgt := 17) cx dX6_rankBy_10 (by decide) (fun c10q => ?_) (fun c10q => ?_)
    · refine aw_iload_n cx dX6_rankBy_17 rfl 0 rfl ?_
      refine aw_bipush (n := 15) cx dX6_rankBy_18 (by decide) ?_
      refine aw_icmp_ge (tgt := 27) cx dX6_rankBy_20 (by decide) (fun c20q => ?_) (fun c20q => ?_)
      · refine aw_iconst (n := 3) cx dX6_rankBy_27 (by decide) ?_
        refine aw_iret cx rt dX6_rankBy_28 ?_
        exact ⟨rfl, congrArg (fun q => some (aI q)) (by unfold RNK; first | rw [if_pos (by omega)] | rw [if_neg (by omega), if_pos (by omega)] | rw [if_neg (by omega), if_neg (by omega), if_pos (by omega)] | rw [if_neg (by omega), if_neg (by omega), if_neg (by omega)])⟩
      · refine aw_iconst (n := 2) cx dX6_rankBy_23 (by decide) ?_
        refine aw_goto (tgt := 28) cx dX6_rankBy_24 (by decide) ?_
        refine aw_iret cx rt dX6_rankBy_28 ?_
        exact ⟨rfl, congrArg (fun q => some (aI q)) (by unfold RNK; first | rw [if_pos (by omega)] | rw [if_neg (by omega), if_pos (by omega)] | rw [if_neg (by omega), if_neg (by omega), if_pos (by omega)] | rw [if_neg (by omega), if_neg (by omega), if_neg (by omega)])⟩
    · refine aw_iconst (n := 1) cx dX6_rankBy_13 (by decide) ?_
      refine aw_goto (tgt := 28) cx dX6_rankBy_14 (by decide) ?_
      refine aw_iret cx rt dX6_rankBy_28 ?_
      exact ⟨rfl, congrArg (fun q => some (aI q)) (by unfold RNK; first | rw [if_pos (by omega)] | rw [if_neg (by omega), if_pos (by omega)] | rw [if_neg (by omega), if_neg (by omega), if_pos (by omega)] | rw [if_neg (by omega), if_neg (by omega), if_neg (by omega)])⟩
  · refine aw_iconst (n := 0) cx dX6_rankBy_5 (by decide) ?_
    refine aw_iret cx rt dX6_rankBy_6 ?_
    exact ⟨rfl, congrArg (fun q => some (aI q)) (by unfold RNK; first | rw [if_pos (by omega)] | rw [if_neg (by omega), if_pos (by omega)] | rw [if_neg (by omega), if_neg (by omega), if_pos (by omega)] | rw [if_neg (by omega), if_neg (by omega), if_neg (by omega)])⟩
set_option maxHeartbeats 1000000 in
set_option maxRecDepth 100000 in
theorem ct_X0_standing (tl : List CD) (M : Mem) (tk : Nat) (night town : Int) (htk : TK tk) (htl : M 22 6 = (tk : Int)) (hni : 0 ≤ night ∧ night ≤ 23) (hto : 0 ≤ town ∧ town ≤ 7) : Ct 1 mX0_standing (LB ++ tl) [aR 22, aI night, aI town] M (fun r M1 => M = M1 ∧ r = some (aI (STD (M tk 4).toNat (M 18 3).toNat (M 25 town.toNat) (M 24) (M (tk + 1)) (M (tk + 2)) (M 26) (M 20) (M 21) night town))) := by
  refine Ct.of (own := RX0) rfl (by decide +kernel) (Nat.le_of_ble_eq_true rfl) (fun X cx rt => ?_)
  refine aw_eq (loc2 := [(0, aR 22), (1, aI night), (2, aI town)]) ?_ rfl rfl rfl rfl
  refine aw_rngL 1 rfl (fun rl_night rh_night => ?_)
  refine aw_rngL 2 rfl (fun rl_town rh_town => ?_)
  refine aw_ok (fun om => ?_)
  have hsz : 0 ≤ M tk 4 ∧ M tk 4 ≤ 12 := okF om (tkO htk tl) (j := 4) rfl (show (0 : Nat) ≠ 1 by decide)
  have hse : 0 ≤ M 18 3 ∧ M 18 3 ≤ 8 := okF om (lb_18 tl) (j := 3) rfl (show (0 : Nat) ≠ 1 by decide)
  have hG : ∀ j, 0 ≤ M 24 j ∧ M 24 j ≤ 3 := okA om (lb_24 tl)
  refine aw_aload_n cx dX0_standing_0 rfl 0 rfl ?_
  refine aw_getR (q := 25) cx dX0_standing_1 fl_X0_23 (lb_22 tl) rfl rfl ?_
  refine aw_iload_n cx dX0_standing_4 rfl 2 rfl ?_
  refine aw_iald cx dX0_standing_5 (lb_25 tl) (⟨by omega, by omega⟩) (fun z5q hz5q lo_z5q hi_z5q => ?_)
  refine aw_istore_n (loc2 := [(3, aI z5q), (0, aR 22), (1, aI night), (2, aI town)]) cx dX0_standing_6 rfl (by decide) rfl ?_
  refine aw_iload_n cx dX0_standing_7 rfl 0 rfl ?_
  refine aw_iconst (n := (-1)) cx dX0_standing_8 (by decide) ?_
  refine aw_icmp_eq (tgt := 17) cx dX0_standing_9 (by decide) (fun c9q => ?_) (fun c9q => ?_)
  · refine aw_iconst (n := (-1)) cx dX0_standing_17 (by decide) ?_
    refine aw_iret cx rt dX0_standing_18 ?_
    exact ⟨rfl, congrArg (fun q => some (aI q)) (by unfold STD; rw [if_pos (by omega)])⟩
  · refine aw_iload_n cx dX0_standing_12 rfl 2 rfl ?_
    refine aw_iload_n cx dX0_standing_13 rfl 0 rfl ?_
    refine aw_icmp_ge (tgt := 19) cx dX0_standing_14 (by decide) (fun c14q => ?_) (fun c14q => ?_)
    · refine aw_iload_n cx dX0_standing_19 rfl 2 rfl ?_
      refine aw_iload_n cx dX0_standing_20 rfl 0 rfl ?_
      refine aw_isub cx dX0_standing_21 (by omega) (fun z21q hz21q => ?_)
      refine aw_istore (loc2 := [(4, aI z21q), (3, aI z5q), (0, aR 22), (1, aI night), (2, aI town)]) cx dX0_standing_22 (by decide) rfl ?_
      refine aw_iconst (n := 0) cx dX0_standing_24 (by decide) ?_
      refine aw_istore (loc2 := [(5, aI 0), (4, aI z21q), (3, aI z5q), (0, aR 22), (1, aI night), (2, aI town)]) cx dX0_standing_25 (by decide) rfl ?_
      have lp27q : ∀ (fu : Nat) (x4q : Int) (x5q : Int), (0 ≤ x5q ∧ x5q ≤ M tk 4) → (x4q = night - z5q + sm (fun i => if M (tk + 2) i = town ∧ M (tk + 1) i ≤ night then M 24 i else 0) x5q.toNat) → (night - z5q ≤ x4q ∧ x4q ≤ night - z5q + 3 * x5q) → ((M tk 4 - x5q).toNat) < fu → AW X (LB ++ tl) 7 27 [(0, aR 22), (1, aI night), (2, aI town), (3, aI z5q), (4, aI x4q), (5, aI x5q)] [] M := by
        intro fu
        induction fu with
        | zero =>
          intro x4q x5q h0q hs h1q hm
          exact absurd hm (Nat.not_lt_zero _)
        | succ fu ih27q =>
          intro x4q x5q h0q hs h1q hm
          have hGx := hG x5q.toNat
          refine aw_iload cx dX0_standing_27 5 rfl ?_
          refine aw_aload_n cx dX0_standing_29 rfl 0 rfl ?_
          refine aw_getD (q := tk) cx dX0_standing_30 fl_X0_29 (lb_22 tl) rfl (htl) ?_
          refine aw_getI cx dX0_standing_33 fl_X0_43 (tkO htk tl) rfl (fun z33q hz33q lo_z33q hi_z33q => ?_)
          refine aw_icmp_ge (tgt := 85) cx dX0_standing_36 (by decide) (fun c36q => ?_) (fun c36q => ?_)
          · refine aw_iconst (n := 0) cx dX0_standing_85 (by decide) ?_
            refine aw_istore (loc2 := [(5, aI 0), (0, aR 22), (1, aI night), (2, aI town), (3, aI z5q), (4, aI x4q)]) cx dX0_standing_86 (by decide) rfl ?_
            have lp88q : ∀ (fu : Nat) (x4q : Int) (x5q : Int), (0 ≤ x5q ∧ x5q ≤ M 18 3) → (x4q = night - z5q + SWT (M tk 4).toNat (M 24) (M (tk + 1)) (M (tk + 2)) night town + sm (fun e => if M 26 e = 2 ∧ M 21 e = town ∧ M 25 town.toNat ≤ M 20 e ∧ M 20 e ≤ night then 3 else 0) x5q.toNat) → (0 ≤ x4q ∧ x4q ≤ 100 + 3 * x5q) → ((M 18 3 - x5q).toNat) < fu → AW X (LB ++ tl) 7 88 [(0, aR 22), (1, aI night), (2, aI town), (3, aI z5q), (4, aI x4q), (5, aI x5q)] [] M := by
              intro fu
              induction fu with
              | zero =>
                intro x4q x5q h0e hse2 h1e hm
                exact absurd hm (Nat.not_lt_zero _)
              | succ fu ih88q =>
                intro x4q x5q h0e hse2 h1e hm
                refine aw_iload cx dX0_standing_88 5 rfl ?_
                refine aw_aload_n cx dX0_standing_90 rfl 0 rfl ?_
                refine aw_getR (q := 18) cx dX0_standing_91 fl_X0_33 (lb_22 tl) rfl rfl ?_
                refine aw_getI cx dX0_standing_94 fl_X0_37 (lb_18 tl) rfl (fun z94q hz94q lo_z94q hi_z94q => ?_)
                refine aw_icmp_ge (tgt := 174) cx dX0_standing_97 (by decide) (fun c97q => ?_) (fun c97q => ?_)
                · refine aw_bipush (n := 40) cx dX0_standing_174 (by decide) ?_
                  refine aw_iload cx dX0_standing_176 4 rfl ?_
                  refine aw_mmin (stk := []) cx dX0_standing_178 ml_X0_86 (by decide) (Nat.le_of_ble_eq_true rfl) (fun z178q hz178q => ?_)
                  refine aw_iret cx rt dX0_standing_181 ?_
                  exact ⟨rfl, congrArg (fun q => some (aI q)) (by unfold STD LET; rw [if_neg (by omega), hz178q, hse2, show x5q = M 18 3 by omega, hz5q])⟩
                · refine aw_aload_n cx dX0_standing_100 rfl 0 rfl ?_
                  refine aw_getR (q := 26) cx dX0_standing_101 fl_X0_26 (lb_22 tl) rfl rfl ?_
                  refine aw_iload cx dX0_standing_104 5 rfl ?_
                  refine aw_iald cx dX0_standing_106 (lb_26 tl) (⟨by omega, by omega⟩) (fun z106q hz106q lo_z106q hi_z106q => ?_)
                  refine aw_iconst (n := 2) cx dX0_standing_107 (by decide) ?_
                  refine aw_icmp_ne (tgt := 129) cx dX0_standing_108 (by decide) (fun c108q => ?_) (fun c108q => ?_)
                  · refine aw_iconst (n := 0) cx dX0_standing_129 (by decide) ?_
                    refine aw_istore (loc2 := [(6, aI 0), (0, aR 22), (1, aI night), (2, aI town), (3, aI z5q), (4, aI x4q), (5, aI x5q)]) cx dX0_standing_130 (by decide) rfl ?_
                    refine aw_iload cx dX0_standing_132 0 rfl ?_
                    refine aw_if_eq (tgt := 168) cx dX0_standing_134 (by decide) (fun c134q => ?_) (fun c134q => ?_)
                    · refine aw_iinc cx dX0_standing_168 6 rfl (by decide) (by omega) (fun z168q hz168q => ?_)
                      refine aw_loc (loc2 := [(5, aI z168q), (6, aI 0), (0, aR 22), (1, aI night), (2, aI town), (3, aI z5q), (4, aI x4q)]) rfl ?_
                      refine aw_goto (tgt := 88) cx dX0_standing_171 (by decide) ?_
                      refine aw_sub [2, 3, 4, 5, 6, 0] rfl ?_
                      refine ih88q _ _  ?i_h0e ?i_hse2 ?i_h1e ?i_m
                      case i_h0e =>
                        omega
                      case i_hse2 =>
                        rw [hz168q, sm_i h0e.1]; first | (rw [if_pos (by omega)]; omega) | (rw [if_neg (by omega)]; omega)
                      case i_h1e =>
                        omega
                      case i_m =>
                        omega
                    · exact absurd c134q (by decide)
                  · refine aw_aload_n cx dX0_standing_111 rfl 0 rfl ?_
                    refine aw_getR (q := 18) cx dX0_standing_112 fl_X0_33 (lb_22 tl) rfl rfl ?_
                    refine aw_getR (q := 21) cx dX0_standing_115 fl_X0_70 (lb_18 tl) rfl rfl ?_
                    refine aw_iload cx dX0_standing_118 5 rfl ?_
                    refine aw_iald cx dX0_standing_120 (lb_21 tl) (⟨by omega, by omega⟩) (fun z120q hz120q lo_z120q hi_z120q => ?_)
                    refine aw_iload_n cx dX0_standing_121 rfl 2 rfl ?_
                    refine aw_icmp_ne (tgt := 129) cx dX0_standing_122 (by decide) (fun c122q => ?_) (fun c122q => ?_)
                    · refine aw_iconst (n := 0) cx dX0_standing_129 (by decide) ?_
                      refine aw_istore (loc2 := [(6, aI 0), (0, aR 22), (1, aI night), (2, aI town), (3, aI z5q), (4, aI x4q), (5, aI x5q)]) cx dX0_standing_130 (by decide) rfl ?_
                      refine aw_iload cx dX0_standing_132 0 rfl ?_
                      refine aw_if_eq (tgt := 168) cx dX0_standing_134 (by decide) (fun c134q => ?_) (fun c134q => ?_)
                      · refine aw_iinc cx dX0_standing_168 6 rfl (by decide) (by omega) (fun z168q hz168q => ?_)
                        refine aw_loc (loc2 := [(5, aI z168q), (6, aI 0), (0, aR 22), (1, aI night), (2, aI town), (3, aI z5q), (4, aI x4q)]) rfl ?_
                        refine aw_goto (tgt := 88) cx dX0_standing_171 (by decide) ?_
                        refine aw_sub [2, 3, 4, 5, 6, 0] rfl ?_
                        refine ih88q _ _  ?i_h0e ?i_hse2 ?i_h1e ?i_m
                        case i_h0e =>
                          omega
                        case i_hse2 =>
                          rw [hz168q, sm_i h0e.1]; first | (rw [if_pos (by omega)]; omega) | (rw [if_neg (by omega)]; omega)
                        case i_h1e =>
                          omega
                        case i_m =>
                          omega
                      · exact absurd c134q (by decide)
                    · refine aw_iconst (n := 1) cx dX0_standing_125 (by decide) ?_
                      refine aw_goto (tgt := 130) cx dX0_standing_126 (by decide) ?_
                      refine aw_istore (loc2 := [(6, aI 1), (0, aR 22), (1, aI night), (2, aI town), (3, aI z5q), (4, aI x4q), (5, aI x5q)]) cx dX0_standing_130 (by decide) rfl ?_
                      refine aw_iload cx dX0_standing_132 0 rfl ?_
                      refine aw_if_eq (tgt := 168) cx dX0_standing_134 (by decide) (fun c134q => ?_) (fun c134q => ?_)
                      · exact absurd c134q (by decide)
                      · refine aw_aload_n cx dX0_standing_137 rfl 1 rfl ?_
                        refine aw_getR (q := 18) cx dX0_standing_138 fl_X0_33 (lb_22 tl) rfl rfl ?_
                        refine aw_getR (q := 20) cx dX0_standing_141 fl_X0_69 (lb_18 tl) rfl rfl ?_
                        refine aw_iload cx dX0_standing_144 6 rfl ?_
                        refine aw_iald cx dX0_standing_146 (lb_20 tl) (⟨by omega, by omega⟩) (fun z146q hz146q lo_z146q hi_z146q => ?_)
                        refine aw_iload_n cx dX0_standing_147 rfl 4 rfl ?_
                        refine aw_icmp_lt (tgt := 168) cx dX0_standing_148 (by decide) (fun c148q => ?_) (fun c148q => ?_)
                        · refine aw_iinc cx dX0_standing_168 6 rfl (by decide) (by omega) (fun z168q hz168q => ?_)
                          refine aw_loc (loc2 := [(5, aI z168q), (6, aI 1), (0, aR 22), (1, aI night), (2, aI town), (3, aI z5q), (4, aI x4q)]) rfl ?_
                          refine aw_goto (tgt := 88) cx dX0_standing_171 (by decide) ?_
                          refine aw_sub [2, 3, 4, 5, 6, 0] rfl ?_
                          refine ih88q _ _  ?i_h0e ?i_hse2 ?i_h1e ?i_m
                          case i_h0e =>
                            omega
                          case i_hse2 =>
                            rw [hz168q, sm_i h0e.1]; first | (rw [if_pos (by omega)]; omega) | (rw [if_neg (by omega)]; omega)
                          case i_h1e =>
                            omega
                          case i_m =>
                            omega
                        · refine aw_aload_n cx dX0_standing_151 rfl 1 rfl ?_
                          refine aw_getR (q := 18) cx dX0_standing_152 fl_X0_33 (lb_22 tl) rfl rfl ?_
                          refine aw_getR (q := 20) cx dX0_standing_155 fl_X0_69 (lb_18 tl) rfl rfl ?_
                          refine aw_iload cx dX0_standing_158 6 rfl ?_
                          refine aw_iald cx dX0_standing_160 (lb_20 tl) (⟨by omega, by omega⟩) (fun z160q hz160q lo_z160q hi_z160q => ?_)
                          refine aw_iload_n cx dX0_standing_161 rfl 2 rfl ?_
                          refine aw_icmp_gt (tgt := 168) cx dX0_standing_162 (by decide) (fun c162q => ?_) (fun c162q => ?_)
                          · refine aw_iinc cx dX0_standing_168 6 rfl (by decide) (by omega) (fun z168q hz168q => ?_)
                            refine aw_loc (loc2 := [(5, aI z168q), (6, aI 1), (0, aR 22), (1, aI night), (2, aI town), (3, aI z5q), (4, aI x4q)]) rfl ?_
                            refine aw_goto (tgt := 88) cx dX0_standing_171 (by decide) ?_
                            refine aw_sub [2, 3, 4, 5, 6, 0] rfl ?_
                            refine ih88q _ _  ?i_h0e ?i_hse2 ?i_h1e ?i_m
                            case i_h0e =>
                              omega
                            case i_hse2 =>
                              rw [hz168q, sm_i h0e.1]; first | (rw [if_pos (by omega)]; omega) | (rw [if_neg (by omega)]; omega)
                            case i_h1e =>
                              omega
                            case i_m =>
                              omega
                          · refine aw_iinc cx dX0_standing_165 5 rfl (by decide) (by omega) (fun z165q hz165q => ?_)
                            refine aw_loc (loc2 := [(4, aI z165q), (6, aI 1), (0, aR 22), (1, aI night), (2, aI town), (3, aI z5q), (5, aI x5q)]) rfl ?_
                            refine aw_iinc cx dX0_standing_168 6 rfl (by decide) (by omega) (fun z168q hz168q => ?_)
                            refine aw_loc (loc2 := [(5, aI z168q), (4, aI z165q), (6, aI 1), (0, aR 22), (1, aI night), (2, aI town), (3, aI z5q)]) rfl ?_
                            refine aw_goto (tgt := 88) cx dX0_standing_171 (by decide) ?_
                            refine aw_sub [3, 4, 5, 6, 1, 0] rfl ?_
                            refine ih88q _ _  ?i_h0e ?i_hse2 ?i_h1e ?i_m
                            case i_h0e =>
                              omega
                            case i_hse2 =>
                              rw [hz168q, sm_i h0e.1]; first | (rw [if_pos (by omega)]; omega) | (rw [if_neg (by omega)]; omega)
                            case i_h1e =>
                              omega
                            case i_m =>
                              omega
            refine aw_sub [1, 2, 3, 4, 5, 0] rfl ?_
            refine lp88q _ _ _  ?i_h0e ?i_hse2 ?i_h1e (Nat.lt_succ_self _)
            case i_h0e =>
              omega
            case i_hse2 =>
              rw [show sm _ (0 : Int).toNat = 0 from rfl, hs, show x5q = M tk 4 by omega]; unfold SWT; omega
            case i_h1e =>
              omega
          · refine aw_aload_n cx dX0_standing_39 rfl 0 rfl ?_
            refine aw_getD (q := tk) cx dX0_standing_40 fl_X0_29 (lb_22 tl) rfl (htl) ?_
            refine aw_getR (q := tk + 2) cx dX0_standing_43 fl_X0_63 (tkO htk tl) rfl rfl ?_
            refine aw_iload cx dX0_standing_46 5 rfl ?_
            refine aw_iald cx dX0_standing_48 (tk2 htk tl) (⟨by omega, by omega⟩) (fun z48q hz48q lo_z48q hi_z48q => ?_)
            refine aw_iload_n cx dX0_standing_49 rfl 2 rfl ?_
            refine aw_icmp_ne (tgt := 79) cx dX0_standing_50 (by decide) (fun c50q => ?_) (fun c50q => ?_)
            · refine aw_iinc cx dX0_standing_79 5 rfl (by decide) (by omega) (fun z79q hz79q => ?_)
              refine aw_loc (loc2 := [(5, aI z79q), (0, aR 22), (1, aI night), (2, aI town), (3, aI z5q), (4, aI x4q)]) rfl ?_
              refine aw_goto (tgt := 27) cx dX0_standing_82 (by decide) ?_
              refine aw_sub [1, 2, 3, 4, 5, 0] rfl ?_
              refine ih27q _ _  ?i_h0 ?i_hs ?i_h1 ?i_m
              case i_h0 =>
                omega
              case i_hs =>
                rw [hz79q, sm_i h0q.1]; first | (rw [if_pos (by omega)]; omega) | (rw [if_neg (by omega)]; omega)
              case i_h1 =>
                omega
              case i_m =>
                omega
            · refine aw_aload_n cx dX0_standing_53 rfl 0 rfl ?_
              refine aw_getD (q := tk) cx dX0_standing_54 fl_X0_29 (lb_22 tl) rfl (htl) ?_
              refine aw_getR (q := tk + 1) cx dX0_standing_57 fl_X0_66 (tkO htk tl) rfl rfl ?_
              refine aw_iload cx dX0_standing_60 5 rfl ?_
              refine aw_iald cx dX0_standing_62 (tk1 htk tl) (⟨by omega, by omega⟩) (fun z62q hz62q lo_z62q hi_z62q => ?_)
              refine aw_iload_n cx dX0_standing_63 rfl 1 rfl ?_
              refine aw_icmp_gt (tgt := 79) cx dX0_standing_64 (by decide) (fun c64q => ?_) (fun c64q => ?_)
              · refine aw_iinc cx dX0_standing_79 5 rfl (by decide) (by omega) (fun z79q hz79q => ?_)
                refine aw_loc (loc2 := [(5, aI z79q), (0, aR 22), (1, aI night), (2, aI town), (3, aI z5q), (4, aI x4q)]) rfl ?_
                refine aw_goto (tgt := 27) cx dX0_standing_82 (by decide) ?_
                refine aw_sub [1, 2, 3, 4, 5, 0] rfl ?_
                refine ih27q _ _  ?i_h0 ?i_hs ?i_h1 ?i_m
                case i_h0 =>
                  omega
                case i_hs =>
                  rw [hz79q, sm_i h0q.1]; first | (rw [if_pos (by omega)]; omega) | (rw [if_neg (by omega)]; omega)
                case i_h1 =>
                  omega
                case i_m =>
                  omega
              · refine aw_iload cx dX0_standing_67 4 rfl ?_
                refine aw_aload_n cx dX0_standing_69 rfl 0 rfl ?_
                refine aw_getR (q := 24) cx dX0_standing_70 fl_X0_15 (lb_22 tl) rfl rfl ?_
                refine aw_iload cx dX0_standing_73 5 rfl ?_
                refine aw_iald cx dX0_standing_75 (lb_24 tl) (⟨by omega, by omega⟩) (fun z75q hz75q lo_z75q hi_z75q => ?_)
                refine aw_iadd cx dX0_standing_76 (by omega) (fun z76q hz76q => ?_)
                refine aw_istore (loc2 := [(4, aI z76q), (0, aR 22), (1, aI night), (2, aI town), (3, aI z5q), (5, aI x5q)]) cx dX0_standing_77 (by decide) rfl ?_
                refine aw_iinc cx dX0_standing_79 5 rfl (by decide) (by omega) (fun z79q hz79q => ?_)
                refine aw_loc (loc2 := [(5, aI z79q), (4, aI z76q), (0, aR 22), (1, aI night), (2, aI town), (3, aI z5q)]) rfl ?_
                refine aw_goto (tgt := 27) cx dX0_standing_82 (by decide) ?_
                refine aw_sub [2, 3, 4, 5, 1, 0] rfl ?_
                refine ih27q _ _  ?i_h0 ?i_hs ?i_h1 ?i_m
                case i_h0 =>
                  omega
                case i_hs =>
                  rw [hz79q, sm_i h0q.1]; first | (rw [if_pos (by omega)]; omega) | (rw [if_neg (by omega)]; omega)
                case i_h1 =>
                  omega
                case i_m =>
                  omega
      refine aw_sub [3, 4, 5, 2, 1, 0] rfl ?_
      refine lp27q _ _ _  ?i_h0 ?i_hs ?i_h1 (Nat.lt_succ_self _)
      case i_h0 =>
        omega
      case i_hs =>
        rw [show sm _ (0 : Int).toNat = 0 from rfl]; omega
      case i_h1 =>
        omega
    · refine aw_iconst (n := (-1)) cx dX0_standing_17 (by decide) ?_
      refine aw_iret cx rt dX0_standing_18 ?_
      exact ⟨rfl, congrArg (fun q => some (aI q)) (by unfold STD; rw [if_pos (by omega)])⟩
set_option maxHeartbeats 1000000 in
set_option maxRecDepth 100000 in
theorem ct_X0_weightIn (tl : List CD) (M : Mem) (tk : Nat) (night town : Int) (htk : TK tk) (htl : M 22 6 = (tk : Int)) : Ct 0 mX0_weightIn (LB ++ tl) [aR 22, aI night, aI town] M (fun r M1 => M = M1 ∧ r = some (aI (WIN (M tk 4).toNat (M 24) (M (tk + 1)) (M (tk + 2)) night town))) := by
  refine Ct.of (own := RX0) rfl (by decide +kernel) (Nat.le_of_ble_eq_true rfl) (fun X cx rt => ?_)
  refine aw_eq (loc2 := [(0, aR 22), (1, aI night), (2, aI town)]) ?_ rfl rfl rfl rfl
  refine aw_rngL 1 rfl (fun rl_night rh_night => ?_)
  refine aw_rngL 2 rfl (fun rl_town rh_town => ?_)
  refine aw_ok (fun om => ?_)
  have hsz : 0 ≤ M tk 4 ∧ M tk 4 ≤ 12 := okF om (tkO htk tl) (j := 4) rfl (show (0 : Nat) ≠ 1 by decide)
  have hG : ∀ j, 0 ≤ M 24 j ∧ M 24 j ≤ 3 := okA om (lb_24 tl)
  refine aw_iconst (n := 0) cx dX0_weightIn_0 (by decide) ?_
  refine aw_istore_n (loc2 := [(3, aI 0), (0, aR 22), (1, aI night), (2, aI town)]) cx dX0_weightIn_1 rfl (by decide) rfl ?_
  refine aw_iconst (n := 0) cx dX0_weightIn_2 (by decide) ?_
  refine aw_istore (loc2 := [(4, aI 0), (3, aI 0), (0, aR 22), (1, aI night), (2, aI town)]) cx dX0_weightIn_3 (by decide) rfl ?_
  have lp5q : ∀ (fu : Nat) (x3q : Int) (x4q : Int), (0 ≤ x4q ∧ x4q ≤ M tk 4) → (x3q = sm (fun i => if M (tk + 1) i = night ∧ M (tk + 2) i = town then M 24 i else 0) x4q.toNat) → (0 ≤ x3q ∧ x3q ≤ 3 * x4q) → ((M tk 4 - x4q).toNat) < fu → AW X (LB ++ tl) 5 5 [(0, aR 22), (1, aI night), (2, aI town), (3, aI x3q), (4, aI x4q)] [] M := by
    intro fu
    induction fu with
    | zero =>
      intro x3q x4q h0q hs h1q hm
      exact absurd hm (Nat.not_lt_zero _)
    | succ fu ih5q =>
      intro x3q x4q h0q hs h1q hm
      have hGx := hG x4q.toNat
      refine aw_iload cx dX0_weightIn_5 4 rfl ?_
      refine aw_aload_n cx dX0_weightIn_7 rfl 0 rfl ?_
      refine aw_getD (q := tk) cx dX0_weightIn_8 fl_X0_29 (lb_22 tl) rfl (htl) ?_
      refine aw_getI cx dX0_weightIn_11 fl_X0_43 (tkO htk tl) rfl (fun z11q hz11q lo_z11q hi_z11q => ?_)
      refine aw_icmp_ge (tgt := 61) cx dX0_weightIn_14 (by decide) (fun c14q => ?_) (fun c14q => ?_)
      · refine aw_iload_n cx dX0_weightIn_61 rfl 3 rfl ?_
        refine aw_iret cx rt dX0_weightIn_62 ?_
        exact ⟨rfl, congrArg (fun q => some (aI q)) (by unfold WIN; rw [hs, show x4q = M tk 4 by omega])⟩
      · refine aw_aload_n cx dX0_weightIn_17 rfl 0 rfl ?_
        refine aw_getD (q := tk) cx dX0_weightIn_18 fl_X0_29 (lb_22 tl) rfl (htl) ?_
        refine aw_getR (q := tk + 1) cx dX0_weightIn_21 fl_X0_66 (tkO htk tl) rfl rfl ?_
        refine aw_iload cx dX0_weightIn_24 4 rfl ?_
        refine aw_iald cx dX0_weightIn_26 (tk1 htk tl) (⟨by omega, by omega⟩) (fun z26q hz26q lo_z26q hi_z26q => ?_)
        refine aw_iload_n cx dX0_weightIn_27 rfl 1 rfl ?_
        refine aw_icmp_ne (tgt := 55) cx dX0_weightIn_28 (by decide) (fun c28q => ?_) (fun c28q => ?_)
        · refine aw_iinc cx dX0_weightIn_55 4 rfl (by decide) (by omega) (fun z55q hz55q => ?_)
          refine aw_loc (loc2 := [(4, aI z55q), (0, aR 22), (1, aI night), (2, aI town), (3, aI x3q)]) rfl ?_
          refine aw_goto (tgt := 5) cx dX0_weightIn_58 (by decide) ?_
          refine aw_sub [1, 2, 3, 4, 0] rfl ?_
          refine ih5q _ _  ?i_h0 ?i_hs ?i_h1 ?i_m
          case i_h0 =>
            omega
          case i_hs =>
            rw [hz55q, sm_i h0q.1]; first | (rw [if_pos (by omega)]; omega) | (rw [if_neg (by omega)]; omega)
          case i_h1 =>
            omega
          case i_m =>
            omega
        · refine aw_aload_n cx dX0_weightIn_31 rfl 0 rfl ?_
          refine aw_getD (q := tk) cx dX0_weightIn_32 fl_X0_29 (lb_22 tl) rfl (htl) ?_
          refine aw_getR (q := tk + 2) cx dX0_weightIn_35 fl_X0_63 (tkO htk tl) rfl rfl ?_
          refine aw_iload cx dX0_weightIn_38 4 rfl ?_
          refine aw_iald cx dX0_weightIn_40 (tk2 htk tl) (⟨by omega, by omega⟩) (fun z40q hz40q lo_z40q hi_z40q => ?_)
          refine aw_iload_n cx dX0_weightIn_41 rfl 2 rfl ?_
          refine aw_icmp_ne (tgt := 55) cx dX0_weightIn_42 (by decide) (fun c42q => ?_) (fun c42q => ?_)
          · refine aw_iinc cx dX0_weightIn_55 4 rfl (by decide) (by omega) (fun z55q hz55q => ?_)
            refine aw_loc (loc2 := [(4, aI z55q), (0, aR 22), (1, aI night), (2, aI town), (3, aI x3q)]) rfl ?_
            refine aw_goto (tgt := 5) cx dX0_weightIn_58 (by decide) ?_
            refine aw_sub [1, 2, 3, 4, 0] rfl ?_
            refine ih5q _ _  ?i_h0 ?i_hs ?i_h1 ?i_m
            case i_h0 =>
              omega
            case i_hs =>
              rw [hz55q, sm_i h0q.1]; first | (rw [if_pos (by omega)]; omega) | (rw [if_neg (by omega)]; omega)
            case i_h1 =>
              omega
            case i_m =>
              omega
          · refine aw_iload_n cx dX0_weightIn_45 rfl 3 rfl ?_
            refine aw_aload_n cx dX0_weightIn_46 rfl 0 rfl ?_
            refine aw_getR (q := 24) cx dX0_weightIn_47 fl_X0_15 (lb_22 tl) rfl rfl ?_
            refine aw_iload cx dX0_weightIn_50 4 rfl ?_
            refine aw_iald cx dX0_weightIn_52 (lb_24 tl) (⟨by omega, by omega⟩) (fun z52q hz52q lo_z52q hi_z52q => ?_)
            refine aw_iadd cx dX0_weightIn_53 (by omega) (fun z53q hz53q => ?_)
            refine aw_istore_n (loc2 := [(3, aI z53q), (0, aR 22), (1, aI night), (2, aI town), (4, aI x4q)]) cx dX0_weightIn_54 rfl (by decide) rfl ?_
            refine aw_iinc cx dX0_weightIn_55 4 rfl (by decide) (by omega) (fun z55q hz55q => ?_)
            refine aw_loc (loc2 := [(4, aI z55q), (3, aI z53q), (0, aR 22), (1, aI night), (2, aI town)]) rfl ?_
            refine aw_goto (tgt := 5) cx dX0_weightIn_58 (by decide) ?_
            refine aw_sub [2, 3, 4, 1, 0] rfl ?_
            refine ih5q _ _  ?i_h0 ?i_hs ?i_h1 ?i_m
            case i_h0 =>
              omega
            case i_hs =>
              rw [hz55q, sm_i h0q.1]; first | (rw [if_pos (by omega)]; omega) | (rw [if_neg (by omega)]; omega)
            case i_h1 =>
              omega
            case i_m =>
              omega
  refine aw_sub [2, 3, 4, 1, 0] rfl ?_
  refine lp5q _ _ _  ?i_h0 ?i_hs ?i_h1 (Nat.lt_succ_self _)
  case i_h0 =>
    omega
  case i_hs =>
    rfl
  case i_h1 =>
    omega
set_option maxHeartbeats 1000000 in
set_option maxRecDepth 100000 in
theorem ct_X0_support (tl : List CD) (M : Mem) (tk : Nat) (night town : Int) (htk : TK tk) (htl : M 22 6 = (tk : Int)) (hni : 0 ≤ night ∧ night ≤ 23) (hto : 0 ≤ town ∧ town ≤ 7) : Ct 2 mX0_support (LB ++ tl) [aR 22, aI night, aI town] M (fun r M1 => M = M1 ∧ r = some (aI (SUP (M tk 4).toNat (M 18 3).toNat (M 25) (M 24) (M (tk + 1)) (M (tk + 2)) (M 26) (M 20) (M 21) night town.toNat))) := by
  refine Ct.of (own := RX0) rfl (by decide +kernel) (Nat.le_of_ble_eq_true rfl) (fun X cx rt => ?_)
  refine aw_eq (loc2 := [(0, aR 22), (1, aI night), (2, aI town)]) ?_ rfl rfl rfl rfl
  refine aw_rngL 1 rfl (fun rl_night rh_night => ?_)
  refine aw_rngL 2 rfl (fun rl_town rh_town => ?_)
  refine aw_ok (fun om => ?_)
  have hsz : 0 ≤ M tk 4 ∧ M tk 4 ≤ 12 := okF om (tkO htk tl) (j := 4) rfl (show (0 : Nat) ≠ 1 by decide)
  have hG : ∀ j, 0 ≤ M 24 j ∧ M 24 j ≤ 3 := okA om (lb_24 tl)
  refine aw_aload_n cx dX0_support_0 rfl 0 rfl ?_
  refine aw_iload_n cx dX0_support_1 rfl 1 rfl ?_
  refine aw_iload_n cx dX0_support_2 rfl 2 rfl ?_
  refine aw_callV (as := [aI night, aI town]) (k := 22) (stk := []) cx dX0_support_3 ml_X0_106 mv_X0_weightIn rfl (lb_22 tl) (by decide) rfl rfl (Nat.le_of_ble_eq_true rfl) (ct_X0_weightIn tl M _ _ _ (by first | assumption | omega) (by first | assumption | omega)) (fun rr3q M_3q hp3q => ?_)
  obtain ⟨rfl, rfl⟩ := hp3q
  refine aw_top (stk := []) (fun z3q hz3q => ?_)
  have hr3q : 0 ≤ z3q ∧ z3q ≤ 36 := by rw [hz3q]; exact WIN_in (by omega) hG
  refine aw_istore_n (loc2 := [(3, aI z3q), (0, aR 22), (1, aI night), (2, aI town)]) cx dX0_support_6 rfl (by decide) rfl ?_
  refine aw_iload_n cx dX0_support_7 rfl 0 rfl ?_
  refine aw_if_ne (tgt := 15) cx dX0_support_8 (by decide) (fun c8q => ?_) (fun c8q => ?_)
  · refine aw_iload_n cx dX0_support_15 rfl 0 rfl ?_
    refine aw_aload_n cx dX0_support_16 rfl 1 rfl ?_
    refine aw_iload_n cx dX0_support_17 rfl 2 rfl ?_
    refine aw_iload_n cx dX0_support_18 rfl 3 rfl ?_
    refine aw_callV (as := [aI night, aI town]) (k := 22) (stk := [aI z3q]) cx dX0_support_19 ml_X0_100 mv_X0_standing rfl (lb_22 tl) (by decide) rfl rfl (Nat.le_of_ble_eq_true rfl) (ct_X0_standing tl M _ _ _ (by first | assumption | omega) (by first | assumption | omega) (by first | assumption | omega) (by first | assumption | omega)) (fun rr19q M_19q hp19q => ?_)
    obtain ⟨rfl, rfl⟩ := hp19q
    refine aw_top (stk := [aI z3q]) (fun z19q hz19q => ?_)
    refine aw_callN (as := [aI z19q]) (stk := [aI z3q]) cx dX0_support_22 mn_X0_103 ms_X6_rankBy (by decide) rfl rfl (Nat.le_of_ble_eq_true rfl) (ct_X6_rankBy tl M _ ) (fun rr22q M_22q hp22q => ?_)
    obtain ⟨rfl, rfl⟩ := hp22q
    refine aw_top (stk := [aI z3q]) (fun z22q hz22q => ?_)
    have hrz22q : 0 ≤ z22q ∧ z22q ≤ 3 := by rw [hz22q]; exact RNK_in _
    refine aw_imul cx dX0_support_25 (by have q := mulb hr3q hrz22q; omega) (fun z25q hz25q => ?_)
    refine aw_iret cx rt dX0_support_26 ?_
    exact ⟨rfl, congrArg (fun q => some (aI q)) (by unfold SUP; rw [show ((town.toNat : Nat) : Int) = town by omega, ← hz3q]; first | rw [c8q, Int.zero_mul] | rw [hz25q, hz22q, hz19q])⟩
  · refine aw_iconst (n := 0) cx dX0_support_11 (by decide) ?_
    refine aw_goto (tgt := 26) cx dX0_support_12 (by decide) ?_
    refine aw_iret cx rt dX0_support_26 ?_
    exact ⟨rfl, congrArg (fun q => some (aI q)) (by unfold SUP; rw [show ((town.toNat : Nat) : Int) = town by omega, ← hz3q]; first | rw [c8q, Int.zero_mul] | rw [hz25q, hz22q, hz19q])⟩
set_option maxHeartbeats 1000000 in
set_option maxRecDepth 100000 in
theorem ct_X0_trust (tl : List CD) (M : Mem) (tk : Nat) (night own : Int) (htk : TK tk) (htl : M 22 6 = (tk : Int)) (hni : 0 ≤ night ∧ night ≤ 23) (how : 0 ≤ own ∧ own ≤ 7) : Ct 3 mX0_trust (LB ++ tl) [aR 22, aI night, aI own] M (fun r M1 => M = M1 ∧ r = some (aI (MXO (SUP (M tk 4).toNat (M 18 3).toNat (M 25) (M 24) (M (tk + 1)) (M (tk + 2)) (M 26) (M 20) (M 21) night) own 8 - WIN (M tk 4).toNat (M 24) (M (tk + 1)) (M (tk + 2)) night own))) := by
  refine Ct.of (own := RX0) rfl (by decide +kernel) (Nat.le_of_ble_eq_true rfl) (fun X cx rt => ?_)
  refine aw_eq (loc2 := [(0, aR 22), (1, aI night), (2, aI own)]) ?_ rfl rfl rfl rfl
  refine aw_rngL 1 rfl (fun rl_night rh_night => ?_)
  refine aw_rngL 2 rfl (fun rl_own rh_own => ?_)
  refine aw_ok (fun om => ?_)
  have hsz : 0 ≤ M tk 4 ∧ M tk 4 ≤ 12 := okF om (tkO htk tl) (j := 4) rfl (show (0 : Nat) ≠ 1 by decide)
  have hG : ∀ j, 0 ≤ M 24 j ∧ M 24 j ≤ 3 := okA om (lb_24 tl)
  refine aw_iconst (n := 0) cx dX0_trust_0 (by decide) ?_
  refine aw_istore_n (loc2 := [(3, aI 0), (0, aR 22), (1, aI night), (2, aI own)]) cx dX0_trust_1 rfl (by decide) rfl ?_
  refine aw_iconst (n := 0) cx dX0_trust_2 (by decide) ?_
  refine aw_istore (loc2 := [(4, aI 0), (3, aI 0), (0, aR 22), (1, aI night), (2, aI own)]) cx dX0_trust_3 (by decide) rfl ?_
  have lp5q : ∀ (fu : Nat) (x3q : Int) (x4q : Int), (0 ≤ x4q ∧ x4q ≤ 8) → (x3q = MXO (SUP (M tk 4).toNat (M 18 3).toNat (M 25) (M 24) (M (tk + 1)) (M (tk + 2)) (M 26) (M 20) (M 21) night) own x4q.toNat) → (0 ≤ x3q ∧ x3q ≤ 108) → ((8 - x4q).toNat) < fu → AW X (LB ++ tl) 5 5 [(0, aR 22), (1, aI night), (2, aI own), (3, aI x3q), (4, aI x4q)] [] M := by
    intro fu
    induction fu with
    | zero =>
      intro x3q x4q h0q hs h1q hm
      exact absurd hm (Nat.not_lt_zero _)
    | succ fu ih5q =>
      intro x3q x4q h0q hs h1q hm
      refine aw_iload cx dX0_trust_5 4 rfl ?_
      refine aw_bipush (n := 8) cx dX0_trust_7 (by decide) ?_
      refine aw_icmp_ge (tgt := 36) cx dX0_trust_9 (by decide) (fun c9q => ?_) (fun c9q => ?_)
      · refine aw_iload_n cx dX0_trust_36 rfl 3 rfl ?_
        refine aw_aload_n cx dX0_trust_37 rfl 0 rfl ?_
        refine aw_iload_n cx dX0_trust_38 rfl 1 rfl ?_
        refine aw_iload_n cx dX0_trust_39 rfl 2 rfl ?_
        refine aw_callV (as := [aI night, aI own]) (k := 22) (stk := [aI x3q]) cx dX0_trust_40 ml_X0_106 mv_X0_weightIn rfl (lb_22 tl) (by decide) rfl rfl (Nat.le_of_ble_eq_true rfl) (ct_X0_weightIn tl M _ _ _ (by first | assumption | omega) (by first | assumption | omega)) (fun rr40q M_40q hp40q => ?_)
        obtain ⟨rfl, rfl⟩ := hp40q
        refine aw_top (stk := [aI x3q]) (fun z40q hz40q => ?_)
        have hr40q : 0 ≤ z40q ∧ z40q ≤ 36 := by rw [hz40q]; exact WIN_in (by omega) hG
        refine aw_isub cx dX0_trust_43 (by omega) (fun z43q hz43q => ?_)
        refine aw_iret cx rt dX0_trust_44 ?_
        exact ⟨rfl, congrArg (fun q => some (aI q)) (by rw [hz43q, hs, hz40q, show x4q = 8 by omega]; rfl)⟩
      · refine aw_iload cx dX0_trust_12 4 rfl ?_
        refine aw_iload_n cx dX0_trust_14 rfl 2 rfl ?_
        refine aw_icmp_eq (tgt := 30) cx dX0_trust_15 (by decide) (fun c15q => ?_) (fun c15q => ?_)
        · refine aw_iinc cx dX0_trust_30 4 rfl (by decide) (by omega) (fun z30q hz30q => ?_)
          refine aw_loc (loc2 := [(4, aI z30q), (0, aR 22), (1, aI night), (2, aI own), (3, aI x3q)]) rfl ?_
          refine aw_goto (tgt := 5) cx dX0_trust_33 (by decide) ?_
          refine aw_sub [1, 2, 3, 4, 0] rfl ?_
          refine ih5q _ _  ?i_h0 ?i_hs ?i_h1 ?i_m
          case i_h0 =>
            omega
          case i_hs =>
            rw [hz30q, MXO_i h0q.1]; first | rw [if_pos (by omega), hs] | rw [if_neg (by omega), hz26q, ← hs, hz23q]
          case i_h1 =>
            omega
          case i_m =>
            omega
        · refine aw_iload_n cx dX0_trust_18 rfl 3 rfl ?_
          refine aw_aload_n cx dX0_trust_19 rfl 0 rfl ?_
          refine aw_iload_n cx dX0_trust_20 rfl 1 rfl ?_
          refine aw_iload cx dX0_trust_21 4 rfl ?_
          refine aw_callV (as := [aI night, aI x4q]) (k := 22) (stk := [aI x3q]) cx dX0_trust_23 ml_X0_109 mv_X0_support rfl (lb_22 tl) (by decide) rfl rfl (Nat.le_of_ble_eq_true rfl) (ct_X0_support tl M _ _ _ (by first | assumption | omega) (by first | assumption | omega) (by first | assumption | omega) (by first | assumption | omega)) (fun rr23q M_23q hp23q => ?_)
          obtain ⟨rfl, rfl⟩ := hp23q
          refine aw_top (stk := [aI x3q]) (fun z23q hz23q => ?_)
          have hr23q : 0 ≤ z23q ∧ z23q ≤ 108 := by rw [hz23q]; exact SUP_in (by omega) hG _
          refine aw_mmax (stk := []) cx dX0_trust_26 ml_X0_112 (by decide) (Nat.le_of_ble_eq_true rfl) (fun z26q hz26q => ?_)
          refine aw_istore_n (loc2 := [(3, aI z26q), (0, aR 22), (1, aI night), (2, aI own), (4, aI x4q)]) cx dX0_trust_29 rfl (by decide) rfl ?_
          refine aw_iinc cx dX0_trust_30 4 rfl (by decide) (by omega) (fun z30q hz30q => ?_)
          refine aw_loc (loc2 := [(4, aI z30q), (3, aI z26q), (0, aR 22), (1, aI night), (2, aI own)]) rfl ?_
          refine aw_goto (tgt := 5) cx dX0_trust_33 (by decide) ?_
          refine aw_sub [2, 3, 4, 1, 0] rfl ?_
          refine ih5q _ _  ?i_h0 ?i_hs ?i_h1 ?i_m
          case i_h0 =>
            omega
          case i_hs =>
            rw [hz30q, MXO_i h0q.1]; first | rw [if_pos (by omega), hs] | rw [if_neg (by omega), hz26q, ← hs, hz23q]
          case i_h1 =>
            omega
          case i_m =>
            omega
  refine aw_sub [2, 3, 4, 1, 0] rfl ?_
  refine lp5q _ _ _  ?i_h0 ?i_hs ?i_h1 (Nat.lt_succ_self _)
  case i_h0 =>
    omega
  case i_hs =>
    rfl
  case i_h1 =>
    omega
set_option maxHeartbeats 1000000 in
set_option maxRecDepth 100000 in
theorem ct_X0_trustedTown (tl : List CD) (M : Mem) (tk : Nat) (night own : Int) (htk : TK tk) (htl : M 22 6 = (tk : Int)) (hni : 0 ≤ night ∧ night ≤ 23) (how : 0 ≤ own ∧ own ≤ 7) : Ct 3 mX0_trustedTown (LB ++ tl) [aR 22, aI night, aI own] M (fun r M1 => M = M1 ∧ ∃ x, r = some (aI x) ∧ ∃ y, AMX (GX own (SUP (M tk 4).toNat (M 18 3).toNat (M 25) (M 24) (M (tk + 1)) (M (tk + 2)) (M 26) (M 20) (M 21) night)) (-1) 8 x y) := by
  refine Ct.of (own := RX0) rfl (by decide +kernel) (Nat.le_of_ble_eq_true rfl) (fun X cx rt => ?_)
  refine aw_eq (loc2 := [(0, aR 22), (1, aI night), (2, aI own)]) ?_ rfl rfl rfl rfl
  refine aw_rngL 1 rfl (fun rl_night rh_night => ?_)
  refine aw_rngL 2 rfl (fun rl_own rh_own => ?_)
  refine aw_ok (fun om => ?_)
  have hsz : 0 ≤ M tk 4 ∧ M tk 4 ≤ 12 := okF om (tkO htk tl) (j := 4) rfl (show (0 : Nat) ≠ 1 by decide)
  have hG : ∀ j, 0 ≤ M 24 j ∧ M 24 j ≤ 3 := okA om (lb_24 tl)
  refine aw_iconst (n := (-1)) cx dX0_trustedTown_0 (by decide) ?_
  refine aw_istore_n (loc2 := [(3, aI ((-1))), (0, aR 22), (1, aI night), (2, aI own)]) cx dX0_trustedTown_1 rfl (by decide) rfl ?_
  refine aw_iconst (n := (-1)) cx dX0_trustedTown_2 (by decide) ?_
  refine aw_istore (loc2 := [(4, aI ((-1))), (3, aI ((-1))), (0, aR 22), (1, aI night), (2, aI own)]) cx dX0_trustedTown_3 (by decide) rfl ?_
  refine aw_iconst (n := 0) cx dX0_trustedTown_5 (by decide) ?_
  refine aw_istore (loc2 := [(5, aI 0), (4, aI ((-1))), (3, aI ((-1))), (0, aR 22), (1, aI night), (2, aI own)]) cx dX0_trustedTown_6 (by decide) rfl ?_
  have lp8q : ∀ (fu : Nat) (x3q : Int) (x4q : Int) (x5q : Int), (0 ≤ x5q ∧ x5q ≤ 8) → (AMX (GX own (SUP (M tk 4).toNat (M 18 3).toNat (M 25) (M 24) (M (tk + 1)) (M (tk + 2)) (M 26) (M 20) (M 21) night)) (-1) x5q.toNat x3q x4q) → ((8 - x5q).toNat) < fu → AW X (LB ++ tl) 7 8 [(0, aR 22), (1, aI night), (2, aI own), (3, aI x3q), (4, aI x4q), (5, aI x5q)] [] M := by
    intro fu
    induction fu with
    | zero =>
      intro x3q x4q x5q h0q hs hm
      exact absurd hm (Nat.not_lt_zero _)
    | succ fu ih8q =>
      intro x3q x4q x5q h0q hs hm
      refine aw_iload cx dX0_trustedTown_8 5 rfl ?_
      refine aw_bipush (n := 8) cx dX0_trustedTown_10 (by decide) ?_
      refine aw_icmp_ge (tgt := 54) cx dX0_trustedTown_12 (by decide) (fun c12q => ?_) (fun c12q => ?_)
      · refine aw_iload_n cx dX0_trustedTown_54 rfl 3 rfl ?_
        refine aw_iret cx rt dX0_trustedTown_55 ?_
        exact ⟨rfl, x3q, rfl, x4q, by rw [show x5q = 8 by omega] at hs; exact hs⟩
      · refine aw_iload cx dX0_trustedTown_15 5 rfl ?_
        refine aw_iload_n cx dX0_trustedTown_17 rfl 2 rfl ?_
        refine aw_icmp_ne (tgt := 25) cx dX0_trustedTown_18 (by decide) (fun c18q => ?_) (fun c18q => ?_)
        · refine aw_aload_n cx dX0_trustedTown_25 rfl 0 rfl ?_
          refine aw_iload_n cx dX0_trustedTown_26 rfl 1 rfl ?_
          refine aw_iload cx dX0_trustedTown_27 5 rfl ?_
          refine aw_callV (as := [aI night, aI x5q]) (k := 22) (stk := []) cx dX0_trustedTown_29 ml_X0_109 mv_X0_support rfl (lb_22 tl) (by decide) rfl rfl (Nat.le_of_ble_eq_true rfl) (ct_X0_support tl M _ _ _ (by first | assumption | omega) (by first | assumption | omega) (by first | assumption | omega) (by first | assumption | omega)) (fun rr29q M_29q hp29q => ?_)
          obtain ⟨rfl, rfl⟩ := hp29q
          refine aw_top (stk := []) (fun z29q hz29q => ?_)
          refine aw_istore (loc2 := [(6, aI z29q), (0, aR 22), (1, aI night), (2, aI own), (3, aI x3q), (4, aI x4q), (5, aI x5q)]) cx dX0_trustedTown_32 (by decide) rfl ?_
          refine aw_iload cx dX0_trustedTown_34 0 rfl ?_
          refine aw_iload cx dX0_trustedTown_36 5 rfl ?_
          refine aw_icmp_le (tgt := 48) cx dX0_trustedTown_38 (by decide) (fun c38q => ?_) (fun c38q => ?_)
          · refine aw_iinc cx dX0_trustedTown_48 6 rfl (by decide) (by omega) (fun z48q hz48q => ?_)
            refine aw_loc (loc2 := [(5, aI z48q), (6, aI z29q), (0, aR 22), (1, aI night), (2, aI own), (3, aI x3q), (4, aI x4q)]) rfl ?_
            refine aw_goto (tgt := 8) cx dX0_trustedTown_51 (by decide) ?_
            refine aw_sub [2, 3, 4, 5, 6, 0] rfl ?_
            refine ih8q _ _ _  ?i_h0 ?i_hs ?i_m
            case i_h0 =>
              omega
            case i_hs =>
              rw [hz48q]; exact AMX_no h0q.1 hs (by first | (rw [GX_own h0q.1 (by omega)]; omega) | (rw [GX_ne h0q.1 (by omega), ← hz29q]; omega))
            case i_m =>
              omega
          · refine aw_iload cx dX0_trustedTown_41 6 rfl ?_
            refine aw_istore_n (loc2 := [(3, aI x5q), (6, aI z29q), (0, aR 22), (1, aI night), (2, aI own), (4, aI x4q), (5, aI x5q)]) cx dX0_trustedTown_43 rfl (by decide) rfl ?_
            refine aw_iload cx dX0_trustedTown_44 1 rfl ?_
            refine aw_istore (loc2 := [(4, aI z29q), (3, aI x5q), (6, aI z29q), (0, aR 22), (1, aI night), (2, aI own), (5, aI x5q)]) cx dX0_trustedTown_46 (by decide) rfl ?_
            refine aw_iinc cx dX0_trustedTown_48 6 rfl (by decide) (by omega) (fun z48q hz48q => ?_)
            refine aw_loc (loc2 := [(5, aI z48q), (4, aI z29q), (3, aI x5q), (6, aI z29q), (0, aR 22), (1, aI night), (2, aI own)]) rfl ?_
            refine aw_goto (tgt := 8) cx dX0_trustedTown_51 (by decide) ?_
            refine aw_sub [4, 5, 6, 2, 1, 0] rfl ?_
            refine ih8q _ _ _  ?i_h0 ?i_hs ?i_m
            case i_h0 =>
              omega
            case i_hs =>
              rw [hz48q, hz29q, ← GX_ne (own := own) (f := SUP (M tk 4).toNat (M 18 3).toNat (M 25) (M 24) (M (tk + 1)) (M (tk + 2)) (M 26) (M 20) (M 21) night) h0q.1 (by omega)]; exact AMX_up h0q.1 hs (by rw [GX_ne h0q.1 (by omega), ← hz29q]; omega)
            case i_m =>
              omega
        · refine aw_iconst (n := (-1)) cx dX0_trustedTown_21 (by decide) ?_
          refine aw_goto (tgt := 32) cx dX0_trustedTown_22 (by decide) ?_
          refine aw_istore (loc2 := [(6, aI ((-1))), (0, aR 22), (1, aI night), (2, aI own), (3, aI x3q), (4, aI x4q), (5, aI x5q)]) cx dX0_trustedTown_32 (by decide) rfl ?_
          refine aw_iload cx dX0_trustedTown_34 0 rfl ?_
          refine aw_iload cx dX0_trustedTown_36 5 rfl ?_
          refine aw_icmp_le (tgt := 48) cx dX0_trustedTown_38 (by decide) (fun c38q => ?_) (fun c38q => ?_)
          · refine aw_iinc cx dX0_trustedTown_48 6 rfl (by decide) (by omega) (fun z48q hz48q => ?_)
            refine aw_loc (loc2 := [(5, aI z48q), (6, aI ((-1))), (0, aR 22), (1, aI night), (2, aI own), (3, aI x3q), (4, aI x4q)]) rfl ?_
            refine aw_goto (tgt := 8) cx dX0_trustedTown_51 (by decide) ?_
            refine aw_sub [2, 3, 4, 5, 6, 0] rfl ?_
            refine ih8q _ _ _  ?i_h0 ?i_hs ?i_m
            case i_h0 =>
              omega
            case i_hs =>
              rw [hz48q]; exact AMX_no h0q.1 hs (by first | (rw [GX_own h0q.1 (by omega)]; omega) | (rw [GX_ne h0q.1 (by omega), ← hz29q]; omega))
            case i_m =>
              omega
          · refine aw_iload cx dX0_trustedTown_41 6 rfl ?_
            refine aw_istore_n (loc2 := [(3, aI x5q), (6, aI ((-1))), (0, aR 22), (1, aI night), (2, aI own), (4, aI x4q), (5, aI x5q)]) cx dX0_trustedTown_43 rfl (by decide) rfl ?_
            refine aw_iload cx dX0_trustedTown_44 1 rfl ?_
            refine aw_istore (loc2 := [(4, aI ((-1))), (3, aI x5q), (6, aI ((-1))), (0, aR 22), (1, aI night), (2, aI own), (5, aI x5q)]) cx dX0_trustedTown_46 (by decide) rfl ?_
            refine aw_iinc cx dX0_trustedTown_48 6 rfl (by decide) (by omega) (fun z48q hz48q => ?_)
            refine aw_loc (loc2 := [(5, aI z48q), (4, aI ((-1))), (3, aI x5q), (6, aI ((-1))), (0, aR 22), (1, aI night), (2, aI own)]) rfl ?_
            refine aw_goto (tgt := 8) cx dX0_trustedTown_51 (by decide) ?_
            refine aw_sub [4, 5, 6, 2, 1, 0] rfl ?_
            refine ih8q _ _ _  ?i_h0 ?i_hs ?i_m
            case i_h0 =>
              omega
            case i_hs =>
              exact absurd (AMX_ge hs) (by omega)
            case i_m =>
              omega
  refine aw_sub [3, 4, 5, 2, 1, 0] rfl ?_
  refine lp8q _ _ _ _  ?i_h0 ?i_hs (Nat.lt_succ_self _)
  case i_h0 =>
    omega
  case i_hs =>
    exact AMX_0 _ _
set_option maxHeartbeats 1000000 in
set_option maxRecDepth 100000 in
theorem ct_X0_menOfRank (tl : List CD) (M : Mem) (tk : Nat) (least : Int) (htk : TK tk) (htl : M 22 6 = (tk : Int)) : Ct 2 mX0_menOfRank (LB ++ tl) [aR 22, aI least] M (fun r M1 => M = M1 ∧ r = some (aI (sm (fun t => b2 (least ≤ RNK (STD (M tk 4).toNat (M 18 3).toNat (M 25 t) (M 24) (M (tk + 1)) (M (tk + 2)) (M 26) (M 20) (M 21) 23 (t : Int)))) 8))) := by
  refine Ct.of (own := RX0) rfl (by decide +kernel) (Nat.le_of_ble_eq_true rfl) (fun X cx rt => ?_)
  refine aw_eq (loc2 := [(0, aR 22), (1, aI least)]) ?_ rfl rfl rfl rfl
  refine aw_rngL 1 rfl (fun rl_least rh_least => ?_)
  refine aw_iconst (n := 0) cx dX0_menOfRank_0 (by decide) ?_
  refine aw_istore_n (loc2 := [(2, aI 0), (0, aR 22), (1, aI least)]) cx dX0_menOfRank_1 rfl (by decide) rfl ?_
  refine aw_iconst (n := 0) cx dX0_menOfRank_2 (by decide) ?_
  refine aw_istore_n (loc2 := [(3, aI 0), (2, aI 0), (0, aR 22), (1, aI least)]) cx dX0_menOfRank_3 rfl (by decide) rfl ?_
  have lp4q : ∀ (fu : Nat) (x2q : Int) (x3q : Int), (0 ≤ x3q ∧ x3q ≤ 8) → (x2q = sm (fun t => b2 (least ≤ RNK (STD (M tk 4).toNat (M 18 3).toNat (M 25 t) (M 24) (M (tk + 1)) (M (tk + 2)) (M 26) (M 20) (M 21) 23 (t : Int)))) x3q.toNat) → (0 ≤ x2q ∧ x2q ≤ x3q) → ((8 - x3q).toNat) < fu → AW X (LB ++ tl) 4 4 [(0, aR 22), (1, aI least), (2, aI x2q), (3, aI x3q)] [] M := by
    intro fu
    induction fu with
    | zero =>
      intro x2q x3q h0q hs h1q hm
      exact absurd hm (Nat.not_lt_zero _)
    | succ fu ih4q =>
      intro x2q x3q h0q hs h1q hm
      refine aw_iload_n cx dX0_menOfRank_4 rfl 3 rfl ?_
      refine aw_bipush (n := 8) cx dX0_menOfRank_5 (by decide) ?_
      refine aw_icmp_ge (tgt := 33) cx dX0_menOfRank_7 (by decide) (fun c7q => ?_) (fun c7q => ?_)
      · refine aw_iload_n cx dX0_menOfRank_33 rfl 2 rfl ?_
        refine aw_iret cx rt dX0_menOfRank_34 ?_
        exact ⟨rfl, congrArg (fun q => some (aI q)) (by rw [hs, show x3q = 8 by omega]; rfl)⟩
      · refine aw_aload_n cx dX0_menOfRank_10 rfl 0 rfl ?_
        refine aw_bipush (n := 23) cx dX0_menOfRank_11 (by decide) ?_
        refine aw_iload_n cx dX0_menOfRank_13 rfl 3 rfl ?_
        refine aw_callV (as := [aI 23, aI x3q]) (k := 22) (stk := []) cx dX0_menOfRank_14 ml_X0_100 mv_X0_standing rfl (lb_22 tl) (by decide) rfl rfl (Nat.le_of_ble_eq_true rfl) (ct_X0_standing tl M _ _ _ (by first | assumption | omega) (by first | assumption | omega) (by first | assumption | omega) (by first | assumption | omega)) (fun rr14q M_14q hp14q => ?_)
        obtain ⟨rfl, rfl⟩ := hp14q
        refine aw_top (stk := []) (fun z14q hz14q => ?_)
        refine aw_callN (as := [aI z14q]) (stk := []) cx dX0_menOfRank_17 mn_X0_103 ms_X6_rankBy (by decide) rfl rfl (Nat.le_of_ble_eq_true rfl) (ct_X6_rankBy tl M _ ) (fun rr17q M_17q hp17q => ?_)
        obtain ⟨rfl, rfl⟩ := hp17q
        refine aw_top (stk := []) (fun z17q hz17q => ?_)
        have hrz17q : 0 ≤ z17q ∧ z17q ≤ 3 := by rw [hz17q]; exact RNK_in _
        refine aw_iload_n cx dX0_menOfRank_20 rfl 1 rfl ?_
        refine aw_icmp_lt (tgt := 27) cx dX0_menOfRank_21 (by decide) (fun c21q => ?_) (fun c21q => ?_)
        · refine aw_iinc cx dX0_menOfRank_27 3 rfl (by decide) (by omega) (fun z27q hz27q => ?_)
          refine aw_loc (loc2 := [(3, aI z27q), (0, aR 22), (1, aI least), (2, aI x2q)]) rfl ?_
          refine aw_goto (tgt := 4) cx dX0_menOfRank_30 (by decide) ?_
          refine aw_sub [1, 2, 3, 0] rfl ?_
          refine ih4q _ _  ?i_h0 ?i_hs ?i_h1 ?i_m
          case i_h0 =>
            omega
          case i_hs =>
            rw [hz27q, sm_i h0q.1, show ((x3q.toNat : Nat) : Int) = x3q by omega, ← hz14q, ← hz17q]; first | (rw [b2_t (by omega)]; omega) | (rw [b2_f (by omega)]; omega)
          case i_h1 =>
            omega
          case i_m =>
            omega
        · refine aw_iinc cx dX0_menOfRank_24 2 rfl (by decide) (by omega) (fun z24q hz24q => ?_)
          refine aw_loc (loc2 := [(2, aI z24q), (0, aR 22), (1, aI least), (3, aI x3q)]) rfl ?_
          refine aw_iinc cx dX0_menOfRank_27 3 rfl (by decide) (by omega) (fun z27q hz27q => ?_)
          refine aw_loc (loc2 := [(3, aI z27q), (2, aI z24q), (0, aR 22), (1, aI least)]) rfl ?_
          refine aw_goto (tgt := 4) cx dX0_menOfRank_30 (by decide) ?_
          refine aw_sub [2, 3, 1, 0] rfl ?_
          refine ih4q _ _  ?i_h0 ?i_hs ?i_h1 ?i_m
          case i_h0 =>
            omega
          case i_hs =>
            rw [hz27q, sm_i h0q.1, show ((x3q.toNat : Nat) : Int) = x3q by omega, ← hz14q, ← hz17q]; first | (rw [b2_t (by omega)]; omega) | (rw [b2_f (by omega)]; omega)
          case i_h1 =>
            omega
          case i_m =>
            omega
  refine aw_sub [2, 3, 1, 0] rfl ?_
  refine lp4q _ _ _  ?i_h0 ?i_hs ?i_h1 (Nat.lt_succ_self _)
  case i_h0 =>
    omega
  case i_hs =>
    rfl
  case i_h1 =>
    omega
set_option maxHeartbeats 1000000 in
set_option maxRecDepth 100000 in
theorem ct_X0_swornTowns (tl : List CD) (M : Mem) (tk : Nat) (night : Int) (htk : TK tk) (htl : M 22 6 = (tk : Int)) : Ct 0 mX0_swornTowns (LB ++ tl) [aR 22, aI night] M (fun r M1 => M = M1 ∧ r = some (aI (SWF (M 23) (M (tk + 4)) (M (tk + 1)) (M (tk + 2)) night (M tk 4).toNat))) := by
  refine Ct.of (own := RX0) rfl (by decide +kernel) (Nat.le_of_ble_eq_true rfl) (fun X cx rt => ?_)
  refine aw_eq (loc2 := [(0, aR 22), (1, aI night)]) ?_ rfl rfl rfl rfl
  refine aw_rngL 1 rfl (fun rl_night rh_night => ?_)
  refine aw_ok (fun om => ?_)
  have hsz : 0 ≤ M tk 4 ∧ M tk 4 ≤ 12 := okF om (tkO htk tl) (j := 4) rfl (show (0 : Nat) ≠ 1 by decide)
  have hTT := okA om (tk2 htk tl)
  refine aw_sipush (n := 255) cx dX0_swornTowns_0 (by decide) ?_
  refine aw_istore_n (loc2 := [(2, aI 255), (0, aR 22), (1, aI night)]) cx dX0_swornTowns_3 rfl (by decide) rfl ?_
  refine aw_iconst (n := 0) cx dX0_swornTowns_4 (by decide) ?_
  refine aw_istore_n (loc2 := [(3, aI 0), (2, aI 255), (0, aR 22), (1, aI night)]) cx dX0_swornTowns_5 rfl (by decide) rfl ?_
  have lp6q : ∀ (fu : Nat) (x2q : Int) (x3q : Int), (0 ≤ x3q ∧ x3q ≤ M tk 4) → (x2q = SWF (M 23) (M (tk + 4)) (M (tk + 1)) (M (tk + 2)) night x3q.toNat) → ((M tk 4 - x3q).toNat) < fu → AW X (LB ++ tl) 4 6 [(0, aR 22), (1, aI night), (2, aI x2q), (3, aI x3q)] [] M := by
    intro fu
    induction fu with
    | zero =>
      intro x2q x3q h0q hs hm
      exact absurd hm (Nat.not_lt_zero _)
    | succ fu ih6q =>
      intro x2q x3q h0q hs hm
      refine aw_iload_n cx dX0_swornTowns_6 rfl 3 rfl ?_
      refine aw_aload_n cx dX0_swornTowns_7 rfl 0 rfl ?_
      refine aw_getD (q := tk) cx dX0_swornTowns_8 fl_X0_29 (lb_22 tl) rfl (htl) ?_
      refine aw_getI cx dX0_swornTowns_11 fl_X0_43 (tkO htk tl) rfl (fun z11q hz11q lo_z11q hi_z11q => ?_)
      refine aw_icmp_ge (tgt := 71) cx dX0_swornTowns_14 (by decide) (fun c14q => ?_) (fun c14q => ?_)
      · refine aw_iload_n cx dX0_swornTowns_71 rfl 2 rfl ?_
        refine aw_iret cx rt dX0_swornTowns_72 ?_
        exact ⟨rfl, congrArg (fun q => some (aI q)) (by rw [hs, show x3q = M tk 4 by omega])⟩
      · refine aw_aload_n cx dX0_swornTowns_17 rfl 0 rfl ?_
        refine aw_getR (q := 23) cx dX0_swornTowns_18 fl_X0_9 (lb_22 tl) rfl rfl ?_
        refine aw_iload_n cx dX0_swornTowns_21 rfl 3 rfl ?_
        refine aw_zald cx dX0_swornTowns_22 (lb_23 tl) (⟨by omega, by omega⟩) (fun z22q hz22q lo_z22q hi_z22q => ?_)
        refine aw_if_eq (tgt := 65) cx dX0_swornTowns_23 (by decide) (fun c23q => ?_) (fun c23q => ?_)
        · refine aw_iinc cx dX0_swornTowns_65 3 rfl (by decide) (by omega) (fun z65q hz65q => ?_)
          refine aw_loc (loc2 := [(3, aI z65q), (0, aR 22), (1, aI night), (2, aI x2q)]) rfl ?_
          refine aw_goto (tgt := 6) cx dX0_swornTowns_68 (by decide) ?_
          refine aw_sub [1, 2, 3, 0] rfl ?_
          refine ih6q _ _  ?i_h0 ?i_hs ?i_m
          case i_h0 =>
            omega
          case i_hs =>
            rw [hz65q, SWF_i h0q.1]; first | (rw [if_neg (by omega)]; exact hs) | (rw [if_pos (by omega), hz63q, hz62q, hz61q, hs])
          case i_m =>
            omega
        · refine aw_aload_n cx dX0_swornTowns_26 rfl 0 rfl ?_
          refine aw_getD (q := tk) cx dX0_swornTowns_27 fl_X0_29 (lb_22 tl) rfl (htl) ?_
          refine aw_getR (q := tk + 4) cx dX0_swornTowns_30 fl_X0_80 (tkO htk tl) rfl rfl ?_
          refine aw_iload_n cx dX0_swornTowns_33 rfl 3 rfl ?_
          refine aw_iald cx dX0_swornTowns_34 (tk4 htk tl) (⟨by omega, by omega⟩) (fun z34q hz34q lo_z34q hi_z34q => ?_)
          refine aw_if_ne (tgt := 65) cx dX0_swornTowns_35 (by decide) (fun c35q => ?_) (fun c35q => ?_)
          · refine aw_iinc cx dX0_swornTowns_65 3 rfl (by decide) (by omega) (fun z65q hz65q => ?_)
            refine aw_loc (loc2 := [(3, aI z65q), (0, aR 22), (1, aI night), (2, aI x2q)]) rfl ?_
            refine aw_goto (tgt := 6) cx dX0_swornTowns_68 (by decide) ?_
            refine aw_sub [1, 2, 3, 0] rfl ?_
            refine ih6q _ _  ?i_h0 ?i_hs ?i_m
            case i_h0 =>
              omega
            case i_hs =>
              rw [hz65q, SWF_i h0q.1]; first | (rw [if_neg (by omega)]; exact hs) | (rw [if_pos (by omega), hz63q, hz62q, hz61q, hs])
            case i_m =>
              omega
          · refine aw_aload_n cx dX0_swornTowns_38 rfl 0 rfl ?_
            refine aw_getD (q := tk) cx dX0_swornTowns_39 fl_X0_29 (lb_22 tl) rfl (htl) ?_
            refine aw_getR (q := tk + 1) cx dX0_swornTowns_42 fl_X0_66 (tkO htk tl) rfl rfl ?_
            refine aw_iload_n cx dX0_swornTowns_45 rfl 3 rfl ?_
            refine aw_iald cx dX0_swornTowns_46 (tk1 htk tl) (⟨by omega, by omega⟩) (fun z46q hz46q lo_z46q hi_z46q => ?_)
            refine aw_iload_n cx dX0_swornTowns_47 rfl 1 rfl ?_
            refine aw_icmp_ne (tgt := 65) cx dX0_swornTowns_48 (by decide) (fun c48q => ?_) (fun c48q => ?_)
            · refine aw_iinc cx dX0_swornTowns_65 3 rfl (by decide) (by omega) (fun z65q hz65q => ?_)
              refine aw_loc (loc2 := [(3, aI z65q), (0, aR 22), (1, aI night), (2, aI x2q)]) rfl ?_
              refine aw_goto (tgt := 6) cx dX0_swornTowns_68 (by decide) ?_
              refine aw_sub [1, 2, 3, 0] rfl ?_
              refine ih6q _ _  ?i_h0 ?i_hs ?i_m
              case i_h0 =>
                omega
              case i_hs =>
                rw [hz65q, SWF_i h0q.1]; first | (rw [if_neg (by omega)]; exact hs) | (rw [if_pos (by omega), hz63q, hz62q, hz61q, hs])
              case i_m =>
                omega
            · refine aw_iload_n cx dX0_swornTowns_51 rfl 2 rfl ?_
              refine aw_iconst (n := 1) cx dX0_swornTowns_52 (by decide) ?_
              refine aw_aload_n cx dX0_swornTowns_53 rfl 0 rfl ?_
              refine aw_getD (q := tk) cx dX0_swornTowns_54 fl_X0_29 (lb_22 tl) rfl (htl) ?_
              refine aw_getR (q := tk + 2) cx dX0_swornTowns_57 fl_X0_63 (tkO htk tl) rfl rfl ?_
              refine aw_iload_n cx dX0_swornTowns_60 rfl 3 rfl ?_
              refine aw_iald cx dX0_swornTowns_61 (tk2 htk tl) (⟨by omega, by omega⟩) (fun z61q hz61q lo_z61q hi_z61q => ?_)
              refine aw_ishl cx dX0_swornTowns_62 (fun z62q hz62q => ?_)
              refine aw_iand cx dX0_swornTowns_63 (fun z63q hz63q => ?_)
              refine aw_istore_n (loc2 := [(2, aI z63q), (0, aR 22), (1, aI night), (3, aI x3q)]) cx dX0_swornTowns_64 rfl (by decide) rfl ?_
              refine aw_iinc cx dX0_swornTowns_65 3 rfl (by decide) (by omega) (fun z65q hz65q => ?_)
              refine aw_loc (loc2 := [(3, aI z65q), (2, aI z63q), (0, aR 22), (1, aI night)]) rfl ?_
              refine aw_goto (tgt := 6) cx dX0_swornTowns_68 (by decide) ?_
              refine aw_sub [2, 3, 1, 0] rfl ?_
              refine ih6q _ _  ?i_h0 ?i_hs ?i_m
              case i_h0 =>
                omega
              case i_hs =>
                rw [hz65q, SWF_i h0q.1]; first | (rw [if_neg (by omega)]; exact hs) | (rw [if_pos (by omega), hz63q, hz62q, hz61q, hs])
              case i_m =>
                omega
  refine aw_sub [2, 3, 1, 0] rfl ?_
  refine lp6q _ _ _  ?i_h0 ?i_hs (Nat.lt_succ_self _)
  case i_h0 =>
    omega
  case i_hs =>
    rfl
