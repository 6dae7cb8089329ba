set_option maxHeartbeats 1000000 in
set_option maxRecDepth 100000 in
theorem ct_X7_letters (tl : List CD) (M : Mem) (town night : Int) : Ct 1 mX7_letters (LB ++ tl) [aR 32, aI town, aI night] M (fun r M1 => M = M1 ∧ r = some (aI (sm (fun e => b2 (KEN (M 32 21) (M 41) e = 2 ∧ M 43 e = town ∧ M 42 e = night)) (M 32 11).toNat))) := by
  refine Ct.of (own := RX7) rfl (by decide +kernel) (Nat.le_of_ble_eq_true rfl) (fun X cx rt => ?_)
  refine aw_eq (loc2 := [(0, aR 32), (1, aI town), (2, aI night)]) ?_ rfl rfl rfl rfl
  refine aw_rngL 1 rfl (fun rl_town rh_town => ?_)
  refine aw_rngL 2 rfl (fun rl_night rh_night => ?_)
  refine aw_ok (fun om => ?_)
  have hse : 0 ≤ M 32 11 ∧ M 32 11 ≤ 8 := okF om (lb_32 tl) (j := 11) rfl (show (0 : Nat) ≠ 1 by decide)
  have hno : 0 ≤ M 32 21 ∧ M 32 21 ≤ 255 := okF om (lb_32 tl) (j := 21) rfl (show (0 : Nat) ≠ 1 by decide)
  refine aw_iconst (n := 0) cx dX7_letters_0 (by decide) ?_
  refine aw_istore_n (loc2 := [(3, aI 0), (0, aR 32), (1, aI town), (2, aI night)]) cx dX7_letters_1 rfl (by decide) rfl ?_
  refine aw_iconst (n := 0) cx dX7_letters_2 (by decide) ?_
  refine aw_istore (loc2 := [(4, aI 0), (3, aI 0), (0, aR 32), (1, aI town), (2, aI night)]) cx dX7_letters_3 (by decide) rfl ?_
  have lp5q : ∀ (fu : Nat) (x3q : Int) (x4q : Int), (0 ≤ x4q ∧ x4q ≤ M 32 11) → (0 ≤ x3q ∧ x3q ≤ x4q) → (x3q = sm (fun e => b2 (KEN (M 32 21) (M 41) e = 2 ∧ M 43 e = town ∧ M 42 e = night)) x4q.toNat) → ((M 32 11 - x4q).toNat) < fu → AW X (LB ++ tl) 5 5 [(0, aR 32), (1, aI town), (2, aI night), (3, aI x3q), (4, aI x4q)] [] M := by
    intro fu
    induction fu with
    | zero =>
      intro x3q x4q h0q h1q hs hm
      exact absurd hm (Nat.not_lt_zero _)
    | succ fu ih5q =>
      intro x3q x4q h0q h1q hs hm
      refine aw_iload cx dX7_letters_5 4 rfl ?_
      refine aw_aload_n cx dX7_letters_7 rfl 0 rfl ?_
      refine aw_getI cx dX7_letters_8 fl_X7_171 (lb_32 tl) rfl (fun z8q hz8q lo_z8q hi_z8q => ?_)
      refine aw_icmp_ge (tgt := 73) cx dX7_letters_11 (by decide) (fun c11q => ?_) (fun c11q => ?_)
      · refine aw_iload_n cx dX7_letters_73 rfl 3 rfl ?_
        refine aw_iret cx rt dX7_letters_74 ?_
        exact ⟨rfl, congrArg (fun q => some (aI q)) (by rw [hs, show (M 32 11).toNat = x4q.toNat by omega])⟩
      · refine aw_iload_n cx dX7_letters_14 rfl 3 rfl ?_
        refine aw_aload_n cx dX7_letters_15 rfl 0 rfl ?_
        refine aw_getR (q := 41) cx dX7_letters_16 fl_X7_34 (lb_32 tl) rfl rfl ?_
        refine aw_iload cx dX7_letters_19 4 rfl ?_
        refine aw_iald cx dX7_letters_21 (lb_41 tl) (⟨by omega, by omega⟩) (fun z21q hz21q lo_z21q hi_z21q => ?_)
        refine aw_iconst (n := 2) cx dX7_letters_22 (by decide) ?_
        refine aw_icmp_ne (tgt := 64) cx dX7_letters_23 (by decide) (fun c23q => ?_) (fun c23q => ?_)
        · refine aw_iconst (n := 0) cx dX7_letters_64 (by decide) ?_
          refine aw_iadd cx dX7_letters_65 (by omega) (fun z65q hz65q => ?_)
          refine aw_istore_n (loc2 := [(3, aI z65q), (0, aR 32), (1, aI town), (2, aI night), (4, aI x4q)]) cx dX7_letters_66 rfl (by decide) rfl ?_
          refine aw_iinc cx dX7_letters_67 4 rfl (by decide) (by omega) (fun z67q hz67q => ?_)
          refine aw_loc (loc2 := [(4, aI z67q), (3, aI z65q), (0, aR 32), (1, aI town), (2, aI night)]) rfl ?_
          refine aw_goto (tgt := 5) cx dX7_letters_70 (by decide) ?_
          refine aw_sub [2, 3, 4, 1, 0] rfl ?_
          refine ih5q _ _  ?i_h0 ?i_h1 ?i_hs ?i_m
          case i_h0 =>
            omega
          case i_h1 =>
            omega
          case i_hs =>
            rw [hz67q, sm_i h0q.1]
            by_cases hb : BT (M 32 21) x4q.toNat
            · have hK : KEN (M 32 21) (M 41) x4q.toNat = -1 := if_pos hb
              first
              | (rw [b2_f (by omega)]; omega)
              | exact absurd hb (by rw [← hz49q]; exact d57q)
            · have hK : KEN (M 32 21) (M 41) x4q.toNat = M 41 x4q.toNat := if_neg hb
              first
              | (rw [b2_t (by omega)]; omega)
              | (rw [b2_f (by omega)]; omega)
              | exact absurd (by rw [← hz49q]; exact d57q) hb
          case i_m =>
            omega
        · refine aw_aload_n cx dX7_letters_26 rfl 0 rfl ?_
          refine aw_getR (q := 43) cx dX7_letters_27 fl_X7_40 (lb_32 tl) rfl rfl ?_
          refine aw_iload cx dX7_letters_30 4 rfl ?_
          refine aw_iald cx dX7_letters_32 (lb_43 tl) (⟨by omega, by omega⟩) (fun z32q hz32q lo_z32q hi_z32q => ?_)
          refine aw_iload_n cx dX7_letters_33 rfl 1 rfl ?_
          refine aw_icmp_ne (tgt := 64) cx dX7_letters_34 (by decide) (fun c34q => ?_) (fun c34q => ?_)
          · refine aw_iconst (n := 0) cx dX7_letters_64 (by decide) ?_
            refine aw_iadd cx dX7_letters_65 (by omega) (fun z65q hz65q => ?_)
            refine aw_istore_n (loc2 := [(3, aI z65q), (0, aR 32), (1, aI town), (2, aI night), (4, aI x4q)]) cx dX7_letters_66 rfl (by decide) rfl ?_
            refine aw_iinc cx dX7_letters_67 4 rfl (by decide) (by omega) (fun z67q hz67q => ?_)
            refine aw_loc (loc2 := [(4, aI z67q), (3, aI z65q), (0, aR 32), (1, aI town), (2, aI night)]) rfl ?_
            refine aw_goto (tgt := 5) cx dX7_letters_70 (by decide) ?_
            refine aw_sub [2, 3, 4, 1, 0] rfl ?_
            refine ih5q _ _  ?i_h0 ?i_h1 ?i_hs ?i_m
            case i_h0 =>
              omega
            case i_h1 =>
              omega
            case i_hs =>
              rw [hz67q, sm_i h0q.1]
              by_cases hb : BT (M 32 21) x4q.toNat
              · have hK : KEN (M 32 21) (M 41) x4q.toNat = -1 := if_pos hb
                first
                | (rw [b2_f (by omega)]; omega)
                | exact absurd hb (by rw [← hz49q]; exact d57q)
              · have hK : KEN (M 32 21) (M 41) x4q.toNat = M 41 x4q.toNat := if_neg hb
                first
                | (rw [b2_t (by omega)]; omega)
                | (rw [b2_f (by omega)]; omega)
                | exact absurd (by rw [← hz49q]; exact d57q) hb
            case i_m =>
              omega
          · refine aw_aload_n cx dX7_letters_37 rfl 0 rfl ?_
            refine aw_getR (q := 42) cx dX7_letters_38 fl_X7_37 (lb_32 tl) rfl rfl ?_
            refine aw_iload cx dX7_letters_41 4 rfl ?_
            refine aw_iald cx dX7_letters_43 (lb_42 tl) (⟨by omega, by omega⟩) (fun z43q hz43q lo_z43q hi_z43q => ?_)
            refine aw_iload_n cx dX7_letters_44 rfl 2 rfl ?_
            refine aw_icmp_ne (tgt := 64) cx dX7_letters_45 (by decide) (fun c45q => ?_) (fun c45q => ?_)
            · refine aw_iconst (n := 0) cx dX7_letters_64 (by decide) ?_
              refine aw_iadd cx dX7_letters_65 (by omega) (fun z65q hz65q => ?_)
              refine aw_istore_n (loc2 := [(3, aI z65q), (0, aR 32), (1, aI town), (2, aI night), (4, aI x4q)]) cx dX7_letters_66 rfl (by decide) rfl ?_
              refine aw_iinc cx dX7_letters_67 4 rfl (by decide) (by omega) (fun z67q hz67q => ?_)
              refine aw_loc (loc2 := [(4, aI z67q), (3, aI z65q), (0, aR 32), (1, aI town), (2, aI night)]) rfl ?_
              refine aw_goto (tgt := 5) cx dX7_letters_70 (by decide) ?_
              refine aw_sub [2, 3, 4, 1, 0] rfl ?_
              refine ih5q _ _  ?i_h0 ?i_h1 ?i_hs ?i_m
              case i_h0 =>
                omega
              case i_h1 =>
                omega
              case i_hs =>
                rw [hz67q, sm_i h0q.1]
                by_cases hb : BT (M 32 21) x4q.toNat
                · have hK : KEN (M 32 21) (M 41) x4q.toNat = -1 := if_pos hb
                  first
                  | (rw [b2_f (by omega)]; omega)
                  | exact absurd hb (by rw [← hz49q]; exact d57q)
                · have hK : KEN (M 32 21) (M 41) x4q.toNat = M 41 x4q.toNat := if_neg hb
                  first
                  | (rw [b2_t (by omega)]; omega)
                  | (rw [b2_f (by omega)]; omega)
                  | exact absurd (by rw [← hz49q]; exact d57q) hb
              case i_m =>
                omega
            · refine aw_aload_n cx dX7_letters_48 rfl 0 rfl ?_
              refine aw_getI cx dX7_letters_49 fl_X7_190 (lb_32 tl) rfl (fun z49q hz49q lo_z49q hi_z49q => ?_)
              refine aw_iload cx dX7_letters_52 4 rfl ?_
              refine aw_callS (as := [aI z49q, aI x4q]) (stk := [aI x3q]) cx dX7_letters_54 ml_X7_196 ms_X7_isIn (by decide) rfl rfl (Nat.le_of_ble_eq_true rfl) (ct_X7_isIn tl M _ _ (by omega) (by omega)) (fun rr54q M_54q hp54q => ?_)
              obtain ⟨rfl, rfl⟩ := hp54q
              refine aw_top (stk := [aI x3q]) (fun z54q hz54q => ?_)
              refine aw_if_ne (tgt := 64) cx dX7_letters_57 (by decide) (fun c57q => ?_) (fun c57q => ?_)
              · have d57q := b2_y hz54q c57q
                refine aw_iconst (n := 0) cx dX7_letters_64 (by decide) ?_
                refine aw_iadd cx dX7_letters_65 (by omega) (fun z65q hz65q => ?_)
                refine aw_istore_n (loc2 := [(3, aI z65q), (0, aR 32), (1, aI town), (2, aI night), (4, aI x4q)]) cx dX7_letters_66 rfl (by decide) rfl ?_
                refine aw_iinc cx dX7_letters_67 4 rfl (by decide) (by omega) (fun z67q hz67q => ?_)
                refine aw_loc (loc2 := [(4, aI z67q), (3, aI z65q), (0, aR 32), (1, aI town), (2, aI night)]) rfl ?_
                refine aw_goto (tgt := 5) cx dX7_letters_70 (by decide) ?_
                refine aw_sub [2, 3, 4, 1, 0] rfl ?_
                refine ih5q _ _  ?i_h0 ?i_h1 ?i_hs ?i_m
                case i_h0 =>
                  omega
                case i_h1 =>
                  omega
                case i_hs =>
                  rw [hz67q, sm_i h0q.1]
                  by_cases hb : BT (M 32 21) x4q.toNat
                  · have hK : KEN (M 32 21) (M 41) x4q.toNat = -1 := if_pos hb
                    first
                    | (rw [b2_f (by omega)]; omega)
                    | exact absurd hb (by rw [← hz49q]; exact d57q)
                  · have hK : KEN (M 32 21) (M 41) x4q.toNat = M 41 x4q.toNat := if_neg hb
                    first
                    | (rw [b2_t (by omega)]; omega)
                    | (rw [b2_f (by omega)]; omega)
                    | exact absurd (by rw [← hz49q]; exact d57q) hb
                case i_m =>
                  omega
              · have d57q := b2_e0.mp (hz54q.symm.trans c57q)
                refine aw_iconst (n := 1) cx dX7_letters_60 (by decide) ?_
                refine aw_goto (tgt := 65) cx dX7_letters_61 (by decide) ?_
                refine aw_iadd cx dX7_letters_65 (by omega) (fun z65q hz65q => ?_)
                refine aw_istore_n (loc2 := [(3, aI z65q), (0, aR 32), (1, aI town), (2, aI night), (4, aI x4q)]) cx dX7_letters_66 rfl (by decide) rfl ?_
                refine aw_iinc cx dX7_letters_67 4 rfl (by decide) (by omega) (fun z67q hz67q => ?_)
                refine aw_loc (loc2 := [(4, aI z67q), (3, aI z65q), (0, aR 32), (1, aI town), (2, aI night)]) rfl ?_
                refine aw_goto (tgt := 5) cx dX7_letters_70 (by decide) ?_
                refine aw_sub [2, 3, 4, 1, 0] rfl ?_
                refine ih5q _ _  ?i_h0 ?i_h1 ?i_hs ?i_m
                case i_h0 =>
                  omega
                case i_h1 =>
                  omega
                case i_hs =>
                  rw [hz67q, sm_i h0q.1]
                  by_cases hb : BT (M 32 21) x4q.toNat
                  · have hK : KEN (M 32 21) (M 41) x4q.toNat = -1 := if_pos hb
                    first
                    | (rw [b2_f (by omega)]; omega)
                    | exact absurd hb (by rw [← hz49q]; exact d57q)
                  · have hK : KEN (M 32 21) (M 41) x4q.toNat = M 41 x4q.toNat := if_neg hb
                    first
                    | (rw [b2_t (by omega)]; omega)
                    | (rw [b2_f (by omega)]; omega)
                    | exact absurd (by rw [← hz49q]; exact d57q) hb
                case i_m =>
                  omega
  refine aw_sub [2, 3, 4, 1, 0] rfl ?_
  refine lp5q _ _ _  ?i_h0 ?i_h1 ?i_hs (Nat.lt_succ_self _)
  case i_h0 =>
    omega
  case i_h1 =>
    omega
  case i_hs =>
    rfl
