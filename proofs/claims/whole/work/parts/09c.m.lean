set_option maxHeartbeats 1000000 in
set_option maxRecDepth 100000 in
theorem ct_X7_isShaken (tl : List CD) (M : Mem) (i : Int) (hi : 0 ≤ i ∧ i < 12) : Ct 1 mX7_isShaken (LB ++ tl) [aR 32, aI i] M (fun r M1 => M = M1 ∧ ∃ x, r = some (aI x) ∧ (x = 0 ∨ x = 1) ∧ (x = 1 ↔ SHK (KEN (M 32 21) (M 41)) (M 42) (M 43) (M 44) (M 45) (M 46) (M 32 20) (M 32 11).toNat i)) := by
  refine Ct.of (own := RX7) rfl (by decide +kernel) (Nat.le_of_ble_eq_true rfl) (fun X cx rt => ?_)
  refine aw_eq (loc2 := [(0, aR 32), (1, aI i)]) ?_ rfl rfl rfl rfl
  refine aw_rngL 1 rfl (fun rl_i rh_i => ?_)
  refine aw_ok (fun om => ?_)
  have hse : 0 ≤ M 32 11 ∧ M 32 11 ≤ 8 := okF om (lb_32 tl) (j := 11) rfl (show (0 : Nat) ≠ 1 by decide)
  have hno : 0 ≤ M 32 21 ∧ M 32 21 ≤ 255 := okF om (lb_32 tl) (j := 21) rfl (show (0 : Nat) ≠ 1 by decide)
  refine aw_iload_n cx dX7_isShaken_0 rfl 1 rfl ?_
  refine aw_aload_n cx dX7_isShaken_1 rfl 0 rfl ?_
  refine aw_getI cx dX7_isShaken_2 fl_X7_187 (lb_32 tl) rfl (fun z2q hz2q lo_z2q hi_z2q => ?_)
  refine aw_icmp_ne (tgt := 12) cx dX7_isShaken_5 (by decide) (fun c5q => ?_) (fun c5q => ?_)
  · refine aw_iconst (n := 0) cx dX7_isShaken_12 (by decide) ?_
    refine aw_istore_n (loc2 := [(2, aI 0), (0, aR 32), (1, aI i)]) cx dX7_isShaken_13 rfl (by decide) rfl ?_
    refine aw_iconst (n := 0) cx dX7_isShaken_14 (by decide) ?_
    refine aw_istore_n (loc2 := [(3, aI 0), (2, aI 0), (0, aR 32), (1, aI i)]) cx dX7_isShaken_15 rfl (by decide) rfl ?_
    have lp16q : ∀ (fu : Nat) (x2q : Int) (x3q : Int), (0 ≤ x3q ∧ x3q ≤ M 32 11) → (x2q = 0 ∨ x2q = 1) → (x2q = 1 ↔ SHK (KEN (M 32 21) (M 41)) (M 42) (M 43) (M 44) (M 45) (M 46) (M 32 20) x3q.toNat i) → ((M 32 11 - x3q).toNat) < fu → AW X (LB ++ tl) 4 16 [(0, aR 32), (1, aI i), (2, aI x2q), (3, aI x3q)] [] M := by
      intro fu
      induction fu with
      | zero =>
        intro x2q x3q h0q h01q hx hm
        exact absurd hm (Nat.not_lt_zero _)
      | succ fu ih16q =>
        intro x2q x3q h0q h01q hx hm
        refine aw_iload_n cx dX7_isShaken_16 rfl 3 rfl ?_
        refine aw_aload_n cx dX7_isShaken_17 rfl 0 rfl ?_
        refine aw_getI cx dX7_isShaken_18 fl_X7_171 (lb_32 tl) rfl (fun z18q hz18q lo_z18q hi_z18q => ?_)
        refine aw_icmp_ge (tgt := 140) cx dX7_isShaken_21 (by decide) (fun c21q => ?_) (fun c21q => ?_)
        · refine aw_iload_n cx dX7_isShaken_140 rfl 2 rfl ?_
          refine aw_zret cx rt dX7_isShaken_141 (by omega) ?_
          exact ⟨rfl, x2q, rfl, h01q, by rw [show (M 32 11).toNat = x3q.toNat by omega]; exact hx⟩
        · refine aw_aload_n cx dX7_isShaken_24 rfl 0 rfl ?_
          refine aw_getI cx dX7_isShaken_25 fl_X7_190 (lb_32 tl) rfl (fun z25q hz25q lo_z25q hi_z25q => ?_)
          refine aw_iload_n cx dX7_isShaken_28 rfl 3 rfl ?_
          refine aw_callS (as := [aI z25q, aI x3q]) (stk := []) cx dX7_isShaken_29 ml_X7_196 ms_X7_isIn (by decide) rfl rfl (Nat.le_of_ble_eq_true rfl) (ct_X7_isIn tl M _ _ (by omega) (by omega)) (fun rr29q M_29q hp29q => ?_)
          obtain ⟨rfl, rfl⟩ := hp29q
          refine aw_top (stk := []) (fun z29q hz29q => ?_)
          refine aw_if_ne (tgt := 134) cx dX7_isShaken_32 (by decide) (fun c32q => ?_) (fun c32q => ?_)
          · have d32q := b2_y hz29q c32q
            refine aw_iinc cx dX7_isShaken_134 3 rfl (by decide) (by omega) (fun z134q hz134q => ?_)
            refine aw_loc (loc2 := [(3, aI z134q), (0, aR 32), (1, aI i), (2, aI x2q)]) rfl ?_
            refine aw_goto (tgt := 16) cx dX7_isShaken_137 (by decide) ?_
            refine aw_sub [1, 2, 3, 0] rfl ?_
            refine ih16q _ _  ?i_h0 ?i_h01 ?i_hx ?i_m
            case i_h0 =>
              omega
            case i_h01 =>
              omega
            case i_hx =>
              have hK : KEN (M 32 21) (M 41) x3q.toNat = -1 := if_pos (by rw [← hz25q]; exact d32q)
              rw [hz134q]
              exact SHK_i h0q.1 hx (by unfold SPe; rw [hK]; omega)
            case i_m =>
              omega
          · have d32q := b2_e0.mp (hz29q.symm.trans c32q)
            have hK : KEN (M 32 21) (M 41) x3q.toNat = M 41 x3q.toNat := if_neg (by rw [← hz25q]; exact d32q)
            refine aw_iload_n cx dX7_isShaken_35 rfl 2 rfl ?_
            refine aw_if_ne (tgt := 78) cx dX7_isShaken_36 (by decide) (fun c36q => ?_) (fun c36q => ?_)
            · refine aw_iconst (n := 1) cx dX7_isShaken_78 (by decide) ?_
              refine aw_goto (tgt := 83) cx dX7_isShaken_79 (by decide) ?_
              refine aw_istore_n (loc2 := [(2, aI 1), (0, aR 32), (1, aI i), (3, aI x3q)]) cx dX7_isShaken_83 rfl (by decide) rfl ?_
              refine aw_iload_n cx dX7_isShaken_84 rfl 0 rfl ?_
              refine aw_if_ne (tgt := 128) cx dX7_isShaken_85 (by decide) (fun c85q => ?_) (fun c85q => ?_)
              · refine aw_iconst (n := 1) cx dX7_isShaken_128 (by decide) ?_
                refine aw_goto (tgt := 133) cx dX7_isShaken_129 (by decide) ?_
                refine aw_istore_n (loc2 := [(2, aI 1), (0, aR 32), (1, aI i), (3, aI x3q)]) cx dX7_isShaken_133 rfl (by decide) rfl ?_
                refine aw_iinc cx dX7_isShaken_134 3 rfl (by decide) (by omega) (fun z134q hz134q => ?_)
                refine aw_loc (loc2 := [(3, aI z134q), (2, aI 1), (0, aR 32), (1, aI i)]) rfl ?_
                refine aw_goto (tgt := 16) cx dX7_isShaken_137 (by decide) ?_
                refine aw_sub [2, 3, 1, 0] rfl ?_
                refine ih16q _ _  ?i_h0 ?i_h01 ?i_hx ?i_m
                case i_h0 =>
                  omega
                case i_h01 =>
                  omega
                case i_hx =>
                  rw [hz134q]
                  first
                  | exact SHK_1 h0q.1 hx (by omega) h01q
                  | exact SHK_p h0q.1 (by clear hx; unfold SPe; rw [hK]; omega)
                  | exact SHK_n h0q.1 hx (by omega) (by clear hx; unfold SPe; rw [hK]; omega)
                case i_m =>
                  omega
              · exact absurd c85q (by decide)
            · refine aw_aload_n cx dX7_isShaken_39 rfl 0 rfl ?_
              refine aw_getR (q := 41) cx dX7_isShaken_40 fl_X7_34 (lb_32 tl) rfl rfl ?_
              refine aw_iload_n cx dX7_isShaken_43 rfl 3 rfl ?_
              refine aw_iald cx dX7_isShaken_44 (lb_41 tl) (⟨by omega, by omega⟩) (fun z44q hz44q lo_z44q hi_z44q => ?_)
              refine aw_if_ne (tgt := 82) cx dX7_isShaken_45 (by decide) (fun c45q => ?_) (fun c45q => ?_)
              · refine aw_iconst (n := 0) cx dX7_isShaken_82 (by decide) ?_
                refine aw_istore_n (loc2 := [(2, aI 0), (0, aR 32), (1, aI i), (3, aI x3q)]) cx dX7_isShaken_83 rfl (by decide) rfl ?_
                refine aw_iload_n cx dX7_isShaken_84 rfl 0 rfl ?_
                refine aw_if_ne (tgt := 128) cx dX7_isShaken_85 (by decide) (fun c85q => ?_) (fun c85q => ?_)
                · exact absurd c85q (by decide)
                · refine aw_aload_n cx dX7_isShaken_88 rfl 1 rfl ?_
                  refine aw_getR (q := 41) cx dX7_isShaken_89 fl_X7_34 (lb_32 tl) rfl rfl ?_
                  refine aw_iload_n cx dX7_isShaken_92 rfl 3 rfl ?_
                  refine aw_iald cx dX7_isShaken_93 (lb_41 tl) (⟨by omega, by omega⟩) (fun z93q hz93q lo_z93q hi_z93q => ?_)
                  refine aw_iconst (n := 1) cx dX7_isShaken_94 (by decide) ?_
                  refine aw_icmp_ne (tgt := 132) cx dX7_isShaken_95 (by decide) (fun c95q => ?_) (fun c95q => ?_)
                  · refine aw_iconst (n := 0) cx dX7_isShaken_132 (by decide) ?_
                    refine aw_istore_n (loc2 := [(2, aI 0), (0, aR 32), (1, aI i), (3, aI x3q)]) cx dX7_isShaken_133 rfl (by decide) rfl ?_
                    refine aw_iinc cx dX7_isShaken_134 3 rfl (by decide) (by omega) (fun z134q hz134q => ?_)
                    refine aw_loc (loc2 := [(3, aI z134q), (2, aI 0), (0, aR 32), (1, aI i)]) rfl ?_
                    refine aw_goto (tgt := 16) cx dX7_isShaken_137 (by decide) ?_
                    refine aw_sub [2, 3, 1, 0] rfl ?_
                    refine ih16q _ _  ?i_h0 ?i_h01 ?i_hx ?i_m
                    case i_h0 =>
                      omega
                    case i_h01 =>
                      omega
                    case i_hx =>
                      rw [hz134q]
                      first
                      | exact SHK_1 h0q.1 hx (by omega) h01q
                      | exact SHK_p h0q.1 (by clear hx; unfold SPe; rw [hK]; omega)
                      | exact SHK_n h0q.1 hx (by omega) (by clear hx; unfold SPe; rw [hK]; omega)
                    case i_m =>
                      omega
                  · refine aw_aload_n cx dX7_isShaken_98 rfl 1 rfl ?_
                    refine aw_getR (q := 43) cx dX7_isShaken_99 fl_X7_40 (lb_32 tl) rfl rfl ?_
                    refine aw_iload_n cx dX7_isShaken_102 rfl 3 rfl ?_
                    refine aw_iald cx dX7_isShaken_103 (lb_43 tl) (⟨by omega, by omega⟩) (fun z103q hz103q lo_z103q hi_z103q => ?_)
                    refine aw_aload_n cx dX7_isShaken_104 rfl 1 rfl ?_
                    refine aw_getR (q := 45) cx dX7_isShaken_105 fl_X7_46 (lb_32 tl) rfl rfl ?_
                    refine aw_iload_n cx dX7_isShaken_108 rfl 2 rfl ?_
                    refine aw_iald cx dX7_isShaken_109 (lb_45 tl) (⟨by omega, by omega⟩) (fun z109q hz109q lo_z109q hi_z109q => ?_)
                    refine aw_icmp_ne (tgt := 132) cx dX7_isShaken_110 (by decide) (fun c110q => ?_) (fun c110q => ?_)
                    · refine aw_iconst (n := 0) cx dX7_isShaken_132 (by decide) ?_
                      refine aw_istore_n (loc2 := [(2, aI 0), (0, aR 32), (1, aI i), (3, aI x3q)]) cx dX7_isShaken_133 rfl (by decide) rfl ?_
                      refine aw_iinc cx dX7_isShaken_134 3 rfl (by decide) (by omega) (fun z134q hz134q => ?_)
                      refine aw_loc (loc2 := [(3, aI z134q), (2, aI 0), (0, aR 32), (1, aI i)]) rfl ?_
                      refine aw_goto (tgt := 16) cx dX7_isShaken_137 (by decide) ?_
                      refine aw_sub [2, 3, 1, 0] rfl ?_
                      refine ih16q _ _  ?i_h0 ?i_h01 ?i_hx ?i_m
                      case i_h0 =>
                        omega
                      case i_h01 =>
                        omega
                      case i_hx =>
                        rw [hz134q]
                        first
                        | exact SHK_1 h0q.1 hx (by omega) h01q
                        | exact SHK_p h0q.1 (by clear hx; unfold SPe; rw [hK]; omega)
                        | exact SHK_n h0q.1 hx (by omega) (by clear hx; unfold SPe; rw [hK]; omega)
                      case i_m =>
                        omega
                    · refine aw_aload_n cx dX7_isShaken_113 rfl 1 rfl ?_
                      refine aw_getR (q := 42) cx dX7_isShaken_114 fl_X7_37 (lb_32 tl) rfl rfl ?_
                      refine aw_iload_n cx dX7_isShaken_117 rfl 3 rfl ?_
                      refine aw_iald cx dX7_isShaken_118 (lb_42 tl) (⟨by omega, by omega⟩) (fun z118q hz118q lo_z118q hi_z118q => ?_)
                      refine aw_aload_n cx dX7_isShaken_119 rfl 1 rfl ?_
                      refine aw_getR (q := 44) cx dX7_isShaken_120 fl_X7_43 (lb_32 tl) rfl rfl ?_
                      refine aw_iload_n cx dX7_isShaken_123 rfl 2 rfl ?_
                      refine aw_iald cx dX7_isShaken_124 (lb_44 tl) (⟨by omega, by omega⟩) (fun z124q hz124q lo_z124q hi_z124q => ?_)
                      refine aw_icmp_ne (tgt := 132) cx dX7_isShaken_125 (by decide) (fun c125q => ?_) (fun c125q => ?_)
                      · refine aw_iconst (n := 0) cx dX7_isShaken_132 (by decide) ?_
                        refine aw_istore_n (loc2 := [(2, aI 0), (0, aR 32), (1, aI i), (3, aI x3q)]) cx dX7_isShaken_133 rfl (by decide) rfl ?_
                        refine aw_iinc cx dX7_isShaken_134 3 rfl (by decide) (by omega) (fun z134q hz134q => ?_)
                        refine aw_loc (loc2 := [(3, aI z134q), (2, aI 0), (0, aR 32), (1, aI i)]) rfl ?_
                        refine aw_goto (tgt := 16) cx dX7_isShaken_137 (by decide) ?_
                        refine aw_sub [2, 3, 1, 0] rfl ?_
                        refine ih16q _ _  ?i_h0 ?i_h01 ?i_hx ?i_m
                        case i_h0 =>
                          omega
                        case i_h01 =>
                          omega
                        case i_hx =>
                          rw [hz134q]
                          first
                          | exact SHK_1 h0q.1 hx (by omega) h01q
                          | exact SHK_p h0q.1 (by clear hx; unfold SPe; rw [hK]; omega)
                          | exact SHK_n h0q.1 hx (by omega) (by clear hx; unfold SPe; rw [hK]; omega)
                        case i_m =>
                          omega
                      · refine aw_iconst (n := 1) cx dX7_isShaken_128 (by decide) ?_
                        refine aw_goto (tgt := 133) cx dX7_isShaken_129 (by decide) ?_
                        refine aw_istore_n (loc2 := [(2, aI 1), (0, aR 32), (1, aI i), (3, aI x3q)]) cx dX7_isShaken_133 rfl (by decide) rfl ?_
                        refine aw_iinc cx dX7_isShaken_134 3 rfl (by decide) (by omega) (fun z134q hz134q => ?_)
                        refine aw_loc (loc2 := [(3, aI z134q), (2, aI 1), (0, aR 32), (1, aI i)]) rfl ?_
                        refine aw_goto (tgt := 16) cx dX7_isShaken_137 (by decide) ?_
                        refine aw_sub [2, 3, 1, 0] rfl ?_
                        refine ih16q _ _  ?i_h0 ?i_h01 ?i_hx ?i_m
                        case i_h0 =>
                          omega
                        case i_h01 =>
                          omega
                        case i_hx =>
                          rw [hz134q]
                          first
                          | exact SHK_1 h0q.1 hx (by omega) h01q
                          | exact SHK_p h0q.1 (by clear hx; unfold SPe; rw [hK]; omega)
                          | exact SHK_n h0q.1 hx (by omega) (by clear hx; unfold SPe; rw [hK]; omega)
                        case i_m =>
                          omega
              · refine aw_aload_n cx dX7_isShaken_48 rfl 0 rfl ?_
                refine aw_getR (q := 43) cx dX7_isShaken_49 fl_X7_40 (lb_32 tl) rfl rfl ?_
                refine aw_iload_n cx dX7_isShaken_52 rfl 3 rfl ?_
                refine aw_iald cx dX7_isShaken_53 (lb_43 tl) (⟨by omega, by omega⟩) (fun z53q hz53q lo_z53q hi_z53q => ?_)
                refine aw_aload_n cx dX7_isShaken_54 rfl 0 rfl ?_
                refine aw_getR (q := 46) cx dX7_isShaken_55 fl_X7_49 (lb_32 tl) rfl rfl ?_
                refine aw_iload_n cx dX7_isShaken_58 rfl 1 rfl ?_
                refine aw_iald cx dX7_isShaken_59 (lb_46 tl) (⟨by omega, by omega⟩) (fun z59q hz59q lo_z59q hi_z59q => ?_)
                refine aw_icmp_ne (tgt := 82) cx dX7_isShaken_60 (by decide) (fun c60q => ?_) (fun c60q => ?_)
                · refine aw_iconst (n := 0) cx dX7_isShaken_82 (by decide) ?_
                  refine aw_istore_n (loc2 := [(2, aI 0), (0, aR 32), (1, aI i), (3, aI x3q)]) cx dX7_isShaken_83 rfl (by decide) rfl ?_
                  refine aw_iload_n cx dX7_isShaken_84 rfl 0 rfl ?_
                  refine aw_if_ne (tgt := 128) cx dX7_isShaken_85 (by decide) (fun c85q => ?_) (fun c85q => ?_)
                  · exact absurd c85q (by decide)
                  · refine aw_aload_n cx dX7_isShaken_88 rfl 1 rfl ?_
                    refine aw_getR (q := 41) cx dX7_isShaken_89 fl_X7_34 (lb_32 tl) rfl rfl ?_
                    refine aw_iload_n cx dX7_isShaken_92 rfl 3 rfl ?_
                    refine aw_iald cx dX7_isShaken_93 (lb_41 tl) (⟨by omega, by omega⟩) (fun z93q hz93q lo_z93q hi_z93q => ?_)
                    refine aw_iconst (n := 1) cx dX7_isShaken_94 (by decide) ?_
                    refine aw_icmp_ne (tgt := 132) cx dX7_isShaken_95 (by decide) (fun c95q => ?_) (fun c95q => ?_)
                    · refine aw_iconst (n := 0) cx dX7_isShaken_132 (by decide) ?_
                      refine aw_istore_n (loc2 := [(2, aI 0), (0, aR 32), (1, aI i), (3, aI x3q)]) cx dX7_isShaken_133 rfl (by decide) rfl ?_
                      refine aw_iinc cx dX7_isShaken_134 3 rfl (by decide) (by omega) (fun z134q hz134q => ?_)
                      refine aw_loc (loc2 := [(3, aI z134q), (2, aI 0), (0, aR 32), (1, aI i)]) rfl ?_
                      refine aw_goto (tgt := 16) cx dX7_isShaken_137 (by decide) ?_
                      refine aw_sub [2, 3, 1, 0] rfl ?_
                      refine ih16q _ _  ?i_h0 ?i_h01 ?i_hx ?i_m
                      case i_h0 =>
                        omega
                      case i_h01 =>
                        omega
                      case i_hx =>
                        rw [hz134q]
                        first
                        | exact SHK_1 h0q.1 hx (by omega) h01q
                        | exact SHK_p h0q.1 (by clear hx; unfold SPe; rw [hK]; omega)
                        | exact SHK_n h0q.1 hx (by omega) (by clear hx; unfold SPe; rw [hK]; omega)
                      case i_m =>
                        omega
                    · refine aw_aload_n cx dX7_isShaken_98 rfl 1 rfl ?_
                      refine aw_getR (q := 43) cx dX7_isShaken_99 fl_X7_40 (lb_32 tl) rfl rfl ?_
                      refine aw_iload_n cx dX7_isShaken_102 rfl 3 rfl ?_
                      refine aw_iald cx dX7_isShaken_103 (lb_43 tl) (⟨by omega, by omega⟩) (fun z103q hz103q lo_z103q hi_z103q => ?_)
                      refine aw_aload_n cx dX7_isShaken_104 rfl 1 rfl ?_
                      refine aw_getR (q := 45) cx dX7_isShaken_105 fl_X7_46 (lb_32 tl) rfl rfl ?_
                      refine aw_iload_n cx dX7_isShaken_108 rfl 2 rfl ?_
                      refine aw_iald cx dX7_isShaken_109 (lb_45 tl) (⟨by omega, by omega⟩) (fun z109q hz109q lo_z109q hi_z109q => ?_)
                      refine aw_icmp_ne (tgt := 132) cx dX7_isShaken_110 (by decide) (fun c110q => ?_) (fun c110q => ?_)
                      · refine aw_iconst (n := 0) cx dX7_isShaken_132 (by decide) ?_
                        refine aw_istore_n (loc2 := [(2, aI 0), (0, aR 32), (1, aI i), (3, aI x3q)]) cx dX7_isShaken_133 rfl (by decide) rfl ?_
                        refine aw_iinc cx dX7_isShaken_134 3 rfl (by decide) (by omega) (fun z134q hz134q => ?_)
                        refine aw_loc (loc2 := [(3, aI z134q), (2, aI 0), (0, aR 32), (1, aI i)]) rfl ?_
                        refine aw_goto (tgt := 16) cx dX7_isShaken_137 (by decide) ?_
                        refine aw_sub [2, 3, 1, 0] rfl ?_
                        refine ih16q _ _  ?i_h0 ?i_h01 ?i_hx ?i_m
                        case i_h0 =>
                          omega
                        case i_h01 =>
                          omega
                        case i_hx =>
                          rw [hz134q]
                          first
                          | exact SHK_1 h0q.1 hx (by omega) h01q
                          | exact SHK_p h0q.1 (by clear hx; unfold SPe; rw [hK]; omega)
                          | exact SHK_n h0q.1 hx (by omega) (by clear hx; unfold SPe; rw [hK]; omega)
                        case i_m =>
                          omega
                      · refine aw_aload_n cx dX7_isShaken_113 rfl 1 rfl ?_
                        refine aw_getR (q := 42) cx dX7_isShaken_114 fl_X7_37 (lb_32 tl) rfl rfl ?_
                        refine aw_iload_n cx dX7_isShaken_117 rfl 3 rfl ?_
                        refine aw_iald cx dX7_isShaken_118 (lb_42 tl) (⟨by omega, by omega⟩) (fun z118q hz118q lo_z118q hi_z118q => ?_)
                        refine aw_aload_n cx dX7_isShaken_119 rfl 1 rfl ?_
                        refine aw_getR (q := 44) cx dX7_isShaken_120 fl_X7_43 (lb_32 tl) rfl rfl ?_
                        refine aw_iload_n cx dX7_isShaken_123 rfl 2 rfl ?_
                        refine aw_iald cx dX7_isShaken_124 (lb_44 tl) (⟨by omega, by omega⟩) (fun z124q hz124q lo_z124q hi_z124q => ?_)
                        refine aw_icmp_ne (tgt := 132) cx dX7_isShaken_125 (by decide) (fun c125q => ?_) (fun c125q => ?_)
                        · refine aw_iconst (n := 0) cx dX7_isShaken_132 (by decide) ?_
                          refine aw_istore_n (loc2 := [(2, aI 0), (0, aR 32), (1, aI i), (3, aI x3q)]) cx dX7_isShaken_133 rfl (by decide) rfl ?_
                          refine aw_iinc cx dX7_isShaken_134 3 rfl (by decide) (by omega) (fun z134q hz134q => ?_)
                          refine aw_loc (loc2 := [(3, aI z134q), (2, aI 0), (0, aR 32), (1, aI i)]) rfl ?_
                          refine aw_goto (tgt := 16) cx dX7_isShaken_137 (by decide) ?_
                          refine aw_sub [2, 3, 1, 0] rfl ?_
                          refine ih16q _ _  ?i_h0 ?i_h01 ?i_hx ?i_m
                          case i_h0 =>
                            omega
                          case i_h01 =>
                            omega
                          case i_hx =>
                            rw [hz134q]
                            first
                            | exact SHK_1 h0q.1 hx (by omega) h01q
                            | exact SHK_p h0q.1 (by clear hx; unfold SPe; rw [hK]; omega)
                            | exact SHK_n h0q.1 hx (by omega) (by clear hx; unfold SPe; rw [hK]; omega)
                          case i_m =>
                            omega
                        · refine aw_iconst (n := 1) cx dX7_isShaken_128 (by decide) ?_
                          refine aw_goto (tgt := 133) cx dX7_isShaken_129 (by decide) ?_
                          refine aw_istore_n (loc2 := [(2, aI 1), (0, aR 32), (1, aI i), (3, aI x3q)]) cx dX7_isShaken_133 rfl (by decide) rfl ?_
                          refine aw_iinc cx dX7_isShaken_134 3 rfl (by decide) (by omega) (fun z134q hz134q => ?_)
                          refine aw_loc (loc2 := [(3, aI z134q), (2, aI 1), (0, aR 32), (1, aI i)]) rfl ?_
                          refine aw_goto (tgt := 16) cx dX7_isShaken_137 (by decide) ?_
                          refine aw_sub [2, 3, 1, 0] rfl ?_
                          refine ih16q _ _  ?i_h0 ?i_h01 ?i_hx ?i_m
                          case i_h0 =>
                            omega
                          case i_h01 =>
                            omega
                          case i_hx =>
                            rw [hz134q]
                            first
                            | exact SHK_1 h0q.1 hx (by omega) h01q
                            | exact SHK_p h0q.1 (by clear hx; unfold SPe; rw [hK]; omega)
                            | exact SHK_n h0q.1 hx (by omega) (by clear hx; unfold SPe; rw [hK]; omega)
                          case i_m =>
                            omega
                · refine aw_aload_n cx dX7_isShaken_63 rfl 0 rfl ?_
                  refine aw_getR (q := 42) cx dX7_isShaken_64 fl_X7_37 (lb_32 tl) rfl rfl ?_
                  refine aw_iload_n cx dX7_isShaken_67 rfl 3 rfl ?_
                  refine aw_iald cx dX7_isShaken_68 (lb_42 tl) (⟨by omega, by omega⟩) (fun z68q hz68q lo_z68q hi_z68q => ?_)
                  refine aw_aload_n cx dX7_isShaken_69 rfl 0 rfl ?_
                  refine aw_getR (q := 44) cx dX7_isShaken_70 fl_X7_43 (lb_32 tl) rfl rfl ?_
                  refine aw_iload_n cx dX7_isShaken_73 rfl 1 rfl ?_
                  refine aw_iald cx dX7_isShaken_74 (lb_44 tl) (⟨by omega, by omega⟩) (fun z74q hz74q lo_z74q hi_z74q => ?_)
                  refine aw_icmp_gt (tgt := 82) cx dX7_isShaken_75 (by decide) (fun c75q => ?_) (fun c75q => ?_)
                  · refine aw_iconst (n := 0) cx dX7_isShaken_82 (by decide) ?_
                    refine aw_istore_n (loc2 := [(2, aI 0), (0, aR 32), (1, aI i), (3, aI x3q)]) cx dX7_isShaken_83 rfl (by decide) rfl ?_
                    refine aw_iload_n cx dX7_isShaken_84 rfl 0 rfl ?_
                    refine aw_if_ne (tgt := 128) cx dX7_isShaken_85 (by decide) (fun c85q => ?_) (fun c85q => ?_)
                    · exact absurd c85q (by decide)
                    · refine aw_aload_n cx dX7_isShaken_88 rfl 1 rfl ?_
                      refine aw_getR (q := 41) cx dX7_isShaken_89 fl_X7_34 (lb_32 tl) rfl rfl ?_
                      refine aw_iload_n cx dX7_isShaken_92 rfl 3 rfl ?_
                      refine aw_iald cx dX7_isShaken_93 (lb_41 tl) (⟨by omega, by omega⟩) (fun z93q hz93q lo_z93q hi_z93q => ?_)
                      refine aw_iconst (n := 1) cx dX7_isShaken_94 (by decide) ?_
                      refine aw_icmp_ne (tgt := 132) cx dX7_isShaken_95 (by decide) (fun c95q => ?_) (fun c95q => ?_)
                      · refine aw_iconst (n := 0) cx dX7_isShaken_132 (by decide) ?_
                        refine aw_istore_n (loc2 := [(2, aI 0), (0, aR 32), (1, aI i), (3, aI x3q)]) cx dX7_isShaken_133 rfl (by decide) rfl ?_
                        refine aw_iinc cx dX7_isShaken_134 3 rfl (by decide) (by omega) (fun z134q hz134q => ?_)
                        refine aw_loc (loc2 := [(3, aI z134q), (2, aI 0), (0, aR 32), (1, aI i)]) rfl ?_
                        refine aw_goto (tgt := 16) cx dX7_isShaken_137 (by decide) ?_
                        refine aw_sub [2, 3, 1, 0] rfl ?_
                        refine ih16q _ _  ?i_h0 ?i_h01 ?i_hx ?i_m
                        case i_h0 =>
                          omega
                        case i_h01 =>
                          omega
                        case i_hx =>
                          rw [hz134q]
                          first
                          | exact SHK_1 h0q.1 hx (by omega) h01q
                          | exact SHK_p h0q.1 (by clear hx; unfold SPe; rw [hK]; omega)
                          | exact SHK_n h0q.1 hx (by omega) (by clear hx; unfold SPe; rw [hK]; omega)
                        case i_m =>
                          omega
                      · refine aw_aload_n cx dX7_isShaken_98 rfl 1 rfl ?_
                        refine aw_getR (q := 43) cx dX7_isShaken_99 fl_X7_40 (lb_32 tl) rfl rfl ?_
                        refine aw_iload_n cx dX7_isShaken_102 rfl 3 rfl ?_
                        refine aw_iald cx dX7_isShaken_103 (lb_43 tl) (⟨by omega, by omega⟩) (fun z103q hz103q lo_z103q hi_z103q => ?_)
                        refine aw_aload_n cx dX7_isShaken_104 rfl 1 rfl ?_
                        refine aw_getR (q := 45) cx dX7_isShaken_105 fl_X7_46 (lb_32 tl) rfl rfl ?_
                        refine aw_iload_n cx dX7_isShaken_108 rfl 2 rfl ?_
                        refine aw_iald cx dX7_isShaken_109 (lb_45 tl) (⟨by omega, by omega⟩) (fun z109q hz109q lo_z109q hi_z109q => ?_)
                        refine aw_icmp_ne (tgt := 132) cx dX7_isShaken_110 (by decide) (fun c110q => ?_) (fun c110q => ?_)
                        · refine aw_iconst (n := 0) cx dX7_isShaken_132 (by decide) ?_
                          refine aw_istore_n (loc2 := [(2, aI 0), (0, aR 32), (1, aI i), (3, aI x3q)]) cx dX7_isShaken_133 rfl (by decide) rfl ?_
                          refine aw_iinc cx dX7_isShaken_134 3 rfl (by decide) (by omega) (fun z134q hz134q => ?_)
                          refine aw_loc (loc2 := [(3, aI z134q), (2, aI 0), (0, aR 32), (1, aI i)]) rfl ?_
                          refine aw_goto (tgt := 16) cx dX7_isShaken_137 (by decide) ?_
                          refine aw_sub [2, 3, 1, 0] rfl ?_
                          refine ih16q _ _  ?i_h0 ?i_h01 ?i_hx ?i_m
                          case i_h0 =>
                            omega
                          case i_h01 =>
                            omega
                          case i_hx =>
                            rw [hz134q]
                            first
                            | exact SHK_1 h0q.1 hx (by omega) h01q
                            | exact SHK_p h0q.1 (by clear hx; unfold SPe; rw [hK]; omega)
                            | exact SHK_n h0q.1 hx (by omega) (by clear hx; unfold SPe; rw [hK]; omega)
                          case i_m =>
                            omega
                        · refine aw_aload_n cx dX7_isShaken_113 rfl 1 rfl ?_
                          refine aw_getR (q := 42) cx dX7_isShaken_114 fl_X7_37 (lb_32 tl) rfl rfl ?_
                          refine aw_iload_n cx dX7_isShaken_117 rfl 3 rfl ?_
                          refine aw_iald cx dX7_isShaken_118 (lb_42 tl) (⟨by omega, by omega⟩) (fun z118q hz118q lo_z118q hi_z118q => ?_)
                          refine aw_aload_n cx dX7_isShaken_119 rfl 1 rfl ?_
                          refine aw_getR (q := 44) cx dX7_isShaken_120 fl_X7_43 (lb_32 tl) rfl rfl ?_
                          refine aw_iload_n cx dX7_isShaken_123 rfl 2 rfl ?_
                          refine aw_iald cx dX7_isShaken_124 (lb_44 tl) (⟨by omega, by omega⟩) (fun z124q hz124q lo_z124q hi_z124q => ?_)
                          refine aw_icmp_ne (tgt := 132) cx dX7_isShaken_125 (by decide) (fun c125q => ?_) (fun c125q => ?_)
                          · refine aw_iconst (n := 0) cx dX7_isShaken_132 (by decide) ?_
                            refine aw_istore_n (loc2 := [(2, aI 0), (0, aR 32), (1, aI i), (3, aI x3q)]) cx dX7_isShaken_133 rfl (by decide) rfl ?_
                            refine aw_iinc cx dX7_isShaken_134 3 rfl (by decide) (by omega) (fun z134q hz134q => ?_)
                            refine aw_loc (loc2 := [(3, aI z134q), (2, aI 0), (0, aR 32), (1, aI i)]) rfl ?_
                            refine aw_goto (tgt := 16) cx dX7_isShaken_137 (by decide) ?_
                            refine aw_sub [2, 3, 1, 0] rfl ?_
                            refine ih16q _ _  ?i_h0 ?i_h01 ?i_hx ?i_m
                            case i_h0 =>
                              omega
                            case i_h01 =>
                              omega
                            case i_hx =>
                              rw [hz134q]
                              first
                              | exact SHK_1 h0q.1 hx (by omega) h01q
                              | exact SHK_p h0q.1 (by clear hx; unfold SPe; rw [hK]; omega)
                              | exact SHK_n h0q.1 hx (by omega) (by clear hx; unfold SPe; rw [hK]; omega)
                            case i_m =>
                              omega
                          · refine aw_iconst (n := 1) cx dX7_isShaken_128 (by decide) ?_
                            refine aw_goto (tgt := 133) cx dX7_isShaken_129 (by decide) ?_
                            refine aw_istore_n (loc2 := [(2, aI 1), (0, aR 32), (1, aI i), (3, aI x3q)]) cx dX7_isShaken_133 rfl (by decide) rfl ?_
                            refine aw_iinc cx dX7_isShaken_134 3 rfl (by decide) (by omega) (fun z134q hz134q => ?_)
                            refine aw_loc (loc2 := [(3, aI z134q), (2, aI 1), (0, aR 32), (1, aI i)]) rfl ?_
                            refine aw_goto (tgt := 16) cx dX7_isShaken_137 (by decide) ?_
                            refine aw_sub [2, 3, 1, 0] rfl ?_
                            refine ih16q _ _  ?i_h0 ?i_h01 ?i_hx ?i_m
                            case i_h0 =>
                              omega
                            case i_h01 =>
                              omega
                            case i_hx =>
                              rw [hz134q]
                              first
                              | exact SHK_1 h0q.1 hx (by omega) h01q
                              | exact SHK_p h0q.1 (by clear hx; unfold SPe; rw [hK]; omega)
                              | exact SHK_n h0q.1 hx (by omega) (by clear hx; unfold SPe; rw [hK]; omega)
                            case i_m =>
                              omega
                  · refine aw_iconst (n := 1) cx dX7_isShaken_78 (by decide) ?_
                    refine aw_goto (tgt := 83) cx dX7_isShaken_79 (by decide) ?_
                    refine aw_istore_n (loc2 := [(2, aI 1), (0, aR 32), (1, aI i), (3, aI x3q)]) cx dX7_isShaken_83 rfl (by decide) rfl ?_
                    refine aw_iload_n cx dX7_isShaken_84 rfl 0 rfl ?_
                    refine aw_if_ne (tgt := 128) cx dX7_isShaken_85 (by decide) (fun c85q => ?_) (fun c85q => ?_)
                    · refine aw_iconst (n := 1) cx dX7_isShaken_128 (by decide) ?_
                      refine aw_goto (tgt := 133) cx dX7_isShaken_129 (by decide) ?_
                      refine aw_istore_n (loc2 := [(2, aI 1), (0, aR 32), (1, aI i), (3, aI x3q)]) cx dX7_isShaken_133 rfl (by decide) rfl ?_
                      refine aw_iinc cx dX7_isShaken_134 3 rfl (by decide) (by omega) (fun z134q hz134q => ?_)
                      refine aw_loc (loc2 := [(3, aI z134q), (2, aI 1), (0, aR 32), (1, aI i)]) rfl ?_
                      refine aw_goto (tgt := 16) cx dX7_isShaken_137 (by decide) ?_
                      refine aw_sub [2, 3, 1, 0] rfl ?_
                      refine ih16q _ _  ?i_h0 ?i_h01 ?i_hx ?i_m
                      case i_h0 =>
                        omega
                      case i_h01 =>
                        omega
                      case i_hx =>
                        rw [hz134q]
                        first
                        | exact SHK_1 h0q.1 hx (by omega) h01q
                        | exact SHK_p h0q.1 (by clear hx; unfold SPe; rw [hK]; omega)
                        | exact SHK_n h0q.1 hx (by omega) (by clear hx; unfold SPe; rw [hK]; omega)
                      case i_m =>
                        omega
                    · exact absurd c85q (by decide)
    refine aw_sub [2, 3, 1, 0] rfl ?_
    refine lp16q _ _ _  ?i_h0 ?i_h01 ?i_hx (Nat.lt_succ_self _)
    case i_h0 =>
      omega
    case i_h01 =>
      omega
    case i_hx =>
      rw [SHK_0]; omega
  · refine aw_iconst (n := 1) cx dX7_isShaken_8 (by decide) ?_
    refine aw_goto (tgt := 13) cx dX7_isShaken_9 (by decide) ?_
    refine aw_istore_n (loc2 := [(2, aI 1), (0, aR 32), (1, aI i)]) cx dX7_isShaken_13 rfl (by decide) rfl ?_
    refine aw_iconst (n := 0) cx dX7_isShaken_14 (by decide) ?_
    refine aw_istore_n (loc2 := [(3, aI 0), (2, aI 1), (0, aR 32), (1, aI i)]) cx dX7_isShaken_15 rfl (by decide) rfl ?_
    have lp16q : ∀ (fu : Nat) (x2q : Int) (x3q : Int), (0 ≤ x3q ∧ x3q ≤ M 32 11) → (x2q = 0 ∨ x2q = 1) → (x2q = 1 ↔ SHK (KEN (M 32 21) (M 41)) (M 42) (M 43) (M 44) (M 45) (M 46) (M 32 20) x3q.toNat i) → ((M 32 11 - x3q).toNat) < fu → AW X (LB ++ tl) 4 16 [(0, aR 32), (1, aI i), (2, aI x2q), (3, aI x3q)] [] M := by
      intro fu
      induction fu with
      | zero =>
        intro x2q x3q h0q h01q hx hm
        exact absurd hm (Nat.not_lt_zero _)
      | succ fu ih16q =>
        intro x2q x3q h0q h01q hx hm
        refine aw_iload_n cx dX7_isShaken_16 rfl 3 rfl ?_
        refine aw_aload_n cx dX7_isShaken_17 rfl 0 rfl ?_
        refine aw_getI cx dX7_isShaken_18 fl_X7_171 (lb_32 tl) rfl (fun z18q hz18q lo_z18q hi_z18q => ?_)
        refine aw_icmp_ge (tgt := 140) cx dX7_isShaken_21 (by decide) (fun c21q => ?_) (fun c21q => ?_)
        · refine aw_iload_n cx dX7_isShaken_140 rfl 2 rfl ?_
          refine aw_zret cx rt dX7_isShaken_141 (by omega) ?_
          exact ⟨rfl, x2q, rfl, h01q, by rw [show (M 32 11).toNat = x3q.toNat by omega]; exact hx⟩
        · refine aw_aload_n cx dX7_isShaken_24 rfl 0 rfl ?_
          refine aw_getI cx dX7_isShaken_25 fl_X7_190 (lb_32 tl) rfl (fun z25q hz25q lo_z25q hi_z25q => ?_)
          refine aw_iload_n cx dX7_isShaken_28 rfl 3 rfl ?_
          refine aw_callS (as := [aI z25q, aI x3q]) (stk := []) cx dX7_isShaken_29 ml_X7_196 ms_X7_isIn (by decide) rfl rfl (Nat.le_of_ble_eq_true rfl) (ct_X7_isIn tl M _ _ (by omega) (by omega)) (fun rr29q M_29q hp29q => ?_)
          obtain ⟨rfl, rfl⟩ := hp29q
          refine aw_top (stk := []) (fun z29q hz29q => ?_)
          refine aw_if_ne (tgt := 134) cx dX7_isShaken_32 (by decide) (fun c32q => ?_) (fun c32q => ?_)
          · have d32q := b2_y hz29q c32q
            refine aw_iinc cx dX7_isShaken_134 3 rfl (by decide) (by omega) (fun z134q hz134q => ?_)
            refine aw_loc (loc2 := [(3, aI z134q), (0, aR 32), (1, aI i), (2, aI x2q)]) rfl ?_
            refine aw_goto (tgt := 16) cx dX7_isShaken_137 (by decide) ?_
            refine aw_sub [1, 2, 3, 0] rfl ?_
            refine ih16q _ _  ?i_h0 ?i_h01 ?i_hx ?i_m
            case i_h0 =>
              omega
            case i_h01 =>
              omega
            case i_hx =>
              have hK : KEN (M 32 21) (M 41) x3q.toNat = -1 := if_pos (by rw [← hz25q]; exact d32q)
              rw [hz134q]
              exact SHK_i h0q.1 hx (by unfold SPe; rw [hK]; omega)
            case i_m =>
              omega
          · have d32q := b2_e0.mp (hz29q.symm.trans c32q)
            have hK : KEN (M 32 21) (M 41) x3q.toNat = M 41 x3q.toNat := if_neg (by rw [← hz25q]; exact d32q)
            refine aw_iload_n cx dX7_isShaken_35 rfl 2 rfl ?_
            refine aw_if_ne (tgt := 78) cx dX7_isShaken_36 (by decide) (fun c36q => ?_) (fun c36q => ?_)
            · refine aw_iconst (n := 1) cx dX7_isShaken_78 (by decide) ?_
              refine aw_goto (tgt := 83) cx dX7_isShaken_79 (by decide) ?_
              refine aw_istore_n (loc2 := [(2, aI 1), (0, aR 32), (1, aI i), (3, aI x3q)]) cx dX7_isShaken_83 rfl (by decide) rfl ?_
              refine aw_iload_n cx dX7_isShaken_84 rfl 0 rfl ?_
              refine aw_if_ne (tgt := 128) cx dX7_isShaken_85 (by decide) (fun c85q => ?_) (fun c85q => ?_)
              · refine aw_iconst (n := 1) cx dX7_isShaken_128 (by decide) ?_
                refine aw_goto (tgt := 133) cx dX7_isShaken_129 (by decide) ?_
                refine aw_istore_n (loc2 := [(2, aI 1), (0, aR 32), (1, aI i), (3, aI x3q)]) cx dX7_isShaken_133 rfl (by decide) rfl ?_
                refine aw_iinc cx dX7_isShaken_134 3 rfl (by decide) (by omega) (fun z134q hz134q => ?_)
                refine aw_loc (loc2 := [(3, aI z134q), (2, aI 1), (0, aR 32), (1, aI i)]) rfl ?_
                refine aw_goto (tgt := 16) cx dX7_isShaken_137 (by decide) ?_
                refine aw_sub [2, 3, 1, 0] rfl ?_
                refine ih16q _ _  ?i_h0 ?i_h01 ?i_hx ?i_m
                case i_h0 =>
                  omega
                case i_h01 =>
                  omega
                case i_hx =>
                  rw [hz134q]
                  first
                  | exact SHK_1 h0q.1 hx (by omega) h01q
                  | exact SHK_p h0q.1 (by clear hx; unfold SPe; rw [hK]; omega)
                  | exact SHK_n h0q.1 hx (by omega) (by clear hx; unfold SPe; rw [hK]; omega)
                case i_m =>
                  omega
              · exact absurd c85q (by decide)
            · refine aw_aload_n cx dX7_isShaken_39 rfl 0 rfl ?_
              refine aw_getR (q := 41) cx dX7_isShaken_40 fl_X7_34 (lb_32 tl) rfl rfl ?_
              refine aw_iload_n cx dX7_isShaken_43 rfl 3 rfl ?_
              refine aw_iald cx dX7_isShaken_44 (lb_41 tl) (⟨by omega, by omega⟩) (fun z44q hz44q lo_z44q hi_z44q => ?_)
              refine aw_if_ne (tgt := 82) cx dX7_isShaken_45 (by decide) (fun c45q => ?_) (fun c45q => ?_)
              · refine aw_iconst (n := 0) cx dX7_isShaken_82 (by decide) ?_
                refine aw_istore_n (loc2 := [(2, aI 0), (0, aR 32), (1, aI i), (3, aI x3q)]) cx dX7_isShaken_83 rfl (by decide) rfl ?_
                refine aw_iload_n cx dX7_isShaken_84 rfl 0 rfl ?_
                refine aw_if_ne (tgt := 128) cx dX7_isShaken_85 (by decide) (fun c85q => ?_) (fun c85q => ?_)
                · exact absurd c85q (by decide)
                · refine aw_aload_n cx dX7_isShaken_88 rfl 1 rfl ?_
                  refine aw_getR (q := 41) cx dX7_isShaken_89 fl_X7_34 (lb_32 tl) rfl rfl ?_
                  refine aw_iload_n cx dX7_isShaken_92 rfl 3 rfl ?_
                  refine aw_iald cx dX7_isShaken_93 (lb_41 tl) (⟨by omega, by omega⟩) (fun z93q hz93q lo_z93q hi_z93q => ?_)
                  refine aw_iconst (n := 1) cx dX7_isShaken_94 (by decide) ?_
                  refine aw_icmp_ne (tgt := 132) cx dX7_isShaken_95 (by decide) (fun c95q => ?_) (fun c95q => ?_)
                  · refine aw_iconst (n := 0) cx dX7_isShaken_132 (by decide) ?_
                    refine aw_istore_n (loc2 := [(2, aI 0), (0, aR 32), (1, aI i), (3, aI x3q)]) cx dX7_isShaken_133 rfl (by decide) rfl ?_
                    refine aw_iinc cx dX7_isShaken_134 3 rfl (by decide) (by omega) (fun z134q hz134q => ?_)
                    refine aw_loc (loc2 := [(3, aI z134q), (2, aI 0), (0, aR 32), (1, aI i)]) rfl ?_
                    refine aw_goto (tgt := 16) cx dX7_isShaken_137 (by decide) ?_
                    refine aw_sub [2, 3, 1, 0] rfl ?_
                    refine ih16q _ _  ?i_h0 ?i_h01 ?i_hx ?i_m
                    case i_h0 =>
                      omega
                    case i_h01 =>
                      omega
                    case i_hx =>
                      rw [hz134q]
                      first
                      | exact SHK_1 h0q.1 hx (by omega) h01q
                      | exact SHK_p h0q.1 (by clear hx; unfold SPe; rw [hK]; omega)
                      | exact SHK_n h0q.1 hx (by omega) (by clear hx; unfold SPe; rw [hK]; omega)
                    case i_m =>
                      omega
                  · refine aw_aload_n cx dX7_isShaken_98 rfl 1 rfl ?_
                    refine aw_getR (q := 43) cx dX7_isShaken_99 fl_X7_40 (lb_32 tl) rfl rfl ?_
                    refine aw_iload_n cx dX7_isShaken_102 rfl 3 rfl ?_
                    refine aw_iald cx dX7_isShaken_103 (lb_43 tl) (⟨by omega, by omega⟩) (fun z103q hz103q lo_z103q hi_z103q => ?_)
                    refine aw_aload_n cx dX7_isShaken_104 rfl 1 rfl ?_
                    refine aw_getR (q := 45) cx dX7_isShaken_105 fl_X7_46 (lb_32 tl) rfl rfl ?_
                    refine aw_iload_n cx dX7_isShaken_108 rfl 2 rfl ?_
                    refine aw_iald cx dX7_isShaken_109 (lb_45 tl) (⟨by omega, by omega⟩) (fun z109q hz109q lo_z109q hi_z109q => ?_)
                    refine aw_icmp_ne (tgt := 132) cx dX7_isShaken_110 (by decide) (fun c110q => ?_) (fun c110q => ?_)
                    · refine aw_iconst (n := 0) cx dX7_isShaken_132 (by decide) ?_
                      refine aw_istore_n (loc2 := [(2, aI 0), (0, aR 32), (1, aI i), (3, aI x3q)]) cx dX7_isShaken_133 rfl (by decide) rfl ?_
                      refine aw_iinc cx dX7_isShaken_134 3 rfl (by decide) (by omega) (fun z134q hz134q => ?_)
                      refine aw_loc (loc2 := [(3, aI z134q), (2, aI 0), (0, aR 32), (1, aI i)]) rfl ?_
                      refine aw_goto (tgt := 16) cx dX7_isShaken_137 (by decide) ?_
                      refine aw_sub [2, 3, 1, 0] rfl ?_
                      refine ih16q _ _  ?i_h0 ?i_h01 ?i_hx ?i_m
                      case i_h0 =>
                        omega
                      case i_h01 =>
                        omega
                      case i_hx =>
                        rw [hz134q]
                        first
                        | exact SHK_1 h0q.1 hx (by omega) h01q
                        | exact SHK_p h0q.1 (by clear hx; unfold SPe; rw [hK]; omega)
                        | exact SHK_n h0q.1 hx (by omega) (by clear hx; unfold SPe; rw [hK]; omega)
                      case i_m =>
                        omega
                    · refine aw_aload_n cx dX7_isShaken_113 rfl 1 rfl ?_
                      refine aw_getR (q := 42) cx dX7_isShaken_114 fl_X7_37 (lb_32 tl) rfl rfl ?_
                      refine aw_iload_n cx dX7_isShaken_117 rfl 3 rfl ?_
                      refine aw_iald cx dX7_isShaken_118 (lb_42 tl) (⟨by omega, by omega⟩) (fun z118q hz118q lo_z118q hi_z118q => ?_)
                      refine aw_aload_n cx dX7_isShaken_119 rfl 1 rfl ?_
                      refine aw_getR (q := 44) cx dX7_isShaken_120 fl_X7_43 (lb_32 tl) rfl rfl ?_
                      refine aw_iload_n cx dX7_isShaken_123 rfl 2 rfl ?_
                      refine aw_iald cx dX7_isShaken_124 (lb_44 tl) (⟨by omega, by omega⟩) (fun z124q hz124q lo_z124q hi_z124q => ?_)
                      refine aw_icmp_ne (tgt := 132) cx dX7_isShaken_125 (by decide) (fun c125q => ?_) (fun c125q => ?_)
                      · refine aw_iconst (n := 0) cx dX7_isShaken_132 (by decide) ?_
                        refine aw_istore_n (loc2 := [(2, aI 0), (0, aR 32), (1, aI i), (3, aI x3q)]) cx dX7_isShaken_133 rfl (by decide) rfl ?_
                        refine aw_iinc cx dX7_isShaken_134 3 rfl (by decide) (by omega) (fun z134q hz134q => ?_)
                        refine aw_loc (loc2 := [(3, aI z134q), (2, aI 0), (0, aR 32), (1, aI i)]) rfl ?_
                        refine aw_goto (tgt := 16) cx dX7_isShaken_137 (by decide) ?_
                        refine aw_sub [2, 3, 1, 0] rfl ?_
                        refine ih16q _ _  ?i_h0 ?i_h01 ?i_hx ?i_m
                        case i_h0 =>
                          omega
                        case i_h01 =>
                          omega
                        case i_hx =>
                          rw [hz134q]
                          first
                          | exact SHK_1 h0q.1 hx (by omega) h01q
                          | exact SHK_p h0q.1 (by clear hx; unfold SPe; rw [hK]; omega)
                          | exact SHK_n h0q.1 hx (by omega) (by clear hx; unfold SPe; rw [hK]; omega)
                        case i_m =>
                          omega
                      · refine aw_iconst (n := 1) cx dX7_isShaken_128 (by decide) ?_
                        refine aw_goto (tgt := 133) cx dX7_isShaken_129 (by decide) ?_
                        refine aw_istore_n (loc2 := [(2, aI 1), (0, aR 32), (1, aI i), (3, aI x3q)]) cx dX7_isShaken_133 rfl (by decide) rfl ?_
                        refine aw_iinc cx dX7_isShaken_134 3 rfl (by decide) (by omega) (fun z134q hz134q => ?_)
                        refine aw_loc (loc2 := [(3, aI z134q), (2, aI 1), (0, aR 32), (1, aI i)]) rfl ?_
                        refine aw_goto (tgt := 16) cx dX7_isShaken_137 (by decide) ?_
                        refine aw_sub [2, 3, 1, 0] rfl ?_
                        refine ih16q _ _  ?i_h0 ?i_h01 ?i_hx ?i_m
                        case i_h0 =>
                          omega
                        case i_h01 =>
                          omega
                        case i_hx =>
                          rw [hz134q]
                          first
                          | exact SHK_1 h0q.1 hx (by omega) h01q
                          | exact SHK_p h0q.1 (by clear hx; unfold SPe; rw [hK]; omega)
                          | exact SHK_n h0q.1 hx (by omega) (by clear hx; unfold SPe; rw [hK]; omega)
                        case i_m =>
                          omega
              · refine aw_aload_n cx dX7_isShaken_48 rfl 0 rfl ?_
                refine aw_getR (q := 43) cx dX7_isShaken_49 fl_X7_40 (lb_32 tl) rfl rfl ?_
                refine aw_iload_n cx dX7_isShaken_52 rfl 3 rfl ?_
                refine aw_iald cx dX7_isShaken_53 (lb_43 tl) (⟨by omega, by omega⟩) (fun z53q hz53q lo_z53q hi_z53q => ?_)
                refine aw_aload_n cx dX7_isShaken_54 rfl 0 rfl ?_
                refine aw_getR (q := 46) cx dX7_isShaken_55 fl_X7_49 (lb_32 tl) rfl rfl ?_
                refine aw_iload_n cx dX7_isShaken_58 rfl 1 rfl ?_
                refine aw_iald cx dX7_isShaken_59 (lb_46 tl) (⟨by omega, by omega⟩) (fun z59q hz59q lo_z59q hi_z59q => ?_)
                refine aw_icmp_ne (tgt := 82) cx dX7_isShaken_60 (by decide) (fun c60q => ?_) (fun c60q => ?_)
                · refine aw_iconst (n := 0) cx dX7_isShaken_82 (by decide) ?_
                  refine aw_istore_n (loc2 := [(2, aI 0), (0, aR 32), (1, aI i), (3, aI x3q)]) cx dX7_isShaken_83 rfl (by decide) rfl ?_
                  refine aw_iload_n cx dX7_isShaken_84 rfl 0 rfl ?_
                  refine aw_if_ne (tgt := 128) cx dX7_isShaken_85 (by decide) (fun c85q => ?_) (fun c85q => ?_)
                  · exact absurd c85q (by decide)
                  · refine aw_aload_n cx dX7_isShaken_88 rfl 1 rfl ?_
                    refine aw_getR (q := 41) cx dX7_isShaken_89 fl_X7_34 (lb_32 tl) rfl rfl ?_
                    refine aw_iload_n cx dX7_isShaken_92 rfl 3 rfl ?_
                    refine aw_iald cx dX7_isShaken_93 (lb_41 tl) (⟨by omega, by omega⟩) (fun z93q hz93q lo_z93q hi_z93q => ?_)
                    refine aw_iconst (n := 1) cx dX7_isShaken_94 (by decide) ?_
                    refine aw_icmp_ne (tgt := 132) cx dX7_isShaken_95 (by decide) (fun c95q => ?_) (fun c95q => ?_)
                    · refine aw_iconst (n := 0) cx dX7_isShaken_132 (by decide) ?_
                      refine aw_istore_n (loc2 := [(2, aI 0), (0, aR 32), (1, aI i), (3, aI x3q)]) cx dX7_isShaken_133 rfl (by decide) rfl ?_
                      refine aw_iinc cx dX7_isShaken_134 3 rfl (by decide) (by omega) (fun z134q hz134q => ?_)
                      refine aw_loc (loc2 := [(3, aI z134q), (2, aI 0), (0, aR 32), (1, aI i)]) rfl ?_
                      refine aw_goto (tgt := 16) cx dX7_isShaken_137 (by decide) ?_
                      refine aw_sub [2, 3, 1, 0] rfl ?_
                      refine ih16q _ _  ?i_h0 ?i_h01 ?i_hx ?i_m
                      case i_h0 =>
                        omega
                      case i_h01 =>
                        omega
                      case i_hx =>
                        rw [hz134q]
                        first
                        | exact SHK_1 h0q.1 hx (by omega) h01q
                        | exact SHK_p h0q.1 (by clear hx; unfold SPe; rw [hK]; omega)
                        | exact SHK_n h0q.1 hx (by omega) (by clear hx; unfold SPe; rw [hK]; omega)
                      case i_m =>
                        omega
                    · refine aw_aload_n cx dX7_isShaken_98 rfl 1 rfl ?_
                      refine aw_getR (q := 43) cx dX7_isShaken_99 fl_X7_40 (lb_32 tl) rfl rfl ?_
                      refine aw_iload_n cx dX7_isShaken_102 rfl 3 rfl ?_
                      refine aw_iald cx dX7_isShaken_103 (lb_43 tl) (⟨by omega, by omega⟩) (fun z103q hz103q lo_z103q hi_z103q => ?_)
                      refine aw_aload_n cx dX7_isShaken_104 rfl 1 rfl ?_
                      refine aw_getR (q := 45) cx dX7_isShaken_105 fl_X7_46 (lb_32 tl) rfl rfl ?_
                      refine aw_iload_n cx dX7_isShaken_108 rfl 2 rfl ?_
                      refine aw_iald cx dX7_isShaken_109 (lb_45 tl) (⟨by omega, by omega⟩) (fun z109q hz109q lo_z109q hi_z109q => ?_)
                      refine aw_icmp_ne (tgt := 132) cx dX7_isShaken_110 (by decide) (fun c110q => ?_) (fun c110q => ?_)
                      · refine aw_iconst (n := 0) cx dX7_isShaken_132 (by decide) ?_
                        refine aw_istore_n (loc2 := [(2, aI 0), (0, aR 32), (1, aI i), (3, aI x3q)]) cx dX7_isShaken_133 rfl (by decide) rfl ?_
                        refine aw_iinc cx dX7_isShaken_134 3 rfl (by decide) (by omega) (fun z134q hz134q => ?_)
                        refine aw_loc (loc2 := [(3, aI z134q), (2, aI 0), (0, aR 32), (1, aI i)]) rfl ?_
                        refine aw_goto (tgt := 16) cx dX7_isShaken_137 (by decide) ?_
                        refine aw_sub [2, 3, 1, 0] rfl ?_
                        refine ih16q _ _  ?i_h0 ?i_h01 ?i_hx ?i_m
                        case i_h0 =>
                          omega
                        case i_h01 =>
                          omega
                        case i_hx =>
                          rw [hz134q]
                          first
                          | exact SHK_1 h0q.1 hx (by omega) h01q
                          | exact SHK_p h0q.1 (by clear hx; unfold SPe; rw [hK]; omega)
                          | exact SHK_n h0q.1 hx (by omega) (by clear hx; unfold SPe; rw [hK]; omega)
                        case i_m =>
                          omega
                      · refine aw_aload_n cx dX7_isShaken_113 rfl 1 rfl ?_
                        refine aw_getR (q := 42) cx dX7_isShaken_114 fl_X7_37 (lb_32 tl) rfl rfl ?_
                        refine aw_iload_n cx dX7_isShaken_117 rfl 3 rfl ?_
                        refine aw_iald cx dX7_isShaken_118 (lb_42 tl) (⟨by omega, by omega⟩) (fun z118q hz118q lo_z118q hi_z118q => ?_)
                        refine aw_aload_n cx dX7_isShaken_119 rfl 1 rfl ?_
                        refine aw_getR (q := 44) cx dX7_isShaken_120 fl_X7_43 (lb_32 tl) rfl rfl ?_
                        refine aw_iload_n cx dX7_isShaken_123 rfl 2 rfl ?_
                        refine aw_iald cx dX7_isShaken_124 (lb_44 tl) (⟨by omega, by omega⟩) (fun z124q hz124q lo_z124q hi_z124q => ?_)
                        refine aw_icmp_ne (tgt := 132) cx dX7_isShaken_125 (by decide) (fun c125q => ?_) (fun c125q => ?_)
                        · refine aw_iconst (n := 0) cx dX7_isShaken_132 (by decide) ?_
                          refine aw_istore_n (loc2 := [(2, aI 0), (0, aR 32), (1, aI i), (3, aI x3q)]) cx dX7_isShaken_133 rfl (by decide) rfl ?_
                          refine aw_iinc cx dX7_isShaken_134 3 rfl (by decide) (by omega) (fun z134q hz134q => ?_)
                          refine aw_loc (loc2 := [(3, aI z134q), (2, aI 0), (0, aR 32), (1, aI i)]) rfl ?_
                          refine aw_goto (tgt := 16) cx dX7_isShaken_137 (by decide) ?_
                          refine aw_sub [2, 3, 1, 0] rfl ?_
                          refine ih16q _ _  ?i_h0 ?i_h01 ?i_hx ?i_m
                          case i_h0 =>
                            omega
                          case i_h01 =>
                            omega
                          case i_hx =>
                            rw [hz134q]
                            first
                            | exact SHK_1 h0q.1 hx (by omega) h01q
                            | exact SHK_p h0q.1 (by clear hx; unfold SPe; rw [hK]; omega)
                            | exact SHK_n h0q.1 hx (by omega) (by clear hx; unfold SPe; rw [hK]; omega)
                          case i_m =>
                            omega
                        · refine aw_iconst (n := 1) cx dX7_isShaken_128 (by decide) ?_
                          refine aw_goto (tgt := 133) cx dX7_isShaken_129 (by decide) ?_
                          refine aw_istore_n (loc2 := [(2, aI 1), (0, aR 32), (1, aI i), (3, aI x3q)]) cx dX7_isShaken_133 rfl (by decide) rfl ?_
                          refine aw_iinc cx dX7_isShaken_134 3 rfl (by decide) (by omega) (fun z134q hz134q => ?_)
                          refine aw_loc (loc2 := [(3, aI z134q), (2, aI 1), (0, aR 32), (1, aI i)]) rfl ?_
                          refine aw_goto (tgt := 16) cx dX7_isShaken_137 (by decide) ?_
                          refine aw_sub [2, 3, 1, 0] rfl ?_
                          refine ih16q _ _  ?i_h0 ?i_h01 ?i_hx ?i_m
                          case i_h0 =>
                            omega
                          case i_h01 =>
                            omega
                          case i_hx =>
                            rw [hz134q]
                            first
                            | exact SHK_1 h0q.1 hx (by omega) h01q
                            | exact SHK_p h0q.1 (by clear hx; unfold SPe; rw [hK]; omega)
                            | exact SHK_n h0q.1 hx (by omega) (by clear hx; unfold SPe; rw [hK]; omega)
                          case i_m =>
                            omega
                · refine aw_aload_n cx dX7_isShaken_63 rfl 0 rfl ?_
                  refine aw_getR (q := 42) cx dX7_isShaken_64 fl_X7_37 (lb_32 tl) rfl rfl ?_
                  refine aw_iload_n cx dX7_isShaken_67 rfl 3 rfl ?_
                  refine aw_iald cx dX7_isShaken_68 (lb_42 tl) (⟨by omega, by omega⟩) (fun z68q hz68q lo_z68q hi_z68q => ?_)
                  refine aw_aload_n cx dX7_isShaken_69 rfl 0 rfl ?_
                  refine aw_getR (q := 44) cx dX7_isShaken_70 fl_X7_43 (lb_32 tl) rfl rfl ?_
                  refine aw_iload_n cx dX7_isShaken_73 rfl 1 rfl ?_
                  refine aw_iald cx dX7_isShaken_74 (lb_44 tl) (⟨by omega, by omega⟩) (fun z74q hz74q lo_z74q hi_z74q => ?_)
                  refine aw_icmp_gt (tgt := 82) cx dX7_isShaken_75 (by decide) (fun c75q => ?_) (fun c75q => ?_)
                  · refine aw_iconst (n := 0) cx dX7_isShaken_82 (by decide) ?_
                    refine aw_istore_n (loc2 := [(2, aI 0), (0, aR 32), (1, aI i), (3, aI x3q)]) cx dX7_isShaken_83 rfl (by decide) rfl ?_
                    refine aw_iload_n cx dX7_isShaken_84 rfl 0 rfl ?_
                    refine aw_if_ne (tgt := 128) cx dX7_isShaken_85 (by decide) (fun c85q => ?_) (fun c85q => ?_)
                    · exact absurd c85q (by decide)
                    · refine aw_aload_n cx dX7_isShaken_88 rfl 1 rfl ?_
                      refine aw_getR (q := 41) cx dX7_isShaken_89 fl_X7_34 (lb_32 tl) rfl rfl ?_
                      refine aw_iload_n cx dX7_isShaken_92 rfl 3 rfl ?_
                      refine aw_iald cx dX7_isShaken_93 (lb_41 tl) (⟨by omega, by omega⟩) (fun z93q hz93q lo_z93q hi_z93q => ?_)
                      refine aw_iconst (n := 1) cx dX7_isShaken_94 (by decide) ?_
                      refine aw_icmp_ne (tgt := 132) cx dX7_isShaken_95 (by decide) (fun c95q => ?_) (fun c95q => ?_)
                      · refine aw_iconst (n := 0) cx dX7_isShaken_132 (by decide) ?_
                        refine aw_istore_n (loc2 := [(2, aI 0), (0, aR 32), (1, aI i), (3, aI x3q)]) cx dX7_isShaken_133 rfl (by decide) rfl ?_
                        refine aw_iinc cx dX7_isShaken_134 3 rfl (by decide) (by omega) (fun z134q hz134q => ?_)
                        refine aw_loc (loc2 := [(3, aI z134q), (2, aI 0), (0, aR 32), (1, aI i)]) rfl ?_
                        refine aw_goto (tgt := 16) cx dX7_isShaken_137 (by decide) ?_
                        refine aw_sub [2, 3, 1, 0] rfl ?_
                        refine ih16q _ _  ?i_h0 ?i_h01 ?i_hx ?i_m
                        case i_h0 =>
                          omega
                        case i_h01 =>
                          omega
                        case i_hx =>
                          rw [hz134q]
                          first
                          | exact SHK_1 h0q.1 hx (by omega) h01q
                          | exact SHK_p h0q.1 (by clear hx; unfold SPe; rw [hK]; omega)
                          | exact SHK_n h0q.1 hx (by omega) (by clear hx; unfold SPe; rw [hK]; omega)
                        case i_m =>
                          omega
                      · refine aw_aload_n cx dX7_isShaken_98 rfl 1 rfl ?_
                        refine aw_getR (q := 43) cx dX7_isShaken_99 fl_X7_40 (lb_32 tl) rfl rfl ?_
                        refine aw_iload_n cx dX7_isShaken_102 rfl 3 rfl ?_
                        refine aw_iald cx dX7_isShaken_103 (lb_43 tl) (⟨by omega, by omega⟩) (fun z103q hz103q lo_z103q hi_z103q => ?_)
                        refine aw_aload_n cx dX7_isShaken_104 rfl 1 rfl ?_
                        refine aw_getR (q := 45) cx dX7_isShaken_105 fl_X7_46 (lb_32 tl) rfl rfl ?_
                        refine aw_iload_n cx dX7_isShaken_108 rfl 2 rfl ?_
                        refine aw_iald cx dX7_isShaken_109 (lb_45 tl) (⟨by omega, by omega⟩) (fun z109q hz109q lo_z109q hi_z109q => ?_)
                        refine aw_icmp_ne (tgt := 132) cx dX7_isShaken_110 (by decide) (fun c110q => ?_) (fun c110q => ?_)
                        · refine aw_iconst (n := 0) cx dX7_isShaken_132 (by decide) ?_
                          refine aw_istore_n (loc2 := [(2, aI 0), (0, aR 32), (1, aI i), (3, aI x3q)]) cx dX7_isShaken_133 rfl (by decide) rfl ?_
                          refine aw_iinc cx dX7_isShaken_134 3 rfl (by decide) (by omega) (fun z134q hz134q => ?_)
                          refine aw_loc (loc2 := [(3, aI z134q), (2, aI 0), (0, aR 32), (1, aI i)]) rfl ?_
                          refine aw_goto (tgt := 16) cx dX7_isShaken_137 (by decide) ?_
                          refine aw_sub [2, 3, 1, 0] rfl ?_
                          refine ih16q _ _  ?i_h0 ?i_h01 ?i_hx ?i_m
                          case i_h0 =>
                            omega
                          case i_h01 =>
                            omega
                          case i_hx =>
                            rw [hz134q]
                            first
                            | exact SHK_1 h0q.1 hx (by omega) h01q
                            | exact SHK_p h0q.1 (by clear hx; unfold SPe; rw [hK]; omega)
                            | exact SHK_n h0q.1 hx (by omega) (by clear hx; unfold SPe; rw [hK]; omega)
                          case i_m =>
                            omega
                        · refine aw_aload_n cx dX7_isShaken_113 rfl 1 rfl ?_
                          refine aw_getR (q := 42) cx dX7_isShaken_114 fl_X7_37 (lb_32 tl) rfl rfl ?_
                          refine aw_iload_n cx dX7_isShaken_117 rfl 3 rfl ?_
                          refine aw_iald cx dX7_isShaken_118 (lb_42 tl) (⟨by omega, by omega⟩) (fun z118q hz118q lo_z118q hi_z118q => ?_)
                          refine aw_aload_n cx dX7_isShaken_119 rfl 1 rfl ?_
                          refine aw_getR (q := 44) cx dX7_isShaken_120 fl_X7_43 (lb_32 tl) rfl rfl ?_
                          refine aw_iload_n cx dX7_isShaken_123 rfl 2 rfl ?_
                          refine aw_iald cx dX7_isShaken_124 (lb_44 tl) (⟨by omega, by omega⟩) (fun z124q hz124q lo_z124q hi_z124q => ?_)
                          refine aw_icmp_ne (tgt := 132) cx dX7_isShaken_125 (by decide) (fun c125q => ?_) (fun c125q => ?_)
                          · refine aw_iconst (n := 0) cx dX7_isShaken_132 (by decide) ?_
                            refine aw_istore_n (loc2 := [(2, aI 0), (0, aR 32), (1, aI i), (3, aI x3q)]) cx dX7_isShaken_133 rfl (by decide) rfl ?_
                            refine aw_iinc cx dX7_isShaken_134 3 rfl (by decide) (by omega) (fun z134q hz134q => ?_)
                            refine aw_loc (loc2 := [(3, aI z134q), (2, aI 0), (0, aR 32), (1, aI i)]) rfl ?_
                            refine aw_goto (tgt := 16) cx dX7_isShaken_137 (by decide) ?_
                            refine aw_sub [2, 3, 1, 0] rfl ?_
                            refine ih16q _ _  ?i_h0 ?i_h01 ?i_hx ?i_m
                            case i_h0 =>
                              omega
                            case i_h01 =>
                              omega
                            case i_hx =>
                              rw [hz134q]
                              first
                              | exact SHK_1 h0q.1 hx (by omega) h01q
                              | exact SHK_p h0q.1 (by clear hx; unfold SPe; rw [hK]; omega)
                              | exact SHK_n h0q.1 hx (by omega) (by clear hx; unfold SPe; rw [hK]; omega)
                            case i_m =>
                              omega
                          · refine aw_iconst (n := 1) cx dX7_isShaken_128 (by decide) ?_
                            refine aw_goto (tgt := 133) cx dX7_isShaken_129 (by decide) ?_
                            refine aw_istore_n (loc2 := [(2, aI 1), (0, aR 32), (1, aI i), (3, aI x3q)]) cx dX7_isShaken_133 rfl (by decide) rfl ?_
                            refine aw_iinc cx dX7_isShaken_134 3 rfl (by decide) (by omega) (fun z134q hz134q => ?_)
                            refine aw_loc (loc2 := [(3, aI z134q), (2, aI 1), (0, aR 32), (1, aI i)]) rfl ?_
                            refine aw_goto (tgt := 16) cx dX7_isShaken_137 (by decide) ?_
                            refine aw_sub [2, 3, 1, 0] rfl ?_
                            refine ih16q _ _  ?i_h0 ?i_h01 ?i_hx ?i_m
                            case i_h0 =>
                              omega
                            case i_h01 =>
                              omega
                            case i_hx =>
                              rw [hz134q]
                              first
                              | exact SHK_1 h0q.1 hx (by omega) h01q
                              | exact SHK_p h0q.1 (by clear hx; unfold SPe; rw [hK]; omega)
                              | exact SHK_n h0q.1 hx (by omega) (by clear hx; unfold SPe; rw [hK]; omega)
                            case i_m =>
                              omega
                  · refine aw_iconst (n := 1) cx dX7_isShaken_78 (by decide) ?_
                    refine aw_goto (tgt := 83) cx dX7_isShaken_79 (by decide) ?_
                    refine aw_istore_n (loc2 := [(2, aI 1), (0, aR 32), (1, aI i), (3, aI x3q)]) cx dX7_isShaken_83 rfl (by decide) rfl ?_
                    refine aw_iload_n cx dX7_isShaken_84 rfl 0 rfl ?_
                    refine aw_if_ne (tgt := 128) cx dX7_isShaken_85 (by decide) (fun c85q => ?_) (fun c85q => ?_)
                    · refine aw_iconst (n := 1) cx dX7_isShaken_128 (by decide) ?_
                      refine aw_goto (tgt := 133) cx dX7_isShaken_129 (by decide) ?_
                      refine aw_istore_n (loc2 := [(2, aI 1), (0, aR 32), (1, aI i), (3, aI x3q)]) cx dX7_isShaken_133 rfl (by decide) rfl ?_
                      refine aw_iinc cx dX7_isShaken_134 3 rfl (by decide) (by omega) (fun z134q hz134q => ?_)
                      refine aw_loc (loc2 := [(3, aI z134q), (2, aI 1), (0, aR 32), (1, aI i)]) rfl ?_
                      refine aw_goto (tgt := 16) cx dX7_isShaken_137 (by decide) ?_
                      refine aw_sub [2, 3, 1, 0] rfl ?_
                      refine ih16q _ _  ?i_h0 ?i_h01 ?i_hx ?i_m
                      case i_h0 =>
                        omega
                      case i_h01 =>
                        omega
                      case i_hx =>
                        rw [hz134q]
                        first
                        | exact SHK_1 h0q.1 hx (by omega) h01q
                        | exact SHK_p h0q.1 (by clear hx; unfold SPe; rw [hK]; omega)
                        | exact SHK_n h0q.1 hx (by omega) (by clear hx; unfold SPe; rw [hK]; omega)
                      case i_m =>
                        omega
                    · exact absurd c85q (by decide)
    refine aw_sub [2, 3, 1, 0] rfl ?_
    refine lp16q _ _ _  ?i_h0 ?i_h01 ?i_hx (Nat.lt_succ_self _)
    case i_h0 =>
      omega
    case i_h01 =>
      omega
    case i_hx =>
      rw [SHK_0]; omega
