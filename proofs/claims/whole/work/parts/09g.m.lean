set_option maxHeartbeats 1000000 in
set_option maxRecDepth 100000 in
theorem ct_X7_others (tl : List CD) (M : Mem) (i : Int) (hi : 0 ≤ i ∧ i < 12) : Ct 1 mX7_others (LB ++ tl) [aR 32, aI i] M (fun r M1 => M = M1 ∧ r = some (aI (OTH (M 32 15).toNat (M 48) (M 44) (M 45) (M 46) i.toNat))) := by
  refine Ct.of (own := RX7) rfl (by decide +kernel) (Nat.le_of_ble_eq_true rfl) (fun X cx rt => ?_)
  refine aw_eq (loc2 := [(0, aR 32), (1, aI i)]) ?_ rfl rfl rfl rfl
  refine aw_rngL 1 rfl (fun rl_i rh_i => ?_)
  refine aw_ok (fun om => ?_)
  have htn : 0 ≤ M 32 15 ∧ M 32 15 ≤ 12 := okF om (lb_32 tl) (j := 15) rfl (show (0 : Nat) ≠ 1 by decide)
  refine aw_iconst (n := 0) cx dX7_others_0 (by decide) ?_
  refine aw_istore_n (loc2 := [(2, aI 0), (0, aR 32), (1, aI i)]) cx dX7_others_1 rfl (by decide) rfl ?_
  refine aw_iconst (n := 0) cx dX7_others_2 (by decide) ?_
  refine aw_istore_n (loc2 := [(3, aI 0), (2, aI 0), (0, aR 32), (1, aI i)]) cx dX7_others_3 rfl (by decide) rfl ?_
  have lp4q : ∀ (fu : Nat) (x2q : Int) (x3q : Int), (0 ≤ x3q ∧ x3q ≤ M 32 15) → (0 ≤ x2q ∧ x2q < 1024) → (∀ w : Nat, BT x2q w ↔ ∃ j, j < x3q.toNat ∧ (M 48 j = 1 ∧ M 44 j = M 44 i.toNat ∧ M 45 j = M 45 i.toNat ∧ M 46 j ≠ M 46 i.toNat ∧ M 46 j = (w : Int))) → ((M 32 15 - x3q).toNat) < fu → AW X (LB ++ tl) 5 4 [(0, aR 32), (1, aI i), (2, aI x2q), (3, aI x3q)] [] M := by
    intro fu
    induction fu with
    | zero =>
      intro x2q x3q h0q h1q hb hm
      exact absurd hm (Nat.not_lt_zero _)
    | succ fu ih4q =>
      intro x2q x3q h0q h1q hb hm
      refine aw_iload_n cx dX7_others_4 rfl 3 rfl ?_
      refine aw_aload_n cx dX7_others_5 rfl 0 rfl ?_
      refine aw_getI cx dX7_others_6 fl_X7_184 (lb_32 tl) rfl (fun z6q hz6q lo_z6q hi_z6q => ?_)
      refine aw_icmp_ge (tgt := 100) cx dX7_others_9 (by decide) (fun c9q => ?_) (fun c9q => ?_)
      · have hB : ∀ w : Nat, BT x2q w ↔ ∃ j, j < (M 32 15).toNat ∧ (M 48 j = 1 ∧ M 44 j = M 44 i.toNat ∧ M 45 j = M 45 i.toNat ∧ M 46 j ≠ M 46 i.toNat ∧ M 46 j = (w : Int)) := fun w => by rw [hb w, show x3q = M 32 15 by omega]
        refine aw_iconst (n := 0) cx dX7_others_100 (by decide) ?_
        refine aw_istore_n (loc2 := [(3, aI 0), (0, aR 32), (1, aI i), (2, aI x2q)]) cx dX7_others_101 rfl (by decide) rfl ?_
        refine aw_iconst (n := 0) cx dX7_others_102 (by decide) ?_
        refine aw_istore (loc2 := [(4, aI 0), (3, aI 0), (0, aR 32), (1, aI i), (2, aI x2q)]) cx dX7_others_103 (by decide) rfl ?_
        have lp105q : ∀ (fu : Nat) (x3q : Int) (x4q : Int), (0 ≤ x4q ∧ x4q ≤ 10) → (0 ≤ x3q ∧ x3q ≤ x4q) → (x3q = sm (fun w => b2 (BT x2q w)) x4q.toNat) → ((10 - x4q).toNat) < fu → AW X (LB ++ tl) 5 105 [(0, aR 32), (1, aI i), (2, aI x2q), (3, aI x3q), (4, aI x4q)] [] M := by
          intro fu
          induction fu with
          | zero =>
            intro x3q x4q h4q h5q hs hm
            exact absurd hm (Nat.not_lt_zero _)
          | succ fu ih105q =>
            intro x3q x4q h4q h5q hs hm
            refine aw_iload cx dX7_others_105 4 rfl ?_
            refine aw_bipush (n := 10) cx dX7_others_107 (by decide) ?_
            refine aw_icmp_ge (tgt := 135) cx dX7_others_109 (by decide) (fun c109q => ?_) (fun c109q => ?_)
            · refine aw_iload_n cx dX7_others_135 rfl 3 rfl ?_
              refine aw_iret cx rt dX7_others_136 ?_
              refine ⟨rfl, congrArg (fun q => some (aI q)) ?_⟩
              unfold OTH
              rw [hs, show x4q.toNat = 10 by omega]
              refine sm_c (fun w hw => b2_c ?_)
              rw [hB w, sm_pos]
              exact ⟨fun ⟨j, g1, g2, g3, g4, g5, g6⟩ => ⟨by omega, j, g1, g2, g3, g4, g6⟩, fun ⟨g, j, g1, g2, g3, g4, g6⟩ => ⟨j, g1, g2, g3, g4, by omega, g6⟩⟩
            · refine aw_iload_n cx dX7_others_112 rfl 3 rfl ?_
              refine aw_iload_n cx dX7_others_113 rfl 2 rfl ?_
              refine aw_iload cx dX7_others_114 4 rfl ?_
              refine aw_callS (as := [aI x2q, aI x4q]) (stk := [aI x3q]) cx dX7_others_116 ml_X7_196 ms_X7_isIn (by decide) rfl rfl (Nat.le_of_ble_eq_true rfl) (ct_X7_isIn tl M _ _ (by omega) (by omega)) (fun rr116q M_116q hp116q => ?_)
              obtain ⟨rfl, rfl⟩ := hp116q
              refine aw_top (stk := [aI x3q]) (fun z116q hz116q => ?_)
              refine aw_if_eq (tgt := 126) cx dX7_others_119 (by decide) (fun c119q => ?_) (fun c119q => ?_)
              · have d119q := b2_e0.mp (hz116q.symm.trans c119q)
                refine aw_iconst (n := 0) cx dX7_others_126 (by decide) ?_
                refine aw_iadd cx dX7_others_127 (by omega) (fun z127q hz127q => ?_)
                refine aw_istore_n (loc2 := [(3, aI z127q), (0, aR 32), (1, aI i), (2, aI x2q), (4, aI x4q)]) cx dX7_others_128 rfl (by decide) rfl ?_
                refine aw_iinc cx dX7_others_129 4 rfl (by decide) (by omega) (fun z129q hz129q => ?_)
                refine aw_loc (loc2 := [(4, aI z129q), (3, aI z127q), (0, aR 32), (1, aI i), (2, aI x2q)]) rfl ?_
                refine aw_goto (tgt := 105) cx dX7_others_132 (by decide) ?_
                refine aw_sub [2, 3, 4, 1, 0] rfl ?_
                refine ih105q _ _  ?i_h4 ?i_h5 ?i_hs ?i_m
                case i_h4 =>
                  omega
                case i_h5 =>
                  omega
                case i_hs =>
                  rw [hz129q, sm_i h4q.1]; first | (rw [b2_t d119q]; omega) | (rw [b2_f d119q]; omega)
                case i_m =>
                  omega
              · have d119q := b2_y hz116q c119q
                refine aw_iconst (n := 1) cx dX7_others_122 (by decide) ?_
                refine aw_goto (tgt := 127) cx dX7_others_123 (by decide) ?_
                refine aw_iadd cx dX7_others_127 (by omega) (fun z127q hz127q => ?_)
                refine aw_istore_n (loc2 := [(3, aI z127q), (0, aR 32), (1, aI i), (2, aI x2q), (4, aI x4q)]) cx dX7_others_128 rfl (by decide) rfl ?_
                refine aw_iinc cx dX7_others_129 4 rfl (by decide) (by omega) (fun z129q hz129q => ?_)
                refine aw_loc (loc2 := [(4, aI z129q), (3, aI z127q), (0, aR 32), (1, aI i), (2, aI x2q)]) rfl ?_
                refine aw_goto (tgt := 105) cx dX7_others_132 (by decide) ?_
                refine aw_sub [2, 3, 4, 1, 0] rfl ?_
                refine ih105q _ _  ?i_h4 ?i_h5 ?i_hs ?i_m
                case i_h4 =>
                  omega
                case i_h5 =>
                  omega
                case i_hs =>
                  rw [hz129q, sm_i h4q.1]; first | (rw [b2_t d119q]; omega) | (rw [b2_f d119q]; omega)
                case i_m =>
                  omega
        refine aw_sub [2, 3, 4, 1, 0] rfl ?_
        refine lp105q _ _ _  ?i_h4 ?i_h5 ?i_hs (Nat.lt_succ_self _)
        case i_h4 =>
          omega
        case i_h5 =>
          omega
        case i_hs =>
          rfl
      · refine aw_aload_n cx dX7_others_12 rfl 0 rfl ?_
        refine aw_getR (q := 48) cx dX7_others_13 fl_X7_55 (lb_32 tl) rfl rfl ?_
        refine aw_iload_n cx dX7_others_16 rfl 3 rfl ?_
        refine aw_iald cx dX7_others_17 (lb_48 tl) (⟨by omega, by omega⟩) (fun z17q hz17q lo_z17q hi_z17q => ?_)
        refine aw_iconst (n := 1) cx dX7_others_18 (by decide) ?_
        refine aw_icmp_ne (tgt := 71) cx dX7_others_19 (by decide) (fun c19q => ?_) (fun c19q => ?_)
        · refine aw_iconst (n := 0) cx dX7_others_71 (by decide) ?_
          refine aw_istore (loc2 := [(4, aI 0), (0, aR 32), (1, aI i), (2, aI x2q), (3, aI x3q)]) cx dX7_others_72 (by decide) rfl ?_
          refine aw_iload_n cx dX7_others_74 rfl 3 rfl ?_
          refine aw_iload cx dX7_others_75 0 rfl ?_
          refine aw_if_eq (tgt := 91) cx dX7_others_77 (by decide) (fun c77q => ?_) (fun c77q => ?_)
          · refine aw_iconst (n := 0) cx dX7_others_91 (by decide) ?_
            refine aw_ior cx dX7_others_92 (fun z92q hz92q => ?_)
            refine aw_istore_n (loc2 := [(2, aI z92q), (4, aI 0), (0, aR 32), (1, aI i), (3, aI x3q)]) cx dX7_others_93 rfl (by decide) rfl ?_
            refine aw_iinc cx dX7_others_94 4 rfl (by decide) (by omega) (fun z94q hz94q => ?_)
            refine aw_loc (loc2 := [(3, aI z94q), (2, aI z92q), (4, aI 0), (0, aR 32), (1, aI i)]) rfl ?_
            refine aw_goto (tgt := 4) cx dX7_others_97 (by decide) ?_
            refine aw_sub [3, 4, 1, 0] rfl ?_
            refine ih4q _ _  ?i_h0 ?i_h1 ?i_hb ?i_m
            case i_h0 =>
              omega
            case i_h1 =>
              have q2q := bOr_lt (x := x2q) (y := 0) (n := 10) (by omega) (by omega) (by omega); rw [hz92q]; omega
            case i_hb =>
              intro w; rw [hz94q, ex_s h0q.1, ← hb w, hz92q, BT_or (by omega) (by omega)]; exact ⟨fun h => h.elim Or.inl (fun q => absurd q (BT_0 w)), fun h => h.elim Or.inl (fun q => by exfalso; omega)⟩
            case i_m =>
              omega
          · exact absurd c77q (by decide)
        · refine aw_aload_n cx dX7_others_22 rfl 0 rfl ?_
          refine aw_getR (q := 44) cx dX7_others_23 fl_X7_43 (lb_32 tl) rfl rfl ?_
          refine aw_iload_n cx dX7_others_26 rfl 3 rfl ?_
          refine aw_iald cx dX7_others_27 (lb_44 tl) (⟨by omega, by omega⟩) (fun z27q hz27q lo_z27q hi_z27q => ?_)
          refine aw_aload_n cx dX7_others_28 rfl 0 rfl ?_
          refine aw_getR (q := 44) cx dX7_others_29 fl_X7_43 (lb_32 tl) rfl rfl ?_
          refine aw_iload_n cx dX7_others_32 rfl 1 rfl ?_
          refine aw_iald cx dX7_others_33 (lb_44 tl) (⟨by omega, by omega⟩) (fun z33q hz33q lo_z33q hi_z33q => ?_)
          refine aw_icmp_ne (tgt := 71) cx dX7_others_34 (by decide) (fun c34q => ?_) (fun c34q => ?_)
          · refine aw_iconst (n := 0) cx dX7_others_71 (by decide) ?_
            refine aw_istore (loc2 := [(4, aI 0), (0, aR 32), (1, aI i), (2, aI x2q), (3, aI x3q)]) cx dX7_others_72 (by decide) rfl ?_
            refine aw_iload_n cx dX7_others_74 rfl 3 rfl ?_
            refine aw_iload cx dX7_others_75 0 rfl ?_
            refine aw_if_eq (tgt := 91) cx dX7_others_77 (by decide) (fun c77q => ?_) (fun c77q => ?_)
            · refine aw_iconst (n := 0) cx dX7_others_91 (by decide) ?_
              refine aw_ior cx dX7_others_92 (fun z92q hz92q => ?_)
              refine aw_istore_n (loc2 := [(2, aI z92q), (4, aI 0), (0, aR 32), (1, aI i), (3, aI x3q)]) cx dX7_others_93 rfl (by decide) rfl ?_
              refine aw_iinc cx dX7_others_94 4 rfl (by decide) (by omega) (fun z94q hz94q => ?_)
              refine aw_loc (loc2 := [(3, aI z94q), (2, aI z92q), (4, aI 0), (0, aR 32), (1, aI i)]) rfl ?_
              refine aw_goto (tgt := 4) cx dX7_others_97 (by decide) ?_
              refine aw_sub [3, 4, 1, 0] rfl ?_
              refine ih4q _ _  ?i_h0 ?i_h1 ?i_hb ?i_m
              case i_h0 =>
                omega
              case i_h1 =>
                have q2q := bOr_lt (x := x2q) (y := 0) (n := 10) (by omega) (by omega) (by omega); rw [hz92q]; omega
              case i_hb =>
                intro w; rw [hz94q, ex_s h0q.1, ← hb w, hz92q, BT_or (by omega) (by omega)]; exact ⟨fun h => h.elim Or.inl (fun q => absurd q (BT_0 w)), fun h => h.elim Or.inl (fun q => by exfalso; omega)⟩
              case i_m =>
                omega
            · exact absurd c77q (by decide)
          · refine aw_aload_n cx dX7_others_37 rfl 0 rfl ?_
            refine aw_getR (q := 45) cx dX7_others_38 fl_X7_46 (lb_32 tl) rfl rfl ?_
            refine aw_iload_n cx dX7_others_41 rfl 3 rfl ?_
            refine aw_iald cx dX7_others_42 (lb_45 tl) (⟨by omega, by omega⟩) (fun z42q hz42q lo_z42q hi_z42q => ?_)
            refine aw_aload_n cx dX7_others_43 rfl 0 rfl ?_
            refine aw_getR (q := 45) cx dX7_others_44 fl_X7_46 (lb_32 tl) rfl rfl ?_
            refine aw_iload_n cx dX7_others_47 rfl 1 rfl ?_
            refine aw_iald cx dX7_others_48 (lb_45 tl) (⟨by omega, by omega⟩) (fun z48q hz48q lo_z48q hi_z48q => ?_)
            refine aw_icmp_ne (tgt := 71) cx dX7_others_49 (by decide) (fun c49q => ?_) (fun c49q => ?_)
            · refine aw_iconst (n := 0) cx dX7_others_71 (by decide) ?_
              refine aw_istore (loc2 := [(4, aI 0), (0, aR 32), (1, aI i), (2, aI x2q), (3, aI x3q)]) cx dX7_others_72 (by decide) rfl ?_
              refine aw_iload_n cx dX7_others_74 rfl 3 rfl ?_
              refine aw_iload cx dX7_others_75 0 rfl ?_
              refine aw_if_eq (tgt := 91) cx dX7_others_77 (by decide) (fun c77q => ?_) (fun c77q => ?_)
              · refine aw_iconst (n := 0) cx dX7_others_91 (by decide) ?_
                refine aw_ior cx dX7_others_92 (fun z92q hz92q => ?_)
                refine aw_istore_n (loc2 := [(2, aI z92q), (4, aI 0), (0, aR 32), (1, aI i), (3, aI x3q)]) cx dX7_others_93 rfl (by decide) rfl ?_
                refine aw_iinc cx dX7_others_94 4 rfl (by decide) (by omega) (fun z94q hz94q => ?_)
                refine aw_loc (loc2 := [(3, aI z94q), (2, aI z92q), (4, aI 0), (0, aR 32), (1, aI i)]) rfl ?_
                refine aw_goto (tgt := 4) cx dX7_others_97 (by decide) ?_
                refine aw_sub [3, 4, 1, 0] rfl ?_
                refine ih4q _ _  ?i_h0 ?i_h1 ?i_hb ?i_m
                case i_h0 =>
                  omega
                case i_h1 =>
                  have q2q := bOr_lt (x := x2q) (y := 0) (n := 10) (by omega) (by omega) (by omega); rw [hz92q]; omega
                case i_hb =>
                  intro w; rw [hz94q, ex_s h0q.1, ← hb w, hz92q, BT_or (by omega) (by omega)]; exact ⟨fun h => h.elim Or.inl (fun q => absurd q (BT_0 w)), fun h => h.elim Or.inl (fun q => by exfalso; omega)⟩
                case i_m =>
                  omega
              · exact absurd c77q (by decide)
            · refine aw_aload_n cx dX7_others_52 rfl 0 rfl ?_
              refine aw_getR (q := 46) cx dX7_others_53 fl_X7_49 (lb_32 tl) rfl rfl ?_
              refine aw_iload_n cx dX7_others_56 rfl 3 rfl ?_
              refine aw_iald cx dX7_others_57 (lb_46 tl) (⟨by omega, by omega⟩) (fun z57q hz57q lo_z57q hi_z57q => ?_)
              refine aw_aload_n cx dX7_others_58 rfl 0 rfl ?_
              refine aw_getR (q := 46) cx dX7_others_59 fl_X7_49 (lb_32 tl) rfl rfl ?_
              refine aw_iload_n cx dX7_others_62 rfl 1 rfl ?_
              refine aw_iald cx dX7_others_63 (lb_46 tl) (⟨by omega, by omega⟩) (fun z63q hz63q lo_z63q hi_z63q => ?_)
              refine aw_icmp_eq (tgt := 71) cx dX7_others_64 (by decide) (fun c64q => ?_) (fun c64q => ?_)
              · refine aw_iconst (n := 0) cx dX7_others_71 (by decide) ?_
                refine aw_istore (loc2 := [(4, aI 0), (0, aR 32), (1, aI i), (2, aI x2q), (3, aI x3q)]) cx dX7_others_72 (by decide) rfl ?_
                refine aw_iload_n cx dX7_others_74 rfl 3 rfl ?_
                refine aw_iload cx dX7_others_75 0 rfl ?_
                refine aw_if_eq (tgt := 91) cx dX7_others_77 (by decide) (fun c77q => ?_) (fun c77q => ?_)
                · refine aw_iconst (n := 0) cx dX7_others_91 (by decide) ?_
                  refine aw_ior cx dX7_others_92 (fun z92q hz92q => ?_)
                  refine aw_istore_n (loc2 := [(2, aI z92q), (4, aI 0), (0, aR 32), (1, aI i), (3, aI x3q)]) cx dX7_others_93 rfl (by decide) rfl ?_
                  refine aw_iinc cx dX7_others_94 4 rfl (by decide) (by omega) (fun z94q hz94q => ?_)
                  refine aw_loc (loc2 := [(3, aI z94q), (2, aI z92q), (4, aI 0), (0, aR 32), (1, aI i)]) rfl ?_
                  refine aw_goto (tgt := 4) cx dX7_others_97 (by decide) ?_
                  refine aw_sub [3, 4, 1, 0] rfl ?_
                  refine ih4q _ _  ?i_h0 ?i_h1 ?i_hb ?i_m
                  case i_h0 =>
                    omega
                  case i_h1 =>
                    have q2q := bOr_lt (x := x2q) (y := 0) (n := 10) (by omega) (by omega) (by omega); rw [hz92q]; omega
                  case i_hb =>
                    intro w; rw [hz94q, ex_s h0q.1, ← hb w, hz92q, BT_or (by omega) (by omega)]; exact ⟨fun h => h.elim Or.inl (fun q => absurd q (BT_0 w)), fun h => h.elim Or.inl (fun q => by exfalso; omega)⟩
                  case i_m =>
                    omega
                · exact absurd c77q (by decide)
              · refine aw_iconst (n := 1) cx dX7_others_67 (by decide) ?_
                refine aw_goto (tgt := 72) cx dX7_others_68 (by decide) ?_
                refine aw_istore (loc2 := [(4, aI 1), (0, aR 32), (1, aI i), (2, aI x2q), (3, aI x3q)]) cx dX7_others_72 (by decide) rfl ?_
                refine aw_iload_n cx dX7_others_74 rfl 3 rfl ?_
                refine aw_iload cx dX7_others_75 0 rfl ?_
                refine aw_if_eq (tgt := 91) cx dX7_others_77 (by decide) (fun c77q => ?_) (fun c77q => ?_)
                · exact absurd c77q (by decide)
                · refine aw_iconst (n := 1) cx dX7_others_80 (by decide) ?_
                  refine aw_aload_n cx dX7_others_81 rfl 1 rfl ?_
                  refine aw_getR (q := 46) cx dX7_others_82 fl_X7_49 (lb_32 tl) rfl rfl ?_
                  refine aw_iload_n cx dX7_others_85 rfl 4 rfl ?_
                  refine aw_iald cx dX7_others_86 (lb_46 tl) (⟨by omega, by omega⟩) (fun z86q hz86q lo_z86q hi_z86q => ?_)
                  refine aw_ishl cx dX7_others_87 (fun z87q hz87q => ?_)
                  refine aw_goto (tgt := 92) cx dX7_others_88 (by decide) ?_
                  refine aw_ior cx dX7_others_92 (fun z92q hz92q => ?_)
                  refine aw_istore_n (loc2 := [(2, aI z92q), (4, aI 1), (0, aR 32), (1, aI i), (3, aI x3q)]) cx dX7_others_93 rfl (by decide) rfl ?_
                  refine aw_iinc cx dX7_others_94 4 rfl (by decide) (by omega) (fun z94q hz94q => ?_)
                  refine aw_loc (loc2 := [(3, aI z94q), (2, aI z92q), (4, aI 1), (0, aR 32), (1, aI i)]) rfl ?_
                  refine aw_goto (tgt := 4) cx dX7_others_97 (by decide) ?_
                  refine aw_sub [3, 4, 1, 0] rfl ?_
                  refine ih4q _ _  ?i_h0 ?i_h1 ?i_hb ?i_m
                  case i_h0 =>
                    omega
                  case i_h1 =>
                    have q1q := bShl_lt (k := z86q) (n := 10) (by omega) (by omega); have q2q := bOr_lt (x := x2q) (y := bShl 1 z86q) (n := 10) (by omega) (by omega) (by omega); rw [hz92q, hz87q]; omega
                  case i_hb =>
                    intro w; have q1q := bShl_lt (k := z86q) (n := 10) (by omega) (by omega); rw [hz94q, ex_s h0q.1, ← hb w, hz92q, hz87q, BT_or (by omega) (by omega), BT_shl (by omega)]; exact ⟨fun h => h.elim Or.inl (fun q => Or.inr (by omega)), fun h => h.elim Or.inl (fun q => Or.inr (by omega))⟩
                  case i_m =>
                    omega
  refine aw_sub [2, 3, 1, 0] rfl ?_
  refine lp4q _ _ _  ?i_h0 ?i_h1 ?i_hb (Nat.lt_succ_self _)
  case i_h0 =>
    omega
  case i_h1 =>
    omega
  case i_hb =>
    intro w; exact ⟨fun h => absurd h (BT_0 w), fun ⟨j, hj, _⟩ => absurd hj (Nat.not_lt_zero _)⟩
