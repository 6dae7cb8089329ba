set_option maxHeartbeats 1000000 in
set_option maxRecDepth 100000 in
theorem ct_X7_weighsAll (tl : List CD) (M : Mem)  : Ct 2 mX7_weighsAll (LB ++ tl) [aR 32] M (fun r M1 => r = none ∧ FR [49] M M1 ∧ ∀ i, i < (M 32 15).toNat → M1 49 i = WGT (M 32 20) (M 32 15).toNat (M 48) (M 44) (M 45) (M 46) (M 47) i) := by
  refine Ct.of (own := RX7) rfl (by decide +kernel) (Nat.le_of_ble_eq_true rfl) (fun X cx rt => ?_)
  refine aw_eq (loc2 := [(0, aR 32)]) ?_ rfl rfl rfl rfl
  refine aw_ok (fun om => ?_)
  have htn : 0 ≤ M 32 15 ∧ M 32 15 ≤ 12 := okF om (lb_32 tl) (j := 15) rfl (show (0 : Nat) ≠ 1 by decide)
  refine aw_iconst (n := 0) cx dX7_weighsAll_0 (by decide) ?_
  refine aw_istore_n (loc2 := [(1, aI 0), (0, aR 32)]) cx dX7_weighsAll_1 rfl (by decide) rfl ?_
  have lp2q : ∀ (fu : Nat) (x1q : Int) (N2q : Mem), (0 ≤ x1q ∧ x1q ≤ M 32 15) → (FR [49] M N2q) → (∀ k, k < x1q.toNat → N2q 49 k = WGT (M 32 20) (M 32 15).toNat (M 48) (M 44) (M 45) (M 46) (M 47) k) → ((M 32 15 - x1q).toNat) < fu → AW X (LB ++ tl) 4 2 [(0, aR 32), (1, aI x1q)] [] N2q := by
    intro fu
    induction fu with
    | zero =>
      intro x1q N2q h0q hf hw hm
      exact absurd hm (Nat.not_lt_zero _)
    | succ fu ih2q =>
      intro x1q N2q h0q hf hw hm
      have e15q := congrFun (hf 32 (by decide)) 15
      refine aw_iload_n cx dX7_weighsAll_2 rfl 1 rfl ?_
      refine aw_aload_n cx dX7_weighsAll_3 rfl 0 rfl ?_
      refine aw_getI cx dX7_weighsAll_4 fl_X7_184 (lb_32 tl) rfl (fun z4q hz4q lo_z4q hi_z4q => ?_)
      refine aw_icmp_ge (tgt := 100) cx dX7_weighsAll_7 (by decide) (fun c7q => ?_) (fun c7q => ?_)
      · refine aw_vret cx rt dX7_weighsAll_100 ?_
        exact ⟨rfl, hf, by rw [show (M 32 15).toNat = x1q.toNat by omega] at hw ⊢; exact hw⟩
      · refine aw_iconst (n := 1) cx dX7_weighsAll_10 (by decide) ?_
        refine aw_aload_n cx dX7_weighsAll_11 rfl 0 rfl ?_
        refine aw_iload_n cx dX7_weighsAll_12 rfl 1 rfl ?_
        refine aw_callV (as := [aI x1q]) (k := 32) (stk := [aI 1]) cx dX7_weighsAll_13 ml_X7_206 mv_X7_others rfl (lb_32 tl) (by decide) rfl rfl (Nat.le_of_ble_eq_true rfl) (ct_X7_others tl N2q _ (by omega)) (fun rr13q M_13q hp13q => ?_)
        obtain ⟨rfl, rfl⟩ := hp13q
        refine aw_top (stk := [aI 1]) (fun z13q hz13q => ?_)
        have hrz13q : 0 ≤ z13q ∧ z13q ≤ 10 := by rw [hz13q]; exact OTH_in _ _ _ _ _ _
        have hO : z13q = OTH (M 32 15).toNat (M 48) (M 44) (M 45) (M 46) x1q.toNat := by
          rw [hz13q, hf 32 (by decide), hf 44 (by decide), hf 45 (by decide), hf 46 (by decide), hf 48 (by decide)]
        refine aw_iadd cx dX7_weighsAll_16 (by omega) (fun z16q hz16q => ?_)
        refine aw_istore_n (loc2 := [(2, aI z16q), (0, aR 32), (1, aI x1q)]) cx dX7_weighsAll_17 rfl (by decide) rfl ?_
        refine aw_aload_n cx dX7_weighsAll_18 rfl 1 rfl ?_
        refine aw_getR (q := 47) cx dX7_weighsAll_19 fl_X7_52 (lb_32 tl) rfl rfl ?_
        refine aw_iload_n cx dX7_weighsAll_22 rfl 2 rfl ?_
        refine aw_iald cx dX7_weighsAll_23 (lb_47 tl) (⟨by omega, by omega⟩) (fun z23q hz23q lo_z23q hi_z23q => ?_)
        refine aw_if_ne (tgt := 31) cx dX7_weighsAll_24 (by decide) (fun c24q => ?_) (fun c24q => ?_)
        · refine aw_aload_n cx dX7_weighsAll_31 rfl 1 rfl ?_
          refine aw_getR (q := 47) cx dX7_weighsAll_32 fl_X7_52 (lb_32 tl) rfl rfl ?_
          refine aw_iload_n cx dX7_weighsAll_35 rfl 2 rfl ?_
          refine aw_iald cx dX7_weighsAll_36 (lb_47 tl) (⟨by omega, by omega⟩) (fun z36q hz36q lo_z36q hi_z36q => ?_)
          refine aw_iconst (n := 1) cx dX7_weighsAll_37 (by decide) ?_
          refine aw_icmp_ne (tgt := 54) cx dX7_weighsAll_38 (by decide) (fun c38q => ?_) (fun c38q => ?_)
          · refine aw_aload_n cx dX7_weighsAll_54 rfl 1 rfl ?_
            refine aw_aload_n cx dX7_weighsAll_55 rfl 1 rfl ?_
            refine aw_getR (q := 46) cx dX7_weighsAll_56 fl_X7_49 (lb_32 tl) rfl rfl ?_
            refine aw_iload_n cx dX7_weighsAll_59 rfl 2 rfl ?_
            refine aw_iald cx dX7_weighsAll_60 (lb_46 tl) (⟨by omega, by omega⟩) (fun z60q hz60q lo_z60q hi_z60q => ?_)
            refine aw_callV (as := [aI z60q]) (k := 32) (stk := []) cx dX7_weighsAll_61 ml_X7_209 mv_X7_isLiar rfl (lb_32 tl) (by decide) rfl rfl (Nat.le_of_ble_eq_true rfl) (ct_X7_isLiar tl N2q _ ) (fun rr61q M_61q hp61q => ?_)
            obtain ⟨rfl, z61q, rfl, h01z61q, hliz61⟩ := hp61q
            refine aw_eq (stk2 := [aI z61q]) ?_ rfl rfl rfl rfl
            have hL : z61q = 1 ↔ 0 < FAL (M 32 20) (M 32 15).toNat (M 48) (M 46) (M 46 x1q.toNat) := by
              have q := hliz61
              rw [hz60q, hf 32 (by decide), hf 46 (by decide), hf 48 (by decide)] at q
              exact q
            refine aw_if_eq (tgt := 71) cx dX7_weighsAll_64 (by decide) (fun c64q => ?_) (fun c64q => ?_)
            · refine aw_iconst (n := 2) cx dX7_weighsAll_71 (by decide) ?_
              refine aw_istore_n (loc2 := [(3, aI 2), (2, aI z16q), (0, aR 32), (1, aI x1q)]) cx dX7_weighsAll_72 rfl (by decide) rfl ?_
              refine aw_aload_n cx dX7_weighsAll_73 rfl 2 rfl ?_
              refine aw_getR (q := 49) cx dX7_weighsAll_74 fl_X7_58 (lb_32 tl) rfl rfl ?_
              refine aw_iload_n cx dX7_weighsAll_77 rfl 3 rfl ?_
              refine aw_aload_n cx dX7_weighsAll_78 rfl 2 rfl ?_
              refine aw_getR (q := 48) cx dX7_weighsAll_79 fl_X7_55 (lb_32 tl) rfl rfl ?_
              refine aw_iload_n cx dX7_weighsAll_82 rfl 3 rfl ?_
              refine aw_iald cx dX7_weighsAll_83 (lb_48 tl) (⟨by omega, by omega⟩) (fun z83q hz83q lo_z83q hi_z83q => ?_)
              refine aw_iconst (n := 1) cx dX7_weighsAll_84 (by decide) ?_
              refine aw_icmp_ne (tgt := 92) cx dX7_weighsAll_85 (by decide) (fun c85q => ?_) (fun c85q => ?_)
              · refine aw_iconst (n := 0) cx dX7_weighsAll_92 (by decide) ?_
                refine aw_iast cx dX7_weighsAll_93 (lb_49 tl) (⟨by omega, by omega⟩) (⟨by omega, by omega⟩) ?_
                obtain ⟨M_93q, hM_93q⟩ : ∃ qm, qm = up N2q (49) (Int.toNat (x1q)) (0) := ⟨_, rfl⟩
                rw [← hM_93q]
                refine aw_iinc cx dX7_weighsAll_94 3 rfl (by decide) (by omega) (fun z94q hz94q => ?_)
                refine aw_loc (loc2 := [(1, aI z94q), (3, aI 2), (2, aI z16q), (0, aR 32)]) rfl ?_
                refine aw_goto (tgt := 2) cx dX7_weighsAll_97 (by decide) ?_
                refine aw_sub [3, 0] rfl ?_
                refine ih2q _ _  ?i_h0 ?i_hf ?i_hw ?i_m
                case i_h0 =>
                  omega
                case i_hf =>
                  exact hf.put hM_93q (by decide)
                case i_hw =>
                  intro k hk
                  rw [hM_93q]
                  by_cases hq : k = x1q.toNat
                  · rw [hq, up_at]
                    have e47q := congrFun (hf 47 (by decide)) x1q.toNat
                    have e48q := congrFun (hf 48 (by decide)) x1q.toNat
                    unfold WGT
                    first
                    | (rw [if_neg (by omega)])
                    | (rw [if_pos (by omega)]; unfold WG; first
                       | (rw [if_pos (by omega)])
                       | (rw [if_neg (by omega), if_pos (by omega)]; omega)
                       | (rw [if_neg (by omega), if_neg (by omega), if_pos (by omega)])
                       | (rw [if_neg (by omega), if_neg (by omega), if_neg (by omega)]))
                  · rw [up_nj hq]
                    exact hw k (by omega)
                case i_m =>
                  omega
              · refine aw_iload_n cx dX7_weighsAll_88 rfl 0 rfl ?_
                refine aw_goto (tgt := 93) cx dX7_weighsAll_89 (by decide) ?_
                refine aw_iast cx dX7_weighsAll_93 (lb_49 tl) (⟨by omega, by omega⟩) (⟨by omega, by omega⟩) ?_
                obtain ⟨M_93q, hM_93q⟩ : ∃ qm, qm = up N2q (49) (Int.toNat (x1q)) (2) := ⟨_, rfl⟩
                rw [← hM_93q]
                refine aw_iinc cx dX7_weighsAll_94 3 rfl (by decide) (by omega) (fun z94q hz94q => ?_)
                refine aw_loc (loc2 := [(1, aI z94q), (3, aI 2), (2, aI z16q), (0, aR 32)]) rfl ?_
                refine aw_goto (tgt := 2) cx dX7_weighsAll_97 (by decide) ?_
                refine aw_sub [3, 0] rfl ?_
                refine ih2q _ _  ?i_h0 ?i_hf ?i_hw ?i_m
                case i_h0 =>
                  omega
                case i_hf =>
                  exact hf.put hM_93q (by decide)
                case i_hw =>
                  intro k hk
                  rw [hM_93q]
                  by_cases hq : k = x1q.toNat
                  · rw [hq, up_at]
                    have e47q := congrFun (hf 47 (by decide)) x1q.toNat
                    have e48q := congrFun (hf 48 (by decide)) x1q.toNat
                    unfold WGT
                    first
                    | (rw [if_neg (by omega)])
                    | (rw [if_pos (by omega)]; unfold WG; first
                       | (rw [if_pos (by omega)])
                       | (rw [if_neg (by omega), if_pos (by omega)]; omega)
                       | (rw [if_neg (by omega), if_neg (by omega), if_pos (by omega)])
                       | (rw [if_neg (by omega), if_neg (by omega), if_neg (by omega)]))
                  · rw [up_nj hq]
                    exact hw k (by omega)
                case i_m =>
                  omega
            · refine aw_iconst (n := 0) cx dX7_weighsAll_67 (by decide) ?_
              refine aw_goto (tgt := 72) cx dX7_weighsAll_68 (by decide) ?_
              refine aw_istore_n (loc2 := [(3, aI 0), (2, aI z16q), (0, aR 32), (1, aI x1q)]) cx dX7_weighsAll_72 rfl (by decide) rfl ?_
              refine aw_aload_n cx dX7_weighsAll_73 rfl 2 rfl ?_
              refine aw_getR (q := 49) cx dX7_weighsAll_74 fl_X7_58 (lb_32 tl) rfl rfl ?_
              refine aw_iload_n cx dX7_weighsAll_77 rfl 3 rfl ?_
              refine aw_aload_n cx dX7_weighsAll_78 rfl 2 rfl ?_
              refine aw_getR (q := 48) cx dX7_weighsAll_79 fl_X7_55 (lb_32 tl) rfl rfl ?_
              refine aw_iload_n cx dX7_weighsAll_82 rfl 3 rfl ?_
              refine aw_iald cx dX7_weighsAll_83 (lb_48 tl) (⟨by omega, by omega⟩) (fun z83q hz83q lo_z83q hi_z83q => ?_)
              refine aw_iconst (n := 1) cx dX7_weighsAll_84 (by decide) ?_
              refine aw_icmp_ne (tgt := 92) cx dX7_weighsAll_85 (by decide) (fun c85q => ?_) (fun c85q => ?_)
              · refine aw_iconst (n := 0) cx dX7_weighsAll_92 (by decide) ?_
                refine aw_iast cx dX7_weighsAll_93 (lb_49 tl) (⟨by omega, by omega⟩) (⟨by omega, by omega⟩) ?_
                obtain ⟨M_93q, hM_93q⟩ : ∃ qm, qm = up N2q (49) (Int.toNat (x1q)) (0) := ⟨_, rfl⟩
                rw [← hM_93q]
                refine aw_iinc cx dX7_weighsAll_94 3 rfl (by decide) (by omega) (fun z94q hz94q => ?_)
                refine aw_loc (loc2 := [(1, aI z94q), (3, aI 0), (2, aI z16q), (0, aR 32)]) rfl ?_
                refine aw_goto (tgt := 2) cx dX7_weighsAll_97 (by decide) ?_
                refine aw_sub [3, 0] rfl ?_
                refine ih2q _ _  ?i_h0 ?i_hf ?i_hw ?i_m
                case i_h0 =>
                  omega
                case i_hf =>
                  exact hf.put hM_93q (by decide)
                case i_hw =>
                  intro k hk
                  rw [hM_93q]
                  by_cases hq : k = x1q.toNat
                  · rw [hq, up_at]
                    have e47q := congrFun (hf 47 (by decide)) x1q.toNat
                    have e48q := congrFun (hf 48 (by decide)) x1q.toNat
                    unfold WGT
                    first
                    | (rw [if_neg (by omega)])
                    | (rw [if_pos (by omega)]; unfold WG; first
                       | (rw [if_pos (by omega)])
                       | (rw [if_neg (by omega), if_pos (by omega)]; omega)
                       | (rw [if_neg (by omega), if_neg (by omega), if_pos (by omega)])
                       | (rw [if_neg (by omega), if_neg (by omega), if_neg (by omega)]))
                  · rw [up_nj hq]
                    exact hw k (by omega)
                case i_m =>
                  omega
              · refine aw_iload_n cx dX7_weighsAll_88 rfl 0 rfl ?_
                refine aw_goto (tgt := 93) cx dX7_weighsAll_89 (by decide) ?_
                refine aw_iast cx dX7_weighsAll_93 (lb_49 tl) (⟨by omega, by omega⟩) (⟨by omega, by omega⟩) ?_
                obtain ⟨M_93q, hM_93q⟩ : ∃ qm, qm = up N2q (49) (Int.toNat (x1q)) (0) := ⟨_, rfl⟩
                rw [← hM_93q]
                refine aw_iinc cx dX7_weighsAll_94 3 rfl (by decide) (by omega) (fun z94q hz94q => ?_)
                refine aw_loc (loc2 := [(1, aI z94q), (3, aI 0), (2, aI z16q), (0, aR 32)]) rfl ?_
                refine aw_goto (tgt := 2) cx dX7_weighsAll_97 (by decide) ?_
                refine aw_sub [3, 0] rfl ?_
                refine ih2q _ _  ?i_h0 ?i_hf ?i_hw ?i_m
                case i_h0 =>
                  omega
                case i_hf =>
                  exact hf.put hM_93q (by decide)
                case i_hw =>
                  intro k hk
                  rw [hM_93q]
                  by_cases hq : k = x1q.toNat
                  · rw [hq, up_at]
                    have e47q := congrFun (hf 47 (by decide)) x1q.toNat
                    have e48q := congrFun (hf 48 (by decide)) x1q.toNat
                    unfold WGT
                    first
                    | (rw [if_neg (by omega)])
                    | (rw [if_pos (by omega)]; unfold WG; first
                       | (rw [if_pos (by omega)])
                       | (rw [if_neg (by omega), if_pos (by omega)]; omega)
                       | (rw [if_neg (by omega), if_neg (by omega), if_pos (by omega)])
                       | (rw [if_neg (by omega), if_neg (by omega), if_neg (by omega)]))
                  · rw [up_nj hq]
                    exact hw k (by omega)
                case i_m =>
                  omega
          · refine aw_iload_n cx dX7_weighsAll_41 rfl 0 rfl ?_
            refine aw_iconst (n := 3) cx dX7_weighsAll_42 (by decide) ?_
            refine aw_icmp_ge (tgt := 50) cx dX7_weighsAll_43 (by decide) (fun c43q => ?_) (fun c43q => ?_)
            · refine aw_iconst (n := 3) cx dX7_weighsAll_50 (by decide) ?_
              refine aw_goto (tgt := 72) cx dX7_weighsAll_51 (by decide) ?_
              refine aw_istore_n (loc2 := [(3, aI 3), (2, aI z16q), (0, aR 32), (1, aI x1q)]) cx dX7_weighsAll_72 rfl (by decide) rfl ?_
              refine aw_aload_n cx dX7_weighsAll_73 rfl 2 rfl ?_
              refine aw_getR (q := 49) cx dX7_weighsAll_74 fl_X7_58 (lb_32 tl) rfl rfl ?_
              refine aw_iload_n cx dX7_weighsAll_77 rfl 3 rfl ?_
              refine aw_aload_n cx dX7_weighsAll_78 rfl 2 rfl ?_
              refine aw_getR (q := 48) cx dX7_weighsAll_79 fl_X7_55 (lb_32 tl) rfl rfl ?_
              refine aw_iload_n cx dX7_weighsAll_82 rfl 3 rfl ?_
              refine aw_iald cx dX7_weighsAll_83 (lb_48 tl) (⟨by omega, by omega⟩) (fun z83q hz83q lo_z83q hi_z83q => ?_)
              refine aw_iconst (n := 1) cx dX7_weighsAll_84 (by decide) ?_
              refine aw_icmp_ne (tgt := 92) cx dX7_weighsAll_85 (by decide) (fun c85q => ?_) (fun c85q => ?_)
              · refine aw_iconst (n := 0) cx dX7_weighsAll_92 (by decide) ?_
                refine aw_iast cx dX7_weighsAll_93 (lb_49 tl) (⟨by omega, by omega⟩) (⟨by omega, by omega⟩) ?_
                obtain ⟨M_93q, hM_93q⟩ : ∃ qm, qm = up N2q (49) (Int.toNat (x1q)) (0) := ⟨_, rfl⟩
                rw [← hM_93q]
                refine aw_iinc cx dX7_weighsAll_94 3 rfl (by decide) (by omega) (fun z94q hz94q => ?_)
                refine aw_loc (loc2 := [(1, aI z94q), (3, aI 3), (2, aI z16q), (0, aR 32)]) rfl ?_
                refine aw_goto (tgt := 2) cx dX7_weighsAll_97 (by decide) ?_
                refine aw_sub [3, 0] rfl ?_
                refine ih2q _ _  ?i_h0 ?i_hf ?i_hw ?i_m
                case i_h0 =>
                  omega
                case i_hf =>
                  exact hf.put hM_93q (by decide)
                case i_hw =>
                  intro k hk
                  rw [hM_93q]
                  by_cases hq : k = x1q.toNat
                  · rw [hq, up_at]
                    have e47q := congrFun (hf 47 (by decide)) x1q.toNat
                    have e48q := congrFun (hf 48 (by decide)) x1q.toNat
                    unfold WGT
                    first
                    | (rw [if_neg (by omega)])
                    | (rw [if_pos (by omega)]; unfold WG; first
                       | (rw [if_pos (by omega)])
                       | (rw [if_neg (by omega), if_pos (by omega)]; omega)
                       | (rw [if_neg (by omega), if_neg (by omega), if_pos (by omega)])
                       | (rw [if_neg (by omega), if_neg (by omega), if_neg (by omega)]))
                  · rw [up_nj hq]
                    exact hw k (by omega)
                case i_m =>
                  omega
              · refine aw_iload_n cx dX7_weighsAll_88 rfl 0 rfl ?_
                refine aw_goto (tgt := 93) cx dX7_weighsAll_89 (by decide) ?_
                refine aw_iast cx dX7_weighsAll_93 (lb_49 tl) (⟨by omega, by omega⟩) (⟨by omega, by omega⟩) ?_
                obtain ⟨M_93q, hM_93q⟩ : ∃ qm, qm = up N2q (49) (Int.toNat (x1q)) (3) := ⟨_, rfl⟩
                rw [← hM_93q]
                refine aw_iinc cx dX7_weighsAll_94 3 rfl (by decide) (by omega) (fun z94q hz94q => ?_)
                refine aw_loc (loc2 := [(1, aI z94q), (3, aI 3), (2, aI z16q), (0, aR 32)]) rfl ?_
                refine aw_goto (tgt := 2) cx dX7_weighsAll_97 (by decide) ?_
                refine aw_sub [3, 0] rfl ?_
                refine ih2q _ _  ?i_h0 ?i_hf ?i_hw ?i_m
                case i_h0 =>
                  omega
                case i_hf =>
                  exact hf.put hM_93q (by decide)
                case i_hw =>
                  intro k hk
                  rw [hM_93q]
                  by_cases hq : k = x1q.toNat
                  · rw [hq, up_at]
                    have e47q := congrFun (hf 47 (by decide)) x1q.toNat
                    have e48q := congrFun (hf 48 (by decide)) x1q.toNat
                    unfold WGT
                    first
                    | (rw [if_neg (by omega)])
                    | (rw [if_pos (by omega)]; unfold WG; first
                       | (rw [if_pos (by omega)])
                       | (rw [if_neg (by omega), if_pos (by omega)]; omega)
                       | (rw [if_neg (by omega), if_neg (by omega), if_pos (by omega)])
                       | (rw [if_neg (by omega), if_neg (by omega), if_neg (by omega)]))
                  · rw [up_nj hq]
                    exact hw k (by omega)
                case i_m =>
                  omega
            · refine aw_iload_n cx dX7_weighsAll_46 rfl 0 rfl ?_
              refine aw_goto (tgt := 72) cx dX7_weighsAll_47 (by decide) ?_
              refine aw_istore_n (loc2 := [(3, aI z16q), (2, aI z16q), (0, aR 32), (1, aI x1q)]) cx dX7_weighsAll_72 rfl (by decide) rfl ?_
              refine aw_aload_n cx dX7_weighsAll_73 rfl 2 rfl ?_
              refine aw_getR (q := 49) cx dX7_weighsAll_74 fl_X7_58 (lb_32 tl) rfl rfl ?_
              refine aw_iload_n cx dX7_weighsAll_77 rfl 3 rfl ?_
              refine aw_aload_n cx dX7_weighsAll_78 rfl 2 rfl ?_
              refine aw_getR (q := 48) cx dX7_weighsAll_79 fl_X7_55 (lb_32 tl) rfl rfl ?_
              refine aw_iload_n cx dX7_weighsAll_82 rfl 3 rfl ?_
              refine aw_iald cx dX7_weighsAll_83 (lb_48 tl) (⟨by omega, by omega⟩) (fun z83q hz83q lo_z83q hi_z83q => ?_)
              refine aw_iconst (n := 1) cx dX7_weighsAll_84 (by decide) ?_
              refine aw_icmp_ne (tgt := 92) cx dX7_weighsAll_85 (by decide) (fun c85q => ?_) (fun c85q => ?_)
              · refine aw_iconst (n := 0) cx dX7_weighsAll_92 (by decide) ?_
                refine aw_iast cx dX7_weighsAll_93 (lb_49 tl) (⟨by omega, by omega⟩) (⟨by omega, by omega⟩) ?_
                obtain ⟨M_93q, hM_93q⟩ : ∃ qm, qm = up N2q (49) (Int.toNat (x1q)) (0) := ⟨_, rfl⟩
                rw [← hM_93q]
                refine aw_iinc cx dX7_weighsAll_94 3 rfl (by decide) (by omega) (fun z94q hz94q => ?_)
                refine aw_loc (loc2 := [(1, aI z94q), (3, aI z16q), (2, aI z16q), (0, aR 32)]) rfl ?_
                refine aw_goto (tgt := 2) cx dX7_weighsAll_97 (by decide) ?_
                refine aw_sub [3, 0] rfl ?_
                refine ih2q _ _  ?i_h0 ?i_hf ?i_hw ?i_m
                case i_h0 =>
                  omega
                case i_hf =>
                  exact hf.put hM_93q (by decide)
                case i_hw =>
                  intro k hk
                  rw [hM_93q]
                  by_cases hq : k = x1q.toNat
                  · rw [hq, up_at]
                    have e47q := congrFun (hf 47 (by decide)) x1q.toNat
                    have e48q := congrFun (hf 48 (by decide)) x1q.toNat
                    unfold WGT
                    first
                    | (rw [if_neg (by omega)])
                    | (rw [if_pos (by omega)]; unfold WG; first
                       | (rw [if_pos (by omega)])
                       | (rw [if_neg (by omega), if_pos (by omega)]; omega)
                       | (rw [if_neg (by omega), if_neg (by omega), if_pos (by omega)])
                       | (rw [if_neg (by omega), if_neg (by omega), if_neg (by omega)]))
                  · rw [up_nj hq]
                    exact hw k (by omega)
                case i_m =>
                  omega
              · refine aw_iload_n cx dX7_weighsAll_88 rfl 0 rfl ?_
                refine aw_goto (tgt := 93) cx dX7_weighsAll_89 (by decide) ?_
                refine aw_iast cx dX7_weighsAll_93 (lb_49 tl) (⟨by omega, by omega⟩) (⟨by omega, by omega⟩) ?_
                obtain ⟨M_93q, hM_93q⟩ : ∃ qm, qm = up N2q (49) (Int.toNat (x1q)) (z16q) := ⟨_, rfl⟩
                rw [← hM_93q]
                refine aw_iinc cx dX7_weighsAll_94 3 rfl (by decide) (by omega) (fun z94q hz94q => ?_)
                refine aw_loc (loc2 := [(1, aI z94q), (3, aI z16q), (2, aI z16q), (0, aR 32)]) rfl ?_
                refine aw_goto (tgt := 2) cx dX7_weighsAll_97 (by decide) ?_
                refine aw_sub [3, 0] rfl ?_
                refine ih2q _ _  ?i_h0 ?i_hf ?i_hw ?i_m
                case i_h0 =>
                  omega
                case i_hf =>
                  exact hf.put hM_93q (by decide)
                case i_hw =>
                  intro k hk
                  rw [hM_93q]
                  by_cases hq : k = x1q.toNat
                  · rw [hq, up_at]
                    have e47q := congrFun (hf 47 (by decide)) x1q.toNat
                    have e48q := congrFun (hf 48 (by decide)) x1q.toNat
                    unfold WGT
                    first
                    | (rw [if_neg (by omega)])
                    | (rw [if_pos (by omega)]; unfold WG; first
                       | (rw [if_pos (by omega)])
                       | (rw [if_neg (by omega), if_pos (by omega)]; omega)
                       | (rw [if_neg (by omega), if_neg (by omega), if_pos (by omega)])
                       | (rw [if_neg (by omega), if_neg (by omega), if_neg (by omega)]))
                  · rw [up_nj hq]
                    exact hw k (by omega)
                case i_m =>
                  omega
        · refine aw_iconst (n := 3) cx dX7_weighsAll_27 (by decide) ?_
          refine aw_goto (tgt := 72) cx dX7_weighsAll_28 (by decide) ?_
          refine aw_istore_n (loc2 := [(3, aI 3), (2, aI z16q), (0, aR 32), (1, aI x1q)]) cx dX7_weighsAll_72 rfl (by decide) rfl ?_
          refine aw_aload_n cx dX7_weighsAll_73 rfl 2 rfl ?_
          refine aw_getR (q := 49) cx dX7_weighsAll_74 fl_X7_58 (lb_32 tl) rfl rfl ?_
          refine aw_iload_n cx dX7_weighsAll_77 rfl 3 rfl ?_
          refine aw_aload_n cx dX7_weighsAll_78 rfl 2 rfl ?_
          refine aw_getR (q := 48) cx dX7_weighsAll_79 fl_X7_55 (lb_32 tl) rfl rfl ?_
          refine aw_iload_n cx dX7_weighsAll_82 rfl 3 rfl ?_
          refine aw_iald cx dX7_weighsAll_83 (lb_48 tl) (⟨by omega, by omega⟩) (fun z83q hz83q lo_z83q hi_z83q => ?_)
          refine aw_iconst (n := 1) cx dX7_weighsAll_84 (by decide) ?_
          refine aw_icmp_ne (tgt := 92) cx dX7_weighsAll_85 (by decide) (fun c85q => ?_) (fun c85q => ?_)
          · refine aw_iconst (n := 0) cx dX7_weighsAll_92 (by decide) ?_
            refine aw_iast cx dX7_weighsAll_93 (lb_49 tl) (⟨by omega, by omega⟩) (⟨by omega, by omega⟩) ?_
            obtain ⟨M_93q, hM_93q⟩ : ∃ qm, qm = up N2q (49) (Int.toNat (x1q)) (0) := ⟨_, rfl⟩
            rw [← hM_93q]
            refine aw_iinc cx dX7_weighsAll_94 3 rfl (by decide) (by omega) (fun z94q hz94q => ?_)
            refine aw_loc (loc2 := [(1, aI z94q), (3, aI 3), (2, aI z16q), (0, aR 32)]) rfl ?_
            refine aw_goto (tgt := 2) cx dX7_weighsAll_97 (by decide) ?_
            refine aw_sub [3, 0] rfl ?_
            refine ih2q _ _  ?i_h0 ?i_hf ?i_hw ?i_m
            case i_h0 =>
              omega
            case i_hf =>
              exact hf.put hM_93q (by decide)
            case i_hw =>
              intro k hk
              rw [hM_93q]
              by_cases hq : k = x1q.toNat
              · rw [hq, up_at]
                have e47q := congrFun (hf 47 (by decide)) x1q.toNat
                have e48q := congrFun (hf 48 (by decide)) x1q.toNat
                unfold WGT
                first
                | (rw [if_neg (by omega)])
                | (rw [if_pos (by omega)]; unfold WG; first
                   | (rw [if_pos (by omega)])
                   | (rw [if_neg (by omega), if_pos (by omega)]; omega)
                   | (rw [if_neg (by omega), if_neg (by omega), if_pos (by omega)])
                   | (rw [if_neg (by omega), if_neg (by omega), if_neg (by omega)]))
              · rw [up_nj hq]
                exact hw k (by omega)
            case i_m =>
              omega
          · refine aw_iload_n cx dX7_weighsAll_88 rfl 0 rfl ?_
            refine aw_goto (tgt := 93) cx dX7_weighsAll_89 (by decide) ?_
            refine aw_iast cx dX7_weighsAll_93 (lb_49 tl) (⟨by omega, by omega⟩) (⟨by omega, by omega⟩) ?_
            obtain ⟨M_93q, hM_93q⟩ : ∃ qm, qm = up N2q (49) (Int.toNat (x1q)) (3) := ⟨_, rfl⟩
            rw [← hM_93q]
            refine aw_iinc cx dX7_weighsAll_94 3 rfl (by decide) (by omega) (fun z94q hz94q => ?_)
            refine aw_loc (loc2 := [(1, aI z94q), (3, aI 3), (2, aI z16q), (0, aR 32)]) rfl ?_
            refine aw_goto (tgt := 2) cx dX7_weighsAll_97 (by decide) ?_
            refine aw_sub [3, 0] rfl ?_
            refine ih2q _ _  ?i_h0 ?i_hf ?i_hw ?i_m
            case i_h0 =>
              omega
            case i_hf =>
              exact hf.put hM_93q (by decide)
            case i_hw =>
              intro k hk
              rw [hM_93q]
              by_cases hq : k = x1q.toNat
              · rw [hq, up_at]
                have e47q := congrFun (hf 47 (by decide)) x1q.toNat
                have e48q := congrFun (hf 48 (by decide)) x1q.toNat
                unfold WGT
                first
                | (rw [if_neg (by omega)])
                | (rw [if_pos (by omega)]; unfold WG; first
                   | (rw [if_pos (by omega)])
                   | (rw [if_neg (by omega), if_pos (by omega)]; omega)
                   | (rw [if_neg (by omega), if_neg (by omega), if_pos (by omega)])
                   | (rw [if_neg (by omega), if_neg (by omega), if_neg (by omega)]))
              · rw [up_nj hq]
                exact hw k (by omega)
            case i_m =>
              omega
  refine aw_sub [1, 0] rfl ?_
  refine lp2q _ _ _  ?i_h0 ?i_hf ?i_hw (Nat.lt_succ_self _)
  case i_h0 =>
    omega
  case i_hf =>
    exact FR.rf
  case i_hw =>
    exact all_0
