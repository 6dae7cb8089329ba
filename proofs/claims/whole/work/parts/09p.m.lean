set_option maxHeartbeats 1000000 in
set_option maxRecDepth 100000 in
theorem ct_X7_readsText_0 (tl : List CD) (M : Mem)  : Ct 3 mX7_readsText (LB ++ tl) [aR 32, aI 0] M (fun r M1 => ∃ x, r = some (aI x) ∧ FX [35, 36, 37, 38] [2] M M1 ∧ FLT 5 (M 33 0).toNat (M 34) x ∧ TOLD (M 33 0).toNat (M 34) (M1 32 2) (M1 35) (M1 36) (M1 37) (M1 38)) := by
  refine Ct.of (own := RX7) rfl (by decide +kernel) (Nat.le_of_ble_eq_true rfl) (fun X cx rt => ?_)
  refine aw_eq (loc2 := [(0, aR 32), (1, aI 0)]) ?_ rfl rfl rfl rfl
  refine aw_ok (fun om => ?_)
  have ht59 : 0 ≤ M 33 0 ∧ M 33 0 ≤ 59 := okA om (lb_33 tl) 0
  refine aw_iconst (n := 0) cx dX7_readsText_0 (by decide) ?_
  refine aw_istore_n (loc2 := [(2, aI 0), (0, aR 32), (1, aI 0)]) cx dX7_readsText_1 rfl (by decide) rfl ?_
  refine aw_iconst (n := 0) cx dX7_readsText_2 (by decide) ?_
  refine aw_istore_n (loc2 := [(3, aI 0), (2, aI 0), (0, aR 32), (1, aI 0)]) cx dX7_readsText_3 rfl (by decide) rfl ?_
  refine aw_iload_n cx dX7_readsText_4 rfl 3 rfl ?_
  refine aw_if_ne (tgt := 12) cx dX7_readsText_5 (by decide) (fun c5q => ?_) (fun c5q => ?_)
  · exact absurd c5q (by decide)
  · refine aw_iconst (n := 4) cx dX7_readsText_8 (by decide) ?_
    refine aw_goto (tgt := 13) cx dX7_readsText_9 (by decide) ?_
    refine aw_istore (loc2 := [(4, aI 4), (3, aI 0), (2, aI 0), (0, aR 32), (1, aI 0)]) cx dX7_readsText_13 (by decide) rfl ?_
    refine aw_aload_n cx dX7_readsText_15 rfl 3 rfl ?_
    refine aw_iload_n cx dX7_readsText_16 rfl 4 rfl ?_
    refine aw_if_ne (tgt := 24) cx dX7_readsText_17 (by decide) (fun c17q => ?_) (fun c17q => ?_)
    · exact absurd c17q (by decide)
    · refine aw_iconst (n := 0) cx dX7_readsText_20 (by decide) ?_
      refine aw_goto (tgt := 28) cx dX7_readsText_21 (by decide) ?_
      refine aw_putI cx dX7_readsText_28 fl_X7_135 kt_X7 rfl rfl (lb_32 tl) rfl (⟨by omega, by omega⟩) ?_
      obtain ⟨M_28q, hM_28q⟩ : ∃ qm, qm = up M 32 2 0 := ⟨_, rfl⟩
      rw [← hM_28q]
      refine aw_aload_n cx dX7_readsText_31 rfl 3 rfl ?_
      refine aw_iload_n cx dX7_readsText_32 rfl 4 rfl ?_
      refine aw_iconst (n := 1) cx dX7_readsText_33 (by decide) ?_
      refine aw_icmp_ne (tgt := 41) cx dX7_readsText_34 (by decide) (fun c34q => ?_) (fun c34q => ?_)
      · refine aw_aload_n cx dX7_readsText_41 rfl 3 rfl ?_
        refine aw_getI cx dX7_readsText_42 fl_X7_138 (lb_32 tl) rfl (fun z42q hz42q lo_z42q hi_z42q => ?_)
        refine aw_putI cx dX7_readsText_45 fl_X7_138 kt_X7 rfl rfl (lb_32 tl) rfl (⟨by omega, by omega⟩) ?_
        obtain ⟨M_45q, hM_45q⟩ : ∃ qm, qm = up M_28q 32 7 z42q := ⟨_, rfl⟩
        rw [← hM_45q]
        have lp48q : ∀ (fu : Nat) (x2q : Int) (x3q : Int) (N48q : Mem), (0 ≤ x2q ∧ x3q = 5 * x2q ∧ x3q ≤ M 33 0) → (FX [35, 36, 37, 38] [2] M N48q) → (N48q 32 2 = 0) → (∀ a, a < 5 * x2q.toNat → FITa 5 (M 34) a) → (∀ i, i < x2q.toNat → TRW (M 34) (N48q 35) (N48q 36) (N48q 37) (N48q 38) i) → ((60 - x3q).toNat) < fu → AW X (LB ++ tl) 6 48 [(0, aR 32), (1, aI 0), (2, aI x2q), (3, aI x3q), (4, aI 4)] [] N48q := by
          intro fu
          induction fu with
          | zero =>
            intro x2q x3q N48q h0q hf hz hfit hrow hm
            exact absurd hm (Nat.not_lt_zero _)
          | succ fu ih48q =>
            intro x2q x3q N48q h0q hf hz hfit hrow hm
            have e33q := hf.at 33 (by decide)
            have e34q := hf.at 34 (by decide)
            refine aw_iload_n cx dX7_readsText_48 rfl 3 rfl ?_
            refine aw_aload_n cx dX7_readsText_49 rfl 0 rfl ?_
            refine aw_getR (q := 33) cx dX7_readsText_50 fl_X7_7 (lb_32 tl) rfl rfl ?_
            refine aw_iload_n cx dX7_readsText_53 rfl 1 rfl ?_
            refine aw_iald cx dX7_readsText_54 (lb_33 tl) (⟨by omega, by omega⟩) (fun z54q hz54q lo_z54q hi_z54q => ?_)
            have q54q : z54q = M 33 0 := by rw [hz54q, e33q]; rfl
            refine aw_icmp_lt (tgt := 62) cx dX7_readsText_55 (by decide) (fun c55q => ?_) (fun c55q => ?_)
            · refine aw_iload_n cx dX7_readsText_62 rfl 1 rfl ?_
              refine aw_if_ne (tgt := 75) cx dX7_readsText_63 (by decide) (fun c63q => ?_) (fun c63q => ?_)
              · exact absurd c63q (by decide)
              · refine aw_aload_n cx dX7_readsText_66 rfl 0 rfl ?_
                refine aw_iload_n cx dX7_readsText_67 rfl 2 rfl ?_
                refine aw_iload_n cx dX7_readsText_68 rfl 3 rfl ?_
                refine aw_callV (as := [aI x2q, aI x3q]) (k := 32) (stk := []) cx dX7_readsText_69 ml_X7_141 mv_X7_readsTale rfl (lb_32 tl) (by decide) rfl rfl (Nat.le_of_ble_eq_true rfl) (ct_X7_readsTale tl N48q _ _ (by omega) (by omega)) (fun rr69q M_69q hp69q => ?_)
                obtain ⟨z69q, rfl, hfrM_69, hrtM_69, hunM_69, hnewM_69⟩ := hp69q
                refine aw_eq (stk2 := [aI z69q]) ?_ rfl rfl rfl rfl
                rw [e33q, e34q] at hrtM_69 hnewM_69
                have hR := RT4_flt (t := (M 33 0).toNat) (n := x2q.toNat) (B := (M 34)) (p := x3q) (x := z69q) (by omega) (by omega) (by omega) hfit (by rw [show (((M 33 0).toNat : Nat) : Int) = M 33 0 by omega]; exact hrtM_69)
                have hRb : 0 ≤ z69q ∧ z69q ≤ 4 := ⟨hR.1, hR.2.1⟩
                have hfx : FX [35, 36, 37, 38] [2] M M_69q := hf.tr (FX.of (fs := []) hfrM_69) (by decide) (by decide)
                have hzx : M_69q 32 2 = 0 := by rw [hfrM_69 32 (by decide)]; exact hz
                have e33b : M_69q 33 = M 33 := hfx.at 33 (by decide)
                have e34b : M_69q 34 = M 34 := hfx.at 34 (by decide)
                refine aw_goto (tgt := 81) cx dX7_readsText_72 (by decide) ?_
                refine aw_istore (loc2 := [(5, aI z69q), (0, aR 32), (1, aI 0), (2, aI x2q), (3, aI x3q), (4, aI 4)]) cx dX7_readsText_81 (by decide) rfl ?_
                refine aw_iload cx dX7_readsText_83 0 rfl ?_
                refine aw_iload cx dX7_readsText_85 5 rfl ?_
                refine aw_icmp_ge (tgt := 95) cx dX7_readsText_87 (by decide) (fun c87q => ?_) (fun c87q => ?_)
                · have h4q : z69q = 4 := by omega
                  have hR4 := hR.2.2.2 h4q
                  have hle4 := hR4.1
                  have hrow2 : ∀ i, i < x2q.toNat + 1 → TRW (M 34) (M_69q 35) (M_69q 36) (M_69q 37) (M_69q 38) i := by
                    intro i hi
                    by_cases q : i = x2q.toNat
                    · rw [q]; exact TRW_new (p := x3q) (by omega) (hnewM_69 h4q)
                    · exact TRW_k (hrow i (by omega)) (hunM_69 i (by omega))
                  refine aw_iinc cx dX7_readsText_95 3 rfl (by decide) (by omega) (fun z95q hz95q => ?_)
                  refine aw_loc (loc2 := [(2, aI z95q), (5, aI z69q), (0, aR 32), (1, aI 0), (3, aI x3q), (4, aI 4)]) rfl ?_
                  refine aw_iload_n cx dX7_readsText_98 rfl 4 rfl ?_
                  refine aw_iload cx dX7_readsText_99 5 rfl ?_
                  refine aw_iadd cx dX7_readsText_101 (by omega) (fun z101q hz101q => ?_)
                  refine aw_istore_n (loc2 := [(3, aI z101q), (2, aI z95q), (5, aI z69q), (0, aR 32), (1, aI 0), (4, aI 4)]) cx dX7_readsText_102 rfl (by decide) rfl ?_
                  refine aw_iload_n cx dX7_readsText_103 rfl 0 rfl ?_
                  refine aw_aload_n cx dX7_readsText_104 rfl 3 rfl ?_
                  refine aw_getR (q := 33) cx dX7_readsText_105 fl_X7_7 (lb_32 tl) rfl rfl ?_
                  refine aw_iload_n cx dX7_readsText_108 rfl 4 rfl ?_
                  refine aw_iald cx dX7_readsText_109 (lb_33 tl) (⟨by omega, by omega⟩) (fun z109q hz109q lo_z109q hi_z109q => ?_)
                  have q109q : z109q = M 33 0 := by rw [hz109q, e33b]; rfl
                  refine aw_icmp_ne (tgt := 148) cx dX7_readsText_110 (by decide) (fun c110q => ?_) (fun c110q => ?_)
                  · refine aw_aload_n cx dX7_readsText_148 rfl 3 rfl ?_
                    refine aw_iload_n cx dX7_readsText_149 rfl 4 rfl ?_
                    refine aw_iload_n cx dX7_readsText_150 rfl 0 rfl ?_
                    refine aw_callV (as := [aI 0, aI z101q]) (k := 32) (stk := []) cx dX7_readsText_151 ml_X7_121 mv_X7_byteAt rfl (lb_32 tl) (by decide) rfl rfl (Nat.le_of_ble_eq_true rfl) (ct_X7_byteAt_0 tl M_69q _ (by omega)) (fun rr151q M_151q hp151q => ?_)
                    obtain ⟨rfl, z151q, rfl, hrz151q, hbz151⟩ := hp151q
                    refine aw_eq (stk2 := [aI z151q]) ?_ rfl rfl rfl rfl
                    have hS := semi5 (t := (M 33 0).toNat) (n := x2q.toNat) (B := (M 34)) (b := z151q) hle4 (by omega) hR4.2 (by rw [show (((M 33 0).toNat : Nat) : Int) = M 33 0 by omega, show 5 * ((x2q.toNat : Nat) : Int) + 4 = z101q by omega]; have q := hbz151; rw [e33b, e34b] at q; exact q)
                    refine aw_bipush (n := 59) cx dX7_readsText_154 (by decide) ?_
                    refine aw_icmp_eq (tgt := 161) cx dX7_readsText_156 (by decide) (fun c156q => ?_) (fun c156q => ?_)
                    · refine aw_iinc cx dX7_readsText_161 0 rfl (by decide) (by omega) (fun z161q hz161q => ?_)
                      refine aw_loc (loc2 := [(3, aI z161q), (2, aI z95q), (5, aI z69q), (0, aR 32), (1, aI 0), (4, aI 4)]) rfl ?_
                      refine aw_goto (tgt := 48) cx dX7_readsText_164 (by decide) ?_
                      refine aw_sub [3, 4, 1, 0, 5] rfl ?_
                      refine ih48q _ _ _  ?i_h0 ?i_hf ?i_hz ?i_hfit ?i_hrow ?i_m
                      case i_h0 =>
                        have q := (hS.1 (by omega)).1; omega
                      case i_hf =>
                        exact hfx
                      case i_hz =>
                        exact hzx
                      case i_hfit =>
                        rw [show z95q.toNat = x2q.toNat + 1 by omega]; exact (hS.1 (by omega)).2
                      case i_hrow =>
                        rw [show z95q.toNat = x2q.toNat + 1 by omega]; exact hrow2
                      case i_m =>
                        have q := (hS.1 (by omega)).1; clear hnewM_69; omega
                    · refine aw_iload_n cx dX7_readsText_159 rfl 0 rfl ?_
                      refine aw_iret cx rt dX7_readsText_160 ?_
                      have F := hS.2 (by omega)
                      rw [show 5 * ((x2q.toNat : Nat) : Int) + 4 = z101q by omega] at F
                      exact ⟨z101q, rfl, hfx, F, by rw [hzx]; exact TOLD_0 F (Or.inl (by omega))⟩
                  · refine aw_aload_n cx dX7_readsText_113 rfl 3 rfl ?_
                    refine aw_iload_n cx dX7_readsText_114 rfl 4 rfl ?_
                    refine aw_if_ne (tgt := 122) cx dX7_readsText_115 (by decide) (fun c115q => ?_) (fun c115q => ?_)
                    · exact absurd c115q (by decide)
                    · refine aw_iload_n cx dX7_readsText_118 rfl 1 rfl ?_
                      refine aw_goto (tgt := 126) cx dX7_readsText_119 (by decide) ?_
                      refine aw_putI cx dX7_readsText_126 fl_X7_135 kt_X7 rfl rfl (lb_32 tl) rfl (⟨by omega, by omega⟩) ?_
                      obtain ⟨M_126q, hM_126q⟩ : ∃ qm, qm = up M_69q 32 2 z95q := ⟨_, rfl⟩
                      rw [← hM_126q]
                      refine aw_aload_n cx dX7_readsText_129 rfl 3 rfl ?_
                      refine aw_iload_n cx dX7_readsText_130 rfl 4 rfl ?_
                      refine aw_iconst (n := 1) cx dX7_readsText_131 (by decide) ?_
                      refine aw_icmp_ne (tgt := 139) cx dX7_readsText_132 (by decide) (fun c132q => ?_) (fun c132q => ?_)
                      · refine aw_aload_n cx dX7_readsText_139 rfl 3 rfl ?_
                        refine aw_getI cx dX7_readsText_140 fl_X7_138 (lb_32 tl) rfl (fun z140q hz140q lo_z140q hi_z140q => ?_)
                        refine aw_putI cx dX7_readsText_143 fl_X7_138 kt_X7 rfl rfl (lb_32 tl) rfl (⟨by omega, by omega⟩) ?_
                        obtain ⟨M_143q, hM_143q⟩ : ∃ qm, qm = up M_126q 32 7 z140q := ⟨_, rfl⟩
                        rw [← hM_143q]
                        refine aw_iconst (n := (-1)) cx dX7_readsText_146 (by decide) ?_
                        refine aw_iret cx rt dX7_readsText_147 ?_
                        have hft : ∀ a, a < (M 33 0).toNat → FITa 5 (M 34) a := by rw [show (M 33 0).toNat = 5 * x2q.toNat + 4 by omega]; exact hR4.2
                        rw [up_id hM_143q hz140q]
                        refine ⟨-1, rfl, hfx.put hM_126q (by decide), flt_all hft (Or.inr (by omega)), TOLD_1 (n := x2q.toNat) hft (by omega) (by rw [up_eq hM_126q]; omega) (fun i hi => ?_)⟩
                        exact TRW_k (hrow2 i hi) ⟨up_ne hM_126q (by omega), up_ne hM_126q (by omega), up_ne hM_126q (by omega), up_ne hM_126q (by omega)⟩
                      · exact absurd c132q (by decide)
                · refine aw_iload_n cx dX7_readsText_90 rfl 4 rfl ?_
                  refine aw_iload cx dX7_readsText_91 0 rfl ?_
                  refine aw_iadd cx dX7_readsText_93 (by omega) (fun z93q hz93q => ?_)
                  refine aw_iret cx rt dX7_readsText_94 ?_
                  have F := hR.2.2.1 (by omega)
                  rw [← hz93q] at F
                  exact ⟨z93q, rfl, hfx, F, by rw [hzx]; exact TOLD_0 F (Or.inl (by omega))⟩
            · refine aw_iload_n cx dX7_readsText_58 rfl 3 rfl ?_
              refine aw_if_le (tgt := 167) cx dX7_readsText_59 (by decide) (fun c59q => ?_) (fun c59q => ?_)
              · refine aw_iconst (n := (-1)) cx dX7_readsText_167 (by decide) ?_
                refine aw_iret cx rt dX7_readsText_168 ?_
                have F : FLT 5 (M 33 0).toNat (M 34) (-1) := flt_all (fun a h => absurd h (by omega)) (Or.inl (by omega))
                exact ⟨-1, rfl, hf, F, by rw [hz]; exact TOLD_0 F (Or.inr (by omega))⟩
              · refine aw_iload_n cx dX7_readsText_62 rfl 1 rfl ?_
                refine aw_if_ne (tgt := 75) cx dX7_readsText_63 (by decide) (fun c63q => ?_) (fun c63q => ?_)
                · exact absurd c63q (by decide)
                · refine aw_aload_n cx dX7_readsText_66 rfl 0 rfl ?_
                  refine aw_iload_n cx dX7_readsText_67 rfl 2 rfl ?_
                  refine aw_iload_n cx dX7_readsText_68 rfl 3 rfl ?_
                  refine aw_callV (as := [aI x2q, aI x3q]) (k := 32) (stk := []) cx dX7_readsText_69 ml_X7_141 mv_X7_readsTale rfl (lb_32 tl) (by decide) rfl rfl (Nat.le_of_ble_eq_true rfl) (ct_X7_readsTale tl N48q _ _ (by omega) (by omega)) (fun rr69q M_69q hp69q => ?_)
                  obtain ⟨z69q, rfl, hfrM_69, hrtM_69, hunM_69, hnewM_69⟩ := hp69q
                  refine aw_eq (stk2 := [aI z69q]) ?_ rfl rfl rfl rfl
                  rw [e33q, e34q] at hrtM_69 hnewM_69
                  have hR := RT4_flt (t := (M 33 0).toNat) (n := x2q.toNat) (B := (M 34)) (p := x3q) (x := z69q) (by omega) (by omega) (by omega) hfit (by rw [show (((M 33 0).toNat : Nat) : Int) = M 33 0 by omega]; exact hrtM_69)
                  have hRb : 0 ≤ z69q ∧ z69q ≤ 4 := ⟨hR.1, hR.2.1⟩
                  have hfx : FX [35, 36, 37, 38] [2] M M_69q := hf.tr (FX.of (fs := []) hfrM_69) (by decide) (by decide)
                  have hzx : M_69q 32 2 = 0 := by rw [hfrM_69 32 (by decide)]; exact hz
                  have e33b : M_69q 33 = M 33 := hfx.at 33 (by decide)
                  have e34b : M_69q 34 = M 34 := hfx.at 34 (by decide)
                  refine aw_goto (tgt := 81) cx dX7_readsText_72 (by decide) ?_
                  refine aw_istore (loc2 := [(5, aI z69q), (0, aR 32), (1, aI 0), (2, aI x2q), (3, aI x3q), (4, aI 4)]) cx dX7_readsText_81 (by decide) rfl ?_
                  refine aw_iload cx dX7_readsText_83 0 rfl ?_
                  refine aw_iload cx dX7_readsText_85 5 rfl ?_
                  refine aw_icmp_ge (tgt := 95) cx dX7_readsText_87 (by decide) (fun c87q => ?_) (fun c87q => ?_)
                  · have h4q : z69q = 4 := by omega
                    have hR4 := hR.2.2.2 h4q
                    have hle4 := hR4.1
                    have hrow2 : ∀ i, i < x2q.toNat + 1 → TRW (M 34) (M_69q 35) (M_69q 36) (M_69q 37) (M_69q 38) i := by
                      intro i hi
                      by_cases q : i = x2q.toNat
                      · rw [q]; exact TRW_new (p := x3q) (by omega) (hnewM_69 h4q)
                      · exact TRW_k (hrow i (by omega)) (hunM_69 i (by omega))
                    refine aw_iinc cx dX7_readsText_95 3 rfl (by decide) (by omega) (fun z95q hz95q => ?_)
                    refine aw_loc (loc2 := [(2, aI z95q), (5, aI z69q), (0, aR 32), (1, aI 0), (3, aI x3q), (4, aI 4)]) rfl ?_
                    refine aw_iload_n cx dX7_readsText_98 rfl 4 rfl ?_
                    refine aw_iload cx dX7_readsText_99 5 rfl ?_
                    refine aw_iadd cx dX7_readsText_101 (by omega) (fun z101q hz101q => ?_)
                    refine aw_istore_n (loc2 := [(3, aI z101q), (2, aI z95q), (5, aI z69q), (0, aR 32), (1, aI 0), (4, aI 4)]) cx dX7_readsText_102 rfl (by decide) rfl ?_
                    refine aw_iload_n cx dX7_readsText_103 rfl 0 rfl ?_
                    refine aw_aload_n cx dX7_readsText_104 rfl 3 rfl ?_
                    refine aw_getR (q := 33) cx dX7_readsText_105 fl_X7_7 (lb_32 tl) rfl rfl ?_
                    refine aw_iload_n cx dX7_readsText_108 rfl 4 rfl ?_
                    refine aw_iald cx dX7_readsText_109 (lb_33 tl) (⟨by omega, by omega⟩) (fun z109q hz109q lo_z109q hi_z109q => ?_)
                    have q109q : z109q = M 33 0 := by rw [hz109q, e33b]; rfl
                    refine aw_icmp_ne (tgt := 148) cx dX7_readsText_110 (by decide) (fun c110q => ?_) (fun c110q => ?_)
                    · refine aw_aload_n cx dX7_readsText_148 rfl 3 rfl ?_
                      refine aw_iload_n cx dX7_readsText_149 rfl 4 rfl ?_
                      refine aw_iload_n cx dX7_readsText_150 rfl 0 rfl ?_
                      refine aw_callV (as := [aI 0, aI z101q]) (k := 32) (stk := []) cx dX7_readsText_151 ml_X7_121 mv_X7_byteAt rfl (lb_32 tl) (by decide) rfl rfl (Nat.le_of_ble_eq_true rfl) (ct_X7_byteAt_0 tl M_69q _ (by omega)) (fun rr151q M_151q hp151q => ?_)
                      obtain ⟨rfl, z151q, rfl, hrz151q, hbz151⟩ := hp151q
                      refine aw_eq (stk2 := [aI z151q]) ?_ rfl rfl rfl rfl
                      have hS := semi5 (t := (M 33 0).toNat) (n := x2q.toNat) (B := (M 34)) (b := z151q) hle4 (by omega) hR4.2 (by rw [show (((M 33 0).toNat : Nat) : Int) = M 33 0 by omega, show 5 * ((x2q.toNat : Nat) : Int) + 4 = z101q by omega]; have q := hbz151; rw [e33b, e34b] at q; exact q)
                      refine aw_bipush (n := 59) cx dX7_readsText_154 (by decide) ?_
                      refine aw_icmp_eq (tgt := 161) cx dX7_readsText_156 (by decide) (fun c156q => ?_) (fun c156q => ?_)
                      · refine aw_iinc cx dX7_readsText_161 0 rfl (by decide) (by omega) (fun z161q hz161q => ?_)
                        refine aw_loc (loc2 := [(3, aI z161q), (2, aI z95q), (5, aI z69q), (0, aR 32), (1, aI 0), (4, aI 4)]) rfl ?_
                        refine aw_goto (tgt := 48) cx dX7_readsText_164 (by decide) ?_
                        refine aw_sub [3, 4, 1, 0, 5] rfl ?_
                        refine ih48q _ _ _  ?i_h0 ?i_hf ?i_hz ?i_hfit ?i_hrow ?i_m
                        case i_h0 =>
                          have q := (hS.1 (by omega)).1; omega
                        case i_hf =>
                          exact hfx
                        case i_hz =>
                          exact hzx
                        case i_hfit =>
                          rw [show z95q.toNat = x2q.toNat + 1 by omega]; exact (hS.1 (by omega)).2
                        case i_hrow =>
                          rw [show z95q.toNat = x2q.toNat + 1 by omega]; exact hrow2
                        case i_m =>
                          have q := (hS.1 (by omega)).1; clear hnewM_69; omega
                      · refine aw_iload_n cx dX7_readsText_159 rfl 0 rfl ?_
                        refine aw_iret cx rt dX7_readsText_160 ?_
                        have F := hS.2 (by omega)
                        rw [show 5 * ((x2q.toNat : Nat) : Int) + 4 = z101q by omega] at F
                        exact ⟨z101q, rfl, hfx, F, by rw [hzx]; exact TOLD_0 F (Or.inl (by omega))⟩
                    · refine aw_aload_n cx dX7_readsText_113 rfl 3 rfl ?_
                      refine aw_iload_n cx dX7_readsText_114 rfl 4 rfl ?_
                      refine aw_if_ne (tgt := 122) cx dX7_readsText_115 (by decide) (fun c115q => ?_) (fun c115q => ?_)
                      · exact absurd c115q (by decide)
                      · refine aw_iload_n cx dX7_readsText_118 rfl 1 rfl ?_
                        refine aw_goto (tgt := 126) cx dX7_readsText_119 (by decide) ?_
                        refine aw_putI cx dX7_readsText_126 fl_X7_135 kt_X7 rfl rfl (lb_32 tl) rfl (⟨by omega, by omega⟩) ?_
                        obtain ⟨M_126q, hM_126q⟩ : ∃ qm, qm = up M_69q 32 2 z95q := ⟨_, rfl⟩
                        rw [← hM_126q]
                        refine aw_aload_n cx dX7_readsText_129 rfl 3 rfl ?_
                        refine aw_iload_n cx dX7_readsText_130 rfl 4 rfl ?_
                        refine aw_iconst (n := 1) cx dX7_readsText_131 (by decide) ?_
                        refine aw_icmp_ne (tgt := 139) cx dX7_readsText_132 (by decide) (fun c132q => ?_) (fun c132q => ?_)
                        · refine aw_aload_n cx dX7_readsText_139 rfl 3 rfl ?_
                          refine aw_getI cx dX7_readsText_140 fl_X7_138 (lb_32 tl) rfl (fun z140q hz140q lo_z140q hi_z140q => ?_)
                          refine aw_putI cx dX7_readsText_143 fl_X7_138 kt_X7 rfl rfl (lb_32 tl) rfl (⟨by omega, by omega⟩) ?_
                          obtain ⟨M_143q, hM_143q⟩ : ∃ qm, qm = up M_126q 32 7 z140q := ⟨_, rfl⟩
                          rw [← hM_143q]
                          refine aw_iconst (n := (-1)) cx dX7_readsText_146 (by decide) ?_
                          refine aw_iret cx rt dX7_readsText_147 ?_
                          have hft : ∀ a, a < (M 33 0).toNat → FITa 5 (M 34) a := by rw [show (M 33 0).toNat = 5 * x2q.toNat + 4 by omega]; exact hR4.2
                          rw [up_id hM_143q hz140q]
                          refine ⟨-1, rfl, hfx.put hM_126q (by decide), flt_all hft (Or.inr (by omega)), TOLD_1 (n := x2q.toNat) hft (by omega) (by rw [up_eq hM_126q]; omega) (fun i hi => ?_)⟩
                          exact TRW_k (hrow2 i hi) ⟨up_ne hM_126q (by omega), up_ne hM_126q (by omega), up_ne hM_126q (by omega), up_ne hM_126q (by omega)⟩
                        · exact absurd c132q (by decide)
                  · refine aw_iload_n cx dX7_readsText_90 rfl 4 rfl ?_
                    refine aw_iload cx dX7_readsText_91 0 rfl ?_
                    refine aw_iadd cx dX7_readsText_93 (by omega) (fun z93q hz93q => ?_)
                    refine aw_iret cx rt dX7_readsText_94 ?_
                    have F := hR.2.2.1 (by omega)
                    rw [← hz93q] at F
                    exact ⟨z93q, rfl, hfx, F, by rw [hzx]; exact TOLD_0 F (Or.inl (by omega))⟩
        refine aw_sub [3, 4, 2, 1, 0] rfl ?_
        refine lp48q _ _ _ _  ?i_h0 ?i_hf ?i_hz ?i_hfit ?i_hrow (Nat.lt_succ_self _)
        case i_h0 =>
          omega
        case i_hf =>
          rw [up_id hM_45q hz42q]; exact FX.rf.put hM_28q (by decide)
        case i_hz =>
          rw [up_id hM_45q hz42q]; exact up_eq hM_28q
        case i_hfit =>
          exact fun a h => absurd h (Nat.not_lt_zero a)
        case i_hrow =>
          exact all_0
      · exact absurd c34q (by decide)
set_option maxHeartbeats 1000000 in
set_option maxRecDepth 100000 in
theorem ct_X7_readsText_1 (tl : List CD) (M : Mem)  (h23q : M 33 1 ≤ 23) : Ct 3 mX7_readsText (LB ++ tl) [aR 32, aI 1] M (fun r M1 => ∃ x, r = some (aI x) ∧ FX [39, 40] [7] M M1 ∧ FLT 3 (M 33 1).toNat (fun i => M 34 (59 + i)) x ∧ CHAR (M 33 1).toNat (fun i => M 34 (59 + i)) (M1 32 7) (M1 39) (M1 40)) := by
  refine Ct.of (own := RX7) rfl (by decide +kernel) (Nat.le_of_ble_eq_true rfl) (fun X cx rt => ?_)
  refine aw_eq (loc2 := [(0, aR 32), (1, aI 1)]) ?_ rfl rfl rfl rfl
  refine aw_ok (fun om => ?_)
  have ht59 : 0 ≤ M 33 1 ∧ M 33 1 ≤ 59 := okA om (lb_33 tl) 1
  refine aw_iconst (n := 0) cx dX7_readsText_0 (by decide) ?_
  refine aw_istore_n (loc2 := [(2, aI 0), (0, aR 32), (1, aI 1)]) cx dX7_readsText_1 rfl (by decide) rfl ?_
  refine aw_iconst (n := 0) cx dX7_readsText_2 (by decide) ?_
  refine aw_istore_n (loc2 := [(3, aI 0), (2, aI 0), (0, aR 32), (1, aI 1)]) cx dX7_readsText_3 rfl (by decide) rfl ?_
  refine aw_iload_n cx dX7_readsText_4 rfl 3 rfl ?_
  refine aw_if_ne (tgt := 12) cx dX7_readsText_5 (by decide) (fun c5q => ?_) (fun c5q => ?_)
  · refine aw_iconst (n := 2) cx dX7_readsText_12 (by decide) ?_
    refine aw_istore (loc2 := [(4, aI 2), (3, aI 0), (2, aI 0), (0, aR 32), (1, aI 1)]) cx dX7_readsText_13 (by decide) rfl ?_
    refine aw_aload_n cx dX7_readsText_15 rfl 3 rfl ?_
    refine aw_iload_n cx dX7_readsText_16 rfl 4 rfl ?_
    refine aw_if_ne (tgt := 24) cx dX7_readsText_17 (by decide) (fun c17q => ?_) (fun c17q => ?_)
    · refine aw_aload_n cx dX7_readsText_24 rfl 3 rfl ?_
      refine aw_getI cx dX7_readsText_25 fl_X7_135 (lb_32 tl) rfl (fun z25q hz25q lo_z25q hi_z25q => ?_)
      refine aw_putI cx dX7_readsText_28 fl_X7_135 kt_X7 rfl rfl (lb_32 tl) rfl (⟨by omega, by omega⟩) ?_
      obtain ⟨M_28q, hM_28q⟩ : ∃ qm, qm = up M 32 2 z25q := ⟨_, rfl⟩
      rw [← hM_28q]
      refine aw_aload_n cx dX7_readsText_31 rfl 3 rfl ?_
      refine aw_iload_n cx dX7_readsText_32 rfl 4 rfl ?_
      refine aw_iconst (n := 1) cx dX7_readsText_33 (by decide) ?_
      refine aw_icmp_ne (tgt := 41) cx dX7_readsText_34 (by decide) (fun c34q => ?_) (fun c34q => ?_)
      · exact absurd c34q (by decide)
      · refine aw_iconst (n := 0) cx dX7_readsText_37 (by decide) ?_
        refine aw_goto (tgt := 45) cx dX7_readsText_38 (by decide) ?_
        refine aw_putI cx dX7_readsText_45 fl_X7_138 kt_X7 rfl rfl (lb_32 tl) rfl (⟨by omega, by omega⟩) ?_
        obtain ⟨M_45q, hM_45q⟩ : ∃ qm, qm = up M_28q 32 7 0 := ⟨_, rfl⟩
        rw [← hM_45q]
        have lp48q : ∀ (fu : Nat) (x2q : Int) (x3q : Int) (N48q : Mem), (0 ≤ x2q ∧ x3q = 3 * x2q ∧ x3q ≤ M 33 1) → (FX [39, 40] [7] M N48q) → (N48q 32 7 = 0) → (∀ a, a < 3 * x2q.toNat → FITa 3 (fun i => M 34 (59 + i)) a) → (∀ i, i < x2q.toNat → CRW (fun i => M 34 (59 + i)) (N48q 39) (N48q 40) i) → ((60 - x3q).toNat) < fu → AW X (LB ++ tl) 6 48 [(0, aR 32), (1, aI 1), (2, aI x2q), (3, aI x3q), (4, aI 2)] [] N48q := by
          intro fu
          induction fu with
          | zero =>
            intro x2q x3q N48q h0q hf hz hfit hrow hm
            exact absurd hm (Nat.not_lt_zero _)
          | succ fu ih48q =>
            intro x2q x3q N48q h0q hf hz hfit hrow hm
            have e33q := hf.at 33 (by decide)
            have e34q := hf.at 34 (by decide)
            refine aw_iload_n cx dX7_readsText_48 rfl 3 rfl ?_
            refine aw_aload_n cx dX7_readsText_49 rfl 0 rfl ?_
            refine aw_getR (q := 33) cx dX7_readsText_50 fl_X7_7 (lb_32 tl) rfl rfl ?_
            refine aw_iload_n cx dX7_readsText_53 rfl 1 rfl ?_
            refine aw_iald cx dX7_readsText_54 (lb_33 tl) (⟨by omega, by omega⟩) (fun z54q hz54q lo_z54q hi_z54q => ?_)
            have q54q : z54q = M 33 1 := by rw [hz54q, e33q]; rfl
            refine aw_icmp_lt (tgt := 62) cx dX7_readsText_55 (by decide) (fun c55q => ?_) (fun c55q => ?_)
            · refine aw_iload_n cx dX7_readsText_62 rfl 1 rfl ?_
              refine aw_if_ne (tgt := 75) cx dX7_readsText_63 (by decide) (fun c63q => ?_) (fun c63q => ?_)
              · refine aw_aload_n cx dX7_readsText_75 rfl 0 rfl ?_
                refine aw_iload_n cx dX7_readsText_76 rfl 2 rfl ?_
                refine aw_iload_n cx dX7_readsText_77 rfl 3 rfl ?_
                refine aw_callV (as := [aI x2q, aI x3q]) (k := 32) (stk := []) cx dX7_readsText_78 ml_X7_144 mv_X7_readsCharge rfl (lb_32 tl) (by decide) rfl rfl (Nat.le_of_ble_eq_true rfl) (ct_X7_readsCharge tl N48q _ _ (by omega) (by omega)) (fun rr78q M_78q hp78q => ?_)
                obtain ⟨z78q, rfl, hfrM_78, hrtM_78, hunM_78, hnewM_78⟩ := hp78q
                refine aw_eq (stk2 := [aI z78q]) ?_ rfl rfl rfl rfl
                rw [e33q, e34q] at hrtM_78 hnewM_78
                have hR := RT2_flt (t := (M 33 1).toNat) (n := x2q.toNat) (B := (fun i => M 34 (59 + i))) (p := x3q) (x := z78q) (by omega) (by omega) (by omega) hfit (by rw [show (((M 33 1).toNat : Nat) : Int) = M 33 1 by omega]; exact hrtM_78)
                have hRb : 0 ≤ z78q ∧ z78q ≤ 2 := ⟨hR.1, hR.2.1⟩
                have hfx : FX [39, 40] [7] M M_78q := hf.tr (FX.of (fs := []) hfrM_78) (by decide) (by decide)
                have hzx : M_78q 32 7 = 0 := by rw [hfrM_78 32 (by decide)]; exact hz
                have e33b : M_78q 33 = M 33 := hfx.at 33 (by decide)
                have e34b : M_78q 34 = M 34 := hfx.at 34 (by decide)
                refine aw_istore (loc2 := [(5, aI z78q), (0, aR 32), (1, aI 1), (2, aI x2q), (3, aI x3q), (4, aI 2)]) cx dX7_readsText_81 (by decide) rfl ?_
                refine aw_iload cx dX7_readsText_83 0 rfl ?_
                refine aw_iload cx dX7_readsText_85 5 rfl ?_
                refine aw_icmp_ge (tgt := 95) cx dX7_readsText_87 (by decide) (fun c87q => ?_) (fun c87q => ?_)
                · have h4q : z78q = 2 := by omega
                  have hR4 := hR.2.2.2 h4q
                  have hle4 := hR4.1
                  have hrow2 : ∀ i, i < x2q.toNat + 1 → CRW (fun i => M 34 (59 + i)) (M_78q 39) (M_78q 40) i := by
                    intro i hi
                    by_cases q : i = x2q.toNat
                    · rw [q]; exact CRW_new (p := x3q) (by omega) (hnewM_78 h4q)
                    · exact CRW_k (hrow i (by omega)) (hunM_78 i (by omega))
                  refine aw_iinc cx dX7_readsText_95 3 rfl (by decide) (by omega) (fun z95q hz95q => ?_)
                  refine aw_loc (loc2 := [(2, aI z95q), (5, aI z78q), (0, aR 32), (1, aI 1), (3, aI x3q), (4, aI 2)]) rfl ?_
                  refine aw_iload_n cx dX7_readsText_98 rfl 4 rfl ?_
                  refine aw_iload cx dX7_readsText_99 5 rfl ?_
                  refine aw_iadd cx dX7_readsText_101 (by omega) (fun z101q hz101q => ?_)
                  refine aw_istore_n (loc2 := [(3, aI z101q), (2, aI z95q), (5, aI z78q), (0, aR 32), (1, aI 1), (4, aI 2)]) cx dX7_readsText_102 rfl (by decide) rfl ?_
                  refine aw_iload_n cx dX7_readsText_103 rfl 0 rfl ?_
                  refine aw_aload_n cx dX7_readsText_104 rfl 3 rfl ?_
                  refine aw_getR (q := 33) cx dX7_readsText_105 fl_X7_7 (lb_32 tl) rfl rfl ?_
                  refine aw_iload_n cx dX7_readsText_108 rfl 4 rfl ?_
                  refine aw_iald cx dX7_readsText_109 (lb_33 tl) (⟨by omega, by omega⟩) (fun z109q hz109q lo_z109q hi_z109q => ?_)
                  have q109q : z109q = M 33 1 := by rw [hz109q, e33b]; rfl
                  refine aw_icmp_ne (tgt := 148) cx dX7_readsText_110 (by decide) (fun c110q => ?_) (fun c110q => ?_)
                  · refine aw_aload_n cx dX7_readsText_148 rfl 3 rfl ?_
                    refine aw_iload_n cx dX7_readsText_149 rfl 4 rfl ?_
                    refine aw_iload_n cx dX7_readsText_150 rfl 0 rfl ?_
                    refine aw_callV (as := [aI 1, aI z101q]) (k := 32) (stk := []) cx dX7_readsText_151 ml_X7_121 mv_X7_byteAt rfl (lb_32 tl) (by decide) rfl rfl (Nat.le_of_ble_eq_true rfl) (ct_X7_byteAt_1 tl M_78q _ (by omega)) (fun rr151q M_151q hp151q => ?_)
                    obtain ⟨rfl, z151q, rfl, hrz151q, hbz151⟩ := hp151q
                    refine aw_eq (stk2 := [aI z151q]) ?_ rfl rfl rfl rfl
                    have hS := semi3 (t := (M 33 1).toNat) (n := x2q.toNat) (B := (fun i => M 34 (59 + i))) (b := z151q) hle4 (by omega) hR4.2 (by rw [show (((M 33 1).toNat : Nat) : Int) = M 33 1 by omega, show 3 * ((x2q.toNat : Nat) : Int) + 2 = z101q by omega]; have q := hbz151; rw [e33b, e34b] at q; exact q)
                    refine aw_bipush (n := 59) cx dX7_readsText_154 (by decide) ?_
                    refine aw_icmp_eq (tgt := 161) cx dX7_readsText_156 (by decide) (fun c156q => ?_) (fun c156q => ?_)
                    · refine aw_iinc cx dX7_readsText_161 0 rfl (by decide) (by omega) (fun z161q hz161q => ?_)
                      refine aw_loc (loc2 := [(3, aI z161q), (2, aI z95q), (5, aI z78q), (0, aR 32), (1, aI 1), (4, aI 2)]) rfl ?_
                      refine aw_goto (tgt := 48) cx dX7_readsText_164 (by decide) ?_
                      refine aw_sub [3, 4, 1, 0, 5] rfl ?_
                      refine ih48q _ _ _  ?i_h0 ?i_hf ?i_hz ?i_hfit ?i_hrow ?i_m
                      case i_h0 =>
                        have q := (hS.1 (by omega)).1; omega
                      case i_hf =>
                        exact hfx
                      case i_hz =>
                        exact hzx
                      case i_hfit =>
                        rw [show z95q.toNat = x2q.toNat + 1 by omega]; exact (hS.1 (by omega)).2
                      case i_hrow =>
                        rw [show z95q.toNat = x2q.toNat + 1 by omega]; exact hrow2
                      case i_m =>
                        have q := (hS.1 (by omega)).1; clear hnewM_78; omega
                    · refine aw_iload_n cx dX7_readsText_159 rfl 0 rfl ?_
                      refine aw_iret cx rt dX7_readsText_160 ?_
                      have F := hS.2 (by omega)
                      rw [show 3 * ((x2q.toNat : Nat) : Int) + 2 = z101q by omega] at F
                      exact ⟨z101q, rfl, hfx, F, by rw [hzx]; exact CHAR_0 F (Or.inl (by omega))⟩
                  · refine aw_aload_n cx dX7_readsText_113 rfl 3 rfl ?_
                    refine aw_iload_n cx dX7_readsText_114 rfl 4 rfl ?_
                    refine aw_if_ne (tgt := 122) cx dX7_readsText_115 (by decide) (fun c115q => ?_) (fun c115q => ?_)
                    · refine aw_aload_n cx dX7_readsText_122 rfl 3 rfl ?_
                      refine aw_getI cx dX7_readsText_123 fl_X7_135 (lb_32 tl) rfl (fun z123q hz123q lo_z123q hi_z123q => ?_)
                      refine aw_putI cx dX7_readsText_126 fl_X7_135 kt_X7 rfl rfl (lb_32 tl) rfl (⟨by omega, by omega⟩) ?_
                      obtain ⟨M_126q, hM_126q⟩ : ∃ qm, qm = up M_78q 32 2 z123q := ⟨_, rfl⟩
                      rw [← hM_126q]
                      refine aw_aload_n cx dX7_readsText_129 rfl 3 rfl ?_
                      refine aw_iload_n cx dX7_readsText_130 rfl 4 rfl ?_
                      refine aw_iconst (n := 1) cx dX7_readsText_131 (by decide) ?_
                      refine aw_icmp_ne (tgt := 139) cx dX7_readsText_132 (by decide) (fun c132q => ?_) (fun c132q => ?_)
                      · exact absurd c132q (by decide)
                      · refine aw_iload_n cx dX7_readsText_135 rfl 1 rfl ?_
                        refine aw_goto (tgt := 143) cx dX7_readsText_136 (by decide) ?_
                        refine aw_putI cx dX7_readsText_143 fl_X7_138 kt_X7 rfl rfl (lb_32 tl) rfl (⟨by omega, by omega⟩) ?_
                        obtain ⟨M_143q, hM_143q⟩ : ∃ qm, qm = up M_126q 32 7 z95q := ⟨_, rfl⟩
                        rw [← hM_143q]
                        refine aw_iconst (n := (-1)) cx dX7_readsText_146 (by decide) ?_
                        refine aw_iret cx rt dX7_readsText_147 ?_
                        have hft : ∀ a, a < (M 33 1).toNat → FITa 3 (fun i => M 34 (59 + i)) a := by rw [show (M 33 1).toNat = 3 * x2q.toNat + 2 by omega]; exact hR4.2
                        have qe := up_id hM_126q hz123q
                        rw [qe] at hM_143q
                        refine ⟨-1, rfl, hfx.put hM_143q (by decide), flt_all hft (Or.inr (by omega)), CHAR_1 (n := x2q.toNat) hft (by omega) (by rw [up_eq hM_143q]; omega) (fun i hi => ?_)⟩
                        exact CRW_k (hrow2 i hi) ⟨up_ne hM_143q (by omega), up_ne hM_143q (by omega)⟩
                    · exact absurd c115q (by decide)
                · refine aw_iload_n cx dX7_readsText_90 rfl 4 rfl ?_
                  refine aw_iload cx dX7_readsText_91 0 rfl ?_
                  refine aw_iadd cx dX7_readsText_93 (by omega) (fun z93q hz93q => ?_)
                  refine aw_iret cx rt dX7_readsText_94 ?_
                  have F := hR.2.2.1 (by omega)
                  rw [← hz93q] at F
                  exact ⟨z93q, rfl, hfx, F, by rw [hzx]; exact CHAR_0 F (Or.inl (by omega))⟩
              · exact absurd c63q (by decide)
            · refine aw_iload_n cx dX7_readsText_58 rfl 3 rfl ?_
              refine aw_if_le (tgt := 167) cx dX7_readsText_59 (by decide) (fun c59q => ?_) (fun c59q => ?_)
              · refine aw_iconst (n := (-1)) cx dX7_readsText_167 (by decide) ?_
                refine aw_iret cx rt dX7_readsText_168 ?_
                have F : FLT 3 (M 33 1).toNat (fun i => M 34 (59 + i)) (-1) := flt_all (fun a h => absurd h (by omega)) (Or.inl (by omega))
                exact ⟨-1, rfl, hf, F, by rw [hz]; exact CHAR_0 F (Or.inr (by omega))⟩
              · refine aw_iload_n cx dX7_readsText_62 rfl 1 rfl ?_
                refine aw_if_ne (tgt := 75) cx dX7_readsText_63 (by decide) (fun c63q => ?_) (fun c63q => ?_)
                · refine aw_aload_n cx dX7_readsText_75 rfl 0 rfl ?_
                  refine aw_iload_n cx dX7_readsText_76 rfl 2 rfl ?_
                  refine aw_iload_n cx dX7_readsText_77 rfl 3 rfl ?_
                  refine aw_callV (as := [aI x2q, aI x3q]) (k := 32) (stk := []) cx dX7_readsText_78 ml_X7_144 mv_X7_readsCharge rfl (lb_32 tl) (by decide) rfl rfl (Nat.le_of_ble_eq_true rfl) (ct_X7_readsCharge tl N48q _ _ (by omega) (by omega)) (fun rr78q M_78q hp78q => ?_)
                  obtain ⟨z78q, rfl, hfrM_78, hrtM_78, hunM_78, hnewM_78⟩ := hp78q
                  refine aw_eq (stk2 := [aI z78q]) ?_ rfl rfl rfl rfl
                  rw [e33q, e34q] at hrtM_78 hnewM_78
                  have hR := RT2_flt (t := (M 33 1).toNat) (n := x2q.toNat) (B := (fun i => M 34 (59 + i))) (p := x3q) (x := z78q) (by omega) (by omega) (by omega) hfit (by rw [show (((M 33 1).toNat : Nat) : Int) = M 33 1 by omega]; exact hrtM_78)
                  have hRb : 0 ≤ z78q ∧ z78q ≤ 2 := ⟨hR.1, hR.2.1⟩
                  have hfx : FX [39, 40] [7] M M_78q := hf.tr (FX.of (fs := []) hfrM_78) (by decide) (by decide)
                  have hzx : M_78q 32 7 = 0 := by rw [hfrM_78 32 (by decide)]; exact hz
                  have e33b : M_78q 33 = M 33 := hfx.at 33 (by decide)
                  have e34b : M_78q 34 = M 34 := hfx.at 34 (by decide)
                  refine aw_istore (loc2 := [(5, aI z78q), (0, aR 32), (1, aI 1), (2, aI x2q), (3, aI x3q), (4, aI 2)]) cx dX7_readsText_81 (by decide) rfl ?_
                  refine aw_iload cx dX7_readsText_83 0 rfl ?_
                  refine aw_iload cx dX7_readsText_85 5 rfl ?_
                  refine aw_icmp_ge (tgt := 95) cx dX7_readsText_87 (by decide) (fun c87q => ?_) (fun c87q => ?_)
                  · have h4q : z78q = 2 := by omega
                    have hR4 := hR.2.2.2 h4q
                    have hle4 := hR4.1
                    have hrow2 : ∀ i, i < x2q.toNat + 1 → CRW (fun i => M 34 (59 + i)) (M_78q 39) (M_78q 40) i := by
                      intro i hi
                      by_cases q : i = x2q.toNat
                      · rw [q]; exact CRW_new (p := x3q) (by omega) (hnewM_78 h4q)
                      · exact CRW_k (hrow i (by omega)) (hunM_78 i (by omega))
                    refine aw_iinc cx dX7_readsText_95 3 rfl (by decide) (by omega) (fun z95q hz95q => ?_)
                    refine aw_loc (loc2 := [(2, aI z95q), (5, aI z78q), (0, aR 32), (1, aI 1), (3, aI x3q), (4, aI 2)]) rfl ?_
                    refine aw_iload_n cx dX7_readsText_98 rfl 4 rfl ?_
                    refine aw_iload cx dX7_readsText_99 5 rfl ?_
                    refine aw_iadd cx dX7_readsText_101 (by omega) (fun z101q hz101q => ?_)
                    refine aw_istore_n (loc2 := [(3, aI z101q), (2, aI z95q), (5, aI z78q), (0, aR 32), (1, aI 1), (4, aI 2)]) cx dX7_readsText_102 rfl (by decide) rfl ?_
                    refine aw_iload_n cx dX7_readsText_103 rfl 0 rfl ?_
                    refine aw_aload_n cx dX7_readsText_104 rfl 3 rfl ?_
                    refine aw_getR (q := 33) cx dX7_readsText_105 fl_X7_7 (lb_32 tl) rfl rfl ?_
                    refine aw_iload_n cx dX7_readsText_108 rfl 4 rfl ?_
                    refine aw_iald cx dX7_readsText_109 (lb_33 tl) (⟨by omega, by omega⟩) (fun z109q hz109q lo_z109q hi_z109q => ?_)
                    have q109q : z109q = M 33 1 := by rw [hz109q, e33b]; rfl
                    refine aw_icmp_ne (tgt := 148) cx dX7_readsText_110 (by decide) (fun c110q => ?_) (fun c110q => ?_)
                    · refine aw_aload_n cx dX7_readsText_148 rfl 3 rfl ?_
                      refine aw_iload_n cx dX7_readsText_149 rfl 4 rfl ?_
                      refine aw_iload_n cx dX7_readsText_150 rfl 0 rfl ?_
                      refine aw_callV (as := [aI 1, aI z101q]) (k := 32) (stk := []) cx dX7_readsText_151 ml_X7_121 mv_X7_byteAt rfl (lb_32 tl) (by decide) rfl rfl (Nat.le_of_ble_eq_true rfl) (ct_X7_byteAt_1 tl M_78q _ (by omega)) (fun rr151q M_151q hp151q => ?_)
                      obtain ⟨rfl, z151q, rfl, hrz151q, hbz151⟩ := hp151q
                      refine aw_eq (stk2 := [aI z151q]) ?_ rfl rfl rfl rfl
                      have hS := semi3 (t := (M 33 1).toNat) (n := x2q.toNat) (B := (fun i => M 34 (59 + i))) (b := z151q) hle4 (by omega) hR4.2 (by rw [show (((M 33 1).toNat : Nat) : Int) = M 33 1 by omega, show 3 * ((x2q.toNat : Nat) : Int) + 2 = z101q by omega]; have q := hbz151; rw [e33b, e34b] at q; exact q)
                      refine aw_bipush (n := 59) cx dX7_readsText_154 (by decide) ?_
                      refine aw_icmp_eq (tgt := 161) cx dX7_readsText_156 (by decide) (fun c156q => ?_) (fun c156q => ?_)
                      · refine aw_iinc cx dX7_readsText_161 0 rfl (by decide) (by omega) (fun z161q hz161q => ?_)
                        refine aw_loc (loc2 := [(3, aI z161q), (2, aI z95q), (5, aI z78q), (0, aR 32), (1, aI 1), (4, aI 2)]) rfl ?_
                        refine aw_goto (tgt := 48) cx dX7_readsText_164 (by decide) ?_
                        refine aw_sub [3, 4, 1, 0, 5] rfl ?_
                        refine ih48q _ _ _  ?i_h0 ?i_hf ?i_hz ?i_hfit ?i_hrow ?i_m
                        case i_h0 =>
                          have q := (hS.1 (by omega)).1; omega
                        case i_hf =>
                          exact hfx
                        case i_hz =>
                          exact hzx
                        case i_hfit =>
                          rw [show z95q.toNat = x2q.toNat + 1 by omega]; exact (hS.1 (by omega)).2
                        case i_hrow =>
                          rw [show z95q.toNat = x2q.toNat + 1 by omega]; exact hrow2
                        case i_m =>
                          have q := (hS.1 (by omega)).1; clear hnewM_78; omega
                      · refine aw_iload_n cx dX7_readsText_159 rfl 0 rfl ?_
                        refine aw_iret cx rt dX7_readsText_160 ?_
                        have F := hS.2 (by omega)
                        rw [show 3 * ((x2q.toNat : Nat) : Int) + 2 = z101q by omega] at F
                        exact ⟨z101q, rfl, hfx, F, by rw [hzx]; exact CHAR_0 F (Or.inl (by omega))⟩
                    · refine aw_aload_n cx dX7_readsText_113 rfl 3 rfl ?_
                      refine aw_iload_n cx dX7_readsText_114 rfl 4 rfl ?_
                      refine aw_if_ne (tgt := 122) cx dX7_readsText_115 (by decide) (fun c115q => ?_) (fun c115q => ?_)
                      · refine aw_aload_n cx dX7_readsText_122 rfl 3 rfl ?_
                        refine aw_getI cx dX7_readsText_123 fl_X7_135 (lb_32 tl) rfl (fun z123q hz123q lo_z123q hi_z123q => ?_)
                        refine aw_putI cx dX7_readsText_126 fl_X7_135 kt_X7 rfl rfl (lb_32 tl) rfl (⟨by omega, by omega⟩) ?_
                        obtain ⟨M_126q, hM_126q⟩ : ∃ qm, qm = up M_78q 32 2 z123q := ⟨_, rfl⟩
                        rw [← hM_126q]
                        refine aw_aload_n cx dX7_readsText_129 rfl 3 rfl ?_
                        refine aw_iload_n cx dX7_readsText_130 rfl 4 rfl ?_
                        refine aw_iconst (n := 1) cx dX7_readsText_131 (by decide) ?_
                        refine aw_icmp_ne (tgt := 139) cx dX7_readsText_132 (by decide) (fun c132q => ?_) (fun c132q => ?_)
                        · exact absurd c132q (by decide)
                        · refine aw_iload_n cx dX7_readsText_135 rfl 1 rfl ?_
                          refine aw_goto (tgt := 143) cx dX7_readsText_136 (by decide) ?_
                          refine aw_putI cx dX7_readsText_143 fl_X7_138 kt_X7 rfl rfl (lb_32 tl) rfl (⟨by omega, by omega⟩) ?_
                          obtain ⟨M_143q, hM_143q⟩ : ∃ qm, qm = up M_126q 32 7 z95q := ⟨_, rfl⟩
                          rw [← hM_143q]
                          refine aw_iconst (n := (-1)) cx dX7_readsText_146 (by decide) ?_
                          refine aw_iret cx rt dX7_readsText_147 ?_
                          have hft : ∀ a, a < (M 33 1).toNat → FITa 3 (fun i => M 34 (59 + i)) a := by rw [show (M 33 1).toNat = 3 * x2q.toNat + 2 by omega]; exact hR4.2
                          have qe := up_id hM_126q hz123q
                          rw [qe] at hM_143q
                          refine ⟨-1, rfl, hfx.put hM_143q (by decide), flt_all hft (Or.inr (by omega)), CHAR_1 (n := x2q.toNat) hft (by omega) (by rw [up_eq hM_143q]; omega) (fun i hi => ?_)⟩
                          exact CRW_k (hrow2 i hi) ⟨up_ne hM_143q (by omega), up_ne hM_143q (by omega)⟩
                      · exact absurd c115q (by decide)
                  · refine aw_iload_n cx dX7_readsText_90 rfl 4 rfl ?_
                    refine aw_iload cx dX7_readsText_91 0 rfl ?_
                    refine aw_iadd cx dX7_readsText_93 (by omega) (fun z93q hz93q => ?_)
                    refine aw_iret cx rt dX7_readsText_94 ?_
                    have F := hR.2.2.1 (by omega)
                    rw [← hz93q] at F
                    exact ⟨z93q, rfl, hfx, F, by rw [hzx]; exact CHAR_0 F (Or.inl (by omega))⟩
                · exact absurd c63q (by decide)
        refine aw_sub [3, 4, 2, 1, 0] rfl ?_
        refine lp48q _ _ _ _  ?i_h0 ?i_hf ?i_hz ?i_hfit ?i_hrow (Nat.lt_succ_self _)
        case i_h0 =>
          omega
        case i_hf =>
          have q := up_id hM_28q hz25q; rw [q] at hM_45q; exact FX.rf.put hM_45q (by decide)
        case i_hz =>
          exact up_eq hM_45q
        case i_hfit =>
          exact fun a h => absurd h (Nat.not_lt_zero a)
        case i_hrow =>
          exact all_0
    · exact absurd c17q (by decide)
  · exact absurd c5q (by decide)
