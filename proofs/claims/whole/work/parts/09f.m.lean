set_option maxHeartbeats 1000000 in
set_option maxRecDepth 100000 in
theorem ct_X7_countsAll (tl : List CD) (M : Mem)  : Ct 2 mX7_countsAll (LB ++ tl) [aR 32] M (fun r M1 => r = none ∧ FR [48, 50] M M1 ∧ CNT (M 32 20) (M 32 15).toNat (M 32 11).toNat (KEN (M 32 21) (M 41)) (M 42) (M 43) (M 44) (M 45) (M 46) (M1 48) ∧ ∀ i, i < (M 32 15).toNat → FST (fun a => M1 48 a = 1 ∧ AP (M 46) (M 45) (M 44) a i) i (M1 50 i)) := by
  refine Ct.of (own := RX7) rfl (by decide +kernel) (Nat.le_of_ble_eq_true rfl) (fun X cx rt => ?_)
  refine aw_eq (loc2 := [(0, aR 32)]) ?_ rfl rfl rfl rfl
  refine aw_ok (fun om => ?_)
  have htn : 0 ≤ M 32 15 ∧ M 32 15 ≤ 12 := okF om (lb_32 tl) (j := 15) rfl (show (0 : Nat) ≠ 1 by decide)
  have hse : 0 ≤ M 32 11 ∧ M 32 11 ≤ 8 := okF om (lb_32 tl) (j := 11) rfl (show (0 : Nat) ≠ 1 by decide)
  have hno : 0 ≤ M 32 21 ∧ M 32 21 ≤ 255 := okF om (lb_32 tl) (j := 21) rfl (show (0 : Nat) ≠ 1 by decide)
  refine aw_iconst (n := 0) cx dX7_countsAll_0 (by decide) ?_
  refine aw_istore_n (loc2 := [(1, aI 0), (0, aR 32)]) cx dX7_countsAll_1 rfl (by decide) rfl ?_
  have lp2q : ∀ (fu : Nat) (x1q : Int) (N2q : Mem), (0 ≤ x1q ∧ x1q ≤ M 32 15) → (FR [48, 50] M N2q) → (CNT (M 32 20) x1q.toNat (M 32 11).toNat (KEN (M 32 21) (M 41)) (M 42) (M 43) (M 44) (M 45) (M 46) (N2q 48)) → (∀ i, i < x1q.toNat → FST (fun a => N2q 48 a = 1 ∧ AP (M 46) (M 45) (M 44) a i) i (N2q 50 i)) → ((M 32 15 - x1q).toNat) < fu → AW X (LB ++ tl) 3 2 [(0, aR 32), (1, aI x1q)] [] N2q := by
    intro fu
    induction fu with
    | zero =>
      intro x1q N2q h0q hf hc hg hm
      exact absurd hm (Nat.not_lt_zero _)
    | succ fu ih2q =>
      intro x1q N2q h0q hf hc hg hm
      have e15q := congrFun (hf 32 (by decide)) 15
      refine aw_iload_n cx dX7_countsAll_2 rfl 1 rfl ?_
      refine aw_aload_n cx dX7_countsAll_3 rfl 0 rfl ?_
      refine aw_getI cx dX7_countsAll_4 fl_X7_184 (lb_32 tl) rfl (fun z4q hz4q lo_z4q hi_z4q => ?_)
      refine aw_icmp_ge (tgt := 101) cx dX7_countsAll_7 (by decide) (fun c7q => ?_) (fun c7q => ?_)
      · refine aw_vret cx rt dX7_countsAll_101 ?_
        exact ⟨rfl, hf, by rw [show (M 32 15).toNat = x1q.toNat by omega]; exact hc, by rw [show (M 32 15).toNat = x1q.toNat by omega]; exact hg⟩
      · refine aw_aload_n cx dX7_countsAll_10 rfl 0 rfl ?_
        refine aw_getR (q := 50) cx dX7_countsAll_11 fl_X7_61 (lb_32 tl) rfl rfl ?_
        refine aw_iload_n cx dX7_countsAll_14 rfl 1 rfl ?_
        refine aw_iconst (n := (-1)) cx dX7_countsAll_15 (by decide) ?_
        refine aw_iast cx dX7_countsAll_16 (lb_50 tl) (⟨by omega, by omega⟩) (⟨by omega, by omega⟩) ?_
        obtain ⟨M_16q, hM_16q⟩ : ∃ qm, qm = up N2q (50) (Int.toNat (x1q)) ((-1)) := ⟨_, rfl⟩
        rw [← hM_16q]
        refine aw_iload_n cx dX7_countsAll_17 rfl 1 rfl ?_
        refine aw_iconst (n := 1) cx dX7_countsAll_18 (by decide) ?_
        refine aw_isub cx dX7_countsAll_19 (by omega) (fun z19q hz19q => ?_)
        refine aw_istore_n (loc2 := [(2, aI z19q), (0, aR 32), (1, aI x1q)]) cx dX7_countsAll_20 rfl (by decide) rfl ?_
        have lp21q : ∀ (fu : Nat) (x2q : Int) (N21q : Mem), (-1 ≤ x2q ∧ x2q < x1q) → (FR [48, 50] M N21q) → (N21q 48 = N2q 48) → (∀ i, i ≠ x1q.toNat → N21q 50 i = N2q 50 i) → (DWN (fun a => N2q 48 a = 1 ∧ AP (M 46) (M 45) (M 44) a x1q.toNat) x2q x1q (N21q 50 x1q.toNat)) → ((x2q + 1).toNat) < fu → AW X (LB ++ tl) 3 21 [(0, aR 32), (1, aI x1q), (2, aI x2q)] [] N21q := by
          intro fu
          induction fu with
          | zero =>
            intro x2q N21q h2q hf2 hC hA hD hm
            exact absurd hm (Nat.not_lt_zero _)
          | succ fu ih21q =>
            intro x2q N21q h2q hf2 hC hA hD hm
            refine aw_iload_n cx dX7_countsAll_21 rfl 2 rfl ?_
            refine aw_if_lt (tgt := 66) cx dX7_countsAll_22 (by decide) (fun c22q => ?_) (fun c22q => ?_)
            · refine aw_aload_n cx dX7_countsAll_66 rfl 0 rfl ?_
              refine aw_getR (q := 48) cx dX7_countsAll_67 fl_X7_55 (lb_32 tl) rfl rfl ?_
              refine aw_iload_n cx dX7_countsAll_70 rfl 1 rfl ?_
              refine aw_aload_n cx dX7_countsAll_71 rfl 0 rfl ?_
              refine aw_iload_n cx dX7_countsAll_72 rfl 1 rfl ?_
              refine aw_callV (as := [aI x1q]) (k := 32) (stk := [aI x1q, aR 48]) cx dX7_countsAll_73 ml_X7_203 mv_X7_isShaken rfl (lb_32 tl) (by decide) rfl rfl (Nat.le_of_ble_eq_true rfl) (ct_X7_isShaken tl N21q _ (by omega)) (fun rr73q M_73q hp73q => ?_)
              obtain ⟨rfl, z73q, rfl, h01z73q, hspz73q⟩ := hp73q
              refine aw_eq (stk2 := [aI z73q, aI x1q, aR 48]) ?_ rfl rfl rfl rfl
              have hS : z73q = 1 ↔ SHK (KEN (M 32 21) (M 41)) (M 42) (M 43) (M 44) (M 45) (M 46) (M 32 20) (M 32 11).toNat x1q := by
                have q := hspz73q
                rw [hf2 32 (by decide), hf2 41 (by decide), hf2 42 (by decide), hf2 43 (by decide), hf2 44 (by decide), hf2 45 (by decide), hf2 46 (by decide)] at q
                exact q
              have hF := DWN_e (show x2q = -1 by omega) h0q.1 hD
              have hO := FST_none hF
              refine aw_if_ne (tgt := 93) cx dX7_countsAll_76 (by decide) (fun c76q => ?_) (fun c76q => ?_)
              · refine aw_iconst (n := 0) cx dX7_countsAll_93 (by decide) ?_
                refine aw_iast cx dX7_countsAll_94 (lb_48 tl) (⟨by omega, by omega⟩) (⟨by omega, by omega⟩) ?_
                obtain ⟨M_94q, hM_94q⟩ : ∃ qm, qm = up N21q (48) (Int.toNat (x1q)) (0) := ⟨_, rfl⟩
                rw [← hM_94q]
                refine aw_iinc cx dX7_countsAll_95 1 rfl (by decide) (by omega) (fun z95q hz95q => ?_)
                refine aw_loc (loc2 := [(1, aI z95q), (0, aR 32), (2, aI x2q)]) rfl ?_
                refine aw_goto (tgt := 2) cx dX7_countsAll_98 (by decide) ?_
                refine aw_sub [1, 0] rfl ?_
                refine ih2q _ _  ?i_h0 ?i_hf ?i_hc ?i_hg ?i_m
                case i_h0 =>
                  omega
                case i_hf =>
                  exact hf2.put hM_94q (by decide)
                case i_hc =>
                  rw [hz95q, tn_s h0q.1]
                  refine CNT_s hc (fun i hi => by rw [hM_94q, up_nj (by omega), hC]) ?_
                  rw [up_eq hM_94q, show ((x1q.toNat : Nat) : Int) = x1q by omega]
                  exact ⟨fun h => absurd h (by decide), fun h => absurd (hS.mp (by omega)) (fun s => s.elim h.1 h.2.1)⟩
                case i_hg =>
                  intro i hi
                  have e48q : ∀ a, a < x1q.toNat → M_94q 48 a = N2q 48 a := fun a ha => by rw [hM_94q, up_nj (by omega), hC]
                  have e50q : M_94q 50 = N21q 50 := by rw [hM_94q, up_off (by decide)]
                  rw [e50q]
                  by_cases hq : i = x1q.toNat
                  · rw [hq]
                    exact FST_c (fun a ha => by rw [e48q a ha]) hF
                  · rw [hA i hq]
                    exact FST_c (fun a ha => by rw [e48q a (by omega)]) (hg i (by omega))
                case i_m =>
                  omega
              · refine aw_aload_n cx dX7_countsAll_79 rfl 0 rfl ?_
                refine aw_getR (q := 50) cx dX7_countsAll_80 fl_X7_61 (lb_32 tl) rfl rfl ?_
                refine aw_iload_n cx dX7_countsAll_83 rfl 1 rfl ?_
                refine aw_iald cx dX7_countsAll_84 (lb_50 tl) (⟨by omega, by omega⟩) (fun z84q hz84q lo_z84q hi_z84q => ?_)
                refine aw_iconst (n := (-1)) cx dX7_countsAll_85 (by decide) ?_
                refine aw_icmp_ne (tgt := 93) cx dX7_countsAll_86 (by decide) (fun c86q => ?_) (fun c86q => ?_)
                · refine aw_iconst (n := 0) cx dX7_countsAll_93 (by decide) ?_
                  refine aw_iast cx dX7_countsAll_94 (lb_48 tl) (⟨by omega, by omega⟩) (⟨by omega, by omega⟩) ?_
                  obtain ⟨M_94q, hM_94q⟩ : ∃ qm, qm = up N21q (48) (Int.toNat (x1q)) (0) := ⟨_, rfl⟩
                  rw [← hM_94q]
                  refine aw_iinc cx dX7_countsAll_95 1 rfl (by decide) (by omega) (fun z95q hz95q => ?_)
                  refine aw_loc (loc2 := [(1, aI z95q), (0, aR 32), (2, aI x2q)]) rfl ?_
                  refine aw_goto (tgt := 2) cx dX7_countsAll_98 (by decide) ?_
                  refine aw_sub [1, 0] rfl ?_
                  refine ih2q _ _  ?i_h0 ?i_hf ?i_hc ?i_hg ?i_m
                  case i_h0 =>
                    omega
                  case i_hf =>
                    exact hf2.put hM_94q (by decide)
                  case i_hc =>
                    rw [hz95q, tn_s h0q.1]
                    refine CNT_s hc (fun i hi => by rw [hM_94q, up_nj (by omega), hC]) ?_
                    rw [up_eq hM_94q, show ((x1q.toNat : Nat) : Int) = x1q by omega]
                    exact ⟨fun h => absurd h (by decide), fun h => absurd (hO.mpr h.2.2) (by omega)⟩
                  case i_hg =>
                    intro i hi
                    have e48q : ∀ a, a < x1q.toNat → M_94q 48 a = N2q 48 a := fun a ha => by rw [hM_94q, up_nj (by omega), hC]
                    have e50q : M_94q 50 = N21q 50 := by rw [hM_94q, up_off (by decide)]
                    rw [e50q]
                    by_cases hq : i = x1q.toNat
                    · rw [hq]
                      exact FST_c (fun a ha => by rw [e48q a ha]) hF
                    · rw [hA i hq]
                      exact FST_c (fun a ha => by rw [e48q a (by omega)]) (hg i (by omega))
                  case i_m =>
                    omega
                · refine aw_iconst (n := 1) cx dX7_countsAll_89 (by decide) ?_
                  refine aw_goto (tgt := 94) cx dX7_countsAll_90 (by decide) ?_
                  refine aw_iast cx dX7_countsAll_94 (lb_48 tl) (⟨by omega, by omega⟩) (⟨by omega, by omega⟩) ?_
                  obtain ⟨M_94q, hM_94q⟩ : ∃ qm, qm = up N21q (48) (Int.toNat (x1q)) (1) := ⟨_, rfl⟩
                  rw [← hM_94q]
                  refine aw_iinc cx dX7_countsAll_95 1 rfl (by decide) (by omega) (fun z95q hz95q => ?_)
                  refine aw_loc (loc2 := [(1, aI z95q), (0, aR 32), (2, aI x2q)]) rfl ?_
                  refine aw_goto (tgt := 2) cx dX7_countsAll_98 (by decide) ?_
                  refine aw_sub [1, 0] rfl ?_
                  refine ih2q _ _  ?i_h0 ?i_hf ?i_hc ?i_hg ?i_m
                  case i_h0 =>
                    omega
                  case i_hf =>
                    exact hf2.put hM_94q (by decide)
                  case i_hc =>
                    rw [hz95q, tn_s h0q.1]
                    refine CNT_s hc (fun i hi => by rw [hM_94q, up_nj (by omega), hC]) ?_
                    rw [up_eq hM_94q, show ((x1q.toNat : Nat) : Int) = x1q by omega]
                    exact ⟨fun _ => ⟨fun e => absurd (hS.mpr (Or.inl e)) (by omega), fun s => absurd (hS.mpr (Or.inr s)) (by omega), hO.mp (by omega)⟩, fun _ => rfl⟩
                  case i_hg =>
                    intro i hi
                    have e48q : ∀ a, a < x1q.toNat → M_94q 48 a = N2q 48 a := fun a ha => by rw [hM_94q, up_nj (by omega), hC]
                    have e50q : M_94q 50 = N21q 50 := by rw [hM_94q, up_off (by decide)]
                    rw [e50q]
                    by_cases hq : i = x1q.toNat
                    · rw [hq]
                      exact FST_c (fun a ha => by rw [e48q a ha]) hF
                    · rw [hA i hq]
                      exact FST_c (fun a ha => by rw [e48q a (by omega)]) (hg i (by omega))
                  case i_m =>
                    omega
            · refine aw_aload_n cx dX7_countsAll_25 rfl 0 rfl ?_
              refine aw_getR (q := 50) cx dX7_countsAll_26 fl_X7_61 (lb_32 tl) rfl rfl ?_
              refine aw_iload_n cx dX7_countsAll_29 rfl 1 rfl ?_
              refine aw_aload_n cx dX7_countsAll_30 rfl 0 rfl ?_
              refine aw_getR (q := 48) cx dX7_countsAll_31 fl_X7_55 (lb_32 tl) rfl rfl ?_
              refine aw_iload_n cx dX7_countsAll_34 rfl 2 rfl ?_
              refine aw_iald cx dX7_countsAll_35 (lb_48 tl) (⟨by omega, by omega⟩) (fun z35q hz35q lo_z35q hi_z35q => ?_)
              refine aw_iconst (n := 1) cx dX7_countsAll_36 (by decide) ?_
              refine aw_icmp_ne (tgt := 53) cx dX7_countsAll_37 (by decide) (fun c37q => ?_) (fun c37q => ?_)
              · refine aw_aload_n cx dX7_countsAll_53 rfl 0 rfl ?_
                refine aw_getR (q := 50) cx dX7_countsAll_54 fl_X7_61 (lb_32 tl) rfl rfl ?_
                refine aw_iload_n cx dX7_countsAll_57 rfl 1 rfl ?_
                refine aw_iald cx dX7_countsAll_58 (lb_50 tl) (⟨by omega, by omega⟩) (fun z58q hz58q lo_z58q hi_z58q => ?_)
                refine aw_iast cx dX7_countsAll_59 (lb_50 tl) (⟨by omega, by omega⟩) (⟨by omega, by omega⟩) ?_
                obtain ⟨M_59q, hM_59q⟩ : ∃ qm, qm = up N21q (50) (Int.toNat (x1q)) (z58q) := ⟨_, rfl⟩
                rw [← hM_59q]
                refine aw_iinc cx dX7_countsAll_60 2 rfl (by decide) (by omega) (fun z60q hz60q => ?_)
                refine aw_loc (loc2 := [(2, aI z60q), (0, aR 32), (1, aI x1q)]) rfl ?_
                refine aw_goto (tgt := 21) cx dX7_countsAll_63 (by decide) ?_
                refine aw_sub [1, 2, 0] rfl ?_
                refine ih21q _ _  ?i_h2 ?i_hf2 ?i_hC ?i_hA ?i_hD ?i_m
                case i_h2 =>
                  omega
                case i_hf2 =>
                  exact hf2.put hM_59q (by decide)
                case i_hC =>
                  rw [hM_59q, up_off (by decide)]; exact hC
                case i_hA =>
                  intro i hi; rw [hM_59q, up_nj hi]; exact hA i hi
                case i_hD =>
                  rw [up_eq hM_59q, hz60q, show x2q + -1 = x2q - 1 by omega, hz58q]; exact DWN_n (by omega) (fun p => by have p1 : N2q 48 x2q.toNat = 1 := p.1; rw [← hC, ← hz35q] at p1; omega) hD
                case i_m =>
                  omega
              · refine aw_aload_n cx dX7_countsAll_40 rfl 0 rfl ?_
                refine aw_iload_n cx dX7_countsAll_41 rfl 2 rfl ?_
                refine aw_iload_n cx dX7_countsAll_42 rfl 1 rfl ?_
                refine aw_callV (as := [aI x2q, aI x1q]) (k := 32) (stk := [aI x1q, aR 50]) cx dX7_countsAll_43 ml_X7_200 mv_X7_clashes rfl (lb_32 tl) (by decide) rfl rfl (Nat.le_of_ble_eq_true rfl) (ct_X7_clashes tl N21q _ _ (by omega) (by omega)) (fun rr43q M_43q hp43q => ?_)
                obtain ⟨rfl, rfl⟩ := hp43q
                refine aw_top (stk := [aI x1q, aR 50]) (fun z43q hz43q => ?_)
                refine aw_if_eq (tgt := 53) cx dX7_countsAll_46 (by decide) (fun c46q => ?_) (fun c46q => ?_)
                · have d46q := b2_e0.mp (hz43q.symm.trans c46q)
                  refine aw_aload_n cx dX7_countsAll_53 rfl 0 rfl ?_
                  refine aw_getR (q := 50) cx dX7_countsAll_54 fl_X7_61 (lb_32 tl) rfl rfl ?_
                  refine aw_iload_n cx dX7_countsAll_57 rfl 1 rfl ?_
                  refine aw_iald cx dX7_countsAll_58 (lb_50 tl) (⟨by omega, by omega⟩) (fun z58q hz58q lo_z58q hi_z58q => ?_)
                  refine aw_iast cx dX7_countsAll_59 (lb_50 tl) (⟨by omega, by omega⟩) (⟨by omega, by omega⟩) ?_
                  obtain ⟨M_59q, hM_59q⟩ : ∃ qm, qm = up N21q (50) (Int.toNat (x1q)) (z58q) := ⟨_, rfl⟩
                  rw [← hM_59q]
                  refine aw_iinc cx dX7_countsAll_60 2 rfl (by decide) (by omega) (fun z60q hz60q => ?_)
                  refine aw_loc (loc2 := [(2, aI z60q), (0, aR 32), (1, aI x1q)]) rfl ?_
                  refine aw_goto (tgt := 21) cx dX7_countsAll_63 (by decide) ?_
                  refine aw_sub [1, 2, 0] rfl ?_
                  refine ih21q _ _  ?i_h2 ?i_hf2 ?i_hC ?i_hA ?i_hD ?i_m
                  case i_h2 =>
                    omega
                  case i_hf2 =>
                    exact hf2.put hM_59q (by decide)
                  case i_hC =>
                    rw [hM_59q, up_off (by decide)]; exact hC
                  case i_hA =>
                    intro i hi; rw [hM_59q, up_nj hi]; exact hA i hi
                  case i_hD =>
                    rw [up_eq hM_59q, hz60q, show x2q + -1 = x2q - 1 by omega, hz58q]; exact DWN_n (by omega) (fun p => d46q (by rw [hf2 46 (by decide), hf2 45 (by decide), hf2 44 (by decide)]; exact p.2)) hD
                  case i_m =>
                    omega
                · have d46q := b2_y hz43q c46q
                  refine aw_iload_n cx dX7_countsAll_49 rfl 2 rfl ?_
                  refine aw_goto (tgt := 59) cx dX7_countsAll_50 (by decide) ?_
                  refine aw_iast cx dX7_countsAll_59 (lb_50 tl) (⟨by omega, by omega⟩) (⟨by omega, by omega⟩) ?_
                  obtain ⟨M_59q, hM_59q⟩ : ∃ qm, qm = up N21q (50) (Int.toNat (x1q)) (x2q) := ⟨_, rfl⟩
                  rw [← hM_59q]
                  refine aw_iinc cx dX7_countsAll_60 2 rfl (by decide) (by omega) (fun z60q hz60q => ?_)
                  refine aw_loc (loc2 := [(2, aI z60q), (0, aR 32), (1, aI x1q)]) rfl ?_
                  refine aw_goto (tgt := 21) cx dX7_countsAll_63 (by decide) ?_
                  refine aw_sub [1, 2, 0] rfl ?_
                  refine ih21q _ _  ?i_h2 ?i_hf2 ?i_hC ?i_hA ?i_hD ?i_m
                  case i_h2 =>
                    omega
                  case i_hf2 =>
                    exact hf2.put hM_59q (by decide)
                  case i_hC =>
                    rw [hM_59q, up_off (by decide)]; exact hC
                  case i_hA =>
                    intro i hi; rw [hM_59q, up_nj hi]; exact hA i hi
                  case i_hD =>
                    rw [up_eq hM_59q, hz60q, show x2q + -1 = x2q - 1 by omega]; exact DWN_y (y := 0) (by omega) (by omega) ⟨by rw [← hC, ← hz35q]; omega, by have q := d46q; rw [hf2 46 (by decide), hf2 45 (by decide), hf2 44 (by decide)] at q; exact q⟩
                  case i_m =>
                    omega
        refine aw_sub [1, 2, 0] rfl ?_
        refine lp21q _ _ _  ?i_h2 ?i_hf2 ?i_hC ?i_hA ?i_hD (Nat.lt_succ_self _)
        case i_h2 =>
          omega
        case i_hf2 =>
          exact hf.put hM_16q (by decide)
        case i_hC =>
          rw [hM_16q, up_off (by decide)]
        case i_hA =>
          intro i hi; rw [hM_16q, up_nj hi]
        case i_hD =>
          rw [up_eq hM_16q]; exact DWN_0 (by omega)
  refine aw_sub [1, 0] rfl ?_
  refine lp2q _ _ _  ?i_h0 ?i_hf ?i_hc ?i_hg (Nat.lt_succ_self _)
  case i_h0 =>
    omega
  case i_hf =>
    exact FR.rf
  case i_hc =>
    exact fun i h => absurd h (Nat.not_lt_zero i)
  case i_hg =>
    exact fun i h => absurd h (Nat.not_lt_zero i)
