set_option maxHeartbeats 1000000 in
set_option maxRecDepth 100000 in
theorem ct_X7_isSpared (tl : List CD) (M : Mem) (no : Int) (hno : 0 ≤ no ∧ no ≤ 255) : Ct 4 mX7_isSpared (LB ++ tl) [aR 32, aI no] M (fun r M1 => ∃ x, r = some (aI x) ∧ FX [48, 49, 50, 51, 52, 53] [21, 28] M M1 ∧ RUNS (up M 32 21 no) M1 ∧ (x = 0 ∨ x = 1) ∧ (x = 1 ↔ M1 32 28 = bShl 1 (M 32 7) - 1)) := by
  refine Ct.of (own := RX7) rfl (by decide +kernel) (Nat.le_of_ble_eq_true rfl) (fun X cx rt => ?_)
  refine aw_eq (loc2 := [(0, aR 32), (1, aI no)]) ?_ rfl rfl rfl rfl
  refine aw_rngL 1 rfl (fun rl_no rh_no => ?_)
  refine aw_ok (fun om => ?_)
  have hrc : 0 ≤ M 32 7 ∧ M 32 7 ≤ 8 := okF om (lb_32 tl) (j := 7) rfl (show (0 : Nat) ≠ 1 by decide)
  refine aw_aload_n cx dX7_isSpared_0 rfl 0 rfl ?_
  refine aw_iload_n cx dX7_isSpared_1 rfl 1 rfl ?_
  refine aw_putI cx dX7_isSpared_2 fl_X7_190 kt_X7 rfl rfl (lb_32 tl) rfl (⟨by omega, by omega⟩) ?_
  obtain ⟨M_2q, hM_2q⟩ : ∃ qm, qm = up M 32 21 no := ⟨_, rfl⟩
  rw [← hM_2q]
  refine aw_aload_n cx dX7_isSpared_5 rfl 0 rfl ?_
  refine aw_callV (as := []) (k := 32) (stk := []) cx dX7_isSpared_6 ml_X7_237 mv_X7_runs rfl (lb_32 tl) (by decide) rfl rfl (Nat.le_of_ble_eq_true rfl) (ct_X7_runs tl M_2q  ) (fun rr6q M_6q hp6q => ?_)
  obtain ⟨rfl, hfxM_6, hrnM_6⟩ := hp6q
  refine aw_eq (stk2 := []) ?_ rfl rfl rfl rfl
  have fxb : FX [48, 49, 50, 51, 52, 53] [21, 28] M M_6q := (FX.rf.put hM_2q (by decide)).tr hfxM_6 (by decide) (by decide)
  have f7 := fxb.fd 7 (by decide)
  have hbs := bShl_lt (k := M 32 7) (n := 9) (by omega) (by omega)
  refine aw_aload_n cx dX7_isSpared_9 rfl 0 rfl ?_
  refine aw_getI cx dX7_isSpared_10 fl_X7_228 (lb_32 tl) rfl (fun z10q hz10q lo_z10q hi_z10q => ?_)
  refine aw_iconst (n := 1) cx dX7_isSpared_13 (by decide) ?_
  refine aw_aload_n cx dX7_isSpared_14 rfl 0 rfl ?_
  refine aw_getI cx dX7_isSpared_15 fl_X7_138 (lb_32 tl) rfl (fun z15q hz15q lo_z15q hi_z15q => ?_)
  refine aw_ishl cx dX7_isSpared_18 (fun z18q hz18q => ?_)
  refine aw_iconst (n := 1) cx dX7_isSpared_19 (by decide) ?_
  have g15 : z18q = bShl 1 (M 32 7) := by rw [hz18q, hz15q, f7]
  refine aw_isub cx dX7_isSpared_20 (by omega) (fun z20q hz20q => ?_)
  refine aw_icmp_ne (tgt := 28) cx dX7_isSpared_21 (by decide) (fun c21q => ?_) (fun c21q => ?_)
  · refine aw_iconst (n := 0) cx dX7_isSpared_28 (by decide) ?_
    refine aw_zret cx rt dX7_isSpared_29 (by decide) ?_
    rw [hM_2q] at hrnM_6
    exact ⟨_, rfl, fxb, hrnM_6, by omega, by omega⟩
  · refine aw_iconst (n := 1) cx dX7_isSpared_24 (by decide) ?_
    refine aw_goto (tgt := 29) cx dX7_isSpared_25 (by decide) ?_
    refine aw_zret cx rt dX7_isSpared_29 (by decide) ?_
    rw [hM_2q] at hrnM_6
    exact ⟨_, rfl, fxb, hrnM_6, by omega, by omega⟩
set_option maxHeartbeats 1000000 in
set_option maxRecDepth 100000 in
theorem ct_X7_spareBy (tl : List CD) (M : Mem)  (hj : JQ M) : Ct 7 mX7_spareBy (LB ++ tl) [aR 32] M (fun r M1 => ∃ x, r = some (aI x) ∧ FX RC RF M M1 ∧ RD M1 ∧ SPW (fgT M) (qgT M) M1 x ∧ -1 ≤ x ∧ x ≤ 2) := by
  refine Ct.of (own := RX7) rfl (by decide +kernel) (Nat.le_of_ble_eq_true rfl) (fun X cx rt => ?_)
  refine aw_eq (loc2 := [(0, aR 32)]) ?_ rfl rfl rfl rfl
  refine aw_ok (fun om => ?_)
  have hcz : 0 ≤ M 15 2 ∧ M 15 2 ≤ 8 := okF om (lb_15 tl) (j := 2) rfl (show (0 : Nat) ≠ 1 by decide)
  have hse : 0 ≤ M 18 3 ∧ M 18 3 ≤ 8 := okF om (lb_18 tl) (j := 3) rfl (show (0 : Nat) ≠ 1 by decide)
  refine aw_aload_n cx dX7_spareBy_0 rfl 0 rfl ?_
  refine aw_callV (as := []) (k := 32) (stk := []) cx dX7_spareBy_1 ml_X7_234 mv_X7_asTold rfl (lb_32 tl) (by decide) rfl rfl (Nat.le_of_ble_eq_true rfl) (ct_X7_asTold tl M  (hj)) (fun rr1q M_1q hp1q => ?_)
  obtain ⟨rfl, hfxM_1, hrdM_1, hnwM_1⟩ := hp1q
  refine aw_eq (stk2 := []) ?_ rfl rfl rfl rfl
  have hnx := NWX_of hnwM_1
  have e11q : M_1q 32 11 = M 18 3 := by rw [hfxM_1.fd 11 (by decide)]; exact hj.2.1.1
  refine aw_ok (fun omk => ?_)
  have h44k : ∀ j, 0 ≤ M_1q 44 j := fun j => (okA omk (lb_44 tl) j).1
  have h7k : 0 ≤ M_1q 32 7 ∧ M_1q 32 7 ≤ 8 := okF omk (lb_32 tl) (j := 7) rfl (show (0 : Nat) ≠ 1 by decide)
  refine aw_aload_n cx dX7_spareBy_4 rfl 0 rfl ?_
  refine aw_iconst (n := 0) cx dX7_spareBy_5 (by decide) ?_
  refine aw_callV (as := [aI 0]) (k := 32) (stk := []) cx dX7_spareBy_6 ml_X7_305 mv_X7_isSpared rfl (lb_32 tl) (by decide) rfl rfl (Nat.le_of_ble_eq_true rfl) (ct_X7_isSpared tl M_1q _ (by omega)) (fun rr6q M_6q hp6q => ?_)
  obtain ⟨z6q, rfl, hfxM_6, hrnM_6, h01M_6, hspM_6⟩ := hp6q
  refine aw_eq (stk2 := [aI z6q]) ?_ rfl rfl rfl rfl
  have hR6 := no_rnf (K' := gK (fgT M)) hj ((hfxM_1.mono (by decide) (by decide)).tr (FX.rf (cs := []) (fs := [])) (by decide) (by decide)) (RD_fx hrdM_1 (FX.rf (cs := []) (fs := [])) (by decide)) (NWX_fx hnx (FX.rf (cs := []) (fs := [])) (by decide)) h44k h7k.2 (fun e _ => by rw [KEN_0]; rfl) hrnM_6
  have hA6 : z6q = 1 ↔ ALC (setK (fgT M) (gK (fgT M))) (qgT M) := hspM_6.trans (no_alc (RD_fx hrdM_1 (FX.rf (cs := []) (fs := [])) (by decide)) ((hfxM_1.mono (by decide) (by decide)).tr (FX.rf (cs := []) (fs := [])) (by decide) (by decide)) (by omega) hR6)
  have f6 : FX [48, 49, 50, 51, 52, 53, 56] [21, 28] M_1q M_6q := hfxM_6.mono (by decide) (by decide)
  refine aw_if_eq (tgt := 14) cx dX7_spareBy_9 (by decide) (fun c9q => ?_) (fun c9q => ?_)
  · refine aw_iconst (n := 0) cx dX7_spareBy_14 (by decide) ?_
    refine aw_istore_n (loc2 := [(1, aI 0), (0, aR 32)]) cx dX7_spareBy_15 rfl (by decide) rfl ?_
    have lp16q : ∀ (fu : Nat) (x1q : Int) (N16q : Mem), (0 ≤ x1q ∧ x1q ≤ M 18 3) → (FX [48, 49, 50, 51, 52, 53, 56] [21, 28] M_1q N16q) → (∀ j, j < x1q.toNat → ¬ sp1 (fgT M) (qgT M) j) → ((M 18 3 - x1q).toNat) < fu → AW X (LB ++ tl) 3 16 [(0, aR 32), (1, aI x1q)] [] N16q := by
      intro fu
      induction fu with
      | zero =>
        intro x1q N16q h0q hf hno hm
        exact absurd hm (Nat.not_lt_zero _)
      | succ fu ih16q =>
        intro x1q N16q h0q hf hno hm
        have e11b := hf.fd 11 (by decide)
        refine aw_iload_n cx dX7_spareBy_16 rfl 1 rfl ?_
        refine aw_aload_n cx dX7_spareBy_17 rfl 0 rfl ?_
        refine aw_getI cx dX7_spareBy_18 fl_X7_171 (lb_32 tl) rfl (fun z18q hz18q lo_z18q hi_z18q => ?_)
        refine aw_icmp_ge (tgt := 49) cx dX7_spareBy_21 (by decide) (fun c21q => ?_) (fun c21q => ?_)
        · have hall : ∀ j, j < gm (fgT M) → ¬ sp1 (fgT M) (qgT M) j := fun j hj => hno j (show j < x1q.toNat by have q : j < (M 18 3).toNat := hj; omega)
          refine aw_iconst (n := 0) cx dX7_spareBy_49 (by decide) ?_
          refine aw_istore_n (loc2 := [(1, aI 0), (0, aR 32)]) cx dX7_spareBy_50 rfl (by decide) rfl ?_
          have lp51q : ∀ (fu : Nat) (x1q : Int) (N51q : Mem), (0 ≤ x1q ∧ x1q ≤ M 18 3) → (FX [48, 49, 50, 51, 52, 53, 56] [21, 28] M_1q N51q) → (∀ i j, i < j → j < (M 18 3).toNat → i < x1q.toNat → ¬ sp2 (fgT M) (qgT M) i j) → ((M 18 3 - x1q).toNat) < fu → AW X (LB ++ tl) 3 51 [(0, aR 32), (1, aI x1q)] [] N51q := by
            intro fu
            induction fu with
            | zero =>
              intro x1q N51q a0 af an hm
              exact absurd hm (Nat.not_lt_zero _)
            | succ fu ih51q =>
              intro x1q N51q a0 af an hm
              have e11c := af.fd 11 (by decide)
              refine aw_iload_n cx dX7_spareBy_51 rfl 1 rfl ?_
              refine aw_aload_n cx dX7_spareBy_52 rfl 0 rfl ?_
              refine aw_getI cx dX7_spareBy_53 fl_X7_171 (lb_32 tl) rfl (fun z53q hz53q lo_z53q hi_z53q => ?_)
              refine aw_icmp_ge (tgt := 113) cx dX7_spareBy_56 (by decide) (fun c56q => ?_) (fun c56q => ?_)
              · refine aw_iconst (n := (-1)) cx dX7_spareBy_113 (by decide) ?_
                refine aw_iret cx rt dX7_spareBy_114 ?_
                exact ⟨-1, rfl, (hfxM_1.mono (by decide) (by decide)).tr af (by decide) (by decide), RD_fx hrdM_1 af (by decide), ⟨-1, -1, Or.inr ⟨fun q => absurd (hA6.mpr q) (by omega), Or.inr ⟨hall, Or.inr ⟨fun i j h1q h2q => an i j h1q h2q (by have q : j < (M 18 3).toNat := h2q; omega), rfl, rfl, rfl⟩⟩⟩, fun q => absurd q (by decide), fun q => absurd q (by decide)⟩, by decide, by decide⟩
              · refine aw_iload_n cx dX7_spareBy_59 rfl 1 rfl ?_
                refine aw_iconst (n := 1) cx dX7_spareBy_60 (by decide) ?_
                refine aw_iadd cx dX7_spareBy_61 (by omega) (fun z61q hz61q => ?_)
                refine aw_istore_n (loc2 := [(2, aI z61q), (0, aR 32), (1, aI x1q)]) cx dX7_spareBy_62 rfl (by decide) rfl ?_
                have lp63q : ∀ (fu : Nat) (x2q : Int) (N63q : Mem), (x1q < x2q ∧ x2q ≤ M 18 3) → (FX [48, 49, 50, 51, 52, 53, 56] [21, 28] M_1q N63q) → (∀ j, x1q.toNat < j → j < x2q.toNat → ¬ sp2 (fgT M) (qgT M) x1q.toNat j) → ((M 18 3 - x2q).toNat) < fu → AW X (LB ++ tl) 3 63 [(0, aR 32), (1, aI x1q), (2, aI x2q)] [] N63q := by
                  intro fu
                  induction fu with
                  | zero =>
                    intro x2q N63q p0 pf pn hm
                    exact absurd hm (Nat.not_lt_zero _)
                  | succ fu ih63q =>
                    intro x2q N63q p0 pf pn hm
                    have e11d := pf.fd 11 (by decide)
                    refine aw_iload_n cx dX7_spareBy_63 rfl 2 rfl ?_
                    refine aw_aload_n cx dX7_spareBy_64 rfl 0 rfl ?_
                    refine aw_getI cx dX7_spareBy_65 fl_X7_171 (lb_32 tl) rfl (fun z65q hz65q lo_z65q hi_z65q => ?_)
                    refine aw_icmp_ge (tgt := 107) cx dX7_spareBy_68 (by decide) (fun c68q => ?_) (fun c68q => ?_)
                    · refine aw_iinc cx dX7_spareBy_107 1 rfl (by decide) (by omega) (fun z107q hz107q => ?_)
                      refine aw_loc (loc2 := [(1, aI z107q), (0, aR 32), (2, aI x2q)]) rfl ?_
                      refine aw_goto (tgt := 51) cx dX7_spareBy_110 (by decide) ?_
                      refine aw_sub [1, 0] rfl ?_
                      refine ih51q _ _  ?i_a0 ?i_af ?i_an ?i_m
                      case i_a0 =>
                        omega
                      case i_af =>
                        exact pf
                      case i_an =>
                        intro i j h1q h2q h3q
                        by_cases q : i = x1q.toNat
                        · rw [q]; rw [q] at h1q; exact pn j h1q (by omega)
                        · exact an i j h1q h2q (by omega)
                      case i_m =>
                        omega
                    · refine aw_aload_n cx dX7_spareBy_71 rfl 0 rfl ?_
                      refine aw_getR (q := 56) cx dX7_spareBy_72 fl_X7_79 (lb_32 tl) rfl rfl ?_
                      refine aw_iconst (n := 0) cx dX7_spareBy_75 (by decide) ?_
                      refine aw_iload_n cx dX7_spareBy_76 rfl 1 rfl ?_
                      refine aw_iast cx dX7_spareBy_77 (lb_56 tl) (⟨by omega, by omega⟩) (⟨by omega, by omega⟩) ?_
                      obtain ⟨M_77q, hM_77q⟩ : ∃ qm, qm = up N63q (56) (Int.toNat (0)) (x1q) := ⟨_, rfl⟩
                      rw [← hM_77q]
                      refine aw_aload_n cx dX7_spareBy_78 rfl 0 rfl ?_
                      refine aw_getR (q := 56) cx dX7_spareBy_79 fl_X7_79 (lb_32 tl) rfl rfl ?_
                      refine aw_iconst (n := 1) cx dX7_spareBy_82 (by decide) ?_
                      refine aw_iload_n cx dX7_spareBy_83 rfl 2 rfl ?_
                      refine aw_iast cx dX7_spareBy_84 (lb_56 tl) (⟨by omega, by omega⟩) (⟨by omega, by omega⟩) ?_
                      obtain ⟨M_84q, hM_84q⟩ : ∃ qm, qm = up M_77q (56) (Int.toNat (1)) (x2q) := ⟨_, rfl⟩
                      rw [← hM_84q]
                      refine aw_ok (fun omk => ?_)
                      have h44k : ∀ j, 0 ≤ M_84q 44 j := fun j => (okA omk (lb_44 tl) j).1
                      have h7k : 0 ≤ M_84q 32 7 ∧ M_84q 32 7 ≤ 8 := okF omk (lb_32 tl) (j := 7) rfl (show (0 : Nat) ≠ 1 by decide)
                      refine aw_aload_n cx dX7_spareBy_85 rfl 0 rfl ?_
                      refine aw_iconst (n := 1) cx dX7_spareBy_86 (by decide) ?_
                      refine aw_iload_n cx dX7_spareBy_87 rfl 1 rfl ?_
                      refine aw_ishl cx dX7_spareBy_88 (fun z88q hz88q => ?_)
                      refine aw_iconst (n := 1) cx dX7_spareBy_89 (by decide) ?_
                      refine aw_iload_n cx dX7_spareBy_90 rfl 2 rfl ?_
                      refine aw_ishl cx dX7_spareBy_91 (fun z91q hz91q => ?_)
                      refine aw_ior cx dX7_spareBy_92 (fun z92q hz92q => ?_)
                      refine aw_callV (as := [aI z92q]) (k := 32) (stk := []) cx dX7_spareBy_93 ml_X7_305 mv_X7_isSpared rfl (lb_32 tl) (by decide) rfl rfl (Nat.le_of_ble_eq_true rfl) (ct_X7_isSpared tl M_84q _ (by have q1q := bShl_lt (k := x1q) (n := 8) (by omega) (by omega); have q2q := bShl_lt (k := x2q) (n := 8) (by omega) (by omega); have q3q := bOr_lt (n := 8) (by omega) q1q q2q; rw [hz92q, hz88q, hz91q]; omega)) (fun rr93q M_93q hp93q => ?_)
                      obtain ⟨z93q, rfl, hfxM_93, hrnM_93, h01M_93, hspM_93⟩ := hp93q
                      refine aw_eq (stk2 := [aI z93q]) ?_ rfl rfl rfl rfl
                      have fxa : FX [48, 49, 50, 51, 52, 53, 56] [21, 28] M_1q M_84q := (pf.pc hM_77q (by decide)).pc hM_84q (by decide)
                      rw [hz92q, hz88q, hz91q] at hrnM_93
                      have hR93 := no_rnf (K' := up1 (up1 (gK (fgT M)) x1q.toNat (-1)) x2q.toNat (-1)) hj ((hfxM_1.mono (by decide) (by decide)).tr fxa (by decide) (by decide)) (RD_fx hrdM_1 fxa (by decide)) (NWX_fx hnx fxa (by decide)) h44k h7k.2 (fun e _ => KEN_2 (by omega) (by omega)) hrnM_93
                      have hA93 : z93q = 1 ↔ ALC (setK (fgT M) (up1 (up1 (gK (fgT M)) x1q.toNat (-1)) x2q.toNat (-1))) (qgT M) := hspM_93.trans (no_alc (RD_fx hrdM_1 fxa (by decide)) ((hfxM_1.mono (by decide) (by decide)).tr fxa (by decide) (by decide)) (by omega) hR93)
                      have fxb : FX [48, 49, 50, 51, 52, 53, 56] [21, 28] M_1q M_93q := fxa.tr hfxM_93 (by decide) (by decide)
                      refine aw_if_eq (tgt := 101) cx dX7_spareBy_96 (by decide) (fun c96q => ?_) (fun c96q => ?_)
                      · refine aw_iinc cx dX7_spareBy_101 2 rfl (by decide) (by omega) (fun z101q hz101q => ?_)
                        refine aw_loc (loc2 := [(2, aI z101q), (0, aR 32), (1, aI x1q)]) rfl ?_
                        refine aw_goto (tgt := 63) cx dX7_spareBy_104 (by decide) ?_
                        refine aw_sub [1, 2, 0] rfl ?_
                        refine ih63q _ _  ?i_p0 ?i_pf ?i_pn ?i_m
                        case i_p0 =>
                          omega
                        case i_pf =>
                          exact fxb
                        case i_pn =>
                          intro j h1q h2q
                          by_cases q : j = x2q.toNat
                          · rw [q]; exact fun w => absurd (hA93.mpr w) (by omega)
                          · exact pn j h1q (by omega)
                        case i_m =>
                          omega
                      · refine aw_iconst (n := 2) cx dX7_spareBy_99 (by decide) ?_
                        refine aw_iret cx rt dX7_spareBy_100 ?_
                        refine ⟨2, rfl, (hfxM_1.mono (by decide) (by decide)).tr fxb (by decide) (by decide), RD_fx hrdM_1 fxb (by decide), ⟨x1q, x2q, Or.inr ⟨fun q => absurd (hA6.mpr q) (by omega), Or.inr ⟨hall, Or.inl ⟨x1q.toNat, x2q.toNat, by omega, show x2q.toNat < (M 18 3).toNat by omega, hA93.mp (by omega), ?_, rfl, by omega, by omega⟩⟩⟩, fun _ => ?_, fun _ => ?_⟩, by decide, by decide⟩
                        · intro i j h1q h2q h3q
                          rcases h3q with h3q | ⟨h3q, h4q⟩
                          · exact an i j h1q h2q h3q
                          · rw [h3q]; rw [h3q] at h1q; exact pn j h1q h4q
                        · rw [hfxM_93.at 56 (by decide), up_ne hM_84q (Or.inr (by decide))]; exact up_eq hM_77q
                        · rw [hfxM_93.at 56 (by decide)]; exact up_eq hM_84q
                refine aw_sub [1, 2, 0] rfl ?_
                refine lp63q _ _ _  ?i_p0 ?i_pf ?i_pn (Nat.lt_succ_self _)
                case i_p0 =>
                  omega
                case i_pf =>
                  exact af
                case i_pn =>
                  intro j h1q h2q; omega
          refine aw_sub [1, 0] rfl ?_
          refine lp51q _ _ _  ?i_a0 ?i_af ?i_an (Nat.lt_succ_self _)
          case i_a0 =>
            omega
          case i_af =>
            exact hf
          case i_an =>
            exact fun i j _ _ h => absurd h (Nat.not_lt_zero i)
        · refine aw_ok (fun omk => ?_)
          have h44k : ∀ j, 0 ≤ N16q 44 j := fun j => (okA omk (lb_44 tl) j).1
          have h7k : 0 ≤ N16q 32 7 ∧ N16q 32 7 ≤ 8 := okF omk (lb_32 tl) (j := 7) rfl (show (0 : Nat) ≠ 1 by decide)
          refine aw_aload_n cx dX7_spareBy_24 rfl 0 rfl ?_
          refine aw_getR (q := 56) cx dX7_spareBy_25 fl_X7_79 (lb_32 tl) rfl rfl ?_
          refine aw_iconst (n := 0) cx dX7_spareBy_28 (by decide) ?_
          refine aw_iload_n cx dX7_spareBy_29 rfl 1 rfl ?_
          refine aw_iast cx dX7_spareBy_30 (lb_56 tl) (⟨by omega, by omega⟩) (⟨by omega, by omega⟩) ?_
          obtain ⟨M_30q, hM_30q⟩ : ∃ qm, qm = up N16q (56) (Int.toNat (0)) (x1q) := ⟨_, rfl⟩
          rw [← hM_30q]
          refine aw_ok (fun omk => ?_)
          have h44k : ∀ j, 0 ≤ M_30q 44 j := fun j => (okA omk (lb_44 tl) j).1
          have h7k : 0 ≤ M_30q 32 7 ∧ M_30q 32 7 ≤ 8 := okF omk (lb_32 tl) (j := 7) rfl (show (0 : Nat) ≠ 1 by decide)
          refine aw_aload_n cx dX7_spareBy_31 rfl 0 rfl ?_
          refine aw_iconst (n := 1) cx dX7_spareBy_32 (by decide) ?_
          refine aw_iload_n cx dX7_spareBy_33 rfl 1 rfl ?_
          refine aw_ishl cx dX7_spareBy_34 (fun z34q hz34q => ?_)
          refine aw_callV (as := [aI z34q]) (k := 32) (stk := []) cx dX7_spareBy_35 ml_X7_305 mv_X7_isSpared rfl (lb_32 tl) (by decide) rfl rfl (Nat.le_of_ble_eq_true rfl) (ct_X7_isSpared tl M_30q _ (by have q := bShl_lt (k := x1q) (n := 8) (by omega) (by omega); rw [hz34q]; omega)) (fun rr35q M_35q hp35q => ?_)
          obtain ⟨z35q, rfl, hfxM_35, hrnM_35, h01M_35, hspM_35⟩ := hp35q
          refine aw_eq (stk2 := [aI z35q]) ?_ rfl rfl rfl rfl
          have fxa : FX [48, 49, 50, 51, 52, 53, 56] [21, 28] M_1q M_30q := hf.pc hM_30q (by decide)
          rw [hz34q] at hrnM_35
          have hR35 := no_rnf (K' := up1 (gK (fgT M)) x1q.toNat (-1)) hj ((hfxM_1.mono (by decide) (by decide)).tr fxa (by decide) (by decide)) (RD_fx hrdM_1 fxa (by decide)) (NWX_fx hnx fxa (by decide)) h44k h7k.2 (fun e _ => KEN_1 (by omega)) hrnM_35
          have hA35 : z35q = 1 ↔ ALC (setK (fgT M) (up1 (gK (fgT M)) x1q.toNat (-1))) (qgT M) := hspM_35.trans (no_alc (RD_fx hrdM_1 fxa (by decide)) ((hfxM_1.mono (by decide) (by decide)).tr fxa (by decide) (by decide)) (by omega) hR35)
          have fxb : FX [48, 49, 50, 51, 52, 53, 56] [21, 28] M_1q M_35q := fxa.tr hfxM_35 (by decide) (by decide)
          refine aw_if_eq (tgt := 43) cx dX7_spareBy_38 (by decide) (fun c38q => ?_) (fun c38q => ?_)
          · refine aw_iinc cx dX7_spareBy_43 1 rfl (by decide) (by omega) (fun z43q hz43q => ?_)
            refine aw_loc (loc2 := [(1, aI z43q), (0, aR 32)]) rfl ?_
            refine aw_goto (tgt := 16) cx dX7_spareBy_46 (by decide) ?_
            refine aw_sub [1, 0] rfl ?_
            refine ih16q _ _  ?i_h0 ?i_hf ?i_hno ?i_m
            case i_h0 =>
              omega
            case i_hf =>
              exact fxb
            case i_hno =>
              rw [hz43q]; exact all_s h0q.1 hno (fun q => absurd (hA35.mpr q) (by omega))
            case i_m =>
              omega
          · refine aw_iconst (n := 1) cx dX7_spareBy_41 (by decide) ?_
            refine aw_iret cx rt dX7_spareBy_42 ?_
            refine ⟨1, rfl, (hfxM_1.mono (by decide) (by decide)).tr fxb (by decide) (by decide), RD_fx hrdM_1 fxb (by decide), ⟨x1q, -1, Or.inr ⟨fun q => absurd (hA6.mpr q) (by omega), Or.inl ⟨x1q.toNat, show x1q.toNat < (M 18 3).toNat by omega, hA35.mp (by omega), hno, rfl, by omega, rfl⟩⟩, fun _ => ?_, fun q => absurd q (by decide)⟩, by decide, by decide⟩
            rw [hfxM_35.at 56 (by decide)]; exact up_eq hM_30q
    refine aw_sub [1, 0] rfl ?_
    refine lp16q _ _ _  ?i_h0 ?i_hf ?i_hno (Nat.lt_succ_self _)
    case i_h0 =>
      omega
    case i_hf =>
      exact f6
    case i_hno =>
      exact all_0
  · refine aw_iconst (n := 0) cx dX7_spareBy_12 (by decide) ?_
    refine aw_iret cx rt dX7_spareBy_13 ?_
    exact ⟨0, rfl, (hfxM_1.mono (by decide) (by decide)).tr f6 (by decide) (by decide), RD_fx hrdM_1 f6 (by decide), ⟨-1, -1, Or.inl ⟨hA6.mp (by omega), rfl, rfl, rfl⟩, fun q => absurd q (by decide), fun q => absurd q (by decide)⟩, by decide, by decide⟩
set_option maxHeartbeats 1000000 in
set_option maxRecDepth 100000 in
theorem ct_X7_ofRow (tl : List CD) (M : Mem) (n i : Int) (hn : -1 ≤ n ∧ n ≤ 2) (hi : -1 ≤ i ∧ i ≤ 1) : Ct 0 mX7_ofRow (LB ++ tl) [aR 32, aI n, aI i] M (fun r M1 => M = M1 ∧ ∃ x, r = some (aI x) ∧ ((i = -1 ∧ x = n) ∨ (i ≠ -1 ∧ i < n ∧ x = M 56 i.toNat) ∨ (i ≠ -1 ∧ n ≤ i ∧ x = -1))) := by
  refine Ct.of (own := RX7) rfl (by decide +kernel) (Nat.le_of_ble_eq_true rfl) (fun X cx rt => ?_)
  refine aw_eq (loc2 := [(0, aR 32), (1, aI n), (2, aI i)]) ?_ rfl rfl rfl rfl
  refine aw_rngL 1 rfl (fun rl_n rh_n => ?_)
  refine aw_rngL 2 rfl (fun rl_i rh_i => ?_)
  refine aw_iload_n cx dX7_ofRow_0 rfl 2 rfl ?_
  refine aw_iconst (n := (-1)) cx dX7_ofRow_1 (by decide) ?_
  refine aw_icmp_ne (tgt := 9) cx dX7_ofRow_2 (by decide) (fun c2q => ?_) (fun c2q => ?_)
  · refine aw_iload_n cx dX7_ofRow_9 rfl 2 rfl ?_
    refine aw_iload_n cx dX7_ofRow_10 rfl 1 rfl ?_
    refine aw_icmp_ge (tgt := 23) cx dX7_ofRow_11 (by decide) (fun c11q => ?_) (fun c11q => ?_)
    · refine aw_iconst (n := (-1)) cx dX7_ofRow_23 (by decide) ?_
      refine aw_iret cx rt dX7_ofRow_24 ?_
      exact ⟨rfl, _, rfl, by omega⟩
    · refine aw_aload_n cx dX7_ofRow_14 rfl 0 rfl ?_
      refine aw_getR (q := 56) cx dX7_ofRow_15 fl_X7_79 (lb_32 tl) rfl rfl ?_
      refine aw_iload_n cx dX7_ofRow_18 rfl 2 rfl ?_
      refine aw_iald cx dX7_ofRow_19 (lb_56 tl) (⟨by omega, by omega⟩) (fun z19q hz19q lo_z19q hi_z19q => ?_)
      refine aw_goto (tgt := 24) cx dX7_ofRow_20 (by decide) ?_
      refine aw_iret cx rt dX7_ofRow_24 ?_
      exact ⟨rfl, _, rfl, by omega⟩
  · refine aw_iload_n cx dX7_ofRow_5 rfl 1 rfl ?_
    refine aw_goto (tgt := 24) cx dX7_ofRow_6 (by decide) ?_
    refine aw_iret cx rt dX7_ofRow_24 ?_
    exact ⟨rfl, _, rfl, by omega⟩
set_option maxHeartbeats 1000000 in
set_option maxRecDepth 100000 in
theorem ct_X7_spare (tl : List CD) (M : Mem) (i : Int) (hj : JQ M) : Ct 8 mX7_spare (LB ++ tl) [aR 32, aI i] M (fun r M1 => ∃ x, r = some (aI x) ∧ FX RC RF M M1 ∧ (aSpare (fgT M) (qgT M) i x)) := by
  refine Ct.of (own := RX7) rfl (by decide +kernel) (Nat.le_of_ble_eq_true rfl) (fun X cx rt => ?_)
  refine aw_eq (loc2 := [(0, aR 32), (1, aI i)]) ?_ rfl rfl rfl rfl
  refine aw_rngL 1 rfl (fun rl_i rh_i => ?_)
  refine aw_iload_n cx dX7_spare_0 rfl 1 rfl ?_
  refine aw_iconst (n := (-1)) cx dX7_spare_1 (by decide) ?_
  refine aw_iconst (n := 1) cx dX7_spare_2 (by decide) ?_
  refine aw_callS (as := [aI i, aI ((-1)), aI 1]) (stk := []) cx dX7_spare_3 ml_X7_113 ms_X7_in (by decide) rfl rfl (Nat.le_of_ble_eq_true rfl) (ct_X7_in tl M _ _ _ ) (fun rr3q M_3q hp3q => ?_)
  obtain ⟨rfl, rfl⟩ := hp3q
  refine aw_top (stk := []) (fun z3q hz3q => ?_)
  refine aw_if_eq (tgt := 21) cx dX7_spare_6 (by decide) (fun c6q => ?_) (fun c6q => ?_)
  · have d6q := b2_e0.mp (hz3q.symm.trans c6q)
    refine aw_bipush (n := (-2)) cx dX7_spare_21 (by decide) ?_
    refine aw_iret cx rt dX7_spare_23 ?_
    first | exact ⟨_, rfl, hfxM_11, SPW_row hanM_11 (by omega) horz15⟩ | exact ⟨_, rfl, FX.rf, Or.inl ⟨by omega, rfl⟩⟩
  · have d6q := b2_y hz3q c6q
    refine aw_aload_n cx dX7_spare_9 rfl 0 rfl ?_
    refine aw_aload_n cx dX7_spare_10 rfl 0 rfl ?_
    refine aw_callV (as := []) (k := 32) (stk := [aR 32]) cx dX7_spare_11 ml_X7_308 mv_X7_spareBy rfl (lb_32 tl) (by decide) rfl rfl (Nat.le_of_ble_eq_true rfl) (ct_X7_spareBy tl M  (hj)) (fun rr11q M_11q hp11q => ?_)
    obtain ⟨z11q, rfl, hfxM_11, hrdM_11, hanM_11, loM_11, hiM_11⟩ := hp11q
    refine aw_eq (stk2 := [aI z11q, aR 32]) ?_ rfl rfl rfl rfl
    refine aw_iload_n cx dX7_spare_14 rfl 1 rfl ?_
    refine aw_callV (as := [aI z11q, aI i]) (k := 32) (stk := []) cx dX7_spare_15 ml_X7_311 mv_X7_ofRow rfl (lb_32 tl) (by decide) rfl rfl (Nat.le_of_ble_eq_true rfl) (ct_X7_ofRow tl M_11q _ _ (by omega) (by omega)) (fun rr15q M_15q hp15q => ?_)
    obtain ⟨rfl, z15q, rfl, horz15⟩ := hp15q
    refine aw_eq (stk2 := [aI z15q]) ?_ rfl rfl rfl rfl
    refine aw_goto (tgt := 23) cx dX7_spare_18 (by decide) ?_
    refine aw_iret cx rt dX7_spare_23 ?_
    first | exact ⟨_, rfl, hfxM_11, SPW_row hanM_11 (by omega) horz15⟩ | exact ⟨_, rfl, FX.rf, Or.inl ⟨by omega, rfl⟩⟩
set_option maxHeartbeats 1000000 in
set_option maxRecDepth 100000 in
theorem ct_X7_cleanOf (tl : List CD) (M : Mem) (what : Int) (hj : JQ M) (hw : 0 ≤ what ∧ what ≤ 1) : Ct 7 mX7_cleanOf (LB ++ tl) [aR 32, aI what] M (fun r M1 => ∃ x, r = some (aI x) ∧ FX RC RF M M1 ∧ RD M1 ∧ (aClean (M 5 4).toNat (M 8) (M 7) (M 6) what x)) := by
  refine Ct.of (own := RX7) rfl (by decide +kernel) (Nat.le_of_ble_eq_true rfl) (fun X cx rt => ?_)
  refine aw_eq (loc2 := [(0, aR 32), (1, aI what)]) ?_ rfl rfl rfl rfl
  refine aw_rngL 1 rfl (fun rl_what rh_what => ?_)
  refine aw_ok (fun om => ?_)
  have hsz : 0 ≤ M 5 4 ∧ M 5 4 ≤ 12 := okF om (lb_5 tl) (j := 4) rfl (show (0 : Nat) ≠ 1 by decide)
  have hp2q : (2 : Nat) ^ (M 5 4).toNat ≤ 2 ^ 12 := Nat.pow_le_pow_right (by omega) (by omega)
  have hp1q := Nat.two_pow_pos (M 5 4).toNat
  have hsh := bShl_1 (k := M 5 4) (by omega)
  refine aw_aload_n cx dX7_cleanOf_0 rfl 0 rfl ?_
  refine aw_callV (as := []) (k := 32) (stk := []) cx dX7_cleanOf_1 ml_X7_234 mv_X7_asTold rfl (lb_32 tl) (by decide) rfl rfl (Nat.le_of_ble_eq_true rfl) (ct_X7_asTold tl M  (hj)) (fun rr1q M_1q hp1q => ?_)
  obtain ⟨rfl, hfxM_1, hrdM_1, hnwM_1⟩ := hp1q
  refine aw_eq (stk2 := []) ?_ rfl rfl rfl rfl
  obtain ⟨n1, n2, n3, n4⟩ := hnwM_1
  have er2 : M_1q 32 2 = M 5 4 := by rw [hrdM_1.1, hfxM_1.at 5 (by decide)]
  refine aw_iconst (n := 0) cx dX7_cleanOf_4 (by decide) ?_
  refine aw_istore_n (loc2 := [(2, aI 0), (0, aR 32), (1, aI what)]) cx dX7_cleanOf_5 rfl (by decide) rfl ?_
  have lp6q : ∀ (fu : Nat) (x2q : Int) (N6q : Mem), (0 ≤ x2q ∧ x2q ≤ M 5 4) → (FR [55] M_1q N6q) → (∀ a, a < x2q.toNat → BTS (fun i => i ≠ a ∧ AP (M 8) (M 7) (M 6) i a) (M 5 4).toNat (N6q 55 a)) → ((M 5 4 - x2q).toNat) < fu → AW X (LB ++ tl) 7 6 [(0, aR 32), (1, aI what), (2, aI x2q)] [] N6q := by
    intro fu
    induction fu with
    | zero =>
      intro x2q N6q h0q hf hc hm
      exact absurd hm (Nat.not_lt_zero _)
    | succ fu ih6q =>
      intro x2q N6q h0q hf hc hm
      have e2q := congrFun (hf 32 (by decide)) 2
      refine aw_iload_n cx dX7_cleanOf_6 rfl 2 rfl ?_
      refine aw_aload_n cx dX7_cleanOf_7 rfl 0 rfl ?_
      refine aw_getI cx dX7_cleanOf_8 fl_X7_135 (lb_32 tl) rfl (fun z8q hz8q lo_z8q hi_z8q => ?_)
      refine aw_icmp_ge (tgt := 73) cx dX7_cleanOf_11 (by decide) (fun c11q => ?_) (fun c11q => ?_)
      · have hc2 : ∀ a, a < (M 5 4).toNat → BTS (fun i => i ≠ a ∧ AP (M 8) (M 7) (M 6) i a) (M 5 4).toNat (N6q 55 a) := fun a ha => hc a (by omega)
        refine aw_iconst (n := 0) cx dX7_cleanOf_73 (by decide) ?_
        refine aw_istore_n (loc2 := [(2, aI 0), (0, aR 32), (1, aI what)]) cx dX7_cleanOf_74 rfl (by decide) rfl ?_
        refine aw_iconst (n := 0) cx dX7_cleanOf_75 (by decide) ?_
        refine aw_istore_n (loc2 := [(3, aI 0), (2, aI 0), (0, aR 32), (1, aI what)]) cx dX7_cleanOf_76 rfl (by decide) rfl ?_
        refine aw_iconst (n := 0) cx dX7_cleanOf_77 (by decide) ?_
        refine aw_istore (loc2 := [(4, aI 0), (3, aI 0), (2, aI 0), (0, aR 32), (1, aI what)]) cx dX7_cleanOf_78 (by decide) rfl ?_
        have lp80q : ∀ (fu : Nat) (x2q : Int) (x3q : Int) (x4q : Int), (0 ≤ x4q ∧ x4q ≤ ((2 ^ (M 5 4).toNat : Nat) : Int)) → (CLX (IND (M 5 4).toNat (M 8) (M 7) (M 6)) x4q x2q) → (x3q = PCN x2q) → ((((2 ^ (M 5 4).toNat : Nat) : Int) - x4q).toNat) < fu → AW X (LB ++ tl) 7 80 [(0, aR 32), (1, aI what), (2, aI x2q), (3, aI x3q), (4, aI x4q)] [] N6q := by
          intro fu
          induction fu with
          | zero =>
            intro x2q x3q x4q s0q sc sq hm
            exact absurd hm (Nat.not_lt_zero _)
          | succ fu ih80q =>
            intro x2q x3q x4q s0q sc sq hm
            have hci := CLX_in sc
            refine aw_iload cx dX7_cleanOf_80 4 rfl ?_
            refine aw_iconst (n := 1) cx dX7_cleanOf_82 (by decide) ?_
            refine aw_aload_n cx dX7_cleanOf_83 rfl 0 rfl ?_
            refine aw_getI cx dX7_cleanOf_84 fl_X7_135 (lb_32 tl) rfl (fun z84q hz84q lo_z84q hi_z84q => ?_)
            refine aw_ishl cx dX7_cleanOf_87 (fun z87q hz87q => ?_)
            have hlim : z87q = ((2 ^ (M 5 4).toNat : Nat) : Int) := by rw [hz87q, show z84q = M 5 4 by omega]; exact hsh
            refine aw_icmp_ge (tgt := 193) cx dX7_cleanOf_88 (by decide) (fun c88q => ?_) (fun c88q => ?_)
            · refine aw_iload_n cx dX7_cleanOf_193 rfl 1 rfl ?_
              refine aw_if_ne (tgt := 201) cx dX7_cleanOf_194 (by decide) (fun c194q => ?_) (fun c194q => ?_)
              · refine aw_iload_n cx dX7_cleanOf_201 rfl 2 rfl ?_
                refine aw_iret cx rt dX7_cleanOf_202 ?_
                refine ⟨_, rfl, (hfxM_1.mono (by decide) (by decide)).tr (FX.of (fs := []) hf) (by decide) (by decide), RD_fx hrdM_1 (FX.of (fs := []) hf) (by decide), Or.inr ⟨x2q, ?_, Or.inr ⟨by omega, rfl⟩⟩⟩
                rcases sc with q | q
                · omega
                · rw [show x4q = ((2 ^ (M 5 4).toNat : Nat) : Int) by omega] at q; exact q.2
              · refine aw_iload_n cx dX7_cleanOf_197 rfl 3 rfl ?_
                refine aw_goto (tgt := 202) cx dX7_cleanOf_198 (by decide) ?_
                refine aw_iret cx rt dX7_cleanOf_202 ?_
                refine ⟨_, rfl, (hfxM_1.mono (by decide) (by decide)).tr (FX.of (fs := []) hf) (by decide) (by decide), RD_fx hrdM_1 (FX.of (fs := []) hf) (by decide), Or.inr ⟨x2q, ?_, Or.inl ⟨by omega, sq⟩⟩⟩
                rcases sc with q | q
                · omega
                · rw [show x4q = ((2 ^ (M 5 4).toNat : Nat) : Int) by omega] at q; exact q.2
            · refine aw_iload cx dX7_cleanOf_91 4 rfl ?_
              refine aw_callS (as := [aI x4q]) (stk := []) cx dX7_cleanOf_93 ml_X7_259 ms_X7_many (by decide) rfl rfl (Nat.le_of_ble_eq_true rfl) (ct_X7_many tl N6q _ (by omega)) (fun rr93q M_93q hp93q => ?_)
              obtain ⟨rfl, rfl⟩ := hp93q
              refine aw_top (stk := []) (fun z93q hz93q => ?_)
              have hrz93q : 0 ≤ z93q ∧ z93q ≤ 12 := by rw [hz93q]; exact PCN_in _
              refine aw_iload_n cx dX7_cleanOf_96 rfl 3 rfl ?_
              refine aw_icmp_le (tgt := 104) cx dX7_cleanOf_97 (by decide) (fun c97q => ?_) (fun c97q => ?_)
              · refine aw_iconst (n := 0) cx dX7_cleanOf_104 (by decide) ?_
                refine aw_istore (loc2 := [(5, aI 0), (0, aR 32), (1, aI what), (2, aI x2q), (3, aI x3q), (4, aI x4q)]) cx dX7_cleanOf_105 (by decide) rfl ?_
                refine aw_iconst (n := 0) cx dX7_cleanOf_107 (by decide) ?_
                refine aw_istore (loc2 := [(6, aI 0), (5, aI 0), (0, aR 32), (1, aI what), (2, aI x2q), (3, aI x3q), (4, aI x4q)]) cx dX7_cleanOf_108 (by decide) rfl ?_
                have lp110q : ∀ (fu : Nat) (x5q : Int) (x6q : Int), (0 ≤ x6q ∧ x6q ≤ M 5 4) → (x5q = 0 ∨ x5q = 1) → (x5q = 1 ↔ (PCN x2q < PCN x4q ∧ IDK (M 5 4).toNat (M 8) (M 7) (M 6) x4q x6q.toNat)) → ((M 5 4 - x6q).toNat) < fu → AW X (LB ++ tl) 7 110 [(0, aR 32), (1, aI what), (2, aI x2q), (3, aI x3q), (4, aI x4q), (5, aI x5q), (6, aI x6q)] [] N6q := by
                  intro fu
                  induction fu with
                  | zero =>
                    intro x5q x6q t0 t01 tx hm
                    exact absurd hm (Nat.not_lt_zero _)
                  | succ fu ih110q =>
                    intro x5q x6q t0 t01 tx hm
                    refine aw_iload cx dX7_cleanOf_110 6 rfl ?_
                    refine aw_aload_n cx dX7_cleanOf_112 rfl 0 rfl ?_
                    refine aw_getI cx dX7_cleanOf_113 fl_X7_135 (lb_32 tl) rfl (fun z113q hz113q lo_z113q hi_z113q => ?_)
                    refine aw_icmp_ge (tgt := 160) cx dX7_cleanOf_116 (by decide) (fun c116q => ?_) (fun c116q => ?_)
                    · refine aw_iload cx dX7_cleanOf_160 5 rfl ?_
                      refine aw_if_eq (tgt := 170) cx dX7_cleanOf_162 (by decide) (fun c162q => ?_) (fun c162q => ?_)
                      · refine aw_iload_n cx dX7_cleanOf_170 rfl 2 rfl ?_
                        refine aw_istore_n (loc2 := [(2, aI x2q), (0, aR 32), (1, aI what), (3, aI x3q), (4, aI x4q), (5, aI x5q), (6, aI x6q)]) cx dX7_cleanOf_171 rfl (by decide) rfl ?_
                        refine aw_iload cx dX7_cleanOf_172 5 rfl ?_
                        refine aw_if_eq (tgt := 185) cx dX7_cleanOf_174 (by decide) (fun c174q => ?_) (fun c174q => ?_)
                        · refine aw_iload_n cx dX7_cleanOf_185 rfl 3 rfl ?_
                          refine aw_istore_n (loc2 := [(3, aI x3q), (2, aI x2q), (0, aR 32), (1, aI what), (4, aI x4q), (5, aI x5q), (6, aI x6q)]) cx dX7_cleanOf_186 rfl (by decide) rfl ?_
                          refine aw_iinc cx dX7_cleanOf_187 4 rfl (by decide) (by omega) (fun z187q hz187q => ?_)
                          refine aw_loc (loc2 := [(4, aI z187q), (3, aI x3q), (2, aI x2q), (0, aR 32), (1, aI what), (5, aI x5q), (6, aI x6q)]) rfl ?_
                          refine aw_goto (tgt := 80) cx dX7_cleanOf_190 (by decide) ?_
                          refine aw_sub [3, 4, 2, 1, 0] rfl ?_
                          refine ih80q _ _ _  ?i_s0 ?i_sc ?i_sq ?i_m
                          case i_s0 =>
                            omega
                          case i_sc =>
                            rw [hz187q]
                            refine CLX_n sc (fun q => absurd (tx.mpr ⟨q.1, ?_⟩) (by omega))
                            exact IDK_le (IDK_e.mpr q.2) (by omega)
                          case i_sq =>
                            omega
                          case i_m =>
                            omega
                        · exfalso
                          omega
                      · refine aw_iload cx dX7_cleanOf_165 4 rfl ?_
                        refine aw_goto (tgt := 171) cx dX7_cleanOf_167 (by decide) ?_
                        refine aw_istore_n (loc2 := [(2, aI x4q), (0, aR 32), (1, aI what), (3, aI x3q), (4, aI x4q), (5, aI x5q), (6, aI x6q)]) cx dX7_cleanOf_171 rfl (by decide) rfl ?_
                        refine aw_iload cx dX7_cleanOf_172 5 rfl ?_
                        refine aw_if_eq (tgt := 185) cx dX7_cleanOf_174 (by decide) (fun c174q => ?_) (fun c174q => ?_)
                        · exfalso
                          omega
                        · refine aw_iload cx dX7_cleanOf_177 4 rfl ?_
                          refine aw_callS (as := [aI x4q]) (stk := []) cx dX7_cleanOf_179 ml_X7_259 ms_X7_many (by decide) rfl rfl (Nat.le_of_ble_eq_true rfl) (ct_X7_many tl N6q _ (by omega)) (fun rr179q M_179q hp179q => ?_)
                          obtain ⟨rfl, rfl⟩ := hp179q
                          refine aw_top (stk := []) (fun z179q hz179q => ?_)
                          have hrz179q : 0 ≤ z179q ∧ z179q ≤ 12 := by rw [hz179q]; exact PCN_in _
                          refine aw_goto (tgt := 186) cx dX7_cleanOf_182 (by decide) ?_
                          refine aw_istore_n (loc2 := [(3, aI z179q), (2, aI x4q), (0, aR 32), (1, aI what), (4, aI x4q), (5, aI x5q), (6, aI x6q)]) cx dX7_cleanOf_186 rfl (by decide) rfl ?_
                          refine aw_iinc cx dX7_cleanOf_187 4 rfl (by decide) (by omega) (fun z187q hz187q => ?_)
                          refine aw_loc (loc2 := [(4, aI z187q), (3, aI z179q), (2, aI x4q), (0, aR 32), (1, aI what), (5, aI x5q), (6, aI x6q)]) rfl ?_
                          refine aw_goto (tgt := 80) cx dX7_cleanOf_190 (by decide) ?_
                          refine aw_sub [3, 4, 2, 1, 0] rfl ?_
                          refine ih80q _ _ _  ?i_s0 ?i_sc ?i_sq ?i_m
                          case i_s0 =>
                            omega
                          case i_sc =>
                            rw [hz187q]
                            have t1 := tx.mp (by omega)
                            refine CLX_y sc t1.1 (IDK_e.mp ?_)
                            rw [show (M 5 4).toNat = x6q.toNat by omega]; exact (show x6q.toNat = (M 5 4).toNat by omega) ▸ t1.2
                          case i_sq =>
                            exact hz179q
                          case i_m =>
                            omega
                    · refine aw_iload cx dX7_cleanOf_119 5 rfl ?_
                      refine aw_if_eq (tgt := 160) cx dX7_cleanOf_121 (by decide) (fun c121q => ?_) (fun c121q => ?_)
                      · refine aw_iload cx dX7_cleanOf_160 5 rfl ?_
                        refine aw_if_eq (tgt := 170) cx dX7_cleanOf_162 (by decide) (fun c162q => ?_) (fun c162q => ?_)
                        · refine aw_iload_n cx dX7_cleanOf_170 rfl 2 rfl ?_
                          refine aw_istore_n (loc2 := [(2, aI x2q), (0, aR 32), (1, aI what), (3, aI x3q), (4, aI x4q), (5, aI x5q), (6, aI x6q)]) cx dX7_cleanOf_171 rfl (by decide) rfl ?_
                          refine aw_iload cx dX7_cleanOf_172 5 rfl ?_
                          refine aw_if_eq (tgt := 185) cx dX7_cleanOf_174 (by decide) (fun c174q => ?_) (fun c174q => ?_)
                          · refine aw_iload_n cx dX7_cleanOf_185 rfl 3 rfl ?_
                            refine aw_istore_n (loc2 := [(3, aI x3q), (2, aI x2q), (0, aR 32), (1, aI what), (4, aI x4q), (5, aI x5q), (6, aI x6q)]) cx dX7_cleanOf_186 rfl (by decide) rfl ?_
                            refine aw_iinc cx dX7_cleanOf_187 4 rfl (by decide) (by omega) (fun z187q hz187q => ?_)
                            refine aw_loc (loc2 := [(4, aI z187q), (3, aI x3q), (2, aI x2q), (0, aR 32), (1, aI what), (5, aI x5q), (6, aI x6q)]) rfl ?_
                            refine aw_goto (tgt := 80) cx dX7_cleanOf_190 (by decide) ?_
                            refine aw_sub [3, 4, 2, 1, 0] rfl ?_
                            refine ih80q _ _ _  ?i_s0 ?i_sc ?i_sq ?i_m
                            case i_s0 =>
                              omega
                            case i_sc =>
                              rw [hz187q]
                              refine CLX_n sc (fun q => absurd (tx.mpr ⟨q.1, ?_⟩) (by omega))
                              exact IDK_le (IDK_e.mpr q.2) (by omega)
                            case i_sq =>
                              omega
                            case i_m =>
                              omega
                          · exfalso
                            omega
                        · exfalso
                          omega
                      · refine aw_iload cx dX7_cleanOf_124 4 rfl ?_
                        refine aw_iload cx dX7_cleanOf_126 6 rfl ?_
                        refine aw_callS (as := [aI x4q, aI x6q]) (stk := []) cx dX7_cleanOf_128 ml_X7_196 ms_X7_isIn (by decide) rfl rfl (Nat.le_of_ble_eq_true rfl) (ct_X7_isIn tl N6q _ _ (by omega) (by omega)) (fun rr128q M_128q hp128q => ?_)
                        obtain ⟨rfl, rfl⟩ := hp128q
                        refine aw_top (stk := []) (fun z128q hz128q => ?_)
                        refine aw_if_eq (tgt := 147) cx dX7_cleanOf_131 (by decide) (fun c131q => ?_) (fun c131q => ?_)
                        · have d131q := b2_e0.mp (hz128q.symm.trans c131q)
                          refine aw_iconst (n := 1) cx dX7_cleanOf_147 (by decide) ?_
                          refine aw_goto (tgt := 152) cx dX7_cleanOf_148 (by decide) ?_
                          refine aw_istore (loc2 := [(5, aI 1), (0, aR 32), (1, aI what), (2, aI x2q), (3, aI x3q), (4, aI x4q), (6, aI x6q)]) cx dX7_cleanOf_152 (by decide) rfl ?_
                          refine aw_iinc cx dX7_cleanOf_154 6 rfl (by decide) (by omega) (fun z154q hz154q => ?_)
                          refine aw_loc (loc2 := [(6, aI z154q), (5, aI 1), (0, aR 32), (1, aI what), (2, aI x2q), (3, aI x3q), (4, aI x4q)]) rfl ?_
                          refine aw_goto (tgt := 110) cx dX7_cleanOf_157 (by decide) ?_
                          refine aw_sub [2, 3, 4, 5, 6, 1, 0] rfl ?_
                          refine ih110q _ _  ?i_t0 ?i_t01 ?i_tx ?i_m
                          case i_t0 =>
                            omega
                          case i_t01 =>
                            omega
                          case i_tx =>
                            have t1 := tx.mp (by omega)
                            rw [hz154q, IDK_s t0.1]
                            first
                            | exact ⟨fun _ => ⟨t1.1, t1.2, fun q => absurd q d131q⟩, fun _ => rfl⟩
                            | exact ⟨fun _ => ⟨t1.1, t1.2, fun _ => hz0q.mp (by rw [← hz143q]; omega)⟩, fun _ => rfl⟩
                            | exact ⟨fun q => absurd q (by decide), fun q => absurd (hz0q.mpr (q.2.2 d131q)) (by rw [← hz143q]; omega)⟩
                          case i_m =>
                            omega
                        · have d131q := b2_y hz128q c131q
                          refine aw_iload cx dX7_cleanOf_134 4 rfl ?_
                          refine aw_aload_n cx dX7_cleanOf_136 rfl 0 rfl ?_
                          refine aw_getR (q := 55) cx dX7_cleanOf_137 fl_X7_76 (lb_32 tl) rfl rfl ?_
                          refine aw_iload cx dX7_cleanOf_140 6 rfl ?_
                          refine aw_iald cx dX7_cleanOf_142 (lb_55 tl) (⟨by omega, by omega⟩) (fun z142q hz142q lo_z142q hi_z142q => ?_)
                          refine aw_iand cx dX7_cleanOf_143 (fun z143q hz143q => ?_)
                          have hz0q : bAnd x4q z142q = 0 ↔ ∀ j, j < (M 5 4).toNat → ¬ (BT x4q j ∧ j ≠ x6q.toNat ∧ AP (M 8) (M 7) (M 6) j x6q.toNat) := and0_e (P := (fun i => i ≠ x6q.toNat ∧ AP (M 8) (M 7) (M 6) i x6q.toNat)) (by omega) (by omega) (by rw [hz142q]; exact hc2 x6q.toNat (by omega))
                          refine aw_if_ne (tgt := 151) cx dX7_cleanOf_144 (by decide) (fun c144q => ?_) (fun c144q => ?_)
                          · refine aw_iconst (n := 0) cx dX7_cleanOf_151 (by decide) ?_
                            refine aw_istore (loc2 := [(5, aI 0), (0, aR 32), (1, aI what), (2, aI x2q), (3, aI x3q), (4, aI x4q), (6, aI x6q)]) cx dX7_cleanOf_152 (by decide) rfl ?_
                            refine aw_iinc cx dX7_cleanOf_154 6 rfl (by decide) (by omega) (fun z154q hz154q => ?_)
                            refine aw_loc (loc2 := [(6, aI z154q), (5, aI 0), (0, aR 32), (1, aI what), (2, aI x2q), (3, aI x3q), (4, aI x4q)]) rfl ?_
                            refine aw_goto (tgt := 110) cx dX7_cleanOf_157 (by decide) ?_
                            refine aw_sub [2, 3, 4, 5, 6, 1, 0] rfl ?_
                            refine ih110q _ _  ?i_t0 ?i_t01 ?i_tx ?i_m
                            case i_t0 =>
                              omega
                            case i_t01 =>
                              omega
                            case i_tx =>
                              have t1 := tx.mp (by omega)
                              rw [hz154q, IDK_s t0.1]
                              first
                              | exact ⟨fun _ => ⟨t1.1, t1.2, fun q => absurd q d131q⟩, fun _ => rfl⟩
                              | exact ⟨fun _ => ⟨t1.1, t1.2, fun _ => hz0q.mp (by rw [← hz143q]; omega)⟩, fun _ => rfl⟩
                              | exact ⟨fun q => absurd q (by decide), fun q => absurd (hz0q.mpr (q.2.2 d131q)) (by rw [← hz143q]; omega)⟩
                            case i_m =>
                              omega
                          · refine aw_iconst (n := 1) cx dX7_cleanOf_147 (by decide) ?_
                            refine aw_goto (tgt := 152) cx dX7_cleanOf_148 (by decide) ?_
                            refine aw_istore (loc2 := [(5, aI 1), (0, aR 32), (1, aI what), (2, aI x2q), (3, aI x3q), (4, aI x4q), (6, aI x6q)]) cx dX7_cleanOf_152 (by decide) rfl ?_
                            refine aw_iinc cx dX7_cleanOf_154 6 rfl (by decide) (by omega) (fun z154q hz154q => ?_)
                            refine aw_loc (loc2 := [(6, aI z154q), (5, aI 1), (0, aR 32), (1, aI what), (2, aI x2q), (3, aI x3q), (4, aI x4q)]) rfl ?_
                            refine aw_goto (tgt := 110) cx dX7_cleanOf_157 (by decide) ?_
                            refine aw_sub [2, 3, 4, 5, 6, 1, 0] rfl ?_
                            refine ih110q _ _  ?i_t0 ?i_t01 ?i_tx ?i_m
                            case i_t0 =>
                              omega
                            case i_t01 =>
                              omega
                            case i_tx =>
                              have t1 := tx.mp (by omega)
                              rw [hz154q, IDK_s t0.1]
                              first
                              | exact ⟨fun _ => ⟨t1.1, t1.2, fun q => absurd q d131q⟩, fun _ => rfl⟩
                              | exact ⟨fun _ => ⟨t1.1, t1.2, fun _ => hz0q.mp (by rw [← hz143q]; omega)⟩, fun _ => rfl⟩
                              | exact ⟨fun q => absurd q (by decide), fun q => absurd (hz0q.mpr (q.2.2 d131q)) (by rw [← hz143q]; omega)⟩
                            case i_m =>
                              omega
                refine aw_sub [2, 3, 4, 5, 6, 1, 0] rfl ?_
                refine lp110q _ _ _  ?i_t0 ?i_t01 ?i_tx (Nat.lt_succ_self _)
                case i_t0 =>
                  omega
                case i_t01 =>
                  omega
                case i_tx =>
                  exact ⟨fun q => absurd q (by decide), fun q => absurd q.1 (by omega)⟩
              · refine aw_iconst (n := 1) cx dX7_cleanOf_100 (by decide) ?_
                refine aw_goto (tgt := 105) cx dX7_cleanOf_101 (by decide) ?_
                refine aw_istore (loc2 := [(5, aI 1), (0, aR 32), (1, aI what), (2, aI x2q), (3, aI x3q), (4, aI x4q)]) cx dX7_cleanOf_105 (by decide) rfl ?_
                refine aw_iconst (n := 0) cx dX7_cleanOf_107 (by decide) ?_
                refine aw_istore (loc2 := [(6, aI 0), (5, aI 1), (0, aR 32), (1, aI what), (2, aI x2q), (3, aI x3q), (4, aI x4q)]) cx dX7_cleanOf_108 (by decide) rfl ?_
                have lp110q : ∀ (fu : Nat) (x5q : Int) (x6q : Int), (0 ≤ x6q ∧ x6q ≤ M 5 4) → (x5q = 0 ∨ x5q = 1) → (x5q = 1 ↔ (PCN x2q < PCN x4q ∧ IDK (M 5 4).toNat (M 8) (M 7) (M 6) x4q x6q.toNat)) → ((M 5 4 - x6q).toNat) < fu → AW X (LB ++ tl) 7 110 [(0, aR 32), (1, aI what), (2, aI x2q), (3, aI x3q), (4, aI x4q), (5, aI x5q), (6, aI x6q)] [] N6q := by
                  intro fu
                  induction fu with
                  | zero =>
                    intro x5q x6q t0 t01 tx hm
                    exact absurd hm (Nat.not_lt_zero _)
                  | succ fu ih110q =>
                    intro x5q x6q t0 t01 tx hm
                    refine aw_iload cx dX7_cleanOf_110 6 rfl ?_
                    refine aw_aload_n cx dX7_cleanOf_112 rfl 0 rfl ?_
                    refine aw_getI cx dX7_cleanOf_113 fl_X7_135 (lb_32 tl) rfl (fun z113q hz113q lo_z113q hi_z113q => ?_)
                    refine aw_icmp_ge (tgt := 160) cx dX7_cleanOf_116 (by decide) (fun c116q => ?_) (fun c116q => ?_)
                    · refine aw_iload cx dX7_cleanOf_160 5 rfl ?_
                      refine aw_if_eq (tgt := 170) cx dX7_cleanOf_162 (by decide) (fun c162q => ?_) (fun c162q => ?_)
                      · refine aw_iload_n cx dX7_cleanOf_170 rfl 2 rfl ?_
                        refine aw_istore_n (loc2 := [(2, aI x2q), (0, aR 32), (1, aI what), (3, aI x3q), (4, aI x4q), (5, aI x5q), (6, aI x6q)]) cx dX7_cleanOf_171 rfl (by decide) rfl ?_
                        refine aw_iload cx dX7_cleanOf_172 5 rfl ?_
                        refine aw_if_eq (tgt := 185) cx dX7_cleanOf_174 (by decide) (fun c174q => ?_) (fun c174q => ?_)
                        · refine aw_iload_n cx dX7_cleanOf_185 rfl 3 rfl ?_
                          refine aw_istore_n (loc2 := [(3, aI x3q), (2, aI x2q), (0, aR 32), (1, aI what), (4, aI x4q), (5, aI x5q), (6, aI x6q)]) cx dX7_cleanOf_186 rfl (by decide) rfl ?_
                          refine aw_iinc cx dX7_cleanOf_187 4 rfl (by decide) (by omega) (fun z187q hz187q => ?_)
                          refine aw_loc (loc2 := [(4, aI z187q), (3, aI x3q), (2, aI x2q), (0, aR 32), (1, aI what), (5, aI x5q), (6, aI x6q)]) rfl ?_
                          refine aw_goto (tgt := 80) cx dX7_cleanOf_190 (by decide) ?_
                          refine aw_sub [3, 4, 2, 1, 0] rfl ?_
                          refine ih80q _ _ _  ?i_s0 ?i_sc ?i_sq ?i_m
                          case i_s0 =>
                            omega
                          case i_sc =>
                            rw [hz187q]
                            refine CLX_n sc (fun q => absurd (tx.mpr ⟨q.1, ?_⟩) (by omega))
                            exact IDK_le (IDK_e.mpr q.2) (by omega)
                          case i_sq =>
                            omega
                          case i_m =>
                            omega
                        · exfalso
                          omega
                      · refine aw_iload cx dX7_cleanOf_165 4 rfl ?_
                        refine aw_goto (tgt := 171) cx dX7_cleanOf_167 (by decide) ?_
                        refine aw_istore_n (loc2 := [(2, aI x4q), (0, aR 32), (1, aI what), (3, aI x3q), (4, aI x4q), (5, aI x5q), (6, aI x6q)]) cx dX7_cleanOf_171 rfl (by decide) rfl ?_
                        refine aw_iload cx dX7_cleanOf_172 5 rfl ?_
                        refine aw_if_eq (tgt := 185) cx dX7_cleanOf_174 (by decide) (fun c174q => ?_) (fun c174q => ?_)
                        · exfalso
                          omega
                        · refine aw_iload cx dX7_cleanOf_177 4 rfl ?_
                          refine aw_callS (as := [aI x4q]) (stk := []) cx dX7_cleanOf_179 ml_X7_259 ms_X7_many (by decide) rfl rfl (Nat.le_of_ble_eq_true rfl) (ct_X7_many tl N6q _ (by omega)) (fun rr179q M_179q hp179q => ?_)
                          obtain ⟨rfl, rfl⟩ := hp179q
                          refine aw_top (stk := []) (fun z179q hz179q => ?_)
                          have hrz179q : 0 ≤ z179q ∧ z179q ≤ 12 := by rw [hz179q]; exact PCN_in _
                          refine aw_goto (tgt := 186) cx dX7_cleanOf_182 (by decide) ?_
                          refine aw_istore_n (loc2 := [(3, aI z179q), (2, aI x4q), (0, aR 32), (1, aI what), (4, aI x4q), (5, aI x5q), (6, aI x6q)]) cx dX7_cleanOf_186 rfl (by decide) rfl ?_
                          refine aw_iinc cx dX7_cleanOf_187 4 rfl (by decide) (by omega) (fun z187q hz187q => ?_)
                          refine aw_loc (loc2 := [(4, aI z187q), (3, aI z179q), (2, aI x4q), (0, aR 32), (1, aI what), (5, aI x5q), (6, aI x6q)]) rfl ?_
                          refine aw_goto (tgt := 80) cx dX7_cleanOf_190 (by decide) ?_
                          refine aw_sub [3, 4, 2, 1, 0] rfl ?_
                          refine ih80q _ _ _  ?i_s0 ?i_sc ?i_sq ?i_m
                          case i_s0 =>
                            omega
                          case i_sc =>
                            rw [hz187q]
                            have t1 := tx.mp (by omega)
                            refine CLX_y sc t1.1 (IDK_e.mp ?_)
                            rw [show (M 5 4).toNat = x6q.toNat by omega]; exact (show x6q.toNat = (M 5 4).toNat by omega) ▸ t1.2
                          case i_sq =>
                            exact hz179q
                          case i_m =>
                            omega
                    · refine aw_iload cx dX7_cleanOf_119 5 rfl ?_
                      refine aw_if_eq (tgt := 160) cx dX7_cleanOf_121 (by decide) (fun c121q => ?_) (fun c121q => ?_)
                      · refine aw_iload cx dX7_cleanOf_160 5 rfl ?_
                        refine aw_if_eq (tgt := 170) cx dX7_cleanOf_162 (by decide) (fun c162q => ?_) (fun c162q => ?_)
                        · refine aw_iload_n cx dX7_cleanOf_170 rfl 2 rfl ?_
                          refine aw_istore_n (loc2 := [(2, aI x2q), (0, aR 32), (1, aI what), (3, aI x3q), (4, aI x4q), (5, aI x5q), (6, aI x6q)]) cx dX7_cleanOf_171 rfl (by decide) rfl ?_
                          refine aw_iload cx dX7_cleanOf_172 5 rfl ?_
                          refine aw_if_eq (tgt := 185) cx dX7_cleanOf_174 (by decide) (fun c174q => ?_) (fun c174q => ?_)
                          · refine aw_iload_n cx dX7_cleanOf_185 rfl 3 rfl ?_
                            refine aw_istore_n (loc2 := [(3, aI x3q), (2, aI x2q), (0, aR 32), (1, aI what), (4, aI x4q), (5, aI x5q), (6, aI x6q)]) cx dX7_cleanOf_186 rfl (by decide) rfl ?_
                            refine aw_iinc cx dX7_cleanOf_187 4 rfl (by decide) (by omega) (fun z187q hz187q => ?_)
                            refine aw_loc (loc2 := [(4, aI z187q), (3, aI x3q), (2, aI x2q), (0, aR 32), (1, aI what), (5, aI x5q), (6, aI x6q)]) rfl ?_
                            refine aw_goto (tgt := 80) cx dX7_cleanOf_190 (by decide) ?_
                            refine aw_sub [3, 4, 2, 1, 0] rfl ?_
                            refine ih80q _ _ _  ?i_s0 ?i_sc ?i_sq ?i_m
                            case i_s0 =>
                              omega
                            case i_sc =>
                              rw [hz187q]
                              refine CLX_n sc (fun q => absurd (tx.mpr ⟨q.1, ?_⟩) (by omega))
                              exact IDK_le (IDK_e.mpr q.2) (by omega)
                            case i_sq =>
                              omega
                            case i_m =>
                              omega
                          · exfalso
                            omega
                        · exfalso
                          omega
                      · refine aw_iload cx dX7_cleanOf_124 4 rfl ?_
                        refine aw_iload cx dX7_cleanOf_126 6 rfl ?_
                        refine aw_callS (as := [aI x4q, aI x6q]) (stk := []) cx dX7_cleanOf_128 ml_X7_196 ms_X7_isIn (by decide) rfl rfl (Nat.le_of_ble_eq_true rfl) (ct_X7_isIn tl N6q _ _ (by omega) (by omega)) (fun rr128q M_128q hp128q => ?_)
                        obtain ⟨rfl, rfl⟩ := hp128q
                        refine aw_top (stk := []) (fun z128q hz128q => ?_)
                        refine aw_if_eq (tgt := 147) cx dX7_cleanOf_131 (by decide) (fun c131q => ?_) (fun c131q => ?_)
                        · have d131q := b2_e0.mp (hz128q.symm.trans c131q)
                          refine aw_iconst (n := 1) cx dX7_cleanOf_147 (by decide) ?_
                          refine aw_goto (tgt := 152) cx dX7_cleanOf_148 (by decide) ?_
                          refine aw_istore (loc2 := [(5, aI 1), (0, aR 32), (1, aI what), (2, aI x2q), (3, aI x3q), (4, aI x4q), (6, aI x6q)]) cx dX7_cleanOf_152 (by decide) rfl ?_
                          refine aw_iinc cx dX7_cleanOf_154 6 rfl (by decide) (by omega) (fun z154q hz154q => ?_)
                          refine aw_loc (loc2 := [(6, aI z154q), (5, aI 1), (0, aR 32), (1, aI what), (2, aI x2q), (3, aI x3q), (4, aI x4q)]) rfl ?_
                          refine aw_goto (tgt := 110) cx dX7_cleanOf_157 (by decide) ?_
                          refine aw_sub [2, 3, 4, 5, 6, 1, 0] rfl ?_
                          refine ih110q _ _  ?i_t0 ?i_t01 ?i_tx ?i_m
                          case i_t0 =>
                            omega
                          case i_t01 =>
                            omega
                          case i_tx =>
                            have t1 := tx.mp (by omega)
                            rw [hz154q, IDK_s t0.1]
                            first
                            | exact ⟨fun _ => ⟨t1.1, t1.2, fun q => absurd q d131q⟩, fun _ => rfl⟩
                            | exact ⟨fun _ => ⟨t1.1, t1.2, fun _ => hz0q.mp (by rw [← hz143q]; omega)⟩, fun _ => rfl⟩
                            | exact ⟨fun q => absurd q (by decide), fun q => absurd (hz0q.mpr (q.2.2 d131q)) (by rw [← hz143q]; omega)⟩
                          case i_m =>
                            omega
                        · have d131q := b2_y hz128q c131q
                          refine aw_iload cx dX7_cleanOf_134 4 rfl ?_
                          refine aw_aload_n cx dX7_cleanOf_136 rfl 0 rfl ?_
                          refine aw_getR (q := 55) cx dX7_cleanOf_137 fl_X7_76 (lb_32 tl) rfl rfl ?_
                          refine aw_iload cx dX7_cleanOf_140 6 rfl ?_
                          refine aw_iald cx dX7_cleanOf_142 (lb_55 tl) (⟨by omega, by omega⟩) (fun z142q hz142q lo_z142q hi_z142q => ?_)
                          refine aw_iand cx dX7_cleanOf_143 (fun z143q hz143q => ?_)
                          have hz0q : bAnd x4q z142q = 0 ↔ ∀ j, j < (M 5 4).toNat → ¬ (BT x4q j ∧ j ≠ x6q.toNat ∧ AP (M 8) (M 7) (M 6) j x6q.toNat) := and0_e (P := (fun i => i ≠ x6q.toNat ∧ AP (M 8) (M 7) (M 6) i x6q.toNat)) (by omega) (by omega) (by rw [hz142q]; exact hc2 x6q.toNat (by omega))
                          refine aw_if_ne (tgt := 151) cx dX7_cleanOf_144 (by decide) (fun c144q => ?_) (fun c144q => ?_)
                          · refine aw_iconst (n := 0) cx dX7_cleanOf_151 (by decide) ?_
                            refine aw_istore (loc2 := [(5, aI 0), (0, aR 32), (1, aI what), (2, aI x2q), (3, aI x3q), (4, aI x4q), (6, aI x6q)]) cx dX7_cleanOf_152 (by decide) rfl ?_
                            refine aw_iinc cx dX7_cleanOf_154 6 rfl (by decide) (by omega) (fun z154q hz154q => ?_)
                            refine aw_loc (loc2 := [(6, aI z154q), (5, aI 0), (0, aR 32), (1, aI what), (2, aI x2q), (3, aI x3q), (4, aI x4q)]) rfl ?_
                            refine aw_goto (tgt := 110) cx dX7_cleanOf_157 (by decide) ?_
                            refine aw_sub [2, 3, 4, 5, 6, 1, 0] rfl ?_
                            refine ih110q _ _  ?i_t0 ?i_t01 ?i_tx ?i_m
                            case i_t0 =>
                              omega
                            case i_t01 =>
                              omega
                            case i_tx =>
                              have t1 := tx.mp (by omega)
                              rw [hz154q, IDK_s t0.1]
                              first
                              | exact ⟨fun _ => ⟨t1.1, t1.2, fun q => absurd q d131q⟩, fun _ => rfl⟩
                              | exact ⟨fun _ => ⟨t1.1, t1.2, fun _ => hz0q.mp (by rw [← hz143q]; omega)⟩, fun _ => rfl⟩
                              | exact ⟨fun q => absurd q (by decide), fun q => absurd (hz0q.mpr (q.2.2 d131q)) (by rw [← hz143q]; omega)⟩
                            case i_m =>
                              omega
                          · refine aw_iconst (n := 1) cx dX7_cleanOf_147 (by decide) ?_
                            refine aw_goto (tgt := 152) cx dX7_cleanOf_148 (by decide) ?_
                            refine aw_istore (loc2 := [(5, aI 1), (0, aR 32), (1, aI what), (2, aI x2q), (3, aI x3q), (4, aI x4q), (6, aI x6q)]) cx dX7_cleanOf_152 (by decide) rfl ?_
                            refine aw_iinc cx dX7_cleanOf_154 6 rfl (by decide) (by omega) (fun z154q hz154q => ?_)
                            refine aw_loc (loc2 := [(6, aI z154q), (5, aI 1), (0, aR 32), (1, aI what), (2, aI x2q), (3, aI x3q), (4, aI x4q)]) rfl ?_
                            refine aw_goto (tgt := 110) cx dX7_cleanOf_157 (by decide) ?_
                            refine aw_sub [2, 3, 4, 5, 6, 1, 0] rfl ?_
                            refine ih110q _ _  ?i_t0 ?i_t01 ?i_tx ?i_m
                            case i_t0 =>
                              omega
                            case i_t01 =>
                              omega
                            case i_tx =>
                              have t1 := tx.mp (by omega)
                              rw [hz154q, IDK_s t0.1]
                              first
                              | exact ⟨fun _ => ⟨t1.1, t1.2, fun q => absurd q d131q⟩, fun _ => rfl⟩
                              | exact ⟨fun _ => ⟨t1.1, t1.2, fun _ => hz0q.mp (by rw [← hz143q]; omega)⟩, fun _ => rfl⟩
                              | exact ⟨fun q => absurd q (by decide), fun q => absurd (hz0q.mpr (q.2.2 d131q)) (by rw [← hz143q]; omega)⟩
                            case i_m =>
                              omega
                refine aw_sub [2, 3, 4, 5, 6, 1, 0] rfl ?_
                refine lp110q _ _ _  ?i_t0 ?i_t01 ?i_tx (Nat.lt_succ_self _)
                case i_t0 =>
                  omega
                case i_t01 =>
                  omega
                case i_tx =>
                  exact ⟨fun _ => ⟨by omega, IDK_0⟩, fun _ => rfl⟩
        refine aw_sub [3, 4, 2, 1, 0] rfl ?_
        refine lp80q _ _ _ _  ?i_s0 ?i_sc ?i_sq (Nat.lt_succ_self _)
        case i_s0 =>
          omega
        case i_sc =>
          exact Or.inl ⟨rfl, rfl⟩
        case i_sq =>
          exact PCN_0.symm
      · refine aw_aload_n cx dX7_cleanOf_14 rfl 0 rfl ?_
        refine aw_getR (q := 55) cx dX7_cleanOf_15 fl_X7_76 (lb_32 tl) rfl rfl ?_
        refine aw_iload_n cx dX7_cleanOf_18 rfl 2 rfl ?_
        refine aw_iconst (n := 0) cx dX7_cleanOf_19 (by decide) ?_
        refine aw_iast cx dX7_cleanOf_20 (lb_55 tl) (⟨by omega, by omega⟩) (⟨by decide, by decide⟩) ?_
        obtain ⟨M_20q, hM_20q⟩ : ∃ qm, qm = up N6q (55) (Int.toNat (x2q)) (0) := ⟨_, rfl⟩
        rw [← hM_20q]
        refine aw_iconst (n := 0) cx dX7_cleanOf_21 (by decide) ?_
        refine aw_istore_n (loc2 := [(3, aI 0), (0, aR 32), (1, aI what), (2, aI x2q)]) cx dX7_cleanOf_22 rfl (by decide) rfl ?_
        have lp23q : ∀ (fu : Nat) (x3q : Int) (N23q : Mem), (0 ≤ x3q ∧ x3q ≤ M 5 4) → (FR [55] M_1q N23q) → (∀ t, t ≠ x2q.toNat → N23q 55 t = N6q 55 t) → (BTS (fun i => i ≠ x2q.toNat ∧ AP (M 8) (M 7) (M 6) i x2q.toNat) x3q.toNat (N23q 55 x2q.toNat)) → ((M 5 4 - x3q).toNat) < fu → AW X (LB ++ tl) 7 23 [(0, aR 32), (1, aI what), (2, aI x2q), (3, aI x3q)] [] N23q := by
          intro fu
          induction fu with
          | zero =>
            intro x3q N23q p0 pf po pv hm
            exact absurd hm (Nat.not_lt_zero _)
          | succ fu ih23q =>
            intro x3q N23q p0 pf po pv hm
            have f2 := congrFun (pf 32 (by decide)) 2
            have pvl := BTS_le (m := 12) pv (by omega)
            refine aw_iload_n cx dX7_cleanOf_23 rfl 3 rfl ?_
            refine aw_aload_n cx dX7_cleanOf_24 rfl 0 rfl ?_
            refine aw_getI cx dX7_cleanOf_25 fl_X7_135 (lb_32 tl) rfl (fun z25q hz25q lo_z25q hi_z25q => ?_)
            refine aw_icmp_ge (tgt := 67) cx dX7_cleanOf_28 (by decide) (fun c28q => ?_) (fun c28q => ?_)
            · refine aw_iinc cx dX7_cleanOf_67 2 rfl (by decide) (by omega) (fun z67q hz67q => ?_)
              refine aw_loc (loc2 := [(2, aI z67q), (0, aR 32), (1, aI what), (3, aI x3q)]) rfl ?_
              refine aw_goto (tgt := 6) cx dX7_cleanOf_70 (by decide) ?_
              refine aw_sub [1, 2, 0] rfl ?_
              refine ih6q _ _  ?i_h0 ?i_hf ?i_hc ?i_m
              case i_h0 =>
                omega
              case i_hf =>
                exact pf
              case i_hc =>
                intro a ha
                by_cases q : a = x2q.toNat
                · rw [q]; rw [show x3q.toNat = (M 5 4).toNat by omega] at pv; exact pv
                · rw [po a q]; exact hc a (by omega)
              case i_m =>
                omega
            · refine aw_aload_n cx dX7_cleanOf_31 rfl 0 rfl ?_
              refine aw_getR (q := 55) cx dX7_cleanOf_32 fl_X7_76 (lb_32 tl) rfl rfl ?_
              refine aw_iload_n cx dX7_cleanOf_35 rfl 2 rfl ?_
              refine aw_dup2 cx dX7_cleanOf_36 rfl rfl ?_
              refine aw_iald cx dX7_cleanOf_37 (lb_55 tl) (⟨by omega, by omega⟩) (fun z37q hz37q lo_z37q hi_z37q => ?_)
              refine aw_iload_n cx dX7_cleanOf_38 rfl 3 rfl ?_
              refine aw_iload_n cx dX7_cleanOf_39 rfl 2 rfl ?_
              refine aw_icmp_eq (tgt := 58) cx dX7_cleanOf_40 (by decide) (fun c40q => ?_) (fun c40q => ?_)
              · refine aw_iconst (n := 0) cx dX7_cleanOf_58 (by decide) ?_
                refine aw_ior cx dX7_cleanOf_59 (fun z59q hz59q => ?_)
                refine aw_iast cx dX7_cleanOf_60 (lb_55 tl) (⟨by omega, by omega⟩) (by first | (rw [hz59q, bOr_z (by omega)]; omega) | (have q := bOr_lt (x := z37q) (y := bShl 1 x3q) (n := 12) (by omega) (by omega) (bShl_lt (by omega) (by omega)); rw [hz59q, hz54q]; omega)) ?_
                obtain ⟨M_60q, hM_60q⟩ : ∃ qm, qm = up N23q (55) (Int.toNat (x2q)) (z59q) := ⟨_, rfl⟩
                rw [← hM_60q]
                refine aw_iinc cx dX7_cleanOf_61 3 rfl (by decide) (by omega) (fun z61q hz61q => ?_)
                refine aw_loc (loc2 := [(3, aI z61q), (0, aR 32), (1, aI what), (2, aI x2q)]) rfl ?_
                refine aw_goto (tgt := 23) cx dX7_cleanOf_64 (by decide) ?_
                refine aw_sub [1, 2, 3, 0] rfl ?_
                refine ih23q _ _  ?i_p0 ?i_pf ?i_po ?i_pv ?i_m
                case i_p0 =>
                  omega
                case i_pf =>
                  exact pf.put hM_60q (by decide)
                case i_po =>
                  intro t ht; rw [up_ne hM_60q (by omega)]; exact po t ht
                case i_pv =>
                  rw [up_eq hM_60q, hz61q, hz59q]
                  first
                  | (rw [bOr_z (by omega), hz37q]; exact BTS_n (by omega) pv (fun q => q.1 (by omega)))
                  | (rw [bOr_z (by omega), hz37q]; exact BTS_n (by omega) pv (fun q => d49q (hap.mpr q.2)))
                  | (rw [hz54q, hz37q]; exact BTS_y (by omega) pv ⟨by omega, hap.mp d49q⟩)
                case i_m =>
                  omega
              · refine aw_aload_n cx dX7_cleanOf_43 rfl 0 rfl ?_
                refine aw_iload_n cx dX7_cleanOf_44 rfl 3 rfl ?_
                refine aw_iload_n cx dX7_cleanOf_45 rfl 2 rfl ?_
                refine aw_callV (as := [aI x3q, aI x2q]) (k := 32) (stk := [aI z37q, aI x2q, aR 55]) cx dX7_cleanOf_46 ml_X7_200 mv_X7_clashes rfl (lb_32 tl) (by decide) rfl rfl (Nat.le_of_ble_eq_true rfl) (ct_X7_clashes tl N23q _ _ (by omega) (by omega)) (fun rr46q M_46q hp46q => ?_)
                obtain ⟨rfl, rfl⟩ := hp46q
                refine aw_top (stk := [aI z37q, aI x2q, aR 55]) (fun z46q hz46q => ?_)
                have hap : AP (N23q 46) (N23q 45) (N23q 44) x3q.toNat x2q.toNat ↔ AP (M 8) (M 7) (M 6) x3q.toNat x2q.toNat := by
                  have na := n4 x3q.toNat (by omega)
                  have nb := n4 x2q.toNat (by omega)
                  rw [pf 46 (by decide), pf 45 (by decide), pf 44 (by decide)]
                  unfold AP
                  rw [na.1, na.2.1, na.2.2.1, nb.1, nb.2.1, nb.2.2.1]
                refine aw_if_eq (tgt := 58) cx dX7_cleanOf_49 (by decide) (fun c49q => ?_) (fun c49q => ?_)
                · have d49q := b2_e0.mp (hz46q.symm.trans c49q)
                  refine aw_iconst (n := 0) cx dX7_cleanOf_58 (by decide) ?_
                  refine aw_ior cx dX7_cleanOf_59 (fun z59q hz59q => ?_)
                  refine aw_iast cx dX7_cleanOf_60 (lb_55 tl) (⟨by omega, by omega⟩) (by first | (rw [hz59q, bOr_z (by omega)]; omega) | (have q := bOr_lt (x := z37q) (y := bShl 1 x3q) (n := 12) (by omega) (by omega) (bShl_lt (by omega) (by omega)); rw [hz59q, hz54q]; omega)) ?_
                  obtain ⟨M_60q, hM_60q⟩ : ∃ qm, qm = up N23q (55) (Int.toNat (x2q)) (z59q) := ⟨_, rfl⟩
                  rw [← hM_60q]
                  refine aw_iinc cx dX7_cleanOf_61 3 rfl (by decide) (by omega) (fun z61q hz61q => ?_)
                  refine aw_loc (loc2 := [(3, aI z61q), (0, aR 32), (1, aI what), (2, aI x2q)]) rfl ?_
                  refine aw_goto (tgt := 23) cx dX7_cleanOf_64 (by decide) ?_
                  refine aw_sub [1, 2, 3, 0] rfl ?_
                  refine ih23q _ _  ?i_p0 ?i_pf ?i_po ?i_pv ?i_m
                  case i_p0 =>
                    omega
                  case i_pf =>
                    exact pf.put hM_60q (by decide)
                  case i_po =>
                    intro t ht; rw [up_ne hM_60q (by omega)]; exact po t ht
                  case i_pv =>
                    rw [up_eq hM_60q, hz61q, hz59q]
                    first
                    | (rw [bOr_z (by omega), hz37q]; exact BTS_n (by omega) pv (fun q => q.1 (by omega)))
                    | (rw [bOr_z (by omega), hz37q]; exact BTS_n (by omega) pv (fun q => d49q (hap.mpr q.2)))
                    | (rw [hz54q, hz37q]; exact BTS_y (by omega) pv ⟨by omega, hap.mp d49q⟩)
                  case i_m =>
                    omega
                · have d49q := b2_y hz46q c49q
                  refine aw_iconst (n := 1) cx dX7_cleanOf_52 (by decide) ?_
                  refine aw_iload_n cx dX7_cleanOf_53 rfl 3 rfl ?_
                  refine aw_ishl cx dX7_cleanOf_54 (fun z54q hz54q => ?_)
                  refine aw_goto (tgt := 59) cx dX7_cleanOf_55 (by decide) ?_
                  refine aw_ior cx dX7_cleanOf_59 (fun z59q hz59q => ?_)
                  refine aw_iast cx dX7_cleanOf_60 (lb_55 tl) (⟨by omega, by omega⟩) (by first | (rw [hz59q, bOr_z (by omega)]; omega) | (have q := bOr_lt (x := z37q) (y := bShl 1 x3q) (n := 12) (by omega) (by omega) (bShl_lt (by omega) (by omega)); rw [hz59q, hz54q]; omega)) ?_
                  obtain ⟨M_60q, hM_60q⟩ : ∃ qm, qm = up N23q (55) (Int.toNat (x2q)) (z59q) := ⟨_, rfl⟩
                  rw [← hM_60q]
                  refine aw_iinc cx dX7_cleanOf_61 3 rfl (by decide) (by omega) (fun z61q hz61q => ?_)
                  refine aw_loc (loc2 := [(3, aI z61q), (0, aR 32), (1, aI what), (2, aI x2q)]) rfl ?_
                  refine aw_goto (tgt := 23) cx dX7_cleanOf_64 (by decide) ?_
                  refine aw_sub [1, 2, 3, 0] rfl ?_
                  refine ih23q _ _  ?i_p0 ?i_pf ?i_po ?i_pv ?i_m
                  case i_p0 =>
                    omega
                  case i_pf =>
                    exact pf.put hM_60q (by decide)
                  case i_po =>
                    intro t ht; rw [up_ne hM_60q (by omega)]; exact po t ht
                  case i_pv =>
                    rw [up_eq hM_60q, hz61q, hz59q]
                    first
                    | (rw [bOr_z (by omega), hz37q]; exact BTS_n (by omega) pv (fun q => q.1 (by omega)))
                    | (rw [bOr_z (by omega), hz37q]; exact BTS_n (by omega) pv (fun q => d49q (hap.mpr q.2)))
                    | (rw [hz54q, hz37q]; exact BTS_y (by omega) pv ⟨by omega, hap.mp d49q⟩)
                  case i_m =>
                    omega
        refine aw_sub [1, 2, 3, 0] rfl ?_
        refine lp23q _ _ _  ?i_p0 ?i_pf ?i_po ?i_pv (Nat.lt_succ_self _)
        case i_p0 =>
          omega
        case i_pf =>
          exact hf.put hM_20q (by decide)
        case i_po =>
          intro t ht; exact up_ne hM_20q (by omega)
        case i_pv =>
          rw [up_eq hM_20q]; exact BTS_0
  refine aw_sub [1, 2, 0] rfl ?_
  refine lp6q _ _ _  ?i_h0 ?i_hf ?i_hc (Nat.lt_succ_self _)
  case i_h0 =>
    omega
  case i_hf =>
    exact FR.rf
  case i_hc =>
    exact all_0
set_option maxHeartbeats 1000000 in
set_option maxRecDepth 100000 in
theorem ct_X7_clean (tl : List CD) (M : Mem) (what : Int) (hj : JQ M) : Ct 8 mX7_clean (LB ++ tl) [aR 32, aI what] M (fun r M1 => ∃ x, r = some (aI x) ∧ FX RC RF M M1 ∧ (aClean (M 5 4).toNat (M 8) (M 7) (M 6) what x)) := by
  refine Ct.of (own := RX7) rfl (by decide +kernel) (Nat.le_of_ble_eq_true rfl) (fun X cx rt => ?_)
  refine aw_eq (loc2 := [(0, aR 32), (1, aI what)]) ?_ rfl rfl rfl rfl
  refine aw_rngL 1 rfl (fun rl_what rh_what => ?_)
  refine aw_iload_n cx dX7_clean_0 rfl 1 rfl ?_
  refine aw_callS (as := [aI what]) (stk := []) cx dX7_clean_1 ml_X7_117 ms_X7_isTwo (by decide) rfl rfl (Nat.le_of_ble_eq_true rfl) (ct_X7_isTwo tl M _ ) (fun rr1q M_1q hp1q => ?_)
  obtain ⟨rfl, rfl⟩ := hp1q
  refine aw_top (stk := []) (fun z1q hz1q => ?_)
  refine aw_if_eq (tgt := 15) cx dX7_clean_4 (by decide) (fun c4q => ?_) (fun c4q => ?_)
  · have d4q := b2_e0.mp (hz1q.symm.trans c4q)
    refine aw_bipush (n := (-2)) cx dX7_clean_15 (by decide) ?_
    refine aw_iret cx rt dX7_clean_17 ?_
    first | exact ⟨_, rfl, hfxM_9, hanM_9⟩ | exact ⟨_, rfl, FX.rf, Or.inl ⟨by omega, rfl⟩⟩
  · have d4q := b2_y hz1q c4q
    refine aw_aload_n cx dX7_clean_7 rfl 0 rfl ?_
    refine aw_iload_n cx dX7_clean_8 rfl 1 rfl ?_
    refine aw_callV (as := [aI what]) (k := 32) (stk := []) cx dX7_clean_9 ml_X7_302 mv_X7_cleanOf rfl (lb_32 tl) (by decide) rfl rfl (Nat.le_of_ble_eq_true rfl) (ct_X7_cleanOf tl M _ (hj) (by omega)) (fun rr9q M_9q hp9q => ?_)
    obtain ⟨z9q, rfl, hfxM_9, hrdM_9, hanM_9⟩ := hp9q
    refine aw_eq (stk2 := [aI z9q]) ?_ rfl rfl rfl rfl
    refine aw_goto (tgt := 17) cx dX7_clean_12 (by decide) ?_
    refine aw_iret cx rt dX7_clean_17 ?_
    first | exact ⟨_, rfl, hfxM_9, hanM_9⟩ | exact ⟨_, rfl, FX.rf, Or.inl ⟨by omega, rfl⟩⟩
set_option maxHeartbeats 1000000 in
set_option maxRecDepth 100000 in
theorem ct_X7_askOf (tl : List CD) (M : Mem) (k : Int) (hj : JQ M) (hk : 0 ≤ k ∧ k < M 5 4) : Ct 8 mX7_askOf (LB ++ tl) [aR 32, aI k] M (fun r M1 => ∃ x, r = some (aI x) ∧ FX RC RF M M1 ∧ RD M1 ∧ (aAsk (M 5 4) (fgT M) (qgT M) (M 0 13).toNat (M 27) (M 28) k x)) := by
  refine Ct.of (own := RX7) rfl (by decide +kernel) (Nat.le_of_ble_eq_true rfl) (fun X cx rt => ?_)
  refine aw_eq (loc2 := [(0, aR 32), (1, aI k)]) ?_ rfl rfl rfl rfl
  refine aw_rngL 1 rfl (fun rl_k rh_k => ?_)
  refine aw_aload_n cx dX7_askOf_0 rfl 0 rfl ?_
  refine aw_iload_n cx dX7_askOf_1 rfl 1 rfl ?_
  refine aw_callV (as := [aI k]) (k := 32) (stk := []) cx dX7_askOf_2 ml_X7_324 mv_X7_whoseBy rfl (lb_32 tl) (by decide) rfl rfl (Nat.le_of_ble_eq_true rfl) (ct_X7_whoseBy tl M _ (hj) (hk)) (fun rr2q M_2q hp2q => ?_)
  obtain ⟨z2q, rfl, hfxM_2, hrdM_2, hanM_2, hcbM_2⟩ := hp2q
  refine aw_eq (stk2 := [aI z2q]) ?_ rfl rfl rfl rfl
  have hbt : BTS (fWP (fgT M) (qgT M) (M 0 13).toNat (M 27) (M 28) k.toNat) 10 z2q := hanM_2
  have hbl : 0 ≤ z2q ∧ z2q < 1024 := ⟨hbt.1, hbt.2.1⟩
  refine aw_istore_n (loc2 := [(2, aI z2q), (0, aR 32), (1, aI k)]) cx dX7_askOf_5 rfl (by decide) rfl ?_
  refine aw_iconst (n := (-1)) cx dX7_askOf_6 (by decide) ?_
  refine aw_istore_n (loc2 := [(3, aI ((-1))), (2, aI z2q), (0, aR 32), (1, aI k)]) cx dX7_askOf_7 rfl (by decide) rfl ?_
  refine aw_iconst (n := 0) cx dX7_askOf_8 (by decide) ?_
  refine aw_istore (loc2 := [(4, aI 0), (3, aI ((-1))), (2, aI z2q), (0, aR 32), (1, aI k)]) cx dX7_askOf_9 (by decide) rfl ?_
  refine aw_iconst (n := 0) cx dX7_askOf_11 (by decide) ?_
  refine aw_istore (loc2 := [(5, aI 0), (4, aI 0), (3, aI ((-1))), (2, aI z2q), (0, aR 32), (1, aI k)]) cx dX7_askOf_12 (by decide) rfl ?_
  have lp14q : ∀ (fu : Nat) (x3q : Int) (x4q : Int) (x5q : Int), (0 ≤ x5q ∧ x5q ≤ 8) → (AMD (fAL (fWP (fgT M) (qgT M) (M 0 13).toNat (M 27) (M 28) k.toNat) (fWB (fgT M) (qgT M) k.toNat)) x5q x3q x4q) → ((8 - x5q).toNat) < fu → AW X (LB ++ tl) 10 14 [(0, aR 32), (1, aI k), (2, aI z2q), (3, aI x3q), (4, aI x4q), (5, aI x5q)] [] M_2q := by
    intro fu
    induction fu with
    | zero =>
      intro x3q x4q x5q h0q hx hm
      exact absurd hm (Nat.not_lt_zero _)
    | succ fu ih14q =>
      intro x3q x4q x5q h0q hx hm
      refine aw_iload cx dX7_askOf_14 5 rfl ?_
      refine aw_bipush (n := 8) cx dX7_askOf_16 (by decide) ?_
      refine aw_icmp_ge (tgt := 178) cx dX7_askOf_18 (by decide) (fun c18q => ?_) (fun c18q => ?_)
      · refine aw_iload_n cx dX7_askOf_178 rfl 3 rfl ?_
        refine aw_iret cx rt dX7_askOf_179 ?_
        refine ⟨_, rfl, hfxM_2, hrdM_2, Or.inr ⟨by omega, by omega, x4q, ?_⟩⟩
        rcases hx with q | q
        · omega
        · rw [show x5q.toNat = 8 by omega] at q; exact q.2
      · refine aw_iconst (n := 0) cx dX7_askOf_21 (by decide) ?_
        refine aw_istore (loc2 := [(6, aI 0), (0, aR 32), (1, aI k), (2, aI z2q), (3, aI x3q), (4, aI x4q), (5, aI x5q)]) cx dX7_askOf_22 (by decide) rfl ?_
        refine aw_iconst (n := 0) cx dX7_askOf_24 (by decide) ?_
        refine aw_istore (loc2 := [(7, aI 0), (6, aI 0), (0, aR 32), (1, aI k), (2, aI z2q), (3, aI x3q), (4, aI x4q), (5, aI x5q)]) cx dX7_askOf_25 (by decide) rfl ?_
        refine aw_iconst (n := 0) cx dX7_askOf_27 (by decide) ?_
        refine aw_istore (loc2 := [(8, aI 0), (7, aI 0), (6, aI 0), (0, aR 32), (1, aI k), (2, aI z2q), (3, aI x3q), (4, aI x4q), (5, aI x5q)]) cx dX7_askOf_28 (by decide) rfl ?_
        have lp30q : ∀ (fu : Nat) (x6q : Int) (x7q : Int) (x8q : Int), (0 ≤ x8q ∧ x8q ≤ 10) → (0 ≤ x6q ∧ x6q ≤ x8q ∧ 0 ≤ x7q ∧ x7q ≤ x8q) → (x6q = fTL (fWP (fgT M) (qgT M) (M 0 13).toNat (M 27) (M 28) k.toNat) (fWB (fgT M) (qgT M) k.toNat) x8q.toNat x5q.toNat) → (x7q = fFT (fWP (fgT M) (qgT M) (M 0 13).toNat (M 27) (M 28) k.toNat) x8q.toNat - fTL (fWP (fgT M) (qgT M) (M 0 13).toNat (M 27) (M 28) k.toNat) (fWB (fgT M) (qgT M) k.toNat) x8q.toNat x5q.toNat) → ((10 - x8q).toNat) < fu → AW X (LB ++ tl) 10 30 [(0, aR 32), (1, aI k), (2, aI z2q), (3, aI x3q), (4, aI x4q), (5, aI x5q), (6, aI x6q), (7, aI x7q), (8, aI x8q)] [] M_2q := by
          intro fu
          induction fu with
          | zero =>
            intro x6q x7q x8q p0 p1 py pn hm
            exact absurd hm (Nat.not_lt_zero _)
          | succ fu ih30q =>
            intro x6q x7q x8q p0 p1 py pn hm
            refine aw_iload cx dX7_askOf_30 8 rfl ?_
            refine aw_bipush (n := 10) cx dX7_askOf_32 (by decide) ?_
            refine aw_icmp_ge (tgt := 111) cx dX7_askOf_34 (by decide) (fun c34q => ?_) (fun c34q => ?_)
            · refine aw_iload cx dX7_askOf_111 6 rfl ?_
              refine aw_iload cx dX7_askOf_113 7 rfl ?_
              refine aw_icmp_le (tgt := 123) cx dX7_askOf_115 (by decide) (fun c115q => ?_) (fun c115q => ?_)
              · refine aw_iload cx dX7_askOf_123 7 rfl ?_
                refine aw_istore (loc2 := [(8, aI x7q), (0, aR 32), (1, aI k), (2, aI z2q), (3, aI x3q), (4, aI x4q), (5, aI x5q), (6, aI x6q), (7, aI x7q)]) cx dX7_askOf_125 (by decide) rfl ?_
                refine aw_iload_n cx dX7_askOf_127 rfl 4 rfl ?_
                refine aw_iconst (n := (-1)) cx dX7_askOf_128 (by decide) ?_
                refine aw_icmp_eq (tgt := 139) cx dX7_askOf_129 (by decide) (fun c129q => ?_) (fun c129q => ?_)
                · refine aw_iconst (n := 1) cx dX7_askOf_139 (by decide) ?_
                  refine aw_goto (tgt := 144) cx dX7_askOf_140 (by decide) ?_
                  refine aw_istore (loc2 := [(9, aI 1), (8, aI x7q), (0, aR 32), (1, aI k), (2, aI z2q), (3, aI x3q), (4, aI x4q), (5, aI x5q), (6, aI x6q), (7, aI x7q)]) cx dX7_askOf_144 (by decide) rfl ?_
                  refine aw_iload cx dX7_askOf_146 0 rfl ?_
                  refine aw_if_eq (tgt := 156) cx dX7_askOf_148 (by decide) (fun c148q => ?_) (fun c148q => ?_)
                  · exact absurd c148q (by decide)
                  · refine aw_iload cx dX7_askOf_151 7 rfl ?_
                    refine aw_goto (tgt := 157) cx dX7_askOf_153 (by decide) ?_
                    refine aw_istore_n (loc2 := [(3, aI x5q), (9, aI 1), (8, aI x7q), (0, aR 32), (1, aI k), (2, aI z2q), (4, aI x4q), (5, aI x5q), (6, aI x6q), (7, aI x7q)]) cx dX7_askOf_157 rfl (by decide) rfl ?_
                    refine aw_iload cx dX7_askOf_158 1 rfl ?_
                    refine aw_if_eq (tgt := 168) cx dX7_askOf_160 (by decide) (fun c160q => ?_) (fun c160q => ?_)
                    · exact absurd c160q (by decide)
                    · refine aw_iload cx dX7_askOf_163 2 rfl ?_
                      refine aw_goto (tgt := 170) cx dX7_askOf_165 (by decide) ?_
                      refine aw_istore (loc2 := [(4, aI x7q), (3, aI x5q), (9, aI 1), (8, aI x7q), (0, aR 32), (1, aI k), (2, aI z2q), (5, aI x5q), (6, aI x6q), (7, aI x7q)]) cx dX7_askOf_170 (by decide) rfl ?_
                      refine aw_iinc cx dX7_askOf_172 7 rfl (by decide) (by omega) (fun z172q hz172q => ?_)
                      refine aw_loc (loc2 := [(5, aI z172q), (4, aI x7q), (3, aI x5q), (9, aI 1), (8, aI x7q), (0, aR 32), (1, aI k), (2, aI z2q), (6, aI x6q), (7, aI x7q)]) rfl ?_
                      refine aw_goto (tgt := 14) cx dX7_askOf_175 (by decide) ?_
                      refine aw_sub [5, 6, 7, 2, 1, 0] rfl ?_
                      refine ih14q _ _ _  ?i_h0 ?i_hx ?i_m
                      case i_h0 =>
                        omega
                      case i_hx =>
                        have hal : x7q = fAL (fWP (fgT M) (qgT M) (M 0 13).toNat (M 27) (M 28) k.toNat) (fWB (fgT M) (qgT M) k.toNat) x5q.toNat := by
                          rw [show x8q.toNat = 10 by omega] at py pn
                          unfold fAL
                          omega
                        rw [hz172q]
                        exact AMD_1 hx (by omega) hal
                      case i_m =>
                        omega
                · refine aw_iload cx dX7_askOf_132 0 rfl ?_
                  refine aw_iload cx dX7_askOf_134 5 rfl ?_
                  refine aw_icmp_ge (tgt := 143) cx dX7_askOf_136 (by decide) (fun c136q => ?_) (fun c136q => ?_)
                  · refine aw_iconst (n := 0) cx dX7_askOf_143 (by decide) ?_
                    refine aw_istore (loc2 := [(9, aI 0), (8, aI x7q), (0, aR 32), (1, aI k), (2, aI z2q), (3, aI x3q), (4, aI x4q), (5, aI x5q), (6, aI x6q), (7, aI x7q)]) cx dX7_askOf_144 (by decide) rfl ?_
                    refine aw_iload cx dX7_askOf_146 0 rfl ?_
                    refine aw_if_eq (tgt := 156) cx dX7_askOf_148 (by decide) (fun c148q => ?_) (fun c148q => ?_)
                    · refine aw_iload_n cx dX7_askOf_156 rfl 5 rfl ?_
                      refine aw_istore_n (loc2 := [(3, aI x3q), (9, aI 0), (8, aI x7q), (0, aR 32), (1, aI k), (2, aI z2q), (4, aI x4q), (5, aI x5q), (6, aI x6q), (7, aI x7q)]) cx dX7_askOf_157 rfl (by decide) rfl ?_
                      refine aw_iload cx dX7_askOf_158 1 rfl ?_
                      refine aw_if_eq (tgt := 168) cx dX7_askOf_160 (by decide) (fun c160q => ?_) (fun c160q => ?_)
                      · refine aw_iload cx dX7_askOf_168 6 rfl ?_
                        refine aw_istore (loc2 := [(4, aI x4q), (3, aI x3q), (9, aI 0), (8, aI x7q), (0, aR 32), (1, aI k), (2, aI z2q), (5, aI x5q), (6, aI x6q), (7, aI x7q)]) cx dX7_askOf_170 (by decide) rfl ?_
                        refine aw_iinc cx dX7_askOf_172 7 rfl (by decide) (by omega) (fun z172q hz172q => ?_)
                        refine aw_loc (loc2 := [(5, aI z172q), (4, aI x4q), (3, aI x3q), (9, aI 0), (8, aI x7q), (0, aR 32), (1, aI k), (2, aI z2q), (6, aI x6q), (7, aI x7q)]) rfl ?_
                        refine aw_goto (tgt := 14) cx dX7_askOf_175 (by decide) ?_
                        refine aw_sub [5, 6, 7, 2, 1, 0] rfl ?_
                        refine ih14q _ _ _  ?i_h0 ?i_hx ?i_m
                        case i_h0 =>
                          omega
                        case i_hx =>
                          have hal : x7q = fAL (fWP (fgT M) (qgT M) (M 0 13).toNat (M 27) (M 28) k.toNat) (fWB (fgT M) (qgT M) k.toNat) x5q.toNat := by
                            rw [show x8q.toNat = 10 by omega] at py pn
                            unfold fAL
                            omega
                          rw [hz172q]
                          exact AMD_no h0q.1 hx (by omega) hal (by omega)
                        case i_m =>
                          omega
                      · exact absurd c160q (by decide)
                    · exact absurd c148q (by decide)
                  · refine aw_iconst (n := 1) cx dX7_askOf_139 (by decide) ?_
                    refine aw_goto (tgt := 144) cx dX7_askOf_140 (by decide) ?_
                    refine aw_istore (loc2 := [(9, aI 1), (8, aI x7q), (0, aR 32), (1, aI k), (2, aI z2q), (3, aI x3q), (4, aI x4q), (5, aI x5q), (6, aI x6q), (7, aI x7q)]) cx dX7_askOf_144 (by decide) rfl ?_
                    refine aw_iload cx dX7_askOf_146 0 rfl ?_
                    refine aw_if_eq (tgt := 156) cx dX7_askOf_148 (by decide) (fun c148q => ?_) (fun c148q => ?_)
                    · exact absurd c148q (by decide)
                    · refine aw_iload cx dX7_askOf_151 7 rfl ?_
                      refine aw_goto (tgt := 157) cx dX7_askOf_153 (by decide) ?_
                      refine aw_istore_n (loc2 := [(3, aI x5q), (9, aI 1), (8, aI x7q), (0, aR 32), (1, aI k), (2, aI z2q), (4, aI x4q), (5, aI x5q), (6, aI x6q), (7, aI x7q)]) cx dX7_askOf_157 rfl (by decide) rfl ?_
                      refine aw_iload cx dX7_askOf_158 1 rfl ?_
                      refine aw_if_eq (tgt := 168) cx dX7_askOf_160 (by decide) (fun c160q => ?_) (fun c160q => ?_)
                      · exact absurd c160q (by decide)
                      · refine aw_iload cx dX7_askOf_163 2 rfl ?_
                        refine aw_goto (tgt := 170) cx dX7_askOf_165 (by decide) ?_
                        refine aw_istore (loc2 := [(4, aI x7q), (3, aI x5q), (9, aI 1), (8, aI x7q), (0, aR 32), (1, aI k), (2, aI z2q), (5, aI x5q), (6, aI x6q), (7, aI x7q)]) cx dX7_askOf_170 (by decide) rfl ?_
                        refine aw_iinc cx dX7_askOf_172 7 rfl (by decide) (by omega) (fun z172q hz172q => ?_)
                        refine aw_loc (loc2 := [(5, aI z172q), (4, aI x7q), (3, aI x5q), (9, aI 1), (8, aI x7q), (0, aR 32), (1, aI k), (2, aI z2q), (6, aI x6q), (7, aI x7q)]) rfl ?_
                        refine aw_goto (tgt := 14) cx dX7_askOf_175 (by decide) ?_
                        refine aw_sub [5, 6, 7, 2, 1, 0] rfl ?_
                        refine ih14q _ _ _  ?i_h0 ?i_hx ?i_m
                        case i_h0 =>
                          omega
                        case i_hx =>
                          have hal : x7q = fAL (fWP (fgT M) (qgT M) (M 0 13).toNat (M 27) (M 28) k.toNat) (fWB (fgT M) (qgT M) k.toNat) x5q.toNat := by
                            rw [show x8q.toNat = 10 by omega] at py pn
                            unfold fAL
                            omega
                          rw [hz172q]
                          exact AMD_up h0q.1 hx (by omega) hal (by omega)
                        case i_m =>
                          omega
              · refine aw_iload cx dX7_askOf_118 6 rfl ?_
                refine aw_goto (tgt := 125) cx dX7_askOf_120 (by decide) ?_
                refine aw_istore (loc2 := [(8, aI x6q), (0, aR 32), (1, aI k), (2, aI z2q), (3, aI x3q), (4, aI x4q), (5, aI x5q), (6, aI x6q), (7, aI x7q)]) cx dX7_askOf_125 (by decide) rfl ?_
                refine aw_iload_n cx dX7_askOf_127 rfl 4 rfl ?_
                refine aw_iconst (n := (-1)) cx dX7_askOf_128 (by decide) ?_
                refine aw_icmp_eq (tgt := 139) cx dX7_askOf_129 (by decide) (fun c129q => ?_) (fun c129q => ?_)
                · refine aw_iconst (n := 1) cx dX7_askOf_139 (by decide) ?_
                  refine aw_goto (tgt := 144) cx dX7_askOf_140 (by decide) ?_
                  refine aw_istore (loc2 := [(9, aI 1), (8, aI x6q), (0, aR 32), (1, aI k), (2, aI z2q), (3, aI x3q), (4, aI x4q), (5, aI x5q), (6, aI x6q), (7, aI x7q)]) cx dX7_askOf_144 (by decide) rfl ?_
                  refine aw_iload cx dX7_askOf_146 0 rfl ?_
                  refine aw_if_eq (tgt := 156) cx dX7_askOf_148 (by decide) (fun c148q => ?_) (fun c148q => ?_)
                  · exact absurd c148q (by decide)
                  · refine aw_iload cx dX7_askOf_151 7 rfl ?_
                    refine aw_goto (tgt := 157) cx dX7_askOf_153 (by decide) ?_
                    refine aw_istore_n (loc2 := [(3, aI x5q), (9, aI 1), (8, aI x6q), (0, aR 32), (1, aI k), (2, aI z2q), (4, aI x4q), (5, aI x5q), (6, aI x6q), (7, aI x7q)]) cx dX7_askOf_157 rfl (by decide) rfl ?_
                    refine aw_iload cx dX7_askOf_158 1 rfl ?_
                    refine aw_if_eq (tgt := 168) cx dX7_askOf_160 (by decide) (fun c160q => ?_) (fun c160q => ?_)
                    · exact absurd c160q (by decide)
                    · refine aw_iload cx dX7_askOf_163 2 rfl ?_
                      refine aw_goto (tgt := 170) cx dX7_askOf_165 (by decide) ?_
                      refine aw_istore (loc2 := [(4, aI x6q), (3, aI x5q), (9, aI 1), (8, aI x6q), (0, aR 32), (1, aI k), (2, aI z2q), (5, aI x5q), (6, aI x6q), (7, aI x7q)]) cx dX7_askOf_170 (by decide) rfl ?_
                      refine aw_iinc cx dX7_askOf_172 7 rfl (by decide) (by omega) (fun z172q hz172q => ?_)
                      refine aw_loc (loc2 := [(5, aI z172q), (4, aI x6q), (3, aI x5q), (9, aI 1), (8, aI x6q), (0, aR 32), (1, aI k), (2, aI z2q), (6, aI x6q), (7, aI x7q)]) rfl ?_
                      refine aw_goto (tgt := 14) cx dX7_askOf_175 (by decide) ?_
                      refine aw_sub [5, 6, 7, 2, 1, 0] rfl ?_
                      refine ih14q _ _ _  ?i_h0 ?i_hx ?i_m
                      case i_h0 =>
                        omega
                      case i_hx =>
                        have hal : x6q = fAL (fWP (fgT M) (qgT M) (M 0 13).toNat (M 27) (M 28) k.toNat) (fWB (fgT M) (qgT M) k.toNat) x5q.toNat := by
                          rw [show x8q.toNat = 10 by omega] at py pn
                          unfold fAL
                          omega
                        rw [hz172q]
                        exact AMD_1 hx (by omega) hal
                      case i_m =>
                        omega
                · refine aw_iload cx dX7_askOf_132 0 rfl ?_
                  refine aw_iload cx dX7_askOf_134 5 rfl ?_
                  refine aw_icmp_ge (tgt := 143) cx dX7_askOf_136 (by decide) (fun c136q => ?_) (fun c136q => ?_)
                  · refine aw_iconst (n := 0) cx dX7_askOf_143 (by decide) ?_
                    refine aw_istore (loc2 := [(9, aI 0), (8, aI x6q), (0, aR 32), (1, aI k), (2, aI z2q), (3, aI x3q), (4, aI x4q), (5, aI x5q), (6, aI x6q), (7, aI x7q)]) cx dX7_askOf_144 (by decide) rfl ?_
                    refine aw_iload cx dX7_askOf_146 0 rfl ?_
                    refine aw_if_eq (tgt := 156) cx dX7_askOf_148 (by decide) (fun c148q => ?_) (fun c148q => ?_)
                    · refine aw_iload_n cx dX7_askOf_156 rfl 5 rfl ?_
                      refine aw_istore_n (loc2 := [(3, aI x3q), (9, aI 0), (8, aI x6q), (0, aR 32), (1, aI k), (2, aI z2q), (4, aI x4q), (5, aI x5q), (6, aI x6q), (7, aI x7q)]) cx dX7_askOf_157 rfl (by decide) rfl ?_
                      refine aw_iload cx dX7_askOf_158 1 rfl ?_
                      refine aw_if_eq (tgt := 168) cx dX7_askOf_160 (by decide) (fun c160q => ?_) (fun c160q => ?_)
                      · refine aw_iload cx dX7_askOf_168 6 rfl ?_
                        refine aw_istore (loc2 := [(4, aI x4q), (3, aI x3q), (9, aI 0), (8, aI x6q), (0, aR 32), (1, aI k), (2, aI z2q), (5, aI x5q), (6, aI x6q), (7, aI x7q)]) cx dX7_askOf_170 (by decide) rfl ?_
                        refine aw_iinc cx dX7_askOf_172 7 rfl (by decide) (by omega) (fun z172q hz172q => ?_)
                        refine aw_loc (loc2 := [(5, aI z172q), (4, aI x4q), (3, aI x3q), (9, aI 0), (8, aI x6q), (0, aR 32), (1, aI k), (2, aI z2q), (6, aI x6q), (7, aI x7q)]) rfl ?_
                        refine aw_goto (tgt := 14) cx dX7_askOf_175 (by decide) ?_
                        refine aw_sub [5, 6, 7, 2, 1, 0] rfl ?_
                        refine ih14q _ _ _  ?i_h0 ?i_hx ?i_m
                        case i_h0 =>
                          omega
                        case i_hx =>
                          have hal : x6q = fAL (fWP (fgT M) (qgT M) (M 0 13).toNat (M 27) (M 28) k.toNat) (fWB (fgT M) (qgT M) k.toNat) x5q.toNat := by
                            rw [show x8q.toNat = 10 by omega] at py pn
                            unfold fAL
                            omega
                          rw [hz172q]
                          exact AMD_no h0q.1 hx (by omega) hal (by omega)
                        case i_m =>
                          omega
                      · exact absurd c160q (by decide)
                    · exact absurd c148q (by decide)
                  · refine aw_iconst (n := 1) cx dX7_askOf_139 (by decide) ?_
                    refine aw_goto (tgt := 144) cx dX7_askOf_140 (by decide) ?_
                    refine aw_istore (loc2 := [(9, aI 1), (8, aI x6q), (0, aR 32), (1, aI k), (2, aI z2q), (3, aI x3q), (4, aI x4q), (5, aI x5q), (6, aI x6q), (7, aI x7q)]) cx dX7_askOf_144 (by decide) rfl ?_
                    refine aw_iload cx dX7_askOf_146 0 rfl ?_
                    refine aw_if_eq (tgt := 156) cx dX7_askOf_148 (by decide) (fun c148q => ?_) (fun c148q => ?_)
                    · exact absurd c148q (by decide)
                    · refine aw_iload cx dX7_askOf_151 7 rfl ?_
                      refine aw_goto (tgt := 157) cx dX7_askOf_153 (by decide) ?_
                      refine aw_istore_n (loc2 := [(3, aI x5q), (9, aI 1), (8, aI x6q), (0, aR 32), (1, aI k), (2, aI z2q), (4, aI x4q), (5, aI x5q), (6, aI x6q), (7, aI x7q)]) cx dX7_askOf_157 rfl (by decide) rfl ?_
                      refine aw_iload cx dX7_askOf_158 1 rfl ?_
                      refine aw_if_eq (tgt := 168) cx dX7_askOf_160 (by decide) (fun c160q => ?_) (fun c160q => ?_)
                      · exact absurd c160q (by decide)
                      · refine aw_iload cx dX7_askOf_163 2 rfl ?_
                        refine aw_goto (tgt := 170) cx dX7_askOf_165 (by decide) ?_
                        refine aw_istore (loc2 := [(4, aI x6q), (3, aI x5q), (9, aI 1), (8, aI x6q), (0, aR 32), (1, aI k), (2, aI z2q), (5, aI x5q), (6, aI x6q), (7, aI x7q)]) cx dX7_askOf_170 (by decide) rfl ?_
                        refine aw_iinc cx dX7_askOf_172 7 rfl (by decide) (by omega) (fun z172q hz172q => ?_)
                        refine aw_loc (loc2 := [(5, aI z172q), (4, aI x6q), (3, aI x5q), (9, aI 1), (8, aI x6q), (0, aR 32), (1, aI k), (2, aI z2q), (6, aI x6q), (7, aI x7q)]) rfl ?_
                        refine aw_goto (tgt := 14) cx dX7_askOf_175 (by decide) ?_
                        refine aw_sub [5, 6, 7, 2, 1, 0] rfl ?_
                        refine ih14q _ _ _  ?i_h0 ?i_hx ?i_m
                        case i_h0 =>
                          omega
                        case i_hx =>
                          have hal : x6q = fAL (fWP (fgT M) (qgT M) (M 0 13).toNat (M 27) (M 28) k.toNat) (fWB (fgT M) (qgT M) k.toNat) x5q.toNat := by
                            rw [show x8q.toNat = 10 by omega] at py pn
                            unfold fAL
                            omega
                          rw [hz172q]
                          exact AMD_up h0q.1 hx (by omega) hal (by omega)
                        case i_m =>
                          omega
            · refine aw_iload cx dX7_askOf_37 6 rfl ?_
              refine aw_iload_n cx dX7_askOf_39 rfl 2 rfl ?_
              refine aw_iload cx dX7_askOf_40 8 rfl ?_
              refine aw_callS (as := [aI z2q, aI x8q]) (stk := [aI x6q]) cx dX7_askOf_42 ml_X7_196 ms_X7_isIn (by decide) rfl rfl (Nat.le_of_ble_eq_true rfl) (ct_X7_isIn tl M_2q _ _ (by omega) (by omega)) (fun rr42q M_42q hp42q => ?_)
              obtain ⟨rfl, rfl⟩ := hp42q
              refine aw_top (stk := [aI x6q]) (fun z42q hz42q => ?_)
              refine aw_if_eq (tgt := 67) cx dX7_askOf_45 (by decide) (fun c45q => ?_) (fun c45q => ?_)
              · have d45q := b2_e0.mp (hz42q.symm.trans c45q)
                refine aw_iconst (n := 0) cx dX7_askOf_67 (by decide) ?_
                refine aw_iadd cx dX7_askOf_68 (by omega) (fun z68q hz68q => ?_)
                refine aw_istore (loc2 := [(6, aI z68q), (0, aR 32), (1, aI k), (2, aI z2q), (3, aI x3q), (4, aI x4q), (5, aI x5q), (7, aI x7q), (8, aI x8q)]) cx dX7_askOf_69 (by decide) rfl ?_
                refine aw_iload cx dX7_askOf_71 7 rfl ?_
                refine aw_iload_n cx dX7_askOf_73 rfl 3 rfl ?_
                refine aw_iload cx dX7_askOf_74 8 rfl ?_
                refine aw_callS (as := [aI z2q, aI x8q]) (stk := [aI x7q]) cx dX7_askOf_76 ml_X7_196 ms_X7_isIn (by decide) rfl rfl (Nat.le_of_ble_eq_true rfl) (ct_X7_isIn tl M_2q _ _ (by omega) (by omega)) (fun rr76q M_76q hp76q => ?_)
                obtain ⟨rfl, rfl⟩ := hp76q
                refine aw_top (stk := [aI x7q]) (fun z76q hz76q => ?_)
                refine aw_if_eq (tgt := 101) cx dX7_askOf_79 (by decide) (fun c79q => ?_) (fun c79q => ?_)
                · have d79q := b2_e0.mp (hz76q.symm.trans c79q)
                  refine aw_iconst (n := 0) cx dX7_askOf_101 (by decide) ?_
                  refine aw_iadd cx dX7_askOf_102 (by omega) (fun z102q hz102q => ?_)
                  refine aw_istore (loc2 := [(7, aI z102q), (6, aI z68q), (0, aR 32), (1, aI k), (2, aI z2q), (3, aI x3q), (4, aI x4q), (5, aI x5q), (8, aI x8q)]) cx dX7_askOf_103 (by decide) rfl ?_
                  refine aw_iinc cx dX7_askOf_105 8 rfl (by decide) (by omega) (fun z105q hz105q => ?_)
                  refine aw_loc (loc2 := [(8, aI z105q), (7, aI z102q), (6, aI z68q), (0, aR 32), (1, aI k), (2, aI z2q), (3, aI x3q), (4, aI x4q), (5, aI x5q)]) rfl ?_
                  refine aw_goto (tgt := 30) cx dX7_askOf_108 (by decide) ?_
                  refine aw_sub [3, 4, 5, 6, 7, 8, 2, 1, 0] rfl ?_
                  refine ih30q _ _ _  ?i_p0 ?i_p1 ?i_py ?i_pn ?i_m
                  case i_p0 =>
                    omega
                  case i_p1 =>
                    omega
                  case i_py =>
                    have hbw := hbt.2.2 x8q.toNat (by omega)
                    rw [hz105q, fTL_i p0.1]
                    first
                    | (rw [bC_f (fun q => d45q (hbw.mpr q.1))]; omega)
                    | (rw [bC_f (fun q => d60q (by rw [hz54q, hcbM_2 x8q.toNat (by omega)]; exact q.2))]; omega)
                    | (rw [bC_t ⟨hbw.mp d45q, by rw [← hcbM_2 x8q.toNat (by omega), ← hz54q]; exact d60q⟩]; omega)
                  case i_pn =>
                    have hbw := hbt.2.2 x8q.toNat (by omega)
                    rw [hz105q, fTL_i p0.1, fFT_i p0.1]
                    have h12q : bC ((fWP (fgT M) (qgT M) (M 0 13).toNat (M 27) (M 28) k.toNat) x8q.toNat) - bC ((fWP (fgT M) (qgT M) (M 0 13).toNat (M 27) (M 28) k.toNat) x8q.toNat ∧ BT ((fWB (fgT M) (qgT M) k.toNat) x8q.toNat) x5q.toNat) = z102q - x7q := by
                      by_cases a1 : (fWP (fgT M) (qgT M) (M 0 13).toNat (M 27) (M 28) k.toNat) x8q.toNat
                      · by_cases a2 : BT ((fWB (fgT M) (qgT M) k.toNat) x8q.toNat) x5q.toNat
                        · rw [bC_t a1, bC_t ⟨a1, a2⟩]
                          first
                          | omega
                          | exact absurd (hbw.mpr a1) d45q
                          | exact absurd (by rw [hz54q, hcbM_2 x8q.toNat (by omega)]; exact a2) d60q
                        · rw [bC_t a1, bC_f (fun q => a2 q.2)]
                          first
                          | omega
                          | exact absurd (hbw.mpr a1) d45q
                          | exact absurd (by rw [← hcbM_2 x8q.toNat (by omega), ← hz54q]; exact d60q) a2
                      · rw [bC_f a1, bC_f (fun q => a1 q.1)]
                        first
                        | omega
                        | exact absurd (hbw.mp d45q) a1
                    omega
                  case i_m =>
                    omega
                · exfalso
                  have d79q := b2_y hz76q c79q
                  exact d45q d79q
              · have d45q := b2_y hz42q c45q
                refine aw_aload_n cx dX7_askOf_48 rfl 0 rfl ?_
                refine aw_getR (q := 59) cx dX7_askOf_49 fl_X7_88 (lb_32 tl) rfl rfl ?_
                refine aw_iload cx dX7_askOf_52 8 rfl ?_
                refine aw_iald cx dX7_askOf_54 (lb_59 tl) (⟨by omega, by omega⟩) (fun z54q hz54q lo_z54q hi_z54q => ?_)
                refine aw_iload cx dX7_askOf_55 5 rfl ?_
                refine aw_callS (as := [aI z54q, aI x5q]) (stk := [aI x6q]) cx dX7_askOf_57 ml_X7_196 ms_X7_isIn (by decide) rfl rfl (Nat.le_of_ble_eq_true rfl) (ct_X7_isIn tl M_2q _ _ (by omega) (by omega)) (fun rr57q M_57q hp57q => ?_)
                obtain ⟨rfl, rfl⟩ := hp57q
                refine aw_top (stk := [aI x6q]) (fun z57q hz57q => ?_)
                refine aw_if_eq (tgt := 67) cx dX7_askOf_60 (by decide) (fun c60q => ?_) (fun c60q => ?_)
                · have d60q := b2_e0.mp (hz57q.symm.trans c60q)
                  refine aw_iconst (n := 0) cx dX7_askOf_67 (by decide) ?_
                  refine aw_iadd cx dX7_askOf_68 (by omega) (fun z68q hz68q => ?_)
                  refine aw_istore (loc2 := [(6, aI z68q), (0, aR 32), (1, aI k), (2, aI z2q), (3, aI x3q), (4, aI x4q), (5, aI x5q), (7, aI x7q), (8, aI x8q)]) cx dX7_askOf_69 (by decide) rfl ?_
                  refine aw_iload cx dX7_askOf_71 7 rfl ?_
                  refine aw_iload_n cx dX7_askOf_73 rfl 3 rfl ?_
                  refine aw_iload cx dX7_askOf_74 8 rfl ?_
                  refine aw_callS (as := [aI z2q, aI x8q]) (stk := [aI x7q]) cx dX7_askOf_76 ml_X7_196 ms_X7_isIn (by decide) rfl rfl (Nat.le_of_ble_eq_true rfl) (ct_X7_isIn tl M_2q _ _ (by omega) (by omega)) (fun rr76q M_76q hp76q => ?_)
                  obtain ⟨rfl, rfl⟩ := hp76q
                  refine aw_top (stk := [aI x7q]) (fun z76q hz76q => ?_)
                  refine aw_if_eq (tgt := 101) cx dX7_askOf_79 (by decide) (fun c79q => ?_) (fun c79q => ?_)
                  · exfalso
                    have d79q := b2_e0.mp (hz76q.symm.trans c79q)
                    exact d79q d45q
                  · have d79q := b2_y hz76q c79q
                    refine aw_aload_n cx dX7_askOf_82 rfl 1 rfl ?_
                    refine aw_getR (q := 59) cx dX7_askOf_83 fl_X7_88 (lb_32 tl) rfl rfl ?_
                    refine aw_iload cx dX7_askOf_86 8 rfl ?_
                    refine aw_iald cx dX7_askOf_88 (lb_59 tl) (⟨by omega, by omega⟩) (fun z88q hz88q lo_z88q hi_z88q => ?_)
                    refine aw_iload cx dX7_askOf_89 6 rfl ?_
                    refine aw_callS (as := [aI z88q, aI x5q]) (stk := [aI x7q]) cx dX7_askOf_91 ml_X7_196 ms_X7_isIn (by decide) rfl rfl (Nat.le_of_ble_eq_true rfl) (ct_X7_isIn tl M_2q _ _ (by omega) (by omega)) (fun rr91q M_91q hp91q => ?_)
                    obtain ⟨rfl, rfl⟩ := hp91q
                    refine aw_top (stk := [aI x7q]) (fun z91q hz91q => ?_)
                    refine aw_if_ne (tgt := 101) cx dX7_askOf_94 (by decide) (fun c94q => ?_) (fun c94q => ?_)
                    · exfalso
                      have d94q := b2_y hz91q c94q
                      rw [hz88q] at d94q; rw [hz54q] at d60q; exact d60q d94q
                    · have d94q := b2_e0.mp (hz91q.symm.trans c94q)
                      refine aw_iconst (n := 1) cx dX7_askOf_97 (by decide) ?_
                      refine aw_goto (tgt := 102) cx dX7_askOf_98 (by decide) ?_
                      refine aw_iadd cx dX7_askOf_102 (by omega) (fun z102q hz102q => ?_)
                      refine aw_istore (loc2 := [(7, aI z102q), (6, aI z68q), (0, aR 32), (1, aI k), (2, aI z2q), (3, aI x3q), (4, aI x4q), (5, aI x5q), (8, aI x8q)]) cx dX7_askOf_103 (by decide) rfl ?_
                      refine aw_iinc cx dX7_askOf_105 8 rfl (by decide) (by omega) (fun z105q hz105q => ?_)
                      refine aw_loc (loc2 := [(8, aI z105q), (7, aI z102q), (6, aI z68q), (0, aR 32), (1, aI k), (2, aI z2q), (3, aI x3q), (4, aI x4q), (5, aI x5q)]) rfl ?_
                      refine aw_goto (tgt := 30) cx dX7_askOf_108 (by decide) ?_
                      refine aw_sub [3, 4, 5, 6, 7, 8, 2, 1, 0] rfl ?_
                      refine ih30q _ _ _  ?i_p0 ?i_p1 ?i_py ?i_pn ?i_m
                      case i_p0 =>
                        omega
                      case i_p1 =>
                        omega
                      case i_py =>
                        have hbw := hbt.2.2 x8q.toNat (by omega)
                        rw [hz105q, fTL_i p0.1]
                        first
                        | (rw [bC_f (fun q => d45q (hbw.mpr q.1))]; omega)
                        | (rw [bC_f (fun q => d60q (by rw [hz54q, hcbM_2 x8q.toNat (by omega)]; exact q.2))]; omega)
                        | (rw [bC_t ⟨hbw.mp d45q, by rw [← hcbM_2 x8q.toNat (by omega), ← hz54q]; exact d60q⟩]; omega)
                      case i_pn =>
                        have hbw := hbt.2.2 x8q.toNat (by omega)
                        rw [hz105q, fTL_i p0.1, fFT_i p0.1]
                        have h12q : bC ((fWP (fgT M) (qgT M) (M 0 13).toNat (M 27) (M 28) k.toNat) x8q.toNat) - bC ((fWP (fgT M) (qgT M) (M 0 13).toNat (M 27) (M 28) k.toNat) x8q.toNat ∧ BT ((fWB (fgT M) (qgT M) k.toNat) x8q.toNat) x5q.toNat) = z102q - x7q := by
                          by_cases a1 : (fWP (fgT M) (qgT M) (M 0 13).toNat (M 27) (M 28) k.toNat) x8q.toNat
                          · by_cases a2 : BT ((fWB (fgT M) (qgT M) k.toNat) x8q.toNat) x5q.toNat
                            · rw [bC_t a1, bC_t ⟨a1, a2⟩]
                              first
                              | omega
                              | exact absurd (hbw.mpr a1) d45q
                              | exact absurd (by rw [hz54q, hcbM_2 x8q.toNat (by omega)]; exact a2) d60q
                            · rw [bC_t a1, bC_f (fun q => a2 q.2)]
                              first
                              | omega
                              | exact absurd (hbw.mpr a1) d45q
                              | exact absurd (by rw [← hcbM_2 x8q.toNat (by omega), ← hz54q]; exact d60q) a2
                          · rw [bC_f a1, bC_f (fun q => a1 q.1)]
                            first
                            | omega
                            | exact absurd (hbw.mp d45q) a1
                        omega
                      case i_m =>
                        omega
                · have d60q := b2_y hz57q c60q
                  refine aw_iconst (n := 1) cx dX7_askOf_63 (by decide) ?_
                  refine aw_goto (tgt := 68) cx dX7_askOf_64 (by decide) ?_
                  refine aw_iadd cx dX7_askOf_68 (by omega) (fun z68q hz68q => ?_)
                  refine aw_istore (loc2 := [(6, aI z68q), (0, aR 32), (1, aI k), (2, aI z2q), (3, aI x3q), (4, aI x4q), (5, aI x5q), (7, aI x7q), (8, aI x8q)]) cx dX7_askOf_69 (by decide) rfl ?_
                  refine aw_iload cx dX7_askOf_71 7 rfl ?_
                  refine aw_iload_n cx dX7_askOf_73 rfl 3 rfl ?_
                  refine aw_iload cx dX7_askOf_74 8 rfl ?_
                  refine aw_callS (as := [aI z2q, aI x8q]) (stk := [aI x7q]) cx dX7_askOf_76 ml_X7_196 ms_X7_isIn (by decide) rfl rfl (Nat.le_of_ble_eq_true rfl) (ct_X7_isIn tl M_2q _ _ (by omega) (by omega)) (fun rr76q M_76q hp76q => ?_)
                  obtain ⟨rfl, rfl⟩ := hp76q
                  refine aw_top (stk := [aI x7q]) (fun z76q hz76q => ?_)
                  refine aw_if_eq (tgt := 101) cx dX7_askOf_79 (by decide) (fun c79q => ?_) (fun c79q => ?_)
                  · exfalso
                    have d79q := b2_e0.mp (hz76q.symm.trans c79q)
                    exact d79q d45q
                  · have d79q := b2_y hz76q c79q
                    refine aw_aload_n cx dX7_askOf_82 rfl 1 rfl ?_
                    refine aw_getR (q := 59) cx dX7_askOf_83 fl_X7_88 (lb_32 tl) rfl rfl ?_
                    refine aw_iload cx dX7_askOf_86 8 rfl ?_
                    refine aw_iald cx dX7_askOf_88 (lb_59 tl) (⟨by omega, by omega⟩) (fun z88q hz88q lo_z88q hi_z88q => ?_)
                    refine aw_iload cx dX7_askOf_89 6 rfl ?_
                    refine aw_callS (as := [aI z88q, aI x5q]) (stk := [aI x7q]) cx dX7_askOf_91 ml_X7_196 ms_X7_isIn (by decide) rfl rfl (Nat.le_of_ble_eq_true rfl) (ct_X7_isIn tl M_2q _ _ (by omega) (by omega)) (fun rr91q M_91q hp91q => ?_)
                    obtain ⟨rfl, rfl⟩ := hp91q
                    refine aw_top (stk := [aI x7q]) (fun z91q hz91q => ?_)
                    refine aw_if_ne (tgt := 101) cx dX7_askOf_94 (by decide) (fun c94q => ?_) (fun c94q => ?_)
                    · have d94q := b2_y hz91q c94q
                      refine aw_iconst (n := 0) cx dX7_askOf_101 (by decide) ?_
                      refine aw_iadd cx dX7_askOf_102 (by omega) (fun z102q hz102q => ?_)
                      refine aw_istore (loc2 := [(7, aI z102q), (6, aI z68q), (0, aR 32), (1, aI k), (2, aI z2q), (3, aI x3q), (4, aI x4q), (5, aI x5q), (8, aI x8q)]) cx dX7_askOf_103 (by decide) rfl ?_
                      refine aw_iinc cx dX7_askOf_105 8 rfl (by decide) (by omega) (fun z105q hz105q => ?_)
                      refine aw_loc (loc2 := [(8, aI z105q), (7, aI z102q), (6, aI z68q), (0, aR 32), (1, aI k), (2, aI z2q), (3, aI x3q), (4, aI x4q), (5, aI x5q)]) rfl ?_
                      refine aw_goto (tgt := 30) cx dX7_askOf_108 (by decide) ?_
                      refine aw_sub [3, 4, 5, 6, 7, 8, 2, 1, 0] rfl ?_
                      refine ih30q _ _ _  ?i_p0 ?i_p1 ?i_py ?i_pn ?i_m
                      case i_p0 =>
                        omega
                      case i_p1 =>
                        omega
                      case i_py =>
                        have hbw := hbt.2.2 x8q.toNat (by omega)
                        rw [hz105q, fTL_i p0.1]
                        first
                        | (rw [bC_f (fun q => d45q (hbw.mpr q.1))]; omega)
                        | (rw [bC_f (fun q => d60q (by rw [hz54q, hcbM_2 x8q.toNat (by omega)]; exact q.2))]; omega)
                        | (rw [bC_t ⟨hbw.mp d45q, by rw [← hcbM_2 x8q.toNat (by omega), ← hz54q]; exact d60q⟩]; omega)
                      case i_pn =>
                        have hbw := hbt.2.2 x8q.toNat (by omega)
                        rw [hz105q, fTL_i p0.1, fFT_i p0.1]
                        have h12q : bC ((fWP (fgT M) (qgT M) (M 0 13).toNat (M 27) (M 28) k.toNat) x8q.toNat) - bC ((fWP (fgT M) (qgT M) (M 0 13).toNat (M 27) (M 28) k.toNat) x8q.toNat ∧ BT ((fWB (fgT M) (qgT M) k.toNat) x8q.toNat) x5q.toNat) = z102q - x7q := by
                          by_cases a1 : (fWP (fgT M) (qgT M) (M 0 13).toNat (M 27) (M 28) k.toNat) x8q.toNat
                          · by_cases a2 : BT ((fWB (fgT M) (qgT M) k.toNat) x8q.toNat) x5q.toNat
                            · rw [bC_t a1, bC_t ⟨a1, a2⟩]
                              first
                              | omega
                              | exact absurd (hbw.mpr a1) d45q
                              | exact absurd (by rw [hz54q, hcbM_2 x8q.toNat (by omega)]; exact a2) d60q
                            · rw [bC_t a1, bC_f (fun q => a2 q.2)]
                              first
                              | omega
                              | exact absurd (hbw.mpr a1) d45q
                              | exact absurd (by rw [← hcbM_2 x8q.toNat (by omega), ← hz54q]; exact d60q) a2
                          · rw [bC_f a1, bC_f (fun q => a1 q.1)]
                            first
                            | omega
                            | exact absurd (hbw.mp d45q) a1
                        omega
                      case i_m =>
                        omega
                    · exfalso
                      have d94q := b2_e0.mp (hz91q.symm.trans c94q)
                      rw [hz88q] at d94q; rw [hz54q] at d60q; exact d94q d60q
        refine aw_sub [3, 4, 5, 6, 7, 8, 2, 1, 0] rfl ?_
        refine lp30q _ _ _ _  ?i_p0 ?i_p1 ?i_py ?i_pn (Nat.lt_succ_self _)
        case i_p0 =>
          omega
        case i_p1 =>
          omega
        case i_py =>
          rfl
        case i_pn =>
          rfl
  refine aw_sub [4, 5, 3, 2, 1, 0] rfl ?_
  refine lp14q _ _ _ _  ?i_h0 ?i_hx (Nat.lt_succ_self _)
  case i_h0 =>
    omega
  case i_hx =>
    exact Or.inl ⟨rfl, rfl⟩
set_option maxHeartbeats 1000000 in
set_option maxRecDepth 100000 in
theorem ct_X7_ask (tl : List CD) (M : Mem) (k : Int) (hj : JQ M) : Ct 9 mX7_ask (LB ++ tl) [aR 32, aI k] M (fun r M1 => ∃ x, r = some (aI x) ∧ FX RC RF M M1 ∧ (aAsk (M 5 4) (fgT M) (qgT M) (M 0 13).toNat (M 27) (M 28) k x)) := by
  refine Ct.of (own := RX7) rfl (by decide +kernel) (Nat.le_of_ble_eq_true rfl) (fun X cx rt => ?_)
  refine aw_eq (loc2 := [(0, aR 32), (1, aI k)]) ?_ rfl rfl rfl rfl
  refine aw_rngL 1 rfl (fun rl_k rh_k => ?_)
  refine aw_ok (fun om => ?_)
  have hsz : 0 ≤ M 5 4 ∧ M 5 4 ≤ 12 := okF om (lb_5 tl) (j := 4) rfl (show (0 : Nat) ≠ 1 by decide)
  refine aw_aload_n cx dX7_ask_0 rfl 0 rfl ?_
  refine aw_iload_n cx dX7_ask_1 rfl 1 rfl ?_
  refine aw_callV (as := [aI k]) (k := 32) (stk := []) cx dX7_ask_2 ml_X7_156 mv_X7_isTale rfl (lb_32 tl) (by decide) rfl rfl (Nat.le_of_ble_eq_true rfl) (ct_X7_isTale tl M _ (hj.1)) (fun rr2q M_2q hp2q => ?_)
  obtain ⟨z2q, rfl, hfxM_2, hrdM_2, hisM_2⟩ := hp2q
  refine aw_eq (stk2 := [aI z2q]) ?_ rfl rfl rfl rfl
  have efg := fg_fx hfxM_2 (by decide)
  refine aw_if_eq (tgt := 16) cx dX7_ask_5 (by decide) (fun c5q => ?_) (fun c5q => ?_)
  · refine aw_bipush (n := (-2)) cx dX7_ask_16 (by decide) ?_
    refine aw_iret cx rt dX7_ask_18 ?_
    first | exact ⟨_, rfl, (hfxM_2.mono (by decide) (by decide)).tr hfxM_10 (by decide) (by decide), hanM_10⟩ | exact ⟨_, rfl, hfxM_2.mono (by decide) (by decide), Or.inl ⟨by omega, rfl⟩⟩
  · refine aw_aload_n cx dX7_ask_8 rfl 0 rfl ?_
    refine aw_iload_n cx dX7_ask_9 rfl 1 rfl ?_
    refine aw_callV (as := [aI k]) (k := 32) (stk := []) cx dX7_ask_10 ml_X7_330 mv_X7_askOf rfl (lb_32 tl) (by decide) rfl rfl (Nat.le_of_ble_eq_true rfl) (ct_X7_askOf tl M_2q _ (JQ_fx hj hfxM_2 (by decide)) (by rw [hfxM_2.at 5 (by decide)]; omega)) (fun rr10q M_10q hp10q => ?_)
    obtain ⟨z10q, rfl, hfxM_10, hrdM_10, hanM_10⟩ := hp10q
    refine aw_eq (stk2 := [aI z10q]) ?_ rfl rfl rfl rfl
    rw [hfxM_2.at 5 (by decide), efg.1, efg.2, hfxM_2.at 0 (by decide), hfxM_2.at 27 (by decide), hfxM_2.at 28 (by decide)] at hanM_10
    refine aw_goto (tgt := 18) cx dX7_ask_13 (by decide) ?_
    refine aw_iret cx rt dX7_ask_18 ?_
    first | exact ⟨_, rfl, (hfxM_2.mono (by decide) (by decide)).tr hfxM_10 (by decide) (by decide), hanM_10⟩ | exact ⟨_, rfl, hfxM_2.mono (by decide) (by decide), Or.inl ⟨by omega, rfl⟩⟩
