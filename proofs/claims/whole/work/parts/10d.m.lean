set_option maxHeartbeats 1000000 in
set_option maxRecDepth 100000 in
theorem ct_X7_fault (tl : List CD) (M : Mem) (text : Int) (hj : JQ M) : Ct 5 mX7_fault (LB ++ tl) [aR 32, aI text] M (fun r M1 => ∃ x, r = some (aI x) ∧ FX RC RF M M1 ∧ (((text < 0 ∨ 1 < text) ∧ x = -2) ∨ (0 ≤ text ∧ text ≤ 1 ∧ aFault M text x))) := by
  refine Ct.of (own := RX7) rfl (by decide +kernel) (Nat.le_of_ble_eq_true rfl) (fun X cx rt => ?_)
  refine aw_eq (loc2 := [(0, aR 32), (1, aI text)]) ?_ rfl rfl rfl rfl
  refine aw_rngL 1 rfl (fun rl_text rh_text => ?_)
  refine aw_iload_n cx dX7_fault_0 rfl 1 rfl ?_
  refine aw_callS (as := [aI text]) (stk := []) cx dX7_fault_1 ml_X7_117 ms_X7_isTwo (by decide) rfl rfl (Nat.le_of_ble_eq_true rfl) (ct_X7_isTwo tl M _ ) (fun rr1q M_1q hp1q => ?_)
  obtain ⟨rfl, rfl⟩ := hp1q
  refine aw_top (stk := []) (fun z1q hz1q => ?_)
  refine aw_if_eq (tgt := 15) cx dX7_fault_4 (by decide) (fun c4q => ?_) (fun c4q => ?_)
  · have d4q := b2_e0.mp (hz1q.symm.trans c4q)
    refine aw_bipush (n := (-2)) cx dX7_fault_15 (by decide) ?_
    refine aw_iret cx rt dX7_fault_17 ?_
    first | exact ⟨_, rfl, hfxM_9.mono (by decide) (by decide), Or.inr ⟨by omega, by omega, hftM_9⟩⟩ | exact ⟨_, rfl, FX.rf, Or.inl ⟨by omega, rfl⟩⟩
  · have d4q := b2_y hz1q c4q
    refine aw_aload_n cx dX7_fault_7 rfl 0 rfl ?_
    refine aw_iload_n cx dX7_fault_8 rfl 1 rfl ?_
    refine aw_callV (as := [aI text]) (k := 32) (stk := []) cx dX7_fault_9 ml_X7_150 mv_X7_faultOf rfl (lb_32 tl) (by decide) rfl rfl (Nat.le_of_ble_eq_true rfl) (ct_X7_faultOf tl M _ (hj.1) (by omega)) (fun rr9q M_9q hp9q => ?_)
    obtain ⟨z9q, rfl, hfxM_9, hrdM_9, hftM_9⟩ := hp9q
    refine aw_eq (stk2 := [aI z9q]) ?_ rfl rfl rfl rfl
    refine aw_goto (tgt := 17) cx dX7_fault_12 (by decide) ?_
    refine aw_iret cx rt dX7_fault_17 ?_
    first | exact ⟨_, rfl, hfxM_9.mono (by decide) (by decide), Or.inr ⟨by omega, by omega, hftM_9⟩⟩ | exact ⟨_, rfl, FX.rf, Or.inl ⟨by omega, rfl⟩⟩
set_option maxHeartbeats 1000000 in
set_option maxRecDepth 100000 in
theorem ct_X7_tellOf (tl : List CD) (M : Mem) (what : Int) (hj : JQ M) : Ct 6 mX7_tellOf (LB ++ tl) [aR 32, aI what] M (fun r M1 => ∃ x, r = some (aI x) ∧ FX RC RF M M1 ∧ RD M1 ∧ ((what = 0 ∧ x = M 5 4) ∨ (what ≠ 0 ∧ x = M 15 2))) := by
  refine Ct.of (own := RX7) rfl (by decide +kernel) (Nat.le_of_ble_eq_true rfl) (fun X cx rt => ?_)
  refine aw_eq (loc2 := [(0, aR 32), (1, aI what)]) ?_ rfl rfl rfl rfl
  refine aw_rngL 1 rfl (fun rl_what rh_what => ?_)
  refine aw_aload_n cx dX7_tellOf_0 rfl 0 rfl ?_
  refine aw_callV (as := []) (k := 32) (stk := []) cx dX7_tellOf_1 ml_X7_153 mv_X7_reads rfl (lb_32 tl) (by decide) rfl rfl (Nat.le_of_ble_eq_true rfl) (ct_X7_reads tl M  (hj.1)) (fun rr1q M_1q hp1q => ?_)
  obtain ⟨rfl, hfxM_1, hrdM_1⟩ := hp1q
  refine aw_eq (stk2 := []) ?_ rfl rfl rfl rfl
  have e2q : M_1q 32 2 = M 5 4 := by rw [hrdM_1.1, hfxM_1.at 5 (by decide)]
  have e7q : M_1q 32 7 = M 15 2 := by rw [hrdM_1.2.2.1, hfxM_1.at 15 (by decide)]
  refine aw_iload_n cx dX7_tellOf_4 rfl 1 rfl ?_
  refine aw_if_ne (tgt := 15) cx dX7_tellOf_5 (by decide) (fun c5q => ?_) (fun c5q => ?_)
  · refine aw_aload_n cx dX7_tellOf_15 rfl 0 rfl ?_
    refine aw_getI cx dX7_tellOf_16 fl_X7_138 (lb_32 tl) rfl (fun z16q hz16q lo_z16q hi_z16q => ?_)
    refine aw_iret cx rt dX7_tellOf_19 ?_
    exact ⟨_, rfl, hfxM_1.mono (by decide) (by decide), hrdM_1, by omega⟩
  · refine aw_aload_n cx dX7_tellOf_8 rfl 0 rfl ?_
    refine aw_getI cx dX7_tellOf_9 fl_X7_135 (lb_32 tl) rfl (fun z9q hz9q lo_z9q hi_z9q => ?_)
    refine aw_goto (tgt := 19) cx dX7_tellOf_12 (by decide) ?_
    refine aw_iret cx rt dX7_tellOf_19 ?_
    exact ⟨_, rfl, hfxM_1.mono (by decide) (by decide), hrdM_1, by omega⟩
set_option maxHeartbeats 1000000 in
set_option maxRecDepth 100000 in
theorem ct_X7_count (tl : List CD) (M : Mem) (what : Int) (hj : JQ M) (hfi : M 32 43 = M 0 14) : Ct 9 mX7_count (LB ++ tl) [aR 32, aI what] M (fun r M1 => ∃ x, r = some (aI x) ∧ FX RC RF M M1 ∧ (aCount M what x)) := by
  refine Ct.of (own := RX7) rfl (by decide +kernel) (Nat.le_of_ble_eq_true rfl) (fun X cx rt => ?_)
  refine aw_eq (loc2 := [(0, aR 32), (1, aI what)]) ?_ rfl rfl rfl rfl
  refine aw_rngL 1 rfl (fun rl_what rh_what => ?_)
  refine aw_iload_n cx dX7_count_0 rfl 1 rfl ?_
  by_cases c1_0q : what = 0
  · refine aw_tabIn (off := 51) (tgt := 52) cx dX7_count_1 (by omega) (by omega) (by rw [c1_0q]; rfl) (by decide) ?_
    refine aw_aload_n cx dX7_count_52 rfl 0 rfl ?_
    refine aw_iload_n cx dX7_count_53 rfl 1 rfl ?_
    refine aw_callV (as := [aI what]) (k := 32) (stk := []) cx dX7_count_54 ml_X7_359 mv_X7_tellOf rfl (lb_32 tl) (by decide) rfl rfl (Nat.le_of_ble_eq_true rfl) (ct_X7_tellOf tl M _ (hj)) (fun rr54q M_54q hp54q => ?_)
    obtain ⟨z54q, rfl, hfxM_54, hrdM_54, hanM_54⟩ := hp54q
    refine aw_eq (stk2 := [aI z54q]) ?_ rfl rfl rfl rfl
    refine aw_iret cx rt dX7_count_57 ?_
    exact ⟨_, rfl, hfxM_54, Or.inr (Or.inl ⟨by omega, by omega⟩)⟩
  by_cases c1_1q : what = 1
  · refine aw_tabIn (off := 51) (tgt := 52) cx dX7_count_1 (by omega) (by omega) (by rw [c1_1q]; rfl) (by decide) ?_
    refine aw_aload_n cx dX7_count_52 rfl 0 rfl ?_
    refine aw_iload_n cx dX7_count_53 rfl 1 rfl ?_
    refine aw_callV (as := [aI what]) (k := 32) (stk := []) cx dX7_count_54 ml_X7_359 mv_X7_tellOf rfl (lb_32 tl) (by decide) rfl rfl (Nat.le_of_ble_eq_true rfl) (ct_X7_tellOf tl M _ (hj)) (fun rr54q M_54q hp54q => ?_)
    obtain ⟨z54q, rfl, hfxM_54, hrdM_54, hanM_54⟩ := hp54q
    refine aw_eq (stk2 := [aI z54q]) ?_ rfl rfl rfl rfl
    refine aw_iret cx rt dX7_count_57 ?_
    exact ⟨_, rfl, hfxM_54, Or.inr (Or.inr (Or.inl ⟨by omega, by omega⟩))⟩
  by_cases c1_2q : what = 2
  · refine aw_tabIn (off := 57) (tgt := 58) cx dX7_count_1 (by omega) (by omega) (by rw [c1_2q]; rfl) (by decide) ?_
    refine aw_aload_n cx dX7_count_58 rfl 0 rfl ?_
    refine aw_getR (q := 33) cx dX7_count_59 fl_X7_7 (lb_32 tl) rfl rfl ?_
    refine aw_iload_n cx dX7_count_62 rfl 1 rfl ?_
    refine aw_iconst (n := 2) cx dX7_count_63 (by decide) ?_
    refine aw_isub cx dX7_count_64 (by omega) (fun z64q hz64q => ?_)
    refine aw_iald cx dX7_count_65 (lb_33 tl) (⟨by omega, by omega⟩) (fun z65q hz65q lo_z65q hi_z65q => ?_)
    refine aw_iret cx rt dX7_count_66 ?_
    have e := hj.1.1
    have q : z65q = M 33 0 := by rw [hz65q, show z64q.toNat = 0 by omega]
    exact ⟨_, rfl, FX.rf, Or.inr (Or.inr (Or.inr (Or.inl ⟨by omega, by omega⟩)))⟩
  by_cases c1_3q : what = 3
  · refine aw_tabIn (off := 57) (tgt := 58) cx dX7_count_1 (by omega) (by omega) (by rw [c1_3q]; rfl) (by decide) ?_
    refine aw_aload_n cx dX7_count_58 rfl 0 rfl ?_
    refine aw_getR (q := 33) cx dX7_count_59 fl_X7_7 (lb_32 tl) rfl rfl ?_
    refine aw_iload_n cx dX7_count_62 rfl 1 rfl ?_
    refine aw_iconst (n := 2) cx dX7_count_63 (by decide) ?_
    refine aw_isub cx dX7_count_64 (by omega) (fun z64q hz64q => ?_)
    refine aw_iald cx dX7_count_65 (lb_33 tl) (⟨by omega, by omega⟩) (fun z65q hz65q lo_z65q hi_z65q => ?_)
    refine aw_iret cx rt dX7_count_66 ?_
    have e := hj.1.2.1
    have q : z65q = M 33 1 := by rw [hz65q, show z64q.toNat = 1 by omega]
    exact ⟨_, rfl, FX.rf, Or.inr (Or.inr (Or.inr (Or.inr (Or.inl ⟨by omega, by omega⟩))))⟩
  by_cases c1_4q : what = 4
  · refine aw_tabIn (off := 66) (tgt := 67) cx dX7_count_1 (by omega) (by omega) (by rw [c1_4q]; rfl) (by decide) ?_
    refine aw_aload_n cx dX7_count_67 rfl 0 rfl ?_
    refine aw_getI cx dX7_count_68 fl_X7_107 (lb_32 tl) rfl (fun z68q hz68q lo_z68q hi_z68q => ?_)
    refine aw_iret cx rt dX7_count_71 ?_
    have e := hj.2.2.1
    exact ⟨_, rfl, FX.rf, Or.inr (Or.inr (Or.inr (Or.inr (Or.inr (Or.inl ⟨by omega, by omega⟩)))))⟩
  by_cases c1_5q : what = 5
  · refine aw_tabIn (off := 71) (tgt := 72) cx dX7_count_1 (by omega) (by omega) (by rw [c1_5q]; rfl) (by decide) ?_
    refine aw_aload_n cx dX7_count_72 rfl 0 rfl ?_
    refine aw_getI cx dX7_count_73 fl_X7_171 (lb_32 tl) rfl (fun z73q hz73q lo_z73q hi_z73q => ?_)
    refine aw_iret cx rt dX7_count_76 ?_
    have e := hj.2.1.1
    exact ⟨_, rfl, FX.rf, Or.inr (Or.inr (Or.inr (Or.inr (Or.inr (Or.inr (Or.inl ⟨by omega, by omega⟩))))))⟩
  by_cases c1_6q : what = 6
  · refine aw_tabIn (off := 76) (tgt := 77) cx dX7_count_1 (by omega) (by omega) (by rw [c1_6q]; rfl) (by decide) ?_
    refine aw_aload_n cx dX7_count_77 rfl 0 rfl ?_
    refine aw_iconst (n := 0) cx dX7_count_78 (by decide) ?_
    refine aw_callV (as := [aI 0]) (k := 32) (stk := []) cx dX7_count_79 ml_X7_269 mv_X7_sumOf rfl (lb_32 tl) (by decide) rfl rfl (Nat.le_of_ble_eq_true rfl) (ct_X7_sumOf tl M _ (hj) (by omega)) (fun rr79q M_79q hp79q => ?_)
    obtain ⟨z79q, rfl, hfxM_79, hrdM_79, hanM_79⟩ := hp79q
    refine aw_eq (stk2 := [aI z79q]) ?_ rfl rfl rfl rfl
    refine aw_iret cx rt dX7_count_82 ?_
    have q : z79q = PCN (fCB (-1) (fgT M) (qgT M)) := by
      rcases hanM_79 with q | q | q | q | q
      · omega
      · exact q.2
      · omega
      · omega
      · omega
    exact ⟨_, rfl, hfxM_79, Or.inr (Or.inr (Or.inr (Or.inr (Or.inr (Or.inr (Or.inr (Or.inl ⟨by omega, q⟩)))))))⟩
  by_cases c1_7q : what = 7
  · refine aw_tabIn (off := 82) (tgt := 83) cx dX7_count_1 (by omega) (by omega) (by rw [c1_7q]; rfl) (by decide) ?_
    refine aw_aload_n cx dX7_count_83 rfl 0 rfl ?_
    refine aw_getI cx dX7_count_84 fl_X7_314 (lb_32 tl) rfl (fun z84q hz84q lo_z84q hi_z84q => ?_)
    refine aw_iret cx rt dX7_count_87 ?_
    have e := hj.2.2.2.1
    exact ⟨_, rfl, FX.rf, Or.inr (Or.inr (Or.inr (Or.inr (Or.inr (Or.inr (Or.inr (Or.inr (Or.inl ⟨by omega, by omega⟩))))))))⟩
  by_cases c1_8q : what = 8
  · refine aw_tabIn (off := 87) (tgt := 88) cx dX7_count_1 (by omega) (by omega) (by rw [c1_8q]; rfl) (by decide) ?_
    refine aw_aload_n cx dX7_count_88 rfl 0 rfl ?_
    refine aw_getI cx dX7_count_89 fl_X7_349 (lb_32 tl) rfl (fun z89q hz89q lo_z89q hi_z89q => ?_)
    refine aw_iret cx rt dX7_count_92 ?_
    exact ⟨_, rfl, FX.rf, Or.inr (Or.inr (Or.inr (Or.inr (Or.inr (Or.inr (Or.inr (Or.inr (Or.inr (⟨by omega, by omega⟩)))))))))⟩
  refine aw_tabOut (tgt := 93) cx dX7_count_1 (by omega) (by decide) ?_
  refine aw_bipush (n := (-2)) cx dX7_count_93 (by decide) ?_
  refine aw_iret cx rt dX7_count_95 ?_
  exact ⟨_, rfl, FX.rf, Or.inl ⟨by omega, rfl⟩⟩
set_option maxHeartbeats 1000000 in
set_option maxRecDepth 100000 in
theorem ct_X7_taleDigest (tl : List CD) (M : Mem) (h k : Int) (hj : JQ M) (hrd : RD M) (hk : 0 ≤ k ∧ k < M 5 4) : Ct 9 mX7_taleDigest (LB ++ tl) [aR 32, aL h, aI k] M (fun r M1 => ∃ x, r = some (aL x) ∧ FX RC RF M M1 ∧ RD M1 ∧ x = dgT1 M h k) := by
  refine Ct.of (own := RX7) rfl (by decide +kernel) (Nat.le_of_ble_eq_true rfl) (fun X cx rt => ?_)
  refine aw_eq (loc2 := [(0, aR 32), (1, aL h), (3, aI k)]) ?_ rfl rfl rfl rfl
  refine aw_rngL 2 rfl (fun rl_k rh_k => ?_)
  refine aw_ok (fun om => ?_)
  have hsz : 0 ≤ M 5 4 ∧ M 5 4 ≤ 12 := okF om (lb_5 tl) (j := 4) rfl (show (0 : Nat) ≠ 1 by decide)
  refine aw_lload_n cx dX7_taleDigest_0 rfl 1 rfl ?_
  refine aw_lstore (loc2 := [(4, aL h), (0, aR 32), (1, aL h), (3, aI k)]) cx dX7_taleDigest_1 (by decide) rfl ?_
  refine aw_iconst (n := 0) cx dX7_taleDigest_3 (by decide) ?_
  refine aw_istore (loc2 := [(6, aI 0), (4, aL h), (0, aR 32), (1, aL h), (3, aI k)]) cx dX7_taleDigest_4 (by decide) rfl ?_
  have lp6q : ∀ (fu : Nat) (x4q : Int) (x6q : Int), (0 ≤ x6q ∧ x6q ≤ 4) → (x4q = lpD (dTale M k) h x6q.toNat) → ((4 - x6q).toNat) < fu → AW X (LB ++ tl) 7 6 [(0, aR 32), (1, aL h), (3, aI k), (4, aL x4q), (6, aI x6q)] [] M := by
    intro fu
    induction fu with
    | zero =>
      intro x4q x6q h1q hx1 hm
      exact absurd hm (Nat.not_lt_zero _)
    | succ fu ih6q =>
      intro x4q x6q h1q hx1 hm
      refine aw_iload cx dX7_taleDigest_6 4 rfl ?_
      refine aw_iconst (n := 4) cx dX7_taleDigest_8 (by decide) ?_
      refine aw_icmp_ge (tgt := 35) cx dX7_taleDigest_9 (by decide) (fun c9q => ?_) (fun c9q => ?_)
      · refine aw_iconst (n := 0) cx dX7_taleDigest_35 (by decide) ?_
        refine aw_istore (loc2 := [(6, aI 0), (0, aR 32), (1, aL h), (3, aI k), (4, aL x4q)]) cx dX7_taleDigest_36 (by decide) rfl ?_
        have lp38q : ∀ (fu : Nat) (x4q : Int) (x6q : Int) (N38q : Mem), (0 ≤ x6q ∧ x6q ≤ 3) → (FX RC RF M N38q) → (RD N38q) → (x4q = lpD (dStands M k) (lpD (dTale M k) h 4) x6q.toNat) → ((3 - x6q).toNat) < fu → AW X (LB ++ tl) 7 38 [(0, aR 32), (1, aL h), (3, aI k), (4, aL x4q), (6, aI x6q)] [] N38q := by
          intro fu
          induction fu with
          | zero =>
            intro x4q x6q N38q h2q hf hr2q hx2 hm
            exact absurd hm (Nat.not_lt_zero _)
          | succ fu ih38q =>
            intro x4q x6q N38q h2q hf hr2q hx2 hm
            refine aw_iload cx dX7_taleDigest_38 4 rfl ?_
            refine aw_iconst (n := 3) cx dX7_taleDigest_40 (by decide) ?_
            refine aw_icmp_ge (tgt := 67) cx dX7_taleDigest_41 (by decide) (fun c41q => ?_) (fun c41q => ?_)
            · rw [show x6q.toNat = 3 by omega] at hx2
              refine aw_ldc2 (x := 31) cx dX7_taleDigest_67 kc_X7_362 (by decide +kernel) ?_
              refine aw_lload cx dX7_taleDigest_70 3 rfl ?_
              refine aw_lmulW cx dX7_taleDigest_72 (fun z72q hz72q => ?_)
              refine aw_aload_n cx dX7_taleDigest_73 rfl 0 rfl ?_
              refine aw_iload_n cx dX7_taleDigest_74 rfl 2 rfl ?_
              refine aw_iconst (n := 0) cx dX7_taleDigest_75 (by decide) ?_
              refine aw_callV (as := [aI k, aI 0]) (k := 32) (stk := [aL z72q]) cx dX7_taleDigest_76 ml_X7_296 mv_X7_moveOf rfl (lb_32 tl) (by decide) rfl rfl (Nat.le_of_ble_eq_true rfl) (ct_X7_moveOf tl N38q _ _ (JQ_fx hj hf (by decide)) (by rw [hf.at 5 (by decide)]; omega) (by omega)) (fun rr76q M_76q hp76q => ?_)
              obtain ⟨z76q, rfl, hfxM_76, hrdM_76, hanM_76⟩ := hp76q
              refine aw_eq (stk2 := [aI z76q, aL z72q]) ?_ rfl rfl rfl rfl
              have f76 : FX RC RF M M_76q := hf.tr hfxM_76 (by decide) (by decide)
              have r76 : z76q = dMove M k 0 := pk_e (by have q := hanM_76; rw [hf.at 5 (by decide), (fg_fx hf (by decide)).1, (fg_fx hf (by decide)).2] at q; exact q) (fun _ _ => aPick_u)
              refine aw_i2l cx dX7_taleDigest_79 ?_
              refine aw_laddW cx dX7_taleDigest_80 (fun z80q hz80q => ?_)
              refine aw_lstore (loc2 := [(4, aL z80q), (0, aR 32), (1, aL h), (3, aI k), (6, aI x6q)]) cx dX7_taleDigest_81 (by decide) rfl ?_
              refine aw_ldc2 (x := 31) cx dX7_taleDigest_83 kc_X7_362 (by decide +kernel) ?_
              refine aw_lload cx dX7_taleDigest_86 0 rfl ?_
              refine aw_lmulW cx dX7_taleDigest_88 (fun z88q hz88q => ?_)
              refine aw_aload_n cx dX7_taleDigest_89 rfl 1 rfl ?_
              refine aw_iload_n cx dX7_taleDigest_90 rfl 3 rfl ?_
              refine aw_iconst (n := 1) cx dX7_taleDigest_91 (by decide) ?_
              refine aw_callV (as := [aI k, aI 1]) (k := 32) (stk := [aL z88q]) cx dX7_taleDigest_92 ml_X7_296 mv_X7_moveOf rfl (lb_32 tl) (by decide) rfl rfl (Nat.le_of_ble_eq_true rfl) (ct_X7_moveOf tl M_76q _ _ (JQ_fx hj f76 (by decide)) (by rw [f76.at 5 (by decide)]; omega) (by omega)) (fun rr92q M_92q hp92q => ?_)
              obtain ⟨z92q, rfl, hfxM_92, hrdM_92, hanM_92⟩ := hp92q
              refine aw_eq (stk2 := [aI z92q, aL z88q]) ?_ rfl rfl rfl rfl
              have f92 : FX RC RF M M_92q := f76.tr hfxM_92 (by decide) (by decide)
              have r92 : z92q = dMove M k 1 := pk_e (by have q := hanM_92; rw [f76.at 5 (by decide), (fg_fx f76 (by decide)).1, (fg_fx f76 (by decide)).2] at q; exact q) (fun _ _ => aPick_u)
              refine aw_i2l cx dX7_taleDigest_95 ?_
              refine aw_laddW cx dX7_taleDigest_96 (fun z96q hz96q => ?_)
              refine aw_lstore (loc2 := [(4, aL z96q), (0, aR 32), (1, aL h), (3, aI k), (6, aI x6q)]) cx dX7_taleDigest_97 (by decide) rfl ?_
              refine aw_ldc2 (x := 31) cx dX7_taleDigest_99 kc_X7_362 (by decide +kernel) ?_
              refine aw_lload cx dX7_taleDigest_102 0 rfl ?_
              refine aw_lmulW cx dX7_taleDigest_104 (fun z104q hz104q => ?_)
              refine aw_aload_n cx dX7_taleDigest_105 rfl 1 rfl ?_
              refine aw_iload_n cx dX7_taleDigest_106 rfl 3 rfl ?_
              refine aw_callV (as := [aI k]) (k := 32) (stk := [aL z104q]) cx dX7_taleDigest_107 ml_X7_324 mv_X7_whoseBy rfl (lb_32 tl) (by decide) rfl rfl (Nat.le_of_ble_eq_true rfl) (ct_X7_whoseBy tl M_92q _ (JQ_fx hj f92 (by decide)) (by rw [f92.at 5 (by decide)]; omega)) (fun rr107q M_107q hp107q => ?_)
              obtain ⟨z107q, rfl, hfxM_107, hrdM_107, hanM_107, hcbM_107⟩ := hp107q
              refine aw_eq (stk2 := [aI z107q, aL z104q]) ?_ rfl rfl rfl rfl
              have f107 : FX RC RF M M_107q := f92.tr hfxM_107 (by decide) (by decide)
              have r107 : z107q = dWas M k 0 := pk_e (by have q := hanM_107; rw [(fg_fx f92 (by decide)).1, (fg_fx f92 (by decide)).2, f92.at 0 (by decide), f92.at 27 (by decide), f92.at 28 (by decide)] at q; exact Or.inr ⟨by omega, by omega, Or.inl ⟨rfl, q⟩⟩) (fun _ _ => aWas_u)
              refine aw_i2l cx dX7_taleDigest_110 ?_
              refine aw_laddW cx dX7_taleDigest_111 (fun z111q hz111q => ?_)
              refine aw_lstore (loc2 := [(4, aL z111q), (0, aR 32), (1, aL h), (3, aI k), (6, aI x6q)]) cx dX7_taleDigest_112 (by decide) rfl ?_
              refine aw_ldc2 (x := 31) cx dX7_taleDigest_114 kc_X7_362 (by decide +kernel) ?_
              refine aw_lload cx dX7_taleDigest_117 0 rfl ?_
              refine aw_lmulW cx dX7_taleDigest_119 (fun z119q hz119q => ?_)
              refine aw_aload_n cx dX7_taleDigest_120 rfl 1 rfl ?_
              refine aw_iload_n cx dX7_taleDigest_121 rfl 3 rfl ?_
              refine aw_callV (as := [aI k]) (k := 32) (stk := [aL z119q]) cx dX7_taleDigest_122 ml_X7_327 mv_X7_sortsBy rfl (lb_32 tl) (by decide) rfl rfl (Nat.le_of_ble_eq_true rfl) (ct_X7_sortsBy tl M_107q _ (JQ_fx hj f107 (by decide)) (by rw [f107.at 5 (by decide)]; omega)) (fun rr122q M_122q hp122q => ?_)
              obtain ⟨z122q, rfl, hfxM_122, hrdM_122, hanM_122⟩ := hp122q
              refine aw_eq (stk2 := [aI z122q, aL z119q]) ?_ rfl rfl rfl rfl
              have f122 : FX RC RF M M_122q := f107.tr hfxM_122 (by decide) (by decide)
              have r122 : z122q = dWas M k 1 := pk_e (by have q := hanM_122; rw [(fg_fx f107 (by decide)).1, (fg_fx f107 (by decide)).2, f107.at 0 (by decide), f107.at 27 (by decide), f107.at 28 (by decide)] at q; exact Or.inr ⟨by omega, by omega, Or.inr ⟨rfl, q⟩⟩) (fun _ _ => aWas_u)
              refine aw_i2l cx dX7_taleDigest_125 ?_
              refine aw_laddW cx dX7_taleDigest_126 (fun z126q hz126q => ?_)
              refine aw_lstore (loc2 := [(4, aL z126q), (0, aR 32), (1, aL h), (3, aI k), (6, aI x6q)]) cx dX7_taleDigest_127 (by decide) rfl ?_
              refine aw_ldc2 (x := 31) cx dX7_taleDigest_129 kc_X7_362 (by decide +kernel) ?_
              refine aw_lload cx dX7_taleDigest_132 0 rfl ?_
              refine aw_lmulW cx dX7_taleDigest_134 (fun z134q hz134q => ?_)
              refine aw_aload_n cx dX7_taleDigest_135 rfl 1 rfl ?_
              refine aw_iload_n cx dX7_taleDigest_136 rfl 3 rfl ?_
              refine aw_callV (as := [aI k]) (k := 32) (stk := [aL z134q]) cx dX7_taleDigest_137 ml_X7_330 mv_X7_askOf rfl (lb_32 tl) (by decide) rfl rfl (Nat.le_of_ble_eq_true rfl) (ct_X7_askOf tl M_122q _ (JQ_fx hj f122 (by decide)) (by rw [f122.at 5 (by decide)]; omega)) (fun rr137q M_137q hp137q => ?_)
              obtain ⟨z137q, rfl, hfxM_137, hrdM_137, hanM_137⟩ := hp137q
              refine aw_eq (stk2 := [aI z137q, aL z134q]) ?_ rfl rfl rfl rfl
              have f137 : FX RC RF M M_137q := f122.tr hfxM_137 (by decide) (by decide)
              have r137 : z137q = dAsk M k := pk_e (by have q := hanM_137; rw [f122.at 5 (by decide), (fg_fx f122 (by decide)).1, (fg_fx f122 (by decide)).2, f122.at 0 (by decide), f122.at 27 (by decide), f122.at 28 (by decide)] at q; exact q) (fun _ _ => aAsk_u)
              refine aw_i2l cx dX7_taleDigest_140 ?_
              refine aw_laddW cx dX7_taleDigest_141 (fun z141q hz141q => ?_)
              refine aw_lret cx rt dX7_taleDigest_142 ?_
              refine ⟨_, rfl, f137, hrdM_137, ?_⟩
              unfold dgT1
              rw [hz141q, hz134q, r137, hz126q, hz119q, r122, hz111q, hz104q, r107, hz96q, hz88q, r92, hz80q, hz72q, r76, hx2]
              rfl
            · refine aw_ldc2 (x := 31) cx dX7_taleDigest_44 kc_X7_362 (by decide +kernel) ?_
              refine aw_lload cx dX7_taleDigest_47 3 rfl ?_
              refine aw_lmulW cx dX7_taleDigest_49 (fun z49q hz49q => ?_)
              refine aw_aload_n cx dX7_taleDigest_50 rfl 0 rfl ?_
              refine aw_iload_n cx dX7_taleDigest_51 rfl 2 rfl ?_
              refine aw_iload cx dX7_taleDigest_52 4 rfl ?_
              refine aw_callV (as := [aI k, aI x6q]) (k := 32) (stk := [aL z49q]) cx dX7_taleDigest_54 ml_X7_246 mv_X7_standsOf rfl (lb_32 tl) (by decide) rfl rfl (Nat.le_of_ble_eq_true rfl) (ct_X7_standsOf tl N38q _ _ (JQ_fx hj hf (by decide)) (by rw [hf.at 5 (by decide)]; omega) (by omega)) (fun rr54q M_54q hp54q => ?_)
              obtain ⟨z54q, rfl, hfxM_54, hrdM_54, hanM_54⟩ := hp54q
              refine aw_eq (stk2 := [aI z54q, aL z49q]) ?_ rfl rfl rfl rfl
              have f54 : FX RC RF M M_54q := hf.tr hfxM_54 (by decide) (by decide)
              have r54 : z54q = dStands M k x6q.toNat := pk_e (by rw [show ((x6q.toNat : Nat) : Int) = x6q by omega]; have q := hanM_54; rw [hf.at 5 (by decide), (fg_fx hf (by decide)).1] at q; exact q) (fun _ _ => aStands_u)
              refine aw_i2l cx dX7_taleDigest_57 ?_
              refine aw_laddW cx dX7_taleDigest_58 (fun z58q hz58q => ?_)
              refine aw_lstore (loc2 := [(4, aL z58q), (0, aR 32), (1, aL h), (3, aI k), (6, aI x6q)]) cx dX7_taleDigest_59 (by decide) rfl ?_
              refine aw_iinc cx dX7_taleDigest_61 4 rfl (by decide) (by omega) (fun z61q hz61q => ?_)
              refine aw_loc (loc2 := [(6, aI z61q), (4, aL z58q), (0, aR 32), (1, aL h), (3, aI k)]) rfl ?_
              refine aw_goto (tgt := 38) cx dX7_taleDigest_64 (by decide) ?_
              refine aw_sub [2, 3, 4, 1, 0] rfl ?_
              refine ih38q _ _ _  ?i_h2 ?i_hf ?i_hr2 ?i_hx2 ?i_m
              case i_h2 =>
                omega
              case i_hf =>
                exact f54
              case i_hr2 =>
                exact hrdM_54
              case i_hx2 =>
                rw [hz61q, lpD_i h2q.1, hz58q, hz49q, r54, hx2]; rfl
              case i_m =>
                omega
        refine aw_sub [1, 2, 3, 4, 0] rfl ?_
        refine lp38q _ _ _ _  ?i_h2 ?i_hf ?i_hr2 ?i_hx2 (Nat.lt_succ_self _)
        case i_h2 =>
          omega
        case i_hf =>
          exact FX.rf
        case i_hr2 =>
          exact hrd
        case i_hx2 =>
          rw [hx1, show x6q.toNat = 4 by omega]; rfl
      · refine aw_ldc2 (x := 31) cx dX7_taleDigest_12 kc_X7_362 (by decide +kernel) ?_
        refine aw_lload cx dX7_taleDigest_15 3 rfl ?_
        refine aw_lmulW cx dX7_taleDigest_17 (fun z17q hz17q => ?_)
        refine aw_aload_n cx dX7_taleDigest_18 rfl 0 rfl ?_
        refine aw_iload_n cx dX7_taleDigest_19 rfl 2 rfl ?_
        refine aw_iload cx dX7_taleDigest_20 4 rfl ?_
        refine aw_callV (as := [aI k, aI x6q]) (k := 32) (stk := [aL z17q]) cx dX7_taleDigest_22 ml_X7_159 mv_X7_taleOf rfl (lb_32 tl) (by decide) rfl rfl (Nat.le_of_ble_eq_true rfl) (ct_X7_taleOf tl M _ _ (by omega)) (fun rr22q M_22q hp22q => ?_)
        obtain ⟨rfl, z22q, rfl, htoz22⟩ := hp22q
        refine aw_eq (stk2 := [aI z22q, aL z17q]) ?_ rfl rfl rfl rfl
        have r22 : z22q = dTale M k x6q.toNat := pk_e (by rw [show ((x6q.toNat : Nat) : Int) = x6q by omega]; have q := hrd.2.1 k.toNat (by omega); unfold aTale; omega) (fun _ _ => aTale_u)
        refine aw_i2l cx dX7_taleDigest_25 ?_
        refine aw_laddW cx dX7_taleDigest_26 (fun z26q hz26q => ?_)
        refine aw_lstore (loc2 := [(4, aL z26q), (0, aR 32), (1, aL h), (3, aI k), (6, aI x6q)]) cx dX7_taleDigest_27 (by decide) rfl ?_
        refine aw_iinc cx dX7_taleDigest_29 4 rfl (by decide) (by omega) (fun z29q hz29q => ?_)
        refine aw_loc (loc2 := [(6, aI z29q), (4, aL z26q), (0, aR 32), (1, aL h), (3, aI k)]) rfl ?_
        refine aw_goto (tgt := 6) cx dX7_taleDigest_32 (by decide) ?_
        refine aw_sub [2, 3, 4, 1, 0] rfl ?_
        refine ih6q _ _  ?i_h1 ?i_hx1 ?i_m
        case i_h1 =>
          omega
        case i_hx1 =>
          rw [hz29q, lpD_i h1q.1, hz26q, hz17q, r22, hx1]; rfl
        case i_m =>
          omega
  refine aw_sub [2, 3, 4, 1, 0] rfl ?_
  refine lp6q _ _ _  ?i_h1 ?i_hx1 (Nat.lt_succ_self _)
  case i_h1 =>
    omega
  case i_hx1 =>
    rfl
set_option maxHeartbeats 1000000 in
set_option maxRecDepth 100000 in
theorem ct_X7_chargeDigest (tl : List CD) (M : Mem) (h c : Int) (hj : JQ M) (hrd : RD M) (hc : 0 ≤ c ∧ c < M 15 2) : Ct 9 mX7_chargeDigest (LB ++ tl) [aR 32, aL h, aI c] M (fun r M1 => ∃ x, r = some (aL x) ∧ FX RC RF M M1 ∧ RD M1 ∧ x = dgC1 M h c) := by
  refine Ct.of (own := RX7) rfl (by decide +kernel) (Nat.le_of_ble_eq_true rfl) (fun X cx rt => ?_)
  refine aw_eq (loc2 := [(0, aR 32), (1, aL h), (3, aI c)]) ?_ rfl rfl rfl rfl
  refine aw_rngL 2 rfl (fun rl_c rh_c => ?_)
  refine aw_ok (fun om => ?_)
  have hcz : 0 ≤ M 15 2 ∧ M 15 2 ≤ 8 := okF om (lb_15 tl) (j := 2) rfl (show (0 : Nat) ≠ 1 by decide)
  refine aw_ldc2 (x := 31) cx dX7_chargeDigest_0 kc_X7_362 (by decide +kernel) ?_
  refine aw_lload_n cx dX7_chargeDigest_3 rfl 1 rfl ?_
  refine aw_lmulW cx dX7_chargeDigest_4 (fun z4q hz4q => ?_)
  refine aw_aload_n cx dX7_chargeDigest_5 rfl 0 rfl ?_
  refine aw_iload_n cx dX7_chargeDigest_6 rfl 2 rfl ?_
  refine aw_iconst (n := 0) cx dX7_chargeDigest_7 (by decide) ?_
  refine aw_callV (as := [aI c, aI 0]) (k := 32) (stk := [aL z4q]) cx dX7_chargeDigest_8 ml_X7_165 mv_X7_chargeOf rfl (lb_32 tl) (by decide) rfl rfl (Nat.le_of_ble_eq_true rfl) (ct_X7_chargeOf tl M _ _ (by omega)) (fun rr8q M_8q hp8q => ?_)
  obtain ⟨rfl, z8q, rfl, htoz8⟩ := hp8q
  refine aw_eq (stk2 := [aI z8q, aL z4q]) ?_ rfl rfl rfl rfl
  have r8 : z8q = dCharge M c 0 := pk_e (by have q := hrd.2.2.2 c.toNat (by omega); unfold aCharge; omega) (fun _ _ => aCharge_u)
  refine aw_i2l cx dX7_chargeDigest_11 ?_
  refine aw_laddW cx dX7_chargeDigest_12 (fun z12q hz12q => ?_)
  refine aw_lstore (loc2 := [(4, aL z12q), (0, aR 32), (1, aL h), (3, aI c)]) cx dX7_chargeDigest_13 (by decide) rfl ?_
  refine aw_ldc2 (x := 31) cx dX7_chargeDigest_15 kc_X7_362 (by decide +kernel) ?_
  refine aw_lload cx dX7_chargeDigest_18 0 rfl ?_
  refine aw_lmulW cx dX7_chargeDigest_20 (fun z20q hz20q => ?_)
  refine aw_aload_n cx dX7_chargeDigest_21 rfl 1 rfl ?_
  refine aw_iload_n cx dX7_chargeDigest_22 rfl 3 rfl ?_
  refine aw_iconst (n := 1) cx dX7_chargeDigest_23 (by decide) ?_
  refine aw_callV (as := [aI c, aI 1]) (k := 32) (stk := [aL z20q]) cx dX7_chargeDigest_24 ml_X7_165 mv_X7_chargeOf rfl (lb_32 tl) (by decide) rfl rfl (Nat.le_of_ble_eq_true rfl) (ct_X7_chargeOf tl M _ _ (by omega)) (fun rr24q M_24q hp24q => ?_)
  obtain ⟨rfl, z24q, rfl, htoz24⟩ := hp24q
  refine aw_eq (stk2 := [aI z24q, aL z20q]) ?_ rfl rfl rfl rfl
  have r24 : z24q = dCharge M c 1 := pk_e (by have q := hrd.2.2.2 c.toNat (by omega); unfold aCharge; omega) (fun _ _ => aCharge_u)
  have f0 : FX RC RF M M := FX.rf
  refine aw_i2l cx dX7_chargeDigest_27 ?_
  refine aw_laddW cx dX7_chargeDigest_28 (fun z28q hz28q => ?_)
  refine aw_lstore (loc2 := [(4, aL z28q), (0, aR 32), (1, aL h), (3, aI c)]) cx dX7_chargeDigest_29 (by decide) rfl ?_
  refine aw_ldc2 (x := 31) cx dX7_chargeDigest_31 kc_X7_362 (by decide +kernel) ?_
  refine aw_lload cx dX7_chargeDigest_34 0 rfl ?_
  refine aw_lmulW cx dX7_chargeDigest_36 (fun z36q hz36q => ?_)
  refine aw_aload_n cx dX7_chargeDigest_37 rfl 1 rfl ?_
  refine aw_iload_n cx dX7_chargeDigest_38 rfl 3 rfl ?_
  refine aw_callV (as := [aI c]) (k := 32) (stk := [aL z36q]) cx dX7_chargeDigest_39 ml_X7_252 mv_X7_beliefOf rfl (lb_32 tl) (by decide) rfl rfl (Nat.le_of_ble_eq_true rfl) (ct_X7_beliefOf tl M _ (JQ_fx hj f0 (by decide)) (by rw [f0.at 15 (by decide)]; omega)) (fun rr39q M_39q hp39q => ?_)
  obtain ⟨z39q, rfl, hfxM_39, hrdM_39, hanM_39⟩ := hp39q
  refine aw_eq (stk2 := [aI z39q, aL z36q]) ?_ rfl rfl rfl rfl
  have f39 : FX RC RF M M_39q := f0.tr hfxM_39 (by decide) (by decide)
  have r39 : z39q = dBelief M c := pk_e (by have q := hanM_39; exact q) (fun _ _ => aBelief_u)
  refine aw_i2l cx dX7_chargeDigest_42 ?_
  refine aw_laddW cx dX7_chargeDigest_43 (fun z43q hz43q => ?_)
  refine aw_lstore (loc2 := [(4, aL z43q), (0, aR 32), (1, aL h), (3, aI c)]) cx dX7_chargeDigest_44 (by decide) rfl ?_
  refine aw_ldc2 (x := 31) cx dX7_chargeDigest_46 kc_X7_362 (by decide +kernel) ?_
  refine aw_lload cx dX7_chargeDigest_49 0 rfl ?_
  refine aw_lmulW cx dX7_chargeDigest_51 (fun z51q hz51q => ?_)
  refine aw_aload_n cx dX7_chargeDigest_52 rfl 1 rfl ?_
  refine aw_iload_n cx dX7_chargeDigest_53 rfl 3 rfl ?_
  refine aw_iconst (n := 0) cx dX7_chargeDigest_54 (by decide) ?_
  refine aw_callV (as := [aI c, aI 0]) (k := 32) (stk := [aL z51q]) cx dX7_chargeDigest_55 ml_X7_256 mv_X7_clearedOf rfl (lb_32 tl) (by decide) rfl rfl (Nat.le_of_ble_eq_true rfl) (ct_X7_clearedOf tl M_39q _ _ (JQ_fx hj f39 (by decide)) (by rw [f39.at 15 (by decide)]; omega) (by omega)) (fun rr55q M_55q hp55q => ?_)
  obtain ⟨z55q, rfl, hfxM_55, hrdM_55, hanM_55⟩ := hp55q
  refine aw_eq (stk2 := [aI z55q, aL z51q]) ?_ rfl rfl rfl rfl
  have f55 : FX RC RF M M_55q := f39.tr hfxM_55 (by decide) (by decide)
  have r55 : z55q = dCleared M c 0 := pk_e (by have q := hanM_55; rw [f39.at 15 (by decide), (fg_fx f39 (by decide)).1, (fg_fx f39 (by decide)).2] at q; exact q) (fun _ _ => aCleared_u)
  refine aw_i2l cx dX7_chargeDigest_58 ?_
  refine aw_laddW cx dX7_chargeDigest_59 (fun z59q hz59q => ?_)
  refine aw_lstore (loc2 := [(4, aL z59q), (0, aR 32), (1, aL h), (3, aI c)]) cx dX7_chargeDigest_60 (by decide) rfl ?_
  refine aw_ldc2 (x := 31) cx dX7_chargeDigest_62 kc_X7_362 (by decide +kernel) ?_
  refine aw_lload cx dX7_chargeDigest_65 0 rfl ?_
  refine aw_lmulW cx dX7_chargeDigest_67 (fun z67q hz67q => ?_)
  refine aw_aload_n cx dX7_chargeDigest_68 rfl 1 rfl ?_
  refine aw_iload_n cx dX7_chargeDigest_69 rfl 3 rfl ?_
  refine aw_iconst (n := 1) cx dX7_chargeDigest_70 (by decide) ?_
  refine aw_callV (as := [aI c, aI 1]) (k := 32) (stk := [aL z67q]) cx dX7_chargeDigest_71 ml_X7_256 mv_X7_clearedOf rfl (lb_32 tl) (by decide) rfl rfl (Nat.le_of_ble_eq_true rfl) (ct_X7_clearedOf tl M_55q _ _ (JQ_fx hj f55 (by decide)) (by rw [f55.at 15 (by decide)]; omega) (by omega)) (fun rr71q M_71q hp71q => ?_)
  obtain ⟨z71q, rfl, hfxM_71, hrdM_71, hanM_71⟩ := hp71q
  refine aw_eq (stk2 := [aI z71q, aL z67q]) ?_ rfl rfl rfl rfl
  have f71 : FX RC RF M M_71q := f55.tr hfxM_71 (by decide) (by decide)
  have r71 : z71q = dCleared M c 1 := pk_e (by have q := hanM_71; rw [f55.at 15 (by decide), (fg_fx f55 (by decide)).1, (fg_fx f55 (by decide)).2] at q; exact q) (fun _ _ => aCleared_u)
  refine aw_i2l cx dX7_chargeDigest_74 ?_
  refine aw_laddW cx dX7_chargeDigest_75 (fun z75q hz75q => ?_)
  refine aw_lstore (loc2 := [(4, aL z75q), (0, aR 32), (1, aL h), (3, aI c)]) cx dX7_chargeDigest_76 (by decide) rfl ?_
  refine aw_ldc2 (x := 31) cx dX7_chargeDigest_78 kc_X7_362 (by decide +kernel) ?_
  refine aw_lload cx dX7_chargeDigest_81 0 rfl ?_
  refine aw_lmulW cx dX7_chargeDigest_83 (fun z83q hz83q => ?_)
  refine aw_aload_n cx dX7_chargeDigest_84 rfl 1 rfl ?_
  refine aw_iconst (n := 5) cx dX7_chargeDigest_85 (by decide) ?_
  refine aw_iload_n cx dX7_chargeDigest_86 rfl 3 rfl ?_
  refine aw_iconst (n := 0) cx dX7_chargeDigest_87 (by decide) ?_
  refine aw_callV (as := [aI 5, aI c, aI 0]) (k := 32) (stk := [aL z83q]) cx dX7_chargeDigest_88 ml_X7_337 mv_X7_chanceOf rfl (lb_32 tl) (by decide) rfl rfl (Nat.le_of_ble_eq_true rfl) (ct_X7_chanceOf tl M_71q _ _ _ (JQ_fx hj f71 (by decide)) (by omega) (by rw [f71.at 15 (by decide)]; omega) (by omega)) (fun rr88q M_88q hp88q => ?_)
  obtain ⟨z88q, rfl, hfxM_88, hrdM_88, hanM_88⟩ := hp88q
  refine aw_eq (stk2 := [aL z88q, aL z83q]) ?_ rfl rfl rfl rfl
  have f88 : FX RC RF M M_88q := f71.tr hfxM_88 (by decide) (by decide)
  have r88 : z88q = dLow M c 0 := pk_e (by have q := hanM_88; rw [f71.at 18 (by decide), (fg_fx f71 (by decide)).1, (fg_fx f71 (by decide)).2] at q; exact q) (fun _ _ => aLow_u)
  refine aw_laddW cx dX7_chargeDigest_91 (fun z91q hz91q => ?_)
  refine aw_lstore (loc2 := [(4, aL z91q), (0, aR 32), (1, aL h), (3, aI c)]) cx dX7_chargeDigest_92 (by decide) rfl ?_
  refine aw_ldc2 (x := 31) cx dX7_chargeDigest_94 kc_X7_362 (by decide +kernel) ?_
  refine aw_lload cx dX7_chargeDigest_97 0 rfl ?_
  refine aw_lmulW cx dX7_chargeDigest_99 (fun z99q hz99q => ?_)
  refine aw_aload_n cx dX7_chargeDigest_100 rfl 1 rfl ?_
  refine aw_iconst (n := 5) cx dX7_chargeDigest_101 (by decide) ?_
  refine aw_iload_n cx dX7_chargeDigest_102 rfl 3 rfl ?_
  refine aw_iconst (n := 1) cx dX7_chargeDigest_103 (by decide) ?_
  refine aw_callV (as := [aI 5, aI c, aI 1]) (k := 32) (stk := [aL z99q]) cx dX7_chargeDigest_104 ml_X7_337 mv_X7_chanceOf rfl (lb_32 tl) (by decide) rfl rfl (Nat.le_of_ble_eq_true rfl) (ct_X7_chanceOf tl M_88q _ _ _ (JQ_fx hj f88 (by decide)) (by omega) (by rw [f88.at 15 (by decide)]; omega) (by omega)) (fun rr104q M_104q hp104q => ?_)
  obtain ⟨z104q, rfl, hfxM_104, hrdM_104, hanM_104⟩ := hp104q
  refine aw_eq (stk2 := [aL z104q, aL z99q]) ?_ rfl rfl rfl rfl
  have f104 : FX RC RF M M_104q := f88.tr hfxM_104 (by decide) (by decide)
  have r104 : z104q = dLow M c 1 := pk_e (by have q := hanM_104; rw [f88.at 18 (by decide), (fg_fx f88 (by decide)).1, (fg_fx f88 (by decide)).2] at q; exact q) (fun _ _ => aLow_u)
  refine aw_laddW cx dX7_chargeDigest_107 (fun z107q hz107q => ?_)
  refine aw_lret cx rt dX7_chargeDigest_108 ?_
  refine ⟨_, rfl, f104, hrdM_104, ?_⟩
  unfold dgC1
  rw [hz107q, hz99q, r104, hz91q, hz83q, r88, hz75q, hz67q, r71, hz59q, hz51q, r55, hz43q, hz36q, r39, hz28q, hz20q, r24, hz12q, hz4q, r8]
  rfl
set_option maxHeartbeats 1000000 in
set_option maxRecDepth 100000 in
theorem ct_X7_digest (tl : List CD) (M : Mem)  (hj : JQ M) (hfi : M 32 43 = M 0 14) : Ct 10 mX7_digest (LB ++ tl) [aR 32] M (fun r M1 => ∃ x, r = some (aL x) ∧ FX RC RF M M1 ∧ x = DIG M) := by
  refine Ct.of (own := RX7) rfl (by decide +kernel) (Nat.le_of_ble_eq_true rfl) (fun X cx rt => ?_)
  refine aw_eq (loc2 := [(0, aR 32)]) ?_ rfl rfl rfl rfl
  refine aw_ok (fun om => ?_)
  have hsz : 0 ≤ M 5 4 ∧ M 5 4 ≤ 12 := okF om (lb_5 tl) (j := 4) rfl (show (0 : Nat) ≠ 1 by decide)
  have hcz : 0 ≤ M 15 2 ∧ M 15 2 ≤ 8 := okF om (lb_15 tl) (j := 2) rfl (show (0 : Nat) ≠ 1 by decide)
  refine aw_ldc2 (x := 17) cx dX7_digest_0 kc_X7_364 (by decide +kernel) ?_
  refine aw_lstore_n (loc2 := [(1, aL 17), (0, aR 32)]) cx dX7_digest_3 rfl (by decide) rfl ?_
  refine aw_iconst (n := 0) cx dX7_digest_4 (by decide) ?_
  refine aw_istore_n (loc2 := [(3, aI 0), (1, aL 17), (0, aR 32)]) cx dX7_digest_5 rfl (by decide) rfl ?_
  have lp6q : ∀ (fu : Nat) (x1q : Int) (x3q : Int) (N6q : Mem), (0 ≤ x3q ∧ x3q ≤ 8) → (FX RC RF M N6q) → (x1q = lpD (dCount M) 17 x3q.toNat) → ((8 - x3q).toNat) < fu → AW X (LB ++ tl) 4 6 [(0, aR 32), (1, aL x1q), (3, aI x3q)] [] N6q := by
    intro fu
    induction fu with
    | zero =>
      intro x1q x3q N6q h0q hf hx1 hm
      exact absurd hm (Nat.not_lt_zero _)
    | succ fu ih6q =>
      intro x1q x3q N6q h0q hf hx1 hm
      refine aw_iload_n cx dX7_digest_6 rfl 2 rfl ?_
      refine aw_bipush (n := 8) cx dX7_digest_7 (by decide) ?_
      refine aw_icmp_ge (tgt := 31) cx dX7_digest_9 (by decide) (fun c9q => ?_) (fun c9q => ?_)
      · refine aw_ldc2 (x := 31) cx dX7_digest_31 kc_X7_362 (by decide +kernel) ?_
        refine aw_lload_n cx dX7_digest_34 rfl 1 rfl ?_
        refine aw_lmulW cx dX7_digest_35 (fun z35q hz35q => ?_)
        refine aw_aload_n cx dX7_digest_36 rfl 0 rfl ?_
        refine aw_iconst (n := 0) cx dX7_digest_37 (by decide) ?_
        refine aw_callV (as := [aI 0]) (k := 32) (stk := [aL z35q]) cx dX7_digest_38 ml_X7_150 mv_X7_faultOf rfl (lb_32 tl) (by decide) rfl rfl (Nat.le_of_ble_eq_true rfl) (ct_X7_faultOf tl N6q _ ((JQ_fx hj hf (by decide)).1) (by omega)) (fun rr38q M_38q hp38q => ?_)
        obtain ⟨z38q, rfl, hfxM_38, hrdM_38, hftM_38⟩ := hp38q
        refine aw_eq (stk2 := [aI z38q, aL z35q]) ?_ rfl rfl rfl rfl
        have f38 : FX RC RF M M_38q := hf.tr hfxM_38 (by decide) (by decide)
        have r38 : z38q = dFault M 0 := pk_e (aFault_fx hf hftM_38) (fun _ _ => aFault_u)
        refine aw_i2l cx dX7_digest_41 ?_
        refine aw_laddW cx dX7_digest_42 (fun z42q hz42q => ?_)
        refine aw_lstore_n (loc2 := [(1, aL z42q), (0, aR 32), (3, aI x3q)]) cx dX7_digest_43 rfl (by decide) rfl ?_
        refine aw_ldc2 (x := 31) cx dX7_digest_44 kc_X7_362 (by decide +kernel) ?_
        refine aw_lload_n cx dX7_digest_47 rfl 0 rfl ?_
        refine aw_lmulW cx dX7_digest_48 (fun z48q hz48q => ?_)
        refine aw_aload_n cx dX7_digest_49 rfl 1 rfl ?_
        refine aw_iconst (n := 1) cx dX7_digest_50 (by decide) ?_
        refine aw_callV (as := [aI 1]) (k := 32) (stk := [aL z48q]) cx dX7_digest_51 ml_X7_150 mv_X7_faultOf rfl (lb_32 tl) (by decide) rfl rfl (Nat.le_of_ble_eq_true rfl) (ct_X7_faultOf tl M_38q _ ((JQ_fx hj f38 (by decide)).1) (by omega)) (fun rr51q M_51q hp51q => ?_)
        obtain ⟨z51q, rfl, hfxM_51, hrdM_51, hftM_51⟩ := hp51q
        refine aw_eq (stk2 := [aI z51q, aL z48q]) ?_ rfl rfl rfl rfl
        have f51 : FX RC RF M M_51q := f38.tr hfxM_51 (by decide) (by decide)
        have r51 : z51q = dFault M 1 := pk_e (aFault_fx f38 hftM_51) (fun _ _ => aFault_u)
        refine aw_i2l cx dX7_digest_54 ?_
        refine aw_laddW cx dX7_digest_55 (fun z55q hz55q => ?_)
        refine aw_lstore_n (loc2 := [(1, aL z55q), (0, aR 32), (3, aI x3q)]) cx dX7_digest_56 rfl (by decide) rfl ?_
        refine aw_iconst (n := 0) cx dX7_digest_57 (by decide) ?_
        refine aw_istore_n (loc2 := [(3, aI 0), (1, aL z55q), (0, aR 32)]) cx dX7_digest_58 rfl (by decide) rfl ?_
        have lp59q : ∀ (fu : Nat) (x1q : Int) (x3q : Int) (N59q : Mem), (0 ≤ x3q ∧ x3q ≤ 8) → (FX RC RF M N59q) → (RD N59q) → (x1q = lpF (dMan M) (lpD (dFault M) (lpD (dCount M) 17 8) 2) x3q.toNat) → ((8 - x3q).toNat) < fu → AW X (LB ++ tl) 4 59 [(0, aR 32), (1, aL x1q), (3, aI x3q)] [] N59q := by
          intro fu
          induction fu with
          | zero =>
            intro x1q x3q N59q h0q hf hr hx3 hm
            exact absurd hm (Nat.not_lt_zero _)
          | succ fu ih59q =>
            intro x1q x3q N59q h0q hf hr hx3 hm
            refine aw_iload_n cx dX7_digest_59 rfl 2 rfl ?_
            refine aw_bipush (n := 8) cx dX7_digest_60 (by decide) ?_
            refine aw_icmp_ge (tgt := 134) cx dX7_digest_62 (by decide) (fun c62q => ?_) (fun c62q => ?_)
            · refine aw_iconst (n := 0) cx dX7_digest_134 (by decide) ?_
              refine aw_istore_n (loc2 := [(3, aI 0), (0, aR 32), (1, aL x1q)]) cx dX7_digest_135 rfl (by decide) rfl ?_
              have lp136q : ∀ (fu : Nat) (x1q : Int) (x3q : Int) (N136q : Mem), (0 ≤ x3q ∧ x3q ≤ 24) → (FX RC RF M N136q) → (RD N136q) → (x1q = lpD (dWhere M) (lpF (dMan M) (lpD (dFault M) (lpD (dCount M) 17 8) 2) 8) x3q.toNat) → ((24 - x3q).toNat) < fu → AW X (LB ++ tl) 4 136 [(0, aR 32), (1, aL x1q), (3, aI x3q)] [] N136q := by
                intro fu
                induction fu with
                | zero =>
                  intro x1q x3q N136q h0q hf hr hx4 hm
                  exact absurd hm (Nat.not_lt_zero _)
                | succ fu ih136q =>
                  intro x1q x3q N136q h0q hf hr hx4 hm
                  refine aw_iload_n cx dX7_digest_136 rfl 2 rfl ?_
                  refine aw_bipush (n := 24) cx dX7_digest_137 (by decide) ?_
                  refine aw_icmp_ge (tgt := 161) cx dX7_digest_139 (by decide) (fun c139q => ?_) (fun c139q => ?_)
                  · refine aw_iconst (n := 0) cx dX7_digest_161 (by decide) ?_
                    refine aw_istore_n (loc2 := [(3, aI 0), (0, aR 32), (1, aL x1q)]) cx dX7_digest_162 rfl (by decide) rfl ?_
                    have lp163q : ∀ (fu : Nat) (x1q : Int) (x3q : Int) (N163q : Mem), (0 ≤ x3q ∧ x3q ≤ M 5 4) → (FX RC RF M N163q) → (RD N163q) → (x1q = lpF (dgT1 M) (lpD (dWhere M) (lpF (dMan M) (lpD (dFault M) (lpD (dCount M) 17 8) 2) 8) 24) x3q.toNat) → ((M 5 4 - x3q).toNat) < fu → AW X (LB ++ tl) 4 163 [(0, aR 32), (1, aL x1q), (3, aI x3q)] [] N163q := by
                      intro fu
                      induction fu with
                      | zero =>
                        intro x1q x3q N163q h0q hf hr hx5 hm
                        exact absurd hm (Nat.not_lt_zero _)
                      | succ fu ih163q =>
                        intro x1q x3q N163q h0q hf hr hx5 hm
                        have e2q : N163q 32 2 = M 5 4 := by rw [hr.1, hf.at 5 (by decide)]
                        refine aw_iload_n cx dX7_digest_163 rfl 2 rfl ?_
                        refine aw_aload_n cx dX7_digest_164 rfl 0 rfl ?_
                        refine aw_getI cx dX7_digest_165 fl_X7_135 (lb_32 tl) rfl (fun z165q hz165q lo_z165q hi_z165q => ?_)
                        refine aw_icmp_ge (tgt := 184) cx dX7_digest_168 (by decide) (fun c168q => ?_) (fun c168q => ?_)
                        · refine aw_iconst (n := 0) cx dX7_digest_184 (by decide) ?_
                          refine aw_istore_n (loc2 := [(3, aI 0), (0, aR 32), (1, aL x1q)]) cx dX7_digest_185 rfl (by decide) rfl ?_
                          have lp186q : ∀ (fu : Nat) (x1q : Int) (x3q : Int) (N186q : Mem), (0 ≤ x3q ∧ x3q ≤ M 15 2) → (FX RC RF M N186q) → (RD N186q) → (x1q = lpF (dgC1 M) (lpF (dgT1 M) (lpD (dWhere M) (lpF (dMan M) (lpD (dFault M) (lpD (dCount M) 17 8) 2) 8) 24) (M 5 4).toNat) x3q.toNat) → ((M 15 2 - x3q).toNat) < fu → AW X (LB ++ tl) 4 186 [(0, aR 32), (1, aL x1q), (3, aI x3q)] [] N186q := by
                            intro fu
                            induction fu with
                            | zero =>
                              intro x1q x3q N186q h0q hf hr hx6 hm
                              exact absurd hm (Nat.not_lt_zero _)
                            | succ fu ih186q =>
                              intro x1q x3q N186q h0q hf hr hx6 hm
                              have e7q : N186q 32 7 = M 15 2 := by rw [hr.2.2.1, hf.at 15 (by decide)]
                              refine aw_iload_n cx dX7_digest_186 rfl 2 rfl ?_
                              refine aw_aload_n cx dX7_digest_187 rfl 0 rfl ?_
                              refine aw_getI cx dX7_digest_188 fl_X7_138 (lb_32 tl) rfl (fun z188q hz188q lo_z188q hi_z188q => ?_)
                              refine aw_icmp_ge (tgt := 207) cx dX7_digest_191 (by decide) (fun c191q => ?_) (fun c191q => ?_)
                              · refine aw_iconst (n := 0) cx dX7_digest_207 (by decide) ?_
                                refine aw_istore_n (loc2 := [(3, aI 0), (0, aR 32), (1, aL x1q)]) cx dX7_digest_208 rfl (by decide) rfl ?_
                                have lp209q : ∀ (fu : Nat) (x1q : Int) (x3q : Int) (N209q : Mem), (0 ≤ x3q ∧ x3q ≤ 4) → (FX RC RF M N209q) → (RD N209q) → (x1q = lpD (dSum M) (lpF (dgC1 M) (lpF (dgT1 M) (lpD (dWhere M) (lpF (dMan M) (lpD (dFault M) (lpD (dCount M) 17 8) 2) 8) 24) (M 5 4).toNat) (M 15 2).toNat) x3q.toNat) → ((4 - x3q).toNat) < fu → AW X (LB ++ tl) 4 209 [(0, aR 32), (1, aL x1q), (3, aI x3q)] [] N209q := by
                                  intro fu
                                  induction fu with
                                  | zero =>
                                    intro x1q x3q N209q h0q hf hr hx7 hm
                                    exact absurd hm (Nat.not_lt_zero _)
                                  | succ fu ih209q =>
                                    intro x1q x3q N209q h0q hf hr hx7 hm
                                    refine aw_iload_n cx dX7_digest_209 rfl 2 rfl ?_
                                    refine aw_iconst (n := 4) cx dX7_digest_210 (by decide) ?_
                                    refine aw_icmp_ge (tgt := 233) cx dX7_digest_211 (by decide) (fun c211q => ?_) (fun c211q => ?_)
                                    · refine aw_ldc2 (x := 31) cx dX7_digest_233 kc_X7_362 (by decide +kernel) ?_
                                      refine aw_lload_n cx dX7_digest_236 rfl 1 rfl ?_
                                      refine aw_lmulW cx dX7_digest_237 (fun z237q hz237q => ?_)
                                      refine aw_aload_n cx dX7_digest_238 rfl 0 rfl ?_
                                      refine aw_callV (as := []) (k := 32) (stk := [aL z237q]) cx dX7_digest_239 ml_X7_272 mv_X7_liarOf rfl (lb_32 tl) (by decide) rfl rfl (Nat.le_of_ble_eq_true rfl) (ct_X7_liarOf tl N209q  (JQ_fx hj hf (by decide))) (fun rr239q M_239q hp239q => ?_)
                                      obtain ⟨z239q, rfl, hfxM_239, hrdM_239, hanM_239⟩ := hp239q
                                      refine aw_eq (stk2 := [aI z239q, aL z237q]) ?_ rfl rfl rfl rfl
                                      have f239 : FX RC RF M M_239q := hf.tr hfxM_239 (by decide) (by decide)
                                      have r239 : z239q = pk (aLiar (fgT M)) := pk_e (by have q := hanM_239; rw [(fg_fx hf (by decide)).1] at q; exact q) (fun _ _ => aLiar_u)
                                      refine aw_i2l cx dX7_digest_242 ?_
                                      refine aw_laddW cx dX7_digest_243 (fun z243q hz243q => ?_)
                                      refine aw_lstore_n (loc2 := [(1, aL z243q), (0, aR 32), (3, aI x3q)]) cx dX7_digest_244 rfl (by decide) rfl ?_
                                      refine aw_ldc2 (x := 31) cx dX7_digest_245 kc_X7_362 (by decide +kernel) ?_
                                      refine aw_lload_n cx dX7_digest_248 rfl 0 rfl ?_
                                      refine aw_lmulW cx dX7_digest_249 (fun z249q hz249q => ?_)
                                      refine aw_aload_n cx dX7_digest_250 rfl 1 rfl ?_
                                      refine aw_callV (as := []) (k := 32) (stk := [aL z249q]) cx dX7_digest_251 ml_X7_275 mv_X7_bestOf rfl (lb_32 tl) (by decide) rfl rfl (Nat.le_of_ble_eq_true rfl) (ct_X7_bestOf tl M_239q  (JQ_fx hj f239 (by decide))) (fun rr251q M_251q hp251q => ?_)
                                      obtain ⟨z251q, rfl, hfxM_251, hrdM_251, hanM_251⟩ := hp251q
                                      refine aw_eq (stk2 := [aI z251q, aL z249q]) ?_ rfl rfl rfl rfl
                                      have f251 : FX RC RF M M_251q := f239.tr hfxM_251 (by decide) (by decide)
                                      have r251 : z251q = pk (aBest (fgT M)) := pk_e (by have q := hanM_251; rw [(fg_fx f239 (by decide)).1] at q; exact q) (fun _ _ => aBest_u)
                                      refine aw_i2l cx dX7_digest_254 ?_
                                      refine aw_laddW cx dX7_digest_255 (fun z255q hz255q => ?_)
                                      refine aw_lstore_n (loc2 := [(1, aL z255q), (0, aR 32), (3, aI x3q)]) cx dX7_digest_256 rfl (by decide) rfl ?_
                                      refine aw_ldc2 (x := 31) cx dX7_digest_257 kc_X7_362 (by decide +kernel) ?_
                                      refine aw_lload_n cx dX7_digest_260 rfl 0 rfl ?_
                                      refine aw_lmulW cx dX7_digest_261 (fun z261q hz261q => ?_)
                                      refine aw_aload_n cx dX7_digest_262 rfl 1 rfl ?_
                                      refine aw_iconst (n := 0) cx dX7_digest_263 (by decide) ?_
                                      refine aw_callV (as := [aI 0]) (k := 32) (stk := [aL z261q]) cx dX7_digest_264 ml_X7_299 mv_X7_dropOf rfl (lb_32 tl) (by decide) rfl rfl (Nat.le_of_ble_eq_true rfl) (ct_X7_dropOf tl M_251q _ (JQ_fx hj f251 (by decide)) (by omega)) (fun rr264q M_264q hp264q => ?_)
                                      obtain ⟨z264q, rfl, hfxM_264, hrdM_264, hanM_264⟩ := hp264q
                                      refine aw_eq (stk2 := [aI z264q, aL z261q]) ?_ rfl rfl rfl rfl
                                      have f264 : FX RC RF M M_264q := f251.tr hfxM_264 (by decide) (by decide)
                                      have r264 : z264q = dDrop M 0 := pk_e (by have q := hanM_264; rw [(fg_fx f251 (by decide)).1, (fg_fx f251 (by decide)).2, f251.at 5 (by decide)] at q; exact q) (fun _ _ => aPick_u)
                                      refine aw_i2l cx dX7_digest_267 ?_
                                      refine aw_laddW cx dX7_digest_268 (fun z268q hz268q => ?_)
                                      refine aw_lstore_n (loc2 := [(1, aL z268q), (0, aR 32), (3, aI x3q)]) cx dX7_digest_269 rfl (by decide) rfl ?_
                                      refine aw_ldc2 (x := 31) cx dX7_digest_270 kc_X7_362 (by decide +kernel) ?_
                                      refine aw_lload_n cx dX7_digest_273 rfl 0 rfl ?_
                                      refine aw_lmulW cx dX7_digest_274 (fun z274q hz274q => ?_)
                                      refine aw_aload_n cx dX7_digest_275 rfl 1 rfl ?_
                                      refine aw_iconst (n := 1) cx dX7_digest_276 (by decide) ?_
                                      refine aw_callV (as := [aI 1]) (k := 32) (stk := [aL z274q]) cx dX7_digest_277 ml_X7_299 mv_X7_dropOf rfl (lb_32 tl) (by decide) rfl rfl (Nat.le_of_ble_eq_true rfl) (ct_X7_dropOf tl M_264q _ (JQ_fx hj f264 (by decide)) (by omega)) (fun rr277q M_277q hp277q => ?_)
                                      obtain ⟨z277q, rfl, hfxM_277, hrdM_277, hanM_277⟩ := hp277q
                                      refine aw_eq (stk2 := [aI z277q, aL z274q]) ?_ rfl rfl rfl rfl
                                      have f277 : FX RC RF M M_277q := f264.tr hfxM_277 (by decide) (by decide)
                                      have r277 : z277q = dDrop M 1 := pk_e (by have q := hanM_277; rw [(fg_fx f264 (by decide)).1, (fg_fx f264 (by decide)).2, f264.at 5 (by decide)] at q; exact q) (fun _ _ => aPick_u)
                                      refine aw_i2l cx dX7_digest_280 ?_
                                      refine aw_laddW cx dX7_digest_281 (fun z281q hz281q => ?_)
                                      refine aw_lstore_n (loc2 := [(1, aL z281q), (0, aR 32), (3, aI x3q)]) cx dX7_digest_282 rfl (by decide) rfl ?_
                                      refine aw_ldc2 (x := 31) cx dX7_digest_283 kc_X7_362 (by decide +kernel) ?_
                                      refine aw_lload_n cx dX7_digest_286 rfl 0 rfl ?_
                                      refine aw_lmulW cx dX7_digest_287 (fun z287q hz287q => ?_)
                                      refine aw_aload_n cx dX7_digest_288 rfl 1 rfl ?_
                                      refine aw_iconst (n := 0) cx dX7_digest_289 (by decide) ?_
                                      refine aw_callV (as := [aI 0]) (k := 32) (stk := [aL z287q]) cx dX7_digest_290 ml_X7_302 mv_X7_cleanOf rfl (lb_32 tl) (by decide) rfl rfl (Nat.le_of_ble_eq_true rfl) (ct_X7_cleanOf tl M_277q _ (JQ_fx hj f277 (by decide)) (by omega)) (fun rr290q M_290q hp290q => ?_)
                                      obtain ⟨z290q, rfl, hfxM_290, hrdM_290, hanM_290⟩ := hp290q
                                      refine aw_eq (stk2 := [aI z290q, aL z287q]) ?_ rfl rfl rfl rfl
                                      have f290 : FX RC RF M M_290q := f277.tr hfxM_290 (by decide) (by decide)
                                      have r290 : z290q = dClean M 0 := pk_e (by have q := hanM_290; rw [f277.at 5 (by decide), f277.at 6 (by decide), f277.at 7 (by decide), f277.at 8 (by decide)] at q; exact q) (fun _ _ => aClean_u (by omega))
                                      refine aw_i2l cx dX7_digest_293 ?_
                                      refine aw_laddW cx dX7_digest_294 (fun z294q hz294q => ?_)
                                      refine aw_lstore_n (loc2 := [(1, aL z294q), (0, aR 32), (3, aI x3q)]) cx dX7_digest_295 rfl (by decide) rfl ?_
                                      refine aw_ldc2 (x := 31) cx dX7_digest_296 kc_X7_362 (by decide +kernel) ?_
                                      refine aw_lload_n cx dX7_digest_299 rfl 0 rfl ?_
                                      refine aw_lmulW cx dX7_digest_300 (fun z300q hz300q => ?_)
                                      refine aw_aload_n cx dX7_digest_301 rfl 1 rfl ?_
                                      refine aw_iconst (n := 1) cx dX7_digest_302 (by decide) ?_
                                      refine aw_callV (as := [aI 1]) (k := 32) (stk := [aL z300q]) cx dX7_digest_303 ml_X7_302 mv_X7_cleanOf rfl (lb_32 tl) (by decide) rfl rfl (Nat.le_of_ble_eq_true rfl) (ct_X7_cleanOf tl M_290q _ (JQ_fx hj f290 (by decide)) (by omega)) (fun rr303q M_303q hp303q => ?_)
                                      obtain ⟨z303q, rfl, hfxM_303, hrdM_303, hanM_303⟩ := hp303q
                                      refine aw_eq (stk2 := [aI z303q, aL z300q]) ?_ rfl rfl rfl rfl
                                      have f303 : FX RC RF M M_303q := f290.tr hfxM_303 (by decide) (by decide)
                                      have r303 : z303q = dClean M 1 := pk_e (by have q := hanM_303; rw [f290.at 5 (by decide), f290.at 6 (by decide), f290.at 7 (by decide), f290.at 8 (by decide)] at q; exact q) (fun _ _ => aClean_u (by omega))
                                      refine aw_i2l cx dX7_digest_306 ?_
                                      refine aw_laddW cx dX7_digest_307 (fun z307q hz307q => ?_)
                                      refine aw_lstore_n (loc2 := [(1, aL z307q), (0, aR 32), (3, aI x3q)]) cx dX7_digest_308 rfl (by decide) rfl ?_
                                      refine aw_aload_n cx dX7_digest_309 rfl 1 rfl ?_
                                      refine aw_callV (as := []) (k := 32) (stk := []) cx dX7_digest_310 ml_X7_308 mv_X7_spareBy rfl (lb_32 tl) (by decide) rfl rfl (Nat.le_of_ble_eq_true rfl) (ct_X7_spareBy tl M_303q  (JQ_fx hj f303 (by decide))) (fun rr310q M_310q hp310q => ?_)
                                      obtain ⟨z310q, rfl, hfxM_310, hrdM_310, hanM_310, loM_310, hiM_310⟩ := hp310q
                                      refine aw_eq (stk2 := [aI z310q]) ?_ rfl rfl rfl rfl
                                      have f310 : FX RC RF M M_310q := f303.tr hfxM_310 (by decide) (by decide)
                                      have r310 : z310q = dSpare M (-1) := pk_e (by have q := hanM_310; rw [(fg_fx f303 (by decide)).1, (fg_fx f303 (by decide)).2] at q; exact SPW_row q (by omega) (Or.inl ⟨rfl, rfl⟩)) (fun _ _ => aSpare_u)
                                      have hsw := hanM_310
                                      rw [(fg_fx f303 (by decide)).1, (fg_fx f303 (by decide)).2] at hsw
                                      refine aw_istore_n (loc2 := [(3, aI z310q), (1, aL z307q), (0, aR 32)]) cx dX7_digest_313 rfl (by decide) rfl ?_
                                      refine aw_ldc2 (x := 31) cx dX7_digest_314 kc_X7_362 (by decide +kernel) ?_
                                      refine aw_lload_n cx dX7_digest_317 rfl 1 rfl ?_
                                      refine aw_lmulW cx dX7_digest_318 (fun z318q hz318q => ?_)
                                      refine aw_iload_n cx dX7_digest_319 rfl 0 rfl ?_
                                      refine aw_i2l cx dX7_digest_320 ?_
                                      refine aw_laddW cx dX7_digest_321 (fun z321q hz321q => ?_)
                                      refine aw_lstore_n (loc2 := [(1, aL z321q), (3, aI z310q), (0, aR 32)]) cx dX7_digest_322 rfl (by decide) rfl ?_
                                      refine aw_ldc2 (x := 31) cx dX7_digest_323 kc_X7_362 (by decide +kernel) ?_
                                      refine aw_lload_n cx dX7_digest_326 rfl 0 rfl ?_
                                      refine aw_lmulW cx dX7_digest_327 (fun z327q hz327q => ?_)
                                      refine aw_aload_n cx dX7_digest_328 rfl 2 rfl ?_
                                      refine aw_iload_n cx dX7_digest_329 rfl 1 rfl ?_
                                      refine aw_iconst (n := 0) cx dX7_digest_330 (by decide) ?_
                                      refine aw_callV (as := [aI z310q, aI 0]) (k := 32) (stk := [aL z327q]) cx dX7_digest_331 ml_X7_311 mv_X7_ofRow rfl (lb_32 tl) (by decide) rfl rfl (Nat.le_of_ble_eq_true rfl) (ct_X7_ofRow tl M_310q _ _ (by omega) (by omega)) (fun rr331q M_331q hp331q => ?_)
                                      obtain ⟨rfl, z331q, rfl, horz331⟩ := hp331q
                                      refine aw_eq (stk2 := [aI z331q, aL z327q]) ?_ rfl rfl rfl rfl
                                      have r331 : z331q = dSpare M 0 := pk_e (SPW_row hsw (by omega) horz331) (fun _ _ => aSpare_u)
                                      refine aw_i2l cx dX7_digest_334 ?_
                                      refine aw_laddW cx dX7_digest_335 (fun z335q hz335q => ?_)
                                      refine aw_lstore_n (loc2 := [(1, aL z335q), (3, aI z310q), (0, aR 32)]) cx dX7_digest_336 rfl (by decide) rfl ?_
                                      refine aw_ldc2 (x := 31) cx dX7_digest_337 kc_X7_362 (by decide +kernel) ?_
                                      refine aw_lload_n cx dX7_digest_340 rfl 0 rfl ?_
                                      refine aw_lmulW cx dX7_digest_341 (fun z341q hz341q => ?_)
                                      refine aw_aload_n cx dX7_digest_342 rfl 2 rfl ?_
                                      refine aw_callV (as := []) (k := 32) (stk := [aL z341q]) cx dX7_digest_343 ml_X7_321 mv_X7_neverNow rfl (lb_32 tl) (by decide) rfl rfl (Nat.le_of_ble_eq_true rfl) (ct_X7_neverNow tl M_310q  (JQ_fx hj f310 (by decide))) (fun rr343q M_343q hp343q => ?_)
                                      obtain ⟨z343q, rfl, hfxM_343, hrdM_343, hanM_343⟩ := hp343q
                                      refine aw_eq (stk2 := [aI z343q, aL z341q]) ?_ rfl rfl rfl rfl
                                      have f343 : FX RC RF M M_343q := f310.tr hfxM_343 (by decide) (by decide)
                                      have r343 : z343q = dNever M := pk_e (by have q := hanM_343; rw [(fg_fx f310 (by decide)).1, (fg_fx f310 (by decide)).2, f310.at 0 (by decide), f310.at 27 (by decide), f310.at 28 (by decide)] at q; exact q) (fun _ _ => aNever_u)
                                      refine aw_i2l cx dX7_digest_346 ?_
                                      refine aw_laddW cx dX7_digest_347 (fun z347q hz347q => ?_)
                                      refine aw_lstore_n (loc2 := [(1, aL z347q), (3, aI z310q), (0, aR 32)]) cx dX7_digest_348 rfl (by decide) rfl ?_
                                      refine aw_ldc2 (x := 31) cx dX7_digest_349 kc_X7_362 (by decide +kernel) ?_
                                      refine aw_lload_n cx dX7_digest_352 rfl 0 rfl ?_
                                      refine aw_lmulW cx dX7_digest_353 (fun z353q hz353q => ?_)
                                      refine aw_aload_n cx dX7_digest_354 rfl 2 rfl ?_
                                      refine aw_bipush (n := 7) cx dX7_digest_355 (by decide) ?_
                                      refine aw_bipush (n := 9) cx dX7_digest_357 (by decide) ?_
                                      refine aw_iconst (n := 0) cx dX7_digest_359 (by decide) ?_
                                      refine aw_callV (as := [aI 7, aI 9, aI 0]) (k := 32) (stk := [aL z353q]) cx dX7_digest_360 ml_X7_346 mv_X7_livesOf rfl (lb_32 tl) (by decide) rfl rfl (Nat.le_of_ble_eq_true rfl) (ct_X7_livesOf tl M_343q _ _ _ (JQ_fx hj f343 (by decide)) (by omega) (by omega)) (fun rr360q M_360q hp360q => ?_)
                                      obtain ⟨z360q, rfl, hfxM_360, hrdM_360, hanM_360⟩ := hp360q
                                      refine aw_eq (stk2 := [aI z360q, aL z353q]) ?_ rfl rfl rfl rfl
                                      have f360 : FX RC RF M M_360q := f343.tr hfxM_360 (by decide) (by decide)
                                      have r360 : z360q = dLives M 0 := pk_e (by have q := hanM_360; rw [lvF_fx f343, (fg_fx f343 (by decide)).2] at q; exact q) (fun _ _ => aLives_u)
                                      refine aw_i2l cx dX7_digest_363 ?_
                                      refine aw_laddW cx dX7_digest_364 (fun z364q hz364q => ?_)
                                      refine aw_lstore_n (loc2 := [(1, aL z364q), (3, aI z310q), (0, aR 32)]) cx dX7_digest_365 rfl (by decide) rfl ?_
                                      refine aw_ldc2 (x := 31) cx dX7_digest_366 kc_X7_362 (by decide +kernel) ?_
                                      refine aw_lload_n cx dX7_digest_369 rfl 0 rfl ?_
                                      refine aw_lmulW cx dX7_digest_370 (fun z370q hz370q => ?_)
                                      refine aw_aload_n cx dX7_digest_371 rfl 2 rfl ?_
                                      refine aw_bipush (n := 7) cx dX7_digest_372 (by decide) ?_
                                      refine aw_bipush (n := 9) cx dX7_digest_374 (by decide) ?_
                                      refine aw_iconst (n := 1) cx dX7_digest_376 (by decide) ?_
                                      refine aw_callV (as := [aI 7, aI 9, aI 1]) (k := 32) (stk := [aL z370q]) cx dX7_digest_377 ml_X7_346 mv_X7_livesOf rfl (lb_32 tl) (by decide) rfl rfl (Nat.le_of_ble_eq_true rfl) (ct_X7_livesOf tl M_360q _ _ _ (JQ_fx hj f360 (by decide)) (by omega) (by omega)) (fun rr377q M_377q hp377q => ?_)
                                      obtain ⟨z377q, rfl, hfxM_377, hrdM_377, hanM_377⟩ := hp377q
                                      refine aw_eq (stk2 := [aI z377q, aL z370q]) ?_ rfl rfl rfl rfl
                                      have f377 : FX RC RF M M_377q := f360.tr hfxM_377 (by decide) (by decide)
                                      have r377 : z377q = dLives M 1 := pk_e (by have q := hanM_377; rw [lvF_fx f360, (fg_fx f360 (by decide)).2] at q; exact q) (fun _ _ => aLives_u)
                                      refine aw_i2l cx dX7_digest_380 ?_
                                      refine aw_laddW cx dX7_digest_381 (fun z381q hz381q => ?_)
                                      refine aw_lret cx rt dX7_digest_382 ?_
                                      refine ⟨_, rfl, f377, ?_⟩
                                      unfold DIG DIG1
                                      rw [hz381q, hz370q, r377, hz364q, hz353q, r360, hz347q, hz341q, r343, hz335q, hz327q, r331, hz321q, hz318q, r310, hz307q, hz300q, r303, hz294q, hz287q, r290, hz281q, hz274q, r277, hz268q, hz261q, r264, hz255q, hz249q, r251, hz243q, hz237q, r239, hx7, show x3q.toNat = 4 by omega]
                                      rfl
                                    · refine aw_ldc2 (x := 31) cx dX7_digest_214 kc_X7_362 (by decide +kernel) ?_
                                      refine aw_lload_n cx dX7_digest_217 rfl 1 rfl ?_
                                      refine aw_lmulW cx dX7_digest_218 (fun z218q hz218q => ?_)
                                      refine aw_aload_n cx dX7_digest_219 rfl 0 rfl ?_
                                      refine aw_iload_n cx dX7_digest_220 rfl 2 rfl ?_
                                      refine aw_callV (as := [aI x3q]) (k := 32) (stk := [aL z218q]) cx dX7_digest_221 ml_X7_269 mv_X7_sumOf rfl (lb_32 tl) (by decide) rfl rfl (Nat.le_of_ble_eq_true rfl) (ct_X7_sumOf tl N209q _ (JQ_fx hj hf (by decide)) (by omega)) (fun rr221q M_221q hp221q => ?_)
                                      obtain ⟨z221q, rfl, hfxM_221, hrdM_221, hanM_221⟩ := hp221q
                                      refine aw_eq (stk2 := [aI z221q, aL z218q]) ?_ rfl rfl rfl rfl
                                      have f221 : FX RC RF M M_221q := hf.tr hfxM_221 (by decide) (by decide)
                                      have r221 : z221q = dSum M x3q.toNat := pk_e (by rw [show ((x3q.toNat : Nat) : Int) = x3q by omega]; have q := hanM_221; rw [(fg_fx hf (by decide)).1, (fg_fx hf (by decide)).2] at q; exact q) (fun _ _ => aSum_u)
                                      refine aw_i2l cx dX7_digest_224 ?_
                                      refine aw_laddW cx dX7_digest_225 (fun z225q hz225q => ?_)
                                      refine aw_lstore_n (loc2 := [(1, aL z225q), (0, aR 32), (3, aI x3q)]) cx dX7_digest_226 rfl (by decide) rfl ?_
                                      refine aw_iinc cx dX7_digest_227 2 rfl (by decide) (by omega) (fun z227q hz227q => ?_)
                                      refine aw_loc (loc2 := [(3, aI z227q), (1, aL z225q), (0, aR 32)]) rfl ?_
                                      refine aw_goto (tgt := 209) cx dX7_digest_230 (by decide) ?_
                                      refine aw_sub [2, 1, 0] rfl ?_
                                      refine ih209q _ _ _  ?i_h0 ?i_hf ?i_hr ?i_hx7 ?i_m
                                      case i_h0 =>
                                        omega
                                      case i_hf =>
                                        exact f221
                                      case i_hr =>
                                        exact hrdM_221
                                      case i_hx7 =>
                                        rw [hz227q, lpD_i h0q.1, hz225q, hz218q, r221, hx7]; rfl
                                      case i_m =>
                                        omega
                                refine aw_sub [1, 2, 0] rfl ?_
                                refine lp209q _ _ _ _  ?i_h0 ?i_hf ?i_hr ?i_hx7 (Nat.lt_succ_self _)
                                case i_h0 =>
                                  omega
                                case i_hf =>
                                  exact hf
                                case i_hr =>
                                  exact hr
                                case i_hx7 =>
                                  rw [hx6, show x3q.toNat = (M 15 2).toNat by omega]; exact lpD_0
                              · refine aw_aload_n cx dX7_digest_194 rfl 0 rfl ?_
                                refine aw_lload_n cx dX7_digest_195 rfl 1 rfl ?_
                                refine aw_iload_n cx dX7_digest_196 rfl 2 rfl ?_
                                refine aw_callV (as := [aL x1q, aI x3q]) (k := 32) (stk := []) cx dX7_digest_197 ml_X7_373 mv_X7_chargeDigest rfl (lb_32 tl) (by decide) rfl rfl (Nat.le_of_ble_eq_true rfl) (ct_X7_chargeDigest tl N186q _ _ (JQ_fx hj hf (by decide)) (hr) (by rw [hf.at 15 (by decide)]; omega)) (fun rr197q M_197q hp197q => ?_)
                                obtain ⟨z197q, rfl, hfxM_197, hrdM_197, hdtM_197⟩ := hp197q
                                refine aw_eq (stk2 := [aL z197q]) ?_ rfl rfl rfl rfl
                                have f197 : FX RC RF M M_197q := hf.tr hfxM_197 (by decide) (by decide)
                                have r197 : z197q = dgC1 M x1q x3q := by rw [hdtM_197, dgC1_fx hf]
                                refine aw_lstore_n (loc2 := [(1, aL z197q), (0, aR 32), (3, aI x3q)]) cx dX7_digest_200 rfl (by decide) rfl ?_
                                refine aw_iinc cx dX7_digest_201 2 rfl (by decide) (by omega) (fun z201q hz201q => ?_)
                                refine aw_loc (loc2 := [(3, aI z201q), (1, aL z197q), (0, aR 32)]) rfl ?_
                                refine aw_goto (tgt := 186) cx dX7_digest_204 (by decide) ?_
                                refine aw_sub [2, 1, 0] rfl ?_
                                refine ih186q _ _ _  ?i_h0 ?i_hf ?i_hr ?i_hx6 ?i_m
                                case i_h0 =>
                                  omega
                                case i_hf =>
                                  exact f197
                                case i_hr =>
                                  exact hrdM_197
                                case i_hx6 =>
                                  rw [hz201q, lpF_i h0q.1, r197, hx6]
                                case i_m =>
                                  omega
                          refine aw_sub [1, 2, 0] rfl ?_
                          refine lp186q _ _ _ _  ?i_h0 ?i_hf ?i_hr ?i_hx6 (Nat.lt_succ_self _)
                          case i_h0 =>
                            omega
                          case i_hf =>
                            exact hf
                          case i_hr =>
                            exact hr
                          case i_hx6 =>
                            rw [hx5, show x3q.toNat = (M 5 4).toNat by omega]; exact lpF_0
                        · refine aw_aload_n cx dX7_digest_171 rfl 0 rfl ?_
                          refine aw_lload_n cx dX7_digest_172 rfl 1 rfl ?_
                          refine aw_iload_n cx dX7_digest_173 rfl 2 rfl ?_
                          refine aw_callV (as := [aL x1q, aI x3q]) (k := 32) (stk := []) cx dX7_digest_174 ml_X7_369 mv_X7_taleDigest rfl (lb_32 tl) (by decide) rfl rfl (Nat.le_of_ble_eq_true rfl) (ct_X7_taleDigest tl N163q _ _ (JQ_fx hj hf (by decide)) (hr) (by rw [hf.at 5 (by decide)]; omega)) (fun rr174q M_174q hp174q => ?_)
                          obtain ⟨z174q, rfl, hfxM_174, hrdM_174, hdtM_174⟩ := hp174q
                          refine aw_eq (stk2 := [aL z174q]) ?_ rfl rfl rfl rfl
                          have f174 : FX RC RF M M_174q := hf.tr hfxM_174 (by decide) (by decide)
                          have r174 : z174q = dgT1 M x1q x3q := by rw [hdtM_174, dgT1_fx hf]
                          refine aw_lstore_n (loc2 := [(1, aL z174q), (0, aR 32), (3, aI x3q)]) cx dX7_digest_177 rfl (by decide) rfl ?_
                          refine aw_iinc cx dX7_digest_178 2 rfl (by decide) (by omega) (fun z178q hz178q => ?_)
                          refine aw_loc (loc2 := [(3, aI z178q), (1, aL z174q), (0, aR 32)]) rfl ?_
                          refine aw_goto (tgt := 163) cx dX7_digest_181 (by decide) ?_
                          refine aw_sub [2, 1, 0] rfl ?_
                          refine ih163q _ _ _  ?i_h0 ?i_hf ?i_hr ?i_hx5 ?i_m
                          case i_h0 =>
                            omega
                          case i_hf =>
                            exact f174
                          case i_hr =>
                            exact hrdM_174
                          case i_hx5 =>
                            rw [hz178q, lpF_i h0q.1, r174, hx5]
                          case i_m =>
                            omega
                    refine aw_sub [1, 2, 0] rfl ?_
                    refine lp163q _ _ _ _  ?i_h0 ?i_hf ?i_hr ?i_hx5 (Nat.lt_succ_self _)
                    case i_h0 =>
                      omega
                    case i_hf =>
                      exact hf
                    case i_hr =>
                      exact hr
                    case i_hx5 =>
                      rw [hx4, show x3q.toNat = 24 by omega]; exact lpF_0
                  · refine aw_ldc2 (x := 31) cx dX7_digest_142 kc_X7_362 (by decide +kernel) ?_
                    refine aw_lload_n cx dX7_digest_145 rfl 1 rfl ?_
                    refine aw_lmulW cx dX7_digest_146 (fun z146q hz146q => ?_)
                    refine aw_aload_n cx dX7_digest_147 rfl 0 rfl ?_
                    refine aw_iload_n cx dX7_digest_148 rfl 2 rfl ?_
                    refine aw_callV (as := [aI x3q]) (k := 32) (stk := [aL z146q]) cx dX7_digest_149 ml_X7_281 mv_X7_whereOf rfl (lb_32 tl) (by decide) rfl rfl (Nat.le_of_ble_eq_true rfl) (ct_X7_whereOf tl N136q _ (JQ_fx hj hf (by decide)) (by omega)) (fun rr149q M_149q hp149q => ?_)
                    obtain ⟨z149q, rfl, hfxM_149, hrdM_149, hanM_149⟩ := hp149q
                    refine aw_eq (stk2 := [aI z149q, aL z146q]) ?_ rfl rfl rfl rfl
                    have f149 : FX RC RF M M_149q := hf.tr hfxM_149 (by decide) (by decide)
                    have r149 : z149q = dWhere M x3q.toNat := pk_e (by rw [show ((x3q.toNat : Nat) : Int) = x3q by omega]; have q := hanM_149; rw [(fg_fx hf (by decide)).1] at q; exact q) (fun _ _ => aWhere_u)
                    refine aw_i2l cx dX7_digest_152 ?_
                    refine aw_laddW cx dX7_digest_153 (fun z153q hz153q => ?_)
                    refine aw_lstore_n (loc2 := [(1, aL z153q), (0, aR 32), (3, aI x3q)]) cx dX7_digest_154 rfl (by decide) rfl ?_
                    refine aw_iinc cx dX7_digest_155 2 rfl (by decide) (by omega) (fun z155q hz155q => ?_)
                    refine aw_loc (loc2 := [(3, aI z155q), (1, aL z153q), (0, aR 32)]) rfl ?_
                    refine aw_goto (tgt := 136) cx dX7_digest_158 (by decide) ?_
                    refine aw_sub [2, 1, 0] rfl ?_
                    refine ih136q _ _ _  ?i_h0 ?i_hf ?i_hr ?i_hx4 ?i_m
                    case i_h0 =>
                      omega
                    case i_hf =>
                      exact f149
                    case i_hr =>
                      exact hrdM_149
                    case i_hx4 =>
                      rw [hz155q, lpD_i h0q.1, hz153q, hz146q, r149, hx4]; rfl
                    case i_m =>
                      omega
              refine aw_sub [1, 2, 0] rfl ?_
              refine lp136q _ _ _ _  ?i_h0 ?i_hf ?i_hr ?i_hx4 (Nat.lt_succ_self _)
              case i_h0 =>
                omega
              case i_hf =>
                exact hf
              case i_hr =>
                exact hr
              case i_hx4 =>
                rw [hx3, show x3q.toNat = 8 by omega]; exact lpD_0
            · refine aw_ldc2 (x := 31) cx dX7_digest_65 kc_X7_362 (by decide +kernel) ?_
              refine aw_lload_n cx dX7_digest_68 rfl 1 rfl ?_
              refine aw_lmulW cx dX7_digest_69 (fun z69q hz69q => ?_)
              refine aw_aload_n cx dX7_digest_70 rfl 0 rfl ?_
              refine aw_iconst (n := 3) cx dX7_digest_71 (by decide) ?_
              refine aw_iload_n cx dX7_digest_72 rfl 2 rfl ?_
              refine aw_iconst (n := 0) cx dX7_digest_73 (by decide) ?_
              refine aw_callV (as := [aI 3, aI x3q, aI 0]) (k := 32) (stk := [aL z69q]) cx dX7_digest_74 ml_X7_249 mv_X7_manOf rfl (lb_32 tl) (by decide) rfl rfl (Nat.le_of_ble_eq_true rfl) (ct_X7_manOf tl N59q _ _ _ (JQ_fx hj hf (by decide)) (by omega) (by omega) (by omega)) (fun rr74q M_74q hp74q => ?_)
              obtain ⟨z74q, rfl, hfxM_74, hrdM_74, hanM_74⟩ := hp74q
              refine aw_eq (stk2 := [aI z74q, aL z69q]) ?_ rfl rfl rfl rfl
              have f74 : FX RC RF M M_74q := hf.tr hfxM_74 (by decide) (by decide)
              have r74 : z74q = pk (aMan (fgT M) 3 x3q 0) := pk_e (by have q := hanM_74; rw [(fg_fx hf (by decide)).1] at q; exact q) (fun _ _ => aMan_u)
              refine aw_i2l cx dX7_digest_77 ?_
              refine aw_laddW cx dX7_digest_78 (fun z78q hz78q => ?_)
              refine aw_lstore_n (loc2 := [(1, aL z78q), (0, aR 32), (3, aI x3q)]) cx dX7_digest_79 rfl (by decide) rfl ?_
              refine aw_ldc2 (x := 31) cx dX7_digest_80 kc_X7_362 (by decide +kernel) ?_
              refine aw_lload_n cx dX7_digest_83 rfl 0 rfl ?_
              refine aw_lmulW cx dX7_digest_84 (fun z84q hz84q => ?_)
              refine aw_aload_n cx dX7_digest_85 rfl 1 rfl ?_
              refine aw_bipush (n := 12) cx dX7_digest_86 (by decide) ?_
              refine aw_iload_n cx dX7_digest_88 rfl 2 rfl ?_
              refine aw_iconst (n := 0) cx dX7_digest_89 (by decide) ?_
              refine aw_callV (as := [aI 12, aI x3q, aI 0]) (k := 32) (stk := [aL z84q]) cx dX7_digest_90 ml_X7_249 mv_X7_manOf rfl (lb_32 tl) (by decide) rfl rfl (Nat.le_of_ble_eq_true rfl) (ct_X7_manOf tl M_74q _ _ _ (JQ_fx hj f74 (by decide)) (by omega) (by omega) (by omega)) (fun rr90q M_90q hp90q => ?_)
              obtain ⟨z90q, rfl, hfxM_90, hrdM_90, hanM_90⟩ := hp90q
              refine aw_eq (stk2 := [aI z90q, aL z84q]) ?_ rfl rfl rfl rfl
              have f90 : FX RC RF M M_90q := f74.tr hfxM_90 (by decide) (by decide)
              have r90 : z90q = pk (aMan (fgT M) 12 x3q 0) := pk_e (by have q := hanM_90; rw [(fg_fx f74 (by decide)).1] at q; exact q) (fun _ _ => aMan_u)
              refine aw_i2l cx dX7_digest_93 ?_
              refine aw_laddW cx dX7_digest_94 (fun z94q hz94q => ?_)
              refine aw_lstore_n (loc2 := [(1, aL z94q), (0, aR 32), (3, aI x3q)]) cx dX7_digest_95 rfl (by decide) rfl ?_
              refine aw_ldc2 (x := 31) cx dX7_digest_96 kc_X7_362 (by decide +kernel) ?_
              refine aw_lload_n cx dX7_digest_99 rfl 0 rfl ?_
              refine aw_lmulW cx dX7_digest_100 (fun z100q hz100q => ?_)
              refine aw_aload_n cx dX7_digest_101 rfl 1 rfl ?_
              refine aw_bipush (n := 23) cx dX7_digest_102 (by decide) ?_
              refine aw_iload_n cx dX7_digest_104 rfl 2 rfl ?_
              refine aw_iconst (n := 0) cx dX7_digest_105 (by decide) ?_
              refine aw_callV (as := [aI 23, aI x3q, aI 0]) (k := 32) (stk := [aL z100q]) cx dX7_digest_106 ml_X7_249 mv_X7_manOf rfl (lb_32 tl) (by decide) rfl rfl (Nat.le_of_ble_eq_true rfl) (ct_X7_manOf tl M_90q _ _ _ (JQ_fx hj f90 (by decide)) (by omega) (by omega) (by omega)) (fun rr106q M_106q hp106q => ?_)
              obtain ⟨z106q, rfl, hfxM_106, hrdM_106, hanM_106⟩ := hp106q
              refine aw_eq (stk2 := [aI z106q, aL z100q]) ?_ rfl rfl rfl rfl
              have f106 : FX RC RF M M_106q := f90.tr hfxM_106 (by decide) (by decide)
              have r106 : z106q = pk (aMan (fgT M) 23 x3q 0) := pk_e (by have q := hanM_106; rw [(fg_fx f90 (by decide)).1] at q; exact q) (fun _ _ => aMan_u)
              refine aw_i2l cx dX7_digest_109 ?_
              refine aw_laddW cx dX7_digest_110 (fun z110q hz110q => ?_)
              refine aw_lstore_n (loc2 := [(1, aL z110q), (0, aR 32), (3, aI x3q)]) cx dX7_digest_111 rfl (by decide) rfl ?_
              refine aw_ldc2 (x := 31) cx dX7_digest_112 kc_X7_362 (by decide +kernel) ?_
              refine aw_lload_n cx dX7_digest_115 rfl 0 rfl ?_
              refine aw_lmulW cx dX7_digest_116 (fun z116q hz116q => ?_)
              refine aw_aload_n cx dX7_digest_117 rfl 1 rfl ?_
              refine aw_bipush (n := 23) cx dX7_digest_118 (by decide) ?_
              refine aw_iload_n cx dX7_digest_120 rfl 2 rfl ?_
              refine aw_iconst (n := 1) cx dX7_digest_121 (by decide) ?_
              refine aw_callV (as := [aI 23, aI x3q, aI 1]) (k := 32) (stk := [aL z116q]) cx dX7_digest_122 ml_X7_249 mv_X7_manOf rfl (lb_32 tl) (by decide) rfl rfl (Nat.le_of_ble_eq_true rfl) (ct_X7_manOf tl M_106q _ _ _ (JQ_fx hj f106 (by decide)) (by omega) (by omega) (by omega)) (fun rr122q M_122q hp122q => ?_)
              obtain ⟨z122q, rfl, hfxM_122, hrdM_122, hanM_122⟩ := hp122q
              refine aw_eq (stk2 := [aI z122q, aL z116q]) ?_ rfl rfl rfl rfl
              have f122 : FX RC RF M M_122q := f106.tr hfxM_122 (by decide) (by decide)
              have r122 : z122q = pk (aMan (fgT M) 23 x3q 1) := pk_e (by have q := hanM_122; rw [(fg_fx f106 (by decide)).1] at q; exact q) (fun _ _ => aMan_u)
              refine aw_i2l cx dX7_digest_125 ?_
              refine aw_laddW cx dX7_digest_126 (fun z126q hz126q => ?_)
              refine aw_lstore_n (loc2 := [(1, aL z126q), (0, aR 32), (3, aI x3q)]) cx dX7_digest_127 rfl (by decide) rfl ?_
              refine aw_iinc cx dX7_digest_128 2 rfl (by decide) (by omega) (fun z128q hz128q => ?_)
              refine aw_loc (loc2 := [(3, aI z128q), (1, aL z126q), (0, aR 32)]) rfl ?_
              refine aw_goto (tgt := 59) cx dX7_digest_131 (by decide) ?_
              refine aw_sub [2, 1, 0] rfl ?_
              refine ih59q _ _ _  ?i_h0 ?i_hf ?i_hr ?i_hx3 ?i_m
              case i_h0 =>
                omega
              case i_hf =>
                exact f122
              case i_hr =>
                exact hrdM_122
              case i_hx3 =>
                rw [hz128q, lpF_i h0q.1]; unfold dMan; rw [hz126q, hz116q, r122, hz110q, hz100q, r106, hz94q, hz84q, r90, hz78q, hz69q, r74, hx3]; rfl
              case i_m =>
                omega
        refine aw_sub [2, 1, 0] rfl ?_
        refine lp59q _ _ _ _  ?i_h0 ?i_hf ?i_hr ?i_hx3 (Nat.lt_succ_self _)
        case i_h0 =>
          omega
        case i_hf =>
          exact f51
        case i_hr =>
          exact hrdM_51
        case i_hx3 =>
          rw [hz55q, hz48q, r51, hz42q, hz35q, r38, hx1, show x3q.toNat = 8 by omega]; exact lpF_0
      · refine aw_ldc2 (x := 31) cx dX7_digest_12 kc_X7_362 (by decide +kernel) ?_
        refine aw_lload_n cx dX7_digest_15 rfl 1 rfl ?_
        refine aw_lmulW cx dX7_digest_16 (fun z16q hz16q => ?_)
        refine aw_aload_n cx dX7_digest_17 rfl 0 rfl ?_
        refine aw_iload_n cx dX7_digest_18 rfl 2 rfl ?_
        refine aw_callV (as := [aI x3q]) (k := 32) (stk := [aL z16q]) cx dX7_digest_19 ml_X7_366 mv_X7_count rfl (lb_32 tl) (by decide) rfl rfl (Nat.le_of_ble_eq_true rfl) (ct_X7_count tl N6q _ (JQ_fx hj hf (by decide)) (by rw [hf.fd 43 (by decide), hf.at 0 (by decide)]; exact hfi)) (fun rr19q M_19q hp19q => ?_)
        obtain ⟨z19q, rfl, hfxM_19, hanM_19⟩ := hp19q
        refine aw_eq (stk2 := [aI z19q, aL z16q]) ?_ rfl rfl rfl rfl
        have f19 : FX RC RF M M_19q := hf.tr hfxM_19 (by decide) (by decide)
        have r19 : z19q = dCount M x3q.toNat := pk_e (by rw [show ((x3q.toNat : Nat) : Int) = x3q by omega]; exact aCount_fx hf hanM_19) (fun _ _ => aCount_u)
        refine aw_i2l cx dX7_digest_22 ?_
        refine aw_laddW cx dX7_digest_23 (fun z23q hz23q => ?_)
        refine aw_lstore_n (loc2 := [(1, aL z23q), (0, aR 32), (3, aI x3q)]) cx dX7_digest_24 rfl (by decide) rfl ?_
        refine aw_iinc cx dX7_digest_25 2 rfl (by decide) (by omega) (fun z25q hz25q => ?_)
        refine aw_loc (loc2 := [(3, aI z25q), (1, aL z23q), (0, aR 32)]) rfl ?_
        refine aw_goto (tgt := 6) cx dX7_digest_28 (by decide) ?_
        refine aw_sub [2, 1, 0] rfl ?_
        refine ih6q _ _ _  ?i_h0 ?i_hf ?i_hx1 ?i_m
        case i_h0 =>
          omega
        case i_hf =>
          exact f19
        case i_hx1 =>
          rw [hz25q, lpD_i h0q.1, hz23q, hz16q, r19, hx1]; rfl
        case i_m =>
          omega
  refine aw_sub [2, 1, 0] rfl ?_
  refine lp6q _ _ _ _  ?i_h0 ?i_hf ?i_hx1 (Nat.lt_succ_self _)
  case i_h0 =>
    omega
  case i_hf =>
    exact FX.rf
  case i_hx1 =>
    rfl
