set_option maxHeartbeats 1000000 in
set_option maxRecDepth 100000 in
theorem ct_X7_no (tl : List CD) (M : Mem) (k : Int) (hk : -10 ≤ k ∧ k ≤ 0) : Ct 0 mX7_no (LB ++ tl) [aI k] M (fun r M1 => M = M1 ∧ ∃ x, r = some (aL x) ∧ x = -9223372036854775808 - k) := by
  refine Ct.of (own := RX7) rfl (by decide +kernel) (Nat.le_of_ble_eq_true rfl) (fun X cx rt => ?_)
  refine aw_eq (loc2 := [(0, aI k)]) ?_ rfl rfl rfl rfl
  refine aw_rngL 0 rfl (fun rl_k rh_k => ?_)
  refine aw_ldc2 (x := (-9223372036854775808)) cx dX7_no_0 kc_X7_111 (by decide +kernel) ?_
  refine aw_iload_n cx dX7_no_3 rfl 0 rfl ?_
  refine aw_i2l cx dX7_no_4 ?_
  refine aw_lsub cx dX7_no_5 (by omega) (fun z5q hz5q => ?_)
  refine aw_lret cx rt dX7_no_6 ?_
  exact ⟨rfl, _, rfl, by omega⟩
set_option maxHeartbeats 1000000 in
set_option maxRecDepth 100000 in
theorem ct_X7_lowest (tl : List CD) (M : Mem) (s b what : Int) (e : Nat) (hs : 0 ≤ s ∧ s ≤ 1099511627776) (he : e ≤ 32) (hb : b = ((2 ^ e : Nat) : Int)) (hw : 0 ≤ what ∧ what ≤ 1) : Ct 0 mX7_lowest (LB ++ tl) [aL s, aL b, aI what] M (fun r M1 => M = M1 ∧ ∃ x, r = some (aL x) ∧ aLow s e what x) := by
  refine Ct.of (own := RX7) rfl (by decide +kernel) (Nat.le_of_ble_eq_true rfl) (fun X cx rt => ?_)
  refine aw_eq (loc2 := [(0, aL s), (2, aL b), (4, aI what)]) ?_ rfl rfl rfl rfl
  refine aw_rngL 2 rfl (fun rl_what rh_what => ?_)
  have hp1q := Nat.two_pow_pos e
  have hbt : b.toNat = 2 ^ e := by omega
  refine aw_lload_n cx dX7_lowest_0 rfl 0 rfl ?_
  refine aw_lstore (loc2 := [(5, aL s), (0, aL s), (2, aL b), (4, aI what)]) cx dX7_lowest_1 (by decide) rfl ?_
  refine aw_lload_n cx dX7_lowest_3 rfl 2 rfl ?_
  refine aw_lstore (loc2 := [(7, aL b), (5, aL s), (0, aL s), (2, aL b), (4, aI what)]) cx dX7_lowest_4 (by decide) rfl ?_
  have lp6q : ∀ (fu : Nat) (x5q : Int) (x7q : Int), (0 ≤ x5q ∧ 0 ≤ x7q) → (Nat.gcd x5q.toNat x7q.toNat = Nat.gcd s.toNat b.toNat) → (x7q.toNat) < fu → AW X (LB ++ tl) 11 6 [(0, aL s), (2, aL b), (4, aI what), (5, aL x5q), (7, aL x7q)] [] M := by
    intro fu
    induction fu with
    | zero =>
      intro x5q x7q h0q hg hm
      exact absurd hm (Nat.not_lt_zero _)
    | succ fu ih6q =>
      intro x5q x7q h0q hg hm
      refine aw_lload cx dX7_lowest_6 4 rfl ?_
      refine aw_lconst (v := 0) cx dX7_lowest_8 rfl ?_
      refine aw_lcmp cx dX7_lowest_9 (fun c9q => ?_) (fun c9q => ?_) (fun c9q => ?_)
      · refine aw_if_eq (tgt := 31) cx dX7_lowest_10 (by decide) (fun c10q => ?_) (fun c10q => ?_)
        · exact absurd c10q (by decide)
        · refine aw_lload cx dX7_lowest_13 3 rfl ?_
          refine aw_lload cx dX7_lowest_15 4 rfl ?_
          refine aw_lrem cx dX7_lowest_17 (by omega) (by omega) (fun z17q hz17q => ?_)
          refine aw_lstore (loc2 := [(9, aL z17q), (0, aL s), (2, aL b), (4, aI what), (5, aL x5q), (7, aL x7q)]) cx dX7_lowest_18 (by decide) rfl ?_
          refine aw_lload cx dX7_lowest_20 5 rfl ?_
          refine aw_lstore (loc2 := [(5, aL x7q), (9, aL z17q), (0, aL s), (2, aL b), (4, aI what), (7, aL x7q)]) cx dX7_lowest_22 (by decide) rfl ?_
          refine aw_lload cx dX7_lowest_24 1 rfl ?_
          refine aw_lstore (loc2 := [(7, aL z17q), (5, aL x7q), (9, aL z17q), (0, aL s), (2, aL b), (4, aI what)]) cx dX7_lowest_26 (by decide) rfl ?_
          refine aw_goto (tgt := 6) cx dX7_lowest_28 (by decide) ?_
          refine aw_sub [3, 4, 5, 1, 0] rfl ?_
          refine ih6q _ _  ?i_h0 ?i_hg ?i_m
          case i_h0 =>
            have q := Int.emod_nonneg x5q (show x7q ≠ 0 by omega); omega
          case i_hg =>
            rw [hz17q, gcd_step h0q.1 (by omega)]; exact hg
          case i_m =>
            have q := Int.emod_lt_of_pos x5q (show 0 < x7q by omega); have q2q := Int.emod_nonneg x5q (show x7q ≠ 0 by omega); omega
      · refine aw_if_eq (tgt := 31) cx dX7_lowest_10 (by decide) (fun c10q => ?_) (fun c10q => ?_)
        · have hg0 : x5q.toNat = Nat.gcd s.toNat (2 ^ e) := by rw [← hbt, ← hg, show x7q.toNat = 0 by omega, Nat.gcd_zero_right]
          have hgp := Nat.gcd_pos_of_pos_right s.toNat hp1q
          have hx5 : 0 < x5q := by omega
          obtain ⟨t, hlow, hbot⟩ := LOW_gcd (s := s) (e := e) (g := x5q.toNat) hs.1 hg0
          rw [show ((x5q.toNat : Nat) : Int) = x5q by omega] at hlow hbot
          refine aw_iload cx dX7_lowest_31 2 rfl ?_
          refine aw_if_ne (tgt := 43) cx dX7_lowest_33 (by decide) (fun c33q => ?_) (fun c33q => ?_)
          · refine aw_lload_n cx dX7_lowest_43 rfl 1 rfl ?_
            refine aw_lload cx dX7_lowest_44 3 rfl ?_
            refine aw_ldiv cx dX7_lowest_46 (by omega) (by omega) (fun z46q hz46q => ?_)
            refine aw_lret cx rt dX7_lowest_47 ?_
            exact ⟨rfl, _, rfl, _, t, hlow, Or.inr ⟨by omega, by rw [hz46q, hb]; exact hbot⟩⟩
          · refine aw_lload_n cx dX7_lowest_36 rfl 0 rfl ?_
            refine aw_lload cx dX7_lowest_37 3 rfl ?_
            refine aw_ldiv cx dX7_lowest_39 (by omega) (by omega) (fun z39q hz39q => ?_)
            refine aw_goto (tgt := 47) cx dX7_lowest_40 (by decide) ?_
            refine aw_lret cx rt dX7_lowest_47 ?_
            exact ⟨rfl, _, rfl, _, t, hlow, Or.inl ⟨by omega, hz39q⟩⟩
        · exact absurd c10q (by decide)
      · exfalso
        omega
  refine aw_sub [2, 3, 4, 1, 0] rfl ?_
  refine lp6q _ _ _  ?i_h0 ?i_hg (Nat.lt_succ_self _)
  case i_h0 =>
    omega
  case i_hg =>
    rfl
set_option maxHeartbeats 1000000 in
set_option maxRecDepth 100000 in
theorem ct_X7_chanceOf (tl : List CD) (M : Mem) (c j what : Int) (hj : JQ M) (hc : 0 ≤ c ∧ c ≤ 16) (hjc : 0 ≤ j ∧ j < M 15 2) (hw : 0 ≤ what ∧ what ≤ 1) : Ct 7 mX7_chanceOf (LB ++ tl) [aR 32, aI c, aI j, aI what] M (fun r M1 => ∃ x, r = some (aL x) ∧ FX RC RF M M1 ∧ RD M1 ∧ aLow (fFAV (fgT M) (qgT M) c j.toNat) (4 * (M 18 3).toNat) what x) := by
  refine Ct.of (own := RX7) rfl (by decide +kernel) (Nat.le_of_ble_eq_true rfl) (fun X cx rt => ?_)
  refine aw_eq (loc2 := [(0, aR 32), (1, aI c), (2, aI j), (3, aI what)]) ?_ rfl rfl rfl rfl
  refine aw_rngL 1 rfl (fun rl_c rh_c => ?_)
  refine aw_rngL 2 rfl (fun rl_j rh_j => ?_)
  refine aw_rngL 3 rfl (fun rl_what rh_what => ?_)
  refine aw_ok (fun om => ?_)
  have hcz : 0 ≤ M 15 2 ∧ M 15 2 ≤ 8 := okF om (lb_15 tl) (j := 2) rfl (show (0 : Nat) ≠ 1 by decide)
  have hse : 0 ≤ M 18 3 ∧ M 18 3 ≤ 8 := okF om (lb_18 tl) (j := 3) rfl (show (0 : Nat) ≠ 1 by decide)
  have hp2q : (2 : Nat) ^ (M 18 3).toNat ≤ 2 ^ 8 := Nat.pow_le_pow_right (by omega) (by omega)
  have hp1q := Nat.two_pow_pos (M 18 3).toNat
  have hsh := bShl_1 (k := M 18 3) (by omega)
  refine aw_aload_n cx dX7_chanceOf_0 rfl 0 rfl ?_
  refine aw_callV (as := []) (k := 32) (stk := []) cx dX7_chanceOf_1 ml_X7_234 mv_X7_asTold rfl (lb_32 tl) (by decide) rfl rfl (Nat.le_of_ble_eq_true rfl) (ct_X7_asTold tl M  (hj)) (fun rr1q M_1q hp1q => ?_)
  obtain ⟨rfl, hfxM_1, hrdM_1, hnwM_1⟩ := hp1q
  refine aw_eq (stk2 := []) ?_ rfl rfl rfl rfl
  have hnx := NWX_of hnwM_1
  have e11q : M_1q 32 11 = M 18 3 := by rw [hfxM_1.fd 11 (by decide)]; exact hj.2.1.1
  refine aw_lconst (v := 0) cx dX7_chanceOf_4 rfl ?_
  refine aw_lstore (loc2 := [(4, aL 0), (0, aR 32), (1, aI c), (2, aI j), (3, aI what)]) cx dX7_chanceOf_5 (by decide) rfl ?_
  refine aw_iconst (n := 0) cx dX7_chanceOf_7 (by decide) ?_
  refine aw_istore (loc2 := [(6, aI 0), (4, aL 0), (0, aR 32), (1, aI c), (2, aI j), (3, aI what)]) cx dX7_chanceOf_8 (by decide) rfl ?_
  have lp10q : ∀ (fu : Nat) (x4q : Int) (x6q : Int) (N10q : Mem), (0 ≤ x6q ∧ x6q ≤ ((2 ^ (M 18 3).toNat : Nat) : Int)) → (FX [48, 49, 50, 51, 52, 53] [21, 28] M_1q N10q) → (x4q = sm (fun s => gCH (fgT M) (qgT M) c j.toNat (2 ^ (M 18 3).toNat - (s + 1))) x6q.toNat) → (0 ≤ x4q ∧ x4q ≤ 4294967296 * x6q) → ((((2 ^ (M 18 3).toNat : Nat) : Int) - x6q).toNat) < fu → AW X (LB ++ tl) 10 10 [(0, aR 32), (1, aI c), (2, aI j), (3, aI what), (4, aL x4q), (6, aI x6q)] [] N10q := by
    intro fu
    induction fu with
    | zero =>
      intro x4q x6q N10q h0q hf hx hb hm
      exact absurd hm (Nat.not_lt_zero _)
    | succ fu ih10q =>
      intro x4q x6q N10q h0q hf hx hb hm
      have e11b := hf.fd 11 (by decide)
      refine aw_iload cx dX7_chanceOf_10 5 rfl ?_
      refine aw_iconst (n := 1) cx dX7_chanceOf_12 (by decide) ?_
      refine aw_aload_n cx dX7_chanceOf_13 rfl 0 rfl ?_
      refine aw_getI cx dX7_chanceOf_14 fl_X7_171 (lb_32 tl) rfl (fun z14q hz14q lo_z14q hi_z14q => ?_)
      refine aw_ishl cx dX7_chanceOf_17 (fun z17q hz17q => ?_)
      have hlim : z17q = ((2 ^ (M 18 3).toNat : Nat) : Int) := by rw [hz17q, show z14q = M 18 3 by omega]; exact hsh
      refine aw_icmp_ge (tgt := 112) cx dX7_chanceOf_18 (by decide) (fun c18q => ?_) (fun c18q => ?_)
      · refine aw_lload cx dX7_chanceOf_112 4 rfl ?_
        refine aw_lconst (v := 1) cx dX7_chanceOf_114 rfl ?_
        refine aw_iconst (n := 4) cx dX7_chanceOf_115 (by decide) ?_
        refine aw_aload_n cx dX7_chanceOf_116 rfl 0 rfl ?_
        refine aw_getI cx dX7_chanceOf_117 fl_X7_171 (lb_32 tl) rfl (fun z117q hz117q lo_z117q hi_z117q => ?_)
        refine aw_imul cx dX7_chanceOf_120 (by omega) (fun z120q hz120q => ?_)
        refine aw_lshl cx dX7_chanceOf_121 (fun z121q hz121q => ?_)
        refine aw_iload_n cx dX7_chanceOf_122 rfl 3 rfl ?_
        refine aw_callS (as := [aL x4q, aL z121q, aI what]) (stk := []) cx dX7_chanceOf_123 ml_X7_333 ms_X7_lowest (by decide) rfl rfl (Nat.le_of_ble_eq_true rfl) (ct_X7_lowest tl N10q _ _ _ (4 * (M 18 3).toNat) (by omega) (by omega) (by rw [hz121q, lShl_1 (by omega), show z120q.toNat = 4 * (M 18 3).toNat by omega]) (hw)) (fun rr123q M_123q hp123q => ?_)
        obtain ⟨rfl, z123q, rfl, hlwz123⟩ := hp123q
        refine aw_eq (stk2 := [aL z123q]) ?_ rfl rfl rfl rfl
        refine aw_lret cx rt dX7_chanceOf_126 ?_
        refine ⟨_, rfl, (hfxM_1.mono (by decide) (by decide)).tr hf (by decide) (by decide), RD_fx hrdM_1 hf (by decide), ?_⟩
        have q := hlwz123
        rw [hx, show x6q.toNat = 2 ^ (M 18 3).toNat by omega] at q
        rw [← gCH_sum]
        exact q
      · refine aw_lconst (v := 1) cx dX7_chanceOf_21 rfl ?_
        refine aw_lstore (loc2 := [(7, aL 1), (0, aR 32), (1, aI c), (2, aI j), (3, aI what), (4, aL x4q), (6, aI x6q)]) cx dX7_chanceOf_22 (by decide) rfl ?_
        refine aw_iconst (n := 0) cx dX7_chanceOf_24 (by decide) ?_
        refine aw_istore (loc2 := [(9, aI 0), (7, aL 1), (0, aR 32), (1, aI c), (2, aI j), (3, aI what), (4, aL x4q), (6, aI x6q)]) cx dX7_chanceOf_25 (by decide) rfl ?_
        have lp27q : ∀ (fu : Nat) (x7q : Int) (x9q : Int), (0 ≤ x9q ∧ x9q ≤ M 18 3) → (x7q = WTF c x6q x9q.toNat) → ((M 18 3 - x9q).toNat) < fu → AW X (LB ++ tl) 10 27 [(0, aR 32), (1, aI c), (2, aI j), (3, aI what), (4, aL x4q), (6, aI x6q), (7, aL x7q), (9, aI x9q)] [] N10q := by
          intro fu
          induction fu with
          | zero =>
            intro x7q x9q p0 pv hm
            exact absurd hm (Nat.not_lt_zero _)
          | succ fu ih27q =>
            intro x7q x9q p0 pv hm
            have hwb : 0 ≤ x7q ∧ x7q ≤ 4294967296 := by rw [pv]; exact WTF_in hc (by omega)
            refine aw_iload cx dX7_chanceOf_27 7 rfl ?_
            refine aw_aload_n cx dX7_chanceOf_29 rfl 0 rfl ?_
            refine aw_getI cx dX7_chanceOf_30 fl_X7_171 (lb_32 tl) rfl (fun z30q hz30q lo_z30q hi_z30q => ?_)
            refine aw_icmp_ge (tgt := 67) cx dX7_chanceOf_33 (by decide) (fun c33q => ?_) (fun c33q => ?_)
            · have hsn : x6q.toNat < 2 ^ (M 18 3).toNat := by omega
              have hwp := WTF_pwr (c := c) (m := (M 18 3).toNat) (s := x6q.toNat) hc (by omega) hsn
              rw [show ((x6q.toNat : Nat) : Int) = x6q by omega] at hwp
              have hwx : x7q = PWR c (M 18 3).toNat (((2 ^ (M 18 3).toNat - (x6q.toNat + 1) : Nat)) : Int) := by rw [← hwp, pv, show x9q.toNat = (M 18 3).toNat by omega]
              refine aw_lload cx dX7_chanceOf_67 6 rfl ?_
              refine aw_lconst (v := 0) cx dX7_chanceOf_69 rfl ?_
              refine aw_lcmp cx dX7_chanceOf_70 (fun c70q => ?_) (fun c70q => ?_) (fun c70q => ?_)
              · refine aw_if_le (tgt := 106) cx dX7_chanceOf_71 (by decide) (fun c71q => ?_) (fun c71q => ?_)
                · exact absurd c71q (by decide)
                · refine aw_ok (fun omk => ?_)
                  have h44k : ∀ j, 0 ≤ N10q 44 j := fun j => (okA omk (lb_44 tl) j).1
                  have h7k : 0 ≤ N10q 32 7 ∧ N10q 32 7 ≤ 8 := okF omk (lb_32 tl) (j := 7) rfl (show (0 : Nat) ≠ 1 by decide)
                  refine aw_aload_n cx dX7_chanceOf_74 rfl 0 rfl ?_
                  refine aw_iload cx dX7_chanceOf_75 5 rfl ?_
                  refine aw_putI cx dX7_chanceOf_77 fl_X7_190 kt_X7 rfl rfl (lb_32 tl) rfl (⟨by omega, by omega⟩) ?_
                  obtain ⟨M_77q, hM_77q⟩ : ∃ qm, qm = up N10q 32 21 x6q := ⟨_, rfl⟩
                  rw [← hM_77q]
                  refine aw_aload_n cx dX7_chanceOf_80 rfl 0 rfl ?_
                  refine aw_callV (as := []) (k := 32) (stk := []) cx dX7_chanceOf_81 ml_X7_237 mv_X7_runs rfl (lb_32 tl) (by decide) rfl rfl (Nat.le_of_ble_eq_true rfl) (ct_X7_runs tl M_77q  ) (fun rr81q M_81q hp81q => ?_)
                  obtain ⟨rfl, hfxM_81, hrnM_81⟩ := hp81q
                  refine aw_eq (stk2 := []) ?_ rfl rfl rfl rfl
                  rw [hM_77q] at hrnM_81
                  have hR := no_rnf (K' := KEF (((2 ^ (M 18 3).toNat - (x6q.toNat + 1) : Nat)) : Int) (gK (fgT M))) hj ((hfxM_1.mono (by decide) (by decide)).tr hf (by decide) (by decide)) (RD_fx hrdM_1 hf (by decide)) (NWX_fx hnx hf (by decide)) h44k h7k.2 (fun e he => by have q := KEN_KEF (K := M 19) hsn he; rw [show ((x6q.toNat : Nat) : Int) = x6q by omega] at q; exact q) hrnM_81
                  have hcb := hR.2.2.2.2.2.1
                  have fxb : FX [48, 49, 50, 51, 52, 53] [21, 28] M_1q M_81q := (hf.put hM_77q (by decide)).tr hfxM_81 (by decide) (by decide)
                  refine aw_lload cx dX7_chanceOf_84 4 rfl ?_
                  refine aw_aload_n cx dX7_chanceOf_86 rfl 0 rfl ?_
                  refine aw_getI cx dX7_chanceOf_87 fl_X7_228 (lb_32 tl) rfl (fun z87q hz87q lo_z87q hi_z87q => ?_)
                  refine aw_iload_n cx dX7_chanceOf_90 rfl 2 rfl ?_
                  refine aw_callS (as := [aI z87q, aI j]) (stk := [aL x4q]) cx dX7_chanceOf_91 ml_X7_196 ms_X7_isIn (by decide) rfl rfl (Nat.le_of_ble_eq_true rfl) (ct_X7_isIn tl M_81q _ _ (by omega) (by omega)) (fun rr91q M_91q hp91q => ?_)
                  obtain ⟨rfl, rfl⟩ := hp91q
                  refine aw_top (stk := [aL x4q]) (fun z91q hz91q => ?_)
                  refine aw_if_eq (tgt := 102) cx dX7_chanceOf_94 (by decide) (fun c94q => ?_) (fun c94q => ?_)
                  · have d94q := b2_e0.mp (hz91q.symm.trans c94q)
                    refine aw_lconst (v := 0) cx dX7_chanceOf_102 rfl ?_
                    refine aw_ladd cx dX7_chanceOf_103 (by omega) (fun z103q hz103q => ?_)
                    refine aw_lstore (loc2 := [(4, aL z103q), (0, aR 32), (1, aI c), (2, aI j), (3, aI what), (6, aI x6q), (7, aL x7q), (9, aI x9q)]) cx dX7_chanceOf_104 (by decide) rfl ?_
                    refine aw_iinc cx dX7_chanceOf_106 5 rfl (by decide) (by omega) (fun z106q hz106q => ?_)
                    refine aw_loc (loc2 := [(6, aI z106q), (4, aL z103q), (0, aR 32), (1, aI c), (2, aI j), (3, aI what), (7, aL x7q), (9, aI x9q)]) rfl ?_
                    refine aw_goto (tgt := 10) cx dX7_chanceOf_109 (by decide) ?_
                    refine aw_sub [2, 3, 4, 5, 1, 0] rfl ?_
                    refine ih10q _ _ _  ?i_h0 ?i_hf ?i_hx ?i_hb ?i_m
                    case i_h0 =>
                      omega
                    case i_hf =>
                      exact fxb
                    case i_hx =>
                      rw [hz106q, sm_i h0q.1, ← hx]
                      have q : gCH (fgT M) (qgT M) c j.toNat (2 ^ (M 18 3).toNat - (x6q.toNat + 1)) = 0 := by
                        unfold gCH
                        rw [← hcb, bC_f (by rw [← hz87q]; exact d94q), Int.zero_mul]
                      show z103q = x4q + gCH (fgT M) (qgT M) c j.toNat (2 ^ (M 18 3).toNat - (x6q.toNat + 1))
                      rw [q, hz103q]
                    case i_hb =>
                      omega
                    case i_m =>
                      omega
                  · have d94q := b2_y hz91q c94q
                    refine aw_lload cx dX7_chanceOf_97 6 rfl ?_
                    refine aw_goto (tgt := 103) cx dX7_chanceOf_99 (by decide) ?_
                    refine aw_ladd cx dX7_chanceOf_103 (by omega) (fun z103q hz103q => ?_)
                    refine aw_lstore (loc2 := [(4, aL z103q), (0, aR 32), (1, aI c), (2, aI j), (3, aI what), (6, aI x6q), (7, aL x7q), (9, aI x9q)]) cx dX7_chanceOf_104 (by decide) rfl ?_
                    refine aw_iinc cx dX7_chanceOf_106 5 rfl (by decide) (by omega) (fun z106q hz106q => ?_)
                    refine aw_loc (loc2 := [(6, aI z106q), (4, aL z103q), (0, aR 32), (1, aI c), (2, aI j), (3, aI what), (7, aL x7q), (9, aI x9q)]) rfl ?_
                    refine aw_goto (tgt := 10) cx dX7_chanceOf_109 (by decide) ?_
                    refine aw_sub [2, 3, 4, 5, 1, 0] rfl ?_
                    refine ih10q _ _ _  ?i_h0 ?i_hf ?i_hx ?i_hb ?i_m
                    case i_h0 =>
                      omega
                    case i_hf =>
                      exact fxb
                    case i_hx =>
                      rw [hz106q, sm_i h0q.1, ← hx]
                      have q : gCH (fgT M) (qgT M) c j.toNat (2 ^ (M 18 3).toNat - (x6q.toNat + 1)) = x7q := by
                        unfold gCH
                        rw [← hcb, bC_t (by rw [← hz87q]; exact d94q), Int.one_mul, hwx]
                        rfl
                      show z103q = x4q + gCH (fgT M) (qgT M) c j.toNat (2 ^ (M 18 3).toNat - (x6q.toNat + 1))
                      rw [q, hz103q]
                    case i_hb =>
                      omega
                    case i_m =>
                      omega
              · refine aw_if_le (tgt := 106) cx dX7_chanceOf_71 (by decide) (fun c71q => ?_) (fun c71q => ?_)
                · refine aw_iinc cx dX7_chanceOf_106 5 rfl (by decide) (by omega) (fun z106q hz106q => ?_)
                  refine aw_loc (loc2 := [(6, aI z106q), (0, aR 32), (1, aI c), (2, aI j), (3, aI what), (4, aL x4q), (7, aL x7q), (9, aI x9q)]) rfl ?_
                  refine aw_goto (tgt := 10) cx dX7_chanceOf_109 (by decide) ?_
                  refine aw_sub [1, 2, 3, 4, 5, 0] rfl ?_
                  refine ih10q _ _ _  ?i_h0 ?i_hf ?i_hx ?i_hb ?i_m
                  case i_h0 =>
                    omega
                  case i_hf =>
                    exact hf
                  case i_hx =>
                    rw [hz106q, sm_i h0q.1, ← hx]
                    have q : gCH (fgT M) (qgT M) c j.toNat (2 ^ (M 18 3).toNat - (x6q.toNat + 1)) = 0 := by
                      unfold gCH
                      show _ * PWR c (M 18 3).toNat _ = 0
                      rw [← hwx, show x7q = 0 by omega, Int.mul_zero]
                    show x4q = x4q + gCH (fgT M) (qgT M) c j.toNat (2 ^ (M 18 3).toNat - (x6q.toNat + 1))
                    rw [q]; omega
                  case i_hb =>
                    omega
                  case i_m =>
                    omega
                · exact absurd c71q (by decide)
              · exfalso
                omega
            · refine aw_lload cx dX7_chanceOf_36 6 rfl ?_
              refine aw_iload cx dX7_chanceOf_38 5 rfl ?_
              refine aw_iload cx dX7_chanceOf_40 7 rfl ?_
              refine aw_callS (as := [aI x6q, aI x9q]) (stk := [aL x7q]) cx dX7_chanceOf_42 ml_X7_196 ms_X7_isIn (by decide) rfl rfl (Nat.le_of_ble_eq_true rfl) (ct_X7_isIn tl N10q _ _ (by omega) (by omega)) (fun rr42q M_42q hp42q => ?_)
              obtain ⟨rfl, rfl⟩ := hp42q
              refine aw_top (stk := [aL x7q]) (fun z42q hz42q => ?_)
              refine aw_if_eq (tgt := 56) cx dX7_chanceOf_45 (by decide) (fun c45q => ?_) (fun c45q => ?_)
              · have d45q := b2_e0.mp (hz42q.symm.trans c45q)
                refine aw_iload_n cx dX7_chanceOf_56 rfl 1 rfl ?_
                refine aw_i2l cx dX7_chanceOf_57 ?_
                refine aw_lmul cx dX7_chanceOf_58 (by first | (have q := mul16 (a := x7q) (b := z51q) (by omega) (by omega); omega) | (have q := mul16 (a := x7q) (b := c) (by omega) (by omega); omega)) (fun z58q hz58q => ?_)
                refine aw_lstore (loc2 := [(7, aL z58q), (0, aR 32), (1, aI c), (2, aI j), (3, aI what), (4, aL x4q), (6, aI x6q), (9, aI x9q)]) cx dX7_chanceOf_59 (by decide) rfl ?_
                refine aw_iinc cx dX7_chanceOf_61 7 rfl (by decide) (by omega) (fun z61q hz61q => ?_)
                refine aw_loc (loc2 := [(9, aI z61q), (7, aL z58q), (0, aR 32), (1, aI c), (2, aI j), (3, aI what), (4, aL x4q), (6, aI x6q)]) rfl ?_
                refine aw_goto (tgt := 27) cx dX7_chanceOf_64 (by decide) ?_
                refine aw_sub [2, 3, 4, 5, 6, 7, 1, 0] rfl ?_
                refine ih27q _ _  ?i_p0 ?i_pv ?i_m
                case i_p0 =>
                  omega
                case i_pv =>
                  rw [hz61q, WTF_i p0.1, ← pv, hz58q]; first | (rw [if_pos d45q, hz51q]; done) | (rw [if_neg d45q]; done)
                case i_m =>
                  omega
              · have d45q := b2_y hz42q c45q
                refine aw_bipush (n := 16) cx dX7_chanceOf_48 (by decide) ?_
                refine aw_iload_n cx dX7_chanceOf_50 rfl 1 rfl ?_
                refine aw_isub cx dX7_chanceOf_51 (by omega) (fun z51q hz51q => ?_)
                refine aw_i2l cx dX7_chanceOf_52 ?_
                refine aw_goto (tgt := 58) cx dX7_chanceOf_53 (by decide) ?_
                refine aw_lmul cx dX7_chanceOf_58 (by first | (have q := mul16 (a := x7q) (b := z51q) (by omega) (by omega); omega) | (have q := mul16 (a := x7q) (b := c) (by omega) (by omega); omega)) (fun z58q hz58q => ?_)
                refine aw_lstore (loc2 := [(7, aL z58q), (0, aR 32), (1, aI c), (2, aI j), (3, aI what), (4, aL x4q), (6, aI x6q), (9, aI x9q)]) cx dX7_chanceOf_59 (by decide) rfl ?_
                refine aw_iinc cx dX7_chanceOf_61 7 rfl (by decide) (by omega) (fun z61q hz61q => ?_)
                refine aw_loc (loc2 := [(9, aI z61q), (7, aL z58q), (0, aR 32), (1, aI c), (2, aI j), (3, aI what), (4, aL x4q), (6, aI x6q)]) rfl ?_
                refine aw_goto (tgt := 27) cx dX7_chanceOf_64 (by decide) ?_
                refine aw_sub [2, 3, 4, 5, 6, 7, 1, 0] rfl ?_
                refine ih27q _ _  ?i_p0 ?i_pv ?i_m
                case i_p0 =>
                  omega
                case i_pv =>
                  rw [hz61q, WTF_i p0.1, ← pv, hz58q]; first | (rw [if_pos d45q, hz51q]; done) | (rw [if_neg d45q]; done)
                case i_m =>
                  omega
        refine aw_sub [2, 3, 4, 5, 6, 7, 1, 0] rfl ?_
        refine lp27q _ _ _  ?i_p0 ?i_pv (Nat.lt_succ_self _)
        case i_p0 =>
          omega
        case i_pv =>
          rfl
  refine aw_sub [2, 3, 4, 5, 1, 0] rfl ?_
  refine lp10q _ _ _ _  ?i_h0 ?i_hf ?i_hx ?i_hb (Nat.lt_succ_self _)
  case i_h0 =>
    omega
  case i_hf =>
    exact FX.rf
  case i_hx =>
    rfl
  case i_hb =>
    omega
set_option maxHeartbeats 1000000 in
set_option maxRecDepth 100000 in
theorem ct_X7_chance (tl : List CD) (M : Mem) (c j what : Int) (hj : JQ M) : Ct 8 mX7_chance (LB ++ tl) [aR 32, aI c, aI j, aI what] M (fun r M1 => ∃ x, r = some (aL x) ∧ FX RC RF M M1 ∧ aChance (M 15 2) (fgT M) (qgT M) c j what x) := by
  refine Ct.of (own := RX7) rfl (by decide +kernel) (Nat.le_of_ble_eq_true rfl) (fun X cx rt => ?_)
  refine aw_eq (loc2 := [(0, aR 32), (1, aI c), (2, aI j), (3, aI what)]) ?_ rfl rfl rfl rfl
  refine aw_rngL 1 rfl (fun rl_c rh_c => ?_)
  refine aw_rngL 2 rfl (fun rl_j rh_j => ?_)
  refine aw_rngL 3 rfl (fun rl_what rh_what => ?_)
  refine aw_ok (fun om => ?_)
  have hcz : 0 ≤ M 15 2 ∧ M 15 2 ≤ 8 := okF om (lb_15 tl) (j := 2) rfl (show (0 : Nat) ≠ 1 by decide)
  refine aw_iload_n cx dX7_chance_0 rfl 1 rfl ?_
  refine aw_iconst (n := 0) cx dX7_chance_1 (by decide) ?_
  refine aw_bipush (n := 16) cx dX7_chance_2 (by decide) ?_
  refine aw_callS (as := [aI c, aI 0, aI 16]) (stk := []) cx dX7_chance_4 ml_X7_113 ms_X7_in (by decide) rfl rfl (Nat.le_of_ble_eq_true rfl) (ct_X7_in tl M _ _ _ ) (fun rr4q M_4q hp4q => ?_)
  obtain ⟨rfl, rfl⟩ := hp4q
  refine aw_top (stk := []) (fun z4q hz4q => ?_)
  refine aw_if_eq (tgt := 35) cx dX7_chance_7 (by decide) (fun c7q => ?_) (fun c7q => ?_)
  · have d7q := b2_e0.mp (hz4q.symm.trans c7q)
    refine aw_bipush (n := (-2)) cx dX7_chance_35 (by decide) ?_
    refine aw_callS (as := [aI ((-2))]) (stk := []) cx dX7_chance_37 ml_X7_341 ms_X7_no (by decide) rfl rfl (Nat.le_of_ble_eq_true rfl) (ct_X7_no tl M _ (by omega)) (fun rr37q M_37q hp37q => ?_)
    obtain ⟨rfl, z37q, rfl, hnoz37⟩ := hp37q
    refine aw_eq (stk2 := [aL z37q]) ?_ rfl rfl rfl rfl
    refine aw_lret cx rt dX7_chance_40 ?_
    first | exact ⟨_, rfl, (hfxM_12.mono (by decide) (by decide)).tr hfxM_29 (by decide) (by decide), Or.inr ⟨by omega, by omega, by omega, by omega, by omega, by omega, hanM_29⟩⟩ | exact ⟨_, rfl, FX.rf, Or.inl ⟨by omega, by omega⟩⟩ | exact ⟨_, rfl, hfxM_12.mono (by decide) (by decide), Or.inl ⟨by omega, by omega⟩⟩
  · have d7q := b2_y hz4q c7q
    refine aw_aload_n cx dX7_chance_10 rfl 0 rfl ?_
    refine aw_iload_n cx dX7_chance_11 rfl 2 rfl ?_
    refine aw_callV (as := [aI j]) (k := 32) (stk := []) cx dX7_chance_12 ml_X7_162 mv_X7_isCharge rfl (lb_32 tl) (by decide) rfl rfl (Nat.le_of_ble_eq_true rfl) (ct_X7_isCharge tl M _ (hj.1)) (fun rr12q M_12q hp12q => ?_)
    obtain ⟨z12q, rfl, hfxM_12, hrdM_12, hisM_12⟩ := hp12q
    refine aw_eq (stk2 := [aI z12q]) ?_ rfl rfl rfl rfl
    have efg := fg_fx hfxM_12 (by decide)
    refine aw_if_eq (tgt := 35) cx dX7_chance_15 (by decide) (fun c15q => ?_) (fun c15q => ?_)
    · refine aw_bipush (n := (-2)) cx dX7_chance_35 (by decide) ?_
      refine aw_callS (as := [aI ((-2))]) (stk := []) cx dX7_chance_37 ml_X7_341 ms_X7_no (by decide) rfl rfl (Nat.le_of_ble_eq_true rfl) (ct_X7_no tl M_12q _ (by omega)) (fun rr37q M_37q hp37q => ?_)
      obtain ⟨rfl, z37q, rfl, hnoz37⟩ := hp37q
      refine aw_eq (stk2 := [aL z37q]) ?_ rfl rfl rfl rfl
      refine aw_lret cx rt dX7_chance_40 ?_
      first | exact ⟨_, rfl, (hfxM_12.mono (by decide) (by decide)).tr hfxM_29 (by decide) (by decide), Or.inr ⟨by omega, by omega, by omega, by omega, by omega, by omega, hanM_29⟩⟩ | exact ⟨_, rfl, FX.rf, Or.inl ⟨by omega, by omega⟩⟩ | exact ⟨_, rfl, hfxM_12.mono (by decide) (by decide), Or.inl ⟨by omega, by omega⟩⟩
    · refine aw_iload_n cx dX7_chance_18 rfl 3 rfl ?_
      refine aw_callS (as := [aI what]) (stk := []) cx dX7_chance_19 ml_X7_117 ms_X7_isTwo (by decide) rfl rfl (Nat.le_of_ble_eq_true rfl) (ct_X7_isTwo tl M_12q _ ) (fun rr19q M_19q hp19q => ?_)
      obtain ⟨rfl, rfl⟩ := hp19q
      refine aw_top (stk := []) (fun z19q hz19q => ?_)
      refine aw_if_eq (tgt := 35) cx dX7_chance_22 (by decide) (fun c22q => ?_) (fun c22q => ?_)
      · have d22q := b2_e0.mp (hz19q.symm.trans c22q)
        refine aw_bipush (n := (-2)) cx dX7_chance_35 (by decide) ?_
        refine aw_callS (as := [aI ((-2))]) (stk := []) cx dX7_chance_37 ml_X7_341 ms_X7_no (by decide) rfl rfl (Nat.le_of_ble_eq_true rfl) (ct_X7_no tl M_12q _ (by omega)) (fun rr37q M_37q hp37q => ?_)
        obtain ⟨rfl, z37q, rfl, hnoz37⟩ := hp37q
        refine aw_eq (stk2 := [aL z37q]) ?_ rfl rfl rfl rfl
        refine aw_lret cx rt dX7_chance_40 ?_
        first | exact ⟨_, rfl, (hfxM_12.mono (by decide) (by decide)).tr hfxM_29 (by decide) (by decide), Or.inr ⟨by omega, by omega, by omega, by omega, by omega, by omega, hanM_29⟩⟩ | exact ⟨_, rfl, FX.rf, Or.inl ⟨by omega, by omega⟩⟩ | exact ⟨_, rfl, hfxM_12.mono (by decide) (by decide), Or.inl ⟨by omega, by omega⟩⟩
      · have d22q := b2_y hz19q c22q
        refine aw_aload_n cx dX7_chance_25 rfl 0 rfl ?_
        refine aw_iload_n cx dX7_chance_26 rfl 1 rfl ?_
        refine aw_iload_n cx dX7_chance_27 rfl 2 rfl ?_
        refine aw_iload_n cx dX7_chance_28 rfl 3 rfl ?_
        refine aw_callV (as := [aI c, aI j, aI what]) (k := 32) (stk := []) cx dX7_chance_29 ml_X7_337 mv_X7_chanceOf rfl (lb_32 tl) (by decide) rfl rfl (Nat.le_of_ble_eq_true rfl) (ct_X7_chanceOf tl M_12q _ _ _ (JQ_fx hj hfxM_12 (by decide)) (by omega) (by rw [hfxM_12.at 15 (by decide)]; omega) (by omega)) (fun rr29q M_29q hp29q => ?_)
        obtain ⟨z29q, rfl, hfxM_29, hrdM_29, hanM_29⟩ := hp29q
        refine aw_eq (stk2 := [aL z29q]) ?_ rfl rfl rfl rfl
        rw [efg.1, efg.2, hfxM_12.at 18 (by decide)] at hanM_29
        refine aw_goto (tgt := 40) cx dX7_chance_32 (by decide) ?_
        refine aw_lret cx rt dX7_chance_40 ?_
        first | exact ⟨_, rfl, (hfxM_12.mono (by decide) (by decide)).tr hfxM_29 (by decide) (by decide), Or.inr ⟨by omega, by omega, by omega, by omega, by omega, by omega, hanM_29⟩⟩ | exact ⟨_, rfl, FX.rf, Or.inl ⟨by omega, by omega⟩⟩ | exact ⟨_, rfl, hfxM_12.mono (by decide) (by decide), Or.inl ⟨by omega, by omega⟩⟩
set_option maxHeartbeats 1000000 in
set_option maxRecDepth 100000 in
theorem ct_X7_livesOf (tl : List CD) (M : Mem) (seed n what : Int) (hj : JQ M) (hn : 0 ≤ n ∧ n ≤ 12) (hw : 0 ≤ what ∧ what ≤ 1) : Ct 7 mX7_livesOf (LB ++ tl) [aR 32, aI seed, aI n, aI what] M (fun r M1 => ∃ x, r = some (aI x) ∧ FX RC RF M M1 ∧ RD M1 ∧ (aLives (lvF M seed n) (qgT M) n what x)) := by
  refine Ct.of (own := RX7) rfl (by decide +kernel) (Nat.le_of_ble_eq_true rfl) (fun X cx rt => ?_)
  refine aw_eq (loc2 := [(0, aR 32), (1, aI seed), (2, aI n), (3, aI what)]) ?_ rfl rfl rfl rfl
  refine aw_rngL 1 rfl (fun rl_seed rh_seed => ?_)
  refine aw_rngL 2 rfl (fun rl_n rh_n => ?_)
  refine aw_rngL 3 rfl (fun rl_what rh_what => ?_)
  refine aw_aload_n cx dX7_livesOf_0 rfl 0 rfl ?_
  refine aw_callV (as := []) (k := 32) (stk := []) cx dX7_livesOf_1 ml_X7_234 mv_X7_asTold rfl (lb_32 tl) (by decide) rfl rfl (Nat.le_of_ble_eq_true rfl) (ct_X7_asTold tl M  (hj)) (fun rr1q M_1q hp1q => ?_)
  obtain ⟨rfl, hfxM_1, hrdM_1, hnwM_1⟩ := hp1q
  refine aw_eq (stk2 := []) ?_ rfl rfl rfl rfl
  obtain ⟨n1, n2, n3, n4⟩ := hnwM_1
  refine aw_iload_n cx dX7_livesOf_4 rfl 1 rfl ?_
  refine aw_istore (loc2 := [(4, aI seed), (0, aR 32), (1, aI seed), (2, aI n), (3, aI what)]) cx dX7_livesOf_5 (by decide) rfl ?_
  refine aw_aload_n cx dX7_livesOf_7 rfl 1 rfl ?_
  refine aw_iload_n cx dX7_livesOf_8 rfl 3 rfl ?_
  refine aw_putI cx dX7_livesOf_9 fl_X7_184 kt_X7 rfl rfl (lb_32 tl) rfl (⟨by omega, by omega⟩) ?_
  obtain ⟨M_9q, hM_9q⟩ : ∃ qm, qm = up M_1q 32 15 n := ⟨_, rfl⟩
  rw [← hM_9q]
  refine aw_iconst (n := 0) cx dX7_livesOf_12 (by decide) ?_
  refine aw_istore (loc2 := [(5, aI 0), (4, aI seed), (0, aR 32), (1, aI seed), (2, aI n), (3, aI what)]) cx dX7_livesOf_13 (by decide) rfl ?_
  have lp15q : ∀ (fu : Nat) (x4q : Int) (x5q : Int) (N15q : Mem), (0 ≤ x5q ∧ x5q ≤ n) → (x4q = LSQ seed (4 * x5q.toNat)) → (FX [44, 45, 46, 47] [15] M_1q N15q) → (N15q 32 15 = n) → (∀ i, i < x5q.toNat → N15q 44 i = bUsh (LSQ seed (4 * i + 1)) 16 % 24 ∧ N15q 45 i = bUsh (LSQ seed (4 * i + 2)) 16 % 8 ∧ N15q 46 i = bUsh (LSQ seed (4 * i + 3)) 16 % 10 ∧ N15q 47 i = bUsh (LSQ seed (4 * i + 4)) 16 % 3) → ((n - x5q).toNat) < fu → AW X (LB ++ tl) 6 15 [(0, aR 32), (1, aI seed), (2, aI n), (3, aI what), (4, aI x4q), (5, aI x5q)] [] N15q := by
    intro fu
    induction fu with
    | zero =>
      intro x4q x5q N15q h0q hl hf hs ha hm
      exact absurd hm (Nat.not_lt_zero _)
    | succ fu ih15q =>
      intro x4q x5q N15q h0q hl hf hs ha hm
      refine aw_iload cx dX7_livesOf_15 5 rfl ?_
      refine aw_iload_n cx dX7_livesOf_17 rfl 2 rfl ?_
      refine aw_icmp_ge (tgt := 134) cx dX7_livesOf_18 (by decide) (fun c18q => ?_) (fun c18q => ?_)
      · refine aw_ok (fun omk => ?_)
        have h44k : ∀ j, 0 ≤ N15q 44 j := fun j => (okA omk (lb_44 tl) j).1
        have h7k : 0 ≤ N15q 32 7 ∧ N15q 32 7 ≤ 8 := okF omk (lb_32 tl) (j := 7) rfl (show (0 : Nat) ≠ 1 by decide)
        refine aw_aload_n cx dX7_livesOf_134 rfl 0 rfl ?_
        refine aw_callV (as := []) (k := 32) (stk := []) cx dX7_livesOf_135 ml_X7_237 mv_X7_runs rfl (lb_32 tl) (by decide) rfl rfl (Nat.le_of_ble_eq_true rfl) (ct_X7_runs tl N15q  ) (fun rr135q M_135q hp135q => ?_)
        obtain ⟨rfl, hfxM_135, hrnM_135⟩ := hp135q
        refine aw_eq (stk2 := []) ?_ rfl rfl rfl rfl
        have hN := now_g (F := lvF M seed n) (lo := -1) hj ((hfxM_1.mono (by decide) (by decide)).tr hf (by decide) (by decide)) (RD_fx hrdM_1 hf (by decide)) (by rw [hf.fd 20 (by decide)]; exact n2) (by rw [hs]; rfl) rfl (fun e _ => by rw [hf.fd 21 (by decide), n3, KEN_0]; rfl) rfl rfl (fun i hi => ha i (by have q : i < n.toNat := hi; omega)) h44k h7k.2 hrnM_135
        obtain ⟨rf1, rf2, rf3, rf4, rf5, rf6, rf7⟩ := hN
        have fxb : FX [44, 45, 46, 47, 48, 49, 50, 51, 52, 53] [15, 28] M_1q M_135q := (hf.mono (by decide) (by decide)).tr hfxM_135 (by decide) (by decide)
        refine aw_iload_n cx dX7_livesOf_138 rfl 3 rfl ?_
        refine aw_if_ne (tgt := 152) cx dX7_livesOf_139 (by decide) (fun c139q => ?_) (fun c139q => ?_)
        · refine aw_aload_n cx dX7_livesOf_152 rfl 0 rfl ?_
          refine aw_callV (as := []) (k := 32) (stk := []) cx dX7_livesOf_153 ml_X7_262 mv_X7_countMany rfl (lb_32 tl) (by decide) rfl rfl (Nat.le_of_ble_eq_true rfl) (ct_X7_countMany tl M_135q  ) (fun rr153q M_153q hp153q => ?_)
          obtain ⟨rfl, rfl⟩ := hp153q
          refine aw_top (stk := []) (fun z153q hz153q => ?_)
          refine aw_iret cx rt dX7_livesOf_156 ?_
          refine ⟨_, rfl, (hfxM_1.mono (by decide) (by decide)).tr fxb (by decide) (by decide), RD_fx hrdM_1 fxb (by decide), Or.inr ⟨by omega, by omega, Or.inr ⟨by omega, ?_⟩⟩⟩
          rw [hz153q, hfxM_135.fd 15 (by decide), hs]
          exact sm_c rf2
        · refine aw_aload_n cx dX7_livesOf_142 rfl 0 rfl ?_
          refine aw_getI cx dX7_livesOf_143 fl_X7_228 (lb_32 tl) rfl (fun z143q hz143q lo_z143q hi_z143q => ?_)
          refine aw_callS (as := [aI z143q]) (stk := []) cx dX7_livesOf_146 ml_X7_259 ms_X7_many (by decide) rfl rfl (Nat.le_of_ble_eq_true rfl) (ct_X7_many tl M_135q _ (by omega)) (fun rr146q M_146q hp146q => ?_)
          obtain ⟨rfl, rfl⟩ := hp146q
          refine aw_top (stk := []) (fun z146q hz146q => ?_)
          have hrz146q : 0 ≤ z146q ∧ z146q ≤ 12 := by rw [hz146q]; exact PCN_in _
          refine aw_goto (tgt := 156) cx dX7_livesOf_149 (by decide) ?_
          refine aw_iret cx rt dX7_livesOf_156 ?_
          refine ⟨_, rfl, (hfxM_1.mono (by decide) (by decide)).tr fxb (by decide) (by decide), RD_fx hrdM_1 fxb (by decide), Or.inr ⟨by omega, by omega, Or.inl ⟨by omega, ?_⟩⟩⟩
          rw [hz146q, hz143q, rf6]
      · refine aw_ldc_w (x := 1103515245) cx dX7_livesOf_21 kc_X7_345 (by decide +kernel) ?_
        refine aw_iload cx dX7_livesOf_24 4 rfl ?_
        refine aw_imulW cx dX7_livesOf_26 (fun z26q hz26q => ?_)
        refine aw_sipush (n := 12345) cx dX7_livesOf_27 (by decide) ?_
        refine aw_iaddW cx dX7_livesOf_30 (fun z30q hz30q => ?_)
        have l1 : z30q = LSQ seed (4 * x5q.toNat + 1) := by rw [hz30q, hz26q, hl]; rfl
        refine aw_istore (loc2 := [(4, aI z30q), (0, aR 32), (1, aI seed), (2, aI n), (3, aI what), (5, aI x5q)]) cx dX7_livesOf_31 (by decide) rfl ?_
        refine aw_aload_n cx dX7_livesOf_33 rfl 1 rfl ?_
        refine aw_getR (q := 44) cx dX7_livesOf_34 fl_X7_43 (lb_32 tl) rfl rfl ?_
        refine aw_iload cx dX7_livesOf_37 5 rfl ?_
        refine aw_iload cx dX7_livesOf_39 0 rfl ?_
        refine aw_bipush (n := 16) cx dX7_livesOf_41 (by decide) ?_
        refine aw_iushr cx dX7_livesOf_43 (fun z43q hz43q => ?_)
        have b43 := bUsh16 z30q
        rw [← hz43q] at b43
        refine aw_bipush (n := 24) cx dX7_livesOf_44 (by decide) ?_
        refine aw_irem cx dX7_livesOf_46 (by omega) (by omega) (fun z46q hz46q => ?_)
        refine aw_iast cx dX7_livesOf_47 (lb_44 tl) (⟨by omega, by omega⟩) (⟨by omega, by omega⟩) ?_
        obtain ⟨M_47q, hM_47q⟩ : ∃ qm, qm = up N15q (44) (Int.toNat (x5q)) (z46q) := ⟨_, rfl⟩
        rw [← hM_47q]
        refine aw_ldc_w (x := 1103515245) cx dX7_livesOf_48 kc_X7_345 (by decide +kernel) ?_
        refine aw_iload cx dX7_livesOf_51 0 rfl ?_
        refine aw_imulW cx dX7_livesOf_53 (fun z53q hz53q => ?_)
        refine aw_sipush (n := 12345) cx dX7_livesOf_54 (by decide) ?_
        refine aw_iaddW cx dX7_livesOf_57 (fun z57q hz57q => ?_)
        have l2 : z57q = LSQ seed (4 * x5q.toNat + 2) := by rw [hz57q, hz53q, l1]; rfl
        refine aw_istore (loc2 := [(4, aI z57q), (0, aR 32), (1, aI seed), (2, aI n), (3, aI what), (5, aI x5q)]) cx dX7_livesOf_58 (by decide) rfl ?_
        refine aw_aload_n cx dX7_livesOf_60 rfl 1 rfl ?_
        refine aw_getR (q := 45) cx dX7_livesOf_61 fl_X7_46 (lb_32 tl) rfl rfl ?_
        refine aw_iload cx dX7_livesOf_64 5 rfl ?_
        refine aw_iload cx dX7_livesOf_66 0 rfl ?_
        refine aw_bipush (n := 16) cx dX7_livesOf_68 (by decide) ?_
        refine aw_iushr cx dX7_livesOf_70 (fun z70q hz70q => ?_)
        have b70 := bUsh16 z57q
        rw [← hz70q] at b70
        refine aw_bipush (n := 8) cx dX7_livesOf_71 (by decide) ?_
        refine aw_irem cx dX7_livesOf_73 (by omega) (by omega) (fun z73q hz73q => ?_)
        refine aw_iast cx dX7_livesOf_74 (lb_45 tl) (⟨by omega, by omega⟩) (⟨by omega, by omega⟩) ?_
        obtain ⟨M_74q, hM_74q⟩ : ∃ qm, qm = up M_47q (45) (Int.toNat (x5q)) (z73q) := ⟨_, rfl⟩
        rw [← hM_74q]
        refine aw_ldc_w (x := 1103515245) cx dX7_livesOf_75 kc_X7_345 (by decide +kernel) ?_
        refine aw_iload cx dX7_livesOf_78 0 rfl ?_
        refine aw_imulW cx dX7_livesOf_80 (fun z80q hz80q => ?_)
        refine aw_sipush (n := 12345) cx dX7_livesOf_81 (by decide) ?_
        refine aw_iaddW cx dX7_livesOf_84 (fun z84q hz84q => ?_)
        have l3 : z84q = LSQ seed (4 * x5q.toNat + 3) := by rw [hz84q, hz80q, l2]; rfl
        refine aw_istore (loc2 := [(4, aI z84q), (0, aR 32), (1, aI seed), (2, aI n), (3, aI what), (5, aI x5q)]) cx dX7_livesOf_85 (by decide) rfl ?_
        refine aw_aload_n cx dX7_livesOf_87 rfl 1 rfl ?_
        refine aw_getR (q := 46) cx dX7_livesOf_88 fl_X7_49 (lb_32 tl) rfl rfl ?_
        refine aw_iload cx dX7_livesOf_91 5 rfl ?_
        refine aw_iload cx dX7_livesOf_93 0 rfl ?_
        refine aw_bipush (n := 16) cx dX7_livesOf_95 (by decide) ?_
        refine aw_iushr cx dX7_livesOf_97 (fun z97q hz97q => ?_)
        have b97 := bUsh16 z84q
        rw [← hz97q] at b97
        refine aw_bipush (n := 10) cx dX7_livesOf_98 (by decide) ?_
        refine aw_irem cx dX7_livesOf_100 (by omega) (by omega) (fun z100q hz100q => ?_)
        refine aw_iast cx dX7_livesOf_101 (lb_46 tl) (⟨by omega, by omega⟩) (⟨by omega, by omega⟩) ?_
        obtain ⟨M_101q, hM_101q⟩ : ∃ qm, qm = up M_74q (46) (Int.toNat (x5q)) (z100q) := ⟨_, rfl⟩
        rw [← hM_101q]
        refine aw_ldc_w (x := 1103515245) cx dX7_livesOf_102 kc_X7_345 (by decide +kernel) ?_
        refine aw_iload cx dX7_livesOf_105 0 rfl ?_
        refine aw_imulW cx dX7_livesOf_107 (fun z107q hz107q => ?_)
        refine aw_sipush (n := 12345) cx dX7_livesOf_108 (by decide) ?_
        refine aw_iaddW cx dX7_livesOf_111 (fun z111q hz111q => ?_)
        have l4 : z111q = LSQ seed (4 * x5q.toNat + 4) := by rw [hz111q, hz107q, l3]; rfl
        refine aw_istore (loc2 := [(4, aI z111q), (0, aR 32), (1, aI seed), (2, aI n), (3, aI what), (5, aI x5q)]) cx dX7_livesOf_112 (by decide) rfl ?_
        refine aw_aload_n cx dX7_livesOf_114 rfl 1 rfl ?_
        refine aw_getR (q := 47) cx dX7_livesOf_115 fl_X7_52 (lb_32 tl) rfl rfl ?_
        refine aw_iload cx dX7_livesOf_118 5 rfl ?_
        refine aw_iload cx dX7_livesOf_120 0 rfl ?_
        refine aw_bipush (n := 16) cx dX7_livesOf_122 (by decide) ?_
        refine aw_iushr cx dX7_livesOf_124 (fun z124q hz124q => ?_)
        have b124 := bUsh16 z111q
        rw [← hz124q] at b124
        refine aw_iconst (n := 3) cx dX7_livesOf_125 (by decide) ?_
        refine aw_irem cx dX7_livesOf_126 (by omega) (by omega) (fun z126q hz126q => ?_)
        refine aw_iast cx dX7_livesOf_127 (lb_47 tl) (⟨by omega, by omega⟩) (⟨by omega, by omega⟩) ?_
        obtain ⟨M_127q, hM_127q⟩ : ∃ qm, qm = up M_101q (47) (Int.toNat (x5q)) (z126q) := ⟨_, rfl⟩
        rw [← hM_127q]
        refine aw_iinc cx dX7_livesOf_128 5 rfl (by decide) (by omega) (fun z128q hz128q => ?_)
        refine aw_loc (loc2 := [(5, aI z128q), (4, aI z111q), (0, aR 32), (1, aI seed), (2, aI n), (3, aI what)]) rfl ?_
        refine aw_goto (tgt := 15) cx dX7_livesOf_131 (by decide) ?_
        refine aw_sub [2, 3, 4, 5, 1, 0] rfl ?_
        refine ih15q _ _ _  ?i_h0 ?i_hl ?i_hf ?i_hs ?i_ha ?i_m
        case i_h0 =>
          omega
        case i_hl =>
          rw [hz128q, show 4 * (x5q + 1).toNat = 4 * x5q.toNat + 4 by omega]; exact l4
        case i_hf =>
          exact (((hf.pc hM_47q (by decide)).pc hM_74q (by decide)).pc hM_101q (by decide)).pc hM_127q (by decide)
        case i_hs =>
          rw [up_ne hM_127q (by omega), up_ne hM_101q (by omega), up_ne hM_74q (by omega), up_ne hM_47q (by omega)]; exact hs
        case i_ha =>
          intro i hi
          by_cases q : i = x5q.toNat
          · rw [q]
            refine ⟨?_, ?_, ?_, ?_⟩
            · rw [up_ne hM_127q (by omega), up_ne hM_101q (by omega), up_ne hM_74q (by omega), up_eq hM_47q, hz46q, hz43q, l1]
            · rw [up_ne hM_127q (by omega), up_ne hM_101q (by omega), up_eq hM_74q, hz73q, hz70q, l2]
            · rw [up_ne hM_127q (by omega), up_eq hM_101q, hz100q, hz97q, l3]
            · rw [up_eq hM_127q, hz126q, hz124q, l4]
          · have g := ha i (by omega)
            rw [up_ne hM_127q (by omega), up_ne hM_101q (by omega), up_ne hM_74q (by omega), up_ne hM_47q (by omega), up_ne hM_127q (by omega), up_ne hM_101q (by omega), up_ne hM_74q (by omega), up_ne hM_47q (by omega), up_ne hM_127q (by omega), up_ne hM_101q (by omega), up_ne hM_74q (by omega), up_ne hM_47q (by omega), up_ne hM_127q (by omega), up_ne hM_101q (by omega), up_ne hM_74q (by omega), up_ne hM_47q (by omega)]
            exact g
        case i_m =>
          omega
  refine aw_sub [2, 3, 4, 5, 1, 0] rfl ?_
  refine lp15q _ _ _ _  ?i_h0 ?i_hl ?i_hf ?i_hs ?i_ha (Nat.lt_succ_self _)
  case i_h0 =>
    omega
  case i_hl =>
    rfl
  case i_hf =>
    exact FX.rf.put hM_9q (by decide)
  case i_hs =>
    exact up_eq hM_9q
  case i_ha =>
    exact all_0
set_option maxHeartbeats 1000000 in
set_option maxRecDepth 100000 in
theorem ct_X7_lives (tl : List CD) (M : Mem) (seed n what : Int) (hj : JQ M) : Ct 8 mX7_lives (LB ++ tl) [aR 32, aI seed, aI n, aI what] M (fun r M1 => ∃ x, r = some (aI x) ∧ FX RC RF M M1 ∧ (aLives (lvF M seed n) (qgT M) n what x)) := by
  refine Ct.of (own := RX7) rfl (by decide +kernel) (Nat.le_of_ble_eq_true rfl) (fun X cx rt => ?_)
  refine aw_eq (loc2 := [(0, aR 32), (1, aI seed), (2, aI n), (3, aI what)]) ?_ rfl rfl rfl rfl
  refine aw_rngL 1 rfl (fun rl_seed rh_seed => ?_)
  refine aw_rngL 2 rfl (fun rl_n rh_n => ?_)
  refine aw_rngL 3 rfl (fun rl_what rh_what => ?_)
  refine aw_iload_n cx dX7_lives_0 rfl 2 rfl ?_
  refine aw_iconst (n := 0) cx dX7_lives_1 (by decide) ?_
  refine aw_bipush (n := 12) cx dX7_lives_2 (by decide) ?_
  refine aw_callS (as := [aI n, aI 0, aI 12]) (stk := []) cx dX7_lives_4 ml_X7_113 ms_X7_in (by decide) rfl rfl (Nat.le_of_ble_eq_true rfl) (ct_X7_in tl M _ _ _ ) (fun rr4q M_4q hp4q => ?_)
  obtain ⟨rfl, rfl⟩ := hp4q
  refine aw_top (stk := []) (fun z4q hz4q => ?_)
  refine aw_if_eq (tgt := 27) cx dX7_lives_7 (by decide) (fun c7q => ?_) (fun c7q => ?_)
  · have d7q := b2_e0.mp (hz4q.symm.trans c7q)
    refine aw_bipush (n := (-2)) cx dX7_lives_27 (by decide) ?_
    refine aw_iret cx rt dX7_lives_29 ?_
    first | exact ⟨_, rfl, hfxM_21, hanM_21⟩ | exact ⟨_, rfl, FX.rf, Or.inl ⟨by omega, rfl⟩⟩
  · have d7q := b2_y hz4q c7q
    refine aw_iload_n cx dX7_lives_10 rfl 3 rfl ?_
    refine aw_callS (as := [aI what]) (stk := []) cx dX7_lives_11 ml_X7_117 ms_X7_isTwo (by decide) rfl rfl (Nat.le_of_ble_eq_true rfl) (ct_X7_isTwo tl M _ ) (fun rr11q M_11q hp11q => ?_)
    obtain ⟨rfl, rfl⟩ := hp11q
    refine aw_top (stk := []) (fun z11q hz11q => ?_)
    refine aw_if_eq (tgt := 27) cx dX7_lives_14 (by decide) (fun c14q => ?_) (fun c14q => ?_)
    · have d14q := b2_e0.mp (hz11q.symm.trans c14q)
      refine aw_bipush (n := (-2)) cx dX7_lives_27 (by decide) ?_
      refine aw_iret cx rt dX7_lives_29 ?_
      first | exact ⟨_, rfl, hfxM_21, hanM_21⟩ | exact ⟨_, rfl, FX.rf, Or.inl ⟨by omega, rfl⟩⟩
    · have d14q := b2_y hz11q c14q
      refine aw_aload_n cx dX7_lives_17 rfl 0 rfl ?_
      refine aw_iload_n cx dX7_lives_18 rfl 1 rfl ?_
      refine aw_iload_n cx dX7_lives_19 rfl 2 rfl ?_
      refine aw_iload_n cx dX7_lives_20 rfl 3 rfl ?_
      refine aw_callV (as := [aI seed, aI n, aI what]) (k := 32) (stk := []) cx dX7_lives_21 ml_X7_346 mv_X7_livesOf rfl (lb_32 tl) (by decide) rfl rfl (Nat.le_of_ble_eq_true rfl) (ct_X7_livesOf tl M _ _ _ (hj) (by omega) (by omega)) (fun rr21q M_21q hp21q => ?_)
      obtain ⟨z21q, rfl, hfxM_21, hrdM_21, hanM_21⟩ := hp21q
      refine aw_eq (stk2 := [aI z21q]) ?_ rfl rfl rfl rfl
      refine aw_goto (tgt := 29) cx dX7_lives_24 (by decide) ?_
      refine aw_iret cx rt dX7_lives_29 ?_
      first | exact ⟨_, rfl, hfxM_21, hanM_21⟩ | exact ⟨_, rfl, FX.rf, Or.inl ⟨by omega, rfl⟩⟩
