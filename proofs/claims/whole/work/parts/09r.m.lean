set_option maxHeartbeats 1000000 in
set_option maxRecDepth 100000 in
theorem ct_X7_faultOf (tl : List CD) (M : Mem) (text : Int) (hj : JT M) (ht : 0 ≤ text ∧ text ≤ 1) : Ct 4 mX7_faultOf (LB ++ tl) [aR 32, aI text] M (fun r M1 => ∃ x, r = some (aI x) ∧ FX [35, 36, 37, 38, 39, 40] [2, 7] M M1 ∧ RD M1 ∧ aFault M text x) := by
  refine Ct.of (own := RX7) rfl (by decide +kernel) (Nat.le_of_ble_eq_true rfl) (fun X cx rt => ?_)
  refine aw_eq (loc2 := [(0, aR 32), (1, aI text)]) ?_ rfl rfl rfl rfl
  refine aw_rngL 1 rfl (fun rl_text rh_text => ?_)
  refine aw_ok (fun om => ?_)
  have h3z : 0 ≤ M 3 2 ∧ M 3 2 ≤ 23 := okF om (lb_3 tl) (j := 2) rfl (show (0 : Nat) ≠ 1 by decide)
  refine aw_aload_n cx dX7_faultOf_0 rfl 0 rfl ?_
  refine aw_iconst (n := 0) cx dX7_faultOf_1 (by decide) ?_
  refine aw_callV (as := [aI 0]) (k := 32) (stk := []) cx dX7_faultOf_2 ml_X7_147 mv_X7_readsText rfl (lb_32 tl) (by decide) rfl rfl (Nat.le_of_ble_eq_true rfl) (ct_X7_readsText_0 tl M  ) (fun rr2q M_2q hp2q => ?_)
  obtain ⟨z2q, rfl, hfxM_2, hflM_2, htoM_2⟩ := hp2q
  refine aw_eq (stk2 := [aI z2q]) ?_ rfl rfl rfl rfl
  refine aw_istore_n (loc2 := [(2, aI z2q), (0, aR 32), (1, aI text)]) cx dX7_faultOf_5 rfl (by decide) rfl ?_
  refine aw_aload_n cx dX7_faultOf_6 rfl 1 rfl ?_
  refine aw_iconst (n := 1) cx dX7_faultOf_7 (by decide) ?_
  refine aw_callV (as := [aI 1]) (k := 32) (stk := []) cx dX7_faultOf_8 ml_X7_147 mv_X7_readsText rfl (lb_32 tl) (by decide) rfl rfl (Nat.le_of_ble_eq_true rfl) (ct_X7_readsText_1 tl M_2q  (by rw [hfxM_2.at 33 (by decide), hj.2.1]; omega)) (fun rr8q M_8q hp8q => ?_)
  obtain ⟨z8q, rfl, hfxM_8, hflM_8, htoM_8⟩ := hp8q
  refine aw_eq (stk2 := [aI z8q]) ?_ rfl rfl rfl rfl
  refine aw_istore_n (loc2 := [(3, aI z8q), (2, aI z2q), (0, aR 32), (1, aI text)]) cx dX7_faultOf_11 rfl (by decide) rfl ?_
  refine aw_iload_n cx dX7_faultOf_12 rfl 3 rfl ?_
  refine aw_if_ne (tgt := 20) cx dX7_faultOf_13 (by decide) (fun c13q => ?_) (fun c13q => ?_)
  · refine aw_iload_n cx dX7_faultOf_20 rfl 0 rfl ?_
    refine aw_iret cx rt dX7_faultOf_21 ?_
    have fx : FX [35, 36, 37, 38, 39, 40] [2, 7] M M_8q := (hfxM_2.mono (by decide) (by decide)).tr hfxM_8 (by decide) (by decide)
    refine ⟨_, rfl, fx, RD_mk hj hfxM_2 htoM_2 hfxM_8 htoM_8, ?_⟩
    refine Or.inr ⟨by omega, ?_⟩
    have q := hflM_8
    rw [hfxM_2.at 33 (by decide), hfxM_2.at 34 (by decide), hj.2.1] at q
    exact FLT_c (B' := M 4) hj.2.2.2.1 q
  · refine aw_iload_n cx dX7_faultOf_16 rfl 1 rfl ?_
    refine aw_goto (tgt := 21) cx dX7_faultOf_17 (by decide) ?_
    refine aw_iret cx rt dX7_faultOf_21 ?_
    have fx : FX [35, 36, 37, 38, 39, 40] [2, 7] M M_8q := (hfxM_2.mono (by decide) (by decide)).tr hfxM_8 (by decide) (by decide)
    refine ⟨_, rfl, fx, RD_mk hj hfxM_2 htoM_2 hfxM_8 htoM_8, ?_⟩
    refine Or.inl ⟨by omega, ?_⟩
    have q := hflM_2
    rw [hj.1] at q
    exact FLT_c hj.2.2.1 q
set_option maxHeartbeats 1000000 in
set_option maxRecDepth 100000 in
theorem ct_X7_reads (tl : List CD) (M : Mem)  (hj : JT M) : Ct 5 mX7_reads (LB ++ tl) [aR 32] M (fun r M1 => r = none ∧ FX [35, 36, 37, 38, 39, 40] [2, 7] M M1 ∧ RD M1) := by
  refine Ct.of (own := RX7) rfl (by decide +kernel) (Nat.le_of_ble_eq_true rfl) (fun X cx rt => ?_)
  refine aw_eq (loc2 := [(0, aR 32)]) ?_ rfl rfl rfl rfl
  refine aw_aload_n cx dX7_reads_0 rfl 0 rfl ?_
  refine aw_iconst (n := 0) cx dX7_reads_1 (by decide) ?_
  refine aw_callV (as := [aI 0]) (k := 32) (stk := []) cx dX7_reads_2 ml_X7_150 mv_X7_faultOf rfl (lb_32 tl) (by decide) rfl rfl (Nat.le_of_ble_eq_true rfl) (ct_X7_faultOf tl M _ (hj) (by omega)) (fun rr2q M_2q hp2q => ?_)
  obtain ⟨z2q, rfl, hfxM_2, hrdM_2, hftM_2⟩ := hp2q
  refine aw_eq (stk2 := [aI z2q]) ?_ rfl rfl rfl rfl
  refine aw_istore_n (loc2 := [(1, aI z2q), (0, aR 32)]) cx dX7_reads_5 rfl (by decide) rfl ?_
  refine aw_vret cx rt dX7_reads_6 ?_
  exact ⟨rfl, hfxM_2, hrdM_2⟩
set_option maxHeartbeats 1000000 in
set_option maxRecDepth 100000 in
theorem ct_X7_isTale (tl : List CD) (M : Mem) (k : Int) (hj : JT M) : Ct 6 mX7_isTale (LB ++ tl) [aR 32, aI k] M (fun r M1 => ∃ x, r = some (aI x) ∧ FX [35, 36, 37, 38, 39, 40] [2, 7] M M1 ∧ RD M1 ∧ ((x = 0 ∧ (k < 0 ∨ M 5 4 ≤ k)) ∨ (x = 1 ∧ 0 ≤ k ∧ k < M 5 4))) := by
  refine Ct.of (own := RX7) rfl (by decide +kernel) (Nat.le_of_ble_eq_true rfl) (fun X cx rt => ?_)
  refine aw_eq (loc2 := [(0, aR 32), (1, aI k)]) ?_ rfl rfl rfl rfl
  refine aw_rngL 1 rfl (fun rl_k rh_k => ?_)
  refine aw_aload_n cx dX7_isTale_0 rfl 0 rfl ?_
  refine aw_callV (as := []) (k := 32) (stk := []) cx dX7_isTale_1 ml_X7_153 mv_X7_reads rfl (lb_32 tl) (by decide) rfl rfl (Nat.le_of_ble_eq_true rfl) (ct_X7_reads tl M  (hj)) (fun rr1q M_1q hp1q => ?_)
  obtain ⟨rfl, hfxM_1, hrdM_1⟩ := hp1q
  refine aw_eq (stk2 := []) ?_ rfl rfl rfl rfl
  have er : M_1q 32 2 = M 5 4 := by rw [hrdM_1.1, hfxM_1.at 5 (by decide)]
  refine aw_iload_n cx dX7_isTale_4 rfl 1 rfl ?_
  refine aw_iconst (n := 0) cx dX7_isTale_5 (by decide) ?_
  refine aw_aload_n cx dX7_isTale_6 rfl 0 rfl ?_
  refine aw_getI cx dX7_isTale_7 fl_X7_135 (lb_32 tl) rfl (fun z7q hz7q lo_z7q hi_z7q => ?_)
  refine aw_iconst (n := 1) cx dX7_isTale_10 (by decide) ?_
  refine aw_isub cx dX7_isTale_11 (by omega) (fun z11q hz11q => ?_)
  refine aw_callS (as := [aI k, aI 0, aI z11q]) (stk := []) cx dX7_isTale_12 ml_X7_113 ms_X7_in (by decide) rfl rfl (Nat.le_of_ble_eq_true rfl) (ct_X7_in tl M_1q _ _ _ ) (fun rr12q M_12q hp12q => ?_)
  obtain ⟨rfl, rfl⟩ := hp12q
  refine aw_top (stk := []) (fun z12q hz12q => ?_)
  refine aw_zret cx rt dX7_isTale_15 (by have q := b2_in (0 ≤ k ∧ k ≤ z11q); omega) ?_
  refine ⟨z12q, rfl, hfxM_1, hrdM_1, ?_⟩
  by_cases q : 0 ≤ k ∧ k ≤ z11q
  · rw [b2_t q] at hz12q; omega
  · rw [b2_f q] at hz12q; omega
set_option maxHeartbeats 1000000 in
set_option maxRecDepth 100000 in
theorem ct_X7_isCharge (tl : List CD) (M : Mem) (k : Int) (hj : JT M) : Ct 6 mX7_isCharge (LB ++ tl) [aR 32, aI k] M (fun r M1 => ∃ x, r = some (aI x) ∧ FX [35, 36, 37, 38, 39, 40] [2, 7] M M1 ∧ RD M1 ∧ ((x = 0 ∧ (k < 0 ∨ M 15 2 ≤ k)) ∨ (x = 1 ∧ 0 ≤ k ∧ k < M 15 2))) := by
  refine Ct.of (own := RX7) rfl (by decide +kernel) (Nat.le_of_ble_eq_true rfl) (fun X cx rt => ?_)
  refine aw_eq (loc2 := [(0, aR 32), (1, aI k)]) ?_ rfl rfl rfl rfl
  refine aw_rngL 1 rfl (fun rl_k rh_k => ?_)
  refine aw_aload_n cx dX7_isCharge_0 rfl 0 rfl ?_
  refine aw_callV (as := []) (k := 32) (stk := []) cx dX7_isCharge_1 ml_X7_153 mv_X7_reads rfl (lb_32 tl) (by decide) rfl rfl (Nat.le_of_ble_eq_true rfl) (ct_X7_reads tl M  (hj)) (fun rr1q M_1q hp1q => ?_)
  obtain ⟨rfl, hfxM_1, hrdM_1⟩ := hp1q
  refine aw_eq (stk2 := []) ?_ rfl rfl rfl rfl
  have er : M_1q 32 7 = M 15 2 := by rw [hrdM_1.2.2.1, hfxM_1.at 15 (by decide)]
  refine aw_iload_n cx dX7_isCharge_4 rfl 1 rfl ?_
  refine aw_iconst (n := 0) cx dX7_isCharge_5 (by decide) ?_
  refine aw_aload_n cx dX7_isCharge_6 rfl 0 rfl ?_
  refine aw_getI cx dX7_isCharge_7 fl_X7_138 (lb_32 tl) rfl (fun z7q hz7q lo_z7q hi_z7q => ?_)
  refine aw_iconst (n := 1) cx dX7_isCharge_10 (by decide) ?_
  refine aw_isub cx dX7_isCharge_11 (by omega) (fun z11q hz11q => ?_)
  refine aw_callS (as := [aI k, aI 0, aI z11q]) (stk := []) cx dX7_isCharge_12 ml_X7_113 ms_X7_in (by decide) rfl rfl (Nat.le_of_ble_eq_true rfl) (ct_X7_in tl M_1q _ _ _ ) (fun rr12q M_12q hp12q => ?_)
  obtain ⟨rfl, rfl⟩ := hp12q
  refine aw_top (stk := []) (fun z12q hz12q => ?_)
  refine aw_zret cx rt dX7_isCharge_15 (by have q := b2_in (0 ≤ k ∧ k ≤ z11q); omega) ?_
  refine ⟨z12q, rfl, hfxM_1, hrdM_1, ?_⟩
  by_cases q : 0 ≤ k ∧ k ≤ z11q
  · rw [b2_t q] at hz12q; omega
  · rw [b2_f q] at hz12q; omega
set_option maxHeartbeats 1000000 in
set_option maxRecDepth 100000 in
theorem ct_X7_asTold (tl : List CD) (M : Mem)  (hj : JQ M) : Ct 6 mX7_asTold (LB ++ tl) [aR 32] M (fun r M1 => r = none ∧ FX [35, 36, 37, 38, 39, 40, 44, 45, 46, 47] [2, 7, 15, 20, 21] M M1 ∧ RD M1 ∧ NOW M M1) := by
  refine Ct.of (own := RX7) rfl (by decide +kernel) (Nat.le_of_ble_eq_true rfl) (fun X cx rt => ?_)
  refine aw_eq (loc2 := [(0, aR 32)]) ?_ rfl rfl rfl rfl
  refine aw_ok (fun om => ?_)
  have hsz : 0 ≤ M 5 4 ∧ M 5 4 ≤ 12 := okF om (lb_5 tl) (j := 4) rfl (show (0 : Nat) ≠ 1 by decide)
  refine aw_aload_n cx dX7_asTold_0 rfl 0 rfl ?_
  refine aw_callV (as := []) (k := 32) (stk := []) cx dX7_asTold_1 ml_X7_153 mv_X7_reads rfl (lb_32 tl) (by decide) rfl rfl (Nat.le_of_ble_eq_true rfl) (ct_X7_reads tl M  (hj.1)) (fun rr1q M_1q hp1q => ?_)
  obtain ⟨rfl, hfxM_1, hrdM_1⟩ := hp1q
  refine aw_eq (stk2 := []) ?_ rfl rfl rfl rfl
  have er : M_1q 32 2 = M 5 4 := by rw [hrdM_1.1, hfxM_1.at 5 (by decide)]
  have erw : ∀ i, i < (M 5 4).toNat → M_1q 35 i = M 6 i ∧ M_1q 36 i = M 7 i ∧ M_1q 37 i = M 8 i ∧ M_1q 38 i = M 9 i := by
    intro i hi
    have q := hrdM_1.2.1 i (by rw [hfxM_1.at 5 (by decide)]; exact hi)
    rw [hfxM_1.at 6 (by decide), hfxM_1.at 7 (by decide), hfxM_1.at 8 (by decide), hfxM_1.at 9 (by decide)] at q
    exact q
  refine aw_aload_n cx dX7_asTold_4 rfl 0 rfl ?_
  refine aw_aload_n cx dX7_asTold_5 rfl 0 rfl ?_
  refine aw_getI cx dX7_asTold_6 fl_X7_135 (lb_32 tl) rfl (fun z6q hz6q lo_z6q hi_z6q => ?_)
  refine aw_putI cx dX7_asTold_9 fl_X7_184 kt_X7 rfl rfl (lb_32 tl) rfl (⟨by omega, by omega⟩) ?_
  obtain ⟨M_9q, hM_9q⟩ : ∃ qm, qm = up M_1q 32 15 z6q := ⟨_, rfl⟩
  rw [← hM_9q]
  refine aw_iconst (n := 0) cx dX7_asTold_12 (by decide) ?_
  refine aw_istore_n (loc2 := [(1, aI 0), (0, aR 32)]) cx dX7_asTold_13 rfl (by decide) rfl ?_
  have lp14q : ∀ (fu : Nat) (x1q : Int) (N14q : Mem), (0 ≤ x1q ∧ x1q ≤ M 5 4) → (FX [44, 45, 46, 47] [15] M_1q N14q) → (N14q 32 15 = M 5 4) → (∀ i, i < x1q.toNat → N14q 44 i = M_1q 35 i ∧ N14q 45 i = M_1q 36 i ∧ N14q 46 i = M_1q 37 i ∧ N14q 47 i = M_1q 38 i) → ((M 5 4 - x1q).toNat) < fu → AW X (LB ++ tl) 2 14 [(0, aR 32), (1, aI x1q)] [] N14q := by
    intro fu
    induction fu with
    | zero =>
      intro x1q N14q h0q hf hn ha hm
      exact absurd hm (Nat.not_lt_zero _)
    | succ fu ih14q =>
      intro x1q N14q h0q hf hn ha hm
      have e2q := hf.fd 2 (by decide)
      refine aw_iload_n cx dX7_asTold_14 rfl 1 rfl ?_
      refine aw_aload_n cx dX7_asTold_15 rfl 0 rfl ?_
      refine aw_getI cx dX7_asTold_16 fl_X7_135 (lb_32 tl) rfl (fun z16q hz16q lo_z16q hi_z16q => ?_)
      refine aw_icmp_ge (tgt := 76) cx dX7_asTold_19 (by decide) (fun c19q => ?_) (fun c19q => ?_)
      · refine aw_aload_n cx dX7_asTold_76 rfl 0 rfl ?_
        refine aw_iconst (n := (-1)) cx dX7_asTold_77 (by decide) ?_
        refine aw_putI cx dX7_asTold_78 fl_X7_187 kt_X7 rfl rfl (lb_32 tl) rfl (⟨by omega, by omega⟩) ?_
        obtain ⟨M_78q, hM_78q⟩ : ∃ qm, qm = up N14q 32 20 (-1) := ⟨_, rfl⟩
        rw [← hM_78q]
        refine aw_aload_n cx dX7_asTold_81 rfl 0 rfl ?_
        refine aw_iconst (n := 0) cx dX7_asTold_82 (by decide) ?_
        refine aw_putI cx dX7_asTold_83 fl_X7_190 kt_X7 rfl rfl (lb_32 tl) rfl (⟨by omega, by omega⟩) ?_
        obtain ⟨M_83q, hM_83q⟩ : ∃ qm, qm = up M_78q 32 21 0 := ⟨_, rfl⟩
        rw [← hM_83q]
        refine aw_vret cx rt dX7_asTold_86 ?_
        have fx : FX [44, 45, 46, 47] [15, 20, 21] M_1q M_83q := ((hf.mono (by decide) (by decide)).put hM_78q (by decide)).put hM_83q (by decide)
        refine ⟨rfl, (hfxM_1.mono (by decide) (by decide)).tr fx (by decide) (by decide), RD_fx hrdM_1 fx (by decide), ?_, ?_, ?_, fun i hi => ?_⟩
        · rw [up_ne hM_83q (by omega), up_ne hM_78q (by omega)]; exact hn
        · rw [up_ne hM_83q (by omega), up_eq hM_78q]
        · exact up_eq hM_83q
        · have g := ha i (by omega)
          have g2 := erw i hi
          rw [up_ne hM_83q (by omega), up_ne hM_78q (by omega), up_ne hM_83q (by omega), up_ne hM_78q (by omega), up_ne hM_83q (by omega), up_ne hM_78q (by omega), up_ne hM_83q (by omega), up_ne hM_78q (by omega), g.1, g.2.1, g.2.2.1, g.2.2.2]
          exact g2
      · refine aw_aload_n cx dX7_asTold_22 rfl 0 rfl ?_
        refine aw_getR (q := 44) cx dX7_asTold_23 fl_X7_43 (lb_32 tl) rfl rfl ?_
        refine aw_iload_n cx dX7_asTold_26 rfl 1 rfl ?_
        refine aw_aload_n cx dX7_asTold_27 rfl 0 rfl ?_
        refine aw_getR (q := 35) cx dX7_asTold_28 fl_X7_16 (lb_32 tl) rfl rfl ?_
        refine aw_iload_n cx dX7_asTold_31 rfl 1 rfl ?_
        refine aw_iald cx dX7_asTold_32 (lb_35 tl) (⟨by omega, by omega⟩) (fun z32q hz32q lo_z32q hi_z32q => ?_)
        refine aw_iast cx dX7_asTold_33 (lb_44 tl) (⟨by omega, by omega⟩) (⟨by omega, by omega⟩) ?_
        obtain ⟨M_33q, hM_33q⟩ : ∃ qm, qm = up N14q (44) (Int.toNat (x1q)) (z32q) := ⟨_, rfl⟩
        rw [← hM_33q]
        refine aw_aload_n cx dX7_asTold_34 rfl 0 rfl ?_
        refine aw_getR (q := 45) cx dX7_asTold_35 fl_X7_46 (lb_32 tl) rfl rfl ?_
        refine aw_iload_n cx dX7_asTold_38 rfl 1 rfl ?_
        refine aw_aload_n cx dX7_asTold_39 rfl 0 rfl ?_
        refine aw_getR (q := 36) cx dX7_asTold_40 fl_X7_19 (lb_32 tl) rfl rfl ?_
        refine aw_iload_n cx dX7_asTold_43 rfl 1 rfl ?_
        refine aw_iald cx dX7_asTold_44 (lb_36 tl) (⟨by omega, by omega⟩) (fun z44q hz44q lo_z44q hi_z44q => ?_)
        refine aw_iast cx dX7_asTold_45 (lb_45 tl) (⟨by omega, by omega⟩) (⟨by omega, by omega⟩) ?_
        obtain ⟨M_45q, hM_45q⟩ : ∃ qm, qm = up M_33q (45) (Int.toNat (x1q)) (z44q) := ⟨_, rfl⟩
        rw [← hM_45q]
        refine aw_aload_n cx dX7_asTold_46 rfl 0 rfl ?_
        refine aw_getR (q := 46) cx dX7_asTold_47 fl_X7_49 (lb_32 tl) rfl rfl ?_
        refine aw_iload_n cx dX7_asTold_50 rfl 1 rfl ?_
        refine aw_aload_n cx dX7_asTold_51 rfl 0 rfl ?_
        refine aw_getR (q := 37) cx dX7_asTold_52 fl_X7_22 (lb_32 tl) rfl rfl ?_
        refine aw_iload_n cx dX7_asTold_55 rfl 1 rfl ?_
        refine aw_iald cx dX7_asTold_56 (lb_37 tl) (⟨by omega, by omega⟩) (fun z56q hz56q lo_z56q hi_z56q => ?_)
        refine aw_iast cx dX7_asTold_57 (lb_46 tl) (⟨by omega, by omega⟩) (⟨by omega, by omega⟩) ?_
        obtain ⟨M_57q, hM_57q⟩ : ∃ qm, qm = up M_45q (46) (Int.toNat (x1q)) (z56q) := ⟨_, rfl⟩
        rw [← hM_57q]
        refine aw_aload_n cx dX7_asTold_58 rfl 0 rfl ?_
        refine aw_getR (q := 47) cx dX7_asTold_59 fl_X7_52 (lb_32 tl) rfl rfl ?_
        refine aw_iload_n cx dX7_asTold_62 rfl 1 rfl ?_
        refine aw_aload_n cx dX7_asTold_63 rfl 0 rfl ?_
        refine aw_getR (q := 38) cx dX7_asTold_64 fl_X7_25 (lb_32 tl) rfl rfl ?_
        refine aw_iload_n cx dX7_asTold_67 rfl 1 rfl ?_
        refine aw_iald cx dX7_asTold_68 (lb_38 tl) (⟨by omega, by omega⟩) (fun z68q hz68q lo_z68q hi_z68q => ?_)
        refine aw_iast cx dX7_asTold_69 (lb_47 tl) (⟨by omega, by omega⟩) (⟨by omega, by omega⟩) ?_
        obtain ⟨M_69q, hM_69q⟩ : ∃ qm, qm = up M_57q (47) (Int.toNat (x1q)) (z68q) := ⟨_, rfl⟩
        rw [← hM_69q]
        refine aw_iinc cx dX7_asTold_70 1 rfl (by decide) (by omega) (fun z70q hz70q => ?_)
        refine aw_loc (loc2 := [(1, aI z70q), (0, aR 32)]) rfl ?_
        refine aw_goto (tgt := 14) cx dX7_asTold_73 (by decide) ?_
        refine aw_sub [1, 0] rfl ?_
        refine ih14q _ _  ?i_h0 ?i_hf ?i_hn ?i_ha ?i_m
        case i_h0 =>
          omega
        case i_hf =>
          exact (((hf.pc hM_33q (by decide)).pc hM_45q (by decide)).pc hM_57q (by decide)).pc hM_69q (by decide)
        case i_hn =>
          rw [up_ne hM_69q (by omega), up_ne hM_57q (by omega), up_ne hM_45q (by omega), up_ne hM_33q (by omega)]; exact hn
        case i_ha =>
          intro i hi
          by_cases q : i = x1q.toNat
          · rw [q]
            refine ⟨?_, ?_, ?_, ?_⟩
            · rw [up_ne hM_69q (by omega), up_ne hM_57q (by omega), up_ne hM_45q (by omega), up_eq hM_33q, hz32q, hf.at 35 (by decide)]
            · rw [up_ne hM_69q (by omega), up_ne hM_57q (by omega), up_eq hM_45q, hz44q, up_ne hM_33q (by omega), hf.at 36 (by decide)]
            · rw [up_ne hM_69q (by omega), up_eq hM_57q, hz56q, up_ne hM_45q (by omega), up_ne hM_33q (by omega), hf.at 37 (by decide)]
            · rw [up_eq hM_69q, hz68q, up_ne hM_57q (by omega), up_ne hM_45q (by omega), up_ne hM_33q (by omega), hf.at 38 (by decide)]
          · have g := ha i (by omega)
            rw [up_ne hM_69q (by omega), up_ne hM_57q (by omega), up_ne hM_45q (by omega), up_ne hM_33q (by omega), up_ne hM_69q (by omega), up_ne hM_57q (by omega), up_ne hM_45q (by omega), up_ne hM_33q (by omega), up_ne hM_69q (by omega), up_ne hM_57q (by omega), up_ne hM_45q (by omega), up_ne hM_33q (by omega), up_ne hM_69q (by omega), up_ne hM_57q (by omega), up_ne hM_45q (by omega), up_ne hM_33q (by omega)]
            exact g
        case i_m =>
          omega
  refine aw_sub [1, 0] rfl ?_
  refine lp14q _ _ _  ?i_h0 ?i_hf ?i_hn ?i_ha (Nat.lt_succ_self _)
  case i_h0 =>
    omega
  case i_hf =>
    exact FX.rf.put hM_9q (by decide)
  case i_hn =>
    rw [up_eq hM_9q]; omega
  case i_ha =>
    exact all_0
set_option maxHeartbeats 1000000 in
set_option maxRecDepth 100000 in
theorem ct_X7_runs (tl : List CD) (M : Mem)  : Ct 3 mX7_runs (LB ++ tl) [aR 32] M (fun r M1 => r = none ∧ FX [48, 49, 50, 51, 52, 53] [28] M M1 ∧ RUNS M M1) := by
  refine Ct.of (own := RX7) rfl (by decide +kernel) (Nat.le_of_ble_eq_true rfl) (fun X cx rt => ?_)
  refine aw_eq (loc2 := [(0, aR 32)]) ?_ rfl rfl rfl rfl
  refine aw_ok (fun om => ?_)
  have htn : 0 ≤ M 32 15 ∧ M 32 15 ≤ 12 := okF om (lb_32 tl) (j := 15) rfl (show (0 : Nat) ≠ 1 by decide)
  have hse : 0 ≤ M 32 11 ∧ M 32 11 ≤ 8 := okF om (lb_32 tl) (j := 11) rfl (show (0 : Nat) ≠ 1 by decide)
  have hno : 0 ≤ M 32 21 ∧ M 32 21 ≤ 255 := okF om (lb_32 tl) (j := 21) rfl (show (0 : Nat) ≠ 1 by decide)
  have hrc : 0 ≤ M 32 7 ∧ M 32 7 ≤ 8 := okF om (lb_32 tl) (j := 7) rfl (show (0 : Nat) ≠ 1 by decide)
  refine aw_aload_n cx dX7_runs_0 rfl 0 rfl ?_
  refine aw_callV (as := []) (k := 32) (stk := []) cx dX7_runs_1 ml_X7_218 mv_X7_countsAll rfl (lb_32 tl) (by decide) rfl rfl (Nat.le_of_ble_eq_true rfl) (ct_X7_countsAll tl M  ) (fun rr1q M_1q hp1q => ?_)
  obtain ⟨rfl, hfrM_1, hcnM_1, hagM_1⟩ := hp1q
  refine aw_eq (stk2 := []) ?_ rfl rfl rfl rfl
  refine aw_aload_n cx dX7_runs_4 rfl 0 rfl ?_
  refine aw_callV (as := []) (k := 32) (stk := []) cx dX7_runs_5 ml_X7_221 mv_X7_weighsAll rfl (lb_32 tl) (by decide) rfl rfl (Nat.le_of_ble_eq_true rfl) (ct_X7_weighsAll tl M_1q  ) (fun rr5q M_5q hp5q => ?_)
  obtain ⟨rfl, hfrM_5, hwgM_5⟩ := hp5q
  refine aw_eq (stk2 := []) ?_ rfl rfl rfl rfl
  have w44 : M_5q 44 = M 44 := by rw [hfrM_5 44 (by decide), hfrM_1 44 (by decide)]
  have w45 : M_5q 45 = M 45 := by rw [hfrM_5 45 (by decide), hfrM_1 45 (by decide)]
  have w46 : M_1q 46 = M 46 := hfrM_1 46 (by decide)
  have w48 : M_5q 48 = M_1q 48 := hfrM_5 48 (by decide)
  have w32 : M_1q 32 = M 32 := hfrM_1 32 (by decide)
  have w32b : M_5q 32 = M 32 := by rw [hfrM_5 32 (by decide), w32]
  rw [w32, hfrM_1 44 (by decide), hfrM_1 45 (by decide), w46, hfrM_1 47 (by decide)] at hwgM_5
  refine aw_iconst (n := 0) cx dX7_runs_8 (by decide) ?_
  refine aw_istore_n (loc2 := [(1, aI 0), (0, aR 32)]) cx dX7_runs_9 rfl (by decide) rfl ?_
  have lp10q : ∀ (fu : Nat) (x1q : Int) (N10q : Mem), (0 ≤ x1q ∧ x1q ≤ 8) → (FR [51, 52, 53] M_5q N10q) → (TWN (M 32 15).toNat (M 32 11).toNat (M_1q 48) (M_5q 49) (M 44) (M 45) (KEN (M 32 21) (M 41)) (M 42) (M 43) (N10q 51) (N10q 52) (N10q 53) x1q.toNat) → ((8 - x1q).toNat) < fu → AW X (LB ++ tl) 2 10 [(0, aR 32), (1, aI x1q)] [] N10q := by
    intro fu
    induction fu with
    | zero =>
      intro x1q N10q k0 hf hw hm
      exact absurd hm (Nat.not_lt_zero _)
    | succ fu ih10q =>
      intro x1q N10q k0 hf hw hm
      refine aw_iload_n cx dX7_runs_10 rfl 1 rfl ?_
      refine aw_bipush (n := 8) cx dX7_runs_11 (by decide) ?_
      refine aw_icmp_ge (tgt := 27) cx dX7_runs_13 (by decide) (fun c13q => ?_) (fun c13q => ?_)
      · have hx8 : x1q.toNat = 8 := by omega
        rw [hx8] at hw
        obtain ⟨B, hB⟩ := hw
        have hseq : ∀ t : Nat, t < 8 → ∀ k, k < 24 → SEQ (M 32 15).toNat (M 32 11).toNat (B t) (M_5q 49) (M 44) (M 45) (KEN (M 32 21) (M 41)) (M 42) (M 43) (N10q 51) (N10q 52) (N10q 53) (t : Int) k := fun t ht => (hB t ht).2
        refine aw_aload_n cx dX7_runs_27 rfl 0 rfl ?_
        refine aw_iconst (n := 0) cx dX7_runs_28 (by decide) ?_
        refine aw_putI cx dX7_runs_29 fl_X7_228 kt_X7 rfl rfl (lb_32 tl) rfl (⟨by omega, by omega⟩) ?_
        obtain ⟨M_29q, hM_29q⟩ : ∃ qm, qm = up N10q 32 28 0 := ⟨_, rfl⟩
        rw [← hM_29q]
        refine aw_iconst (n := 0) cx dX7_runs_32 (by decide) ?_
        refine aw_istore_n (loc2 := [(1, aI 0), (0, aR 32)]) cx dX7_runs_33 rfl (by decide) rfl ?_
        have lp34q : ∀ (fu : Nat) (x1q : Int) (N34q : Mem), (0 ≤ x1q ∧ x1q ≤ M 32 7) → (FX [] [28] N10q N34q) → (BTS (fun c => M 32 10 ≤ BLF (M 32 15).toNat (M 32 11).toNat B (M_5q 49) (M 44) (M 45) (KEN (M 32 21) (M 41)) (M 42) (M 43) (M 39 c) (M 40 c)) x1q.toNat (N34q 32 28)) → ((M 32 7 - x1q).toNat) < fu → AW X (LB ++ tl) 2 34 [(0, aR 32), (1, aI x1q)] [] N34q := by
          intro fu
          induction fu with
          | zero =>
            intro x1q N34q c0q cf cb hm
            exact absurd hm (Nat.not_lt_zero _)
          | succ fu ih34q =>
            intro x1q N34q c0q cf cb hm
            have u39 : N34q 39 = M 39 := by rw [cf.at 39 (by decide), hf 39 (by decide), hfrM_5 39 (by decide), hfrM_1 39 (by decide)]
            have u40 : N34q 40 = M 40 := by rw [cf.at 40 (by decide), hf 40 (by decide), hfrM_5 40 (by decide), hfrM_1 40 (by decide)]
            have u51 : N34q 51 = N10q 51 := cf.at 51 (by decide)
            have u53 : N34q 53 = N10q 53 := cf.at 53 (by decide)
            have u7 : N34q 32 7 = M 32 7 := by rw [cf.fd 7 (by decide), hf 32 (by decide), w32b]
            have u10 : N34q 32 10 = M 32 10 := by rw [cf.fd 10 (by decide), hf 32 (by decide), w32b]
            have cbl := BTS_le (m := 8) cb (by omega)
            refine aw_iload_n cx dX7_runs_34 rfl 1 rfl ?_
            refine aw_aload_n cx dX7_runs_35 rfl 0 rfl ?_
            refine aw_getI cx dX7_runs_36 fl_X7_138 (lb_32 tl) rfl (fun z36q hz36q lo_z36q hi_z36q => ?_)
            refine aw_icmp_ge (tgt := 76) cx dX7_runs_39 (by decide) (fun c39q => ?_) (fun c39q => ?_)
            · refine aw_ok (fun omz => ?_)
              refine aw_vret cx rt dX7_runs_76 ?_
              have fx : FX [48, 49, 50, 51, 52, 53] [28] M N34q := (((FX.of (fs := [28]) (hfrM_1.mono (l2 := [48, 49, 50, 51, 52, 53]) (by decide))).tr (FX.of (fs := []) hfrM_5) (by decide) (by decide)).tr (FX.of (fs := []) hf) (by decide) (by decide)).tr cf (by decide) (by decide)
              have y48 : N34q 48 = M_1q 48 := by rw [cf.at 48 (by decide), hf 48 (by decide), w48]
              have y49 : N34q 49 = M_5q 49 := by rw [cf.at 49 (by decide), hf 49 (by decide)]
              have y50 : N34q 50 = M_1q 50 := by rw [cf.at 50 (by decide), hf 50 (by decide), hfrM_5 50 (by decide)]
              have hC : ∀ i, M_1q 48 i = 0 ∨ M_1q 48 i = 1 := fun i => by have q := okA omz (lb_48 tl) i; rw [y48] at q; omega
              have hrun : RUNf (M 32 20) (fgR M) (M_1q 48) (M_5q 49) B := by
                refine ⟨hcnM_1, hC, fun i hi => ?_, fun t ht => (hB t ht).1⟩
                have q := hwgM_5 i hi
                exact q
              have hcb := fCB_e (Q := qgR M) (Q' := qgR M) (x := N34q 32 28) FGe.rf QGe.rf (fun j => (okA om (lb_44 tl) j).1) (show (M 32 7).toNat ≤ 8 by omega) hrun (by rw [show x1q.toNat = (M 32 7).toNat by omega] at cb; exact cb)
              refine ⟨rfl, fx, B, ?_, ?_, hcb, ?_⟩
              · rw [y48, y49]; exact hrun
              · rw [y49, cf.at 51 (by decide), cf.at 52 (by decide), cf.at 53 (by decide)]; exact hseq
              · rw [y48, y50]; exact hagM_1
            · refine aw_aload_n cx dX7_runs_42 rfl 0 rfl ?_
              refine aw_dup cx dX7_runs_43 rfl ?_
              refine aw_getI cx dX7_runs_44 fl_X7_228 (lb_32 tl) rfl (fun z44q hz44q lo_z44q hi_z44q => ?_)
              refine aw_aload_n cx dX7_runs_47 rfl 0 rfl ?_
              refine aw_iload_n cx dX7_runs_48 rfl 1 rfl ?_
              refine aw_callV (as := [aI x1q]) (k := 32) (stk := [aI z44q, aR 32]) cx dX7_runs_49 ml_X7_231 mv_X7_beliefNow rfl (lb_32 tl) (by decide) rfl rfl (Nat.le_of_ble_eq_true rfl) (ct_X7_beliefNow tl N34q _ (by omega)) (fun rr49q M_49q hp49q => ?_)
              obtain ⟨rfl, rfl⟩ := hp49q
              refine aw_top (stk := [aI z44q, aR 32]) (fun z49q hz49q => ?_)
              have hbl : z49q = BLF (M 32 15).toNat (M 32 11).toNat B (M_5q 49) (M 44) (M 45) (KEN (M 32 21) (M 41)) (M 42) (M 43) (M 39 x1q.toNat) (M 40 x1q.toNat) := by
                rw [hz49q, u39, u40, u51, u53]
                exact SEQ_blf (okA om (lb_39 tl) _) (okA om (lb_40 tl) _) hseq
              refine aw_aload_n cx dX7_runs_52 rfl 0 rfl ?_
              refine aw_getI cx dX7_runs_53 fl_X7_107 (lb_32 tl) rfl (fun z53q hz53q lo_z53q hi_z53q => ?_)
              refine aw_icmp_lt (tgt := 65) cx dX7_runs_56 (by decide) (fun c56q => ?_) (fun c56q => ?_)
              · refine aw_iconst (n := 0) cx dX7_runs_65 (by decide) ?_
                refine aw_ior cx dX7_runs_66 (fun z66q hz66q => ?_)
                refine aw_putI cx dX7_runs_67 fl_X7_228 kt_X7 rfl rfl (lb_32 tl) rfl (⟨by first | (have q := bOr_lt (x := z44q) (y := bShl 1 x1q) (n := 8) (by omega) (by omega) (bShl_lt (by omega) (by omega)); rw [hz66q, hz61q]; omega) | (rw [hz66q, bOr_z (by omega)]; omega), by first | (have q := bOr_lt (x := z44q) (y := bShl 1 x1q) (n := 8) (by omega) (by omega) (bShl_lt (by omega) (by omega)); rw [hz66q, hz61q]; omega) | (rw [hz66q, bOr_z (by omega)]; omega)⟩) ?_
                obtain ⟨M_67q, hM_67q⟩ : ∃ qm, qm = up N34q 32 28 z66q := ⟨_, rfl⟩
                rw [← hM_67q]
                refine aw_iinc cx dX7_runs_70 1 rfl (by decide) (by omega) (fun z70q hz70q => ?_)
                refine aw_loc (loc2 := [(1, aI z70q), (0, aR 32)]) rfl ?_
                refine aw_goto (tgt := 34) cx dX7_runs_73 (by decide) ?_
                refine aw_sub [1, 0] rfl ?_
                refine ih34q _ _  ?i_c0 ?i_cf ?i_cb ?i_m
                case i_c0 =>
                  omega
                case i_cf =>
                  exact cf.put hM_67q (by decide)
                case i_cb =>
                  rw [up_eq hM_67q, hz66q, bOr_z (by omega), hz44q, hz70q]; exact BTS_n (by omega) cb (by rw [← hbl]; omega)
                case i_m =>
                  omega
              · refine aw_iconst (n := 1) cx dX7_runs_59 (by decide) ?_
                refine aw_iload_n cx dX7_runs_60 rfl 1 rfl ?_
                refine aw_ishl cx dX7_runs_61 (fun z61q hz61q => ?_)
                refine aw_goto (tgt := 66) cx dX7_runs_62 (by decide) ?_
                refine aw_ior cx dX7_runs_66 (fun z66q hz66q => ?_)
                refine aw_putI cx dX7_runs_67 fl_X7_228 kt_X7 rfl rfl (lb_32 tl) rfl (⟨by first | (have q := bOr_lt (x := z44q) (y := bShl 1 x1q) (n := 8) (by omega) (by omega) (bShl_lt (by omega) (by omega)); rw [hz66q, hz61q]; omega) | (rw [hz66q, bOr_z (by omega)]; omega), by first | (have q := bOr_lt (x := z44q) (y := bShl 1 x1q) (n := 8) (by omega) (by omega) (bShl_lt (by omega) (by omega)); rw [hz66q, hz61q]; omega) | (rw [hz66q, bOr_z (by omega)]; omega)⟩) ?_
                obtain ⟨M_67q, hM_67q⟩ : ∃ qm, qm = up N34q 32 28 z66q := ⟨_, rfl⟩
                rw [← hM_67q]
                refine aw_iinc cx dX7_runs_70 1 rfl (by decide) (by omega) (fun z70q hz70q => ?_)
                refine aw_loc (loc2 := [(1, aI z70q), (0, aR 32)]) rfl ?_
                refine aw_goto (tgt := 34) cx dX7_runs_73 (by decide) ?_
                refine aw_sub [1, 0] rfl ?_
                refine ih34q _ _  ?i_c0 ?i_cf ?i_cb ?i_m
                case i_c0 =>
                  omega
                case i_cf =>
                  exact cf.put hM_67q (by decide)
                case i_cb =>
                  rw [up_eq hM_67q, hz66q, hz61q, hz44q, hz70q]; exact BTS_y (by omega) cb (by rw [← hbl]; omega)
                case i_m =>
                  omega
        refine aw_sub [1, 0] rfl ?_
        refine lp34q _ _ _  ?i_c0 ?i_cf ?i_cb (Nat.lt_succ_self _)
        case i_c0 =>
          omega
        case i_cf =>
          exact FX.rf.put hM_29q (by decide)
        case i_cb =>
          rw [up_eq hM_29q]; exact BTS_0
      · refine aw_aload_n cx dX7_runs_16 rfl 0 rfl ?_
        refine aw_iload_n cx dX7_runs_17 rfl 1 rfl ?_
        refine aw_callV (as := [aI x1q]) (k := 32) (stk := []) cx dX7_runs_18 ml_X7_224 mv_X7_standsIn rfl (lb_32 tl) (by decide) rfl rfl (Nat.le_of_ble_eq_true rfl) (ct_X7_standsIn tl N10q _ (by omega)) (fun rr18q M_18q hp18q => ?_)
        obtain ⟨rfl, hfrM_18, hofM_18, bM_18, hbiM_18, hsqM_18⟩ := hp18q
        refine aw_eq (stk2 := []) ?_ rfl rfl rfl rfl
        have v32 : N10q 32 = M 32 := by rw [hf 32 (by decide), w32b]
        have v41 : N10q 41 = M 41 := by rw [hf 41 (by decide), hfrM_5 41 (by decide), hfrM_1 41 (by decide)]
        have v42 : N10q 42 = M 42 := by rw [hf 42 (by decide), hfrM_5 42 (by decide), hfrM_1 42 (by decide)]
        have v43 : N10q 43 = M 43 := by rw [hf 43 (by decide), hfrM_5 43 (by decide), hfrM_1 43 (by decide)]
        have v44 : N10q 44 = M 44 := by rw [hf 44 (by decide), w44]
        have v45 : N10q 45 = M 45 := by rw [hf 45 (by decide), w45]
        have v48 : N10q 48 = M_1q 48 := by rw [hf 48 (by decide), w48]
        have v49 : N10q 49 = M_5q 49 := hf 49 (by decide)
        rw [v32, v48, v44, v45] at hbiM_18
        rw [v32, v41, v42, v43, v44, v45, v49] at hsqM_18
        refine aw_iinc cx dX7_runs_21 1 rfl (by decide) (by omega) (fun z21q hz21q => ?_)
        refine aw_loc (loc2 := [(1, aI z21q), (0, aR 32)]) rfl ?_
        refine aw_goto (tgt := 10) cx dX7_runs_24 (by decide) ?_
        refine aw_sub [1, 0] rfl ?_
        refine ih10q _ _  ?i_k0 ?i_hf ?i_hw ?i_m
        case i_k0 =>
          omega
        case i_hf =>
          exact hf.tr hfrM_18 (by decide)
        case i_hw =>
          rw [hz21q]; exact TWN_s k0.1 hw hbiM_18 hsqM_18 hofM_18
        case i_m =>
          omega
  refine aw_sub [1, 0] rfl ?_
  refine lp10q _ _ _  ?i_k0 ?i_hf ?i_hw (Nat.lt_succ_self _)
  case i_k0 =>
    omega
  case i_hf =>
    exact FR.rf
  case i_hw =>
    exact TWN_0
