set_option maxHeartbeats 1000000 in
set_option maxRecDepth 100000 in
theorem ct_X3_cut (tl : List CD) (M : Mem) (q n : Nat) (v : Int) (hq : SHQ tl q n) : Ct 0 mX3_cut (LB ++ tl) [aR q, aI v] M (fun r M1 => M = M1 ∧ r = some (aI (CUT (M q 0) v))) := by
  refine Ct.of (own := RX3) rfl (by decide +kernel) (Nat.le_of_ble_eq_true rfl) (fun X cx rt => ?_)
  refine aw_eq (loc2 := [(0, aR q), (1, aI v)]) ?_ rfl rfl rfl rfl
  refine aw_rngL 1 rfl (fun rl_v rh_v => ?_)
  refine aw_aload_n cx dX3_cut_0 rfl 0 rfl ?_
  refine aw_getI cx dX3_cut_1 fl_X3_9 hq.2.1 rfl (fun z1q hz1q lo_z1q hi_z1q => ?_)
  refine aw_if_ne (tgt := 12) cx dX3_cut_4 (by decide) (fun c4q => ?_) (fun c4q => ?_)
  · refine aw_aload_n cx dX3_cut_12 rfl 0 rfl ?_
    refine aw_getI cx dX3_cut_13 fl_X3_9 hq.2.1 rfl (fun z13q hz13q lo_z13q hi_z13q => ?_)
    refine aw_iconst (n := 1) cx dX3_cut_16 (by decide) ?_
    refine aw_icmp_ne (tgt := 25) cx dX3_cut_17 (by decide) (fun c17q => ?_) (fun c17q => ?_)
    · refine aw_iload_n cx dX3_cut_25 rfl 1 rfl ?_
      refine aw_iret cx rt dX3_cut_26 ?_
      exact ⟨rfl, congrArg (fun q => some (aI q)) (by unfold CUT; rw [if_neg (by omega), if_neg (by omega)])⟩
    · refine aw_iload_n cx dX3_cut_20 rfl 1 rfl ?_
      refine aw_i2s cx dX3_cut_21 (fun z21q hz21q => ?_)
      refine aw_goto (tgt := 26) cx dX3_cut_22 (by decide) ?_
      refine aw_iret cx rt dX3_cut_26 ?_
      exact ⟨rfl, congrArg (fun q => some (aI q)) (by unfold CUT; rw [if_neg (by omega), if_pos (by omega), hz21q])⟩
  · refine aw_iload_n cx dX3_cut_7 rfl 1 rfl ?_
    refine aw_i2b cx dX3_cut_8 (fun z8q hz8q => ?_)
    refine aw_goto (tgt := 26) cx dX3_cut_9 (by decide) ?_
    refine aw_iret cx rt dX3_cut_26 ?_
    exact ⟨rfl, congrArg (fun q => some (aI q)) (by unfold CUT; rw [if_pos (by omega), hz8q])⟩
set_option maxHeartbeats 1000000 in
set_option maxRecDepth 100000 in
theorem ct_X3_spans (tl : List CD) (M : Mem) (q n : Nat) (from2 len : Int) (hq : SHQ tl q n) (hlen : 0 ≤ len) : Ct 0 mX3_spans (LB ++ tl) [aR q, aI from2, aI len] M (fun r M1 => M = M1 ∧ r = some (aI (b2 (0 ≤ from2 ∧ from2 + len ≤ n)))) := by
  refine Ct.of (own := RX3) rfl (by decide +kernel) (Nat.le_of_ble_eq_true rfl) (fun X cx rt => ?_)
  refine aw_eq (loc2 := [(0, aR q), (1, aI from2), (2, aI len)]) ?_ rfl rfl rfl rfl
  refine aw_rngL 1 rfl (fun rl_from2 rh_from2 => ?_)
  refine aw_rngL 2 rfl (fun rl_len rh_len => ?_)
  have hn60 := hq.2.2.2
  refine aw_iload_n cx dX3_spans_0 rfl 1 rfl ?_
  refine aw_if_lt (tgt := 19) cx dX3_spans_1 (by decide) (fun c1q => ?_) (fun c1q => ?_)
  · refine aw_iconst (n := 0) cx dX3_spans_19 (by decide) ?_
    refine aw_zret cx rt dX3_spans_20 (by decide) ?_
    exact ⟨rfl, congrArg (fun q => some (aI q)) (b2_0 (by first | omega | (refine ⟨?_, ?_⟩ <;> omega) | (rintro ⟨h1q, h2q⟩; omega)))⟩
  · refine aw_iload_n cx dX3_spans_4 rfl 1 rfl ?_
    refine aw_aload_n cx dX3_spans_5 rfl 0 rfl ?_
    refine aw_getR (q := q + 1) cx dX3_spans_6 fl_X3_15 hq.2.1 rfl rfl ?_
    refine aw_alen cx dX3_spans_9 hq.2.2.1 ?_
    refine aw_iload_n cx dX3_spans_10 rfl 2 rfl ?_
    refine aw_isub cx dX3_spans_11 (by omega) (fun z11q hz11q => ?_)
    refine aw_icmp_gt (tgt := 19) cx dX3_spans_12 (by decide) (fun c12q => ?_) (fun c12q => ?_)
    · refine aw_iconst (n := 0) cx dX3_spans_19 (by decide) ?_
      refine aw_zret cx rt dX3_spans_20 (by decide) ?_
      exact ⟨rfl, congrArg (fun q => some (aI q)) (b2_0 (by first | omega | (refine ⟨?_, ?_⟩ <;> omega) | (rintro ⟨h1q, h2q⟩; omega)))⟩
    · refine aw_iconst (n := 1) cx dX3_spans_15 (by decide) ?_
      refine aw_goto (tgt := 20) cx dX3_spans_16 (by decide) ?_
      refine aw_zret cx rt dX3_spans_20 (by decide) ?_
      exact ⟨rfl, congrArg (fun q => some (aI q)) (b2_1 (by first | omega | (refine ⟨?_, ?_⟩ <;> omega) | (rintro ⟨h1q, h2q⟩; omega)))⟩
set_option maxHeartbeats 1000000 in
set_option maxRecDepth 100000 in
theorem ct_X6_lose_a (tl : List CD) (M : Mem) (s : Int) (hl : 0 ≤ s → s < 4 → M 29 s.toNat = -1) : Ct 1 mX6_lose (LB ++ tl) [aR 0, aI s] M (fun r M1 => ∃ x, r = some (aI x) ∧ (((s < 0 ∨ 4 ≤ s) ∧ x = -2 ∧ M1 = M) ∨ ((0 ≤ s ∧ s < 4) ∧ x = -11 ∧ M1 = up M 0 14 1))) := by
  refine Ct.of (own := RX6) rfl (by decide +kernel) (Nat.le_of_ble_eq_true rfl) (fun X cx rt => ?_)
  refine aw_eq (loc2 := [(0, aR 0), (1, aI s)]) ?_ rfl rfl rfl rfl
  refine aw_rngL 1 rfl (fun rl_s rh_s => ?_)
  refine aw_iload_n cx dX6_lose_0 rfl 1 rfl ?_
  refine aw_iconst (n := 4) cx dX6_lose_1 (by decide) ?_
  refine aw_callS (as := [aI s, aI 4]) (stk := []) cx dX6_lose_2 ml_X6_84 ms_X6_outside (by decide) rfl rfl (Nat.le_of_ble_eq_true rfl) (ct_X6_outside tl M _ _ ) (fun rr2q M_2q hp2q => ?_)
  obtain ⟨rfl, rfl⟩ := hp2q
  refine aw_top (stk := []) (fun z2q hz2q => ?_)
  refine aw_if_eq (tgt := 11) cx dX6_lose_5 (by decide) (fun c5q => ?_) (fun c5q => ?_)
  · have d5q := b2_e0.mp (hz2q.symm.trans c5q)
    refine aw_aload_n cx dX6_lose_11 rfl 0 rfl ?_
    refine aw_getR (q := 29) cx dX6_lose_12 fl_X6_63 (lb_0 tl) rfl rfl ?_
    refine aw_iload_n cx dX6_lose_15 rfl 1 rfl ?_
    refine aw_aald (v := aN) cx dX6_lose_16 (lb_29 tl) (⟨by omega, by omega⟩) (sl_n (hl (by omega) (by omega))) ?_
    refine aw_astore_nN (loc2 := [(2, aN), (0, aR 0), (1, aI s)]) cx dX6_lose_17 rfl (by decide) rfl ?_
    refine aw_aload_nN cx dX6_lose_18 rfl 0 rfl ?_
    refine aw_ifnonnullN cx dX6_lose_19 ?_
    refine aw_aload_n cx dX6_lose_22 rfl 1 rfl ?_
    refine aw_iconst (n := 1) cx dX6_lose_23 (by decide) ?_
    refine aw_callV (as := [aI 1]) (k := 0) (stk := []) cx dX6_lose_24 ml_X6_129 mv_X6_finding rfl (lb_0 tl) (by decide) rfl rfl (Nat.le_of_ble_eq_true rfl) (ct_X6_finding tl M _ (by first | assumption | omega)) (fun rr24q M_24q hp24q => ?_)
    obtain ⟨z24q, rfl, hMuM_24, hxM_24⟩ := hp24q
    refine aw_eq (stk2 := [aI z24q]) ?_ rfl rfl rfl rfl
    refine aw_iret cx rt dX6_lose_27 ?_
    exact ⟨_, rfl, Or.inr ⟨by omega, by omega, hMuM_24⟩⟩
  · have d5q := b2_y hz2q c5q
    refine aw_bipush (n := (-2)) cx dX6_lose_8 (by decide) ?_
    refine aw_iret cx rt dX6_lose_10 ?_
    exact ⟨_, rfl, Or.inl ⟨by omega, rfl, rfl⟩⟩
set_option maxHeartbeats 1000000 in
set_option maxRecDepth 100000 in
theorem ct_X6_lose_p (tl : List CD) (M : Mem) (s : Int) (q n : Nat) (hs : 0 ≤ s ∧ s < 4) (hsq : M 29 s.toNat = (q : Int)) (hq : SHQ tl q n) : Ct 1 mX6_lose (LB ++ tl) [aR 0, aI s] M (fun r M1 => ∃ x, r = some (aI x) ∧ x = n ∧ M1 = up M 29 s.toNat (-1)) := by
  refine Ct.of (own := RX6) rfl (by decide +kernel) (Nat.le_of_ble_eq_true rfl) (fun X cx rt => ?_)
  refine aw_eq (loc2 := [(0, aR 0), (1, aI s)]) ?_ rfl rfl rfl rfl
  refine aw_rngL 1 rfl (fun rl_s rh_s => ?_)
  refine aw_iload_n cx dX6_lose_0 rfl 1 rfl ?_
  refine aw_iconst (n := 4) cx dX6_lose_1 (by decide) ?_
  refine aw_callS (as := [aI s, aI 4]) (stk := []) cx dX6_lose_2 ml_X6_84 ms_X6_outside (by decide) rfl rfl (Nat.le_of_ble_eq_true rfl) (ct_X6_outside tl M _ _ ) (fun rr2q M_2q hp2q => ?_)
  obtain ⟨rfl, rfl⟩ := hp2q
  refine aw_top (stk := []) (fun z2q hz2q => ?_)
  refine aw_if_eq (tgt := 11) cx dX6_lose_5 (by decide) (fun c5q => ?_) (fun c5q => ?_)
  · have d5q := b2_e0.mp (hz2q.symm.trans c5q)
    refine aw_aload_n cx dX6_lose_11 rfl 0 rfl ?_
    refine aw_getR (q := 29) cx dX6_lose_12 fl_X6_63 (lb_0 tl) rfl rfl ?_
    refine aw_iload_n cx dX6_lose_15 rfl 1 rfl ?_
    refine aw_aald (v := aR q) cx dX6_lose_16 (lb_29 tl) (⟨by omega, by omega⟩) (sl_q hsq) ?_
    refine aw_astore_n (loc2 := [(2, aR q), (0, aR 0), (1, aI s)]) cx dX6_lose_17 rfl (by decide) rfl ?_
    refine aw_aload_n cx dX6_lose_18 rfl 0 rfl ?_
    refine aw_ifnonnull cx dX6_lose_19 (tgt := 28) (by decide) ?_
    refine aw_aload_n cx dX6_lose_28 rfl 1 rfl ?_
    refine aw_getR (q := 29) cx dX6_lose_29 fl_X6_63 (lb_0 tl) rfl rfl ?_
    refine aw_iload_n cx dX6_lose_32 rfl 2 rfl ?_
    refine aw_null cx dX6_lose_33 ?_
    refine aw_aastN cx dX6_lose_34 (lb_29 tl) (⟨by omega, by omega⟩) ⟨by decide, by decide⟩ ?_
    obtain ⟨M_34q, hM_34q⟩ : ∃ qm, qm = up M (29) (Int.toNat (s)) (-1) := ⟨_, rfl⟩
    rw [← hM_34q]
    refine aw_aload_n cx dX6_lose_35 rfl 0 rfl ?_
    refine aw_getR (q := q + 1) cx dX6_lose_36 fl_X6_133 hq.2.1 rfl rfl ?_
    refine aw_alen cx dX6_lose_39 hq.2.2.1 ?_
    refine aw_iret cx rt dX6_lose_40 ?_
    exact ⟨_, rfl, rfl, hM_34q⟩
  · exfalso
    have d5q := b2_y hz2q c5q
    omega
set_option maxHeartbeats 1000000 in
set_option maxRecDepth 100000 in
theorem ct_X6_put_a (tl : List CD) (M : Mem) (s f i v : Int) (hl : 0 ≤ s → s < 4 → M 29 s.toNat = -1) : Ct 1 mX6_put (LB ++ tl) [aR 0, aI s, aI f, aI i, aI v] M (fun r M1 => ∃ x, r = some (aI x) ∧ (((s < 0 ∨ 4 ≤ s ∨ f < 0 ∨ 3 ≤ f) ∧ x = -2 ∧ M1 = M) ∨ ((0 ≤ s ∧ s < 4 ∧ 0 ≤ f ∧ f < 3) ∧ x = -11 ∧ M1 = up M 0 14 1))) := by
  refine Ct.of (own := RX6) rfl (by decide +kernel) (Nat.le_of_ble_eq_true rfl) (fun X cx rt => ?_)
  refine aw_eq (loc2 := [(0, aR 0), (1, aI s), (2, aI f), (3, aI i), (4, aI v)]) ?_ rfl rfl rfl rfl
  refine aw_rngL 1 rfl (fun rl_s rh_s => ?_)
  refine aw_rngL 2 rfl (fun rl_f rh_f => ?_)
  refine aw_rngL 3 rfl (fun rl_i rh_i => ?_)
  refine aw_rngL 4 rfl (fun rl_v rh_v => ?_)
  refine aw_iload_n cx dX6_put_0 rfl 1 rfl ?_
  refine aw_iconst (n := 4) cx dX6_put_1 (by decide) ?_
  refine aw_callS (as := [aI s, aI 4]) (stk := []) cx dX6_put_2 ml_X6_84 ms_X6_outside (by decide) rfl rfl (Nat.le_of_ble_eq_true rfl) (ct_X6_outside tl M _ _ ) (fun rr2q M_2q hp2q => ?_)
  obtain ⟨rfl, rfl⟩ := hp2q
  refine aw_top (stk := []) (fun z2q hz2q => ?_)
  refine aw_if_ne (tgt := 16) cx dX6_put_5 (by decide) (fun c5q => ?_) (fun c5q => ?_)
  · have d5q := b2_y hz2q c5q
    refine aw_bipush (n := (-2)) cx dX6_put_16 (by decide) ?_
    refine aw_iret cx rt dX6_put_18 ?_
    exact ⟨_, rfl, Or.inl ⟨by omega, rfl, rfl⟩⟩
  · have d5q := b2_e0.mp (hz2q.symm.trans c5q)
    refine aw_iload_n cx dX6_put_8 rfl 2 rfl ?_
    refine aw_iconst (n := 3) cx dX6_put_9 (by decide) ?_
    refine aw_callS (as := [aI f, aI 3]) (stk := []) cx dX6_put_10 ml_X6_84 ms_X6_outside (by decide) rfl rfl (Nat.le_of_ble_eq_true rfl) (ct_X6_outside tl M _ _ ) (fun rr10q M_10q hp10q => ?_)
    obtain ⟨rfl, rfl⟩ := hp10q
    refine aw_top (stk := []) (fun z10q hz10q => ?_)
    refine aw_if_eq (tgt := 19) cx dX6_put_13 (by decide) (fun c13q => ?_) (fun c13q => ?_)
    · have d13q := b2_e0.mp (hz10q.symm.trans c13q)
      refine aw_aload_n cx dX6_put_19 rfl 0 rfl ?_
      refine aw_getR (q := 29) cx dX6_put_20 fl_X6_63 (lb_0 tl) rfl rfl ?_
      refine aw_iload_n cx dX6_put_23 rfl 1 rfl ?_
      refine aw_aald (v := aN) cx dX6_put_24 (lb_29 tl) (⟨by omega, by omega⟩) (sl_n (hl (by omega) (by omega))) ?_
      refine aw_astoreN (loc2 := [(5, aN), (0, aR 0), (1, aI s), (2, aI f), (3, aI i), (4, aI v)]) cx dX6_put_25 (by decide) rfl ?_
      refine aw_aloadN cx dX6_put_27 0 rfl ?_
      refine aw_ifnonnullN cx dX6_put_29 ?_
      refine aw_aload_n cx dX6_put_32 rfl 1 rfl ?_
      refine aw_iconst (n := 1) cx dX6_put_33 (by decide) ?_
      refine aw_callV (as := [aI 1]) (k := 0) (stk := []) cx dX6_put_34 ml_X6_129 mv_X6_finding rfl (lb_0 tl) (by decide) rfl rfl (Nat.le_of_ble_eq_true rfl) (ct_X6_finding tl M _ (by first | assumption | omega)) (fun rr34q M_34q hp34q => ?_)
      obtain ⟨z34q, rfl, hMuM_34, hxM_34⟩ := hp34q
      refine aw_eq (stk2 := [aI z34q]) ?_ rfl rfl rfl rfl
      refine aw_iret cx rt dX6_put_37 ?_
      exact ⟨_, rfl, Or.inr ⟨by omega, by omega, hMuM_34⟩⟩
    · have d13q := b2_y hz10q c13q
      refine aw_bipush (n := (-2)) cx dX6_put_16 (by decide) ?_
      refine aw_iret cx rt dX6_put_18 ?_
      exact ⟨_, rfl, Or.inl ⟨by omega, rfl, rfl⟩⟩
set_option maxHeartbeats 1000000 in
set_option maxRecDepth 100000 in
theorem ct_X6_put_p (tl : List CD) (M : Mem) (s f i v : Int) (q n : Nat) (hs : 0 ≤ s ∧ s < 4) (hsq : M 29 s.toNat = (q : Int)) (hq : SHQ tl q n) : Ct 1 mX6_put (LB ++ tl) [aR 0, aI s, aI f, aI i, aI v] M (fun r M1 => ∃ x, r = some (aI x) ∧ (((f < 0 ∨ 3 ≤ f) ∧ x = -2 ∧ M1 = M) ∨ ((0 ≤ f ∧ f < 3) ∧ M q 0 ≠ f ∧ x = -13 ∧ M1 = up M 0 14 3) ∨ ((0 ≤ f ∧ f < 3) ∧ M q 0 = f ∧ (i < 0 ∨ n ≤ i) ∧ x = -12 ∧ M1 = up M 0 14 2) ∨ ((0 ≤ f ∧ f < 3) ∧ M q 0 = f ∧ (0 ≤ i ∧ i < n) ∧ x = 1 ∧ M1 = up M (q + 1) i.toNat (CUT f v)))) := by
  refine Ct.of (own := RX6) rfl (by decide +kernel) (Nat.le_of_ble_eq_true rfl) (fun X cx rt => ?_)
  refine aw_eq (loc2 := [(0, aR 0), (1, aI s), (2, aI f), (3, aI i), (4, aI v)]) ?_ rfl rfl rfl rfl
  refine aw_rngL 1 rfl (fun rl_s rh_s => ?_)
  refine aw_rngL 2 rfl (fun rl_f rh_f => ?_)
  refine aw_rngL 3 rfl (fun rl_i rh_i => ?_)
  refine aw_rngL 4 rfl (fun rl_v rh_v => ?_)
  have hn60 := hq.2.2.2
  refine aw_iload_n cx dX6_put_0 rfl 1 rfl ?_
  refine aw_iconst (n := 4) cx dX6_put_1 (by decide) ?_
  refine aw_callS (as := [aI s, aI 4]) (stk := []) cx dX6_put_2 ml_X6_84 ms_X6_outside (by decide) rfl rfl (Nat.le_of_ble_eq_true rfl) (ct_X6_outside tl M _ _ ) (fun rr2q M_2q hp2q => ?_)
  obtain ⟨rfl, rfl⟩ := hp2q
  refine aw_top (stk := []) (fun z2q hz2q => ?_)
  refine aw_if_ne (tgt := 16) cx dX6_put_5 (by decide) (fun c5q => ?_) (fun c5q => ?_)
  · exfalso
    have d5q := b2_y hz2q c5q
    omega
  · have d5q := b2_e0.mp (hz2q.symm.trans c5q)
    refine aw_iload_n cx dX6_put_8 rfl 2 rfl ?_
    refine aw_iconst (n := 3) cx dX6_put_9 (by decide) ?_
    refine aw_callS (as := [aI f, aI 3]) (stk := []) cx dX6_put_10 ml_X6_84 ms_X6_outside (by decide) rfl rfl (Nat.le_of_ble_eq_true rfl) (ct_X6_outside tl M _ _ ) (fun rr10q M_10q hp10q => ?_)
    obtain ⟨rfl, rfl⟩ := hp10q
    refine aw_top (stk := []) (fun z10q hz10q => ?_)
    refine aw_if_eq (tgt := 19) cx dX6_put_13 (by decide) (fun c13q => ?_) (fun c13q => ?_)
    · have d13q := b2_e0.mp (hz10q.symm.trans c13q)
      refine aw_aload_n cx dX6_put_19 rfl 0 rfl ?_
      refine aw_getR (q := 29) cx dX6_put_20 fl_X6_63 (lb_0 tl) rfl rfl ?_
      refine aw_iload_n cx dX6_put_23 rfl 1 rfl ?_
      refine aw_aald (v := aR q) cx dX6_put_24 (lb_29 tl) (⟨by omega, by omega⟩) (sl_q hsq) ?_
      refine aw_astore (loc2 := [(5, aR q), (0, aR 0), (1, aI s), (2, aI f), (3, aI i), (4, aI v)]) cx dX6_put_25 (by decide) rfl ?_
      refine aw_aload cx dX6_put_27 0 rfl ?_
      refine aw_ifnonnull cx dX6_put_29 (tgt := 38) (by decide) ?_
      refine aw_aload cx dX6_put_38 0 rfl ?_
      refine aw_getI cx dX6_put_40 fl_X6_245 hq.2.1 rfl (fun z40q hz40q lo_z40q hi_z40q => ?_)
      refine aw_iload_n cx dX6_put_43 rfl 3 rfl ?_
      refine aw_icmp_eq (tgt := 53) cx dX6_put_44 (by decide) (fun c44q => ?_) (fun c44q => ?_)
      · refine aw_iload_n cx dX6_put_53 rfl 4 rfl ?_
        refine aw_aload cx dX6_put_54 0 rfl ?_
        refine aw_getR (q := q + 1) cx dX6_put_56 fl_X6_133 hq.2.1 rfl rfl ?_
        refine aw_alen cx dX6_put_59 hq.2.2.1 ?_
        refine aw_callS (as := [aI i, aI ((n : Int))]) (stk := []) cx dX6_put_60 ml_X6_84 ms_X6_outside (by decide) rfl rfl (Nat.le_of_ble_eq_true rfl) (ct_X6_outside tl M _ _ ) (fun rr60q M_60q hp60q => ?_)
        obtain ⟨rfl, rfl⟩ := hp60q
        refine aw_top (stk := []) (fun z60q hz60q => ?_)
        refine aw_if_eq (tgt := 72) cx dX6_put_63 (by decide) (fun c63q => ?_) (fun c63q => ?_)
        · have d63q := b2_e0.mp (hz60q.symm.trans c63q)
          refine aw_aload cx dX6_put_72 0 rfl ?_
          refine aw_getR (q := q + 1) cx dX6_put_74 fl_X6_133 hq.2.1 rfl rfl ?_
          refine aw_iload_n cx dX6_put_77 rfl 4 rfl ?_
          refine aw_aload cx dX6_put_78 0 rfl ?_
          refine aw_iload cx dX6_put_80 5 rfl ?_
          refine aw_callV (as := [aI v]) (k := q) (stk := [aI i, aR (q + 1)]) cx dX6_put_82 ml_X6_248 mv_X3_cut rfl hq.2.1 (by decide) rfl rfl (Nat.le_of_ble_eq_true rfl) (ct_X3_cut tl M q n v (hq)) (fun rr82q M_82q hp82q => ?_)
          obtain ⟨rfl, rfl⟩ := hp82q
          refine aw_top (stk := [aI i, aR (q + 1)]) (fun z82q hz82q => ?_)
          have hcv := CUT_in (f := M q 0) ⟨rl_v, rh_v⟩
          refine aw_iast cx dX6_put_85 hq.2.2.1 (⟨by omega, by omega⟩) (by rw [hz82q]; exact hcv) ?_
          obtain ⟨M_85q, hM_85q⟩ : ∃ qm, qm = up M (q + 1) (Int.toNat (i)) (z82q) := ⟨_, rfl⟩
          rw [← hM_85q]
          refine aw_iconst (n := 1) cx dX6_put_86 (by decide) ?_
          refine aw_iret cx rt dX6_put_87 ?_
          exact ⟨_, rfl, Or.inr (Or.inr (Or.inr ⟨by omega, by omega, by omega, rfl, by rw [hM_85q, hz82q, show M q 0 = f by omega]⟩))⟩
        · have d63q := b2_y hz60q c63q
          refine aw_aload_n cx dX6_put_66 rfl 1 rfl ?_
          refine aw_iconst (n := 2) cx dX6_put_67 (by decide) ?_
          refine aw_callV (as := [aI 2]) (k := 0) (stk := []) cx dX6_put_68 ml_X6_129 mv_X6_finding rfl (lb_0 tl) (by decide) rfl rfl (Nat.le_of_ble_eq_true rfl) (ct_X6_finding tl M _ (by first | assumption | omega)) (fun rr68q M_68q hp68q => ?_)
          obtain ⟨z68q, rfl, hMuM_68, hxM_68⟩ := hp68q
          refine aw_eq (stk2 := [aI z68q]) ?_ rfl rfl rfl rfl
          refine aw_iret cx rt dX6_put_71 ?_
          exact ⟨_, rfl, Or.inr (Or.inr (Or.inl ⟨by omega, by omega, by omega, by omega, hMuM_68⟩))⟩
      · refine aw_aload_n cx dX6_put_47 rfl 1 rfl ?_
        refine aw_iconst (n := 3) cx dX6_put_48 (by decide) ?_
        refine aw_callV (as := [aI 3]) (k := 0) (stk := []) cx dX6_put_49 ml_X6_129 mv_X6_finding rfl (lb_0 tl) (by decide) rfl rfl (Nat.le_of_ble_eq_true rfl) (ct_X6_finding tl M _ (by first | assumption | omega)) (fun rr49q M_49q hp49q => ?_)
        obtain ⟨z49q, rfl, hMuM_49, hxM_49⟩ := hp49q
        refine aw_eq (stk2 := [aI z49q]) ?_ rfl rfl rfl rfl
        refine aw_iret cx rt dX6_put_52 ?_
        exact ⟨_, rfl, Or.inr (Or.inl ⟨by omega, by omega, by omega, hMuM_49⟩)⟩
    · have d13q := b2_y hz10q c13q
      refine aw_bipush (n := (-2)) cx dX6_put_16 (by decide) ?_
      refine aw_iret cx rt dX6_put_18 ?_
      exact ⟨_, rfl, Or.inl ⟨by omega, rfl, rfl⟩⟩
set_option maxHeartbeats 1000000 in
set_option maxRecDepth 100000 in
theorem ct_X6_get_a (tl : List CD) (M : Mem) (s f i : Int) (hl : 0 ≤ s → s < 4 → M 29 s.toNat = -1) : Ct 1 mX6_get (LB ++ tl) [aR 0, aI s, aI f, aI i] M (fun r M1 => ∃ x, r = some (aI x) ∧ (((s < 0 ∨ 4 ≤ s ∨ f < 0 ∨ 3 ≤ f) ∧ x = -2147483648 ∧ M1 = M) ∨ ((0 ≤ s ∧ s < 4 ∧ 0 ≤ f ∧ f < 3) ∧ x = -2147483648 ∧ M1 = up M 0 14 1))) := by
  refine Ct.of (own := RX6) rfl (by decide +kernel) (Nat.le_of_ble_eq_true rfl) (fun X cx rt => ?_)
  refine aw_eq (loc2 := [(0, aR 0), (1, aI s), (2, aI f), (3, aI i)]) ?_ rfl rfl rfl rfl
  refine aw_rngL 1 rfl (fun rl_s rh_s => ?_)
  refine aw_rngL 2 rfl (fun rl_f rh_f => ?_)
  refine aw_rngL 3 rfl (fun rl_i rh_i => ?_)
  refine aw_iload_n cx dX6_get_0 rfl 1 rfl ?_
  refine aw_iconst (n := 4) cx dX6_get_1 (by decide) ?_
  refine aw_callS (as := [aI s, aI 4]) (stk := []) cx dX6_get_2 ml_X6_84 ms_X6_outside (by decide) rfl rfl (Nat.le_of_ble_eq_true rfl) (ct_X6_outside tl M _ _ ) (fun rr2q M_2q hp2q => ?_)
  obtain ⟨rfl, rfl⟩ := hp2q
  refine aw_top (stk := []) (fun z2q hz2q => ?_)
  refine aw_if_ne (tgt := 16) cx dX6_get_5 (by decide) (fun c5q => ?_) (fun c5q => ?_)
  · have d5q := b2_y hz2q c5q
    refine aw_ldc (x := (-2147483648)) cx dX6_get_16 kc_X6_168 (by decide +kernel) ?_
    refine aw_iret cx rt dX6_get_18 ?_
    exact ⟨_, rfl, Or.inl ⟨by omega, rfl, rfl⟩⟩
  · have d5q := b2_e0.mp (hz2q.symm.trans c5q)
    refine aw_iload_n cx dX6_get_8 rfl 2 rfl ?_
    refine aw_iconst (n := 3) cx dX6_get_9 (by decide) ?_
    refine aw_callS (as := [aI f, aI 3]) (stk := []) cx dX6_get_10 ml_X6_84 ms_X6_outside (by decide) rfl rfl (Nat.le_of_ble_eq_true rfl) (ct_X6_outside tl M _ _ ) (fun rr10q M_10q hp10q => ?_)
    obtain ⟨rfl, rfl⟩ := hp10q
    refine aw_top (stk := []) (fun z10q hz10q => ?_)
    refine aw_if_eq (tgt := 19) cx dX6_get_13 (by decide) (fun c13q => ?_) (fun c13q => ?_)
    · have d13q := b2_e0.mp (hz10q.symm.trans c13q)
      refine aw_aload_n cx dX6_get_19 rfl 0 rfl ?_
      refine aw_getR (q := 29) cx dX6_get_20 fl_X6_63 (lb_0 tl) rfl rfl ?_
      refine aw_iload_n cx dX6_get_23 rfl 1 rfl ?_
      refine aw_aald (v := aN) cx dX6_get_24 (lb_29 tl) (⟨by omega, by omega⟩) (sl_n (hl (by omega) (by omega))) ?_
      refine aw_astoreN (loc2 := [(4, aN), (0, aR 0), (1, aI s), (2, aI f), (3, aI i)]) cx dX6_get_25 (by decide) rfl ?_
      refine aw_aloadN cx dX6_get_27 0 rfl ?_
      refine aw_ifnonnullN cx dX6_get_29 ?_
      refine aw_aload_n cx dX6_get_32 rfl 1 rfl ?_
      refine aw_iconst (n := 1) cx dX6_get_33 (by decide) ?_
      refine aw_callV (as := [aI 1]) (k := 0) (stk := []) cx dX6_get_34 ml_X6_251 mv_X6_findingAsLeast rfl (lb_0 tl) (by decide) rfl rfl (Nat.le_of_ble_eq_true rfl) (ct_X6_findingAsLeast tl M _ (by first | assumption | omega)) (fun rr34q M_34q hp34q => ?_)
      obtain ⟨z34q, rfl, hMuM_34, hxM_34⟩ := hp34q
      refine aw_eq (stk2 := [aI z34q]) ?_ rfl rfl rfl rfl
      refine aw_iret cx rt dX6_get_37 ?_
      exact ⟨_, rfl, Or.inr ⟨by omega, by omega, hMuM_34⟩⟩
    · have d13q := b2_y hz10q c13q
      refine aw_ldc (x := (-2147483648)) cx dX6_get_16 kc_X6_168 (by decide +kernel) ?_
      refine aw_iret cx rt dX6_get_18 ?_
      exact ⟨_, rfl, Or.inl ⟨by omega, rfl, rfl⟩⟩
set_option maxHeartbeats 1000000 in
set_option maxRecDepth 100000 in
theorem ct_X6_get_p (tl : List CD) (M : Mem) (s f i : Int) (q n : Nat) (hs : 0 ≤ s ∧ s < 4) (hsq : M 29 s.toNat = (q : Int)) (hq : SHQ tl q n) : Ct 1 mX6_get (LB ++ tl) [aR 0, aI s, aI f, aI i] M (fun r M1 => ∃ x, r = some (aI x) ∧ (((f < 0 ∨ 3 ≤ f) ∧ x = -2147483648 ∧ M1 = M) ∨ ((0 ≤ f ∧ f < 3) ∧ M q 0 ≠ f ∧ x = -2147483648 ∧ M1 = up M 0 14 3) ∨ ((0 ≤ f ∧ f < 3) ∧ M q 0 = f ∧ (i < 0 ∨ n ≤ i) ∧ x = -2147483648 ∧ M1 = up M 0 14 2) ∨ ((0 ≤ f ∧ f < 3) ∧ M q 0 = f ∧ (0 ≤ i ∧ i < n) ∧ x = M (q + 1) i.toNat ∧ M1 = M))) := by
  refine Ct.of (own := RX6) rfl (by decide +kernel) (Nat.le_of_ble_eq_true rfl) (fun X cx rt => ?_)
  refine aw_eq (loc2 := [(0, aR 0), (1, aI s), (2, aI f), (3, aI i)]) ?_ rfl rfl rfl rfl
  refine aw_rngL 1 rfl (fun rl_s rh_s => ?_)
  refine aw_rngL 2 rfl (fun rl_f rh_f => ?_)
  refine aw_rngL 3 rfl (fun rl_i rh_i => ?_)
  have hn60 := hq.2.2.2
  refine aw_iload_n cx dX6_get_0 rfl 1 rfl ?_
  refine aw_iconst (n := 4) cx dX6_get_1 (by decide) ?_
  refine aw_callS (as := [aI s, aI 4]) (stk := []) cx dX6_get_2 ml_X6_84 ms_X6_outside (by decide) rfl rfl (Nat.le_of_ble_eq_true rfl) (ct_X6_outside tl M _ _ ) (fun rr2q M_2q hp2q => ?_)
  obtain ⟨rfl, rfl⟩ := hp2q
  refine aw_top (stk := []) (fun z2q hz2q => ?_)
  refine aw_if_ne (tgt := 16) cx dX6_get_5 (by decide) (fun c5q => ?_) (fun c5q => ?_)
  · exfalso
    have d5q := b2_y hz2q c5q
    omega
  · have d5q := b2_e0.mp (hz2q.symm.trans c5q)
    refine aw_iload_n cx dX6_get_8 rfl 2 rfl ?_
    refine aw_iconst (n := 3) cx dX6_get_9 (by decide) ?_
    refine aw_callS (as := [aI f, aI 3]) (stk := []) cx dX6_get_10 ml_X6_84 ms_X6_outside (by decide) rfl rfl (Nat.le_of_ble_eq_true rfl) (ct_X6_outside tl M _ _ ) (fun rr10q M_10q hp10q => ?_)
    obtain ⟨rfl, rfl⟩ := hp10q
    refine aw_top (stk := []) (fun z10q hz10q => ?_)
    refine aw_if_eq (tgt := 19) cx dX6_get_13 (by decide) (fun c13q => ?_) (fun c13q => ?_)
    · have d13q := b2_e0.mp (hz10q.symm.trans c13q)
      refine aw_aload_n cx dX6_get_19 rfl 0 rfl ?_
      refine aw_getR (q := 29) cx dX6_get_20 fl_X6_63 (lb_0 tl) rfl rfl ?_
      refine aw_iload_n cx dX6_get_23 rfl 1 rfl ?_
      refine aw_aald (v := aR q) cx dX6_get_24 (lb_29 tl) (⟨by omega, by omega⟩) (sl_q hsq) ?_
      refine aw_astore (loc2 := [(4, aR q), (0, aR 0), (1, aI s), (2, aI f), (3, aI i)]) cx dX6_get_25 (by decide) rfl ?_
      refine aw_aload cx dX6_get_27 0 rfl ?_
      refine aw_ifnonnull cx dX6_get_29 (tgt := 38) (by decide) ?_
      refine aw_aload cx dX6_get_38 0 rfl ?_
      refine aw_getI cx dX6_get_40 fl_X6_245 hq.2.1 rfl (fun z40q hz40q lo_z40q hi_z40q => ?_)
      refine aw_iload_n cx dX6_get_43 rfl 3 rfl ?_
      refine aw_icmp_eq (tgt := 53) cx dX6_get_44 (by decide) (fun c44q => ?_) (fun c44q => ?_)
      · refine aw_iload_n cx dX6_get_53 rfl 4 rfl ?_
        refine aw_aload cx dX6_get_54 0 rfl ?_
        refine aw_getR (q := q + 1) cx dX6_get_56 fl_X6_133 hq.2.1 rfl rfl ?_
        refine aw_alen cx dX6_get_59 hq.2.2.1 ?_
        refine aw_callS (as := [aI i, aI ((n : Int))]) (stk := []) cx dX6_get_60 ml_X6_84 ms_X6_outside (by decide) rfl rfl (Nat.le_of_ble_eq_true rfl) (ct_X6_outside tl M _ _ ) (fun rr60q M_60q hp60q => ?_)
        obtain ⟨rfl, rfl⟩ := hp60q
        refine aw_top (stk := []) (fun z60q hz60q => ?_)
        refine aw_if_eq (tgt := 72) cx dX6_get_63 (by decide) (fun c63q => ?_) (fun c63q => ?_)
        · have d63q := b2_e0.mp (hz60q.symm.trans c63q)
          refine aw_aload cx dX6_get_72 0 rfl ?_
          refine aw_getR (q := q + 1) cx dX6_get_74 fl_X6_133 hq.2.1 rfl rfl ?_
          refine aw_iload_n cx dX6_get_77 rfl 4 rfl ?_
          refine aw_iald cx dX6_get_78 hq.2.2.1 (⟨by omega, by omega⟩) (fun z78q hz78q lo_z78q hi_z78q => ?_)
          refine aw_iret cx rt dX6_get_79 ?_
          exact ⟨_, rfl, Or.inr (Or.inr (Or.inr ⟨by omega, by omega, by omega, hz78q, rfl⟩))⟩
        · have d63q := b2_y hz60q c63q
          refine aw_aload_n cx dX6_get_66 rfl 1 rfl ?_
          refine aw_iconst (n := 2) cx dX6_get_67 (by decide) ?_
          refine aw_callV (as := [aI 2]) (k := 0) (stk := []) cx dX6_get_68 ml_X6_251 mv_X6_findingAsLeast rfl (lb_0 tl) (by decide) rfl rfl (Nat.le_of_ble_eq_true rfl) (ct_X6_findingAsLeast tl M _ (by first | assumption | omega)) (fun rr68q M_68q hp68q => ?_)
          obtain ⟨z68q, rfl, hMuM_68, hxM_68⟩ := hp68q
          refine aw_eq (stk2 := [aI z68q]) ?_ rfl rfl rfl rfl
          refine aw_iret cx rt dX6_get_71 ?_
          exact ⟨_, rfl, Or.inr (Or.inr (Or.inl ⟨by omega, by omega, by omega, by omega, hMuM_68⟩))⟩
      · refine aw_aload_n cx dX6_get_47 rfl 1 rfl ?_
        refine aw_iconst (n := 3) cx dX6_get_48 (by decide) ?_
        refine aw_callV (as := [aI 3]) (k := 0) (stk := []) cx dX6_get_49 ml_X6_251 mv_X6_findingAsLeast rfl (lb_0 tl) (by decide) rfl rfl (Nat.le_of_ble_eq_true rfl) (ct_X6_findingAsLeast tl M _ (by first | assumption | omega)) (fun rr49q M_49q hp49q => ?_)
        obtain ⟨z49q, rfl, hMuM_49, hxM_49⟩ := hp49q
        refine aw_eq (stk2 := [aI z49q]) ?_ rfl rfl rfl rfl
        refine aw_iret cx rt dX6_get_52 ?_
        exact ⟨_, rfl, Or.inr (Or.inl ⟨by omega, by omega, by omega, hMuM_49⟩)⟩
    · have d13q := b2_y hz10q c13q
      refine aw_ldc (x := (-2147483648)) cx dX6_get_16 kc_X6_168 (by decide +kernel) ?_
      refine aw_iret cx rt dX6_get_18 ?_
      exact ⟨_, rfl, Or.inl ⟨by omega, rfl, rfl⟩⟩
