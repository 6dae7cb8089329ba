set_option maxHeartbeats 1000000 in
set_option maxRecDepth 100000 in
theorem ct_X6_outside (tl : List CD) (M : Mem) (v k : Int) : Ct 0 mX6_outside (LB ++ tl) [aI v, aI k] M (fun r M1 => M = M1 ∧ r = some (aI (b2 (v < 0 ∨ k ≤ v)))) := by
  refine Ct.of (own := RX6) rfl (by decide +kernel) (Nat.le_of_ble_eq_true rfl) (fun X cx rt => ?_)
  refine aw_eq (loc2 := [(0, aI v), (1, aI k)]) ?_ rfl rfl rfl rfl
  refine aw_rngL 0 rfl (fun rl_v rh_v => ?_)
  refine aw_rngL 1 rfl (fun rl_k rh_k => ?_)
  refine aw_iload_n cx dX6_outside_0 rfl 0 rfl ?_
  refine aw_if_lt (tgt := 9) cx dX6_outside_1 (by decide) (fun c1q => ?_) (fun c1q => ?_)
  · refine aw_iconst (n := 1) cx dX6_outside_9 (by decide) ?_
    refine aw_goto (tgt := 14) cx dX6_outside_10 (by decide) ?_
    refine aw_zret cx rt dX6_outside_14 (by decide) ?_
    exact ⟨rfl, congrArg (fun q => some (aI q)) (b2_1 (by first | omega | (refine ⟨?_, ?_⟩ <;> omega) | (rintro ⟨h1q, h2q⟩; omega)))⟩
  · refine aw_iload_n cx dX6_outside_4 rfl 0 rfl ?_
    refine aw_iload_n cx dX6_outside_5 rfl 1 rfl ?_
    refine aw_icmp_lt (tgt := 13) cx dX6_outside_6 (by decide) (fun c6q => ?_) (fun c6q => ?_)
    · refine aw_iconst (n := 0) cx dX6_outside_13 (by decide) ?_
      refine aw_zret cx rt dX6_outside_14 (by decide) ?_
      exact ⟨rfl, congrArg (fun q => some (aI q)) (b2_0 (by first | omega | (refine ⟨?_, ?_⟩ <;> omega) | (rintro ⟨h1q, h2q⟩; omega)))⟩
    · refine aw_iconst (n := 1) cx dX6_outside_9 (by decide) ?_
      refine aw_goto (tgt := 14) cx dX6_outside_10 (by decide) ?_
      refine aw_zret cx rt dX6_outside_14 (by decide) ?_
      exact ⟨rfl, congrArg (fun q => some (aI q)) (b2_1 (by first | omega | (refine ⟨?_, ?_⟩ <;> omega) | (rintro ⟨h1q, h2q⟩; omega)))⟩
set_option maxHeartbeats 1000000 in
set_option maxRecDepth 100000 in
theorem ct_X7_in (tl : List CD) (M : Mem) (v lo hi : Int) : Ct 0 mX7_in (LB ++ tl) [aI v, aI lo, aI hi] M (fun r M1 => M = M1 ∧ r = some (aI (b2 (lo ≤ v ∧ v ≤ hi)))) := by
  refine Ct.of (own := RX7) rfl (by decide +kernel) (Nat.le_of_ble_eq_true rfl) (fun X cx rt => ?_)
  refine aw_eq (loc2 := [(0, aI v), (1, aI lo), (2, aI hi)]) ?_ rfl rfl rfl rfl
  refine aw_rngL 0 rfl (fun rl_v rh_v => ?_)
  refine aw_rngL 1 rfl (fun rl_lo rh_lo => ?_)
  refine aw_rngL 2 rfl (fun rl_hi rh_hi => ?_)
  refine aw_iload_n cx dX7_in_0 rfl 0 rfl ?_
  refine aw_iload_n cx dX7_in_1 rfl 1 rfl ?_
  refine aw_icmp_lt (tgt := 14) cx dX7_in_2 (by decide) (fun c2q => ?_) (fun c2q => ?_)
  · refine aw_iconst (n := 0) cx dX7_in_14 (by decide) ?_
    refine aw_zret cx rt dX7_in_15 (by decide) ?_
    exact ⟨rfl, congrArg (fun q => some (aI q)) (b2_0 (by first | omega | (refine ⟨?_, ?_⟩ <;> omega) | (rintro ⟨h1q, h2q⟩; omega)))⟩
  · refine aw_iload_n cx dX7_in_5 rfl 0 rfl ?_
    refine aw_iload_n cx dX7_in_6 rfl 2 rfl ?_
    refine aw_icmp_gt (tgt := 14) cx dX7_in_7 (by decide) (fun c7q => ?_) (fun c7q => ?_)
    · refine aw_iconst (n := 0) cx dX7_in_14 (by decide) ?_
      refine aw_zret cx rt dX7_in_15 (by decide) ?_
      exact ⟨rfl, congrArg (fun q => some (aI q)) (b2_0 (by first | omega | (refine ⟨?_, ?_⟩ <;> omega) | (rintro ⟨h1q, h2q⟩; omega)))⟩
    · refine aw_iconst (n := 1) cx dX7_in_10 (by decide) ?_
      refine aw_goto (tgt := 15) cx dX7_in_11 (by decide) ?_
      refine aw_zret cx rt dX7_in_15 (by decide) ?_
      exact ⟨rfl, congrArg (fun q => some (aI q)) (b2_1 (by first | omega | (refine ⟨?_, ?_⟩ <;> omega) | (rintro ⟨h1q, h2q⟩; omega)))⟩
set_option maxHeartbeats 1000000 in
set_option maxRecDepth 100000 in
theorem ct_X4_apart (tl : List CD) (M : Mem) (tk : Nat) (i j : Int) (htk : TK tk) (hi : 0 ≤ i ∧ i < 12) (hj : 0 ≤ j ∧ j < 12) : Ct 1 mX4_apart (LB ++ tl) [aR tk, aI i, aI j] M (fun r M1 => M = M1 ∧ r = some (aI (b2 (AP (M (tk + 3)) (M (tk + 2)) (M (tk + 1)) i.toNat j.toNat)))) := by
  refine Ct.of (own := RX4) rfl (by decide +kernel) (Nat.le_of_ble_eq_true rfl) (fun X cx rt => ?_)
  refine aw_eq (loc2 := [(0, aR tk), (1, aI i), (2, aI j)]) ?_ rfl rfl rfl rfl
  refine aw_rngL 1 rfl (fun rl_i rh_i => ?_)
  refine aw_rngL 2 rfl (fun rl_j rh_j => ?_)
  refine aw_aload_n cx dX4_apart_0 rfl 0 rfl ?_
  refine aw_getR (q := tk + 3) cx dX4_apart_1 fl_X4_18 (tkO htk tl) rfl rfl ?_
  refine aw_iload_n cx dX4_apart_4 rfl 1 rfl ?_
  refine aw_iald cx dX4_apart_5 (tk3 htk tl) (⟨by omega, by omega⟩) (fun z5q hz5q lo_z5q hi_z5q => ?_)
  refine aw_aload_n cx dX4_apart_6 rfl 0 rfl ?_
  refine aw_getR (q := tk + 3) cx dX4_apart_7 fl_X4_18 (tkO htk tl) rfl rfl ?_
  refine aw_iload_n cx dX4_apart_10 rfl 2 rfl ?_
  refine aw_iald cx dX4_apart_11 (tk3 htk tl) (⟨by omega, by omega⟩) (fun z11q hz11q lo_z11q hi_z11q => ?_)
  refine aw_icmp_ne (tgt := 54) cx dX4_apart_12 (by decide) (fun c12q => ?_) (fun c12q => ?_)
  · refine aw_iconst (n := 0) cx dX4_apart_54 (by decide) ?_
    refine aw_zret cx rt dX4_apart_55 (by decide) ?_
    exact ⟨rfl, congrArg (fun q => some (aI q)) (b2_0 (by first | omega | (refine ⟨?_, ?_⟩ <;> omega) | (rintro ⟨h1q, h2q⟩; omega)))⟩
  · refine aw_aload_n cx dX4_apart_15 rfl 0 rfl ?_
    refine aw_getR (q := tk + 2) cx dX4_apart_16 fl_X4_15 (tkO htk tl) rfl rfl ?_
    refine aw_iload_n cx dX4_apart_19 rfl 1 rfl ?_
    refine aw_iald cx dX4_apart_20 (tk2 htk tl) (⟨by omega, by omega⟩) (fun z20q hz20q lo_z20q hi_z20q => ?_)
    refine aw_aload_n cx dX4_apart_21 rfl 0 rfl ?_
    refine aw_getR (q := tk + 2) cx dX4_apart_22 fl_X4_15 (tkO htk tl) rfl rfl ?_
    refine aw_iload_n cx dX4_apart_25 rfl 2 rfl ?_
    refine aw_iald cx dX4_apart_26 (tk2 htk tl) (⟨by omega, by omega⟩) (fun z26q hz26q lo_z26q hi_z26q => ?_)
    refine aw_isub cx dX4_apart_27 (by omega) (fun z27q hz27q => ?_)
    refine aw_mabs (stk := []) cx dX4_apart_28 ml_X4_56 (by decide) (Nat.le_of_ble_eq_true rfl) (by omega) (fun z28q hz28q => ?_)
    refine aw_aload_n cx dX4_apart_31 rfl 0 rfl ?_
    refine aw_getR (q := tk + 1) cx dX4_apart_32 fl_X4_9 (tkO htk tl) rfl rfl ?_
    refine aw_iload_n cx dX4_apart_35 rfl 1 rfl ?_
    refine aw_iald cx dX4_apart_36 (tk1 htk tl) (⟨by omega, by omega⟩) (fun z36q hz36q lo_z36q hi_z36q => ?_)
    refine aw_aload_n cx dX4_apart_37 rfl 0 rfl ?_
    refine aw_getR (q := tk + 1) cx dX4_apart_38 fl_X4_9 (tkO htk tl) rfl rfl ?_
    refine aw_iload_n cx dX4_apart_41 rfl 2 rfl ?_
    refine aw_iald cx dX4_apart_42 (tk1 htk tl) (⟨by omega, by omega⟩) (fun z42q hz42q lo_z42q hi_z42q => ?_)
    refine aw_isub cx dX4_apart_43 (by omega) (fun z43q hz43q => ?_)
    refine aw_mabs (stk := [aI z28q]) cx dX4_apart_44 ml_X4_56 (by decide) (Nat.le_of_ble_eq_true rfl) (by omega) (fun z44q hz44q => ?_)
    refine aw_icmp_le (tgt := 54) cx dX4_apart_47 (by decide) (fun c47q => ?_) (fun c47q => ?_)
    · refine aw_iconst (n := 0) cx dX4_apart_54 (by decide) ?_
      refine aw_zret cx rt dX4_apart_55 (by decide) ?_
      exact ⟨rfl, congrArg (fun q => some (aI q)) (b2_0 (by first | omega | (refine ⟨?_, ?_⟩ <;> omega) | (rintro ⟨h1q, h2q⟩; omega)))⟩
    · refine aw_iconst (n := 1) cx dX4_apart_50 (by decide) ?_
      refine aw_goto (tgt := 55) cx dX4_apart_51 (by decide) ?_
      refine aw_zret cx rt dX4_apart_55 (by decide) ?_
      exact ⟨rfl, congrArg (fun q => some (aI q)) (b2_1 (by first | omega | (refine ⟨?_, ?_⟩ <;> omega) | (rintro ⟨h1q, h2q⟩; omega)))⟩
set_option maxHeartbeats 1000000 in
set_option maxRecDepth 100000 in
theorem ct_X0_firstAgainst (tl : List CD) (M : Mem) (tk : Nat) (i : Int) (htk : TK tk) (htl : M 22 6 = (tk : Int)) (hi : 0 ≤ i ∧ i < 12) : Ct 2 mX0_firstAgainst (LB ++ tl) [aR 22, aI i] M (fun r M1 => M = M1 ∧ ∃ x, r = some (aI x) ∧ FST (fun a => M 23 a = 1 ∧ AP (M (tk + 3)) (M (tk + 2)) (M (tk + 1)) a i.toNat) i.toNat x) := by
  refine Ct.of (own := RX0) rfl (by decide +kernel) (Nat.le_of_ble_eq_true rfl) (fun X cx rt => ?_)
  refine aw_eq (loc2 := [(0, aR 22), (1, aI i)]) ?_ rfl rfl rfl rfl
  refine aw_rngL 1 rfl (fun rl_i rh_i => ?_)
  refine aw_iconst (n := 0) cx dX0_firstAgainst_0 (by decide) ?_
  refine aw_istore_n (loc2 := [(2, aI 0), (0, aR 22), (1, aI i)]) cx dX0_firstAgainst_1 rfl (by decide) rfl ?_
  have lp2q : ∀ (fu : Nat) (x2q : Int), (0 ≤ x2q ∧ x2q ≤ i) → (∀ a, a < x2q.toNat → ¬ (M 23 a = 1 ∧ AP (M (tk + 3)) (M (tk + 2)) (M (tk + 1)) a i.toNat)) → ((i - x2q).toNat) < fu → AW X (LB ++ tl) 3 2 [(0, aR 22), (1, aI i), (2, aI x2q)] [] M := by
    intro fu
    induction fu with
    | zero =>
      intro x2q h0q ha hm
      exact absurd hm (Nat.not_lt_zero _)
    | succ fu ih2q =>
      intro x2q h0q ha hm
      refine aw_iload_n cx dX0_firstAgainst_2 rfl 2 rfl ?_
      refine aw_iload_n cx dX0_firstAgainst_3 rfl 1 rfl ?_
      refine aw_icmp_ge (tgt := 36) cx dX0_firstAgainst_4 (by decide) (fun c4q => ?_) (fun c4q => ?_)
      · refine aw_iconst (n := (-1)) cx dX0_firstAgainst_36 (by decide) ?_
        refine aw_iret cx rt dX0_firstAgainst_37 ?_
        exact ⟨rfl, -1, rfl, Or.inl ⟨rfl, fun a h => ha a (by omega)⟩⟩
      · refine aw_aload_n cx dX0_firstAgainst_7 rfl 0 rfl ?_
        refine aw_getR (q := 23) cx dX0_firstAgainst_8 fl_X0_9 (lb_22 tl) rfl rfl ?_
        refine aw_iload_n cx dX0_firstAgainst_11 rfl 2 rfl ?_
        refine aw_zald cx dX0_firstAgainst_12 (lb_23 tl) (⟨by omega, by omega⟩) (fun z12q hz12q lo_z12q hi_z12q => ?_)
        refine aw_if_eq (tgt := 30) cx dX0_firstAgainst_13 (by decide) (fun c13q => ?_) (fun c13q => ?_)
        · refine aw_iinc cx dX0_firstAgainst_30 2 rfl (by decide) (by omega) (fun z30q hz30q => ?_)
          refine aw_loc (loc2 := [(2, aI z30q), (0, aR 22), (1, aI i)]) rfl ?_
          refine aw_goto (tgt := 2) cx dX0_firstAgainst_33 (by decide) ?_
          refine aw_sub [1, 2, 0] rfl ?_
          refine ih2q _  ?i_h0 ?i_ha ?i_m
          case i_h0 =>
            omega
          case i_ha =>
            subst_vars; exact all_s (by omega) ha (by rintro ⟨g1, g2⟩; first | omega | exact absurd g2 (b2_e0.mp (by assumption)))
          case i_m =>
            omega
        · refine aw_aload_n cx dX0_firstAgainst_16 rfl 0 rfl ?_
          refine aw_getD (q := tk) cx dX0_firstAgainst_17 fl_X0_29 (lb_22 tl) rfl (htl) ?_
          refine aw_iload_n cx dX0_firstAgainst_20 rfl 2 rfl ?_
          refine aw_iload_n cx dX0_firstAgainst_21 rfl 1 rfl ?_
          refine aw_callV (as := [aI x2q, aI i]) (k := tk) (stk := []) cx dX0_firstAgainst_22 ml_X0_76 mv_X4_apart rfl (tkO htk tl) (by decide) rfl rfl (Nat.le_of_ble_eq_true rfl) (ct_X4_apart tl M _ _ _ (by first | assumption | omega) (by first | assumption | omega) (by first | assumption | omega)) (fun rr22q M_22q hp22q => ?_)
          obtain ⟨rfl, rfl⟩ := hp22q
          refine aw_top (stk := []) (fun z22q hz22q => ?_)
          refine aw_if_eq (tgt := 30) cx dX0_firstAgainst_25 (by decide) (fun c25q => ?_) (fun c25q => ?_)
          · have d25q := b2_e0.mp (hz22q.symm.trans c25q)
            refine aw_iinc cx dX0_firstAgainst_30 2 rfl (by decide) (by omega) (fun z30q hz30q => ?_)
            refine aw_loc (loc2 := [(2, aI z30q), (0, aR 22), (1, aI i)]) rfl ?_
            refine aw_goto (tgt := 2) cx dX0_firstAgainst_33 (by decide) ?_
            refine aw_sub [1, 2, 0] rfl ?_
            refine ih2q _  ?i_h0 ?i_ha ?i_m
            case i_h0 =>
              omega
            case i_ha =>
              subst_vars; exact all_s (by omega) ha (by rintro ⟨g1, g2⟩; first | omega | exact absurd g2 (b2_e0.mp (by assumption)))
            case i_m =>
              omega
          · have d25q := b2_y hz22q c25q
            refine aw_iload_n cx dX0_firstAgainst_28 rfl 2 rfl ?_
            refine aw_iret cx rt dX0_firstAgainst_29 ?_
            exact ⟨rfl, x2q, rfl, Or.inr ⟨x2q.toNat, by omega, by omega, ⟨by omega, b2_e1.mp (by have := b2_in (AP (M (tk + 3)) (M (tk + 2)) (M (tk + 1)) x2q.toNat i.toNat); omega)⟩, ha⟩⟩
  refine aw_sub [1, 2, 0] rfl ?_
  refine lp2q _ _  ?i_h0 ?i_ha (Nat.lt_succ_self _)
  case i_h0 =>
    omega
  case i_ha =>
    exact all_0
set_option maxHeartbeats 1000000 in
set_option maxRecDepth 100000 in
theorem ct_X0_fallenOf (tl : List CD) (M : Mem) (tk : Nat) (w : Int) (htk : TK tk) (htl : M 22 6 = (tk : Int)) : Ct 0 mX0_fallenOf (LB ++ tl) [aR 22, aI w] M (fun r M1 => M = M1 ∧ r = some (aI (FAL (-1) (M tk 4).toNat (M 23) (M (tk + 3)) w))) := by
  refine Ct.of (own := RX0) rfl (by decide +kernel) (Nat.le_of_ble_eq_true rfl) (fun X cx rt => ?_)
  refine aw_eq (loc2 := [(0, aR 22), (1, aI w)]) ?_ rfl rfl rfl rfl
  refine aw_rngL 1 rfl (fun rl_w rh_w => ?_)
  refine aw_ok (fun om => ?_)
  have hsz : 0 ≤ M tk 4 ∧ M tk 4 ≤ 12 := okF om (tkO htk tl) (j := 4) rfl (show (0 : Nat) ≠ 1 by decide)
  refine aw_iconst (n := 0) cx dX0_fallenOf_0 (by decide) ?_
  refine aw_istore_n (loc2 := [(2, aI 0), (0, aR 22), (1, aI w)]) cx dX0_fallenOf_1 rfl (by decide) rfl ?_
  refine aw_iconst (n := 0) cx dX0_fallenOf_2 (by decide) ?_
  refine aw_istore_n (loc2 := [(3, aI 0), (2, aI 0), (0, aR 22), (1, aI w)]) cx dX0_fallenOf_3 rfl (by decide) rfl ?_
  have lp4q : ∀ (fu : Nat) (x2q : Int) (x3q : Int), (0 ≤ x3q ∧ x3q ≤ M tk 4) → (x2q = sm (fun j => b2 ((j : Int) ≠ (-1) ∧ M (tk + 3) j = w ∧ M 23 j = 0)) x3q.toNat) → (0 ≤ x2q ∧ x2q ≤ x3q) → ((M tk 4 - x3q).toNat) < fu → AW X (LB ++ tl) 4 4 [(0, aR 22), (1, aI w), (2, aI x2q), (3, aI x3q)] [] M := by
    intro fu
    induction fu with
    | zero =>
      intro x2q x3q h0q hs h1q hm
      exact absurd hm (Nat.not_lt_zero _)
    | succ fu ih4q =>
      intro x2q x3q h0q hs h1q hm
      refine aw_iload_n cx dX0_fallenOf_4 rfl 3 rfl ?_
      refine aw_aload_n cx dX0_fallenOf_5 rfl 0 rfl ?_
      refine aw_getD (q := tk) cx dX0_fallenOf_6 fl_X0_29 (lb_22 tl) rfl (htl) ?_
      refine aw_getI cx dX0_fallenOf_9 fl_X0_43 (tkO htk tl) rfl (fun z9q hz9q lo_z9q hi_z9q => ?_)
      refine aw_icmp_ge (tgt := 46) cx dX0_fallenOf_12 (by decide) (fun c12q => ?_) (fun c12q => ?_)
      · refine aw_iload_n cx dX0_fallenOf_46 rfl 2 rfl ?_
        refine aw_iret cx rt dX0_fallenOf_47 ?_
        exact ⟨rfl, by unfold FAL; rw [hs, show x3q = M tk 4 by omega]⟩
      · refine aw_aload_n cx dX0_fallenOf_15 rfl 0 rfl ?_
        refine aw_getD (q := tk) cx dX0_fallenOf_16 fl_X0_29 (lb_22 tl) rfl (htl) ?_
        refine aw_getR (q := tk + 3) cx dX0_fallenOf_19 fl_X0_73 (tkO htk tl) rfl rfl ?_
        refine aw_iload_n cx dX0_fallenOf_22 rfl 3 rfl ?_
        refine aw_iald cx dX0_fallenOf_23 (tk3 htk tl) (⟨by omega, by omega⟩) (fun z23q hz23q lo_z23q hi_z23q => ?_)
        refine aw_iload_n cx dX0_fallenOf_24 rfl 1 rfl ?_
        refine aw_icmp_ne (tgt := 40) cx dX0_fallenOf_25 (by decide) (fun c25q => ?_) (fun c25q => ?_)
        · refine aw_iinc cx dX0_fallenOf_40 3 rfl (by decide) (by omega) (fun z40q hz40q => ?_)
          refine aw_loc (loc2 := [(3, aI z40q), (0, aR 22), (1, aI w), (2, aI x2q)]) rfl ?_
          refine aw_goto (tgt := 4) cx dX0_fallenOf_43 (by decide) ?_
          refine aw_sub [1, 2, 3, 0] rfl ?_
          refine ih4q _ _  ?i_h0 ?i_hs ?i_h1 ?i_m
          case i_h0 =>
            omega
          case i_hs =>
            subst_vars; rw [sm_i (by omega)]; first | (rw [b2_t] <;> omega) | (rw [b2_f] <;> omega)
          case i_h1 =>
            omega
          case i_m =>
            omega
        · refine aw_aload_n cx dX0_fallenOf_28 rfl 0 rfl ?_
          refine aw_getR (q := 23) cx dX0_fallenOf_29 fl_X0_9 (lb_22 tl) rfl rfl ?_
          refine aw_iload_n cx dX0_fallenOf_32 rfl 3 rfl ?_
          refine aw_zald cx dX0_fallenOf_33 (lb_23 tl) (⟨by omega, by omega⟩) (fun z33q hz33q lo_z33q hi_z33q => ?_)
          refine aw_if_ne (tgt := 40) cx dX0_fallenOf_34 (by decide) (fun c34q => ?_) (fun c34q => ?_)
          · refine aw_iinc cx dX0_fallenOf_40 3 rfl (by decide) (by omega) (fun z40q hz40q => ?_)
            refine aw_loc (loc2 := [(3, aI z40q), (0, aR 22), (1, aI w), (2, aI x2q)]) rfl ?_
            refine aw_goto (tgt := 4) cx dX0_fallenOf_43 (by decide) ?_
            refine aw_sub [1, 2, 3, 0] rfl ?_
            refine ih4q _ _  ?i_h0 ?i_hs ?i_h1 ?i_m
            case i_h0 =>
              omega
            case i_hs =>
              subst_vars; rw [sm_i (by omega)]; first | (rw [b2_t] <;> omega) | (rw [b2_f] <;> omega)
            case i_h1 =>
              omega
            case i_m =>
              omega
          · refine aw_iinc cx dX0_fallenOf_37 2 rfl (by decide) (by omega) (fun z37q hz37q => ?_)
            refine aw_loc (loc2 := [(2, aI z37q), (0, aR 22), (1, aI w), (3, aI x3q)]) rfl ?_
            refine aw_iinc cx dX0_fallenOf_40 3 rfl (by decide) (by omega) (fun z40q hz40q => ?_)
            refine aw_loc (loc2 := [(3, aI z40q), (2, aI z37q), (0, aR 22), (1, aI w)]) rfl ?_
            refine aw_goto (tgt := 4) cx dX0_fallenOf_43 (by decide) ?_
            refine aw_sub [2, 3, 1, 0] rfl ?_
            refine ih4q _ _  ?i_h0 ?i_hs ?i_h1 ?i_m
            case i_h0 =>
              omega
            case i_hs =>
              subst_vars; rw [sm_i (by omega)]; first | (rw [b2_t] <;> omega) | (rw [b2_f] <;> omega)
            case i_h1 =>
              omega
            case i_m =>
              omega
  refine aw_sub [2, 3, 1, 0] rfl ?_
  refine lp4q _ _ _  ?i_h0 ?i_hs ?i_h1 (Nat.lt_succ_self _)
  case i_h0 =>
    omega
  case i_hs =>
    rfl
  case i_h1 =>
    omega
set_option maxHeartbeats 1000000 in
set_option maxRecDepth 100000 in
theorem ct_X0_spoiled (tl : List CD) (M : Mem) (tk : Nat) (i : Int) (htk : TK tk) (htl : M 22 6 = (tk : Int)) (hi : 0 ≤ i ∧ i < 12) : Ct 0 mX0_spoiled (LB ++ tl) [aR 22, aI i] M (fun r M1 => M = M1 ∧ ∃ x, r = some (aI x) ∧ (x = 0 ∨ x = 1) ∧ (x = 1 ↔ SPO (M 26) (M 20) (M 21) (M (tk + 1)) (M (tk + 2)) (M (tk + 3)) (M 18 3).toNat i.toNat)) := by
  refine Ct.of (own := RX0) rfl (by decide +kernel) (Nat.le_of_ble_eq_true rfl) (fun X cx rt => ?_)
  refine aw_eq (loc2 := [(0, aR 22), (1, aI i)]) ?_ rfl rfl rfl rfl
  refine aw_rngL 1 rfl (fun rl_i rh_i => ?_)
  refine aw_ok (fun om => ?_)
  have hse : 0 ≤ M 18 3 ∧ M 18 3 ≤ 8 := okF om (lb_18 tl) (j := 3) rfl (show (0 : Nat) ≠ 1 by decide)
  refine aw_iconst (n := 0) cx dX0_spoiled_0 (by decide) ?_
  refine aw_istore_n (loc2 := [(2, aI 0), (0, aR 22), (1, aI i)]) cx dX0_spoiled_1 rfl (by decide) rfl ?_
  have lp2q : ∀ (fu : Nat) (x2q : Int), (0 ≤ x2q ∧ x2q ≤ M 18 3) → (∀ e, e < x2q.toNat → ¬ SPe (M 26) (M 20) (M 21) (M (tk + 1)) (M (tk + 2)) (M (tk + 3)) i.toNat e) → ((M 18 3 - x2q).toNat) < fu → AW X (LB ++ tl) 4 2 [(0, aR 22), (1, aI i), (2, aI x2q)] [] M := by
    intro fu
    induction fu with
    | zero =>
      intro x2q h0q ha hm
      exact absurd hm (Nat.not_lt_zero _)
    | succ fu ih2q =>
      intro x2q h0q ha hm
      refine aw_iload_n cx dX0_spoiled_2 rfl 2 rfl ?_
      refine aw_aload_n cx dX0_spoiled_3 rfl 0 rfl ?_
      refine aw_getR (q := 18) cx dX0_spoiled_4 fl_X0_33 (lb_22 tl) rfl rfl ?_
      refine aw_getI cx dX0_spoiled_7 fl_X0_37 (lb_18 tl) rfl (fun z7q hz7q lo_z7q hi_z7q => ?_)
      refine aw_icmp_ge (tgt := 112) cx dX0_spoiled_10 (by decide) (fun c10q => ?_) (fun c10q => ?_)
      · refine aw_iconst (n := 0) cx dX0_spoiled_112 (by decide) ?_
        refine aw_zret cx rt dX0_spoiled_113 (by decide) ?_
        exact ⟨rfl, 0, rfl, Or.inl rfl, ⟨fun h => absurd h (by decide), fun ⟨e, he, hs⟩ => absurd hs (ha e (by omega))⟩⟩
      · refine aw_aload_n cx dX0_spoiled_13 rfl 0 rfl ?_
        refine aw_getD (q := tk) cx dX0_spoiled_14 fl_X0_29 (lb_22 tl) rfl (htl) ?_
        refine aw_getR (q := tk + 1) cx dX0_spoiled_17 fl_X0_66 (tkO htk tl) rfl rfl ?_
        refine aw_iload_n cx dX0_spoiled_20 rfl 1 rfl ?_
        refine aw_iald cx dX0_spoiled_21 (tk1 htk tl) (⟨by omega, by omega⟩) (fun z21q hz21q lo_z21q hi_z21q => ?_)
        refine aw_aload_n cx dX0_spoiled_22 rfl 0 rfl ?_
        refine aw_getR (q := 18) cx dX0_spoiled_23 fl_X0_33 (lb_22 tl) rfl rfl ?_
        refine aw_getR (q := 20) cx dX0_spoiled_26 fl_X0_69 (lb_18 tl) rfl rfl ?_
        refine aw_iload_n cx dX0_spoiled_29 rfl 2 rfl ?_
        refine aw_iald cx dX0_spoiled_30 (lb_20 tl) (⟨by omega, by omega⟩) (fun z30q hz30q lo_z30q hi_z30q => ?_)
        refine aw_isub cx dX0_spoiled_31 (by omega) (fun z31q hz31q => ?_)
        refine aw_istore_n (loc2 := [(3, aI z31q), (0, aR 22), (1, aI i), (2, aI x2q)]) cx dX0_spoiled_32 rfl (by decide) rfl ?_
        refine aw_aload_n cx dX0_spoiled_33 rfl 1 rfl ?_
        refine aw_getR (q := 26) cx dX0_spoiled_34 fl_X0_26 (lb_22 tl) rfl rfl ?_
        refine aw_iload_n cx dX0_spoiled_37 rfl 3 rfl ?_
        refine aw_iald cx dX0_spoiled_38 (lb_26 tl) (⟨by omega, by omega⟩) (fun z38q hz38q lo_z38q hi_z38q => ?_)
        refine aw_if_ne (tgt := 69) cx dX0_spoiled_39 (by decide) (fun c39q => ?_) (fun c39q => ?_)
        · refine aw_aload_n cx dX0_spoiled_69 rfl 1 rfl ?_
          refine aw_getR (q := 26) cx dX0_spoiled_70 fl_X0_26 (lb_22 tl) rfl rfl ?_
          refine aw_iload_n cx dX0_spoiled_73 rfl 3 rfl ?_
          refine aw_iald cx dX0_spoiled_74 (lb_26 tl) (⟨by omega, by omega⟩) (fun z74q hz74q lo_z74q hi_z74q => ?_)
          refine aw_iconst (n := 1) cx dX0_spoiled_75 (by decide) ?_
          refine aw_icmp_ne (tgt := 106) cx dX0_spoiled_76 (by decide) (fun c76q => ?_) (fun c76q => ?_)
          · refine aw_iinc cx dX0_spoiled_106 3 rfl (by decide) (by omega) (fun z106q hz106q => ?_)
            refine aw_loc (loc2 := [(2, aI z106q), (3, aI z31q), (0, aR 22), (1, aI i)]) rfl ?_
            refine aw_goto (tgt := 2) cx dX0_spoiled_109 (by decide) ?_
            refine aw_sub [2, 3, 0] rfl ?_
            refine ih2q _  ?i_h0 ?i_ha ?i_m
            case i_h0 =>
              omega
            case i_ha =>
              rw [hz106q]; exact all_s (by omega) ha (by unfold SPe; omega)
            case i_m =>
              omega
          · refine aw_aload_n cx dX0_spoiled_79 rfl 1 rfl ?_
            refine aw_getR (q := 18) cx dX0_spoiled_80 fl_X0_33 (lb_22 tl) rfl rfl ?_
            refine aw_getR (q := 21) cx dX0_spoiled_83 fl_X0_70 (lb_18 tl) rfl rfl ?_
            refine aw_iload_n cx dX0_spoiled_86 rfl 3 rfl ?_
            refine aw_iald cx dX0_spoiled_87 (lb_21 tl) (⟨by omega, by omega⟩) (fun z87q hz87q lo_z87q hi_z87q => ?_)
            refine aw_aload_n cx dX0_spoiled_88 rfl 1 rfl ?_
            refine aw_getD (q := tk) cx dX0_spoiled_89 fl_X0_29 (lb_22 tl) rfl (htl) ?_
            refine aw_getR (q := tk + 2) cx dX0_spoiled_92 fl_X0_63 (tkO htk tl) rfl rfl ?_
            refine aw_iload_n cx dX0_spoiled_95 rfl 2 rfl ?_
            refine aw_iald cx dX0_spoiled_96 (tk2 htk tl) (⟨by omega, by omega⟩) (fun z96q hz96q lo_z96q hi_z96q => ?_)
            refine aw_icmp_ne (tgt := 106) cx dX0_spoiled_97 (by decide) (fun c97q => ?_) (fun c97q => ?_)
            · refine aw_iinc cx dX0_spoiled_106 3 rfl (by decide) (by omega) (fun z106q hz106q => ?_)
              refine aw_loc (loc2 := [(2, aI z106q), (3, aI z31q), (0, aR 22), (1, aI i)]) rfl ?_
              refine aw_goto (tgt := 2) cx dX0_spoiled_109 (by decide) ?_
              refine aw_sub [2, 3, 0] rfl ?_
              refine ih2q _  ?i_h0 ?i_ha ?i_m
              case i_h0 =>
                omega
              case i_ha =>
                rw [hz106q]; exact all_s (by omega) ha (by unfold SPe; omega)
              case i_m =>
                omega
            · refine aw_iload_n cx dX0_spoiled_100 rfl 0 rfl ?_
              refine aw_if_ne (tgt := 106) cx dX0_spoiled_101 (by decide) (fun c101q => ?_) (fun c101q => ?_)
              · refine aw_iinc cx dX0_spoiled_106 3 rfl (by decide) (by omega) (fun z106q hz106q => ?_)
                refine aw_loc (loc2 := [(2, aI z106q), (3, aI z31q), (0, aR 22), (1, aI i)]) rfl ?_
                refine aw_goto (tgt := 2) cx dX0_spoiled_109 (by decide) ?_
                refine aw_sub [2, 3, 0] rfl ?_
                refine ih2q _  ?i_h0 ?i_ha ?i_m
                case i_h0 =>
                  omega
                case i_ha =>
                  rw [hz106q]; exact all_s (by omega) ha (by unfold SPe; omega)
                case i_m =>
                  omega
              · refine aw_iconst (n := 1) cx dX0_spoiled_104 (by decide) ?_
                refine aw_zret cx rt dX0_spoiled_105 (by decide) ?_
                exact ⟨rfl, 1, rfl, Or.inr rfl, ⟨fun _ => ⟨x2q.toNat, by omega, by unfold SPe; omega⟩, fun _ => rfl⟩⟩
        · refine aw_aload_n cx dX0_spoiled_42 rfl 1 rfl ?_
          refine aw_getR (q := 18) cx dX0_spoiled_43 fl_X0_33 (lb_22 tl) rfl rfl ?_
          refine aw_getR (q := 21) cx dX0_spoiled_46 fl_X0_70 (lb_18 tl) rfl rfl ?_
          refine aw_iload_n cx dX0_spoiled_49 rfl 3 rfl ?_
          refine aw_iald cx dX0_spoiled_50 (lb_21 tl) (⟨by omega, by omega⟩) (fun z50q hz50q lo_z50q hi_z50q => ?_)
          refine aw_aload_n cx dX0_spoiled_51 rfl 1 rfl ?_
          refine aw_getD (q := tk) cx dX0_spoiled_52 fl_X0_29 (lb_22 tl) rfl (htl) ?_
          refine aw_getR (q := tk + 3) cx dX0_spoiled_55 fl_X0_73 (tkO htk tl) rfl rfl ?_
          refine aw_iload_n cx dX0_spoiled_58 rfl 2 rfl ?_
          refine aw_iald cx dX0_spoiled_59 (tk3 htk tl) (⟨by omega, by omega⟩) (fun z59q hz59q lo_z59q hi_z59q => ?_)
          refine aw_icmp_ne (tgt := 69) cx dX0_spoiled_60 (by decide) (fun c60q => ?_) (fun c60q => ?_)
          · refine aw_aload_n cx dX0_spoiled_69 rfl 1 rfl ?_
            refine aw_getR (q := 26) cx dX0_spoiled_70 fl_X0_26 (lb_22 tl) rfl rfl ?_
            refine aw_iload_n cx dX0_spoiled_73 rfl 3 rfl ?_
            refine aw_iald cx dX0_spoiled_74 (lb_26 tl) (⟨by omega, by omega⟩) (fun z74q hz74q lo_z74q hi_z74q => ?_)
            refine aw_iconst (n := 1) cx dX0_spoiled_75 (by decide) ?_
            refine aw_icmp_ne (tgt := 106) cx dX0_spoiled_76 (by decide) (fun c76q => ?_) (fun c76q => ?_)
            · refine aw_iinc cx dX0_spoiled_106 3 rfl (by decide) (by omega) (fun z106q hz106q => ?_)
              refine aw_loc (loc2 := [(2, aI z106q), (3, aI z31q), (0, aR 22), (1, aI i)]) rfl ?_
              refine aw_goto (tgt := 2) cx dX0_spoiled_109 (by decide) ?_
              refine aw_sub [2, 3, 0] rfl ?_
              refine ih2q _  ?i_h0 ?i_ha ?i_m
              case i_h0 =>
                omega
              case i_ha =>
                rw [hz106q]; exact all_s (by omega) ha (by unfold SPe; omega)
              case i_m =>
                omega
            · refine aw_aload_n cx dX0_spoiled_79 rfl 1 rfl ?_
              refine aw_getR (q := 18) cx dX0_spoiled_80 fl_X0_33 (lb_22 tl) rfl rfl ?_
              refine aw_getR (q := 21) cx dX0_spoiled_83 fl_X0_70 (lb_18 tl) rfl rfl ?_
              refine aw_iload_n cx dX0_spoiled_86 rfl 3 rfl ?_
              refine aw_iald cx dX0_spoiled_87 (lb_21 tl) (⟨by omega, by omega⟩) (fun z87q hz87q lo_z87q hi_z87q => ?_)
              refine aw_aload_n cx dX0_spoiled_88 rfl 1 rfl ?_
              refine aw_getD (q := tk) cx dX0_spoiled_89 fl_X0_29 (lb_22 tl) rfl (htl) ?_
              refine aw_getR (q := tk + 2) cx dX0_spoiled_92 fl_X0_63 (tkO htk tl) rfl rfl ?_
              refine aw_iload_n cx dX0_spoiled_95 rfl 2 rfl ?_
              refine aw_iald cx dX0_spoiled_96 (tk2 htk tl) (⟨by omega, by omega⟩) (fun z96q hz96q lo_z96q hi_z96q => ?_)
              refine aw_icmp_ne (tgt := 106) cx dX0_spoiled_97 (by decide) (fun c97q => ?_) (fun c97q => ?_)
              · refine aw_iinc cx dX0_spoiled_106 3 rfl (by decide) (by omega) (fun z106q hz106q => ?_)
                refine aw_loc (loc2 := [(2, aI z106q), (3, aI z31q), (0, aR 22), (1, aI i)]) rfl ?_
                refine aw_goto (tgt := 2) cx dX0_spoiled_109 (by decide) ?_
                refine aw_sub [2, 3, 0] rfl ?_
                refine ih2q _  ?i_h0 ?i_ha ?i_m
                case i_h0 =>
                  omega
                case i_ha =>
                  rw [hz106q]; exact all_s (by omega) ha (by unfold SPe; omega)
                case i_m =>
                  omega
              · refine aw_iload_n cx dX0_spoiled_100 rfl 0 rfl ?_
                refine aw_if_ne (tgt := 106) cx dX0_spoiled_101 (by decide) (fun c101q => ?_) (fun c101q => ?_)
                · refine aw_iinc cx dX0_spoiled_106 3 rfl (by decide) (by omega) (fun z106q hz106q => ?_)
                  refine aw_loc (loc2 := [(2, aI z106q), (3, aI z31q), (0, aR 22), (1, aI i)]) rfl ?_
                  refine aw_goto (tgt := 2) cx dX0_spoiled_109 (by decide) ?_
                  refine aw_sub [2, 3, 0] rfl ?_
                  refine ih2q _  ?i_h0 ?i_ha ?i_m
                  case i_h0 =>
                    omega
                  case i_ha =>
                    rw [hz106q]; exact all_s (by omega) ha (by unfold SPe; omega)
                  case i_m =>
                    omega
                · refine aw_iconst (n := 1) cx dX0_spoiled_104 (by decide) ?_
                  refine aw_zret cx rt dX0_spoiled_105 (by decide) ?_
                  exact ⟨rfl, 1, rfl, Or.inr rfl, ⟨fun _ => ⟨x2q.toNat, by omega, by unfold SPe; omega⟩, fun _ => rfl⟩⟩
          · refine aw_iload_n cx dX0_spoiled_63 rfl 0 rfl ?_
            refine aw_if_lt (tgt := 69) cx dX0_spoiled_64 (by decide) (fun c64q => ?_) (fun c64q => ?_)
            · refine aw_aload_n cx dX0_spoiled_69 rfl 1 rfl ?_
              refine aw_getR (q := 26) cx dX0_spoiled_70 fl_X0_26 (lb_22 tl) rfl rfl ?_
              refine aw_iload_n cx dX0_spoiled_73 rfl 3 rfl ?_
              refine aw_iald cx dX0_spoiled_74 (lb_26 tl) (⟨by omega, by omega⟩) (fun z74q hz74q lo_z74q hi_z74q => ?_)
              refine aw_iconst (n := 1) cx dX0_spoiled_75 (by decide) ?_
              refine aw_icmp_ne (tgt := 106) cx dX0_spoiled_76 (by decide) (fun c76q => ?_) (fun c76q => ?_)
              · refine aw_iinc cx dX0_spoiled_106 3 rfl (by decide) (by omega) (fun z106q hz106q => ?_)
                refine aw_loc (loc2 := [(2, aI z106q), (3, aI z31q), (0, aR 22), (1, aI i)]) rfl ?_
                refine aw_goto (tgt := 2) cx dX0_spoiled_109 (by decide) ?_
                refine aw_sub [2, 3, 0] rfl ?_
                refine ih2q _  ?i_h0 ?i_ha ?i_m
                case i_h0 =>
                  omega
                case i_ha =>
                  rw [hz106q]; exact all_s (by omega) ha (by unfold SPe; omega)
                case i_m =>
                  omega
              · refine aw_aload_n cx dX0_spoiled_79 rfl 1 rfl ?_
                refine aw_getR (q := 18) cx dX0_spoiled_80 fl_X0_33 (lb_22 tl) rfl rfl ?_
                refine aw_getR (q := 21) cx dX0_spoiled_83 fl_X0_70 (lb_18 tl) rfl rfl ?_
                refine aw_iload_n cx dX0_spoiled_86 rfl 3 rfl ?_
                refine aw_iald cx dX0_spoiled_87 (lb_21 tl) (⟨by omega, by omega⟩) (fun z87q hz87q lo_z87q hi_z87q => ?_)
                refine aw_aload_n cx dX0_spoiled_88 rfl 1 rfl ?_
                refine aw_getD (q := tk) cx dX0_spoiled_89 fl_X0_29 (lb_22 tl) rfl (htl) ?_
                refine aw_getR (q := tk + 2) cx dX0_spoiled_92 fl_X0_63 (tkO htk tl) rfl rfl ?_
                refine aw_iload_n cx dX0_spoiled_95 rfl 2 rfl ?_
                refine aw_iald cx dX0_spoiled_96 (tk2 htk tl) (⟨by omega, by omega⟩) (fun z96q hz96q lo_z96q hi_z96q => ?_)
                refine aw_icmp_ne (tgt := 106) cx dX0_spoiled_97 (by decide) (fun c97q => ?_) (fun c97q => ?_)
                · refine aw_iinc cx dX0_spoiled_106 3 rfl (by decide) (by omega) (fun z106q hz106q => ?_)
                  refine aw_loc (loc2 := [(2, aI z106q), (3, aI z31q), (0, aR 22), (1, aI i)]) rfl ?_
                  refine aw_goto (tgt := 2) cx dX0_spoiled_109 (by decide) ?_
                  refine aw_sub [2, 3, 0] rfl ?_
                  refine ih2q _  ?i_h0 ?i_ha ?i_m
                  case i_h0 =>
                    omega
                  case i_ha =>
                    rw [hz106q]; exact all_s (by omega) ha (by unfold SPe; omega)
                  case i_m =>
                    omega
                · refine aw_iload_n cx dX0_spoiled_100 rfl 0 rfl ?_
                  refine aw_if_ne (tgt := 106) cx dX0_spoiled_101 (by decide) (fun c101q => ?_) (fun c101q => ?_)
                  · refine aw_iinc cx dX0_spoiled_106 3 rfl (by decide) (by omega) (fun z106q hz106q => ?_)
                    refine aw_loc (loc2 := [(2, aI z106q), (3, aI z31q), (0, aR 22), (1, aI i)]) rfl ?_
                    refine aw_goto (tgt := 2) cx dX0_spoiled_109 (by decide) ?_
                    refine aw_sub [2, 3, 0] rfl ?_
                    refine ih2q _  ?i_h0 ?i_ha ?i_m
                    case i_h0 =>
                      omega
                    case i_ha =>
                      rw [hz106q]; exact all_s (by omega) ha (by unfold SPe; omega)
                    case i_m =>
                      omega
                  · refine aw_iconst (n := 1) cx dX0_spoiled_104 (by decide) ?_
                    refine aw_zret cx rt dX0_spoiled_105 (by decide) ?_
                    exact ⟨rfl, 1, rfl, Or.inr rfl, ⟨fun _ => ⟨x2q.toNat, by omega, by unfold SPe; omega⟩, fun _ => rfl⟩⟩
            · refine aw_iconst (n := 1) cx dX0_spoiled_67 (by decide) ?_
              refine aw_zret cx rt dX0_spoiled_68 (by decide) ?_
              exact ⟨rfl, 1, rfl, Or.inr rfl, ⟨fun _ => ⟨x2q.toNat, by omega, by unfold SPe; omega⟩, fun _ => rfl⟩⟩
  refine aw_sub [1, 2, 0] rfl ?_
  refine lp2q _ _  ?i_h0 ?i_ha (Nat.lt_succ_self _)
  case i_h0 =>
    omega
  case i_ha =>
    exact all_0
set_option maxHeartbeats 1000000 in
set_option maxRecDepth 100000 in
theorem ct_J6_bitCount_0f7a4 (tl : List CD) (M : Mem) (x : Int) (hx : 0 ≤ x ∧ x < 4096) : Ct 0 mJ6_bitCount_0f7a4 (LB ++ tl) [aI x] M (fun r M1 => M = M1 ∧ r = some (aI (PCN x))) := by
  refine Ct.of (own := RJ6) rfl (by decide +kernel) (Nat.le_of_ble_eq_true rfl) (fun X cx rt => ?_)
  refine aw_eq (loc2 := [(0, aI x)]) ?_ rfl rfl rfl rfl
  refine aw_rngL 0 rfl (fun rl_x rh_x => ?_)
  refine aw_iload_n cx dJ6_bitCount_0f7a4_0 rfl 0 rfl ?_
  refine aw_iload_n cx dJ6_bitCount_0f7a4_1 rfl 0 rfl ?_
  refine aw_iconst (n := 1) cx dJ6_bitCount_0f7a4_2 (by decide) ?_
  refine aw_iushr cx dJ6_bitCount_0f7a4_3 (fun z3q hz3q => ?_)
  refine aw_ldc_w (x := 1431655765) cx dJ6_bitCount_0f7a4_4 kc_J6_265 (by decide +kernel) ?_
  refine aw_iand cx dJ6_bitCount_0f7a4_7 (fun z7q hz7q => ?_)
  refine aw_isubW cx dJ6_bitCount_0f7a4_8 (fun z8q hz8q => ?_)
  refine aw_istore_n (loc2 := [(0, aI z8q)]) cx dJ6_bitCount_0f7a4_9 rfl (by decide) rfl ?_
  refine aw_iload_n cx dJ6_bitCount_0f7a4_10 rfl 0 rfl ?_
  refine aw_ldc_w (x := 858993459) cx dJ6_bitCount_0f7a4_11 kc_J6_266 (by decide +kernel) ?_
  refine aw_iand cx dJ6_bitCount_0f7a4_14 (fun z14q hz14q => ?_)
  refine aw_iload_n cx dJ6_bitCount_0f7a4_15 rfl 0 rfl ?_
  refine aw_iconst (n := 2) cx dJ6_bitCount_0f7a4_16 (by decide) ?_
  refine aw_iushr cx dJ6_bitCount_0f7a4_17 (fun z17q hz17q => ?_)
  refine aw_ldc_w (x := 858993459) cx dJ6_bitCount_0f7a4_18 kc_J6_266 (by decide +kernel) ?_
  refine aw_iand cx dJ6_bitCount_0f7a4_21 (fun z21q hz21q => ?_)
  refine aw_iaddW cx dJ6_bitCount_0f7a4_22 (fun z22q hz22q => ?_)
  refine aw_istore_n (loc2 := [(0, aI z22q)]) cx dJ6_bitCount_0f7a4_23 rfl (by decide) rfl ?_
  refine aw_iload_n cx dJ6_bitCount_0f7a4_24 rfl 0 rfl ?_
  refine aw_iload_n cx dJ6_bitCount_0f7a4_25 rfl 0 rfl ?_
  refine aw_iconst (n := 4) cx dJ6_bitCount_0f7a4_26 (by decide) ?_
  refine aw_iushr cx dJ6_bitCount_0f7a4_27 (fun z27q hz27q => ?_)
  refine aw_iaddW cx dJ6_bitCount_0f7a4_28 (fun z28q hz28q => ?_)
  refine aw_ldc_w (x := 252645135) cx dJ6_bitCount_0f7a4_29 kc_J6_267 (by decide +kernel) ?_
  refine aw_iand cx dJ6_bitCount_0f7a4_32 (fun z32q hz32q => ?_)
  refine aw_istore_n (loc2 := [(0, aI z32q)]) cx dJ6_bitCount_0f7a4_33 rfl (by decide) rfl ?_
  refine aw_iload_n cx dJ6_bitCount_0f7a4_34 rfl 0 rfl ?_
  refine aw_iload_n cx dJ6_bitCount_0f7a4_35 rfl 0 rfl ?_
  refine aw_bipush (n := 8) cx dJ6_bitCount_0f7a4_36 (by decide) ?_
  refine aw_iushr cx dJ6_bitCount_0f7a4_38 (fun z38q hz38q => ?_)
  refine aw_iaddW cx dJ6_bitCount_0f7a4_39 (fun z39q hz39q => ?_)
  refine aw_istore_n (loc2 := [(0, aI z39q)]) cx dJ6_bitCount_0f7a4_40 rfl (by decide) rfl ?_
  refine aw_iload_n cx dJ6_bitCount_0f7a4_41 rfl 0 rfl ?_
  refine aw_iload_n cx dJ6_bitCount_0f7a4_42 rfl 0 rfl ?_
  refine aw_bipush (n := 16) cx dJ6_bitCount_0f7a4_43 (by decide) ?_
  refine aw_iushr cx dJ6_bitCount_0f7a4_45 (fun z45q hz45q => ?_)
  refine aw_iaddW cx dJ6_bitCount_0f7a4_46 (fun z46q hz46q => ?_)
  refine aw_istore_n (loc2 := [(0, aI z46q)]) cx dJ6_bitCount_0f7a4_47 rfl (by decide) rfl ?_
  refine aw_iload_n cx dJ6_bitCount_0f7a4_48 rfl 0 rfl ?_
  refine aw_bipush (n := 63) cx dJ6_bitCount_0f7a4_49 (by decide) ?_
  refine aw_iand cx dJ6_bitCount_0f7a4_51 (fun z51q hz51q => ?_)
  refine aw_iret cx rt dJ6_bitCount_0f7a4_52 ?_
  exact ⟨rfl, congrArg (fun q => some (aI q)) (by rw [← bcF_ok hx]; subst_vars; rfl)⟩
set_option maxHeartbeats 1000000 in
set_option maxRecDepth 100000 in
theorem ct_X0_othersFor (tl : List CD) (M : Mem) (tk : Nat) (i : Int) (htk : TK tk) (htl : M 22 6 = (tk : Int)) (hi : 0 ≤ i ∧ i < 12) : Ct 1 mX0_othersFor (LB ++ tl) [aR 22, aI i] M (fun r M1 => M = M1 ∧ r = some (aI (OTH (M tk 4).toNat (M 23) (M (tk + 1)) (M (tk + 2)) (M (tk + 3)) i.toNat))) := by
  refine Ct.of (own := RX0) rfl (by decide +kernel) (Nat.le_of_ble_eq_true rfl) (fun X cx rt => ?_)
  refine aw_eq (loc2 := [(0, aR 22), (1, aI i)]) ?_ rfl rfl rfl rfl
  refine aw_rngL 1 rfl (fun rl_i rh_i => ?_)
  refine aw_ok (fun om => ?_)
  have hsz : 0 ≤ M tk 4 ∧ M tk 4 ≤ 12 := okF om (tkO htk tl) (j := 4) rfl (show (0 : Nat) ≠ 1 by decide)
  refine aw_iconst (n := 0) cx dX0_othersFor_0 (by decide) ?_
  refine aw_istore_n (loc2 := [(2, aI 0), (0, aR 22), (1, aI i)]) cx dX0_othersFor_1 rfl (by decide) rfl ?_
  refine aw_iconst (n := 0) cx dX0_othersFor_2 (by decide) ?_
  refine aw_istore_n (loc2 := [(3, aI 0), (2, aI 0), (0, aR 22), (1, aI i)]) cx dX0_othersFor_3 rfl (by decide) rfl ?_
  have lp4q : ∀ (fu : Nat) (x2q : Int) (x3q : Int), (0 ≤ x3q ∧ x3q ≤ M tk 4) → (0 ≤ x2q ∧ x2q < 1024) → (∀ w : Nat, BT x2q w ↔ ∃ j, j < x3q.toNat ∧ (M 23 j = 1 ∧ M (tk + 1) j = M (tk + 1) i.toNat ∧ M (tk + 2) j = M (tk + 2) i.toNat ∧ M (tk + 3) j = (w : Int))) → ((M tk 4 - x3q).toNat) < fu → AW X (LB ++ tl) 4 4 [(0, aR 22), (1, aI i), (2, aI x2q), (3, aI x3q)] [] M := by
    intro fu
    induction fu with
    | zero =>
      intro x2q x3q h0q h1q hb hm
      exact absurd hm (Nat.not_lt_zero _)
    | succ fu ih4q =>
      intro x2q x3q h0q h1q hb hm
      refine aw_iload_n cx dX0_othersFor_4 rfl 3 rfl ?_
      refine aw_aload_n cx dX0_othersFor_5 rfl 0 rfl ?_
      refine aw_getD (q := tk) cx dX0_othersFor_6 fl_X0_29 (lb_22 tl) rfl (htl) ?_
      refine aw_getI cx dX0_othersFor_9 fl_X0_43 (tkO htk tl) rfl (fun z9q hz9q lo_z9q hi_z9q => ?_)
      refine aw_icmp_ge (tgt := 86) cx dX0_othersFor_12 (by decide) (fun c12q => ?_) (fun c12q => ?_)
      · have hob := fun z hz => oth_pcn (n := (M tk 4).toNat) (C := M 23) (N := M (tk + 1)) (T := M (tk + 2)) (W := M (tk + 3)) (i := i.toNat) (B := x2q) (v := M (tk + 3) i.toNat) (z := z) (by omega) rfl (okA om (tk3 htk tl) _) (fun w => by rw [hb w, show x3q = M tk 4 by omega]) hz
        refine aw_iload_n cx dX0_othersFor_86 rfl 2 rfl ?_
        refine aw_iconst (n := 1) cx dX0_othersFor_87 (by decide) ?_
        refine aw_aload_n cx dX0_othersFor_88 rfl 0 rfl ?_
        refine aw_getD (q := tk) cx dX0_othersFor_89 fl_X0_29 (lb_22 tl) rfl (htl) ?_
        refine aw_getR (q := tk + 3) cx dX0_othersFor_92 fl_X0_73 (tkO htk tl) rfl rfl ?_
        refine aw_iload_n cx dX0_othersFor_95 rfl 1 rfl ?_
        refine aw_iald cx dX0_othersFor_96 (tk3 htk tl) (⟨by omega, by omega⟩) (fun z96q hz96q lo_z96q hi_z96q => ?_)
        refine aw_ishl cx dX0_othersFor_97 (fun z97q hz97q => ?_)
        refine aw_iconst (n := (-1)) cx dX0_othersFor_98 (by decide) ?_
        refine aw_ixor cx dX0_othersFor_99 (fun z99q hz99q => ?_)
        refine aw_iand cx dX0_othersFor_100 (fun z100q hz100q => ?_)
        have hob := hob z100q (by subst_vars; rfl)
        refine aw_callS (as := [aI z100q]) (stk := []) cx dX0_othersFor_101 ml_X0_95 ms_J6_bitCount_0f7a4 (by decide) rfl rfl (Nat.le_of_ble_eq_true rfl) (ct_J6_bitCount_0f7a4 tl M _ (⟨hob.1, hob.2.1⟩)) (fun rr101q M_101q hp101q => ?_)
        obtain ⟨rfl, rfl⟩ := hp101q
        refine aw_top (stk := []) (fun z101q hz101q => ?_)
        have hrz101q : 0 ≤ z101q ∧ z101q ≤ 12 := by rw [hz101q]; exact PCN_in _
        refine aw_iret cx rt dX0_othersFor_104 ?_
        exact ⟨rfl, congrArg (fun q => some (aI q)) (by rw [hz101q, hob.2.2])⟩
      · refine aw_aload_n cx dX0_othersFor_15 rfl 0 rfl ?_
        refine aw_getR (q := 23) cx dX0_othersFor_16 fl_X0_9 (lb_22 tl) rfl rfl ?_
        refine aw_iload_n cx dX0_othersFor_19 rfl 3 rfl ?_
        refine aw_zald cx dX0_othersFor_20 (lb_23 tl) (⟨by omega, by omega⟩) (fun z20q hz20q lo_z20q hi_z20q => ?_)
        refine aw_if_eq (tgt := 80) cx dX0_othersFor_21 (by decide) (fun c21q => ?_) (fun c21q => ?_)
        · refine aw_iinc cx dX0_othersFor_80 3 rfl (by decide) (by omega) (fun z80q hz80q => ?_)
          refine aw_loc (loc2 := [(3, aI z80q), (0, aR 22), (1, aI i), (2, aI x2q)]) rfl ?_
          refine aw_goto (tgt := 4) cx dX0_othersFor_83 (by decide) ?_
          refine aw_sub [1, 2, 3, 0] rfl ?_
          refine ih4q _ _  ?i_h0 ?i_h1 ?i_hb ?i_m
          case i_h0 =>
            omega
          case i_h1 =>
            omega
          case i_hb =>
            intro w; rw [hz80q, ex_s h0q.1, ← hb w]; exact ⟨fun h => Or.inl h, fun h => h.elim id (fun q => by omega)⟩
          case i_m =>
            omega
        · refine aw_aload_n cx dX0_othersFor_24 rfl 0 rfl ?_
          refine aw_getD (q := tk) cx dX0_othersFor_25 fl_X0_29 (lb_22 tl) rfl (htl) ?_
          refine aw_getR (q := tk + 1) cx dX0_othersFor_28 fl_X0_66 (tkO htk tl) rfl rfl ?_
          refine aw_iload_n cx dX0_othersFor_31 rfl 3 rfl ?_
          refine aw_iald cx dX0_othersFor_32 (tk1 htk tl) (⟨by omega, by omega⟩) (fun z32q hz32q lo_z32q hi_z32q => ?_)
          refine aw_aload_n cx dX0_othersFor_33 rfl 0 rfl ?_
          refine aw_getD (q := tk) cx dX0_othersFor_34 fl_X0_29 (lb_22 tl) rfl (htl) ?_
          refine aw_getR (q := tk + 1) cx dX0_othersFor_37 fl_X0_66 (tkO htk tl) rfl rfl ?_
          refine aw_iload_n cx dX0_othersFor_40 rfl 1 rfl ?_
          refine aw_iald cx dX0_othersFor_41 (tk1 htk tl) (⟨by omega, by omega⟩) (fun z41q hz41q lo_z41q hi_z41q => ?_)
          refine aw_icmp_ne (tgt := 80) cx dX0_othersFor_42 (by decide) (fun c42q => ?_) (fun c42q => ?_)
          · refine aw_iinc cx dX0_othersFor_80 3 rfl (by decide) (by omega) (fun z80q hz80q => ?_)
            refine aw_loc (loc2 := [(3, aI z80q), (0, aR 22), (1, aI i), (2, aI x2q)]) rfl ?_
            refine aw_goto (tgt := 4) cx dX0_othersFor_83 (by decide) ?_
            refine aw_sub [1, 2, 3, 0] rfl ?_
            refine ih4q _ _  ?i_h0 ?i_h1 ?i_hb ?i_m
            case i_h0 =>
              omega
            case i_h1 =>
              omega
            case i_hb =>
              intro w; rw [hz80q, ex_s h0q.1, ← hb w]; exact ⟨fun h => Or.inl h, fun h => h.elim id (fun q => by omega)⟩
            case i_m =>
              omega
          · refine aw_aload_n cx dX0_othersFor_45 rfl 0 rfl ?_
            refine aw_getD (q := tk) cx dX0_othersFor_46 fl_X0_29 (lb_22 tl) rfl (htl) ?_
            refine aw_getR (q := tk + 2) cx dX0_othersFor_49 fl_X0_63 (tkO htk tl) rfl rfl ?_
            refine aw_iload_n cx dX0_othersFor_52 rfl 3 rfl ?_
            refine aw_iald cx dX0_othersFor_53 (tk2 htk tl) (⟨by omega, by omega⟩) (fun z53q hz53q lo_z53q hi_z53q => ?_)
            refine aw_aload_n cx dX0_othersFor_54 rfl 0 rfl ?_
            refine aw_getD (q := tk) cx dX0_othersFor_55 fl_X0_29 (lb_22 tl) rfl (htl) ?_
            refine aw_getR (q := tk + 2) cx dX0_othersFor_58 fl_X0_63 (tkO htk tl) rfl rfl ?_
            refine aw_iload_n cx dX0_othersFor_61 rfl 1 rfl ?_
            refine aw_iald cx dX0_othersFor_62 (tk2 htk tl) (⟨by omega, by omega⟩) (fun z62q hz62q lo_z62q hi_z62q => ?_)
            refine aw_icmp_ne (tgt := 80) cx dX0_othersFor_63 (by decide) (fun c63q => ?_) (fun c63q => ?_)
            · refine aw_iinc cx dX0_othersFor_80 3 rfl (by decide) (by omega) (fun z80q hz80q => ?_)
              refine aw_loc (loc2 := [(3, aI z80q), (0, aR 22), (1, aI i), (2, aI x2q)]) rfl ?_
              refine aw_goto (tgt := 4) cx dX0_othersFor_83 (by decide) ?_
              refine aw_sub [1, 2, 3, 0] rfl ?_
              refine ih4q _ _  ?i_h0 ?i_h1 ?i_hb ?i_m
              case i_h0 =>
                omega
              case i_h1 =>
                omega
              case i_hb =>
                intro w; rw [hz80q, ex_s h0q.1, ← hb w]; exact ⟨fun h => Or.inl h, fun h => h.elim id (fun q => by omega)⟩
              case i_m =>
                omega
            · refine aw_iload_n cx dX0_othersFor_66 rfl 2 rfl ?_
              refine aw_iconst (n := 1) cx dX0_othersFor_67 (by decide) ?_
              refine aw_aload_n cx dX0_othersFor_68 rfl 0 rfl ?_
              refine aw_getD (q := tk) cx dX0_othersFor_69 fl_X0_29 (lb_22 tl) rfl (htl) ?_
              refine aw_getR (q := tk + 3) cx dX0_othersFor_72 fl_X0_73 (tkO htk tl) rfl rfl ?_
              refine aw_iload_n cx dX0_othersFor_75 rfl 3 rfl ?_
              refine aw_iald cx dX0_othersFor_76 (tk3 htk tl) (⟨by omega, by omega⟩) (fun z76q hz76q lo_z76q hi_z76q => ?_)
              refine aw_ishl cx dX0_othersFor_77 (fun z77q hz77q => ?_)
              refine aw_ior cx dX0_othersFor_78 (fun z78q hz78q => ?_)
              refine aw_istore_n (loc2 := [(2, aI z78q), (0, aR 22), (1, aI i), (3, aI x3q)]) cx dX0_othersFor_79 rfl (by decide) rfl ?_
              refine aw_iinc cx dX0_othersFor_80 3 rfl (by decide) (by omega) (fun z80q hz80q => ?_)
              refine aw_loc (loc2 := [(3, aI z80q), (2, aI z78q), (0, aR 22), (1, aI i)]) rfl ?_
              refine aw_goto (tgt := 4) cx dX0_othersFor_83 (by decide) ?_
              refine aw_sub [2, 3, 1, 0] rfl ?_
              refine ih4q _ _  ?i_h0 ?i_h1 ?i_hb ?i_m
              case i_h0 =>
                omega
              case i_h1 =>
                have q1q := bShl_lt (k := z76q) (n := 10) (by omega) (by omega); have q2q := bOr_lt (x := x2q) (y := bShl 1 z76q) (n := 10) (by omega) (by omega) (by omega); rw [hz78q, hz77q]; omega
              case i_hb =>
                intro w; have q1q := bShl_lt (k := z76q) (n := 10) (by omega) (by omega); rw [hz80q, ex_s h0q.1, ← hb w, hz78q, hz77q, BT_or (by omega) (by omega), BT_shl (by omega)]; exact ⟨fun h => h.elim Or.inl (fun q => Or.inr (by omega)), fun h => h.elim Or.inl (fun q => Or.inr (by omega))⟩
              case i_m =>
                omega
  refine aw_sub [2, 3, 1, 0] rfl ?_
  refine lp4q _ _ _  ?i_h0 ?i_h1 ?i_hb (Nat.lt_succ_self _)
  case i_h0 =>
    omega
  case i_h1 =>
    omega
  case i_hb =>
    intro w; exact ⟨fun h => absurd h (BT_0 w), fun ⟨j, hj, _⟩ => absurd hj (Nat.not_lt_zero _)⟩
set_option maxHeartbeats 1000000 in
set_option maxRecDepth 100000 in
theorem ct_X0_weigh (tl : List CD) (M : Mem) (tk : Nat) (i : Int) (htk : TK tk) (htl : M 22 6 = (tk : Int)) (hi : 0 ≤ i ∧ i < 12) : Ct 2 mX0_weigh (LB ++ tl) [aR 22, aI i] M (fun r M1 => M = M1 ∧ r = some (aI (WG (-1) (M tk 4).toNat (M 23) (M (tk + 1)) (M (tk + 2)) (M (tk + 3)) (M (tk + 4)) i.toNat))) := by
  refine Ct.of (own := RX0) rfl (by decide +kernel) (Nat.le_of_ble_eq_true rfl) (fun X cx rt => ?_)
  refine aw_eq (loc2 := [(0, aR 22), (1, aI i)]) ?_ rfl rfl rfl rfl
  refine aw_rngL 1 rfl (fun rl_i rh_i => ?_)
  refine aw_aload_n cx dX0_weigh_0 rfl 0 rfl ?_
  refine aw_getD (q := tk) cx dX0_weigh_1 fl_X0_29 (lb_22 tl) rfl (htl) ?_
  refine aw_getR (q := tk + 4) cx dX0_weigh_4 fl_X0_80 (tkO htk tl) rfl rfl ?_
  refine aw_iload_n cx dX0_weigh_7 rfl 1 rfl ?_
  refine aw_iald cx dX0_weigh_8 (tk4 htk tl) (⟨by omega, by omega⟩) (fun z8q hz8q lo_z8q hi_z8q => ?_)
  by_cases c9_0q : z8q = 0
  · refine aw_lookup (off := 27) (tgt := 36) cx dX0_weigh_9 (by decide) (by rw [c9_0q]; rfl) (by decide) ?_
    refine aw_iconst (n := 3) cx dX0_weigh_36 (by decide) ?_
    refine aw_iret cx rt dX0_weigh_37 ?_
    exact ⟨rfl, congrArg (fun q => some (aI q)) (by unfold WG; rw [if_pos (by omega)])⟩
  by_cases c9_1q : z8q = 1
  · refine aw_lookup (off := 29) (tgt := 38) cx dX0_weigh_9 (by decide) (by rw [c9_1q]; rfl) (by decide) ?_
    refine aw_iconst (n := 3) cx dX0_weigh_38 (by decide) ?_
    refine aw_iconst (n := 1) cx dX0_weigh_39 (by decide) ?_
    refine aw_aload_n cx dX0_weigh_40 rfl 0 rfl ?_
    refine aw_iload_n cx dX0_weigh_41 rfl 1 rfl ?_
    refine aw_callV (as := [aI i]) (k := 22) (stk := [aI 1, aI 3]) cx dX0_weigh_42 ml_X0_83 mv_X0_othersFor rfl (lb_22 tl) (by decide) rfl rfl (Nat.le_of_ble_eq_true rfl) (ct_X0_othersFor tl M _ _ (by first | assumption | omega) (by first | assumption | omega) (by first | assumption | omega)) (fun rr42q M_42q hp42q => ?_)
    obtain ⟨rfl, rfl⟩ := hp42q
    refine aw_top (stk := [aI 1, aI 3]) (fun z42q hz42q => ?_)
    have hrz42q : 0 ≤ z42q ∧ z42q ≤ 10 := by rw [hz42q]; exact OTH_in _ _ _ _ _ _
    refine aw_iadd cx dX0_weigh_45 (by omega) (fun z45q hz45q => ?_)
    refine aw_mmin (stk := []) cx dX0_weigh_46 ml_X0_86 (by decide) (Nat.le_of_ble_eq_true rfl) (fun z46q hz46q => ?_)
    refine aw_iret cx rt dX0_weigh_49 ?_
    exact ⟨rfl, congrArg (fun q => some (aI q)) (by unfold WG; rw [if_neg (by omega), if_pos (by omega), ← hz42q, hz46q, hz45q])⟩
  refine aw_lookup (off := 41) (tgt := 50) cx dX0_weigh_9 (by decide) (by simp only [Op.lookupswitch.offset]; rw [if_neg (by omega), if_neg (by omega)]) (by decide) ?_
  refine aw_aload_n cx dX0_weigh_50 rfl 0 rfl ?_
  refine aw_aload_n cx dX0_weigh_51 rfl 0 rfl ?_
  refine aw_getD (q := tk) cx dX0_weigh_52 fl_X0_29 (lb_22 tl) rfl (htl) ?_
  refine aw_getR (q := tk + 3) cx dX0_weigh_55 fl_X0_73 (tkO htk tl) rfl rfl ?_
  refine aw_iload_n cx dX0_weigh_58 rfl 1 rfl ?_
  refine aw_iald cx dX0_weigh_59 (tk3 htk tl) (⟨by omega, by omega⟩) (fun z59q hz59q lo_z59q hi_z59q => ?_)
  refine aw_callV (as := [aI z59q]) (k := 22) (stk := []) cx dX0_weigh_60 ml_X0_92 mv_X0_fallenOf rfl (lb_22 tl) (by decide) rfl rfl (Nat.le_of_ble_eq_true rfl) (ct_X0_fallenOf tl M _ _ (by first | assumption | omega) (by first | assumption | omega)) (fun rr60q M_60q hp60q => ?_)
  obtain ⟨rfl, rfl⟩ := hp60q
  refine aw_top (stk := []) (fun z60q hz60q => ?_)
  refine aw_if_le (tgt := 70) cx dX0_weigh_63 (by decide) (fun c63q => ?_) (fun c63q => ?_)
  · refine aw_iconst (n := 2) cx dX0_weigh_70 (by decide) ?_
    refine aw_iret cx rt dX0_weigh_71 ?_
    exact ⟨rfl, congrArg (fun q => some (aI q)) (by unfold WG; rw [if_neg (by omega), if_neg (by omega), ← hz59q, ← hz60q, if_neg (by omega)])⟩
  · refine aw_iconst (n := 0) cx dX0_weigh_66 (by decide) ?_
    refine aw_goto (tgt := 71) cx dX0_weigh_67 (by decide) ?_
    refine aw_iret cx rt dX0_weigh_71 ?_
    exact ⟨rfl, congrArg (fun q => some (aI q)) (by unfold WG; rw [if_neg (by omega), if_neg (by omega), ← hz59q, ← hz60q, if_pos (by omega)])⟩
set_option maxHeartbeats 1000000 in
set_option maxRecDepth 100000 in
theorem ct_J7_fill_53178 (tl : List CD) (M : Mem) (k : Nat) (lo hi v : Int) (hk : (LB ++ tl)[k]? = some (.inr (0, 8, lo, hi))) (hv : lo ≤ v ∧ v ≤ hi) : Ct 0 mJ7_fill_53178 (LB ++ tl) [aR k, aI v] M (fun r M1 => r = none ∧ FR [k] M M1 ∧ ∀ j, j < 8 → M1 k j = v) := by
  refine Ct.of (own := RJ7) rfl (by decide +kernel) (Nat.le_of_ble_eq_true rfl) (fun X cx rt => ?_)
  refine aw_eq (loc2 := [(0, aR k), (1, aI v)]) ?_ rfl rfl rfl rfl
  refine aw_rngL 1 rfl (fun rl_v rh_v => ?_)
  refine aw_iconst (n := 0) cx dJ7_fill_53178_0 (by decide) ?_
  refine aw_istore_n (loc2 := [(2, aI 0), (0, aR k), (1, aI v)]) cx dJ7_fill_53178_1 rfl (by decide) rfl ?_
  refine aw_aload_n cx dJ7_fill_53178_2 rfl 1 rfl ?_
  refine aw_alen cx dJ7_fill_53178_3 hk ?_
  refine aw_istore_n (loc2 := [(3, aI 8), (2, aI 0), (0, aR k), (1, aI v)]) cx dJ7_fill_53178_4 rfl (by decide) rfl ?_
  have lp5q : ∀ (fu : Nat) (x2q : Int) (N5q : Mem), (0 ≤ x2q ∧ x2q ≤ 8) → (FR [k] M N5q) → (∀ j, j < x2q.toNat → N5q k j = v) → ((8 - x2q).toNat) < fu → AW X (LB ++ tl) 4 5 [(0, aR k), (1, aI v), (2, aI x2q), (3, aI 8)] [] N5q := by
    intro fu
    induction fu with
    | zero =>
      intro x2q N5q h0q hf ha hm
      exact absurd hm (Nat.not_lt_zero _)
    | succ fu ih5q =>
      intro x2q N5q h0q hf ha hm
      refine aw_iload_n cx dJ7_fill_53178_5 rfl 2 rfl ?_
      refine aw_iload_n cx dJ7_fill_53178_6 rfl 3 rfl ?_
      refine aw_icmp_ge (tgt := 20) cx dJ7_fill_53178_7 (by decide) (fun c7q => ?_) (fun c7q => ?_)
      · refine aw_vret cx rt dJ7_fill_53178_20 ?_
        exact ⟨rfl, hf, fun j h => ha j (by omega)⟩
      · refine aw_aload_n cx dJ7_fill_53178_10 rfl 0 rfl ?_
        refine aw_iload_n cx dJ7_fill_53178_11 rfl 2 rfl ?_
        refine aw_iload_n cx dJ7_fill_53178_12 rfl 1 rfl ?_
        refine aw_iast cx dJ7_fill_53178_13 hk (⟨by omega, by omega⟩) (hv) ?_
        obtain ⟨M_13q, hM_13q⟩ : ∃ q, q = up N5q k (Int.toNat (x2q)) (v) := ⟨_, rfl⟩
        rw [← hM_13q]
        refine aw_iinc cx dJ7_fill_53178_14 2 rfl (by decide) (by omega) (fun z14q hz14q => ?_)
        refine aw_loc (loc2 := [(2, aI z14q), (0, aR k), (1, aI v), (3, aI 8)]) rfl ?_
        refine aw_goto (tgt := 5) cx dJ7_fill_53178_17 (by decide) ?_
        refine aw_sub [1, 2, 0, 3] rfl ?_
        refine ih5q _ _  ?i_h0 ?i_hf ?i_ha ?i_m
        case i_h0 =>
          omega
        case i_hf =>
          exact hf.put hM_13q (by simp)
        case i_ha =>
          rw [hz14q]; exact row_s (g := fun _ => v) (by omega) hM_13q ha rfl
        case i_m =>
          omega
  refine aw_sub [2, 3, 1, 0] rfl ?_
  refine lp5q _ _ _  ?i_h0 ?i_hf ?i_ha (Nat.lt_succ_self _)
  case i_h0 =>
    omega
  case i_hf =>
    exact FR.rf
  case i_ha =>
    exact all_0
