set_option maxHeartbeats 4000000 in
set_option maxRecDepth 100000 in
theorem ct_X6_outside (tl : List CD) (M : Mem) (v k : Int) : Ct 0 mX6_outside (LB ++ tl) [aI v, aI k] M (fun r M1 => M = M1 ∧ r = some (aI (b2 (v < 0 ∨ k ≤ v)))) := by
  refine Ct.of (own := RX6) rfl (by decide +kernel) (Nat.le_of_ble_eq_true rfl) (fun X cx rt => ?_)
  refine aw_eq (loc2 := [(0, aI v), (1, aI k)]) ?_ rfl rfl rfl rfl
  refine aw_rngL 0 rfl (fun rl_v rh_v => ?_)
  refine aw_rngL 1 rfl (fun rl_k rh_k => ?_)
  refine aw_iload_n cx dX6_outside_0 rfl 0 rfl ?_
  refine aw_if_lt (tgt := 9) cx dX6_outside_1 (by decide) (fun c1 => ?_) (fun c1 => ?_)
  · refine aw_iconst (n := 1) cx dX6_outside_9 (by decide) ?_
    refine aw_goto (tgt := 14) cx dX6_outside_10 (by decide) ?_
    refine aw_zret cx rt dX6_outside_14 (by decide) ?_
    exact ⟨rfl, congrArg (fun q => some (aI q)) (b2_1 (by first | omega | (refine ⟨?_, ?_⟩ <;> omega) | (rintro ⟨h1, h2⟩; omega)))⟩
  · refine aw_iload_n cx dX6_outside_4 rfl 0 rfl ?_
    refine aw_iload_n cx dX6_outside_5 rfl 1 rfl ?_
    refine aw_icmp_lt (tgt := 13) cx dX6_outside_6 (by decide) (fun c2 => ?_) (fun c2 => ?_)
    · refine aw_iconst (n := 0) cx dX6_outside_13 (by decide) ?_
      refine aw_zret cx rt dX6_outside_14 (by decide) ?_
      exact ⟨rfl, congrArg (fun q => some (aI q)) (b2_0 (by first | omega | (refine ⟨?_, ?_⟩ <;> omega) | (rintro ⟨h1, h2⟩; omega)))⟩
    · refine aw_iconst (n := 1) cx dX6_outside_9 (by decide) ?_
      refine aw_goto (tgt := 14) cx dX6_outside_10 (by decide) ?_
      refine aw_zret cx rt dX6_outside_14 (by decide) ?_
      exact ⟨rfl, congrArg (fun q => some (aI q)) (b2_1 (by first | omega | (refine ⟨?_, ?_⟩ <;> omega) | (rintro ⟨h1, h2⟩; omega)))⟩
set_option maxHeartbeats 4000000 in
set_option maxRecDepth 100000 in
theorem ct_X7_in (tl : List CD) (M : Mem) (v lo hi : Int) : Ct 0 mX7_in (LB ++ tl) [aI v, aI lo, aI hi] M (fun r M1 => M = M1 ∧ r = some (aI (b2 (lo ≤ v ∧ v ≤ hi)))) := by
  refine Ct.of (own := RX7) rfl (by decide +kernel) (Nat.le_of_ble_eq_true rfl) (fun X cx rt => ?_)
  refine aw_eq (loc2 := [(0, aI v), (1, aI lo), (2, aI hi)]) ?_ rfl rfl rfl rfl
  refine aw_rngL 0 rfl (fun rl_v rh_v => ?_)
  refine aw_rngL 1 rfl (fun rl_lo rh_lo => ?_)
  refine aw_rngL 2 rfl (fun rl_hi rh_hi => ?_)
  refine aw_iload_n cx dX7_in_0 rfl 0 rfl ?_
  refine aw_iload_n cx dX7_in_1 rfl 1 rfl ?_
  refine aw_icmp_lt (tgt := 14) cx dX7_in_2 (by decide) (fun c1 => ?_) (fun c1 => ?_)
  · refine aw_iconst (n := 0) cx dX7_in_14 (by decide) ?_
    refine aw_zret cx rt dX7_in_15 (by decide) ?_
    exact ⟨rfl, congrArg (fun q => some (aI q)) (b2_0 (by first | omega | (refine ⟨?_, ?_⟩ <;> omega) | (rintro ⟨h1, h2⟩; omega)))⟩
  · refine aw_iload_n cx dX7_in_5 rfl 0 rfl ?_
    refine aw_iload_n cx dX7_in_6 rfl 2 rfl ?_
    refine aw_icmp_gt (tgt := 14) cx dX7_in_7 (by decide) (fun c2 => ?_) (fun c2 => ?_)
    · refine aw_iconst (n := 0) cx dX7_in_14 (by decide) ?_
      refine aw_zret cx rt dX7_in_15 (by decide) ?_
      exact ⟨rfl, congrArg (fun q => some (aI q)) (b2_0 (by first | omega | (refine ⟨?_, ?_⟩ <;> omega) | (rintro ⟨h1, h2⟩; omega)))⟩
    · refine aw_iconst (n := 1) cx dX7_in_10 (by decide) ?_
      refine aw_goto (tgt := 15) cx dX7_in_11 (by decide) ?_
      refine aw_zret cx rt dX7_in_15 (by decide) ?_
      exact ⟨rfl, congrArg (fun q => some (aI q)) (b2_1 (by first | omega | (refine ⟨?_, ?_⟩ <;> omega) | (rintro ⟨h1, h2⟩; omega)))⟩
set_option maxHeartbeats 4000000 in
set_option maxRecDepth 100000 in
theorem ct_X4_apart (tl : List CD) (M : Mem) (tk : Nat) (i j : Int) (htk : TK tk) (hi : 0 ≤ i ∧ i < 12) (hj : 0 ≤ j ∧ j < 12) : Ct 1 mX4_apart (LB ++ tl) [aR tk, aI i, aI j] M (fun r M1 => M = M1 ∧ r = some (aI (b2 (AP (M (tk + 3)) (M (tk + 2)) (M (tk + 1)) i.toNat j.toNat)))) := by
  refine Ct.of (own := RX4) rfl (by decide +kernel) (Nat.le_of_ble_eq_true rfl) (fun X cx rt => ?_)
  refine aw_eq (loc2 := [(0, aR tk), (1, aI i), (2, aI j)]) ?_ rfl rfl rfl rfl
  refine aw_rngL 1 rfl (fun rl_i rh_i => ?_)
  refine aw_rngL 2 rfl (fun rl_j rh_j => ?_)
  refine aw_aload_n cx dX4_apart_0 rfl 0 rfl ?_
  refine aw_getR (q := tk + 3) cx dX4_apart_1 fl_X4_18 (tkO htk tl) rfl rfl ?_
  refine aw_iload_n cx dX4_apart_4 rfl 1 rfl ?_
  refine aw_iald cx dX4_apart_5 (tk3 htk tl) (⟨by omega, by omega⟩) (fun z1 hz1 lo_z1 hi_z1 => ?_)
  refine aw_aload_n cx dX4_apart_6 rfl 0 rfl ?_
  refine aw_getR (q := tk + 3) cx dX4_apart_7 fl_X4_18 (tkO htk tl) rfl rfl ?_
  refine aw_iload_n cx dX4_apart_10 rfl 2 rfl ?_
  refine aw_iald cx dX4_apart_11 (tk3 htk tl) (⟨by omega, by omega⟩) (fun z2 hz2 lo_z2 hi_z2 => ?_)
  refine aw_icmp_ne (tgt := 54) cx dX4_apart_12 (by decide) (fun c3 => ?_) (fun c3 => ?_)
  · refine aw_iconst (n := 0) cx dX4_apart_54 (by decide) ?_
    refine aw_zret cx rt dX4_apart_55 (by decide) ?_
    exact ⟨rfl, congrArg (fun q => some (aI q)) (b2_0 (by first | omega | (refine ⟨?_, ?_⟩ <;> omega) | (rintro ⟨h1, h2⟩; omega)))⟩
  · refine aw_aload_n cx dX4_apart_15 rfl 0 rfl ?_
    refine aw_getR (q := tk + 2) cx dX4_apart_16 fl_X4_15 (tkO htk tl) rfl rfl ?_
    refine aw_iload_n cx dX4_apart_19 rfl 1 rfl ?_
    refine aw_iald cx dX4_apart_20 (tk2 htk tl) (⟨by omega, by omega⟩) (fun z4 hz4 lo_z4 hi_z4 => ?_)
    refine aw_aload_n cx dX4_apart_21 rfl 0 rfl ?_
    refine aw_getR (q := tk + 2) cx dX4_apart_22 fl_X4_15 (tkO htk tl) rfl rfl ?_
    refine aw_iload_n cx dX4_apart_25 rfl 2 rfl ?_
    refine aw_iald cx dX4_apart_26 (tk2 htk tl) (⟨by omega, by omega⟩) (fun z5 hz5 lo_z5 hi_z5 => ?_)
    refine aw_isub cx dX4_apart_27 (by omega) (fun z6 hz6 => ?_)
    refine aw_mabs (stk := []) cx dX4_apart_28 ml_X4_56 (by decide) (Nat.le_of_ble_eq_true rfl) (by omega) (fun z7 hz7 => ?_)
    refine aw_aload_n cx dX4_apart_31 rfl 0 rfl ?_
    refine aw_getR (q := tk + 1) cx dX4_apart_32 fl_X4_9 (tkO htk tl) rfl rfl ?_
    refine aw_iload_n cx dX4_apart_35 rfl 1 rfl ?_
    refine aw_iald cx dX4_apart_36 (tk1 htk tl) (⟨by omega, by omega⟩) (fun z8 hz8 lo_z8 hi_z8 => ?_)
    refine aw_aload_n cx dX4_apart_37 rfl 0 rfl ?_
    refine aw_getR (q := tk + 1) cx dX4_apart_38 fl_X4_9 (tkO htk tl) rfl rfl ?_
    refine aw_iload_n cx dX4_apart_41 rfl 2 rfl ?_
    refine aw_iald cx dX4_apart_42 (tk1 htk tl) (⟨by omega, by omega⟩) (fun z9 hz9 lo_z9 hi_z9 => ?_)
    refine aw_isub cx dX4_apart_43 (by omega) (fun z10 hz10 => ?_)
    refine aw_mabs (stk := [aI z7]) cx dX4_apart_44 ml_X4_56 (by decide) (Nat.le_of_ble_eq_true rfl) (by omega) (fun z11 hz11 => ?_)
    refine aw_icmp_le (tgt := 54) cx dX4_apart_47 (by decide) (fun c12 => ?_) (fun c12 => ?_)
    · refine aw_iconst (n := 0) cx dX4_apart_54 (by decide) ?_
      refine aw_zret cx rt dX4_apart_55 (by decide) ?_
      exact ⟨rfl, congrArg (fun q => some (aI q)) (b2_0 (by first | omega | (refine ⟨?_, ?_⟩ <;> omega) | (rintro ⟨h1, h2⟩; omega)))⟩
    · refine aw_iconst (n := 1) cx dX4_apart_50 (by decide) ?_
      refine aw_goto (tgt := 55) cx dX4_apart_51 (by decide) ?_
      refine aw_zret cx rt dX4_apart_55 (by decide) ?_
      exact ⟨rfl, congrArg (fun q => some (aI q)) (b2_1 (by first | omega | (refine ⟨?_, ?_⟩ <;> omega) | (rintro ⟨h1, h2⟩; omega)))⟩
set_option maxHeartbeats 4000000 in
set_option maxRecDepth 100000 in
theorem ct_X0_firstAgainst (tl : List CD) (M : Mem) (tk : Nat) (i : Int) (htk : TK tk) (htl : M 22 6 = (tk : Int)) (hi : 0 ≤ i ∧ i < 12) : Ct 2 mX0_firstAgainst (LB ++ tl) [aR 22, aI i] M (fun r M1 => M = M1 ∧ ∃ x, r = some (aI x) ∧ FST (fun a => M 23 a = 1 ∧ AP (M (tk + 3)) (M (tk + 2)) (M (tk + 1)) a i.toNat) i.toNat x) := by
  refine Ct.of (own := RX0) rfl (by decide +kernel) (Nat.le_of_ble_eq_true rfl) (fun X cx rt => ?_)
  refine aw_eq (loc2 := [(0, aR 22), (1, aI i)]) ?_ rfl rfl rfl rfl
  refine aw_rngL 1 rfl (fun rl_i rh_i => ?_)
  refine aw_iconst (n := 0) cx dX0_firstAgainst_0 (by decide) ?_
  refine aw_istore_n (loc2 := [(2, aI 0), (0, aR 22), (1, aI i)]) cx dX0_firstAgainst_1 rfl (by decide) rfl ?_
  have lp2 : ∀ (fu : Nat) (x2 : Int), (0 ≤ x2 ∧ x2 ≤ i) → (∀ a, a < x2.toNat → ¬ (M 23 a = 1 ∧ AP (M (tk + 3)) (M (tk + 2)) (M (tk + 1)) a i.toNat)) → ((i - x2).toNat) < fu → AW X (LB ++ tl) 3 2 [(0, aR 22), (1, aI i), (2, aI x2)] [] M := by
    intro fu
    induction fu with
    | zero =>
      intro x2 h0 ha hm
      exact absurd hm (Nat.not_lt_zero _)
    | succ fu ih2 =>
      intro x2 h0 ha hm
      refine aw_iload_n cx dX0_firstAgainst_2 rfl 2 rfl ?_
      refine aw_iload_n cx dX0_firstAgainst_3 rfl 1 rfl ?_
      refine aw_icmp_ge (tgt := 36) cx dX0_firstAgainst_4 (by decide) (fun c1 => ?_) (fun c1 => ?_)
      · refine aw_iconst (n := (-1)) cx dX0_firstAgainst_36 (by decide) ?_
        refine aw_iret cx rt dX0_firstAgainst_37 ?_
        exact ⟨rfl, -1, rfl, Or.inl ⟨rfl, fun a h => ha a (by omega)⟩⟩
      · refine aw_aload_n cx dX0_firstAgainst_7 rfl 0 rfl ?_
        refine aw_getR (q := 23) cx dX0_firstAgainst_8 fl_X0_9 (lb_22 tl) rfl rfl ?_
        refine aw_iload_n cx dX0_firstAgainst_11 rfl 2 rfl ?_
        refine aw_zald cx dX0_firstAgainst_12 (lb_23 tl) (⟨by omega, by omega⟩) (fun z2 hz2 lo_z2 hi_z2 => ?_)
        refine aw_if_eq (tgt := 30) cx dX0_firstAgainst_13 (by decide) (fun c3 => ?_) (fun c3 => ?_)
        · refine aw_iinc cx dX0_firstAgainst_30 2 rfl (by decide) (by omega) (fun z4 hz4 => ?_)
          refine aw_loc (loc2 := [(2, aI z4), (0, aR 22), (1, aI i)]) rfl ?_
          refine aw_goto (tgt := 2) cx dX0_firstAgainst_33 (by decide) ?_
          refine aw_sub [1, 2, 0] rfl ?_
          refine ih2 _  ?i_h0 ?i_ha ?i_m
          case i_h0 =>
            omega
          case i_ha =>
            subst_vars; exact all_s (by omega) ha (by rintro ⟨g1, g2⟩; first | omega | exact absurd g2 (b2_e0.mp (by assumption)))
          case i_m =>
            omega
        · refine aw_aload_n cx dX0_firstAgainst_16 rfl 0 rfl ?_
          refine aw_getD (q := tk) cx dX0_firstAgainst_17 fl_X0_29 (lb_22 tl) rfl (htl) ?_
          refine aw_iload_n cx dX0_firstAgainst_20 rfl 2 rfl ?_
          refine aw_iload_n cx dX0_firstAgainst_21 rfl 1 rfl ?_
          refine aw_callV (as := [aI x2, aI i]) (k := tk) (stk := []) cx dX0_firstAgainst_22 ml_X0_76 mv_X4_apart rfl (tkO htk tl) (by decide) rfl rfl (Nat.le_of_ble_eq_true rfl) (ct_X4_apart tl M _ _ _ (by first | assumption | omega) (by first | assumption | omega) (by first | assumption | omega)) (fun r5 M6 hp7 => ?_)
          obtain ⟨rfl, rfl⟩ := hp7
          refine aw_top (stk := []) (fun z8 hz8 => ?_)
          refine aw_if_eq (tgt := 30) cx dX0_firstAgainst_25 (by decide) (fun c9 => ?_) (fun c9 => ?_)
          · refine aw_iinc cx dX0_firstAgainst_30 2 rfl (by decide) (by omega) (fun z10 hz10 => ?_)
            refine aw_loc (loc2 := [(2, aI z10), (0, aR 22), (1, aI i)]) rfl ?_
            refine aw_goto (tgt := 2) cx dX0_firstAgainst_33 (by decide) ?_
            refine aw_sub [1, 2, 0] rfl ?_
            refine ih2 _  ?i_h0 ?i_ha ?i_m
            case i_h0 =>
              omega
            case i_ha =>
              subst_vars; exact all_s (by omega) ha (by rintro ⟨g1, g2⟩; first | omega | exact absurd g2 (b2_e0.mp (by assumption)))
            case i_m =>
              omega
          · refine aw_iload_n cx dX0_firstAgainst_28 rfl 2 rfl ?_
            refine aw_iret cx rt dX0_firstAgainst_29 ?_
            exact ⟨rfl, x2, rfl, Or.inr ⟨x2.toNat, by omega, by omega, ⟨by omega, b2_e1.mp (by have := b2_in (AP (M (tk + 3)) (M (tk + 2)) (M (tk + 1)) x2.toNat i.toNat); omega)⟩, ha⟩⟩
  refine aw_sub [1, 2, 0] rfl ?_
  refine lp2 _ _  ?i_h0 ?i_ha (Nat.lt_succ_self _)
  case i_h0 =>
    omega
  case i_ha =>
    exact all_0
set_option maxHeartbeats 4000000 in
set_option maxRecDepth 100000 in
theorem ct_X0_fallenOf (tl : List CD) (M : Mem) (tk : Nat) (w : Int) (htk : TK tk) (htl : M 22 6 = (tk : Int)) : Ct 0 mX0_fallenOf (LB ++ tl) [aR 22, aI w] M (fun r M1 => M = M1 ∧ r = some (aI (sm (fun j => b2 (M (tk + 3) j = w ∧ M 23 j = 0)) (M tk 4).toNat))) := by
  refine Ct.of (own := RX0) rfl (by decide +kernel) (Nat.le_of_ble_eq_true rfl) (fun X cx rt => ?_)
  refine aw_eq (loc2 := [(0, aR 22), (1, aI w)]) ?_ rfl rfl rfl rfl
  refine aw_rngL 1 rfl (fun rl_w rh_w => ?_)
  refine aw_ok (fun om => ?_)
  have hsz : 0 ≤ M tk 4 ∧ M tk 4 ≤ 12 := okF om (tkO htk tl) (j := 4) rfl (show (0 : Nat) ≠ 1 by decide)
  refine aw_iconst (n := 0) cx dX0_fallenOf_0 (by decide) ?_
  refine aw_istore_n (loc2 := [(2, aI 0), (0, aR 22), (1, aI w)]) cx dX0_fallenOf_1 rfl (by decide) rfl ?_
  refine aw_iconst (n := 0) cx dX0_fallenOf_2 (by decide) ?_
  refine aw_istore_n (loc2 := [(3, aI 0), (2, aI 0), (0, aR 22), (1, aI w)]) cx dX0_fallenOf_3 rfl (by decide) rfl ?_
  have lp4 : ∀ (fu : Nat) (x2 : Int) (x3 : Int), (0 ≤ x3 ∧ x3 ≤ M tk 4) → (x2 = sm (fun j => b2 (M (tk + 3) j = w ∧ M 23 j = 0)) x3.toNat) → (0 ≤ x2 ∧ x2 ≤ x3) → ((M tk 4 - x3).toNat) < fu → AW X (LB ++ tl) 4 4 [(0, aR 22), (1, aI w), (2, aI x2), (3, aI x3)] [] M := by
    intro fu
    induction fu with
    | zero =>
      intro x2 x3 h0 hs h1 hm
      exact absurd hm (Nat.not_lt_zero _)
    | succ fu ih4 =>
      intro x2 x3 h0 hs h1 hm
      refine aw_iload_n cx dX0_fallenOf_4 rfl 3 rfl ?_
      refine aw_aload_n cx dX0_fallenOf_5 rfl 0 rfl ?_
      refine aw_getD (q := tk) cx dX0_fallenOf_6 fl_X0_29 (lb_22 tl) rfl (htl) ?_
      refine aw_getI cx dX0_fallenOf_9 fl_X0_43 (tkO htk tl) rfl (fun z1 hz1 lo_z1 hi_z1 => ?_)
      refine aw_icmp_ge (tgt := 46) cx dX0_fallenOf_12 (by decide) (fun c2 => ?_) (fun c2 => ?_)
      · refine aw_iload_n cx dX0_fallenOf_46 rfl 2 rfl ?_
        refine aw_iret cx rt dX0_fallenOf_47 ?_
        exact ⟨rfl, by rw [hs, show x3 = M tk 4 by omega]⟩
      · refine aw_aload_n cx dX0_fallenOf_15 rfl 0 rfl ?_
        refine aw_getD (q := tk) cx dX0_fallenOf_16 fl_X0_29 (lb_22 tl) rfl (htl) ?_
        refine aw_getR (q := tk + 3) cx dX0_fallenOf_19 fl_X0_73 (tkO htk tl) rfl rfl ?_
        refine aw_iload_n cx dX0_fallenOf_22 rfl 3 rfl ?_
        refine aw_iald cx dX0_fallenOf_23 (tk3 htk tl) (⟨by omega, by omega⟩) (fun z3 hz3 lo_z3 hi_z3 => ?_)
        refine aw_iload_n cx dX0_fallenOf_24 rfl 1 rfl ?_
        refine aw_icmp_ne (tgt := 40) cx dX0_fallenOf_25 (by decide) (fun c4 => ?_) (fun c4 => ?_)
        · refine aw_iinc cx dX0_fallenOf_40 3 rfl (by decide) (by omega) (fun z5 hz5 => ?_)
          refine aw_loc (loc2 := [(3, aI z5), (0, aR 22), (1, aI w), (2, aI x2)]) rfl ?_
          refine aw_goto (tgt := 4) cx dX0_fallenOf_43 (by decide) ?_
          refine aw_sub [1, 2, 3, 0] rfl ?_
          refine ih4 _ _  ?i_h0 ?i_hs ?i_h1 ?i_m
          case i_h0 =>
            omega
          case i_hs =>
            subst_vars; rw [sm_i (by omega)]; dsimp only; first | (rw [b2_t] <;> omega) | (rw [b2_f] <;> omega)
          case i_h1 =>
            omega
          case i_m =>
            omega
        · refine aw_aload_n cx dX0_fallenOf_28 rfl 0 rfl ?_
          refine aw_getR (q := 23) cx dX0_fallenOf_29 fl_X0_9 (lb_22 tl) rfl rfl ?_
          refine aw_iload_n cx dX0_fallenOf_32 rfl 3 rfl ?_
          refine aw_zald cx dX0_fallenOf_33 (lb_23 tl) (⟨by omega, by omega⟩) (fun z6 hz6 lo_z6 hi_z6 => ?_)
          refine aw_if_ne (tgt := 40) cx dX0_fallenOf_34 (by decide) (fun c7 => ?_) (fun c7 => ?_)
          · refine aw_iinc cx dX0_fallenOf_40 3 rfl (by decide) (by omega) (fun z8 hz8 => ?_)
            refine aw_loc (loc2 := [(3, aI z8), (0, aR 22), (1, aI w), (2, aI x2)]) rfl ?_
            refine aw_goto (tgt := 4) cx dX0_fallenOf_43 (by decide) ?_
            refine aw_sub [1, 2, 3, 0] rfl ?_
            refine ih4 _ _  ?i_h0 ?i_hs ?i_h1 ?i_m
            case i_h0 =>
              omega
            case i_hs =>
              subst_vars; rw [sm_i (by omega)]; dsimp only; first | (rw [b2_t] <;> omega) | (rw [b2_f] <;> omega)
            case i_h1 =>
              omega
            case i_m =>
              omega
          · refine aw_iinc cx dX0_fallenOf_37 2 rfl (by decide) (by omega) (fun z9 hz9 => ?_)
            refine aw_loc (loc2 := [(2, aI z9), (0, aR 22), (1, aI w), (3, aI x3)]) rfl ?_
            refine aw_iinc cx dX0_fallenOf_40 3 rfl (by decide) (by omega) (fun z10 hz10 => ?_)
            refine aw_loc (loc2 := [(3, aI z10), (2, aI z9), (0, aR 22), (1, aI w)]) rfl ?_
            refine aw_goto (tgt := 4) cx dX0_fallenOf_43 (by decide) ?_
            refine aw_sub [2, 3, 1, 0] rfl ?_
            refine ih4 _ _  ?i_h0 ?i_hs ?i_h1 ?i_m
            case i_h0 =>
              omega
            case i_hs =>
              subst_vars; rw [sm_i (by omega)]; dsimp only; first | (rw [b2_t] <;> omega) | (rw [b2_f] <;> omega)
            case i_h1 =>
              omega
            case i_m =>
              omega
  refine aw_sub [2, 3, 1, 0] rfl ?_
  refine lp4 _ _ _  ?i_h0 ?i_hs ?i_h1 (Nat.lt_succ_self _)
  case i_h0 =>
    omega
  case i_hs =>
    rfl
  case i_h1 =>
    omega
