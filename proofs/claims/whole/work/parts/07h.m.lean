set_option maxHeartbeats 1000000 in
set_option maxRecDepth 100000 in
theorem ct_X6_clean (tl : List CD) (M : Mem) (what : Int) : Ct 3 mX6_clean (LB ++ tl) [aR 0, aI what] M (fun r M1 => M = M1 ∧ ∃ x, r = some (aI x) ∧ aClean (M 5 4).toNat (M 8) (M 7) (M 6) what x) := by
  refine Ct.of (own := RX6) rfl (by decide +kernel) (Nat.le_of_ble_eq_true rfl) (fun X cx rt => ?_)
  refine aw_eq (loc2 := [(0, aR 0), (1, aI what)]) ?_ rfl rfl rfl rfl
  refine aw_rngL 1 rfl (fun rl_what rh_what => ?_)
  refine aw_ok (fun om => ?_)
  have hsz : 0 ≤ M 5 4 ∧ M 5 4 ≤ 12 := okF om (lb_5 tl) (j := 4) rfl (show (0 : Nat) ≠ 1 by decide)
  have hp2q : (2 : Nat) ^ (M 5 4).toNat ≤ 2 ^ 12 := Nat.pow_le_pow_right (by omega) (by omega)
  have hp1q := Nat.two_pow_pos (M 5 4).toNat
  have hsh := bShl_1 (k := M 5 4) (by omega)
  refine aw_iload_n cx dX6_clean_0 rfl 1 rfl ?_
  refine aw_iconst (n := 2) cx dX6_clean_1 (by decide) ?_
  refine aw_callS (as := [aI what, aI 2]) (stk := []) cx dX6_clean_2 ml_X6_84 ms_X6_outside (by decide) rfl rfl (Nat.le_of_ble_eq_true rfl) (ct_X6_outside tl M _ _ ) (fun rr2q M_2q hp2q => ?_)
  obtain ⟨rfl, rfl⟩ := hp2q
  refine aw_top (stk := []) (fun z2q hz2q => ?_)
  refine aw_if_eq (tgt := 11) cx dX6_clean_5 (by decide) (fun c5q => ?_) (fun c5q => ?_)
  · have d5q := b2_e0.mp (hz2q.symm.trans c5q)
    refine aw_iconst (n := 0) cx dX6_clean_11 (by decide) ?_
    refine aw_istore_n (loc2 := [(2, aI 0), (0, aR 0), (1, aI what)]) cx dX6_clean_12 rfl (by decide) rfl ?_
    refine aw_iconst (n := 1) cx dX6_clean_13 (by decide) ?_
    refine aw_istore_n (loc2 := [(3, aI 1), (2, aI 0), (0, aR 0), (1, aI what)]) cx dX6_clean_14 rfl (by decide) rfl ?_
    have lp15q : ∀ (fu : Nat) (x2q : Int) (x3q : Int), (1 ≤ x3q ∧ x3q ≤ ((2 ^ (M 5 4).toNat : Nat) : Int)) → (CLN (IND (M 5 4).toNat (M 8) (M 7) (M 6)) x3q x2q) → (0 ≤ x2q ∧ x2q < 4096) → ((((2 ^ (M 5 4).toNat : Nat) : Int) - x3q).toNat) < fu → AW X (LB ++ tl) 4 15 [(0, aR 0), (1, aI what), (2, aI x2q), (3, aI x3q)] [] M := by
      intro fu
      induction fu with
      | zero =>
        intro x2q x3q h0q hx h2q hm
        exact absurd hm (Nat.not_lt_zero _)
      | succ fu ih15q =>
        intro x2q x3q h0q hx h2q hm
        refine aw_iload_n cx dX6_clean_15 rfl 3 rfl ?_
        refine aw_iconst (n := 1) cx dX6_clean_16 (by decide) ?_
        refine aw_aload_n cx dX6_clean_17 rfl 0 rfl ?_
        refine aw_getR (q := 5) cx dX6_clean_18 fl_X6_24 (lb_0 tl) rfl rfl ?_
        refine aw_getI cx dX6_clean_21 fl_X6_105 (lb_5 tl) rfl (fun z21q hz21q lo_z21q hi_z21q => ?_)
        refine aw_ishl cx dX6_clean_24 (fun z24q hz24q => ?_)
        have hz24b : z24q = ((2 ^ (M 5 4).toNat : Nat) : Int) := by rw [hz24q, hz21q]; exact hsh
        refine aw_icmp_ge (tgt := 58) cx dX6_clean_25 (by decide) (fun c25q => ?_) (fun c25q => ?_)
        · refine aw_iload_n cx dX6_clean_58 rfl 1 rfl ?_
          refine aw_if_ne (tgt := 69) cx dX6_clean_59 (by decide) (fun c59q => ?_) (fun c59q => ?_)
          · refine aw_iload_n cx dX6_clean_69 rfl 2 rfl ?_
            refine aw_iret cx rt dX6_clean_70 ?_
            exact ⟨rfl, x2q, rfl, Or.inr ⟨x2q, by rw [show x3q = ((2 ^ (M 5 4).toNat : Nat) : Int) by omega] at hx; exact hx, Or.inr ⟨by omega, rfl⟩⟩⟩
          · refine aw_iload_n cx dX6_clean_62 rfl 2 rfl ?_
            refine aw_callS (as := [aI x2q]) (stk := []) cx dX6_clean_63 ml_X6_182 ms_J6_bitCount_0f7a4 (by decide) rfl rfl (Nat.le_of_ble_eq_true rfl) (ct_J6_bitCount_0f7a4 tl M _ (by first | assumption | omega)) (fun rr63q M_63q hp63q => ?_)
            obtain ⟨rfl, rfl⟩ := hp63q
            refine aw_top (stk := []) (fun z63q hz63q => ?_)
            have hrz63q : 0 ≤ z63q ∧ z63q ≤ 12 := by rw [hz63q]; exact PCN_in _
            refine aw_goto (tgt := 70) cx dX6_clean_66 (by decide) ?_
            refine aw_iret cx rt dX6_clean_70 ?_
            exact ⟨rfl, z63q, rfl, Or.inr ⟨x2q, by rw [show x3q = ((2 ^ (M 5 4).toNat : Nat) : Int) by omega] at hx; exact hx, Or.inl ⟨by omega, hz63q⟩⟩⟩
        · refine aw_iload_n cx dX6_clean_28 rfl 3 rfl ?_
          refine aw_callS (as := [aI x3q]) (stk := []) cx dX6_clean_29 ml_X6_182 ms_J6_bitCount_0f7a4 (by decide) rfl rfl (Nat.le_of_ble_eq_true rfl) (ct_J6_bitCount_0f7a4 tl M _ (by first | assumption | omega)) (fun rr29q M_29q hp29q => ?_)
          obtain ⟨rfl, rfl⟩ := hp29q
          refine aw_top (stk := []) (fun z29q hz29q => ?_)
          have hrz29q : 0 ≤ z29q ∧ z29q ≤ 12 := by rw [hz29q]; exact PCN_in _
          refine aw_iload_n cx dX6_clean_32 rfl 2 rfl ?_
          refine aw_callS (as := [aI x2q]) (stk := [aI z29q]) cx dX6_clean_33 ml_X6_182 ms_J6_bitCount_0f7a4 (by decide) rfl rfl (Nat.le_of_ble_eq_true rfl) (ct_J6_bitCount_0f7a4 tl M _ (by first | assumption | omega)) (fun rr33q M_33q hp33q => ?_)
          obtain ⟨rfl, rfl⟩ := hp33q
          refine aw_top (stk := [aI z29q]) (fun z33q hz33q => ?_)
          have hrz33q : 0 ≤ z33q ∧ z33q ≤ 12 := by rw [hz33q]; exact PCN_in _
          refine aw_icmp_le (tgt := 52) cx dX6_clean_36 (by decide) (fun c36q => ?_) (fun c36q => ?_)
          · refine aw_iinc cx dX6_clean_52 3 rfl (by decide) (by omega) (fun z52q hz52q => ?_)
            refine aw_loc (loc2 := [(3, aI z52q), (0, aR 0), (1, aI what), (2, aI x2q)]) rfl ?_
            refine aw_goto (tgt := 15) cx dX6_clean_55 (by decide) ?_
            refine aw_sub [1, 2, 3, 0] rfl ?_
            refine ih15q _ _  ?i_h0 ?i_hx ?i_h2 ?i_m
            case i_h0 =>
              omega
            case i_hx =>
              rw [hz52q]; exact CLN_n h0q.1 hx (fun q => by first | omega | (have g := htgz44.mpr q.2; omega))
            case i_h2 =>
              omega
            case i_m =>
              omega
          · refine aw_aload_n cx dX6_clean_39 rfl 0 rfl ?_
            refine aw_getR (q := 5) cx dX6_clean_40 fl_X6_24 (lb_0 tl) rfl rfl ?_
            refine aw_iload_n cx dX6_clean_43 rfl 3 rfl ?_
            refine aw_callV (as := [aI x3q]) (k := 5) (stk := []) cx dX6_clean_44 ml_X6_210 mv_X4_together rfl (lb_5 tl) (by decide) rfl rfl (Nat.le_of_ble_eq_true rfl) (ct_X4_together tl M _ (by first | assumption | omega)) (fun rr44q M_44q hp44q => ?_)
            obtain ⟨rfl, z44q, rfl, h01z44q, htgz44⟩ := hp44q
            refine aw_eq (stk2 := [aI z44q]) ?_ rfl rfl rfl rfl
            refine aw_if_eq (tgt := 52) cx dX6_clean_47 (by decide) (fun c47q => ?_) (fun c47q => ?_)
            · refine aw_iinc cx dX6_clean_52 3 rfl (by decide) (by omega) (fun z52q hz52q => ?_)
              refine aw_loc (loc2 := [(3, aI z52q), (0, aR 0), (1, aI what), (2, aI x2q)]) rfl ?_
              refine aw_goto (tgt := 15) cx dX6_clean_55 (by decide) ?_
              refine aw_sub [1, 2, 3, 0] rfl ?_
              refine ih15q _ _  ?i_h0 ?i_hx ?i_h2 ?i_m
              case i_h0 =>
                omega
              case i_hx =>
                rw [hz52q]; exact CLN_n h0q.1 hx (fun q => by first | omega | (have g := htgz44.mpr q.2; omega))
              case i_h2 =>
                omega
              case i_m =>
                omega
            · refine aw_iload_n cx dX6_clean_50 rfl 3 rfl ?_
              refine aw_istore_n (loc2 := [(2, aI x3q), (0, aR 0), (1, aI what), (3, aI x3q)]) cx dX6_clean_51 rfl (by decide) rfl ?_
              refine aw_iinc cx dX6_clean_52 3 rfl (by decide) (by omega) (fun z52q hz52q => ?_)
              refine aw_loc (loc2 := [(3, aI z52q), (2, aI x3q), (0, aR 0), (1, aI what)]) rfl ?_
              refine aw_goto (tgt := 15) cx dX6_clean_55 (by decide) ?_
              refine aw_sub [2, 3, 1, 0] rfl ?_
              refine ih15q _ _  ?i_h0 ?i_hx ?i_h2 ?i_m
              case i_h0 =>
                omega
              case i_hx =>
                rw [hz52q]; exact CLN_y h0q.1 hx (by omega) (htgz44.mp (by omega))
              case i_h2 =>
                omega
              case i_m =>
                omega
    refine aw_sub [2, 3, 1, 0] rfl ?_
    refine lp15q _ _ _  ?i_h0 ?i_hx ?i_h2 (Nat.lt_succ_self _)
    case i_h0 =>
      omega
    case i_hx =>
      exact CLN_1 _
    case i_h2 =>
      omega
  · have d5q := b2_y hz2q c5q
    refine aw_bipush (n := (-2)) cx dX6_clean_8 (by decide) ?_
    refine aw_iret cx rt dX6_clean_10 ?_
    exact ⟨rfl, -2, rfl, Or.inl ⟨by omega, rfl⟩⟩
set_option maxHeartbeats 1000000 in
set_option maxRecDepth 100000 in
theorem ct_X6_nthBit (tl : List CD) (M : Mem) (b n : Int) (hb : 0 ≤ b ∧ b < 2147483648) : Ct 0 mX6_nthBit (LB ++ tl) [aI b, aI n] M (fun r M1 => M = M1 ∧ ∃ x, r = some (aI x) ∧ NTH b n x) := by
  refine Ct.of (own := RX6) rfl (by decide +kernel) (Nat.le_of_ble_eq_true rfl) (fun X cx rt => ?_)
  refine aw_eq (loc2 := [(0, aI b), (1, aI n)]) ?_ rfl rfl rfl rfl
  refine aw_rngL 0 rfl (fun rl_b rh_b => ?_)
  refine aw_rngL 1 rfl (fun rl_n rh_n => ?_)
  refine aw_iconst (n := 0) cx dX6_nthBit_0 (by decide) ?_
  refine aw_istore_n (loc2 := [(2, aI 0), (0, aI b), (1, aI n)]) cx dX6_nthBit_1 rfl (by decide) rfl ?_
  refine aw_iconst (n := 0) cx dX6_nthBit_2 (by decide) ?_
  refine aw_istore_n (loc2 := [(3, aI 0), (2, aI 0), (0, aI b), (1, aI n)]) cx dX6_nthBit_3 rfl (by decide) rfl ?_
  have lp4q : ∀ (fu : Nat) (x2q : Int) (x3q : Int), (0 ≤ x3q ∧ x3q ≤ 8) → (x2q = BLW b x3q.toNat) → (0 ≤ x2q ∧ x2q ≤ x3q) → (∀ i, i < x3q.toNat → BT b i → BLW b i ≠ n) → ((8 - x3q).toNat) < fu → AW X (LB ++ tl) 4 4 [(0, aI b), (1, aI n), (2, aI x2q), (3, aI x3q)] [] M := by
    intro fu
    induction fu with
    | zero =>
      intro x2q x3q h0q hx h2q ha hm
      exact absurd hm (Nat.not_lt_zero _)
    | succ fu ih4q =>
      intro x2q x3q h0q hx h2q ha hm
      refine aw_iload_n cx dX6_nthBit_4 rfl 3 rfl ?_
      refine aw_bipush (n := 8) cx dX6_nthBit_5 (by decide) ?_
      refine aw_icmp_ge (tgt := 35) cx dX6_nthBit_7 (by decide) (fun c7q => ?_) (fun c7q => ?_)
      · refine aw_iconst (n := (-1)) cx dX6_nthBit_35 (by decide) ?_
        refine aw_iret cx rt dX6_nthBit_36 ?_
        exact ⟨rfl, -1, rfl, Or.inr ⟨rfl, fun i hi => ha i (by omega)⟩⟩
      · refine aw_iload_n cx dX6_nthBit_10 rfl 0 rfl ?_
        refine aw_iload_n cx dX6_nthBit_11 rfl 3 rfl ?_
        refine aw_ishr cx dX6_nthBit_12 (fun z12q hz12q => ?_)
        refine aw_iconst (n := 1) cx dX6_nthBit_13 (by decide) ?_
        refine aw_iand cx dX6_nthBit_14 (fun z14q hz14q => ?_)
        have hb14 : z14q = b2 (BT b x3q.toNat) := by rw [hz14q, hz12q]; exact isbit hb (by omega)
        have hbi := b2_in (BT b x3q.toNat)
        refine aw_iconst (n := 1) cx dX6_nthBit_15 (by decide) ?_
        refine aw_icmp_ne (tgt := 29) cx dX6_nthBit_16 (by decide) (fun c16q => ?_) (fun c16q => ?_)
        · refine aw_iinc cx dX6_nthBit_29 3 rfl (by decide) (by omega) (fun z29q hz29q => ?_)
          refine aw_loc (loc2 := [(3, aI z29q), (0, aI b), (1, aI n), (2, aI x2q)]) rfl ?_
          refine aw_goto (tgt := 4) cx dX6_nthBit_32 (by decide) ?_
          refine aw_sub [1, 2, 3, 0] rfl ?_
          refine ih4q _ _  ?i_h0 ?i_hx ?i_h2 ?i_ha ?i_m
          case i_h0 =>
            omega
          case i_hx =>
            rw [hz29q]; unfold BLW at hx ⊢; rw [sm_i h0q.1, ← hx, ← hb14]; omega
          case i_h2 =>
            omega
          case i_ha =>
            rw [hz29q]; exact all_s h0q.1 ha (fun q => by first | (exfalso; rw [b2_t q] at hb14; omega) | (rw [← hx]; omega))
          case i_m =>
            omega
        · refine aw_iload_n cx dX6_nthBit_19 rfl 2 rfl ?_
          refine aw_iload_n cx dX6_nthBit_20 rfl 1 rfl ?_
          refine aw_icmp_ne (tgt := 26) cx dX6_nthBit_21 (by decide) (fun c21q => ?_) (fun c21q => ?_)
          · refine aw_iinc cx dX6_nthBit_26 2 rfl (by decide) (by omega) (fun z26q hz26q => ?_)
            refine aw_loc (loc2 := [(2, aI z26q), (0, aI b), (1, aI n), (3, aI x3q)]) rfl ?_
            refine aw_iinc cx dX6_nthBit_29 3 rfl (by decide) (by omega) (fun z29q hz29q => ?_)
            refine aw_loc (loc2 := [(3, aI z29q), (2, aI z26q), (0, aI b), (1, aI n)]) rfl ?_
            refine aw_goto (tgt := 4) cx dX6_nthBit_32 (by decide) ?_
            refine aw_sub [2, 3, 1, 0] rfl ?_
            refine ih4q _ _  ?i_h0 ?i_hx ?i_h2 ?i_ha ?i_m
            case i_h0 =>
              omega
            case i_hx =>
              rw [hz29q]; unfold BLW at hx ⊢; rw [sm_i h0q.1, ← hx, ← hb14]; omega
            case i_h2 =>
              omega
            case i_ha =>
              rw [hz29q]; exact all_s h0q.1 ha (fun q => by first | (exfalso; rw [b2_t q] at hb14; omega) | (rw [← hx]; omega))
            case i_m =>
              omega
          · refine aw_iload_n cx dX6_nthBit_24 rfl 3 rfl ?_
            refine aw_iret cx rt dX6_nthBit_25 ?_
            exact ⟨rfl, x3q, rfl, Or.inl ⟨x3q.toNat, by omega, by omega, b2_e1.mp (by omega), by rw [← hx]; omega⟩⟩
  refine aw_sub [2, 3, 1, 0] rfl ?_
  refine lp4q _ _ _  ?i_h0 ?i_hx ?i_h2 ?i_ha (Nat.lt_succ_self _)
  case i_h0 =>
    omega
  case i_hx =>
    rfl
  case i_h2 =>
    omega
  case i_ha =>
    exact all_0
set_option maxHeartbeats 1000000 in
set_option maxRecDepth 100000 in
theorem ct_X6_sparedBits (tl : List CD) (M : Mem)  : Ct 5 mX6_sparedBits (LB ++ tl) [aR 0] M (fun r M1 => ∃ x, r = some (aI x) ∧ FR SC M M1 ∧ SPB (fgT M) (qgT M) x) := by
  refine Ct.of (own := RX6) rfl (by decide +kernel) (Nat.le_of_ble_eq_true rfl) (fun X cx rt => ?_)
  refine aw_eq (loc2 := [(0, aR 0)]) ?_ rfl rfl rfl rfl
  refine aw_ok (fun om => ?_)
  have hsz : 0 ≤ M 5 4 ∧ M 5 4 ≤ 12 := okF om (lb_5 tl) (j := 4) rfl (show (0 : Nat) ≠ 1 by decide)
  have hse : 0 ≤ M 18 3 ∧ M 18 3 ≤ 8 := okF om (lb_18 tl) (j := 3) rfl (show (0 : Nat) ≠ 1 by decide)
  have hcz : 0 ≤ M 15 2 ∧ M 15 2 ≤ 8 := okF om (lb_15 tl) (j := 2) rfl (show (0 : Nat) ≠ 1 by decide)
  have hNN : ∀ j, 0 ≤ M 6 j := fun j => (okA om (lb_6 tl) j).1
  have hal := all_bits hse
  have hcn : ((qgT M).2.1 : Int) = M 15 2 := by show (((M 15 2).toNat : Nat) : Int) = M 15 2; omega
  have hac := all_bits hcz
  refine aw_aload_n cx dX6_sparedBits_0 rfl 0 rfl ?_
  refine aw_getR (q := 18) cx dX6_sparedBits_1 fl_X6_41 (lb_0 tl) rfl rfl ?_
  refine aw_callV (as := []) (k := 18) (stk := []) cx dX6_sparedBits_4 ml_X6_175 mv_X2_all rfl (lb_18 tl) (by decide) rfl rfl (Nat.le_of_ble_eq_true rfl) (ct_X2_all tl M  ) (fun rr4q M_4q hp4q => ?_)
  obtain ⟨rfl, rfl⟩ := hp4q
  refine aw_top (stk := []) (fun z4q hz4q => ?_)
  refine aw_istore_n (loc2 := [(1, aI z4q), (0, aR 0)]) cx dX6_sparedBits_7 rfl (by decide) rfl ?_
  refine aw_iconst (n := 1) cx dX6_sparedBits_8 (by decide) ?_
  refine aw_aload_n cx dX6_sparedBits_9 rfl 1 rfl ?_
  refine aw_getR (q := 15) cx dX6_sparedBits_10 fl_X6_34 (lb_0 tl) rfl rfl ?_
  refine aw_getI cx dX6_sparedBits_13 fl_X6_118 (lb_15 tl) rfl (fun z13q hz13q lo_z13q hi_z13q => ?_)
  refine aw_ishl cx dX6_sparedBits_16 (fun z16q hz16q => ?_)
  refine aw_iconst (n := 1) cx dX6_sparedBits_17 (by decide) ?_
  refine aw_isub cx dX6_sparedBits_18 (by rw [hz16q, hz13q]; omega) (fun z18q hz18q => ?_)
  refine aw_istore_n (loc2 := [(2, aI z18q), (1, aI z4q), (0, aR 0)]) cx dX6_sparedBits_19 rfl (by decide) rfl ?_
  have hev : z18q = bShl 1 (((qgT M).2.1 : Nat) : Int) - 1 := by rw [hz18q, hz16q, hz13q, hcn]
  refine aw_aload_n cx dX6_sparedBits_20 rfl 2 rfl ?_
  refine aw_aload_n cx dX6_sparedBits_21 rfl 2 rfl ?_
  refine aw_getR (q := 5) cx dX6_sparedBits_22 fl_X6_24 (lb_0 tl) rfl rfl ?_
  refine aw_iload_n cx dX6_sparedBits_25 rfl 1 rfl ?_
  refine aw_callV (as := [aR 5, aI z4q]) (k := 0) (stk := []) cx dX6_sparedBits_26 ml_X6_178 mv_X6_clearedBits rfl (lb_0 tl) (by decide) rfl rfl (Nat.le_of_ble_eq_true rfl) (ct_X6_clearedBits tl M 5 _ (Or.inl rfl) (by omega)) (fun rr26q M_26q hp26q => ?_)
  obtain ⟨z26q, rfl, hfrM_26, hcbM_26, hxrM_26, hctM_26, hrnM_26, hkkM_26, htlM_26⟩ := hp26q
  refine aw_eq (stk2 := [aI z26q]) ?_ rfl rfl rfl rfl
  rw [hz4q] at hcbM_26 hrnM_26
  rw [fCB_told (x := 0) hse hNN hrnM_26] at hcbM_26
  have hp0q : z26q = z18q ↔ ALC (fgT M) (qgT M) := by unfold ALC; rw [hcbM_26, hev]
  refine aw_iload_n cx dX6_sparedBits_29 rfl 0 rfl ?_
  refine aw_icmp_ne (tgt := 35) cx dX6_sparedBits_30 (by decide) (fun c30q => ?_) (fun c30q => ?_)
  · refine aw_iconst (n := 0) cx dX6_sparedBits_35 (by decide) ?_
    refine aw_istore_n (loc2 := [(3, aI 0), (2, aI z18q), (1, aI z4q), (0, aR 0)]) cx dX6_sparedBits_36 rfl (by decide) rfl ?_
    have lp37q : ∀ (fu : Nat) (x3q : Int) (N37q : Mem), (0 ≤ x3q ∧ x3q ≤ M 18 3) → (FR SC M N37q) → (∀ a, a < x3q.toNat → ¬ sp1 (fgT M) (qgT M) a) → ((M 18 3 - x3q).toNat) < fu → AW X (LB ++ tl) 6 37 [(0, aR 0), (1, aI z4q), (2, aI z18q), (3, aI x3q)] [] N37q := by
      intro fu
      induction fu with
      | zero =>
        intro x3q N37q h0q hf ha hm
        exact absurd hm (Nat.not_lt_zero _)
      | succ fu ih37q =>
        intro x3q N37q h0q hf ha hm
        have g0 := hf 0 (by decide)
        have g5 := hf 5 (by decide)
        have g6 := hf 6 (by decide)
        have g7 := hf 7 (by decide)
        have g8 := hf 8 (by decide)
        have g9 := hf 9 (by decide)
        have g15 := hf 15 (by decide)
        have g16 := hf 16 (by decide)
        have g17 := hf 17 (by decide)
        have g18 := hf 18 (by decide)
        have g19 := hf 19 (by decide)
        have g20 := hf 20 (by decide)
        have g21 := hf 21 (by decide)
        have g183 := congrFun g18 3
        have g54 := congrFun g5 4
        have hqg := QG_fr g0 g15 g16 g17
        refine aw_iload_n cx dX6_sparedBits_37 rfl 3 rfl ?_
        refine aw_aload_n cx dX6_sparedBits_38 rfl 0 rfl ?_
        refine aw_getR (q := 18) cx dX6_sparedBits_39 fl_X6_41 (lb_0 tl) rfl rfl ?_
        refine aw_getI cx dX6_sparedBits_42 fl_X6_121 (lb_18 tl) rfl (fun z42q hz42q lo_z42q hi_z42q => ?_)
        refine aw_icmp_ge (tgt := 77) cx dX6_sparedBits_45 (by decide) (fun c45q => ?_) (fun c45q => ?_)
        · have ha2 : ∀ j, j < gm (fgT M) → ¬ sp1 (fgT M) (qgT M) j := fun j hj => ha j (by have h7q : j < (M 18 3).toNat := hj; omega)
          refine aw_iconst (n := 0) cx dX6_sparedBits_77 (by decide) ?_
          refine aw_istore_n (loc2 := [(3, aI 0), (0, aR 0), (1, aI z4q), (2, aI z18q)]) cx dX6_sparedBits_78 rfl (by decide) rfl ?_
          have lp79q : ∀ (fu : Nat) (x3q : Int) (N79q : Mem), (0 ≤ x3q ∧ x3q ≤ M 18 3) → (FR SC M N79q) → (∀ i, i < x3q.toNat → ∀ j, i < j → j < (M 18 3).toNat → ¬ sp2 (fgT M) (qgT M) i j) → ((M 18 3 - x3q).toNat) < fu → AW X (LB ++ tl) 6 79 [(0, aR 0), (1, aI z4q), (2, aI z18q), (3, aI x3q)] [] N79q := by
            intro fu
            induction fu with
            | zero =>
              intro x3q N79q h1q hf hb hm
              exact absurd hm (Nat.not_lt_zero _)
            | succ fu ih79q =>
              intro x3q N79q h1q hf hb hm
              have g0 := hf 0 (by decide)
              have g5 := hf 5 (by decide)
              have g6 := hf 6 (by decide)
              have g7 := hf 7 (by decide)
              have g8 := hf 8 (by decide)
              have g9 := hf 9 (by decide)
              have g15 := hf 15 (by decide)
              have g16 := hf 16 (by decide)
              have g17 := hf 17 (by decide)
              have g18 := hf 18 (by decide)
              have g19 := hf 19 (by decide)
              have g20 := hf 20 (by decide)
              have g21 := hf 21 (by decide)
              have g183 := congrFun g18 3
              have g54 := congrFun g5 4
              have hqg := QG_fr g0 g15 g16 g17
              refine aw_iload_n cx dX6_sparedBits_79 rfl 3 rfl ?_
              refine aw_aload_n cx dX6_sparedBits_80 rfl 0 rfl ?_
              refine aw_getR (q := 18) cx dX6_sparedBits_81 fl_X6_41 (lb_0 tl) rfl rfl ?_
              refine aw_getI cx dX6_sparedBits_84 fl_X6_121 (lb_18 tl) rfl (fun z84q hz84q lo_z84q hi_z84q => ?_)
              refine aw_icmp_ge (tgt := 150) cx dX6_sparedBits_87 (by decide) (fun c87q => ?_) (fun c87q => ?_)
              · refine aw_iconst (n := (-1)) cx dX6_sparedBits_150 (by decide) ?_
                refine aw_iret cx rt dX6_sparedBits_151 ?_
                exact ⟨-1, rfl, hf, -1, -1, -1, Or.inr ⟨fun q => by have := hp0q.mpr q; omega, Or.inr ⟨ha2, Or.inr ⟨fun i j h5q h6q => hb i (by have h7q : j < (M 18 3).toNat := h6q; omega) j h5q h6q, rfl, rfl, rfl⟩⟩⟩, Or.inr (Or.inr (Or.inr ⟨rfl, rfl⟩))⟩
              · refine aw_iload_n cx dX6_sparedBits_90 rfl 3 rfl ?_
                refine aw_iconst (n := 1) cx dX6_sparedBits_91 (by decide) ?_
                refine aw_iadd cx dX6_sparedBits_92 (by omega) (fun z92q hz92q => ?_)
                refine aw_istore (loc2 := [(4, aI z92q), (0, aR 0), (1, aI z4q), (2, aI z18q), (3, aI x3q)]) cx dX6_sparedBits_93 (by decide) rfl ?_
                have lp95q : ∀ (fu : Nat) (x4q : Int) (N95q : Mem), (x3q + 1 ≤ x4q ∧ x4q ≤ M 18 3) → (FR SC M N95q) → (∀ j, x3q.toNat < j → j < x4q.toNat → ¬ sp2 (fgT M) (qgT M) x3q.toNat j) → ((M 18 3 - x4q).toNat) < fu → AW X (LB ++ tl) 6 95 [(0, aR 0), (1, aI z4q), (2, aI z18q), (3, aI x3q), (4, aI x4q)] [] N95q := by
                  intro fu
                  induction fu with
                  | zero =>
                    intro x4q N95q h2q hf hc hm
                    exact absurd hm (Nat.not_lt_zero _)
                  | succ fu ih95q =>
                    intro x4q N95q h2q hf hc hm
                    have g0 := hf 0 (by decide)
                    have g5 := hf 5 (by decide)
                    have g6 := hf 6 (by decide)
                    have g7 := hf 7 (by decide)
                    have g8 := hf 8 (by decide)
                    have g9 := hf 9 (by decide)
                    have g15 := hf 15 (by decide)
                    have g16 := hf 16 (by decide)
                    have g17 := hf 17 (by decide)
                    have g18 := hf 18 (by decide)
                    have g19 := hf 19 (by decide)
                    have g20 := hf 20 (by decide)
                    have g21 := hf 21 (by decide)
                    have g183 := congrFun g18 3
                    have g54 := congrFun g5 4
                    have hqg := QG_fr g0 g15 g16 g17
                    refine aw_iload cx dX6_sparedBits_95 4 rfl ?_
                    refine aw_aload_n cx dX6_sparedBits_97 rfl 0 rfl ?_
                    refine aw_getR (q := 18) cx dX6_sparedBits_98 fl_X6_41 (lb_0 tl) rfl rfl ?_
                    refine aw_getI cx dX6_sparedBits_101 fl_X6_121 (lb_18 tl) rfl (fun z101q hz101q lo_z101q hi_z101q => ?_)
                    refine aw_icmp_ge (tgt := 144) cx dX6_sparedBits_104 (by decide) (fun c104q => ?_) (fun c104q => ?_)
                    · refine aw_iinc cx dX6_sparedBits_144 3 rfl (by decide) (by omega) (fun z144q hz144q => ?_)
                      refine aw_loc (loc2 := [(3, aI z144q), (0, aR 0), (1, aI z4q), (2, aI z18q), (4, aI x4q)]) rfl ?_
                      refine aw_goto (tgt := 79) cx dX6_sparedBits_147 (by decide) ?_
                      refine aw_sub [1, 2, 3, 0] rfl ?_
                      refine ih79q _ _  ?i_h1 ?i_hf ?i_hb ?i_m
                      case i_h1 =>
                        omega
                      case i_hf =>
                        exact hf
                      case i_hb =>
                        rw [hz144q]; exact all_s h1q.1 hb (fun j h5q h6q => hc j h5q (by omega))
                      case i_m =>
                        omega
                    · refine aw_iconst (n := 1) cx dX6_sparedBits_107 (by decide) ?_
                      refine aw_iload_n cx dX6_sparedBits_108 rfl 3 rfl ?_
                      refine aw_ishl cx dX6_sparedBits_109 (fun z109q hz109q => ?_)
                      refine aw_iconst (n := 1) cx dX6_sparedBits_110 (by decide) ?_
                      refine aw_iload cx dX6_sparedBits_111 4 rfl ?_
                      refine aw_ishl cx dX6_sparedBits_113 (fun z113q hz113q => ?_)
                      refine aw_ior cx dX6_sparedBits_114 (fun z114q hz114q => ?_)
                      refine aw_istore (loc2 := [(5, aI z114q), (0, aR 0), (1, aI z4q), (2, aI z18q), (3, aI x3q), (4, aI x4q)]) cx dX6_sparedBits_115 (by decide) rfl ?_
                      refine aw_aload_n cx dX6_sparedBits_117 rfl 1 rfl ?_
                      refine aw_aload_n cx dX6_sparedBits_118 rfl 1 rfl ?_
                      refine aw_getR (q := 5) cx dX6_sparedBits_119 fl_X6_24 (lb_0 tl) rfl rfl ?_
                      refine aw_iload_n cx dX6_sparedBits_122 rfl 2 rfl ?_
                      refine aw_iload cx dX6_sparedBits_123 0 rfl ?_
                      refine aw_iconst (n := (-1)) cx dX6_sparedBits_125 (by decide) ?_
                      refine aw_ixor cx dX6_sparedBits_126 (fun z126q hz126q => ?_)
                      refine aw_iand cx dX6_sparedBits_127 (fun z127q hz127q => ?_)
                      refine aw_callV (as := [aR 5, aI z127q]) (k := 0) (stk := []) cx dX6_sparedBits_128 ml_X6_178 mv_X6_clearedBits rfl (lb_0 tl) (by decide) rfl rfl (Nat.le_of_ble_eq_true rfl) (ct_X6_clearedBits tl N95q 5 _ (Or.inl rfl) (by have q := off2_in (m := M 18 3) (a := x3q) (b := x4q) hse (by omega) (by omega); rw [hz127q, hz126q, hz114q, hz109q, hz113q, hz4q]; omega)) (fun rr128q M_128q hp128q => ?_)
                      obtain ⟨z128q, rfl, hfrM_128, hcbM_128, hxrM_128, hctM_128, hrnM_128, hkkM_128, htlM_128⟩ := hp128q
                      refine aw_eq (stk2 := [aI z128q]) ?_ rfl rfl rfl rfl
                      have hzb : z127q = bAnd (bShl 1 (M 18 3) - 1) (bXor (bOr (bShl 1 x3q) (bShl 1 x4q)) (-1)) := by rw [hz127q, hz126q, hz114q, hz109q, hz113q, hz4q]
                      rw [hzb] at hcbM_128 hrnM_128
                      have hfe : FGe (fgH N95q 5 (bAnd (bShl 1 (M 18 3) - 1) (bXor (bOr (bShl 1 x3q) (bShl 1 x4q)) (-1)))) (setK (fgT M) (up1 (up1 (M 19) x3q.toNat (-1)) x4q.toNat (-1))) := held_f (fun a ha => by simp only [List.mem_cons, List.not_mem_nil, or_false] at ha; rcases ha with rfl | rfl | rfl | rfl | rfl | rfl | rfl | rfl | rfl <;> exact hf _ (by decide)) (fun e he => by exact KEF_off2 hse (by omega) (by omega) he)
                      have hN7 : ∀ j, 0 ≤ N95q 6 j := fun j => by rw [g6]; exact hNN j
                      rw [hqg, fCB_cg hfe QGe.rf hN7 (show (M 15 2).toNat ≤ 8 by omega) hrnM_128] at hcbM_128
                      have hp2q : z128q = z18q ↔ sp2 (fgT M) (qgT M) x3q.toNat x4q.toNat := by unfold sp2 ALC; rw [hcbM_128, hev]; exact Iff.rfl
                      refine aw_iload_n cx dX6_sparedBits_131 rfl 3 rfl ?_
                      refine aw_icmp_ne (tgt := 138) cx dX6_sparedBits_132 (by decide) (fun c132q => ?_) (fun c132q => ?_)
                      · refine aw_iinc cx dX6_sparedBits_138 5 rfl (by decide) (by omega) (fun z138q hz138q => ?_)
                        refine aw_loc (loc2 := [(4, aI z138q), (5, aI z114q), (0, aR 0), (1, aI z4q), (2, aI z18q), (3, aI x3q)]) rfl ?_
                        refine aw_goto (tgt := 95) cx dX6_sparedBits_141 (by decide) ?_
                        refine aw_sub [2, 3, 4, 5, 0] rfl ?_
                        refine ih95q _ _  ?i_h2 ?i_hf ?i_hc ?i_m
                        case i_h2 =>
                          omega
                        case i_hf =>
                          exact hf.tr hfrM_128 (by decide)
                        case i_hc =>
                          intro j h5q h6q; by_cases e : j = x4q.toNat
                          · rw [e]; exact fun q => by have := hp2q.mpr q; omega
                          · exact hc j h5q (by omega)
                        case i_m =>
                          omega
                      · refine aw_iload cx dX6_sparedBits_135 0 rfl ?_
                        refine aw_iret cx rt dX6_sparedBits_137 ?_
                        exact ⟨z114q, rfl, hf.tr hfrM_128 (by decide), 2, x3q, x4q, Or.inr ⟨fun q => by have := hp0q.mpr q; omega, Or.inr ⟨ha2, Or.inl ⟨x3q.toNat, x4q.toNat, by omega, show x4q.toNat < (M 18 3).toNat by omega, hp2q.mp (by omega), fun i j h5q h6q h7q => h7q.elim (fun h8q => hb i h8q j h5q h6q) (fun h8q => by rw [h8q.1]; exact hc j (by omega) h8q.2), rfl, by omega, by omega⟩⟩⟩, Or.inr (Or.inr (Or.inl ⟨rfl, by rw [hz114q, hz109q, hz113q]⟩))⟩
                refine aw_sub [1, 2, 3, 4, 0] rfl ?_
                refine lp95q _ _ _  ?i_h2 ?i_hf ?i_hc (Nat.lt_succ_self _)
                case i_h2 =>
                  omega
                case i_hf =>
                  exact hf
                case i_hc =>
                  exact fun j h5q h6q => by omega
          refine aw_sub [1, 2, 3, 0] rfl ?_
          refine lp79q _ _ _  ?i_h1 ?i_hf ?i_hb (Nat.lt_succ_self _)
          case i_h1 =>
            omega
          case i_hf =>
            exact hf
          case i_hb =>
            exact all_0
        · refine aw_aload_n cx dX6_sparedBits_48 rfl 0 rfl ?_
          refine aw_aload_n cx dX6_sparedBits_49 rfl 0 rfl ?_
          refine aw_getR (q := 5) cx dX6_sparedBits_50 fl_X6_24 (lb_0 tl) rfl rfl ?_
          refine aw_iload_n cx dX6_sparedBits_53 rfl 1 rfl ?_
          refine aw_iconst (n := 1) cx dX6_sparedBits_54 (by decide) ?_
          refine aw_iload_n cx dX6_sparedBits_55 rfl 3 rfl ?_
          refine aw_ishl cx dX6_sparedBits_56 (fun z56q hz56q => ?_)
          refine aw_iconst (n := (-1)) cx dX6_sparedBits_57 (by decide) ?_
          refine aw_ixor cx dX6_sparedBits_58 (fun z58q hz58q => ?_)
          refine aw_iand cx dX6_sparedBits_59 (fun z59q hz59q => ?_)
          refine aw_callV (as := [aR 5, aI z59q]) (k := 0) (stk := []) cx dX6_sparedBits_60 ml_X6_178 mv_X6_clearedBits rfl (lb_0 tl) (by decide) rfl rfl (Nat.le_of_ble_eq_true rfl) (ct_X6_clearedBits tl N37q 5 _ (Or.inl rfl) (by have q := off_in (m := M 18 3) (a := x3q) hse (by omega); rw [hz59q, hz58q, hz56q, hz4q]; omega)) (fun rr60q M_60q hp60q => ?_)
          obtain ⟨z60q, rfl, hfrM_60, hcbM_60, hxrM_60, hctM_60, hrnM_60, hkkM_60, htlM_60⟩ := hp60q
          refine aw_eq (stk2 := [aI z60q]) ?_ rfl rfl rfl rfl
          have hzb : z59q = bAnd (bShl 1 (M 18 3) - 1) (bXor (bShl 1 x3q) (-1)) := by rw [hz59q, hz58q, hz56q, hz4q]
          rw [hzb] at hcbM_60 hrnM_60
          have hfe : FGe (fgH N37q 5 (bAnd (bShl 1 (M 18 3) - 1) (bXor (bShl 1 x3q) (-1)))) (setK (fgT M) (up1 (M 19) x3q.toNat (-1))) := held_f (fun a ha => by simp only [List.mem_cons, List.not_mem_nil, or_false] at ha; rcases ha with rfl | rfl | rfl | rfl | rfl | rfl | rfl | rfl | rfl <;> exact hf _ (by decide)) (fun e he => by exact KEF_off hse (by omega) he)
          have hN7 : ∀ j, 0 ≤ N37q 6 j := fun j => by rw [g6]; exact hNN j
          rw [hqg, fCB_cg hfe QGe.rf hN7 (show (M 15 2).toNat ≤ 8 by omega) hrnM_60] at hcbM_60
          have hp1q : z60q = z18q ↔ sp1 (fgT M) (qgT M) x3q.toNat := by unfold sp1 ALC; rw [hcbM_60, hev]; exact Iff.rfl
          refine aw_iload_n cx dX6_sparedBits_63 rfl 2 rfl ?_
          refine aw_icmp_ne (tgt := 71) cx dX6_sparedBits_64 (by decide) (fun c64q => ?_) (fun c64q => ?_)
          · refine aw_iinc cx dX6_sparedBits_71 3 rfl (by decide) (by omega) (fun z71q hz71q => ?_)
            refine aw_loc (loc2 := [(3, aI z71q), (0, aR 0), (1, aI z4q), (2, aI z18q)]) rfl ?_
            refine aw_goto (tgt := 37) cx dX6_sparedBits_74 (by decide) ?_
            refine aw_sub [1, 2, 3, 0] rfl ?_
            refine ih37q _ _  ?i_h0 ?i_hf ?i_ha ?i_m
            case i_h0 =>
              omega
            case i_hf =>
              exact hf.tr hfrM_60 (by decide)
            case i_ha =>
              rw [hz71q]; exact all_s h0q.1 ha (fun q => by have := hp1q.mpr q; omega)
            case i_m =>
              omega
          · refine aw_iconst (n := 1) cx dX6_sparedBits_67 (by decide) ?_
            refine aw_iload_n cx dX6_sparedBits_68 rfl 3 rfl ?_
            refine aw_ishl cx dX6_sparedBits_69 (fun z69q hz69q => ?_)
            refine aw_iret cx rt dX6_sparedBits_70 ?_
            exact ⟨z69q, rfl, hf.tr hfrM_60 (by decide), 1, x3q, -1, Or.inr ⟨fun q => by have := hp0q.mpr q; omega, Or.inl ⟨x3q.toNat, show x3q.toNat < (M 18 3).toNat by omega, hp1q.mp (by omega), ha, rfl, by omega, rfl⟩⟩, Or.inr (Or.inl ⟨rfl, hz69q⟩)⟩
    refine aw_sub [3, 2, 1, 0] rfl ?_
    refine lp37q _ _ _  ?i_h0 ?i_hf ?i_ha (Nat.lt_succ_self _)
    case i_h0 =>
      omega
    case i_hf =>
      exact hfrM_26.sc
    case i_ha =>
      exact all_0
  · refine aw_iconst (n := 0) cx dX6_sparedBits_33 (by decide) ?_
    refine aw_iret cx rt dX6_sparedBits_34 ?_
    exact ⟨0, rfl, hfrM_26.sc, 0, -1, -1, Or.inl ⟨hp0q.mp (by omega), rfl, rfl, rfl⟩, Or.inl ⟨rfl, rfl⟩⟩
