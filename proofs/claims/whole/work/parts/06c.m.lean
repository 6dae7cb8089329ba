set_option maxHeartbeats 4000000 in
set_option maxRecDepth 100000 in
theorem ct_X5_fits_a (tl : List CD) (M : Mem) (p b : Int) : Ct 0 mX5_fits (LB ++ tl) [aR 1, aI p, aI b] M (fun r M1 => M = M1 ∧ r = some (aI (b2 (FIT 5 p b)))) := by
  refine Ct.of (own := RX5) rfl (by decide +kernel) (Nat.le_of_ble_eq_true rfl) (fun X cx rt => ?_)
  refine aw_eq (loc2 := [(0, aR 1), (1, aI p), (2, aI b)]) ?_ rfl rfl rfl rfl
  refine aw_rngL 1 rfl (fun rl_p rh_p => ?_)
  refine aw_rngL 2 rfl (fun rl_b rh_b => ?_)
  refine aw_iload_n cx dX5_fits_0 rfl 1 rfl ?_
  refine aw_aload_n cx dX5_fits_1 rfl 0 rfl ?_
  refine aw_getI cx dX5_fits_2 fl_X5_19 (lb_1 tl) rfl (fun z2q hz2q lo_z2q hi_z2q => ?_)
  refine aw_iconst (n := 1) cx dX5_fits_5 (by decide) ?_
  refine aw_isub cx dX5_fits_6 (by omega) (fun z6q hz6q => ?_)
  refine aw_icmp_ne (tgt := 22) cx dX5_fits_7 (by decide) (fun c7q => ?_) (fun c7q => ?_)
  · refine aw_iload_n cx dX5_fits_22 rfl 1 rfl ?_
    by_cases c23_0q : p = 0
    · refine aw_tabIn (off := 25) (tgt := 48) cx dX5_fits_23 (by omega) (by omega) (by rw [c23_0q]; rfl) (by decide) ?_
      refine aw_iload_n cx dX5_fits_48 rfl 2 rfl ?_
      refine aw_bipush (n := 97) cx dX5_fits_49 (by decide) ?_
      refine aw_icmp_lt (tgt := 64) cx dX5_fits_51 (by decide) (fun c51q => ?_) (fun c51q => ?_)
      · refine aw_iconst (n := 0) cx dX5_fits_64 (by decide) ?_
        refine aw_zret cx rt dX5_fits_65 (by decide) ?_
        exact ⟨rfl, congrArg (fun q => some (aI q)) (b2_0 (by unfold FIT; omega))⟩
      · refine aw_iload_n cx dX5_fits_54 rfl 2 rfl ?_
        refine aw_bipush (n := 120) cx dX5_fits_55 (by decide) ?_
        refine aw_icmp_gt (tgt := 64) cx dX5_fits_57 (by decide) (fun c57q => ?_) (fun c57q => ?_)
        · refine aw_iconst (n := 0) cx dX5_fits_64 (by decide) ?_
          refine aw_zret cx rt dX5_fits_65 (by decide) ?_
          exact ⟨rfl, congrArg (fun q => some (aI q)) (b2_0 (by unfold FIT; omega))⟩
        · refine aw_iconst (n := 1) cx dX5_fits_60 (by decide) ?_
          refine aw_goto (tgt := 65) cx dX5_fits_61 (by decide) ?_
          refine aw_zret cx rt dX5_fits_65 (by decide) ?_
          exact ⟨rfl, congrArg (fun q => some (aI q)) (b2_1 (by unfold FIT; omega))⟩
    by_cases c23_1q : p = 1
    · refine aw_tabIn (off := 43) (tgt := 66) cx dX5_fits_23 (by omega) (by omega) (by rw [c23_1q]; rfl) (by decide) ?_
      refine aw_iload_n cx dX5_fits_66 rfl 2 rfl ?_
      refine aw_bipush (n := 48) cx dX5_fits_67 (by decide) ?_
      refine aw_icmp_lt (tgt := 82) cx dX5_fits_69 (by decide) (fun c69q => ?_) (fun c69q => ?_)
      · refine aw_iconst (n := 0) cx dX5_fits_82 (by decide) ?_
        refine aw_zret cx rt dX5_fits_83 (by decide) ?_
        exact ⟨rfl, congrArg (fun q => some (aI q)) (b2_0 (by unfold FIT; omega))⟩
      · refine aw_iload_n cx dX5_fits_72 rfl 2 rfl ?_
        refine aw_bipush (n := 55) cx dX5_fits_73 (by decide) ?_
        refine aw_icmp_gt (tgt := 82) cx dX5_fits_75 (by decide) (fun c75q => ?_) (fun c75q => ?_)
        · refine aw_iconst (n := 0) cx dX5_fits_82 (by decide) ?_
          refine aw_zret cx rt dX5_fits_83 (by decide) ?_
          exact ⟨rfl, congrArg (fun q => some (aI q)) (b2_0 (by unfold FIT; omega))⟩
        · refine aw_iconst (n := 1) cx dX5_fits_78 (by decide) ?_
          refine aw_goto (tgt := 83) cx dX5_fits_79 (by decide) ?_
          refine aw_zret cx rt dX5_fits_83 (by decide) ?_
          exact ⟨rfl, congrArg (fun q => some (aI q)) (b2_1 (by unfold FIT; omega))⟩
    by_cases c23_2q : p = 2
    · refine aw_tabIn (off := 61) (tgt := 84) cx dX5_fits_23 (by omega) (by omega) (by rw [c23_2q]; rfl) (by decide) ?_
      refine aw_iload_n cx dX5_fits_84 rfl 2 rfl ?_
      refine aw_bipush (n := 48) cx dX5_fits_85 (by decide) ?_
      refine aw_icmp_lt (tgt := 100) cx dX5_fits_87 (by decide) (fun c87q => ?_) (fun c87q => ?_)
      · refine aw_iconst (n := 0) cx dX5_fits_100 (by decide) ?_
        refine aw_zret cx rt dX5_fits_101 (by decide) ?_
        exact ⟨rfl, congrArg (fun q => some (aI q)) (b2_0 (by unfold FIT; omega))⟩
      · refine aw_iload_n cx dX5_fits_90 rfl 2 rfl ?_
        refine aw_bipush (n := 57) cx dX5_fits_91 (by decide) ?_
        refine aw_icmp_gt (tgt := 100) cx dX5_fits_93 (by decide) (fun c93q => ?_) (fun c93q => ?_)
        · refine aw_iconst (n := 0) cx dX5_fits_100 (by decide) ?_
          refine aw_zret cx rt dX5_fits_101 (by decide) ?_
          exact ⟨rfl, congrArg (fun q => some (aI q)) (b2_0 (by unfold FIT; omega))⟩
        · refine aw_iconst (n := 1) cx dX5_fits_96 (by decide) ?_
          refine aw_goto (tgt := 101) cx dX5_fits_97 (by decide) ?_
          refine aw_zret cx rt dX5_fits_101 (by decide) ?_
          exact ⟨rfl, congrArg (fun q => some (aI q)) (b2_1 (by unfold FIT; omega))⟩
    refine aw_tabOut (tgt := 102) cx dX5_fits_23 (by omega) (by decide) ?_
    refine aw_iload_n cx dX5_fits_102 rfl 2 rfl ?_
    refine aw_bipush (n := 115) cx dX5_fits_103 (by decide) ?_
    refine aw_icmp_eq (tgt := 120) cx dX5_fits_105 (by decide) (fun c105q => ?_) (fun c105q => ?_)
    · refine aw_iconst (n := 1) cx dX5_fits_120 (by decide) ?_
      refine aw_goto (tgt := 125) cx dX5_fits_121 (by decide) ?_
      refine aw_zret cx rt dX5_fits_125 (by decide) ?_
      exact ⟨rfl, congrArg (fun q => some (aI q)) (b2_1 (by unfold FIT; omega))⟩
    · refine aw_iload_n cx dX5_fits_108 rfl 2 rfl ?_
      refine aw_bipush (n := 100) cx dX5_fits_109 (by decide) ?_
      refine aw_icmp_eq (tgt := 120) cx dX5_fits_111 (by decide) (fun c111q => ?_) (fun c111q => ?_)
      · refine aw_iconst (n := 1) cx dX5_fits_120 (by decide) ?_
        refine aw_goto (tgt := 125) cx dX5_fits_121 (by decide) ?_
        refine aw_zret cx rt dX5_fits_125 (by decide) ?_
        exact ⟨rfl, congrArg (fun q => some (aI q)) (b2_1 (by unfold FIT; omega))⟩
      · refine aw_iload_n cx dX5_fits_114 rfl 2 rfl ?_
        refine aw_bipush (n := 107) cx dX5_fits_115 (by decide) ?_
        refine aw_icmp_ne (tgt := 124) cx dX5_fits_117 (by decide) (fun c117q => ?_) (fun c117q => ?_)
        · refine aw_iconst (n := 0) cx dX5_fits_124 (by decide) ?_
          refine aw_zret cx rt dX5_fits_125 (by decide) ?_
          exact ⟨rfl, congrArg (fun q => some (aI q)) (b2_0 (by unfold FIT; omega))⟩
        · refine aw_iconst (n := 1) cx dX5_fits_120 (by decide) ?_
          refine aw_goto (tgt := 125) cx dX5_fits_121 (by decide) ?_
          refine aw_zret cx rt dX5_fits_125 (by decide) ?_
          exact ⟨rfl, congrArg (fun q => some (aI q)) (b2_1 (by unfold FIT; omega))⟩
  · refine aw_iload_n cx dX5_fits_10 rfl 2 rfl ?_
    refine aw_bipush (n := 59) cx dX5_fits_11 (by decide) ?_
    refine aw_icmp_ne (tgt := 20) cx dX5_fits_13 (by decide) (fun c13q => ?_) (fun c13q => ?_)
    · refine aw_iconst (n := 0) cx dX5_fits_20 (by decide) ?_
      refine aw_zret cx rt dX5_fits_21 (by decide) ?_
      exact ⟨rfl, congrArg (fun q => some (aI q)) (b2_0 (by unfold FIT; omega))⟩
    · refine aw_iconst (n := 1) cx dX5_fits_16 (by decide) ?_
      refine aw_goto (tgt := 21) cx dX5_fits_17 (by decide) ?_
      refine aw_zret cx rt dX5_fits_21 (by decide) ?_
      exact ⟨rfl, congrArg (fun q => some (aI q)) (b2_1 (by unfold FIT; omega))⟩
set_option maxHeartbeats 4000000 in
set_option maxRecDepth 100000 in
theorem ct_X5_faultPlace_a (tl : List CD) (M : Mem)  : Ct 1 mX5_faultPlace (LB ++ tl) [aR 1] M (fun r M1 => M = M1 ∧ ∃ x, r = some (aI x) ∧ FLT 5 (M 1 2).toNat (M 2) x) := by
  refine Ct.of (own := RX5) rfl (by decide +kernel) (Nat.le_of_ble_eq_true rfl) (fun X cx rt => ?_)
  refine aw_eq (loc2 := [(0, aR 1)]) ?_ rfl rfl rfl rfl
  refine aw_ok (fun om => ?_)
  have hsz : 0 ≤ M 1 2 ∧ M 1 2 ≤ 59 := okF om (lb_1 tl) (j := 2) rfl (show (0 : Nat) ≠ 1 by decide)
  refine aw_iconst (n := 0) cx dX5_faultPlace_0 (by decide) ?_
  refine aw_istore_n (loc2 := [(1, aI 0), (0, aR 1)]) cx dX5_faultPlace_1 rfl (by decide) rfl ?_
  refine aw_iconst (n := 0) cx dX5_faultPlace_2 (by decide) ?_
  refine aw_istore_n (loc2 := [(2, aI 0), (1, aI 0), (0, aR 1)]) cx dX5_faultPlace_3 rfl (by decide) rfl ?_
  have lp4q : ∀ (fu : Nat) (x1q : Int) (x2q : Int), (0 ≤ x2q ∧ x2q ≤ M 1 2) → (x1q = x2q % 5) → (∀ a, a < x2q.toNat → FITa 5 (M 2) a) → ((M 1 2 - x2q).toNat) < fu → AW X (LB ++ tl) 3 4 [(0, aR 1), (1, aI x1q), (2, aI x2q)] [] M := by
    intro fu
    induction fu with
    | zero =>
      intro x1q x2q h0q h1q ha hm
      exact absurd hm (Nat.not_lt_zero _)
    | succ fu ih4q =>
      intro x1q x2q h0q h1q ha hm
      refine aw_iload_n cx dX5_faultPlace_4 rfl 2 rfl ?_
      refine aw_aload_n cx dX5_faultPlace_5 rfl 0 rfl ?_
      refine aw_getI cx dX5_faultPlace_6 fl_X5_9 (lb_1 tl) rfl (fun z6q hz6q lo_z6q hi_z6q => ?_)
      refine aw_icmp_ge (tgt := 52) cx dX5_faultPlace_9 (by decide) (fun c9q => ?_) (fun c9q => ?_)
      · refine aw_aload_n cx dX5_faultPlace_52 rfl 0 rfl ?_
        refine aw_getI cx dX5_faultPlace_53 fl_X5_9 (lb_1 tl) rfl (fun z53q hz53q lo_z53q hi_z53q => ?_)
        refine aw_if_eq (tgt := 69) cx dX5_faultPlace_56 (by decide) (fun c56q => ?_) (fun c56q => ?_)
        · refine aw_iconst (n := (-1)) cx dX5_faultPlace_69 (by decide) ?_
          refine aw_goto (tgt := 77) cx dX5_faultPlace_70 (by decide) ?_
          refine aw_iret cx rt dX5_faultPlace_77 ?_
          exact ⟨rfl, -1, rfl, Or.inr ⟨fun a h => ha a (by omega), Or.inl ⟨by omega, rfl⟩⟩⟩
        · refine aw_iload_n cx dX5_faultPlace_59 rfl 1 rfl ?_
          refine aw_aload_n cx dX5_faultPlace_60 rfl 0 rfl ?_
          refine aw_getI cx dX5_faultPlace_61 fl_X5_19 (lb_1 tl) rfl (fun z61q hz61q lo_z61q hi_z61q => ?_)
          refine aw_iconst (n := 1) cx dX5_faultPlace_64 (by decide) ?_
          refine aw_isub cx dX5_faultPlace_65 (by omega) (fun z65q hz65q => ?_)
          refine aw_icmp_ne (tgt := 73) cx dX5_faultPlace_66 (by decide) (fun c66q => ?_) (fun c66q => ?_)
          · refine aw_aload_n cx dX5_faultPlace_73 rfl 0 rfl ?_
            refine aw_getI cx dX5_faultPlace_74 fl_X5_9 (lb_1 tl) rfl (fun z74q hz74q lo_z74q hi_z74q => ?_)
            refine aw_iret cx rt dX5_faultPlace_77 ?_
            exact ⟨rfl, z74q, rfl, Or.inr ⟨fun a h => ha a (by omega), Or.inr ⟨by omega, by omega⟩⟩⟩
          · refine aw_iconst (n := (-1)) cx dX5_faultPlace_69 (by decide) ?_
            refine aw_goto (tgt := 77) cx dX5_faultPlace_70 (by decide) ?_
            refine aw_iret cx rt dX5_faultPlace_77 ?_
            exact ⟨rfl, -1, rfl, Or.inr ⟨fun a h => ha a (by omega), Or.inl ⟨by omega, rfl⟩⟩⟩
      · refine aw_aload_n cx dX5_faultPlace_12 rfl 0 rfl ?_
        refine aw_iload_n cx dX5_faultPlace_13 rfl 1 rfl ?_
        refine aw_aload_n cx dX5_faultPlace_14 rfl 0 rfl ?_
        refine aw_getR (q := 2) cx dX5_faultPlace_15 fl_X5_15 (lb_1 tl) rfl rfl ?_
        refine aw_iload_n cx dX5_faultPlace_18 rfl 2 rfl ?_
        refine aw_iald cx dX5_faultPlace_19 (lb_2 tl) (⟨by omega, by omega⟩) (fun z19q hz19q lo_z19q hi_z19q => ?_)
        refine aw_callV (as := [aI x1q, aI z19q]) (k := 1) (stk := []) cx dX5_faultPlace_20 ml_X5_22 mv_X5_fits rfl (lb_1 tl) (by decide) rfl rfl (Nat.le_of_ble_eq_true rfl) (ct_X5_fits_a tl M _ _ ) (fun rr20q M_20q hp20q => ?_)
        obtain ⟨rfl, rfl⟩ := hp20q
        refine aw_top (stk := []) (fun z20q hz20q => ?_)
        refine aw_if_ne (tgt := 28) cx dX5_faultPlace_23 (by decide) (fun c23q => ?_) (fun c23q => ?_)
        · refine aw_iload_n cx dX5_faultPlace_28 rfl 1 rfl ?_
          refine aw_iconst (n := 1) cx dX5_faultPlace_29 (by decide) ?_
          refine aw_iadd cx dX5_faultPlace_30 (by omega) (fun z30q hz30q => ?_)
          refine aw_aload_n cx dX5_faultPlace_31 rfl 0 rfl ?_
          refine aw_getI cx dX5_faultPlace_32 fl_X5_19 (lb_1 tl) rfl (fun z32q hz32q lo_z32q hi_z32q => ?_)
          refine aw_icmp_ne (tgt := 42) cx dX5_faultPlace_35 (by decide) (fun c35q => ?_) (fun c35q => ?_)
          · refine aw_iload_n cx dX5_faultPlace_42 rfl 1 rfl ?_
            refine aw_iconst (n := 1) cx dX5_faultPlace_43 (by decide) ?_
            refine aw_iadd cx dX5_faultPlace_44 (by omega) (fun z44q hz44q => ?_)
            refine aw_istore_n (loc2 := [(1, aI z44q), (0, aR 1), (2, aI x2q)]) cx dX5_faultPlace_45 rfl (by decide) rfl ?_
            refine aw_iinc cx dX5_faultPlace_46 2 rfl (by decide) (by omega) (fun z46q hz46q => ?_)
            refine aw_loc (loc2 := [(2, aI z46q), (1, aI z44q), (0, aR 1)]) rfl ?_
            refine aw_goto (tgt := 4) cx dX5_faultPlace_49 (by decide) ?_
            refine aw_sub [2, 1, 0] rfl ?_
            refine ih4q _ _  ?i_h0 ?i_h1 ?i_ha ?i_m
            case i_h0 =>
              omega
            case i_h1 =>
              omega
            case i_ha =>
              rw [hz46q]; exact all_s h0q.1 ha (by have q := mt b2_f (show ¬ b2 (FIT 5 x1q z19q) = 0 by omega); unfold FITa; rw [← hz19q, show ((x2q.toNat % 5 : Nat) : Int) = x1q by omega]; exact Decidable.byContradiction q)
            case i_m =>
              omega
          · refine aw_iconst (n := 0) cx dX5_faultPlace_38 (by decide) ?_
            refine aw_goto (tgt := 45) cx dX5_faultPlace_39 (by decide) ?_
            refine aw_istore_n (loc2 := [(1, aI 0), (0, aR 1), (2, aI x2q)]) cx dX5_faultPlace_45 rfl (by decide) rfl ?_
            refine aw_iinc cx dX5_faultPlace_46 2 rfl (by decide) (by omega) (fun z46q hz46q => ?_)
            refine aw_loc (loc2 := [(2, aI z46q), (1, aI 0), (0, aR 1)]) rfl ?_
            refine aw_goto (tgt := 4) cx dX5_faultPlace_49 (by decide) ?_
            refine aw_sub [2, 1, 0] rfl ?_
            refine ih4q _ _  ?i_h0 ?i_h1 ?i_ha ?i_m
            case i_h0 =>
              omega
            case i_h1 =>
              omega
            case i_ha =>
              rw [hz46q]; exact all_s h0q.1 ha (by have q := mt b2_f (show ¬ b2 (FIT 5 x1q z19q) = 0 by omega); unfold FITa; rw [← hz19q, show ((x2q.toNat % 5 : Nat) : Int) = x1q by omega]; exact Decidable.byContradiction q)
            case i_m =>
              omega
        · refine aw_iload_n cx dX5_faultPlace_26 rfl 2 rfl ?_
          refine aw_iret cx rt dX5_faultPlace_27 ?_
          exact ⟨rfl, x2q, rfl, Or.inl ⟨x2q.toNat, by omega, by omega, by unfold FITa; rw [← hz19q, show ((x2q.toNat % 5 : Nat) : Int) = x1q by omega]; exact (b2_e0.mp (show b2 (FIT 5 x1q z19q) = 0 by omega) : ¬ FIT 5 x1q z19q), ha⟩⟩
  refine aw_sub [2, 1, 0] rfl ?_
  refine lp4q _ _ _  ?i_h0 ?i_h1 ?i_ha (Nat.lt_succ_self _)
  case i_h0 =>
    omega
  case i_h1 =>
    omega
  case i_ha =>
    exact all_0
set_option maxHeartbeats 4000000 in
set_option maxRecDepth 100000 in
theorem ct_X5_hasFault_a (tl : List CD) (M : Mem)  : Ct 2 mX5_hasFault (LB ++ tl) [aR 1] M (fun r M1 => M = M1 ∧ ∃ x, r = some (aI x) ∧ (x = 0 ↔ NF 5 (M 1 2).toNat (M 2))) := by
  refine Ct.of (own := RX5) rfl (by decide +kernel) (Nat.le_of_ble_eq_true rfl) (fun X cx rt => ?_)
  refine aw_eq (loc2 := [(0, aR 1)]) ?_ rfl rfl rfl rfl
  refine aw_aload_n cx dX5_hasFault_0 rfl 0 rfl ?_
  refine aw_callV (as := []) (k := 1) (stk := []) cx dX5_hasFault_1 ml_X5_26 mv_X5_faultPlace rfl (lb_1 tl) (by decide) rfl rfl (Nat.le_of_ble_eq_true rfl) (ct_X5_faultPlace_a tl M  ) (fun rr1q M_1q hp1q => ?_)
  obtain ⟨rfl, z1q, rfl, hflz1⟩ := hp1q
  refine aw_eq (stk2 := [aI z1q]) ?_ rfl rfl rfl rfl
  refine aw_iconst (n := (-1)) cx dX5_hasFault_4 (by decide) ?_
  refine aw_icmp_eq (tgt := 12) cx dX5_hasFault_5 (by decide) (fun c5q => ?_) (fun c5q => ?_)
  · refine aw_iconst (n := 0) cx dX5_hasFault_12 (by decide) ?_
    refine aw_zret cx rt dX5_hasFault_13 (by decide) ?_
    exact ⟨rfl, 0, rfl, ⟨fun _ => (FLT_nf hflz1).mp c5q, fun _ => rfl⟩⟩
  · refine aw_iconst (n := 1) cx dX5_hasFault_8 (by decide) ?_
    refine aw_goto (tgt := 13) cx dX5_hasFault_9 (by decide) ?_
    refine aw_zret cx rt dX5_hasFault_13 (by decide) ?_
    exact ⟨rfl, 1, rfl, ⟨fun q => absurd q (by decide), fun q => absurd ((FLT_nf hflz1).mpr q) c5q⟩⟩
set_option maxHeartbeats 4000000 in
set_option maxRecDepth 100000 in
theorem ct_X5_fits_c (tl : List CD) (M : Mem) (p b : Int) : Ct 0 mX5_fits (LB ++ tl) [aR 3, aI p, aI b] M (fun r M1 => M = M1 ∧ r = some (aI (b2 (FIT 3 p b)))) := by
  refine Ct.of (own := RX5) rfl (by decide +kernel) (Nat.le_of_ble_eq_true rfl) (fun X cx rt => ?_)
  refine aw_eq (loc2 := [(0, aR 3), (1, aI p), (2, aI b)]) ?_ rfl rfl rfl rfl
  refine aw_rngL 1 rfl (fun rl_p rh_p => ?_)
  refine aw_rngL 2 rfl (fun rl_b rh_b => ?_)
  refine aw_iload_n cx dX5_fits_0 rfl 1 rfl ?_
  refine aw_aload_n cx dX5_fits_1 rfl 0 rfl ?_
  refine aw_getI cx dX5_fits_2 fl_X5_19 (lb_3 tl) rfl (fun z2q hz2q lo_z2q hi_z2q => ?_)
  refine aw_iconst (n := 1) cx dX5_fits_5 (by decide) ?_
  refine aw_isub cx dX5_fits_6 (by omega) (fun z6q hz6q => ?_)
  refine aw_icmp_ne (tgt := 22) cx dX5_fits_7 (by decide) (fun c7q => ?_) (fun c7q => ?_)
  · refine aw_iload_n cx dX5_fits_22 rfl 1 rfl ?_
    by_cases c23_0q : p = 0
    · refine aw_tabIn (off := 25) (tgt := 48) cx dX5_fits_23 (by omega) (by omega) (by rw [c23_0q]; rfl) (by decide) ?_
      refine aw_iload_n cx dX5_fits_48 rfl 2 rfl ?_
      refine aw_bipush (n := 97) cx dX5_fits_49 (by decide) ?_
      refine aw_icmp_lt (tgt := 64) cx dX5_fits_51 (by decide) (fun c51q => ?_) (fun c51q => ?_)
      · refine aw_iconst (n := 0) cx dX5_fits_64 (by decide) ?_
        refine aw_zret cx rt dX5_fits_65 (by decide) ?_
        exact ⟨rfl, congrArg (fun q => some (aI q)) (b2_0 (by unfold FIT; omega))⟩
      · refine aw_iload_n cx dX5_fits_54 rfl 2 rfl ?_
        refine aw_bipush (n := 120) cx dX5_fits_55 (by decide) ?_
        refine aw_icmp_gt (tgt := 64) cx dX5_fits_57 (by decide) (fun c57q => ?_) (fun c57q => ?_)
        · refine aw_iconst (n := 0) cx dX5_fits_64 (by decide) ?_
          refine aw_zret cx rt dX5_fits_65 (by decide) ?_
          exact ⟨rfl, congrArg (fun q => some (aI q)) (b2_0 (by unfold FIT; omega))⟩
        · refine aw_iconst (n := 1) cx dX5_fits_60 (by decide) ?_
          refine aw_goto (tgt := 65) cx dX5_fits_61 (by decide) ?_
          refine aw_zret cx rt dX5_fits_65 (by decide) ?_
          exact ⟨rfl, congrArg (fun q => some (aI q)) (b2_1 (by unfold FIT; omega))⟩
    by_cases c23_1q : p = 1
    · refine aw_tabIn (off := 43) (tgt := 66) cx dX5_fits_23 (by omega) (by omega) (by rw [c23_1q]; rfl) (by decide) ?_
      refine aw_iload_n cx dX5_fits_66 rfl 2 rfl ?_
      refine aw_bipush (n := 48) cx dX5_fits_67 (by decide) ?_
      refine aw_icmp_lt (tgt := 82) cx dX5_fits_69 (by decide) (fun c69q => ?_) (fun c69q => ?_)
      · refine aw_iconst (n := 0) cx dX5_fits_82 (by decide) ?_
        refine aw_zret cx rt dX5_fits_83 (by decide) ?_
        exact ⟨rfl, congrArg (fun q => some (aI q)) (b2_0 (by unfold FIT; omega))⟩
      · refine aw_iload_n cx dX5_fits_72 rfl 2 rfl ?_
        refine aw_bipush (n := 55) cx dX5_fits_73 (by decide) ?_
        refine aw_icmp_gt (tgt := 82) cx dX5_fits_75 (by decide) (fun c75q => ?_) (fun c75q => ?_)
        · refine aw_iconst (n := 0) cx dX5_fits_82 (by decide) ?_
          refine aw_zret cx rt dX5_fits_83 (by decide) ?_
          exact ⟨rfl, congrArg (fun q => some (aI q)) (b2_0 (by unfold FIT; omega))⟩
        · refine aw_iconst (n := 1) cx dX5_fits_78 (by decide) ?_
          refine aw_goto (tgt := 83) cx dX5_fits_79 (by decide) ?_
          refine aw_zret cx rt dX5_fits_83 (by decide) ?_
          exact ⟨rfl, congrArg (fun q => some (aI q)) (b2_1 (by unfold FIT; omega))⟩
    by_cases c23_2q : p = 2
    · refine aw_tabIn (off := 61) (tgt := 84) cx dX5_fits_23 (by omega) (by omega) (by rw [c23_2q]; rfl) (by decide) ?_
      refine aw_iload_n cx dX5_fits_84 rfl 2 rfl ?_
      refine aw_bipush (n := 48) cx dX5_fits_85 (by decide) ?_
      refine aw_icmp_lt (tgt := 100) cx dX5_fits_87 (by decide) (fun c87q => ?_) (fun c87q => ?_)
      · refine aw_iconst (n := 0) cx dX5_fits_100 (by decide) ?_
        refine aw_zret cx rt dX5_fits_101 (by decide) ?_
        exact ⟨rfl, congrArg (fun q => some (aI q)) (b2_0 (by unfold FIT; omega))⟩
      · refine aw_iload_n cx dX5_fits_90 rfl 2 rfl ?_
        refine aw_bipush (n := 57) cx dX5_fits_91 (by decide) ?_
        refine aw_icmp_gt (tgt := 100) cx dX5_fits_93 (by decide) (fun c93q => ?_) (fun c93q => ?_)
        · refine aw_iconst (n := 0) cx dX5_fits_100 (by decide) ?_
          refine aw_zret cx rt dX5_fits_101 (by decide) ?_
          exact ⟨rfl, congrArg (fun q => some (aI q)) (b2_0 (by unfold FIT; omega))⟩
        · refine aw_iconst (n := 1) cx dX5_fits_96 (by decide) ?_
          refine aw_goto (tgt := 101) cx dX5_fits_97 (by decide) ?_
          refine aw_zret cx rt dX5_fits_101 (by decide) ?_
          exact ⟨rfl, congrArg (fun q => some (aI q)) (b2_1 (by unfold FIT; omega))⟩
    refine aw_tabOut (tgt := 102) cx dX5_fits_23 (by omega) (by decide) ?_
    refine aw_iload_n cx dX5_fits_102 rfl 2 rfl ?_
    refine aw_bipush (n := 115) cx dX5_fits_103 (by decide) ?_
    refine aw_icmp_eq (tgt := 120) cx dX5_fits_105 (by decide) (fun c105q => ?_) (fun c105q => ?_)
    · refine aw_iconst (n := 1) cx dX5_fits_120 (by decide) ?_
      refine aw_goto (tgt := 125) cx dX5_fits_121 (by decide) ?_
      refine aw_zret cx rt dX5_fits_125 (by decide) ?_
      exact ⟨rfl, congrArg (fun q => some (aI q)) (b2_1 (by unfold FIT; omega))⟩
    · refine aw_iload_n cx dX5_fits_108 rfl 2 rfl ?_
      refine aw_bipush (n := 100) cx dX5_fits_109 (by decide) ?_
      refine aw_icmp_eq (tgt := 120) cx dX5_fits_111 (by decide) (fun c111q => ?_) (fun c111q => ?_)
      · refine aw_iconst (n := 1) cx dX5_fits_120 (by decide) ?_
        refine aw_goto (tgt := 125) cx dX5_fits_121 (by decide) ?_
        refine aw_zret cx rt dX5_fits_125 (by decide) ?_
        exact ⟨rfl, congrArg (fun q => some (aI q)) (b2_1 (by unfold FIT; omega))⟩
      · refine aw_iload_n cx dX5_fits_114 rfl 2 rfl ?_
        refine aw_bipush (n := 107) cx dX5_fits_115 (by decide) ?_
        refine aw_icmp_ne (tgt := 124) cx dX5_fits_117 (by decide) (fun c117q => ?_) (fun c117q => ?_)
        · refine aw_iconst (n := 0) cx dX5_fits_124 (by decide) ?_
          refine aw_zret cx rt dX5_fits_125 (by decide) ?_
          exact ⟨rfl, congrArg (fun q => some (aI q)) (b2_0 (by unfold FIT; omega))⟩
        · refine aw_iconst (n := 1) cx dX5_fits_120 (by decide) ?_
          refine aw_goto (tgt := 125) cx dX5_fits_121 (by decide) ?_
          refine aw_zret cx rt dX5_fits_125 (by decide) ?_
          exact ⟨rfl, congrArg (fun q => some (aI q)) (b2_1 (by unfold FIT; omega))⟩
  · refine aw_iload_n cx dX5_fits_10 rfl 2 rfl ?_
    refine aw_bipush (n := 59) cx dX5_fits_11 (by decide) ?_
    refine aw_icmp_ne (tgt := 20) cx dX5_fits_13 (by decide) (fun c13q => ?_) (fun c13q => ?_)
    · refine aw_iconst (n := 0) cx dX5_fits_20 (by decide) ?_
      refine aw_zret cx rt dX5_fits_21 (by decide) ?_
      exact ⟨rfl, congrArg (fun q => some (aI q)) (b2_0 (by unfold FIT; omega))⟩
    · refine aw_iconst (n := 1) cx dX5_fits_16 (by decide) ?_
      refine aw_goto (tgt := 21) cx dX5_fits_17 (by decide) ?_
      refine aw_zret cx rt dX5_fits_21 (by decide) ?_
      exact ⟨rfl, congrArg (fun q => some (aI q)) (b2_1 (by unfold FIT; omega))⟩
set_option maxHeartbeats 4000000 in
set_option maxRecDepth 100000 in
theorem ct_X5_faultPlace_c (tl : List CD) (M : Mem)  : Ct 1 mX5_faultPlace (LB ++ tl) [aR 3] M (fun r M1 => M = M1 ∧ ∃ x, r = some (aI x) ∧ FLT 3 (M 3 2).toNat (M 4) x) := by
  refine Ct.of (own := RX5) rfl (by decide +kernel) (Nat.le_of_ble_eq_true rfl) (fun X cx rt => ?_)
  refine aw_eq (loc2 := [(0, aR 3)]) ?_ rfl rfl rfl rfl
  refine aw_ok (fun om => ?_)
  have hsz : 0 ≤ M 3 2 ∧ M 3 2 ≤ 23 := okF om (lb_3 tl) (j := 2) rfl (show (0 : Nat) ≠ 1 by decide)
  refine aw_iconst (n := 0) cx dX5_faultPlace_0 (by decide) ?_
  refine aw_istore_n (loc2 := [(1, aI 0), (0, aR 3)]) cx dX5_faultPlace_1 rfl (by decide) rfl ?_
  refine aw_iconst (n := 0) cx dX5_faultPlace_2 (by decide) ?_
  refine aw_istore_n (loc2 := [(2, aI 0), (1, aI 0), (0, aR 3)]) cx dX5_faultPlace_3 rfl (by decide) rfl ?_
  have lp4q : ∀ (fu : Nat) (x1q : Int) (x2q : Int), (0 ≤ x2q ∧ x2q ≤ M 3 2) → (x1q = x2q % 3) → (∀ a, a < x2q.toNat → FITa 3 (M 4) a) → ((M 3 2 - x2q).toNat) < fu → AW X (LB ++ tl) 3 4 [(0, aR 3), (1, aI x1q), (2, aI x2q)] [] M := by
    intro fu
    induction fu with
    | zero =>
      intro x1q x2q h0q h1q ha hm
      exact absurd hm (Nat.not_lt_zero _)
    | succ fu ih4q =>
      intro x1q x2q h0q h1q ha hm
      refine aw_iload_n cx dX5_faultPlace_4 rfl 2 rfl ?_
      refine aw_aload_n cx dX5_faultPlace_5 rfl 0 rfl ?_
      refine aw_getI cx dX5_faultPlace_6 fl_X5_9 (lb_3 tl) rfl (fun z6q hz6q lo_z6q hi_z6q => ?_)
      refine aw_icmp_ge (tgt := 52) cx dX5_faultPlace_9 (by decide) (fun c9q => ?_) (fun c9q => ?_)
      · refine aw_aload_n cx dX5_faultPlace_52 rfl 0 rfl ?_
        refine aw_getI cx dX5_faultPlace_53 fl_X5_9 (lb_3 tl) rfl (fun z53q hz53q lo_z53q hi_z53q => ?_)
        refine aw_if_eq (tgt := 69) cx dX5_faultPlace_56 (by decide) (fun c56q => ?_) (fun c56q => ?_)
        · refine aw_iconst (n := (-1)) cx dX5_faultPlace_69 (by decide) ?_
          refine aw_goto (tgt := 77) cx dX5_faultPlace_70 (by decide) ?_
          refine aw_iret cx rt dX5_faultPlace_77 ?_
          exact ⟨rfl, -1, rfl, Or.inr ⟨fun a h => ha a (by omega), Or.inl ⟨by omega, rfl⟩⟩⟩
        · refine aw_iload_n cx dX5_faultPlace_59 rfl 1 rfl ?_
          refine aw_aload_n cx dX5_faultPlace_60 rfl 0 rfl ?_
          refine aw_getI cx dX5_faultPlace_61 fl_X5_19 (lb_3 tl) rfl (fun z61q hz61q lo_z61q hi_z61q => ?_)
          refine aw_iconst (n := 1) cx dX5_faultPlace_64 (by decide) ?_
          refine aw_isub cx dX5_faultPlace_65 (by omega) (fun z65q hz65q => ?_)
          refine aw_icmp_ne (tgt := 73) cx dX5_faultPlace_66 (by decide) (fun c66q => ?_) (fun c66q => ?_)
          · refine aw_aload_n cx dX5_faultPlace_73 rfl 0 rfl ?_
            refine aw_getI cx dX5_faultPlace_74 fl_X5_9 (lb_3 tl) rfl (fun z74q hz74q lo_z74q hi_z74q => ?_)
            refine aw_iret cx rt dX5_faultPlace_77 ?_
            exact ⟨rfl, z74q, rfl, Or.inr ⟨fun a h => ha a (by omega), Or.inr ⟨by omega, by omega⟩⟩⟩
          · refine aw_iconst (n := (-1)) cx dX5_faultPlace_69 (by decide) ?_
            refine aw_goto (tgt := 77) cx dX5_faultPlace_70 (by decide) ?_
            refine aw_iret cx rt dX5_faultPlace_77 ?_
            exact ⟨rfl, -1, rfl, Or.inr ⟨fun a h => ha a (by omega), Or.inl ⟨by omega, rfl⟩⟩⟩
      · refine aw_aload_n cx dX5_faultPlace_12 rfl 0 rfl ?_
        refine aw_iload_n cx dX5_faultPlace_13 rfl 1 rfl ?_
        refine aw_aload_n cx dX5_faultPlace_14 rfl 0 rfl ?_
        refine aw_getR (q := 4) cx dX5_faultPlace_15 fl_X5_15 (lb_3 tl) rfl rfl ?_
        refine aw_iload_n cx dX5_faultPlace_18 rfl 2 rfl ?_
        refine aw_iald cx dX5_faultPlace_19 (lb_4 tl) (⟨by omega, by omega⟩) (fun z19q hz19q lo_z19q hi_z19q => ?_)
        refine aw_callV (as := [aI x1q, aI z19q]) (k := 3) (stk := []) cx dX5_faultPlace_20 ml_X5_22 mv_X5_fits rfl (lb_3 tl) (by decide) rfl rfl (Nat.le_of_ble_eq_true rfl) (ct_X5_fits_c tl M _ _ ) (fun rr20q M_20q hp20q => ?_)
        obtain ⟨rfl, rfl⟩ := hp20q
        refine aw_top (stk := []) (fun z20q hz20q => ?_)
        refine aw_if_ne (tgt := 28) cx dX5_faultPlace_23 (by decide) (fun c23q => ?_) (fun c23q => ?_)
        · refine aw_iload_n cx dX5_faultPlace_28 rfl 1 rfl ?_
          refine aw_iconst (n := 1) cx dX5_faultPlace_29 (by decide) ?_
          refine aw_iadd cx dX5_faultPlace_30 (by omega) (fun z30q hz30q => ?_)
          refine aw_aload_n cx dX5_faultPlace_31 rfl 0 rfl ?_
          refine aw_getI cx dX5_faultPlace_32 fl_X5_19 (lb_3 tl) rfl (fun z32q hz32q lo_z32q hi_z32q => ?_)
          refine aw_icmp_ne (tgt := 42) cx dX5_faultPlace_35 (by decide) (fun c35q => ?_) (fun c35q => ?_)
          · refine aw_iload_n cx dX5_faultPlace_42 rfl 1 rfl ?_
            refine aw_iconst (n := 1) cx dX5_faultPlace_43 (by decide) ?_
            refine aw_iadd cx dX5_faultPlace_44 (by omega) (fun z44q hz44q => ?_)
            refine aw_istore_n (loc2 := [(1, aI z44q), (0, aR 3), (2, aI x2q)]) cx dX5_faultPlace_45 rfl (by decide) rfl ?_
            refine aw_iinc cx dX5_faultPlace_46 2 rfl (by decide) (by omega) (fun z46q hz46q => ?_)
            refine aw_loc (loc2 := [(2, aI z46q), (1, aI z44q), (0, aR 3)]) rfl ?_
            refine aw_goto (tgt := 4) cx dX5_faultPlace_49 (by decide) ?_
            refine aw_sub [2, 1, 0] rfl ?_
            refine ih4q _ _  ?i_h0 ?i_h1 ?i_ha ?i_m
            case i_h0 =>
              omega
            case i_h1 =>
              omega
            case i_ha =>
              rw [hz46q]; exact all_s h0q.1 ha (by have q := mt b2_f (show ¬ b2 (FIT 3 x1q z19q) = 0 by omega); unfold FITa; rw [← hz19q, show ((x2q.toNat % 3 : Nat) : Int) = x1q by omega]; exact Decidable.byContradiction q)
            case i_m =>
              omega
          · refine aw_iconst (n := 0) cx dX5_faultPlace_38 (by decide) ?_
            refine aw_goto (tgt := 45) cx dX5_faultPlace_39 (by decide) ?_
            refine aw_istore_n (loc2 := [(1, aI 0), (0, aR 3), (2, aI x2q)]) cx dX5_faultPlace_45 rfl (by decide) rfl ?_
            refine aw_iinc cx dX5_faultPlace_46 2 rfl (by decide) (by omega) (fun z46q hz46q => ?_)
            refine aw_loc (loc2 := [(2, aI z46q), (1, aI 0), (0, aR 3)]) rfl ?_
            refine aw_goto (tgt := 4) cx dX5_faultPlace_49 (by decide) ?_
            refine aw_sub [2, 1, 0] rfl ?_
            refine ih4q _ _  ?i_h0 ?i_h1 ?i_ha ?i_m
            case i_h0 =>
              omega
            case i_h1 =>
              omega
            case i_ha =>
              rw [hz46q]; exact all_s h0q.1 ha (by have q := mt b2_f (show ¬ b2 (FIT 3 x1q z19q) = 0 by omega); unfold FITa; rw [← hz19q, show ((x2q.toNat % 3 : Nat) : Int) = x1q by omega]; exact Decidable.byContradiction q)
            case i_m =>
              omega
        · refine aw_iload_n cx dX5_faultPlace_26 rfl 2 rfl ?_
          refine aw_iret cx rt dX5_faultPlace_27 ?_
          exact ⟨rfl, x2q, rfl, Or.inl ⟨x2q.toNat, by omega, by omega, by unfold FITa; rw [← hz19q, show ((x2q.toNat % 3 : Nat) : Int) = x1q by omega]; exact (b2_e0.mp (show b2 (FIT 3 x1q z19q) = 0 by omega) : ¬ FIT 3 x1q z19q), ha⟩⟩
  refine aw_sub [2, 1, 0] rfl ?_
  refine lp4q _ _ _  ?i_h0 ?i_h1 ?i_ha (Nat.lt_succ_self _)
  case i_h0 =>
    omega
  case i_h1 =>
    omega
  case i_ha =>
    exact all_0
set_option maxHeartbeats 4000000 in
set_option maxRecDepth 100000 in
theorem ct_X5_hasFault_c (tl : List CD) (M : Mem)  : Ct 2 mX5_hasFault (LB ++ tl) [aR 3] M (fun r M1 => M = M1 ∧ ∃ x, r = some (aI x) ∧ (x = 0 ↔ NF 3 (M 3 2).toNat (M 4))) := by
  refine Ct.of (own := RX5) rfl (by decide +kernel) (Nat.le_of_ble_eq_true rfl) (fun X cx rt => ?_)
  refine aw_eq (loc2 := [(0, aR 3)]) ?_ rfl rfl rfl rfl
  refine aw_aload_n cx dX5_hasFault_0 rfl 0 rfl ?_
  refine aw_callV (as := []) (k := 3) (stk := []) cx dX5_hasFault_1 ml_X5_26 mv_X5_faultPlace rfl (lb_3 tl) (by decide) rfl rfl (Nat.le_of_ble_eq_true rfl) (ct_X5_faultPlace_c tl M  ) (fun rr1q M_1q hp1q => ?_)
  obtain ⟨rfl, z1q, rfl, hflz1⟩ := hp1q
  refine aw_eq (stk2 := [aI z1q]) ?_ rfl rfl rfl rfl
  refine aw_iconst (n := (-1)) cx dX5_hasFault_4 (by decide) ?_
  refine aw_icmp_eq (tgt := 12) cx dX5_hasFault_5 (by decide) (fun c5q => ?_) (fun c5q => ?_)
  · refine aw_iconst (n := 0) cx dX5_hasFault_12 (by decide) ?_
    refine aw_zret cx rt dX5_hasFault_13 (by decide) ?_
    exact ⟨rfl, 0, rfl, ⟨fun _ => (FLT_nf hflz1).mp c5q, fun _ => rfl⟩⟩
  · refine aw_iconst (n := 1) cx dX5_hasFault_8 (by decide) ?_
    refine aw_goto (tgt := 13) cx dX5_hasFault_9 (by decide) ?_
    refine aw_zret cx rt dX5_hasFault_13 (by decide) ?_
    exact ⟨rfl, 1, rfl, ⟨fun q => absurd q (by decide), fun q => absurd ((FLT_nf hflz1).mpr q) c5q⟩⟩
set_option maxHeartbeats 4000000 in
set_option maxRecDepth 100000 in
theorem ct_X4_takeFrom (tl : List CD) (M : Mem)  : Ct 3 mX4_takeFrom (LB ++ tl) [aR 5, aR 1] M (fun r M1 => r = none ∧ FR [5, 6, 7, 8, 9] M M1 ∧ TOLD (M 1 2).toNat (M 2) (M1 5 4) (M1 6) (M1 7) (M1 8) (M1 9) ∧ M1 5 5 = M 5 5) := by
  refine Ct.of (own := RX4) rfl (by decide +kernel) (Nat.le_of_ble_eq_true rfl) (fun X cx rt => ?_)
  refine aw_eq (loc2 := [(0, aR 5), (1, aR 1)]) ?_ rfl rfl rfl rfl
  refine aw_ok (fun om => ?_)
  have hn : 0 ≤ M 1 2 ∧ M 1 2 ≤ 59 := okF om (lb_1 tl) (j := 2) rfl (show (0 : Nat) ≠ 1 by decide)
  refine aw_aload_n cx dX4_takeFrom_0 rfl 0 rfl ?_
  refine aw_aload_n cx dX4_takeFrom_1 rfl 1 rfl ?_
  refine aw_callV (as := []) (k := 1) (stk := [aR 5]) cx dX4_takeFrom_2 ml_X4_31 mv_X5_hasFault rfl (lb_1 tl) (by decide) rfl rfl (Nat.le_of_ble_eq_true rfl) (ct_X5_hasFault_a tl M  ) (fun rr2q M_2q hp2q => ?_)
  obtain ⟨rfl, z2q, rfl, hnfz2⟩ := hp2q
  refine aw_eq (stk2 := [aI z2q, aR 5]) ?_ rfl rfl rfl rfl
  refine aw_if_eq (tgt := 12) cx dX4_takeFrom_5 (by decide) (fun c5q => ?_) (fun c5q => ?_)
  · refine aw_bipush (n := 12) cx dX4_takeFrom_12 (by decide) ?_
    refine aw_aload_n cx dX4_takeFrom_14 rfl 1 rfl ?_
    refine aw_getI cx dX4_takeFrom_15 fl_X4_37 (lb_1 tl) rfl (fun z15q hz15q lo_z15q hi_z15q => ?_)
    refine aw_iconst (n := 1) cx dX4_takeFrom_18 (by decide) ?_
    refine aw_iadd cx dX4_takeFrom_19 (by omega) (fun z19q hz19q => ?_)
    refine aw_iconst (n := 5) cx dX4_takeFrom_20 (by decide) ?_
    refine aw_idiv cx dX4_takeFrom_21 (by omega) (by omega) (fun z21q hz21q => ?_)
    refine aw_mmin (stk := [aR 5]) cx dX4_takeFrom_22 ml_X4_38 (by decide) (Nat.le_of_ble_eq_true rfl) (fun z22q hz22q => ?_)
    refine aw_putI cx dX4_takeFrom_25 fl_X4_24 kt_X4 rfl rfl (lb_5 tl) rfl (⟨by omega, by omega⟩) ?_
    obtain ⟨M_25q, hM_25q⟩ : ∃ q, q = up M 5 4 z22q := ⟨_, rfl⟩
    rw [← hM_25q]
    obtain ⟨sz, hsz⟩ : ∃ q, q = M_25q 5 4 := ⟨_, rfl⟩
    have hsz2 := up_eq hM_25q
    refine aw_iconst (n := 0) cx dX4_takeFrom_28 (by decide) ?_
    refine aw_istore_n (loc2 := [(2, aI 0), (0, aR 5), (1, aR 1)]) cx dX4_takeFrom_29 rfl (by decide) rfl ?_
    have lp30q : ∀ (fu : Nat) (x2q : Int) (N30q : Mem), (0 ≤ x2q ∧ x2q ≤ sz) → (FR [5, 6, 7, 8, 9] M N30q) → (N30q 5 4 = sz) → (0 < sz → NF 5 (M 1 2).toNat (M 2) ∧ sz = ((((M 1 2).toNat + 1) / 5 : Nat) : Int)) → (¬ NF 5 (M 1 2).toNat (M 2) → sz = 0) → (NF 5 (M 1 2).toNat (M 2) → sz = ((((M 1 2).toNat + 1) / 5 : Nat) : Int)) → (N30q 5 5 = M 5 5) → (∀ i : Nat, i < x2q.toNat → N30q 6 i = M 2 (5 * i) - 97 ∧ N30q 7 i = M 2 (5 * i + 1) - 48 ∧ N30q 8 i = M 2 (5 * i + 2) - 48 ∧ N30q 9 i = SRT (M 2 (5 * i + 3))) → ((sz - x2q).toNat) < fu → AW X (LB ++ tl) 5 30 [(0, aR 5), (1, aR 1), (2, aI x2q)] [] N30q := by
      intro fu
      induction fu with
      | zero =>
        intro x2q N30q h0q hf hs hq hz hy hl ha hm
        exact absurd hm (Nat.not_lt_zero _)
      | succ fu ih30q =>
        intro x2q N30q h0q hf hs hq hz hy hl ha hm
        have e2q := congrFun (hf 2 (by decide))
        have e1q := congrFun (hf 1 (by decide)) 2
        refine aw_iload_n cx dX4_takeFrom_30 rfl 2 rfl ?_
        refine aw_aload_n cx dX4_takeFrom_31 rfl 0 rfl ?_
        refine aw_getI cx dX4_takeFrom_32 fl_X4_24 (lb_5 tl) rfl (fun z32q hz32q lo_z32q hi_z32q => ?_)
        refine aw_icmp_ge (tgt := 136) cx dX4_takeFrom_35 (by decide) (fun c35q => ?_) (fun c35q => ?_)
        · refine aw_vret cx rt dX4_takeFrom_136 ?_
          exact ⟨rfl, hf, ⟨fun q => by rw [hs]; exact hy q, fun q => by rw [hs]; exact hz q, fun i hi => ha i (by omega)⟩, hl⟩
        · have hf5 := fit5 (hq (by omega)).1.1 (i := x2q.toNat) (by have q5q := (hq (by omega)).2; omega)
          have hj := (hq (by omega)).2
          refine aw_iload_n cx dX4_takeFrom_38 rfl 2 rfl ?_
          refine aw_iconst (n := 5) cx dX4_takeFrom_39 (by decide) ?_
          refine aw_imul cx dX4_takeFrom_40 (by omega) (fun z40q hz40q => ?_)
          refine aw_istore_n (loc2 := [(3, aI z40q), (0, aR 5), (1, aR 1), (2, aI x2q)]) cx dX4_takeFrom_41 rfl (by decide) rfl ?_
          refine aw_aload_n cx dX4_takeFrom_42 rfl 1 rfl ?_
          refine aw_getR (q := 6) cx dX4_takeFrom_43 fl_X4_9 (lb_5 tl) rfl rfl ?_
          refine aw_iload_n cx dX4_takeFrom_46 rfl 3 rfl ?_
          refine aw_aload_n cx dX4_takeFrom_47 rfl 2 rfl ?_
          refine aw_getR (q := 2) cx dX4_takeFrom_48 fl_X4_44 (lb_1 tl) rfl rfl ?_
          refine aw_iload_n cx dX4_takeFrom_51 rfl 0 rfl ?_
          refine aw_iald cx dX4_takeFrom_52 (lb_2 tl) (⟨by omega, by omega⟩) (fun z52q hz52q lo_z52q hi_z52q => ?_)
          have hv52 : z52q = M 2 (5 * x2q.toNat) := by rw [hz52q, show z40q.toNat = 5 * x2q.toNat by omega]; exact e2q _
          refine aw_bipush (n := 97) cx dX4_takeFrom_53 (by decide) ?_
          refine aw_isub cx dX4_takeFrom_55 (by omega) (fun z55q hz55q => ?_)
          refine aw_iast cx dX4_takeFrom_56 (lb_6 tl) (⟨by omega, by omega⟩) (⟨by omega, by omega⟩) ?_
          obtain ⟨M_56q, hM_56q⟩ : ∃ q, q = up N30q 6 (Int.toNat (x2q)) (z55q) := ⟨_, rfl⟩
          rw [← hM_56q]
          refine aw_aload_n cx dX4_takeFrom_57 rfl 1 rfl ?_
          refine aw_getR (q := 7) cx dX4_takeFrom_58 fl_X4_15 (lb_5 tl) rfl rfl ?_
          refine aw_iload_n cx dX4_takeFrom_61 rfl 3 rfl ?_
          refine aw_aload_n cx dX4_takeFrom_62 rfl 2 rfl ?_
          refine aw_getR (q := 2) cx dX4_takeFrom_63 fl_X4_44 (lb_1 tl) rfl rfl ?_
          refine aw_iload_n cx dX4_takeFrom_66 rfl 0 rfl ?_
          refine aw_iconst (n := 1) cx dX4_takeFrom_67 (by decide) ?_
          refine aw_iadd cx dX4_takeFrom_68 (by omega) (fun z68q hz68q => ?_)
          refine aw_iald cx dX4_takeFrom_69 (lb_2 tl) (⟨by omega, by omega⟩) (fun z69q hz69q lo_z69q hi_z69q => ?_)
          have hv69 : z69q = M 2 (5 * x2q.toNat + 1) := by rw [hz69q, show z68q.toNat = 5 * x2q.toNat + 1 by omega]; rw [up_ne hM_56q (by omega)]; exact e2q _
          refine aw_bipush (n := 48) cx dX4_takeFrom_70 (by decide) ?_
          refine aw_isub cx dX4_takeFrom_72 (by omega) (fun z72q hz72q => ?_)
          refine aw_iast cx dX4_takeFrom_73 (lb_7 tl) (⟨by omega, by omega⟩) (⟨by omega, by omega⟩) ?_
          obtain ⟨M_73q, hM_73q⟩ : ∃ q, q = up M_56q 7 (Int.toNat (x2q)) (z72q) := ⟨_, rfl⟩
          rw [← hM_73q]
          refine aw_aload_n cx dX4_takeFrom_74 rfl 1 rfl ?_
          refine aw_getR (q := 8) cx dX4_takeFrom_75 fl_X4_18 (lb_5 tl) rfl rfl ?_
          refine aw_iload_n cx dX4_takeFrom_78 rfl 3 rfl ?_
          refine aw_aload_n cx dX4_takeFrom_79 rfl 2 rfl ?_
          refine aw_getR (q := 2) cx dX4_takeFrom_80 fl_X4_44 (lb_1 tl) rfl rfl ?_
          refine aw_iload_n cx dX4_takeFrom_83 rfl 0 rfl ?_
          refine aw_iconst (n := 2) cx dX4_takeFrom_84 (by decide) ?_
          refine aw_iadd cx dX4_takeFrom_85 (by omega) (fun z85q hz85q => ?_)
          refine aw_iald cx dX4_takeFrom_86 (lb_2 tl) (⟨by omega, by omega⟩) (fun z86q hz86q lo_z86q hi_z86q => ?_)
          have hv86 : z86q = M 2 (5 * x2q.toNat + 2) := by rw [hz86q, show z85q.toNat = 5 * x2q.toNat + 2 by omega]; rw [up_ne hM_73q (by omega), up_ne hM_56q (by omega)]; exact e2q _
          refine aw_bipush (n := 48) cx dX4_takeFrom_87 (by decide) ?_
          refine aw_isub cx dX4_takeFrom_89 (by omega) (fun z89q hz89q => ?_)
          refine aw_iast cx dX4_takeFrom_90 (lb_8 tl) (⟨by omega, by omega⟩) (⟨by omega, by omega⟩) ?_
          obtain ⟨M_90q, hM_90q⟩ : ∃ q, q = up M_73q 8 (Int.toNat (x2q)) (z89q) := ⟨_, rfl⟩
          rw [← hM_90q]
          refine aw_aload_n cx dX4_takeFrom_91 rfl 2 rfl ?_
          refine aw_getR (q := 2) cx dX4_takeFrom_92 fl_X4_44 (lb_1 tl) rfl rfl ?_
          refine aw_iload_n cx dX4_takeFrom_95 rfl 0 rfl ?_
          refine aw_iconst (n := 3) cx dX4_takeFrom_96 (by decide) ?_
          refine aw_iadd cx dX4_takeFrom_97 (by omega) (fun z97q hz97q => ?_)
          refine aw_iald cx dX4_takeFrom_98 (lb_2 tl) (⟨by omega, by omega⟩) (fun z98q hz98q lo_z98q hi_z98q => ?_)
          have hv98 : z98q = M 2 (5 * x2q.toNat + 3) := by rw [hz98q, show z97q.toNat = 5 * x2q.toNat + 3 by omega]; rw [up_ne hM_90q (by omega), up_ne hM_73q (by omega), up_ne hM_56q (by omega)]; exact e2q _
          refine aw_istore (loc2 := [(4, aI z98q), (3, aI z40q), (0, aR 5), (1, aR 1), (2, aI x2q)]) cx dX4_takeFrom_99 (by decide) rfl ?_
          refine aw_aload_n cx dX4_takeFrom_101 rfl 2 rfl ?_
          refine aw_getR (q := 9) cx dX4_takeFrom_102 fl_X4_21 (lb_5 tl) rfl rfl ?_
          refine aw_iload_n cx dX4_takeFrom_105 rfl 4 rfl ?_
          refine aw_iload cx dX4_takeFrom_106 0 rfl ?_
          refine aw_bipush (n := 115) cx dX4_takeFrom_108 (by decide) ?_
          refine aw_icmp_ne (tgt := 117) cx dX4_takeFrom_110 (by decide) (fun c110q => ?_) (fun c110q => ?_)
          · refine aw_iload cx dX4_takeFrom_117 0 rfl ?_
            refine aw_bipush (n := 100) cx dX4_takeFrom_119 (by decide) ?_
            refine aw_icmp_ne (tgt := 128) cx dX4_takeFrom_121 (by decide) (fun c121q => ?_) (fun c121q => ?_)
            · refine aw_iconst (n := 2) cx dX4_takeFrom_128 (by decide) ?_
              refine aw_iast cx dX4_takeFrom_129 (lb_9 tl) (⟨by omega, by omega⟩) (⟨by omega, by omega⟩) ?_
              obtain ⟨M_129q, hM_129q⟩ : ∃ q, q = up M_90q 9 (Int.toNat (x2q)) (2) := ⟨_, rfl⟩
              rw [← hM_129q]
              refine aw_iinc cx dX4_takeFrom_130 4 rfl (by decide) (by omega) (fun z130q hz130q => ?_)
              refine aw_loc (loc2 := [(2, aI z130q), (4, aI z98q), (3, aI z40q), (0, aR 5), (1, aR 1)]) rfl ?_
              refine aw_goto (tgt := 30) cx dX4_takeFrom_133 (by decide) ?_
              refine aw_sub [3, 4, 0] rfl ?_
              refine ih30q _ _  ?i_h0 ?i_hf ?i_hs ?i_hq ?i_hz ?i_hy ?i_hl ?i_ha ?i_m
              case i_h0 =>
                omega
              case i_hf =>
                exact (((hf.put hM_56q (by decide)).put hM_73q (by decide)).put hM_90q (by decide)).put hM_129q (by decide)
              case i_hs =>
                rw [up_ne hM_129q (by omega), up_ne hM_90q (by omega), up_ne hM_73q (by omega), up_ne hM_56q (by omega)]; exact hs
              case i_hq =>
                exact hq
              case i_hz =>
                exact hz
              case i_hy =>
                exact hy
              case i_hl =>
                rw [up_ne hM_129q (by omega), up_ne hM_90q (by omega), up_ne hM_73q (by omega), up_ne hM_56q (by omega)]; exact hl
              case i_ha =>
                rw [hz130q]; refine all_s (P := fun i => M_129q 6 i = M 2 (5 * i) - 97 ∧ M_129q 7 i = M 2 (5 * i + 1) - 48 ∧ M_129q 8 i = M 2 (5 * i + 2) - 48 ∧ M_129q 9 i = SRT (M 2 (5 * i + 3))) h0q.1 (fun i hi => ?_) ?_
                · have hne : i ≠ x2q.toNat := by omega
                  have q := ha i hi
                  refine ⟨?_, ?_, ?_, ?_⟩
                  · rw [up_ne hM_129q (by omega), up_ne hM_90q (by omega), up_ne hM_73q (by omega), up_ne hM_56q (by omega)]; exact q.1
                  · rw [up_ne hM_129q (by omega), up_ne hM_90q (by omega), up_ne hM_73q (by omega), up_ne hM_56q (by omega)]; exact q.2.1
                  · rw [up_ne hM_129q (by omega), up_ne hM_90q (by omega), up_ne hM_73q (by omega), up_ne hM_56q (by omega)]; exact q.2.2.1
                  · rw [up_ne hM_129q (by omega), up_ne hM_90q (by omega), up_ne hM_73q (by omega), up_ne hM_56q (by omega)]; exact q.2.2.2
                · refine ⟨?_, ?_, ?_, ?_⟩
                  · rw [up_ne hM_129q (by omega), up_ne hM_90q (by omega), up_ne hM_73q (by omega), up_eq hM_56q]; omega
                  · rw [up_ne hM_129q (by omega), up_ne hM_90q (by omega), up_eq hM_73q]; omega
                  · rw [up_ne hM_129q (by omega), up_eq hM_90q]; omega
                  · rw [up_eq hM_129q]; unfold SRT; first | (exfalso; omega) | rw [if_pos (by omega)] | rw [if_neg (by omega), if_pos (by omega)] | rw [if_neg (by omega), if_neg (by omega)]
              case i_m =>
                omega
            · refine aw_iconst (n := 1) cx dX4_takeFrom_124 (by decide) ?_
              refine aw_goto (tgt := 129) cx dX4_takeFrom_125 (by decide) ?_
              refine aw_iast cx dX4_takeFrom_129 (lb_9 tl) (⟨by omega, by omega⟩) (⟨by omega, by omega⟩) ?_
              obtain ⟨M_129q, hM_129q⟩ : ∃ q, q = up M_90q 9 (Int.toNat (x2q)) (1) := ⟨_, rfl⟩
              rw [← hM_129q]
              refine aw_iinc cx dX4_takeFrom_130 4 rfl (by decide) (by omega) (fun z130q hz130q => ?_)
              refine aw_loc (loc2 := [(2, aI z130q), (4, aI z98q), (3, aI z40q), (0, aR 5), (1, aR 1)]) rfl ?_
              refine aw_goto (tgt := 30) cx dX4_takeFrom_133 (by decide) ?_
              refine aw_sub [3, 4, 0] rfl ?_
              refine ih30q _ _  ?i_h0 ?i_hf ?i_hs ?i_hq ?i_hz ?i_hy ?i_hl ?i_ha ?i_m
              case i_h0 =>
                omega
              case i_hf =>
                exact (((hf.put hM_56q (by decide)).put hM_73q (by decide)).put hM_90q (by decide)).put hM_129q (by decide)
              case i_hs =>
                rw [up_ne hM_129q (by omega), up_ne hM_90q (by omega), up_ne hM_73q (by omega), up_ne hM_56q (by omega)]; exact hs
              case i_hq =>
                exact hq
              case i_hz =>
                exact hz
              case i_hy =>
                exact hy
              case i_hl =>
                rw [up_ne hM_129q (by omega), up_ne hM_90q (by omega), up_ne hM_73q (by omega), up_ne hM_56q (by omega)]; exact hl
              case i_ha =>
                rw [hz130q]; refine all_s (P := fun i => M_129q 6 i = M 2 (5 * i) - 97 ∧ M_129q 7 i = M 2 (5 * i + 1) - 48 ∧ M_129q 8 i = M 2 (5 * i + 2) - 48 ∧ M_129q 9 i = SRT (M 2 (5 * i + 3))) h0q.1 (fun i hi => ?_) ?_
                · have hne : i ≠ x2q.toNat := by omega
                  have q := ha i hi
                  refine ⟨?_, ?_, ?_, ?_⟩
                  · rw [up_ne hM_129q (by omega), up_ne hM_90q (by omega), up_ne hM_73q (by omega), up_ne hM_56q (by omega)]; exact q.1
                  · rw [up_ne hM_129q (by omega), up_ne hM_90q (by omega), up_ne hM_73q (by omega), up_ne hM_56q (by omega)]; exact q.2.1
                  · rw [up_ne hM_129q (by omega), up_ne hM_90q (by omega), up_ne hM_73q (by omega), up_ne hM_56q (by omega)]; exact q.2.2.1
                  · rw [up_ne hM_129q (by omega), up_ne hM_90q (by omega), up_ne hM_73q (by omega), up_ne hM_56q (by omega)]; exact q.2.2.2
                · refine ⟨?_, ?_, ?_, ?_⟩
                  · rw [up_ne hM_129q (by omega), up_ne hM_90q (by omega), up_ne hM_73q (by omega), up_eq hM_56q]; omega
                  · rw [up_ne hM_129q (by omega), up_ne hM_90q (by omega), up_eq hM_73q]; omega
                  · rw [up_ne hM_129q (by omega), up_eq hM_90q]; omega
                  · rw [up_eq hM_129q]; unfold SRT; first | (exfalso; omega) | rw [if_pos (by omega)] | rw [if_neg (by omega), if_pos (by omega)] | rw [if_neg (by omega), if_neg (by omega)]
              case i_m =>
                omega
          · refine aw_iconst (n := 0) cx dX4_takeFrom_113 (by decide) ?_
            refine aw_goto (tgt := 129) cx dX4_takeFrom_114 (by decide) ?_
            refine aw_iast cx dX4_takeFrom_129 (lb_9 tl) (⟨by omega, by omega⟩) (⟨by omega, by omega⟩) ?_
            obtain ⟨M_129q, hM_129q⟩ : ∃ q, q = up M_90q 9 (Int.toNat (x2q)) (0) := ⟨_, rfl⟩
            rw [← hM_129q]
            refine aw_iinc cx dX4_takeFrom_130 4 rfl (by decide) (by omega) (fun z130q hz130q => ?_)
            refine aw_loc (loc2 := [(2, aI z130q), (4, aI z98q), (3, aI z40q), (0, aR 5), (1, aR 1)]) rfl ?_
            refine aw_goto (tgt := 30) cx dX4_takeFrom_133 (by decide) ?_
            refine aw_sub [3, 4, 0] rfl ?_
            refine ih30q _ _  ?i_h0 ?i_hf ?i_hs ?i_hq ?i_hz ?i_hy ?i_hl ?i_ha ?i_m
            case i_h0 =>
              omega
            case i_hf =>
              exact (((hf.put hM_56q (by decide)).put hM_73q (by decide)).put hM_90q (by decide)).put hM_129q (by decide)
            case i_hs =>
              rw [up_ne hM_129q (by omega), up_ne hM_90q (by omega), up_ne hM_73q (by omega), up_ne hM_56q (by omega)]; exact hs
            case i_hq =>
              exact hq
            case i_hz =>
              exact hz
            case i_hy =>
              exact hy
            case i_hl =>
              rw [up_ne hM_129q (by omega), up_ne hM_90q (by omega), up_ne hM_73q (by omega), up_ne hM_56q (by omega)]; exact hl
            case i_ha =>
              rw [hz130q]; refine all_s (P := fun i => M_129q 6 i = M 2 (5 * i) - 97 ∧ M_129q 7 i = M 2 (5 * i + 1) - 48 ∧ M_129q 8 i = M 2 (5 * i + 2) - 48 ∧ M_129q 9 i = SRT (M 2 (5 * i + 3))) h0q.1 (fun i hi => ?_) ?_
              · have hne : i ≠ x2q.toNat := by omega
                have q := ha i hi
                refine ⟨?_, ?_, ?_, ?_⟩
                · rw [up_ne hM_129q (by omega), up_ne hM_90q (by omega), up_ne hM_73q (by omega), up_ne hM_56q (by omega)]; exact q.1
                · rw [up_ne hM_129q (by omega), up_ne hM_90q (by omega), up_ne hM_73q (by omega), up_ne hM_56q (by omega)]; exact q.2.1
                · rw [up_ne hM_129q (by omega), up_ne hM_90q (by omega), up_ne hM_73q (by omega), up_ne hM_56q (by omega)]; exact q.2.2.1
                · rw [up_ne hM_129q (by omega), up_ne hM_90q (by omega), up_ne hM_73q (by omega), up_ne hM_56q (by omega)]; exact q.2.2.2
              · refine ⟨?_, ?_, ?_, ?_⟩
                · rw [up_ne hM_129q (by omega), up_ne hM_90q (by omega), up_ne hM_73q (by omega), up_eq hM_56q]; omega
                · rw [up_ne hM_129q (by omega), up_ne hM_90q (by omega), up_eq hM_73q]; omega
                · rw [up_ne hM_129q (by omega), up_eq hM_90q]; omega
                · rw [up_eq hM_129q]; unfold SRT; first | (exfalso; omega) | rw [if_pos (by omega)] | rw [if_neg (by omega), if_pos (by omega)] | rw [if_neg (by omega), if_neg (by omega)]
            case i_m =>
              omega
    refine aw_sub [1, 2, 0] rfl ?_
    refine lp30q _ _ _  ?i_h0 ?i_hf ?i_hs ?i_hq ?i_hz ?i_hy ?i_hl ?i_ha (Nat.lt_succ_self _)
    case i_h0 =>
      omega
    case i_hf =>
      exact FR.rf.put hM_25q (by decide)
    case i_hs =>
      omega
    case i_hq =>
      intro q; first | omega | exact ⟨hnfz2.mp (by omega), by omega⟩
    case i_hz =>
      intro q; first | omega | exact absurd (hnfz2.mp (by omega)) q
    case i_hy =>
      intro q; have q2q := hnfz2.mpr q; omega
    case i_hl =>
      exact up_ne hM_25q (by omega)
    case i_ha =>
      exact all_0
  · refine aw_iconst (n := 0) cx dX4_takeFrom_8 (by decide) ?_
    refine aw_goto (tgt := 25) cx dX4_takeFrom_9 (by decide) ?_
    refine aw_putI cx dX4_takeFrom_25 fl_X4_24 kt_X4 rfl rfl (lb_5 tl) rfl (⟨by omega, by omega⟩) ?_
    obtain ⟨M_25q, hM_25q⟩ : ∃ q, q = up M 5 4 0 := ⟨_, rfl⟩
    rw [← hM_25q]
    obtain ⟨sz, hsz⟩ : ∃ q, q = M_25q 5 4 := ⟨_, rfl⟩
    have hsz2 := up_eq hM_25q
    refine aw_iconst (n := 0) cx dX4_takeFrom_28 (by decide) ?_
    refine aw_istore_n (loc2 := [(2, aI 0), (0, aR 5), (1, aR 1)]) cx dX4_takeFrom_29 rfl (by decide) rfl ?_
    have lp30q : ∀ (fu : Nat) (x2q : Int) (N30q : Mem), (0 ≤ x2q ∧ x2q ≤ sz) → (FR [5, 6, 7, 8, 9] M N30q) → (N30q 5 4 = sz) → (0 < sz → NF 5 (M 1 2).toNat (M 2) ∧ sz = ((((M 1 2).toNat + 1) / 5 : Nat) : Int)) → (¬ NF 5 (M 1 2).toNat (M 2) → sz = 0) → (NF 5 (M 1 2).toNat (M 2) → sz = ((((M 1 2).toNat + 1) / 5 : Nat) : Int)) → (N30q 5 5 = M 5 5) → (∀ i : Nat, i < x2q.toNat → N30q 6 i = M 2 (5 * i) - 97 ∧ N30q 7 i = M 2 (5 * i + 1) - 48 ∧ N30q 8 i = M 2 (5 * i + 2) - 48 ∧ N30q 9 i = SRT (M 2 (5 * i + 3))) → ((sz - x2q).toNat) < fu → AW X (LB ++ tl) 5 30 [(0, aR 5), (1, aR 1), (2, aI x2q)] [] N30q := by
      intro fu
      induction fu with
      | zero =>
        intro x2q N30q h0q hf hs hq hz hy hl ha hm
        exact absurd hm (Nat.not_lt_zero _)
      | succ fu ih30q =>
        intro x2q N30q h0q hf hs hq hz hy hl ha hm
        have e2q := congrFun (hf 2 (by decide))
        have e1q := congrFun (hf 1 (by decide)) 2
        refine aw_iload_n cx dX4_takeFrom_30 rfl 2 rfl ?_
        refine aw_aload_n cx dX4_takeFrom_31 rfl 0 rfl ?_
        refine aw_getI cx dX4_takeFrom_32 fl_X4_24 (lb_5 tl) rfl (fun z32q hz32q lo_z32q hi_z32q => ?_)
        refine aw_icmp_ge (tgt := 136) cx dX4_takeFrom_35 (by decide) (fun c35q => ?_) (fun c35q => ?_)
        · refine aw_vret cx rt dX4_takeFrom_136 ?_
          exact ⟨rfl, hf, ⟨fun q => by rw [hs]; exact hy q, fun q => by rw [hs]; exact hz q, fun i hi => ha i (by omega)⟩, hl⟩
        · have hf5 := fit5 (hq (by omega)).1.1 (i := x2q.toNat) (by have q5q := (hq (by omega)).2; omega)
          have hj := (hq (by omega)).2
          refine aw_iload_n cx dX4_takeFrom_38 rfl 2 rfl ?_
          refine aw_iconst (n := 5) cx dX4_takeFrom_39 (by decide) ?_
          refine aw_imul cx dX4_takeFrom_40 (by omega) (fun z40q hz40q => ?_)
          refine aw_istore_n (loc2 := [(3, aI z40q), (0, aR 5), (1, aR 1), (2, aI x2q)]) cx dX4_takeFrom_41 rfl (by decide) rfl ?_
          refine aw_aload_n cx dX4_takeFrom_42 rfl 1 rfl ?_
          refine aw_getR (q := 6) cx dX4_takeFrom_43 fl_X4_9 (lb_5 tl) rfl rfl ?_
          refine aw_iload_n cx dX4_takeFrom_46 rfl 3 rfl ?_
          refine aw_aload_n cx dX4_takeFrom_47 rfl 2 rfl ?_
          refine aw_getR (q := 2) cx dX4_takeFrom_48 fl_X4_44 (lb_1 tl) rfl rfl ?_
          refine aw_iload_n cx dX4_takeFrom_51 rfl 0 rfl ?_
          refine aw_iald cx dX4_takeFrom_52 (lb_2 tl) (⟨by omega, by omega⟩) (fun z52q hz52q lo_z52q hi_z52q => ?_)
          have hv52 : z52q = M 2 (5 * x2q.toNat) := by rw [hz52q, show z40q.toNat = 5 * x2q.toNat by omega]; exact e2q _
          refine aw_bipush (n := 97) cx dX4_takeFrom_53 (by decide) ?_
          refine aw_isub cx dX4_takeFrom_55 (by omega) (fun z55q hz55q => ?_)
          refine aw_iast cx dX4_takeFrom_56 (lb_6 tl) (⟨by omega, by omega⟩) (⟨by omega, by omega⟩) ?_
          obtain ⟨M_56q, hM_56q⟩ : ∃ q, q = up N30q 6 (Int.toNat (x2q)) (z55q) := ⟨_, rfl⟩
          rw [← hM_56q]
          refine aw_aload_n cx dX4_takeFrom_57 rfl 1 rfl ?_
          refine aw_getR (q := 7) cx dX4_takeFrom_58 fl_X4_15 (lb_5 tl) rfl rfl ?_
          refine aw_iload_n cx dX4_takeFrom_61 rfl 3 rfl ?_
          refine aw_aload_n cx dX4_takeFrom_62 rfl 2 rfl ?_
          refine aw_getR (q := 2) cx dX4_takeFrom_63 fl_X4_44 (lb_1 tl) rfl rfl ?_
          refine aw_iload_n cx dX4_takeFrom_66 rfl 0 rfl ?_
          refine aw_iconst (n := 1) cx dX4_takeFrom_67 (by decide) ?_
          refine aw_iadd cx dX4_takeFrom_68 (by omega) (fun z68q hz68q => ?_)
          refine aw_iald cx dX4_takeFrom_69 (lb_2 tl) (⟨by omega, by omega⟩) (fun z69q hz69q lo_z69q hi_z69q => ?_)
          have hv69 : z69q = M 2 (5 * x2q.toNat + 1) := by rw [hz69q, show z68q.toNat = 5 * x2q.toNat + 1 by omega]; rw [up_ne hM_56q (by omega)]; exact e2q _
          refine aw_bipush (n := 48) cx dX4_takeFrom_70 (by decide) ?_
          refine aw_isub cx dX4_takeFrom_72 (by omega) (fun z72q hz72q => ?_)
          refine aw_iast cx dX4_takeFrom_73 (lb_7 tl) (⟨by omega, by omega⟩) (⟨by omega, by omega⟩) ?_
          obtain ⟨M_73q, hM_73q⟩ : ∃ q, q = up M_56q 7 (Int.toNat (x2q)) (z72q) := ⟨_, rfl⟩
          rw [← hM_73q]
          refine aw_aload_n cx dX4_takeFrom_74 rfl 1 rfl ?_
          refine aw_getR (q := 8) cx dX4_takeFrom_75 fl_X4_18 (lb_5 tl) rfl rfl ?_
          refine aw_iload_n cx dX4_takeFrom_78 rfl 3 rfl ?_
          refine aw_aload_n cx dX4_takeFrom_79 rfl 2 rfl ?_
          refine aw_getR (q := 2) cx dX4_takeFrom_80 fl_X4_44 (lb_1 tl) rfl rfl ?_
          refine aw_iload_n cx dX4_takeFrom_83 rfl 0 rfl ?_
          refine aw_iconst (n := 2) cx dX4_takeFrom_84 (by decide) ?_
          refine aw_iadd cx dX4_takeFrom_85 (by omega) (fun z85q hz85q => ?_)
          refine aw_iald cx dX4_takeFrom_86 (lb_2 tl) (⟨by omega, by omega⟩) (fun z86q hz86q lo_z86q hi_z86q => ?_)
          have hv86 : z86q = M 2 (5 * x2q.toNat + 2) := by rw [hz86q, show z85q.toNat = 5 * x2q.toNat + 2 by omega]; rw [up_ne hM_73q (by omega), up_ne hM_56q (by omega)]; exact e2q _
          refine aw_bipush (n := 48) cx dX4_takeFrom_87 (by decide) ?_
          refine aw_isub cx dX4_takeFrom_89 (by omega) (fun z89q hz89q => ?_)
          refine aw_iast cx dX4_takeFrom_90 (lb_8 tl) (⟨by omega, by omega⟩) (⟨by omega, by omega⟩) ?_
          obtain ⟨M_90q, hM_90q⟩ : ∃ q, q = up M_73q 8 (Int.toNat (x2q)) (z89q) := ⟨_, rfl⟩
          rw [← hM_90q]
          refine aw_aload_n cx dX4_takeFrom_91 rfl 2 rfl ?_
          refine aw_getR (q := 2) cx dX4_takeFrom_92 fl_X4_44 (lb_1 tl) rfl rfl ?_
          refine aw_iload_n cx dX4_takeFrom_95 rfl 0 rfl ?_
          refine aw_iconst (n := 3) cx dX4_takeFrom_96 (by decide) ?_
          refine aw_iadd cx dX4_takeFrom_97 (by omega) (fun z97q hz97q => ?_)
          refine aw_iald cx dX4_takeFrom_98 (lb_2 tl) (⟨by omega, by omega⟩) (fun z98q hz98q lo_z98q hi_z98q => ?_)
          have hv98 : z98q = M 2 (5 * x2q.toNat + 3) := by rw [hz98q, show z97q.toNat = 5 * x2q.toNat + 3 by omega]; rw [up_ne hM_90q (by omega), up_ne hM_73q (by omega), up_ne hM_56q (by omega)]; exact e2q _
          refine aw_istore (loc2 := [(4, aI z98q), (3, aI z40q), (0, aR 5), (1, aR 1), (2, aI x2q)]) cx dX4_takeFrom_99 (by decide) rfl ?_
          refine aw_aload_n cx dX4_takeFrom_101 rfl 2 rfl ?_
          refine aw_getR (q := 9) cx dX4_takeFrom_102 fl_X4_21 (lb_5 tl) rfl rfl ?_
          refine aw_iload_n cx dX4_takeFrom_105 rfl 4 rfl ?_
          refine aw_iload cx dX4_takeFrom_106 0 rfl ?_
          refine aw_bipush (n := 115) cx dX4_takeFrom_108 (by decide) ?_
          refine aw_icmp_ne (tgt := 117) cx dX4_takeFrom_110 (by decide) (fun c110q => ?_) (fun c110q => ?_)
          · refine aw_iload cx dX4_takeFrom_117 0 rfl ?_
            refine aw_bipush (n := 100) cx dX4_takeFrom_119 (by decide) ?_
            refine aw_icmp_ne (tgt := 128) cx dX4_takeFrom_121 (by decide) (fun c121q => ?_) (fun c121q => ?_)
            · refine aw_iconst (n := 2) cx dX4_takeFrom_128 (by decide) ?_
              refine aw_iast cx dX4_takeFrom_129 (lb_9 tl) (⟨by omega, by omega⟩) (⟨by omega, by omega⟩) ?_
              obtain ⟨M_129q, hM_129q⟩ : ∃ q, q = up M_90q 9 (Int.toNat (x2q)) (2) := ⟨_, rfl⟩
              rw [← hM_129q]
              refine aw_iinc cx dX4_takeFrom_130 4 rfl (by decide) (by omega) (fun z130q hz130q => ?_)
              refine aw_loc (loc2 := [(2, aI z130q), (4, aI z98q), (3, aI z40q), (0, aR 5), (1, aR 1)]) rfl ?_
              refine aw_goto (tgt := 30) cx dX4_takeFrom_133 (by decide) ?_
              refine aw_sub [3, 4, 0] rfl ?_
              refine ih30q _ _  ?i_h0 ?i_hf ?i_hs ?i_hq ?i_hz ?i_hy ?i_hl ?i_ha ?i_m
              case i_h0 =>
                omega
              case i_hf =>
                exact (((hf.put hM_56q (by decide)).put hM_73q (by decide)).put hM_90q (by decide)).put hM_129q (by decide)
              case i_hs =>
                rw [up_ne hM_129q (by omega), up_ne hM_90q (by omega), up_ne hM_73q (by omega), up_ne hM_56q (by omega)]; exact hs
              case i_hq =>
                exact hq
              case i_hz =>
                exact hz
              case i_hy =>
                exact hy
              case i_hl =>
                rw [up_ne hM_129q (by omega), up_ne hM_90q (by omega), up_ne hM_73q (by omega), up_ne hM_56q (by omega)]; exact hl
              case i_ha =>
                rw [hz130q]; refine all_s (P := fun i => M_129q 6 i = M 2 (5 * i) - 97 ∧ M_129q 7 i = M 2 (5 * i + 1) - 48 ∧ M_129q 8 i = M 2 (5 * i + 2) - 48 ∧ M_129q 9 i = SRT (M 2 (5 * i + 3))) h0q.1 (fun i hi => ?_) ?_
                · have hne : i ≠ x2q.toNat := by omega
                  have q := ha i hi
                  refine ⟨?_, ?_, ?_, ?_⟩
                  · rw [up_ne hM_129q (by omega), up_ne hM_90q (by omega), up_ne hM_73q (by omega), up_ne hM_56q (by omega)]; exact q.1
                  · rw [up_ne hM_129q (by omega), up_ne hM_90q (by omega), up_ne hM_73q (by omega), up_ne hM_56q (by omega)]; exact q.2.1
                  · rw [up_ne hM_129q (by omega), up_ne hM_90q (by omega), up_ne hM_73q (by omega), up_ne hM_56q (by omega)]; exact q.2.2.1
                  · rw [up_ne hM_129q (by omega), up_ne hM_90q (by omega), up_ne hM_73q (by omega), up_ne hM_56q (by omega)]; exact q.2.2.2
                · refine ⟨?_, ?_, ?_, ?_⟩
                  · rw [up_ne hM_129q (by omega), up_ne hM_90q (by omega), up_ne hM_73q (by omega), up_eq hM_56q]; omega
                  · rw [up_ne hM_129q (by omega), up_ne hM_90q (by omega), up_eq hM_73q]; omega
                  · rw [up_ne hM_129q (by omega), up_eq hM_90q]; omega
                  · rw [up_eq hM_129q]; unfold SRT; first | (exfalso; omega) | rw [if_pos (by omega)] | rw [if_neg (by omega), if_pos (by omega)] | rw [if_neg (by omega), if_neg (by omega)]
              case i_m =>
                omega
            · refine aw_iconst (n := 1) cx dX4_takeFrom_124 (by decide) ?_
              refine aw_goto (tgt := 129) cx dX4_takeFrom_125 (by decide) ?_
              refine aw_iast cx dX4_takeFrom_129 (lb_9 tl) (⟨by omega, by omega⟩) (⟨by omega, by omega⟩) ?_
              obtain ⟨M_129q, hM_129q⟩ : ∃ q, q = up M_90q 9 (Int.toNat (x2q)) (1) := ⟨_, rfl⟩
              rw [← hM_129q]
              refine aw_iinc cx dX4_takeFrom_130 4 rfl (by decide) (by omega) (fun z130q hz130q => ?_)
              refine aw_loc (loc2 := [(2, aI z130q), (4, aI z98q), (3, aI z40q), (0, aR 5), (1, aR 1)]) rfl ?_
              refine aw_goto (tgt := 30) cx dX4_takeFrom_133 (by decide) ?_
              refine aw_sub [3, 4, 0] rfl ?_
              refine ih30q _ _  ?i_h0 ?i_hf ?i_hs ?i_hq ?i_hz ?i_hy ?i_hl ?i_ha ?i_m
              case i_h0 =>
                omega
              case i_hf =>
                exact (((hf.put hM_56q (by decide)).put hM_73q (by decide)).put hM_90q (by decide)).put hM_129q (by decide)
              case i_hs =>
                rw [up_ne hM_129q (by omega), up_ne hM_90q (by omega), up_ne hM_73q (by omega), up_ne hM_56q (by omega)]; exact hs
              case i_hq =>
                exact hq
              case i_hz =>
                exact hz
              case i_hy =>
                exact hy
              case i_hl =>
                rw [up_ne hM_129q (by omega), up_ne hM_90q (by omega), up_ne hM_73q (by omega), up_ne hM_56q (by omega)]; exact hl
              case i_ha =>
                rw [hz130q]; refine all_s (P := fun i => M_129q 6 i = M 2 (5 * i) - 97 ∧ M_129q 7 i = M 2 (5 * i + 1) - 48 ∧ M_129q 8 i = M 2 (5 * i + 2) - 48 ∧ M_129q 9 i = SRT (M 2 (5 * i + 3))) h0q.1 (fun i hi => ?_) ?_
                · have hne : i ≠ x2q.toNat := by omega
                  have q := ha i hi
                  refine ⟨?_, ?_, ?_, ?_⟩
                  · rw [up_ne hM_129q (by omega), up_ne hM_90q (by omega), up_ne hM_73q (by omega), up_ne hM_56q (by omega)]; exact q.1
                  · rw [up_ne hM_129q (by omega), up_ne hM_90q (by omega), up_ne hM_73q (by omega), up_ne hM_56q (by omega)]; exact q.2.1
                  · rw [up_ne hM_129q (by omega), up_ne hM_90q (by omega), up_ne hM_73q (by omega), up_ne hM_56q (by omega)]; exact q.2.2.1
                  · rw [up_ne hM_129q (by omega), up_ne hM_90q (by omega), up_ne hM_73q (by omega), up_ne hM_56q (by omega)]; exact q.2.2.2
                · refine ⟨?_, ?_, ?_, ?_⟩
                  · rw [up_ne hM_129q (by omega), up_ne hM_90q (by omega), up_ne hM_73q (by omega), up_eq hM_56q]; omega
                  · rw [up_ne hM_129q (by omega), up_ne hM_90q (by omega), up_eq hM_73q]; omega
                  · rw [up_ne hM_129q (by omega), up_eq hM_90q]; omega
                  · rw [up_eq hM_129q]; unfold SRT; first | (exfalso; omega) | rw [if_pos (by omega)] | rw [if_neg (by omega), if_pos (by omega)] | rw [if_neg (by omega), if_neg (by omega)]
              case i_m =>
                omega
          · refine aw_iconst (n := 0) cx dX4_takeFrom_113 (by decide) ?_
            refine aw_goto (tgt := 129) cx dX4_takeFrom_114 (by decide) ?_
            refine aw_iast cx dX4_takeFrom_129 (lb_9 tl) (⟨by omega, by omega⟩) (⟨by omega, by omega⟩) ?_
            obtain ⟨M_129q, hM_129q⟩ : ∃ q, q = up M_90q 9 (Int.toNat (x2q)) (0) := ⟨_, rfl⟩
            rw [← hM_129q]
            refine aw_iinc cx dX4_takeFrom_130 4 rfl (by decide) (by omega) (fun z130q hz130q => ?_)
            refine aw_loc (loc2 := [(2, aI z130q), (4, aI z98q), (3, aI z40q), (0, aR 5), (1, aR 1)]) rfl ?_
            refine aw_goto (tgt := 30) cx dX4_takeFrom_133 (by decide) ?_
            refine aw_sub [3, 4, 0] rfl ?_
            refine ih30q _ _  ?i_h0 ?i_hf ?i_hs ?i_hq ?i_hz ?i_hy ?i_hl ?i_ha ?i_m
            case i_h0 =>
              omega
            case i_hf =>
              exact (((hf.put hM_56q (by decide)).put hM_73q (by decide)).put hM_90q (by decide)).put hM_129q (by decide)
            case i_hs =>
              rw [up_ne hM_129q (by omega), up_ne hM_90q (by omega), up_ne hM_73q (by omega), up_ne hM_56q (by omega)]; exact hs
            case i_hq =>
              exact hq
            case i_hz =>
              exact hz
            case i_hy =>
              exact hy
            case i_hl =>
              rw [up_ne hM_129q (by omega), up_ne hM_90q (by omega), up_ne hM_73q (by omega), up_ne hM_56q (by omega)]; exact hl
            case i_ha =>
              rw [hz130q]; refine all_s (P := fun i => M_129q 6 i = M 2 (5 * i) - 97 ∧ M_129q 7 i = M 2 (5 * i + 1) - 48 ∧ M_129q 8 i = M 2 (5 * i + 2) - 48 ∧ M_129q 9 i = SRT (M 2 (5 * i + 3))) h0q.1 (fun i hi => ?_) ?_
              · have hne : i ≠ x2q.toNat := by omega
                have q := ha i hi
                refine ⟨?_, ?_, ?_, ?_⟩
                · rw [up_ne hM_129q (by omega), up_ne hM_90q (by omega), up_ne hM_73q (by omega), up_ne hM_56q (by omega)]; exact q.1
                · rw [up_ne hM_129q (by omega), up_ne hM_90q (by omega), up_ne hM_73q (by omega), up_ne hM_56q (by omega)]; exact q.2.1
                · rw [up_ne hM_129q (by omega), up_ne hM_90q (by omega), up_ne hM_73q (by omega), up_ne hM_56q (by omega)]; exact q.2.2.1
                · rw [up_ne hM_129q (by omega), up_ne hM_90q (by omega), up_ne hM_73q (by omega), up_ne hM_56q (by omega)]; exact q.2.2.2
              · refine ⟨?_, ?_, ?_, ?_⟩
                · rw [up_ne hM_129q (by omega), up_ne hM_90q (by omega), up_ne hM_73q (by omega), up_eq hM_56q]; omega
                · rw [up_ne hM_129q (by omega), up_ne hM_90q (by omega), up_eq hM_73q]; omega
                · rw [up_ne hM_129q (by omega), up_eq hM_90q]; omega
                · rw [up_eq hM_129q]; unfold SRT; first | (exfalso; omega) | rw [if_pos (by omega)] | rw [if_neg (by omega), if_pos (by omega)] | rw [if_neg (by omega), if_neg (by omega)]
            case i_m =>
              omega
    refine aw_sub [1, 2, 0] rfl ?_
    refine lp30q _ _ _  ?i_h0 ?i_hf ?i_hs ?i_hq ?i_hz ?i_hy ?i_hl ?i_ha (Nat.lt_succ_self _)
    case i_h0 =>
      omega
    case i_hf =>
      exact FR.rf.put hM_25q (by decide)
    case i_hs =>
      omega
    case i_hq =>
      intro q; first | omega | exact ⟨hnfz2.mp (by omega), by omega⟩
    case i_hz =>
      intro q; first | omega | exact absurd (hnfz2.mp (by omega)) q
    case i_hy =>
      intro q; have q2q := hnfz2.mpr q; omega
    case i_hl =>
      exact up_ne hM_25q (by omega)
    case i_ha =>
      exact all_0
