theorem FAL_i {lo : Int} {C W : Nat → Int} {w i : Int} (h : 0 ≤ i) : FAL lo (i + 1).toNat C W w = FAL lo i.toNat C W w + b2 ((i.toNat : Int) ≠ lo ∧ W i.toNat = w ∧ C i.toNat = 0) := by
  unfold FAL
  rw [sm_i h]
set_option maxHeartbeats 1000000 in
set_option maxRecDepth 100000 in
theorem ct_X7_isLiar (tl : List CD) (M : Mem) (w : Int) : Ct 0 mX7_isLiar (LB ++ tl) [aR 32, aI w] M (fun r M1 => M = M1 ∧ ∃ x, r = some (aI x) ∧ (x = 0 ∨ x = 1) ∧ (x = 1 ↔ 0 < FAL (M 32 20) (M 32 15).toNat (M 48) (M 46) w)) := by
  refine Ct.of (own := RX7) rfl (by decide +kernel) (Nat.le_of_ble_eq_true rfl) (fun X cx rt => ?_)
  refine aw_eq (loc2 := [(0, aR 32), (1, aI w)]) ?_ rfl rfl rfl rfl
  refine aw_rngL 1 rfl (fun rl_w rh_w => ?_)
  refine aw_ok (fun om => ?_)
  have htn : 0 ≤ M 32 15 ∧ M 32 15 ≤ 12 := okF om (lb_32 tl) (j := 15) rfl (show (0 : Nat) ≠ 1 by decide)
  refine aw_iconst (n := 0) cx dX7_isLiar_0 (by decide) ?_
  refine aw_istore_n (loc2 := [(2, aI 0), (0, aR 32), (1, aI w)]) cx dX7_isLiar_1 rfl (by decide) rfl ?_
  refine aw_iconst (n := 0) cx dX7_isLiar_2 (by decide) ?_
  refine aw_istore_n (loc2 := [(3, aI 0), (2, aI 0), (0, aR 32), (1, aI w)]) cx dX7_isLiar_3 rfl (by decide) rfl ?_
  have lp4q : ∀ (fu : Nat) (x2q : Int) (x3q : Int), (0 ≤ x3q ∧ x3q ≤ M 32 15) → (x2q = 0 ∨ x2q = 1) → (x2q = 1 ↔ 0 < FAL (M 32 20) x3q.toNat (M 48) (M 46) w) → ((M 32 15 - x3q).toNat) < fu → AW X (LB ++ tl) 4 4 [(0, aR 32), (1, aI w), (2, aI x2q), (3, aI x3q)] [] M := by
    intro fu
    induction fu with
    | zero =>
      intro x2q x3q h0q h01q hx hm
      exact absurd hm (Nat.not_lt_zero _)
    | succ fu ih4q =>
      intro x2q x3q h0q h01q hx hm
      refine aw_iload_n cx dX7_isLiar_4 rfl 3 rfl ?_
      refine aw_aload_n cx dX7_isLiar_5 rfl 0 rfl ?_
      refine aw_getI cx dX7_isLiar_6 fl_X7_184 (lb_32 tl) rfl (fun z6q hz6q lo_z6q hi_z6q => ?_)
      refine aw_icmp_ge (tgt := 55) cx dX7_isLiar_9 (by decide) (fun c9q => ?_) (fun c9q => ?_)
      · refine aw_iload_n cx dX7_isLiar_55 rfl 2 rfl ?_
        refine aw_zret cx rt dX7_isLiar_56 (by omega) ?_
        exact ⟨rfl, x2q, rfl, h01q, by rw [show (M 32 15).toNat = x3q.toNat by omega]; exact hx⟩
      · refine aw_iload_n cx dX7_isLiar_12 rfl 2 rfl ?_
        refine aw_if_ne (tgt := 43) cx dX7_isLiar_13 (by decide) (fun c13q => ?_) (fun c13q => ?_)
        · refine aw_iconst (n := 1) cx dX7_isLiar_43 (by decide) ?_
          refine aw_goto (tgt := 48) cx dX7_isLiar_44 (by decide) ?_
          refine aw_istore_n (loc2 := [(2, aI 1), (0, aR 32), (1, aI w), (3, aI x3q)]) cx dX7_isLiar_48 rfl (by decide) rfl ?_
          refine aw_iinc cx dX7_isLiar_49 3 rfl (by decide) (by omega) (fun z49q hz49q => ?_)
          refine aw_loc (loc2 := [(3, aI z49q), (2, aI 1), (0, aR 32), (1, aI w)]) rfl ?_
          refine aw_goto (tgt := 4) cx dX7_isLiar_52 (by decide) ?_
          refine aw_sub [2, 3, 1, 0] rfl ?_
          refine ih4q _ _  ?i_h0 ?i_h01 ?i_hx ?i_m
          case i_h0 =>
            omega
          case i_h01 =>
            omega
          case i_hx =>
            rw [hz49q, FAL_i h0q.1]
            have qf := FAL_in (M 32 20) x3q.toNat (M 48) (M 46) w
            first
            | (rw [b2_t (by omega)]; omega)
            | (rw [b2_f (by omega)]; omega)
            | (have qb := b2_in ((x3q.toNat : Int) ≠ M 32 20 ∧ M 46 x3q.toNat = w ∧ M 48 x3q.toNat = 0); omega)
          case i_m =>
            omega
        · refine aw_iload_n cx dX7_isLiar_16 rfl 3 rfl ?_
          refine aw_aload_n cx dX7_isLiar_17 rfl 0 rfl ?_
          refine aw_getI cx dX7_isLiar_18 fl_X7_187 (lb_32 tl) rfl (fun z18q hz18q lo_z18q hi_z18q => ?_)
          refine aw_icmp_eq (tgt := 47) cx dX7_isLiar_21 (by decide) (fun c21q => ?_) (fun c21q => ?_)
          · refine aw_iconst (n := 0) cx dX7_isLiar_47 (by decide) ?_
            refine aw_istore_n (loc2 := [(2, aI 0), (0, aR 32), (1, aI w), (3, aI x3q)]) cx dX7_isLiar_48 rfl (by decide) rfl ?_
            refine aw_iinc cx dX7_isLiar_49 3 rfl (by decide) (by omega) (fun z49q hz49q => ?_)
            refine aw_loc (loc2 := [(3, aI z49q), (2, aI 0), (0, aR 32), (1, aI w)]) rfl ?_
            refine aw_goto (tgt := 4) cx dX7_isLiar_52 (by decide) ?_
            refine aw_sub [2, 3, 1, 0] rfl ?_
            refine ih4q _ _  ?i_h0 ?i_h01 ?i_hx ?i_m
            case i_h0 =>
              omega
            case i_h01 =>
              omega
            case i_hx =>
              rw [hz49q, FAL_i h0q.1]
              have qf := FAL_in (M 32 20) x3q.toNat (M 48) (M 46) w
              first
              | (rw [b2_t (by omega)]; omega)
              | (rw [b2_f (by omega)]; omega)
              | (have qb := b2_in ((x3q.toNat : Int) ≠ M 32 20 ∧ M 46 x3q.toNat = w ∧ M 48 x3q.toNat = 0); omega)
            case i_m =>
              omega
          · refine aw_aload_n cx dX7_isLiar_24 rfl 0 rfl ?_
            refine aw_getR (q := 46) cx dX7_isLiar_25 fl_X7_49 (lb_32 tl) rfl rfl ?_
            refine aw_iload_n cx dX7_isLiar_28 rfl 3 rfl ?_
            refine aw_iald cx dX7_isLiar_29 (lb_46 tl) (⟨by omega, by omega⟩) (fun z29q hz29q lo_z29q hi_z29q => ?_)
            refine aw_iload_n cx dX7_isLiar_30 rfl 1 rfl ?_
            refine aw_icmp_ne (tgt := 47) cx dX7_isLiar_31 (by decide) (fun c31q => ?_) (fun c31q => ?_)
            · refine aw_iconst (n := 0) cx dX7_isLiar_47 (by decide) ?_
              refine aw_istore_n (loc2 := [(2, aI 0), (0, aR 32), (1, aI w), (3, aI x3q)]) cx dX7_isLiar_48 rfl (by decide) rfl ?_
              refine aw_iinc cx dX7_isLiar_49 3 rfl (by decide) (by omega) (fun z49q hz49q => ?_)
              refine aw_loc (loc2 := [(3, aI z49q), (2, aI 0), (0, aR 32), (1, aI w)]) rfl ?_
              refine aw_goto (tgt := 4) cx dX7_isLiar_52 (by decide) ?_
              refine aw_sub [2, 3, 1, 0] rfl ?_
              refine ih4q _ _  ?i_h0 ?i_h01 ?i_hx ?i_m
              case i_h0 =>
                omega
              case i_h01 =>
                omega
              case i_hx =>
                rw [hz49q, FAL_i h0q.1]
                have qf := FAL_in (M 32 20) x3q.toNat (M 48) (M 46) w
                first
                | (rw [b2_t (by omega)]; omega)
                | (rw [b2_f (by omega)]; omega)
                | (have qb := b2_in ((x3q.toNat : Int) ≠ M 32 20 ∧ M 46 x3q.toNat = w ∧ M 48 x3q.toNat = 0); omega)
              case i_m =>
                omega
            · refine aw_aload_n cx dX7_isLiar_34 rfl 0 rfl ?_
              refine aw_getR (q := 48) cx dX7_isLiar_35 fl_X7_55 (lb_32 tl) rfl rfl ?_
              refine aw_iload_n cx dX7_isLiar_38 rfl 3 rfl ?_
              refine aw_iald cx dX7_isLiar_39 (lb_48 tl) (⟨by omega, by omega⟩) (fun z39q hz39q lo_z39q hi_z39q => ?_)
              refine aw_if_ne (tgt := 47) cx dX7_isLiar_40 (by decide) (fun c40q => ?_) (fun c40q => ?_)
              · refine aw_iconst (n := 0) cx dX7_isLiar_47 (by decide) ?_
                refine aw_istore_n (loc2 := [(2, aI 0), (0, aR 32), (1, aI w), (3, aI x3q)]) cx dX7_isLiar_48 rfl (by decide) rfl ?_
                refine aw_iinc cx dX7_isLiar_49 3 rfl (by decide) (by omega) (fun z49q hz49q => ?_)
                refine aw_loc (loc2 := [(3, aI z49q), (2, aI 0), (0, aR 32), (1, aI w)]) rfl ?_
                refine aw_goto (tgt := 4) cx dX7_isLiar_52 (by decide) ?_
                refine aw_sub [2, 3, 1, 0] rfl ?_
                refine ih4q _ _  ?i_h0 ?i_h01 ?i_hx ?i_m
                case i_h0 =>
                  omega
                case i_h01 =>
                  omega
                case i_hx =>
                  rw [hz49q, FAL_i h0q.1]
                  have qf := FAL_in (M 32 20) x3q.toNat (M 48) (M 46) w
                  first
                  | (rw [b2_t (by omega)]; omega)
                  | (rw [b2_f (by omega)]; omega)
                  | (have qb := b2_in ((x3q.toNat : Int) ≠ M 32 20 ∧ M 46 x3q.toNat = w ∧ M 48 x3q.toNat = 0); omega)
                case i_m =>
                  omega
              · refine aw_iconst (n := 1) cx dX7_isLiar_43 (by decide) ?_
                refine aw_goto (tgt := 48) cx dX7_isLiar_44 (by decide) ?_
                refine aw_istore_n (loc2 := [(2, aI 1), (0, aR 32), (1, aI w), (3, aI x3q)]) cx dX7_isLiar_48 rfl (by decide) rfl ?_
                refine aw_iinc cx dX7_isLiar_49 3 rfl (by decide) (by omega) (fun z49q hz49q => ?_)
                refine aw_loc (loc2 := [(3, aI z49q), (2, aI 1), (0, aR 32), (1, aI w)]) rfl ?_
                refine aw_goto (tgt := 4) cx dX7_isLiar_52 (by decide) ?_
                refine aw_sub [2, 3, 1, 0] rfl ?_
                refine ih4q _ _  ?i_h0 ?i_h01 ?i_hx ?i_m
                case i_h0 =>
                  omega
                case i_h01 =>
                  omega
                case i_hx =>
                  rw [hz49q, FAL_i h0q.1]
                  have qf := FAL_in (M 32 20) x3q.toNat (M 48) (M 46) w
                  first
                  | (rw [b2_t (by omega)]; omega)
                  | (rw [b2_f (by omega)]; omega)
                  | (have qb := b2_in ((x3q.toNat : Int) ≠ M 32 20 ∧ M 46 x3q.toNat = w ∧ M 48 x3q.toNat = 0); omega)
                case i_m =>
                  omega
  refine aw_sub [2, 3, 1, 0] rfl ?_
  refine lp4q _ _ _  ?i_h0 ?i_h01 ?i_hx (Nat.lt_succ_self _)
  case i_h0 =>
    omega
  case i_h01 =>
    omega
  case i_hx =>
    rw [show FAL (M 32 20) (0 : Int).toNat (M 48) (M 46) w = 0 from rfl]; omega
