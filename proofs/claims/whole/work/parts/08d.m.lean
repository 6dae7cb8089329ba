set_option maxHeartbeats 1000000 in
set_option maxRecDepth 100000 in
theorem ct_X6_read_a (tl : List CD) (M : Mem) (s : Int) (hl : 0 ≤ s → s < 4 → M 29 s.toNat = -1) : Ct 2 mX6_read (LB ++ tl) [aR 0, aI s] M (fun r M1 => ∃ x, r = some (aI x) ∧ (((s < 0 ∨ 4 ≤ s) ∧ x = -2 ∧ M1 = M) ∨ ((0 ≤ s ∧ s < 4) ∧ x = -11 ∧ M1 = up M 0 14 1))) := by
  refine Ct.of (own := RX6) rfl (by decide +kernel) (Nat.le_of_ble_eq_true rfl) (fun X cx rt => ?_)
  refine aw_eq (loc2 := [(0, aR 0), (1, aI s)]) ?_ rfl rfl rfl rfl
  refine aw_rngL 1 rfl (fun rl_s rh_s => ?_)
  refine aw_iload_n cx dX6_read_0 rfl 1 rfl ?_
  refine aw_iconst (n := 4) cx dX6_read_1 (by decide) ?_
  refine aw_callS (as := [aI s, aI 4]) (stk := []) cx dX6_read_2 ml_X6_84 ms_X6_outside (by decide) rfl rfl (Nat.le_of_ble_eq_true rfl) (ct_X6_outside tl M _ _ ) (fun rr2q M_2q hp2q => ?_)
  obtain ⟨rfl, rfl⟩ := hp2q
  refine aw_top (stk := []) (fun z2q hz2q => ?_)
  refine aw_if_eq (tgt := 11) cx dX6_read_5 (by decide) (fun c5q => ?_) (fun c5q => ?_)
  · have d5q := b2_e0.mp (hz2q.symm.trans c5q)
    refine aw_aload_n cx dX6_read_11 rfl 0 rfl ?_
    refine aw_getR (q := 29) cx dX6_read_12 fl_X6_63 (lb_0 tl) rfl rfl ?_
    refine aw_iload_n cx dX6_read_15 rfl 1 rfl ?_
    refine aw_aald (v := aN) cx dX6_read_16 (lb_29 tl) (⟨by omega, by omega⟩) (sl_n (hl (by omega) (by omega))) ?_
    refine aw_astore_nN (loc2 := [(2, aN), (0, aR 0), (1, aI s)]) cx dX6_read_17 rfl (by decide) rfl ?_
    refine aw_aload_nN cx dX6_read_18 rfl 0 rfl ?_
    refine aw_ifnonnullN cx dX6_read_19 ?_
    refine aw_aload_n cx dX6_read_22 rfl 1 rfl ?_
    refine aw_iconst (n := 1) cx dX6_read_23 (by decide) ?_
    refine aw_callV (as := [aI 1]) (k := 0) (stk := []) cx dX6_read_24 ml_X6_129 mv_X6_finding rfl (lb_0 tl) (by decide) rfl rfl (Nat.le_of_ble_eq_true rfl) (ct_X6_finding tl M _ (by first | assumption | omega)) (fun rr24q M_24q hp24q => ?_)
    obtain ⟨z24q, rfl, hMuM_24, hxM_24⟩ := hp24q
    refine aw_eq (stk2 := [aI z24q]) ?_ rfl rfl rfl rfl
    refine aw_iret cx rt dX6_read_27 ?_
    exact ⟨_, rfl, Or.inr ⟨by omega, by omega, hMuM_24⟩⟩
  · have d5q := b2_y hz2q c5q
    refine aw_bipush (n := (-2)) cx dX6_read_8 (by decide) ?_
    refine aw_iret cx rt dX6_read_10 ?_
    exact ⟨_, rfl, Or.inl ⟨by omega, rfl, rfl⟩⟩
set_option maxHeartbeats 1000000 in
set_option maxRecDepth 100000 in
theorem ct_X6_read_p (tl : List CD) (M : Mem) (s : Int) (q n : Nat) (hs : 0 ≤ s ∧ s < 4) (hsq : M 29 s.toNat = (q : Int)) (hq : SHQ tl q n) : Ct 2 mX6_read (LB ++ tl) [aR 0, aI s] M (fun r M1 => ∃ x, r = some (aI x) ∧ FR [18, 19, 20, 21] M M1 ∧ RDX (M (q + 1)) n (M 18 3) x ∧ M1 18 3 = M 18 3 + x ∧ M1 19 = RDA (M 19) (M (q + 1)) (M 18 3) x 0 ∧ M1 20 = RDA (M 20) (M (q + 1)) (M 18 3) x 1 ∧ M1 21 = RDA (M 21) (M (q + 1)) (M 18 3) x 2) := by
  refine Ct.of (own := RX6) rfl (by decide +kernel) (Nat.le_of_ble_eq_true rfl) (fun X cx rt => ?_)
  refine aw_eq (loc2 := [(0, aR 0), (1, aI s)]) ?_ rfl rfl rfl rfl
  refine aw_rngL 1 rfl (fun rl_s rh_s => ?_)
  refine aw_ok (fun om => ?_)
  have hse : 0 ≤ M 18 3 ∧ M 18 3 ≤ 8 := okF om (lb_18 tl) (j := 3) rfl (show (0 : Nat) ≠ 1 by decide)
  have hn60 := hq.2.2.2
  have hqn : q + 1 ∉ ([18, 19, 20, 21] : List Nat) := fun hh => by
    have h65q := hq.1
    simp only [List.mem_cons, List.not_mem_nil, or_false] at hh
    omega
  refine aw_iload_n cx dX6_read_0 rfl 1 rfl ?_
  refine aw_iconst (n := 4) cx dX6_read_1 (by decide) ?_
  refine aw_callS (as := [aI s, aI 4]) (stk := []) cx dX6_read_2 ml_X6_84 ms_X6_outside (by decide) rfl rfl (Nat.le_of_ble_eq_true rfl) (ct_X6_outside tl M _ _ ) (fun rr2q M_2q hp2q => ?_)
  obtain ⟨rfl, rfl⟩ := hp2q
  refine aw_top (stk := []) (fun z2q hz2q => ?_)
  refine aw_if_eq (tgt := 11) cx dX6_read_5 (by decide) (fun c5q => ?_) (fun c5q => ?_)
  · have d5q := b2_e0.mp (hz2q.symm.trans c5q)
    refine aw_aload_n cx dX6_read_11 rfl 0 rfl ?_
    refine aw_getR (q := 29) cx dX6_read_12 fl_X6_63 (lb_0 tl) rfl rfl ?_
    refine aw_iload_n cx dX6_read_15 rfl 1 rfl ?_
    refine aw_aald (v := aR q) cx dX6_read_16 (lb_29 tl) (⟨by omega, by omega⟩) (sl_q hsq) ?_
    refine aw_astore_n (loc2 := [(2, aR q), (0, aR 0), (1, aI s)]) cx dX6_read_17 rfl (by decide) rfl ?_
    refine aw_aload_n cx dX6_read_18 rfl 0 rfl ?_
    refine aw_ifnonnull cx dX6_read_19 (tgt := 28) (by decide) ?_
    refine aw_iconst (n := 0) cx dX6_read_28 (by decide) ?_
    refine aw_istore_n (loc2 := [(3, aI 0), (2, aR q), (0, aR 0), (1, aI s)]) cx dX6_read_29 rfl (by decide) rfl ?_
    refine aw_iconst (n := 0) cx dX6_read_30 (by decide) ?_
    refine aw_istore (loc2 := [(4, aI 0), (3, aI 0), (2, aR q), (0, aR 0), (1, aI s)]) cx dX6_read_31 (by decide) rfl ?_
    have lp33q : ∀ (fu : Nat) (x3q : Int) (x4q : Int) (N33q : Mem), (0 ≤ x3q ∧ x4q = 3 * x3q ∧ x4q ≤ 60) → (FR [18, 19, 20, 21] M N33q) → (N33q 18 3 = M 18 3 + x3q) → (N33q 19 = RDA (M 19) (M (q + 1)) (M 18 3) x3q 0) → (N33q 20 = RDA (M 20) (M (q + 1)) (M 18 3) x3q 1) → (N33q 21 = RDA (M 21) (M (q + 1)) (M 18 3) x3q 2) → (∀ j : Nat, (j : Int) < x3q → 3 * j + 2 < n ∧ EVK (M (q + 1)) j ∧ M 18 3 + j < 8) → ((60 - x4q).toNat) < fu → AW X (LB ++ tl) 5 33 [(0, aR 0), (1, aI s), (2, aR q), (3, aI x3q), (4, aI x4q)] [] N33q := by
      intro fu
      induction fu with
      | zero =>
        intro x3q x4q N33q h0q hf hsz ha0 ha1 ha2 hall hm
        exact absurd hm (Nat.not_lt_zero _)
      | succ fu ih33q =>
        intro x3q x4q N33q h0q hf hsz ha0 ha1 ha2 hall hm
        refine aw_iload cx dX6_read_33 4 rfl ?_
        refine aw_iconst (n := 2) cx dX6_read_35 (by decide) ?_
        refine aw_iadd cx dX6_read_36 (by omega) (fun z36q hz36q => ?_)
        refine aw_aload_n cx dX6_read_37 rfl 2 rfl ?_
        refine aw_getR (q := q + 1) cx dX6_read_38 fl_X6_133 hq.2.1 rfl rfl ?_
        refine aw_alen cx dX6_read_41 hq.2.2.1 ?_
        refine aw_icmp_ge (tgt := 89) cx dX6_read_42 (by decide) (fun c42q => ?_) (fun c42q => ?_)
        · refine aw_iload_n cx dX6_read_89 rfl 3 rfl ?_
          refine aw_iret cx rt dX6_read_90 ?_
          exact ⟨x3q, rfl, hf, ⟨h0q.1, hall, Or.inl (by omega)⟩, hsz, ha0, ha1, ha2⟩
        · refine aw_aload_n cx dX6_read_45 rfl 0 rfl ?_
          refine aw_aload_n cx dX6_read_46 rfl 2 rfl ?_
          refine aw_getR (q := q + 1) cx dX6_read_47 fl_X6_133 hq.2.1 rfl rfl ?_
          refine aw_iload cx dX6_read_50 4 rfl ?_
          refine aw_iald cx dX6_read_52 hq.2.2.1 (⟨by omega, by omega⟩) (fun z52q hz52q lo_z52q hi_z52q => ?_)
          refine aw_aload_n cx dX6_read_53 rfl 2 rfl ?_
          refine aw_getR (q := q + 1) cx dX6_read_54 fl_X6_133 hq.2.1 rfl rfl ?_
          refine aw_iload cx dX6_read_57 4 rfl ?_
          refine aw_iconst (n := 1) cx dX6_read_59 (by decide) ?_
          refine aw_iadd cx dX6_read_60 (by omega) (fun z60q hz60q => ?_)
          refine aw_iald cx dX6_read_61 hq.2.2.1 (⟨by omega, by omega⟩) (fun z61q hz61q lo_z61q hi_z61q => ?_)
          refine aw_aload_n cx dX6_read_62 rfl 2 rfl ?_
          refine aw_getR (q := q + 1) cx dX6_read_63 fl_X6_133 hq.2.1 rfl rfl ?_
          refine aw_iload cx dX6_read_66 4 rfl ?_
          refine aw_iconst (n := 2) cx dX6_read_68 (by decide) ?_
          refine aw_iadd cx dX6_read_69 (by omega) (fun z69q hz69q => ?_)
          refine aw_iald cx dX6_read_70 hq.2.2.1 (⟨by omega, by omega⟩) (fun z70q hz70q lo_z70q hi_z70q => ?_)
          refine aw_callV (as := [aI z52q, aI z61q, aI z70q]) (k := 0) (stk := []) cx dX6_read_71 ml_X6_136 mv_X6_event rfl (lb_0 tl) (by decide) rfl rfl (Nat.le_of_ble_eq_true rfl) (ct_X6_event tl N33q _ _ _ ) (fun rr71q M_71q hp71q => ?_)
          obtain ⟨z71q, rfl, hevM_71⟩ := hp71q
          refine aw_eq (stk2 := [aI z71q]) ?_ rfl rfl rfl rfl
          rw [hf (q + 1) hqn, show x4q.toNat = 3 * x3q.toNat by omega] at hz52q
          rw [hf (q + 1) hqn, show z60q.toNat = 3 * x3q.toNat + 1 by omega] at hz61q
          rw [hf (q + 1) hqn, show z69q.toNat = 3 * x3q.toNat + 2 by omega] at hz70q
          refine aw_if_ge (tgt := 80) cx dX6_read_74 (by decide) (fun c74q => ?_) (fun c74q => ?_)
          · have hg : (M_71q 18 3 = N33q 18 3 + 1 ∧ FR [18, 19, 20, 21] N33q M_71q ∧ N33q 18 3 < 8 ∧ (0 ≤ z52q ∧ z52q ≤ 2 ∧ 0 ≤ z61q ∧ z61q ≤ 23 ∧ 0 ≤ z70q ∧ z70q ≤ 9)) ∧ M_71q 19 = up1 (N33q 19) (N33q 18 3).toNat z52q ∧ M_71q 20 = up1 (N33q 20) (N33q 18 3).toNat z61q ∧ M_71q 21 = up1 (N33q 21) (N33q 18 3).toNat z70q := by
              rcases hevM_71 with g | g | g
              · have := g.2.1; exfalso; omega
              · have := g.2.2.1; exfalso; omega
              · exact ⟨⟨g.2.2.2.2.1, g.2.2.2.1, g.2.1, g.1⟩, g.2.2.2.2.2⟩
            obtain ⟨⟨g1, g2, g3, g4⟩, g5, g6, g7⟩ := hg
            refine aw_iinc cx dX6_read_80 3 rfl (by decide) (by omega) (fun z80q hz80q => ?_)
            refine aw_loc (loc2 := [(3, aI z80q), (0, aR 0), (1, aI s), (2, aR q), (4, aI x4q)]) rfl ?_
            refine aw_iinc cx dX6_read_83 4 rfl (by decide) (by omega) (fun z83q hz83q => ?_)
            refine aw_loc (loc2 := [(4, aI z83q), (3, aI z80q), (0, aR 0), (1, aI s), (2, aR q)]) rfl ?_
            refine aw_goto (tgt := 33) cx dX6_read_86 (by decide) ?_
            refine aw_sub [2, 3, 4, 1, 0] rfl ?_
            refine ih33q _ _ _  ?i_h0 ?i_hf ?i_hsz ?i_ha0 ?i_ha1 ?i_ha2 ?i_hall ?i_m
            case i_h0 =>
              omega
            case i_hf =>
              exact hf.tr g2 (by decide)
            case i_hsz =>
              omega
            case i_ha0 =>
              rw [g5, hz80q]; exact RDA_s hse.1 h0q.1 ha0 (by omega) hz52q
            case i_ha1 =>
              rw [g6, hz80q]; exact RDA_s hse.1 h0q.1 ha1 (by omega) hz61q
            case i_ha2 =>
              rw [g7, hz80q]; exact RDA_s hse.1 h0q.1 ha2 (by omega) hz70q
            case i_hall =>
              intro j hj
              by_cases hjx : (j : Int) < x3q
              · exact hall j hjx
              · have hje : j = x3q.toNat := by omega
                subst hje
                refine ⟨by omega, ?_, by omega⟩
                unfold EVK
                rw [← hz52q, ← hz61q, ← hz70q]
                exact g4
            case i_m =>
              omega
          · refine aw_goto (tgt := 89) cx dX6_read_77 (by decide) ?_
            refine aw_iload_n cx dX6_read_89 rfl 3 rfl ?_
            refine aw_iret cx rt dX6_read_90 ?_
            have hg : M_71q = N33q ∧ (¬ EVK (M (q + 1)) x3q.toNat ∨ M 18 3 + x3q = 8) := by
              rcases hevM_71 with g | g | g
              · refine ⟨g.2.2, Or.inl (fun k => ?_)⟩
                unfold EVK at k
                rw [← hz52q, ← hz61q, ← hz70q] at k
                omega
              · exact ⟨g.2.2.2, Or.inr (by omega)⟩
              · have := g.2.2.1; exfalso; omega
            rw [hg.1]
            exact ⟨x3q, rfl, hf, ⟨h0q.1, hall, Or.inr hg.2⟩, hsz, ha0, ha1, ha2⟩
    refine aw_sub [3, 4, 2, 1, 0] rfl ?_
    refine lp33q _ _ _ _  ?i_h0 ?i_hf ?i_hsz ?i_ha0 ?i_ha1 ?i_ha2 ?i_hall (Nat.lt_succ_self _)
    case i_h0 =>
      omega
    case i_hf =>
      exact FR.rf
    case i_hsz =>
      omega
    case i_ha0 =>
      exact RDA_0.symm
    case i_ha1 =>
      exact RDA_0.symm
    case i_ha2 =>
      exact RDA_0.symm
    case i_hall =>
      intro j hj; exfalso; omega
  · exfalso
    have d5q := b2_y hz2q c5q
    omega
