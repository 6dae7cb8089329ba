set_option maxHeartbeats 1000000 in
set_option maxRecDepth 100000 in
theorem ct_X6_write_a (tl : List CD) (M : Mem) (town s : Int) (hl : 0 ≤ s → s < 4 → M 29 s.toNat = -1) : Ct 5 mX6_write (LB ++ tl) [aR 0, aI town, aI s] M (fun r M1 => ∃ x, r = some (aI x) ∧ (((town < 0 ∨ 8 ≤ town ∨ s < 0 ∨ 4 ≤ s) ∧ x = -2 ∧ M1 = M) ∨ ((0 ≤ town ∧ town < 8 ∧ 0 ≤ s ∧ s < 4) ∧ x = -11 ∧ M1 = up M 0 14 1))) := by
  refine Ct.of (own := RX6) rfl (by decide +kernel) (Nat.le_of_ble_eq_true rfl) (fun X cx rt => ?_)
  refine aw_eq (loc2 := [(0, aR 0), (1, aI town), (2, aI s)]) ?_ rfl rfl rfl rfl
  refine aw_rngL 1 rfl (fun rl_town rh_town => ?_)
  refine aw_rngL 2 rfl (fun rl_s rh_s => ?_)
  refine aw_iload_n cx dX6_write_0 rfl 1 rfl ?_
  refine aw_bipush (n := 8) cx dX6_write_1 (by decide) ?_
  refine aw_callS (as := [aI town, aI 8]) (stk := []) cx dX6_write_3 ml_X6_84 ms_X6_outside (by decide) rfl rfl (Nat.le_of_ble_eq_true rfl) (ct_X6_outside tl M _ _ ) (fun rr3q M_3q hp3q => ?_)
  obtain ⟨rfl, rfl⟩ := hp3q
  refine aw_top (stk := []) (fun z3q hz3q => ?_)
  refine aw_if_ne (tgt := 17) cx dX6_write_6 (by decide) (fun c6q => ?_) (fun c6q => ?_)
  · have d6q := b2_y hz3q c6q
    refine aw_bipush (n := (-2)) cx dX6_write_17 (by decide) ?_
    refine aw_iret cx rt dX6_write_19 ?_
    exact ⟨_, rfl, Or.inl ⟨by omega, rfl, rfl⟩⟩
  · have d6q := b2_e0.mp (hz3q.symm.trans c6q)
    refine aw_iload_n cx dX6_write_9 rfl 2 rfl ?_
    refine aw_iconst (n := 4) cx dX6_write_10 (by decide) ?_
    refine aw_callS (as := [aI s, aI 4]) (stk := []) cx dX6_write_11 ml_X6_84 ms_X6_outside (by decide) rfl rfl (Nat.le_of_ble_eq_true rfl) (ct_X6_outside tl M _ _ ) (fun rr11q M_11q hp11q => ?_)
    obtain ⟨rfl, rfl⟩ := hp11q
    refine aw_top (stk := []) (fun z11q hz11q => ?_)
    refine aw_if_eq (tgt := 20) cx dX6_write_14 (by decide) (fun c14q => ?_) (fun c14q => ?_)
    · have d14q := b2_e0.mp (hz11q.symm.trans c14q)
      refine aw_aload_n cx dX6_write_20 rfl 0 rfl ?_
      refine aw_getR (q := 29) cx dX6_write_21 fl_X6_63 (lb_0 tl) rfl rfl ?_
      refine aw_iload_n cx dX6_write_24 rfl 2 rfl ?_
      refine aw_aald (v := aN) cx dX6_write_25 (lb_29 tl) (⟨by omega, by omega⟩) (sl_n (hl (by omega) (by omega))) ?_
      refine aw_astore_nN (loc2 := [(3, aN), (0, aR 0), (1, aI town), (2, aI s)]) cx dX6_write_26 rfl (by decide) rfl ?_
      refine aw_aload_nN cx dX6_write_27 rfl 0 rfl ?_
      refine aw_ifnonnullN cx dX6_write_28 ?_
      refine aw_aload_n cx dX6_write_31 rfl 1 rfl ?_
      refine aw_iconst (n := 1) cx dX6_write_32 (by decide) ?_
      refine aw_callV (as := [aI 1]) (k := 0) (stk := []) cx dX6_write_33 ml_X6_129 mv_X6_finding rfl (lb_0 tl) (by decide) rfl rfl (Nat.le_of_ble_eq_true rfl) (ct_X6_finding tl M _ (by first | assumption | omega)) (fun rr33q M_33q hp33q => ?_)
      obtain ⟨z33q, rfl, hMuM_33, hxM_33⟩ := hp33q
      refine aw_eq (stk2 := [aI z33q]) ?_ rfl rfl rfl rfl
      refine aw_iret cx rt dX6_write_36 ?_
      exact ⟨_, rfl, Or.inr ⟨by omega, by omega, hMuM_33⟩⟩
    · have d14q := b2_y hz11q c14q
      refine aw_bipush (n := (-2)) cx dX6_write_17 (by decide) ?_
      refine aw_iret cx rt dX6_write_19 ?_
      exact ⟨_, rfl, Or.inl ⟨by omega, rfl, rfl⟩⟩
set_option maxHeartbeats 1000000 in
set_option maxRecDepth 100000 in
theorem ct_X6_write_p (tl : List CD) (M : Mem) (town s : Int) (q n : Nat) (hs : 0 ≤ s ∧ s < 4) (hsq : M 29 s.toNat = (q : Int)) (hq : SHQ tl q n) : Ct 5 mX6_write (LB ++ tl) [aR 0, aI town, aI s] M (fun r M1 => ∃ x, r = some (aI x) ∧ (((town < 0 ∨ 8 ≤ town) ∧ x = -2 ∧ M1 = M) ∨ ((0 ≤ town ∧ town < 8) ∧ x = min 24 (n : Int) ∧ (∀ a, a ∉ SC → a ≠ q + 1 → M1 a = M a) ∧ ∀ i : Nat, M1 (q + 1) i = if (i : Int) < x then max 0 (fSTD (-1) (fgT M) (i : Int) town.toNat) else M (q + 1) i))) := by
  refine Ct.of (own := RX6) rfl (by decide +kernel) (Nat.le_of_ble_eq_true rfl) (fun X cx rt => ?_)
  refine aw_eq (loc2 := [(0, aR 0), (1, aI town), (2, aI s)]) ?_ rfl rfl rfl rfl
  refine aw_rngL 1 rfl (fun rl_town rh_town => ?_)
  refine aw_rngL 2 rfl (fun rl_s rh_s => ?_)
  refine aw_ok (fun om => ?_)
  have hNN : ∀ j, 0 ≤ M 6 j := fun j => (okA om (lb_6 tl) j).1
  have hn60 := hq.2.2.2
  have hq65 := hq.1
  refine aw_iload_n cx dX6_write_0 rfl 1 rfl ?_
  refine aw_bipush (n := 8) cx dX6_write_1 (by decide) ?_
  refine aw_callS (as := [aI town, aI 8]) (stk := []) cx dX6_write_3 ml_X6_84 ms_X6_outside (by decide) rfl rfl (Nat.le_of_ble_eq_true rfl) (ct_X6_outside tl M _ _ ) (fun rr3q M_3q hp3q => ?_)
  obtain ⟨rfl, rfl⟩ := hp3q
  refine aw_top (stk := []) (fun z3q hz3q => ?_)
  refine aw_if_ne (tgt := 17) cx dX6_write_6 (by decide) (fun c6q => ?_) (fun c6q => ?_)
  · have d6q := b2_y hz3q c6q
    refine aw_bipush (n := (-2)) cx dX6_write_17 (by decide) ?_
    refine aw_iret cx rt dX6_write_19 ?_
    exact ⟨_, rfl, Or.inl ⟨by omega, rfl, rfl⟩⟩
  · have d6q := b2_e0.mp (hz3q.symm.trans c6q)
    refine aw_iload_n cx dX6_write_9 rfl 2 rfl ?_
    refine aw_iconst (n := 4) cx dX6_write_10 (by decide) ?_
    refine aw_callS (as := [aI s, aI 4]) (stk := []) cx dX6_write_11 ml_X6_84 ms_X6_outside (by decide) rfl rfl (Nat.le_of_ble_eq_true rfl) (ct_X6_outside tl M _ _ ) (fun rr11q M_11q hp11q => ?_)
    obtain ⟨rfl, rfl⟩ := hp11q
    refine aw_top (stk := []) (fun z11q hz11q => ?_)
    refine aw_if_eq (tgt := 20) cx dX6_write_14 (by decide) (fun c14q => ?_) (fun c14q => ?_)
    · have d14q := b2_e0.mp (hz11q.symm.trans c14q)
      refine aw_aload_n cx dX6_write_20 rfl 0 rfl ?_
      refine aw_getR (q := 29) cx dX6_write_21 fl_X6_63 (lb_0 tl) rfl rfl ?_
      refine aw_iload_n cx dX6_write_24 rfl 2 rfl ?_
      refine aw_aald (v := aR q) cx dX6_write_25 (lb_29 tl) (⟨by omega, by omega⟩) (sl_q hsq) ?_
      refine aw_astore_n (loc2 := [(3, aR q), (0, aR 0), (1, aI town), (2, aI s)]) cx dX6_write_26 rfl (by decide) rfl ?_
      refine aw_aload_n cx dX6_write_27 rfl 0 rfl ?_
      refine aw_ifnonnull cx dX6_write_28 (tgt := 37) (by decide) ?_
      refine aw_aload_n cx dX6_write_37 rfl 1 rfl ?_
      refine aw_callV (as := []) (k := 0) (stk := []) cx dX6_write_38 ml_X6_143 mv_X6_hearAsTold rfl (lb_0 tl) (by decide) rfl rfl (Nat.le_of_ble_eq_true rfl) (ct_X6_hearAsTold tl M  ) (fun rr38q M_38q hp38q => ?_)
      obtain ⟨rfl, hfrM_38, hrnM_38, hkkM_38, htlM_38, hctM_38⟩ := hp38q
      refine aw_eq (stk2 := []) ?_ rfl rfl rfl rfl
      have e38q := hfrM_38 (q + 1) (by simp only [List.mem_cons, List.not_mem_nil, or_false]; omega)
      refine aw_bipush (n := 24) cx dX6_write_41 (by decide) ?_
      refine aw_aload_n cx dX6_write_43 rfl 0 rfl ?_
      refine aw_getR (q := q + 1) cx dX6_write_44 fl_X6_133 hq.2.1 rfl rfl ?_
      refine aw_alen cx dX6_write_47 hq.2.2.1 ?_
      refine aw_mmin (stk := []) cx dX6_write_48 ml_X6_263 (by decide) (Nat.le_of_ble_eq_true rfl) (fun z48q hz48q => ?_)
      refine aw_istore (loc2 := [(4, aI z48q), (3, aR q), (0, aR 0), (1, aI town), (2, aI s)]) cx dX6_write_51 (by decide) rfl ?_
      refine aw_iconst (n := 0) cx dX6_write_53 (by decide) ?_
      refine aw_istore (loc2 := [(5, aI 0), (4, aI z48q), (3, aR q), (0, aR 0), (1, aI town), (2, aI s)]) cx dX6_write_54 (by decide) rfl ?_
      have lp56q : ∀ (fu : Nat) (x5q : Int) (N56q : Mem), (0 ≤ x5q ∧ x5q ≤ z48q) → (∀ a, a ≠ q + 1 → N56q a = M_38q a) → (∀ i : Nat, N56q (q + 1) i = if (i : Int) < x5q then max 0 (fSTD (-1) (fgT M) (i : Int) town.toNat) else M (q + 1) i) → ((z48q - x5q).toNat) < fu → AW X (LB ++ tl) 6 56 [(0, aR 0), (1, aI town), (2, aI s), (3, aR q), (4, aI z48q), (5, aI x5q)] [] N56q := by
        intro fu
        induction fu with
        | zero =>
          intro x5q N56q h0q hN hc hm
          exact absurd hm (Nat.not_lt_zero _)
        | succ fu ih56q =>
          intro x5q N56q h0q hN hc hm
          refine aw_iload cx dX6_write_56 5 rfl ?_
          refine aw_iload cx dX6_write_58 4 rfl ?_
          refine aw_icmp_ge (tgt := 90) cx dX6_write_60 (by decide) (fun c60q => ?_) (fun c60q => ?_)
          · refine aw_iload cx dX6_write_90 4 rfl ?_
            refine aw_iret cx rt dX6_write_92 ?_
            refine ⟨_, rfl, Or.inr ⟨by omega, hz48q, fun a ha hb => ?_, fun i => ?_⟩⟩
            · rw [hN a hb]; exact hfrM_38.sc a ha
            · rw [hc i, show x5q = z48q by omega]
          · refine aw_aload_n cx dX6_write_63 rfl 3 rfl ?_
            refine aw_getR (q := q + 1) cx dX6_write_64 fl_X6_133 hq.2.1 rfl rfl ?_
            refine aw_iload cx dX6_write_67 5 rfl ?_
            refine aw_iconst (n := 0) cx dX6_write_69 (by decide) ?_
            refine aw_aload_n cx dX6_write_70 rfl 0 rfl ?_
            refine aw_getR (q := 22) cx dX6_write_71 fl_X6_50 (lb_0 tl) rfl rfl ?_
            refine aw_iload cx dX6_write_74 5 rfl ?_
            refine aw_iload_n cx dX6_write_76 rfl 1 rfl ?_
            refine aw_callV (as := [aI x5q, aI town]) (k := 22) (stk := [aI 0, aI x5q, aR (q + 1)]) cx dX6_write_77 ml_X6_156 mv_X0_standing rfl (lb_22 tl) (by decide) rfl rfl (Nat.le_of_ble_eq_true rfl) (ct_X0_standing tl N56q 5 _ _ (Or.inl rfl) (by rw [hN 22 (by omega)]; exact htlM_38) (by omega) (by omega)) (fun rr77q M_77q hp77q => ?_)
            obtain ⟨rfl, rfl⟩ := hp77q
            refine aw_top (stk := [aI 0, aI x5q, aR (q + 1)]) (fun z77q hz77q => ?_)
            refine aw_rngS (fun lz77 gz77 => ?_)
            have r77 : z77q = fSTD (-1) (fgT M) x5q town.toNat := by
              have q := hz77q
              change z77q = STD (N56q 5 4).toNat (N56q 18 3).toNat (N56q 25 town.toNat) (N56q 24) (N56q 6) (N56q 7) (N56q 26) (N56q 20) (N56q 21) x5q town at q
              rw [hN 5 (by omega), hN 18 (by omega), hN 25 (by omega), hN 24 (by omega), hN 6 (by omega), hN 7 (by omega), hN 26 (by omega), hN 20 (by omega), hN 21 (by omega)] at q
              rw [q]
              exact told_stdI hfrM_38 hrnM_38 hkkM_38 hNN (by omega)
            refine aw_mmax (stk := [aI x5q, aR (q + 1)]) cx dX6_write_80 ml_X6_160 (by decide) (Nat.le_of_ble_eq_true rfl) (fun z80q hz80q => ?_)
            refine aw_iast cx dX6_write_83 hq.2.2.1 (⟨by omega, by omega⟩) (⟨by omega, by omega⟩) ?_
            obtain ⟨M_83q, hM_83q⟩ : ∃ qm, qm = up N56q (q + 1) (Int.toNat (x5q)) (z80q) := ⟨_, rfl⟩
            rw [← hM_83q]
            refine aw_iinc cx dX6_write_84 5 rfl (by decide) (by omega) (fun z84q hz84q => ?_)
            refine aw_loc (loc2 := [(5, aI z84q), (0, aR 0), (1, aI town), (2, aI s), (3, aR q), (4, aI z48q)]) rfl ?_
            refine aw_goto (tgt := 56) cx dX6_write_87 (by decide) ?_
            refine aw_sub [1, 2, 3, 4, 5, 0] rfl ?_
            refine ih56q _ _  ?i_h0 ?i_hN ?i_hc ?i_m
            case i_h0 =>
              omega
            case i_hN =>
              intro a ha; rw [hM_83q, up_off ha]; exact hN a ha
            case i_hc =>
              intro i
              rw [hM_83q]
              by_cases hi : i = x5q.toNat
              · rw [hi, up_at, if_pos (by omega), hz80q, r77, show ((x5q.toNat : Nat) : Int) = x5q by omega]
              · rw [up_nj hi, hc i]
                by_cases hj : (i : Int) < x5q
                · rw [if_pos hj, if_pos (by omega)]
                · rw [if_neg hj, if_neg (by omega)]
            case i_m =>
              omega
      refine aw_sub [3, 4, 5, 2, 1, 0] rfl ?_
      refine lp56q _ _ _  ?i_h0 ?i_hN ?i_hc (Nat.lt_succ_self _)
      case i_h0 =>
        omega
      case i_hN =>
        exact fun _ _ => rfl
      case i_hc =>
        intro i; rw [if_neg (by omega), e38q]
    · exfalso
      have d14q := b2_y hz11q c14q
      omega
set_option maxHeartbeats 1000000 in
set_option maxRecDepth 100000 in
theorem ct_X6_copy_n (tl : List CD) (M : Mem) (s fro t to2 len : Int) (hl : (0 ≤ s ∧ s < 4 ∧ 0 ≤ t ∧ t < 4) → M 29 s.toNat = -1) (hk : (0 ≤ s ∧ s < 4 ∧ 0 ≤ t ∧ t < 4) → M 29 t.toNat = -1) : Ct 1 mX6_copy (LB ++ tl) [aR 0, aI s, aI fro, aI t, aI to2, aI len] M (fun r M1 => ∃ x, r = some (aI x) ∧ (((s < 0 ∨ 4 ≤ s ∨ t < 0 ∨ 4 ≤ t) ∧ x = -2 ∧ M1 = M) ∨ ((0 ≤ s ∧ s < 4 ∧ 0 ≤ t ∧ t < 4) ∧ x = -11 ∧ M1 = up M 0 14 1))) := by
  refine Ct.of (own := RX6) rfl (by decide +kernel) (Nat.le_of_ble_eq_true rfl) (fun X cx rt => ?_)
  refine aw_eq (loc2 := [(0, aR 0), (1, aI s), (2, aI fro), (3, aI t), (4, aI to2), (5, aI len)]) ?_ rfl rfl rfl rfl
  refine aw_rngL 1 rfl (fun rl_s rh_s => ?_)
  refine aw_rngL 2 rfl (fun rl_fro rh_fro => ?_)
  refine aw_rngL 3 rfl (fun rl_t rh_t => ?_)
  refine aw_rngL 4 rfl (fun rl_to2 rh_to2 => ?_)
  refine aw_rngL 5 rfl (fun rl_len rh_len => ?_)
  refine aw_iload_n cx dX6_copy_0 rfl 1 rfl ?_
  refine aw_iconst (n := 4) cx dX6_copy_1 (by decide) ?_
  refine aw_callS (as := [aI s, aI 4]) (stk := []) cx dX6_copy_2 ml_X6_84 ms_X6_outside (by decide) rfl rfl (Nat.le_of_ble_eq_true rfl) (ct_X6_outside tl M _ _ ) (fun rr2q M_2q hp2q => ?_)
  obtain ⟨rfl, rfl⟩ := hp2q
  refine aw_top (stk := []) (fun z2q hz2q => ?_)
  refine aw_if_ne (tgt := 16) cx dX6_copy_5 (by decide) (fun c5q => ?_) (fun c5q => ?_)
  · have d5q := b2_y hz2q c5q
    refine aw_bipush (n := (-2)) cx dX6_copy_16 (by decide) ?_
    refine aw_iret cx rt dX6_copy_18 ?_
    exact ⟨_, rfl, Or.inl ⟨by omega, rfl, rfl⟩⟩
  · have d5q := b2_e0.mp (hz2q.symm.trans c5q)
    refine aw_iload_n cx dX6_copy_8 rfl 3 rfl ?_
    refine aw_iconst (n := 4) cx dX6_copy_9 (by decide) ?_
    refine aw_callS (as := [aI t, aI 4]) (stk := []) cx dX6_copy_10 ml_X6_84 ms_X6_outside (by decide) rfl rfl (Nat.le_of_ble_eq_true rfl) (ct_X6_outside tl M _ _ ) (fun rr10q M_10q hp10q => ?_)
    obtain ⟨rfl, rfl⟩ := hp10q
    refine aw_top (stk := []) (fun z10q hz10q => ?_)
    refine aw_if_eq (tgt := 19) cx dX6_copy_13 (by decide) (fun c13q => ?_) (fun c13q => ?_)
    · have d13q := b2_e0.mp (hz10q.symm.trans c13q)
      refine aw_aload_n cx dX6_copy_19 rfl 0 rfl ?_
      refine aw_getR (q := 29) cx dX6_copy_20 fl_X6_63 (lb_0 tl) rfl rfl ?_
      refine aw_iload_n cx dX6_copy_23 rfl 1 rfl ?_
      refine aw_aald (v := aN) cx dX6_copy_24 (lb_29 tl) (⟨by omega, by omega⟩) (sl_n (hl (by omega))) ?_
      refine aw_astoreN (loc2 := [(6, aN), (0, aR 0), (1, aI s), (2, aI fro), (3, aI t), (4, aI to2), (5, aI len)]) cx dX6_copy_25 (by decide) rfl ?_
      refine aw_aload_n cx dX6_copy_27 rfl 1 rfl ?_
      refine aw_getR (q := 29) cx dX6_copy_28 fl_X6_63 (lb_0 tl) rfl rfl ?_
      refine aw_iload_n cx dX6_copy_31 rfl 4 rfl ?_
      refine aw_aald (v := aN) cx dX6_copy_32 (lb_29 tl) (⟨by omega, by omega⟩) (sl_n (hk (by omega))) ?_
      refine aw_astoreN (loc2 := [(7, aN), (6, aN), (0, aR 0), (1, aI s), (2, aI fro), (3, aI t), (4, aI to2), (5, aI len)]) cx dX6_copy_33 (by decide) rfl ?_
      refine aw_aloadN cx dX6_copy_35 1 rfl ?_
      refine aw_ifnullN cx dX6_copy_37 (tgt := 45) (by decide) ?_
      refine aw_aload_n cx dX6_copy_45 rfl 2 rfl ?_
      refine aw_iconst (n := 1) cx dX6_copy_46 (by decide) ?_
      refine aw_callV (as := [aI 1]) (k := 0) (stk := []) cx dX6_copy_47 ml_X6_129 mv_X6_finding rfl (lb_0 tl) (by decide) rfl rfl (Nat.le_of_ble_eq_true rfl) (ct_X6_finding tl M _ (by first | assumption | omega)) (fun rr47q M_47q hp47q => ?_)
      obtain ⟨z47q, rfl, hMuM_47, hxM_47⟩ := hp47q
      refine aw_eq (stk2 := [aI z47q]) ?_ rfl rfl rfl rfl
      refine aw_iret cx rt dX6_copy_50 ?_
      exact ⟨_, rfl, Or.inr ⟨by omega, by omega, hMuM_47⟩⟩
    · have d13q := b2_y hz10q c13q
      refine aw_bipush (n := (-2)) cx dX6_copy_16 (by decide) ?_
      refine aw_iret cx rt dX6_copy_18 ?_
      exact ⟨_, rfl, Or.inl ⟨by omega, rfl, rfl⟩⟩
set_option maxHeartbeats 1000000 in
set_option maxRecDepth 100000 in
theorem ct_X6_copy_l (tl : List CD) (M : Mem) (s fro t to2 len : Int) (pp mm : Nat) (hs : 0 ≤ s ∧ s < 4) (ht : 0 ≤ t ∧ t < 4) (hl : M 29 s.toNat = -1) (htq : M 29 t.toNat = (pp : Int)) (hr : SHQ tl pp mm) : Ct 1 mX6_copy (LB ++ tl) [aR 0, aI s, aI fro, aI t, aI to2, aI len] M (fun r M1 => ∃ x, r = some (aI x) ∧ x = -11 ∧ M1 = up M 0 14 1) := by
  refine Ct.of (own := RX6) rfl (by decide +kernel) (Nat.le_of_ble_eq_true rfl) (fun X cx rt => ?_)
  refine aw_eq (loc2 := [(0, aR 0), (1, aI s), (2, aI fro), (3, aI t), (4, aI to2), (5, aI len)]) ?_ rfl rfl rfl rfl
  refine aw_rngL 1 rfl (fun rl_s rh_s => ?_)
  refine aw_rngL 2 rfl (fun rl_fro rh_fro => ?_)
  refine aw_rngL 3 rfl (fun rl_t rh_t => ?_)
  refine aw_rngL 4 rfl (fun rl_to2 rh_to2 => ?_)
  refine aw_rngL 5 rfl (fun rl_len rh_len => ?_)
  refine aw_iload_n cx dX6_copy_0 rfl 1 rfl ?_
  refine aw_iconst (n := 4) cx dX6_copy_1 (by decide) ?_
  refine aw_callS (as := [aI s, aI 4]) (stk := []) cx dX6_copy_2 ml_X6_84 ms_X6_outside (by decide) rfl rfl (Nat.le_of_ble_eq_true rfl) (ct_X6_outside tl M _ _ ) (fun rr2q M_2q hp2q => ?_)
  obtain ⟨rfl, rfl⟩ := hp2q
  refine aw_top (stk := []) (fun z2q hz2q => ?_)
  refine aw_if_ne (tgt := 16) cx dX6_copy_5 (by decide) (fun c5q => ?_) (fun c5q => ?_)
  · exfalso
    have d5q := b2_y hz2q c5q
    omega
  · have d5q := b2_e0.mp (hz2q.symm.trans c5q)
    refine aw_iload_n cx dX6_copy_8 rfl 3 rfl ?_
    refine aw_iconst (n := 4) cx dX6_copy_9 (by decide) ?_
    refine aw_callS (as := [aI t, aI 4]) (stk := []) cx dX6_copy_10 ml_X6_84 ms_X6_outside (by decide) rfl rfl (Nat.le_of_ble_eq_true rfl) (ct_X6_outside tl M _ _ ) (fun rr10q M_10q hp10q => ?_)
    obtain ⟨rfl, rfl⟩ := hp10q
    refine aw_top (stk := []) (fun z10q hz10q => ?_)
    refine aw_if_eq (tgt := 19) cx dX6_copy_13 (by decide) (fun c13q => ?_) (fun c13q => ?_)
    · have d13q := b2_e0.mp (hz10q.symm.trans c13q)
      refine aw_aload_n cx dX6_copy_19 rfl 0 rfl ?_
      refine aw_getR (q := 29) cx dX6_copy_20 fl_X6_63 (lb_0 tl) rfl rfl ?_
      refine aw_iload_n cx dX6_copy_23 rfl 1 rfl ?_
      refine aw_aald (v := aN) cx dX6_copy_24 (lb_29 tl) (⟨by omega, by omega⟩) (sl_n hl) ?_
      refine aw_astoreN (loc2 := [(6, aN), (0, aR 0), (1, aI s), (2, aI fro), (3, aI t), (4, aI to2), (5, aI len)]) cx dX6_copy_25 (by decide) rfl ?_
      refine aw_aload_n cx dX6_copy_27 rfl 1 rfl ?_
      refine aw_getR (q := 29) cx dX6_copy_28 fl_X6_63 (lb_0 tl) rfl rfl ?_
      refine aw_iload_n cx dX6_copy_31 rfl 4 rfl ?_
      refine aw_aald (v := aR pp) cx dX6_copy_32 (lb_29 tl) (⟨by omega, by omega⟩) (sl_q htq) ?_
      refine aw_astore (loc2 := [(7, aR pp), (6, aN), (0, aR 0), (1, aI s), (2, aI fro), (3, aI t), (4, aI to2), (5, aI len)]) cx dX6_copy_33 (by decide) rfl ?_
      refine aw_aloadN cx dX6_copy_35 1 rfl ?_
      refine aw_ifnullN cx dX6_copy_37 (tgt := 45) (by decide) ?_
      refine aw_aload_n cx dX6_copy_45 rfl 2 rfl ?_
      refine aw_iconst (n := 1) cx dX6_copy_46 (by decide) ?_
      refine aw_callV (as := [aI 1]) (k := 0) (stk := []) cx dX6_copy_47 ml_X6_129 mv_X6_finding rfl (lb_0 tl) (by decide) rfl rfl (Nat.le_of_ble_eq_true rfl) (ct_X6_finding tl M _ (by first | assumption | omega)) (fun rr47q M_47q hp47q => ?_)
      obtain ⟨z47q, rfl, hMuM_47, hxM_47⟩ := hp47q
      refine aw_eq (stk2 := [aI z47q]) ?_ rfl rfl rfl rfl
      refine aw_iret cx rt dX6_copy_50 ?_
      exact ⟨_, rfl, by omega, hMuM_47⟩
    · exfalso
      have d13q := b2_y hz10q c13q
      omega
set_option maxHeartbeats 1000000 in
set_option maxRecDepth 100000 in
theorem ct_X6_copy_r (tl : List CD) (M : Mem) (s fro t to2 len : Int) (q n : Nat) (hs : 0 ≤ s ∧ s < 4) (ht : 0 ≤ t ∧ t < 4) (hk : M 29 t.toNat = -1) (hsq : M 29 s.toNat = (q : Int)) (hq : SHQ tl q n) : Ct 1 mX6_copy (LB ++ tl) [aR 0, aI s, aI fro, aI t, aI to2, aI len] M (fun r M1 => ∃ x, r = some (aI x) ∧ x = -11 ∧ M1 = up M 0 14 1) := by
  refine Ct.of (own := RX6) rfl (by decide +kernel) (Nat.le_of_ble_eq_true rfl) (fun X cx rt => ?_)
  refine aw_eq (loc2 := [(0, aR 0), (1, aI s), (2, aI fro), (3, aI t), (4, aI to2), (5, aI len)]) ?_ rfl rfl rfl rfl
  refine aw_rngL 1 rfl (fun rl_s rh_s => ?_)
  refine aw_rngL 2 rfl (fun rl_fro rh_fro => ?_)
  refine aw_rngL 3 rfl (fun rl_t rh_t => ?_)
  refine aw_rngL 4 rfl (fun rl_to2 rh_to2 => ?_)
  refine aw_rngL 5 rfl (fun rl_len rh_len => ?_)
  refine aw_iload_n cx dX6_copy_0 rfl 1 rfl ?_
  refine aw_iconst (n := 4) cx dX6_copy_1 (by decide) ?_
  refine aw_callS (as := [aI s, aI 4]) (stk := []) cx dX6_copy_2 ml_X6_84 ms_X6_outside (by decide) rfl rfl (Nat.le_of_ble_eq_true rfl) (ct_X6_outside tl M _ _ ) (fun rr2q M_2q hp2q => ?_)
  obtain ⟨rfl, rfl⟩ := hp2q
  refine aw_top (stk := []) (fun z2q hz2q => ?_)
  refine aw_if_ne (tgt := 16) cx dX6_copy_5 (by decide) (fun c5q => ?_) (fun c5q => ?_)
  · exfalso
    have d5q := b2_y hz2q c5q
    omega
  · have d5q := b2_e0.mp (hz2q.symm.trans c5q)
    refine aw_iload_n cx dX6_copy_8 rfl 3 rfl ?_
    refine aw_iconst (n := 4) cx dX6_copy_9 (by decide) ?_
    refine aw_callS (as := [aI t, aI 4]) (stk := []) cx dX6_copy_10 ml_X6_84 ms_X6_outside (by decide) rfl rfl (Nat.le_of_ble_eq_true rfl) (ct_X6_outside tl M _ _ ) (fun rr10q M_10q hp10q => ?_)
    obtain ⟨rfl, rfl⟩ := hp10q
    refine aw_top (stk := []) (fun z10q hz10q => ?_)
    refine aw_if_eq (tgt := 19) cx dX6_copy_13 (by decide) (fun c13q => ?_) (fun c13q => ?_)
    · have d13q := b2_e0.mp (hz10q.symm.trans c13q)
      refine aw_aload_n cx dX6_copy_19 rfl 0 rfl ?_
      refine aw_getR (q := 29) cx dX6_copy_20 fl_X6_63 (lb_0 tl) rfl rfl ?_
      refine aw_iload_n cx dX6_copy_23 rfl 1 rfl ?_
      refine aw_aald (v := aR q) cx dX6_copy_24 (lb_29 tl) (⟨by omega, by omega⟩) (sl_q hsq) ?_
      refine aw_astore (loc2 := [(6, aR q), (0, aR 0), (1, aI s), (2, aI fro), (3, aI t), (4, aI to2), (5, aI len)]) cx dX6_copy_25 (by decide) rfl ?_
      refine aw_aload_n cx dX6_copy_27 rfl 1 rfl ?_
      refine aw_getR (q := 29) cx dX6_copy_28 fl_X6_63 (lb_0 tl) rfl rfl ?_
      refine aw_iload_n cx dX6_copy_31 rfl 4 rfl ?_
      refine aw_aald (v := aN) cx dX6_copy_32 (lb_29 tl) (⟨by omega, by omega⟩) (sl_n hk) ?_
      refine aw_astoreN (loc2 := [(7, aN), (6, aR q), (0, aR 0), (1, aI s), (2, aI fro), (3, aI t), (4, aI to2), (5, aI len)]) cx dX6_copy_33 (by decide) rfl ?_
      refine aw_aload cx dX6_copy_35 1 rfl ?_
      refine aw_ifnull cx dX6_copy_37 ?_
      refine aw_aloadN cx dX6_copy_40 0 rfl ?_
      refine aw_ifnonnullN cx dX6_copy_42 ?_
      refine aw_aload_n cx dX6_copy_45 rfl 2 rfl ?_
      refine aw_iconst (n := 1) cx dX6_copy_46 (by decide) ?_
      refine aw_callV (as := [aI 1]) (k := 0) (stk := []) cx dX6_copy_47 ml_X6_129 mv_X6_finding rfl (lb_0 tl) (by decide) rfl rfl (Nat.le_of_ble_eq_true rfl) (ct_X6_finding tl M _ (by first | assumption | omega)) (fun rr47q M_47q hp47q => ?_)
      obtain ⟨z47q, rfl, hMuM_47, hxM_47⟩ := hp47q
      refine aw_eq (stk2 := [aI z47q]) ?_ rfl rfl rfl rfl
      refine aw_iret cx rt dX6_copy_50 ?_
      exact ⟨_, rfl, by omega, hMuM_47⟩
    · exfalso
      have d13q := b2_y hz10q c13q
      omega
set_option maxHeartbeats 1000000 in
set_option maxRecDepth 100000 in
theorem ct_X6_copy_p (tl : List CD) (M : Mem) (s fro t to2 len : Int) (q n pp mm : Nat) (hs : 0 ≤ s ∧ s < 4) (ht : 0 ≤ t ∧ t < 4) (hsq : M 29 s.toNat = (q : Int)) (hq : SHQ tl q n) (htq : M 29 t.toNat = (pp : Int)) (hr : SHQ tl pp mm) : Ct 1 mX6_copy (LB ++ tl) [aR 0, aI s, aI fro, aI t, aI to2, aI len] M (fun r M1 => ∃ x, r = some (aI x) ∧ ((M q 0 ≠ M pp 0 ∧ x = -14 ∧ M1 = up M 0 14 4) ∨ (M q 0 = M pp 0 ∧ ¬ (0 ≤ len ∧ 0 ≤ fro ∧ fro + len ≤ n ∧ 0 ≤ to2 ∧ to2 + len ≤ mm) ∧ x = -12 ∧ M1 = up M 0 14 2) ∨ (M q 0 = M pp 0 ∧ (0 ≤ len ∧ 0 ≤ fro ∧ fro + len ≤ n ∧ 0 ≤ to2 ∧ to2 + len ≤ mm) ∧ x = 1 ∧ M1 = cpM M (q + 1) (pp + 1) fro.toNat to2.toNat len.toNat))) := by
  refine Ct.of (own := RX6) rfl (by decide +kernel) (Nat.le_of_ble_eq_true rfl) (fun X cx rt => ?_)
  refine aw_eq (loc2 := [(0, aR 0), (1, aI s), (2, aI fro), (3, aI t), (4, aI to2), (5, aI len)]) ?_ rfl rfl rfl rfl
  refine aw_rngL 1 rfl (fun rl_s rh_s => ?_)
  refine aw_rngL 2 rfl (fun rl_fro rh_fro => ?_)
  refine aw_rngL 3 rfl (fun rl_t rh_t => ?_)
  refine aw_rngL 4 rfl (fun rl_to2 rh_to2 => ?_)
  refine aw_rngL 5 rfl (fun rl_len rh_len => ?_)
  have hn60 := hq.2.2.2
  have hm60 := hr.2.2.2
  refine aw_iload_n cx dX6_copy_0 rfl 1 rfl ?_
  refine aw_iconst (n := 4) cx dX6_copy_1 (by decide) ?_
  refine aw_callS (as := [aI s, aI 4]) (stk := []) cx dX6_copy_2 ml_X6_84 ms_X6_outside (by decide) rfl rfl (Nat.le_of_ble_eq_true rfl) (ct_X6_outside tl M _ _ ) (fun rr2q M_2q hp2q => ?_)
  obtain ⟨rfl, rfl⟩ := hp2q
  refine aw_top (stk := []) (fun z2q hz2q => ?_)
  refine aw_if_ne (tgt := 16) cx dX6_copy_5 (by decide) (fun c5q => ?_) (fun c5q => ?_)
  · exfalso
    have d5q := b2_y hz2q c5q
    omega
  · have d5q := b2_e0.mp (hz2q.symm.trans c5q)
    refine aw_iload_n cx dX6_copy_8 rfl 3 rfl ?_
    refine aw_iconst (n := 4) cx dX6_copy_9 (by decide) ?_
    refine aw_callS (as := [aI t, aI 4]) (stk := []) cx dX6_copy_10 ml_X6_84 ms_X6_outside (by decide) rfl rfl (Nat.le_of_ble_eq_true rfl) (ct_X6_outside tl M _ _ ) (fun rr10q M_10q hp10q => ?_)
    obtain ⟨rfl, rfl⟩ := hp10q
    refine aw_top (stk := []) (fun z10q hz10q => ?_)
    refine aw_if_eq (tgt := 19) cx dX6_copy_13 (by decide) (fun c13q => ?_) (fun c13q => ?_)
    · have d13q := b2_e0.mp (hz10q.symm.trans c13q)
      refine aw_aload_n cx dX6_copy_19 rfl 0 rfl ?_
      refine aw_getR (q := 29) cx dX6_copy_20 fl_X6_63 (lb_0 tl) rfl rfl ?_
      refine aw_iload_n cx dX6_copy_23 rfl 1 rfl ?_
      refine aw_aald (v := aR q) cx dX6_copy_24 (lb_29 tl) (⟨by omega, by omega⟩) (sl_q hsq) ?_
      refine aw_astore (loc2 := [(6, aR q), (0, aR 0), (1, aI s), (2, aI fro), (3, aI t), (4, aI to2), (5, aI len)]) cx dX6_copy_25 (by decide) rfl ?_
      refine aw_aload_n cx dX6_copy_27 rfl 1 rfl ?_
      refine aw_getR (q := 29) cx dX6_copy_28 fl_X6_63 (lb_0 tl) rfl rfl ?_
      refine aw_iload_n cx dX6_copy_31 rfl 4 rfl ?_
      refine aw_aald (v := aR pp) cx dX6_copy_32 (lb_29 tl) (⟨by omega, by omega⟩) (sl_q htq) ?_
      refine aw_astore (loc2 := [(7, aR pp), (6, aR q), (0, aR 0), (1, aI s), (2, aI fro), (3, aI t), (4, aI to2), (5, aI len)]) cx dX6_copy_33 (by decide) rfl ?_
      refine aw_aload cx dX6_copy_35 1 rfl ?_
      refine aw_ifnull cx dX6_copy_37 ?_
      refine aw_aload cx dX6_copy_40 0 rfl ?_
      refine aw_ifnonnull cx dX6_copy_42 (tgt := 51) (by decide) ?_
      refine aw_aload cx dX6_copy_51 1 rfl ?_
      refine aw_getI cx dX6_copy_53 fl_X6_245 hq.2.1 rfl (fun z53q hz53q lo_z53q hi_z53q => ?_)
      refine aw_aload cx dX6_copy_56 0 rfl ?_
      refine aw_getI cx dX6_copy_58 fl_X6_245 hr.2.1 rfl (fun z58q hz58q lo_z58q hi_z58q => ?_)
      refine aw_icmp_eq (tgt := 70) cx dX6_copy_61 (by decide) (fun c61q => ?_) (fun c61q => ?_)
      · refine aw_iload cx dX6_copy_70 7 rfl ?_
        refine aw_if_lt (tgt := 98) cx dX6_copy_72 (by decide) (fun c72q => ?_) (fun c72q => ?_)
        · refine aw_aload_n cx dX6_copy_98 rfl 2 rfl ?_
          refine aw_iconst (n := 2) cx dX6_copy_99 (by decide) ?_
          refine aw_callV (as := [aI 2]) (k := 0) (stk := []) cx dX6_copy_100 ml_X6_129 mv_X6_finding rfl (lb_0 tl) (by decide) rfl rfl (Nat.le_of_ble_eq_true rfl) (ct_X6_finding tl M _ (by first | assumption | omega)) (fun rr100q M_100q hp100q => ?_)
          obtain ⟨z100q, rfl, hMuM_100, hxM_100⟩ := hp100q
          refine aw_eq (stk2 := [aI z100q]) ?_ rfl rfl rfl rfl
          refine aw_iret cx rt dX6_copy_103 ?_
          exact ⟨_, rfl, Or.inr (Or.inl ⟨by omega, by omega, by omega, hMuM_100⟩)⟩
        · refine aw_aload cx dX6_copy_75 1 rfl ?_
          refine aw_iload_n cx dX6_copy_77 rfl 4 rfl ?_
          refine aw_iload cx dX6_copy_78 7 rfl ?_
          refine aw_callV (as := [aI fro, aI len]) (k := q) (stk := []) cx dX6_copy_80 ml_X6_254 mv_X3_spans rfl hq.2.1 (by decide) rfl rfl (Nat.le_of_ble_eq_true rfl) (ct_X3_spans tl M q n _ _ (hq) (by omega)) (fun rr80q M_80q hp80q => ?_)
          obtain ⟨rfl, rfl⟩ := hp80q
          refine aw_top (stk := []) (fun z80q hz80q => ?_)
          refine aw_if_eq (tgt := 98) cx dX6_copy_83 (by decide) (fun c83q => ?_) (fun c83q => ?_)
          · have d83q := b2_e0.mp (hz80q.symm.trans c83q)
            refine aw_aload_n cx dX6_copy_98 rfl 2 rfl ?_
            refine aw_iconst (n := 2) cx dX6_copy_99 (by decide) ?_
            refine aw_callV (as := [aI 2]) (k := 0) (stk := []) cx dX6_copy_100 ml_X6_129 mv_X6_finding rfl (lb_0 tl) (by decide) rfl rfl (Nat.le_of_ble_eq_true rfl) (ct_X6_finding tl M _ (by first | assumption | omega)) (fun rr100q M_100q hp100q => ?_)
            obtain ⟨z100q, rfl, hMuM_100, hxM_100⟩ := hp100q
            refine aw_eq (stk2 := [aI z100q]) ?_ rfl rfl rfl rfl
            refine aw_iret cx rt dX6_copy_103 ?_
            exact ⟨_, rfl, Or.inr (Or.inl ⟨by omega, by omega, by omega, hMuM_100⟩)⟩
          · have d83q := b2_y hz80q c83q
            refine aw_aload cx dX6_copy_86 0 rfl ?_
            refine aw_iload cx dX6_copy_88 6 rfl ?_
            refine aw_iload cx dX6_copy_90 7 rfl ?_
            refine aw_callV (as := [aI to2, aI len]) (k := pp) (stk := []) cx dX6_copy_92 ml_X6_254 mv_X3_spans rfl hr.2.1 (by decide) rfl rfl (Nat.le_of_ble_eq_true rfl) (ct_X3_spans tl M pp mm _ _ (hr) (by omega)) (fun rr92q M_92q hp92q => ?_)
            obtain ⟨rfl, rfl⟩ := hp92q
            refine aw_top (stk := []) (fun z92q hz92q => ?_)
            refine aw_if_ne (tgt := 104) cx dX6_copy_95 (by decide) (fun c95q => ?_) (fun c95q => ?_)
            · have d95q := b2_y hz92q c95q
              refine aw_aload cx dX6_copy_104 1 rfl ?_
              refine aw_getR (q := q + 1) cx dX6_copy_106 fl_X6_133 hq.2.1 rfl rfl ?_
              refine aw_iload_n cx dX6_copy_109 rfl 4 rfl ?_
              refine aw_aload cx dX6_copy_110 0 rfl ?_
              refine aw_getR (q := pp + 1) cx dX6_copy_112 fl_X6_133 hr.2.1 rfl rfl ?_
              refine aw_iload cx dX6_copy_115 6 rfl ?_
              refine aw_iload cx dX6_copy_117 7 rfl ?_
              refine aw_copy (stk := []) cx dX6_copy_119 ac_ml (by decide) (Nat.le_of_ble_eq_true rfl) hq.2.2.1 hr.2.2.1 (by omega) (by omega) (by omega) (by omega) (by omega) ?_
              obtain ⟨M_119q, hM_119q⟩ : ∃ qm, qm = cpM M (q + 1) (pp + 1) (Int.toNat (fro)) (Int.toNat (to2)) (Int.toNat (len)) := ⟨_, rfl⟩
              rw [← hM_119q]
              refine aw_iconst (n := 1) cx dX6_copy_122 (by decide) ?_
              refine aw_iret cx rt dX6_copy_123 ?_
              exact ⟨_, rfl, Or.inr (Or.inr ⟨by omega, by omega, rfl, hM_119q⟩)⟩
            · have d95q := b2_e0.mp (hz92q.symm.trans c95q)
              refine aw_aload_n cx dX6_copy_98 rfl 2 rfl ?_
              refine aw_iconst (n := 2) cx dX6_copy_99 (by decide) ?_
              refine aw_callV (as := [aI 2]) (k := 0) (stk := []) cx dX6_copy_100 ml_X6_129 mv_X6_finding rfl (lb_0 tl) (by decide) rfl rfl (Nat.le_of_ble_eq_true rfl) (ct_X6_finding tl M _ (by first | assumption | omega)) (fun rr100q M_100q hp100q => ?_)
              obtain ⟨z100q, rfl, hMuM_100, hxM_100⟩ := hp100q
              refine aw_eq (stk2 := [aI z100q]) ?_ rfl rfl rfl rfl
              refine aw_iret cx rt dX6_copy_103 ?_
              exact ⟨_, rfl, Or.inr (Or.inl ⟨by omega, by omega, by omega, hMuM_100⟩)⟩
      · refine aw_aload_n cx dX6_copy_64 rfl 2 rfl ?_
        refine aw_iconst (n := 4) cx dX6_copy_65 (by decide) ?_
        refine aw_callV (as := [aI 4]) (k := 0) (stk := []) cx dX6_copy_66 ml_X6_129 mv_X6_finding rfl (lb_0 tl) (by decide) rfl rfl (Nat.le_of_ble_eq_true rfl) (ct_X6_finding tl M _ (by first | assumption | omega)) (fun rr66q M_66q hp66q => ?_)
        obtain ⟨z66q, rfl, hMuM_66, hxM_66⟩ := hp66q
        refine aw_eq (stk2 := [aI z66q]) ?_ rfl rfl rfl rfl
        refine aw_iret cx rt dX6_copy_69 ?_
        exact ⟨_, rfl, Or.inl ⟨by omega, by omega, hMuM_66⟩⟩
    · exfalso
      have d13q := b2_y hz10q c13q
      omega
