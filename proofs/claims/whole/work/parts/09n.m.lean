set_option maxHeartbeats 1000000 in
set_option maxRecDepth 100000 in
theorem ct_X7_byteAt_0 (tl : List CD) (M : Mem) (k : Int) (hk : 0 ≤ k ∧ k ≤ 200) : Ct 0 mX7_byteAt (LB ++ tl) [aR 32, aI 0, aI k] M (fun r M1 => M = M1 ∧ ∃ x, r = some (aI x) ∧ (-1 ≤ x ∧ x ≤ 255) ∧ BA (M 33 0) (M 34) k x) := by
  refine Ct.of (own := RX7) rfl (by decide +kernel) (Nat.le_of_ble_eq_true rfl) (fun X cx rt => ?_)
  refine aw_eq (loc2 := [(0, aR 32), (1, aI 0), (2, aI k)]) ?_ rfl rfl rfl rfl
  refine aw_rngL 2 rfl (fun rl_k rh_k => ?_)
  refine aw_iload_n cx dX7_byteAt_0 rfl 2 rfl ?_
  refine aw_aload_n cx dX7_byteAt_1 rfl 0 rfl ?_
  refine aw_getR (q := 33) cx dX7_byteAt_2 fl_X7_7 (lb_32 tl) rfl rfl ?_
  refine aw_iload_n cx dX7_byteAt_5 rfl 1 rfl ?_
  refine aw_iald cx dX7_byteAt_6 (lb_33 tl) (⟨by omega, by omega⟩) (fun z6q hz6q lo_z6q hi_z6q => ?_)
  refine aw_icmp_ge (tgt := 24) cx dX7_byteAt_7 (by decide) (fun c7q => ?_) (fun c7q => ?_)
  · refine aw_iconst (n := (-1)) cx dX7_byteAt_24 (by decide) ?_
    refine aw_iret cx rt dX7_byteAt_25 ?_
    exact ⟨rfl, _, rfl, by omega, Or.inr ⟨by have q := hz6q; simp only [Int.toNat_zero, Int.toNat_one] at q; omega, rfl⟩⟩
  · refine aw_aload_n cx dX7_byteAt_10 rfl 0 rfl ?_
    refine aw_getR (q := 34) cx dX7_byteAt_11 fl_X7_13 (lb_32 tl) rfl rfl ?_
    refine aw_bipush (n := 59) cx dX7_byteAt_14 (by decide) ?_
    refine aw_iload_n cx dX7_byteAt_16 rfl 1 rfl ?_
    refine aw_imul cx dX7_byteAt_17 (by omega) (fun z17q hz17q => ?_)
    refine aw_iload_n cx dX7_byteAt_18 rfl 2 rfl ?_
    refine aw_iadd cx dX7_byteAt_19 (by omega) (fun z19q hz19q => ?_)
    refine aw_iald cx dX7_byteAt_20 (lb_34 tl) (⟨by omega, by omega⟩) (fun z20q hz20q lo_z20q hi_z20q => ?_)
    refine aw_goto (tgt := 25) cx dX7_byteAt_21 (by decide) ?_
    refine aw_iret cx rt dX7_byteAt_25 ?_
    refine ⟨rfl, z20q, rfl, ⟨by omega, by omega⟩, Or.inl ⟨by have q := hz6q; simp only [Int.toNat_zero, Int.toNat_one] at q; omega, ?_⟩⟩
    rw [hz20q]; show M 34 _ = M 34 _; congr 1; omega
set_option maxHeartbeats 1000000 in
set_option maxRecDepth 100000 in
theorem ct_X7_byteAt_1 (tl : List CD) (M : Mem) (k : Int) (hk : 0 ≤ k ∧ k ≤ 200) : Ct 0 mX7_byteAt (LB ++ tl) [aR 32, aI 1, aI k] M (fun r M1 => M = M1 ∧ ∃ x, r = some (aI x) ∧ (-1 ≤ x ∧ x ≤ 255) ∧ BA (M 33 1) (fun i => M 34 (59 + i)) k x) := by
  refine Ct.of (own := RX7) rfl (by decide +kernel) (Nat.le_of_ble_eq_true rfl) (fun X cx rt => ?_)
  refine aw_eq (loc2 := [(0, aR 32), (1, aI 1), (2, aI k)]) ?_ rfl rfl rfl rfl
  refine aw_rngL 2 rfl (fun rl_k rh_k => ?_)
  refine aw_iload_n cx dX7_byteAt_0 rfl 2 rfl ?_
  refine aw_aload_n cx dX7_byteAt_1 rfl 0 rfl ?_
  refine aw_getR (q := 33) cx dX7_byteAt_2 fl_X7_7 (lb_32 tl) rfl rfl ?_
  refine aw_iload_n cx dX7_byteAt_5 rfl 1 rfl ?_
  refine aw_iald cx dX7_byteAt_6 (lb_33 tl) (⟨by omega, by omega⟩) (fun z6q hz6q lo_z6q hi_z6q => ?_)
  refine aw_icmp_ge (tgt := 24) cx dX7_byteAt_7 (by decide) (fun c7q => ?_) (fun c7q => ?_)
  · refine aw_iconst (n := (-1)) cx dX7_byteAt_24 (by decide) ?_
    refine aw_iret cx rt dX7_byteAt_25 ?_
    exact ⟨rfl, _, rfl, by omega, Or.inr ⟨by have q := hz6q; simp only [Int.toNat_zero, Int.toNat_one] at q; omega, rfl⟩⟩
  · refine aw_aload_n cx dX7_byteAt_10 rfl 0 rfl ?_
    refine aw_getR (q := 34) cx dX7_byteAt_11 fl_X7_13 (lb_32 tl) rfl rfl ?_
    refine aw_bipush (n := 59) cx dX7_byteAt_14 (by decide) ?_
    refine aw_iload_n cx dX7_byteAt_16 rfl 1 rfl ?_
    refine aw_imul cx dX7_byteAt_17 (by omega) (fun z17q hz17q => ?_)
    refine aw_iload_n cx dX7_byteAt_18 rfl 2 rfl ?_
    refine aw_iadd cx dX7_byteAt_19 (by omega) (fun z19q hz19q => ?_)
    refine aw_iald cx dX7_byteAt_20 (lb_34 tl) (⟨by omega, by omega⟩) (fun z20q hz20q lo_z20q hi_z20q => ?_)
    refine aw_goto (tgt := 25) cx dX7_byteAt_21 (by decide) ?_
    refine aw_iret cx rt dX7_byteAt_25 ?_
    refine ⟨rfl, z20q, rfl, ⟨by omega, by omega⟩, Or.inl ⟨by have q := hz6q; simp only [Int.toNat_zero, Int.toNat_one] at q; omega, ?_⟩⟩
    rw [hz20q]; show M 34 _ = M 34 _; congr 1; omega
set_option maxHeartbeats 1000000 in
set_option maxRecDepth 100000 in
theorem ct_X7_sortOf (tl : List CD) (M : Mem) (b : Int) : Ct 0 mX7_sortOf (LB ++ tl) [aI b] M (fun r M1 => M = M1 ∧ ∃ x, r = some (aI x) ∧ ((ok3 b ∧ x = SRT b ∧ 0 ≤ x) ∨ (¬ ok3 b ∧ x = -1)) ∧ -1 ≤ x ∧ x ≤ 2) := by
  refine Ct.of (own := RX7) rfl (by decide +kernel) (Nat.le_of_ble_eq_true rfl) (fun X cx rt => ?_)
  refine aw_eq (loc2 := [(0, aI b)]) ?_ rfl rfl rfl rfl
  refine aw_rngL 0 rfl (fun rl_b rh_b => ?_)
  refine aw_iload_n cx dX7_sortOf_0 rfl 0 rfl ?_
  refine aw_bipush (n := 115) cx dX7_sortOf_1 (by decide) ?_
  refine aw_icmp_ne (tgt := 10) cx dX7_sortOf_3 (by decide) (fun c3q => ?_) (fun c3q => ?_)
  · refine aw_iload_n cx dX7_sortOf_10 rfl 0 rfl ?_
    refine aw_bipush (n := 100) cx dX7_sortOf_11 (by decide) ?_
    refine aw_icmp_ne (tgt := 20) cx dX7_sortOf_13 (by decide) (fun c13q => ?_) (fun c13q => ?_)
    · refine aw_iload_n cx dX7_sortOf_20 rfl 0 rfl ?_
      refine aw_bipush (n := 107) cx dX7_sortOf_21 (by decide) ?_
      refine aw_icmp_ne (tgt := 30) cx dX7_sortOf_23 (by decide) (fun c23q => ?_) (fun c23q => ?_)
      · refine aw_iconst (n := (-1)) cx dX7_sortOf_30 (by decide) ?_
        refine aw_iret cx rt dX7_sortOf_31 ?_
        refine ⟨rfl, _, rfl, ?_, by decide, by decide⟩
        unfold ok3
        first | exact Or.inr ⟨by omega, rfl⟩ | (refine Or.inl ⟨by omega, ?_, by decide⟩; unfold SRT; first | (rw [if_pos (by omega)]; done) | (rw [if_neg (by omega), if_pos (by omega)]; done) | (rw [if_neg (by omega), if_neg (by omega)]; done))
      · refine aw_iconst (n := 2) cx dX7_sortOf_26 (by decide) ?_
        refine aw_goto (tgt := 31) cx dX7_sortOf_27 (by decide) ?_
        refine aw_iret cx rt dX7_sortOf_31 ?_
        refine ⟨rfl, _, rfl, ?_, by decide, by decide⟩
        unfold ok3
        first | exact Or.inr ⟨by omega, rfl⟩ | (refine Or.inl ⟨by omega, ?_, by decide⟩; unfold SRT; first | (rw [if_pos (by omega)]; done) | (rw [if_neg (by omega), if_pos (by omega)]; done) | (rw [if_neg (by omega), if_neg (by omega)]; done))
    · refine aw_iconst (n := 1) cx dX7_sortOf_16 (by decide) ?_
      refine aw_goto (tgt := 31) cx dX7_sortOf_17 (by decide) ?_
      refine aw_iret cx rt dX7_sortOf_31 ?_
      refine ⟨rfl, _, rfl, ?_, by decide, by decide⟩
      unfold ok3
      first | exact Or.inr ⟨by omega, rfl⟩ | (refine Or.inl ⟨by omega, ?_, by decide⟩; unfold SRT; first | (rw [if_pos (by omega)]; done) | (rw [if_neg (by omega), if_pos (by omega)]; done) | (rw [if_neg (by omega), if_neg (by omega)]; done))
  · refine aw_iconst (n := 0) cx dX7_sortOf_6 (by decide) ?_
    refine aw_goto (tgt := 31) cx dX7_sortOf_7 (by decide) ?_
    refine aw_iret cx rt dX7_sortOf_31 ?_
    refine ⟨rfl, _, rfl, ?_, by decide, by decide⟩
    unfold ok3
    first | exact Or.inr ⟨by omega, rfl⟩ | (refine Or.inl ⟨by omega, ?_, by decide⟩; unfold SRT; first | (rw [if_pos (by omega)]; done) | (rw [if_neg (by omega), if_pos (by omega)]; done) | (rw [if_neg (by omega), if_neg (by omega)]; done))
set_option maxHeartbeats 1000000 in
set_option maxRecDepth 100000 in
theorem ct_X7_readsTale (tl : List CD) (M : Mem) (n p : Int) (hn : 0 ≤ n ∧ n ≤ 11) (hp : 0 ≤ p ∧ p ≤ 60) : Ct 2 mX7_readsTale (LB ++ tl) [aR 32, aI n, aI p] M (fun r M1 => ∃ x, r = some (aI x) ∧ FR [35, 36, 37, 38] M M1 ∧ RT4 (M 33 0) (M 34) p x ∧ (∀ i : Nat, (i : Int) ≠ n → M1 35 i = M 35 i ∧ M1 36 i = M 36 i ∧ M1 37 i = M 37 i ∧ M1 38 i = M 38 i) ∧ (x = 4 → ∃ b0 b1 b2 b3, BA (M 33 0) (M 34) p b0 ∧ BA (M 33 0) (M 34) (p + 1) b1 ∧ BA (M 33 0) (M 34) (p + 2) b2 ∧ BA (M 33 0) (M 34) (p + 3) b3 ∧ ok0 b0 ∧ ok1 b1 ∧ ok2 b2 ∧ ok3 b3 ∧ M1 35 n.toNat = b0 - 97 ∧ M1 36 n.toNat = b1 - 48 ∧ M1 37 n.toNat = b2 - 48 ∧ M1 38 n.toNat = SRT b3)) := by
  refine Ct.of (own := RX7) rfl (by decide +kernel) (Nat.le_of_ble_eq_true rfl) (fun X cx rt => ?_)
  refine aw_eq (loc2 := [(0, aR 32), (1, aI n), (2, aI p)]) ?_ rfl rfl rfl rfl
  refine aw_rngL 1 rfl (fun rl_n rh_n => ?_)
  refine aw_rngL 2 rfl (fun rl_p rh_p => ?_)
  refine aw_aload_n cx dX7_readsTale_0 rfl 0 rfl ?_
  refine aw_iconst (n := 0) cx dX7_readsTale_1 (by decide) ?_
  refine aw_iload_n cx dX7_readsTale_2 rfl 2 rfl ?_
  refine aw_callV (as := [aI 0, aI p]) (k := 32) (stk := []) cx dX7_readsTale_3 ml_X7_121 mv_X7_byteAt rfl (lb_32 tl) (by decide) rfl rfl (Nat.le_of_ble_eq_true rfl) (ct_X7_byteAt_0 tl M _ (by omega)) (fun rr3q M_3q hp3q => ?_)
  obtain ⟨rfl, z3q, rfl, hrz3q, hbz3⟩ := hp3q
  refine aw_eq (stk2 := [aI z3q]) ?_ rfl rfl rfl rfl
  refine aw_bipush (n := 97) cx dX7_readsTale_6 (by decide) ?_
  refine aw_isub cx dX7_readsTale_8 (by omega) (fun z8q hz8q => ?_)
  refine aw_istore_n (loc2 := [(3, aI z8q), (0, aR 32), (1, aI n), (2, aI p)]) cx dX7_readsTale_9 rfl (by decide) rfl ?_
  refine aw_aload_n cx dX7_readsTale_10 rfl 1 rfl ?_
  refine aw_iconst (n := 0) cx dX7_readsTale_11 (by decide) ?_
  refine aw_iload_n cx dX7_readsTale_12 rfl 3 rfl ?_
  refine aw_iconst (n := 1) cx dX7_readsTale_13 (by decide) ?_
  refine aw_iadd cx dX7_readsTale_14 (by omega) (fun z14q hz14q => ?_)
  refine aw_callV (as := [aI 0, aI z14q]) (k := 32) (stk := []) cx dX7_readsTale_15 ml_X7_121 mv_X7_byteAt rfl (lb_32 tl) (by decide) rfl rfl (Nat.le_of_ble_eq_true rfl) (ct_X7_byteAt_0 tl M _ (by omega)) (fun rr15q M_15q hp15q => ?_)
  obtain ⟨rfl, z15q, rfl, hrz15q, hbz15⟩ := hp15q
  refine aw_eq (stk2 := [aI z15q]) ?_ rfl rfl rfl rfl
  refine aw_bipush (n := 48) cx dX7_readsTale_18 (by decide) ?_
  refine aw_isub cx dX7_readsTale_20 (by omega) (fun z20q hz20q => ?_)
  refine aw_istore (loc2 := [(4, aI z20q), (3, aI z8q), (0, aR 32), (1, aI n), (2, aI p)]) cx dX7_readsTale_21 (by decide) rfl ?_
  refine aw_aload_n cx dX7_readsTale_23 rfl 2 rfl ?_
  refine aw_iconst (n := 0) cx dX7_readsTale_24 (by decide) ?_
  refine aw_iload_n cx dX7_readsTale_25 rfl 4 rfl ?_
  refine aw_iconst (n := 2) cx dX7_readsTale_26 (by decide) ?_
  refine aw_iadd cx dX7_readsTale_27 (by omega) (fun z27q hz27q => ?_)
  refine aw_callV (as := [aI 0, aI z27q]) (k := 32) (stk := []) cx dX7_readsTale_28 ml_X7_121 mv_X7_byteAt rfl (lb_32 tl) (by decide) rfl rfl (Nat.le_of_ble_eq_true rfl) (ct_X7_byteAt_0 tl M _ (by omega)) (fun rr28q M_28q hp28q => ?_)
  obtain ⟨rfl, z28q, rfl, hrz28q, hbz28⟩ := hp28q
  refine aw_eq (stk2 := [aI z28q]) ?_ rfl rfl rfl rfl
  refine aw_bipush (n := 48) cx dX7_readsTale_31 (by decide) ?_
  refine aw_isub cx dX7_readsTale_33 (by omega) (fun z33q hz33q => ?_)
  refine aw_istore (loc2 := [(5, aI z33q), (4, aI z20q), (3, aI z8q), (0, aR 32), (1, aI n), (2, aI p)]) cx dX7_readsTale_34 (by decide) rfl ?_
  refine aw_aload_n cx dX7_readsTale_36 rfl 3 rfl ?_
  refine aw_iconst (n := 0) cx dX7_readsTale_37 (by decide) ?_
  refine aw_iload_n cx dX7_readsTale_38 rfl 5 rfl ?_
  refine aw_iconst (n := 3) cx dX7_readsTale_39 (by decide) ?_
  refine aw_iadd cx dX7_readsTale_40 (by omega) (fun z40q hz40q => ?_)
  refine aw_callV (as := [aI 0, aI z40q]) (k := 32) (stk := []) cx dX7_readsTale_41 ml_X7_121 mv_X7_byteAt rfl (lb_32 tl) (by decide) rfl rfl (Nat.le_of_ble_eq_true rfl) (ct_X7_byteAt_0 tl M _ (by omega)) (fun rr41q M_41q hp41q => ?_)
  obtain ⟨rfl, z41q, rfl, hrz41q, hbz41⟩ := hp41q
  refine aw_eq (stk2 := [aI z41q]) ?_ rfl rfl rfl rfl
  refine aw_callS (as := [aI z41q]) (stk := []) cx dX7_readsTale_44 ml_X7_125 ms_X7_sortOf (by decide) rfl rfl (Nat.le_of_ble_eq_true rfl) (ct_X7_sortOf tl M _ ) (fun rr44q M_44q hp44q => ?_)
  obtain ⟨rfl, z44q, rfl, hsoz44, lo_z44q, hi_z44q⟩ := hp44q
  refine aw_eq (stk2 := [aI z44q]) ?_ rfl rfl rfl rfl
  refine aw_istore (loc2 := [(6, aI z44q), (5, aI z33q), (4, aI z20q), (3, aI z8q), (0, aR 32), (1, aI n), (2, aI p)]) cx dX7_readsTale_47 (by decide) rfl ?_
  refine aw_iload_n cx dX7_readsTale_49 rfl 5 rfl ?_
  refine aw_bipush (n := 12) cx dX7_readsTale_50 (by decide) ?_
  refine aw_icmp_eq (tgt := 62) cx dX7_readsTale_52 (by decide) (fun c52q => ?_) (fun c52q => ?_)
  · exfalso
    omega
  · refine aw_iload_n cx dX7_readsTale_55 rfl 3 rfl ?_
    refine aw_callS (as := [aI z8q]) (stk := []) cx dX7_readsTale_56 ml_X7_129 ms_X7_isNight (by decide) rfl rfl (Nat.le_of_ble_eq_true rfl) (ct_X7_isNight tl M _ ) (fun rr56q M_56q hp56q => ?_)
    obtain ⟨rfl, rfl⟩ := hp56q
    refine aw_top (stk := []) (fun z56q hz56q => ?_)
    refine aw_if_ne (tgt := 64) cx dX7_readsTale_59 (by decide) (fun c59q => ?_) (fun c59q => ?_)
    · have d59q := b2_y hz56q c59q
      refine aw_iload cx dX7_readsTale_64 2 rfl ?_
      refine aw_callS (as := [aI z20q]) (stk := []) cx dX7_readsTale_66 ml_X7_132 ms_X7_isTown (by decide) rfl rfl (Nat.le_of_ble_eq_true rfl) (ct_X7_isTown tl M _ ) (fun rr66q M_66q hp66q => ?_)
      obtain ⟨rfl, rfl⟩ := hp66q
      refine aw_top (stk := []) (fun z66q hz66q => ?_)
      refine aw_if_ne (tgt := 74) cx dX7_readsTale_69 (by decide) (fun c69q => ?_) (fun c69q => ?_)
      · have d69q := b2_y hz66q c69q
        refine aw_iload cx dX7_readsTale_74 1 rfl ?_
        refine aw_iconst (n := 0) cx dX7_readsTale_76 (by decide) ?_
        refine aw_bipush (n := 9) cx dX7_readsTale_77 (by decide) ?_
        refine aw_callS (as := [aI z33q, aI 0, aI 9]) (stk := []) cx dX7_readsTale_79 ml_X7_113 ms_X7_in (by decide) rfl rfl (Nat.le_of_ble_eq_true rfl) (ct_X7_in tl M _ _ _ ) (fun rr79q M_79q hp79q => ?_)
        obtain ⟨rfl, rfl⟩ := hp79q
        refine aw_top (stk := []) (fun z79q hz79q => ?_)
        refine aw_if_ne (tgt := 87) cx dX7_readsTale_82 (by decide) (fun c82q => ?_) (fun c82q => ?_)
        · have d82q := b2_y hz79q c82q
          refine aw_iload cx dX7_readsTale_87 0 rfl ?_
          refine aw_iconst (n := (-1)) cx dX7_readsTale_89 (by decide) ?_
          refine aw_icmp_ne (tgt := 95) cx dX7_readsTale_90 (by decide) (fun c90q => ?_) (fun c90q => ?_)
          · refine aw_aload_n cx dX7_readsTale_95 rfl 4 rfl ?_
            refine aw_getR (q := 35) cx dX7_readsTale_96 fl_X7_16 (lb_32 tl) rfl rfl ?_
            refine aw_iload_n cx dX7_readsTale_99 rfl 5 rfl ?_
            refine aw_iload_n cx dX7_readsTale_100 rfl 3 rfl ?_
            refine aw_iast cx dX7_readsTale_101 (lb_35 tl) (⟨by omega, by omega⟩) (⟨by omega, by omega⟩) ?_
            obtain ⟨M_101q, hM_101q⟩ : ∃ qm, qm = up M (35) (Int.toNat (n)) (z8q) := ⟨_, rfl⟩
            rw [← hM_101q]
            refine aw_aload_n cx dX7_readsTale_102 rfl 4 rfl ?_
            refine aw_getR (q := 36) cx dX7_readsTale_103 fl_X7_19 (lb_32 tl) rfl rfl ?_
            refine aw_iload_n cx dX7_readsTale_106 rfl 5 rfl ?_
            refine aw_iload cx dX7_readsTale_107 2 rfl ?_
            refine aw_iast cx dX7_readsTale_109 (lb_36 tl) (⟨by omega, by omega⟩) (⟨by omega, by omega⟩) ?_
            obtain ⟨M_109q, hM_109q⟩ : ∃ qm, qm = up M_101q (36) (Int.toNat (n)) (z20q) := ⟨_, rfl⟩
            rw [← hM_109q]
            refine aw_aload_n cx dX7_readsTale_110 rfl 4 rfl ?_
            refine aw_getR (q := 37) cx dX7_readsTale_111 fl_X7_22 (lb_32 tl) rfl rfl ?_
            refine aw_iload_n cx dX7_readsTale_114 rfl 5 rfl ?_
            refine aw_iload cx dX7_readsTale_115 1 rfl ?_
            refine aw_iast cx dX7_readsTale_117 (lb_37 tl) (⟨by omega, by omega⟩) (⟨by omega, by omega⟩) ?_
            obtain ⟨M_117q, hM_117q⟩ : ∃ qm, qm = up M_109q (37) (Int.toNat (n)) (z33q) := ⟨_, rfl⟩
            rw [← hM_117q]
            refine aw_aload_n cx dX7_readsTale_118 rfl 4 rfl ?_
            refine aw_getR (q := 38) cx dX7_readsTale_119 fl_X7_25 (lb_32 tl) rfl rfl ?_
            refine aw_iload_n cx dX7_readsTale_122 rfl 5 rfl ?_
            refine aw_iload cx dX7_readsTale_123 0 rfl ?_
            refine aw_iast cx dX7_readsTale_125 (lb_38 tl) (⟨by omega, by omega⟩) (⟨by omega, by omega⟩) ?_
            obtain ⟨M_125q, hM_125q⟩ : ∃ qm, qm = up M_117q (38) (Int.toNat (n)) (z44q) := ⟨_, rfl⟩
            rw [← hM_125q]
            refine aw_iconst (n := 4) cx dX7_readsTale_126 (by decide) ?_
            refine aw_iret cx rt dX7_readsTale_127 ?_
            have e1q : FR [35, 36, 37, 38] M M_125q := (((FR.rf.put hM_101q (by decide)).put hM_109q (by decide)).put hM_117q (by decide)).put hM_125q (by decide)
            have hO : ok3 z41q ∧ z44q = SRT z41q := by omega
            have g1 : BA (M 33 0) (M 34) (p + 1) z15q := by rw [← hz14q]; exact hbz15
            have g2 : BA (M 33 0) (M 34) (p + 2) z28q := by rw [← hz27q]; exact hbz28
            have g3 : BA (M 33 0) (M 34) (p + 3) z41q := by rw [← hz40q]; exact hbz41
            refine ⟨4, rfl, e1q, ⟨z3q, z15q, z28q, z41q, hbz3, g1, g2, g3, ?_⟩, fun i hi => ⟨?_, ?_, ?_, ?_⟩, fun _ => ⟨z3q, z15q, z28q, z41q, hbz3, g1, g2, g3, ?_, ?_, ?_, hO.1, ?_, ?_, ?_, ?_⟩⟩
            · unfold G4; omega
            · rw [up_ne hM_125q (by omega), up_ne hM_117q (by omega), up_ne hM_109q (by omega), up_ne hM_101q (by omega)]
            · rw [up_ne hM_125q (by omega), up_ne hM_117q (by omega), up_ne hM_109q (by omega), up_ne hM_101q (by omega)]
            · rw [up_ne hM_125q (by omega), up_ne hM_117q (by omega), up_ne hM_109q (by omega), up_ne hM_101q (by omega)]
            · rw [up_ne hM_125q (by omega), up_ne hM_117q (by omega), up_ne hM_109q (by omega), up_ne hM_101q (by omega)]
            · omega
            · omega
            · omega
            · rw [up_ne hM_125q (by omega), up_ne hM_117q (by omega), up_ne hM_109q (by omega), up_eq hM_101q]; exact hz8q
            · rw [up_ne hM_125q (by omega), up_ne hM_117q (by omega), up_eq hM_109q]; exact hz20q
            · rw [up_ne hM_125q (by omega), up_eq hM_117q]; exact hz33q
            · rw [up_eq hM_125q]; exact hO.2
          · refine aw_iconst (n := 3) cx dX7_readsTale_93 (by decide) ?_
            refine aw_iret cx rt dX7_readsTale_94 ?_
            refine ⟨3, rfl, FR.rf, ⟨z3q, z15q, z28q, z41q, hbz3, by rw [← hz14q]; exact hbz15, by rw [← hz27q]; exact hbz28, by rw [← hz40q]; exact hbz41, ?_⟩, fun i _ => ⟨rfl, rfl, rfl, rfl⟩, fun q => absurd q (by decide)⟩
            unfold G4
            omega
        · have d82q := b2_e0.mp (hz79q.symm.trans c82q)
          refine aw_iconst (n := 2) cx dX7_readsTale_85 (by decide) ?_
          refine aw_iret cx rt dX7_readsTale_86 ?_
          refine ⟨2, rfl, FR.rf, ⟨z3q, z15q, z28q, z41q, hbz3, by rw [← hz14q]; exact hbz15, by rw [← hz27q]; exact hbz28, by rw [← hz40q]; exact hbz41, ?_⟩, fun i _ => ⟨rfl, rfl, rfl, rfl⟩, fun q => absurd q (by decide)⟩
          unfold G4
          omega
      · have d69q := b2_e0.mp (hz66q.symm.trans c69q)
        refine aw_iconst (n := 1) cx dX7_readsTale_72 (by decide) ?_
        refine aw_iret cx rt dX7_readsTale_73 ?_
        refine ⟨1, rfl, FR.rf, ⟨z3q, z15q, z28q, z41q, hbz3, by rw [← hz14q]; exact hbz15, by rw [← hz27q]; exact hbz28, by rw [← hz40q]; exact hbz41, ?_⟩, fun i _ => ⟨rfl, rfl, rfl, rfl⟩, fun q => absurd q (by decide)⟩
        unfold G4
        omega
    · have d59q := b2_e0.mp (hz56q.symm.trans c59q)
      refine aw_iconst (n := 0) cx dX7_readsTale_62 (by decide) ?_
      refine aw_iret cx rt dX7_readsTale_63 ?_
      refine ⟨0, rfl, FR.rf, ⟨z3q, z15q, z28q, z41q, hbz3, by rw [← hz14q]; exact hbz15, by rw [← hz27q]; exact hbz28, by rw [← hz40q]; exact hbz41, ?_⟩, fun i _ => ⟨rfl, rfl, rfl, rfl⟩, fun q => absurd q (by decide)⟩
      unfold G4
      omega
set_option maxHeartbeats 1000000 in
set_option maxRecDepth 100000 in
theorem ct_X7_readsCharge (tl : List CD) (M : Mem) (n p : Int) (hn : 0 ≤ n ∧ n ≤ 7) (hp : 0 ≤ p ∧ p ≤ 60) : Ct 2 mX7_readsCharge (LB ++ tl) [aR 32, aI n, aI p] M (fun r M1 => ∃ x, r = some (aI x) ∧ FR [39, 40] M M1 ∧ RT2 (M 33 1) (fun i => M 34 (59 + i)) p x ∧ (∀ i : Nat, (i : Int) ≠ n → M1 39 i = M 39 i ∧ M1 40 i = M 40 i) ∧ (x = 2 → ∃ b0 b1, BA (M 33 1) (fun i => M 34 (59 + i)) p b0 ∧ BA (M 33 1) (fun i => M 34 (59 + i)) (p + 1) b1 ∧ ok0 b0 ∧ ok1 b1 ∧ M1 39 n.toNat = b0 - 97 ∧ M1 40 n.toNat = b1 - 48)) := by
  refine Ct.of (own := RX7) rfl (by decide +kernel) (Nat.le_of_ble_eq_true rfl) (fun X cx rt => ?_)
  refine aw_eq (loc2 := [(0, aR 32), (1, aI n), (2, aI p)]) ?_ rfl rfl rfl rfl
  refine aw_rngL 1 rfl (fun rl_n rh_n => ?_)
  refine aw_rngL 2 rfl (fun rl_p rh_p => ?_)
  refine aw_aload_n cx dX7_readsCharge_0 rfl 0 rfl ?_
  refine aw_iconst (n := 1) cx dX7_readsCharge_1 (by decide) ?_
  refine aw_iload_n cx dX7_readsCharge_2 rfl 2 rfl ?_
  refine aw_callV (as := [aI 1, aI p]) (k := 32) (stk := []) cx dX7_readsCharge_3 ml_X7_121 mv_X7_byteAt rfl (lb_32 tl) (by decide) rfl rfl (Nat.le_of_ble_eq_true rfl) (ct_X7_byteAt_1 tl M _ (by omega)) (fun rr3q M_3q hp3q => ?_)
  obtain ⟨rfl, z3q, rfl, hrz3q, hbz3⟩ := hp3q
  refine aw_eq (stk2 := [aI z3q]) ?_ rfl rfl rfl rfl
  refine aw_bipush (n := 97) cx dX7_readsCharge_6 (by decide) ?_
  refine aw_isub cx dX7_readsCharge_8 (by omega) (fun z8q hz8q => ?_)
  refine aw_istore_n (loc2 := [(3, aI z8q), (0, aR 32), (1, aI n), (2, aI p)]) cx dX7_readsCharge_9 rfl (by decide) rfl ?_
  refine aw_aload_n cx dX7_readsCharge_10 rfl 1 rfl ?_
  refine aw_iconst (n := 1) cx dX7_readsCharge_11 (by decide) ?_
  refine aw_iload_n cx dX7_readsCharge_12 rfl 3 rfl ?_
  refine aw_iconst (n := 1) cx dX7_readsCharge_13 (by decide) ?_
  refine aw_iadd cx dX7_readsCharge_14 (by omega) (fun z14q hz14q => ?_)
  refine aw_callV (as := [aI 1, aI z14q]) (k := 32) (stk := []) cx dX7_readsCharge_15 ml_X7_121 mv_X7_byteAt rfl (lb_32 tl) (by decide) rfl rfl (Nat.le_of_ble_eq_true rfl) (ct_X7_byteAt_1 tl M _ (by omega)) (fun rr15q M_15q hp15q => ?_)
  obtain ⟨rfl, z15q, rfl, hrz15q, hbz15⟩ := hp15q
  refine aw_eq (stk2 := [aI z15q]) ?_ rfl rfl rfl rfl
  refine aw_bipush (n := 48) cx dX7_readsCharge_18 (by decide) ?_
  refine aw_isub cx dX7_readsCharge_20 (by omega) (fun z20q hz20q => ?_)
  refine aw_istore (loc2 := [(4, aI z20q), (3, aI z8q), (0, aR 32), (1, aI n), (2, aI p)]) cx dX7_readsCharge_21 (by decide) rfl ?_
  refine aw_iload_n cx dX7_readsCharge_23 rfl 3 rfl ?_
  refine aw_bipush (n := 8) cx dX7_readsCharge_24 (by decide) ?_
  refine aw_icmp_eq (tgt := 36) cx dX7_readsCharge_26 (by decide) (fun c26q => ?_) (fun c26q => ?_)
  · exfalso
    omega
  · refine aw_iload_n cx dX7_readsCharge_29 rfl 1 rfl ?_
    refine aw_callS (as := [aI z8q]) (stk := []) cx dX7_readsCharge_30 ml_X7_129 ms_X7_isNight (by decide) rfl rfl (Nat.le_of_ble_eq_true rfl) (ct_X7_isNight tl M _ ) (fun rr30q M_30q hp30q => ?_)
    obtain ⟨rfl, rfl⟩ := hp30q
    refine aw_top (stk := []) (fun z30q hz30q => ?_)
    refine aw_if_ne (tgt := 38) cx dX7_readsCharge_33 (by decide) (fun c33q => ?_) (fun c33q => ?_)
    · have d33q := b2_y hz30q c33q
      refine aw_iload cx dX7_readsCharge_38 0 rfl ?_
      refine aw_callS (as := [aI z20q]) (stk := []) cx dX7_readsCharge_40 ml_X7_132 ms_X7_isTown (by decide) rfl rfl (Nat.le_of_ble_eq_true rfl) (ct_X7_isTown tl M _ ) (fun rr40q M_40q hp40q => ?_)
      obtain ⟨rfl, rfl⟩ := hp40q
      refine aw_top (stk := []) (fun z40q hz40q => ?_)
      refine aw_if_ne (tgt := 48) cx dX7_readsCharge_43 (by decide) (fun c43q => ?_) (fun c43q => ?_)
      · have d43q := b2_y hz40q c43q
        refine aw_aload_n cx dX7_readsCharge_48 rfl 2 rfl ?_
        refine aw_getR (q := 39) cx dX7_readsCharge_49 fl_X7_28 (lb_32 tl) rfl rfl ?_
        refine aw_iload_n cx dX7_readsCharge_52 rfl 3 rfl ?_
        refine aw_iload_n cx dX7_readsCharge_53 rfl 1 rfl ?_
        refine aw_iast cx dX7_readsCharge_54 (lb_39 tl) (⟨by omega, by omega⟩) (⟨by omega, by omega⟩) ?_
        obtain ⟨M_54q, hM_54q⟩ : ∃ qm, qm = up M (39) (Int.toNat (n)) (z8q) := ⟨_, rfl⟩
        rw [← hM_54q]
        refine aw_aload_n cx dX7_readsCharge_55 rfl 2 rfl ?_
        refine aw_getR (q := 40) cx dX7_readsCharge_56 fl_X7_31 (lb_32 tl) rfl rfl ?_
        refine aw_iload_n cx dX7_readsCharge_59 rfl 3 rfl ?_
        refine aw_iload cx dX7_readsCharge_60 0 rfl ?_
        refine aw_iast cx dX7_readsCharge_62 (lb_40 tl) (⟨by omega, by omega⟩) (⟨by omega, by omega⟩) ?_
        obtain ⟨M_62q, hM_62q⟩ : ∃ qm, qm = up M_54q (40) (Int.toNat (n)) (z20q) := ⟨_, rfl⟩
        rw [← hM_62q]
        refine aw_iconst (n := 2) cx dX7_readsCharge_63 (by decide) ?_
        refine aw_iret cx rt dX7_readsCharge_64 ?_
        have e1q : FR [39, 40] M M_62q := (FR.rf.put hM_54q (by decide)).put hM_62q (by decide)
        have g1 : BA (M 33 1) (fun i => M 34 (59 + i)) (p + 1) z15q := by rw [← hz14q]; exact hbz15
        refine ⟨2, rfl, e1q, ⟨z3q, z15q, hbz3, g1, ?_⟩, fun i hi => ⟨?_, ?_⟩, fun _ => ⟨z3q, z15q, hbz3, g1, ?_, ?_, ?_, ?_⟩⟩
        · unfold G2; omega
        · rw [up_ne hM_62q (by omega), up_ne hM_54q (by omega)]
        · rw [up_ne hM_62q (by omega), up_ne hM_54q (by omega)]
        · omega
        · omega
        · rw [up_ne hM_62q (by omega), up_eq hM_54q]; exact hz8q
        · rw [up_eq hM_62q]; exact hz20q
      · have d43q := b2_e0.mp (hz40q.symm.trans c43q)
        refine aw_iconst (n := 1) cx dX7_readsCharge_46 (by decide) ?_
        refine aw_iret cx rt dX7_readsCharge_47 ?_
        refine ⟨1, rfl, FR.rf, ⟨z3q, z15q, hbz3, by rw [← hz14q]; exact hbz15, ?_⟩, fun i _ => ⟨rfl, rfl⟩, fun q => absurd q (by decide)⟩
        unfold G2
        omega
    · have d33q := b2_e0.mp (hz30q.symm.trans c33q)
      refine aw_iconst (n := 0) cx dX7_readsCharge_36 (by decide) ?_
      refine aw_iret cx rt dX7_readsCharge_37 ?_
      refine ⟨0, rfl, FR.rf, ⟨z3q, z15q, hbz3, by rw [← hz14q]; exact hbz15, ?_⟩, fun i _ => ⟨rfl, rfl⟩, fun q => absurd q (by decide)⟩
      unfold G2
      omega
