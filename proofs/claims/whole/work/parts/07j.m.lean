set_option maxHeartbeats 1000000 in
set_option maxRecDepth 100000 in
theorem ct_X6_spare (tl : List CD) (M : Mem) (i : Int) : Ct 6 mX6_spare (LB ++ tl) [aR 0, aI i] M (fun r M1 => ∃ x, r = some (aI x) ∧ FR SC M M1 ∧ aSpare (fgT M) (qgT M) i x) := by
  refine Ct.of (own := RX6) rfl (by decide +kernel) (Nat.le_of_ble_eq_true rfl) (fun X cx rt => ?_)
  refine aw_eq (loc2 := [(0, aR 0), (1, aI i)]) ?_ rfl rfl rfl rfl
  refine aw_rngL 1 rfl (fun rl_i rh_i => ?_)
  refine aw_ok (fun om => ?_)
  have hse : 0 ≤ M 18 3 ∧ M 18 3 ≤ 8 := okF om (lb_18 tl) (j := 3) rfl (show (0 : Nat) ≠ 1 by decide)
  refine aw_iload_n cx dX6_spare_0 rfl 1 rfl ?_
  refine aw_iconst (n := (-1)) cx dX6_spare_1 (by decide) ?_
  refine aw_icmp_eq (tgt := 16) cx dX6_spare_2 (by decide) (fun c2q => ?_) (fun c2q => ?_)
  · refine aw_aload_n cx dX6_spare_16 rfl 0 rfl ?_
    refine aw_callV (as := []) (k := 0) (stk := []) cx dX6_spare_17 ml_X6_214 mv_X6_sparedBits rfl (lb_0 tl) (by decide) rfl rfl (Nat.le_of_ble_eq_true rfl) (ct_X6_sparedBits tl M  ) (fun rr17q M_17q hp17q => ?_)
    obtain ⟨z17q, rfl, hfrM_17, hsbM_17⟩ := hp17q
    refine aw_eq (stk2 := [aI z17q]) ?_ rfl rfl rfl rfl
    obtain ⟨num, sa, sb, hspr, hsb⟩ := hsbM_17
    have hbs := SPR_bits (show gm (fgT M) ≤ 8 by show (M 18 3).toNat ≤ 8; omega) hspr hsb
    refine aw_istore_n (loc2 := [(2, aI z17q), (0, aR 0), (1, aI i)]) cx dX6_spare_20 rfl (by decide) rfl ?_
    refine aw_iload_n cx dX6_spare_21 rfl 0 rfl ?_
    refine aw_iconst (n := (-1)) cx dX6_spare_22 (by decide) ?_
    refine aw_icmp_ne (tgt := 28) cx dX6_spare_23 (by decide) (fun c23q => ?_) (fun c23q => ?_)
    · refine aw_iload_n cx dX6_spare_28 rfl 2 rfl ?_
      refine aw_iconst (n := (-1)) cx dX6_spare_29 (by decide) ?_
      refine aw_icmp_ne (tgt := 40) cx dX6_spare_30 (by decide) (fun c30q => ?_) (fun c30q => ?_)
      · refine aw_iload_n cx dX6_spare_40 rfl 0 rfl ?_
        refine aw_iload_n cx dX6_spare_41 rfl 2 rfl ?_
        refine aw_callS (as := [aI z17q, aI i]) (stk := []) cx dX6_spare_42 ml_X6_217 ms_X6_nthBit (by decide) rfl rfl (Nat.le_of_ble_eq_true rfl) (ct_X6_nthBit tl M_17q _ _ (by rcases hbs with q | q <;> omega)) (fun rr42q M_42q hp42q => ?_)
        obtain ⟨rfl, z42q, rfl, hntz42⟩ := hp42q
        refine aw_eq (stk2 := [aI z42q]) ?_ rfl rfl rfl rfl
        refine aw_iret cx rt dX6_spare_45 ?_
        exfalso; omega
      · refine aw_iload_n cx dX6_spare_33 rfl 0 rfl ?_
        refine aw_callS (as := [aI z17q]) (stk := []) cx dX6_spare_34 ml_X6_182 ms_J6_bitCount_0f7a4 (by decide) rfl rfl (Nat.le_of_ble_eq_true rfl) (ct_J6_bitCount_0f7a4 tl M_17q _ (by rcases hbs with q | q <;> omega)) (fun rr34q M_34q hp34q => ?_)
        obtain ⟨rfl, rfl⟩ := hp34q
        refine aw_top (stk := []) (fun z34q hz34q => ?_)
        have hrz34q : 0 ≤ z34q ∧ z34q ≤ 12 := by rw [hz34q]; exact PCN_in _
        refine aw_goto (tgt := 45) cx dX6_spare_37 (by decide) ?_
        refine aw_iret cx rt dX6_spare_45 ?_
        exact ⟨z34q, rfl, hfrM_17, Or.inr ⟨by omega, by omega, num, sa, sb, hspr, Or.inr ⟨by rcases hbs with q | q <;> omega, Or.inl ⟨by omega, by rcases hbs with q | q <;> omega⟩⟩⟩⟩
    · refine aw_iconst (n := (-1)) cx dX6_spare_26 (by decide) ?_
      refine aw_iret cx rt dX6_spare_27 ?_
      exact ⟨-1, rfl, hfrM_17, Or.inr ⟨by omega, by omega, num, sa, sb, hspr, Or.inl ⟨by rcases hbs with q | q <;> omega, rfl⟩⟩⟩
  · refine aw_iload_n cx dX6_spare_5 rfl 1 rfl ?_
    refine aw_iconst (n := 2) cx dX6_spare_6 (by decide) ?_
    refine aw_callS (as := [aI i, aI 2]) (stk := []) cx dX6_spare_7 ml_X6_84 ms_X6_outside (by decide) rfl rfl (Nat.le_of_ble_eq_true rfl) (ct_X6_outside tl M _ _ ) (fun rr7q M_7q hp7q => ?_)
    obtain ⟨rfl, rfl⟩ := hp7q
    refine aw_top (stk := []) (fun z7q hz7q => ?_)
    refine aw_if_eq (tgt := 16) cx dX6_spare_10 (by decide) (fun c10q => ?_) (fun c10q => ?_)
    · have d10q := b2_e0.mp (hz7q.symm.trans c10q)
      refine aw_aload_n cx dX6_spare_16 rfl 0 rfl ?_
      refine aw_callV (as := []) (k := 0) (stk := []) cx dX6_spare_17 ml_X6_214 mv_X6_sparedBits rfl (lb_0 tl) (by decide) rfl rfl (Nat.le_of_ble_eq_true rfl) (ct_X6_sparedBits tl M  ) (fun rr17q M_17q hp17q => ?_)
      obtain ⟨z17q, rfl, hfrM_17, hsbM_17⟩ := hp17q
      refine aw_eq (stk2 := [aI z17q]) ?_ rfl rfl rfl rfl
      obtain ⟨num, sa, sb, hspr, hsb⟩ := hsbM_17
      have hbs := SPR_bits (show gm (fgT M) ≤ 8 by show (M 18 3).toNat ≤ 8; omega) hspr hsb
      refine aw_istore_n (loc2 := [(2, aI z17q), (0, aR 0), (1, aI i)]) cx dX6_spare_20 rfl (by decide) rfl ?_
      refine aw_iload_n cx dX6_spare_21 rfl 0 rfl ?_
      refine aw_iconst (n := (-1)) cx dX6_spare_22 (by decide) ?_
      refine aw_icmp_ne (tgt := 28) cx dX6_spare_23 (by decide) (fun c23q => ?_) (fun c23q => ?_)
      · refine aw_iload_n cx dX6_spare_28 rfl 2 rfl ?_
        refine aw_iconst (n := (-1)) cx dX6_spare_29 (by decide) ?_
        refine aw_icmp_ne (tgt := 40) cx dX6_spare_30 (by decide) (fun c30q => ?_) (fun c30q => ?_)
        · refine aw_iload_n cx dX6_spare_40 rfl 0 rfl ?_
          refine aw_iload_n cx dX6_spare_41 rfl 2 rfl ?_
          refine aw_callS (as := [aI z17q, aI i]) (stk := []) cx dX6_spare_42 ml_X6_217 ms_X6_nthBit (by decide) rfl rfl (Nat.le_of_ble_eq_true rfl) (ct_X6_nthBit tl M_17q _ _ (by rcases hbs with q | q <;> omega)) (fun rr42q M_42q hp42q => ?_)
          obtain ⟨rfl, z42q, rfl, hntz42⟩ := hp42q
          refine aw_eq (stk2 := [aI z42q]) ?_ rfl rfl rfl rfl
          refine aw_iret cx rt dX6_spare_45 ?_
          refine ⟨z42q, rfl, hfrM_17, Or.inr ⟨by omega, by omega, num, sa, sb, hspr, Or.inr ⟨by rcases hbs with q | q <;> omega, ?_⟩⟩⟩
          rcases hbs with q | ⟨-, -, -, -, q0q, q1q⟩
          · omega
          · rcases (show i = 0 ∨ i = 1 by omega) with e | e
            · subst e; exact Or.inr (Or.inl ⟨rfl, q0q _ hntz42⟩)
            · subst e; exact Or.inr (Or.inr ⟨rfl, q1q _ hntz42⟩)
        · refine aw_iload_n cx dX6_spare_33 rfl 0 rfl ?_
          refine aw_callS (as := [aI z17q]) (stk := []) cx dX6_spare_34 ml_X6_182 ms_J6_bitCount_0f7a4 (by decide) rfl rfl (Nat.le_of_ble_eq_true rfl) (ct_J6_bitCount_0f7a4 tl M_17q _ (by rcases hbs with q | q <;> omega)) (fun rr34q M_34q hp34q => ?_)
          obtain ⟨rfl, rfl⟩ := hp34q
          refine aw_top (stk := []) (fun z34q hz34q => ?_)
          have hrz34q : 0 ≤ z34q ∧ z34q ≤ 12 := by rw [hz34q]; exact PCN_in _
          refine aw_goto (tgt := 45) cx dX6_spare_37 (by decide) ?_
          refine aw_iret cx rt dX6_spare_45 ?_
          exfalso; omega
      · refine aw_iconst (n := (-1)) cx dX6_spare_26 (by decide) ?_
        refine aw_iret cx rt dX6_spare_27 ?_
        exact ⟨-1, rfl, hfrM_17, Or.inr ⟨by omega, by omega, num, sa, sb, hspr, Or.inl ⟨by rcases hbs with q | q <;> omega, rfl⟩⟩⟩
    · have d10q := b2_y hz7q c10q
      refine aw_bipush (n := (-2)) cx dX6_spare_13 (by decide) ?_
      refine aw_iret cx rt dX6_spare_15 ?_
      exact ⟨-2, rfl, FR.rf, Or.inl ⟨by omega, rfl⟩⟩
set_option maxHeartbeats 1000000 in
set_option maxRecDepth 100000 in
theorem ct_X6_power (tl : List CD) (M : Mem) (b t : Int) (hb : 0 ≤ b ∧ b ≤ 16) (ht : 0 ≤ t ∧ t ≤ 8) : Ct 0 mX6_power (LB ++ tl) [aI b, aI t] M (fun r M1 => M = M1 ∧ r = some (aL ((b.toNat ^ t.toNat : Nat) : Int))) := by
  refine Ct.of (own := RX6) rfl (by decide +kernel) (Nat.le_of_ble_eq_true rfl) (fun X cx rt => ?_)
  refine aw_eq (loc2 := [(0, aI b), (1, aI t)]) ?_ rfl rfl rfl rfl
  refine aw_rngL 0 rfl (fun rl_b rh_b => ?_)
  refine aw_rngL 1 rfl (fun rl_t rh_t => ?_)
  refine aw_lconst (v := 1) cx dX6_power_0 rfl ?_
  refine aw_lstore_n (loc2 := [(2, aL 1), (0, aI b), (1, aI t)]) cx dX6_power_1 rfl (by decide) rfl ?_
  refine aw_iconst (n := 0) cx dX6_power_2 (by decide) ?_
  refine aw_istore (loc2 := [(4, aI 0), (2, aL 1), (0, aI b), (1, aI t)]) cx dX6_power_3 (by decide) rfl ?_
  have lp5q : ∀ (fu : Nat) (x2q : Int) (x4q : Int), (0 ≤ x4q ∧ x4q ≤ t) → (x2q = ((b.toNat ^ x4q.toNat : Nat) : Int)) → ((t - x4q).toNat) < fu → AW X (LB ++ tl) 5 5 [(0, aI b), (1, aI t), (2, aL x2q), (4, aI x4q)] [] M := by
    intro fu
    induction fu with
    | zero =>
      intro x2q x4q h0q hx hm
      exact absurd hm (Nat.not_lt_zero _)
    | succ fu ih5q =>
      intro x2q x4q h0q hx hm
      have hp := pow_le16 (b := b.toNat) (k := x4q.toNat) (by omega) (by omega)
      have hx2 : 0 ≤ x2q ∧ x2q ≤ 4294967296 := by omega
      have hpr : 0 ≤ x2q * b ∧ x2q * b ≤ 4294967296 * 16 := ⟨Int.mul_nonneg hx2.1 hb.1, Int.mul_le_mul hx2.2 hb.2 hb.1 (by omega)⟩
      refine aw_iload cx dX6_power_5 3 rfl ?_
      refine aw_iload_n cx dX6_power_7 rfl 1 rfl ?_
      refine aw_icmp_ge (tgt := 22) cx dX6_power_8 (by decide) (fun c8q => ?_) (fun c8q => ?_)
      · refine aw_lload_n cx dX6_power_22 rfl 2 rfl ?_
        refine aw_lret cx rt dX6_power_23 ?_
        exact ⟨rfl, congrArg (fun q => some (aL q)) (by rw [hx, show x4q = t by omega])⟩
      · refine aw_lload_n cx dX6_power_11 rfl 2 rfl ?_
        refine aw_iload_n cx dX6_power_12 rfl 0 rfl ?_
        refine aw_i2l cx dX6_power_13 ?_
        refine aw_lmul cx dX6_power_14 (by omega) (fun z14q hz14q => ?_)
        refine aw_lstore_n (loc2 := [(2, aL z14q), (0, aI b), (1, aI t), (4, aI x4q)]) cx dX6_power_15 rfl (by decide) rfl ?_
        refine aw_iinc cx dX6_power_16 3 rfl (by decide) (by omega) (fun z16q hz16q => ?_)
        refine aw_loc (loc2 := [(4, aI z16q), (2, aL z14q), (0, aI b), (1, aI t)]) rfl ?_
        refine aw_goto (tgt := 5) cx dX6_power_19 (by decide) ?_
        refine aw_sub [2, 3, 1, 0] rfl ?_
        refine ih5q _ _  ?i_h0 ?i_hx ?i_m
        case i_h0 =>
          omega
        case i_hx =>
          rw [hz16q, tn_s h0q.1, Nat.pow_succ, hz14q, hx, Int.natCast_mul, show ((b.toNat : Nat) : Int) = b by omega]
        case i_m =>
          omega
  refine aw_sub [2, 3, 1, 0] rfl ?_
  refine lp5q _ _ _  ?i_h0 ?i_hx (Nat.lt_succ_self _)
  case i_h0 =>
    omega
  case i_hx =>
    rfl
set_option maxHeartbeats 1000000 in
set_option maxRecDepth 100000 in
theorem ct_J7_fill_d0a16 (tl : List CD) (M : Mem) (k : Nat) (lo hi v : Int) (hk : (LB ++ tl)[k]? = some (.inr (2, 8, lo, hi))) (hv : lo ≤ v ∧ v ≤ hi) : Ct 0 mJ7_fill_d0a16 (LB ++ tl) [aR k, aL v] M (fun r M1 => r = none ∧ FR [k] M M1 ∧ ∀ j, j < 8 → M1 k j = v) := by
  refine Ct.of (own := RJ7) rfl (by decide +kernel) (Nat.le_of_ble_eq_true rfl) (fun X cx rt => ?_)
  refine aw_eq (loc2 := [(0, aR k), (1, aL v)]) ?_ rfl rfl rfl rfl
  refine aw_iconst (n := 0) cx dJ7_fill_d0a16_0 (by decide) ?_
  refine aw_istore_n (loc2 := [(3, aI 0), (0, aR k), (1, aL v)]) cx dJ7_fill_d0a16_1 rfl (by decide) rfl ?_
  refine aw_aload_n cx dJ7_fill_d0a16_2 rfl 1 rfl ?_
  refine aw_alen cx dJ7_fill_d0a16_3 hk ?_
  refine aw_istore (loc2 := [(4, aI 8), (3, aI 0), (0, aR k), (1, aL v)]) cx dJ7_fill_d0a16_4 (by decide) rfl ?_
  have lp6q : ∀ (fu : Nat) (x3q : Int) (N6q : Mem), (0 ≤ x3q ∧ x3q ≤ 8) → (FR [k] M N6q) → (∀ j, j < x3q.toNat → N6q k j = v) → ((8 - x3q).toNat) < fu → AW X (LB ++ tl) 5 6 [(0, aR k), (1, aL v), (3, aI x3q), (4, aI 8)] [] N6q := by
    intro fu
    induction fu with
    | zero =>
      intro x3q N6q h0q hf ha hm
      exact absurd hm (Nat.not_lt_zero _)
    | succ fu ih6q =>
      intro x3q N6q h0q hf ha hm
      refine aw_iload_n cx dJ7_fill_d0a16_6 rfl 2 rfl ?_
      refine aw_iload cx dJ7_fill_d0a16_7 3 rfl ?_
      refine aw_icmp_ge (tgt := 22) cx dJ7_fill_d0a16_9 (by decide) (fun c9q => ?_) (fun c9q => ?_)
      · refine aw_vret cx rt dJ7_fill_d0a16_22 ?_
        exact ⟨rfl, hf, fun j h => ha j (by omega)⟩
      · refine aw_aload_n cx dJ7_fill_d0a16_12 rfl 0 rfl ?_
        refine aw_iload_n cx dJ7_fill_d0a16_13 rfl 2 rfl ?_
        refine aw_lload_n cx dJ7_fill_d0a16_14 rfl 1 rfl ?_
        refine aw_last cx dJ7_fill_d0a16_15 hk (⟨by omega, by omega⟩) (hv) ?_
        obtain ⟨M_15q, hM_15q⟩ : ∃ q, q = up N6q k (Int.toNat (x3q)) (v) := ⟨_, rfl⟩
        rw [← hM_15q]
        refine aw_iinc cx dJ7_fill_d0a16_16 2 rfl (by decide) (by omega) (fun z16q hz16q => ?_)
        refine aw_loc (loc2 := [(3, aI z16q), (0, aR k), (1, aL v), (4, aI 8)]) rfl ?_
        refine aw_goto (tgt := 6) cx dJ7_fill_d0a16_19 (by decide) ?_
        refine aw_sub [1, 2, 0, 3] rfl ?_
        refine ih6q _ _  ?i_h0 ?i_hf ?i_ha ?i_m
        case i_h0 =>
          omega
        case i_hf =>
          exact hf.put hM_15q (by simp)
        case i_ha =>
          rw [hz16q]; exact row_s (g := fun _ => v) (by omega) hM_15q ha rfl
        case i_m =>
          omega
  refine aw_sub [2, 3, 1, 0] rfl ?_
  refine lp6q _ _ _  ?i_h0 ?i_hf ?i_ha (Nat.lt_succ_self _)
  case i_h0 =>
    omega
  case i_hf =>
    exact FR.rf
  case i_ha =>
    exact all_0
set_option maxHeartbeats 1000000 in
set_option maxRecDepth 100000 in
theorem ct_X6_tallyFavour (tl : List CD) (M : Mem) (c : Int) (hc : 0 ≤ c ∧ c ≤ 16) : Ct 5 mX6_tallyFavour (LB ++ tl) [aR 0, aI c] M (fun r M1 => r = none ∧ FR SC M M1 ∧ ∀ j, j < (M 15 2).toNat → M1 31 j = fFAV (fgT M) (qgT M) c j) := by
  refine Ct.of (own := RX6) rfl (by decide +kernel) (Nat.le_of_ble_eq_true rfl) (fun X cx rt => ?_)
  refine aw_eq (loc2 := [(0, aR 0), (1, aI c)]) ?_ rfl rfl rfl rfl
  refine aw_rngL 1 rfl (fun rl_c rh_c => ?_)
  refine aw_ok (fun om => ?_)
  have hsz : 0 ≤ M 5 4 ∧ M 5 4 ≤ 12 := okF om (lb_5 tl) (j := 4) rfl (show (0 : Nat) ≠ 1 by decide)
  have hse : 0 ≤ M 18 3 ∧ M 18 3 ≤ 8 := okF om (lb_18 tl) (j := 3) rfl (show (0 : Nat) ≠ 1 by decide)
  have hcz : 0 ≤ M 15 2 ∧ M 15 2 ≤ 8 := okF om (lb_15 tl) (j := 2) rfl (show (0 : Nat) ≠ 1 by decide)
  have hNN : ∀ j, 0 ≤ M 6 j := fun j => (okA om (lb_6 tl) j).1
  have hal := all_bits hse
  have hp2q : (2 : Nat) ^ (M 18 3).toNat ≤ 2 ^ 8 := Nat.pow_le_pow_right (by omega) (by omega)
  have hp1q := Nat.two_pow_pos (M 18 3).toNat
  have hsh := bShl_1 (k := M 18 3) (by omega)
  have hfv := fun (j : Nat) (n : Nat) (hn : n ≤ 2 ^ (M 18 3).toNat) => FAV_in (cb := (fun h : Nat => fCB (-1) (setK (fgT M) (KEF (h : Int) (M 19))) (qgT M))) (c := c) (m := (M 18 3).toNat) (j := j) (n := n) hc (by omega) (fun h hh => PCN_m _ (by omega) h (by omega))
  refine aw_aload_n cx dX6_tallyFavour_0 rfl 0 rfl ?_
  refine aw_getR (q := 31) cx dX6_tallyFavour_1 fl_X6_70 (lb_0 tl) rfl rfl ?_
  refine aw_lconst (v := 0) cx dX6_tallyFavour_4 rfl ?_
  refine aw_callS (as := [aR 31, aL 0]) (stk := []) cx dX6_tallyFavour_5 ml_X6_346 ms_J7_fill_d0a16 (by decide) rfl rfl (Nat.le_of_ble_eq_true rfl) (ct_J7_fill_d0a16 tl M _ _ _ _ (lb_31 tl) (⟨by decide, by decide⟩)) (fun rr5q M_5q hp5q => ?_)
  obtain ⟨rfl, hfrM_5, hflM_5⟩ := hp5q
  refine aw_eq (stk2 := []) ?_ rfl rfl rfl rfl
  refine aw_iconst (n := 0) cx dX6_tallyFavour_8 (by decide) ?_
  refine aw_istore_n (loc2 := [(2, aI 0), (0, aR 0), (1, aI c)]) cx dX6_tallyFavour_9 rfl (by decide) rfl ?_
  have lp10q : ∀ (fu : Nat) (x2q : Int) (N10q : Mem), (0 ≤ x2q ∧ x2q ≤ ((2 ^ (M 18 3).toNat : Nat) : Int)) → (FR SC M N10q) → (∀ j, j < 8 → j < (M 15 2).toNat → N10q 31 j = FAV (fun h : Nat => fCB (-1) (setK (fgT M) (KEF (h : Int) (M 19))) (qgT M)) c (M 18 3).toNat j x2q.toNat) → ((((2 ^ (M 18 3).toNat : Nat) : Int) - x2q).toNat) < fu → AW X (LB ++ tl) 8 10 [(0, aR 0), (1, aI c), (2, aI x2q)] [] N10q := by
    intro fu
    induction fu with
    | zero =>
      intro x2q N10q h0q hf ha hm
      exact absurd hm (Nat.not_lt_zero _)
    | succ fu ih10q =>
      intro x2q N10q h0q hf ha hm
      have g0 := hf 0 (by decide)
      have g5 := hf 5 (by decide)
      have g6 := hf 6 (by decide)
      have g7 := hf 7 (by decide)
      have g8 := hf 8 (by decide)
      have g9 := hf 9 (by decide)
      have g15 := hf 15 (by decide)
      have g16 := hf 16 (by decide)
      have g17 := hf 17 (by decide)
      have g18 := hf 18 (by decide)
      have g19 := hf 19 (by decide)
      have g20 := hf 20 (by decide)
      have g21 := hf 21 (by decide)
      have g183 := congrFun g18 3
      have g54 := congrFun g5 4
      have hqg := QG_fr g0 g15 g16 g17
      have g152 := congrFun g15 2
      refine aw_iload_n cx dX6_tallyFavour_10 rfl 2 rfl ?_
      refine aw_aload_n cx dX6_tallyFavour_11 rfl 0 rfl ?_
      refine aw_getR (q := 18) cx dX6_tallyFavour_12 fl_X6_41 (lb_0 tl) rfl rfl ?_
      refine aw_callV (as := []) (k := 18) (stk := [aI x2q]) cx dX6_tallyFavour_15 ml_X6_175 mv_X2_all rfl (lb_18 tl) (by decide) rfl rfl (Nat.le_of_ble_eq_true rfl) (ct_X2_all tl N10q  ) (fun rr15q M_15q hp15q => ?_)
      obtain ⟨rfl, rfl⟩ := hp15q
      refine aw_top (stk := [aI x2q]) (fun z15q hz15q => ?_)
      have hz15b : z15q = ((2 ^ (M 18 3).toNat : Nat) : Int) - 1 := by rw [hz15q, g183, hsh]
      refine aw_icmp_gt (tgt := 120) cx dX6_tallyFavour_18 (by decide) (fun c18q => ?_) (fun c18q => ?_)
      · refine aw_vret cx rt dX6_tallyFavour_120 ?_
        refine ⟨rfl, hf, fun j hj => ?_⟩
        rw [ha j (by omega) hj, show x2q = ((2 ^ (M 18 3).toNat : Nat) : Int) by omega]
        rfl
      · refine aw_iload_n cx dX6_tallyFavour_21 rfl 2 rfl ?_
        refine aw_callS (as := [aI x2q]) (stk := []) cx dX6_tallyFavour_22 ml_X6_182 ms_J6_bitCount_0f7a4 (by decide) rfl rfl (Nat.le_of_ble_eq_true rfl) (ct_J6_bitCount_0f7a4 tl N10q _ (by omega)) (fun rr22q M_22q hp22q => ?_)
        obtain ⟨rfl, rfl⟩ := hp22q
        refine aw_top (stk := []) (fun z22q hz22q => ?_)
        have hrz22q : 0 ≤ z22q ∧ z22q ≤ 12 := by rw [hz22q]; exact PCN_in _
        have hpm := PCN_m (M 18 3).toNat (by omega) x2q.toNat (by omega)
        rw [show ((x2q.toNat : Nat) : Int) = x2q by omega, ← hz22q] at hpm
        refine aw_istore_n (loc2 := [(3, aI z22q), (0, aR 0), (1, aI c), (2, aI x2q)]) cx dX6_tallyFavour_25 rfl (by decide) rfl ?_
        refine aw_iload_n cx dX6_tallyFavour_26 rfl 2 rfl ?_
        refine aw_iload_n cx dX6_tallyFavour_27 rfl 0 rfl ?_
        refine aw_callS (as := [aI c, aI z22q]) (stk := []) cx dX6_tallyFavour_28 ml_X6_349 ms_X6_power (by decide) rfl rfl (Nat.le_of_ble_eq_true rfl) (ct_X6_power tl N10q _ _ (hc) (by omega)) (fun rr28q M_28q hp28q => ?_)
        obtain ⟨rfl, rfl⟩ := hp28q
        refine aw_topL (stk := []) (fun z28q hz28q => ?_)
        refine aw_bipush (n := 16) cx dX6_tallyFavour_31 (by decide) ?_
        refine aw_iload_n cx dX6_tallyFavour_33 rfl 2 rfl ?_
        refine aw_isub cx dX6_tallyFavour_34 (by omega) (fun z34q hz34q => ?_)
        refine aw_aload_n cx dX6_tallyFavour_35 rfl 1 rfl ?_
        refine aw_getR (q := 18) cx dX6_tallyFavour_36 fl_X6_41 (lb_0 tl) rfl rfl ?_
        refine aw_getI cx dX6_tallyFavour_39 fl_X6_121 (lb_18 tl) rfl (fun z39q hz39q lo_z39q hi_z39q => ?_)
        refine aw_iload_n cx dX6_tallyFavour_42 rfl 0 rfl ?_
        refine aw_isub cx dX6_tallyFavour_43 (by omega) (fun z43q hz43q => ?_)
        refine aw_callS (as := [aI z34q, aI z43q]) (stk := [aL z28q]) cx dX6_tallyFavour_44 ml_X6_349 ms_X6_power (by decide) rfl rfl (Nat.le_of_ble_eq_true rfl) (ct_X6_power tl N10q _ _ (by omega) (by omega)) (fun rr44q M_44q hp44q => ?_)
        obtain ⟨rfl, rfl⟩ := hp44q
        refine aw_topL (stk := [aL z28q]) (fun z44q hz44q => ?_)
        have hpw : PWR c (M 18 3).toNat x2q = z28q * z44q := by unfold PWR; rw [Int.natCast_mul, ← hz22q, hz28q, hz44q, hz34q, hz43q, hz39q, g183, show (M 18 3).toNat - z22q.toNat = (M 18 3 - z22q).toNat by omega]
        have hpi := PWR_in (c := c) (m := (M 18 3).toNat) (h := x2q) hc (by omega) (by rw [← hz22q]; omega)
        refine aw_lmul cx dX6_tallyFavour_47 (by rw [← hpw]; omega) (fun z47q hz47q => ?_)
        refine aw_lstore (loc2 := [(4, aL z47q), (3, aI z22q), (0, aR 0), (1, aI c), (2, aI x2q)]) cx dX6_tallyFavour_48 (by decide) rfl ?_
        refine aw_lload cx dX6_tallyFavour_50 0 rfl ?_
        refine aw_lconst (v := 0) cx dX6_tallyFavour_52 rfl ?_
        have hz47b : z47q = PWR c (M 18 3).toNat x2q := by rw [hz47q, hpw]
        refine aw_lcmp cx dX6_tallyFavour_53 (fun c53q => ?_) (fun c53q => ?_) (fun c53q => ?_)
        · refine aw_if_ne (tgt := 61) cx dX6_tallyFavour_54 (by decide) (fun c54q => ?_) (fun c54q => ?_)
          · refine aw_aload_n cx dX6_tallyFavour_61 rfl 2 rfl ?_
            refine aw_aload_n cx dX6_tallyFavour_62 rfl 2 rfl ?_
            refine aw_getR (q := 5) cx dX6_tallyFavour_63 fl_X6_24 (lb_0 tl) rfl rfl ?_
            refine aw_iload_n cx dX6_tallyFavour_66 rfl 4 rfl ?_
            refine aw_callV (as := [aR 5, aI x2q]) (k := 0) (stk := []) cx dX6_tallyFavour_67 ml_X6_178 mv_X6_clearedBits rfl (lb_0 tl) (by decide) rfl rfl (Nat.le_of_ble_eq_true rfl) (ct_X6_clearedBits tl N10q 5 _ (Or.inl rfl) (by omega)) (fun rr67q M_67q hp67q => ?_)
            obtain ⟨z67q, rfl, hfrM_67, hcbM_67, hxrM_67, hctM_67, hrnM_67, hkkM_67, htlM_67⟩ := hp67q
            refine aw_eq (stk2 := [aI z67q]) ?_ rfl rfl rfl rfl
            have hfe : FGe (fgH N10q 5 x2q) (setK (fgT M) (KEF ((x2q.toNat : Nat) : Int) (M 19))) := held_f (fun a ha => by simp only [List.mem_cons, List.not_mem_nil, or_false] at ha; rcases ha with rfl | rfl | rfl | rfl | rfl | rfl | rfl | rfl | rfl <;> exact hf _ (by decide)) (fun e he => by rw [show ((x2q.toNat : Nat) : Int) = x2q by omega])
            have hN7 : ∀ j, 0 ≤ N10q 6 j := fun j => by rw [g6]; exact hNN j
            rw [hqg, fCB_cg hfe QGe.rf hN7 (show (M 15 2).toNat ≤ 8 by omega) hrnM_67] at hcbM_67
            refine aw_istore (loc2 := [(6, aI z67q), (4, aL z47q), (3, aI z22q), (0, aR 0), (1, aI c), (2, aI x2q)]) cx dX6_tallyFavour_70 (by decide) rfl ?_
            refine aw_iconst (n := 0) cx dX6_tallyFavour_72 (by decide) ?_
            refine aw_istore (loc2 := [(7, aI 0), (6, aI z67q), (4, aL z47q), (3, aI z22q), (0, aR 0), (1, aI c), (2, aI x2q)]) cx dX6_tallyFavour_73 (by decide) rfl ?_
            have lp75q : ∀ (fu : Nat) (x7q : Int) (N75q : Mem), (0 ≤ x7q ∧ x7q ≤ M 15 2) → (FR SC M N75q) → (∀ j, j < x7q.toNat → N75q 31 j = FAV (fun h : Nat => fCB (-1) (setK (fgT M) (KEF (h : Int) (M 19))) (qgT M)) c (M 18 3).toNat j (x2q + 1).toNat) → (∀ j, x7q.toNat ≤ j → j < (M 15 2).toNat → N75q 31 j = FAV (fun h : Nat => fCB (-1) (setK (fgT M) (KEF (h : Int) (M 19))) (qgT M)) c (M 18 3).toNat j x2q.toNat) → ((M 15 2 - x7q).toNat) < fu → AW X (LB ++ tl) 8 75 [(0, aR 0), (1, aI c), (2, aI x2q), (3, aI z22q), (4, aL z47q), (6, aI z67q), (7, aI x7q)] [] N75q := by
              intro fu
              induction fu with
              | zero =>
                intro x7q N75q h1q hf2 hb hd hm
                exact absurd hm (Nat.not_lt_zero _)
              | succ fu ih75q =>
                intro x7q N75q h1q hf2 hb hd hm
                have k152 := congrFun (hf2 15 (by decide)) 2
                have hv1 := hfv x7q.toNat x2q.toNat (by omega)
                have hv2 := hfv x7q.toNat (x2q + 1).toNat (by omega)
                refine aw_iload cx dX6_tallyFavour_75 6 rfl ?_
                refine aw_aload_n cx dX6_tallyFavour_77 rfl 0 rfl ?_
                refine aw_getR (q := 15) cx dX6_tallyFavour_78 fl_X6_34 (lb_0 tl) rfl rfl ?_
                refine aw_getI cx dX6_tallyFavour_81 fl_X6_118 (lb_15 tl) rfl (fun z81q hz81q lo_z81q hi_z81q => ?_)
                refine aw_icmp_ge (tgt := 114) cx dX6_tallyFavour_84 (by decide) (fun c84q => ?_) (fun c84q => ?_)
                · refine aw_iinc cx dX6_tallyFavour_114 2 rfl (by decide) (by omega) (fun z114q hz114q => ?_)
                  refine aw_loc (loc2 := [(2, aI z114q), (0, aR 0), (1, aI c), (3, aI z22q), (4, aL z47q), (6, aI z67q), (7, aI x7q)]) rfl ?_
                  refine aw_goto (tgt := 10) cx dX6_tallyFavour_117 (by decide) ?_
                  refine aw_sub [1, 2, 0] rfl ?_
                  refine ih10q _ _  ?i_h0 ?i_hf ?i_ha ?i_m
                  case i_h0 =>
                    omega
                  case i_hf =>
                    exact hf2
                  case i_ha =>
                    intro j h8q hj; rw [hz114q]; exact hb j (by omega)
                  case i_m =>
                    omega
                · refine aw_aload_n cx dX6_tallyFavour_87 rfl 0 rfl ?_
                  refine aw_getR (q := 31) cx dX6_tallyFavour_88 fl_X6_70 (lb_0 tl) rfl rfl ?_
                  refine aw_iload cx dX6_tallyFavour_91 6 rfl ?_
                  refine aw_dup2 cx dX6_tallyFavour_93 rfl rfl ?_
                  refine aw_lald cx dX6_tallyFavour_94 (lb_31 tl) (⟨by omega, by omega⟩) (fun z94q hz94q lo_z94q hi_z94q => ?_)
                  refine aw_iload cx dX6_tallyFavour_95 5 rfl ?_
                  refine aw_iload cx dX6_tallyFavour_97 6 rfl ?_
                  refine aw_ishr cx dX6_tallyFavour_99 (fun z99q hz99q => ?_)
                  have hbx : 0 ≤ z67q ∧ z67q ≤ 255 := by omega
                  refine aw_iconst (n := 1) cx dX6_tallyFavour_100 (by decide) ?_
                  refine aw_iand cx dX6_tallyFavour_101 (fun z101q hz101q => ?_)
                  have hb101 : z101q = b2 (BT z67q x7q.toNat) := by rw [hz101q, hz99q]; exact isbit (by omega) (by omega)
                  have hbi := b2_in (BT z67q x7q.toNat)
                  refine aw_i2l cx dX6_tallyFavour_102 ?_
                  refine aw_lload cx dX6_tallyFavour_103 4 rfl ?_
                  refine aw_lmul cx dX6_tallyFavour_105 (by rcases (show z101q = 0 ∨ z101q = 1 by omega) with e | e <;> rw [e] <;> omega) (fun z105q hz105q => ?_)
                  have hz105b : 0 ≤ z105q ∧ z105q ≤ 4294967296 := by rcases (show z101q = 0 ∨ z101q = 1 by omega) with e | e <;> rw [hz105q, e] <;> omega
                  refine aw_ladd cx dX6_tallyFavour_106 (by omega) (fun z106q hz106q => ?_)
                  have hst : z106q = FAV (fun h : Nat => fCB (-1) (setK (fgT M) (KEF (h : Int) (M 19))) (qgT M)) c (M 18 3).toNat x7q.toNat (x2q + 1).toNat := by rw [FAV_i h0q.1, hz106q, hz94q, hd x7q.toNat (Nat.le_refl _) (by omega)]; congr 1; first | (rw [← hz47b, bC_b, hz105q, hb101, hcbM_67]) | (rw [← hz47b, c53q, Int.mul_zero, hz105q, c53q, Int.mul_zero])
                  refine aw_last cx dX6_tallyFavour_107 (lb_31 tl) (⟨by omega, by omega⟩) (⟨by omega, by omega⟩) ?_
                  obtain ⟨M_107q, hM_107q⟩ : ∃ q, q = up N75q 31 (Int.toNat (x7q)) (z106q) := ⟨_, rfl⟩
                  rw [← hM_107q]
                  refine aw_iinc cx dX6_tallyFavour_108 6 rfl (by decide) (by omega) (fun z108q hz108q => ?_)
                  refine aw_loc (loc2 := [(7, aI z108q), (0, aR 0), (1, aI c), (2, aI x2q), (3, aI z22q), (4, aL z47q), (6, aI z67q)]) rfl ?_
                  refine aw_goto (tgt := 75) cx dX6_tallyFavour_111 (by decide) ?_
                  refine aw_sub [1, 2, 3, 4, 5, 6, 0] rfl ?_
                  refine ih75q _ _  ?i_h1 ?i_hf2 ?i_hb ?i_hd ?i_m
                  case i_h1 =>
                    omega
                  case i_hf2 =>
                    exact hf2.put hM_107q (by decide)
                  case i_hb =>
                    rw [hz108q]; exact row_s (g := fun j => FAV (fun h : Nat => fCB (-1) (setK (fgT M) (KEF (h : Int) (M 19))) (qgT M)) c (M 18 3).toNat j (x2q + 1).toNat) h1q.1 hM_107q hb hst
                  case i_hd =>
                    intro j h5q h6q; rw [up_ne hM_107q (by omega)]; exact hd j (by omega) h6q
                  case i_m =>
                    omega
            refine aw_sub [4, 5, 6, 3, 2, 1, 0] rfl ?_
            refine lp75q _ _ _  ?i_h1 ?i_hf2 ?i_hb ?i_hd (Nat.lt_succ_self _)
            case i_h1 =>
              omega
            case i_hf2 =>
              exact hf.tr hfrM_67 (by decide)
            case i_hb =>
              exact all_0
            case i_hd =>
              intro j h5q h6q; rw [hfrM_67 31 (by decide)]; exact ha j (by omega) h6q
          · exact absurd c54q (by decide)
        · refine aw_if_ne (tgt := 61) cx dX6_tallyFavour_54 (by decide) (fun c54q => ?_) (fun c54q => ?_)
          · exact absurd c54q (by decide)
          · refine aw_iconst (n := 0) cx dX6_tallyFavour_57 (by decide) ?_
            refine aw_goto (tgt := 70) cx dX6_tallyFavour_58 (by decide) ?_
            refine aw_istore (loc2 := [(6, aI 0), (4, aL z47q), (3, aI z22q), (0, aR 0), (1, aI c), (2, aI x2q)]) cx dX6_tallyFavour_70 (by decide) rfl ?_
            refine aw_iconst (n := 0) cx dX6_tallyFavour_72 (by decide) ?_
            refine aw_istore (loc2 := [(7, aI 0), (6, aI 0), (4, aL z47q), (3, aI z22q), (0, aR 0), (1, aI c), (2, aI x2q)]) cx dX6_tallyFavour_73 (by decide) rfl ?_
            have lp75q : ∀ (fu : Nat) (x7q : Int) (N75q : Mem), (0 ≤ x7q ∧ x7q ≤ M 15 2) → (FR SC M N75q) → (∀ j, j < x7q.toNat → N75q 31 j = FAV (fun h : Nat => fCB (-1) (setK (fgT M) (KEF (h : Int) (M 19))) (qgT M)) c (M 18 3).toNat j (x2q + 1).toNat) → (∀ j, x7q.toNat ≤ j → j < (M 15 2).toNat → N75q 31 j = FAV (fun h : Nat => fCB (-1) (setK (fgT M) (KEF (h : Int) (M 19))) (qgT M)) c (M 18 3).toNat j x2q.toNat) → ((M 15 2 - x7q).toNat) < fu → AW X (LB ++ tl) 8 75 [(0, aR 0), (1, aI c), (2, aI x2q), (3, aI z22q), (4, aL z47q), (6, aI 0), (7, aI x7q)] [] N75q := by
              intro fu
              induction fu with
              | zero =>
                intro x7q N75q h1q hf2 hb hd hm
                exact absurd hm (Nat.not_lt_zero _)
              | succ fu ih75q =>
                intro x7q N75q h1q hf2 hb hd hm
                have k152 := congrFun (hf2 15 (by decide)) 2
                have hv1 := hfv x7q.toNat x2q.toNat (by omega)
                have hv2 := hfv x7q.toNat (x2q + 1).toNat (by omega)
                refine aw_iload cx dX6_tallyFavour_75 6 rfl ?_
                refine aw_aload_n cx dX6_tallyFavour_77 rfl 0 rfl ?_
                refine aw_getR (q := 15) cx dX6_tallyFavour_78 fl_X6_34 (lb_0 tl) rfl rfl ?_
                refine aw_getI cx dX6_tallyFavour_81 fl_X6_118 (lb_15 tl) rfl (fun z81q hz81q lo_z81q hi_z81q => ?_)
                refine aw_icmp_ge (tgt := 114) cx dX6_tallyFavour_84 (by decide) (fun c84q => ?_) (fun c84q => ?_)
                · refine aw_iinc cx dX6_tallyFavour_114 2 rfl (by decide) (by omega) (fun z114q hz114q => ?_)
                  refine aw_loc (loc2 := [(2, aI z114q), (0, aR 0), (1, aI c), (3, aI z22q), (4, aL z47q), (6, aI 0), (7, aI x7q)]) rfl ?_
                  refine aw_goto (tgt := 10) cx dX6_tallyFavour_117 (by decide) ?_
                  refine aw_sub [1, 2, 0] rfl ?_
                  refine ih10q _ _  ?i_h0 ?i_hf ?i_ha ?i_m
                  case i_h0 =>
                    omega
                  case i_hf =>
                    exact hf2
                  case i_ha =>
                    intro j h8q hj; rw [hz114q]; exact hb j (by omega)
                  case i_m =>
                    omega
                · refine aw_aload_n cx dX6_tallyFavour_87 rfl 0 rfl ?_
                  refine aw_getR (q := 31) cx dX6_tallyFavour_88 fl_X6_70 (lb_0 tl) rfl rfl ?_
                  refine aw_iload cx dX6_tallyFavour_91 6 rfl ?_
                  refine aw_dup2 cx dX6_tallyFavour_93 rfl rfl ?_
                  refine aw_lald cx dX6_tallyFavour_94 (lb_31 tl) (⟨by omega, by omega⟩) (fun z94q hz94q lo_z94q hi_z94q => ?_)
                  refine aw_iload cx dX6_tallyFavour_95 5 rfl ?_
                  refine aw_iload cx dX6_tallyFavour_97 6 rfl ?_
                  refine aw_ishr cx dX6_tallyFavour_99 (fun z99q hz99q => ?_)
                  have hbx : 0 ≤ 0 ∧ 0 ≤ 255 := by omega
                  refine aw_iconst (n := 1) cx dX6_tallyFavour_100 (by decide) ?_
                  refine aw_iand cx dX6_tallyFavour_101 (fun z101q hz101q => ?_)
                  have hb101 : z101q = b2 (BT 0 x7q.toNat) := by rw [hz101q, hz99q]; exact isbit (by omega) (by omega)
                  have hbi := b2_in (BT 0 x7q.toNat)
                  refine aw_i2l cx dX6_tallyFavour_102 ?_
                  refine aw_lload cx dX6_tallyFavour_103 4 rfl ?_
                  refine aw_lmul cx dX6_tallyFavour_105 (by rcases (show z101q = 0 ∨ z101q = 1 by omega) with e | e <;> rw [e] <;> omega) (fun z105q hz105q => ?_)
                  have hz105b : 0 ≤ z105q ∧ z105q ≤ 4294967296 := by rcases (show z101q = 0 ∨ z101q = 1 by omega) with e | e <;> rw [hz105q, e] <;> omega
                  refine aw_ladd cx dX6_tallyFavour_106 (by omega) (fun z106q hz106q => ?_)
                  have hst : z106q = FAV (fun h : Nat => fCB (-1) (setK (fgT M) (KEF (h : Int) (M 19))) (qgT M)) c (M 18 3).toNat x7q.toNat (x2q + 1).toNat := by rw [FAV_i h0q.1, hz106q, hz94q, hd x7q.toNat (Nat.le_refl _) (by omega)]; congr 1; first | (rw [← hz47b, bC_b, hz105q, hb101, hcbM_67]) | (rw [← hz47b, c53q, Int.mul_zero, hz105q, c53q, Int.mul_zero])
                  refine aw_last cx dX6_tallyFavour_107 (lb_31 tl) (⟨by omega, by omega⟩) (⟨by omega, by omega⟩) ?_
                  obtain ⟨M_107q, hM_107q⟩ : ∃ q, q = up N75q 31 (Int.toNat (x7q)) (z106q) := ⟨_, rfl⟩
                  rw [← hM_107q]
                  refine aw_iinc cx dX6_tallyFavour_108 6 rfl (by decide) (by omega) (fun z108q hz108q => ?_)
                  refine aw_loc (loc2 := [(7, aI z108q), (0, aR 0), (1, aI c), (2, aI x2q), (3, aI z22q), (4, aL z47q), (6, aI 0)]) rfl ?_
                  refine aw_goto (tgt := 75) cx dX6_tallyFavour_111 (by decide) ?_
                  refine aw_sub [1, 2, 3, 4, 5, 6, 0] rfl ?_
                  refine ih75q _ _  ?i_h1 ?i_hf2 ?i_hb ?i_hd ?i_m
                  case i_h1 =>
                    omega
                  case i_hf2 =>
                    exact hf2.put hM_107q (by decide)
                  case i_hb =>
                    rw [hz108q]; exact row_s (g := fun j => FAV (fun h : Nat => fCB (-1) (setK (fgT M) (KEF (h : Int) (M 19))) (qgT M)) c (M 18 3).toNat j (x2q + 1).toNat) h1q.1 hM_107q hb hst
                  case i_hd =>
                    intro j h5q h6q; rw [up_ne hM_107q (by omega)]; exact hd j (by omega) h6q
                  case i_m =>
                    omega
            refine aw_sub [4, 5, 6, 3, 2, 1, 0] rfl ?_
            refine lp75q _ _ _  ?i_h1 ?i_hf2 ?i_hb ?i_hd (Nat.lt_succ_self _)
            case i_h1 =>
              omega
            case i_hf2 =>
              exact hf
            case i_hb =>
              exact all_0
            case i_hd =>
              exact fun j h5q h6q => ha j (by omega) h6q
        · exfalso
          omega
  refine aw_sub [1, 2, 0] rfl ?_
  refine lp10q _ _ _  ?i_h0 ?i_hf ?i_ha (Nat.lt_succ_self _)
  case i_h0 =>
    omega
  case i_hf =>
    exact hfrM_5.mono (by decide)
  case i_ha =>
    exact fun j hj _ => hflM_5 j hj
set_option maxHeartbeats 1000000 in
set_option maxRecDepth 100000 in
theorem ct_X6_lowestTerm (tl : List CD) (M : Mem) (s what : Int) (hs : 0 ≤ s ∧ s ≤ 1099511627776) (hw : 0 ≤ what ∧ what ≤ 1) : Ct 0 mX6_lowestTerm (LB ++ tl) [aR 0, aL s, aI what] M (fun r M1 => M = M1 ∧ ∃ x, r = some (aL x) ∧ aLow s (4 * (M 18 3).toNat) what x) := by
  refine Ct.of (own := RX6) rfl (by decide +kernel) (Nat.le_of_ble_eq_true rfl) (fun X cx rt => ?_)
  refine aw_eq (loc2 := [(0, aR 0), (1, aL s), (3, aI what)]) ?_ rfl rfl rfl rfl
  refine aw_rngL 2 rfl (fun rl_what rh_what => ?_)
  refine aw_ok (fun om => ?_)
  have hse : 0 ≤ M 18 3 ∧ M 18 3 ≤ 8 := okF om (lb_18 tl) (j := 3) rfl (show (0 : Nat) ≠ 1 by decide)
  refine aw_lload_n cx dX6_lowestTerm_0 rfl 1 rfl ?_
  refine aw_lstore (loc2 := [(4, aL s), (0, aR 0), (1, aL s), (3, aI what)]) cx dX6_lowestTerm_1 (by decide) rfl ?_
  refine aw_iconst (n := 4) cx dX6_lowestTerm_3 (by decide) ?_
  refine aw_aload_n cx dX6_lowestTerm_4 rfl 1 rfl ?_
  refine aw_getR (q := 18) cx dX6_lowestTerm_5 fl_X6_41 (lb_0 tl) rfl rfl ?_
  refine aw_getI cx dX6_lowestTerm_8 fl_X6_121 (lb_18 tl) rfl (fun z8q hz8q lo_z8q hi_z8q => ?_)
  refine aw_imul cx dX6_lowestTerm_11 (by omega) (fun z11q hz11q => ?_)
  refine aw_istore (loc2 := [(6, aI z11q), (4, aL s), (0, aR 0), (1, aL s), (3, aI what)]) cx dX6_lowestTerm_12 (by decide) rfl ?_
  have lp14q : ∀ (fu : Nat) (x4q : Int) (x6q : Int), (0 ≤ x6q ∧ x6q ≤ 4 * M 18 3) → (x4q * ((2 ^ (4 * (M 18 3).toNat - x6q.toNat) : Nat) : Int) = s) → (0 ≤ x4q ∧ x4q ≤ 1099511627776) → (x6q.toNat) < fu → AW X (LB ++ tl) 7 14 [(0, aR 0), (1, aL s), (3, aI what), (4, aL x4q), (6, aI x6q)] [] M := by
    intro fu
    induction fu with
    | zero =>
      intro x4q x6q h0q hx h4q hm
      exact absurd hm (Nat.not_lt_zero _)
    | succ fu ih14q =>
      intro x4q x6q h0q hx h4q hm
      refine aw_iload cx dX6_lowestTerm_14 4 rfl ?_
      refine aw_if_le (tgt := 40) cx dX6_lowestTerm_16 (by decide) (fun c16q => ?_) (fun c16q => ?_)
      · refine aw_iload_n cx dX6_lowestTerm_40 rfl 2 rfl ?_
        refine aw_if_ne (tgt := 49) cx dX6_lowestTerm_41 (by decide) (fun c41q => ?_) (fun c41q => ?_)
        · refine aw_lconst (v := 1) cx dX6_lowestTerm_49 rfl ?_
          refine aw_iload cx dX6_lowestTerm_50 4 rfl ?_
          refine aw_lshl cx dX6_lowestTerm_52 (fun z52q hz52q => ?_)
          refine aw_lret cx rt dX6_lowestTerm_53 ?_
          first | (refine ⟨rfl, _, rfl, x4q, x6q.toNat, ⟨by omega, by omega, hx, ?_⟩, Or.inl ⟨by omega, rfl⟩⟩; first | (left; omega) | (right; rw [lAnd_1 (by omega)] at hz22q; omega)) | (refine ⟨rfl, _, rfl, x4q, x6q.toNat, ⟨by omega, by omega, hx, ?_⟩, Or.inr ⟨by omega, by rw [hz52q]; exact lShl_1 (by omega)⟩⟩; first | (left; omega) | (right; rw [lAnd_1 (by omega)] at hz22q; omega))
        · refine aw_lload cx dX6_lowestTerm_44 3 rfl ?_
          refine aw_goto (tgt := 53) cx dX6_lowestTerm_46 (by decide) ?_
          refine aw_lret cx rt dX6_lowestTerm_53 ?_
          first | (refine ⟨rfl, _, rfl, x4q, x6q.toNat, ⟨by omega, by omega, hx, ?_⟩, Or.inl ⟨by omega, rfl⟩⟩; first | (left; omega) | (right; rw [lAnd_1 (by omega)] at hz22q; omega)) | (refine ⟨rfl, _, rfl, x4q, x6q.toNat, ⟨by omega, by omega, hx, ?_⟩, Or.inr ⟨by omega, by rw [hz52q]; exact lShl_1 (by omega)⟩⟩; first | (left; omega) | (right; rw [lAnd_1 (by omega)] at hz22q; omega))
      · refine aw_lload cx dX6_lowestTerm_19 3 rfl ?_
        refine aw_lconst (v := 1) cx dX6_lowestTerm_21 rfl ?_
        refine aw_land cx dX6_lowestTerm_22 (fun z22q hz22q => ?_)
        refine aw_lconst (v := 0) cx dX6_lowestTerm_23 rfl ?_
        refine aw_lcmp cx dX6_lowestTerm_24 (fun c24q => ?_) (fun c24q => ?_) (fun c24q => ?_)
        · refine aw_if_ne (tgt := 40) cx dX6_lowestTerm_25 (by decide) (fun c25q => ?_) (fun c25q => ?_)
          · refine aw_iload_n cx dX6_lowestTerm_40 rfl 2 rfl ?_
            refine aw_if_ne (tgt := 49) cx dX6_lowestTerm_41 (by decide) (fun c41q => ?_) (fun c41q => ?_)
            · refine aw_lconst (v := 1) cx dX6_lowestTerm_49 rfl ?_
              refine aw_iload cx dX6_lowestTerm_50 4 rfl ?_
              refine aw_lshl cx dX6_lowestTerm_52 (fun z52q hz52q => ?_)
              refine aw_lret cx rt dX6_lowestTerm_53 ?_
              first | (refine ⟨rfl, _, rfl, x4q, x6q.toNat, ⟨by omega, by omega, hx, ?_⟩, Or.inl ⟨by omega, rfl⟩⟩; first | (left; omega) | (right; rw [lAnd_1 (by omega)] at hz22q; omega)) | (refine ⟨rfl, _, rfl, x4q, x6q.toNat, ⟨by omega, by omega, hx, ?_⟩, Or.inr ⟨by omega, by rw [hz52q]; exact lShl_1 (by omega)⟩⟩; first | (left; omega) | (right; rw [lAnd_1 (by omega)] at hz22q; omega))
            · refine aw_lload cx dX6_lowestTerm_44 3 rfl ?_
              refine aw_goto (tgt := 53) cx dX6_lowestTerm_46 (by decide) ?_
              refine aw_lret cx rt dX6_lowestTerm_53 ?_
              first | (refine ⟨rfl, _, rfl, x4q, x6q.toNat, ⟨by omega, by omega, hx, ?_⟩, Or.inl ⟨by omega, rfl⟩⟩; first | (left; omega) | (right; rw [lAnd_1 (by omega)] at hz22q; omega)) | (refine ⟨rfl, _, rfl, x4q, x6q.toNat, ⟨by omega, by omega, hx, ?_⟩, Or.inr ⟨by omega, by rw [hz52q]; exact lShl_1 (by omega)⟩⟩; first | (left; omega) | (right; rw [lAnd_1 (by omega)] at hz22q; omega))
          · exact absurd c25q (by decide)
        · refine aw_if_ne (tgt := 40) cx dX6_lowestTerm_25 (by decide) (fun c25q => ?_) (fun c25q => ?_)
          · exact absurd c25q (by decide)
          · refine aw_lload cx dX6_lowestTerm_28 3 rfl ?_
            refine aw_iconst (n := 1) cx dX6_lowestTerm_30 (by decide) ?_
            refine aw_lshr cx dX6_lowestTerm_31 (fun z31q hz31q => ?_)
            refine aw_lstore (loc2 := [(4, aL z31q), (0, aR 0), (1, aL s), (3, aI what), (6, aI x6q)]) cx dX6_lowestTerm_32 (by decide) rfl ?_
            refine aw_iinc cx dX6_lowestTerm_34 4 rfl (by decide) (by omega) (fun z34q hz34q => ?_)
            refine aw_loc (loc2 := [(6, aI z34q), (4, aL z31q), (0, aR 0), (1, aL s), (3, aI what)]) rfl ?_
            refine aw_goto (tgt := 14) cx dX6_lowestTerm_37 (by decide) ?_
            refine aw_sub [2, 3, 4, 1, 0] rfl ?_
            refine ih14q _ _  ?i_h0 ?i_hx ?i_h4 ?i_m
            case i_h0 =>
              omega
            case i_hx =>
              rw [hz34q, hz31q, lShr_1 (by omega), show 4 * (M 18 3).toNat - (x6q + -1).toNat = (4 * (M 18 3).toNat - x6q.toNat) + 1 by omega, Nat.pow_succ, Int.natCast_mul, ← hx]; have e2q : x4q = x4q / 2 * 2 := by rw [lAnd_1 (by omega)] at hz22q; omega
              generalize ((2 ^ (4 * (M 18 3).toNat - x6q.toNat) : Nat) : Int) = p
              rw [show (((2 : Nat) : Int)) = 2 from rfl, Int.mul_comm p 2, ← Int.mul_assoc, ← e2q]
            case i_h4 =>
              rw [hz31q, lShr_1 (by omega)]; omega
            case i_m =>
              omega
        · refine aw_if_ne (tgt := 40) cx dX6_lowestTerm_25 (by decide) (fun c25q => ?_) (fun c25q => ?_)
          · refine aw_iload_n cx dX6_lowestTerm_40 rfl 2 rfl ?_
            refine aw_if_ne (tgt := 49) cx dX6_lowestTerm_41 (by decide) (fun c41q => ?_) (fun c41q => ?_)
            · refine aw_lconst (v := 1) cx dX6_lowestTerm_49 rfl ?_
              refine aw_iload cx dX6_lowestTerm_50 4 rfl ?_
              refine aw_lshl cx dX6_lowestTerm_52 (fun z52q hz52q => ?_)
              refine aw_lret cx rt dX6_lowestTerm_53 ?_
              first | (refine ⟨rfl, _, rfl, x4q, x6q.toNat, ⟨by omega, by omega, hx, ?_⟩, Or.inl ⟨by omega, rfl⟩⟩; first | (left; omega) | (right; rw [lAnd_1 (by omega)] at hz22q; omega)) | (refine ⟨rfl, _, rfl, x4q, x6q.toNat, ⟨by omega, by omega, hx, ?_⟩, Or.inr ⟨by omega, by rw [hz52q]; exact lShl_1 (by omega)⟩⟩; first | (left; omega) | (right; rw [lAnd_1 (by omega)] at hz22q; omega))
            · refine aw_lload cx dX6_lowestTerm_44 3 rfl ?_
              refine aw_goto (tgt := 53) cx dX6_lowestTerm_46 (by decide) ?_
              refine aw_lret cx rt dX6_lowestTerm_53 ?_
              first | (refine ⟨rfl, _, rfl, x4q, x6q.toNat, ⟨by omega, by omega, hx, ?_⟩, Or.inl ⟨by omega, rfl⟩⟩; first | (left; omega) | (right; rw [lAnd_1 (by omega)] at hz22q; omega)) | (refine ⟨rfl, _, rfl, x4q, x6q.toNat, ⟨by omega, by omega, hx, ?_⟩, Or.inr ⟨by omega, by rw [hz52q]; exact lShl_1 (by omega)⟩⟩; first | (left; omega) | (right; rw [lAnd_1 (by omega)] at hz22q; omega))
          · exact absurd c25q (by decide)
  refine aw_sub [2, 3, 4, 1, 0] rfl ?_
  refine lp14q _ _ _  ?i_h0 ?i_hx ?i_h4 (Nat.lt_succ_self _)
  case i_h0 =>
    omega
  case i_hx =>
    rw [hz11q, hz8q, show 4 * (M 18 3).toNat - (4 * M 18 3).toNat = 0 by omega]; omega
  case i_h4 =>
    omega
set_option maxHeartbeats 1000000 in
set_option maxRecDepth 100000 in
theorem ct_X6_chance (tl : List CD) (M : Mem) (c j what : Int) : Ct 6 mX6_chance (LB ++ tl) [aR 0, aI c, aI j, aI what] M (fun r M1 => ∃ x, r = some (aL x) ∧ FR SC M M1 ∧ aChance (M 15 2) (fgT M) (qgT M) c j what x) := by
  refine Ct.of (own := RX6) rfl (by decide +kernel) (Nat.le_of_ble_eq_true rfl) (fun X cx rt => ?_)
  refine aw_eq (loc2 := [(0, aR 0), (1, aI c), (2, aI j), (3, aI what)]) ?_ rfl rfl rfl rfl
  refine aw_rngL 1 rfl (fun rl_c rh_c => ?_)
  refine aw_rngL 2 rfl (fun rl_j rh_j => ?_)
  refine aw_rngL 3 rfl (fun rl_what rh_what => ?_)
  refine aw_ok (fun om => ?_)
  have hsz : 0 ≤ M 5 4 ∧ M 5 4 ≤ 12 := okF om (lb_5 tl) (j := 4) rfl (show (0 : Nat) ≠ 1 by decide)
  have hse : 0 ≤ M 18 3 ∧ M 18 3 ≤ 8 := okF om (lb_18 tl) (j := 3) rfl (show (0 : Nat) ≠ 1 by decide)
  have hcz : 0 ≤ M 15 2 ∧ M 15 2 ≤ 8 := okF om (lb_15 tl) (j := 2) rfl (show (0 : Nat) ≠ 1 by decide)
  have hNN : ∀ j, 0 ≤ M 6 j := fun j => (okA om (lb_6 tl) j).1
  refine aw_iload_n cx dX6_chance_0 rfl 1 rfl ?_
  refine aw_bipush (n := 17) cx dX6_chance_1 (by decide) ?_
  refine aw_callS (as := [aI c, aI 17]) (stk := []) cx dX6_chance_3 ml_X6_84 ms_X6_outside (by decide) rfl rfl (Nat.le_of_ble_eq_true rfl) (ct_X6_outside tl M _ _ ) (fun rr3q M_3q hp3q => ?_)
  obtain ⟨rfl, rfl⟩ := hp3q
  refine aw_top (stk := []) (fun z3q hz3q => ?_)
  refine aw_if_ne (tgt := 31) cx dX6_chance_6 (by decide) (fun c6q => ?_) (fun c6q => ?_)
  · have d6q := b2_y hz3q c6q
    refine aw_ldc2 (x := (-9223372036854775806)) cx dX6_chance_31 kc_X6_232 (by decide +kernel) ?_
    refine aw_lret cx rt dX6_chance_34 ?_
    exact ⟨_, rfl, FR.rf, Or.inl ⟨by omega, rfl⟩⟩
  · have d6q := b2_e0.mp (hz3q.symm.trans c6q)
    refine aw_iload_n cx dX6_chance_9 rfl 2 rfl ?_
    refine aw_aload_n cx dX6_chance_10 rfl 0 rfl ?_
    refine aw_getR (q := 15) cx dX6_chance_11 fl_X6_34 (lb_0 tl) rfl rfl ?_
    refine aw_getI cx dX6_chance_14 fl_X6_118 (lb_15 tl) rfl (fun z14q hz14q lo_z14q hi_z14q => ?_)
    refine aw_callS (as := [aI j, aI z14q]) (stk := []) cx dX6_chance_17 ml_X6_84 ms_X6_outside (by decide) rfl rfl (Nat.le_of_ble_eq_true rfl) (ct_X6_outside tl M _ _ ) (fun rr17q M_17q hp17q => ?_)
    obtain ⟨rfl, rfl⟩ := hp17q
    refine aw_top (stk := []) (fun z17q hz17q => ?_)
    refine aw_if_ne (tgt := 31) cx dX6_chance_20 (by decide) (fun c20q => ?_) (fun c20q => ?_)
    · have d20q := b2_y hz17q c20q
      refine aw_ldc2 (x := (-9223372036854775806)) cx dX6_chance_31 kc_X6_232 (by decide +kernel) ?_
      refine aw_lret cx rt dX6_chance_34 ?_
      exact ⟨_, rfl, FR.rf, Or.inl ⟨by omega, rfl⟩⟩
    · have d20q := b2_e0.mp (hz17q.symm.trans c20q)
      refine aw_iload_n cx dX6_chance_23 rfl 3 rfl ?_
      refine aw_iconst (n := 2) cx dX6_chance_24 (by decide) ?_
      refine aw_callS (as := [aI what, aI 2]) (stk := []) cx dX6_chance_25 ml_X6_84 ms_X6_outside (by decide) rfl rfl (Nat.le_of_ble_eq_true rfl) (ct_X6_outside tl M _ _ ) (fun rr25q M_25q hp25q => ?_)
      obtain ⟨rfl, rfl⟩ := hp25q
      refine aw_top (stk := []) (fun z25q hz25q => ?_)
      refine aw_if_eq (tgt := 35) cx dX6_chance_28 (by decide) (fun c28q => ?_) (fun c28q => ?_)
      · have d28q := b2_e0.mp (hz25q.symm.trans c28q)
        refine aw_aload_n cx dX6_chance_35 rfl 0 rfl ?_
        refine aw_iload_n cx dX6_chance_36 rfl 1 rfl ?_
        refine aw_callV (as := [aI c]) (k := 0) (stk := []) cx dX6_chance_37 ml_X6_234 mv_X6_tallyFavour rfl (lb_0 tl) (by decide) rfl rfl (Nat.le_of_ble_eq_true rfl) (ct_X6_tallyFavour tl M _ (by omega)) (fun rr37q M_37q hp37q => ?_)
        obtain ⟨rfl, hfrM_37, hfaM_37⟩ := hp37q
        refine aw_eq (stk2 := []) ?_ rfl rfl rfl rfl
        refine aw_aload_n cx dX6_chance_40 rfl 0 rfl ?_
        refine aw_aload_n cx dX6_chance_41 rfl 0 rfl ?_
        refine aw_getR (q := 31) cx dX6_chance_42 fl_X6_70 (lb_0 tl) rfl rfl ?_
        refine aw_iload_n cx dX6_chance_45 rfl 2 rfl ?_
        refine aw_lald cx dX6_chance_46 (lb_31 tl) (⟨by omega, by omega⟩) (fun z46q hz46q lo_z46q hi_z46q => ?_)
        refine aw_iload_n cx dX6_chance_47 rfl 3 rfl ?_
        refine aw_callV (as := [aL z46q, aI what]) (k := 0) (stk := []) cx dX6_chance_48 ml_X6_237 mv_X6_lowestTerm rfl (lb_0 tl) (by decide) rfl rfl (Nat.le_of_ble_eq_true rfl) (ct_X6_lowestTerm tl M_37q _ _ (by omega) (by omega)) (fun rr48q M_48q hp48q => ?_)
        obtain ⟨rfl, z48q, rfl, hlwz48⟩ := hp48q
        refine aw_eq (stk2 := [aL z48q]) ?_ rfl rfl rfl rfl
        refine aw_lret cx rt dX6_chance_51 ?_
        refine ⟨z48q, rfl, hfrM_37, Or.inr ⟨by omega, by omega, by omega, by omega, by omega, by omega, ?_⟩⟩
        rw [hz46q, hfaM_37 j.toNat (by omega), hfrM_37 18 (by decide)] at hlwz48
        exact hlwz48
      · have d28q := b2_y hz25q c28q
        refine aw_ldc2 (x := (-9223372036854775806)) cx dX6_chance_31 kc_X6_232 (by decide +kernel) ?_
        refine aw_lret cx rt dX6_chance_34 ?_
        exact ⟨_, rfl, FR.rf, Or.inl ⟨by omega, rfl⟩⟩
