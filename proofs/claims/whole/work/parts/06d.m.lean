set_option maxHeartbeats 4000000 in
set_option maxRecDepth 100000 in
theorem ct_X0_hear (tl : List CD) (M : Mem) (tk : Nat) (held : Int) (htk : TK tk) (hh : 0 ≤ held ∧ held < 2147483648) : Ct 3 mX0_hear (LB ++ tl) [aR 22, aR tk, aI held] M (fun r M1 => r = none ∧ FR [22, 23, 24, 25, 26] M M1 ∧ HEARD tk held M1) := by
  refine Ct.of (own := RX0) rfl (by decide +kernel) (Nat.le_of_ble_eq_true rfl) (fun X cx rt => ?_)
  refine aw_eq (loc2 := [(0, aR 22), (1, aR tk), (2, aI held)]) ?_ rfl rfl rfl rfl
  refine aw_rngL 2 rfl (fun rl_held rh_held => ?_)
  have htk5 : tk = 5 ∨ tk = 10 := htk
  refine aw_ok (fun om => ?_)
  have hsz : 0 ≤ M tk 4 ∧ M tk 4 ≤ 12 := okF om (tkO htk tl) (j := 4) rfl (show (0 : Nat) ≠ 1 by decide)
  have hse : 0 ≤ M 18 3 ∧ M 18 3 ≤ 8 := okF om (lb_18 tl) (j := 3) rfl (show (0 : Nat) ≠ 1 by decide)
  have hN0 : ∀ j, 0 ≤ M (tk + 1) j := fun j => (okA om (tk1 htk tl) j).1
  refine aw_aload_n cx dX0_hear_0 rfl 0 rfl ?_
  refine aw_aload_n cx dX0_hear_1 rfl 1 rfl ?_
  refine aw_putR (q := tk) cx dX0_hear_2 fl_X0_29 kt_X0 rfl rfl (lb_22 tl) rfl (by rcases htk with rfl | rfl <;> omega) ?_
  obtain ⟨M_2q, hM_2q⟩ : ∃ q, q = up M 22 6 (tk : Nat) := ⟨_, rfl⟩
  rw [← hM_2q]
  refine aw_aload_n cx dX0_hear_5 rfl 0 rfl ?_
  refine aw_iconst (n := 0) cx dX0_hear_6 (by decide) ?_
  refine aw_putI cx dX0_hear_7 fl_X0_19 kt_X0 rfl rfl (lb_22 tl) rfl (⟨by omega, by omega⟩) ?_
  obtain ⟨M_7q, hM_7q⟩ : ∃ q, q = up M_2q 22 2 0 := ⟨_, rfl⟩
  rw [← hM_7q]
  refine aw_iconst (n := 0) cx dX0_hear_10 (by decide) ?_
  refine aw_istore_n (loc2 := [(3, aI 0), (0, aR 22), (1, aR tk), (2, aI held)]) cx dX0_hear_11 rfl (by decide) rfl ?_
  have lp12q : ∀ (fu : Nat) (x3q : Int) (N12q : Mem), (0 ≤ x3q ∧ x3q ≤ M 18 3) → (FR [22, 23, 24, 25, 26] M N12q) → (N12q 22 6 = (tk : Int)) → (N12q 22 2 = 0) → (∀ e, e < x3q.toNat → N12q 26 e = KEF held (M 19) e) → ((M 18 3 - x3q).toNat) < fu → AW X (LB ++ tl) 5 12 [(0, aR 22), (1, aR tk), (2, aI held), (3, aI x3q)] [] N12q := by
    intro fu
    induction fu with
    | zero =>
      intro x3q N12q h0q hf ht hc12 ha12 hm
      exact absurd hm (Nat.not_lt_zero _)
    | succ fu ih12q =>
      intro x3q N12q h0q hf ht hc12 ha12 hm
      have et := hf tk (by rcases htk with rfl | rfl <;> decide)
      have et1 := hf (tk + 1) (by rcases htk with rfl | rfl <;> decide)
      have et2 := hf (tk + 2) (by rcases htk with rfl | rfl <;> decide)
      have et3 := hf (tk + 3) (by rcases htk with rfl | rfl <;> decide)
      have et4 := hf (tk + 4) (by rcases htk with rfl | rfl <;> decide)
      have e18q := hf 18 (by decide)
      have e19q := hf 19 (by decide)
      have e20q := hf 20 (by decide)
      have e21q := hf 21 (by decide)
      have etz := congrFun et 4
      have e183q := congrFun e18q 3
      refine aw_iload_n cx dX0_hear_12 rfl 3 rfl ?_
      refine aw_aload_n cx dX0_hear_13 rfl 0 rfl ?_
      refine aw_getR (q := 18) cx dX0_hear_14 fl_X0_33 (lb_22 tl) rfl rfl ?_
      refine aw_getI cx dX0_hear_17 fl_X0_37 (lb_18 tl) rfl (fun z17q hz17q lo_z17q hi_z17q => ?_)
      refine aw_icmp_ge (tgt := 57) cx dX0_hear_20 (by decide) (fun c20q => ?_) (fun c20q => ?_)
      · refine aw_iconst (n := 0) cx dX0_hear_57 (by decide) ?_
        refine aw_istore_n (loc2 := [(3, aI 0), (0, aR 22), (1, aR tk), (2, aI held)]) cx dX0_hear_58 rfl (by decide) rfl ?_
        have lp59q : ∀ (fu : Nat) (x3q : Int) (N59q : Mem), (0 ≤ x3q ∧ x3q ≤ M tk 4) → (FR [22, 23, 24, 25, 26] M N59q) → (N59q 22 6 = (tk : Int)) → (∀ e, e < (M 18 3).toNat → N59q 26 e = KEF held (M 19) e) → (N59q 22 2 = sm (N59q 23) x3q.toNat) → (0 ≤ N59q 22 2 ∧ N59q 22 2 ≤ x3q) → (∀ i, i < x3q.toNat → (N59q 23 i = 1 ↔ ¬ SPO (N59q 26) (M 20) (M 21) (M (tk + 1)) (M (tk + 2)) (M (tk + 3)) (M 18 3).toNat i ∧ ∀ a, a < i → ¬ (N59q 23 a = 1 ∧ AP (M (tk + 3)) (M (tk + 2)) (M (tk + 1)) a i))) → ((M tk 4 - x3q).toNat) < fu → AW X (LB ++ tl) 5 59 [(0, aR 22), (1, aR tk), (2, aI held), (3, aI x3q)] [] N59q := by
          intro fu
          induction fu with
          | zero =>
            intro x3q N59q h0q hf ht hk59 hc59 hcb ha59 hm
            exact absurd hm (Nat.not_lt_zero _)
          | succ fu ih59q =>
            intro x3q N59q h0q hf ht hk59 hc59 hcb ha59 hm
            have et := hf tk (by rcases htk with rfl | rfl <;> decide)
            have et1 := hf (tk + 1) (by rcases htk with rfl | rfl <;> decide)
            have et2 := hf (tk + 2) (by rcases htk with rfl | rfl <;> decide)
            have et3 := hf (tk + 3) (by rcases htk with rfl | rfl <;> decide)
            have et4 := hf (tk + 4) (by rcases htk with rfl | rfl <;> decide)
            have e18q := hf 18 (by decide)
            have e19q := hf 19 (by decide)
            have e20q := hf 20 (by decide)
            have e21q := hf 21 (by decide)
            have etz := congrFun et 4
            have e183q := congrFun e18q 3
            refine aw_iload_n cx dX0_hear_59 rfl 3 rfl ?_
            refine aw_aload_n cx dX0_hear_60 rfl 0 rfl ?_
            refine aw_getD (q := tk) cx dX0_hear_61 fl_X0_29 (lb_22 tl) rfl (by first | exact ht | (subst_vars; simp [up, ht])) ?_
            refine aw_getI cx dX0_hear_64 fl_X0_43 (tkO htk tl) rfl (fun z64q hz64q lo_z64q hi_z64q => ?_)
            refine aw_icmp_ge (tgt := 127) cx dX0_hear_67 (by decide) (fun c67q => ?_) (fun c67q => ?_)
            · refine aw_aload_n cx dX0_hear_127 rfl 0 rfl ?_
              refine aw_getR (q := 25) cx dX0_hear_128 fl_X0_23 (lb_22 tl) rfl rfl ?_
              refine aw_iconst (n := (-1)) cx dX0_hear_131 (by decide) ?_
              refine aw_callS (as := [aR 25, aI ((-1))]) (stk := []) cx dX0_hear_132 ml_X0_54 ms_J7_fill_53178 (by decide) rfl rfl (Nat.le_of_ble_eq_true rfl) (ct_J7_fill_53178 tl N59q _ _ _ _ (lb_25 tl) (⟨by decide, by decide⟩)) (fun rr132q M_132q hp132q => ?_)
              obtain ⟨rfl, hfrM_132, hflM_132⟩ := hp132q
              refine aw_eq (stk2 := []) ?_ rfl rfl rfl rfl
              have ht : M_132q 22 6 = (tk : Int) := by rw [hfrM_132 22 (by decide)]; exact ht
              have hfO := hf
              have x3O := x3q
              have hxO : x3q = M tk 4 := by omega
              rw [hxO] at ha59 hc59
              refine aw_iconst (n := 0) cx dX0_hear_135 (by decide) ?_
              refine aw_istore_n (loc2 := [(3, aI 0), (0, aR 22), (1, aR tk), (2, aI held)]) cx dX0_hear_136 rfl (by decide) rfl ?_
              have lp137q : ∀ (fu : Nat) (x3q : Int) (N137q : Mem), (0 ≤ x3q ∧ x3q ≤ M tk 4) → (FR [22, 23, 24, 25, 26] M N137q) → (N137q 22 6 = (tk : Int)) → (N137q 26 = M_132q 26) → (N137q 22 2 = M_132q 22 2) → (N137q 23 = M_132q 23) → (∀ i, i < x3q.toNat → N137q 24 i = WGT (-1) (M tk 4).toNat (N137q 23) (M (tk + 1)) (M (tk + 2)) (M (tk + 3)) (M (tk + 4)) i) → (∀ t : Nat, t < 8 → BIR x3q.toNat (N137q 23) (M (tk + 1)) (M (tk + 2)) (t : Int) (N137q 25 t)) → ((M tk 4 - x3q).toNat) < fu → AW X (LB ++ tl) 5 137 [(0, aR 22), (1, aR tk), (2, aI held), (3, aI x3q)] [] N137q := by
                intro fu
                induction fu with
                | zero =>
                  intro x3q N137q h0q hf ht hk hc hcn ha hb hm
                  exact absurd hm (Nat.not_lt_zero _)
                | succ fu ih137q =>
                  intro x3q N137q h0q hf ht hk hc hcn ha hb hm
                  have et := hf tk (by rcases htk with rfl | rfl <;> decide)
                  have et1 := hf (tk + 1) (by rcases htk with rfl | rfl <;> decide)
                  have et2 := hf (tk + 2) (by rcases htk with rfl | rfl <;> decide)
                  have et3 := hf (tk + 3) (by rcases htk with rfl | rfl <;> decide)
                  have et4 := hf (tk + 4) (by rcases htk with rfl | rfl <;> decide)
                  have e18q := hf 18 (by decide)
                  have e19q := hf 19 (by decide)
                  have e20q := hf 20 (by decide)
                  have e21q := hf 21 (by decide)
                  have etz := congrFun et 4
                  have e183q := congrFun e18q 3
                  refine aw_iload_n cx dX0_hear_137 rfl 3 rfl ?_
                  refine aw_aload_n cx dX0_hear_138 rfl 0 rfl ?_
                  refine aw_getD (q := tk) cx dX0_hear_139 fl_X0_29 (lb_22 tl) rfl (by first | exact ht | (subst_vars; simp [up, ht])) ?_
                  refine aw_getI cx dX0_hear_142 fl_X0_43 (tkO htk tl) rfl (fun z142q hz142q lo_z142q hi_z142q => ?_)
                  refine aw_icmp_ge (tgt := 244) cx dX0_hear_145 (by decide) (fun c145q => ?_) (fun c145q => ?_)
                  · refine aw_vret cx rt dX0_hear_244 ?_
                    have k26 : N137q 26 = N59q 26 := by rw [hk, hfrM_132 26 (by decide)]
                    have k23 : N137q 23 = N59q 23 := by rw [hcn, hfrM_132 23 (by decide)]
                    have k2 : N137q 22 2 = N59q 22 2 := by rw [hc, hfrM_132 22 (by decide)]
                    have hx4 : x3q = M tk 4 := by omega
                    rw [hx4] at ha hb
                    refine ⟨rfl, hf, ht, ?_, ?_, ?_, ?_, ?_⟩
                    · rw [e183q, k26, e19q]; exact hk59
                    · rw [etz, e183q, k26, k23, e20q, e21q, et1, et2, et3]
                      intro i hi
                      rw [ha59 i hi]
                      exact ⟨fun q => ⟨by omega, q⟩, fun q => q.2⟩
                    · rw [k2, k23, etz]; exact hc59
                    · rw [etz, et1, et2, et3, et4]; exact ha
                    · rw [etz, et1, et2]; exact hb
                  · refine aw_aload_n cx dX0_hear_148 rfl 0 rfl ?_
                    refine aw_getR (q := 24) cx dX0_hear_149 fl_X0_15 (lb_22 tl) rfl rfl ?_
                    refine aw_iload_n cx dX0_hear_152 rfl 3 rfl ?_
                    refine aw_aload_n cx dX0_hear_153 rfl 0 rfl ?_
                    refine aw_getR (q := 23) cx dX0_hear_154 fl_X0_9 (lb_22 tl) rfl rfl ?_
                    refine aw_iload_n cx dX0_hear_157 rfl 3 rfl ?_
                    refine aw_zald cx dX0_hear_158 (lb_23 tl) (⟨by omega, by omega⟩) (fun z158q hz158q lo_z158q hi_z158q => ?_)
                    refine aw_if_eq (tgt := 170) cx dX0_hear_159 (by decide) (fun c159q => ?_) (fun c159q => ?_)
                    · refine aw_iconst (n := 0) cx dX0_hear_170 (by decide) ?_
                      refine aw_iast cx dX0_hear_171 (lb_24 tl) (⟨by omega, by omega⟩) (⟨by omega, by omega⟩) ?_
                      obtain ⟨M_171q, hM_171q⟩ : ∃ q, q = up N137q 24 (Int.toNat (x3q)) (0) := ⟨_, rfl⟩
                      rw [← hM_171q]
                      refine aw_aload_n cx dX0_hear_172 rfl 0 rfl ?_
                      refine aw_getD (q := tk) cx dX0_hear_173 fl_X0_29 (lb_22 tl) rfl (by first | exact ht | (subst_vars; simp [up, ht])) ?_
                      refine aw_getR (q := tk + 2) cx dX0_hear_176 fl_X0_63 (tkO htk tl) rfl rfl ?_
                      refine aw_iload_n cx dX0_hear_179 rfl 3 rfl ?_
                      refine aw_iald cx dX0_hear_180 (tk2 htk tl) (⟨by omega, by omega⟩) (fun z180q hz180q lo_z180q hi_z180q => ?_)
                      refine aw_istore (loc2 := [(4, aI z180q), (0, aR 22), (1, aR tk), (2, aI held), (3, aI x3q)]) cx dX0_hear_181 (by decide) rfl ?_
                      refine aw_aload_n cx dX0_hear_183 rfl 1 rfl ?_
                      refine aw_getR (q := 23) cx dX0_hear_184 fl_X0_9 (lb_22 tl) rfl rfl ?_
                      refine aw_iload_n cx dX0_hear_187 rfl 4 rfl ?_
                      refine aw_zald cx dX0_hear_188 (lb_23 tl) (⟨by omega, by omega⟩) (fun z188q hz188q lo_z188q hi_z188q => ?_)
                      refine aw_if_eq (tgt := 238) cx dX0_hear_189 (by decide) (fun c189q => ?_) (fun c189q => ?_)
                      · refine aw_iinc cx dX0_hear_238 4 rfl (by decide) (by omega) (fun z238q hz238q => ?_)
                        refine aw_loc (loc2 := [(3, aI z238q), (4, aI z180q), (0, aR 22), (1, aR tk), (2, aI held)]) rfl ?_
                        refine aw_goto (tgt := 137) cx dX0_hear_241 (by decide) ?_
                        refine aw_sub [2, 3, 4, 0] rfl ?_
                        refine ih137q _ _  ?i_h0 ?i_hf ?i_ht ?i_hk ?i_hc ?i_hcn ?i_ha ?i_hb ?i_m
                        case i_h0 =>
                          omega
                        case i_hf =>
                          exact (hf.put hM_171q (by decide))
                        case i_ht =>
                          rw [up_ne hM_171q (by omega)]; exact ht
                        case i_hk =>
                          rw [hM_171q, up_off (by decide)]; exact hk
                        case i_hc =>
                          rw [up_ne hM_171q (by omega)]; exact hc
                        case i_hcn =>
                          rw [hM_171q, up_off (by decide)]; exact hcn
                        case i_ha =>
                          have k23 : M_171q 23 = N137q 23 := by rw [hM_171q, up_off (by decide)]
                          have hrow : ∀ j, j < x3q.toNat → M_171q 24 j = N137q 24 j := fun j hj => by rw [up_ne hM_171q (by omega)]
                          rw [hz238q, k23]
                          refine all_s (P := fun i => M_171q 24 i = WGT (-1) (M tk 4).toNat (N137q 23) (M (tk + 1)) (M (tk + 2)) (M (tk + 3)) (M (tk + 4)) i) h0q.1 (fun i hi => by rw [hrow i hi]; exact ha i hi) ?_
                          rw [up_eq hM_171q]; unfold WGT; rw [if_neg (by omega)]
                        case i_hb =>
                          have k23 : M_171q 23 = N137q 23 := by rw [hM_171q, up_off (by decide)]
                          intro t h8q
                          rw [hz238q, k23]
                          have q := hb t h8q
                          rw [up_ne hM_171q (by omega)]
                          exact BIR_n h0q.1 (fun z => by omega) q
                        case i_m =>
                          omega
                      · exfalso
                        rw [up_ne hM_171q (by omega)] at hz188q; omega
                    · refine aw_aload_n cx dX0_hear_162 rfl 0 rfl ?_
                      refine aw_iload_n cx dX0_hear_163 rfl 3 rfl ?_
                      refine aw_callV (as := [aI x3q]) (k := 22) (stk := [aI x3q, aR 24]) cx dX0_hear_164 ml_X0_60 mv_X0_weigh rfl (lb_22 tl) (by decide) rfl rfl (Nat.le_of_ble_eq_true rfl) (ct_X0_weigh tl N137q _ _ (by first | assumption | omega) (by first | exact ht | (subst_vars; simp [up, ht])) (⟨by omega, by omega⟩)) (fun rr164q M_164q hp164q => ?_)
                      obtain ⟨rfl, rfl⟩ := hp164q
                      refine aw_top (stk := [aI x3q, aR 24]) (fun z164q hz164q => ?_)
                      have hrz164q : 0 ≤ z164q ∧ z164q ≤ 3 := by rw [hz164q]; exact WG_in _ _ _ _ _ _ _ _
                      refine aw_goto (tgt := 171) cx dX0_hear_167 (by decide) ?_
                      refine aw_iast cx dX0_hear_171 (lb_24 tl) (⟨by omega, by omega⟩) (⟨by omega, by omega⟩) ?_
                      obtain ⟨M_171q, hM_171q⟩ : ∃ q, q = up N137q 24 (Int.toNat (x3q)) (z164q) := ⟨_, rfl⟩
                      rw [← hM_171q]
                      refine aw_aload_n cx dX0_hear_172 rfl 0 rfl ?_
                      refine aw_getD (q := tk) cx dX0_hear_173 fl_X0_29 (lb_22 tl) rfl (by first | exact ht | (subst_vars; simp [up, ht])) ?_
                      refine aw_getR (q := tk + 2) cx dX0_hear_176 fl_X0_63 (tkO htk tl) rfl rfl ?_
                      refine aw_iload_n cx dX0_hear_179 rfl 3 rfl ?_
                      refine aw_iald cx dX0_hear_180 (tk2 htk tl) (⟨by omega, by omega⟩) (fun z180q hz180q lo_z180q hi_z180q => ?_)
                      refine aw_istore (loc2 := [(4, aI z180q), (0, aR 22), (1, aR tk), (2, aI held), (3, aI x3q)]) cx dX0_hear_181 (by decide) rfl ?_
                      refine aw_aload_n cx dX0_hear_183 rfl 1 rfl ?_
                      refine aw_getR (q := 23) cx dX0_hear_184 fl_X0_9 (lb_22 tl) rfl rfl ?_
                      refine aw_iload_n cx dX0_hear_187 rfl 4 rfl ?_
                      refine aw_zald cx dX0_hear_188 (lb_23 tl) (⟨by omega, by omega⟩) (fun z188q hz188q lo_z188q hi_z188q => ?_)
                      refine aw_if_eq (tgt := 238) cx dX0_hear_189 (by decide) (fun c189q => ?_) (fun c189q => ?_)
                      · exfalso
                        rw [up_ne hM_171q (by omega)] at hz188q; omega
                      · refine aw_aload_n cx dX0_hear_192 rfl 1 rfl ?_
                        refine aw_getR (q := 25) cx dX0_hear_193 fl_X0_23 (lb_22 tl) rfl rfl ?_
                        refine aw_iload cx dX0_hear_196 0 rfl ?_
                        refine aw_iald cx dX0_hear_198 (lb_25 tl) (⟨by omega, by omega⟩) (fun z198q hz198q lo_z198q hi_z198q => ?_)
                        refine aw_iconst (n := (-1)) cx dX0_hear_199 (by decide) ?_
                        refine aw_icmp_eq (tgt := 222) cx dX0_hear_200 (by decide) (fun c200q => ?_) (fun c200q => ?_)
                        · refine aw_aload_n cx dX0_hear_222 rfl 1 rfl ?_
                          refine aw_getR (q := 25) cx dX0_hear_223 fl_X0_23 (lb_22 tl) rfl rfl ?_
                          refine aw_iload cx dX0_hear_226 0 rfl ?_
                          refine aw_aload_n cx dX0_hear_228 rfl 1 rfl ?_
                          refine aw_getD (q := tk) cx dX0_hear_229 fl_X0_29 (lb_22 tl) rfl (by first | exact ht | (subst_vars; simp [up, ht])) ?_
                          refine aw_getR (q := tk + 1) cx dX0_hear_232 fl_X0_66 (tkO htk tl) rfl rfl ?_
                          refine aw_iload_n cx dX0_hear_235 rfl 4 rfl ?_
                          refine aw_iald cx dX0_hear_236 (tk1 htk tl) (⟨by omega, by omega⟩) (fun z236q hz236q lo_z236q hi_z236q => ?_)
                          refine aw_iast cx dX0_hear_237 (lb_25 tl) (⟨by omega, by omega⟩) (⟨by omega, by omega⟩) ?_
                          obtain ⟨M_237q, hM_237q⟩ : ∃ q, q = up M_171q 25 (Int.toNat (z180q)) (z236q) := ⟨_, rfl⟩
                          rw [← hM_237q]
                          refine aw_iinc cx dX0_hear_238 4 rfl (by decide) (by omega) (fun z238q hz238q => ?_)
                          refine aw_loc (loc2 := [(3, aI z238q), (4, aI z180q), (0, aR 22), (1, aR tk), (2, aI held)]) rfl ?_
                          refine aw_goto (tgt := 137) cx dX0_hear_241 (by decide) ?_
                          refine aw_sub [2, 3, 4, 0] rfl ?_
                          refine ih137q _ _  ?i_h0 ?i_hf ?i_ht ?i_hk ?i_hc ?i_hcn ?i_ha ?i_hb ?i_m
                          case i_h0 =>
                            omega
                          case i_hf =>
                            exact ((hf.put hM_171q (by decide)).put hM_237q (by decide))
                          case i_ht =>
                            rw [up_ne hM_237q (by omega), up_ne hM_171q (by omega)]; exact ht
                          case i_hk =>
                            rw [hM_237q, up_off (by decide), hM_171q, up_off (by decide)]; exact hk
                          case i_hc =>
                            rw [up_ne hM_237q (by omega), up_ne hM_171q (by omega)]; exact hc
                          case i_hcn =>
                            rw [hM_237q, up_off (by decide), hM_171q, up_off (by decide)]; exact hcn
                          case i_ha =>
                            have k23 : M_237q 23 = N137q 23 := by rw [hM_237q, up_off (by decide), hM_171q, up_off (by decide)]
                            have hrow : ∀ j, j < x3q.toNat → M_237q 24 j = N137q 24 j := fun j hj => by rw [up_ne hM_237q (by omega), up_ne hM_171q (by omega)]
                            rw [hz238q, k23]
                            refine all_s (P := fun i => M_237q 24 i = WGT (-1) (M tk 4).toNat (N137q 23) (M (tk + 1)) (M (tk + 2)) (M (tk + 3)) (M (tk + 4)) i) h0q.1 (fun i hi => by rw [hrow i hi]; exact ha i hi) ?_
                            rw [up_ne hM_237q (by omega), up_eq hM_171q]; unfold WGT; rw [if_pos (by omega), hz164q, et1, et2, et3, et4, etz]
                          case i_hb =>
                            have k23 : M_237q 23 = N137q 23 := by rw [hM_237q, up_off (by decide), hM_171q, up_off (by decide)]
                            intro t h8q
                            rw [hz238q, k23]
                            have q := hb t h8q
                            rw [up_ne hM_171q (by omega), et2] at hz180q
                            by_cases e8q : (t : Int) = z180q
                            · have e9q : z180q.toNat = t := by omega
                              rw [e9q, up_ne hM_171q (by omega)] at hz198q
                              rw [e9q] at hM_237q
                              rw [up_eq hM_237q, hz236q, up_ne hM_171q (by omega), et1]
                              exact BIR_1 h0q.1 (by omega) (by omega) hN0 (by omega) q
                            · rw [up_ne hM_237q (by omega), up_ne hM_171q (by omega)]; exact BIR_n h0q.1 (fun z => by omega) q
                          case i_m =>
                            omega
                        · refine aw_aload_n cx dX0_hear_203 rfl 1 rfl ?_
                          refine aw_getD (q := tk) cx dX0_hear_204 fl_X0_29 (lb_22 tl) rfl (by first | exact ht | (subst_vars; simp [up, ht])) ?_
                          refine aw_getR (q := tk + 1) cx dX0_hear_207 fl_X0_66 (tkO htk tl) rfl rfl ?_
                          refine aw_iload_n cx dX0_hear_210 rfl 4 rfl ?_
                          refine aw_iald cx dX0_hear_211 (tk1 htk tl) (⟨by omega, by omega⟩) (fun z211q hz211q lo_z211q hi_z211q => ?_)
                          refine aw_aload_n cx dX0_hear_212 rfl 1 rfl ?_
                          refine aw_getR (q := 25) cx dX0_hear_213 fl_X0_23 (lb_22 tl) rfl rfl ?_
                          refine aw_iload cx dX0_hear_216 0 rfl ?_
                          refine aw_iald cx dX0_hear_218 (lb_25 tl) (⟨by omega, by omega⟩) (fun z218q hz218q lo_z218q hi_z218q => ?_)
                          refine aw_icmp_ge (tgt := 238) cx dX0_hear_219 (by decide) (fun c219q => ?_) (fun c219q => ?_)
                          · refine aw_iinc cx dX0_hear_238 4 rfl (by decide) (by omega) (fun z238q hz238q => ?_)
                            refine aw_loc (loc2 := [(3, aI z238q), (4, aI z180q), (0, aR 22), (1, aR tk), (2, aI held)]) rfl ?_
                            refine aw_goto (tgt := 137) cx dX0_hear_241 (by decide) ?_
                            refine aw_sub [2, 3, 4, 0] rfl ?_
                            refine ih137q _ _  ?i_h0 ?i_hf ?i_ht ?i_hk ?i_hc ?i_hcn ?i_ha ?i_hb ?i_m
                            case i_h0 =>
                              omega
                            case i_hf =>
                              exact (hf.put hM_171q (by decide))
                            case i_ht =>
                              rw [up_ne hM_171q (by omega)]; exact ht
                            case i_hk =>
                              rw [hM_171q, up_off (by decide)]; exact hk
                            case i_hc =>
                              rw [up_ne hM_171q (by omega)]; exact hc
                            case i_hcn =>
                              rw [hM_171q, up_off (by decide)]; exact hcn
                            case i_ha =>
                              have k23 : M_171q 23 = N137q 23 := by rw [hM_171q, up_off (by decide)]
                              have hrow : ∀ j, j < x3q.toNat → M_171q 24 j = N137q 24 j := fun j hj => by rw [up_ne hM_171q (by omega)]
                              rw [hz238q, k23]
                              refine all_s (P := fun i => M_171q 24 i = WGT (-1) (M tk 4).toNat (N137q 23) (M (tk + 1)) (M (tk + 2)) (M (tk + 3)) (M (tk + 4)) i) h0q.1 (fun i hi => by rw [hrow i hi]; exact ha i hi) ?_
                              rw [up_eq hM_171q]; unfold WGT; rw [if_pos (by omega), hz164q, et1, et2, et3, et4, etz]
                            case i_hb =>
                              have k23 : M_171q 23 = N137q 23 := by rw [hM_171q, up_off (by decide)]
                              intro t h8q
                              rw [hz238q, k23]
                              have q := hb t h8q
                              rw [up_ne hM_171q (by omega), et2] at hz180q
                              by_cases e8q : (t : Int) = z180q
                              · have e9q : z180q.toNat = t := by omega
                                rw [e9q, up_ne hM_171q (by omega)] at hz198q hz218q
                                rw [up_ne hM_171q (by omega), et1] at hz211q
                                rw [up_ne hM_171q (by omega)]
                                exact BIR_2 h0q.1 (by omega) (by omega) (by omega) (by omega) q
                              · rw [up_ne hM_171q (by omega)]; exact BIR_n h0q.1 (fun z => by omega) q
                            case i_m =>
                              omega
                          · refine aw_aload_n cx dX0_hear_222 rfl 1 rfl ?_
                            refine aw_getR (q := 25) cx dX0_hear_223 fl_X0_23 (lb_22 tl) rfl rfl ?_
                            refine aw_iload cx dX0_hear_226 0 rfl ?_
                            refine aw_aload_n cx dX0_hear_228 rfl 1 rfl ?_
                            refine aw_getD (q := tk) cx dX0_hear_229 fl_X0_29 (lb_22 tl) rfl (by first | exact ht | (subst_vars; simp [up, ht])) ?_
                            refine aw_getR (q := tk + 1) cx dX0_hear_232 fl_X0_66 (tkO htk tl) rfl rfl ?_
                            refine aw_iload_n cx dX0_hear_235 rfl 4 rfl ?_
                            refine aw_iald cx dX0_hear_236 (tk1 htk tl) (⟨by omega, by omega⟩) (fun z236q hz236q lo_z236q hi_z236q => ?_)
                            refine aw_iast cx dX0_hear_237 (lb_25 tl) (⟨by omega, by omega⟩) (⟨by omega, by omega⟩) ?_
                            obtain ⟨M_237q, hM_237q⟩ : ∃ q, q = up M_171q 25 (Int.toNat (z180q)) (z236q) := ⟨_, rfl⟩
                            rw [← hM_237q]
                            refine aw_iinc cx dX0_hear_238 4 rfl (by decide) (by omega) (fun z238q hz238q => ?_)
                            refine aw_loc (loc2 := [(3, aI z238q), (4, aI z180q), (0, aR 22), (1, aR tk), (2, aI held)]) rfl ?_
                            refine aw_goto (tgt := 137) cx dX0_hear_241 (by decide) ?_
                            refine aw_sub [2, 3, 4, 0] rfl ?_
                            refine ih137q _ _  ?i_h0 ?i_hf ?i_ht ?i_hk ?i_hc ?i_hcn ?i_ha ?i_hb ?i_m
                            case i_h0 =>
                              omega
                            case i_hf =>
                              exact ((hf.put hM_171q (by decide)).put hM_237q (by decide))
                            case i_ht =>
                              rw [up_ne hM_237q (by omega), up_ne hM_171q (by omega)]; exact ht
                            case i_hk =>
                              rw [hM_237q, up_off (by decide), hM_171q, up_off (by decide)]; exact hk
                            case i_hc =>
                              rw [up_ne hM_237q (by omega), up_ne hM_171q (by omega)]; exact hc
                            case i_hcn =>
                              rw [hM_237q, up_off (by decide), hM_171q, up_off (by decide)]; exact hcn
                            case i_ha =>
                              have k23 : M_237q 23 = N137q 23 := by rw [hM_237q, up_off (by decide), hM_171q, up_off (by decide)]
                              have hrow : ∀ j, j < x3q.toNat → M_237q 24 j = N137q 24 j := fun j hj => by rw [up_ne hM_237q (by omega), up_ne hM_171q (by omega)]
                              rw [hz238q, k23]
                              refine all_s (P := fun i => M_237q 24 i = WGT (-1) (M tk 4).toNat (N137q 23) (M (tk + 1)) (M (tk + 2)) (M (tk + 3)) (M (tk + 4)) i) h0q.1 (fun i hi => by rw [hrow i hi]; exact ha i hi) ?_
                              rw [up_ne hM_237q (by omega), up_eq hM_171q]; unfold WGT; rw [if_pos (by omega), hz164q, et1, et2, et3, et4, etz]
                            case i_hb =>
                              have k23 : M_237q 23 = N137q 23 := by rw [hM_237q, up_off (by decide), hM_171q, up_off (by decide)]
                              intro t h8q
                              rw [hz238q, k23]
                              have q := hb t h8q
                              rw [up_ne hM_171q (by omega), et2] at hz180q
                              by_cases e8q : (t : Int) = z180q
                              · have e9q : z180q.toNat = t := by omega
                                rw [e9q, up_ne hM_171q (by omega)] at hz198q hz218q
                                rw [up_ne hM_171q (by omega), et1] at hz211q
                                rw [e9q] at hM_237q
                                rw [up_eq hM_237q, hz236q, up_ne hM_171q (by omega), et1]
                                exact BIR_3 h0q.1 (by omega) (by omega) (by omega) (by omega) q
                              · rw [up_ne hM_237q (by omega), up_ne hM_171q (by omega)]; exact BIR_n h0q.1 (fun z => by omega) q
                            case i_m =>
                              omega
              refine aw_sub [1, 2, 3, 0] rfl ?_
              refine lp137q _ _ _  ?i_h0 ?i_hf ?i_ht ?i_hk ?i_hc ?i_hcn ?i_ha ?i_hb (Nat.lt_succ_self _)
              case i_h0 =>
                omega
              case i_hf =>
                exact hf.tr hfrM_132 (by decide)
              case i_ht =>
                exact ht
              case i_hk =>
                rfl
              case i_hc =>
                rfl
              case i_hcn =>
                rfl
              case i_ha =>
                exact all_0
              case i_hb =>
                intro t h8q; rw [hflM_132 t h8q]; exact Or.inl ⟨rfl, fun i hi => absurd hi (Nat.not_lt_zero _)⟩
            · refine aw_aload_n cx dX0_hear_70 rfl 0 rfl ?_
              refine aw_getR (q := 23) cx dX0_hear_71 fl_X0_9 (lb_22 tl) rfl rfl ?_
              refine aw_iload_n cx dX0_hear_74 rfl 3 rfl ?_
              refine aw_aload_n cx dX0_hear_75 rfl 0 rfl ?_
              refine aw_iload_n cx dX0_hear_76 rfl 3 rfl ?_
              refine aw_callV (as := [aI x3q]) (k := 22) (stk := [aI x3q, aR 23]) cx dX0_hear_77 ml_X0_46 mv_X0_spoiled rfl (lb_22 tl) (by decide) rfl rfl (Nat.le_of_ble_eq_true rfl) (ct_X0_spoiled tl N59q _ _ (by first | assumption | omega) (ht) (⟨by omega, by omega⟩)) (fun rr77q M_77q hp77q => ?_)
              obtain ⟨rfl, z77q, rfl, h01z77q, hspz77q⟩ := hp77q
              refine aw_eq (stk2 := [aI z77q, aI x3q, aR 23]) ?_ rfl rfl rfl rfl
              refine aw_if_ne (tgt := 96) cx dX0_hear_80 (by decide) (fun c80q => ?_) (fun c80q => ?_)
              · refine aw_iconst (n := 0) cx dX0_hear_96 (by decide) ?_
                refine aw_zast cx dX0_hear_97 (lb_23 tl) (⟨by omega, by omega⟩) (⟨by omega, by omega⟩) (by omega) ?_
                obtain ⟨M_97q, hM_97q⟩ : ∃ q, q = up N59q 23 (Int.toNat (x3q)) (0) := ⟨_, rfl⟩
                rw [← hM_97q]
                refine aw_aload_n cx dX0_hear_98 rfl 0 rfl ?_
                refine aw_dup cx dX0_hear_99 rfl ?_
                refine aw_getI cx dX0_hear_100 fl_X0_19 (lb_22 tl) rfl (fun z100q hz100q lo_z100q hi_z100q => ?_)
                refine aw_aload_n cx dX0_hear_103 rfl 0 rfl ?_
                refine aw_getR (q := 23) cx dX0_hear_104 fl_X0_9 (lb_22 tl) rfl rfl ?_
                refine aw_iload_n cx dX0_hear_107 rfl 3 rfl ?_
                refine aw_zald cx dX0_hear_108 (lb_23 tl) (⟨by omega, by omega⟩) (fun z108q hz108q lo_z108q hi_z108q => ?_)
                obtain rfl : z108q = 0 := by rw [hz108q]; exact up_eq hM_97q
                refine aw_if_eq (tgt := 116) cx dX0_hear_109 (by decide) (fun c109q => ?_) (fun c109q => ?_)
                · refine aw_iconst (n := 0) cx dX0_hear_116 (by decide) ?_
                  refine aw_iadd cx dX0_hear_117 (by omega) (fun z117q hz117q => ?_)
                  refine aw_putI cx dX0_hear_118 fl_X0_19 kt_X0 rfl rfl (lb_22 tl) rfl (by rw [up_ne hM_97q (by omega)] at hz100q; exact ⟨by omega, by omega⟩) ?_
                  obtain ⟨M_118q, hM_118q⟩ : ∃ q, q = up M_97q 22 2 z117q := ⟨_, rfl⟩
                  rw [← hM_118q]
                  refine aw_iinc cx dX0_hear_121 3 rfl (by decide) (by omega) (fun z121q hz121q => ?_)
                  refine aw_loc (loc2 := [(3, aI z121q), (0, aR 22), (1, aR tk), (2, aI held)]) rfl ?_
                  refine aw_goto (tgt := 59) cx dX0_hear_124 (by decide) ?_
                  refine aw_sub [1, 2, 3, 0] rfl ?_
                  refine ih59q _ _  ?i_h0 ?i_hf ?i_ht ?i_hk59 ?i_hc59 ?i_hcb ?i_ha59 ?i_m
                  case i_h0 =>
                    omega
                  case i_hf =>
                    exact (hf.put hM_97q (by decide)).put hM_118q (by decide)
                  case i_ht =>
                    rw [up_ne hM_118q (by omega), up_ne hM_97q (by omega)]; exact ht
                  case i_hk59 =>
                    intro e he; rw [up_ne hM_118q (by omega), up_ne hM_97q (by omega)]; exact hk59 e he
                  case i_hc59 =>
                    have hrow : ∀ j, j < x3q.toNat → M_118q 23 j = N59q 23 j := fun j hj => by rw [up_ne hM_118q (by omega), up_ne hM_97q (by omega)]
                    have hnew : M_118q 23 x3q.toNat = 0 := by rw [up_ne hM_118q (by omega), up_eq hM_97q]
                    rw [up_eq hM_118q, hz121q, sm_i h0q.1, sm_c hrow, hnew]; rw [up_ne hM_97q (by omega)] at hz100q; omega
                  case i_hcb =>
                    rw [up_eq hM_118q]; rw [up_ne hM_97q (by omega)] at hz100q; omega
                  case i_ha59 =>
                    have hrow : ∀ j, j < x3q.toNat → M_118q 23 j = N59q 23 j := fun j hj => by rw [up_ne hM_118q (by omega), up_ne hM_97q (by omega)]
                    have hnew : M_118q 23 x3q.toNat = 0 := by rw [up_ne hM_118q (by omega), up_eq hM_97q]
                    have hk26 : M_118q 26 = N59q 26 := by rw [hM_118q, up_off (by decide), hM_97q, up_off (by decide)]
                    rw [hz121q]
                    refine all_s (P := fun i => (M_118q 23 i = 1 ↔ ¬ SPO (M_118q 26) (M 20) (M 21) (M (tk + 1)) (M (tk + 2)) (M (tk + 3)) (M 18 3).toNat i ∧ ∀ a, a < i → ¬ (M_118q 23 a = 1 ∧ AP (M (tk + 3)) (M (tk + 2)) (M (tk + 1)) a i))) h0q.1 (fun i hi => ?_) ?_
                    · rw [hk26, hrow i hi, ha59 i hi]
                      exact ⟨fun q => ⟨q.1, fun a h1q => by rw [hrow a (by omega)]; exact q.2 a h1q⟩, fun q => ⟨q.1, fun a h1q => by have := q.2 a h1q; rwa [hrow a (by omega)] at this⟩⟩
                    · rw [hk26, hnew]
                      have hsp := hspz77q
                      rw [et1, et2, et3, e20q, e21q, e183q] at hsp
                      exact ⟨fun q => absurd q (by decide), fun q => absurd (hsp.mp (by omega)) q.1⟩
                  case i_m =>
                    omega
                · exact absurd c109q (by decide)
              · refine aw_aload_n cx dX0_hear_83 rfl 0 rfl ?_
                refine aw_iload_n cx dX0_hear_84 rfl 3 rfl ?_
                refine aw_callV (as := [aI x3q]) (k := 22) (stk := [aI x3q, aR 23]) cx dX0_hear_85 ml_X0_50 mv_X0_firstAgainst rfl (lb_22 tl) (by decide) rfl rfl (Nat.le_of_ble_eq_true rfl) (ct_X0_firstAgainst tl N59q _ _ (by first | assumption | omega) (ht) (⟨by omega, by omega⟩)) (fun rr85q M_85q hp85q => ?_)
                obtain ⟨rfl, z85q, rfl, hfz85q⟩ := hp85q
                refine aw_eq (stk2 := [aI z85q, aI x3q, aR 23]) ?_ rfl rfl rfl rfl
                refine aw_iconst (n := (-1)) cx dX0_hear_88 (by decide) ?_
                refine aw_icmp_ne (tgt := 96) cx dX0_hear_89 (by decide) (fun c89q => ?_) (fun c89q => ?_)
                · refine aw_iconst (n := 0) cx dX0_hear_96 (by decide) ?_
                  refine aw_zast cx dX0_hear_97 (lb_23 tl) (⟨by omega, by omega⟩) (⟨by omega, by omega⟩) (by omega) ?_
                  obtain ⟨M_97q, hM_97q⟩ : ∃ q, q = up N59q 23 (Int.toNat (x3q)) (0) := ⟨_, rfl⟩
                  rw [← hM_97q]
                  refine aw_aload_n cx dX0_hear_98 rfl 0 rfl ?_
                  refine aw_dup cx dX0_hear_99 rfl ?_
                  refine aw_getI cx dX0_hear_100 fl_X0_19 (lb_22 tl) rfl (fun z100q hz100q lo_z100q hi_z100q => ?_)
                  refine aw_aload_n cx dX0_hear_103 rfl 0 rfl ?_
                  refine aw_getR (q := 23) cx dX0_hear_104 fl_X0_9 (lb_22 tl) rfl rfl ?_
                  refine aw_iload_n cx dX0_hear_107 rfl 3 rfl ?_
                  refine aw_zald cx dX0_hear_108 (lb_23 tl) (⟨by omega, by omega⟩) (fun z108q hz108q lo_z108q hi_z108q => ?_)
                  obtain rfl : z108q = 0 := by rw [hz108q]; exact up_eq hM_97q
                  refine aw_if_eq (tgt := 116) cx dX0_hear_109 (by decide) (fun c109q => ?_) (fun c109q => ?_)
                  · refine aw_iconst (n := 0) cx dX0_hear_116 (by decide) ?_
                    refine aw_iadd cx dX0_hear_117 (by omega) (fun z117q hz117q => ?_)
                    refine aw_putI cx dX0_hear_118 fl_X0_19 kt_X0 rfl rfl (lb_22 tl) rfl (by rw [up_ne hM_97q (by omega)] at hz100q; exact ⟨by omega, by omega⟩) ?_
                    obtain ⟨M_118q, hM_118q⟩ : ∃ q, q = up M_97q 22 2 z117q := ⟨_, rfl⟩
                    rw [← hM_118q]
                    refine aw_iinc cx dX0_hear_121 3 rfl (by decide) (by omega) (fun z121q hz121q => ?_)
                    refine aw_loc (loc2 := [(3, aI z121q), (0, aR 22), (1, aR tk), (2, aI held)]) rfl ?_
                    refine aw_goto (tgt := 59) cx dX0_hear_124 (by decide) ?_
                    refine aw_sub [1, 2, 3, 0] rfl ?_
                    refine ih59q _ _  ?i_h0 ?i_hf ?i_ht ?i_hk59 ?i_hc59 ?i_hcb ?i_ha59 ?i_m
                    case i_h0 =>
                      omega
                    case i_hf =>
                      exact (hf.put hM_97q (by decide)).put hM_118q (by decide)
                    case i_ht =>
                      rw [up_ne hM_118q (by omega), up_ne hM_97q (by omega)]; exact ht
                    case i_hk59 =>
                      intro e he; rw [up_ne hM_118q (by omega), up_ne hM_97q (by omega)]; exact hk59 e he
                    case i_hc59 =>
                      have hrow : ∀ j, j < x3q.toNat → M_118q 23 j = N59q 23 j := fun j hj => by rw [up_ne hM_118q (by omega), up_ne hM_97q (by omega)]
                      have hnew : M_118q 23 x3q.toNat = 0 := by rw [up_ne hM_118q (by omega), up_eq hM_97q]
                      rw [up_eq hM_118q, hz121q, sm_i h0q.1, sm_c hrow, hnew]; rw [up_ne hM_97q (by omega)] at hz100q; omega
                    case i_hcb =>
                      rw [up_eq hM_118q]; rw [up_ne hM_97q (by omega)] at hz100q; omega
                    case i_ha59 =>
                      have hrow : ∀ j, j < x3q.toNat → M_118q 23 j = N59q 23 j := fun j hj => by rw [up_ne hM_118q (by omega), up_ne hM_97q (by omega)]
                      have hnew : M_118q 23 x3q.toNat = 0 := by rw [up_ne hM_118q (by omega), up_eq hM_97q]
                      have hk26 : M_118q 26 = N59q 26 := by rw [hM_118q, up_off (by decide), hM_97q, up_off (by decide)]
                      rw [hz121q]
                      refine all_s (P := fun i => (M_118q 23 i = 1 ↔ ¬ SPO (M_118q 26) (M 20) (M 21) (M (tk + 1)) (M (tk + 2)) (M (tk + 3)) (M 18 3).toNat i ∧ ∀ a, a < i → ¬ (M_118q 23 a = 1 ∧ AP (M (tk + 3)) (M (tk + 2)) (M (tk + 1)) a i))) h0q.1 (fun i hi => ?_) ?_
                      · rw [hk26, hrow i hi, ha59 i hi]
                        exact ⟨fun q => ⟨q.1, fun a h1q => by rw [hrow a (by omega)]; exact q.2 a h1q⟩, fun q => ⟨q.1, fun a h1q => by have := q.2 a h1q; rwa [hrow a (by omega)] at this⟩⟩
                      · rw [hk26, hnew]
                        have hsp := hspz77q
                        rw [et1, et2, et3, e20q, e21q, e183q] at hsp
                        refine ⟨fun q => absurd q (by decide), fun q => ?_⟩
                        rw [et1, et2, et3] at hfz85q
                        rcases hfz85q with ⟨g1, _⟩ | ⟨a, g1, g2, g3, _⟩
                        · exact absurd g1 c89q
                        · exact absurd ⟨by rw [hrow a g1]; exact g3.1, g3.2⟩ (q.2 a g1)
                    case i_m =>
                      omega
                  · exact absurd c109q (by decide)
                · refine aw_iconst (n := 1) cx dX0_hear_92 (by decide) ?_
                  refine aw_goto (tgt := 97) cx dX0_hear_93 (by decide) ?_
                  refine aw_zast cx dX0_hear_97 (lb_23 tl) (⟨by omega, by omega⟩) (⟨by omega, by omega⟩) (by omega) ?_
                  obtain ⟨M_97q, hM_97q⟩ : ∃ q, q = up N59q 23 (Int.toNat (x3q)) (1) := ⟨_, rfl⟩
                  rw [← hM_97q]
                  refine aw_aload_n cx dX0_hear_98 rfl 0 rfl ?_
                  refine aw_dup cx dX0_hear_99 rfl ?_
                  refine aw_getI cx dX0_hear_100 fl_X0_19 (lb_22 tl) rfl (fun z100q hz100q lo_z100q hi_z100q => ?_)
                  refine aw_aload_n cx dX0_hear_103 rfl 0 rfl ?_
                  refine aw_getR (q := 23) cx dX0_hear_104 fl_X0_9 (lb_22 tl) rfl rfl ?_
                  refine aw_iload_n cx dX0_hear_107 rfl 3 rfl ?_
                  refine aw_zald cx dX0_hear_108 (lb_23 tl) (⟨by omega, by omega⟩) (fun z108q hz108q lo_z108q hi_z108q => ?_)
                  obtain rfl : z108q = 1 := by rw [hz108q]; exact up_eq hM_97q
                  refine aw_if_eq (tgt := 116) cx dX0_hear_109 (by decide) (fun c109q => ?_) (fun c109q => ?_)
                  · exact absurd c109q (by decide)
                  · refine aw_iconst (n := 1) cx dX0_hear_112 (by decide) ?_
                    refine aw_goto (tgt := 117) cx dX0_hear_113 (by decide) ?_
                    refine aw_iadd cx dX0_hear_117 (by omega) (fun z117q hz117q => ?_)
                    refine aw_putI cx dX0_hear_118 fl_X0_19 kt_X0 rfl rfl (lb_22 tl) rfl (by rw [up_ne hM_97q (by omega)] at hz100q; exact ⟨by omega, by omega⟩) ?_
                    obtain ⟨M_118q, hM_118q⟩ : ∃ q, q = up M_97q 22 2 z117q := ⟨_, rfl⟩
                    rw [← hM_118q]
                    refine aw_iinc cx dX0_hear_121 3 rfl (by decide) (by omega) (fun z121q hz121q => ?_)
                    refine aw_loc (loc2 := [(3, aI z121q), (0, aR 22), (1, aR tk), (2, aI held)]) rfl ?_
                    refine aw_goto (tgt := 59) cx dX0_hear_124 (by decide) ?_
                    refine aw_sub [1, 2, 3, 0] rfl ?_
                    refine ih59q _ _  ?i_h0 ?i_hf ?i_ht ?i_hk59 ?i_hc59 ?i_hcb ?i_ha59 ?i_m
                    case i_h0 =>
                      omega
                    case i_hf =>
                      exact (hf.put hM_97q (by decide)).put hM_118q (by decide)
                    case i_ht =>
                      rw [up_ne hM_118q (by omega), up_ne hM_97q (by omega)]; exact ht
                    case i_hk59 =>
                      intro e he; rw [up_ne hM_118q (by omega), up_ne hM_97q (by omega)]; exact hk59 e he
                    case i_hc59 =>
                      have hrow : ∀ j, j < x3q.toNat → M_118q 23 j = N59q 23 j := fun j hj => by rw [up_ne hM_118q (by omega), up_ne hM_97q (by omega)]
                      have hnew : M_118q 23 x3q.toNat = 1 := by rw [up_ne hM_118q (by omega), up_eq hM_97q]
                      rw [up_eq hM_118q, hz121q, sm_i h0q.1, sm_c hrow, hnew]; rw [up_ne hM_97q (by omega)] at hz100q; omega
                    case i_hcb =>
                      rw [up_eq hM_118q]; rw [up_ne hM_97q (by omega)] at hz100q; omega
                    case i_ha59 =>
                      have hrow : ∀ j, j < x3q.toNat → M_118q 23 j = N59q 23 j := fun j hj => by rw [up_ne hM_118q (by omega), up_ne hM_97q (by omega)]
                      have hnew : M_118q 23 x3q.toNat = 1 := by rw [up_ne hM_118q (by omega), up_eq hM_97q]
                      have hk26 : M_118q 26 = N59q 26 := by rw [hM_118q, up_off (by decide), hM_97q, up_off (by decide)]
                      rw [hz121q]
                      refine all_s (P := fun i => (M_118q 23 i = 1 ↔ ¬ SPO (M_118q 26) (M 20) (M 21) (M (tk + 1)) (M (tk + 2)) (M (tk + 3)) (M 18 3).toNat i ∧ ∀ a, a < i → ¬ (M_118q 23 a = 1 ∧ AP (M (tk + 3)) (M (tk + 2)) (M (tk + 1)) a i))) h0q.1 (fun i hi => ?_) ?_
                      · rw [hk26, hrow i hi, ha59 i hi]
                        exact ⟨fun q => ⟨q.1, fun a h1q => by rw [hrow a (by omega)]; exact q.2 a h1q⟩, fun q => ⟨q.1, fun a h1q => by have := q.2 a h1q; rwa [hrow a (by omega)] at this⟩⟩
                      · rw [hk26, hnew]
                        have hsp := hspz77q
                        rw [et1, et2, et3, e20q, e21q, e183q] at hsp
                        rw [et1, et2, et3] at hfz85q
                        refine ⟨fun _ => ⟨fun q => by have := hsp.mpr q; omega, fun a h1q => ?_⟩, fun _ => rfl⟩
                        rcases hfz85q with ⟨g1, g2⟩ | ⟨a2, g1, g2, g3, _⟩
                        · rw [hrow a h1q]; exact g2 a h1q
                        · omega
                    case i_m =>
                      omega
        refine aw_sub [1, 2, 3, 0] rfl ?_
        refine lp59q _ _ _  ?i_h0 ?i_hf ?i_ht ?i_hk59 ?i_hc59 ?i_hcb ?i_ha59 (Nat.lt_succ_self _)
        case i_h0 =>
          omega
        case i_hf =>
          exact hf
        case i_ht =>
          exact ht
        case i_hk59 =>
          exact fun e he => ha12 e (by omega)
        case i_hc59 =>
          rw [hc12]; rfl
        case i_hcb =>
          omega
        case i_ha59 =>
          exact all_0
      · refine aw_aload_n cx dX0_hear_23 rfl 0 rfl ?_
        refine aw_getR (q := 26) cx dX0_hear_24 fl_X0_26 (lb_22 tl) rfl rfl ?_
        refine aw_iload_n cx dX0_hear_27 rfl 3 rfl ?_
        refine aw_iload_n cx dX0_hear_28 rfl 2 rfl ?_
        refine aw_iload_n cx dX0_hear_29 rfl 3 rfl ?_
        refine aw_ishr cx dX0_hear_30 (fun z30q hz30q => ?_)
        refine aw_iconst (n := 1) cx dX0_hear_31 (by decide) ?_
        refine aw_iand cx dX0_hear_32 (fun z32q hz32q => ?_)
        have hb32 : z32q = b2 (BT held x3q.toNat) := by rw [hz32q, hz30q]; exact isbit (by omega) (by omega)
        refine aw_iconst (n := 1) cx dX0_hear_33 (by decide) ?_
        refine aw_icmp_ne (tgt := 49) cx dX0_hear_34 (by decide) (fun c34q => ?_) (fun c34q => ?_)
        · refine aw_iconst (n := (-1)) cx dX0_hear_49 (by decide) ?_
          refine aw_iast cx dX0_hear_50 (lb_26 tl) (⟨by omega, by omega⟩) (⟨by omega, by omega⟩) ?_
          obtain ⟨M_50q, hM_50q⟩ : ∃ q, q = up N12q 26 (Int.toNat (x3q)) ((-1)) := ⟨_, rfl⟩
          rw [← hM_50q]
          refine aw_iinc cx dX0_hear_51 3 rfl (by decide) (by omega) (fun z51q hz51q => ?_)
          refine aw_loc (loc2 := [(3, aI z51q), (0, aR 22), (1, aR tk), (2, aI held)]) rfl ?_
          refine aw_goto (tgt := 12) cx dX0_hear_54 (by decide) ?_
          refine aw_sub [1, 2, 3, 0] rfl ?_
          refine ih12q _ _  ?i_h0 ?i_hf ?i_ht ?i_hc12 ?i_ha12 ?i_m
          case i_h0 =>
            omega
          case i_hf =>
            exact hf.put hM_50q (by decide)
          case i_ht =>
            rw [up_ne hM_50q (by omega)]; exact ht
          case i_hc12 =>
            rw [up_ne hM_50q (by omega)]; exact hc12
          case i_ha12 =>
            rw [hz51q]; refine row_s h0q.1 hM_50q ha12 ?_; unfold KEF; first | (rw [if_pos (b2_e1.mp (by omega))]; rw [hz45q, e19q]) | (rw [if_neg (b2_e0.mp (by have := b2_in (BT held x3q.toNat); omega))])
          case i_m =>
            omega
        · refine aw_aload_n cx dX0_hear_37 rfl 0 rfl ?_
          refine aw_getR (q := 18) cx dX0_hear_38 fl_X0_33 (lb_22 tl) rfl rfl ?_
          refine aw_getR (q := 19) cx dX0_hear_41 fl_X0_42 (lb_18 tl) rfl rfl ?_
          refine aw_iload_n cx dX0_hear_44 rfl 3 rfl ?_
          refine aw_iald cx dX0_hear_45 (lb_19 tl) (⟨by omega, by omega⟩) (fun z45q hz45q lo_z45q hi_z45q => ?_)
          refine aw_goto (tgt := 50) cx dX0_hear_46 (by decide) ?_
          refine aw_iast cx dX0_hear_50 (lb_26 tl) (⟨by omega, by omega⟩) (⟨by omega, by omega⟩) ?_
          obtain ⟨M_50q, hM_50q⟩ : ∃ q, q = up N12q 26 (Int.toNat (x3q)) (z45q) := ⟨_, rfl⟩
          rw [← hM_50q]
          refine aw_iinc cx dX0_hear_51 3 rfl (by decide) (by omega) (fun z51q hz51q => ?_)
          refine aw_loc (loc2 := [(3, aI z51q), (0, aR 22), (1, aR tk), (2, aI held)]) rfl ?_
          refine aw_goto (tgt := 12) cx dX0_hear_54 (by decide) ?_
          refine aw_sub [1, 2, 3, 0] rfl ?_
          refine ih12q _ _  ?i_h0 ?i_hf ?i_ht ?i_hc12 ?i_ha12 ?i_m
          case i_h0 =>
            omega
          case i_hf =>
            exact hf.put hM_50q (by decide)
          case i_ht =>
            rw [up_ne hM_50q (by omega)]; exact ht
          case i_hc12 =>
            rw [up_ne hM_50q (by omega)]; exact hc12
          case i_ha12 =>
            rw [hz51q]; refine row_s h0q.1 hM_50q ha12 ?_; unfold KEF; first | (rw [if_pos (b2_e1.mp (by omega))]; rw [hz45q, e19q]) | (rw [if_neg (b2_e0.mp (by have := b2_in (BT held x3q.toNat); omega))])
          case i_m =>
            omega
  refine aw_sub [1, 2, 3, 0] rfl ?_
  refine lp12q _ _ _  ?i_h0 ?i_hf ?i_ht ?i_hc12 ?i_ha12 (Nat.lt_succ_self _)
  case i_h0 =>
    omega
  case i_hf =>
    exact (FR.rf.put hM_2q (by decide)).put hM_7q (by decide)
  case i_ht =>
    rw [up_ne hM_7q (by omega), up_eq hM_2q]
  case i_hc12 =>
    exact up_eq hM_7q
  case i_ha12 =>
    exact all_0
