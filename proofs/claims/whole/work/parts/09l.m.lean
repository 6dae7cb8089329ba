set_option maxHeartbeats 1000000 in
set_option maxRecDepth 100000 in
theorem ct_X7_standsIn (tl : List CD) (M : Mem) (town : Int) (ht : 0 ≤ town ∧ town ≤ 7) : Ct 2 mX7_standsIn (LB ++ tl) [aR 32, aI town] M (fun r M1 => r = none ∧ FR [51, 52, 53] M M1 ∧ (∀ j, (j < 24 * town.toNat ∨ 24 * town.toNat + 24 ≤ j) → M1 51 j = M 51 j ∧ M1 52 j = M 52 j ∧ M1 53 j = M 53 j) ∧ ∃ b, BIR (M 32 15).toNat (M 48) (M 44) (M 45) town b ∧ ∀ k, k < 24 → SEQ (M 32 15).toNat (M 32 11).toNat b (M 49) (M 44) (M 45) (KEN (M 32 21) (M 41)) (M 42) (M 43) (M1 51) (M1 52) (M1 53) town k) := by
  refine Ct.of (own := RX7) rfl (by decide +kernel) (Nat.le_of_ble_eq_true rfl) (fun X cx rt => ?_)
  refine aw_eq (loc2 := [(0, aR 32), (1, aI town)]) ?_ rfl rfl rfl rfl
  refine aw_rngL 1 rfl (fun rl_town rh_town => ?_)
  refine aw_ok (fun om => ?_)
  have htn : 0 ≤ M 32 15 ∧ M 32 15 ≤ 12 := okF om (lb_32 tl) (j := 15) rfl (show (0 : Nat) ≠ 1 by decide)
  have hse : 0 ≤ M 32 11 ∧ M 32 11 ≤ 8 := okF om (lb_32 tl) (j := 11) rfl (show (0 : Nat) ≠ 1 by decide)
  have hno : 0 ≤ M 32 21 ∧ M 32 21 ≤ 255 := okF om (lb_32 tl) (j := 21) rfl (show (0 : Nat) ≠ 1 by decide)
  have hG : ∀ j, 0 ≤ M 49 j ∧ M 49 j ≤ 3 := fun j => okA om (lb_49 tl) j
  have hNN : ∀ j, 0 ≤ M 44 j ∧ M 44 j ≤ 23 := fun j => okA om (lb_44 tl) j
  refine aw_bipush (n := 24) cx dX7_standsIn_0 (by decide) ?_
  refine aw_istore_n (loc2 := [(2, aI 24), (0, aR 32), (1, aI town)]) cx dX7_standsIn_2 rfl (by decide) rfl ?_
  refine aw_iconst (n := 0) cx dX7_standsIn_3 (by decide) ?_
  refine aw_istore_n (loc2 := [(3, aI 0), (2, aI 24), (0, aR 32), (1, aI town)]) cx dX7_standsIn_4 rfl (by decide) rfl ?_
  have lp5q : ∀ (fu : Nat) (x2q : Int) (x3q : Int), (0 ≤ x3q ∧ x3q ≤ M 32 15) → (0 ≤ x2q ∧ x2q ≤ 24) → (CAM x3q.toNat (M 48) (M 44) (M 45) town x2q) → ((M 32 15 - x3q).toNat) < fu → AW X (LB ++ tl) 7 5 [(0, aR 32), (1, aI town), (2, aI x2q), (3, aI x3q)] [] M := by
    intro fu
    induction fu with
    | zero =>
      intro x2q x3q h0q hr hc hm
      exact absurd hm (Nat.not_lt_zero _)
    | succ fu ih5q =>
      intro x2q x3q h0q hr hc hm
      refine aw_iload_n cx dX7_standsIn_5 rfl 3 rfl ?_
      refine aw_aload_n cx dX7_standsIn_6 rfl 0 rfl ?_
      refine aw_getI cx dX7_standsIn_7 fl_X7_184 (lb_32 tl) rfl (fun z7q hz7q lo_z7q hi_z7q => ?_)
      refine aw_icmp_ge (tgt := 60) cx dX7_standsIn_10 (by decide) (fun c10q => ?_) (fun c10q => ?_)
      · have hcx : CAM (M 32 15).toNat (M 48) (M 44) (M 45) town x2q := by rw [show (M 32 15).toNat = x3q.toNat by omega]; exact hc
        obtain ⟨b, hbir, hcb⟩ := CAM_b hcx
        refine aw_iconst (n := 0) cx dX7_standsIn_60 (by decide) ?_
        refine aw_istore_n (loc2 := [(3, aI 0), (0, aR 32), (1, aI town), (2, aI x2q)]) cx dX7_standsIn_61 rfl (by decide) rfl ?_
        refine aw_iconst (n := 0) cx dX7_standsIn_62 (by decide) ?_
        refine aw_istore (loc2 := [(4, aI 0), (3, aI 0), (0, aR 32), (1, aI town), (2, aI x2q)]) cx dX7_standsIn_63 (by decide) rfl ?_
        have lp65q : ∀ (fu : Nat) (x3q : Int) (x4q : Int) (N65q : Mem), (0 ≤ x4q ∧ x4q ≤ 24) → (FR [51, 52, 53] M N65q) → (x3q = SWT (M 32 15).toNat (M 49) (M 44) (M 45) (x4q - 1) town + LET (M 32 11).toNat (KEN (M 32 21) (M 41)) (M 42) (M 43) x2q (x4q - 1) town) → (∀ k, k < x4q.toNat → SEQ (M 32 15).toNat (M 32 11).toNat b (M 49) (M 44) (M 45) (KEN (M 32 21) (M 41)) (M 42) (M 43) (N65q 51) (N65q 52) (N65q 53) town k) → (∀ j, (j < 24 * town.toNat ∨ 24 * town.toNat + 24 ≤ j) → N65q 51 j = M 51 j ∧ N65q 52 j = M 52 j ∧ N65q 53 j = M 53 j) → ((24 - x4q).toNat) < fu → AW X (LB ++ tl) 7 65 [(0, aR 32), (1, aI town), (2, aI x2q), (3, aI x3q), (4, aI x4q)] [] N65q := by
          intro fu
          induction fu with
          | zero =>
            intro x3q x4q N65q k0 kf ks kr ko hm
            exact absurd hm (Nat.not_lt_zero _)
          | succ fu ih65q =>
            intro x3q x4q N65q k0 kf ks kr ko hm
            have e15q := congrFun (kf 32 (by decide)) 15
            have q1q := SWT_in (n := (M 32 15).toNat) (N := M 44) (T := M 45) (night := x4q - 1) (town := town) (by omega) hG
            have q2q := LET_in (m := (M 32 11).toNat) (K := (KEN (M 32 21) (M 41))) (EN := M 42) (EX := M 43) (b := x2q) (night := x4q - 1) (town := town) (by omega)
            have q3q := SWT_in (n := (M 32 15).toNat) (N := M 44) (T := M 45) (night := x4q) (town := town) (by omega) hG
            have q4q := LET_in (m := (M 32 11).toNat) (K := (KEN (M 32 21) (M 41))) (EN := M 42) (EX := M 43) (b := x2q) (night := x4q) (town := town) (by omega)
            refine aw_iload cx dX7_standsIn_65 4 rfl ?_
            refine aw_bipush (n := 24) cx dX7_standsIn_67 (by decide) ?_
            refine aw_icmp_ge (tgt := 276) cx dX7_standsIn_69 (by decide) (fun c69q => ?_) (fun c69q => ?_)
            · refine aw_vret cx rt dX7_standsIn_276 ?_
              refine ⟨rfl, kf, ko, b, hbir, ?_⟩
              rw [show x4q = 24 by omega] at kr
              exact kr
            · refine aw_bipush (n := 24) cx dX7_standsIn_72 (by decide) ?_
              refine aw_iload_n cx dX7_standsIn_74 rfl 1 rfl ?_
              refine aw_imul cx dX7_standsIn_75 (by omega) (fun z75q hz75q => ?_)
              refine aw_iload cx dX7_standsIn_76 4 rfl ?_
              refine aw_iadd cx dX7_standsIn_78 (by omega) (fun z78q hz78q => ?_)
              refine aw_istore (loc2 := [(5, aI z78q), (0, aR 32), (1, aI town), (2, aI x2q), (3, aI x3q), (4, aI x4q)]) cx dX7_standsIn_79 (by decide) rfl ?_
              refine aw_aload_n cx dX7_standsIn_81 rfl 1 rfl ?_
              refine aw_getR (q := 51) cx dX7_standsIn_82 fl_X7_64 (lb_32 tl) rfl rfl ?_
              refine aw_iload cx dX7_standsIn_85 0 rfl ?_
              refine aw_iconst (n := 0) cx dX7_standsIn_87 (by decide) ?_
              refine aw_iast cx dX7_standsIn_88 (lb_51 tl) (⟨by omega, by omega⟩) (⟨by omega, by omega⟩) ?_
              obtain ⟨M_88q, hM_88q⟩ : ∃ qm, qm = up N65q (51) (Int.toNat (z78q)) (0) := ⟨_, rfl⟩
              rw [← hM_88q]
              refine aw_iconst (n := 0) cx dX7_standsIn_89 (by decide) ?_
              refine aw_istore (loc2 := [(6, aI 0), (5, aI z78q), (0, aR 32), (1, aI town), (2, aI x2q), (3, aI x3q), (4, aI x4q)]) cx dX7_standsIn_90 (by decide) rfl ?_
              have lp92q : ∀ (fu : Nat) (x6q : Int) (N92q : Mem), (0 ≤ x6q ∧ x6q ≤ M 32 15) → (FR [51, 52, 53] M N92q) → (N92q 51 z78q.toNat = sm (fun i => if M 44 i = x4q ∧ M 45 i = town then M 49 i else 0) x6q.toNat) → (0 ≤ N92q 51 z78q.toNat ∧ N92q 51 z78q.toNat ≤ 3 * x6q) → (∀ a j, (a ≠ 51 ∨ j ≠ z78q.toNat) → N92q a j = N65q a j) → ((M 32 15 - x6q).toNat) < fu → AW X (LB ++ tl) 7 92 [(0, aR 32), (1, aI town), (2, aI x2q), (3, aI x3q), (4, aI x4q), (5, aI z78q), (6, aI x6q)] [] N92q := by
                intro fu
                induction fu with
                | zero =>
                  intro x6q N92q p0 pf pv pb po hm
                  exact absurd hm (Nat.not_lt_zero _)
                | succ fu ih92q =>
                  intro x6q N92q p0 pf pv pb po hm
                  have f15 := congrFun (pf 32 (by decide)) 15
                  have f44 := congrFun (pf 44 (by decide)) x6q.toNat
                  have f45 := congrFun (pf 45 (by decide)) x6q.toNat
                  have f49 := congrFun (pf 49 (by decide)) x6q.toNat
                  refine aw_iload cx dX7_standsIn_92 6 rfl ?_
                  refine aw_aload_n cx dX7_standsIn_94 rfl 0 rfl ?_
                  refine aw_getI cx dX7_standsIn_95 fl_X7_184 (lb_32 tl) rfl (fun z95q hz95q lo_z95q hi_z95q => ?_)
                  refine aw_icmp_ge (tgt := 151) cx dX7_standsIn_98 (by decide) (fun c98q => ?_) (fun c98q => ?_)
                  · have hw : N92q 51 z78q.toNat = WIN (M 32 15).toNat (M 49) (M 44) (M 45) x4q town := by rw [pv, show x6q.toNat = (M 32 15).toNat by omega]; rfl
                    have hwb := WIN_in (n := (M 32 15).toNat) (N := M 44) (T := M 45) (night := x4q) (town := town) (by omega) hG
                    refine aw_iload_n cx dX7_standsIn_151 rfl 3 rfl ?_
                    refine aw_aload_n cx dX7_standsIn_152 rfl 0 rfl ?_
                    refine aw_getR (q := 51) cx dX7_standsIn_153 fl_X7_64 (lb_32 tl) rfl rfl ?_
                    refine aw_iload cx dX7_standsIn_156 5 rfl ?_
                    refine aw_iald cx dX7_standsIn_158 (lb_51 tl) (⟨by omega, by omega⟩) (fun z158q hz158q lo_z158q hi_z158q => ?_)
                    refine aw_iload cx dX7_standsIn_159 4 rfl ?_
                    refine aw_iload_n cx dX7_standsIn_161 rfl 2 rfl ?_
                    refine aw_icmp_lt (tgt := 177) cx dX7_standsIn_162 (by decide) (fun c162q => ?_) (fun c162q => ?_)
                    · refine aw_iconst (n := 0) cx dX7_standsIn_177 (by decide) ?_
                      refine aw_iadd cx dX7_standsIn_178 (by omega) (fun z178q hz178q => ?_)
                      refine aw_iadd cx dX7_standsIn_179 (by omega) (fun z179q hz179q => ?_)
                      refine aw_istore_n (loc2 := [(3, aI z179q), (0, aR 32), (1, aI town), (2, aI x2q), (4, aI x4q), (5, aI z78q), (6, aI x6q)]) cx dX7_standsIn_180 rfl (by decide) rfl ?_
                      have hsum : z179q = SWT (M 32 15).toNat (M 49) (M 44) (M 45) (x4q) town + LET (M 32 11).toNat (KEN (M 32 21) (M 41)) (M 42) (M 43) x2q (x4q) town := by
                        have s1q := SWT_n (n := (M 32 15).toNat) (G := M 49) (N := M 44) (T := M 45) (night := x4q) (town := town)
                        first
                        | (rw [s1q, LET_n (by omega), ← hl]; omega)
                        | (rw [s1q, LET_neg (night := x4q) (by omega)]; rw [LET_neg (night := x4q - 1) (by omega)] at ks; omega)
                      refine aw_iload cx dX7_standsIn_181 4 rfl ?_
                      refine aw_iload_n cx dX7_standsIn_183 rfl 3 rfl ?_
                      refine aw_isub cx dX7_standsIn_184 (by omega) (fun z184q hz184q => ?_)
                      refine aw_iload_n cx dX7_standsIn_185 rfl 0 rfl ?_
                      refine aw_iadd cx dX7_standsIn_186 (by omega) (fun z186q hz186q => ?_)
                      refine aw_istore (loc2 := [(6, aI z186q), (3, aI z179q), (0, aR 32), (1, aI town), (2, aI x2q), (4, aI x4q), (5, aI z78q)]) cx dX7_standsIn_187 (by decide) rfl ?_
                      refine aw_aload_n cx dX7_standsIn_189 rfl 2 rfl ?_
                      refine aw_getR (q := 52) cx dX7_standsIn_190 fl_X7_67 (lb_32 tl) rfl rfl ?_
                      refine aw_iload cx dX7_standsIn_193 6 rfl ?_
                      refine aw_iload cx dX7_standsIn_195 5 rfl ?_
                      refine aw_iload_n cx dX7_standsIn_197 rfl 4 rfl ?_
                      refine aw_icmp_ge (tgt := 205) cx dX7_standsIn_198 (by decide) (fun c198q => ?_) (fun c198q => ?_)
                      · exfalso
                        omega
                      · refine aw_iconst (n := 0) cx dX7_standsIn_201 (by decide) ?_
                        refine aw_goto (tgt := 219) cx dX7_standsIn_202 (by decide) ?_
                        refine aw_iast cx dX7_standsIn_219 (lb_52 tl) (⟨by omega, by omega⟩) (⟨by omega, by omega⟩) ?_
                        obtain ⟨M_219q, hM_219q⟩ : ∃ qm, qm = up N92q (52) (Int.toNat (z78q)) (0) := ⟨_, rfl⟩
                        rw [← hM_219q]
                        refine aw_aload_n cx dX7_standsIn_220 rfl 2 rfl ?_
                        refine aw_getR (q := 53) cx dX7_standsIn_221 fl_X7_70 (lb_32 tl) rfl rfl ?_
                        refine aw_iload cx dX7_standsIn_224 6 rfl ?_
                        refine aw_iload cx dX7_standsIn_226 5 rfl ?_
                        refine aw_iload_n cx dX7_standsIn_228 rfl 4 rfl ?_
                        refine aw_icmp_ge (tgt := 236) cx dX7_standsIn_229 (by decide) (fun c229q => ?_) (fun c229q => ?_)
                        · exfalso
                          omega
                        · refine aw_iconst (n := 0) cx dX7_standsIn_232 (by decide) ?_
                          refine aw_goto (tgt := 269) cx dX7_standsIn_233 (by decide) ?_
                          refine aw_iast cx dX7_standsIn_269 (lb_53 tl) (⟨by omega, by omega⟩) (⟨by omega, by omega⟩) ?_
                          obtain ⟨M_269q, hM_269q⟩ : ∃ qm, qm = up M_219q (53) (Int.toNat (z78q)) (0) := ⟨_, rfl⟩
                          rw [← hM_269q]
                          refine aw_iinc cx dX7_standsIn_270 5 rfl (by decide) (by omega) (fun z270q hz270q => ?_)
                          refine aw_loc (loc2 := [(4, aI z270q), (6, aI z186q), (3, aI z179q), (0, aR 32), (1, aI town), (2, aI x2q), (5, aI z78q)]) rfl ?_
                          refine aw_goto (tgt := 65) cx dX7_standsIn_273 (by decide) ?_
                          refine aw_sub [3, 4, 5, 2, 0] rfl ?_
                          refine ih65q _ _ _  ?i_k0 ?i_kf ?i_ks ?i_kr ?i_ko ?i_m
                          case i_k0 =>
                            omega
                          case i_kf =>
                            exact (pf.put hM_219q (by decide)).put hM_269q (by decide)
                          case i_ks =>
                            rw [show z270q - 1 = x4q by omega]; exact hsum
                          case i_kr =>
                            intro k hk
                            by_cases hq : k = x4q.toNat
                            · subst hq
                              refine SEQ_mk (i := z78q.toNat) k0.1 (by omega) ?_ ?_ ?_
                              · rw [hM_269q, up_off (by decide), hM_219q, up_off (by decide)]; exact hw
                              · rw [hM_269q, up_off (by decide), up_eq hM_219q]; rw [STD_lt hcb (by omega)]; omega
                              · rw [up_eq hM_269q]; rw [STD_lt hcb (by omega)]; first | exact (RNK_a (by omega)).symm | exact (RNK_b (by omega)).symm | exact (RNK_d (by omega)).symm | exact (RNK_e (by omega)).symm
                            · exact SEQ_k (kr k (by omega)) (by rw [up_ne hM_269q (by omega), up_ne hM_219q (by omega), po _ _ (by omega)]) (by rw [up_ne hM_269q (by omega), up_ne hM_219q (by omega), po _ _ (by omega)]) (by rw [up_ne hM_269q (by omega), up_ne hM_219q (by omega), po _ _ (by omega)])
                          case i_ko =>
                            intro j hj
                            have q := ko j hj
                            exact ⟨by rw [up_ne hM_269q (by omega), up_ne hM_219q (by omega), po _ _ (by omega)]; exact q.1, by rw [up_ne hM_269q (by omega), up_ne hM_219q (by omega), po _ _ (by omega)]; exact q.2.1, by rw [up_ne hM_269q (by omega), up_ne hM_219q (by omega), po _ _ (by omega)]; exact q.2.2⟩
                          case i_m =>
                            omega
                    · refine aw_iconst (n := 3) cx dX7_standsIn_165 (by decide) ?_
                      refine aw_aload_n cx dX7_standsIn_166 rfl 0 rfl ?_
                      refine aw_iload_n cx dX7_standsIn_167 rfl 1 rfl ?_
                      refine aw_iload cx dX7_standsIn_168 4 rfl ?_
                      refine aw_callV (as := [aI town, aI x4q]) (k := 32) (stk := [aI 3, aI z158q, aI x3q]) cx dX7_standsIn_170 ml_X7_212 mv_X7_letters rfl (lb_32 tl) (by decide) rfl rfl (Nat.le_of_ble_eq_true rfl) (ct_X7_letters tl N92q _ _ ) (fun rr170q M_170q hp170q => ?_)
                      obtain ⟨rfl, rfl⟩ := hp170q
                      refine aw_top (stk := [aI 3, aI z158q, aI x3q]) (fun z170q hz170q => ?_)
                      have hrz170q : 0 ≤ z170q := by rw [hz170q]; exact sm_ge (fun _ _ => (b2_in _).1)
                      have hl : z170q = sm (fun e => b2 ((KEN (M 32 21) (M 41)) e = 2 ∧ M 43 e = town ∧ M 42 e = x4q)) (M 32 11).toNat := by rw [hz170q, pf 32 (by decide), pf 41 (by decide), pf 42 (by decide), pf 43 (by decide)]
                      have hl8 : z170q ≤ 8 := by rw [hl]; have q := sm_le (f := fun e => b2 ((KEN (M 32 21) (M 41)) e = 2 ∧ M 43 e = town ∧ M 42 e = x4q)) (n := (M 32 11).toNat) (b := 1) (fun _ _ => (b2_in _).2); omega
                      refine aw_imul cx dX7_standsIn_173 (by omega) (fun z173q hz173q => ?_)
                      refine aw_goto (tgt := 178) cx dX7_standsIn_174 (by decide) ?_
                      refine aw_iadd cx dX7_standsIn_178 (by omega) (fun z178q hz178q => ?_)
                      refine aw_iadd cx dX7_standsIn_179 (by omega) (fun z179q hz179q => ?_)
                      refine aw_istore_n (loc2 := [(3, aI z179q), (0, aR 32), (1, aI town), (2, aI x2q), (4, aI x4q), (5, aI z78q), (6, aI x6q)]) cx dX7_standsIn_180 rfl (by decide) rfl ?_
                      have hsum : z179q = SWT (M 32 15).toNat (M 49) (M 44) (M 45) (x4q) town + LET (M 32 11).toNat (KEN (M 32 21) (M 41)) (M 42) (M 43) x2q (x4q) town := by
                        have s1q := SWT_n (n := (M 32 15).toNat) (G := M 49) (N := M 44) (T := M 45) (night := x4q) (town := town)
                        first
                        | (rw [s1q, LET_n (by omega), ← hl]; omega)
                        | (rw [s1q, LET_neg (night := x4q) (by omega)]; rw [LET_neg (night := x4q - 1) (by omega)] at ks; omega)
                      refine aw_iload cx dX7_standsIn_181 4 rfl ?_
                      refine aw_iload_n cx dX7_standsIn_183 rfl 3 rfl ?_
                      refine aw_isub cx dX7_standsIn_184 (by omega) (fun z184q hz184q => ?_)
                      refine aw_iload_n cx dX7_standsIn_185 rfl 0 rfl ?_
                      refine aw_iadd cx dX7_standsIn_186 (by omega) (fun z186q hz186q => ?_)
                      refine aw_istore (loc2 := [(6, aI z186q), (3, aI z179q), (0, aR 32), (1, aI town), (2, aI x2q), (4, aI x4q), (5, aI z78q)]) cx dX7_standsIn_187 (by decide) rfl ?_
                      refine aw_aload_n cx dX7_standsIn_189 rfl 2 rfl ?_
                      refine aw_getR (q := 52) cx dX7_standsIn_190 fl_X7_67 (lb_32 tl) rfl rfl ?_
                      refine aw_iload cx dX7_standsIn_193 6 rfl ?_
                      refine aw_iload cx dX7_standsIn_195 5 rfl ?_
                      refine aw_iload_n cx dX7_standsIn_197 rfl 4 rfl ?_
                      refine aw_icmp_ge (tgt := 205) cx dX7_standsIn_198 (by decide) (fun c198q => ?_) (fun c198q => ?_)
                      · refine aw_iload cx dX7_standsIn_205 0 rfl ?_
                        refine aw_bipush (n := 40) cx dX7_standsIn_207 (by decide) ?_
                        refine aw_icmp_ge (tgt := 217) cx dX7_standsIn_209 (by decide) (fun c209q => ?_) (fun c209q => ?_)
                        · refine aw_bipush (n := 40) cx dX7_standsIn_217 (by decide) ?_
                          refine aw_iast cx dX7_standsIn_219 (lb_52 tl) (⟨by omega, by omega⟩) (⟨by omega, by omega⟩) ?_
                          obtain ⟨M_219q, hM_219q⟩ : ∃ qm, qm = up N92q (52) (Int.toNat (z78q)) (40) := ⟨_, rfl⟩
                          rw [← hM_219q]
                          refine aw_aload_n cx dX7_standsIn_220 rfl 2 rfl ?_
                          refine aw_getR (q := 53) cx dX7_standsIn_221 fl_X7_70 (lb_32 tl) rfl rfl ?_
                          refine aw_iload cx dX7_standsIn_224 6 rfl ?_
                          refine aw_iload cx dX7_standsIn_226 5 rfl ?_
                          refine aw_iload_n cx dX7_standsIn_228 rfl 4 rfl ?_
                          refine aw_icmp_ge (tgt := 236) cx dX7_standsIn_229 (by decide) (fun c229q => ?_) (fun c229q => ?_)
                          · refine aw_aload_n cx dX7_standsIn_236 rfl 2 rfl ?_
                            refine aw_getR (q := 52) cx dX7_standsIn_237 fl_X7_67 (lb_32 tl) rfl rfl ?_
                            refine aw_iload cx dX7_standsIn_240 6 rfl ?_
                            refine aw_iald cx dX7_standsIn_242 (lb_52 tl) (⟨by omega, by omega⟩) (fun z242q hz242q lo_z242q hi_z242q => ?_)
                            obtain rfl : z242q = 40 := by rw [hz242q]; exact up_eq hM_219q
                            refine aw_bipush (n := 6) cx dX7_standsIn_243 (by decide) ?_
                            refine aw_icmp_ge (tgt := 252) cx dX7_standsIn_245 (by decide) (fun c245q => ?_) (fun c245q => ?_)
                            · refine aw_aload_n cx dX7_standsIn_252 rfl 2 rfl ?_
                              refine aw_getR (q := 52) cx dX7_standsIn_253 fl_X7_67 (lb_32 tl) rfl rfl ?_
                              refine aw_iload cx dX7_standsIn_256 6 rfl ?_
                              refine aw_iald cx dX7_standsIn_258 (lb_52 tl) (⟨by omega, by omega⟩) (fun z258q hz258q lo_z258q hi_z258q => ?_)
                              obtain rfl : z258q = 40 := by rw [hz258q]; exact up_eq hM_219q
                              refine aw_bipush (n := 15) cx dX7_standsIn_259 (by decide) ?_
                              refine aw_icmp_ge (tgt := 268) cx dX7_standsIn_261 (by decide) (fun c261q => ?_) (fun c261q => ?_)
                              · refine aw_iconst (n := 3) cx dX7_standsIn_268 (by decide) ?_
                                refine aw_iast cx dX7_standsIn_269 (lb_53 tl) (⟨by omega, by omega⟩) (⟨by omega, by omega⟩) ?_
                                obtain ⟨M_269q, hM_269q⟩ : ∃ qm, qm = up M_219q (53) (Int.toNat (z78q)) (3) := ⟨_, rfl⟩
                                rw [← hM_269q]
                                refine aw_iinc cx dX7_standsIn_270 5 rfl (by decide) (by omega) (fun z270q hz270q => ?_)
                                refine aw_loc (loc2 := [(4, aI z270q), (6, aI z186q), (3, aI z179q), (0, aR 32), (1, aI town), (2, aI x2q), (5, aI z78q)]) rfl ?_
                                refine aw_goto (tgt := 65) cx dX7_standsIn_273 (by decide) ?_
                                refine aw_sub [3, 4, 5, 2, 0] rfl ?_
                                refine ih65q _ _ _  ?i_k0 ?i_kf ?i_ks ?i_kr ?i_ko ?i_m
                                case i_k0 =>
                                  omega
                                case i_kf =>
                                  exact (pf.put hM_219q (by decide)).put hM_269q (by decide)
                                case i_ks =>
                                  rw [show z270q - 1 = x4q by omega]; exact hsum
                                case i_kr =>
                                  intro k hk
                                  by_cases hq : k = x4q.toNat
                                  · subst hq
                                    refine SEQ_mk (i := z78q.toNat) k0.1 (by omega) ?_ ?_ ?_
                                    · rw [hM_269q, up_off (by decide), hM_219q, up_off (by decide)]; exact hw
                                    · rw [hM_269q, up_off (by decide), up_eq hM_219q]; rw [STD_gt hcb (by omega) (by omega)]; omega
                                    · rw [up_eq hM_269q]; rw [STD_gt hcb (by omega) (by omega)]; first | exact (RNK_a (by omega)).symm | exact (RNK_b (by omega)).symm | exact (RNK_d (by omega)).symm | exact (RNK_e (by omega)).symm
                                  · exact SEQ_k (kr k (by omega)) (by rw [up_ne hM_269q (by omega), up_ne hM_219q (by omega), po _ _ (by omega)]) (by rw [up_ne hM_269q (by omega), up_ne hM_219q (by omega), po _ _ (by omega)]) (by rw [up_ne hM_269q (by omega), up_ne hM_219q (by omega), po _ _ (by omega)])
                                case i_ko =>
                                  intro j hj
                                  have q := ko j hj
                                  exact ⟨by rw [up_ne hM_269q (by omega), up_ne hM_219q (by omega), po _ _ (by omega)]; exact q.1, by rw [up_ne hM_269q (by omega), up_ne hM_219q (by omega), po _ _ (by omega)]; exact q.2.1, by rw [up_ne hM_269q (by omega), up_ne hM_219q (by omega), po _ _ (by omega)]; exact q.2.2⟩
                                case i_m =>
                                  omega
                              · exact absurd c261q (by decide)
                            · exact absurd c245q (by decide)
                          · exfalso
                            omega
                        · refine aw_iload cx dX7_standsIn_212 0 rfl ?_
                          refine aw_goto (tgt := 219) cx dX7_standsIn_214 (by decide) ?_
                          refine aw_iast cx dX7_standsIn_219 (lb_52 tl) (⟨by omega, by omega⟩) (⟨by omega, by omega⟩) ?_
                          obtain ⟨M_219q, hM_219q⟩ : ∃ qm, qm = up N92q (52) (Int.toNat (z78q)) (z186q) := ⟨_, rfl⟩
                          rw [← hM_219q]
                          refine aw_aload_n cx dX7_standsIn_220 rfl 2 rfl ?_
                          refine aw_getR (q := 53) cx dX7_standsIn_221 fl_X7_70 (lb_32 tl) rfl rfl ?_
                          refine aw_iload cx dX7_standsIn_224 6 rfl ?_
                          refine aw_iload cx dX7_standsIn_226 5 rfl ?_
                          refine aw_iload_n cx dX7_standsIn_228 rfl 4 rfl ?_
                          refine aw_icmp_ge (tgt := 236) cx dX7_standsIn_229 (by decide) (fun c229q => ?_) (fun c229q => ?_)
                          · refine aw_aload_n cx dX7_standsIn_236 rfl 2 rfl ?_
                            refine aw_getR (q := 52) cx dX7_standsIn_237 fl_X7_67 (lb_32 tl) rfl rfl ?_
                            refine aw_iload cx dX7_standsIn_240 6 rfl ?_
                            refine aw_iald cx dX7_standsIn_242 (lb_52 tl) (⟨by omega, by omega⟩) (fun z242q hz242q lo_z242q hi_z242q => ?_)
                            have hlz242 : z242q = z186q := by rw [hz242q]; exact up_eq hM_219q
                            refine aw_bipush (n := 6) cx dX7_standsIn_243 (by decide) ?_
                            refine aw_icmp_ge (tgt := 252) cx dX7_standsIn_245 (by decide) (fun c245q => ?_) (fun c245q => ?_)
                            · refine aw_aload_n cx dX7_standsIn_252 rfl 2 rfl ?_
                              refine aw_getR (q := 52) cx dX7_standsIn_253 fl_X7_67 (lb_32 tl) rfl rfl ?_
                              refine aw_iload cx dX7_standsIn_256 6 rfl ?_
                              refine aw_iald cx dX7_standsIn_258 (lb_52 tl) (⟨by omega, by omega⟩) (fun z258q hz258q lo_z258q hi_z258q => ?_)
                              have hlz258 : z258q = z186q := by rw [hz258q]; exact up_eq hM_219q
                              refine aw_bipush (n := 15) cx dX7_standsIn_259 (by decide) ?_
                              refine aw_icmp_ge (tgt := 268) cx dX7_standsIn_261 (by decide) (fun c261q => ?_) (fun c261q => ?_)
                              · refine aw_iconst (n := 3) cx dX7_standsIn_268 (by decide) ?_
                                refine aw_iast cx dX7_standsIn_269 (lb_53 tl) (⟨by omega, by omega⟩) (⟨by omega, by omega⟩) ?_
                                obtain ⟨M_269q, hM_269q⟩ : ∃ qm, qm = up M_219q (53) (Int.toNat (z78q)) (3) := ⟨_, rfl⟩
                                rw [← hM_269q]
                                refine aw_iinc cx dX7_standsIn_270 5 rfl (by decide) (by omega) (fun z270q hz270q => ?_)
                                refine aw_loc (loc2 := [(4, aI z270q), (6, aI z186q), (3, aI z179q), (0, aR 32), (1, aI town), (2, aI x2q), (5, aI z78q)]) rfl ?_
                                refine aw_goto (tgt := 65) cx dX7_standsIn_273 (by decide) ?_
                                refine aw_sub [3, 4, 5, 2, 0] rfl ?_
                                refine ih65q _ _ _  ?i_k0 ?i_kf ?i_ks ?i_kr ?i_ko ?i_m
                                case i_k0 =>
                                  omega
                                case i_kf =>
                                  exact (pf.put hM_219q (by decide)).put hM_269q (by decide)
                                case i_ks =>
                                  rw [show z270q - 1 = x4q by omega]; exact hsum
                                case i_kr =>
                                  intro k hk
                                  by_cases hq : k = x4q.toNat
                                  · subst hq
                                    refine SEQ_mk (i := z78q.toNat) k0.1 (by omega) ?_ ?_ ?_
                                    · rw [hM_269q, up_off (by decide), hM_219q, up_off (by decide)]; exact hw
                                    · rw [hM_269q, up_off (by decide), up_eq hM_219q]; rw [STD_gt hcb (by omega) (by omega)]; omega
                                    · rw [up_eq hM_269q]; rw [STD_gt hcb (by omega) (by omega)]; first | exact (RNK_a (by omega)).symm | exact (RNK_b (by omega)).symm | exact (RNK_d (by omega)).symm | exact (RNK_e (by omega)).symm
                                  · exact SEQ_k (kr k (by omega)) (by rw [up_ne hM_269q (by omega), up_ne hM_219q (by omega), po _ _ (by omega)]) (by rw [up_ne hM_269q (by omega), up_ne hM_219q (by omega), po _ _ (by omega)]) (by rw [up_ne hM_269q (by omega), up_ne hM_219q (by omega), po _ _ (by omega)])
                                case i_ko =>
                                  intro j hj
                                  have q := ko j hj
                                  exact ⟨by rw [up_ne hM_269q (by omega), up_ne hM_219q (by omega), po _ _ (by omega)]; exact q.1, by rw [up_ne hM_269q (by omega), up_ne hM_219q (by omega), po _ _ (by omega)]; exact q.2.1, by rw [up_ne hM_269q (by omega), up_ne hM_219q (by omega), po _ _ (by omega)]; exact q.2.2⟩
                                case i_m =>
                                  omega
                              · refine aw_iconst (n := 2) cx dX7_standsIn_264 (by decide) ?_
                                refine aw_goto (tgt := 269) cx dX7_standsIn_265 (by decide) ?_
                                refine aw_iast cx dX7_standsIn_269 (lb_53 tl) (⟨by omega, by omega⟩) (⟨by omega, by omega⟩) ?_
                                obtain ⟨M_269q, hM_269q⟩ : ∃ qm, qm = up M_219q (53) (Int.toNat (z78q)) (2) := ⟨_, rfl⟩
                                rw [← hM_269q]
                                refine aw_iinc cx dX7_standsIn_270 5 rfl (by decide) (by omega) (fun z270q hz270q => ?_)
                                refine aw_loc (loc2 := [(4, aI z270q), (6, aI z186q), (3, aI z179q), (0, aR 32), (1, aI town), (2, aI x2q), (5, aI z78q)]) rfl ?_
                                refine aw_goto (tgt := 65) cx dX7_standsIn_273 (by decide) ?_
                                refine aw_sub [3, 4, 5, 2, 0] rfl ?_
                                refine ih65q _ _ _  ?i_k0 ?i_kf ?i_ks ?i_kr ?i_ko ?i_m
                                case i_k0 =>
                                  omega
                                case i_kf =>
                                  exact (pf.put hM_219q (by decide)).put hM_269q (by decide)
                                case i_ks =>
                                  rw [show z270q - 1 = x4q by omega]; exact hsum
                                case i_kr =>
                                  intro k hk
                                  by_cases hq : k = x4q.toNat
                                  · subst hq
                                    refine SEQ_mk (i := z78q.toNat) k0.1 (by omega) ?_ ?_ ?_
                                    · rw [hM_269q, up_off (by decide), hM_219q, up_off (by decide)]; exact hw
                                    · rw [hM_269q, up_off (by decide), up_eq hM_219q]; rw [STD_gt hcb (by omega) (by omega)]; omega
                                    · rw [up_eq hM_269q]; rw [STD_gt hcb (by omega) (by omega)]; first | exact (RNK_a (by omega)).symm | exact (RNK_b (by omega)).symm | exact (RNK_d (by omega)).symm | exact (RNK_e (by omega)).symm
                                  · exact SEQ_k (kr k (by omega)) (by rw [up_ne hM_269q (by omega), up_ne hM_219q (by omega), po _ _ (by omega)]) (by rw [up_ne hM_269q (by omega), up_ne hM_219q (by omega), po _ _ (by omega)]) (by rw [up_ne hM_269q (by omega), up_ne hM_219q (by omega), po _ _ (by omega)])
                                case i_ko =>
                                  intro j hj
                                  have q := ko j hj
                                  exact ⟨by rw [up_ne hM_269q (by omega), up_ne hM_219q (by omega), po _ _ (by omega)]; exact q.1, by rw [up_ne hM_269q (by omega), up_ne hM_219q (by omega), po _ _ (by omega)]; exact q.2.1, by rw [up_ne hM_269q (by omega), up_ne hM_219q (by omega), po _ _ (by omega)]; exact q.2.2⟩
                                case i_m =>
                                  omega
                            · refine aw_iconst (n := 1) cx dX7_standsIn_248 (by decide) ?_
                              refine aw_goto (tgt := 269) cx dX7_standsIn_249 (by decide) ?_
                              refine aw_iast cx dX7_standsIn_269 (lb_53 tl) (⟨by omega, by omega⟩) (⟨by omega, by omega⟩) ?_
                              obtain ⟨M_269q, hM_269q⟩ : ∃ qm, qm = up M_219q (53) (Int.toNat (z78q)) (1) := ⟨_, rfl⟩
                              rw [← hM_269q]
                              refine aw_iinc cx dX7_standsIn_270 5 rfl (by decide) (by omega) (fun z270q hz270q => ?_)
                              refine aw_loc (loc2 := [(4, aI z270q), (6, aI z186q), (3, aI z179q), (0, aR 32), (1, aI town), (2, aI x2q), (5, aI z78q)]) rfl ?_
                              refine aw_goto (tgt := 65) cx dX7_standsIn_273 (by decide) ?_
                              refine aw_sub [3, 4, 5, 2, 0] rfl ?_
                              refine ih65q _ _ _  ?i_k0 ?i_kf ?i_ks ?i_kr ?i_ko ?i_m
                              case i_k0 =>
                                omega
                              case i_kf =>
                                exact (pf.put hM_219q (by decide)).put hM_269q (by decide)
                              case i_ks =>
                                rw [show z270q - 1 = x4q by omega]; exact hsum
                              case i_kr =>
                                intro k hk
                                by_cases hq : k = x4q.toNat
                                · subst hq
                                  refine SEQ_mk (i := z78q.toNat) k0.1 (by omega) ?_ ?_ ?_
                                  · rw [hM_269q, up_off (by decide), hM_219q, up_off (by decide)]; exact hw
                                  · rw [hM_269q, up_off (by decide), up_eq hM_219q]; rw [STD_gt hcb (by omega) (by omega)]; omega
                                  · rw [up_eq hM_269q]; rw [STD_gt hcb (by omega) (by omega)]; first | exact (RNK_a (by omega)).symm | exact (RNK_b (by omega)).symm | exact (RNK_d (by omega)).symm | exact (RNK_e (by omega)).symm
                                · exact SEQ_k (kr k (by omega)) (by rw [up_ne hM_269q (by omega), up_ne hM_219q (by omega), po _ _ (by omega)]) (by rw [up_ne hM_269q (by omega), up_ne hM_219q (by omega), po _ _ (by omega)]) (by rw [up_ne hM_269q (by omega), up_ne hM_219q (by omega), po _ _ (by omega)])
                              case i_ko =>
                                intro j hj
                                have q := ko j hj
                                exact ⟨by rw [up_ne hM_269q (by omega), up_ne hM_219q (by omega), po _ _ (by omega)]; exact q.1, by rw [up_ne hM_269q (by omega), up_ne hM_219q (by omega), po _ _ (by omega)]; exact q.2.1, by rw [up_ne hM_269q (by omega), up_ne hM_219q (by omega), po _ _ (by omega)]; exact q.2.2⟩
                              case i_m =>
                                omega
                          · exfalso
                            omega
                      · exfalso
                        omega
                  · refine aw_aload_n cx dX7_standsIn_101 rfl 0 rfl ?_
                    refine aw_getR (q := 51) cx dX7_standsIn_102 fl_X7_64 (lb_32 tl) rfl rfl ?_
                    refine aw_iload cx dX7_standsIn_105 5 rfl ?_
                    refine aw_dup2 cx dX7_standsIn_107 rfl rfl ?_
                    refine aw_iald cx dX7_standsIn_108 (lb_51 tl) (⟨by omega, by omega⟩) (fun z108q hz108q lo_z108q hi_z108q => ?_)
                    refine aw_aload_n cx dX7_standsIn_109 rfl 0 rfl ?_
                    refine aw_getR (q := 45) cx dX7_standsIn_110 fl_X7_46 (lb_32 tl) rfl rfl ?_
                    refine aw_iload cx dX7_standsIn_113 6 rfl ?_
                    refine aw_iald cx dX7_standsIn_115 (lb_45 tl) (⟨by omega, by omega⟩) (fun z115q hz115q lo_z115q hi_z115q => ?_)
                    refine aw_iload_n cx dX7_standsIn_116 rfl 1 rfl ?_
                    refine aw_icmp_ne (tgt := 142) cx dX7_standsIn_117 (by decide) (fun c117q => ?_) (fun c117q => ?_)
                    · refine aw_iconst (n := 0) cx dX7_standsIn_142 (by decide) ?_
                      refine aw_iadd cx dX7_standsIn_143 (by omega) (fun z143q hz143q => ?_)
                      refine aw_iast cx dX7_standsIn_144 (lb_51 tl) (⟨by omega, by omega⟩) (⟨by omega, by omega⟩) ?_
                      obtain ⟨M_144q, hM_144q⟩ : ∃ qm, qm = up N92q (51) (Int.toNat (z78q)) (z143q) := ⟨_, rfl⟩
                      rw [← hM_144q]
                      refine aw_iinc cx dX7_standsIn_145 6 rfl (by decide) (by omega) (fun z145q hz145q => ?_)
                      refine aw_loc (loc2 := [(6, aI z145q), (0, aR 32), (1, aI town), (2, aI x2q), (3, aI x3q), (4, aI x4q), (5, aI z78q)]) rfl ?_
                      refine aw_goto (tgt := 92) cx dX7_standsIn_148 (by decide) ?_
                      refine aw_sub [1, 2, 3, 4, 5, 6, 0] rfl ?_
                      refine ih92q _ _  ?i_p0 ?i_pf ?i_pv ?i_pb ?i_po ?i_m
                      case i_p0 =>
                        omega
                      case i_pf =>
                        exact pf.put hM_144q (by decide)
                      case i_pv =>
                        rw [up_eq hM_144q, hz145q, sm_i p0.1, ← pv]; first | (rw [if_pos (by omega)]; omega) | (rw [if_neg (by omega)]; omega)
                      case i_pb =>
                        rw [up_eq hM_144q]; omega
                      case i_po =>
                        intro a j hj; rw [up_ne hM_144q hj]; exact po a j hj
                      case i_m =>
                        omega
                    · refine aw_aload_n cx dX7_standsIn_120 rfl 0 rfl ?_
                      refine aw_getR (q := 44) cx dX7_standsIn_121 fl_X7_43 (lb_32 tl) rfl rfl ?_
                      refine aw_iload cx dX7_standsIn_124 6 rfl ?_
                      refine aw_iald cx dX7_standsIn_126 (lb_44 tl) (⟨by omega, by omega⟩) (fun z126q hz126q lo_z126q hi_z126q => ?_)
                      refine aw_iload cx dX7_standsIn_127 4 rfl ?_
                      refine aw_icmp_ne (tgt := 142) cx dX7_standsIn_129 (by decide) (fun c129q => ?_) (fun c129q => ?_)
                      · refine aw_iconst (n := 0) cx dX7_standsIn_142 (by decide) ?_
                        refine aw_iadd cx dX7_standsIn_143 (by omega) (fun z143q hz143q => ?_)
                        refine aw_iast cx dX7_standsIn_144 (lb_51 tl) (⟨by omega, by omega⟩) (⟨by omega, by omega⟩) ?_
                        obtain ⟨M_144q, hM_144q⟩ : ∃ qm, qm = up N92q (51) (Int.toNat (z78q)) (z143q) := ⟨_, rfl⟩
                        rw [← hM_144q]
                        refine aw_iinc cx dX7_standsIn_145 6 rfl (by decide) (by omega) (fun z145q hz145q => ?_)
                        refine aw_loc (loc2 := [(6, aI z145q), (0, aR 32), (1, aI town), (2, aI x2q), (3, aI x3q), (4, aI x4q), (5, aI z78q)]) rfl ?_
                        refine aw_goto (tgt := 92) cx dX7_standsIn_148 (by decide) ?_
                        refine aw_sub [1, 2, 3, 4, 5, 6, 0] rfl ?_
                        refine ih92q _ _  ?i_p0 ?i_pf ?i_pv ?i_pb ?i_po ?i_m
                        case i_p0 =>
                          omega
                        case i_pf =>
                          exact pf.put hM_144q (by decide)
                        case i_pv =>
                          rw [up_eq hM_144q, hz145q, sm_i p0.1, ← pv]; first | (rw [if_pos (by omega)]; omega) | (rw [if_neg (by omega)]; omega)
                        case i_pb =>
                          rw [up_eq hM_144q]; omega
                        case i_po =>
                          intro a j hj; rw [up_ne hM_144q hj]; exact po a j hj
                        case i_m =>
                          omega
                      · refine aw_aload_n cx dX7_standsIn_132 rfl 0 rfl ?_
                        refine aw_getR (q := 49) cx dX7_standsIn_133 fl_X7_58 (lb_32 tl) rfl rfl ?_
                        refine aw_iload cx dX7_standsIn_136 6 rfl ?_
                        refine aw_iald cx dX7_standsIn_138 (lb_49 tl) (⟨by omega, by omega⟩) (fun z138q hz138q lo_z138q hi_z138q => ?_)
                        refine aw_goto (tgt := 143) cx dX7_standsIn_139 (by decide) ?_
                        refine aw_iadd cx dX7_standsIn_143 (by omega) (fun z143q hz143q => ?_)
                        refine aw_iast cx dX7_standsIn_144 (lb_51 tl) (⟨by omega, by omega⟩) (⟨by omega, by omega⟩) ?_
                        obtain ⟨M_144q, hM_144q⟩ : ∃ qm, qm = up N92q (51) (Int.toNat (z78q)) (z143q) := ⟨_, rfl⟩
                        rw [← hM_144q]
                        refine aw_iinc cx dX7_standsIn_145 6 rfl (by decide) (by omega) (fun z145q hz145q => ?_)
                        refine aw_loc (loc2 := [(6, aI z145q), (0, aR 32), (1, aI town), (2, aI x2q), (3, aI x3q), (4, aI x4q), (5, aI z78q)]) rfl ?_
                        refine aw_goto (tgt := 92) cx dX7_standsIn_148 (by decide) ?_
                        refine aw_sub [1, 2, 3, 4, 5, 6, 0] rfl ?_
                        refine ih92q _ _  ?i_p0 ?i_pf ?i_pv ?i_pb ?i_po ?i_m
                        case i_p0 =>
                          omega
                        case i_pf =>
                          exact pf.put hM_144q (by decide)
                        case i_pv =>
                          rw [up_eq hM_144q, hz145q, sm_i p0.1, ← pv]; first | (rw [if_pos (by omega)]; omega) | (rw [if_neg (by omega)]; omega)
                        case i_pb =>
                          rw [up_eq hM_144q]; omega
                        case i_po =>
                          intro a j hj; rw [up_ne hM_144q hj]; exact po a j hj
                        case i_m =>
                          omega
              refine aw_sub [2, 3, 4, 5, 6, 1, 0] rfl ?_
              refine lp92q _ _ _  ?i_p0 ?i_pf ?i_pv ?i_pb ?i_po (Nat.lt_succ_self _)
              case i_p0 =>
                omega
              case i_pf =>
                exact kf.put hM_88q (by decide)
              case i_pv =>
                rw [up_eq hM_88q]; rfl
              case i_pb =>
                rw [up_eq hM_88q]; omega
              case i_po =>
                intro a j hj; exact up_ne hM_88q hj
        refine aw_sub [2, 3, 4, 1, 0] rfl ?_
        refine lp65q _ _ _ _  ?i_k0 ?i_kf ?i_ks ?i_kr ?i_ko (Nat.lt_succ_self _)
        case i_k0 =>
          omega
        case i_kf =>
          exact FR.rf
        case i_ks =>
          rw [SWT_neg (fun j => by have := hNN j; omega), LET_neg (by omega)]; rfl
        case i_kr =>
          exact all_0
        case i_ko =>
          exact fun j _ => ⟨rfl, rfl, rfl⟩
      · refine aw_aload_n cx dX7_standsIn_13 rfl 0 rfl ?_
        refine aw_getR (q := 48) cx dX7_standsIn_14 fl_X7_55 (lb_32 tl) rfl rfl ?_
        refine aw_iload_n cx dX7_standsIn_17 rfl 3 rfl ?_
        refine aw_iald cx dX7_standsIn_18 (lb_48 tl) (⟨by omega, by omega⟩) (fun z18q hz18q lo_z18q hi_z18q => ?_)
        refine aw_iconst (n := 1) cx dX7_standsIn_19 (by decide) ?_
        refine aw_icmp_ne (tgt := 52) cx dX7_standsIn_20 (by decide) (fun c20q => ?_) (fun c20q => ?_)
        · refine aw_iload_n cx dX7_standsIn_52 rfl 2 rfl ?_
          refine aw_istore_n (loc2 := [(2, aI x2q), (0, aR 32), (1, aI town), (3, aI x3q)]) cx dX7_standsIn_53 rfl (by decide) rfl ?_
          refine aw_iinc cx dX7_standsIn_54 3 rfl (by decide) (by omega) (fun z54q hz54q => ?_)
          refine aw_loc (loc2 := [(3, aI z54q), (2, aI x2q), (0, aR 32), (1, aI town)]) rfl ?_
          refine aw_goto (tgt := 5) cx dX7_standsIn_57 (by decide) ?_
          refine aw_sub [2, 3, 1, 0] rfl ?_
          refine ih5q _ _  ?i_h0 ?i_hr ?i_hc ?i_m
          case i_h0 =>
            omega
          case i_hr =>
            omega
          case i_hc =>
            rw [hz54q]; exact CAM_n h0q.1 (by omega) hc
          case i_m =>
            omega
        · refine aw_aload_n cx dX7_standsIn_23 rfl 0 rfl ?_
          refine aw_getR (q := 45) cx dX7_standsIn_24 fl_X7_46 (lb_32 tl) rfl rfl ?_
          refine aw_iload_n cx dX7_standsIn_27 rfl 3 rfl ?_
          refine aw_iald cx dX7_standsIn_28 (lb_45 tl) (⟨by omega, by omega⟩) (fun z28q hz28q lo_z28q hi_z28q => ?_)
          refine aw_iload_n cx dX7_standsIn_29 rfl 1 rfl ?_
          refine aw_icmp_ne (tgt := 52) cx dX7_standsIn_30 (by decide) (fun c30q => ?_) (fun c30q => ?_)
          · refine aw_iload_n cx dX7_standsIn_52 rfl 2 rfl ?_
            refine aw_istore_n (loc2 := [(2, aI x2q), (0, aR 32), (1, aI town), (3, aI x3q)]) cx dX7_standsIn_53 rfl (by decide) rfl ?_
            refine aw_iinc cx dX7_standsIn_54 3 rfl (by decide) (by omega) (fun z54q hz54q => ?_)
            refine aw_loc (loc2 := [(3, aI z54q), (2, aI x2q), (0, aR 32), (1, aI town)]) rfl ?_
            refine aw_goto (tgt := 5) cx dX7_standsIn_57 (by decide) ?_
            refine aw_sub [2, 3, 1, 0] rfl ?_
            refine ih5q _ _  ?i_h0 ?i_hr ?i_hc ?i_m
            case i_h0 =>
              omega
            case i_hr =>
              omega
            case i_hc =>
              rw [hz54q]; exact CAM_n h0q.1 (by omega) hc
            case i_m =>
              omega
          · refine aw_aload_n cx dX7_standsIn_33 rfl 0 rfl ?_
            refine aw_getR (q := 44) cx dX7_standsIn_34 fl_X7_43 (lb_32 tl) rfl rfl ?_
            refine aw_iload_n cx dX7_standsIn_37 rfl 3 rfl ?_
            refine aw_iald cx dX7_standsIn_38 (lb_44 tl) (⟨by omega, by omega⟩) (fun z38q hz38q lo_z38q hi_z38q => ?_)
            refine aw_iload_n cx dX7_standsIn_39 rfl 2 rfl ?_
            refine aw_icmp_ge (tgt := 52) cx dX7_standsIn_40 (by decide) (fun c40q => ?_) (fun c40q => ?_)
            · refine aw_iload_n cx dX7_standsIn_52 rfl 2 rfl ?_
              refine aw_istore_n (loc2 := [(2, aI x2q), (0, aR 32), (1, aI town), (3, aI x3q)]) cx dX7_standsIn_53 rfl (by decide) rfl ?_
              refine aw_iinc cx dX7_standsIn_54 3 rfl (by decide) (by omega) (fun z54q hz54q => ?_)
              refine aw_loc (loc2 := [(3, aI z54q), (2, aI x2q), (0, aR 32), (1, aI town)]) rfl ?_
              refine aw_goto (tgt := 5) cx dX7_standsIn_57 (by decide) ?_
              refine aw_sub [2, 3, 1, 0] rfl ?_
              refine ih5q _ _  ?i_h0 ?i_hr ?i_hc ?i_m
              case i_h0 =>
                omega
              case i_hr =>
                omega
              case i_hc =>
                rw [hz54q]; exact CAM_k h0q.1 (by omega) (by omega) hNN (by omega) hc
              case i_m =>
                omega
            · refine aw_aload_n cx dX7_standsIn_43 rfl 0 rfl ?_
              refine aw_getR (q := 44) cx dX7_standsIn_44 fl_X7_43 (lb_32 tl) rfl rfl ?_
              refine aw_iload_n cx dX7_standsIn_47 rfl 3 rfl ?_
              refine aw_iald cx dX7_standsIn_48 (lb_44 tl) (⟨by omega, by omega⟩) (fun z48q hz48q lo_z48q hi_z48q => ?_)
              refine aw_goto (tgt := 53) cx dX7_standsIn_49 (by decide) ?_
              refine aw_istore_n (loc2 := [(2, aI z48q), (0, aR 32), (1, aI town), (3, aI x3q)]) cx dX7_standsIn_53 rfl (by decide) rfl ?_
              refine aw_iinc cx dX7_standsIn_54 3 rfl (by decide) (by omega) (fun z54q hz54q => ?_)
              refine aw_loc (loc2 := [(3, aI z54q), (2, aI z48q), (0, aR 32), (1, aI town)]) rfl ?_
              refine aw_goto (tgt := 5) cx dX7_standsIn_57 (by decide) ?_
              refine aw_sub [2, 3, 1, 0] rfl ?_
              refine ih5q _ _  ?i_h0 ?i_hr ?i_hc ?i_m
              case i_h0 =>
                omega
              case i_hr =>
                omega
              case i_hc =>
                rw [hz54q, hz48q]; exact CAM_y h0q.1 (by omega) (by omega) hNN (by omega) hc
              case i_m =>
                omega
  refine aw_sub [2, 3, 1, 0] rfl ?_
  refine lp5q _ _ _  ?i_h0 ?i_hr ?i_hc (Nat.lt_succ_self _)
  case i_h0 =>
    omega
  case i_hr =>
    omega
  case i_hc =>
    exact CAM_0
set_option maxHeartbeats 1000000 in
set_option maxRecDepth 100000 in
theorem ct_X7_bestTown (tl : List CD) (M : Mem) (c : Int) (hc : 0 ≤ c ∧ c < 9) : Ct 0 mX7_bestTown (LB ++ tl) [aR 32, aI c] M (fun r M1 => M = M1 ∧ ∃ x, r = some (aI x) ∧ 0 ≤ x ∧ x ≤ 7 ∧ ∃ y, AMX (GX (M 40 c.toNat) (fun t => M 51 (24 * t + (M 39 c.toNat).toNat) * M 53 (24 * t + (M 39 c.toNat).toNat))) (-1) 8 x y) := by
  refine Ct.of (own := RX7) rfl (by decide +kernel) (Nat.le_of_ble_eq_true rfl) (fun X cx rt => ?_)
  refine aw_eq (loc2 := [(0, aR 32), (1, aI c)]) ?_ rfl rfl rfl rfl
  refine aw_rngL 1 rfl (fun rl_c rh_c => ?_)
  refine aw_ok (fun om => ?_)
  have hff : ∀ t : Nat, 0 ≤ (fun t => M 51 (24 * t + (M 39 c.toNat).toNat) * M 53 (24 * t + (M 39 c.toNat).toNat)) t := fun t => (mulb (okA om (lb_51 tl) _) (okA om (lb_53 tl) _)).1
  refine aw_aload_n cx dX7_bestTown_0 rfl 0 rfl ?_
  refine aw_getR (q := 39) cx dX7_bestTown_1 fl_X7_28 (lb_32 tl) rfl rfl ?_
  refine aw_iload_n cx dX7_bestTown_4 rfl 1 rfl ?_
  refine aw_iald cx dX7_bestTown_5 (lb_39 tl) (⟨by omega, by omega⟩) (fun z5q hz5q lo_z5q hi_z5q => ?_)
  refine aw_istore_n (loc2 := [(2, aI z5q), (0, aR 32), (1, aI c)]) cx dX7_bestTown_6 rfl (by decide) rfl ?_
  refine aw_iconst (n := (-1)) cx dX7_bestTown_7 (by decide) ?_
  refine aw_istore_n (loc2 := [(3, aI ((-1))), (2, aI z5q), (0, aR 32), (1, aI c)]) cx dX7_bestTown_8 rfl (by decide) rfl ?_
  refine aw_iconst (n := (-1)) cx dX7_bestTown_9 (by decide) ?_
  refine aw_istore (loc2 := [(4, aI ((-1))), (3, aI ((-1))), (2, aI z5q), (0, aR 32), (1, aI c)]) cx dX7_bestTown_10 (by decide) rfl ?_
  refine aw_iconst (n := 0) cx dX7_bestTown_12 (by decide) ?_
  refine aw_istore (loc2 := [(5, aI 0), (4, aI ((-1))), (3, aI ((-1))), (2, aI z5q), (0, aR 32), (1, aI c)]) cx dX7_bestTown_13 (by decide) rfl ?_
  have lp15q : ∀ (fu : Nat) (x3q : Int) (x4q : Int) (x5q : Int), (0 ≤ x5q ∧ x5q ≤ 8) → (AMX (GX (M 40 c.toNat) (fun t => M 51 (24 * t + (M 39 c.toNat).toNat) * M 53 (24 * t + (M 39 c.toNat).toNat))) (-1) x5q.toNat x3q x4q) → ((8 - x5q).toNat) < fu → AW X (LB ++ tl) 7 15 [(0, aR 32), (1, aI c), (2, aI z5q), (3, aI x3q), (4, aI x4q), (5, aI x5q)] [] M := by
    intro fu
    induction fu with
    | zero =>
      intro x3q x4q x5q h0q hx hm
      exact absurd hm (Nat.not_lt_zero _)
    | succ fu ih15q =>
      intro x3q x4q x5q h0q hx hm
      have hge := AMX_ge hx
      refine aw_iload cx dX7_bestTown_15 5 rfl ?_
      refine aw_bipush (n := 8) cx dX7_bestTown_17 (by decide) ?_
      refine aw_icmp_ge (tgt := 80) cx dX7_bestTown_19 (by decide) (fun c19q => ?_) (fun c19q => ?_)
      · refine aw_iload_n cx dX7_bestTown_80 rfl 3 rfl ?_
        refine aw_iret cx rt dX7_bestTown_81 ?_
        rw [show x5q.toNat = 8 by omega] at hx
        have q := AMX_8 hff hx
        exact ⟨rfl, x3q, rfl, by omega, by omega, x4q, hx⟩
      · refine aw_aload_n cx dX7_bestTown_22 rfl 0 rfl ?_
        refine aw_getR (q := 51) cx dX7_bestTown_23 fl_X7_64 (lb_32 tl) rfl rfl ?_
        refine aw_bipush (n := 24) cx dX7_bestTown_26 (by decide) ?_
        refine aw_iload cx dX7_bestTown_28 5 rfl ?_
        refine aw_imul cx dX7_bestTown_30 (by omega) (fun z30q hz30q => ?_)
        refine aw_iload_n cx dX7_bestTown_31 rfl 2 rfl ?_
        refine aw_iadd cx dX7_bestTown_32 (by omega) (fun z32q hz32q => ?_)
        refine aw_iald cx dX7_bestTown_33 (lb_51 tl) (⟨by omega, by omega⟩) (fun z33q hz33q lo_z33q hi_z33q => ?_)
        refine aw_aload_n cx dX7_bestTown_34 rfl 0 rfl ?_
        refine aw_getR (q := 53) cx dX7_bestTown_35 fl_X7_70 (lb_32 tl) rfl rfl ?_
        refine aw_bipush (n := 24) cx dX7_bestTown_38 (by decide) ?_
        refine aw_iload cx dX7_bestTown_40 5 rfl ?_
        refine aw_imul cx dX7_bestTown_42 (by omega) (fun z42q hz42q => ?_)
        refine aw_iload_n cx dX7_bestTown_43 rfl 2 rfl ?_
        refine aw_iadd cx dX7_bestTown_44 (by omega) (fun z44q hz44q => ?_)
        refine aw_iald cx dX7_bestTown_45 (lb_53 tl) (⟨by omega, by omega⟩) (fun z45q hz45q lo_z45q hi_z45q => ?_)
        refine aw_imul cx dX7_bestTown_46 (by have q := mulb ⟨lo_z33q, hi_z33q⟩ ⟨lo_z45q, hi_z45q⟩; omega) (fun z46q hz46q => ?_)
        have hby : z46q = (fun t => M 51 (24 * t + (M 39 c.toNat).toNat) * M 53 (24 * t + (M 39 c.toNat).toNat)) x5q.toNat := by show z46q = M 51 (24 * x5q.toNat + (M 39 c.toNat).toNat) * M 53 (24 * x5q.toNat + (M 39 c.toNat).toNat); rw [hz46q, hz33q, hz45q, show z32q.toNat = 24 * x5q.toNat + (M 39 c.toNat).toNat by omega, show z44q.toNat = 24 * x5q.toNat + (M 39 c.toNat).toNat by omega]
        refine aw_istore (loc2 := [(6, aI z46q), (0, aR 32), (1, aI c), (2, aI z5q), (3, aI x3q), (4, aI x4q), (5, aI x5q)]) cx dX7_bestTown_47 (by decide) rfl ?_
        refine aw_iload cx dX7_bestTown_49 6 rfl ?_
        refine aw_aload_n cx dX7_bestTown_51 rfl 1 rfl ?_
        refine aw_getR (q := 40) cx dX7_bestTown_52 fl_X7_31 (lb_32 tl) rfl rfl ?_
        refine aw_iload_n cx dX7_bestTown_55 rfl 2 rfl ?_
        refine aw_iald cx dX7_bestTown_56 (lb_40 tl) (⟨by omega, by omega⟩) (fun z56q hz56q lo_z56q hi_z56q => ?_)
        refine aw_icmp_eq (tgt := 74) cx dX7_bestTown_57 (by decide) (fun c57q => ?_) (fun c57q => ?_)
        · refine aw_iinc cx dX7_bestTown_74 6 rfl (by decide) (by omega) (fun z74q hz74q => ?_)
          refine aw_loc (loc2 := [(5, aI z74q), (6, aI z46q), (0, aR 32), (1, aI c), (2, aI z5q), (3, aI x3q), (4, aI x4q)]) rfl ?_
          refine aw_goto (tgt := 15) cx dX7_bestTown_77 (by decide) ?_
          refine aw_sub [2, 3, 4, 5, 6, 0] rfl ?_
          refine ih15q _ _ _  ?i_h0 ?i_hx ?i_m
          case i_h0 =>
            omega
          case i_hx =>
            rw [hz74q]; exact AMX_no h0q.1 hx (by rw [GX_own h0q.1 (by omega)]; exact hge)
          case i_m =>
            omega
        · refine aw_iload cx dX7_bestTown_60 0 rfl ?_
          refine aw_iload cx dX7_bestTown_62 5 rfl ?_
          refine aw_icmp_le (tgt := 74) cx dX7_bestTown_64 (by decide) (fun c64q => ?_) (fun c64q => ?_)
          · refine aw_iinc cx dX7_bestTown_74 6 rfl (by decide) (by omega) (fun z74q hz74q => ?_)
            refine aw_loc (loc2 := [(5, aI z74q), (6, aI z46q), (0, aR 32), (1, aI c), (2, aI z5q), (3, aI x3q), (4, aI x4q)]) rfl ?_
            refine aw_goto (tgt := 15) cx dX7_bestTown_77 (by decide) ?_
            refine aw_sub [2, 3, 4, 5, 6, 0] rfl ?_
            refine ih15q _ _ _  ?i_h0 ?i_hx ?i_m
            case i_h0 =>
              omega
            case i_hx =>
              have g : GX (M 40 c.toNat) (fun t => M 51 (24 * t + (M 39 c.toNat).toNat) * M 53 (24 * t + (M 39 c.toNat).toNat)) x5q.toNat = z46q := (GX_ne h0q.1 (by omega)).trans hby.symm
              rw [hz74q]; exact AMX_no h0q.1 hx (by rw [g]; omega)
            case i_m =>
              omega
          · refine aw_iload cx dX7_bestTown_67 6 rfl ?_
            refine aw_istore_n (loc2 := [(3, aI x5q), (6, aI z46q), (0, aR 32), (1, aI c), (2, aI z5q), (4, aI x4q), (5, aI x5q)]) cx dX7_bestTown_69 rfl (by decide) rfl ?_
            refine aw_iload cx dX7_bestTown_70 1 rfl ?_
            refine aw_istore (loc2 := [(4, aI z46q), (3, aI x5q), (6, aI z46q), (0, aR 32), (1, aI c), (2, aI z5q), (5, aI x5q)]) cx dX7_bestTown_72 (by decide) rfl ?_
            refine aw_iinc cx dX7_bestTown_74 6 rfl (by decide) (by omega) (fun z74q hz74q => ?_)
            refine aw_loc (loc2 := [(5, aI z74q), (4, aI z46q), (3, aI x5q), (6, aI z46q), (0, aR 32), (1, aI c), (2, aI z5q)]) rfl ?_
            refine aw_goto (tgt := 15) cx dX7_bestTown_77 (by decide) ?_
            refine aw_sub [4, 5, 6, 2, 1, 0] rfl ?_
            refine ih15q _ _ _  ?i_h0 ?i_hx ?i_m
            case i_h0 =>
              omega
            case i_hx =>
              have g : GX (M 40 c.toNat) (fun t => M 51 (24 * t + (M 39 c.toNat).toNat) * M 53 (24 * t + (M 39 c.toNat).toNat)) x5q.toNat = z46q := (GX_ne h0q.1 (by omega)).trans hby.symm
              rw [hz74q, ← g]; exact AMX_up h0q.1 hx (by rw [g]; omega)
            case i_m =>
              omega
  refine aw_sub [4, 5, 3, 2, 1, 0] rfl ?_
  refine lp15q _ _ _ _  ?i_h0 ?i_hx (Nat.lt_succ_self _)
  case i_h0 =>
    omega
  case i_hx =>
    exact AMX_0 _ _
set_option maxHeartbeats 1000000 in
set_option maxRecDepth 100000 in
theorem ct_X7_beliefNow (tl : List CD) (M : Mem) (c : Int) (hc : 0 ≤ c ∧ c < 9) : Ct 1 mX7_beliefNow (LB ++ tl) [aR 32, aI c] M (fun r M1 => M = M1 ∧ r = some (aI (MXO (fun t => M 51 (24 * t + (M 39 c.toNat).toNat) * M 53 (24 * t + (M 39 c.toNat).toNat)) (M 40 c.toNat) 8 - M 51 (24 * (M 40 c.toNat).toNat + (M 39 c.toNat).toNat)))) := by
  refine Ct.of (own := RX7) rfl (by decide +kernel) (Nat.le_of_ble_eq_true rfl) (fun X cx rt => ?_)
  refine aw_eq (loc2 := [(0, aR 32), (1, aI c)]) ?_ rfl rfl rfl rfl
  refine aw_rngL 1 rfl (fun rl_c rh_c => ?_)
  refine aw_ok (fun om => ?_)
  have hff : ∀ t : Nat, 0 ≤ (fun t => M 51 (24 * t + (M 39 c.toNat).toNat) * M 53 (24 * t + (M 39 c.toNat).toNat)) t := fun t => (mulb (okA om (lb_51 tl) _) (okA om (lb_53 tl) _)).1
  refine aw_aload_n cx dX7_beliefNow_0 rfl 0 rfl ?_
  refine aw_getR (q := 39) cx dX7_beliefNow_1 fl_X7_28 (lb_32 tl) rfl rfl ?_
  refine aw_iload_n cx dX7_beliefNow_4 rfl 1 rfl ?_
  refine aw_iald cx dX7_beliefNow_5 (lb_39 tl) (⟨by omega, by omega⟩) (fun z5q hz5q lo_z5q hi_z5q => ?_)
  refine aw_istore_n (loc2 := [(2, aI z5q), (0, aR 32), (1, aI c)]) cx dX7_beliefNow_6 rfl (by decide) rfl ?_
  refine aw_aload_n cx dX7_beliefNow_7 rfl 1 rfl ?_
  refine aw_iload_n cx dX7_beliefNow_8 rfl 2 rfl ?_
  refine aw_callV (as := [aI c]) (k := 32) (stk := []) cx dX7_beliefNow_9 ml_X7_215 mv_X7_bestTown rfl (lb_32 tl) (by decide) rfl rfl (Nat.le_of_ble_eq_true rfl) (ct_X7_bestTown tl M _ (hc)) (fun rr9q M_9q hp9q => ?_)
  obtain ⟨rfl, z9q, rfl, lo_z9q, hi_z9q, yz9, hbtz9⟩ := hp9q
  refine aw_eq (stk2 := [aI z9q]) ?_ rfl rfl rfl rfl
  have hq9 := AMX_8 hff hbtz9
  refine aw_istore_n (loc2 := [(3, aI z9q), (2, aI z5q), (0, aR 32), (1, aI c)]) cx dX7_beliefNow_12 rfl (by decide) rfl ?_
  refine aw_aload_n cx dX7_beliefNow_13 rfl 2 rfl ?_
  refine aw_getR (q := 51) cx dX7_beliefNow_14 fl_X7_64 (lb_32 tl) rfl rfl ?_
  refine aw_bipush (n := 24) cx dX7_beliefNow_17 (by decide) ?_
  refine aw_iload_n cx dX7_beliefNow_19 rfl 0 rfl ?_
  refine aw_imul cx dX7_beliefNow_20 (by omega) (fun z20q hz20q => ?_)
  refine aw_iload_n cx dX7_beliefNow_21 rfl 1 rfl ?_
  refine aw_iadd cx dX7_beliefNow_22 (by omega) (fun z22q hz22q => ?_)
  refine aw_iald cx dX7_beliefNow_23 (lb_51 tl) (⟨by omega, by omega⟩) (fun z23q hz23q lo_z23q hi_z23q => ?_)
  refine aw_aload_n cx dX7_beliefNow_24 rfl 2 rfl ?_
  refine aw_getR (q := 53) cx dX7_beliefNow_25 fl_X7_70 (lb_32 tl) rfl rfl ?_
  refine aw_bipush (n := 24) cx dX7_beliefNow_28 (by decide) ?_
  refine aw_iload_n cx dX7_beliefNow_30 rfl 0 rfl ?_
  refine aw_imul cx dX7_beliefNow_31 (by omega) (fun z31q hz31q => ?_)
  refine aw_iload_n cx dX7_beliefNow_32 rfl 1 rfl ?_
  refine aw_iadd cx dX7_beliefNow_33 (by omega) (fun z33q hz33q => ?_)
  refine aw_iald cx dX7_beliefNow_34 (lb_53 tl) (⟨by omega, by omega⟩) (fun z34q hz34q lo_z34q hi_z34q => ?_)
  refine aw_imul cx dX7_beliefNow_35 (by have q := mulb ⟨lo_z23q, hi_z23q⟩ ⟨lo_z34q, hi_z34q⟩; omega) (fun z35q hz35q => ?_)
  refine aw_aload_n cx dX7_beliefNow_36 rfl 2 rfl ?_
  refine aw_getR (q := 51) cx dX7_beliefNow_37 fl_X7_64 (lb_32 tl) rfl rfl ?_
  refine aw_bipush (n := 24) cx dX7_beliefNow_40 (by decide) ?_
  refine aw_aload_n cx dX7_beliefNow_42 rfl 2 rfl ?_
  refine aw_getR (q := 40) cx dX7_beliefNow_43 fl_X7_31 (lb_32 tl) rfl rfl ?_
  refine aw_iload_n cx dX7_beliefNow_46 rfl 3 rfl ?_
  refine aw_iald cx dX7_beliefNow_47 (lb_40 tl) (⟨by omega, by omega⟩) (fun z47q hz47q lo_z47q hi_z47q => ?_)
  refine aw_imul cx dX7_beliefNow_48 (by omega) (fun z48q hz48q => ?_)
  refine aw_iload_n cx dX7_beliefNow_49 rfl 1 rfl ?_
  refine aw_iadd cx dX7_beliefNow_50 (by omega) (fun z50q hz50q => ?_)
  refine aw_iald cx dX7_beliefNow_51 (lb_51 tl) (⟨by omega, by omega⟩) (fun z51q hz51q lo_z51q hi_z51q => ?_)
  refine aw_isub cx dX7_beliefNow_52 (by have q := mulb ⟨lo_z23q, hi_z23q⟩ ⟨lo_z34q, hi_z34q⟩; omega) (fun z52q hz52q => ?_)
  refine aw_iret cx rt dX7_beliefNow_53 ?_
  refine ⟨rfl, congrArg (fun q => some (aI q)) ?_⟩
  have e1q : z35q = M 51 (24 * z9q.toNat + (M 39 c.toNat).toNat) * M 53 (24 * z9q.toNat + (M 39 c.toNat).toNat) := by rw [hz35q, hz23q, hz34q, show z22q.toNat = 24 * z9q.toNat + (M 39 c.toNat).toNat by omega, show z33q.toNat = 24 * z9q.toNat + (M 39 c.toNat).toNat by omega]
  have e2q : z51q = M 51 (24 * (M 40 c.toNat).toNat + (M 39 c.toNat).toNat) := by rw [hz51q, show z50q.toNat = 24 * (M 40 c.toNat).toNat + (M 39 c.toNat).toNat by omega]
  rw [hz52q, e2q, ← hq9.2.2.1, hq9.2.2.2, e1q]
