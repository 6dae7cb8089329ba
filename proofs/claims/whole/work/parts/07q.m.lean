set_option maxHeartbeats 1000000 in
set_option maxRecDepth 100000 in
theorem ct_X6_digest (tl : List CD) (M : Mem)  : Ct 7 mX6_digest (LB ++ tl) [aR 0] M (fun r M1 => ∃ x, r = some (aL x) ∧ FR SC M M1 ∧ x = DIG M) := by
  refine Ct.of (own := RX6) rfl (by decide +kernel) (Nat.le_of_ble_eq_true rfl) (fun X cx rt => ?_)
  refine aw_eq (loc2 := [(0, aR 0)]) ?_ rfl rfl rfl rfl
  refine aw_ok (fun om => ?_)
  have hsz : 0 ≤ M 5 4 ∧ M 5 4 ≤ 12 := okF om (lb_5 tl) (j := 4) rfl (show (0 : Nat) ≠ 1 by decide)
  have hcz : 0 ≤ M 15 2 ∧ M 15 2 ≤ 8 := okF om (lb_15 tl) (j := 2) rfl (show (0 : Nat) ≠ 1 by decide)
  refine aw_ldc2 (x := 17) cx dX6_digest_0 kc_X6_266 (by decide +kernel) ?_
  refine aw_lstore_n (loc2 := [(1, aL 17), (0, aR 0)]) cx dX6_digest_3 rfl (by decide) rfl ?_
  refine aw_iconst (n := 0) cx dX6_digest_4 (by decide) ?_
  refine aw_istore_n (loc2 := [(3, aI 0), (1, aL 17), (0, aR 0)]) cx dX6_digest_5 rfl (by decide) rfl ?_
  have lp6q : ∀ (fu : Nat) (x1q : Int) (x3q : Int) (N6q : Mem), (0 ≤ x3q ∧ x3q ≤ 8) → (FR SC M N6q) → (x1q = lpD (dCount M) 17 x3q.toNat) → ((8 - x3q).toNat) < fu → AW X (LB ++ tl) 4 6 [(0, aR 0), (1, aL x1q), (3, aI x3q)] [] N6q := by
    intro fu
    induction fu with
    | zero =>
      intro x1q x3q N6q h0q hf hx1 hm
      exact absurd hm (Nat.not_lt_zero _)
    | succ fu ih6q =>
      intro x1q x3q N6q h0q hf hx1 hm
      refine aw_iload_n cx dX6_digest_6 rfl 2 rfl ?_
      refine aw_bipush (n := 8) cx dX6_digest_7 (by decide) ?_
      refine aw_icmp_ge (tgt := 31) cx dX6_digest_9 (by decide) (fun c9q => ?_) (fun c9q => ?_)
      · refine aw_iconst (n := 0) cx dX6_digest_31 (by decide) ?_
        refine aw_istore_n (loc2 := [(3, aI 0), (0, aR 0), (1, aL x1q)]) cx dX6_digest_32 rfl (by decide) rfl ?_
        have lp33q : ∀ (fu : Nat) (x1q : Int) (x3q : Int), (0 ≤ x3q ∧ x3q ≤ 2) → (x1q = lpD (dFault M) (lpD (dCount M) 17 8) x3q.toNat) → ((2 - x3q).toNat) < fu → AW X (LB ++ tl) 4 33 [(0, aR 0), (1, aL x1q), (3, aI x3q)] [] N6q := by
          intro fu
          induction fu with
          | zero =>
            intro x1q x3q h0q hx2 hm
            exact absurd hm (Nat.not_lt_zero _)
          | succ fu ih33q =>
            intro x1q x3q h0q hx2 hm
            refine aw_iload_n cx dX6_digest_33 rfl 2 rfl ?_
            refine aw_iconst (n := 2) cx dX6_digest_34 (by decide) ?_
            refine aw_icmp_ge (tgt := 57) cx dX6_digest_35 (by decide) (fun c35q => ?_) (fun c35q => ?_)
            · refine aw_iconst (n := 0) cx dX6_digest_57 (by decide) ?_
              refine aw_istore_n (loc2 := [(3, aI 0), (0, aR 0), (1, aL x1q)]) cx dX6_digest_58 rfl (by decide) rfl ?_
              have lp59q : ∀ (fu : Nat) (x1q : Int) (x3q : Int) (N59q : Mem), (0 ≤ x3q ∧ x3q ≤ 8) → (FR SC M N59q) → (x1q = lpF (dMan M) (lpD (dFault M) (lpD (dCount M) 17 8) 2) x3q.toNat) → ((8 - x3q).toNat) < fu → AW X (LB ++ tl) 4 59 [(0, aR 0), (1, aL x1q), (3, aI x3q)] [] N59q := by
                intro fu
                induction fu with
                | zero =>
                  intro x1q x3q N59q h0q hf hx3 hm
                  exact absurd hm (Nat.not_lt_zero _)
                | succ fu ih59q =>
                  intro x1q x3q N59q h0q hf hx3 hm
                  refine aw_iload_n cx dX6_digest_59 rfl 2 rfl ?_
                  refine aw_bipush (n := 8) cx dX6_digest_60 (by decide) ?_
                  refine aw_icmp_ge (tgt := 134) cx dX6_digest_62 (by decide) (fun c62q => ?_) (fun c62q => ?_)
                  · refine aw_iconst (n := 0) cx dX6_digest_134 (by decide) ?_
                    refine aw_istore_n (loc2 := [(3, aI 0), (0, aR 0), (1, aL x1q)]) cx dX6_digest_135 rfl (by decide) rfl ?_
                    have lp136q : ∀ (fu : Nat) (x1q : Int) (x3q : Int) (N136q : Mem), (0 ≤ x3q ∧ x3q ≤ 24) → (FR SC M N136q) → (x1q = lpD (dWhere M) (lpF (dMan M) (lpD (dFault M) (lpD (dCount M) 17 8) 2) 8) x3q.toNat) → ((24 - x3q).toNat) < fu → AW X (LB ++ tl) 4 136 [(0, aR 0), (1, aL x1q), (3, aI x3q)] [] N136q := by
                      intro fu
                      induction fu with
                      | zero =>
                        intro x1q x3q N136q h0q hf hx4 hm
                        exact absurd hm (Nat.not_lt_zero _)
                      | succ fu ih136q =>
                        intro x1q x3q N136q h0q hf hx4 hm
                        refine aw_iload_n cx dX6_digest_136 rfl 2 rfl ?_
                        refine aw_bipush (n := 24) cx dX6_digest_137 (by decide) ?_
                        refine aw_icmp_ge (tgt := 161) cx dX6_digest_139 (by decide) (fun c139q => ?_) (fun c139q => ?_)
                        · refine aw_aload_n cx dX6_digest_161 rfl 0 rfl ?_
                          refine aw_aload_n cx dX6_digest_162 rfl 0 rfl ?_
                          refine aw_lload_n cx dX6_digest_163 rfl 1 rfl ?_
                          refine aw_callV (as := [aL x1q]) (k := 0) (stk := [aR 0]) cx dX6_digest_164 ml_X6_282 mv_X6_digestOfTales rfl (lb_0 tl) (by decide) rfl rfl (Nat.le_of_ble_eq_true rfl) (ct_X6_digestOfTales tl N136q _ ) (fun rr164q M_164q hp164q => ?_)
                          obtain ⟨z164q, rfl, hfrM_164, hdtM_164⟩ := hp164q
                          refine aw_eq (stk2 := [aL z164q, aR 0]) ?_ rfl rfl rfl rfl
                          have f164 : FR SC M M_164q := hf.tr hfrM_164 (by decide)
                          have r164 : z164q = lpF (dgT1 M) x1q (M 5 4).toNat := by rw [hdtM_164, dgT1_sc hf, hf 5 (by decide)]
                          refine aw_callV (as := [aL z164q]) (k := 0) (stk := []) cx dX6_digest_167 ml_X6_286 mv_X6_digestOfCharges rfl (lb_0 tl) (by decide) rfl rfl (Nat.le_of_ble_eq_true rfl) (ct_X6_digestOfCharges tl M_164q _ ) (fun rr167q M_167q hp167q => ?_)
                          obtain ⟨z167q, rfl, hfrM_167, hdtM_167⟩ := hp167q
                          refine aw_eq (stk2 := [aL z167q]) ?_ rfl rfl rfl rfl
                          have f167 : FR SC M M_167q := f164.tr hfrM_167 (by decide)
                          have r167 : z167q = lpF (dgC1 M) z164q (M 15 2).toNat := by rw [hdtM_167, dgC1_sc f164, f164 15 (by decide)]
                          refine aw_lstore_n (loc2 := [(1, aL z167q), (0, aR 0), (3, aI x3q)]) cx dX6_digest_170 rfl (by decide) rfl ?_
                          refine aw_iconst (n := 0) cx dX6_digest_171 (by decide) ?_
                          refine aw_istore_n (loc2 := [(3, aI 0), (1, aL z167q), (0, aR 0)]) cx dX6_digest_172 rfl (by decide) rfl ?_
                          have lp173q : ∀ (fu : Nat) (x1q : Int) (x3q : Int) (N173q : Mem), (0 ≤ x3q ∧ x3q ≤ 4) → (FR SC M N173q) → (x1q = lpD (dSum M) (lpF (dgC1 M) (lpF (dgT1 M) (lpD (dWhere M) (lpF (dMan M) (lpD (dFault M) (lpD (dCount M) 17 8) 2) 8) 24) (M 5 4).toNat) (M 15 2).toNat) x3q.toNat) → ((4 - x3q).toNat) < fu → AW X (LB ++ tl) 4 173 [(0, aR 0), (1, aL x1q), (3, aI x3q)] [] N173q := by
                            intro fu
                            induction fu with
                            | zero =>
                              intro x1q x3q N173q h0q hf hx5 hm
                              exact absurd hm (Nat.not_lt_zero _)
                            | succ fu ih173q =>
                              intro x1q x3q N173q h0q hf hx5 hm
                              refine aw_iload_n cx dX6_digest_173 rfl 2 rfl ?_
                              refine aw_iconst (n := 4) cx dX6_digest_174 (by decide) ?_
                              refine aw_icmp_ge (tgt := 197) cx dX6_digest_175 (by decide) (fun c175q => ?_) (fun c175q => ?_)
                              · refine aw_ldc2 (x := 31) cx dX6_digest_197 kc_X6_268 (by decide +kernel) ?_
                                refine aw_lload_n cx dX6_digest_200 rfl 1 rfl ?_
                                refine aw_lmulW cx dX6_digest_201 (fun z201q hz201q => ?_)
                                refine aw_aload_n cx dX6_digest_202 rfl 0 rfl ?_
                                refine aw_callV (as := []) (k := 0) (stk := [aL z201q]) cx dX6_digest_203 ml_X6_292 mv_X6_liar rfl (lb_0 tl) (by decide) rfl rfl (Nat.le_of_ble_eq_true rfl) (ct_X6_liar tl N173q  ) (fun rr203q M_203q hp203q => ?_)
                                obtain ⟨z203q, rfl, hfrM_203, hliM_203⟩ := hp203q
                                refine aw_eq (stk2 := [aI z203q, aL z201q]) ?_ rfl rfl rfl rfl
                                have f203 : FR SC M M_203q := hf.tr hfrM_203 (by decide)
                                have r203 : z203q = pk (aLiar (fgT M)) := pk_e (by have q := hliM_203; rw [(fg_sc hf).1] at q; exact q) (fun _ _ => aLiar_u)
                                refine aw_i2l cx dX6_digest_206 ?_
                                refine aw_laddW cx dX6_digest_207 (fun z207q hz207q => ?_)
                                refine aw_lstore_n (loc2 := [(1, aL z207q), (0, aR 0), (3, aI x3q)]) cx dX6_digest_208 rfl (by decide) rfl ?_
                                refine aw_ldc2 (x := 31) cx dX6_digest_209 kc_X6_268 (by decide +kernel) ?_
                                refine aw_lload_n cx dX6_digest_212 rfl 0 rfl ?_
                                refine aw_lmulW cx dX6_digest_213 (fun z213q hz213q => ?_)
                                refine aw_aload_n cx dX6_digest_214 rfl 1 rfl ?_
                                refine aw_callV (as := []) (k := 0) (stk := [aL z213q]) cx dX6_digest_215 ml_X6_295 mv_X6_best rfl (lb_0 tl) (by decide) rfl rfl (Nat.le_of_ble_eq_true rfl) (ct_X6_best tl M_203q  ) (fun rr215q M_215q hp215q => ?_)
                                obtain ⟨z215q, rfl, hfrM_215, hbeM_215⟩ := hp215q
                                refine aw_eq (stk2 := [aI z215q, aL z213q]) ?_ rfl rfl rfl rfl
                                have f215 : FR SC M M_215q := f203.tr hfrM_215 (by decide)
                                have r215 : z215q = pk (aBest (fgT M)) := pk_e (by have q := hbeM_215; rw [(fg_sc f203).1] at q; exact q) (fun _ _ => aBest_u)
                                refine aw_i2l cx dX6_digest_218 ?_
                                refine aw_laddW cx dX6_digest_219 (fun z219q hz219q => ?_)
                                refine aw_lstore_n (loc2 := [(1, aL z219q), (0, aR 0), (3, aI x3q)]) cx dX6_digest_220 rfl (by decide) rfl ?_
                                refine aw_ldc2 (x := 31) cx dX6_digest_221 kc_X6_268 (by decide +kernel) ?_
                                refine aw_lload_n cx dX6_digest_224 rfl 0 rfl ?_
                                refine aw_lmulW cx dX6_digest_225 (fun z225q hz225q => ?_)
                                refine aw_aload_n cx dX6_digest_226 rfl 1 rfl ?_
                                refine aw_iconst (n := 0) cx dX6_digest_227 (by decide) ?_
                                refine aw_callV (as := [aI 0]) (k := 0) (stk := [aL z225q]) cx dX6_digest_228 ml_X6_298 mv_X6_drop rfl (lb_0 tl) (by decide) rfl rfl (Nat.le_of_ble_eq_true rfl) (ct_X6_drop tl M_215q _ ) (fun rr228q M_228q hp228q => ?_)
                                obtain ⟨z228q, rfl, hfrM_228, hdrM_228⟩ := hp228q
                                refine aw_eq (stk2 := [aI z228q, aL z225q]) ?_ rfl rfl rfl rfl
                                have f228 : FR SC M M_228q := f215.tr hfrM_228 (by decide)
                                have r228 : z228q = dDrop M 0 := pk_e (by have q := hdrM_228; rw [(fg_sc f215).1, (fg_sc f215).2, f215 5 (by decide)] at q; exact q) (fun _ _ => aPick_u)
                                refine aw_i2l cx dX6_digest_231 ?_
                                refine aw_laddW cx dX6_digest_232 (fun z232q hz232q => ?_)
                                refine aw_lstore_n (loc2 := [(1, aL z232q), (0, aR 0), (3, aI x3q)]) cx dX6_digest_233 rfl (by decide) rfl ?_
                                refine aw_ldc2 (x := 31) cx dX6_digest_234 kc_X6_268 (by decide +kernel) ?_
                                refine aw_lload_n cx dX6_digest_237 rfl 0 rfl ?_
                                refine aw_lmulW cx dX6_digest_238 (fun z238q hz238q => ?_)
                                refine aw_aload_n cx dX6_digest_239 rfl 1 rfl ?_
                                refine aw_iconst (n := 1) cx dX6_digest_240 (by decide) ?_
                                refine aw_callV (as := [aI 1]) (k := 0) (stk := [aL z238q]) cx dX6_digest_241 ml_X6_298 mv_X6_drop rfl (lb_0 tl) (by decide) rfl rfl (Nat.le_of_ble_eq_true rfl) (ct_X6_drop tl M_228q _ ) (fun rr241q M_241q hp241q => ?_)
                                obtain ⟨z241q, rfl, hfrM_241, hdrM_241⟩ := hp241q
                                refine aw_eq (stk2 := [aI z241q, aL z238q]) ?_ rfl rfl rfl rfl
                                have f241 : FR SC M M_241q := f228.tr hfrM_241 (by decide)
                                have r241 : z241q = dDrop M 1 := pk_e (by have q := hdrM_241; rw [(fg_sc f228).1, (fg_sc f228).2, f228 5 (by decide)] at q; exact q) (fun _ _ => aPick_u)
                                refine aw_i2l cx dX6_digest_244 ?_
                                refine aw_laddW cx dX6_digest_245 (fun z245q hz245q => ?_)
                                refine aw_lstore_n (loc2 := [(1, aL z245q), (0, aR 0), (3, aI x3q)]) cx dX6_digest_246 rfl (by decide) rfl ?_
                                refine aw_ldc2 (x := 31) cx dX6_digest_247 kc_X6_268 (by decide +kernel) ?_
                                refine aw_lload_n cx dX6_digest_250 rfl 0 rfl ?_
                                refine aw_lmulW cx dX6_digest_251 (fun z251q hz251q => ?_)
                                refine aw_aload_n cx dX6_digest_252 rfl 1 rfl ?_
                                refine aw_iconst (n := 0) cx dX6_digest_253 (by decide) ?_
                                refine aw_callV (as := [aI 0]) (k := 0) (stk := [aL z251q]) cx dX6_digest_254 ml_X6_301 mv_X6_clean rfl (lb_0 tl) (by decide) rfl rfl (Nat.le_of_ble_eq_true rfl) (ct_X6_clean tl M_241q _ ) (fun rr254q M_254q hp254q => ?_)
                                obtain ⟨rfl, z254q, rfl, hclz254⟩ := hp254q
                                refine aw_eq (stk2 := [aI z254q, aL z251q]) ?_ rfl rfl rfl rfl
                                have r254 : z254q = dClean M 0 := pk_e (by have q := hclz254; rw [f241 5 (by decide), f241 6 (by decide), f241 7 (by decide), f241 8 (by decide)] at q; exact q) (fun _ _ => aClean_u (by omega))
                                refine aw_i2l cx dX6_digest_257 ?_
                                refine aw_laddW cx dX6_digest_258 (fun z258q hz258q => ?_)
                                refine aw_lstore_n (loc2 := [(1, aL z258q), (0, aR 0), (3, aI x3q)]) cx dX6_digest_259 rfl (by decide) rfl ?_
                                refine aw_ldc2 (x := 31) cx dX6_digest_260 kc_X6_268 (by decide +kernel) ?_
                                refine aw_lload_n cx dX6_digest_263 rfl 0 rfl ?_
                                refine aw_lmulW cx dX6_digest_264 (fun z264q hz264q => ?_)
                                refine aw_aload_n cx dX6_digest_265 rfl 1 rfl ?_
                                refine aw_iconst (n := 1) cx dX6_digest_266 (by decide) ?_
                                refine aw_callV (as := [aI 1]) (k := 0) (stk := [aL z264q]) cx dX6_digest_267 ml_X6_301 mv_X6_clean rfl (lb_0 tl) (by decide) rfl rfl (Nat.le_of_ble_eq_true rfl) (ct_X6_clean tl M_241q _ ) (fun rr267q M_267q hp267q => ?_)
                                obtain ⟨rfl, z267q, rfl, hclz267⟩ := hp267q
                                refine aw_eq (stk2 := [aI z267q, aL z264q]) ?_ rfl rfl rfl rfl
                                have r267 : z267q = dClean M 1 := pk_e (by have q := hclz267; rw [f241 5 (by decide), f241 6 (by decide), f241 7 (by decide), f241 8 (by decide)] at q; exact q) (fun _ _ => aClean_u (by omega))
                                refine aw_i2l cx dX6_digest_270 ?_
                                refine aw_laddW cx dX6_digest_271 (fun z271q hz271q => ?_)
                                refine aw_lstore_n (loc2 := [(1, aL z271q), (0, aR 0), (3, aI x3q)]) cx dX6_digest_272 rfl (by decide) rfl ?_
                                refine aw_ldc2 (x := 31) cx dX6_digest_273 kc_X6_268 (by decide +kernel) ?_
                                refine aw_lload_n cx dX6_digest_276 rfl 0 rfl ?_
                                refine aw_lmulW cx dX6_digest_277 (fun z277q hz277q => ?_)
                                refine aw_aload_n cx dX6_digest_278 rfl 1 rfl ?_
                                refine aw_iconst (n := (-1)) cx dX6_digest_279 (by decide) ?_
                                refine aw_callV (as := [aI ((-1))]) (k := 0) (stk := [aL z277q]) cx dX6_digest_280 ml_X6_304 mv_X6_spare rfl (lb_0 tl) (by decide) rfl rfl (Nat.le_of_ble_eq_true rfl) (ct_X6_spare tl M_241q _ ) (fun rr280q M_280q hp280q => ?_)
                                obtain ⟨z280q, rfl, hfrM_280, hspM_280⟩ := hp280q
                                refine aw_eq (stk2 := [aI z280q, aL z277q]) ?_ rfl rfl rfl rfl
                                have f280 : FR SC M M_280q := f241.tr hfrM_280 (by decide)
                                have r280 : z280q = dSpare M (-1) := pk_e (by have q := hspM_280; rw [(fg_sc f241).1, (fg_sc f241).2] at q; exact q) (fun _ _ => aSpare_u)
                                refine aw_i2l cx dX6_digest_283 ?_
                                refine aw_laddW cx dX6_digest_284 (fun z284q hz284q => ?_)
                                refine aw_lstore_n (loc2 := [(1, aL z284q), (0, aR 0), (3, aI x3q)]) cx dX6_digest_285 rfl (by decide) rfl ?_
                                refine aw_ldc2 (x := 31) cx dX6_digest_286 kc_X6_268 (by decide +kernel) ?_
                                refine aw_lload_n cx dX6_digest_289 rfl 0 rfl ?_
                                refine aw_lmulW cx dX6_digest_290 (fun z290q hz290q => ?_)
                                refine aw_aload_n cx dX6_digest_291 rfl 1 rfl ?_
                                refine aw_iconst (n := 0) cx dX6_digest_292 (by decide) ?_
                                refine aw_callV (as := [aI 0]) (k := 0) (stk := [aL z290q]) cx dX6_digest_293 ml_X6_304 mv_X6_spare rfl (lb_0 tl) (by decide) rfl rfl (Nat.le_of_ble_eq_true rfl) (ct_X6_spare tl M_280q _ ) (fun rr293q M_293q hp293q => ?_)
                                obtain ⟨z293q, rfl, hfrM_293, hspM_293⟩ := hp293q
                                refine aw_eq (stk2 := [aI z293q, aL z290q]) ?_ rfl rfl rfl rfl
                                have f293 : FR SC M M_293q := f280.tr hfrM_293 (by decide)
                                have r293 : z293q = dSpare M 0 := pk_e (by have q := hspM_293; rw [(fg_sc f280).1, (fg_sc f280).2] at q; exact q) (fun _ _ => aSpare_u)
                                refine aw_i2l cx dX6_digest_296 ?_
                                refine aw_laddW cx dX6_digest_297 (fun z297q hz297q => ?_)
                                refine aw_lstore_n (loc2 := [(1, aL z297q), (0, aR 0), (3, aI x3q)]) cx dX6_digest_298 rfl (by decide) rfl ?_
                                refine aw_ldc2 (x := 31) cx dX6_digest_299 kc_X6_268 (by decide +kernel) ?_
                                refine aw_lload_n cx dX6_digest_302 rfl 0 rfl ?_
                                refine aw_lmulW cx dX6_digest_303 (fun z303q hz303q => ?_)
                                refine aw_aload_n cx dX6_digest_304 rfl 1 rfl ?_
                                refine aw_callV (as := []) (k := 0) (stk := [aL z303q]) cx dX6_digest_305 ml_X6_307 mv_X6_never rfl (lb_0 tl) (by decide) rfl rfl (Nat.le_of_ble_eq_true rfl) (ct_X6_never tl M_293q  ) (fun rr305q M_305q hp305q => ?_)
                                obtain ⟨z305q, rfl, hfrM_305, hnvM_305⟩ := hp305q
                                refine aw_eq (stk2 := [aI z305q, aL z303q]) ?_ rfl rfl rfl rfl
                                have f305 : FR SC M M_305q := f293.tr hfrM_305 (by decide)
                                have r305 : z305q = dNever M := pk_e (by have q := hnvM_305; rw [(fg_sc f293).1, (fg_sc f293).2, f293 0 (by decide), f293 27 (by decide), f293 28 (by decide)] at q; exact q) (fun _ _ => aNever_u)
                                refine aw_i2l cx dX6_digest_308 ?_
                                refine aw_laddW cx dX6_digest_309 (fun z309q hz309q => ?_)
                                refine aw_lstore_n (loc2 := [(1, aL z309q), (0, aR 0), (3, aI x3q)]) cx dX6_digest_310 rfl (by decide) rfl ?_
                                refine aw_ldc2 (x := 31) cx dX6_digest_311 kc_X6_268 (by decide +kernel) ?_
                                refine aw_lload_n cx dX6_digest_314 rfl 0 rfl ?_
                                refine aw_lmulW cx dX6_digest_315 (fun z315q hz315q => ?_)
                                refine aw_aload_n cx dX6_digest_316 rfl 1 rfl ?_
                                refine aw_bipush (n := 7) cx dX6_digest_317 (by decide) ?_
                                refine aw_bipush (n := 9) cx dX6_digest_319 (by decide) ?_
                                refine aw_iconst (n := 0) cx dX6_digest_321 (by decide) ?_
                                refine aw_callV (as := [aI 7, aI 9, aI 0]) (k := 0) (stk := [aL z315q]) cx dX6_digest_322 ml_X6_310 mv_X6_lives rfl (lb_0 tl) (by decide) rfl rfl (Nat.le_of_ble_eq_true rfl) (ct_X6_lives tl M_305q _ _ _ ) (fun rr322q M_322q hp322q => ?_)
                                obtain ⟨z322q, rfl, hfrM_322, hlvM_322⟩ := hp322q
                                refine aw_eq (stk2 := [aI z322q, aL z315q]) ?_ rfl rfl rfl rfl
                                have f322 : FR SC M M_322q := f305.tr hfrM_322 (by decide)
                                have r322 : z322q = dLives M 0 := pk_e (by have q := hlvM_322; rw [lvF_sc f305, (fg_sc f305).2] at q; exact q) (fun _ _ => aLives_u)
                                refine aw_i2l cx dX6_digest_325 ?_
                                refine aw_laddW cx dX6_digest_326 (fun z326q hz326q => ?_)
                                refine aw_lstore_n (loc2 := [(1, aL z326q), (0, aR 0), (3, aI x3q)]) cx dX6_digest_327 rfl (by decide) rfl ?_
                                refine aw_ldc2 (x := 31) cx dX6_digest_328 kc_X6_268 (by decide +kernel) ?_
                                refine aw_lload_n cx dX6_digest_331 rfl 0 rfl ?_
                                refine aw_lmulW cx dX6_digest_332 (fun z332q hz332q => ?_)
                                refine aw_aload_n cx dX6_digest_333 rfl 1 rfl ?_
                                refine aw_bipush (n := 7) cx dX6_digest_334 (by decide) ?_
                                refine aw_bipush (n := 9) cx dX6_digest_336 (by decide) ?_
                                refine aw_iconst (n := 1) cx dX6_digest_338 (by decide) ?_
                                refine aw_callV (as := [aI 7, aI 9, aI 1]) (k := 0) (stk := [aL z332q]) cx dX6_digest_339 ml_X6_310 mv_X6_lives rfl (lb_0 tl) (by decide) rfl rfl (Nat.le_of_ble_eq_true rfl) (ct_X6_lives tl M_322q _ _ _ ) (fun rr339q M_339q hp339q => ?_)
                                obtain ⟨z339q, rfl, hfrM_339, hlvM_339⟩ := hp339q
                                refine aw_eq (stk2 := [aI z339q, aL z332q]) ?_ rfl rfl rfl rfl
                                have f339 : FR SC M M_339q := f322.tr hfrM_339 (by decide)
                                have r339 : z339q = dLives M 1 := pk_e (by have q := hlvM_339; rw [lvF_sc f322, (fg_sc f322).2] at q; exact q) (fun _ _ => aLives_u)
                                refine aw_i2l cx dX6_digest_342 ?_
                                refine aw_laddW cx dX6_digest_343 (fun z343q hz343q => ?_)
                                refine aw_lret cx rt dX6_digest_344 ?_
                                refine ⟨z343q, rfl, f339, ?_⟩
                                unfold DIG DIG1
                                rw [hz343q, hz332q, r339, hz326q, hz315q, r322, hz309q, hz303q, r305, hz297q, hz290q, r293, hz284q, hz277q, r280, hz271q, hz264q, r267, hz258q, hz251q, r254, hz245q, hz238q, r241, hz232q, hz225q, r228, hz219q, hz213q, r215, hz207q, hz201q, r203, hx5, show x3q.toNat = 4 by omega]
                                rfl
                              · refine aw_ldc2 (x := 31) cx dX6_digest_178 kc_X6_268 (by decide +kernel) ?_
                                refine aw_lload_n cx dX6_digest_181 rfl 1 rfl ?_
                                refine aw_lmulW cx dX6_digest_182 (fun z182q hz182q => ?_)
                                refine aw_aload_n cx dX6_digest_183 rfl 0 rfl ?_
                                refine aw_iload_n cx dX6_digest_184 rfl 2 rfl ?_
                                refine aw_callV (as := [aI x3q]) (k := 0) (stk := [aL z182q]) cx dX6_digest_185 ml_X6_289 mv_X6_sum rfl (lb_0 tl) (by decide) rfl rfl (Nat.le_of_ble_eq_true rfl) (ct_X6_sum tl N173q _ ) (fun rr185q M_185q hp185q => ?_)
                                obtain ⟨z185q, rfl, hfrM_185, hsuM_185⟩ := hp185q
                                refine aw_eq (stk2 := [aI z185q, aL z182q]) ?_ rfl rfl rfl rfl
                                have f185 : FR SC M M_185q := hf.tr hfrM_185 (by decide)
                                have r185 : z185q = dSum M x3q.toNat := pk_e (by rw [show ((x3q.toNat : Nat) : Int) = x3q by omega]; have q := hsuM_185; rw [(fg_sc hf).1, (fg_sc hf).2] at q; exact q) (fun _ _ => aSum_u)
                                refine aw_i2l cx dX6_digest_188 ?_
                                refine aw_laddW cx dX6_digest_189 (fun z189q hz189q => ?_)
                                refine aw_lstore_n (loc2 := [(1, aL z189q), (0, aR 0), (3, aI x3q)]) cx dX6_digest_190 rfl (by decide) rfl ?_
                                refine aw_iinc cx dX6_digest_191 2 rfl (by decide) (by omega) (fun z191q hz191q => ?_)
                                refine aw_loc (loc2 := [(3, aI z191q), (1, aL z189q), (0, aR 0)]) rfl ?_
                                refine aw_goto (tgt := 173) cx dX6_digest_194 (by decide) ?_
                                refine aw_sub [2, 1, 0] rfl ?_
                                refine ih173q _ _ _  ?i_h0 ?i_hf ?i_hx5 ?i_m
                                case i_h0 =>
                                  omega
                                case i_hf =>
                                  exact f185
                                case i_hx5 =>
                                  rw [hz191q, lpD_i h0q.1, hz189q, hz182q, r185, hx5]; rfl
                                case i_m =>
                                  omega
                          refine aw_sub [2, 1, 0] rfl ?_
                          refine lp173q _ _ _ _  ?i_h0 ?i_hf ?i_hx5 (Nat.lt_succ_self _)
                          case i_h0 =>
                            omega
                          case i_hf =>
                            exact f167
                          case i_hx5 =>
                            rw [r167, r164, hx4, show x3q.toNat = 24 by omega]; rfl
                        · refine aw_ldc2 (x := 31) cx dX6_digest_142 kc_X6_268 (by decide +kernel) ?_
                          refine aw_lload_n cx dX6_digest_145 rfl 1 rfl ?_
                          refine aw_lmulW cx dX6_digest_146 (fun z146q hz146q => ?_)
                          refine aw_aload_n cx dX6_digest_147 rfl 0 rfl ?_
                          refine aw_iload_n cx dX6_digest_148 rfl 2 rfl ?_
                          refine aw_callV (as := [aI x3q]) (k := 0) (stk := [aL z146q]) cx dX6_digest_149 ml_X6_279 mv_X6_where rfl (lb_0 tl) (by decide) rfl rfl (Nat.le_of_ble_eq_true rfl) (ct_X6_where tl N136q _ ) (fun rr149q M_149q hp149q => ?_)
                          obtain ⟨z149q, rfl, hfrM_149, hwhM_149⟩ := hp149q
                          refine aw_eq (stk2 := [aI z149q, aL z146q]) ?_ rfl rfl rfl rfl
                          have f149 : FR SC M M_149q := hf.tr hfrM_149 (by decide)
                          have r149 : z149q = dWhere M x3q.toNat := pk_e (by rw [show ((x3q.toNat : Nat) : Int) = x3q by omega]; have q := hwhM_149; rw [(fg_sc hf).1] at q; exact q) (fun _ _ => aWhere_u)
                          refine aw_i2l cx dX6_digest_152 ?_
                          refine aw_laddW cx dX6_digest_153 (fun z153q hz153q => ?_)
                          refine aw_lstore_n (loc2 := [(1, aL z153q), (0, aR 0), (3, aI x3q)]) cx dX6_digest_154 rfl (by decide) rfl ?_
                          refine aw_iinc cx dX6_digest_155 2 rfl (by decide) (by omega) (fun z155q hz155q => ?_)
                          refine aw_loc (loc2 := [(3, aI z155q), (1, aL z153q), (0, aR 0)]) rfl ?_
                          refine aw_goto (tgt := 136) cx dX6_digest_158 (by decide) ?_
                          refine aw_sub [2, 1, 0] rfl ?_
                          refine ih136q _ _ _  ?i_h0 ?i_hf ?i_hx4 ?i_m
                          case i_h0 =>
                            omega
                          case i_hf =>
                            exact f149
                          case i_hx4 =>
                            rw [hz155q, lpD_i h0q.1, hz153q, hz146q, r149, hx4]; rfl
                          case i_m =>
                            omega
                    refine aw_sub [1, 2, 0] rfl ?_
                    refine lp136q _ _ _ _  ?i_h0 ?i_hf ?i_hx4 (Nat.lt_succ_self _)
                    case i_h0 =>
                      omega
                    case i_hf =>
                      exact hf
                    case i_hx4 =>
                      rw [hx3, show x3q.toNat = 8 by omega]; rfl
                  · refine aw_ldc2 (x := 31) cx dX6_digest_65 kc_X6_268 (by decide +kernel) ?_
                    refine aw_lload_n cx dX6_digest_68 rfl 1 rfl ?_
                    refine aw_lmulW cx dX6_digest_69 (fun z69q hz69q => ?_)
                    refine aw_aload_n cx dX6_digest_70 rfl 0 rfl ?_
                    refine aw_iconst (n := 3) cx dX6_digest_71 (by decide) ?_
                    refine aw_iload_n cx dX6_digest_72 rfl 2 rfl ?_
                    refine aw_iconst (n := 0) cx dX6_digest_73 (by decide) ?_
                    refine aw_callV (as := [aI 3, aI x3q, aI 0]) (k := 0) (stk := [aL z69q]) cx dX6_digest_74 ml_X6_276 mv_X6_man rfl (lb_0 tl) (by decide) rfl rfl (Nat.le_of_ble_eq_true rfl) (ct_X6_man tl N59q _ _ _ ) (fun rr74q M_74q hp74q => ?_)
                    obtain ⟨z74q, rfl, hfrM_74, hstM_74⟩ := hp74q
                    refine aw_eq (stk2 := [aI z74q, aL z69q]) ?_ rfl rfl rfl rfl
                    have f74 : FR SC M M_74q := hf.tr hfrM_74 (by decide)
                    have r74 : z74q = pk (aMan (fgT M) 3 x3q 0) := pk_e (by have q := hstM_74; rw [(fg_sc hf).1] at q; exact q) (fun _ _ => aMan_u)
                    refine aw_i2l cx dX6_digest_77 ?_
                    refine aw_laddW cx dX6_digest_78 (fun z78q hz78q => ?_)
                    refine aw_lstore_n (loc2 := [(1, aL z78q), (0, aR 0), (3, aI x3q)]) cx dX6_digest_79 rfl (by decide) rfl ?_
                    refine aw_ldc2 (x := 31) cx dX6_digest_80 kc_X6_268 (by decide +kernel) ?_
                    refine aw_lload_n cx dX6_digest_83 rfl 0 rfl ?_
                    refine aw_lmulW cx dX6_digest_84 (fun z84q hz84q => ?_)
                    refine aw_aload_n cx dX6_digest_85 rfl 1 rfl ?_
                    refine aw_bipush (n := 12) cx dX6_digest_86 (by decide) ?_
                    refine aw_iload_n cx dX6_digest_88 rfl 2 rfl ?_
                    refine aw_iconst (n := 0) cx dX6_digest_89 (by decide) ?_
                    refine aw_callV (as := [aI 12, aI x3q, aI 0]) (k := 0) (stk := [aL z84q]) cx dX6_digest_90 ml_X6_276 mv_X6_man rfl (lb_0 tl) (by decide) rfl rfl (Nat.le_of_ble_eq_true rfl) (ct_X6_man tl M_74q _ _ _ ) (fun rr90q M_90q hp90q => ?_)
                    obtain ⟨z90q, rfl, hfrM_90, hstM_90⟩ := hp90q
                    refine aw_eq (stk2 := [aI z90q, aL z84q]) ?_ rfl rfl rfl rfl
                    have f90 : FR SC M M_90q := f74.tr hfrM_90 (by decide)
                    have r90 : z90q = pk (aMan (fgT M) 12 x3q 0) := pk_e (by have q := hstM_90; rw [(fg_sc f74).1] at q; exact q) (fun _ _ => aMan_u)
                    refine aw_i2l cx dX6_digest_93 ?_
                    refine aw_laddW cx dX6_digest_94 (fun z94q hz94q => ?_)
                    refine aw_lstore_n (loc2 := [(1, aL z94q), (0, aR 0), (3, aI x3q)]) cx dX6_digest_95 rfl (by decide) rfl ?_
                    refine aw_ldc2 (x := 31) cx dX6_digest_96 kc_X6_268 (by decide +kernel) ?_
                    refine aw_lload_n cx dX6_digest_99 rfl 0 rfl ?_
                    refine aw_lmulW cx dX6_digest_100 (fun z100q hz100q => ?_)
                    refine aw_aload_n cx dX6_digest_101 rfl 1 rfl ?_
                    refine aw_bipush (n := 23) cx dX6_digest_102 (by decide) ?_
                    refine aw_iload_n cx dX6_digest_104 rfl 2 rfl ?_
                    refine aw_iconst (n := 0) cx dX6_digest_105 (by decide) ?_
                    refine aw_callV (as := [aI 23, aI x3q, aI 0]) (k := 0) (stk := [aL z100q]) cx dX6_digest_106 ml_X6_276 mv_X6_man rfl (lb_0 tl) (by decide) rfl rfl (Nat.le_of_ble_eq_true rfl) (ct_X6_man tl M_90q _ _ _ ) (fun rr106q M_106q hp106q => ?_)
                    obtain ⟨z106q, rfl, hfrM_106, hstM_106⟩ := hp106q
                    refine aw_eq (stk2 := [aI z106q, aL z100q]) ?_ rfl rfl rfl rfl
                    have f106 : FR SC M M_106q := f90.tr hfrM_106 (by decide)
                    have r106 : z106q = pk (aMan (fgT M) 23 x3q 0) := pk_e (by have q := hstM_106; rw [(fg_sc f90).1] at q; exact q) (fun _ _ => aMan_u)
                    refine aw_i2l cx dX6_digest_109 ?_
                    refine aw_laddW cx dX6_digest_110 (fun z110q hz110q => ?_)
                    refine aw_lstore_n (loc2 := [(1, aL z110q), (0, aR 0), (3, aI x3q)]) cx dX6_digest_111 rfl (by decide) rfl ?_
                    refine aw_ldc2 (x := 31) cx dX6_digest_112 kc_X6_268 (by decide +kernel) ?_
                    refine aw_lload_n cx dX6_digest_115 rfl 0 rfl ?_
                    refine aw_lmulW cx dX6_digest_116 (fun z116q hz116q => ?_)
                    refine aw_aload_n cx dX6_digest_117 rfl 1 rfl ?_
                    refine aw_bipush (n := 23) cx dX6_digest_118 (by decide) ?_
                    refine aw_iload_n cx dX6_digest_120 rfl 2 rfl ?_
                    refine aw_iconst (n := 1) cx dX6_digest_121 (by decide) ?_
                    refine aw_callV (as := [aI 23, aI x3q, aI 1]) (k := 0) (stk := [aL z116q]) cx dX6_digest_122 ml_X6_276 mv_X6_man rfl (lb_0 tl) (by decide) rfl rfl (Nat.le_of_ble_eq_true rfl) (ct_X6_man tl M_106q _ _ _ ) (fun rr122q M_122q hp122q => ?_)
                    obtain ⟨z122q, rfl, hfrM_122, hstM_122⟩ := hp122q
                    refine aw_eq (stk2 := [aI z122q, aL z116q]) ?_ rfl rfl rfl rfl
                    have f122 : FR SC M M_122q := f106.tr hfrM_122 (by decide)
                    have r122 : z122q = pk (aMan (fgT M) 23 x3q 1) := pk_e (by have q := hstM_122; rw [(fg_sc f106).1] at q; exact q) (fun _ _ => aMan_u)
                    refine aw_i2l cx dX6_digest_125 ?_
                    refine aw_laddW cx dX6_digest_126 (fun z126q hz126q => ?_)
                    refine aw_lstore_n (loc2 := [(1, aL z126q), (0, aR 0), (3, aI x3q)]) cx dX6_digest_127 rfl (by decide) rfl ?_
                    refine aw_iinc cx dX6_digest_128 2 rfl (by decide) (by omega) (fun z128q hz128q => ?_)
                    refine aw_loc (loc2 := [(3, aI z128q), (1, aL z126q), (0, aR 0)]) rfl ?_
                    refine aw_goto (tgt := 59) cx dX6_digest_131 (by decide) ?_
                    refine aw_sub [2, 1, 0] rfl ?_
                    refine ih59q _ _ _  ?i_h0 ?i_hf ?i_hx3 ?i_m
                    case i_h0 =>
                      omega
                    case i_hf =>
                      exact f122
                    case i_hx3 =>
                      rw [hz128q, lpF_i h0q.1]; unfold dMan; rw [hz126q, hz116q, r122, hz110q, hz100q, r106, hz94q, hz84q, r90, hz78q, hz69q, r74, hx3]; rfl
                    case i_m =>
                      omega
              refine aw_sub [1, 2, 0] rfl ?_
              refine lp59q _ _ _ _  ?i_h0 ?i_hf ?i_hx3 (Nat.lt_succ_self _)
              case i_h0 =>
                omega
              case i_hf =>
                exact hf
              case i_hx3 =>
                rw [hx2, show x3q.toNat = 2 by omega]; rfl
            · refine aw_ldc2 (x := 31) cx dX6_digest_38 kc_X6_268 (by decide +kernel) ?_
              refine aw_lload_n cx dX6_digest_41 rfl 1 rfl ?_
              refine aw_lmulW cx dX6_digest_42 (fun z42q hz42q => ?_)
              refine aw_aload_n cx dX6_digest_43 rfl 0 rfl ?_
              refine aw_iload_n cx dX6_digest_44 rfl 2 rfl ?_
              refine aw_callV (as := [aI x3q]) (k := 0) (stk := [aL z42q]) cx dX6_digest_45 ml_X6_273 mv_X6_fault rfl (lb_0 tl) (by decide) rfl rfl (Nat.le_of_ble_eq_true rfl) (ct_X6_fault_g tl N6q _ (by omega)) (fun rr45q M_45q hp45q => ?_)
              obtain ⟨rfl, z45q, rfl, hflz45⟩ := hp45q
              refine aw_eq (stk2 := [aI z45q, aL z42q]) ?_ rfl rfl rfl rfl
              have r45 : z45q = dFault M x3q.toNat := pk_e (by rw [show ((x3q.toNat : Nat) : Int) = x3q by omega]; have q := hflz45; unfold aFault at q ⊢; rw [hf 1 (by decide), hf 2 (by decide), hf 3 (by decide), hf 4 (by decide)] at q; exact q) (fun _ _ => aFault_u)
              refine aw_i2l cx dX6_digest_48 ?_
              refine aw_laddW cx dX6_digest_49 (fun z49q hz49q => ?_)
              refine aw_lstore_n (loc2 := [(1, aL z49q), (0, aR 0), (3, aI x3q)]) cx dX6_digest_50 rfl (by decide) rfl ?_
              refine aw_iinc cx dX6_digest_51 2 rfl (by decide) (by omega) (fun z51q hz51q => ?_)
              refine aw_loc (loc2 := [(3, aI z51q), (1, aL z49q), (0, aR 0)]) rfl ?_
              refine aw_goto (tgt := 33) cx dX6_digest_54 (by decide) ?_
              refine aw_sub [2, 1, 0] rfl ?_
              refine ih33q _ _  ?i_h0 ?i_hx2 ?i_m
              case i_h0 =>
                omega
              case i_hx2 =>
                rw [hz51q, lpD_i h0q.1, hz49q, hz42q, r45, hx2]; rfl
              case i_m =>
                omega
        refine aw_sub [1, 2, 0] rfl ?_
        refine lp33q _ _ _  ?i_h0 ?i_hx2 (Nat.lt_succ_self _)
        case i_h0 =>
          omega
        case i_hx2 =>
          rw [hx1, show x3q.toNat = 8 by omega]; rfl
      · refine aw_ldc2 (x := 31) cx dX6_digest_12 kc_X6_268 (by decide +kernel) ?_
        refine aw_lload_n cx dX6_digest_15 rfl 1 rfl ?_
        refine aw_lmulW cx dX6_digest_16 (fun z16q hz16q => ?_)
        refine aw_aload_n cx dX6_digest_17 rfl 0 rfl ?_
        refine aw_iload_n cx dX6_digest_18 rfl 2 rfl ?_
        refine aw_callV (as := [aI x3q]) (k := 0) (stk := [aL z16q]) cx dX6_digest_19 ml_X6_270 mv_X6_count rfl (lb_0 tl) (by decide) rfl rfl (Nat.le_of_ble_eq_true rfl) (ct_X6_count tl N6q _ ) (fun rr19q M_19q hp19q => ?_)
        obtain ⟨z19q, rfl, hfrM_19, hcoM_19⟩ := hp19q
        refine aw_eq (stk2 := [aI z19q, aL z16q]) ?_ rfl rfl rfl rfl
        have f19 : FR SC M M_19q := hf.tr hfrM_19 (by decide)
        have r19 : z19q = dCount M x3q.toNat := pk_e (by rw [show ((x3q.toNat : Nat) : Int) = x3q by omega]; exact aCount_sc hf hcoM_19) (fun _ _ => aCount_u)
        refine aw_i2l cx dX6_digest_22 ?_
        refine aw_laddW cx dX6_digest_23 (fun z23q hz23q => ?_)
        refine aw_lstore_n (loc2 := [(1, aL z23q), (0, aR 0), (3, aI x3q)]) cx dX6_digest_24 rfl (by decide) rfl ?_
        refine aw_iinc cx dX6_digest_25 2 rfl (by decide) (by omega) (fun z25q hz25q => ?_)
        refine aw_loc (loc2 := [(3, aI z25q), (1, aL z23q), (0, aR 0)]) rfl ?_
        refine aw_goto (tgt := 6) cx dX6_digest_28 (by decide) ?_
        refine aw_sub [2, 1, 0] rfl ?_
        refine ih6q _ _ _  ?i_h0 ?i_hf ?i_hx1 ?i_m
        case i_h0 =>
          omega
        case i_hf =>
          exact f19
        case i_hx1 =>
          rw [hz25q, lpD_i h0q.1, hz23q, hz16q, r19, hx1]; rfl
        case i_m =>
          omega
  refine aw_sub [2, 1, 0] rfl ?_
  refine lp6q _ _ _ _  ?i_h0 ?i_hf ?i_hx1 (Nat.lt_succ_self _)
  case i_h0 =>
    omega
  case i_hf =>
    exact FR.rf
  case i_hx1 =>
    rfl
