set_option maxHeartbeats 1000000 in
set_option maxRecDepth 100000 in
theorem law_c0 {X : CTX} (tl : List CD) (M : Mem) {Ln : Nat} {xs : Nat → Int32} (cx : Cx X cL_law RL 4 13) (sx : SX X Ln xs) (hLn : Ln ≤ 3072) (hJ : JA tl M) (x3q : Int) (h3q : 0 ≤ x3q ∧ x3q + 6 ≤ Ln) (kk : ∀ M2, JA tl M2 → AW X (LB ++ tl) 4 1306 [(3, aI x3q), (2, aR 32), (1, aR 0), (0, aR SCI)] [] M2) : AW X (LB ++ tl) 4 200 [(3, aI x3q), (2, aR 32), (1, aR 0), (0, aR SCI)] [] M := by
  refine aw_ok (fun om => ?_)
  have r12 : 0 ≤ M 1 2 ∧ M 1 2 ≤ 59 := okF om (lb_1 tl) (j := 2) rfl (show (0 : Nat) ≠ 1 by decide)
  have r32 : 0 ≤ M 3 2 ∧ M 3 2 ≤ 23 := okF om (lb_3 tl) (j := 2) rfl (show (0 : Nat) ≠ 1 by decide)
  refine aw_aload_n cx dL_law_200 rfl 2 rfl ?_
  refine aw_aload_n cx dL_law_201 rfl 3 rfl ?_
  refine aw_iload_n cx dL_law_202 rfl 0 rfl ?_
  refine aw_iconst (n := 1) cx dL_law_203 (by decide) ?_
  refine aw_iadd cx dL_law_204 (by omega) (fun z204q hz204q => ?_)
  refine aw_sld cx sx dL_law_205 (⟨by omega, by omega⟩) (fun z205q hz205q => ?_)
  refine aw_aload_n cx dL_law_206 rfl 3 rfl ?_
  refine aw_iload_n cx dL_law_207 rfl 0 rfl ?_
  refine aw_iconst (n := 2) cx dL_law_208 (by decide) ?_
  refine aw_iadd cx dL_law_209 (by omega) (fun z209q hz209q => ?_)
  refine aw_sld cx sx dL_law_210 (⟨by omega, by omega⟩) (fun z210q hz210q => ?_)
  refine aw_callV (as := [aI z205q, aI z210q]) (k := 0) (stk := []) cx dL_law_211 ml_L_13 mv_X6_type rfl (lb_0 tl) (by decide) rfl rfl (Nat.le_of_ble_eq_true rfl) (ct_X6_type_h tl M _ _ ) (fun rr211q M_211q hp211q => ?_)
  obtain ⟨z211q, rfl, hsM_211⟩ := hp211q
  refine aw_eq (stk2 := [aI z211q]) ?_ rfl rfl rfl rfl
  refine aw_aload_n cx dL_law_214 rfl 1 rfl ?_
  refine aw_aload_n cx dL_law_215 rfl 3 rfl ?_
  refine aw_iload_n cx dL_law_216 rfl 0 rfl ?_
  refine aw_iconst (n := 1) cx dL_law_217 (by decide) ?_
  refine aw_iadd cx dL_law_218 (by omega) (fun z218q hz218q => ?_)
  refine aw_sld cx sx dL_law_219 (⟨by omega, by omega⟩) (fun z219q hz219q => ?_)
  rw [show z219q = z205q by rw [hz219q, hz205q, hz218q, hz204q]]
  refine aw_aload_n cx dL_law_220 rfl 3 rfl ?_
  refine aw_iload_n cx dL_law_221 rfl 0 rfl ?_
  refine aw_iconst (n := 2) cx dL_law_222 (by decide) ?_
  refine aw_iadd cx dL_law_223 (by omega) (fun z223q hz223q => ?_)
  refine aw_sld cx sx dL_law_224 (⟨by omega, by omega⟩) (fun z224q hz224q => ?_)
  rw [show z224q = z210q by rw [hz224q, hz210q, hz223q, hz209q]]
  refine aw_callV (as := [aI z205q, aI z210q]) (k := 32) (stk := [aI z211q]) cx dL_law_225 ml_L_17 mv_X7_type rfl (lb_32 tl) (by decide) rfl rfl (Nat.le_of_ble_eq_true rfl) (ct_X7_type_h tl M_211q _ _ (by rw [TYc_33 hsM_211, hJ.1.1.2.1]; omega)) (fun rr225q M_225q hp225q => ?_)
  obtain ⟨z225q, rfl, hsM_225⟩ := hp225q
  refine aw_eq (stk2 := [aI z225q, aI z211q]) ?_ rfl rfl rfl rfl
  have hE := J_type hJ r12 r32 hsM_211 hsM_225
  refine aw_icmp_eq (tgt := 1306) cx dL_law_228 (by decide) (fun c228q => ?_) (fun c228q => ?_)
  · exact kk _ hE.2
  · exfalso
    exact c228q hE.1
set_option maxHeartbeats 1000000 in
set_option maxRecDepth 100000 in
theorem law_c1 {X : CTX} (tl : List CD) (M : Mem) {Ln : Nat} {xs : Nat → Int32} (cx : Cx X cL_law RL 4 13) (sx : SX X Ln xs) (hLn : Ln ≤ 3072) (hJ : JA tl M) (x3q : Int) (h3q : 0 ≤ x3q ∧ x3q + 6 ≤ Ln) (kk : ∀ M2, JA tl M2 → AW X (LB ++ tl) 4 1306 [(3, aI x3q), (2, aR 32), (1, aR 0), (0, aR SCI)] [] M2) : AW X (LB ++ tl) 4 233 [(3, aI x3q), (2, aR 32), (1, aR 0), (0, aR SCI)] [] M := by
  refine aw_aload_n cx dL_law_233 rfl 2 rfl ?_
  refine aw_aload_n cx dL_law_234 rfl 3 rfl ?_
  refine aw_iload_n cx dL_law_235 rfl 0 rfl ?_
  refine aw_iconst (n := 1) cx dL_law_236 (by decide) ?_
  refine aw_iadd cx dL_law_237 (by omega) (fun z237q hz237q => ?_)
  refine aw_sld cx sx dL_law_238 (⟨by omega, by omega⟩) (fun z238q hz238q => ?_)
  refine aw_callV (as := [aI z238q]) (k := 0) (stk := []) cx dL_law_239 ml_L_18 mv_X6_wipe rfl (lb_0 tl) (by decide) rfl rfl (Nat.le_of_ble_eq_true rfl) (ct_X6_wipe_h tl M _ ) (fun rr239q M_239q hp239q => ?_)
  obtain ⟨z239q, rfl, hsM_239⟩ := hp239q
  refine aw_eq (stk2 := [aI z239q]) ?_ rfl rfl rfl rfl
  refine aw_aload_n cx dL_law_242 rfl 1 rfl ?_
  refine aw_aload_n cx dL_law_243 rfl 3 rfl ?_
  refine aw_iload_n cx dL_law_244 rfl 0 rfl ?_
  refine aw_iconst (n := 1) cx dL_law_245 (by decide) ?_
  refine aw_iadd cx dL_law_246 (by omega) (fun z246q hz246q => ?_)
  refine aw_sld cx sx dL_law_247 (⟨by omega, by omega⟩) (fun z247q hz247q => ?_)
  rw [show z247q = z238q by rw [hz247q, hz238q, hz246q, hz237q]]
  refine aw_callV (as := [aI z238q]) (k := 32) (stk := [aI z239q]) cx dL_law_248 ml_L_22 mv_X7_wipe rfl (lb_32 tl) (by decide) rfl rfl (Nat.le_of_ble_eq_true rfl) (ct_X7_wipe_h tl M_239q _ ) (fun rr248q M_248q hp248q => ?_)
  obtain ⟨z248q, rfl, hsM_248⟩ := hp248q
  refine aw_eq (stk2 := [aI z248q, aI z239q]) ?_ rfl rfl rfl rfl
  have hE := J_wipe hJ hsM_239 hsM_248
  refine aw_icmp_eq (tgt := 1306) cx dL_law_251 (by decide) (fun c251q => ?_) (fun c251q => ?_)
  · exact kk _ hE.2
  · exfalso
    exact c251q hE.1
set_option maxHeartbeats 1000000 in
set_option maxRecDepth 100000 in
theorem law_c2 {X : CTX} (tl : List CD) (M : Mem) {Ln : Nat} {xs : Nat → Int32} (cx : Cx X cL_law RL 4 13) (sx : SX X Ln xs) (hLn : Ln ≤ 3072) (hJ : JA tl M) (x3q : Int) (h3q : 0 ≤ x3q ∧ x3q + 6 ≤ Ln) (kk : ∀ M2, JA tl M2 → AW X (LB ++ tl) 4 1306 [(3, aI x3q), (2, aR 32), (1, aR 0), (0, aR SCI)] [] M2) : AW X (LB ++ tl) 4 256 [(3, aI x3q), (2, aR 32), (1, aR 0), (0, aR SCI)] [] M := by
  refine aw_aload_n cx dL_law_256 rfl 2 rfl ?_
  refine aw_aload_n cx dL_law_257 rfl 3 rfl ?_
  refine aw_iload_n cx dL_law_258 rfl 0 rfl ?_
  refine aw_iconst (n := 1) cx dL_law_259 (by decide) ?_
  refine aw_iadd cx dL_law_260 (by omega) (fun z260q hz260q => ?_)
  refine aw_sld cx sx dL_law_261 (⟨by omega, by omega⟩) (fun z261q hz261q => ?_)
  refine aw_callV (as := [aI z261q]) (k := 0) (stk := []) cx dL_law_262 ml_L_23 mv_X6_undo rfl (lb_0 tl) (by decide) rfl rfl (Nat.le_of_ble_eq_true rfl) (ct_X6_undo_h tl M _ ) (fun rr262q M_262q hp262q => ?_)
  obtain ⟨z262q, rfl, hsM_262⟩ := hp262q
  refine aw_eq (stk2 := [aI z262q]) ?_ rfl rfl rfl rfl
  refine aw_aload_n cx dL_law_265 rfl 1 rfl ?_
  refine aw_aload_n cx dL_law_266 rfl 3 rfl ?_
  refine aw_iload_n cx dL_law_267 rfl 0 rfl ?_
  refine aw_iconst (n := 1) cx dL_law_268 (by decide) ?_
  refine aw_iadd cx dL_law_269 (by omega) (fun z269q hz269q => ?_)
  refine aw_sld cx sx dL_law_270 (⟨by omega, by omega⟩) (fun z270q hz270q => ?_)
  rw [show z270q = z261q by rw [hz270q, hz261q, hz269q, hz260q]]
  refine aw_callV (as := [aI z261q]) (k := 32) (stk := [aI z262q]) cx dL_law_271 ml_L_26 mv_X7_undo rfl (lb_32 tl) (by decide) rfl rfl (Nat.le_of_ble_eq_true rfl) (ct_X7_undo_h tl M_262q _ ) (fun rr271q M_271q hp271q => ?_)
  obtain ⟨z271q, rfl, hsM_271⟩ := hp271q
  refine aw_eq (stk2 := [aI z271q, aI z262q]) ?_ rfl rfl rfl rfl
  have hE := J_undo hJ hsM_262 hsM_271
  refine aw_icmp_eq (tgt := 1306) cx dL_law_274 (by decide) (fun c274q => ?_) (fun c274q => ?_)
  · exact kk _ hE.2
  · exfalso
    exact c274q hE.1
set_option maxHeartbeats 1000000 in
set_option maxRecDepth 100000 in
theorem law_c6 {X : CTX} (tl : List CD) (M : Mem) {Ln : Nat} {xs : Nat → Int32} (cx : Cx X cL_law RL 4 13) (sx : SX X Ln xs) (hLn : Ln ≤ 3072) (hJ : JA tl M) (x3q : Int) (h3q : 0 ≤ x3q ∧ x3q + 6 ≤ Ln) (kk : ∀ M2, JA tl M2 → AW X (LB ++ tl) 4 1306 [(3, aI x3q), (2, aR 32), (1, aR 0), (0, aR SCI)] [] M2) : AW X (LB ++ tl) 4 368 [(3, aI x3q), (2, aR 32), (1, aR 0), (0, aR SCI)] [] M := by
  refine aw_aload_n cx dL_law_368 rfl 2 rfl ?_
  refine aw_aload_n cx dL_law_369 rfl 3 rfl ?_
  refine aw_iload_n cx dL_law_370 rfl 0 rfl ?_
  refine aw_iconst (n := 1) cx dL_law_371 (by decide) ?_
  refine aw_iadd cx dL_law_372 (by omega) (fun z372q hz372q => ?_)
  refine aw_sld cx sx dL_law_373 (⟨by omega, by omega⟩) (fun z373q hz373q => ?_)
  refine aw_callV (as := [aI z373q]) (k := 0) (stk := []) cx dL_law_374 ml_L_39 mv_X6_need rfl (lb_0 tl) (by decide) rfl rfl (Nat.le_of_ble_eq_true rfl) (ct_X6_need tl M _ ) (fun rr374q M_374q hp374q => ?_)
  obtain ⟨z374q, rfl, hneM_374⟩ := hp374q
  refine aw_eq (stk2 := [aI z374q]) ?_ rfl rfl rfl rfl
  refine aw_aload_n cx dL_law_377 rfl 1 rfl ?_
  refine aw_aload_n cx dL_law_378 rfl 3 rfl ?_
  refine aw_iload_n cx dL_law_379 rfl 0 rfl ?_
  refine aw_iconst (n := 1) cx dL_law_380 (by decide) ?_
  refine aw_iadd cx dL_law_381 (by omega) (fun z381q hz381q => ?_)
  refine aw_sld cx sx dL_law_382 (⟨by omega, by omega⟩) (fun z382q hz382q => ?_)
  rw [show z382q = z373q by rw [hz382q, hz373q, hz381q, hz372q]]
  refine aw_callV (as := [aI z373q]) (k := 32) (stk := [aI z374q]) cx dL_law_383 ml_L_42 mv_X7_need rfl (lb_32 tl) (by decide) rfl rfl (Nat.le_of_ble_eq_true rfl) (ct_X7_need tl M_374q _ ) (fun rr383q M_383q hp383q => ?_)
  obtain ⟨z383q, rfl, hneM_383⟩ := hp383q
  refine aw_eq (stk2 := [aI z383q, aI z374q]) ?_ rfl rfl rfl rfl
  have hE := J_need hJ hneM_374 hneM_383
  refine aw_icmp_eq (tgt := 1306) cx dL_law_386 (by decide) (fun c386q => ?_) (fun c386q => ?_)
  · exact kk _ hE.2
  · exfalso
    exact c386q hE.1
set_option maxHeartbeats 1000000 in
set_option maxRecDepth 100000 in
theorem law_c7 {X : CTX} (tl : List CD) (M : Mem) {Ln : Nat} {xs : Nat → Int32} (cx : Cx X cL_law RL 4 13) (sx : SX X Ln xs) (hLn : Ln ≤ 3072) (hJ : JA tl M) (x3q : Int) (h3q : 0 ≤ x3q ∧ x3q + 6 ≤ Ln) (kk : ∀ M2, JA tl M2 → AW X (LB ++ tl) 4 1306 [(3, aI x3q), (2, aR 32), (1, aR 0), (0, aR SCI)] [] M2) : AW X (LB ++ tl) 4 391 [(3, aI x3q), (2, aR 32), (1, aR 0), (0, aR SCI)] [] M := by
  refine aw_ok (fun om => ?_)
  have r18 : 0 ≤ M 18 3 ∧ M 18 3 ≤ 8 := okF om (lb_18 tl) (j := 3) rfl (show (0 : Nat) ≠ 1 by decide)
  refine aw_aload_n cx dL_law_391 rfl 2 rfl ?_
  refine aw_aload_n cx dL_law_392 rfl 3 rfl ?_
  refine aw_iload_n cx dL_law_393 rfl 0 rfl ?_
  refine aw_iconst (n := 1) cx dL_law_394 (by decide) ?_
  refine aw_iadd cx dL_law_395 (by omega) (fun z395q hz395q => ?_)
  refine aw_sld cx sx dL_law_396 (⟨by omega, by omega⟩) (fun z396q hz396q => ?_)
  refine aw_aload_n cx dL_law_397 rfl 3 rfl ?_
  refine aw_iload_n cx dL_law_398 rfl 0 rfl ?_
  refine aw_iconst (n := 2) cx dL_law_399 (by decide) ?_
  refine aw_iadd cx dL_law_400 (by omega) (fun z400q hz400q => ?_)
  refine aw_sld cx sx dL_law_401 (⟨by omega, by omega⟩) (fun z401q hz401q => ?_)
  refine aw_aload_n cx dL_law_402 rfl 3 rfl ?_
  refine aw_iload_n cx dL_law_403 rfl 0 rfl ?_
  refine aw_iconst (n := 3) cx dL_law_404 (by decide) ?_
  refine aw_iadd cx dL_law_405 (by omega) (fun z405q hz405q => ?_)
  refine aw_sld cx sx dL_law_406 (⟨by omega, by omega⟩) (fun z406q hz406q => ?_)
  refine aw_callV (as := [aI z396q, aI z401q, aI z406q]) (k := 0) (stk := []) cx dL_law_407 ml_L_43 mv_X6_event rfl (lb_0 tl) (by decide) rfl rfl (Nat.le_of_ble_eq_true rfl) (ct_X6_event tl M _ _ _ ) (fun rr407q M_407q hp407q => ?_)
  obtain ⟨z407q, rfl, hevM_407⟩ := hp407q
  refine aw_eq (stk2 := [aI z407q]) ?_ rfl rfl rfl rfl
  refine aw_aload_n cx dL_law_410 rfl 1 rfl ?_
  refine aw_aload_n cx dL_law_411 rfl 3 rfl ?_
  refine aw_iload_n cx dL_law_412 rfl 0 rfl ?_
  refine aw_iconst (n := 1) cx dL_law_413 (by decide) ?_
  refine aw_iadd cx dL_law_414 (by omega) (fun z414q hz414q => ?_)
  refine aw_sld cx sx dL_law_415 (⟨by omega, by omega⟩) (fun z415q hz415q => ?_)
  rw [show z415q = z396q by rw [hz415q, hz396q, hz414q, hz395q]]
  refine aw_aload_n cx dL_law_416 rfl 3 rfl ?_
  refine aw_iload_n cx dL_law_417 rfl 0 rfl ?_
  refine aw_iconst (n := 2) cx dL_law_418 (by decide) ?_
  refine aw_iadd cx dL_law_419 (by omega) (fun z419q hz419q => ?_)
  refine aw_sld cx sx dL_law_420 (⟨by omega, by omega⟩) (fun z420q hz420q => ?_)
  rw [show z420q = z401q by rw [hz420q, hz401q, hz419q, hz400q]]
  refine aw_aload_n cx dL_law_421 rfl 3 rfl ?_
  refine aw_iload_n cx dL_law_422 rfl 0 rfl ?_
  refine aw_iconst (n := 3) cx dL_law_423 (by decide) ?_
  refine aw_iadd cx dL_law_424 (by omega) (fun z424q hz424q => ?_)
  refine aw_sld cx sx dL_law_425 (⟨by omega, by omega⟩) (fun z425q hz425q => ?_)
  rw [show z425q = z406q by rw [hz425q, hz406q, hz424q, hz405q]]
  refine aw_callV (as := [aI z396q, aI z401q, aI z406q]) (k := 32) (stk := [aI z407q]) cx dL_law_426 ml_L_47 mv_X7_event rfl (lb_32 tl) (by decide) rfl rfl (Nat.le_of_ble_eq_true rfl) (ct_X7_event tl M_407q _ _ _ ) (fun rr426q M_426q hp426q => ?_)
  obtain ⟨z426q, rfl, hevM_426⟩ := hp426q
  refine aw_eq (stk2 := [aI z426q, aI z407q]) ?_ rfl rfl rfl rfl
  have hE := J_event hJ r18 hevM_407 hevM_426
  refine aw_icmp_eq (tgt := 1306) cx dL_law_429 (by decide) (fun c429q => ?_) (fun c429q => ?_)
  · exact kk _ hE.2
  · exfalso
    exact c429q hE.1
set_option maxHeartbeats 1000000 in
set_option maxRecDepth 100000 in
theorem law_c8 {X : CTX} (tl : List CD) (M : Mem) {Ln : Nat} {xs : Nat → Int32} (cx : Cx X cL_law RL 4 13) (sx : SX X Ln xs) (hLn : Ln ≤ 3072) (hJ : JA tl M) (x3q : Int) (h3q : 0 ≤ x3q ∧ x3q + 6 ≤ Ln) (kk : ∀ M2, JA tl M2 → AW X (LB ++ tl) 4 1306 [(3, aI x3q), (2, aR 32), (1, aR 0), (0, aR SCI)] [] M2) : AW X (LB ++ tl) 4 434 [(3, aI x3q), (2, aR 32), (1, aR 0), (0, aR SCI)] [] M := by
  refine aw_aload_n cx dL_law_434 rfl 2 rfl ?_
  refine aw_callV (as := []) (k := 0) (stk := []) cx dL_law_435 ml_L_48 mv_X6_back rfl (lb_0 tl) (by decide) rfl rfl (Nat.le_of_ble_eq_true rfl) (ct_X6_back tl M  ) (fun rr435q M_435q hp435q => ?_)
  obtain ⟨z435q, rfl, hbkM_435⟩ := hp435q
  refine aw_eq (stk2 := [aI z435q]) ?_ rfl rfl rfl rfl
  refine aw_aload_n cx dL_law_438 rfl 1 rfl ?_
  refine aw_callV (as := []) (k := 32) (stk := [aI z435q]) cx dL_law_439 ml_L_52 mv_X7_back rfl (lb_32 tl) (by decide) rfl rfl (Nat.le_of_ble_eq_true rfl) (ct_X7_back tl M_435q  ) (fun rr439q M_439q hp439q => ?_)
  obtain ⟨z439q, rfl, hbaM_439⟩ := hp439q
  refine aw_eq (stk2 := [aI z439q, aI z435q]) ?_ rfl rfl rfl rfl
  have hE := J_back hJ hbkM_435 hbaM_439
  refine aw_icmp_eq (tgt := 1306) cx dL_law_442 (by decide) (fun c442q => ?_) (fun c442q => ?_)
  · exact kk _ hE.2
  · exfalso
    exact c442q hE.1
set_option maxHeartbeats 1000000 in
set_option maxRecDepth 100000 in
theorem law_c23 {X : CTX} (tl : List CD) (M : Mem) {Ln : Nat} {xs : Nat → Int32} (cx : Cx X cL_law RL 4 13) (sx : SX X Ln xs) (hLn : Ln ≤ 3072) (hJ : JA tl M) (x3q : Int) (h3q : 0 ≤ x3q ∧ x3q + 6 ≤ Ln) (kk : ∀ M2, JA tl M2 → AW X (LB ++ tl) 4 1306 [(3, aI x3q), (2, aR 32), (1, aR 0), (0, aR SCI)] [] M2) : AW X (LB ++ tl) 4 809 [(3, aI x3q), (2, aR 32), (1, aR 0), (0, aR SCI)] [] M := by
  refine aw_ok (fun om => ?_)
  have r13 : 0 ≤ M 0 13 ∧ M 0 13 ≤ 8 := okF om (lb_0 tl) (j := 13) rfl (show (0 : Nat) ≠ 1 by decide)
  refine aw_aload_n cx dL_law_809 rfl 2 rfl ?_
  refine aw_aload_n cx dL_law_810 rfl 3 rfl ?_
  refine aw_iload_n cx dL_law_811 rfl 0 rfl ?_
  refine aw_iconst (n := 1) cx dL_law_812 (by decide) ?_
  refine aw_iadd cx dL_law_813 (by omega) (fun z813q hz813q => ?_)
  refine aw_sld cx sx dL_law_814 (⟨by omega, by omega⟩) (fun z814q hz814q => ?_)
  refine aw_aload_n cx dL_law_815 rfl 3 rfl ?_
  refine aw_iload_n cx dL_law_816 rfl 0 rfl ?_
  refine aw_iconst (n := 2) cx dL_law_817 (by decide) ?_
  refine aw_iadd cx dL_law_818 (by omega) (fun z818q hz818q => ?_)
  refine aw_sld cx sx dL_law_819 (⟨by omega, by omega⟩) (fun z819q hz819q => ?_)
  refine aw_callV (as := [aI z814q, aI z819q]) (k := 0) (stk := []) cx dL_law_820 ml_L_109 mv_X6_seen rfl (lb_0 tl) (by decide) rfl rfl (Nat.le_of_ble_eq_true rfl) (ct_X6_seen tl M _ _ ) (fun rr820q M_820q hp820q => ?_)
  obtain ⟨z820q, rfl, hseM_820⟩ := hp820q
  refine aw_eq (stk2 := [aI z820q]) ?_ rfl rfl rfl rfl
  refine aw_aload_n cx dL_law_823 rfl 1 rfl ?_
  refine aw_aload_n cx dL_law_824 rfl 3 rfl ?_
  refine aw_iload_n cx dL_law_825 rfl 0 rfl ?_
  refine aw_iconst (n := 1) cx dL_law_826 (by decide) ?_
  refine aw_iadd cx dL_law_827 (by omega) (fun z827q hz827q => ?_)
  refine aw_sld cx sx dL_law_828 (⟨by omega, by omega⟩) (fun z828q hz828q => ?_)
  rw [show z828q = z814q by rw [hz828q, hz814q, hz827q, hz813q]]
  refine aw_aload_n cx dL_law_829 rfl 3 rfl ?_
  refine aw_iload_n cx dL_law_830 rfl 0 rfl ?_
  refine aw_iconst (n := 2) cx dL_law_831 (by decide) ?_
  refine aw_iadd cx dL_law_832 (by omega) (fun z832q hz832q => ?_)
  refine aw_sld cx sx dL_law_833 (⟨by omega, by omega⟩) (fun z833q hz833q => ?_)
  rw [show z833q = z819q by rw [hz833q, hz819q, hz832q, hz818q]]
  refine aw_callV (as := [aI z814q, aI z819q]) (k := 32) (stk := [aI z820q]) cx dL_law_834 ml_L_112 mv_X7_seen rfl (lb_32 tl) (by decide) rfl rfl (Nat.le_of_ble_eq_true rfl) (ct_X7_seen tl M_820q _ _ ) (fun rr834q M_834q hp834q => ?_)
  obtain ⟨z834q, rfl, hseM_834⟩ := hp834q
  refine aw_eq (stk2 := [aI z834q, aI z820q]) ?_ rfl rfl rfl rfl
  have hE := J_seen hJ r13 hseM_820 hseM_834
  refine aw_icmp_eq (tgt := 1306) cx dL_law_837 (by decide) (fun c837q => ?_) (fun c837q => ?_)
  · exact kk _ hE.2
  · exfalso
    exact c837q hE.1
set_option maxHeartbeats 1000000 in
set_option maxRecDepth 100000 in
theorem law_c24 {X : CTX} (tl : List CD) (M : Mem) {Ln : Nat} {xs : Nat → Int32} (cx : Cx X cL_law RL 4 13) (sx : SX X Ln xs) (hLn : Ln ≤ 3072) (hJ : JA tl M) (x3q : Int) (h3q : 0 ≤ x3q ∧ x3q + 6 ≤ Ln) (kk : ∀ M2, JA tl M2 → AW X (LB ++ tl) 4 1306 [(3, aI x3q), (2, aR 32), (1, aR 0), (0, aR SCI)] [] M2) : AW X (LB ++ tl) 4 842 [(3, aI x3q), (2, aR 32), (1, aR 0), (0, aR SCI)] [] M := by
  refine aw_aload_n cx dL_law_842 rfl 2 rfl ?_
  refine aw_callV (as := []) (k := 0) (stk := []) cx dL_law_843 ml_L_113 mv_X6_forget rfl (lb_0 tl) (by decide) rfl rfl (Nat.le_of_ble_eq_true rfl) (ct_X6_forget tl M  ) (fun rr843q M_843q hp843q => ?_)
  obtain ⟨z843q, rfl, hxM_843, hMuM_843⟩ := hp843q
  refine aw_eq (stk2 := [aI z843q]) ?_ rfl rfl rfl rfl
  refine aw_aload_n cx dL_law_846 rfl 1 rfl ?_
  refine aw_callV (as := []) (k := 32) (stk := [aI z843q]) cx dL_law_847 ml_L_116 mv_X7_forget rfl (lb_32 tl) (by decide) rfl rfl (Nat.le_of_ble_eq_true rfl) (ct_X7_forget tl M_843q  ) (fun rr847q M_847q hp847q => ?_)
  obtain ⟨z847q, rfl, hxM_847, hMuM_847⟩ := hp847q
  refine aw_eq (stk2 := [aI z847q, aI z843q]) ?_ rfl rfl rfl rfl
  have hE := J_forget hJ hxM_843 hMuM_843 hxM_847 hMuM_847
  refine aw_icmp_eq (tgt := 1306) cx dL_law_850 (by decide) (fun c850q => ?_) (fun c850q => ?_)
  · exact kk _ hE.2
  · exfalso
    exact c850q hE.1
