set_option maxHeartbeats 1000000 in
set_option maxRecDepth 100000 in
theorem law_c3 {X : CTX} (tl : List CD) (M : Mem) {Ln : Nat} {xs : Nat → Int32} (cx : Cx X cL_law RL 4 13) (sx : SX X Ln xs) (hLn : Ln ≤ 3072) (hJ : JA tl M) (x3q : Int) (h3q : 0 ≤ x3q ∧ x3q + 6 ≤ Ln) (kk : ∀ M2, JA tl M2 → AW X (LB ++ tl) 4 1306 [(3, aI x3q), (2, aR 32), (1, aR 0), (0, aR SCI)] [] M2) : AW X (LB ++ tl) 4 279 [(3, aI x3q), (2, aR 32), (1, aR 0), (0, aR SCI)] [] M := by
  refine aw_aload_n cx dL_law_279 rfl 2 rfl ?_
  refine aw_aload_n cx dL_law_280 rfl 3 rfl ?_
  refine aw_iload_n cx dL_law_281 rfl 0 rfl ?_
  refine aw_iconst (n := 1) cx dL_law_282 (by decide) ?_
  refine aw_iadd cx dL_law_283 (by omega) (fun z283q hz283q => ?_)
  refine aw_sld cx sx dL_law_284 (⟨by omega, by omega⟩) (fun z284q hz284q => ?_)
  refine aw_callV (as := [aI z284q]) (k := 0) (stk := []) cx dL_law_285 ml_L_27 mv_X6_fault rfl (lb_0 tl) (by decide) rfl rfl (Nat.le_of_ble_eq_true rfl) (ct_X6_fault_h tl M _ ) (fun rr285q M_285q hp285q => ?_)
  obtain ⟨rfl, z285q, rfl, hanz285⟩ := hp285q
  refine aw_eq (stk2 := [aI z285q]) ?_ rfl rfl rfl rfl
  have hF : FR SC M M := FR.rf
  have hJ1 := JA_fr hJ hF
  refine aw_aload_n cx dL_law_288 rfl 1 rfl ?_
  refine aw_aload_n cx dL_law_289 rfl 3 rfl ?_
  refine aw_iload_n cx dL_law_290 rfl 0 rfl ?_
  refine aw_iconst (n := 1) cx dL_law_291 (by decide) ?_
  refine aw_iadd cx dL_law_292 (by omega) (fun z292q hz292q => ?_)
  refine aw_sld cx sx dL_law_293 (⟨by omega, by omega⟩) (fun z293q hz293q => ?_)
  rw [show z293q = z284q by rw [hz293q, hz284q, hz292q, hz283q]]
  refine aw_callV (as := [aI z284q]) (k := 32) (stk := [aI z285q]) cx dL_law_294 ml_L_30 mv_X7_fault rfl (lb_32 tl) (by decide) rfl rfl (Nat.le_of_ble_eq_true rfl) (ct_X7_fault tl M _ (hJ1.1)) (fun rr294q M_294q hp294q => ?_)
  obtain ⟨z294q, rfl, hfxM_294, hanM_294⟩ := hp294q
  refine aw_eq (stk2 := [aI z294q, aI z285q]) ?_ rfl rfl rfl rfl
  have hR := hanM_294
  refine aw_icmp_eq (tgt := 1306) cx dL_law_297 (by decide) (fun c297q => ?_) (fun c297q => ?_)
  · exact kk _ (JA_q hJ hF hfxM_294)
  · exfalso
    exact c297q (aFaultH_u hanz285 hR)
set_option maxHeartbeats 1000000 in
set_option maxRecDepth 100000 in
theorem law_c4 {X : CTX} (tl : List CD) (M : Mem) {Ln : Nat} {xs : Nat → Int32} (cx : Cx X cL_law RL 4 13) (sx : SX X Ln xs) (hLn : Ln ≤ 3072) (hJ : JA tl M) (x3q : Int) (h3q : 0 ≤ x3q ∧ x3q + 6 ≤ Ln) (kk : ∀ M2, JA tl M2 → AW X (LB ++ tl) 4 1306 [(3, aI x3q), (2, aR 32), (1, aR 0), (0, aR SCI)] [] M2) : AW X (LB ++ tl) 4 302 [(3, aI x3q), (2, aR 32), (1, aR 0), (0, aR SCI)] [] M := by
  refine aw_aload_n cx dL_law_302 rfl 2 rfl ?_
  refine aw_aload_n cx dL_law_303 rfl 3 rfl ?_
  refine aw_iload_n cx dL_law_304 rfl 0 rfl ?_
  refine aw_iconst (n := 1) cx dL_law_305 (by decide) ?_
  refine aw_iadd cx dL_law_306 (by omega) (fun z306q hz306q => ?_)
  refine aw_sld cx sx dL_law_307 (⟨by omega, by omega⟩) (fun z307q hz307q => ?_)
  refine aw_aload_n cx dL_law_308 rfl 3 rfl ?_
  refine aw_iload_n cx dL_law_309 rfl 0 rfl ?_
  refine aw_iconst (n := 2) cx dL_law_310 (by decide) ?_
  refine aw_iadd cx dL_law_311 (by omega) (fun z311q hz311q => ?_)
  refine aw_sld cx sx dL_law_312 (⟨by omega, by omega⟩) (fun z312q hz312q => ?_)
  refine aw_callV (as := [aI z307q, aI z312q]) (k := 0) (stk := []) cx dL_law_313 ml_L_31 mv_X6_tale rfl (lb_0 tl) (by decide) rfl rfl (Nat.le_of_ble_eq_true rfl) (ct_X6_tale tl M _ _ ) (fun rr313q M_313q hp313q => ?_)
  obtain ⟨rfl, z313q, rfl, htaz313⟩ := hp313q
  refine aw_eq (stk2 := [aI z313q]) ?_ rfl rfl rfl rfl
  have hF : FR SC M M := FR.rf
  have hJ1 := JA_fr hJ hF
  refine aw_aload_n cx dL_law_316 rfl 1 rfl ?_
  refine aw_aload_n cx dL_law_317 rfl 3 rfl ?_
  refine aw_iload_n cx dL_law_318 rfl 0 rfl ?_
  refine aw_iconst (n := 1) cx dL_law_319 (by decide) ?_
  refine aw_iadd cx dL_law_320 (by omega) (fun z320q hz320q => ?_)
  refine aw_sld cx sx dL_law_321 (⟨by omega, by omega⟩) (fun z321q hz321q => ?_)
  rw [show z321q = z307q by rw [hz321q, hz307q, hz320q, hz306q]]
  refine aw_aload_n cx dL_law_322 rfl 3 rfl ?_
  refine aw_iload_n cx dL_law_323 rfl 0 rfl ?_
  refine aw_iconst (n := 2) cx dL_law_324 (by decide) ?_
  refine aw_iadd cx dL_law_325 (by omega) (fun z325q hz325q => ?_)
  refine aw_sld cx sx dL_law_326 (⟨by omega, by omega⟩) (fun z326q hz326q => ?_)
  rw [show z326q = z312q by rw [hz326q, hz312q, hz325q, hz311q]]
  refine aw_callV (as := [aI z307q, aI z312q]) (k := 32) (stk := [aI z313q]) cx dL_law_327 ml_L_34 mv_X7_tale rfl (lb_32 tl) (by decide) rfl rfl (Nat.le_of_ble_eq_true rfl) (ct_X7_tale tl M _ _ (hJ1.1)) (fun rr327q M_327q hp327q => ?_)
  obtain ⟨z327q, rfl, hfxM_327, hanM_327⟩ := hp327q
  refine aw_eq (stk2 := [aI z327q, aI z313q]) ?_ rfl rfl rfl rfl
  have hR := hanM_327
  refine aw_icmp_eq (tgt := 1306) cx dL_law_330 (by decide) (fun c330q => ?_) (fun c330q => ?_)
  · exact kk _ (JA_q hJ hF hfxM_327)
  · exfalso
    exact c330q (aTale_u htaz313 hR)
set_option maxHeartbeats 1000000 in
set_option maxRecDepth 100000 in
theorem law_c5 {X : CTX} (tl : List CD) (M : Mem) {Ln : Nat} {xs : Nat → Int32} (cx : Cx X cL_law RL 4 13) (sx : SX X Ln xs) (hLn : Ln ≤ 3072) (hJ : JA tl M) (x3q : Int) (h3q : 0 ≤ x3q ∧ x3q + 6 ≤ Ln) (kk : ∀ M2, JA tl M2 → AW X (LB ++ tl) 4 1306 [(3, aI x3q), (2, aR 32), (1, aR 0), (0, aR SCI)] [] M2) : AW X (LB ++ tl) 4 335 [(3, aI x3q), (2, aR 32), (1, aR 0), (0, aR SCI)] [] M := by
  refine aw_aload_n cx dL_law_335 rfl 2 rfl ?_
  refine aw_aload_n cx dL_law_336 rfl 3 rfl ?_
  refine aw_iload_n cx dL_law_337 rfl 0 rfl ?_
  refine aw_iconst (n := 1) cx dL_law_338 (by decide) ?_
  refine aw_iadd cx dL_law_339 (by omega) (fun z339q hz339q => ?_)
  refine aw_sld cx sx dL_law_340 (⟨by omega, by omega⟩) (fun z340q hz340q => ?_)
  refine aw_aload_n cx dL_law_341 rfl 3 rfl ?_
  refine aw_iload_n cx dL_law_342 rfl 0 rfl ?_
  refine aw_iconst (n := 2) cx dL_law_343 (by decide) ?_
  refine aw_iadd cx dL_law_344 (by omega) (fun z344q hz344q => ?_)
  refine aw_sld cx sx dL_law_345 (⟨by omega, by omega⟩) (fun z345q hz345q => ?_)
  refine aw_callV (as := [aI z340q, aI z345q]) (k := 0) (stk := []) cx dL_law_346 ml_L_35 mv_X6_charge rfl (lb_0 tl) (by decide) rfl rfl (Nat.le_of_ble_eq_true rfl) (ct_X6_charge tl M _ _ ) (fun rr346q M_346q hp346q => ?_)
  obtain ⟨rfl, z346q, rfl, htaz346⟩ := hp346q
  refine aw_eq (stk2 := [aI z346q]) ?_ rfl rfl rfl rfl
  have hF : FR SC M M := FR.rf
  have hJ1 := JA_fr hJ hF
  refine aw_aload_n cx dL_law_349 rfl 1 rfl ?_
  refine aw_aload_n cx dL_law_350 rfl 3 rfl ?_
  refine aw_iload_n cx dL_law_351 rfl 0 rfl ?_
  refine aw_iconst (n := 1) cx dL_law_352 (by decide) ?_
  refine aw_iadd cx dL_law_353 (by omega) (fun z353q hz353q => ?_)
  refine aw_sld cx sx dL_law_354 (⟨by omega, by omega⟩) (fun z354q hz354q => ?_)
  rw [show z354q = z340q by rw [hz354q, hz340q, hz353q, hz339q]]
  refine aw_aload_n cx dL_law_355 rfl 3 rfl ?_
  refine aw_iload_n cx dL_law_356 rfl 0 rfl ?_
  refine aw_iconst (n := 2) cx dL_law_357 (by decide) ?_
  refine aw_iadd cx dL_law_358 (by omega) (fun z358q hz358q => ?_)
  refine aw_sld cx sx dL_law_359 (⟨by omega, by omega⟩) (fun z359q hz359q => ?_)
  rw [show z359q = z345q by rw [hz359q, hz345q, hz358q, hz344q]]
  refine aw_callV (as := [aI z340q, aI z345q]) (k := 32) (stk := [aI z346q]) cx dL_law_360 ml_L_38 mv_X7_charge rfl (lb_32 tl) (by decide) rfl rfl (Nat.le_of_ble_eq_true rfl) (ct_X7_charge tl M _ _ (hJ1.1)) (fun rr360q M_360q hp360q => ?_)
  obtain ⟨z360q, rfl, hfxM_360, hanM_360⟩ := hp360q
  refine aw_eq (stk2 := [aI z360q, aI z346q]) ?_ rfl rfl rfl rfl
  have hR := hanM_360
  refine aw_icmp_eq (tgt := 1306) cx dL_law_363 (by decide) (fun c363q => ?_) (fun c363q => ?_)
  · exact kk _ (JA_q hJ hF hfxM_360)
  · exfalso
    exact c363q (aCharge_u htaz346 hR)
set_option maxHeartbeats 1000000 in
set_option maxRecDepth 100000 in
theorem law_c10 {X : CTX} (tl : List CD) (M : Mem) {Ln : Nat} {xs : Nat → Int32} (cx : Cx X cL_law RL 4 13) (sx : SX X Ln xs) (hLn : Ln ≤ 3072) (hJ : JA tl M) (x3q : Int) (h3q : 0 ≤ x3q ∧ x3q + 6 ≤ Ln) (kk : ∀ M2, JA tl M2 → AW X (LB ++ tl) 4 1306 [(3, aI x3q), (2, aR 32), (1, aR 0), (0, aR SCI)] [] M2) : AW X (LB ++ tl) 4 470 [(3, aI x3q), (2, aR 32), (1, aR 0), (0, aR SCI)] [] M := by
  refine aw_aload_n cx dL_law_470 rfl 2 rfl ?_
  refine aw_aload_n cx dL_law_471 rfl 3 rfl ?_
  refine aw_iload_n cx dL_law_472 rfl 0 rfl ?_
  refine aw_iconst (n := 1) cx dL_law_473 (by decide) ?_
  refine aw_iadd cx dL_law_474 (by omega) (fun z474q hz474q => ?_)
  refine aw_sld cx sx dL_law_475 (⟨by omega, by omega⟩) (fun z475q hz475q => ?_)
  refine aw_aload_n cx dL_law_476 rfl 3 rfl ?_
  refine aw_iload_n cx dL_law_477 rfl 0 rfl ?_
  refine aw_iconst (n := 2) cx dL_law_478 (by decide) ?_
  refine aw_iadd cx dL_law_479 (by omega) (fun z479q hz479q => ?_)
  refine aw_sld cx sx dL_law_480 (⟨by omega, by omega⟩) (fun z480q hz480q => ?_)
  refine aw_callV (as := [aI z475q, aI z480q]) (k := 0) (stk := []) cx dL_law_481 ml_L_57 mv_X6_clash rfl (lb_0 tl) (by decide) rfl rfl (Nat.le_of_ble_eq_true rfl) (ct_X6_clash tl M _ _ ) (fun rr481q M_481q hp481q => ?_)
  obtain ⟨rfl, z481q, rfl, hclz481⟩ := hp481q
  refine aw_eq (stk2 := [aI z481q]) ?_ rfl rfl rfl rfl
  have hF : FR SC M M := FR.rf
  have hJ1 := JA_fr hJ hF
  refine aw_aload_n cx dL_law_484 rfl 1 rfl ?_
  refine aw_aload_n cx dL_law_485 rfl 3 rfl ?_
  refine aw_iload_n cx dL_law_486 rfl 0 rfl ?_
  refine aw_iconst (n := 1) cx dL_law_487 (by decide) ?_
  refine aw_iadd cx dL_law_488 (by omega) (fun z488q hz488q => ?_)
  refine aw_sld cx sx dL_law_489 (⟨by omega, by omega⟩) (fun z489q hz489q => ?_)
  rw [show z489q = z475q by rw [hz489q, hz475q, hz488q, hz474q]]
  refine aw_aload_n cx dL_law_490 rfl 3 rfl ?_
  refine aw_iload_n cx dL_law_491 rfl 0 rfl ?_
  refine aw_iconst (n := 2) cx dL_law_492 (by decide) ?_
  refine aw_iadd cx dL_law_493 (by omega) (fun z493q hz493q => ?_)
  refine aw_sld cx sx dL_law_494 (⟨by omega, by omega⟩) (fun z494q hz494q => ?_)
  rw [show z494q = z480q by rw [hz494q, hz480q, hz493q, hz479q]]
  refine aw_callV (as := [aI z475q, aI z480q]) (k := 32) (stk := [aI z481q]) cx dL_law_495 ml_L_60 mv_X7_clash rfl (lb_32 tl) (by decide) rfl rfl (Nat.le_of_ble_eq_true rfl) (ct_X7_clash tl M _ _ (hJ1.1)) (fun rr495q M_495q hp495q => ?_)
  obtain ⟨z495q, rfl, hfxM_495, hanM_495⟩ := hp495q
  refine aw_eq (stk2 := [aI z495q, aI z481q]) ?_ rfl rfl rfl rfl
  have hR := hanM_495
  refine aw_icmp_eq (tgt := 1306) cx dL_law_498 (by decide) (fun c498q => ?_) (fun c498q => ?_)
  · exact kk _ (JA_q hJ hF hfxM_495)
  · exfalso
    exact c498q ((by have q1q := hclz481; have q2q := hR; omega))
set_option maxHeartbeats 1000000 in
set_option maxRecDepth 100000 in
theorem law_c11 {X : CTX} (tl : List CD) (M : Mem) {Ln : Nat} {xs : Nat → Int32} (cx : Cx X cL_law RL 4 13) (sx : SX X Ln xs) (hLn : Ln ≤ 3072) (hJ : JA tl M) (x3q : Int) (h3q : 0 ≤ x3q ∧ x3q + 6 ≤ Ln) (kk : ∀ M2, JA tl M2 → AW X (LB ++ tl) 4 1306 [(3, aI x3q), (2, aR 32), (1, aR 0), (0, aR SCI)] [] M2) : AW X (LB ++ tl) 4 503 [(3, aI x3q), (2, aR 32), (1, aR 0), (0, aR SCI)] [] M := by
  refine aw_aload_n cx dL_law_503 rfl 2 rfl ?_
  refine aw_aload_n cx dL_law_504 rfl 3 rfl ?_
  refine aw_iload_n cx dL_law_505 rfl 0 rfl ?_
  refine aw_iconst (n := 1) cx dL_law_506 (by decide) ?_
  refine aw_iadd cx dL_law_507 (by omega) (fun z507q hz507q => ?_)
  refine aw_sld cx sx dL_law_508 (⟨by omega, by omega⟩) (fun z508q hz508q => ?_)
  refine aw_aload_n cx dL_law_509 rfl 3 rfl ?_
  refine aw_iload_n cx dL_law_510 rfl 0 rfl ?_
  refine aw_iconst (n := 2) cx dL_law_511 (by decide) ?_
  refine aw_iadd cx dL_law_512 (by omega) (fun z512q hz512q => ?_)
  refine aw_sld cx sx dL_law_513 (⟨by omega, by omega⟩) (fun z513q hz513q => ?_)
  refine aw_callV (as := [aI z508q, aI z513q]) (k := 0) (stk := []) cx dL_law_514 ml_L_61 mv_X6_stands rfl (lb_0 tl) (by decide) rfl rfl (Nat.le_of_ble_eq_true rfl) (ct_X6_stands tl M _ _ ) (fun rr514q M_514q hp514q => ?_)
  obtain ⟨z514q, rfl, hfrM_514, hstM_514⟩ := hp514q
  refine aw_eq (stk2 := [aI z514q]) ?_ rfl rfl rfl rfl
  have hF : FR SC M M_514q := hfrM_514
  have hJ1 := JA_fr hJ hF
  refine aw_aload_n cx dL_law_517 rfl 1 rfl ?_
  refine aw_aload_n cx dL_law_518 rfl 3 rfl ?_
  refine aw_iload_n cx dL_law_519 rfl 0 rfl ?_
  refine aw_iconst (n := 1) cx dL_law_520 (by decide) ?_
  refine aw_iadd cx dL_law_521 (by omega) (fun z521q hz521q => ?_)
  refine aw_sld cx sx dL_law_522 (⟨by omega, by omega⟩) (fun z522q hz522q => ?_)
  rw [show z522q = z508q by rw [hz522q, hz508q, hz521q, hz507q]]
  refine aw_aload_n cx dL_law_523 rfl 3 rfl ?_
  refine aw_iload_n cx dL_law_524 rfl 0 rfl ?_
  refine aw_iconst (n := 2) cx dL_law_525 (by decide) ?_
  refine aw_iadd cx dL_law_526 (by omega) (fun z526q hz526q => ?_)
  refine aw_sld cx sx dL_law_527 (⟨by omega, by omega⟩) (fun z527q hz527q => ?_)
  rw [show z527q = z513q by rw [hz527q, hz513q, hz526q, hz512q]]
  refine aw_callV (as := [aI z508q, aI z513q]) (k := 32) (stk := [aI z514q]) cx dL_law_528 ml_L_64 mv_X7_stands rfl (lb_32 tl) (by decide) rfl rfl (Nat.le_of_ble_eq_true rfl) (ct_X7_stands tl M_514q _ _ (hJ1.1)) (fun rr528q M_528q hp528q => ?_)
  obtain ⟨z528q, rfl, hfxM_528, hanM_528⟩ := hp528q
  refine aw_eq (stk2 := [aI z528q, aI z514q]) ?_ rfl rfl rfl rfl
  have hR := hanM_528
  rw [hF 5 (by decide), (fg_sc hF).1] at hR
  refine aw_icmp_eq (tgt := 1306) cx dL_law_531 (by decide) (fun c531q => ?_) (fun c531q => ?_)
  · exact kk _ (JA_q hJ hF hfxM_528)
  · exfalso
    exact c531q (aStands_u hstM_514 hR)
set_option maxHeartbeats 1000000 in
set_option maxRecDepth 100000 in
theorem law_c12 {X : CTX} (tl : List CD) (M : Mem) {Ln : Nat} {xs : Nat → Int32} (cx : Cx X cL_law RL 4 13) (sx : SX X Ln xs) (hLn : Ln ≤ 3072) (hJ : JA tl M) (x3q : Int) (h3q : 0 ≤ x3q ∧ x3q + 6 ≤ Ln) (kk : ∀ M2, JA tl M2 → AW X (LB ++ tl) 4 1306 [(3, aI x3q), (2, aR 32), (1, aR 0), (0, aR SCI)] [] M2) : AW X (LB ++ tl) 4 536 [(3, aI x3q), (2, aR 32), (1, aR 0), (0, aR SCI)] [] M := by
  refine aw_aload_n cx dL_law_536 rfl 2 rfl ?_
  refine aw_aload_n cx dL_law_537 rfl 3 rfl ?_
  refine aw_iload_n cx dL_law_538 rfl 0 rfl ?_
  refine aw_iconst (n := 1) cx dL_law_539 (by decide) ?_
  refine aw_iadd cx dL_law_540 (by omega) (fun z540q hz540q => ?_)
  refine aw_sld cx sx dL_law_541 (⟨by omega, by omega⟩) (fun z541q hz541q => ?_)
  refine aw_aload_n cx dL_law_542 rfl 3 rfl ?_
  refine aw_iload_n cx dL_law_543 rfl 0 rfl ?_
  refine aw_iconst (n := 2) cx dL_law_544 (by decide) ?_
  refine aw_iadd cx dL_law_545 (by omega) (fun z545q hz545q => ?_)
  refine aw_sld cx sx dL_law_546 (⟨by omega, by omega⟩) (fun z546q hz546q => ?_)
  refine aw_aload_n cx dL_law_547 rfl 3 rfl ?_
  refine aw_iload_n cx dL_law_548 rfl 0 rfl ?_
  refine aw_iconst (n := 3) cx dL_law_549 (by decide) ?_
  refine aw_iadd cx dL_law_550 (by omega) (fun z550q hz550q => ?_)
  refine aw_sld cx sx dL_law_551 (⟨by omega, by omega⟩) (fun z551q hz551q => ?_)
  refine aw_callV (as := [aI z541q, aI z546q, aI z551q]) (k := 0) (stk := []) cx dL_law_552 ml_L_65 mv_X6_man rfl (lb_0 tl) (by decide) rfl rfl (Nat.le_of_ble_eq_true rfl) (ct_X6_man tl M _ _ _ ) (fun rr552q M_552q hp552q => ?_)
  obtain ⟨z552q, rfl, hfrM_552, hstM_552⟩ := hp552q
  refine aw_eq (stk2 := [aI z552q]) ?_ rfl rfl rfl rfl
  have hF : FR SC M M_552q := hfrM_552
  have hJ1 := JA_fr hJ hF
  refine aw_aload_n cx dL_law_555 rfl 1 rfl ?_
  refine aw_aload_n cx dL_law_556 rfl 3 rfl ?_
  refine aw_iload_n cx dL_law_557 rfl 0 rfl ?_
  refine aw_iconst (n := 1) cx dL_law_558 (by decide) ?_
  refine aw_iadd cx dL_law_559 (by omega) (fun z559q hz559q => ?_)
  refine aw_sld cx sx dL_law_560 (⟨by omega, by omega⟩) (fun z560q hz560q => ?_)
  rw [show z560q = z541q by rw [hz560q, hz541q, hz559q, hz540q]]
  refine aw_aload_n cx dL_law_561 rfl 3 rfl ?_
  refine aw_iload_n cx dL_law_562 rfl 0 rfl ?_
  refine aw_iconst (n := 2) cx dL_law_563 (by decide) ?_
  refine aw_iadd cx dL_law_564 (by omega) (fun z564q hz564q => ?_)
  refine aw_sld cx sx dL_law_565 (⟨by omega, by omega⟩) (fun z565q hz565q => ?_)
  rw [show z565q = z546q by rw [hz565q, hz546q, hz564q, hz545q]]
  refine aw_aload_n cx dL_law_566 rfl 3 rfl ?_
  refine aw_iload_n cx dL_law_567 rfl 0 rfl ?_
  refine aw_iconst (n := 3) cx dL_law_568 (by decide) ?_
  refine aw_iadd cx dL_law_569 (by omega) (fun z569q hz569q => ?_)
  refine aw_sld cx sx dL_law_570 (⟨by omega, by omega⟩) (fun z570q hz570q => ?_)
  rw [show z570q = z551q by rw [hz570q, hz551q, hz569q, hz550q]]
  refine aw_callV (as := [aI z541q, aI z546q, aI z551q]) (k := 32) (stk := [aI z552q]) cx dL_law_571 ml_L_68 mv_X7_man rfl (lb_32 tl) (by decide) rfl rfl (Nat.le_of_ble_eq_true rfl) (ct_X7_man tl M_552q _ _ _ (hJ1.1)) (fun rr571q M_571q hp571q => ?_)
  obtain ⟨z571q, rfl, hfxM_571, hanM_571⟩ := hp571q
  refine aw_eq (stk2 := [aI z571q, aI z552q]) ?_ rfl rfl rfl rfl
  have hR := hanM_571
  rw [(fg_sc hF).1] at hR
  refine aw_icmp_eq (tgt := 1306) cx dL_law_574 (by decide) (fun c574q => ?_) (fun c574q => ?_)
  · exact kk _ (JA_q hJ hF hfxM_571)
  · exfalso
    exact c574q (aMan_u hstM_552 hR)
set_option maxHeartbeats 1000000 in
set_option maxRecDepth 100000 in
theorem law_c13 {X : CTX} (tl : List CD) (M : Mem) {Ln : Nat} {xs : Nat → Int32} (cx : Cx X cL_law RL 4 13) (sx : SX X Ln xs) (hLn : Ln ≤ 3072) (hJ : JA tl M) (x3q : Int) (h3q : 0 ≤ x3q ∧ x3q + 6 ≤ Ln) (kk : ∀ M2, JA tl M2 → AW X (LB ++ tl) 4 1306 [(3, aI x3q), (2, aR 32), (1, aR 0), (0, aR SCI)] [] M2) : AW X (LB ++ tl) 4 579 [(3, aI x3q), (2, aR 32), (1, aR 0), (0, aR SCI)] [] M := by
  refine aw_aload_n cx dL_law_579 rfl 2 rfl ?_
  refine aw_aload_n cx dL_law_580 rfl 3 rfl ?_
  refine aw_iload_n cx dL_law_581 rfl 0 rfl ?_
  refine aw_iconst (n := 1) cx dL_law_582 (by decide) ?_
  refine aw_iadd cx dL_law_583 (by omega) (fun z583q hz583q => ?_)
  refine aw_sld cx sx dL_law_584 (⟨by omega, by omega⟩) (fun z584q hz584q => ?_)
  refine aw_callV (as := [aI z584q]) (k := 0) (stk := []) cx dL_law_585 ml_L_69 mv_X6_belief rfl (lb_0 tl) (by decide) rfl rfl (Nat.le_of_ble_eq_true rfl) (ct_X6_belief tl M _ ) (fun rr585q M_585q hp585q => ?_)
  obtain ⟨z585q, rfl, hfrM_585, hstM_585⟩ := hp585q
  refine aw_eq (stk2 := [aI z585q]) ?_ rfl rfl rfl rfl
  have hF : FR SC M M_585q := hfrM_585.mono (by decide)
  have hJ1 := JA_fr hJ hF
  refine aw_aload_n cx dL_law_588 rfl 1 rfl ?_
  refine aw_aload_n cx dL_law_589 rfl 3 rfl ?_
  refine aw_iload_n cx dL_law_590 rfl 0 rfl ?_
  refine aw_iconst (n := 1) cx dL_law_591 (by decide) ?_
  refine aw_iadd cx dL_law_592 (by omega) (fun z592q hz592q => ?_)
  refine aw_sld cx sx dL_law_593 (⟨by omega, by omega⟩) (fun z593q hz593q => ?_)
  rw [show z593q = z584q by rw [hz593q, hz584q, hz592q, hz583q]]
  refine aw_callV (as := [aI z584q]) (k := 32) (stk := [aI z585q]) cx dL_law_594 ml_L_72 mv_X7_belief rfl (lb_32 tl) (by decide) rfl rfl (Nat.le_of_ble_eq_true rfl) (ct_X7_belief tl M_585q _ (hJ1.1)) (fun rr594q M_594q hp594q => ?_)
  obtain ⟨z594q, rfl, hfxM_594, hanM_594⟩ := hp594q
  refine aw_eq (stk2 := [aI z594q, aI z585q]) ?_ rfl rfl rfl rfl
  have hR := hanM_594
  rw [hF 15 (by decide), (fg_sc hF).1, (fg_sc hF).2] at hR
  refine aw_icmp_eq (tgt := 1306) cx dL_law_597 (by decide) (fun c597q => ?_) (fun c597q => ?_)
  · exact kk _ (JA_q hJ hF hfxM_594)
  · exfalso
    exact c597q (aBelief_u hstM_585 hR)
set_option maxHeartbeats 1000000 in
set_option maxRecDepth 100000 in
theorem law_c14 {X : CTX} (tl : List CD) (M : Mem) {Ln : Nat} {xs : Nat → Int32} (cx : Cx X cL_law RL 4 13) (sx : SX X Ln xs) (hLn : Ln ≤ 3072) (hJ : JA tl M) (x3q : Int) (h3q : 0 ≤ x3q ∧ x3q + 6 ≤ Ln) (kk : ∀ M2, JA tl M2 → AW X (LB ++ tl) 4 1306 [(3, aI x3q), (2, aR 32), (1, aR 0), (0, aR SCI)] [] M2) : AW X (LB ++ tl) 4 602 [(3, aI x3q), (2, aR 32), (1, aR 0), (0, aR SCI)] [] M := by
  refine aw_aload_n cx dL_law_602 rfl 2 rfl ?_
  refine aw_aload_n cx dL_law_603 rfl 3 rfl ?_
  refine aw_iload_n cx dL_law_604 rfl 0 rfl ?_
  refine aw_iconst (n := 1) cx dL_law_605 (by decide) ?_
  refine aw_iadd cx dL_law_606 (by omega) (fun z606q hz606q => ?_)
  refine aw_sld cx sx dL_law_607 (⟨by omega, by omega⟩) (fun z607q hz607q => ?_)
  refine aw_aload_n cx dL_law_608 rfl 3 rfl ?_
  refine aw_iload_n cx dL_law_609 rfl 0 rfl ?_
  refine aw_iconst (n := 2) cx dL_law_610 (by decide) ?_
  refine aw_iadd cx dL_law_611 (by omega) (fun z611q hz611q => ?_)
  refine aw_sld cx sx dL_law_612 (⟨by omega, by omega⟩) (fun z612q hz612q => ?_)
  refine aw_callV (as := [aI z607q, aI z612q]) (k := 0) (stk := []) cx dL_law_613 ml_L_73 mv_X6_cleared rfl (lb_0 tl) (by decide) rfl rfl (Nat.le_of_ble_eq_true rfl) (ct_X6_cleared tl M _ _ ) (fun rr613q M_613q hp613q => ?_)
  obtain ⟨z613q, rfl, hfrM_613, hstM_613⟩ := hp613q
  refine aw_eq (stk2 := [aI z613q]) ?_ rfl rfl rfl rfl
  have hF : FR SC M M_613q := hfrM_613.mono (by decide)
  have hJ1 := JA_fr hJ hF
  refine aw_aload_n cx dL_law_616 rfl 1 rfl ?_
  refine aw_aload_n cx dL_law_617 rfl 3 rfl ?_
  refine aw_iload_n cx dL_law_618 rfl 0 rfl ?_
  refine aw_iconst (n := 1) cx dL_law_619 (by decide) ?_
  refine aw_iadd cx dL_law_620 (by omega) (fun z620q hz620q => ?_)
  refine aw_sld cx sx dL_law_621 (⟨by omega, by omega⟩) (fun z621q hz621q => ?_)
  rw [show z621q = z607q by rw [hz621q, hz607q, hz620q, hz606q]]
  refine aw_aload_n cx dL_law_622 rfl 3 rfl ?_
  refine aw_iload_n cx dL_law_623 rfl 0 rfl ?_
  refine aw_iconst (n := 2) cx dL_law_624 (by decide) ?_
  refine aw_iadd cx dL_law_625 (by omega) (fun z625q hz625q => ?_)
  refine aw_sld cx sx dL_law_626 (⟨by omega, by omega⟩) (fun z626q hz626q => ?_)
  rw [show z626q = z612q by rw [hz626q, hz612q, hz625q, hz611q]]
  refine aw_callV (as := [aI z607q, aI z612q]) (k := 32) (stk := [aI z613q]) cx dL_law_627 ml_L_76 mv_X7_cleared rfl (lb_32 tl) (by decide) rfl rfl (Nat.le_of_ble_eq_true rfl) (ct_X7_cleared tl M_613q _ _ (hJ1.1)) (fun rr627q M_627q hp627q => ?_)
  obtain ⟨z627q, rfl, hfxM_627, hanM_627⟩ := hp627q
  refine aw_eq (stk2 := [aI z627q, aI z613q]) ?_ rfl rfl rfl rfl
  have hR := hanM_627
  rw [hF 15 (by decide), (fg_sc hF).1, (fg_sc hF).2] at hR
  refine aw_icmp_eq (tgt := 1306) cx dL_law_630 (by decide) (fun c630q => ?_) (fun c630q => ?_)
  · exact kk _ (JA_q hJ hF hfxM_627)
  · exfalso
    exact c630q (aCleared_u hstM_613 hR)
set_option maxHeartbeats 1000000 in
set_option maxRecDepth 100000 in
theorem law_c15 {X : CTX} (tl : List CD) (M : Mem) {Ln : Nat} {xs : Nat → Int32} (cx : Cx X cL_law RL 4 13) (sx : SX X Ln xs) (hLn : Ln ≤ 3072) (hJ : JA tl M) (x3q : Int) (h3q : 0 ≤ x3q ∧ x3q + 6 ≤ Ln) (kk : ∀ M2, JA tl M2 → AW X (LB ++ tl) 4 1306 [(3, aI x3q), (2, aR 32), (1, aR 0), (0, aR SCI)] [] M2) : AW X (LB ++ tl) 4 635 [(3, aI x3q), (2, aR 32), (1, aR 0), (0, aR SCI)] [] M := by
  refine aw_aload_n cx dL_law_635 rfl 2 rfl ?_
  refine aw_aload_n cx dL_law_636 rfl 3 rfl ?_
  refine aw_iload_n cx dL_law_637 rfl 0 rfl ?_
  refine aw_iconst (n := 1) cx dL_law_638 (by decide) ?_
  refine aw_iadd cx dL_law_639 (by omega) (fun z639q hz639q => ?_)
  refine aw_sld cx sx dL_law_640 (⟨by omega, by omega⟩) (fun z640q hz640q => ?_)
  refine aw_callV (as := [aI z640q]) (k := 0) (stk := []) cx dL_law_641 ml_L_77 mv_X6_sum rfl (lb_0 tl) (by decide) rfl rfl (Nat.le_of_ble_eq_true rfl) (ct_X6_sum tl M _ ) (fun rr641q M_641q hp641q => ?_)
  obtain ⟨z641q, rfl, hfrM_641, hsuM_641⟩ := hp641q
  refine aw_eq (stk2 := [aI z641q]) ?_ rfl rfl rfl rfl
  have hF : FR SC M M_641q := hfrM_641
  have hJ1 := JA_fr hJ hF
  refine aw_aload_n cx dL_law_644 rfl 1 rfl ?_
  refine aw_aload_n cx dL_law_645 rfl 3 rfl ?_
  refine aw_iload_n cx dL_law_646 rfl 0 rfl ?_
  refine aw_iconst (n := 1) cx dL_law_647 (by decide) ?_
  refine aw_iadd cx dL_law_648 (by omega) (fun z648q hz648q => ?_)
  refine aw_sld cx sx dL_law_649 (⟨by omega, by omega⟩) (fun z649q hz649q => ?_)
  rw [show z649q = z640q by rw [hz649q, hz640q, hz648q, hz639q]]
  refine aw_callV (as := [aI z640q]) (k := 32) (stk := [aI z641q]) cx dL_law_650 ml_L_80 mv_X7_sum rfl (lb_32 tl) (by decide) rfl rfl (Nat.le_of_ble_eq_true rfl) (ct_X7_sum tl M_641q _ (hJ1.1)) (fun rr650q M_650q hp650q => ?_)
  obtain ⟨z650q, rfl, hfxM_650, hanM_650⟩ := hp650q
  refine aw_eq (stk2 := [aI z650q, aI z641q]) ?_ rfl rfl rfl rfl
  have hR := hanM_650
  rw [(fg_sc hF).1, (fg_sc hF).2] at hR
  refine aw_icmp_eq (tgt := 1306) cx dL_law_653 (by decide) (fun c653q => ?_) (fun c653q => ?_)
  · exact kk _ (JA_q hJ hF hfxM_650)
  · exfalso
    exact c653q (aSum_u hsuM_641 hR)
set_option maxHeartbeats 1000000 in
set_option maxRecDepth 100000 in
theorem law_c16 {X : CTX} (tl : List CD) (M : Mem) {Ln : Nat} {xs : Nat → Int32} (cx : Cx X cL_law RL 4 13) (sx : SX X Ln xs) (hLn : Ln ≤ 3072) (hJ : JA tl M) (x3q : Int) (h3q : 0 ≤ x3q ∧ x3q + 6 ≤ Ln) (kk : ∀ M2, JA tl M2 → AW X (LB ++ tl) 4 1306 [(3, aI x3q), (2, aR 32), (1, aR 0), (0, aR SCI)] [] M2) : AW X (LB ++ tl) 4 658 [(3, aI x3q), (2, aR 32), (1, aR 0), (0, aR SCI)] [] M := by
  refine aw_aload_n cx dL_law_658 rfl 2 rfl ?_
  refine aw_callV (as := []) (k := 0) (stk := []) cx dL_law_659 ml_L_81 mv_X6_liar rfl (lb_0 tl) (by decide) rfl rfl (Nat.le_of_ble_eq_true rfl) (ct_X6_liar tl M  ) (fun rr659q M_659q hp659q => ?_)
  obtain ⟨z659q, rfl, hfrM_659, hliM_659⟩ := hp659q
  refine aw_eq (stk2 := [aI z659q]) ?_ rfl rfl rfl rfl
  have hF : FR SC M M_659q := hfrM_659
  have hJ1 := JA_fr hJ hF
  refine aw_aload_n cx dL_law_662 rfl 1 rfl ?_
  refine aw_callV (as := []) (k := 32) (stk := [aI z659q]) cx dL_law_663 ml_L_84 mv_X7_liar rfl (lb_32 tl) (by decide) rfl rfl (Nat.le_of_ble_eq_true rfl) (ct_X7_liar tl M_659q  (hJ1.1)) (fun rr663q M_663q hp663q => ?_)
  obtain ⟨z663q, rfl, hfxM_663, hanM_663⟩ := hp663q
  refine aw_eq (stk2 := [aI z663q, aI z659q]) ?_ rfl rfl rfl rfl
  have hR := hanM_663
  rw [(fg_sc hF).1] at hR
  refine aw_icmp_eq (tgt := 1306) cx dL_law_666 (by decide) (fun c666q => ?_) (fun c666q => ?_)
  · exact kk _ (JA_q hJ hF hfxM_663)
  · exfalso
    exact c666q (aLiar_u hliM_659 hR)
set_option maxHeartbeats 1000000 in
set_option maxRecDepth 100000 in
theorem law_c17 {X : CTX} (tl : List CD) (M : Mem) {Ln : Nat} {xs : Nat → Int32} (cx : Cx X cL_law RL 4 13) (sx : SX X Ln xs) (hLn : Ln ≤ 3072) (hJ : JA tl M) (x3q : Int) (h3q : 0 ≤ x3q ∧ x3q + 6 ≤ Ln) (kk : ∀ M2, JA tl M2 → AW X (LB ++ tl) 4 1306 [(3, aI x3q), (2, aR 32), (1, aR 0), (0, aR SCI)] [] M2) : AW X (LB ++ tl) 4 671 [(3, aI x3q), (2, aR 32), (1, aR 0), (0, aR SCI)] [] M := by
  refine aw_aload_n cx dL_law_671 rfl 2 rfl ?_
  refine aw_callV (as := []) (k := 0) (stk := []) cx dL_law_672 ml_L_85 mv_X6_best rfl (lb_0 tl) (by decide) rfl rfl (Nat.le_of_ble_eq_true rfl) (ct_X6_best tl M  ) (fun rr672q M_672q hp672q => ?_)
  obtain ⟨z672q, rfl, hfrM_672, hbeM_672⟩ := hp672q
  refine aw_eq (stk2 := [aI z672q]) ?_ rfl rfl rfl rfl
  have hF : FR SC M M_672q := hfrM_672
  have hJ1 := JA_fr hJ hF
  refine aw_aload_n cx dL_law_675 rfl 1 rfl ?_
  refine aw_callV (as := []) (k := 32) (stk := [aI z672q]) cx dL_law_676 ml_L_88 mv_X7_best rfl (lb_32 tl) (by decide) rfl rfl (Nat.le_of_ble_eq_true rfl) (ct_X7_best tl M_672q  (hJ1.1)) (fun rr676q M_676q hp676q => ?_)
  obtain ⟨z676q, rfl, hfxM_676, hanM_676⟩ := hp676q
  refine aw_eq (stk2 := [aI z676q, aI z672q]) ?_ rfl rfl rfl rfl
  have hR := hanM_676
  rw [(fg_sc hF).1] at hR
  refine aw_icmp_eq (tgt := 1306) cx dL_law_679 (by decide) (fun c679q => ?_) (fun c679q => ?_)
  · exact kk _ (JA_q hJ hF hfxM_676)
  · exfalso
    exact c679q (aBest_u hbeM_672 hR)
set_option maxHeartbeats 1000000 in
set_option maxRecDepth 100000 in
theorem law_c18 {X : CTX} (tl : List CD) (M : Mem) {Ln : Nat} {xs : Nat → Int32} (cx : Cx X cL_law RL 4 13) (sx : SX X Ln xs) (hLn : Ln ≤ 3072) (hJ : JA tl M) (x3q : Int) (h3q : 0 ≤ x3q ∧ x3q + 6 ≤ Ln) (kk : ∀ M2, JA tl M2 → AW X (LB ++ tl) 4 1306 [(3, aI x3q), (2, aR 32), (1, aR 0), (0, aR SCI)] [] M2) : AW X (LB ++ tl) 4 684 [(3, aI x3q), (2, aR 32), (1, aR 0), (0, aR SCI)] [] M := by
  refine aw_aload_n cx dL_law_684 rfl 2 rfl ?_
  refine aw_aload_n cx dL_law_685 rfl 3 rfl ?_
  refine aw_iload_n cx dL_law_686 rfl 0 rfl ?_
  refine aw_iconst (n := 1) cx dL_law_687 (by decide) ?_
  refine aw_iadd cx dL_law_688 (by omega) (fun z688q hz688q => ?_)
  refine aw_sld cx sx dL_law_689 (⟨by omega, by omega⟩) (fun z689q hz689q => ?_)
  refine aw_callV (as := [aI z689q]) (k := 0) (stk := []) cx dL_law_690 ml_L_89 mv_X6_where rfl (lb_0 tl) (by decide) rfl rfl (Nat.le_of_ble_eq_true rfl) (ct_X6_where tl M _ ) (fun rr690q M_690q hp690q => ?_)
  obtain ⟨z690q, rfl, hfrM_690, hwhM_690⟩ := hp690q
  refine aw_eq (stk2 := [aI z690q]) ?_ rfl rfl rfl rfl
  have hF : FR SC M M_690q := hfrM_690
  have hJ1 := JA_fr hJ hF
  refine aw_aload_n cx dL_law_693 rfl 1 rfl ?_
  refine aw_aload_n cx dL_law_694 rfl 3 rfl ?_
  refine aw_iload_n cx dL_law_695 rfl 0 rfl ?_
  refine aw_iconst (n := 1) cx dL_law_696 (by decide) ?_
  refine aw_iadd cx dL_law_697 (by omega) (fun z697q hz697q => ?_)
  refine aw_sld cx sx dL_law_698 (⟨by omega, by omega⟩) (fun z698q hz698q => ?_)
  rw [show z698q = z689q by rw [hz698q, hz689q, hz697q, hz688q]]
  refine aw_callV (as := [aI z689q]) (k := 32) (stk := [aI z690q]) cx dL_law_699 ml_L_92 mv_X7_where rfl (lb_32 tl) (by decide) rfl rfl (Nat.le_of_ble_eq_true rfl) (ct_X7_where tl M_690q _ (hJ1.1)) (fun rr699q M_699q hp699q => ?_)
  obtain ⟨z699q, rfl, hfxM_699, hanM_699⟩ := hp699q
  refine aw_eq (stk2 := [aI z699q, aI z690q]) ?_ rfl rfl rfl rfl
  have hR := hanM_699
  rw [(fg_sc hF).1] at hR
  refine aw_icmp_eq (tgt := 1306) cx dL_law_702 (by decide) (fun c702q => ?_) (fun c702q => ?_)
  · exact kk _ (JA_q hJ hF hfxM_699)
  · exfalso
    exact c702q (aWhere_u hwhM_690 hR)
set_option maxHeartbeats 1000000 in
set_option maxRecDepth 100000 in
theorem law_c19 {X : CTX} (tl : List CD) (M : Mem) {Ln : Nat} {xs : Nat → Int32} (cx : Cx X cL_law RL 4 13) (sx : SX X Ln xs) (hLn : Ln ≤ 3072) (hJ : JA tl M) (x3q : Int) (h3q : 0 ≤ x3q ∧ x3q + 6 ≤ Ln) (kk : ∀ M2, JA tl M2 → AW X (LB ++ tl) 4 1306 [(3, aI x3q), (2, aR 32), (1, aR 0), (0, aR SCI)] [] M2) : AW X (LB ++ tl) 4 707 [(3, aI x3q), (2, aR 32), (1, aR 0), (0, aR SCI)] [] M := by
  refine aw_aload_n cx dL_law_707 rfl 2 rfl ?_
  refine aw_aload_n cx dL_law_708 rfl 3 rfl ?_
  refine aw_iload_n cx dL_law_709 rfl 0 rfl ?_
  refine aw_iconst (n := 1) cx dL_law_710 (by decide) ?_
  refine aw_iadd cx dL_law_711 (by omega) (fun z711q hz711q => ?_)
  refine aw_sld cx sx dL_law_712 (⟨by omega, by omega⟩) (fun z712q hz712q => ?_)
  refine aw_aload_n cx dL_law_713 rfl 3 rfl ?_
  refine aw_iload_n cx dL_law_714 rfl 0 rfl ?_
  refine aw_iconst (n := 2) cx dL_law_715 (by decide) ?_
  refine aw_iadd cx dL_law_716 (by omega) (fun z716q hz716q => ?_)
  refine aw_sld cx sx dL_law_717 (⟨by omega, by omega⟩) (fun z717q hz717q => ?_)
  refine aw_callV (as := [aI z712q, aI z717q]) (k := 0) (stk := []) cx dL_law_718 ml_L_93 mv_X6_move rfl (lb_0 tl) (by decide) rfl rfl (Nat.le_of_ble_eq_true rfl) (ct_X6_move tl M _ _ ) (fun rr718q M_718q hp718q => ?_)
  obtain ⟨z718q, rfl, hfrM_718, hmvM_718⟩ := hp718q
  refine aw_eq (stk2 := [aI z718q]) ?_ rfl rfl rfl rfl
  have hF : FR SC M M_718q := hfrM_718
  have hJ1 := JA_fr hJ hF
  refine aw_aload_n cx dL_law_721 rfl 1 rfl ?_
  refine aw_aload_n cx dL_law_722 rfl 3 rfl ?_
  refine aw_iload_n cx dL_law_723 rfl 0 rfl ?_
  refine aw_iconst (n := 1) cx dL_law_724 (by decide) ?_
  refine aw_iadd cx dL_law_725 (by omega) (fun z725q hz725q => ?_)
  refine aw_sld cx sx dL_law_726 (⟨by omega, by omega⟩) (fun z726q hz726q => ?_)
  rw [show z726q = z712q by rw [hz726q, hz712q, hz725q, hz711q]]
  refine aw_aload_n cx dL_law_727 rfl 3 rfl ?_
  refine aw_iload_n cx dL_law_728 rfl 0 rfl ?_
  refine aw_iconst (n := 2) cx dL_law_729 (by decide) ?_
  refine aw_iadd cx dL_law_730 (by omega) (fun z730q hz730q => ?_)
  refine aw_sld cx sx dL_law_731 (⟨by omega, by omega⟩) (fun z731q hz731q => ?_)
  rw [show z731q = z717q by rw [hz731q, hz717q, hz730q, hz716q]]
  refine aw_callV (as := [aI z712q, aI z717q]) (k := 32) (stk := [aI z718q]) cx dL_law_732 ml_L_96 mv_X7_move rfl (lb_32 tl) (by decide) rfl rfl (Nat.le_of_ble_eq_true rfl) (ct_X7_move tl M_718q _ _ (hJ1.1)) (fun rr732q M_732q hp732q => ?_)
  obtain ⟨z732q, rfl, hfxM_732, hanM_732⟩ := hp732q
  refine aw_eq (stk2 := [aI z732q, aI z718q]) ?_ rfl rfl rfl rfl
  have hR := hanM_732
  rw [hF 5 (by decide), (fg_sc hF).1, (fg_sc hF).2] at hR
  refine aw_icmp_eq (tgt := 1306) cx dL_law_735 (by decide) (fun c735q => ?_) (fun c735q => ?_)
  · exact kk _ (JA_q hJ hF hfxM_732)
  · exfalso
    exact c735q (aPick_u hmvM_718 hR)
set_option maxHeartbeats 1000000 in
set_option maxRecDepth 100000 in
theorem law_c20 {X : CTX} (tl : List CD) (M : Mem) {Ln : Nat} {xs : Nat → Int32} (cx : Cx X cL_law RL 4 13) (sx : SX X Ln xs) (hLn : Ln ≤ 3072) (hJ : JA tl M) (x3q : Int) (h3q : 0 ≤ x3q ∧ x3q + 6 ≤ Ln) (kk : ∀ M2, JA tl M2 → AW X (LB ++ tl) 4 1306 [(3, aI x3q), (2, aR 32), (1, aR 0), (0, aR SCI)] [] M2) : AW X (LB ++ tl) 4 740 [(3, aI x3q), (2, aR 32), (1, aR 0), (0, aR SCI)] [] M := by
  refine aw_aload_n cx dL_law_740 rfl 2 rfl ?_
  refine aw_aload_n cx dL_law_741 rfl 3 rfl ?_
  refine aw_iload_n cx dL_law_742 rfl 0 rfl ?_
  refine aw_iconst (n := 1) cx dL_law_743 (by decide) ?_
  refine aw_iadd cx dL_law_744 (by omega) (fun z744q hz744q => ?_)
  refine aw_sld cx sx dL_law_745 (⟨by omega, by omega⟩) (fun z745q hz745q => ?_)
  refine aw_callV (as := [aI z745q]) (k := 0) (stk := []) cx dL_law_746 ml_L_97 mv_X6_drop rfl (lb_0 tl) (by decide) rfl rfl (Nat.le_of_ble_eq_true rfl) (ct_X6_drop tl M _ ) (fun rr746q M_746q hp746q => ?_)
  obtain ⟨z746q, rfl, hfrM_746, hdrM_746⟩ := hp746q
  refine aw_eq (stk2 := [aI z746q]) ?_ rfl rfl rfl rfl
  have hF : FR SC M M_746q := hfrM_746
  have hJ1 := JA_fr hJ hF
  refine aw_aload_n cx dL_law_749 rfl 1 rfl ?_
  refine aw_aload_n cx dL_law_750 rfl 3 rfl ?_
  refine aw_iload_n cx dL_law_751 rfl 0 rfl ?_
  refine aw_iconst (n := 1) cx dL_law_752 (by decide) ?_
  refine aw_iadd cx dL_law_753 (by omega) (fun z753q hz753q => ?_)
  refine aw_sld cx sx dL_law_754 (⟨by omega, by omega⟩) (fun z754q hz754q => ?_)
  rw [show z754q = z745q by rw [hz754q, hz745q, hz753q, hz744q]]
  refine aw_callV (as := [aI z745q]) (k := 32) (stk := [aI z746q]) cx dL_law_755 ml_L_100 mv_X7_drop rfl (lb_32 tl) (by decide) rfl rfl (Nat.le_of_ble_eq_true rfl) (ct_X7_drop tl M_746q _ (hJ1.1)) (fun rr755q M_755q hp755q => ?_)
  obtain ⟨z755q, rfl, hfxM_755, hanM_755⟩ := hp755q
  refine aw_eq (stk2 := [aI z755q, aI z746q]) ?_ rfl rfl rfl rfl
  have hR := hanM_755
  rw [(fg_sc hF).1, (fg_sc hF).2, hF 5 (by decide)] at hR
  refine aw_icmp_eq (tgt := 1306) cx dL_law_758 (by decide) (fun c758q => ?_) (fun c758q => ?_)
  · exact kk _ (JA_q hJ hF hfxM_755)
  · exfalso
    exact c758q (aPick_u hdrM_746 hR)
set_option maxHeartbeats 1000000 in
set_option maxRecDepth 100000 in
theorem law_c21 {X : CTX} (tl : List CD) (M : Mem) {Ln : Nat} {xs : Nat → Int32} (cx : Cx X cL_law RL 4 13) (sx : SX X Ln xs) (hLn : Ln ≤ 3072) (hJ : JA tl M) (x3q : Int) (h3q : 0 ≤ x3q ∧ x3q + 6 ≤ Ln) (kk : ∀ M2, JA tl M2 → AW X (LB ++ tl) 4 1306 [(3, aI x3q), (2, aR 32), (1, aR 0), (0, aR SCI)] [] M2) : AW X (LB ++ tl) 4 763 [(3, aI x3q), (2, aR 32), (1, aR 0), (0, aR SCI)] [] M := by
  refine aw_ok (fun om => ?_)
  have hsz : 0 ≤ M 5 4 ∧ M 5 4 ≤ 12 := okF om (lb_5 tl) (j := 4) rfl (show (0 : Nat) ≠ 1 by decide)
  refine aw_aload_n cx dL_law_763 rfl 2 rfl ?_
  refine aw_aload_n cx dL_law_764 rfl 3 rfl ?_
  refine aw_iload_n cx dL_law_765 rfl 0 rfl ?_
  refine aw_iconst (n := 1) cx dL_law_766 (by decide) ?_
  refine aw_iadd cx dL_law_767 (by omega) (fun z767q hz767q => ?_)
  refine aw_sld cx sx dL_law_768 (⟨by omega, by omega⟩) (fun z768q hz768q => ?_)
  refine aw_callV (as := [aI z768q]) (k := 0) (stk := []) cx dL_law_769 ml_L_101 mv_X6_clean rfl (lb_0 tl) (by decide) rfl rfl (Nat.le_of_ble_eq_true rfl) (ct_X6_clean tl M _ ) (fun rr769q M_769q hp769q => ?_)
  obtain ⟨rfl, z769q, rfl, hclz769⟩ := hp769q
  refine aw_eq (stk2 := [aI z769q]) ?_ rfl rfl rfl rfl
  have hF : FR SC M M := FR.rf
  have hJ1 := JA_fr hJ hF
  refine aw_aload_n cx dL_law_772 rfl 1 rfl ?_
  refine aw_aload_n cx dL_law_773 rfl 3 rfl ?_
  refine aw_iload_n cx dL_law_774 rfl 0 rfl ?_
  refine aw_iconst (n := 1) cx dL_law_775 (by decide) ?_
  refine aw_iadd cx dL_law_776 (by omega) (fun z776q hz776q => ?_)
  refine aw_sld cx sx dL_law_777 (⟨by omega, by omega⟩) (fun z777q hz777q => ?_)
  rw [show z777q = z768q by rw [hz777q, hz768q, hz776q, hz767q]]
  refine aw_callV (as := [aI z768q]) (k := 32) (stk := [aI z769q]) cx dL_law_778 ml_L_104 mv_X7_clean rfl (lb_32 tl) (by decide) rfl rfl (Nat.le_of_ble_eq_true rfl) (ct_X7_clean tl M _ (hJ1.1)) (fun rr778q M_778q hp778q => ?_)
  obtain ⟨z778q, rfl, hfxM_778, hanM_778⟩ := hp778q
  refine aw_eq (stk2 := [aI z778q, aI z769q]) ?_ rfl rfl rfl rfl
  have hR := hanM_778
  refine aw_icmp_eq (tgt := 1306) cx dL_law_781 (by decide) (fun c781q => ?_) (fun c781q => ?_)
  · exact kk _ (JA_q hJ hF hfxM_778)
  · exfalso
    exact c781q (aClean_u (by omega) hclz769 hR)
set_option maxHeartbeats 1000000 in
set_option maxRecDepth 100000 in
theorem law_c22 {X : CTX} (tl : List CD) (M : Mem) {Ln : Nat} {xs : Nat → Int32} (cx : Cx X cL_law RL 4 13) (sx : SX X Ln xs) (hLn : Ln ≤ 3072) (hJ : JA tl M) (x3q : Int) (h3q : 0 ≤ x3q ∧ x3q + 6 ≤ Ln) (kk : ∀ M2, JA tl M2 → AW X (LB ++ tl) 4 1306 [(3, aI x3q), (2, aR 32), (1, aR 0), (0, aR SCI)] [] M2) : AW X (LB ++ tl) 4 786 [(3, aI x3q), (2, aR 32), (1, aR 0), (0, aR SCI)] [] M := by
  refine aw_aload_n cx dL_law_786 rfl 2 rfl ?_
  refine aw_aload_n cx dL_law_787 rfl 3 rfl ?_
  refine aw_iload_n cx dL_law_788 rfl 0 rfl ?_
  refine aw_iconst (n := 1) cx dL_law_789 (by decide) ?_
  refine aw_iadd cx dL_law_790 (by omega) (fun z790q hz790q => ?_)
  refine aw_sld cx sx dL_law_791 (⟨by omega, by omega⟩) (fun z791q hz791q => ?_)
  refine aw_callV (as := [aI z791q]) (k := 0) (stk := []) cx dL_law_792 ml_L_105 mv_X6_spare rfl (lb_0 tl) (by decide) rfl rfl (Nat.le_of_ble_eq_true rfl) (ct_X6_spare tl M _ ) (fun rr792q M_792q hp792q => ?_)
  obtain ⟨z792q, rfl, hfrM_792, hspM_792⟩ := hp792q
  refine aw_eq (stk2 := [aI z792q]) ?_ rfl rfl rfl rfl
  have hF : FR SC M M_792q := hfrM_792
  have hJ1 := JA_fr hJ hF
  refine aw_aload_n cx dL_law_795 rfl 1 rfl ?_
  refine aw_aload_n cx dL_law_796 rfl 3 rfl ?_
  refine aw_iload_n cx dL_law_797 rfl 0 rfl ?_
  refine aw_iconst (n := 1) cx dL_law_798 (by decide) ?_
  refine aw_iadd cx dL_law_799 (by omega) (fun z799q hz799q => ?_)
  refine aw_sld cx sx dL_law_800 (⟨by omega, by omega⟩) (fun z800q hz800q => ?_)
  rw [show z800q = z791q by rw [hz800q, hz791q, hz799q, hz790q]]
  refine aw_callV (as := [aI z791q]) (k := 32) (stk := [aI z792q]) cx dL_law_801 ml_L_108 mv_X7_spare rfl (lb_32 tl) (by decide) rfl rfl (Nat.le_of_ble_eq_true rfl) (ct_X7_spare tl M_792q _ (hJ1.1)) (fun rr801q M_801q hp801q => ?_)
  obtain ⟨z801q, rfl, hfxM_801, hanM_801⟩ := hp801q
  refine aw_eq (stk2 := [aI z801q, aI z792q]) ?_ rfl rfl rfl rfl
  have hR := hanM_801
  rw [(fg_sc hF).1, (fg_sc hF).2] at hR
  refine aw_icmp_eq (tgt := 1306) cx dL_law_804 (by decide) (fun c804q => ?_) (fun c804q => ?_)
  · exact kk _ (JA_q hJ hF hfxM_801)
  · exfalso
    exact c804q (aSpare_u hspM_792 hR)
set_option maxHeartbeats 1000000 in
set_option maxRecDepth 100000 in
theorem law_c25 {X : CTX} (tl : List CD) (M : Mem) {Ln : Nat} {xs : Nat → Int32} (cx : Cx X cL_law RL 4 13) (sx : SX X Ln xs) (hLn : Ln ≤ 3072) (hJ : JA tl M) (x3q : Int) (h3q : 0 ≤ x3q ∧ x3q + 6 ≤ Ln) (kk : ∀ M2, JA tl M2 → AW X (LB ++ tl) 4 1306 [(3, aI x3q), (2, aR 32), (1, aR 0), (0, aR SCI)] [] M2) : AW X (LB ++ tl) 4 855 [(3, aI x3q), (2, aR 32), (1, aR 0), (0, aR SCI)] [] M := by
  refine aw_aload_n cx dL_law_855 rfl 2 rfl ?_
  refine aw_callV (as := []) (k := 0) (stk := []) cx dL_law_856 ml_L_117 mv_X6_never rfl (lb_0 tl) (by decide) rfl rfl (Nat.le_of_ble_eq_true rfl) (ct_X6_never tl M  ) (fun rr856q M_856q hp856q => ?_)
  obtain ⟨z856q, rfl, hfrM_856, hnvM_856⟩ := hp856q
  refine aw_eq (stk2 := [aI z856q]) ?_ rfl rfl rfl rfl
  have hF : FR SC M M_856q := hfrM_856
  have hJ1 := JA_fr hJ hF
  refine aw_aload_n cx dL_law_859 rfl 1 rfl ?_
  refine aw_callV (as := []) (k := 32) (stk := [aI z856q]) cx dL_law_860 ml_L_120 mv_X7_never rfl (lb_32 tl) (by decide) rfl rfl (Nat.le_of_ble_eq_true rfl) (ct_X7_never tl M_856q  (hJ1.1)) (fun rr860q M_860q hp860q => ?_)
  obtain ⟨z860q, rfl, hfxM_860, hanM_860⟩ := hp860q
  refine aw_eq (stk2 := [aI z860q, aI z856q]) ?_ rfl rfl rfl rfl
  have hR := hanM_860
  rw [(fg_sc hF).1, (fg_sc hF).2, hF 0 (by decide), hF 27 (by decide), hF 28 (by decide)] at hR
  refine aw_icmp_eq (tgt := 1306) cx dL_law_863 (by decide) (fun c863q => ?_) (fun c863q => ?_)
  · exact kk _ (JA_q hJ hF hfxM_860)
  · exfalso
    exact c863q (aNever_u hnvM_856 hR)
set_option maxHeartbeats 1000000 in
set_option maxRecDepth 100000 in
theorem law_c26 {X : CTX} (tl : List CD) (M : Mem) {Ln : Nat} {xs : Nat → Int32} (cx : Cx X cL_law RL 4 13) (sx : SX X Ln xs) (hLn : Ln ≤ 3072) (hJ : JA tl M) (x3q : Int) (h3q : 0 ≤ x3q ∧ x3q + 6 ≤ Ln) (kk : ∀ M2, JA tl M2 → AW X (LB ++ tl) 4 1306 [(3, aI x3q), (2, aR 32), (1, aR 0), (0, aR SCI)] [] M2) : AW X (LB ++ tl) 4 868 [(3, aI x3q), (2, aR 32), (1, aR 0), (0, aR SCI)] [] M := by
  refine aw_aload_n cx dL_law_868 rfl 2 rfl ?_
  refine aw_aload_n cx dL_law_869 rfl 3 rfl ?_
  refine aw_iload_n cx dL_law_870 rfl 0 rfl ?_
  refine aw_iconst (n := 1) cx dL_law_871 (by decide) ?_
  refine aw_iadd cx dL_law_872 (by omega) (fun z872q hz872q => ?_)
  refine aw_sld cx sx dL_law_873 (⟨by omega, by omega⟩) (fun z873q hz873q => ?_)
  refine aw_aload_n cx dL_law_874 rfl 3 rfl ?_
  refine aw_iload_n cx dL_law_875 rfl 0 rfl ?_
  refine aw_iconst (n := 2) cx dL_law_876 (by decide) ?_
  refine aw_iadd cx dL_law_877 (by omega) (fun z877q hz877q => ?_)
  refine aw_sld cx sx dL_law_878 (⟨by omega, by omega⟩) (fun z878q hz878q => ?_)
  refine aw_callV (as := [aI z873q, aI z878q]) (k := 0) (stk := []) cx dL_law_879 ml_L_121 mv_X6_was rfl (lb_0 tl) (by decide) rfl rfl (Nat.le_of_ble_eq_true rfl) (ct_X6_was_h tl M _ _ ) (fun rr879q M_879q hp879q => ?_)
  obtain ⟨z879q, rfl, hfrM_879, hanM_879⟩ := hp879q
  refine aw_eq (stk2 := [aI z879q]) ?_ rfl rfl rfl rfl
  have hF : FR SC M M_879q := hfrM_879
  have hJ1 := JA_fr hJ hF
  refine aw_aload_n cx dL_law_882 rfl 1 rfl ?_
  refine aw_aload_n cx dL_law_883 rfl 3 rfl ?_
  refine aw_iload_n cx dL_law_884 rfl 0 rfl ?_
  refine aw_iconst (n := 1) cx dL_law_885 (by decide) ?_
  refine aw_iadd cx dL_law_886 (by omega) (fun z886q hz886q => ?_)
  refine aw_sld cx sx dL_law_887 (⟨by omega, by omega⟩) (fun z887q hz887q => ?_)
  rw [show z887q = z873q by rw [hz887q, hz873q, hz886q, hz872q]]
  refine aw_aload_n cx dL_law_888 rfl 3 rfl ?_
  refine aw_iload_n cx dL_law_889 rfl 0 rfl ?_
  refine aw_iconst (n := 2) cx dL_law_890 (by decide) ?_
  refine aw_iadd cx dL_law_891 (by omega) (fun z891q hz891q => ?_)
  refine aw_sld cx sx dL_law_892 (⟨by omega, by omega⟩) (fun z892q hz892q => ?_)
  rw [show z892q = z878q by rw [hz892q, hz878q, hz891q, hz877q]]
  refine aw_callV (as := [aI z873q, aI z878q]) (k := 32) (stk := [aI z879q]) cx dL_law_893 ml_L_124 mv_X7_was rfl (lb_32 tl) (by decide) rfl rfl (Nat.le_of_ble_eq_true rfl) (ct_X7_was tl M_879q _ _ (hJ1.1)) (fun rr893q M_893q hp893q => ?_)
  obtain ⟨z893q, rfl, hfxM_893, hanM_893⟩ := hp893q
  refine aw_eq (stk2 := [aI z893q, aI z879q]) ?_ rfl rfl rfl rfl
  have hR := hanM_893
  rw [hF 5 (by decide), (fg_sc hF).1, (fg_sc hF).2, hF 0 (by decide), hF 27 (by decide), hF 28 (by decide)] at hR
  refine aw_icmp_eq (tgt := 1306) cx dL_law_896 (by decide) (fun c896q => ?_) (fun c896q => ?_)
  · exact kk _ (JA_q hJ hF hfxM_893)
  · exfalso
    exact c896q (aWas_u hanM_879 hR)
set_option maxHeartbeats 1000000 in
set_option maxRecDepth 100000 in
theorem law_c27 {X : CTX} (tl : List CD) (M : Mem) {Ln : Nat} {xs : Nat → Int32} (cx : Cx X cL_law RL 4 13) (sx : SX X Ln xs) (hLn : Ln ≤ 3072) (hJ : JA tl M) (x3q : Int) (h3q : 0 ≤ x3q ∧ x3q + 6 ≤ Ln) (kk : ∀ M2, JA tl M2 → AW X (LB ++ tl) 4 1306 [(3, aI x3q), (2, aR 32), (1, aR 0), (0, aR SCI)] [] M2) : AW X (LB ++ tl) 4 901 [(3, aI x3q), (2, aR 32), (1, aR 0), (0, aR SCI)] [] M := by
  refine aw_aload_n cx dL_law_901 rfl 2 rfl ?_
  refine aw_aload_n cx dL_law_902 rfl 3 rfl ?_
  refine aw_iload_n cx dL_law_903 rfl 0 rfl ?_
  refine aw_iconst (n := 1) cx dL_law_904 (by decide) ?_
  refine aw_iadd cx dL_law_905 (by omega) (fun z905q hz905q => ?_)
  refine aw_sld cx sx dL_law_906 (⟨by omega, by omega⟩) (fun z906q hz906q => ?_)
  refine aw_callV (as := [aI z906q]) (k := 0) (stk := []) cx dL_law_907 ml_L_125 mv_X6_ask rfl (lb_0 tl) (by decide) rfl rfl (Nat.le_of_ble_eq_true rfl) (ct_X6_ask tl M _ ) (fun rr907q M_907q hp907q => ?_)
  obtain ⟨z907q, rfl, hfrM_907, hakM_907⟩ := hp907q
  refine aw_eq (stk2 := [aI z907q]) ?_ rfl rfl rfl rfl
  have hF : FR SC M M_907q := hfrM_907
  have hJ1 := JA_fr hJ hF
  refine aw_aload_n cx dL_law_910 rfl 1 rfl ?_
  refine aw_aload_n cx dL_law_911 rfl 3 rfl ?_
  refine aw_iload_n cx dL_law_912 rfl 0 rfl ?_
  refine aw_iconst (n := 1) cx dL_law_913 (by decide) ?_
  refine aw_iadd cx dL_law_914 (by omega) (fun z914q hz914q => ?_)
  refine aw_sld cx sx dL_law_915 (⟨by omega, by omega⟩) (fun z915q hz915q => ?_)
  rw [show z915q = z906q by rw [hz915q, hz906q, hz914q, hz905q]]
  refine aw_callV (as := [aI z906q]) (k := 32) (stk := [aI z907q]) cx dL_law_916 ml_L_128 mv_X7_ask rfl (lb_32 tl) (by decide) rfl rfl (Nat.le_of_ble_eq_true rfl) (ct_X7_ask tl M_907q _ (hJ1.1)) (fun rr916q M_916q hp916q => ?_)
  obtain ⟨z916q, rfl, hfxM_916, hanM_916⟩ := hp916q
  refine aw_eq (stk2 := [aI z916q, aI z907q]) ?_ rfl rfl rfl rfl
  have hR := hanM_916
  rw [hF 5 (by decide), (fg_sc hF).1, (fg_sc hF).2, hF 0 (by decide), hF 27 (by decide), hF 28 (by decide)] at hR
  refine aw_icmp_eq (tgt := 1306) cx dL_law_919 (by decide) (fun c919q => ?_) (fun c919q => ?_)
  · exact kk _ (JA_q hJ hF hfxM_916)
  · exfalso
    exact c919q (aAsk_u hakM_907 hR)
set_option maxHeartbeats 1000000 in
set_option maxRecDepth 100000 in
theorem law_c28 {X : CTX} (tl : List CD) (M : Mem) {Ln : Nat} {xs : Nat → Int32} (cx : Cx X cL_law RL 4 13) (sx : SX X Ln xs) (hLn : Ln ≤ 3072) (hJ : JA tl M) (x3q : Int) (h3q : 0 ≤ x3q ∧ x3q + 6 ≤ Ln) (kk : ∀ M2, JA tl M2 → AW X (LB ++ tl) 4 1306 [(3, aI x3q), (2, aR 32), (1, aR 0), (0, aR SCI)] [] M2) : AW X (LB ++ tl) 4 924 [(3, aI x3q), (2, aR 32), (1, aR 0), (0, aR SCI)] [] M := by
  refine aw_aload_n cx dL_law_924 rfl 2 rfl ?_
  refine aw_aload_n cx dL_law_925 rfl 3 rfl ?_
  refine aw_iload_n cx dL_law_926 rfl 0 rfl ?_
  refine aw_iconst (n := 1) cx dL_law_927 (by decide) ?_
  refine aw_iadd cx dL_law_928 (by omega) (fun z928q hz928q => ?_)
  refine aw_sld cx sx dL_law_929 (⟨by omega, by omega⟩) (fun z929q hz929q => ?_)
  refine aw_aload_n cx dL_law_930 rfl 3 rfl ?_
  refine aw_iload_n cx dL_law_931 rfl 0 rfl ?_
  refine aw_iconst (n := 2) cx dL_law_932 (by decide) ?_
  refine aw_iadd cx dL_law_933 (by omega) (fun z933q hz933q => ?_)
  refine aw_sld cx sx dL_law_934 (⟨by omega, by omega⟩) (fun z934q hz934q => ?_)
  refine aw_aload_n cx dL_law_935 rfl 3 rfl ?_
  refine aw_iload_n cx dL_law_936 rfl 0 rfl ?_
  refine aw_iconst (n := 3) cx dL_law_937 (by decide) ?_
  refine aw_iadd cx dL_law_938 (by omega) (fun z938q hz938q => ?_)
  refine aw_sld cx sx dL_law_939 (⟨by omega, by omega⟩) (fun z939q hz939q => ?_)
  refine aw_callV (as := [aI z929q, aI z934q, aI z939q]) (k := 0) (stk := []) cx dL_law_940 ml_L_129 mv_X6_chance rfl (lb_0 tl) (by decide) rfl rfl (Nat.le_of_ble_eq_true rfl) (ct_X6_chance tl M _ _ _ ) (fun rr940q M_940q hp940q => ?_)
  obtain ⟨z940q, rfl, hfrM_940, hchM_940⟩ := hp940q
  refine aw_eq (stk2 := [aL z940q]) ?_ rfl rfl rfl rfl
  have hF : FR SC M M_940q := hfrM_940
  have hJ1 := JA_fr hJ hF
  refine aw_aload_n cx dL_law_943 rfl 1 rfl ?_
  refine aw_aload_n cx dL_law_944 rfl 3 rfl ?_
  refine aw_iload_n cx dL_law_945 rfl 0 rfl ?_
  refine aw_iconst (n := 1) cx dL_law_946 (by decide) ?_
  refine aw_iadd cx dL_law_947 (by omega) (fun z947q hz947q => ?_)
  refine aw_sld cx sx dL_law_948 (⟨by omega, by omega⟩) (fun z948q hz948q => ?_)
  rw [show z948q = z929q by rw [hz948q, hz929q, hz947q, hz928q]]
  refine aw_aload_n cx dL_law_949 rfl 3 rfl ?_
  refine aw_iload_n cx dL_law_950 rfl 0 rfl ?_
  refine aw_iconst (n := 2) cx dL_law_951 (by decide) ?_
  refine aw_iadd cx dL_law_952 (by omega) (fun z952q hz952q => ?_)
  refine aw_sld cx sx dL_law_953 (⟨by omega, by omega⟩) (fun z953q hz953q => ?_)
  rw [show z953q = z934q by rw [hz953q, hz934q, hz952q, hz933q]]
  refine aw_aload_n cx dL_law_954 rfl 3 rfl ?_
  refine aw_iload_n cx dL_law_955 rfl 0 rfl ?_
  refine aw_iconst (n := 3) cx dL_law_956 (by decide) ?_
  refine aw_iadd cx dL_law_957 (by omega) (fun z957q hz957q => ?_)
  refine aw_sld cx sx dL_law_958 (⟨by omega, by omega⟩) (fun z958q hz958q => ?_)
  rw [show z958q = z939q by rw [hz958q, hz939q, hz957q, hz938q]]
  refine aw_callV (as := [aI z929q, aI z934q, aI z939q]) (k := 32) (stk := [aL z940q]) cx dL_law_959 ml_L_133 mv_X7_chance rfl (lb_32 tl) (by decide) rfl rfl (Nat.le_of_ble_eq_true rfl) (ct_X7_chance tl M_940q _ _ _ (hJ1.1)) (fun rr959q M_959q hp959q => ?_)
  obtain ⟨z959q, rfl, hfxM_959, hanM_959⟩ := hp959q
  refine aw_eq (stk2 := [aL z959q, aL z940q]) ?_ rfl rfl rfl rfl
  have hR := hanM_959
  rw [hF 15 (by decide), (fg_sc hF).1, (fg_sc hF).2] at hR
  refine aw_lcmp cx dL_law_962 (fun c962q => ?_) (fun c962q => ?_) (fun c962q => ?_)
  · exfalso
    have qe := aChance_u hchM_940 hR; omega
  · refine aw_if_eq (tgt := 1306) cx dL_law_963 (by decide) (fun c963q => ?_) (fun c963q => ?_)
    · exact kk _ (JA_q hJ hF hfxM_959)
    · exact absurd c963q (by decide)
  · exfalso
    have qe := aChance_u hchM_940 hR; omega
set_option maxHeartbeats 1000000 in
set_option maxRecDepth 100000 in
theorem law_c29 {X : CTX} (tl : List CD) (M : Mem) {Ln : Nat} {xs : Nat → Int32} (cx : Cx X cL_law RL 4 13) (sx : SX X Ln xs) (hLn : Ln ≤ 3072) (hJ : JA tl M) (x3q : Int) (h3q : 0 ≤ x3q ∧ x3q + 6 ≤ Ln) (kk : ∀ M2, JA tl M2 → AW X (LB ++ tl) 4 1306 [(3, aI x3q), (2, aR 32), (1, aR 0), (0, aR SCI)] [] M2) : AW X (LB ++ tl) 4 968 [(3, aI x3q), (2, aR 32), (1, aR 0), (0, aR SCI)] [] M := by
  refine aw_aload_n cx dL_law_968 rfl 2 rfl ?_
  refine aw_aload_n cx dL_law_969 rfl 3 rfl ?_
  refine aw_iload_n cx dL_law_970 rfl 0 rfl ?_
  refine aw_iconst (n := 1) cx dL_law_971 (by decide) ?_
  refine aw_iadd cx dL_law_972 (by omega) (fun z972q hz972q => ?_)
  refine aw_sld cx sx dL_law_973 (⟨by omega, by omega⟩) (fun z973q hz973q => ?_)
  refine aw_aload_n cx dL_law_974 rfl 3 rfl ?_
  refine aw_iload_n cx dL_law_975 rfl 0 rfl ?_
  refine aw_iconst (n := 2) cx dL_law_976 (by decide) ?_
  refine aw_iadd cx dL_law_977 (by omega) (fun z977q hz977q => ?_)
  refine aw_sld cx sx dL_law_978 (⟨by omega, by omega⟩) (fun z978q hz978q => ?_)
  refine aw_aload_n cx dL_law_979 rfl 3 rfl ?_
  refine aw_iload_n cx dL_law_980 rfl 0 rfl ?_
  refine aw_iconst (n := 3) cx dL_law_981 (by decide) ?_
  refine aw_iadd cx dL_law_982 (by omega) (fun z982q hz982q => ?_)
  refine aw_sld cx sx dL_law_983 (⟨by omega, by omega⟩) (fun z983q hz983q => ?_)
  refine aw_callV (as := [aI z973q, aI z978q, aI z983q]) (k := 0) (stk := []) cx dL_law_984 ml_L_134 mv_X6_lives rfl (lb_0 tl) (by decide) rfl rfl (Nat.le_of_ble_eq_true rfl) (ct_X6_lives tl M _ _ _ ) (fun rr984q M_984q hp984q => ?_)
  obtain ⟨z984q, rfl, hfrM_984, hlvM_984⟩ := hp984q
  refine aw_eq (stk2 := [aI z984q]) ?_ rfl rfl rfl rfl
  have hF : FR SC M M_984q := hfrM_984
  have hJ1 := JA_fr hJ hF
  refine aw_aload_n cx dL_law_987 rfl 1 rfl ?_
  refine aw_aload_n cx dL_law_988 rfl 3 rfl ?_
  refine aw_iload_n cx dL_law_989 rfl 0 rfl ?_
  refine aw_iconst (n := 1) cx dL_law_990 (by decide) ?_
  refine aw_iadd cx dL_law_991 (by omega) (fun z991q hz991q => ?_)
  refine aw_sld cx sx dL_law_992 (⟨by omega, by omega⟩) (fun z992q hz992q => ?_)
  rw [show z992q = z973q by rw [hz992q, hz973q, hz991q, hz972q]]
  refine aw_aload_n cx dL_law_993 rfl 3 rfl ?_
  refine aw_iload_n cx dL_law_994 rfl 0 rfl ?_
  refine aw_iconst (n := 2) cx dL_law_995 (by decide) ?_
  refine aw_iadd cx dL_law_996 (by omega) (fun z996q hz996q => ?_)
  refine aw_sld cx sx dL_law_997 (⟨by omega, by omega⟩) (fun z997q hz997q => ?_)
  rw [show z997q = z978q by rw [hz997q, hz978q, hz996q, hz977q]]
  refine aw_aload_n cx dL_law_998 rfl 3 rfl ?_
  refine aw_iload_n cx dL_law_999 rfl 0 rfl ?_
  refine aw_iconst (n := 3) cx dL_law_1000 (by decide) ?_
  refine aw_iadd cx dL_law_1001 (by omega) (fun z1001q hz1001q => ?_)
  refine aw_sld cx sx dL_law_1002 (⟨by omega, by omega⟩) (fun z1002q hz1002q => ?_)
  rw [show z1002q = z983q by rw [hz1002q, hz983q, hz1001q, hz982q]]
  refine aw_callV (as := [aI z973q, aI z978q, aI z983q]) (k := 32) (stk := [aI z984q]) cx dL_law_1003 ml_L_137 mv_X7_lives rfl (lb_32 tl) (by decide) rfl rfl (Nat.le_of_ble_eq_true rfl) (ct_X7_lives tl M_984q _ _ _ (hJ1.1)) (fun rr1003q M_1003q hp1003q => ?_)
  obtain ⟨z1003q, rfl, hfxM_1003, hanM_1003⟩ := hp1003q
  refine aw_eq (stk2 := [aI z1003q, aI z984q]) ?_ rfl rfl rfl rfl
  have hR := hanM_1003
  rw [lvF_sc hF, (fg_sc hF).2] at hR
  refine aw_icmp_eq (tgt := 1306) cx dL_law_1006 (by decide) (fun c1006q => ?_) (fun c1006q => ?_)
  · exact kk _ (JA_q hJ hF hfxM_1003)
  · exfalso
    exact c1006q (aLives_u hlvM_984 hR)
set_option maxHeartbeats 1000000 in
set_option maxRecDepth 100000 in
theorem law_c36 {X : CTX} (tl : List CD) (M : Mem) {Ln : Nat} {xs : Nat → Int32} (cx : Cx X cL_law RL 4 13) (sx : SX X Ln xs) (hLn : Ln ≤ 3072) (hJ : JA tl M) (x3q : Int) (h3q : 0 ≤ x3q ∧ x3q + 6 ≤ Ln) (kk : ∀ M2, JA tl M2 → AW X (LB ++ tl) 4 1306 [(3, aI x3q), (2, aR 32), (1, aR 0), (0, aR SCI)] [] M2) : AW X (LB ++ tl) 4 1269 [(3, aI x3q), (2, aR 32), (1, aR 0), (0, aR SCI)] [] M := by
  refine aw_aload_n cx dL_law_1269 rfl 2 rfl ?_
  refine aw_aload_n cx dL_law_1270 rfl 3 rfl ?_
  refine aw_iload_n cx dL_law_1271 rfl 0 rfl ?_
  refine aw_iconst (n := 1) cx dL_law_1272 (by decide) ?_
  refine aw_iadd cx dL_law_1273 (by omega) (fun z1273q hz1273q => ?_)
  refine aw_sld cx sx dL_law_1274 (⟨by omega, by omega⟩) (fun z1274q hz1274q => ?_)
  refine aw_callV (as := [aI z1274q]) (k := 0) (stk := []) cx dL_law_1275 ml_L_164 mv_X6_count rfl (lb_0 tl) (by decide) rfl rfl (Nat.le_of_ble_eq_true rfl) (ct_X6_count tl M _ ) (fun rr1275q M_1275q hp1275q => ?_)
  obtain ⟨z1275q, rfl, hfrM_1275, hcoM_1275⟩ := hp1275q
  refine aw_eq (stk2 := [aI z1275q]) ?_ rfl rfl rfl rfl
  have hF : FR SC M M_1275q := hfrM_1275
  have hJ1 := JA_fr hJ hF
  refine aw_aload_n cx dL_law_1278 rfl 1 rfl ?_
  refine aw_aload_n cx dL_law_1279 rfl 3 rfl ?_
  refine aw_iload_n cx dL_law_1280 rfl 0 rfl ?_
  refine aw_iconst (n := 1) cx dL_law_1281 (by decide) ?_
  refine aw_iadd cx dL_law_1282 (by omega) (fun z1282q hz1282q => ?_)
  refine aw_sld cx sx dL_law_1283 (⟨by omega, by omega⟩) (fun z1283q hz1283q => ?_)
  rw [show z1283q = z1274q by rw [hz1283q, hz1274q, hz1282q, hz1273q]]
  refine aw_callV (as := [aI z1274q]) (k := 32) (stk := [aI z1275q]) cx dL_law_1284 ml_L_167 mv_X7_count rfl (lb_32 tl) (by decide) rfl rfl (Nat.le_of_ble_eq_true rfl) (ct_X7_count tl M_1275q _ (hJ1.1) (hJ1.2.1)) (fun rr1284q M_1284q hp1284q => ?_)
  obtain ⟨z1284q, rfl, hfxM_1284, hanM_1284⟩ := hp1284q
  refine aw_eq (stk2 := [aI z1284q, aI z1275q]) ?_ rfl rfl rfl rfl
  have hR := aCount_sc hF hanM_1284
  refine aw_icmp_eq (tgt := 1306) cx dL_law_1287 (by decide) (fun c1287q => ?_) (fun c1287q => ?_)
  · exact kk _ (JA_q hJ hF hfxM_1284)
  · exfalso
    exact c1287q (aCount_u hcoM_1275 hR)
set_option maxHeartbeats 1000000 in
set_option maxRecDepth 100000 in
theorem law_c37 {X : CTX} (tl : List CD) (M : Mem) {Ln : Nat} {xs : Nat → Int32} (cx : Cx X cL_law RL 4 13) (sx : SX X Ln xs) (hLn : Ln ≤ 3072) (hJ : JA tl M) (x3q : Int) (h3q : 0 ≤ x3q ∧ x3q + 6 ≤ Ln) (kk : ∀ M2, JA tl M2 → AW X (LB ++ tl) 4 1306 [(3, aI x3q), (2, aR 32), (1, aR 0), (0, aR SCI)] [] M2) : AW X (LB ++ tl) 4 1292 [(3, aI x3q), (2, aR 32), (1, aR 0), (0, aR SCI)] [] M := by
  refine aw_aload_n cx dL_law_1292 rfl 2 rfl ?_
  refine aw_callV (as := []) (k := 0) (stk := []) cx dL_law_1293 ml_L_168 mv_X6_digest rfl (lb_0 tl) (by decide) rfl rfl (Nat.le_of_ble_eq_true rfl) (ct_X6_digest tl M  ) (fun rr1293q M_1293q hp1293q => ?_)
  obtain ⟨z1293q, rfl, hfrM_1293, hdiM_1293⟩ := hp1293q
  refine aw_eq (stk2 := [aL z1293q]) ?_ rfl rfl rfl rfl
  have hF : FR SC M M_1293q := hfrM_1293
  have hJ1 := JA_fr hJ hF
  refine aw_aload_n cx dL_law_1296 rfl 1 rfl ?_
  refine aw_callV (as := []) (k := 32) (stk := [aL z1293q]) cx dL_law_1297 ml_L_172 mv_X7_digest rfl (lb_32 tl) (by decide) rfl rfl (Nat.le_of_ble_eq_true rfl) (ct_X7_digest tl M_1293q  (hJ1.1) (hJ1.2.1)) (fun rr1297q M_1297q hp1297q => ?_)
  obtain ⟨z1297q, rfl, hfxM_1297, hdiM_1297⟩ := hp1297q
  refine aw_eq (stk2 := [aL z1297q, aL z1293q]) ?_ rfl rfl rfl rfl
  have hR : z1293q = z1297q := by rw [hdiM_1293, hdiM_1297, DIG_sc hF]
  refine aw_lcmp cx dL_law_1300 (fun c1300q => ?_) (fun c1300q => ?_) (fun c1300q => ?_)
  · exfalso
    have qe := hR; omega
  · refine aw_if_eq (tgt := 1306) cx dL_law_1301 (by decide) (fun c1301q => ?_) (fun c1301q => ?_)
    · exact kk _ (JA_q hJ hF hfxM_1297)
    · exact absurd c1301q (by decide)
  · exfalso
    have qe := hR; omega
