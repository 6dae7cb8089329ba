set_option maxHeartbeats 1000000 in
set_option maxRecDepth 100000 in
theorem law_s30 {X : CTX} (tl : List CD) (M : Mem) {Ln : Nat} {xs : Nat → Int32} (cx : Cx X cL_law RL 4 13) (sx : SX X Ln xs) (hLn : Ln ≤ 3072) (x3q : Int) (h3q : 0 ≤ x3q ∧ x3q + 6 ≤ Ln) (xv : Int) (hE : ∀ y M2, SHr (xs (x3q + 1).toNat).toInt (xs (x3q + 2).toNat).toInt (xs (x3q + 3).toNat).toInt M M2 y → xv = y ∧ JA tl M2) (kk : ∀ M2, JA tl M2 → AW X (LB ++ tl) 4 1306 [(3, aI x3q), (2, aR 32), (1, aR 0), (0, aR SCI)] [] M2) : AW X (LB ++ tl) 4 1030 [(3, aI x3q), (2, aR 32), (1, aR 0), (0, aR SCI)] [aI xv] M := by
  refine aw_aload_n cx dL_law_1030 rfl 1 rfl ?_
  refine aw_aload_n cx dL_law_1031 rfl 3 rfl ?_
  refine aw_iload_n cx dL_law_1032 rfl 0 rfl ?_
  refine aw_iconst (n := 1) cx dL_law_1033 (by decide) ?_
  refine aw_iadd cx dL_law_1034 (by omega) (fun z1034q hz1034q => ?_)
  refine aw_sld cx sx dL_law_1035 (⟨by omega, by omega⟩) (fun z1035q hz1035q => ?_)
  refine aw_aload_n cx dL_law_1036 rfl 3 rfl ?_
  refine aw_iload_n cx dL_law_1037 rfl 0 rfl ?_
  refine aw_iconst (n := 2) cx dL_law_1038 (by decide) ?_
  refine aw_iadd cx dL_law_1039 (by omega) (fun z1039q hz1039q => ?_)
  refine aw_sld cx sx dL_law_1040 (⟨by omega, by omega⟩) (fun z1040q hz1040q => ?_)
  refine aw_aload_n cx dL_law_1041 rfl 3 rfl ?_
  refine aw_iload_n cx dL_law_1042 rfl 0 rfl ?_
  refine aw_iconst (n := 3) cx dL_law_1043 (by decide) ?_
  refine aw_iadd cx dL_law_1044 (by omega) (fun z1044q hz1044q => ?_)
  refine aw_sld cx sx dL_law_1045 (⟨by omega, by omega⟩) (fun z1045q hz1045q => ?_)
  refine aw_callV (as := [aI z1035q, aI z1040q, aI z1045q]) (k := 32) (stk := [aI xv]) cx dL_law_1046 ml_L_141 mv_X7_sheet rfl (lb_32 tl) (by decide) rfl rfl (Nat.le_of_ble_eq_true rfl) (ct_X7_sheet tl M _ _ _ ) (fun rr1046q M_1046q hp1046q => ?_)
  obtain ⟨z1046q, rfl, hshM_1046⟩ := hp1046q
  refine aw_eq (stk2 := [aI z1046q, aI xv]) ?_ rfl rfl rfl rfl
  have hq : SHr (xs (x3q + 1).toNat).toInt (xs (x3q + 2).toNat).toInt (xs (x3q + 3).toNat).toInt M M_1046q z1046q := by
    have q := hshM_1046
    rw [hz1035q, hz1034q, hz1040q, hz1039q, hz1045q, hz1044q] at q
    exact q
  have hE2 := hE _ _ hq
  refine aw_icmp_eq (tgt := 1306) cx dL_law_1049 (by decide) (fun c1049q => ?_) (fun c1049q => ?_)
  · exact kk _ hE2.2
  · exfalso
    exact c1049q hE2.1
set_option maxHeartbeats 1000000 in
set_option maxRecDepth 100000 in
theorem law_c30 {p : Program} {l : Launch} {e : Env} {R : Room} {s0q : State} {m : MethodId} {args : Array Value} {below : List Frame} {meth : Method} {c : Code} {cells slots : Nat} {Q : State → Prop} {D : va_G} {ca : Nat → ClassId} {ad : Nat → Nat} {A : Nat → Prop} (tl : List CD) (M : Mem) {Ln : Nat} {xs : Nat → Int32} (cx : Cx (p, l, e, R, s0q, m, args, below, meth, c, cells, slots, Q, D, ca, ad, A) cL_law RL 4 13) (sx : SX (p, l, e, R, s0q, m, args, below, meth, c, cells, slots, Q, D, ca, ad, A) Ln xs) (hLn : Ln ≤ 3072) (hJ : JA tl M) (x3q : Int) (h3q : 0 ≤ x3q ∧ x3q + 6 ≤ Ln) (hroom : cells + 2 ≤ R.cells ∧ slots + 62 ≤ R.slots) (hlen : (LB ++ tl).length < 900000) (kk : ∀ (ad2 : Nat → Nat) (tl2 : List CD) (M2 : Mem), JA tl2 M2 → ad2 SCI = ad SCI → tl2.length ≤ tl.length + 2 → AW (p, l, e, R, s0q, m, args, below, meth, c, cells + 2, slots + 62, Q, D, ca, ad2, A) (LB ++ tl2) 4 1306 [(3, aI x3q), (2, aR 32), (1, aR 0), (0, aR SCI)] [] M2) : AW (p, l, e, R, s0q, m, args, below, meth, c, cells, slots, Q, D, ca, ad, A) (LB ++ tl) 4 1011 [(3, aI x3q), (2, aR 32), (1, aR 0), (0, aR SCI)] [] M := by
  refine aw_aload_n cx dL_law_1011 rfl 2 rfl ?_
  refine aw_aload_n cx dL_law_1012 rfl 3 rfl ?_
  refine aw_iload_n cx dL_law_1013 rfl 0 rfl ?_
  refine aw_iconst (n := 1) cx dL_law_1014 (by decide) ?_
  refine aw_iadd cx dL_law_1015 (by omega) (fun z1015q hz1015q => ?_)
  refine aw_sld cx sx dL_law_1016 (⟨by omega, by omega⟩) (fun z1016q hz1016q => ?_)
  refine aw_aload_n cx dL_law_1017 rfl 3 rfl ?_
  refine aw_iload_n cx dL_law_1018 rfl 0 rfl ?_
  refine aw_iconst (n := 2) cx dL_law_1019 (by decide) ?_
  refine aw_iadd cx dL_law_1020 (by omega) (fun z1020q hz1020q => ?_)
  refine aw_sld cx sx dL_law_1021 (⟨by omega, by omega⟩) (fun z1021q hz1021q => ?_)
  refine aw_aload_n cx dL_law_1022 rfl 3 rfl ?_
  refine aw_iload_n cx dL_law_1023 rfl 0 rfl ?_
  refine aw_iconst (n := 3) cx dL_law_1024 (by decide) ?_
  refine aw_iadd cx dL_law_1025 (by omega) (fun z1025q hz1025q => ?_)
  refine aw_sld cx sx dL_law_1026 (⟨by omega, by omega⟩) (fun z1026q hz1026q => ?_)
  have es : z1016q = (xs (x3q + 1).toNat).toInt := by rw [hz1016q, hz1015q]
  have ef : z1021q = (xs (x3q + 2).toNat).toInt := by rw [hz1021q, hz1020q]
  have en : z1026q = (xs (x3q + 3).toNat).toInt := by rw [hz1026q, hz1025q]
  rw [es, ef, en]
  have h65q : 65 ≤ (LB ++ tl).length := by
    rw [List.length_append]
    have : LB.length = 65 := rfl
    omega
  obtain ⟨hx, hb, hml, hown, hts, hK, hN, hA, hfr, hlo, hce, hsl⟩ := id cx
  refine aw_callSh cx hroom hJ hlen (fun hc => ?_) (fun hc => ?_) (fun hc q q2q => ?_)
  · exact law_s30 (X := (p, l, e, R, s0q, m, args, below, meth, c, cells + 2, slots + 62, Q, D, ca, ad, A)) tl M ⟨hx, hb, hml, hown, hts, hK, hN, hA, hfr, hlo, hroom.1, hroom.2⟩ sx hLn x3q h3q _ (fun y M2 h => J_sh1 hJ hc h) (fun M2 h => kk ad tl M2 h rfl (by omega))
  · exact law_s30 (X := (p, l, e, R, s0q, m, args, below, meth, c, cells + 2, slots + 62, Q, D, ca, ad, A)) tl (up M 0 14 5) ⟨hx, hb, hml, hown, hts, hK, hN, hA, hfr, hlo, hroom.1, hroom.2⟩ sx hLn x3q h3q _ (fun y M2 h => J_sh2 hJ hc h) (fun M2 h => kk ad tl M2 h rfl (by omega))
  · have eS : shAd ad (LB ++ tl).length q q2q SCI = ad SCI := by
      unfold shAd
      rw [if_neg (by unfold SCI; omega), if_neg (by unfold SCI; omega)]
    have sx2 : SX (p, l, e, R, s0q, m, args, below, meth, c, cells + 2, slots + 62, Q, D, ca, shAd ad (LB ++ tl).length q q2q, A) Ln xs := by
      unfold SX
      dsimp only
      rw [eS]
      exact sx
    exact law_s30 (X := (p, l, e, R, s0q, m, args, below, meth, c, cells + 2, slots + 62, Q, D, ca, shAd ad (LB ++ tl).length q q2q, A)) _ (shM M (LB ++ tl).length _ _) ⟨hx, hb, hml, hown, hts, hK, hN, hA, hfr, hlo, hroom.1, hroom.2⟩ sx2 hLn x3q h3q _ (fun y M2 h => J_sh3 hJ hc h) (fun M2 h => kk _ _ M2 h eS (by rw [List.length_append]; exact Nat.le_refl _))
