theorem MetS.of {tl : List CD} {M : Mem} {s f n : Int} (l : Launch) (D : va_G) (ca : Nat → ClassId) (ad : Nat → Nat) (sz : Nat) (oa : ∀ v ∈ [aR 0, aI s, aI f, aI n], okV v) (om : okM (LB ++ tl) M) (body : ∀ X : CTX, Cx X cX6_sheet RX6 4 2 → RtS X (LB ++ tl) M s f n → AW X (LB ++ tl) 4 0 [(0, aR 0), (1, aI s), (2, aI f), (3, aI n)] [] M) : Met l yX6_sheet (.code yX6_sheet cX6_sheet 4 (some .int) :: WS) (roomI 2 2 62 80) (PC D ca ad (LB ++ tl) [aR 0, aI s, aI f, aI n] M sz) (QSH D ca ad (LB ++ tl) M s f n (va_A (conc ca ad (LB ++ tl) M) sz)) 2 62 (va_A (conc ca ad (LB ++ tl) M) sz) := by
  refine Met.ofW (cc := cX6_sheet) (maxL := 4) (ret := some .int) (by decide +kernel) rfl ?_
  intro p e s0 m args below meth c s₁ B hml hv
  obtain ⟨rfl, hsz, hP, hK, hN, hD0⟩ := hv
  have hts := atoms_spec (ws := .code yX6_sheet cX6_sheet 4 (some .int) :: WS) B.pre
  have hown : s0.vm.findClass RX6 = some m.cls := findClass_of_methodNamed B.named
  subst hsz
  have hD := hD0.self (sz := s0.heap.size)
  have hl := lv_entry ([aR 0, aI s, aI f, aI n].map (cv ad)) (n := 4) (by rw [lg_len]; exact Nat.le_refl 4)
  rw [lg_entry_eq]
  rw [lvA_cv] at hl
  have hS : va_S (va_A (conc ca ad (LB ++ tl) M) s0.heap.size) s0.heap s0.heap [] := va_S.rf
  exact body (p, l, e, roomI 2 2 62 80, s0, m, ([aR 0, aI s, aI f, aI n].map (cv ad)).toArray, below, meth, c, 0, 0, _, D, ca, ad, va_A (conc ca ad (LB ++ tl) M) s0.heap.size) ⟨B.exec, B.bytes, hml, hown, fun w hw => hts w (List.mem_cons_of_mem _ hw), hK, hN, fun q h => Or.inr h, Nat.le_refl _, Nat.le_refl _, Nat.zero_le _, Nat.zero_le _⟩ ⟨B.returns, B.notSynchronized, rfl, rfl, rfl, rfl⟩ s0.heap [] _ hP hD hS hl (lvA_ok [aR 0, aI s, aI f, aI n] 0 oa) (fun v h => by cases h) om
set_option maxHeartbeats 1000000 in
set_option maxRecDepth 100000 in
theorem met_sheet (tl : List CD) (M : Mem) (s f n : Int) (l : Launch) (D : va_G) (ca : Nat → ClassId) (ad : Nat → Nat) (sz : Nat) (oa : ∀ v ∈ [aR 0, aI s, aI f, aI n], okV v) (om : okM (LB ++ tl) M) (hR : ∀ (i : Nat) (d : CD), (LB ++ tl)[i]? = some d → RefC (LB ++ tl).length d (M i)) : Met l yX6_sheet (.code yX6_sheet cX6_sheet 4 (some .int) :: WS) (roomI 2 2 62 80) (PC D ca ad (LB ++ tl) [aR 0, aI s, aI f, aI n] M sz) (QSH D ca ad (LB ++ tl) M s f n (va_A (conc ca ad (LB ++ tl) M) sz)) 2 62 (va_A (conc ca ad (LB ++ tl) M) sz) := by
  refine MetS.of l D ca ad sz oa om (fun X cx rt => ?_)
  refine aw_iload_n cx dX6_sheet_0 rfl 1 rfl ?_
  refine aw_iconst (n := 4) cx dX6_sheet_1 (by decide) ?_
  refine aw_callS (as := [aI s, aI 4]) (stk := []) cx dX6_sheet_2 ml_X6_84 ms_X6_outside (by decide) rfl rfl (Nat.le_of_ble_eq_true rfl) (ct_X6_outside tl M _ _ ) (fun rr2q M_2q hp2q => ?_)
  obtain ⟨rfl, rfl⟩ := hp2q
  refine aw_top (stk := []) (fun z2q hz2q => ?_)
  refine aw_if_ne (tgt := 22) cx dX6_sheet_5 (by decide) (fun c5q => ?_) (fun c5q => ?_)
  · have d5q := b2_y hz2q c5q
    refine aw_bipush (n := (-2)) cx dX6_sheet_22 (by decide) ?_
    exact aw_rS1 cx rt dX6_sheet_24 (by omega)
  · have d5q := b2_e0.mp (hz2q.symm.trans c5q)
    refine aw_iload_n cx dX6_sheet_8 rfl 2 rfl ?_
    refine aw_iconst (n := 3) cx dX6_sheet_9 (by decide) ?_
    refine aw_callS (as := [aI f, aI 3]) (stk := []) cx dX6_sheet_10 ml_X6_84 ms_X6_outside (by decide) rfl rfl (Nat.le_of_ble_eq_true rfl) (ct_X6_outside tl M _ _ ) (fun rr10q M_10q hp10q => ?_)
    obtain ⟨rfl, rfl⟩ := hp10q
    refine aw_top (stk := []) (fun z10q hz10q => ?_)
    refine aw_if_ne (tgt := 22) cx dX6_sheet_13 (by decide) (fun c13q => ?_) (fun c13q => ?_)
    · have d13q := b2_y hz10q c13q
      refine aw_bipush (n := (-2)) cx dX6_sheet_22 (by decide) ?_
      exact aw_rS1 cx rt dX6_sheet_24 (by omega)
    · have d13q := b2_e0.mp (hz10q.symm.trans c13q)
      refine aw_iload_n cx dX6_sheet_16 rfl 3 rfl ?_
      refine aw_bipush (n := 60) cx dX6_sheet_17 (by decide) ?_
      refine aw_icmp_le (tgt := 25) cx dX6_sheet_19 (by decide) (fun c19q => ?_) (fun c19q => ?_)
      · refine aw_iload_n cx dX6_sheet_25 rfl 3 rfl ?_
        refine aw_if_ge (tgt := 35) cx dX6_sheet_26 (by decide) (fun c26q => ?_) (fun c26q => ?_)
        · refine aw_aload_n cx dX6_sheet_35 rfl 0 rfl ?_
          refine aw_getR (q := 29) cx dX6_sheet_36 fl_X6_63 (lb_0 tl) rfl rfl ?_
          refine aw_iload_n cx dX6_sheet_39 rfl 1 rfl ?_
          obtain ⟨k, hk⟩ : ∃ k : Nat, n = (k : Int) := ⟨n.toNat, by omega⟩
          subst hk
          exact sh_tail cx rt ⟨by omega, by omega⟩ ⟨by omega, by omega⟩ (by omega) hR
        · refine aw_aload_n cx dX6_sheet_29 rfl 0 rfl ?_
          refine aw_iconst (n := 5) cx dX6_sheet_30 (by decide) ?_
          refine aw_callV (as := [aI 5]) (k := 0) (stk := []) cx dX6_sheet_31 ml_X6_129 mv_X6_finding rfl (lb_0 tl) (by decide) rfl rfl (Nat.le_of_ble_eq_true rfl) (ct_X6_finding tl M _ (by omega)) (fun rr31q M_31q hp31q => ?_)
          obtain ⟨z31q, rfl, hMuM_31, hxM_31⟩ := hp31q
          refine aw_eq (stk2 := [aI z31q]) ?_ rfl rfl rfl rfl
          exact aw_rS2 cx rt dX6_sheet_34 (by omega) hMuM_31 (by omega)
      · refine aw_bipush (n := (-2)) cx dX6_sheet_22 (by decide) ?_
        exact aw_rS1 cx rt dX6_sheet_24 (by omega)
