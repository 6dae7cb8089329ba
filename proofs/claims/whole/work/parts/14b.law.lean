theorem law_end {p : Program} {l : Launch} {e : Env} {s : State} {m : MethodId} {below : List Frame} {meth : Method} {c : Code} {b : Nat} {D : va_G} {ca : Nat → ClassId} {ad : Nat → Nat} {cells slots : Nat} {L : List CD} {loc : List (Nat × AV)} {M : Mem} (hx : p.tables.exec = Jvm.exec) (hb : c.code = code) (hr : meth.sig.returnType = ret) (hlocks : meth.locks = false) (hc : cells ≤ 600000) (hs : slots ≤ 7302250) : AW (p, l, e, room_1, s, m, #[Value.ref b], below, meth, c, cells, slots, lw_Z below #[Value.ref b] s, D, ca, ad, fun q => s.heap.size ≤ q) L 4 1313 loc [aI 1] M := by
  intro H locs ls hP hD hS hl ol os om
  refine va_forget hS.2.2 (W.widen hc hs ?_)
  have e1 : i32 1 = 1 := by decide +kernel
  show W _ _ _ _ _ _ _ _ _ _ _ _ _ _ _ (F0 m 1313 ls [.int (i32 1)])
  rw [e1]
  exact lw_ret hx hb hr hlocks dL_law_1313
set_option maxHeartbeats 4000000 in
set_option maxRecDepth 100000 in
theorem law_loop {p : Program} {l : Launch} {e : Env} {s : State} {m : MethodId} {below : List Frame} {meth : Method} {c : Code} {b Ln : Nat} {xs : Nat → Int32} {D : va_G} {ca : Nat → ClassId} (hx : p.tables.exec = Jvm.exec) (hb : c.code = code) (hr : meth.sig.returnType = ret) (hlocks : meth.locks = false) (hml : c.maxLocals = 4) (hown : s.vm.findClass RL = some m.cls) (hts : ∀ w ∈ WS, w.before #[Value.ref b] s = true) (hK : va_K D vwCl (TY ca) s) (hN : NK s) (hX : va_X b Ln xs s s.heap) (hbl : b < s.heap.size) (hLn : Ln ≤ 3072) : ∀ (fu : Nat) (tl : List CD) (M : Mem) (ad : Nat → Nat) (cells slots : Nat) (x3q : Int), 0 ≤ x3q → x3q ≤ Ln → (Ln : Int) < x3q + 6 * fu → ad SCI = b → JA tl M → cells + 2 * fu ≤ 600000 → slots + 62 * fu ≤ 7302250 → tl.length + 2 * fu ≤ 5000 → AW (p, l, e, room_1, s, m, #[Value.ref b], below, meth, c, cells, slots, lw_Z below #[Value.ref b] s, D, ca, ad, fun q => s.heap.size ≤ q) (LB ++ tl) 4 18 (LOCl x3q) [] M := by
  intro fu
  induction fu with
  | zero => intro tl M ad cells slots x3q h1q h2q h3q; exfalso; omega
  | succ fu ih =>
    intro tl M ad cells slots x3q h1q h2q h3q hA hJ hc hs ht
    have mkc : ∀ (cells slots : Nat) (ad : Nat → Nat), cells ≤ 600000 → slots ≤ 7302250 → Cx (p, l, e, room_1, s, m, #[Value.ref b], below, meth, c, cells, slots, lw_Z below #[Value.ref b] s, D, ca, ad, fun q => s.heap.size ≤ q) cL_law RL 4 13 := fun cells slots ad g1 g2 => ⟨hx, hb, hml, hown, hts, hK, hN, fun q h => h, show 13 ≤ 13 from Nat.le_refl _, show 40 * 13 ≤ 520 from Nat.le_refl _, g1, g2⟩
    have cx := mkc cells slots ad (by omega) (by omega)
    have sx : SX (p, l, e, room_1, s, m, #[Value.ref b], below, meth, c, cells, slots, lw_Z below #[Value.ref b] s, D, ca, ad, fun q => s.heap.size ≤ q) Ln xs := ⟨by rw [hA]; exact hX, by rw [hA]; exact hbl, by show ¬ (s.heap.size ≤ ad SCI); rw [hA]; omega⟩
    have KQ : ∀ (cells slots : Nat) (ad : Nat → Nat) (tl : List CD) (M : Mem), x3q + 6 ≤ Ln → cells + 2 * fu ≤ 600000 → slots + 62 * fu ≤ 7302250 → tl.length + 2 * fu ≤ 5000 → ad SCI = b → JA tl M → AW (p, l, e, room_1, s, m, #[Value.ref b], below, meth, c, cells, slots, lw_Z below #[Value.ref b] s, D, ca, ad, fun q => s.heap.size ≤ q) (LB ++ tl) 4 1306 (LOCl x3q) [] M := by
      intro cells slots ad tl M g1 g2 g3 g4 g5 g6
      have cx := mkc cells slots ad (by omega) (by omega)
      refine aw_iinc cx dL_law_1306 0 rfl (by decide) (by omega) (fun z hz => ?_)
      refine aw_loc (loc2 := LOCl z) rfl ?_
      refine aw_goto (tgt := 18) cx dL_law_1309 (by decide) ?_
      exact ih tl M ad cells slots z (by omega) (by omega) (by omega) g5 g6 g2 g3 g4
    refine aw_iload_n cx dL_law_18 rfl 0 rfl ?_
    refine aw_aload_n cx dL_law_19 rfl 3 rfl ?_
    refine aw_slen cx sx dL_law_20 hLn ?_
    refine aw_bipush (n := 6) cx dL_law_21 (by decide) ?_
    refine aw_isub cx dL_law_23 (by omega) (fun z23q hz23q => ?_)
    refine aw_icmp_gt (tgt := 1312) cx dL_law_24 (by decide) (fun c24q => ?_) (fun c24q => ?_)
    · refine aw_iconst (n := 1) cx dL_law_1312 (by decide) ?_
      exact law_end hx hb hr hlocks (by omega) (by omega)
    · refine aw_aload_n cx dL_law_27 rfl 3 rfl ?_
      refine aw_iload_n cx dL_law_28 rfl 0 rfl ?_
      refine aw_sld cx sx dL_law_29 (⟨by omega, by omega⟩) (fun z29q hz29q => ?_)
      refine aw_bipush (n := 63) cx dL_law_30 (by decide) ?_
      refine aw_iand cx dL_law_32 (fun z32q hz32q => ?_)
      by_cases c33_0q : z32q = 0
      · refine aw_tabIn (off := 167) (tgt := 200) cx dL_law_33 (by omega) (by omega) (by rw [c33_0q]; rfl) (by decide) ?_
        exact law_c0 tl M cx sx hLn hJ x3q ⟨by omega, by omega⟩ (fun M2 q => KQ _ _ ad tl M2 (by omega) (by omega) (by omega) (by omega) hA q)
      by_cases c33_1q : z32q = 1
      · refine aw_tabIn (off := 200) (tgt := 233) cx dL_law_33 (by omega) (by omega) (by rw [c33_1q]; rfl) (by decide) ?_
        exact law_c1 tl M cx sx hLn hJ x3q ⟨by omega, by omega⟩ (fun M2 q => KQ _ _ ad tl M2 (by omega) (by omega) (by omega) (by omega) hA q)
      by_cases c33_2q : z32q = 2
      · refine aw_tabIn (off := 223) (tgt := 256) cx dL_law_33 (by omega) (by omega) (by rw [c33_2q]; rfl) (by decide) ?_
        exact law_c2 tl M cx sx hLn hJ x3q ⟨by omega, by omega⟩ (fun M2 q => KQ _ _ ad tl M2 (by omega) (by omega) (by omega) (by omega) hA q)
      by_cases c33_3q : z32q = 3
      · refine aw_tabIn (off := 246) (tgt := 279) cx dL_law_33 (by omega) (by omega) (by rw [c33_3q]; rfl) (by decide) ?_
        exact law_c3 tl M cx sx hLn hJ x3q ⟨by omega, by omega⟩ (fun M2 q => KQ _ _ ad tl M2 (by omega) (by omega) (by omega) (by omega) hA q)
      by_cases c33_4q : z32q = 4
      · refine aw_tabIn (off := 269) (tgt := 302) cx dL_law_33 (by omega) (by omega) (by rw [c33_4q]; rfl) (by decide) ?_
        exact law_c4 tl M cx sx hLn hJ x3q ⟨by omega, by omega⟩ (fun M2 q => KQ _ _ ad tl M2 (by omega) (by omega) (by omega) (by omega) hA q)
      by_cases c33_5q : z32q = 5
      · refine aw_tabIn (off := 302) (tgt := 335) cx dL_law_33 (by omega) (by omega) (by rw [c33_5q]; rfl) (by decide) ?_
        exact law_c5 tl M cx sx hLn hJ x3q ⟨by omega, by omega⟩ (fun M2 q => KQ _ _ ad tl M2 (by omega) (by omega) (by omega) (by omega) hA q)
      by_cases c33_6q : z32q = 6
      · refine aw_tabIn (off := 335) (tgt := 368) cx dL_law_33 (by omega) (by omega) (by rw [c33_6q]; rfl) (by decide) ?_
        exact law_c6 tl M cx sx hLn hJ x3q ⟨by omega, by omega⟩ (fun M2 q => KQ _ _ ad tl M2 (by omega) (by omega) (by omega) (by omega) hA q)
      by_cases c33_7q : z32q = 7
      · refine aw_tabIn (off := 358) (tgt := 391) cx dL_law_33 (by omega) (by omega) (by rw [c33_7q]; rfl) (by decide) ?_
        exact law_c7 tl M cx sx hLn hJ x3q ⟨by omega, by omega⟩ (fun M2 q => KQ _ _ ad tl M2 (by omega) (by omega) (by omega) (by omega) hA q)
      by_cases c33_8q : z32q = 8
      · refine aw_tabIn (off := 401) (tgt := 434) cx dL_law_33 (by omega) (by omega) (by rw [c33_8q]; rfl) (by decide) ?_
        exact law_c8 tl M cx sx hLn hJ x3q ⟨by omega, by omega⟩ (fun M2 q => KQ _ _ ad tl M2 (by omega) (by omega) (by omega) (by omega) hA q)
      by_cases c33_9q : z32q = 9
      · refine aw_tabIn (off := 414) (tgt := 447) cx dL_law_33 (by omega) (by omega) (by rw [c33_9q]; rfl) (by decide) ?_
        exact law_c9 tl M cx sx hLn hJ x3q ⟨by omega, by omega⟩ (fun M2 q => KQ _ _ ad tl M2 (by omega) (by omega) (by omega) (by omega) hA q)
      by_cases c33_10q : z32q = 10
      · refine aw_tabIn (off := 437) (tgt := 470) cx dL_law_33 (by omega) (by omega) (by rw [c33_10q]; rfl) (by decide) ?_
        exact law_c10 tl M cx sx hLn hJ x3q ⟨by omega, by omega⟩ (fun M2 q => KQ _ _ ad tl M2 (by omega) (by omega) (by omega) (by omega) hA q)
      by_cases c33_11q : z32q = 11
      · refine aw_tabIn (off := 470) (tgt := 503) cx dL_law_33 (by omega) (by omega) (by rw [c33_11q]; rfl) (by decide) ?_
        exact law_c11 tl M cx sx hLn hJ x3q ⟨by omega, by omega⟩ (fun M2 q => KQ _ _ ad tl M2 (by omega) (by omega) (by omega) (by omega) hA q)
      by_cases c33_12q : z32q = 12
      · refine aw_tabIn (off := 503) (tgt := 536) cx dL_law_33 (by omega) (by omega) (by rw [c33_12q]; rfl) (by decide) ?_
        exact law_c12 tl M cx sx hLn hJ x3q ⟨by omega, by omega⟩ (fun M2 q => KQ _ _ ad tl M2 (by omega) (by omega) (by omega) (by omega) hA q)
      by_cases c33_13q : z32q = 13
      · refine aw_tabIn (off := 546) (tgt := 579) cx dL_law_33 (by omega) (by omega) (by rw [c33_13q]; rfl) (by decide) ?_
        exact law_c13 tl M cx sx hLn hJ x3q ⟨by omega, by omega⟩ (fun M2 q => KQ _ _ ad tl M2 (by omega) (by omega) (by omega) (by omega) hA q)
      by_cases c33_14q : z32q = 14
      · refine aw_tabIn (off := 569) (tgt := 602) cx dL_law_33 (by omega) (by omega) (by rw [c33_14q]; rfl) (by decide) ?_
        exact law_c14 tl M cx sx hLn hJ x3q ⟨by omega, by omega⟩ (fun M2 q => KQ _ _ ad tl M2 (by omega) (by omega) (by omega) (by omega) hA q)
      by_cases c33_15q : z32q = 15
      · refine aw_tabIn (off := 602) (tgt := 635) cx dL_law_33 (by omega) (by omega) (by rw [c33_15q]; rfl) (by decide) ?_
        exact law_c15 tl M cx sx hLn hJ x3q ⟨by omega, by omega⟩ (fun M2 q => KQ _ _ ad tl M2 (by omega) (by omega) (by omega) (by omega) hA q)
      by_cases c33_16q : z32q = 16
      · refine aw_tabIn (off := 625) (tgt := 658) cx dL_law_33 (by omega) (by omega) (by rw [c33_16q]; rfl) (by decide) ?_
        exact law_c16 tl M cx sx hLn hJ x3q ⟨by omega, by omega⟩ (fun M2 q => KQ _ _ ad tl M2 (by omega) (by omega) (by omega) (by omega) hA q)
      by_cases c33_17q : z32q = 17
      · refine aw_tabIn (off := 638) (tgt := 671) cx dL_law_33 (by omega) (by omega) (by rw [c33_17q]; rfl) (by decide) ?_
        exact law_c17 tl M cx sx hLn hJ x3q ⟨by omega, by omega⟩ (fun M2 q => KQ _ _ ad tl M2 (by omega) (by omega) (by omega) (by omega) hA q)
      by_cases c33_18q : z32q = 18
      · refine aw_tabIn (off := 651) (tgt := 684) cx dL_law_33 (by omega) (by omega) (by rw [c33_18q]; rfl) (by decide) ?_
        exact law_c18 tl M cx sx hLn hJ x3q ⟨by omega, by omega⟩ (fun M2 q => KQ _ _ ad tl M2 (by omega) (by omega) (by omega) (by omega) hA q)
      by_cases c33_19q : z32q = 19
      · refine aw_tabIn (off := 674) (tgt := 707) cx dL_law_33 (by omega) (by omega) (by rw [c33_19q]; rfl) (by decide) ?_
        exact law_c19 tl M cx sx hLn hJ x3q ⟨by omega, by omega⟩ (fun M2 q => KQ _ _ ad tl M2 (by omega) (by omega) (by omega) (by omega) hA q)
      by_cases c33_20q : z32q = 20
      · refine aw_tabIn (off := 707) (tgt := 740) cx dL_law_33 (by omega) (by omega) (by rw [c33_20q]; rfl) (by decide) ?_
        exact law_c20 tl M cx sx hLn hJ x3q ⟨by omega, by omega⟩ (fun M2 q => KQ _ _ ad tl M2 (by omega) (by omega) (by omega) (by omega) hA q)
      by_cases c33_21q : z32q = 21
      · refine aw_tabIn (off := 730) (tgt := 763) cx dL_law_33 (by omega) (by omega) (by rw [c33_21q]; rfl) (by decide) ?_
        exact law_c21 tl M cx sx hLn hJ x3q ⟨by omega, by omega⟩ (fun M2 q => KQ _ _ ad tl M2 (by omega) (by omega) (by omega) (by omega) hA q)
      by_cases c33_22q : z32q = 22
      · refine aw_tabIn (off := 753) (tgt := 786) cx dL_law_33 (by omega) (by omega) (by rw [c33_22q]; rfl) (by decide) ?_
        exact law_c22 tl M cx sx hLn hJ x3q ⟨by omega, by omega⟩ (fun M2 q => KQ _ _ ad tl M2 (by omega) (by omega) (by omega) (by omega) hA q)
      by_cases c33_23q : z32q = 23
      · refine aw_tabIn (off := 776) (tgt := 809) cx dL_law_33 (by omega) (by omega) (by rw [c33_23q]; rfl) (by decide) ?_
        exact law_c23 tl M cx sx hLn hJ x3q ⟨by omega, by omega⟩ (fun M2 q => KQ _ _ ad tl M2 (by omega) (by omega) (by omega) (by omega) hA q)
      by_cases c33_24q : z32q = 24
      · refine aw_tabIn (off := 809) (tgt := 842) cx dL_law_33 (by omega) (by omega) (by rw [c33_24q]; rfl) (by decide) ?_
        exact law_c24 tl M cx sx hLn hJ x3q ⟨by omega, by omega⟩ (fun M2 q => KQ _ _ ad tl M2 (by omega) (by omega) (by omega) (by omega) hA q)
      by_cases c33_25q : z32q = 25
      · refine aw_tabIn (off := 822) (tgt := 855) cx dL_law_33 (by omega) (by omega) (by rw [c33_25q]; rfl) (by decide) ?_
        exact law_c25 tl M cx sx hLn hJ x3q ⟨by omega, by omega⟩ (fun M2 q => KQ _ _ ad tl M2 (by omega) (by omega) (by omega) (by omega) hA q)
      by_cases c33_26q : z32q = 26
      · refine aw_tabIn (off := 835) (tgt := 868) cx dL_law_33 (by omega) (by omega) (by rw [c33_26q]; rfl) (by decide) ?_
        exact law_c26 tl M cx sx hLn hJ x3q ⟨by omega, by omega⟩ (fun M2 q => KQ _ _ ad tl M2 (by omega) (by omega) (by omega) (by omega) hA q)
      by_cases c33_27q : z32q = 27
      · refine aw_tabIn (off := 868) (tgt := 901) cx dL_law_33 (by omega) (by omega) (by rw [c33_27q]; rfl) (by decide) ?_
        exact law_c27 tl M cx sx hLn hJ x3q ⟨by omega, by omega⟩ (fun M2 q => KQ _ _ ad tl M2 (by omega) (by omega) (by omega) (by omega) hA q)
      by_cases c33_28q : z32q = 28
      · refine aw_tabIn (off := 891) (tgt := 924) cx dL_law_33 (by omega) (by omega) (by rw [c33_28q]; rfl) (by decide) ?_
        exact law_c28 tl M cx sx hLn hJ x3q ⟨by omega, by omega⟩ (fun M2 q => KQ _ _ ad tl M2 (by omega) (by omega) (by omega) (by omega) hA q)
      by_cases c33_29q : z32q = 29
      · refine aw_tabIn (off := 935) (tgt := 968) cx dL_law_33 (by omega) (by omega) (by rw [c33_29q]; rfl) (by decide) ?_
        exact law_c29 tl M cx sx hLn hJ x3q ⟨by omega, by omega⟩ (fun M2 q => KQ _ _ ad tl M2 (by omega) (by omega) (by omega) (by omega) hA q)
      by_cases c33_30q : z32q = 30
      · refine aw_tabIn (off := 978) (tgt := 1011) cx dL_law_33 (by omega) (by omega) (by rw [c33_30q]; rfl) (by decide) ?_
        exact law_c30 tl M cx sx hLn hJ x3q ⟨by omega, by omega⟩ ⟨by show cells + 2 ≤ 600000; omega, by show slots + 62 ≤ 7302250; omega⟩ (by rw [List.length_append]; have : LB.length = 65 := rfl; omega) (fun ad2 tl2 M2 q1q q2q q3q => KQ _ _ ad2 tl2 M2 (by omega) (by omega) (by omega) (by omega) (q2q.trans hA) q1q)
      by_cases c33_31q : z32q = 31
      · refine aw_tabIn (off := 1021) (tgt := 1054) cx dL_law_33 (by omega) (by omega) (by rw [c33_31q]; rfl) (by decide) ?_
        exact law_c31 tl M cx sx hLn hJ x3q ⟨by omega, by omega⟩ (fun M2 q => KQ _ _ ad tl M2 (by omega) (by omega) (by omega) (by omega) hA q)
      by_cases c33_32q : z32q = 32
      · refine aw_tabIn (off := 1044) (tgt := 1077) cx dL_law_33 (by omega) (by omega) (by rw [c33_32q]; rfl) (by decide) ?_
        exact law_c32 tl M cx sx hLn hJ x3q ⟨by omega, by omega⟩ (fun M2 q => KQ _ _ ad tl M2 (by omega) (by omega) (by omega) (by omega) hA q)
      by_cases c33_33q : z32q = 33
      · refine aw_tabIn (off := 1097) (tgt := 1130) cx dL_law_33 (by omega) (by omega) (by rw [c33_33q]; rfl) (by decide) ?_
        exact law_c33 tl M cx sx hLn hJ x3q ⟨by omega, by omega⟩ (fun M2 q => KQ _ _ ad tl M2 (by omega) (by omega) (by omega) (by omega) hA q)
      by_cases c33_34q : z32q = 34
      · refine aw_tabIn (off := 1140) (tgt := 1173) cx dL_law_33 (by omega) (by omega) (by rw [c33_34q]; rfl) (by decide) ?_
        exact law_c34 tl M cx sx hLn hJ x3q ⟨by omega, by omega⟩ (fun M2 q => KQ _ _ ad tl M2 (by omega) (by omega) (by omega) (by omega) hA q)
      by_cases c33_35q : z32q = 35
      · refine aw_tabIn (off := 1203) (tgt := 1236) cx dL_law_33 (by omega) (by omega) (by rw [c33_35q]; rfl) (by decide) ?_
        exact law_c35 tl M cx sx hLn hJ x3q ⟨by omega, by omega⟩ (fun M2 q => KQ _ _ ad tl M2 (by omega) (by omega) (by omega) (by omega) hA q)
      by_cases c33_36q : z32q = 36
      · refine aw_tabIn (off := 1236) (tgt := 1269) cx dL_law_33 (by omega) (by omega) (by rw [c33_36q]; rfl) (by decide) ?_
        exact law_c36 tl M cx sx hLn hJ x3q ⟨by omega, by omega⟩ (fun M2 q => KQ _ _ ad tl M2 (by omega) (by omega) (by omega) (by omega) hA q)
      by_cases c33_37q : z32q = 37
      · refine aw_tabIn (off := 1259) (tgt := 1292) cx dL_law_33 (by omega) (by omega) (by rw [c33_37q]; rfl) (by decide) ?_
        exact law_c37 tl M cx sx hLn hJ x3q ⟨by omega, by omega⟩ (fun M2 q => KQ _ _ ad tl M2 (by omega) (by omega) (by omega) (by omega) hA q)
      refine aw_tabOut (tgt := 1306) cx dL_law_33 (by omega) (by decide) ?_
      exact KQ _ _ ad tl M (by omega) (by omega) (by omega) (by omega) hA hJ
