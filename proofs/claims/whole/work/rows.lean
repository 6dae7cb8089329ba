section
-- ===== PART A: goes FIRST, ahead of the names: the tables' words, and 'selects' of the private methods out of them =====
/-- a private method of a class that the tables say can be made, by its rows of tables_1 -/
def lw_okq (q : MethodName × Nat) : Prop := (q.1.cls ≠ "java/lang/invoke/MethodHandle" ∧ q.1.cls ≠ "java/lang/invoke/VarHandle") ∧ Cond.instantiable q.1.cls q.2 ∈ tables_1 ∧ Cond.privateMethod q.1 ∈ tables_1 ∧ Cond.instanceMethod q.1 ∈ tables_1
theorem lw_p0 : lw_okq (⟨"SwornElsewhere", "textOf", "(I)LSwornElsewhere$Text;"⟩, 15) := ⟨⟨by decide +kernel, by decide +kernel⟩, List.mem_of_getElem? (i := 14) (by decide +kernel), List.mem_of_getElem? (i := 214) (by decide +kernel), List.mem_of_getElem? (i := 215) (by decide +kernel)⟩
theorem lw_p1 : lw_okq (⟨"SwornElsewhere", "tellAnew", "()V"⟩, 15) := ⟨⟨by decide +kernel, by decide +kernel⟩, List.mem_of_getElem? (i := 14) (by decide +kernel), List.mem_of_getElem? (i := 218) (by decide +kernel), List.mem_of_getElem? (i := 219) (by decide +kernel)⟩
theorem lw_p2 : lw_okq (⟨"SwornElsewhere$Text", "fits", "(II)Z"⟩, 3) := ⟨⟨by decide +kernel, by decide +kernel⟩, List.mem_of_getElem? (i := 22) (by decide +kernel), List.mem_of_getElem? (i := 234) (by decide +kernel), List.mem_of_getElem? (i := 235) (by decide +kernel)⟩
theorem lw_p3 : lw_okq (⟨"SwornElsewhere", "finding", "(I)I"⟩, 15) := ⟨⟨by decide +kernel, by decide +kernel⟩, List.mem_of_getElem? (i := 14) (by decide +kernel), List.mem_of_getElem? (i := 284) (by decide +kernel), List.mem_of_getElem? (i := 285) (by decide +kernel)⟩
theorem lw_p4 : lw_okq (⟨"SwornElsewhere", "hearAsTold", "()V"⟩, 15) := ⟨⟨by decide +kernel, by decide +kernel⟩, List.mem_of_getElem? (i := 14) (by decide +kernel), List.mem_of_getElem? (i := 304) (by decide +kernel), List.mem_of_getElem? (i := 305) (by decide +kernel)⟩
theorem lw_p5 : lw_okq (⟨"SwornElsewhere$Bench", "spoiled", "(I)Z"⟩, 7) := ⟨⟨by decide +kernel, by decide +kernel⟩, List.mem_of_getElem? (i := 126) (by decide +kernel), List.mem_of_getElem? (i := 316) (by decide +kernel), List.mem_of_getElem? (i := 317) (by decide +kernel)⟩
theorem lw_p6 : lw_okq (⟨"SwornElsewhere$Bench", "weigh", "(I)I"⟩, 7) := ⟨⟨by decide +kernel, by decide +kernel⟩, List.mem_of_getElem? (i := 126) (by decide +kernel), List.mem_of_getElem? (i := 328) (by decide +kernel), List.mem_of_getElem? (i := 329) (by decide +kernel)⟩
theorem lw_p7 : lw_okq (⟨"SwornElsewhere$Bench", "othersFor", "(I)I"⟩, 7) := ⟨⟨by decide +kernel, by decide +kernel⟩, List.mem_of_getElem? (i := 126) (by decide +kernel), List.mem_of_getElem? (i := 332) (by decide +kernel), List.mem_of_getElem? (i := 333) (by decide +kernel)⟩
theorem lw_p8 : lw_okq (⟨"SwornElsewhere$Bench", "support", "(II)I"⟩, 7) := ⟨⟨by decide +kernel, by decide +kernel⟩, List.mem_of_getElem? (i := 126) (by decide +kernel), List.mem_of_getElem? (i := 371) (by decide +kernel), List.mem_of_getElem? (i := 372) (by decide +kernel)⟩
theorem lw_p9 : lw_okq (⟨"SwornElsewhere$Bench", "weightIn", "(II)I"⟩, 7) := ⟨⟨by decide +kernel, by decide +kernel⟩, List.mem_of_getElem? (i := 126) (by decide +kernel), List.mem_of_getElem? (i := 375) (by decide +kernel), List.mem_of_getElem? (i := 376) (by decide +kernel)⟩
theorem lw_p10 : lw_okq (⟨"SwornElsewhere", "clearedBits", "(LSwornElsewhere$Tales;I)I"⟩, 15) := ⟨⟨by decide +kernel, by decide +kernel⟩, List.mem_of_getElem? (i := 14) (by decide +kernel), List.mem_of_getElem? (i := 394) (by decide +kernel), List.mem_of_getElem? (i := 395) (by decide +kernel)⟩
theorem lw_p11 : lw_okq (⟨"SwornElsewhere$Tales", "takeOver", "(ILSwornElsewhere$Tales;I)V"⟩, 6) := ⟨⟨by decide +kernel, by decide +kernel⟩, List.mem_of_getElem? (i := 45) (by decide +kernel), List.mem_of_getElem? (i := 431) (by decide +kernel), List.mem_of_getElem? (i := 432) (by decide +kernel)⟩
theorem lw_p12 : lw_okq (⟨"SwornElsewhere", "sparedBits", "()I"⟩, 15) := ⟨⟨by decide +kernel, by decide +kernel⟩, List.mem_of_getElem? (i := 14) (by decide +kernel), List.mem_of_getElem? (i := 456) (by decide +kernel), List.mem_of_getElem? (i := 457) (by decide +kernel)⟩
theorem lw_p13 : lw_okq (⟨"SwornElsewhere", "comesOutSo", "(I)Z"⟩, 15) := ⟨⟨by decide +kernel, by decide +kernel⟩, List.mem_of_getElem? (i := 14) (by decide +kernel), List.mem_of_getElem? (i := 475) (by decide +kernel), List.mem_of_getElem? (i := 476) (by decide +kernel)⟩
theorem lw_p14 : lw_okq (⟨"SwornElsewhere", "addToTally", "(I)V"⟩, 15) := ⟨⟨by decide +kernel, by decide +kernel⟩, List.mem_of_getElem? (i := 14) (by decide +kernel), List.mem_of_getElem? (i := 488) (by decide +kernel), List.mem_of_getElem? (i := 489) (by decide +kernel)⟩
theorem lw_p15 : lw_okq (⟨"SwornElsewhere", "tallyFavour", "(I)V"⟩, 15) := ⟨⟨by decide +kernel, by decide +kernel⟩, List.mem_of_getElem? (i := 14) (by decide +kernel), List.mem_of_getElem? (i := 497) (by decide +kernel), List.mem_of_getElem? (i := 498) (by decide +kernel)⟩
def lw_privs_1 : List (MethodName × Nat) := [(⟨"SwornElsewhere", "textOf", "(I)LSwornElsewhere$Text;"⟩, 15), (⟨"SwornElsewhere", "tellAnew", "()V"⟩, 15), (⟨"SwornElsewhere$Text", "fits", "(II)Z"⟩, 3), (⟨"SwornElsewhere", "finding", "(I)I"⟩, 15), (⟨"SwornElsewhere", "hearAsTold", "()V"⟩, 15), (⟨"SwornElsewhere$Bench", "spoiled", "(I)Z"⟩, 7), (⟨"SwornElsewhere$Bench", "weigh", "(I)I"⟩, 7), (⟨"SwornElsewhere$Bench", "othersFor", "(I)I"⟩, 7), (⟨"SwornElsewhere$Bench", "support", "(II)I"⟩, 7), (⟨"SwornElsewhere$Bench", "weightIn", "(II)I"⟩, 7), (⟨"SwornElsewhere", "clearedBits", "(LSwornElsewhere$Tales;I)I"⟩, 15), (⟨"SwornElsewhere$Tales", "takeOver", "(ILSwornElsewhere$Tales;I)V"⟩, 6), (⟨"SwornElsewhere", "sparedBits", "()I"⟩, 15), (⟨"SwornElsewhere", "comesOutSo", "(I)Z"⟩, 15), (⟨"SwornElsewhere", "addToTally", "(I)V"⟩, 15), (⟨"SwornElsewhere", "tallyFavour", "(I)V"⟩, 15)]
theorem lw_r1 : ∀ q ∈ lw_privs_1, lw_okq q := List.forall_mem_cons.mpr ⟨lw_p0, List.forall_mem_cons.mpr ⟨lw_p1, List.forall_mem_cons.mpr ⟨lw_p2, List.forall_mem_cons.mpr ⟨lw_p3, List.forall_mem_cons.mpr ⟨lw_p4, List.forall_mem_cons.mpr ⟨lw_p5, List.forall_mem_cons.mpr ⟨lw_p6, List.forall_mem_cons.mpr ⟨lw_p7, List.forall_mem_cons.mpr ⟨lw_p8, List.forall_mem_cons.mpr ⟨lw_p9, List.forall_mem_cons.mpr ⟨lw_p10, List.forall_mem_cons.mpr ⟨lw_p11, List.forall_mem_cons.mpr ⟨lw_p12, List.forall_mem_cons.mpr ⟨lw_p13, List.forall_mem_cons.mpr ⟨lw_p14, List.forall_mem_cons.mpr ⟨lw_p15, fun _ h => absurd h List.not_mem_nil⟩⟩⟩⟩⟩⟩⟩⟩⟩⟩⟩⟩⟩⟩⟩⟩
theorem lw_p16 : lw_okq (⟨"SwornElsewhere", "lowestTerm", "(JI)J"⟩, 15) := ⟨⟨by decide +kernel, by decide +kernel⟩, List.mem_of_getElem? (i := 14) (by decide +kernel), List.mem_of_getElem? (i := 507) (by decide +kernel), List.mem_of_getElem? (i := 508) (by decide +kernel)⟩
theorem lw_p17 : lw_okq (⟨"SwornElsewhere$Tales", "nextLot", "()I"⟩, 6) := ⟨⟨by decide +kernel, by decide +kernel⟩, List.mem_of_getElem? (i := 45) (by decide +kernel), List.mem_of_getElem? (i := 519) (by decide +kernel), List.mem_of_getElem? (i := 520) (by decide +kernel)⟩
theorem lw_p18 : lw_okq (⟨"SwornElsewhere", "findingAsLeast", "(I)I"⟩, 15) := ⟨⟨by decide +kernel, by decide +kernel⟩, List.mem_of_getElem? (i := 14) (by decide +kernel), List.mem_of_getElem? (i := 558) (by decide +kernel), List.mem_of_getElem? (i := 559) (by decide +kernel)⟩
theorem lw_p19 : lw_okq (⟨"SwornElsewhere", "digestOfTales", "(J)J"⟩, 15) := ⟨⟨by decide +kernel, by decide +kernel⟩, List.mem_of_getElem? (i := 14) (by decide +kernel), List.mem_of_getElem? (i := 592) (by decide +kernel), List.mem_of_getElem? (i := 593) (by decide +kernel)⟩
theorem lw_p20 : lw_okq (⟨"SwornElsewhere", "digestOfCharges", "(J)J"⟩, 15) := ⟨⟨by decide +kernel, by decide +kernel⟩, List.mem_of_getElem? (i := 14) (by decide +kernel), List.mem_of_getElem? (i := 601) (by decide +kernel), List.mem_of_getElem? (i := 602) (by decide +kernel)⟩
theorem lw_p21 : lw_okq (⟨"SwornElsewhereModel", "faultOf", "(I)I"⟩, 44) := ⟨⟨by decide +kernel, by decide +kernel⟩, List.mem_of_getElem? (i := 616) (by decide +kernel), List.mem_of_getElem? (i := 777) (by decide +kernel), List.mem_of_getElem? (i := 778) (by decide +kernel)⟩
theorem lw_p22 : lw_okq (⟨"SwornElsewhereModel", "readsText", "(I)I"⟩, 44) := ⟨⟨by decide +kernel, by decide +kernel⟩, List.mem_of_getElem? (i := 616) (by decide +kernel), List.mem_of_getElem? (i := 781) (by decide +kernel), List.mem_of_getElem? (i := 782) (by decide +kernel)⟩
theorem lw_p23 : lw_okq (⟨"SwornElsewhereModel", "readsTale", "(II)I"⟩, 44) := ⟨⟨by decide +kernel, by decide +kernel⟩, List.mem_of_getElem? (i := 616) (by decide +kernel), List.mem_of_getElem? (i := 785) (by decide +kernel), List.mem_of_getElem? (i := 786) (by decide +kernel)⟩
theorem lw_p24 : lw_okq (⟨"SwornElsewhereModel", "byteAt", "(II)I"⟩, 44) := ⟨⟨by decide +kernel, by decide +kernel⟩, List.mem_of_getElem? (i := 616) (by decide +kernel), List.mem_of_getElem? (i := 789) (by decide +kernel), List.mem_of_getElem? (i := 790) (by decide +kernel)⟩
theorem lw_p25 : lw_okq (⟨"SwornElsewhereModel", "readsCharge", "(II)I"⟩, 44) := ⟨⟨by decide +kernel, by decide +kernel⟩, List.mem_of_getElem? (i := 616) (by decide +kernel), List.mem_of_getElem? (i := 802) (by decide +kernel), List.mem_of_getElem? (i := 803) (by decide +kernel)⟩
theorem lw_p26 : lw_okq (⟨"SwornElsewhereModel", "isTale", "(I)Z"⟩, 44) := ⟨⟨by decide +kernel, by decide +kernel⟩, List.mem_of_getElem? (i := 616) (by decide +kernel), List.mem_of_getElem? (i := 810) (by decide +kernel), List.mem_of_getElem? (i := 811) (by decide +kernel)⟩
theorem lw_p27 : lw_okq (⟨"SwornElsewhereModel", "reads", "()V"⟩, 44) := ⟨⟨by decide +kernel, by decide +kernel⟩, List.mem_of_getElem? (i := 616) (by decide +kernel), List.mem_of_getElem? (i := 814) (by decide +kernel), List.mem_of_getElem? (i := 815) (by decide +kernel)⟩
theorem lw_p28 : lw_okq (⟨"SwornElsewhereModel", "taleOf", "(II)I"⟩, 44) := ⟨⟨by decide +kernel, by decide +kernel⟩, List.mem_of_getElem? (i := 616) (by decide +kernel), List.mem_of_getElem? (i := 818) (by decide +kernel), List.mem_of_getElem? (i := 819) (by decide +kernel)⟩
theorem lw_p29 : lw_okq (⟨"SwornElsewhereModel", "isCharge", "(I)Z"⟩, 44) := ⟨⟨by decide +kernel, by decide +kernel⟩, List.mem_of_getElem? (i := 616) (by decide +kernel), List.mem_of_getElem? (i := 826) (by decide +kernel), List.mem_of_getElem? (i := 827) (by decide +kernel)⟩
theorem lw_p30 : lw_okq (⟨"SwornElsewhereModel", "chargeOf", "(II)I"⟩, 44) := ⟨⟨by decide +kernel, by decide +kernel⟩, List.mem_of_getElem? (i := 616) (by decide +kernel), List.mem_of_getElem? (i := 830) (by decide +kernel), List.mem_of_getElem? (i := 831) (by decide +kernel)⟩
theorem lw_p31 : lw_okq (⟨"SwornElsewhereModel", "meets", "(I)I"⟩, 44) := ⟨⟨by decide +kernel, by decide +kernel⟩, List.mem_of_getElem? (i := 616) (by decide +kernel), List.mem_of_getElem? (i := 856) (by decide +kernel), List.mem_of_getElem? (i := 857) (by decide +kernel)⟩
def lw_privs_2 : List (MethodName × Nat) := [(⟨"SwornElsewhere", "lowestTerm", "(JI)J"⟩, 15), (⟨"SwornElsewhere$Tales", "nextLot", "()I"⟩, 6), (⟨"SwornElsewhere", "findingAsLeast", "(I)I"⟩, 15), (⟨"SwornElsewhere", "digestOfTales", "(J)J"⟩, 15), (⟨"SwornElsewhere", "digestOfCharges", "(J)J"⟩, 15), (⟨"SwornElsewhereModel", "faultOf", "(I)I"⟩, 44), (⟨"SwornElsewhereModel", "readsText", "(I)I"⟩, 44), (⟨"SwornElsewhereModel", "readsTale", "(II)I"⟩, 44), (⟨"SwornElsewhereModel", "byteAt", "(II)I"⟩, 44), (⟨"SwornElsewhereModel", "readsCharge", "(II)I"⟩, 44), (⟨"SwornElsewhereModel", "isTale", "(I)Z"⟩, 44), (⟨"SwornElsewhereModel", "reads", "()V"⟩, 44), (⟨"SwornElsewhereModel", "taleOf", "(II)I"⟩, 44), (⟨"SwornElsewhereModel", "isCharge", "(I)Z"⟩, 44), (⟨"SwornElsewhereModel", "chargeOf", "(II)I"⟩, 44), (⟨"SwornElsewhereModel", "meets", "(I)I"⟩, 44)]
theorem lw_r2 : ∀ q ∈ lw_privs_2, lw_okq q := List.forall_mem_cons.mpr ⟨lw_p16, List.forall_mem_cons.mpr ⟨lw_p17, List.forall_mem_cons.mpr ⟨lw_p18, List.forall_mem_cons.mpr ⟨lw_p19, List.forall_mem_cons.mpr ⟨lw_p20, List.forall_mem_cons.mpr ⟨lw_p21, List.forall_mem_cons.mpr ⟨lw_p22, List.forall_mem_cons.mpr ⟨lw_p23, List.forall_mem_cons.mpr ⟨lw_p24, List.forall_mem_cons.mpr ⟨lw_p25, List.forall_mem_cons.mpr ⟨lw_p26, List.forall_mem_cons.mpr ⟨lw_p27, List.forall_mem_cons.mpr ⟨lw_p28, List.forall_mem_cons.mpr ⟨lw_p29, List.forall_mem_cons.mpr ⟨lw_p30, List.forall_mem_cons.mpr ⟨lw_p31, fun _ h => absurd h List.not_mem_nil⟩⟩⟩⟩⟩⟩⟩⟩⟩⟩⟩⟩⟩⟩⟩⟩
theorem lw_p32 : lw_okq (⟨"SwornElsewhereModel", "clashOf", "(II)I"⟩, 44) := ⟨⟨by decide +kernel, by decide +kernel⟩, List.mem_of_getElem? (i := 616) (by decide +kernel), List.mem_of_getElem? (i := 865) (by decide +kernel), List.mem_of_getElem? (i := 866) (by decide +kernel)⟩
theorem lw_p33 : lw_okq (⟨"SwornElsewhereModel", "asTold", "()V"⟩, 44) := ⟨⟨by decide +kernel, by decide +kernel⟩, List.mem_of_getElem? (i := 616) (by decide +kernel), List.mem_of_getElem? (i := 869) (by decide +kernel), List.mem_of_getElem? (i := 870) (by decide +kernel)⟩
theorem lw_p34 : lw_okq (⟨"SwornElsewhereModel", "clashes", "(II)Z"⟩, 44) := ⟨⟨by decide +kernel, by decide +kernel⟩, List.mem_of_getElem? (i := 616) (by decide +kernel), List.mem_of_getElem? (i := 873) (by decide +kernel), List.mem_of_getElem? (i := 874) (by decide +kernel)⟩
theorem lw_p35 : lw_okq (⟨"SwornElsewhereModel", "standsOf", "(II)I"⟩, 44) := ⟨⟨by decide +kernel, by decide +kernel⟩, List.mem_of_getElem? (i := 616) (by decide +kernel), List.mem_of_getElem? (i := 884) (by decide +kernel), List.mem_of_getElem? (i := 885) (by decide +kernel)⟩
theorem lw_p36 : lw_okq (⟨"SwornElsewhereModel", "runsTold", "()V"⟩, 44) := ⟨⟨by decide +kernel, by decide +kernel⟩, List.mem_of_getElem? (i := 616) (by decide +kernel), List.mem_of_getElem? (i := 888) (by decide +kernel), List.mem_of_getElem? (i := 889) (by decide +kernel)⟩
theorem lw_p37 : lw_okq (⟨"SwornElsewhereModel", "runs", "()V"⟩, 44) := ⟨⟨by decide +kernel, by decide +kernel⟩, List.mem_of_getElem? (i := 616) (by decide +kernel), List.mem_of_getElem? (i := 892) (by decide +kernel), List.mem_of_getElem? (i := 893) (by decide +kernel)⟩
theorem lw_p38 : lw_okq (⟨"SwornElsewhereModel", "countsAll", "()V"⟩, 44) := ⟨⟨by decide +kernel, by decide +kernel⟩, List.mem_of_getElem? (i := 616) (by decide +kernel), List.mem_of_getElem? (i := 896) (by decide +kernel), List.mem_of_getElem? (i := 897) (by decide +kernel)⟩
theorem lw_p39 : lw_okq (⟨"SwornElsewhereModel", "isShaken", "(I)Z"⟩, 44) := ⟨⟨by decide +kernel, by decide +kernel⟩, List.mem_of_getElem? (i := 616) (by decide +kernel), List.mem_of_getElem? (i := 900) (by decide +kernel), List.mem_of_getElem? (i := 901) (by decide +kernel)⟩
theorem lw_p40 : lw_okq (⟨"SwornElsewhereModel", "weighsAll", "()V"⟩, 44) := ⟨⟨by decide +kernel, by decide +kernel⟩, List.mem_of_getElem? (i := 616) (by decide +kernel), List.mem_of_getElem? (i := 907) (by decide +kernel), List.mem_of_getElem? (i := 908) (by decide +kernel)⟩
theorem lw_p41 : lw_okq (⟨"SwornElsewhereModel", "others", "(I)I"⟩, 44) := ⟨⟨by decide +kernel, by decide +kernel⟩, List.mem_of_getElem? (i := 616) (by decide +kernel), List.mem_of_getElem? (i := 911) (by decide +kernel), List.mem_of_getElem? (i := 912) (by decide +kernel)⟩
theorem lw_p42 : lw_okq (⟨"SwornElsewhereModel", "isLiar", "(I)Z"⟩, 44) := ⟨⟨by decide +kernel, by decide +kernel⟩, List.mem_of_getElem? (i := 616) (by decide +kernel), List.mem_of_getElem? (i := 915) (by decide +kernel), List.mem_of_getElem? (i := 916) (by decide +kernel)⟩
theorem lw_p43 : lw_okq (⟨"SwornElsewhereModel", "standsIn", "(I)V"⟩, 44) := ⟨⟨by decide +kernel, by decide +kernel⟩, List.mem_of_getElem? (i := 616) (by decide +kernel), List.mem_of_getElem? (i := 919) (by decide +kernel), List.mem_of_getElem? (i := 920) (by decide +kernel)⟩
theorem lw_p44 : lw_okq (⟨"SwornElsewhereModel", "letters", "(II)I"⟩, 44) := ⟨⟨by decide +kernel, by decide +kernel⟩, List.mem_of_getElem? (i := 616) (by decide +kernel), List.mem_of_getElem? (i := 923) (by decide +kernel), List.mem_of_getElem? (i := 924) (by decide +kernel)⟩
theorem lw_p45 : lw_okq (⟨"SwornElsewhereModel", "beliefNow", "(I)I"⟩, 44) := ⟨⟨by decide +kernel, by decide +kernel⟩, List.mem_of_getElem? (i := 616) (by decide +kernel), List.mem_of_getElem? (i := 927) (by decide +kernel), List.mem_of_getElem? (i := 928) (by decide +kernel)⟩
theorem lw_p46 : lw_okq (⟨"SwornElsewhereModel", "bestTown", "(I)I"⟩, 44) := ⟨⟨by decide +kernel, by decide +kernel⟩, List.mem_of_getElem? (i := 616) (by decide +kernel), List.mem_of_getElem? (i := 931) (by decide +kernel), List.mem_of_getElem? (i := 932) (by decide +kernel)⟩
theorem lw_p47 : lw_okq (⟨"SwornElsewhereModel", "manOf", "(III)I"⟩, 44) := ⟨⟨by decide +kernel, by decide +kernel⟩, List.mem_of_getElem? (i := 616) (by decide +kernel), List.mem_of_getElem? (i := 939) (by decide +kernel), List.mem_of_getElem? (i := 940) (by decide +kernel)⟩
def lw_privs_3 : List (MethodName × Nat) := [(⟨"SwornElsewhereModel", "clashOf", "(II)I"⟩, 44), (⟨"SwornElsewhereModel", "asTold", "()V"⟩, 44), (⟨"SwornElsewhereModel", "clashes", "(II)Z"⟩, 44), (⟨"SwornElsewhereModel", "standsOf", "(II)I"⟩, 44), (⟨"SwornElsewhereModel", "runsTold", "()V"⟩, 44), (⟨"SwornElsewhereModel", "runs", "()V"⟩, 44), (⟨"SwornElsewhereModel", "countsAll", "()V"⟩, 44), (⟨"SwornElsewhereModel", "isShaken", "(I)Z"⟩, 44), (⟨"SwornElsewhereModel", "weighsAll", "()V"⟩, 44), (⟨"SwornElsewhereModel", "others", "(I)I"⟩, 44), (⟨"SwornElsewhereModel", "isLiar", "(I)Z"⟩, 44), (⟨"SwornElsewhereModel", "standsIn", "(I)V"⟩, 44), (⟨"SwornElsewhereModel", "letters", "(II)I"⟩, 44), (⟨"SwornElsewhereModel", "beliefNow", "(I)I"⟩, 44), (⟨"SwornElsewhereModel", "bestTown", "(I)I"⟩, 44), (⟨"SwornElsewhereModel", "manOf", "(III)I"⟩, 44)]
theorem lw_r3 : ∀ q ∈ lw_privs_3, lw_okq q := List.forall_mem_cons.mpr ⟨lw_p32, List.forall_mem_cons.mpr ⟨lw_p33, List.forall_mem_cons.mpr ⟨lw_p34, List.forall_mem_cons.mpr ⟨lw_p35, List.forall_mem_cons.mpr ⟨lw_p36, List.forall_mem_cons.mpr ⟨lw_p37, List.forall_mem_cons.mpr ⟨lw_p38, List.forall_mem_cons.mpr ⟨lw_p39, List.forall_mem_cons.mpr ⟨lw_p40, List.forall_mem_cons.mpr ⟨lw_p41, List.forall_mem_cons.mpr ⟨lw_p42, List.forall_mem_cons.mpr ⟨lw_p43, List.forall_mem_cons.mpr ⟨lw_p44, List.forall_mem_cons.mpr ⟨lw_p45, List.forall_mem_cons.mpr ⟨lw_p46, List.forall_mem_cons.mpr ⟨lw_p47, fun _ h => absurd h List.not_mem_nil⟩⟩⟩⟩⟩⟩⟩⟩⟩⟩⟩⟩⟩⟩⟩⟩
theorem lw_p48 : lw_okq (⟨"SwornElsewhereModel", "beliefOf", "(I)I"⟩, 44) := ⟨⟨by decide +kernel, by decide +kernel⟩, List.mem_of_getElem? (i := 616) (by decide +kernel), List.mem_of_getElem? (i := 947) (by decide +kernel), List.mem_of_getElem? (i := 948) (by decide +kernel)⟩
theorem lw_p49 : lw_okq (⟨"SwornElsewhereModel", "clearedOf", "(II)I"⟩, 44) := ⟨⟨by decide +kernel, by decide +kernel⟩, List.mem_of_getElem? (i := 616) (by decide +kernel), List.mem_of_getElem? (i := 956) (by decide +kernel), List.mem_of_getElem? (i := 957) (by decide +kernel)⟩
theorem lw_p50 : lw_okq (⟨"SwornElsewhereModel", "sumOf", "(I)I"⟩, 44) := ⟨⟨by decide +kernel, by decide +kernel⟩, List.mem_of_getElem? (i := 616) (by decide +kernel), List.mem_of_getElem? (i := 964) (by decide +kernel), List.mem_of_getElem? (i := 965) (by decide +kernel)⟩
theorem lw_p51 : lw_okq (⟨"SwornElsewhereModel", "countMany", "()I"⟩, 44) := ⟨⟨by decide +kernel, by decide +kernel⟩, List.mem_of_getElem? (i := 616) (by decide +kernel), List.mem_of_getElem? (i := 971) (by decide +kernel), List.mem_of_getElem? (i := 972) (by decide +kernel)⟩
theorem lw_p52 : lw_okq (⟨"SwornElsewhereModel", "menOf", "(I)I"⟩, 44) := ⟨⟨by decide +kernel, by decide +kernel⟩, List.mem_of_getElem? (i := 616) (by decide +kernel), List.mem_of_getElem? (i := 975) (by decide +kernel), List.mem_of_getElem? (i := 976) (by decide +kernel)⟩
theorem lw_p53 : lw_okq (⟨"SwornElsewhereModel", "liarOf", "()I"⟩, 44) := ⟨⟨by decide +kernel, by decide +kernel⟩, List.mem_of_getElem? (i := 616) (by decide +kernel), List.mem_of_getElem? (i := 983) (by decide +kernel), List.mem_of_getElem? (i := 984) (by decide +kernel)⟩
theorem lw_p54 : lw_okq (⟨"SwornElsewhereModel", "bestOf", "()I"⟩, 44) := ⟨⟨by decide +kernel, by decide +kernel⟩, List.mem_of_getElem? (i := 616) (by decide +kernel), List.mem_of_getElem? (i := 991) (by decide +kernel), List.mem_of_getElem? (i := 992) (by decide +kernel)⟩
theorem lw_p55 : lw_okq (⟨"SwornElsewhereModel", "whereOf", "(I)I"⟩, 44) := ⟨⟨by decide +kernel, by decide +kernel⟩, List.mem_of_getElem? (i := 616) (by decide +kernel), List.mem_of_getElem? (i := 999) (by decide +kernel), List.mem_of_getElem? (i := 1000) (by decide +kernel)⟩
theorem lw_p56 : lw_okq (⟨"SwornElsewhereModel", "moveOf", "(II)I"⟩, 44) := ⟨⟨by decide +kernel, by decide +kernel⟩, List.mem_of_getElem? (i := 616) (by decide +kernel), List.mem_of_getElem? (i := 1010) (by decide +kernel), List.mem_of_getElem? (i := 1011) (by decide +kernel)⟩
theorem lw_p57 : lw_okq (⟨"SwornElsewhereModel", "starts", "()V"⟩, 44) := ⟨⟨by decide +kernel, by decide +kernel⟩, List.mem_of_getElem? (i := 616) (by decide +kernel), List.mem_of_getElem? (i := 1014) (by decide +kernel), List.mem_of_getElem? (i := 1015) (by decide +kernel)⟩
theorem lw_p58 : lw_okq (⟨"SwornElsewhereModel", "tries", "(I)V"⟩, 44) := ⟨⟨by decide +kernel, by decide +kernel⟩, List.mem_of_getElem? (i := 616) (by decide +kernel), List.mem_of_getElem? (i := 1018) (by decide +kernel), List.mem_of_getElem? (i := 1019) (by decide +kernel)⟩
theorem lw_p59 : lw_okq (⟨"SwornElsewhereModel", "dropOf", "(I)I"⟩, 44) := ⟨⟨by decide +kernel, by decide +kernel⟩, List.mem_of_getElem? (i := 616) (by decide +kernel), List.mem_of_getElem? (i := 1026) (by decide +kernel), List.mem_of_getElem? (i := 1027) (by decide +kernel)⟩
theorem lw_p60 : lw_okq (⟨"SwornElsewhereModel", "cleanOf", "(I)I"⟩, 44) := ⟨⟨by decide +kernel, by decide +kernel⟩, List.mem_of_getElem? (i := 616) (by decide +kernel), List.mem_of_getElem? (i := 1034) (by decide +kernel), List.mem_of_getElem? (i := 1035) (by decide +kernel)⟩
theorem lw_p61 : lw_okq (⟨"SwornElsewhereModel", "spareBy", "()I"⟩, 44) := ⟨⟨by decide +kernel, by decide +kernel⟩, List.mem_of_getElem? (i := 616) (by decide +kernel), List.mem_of_getElem? (i := 1042) (by decide +kernel), List.mem_of_getElem? (i := 1043) (by decide +kernel)⟩
theorem lw_p62 : lw_okq (⟨"SwornElsewhereModel", "isSpared", "(I)Z"⟩, 44) := ⟨⟨by decide +kernel, by decide +kernel⟩, List.mem_of_getElem? (i := 616) (by decide +kernel), List.mem_of_getElem? (i := 1046) (by decide +kernel), List.mem_of_getElem? (i := 1047) (by decide +kernel)⟩
theorem lw_p63 : lw_okq (⟨"SwornElsewhereModel", "ofRow", "(II)I"⟩, 44) := ⟨⟨by decide +kernel, by decide +kernel⟩, List.mem_of_getElem? (i := 616) (by decide +kernel), List.mem_of_getElem? (i := 1050) (by decide +kernel), List.mem_of_getElem? (i := 1051) (by decide +kernel)⟩
def lw_privs_4 : List (MethodName × Nat) := [(⟨"SwornElsewhereModel", "beliefOf", "(I)I"⟩, 44), (⟨"SwornElsewhereModel", "clearedOf", "(II)I"⟩, 44), (⟨"SwornElsewhereModel", "sumOf", "(I)I"⟩, 44), (⟨"SwornElsewhereModel", "countMany", "()I"⟩, 44), (⟨"SwornElsewhereModel", "menOf", "(I)I"⟩, 44), (⟨"SwornElsewhereModel", "liarOf", "()I"⟩, 44), (⟨"SwornElsewhereModel", "bestOf", "()I"⟩, 44), (⟨"SwornElsewhereModel", "whereOf", "(I)I"⟩, 44), (⟨"SwornElsewhereModel", "moveOf", "(II)I"⟩, 44), (⟨"SwornElsewhereModel", "starts", "()V"⟩, 44), (⟨"SwornElsewhereModel", "tries", "(I)V"⟩, 44), (⟨"SwornElsewhereModel", "dropOf", "(I)I"⟩, 44), (⟨"SwornElsewhereModel", "cleanOf", "(I)I"⟩, 44), (⟨"SwornElsewhereModel", "spareBy", "()I"⟩, 44), (⟨"SwornElsewhereModel", "isSpared", "(I)Z"⟩, 44), (⟨"SwornElsewhereModel", "ofRow", "(II)I"⟩, 44)]
theorem lw_r4 : ∀ q ∈ lw_privs_4, lw_okq q := List.forall_mem_cons.mpr ⟨lw_p48, List.forall_mem_cons.mpr ⟨lw_p49, List.forall_mem_cons.mpr ⟨lw_p50, List.forall_mem_cons.mpr ⟨lw_p51, List.forall_mem_cons.mpr ⟨lw_p52, List.forall_mem_cons.mpr ⟨lw_p53, List.forall_mem_cons.mpr ⟨lw_p54, List.forall_mem_cons.mpr ⟨lw_p55, List.forall_mem_cons.mpr ⟨lw_p56, List.forall_mem_cons.mpr ⟨lw_p57, List.forall_mem_cons.mpr ⟨lw_p58, List.forall_mem_cons.mpr ⟨lw_p59, List.forall_mem_cons.mpr ⟨lw_p60, List.forall_mem_cons.mpr ⟨lw_p61, List.forall_mem_cons.mpr ⟨lw_p62, List.forall_mem_cons.mpr ⟨lw_p63, fun _ h => absurd h List.not_mem_nil⟩⟩⟩⟩⟩⟩⟩⟩⟩⟩⟩⟩⟩⟩⟩⟩
theorem lw_p64 : lw_okq (⟨"SwornElsewhereModel", "neverNow", "()I"⟩, 44) := ⟨⟨by decide +kernel, by decide +kernel⟩, List.mem_of_getElem? (i := 616) (by decide +kernel), List.mem_of_getElem? (i := 1066) (by decide +kernel), List.mem_of_getElem? (i := 1067) (by decide +kernel)⟩
theorem lw_p65 : lw_okq (⟨"SwornElsewhereModel", "isSeen", "()Z"⟩, 44) := ⟨⟨by decide +kernel, by decide +kernel⟩, List.mem_of_getElem? (i := 616) (by decide +kernel), List.mem_of_getElem? (i := 1070) (by decide +kernel), List.mem_of_getElem? (i := 1071) (by decide +kernel)⟩
theorem lw_p66 : lw_okq (⟨"SwornElsewhereModel", "whoseBy", "(I)I"⟩, 44) := ⟨⟨by decide +kernel, by decide +kernel⟩, List.mem_of_getElem? (i := 616) (by decide +kernel), List.mem_of_getElem? (i := 1078) (by decide +kernel), List.mem_of_getElem? (i := 1079) (by decide +kernel)⟩
theorem lw_p67 : lw_okq (⟨"SwornElsewhereModel", "sortsBy", "(I)I"⟩, 44) := ⟨⟨by decide +kernel, by decide +kernel⟩, List.mem_of_getElem? (i := 616) (by decide +kernel), List.mem_of_getElem? (i := 1082) (by decide +kernel), List.mem_of_getElem? (i := 1083) (by decide +kernel)⟩
theorem lw_p68 : lw_okq (⟨"SwornElsewhereModel", "askOf", "(I)I"⟩, 44) := ⟨⟨by decide +kernel, by decide +kernel⟩, List.mem_of_getElem? (i := 616) (by decide +kernel), List.mem_of_getElem? (i := 1090) (by decide +kernel), List.mem_of_getElem? (i := 1091) (by decide +kernel)⟩
theorem lw_p69 : lw_okq (⟨"SwornElsewhereModel", "chanceOf", "(III)J"⟩, 44) := ⟨⟨by decide +kernel, by decide +kernel⟩, List.mem_of_getElem? (i := 616) (by decide +kernel), List.mem_of_getElem? (i := 1098) (by decide +kernel), List.mem_of_getElem? (i := 1099) (by decide +kernel)⟩
theorem lw_p70 : lw_okq (⟨"SwornElsewhereModel", "livesOf", "(III)I"⟩, 44) := ⟨⟨by decide +kernel, by decide +kernel⟩, List.mem_of_getElem? (i := 616) (by decide +kernel), List.mem_of_getElem? (i := 1113) (by decide +kernel), List.mem_of_getElem? (i := 1114) (by decide +kernel)⟩
theorem lw_p71 : lw_okq (⟨"SwornElsewhereModel", "lacks", "(III)I"⟩, 44) := ⟨⟨by decide +kernel, by decide +kernel⟩, List.mem_of_getElem? (i := 616) (by decide +kernel), List.mem_of_getElem? (i := 1130) (by decide +kernel), List.mem_of_getElem? (i := 1131) (by decide +kernel)⟩
theorem lw_p72 : lw_okq (⟨"SwornElsewhereModel", "keep", "(III)V"⟩, 44) := ⟨⟨by decide +kernel, by decide +kernel⟩, List.mem_of_getElem? (i := 616) (by decide +kernel), List.mem_of_getElem? (i := 1134) (by decide +kernel), List.mem_of_getElem? (i := 1135) (by decide +kernel)⟩
theorem lw_p73 : lw_okq (⟨"SwornElsewhereModel", "tellOf", "(I)I"⟩, 44) := ⟨⟨by decide +kernel, by decide +kernel⟩, List.mem_of_getElem? (i := 616) (by decide +kernel), List.mem_of_getElem? (i := 1154) (by decide +kernel), List.mem_of_getElem? (i := 1155) (by decide +kernel)⟩
theorem lw_p74 : lw_okq (⟨"SwornElsewhereModel", "taleDigest", "(JI)J"⟩, 44) := ⟨⟨by decide +kernel, by decide +kernel⟩, List.mem_of_getElem? (i := 616) (by decide +kernel), List.mem_of_getElem? (i := 1165) (by decide +kernel), List.mem_of_getElem? (i := 1166) (by decide +kernel)⟩
theorem lw_p75 : lw_okq (⟨"SwornElsewhereModel", "chargeDigest", "(JI)J"⟩, 44) := ⟨⟨by decide +kernel, by decide +kernel⟩, List.mem_of_getElem? (i := 616) (by decide +kernel), List.mem_of_getElem? (i := 1169) (by decide +kernel), List.mem_of_getElem? (i := 1170) (by decide +kernel)⟩
def lw_privs_5 : List (MethodName × Nat) := [(⟨"SwornElsewhereModel", "neverNow", "()I"⟩, 44), (⟨"SwornElsewhereModel", "isSeen", "()Z"⟩, 44), (⟨"SwornElsewhereModel", "whoseBy", "(I)I"⟩, 44), (⟨"SwornElsewhereModel", "sortsBy", "(I)I"⟩, 44), (⟨"SwornElsewhereModel", "askOf", "(I)I"⟩, 44), (⟨"SwornElsewhereModel", "chanceOf", "(III)J"⟩, 44), (⟨"SwornElsewhereModel", "livesOf", "(III)I"⟩, 44), (⟨"SwornElsewhereModel", "lacks", "(III)I"⟩, 44), (⟨"SwornElsewhereModel", "keep", "(III)V"⟩, 44), (⟨"SwornElsewhereModel", "tellOf", "(I)I"⟩, 44), (⟨"SwornElsewhereModel", "taleDigest", "(JI)J"⟩, 44), (⟨"SwornElsewhereModel", "chargeDigest", "(JI)J"⟩, 44)]
theorem lw_r5 : ∀ q ∈ lw_privs_5, lw_okq q := List.forall_mem_cons.mpr ⟨lw_p64, List.forall_mem_cons.mpr ⟨lw_p65, List.forall_mem_cons.mpr ⟨lw_p66, List.forall_mem_cons.mpr ⟨lw_p67, List.forall_mem_cons.mpr ⟨lw_p68, List.forall_mem_cons.mpr ⟨lw_p69, List.forall_mem_cons.mpr ⟨lw_p70, List.forall_mem_cons.mpr ⟨lw_p71, List.forall_mem_cons.mpr ⟨lw_p72, List.forall_mem_cons.mpr ⟨lw_p73, List.forall_mem_cons.mpr ⟨lw_p74, List.forall_mem_cons.mpr ⟨lw_p75, fun _ h => absurd h List.not_mem_nil⟩⟩⟩⟩⟩⟩⟩⟩⟩⟩⟩⟩
def lw_privs : List (MethodName × Nat) := lw_privs_1 ++ (lw_privs_2 ++ (lw_privs_3 ++ (lw_privs_4 ++ (lw_privs_5))))
def lw_tbl : List Cond := k2_sels lw_privs ++ tables_1
theorem lw_privs_ok : ∀ q ∈ lw_privs, lw_okq q := by
  show ∀ q ∈ lw_privs_1 ++ (lw_privs_2 ++ (lw_privs_3 ++ (lw_privs_4 ++ (lw_privs_5)))), lw_okq q
  exact List.forall_mem_append.mpr ⟨lw_r1, List.forall_mem_append.mpr ⟨lw_r2, List.forall_mem_append.mpr ⟨lw_r3, List.forall_mem_append.mpr ⟨lw_r4, lw_r5⟩⟩⟩⟩
-- ===== end of PART A; then your names; then what follows =====
/-! ===== BEGIN words of one list among another's, by their places ===== -/
theorem goodIn_r {big : List Cond} (ws : List Cond) (ps : List Nat) (hp : ws = ps.filterMap (fun i => big[i]?)) (h : ws.all goodWord = true) : GoodIn big ws := by
  intro w hw
  have h1 := List.all_eq_true.mp h w hw
  rw [hp] at hw
  obtain ⟨i, -, hi⟩ := List.mem_filterMap.mp hw
  have hm : w ∈ big := by first | exact List.mem_of_getElem? hi | exact List.getElem?_mem hi
  exact ⟨hm, good_of_word h1⟩
theorem goodIn_app {big a b : List Cond} (ha : GoodIn big a) (hb : GoodIn big b) : GoodIn big (a ++ b) := fun w h => (List.mem_append.mp h).elim (ha w) (hb w)
theorem goodIn_ca {big a b : List Cond} {c : Cond} (ha : GoodIn big (c :: a)) (hb : GoodIn big b) : GoodIn big (c :: (a ++ b)) := fun w h => (List.mem_cons.mp h).elim (fun e => ha w (List.mem_cons.mpr (Or.inl e))) (fun h => (List.mem_append.mp h).elim (fun h => ha w (List.mem_cons.mpr (Or.inr h))) (hb w))
theorem goodIn_sub {big ws : List Cond} (hm : ∀ w ∈ ws, w ∈ big) (h : ws.all goodWord = true) : GoodIn big ws := fun w hw => ⟨hm w hw, good_of_word (List.all_eq_true.mp h w hw)⟩
/-! ===== END ===== -/
/-! ===== BEGIN printed: names, fields, word lists, decode rows ===== -/
def RX0 : String := "SwornElsewhere$Bench"
def TX0 : u_T := fun k => match k with
  | 0 => ("SwornElsewhere$Bench", "counts", "[Z", true)
  | 1 => ("SwornElsewhere$Bench", "weight", "[I", true)
  | 2 => ("SwornElsewhere$Bench", "counted", "I", false)
  | 3 => ("SwornElsewhere$Bench", "birth", "[I", true)
  | 4 => ("SwornElsewhere$Bench", "kind", "[I", true)
  | 5 => ("SwornElsewhere$Bench", "events", "LSwornElsewhere$Events;", true)
  | _ => ("SwornElsewhere$Bench", "tales", "LSwornElsewhere$Tales;", false)
def tyX0 : Nat → FieldType := fun k => match k with
  | 0 => .array .boolean
  | 1 => .array .int
  | 2 => .int
  | 3 => .array .int
  | 4 => .array .int
  | 5 => .object "SwornElsewhere$Events"
  | _ => .object "SwornElsewhere$Tales"
abbrev wsX00 : List Cond := u_ws RX0 TX0 7
theorem nmX0 : ∀ a, a < 7 → ∀ b, b < 7 → a ≠ b → (TX0 a).2.1 ≠ (TX0 b).2.1 := by decide +kernel
theorem tyX0_ok : ∀ k, k < 7 → parseFieldDescriptor (TX0 k).2.2.1 = some (tyX0 k) := by decide +kernel
abbrev cX0_init : ByteArray := prog_2_method_1_code
def yX0_init : MethodName := ⟨RX0, "<init>", "(LSwornElsewhere$Tales;LSwornElsewhere$Events;)V"⟩
abbrev cX0_hear : ByteArray := prog_2_method_2_code
def yX0_hear : MethodName := ⟨RX0, "hear", "(LSwornElsewhere$Tales;I)V"⟩
abbrev cX0_spoiled : ByteArray := prog_2_method_3_code
def yX0_spoiled : MethodName := ⟨RX0, "spoiled", "(I)Z"⟩
abbrev cX0_firstAgainst : ByteArray := prog_2_method_4_code
def yX0_firstAgainst : MethodName := ⟨RX0, "firstAgainst", "(I)I"⟩
abbrev cX0_weigh : ByteArray := prog_2_method_5_code
def yX0_weigh : MethodName := ⟨RX0, "weigh", "(I)I"⟩
abbrev cX0_othersFor : ByteArray := prog_2_method_6_code
def yX0_othersFor : MethodName := ⟨RX0, "othersFor", "(I)I"⟩
abbrev cX0_fallenOf : ByteArray := prog_2_method_7_code
def yX0_fallenOf : MethodName := ⟨RX0, "fallenOf", "(I)I"⟩
abbrev cX0_standing : ByteArray := prog_2_method_8_code
def yX0_standing : MethodName := ⟨RX0, "standing", "(II)I"⟩
abbrev cX0_menOfRank : ByteArray := prog_2_method_9_code
def yX0_menOfRank : MethodName := ⟨RX0, "menOfRank", "(I)I"⟩
abbrev cX0_weightIn : ByteArray := prog_2_method_10_code
def yX0_weightIn : MethodName := ⟨RX0, "weightIn", "(II)I"⟩
abbrev cX0_support : ByteArray := prog_2_method_11_code
def yX0_support : MethodName := ⟨RX0, "support", "(II)I"⟩
abbrev cX0_trust : ByteArray := prog_2_method_12_code
def yX0_trust : MethodName := ⟨RX0, "trust", "(II)I"⟩
abbrev cX0_trustedTown : ByteArray := prog_2_method_13_code
def yX0_trustedTown : MethodName := ⟨RX0, "trustedTown", "(II)I"⟩
abbrev cX0_swornTowns : ByteArray := prog_2_method_14_code
def yX0_swornTowns : MethodName := ⟨RX0, "swornTowns", "(I)I"⟩
def RX1 : String := "SwornElsewhere$Charges"
def TX1 : u_T := fun k => match k with
  | 0 => ("SwornElsewhere$Charges", "night", "[I", true)
  | 1 => ("SwornElsewhere$Charges", "town", "[I", true)
  | _ => ("SwornElsewhere$Charges", "size", "I", false)
def tyX1 : Nat → FieldType := fun k => match k with
  | 0 => .array .int
  | 1 => .array .int
  | _ => .int
abbrev wsX10 : List Cond := u_ws RX1 TX1 3
theorem nmX1 : ∀ a, a < 3 → ∀ b, b < 3 → a ≠ b → (TX1 a).2.1 ≠ (TX1 b).2.1 := by decide +kernel
theorem tyX1_ok : ∀ k, k < 3 → parseFieldDescriptor (TX1 k).2.2.1 = some (tyX1 k) := by decide +kernel
abbrev cX1_init : ByteArray := prog_3_method_1_code
def yX1_init : MethodName := ⟨RX1, "<init>", "()V"⟩
abbrev cX1_takeFrom : ByteArray := prog_3_method_2_code
def yX1_takeFrom : MethodName := ⟨RX1, "takeFrom", "(LSwornElsewhere$Text;)V"⟩
def RX2 : String := "SwornElsewhere$Events"
def TX2 : u_T := fun k => match k with
  | 0 => ("SwornElsewhere$Events", "kind", "[I", true)
  | 1 => ("SwornElsewhere$Events", "night", "[I", true)
  | 2 => ("SwornElsewhere$Events", "number", "[I", true)
  | _ => ("SwornElsewhere$Events", "size", "I", false)
def tyX2 : Nat → FieldType := fun k => match k with
  | 0 => .array .int
  | 1 => .array .int
  | 2 => .array .int
  | _ => .int
abbrev wsX20 : List Cond := u_ws RX2 TX2 4
theorem nmX2 : ∀ a, a < 4 → ∀ b, b < 4 → a ≠ b → (TX2 a).2.1 ≠ (TX2 b).2.1 := by decide +kernel
theorem tyX2_ok : ∀ k, k < 4 → parseFieldDescriptor (TX2 k).2.2.1 = some (tyX2 k) := by decide +kernel
abbrev cX2_init : ByteArray := prog_4_method_1_code
def yX2_init : MethodName := ⟨RX2, "<init>", "()V"⟩
abbrev cX2_all : ByteArray := prog_4_method_2_code
def yX2_all : MethodName := ⟨RX2, "all", "()I"⟩
def RX3 : String := "SwornElsewhere$Sheet"
def TX3 : u_T := fun k => match k with
  | 0 => ("SwornElsewhere$Sheet", "form", "I", true)
  | _ => ("SwornElsewhere$Sheet", "items", "[I", true)
def tyX3 : Nat → FieldType := fun k => match k with
  | 0 => .int
  | _ => .array .int
abbrev wsX30 : List Cond := u_ws RX3 TX3 2
theorem nmX3 : ∀ a, a < 2 → ∀ b, b < 2 → a ≠ b → (TX3 a).2.1 ≠ (TX3 b).2.1 := by decide +kernel
theorem tyX3_ok : ∀ k, k < 2 → parseFieldDescriptor (TX3 k).2.2.1 = some (tyX3 k) := by decide +kernel
abbrev cX3_init : ByteArray := prog_5_method_1_code
def yX3_init : MethodName := ⟨RX3, "<init>", "(II)V"⟩
abbrev cX3_cut : ByteArray := prog_5_method_2_code
def yX3_cut : MethodName := ⟨RX3, "cut", "(I)I"⟩
abbrev cX3_spans : ByteArray := prog_5_method_3_code
def yX3_spans : MethodName := ⟨RX3, "spans", "(II)Z"⟩
def RX4 : String := "SwornElsewhere$Tales"
def TX4 : u_T := fun k => match k with
  | 0 => ("SwornElsewhere$Tales", "night", "[I", true)
  | 1 => ("SwornElsewhere$Tales", "town", "[I", true)
  | 2 => ("SwornElsewhere$Tales", "witness", "[I", true)
  | 3 => ("SwornElsewhere$Tales", "sort", "[I", true)
  | 4 => ("SwornElsewhere$Tales", "size", "I", false)
  | _ => ("SwornElsewhere$Tales", "lotSeed", "I", false)
def tyX4 : Nat → FieldType := fun k => match k with
  | 0 => .array .int
  | 1 => .array .int
  | 2 => .array .int
  | 3 => .array .int
  | 4 => .int
  | _ => .int
abbrev wsX40 : List Cond := u_ws RX4 TX4 6
theorem nmX4 : ∀ a, a < 6 → ∀ b, b < 6 → a ≠ b → (TX4 a).2.1 ≠ (TX4 b).2.1 := by decide +kernel
theorem tyX4_ok : ∀ k, k < 6 → parseFieldDescriptor (TX4 k).2.2.1 = some (tyX4 k) := by decide +kernel
abbrev cX4_init : ByteArray := prog_6_method_1_code
def yX4_init : MethodName := ⟨RX4, "<init>", "()V"⟩
abbrev cX4_takeFrom : ByteArray := prog_6_method_2_code
def yX4_takeFrom : MethodName := ⟨RX4, "takeFrom", "(LSwornElsewhere$Text;)V"⟩
abbrev cX4_becomeLike : ByteArray := prog_6_method_3_code
def yX4_becomeLike : MethodName := ⟨RX4, "becomeLike", "(LSwornElsewhere$Tales;)V"⟩
abbrev cX4_leaveOut : ByteArray := prog_6_method_4_code
def yX4_leaveOut : MethodName := ⟨RX4, "leaveOut", "(I)V"⟩
abbrev cX4_takeOver : ByteArray := prog_6_method_5_code
def yX4_takeOver : MethodName := ⟨RX4, "takeOver", "(ILSwornElsewhere$Tales;I)V"⟩
abbrev cX4_drawLots : ByteArray := prog_6_method_6_code
def yX4_drawLots : MethodName := ⟨RX4, "drawLots", "(II)V"⟩
abbrev cX4_nextLot : ByteArray := prog_6_method_7_code
def yX4_nextLot : MethodName := ⟨RX4, "nextLot", "()I"⟩
abbrev cX4_apart : ByteArray := prog_6_method_8_code
def yX4_apart : MethodName := ⟨RX4, "apart", "(II)Z"⟩
abbrev cX4_together : ByteArray := prog_6_method_9_code
def yX4_together : MethodName := ⟨RX4, "together", "(I)Z"⟩
def RX5 : String := "SwornElsewhere$Text"
def TX5 : u_T := fun k => match k with
  | 0 => ("SwornElsewhere$Text", "bytes", "[I", true)
  | 1 => ("SwornElsewhere$Text", "step", "I", true)
  | _ => ("SwornElsewhere$Text", "size", "I", false)
def tyX5 : Nat → FieldType := fun k => match k with
  | 0 => .array .int
  | 1 => .int
  | _ => .int
abbrev wsX50 : List Cond := u_ws RX5 TX5 3
theorem nmX5 : ∀ a, a < 3 → ∀ b, b < 3 → a ≠ b → (TX5 a).2.1 ≠ (TX5 b).2.1 := by decide +kernel
theorem tyX5_ok : ∀ k, k < 3 → parseFieldDescriptor (TX5 k).2.2.1 = some (tyX5 k) := by decide +kernel
abbrev cX5_init : ByteArray := prog_7_method_1_code
def yX5_init : MethodName := ⟨RX5, "<init>", "(II)V"⟩
abbrev cX5_faultPlace : ByteArray := prog_7_method_2_code
def yX5_faultPlace : MethodName := ⟨RX5, "faultPlace", "()I"⟩
abbrev cX5_fits : ByteArray := prog_7_method_3_code
def yX5_fits : MethodName := ⟨RX5, "fits", "(II)Z"⟩
abbrev cX5_hasFault : ByteArray := prog_7_method_4_code
def yX5_hasFault : MethodName := ⟨RX5, "hasFault", "()Z"⟩
def RX6 : String := "SwornElsewhere"
def TX6 : u_T := fun k => match k with
  | 0 => ("SwornElsewhere", "taleText", "LSwornElsewhere$Text;", true)
  | 1 => ("SwornElsewhere", "chargeText", "LSwornElsewhere$Text;", true)
  | 2 => ("SwornElsewhere", "told", "LSwornElsewhere$Tales;", true)
  | 3 => ("SwornElsewhere", "trial", "LSwornElsewhere$Tales;", true)
  | 4 => ("SwornElsewhere", "charges", "LSwornElsewhere$Charges;", true)
  | 5 => ("SwornElsewhere", "events", "LSwornElsewhere$Events;", true)
  | 6 => ("SwornElsewhere", "bench", "LSwornElsewhere$Bench;", true)
  | 7 => ("SwornElsewhere", "seenCharge", "[I", true)
  | 8 => ("SwornElsewhere", "seenIs", "[I", true)
  | 9 => ("SwornElsewhere", "sheets", "[LSwornElsewhere$Sheet;", true)
  | 10 => ("SwornElsewhere", "tally", "[I", true)
  | 11 => ("SwornElsewhere", "favour", "[J", true)
  | 12 => ("SwornElsewhere", "needed", "I", false)
  | 13 => ("SwornElsewhere", "seenSize", "I", false)
  | _ => ("SwornElsewhere", "latestFinding", "I", false)
def tyX6 : Nat → FieldType := fun k => match k with
  | 0 => .object "SwornElsewhere$Text"
  | 1 => .object "SwornElsewhere$Text"
  | 2 => .object "SwornElsewhere$Tales"
  | 3 => .object "SwornElsewhere$Tales"
  | 4 => .object "SwornElsewhere$Charges"
  | 5 => .object "SwornElsewhere$Events"
  | 6 => .object "SwornElsewhere$Bench"
  | 7 => .array .int
  | 8 => .array .int
  | 9 => .array (.object "SwornElsewhere$Sheet")
  | 10 => .array .int
  | 11 => .array .long
  | 12 => .int
  | 13 => .int
  | _ => .int
abbrev wsX60 : List Cond := u_ws RX6 TX6 15
theorem nmX6 : ∀ a, a < 15 → ∀ b, b < 15 → a ≠ b → (TX6 a).2.1 ≠ (TX6 b).2.1 := by decide +kernel
theorem tyX6_ok : ∀ k, k < 15 → parseFieldDescriptor (TX6 k).2.2.1 = some (tyX6 k) := by decide +kernel
abbrev cX6_init : ByteArray := prog_1_method_1_code
def yX6_init : MethodName := ⟨RX6, "<init>", "()V"⟩
abbrev cX6_type : ByteArray := prog_1_method_2_code
def yX6_type : MethodName := ⟨RX6, "type", "(II)I"⟩
abbrev cX6_wipe : ByteArray := prog_1_method_3_code
def yX6_wipe : MethodName := ⟨RX6, "wipe", "(I)I"⟩
abbrev cX6_undo : ByteArray := prog_1_method_4_code
def yX6_undo : MethodName := ⟨RX6, "undo", "(I)I"⟩
abbrev cX6_fault : ByteArray := prog_1_method_5_code
def yX6_fault : MethodName := ⟨RX6, "fault", "(I)I"⟩
abbrev cX6_tale : ByteArray := prog_1_method_6_code
def yX6_tale : MethodName := ⟨RX6, "tale", "(II)I"⟩
abbrev cX6_charge : ByteArray := prog_1_method_7_code
def yX6_charge : MethodName := ⟨RX6, "charge", "(II)I"⟩
abbrev cX6_need : ByteArray := prog_1_method_8_code
def yX6_need : MethodName := ⟨RX6, "need", "(I)I"⟩
abbrev cX6_event : ByteArray := prog_1_method_9_code
def yX6_event : MethodName := ⟨RX6, "event", "(III)I"⟩
abbrev cX6_back : ByteArray := prog_1_method_10_code
def yX6_back : MethodName := ⟨RX6, "back", "()I"⟩
abbrev cX6_read : ByteArray := prog_1_method_11_code
def yX6_read : MethodName := ⟨RX6, "read", "(I)I"⟩
abbrev cX6_clash : ByteArray := prog_1_method_12_code
def yX6_clash : MethodName := ⟨RX6, "clash", "(II)I"⟩
abbrev cX6_stands : ByteArray := prog_1_method_13_code
def yX6_stands : MethodName := ⟨RX6, "stands", "(II)I"⟩
abbrev cX6_man : ByteArray := prog_1_method_14_code
def yX6_man : MethodName := ⟨RX6, "man", "(III)I"⟩
abbrev cX6_belief : ByteArray := prog_1_method_15_code
def yX6_belief : MethodName := ⟨RX6, "belief", "(I)I"⟩
abbrev cX6_cleared : ByteArray := prog_1_method_16_code
def yX6_cleared : MethodName := ⟨RX6, "cleared", "(II)I"⟩
abbrev cX6_sum : ByteArray := prog_1_method_17_code
def yX6_sum : MethodName := ⟨RX6, "sum", "(I)I"⟩
abbrev cX6_liar : ByteArray := prog_1_method_18_code
def yX6_liar : MethodName := ⟨RX6, "liar", "()I"⟩
abbrev cX6_best : ByteArray := prog_1_method_19_code
def yX6_best : MethodName := ⟨RX6, "best", "()I"⟩
abbrev cX6_where : ByteArray := prog_1_method_20_code
def yX6_where : MethodName := ⟨RX6, "where", "(I)I"⟩
abbrev cX6_move : ByteArray := prog_1_method_21_code
def yX6_move : MethodName := ⟨RX6, "move", "(II)I"⟩
abbrev cX6_drop : ByteArray := prog_1_method_22_code
def yX6_drop : MethodName := ⟨RX6, "drop", "(I)I"⟩
abbrev cX6_clean : ByteArray := prog_1_method_23_code
def yX6_clean : MethodName := ⟨RX6, "clean", "(I)I"⟩
abbrev cX6_spare : ByteArray := prog_1_method_24_code
def yX6_spare : MethodName := ⟨RX6, "spare", "(I)I"⟩
abbrev cX6_seen : ByteArray := prog_1_method_25_code
def yX6_seen : MethodName := ⟨RX6, "seen", "(II)I"⟩
abbrev cX6_forget : ByteArray := prog_1_method_26_code
def yX6_forget : MethodName := ⟨RX6, "forget", "()I"⟩
abbrev cX6_never : ByteArray := prog_1_method_27_code
def yX6_never : MethodName := ⟨RX6, "never", "()I"⟩
abbrev cX6_was : ByteArray := prog_1_method_28_code
def yX6_was : MethodName := ⟨RX6, "was", "(II)I"⟩
abbrev cX6_ask : ByteArray := prog_1_method_29_code
def yX6_ask : MethodName := ⟨RX6, "ask", "(I)I"⟩
abbrev cX6_chance : ByteArray := prog_1_method_30_code
def yX6_chance : MethodName := ⟨RX6, "chance", "(III)J"⟩
abbrev cX6_lives : ByteArray := prog_1_method_31_code
def yX6_lives : MethodName := ⟨RX6, "lives", "(III)I"⟩
abbrev cX6_sheet : ByteArray := prog_1_method_32_code
def yX6_sheet : MethodName := ⟨RX6, "sheet", "(III)I"⟩
abbrev cX6_lose : ByteArray := prog_1_method_33_code
def yX6_lose : MethodName := ⟨RX6, "lose", "(I)I"⟩
abbrev cX6_put : ByteArray := prog_1_method_34_code
def yX6_put : MethodName := ⟨RX6, "put", "(IIII)I"⟩
abbrev cX6_get : ByteArray := prog_1_method_35_code
def yX6_get : MethodName := ⟨RX6, "get", "(III)I"⟩
abbrev cX6_copy : ByteArray := prog_1_method_36_code
def yX6_copy : MethodName := ⟨RX6, "copy", "(IIIII)I"⟩
abbrev cX6_write : ByteArray := prog_1_method_37_code
def yX6_write : MethodName := ⟨RX6, "write", "(II)I"⟩
abbrev cX6_count : ByteArray := prog_1_method_38_code
def yX6_count : MethodName := ⟨RX6, "count", "(I)I"⟩
abbrev cX6_digest : ByteArray := prog_1_method_39_code
def yX6_digest : MethodName := ⟨RX6, "digest", "()J"⟩
abbrev cX6_digestOfTales : ByteArray := prog_1_method_40_code
def yX6_digestOfTales : MethodName := ⟨RX6, "digestOfTales", "(J)J"⟩
abbrev cX6_digestOfCharges : ByteArray := prog_1_method_41_code
def yX6_digestOfCharges : MethodName := ⟨RX6, "digestOfCharges", "(J)J"⟩
abbrev cX6_outside : ByteArray := prog_1_method_42_code
def yX6_outside : MethodName := ⟨RX6, "outside", "(II)Z"⟩
abbrev cX6_finding : ByteArray := prog_1_method_43_code
def yX6_finding : MethodName := ⟨RX6, "finding", "(I)I"⟩
abbrev cX6_findingAsLeast : ByteArray := prog_1_method_44_code
def yX6_findingAsLeast : MethodName := ⟨RX6, "findingAsLeast", "(I)I"⟩
abbrev cX6_textOf : ByteArray := prog_1_method_45_code
def yX6_textOf : MethodName := ⟨RX6, "textOf", "(I)LSwornElsewhere$Text;"⟩
abbrev cX6_tellAnew : ByteArray := prog_1_method_46_code
def yX6_tellAnew : MethodName := ⟨RX6, "tellAnew", "()V"⟩
abbrev cX6_hearAsTold : ByteArray := prog_1_method_47_code
def yX6_hearAsTold : MethodName := ⟨RX6, "hearAsTold", "()V"⟩
abbrev cX6_clearedBits : ByteArray := prog_1_method_48_code
def yX6_clearedBits : MethodName := ⟨RX6, "clearedBits", "(LSwornElsewhere$Tales;I)I"⟩
abbrev cX6_comesOutSo : ByteArray := prog_1_method_49_code
def yX6_comesOutSo : MethodName := ⟨RX6, "comesOutSo", "(I)Z"⟩
abbrev cX6_sparedBits : ByteArray := prog_1_method_50_code
def yX6_sparedBits : MethodName := ⟨RX6, "sparedBits", "()I"⟩
abbrev cX6_nthBit : ByteArray := prog_1_method_51_code
def yX6_nthBit : MethodName := ⟨RX6, "nthBit", "(II)I"⟩
abbrev cX6_addToTally : ByteArray := prog_1_method_52_code
def yX6_addToTally : MethodName := ⟨RX6, "addToTally", "(I)V"⟩
abbrev cX6_tallyFavour : ByteArray := prog_1_method_53_code
def yX6_tallyFavour : MethodName := ⟨RX6, "tallyFavour", "(I)V"⟩
abbrev cX6_power : ByteArray := prog_1_method_54_code
def yX6_power : MethodName := ⟨RX6, "power", "(II)J"⟩
abbrev cX6_lowestTerm : ByteArray := prog_1_method_55_code
def yX6_lowestTerm : MethodName := ⟨RX6, "lowestTerm", "(JI)J"⟩
abbrev cX6_reach : ByteArray := prog_1_method_56_code
def yX6_reach : MethodName := ⟨RX6, "reach", "(I)I"⟩
abbrev cX6_rankBy : ByteArray := prog_1_method_57_code
def yX6_rankBy : MethodName := ⟨RX6, "rankBy", "(I)I"⟩
def RX7 : String := "SwornElsewhereModel"
def TX7 : u_T := fun k => match k with
  | 0 => ("SwornElsewhereModel", "typed", "[I", true)
  | 1 => ("SwornElsewhereModel", "texts", "[I", true)
  | 2 => ("SwornElsewhereModel", "tales", "I", false)
  | 3 => ("SwornElsewhereModel", "nights", "[I", true)
  | 4 => ("SwornElsewhereModel", "towns", "[I", true)
  | 5 => ("SwornElsewhereModel", "whose", "[I", true)
  | 6 => ("SwornElsewhereModel", "sorts", "[I", true)
  | 7 => ("SwornElsewhereModel", "charges", "I", false)
  | 8 => ("SwornElsewhereModel", "chargeNight", "[I", true)
  | 9 => ("SwornElsewhereModel", "chargeTown", "[I", true)
  | 10 => ("SwornElsewhereModel", "needTold", "I", false)
  | 11 => ("SwornElsewhereModel", "events", "I", false)
  | 12 => ("SwornElsewhereModel", "eventKind", "[I", true)
  | 13 => ("SwornElsewhereModel", "eventAt", "[I", true)
  | 14 => ("SwornElsewhereModel", "eventNumber", "[I", true)
  | 15 => ("SwornElsewhereModel", "talesNow", "I", false)
  | 16 => ("SwornElsewhereModel", "nightNow", "[I", true)
  | 17 => ("SwornElsewhereModel", "townNow", "[I", true)
  | 18 => ("SwornElsewhereModel", "whoNow", "[I", true)
  | 19 => ("SwornElsewhereModel", "sortNow", "[I", true)
  | 20 => ("SwornElsewhereModel", "leftOut", "I", false)
  | 21 => ("SwornElsewhereModel", "notEvents", "I", false)
  | 22 => ("SwornElsewhereModel", "counts", "[I", true)
  | 23 => ("SwornElsewhereModel", "weighs", "[I", true)
  | 24 => ("SwornElsewhereModel", "against", "[I", true)
  | 25 => ("SwornElsewhereModel", "weightAt", "[I", true)
  | 26 => ("SwornElsewhereModel", "standingAt", "[I", true)
  | 27 => ("SwornElsewhereModel", "rankAt", "[I", true)
  | 28 => ("SwornElsewhereModel", "clearedNow", "I", false)
  | 29 => ("SwornElsewhereModel", "mayAt", "[I", true)
  | 30 => ("SwornElsewhereModel", "bestNow", "I", false)
  | 31 => ("SwornElsewhereModel", "mostNow", "I", false)
  | 32 => ("SwornElsewhereModel", "clashing", "[I", true)
  | 33 => ("SwornElsewhereModel", "planRow", "[I", true)
  | 34 => ("SwornElsewhereModel", "seens", "I", false)
  | 35 => ("SwornElsewhereModel", "seenCharge", "[I", true)
  | 36 => ("SwornElsewhereModel", "seenIs", "[I", true)
  | 37 => ("SwornElsewhereModel", "clearedBy", "[I", true)
  | 38 => ("SwornElsewhereModel", "isThere", "[Z", true)
  | 39 => ("SwornElsewhereModel", "forms", "[I", true)
  | 40 => ("SwornElsewhereModel", "sizes", "[I", true)
  | 41 => ("SwornElsewhereModel", "items", "[I", true)
  | 42 => ("SwornElsewhereModel", "moved", "[I", true)
  | _ => ("SwornElsewhereModel", "finding", "I", false)
def tyX7 : Nat → FieldType := fun k => match k with
  | 0 => .array .int
  | 1 => .array .int
  | 2 => .int
  | 3 => .array .int
  | 4 => .array .int
  | 5 => .array .int
  | 6 => .array .int
  | 7 => .int
  | 8 => .array .int
  | 9 => .array .int
  | 10 => .int
  | 11 => .int
  | 12 => .array .int
  | 13 => .array .int
  | 14 => .array .int
  | 15 => .int
  | 16 => .array .int
  | 17 => .array .int
  | 18 => .array .int
  | 19 => .array .int
  | 20 => .int
  | 21 => .int
  | 22 => .array .int
  | 23 => .array .int
  | 24 => .array .int
  | 25 => .array .int
  | 26 => .array .int
  | 27 => .array .int
  | 28 => .int
  | 29 => .array .int
  | 30 => .int
  | 31 => .int
  | 32 => .array .int
  | 33 => .array .int
  | 34 => .int
  | 35 => .array .int
  | 36 => .array .int
  | 37 => .array .int
  | 38 => .array .boolean
  | 39 => .array .int
  | 40 => .array .int
  | 41 => .array .int
  | 42 => .array .int
  | _ => .int
abbrev wsX70 : List Cond := u_ws RX7 TX7 44
theorem nmX7 : ∀ a, a < 44 → ∀ b, b < 44 → a ≠ b → (TX7 a).2.1 ≠ (TX7 b).2.1 := by decide +kernel
theorem tyX7_ok : ∀ k, k < 44 → parseFieldDescriptor (TX7 k).2.2.1 = some (tyX7 k) := by decide +kernel
abbrev cX7_init : ByteArray := prog_9_method_1_code
def yX7_init : MethodName := ⟨RX7, "<init>", "()V"⟩
abbrev cX7_in : ByteArray := prog_9_method_3_code
def yX7_in : MethodName := ⟨RX7, "in", "(III)Z"⟩
abbrev cX7_isIn : ByteArray := prog_9_method_4_code
def yX7_isIn : MethodName := ⟨RX7, "isIn", "(II)Z"⟩
abbrev cX7_no : ByteArray := prog_9_method_5_code
def yX7_no : MethodName := ⟨RX7, "no", "(I)J"⟩
abbrev cX7_lowest : ByteArray := prog_9_method_6_code
def yX7_lowest : MethodName := ⟨RX7, "lowest", "(JJI)J"⟩
abbrev cX7_isTwo : ByteArray := prog_9_method_7_code
def yX7_isTwo : MethodName := ⟨RX7, "isTwo", "(I)Z"⟩
abbrev cX7_isThree : ByteArray := prog_9_method_8_code
def yX7_isThree : MethodName := ⟨RX7, "isThree", "(I)Z"⟩
abbrev cX7_isNight : ByteArray := prog_9_method_9_code
def yX7_isNight : MethodName := ⟨RX7, "isNight", "(I)Z"⟩
abbrev cX7_isTown : ByteArray := prog_9_method_10_code
def yX7_isTown : MethodName := ⟨RX7, "isTown", "(I)Z"⟩
abbrev cX7_type : ByteArray := prog_9_method_11_code
def yX7_type : MethodName := ⟨RX7, "type", "(II)I"⟩
abbrev cX7_wipe : ByteArray := prog_9_method_12_code
def yX7_wipe : MethodName := ⟨RX7, "wipe", "(I)I"⟩
abbrev cX7_undo : ByteArray := prog_9_method_13_code
def yX7_undo : MethodName := ⟨RX7, "undo", "(I)I"⟩
abbrev cX7_byteAt : ByteArray := prog_9_method_14_code
def yX7_byteAt : MethodName := ⟨RX7, "byteAt", "(II)I"⟩
abbrev cX7_sortOf : ByteArray := prog_9_method_15_code
def yX7_sortOf : MethodName := ⟨RX7, "sortOf", "(I)I"⟩
abbrev cX7_readsTale : ByteArray := prog_9_method_16_code
def yX7_readsTale : MethodName := ⟨RX7, "readsTale", "(II)I"⟩
abbrev cX7_readsCharge : ByteArray := prog_9_method_17_code
def yX7_readsCharge : MethodName := ⟨RX7, "readsCharge", "(II)I"⟩
abbrev cX7_readsText : ByteArray := prog_9_method_18_code
def yX7_readsText : MethodName := ⟨RX7, "readsText", "(I)I"⟩
abbrev cX7_faultOf : ByteArray := prog_9_method_19_code
def yX7_faultOf : MethodName := ⟨RX7, "faultOf", "(I)I"⟩
abbrev cX7_reads : ByteArray := prog_9_method_20_code
def yX7_reads : MethodName := ⟨RX7, "reads", "()V"⟩
abbrev cX7_fault : ByteArray := prog_9_method_21_code
def yX7_fault : MethodName := ⟨RX7, "fault", "(I)I"⟩
abbrev cX7_isTale : ByteArray := prog_9_method_22_code
def yX7_isTale : MethodName := ⟨RX7, "isTale", "(I)Z"⟩
abbrev cX7_isCharge : ByteArray := prog_9_method_23_code
def yX7_isCharge : MethodName := ⟨RX7, "isCharge", "(I)Z"⟩
abbrev cX7_taleOf : ByteArray := prog_9_method_24_code
def yX7_taleOf : MethodName := ⟨RX7, "taleOf", "(II)I"⟩
abbrev cX7_tale : ByteArray := prog_9_method_25_code
def yX7_tale : MethodName := ⟨RX7, "tale", "(II)I"⟩
abbrev cX7_chargeOf : ByteArray := prog_9_method_26_code
def yX7_chargeOf : MethodName := ⟨RX7, "chargeOf", "(II)I"⟩
abbrev cX7_charge : ByteArray := prog_9_method_27_code
def yX7_charge : MethodName := ⟨RX7, "charge", "(II)I"⟩
abbrev cX7_need : ByteArray := prog_9_method_28_code
def yX7_need : MethodName := ⟨RX7, "need", "(I)I"⟩
abbrev cX7_event : ByteArray := prog_9_method_29_code
def yX7_event : MethodName := ⟨RX7, "event", "(III)I"⟩
abbrev cX7_back : ByteArray := prog_9_method_30_code
def yX7_back : MethodName := ⟨RX7, "back", "()I"⟩
abbrev cX7_read : ByteArray := prog_9_method_31_code
def yX7_read : MethodName := ⟨RX7, "read", "(I)I"⟩
abbrev cX7_asTold : ByteArray := prog_9_method_32_code
def yX7_asTold : MethodName := ⟨RX7, "asTold", "()V"⟩
abbrev cX7_far : ByteArray := prog_9_method_33_code
def yX7_far : MethodName := ⟨RX7, "far", "(II)I"⟩
abbrev cX7_clashes : ByteArray := prog_9_method_34_code
def yX7_clashes : MethodName := ⟨RX7, "clashes", "(II)Z"⟩
abbrev cX7_isShaken : ByteArray := prog_9_method_35_code
def yX7_isShaken : MethodName := ⟨RX7, "isShaken", "(I)Z"⟩
abbrev cX7_countsAll : ByteArray := prog_9_method_36_code
def yX7_countsAll : MethodName := ⟨RX7, "countsAll", "()V"⟩
abbrev cX7_others : ByteArray := prog_9_method_37_code
def yX7_others : MethodName := ⟨RX7, "others", "(I)I"⟩
abbrev cX7_isLiar : ByteArray := prog_9_method_38_code
def yX7_isLiar : MethodName := ⟨RX7, "isLiar", "(I)Z"⟩
abbrev cX7_weighsAll : ByteArray := prog_9_method_39_code
def yX7_weighsAll : MethodName := ⟨RX7, "weighsAll", "()V"⟩
abbrev cX7_letters : ByteArray := prog_9_method_40_code
def yX7_letters : MethodName := ⟨RX7, "letters", "(II)I"⟩
abbrev cX7_standsIn : ByteArray := prog_9_method_41_code
def yX7_standsIn : MethodName := ⟨RX7, "standsIn", "(I)V"⟩
abbrev cX7_bestTown : ByteArray := prog_9_method_42_code
def yX7_bestTown : MethodName := ⟨RX7, "bestTown", "(I)I"⟩
abbrev cX7_beliefNow : ByteArray := prog_9_method_43_code
def yX7_beliefNow : MethodName := ⟨RX7, "beliefNow", "(I)I"⟩
abbrev cX7_runs : ByteArray := prog_9_method_44_code
def yX7_runs : MethodName := ⟨RX7, "runs", "()V"⟩
abbrev cX7_runsTold : ByteArray := prog_9_method_45_code
def yX7_runsTold : MethodName := ⟨RX7, "runsTold", "()V"⟩
abbrev cX7_many : ByteArray := prog_9_method_46_code
def yX7_many : MethodName := ⟨RX7, "many", "(I)I"⟩
abbrev cX7_clashOf : ByteArray := prog_9_method_47_code
def yX7_clashOf : MethodName := ⟨RX7, "clashOf", "(II)I"⟩
abbrev cX7_clash : ByteArray := prog_9_method_48_code
def yX7_clash : MethodName := ⟨RX7, "clash", "(II)I"⟩
abbrev cX7_standsOf : ByteArray := prog_9_method_49_code
def yX7_standsOf : MethodName := ⟨RX7, "standsOf", "(II)I"⟩
abbrev cX7_stands : ByteArray := prog_9_method_50_code
def yX7_stands : MethodName := ⟨RX7, "stands", "(II)I"⟩
abbrev cX7_manOf : ByteArray := prog_9_method_51_code
def yX7_manOf : MethodName := ⟨RX7, "manOf", "(III)I"⟩
abbrev cX7_man : ByteArray := prog_9_method_52_code
def yX7_man : MethodName := ⟨RX7, "man", "(III)I"⟩
abbrev cX7_beliefOf : ByteArray := prog_9_method_53_code
def yX7_beliefOf : MethodName := ⟨RX7, "beliefOf", "(I)I"⟩
abbrev cX7_belief : ByteArray := prog_9_method_54_code
def yX7_belief : MethodName := ⟨RX7, "belief", "(I)I"⟩
abbrev cX7_clearedOf : ByteArray := prog_9_method_55_code
def yX7_clearedOf : MethodName := ⟨RX7, "clearedOf", "(II)I"⟩
abbrev cX7_cleared : ByteArray := prog_9_method_56_code
def yX7_cleared : MethodName := ⟨RX7, "cleared", "(II)I"⟩
abbrev cX7_countMany : ByteArray := prog_9_method_57_code
def yX7_countMany : MethodName := ⟨RX7, "countMany", "()I"⟩
abbrev cX7_menOf : ByteArray := prog_9_method_58_code
def yX7_menOf : MethodName := ⟨RX7, "menOf", "(I)I"⟩
abbrev cX7_sumOf : ByteArray := prog_9_method_59_code
def yX7_sumOf : MethodName := ⟨RX7, "sumOf", "(I)I"⟩
abbrev cX7_sum : ByteArray := prog_9_method_60_code
def yX7_sum : MethodName := ⟨RX7, "sum", "(I)I"⟩
abbrev cX7_liarOf : ByteArray := prog_9_method_61_code
def yX7_liarOf : MethodName := ⟨RX7, "liarOf", "()I"⟩
abbrev cX7_liar : ByteArray := prog_9_method_62_code
def yX7_liar : MethodName := ⟨RX7, "liar", "()I"⟩
abbrev cX7_bestOf : ByteArray := prog_9_method_63_code
def yX7_bestOf : MethodName := ⟨RX7, "bestOf", "()I"⟩
abbrev cX7_best : ByteArray := prog_9_method_64_code
def yX7_best : MethodName := ⟨RX7, "best", "()I"⟩
abbrev cX7_spread : ByteArray := prog_9_method_65_code
def yX7_spread : MethodName := ⟨RX7, "spread", "(I)I"⟩
abbrev cX7_whereOf : ByteArray := prog_9_method_66_code
def yX7_whereOf : MethodName := ⟨RX7, "whereOf", "(I)I"⟩
abbrev cX7_where : ByteArray := prog_9_method_67_code
def yX7_where : MethodName := ⟨RX7, "where", "(I)I"⟩
abbrev cX7_starts : ByteArray := prog_9_method_68_code
def yX7_starts : MethodName := ⟨RX7, "starts", "()V"⟩
abbrev cX7_tries : ByteArray := prog_9_method_69_code
def yX7_tries : MethodName := ⟨RX7, "tries", "(I)V"⟩
abbrev cX7_moveOf : ByteArray := prog_9_method_70_code
def yX7_moveOf : MethodName := ⟨RX7, "moveOf", "(II)I"⟩
abbrev cX7_move : ByteArray := prog_9_method_71_code
def yX7_move : MethodName := ⟨RX7, "move", "(II)I"⟩
abbrev cX7_dropOf : ByteArray := prog_9_method_72_code
def yX7_dropOf : MethodName := ⟨RX7, "dropOf", "(I)I"⟩
abbrev cX7_drop : ByteArray := prog_9_method_73_code
def yX7_drop : MethodName := ⟨RX7, "drop", "(I)I"⟩
abbrev cX7_cleanOf : ByteArray := prog_9_method_74_code
def yX7_cleanOf : MethodName := ⟨RX7, "cleanOf", "(I)I"⟩
abbrev cX7_clean : ByteArray := prog_9_method_75_code
def yX7_clean : MethodName := ⟨RX7, "clean", "(I)I"⟩
abbrev cX7_isSpared : ByteArray := prog_9_method_76_code
def yX7_isSpared : MethodName := ⟨RX7, "isSpared", "(I)Z"⟩
abbrev cX7_spareBy : ByteArray := prog_9_method_77_code
def yX7_spareBy : MethodName := ⟨RX7, "spareBy", "()I"⟩
abbrev cX7_ofRow : ByteArray := prog_9_method_78_code
def yX7_ofRow : MethodName := ⟨RX7, "ofRow", "(II)I"⟩
abbrev cX7_spare : ByteArray := prog_9_method_79_code
def yX7_spare : MethodName := ⟨RX7, "spare", "(I)I"⟩
abbrev cX7_seen : ByteArray := prog_9_method_80_code
def yX7_seen : MethodName := ⟨RX7, "seen", "(II)I"⟩
abbrev cX7_forget : ByteArray := prog_9_method_81_code
def yX7_forget : MethodName := ⟨RX7, "forget", "()I"⟩
abbrev cX7_isSeen : ByteArray := prog_9_method_82_code
def yX7_isSeen : MethodName := ⟨RX7, "isSeen", "()Z"⟩
abbrev cX7_neverNow : ByteArray := prog_9_method_83_code
def yX7_neverNow : MethodName := ⟨RX7, "neverNow", "()I"⟩
abbrev cX7_never : ByteArray := prog_9_method_84_code
def yX7_never : MethodName := ⟨RX7, "never", "()I"⟩
abbrev cX7_whoseBy : ByteArray := prog_9_method_85_code
def yX7_whoseBy : MethodName := ⟨RX7, "whoseBy", "(I)I"⟩
abbrev cX7_sortsBy : ByteArray := prog_9_method_86_code
def yX7_sortsBy : MethodName := ⟨RX7, "sortsBy", "(I)I"⟩
abbrev cX7_was : ByteArray := prog_9_method_87_code
def yX7_was : MethodName := ⟨RX7, "was", "(II)I"⟩
abbrev cX7_askOf : ByteArray := prog_9_method_88_code
def yX7_askOf : MethodName := ⟨RX7, "askOf", "(I)I"⟩
abbrev cX7_ask : ByteArray := prog_9_method_89_code
def yX7_ask : MethodName := ⟨RX7, "ask", "(I)I"⟩
abbrev cX7_chanceOf : ByteArray := prog_9_method_90_code
def yX7_chanceOf : MethodName := ⟨RX7, "chanceOf", "(III)J"⟩
abbrev cX7_chance : ByteArray := prog_9_method_91_code
def yX7_chance : MethodName := ⟨RX7, "chance", "(III)J"⟩
abbrev cX7_livesOf : ByteArray := prog_9_method_92_code
def yX7_livesOf : MethodName := ⟨RX7, "livesOf", "(III)I"⟩
abbrev cX7_lives : ByteArray := prog_9_method_93_code
def yX7_lives : MethodName := ⟨RX7, "lives", "(III)I"⟩
abbrev cX7_meets : ByteArray := prog_9_method_94_code
def yX7_meets : MethodName := ⟨RX7, "meets", "(I)I"⟩
abbrev cX7_isSheet : ByteArray := prog_9_method_95_code
def yX7_isSheet : MethodName := ⟨RX7, "isSheet", "(I)Z"⟩
abbrev cX7_sheet : ByteArray := prog_9_method_96_code
def yX7_sheet : MethodName := ⟨RX7, "sheet", "(III)I"⟩
abbrev cX7_lose : ByteArray := prog_9_method_97_code
def yX7_lose : MethodName := ⟨RX7, "lose", "(I)I"⟩
abbrev cX7_lacks : ByteArray := prog_9_method_98_code
def yX7_lacks : MethodName := ⟨RX7, "lacks", "(III)I"⟩
abbrev cX7_keep : ByteArray := prog_9_method_99_code
def yX7_keep : MethodName := ⟨RX7, "keep", "(III)V"⟩
abbrev cX7_put : ByteArray := prog_9_method_100_code
def yX7_put : MethodName := ⟨RX7, "put", "(IIII)I"⟩
abbrev cX7_get : ByteArray := prog_9_method_101_code
def yX7_get : MethodName := ⟨RX7, "get", "(III)I"⟩
abbrev cX7_copy : ByteArray := prog_9_method_102_code
def yX7_copy : MethodName := ⟨RX7, "copy", "(IIIII)I"⟩
abbrev cX7_write : ByteArray := prog_9_method_103_code
def yX7_write : MethodName := ⟨RX7, "write", "(II)I"⟩
abbrev cX7_tellOf : ByteArray := prog_9_method_104_code
def yX7_tellOf : MethodName := ⟨RX7, "tellOf", "(I)I"⟩
abbrev cX7_count : ByteArray := prog_9_method_105_code
def yX7_count : MethodName := ⟨RX7, "count", "(I)I"⟩
abbrev cX7_taleDigest : ByteArray := prog_9_method_106_code
def yX7_taleDigest : MethodName := ⟨RX7, "taleDigest", "(JI)J"⟩
abbrev cX7_chargeDigest : ByteArray := prog_9_method_107_code
def yX7_chargeDigest : MethodName := ⟨RX7, "chargeDigest", "(JI)J"⟩
abbrev cX7_digest : ByteArray := prog_9_method_108_code
def yX7_digest : MethodName := ⟨RX7, "digest", "()J"⟩
def RJ6 : String := "java/lang/Integer"
def TJ6 : u_T := fun k => match k with
  | _ => ("", "", "", false)
def tyJ6 : Nat → FieldType := fun k => match k with
  | _ => .int
abbrev wsJ60 : List Cond := u_ws RJ6 TJ6 0
theorem nmJ6 : ∀ a, a < 0 → ∀ b, b < 0 → a ≠ b → (TJ6 a).2.1 ≠ (TJ6 b).2.1 := by decide +kernel
theorem tyJ6_ok : ∀ k, k < 0 → parseFieldDescriptor (TJ6 k).2.2.1 = some (tyJ6 k) := by decide +kernel
abbrev cJ6_bitCount_0f7a4 : ByteArray := prog_10_method_49_code
def yJ6_bitCount_0f7a4 : MethodName := ⟨RJ6, "bitCount", "(I)I"⟩
def RJ9 : String := "java/lang/Math"
def TJ9 : u_T := fun k => match k with
  | _ => ("", "", "", false)
def tyJ9 : Nat → FieldType := fun k => match k with
  | _ => .int
abbrev wsJ90 : List Cond := u_ws RJ9 TJ9 0
theorem nmJ9 : ∀ a, a < 0 → ∀ b, b < 0 → a ≠ b → (TJ9 a).2.1 ≠ (TJ9 b).2.1 := by decide +kernel
theorem tyJ9_ok : ∀ k, k < 0 → parseFieldDescriptor (TJ9 k).2.2.1 = some (tyJ9 k) := by decide +kernel
abbrev cJ9_abs_0f7a4 : ByteArray := prog_11_method_59_code
def yJ9_abs_0f7a4 : MethodName := ⟨RJ9, "abs", "(I)I"⟩
abbrev cJ9_max_7cf53 : ByteArray := prog_11_method_65_code
def yJ9_max_7cf53 : MethodName := ⟨RJ9, "max", "(II)I"⟩
abbrev cJ9_min_7cf53 : ByteArray := prog_11_method_69_code
def yJ9_min_7cf53 : MethodName := ⟨RJ9, "min", "(II)I"⟩
def RJ10 : String := "java/lang/System"
def TJ10 : u_T := fun k => match k with
  | _ => ("", "", "", false)
def tyJ10 : Nat → FieldType := fun k => match k with
  | _ => .int
abbrev wsJ100 : List Cond := u_ws RJ10 TJ10 0
theorem nmJ10 : ∀ a, a < 0 → ∀ b, b < 0 → a ≠ b → (TJ10 a).2.1 ≠ (TJ10 b).2.1 := by decide +kernel
theorem tyJ10_ok : ∀ k, k < 0 → parseFieldDescriptor (TJ10 k).2.2.1 = some (tyJ10 k) := by decide +kernel
def RJ7 : String := "java/util/Arrays"
def TJ7 : u_T := fun k => match k with
  | _ => ("", "", "", false)
def tyJ7 : Nat → FieldType := fun k => match k with
  | _ => .int
abbrev wsJ70 : List Cond := u_ws RJ7 TJ7 0
theorem nmJ7 : ∀ a, a < 0 → ∀ b, b < 0 → a ≠ b → (TJ7 a).2.1 ≠ (TJ7 b).2.1 := by decide +kernel
theorem tyJ7_ok : ∀ k, k < 0 → parseFieldDescriptor (TJ7 k).2.2.1 = some (tyJ7 k) := by decide +kernel
abbrev cJ7_fill_d0a16 : ByteArray := prog_13_method_101_code
def yJ7_fill_d0a16 : MethodName := ⟨RJ7, "fill", "([JJ)V"⟩
abbrev cJ7_fill_53178 : ByteArray := prog_13_method_103_code
def yJ7_fill_53178 : MethodName := ⟨RJ7, "fill", "([II)V"⟩
def RL : String := "SwornElsewhereLaw"
abbrev cL_law : ByteArray := code
def yL_law : MethodName := ⟨RL, "law", "([I)Z"⟩
abbrev vwCl : List vw_C := [(RX0, TX0, 7), (RX1, TX1, 3), (RX2, TX2, 4), (RX3, TX3, 2), (RX4, TX4, 6), (RX5, TX5, 3), (RX6, TX6, 15), (RX7, TX7, 44)]
def WS : List Cond := lw_tbl.filter goodWord
theorem WS_mem {w : Cond} (h : w ∈ lw_tbl) (g : goodWord w = true) : w ∈ WS := List.mem_filter.mpr ⟨h, g⟩
theorem WS_tbl {w : Cond} (h : w ∈ WS) : w ∈ lw_tbl := (List.mem_filter.mp h).1
theorem WS_good {w : Cond} (h : w ∈ WS) : goodWord w = true := (List.mem_filter.mp h).2
end
section
theorem dX0_init_0 : decode cX0_init 0 = .ok (.aload_n 0, 1) := by decide +kernel
theorem dX0_init_1 : decode cX0_init 1 = .ok (.invokespecial 3, 3) := by decide +kernel
theorem dX0_init_4 : decode cX0_init 4 = .ok (.aload_n 0, 1) := by decide +kernel
theorem dX0_init_5 : decode cX0_init 5 = .ok (.bipush 12, 2) := by decide +kernel
theorem dX0_init_7 : decode cX0_init 7 = .ok (.newarray .boolean, 2) := by decide +kernel
theorem dX0_init_9 : decode cX0_init 9 = .ok (.putfield 9, 3) := by decide +kernel
theorem dX0_init_12 : decode cX0_init 12 = .ok (.aload_n 0, 1) := by decide +kernel
theorem dX0_init_13 : decode cX0_init 13 = .ok (.bipush 12, 2) := by decide +kernel
theorem dX0_init_15 : decode cX0_init 15 = .ok (.newarray .int, 2) := by decide +kernel
theorem dX0_init_17 : decode cX0_init 17 = .ok (.putfield 15, 3) := by decide +kernel
theorem dX0_init_20 : decode cX0_init 20 = .ok (.aload_n 0, 1) := by decide +kernel
theorem dX0_init_21 : decode cX0_init 21 = .ok (.iconst 0, 1) := by decide +kernel
theorem dX0_init_22 : decode cX0_init 22 = .ok (.putfield 19, 3) := by decide +kernel
theorem dX0_init_25 : decode cX0_init 25 = .ok (.aload_n 0, 1) := by decide +kernel
theorem dX0_init_26 : decode cX0_init 26 = .ok (.bipush 8, 2) := by decide +kernel
theorem dX0_init_28 : decode cX0_init 28 = .ok (.newarray .int, 2) := by decide +kernel
theorem dX0_init_30 : decode cX0_init 30 = .ok (.putfield 23, 3) := by decide +kernel
theorem dX0_init_33 : decode cX0_init 33 = .ok (.aload_n 0, 1) := by decide +kernel
theorem dX0_init_34 : decode cX0_init 34 = .ok (.bipush 8, 2) := by decide +kernel
theorem dX0_init_36 : decode cX0_init 36 = .ok (.newarray .int, 2) := by decide +kernel
theorem dX0_init_38 : decode cX0_init 38 = .ok (.putfield 26, 3) := by decide +kernel
theorem dX0_init_41 : decode cX0_init 41 = .ok (.aload_n 0, 1) := by decide +kernel
theorem dX0_init_42 : decode cX0_init 42 = .ok (.aload_n 1, 1) := by decide +kernel
theorem dX0_init_43 : decode cX0_init 43 = .ok (.putfield 29, 3) := by decide +kernel
theorem dX0_init_46 : decode cX0_init 46 = .ok (.aload_n 0, 1) := by decide +kernel
theorem dX0_init_47 : decode cX0_init 47 = .ok (.aload_n 2, 1) := by decide +kernel
theorem dX0_init_48 : decode cX0_init 48 = .ok (.putfield 33, 3) := by decide +kernel
theorem dX0_init_51 : decode cX0_init 51 = .ok (.return_, 1) := by decide +kernel
theorem dX0_hear_0 : decode cX0_hear 0 = .ok (.aload_n 0, 1) := by decide +kernel
theorem dX0_hear_1 : decode cX0_hear 1 = .ok (.aload_n 1, 1) := by decide +kernel
theorem dX0_hear_2 : decode cX0_hear 2 = .ok (.putfield 29, 3) := by decide +kernel
theorem dX0_hear_5 : decode cX0_hear 5 = .ok (.aload_n 0, 1) := by decide +kernel
theorem dX0_hear_6 : decode cX0_hear 6 = .ok (.iconst 0, 1) := by decide +kernel
theorem dX0_hear_7 : decode cX0_hear 7 = .ok (.putfield 19, 3) := by decide +kernel
theorem dX0_hear_10 : decode cX0_hear 10 = .ok (.iconst 0, 1) := by decide +kernel
theorem dX0_hear_11 : decode cX0_hear 11 = .ok (.istore_n 3, 1) := by decide +kernel
theorem dX0_hear_12 : decode cX0_hear 12 = .ok (.iload_n 3, 1) := by decide +kernel
theorem dX0_hear_13 : decode cX0_hear 13 = .ok (.aload_n 0, 1) := by decide +kernel
theorem dX0_hear_14 : decode cX0_hear 14 = .ok (.getfield 33, 3) := by decide +kernel
theorem dX0_hear_17 : decode cX0_hear 17 = .ok (.getfield 37, 3) := by decide +kernel
theorem dX0_hear_20 : decode cX0_hear 20 = .ok (.if_icmp .ge 37, 3) := by decide +kernel
theorem dX0_hear_23 : decode cX0_hear 23 = .ok (.aload_n 0, 1) := by decide +kernel
theorem dX0_hear_24 : decode cX0_hear 24 = .ok (.getfield 26, 3) := by decide +kernel
theorem dX0_hear_27 : decode cX0_hear 27 = .ok (.iload_n 3, 1) := by decide +kernel
theorem dX0_hear_28 : decode cX0_hear 28 = .ok (.iload_n 2, 1) := by decide +kernel
theorem dX0_hear_29 : decode cX0_hear 29 = .ok (.iload_n 3, 1) := by decide +kernel
theorem dX0_hear_30 : decode cX0_hear 30 = .ok (.ishr, 1) := by decide +kernel
theorem dX0_hear_31 : decode cX0_hear 31 = .ok (.iconst 1, 1) := by decide +kernel
theorem dX0_hear_32 : decode cX0_hear 32 = .ok (.iand, 1) := by decide +kernel
theorem dX0_hear_33 : decode cX0_hear 33 = .ok (.iconst 1, 1) := by decide +kernel
theorem dX0_hear_34 : decode cX0_hear 34 = .ok (.if_icmp .ne 15, 3) := by decide +kernel
theorem dX0_hear_37 : decode cX0_hear 37 = .ok (.aload_n 0, 1) := by decide +kernel
theorem dX0_hear_38 : decode cX0_hear 38 = .ok (.getfield 33, 3) := by decide +kernel
theorem dX0_hear_41 : decode cX0_hear 41 = .ok (.getfield 42, 3) := by decide +kernel
theorem dX0_hear_44 : decode cX0_hear 44 = .ok (.iload_n 3, 1) := by decide +kernel
theorem dX0_hear_45 : decode cX0_hear 45 = .ok (.iaload, 1) := by decide +kernel
theorem dX0_hear_46 : decode cX0_hear 46 = .ok (.goto 4, 3) := by decide +kernel
theorem dX0_hear_49 : decode cX0_hear 49 = .ok (.iconst (-1), 1) := by decide +kernel
theorem dX0_hear_50 : decode cX0_hear 50 = .ok (.iastore, 1) := by decide +kernel
theorem dX0_hear_51 : decode cX0_hear 51 = .ok (.iinc 3 1, 3) := by decide +kernel
theorem dX0_hear_54 : decode cX0_hear 54 = .ok (.goto (-42), 3) := by decide +kernel
theorem dX0_hear_57 : decode cX0_hear 57 = .ok (.iconst 0, 1) := by decide +kernel
theorem dX0_hear_58 : decode cX0_hear 58 = .ok (.istore_n 3, 1) := by decide +kernel
theorem dX0_hear_59 : decode cX0_hear 59 = .ok (.iload_n 3, 1) := by decide +kernel
theorem dX0_hear_60 : decode cX0_hear 60 = .ok (.aload_n 0, 1) := by decide +kernel
theorem dX0_hear_61 : decode cX0_hear 61 = .ok (.getfield 29, 3) := by decide +kernel
theorem dX0_hear_64 : decode cX0_hear 64 = .ok (.getfield 43, 3) := by decide +kernel
theorem dX0_hear_67 : decode cX0_hear 67 = .ok (.if_icmp .ge 60, 3) := by decide +kernel
theorem dX0_hear_70 : decode cX0_hear 70 = .ok (.aload_n 0, 1) := by decide +kernel
theorem dX0_hear_71 : decode cX0_hear 71 = .ok (.getfield 9, 3) := by decide +kernel
theorem dX0_hear_74 : decode cX0_hear 74 = .ok (.iload_n 3, 1) := by decide +kernel
theorem dX0_hear_75 : decode cX0_hear 75 = .ok (.aload_n 0, 1) := by decide +kernel
theorem dX0_hear_76 : decode cX0_hear 76 = .ok (.iload_n 3, 1) := by decide +kernel
theorem dX0_hear_77 : decode cX0_hear 77 = .ok (.invokevirtual 46, 3) := by decide +kernel
theorem dX0_hear_80 : decode cX0_hear 80 = .ok (.ifCond .ne 16, 3) := by decide +kernel
theorem dX0_hear_83 : decode cX0_hear 83 = .ok (.aload_n 0, 1) := by decide +kernel
theorem dX0_hear_84 : decode cX0_hear 84 = .ok (.iload_n 3, 1) := by decide +kernel
theorem dX0_hear_85 : decode cX0_hear 85 = .ok (.invokevirtual 50, 3) := by decide +kernel
theorem dX0_hear_88 : decode cX0_hear 88 = .ok (.iconst (-1), 1) := by decide +kernel
theorem dX0_hear_89 : decode cX0_hear 89 = .ok (.if_icmp .ne 7, 3) := by decide +kernel
theorem dX0_hear_92 : decode cX0_hear 92 = .ok (.iconst 1, 1) := by decide +kernel
theorem dX0_hear_93 : decode cX0_hear 93 = .ok (.goto 4, 3) := by decide +kernel
theorem dX0_hear_96 : decode cX0_hear 96 = .ok (.iconst 0, 1) := by decide +kernel
theorem dX0_hear_97 : decode cX0_hear 97 = .ok (.bastore, 1) := by decide +kernel
theorem dX0_hear_98 : decode cX0_hear 98 = .ok (.aload_n 0, 1) := by decide +kernel
theorem dX0_hear_99 : decode cX0_hear 99 = .ok (.dup, 1) := by decide +kernel
theorem dX0_hear_100 : decode cX0_hear 100 = .ok (.getfield 19, 3) := by decide +kernel
theorem dX0_hear_103 : decode cX0_hear 103 = .ok (.aload_n 0, 1) := by decide +kernel
theorem dX0_hear_104 : decode cX0_hear 104 = .ok (.getfield 9, 3) := by decide +kernel
theorem dX0_hear_107 : decode cX0_hear 107 = .ok (.iload_n 3, 1) := by decide +kernel
theorem dX0_hear_108 : decode cX0_hear 108 = .ok (.baload, 1) := by decide +kernel
theorem dX0_hear_109 : decode cX0_hear 109 = .ok (.ifCond .eq 7, 3) := by decide +kernel
theorem dX0_hear_112 : decode cX0_hear 112 = .ok (.iconst 1, 1) := by decide +kernel
theorem dX0_hear_113 : decode cX0_hear 113 = .ok (.goto 4, 3) := by decide +kernel
theorem dX0_hear_116 : decode cX0_hear 116 = .ok (.iconst 0, 1) := by decide +kernel
theorem dX0_hear_117 : decode cX0_hear 117 = .ok (.iadd, 1) := by decide +kernel
theorem dX0_hear_118 : decode cX0_hear 118 = .ok (.putfield 19, 3) := by decide +kernel
theorem dX0_hear_121 : decode cX0_hear 121 = .ok (.iinc 3 1, 3) := by decide +kernel
theorem dX0_hear_124 : decode cX0_hear 124 = .ok (.goto (-65), 3) := by decide +kernel
theorem dX0_hear_127 : decode cX0_hear 127 = .ok (.aload_n 0, 1) := by decide +kernel
theorem dX0_hear_128 : decode cX0_hear 128 = .ok (.getfield 23, 3) := by decide +kernel
theorem dX0_hear_131 : decode cX0_hear 131 = .ok (.iconst (-1), 1) := by decide +kernel
theorem dX0_hear_132 : decode cX0_hear 132 = .ok (.invokestatic 54, 3) := by decide +kernel
theorem dX0_hear_135 : decode cX0_hear 135 = .ok (.iconst 0, 1) := by decide +kernel
theorem dX0_hear_136 : decode cX0_hear 136 = .ok (.istore_n 3, 1) := by decide +kernel
theorem dX0_hear_137 : decode cX0_hear 137 = .ok (.iload_n 3, 1) := by decide +kernel
theorem dX0_hear_138 : decode cX0_hear 138 = .ok (.aload_n 0, 1) := by decide +kernel
theorem dX0_hear_139 : decode cX0_hear 139 = .ok (.getfield 29, 3) := by decide +kernel
theorem dX0_hear_142 : decode cX0_hear 142 = .ok (.getfield 43, 3) := by decide +kernel
theorem dX0_hear_145 : decode cX0_hear 145 = .ok (.if_icmp .ge 99, 3) := by decide +kernel
theorem dX0_hear_148 : decode cX0_hear 148 = .ok (.aload_n 0, 1) := by decide +kernel
theorem dX0_hear_149 : decode cX0_hear 149 = .ok (.getfield 15, 3) := by decide +kernel
theorem dX0_hear_152 : decode cX0_hear 152 = .ok (.iload_n 3, 1) := by decide +kernel
theorem dX0_hear_153 : decode cX0_hear 153 = .ok (.aload_n 0, 1) := by decide +kernel
theorem dX0_hear_154 : decode cX0_hear 154 = .ok (.getfield 9, 3) := by decide +kernel
theorem dX0_hear_157 : decode cX0_hear 157 = .ok (.iload_n 3, 1) := by decide +kernel
theorem dX0_hear_158 : decode cX0_hear 158 = .ok (.baload, 1) := by decide +kernel
theorem dX0_hear_159 : decode cX0_hear 159 = .ok (.ifCond .eq 11, 3) := by decide +kernel
theorem dX0_hear_162 : decode cX0_hear 162 = .ok (.aload_n 0, 1) := by decide +kernel
theorem dX0_hear_163 : decode cX0_hear 163 = .ok (.iload_n 3, 1) := by decide +kernel
theorem dX0_hear_164 : decode cX0_hear 164 = .ok (.invokevirtual 60, 3) := by decide +kernel
theorem dX0_hear_167 : decode cX0_hear 167 = .ok (.goto 4, 3) := by decide +kernel
theorem dX0_hear_170 : decode cX0_hear 170 = .ok (.iconst 0, 1) := by decide +kernel
theorem dX0_hear_171 : decode cX0_hear 171 = .ok (.iastore, 1) := by decide +kernel
theorem dX0_hear_172 : decode cX0_hear 172 = .ok (.aload_n 0, 1) := by decide +kernel
theorem dX0_hear_173 : decode cX0_hear 173 = .ok (.getfield 29, 3) := by decide +kernel
theorem dX0_hear_176 : decode cX0_hear 176 = .ok (.getfield 63, 3) := by decide +kernel
theorem dX0_hear_179 : decode cX0_hear 179 = .ok (.iload_n 3, 1) := by decide +kernel
theorem dX0_hear_180 : decode cX0_hear 180 = .ok (.iaload, 1) := by decide +kernel
theorem dX0_hear_181 : decode cX0_hear 181 = .ok (.istore 4, 2) := by decide +kernel
theorem dX0_hear_183 : decode cX0_hear 183 = .ok (.aload_n 0, 1) := by decide +kernel
theorem dX0_hear_184 : decode cX0_hear 184 = .ok (.getfield 9, 3) := by decide +kernel
theorem dX0_hear_187 : decode cX0_hear 187 = .ok (.iload_n 3, 1) := by decide +kernel
theorem dX0_hear_188 : decode cX0_hear 188 = .ok (.baload, 1) := by decide +kernel
theorem dX0_hear_189 : decode cX0_hear 189 = .ok (.ifCond .eq 49, 3) := by decide +kernel
theorem dX0_hear_192 : decode cX0_hear 192 = .ok (.aload_n 0, 1) := by decide +kernel
theorem dX0_hear_193 : decode cX0_hear 193 = .ok (.getfield 23, 3) := by decide +kernel
theorem dX0_hear_196 : decode cX0_hear 196 = .ok (.iload 4, 2) := by decide +kernel
theorem dX0_hear_198 : decode cX0_hear 198 = .ok (.iaload, 1) := by decide +kernel
theorem dX0_hear_199 : decode cX0_hear 199 = .ok (.iconst (-1), 1) := by decide +kernel
theorem dX0_hear_200 : decode cX0_hear 200 = .ok (.if_icmp .eq 22, 3) := by decide +kernel
theorem dX0_hear_203 : decode cX0_hear 203 = .ok (.aload_n 0, 1) := by decide +kernel
theorem dX0_hear_204 : decode cX0_hear 204 = .ok (.getfield 29, 3) := by decide +kernel
theorem dX0_hear_207 : decode cX0_hear 207 = .ok (.getfield 66, 3) := by decide +kernel
theorem dX0_hear_210 : decode cX0_hear 210 = .ok (.iload_n 3, 1) := by decide +kernel
theorem dX0_hear_211 : decode cX0_hear 211 = .ok (.iaload, 1) := by decide +kernel
theorem dX0_hear_212 : decode cX0_hear 212 = .ok (.aload_n 0, 1) := by decide +kernel
theorem dX0_hear_213 : decode cX0_hear 213 = .ok (.getfield 23, 3) := by decide +kernel
theorem dX0_hear_216 : decode cX0_hear 216 = .ok (.iload 4, 2) := by decide +kernel
theorem dX0_hear_218 : decode cX0_hear 218 = .ok (.iaload, 1) := by decide +kernel
theorem dX0_hear_219 : decode cX0_hear 219 = .ok (.if_icmp .ge 19, 3) := by decide +kernel
theorem dX0_hear_222 : decode cX0_hear 222 = .ok (.aload_n 0, 1) := by decide +kernel
theorem dX0_hear_223 : decode cX0_hear 223 = .ok (.getfield 23, 3) := by decide +kernel
theorem dX0_hear_226 : decode cX0_hear 226 = .ok (.iload 4, 2) := by decide +kernel
theorem dX0_hear_228 : decode cX0_hear 228 = .ok (.aload_n 0, 1) := by decide +kernel
theorem dX0_hear_229 : decode cX0_hear 229 = .ok (.getfield 29, 3) := by decide +kernel
theorem dX0_hear_232 : decode cX0_hear 232 = .ok (.getfield 66, 3) := by decide +kernel
theorem dX0_hear_235 : decode cX0_hear 235 = .ok (.iload_n 3, 1) := by decide +kernel
theorem dX0_hear_236 : decode cX0_hear 236 = .ok (.iaload, 1) := by decide +kernel
theorem dX0_hear_237 : decode cX0_hear 237 = .ok (.iastore, 1) := by decide +kernel
theorem dX0_hear_238 : decode cX0_hear 238 = .ok (.iinc 3 1, 3) := by decide +kernel
theorem dX0_hear_241 : decode cX0_hear 241 = .ok (.goto (-104), 3) := by decide +kernel
theorem dX0_hear_244 : decode cX0_hear 244 = .ok (.return_, 1) := by decide +kernel
theorem dX0_spoiled_0 : decode cX0_spoiled 0 = .ok (.iconst 0, 1) := by decide +kernel
theorem dX0_spoiled_1 : decode cX0_spoiled 1 = .ok (.istore_n 2, 1) := by decide +kernel
theorem dX0_spoiled_2 : decode cX0_spoiled 2 = .ok (.iload_n 2, 1) := by decide +kernel
theorem dX0_spoiled_3 : decode cX0_spoiled 3 = .ok (.aload_n 0, 1) := by decide +kernel
theorem dX0_spoiled_4 : decode cX0_spoiled 4 = .ok (.getfield 33, 3) := by decide +kernel
theorem dX0_spoiled_7 : decode cX0_spoiled 7 = .ok (.getfield 37, 3) := by decide +kernel
theorem dX0_spoiled_10 : decode cX0_spoiled 10 = .ok (.if_icmp .ge 102, 3) := by decide +kernel
theorem dX0_spoiled_13 : decode cX0_spoiled 13 = .ok (.aload_n 0, 1) := by decide +kernel
theorem dX0_spoiled_14 : decode cX0_spoiled 14 = .ok (.getfield 29, 3) := by decide +kernel
theorem dX0_spoiled_17 : decode cX0_spoiled 17 = .ok (.getfield 66, 3) := by decide +kernel
theorem dX0_spoiled_20 : decode cX0_spoiled 20 = .ok (.iload_n 1, 1) := by decide +kernel
theorem dX0_spoiled_21 : decode cX0_spoiled 21 = .ok (.iaload, 1) := by decide +kernel
theorem dX0_spoiled_22 : decode cX0_spoiled 22 = .ok (.aload_n 0, 1) := by decide +kernel
theorem dX0_spoiled_23 : decode cX0_spoiled 23 = .ok (.getfield 33, 3) := by decide +kernel
theorem dX0_spoiled_26 : decode cX0_spoiled 26 = .ok (.getfield 69, 3) := by decide +kernel
theorem dX0_spoiled_29 : decode cX0_spoiled 29 = .ok (.iload_n 2, 1) := by decide +kernel
theorem dX0_spoiled_30 : decode cX0_spoiled 30 = .ok (.iaload, 1) := by decide +kernel
theorem dX0_spoiled_31 : decode cX0_spoiled 31 = .ok (.isub, 1) := by decide +kernel
theorem dX0_spoiled_32 : decode cX0_spoiled 32 = .ok (.istore_n 3, 1) := by decide +kernel
theorem dX0_spoiled_33 : decode cX0_spoiled 33 = .ok (.aload_n 0, 1) := by decide +kernel
theorem dX0_spoiled_34 : decode cX0_spoiled 34 = .ok (.getfield 26, 3) := by decide +kernel
theorem dX0_spoiled_37 : decode cX0_spoiled 37 = .ok (.iload_n 2, 1) := by decide +kernel
theorem dX0_spoiled_38 : decode cX0_spoiled 38 = .ok (.iaload, 1) := by decide +kernel
theorem dX0_spoiled_39 : decode cX0_spoiled 39 = .ok (.ifCond .ne 30, 3) := by decide +kernel
theorem dX0_spoiled_42 : decode cX0_spoiled 42 = .ok (.aload_n 0, 1) := by decide +kernel
theorem dX0_spoiled_43 : decode cX0_spoiled 43 = .ok (.getfield 33, 3) := by decide +kernel
theorem dX0_spoiled_46 : decode cX0_spoiled 46 = .ok (.getfield 70, 3) := by decide +kernel
theorem dX0_spoiled_49 : decode cX0_spoiled 49 = .ok (.iload_n 2, 1) := by decide +kernel
theorem dX0_spoiled_50 : decode cX0_spoiled 50 = .ok (.iaload, 1) := by decide +kernel
theorem dX0_spoiled_51 : decode cX0_spoiled 51 = .ok (.aload_n 0, 1) := by decide +kernel
theorem dX0_spoiled_52 : decode cX0_spoiled 52 = .ok (.getfield 29, 3) := by decide +kernel
theorem dX0_spoiled_55 : decode cX0_spoiled 55 = .ok (.getfield 73, 3) := by decide +kernel
theorem dX0_spoiled_58 : decode cX0_spoiled 58 = .ok (.iload_n 1, 1) := by decide +kernel
theorem dX0_spoiled_59 : decode cX0_spoiled 59 = .ok (.iaload, 1) := by decide +kernel
theorem dX0_spoiled_60 : decode cX0_spoiled 60 = .ok (.if_icmp .ne 9, 3) := by decide +kernel
theorem dX0_spoiled_63 : decode cX0_spoiled 63 = .ok (.iload_n 3, 1) := by decide +kernel
theorem dX0_spoiled_64 : decode cX0_spoiled 64 = .ok (.ifCond .lt 5, 3) := by decide +kernel
theorem dX0_spoiled_67 : decode cX0_spoiled 67 = .ok (.iconst 1, 1) := by decide +kernel
theorem dX0_spoiled_68 : decode cX0_spoiled 68 = .ok (.ireturn, 1) := by decide +kernel
theorem dX0_spoiled_69 : decode cX0_spoiled 69 = .ok (.aload_n 0, 1) := by decide +kernel
theorem dX0_spoiled_70 : decode cX0_spoiled 70 = .ok (.getfield 26, 3) := by decide +kernel
theorem dX0_spoiled_73 : decode cX0_spoiled 73 = .ok (.iload_n 2, 1) := by decide +kernel
theorem dX0_spoiled_74 : decode cX0_spoiled 74 = .ok (.iaload, 1) := by decide +kernel
theorem dX0_spoiled_75 : decode cX0_spoiled 75 = .ok (.iconst 1, 1) := by decide +kernel
theorem dX0_spoiled_76 : decode cX0_spoiled 76 = .ok (.if_icmp .ne 30, 3) := by decide +kernel
theorem dX0_spoiled_79 : decode cX0_spoiled 79 = .ok (.aload_n 0, 1) := by decide +kernel
theorem dX0_spoiled_80 : decode cX0_spoiled 80 = .ok (.getfield 33, 3) := by decide +kernel
theorem dX0_spoiled_83 : decode cX0_spoiled 83 = .ok (.getfield 70, 3) := by decide +kernel
theorem dX0_spoiled_86 : decode cX0_spoiled 86 = .ok (.iload_n 2, 1) := by decide +kernel
theorem dX0_spoiled_87 : decode cX0_spoiled 87 = .ok (.iaload, 1) := by decide +kernel
theorem dX0_spoiled_88 : decode cX0_spoiled 88 = .ok (.aload_n 0, 1) := by decide +kernel
theorem dX0_spoiled_89 : decode cX0_spoiled 89 = .ok (.getfield 29, 3) := by decide +kernel
theorem dX0_spoiled_92 : decode cX0_spoiled 92 = .ok (.getfield 63, 3) := by decide +kernel
theorem dX0_spoiled_95 : decode cX0_spoiled 95 = .ok (.iload_n 1, 1) := by decide +kernel
theorem dX0_spoiled_96 : decode cX0_spoiled 96 = .ok (.iaload, 1) := by decide +kernel
theorem dX0_spoiled_97 : decode cX0_spoiled 97 = .ok (.if_icmp .ne 9, 3) := by decide +kernel
theorem dX0_spoiled_100 : decode cX0_spoiled 100 = .ok (.iload_n 3, 1) := by decide +kernel
theorem dX0_spoiled_101 : decode cX0_spoiled 101 = .ok (.ifCond .ne 5, 3) := by decide +kernel
theorem dX0_spoiled_104 : decode cX0_spoiled 104 = .ok (.iconst 1, 1) := by decide +kernel
theorem dX0_spoiled_105 : decode cX0_spoiled 105 = .ok (.ireturn, 1) := by decide +kernel
theorem dX0_spoiled_106 : decode cX0_spoiled 106 = .ok (.iinc 2 1, 3) := by decide +kernel
theorem dX0_spoiled_109 : decode cX0_spoiled 109 = .ok (.goto (-107), 3) := by decide +kernel
theorem dX0_spoiled_112 : decode cX0_spoiled 112 = .ok (.iconst 0, 1) := by decide +kernel
theorem dX0_spoiled_113 : decode cX0_spoiled 113 = .ok (.ireturn, 1) := by decide +kernel
theorem dX0_firstAgainst_0 : decode cX0_firstAgainst 0 = .ok (.iconst 0, 1) := by decide +kernel
theorem dX0_firstAgainst_1 : decode cX0_firstAgainst 1 = .ok (.istore_n 2, 1) := by decide +kernel
theorem dX0_firstAgainst_2 : decode cX0_firstAgainst 2 = .ok (.iload_n 2, 1) := by decide +kernel
theorem dX0_firstAgainst_3 : decode cX0_firstAgainst 3 = .ok (.iload_n 1, 1) := by decide +kernel
theorem dX0_firstAgainst_4 : decode cX0_firstAgainst 4 = .ok (.if_icmp .ge 32, 3) := by decide +kernel
theorem dX0_firstAgainst_7 : decode cX0_firstAgainst 7 = .ok (.aload_n 0, 1) := by decide +kernel
theorem dX0_firstAgainst_8 : decode cX0_firstAgainst 8 = .ok (.getfield 9, 3) := by decide +kernel
theorem dX0_firstAgainst_11 : decode cX0_firstAgainst 11 = .ok (.iload_n 2, 1) := by decide +kernel
theorem dX0_firstAgainst_12 : decode cX0_firstAgainst 12 = .ok (.baload, 1) := by decide +kernel
theorem dX0_firstAgainst_13 : decode cX0_firstAgainst 13 = .ok (.ifCond .eq 17, 3) := by decide +kernel
theorem dX0_firstAgainst_16 : decode cX0_firstAgainst 16 = .ok (.aload_n 0, 1) := by decide +kernel
theorem dX0_firstAgainst_17 : decode cX0_firstAgainst 17 = .ok (.getfield 29, 3) := by decide +kernel
theorem dX0_firstAgainst_20 : decode cX0_firstAgainst 20 = .ok (.iload_n 2, 1) := by decide +kernel
theorem dX0_firstAgainst_21 : decode cX0_firstAgainst 21 = .ok (.iload_n 1, 1) := by decide +kernel
theorem dX0_firstAgainst_22 : decode cX0_firstAgainst 22 = .ok (.invokevirtual 76, 3) := by decide +kernel
theorem dX0_firstAgainst_25 : decode cX0_firstAgainst 25 = .ok (.ifCond .eq 5, 3) := by decide +kernel
theorem dX0_firstAgainst_28 : decode cX0_firstAgainst 28 = .ok (.iload_n 2, 1) := by decide +kernel
theorem dX0_firstAgainst_29 : decode cX0_firstAgainst 29 = .ok (.ireturn, 1) := by decide +kernel
theorem dX0_firstAgainst_30 : decode cX0_firstAgainst 30 = .ok (.iinc 2 1, 3) := by decide +kernel
theorem dX0_firstAgainst_33 : decode cX0_firstAgainst 33 = .ok (.goto (-31), 3) := by decide +kernel
theorem dX0_firstAgainst_36 : decode cX0_firstAgainst 36 = .ok (.iconst (-1), 1) := by decide +kernel
theorem dX0_firstAgainst_37 : decode cX0_firstAgainst 37 = .ok (.ireturn, 1) := by decide +kernel
theorem dX0_weigh_0 : decode cX0_weigh 0 = .ok (.aload_n 0, 1) := by decide +kernel
theorem dX0_weigh_1 : decode cX0_weigh 1 = .ok (.getfield 29, 3) := by decide +kernel
theorem dX0_weigh_4 : decode cX0_weigh 4 = .ok (.getfield 80, 3) := by decide +kernel
theorem dX0_weigh_7 : decode cX0_weigh 7 = .ok (.iload_n 1, 1) := by decide +kernel
theorem dX0_weigh_8 : decode cX0_weigh 8 = .ok (.iaload, 1) := by decide +kernel
theorem dX0_weigh_9 : decode cX0_weigh 9 = .ok (.lookupswitch 41 #[(0, 27), (1, 29)], 27) := by decide +kernel
theorem dX0_weigh_36 : decode cX0_weigh 36 = .ok (.iconst 3, 1) := by decide +kernel
theorem dX0_weigh_37 : decode cX0_weigh 37 = .ok (.ireturn, 1) := by decide +kernel
theorem dX0_weigh_38 : decode cX0_weigh 38 = .ok (.iconst 3, 1) := by decide +kernel
theorem dX0_weigh_39 : decode cX0_weigh 39 = .ok (.iconst 1, 1) := by decide +kernel
theorem dX0_weigh_40 : decode cX0_weigh 40 = .ok (.aload_n 0, 1) := by decide +kernel
theorem dX0_weigh_41 : decode cX0_weigh 41 = .ok (.iload_n 1, 1) := by decide +kernel
theorem dX0_weigh_42 : decode cX0_weigh 42 = .ok (.invokevirtual 83, 3) := by decide +kernel
theorem dX0_weigh_45 : decode cX0_weigh 45 = .ok (.iadd, 1) := by decide +kernel
theorem dX0_weigh_46 : decode cX0_weigh 46 = .ok (.invokestatic 86, 3) := by decide +kernel
theorem dX0_weigh_49 : decode cX0_weigh 49 = .ok (.ireturn, 1) := by decide +kernel
theorem dX0_weigh_50 : decode cX0_weigh 50 = .ok (.aload_n 0, 1) := by decide +kernel
theorem dX0_weigh_51 : decode cX0_weigh 51 = .ok (.aload_n 0, 1) := by decide +kernel
theorem dX0_weigh_52 : decode cX0_weigh 52 = .ok (.getfield 29, 3) := by decide +kernel
theorem dX0_weigh_55 : decode cX0_weigh 55 = .ok (.getfield 73, 3) := by decide +kernel
theorem dX0_weigh_58 : decode cX0_weigh 58 = .ok (.iload_n 1, 1) := by decide +kernel
theorem dX0_weigh_59 : decode cX0_weigh 59 = .ok (.iaload, 1) := by decide +kernel
theorem dX0_weigh_60 : decode cX0_weigh 60 = .ok (.invokevirtual 92, 3) := by decide +kernel
theorem dX0_weigh_63 : decode cX0_weigh 63 = .ok (.ifCond .le 7, 3) := by decide +kernel
theorem dX0_weigh_66 : decode cX0_weigh 66 = .ok (.iconst 0, 1) := by decide +kernel
theorem dX0_weigh_67 : decode cX0_weigh 67 = .ok (.goto 4, 3) := by decide +kernel
theorem dX0_weigh_70 : decode cX0_weigh 70 = .ok (.iconst 2, 1) := by decide +kernel
theorem dX0_weigh_71 : decode cX0_weigh 71 = .ok (.ireturn, 1) := by decide +kernel
theorem dX0_othersFor_0 : decode cX0_othersFor 0 = .ok (.iconst 0, 1) := by decide +kernel
theorem dX0_othersFor_1 : decode cX0_othersFor 1 = .ok (.istore_n 2, 1) := by decide +kernel
theorem dX0_othersFor_2 : decode cX0_othersFor 2 = .ok (.iconst 0, 1) := by decide +kernel
theorem dX0_othersFor_3 : decode cX0_othersFor 3 = .ok (.istore_n 3, 1) := by decide +kernel
theorem dX0_othersFor_4 : decode cX0_othersFor 4 = .ok (.iload_n 3, 1) := by decide +kernel
theorem dX0_othersFor_5 : decode cX0_othersFor 5 = .ok (.aload_n 0, 1) := by decide +kernel
theorem dX0_othersFor_6 : decode cX0_othersFor 6 = .ok (.getfield 29, 3) := by decide +kernel
theorem dX0_othersFor_9 : decode cX0_othersFor 9 = .ok (.getfield 43, 3) := by decide +kernel
theorem dX0_othersFor_12 : decode cX0_othersFor 12 = .ok (.if_icmp .ge 74, 3) := by decide +kernel
theorem dX0_othersFor_15 : decode cX0_othersFor 15 = .ok (.aload_n 0, 1) := by decide +kernel
theorem dX0_othersFor_16 : decode cX0_othersFor 16 = .ok (.getfield 9, 3) := by decide +kernel
theorem dX0_othersFor_19 : decode cX0_othersFor 19 = .ok (.iload_n 3, 1) := by decide +kernel
theorem dX0_othersFor_20 : decode cX0_othersFor 20 = .ok (.baload, 1) := by decide +kernel
theorem dX0_othersFor_21 : decode cX0_othersFor 21 = .ok (.ifCond .eq 59, 3) := by decide +kernel
theorem dX0_othersFor_24 : decode cX0_othersFor 24 = .ok (.aload_n 0, 1) := by decide +kernel
theorem dX0_othersFor_25 : decode cX0_othersFor 25 = .ok (.getfield 29, 3) := by decide +kernel
theorem dX0_othersFor_28 : decode cX0_othersFor 28 = .ok (.getfield 66, 3) := by decide +kernel
theorem dX0_othersFor_31 : decode cX0_othersFor 31 = .ok (.iload_n 3, 1) := by decide +kernel
theorem dX0_othersFor_32 : decode cX0_othersFor 32 = .ok (.iaload, 1) := by decide +kernel
theorem dX0_othersFor_33 : decode cX0_othersFor 33 = .ok (.aload_n 0, 1) := by decide +kernel
theorem dX0_othersFor_34 : decode cX0_othersFor 34 = .ok (.getfield 29, 3) := by decide +kernel
theorem dX0_othersFor_37 : decode cX0_othersFor 37 = .ok (.getfield 66, 3) := by decide +kernel
theorem dX0_othersFor_40 : decode cX0_othersFor 40 = .ok (.iload_n 1, 1) := by decide +kernel
theorem dX0_othersFor_41 : decode cX0_othersFor 41 = .ok (.iaload, 1) := by decide +kernel
theorem dX0_othersFor_42 : decode cX0_othersFor 42 = .ok (.if_icmp .ne 38, 3) := by decide +kernel
theorem dX0_othersFor_45 : decode cX0_othersFor 45 = .ok (.aload_n 0, 1) := by decide +kernel
theorem dX0_othersFor_46 : decode cX0_othersFor 46 = .ok (.getfield 29, 3) := by decide +kernel
theorem dX0_othersFor_49 : decode cX0_othersFor 49 = .ok (.getfield 63, 3) := by decide +kernel
theorem dX0_othersFor_52 : decode cX0_othersFor 52 = .ok (.iload_n 3, 1) := by decide +kernel
theorem dX0_othersFor_53 : decode cX0_othersFor 53 = .ok (.iaload, 1) := by decide +kernel
theorem dX0_othersFor_54 : decode cX0_othersFor 54 = .ok (.aload_n 0, 1) := by decide +kernel
theorem dX0_othersFor_55 : decode cX0_othersFor 55 = .ok (.getfield 29, 3) := by decide +kernel
theorem dX0_othersFor_58 : decode cX0_othersFor 58 = .ok (.getfield 63, 3) := by decide +kernel
theorem dX0_othersFor_61 : decode cX0_othersFor 61 = .ok (.iload_n 1, 1) := by decide +kernel
theorem dX0_othersFor_62 : decode cX0_othersFor 62 = .ok (.iaload, 1) := by decide +kernel
theorem dX0_othersFor_63 : decode cX0_othersFor 63 = .ok (.if_icmp .ne 17, 3) := by decide +kernel
theorem dX0_othersFor_66 : decode cX0_othersFor 66 = .ok (.iload_n 2, 1) := by decide +kernel
theorem dX0_othersFor_67 : decode cX0_othersFor 67 = .ok (.iconst 1, 1) := by decide +kernel
theorem dX0_othersFor_68 : decode cX0_othersFor 68 = .ok (.aload_n 0, 1) := by decide +kernel
theorem dX0_othersFor_69 : decode cX0_othersFor 69 = .ok (.getfield 29, 3) := by decide +kernel
theorem dX0_othersFor_72 : decode cX0_othersFor 72 = .ok (.getfield 73, 3) := by decide +kernel
theorem dX0_othersFor_75 : decode cX0_othersFor 75 = .ok (.iload_n 3, 1) := by decide +kernel
theorem dX0_othersFor_76 : decode cX0_othersFor 76 = .ok (.iaload, 1) := by decide +kernel
theorem dX0_othersFor_77 : decode cX0_othersFor 77 = .ok (.ishl, 1) := by decide +kernel
theorem dX0_othersFor_78 : decode cX0_othersFor 78 = .ok (.ior, 1) := by decide +kernel
theorem dX0_othersFor_79 : decode cX0_othersFor 79 = .ok (.istore_n 2, 1) := by decide +kernel
theorem dX0_othersFor_80 : decode cX0_othersFor 80 = .ok (.iinc 3 1, 3) := by decide +kernel
theorem dX0_othersFor_83 : decode cX0_othersFor 83 = .ok (.goto (-79), 3) := by decide +kernel
theorem dX0_othersFor_86 : decode cX0_othersFor 86 = .ok (.iload_n 2, 1) := by decide +kernel
theorem dX0_othersFor_87 : decode cX0_othersFor 87 = .ok (.iconst 1, 1) := by decide +kernel
theorem dX0_othersFor_88 : decode cX0_othersFor 88 = .ok (.aload_n 0, 1) := by decide +kernel
theorem dX0_othersFor_89 : decode cX0_othersFor 89 = .ok (.getfield 29, 3) := by decide +kernel
theorem dX0_othersFor_92 : decode cX0_othersFor 92 = .ok (.getfield 73, 3) := by decide +kernel
theorem dX0_othersFor_95 : decode cX0_othersFor 95 = .ok (.iload_n 1, 1) := by decide +kernel
theorem dX0_othersFor_96 : decode cX0_othersFor 96 = .ok (.iaload, 1) := by decide +kernel
theorem dX0_othersFor_97 : decode cX0_othersFor 97 = .ok (.ishl, 1) := by decide +kernel
theorem dX0_othersFor_98 : decode cX0_othersFor 98 = .ok (.iconst (-1), 1) := by decide +kernel
theorem dX0_othersFor_99 : decode cX0_othersFor 99 = .ok (.ixor, 1) := by decide +kernel
theorem dX0_othersFor_100 : decode cX0_othersFor 100 = .ok (.iand, 1) := by decide +kernel
theorem dX0_othersFor_101 : decode cX0_othersFor 101 = .ok (.invokestatic 95, 3) := by decide +kernel
theorem dX0_othersFor_104 : decode cX0_othersFor 104 = .ok (.ireturn, 1) := by decide +kernel
theorem dX0_fallenOf_0 : decode cX0_fallenOf 0 = .ok (.iconst 0, 1) := by decide +kernel
theorem dX0_fallenOf_1 : decode cX0_fallenOf 1 = .ok (.istore_n 2, 1) := by decide +kernel
theorem dX0_fallenOf_2 : decode cX0_fallenOf 2 = .ok (.iconst 0, 1) := by decide +kernel
theorem dX0_fallenOf_3 : decode cX0_fallenOf 3 = .ok (.istore_n 3, 1) := by decide +kernel
theorem dX0_fallenOf_4 : decode cX0_fallenOf 4 = .ok (.iload_n 3, 1) := by decide +kernel
theorem dX0_fallenOf_5 : decode cX0_fallenOf 5 = .ok (.aload_n 0, 1) := by decide +kernel
theorem dX0_fallenOf_6 : decode cX0_fallenOf 6 = .ok (.getfield 29, 3) := by decide +kernel
theorem dX0_fallenOf_9 : decode cX0_fallenOf 9 = .ok (.getfield 43, 3) := by decide +kernel
theorem dX0_fallenOf_12 : decode cX0_fallenOf 12 = .ok (.if_icmp .ge 34, 3) := by decide +kernel
theorem dX0_fallenOf_15 : decode cX0_fallenOf 15 = .ok (.aload_n 0, 1) := by decide +kernel
theorem dX0_fallenOf_16 : decode cX0_fallenOf 16 = .ok (.getfield 29, 3) := by decide +kernel
theorem dX0_fallenOf_19 : decode cX0_fallenOf 19 = .ok (.getfield 73, 3) := by decide +kernel
theorem dX0_fallenOf_22 : decode cX0_fallenOf 22 = .ok (.iload_n 3, 1) := by decide +kernel
theorem dX0_fallenOf_23 : decode cX0_fallenOf 23 = .ok (.iaload, 1) := by decide +kernel
theorem dX0_fallenOf_24 : decode cX0_fallenOf 24 = .ok (.iload_n 1, 1) := by decide +kernel
theorem dX0_fallenOf_25 : decode cX0_fallenOf 25 = .ok (.if_icmp .ne 15, 3) := by decide +kernel
theorem dX0_fallenOf_28 : decode cX0_fallenOf 28 = .ok (.aload_n 0, 1) := by decide +kernel
theorem dX0_fallenOf_29 : decode cX0_fallenOf 29 = .ok (.getfield 9, 3) := by decide +kernel
theorem dX0_fallenOf_32 : decode cX0_fallenOf 32 = .ok (.iload_n 3, 1) := by decide +kernel
theorem dX0_fallenOf_33 : decode cX0_fallenOf 33 = .ok (.baload, 1) := by decide +kernel
theorem dX0_fallenOf_34 : decode cX0_fallenOf 34 = .ok (.ifCond .ne 6, 3) := by decide +kernel
theorem dX0_fallenOf_37 : decode cX0_fallenOf 37 = .ok (.iinc 2 1, 3) := by decide +kernel
theorem dX0_fallenOf_40 : decode cX0_fallenOf 40 = .ok (.iinc 3 1, 3) := by decide +kernel
theorem dX0_fallenOf_43 : decode cX0_fallenOf 43 = .ok (.goto (-39), 3) := by decide +kernel
theorem dX0_fallenOf_46 : decode cX0_fallenOf 46 = .ok (.iload_n 2, 1) := by decide +kernel
theorem dX0_fallenOf_47 : decode cX0_fallenOf 47 = .ok (.ireturn, 1) := by decide +kernel
theorem dX0_standing_0 : decode cX0_standing 0 = .ok (.aload_n 0, 1) := by decide +kernel
theorem dX0_standing_1 : decode cX0_standing 1 = .ok (.getfield 23, 3) := by decide +kernel
theorem dX0_standing_4 : decode cX0_standing 4 = .ok (.iload_n 2, 1) := by decide +kernel
theorem dX0_standing_5 : decode cX0_standing 5 = .ok (.iaload, 1) := by decide +kernel
theorem dX0_standing_6 : decode cX0_standing 6 = .ok (.istore_n 3, 1) := by decide +kernel
theorem dX0_standing_7 : decode cX0_standing 7 = .ok (.iload_n 3, 1) := by decide +kernel
theorem dX0_standing_8 : decode cX0_standing 8 = .ok (.iconst (-1), 1) := by decide +kernel
theorem dX0_standing_9 : decode cX0_standing 9 = .ok (.if_icmp .eq 8, 3) := by decide +kernel
theorem dX0_standing_12 : decode cX0_standing 12 = .ok (.iload_n 1, 1) := by decide +kernel
theorem dX0_standing_13 : decode cX0_standing 13 = .ok (.iload_n 3, 1) := by decide +kernel
theorem dX0_standing_14 : decode cX0_standing 14 = .ok (.if_icmp .ge 5, 3) := by decide +kernel
theorem dX0_standing_17 : decode cX0_standing 17 = .ok (.iconst (-1), 1) := by decide +kernel
theorem dX0_standing_18 : decode cX0_standing 18 = .ok (.ireturn, 1) := by decide +kernel
theorem dX0_standing_19 : decode cX0_standing 19 = .ok (.iload_n 1, 1) := by decide +kernel
theorem dX0_standing_20 : decode cX0_standing 20 = .ok (.iload_n 3, 1) := by decide +kernel
theorem dX0_standing_21 : decode cX0_standing 21 = .ok (.isub, 1) := by decide +kernel
theorem dX0_standing_22 : decode cX0_standing 22 = .ok (.istore 4, 2) := by decide +kernel
theorem dX0_standing_24 : decode cX0_standing 24 = .ok (.iconst 0, 1) := by decide +kernel
theorem dX0_standing_25 : decode cX0_standing 25 = .ok (.istore 5, 2) := by decide +kernel
theorem dX0_standing_27 : decode cX0_standing 27 = .ok (.iload 5, 2) := by decide +kernel
theorem dX0_standing_29 : decode cX0_standing 29 = .ok (.aload_n 0, 1) := by decide +kernel
theorem dX0_standing_30 : decode cX0_standing 30 = .ok (.getfield 29, 3) := by decide +kernel
theorem dX0_standing_33 : decode cX0_standing 33 = .ok (.getfield 43, 3) := by decide +kernel
theorem dX0_standing_36 : decode cX0_standing 36 = .ok (.if_icmp .ge 49, 3) := by decide +kernel
theorem dX0_standing_39 : decode cX0_standing 39 = .ok (.aload_n 0, 1) := by decide +kernel
theorem dX0_standing_40 : decode cX0_standing 40 = .ok (.getfield 29, 3) := by decide +kernel
theorem dX0_standing_43 : decode cX0_standing 43 = .ok (.getfield 63, 3) := by decide +kernel
theorem dX0_standing_46 : decode cX0_standing 46 = .ok (.iload 5, 2) := by decide +kernel
theorem dX0_standing_48 : decode cX0_standing 48 = .ok (.iaload, 1) := by decide +kernel
theorem dX0_standing_49 : decode cX0_standing 49 = .ok (.iload_n 2, 1) := by decide +kernel
theorem dX0_standing_50 : decode cX0_standing 50 = .ok (.if_icmp .ne 29, 3) := by decide +kernel
theorem dX0_standing_53 : decode cX0_standing 53 = .ok (.aload_n 0, 1) := by decide +kernel
theorem dX0_standing_54 : decode cX0_standing 54 = .ok (.getfield 29, 3) := by decide +kernel
theorem dX0_standing_57 : decode cX0_standing 57 = .ok (.getfield 66, 3) := by decide +kernel
theorem dX0_standing_60 : decode cX0_standing 60 = .ok (.iload 5, 2) := by decide +kernel
theorem dX0_standing_62 : decode cX0_standing 62 = .ok (.iaload, 1) := by decide +kernel
theorem dX0_standing_63 : decode cX0_standing 63 = .ok (.iload_n 1, 1) := by decide +kernel
theorem dX0_standing_64 : decode cX0_standing 64 = .ok (.if_icmp .gt 15, 3) := by decide +kernel
theorem dX0_standing_67 : decode cX0_standing 67 = .ok (.iload 4, 2) := by decide +kernel
theorem dX0_standing_69 : decode cX0_standing 69 = .ok (.aload_n 0, 1) := by decide +kernel
theorem dX0_standing_70 : decode cX0_standing 70 = .ok (.getfield 15, 3) := by decide +kernel
theorem dX0_standing_73 : decode cX0_standing 73 = .ok (.iload 5, 2) := by decide +kernel
theorem dX0_standing_75 : decode cX0_standing 75 = .ok (.iaload, 1) := by decide +kernel
theorem dX0_standing_76 : decode cX0_standing 76 = .ok (.iadd, 1) := by decide +kernel
theorem dX0_standing_77 : decode cX0_standing 77 = .ok (.istore 4, 2) := by decide +kernel
theorem dX0_standing_79 : decode cX0_standing 79 = .ok (.iinc 5 1, 3) := by decide +kernel
theorem dX0_standing_82 : decode cX0_standing 82 = .ok (.goto (-55), 3) := by decide +kernel
theorem dX0_standing_85 : decode cX0_standing 85 = .ok (.iconst 0, 1) := by decide +kernel
theorem dX0_standing_86 : decode cX0_standing 86 = .ok (.istore 5, 2) := by decide +kernel
theorem dX0_standing_88 : decode cX0_standing 88 = .ok (.iload 5, 2) := by decide +kernel
theorem dX0_standing_90 : decode cX0_standing 90 = .ok (.aload_n 0, 1) := by decide +kernel
theorem dX0_standing_91 : decode cX0_standing 91 = .ok (.getfield 33, 3) := by decide +kernel
theorem dX0_standing_94 : decode cX0_standing 94 = .ok (.getfield 37, 3) := by decide +kernel
theorem dX0_standing_97 : decode cX0_standing 97 = .ok (.if_icmp .ge 77, 3) := by decide +kernel
theorem dX0_standing_100 : decode cX0_standing 100 = .ok (.aload_n 0, 1) := by decide +kernel
theorem dX0_standing_101 : decode cX0_standing 101 = .ok (.getfield 26, 3) := by decide +kernel
theorem dX0_standing_104 : decode cX0_standing 104 = .ok (.iload 5, 2) := by decide +kernel
theorem dX0_standing_106 : decode cX0_standing 106 = .ok (.iaload, 1) := by decide +kernel
theorem dX0_standing_107 : decode cX0_standing 107 = .ok (.iconst 2, 1) := by decide +kernel
theorem dX0_standing_108 : decode cX0_standing 108 = .ok (.if_icmp .ne 21, 3) := by decide +kernel
theorem dX0_standing_111 : decode cX0_standing 111 = .ok (.aload_n 0, 1) := by decide +kernel
theorem dX0_standing_112 : decode cX0_standing 112 = .ok (.getfield 33, 3) := by decide +kernel
theorem dX0_standing_115 : decode cX0_standing 115 = .ok (.getfield 70, 3) := by decide +kernel
theorem dX0_standing_118 : decode cX0_standing 118 = .ok (.iload 5, 2) := by decide +kernel
theorem dX0_standing_120 : decode cX0_standing 120 = .ok (.iaload, 1) := by decide +kernel
theorem dX0_standing_121 : decode cX0_standing 121 = .ok (.iload_n 2, 1) := by decide +kernel
theorem dX0_standing_122 : decode cX0_standing 122 = .ok (.if_icmp .ne 7, 3) := by decide +kernel
theorem dX0_standing_125 : decode cX0_standing 125 = .ok (.iconst 1, 1) := by decide +kernel
theorem dX0_standing_126 : decode cX0_standing 126 = .ok (.goto 4, 3) := by decide +kernel
theorem dX0_standing_129 : decode cX0_standing 129 = .ok (.iconst 0, 1) := by decide +kernel
theorem dX0_standing_130 : decode cX0_standing 130 = .ok (.istore 6, 2) := by decide +kernel
theorem dX0_standing_132 : decode cX0_standing 132 = .ok (.iload 6, 2) := by decide +kernel
theorem dX0_standing_134 : decode cX0_standing 134 = .ok (.ifCond .eq 34, 3) := by decide +kernel
theorem dX0_standing_137 : decode cX0_standing 137 = .ok (.aload_n 0, 1) := by decide +kernel
theorem dX0_standing_138 : decode cX0_standing 138 = .ok (.getfield 33, 3) := by decide +kernel
theorem dX0_standing_141 : decode cX0_standing 141 = .ok (.getfield 69, 3) := by decide +kernel
theorem dX0_standing_144 : decode cX0_standing 144 = .ok (.iload 5, 2) := by decide +kernel
theorem dX0_standing_146 : decode cX0_standing 146 = .ok (.iaload, 1) := by decide +kernel
theorem dX0_standing_147 : decode cX0_standing 147 = .ok (.iload_n 3, 1) := by decide +kernel
theorem dX0_standing_148 : decode cX0_standing 148 = .ok (.if_icmp .lt 20, 3) := by decide +kernel
theorem dX0_standing_151 : decode cX0_standing 151 = .ok (.aload_n 0, 1) := by decide +kernel
theorem dX0_standing_152 : decode cX0_standing 152 = .ok (.getfield 33, 3) := by decide +kernel
theorem dX0_standing_155 : decode cX0_standing 155 = .ok (.getfield 69, 3) := by decide +kernel
theorem dX0_standing_158 : decode cX0_standing 158 = .ok (.iload 5, 2) := by decide +kernel
theorem dX0_standing_160 : decode cX0_standing 160 = .ok (.iaload, 1) := by decide +kernel
theorem dX0_standing_161 : decode cX0_standing 161 = .ok (.iload_n 1, 1) := by decide +kernel
theorem dX0_standing_162 : decode cX0_standing 162 = .ok (.if_icmp .gt 6, 3) := by decide +kernel
theorem dX0_standing_165 : decode cX0_standing 165 = .ok (.iinc 4 3, 3) := by decide +kernel
theorem dX0_standing_168 : decode cX0_standing 168 = .ok (.iinc 5 1, 3) := by decide +kernel
theorem dX0_standing_171 : decode cX0_standing 171 = .ok (.goto (-83), 3) := by decide +kernel
theorem dX0_standing_174 : decode cX0_standing 174 = .ok (.bipush 40, 2) := by decide +kernel
theorem dX0_standing_176 : decode cX0_standing 176 = .ok (.iload 4, 2) := by decide +kernel
theorem dX0_standing_178 : decode cX0_standing 178 = .ok (.invokestatic 86, 3) := by decide +kernel
theorem dX0_standing_181 : decode cX0_standing 181 = .ok (.ireturn, 1) := by decide +kernel
theorem dX0_menOfRank_0 : decode cX0_menOfRank 0 = .ok (.iconst 0, 1) := by decide +kernel
theorem dX0_menOfRank_1 : decode cX0_menOfRank 1 = .ok (.istore_n 2, 1) := by decide +kernel
theorem dX0_menOfRank_2 : decode cX0_menOfRank 2 = .ok (.iconst 0, 1) := by decide +kernel
theorem dX0_menOfRank_3 : decode cX0_menOfRank 3 = .ok (.istore_n 3, 1) := by decide +kernel
theorem dX0_menOfRank_4 : decode cX0_menOfRank 4 = .ok (.iload_n 3, 1) := by decide +kernel
theorem dX0_menOfRank_5 : decode cX0_menOfRank 5 = .ok (.bipush 8, 2) := by decide +kernel
theorem dX0_menOfRank_7 : decode cX0_menOfRank 7 = .ok (.if_icmp .ge 26, 3) := by decide +kernel
theorem dX0_menOfRank_10 : decode cX0_menOfRank 10 = .ok (.aload_n 0, 1) := by decide +kernel
theorem dX0_menOfRank_11 : decode cX0_menOfRank 11 = .ok (.bipush 23, 2) := by decide +kernel
theorem dX0_menOfRank_13 : decode cX0_menOfRank 13 = .ok (.iload_n 3, 1) := by decide +kernel
theorem dX0_menOfRank_14 : decode cX0_menOfRank 14 = .ok (.invokevirtual 100, 3) := by decide +kernel
theorem dX0_menOfRank_17 : decode cX0_menOfRank 17 = .ok (.invokestatic 103, 3) := by decide +kernel
theorem dX0_menOfRank_20 : decode cX0_menOfRank 20 = .ok (.iload_n 1, 1) := by decide +kernel
theorem dX0_menOfRank_21 : decode cX0_menOfRank 21 = .ok (.if_icmp .lt 6, 3) := by decide +kernel
theorem dX0_menOfRank_24 : decode cX0_menOfRank 24 = .ok (.iinc 2 1, 3) := by decide +kernel
theorem dX0_menOfRank_27 : decode cX0_menOfRank 27 = .ok (.iinc 3 1, 3) := by decide +kernel
theorem dX0_menOfRank_30 : decode cX0_menOfRank 30 = .ok (.goto (-26), 3) := by decide +kernel
theorem dX0_menOfRank_33 : decode cX0_menOfRank 33 = .ok (.iload_n 2, 1) := by decide +kernel
theorem dX0_menOfRank_34 : decode cX0_menOfRank 34 = .ok (.ireturn, 1) := by decide +kernel
theorem dX0_weightIn_0 : decode cX0_weightIn 0 = .ok (.iconst 0, 1) := by decide +kernel
theorem dX0_weightIn_1 : decode cX0_weightIn 1 = .ok (.istore_n 3, 1) := by decide +kernel
theorem dX0_weightIn_2 : decode cX0_weightIn 2 = .ok (.iconst 0, 1) := by decide +kernel
theorem dX0_weightIn_3 : decode cX0_weightIn 3 = .ok (.istore 4, 2) := by decide +kernel
theorem dX0_weightIn_5 : decode cX0_weightIn 5 = .ok (.iload 4, 2) := by decide +kernel
theorem dX0_weightIn_7 : decode cX0_weightIn 7 = .ok (.aload_n 0, 1) := by decide +kernel
theorem dX0_weightIn_8 : decode cX0_weightIn 8 = .ok (.getfield 29, 3) := by decide +kernel
theorem dX0_weightIn_11 : decode cX0_weightIn 11 = .ok (.getfield 43, 3) := by decide +kernel
theorem dX0_weightIn_14 : decode cX0_weightIn 14 = .ok (.if_icmp .ge 47, 3) := by decide +kernel
theorem dX0_weightIn_17 : decode cX0_weightIn 17 = .ok (.aload_n 0, 1) := by decide +kernel
theorem dX0_weightIn_18 : decode cX0_weightIn 18 = .ok (.getfield 29, 3) := by decide +kernel
theorem dX0_weightIn_21 : decode cX0_weightIn 21 = .ok (.getfield 66, 3) := by decide +kernel
theorem dX0_weightIn_24 : decode cX0_weightIn 24 = .ok (.iload 4, 2) := by decide +kernel
theorem dX0_weightIn_26 : decode cX0_weightIn 26 = .ok (.iaload, 1) := by decide +kernel
theorem dX0_weightIn_27 : decode cX0_weightIn 27 = .ok (.iload_n 1, 1) := by decide +kernel
theorem dX0_weightIn_28 : decode cX0_weightIn 28 = .ok (.if_icmp .ne 27, 3) := by decide +kernel
theorem dX0_weightIn_31 : decode cX0_weightIn 31 = .ok (.aload_n 0, 1) := by decide +kernel
theorem dX0_weightIn_32 : decode cX0_weightIn 32 = .ok (.getfield 29, 3) := by decide +kernel
theorem dX0_weightIn_35 : decode cX0_weightIn 35 = .ok (.getfield 63, 3) := by decide +kernel
theorem dX0_weightIn_38 : decode cX0_weightIn 38 = .ok (.iload 4, 2) := by decide +kernel
theorem dX0_weightIn_40 : decode cX0_weightIn 40 = .ok (.iaload, 1) := by decide +kernel
theorem dX0_weightIn_41 : decode cX0_weightIn 41 = .ok (.iload_n 2, 1) := by decide +kernel
theorem dX0_weightIn_42 : decode cX0_weightIn 42 = .ok (.if_icmp .ne 13, 3) := by decide +kernel
theorem dX0_weightIn_45 : decode cX0_weightIn 45 = .ok (.iload_n 3, 1) := by decide +kernel
theorem dX0_weightIn_46 : decode cX0_weightIn 46 = .ok (.aload_n 0, 1) := by decide +kernel
theorem dX0_weightIn_47 : decode cX0_weightIn 47 = .ok (.getfield 15, 3) := by decide +kernel
theorem dX0_weightIn_50 : decode cX0_weightIn 50 = .ok (.iload 4, 2) := by decide +kernel
theorem dX0_weightIn_52 : decode cX0_weightIn 52 = .ok (.iaload, 1) := by decide +kernel
theorem dX0_weightIn_53 : decode cX0_weightIn 53 = .ok (.iadd, 1) := by decide +kernel
theorem dX0_weightIn_54 : decode cX0_weightIn 54 = .ok (.istore_n 3, 1) := by decide +kernel
theorem dX0_weightIn_55 : decode cX0_weightIn 55 = .ok (.iinc 4 1, 3) := by decide +kernel
theorem dX0_weightIn_58 : decode cX0_weightIn 58 = .ok (.goto (-53), 3) := by decide +kernel
theorem dX0_weightIn_61 : decode cX0_weightIn 61 = .ok (.iload_n 3, 1) := by decide +kernel
theorem dX0_weightIn_62 : decode cX0_weightIn 62 = .ok (.ireturn, 1) := by decide +kernel
theorem dX0_support_0 : decode cX0_support 0 = .ok (.aload_n 0, 1) := by decide +kernel
theorem dX0_support_1 : decode cX0_support 1 = .ok (.iload_n 1, 1) := by decide +kernel
theorem dX0_support_2 : decode cX0_support 2 = .ok (.iload_n 2, 1) := by decide +kernel
theorem dX0_support_3 : decode cX0_support 3 = .ok (.invokevirtual 106, 3) := by decide +kernel
theorem dX0_support_6 : decode cX0_support 6 = .ok (.istore_n 3, 1) := by decide +kernel
theorem dX0_support_7 : decode cX0_support 7 = .ok (.iload_n 3, 1) := by decide +kernel
theorem dX0_support_8 : decode cX0_support 8 = .ok (.ifCond .ne 7, 3) := by decide +kernel
theorem dX0_support_11 : decode cX0_support 11 = .ok (.iconst 0, 1) := by decide +kernel
theorem dX0_support_12 : decode cX0_support 12 = .ok (.goto 14, 3) := by decide +kernel
theorem dX0_support_15 : decode cX0_support 15 = .ok (.iload_n 3, 1) := by decide +kernel
theorem dX0_support_16 : decode cX0_support 16 = .ok (.aload_n 0, 1) := by decide +kernel
theorem dX0_support_17 : decode cX0_support 17 = .ok (.iload_n 1, 1) := by decide +kernel
theorem dX0_support_18 : decode cX0_support 18 = .ok (.iload_n 2, 1) := by decide +kernel
theorem dX0_support_19 : decode cX0_support 19 = .ok (.invokevirtual 100, 3) := by decide +kernel
theorem dX0_support_22 : decode cX0_support 22 = .ok (.invokestatic 103, 3) := by decide +kernel
theorem dX0_support_25 : decode cX0_support 25 = .ok (.imul, 1) := by decide +kernel
theorem dX0_support_26 : decode cX0_support 26 = .ok (.ireturn, 1) := by decide +kernel
theorem dX0_trust_0 : decode cX0_trust 0 = .ok (.iconst 0, 1) := by decide +kernel
theorem dX0_trust_1 : decode cX0_trust 1 = .ok (.istore_n 3, 1) := by decide +kernel
theorem dX0_trust_2 : decode cX0_trust 2 = .ok (.iconst 0, 1) := by decide +kernel
theorem dX0_trust_3 : decode cX0_trust 3 = .ok (.istore 4, 2) := by decide +kernel
theorem dX0_trust_5 : decode cX0_trust 5 = .ok (.iload 4, 2) := by decide +kernel
theorem dX0_trust_7 : decode cX0_trust 7 = .ok (.bipush 8, 2) := by decide +kernel
theorem dX0_trust_9 : decode cX0_trust 9 = .ok (.if_icmp .ge 27, 3) := by decide +kernel
theorem dX0_trust_12 : decode cX0_trust 12 = .ok (.iload 4, 2) := by decide +kernel
theorem dX0_trust_14 : decode cX0_trust 14 = .ok (.iload_n 2, 1) := by decide +kernel
theorem dX0_trust_15 : decode cX0_trust 15 = .ok (.if_icmp .eq 15, 3) := by decide +kernel
theorem dX0_trust_18 : decode cX0_trust 18 = .ok (.iload_n 3, 1) := by decide +kernel
theorem dX0_trust_19 : decode cX0_trust 19 = .ok (.aload_n 0, 1) := by decide +kernel
theorem dX0_trust_20 : decode cX0_trust 20 = .ok (.iload_n 1, 1) := by decide +kernel
theorem dX0_trust_21 : decode cX0_trust 21 = .ok (.iload 4, 2) := by decide +kernel
theorem dX0_trust_23 : decode cX0_trust 23 = .ok (.invokevirtual 109, 3) := by decide +kernel
theorem dX0_trust_26 : decode cX0_trust 26 = .ok (.invokestatic 112, 3) := by decide +kernel
theorem dX0_trust_29 : decode cX0_trust 29 = .ok (.istore_n 3, 1) := by decide +kernel
theorem dX0_trust_30 : decode cX0_trust 30 = .ok (.iinc 4 1, 3) := by decide +kernel
theorem dX0_trust_33 : decode cX0_trust 33 = .ok (.goto (-28), 3) := by decide +kernel
theorem dX0_trust_36 : decode cX0_trust 36 = .ok (.iload_n 3, 1) := by decide +kernel
theorem dX0_trust_37 : decode cX0_trust 37 = .ok (.aload_n 0, 1) := by decide +kernel
theorem dX0_trust_38 : decode cX0_trust 38 = .ok (.iload_n 1, 1) := by decide +kernel
theorem dX0_trust_39 : decode cX0_trust 39 = .ok (.iload_n 2, 1) := by decide +kernel
theorem dX0_trust_40 : decode cX0_trust 40 = .ok (.invokevirtual 106, 3) := by decide +kernel
theorem dX0_trust_43 : decode cX0_trust 43 = .ok (.isub, 1) := by decide +kernel
theorem dX0_trust_44 : decode cX0_trust 44 = .ok (.ireturn, 1) := by decide +kernel
theorem dX0_trustedTown_0 : decode cX0_trustedTown 0 = .ok (.iconst (-1), 1) := by decide +kernel
theorem dX0_trustedTown_1 : decode cX0_trustedTown 1 = .ok (.istore_n 3, 1) := by decide +kernel
theorem dX0_trustedTown_2 : decode cX0_trustedTown 2 = .ok (.iconst (-1), 1) := by decide +kernel
theorem dX0_trustedTown_3 : decode cX0_trustedTown 3 = .ok (.istore 4, 2) := by decide +kernel
theorem dX0_trustedTown_5 : decode cX0_trustedTown 5 = .ok (.iconst 0, 1) := by decide +kernel
theorem dX0_trustedTown_6 : decode cX0_trustedTown 6 = .ok (.istore 5, 2) := by decide +kernel
theorem dX0_trustedTown_8 : decode cX0_trustedTown 8 = .ok (.iload 5, 2) := by decide +kernel
theorem dX0_trustedTown_10 : decode cX0_trustedTown 10 = .ok (.bipush 8, 2) := by decide +kernel
theorem dX0_trustedTown_12 : decode cX0_trustedTown 12 = .ok (.if_icmp .ge 42, 3) := by decide +kernel
theorem dX0_trustedTown_15 : decode cX0_trustedTown 15 = .ok (.iload 5, 2) := by decide +kernel
theorem dX0_trustedTown_17 : decode cX0_trustedTown 17 = .ok (.iload_n 2, 1) := by decide +kernel
theorem dX0_trustedTown_18 : decode cX0_trustedTown 18 = .ok (.if_icmp .ne 7, 3) := by decide +kernel
theorem dX0_trustedTown_21 : decode cX0_trustedTown 21 = .ok (.iconst (-1), 1) := by decide +kernel
theorem dX0_trustedTown_22 : decode cX0_trustedTown 22 = .ok (.goto 10, 3) := by decide +kernel
theorem dX0_trustedTown_25 : decode cX0_trustedTown 25 = .ok (.aload_n 0, 1) := by decide +kernel
theorem dX0_trustedTown_26 : decode cX0_trustedTown 26 = .ok (.iload_n 1, 1) := by decide +kernel
theorem dX0_trustedTown_27 : decode cX0_trustedTown 27 = .ok (.iload 5, 2) := by decide +kernel
theorem dX0_trustedTown_29 : decode cX0_trustedTown 29 = .ok (.invokevirtual 109, 3) := by decide +kernel
theorem dX0_trustedTown_32 : decode cX0_trustedTown 32 = .ok (.istore 6, 2) := by decide +kernel
theorem dX0_trustedTown_34 : decode cX0_trustedTown 34 = .ok (.iload 6, 2) := by decide +kernel
theorem dX0_trustedTown_36 : decode cX0_trustedTown 36 = .ok (.iload 4, 2) := by decide +kernel
theorem dX0_trustedTown_38 : decode cX0_trustedTown 38 = .ok (.if_icmp .le 10, 3) := by decide +kernel
theorem dX0_trustedTown_41 : decode cX0_trustedTown 41 = .ok (.iload 5, 2) := by decide +kernel
theorem dX0_trustedTown_43 : decode cX0_trustedTown 43 = .ok (.istore_n 3, 1) := by decide +kernel
theorem dX0_trustedTown_44 : decode cX0_trustedTown 44 = .ok (.iload 6, 2) := by decide +kernel
theorem dX0_trustedTown_46 : decode cX0_trustedTown 46 = .ok (.istore 4, 2) := by decide +kernel
theorem dX0_trustedTown_48 : decode cX0_trustedTown 48 = .ok (.iinc 5 1, 3) := by decide +kernel
theorem dX0_trustedTown_51 : decode cX0_trustedTown 51 = .ok (.goto (-43), 3) := by decide +kernel
theorem dX0_trustedTown_54 : decode cX0_trustedTown 54 = .ok (.iload_n 3, 1) := by decide +kernel
theorem dX0_trustedTown_55 : decode cX0_trustedTown 55 = .ok (.ireturn, 1) := by decide +kernel
theorem dX0_swornTowns_0 : decode cX0_swornTowns 0 = .ok (.sipush 255, 3) := by decide +kernel
theorem dX0_swornTowns_3 : decode cX0_swornTowns 3 = .ok (.istore_n 2, 1) := by decide +kernel
theorem dX0_swornTowns_4 : decode cX0_swornTowns 4 = .ok (.iconst 0, 1) := by decide +kernel
theorem dX0_swornTowns_5 : decode cX0_swornTowns 5 = .ok (.istore_n 3, 1) := by decide +kernel
theorem dX0_swornTowns_6 : decode cX0_swornTowns 6 = .ok (.iload_n 3, 1) := by decide +kernel
theorem dX0_swornTowns_7 : decode cX0_swornTowns 7 = .ok (.aload_n 0, 1) := by decide +kernel
theorem dX0_swornTowns_8 : decode cX0_swornTowns 8 = .ok (.getfield 29, 3) := by decide +kernel
theorem dX0_swornTowns_11 : decode cX0_swornTowns 11 = .ok (.getfield 43, 3) := by decide +kernel
theorem dX0_swornTowns_14 : decode cX0_swornTowns 14 = .ok (.if_icmp .ge 57, 3) := by decide +kernel
theorem dX0_swornTowns_17 : decode cX0_swornTowns 17 = .ok (.aload_n 0, 1) := by decide +kernel
theorem dX0_swornTowns_18 : decode cX0_swornTowns 18 = .ok (.getfield 9, 3) := by decide +kernel
theorem dX0_swornTowns_21 : decode cX0_swornTowns 21 = .ok (.iload_n 3, 1) := by decide +kernel
theorem dX0_swornTowns_22 : decode cX0_swornTowns 22 = .ok (.baload, 1) := by decide +kernel
theorem dX0_swornTowns_23 : decode cX0_swornTowns 23 = .ok (.ifCond .eq 42, 3) := by decide +kernel
theorem dX0_swornTowns_26 : decode cX0_swornTowns 26 = .ok (.aload_n 0, 1) := by decide +kernel
theorem dX0_swornTowns_27 : decode cX0_swornTowns 27 = .ok (.getfield 29, 3) := by decide +kernel
theorem dX0_swornTowns_30 : decode cX0_swornTowns 30 = .ok (.getfield 80, 3) := by decide +kernel
theorem dX0_swornTowns_33 : decode cX0_swornTowns 33 = .ok (.iload_n 3, 1) := by decide +kernel
theorem dX0_swornTowns_34 : decode cX0_swornTowns 34 = .ok (.iaload, 1) := by decide +kernel
theorem dX0_swornTowns_35 : decode cX0_swornTowns 35 = .ok (.ifCond .ne 30, 3) := by decide +kernel
theorem dX0_swornTowns_38 : decode cX0_swornTowns 38 = .ok (.aload_n 0, 1) := by decide +kernel
theorem dX0_swornTowns_39 : decode cX0_swornTowns 39 = .ok (.getfield 29, 3) := by decide +kernel
theorem dX0_swornTowns_42 : decode cX0_swornTowns 42 = .ok (.getfield 66, 3) := by decide +kernel
theorem dX0_swornTowns_45 : decode cX0_swornTowns 45 = .ok (.iload_n 3, 1) := by decide +kernel
theorem dX0_swornTowns_46 : decode cX0_swornTowns 46 = .ok (.iaload, 1) := by decide +kernel
theorem dX0_swornTowns_47 : decode cX0_swornTowns 47 = .ok (.iload_n 1, 1) := by decide +kernel
theorem dX0_swornTowns_48 : decode cX0_swornTowns 48 = .ok (.if_icmp .ne 17, 3) := by decide +kernel
theorem dX0_swornTowns_51 : decode cX0_swornTowns 51 = .ok (.iload_n 2, 1) := by decide +kernel
theorem dX0_swornTowns_52 : decode cX0_swornTowns 52 = .ok (.iconst 1, 1) := by decide +kernel
theorem dX0_swornTowns_53 : decode cX0_swornTowns 53 = .ok (.aload_n 0, 1) := by decide +kernel
theorem dX0_swornTowns_54 : decode cX0_swornTowns 54 = .ok (.getfield 29, 3) := by decide +kernel
theorem dX0_swornTowns_57 : decode cX0_swornTowns 57 = .ok (.getfield 63, 3) := by decide +kernel
theorem dX0_swornTowns_60 : decode cX0_swornTowns 60 = .ok (.iload_n 3, 1) := by decide +kernel
theorem dX0_swornTowns_61 : decode cX0_swornTowns 61 = .ok (.iaload, 1) := by decide +kernel
theorem dX0_swornTowns_62 : decode cX0_swornTowns 62 = .ok (.ishl, 1) := by decide +kernel
theorem dX0_swornTowns_63 : decode cX0_swornTowns 63 = .ok (.iand, 1) := by decide +kernel
theorem dX0_swornTowns_64 : decode cX0_swornTowns 64 = .ok (.istore_n 2, 1) := by decide +kernel
theorem dX0_swornTowns_65 : decode cX0_swornTowns 65 = .ok (.iinc 3 1, 3) := by decide +kernel
theorem dX0_swornTowns_68 : decode cX0_swornTowns 68 = .ok (.goto (-62), 3) := by decide +kernel
theorem dX0_swornTowns_71 : decode cX0_swornTowns 71 = .ok (.iload_n 2, 1) := by decide +kernel
theorem dX0_swornTowns_72 : decode cX0_swornTowns 72 = .ok (.ireturn, 1) := by decide +kernel
theorem dX1_init_0 : decode cX1_init 0 = .ok (.aload_n 0, 1) := by decide +kernel
theorem dX1_init_1 : decode cX1_init 1 = .ok (.invokespecial 3, 3) := by decide +kernel
theorem dX1_init_4 : decode cX1_init 4 = .ok (.aload_n 0, 1) := by decide +kernel
theorem dX1_init_5 : decode cX1_init 5 = .ok (.bipush 8, 2) := by decide +kernel
theorem dX1_init_7 : decode cX1_init 7 = .ok (.newarray .int, 2) := by decide +kernel
theorem dX1_init_9 : decode cX1_init 9 = .ok (.putfield 9, 3) := by decide +kernel
theorem dX1_init_12 : decode cX1_init 12 = .ok (.aload_n 0, 1) := by decide +kernel
theorem dX1_init_13 : decode cX1_init 13 = .ok (.bipush 8, 2) := by decide +kernel
theorem dX1_init_15 : decode cX1_init 15 = .ok (.newarray .int, 2) := by decide +kernel
theorem dX1_init_17 : decode cX1_init 17 = .ok (.putfield 15, 3) := by decide +kernel
theorem dX1_init_20 : decode cX1_init 20 = .ok (.aload_n 0, 1) := by decide +kernel
theorem dX1_init_21 : decode cX1_init 21 = .ok (.iconst 0, 1) := by decide +kernel
theorem dX1_init_22 : decode cX1_init 22 = .ok (.putfield 18, 3) := by decide +kernel
theorem dX1_init_25 : decode cX1_init 25 = .ok (.return_, 1) := by decide +kernel
theorem dX1_takeFrom_0 : decode cX1_takeFrom 0 = .ok (.aload_n 0, 1) := by decide +kernel
theorem dX1_takeFrom_1 : decode cX1_takeFrom 1 = .ok (.aload_n 1, 1) := by decide +kernel
theorem dX1_takeFrom_2 : decode cX1_takeFrom 2 = .ok (.invokevirtual 22, 3) := by decide +kernel
theorem dX1_takeFrom_5 : decode cX1_takeFrom 5 = .ok (.ifCond .eq 7, 3) := by decide +kernel
theorem dX1_takeFrom_8 : decode cX1_takeFrom 8 = .ok (.iconst 0, 1) := by decide +kernel
theorem dX1_takeFrom_9 : decode cX1_takeFrom 9 = .ok (.goto 16, 3) := by decide +kernel
theorem dX1_takeFrom_12 : decode cX1_takeFrom 12 = .ok (.bipush 8, 2) := by decide +kernel
theorem dX1_takeFrom_14 : decode cX1_takeFrom 14 = .ok (.aload_n 1, 1) := by decide +kernel
theorem dX1_takeFrom_15 : decode cX1_takeFrom 15 = .ok (.getfield 28, 3) := by decide +kernel
theorem dX1_takeFrom_18 : decode cX1_takeFrom 18 = .ok (.iconst 1, 1) := by decide +kernel
theorem dX1_takeFrom_19 : decode cX1_takeFrom 19 = .ok (.iadd, 1) := by decide +kernel
theorem dX1_takeFrom_20 : decode cX1_takeFrom 20 = .ok (.iconst 3, 1) := by decide +kernel
theorem dX1_takeFrom_21 : decode cX1_takeFrom 21 = .ok (.idiv, 1) := by decide +kernel
theorem dX1_takeFrom_22 : decode cX1_takeFrom 22 = .ok (.invokestatic 29, 3) := by decide +kernel
theorem dX1_takeFrom_25 : decode cX1_takeFrom 25 = .ok (.putfield 18, 3) := by decide +kernel
theorem dX1_takeFrom_28 : decode cX1_takeFrom 28 = .ok (.iconst 0, 1) := by decide +kernel
theorem dX1_takeFrom_29 : decode cX1_takeFrom 29 = .ok (.istore_n 2, 1) := by decide +kernel
theorem dX1_takeFrom_30 : decode cX1_takeFrom 30 = .ok (.iload_n 2, 1) := by decide +kernel
theorem dX1_takeFrom_31 : decode cX1_takeFrom 31 = .ok (.aload_n 0, 1) := by decide +kernel
theorem dX1_takeFrom_32 : decode cX1_takeFrom 32 = .ok (.getfield 18, 3) := by decide +kernel
theorem dX1_takeFrom_35 : decode cX1_takeFrom 35 = .ok (.if_icmp .ge 45, 3) := by decide +kernel
theorem dX1_takeFrom_38 : decode cX1_takeFrom 38 = .ok (.aload_n 0, 1) := by decide +kernel
theorem dX1_takeFrom_39 : decode cX1_takeFrom 39 = .ok (.getfield 9, 3) := by decide +kernel
theorem dX1_takeFrom_42 : decode cX1_takeFrom 42 = .ok (.iload_n 2, 1) := by decide +kernel
theorem dX1_takeFrom_43 : decode cX1_takeFrom 43 = .ok (.aload_n 1, 1) := by decide +kernel
theorem dX1_takeFrom_44 : decode cX1_takeFrom 44 = .ok (.getfield 35, 3) := by decide +kernel
theorem dX1_takeFrom_47 : decode cX1_takeFrom 47 = .ok (.iload_n 2, 1) := by decide +kernel
theorem dX1_takeFrom_48 : decode cX1_takeFrom 48 = .ok (.iconst 3, 1) := by decide +kernel
theorem dX1_takeFrom_49 : decode cX1_takeFrom 49 = .ok (.imul, 1) := by decide +kernel
theorem dX1_takeFrom_50 : decode cX1_takeFrom 50 = .ok (.iaload, 1) := by decide +kernel
theorem dX1_takeFrom_51 : decode cX1_takeFrom 51 = .ok (.bipush 97, 2) := by decide +kernel
theorem dX1_takeFrom_53 : decode cX1_takeFrom 53 = .ok (.isub, 1) := by decide +kernel
theorem dX1_takeFrom_54 : decode cX1_takeFrom 54 = .ok (.iastore, 1) := by decide +kernel
theorem dX1_takeFrom_55 : decode cX1_takeFrom 55 = .ok (.aload_n 0, 1) := by decide +kernel
theorem dX1_takeFrom_56 : decode cX1_takeFrom 56 = .ok (.getfield 15, 3) := by decide +kernel
theorem dX1_takeFrom_59 : decode cX1_takeFrom 59 = .ok (.iload_n 2, 1) := by decide +kernel
theorem dX1_takeFrom_60 : decode cX1_takeFrom 60 = .ok (.aload_n 1, 1) := by decide +kernel
theorem dX1_takeFrom_61 : decode cX1_takeFrom 61 = .ok (.getfield 35, 3) := by decide +kernel
theorem dX1_takeFrom_64 : decode cX1_takeFrom 64 = .ok (.iload_n 2, 1) := by decide +kernel
theorem dX1_takeFrom_65 : decode cX1_takeFrom 65 = .ok (.iconst 3, 1) := by decide +kernel
theorem dX1_takeFrom_66 : decode cX1_takeFrom 66 = .ok (.imul, 1) := by decide +kernel
theorem dX1_takeFrom_67 : decode cX1_takeFrom 67 = .ok (.iconst 1, 1) := by decide +kernel
theorem dX1_takeFrom_68 : decode cX1_takeFrom 68 = .ok (.iadd, 1) := by decide +kernel
theorem dX1_takeFrom_69 : decode cX1_takeFrom 69 = .ok (.iaload, 1) := by decide +kernel
theorem dX1_takeFrom_70 : decode cX1_takeFrom 70 = .ok (.bipush 48, 2) := by decide +kernel
theorem dX1_takeFrom_72 : decode cX1_takeFrom 72 = .ok (.isub, 1) := by decide +kernel
theorem dX1_takeFrom_73 : decode cX1_takeFrom 73 = .ok (.iastore, 1) := by decide +kernel
theorem dX1_takeFrom_74 : decode cX1_takeFrom 74 = .ok (.iinc 2 1, 3) := by decide +kernel
theorem dX1_takeFrom_77 : decode cX1_takeFrom 77 = .ok (.goto (-47), 3) := by decide +kernel
theorem dX1_takeFrom_80 : decode cX1_takeFrom 80 = .ok (.return_, 1) := by decide +kernel
theorem dX2_init_0 : decode cX2_init 0 = .ok (.aload_n 0, 1) := by decide +kernel
theorem dX2_init_1 : decode cX2_init 1 = .ok (.invokespecial 3, 3) := by decide +kernel
theorem dX2_init_4 : decode cX2_init 4 = .ok (.aload_n 0, 1) := by decide +kernel
theorem dX2_init_5 : decode cX2_init 5 = .ok (.bipush 8, 2) := by decide +kernel
theorem dX2_init_7 : decode cX2_init 7 = .ok (.newarray .int, 2) := by decide +kernel
theorem dX2_init_9 : decode cX2_init 9 = .ok (.putfield 9, 3) := by decide +kernel
theorem dX2_init_12 : decode cX2_init 12 = .ok (.aload_n 0, 1) := by decide +kernel
theorem dX2_init_13 : decode cX2_init 13 = .ok (.bipush 8, 2) := by decide +kernel
theorem dX2_init_15 : decode cX2_init 15 = .ok (.newarray .int, 2) := by decide +kernel
theorem dX2_init_17 : decode cX2_init 17 = .ok (.putfield 15, 3) := by decide +kernel
theorem dX2_init_20 : decode cX2_init 20 = .ok (.aload_n 0, 1) := by decide +kernel
theorem dX2_init_21 : decode cX2_init 21 = .ok (.bipush 8, 2) := by decide +kernel
theorem dX2_init_23 : decode cX2_init 23 = .ok (.newarray .int, 2) := by decide +kernel
theorem dX2_init_25 : decode cX2_init 25 = .ok (.putfield 18, 3) := by decide +kernel
theorem dX2_init_28 : decode cX2_init 28 = .ok (.aload_n 0, 1) := by decide +kernel
theorem dX2_init_29 : decode cX2_init 29 = .ok (.iconst 0, 1) := by decide +kernel
theorem dX2_init_30 : decode cX2_init 30 = .ok (.putfield 21, 3) := by decide +kernel
theorem dX2_init_33 : decode cX2_init 33 = .ok (.return_, 1) := by decide +kernel
theorem dX2_all_0 : decode cX2_all 0 = .ok (.iconst 1, 1) := by decide +kernel
theorem dX2_all_1 : decode cX2_all 1 = .ok (.aload_n 0, 1) := by decide +kernel
theorem dX2_all_2 : decode cX2_all 2 = .ok (.getfield 21, 3) := by decide +kernel
theorem dX2_all_5 : decode cX2_all 5 = .ok (.ishl, 1) := by decide +kernel
theorem dX2_all_6 : decode cX2_all 6 = .ok (.iconst 1, 1) := by decide +kernel
theorem dX2_all_7 : decode cX2_all 7 = .ok (.isub, 1) := by decide +kernel
theorem dX2_all_8 : decode cX2_all 8 = .ok (.ireturn, 1) := by decide +kernel
theorem dX3_init_0 : decode cX3_init 0 = .ok (.aload_n 0, 1) := by decide +kernel
theorem dX3_init_1 : decode cX3_init 1 = .ok (.invokespecial 3, 3) := by decide +kernel
theorem dX3_init_4 : decode cX3_init 4 = .ok (.aload_n 0, 1) := by decide +kernel
theorem dX3_init_5 : decode cX3_init 5 = .ok (.iload_n 1, 1) := by decide +kernel
theorem dX3_init_6 : decode cX3_init 6 = .ok (.putfield 9, 3) := by decide +kernel
theorem dX3_init_9 : decode cX3_init 9 = .ok (.aload_n 0, 1) := by decide +kernel
theorem dX3_init_10 : decode cX3_init 10 = .ok (.iload_n 2, 1) := by decide +kernel
theorem dX3_init_11 : decode cX3_init 11 = .ok (.newarray .int, 2) := by decide +kernel
theorem dX3_init_13 : decode cX3_init 13 = .ok (.putfield 15, 3) := by decide +kernel
theorem dX3_init_16 : decode cX3_init 16 = .ok (.return_, 1) := by decide +kernel
theorem dX3_cut_0 : decode cX3_cut 0 = .ok (.aload_n 0, 1) := by decide +kernel
theorem dX3_cut_1 : decode cX3_cut 1 = .ok (.getfield 9, 3) := by decide +kernel
theorem dX3_cut_4 : decode cX3_cut 4 = .ok (.ifCond .ne 8, 3) := by decide +kernel
theorem dX3_cut_7 : decode cX3_cut 7 = .ok (.iload_n 1, 1) := by decide +kernel
theorem dX3_cut_8 : decode cX3_cut 8 = .ok (.i2b, 1) := by decide +kernel
theorem dX3_cut_9 : decode cX3_cut 9 = .ok (.goto 17, 3) := by decide +kernel
theorem dX3_cut_12 : decode cX3_cut 12 = .ok (.aload_n 0, 1) := by decide +kernel
theorem dX3_cut_13 : decode cX3_cut 13 = .ok (.getfield 9, 3) := by decide +kernel
theorem dX3_cut_16 : decode cX3_cut 16 = .ok (.iconst 1, 1) := by decide +kernel
theorem dX3_cut_17 : decode cX3_cut 17 = .ok (.if_icmp .ne 8, 3) := by decide +kernel
theorem dX3_cut_20 : decode cX3_cut 20 = .ok (.iload_n 1, 1) := by decide +kernel
theorem dX3_cut_21 : decode cX3_cut 21 = .ok (.i2s, 1) := by decide +kernel
theorem dX3_cut_22 : decode cX3_cut 22 = .ok (.goto 4, 3) := by decide +kernel
theorem dX3_cut_25 : decode cX3_cut 25 = .ok (.iload_n 1, 1) := by decide +kernel
theorem dX3_cut_26 : decode cX3_cut 26 = .ok (.ireturn, 1) := by decide +kernel
theorem dX3_spans_0 : decode cX3_spans 0 = .ok (.iload_n 1, 1) := by decide +kernel
theorem dX3_spans_1 : decode cX3_spans 1 = .ok (.ifCond .lt 18, 3) := by decide +kernel
theorem dX3_spans_4 : decode cX3_spans 4 = .ok (.iload_n 1, 1) := by decide +kernel
theorem dX3_spans_5 : decode cX3_spans 5 = .ok (.aload_n 0, 1) := by decide +kernel
theorem dX3_spans_6 : decode cX3_spans 6 = .ok (.getfield 15, 3) := by decide +kernel
theorem dX3_spans_9 : decode cX3_spans 9 = .ok (.arraylength, 1) := by decide +kernel
theorem dX3_spans_10 : decode cX3_spans 10 = .ok (.iload_n 2, 1) := by decide +kernel
theorem dX3_spans_11 : decode cX3_spans 11 = .ok (.isub, 1) := by decide +kernel
theorem dX3_spans_12 : decode cX3_spans 12 = .ok (.if_icmp .gt 7, 3) := by decide +kernel
theorem dX3_spans_15 : decode cX3_spans 15 = .ok (.iconst 1, 1) := by decide +kernel
theorem dX3_spans_16 : decode cX3_spans 16 = .ok (.goto 4, 3) := by decide +kernel
theorem dX3_spans_19 : decode cX3_spans 19 = .ok (.iconst 0, 1) := by decide +kernel
theorem dX3_spans_20 : decode cX3_spans 20 = .ok (.ireturn, 1) := by decide +kernel
theorem dX4_init_0 : decode cX4_init 0 = .ok (.aload_n 0, 1) := by decide +kernel
theorem dX4_init_1 : decode cX4_init 1 = .ok (.invokespecial 3, 3) := by decide +kernel
theorem dX4_init_4 : decode cX4_init 4 = .ok (.aload_n 0, 1) := by decide +kernel
theorem dX4_init_5 : decode cX4_init 5 = .ok (.bipush 12, 2) := by decide +kernel
theorem dX4_init_7 : decode cX4_init 7 = .ok (.newarray .int, 2) := by decide +kernel
theorem dX4_init_9 : decode cX4_init 9 = .ok (.putfield 9, 3) := by decide +kernel
theorem dX4_init_12 : decode cX4_init 12 = .ok (.aload_n 0, 1) := by decide +kernel
theorem dX4_init_13 : decode cX4_init 13 = .ok (.bipush 12, 2) := by decide +kernel
theorem dX4_init_15 : decode cX4_init 15 = .ok (.newarray .int, 2) := by decide +kernel
theorem dX4_init_17 : decode cX4_init 17 = .ok (.putfield 15, 3) := by decide +kernel
theorem dX4_init_20 : decode cX4_init 20 = .ok (.aload_n 0, 1) := by decide +kernel
theorem dX4_init_21 : decode cX4_init 21 = .ok (.bipush 12, 2) := by decide +kernel
theorem dX4_init_23 : decode cX4_init 23 = .ok (.newarray .int, 2) := by decide +kernel
theorem dX4_init_25 : decode cX4_init 25 = .ok (.putfield 18, 3) := by decide +kernel
theorem dX4_init_28 : decode cX4_init 28 = .ok (.aload_n 0, 1) := by decide +kernel
theorem dX4_init_29 : decode cX4_init 29 = .ok (.bipush 12, 2) := by decide +kernel
theorem dX4_init_31 : decode cX4_init 31 = .ok (.newarray .int, 2) := by decide +kernel
theorem dX4_init_33 : decode cX4_init 33 = .ok (.putfield 21, 3) := by decide +kernel
theorem dX4_init_36 : decode cX4_init 36 = .ok (.aload_n 0, 1) := by decide +kernel
theorem dX4_init_37 : decode cX4_init 37 = .ok (.iconst 0, 1) := by decide +kernel
theorem dX4_init_38 : decode cX4_init 38 = .ok (.putfield 24, 3) := by decide +kernel
theorem dX4_init_41 : decode cX4_init 41 = .ok (.aload_n 0, 1) := by decide +kernel
theorem dX4_init_42 : decode cX4_init 42 = .ok (.iconst 0, 1) := by decide +kernel
theorem dX4_init_43 : decode cX4_init 43 = .ok (.putfield 28, 3) := by decide +kernel
theorem dX4_init_46 : decode cX4_init 46 = .ok (.return_, 1) := by decide +kernel
theorem dX4_takeFrom_0 : decode cX4_takeFrom 0 = .ok (.aload_n 0, 1) := by decide +kernel
theorem dX4_takeFrom_1 : decode cX4_takeFrom 1 = .ok (.aload_n 1, 1) := by decide +kernel
theorem dX4_takeFrom_2 : decode cX4_takeFrom 2 = .ok (.invokevirtual 31, 3) := by decide +kernel
theorem dX4_takeFrom_5 : decode cX4_takeFrom 5 = .ok (.ifCond .eq 7, 3) := by decide +kernel
theorem dX4_takeFrom_8 : decode cX4_takeFrom 8 = .ok (.iconst 0, 1) := by decide +kernel
theorem dX4_takeFrom_9 : decode cX4_takeFrom 9 = .ok (.goto 16, 3) := by decide +kernel
theorem dX4_takeFrom_12 : decode cX4_takeFrom 12 = .ok (.bipush 12, 2) := by decide +kernel
theorem dX4_takeFrom_14 : decode cX4_takeFrom 14 = .ok (.aload_n 1, 1) := by decide +kernel
theorem dX4_takeFrom_15 : decode cX4_takeFrom 15 = .ok (.getfield 37, 3) := by decide +kernel
theorem dX4_takeFrom_18 : decode cX4_takeFrom 18 = .ok (.iconst 1, 1) := by decide +kernel
theorem dX4_takeFrom_19 : decode cX4_takeFrom 19 = .ok (.iadd, 1) := by decide +kernel
theorem dX4_takeFrom_20 : decode cX4_takeFrom 20 = .ok (.iconst 5, 1) := by decide +kernel
theorem dX4_takeFrom_21 : decode cX4_takeFrom 21 = .ok (.idiv, 1) := by decide +kernel
theorem dX4_takeFrom_22 : decode cX4_takeFrom 22 = .ok (.invokestatic 38, 3) := by decide +kernel
theorem dX4_takeFrom_25 : decode cX4_takeFrom 25 = .ok (.putfield 24, 3) := by decide +kernel
theorem dX4_takeFrom_28 : decode cX4_takeFrom 28 = .ok (.iconst 0, 1) := by decide +kernel
theorem dX4_takeFrom_29 : decode cX4_takeFrom 29 = .ok (.istore_n 2, 1) := by decide +kernel
theorem dX4_takeFrom_30 : decode cX4_takeFrom 30 = .ok (.iload_n 2, 1) := by decide +kernel
theorem dX4_takeFrom_31 : decode cX4_takeFrom 31 = .ok (.aload_n 0, 1) := by decide +kernel
theorem dX4_takeFrom_32 : decode cX4_takeFrom 32 = .ok (.getfield 24, 3) := by decide +kernel
theorem dX4_takeFrom_35 : decode cX4_takeFrom 35 = .ok (.if_icmp .ge 101, 3) := by decide +kernel
theorem dX4_takeFrom_38 : decode cX4_takeFrom 38 = .ok (.iload_n 2, 1) := by decide +kernel
theorem dX4_takeFrom_39 : decode cX4_takeFrom 39 = .ok (.iconst 5, 1) := by decide +kernel
theorem dX4_takeFrom_40 : decode cX4_takeFrom 40 = .ok (.imul, 1) := by decide +kernel
theorem dX4_takeFrom_41 : decode cX4_takeFrom 41 = .ok (.istore_n 3, 1) := by decide +kernel
theorem dX4_takeFrom_42 : decode cX4_takeFrom 42 = .ok (.aload_n 0, 1) := by decide +kernel
theorem dX4_takeFrom_43 : decode cX4_takeFrom 43 = .ok (.getfield 9, 3) := by decide +kernel
theorem dX4_takeFrom_46 : decode cX4_takeFrom 46 = .ok (.iload_n 2, 1) := by decide +kernel
theorem dX4_takeFrom_47 : decode cX4_takeFrom 47 = .ok (.aload_n 1, 1) := by decide +kernel
theorem dX4_takeFrom_48 : decode cX4_takeFrom 48 = .ok (.getfield 44, 3) := by decide +kernel
theorem dX4_takeFrom_51 : decode cX4_takeFrom 51 = .ok (.iload_n 3, 1) := by decide +kernel
theorem dX4_takeFrom_52 : decode cX4_takeFrom 52 = .ok (.iaload, 1) := by decide +kernel
theorem dX4_takeFrom_53 : decode cX4_takeFrom 53 = .ok (.bipush 97, 2) := by decide +kernel
theorem dX4_takeFrom_55 : decode cX4_takeFrom 55 = .ok (.isub, 1) := by decide +kernel
theorem dX4_takeFrom_56 : decode cX4_takeFrom 56 = .ok (.iastore, 1) := by decide +kernel
theorem dX4_takeFrom_57 : decode cX4_takeFrom 57 = .ok (.aload_n 0, 1) := by decide +kernel
theorem dX4_takeFrom_58 : decode cX4_takeFrom 58 = .ok (.getfield 15, 3) := by decide +kernel
theorem dX4_takeFrom_61 : decode cX4_takeFrom 61 = .ok (.iload_n 2, 1) := by decide +kernel
theorem dX4_takeFrom_62 : decode cX4_takeFrom 62 = .ok (.aload_n 1, 1) := by decide +kernel
theorem dX4_takeFrom_63 : decode cX4_takeFrom 63 = .ok (.getfield 44, 3) := by decide +kernel
theorem dX4_takeFrom_66 : decode cX4_takeFrom 66 = .ok (.iload_n 3, 1) := by decide +kernel
theorem dX4_takeFrom_67 : decode cX4_takeFrom 67 = .ok (.iconst 1, 1) := by decide +kernel
theorem dX4_takeFrom_68 : decode cX4_takeFrom 68 = .ok (.iadd, 1) := by decide +kernel
theorem dX4_takeFrom_69 : decode cX4_takeFrom 69 = .ok (.iaload, 1) := by decide +kernel
theorem dX4_takeFrom_70 : decode cX4_takeFrom 70 = .ok (.bipush 48, 2) := by decide +kernel
theorem dX4_takeFrom_72 : decode cX4_takeFrom 72 = .ok (.isub, 1) := by decide +kernel
theorem dX4_takeFrom_73 : decode cX4_takeFrom 73 = .ok (.iastore, 1) := by decide +kernel
theorem dX4_takeFrom_74 : decode cX4_takeFrom 74 = .ok (.aload_n 0, 1) := by decide +kernel
theorem dX4_takeFrom_75 : decode cX4_takeFrom 75 = .ok (.getfield 18, 3) := by decide +kernel
theorem dX4_takeFrom_78 : decode cX4_takeFrom 78 = .ok (.iload_n 2, 1) := by decide +kernel
theorem dX4_takeFrom_79 : decode cX4_takeFrom 79 = .ok (.aload_n 1, 1) := by decide +kernel
theorem dX4_takeFrom_80 : decode cX4_takeFrom 80 = .ok (.getfield 44, 3) := by decide +kernel
theorem dX4_takeFrom_83 : decode cX4_takeFrom 83 = .ok (.iload_n 3, 1) := by decide +kernel
theorem dX4_takeFrom_84 : decode cX4_takeFrom 84 = .ok (.iconst 2, 1) := by decide +kernel
theorem dX4_takeFrom_85 : decode cX4_takeFrom 85 = .ok (.iadd, 1) := by decide +kernel
theorem dX4_takeFrom_86 : decode cX4_takeFrom 86 = .ok (.iaload, 1) := by decide +kernel
theorem dX4_takeFrom_87 : decode cX4_takeFrom 87 = .ok (.bipush 48, 2) := by decide +kernel
theorem dX4_takeFrom_89 : decode cX4_takeFrom 89 = .ok (.isub, 1) := by decide +kernel
theorem dX4_takeFrom_90 : decode cX4_takeFrom 90 = .ok (.iastore, 1) := by decide +kernel
theorem dX4_takeFrom_91 : decode cX4_takeFrom 91 = .ok (.aload_n 1, 1) := by decide +kernel
theorem dX4_takeFrom_92 : decode cX4_takeFrom 92 = .ok (.getfield 44, 3) := by decide +kernel
theorem dX4_takeFrom_95 : decode cX4_takeFrom 95 = .ok (.iload_n 3, 1) := by decide +kernel
theorem dX4_takeFrom_96 : decode cX4_takeFrom 96 = .ok (.iconst 3, 1) := by decide +kernel
theorem dX4_takeFrom_97 : decode cX4_takeFrom 97 = .ok (.iadd, 1) := by decide +kernel
theorem dX4_takeFrom_98 : decode cX4_takeFrom 98 = .ok (.iaload, 1) := by decide +kernel
theorem dX4_takeFrom_99 : decode cX4_takeFrom 99 = .ok (.istore 4, 2) := by decide +kernel
theorem dX4_takeFrom_101 : decode cX4_takeFrom 101 = .ok (.aload_n 0, 1) := by decide +kernel
theorem dX4_takeFrom_102 : decode cX4_takeFrom 102 = .ok (.getfield 21, 3) := by decide +kernel
theorem dX4_takeFrom_105 : decode cX4_takeFrom 105 = .ok (.iload_n 2, 1) := by decide +kernel
theorem dX4_takeFrom_106 : decode cX4_takeFrom 106 = .ok (.iload 4, 2) := by decide +kernel
theorem dX4_takeFrom_108 : decode cX4_takeFrom 108 = .ok (.bipush 115, 2) := by decide +kernel
theorem dX4_takeFrom_110 : decode cX4_takeFrom 110 = .ok (.if_icmp .ne 7, 3) := by decide +kernel
theorem dX4_takeFrom_113 : decode cX4_takeFrom 113 = .ok (.iconst 0, 1) := by decide +kernel
theorem dX4_takeFrom_114 : decode cX4_takeFrom 114 = .ok (.goto 15, 3) := by decide +kernel
theorem dX4_takeFrom_117 : decode cX4_takeFrom 117 = .ok (.iload 4, 2) := by decide +kernel
theorem dX4_takeFrom_119 : decode cX4_takeFrom 119 = .ok (.bipush 100, 2) := by decide +kernel
theorem dX4_takeFrom_121 : decode cX4_takeFrom 121 = .ok (.if_icmp .ne 7, 3) := by decide +kernel
theorem dX4_takeFrom_124 : decode cX4_takeFrom 124 = .ok (.iconst 1, 1) := by decide +kernel
theorem dX4_takeFrom_125 : decode cX4_takeFrom 125 = .ok (.goto 4, 3) := by decide +kernel
theorem dX4_takeFrom_128 : decode cX4_takeFrom 128 = .ok (.iconst 2, 1) := by decide +kernel
theorem dX4_takeFrom_129 : decode cX4_takeFrom 129 = .ok (.iastore, 1) := by decide +kernel
theorem dX4_takeFrom_130 : decode cX4_takeFrom 130 = .ok (.iinc 2 1, 3) := by decide +kernel
theorem dX4_takeFrom_133 : decode cX4_takeFrom 133 = .ok (.goto (-103), 3) := by decide +kernel
theorem dX4_takeFrom_136 : decode cX4_takeFrom 136 = .ok (.return_, 1) := by decide +kernel
theorem dX4_becomeLike_0 : decode cX4_becomeLike 0 = .ok (.aload_n 0, 1) := by decide +kernel
theorem dX4_becomeLike_1 : decode cX4_becomeLike 1 = .ok (.aload_n 1, 1) := by decide +kernel
theorem dX4_becomeLike_2 : decode cX4_becomeLike 2 = .ok (.getfield 24, 3) := by decide +kernel
theorem dX4_becomeLike_5 : decode cX4_becomeLike 5 = .ok (.putfield 24, 3) := by decide +kernel
theorem dX4_becomeLike_8 : decode cX4_becomeLike 8 = .ok (.iconst 0, 1) := by decide +kernel
theorem dX4_becomeLike_9 : decode cX4_becomeLike 9 = .ok (.istore_n 2, 1) := by decide +kernel
theorem dX4_becomeLike_10 : decode cX4_becomeLike 10 = .ok (.iload_n 2, 1) := by decide +kernel
theorem dX4_becomeLike_11 : decode cX4_becomeLike 11 = .ok (.aload_n 0, 1) := by decide +kernel
theorem dX4_becomeLike_12 : decode cX4_becomeLike 12 = .ok (.getfield 24, 3) := by decide +kernel
theorem dX4_becomeLike_15 : decode cX4_becomeLike 15 = .ok (.if_icmp .ge 16, 3) := by decide +kernel
theorem dX4_becomeLike_18 : decode cX4_becomeLike 18 = .ok (.aload_n 0, 1) := by decide +kernel
theorem dX4_becomeLike_19 : decode cX4_becomeLike 19 = .ok (.iload_n 2, 1) := by decide +kernel
theorem dX4_becomeLike_20 : decode cX4_becomeLike 20 = .ok (.aload_n 1, 1) := by decide +kernel
theorem dX4_becomeLike_21 : decode cX4_becomeLike 21 = .ok (.iload_n 2, 1) := by decide +kernel
theorem dX4_becomeLike_22 : decode cX4_becomeLike 22 = .ok (.invokevirtual 47, 3) := by decide +kernel
theorem dX4_becomeLike_25 : decode cX4_becomeLike 25 = .ok (.iinc 2 1, 3) := by decide +kernel
theorem dX4_becomeLike_28 : decode cX4_becomeLike 28 = .ok (.goto (-18), 3) := by decide +kernel
theorem dX4_becomeLike_31 : decode cX4_becomeLike 31 = .ok (.return_, 1) := by decide +kernel
theorem dX4_leaveOut_0 : decode cX4_leaveOut 0 = .ok (.iload_n 1, 1) := by decide +kernel
theorem dX4_leaveOut_1 : decode cX4_leaveOut 1 = .ok (.istore_n 2, 1) := by decide +kernel
theorem dX4_leaveOut_2 : decode cX4_leaveOut 2 = .ok (.iload_n 2, 1) := by decide +kernel
theorem dX4_leaveOut_3 : decode cX4_leaveOut 3 = .ok (.iconst 1, 1) := by decide +kernel
theorem dX4_leaveOut_4 : decode cX4_leaveOut 4 = .ok (.iadd, 1) := by decide +kernel
theorem dX4_leaveOut_5 : decode cX4_leaveOut 5 = .ok (.aload_n 0, 1) := by decide +kernel
theorem dX4_leaveOut_6 : decode cX4_leaveOut 6 = .ok (.getfield 24, 3) := by decide +kernel
theorem dX4_leaveOut_9 : decode cX4_leaveOut 9 = .ok (.if_icmp .ge 18, 3) := by decide +kernel
theorem dX4_leaveOut_12 : decode cX4_leaveOut 12 = .ok (.aload_n 0, 1) := by decide +kernel
theorem dX4_leaveOut_13 : decode cX4_leaveOut 13 = .ok (.iload_n 2, 1) := by decide +kernel
theorem dX4_leaveOut_14 : decode cX4_leaveOut 14 = .ok (.aload_n 0, 1) := by decide +kernel
theorem dX4_leaveOut_15 : decode cX4_leaveOut 15 = .ok (.iload_n 2, 1) := by decide +kernel
theorem dX4_leaveOut_16 : decode cX4_leaveOut 16 = .ok (.iconst 1, 1) := by decide +kernel
theorem dX4_leaveOut_17 : decode cX4_leaveOut 17 = .ok (.iadd, 1) := by decide +kernel
theorem dX4_leaveOut_18 : decode cX4_leaveOut 18 = .ok (.invokevirtual 47, 3) := by decide +kernel
theorem dX4_leaveOut_21 : decode cX4_leaveOut 21 = .ok (.iinc 2 1, 3) := by decide +kernel
theorem dX4_leaveOut_24 : decode cX4_leaveOut 24 = .ok (.goto (-22), 3) := by decide +kernel
theorem dX4_leaveOut_27 : decode cX4_leaveOut 27 = .ok (.aload_n 0, 1) := by decide +kernel
theorem dX4_leaveOut_28 : decode cX4_leaveOut 28 = .ok (.dup, 1) := by decide +kernel
theorem dX4_leaveOut_29 : decode cX4_leaveOut 29 = .ok (.getfield 24, 3) := by decide +kernel
theorem dX4_leaveOut_32 : decode cX4_leaveOut 32 = .ok (.iconst 1, 1) := by decide +kernel
theorem dX4_leaveOut_33 : decode cX4_leaveOut 33 = .ok (.isub, 1) := by decide +kernel
theorem dX4_leaveOut_34 : decode cX4_leaveOut 34 = .ok (.putfield 24, 3) := by decide +kernel
theorem dX4_leaveOut_37 : decode cX4_leaveOut 37 = .ok (.return_, 1) := by decide +kernel
theorem dX4_takeOver_0 : decode cX4_takeOver 0 = .ok (.aload_n 0, 1) := by decide +kernel
theorem dX4_takeOver_1 : decode cX4_takeOver 1 = .ok (.getfield 9, 3) := by decide +kernel
theorem dX4_takeOver_4 : decode cX4_takeOver 4 = .ok (.iload_n 1, 1) := by decide +kernel
theorem dX4_takeOver_5 : decode cX4_takeOver 5 = .ok (.aload_n 2, 1) := by decide +kernel
theorem dX4_takeOver_6 : decode cX4_takeOver 6 = .ok (.getfield 9, 3) := by decide +kernel
theorem dX4_takeOver_9 : decode cX4_takeOver 9 = .ok (.iload_n 3, 1) := by decide +kernel
theorem dX4_takeOver_10 : decode cX4_takeOver 10 = .ok (.iaload, 1) := by decide +kernel
theorem dX4_takeOver_11 : decode cX4_takeOver 11 = .ok (.iastore, 1) := by decide +kernel
theorem dX4_takeOver_12 : decode cX4_takeOver 12 = .ok (.aload_n 0, 1) := by decide +kernel
theorem dX4_takeOver_13 : decode cX4_takeOver 13 = .ok (.getfield 15, 3) := by decide +kernel
theorem dX4_takeOver_16 : decode cX4_takeOver 16 = .ok (.iload_n 1, 1) := by decide +kernel
theorem dX4_takeOver_17 : decode cX4_takeOver 17 = .ok (.aload_n 2, 1) := by decide +kernel
theorem dX4_takeOver_18 : decode cX4_takeOver 18 = .ok (.getfield 15, 3) := by decide +kernel
theorem dX4_takeOver_21 : decode cX4_takeOver 21 = .ok (.iload_n 3, 1) := by decide +kernel
theorem dX4_takeOver_22 : decode cX4_takeOver 22 = .ok (.iaload, 1) := by decide +kernel
theorem dX4_takeOver_23 : decode cX4_takeOver 23 = .ok (.iastore, 1) := by decide +kernel
theorem dX4_takeOver_24 : decode cX4_takeOver 24 = .ok (.aload_n 0, 1) := by decide +kernel
theorem dX4_takeOver_25 : decode cX4_takeOver 25 = .ok (.getfield 18, 3) := by decide +kernel
theorem dX4_takeOver_28 : decode cX4_takeOver 28 = .ok (.iload_n 1, 1) := by decide +kernel
theorem dX4_takeOver_29 : decode cX4_takeOver 29 = .ok (.aload_n 2, 1) := by decide +kernel
theorem dX4_takeOver_30 : decode cX4_takeOver 30 = .ok (.getfield 18, 3) := by decide +kernel
theorem dX4_takeOver_33 : decode cX4_takeOver 33 = .ok (.iload_n 3, 1) := by decide +kernel
theorem dX4_takeOver_34 : decode cX4_takeOver 34 = .ok (.iaload, 1) := by decide +kernel
theorem dX4_takeOver_35 : decode cX4_takeOver 35 = .ok (.iastore, 1) := by decide +kernel
theorem dX4_takeOver_36 : decode cX4_takeOver 36 = .ok (.aload_n 0, 1) := by decide +kernel
theorem dX4_takeOver_37 : decode cX4_takeOver 37 = .ok (.getfield 21, 3) := by decide +kernel
theorem dX4_takeOver_40 : decode cX4_takeOver 40 = .ok (.iload_n 1, 1) := by decide +kernel
theorem dX4_takeOver_41 : decode cX4_takeOver 41 = .ok (.aload_n 2, 1) := by decide +kernel
theorem dX4_takeOver_42 : decode cX4_takeOver 42 = .ok (.getfield 21, 3) := by decide +kernel
theorem dX4_takeOver_45 : decode cX4_takeOver 45 = .ok (.iload_n 3, 1) := by decide +kernel
theorem dX4_takeOver_46 : decode cX4_takeOver 46 = .ok (.iaload, 1) := by decide +kernel
theorem dX4_takeOver_47 : decode cX4_takeOver 47 = .ok (.iastore, 1) := by decide +kernel
theorem dX4_takeOver_48 : decode cX4_takeOver 48 = .ok (.return_, 1) := by decide +kernel
theorem dX4_drawLots_0 : decode cX4_drawLots 0 = .ok (.aload_n 0, 1) := by decide +kernel
theorem dX4_drawLots_1 : decode cX4_drawLots 1 = .ok (.iload_n 1, 1) := by decide +kernel
theorem dX4_drawLots_2 : decode cX4_drawLots 2 = .ok (.putfield 28, 3) := by decide +kernel
theorem dX4_drawLots_5 : decode cX4_drawLots 5 = .ok (.aload_n 0, 1) := by decide +kernel
theorem dX4_drawLots_6 : decode cX4_drawLots 6 = .ok (.iload_n 2, 1) := by decide +kernel
theorem dX4_drawLots_7 : decode cX4_drawLots 7 = .ok (.putfield 24, 3) := by decide +kernel
theorem dX4_drawLots_10 : decode cX4_drawLots 10 = .ok (.iconst 0, 1) := by decide +kernel
theorem dX4_drawLots_11 : decode cX4_drawLots 11 = .ok (.istore_n 3, 1) := by decide +kernel
theorem dX4_drawLots_12 : decode cX4_drawLots 12 = .ok (.iload_n 3, 1) := by decide +kernel
theorem dX4_drawLots_13 : decode cX4_drawLots 13 = .ok (.aload_n 0, 1) := by decide +kernel
theorem dX4_drawLots_14 : decode cX4_drawLots 14 = .ok (.getfield 24, 3) := by decide +kernel
theorem dX4_drawLots_17 : decode cX4_drawLots 17 = .ok (.if_icmp .ge 60, 3) := by decide +kernel
theorem dX4_drawLots_20 : decode cX4_drawLots 20 = .ok (.aload_n 0, 1) := by decide +kernel
theorem dX4_drawLots_21 : decode cX4_drawLots 21 = .ok (.getfield 9, 3) := by decide +kernel
theorem dX4_drawLots_24 : decode cX4_drawLots 24 = .ok (.iload_n 3, 1) := by decide +kernel
theorem dX4_drawLots_25 : decode cX4_drawLots 25 = .ok (.aload_n 0, 1) := by decide +kernel
theorem dX4_drawLots_26 : decode cX4_drawLots 26 = .ok (.invokevirtual 51, 3) := by decide +kernel
theorem dX4_drawLots_29 : decode cX4_drawLots 29 = .ok (.bipush 24, 2) := by decide +kernel
theorem dX4_drawLots_31 : decode cX4_drawLots 31 = .ok (.irem, 1) := by decide +kernel
theorem dX4_drawLots_32 : decode cX4_drawLots 32 = .ok (.iastore, 1) := by decide +kernel
theorem dX4_drawLots_33 : decode cX4_drawLots 33 = .ok (.aload_n 0, 1) := by decide +kernel
theorem dX4_drawLots_34 : decode cX4_drawLots 34 = .ok (.getfield 15, 3) := by decide +kernel
theorem dX4_drawLots_37 : decode cX4_drawLots 37 = .ok (.iload_n 3, 1) := by decide +kernel
theorem dX4_drawLots_38 : decode cX4_drawLots 38 = .ok (.aload_n 0, 1) := by decide +kernel
theorem dX4_drawLots_39 : decode cX4_drawLots 39 = .ok (.invokevirtual 51, 3) := by decide +kernel
theorem dX4_drawLots_42 : decode cX4_drawLots 42 = .ok (.bipush 8, 2) := by decide +kernel
theorem dX4_drawLots_44 : decode cX4_drawLots 44 = .ok (.irem, 1) := by decide +kernel
theorem dX4_drawLots_45 : decode cX4_drawLots 45 = .ok (.iastore, 1) := by decide +kernel
theorem dX4_drawLots_46 : decode cX4_drawLots 46 = .ok (.aload_n 0, 1) := by decide +kernel
theorem dX4_drawLots_47 : decode cX4_drawLots 47 = .ok (.getfield 18, 3) := by decide +kernel
theorem dX4_drawLots_50 : decode cX4_drawLots 50 = .ok (.iload_n 3, 1) := by decide +kernel
theorem dX4_drawLots_51 : decode cX4_drawLots 51 = .ok (.aload_n 0, 1) := by decide +kernel
theorem dX4_drawLots_52 : decode cX4_drawLots 52 = .ok (.invokevirtual 51, 3) := by decide +kernel
theorem dX4_drawLots_55 : decode cX4_drawLots 55 = .ok (.bipush 10, 2) := by decide +kernel
theorem dX4_drawLots_57 : decode cX4_drawLots 57 = .ok (.irem, 1) := by decide +kernel
theorem dX4_drawLots_58 : decode cX4_drawLots 58 = .ok (.iastore, 1) := by decide +kernel
theorem dX4_drawLots_59 : decode cX4_drawLots 59 = .ok (.aload_n 0, 1) := by decide +kernel
theorem dX4_drawLots_60 : decode cX4_drawLots 60 = .ok (.getfield 21, 3) := by decide +kernel
theorem dX4_drawLots_63 : decode cX4_drawLots 63 = .ok (.iload_n 3, 1) := by decide +kernel
theorem dX4_drawLots_64 : decode cX4_drawLots 64 = .ok (.aload_n 0, 1) := by decide +kernel
theorem dX4_drawLots_65 : decode cX4_drawLots 65 = .ok (.invokevirtual 51, 3) := by decide +kernel
theorem dX4_drawLots_68 : decode cX4_drawLots 68 = .ok (.iconst 3, 1) := by decide +kernel
theorem dX4_drawLots_69 : decode cX4_drawLots 69 = .ok (.irem, 1) := by decide +kernel
theorem dX4_drawLots_70 : decode cX4_drawLots 70 = .ok (.iastore, 1) := by decide +kernel
theorem dX4_drawLots_71 : decode cX4_drawLots 71 = .ok (.iinc 3 1, 3) := by decide +kernel
theorem dX4_drawLots_74 : decode cX4_drawLots 74 = .ok (.goto (-62), 3) := by decide +kernel
theorem dX4_drawLots_77 : decode cX4_drawLots 77 = .ok (.return_, 1) := by decide +kernel
theorem dX4_nextLot_0 : decode cX4_nextLot 0 = .ok (.aload_n 0, 1) := by decide +kernel
theorem dX4_nextLot_1 : decode cX4_nextLot 1 = .ok (.ldc 55, 2) := by decide +kernel
theorem dX4_nextLot_3 : decode cX4_nextLot 3 = .ok (.aload_n 0, 1) := by decide +kernel
theorem dX4_nextLot_4 : decode cX4_nextLot 4 = .ok (.getfield 28, 3) := by decide +kernel
theorem dX4_nextLot_7 : decode cX4_nextLot 7 = .ok (.imul, 1) := by decide +kernel
theorem dX4_nextLot_8 : decode cX4_nextLot 8 = .ok (.sipush 12345, 3) := by decide +kernel
theorem dX4_nextLot_11 : decode cX4_nextLot 11 = .ok (.iadd, 1) := by decide +kernel
theorem dX4_nextLot_12 : decode cX4_nextLot 12 = .ok (.putfield 28, 3) := by decide +kernel
theorem dX4_nextLot_15 : decode cX4_nextLot 15 = .ok (.aload_n 0, 1) := by decide +kernel
theorem dX4_nextLot_16 : decode cX4_nextLot 16 = .ok (.getfield 28, 3) := by decide +kernel
theorem dX4_nextLot_19 : decode cX4_nextLot 19 = .ok (.bipush 16, 2) := by decide +kernel
theorem dX4_nextLot_21 : decode cX4_nextLot 21 = .ok (.iushr, 1) := by decide +kernel
theorem dX4_nextLot_22 : decode cX4_nextLot 22 = .ok (.ireturn, 1) := by decide +kernel
theorem dX4_apart_0 : decode cX4_apart 0 = .ok (.aload_n 0, 1) := by decide +kernel
theorem dX4_apart_1 : decode cX4_apart 1 = .ok (.getfield 18, 3) := by decide +kernel
theorem dX4_apart_4 : decode cX4_apart 4 = .ok (.iload_n 1, 1) := by decide +kernel
theorem dX4_apart_5 : decode cX4_apart 5 = .ok (.iaload, 1) := by decide +kernel
theorem dX4_apart_6 : decode cX4_apart 6 = .ok (.aload_n 0, 1) := by decide +kernel
theorem dX4_apart_7 : decode cX4_apart 7 = .ok (.getfield 18, 3) := by decide +kernel
theorem dX4_apart_10 : decode cX4_apart 10 = .ok (.iload_n 2, 1) := by decide +kernel
theorem dX4_apart_11 : decode cX4_apart 11 = .ok (.iaload, 1) := by decide +kernel
theorem dX4_apart_12 : decode cX4_apart 12 = .ok (.if_icmp .ne 42, 3) := by decide +kernel
theorem dX4_apart_15 : decode cX4_apart 15 = .ok (.aload_n 0, 1) := by decide +kernel
theorem dX4_apart_16 : decode cX4_apart 16 = .ok (.getfield 15, 3) := by decide +kernel
theorem dX4_apart_19 : decode cX4_apart 19 = .ok (.iload_n 1, 1) := by decide +kernel
theorem dX4_apart_20 : decode cX4_apart 20 = .ok (.iaload, 1) := by decide +kernel
theorem dX4_apart_21 : decode cX4_apart 21 = .ok (.aload_n 0, 1) := by decide +kernel
theorem dX4_apart_22 : decode cX4_apart 22 = .ok (.getfield 15, 3) := by decide +kernel
theorem dX4_apart_25 : decode cX4_apart 25 = .ok (.iload_n 2, 1) := by decide +kernel
theorem dX4_apart_26 : decode cX4_apart 26 = .ok (.iaload, 1) := by decide +kernel
theorem dX4_apart_27 : decode cX4_apart 27 = .ok (.isub, 1) := by decide +kernel
theorem dX4_apart_28 : decode cX4_apart 28 = .ok (.invokestatic 56, 3) := by decide +kernel
theorem dX4_apart_31 : decode cX4_apart 31 = .ok (.aload_n 0, 1) := by decide +kernel
theorem dX4_apart_32 : decode cX4_apart 32 = .ok (.getfield 9, 3) := by decide +kernel
theorem dX4_apart_35 : decode cX4_apart 35 = .ok (.iload_n 1, 1) := by decide +kernel
theorem dX4_apart_36 : decode cX4_apart 36 = .ok (.iaload, 1) := by decide +kernel
theorem dX4_apart_37 : decode cX4_apart 37 = .ok (.aload_n 0, 1) := by decide +kernel
theorem dX4_apart_38 : decode cX4_apart 38 = .ok (.getfield 9, 3) := by decide +kernel
theorem dX4_apart_41 : decode cX4_apart 41 = .ok (.iload_n 2, 1) := by decide +kernel
theorem dX4_apart_42 : decode cX4_apart 42 = .ok (.iaload, 1) := by decide +kernel
theorem dX4_apart_43 : decode cX4_apart 43 = .ok (.isub, 1) := by decide +kernel
theorem dX4_apart_44 : decode cX4_apart 44 = .ok (.invokestatic 56, 3) := by decide +kernel
theorem dX4_apart_47 : decode cX4_apart 47 = .ok (.if_icmp .le 7, 3) := by decide +kernel
theorem dX4_apart_50 : decode cX4_apart 50 = .ok (.iconst 1, 1) := by decide +kernel
theorem dX4_apart_51 : decode cX4_apart 51 = .ok (.goto 4, 3) := by decide +kernel
theorem dX4_apart_54 : decode cX4_apart 54 = .ok (.iconst 0, 1) := by decide +kernel
theorem dX4_apart_55 : decode cX4_apart 55 = .ok (.ireturn, 1) := by decide +kernel
theorem dX4_together_0 : decode cX4_together 0 = .ok (.iconst 0, 1) := by decide +kernel
theorem dX4_together_1 : decode cX4_together 1 = .ok (.istore_n 2, 1) := by decide +kernel
theorem dX4_together_2 : decode cX4_together 2 = .ok (.iload_n 2, 1) := by decide +kernel
theorem dX4_together_3 : decode cX4_together 3 = .ok (.aload_n 0, 1) := by decide +kernel
theorem dX4_together_4 : decode cX4_together 4 = .ok (.getfield 24, 3) := by decide +kernel
theorem dX4_together_7 : decode cX4_together 7 = .ok (.if_icmp .ge 46, 3) := by decide +kernel
theorem dX4_together_10 : decode cX4_together 10 = .ok (.iconst 0, 1) := by decide +kernel
theorem dX4_together_11 : decode cX4_together 11 = .ok (.istore_n 3, 1) := by decide +kernel
theorem dX4_together_12 : decode cX4_together 12 = .ok (.iload_n 3, 1) := by decide +kernel
theorem dX4_together_13 : decode cX4_together 13 = .ok (.iload_n 2, 1) := by decide +kernel
theorem dX4_together_14 : decode cX4_together 14 = .ok (.if_icmp .ge 33, 3) := by decide +kernel
theorem dX4_together_17 : decode cX4_together 17 = .ok (.iload_n 1, 1) := by decide +kernel
theorem dX4_together_18 : decode cX4_together 18 = .ok (.iload_n 2, 1) := by decide +kernel
theorem dX4_together_19 : decode cX4_together 19 = .ok (.ishr, 1) := by decide +kernel
theorem dX4_together_20 : decode cX4_together 20 = .ok (.iload_n 1, 1) := by decide +kernel
theorem dX4_together_21 : decode cX4_together 21 = .ok (.iload_n 3, 1) := by decide +kernel
theorem dX4_together_22 : decode cX4_together 22 = .ok (.ishr, 1) := by decide +kernel
theorem dX4_together_23 : decode cX4_together 23 = .ok (.iand, 1) := by decide +kernel
theorem dX4_together_24 : decode cX4_together 24 = .ok (.iconst 1, 1) := by decide +kernel
theorem dX4_together_25 : decode cX4_together 25 = .ok (.iand, 1) := by decide +kernel
theorem dX4_together_26 : decode cX4_together 26 = .ok (.iconst 1, 1) := by decide +kernel
theorem dX4_together_27 : decode cX4_together 27 = .ok (.if_icmp .ne 14, 3) := by decide +kernel
theorem dX4_together_30 : decode cX4_together 30 = .ok (.aload_n 0, 1) := by decide +kernel
theorem dX4_together_31 : decode cX4_together 31 = .ok (.iload_n 2, 1) := by decide +kernel
theorem dX4_together_32 : decode cX4_together 32 = .ok (.iload_n 3, 1) := by decide +kernel
theorem dX4_together_33 : decode cX4_together 33 = .ok (.invokevirtual 60, 3) := by decide +kernel
theorem dX4_together_36 : decode cX4_together 36 = .ok (.ifCond .eq 5, 3) := by decide +kernel
theorem dX4_together_39 : decode cX4_together 39 = .ok (.iconst 0, 1) := by decide +kernel
theorem dX4_together_40 : decode cX4_together 40 = .ok (.ireturn, 1) := by decide +kernel
theorem dX4_together_41 : decode cX4_together 41 = .ok (.iinc 3 1, 3) := by decide +kernel
theorem dX4_together_44 : decode cX4_together 44 = .ok (.goto (-32), 3) := by decide +kernel
theorem dX4_together_47 : decode cX4_together 47 = .ok (.iinc 2 1, 3) := by decide +kernel
theorem dX4_together_50 : decode cX4_together 50 = .ok (.goto (-48), 3) := by decide +kernel
theorem dX4_together_53 : decode cX4_together 53 = .ok (.iconst 1, 1) := by decide +kernel
theorem dX4_together_54 : decode cX4_together 54 = .ok (.ireturn, 1) := by decide +kernel
theorem dX5_init_0 : decode cX5_init 0 = .ok (.aload_n 0, 1) := by decide +kernel
theorem dX5_init_1 : decode cX5_init 1 = .ok (.invokespecial 3, 3) := by decide +kernel
theorem dX5_init_4 : decode cX5_init 4 = .ok (.aload_n 0, 1) := by decide +kernel
theorem dX5_init_5 : decode cX5_init 5 = .ok (.iconst 0, 1) := by decide +kernel
theorem dX5_init_6 : decode cX5_init 6 = .ok (.putfield 9, 3) := by decide +kernel
theorem dX5_init_9 : decode cX5_init 9 = .ok (.aload_n 0, 1) := by decide +kernel
theorem dX5_init_10 : decode cX5_init 10 = .ok (.iload_n 1, 1) := by decide +kernel
theorem dX5_init_11 : decode cX5_init 11 = .ok (.newarray .int, 2) := by decide +kernel
theorem dX5_init_13 : decode cX5_init 13 = .ok (.putfield 15, 3) := by decide +kernel
theorem dX5_init_16 : decode cX5_init 16 = .ok (.aload_n 0, 1) := by decide +kernel
theorem dX5_init_17 : decode cX5_init 17 = .ok (.iload_n 2, 1) := by decide +kernel
theorem dX5_init_18 : decode cX5_init 18 = .ok (.putfield 19, 3) := by decide +kernel
theorem dX5_init_21 : decode cX5_init 21 = .ok (.return_, 1) := by decide +kernel
theorem dX5_faultPlace_0 : decode cX5_faultPlace 0 = .ok (.iconst 0, 1) := by decide +kernel
theorem dX5_faultPlace_1 : decode cX5_faultPlace 1 = .ok (.istore_n 1, 1) := by decide +kernel
theorem dX5_faultPlace_2 : decode cX5_faultPlace 2 = .ok (.iconst 0, 1) := by decide +kernel
theorem dX5_faultPlace_3 : decode cX5_faultPlace 3 = .ok (.istore_n 2, 1) := by decide +kernel
theorem dX5_faultPlace_4 : decode cX5_faultPlace 4 = .ok (.iload_n 2, 1) := by decide +kernel
theorem dX5_faultPlace_5 : decode cX5_faultPlace 5 = .ok (.aload_n 0, 1) := by decide +kernel
theorem dX5_faultPlace_6 : decode cX5_faultPlace 6 = .ok (.getfield 9, 3) := by decide +kernel
theorem dX5_faultPlace_9 : decode cX5_faultPlace 9 = .ok (.if_icmp .ge 43, 3) := by decide +kernel
theorem dX5_faultPlace_12 : decode cX5_faultPlace 12 = .ok (.aload_n 0, 1) := by decide +kernel
theorem dX5_faultPlace_13 : decode cX5_faultPlace 13 = .ok (.iload_n 1, 1) := by decide +kernel
theorem dX5_faultPlace_14 : decode cX5_faultPlace 14 = .ok (.aload_n 0, 1) := by decide +kernel
theorem dX5_faultPlace_15 : decode cX5_faultPlace 15 = .ok (.getfield 15, 3) := by decide +kernel
theorem dX5_faultPlace_18 : decode cX5_faultPlace 18 = .ok (.iload_n 2, 1) := by decide +kernel
theorem dX5_faultPlace_19 : decode cX5_faultPlace 19 = .ok (.iaload, 1) := by decide +kernel
theorem dX5_faultPlace_20 : decode cX5_faultPlace 20 = .ok (.invokevirtual 22, 3) := by decide +kernel
theorem dX5_faultPlace_23 : decode cX5_faultPlace 23 = .ok (.ifCond .ne 5, 3) := by decide +kernel
theorem dX5_faultPlace_26 : decode cX5_faultPlace 26 = .ok (.iload_n 2, 1) := by decide +kernel
theorem dX5_faultPlace_27 : decode cX5_faultPlace 27 = .ok (.ireturn, 1) := by decide +kernel
theorem dX5_faultPlace_28 : decode cX5_faultPlace 28 = .ok (.iload_n 1, 1) := by decide +kernel
theorem dX5_faultPlace_29 : decode cX5_faultPlace 29 = .ok (.iconst 1, 1) := by decide +kernel
theorem dX5_faultPlace_30 : decode cX5_faultPlace 30 = .ok (.iadd, 1) := by decide +kernel
theorem dX5_faultPlace_31 : decode cX5_faultPlace 31 = .ok (.aload_n 0, 1) := by decide +kernel
theorem dX5_faultPlace_32 : decode cX5_faultPlace 32 = .ok (.getfield 19, 3) := by decide +kernel
theorem dX5_faultPlace_35 : decode cX5_faultPlace 35 = .ok (.if_icmp .ne 7, 3) := by decide +kernel
theorem dX5_faultPlace_38 : decode cX5_faultPlace 38 = .ok (.iconst 0, 1) := by decide +kernel
theorem dX5_faultPlace_39 : decode cX5_faultPlace 39 = .ok (.goto 6, 3) := by decide +kernel
theorem dX5_faultPlace_42 : decode cX5_faultPlace 42 = .ok (.iload_n 1, 1) := by decide +kernel
theorem dX5_faultPlace_43 : decode cX5_faultPlace 43 = .ok (.iconst 1, 1) := by decide +kernel
theorem dX5_faultPlace_44 : decode cX5_faultPlace 44 = .ok (.iadd, 1) := by decide +kernel
theorem dX5_faultPlace_45 : decode cX5_faultPlace 45 = .ok (.istore_n 1, 1) := by decide +kernel
theorem dX5_faultPlace_46 : decode cX5_faultPlace 46 = .ok (.iinc 2 1, 3) := by decide +kernel
theorem dX5_faultPlace_49 : decode cX5_faultPlace 49 = .ok (.goto (-45), 3) := by decide +kernel
theorem dX5_faultPlace_52 : decode cX5_faultPlace 52 = .ok (.aload_n 0, 1) := by decide +kernel
theorem dX5_faultPlace_53 : decode cX5_faultPlace 53 = .ok (.getfield 9, 3) := by decide +kernel
theorem dX5_faultPlace_56 : decode cX5_faultPlace 56 = .ok (.ifCond .eq 13, 3) := by decide +kernel
theorem dX5_faultPlace_59 : decode cX5_faultPlace 59 = .ok (.iload_n 1, 1) := by decide +kernel
theorem dX5_faultPlace_60 : decode cX5_faultPlace 60 = .ok (.aload_n 0, 1) := by decide +kernel
theorem dX5_faultPlace_61 : decode cX5_faultPlace 61 = .ok (.getfield 19, 3) := by decide +kernel
theorem dX5_faultPlace_64 : decode cX5_faultPlace 64 = .ok (.iconst 1, 1) := by decide +kernel
theorem dX5_faultPlace_65 : decode cX5_faultPlace 65 = .ok (.isub, 1) := by decide +kernel
theorem dX5_faultPlace_66 : decode cX5_faultPlace 66 = .ok (.if_icmp .ne 7, 3) := by decide +kernel
theorem dX5_faultPlace_69 : decode cX5_faultPlace 69 = .ok (.iconst (-1), 1) := by decide +kernel
theorem dX5_faultPlace_70 : decode cX5_faultPlace 70 = .ok (.goto 7, 3) := by decide +kernel
theorem dX5_faultPlace_73 : decode cX5_faultPlace 73 = .ok (.aload_n 0, 1) := by decide +kernel
theorem dX5_faultPlace_74 : decode cX5_faultPlace 74 = .ok (.getfield 9, 3) := by decide +kernel
theorem dX5_faultPlace_77 : decode cX5_faultPlace 77 = .ok (.ireturn, 1) := by decide +kernel
theorem dX5_fits_0 : decode cX5_fits 0 = .ok (.iload_n 1, 1) := by decide +kernel
theorem dX5_fits_1 : decode cX5_fits 1 = .ok (.aload_n 0, 1) := by decide +kernel
theorem dX5_fits_2 : decode cX5_fits 2 = .ok (.getfield 19, 3) := by decide +kernel
theorem dX5_fits_5 : decode cX5_fits 5 = .ok (.iconst 1, 1) := by decide +kernel
theorem dX5_fits_6 : decode cX5_fits 6 = .ok (.isub, 1) := by decide +kernel
theorem dX5_fits_7 : decode cX5_fits 7 = .ok (.if_icmp .ne 15, 3) := by decide +kernel
theorem dX5_fits_10 : decode cX5_fits 10 = .ok (.iload_n 2, 1) := by decide +kernel
theorem dX5_fits_11 : decode cX5_fits 11 = .ok (.bipush 59, 2) := by decide +kernel
theorem dX5_fits_13 : decode cX5_fits 13 = .ok (.if_icmp .ne 7, 3) := by decide +kernel
theorem dX5_fits_16 : decode cX5_fits 16 = .ok (.iconst 1, 1) := by decide +kernel
theorem dX5_fits_17 : decode cX5_fits 17 = .ok (.goto 4, 3) := by decide +kernel
theorem dX5_fits_20 : decode cX5_fits 20 = .ok (.iconst 0, 1) := by decide +kernel
theorem dX5_fits_21 : decode cX5_fits 21 = .ok (.ireturn, 1) := by decide +kernel
theorem dX5_fits_22 : decode cX5_fits 22 = .ok (.iload_n 1, 1) := by decide +kernel
theorem dX5_fits_23 : decode cX5_fits 23 = .ok (.tableswitch 79 0 2 #[25, 43, 61], 25) := by decide +kernel
theorem dX5_fits_48 : decode cX5_fits 48 = .ok (.iload_n 2, 1) := by decide +kernel
theorem dX5_fits_49 : decode cX5_fits 49 = .ok (.bipush 97, 2) := by decide +kernel
theorem dX5_fits_51 : decode cX5_fits 51 = .ok (.if_icmp .lt 13, 3) := by decide +kernel
theorem dX5_fits_54 : decode cX5_fits 54 = .ok (.iload_n 2, 1) := by decide +kernel
theorem dX5_fits_55 : decode cX5_fits 55 = .ok (.bipush 120, 2) := by decide +kernel
theorem dX5_fits_57 : decode cX5_fits 57 = .ok (.if_icmp .gt 7, 3) := by decide +kernel
theorem dX5_fits_60 : decode cX5_fits 60 = .ok (.iconst 1, 1) := by decide +kernel
theorem dX5_fits_61 : decode cX5_fits 61 = .ok (.goto 4, 3) := by decide +kernel
theorem dX5_fits_64 : decode cX5_fits 64 = .ok (.iconst 0, 1) := by decide +kernel
theorem dX5_fits_65 : decode cX5_fits 65 = .ok (.ireturn, 1) := by decide +kernel
theorem dX5_fits_66 : decode cX5_fits 66 = .ok (.iload_n 2, 1) := by decide +kernel
theorem dX5_fits_67 : decode cX5_fits 67 = .ok (.bipush 48, 2) := by decide +kernel
theorem dX5_fits_69 : decode cX5_fits 69 = .ok (.if_icmp .lt 13, 3) := by decide +kernel
theorem dX5_fits_72 : decode cX5_fits 72 = .ok (.iload_n 2, 1) := by decide +kernel
theorem dX5_fits_73 : decode cX5_fits 73 = .ok (.bipush 55, 2) := by decide +kernel
theorem dX5_fits_75 : decode cX5_fits 75 = .ok (.if_icmp .gt 7, 3) := by decide +kernel
theorem dX5_fits_78 : decode cX5_fits 78 = .ok (.iconst 1, 1) := by decide +kernel
theorem dX5_fits_79 : decode cX5_fits 79 = .ok (.goto 4, 3) := by decide +kernel
theorem dX5_fits_82 : decode cX5_fits 82 = .ok (.iconst 0, 1) := by decide +kernel
theorem dX5_fits_83 : decode cX5_fits 83 = .ok (.ireturn, 1) := by decide +kernel
theorem dX5_fits_84 : decode cX5_fits 84 = .ok (.iload_n 2, 1) := by decide +kernel
theorem dX5_fits_85 : decode cX5_fits 85 = .ok (.bipush 48, 2) := by decide +kernel
theorem dX5_fits_87 : decode cX5_fits 87 = .ok (.if_icmp .lt 13, 3) := by decide +kernel
theorem dX5_fits_90 : decode cX5_fits 90 = .ok (.iload_n 2, 1) := by decide +kernel
theorem dX5_fits_91 : decode cX5_fits 91 = .ok (.bipush 57, 2) := by decide +kernel
theorem dX5_fits_93 : decode cX5_fits 93 = .ok (.if_icmp .gt 7, 3) := by decide +kernel
theorem dX5_fits_96 : decode cX5_fits 96 = .ok (.iconst 1, 1) := by decide +kernel
theorem dX5_fits_97 : decode cX5_fits 97 = .ok (.goto 4, 3) := by decide +kernel
theorem dX5_fits_100 : decode cX5_fits 100 = .ok (.iconst 0, 1) := by decide +kernel
theorem dX5_fits_101 : decode cX5_fits 101 = .ok (.ireturn, 1) := by decide +kernel
theorem dX5_fits_102 : decode cX5_fits 102 = .ok (.iload_n 2, 1) := by decide +kernel
theorem dX5_fits_103 : decode cX5_fits 103 = .ok (.bipush 115, 2) := by decide +kernel
theorem dX5_fits_105 : decode cX5_fits 105 = .ok (.if_icmp .eq 15, 3) := by decide +kernel
theorem dX5_fits_108 : decode cX5_fits 108 = .ok (.iload_n 2, 1) := by decide +kernel
theorem dX5_fits_109 : decode cX5_fits 109 = .ok (.bipush 100, 2) := by decide +kernel
theorem dX5_fits_111 : decode cX5_fits 111 = .ok (.if_icmp .eq 9, 3) := by decide +kernel
theorem dX5_fits_114 : decode cX5_fits 114 = .ok (.iload_n 2, 1) := by decide +kernel
theorem dX5_fits_115 : decode cX5_fits 115 = .ok (.bipush 107, 2) := by decide +kernel
theorem dX5_fits_117 : decode cX5_fits 117 = .ok (.if_icmp .ne 7, 3) := by decide +kernel
theorem dX5_fits_120 : decode cX5_fits 120 = .ok (.iconst 1, 1) := by decide +kernel
theorem dX5_fits_121 : decode cX5_fits 121 = .ok (.goto 4, 3) := by decide +kernel
theorem dX5_fits_124 : decode cX5_fits 124 = .ok (.iconst 0, 1) := by decide +kernel
theorem dX5_fits_125 : decode cX5_fits 125 = .ok (.ireturn, 1) := by decide +kernel
theorem dX5_hasFault_0 : decode cX5_hasFault 0 = .ok (.aload_n 0, 1) := by decide +kernel
theorem dX5_hasFault_1 : decode cX5_hasFault 1 = .ok (.invokevirtual 26, 3) := by decide +kernel
theorem dX5_hasFault_4 : decode cX5_hasFault 4 = .ok (.iconst (-1), 1) := by decide +kernel
theorem dX5_hasFault_5 : decode cX5_hasFault 5 = .ok (.if_icmp .eq 7, 3) := by decide +kernel
theorem dX5_hasFault_8 : decode cX5_hasFault 8 = .ok (.iconst 1, 1) := by decide +kernel
theorem dX5_hasFault_9 : decode cX5_hasFault 9 = .ok (.goto 4, 3) := by decide +kernel
theorem dX5_hasFault_12 : decode cX5_hasFault 12 = .ok (.iconst 0, 1) := by decide +kernel
theorem dX5_hasFault_13 : decode cX5_hasFault 13 = .ok (.ireturn, 1) := by decide +kernel
end
section
theorem dX6_init_0 : decode cX6_init 0 = .ok (.aload_n 0, 1) := by decide +kernel
theorem dX6_init_1 : decode cX6_init 1 = .ok (.invokespecial 1, 3) := by decide +kernel
theorem dX6_init_4 : decode cX6_init 4 = .ok (.aload_n 0, 1) := by decide +kernel
theorem dX6_init_5 : decode cX6_init 5 = .ok (.new 7, 3) := by decide +kernel
theorem dX6_init_8 : decode cX6_init 8 = .ok (.dup, 1) := by decide +kernel
theorem dX6_init_9 : decode cX6_init 9 = .ok (.bipush 59, 2) := by decide +kernel
theorem dX6_init_11 : decode cX6_init 11 = .ok (.iconst 5, 1) := by decide +kernel
theorem dX6_init_12 : decode cX6_init 12 = .ok (.invokespecial 11, 3) := by decide +kernel
theorem dX6_init_15 : decode cX6_init 15 = .ok (.putfield 14, 3) := by decide +kernel
theorem dX6_init_18 : decode cX6_init 18 = .ok (.aload_n 0, 1) := by decide +kernel
theorem dX6_init_19 : decode cX6_init 19 = .ok (.new 7, 3) := by decide +kernel
theorem dX6_init_22 : decode cX6_init 22 = .ok (.dup, 1) := by decide +kernel
theorem dX6_init_23 : decode cX6_init 23 = .ok (.bipush 23, 2) := by decide +kernel
theorem dX6_init_25 : decode cX6_init 25 = .ok (.iconst 3, 1) := by decide +kernel
theorem dX6_init_26 : decode cX6_init 26 = .ok (.invokespecial 11, 3) := by decide +kernel
theorem dX6_init_29 : decode cX6_init 29 = .ok (.putfield 18, 3) := by decide +kernel
theorem dX6_init_32 : decode cX6_init 32 = .ok (.aload_n 0, 1) := by decide +kernel
theorem dX6_init_33 : decode cX6_init 33 = .ok (.new 21, 3) := by decide +kernel
theorem dX6_init_36 : decode cX6_init 36 = .ok (.dup, 1) := by decide +kernel
theorem dX6_init_37 : decode cX6_init 37 = .ok (.invokespecial 23, 3) := by decide +kernel
theorem dX6_init_40 : decode cX6_init 40 = .ok (.putfield 24, 3) := by decide +kernel
theorem dX6_init_43 : decode cX6_init 43 = .ok (.aload_n 0, 1) := by decide +kernel
theorem dX6_init_44 : decode cX6_init 44 = .ok (.new 21, 3) := by decide +kernel
theorem dX6_init_47 : decode cX6_init 47 = .ok (.dup, 1) := by decide +kernel
theorem dX6_init_48 : decode cX6_init 48 = .ok (.invokespecial 23, 3) := by decide +kernel
theorem dX6_init_51 : decode cX6_init 51 = .ok (.putfield 28, 3) := by decide +kernel
theorem dX6_init_54 : decode cX6_init 54 = .ok (.aload_n 0, 1) := by decide +kernel
theorem dX6_init_55 : decode cX6_init 55 = .ok (.new 31, 3) := by decide +kernel
theorem dX6_init_58 : decode cX6_init 58 = .ok (.dup, 1) := by decide +kernel
theorem dX6_init_59 : decode cX6_init 59 = .ok (.invokespecial 33, 3) := by decide +kernel
theorem dX6_init_62 : decode cX6_init 62 = .ok (.putfield 34, 3) := by decide +kernel
theorem dX6_init_65 : decode cX6_init 65 = .ok (.aload_n 0, 1) := by decide +kernel
theorem dX6_init_66 : decode cX6_init 66 = .ok (.new 38, 3) := by decide +kernel
theorem dX6_init_69 : decode cX6_init 69 = .ok (.dup, 1) := by decide +kernel
theorem dX6_init_70 : decode cX6_init 70 = .ok (.invokespecial 40, 3) := by decide +kernel
theorem dX6_init_73 : decode cX6_init 73 = .ok (.putfield 41, 3) := by decide +kernel
theorem dX6_init_76 : decode cX6_init 76 = .ok (.aload_n 0, 1) := by decide +kernel
theorem dX6_init_77 : decode cX6_init 77 = .ok (.new 45, 3) := by decide +kernel
theorem dX6_init_80 : decode cX6_init 80 = .ok (.dup, 1) := by decide +kernel
theorem dX6_init_81 : decode cX6_init 81 = .ok (.aload_n 0, 1) := by decide +kernel
theorem dX6_init_82 : decode cX6_init 82 = .ok (.getfield 24, 3) := by decide +kernel
theorem dX6_init_85 : decode cX6_init 85 = .ok (.aload_n 0, 1) := by decide +kernel
theorem dX6_init_86 : decode cX6_init 86 = .ok (.getfield 41, 3) := by decide +kernel
theorem dX6_init_89 : decode cX6_init 89 = .ok (.invokespecial 47, 3) := by decide +kernel
theorem dX6_init_92 : decode cX6_init 92 = .ok (.putfield 50, 3) := by decide +kernel
theorem dX6_init_95 : decode cX6_init 95 = .ok (.aload_n 0, 1) := by decide +kernel
theorem dX6_init_96 : decode cX6_init 96 = .ok (.bipush 8, 2) := by decide +kernel
theorem dX6_init_98 : decode cX6_init 98 = .ok (.newarray .int, 2) := by decide +kernel
theorem dX6_init_100 : decode cX6_init 100 = .ok (.putfield 54, 3) := by decide +kernel
theorem dX6_init_103 : decode cX6_init 103 = .ok (.aload_n 0, 1) := by decide +kernel
theorem dX6_init_104 : decode cX6_init 104 = .ok (.bipush 8, 2) := by decide +kernel
theorem dX6_init_106 : decode cX6_init 106 = .ok (.newarray .int, 2) := by decide +kernel
theorem dX6_init_108 : decode cX6_init 108 = .ok (.putfield 58, 3) := by decide +kernel
theorem dX6_init_111 : decode cX6_init 111 = .ok (.aload_n 0, 1) := by decide +kernel
theorem dX6_init_112 : decode cX6_init 112 = .ok (.iconst 4, 1) := by decide +kernel
theorem dX6_init_113 : decode cX6_init 113 = .ok (.anewarray 61, 3) := by decide +kernel
theorem dX6_init_116 : decode cX6_init 116 = .ok (.putfield 63, 3) := by decide +kernel
theorem dX6_init_119 : decode cX6_init 119 = .ok (.aload_n 0, 1) := by decide +kernel
theorem dX6_init_120 : decode cX6_init 120 = .ok (.bipush 8, 2) := by decide +kernel
theorem dX6_init_122 : decode cX6_init 122 = .ok (.newarray .int, 2) := by decide +kernel
theorem dX6_init_124 : decode cX6_init 124 = .ok (.putfield 67, 3) := by decide +kernel
theorem dX6_init_127 : decode cX6_init 127 = .ok (.aload_n 0, 1) := by decide +kernel
theorem dX6_init_128 : decode cX6_init 128 = .ok (.bipush 8, 2) := by decide +kernel
theorem dX6_init_130 : decode cX6_init 130 = .ok (.newarray .long, 2) := by decide +kernel
theorem dX6_init_132 : decode cX6_init 132 = .ok (.putfield 70, 3) := by decide +kernel
theorem dX6_init_135 : decode cX6_init 135 = .ok (.aload_n 0, 1) := by decide +kernel
theorem dX6_init_136 : decode cX6_init 136 = .ok (.bipush 6, 2) := by decide +kernel
theorem dX6_init_138 : decode cX6_init 138 = .ok (.putfield 74, 3) := by decide +kernel
theorem dX6_init_141 : decode cX6_init 141 = .ok (.aload_n 0, 1) := by decide +kernel
theorem dX6_init_142 : decode cX6_init 142 = .ok (.iconst 0, 1) := by decide +kernel
theorem dX6_init_143 : decode cX6_init 143 = .ok (.putfield 78, 3) := by decide +kernel
theorem dX6_init_146 : decode cX6_init 146 = .ok (.aload_n 0, 1) := by decide +kernel
theorem dX6_init_147 : decode cX6_init 147 = .ok (.iconst 0, 1) := by decide +kernel
theorem dX6_init_148 : decode cX6_init 148 = .ok (.putfield 81, 3) := by decide +kernel
theorem dX6_init_151 : decode cX6_init 151 = .ok (.return_, 1) := by decide +kernel
theorem dX6_type_0 : decode cX6_type 0 = .ok (.iload_n 1, 1) := by decide +kernel
theorem dX6_type_1 : decode cX6_type 1 = .ok (.iconst 2, 1) := by decide +kernel
theorem dX6_type_2 : decode cX6_type 2 = .ok (.invokestatic 84, 3) := by decide +kernel
theorem dX6_type_5 : decode cX6_type 5 = .ok (.ifCond .ne 13, 3) := by decide +kernel
theorem dX6_type_8 : decode cX6_type 8 = .ok (.iload_n 2, 1) := by decide +kernel
theorem dX6_type_9 : decode cX6_type 9 = .ok (.sipush 256, 3) := by decide +kernel
theorem dX6_type_12 : decode cX6_type 12 = .ok (.invokestatic 84, 3) := by decide +kernel
theorem dX6_type_15 : decode cX6_type 15 = .ok (.ifCond .eq 6, 3) := by decide +kernel
theorem dX6_type_18 : decode cX6_type 18 = .ok (.bipush (-2), 2) := by decide +kernel
theorem dX6_type_20 : decode cX6_type 20 = .ok (.ireturn, 1) := by decide +kernel
theorem dX6_type_21 : decode cX6_type 21 = .ok (.aload_n 0, 1) := by decide +kernel
theorem dX6_type_22 : decode cX6_type 22 = .ok (.iload_n 1, 1) := by decide +kernel
theorem dX6_type_23 : decode cX6_type 23 = .ok (.invokevirtual 88, 3) := by decide +kernel
theorem dX6_type_26 : decode cX6_type 26 = .ok (.astore_n 3, 1) := by decide +kernel
theorem dX6_type_27 : decode cX6_type 27 = .ok (.aload_n 3, 1) := by decide +kernel
theorem dX6_type_28 : decode cX6_type 28 = .ok (.getfield 92, 3) := by decide +kernel
theorem dX6_type_31 : decode cX6_type 31 = .ok (.aload_n 3, 1) := by decide +kernel
theorem dX6_type_32 : decode cX6_type 32 = .ok (.getfield 95, 3) := by decide +kernel
theorem dX6_type_35 : decode cX6_type 35 = .ok (.arraylength, 1) := by decide +kernel
theorem dX6_type_36 : decode cX6_type 36 = .ok (.if_icmp .lt 6, 3) := by decide +kernel
theorem dX6_type_39 : decode cX6_type 39 = .ok (.bipush (-4), 2) := by decide +kernel
theorem dX6_type_41 : decode cX6_type 41 = .ok (.ireturn, 1) := by decide +kernel
theorem dX6_type_42 : decode cX6_type 42 = .ok (.aload_n 3, 1) := by decide +kernel
theorem dX6_type_43 : decode cX6_type 43 = .ok (.getfield 95, 3) := by decide +kernel
theorem dX6_type_46 : decode cX6_type 46 = .ok (.aload_n 3, 1) := by decide +kernel
theorem dX6_type_47 : decode cX6_type 47 = .ok (.getfield 92, 3) := by decide +kernel
theorem dX6_type_50 : decode cX6_type 50 = .ok (.iload_n 2, 1) := by decide +kernel
theorem dX6_type_51 : decode cX6_type 51 = .ok (.iastore, 1) := by decide +kernel
theorem dX6_type_52 : decode cX6_type 52 = .ok (.aload_n 3, 1) := by decide +kernel
theorem dX6_type_53 : decode cX6_type 53 = .ok (.dup, 1) := by decide +kernel
theorem dX6_type_54 : decode cX6_type 54 = .ok (.getfield 92, 3) := by decide +kernel
theorem dX6_type_57 : decode cX6_type 57 = .ok (.iconst 1, 1) := by decide +kernel
theorem dX6_type_58 : decode cX6_type 58 = .ok (.iadd, 1) := by decide +kernel
theorem dX6_type_59 : decode cX6_type 59 = .ok (.putfield 92, 3) := by decide +kernel
theorem dX6_type_62 : decode cX6_type 62 = .ok (.aload_n 0, 1) := by decide +kernel
theorem dX6_type_63 : decode cX6_type 63 = .ok (.invokevirtual 98, 3) := by decide +kernel
theorem dX6_type_66 : decode cX6_type 66 = .ok (.aload_n 3, 1) := by decide +kernel
theorem dX6_type_67 : decode cX6_type 67 = .ok (.getfield 92, 3) := by decide +kernel
theorem dX6_type_70 : decode cX6_type 70 = .ok (.ireturn, 1) := by decide +kernel
theorem dX6_wipe_0 : decode cX6_wipe 0 = .ok (.iload_n 1, 1) := by decide +kernel
theorem dX6_wipe_1 : decode cX6_wipe 1 = .ok (.iconst 2, 1) := by decide +kernel
theorem dX6_wipe_2 : decode cX6_wipe 2 = .ok (.invokestatic 84, 3) := by decide +kernel
theorem dX6_wipe_5 : decode cX6_wipe 5 = .ok (.ifCond .eq 6, 3) := by decide +kernel
theorem dX6_wipe_8 : decode cX6_wipe 8 = .ok (.bipush (-2), 2) := by decide +kernel
theorem dX6_wipe_10 : decode cX6_wipe 10 = .ok (.ireturn, 1) := by decide +kernel
theorem dX6_wipe_11 : decode cX6_wipe 11 = .ok (.aload_n 0, 1) := by decide +kernel
theorem dX6_wipe_12 : decode cX6_wipe 12 = .ok (.iload_n 1, 1) := by decide +kernel
theorem dX6_wipe_13 : decode cX6_wipe 13 = .ok (.invokevirtual 88, 3) := by decide +kernel
theorem dX6_wipe_16 : decode cX6_wipe 16 = .ok (.astore_n 2, 1) := by decide +kernel
theorem dX6_wipe_17 : decode cX6_wipe 17 = .ok (.aload_n 2, 1) := by decide +kernel
theorem dX6_wipe_18 : decode cX6_wipe 18 = .ok (.getfield 92, 3) := by decide +kernel
theorem dX6_wipe_21 : decode cX6_wipe 21 = .ok (.istore_n 3, 1) := by decide +kernel
theorem dX6_wipe_22 : decode cX6_wipe 22 = .ok (.aload_n 2, 1) := by decide +kernel
theorem dX6_wipe_23 : decode cX6_wipe 23 = .ok (.iconst 0, 1) := by decide +kernel
theorem dX6_wipe_24 : decode cX6_wipe 24 = .ok (.putfield 92, 3) := by decide +kernel
theorem dX6_wipe_27 : decode cX6_wipe 27 = .ok (.aload_n 0, 1) := by decide +kernel
theorem dX6_wipe_28 : decode cX6_wipe 28 = .ok (.invokevirtual 98, 3) := by decide +kernel
theorem dX6_wipe_31 : decode cX6_wipe 31 = .ok (.iload_n 3, 1) := by decide +kernel
theorem dX6_wipe_32 : decode cX6_wipe 32 = .ok (.ireturn, 1) := by decide +kernel
theorem dX6_undo_0 : decode cX6_undo 0 = .ok (.iload_n 1, 1) := by decide +kernel
theorem dX6_undo_1 : decode cX6_undo 1 = .ok (.iconst 2, 1) := by decide +kernel
theorem dX6_undo_2 : decode cX6_undo 2 = .ok (.invokestatic 84, 3) := by decide +kernel
theorem dX6_undo_5 : decode cX6_undo 5 = .ok (.ifCond .eq 6, 3) := by decide +kernel
theorem dX6_undo_8 : decode cX6_undo 8 = .ok (.bipush (-2), 2) := by decide +kernel
theorem dX6_undo_10 : decode cX6_undo 10 = .ok (.ireturn, 1) := by decide +kernel
theorem dX6_undo_11 : decode cX6_undo 11 = .ok (.aload_n 0, 1) := by decide +kernel
theorem dX6_undo_12 : decode cX6_undo 12 = .ok (.iload_n 1, 1) := by decide +kernel
theorem dX6_undo_13 : decode cX6_undo 13 = .ok (.invokevirtual 88, 3) := by decide +kernel
theorem dX6_undo_16 : decode cX6_undo 16 = .ok (.astore_n 2, 1) := by decide +kernel
theorem dX6_undo_17 : decode cX6_undo 17 = .ok (.aload_n 2, 1) := by decide +kernel
theorem dX6_undo_18 : decode cX6_undo 18 = .ok (.getfield 92, 3) := by decide +kernel
theorem dX6_undo_21 : decode cX6_undo 21 = .ok (.ifCond .ne 6, 3) := by decide +kernel
theorem dX6_undo_24 : decode cX6_undo 24 = .ok (.bipush (-3), 2) := by decide +kernel
theorem dX6_undo_26 : decode cX6_undo 26 = .ok (.ireturn, 1) := by decide +kernel
theorem dX6_undo_27 : decode cX6_undo 27 = .ok (.aload_n 2, 1) := by decide +kernel
theorem dX6_undo_28 : decode cX6_undo 28 = .ok (.dup, 1) := by decide +kernel
theorem dX6_undo_29 : decode cX6_undo 29 = .ok (.getfield 92, 3) := by decide +kernel
theorem dX6_undo_32 : decode cX6_undo 32 = .ok (.iconst 1, 1) := by decide +kernel
theorem dX6_undo_33 : decode cX6_undo 33 = .ok (.isub, 1) := by decide +kernel
theorem dX6_undo_34 : decode cX6_undo 34 = .ok (.putfield 92, 3) := by decide +kernel
theorem dX6_undo_37 : decode cX6_undo 37 = .ok (.aload_n 0, 1) := by decide +kernel
theorem dX6_undo_38 : decode cX6_undo 38 = .ok (.invokevirtual 98, 3) := by decide +kernel
theorem dX6_undo_41 : decode cX6_undo 41 = .ok (.aload_n 2, 1) := by decide +kernel
theorem dX6_undo_42 : decode cX6_undo 42 = .ok (.getfield 92, 3) := by decide +kernel
theorem dX6_undo_45 : decode cX6_undo 45 = .ok (.ireturn, 1) := by decide +kernel
theorem dX6_fault_0 : decode cX6_fault 0 = .ok (.iload_n 1, 1) := by decide +kernel
theorem dX6_fault_1 : decode cX6_fault 1 = .ok (.iconst 2, 1) := by decide +kernel
theorem dX6_fault_2 : decode cX6_fault 2 = .ok (.invokestatic 84, 3) := by decide +kernel
theorem dX6_fault_5 : decode cX6_fault 5 = .ok (.ifCond .eq 8, 3) := by decide +kernel
theorem dX6_fault_8 : decode cX6_fault 8 = .ok (.bipush (-2), 2) := by decide +kernel
theorem dX6_fault_10 : decode cX6_fault 10 = .ok (.goto 11, 3) := by decide +kernel
theorem dX6_fault_13 : decode cX6_fault 13 = .ok (.aload_n 0, 1) := by decide +kernel
theorem dX6_fault_14 : decode cX6_fault 14 = .ok (.iload_n 1, 1) := by decide +kernel
theorem dX6_fault_15 : decode cX6_fault 15 = .ok (.invokevirtual 88, 3) := by decide +kernel
theorem dX6_fault_18 : decode cX6_fault 18 = .ok (.invokevirtual 101, 3) := by decide +kernel
theorem dX6_fault_21 : decode cX6_fault 21 = .ok (.ireturn, 1) := by decide +kernel
theorem dX6_tale_0 : decode cX6_tale 0 = .ok (.iload_n 1, 1) := by decide +kernel
theorem dX6_tale_1 : decode cX6_tale 1 = .ok (.aload_n 0, 1) := by decide +kernel
theorem dX6_tale_2 : decode cX6_tale 2 = .ok (.getfield 24, 3) := by decide +kernel
theorem dX6_tale_5 : decode cX6_tale 5 = .ok (.getfield 105, 3) := by decide +kernel
theorem dX6_tale_8 : decode cX6_tale 8 = .ok (.invokestatic 84, 3) := by decide +kernel
theorem dX6_tale_11 : decode cX6_tale 11 = .ok (.ifCond .eq 6, 3) := by decide +kernel
theorem dX6_tale_14 : decode cX6_tale 14 = .ok (.bipush (-2), 2) := by decide +kernel
theorem dX6_tale_16 : decode cX6_tale 16 = .ok (.ireturn, 1) := by decide +kernel
theorem dX6_tale_17 : decode cX6_tale 17 = .ok (.iload_n 2, 1) := by decide +kernel
theorem dX6_tale_18 : decode cX6_tale 18 = .ok (.tableswitch 70 0 3 #[30, 40, 50, 60], 30) := by decide +kernel
theorem dX6_tale_48 : decode cX6_tale 48 = .ok (.aload_n 0, 1) := by decide +kernel
theorem dX6_tale_49 : decode cX6_tale 49 = .ok (.getfield 24, 3) := by decide +kernel
theorem dX6_tale_52 : decode cX6_tale 52 = .ok (.getfield 106, 3) := by decide +kernel
theorem dX6_tale_55 : decode cX6_tale 55 = .ok (.iload_n 1, 1) := by decide +kernel
theorem dX6_tale_56 : decode cX6_tale 56 = .ok (.iaload, 1) := by decide +kernel
theorem dX6_tale_57 : decode cX6_tale 57 = .ok (.ireturn, 1) := by decide +kernel
theorem dX6_tale_58 : decode cX6_tale 58 = .ok (.aload_n 0, 1) := by decide +kernel
theorem dX6_tale_59 : decode cX6_tale 59 = .ok (.getfield 24, 3) := by decide +kernel
theorem dX6_tale_62 : decode cX6_tale 62 = .ok (.getfield 109, 3) := by decide +kernel
theorem dX6_tale_65 : decode cX6_tale 65 = .ok (.iload_n 1, 1) := by decide +kernel
theorem dX6_tale_66 : decode cX6_tale 66 = .ok (.iaload, 1) := by decide +kernel
theorem dX6_tale_67 : decode cX6_tale 67 = .ok (.ireturn, 1) := by decide +kernel
theorem dX6_tale_68 : decode cX6_tale 68 = .ok (.aload_n 0, 1) := by decide +kernel
theorem dX6_tale_69 : decode cX6_tale 69 = .ok (.getfield 24, 3) := by decide +kernel
theorem dX6_tale_72 : decode cX6_tale 72 = .ok (.getfield 112, 3) := by decide +kernel
theorem dX6_tale_75 : decode cX6_tale 75 = .ok (.iload_n 1, 1) := by decide +kernel
theorem dX6_tale_76 : decode cX6_tale 76 = .ok (.iaload, 1) := by decide +kernel
theorem dX6_tale_77 : decode cX6_tale 77 = .ok (.ireturn, 1) := by decide +kernel
theorem dX6_tale_78 : decode cX6_tale 78 = .ok (.aload_n 0, 1) := by decide +kernel
theorem dX6_tale_79 : decode cX6_tale 79 = .ok (.getfield 24, 3) := by decide +kernel
theorem dX6_tale_82 : decode cX6_tale 82 = .ok (.getfield 115, 3) := by decide +kernel
theorem dX6_tale_85 : decode cX6_tale 85 = .ok (.iload_n 1, 1) := by decide +kernel
theorem dX6_tale_86 : decode cX6_tale 86 = .ok (.iaload, 1) := by decide +kernel
theorem dX6_tale_87 : decode cX6_tale 87 = .ok (.ireturn, 1) := by decide +kernel
theorem dX6_tale_88 : decode cX6_tale 88 = .ok (.bipush (-2), 2) := by decide +kernel
theorem dX6_tale_90 : decode cX6_tale 90 = .ok (.ireturn, 1) := by decide +kernel
theorem dX6_charge_0 : decode cX6_charge 0 = .ok (.iload_n 1, 1) := by decide +kernel
theorem dX6_charge_1 : decode cX6_charge 1 = .ok (.aload_n 0, 1) := by decide +kernel
theorem dX6_charge_2 : decode cX6_charge 2 = .ok (.getfield 34, 3) := by decide +kernel
theorem dX6_charge_5 : decode cX6_charge 5 = .ok (.getfield 118, 3) := by decide +kernel
theorem dX6_charge_8 : decode cX6_charge 8 = .ok (.invokestatic 84, 3) := by decide +kernel
theorem dX6_charge_11 : decode cX6_charge 11 = .ok (.ifCond .ne 11, 3) := by decide +kernel
theorem dX6_charge_14 : decode cX6_charge 14 = .ok (.iload_n 2, 1) := by decide +kernel
theorem dX6_charge_15 : decode cX6_charge 15 = .ok (.iconst 2, 1) := by decide +kernel
theorem dX6_charge_16 : decode cX6_charge 16 = .ok (.invokestatic 84, 3) := by decide +kernel
theorem dX6_charge_19 : decode cX6_charge 19 = .ok (.ifCond .eq 6, 3) := by decide +kernel
theorem dX6_charge_22 : decode cX6_charge 22 = .ok (.bipush (-2), 2) := by decide +kernel
theorem dX6_charge_24 : decode cX6_charge 24 = .ok (.ireturn, 1) := by decide +kernel
theorem dX6_charge_25 : decode cX6_charge 25 = .ok (.iload_n 2, 1) := by decide +kernel
theorem dX6_charge_26 : decode cX6_charge 26 = .ok (.ifCond .ne 15, 3) := by decide +kernel
theorem dX6_charge_29 : decode cX6_charge 29 = .ok (.aload_n 0, 1) := by decide +kernel
theorem dX6_charge_30 : decode cX6_charge 30 = .ok (.getfield 34, 3) := by decide +kernel
theorem dX6_charge_33 : decode cX6_charge 33 = .ok (.getfield 119, 3) := by decide +kernel
theorem dX6_charge_36 : decode cX6_charge 36 = .ok (.iload_n 1, 1) := by decide +kernel
theorem dX6_charge_37 : decode cX6_charge 37 = .ok (.iaload, 1) := by decide +kernel
theorem dX6_charge_38 : decode cX6_charge 38 = .ok (.goto 12, 3) := by decide +kernel
theorem dX6_charge_41 : decode cX6_charge 41 = .ok (.aload_n 0, 1) := by decide +kernel
theorem dX6_charge_42 : decode cX6_charge 42 = .ok (.getfield 34, 3) := by decide +kernel
theorem dX6_charge_45 : decode cX6_charge 45 = .ok (.getfield 120, 3) := by decide +kernel
theorem dX6_charge_48 : decode cX6_charge 48 = .ok (.iload_n 1, 1) := by decide +kernel
theorem dX6_charge_49 : decode cX6_charge 49 = .ok (.iaload, 1) := by decide +kernel
theorem dX6_charge_50 : decode cX6_charge 50 = .ok (.ireturn, 1) := by decide +kernel
theorem dX6_need_0 : decode cX6_need 0 = .ok (.iload_n 1, 1) := by decide +kernel
theorem dX6_need_1 : decode cX6_need 1 = .ok (.iconst 1, 1) := by decide +kernel
theorem dX6_need_2 : decode cX6_need 2 = .ok (.if_icmp .lt 9, 3) := by decide +kernel
theorem dX6_need_5 : decode cX6_need 5 = .ok (.iload_n 1, 1) := by decide +kernel
theorem dX6_need_6 : decode cX6_need 6 = .ok (.bipush 40, 2) := by decide +kernel
theorem dX6_need_8 : decode cX6_need 8 = .ok (.if_icmp .le 6, 3) := by decide +kernel
theorem dX6_need_11 : decode cX6_need 11 = .ok (.bipush (-2), 2) := by decide +kernel
theorem dX6_need_13 : decode cX6_need 13 = .ok (.ireturn, 1) := by decide +kernel
theorem dX6_need_14 : decode cX6_need 14 = .ok (.aload_n 0, 1) := by decide +kernel
theorem dX6_need_15 : decode cX6_need 15 = .ok (.getfield 74, 3) := by decide +kernel
theorem dX6_need_18 : decode cX6_need 18 = .ok (.istore_n 2, 1) := by decide +kernel
theorem dX6_need_19 : decode cX6_need 19 = .ok (.aload_n 0, 1) := by decide +kernel
theorem dX6_need_20 : decode cX6_need 20 = .ok (.iload_n 1, 1) := by decide +kernel
theorem dX6_need_21 : decode cX6_need 21 = .ok (.putfield 74, 3) := by decide +kernel
theorem dX6_need_24 : decode cX6_need 24 = .ok (.iload_n 2, 1) := by decide +kernel
theorem dX6_need_25 : decode cX6_need 25 = .ok (.ireturn, 1) := by decide +kernel
theorem dX6_event_0 : decode cX6_event 0 = .ok (.iload_n 1, 1) := by decide +kernel
theorem dX6_event_1 : decode cX6_event 1 = .ok (.iconst 3, 1) := by decide +kernel
theorem dX6_event_2 : decode cX6_event 2 = .ok (.invokestatic 84, 3) := by decide +kernel
theorem dX6_event_5 : decode cX6_event 5 = .ok (.ifCond .ne 21, 3) := by decide +kernel
theorem dX6_event_8 : decode cX6_event 8 = .ok (.iload_n 2, 1) := by decide +kernel
theorem dX6_event_9 : decode cX6_event 9 = .ok (.bipush 24, 2) := by decide +kernel
theorem dX6_event_11 : decode cX6_event 11 = .ok (.invokestatic 84, 3) := by decide +kernel
theorem dX6_event_14 : decode cX6_event 14 = .ok (.ifCond .ne 12, 3) := by decide +kernel
theorem dX6_event_17 : decode cX6_event 17 = .ok (.iload_n 3, 1) := by decide +kernel
theorem dX6_event_18 : decode cX6_event 18 = .ok (.bipush 10, 2) := by decide +kernel
theorem dX6_event_20 : decode cX6_event 20 = .ok (.invokestatic 84, 3) := by decide +kernel
theorem dX6_event_23 : decode cX6_event 23 = .ok (.ifCond .eq 6, 3) := by decide +kernel
theorem dX6_event_26 : decode cX6_event 26 = .ok (.bipush (-2), 2) := by decide +kernel
theorem dX6_event_28 : decode cX6_event 28 = .ok (.ireturn, 1) := by decide +kernel
theorem dX6_event_29 : decode cX6_event 29 = .ok (.aload_n 0, 1) := by decide +kernel
theorem dX6_event_30 : decode cX6_event 30 = .ok (.getfield 41, 3) := by decide +kernel
theorem dX6_event_33 : decode cX6_event 33 = .ok (.getfield 121, 3) := by decide +kernel
theorem dX6_event_36 : decode cX6_event 36 = .ok (.bipush 8, 2) := by decide +kernel
theorem dX6_event_38 : decode cX6_event 38 = .ok (.if_icmp .lt 6, 3) := by decide +kernel
theorem dX6_event_41 : decode cX6_event 41 = .ok (.bipush (-4), 2) := by decide +kernel
theorem dX6_event_43 : decode cX6_event 43 = .ok (.ireturn, 1) := by decide +kernel
theorem dX6_event_44 : decode cX6_event 44 = .ok (.aload_n 0, 1) := by decide +kernel
theorem dX6_event_45 : decode cX6_event 45 = .ok (.getfield 41, 3) := by decide +kernel
theorem dX6_event_48 : decode cX6_event 48 = .ok (.getfield 122, 3) := by decide +kernel
theorem dX6_event_51 : decode cX6_event 51 = .ok (.aload_n 0, 1) := by decide +kernel
theorem dX6_event_52 : decode cX6_event 52 = .ok (.getfield 41, 3) := by decide +kernel
theorem dX6_event_55 : decode cX6_event 55 = .ok (.getfield 121, 3) := by decide +kernel
theorem dX6_event_58 : decode cX6_event 58 = .ok (.iload_n 1, 1) := by decide +kernel
theorem dX6_event_59 : decode cX6_event 59 = .ok (.iastore, 1) := by decide +kernel
theorem dX6_event_60 : decode cX6_event 60 = .ok (.aload_n 0, 1) := by decide +kernel
theorem dX6_event_61 : decode cX6_event 61 = .ok (.getfield 41, 3) := by decide +kernel
theorem dX6_event_64 : decode cX6_event 64 = .ok (.getfield 125, 3) := by decide +kernel
theorem dX6_event_67 : decode cX6_event 67 = .ok (.aload_n 0, 1) := by decide +kernel
theorem dX6_event_68 : decode cX6_event 68 = .ok (.getfield 41, 3) := by decide +kernel
theorem dX6_event_71 : decode cX6_event 71 = .ok (.getfield 121, 3) := by decide +kernel
theorem dX6_event_74 : decode cX6_event 74 = .ok (.iload_n 2, 1) := by decide +kernel
theorem dX6_event_75 : decode cX6_event 75 = .ok (.iastore, 1) := by decide +kernel
theorem dX6_event_76 : decode cX6_event 76 = .ok (.aload_n 0, 1) := by decide +kernel
theorem dX6_event_77 : decode cX6_event 77 = .ok (.getfield 41, 3) := by decide +kernel
theorem dX6_event_80 : decode cX6_event 80 = .ok (.getfield 126, 3) := by decide +kernel
theorem dX6_event_83 : decode cX6_event 83 = .ok (.aload_n 0, 1) := by decide +kernel
theorem dX6_event_84 : decode cX6_event 84 = .ok (.getfield 41, 3) := by decide +kernel
theorem dX6_event_87 : decode cX6_event 87 = .ok (.getfield 121, 3) := by decide +kernel
theorem dX6_event_90 : decode cX6_event 90 = .ok (.iload_n 3, 1) := by decide +kernel
theorem dX6_event_91 : decode cX6_event 91 = .ok (.iastore, 1) := by decide +kernel
theorem dX6_event_92 : decode cX6_event 92 = .ok (.aload_n 0, 1) := by decide +kernel
theorem dX6_event_93 : decode cX6_event 93 = .ok (.getfield 41, 3) := by decide +kernel
theorem dX6_event_96 : decode cX6_event 96 = .ok (.dup, 1) := by decide +kernel
theorem dX6_event_97 : decode cX6_event 97 = .ok (.getfield 121, 3) := by decide +kernel
theorem dX6_event_100 : decode cX6_event 100 = .ok (.iconst 1, 1) := by decide +kernel
theorem dX6_event_101 : decode cX6_event 101 = .ok (.iadd, 1) := by decide +kernel
theorem dX6_event_102 : decode cX6_event 102 = .ok (.putfield 121, 3) := by decide +kernel
theorem dX6_event_105 : decode cX6_event 105 = .ok (.aload_n 0, 1) := by decide +kernel
theorem dX6_event_106 : decode cX6_event 106 = .ok (.getfield 41, 3) := by decide +kernel
theorem dX6_event_109 : decode cX6_event 109 = .ok (.getfield 121, 3) := by decide +kernel
theorem dX6_event_112 : decode cX6_event 112 = .ok (.ireturn, 1) := by decide +kernel
theorem dX6_back_0 : decode cX6_back 0 = .ok (.aload_n 0, 1) := by decide +kernel
theorem dX6_back_1 : decode cX6_back 1 = .ok (.getfield 41, 3) := by decide +kernel
theorem dX6_back_4 : decode cX6_back 4 = .ok (.getfield 121, 3) := by decide +kernel
theorem dX6_back_7 : decode cX6_back 7 = .ok (.ifCond .ne 6, 3) := by decide +kernel
theorem dX6_back_10 : decode cX6_back 10 = .ok (.bipush (-3), 2) := by decide +kernel
theorem dX6_back_12 : decode cX6_back 12 = .ok (.ireturn, 1) := by decide +kernel
theorem dX6_back_13 : decode cX6_back 13 = .ok (.aload_n 0, 1) := by decide +kernel
theorem dX6_back_14 : decode cX6_back 14 = .ok (.getfield 41, 3) := by decide +kernel
theorem dX6_back_17 : decode cX6_back 17 = .ok (.dup, 1) := by decide +kernel
theorem dX6_back_18 : decode cX6_back 18 = .ok (.getfield 121, 3) := by decide +kernel
theorem dX6_back_21 : decode cX6_back 21 = .ok (.iconst 1, 1) := by decide +kernel
theorem dX6_back_22 : decode cX6_back 22 = .ok (.isub, 1) := by decide +kernel
theorem dX6_back_23 : decode cX6_back 23 = .ok (.putfield 121, 3) := by decide +kernel
theorem dX6_back_26 : decode cX6_back 26 = .ok (.aload_n 0, 1) := by decide +kernel
theorem dX6_back_27 : decode cX6_back 27 = .ok (.getfield 41, 3) := by decide +kernel
theorem dX6_back_30 : decode cX6_back 30 = .ok (.getfield 121, 3) := by decide +kernel
theorem dX6_back_33 : decode cX6_back 33 = .ok (.ireturn, 1) := by decide +kernel
theorem dX6_read_0 : decode cX6_read 0 = .ok (.iload_n 1, 1) := by decide +kernel
theorem dX6_read_1 : decode cX6_read 1 = .ok (.iconst 4, 1) := by decide +kernel
theorem dX6_read_2 : decode cX6_read 2 = .ok (.invokestatic 84, 3) := by decide +kernel
theorem dX6_read_5 : decode cX6_read 5 = .ok (.ifCond .eq 6, 3) := by decide +kernel
theorem dX6_read_8 : decode cX6_read 8 = .ok (.bipush (-2), 2) := by decide +kernel
theorem dX6_read_10 : decode cX6_read 10 = .ok (.ireturn, 1) := by decide +kernel
theorem dX6_read_11 : decode cX6_read 11 = .ok (.aload_n 0, 1) := by decide +kernel
theorem dX6_read_12 : decode cX6_read 12 = .ok (.getfield 63, 3) := by decide +kernel
theorem dX6_read_15 : decode cX6_read 15 = .ok (.iload_n 1, 1) := by decide +kernel
theorem dX6_read_16 : decode cX6_read 16 = .ok (.aaload, 1) := by decide +kernel
theorem dX6_read_17 : decode cX6_read 17 = .ok (.astore_n 2, 1) := by decide +kernel
theorem dX6_read_18 : decode cX6_read 18 = .ok (.aload_n 2, 1) := by decide +kernel
theorem dX6_read_19 : decode cX6_read 19 = .ok (.ifnonnull 9, 3) := by decide +kernel
theorem dX6_read_22 : decode cX6_read 22 = .ok (.aload_n 0, 1) := by decide +kernel
theorem dX6_read_23 : decode cX6_read 23 = .ok (.iconst 1, 1) := by decide +kernel
theorem dX6_read_24 : decode cX6_read 24 = .ok (.invokevirtual 129, 3) := by decide +kernel
theorem dX6_read_27 : decode cX6_read 27 = .ok (.ireturn, 1) := by decide +kernel
theorem dX6_read_28 : decode cX6_read 28 = .ok (.iconst 0, 1) := by decide +kernel
theorem dX6_read_29 : decode cX6_read 29 = .ok (.istore_n 3, 1) := by decide +kernel
theorem dX6_read_30 : decode cX6_read 30 = .ok (.iconst 0, 1) := by decide +kernel
theorem dX6_read_31 : decode cX6_read 31 = .ok (.istore 4, 2) := by decide +kernel
theorem dX6_read_33 : decode cX6_read 33 = .ok (.iload 4, 2) := by decide +kernel
theorem dX6_read_35 : decode cX6_read 35 = .ok (.iconst 2, 1) := by decide +kernel
theorem dX6_read_36 : decode cX6_read 36 = .ok (.iadd, 1) := by decide +kernel
theorem dX6_read_37 : decode cX6_read 37 = .ok (.aload_n 2, 1) := by decide +kernel
theorem dX6_read_38 : decode cX6_read 38 = .ok (.getfield 133, 3) := by decide +kernel
theorem dX6_read_41 : decode cX6_read 41 = .ok (.arraylength, 1) := by decide +kernel
theorem dX6_read_42 : decode cX6_read 42 = .ok (.if_icmp .ge 47, 3) := by decide +kernel
theorem dX6_read_45 : decode cX6_read 45 = .ok (.aload_n 0, 1) := by decide +kernel
theorem dX6_read_46 : decode cX6_read 46 = .ok (.aload_n 2, 1) := by decide +kernel
theorem dX6_read_47 : decode cX6_read 47 = .ok (.getfield 133, 3) := by decide +kernel
theorem dX6_read_50 : decode cX6_read 50 = .ok (.iload 4, 2) := by decide +kernel
theorem dX6_read_52 : decode cX6_read 52 = .ok (.iaload, 1) := by decide +kernel
theorem dX6_read_53 : decode cX6_read 53 = .ok (.aload_n 2, 1) := by decide +kernel
theorem dX6_read_54 : decode cX6_read 54 = .ok (.getfield 133, 3) := by decide +kernel
theorem dX6_read_57 : decode cX6_read 57 = .ok (.iload 4, 2) := by decide +kernel
theorem dX6_read_59 : decode cX6_read 59 = .ok (.iconst 1, 1) := by decide +kernel
theorem dX6_read_60 : decode cX6_read 60 = .ok (.iadd, 1) := by decide +kernel
theorem dX6_read_61 : decode cX6_read 61 = .ok (.iaload, 1) := by decide +kernel
theorem dX6_read_62 : decode cX6_read 62 = .ok (.aload_n 2, 1) := by decide +kernel
theorem dX6_read_63 : decode cX6_read 63 = .ok (.getfield 133, 3) := by decide +kernel
theorem dX6_read_66 : decode cX6_read 66 = .ok (.iload 4, 2) := by decide +kernel
theorem dX6_read_68 : decode cX6_read 68 = .ok (.iconst 2, 1) := by decide +kernel
theorem dX6_read_69 : decode cX6_read 69 = .ok (.iadd, 1) := by decide +kernel
theorem dX6_read_70 : decode cX6_read 70 = .ok (.iaload, 1) := by decide +kernel
theorem dX6_read_71 : decode cX6_read 71 = .ok (.invokevirtual 136, 3) := by decide +kernel
theorem dX6_read_74 : decode cX6_read 74 = .ok (.ifCond .ge 6, 3) := by decide +kernel
theorem dX6_read_77 : decode cX6_read 77 = .ok (.goto 12, 3) := by decide +kernel
theorem dX6_read_80 : decode cX6_read 80 = .ok (.iinc 3 1, 3) := by decide +kernel
theorem dX6_read_83 : decode cX6_read 83 = .ok (.iinc 4 3, 3) := by decide +kernel
theorem dX6_read_86 : decode cX6_read 86 = .ok (.goto (-53), 3) := by decide +kernel
theorem dX6_read_89 : decode cX6_read 89 = .ok (.iload_n 3, 1) := by decide +kernel
theorem dX6_read_90 : decode cX6_read 90 = .ok (.ireturn, 1) := by decide +kernel
theorem dX6_clash_0 : decode cX6_clash 0 = .ok (.iload_n 1, 1) := by decide +kernel
theorem dX6_clash_1 : decode cX6_clash 1 = .ok (.aload_n 0, 1) := by decide +kernel
theorem dX6_clash_2 : decode cX6_clash 2 = .ok (.getfield 24, 3) := by decide +kernel
theorem dX6_clash_5 : decode cX6_clash 5 = .ok (.getfield 105, 3) := by decide +kernel
theorem dX6_clash_8 : decode cX6_clash 8 = .ok (.invokestatic 84, 3) := by decide +kernel
theorem dX6_clash_11 : decode cX6_clash 11 = .ok (.ifCond .ne 22, 3) := by decide +kernel
theorem dX6_clash_14 : decode cX6_clash 14 = .ok (.iload_n 2, 1) := by decide +kernel
theorem dX6_clash_15 : decode cX6_clash 15 = .ok (.aload_n 0, 1) := by decide +kernel
theorem dX6_clash_16 : decode cX6_clash 16 = .ok (.getfield 24, 3) := by decide +kernel
theorem dX6_clash_19 : decode cX6_clash 19 = .ok (.getfield 105, 3) := by decide +kernel
theorem dX6_clash_22 : decode cX6_clash 22 = .ok (.invokestatic 84, 3) := by decide +kernel
theorem dX6_clash_25 : decode cX6_clash 25 = .ok (.ifCond .ne 8, 3) := by decide +kernel
theorem dX6_clash_28 : decode cX6_clash 28 = .ok (.iload_n 1, 1) := by decide +kernel
theorem dX6_clash_29 : decode cX6_clash 29 = .ok (.iload_n 2, 1) := by decide +kernel
theorem dX6_clash_30 : decode cX6_clash 30 = .ok (.if_icmp .ne 6, 3) := by decide +kernel
theorem dX6_clash_33 : decode cX6_clash 33 = .ok (.bipush (-2), 2) := by decide +kernel
theorem dX6_clash_35 : decode cX6_clash 35 = .ok (.ireturn, 1) := by decide +kernel
theorem dX6_clash_36 : decode cX6_clash 36 = .ok (.aload_n 0, 1) := by decide +kernel
theorem dX6_clash_37 : decode cX6_clash 37 = .ok (.getfield 24, 3) := by decide +kernel
theorem dX6_clash_40 : decode cX6_clash 40 = .ok (.iload_n 1, 1) := by decide +kernel
theorem dX6_clash_41 : decode cX6_clash 41 = .ok (.iload_n 2, 1) := by decide +kernel
theorem dX6_clash_42 : decode cX6_clash 42 = .ok (.invokevirtual 140, 3) := by decide +kernel
theorem dX6_clash_45 : decode cX6_clash 45 = .ok (.ifCond .eq 7, 3) := by decide +kernel
theorem dX6_clash_48 : decode cX6_clash 48 = .ok (.iconst 1, 1) := by decide +kernel
theorem dX6_clash_49 : decode cX6_clash 49 = .ok (.goto 4, 3) := by decide +kernel
theorem dX6_clash_52 : decode cX6_clash 52 = .ok (.iconst 0, 1) := by decide +kernel
theorem dX6_clash_53 : decode cX6_clash 53 = .ok (.ireturn, 1) := by decide +kernel
theorem dX6_stands_0 : decode cX6_stands 0 = .ok (.iload_n 1, 1) := by decide +kernel
theorem dX6_stands_1 : decode cX6_stands 1 = .ok (.aload_n 0, 1) := by decide +kernel
theorem dX6_stands_2 : decode cX6_stands 2 = .ok (.getfield 24, 3) := by decide +kernel
theorem dX6_stands_5 : decode cX6_stands 5 = .ok (.getfield 105, 3) := by decide +kernel
theorem dX6_stands_8 : decode cX6_stands 8 = .ok (.invokestatic 84, 3) := by decide +kernel
theorem dX6_stands_11 : decode cX6_stands 11 = .ok (.ifCond .ne 11, 3) := by decide +kernel
theorem dX6_stands_14 : decode cX6_stands 14 = .ok (.iload_n 2, 1) := by decide +kernel
theorem dX6_stands_15 : decode cX6_stands 15 = .ok (.iconst 3, 1) := by decide +kernel
theorem dX6_stands_16 : decode cX6_stands 16 = .ok (.invokestatic 84, 3) := by decide +kernel
theorem dX6_stands_19 : decode cX6_stands 19 = .ok (.ifCond .eq 6, 3) := by decide +kernel
theorem dX6_stands_22 : decode cX6_stands 22 = .ok (.bipush (-2), 2) := by decide +kernel
theorem dX6_stands_24 : decode cX6_stands 24 = .ok (.ireturn, 1) := by decide +kernel
theorem dX6_stands_25 : decode cX6_stands 25 = .ok (.aload_n 0, 1) := by decide +kernel
theorem dX6_stands_26 : decode cX6_stands 26 = .ok (.invokevirtual 143, 3) := by decide +kernel
theorem dX6_stands_29 : decode cX6_stands 29 = .ok (.iload_n 2, 1) := by decide +kernel
theorem dX6_stands_30 : decode cX6_stands 30 = .ok (.ifCond .ne 21, 3) := by decide +kernel
theorem dX6_stands_33 : decode cX6_stands 33 = .ok (.aload_n 0, 1) := by decide +kernel
theorem dX6_stands_34 : decode cX6_stands 34 = .ok (.getfield 50, 3) := by decide +kernel
theorem dX6_stands_37 : decode cX6_stands 37 = .ok (.getfield 146, 3) := by decide +kernel
theorem dX6_stands_40 : decode cX6_stands 40 = .ok (.iload_n 1, 1) := by decide +kernel
theorem dX6_stands_41 : decode cX6_stands 41 = .ok (.baload, 1) := by decide +kernel
theorem dX6_stands_42 : decode cX6_stands 42 = .ok (.ifCond .eq 7, 3) := by decide +kernel
theorem dX6_stands_45 : decode cX6_stands 45 = .ok (.iconst 1, 1) := by decide +kernel
theorem dX6_stands_46 : decode cX6_stands 46 = .ok (.goto 4, 3) := by decide +kernel
theorem dX6_stands_49 : decode cX6_stands 49 = .ok (.iconst 0, 1) := by decide +kernel
theorem dX6_stands_50 : decode cX6_stands 50 = .ok (.ireturn, 1) := by decide +kernel
theorem dX6_stands_51 : decode cX6_stands 51 = .ok (.iload_n 2, 1) := by decide +kernel
theorem dX6_stands_52 : decode cX6_stands 52 = .ok (.iconst 1, 1) := by decide +kernel
theorem dX6_stands_53 : decode cX6_stands 53 = .ok (.if_icmp .ne 15, 3) := by decide +kernel
theorem dX6_stands_56 : decode cX6_stands 56 = .ok (.aload_n 0, 1) := by decide +kernel
theorem dX6_stands_57 : decode cX6_stands 57 = .ok (.getfield 50, 3) := by decide +kernel
theorem dX6_stands_60 : decode cX6_stands 60 = .ok (.getfield 150, 3) := by decide +kernel
theorem dX6_stands_63 : decode cX6_stands 63 = .ok (.iload_n 1, 1) := by decide +kernel
theorem dX6_stands_64 : decode cX6_stands 64 = .ok (.iaload, 1) := by decide +kernel
theorem dX6_stands_65 : decode cX6_stands 65 = .ok (.goto 11, 3) := by decide +kernel
theorem dX6_stands_68 : decode cX6_stands 68 = .ok (.aload_n 0, 1) := by decide +kernel
theorem dX6_stands_69 : decode cX6_stands 69 = .ok (.getfield 50, 3) := by decide +kernel
theorem dX6_stands_72 : decode cX6_stands 72 = .ok (.iload_n 1, 1) := by decide +kernel
theorem dX6_stands_73 : decode cX6_stands 73 = .ok (.invokevirtual 153, 3) := by decide +kernel
theorem dX6_stands_76 : decode cX6_stands 76 = .ok (.ireturn, 1) := by decide +kernel
theorem dX6_man_0 : decode cX6_man 0 = .ok (.iload_n 1, 1) := by decide +kernel
theorem dX6_man_1 : decode cX6_man 1 = .ok (.bipush 24, 2) := by decide +kernel
theorem dX6_man_3 : decode cX6_man 3 = .ok (.invokestatic 84, 3) := by decide +kernel
theorem dX6_man_6 : decode cX6_man 6 = .ok (.ifCond .ne 20, 3) := by decide +kernel
theorem dX6_man_9 : decode cX6_man 9 = .ok (.iload_n 2, 1) := by decide +kernel
theorem dX6_man_10 : decode cX6_man 10 = .ok (.bipush 8, 2) := by decide +kernel
theorem dX6_man_12 : decode cX6_man 12 = .ok (.invokestatic 84, 3) := by decide +kernel
theorem dX6_man_15 : decode cX6_man 15 = .ok (.ifCond .ne 11, 3) := by decide +kernel
theorem dX6_man_18 : decode cX6_man 18 = .ok (.iload_n 3, 1) := by decide +kernel
theorem dX6_man_19 : decode cX6_man 19 = .ok (.iconst 2, 1) := by decide +kernel
theorem dX6_man_20 : decode cX6_man 20 = .ok (.invokestatic 84, 3) := by decide +kernel
theorem dX6_man_23 : decode cX6_man 23 = .ok (.ifCond .eq 6, 3) := by decide +kernel
theorem dX6_man_26 : decode cX6_man 26 = .ok (.bipush (-2), 2) := by decide +kernel
theorem dX6_man_28 : decode cX6_man 28 = .ok (.ireturn, 1) := by decide +kernel
theorem dX6_man_29 : decode cX6_man 29 = .ok (.aload_n 0, 1) := by decide +kernel
theorem dX6_man_30 : decode cX6_man 30 = .ok (.invokevirtual 143, 3) := by decide +kernel
theorem dX6_man_33 : decode cX6_man 33 = .ok (.aload_n 0, 1) := by decide +kernel
theorem dX6_man_34 : decode cX6_man 34 = .ok (.getfield 50, 3) := by decide +kernel
theorem dX6_man_37 : decode cX6_man 37 = .ok (.iload_n 1, 1) := by decide +kernel
theorem dX6_man_38 : decode cX6_man 38 = .ok (.iload_n 2, 1) := by decide +kernel
theorem dX6_man_39 : decode cX6_man 39 = .ok (.invokevirtual 156, 3) := by decide +kernel
theorem dX6_man_42 : decode cX6_man 42 = .ok (.istore 4, 2) := by decide +kernel
theorem dX6_man_44 : decode cX6_man 44 = .ok (.iload_n 3, 1) := by decide +kernel
theorem dX6_man_45 : decode cX6_man 45 = .ok (.ifCond .ne 12, 3) := by decide +kernel
theorem dX6_man_48 : decode cX6_man 48 = .ok (.iconst 0, 1) := by decide +kernel
theorem dX6_man_49 : decode cX6_man 49 = .ok (.iload 4, 2) := by decide +kernel
theorem dX6_man_51 : decode cX6_man 51 = .ok (.invokestatic 160, 3) := by decide +kernel
theorem dX6_man_54 : decode cX6_man 54 = .ok (.goto 8, 3) := by decide +kernel
theorem dX6_man_57 : decode cX6_man 57 = .ok (.iload 4, 2) := by decide +kernel
theorem dX6_man_59 : decode cX6_man 59 = .ok (.invokestatic 165, 3) := by decide +kernel
theorem dX6_man_62 : decode cX6_man 62 = .ok (.ireturn, 1) := by decide +kernel
theorem dX6_belief_0 : decode cX6_belief 0 = .ok (.iload_n 1, 1) := by decide +kernel
theorem dX6_belief_1 : decode cX6_belief 1 = .ok (.aload_n 0, 1) := by decide +kernel
theorem dX6_belief_2 : decode cX6_belief 2 = .ok (.getfield 34, 3) := by decide +kernel
theorem dX6_belief_5 : decode cX6_belief 5 = .ok (.getfield 118, 3) := by decide +kernel
theorem dX6_belief_8 : decode cX6_belief 8 = .ok (.invokestatic 84, 3) := by decide +kernel
theorem dX6_belief_11 : decode cX6_belief 11 = .ok (.ifCond .eq 6, 3) := by decide +kernel
theorem dX6_belief_14 : decode cX6_belief 14 = .ok (.ldc 168, 2) := by decide +kernel
theorem dX6_belief_16 : decode cX6_belief 16 = .ok (.ireturn, 1) := by decide +kernel
theorem dX6_belief_17 : decode cX6_belief 17 = .ok (.aload_n 0, 1) := by decide +kernel
theorem dX6_belief_18 : decode cX6_belief 18 = .ok (.invokevirtual 143, 3) := by decide +kernel
theorem dX6_belief_21 : decode cX6_belief 21 = .ok (.aload_n 0, 1) := by decide +kernel
theorem dX6_belief_22 : decode cX6_belief 22 = .ok (.getfield 50, 3) := by decide +kernel
theorem dX6_belief_25 : decode cX6_belief 25 = .ok (.aload_n 0, 1) := by decide +kernel
theorem dX6_belief_26 : decode cX6_belief 26 = .ok (.getfield 34, 3) := by decide +kernel
theorem dX6_belief_29 : decode cX6_belief 29 = .ok (.getfield 119, 3) := by decide +kernel
theorem dX6_belief_32 : decode cX6_belief 32 = .ok (.iload_n 1, 1) := by decide +kernel
theorem dX6_belief_33 : decode cX6_belief 33 = .ok (.iaload, 1) := by decide +kernel
theorem dX6_belief_34 : decode cX6_belief 34 = .ok (.aload_n 0, 1) := by decide +kernel
theorem dX6_belief_35 : decode cX6_belief 35 = .ok (.getfield 34, 3) := by decide +kernel
theorem dX6_belief_38 : decode cX6_belief 38 = .ok (.getfield 120, 3) := by decide +kernel
theorem dX6_belief_41 : decode cX6_belief 41 = .ok (.iload_n 1, 1) := by decide +kernel
theorem dX6_belief_42 : decode cX6_belief 42 = .ok (.iaload, 1) := by decide +kernel
theorem dX6_belief_43 : decode cX6_belief 43 = .ok (.invokevirtual 169, 3) := by decide +kernel
theorem dX6_belief_46 : decode cX6_belief 46 = .ok (.ireturn, 1) := by decide +kernel
theorem dX6_cleared_0 : decode cX6_cleared 0 = .ok (.iload_n 1, 1) := by decide +kernel
theorem dX6_cleared_1 : decode cX6_cleared 1 = .ok (.aload_n 0, 1) := by decide +kernel
theorem dX6_cleared_2 : decode cX6_cleared 2 = .ok (.getfield 34, 3) := by decide +kernel
theorem dX6_cleared_5 : decode cX6_cleared 5 = .ok (.getfield 118, 3) := by decide +kernel
theorem dX6_cleared_8 : decode cX6_cleared 8 = .ok (.invokestatic 84, 3) := by decide +kernel
theorem dX6_cleared_11 : decode cX6_cleared 11 = .ok (.ifCond .ne 11, 3) := by decide +kernel
theorem dX6_cleared_14 : decode cX6_cleared 14 = .ok (.iload_n 2, 1) := by decide +kernel
theorem dX6_cleared_15 : decode cX6_cleared 15 = .ok (.iconst 2, 1) := by decide +kernel
theorem dX6_cleared_16 : decode cX6_cleared 16 = .ok (.invokestatic 84, 3) := by decide +kernel
theorem dX6_cleared_19 : decode cX6_cleared 19 = .ok (.ifCond .eq 6, 3) := by decide +kernel
theorem dX6_cleared_22 : decode cX6_cleared 22 = .ok (.bipush (-2), 2) := by decide +kernel
theorem dX6_cleared_24 : decode cX6_cleared 24 = .ok (.ireturn, 1) := by decide +kernel
theorem dX6_cleared_25 : decode cX6_cleared 25 = .ok (.aload_n 0, 1) := by decide +kernel
theorem dX6_cleared_26 : decode cX6_cleared 26 = .ok (.invokevirtual 143, 3) := by decide +kernel
theorem dX6_cleared_29 : decode cX6_cleared 29 = .ok (.aload_n 0, 1) := by decide +kernel
theorem dX6_cleared_30 : decode cX6_cleared 30 = .ok (.getfield 34, 3) := by decide +kernel
theorem dX6_cleared_33 : decode cX6_cleared 33 = .ok (.getfield 119, 3) := by decide +kernel
theorem dX6_cleared_36 : decode cX6_cleared 36 = .ok (.iload_n 1, 1) := by decide +kernel
theorem dX6_cleared_37 : decode cX6_cleared 37 = .ok (.iaload, 1) := by decide +kernel
theorem dX6_cleared_38 : decode cX6_cleared 38 = .ok (.istore_n 3, 1) := by decide +kernel
theorem dX6_cleared_39 : decode cX6_cleared 39 = .ok (.aload_n 0, 1) := by decide +kernel
theorem dX6_cleared_40 : decode cX6_cleared 40 = .ok (.getfield 34, 3) := by decide +kernel
theorem dX6_cleared_43 : decode cX6_cleared 43 = .ok (.getfield 120, 3) := by decide +kernel
theorem dX6_cleared_46 : decode cX6_cleared 46 = .ok (.iload_n 1, 1) := by decide +kernel
theorem dX6_cleared_47 : decode cX6_cleared 47 = .ok (.iaload, 1) := by decide +kernel
theorem dX6_cleared_48 : decode cX6_cleared 48 = .ok (.istore 4, 2) := by decide +kernel
theorem dX6_cleared_50 : decode cX6_cleared 50 = .ok (.iload_n 2, 1) := by decide +kernel
theorem dX6_cleared_51 : decode cX6_cleared 51 = .ok (.ifCond .ne 26, 3) := by decide +kernel
theorem dX6_cleared_54 : decode cX6_cleared 54 = .ok (.aload_n 0, 1) := by decide +kernel
theorem dX6_cleared_55 : decode cX6_cleared 55 = .ok (.getfield 50, 3) := by decide +kernel
theorem dX6_cleared_58 : decode cX6_cleared 58 = .ok (.iload_n 3, 1) := by decide +kernel
theorem dX6_cleared_59 : decode cX6_cleared 59 = .ok (.iload 4, 2) := by decide +kernel
theorem dX6_cleared_61 : decode cX6_cleared 61 = .ok (.invokevirtual 169, 3) := by decide +kernel
theorem dX6_cleared_64 : decode cX6_cleared 64 = .ok (.aload_n 0, 1) := by decide +kernel
theorem dX6_cleared_65 : decode cX6_cleared 65 = .ok (.getfield 74, 3) := by decide +kernel
theorem dX6_cleared_68 : decode cX6_cleared 68 = .ok (.if_icmp .lt 7, 3) := by decide +kernel
theorem dX6_cleared_71 : decode cX6_cleared 71 = .ok (.iconst 1, 1) := by decide +kernel
theorem dX6_cleared_72 : decode cX6_cleared 72 = .ok (.goto 4, 3) := by decide +kernel
theorem dX6_cleared_75 : decode cX6_cleared 75 = .ok (.iconst 0, 1) := by decide +kernel
theorem dX6_cleared_76 : decode cX6_cleared 76 = .ok (.ireturn, 1) := by decide +kernel
theorem dX6_cleared_77 : decode cX6_cleared 77 = .ok (.aload_n 0, 1) := by decide +kernel
theorem dX6_cleared_78 : decode cX6_cleared 78 = .ok (.getfield 50, 3) := by decide +kernel
theorem dX6_cleared_81 : decode cX6_cleared 81 = .ok (.iload_n 3, 1) := by decide +kernel
theorem dX6_cleared_82 : decode cX6_cleared 82 = .ok (.iload 4, 2) := by decide +kernel
theorem dX6_cleared_84 : decode cX6_cleared 84 = .ok (.invokevirtual 172, 3) := by decide +kernel
theorem dX6_cleared_87 : decode cX6_cleared 87 = .ok (.ireturn, 1) := by decide +kernel
theorem dX6_sum_0 : decode cX6_sum 0 = .ok (.iload_n 1, 1) := by decide +kernel
theorem dX6_sum_1 : decode cX6_sum 1 = .ok (.iconst 4, 1) := by decide +kernel
theorem dX6_sum_2 : decode cX6_sum 2 = .ok (.invokestatic 84, 3) := by decide +kernel
theorem dX6_sum_5 : decode cX6_sum 5 = .ok (.ifCond .eq 6, 3) := by decide +kernel
theorem dX6_sum_8 : decode cX6_sum 8 = .ok (.bipush (-2), 2) := by decide +kernel
theorem dX6_sum_10 : decode cX6_sum 10 = .ok (.ireturn, 1) := by decide +kernel
theorem dX6_sum_11 : decode cX6_sum 11 = .ok (.aload_n 0, 1) := by decide +kernel
theorem dX6_sum_12 : decode cX6_sum 12 = .ok (.aload_n 0, 1) := by decide +kernel
theorem dX6_sum_13 : decode cX6_sum 13 = .ok (.getfield 24, 3) := by decide +kernel
theorem dX6_sum_16 : decode cX6_sum 16 = .ok (.aload_n 0, 1) := by decide +kernel
theorem dX6_sum_17 : decode cX6_sum 17 = .ok (.getfield 41, 3) := by decide +kernel
theorem dX6_sum_20 : decode cX6_sum 20 = .ok (.invokevirtual 175, 3) := by decide +kernel
theorem dX6_sum_23 : decode cX6_sum 23 = .ok (.invokevirtual 178, 3) := by decide +kernel
theorem dX6_sum_26 : decode cX6_sum 26 = .ok (.istore_n 2, 1) := by decide +kernel
theorem dX6_sum_27 : decode cX6_sum 27 = .ok (.iload_n 1, 1) := by decide +kernel
theorem dX6_sum_28 : decode cX6_sum 28 = .ok (.tableswitch 50 0 2 #[28, 33, 41], 28) := by decide +kernel
theorem dX6_sum_56 : decode cX6_sum 56 = .ok (.iload_n 2, 1) := by decide +kernel
theorem dX6_sum_57 : decode cX6_sum 57 = .ok (.invokestatic 182, 3) := by decide +kernel
theorem dX6_sum_60 : decode cX6_sum 60 = .ok (.ireturn, 1) := by decide +kernel
theorem dX6_sum_61 : decode cX6_sum 61 = .ok (.aload_n 0, 1) := by decide +kernel
theorem dX6_sum_62 : decode cX6_sum 62 = .ok (.getfield 50, 3) := by decide +kernel
theorem dX6_sum_65 : decode cX6_sum 65 = .ok (.getfield 187, 3) := by decide +kernel
theorem dX6_sum_68 : decode cX6_sum 68 = .ok (.ireturn, 1) := by decide +kernel
theorem dX6_sum_69 : decode cX6_sum 69 = .ok (.aload_n 0, 1) := by decide +kernel
theorem dX6_sum_70 : decode cX6_sum 70 = .ok (.getfield 50, 3) := by decide +kernel
theorem dX6_sum_73 : decode cX6_sum 73 = .ok (.iconst 1, 1) := by decide +kernel
theorem dX6_sum_74 : decode cX6_sum 74 = .ok (.invokevirtual 190, 3) := by decide +kernel
theorem dX6_sum_77 : decode cX6_sum 77 = .ok (.ireturn, 1) := by decide +kernel
theorem dX6_sum_78 : decode cX6_sum 78 = .ok (.aload_n 0, 1) := by decide +kernel
theorem dX6_sum_79 : decode cX6_sum 79 = .ok (.getfield 50, 3) := by decide +kernel
theorem dX6_sum_82 : decode cX6_sum 82 = .ok (.iconst 3, 1) := by decide +kernel
theorem dX6_sum_83 : decode cX6_sum 83 = .ok (.invokevirtual 190, 3) := by decide +kernel
theorem dX6_sum_86 : decode cX6_sum 86 = .ok (.ireturn, 1) := by decide +kernel
theorem dX6_liar_0 : decode cX6_liar 0 = .ok (.aload_n 0, 1) := by decide +kernel
theorem dX6_liar_1 : decode cX6_liar 1 = .ok (.invokevirtual 143, 3) := by decide +kernel
theorem dX6_liar_4 : decode cX6_liar 4 = .ok (.iconst (-1), 1) := by decide +kernel
theorem dX6_liar_5 : decode cX6_liar 5 = .ok (.istore_n 1, 1) := by decide +kernel
theorem dX6_liar_6 : decode cX6_liar 6 = .ok (.iconst 0, 1) := by decide +kernel
theorem dX6_liar_7 : decode cX6_liar 7 = .ok (.istore_n 2, 1) := by decide +kernel
theorem dX6_liar_8 : decode cX6_liar 8 = .ok (.iconst 0, 1) := by decide +kernel
theorem dX6_liar_9 : decode cX6_liar 9 = .ok (.istore_n 3, 1) := by decide +kernel
theorem dX6_liar_10 : decode cX6_liar 10 = .ok (.iload_n 3, 1) := by decide +kernel
theorem dX6_liar_11 : decode cX6_liar 11 = .ok (.bipush 10, 2) := by decide +kernel
theorem dX6_liar_13 : decode cX6_liar 13 = .ok (.if_icmp .ge 30, 3) := by decide +kernel
theorem dX6_liar_16 : decode cX6_liar 16 = .ok (.aload_n 0, 1) := by decide +kernel
theorem dX6_liar_17 : decode cX6_liar 17 = .ok (.getfield 50, 3) := by decide +kernel
theorem dX6_liar_20 : decode cX6_liar 20 = .ok (.iload_n 3, 1) := by decide +kernel
theorem dX6_liar_21 : decode cX6_liar 21 = .ok (.invokevirtual 193, 3) := by decide +kernel
theorem dX6_liar_24 : decode cX6_liar 24 = .ok (.istore 4, 2) := by decide +kernel
theorem dX6_liar_26 : decode cX6_liar 26 = .ok (.iload 4, 2) := by decide +kernel
theorem dX6_liar_28 : decode cX6_liar 28 = .ok (.iload_n 2, 1) := by decide +kernel
theorem dX6_liar_29 : decode cX6_liar 29 = .ok (.if_icmp .le 8, 3) := by decide +kernel
theorem dX6_liar_32 : decode cX6_liar 32 = .ok (.iload_n 3, 1) := by decide +kernel
theorem dX6_liar_33 : decode cX6_liar 33 = .ok (.istore_n 1, 1) := by decide +kernel
theorem dX6_liar_34 : decode cX6_liar 34 = .ok (.iload 4, 2) := by decide +kernel
theorem dX6_liar_36 : decode cX6_liar 36 = .ok (.istore_n 2, 1) := by decide +kernel
theorem dX6_liar_37 : decode cX6_liar 37 = .ok (.iinc 3 1, 3) := by decide +kernel
theorem dX6_liar_40 : decode cX6_liar 40 = .ok (.goto (-30), 3) := by decide +kernel
theorem dX6_liar_43 : decode cX6_liar 43 = .ok (.iload_n 1, 1) := by decide +kernel
theorem dX6_liar_44 : decode cX6_liar 44 = .ok (.ireturn, 1) := by decide +kernel
theorem dX6_best_0 : decode cX6_best 0 = .ok (.aload_n 0, 1) := by decide +kernel
theorem dX6_best_1 : decode cX6_best 1 = .ok (.invokevirtual 143, 3) := by decide +kernel
theorem dX6_best_4 : decode cX6_best 4 = .ok (.iconst (-1), 1) := by decide +kernel
theorem dX6_best_5 : decode cX6_best 5 = .ok (.istore_n 1, 1) := by decide +kernel
theorem dX6_best_6 : decode cX6_best 6 = .ok (.iconst (-1), 1) := by decide +kernel
theorem dX6_best_7 : decode cX6_best 7 = .ok (.istore_n 2, 1) := by decide +kernel
theorem dX6_best_8 : decode cX6_best 8 = .ok (.iconst 0, 1) := by decide +kernel
theorem dX6_best_9 : decode cX6_best 9 = .ok (.istore_n 3, 1) := by decide +kernel
theorem dX6_best_10 : decode cX6_best 10 = .ok (.iload_n 3, 1) := by decide +kernel
theorem dX6_best_11 : decode cX6_best 11 = .ok (.bipush 8, 2) := by decide +kernel
theorem dX6_best_13 : decode cX6_best 13 = .ok (.if_icmp .ge 32, 3) := by decide +kernel
theorem dX6_best_16 : decode cX6_best 16 = .ok (.aload_n 0, 1) := by decide +kernel
theorem dX6_best_17 : decode cX6_best 17 = .ok (.getfield 50, 3) := by decide +kernel
theorem dX6_best_20 : decode cX6_best 20 = .ok (.bipush 23, 2) := by decide +kernel
theorem dX6_best_22 : decode cX6_best 22 = .ok (.iload_n 3, 1) := by decide +kernel
theorem dX6_best_23 : decode cX6_best 23 = .ok (.invokevirtual 156, 3) := by decide +kernel
theorem dX6_best_26 : decode cX6_best 26 = .ok (.istore 4, 2) := by decide +kernel
theorem dX6_best_28 : decode cX6_best 28 = .ok (.iload 4, 2) := by decide +kernel
theorem dX6_best_30 : decode cX6_best 30 = .ok (.iload_n 2, 1) := by decide +kernel
theorem dX6_best_31 : decode cX6_best 31 = .ok (.if_icmp .le 8, 3) := by decide +kernel
theorem dX6_best_34 : decode cX6_best 34 = .ok (.iload_n 3, 1) := by decide +kernel
theorem dX6_best_35 : decode cX6_best 35 = .ok (.istore_n 1, 1) := by decide +kernel
theorem dX6_best_36 : decode cX6_best 36 = .ok (.iload 4, 2) := by decide +kernel
theorem dX6_best_38 : decode cX6_best 38 = .ok (.istore_n 2, 1) := by decide +kernel
theorem dX6_best_39 : decode cX6_best 39 = .ok (.iinc 3 1, 3) := by decide +kernel
theorem dX6_best_42 : decode cX6_best 42 = .ok (.goto (-32), 3) := by decide +kernel
theorem dX6_best_45 : decode cX6_best 45 = .ok (.iload_n 1, 1) := by decide +kernel
theorem dX6_best_46 : decode cX6_best 46 = .ok (.ireturn, 1) := by decide +kernel
theorem dX6_where_0 : decode cX6_where 0 = .ok (.iload_n 1, 1) := by decide +kernel
theorem dX6_where_1 : decode cX6_where 1 = .ok (.bipush 24, 2) := by decide +kernel
theorem dX6_where_3 : decode cX6_where 3 = .ok (.invokestatic 84, 3) := by decide +kernel
theorem dX6_where_6 : decode cX6_where 6 = .ok (.ifCond .eq 6, 3) := by decide +kernel
theorem dX6_where_9 : decode cX6_where 9 = .ok (.bipush (-2), 2) := by decide +kernel
theorem dX6_where_11 : decode cX6_where 11 = .ok (.ireturn, 1) := by decide +kernel
theorem dX6_where_12 : decode cX6_where 12 = .ok (.aload_n 0, 1) := by decide +kernel
theorem dX6_where_13 : decode cX6_where 13 = .ok (.invokevirtual 143, 3) := by decide +kernel
theorem dX6_where_16 : decode cX6_where 16 = .ok (.aload_n 0, 1) := by decide +kernel
theorem dX6_where_17 : decode cX6_where 17 = .ok (.getfield 50, 3) := by decide +kernel
theorem dX6_where_20 : decode cX6_where 20 = .ok (.iconst 0, 1) := by decide +kernel
theorem dX6_where_21 : decode cX6_where 21 = .ok (.invokevirtual 196, 3) := by decide +kernel
theorem dX6_where_24 : decode cX6_where 24 = .ok (.istore_n 2, 1) := by decide +kernel
theorem dX6_where_25 : decode cX6_where 25 = .ok (.iconst 1, 1) := by decide +kernel
theorem dX6_where_26 : decode cX6_where 26 = .ok (.istore_n 3, 1) := by decide +kernel
theorem dX6_where_27 : decode cX6_where 27 = .ok (.iload_n 3, 1) := by decide +kernel
theorem dX6_where_28 : decode cX6_where 28 = .ok (.iload_n 1, 1) := by decide +kernel
theorem dX6_where_29 : decode cX6_where 29 = .ok (.if_icmp .gt 23, 3) := by decide +kernel
theorem dX6_where_32 : decode cX6_where 32 = .ok (.iload_n 2, 1) := by decide +kernel
theorem dX6_where_33 : decode cX6_where 33 = .ok (.invokestatic 199, 3) := by decide +kernel
theorem dX6_where_36 : decode cX6_where 36 = .ok (.aload_n 0, 1) := by decide +kernel
theorem dX6_where_37 : decode cX6_where 37 = .ok (.getfield 50, 3) := by decide +kernel
theorem dX6_where_40 : decode cX6_where 40 = .ok (.iload_n 3, 1) := by decide +kernel
theorem dX6_where_41 : decode cX6_where 41 = .ok (.invokevirtual 196, 3) := by decide +kernel
theorem dX6_where_44 : decode cX6_where 44 = .ok (.iand, 1) := by decide +kernel
theorem dX6_where_45 : decode cX6_where 45 = .ok (.istore_n 2, 1) := by decide +kernel
theorem dX6_where_46 : decode cX6_where 46 = .ok (.iinc 3 1, 3) := by decide +kernel
theorem dX6_where_49 : decode cX6_where 49 = .ok (.goto (-22), 3) := by decide +kernel
theorem dX6_where_52 : decode cX6_where 52 = .ok (.aload_n 0, 1) := by decide +kernel
theorem dX6_where_53 : decode cX6_where 53 = .ok (.getfield 50, 3) := by decide +kernel
theorem dX6_where_56 : decode cX6_where 56 = .ok (.bipush 23, 2) := by decide +kernel
theorem dX6_where_58 : decode cX6_where 58 = .ok (.invokevirtual 196, 3) := by decide +kernel
theorem dX6_where_61 : decode cX6_where 61 = .ok (.istore_n 3, 1) := by decide +kernel
theorem dX6_where_62 : decode cX6_where 62 = .ok (.bipush 22, 2) := by decide +kernel
theorem dX6_where_64 : decode cX6_where 64 = .ok (.istore 4, 2) := by decide +kernel
theorem dX6_where_66 : decode cX6_where 66 = .ok (.iload 4, 2) := by decide +kernel
theorem dX6_where_68 : decode cX6_where 68 = .ok (.iload_n 1, 1) := by decide +kernel
theorem dX6_where_69 : decode cX6_where 69 = .ok (.if_icmp .lt 24, 3) := by decide +kernel
theorem dX6_where_72 : decode cX6_where 72 = .ok (.iload_n 3, 1) := by decide +kernel
theorem dX6_where_73 : decode cX6_where 73 = .ok (.invokestatic 199, 3) := by decide +kernel
theorem dX6_where_76 : decode cX6_where 76 = .ok (.aload_n 0, 1) := by decide +kernel
theorem dX6_where_77 : decode cX6_where 77 = .ok (.getfield 50, 3) := by decide +kernel
theorem dX6_where_80 : decode cX6_where 80 = .ok (.iload 4, 2) := by decide +kernel
theorem dX6_where_82 : decode cX6_where 82 = .ok (.invokevirtual 196, 3) := by decide +kernel
theorem dX6_where_85 : decode cX6_where 85 = .ok (.iand, 1) := by decide +kernel
theorem dX6_where_86 : decode cX6_where 86 = .ok (.istore_n 3, 1) := by decide +kernel
theorem dX6_where_87 : decode cX6_where 87 = .ok (.iinc 4 (-1), 3) := by decide +kernel
theorem dX6_where_90 : decode cX6_where 90 = .ok (.goto (-24), 3) := by decide +kernel
theorem dX6_where_93 : decode cX6_where 93 = .ok (.iload_n 2, 1) := by decide +kernel
theorem dX6_where_94 : decode cX6_where 94 = .ok (.iload_n 3, 1) := by decide +kernel
theorem dX6_where_95 : decode cX6_where 95 = .ok (.iand, 1) := by decide +kernel
theorem dX6_where_96 : decode cX6_where 96 = .ok (.ireturn, 1) := by decide +kernel
theorem dX6_move_0 : decode cX6_move 0 = .ok (.iload_n 1, 1) := by decide +kernel
theorem dX6_move_1 : decode cX6_move 1 = .ok (.aload_n 0, 1) := by decide +kernel
theorem dX6_move_2 : decode cX6_move 2 = .ok (.getfield 24, 3) := by decide +kernel
theorem dX6_move_5 : decode cX6_move 5 = .ok (.getfield 105, 3) := by decide +kernel
theorem dX6_move_8 : decode cX6_move 8 = .ok (.invokestatic 84, 3) := by decide +kernel
theorem dX6_move_11 : decode cX6_move 11 = .ok (.ifCond .ne 11, 3) := by decide +kernel
theorem dX6_move_14 : decode cX6_move 14 = .ok (.iload_n 2, 1) := by decide +kernel
theorem dX6_move_15 : decode cX6_move 15 = .ok (.iconst 2, 1) := by decide +kernel
theorem dX6_move_16 : decode cX6_move 16 = .ok (.invokestatic 84, 3) := by decide +kernel
theorem dX6_move_19 : decode cX6_move 19 = .ok (.ifCond .eq 6, 3) := by decide +kernel
theorem dX6_move_22 : decode cX6_move 22 = .ok (.bipush (-2), 2) := by decide +kernel
theorem dX6_move_24 : decode cX6_move 24 = .ok (.ireturn, 1) := by decide +kernel
theorem dX6_move_25 : decode cX6_move 25 = .ok (.aload_n 0, 1) := by decide +kernel
theorem dX6_move_26 : decode cX6_move 26 = .ok (.getfield 28, 3) := by decide +kernel
theorem dX6_move_29 : decode cX6_move 29 = .ok (.aload_n 0, 1) := by decide +kernel
theorem dX6_move_30 : decode cX6_move 30 = .ok (.getfield 24, 3) := by decide +kernel
theorem dX6_move_33 : decode cX6_move 33 = .ok (.invokevirtual 202, 3) := by decide +kernel
theorem dX6_move_36 : decode cX6_move 36 = .ok (.iconst (-1), 1) := by decide +kernel
theorem dX6_move_37 : decode cX6_move 37 = .ok (.istore_n 3, 1) := by decide +kernel
theorem dX6_move_38 : decode cX6_move 38 = .ok (.iconst (-1), 1) := by decide +kernel
theorem dX6_move_39 : decode cX6_move 39 = .ok (.istore 4, 2) := by decide +kernel
theorem dX6_move_41 : decode cX6_move 41 = .ok (.iconst 0, 1) := by decide +kernel
theorem dX6_move_42 : decode cX6_move 42 = .ok (.istore 5, 2) := by decide +kernel
theorem dX6_move_44 : decode cX6_move 44 = .ok (.iload 5, 2) := by decide +kernel
theorem dX6_move_46 : decode cX6_move 46 = .ok (.bipush 8, 2) := by decide +kernel
theorem dX6_move_48 : decode cX6_move 48 = .ok (.if_icmp .ge 54, 3) := by decide +kernel
theorem dX6_move_51 : decode cX6_move 51 = .ok (.aload_n 0, 1) := by decide +kernel
theorem dX6_move_52 : decode cX6_move 52 = .ok (.getfield 28, 3) := by decide +kernel
theorem dX6_move_55 : decode cX6_move 55 = .ok (.getfield 109, 3) := by decide +kernel
theorem dX6_move_58 : decode cX6_move 58 = .ok (.iload_n 1, 1) := by decide +kernel
theorem dX6_move_59 : decode cX6_move 59 = .ok (.iload 5, 2) := by decide +kernel
theorem dX6_move_61 : decode cX6_move 61 = .ok (.iastore, 1) := by decide +kernel
theorem dX6_move_62 : decode cX6_move 62 = .ok (.aload_n 0, 1) := by decide +kernel
theorem dX6_move_63 : decode cX6_move 63 = .ok (.aload_n 0, 1) := by decide +kernel
theorem dX6_move_64 : decode cX6_move 64 = .ok (.getfield 28, 3) := by decide +kernel
theorem dX6_move_67 : decode cX6_move 67 = .ok (.aload_n 0, 1) := by decide +kernel
theorem dX6_move_68 : decode cX6_move 68 = .ok (.getfield 41, 3) := by decide +kernel
theorem dX6_move_71 : decode cX6_move 71 = .ok (.invokevirtual 175, 3) := by decide +kernel
theorem dX6_move_74 : decode cX6_move 74 = .ok (.invokevirtual 178, 3) := by decide +kernel
theorem dX6_move_77 : decode cX6_move 77 = .ok (.invokestatic 182, 3) := by decide +kernel
theorem dX6_move_80 : decode cX6_move 80 = .ok (.istore 6, 2) := by decide +kernel
theorem dX6_move_82 : decode cX6_move 82 = .ok (.iload 6, 2) := by decide +kernel
theorem dX6_move_84 : decode cX6_move 84 = .ok (.iload 4, 2) := by decide +kernel
theorem dX6_move_86 : decode cX6_move 86 = .ok (.if_icmp .le 10, 3) := by decide +kernel
theorem dX6_move_89 : decode cX6_move 89 = .ok (.iload 5, 2) := by decide +kernel
theorem dX6_move_91 : decode cX6_move 91 = .ok (.istore_n 3, 1) := by decide +kernel
theorem dX6_move_92 : decode cX6_move 92 = .ok (.iload 6, 2) := by decide +kernel
theorem dX6_move_94 : decode cX6_move 94 = .ok (.istore 4, 2) := by decide +kernel
theorem dX6_move_96 : decode cX6_move 96 = .ok (.iinc 5 1, 3) := by decide +kernel
theorem dX6_move_99 : decode cX6_move 99 = .ok (.goto (-55), 3) := by decide +kernel
theorem dX6_move_102 : decode cX6_move 102 = .ok (.iload_n 2, 1) := by decide +kernel
theorem dX6_move_103 : decode cX6_move 103 = .ok (.ifCond .ne 7, 3) := by decide +kernel
theorem dX6_move_106 : decode cX6_move 106 = .ok (.iload_n 3, 1) := by decide +kernel
theorem dX6_move_107 : decode cX6_move 107 = .ok (.goto 5, 3) := by decide +kernel
theorem dX6_move_110 : decode cX6_move 110 = .ok (.iload 4, 2) := by decide +kernel
theorem dX6_move_112 : decode cX6_move 112 = .ok (.ireturn, 1) := by decide +kernel
theorem dX6_drop_0 : decode cX6_drop 0 = .ok (.iload_n 1, 1) := by decide +kernel
theorem dX6_drop_1 : decode cX6_drop 1 = .ok (.iconst 2, 1) := by decide +kernel
theorem dX6_drop_2 : decode cX6_drop 2 = .ok (.invokestatic 84, 3) := by decide +kernel
theorem dX6_drop_5 : decode cX6_drop 5 = .ok (.ifCond .eq 6, 3) := by decide +kernel
theorem dX6_drop_8 : decode cX6_drop 8 = .ok (.bipush (-2), 2) := by decide +kernel
theorem dX6_drop_10 : decode cX6_drop 10 = .ok (.ireturn, 1) := by decide +kernel
theorem dX6_drop_11 : decode cX6_drop 11 = .ok (.iconst (-1), 1) := by decide +kernel
theorem dX6_drop_12 : decode cX6_drop 12 = .ok (.istore_n 2, 1) := by decide +kernel
theorem dX6_drop_13 : decode cX6_drop 13 = .ok (.iconst (-1), 1) := by decide +kernel
theorem dX6_drop_14 : decode cX6_drop 14 = .ok (.istore_n 3, 1) := by decide +kernel
theorem dX6_drop_15 : decode cX6_drop 15 = .ok (.iconst 0, 1) := by decide +kernel
theorem dX6_drop_16 : decode cX6_drop 16 = .ok (.istore 4, 2) := by decide +kernel
theorem dX6_drop_18 : decode cX6_drop 18 = .ok (.iload 4, 2) := by decide +kernel
theorem dX6_drop_20 : decode cX6_drop 20 = .ok (.aload_n 0, 1) := by decide +kernel
theorem dX6_drop_21 : decode cX6_drop 21 = .ok (.getfield 24, 3) := by decide +kernel
theorem dX6_drop_24 : decode cX6_drop 24 = .ok (.getfield 105, 3) := by decide +kernel
theorem dX6_drop_27 : decode cX6_drop 27 = .ok (.if_icmp .ge 61, 3) := by decide +kernel
theorem dX6_drop_30 : decode cX6_drop 30 = .ok (.aload_n 0, 1) := by decide +kernel
theorem dX6_drop_31 : decode cX6_drop 31 = .ok (.getfield 28, 3) := by decide +kernel
theorem dX6_drop_34 : decode cX6_drop 34 = .ok (.aload_n 0, 1) := by decide +kernel
theorem dX6_drop_35 : decode cX6_drop 35 = .ok (.getfield 24, 3) := by decide +kernel
theorem dX6_drop_38 : decode cX6_drop 38 = .ok (.invokevirtual 202, 3) := by decide +kernel
theorem dX6_drop_41 : decode cX6_drop 41 = .ok (.aload_n 0, 1) := by decide +kernel
theorem dX6_drop_42 : decode cX6_drop 42 = .ok (.getfield 28, 3) := by decide +kernel
theorem dX6_drop_45 : decode cX6_drop 45 = .ok (.iload 4, 2) := by decide +kernel
theorem dX6_drop_47 : decode cX6_drop 47 = .ok (.invokevirtual 206, 3) := by decide +kernel
theorem dX6_drop_50 : decode cX6_drop 50 = .ok (.aload_n 0, 1) := by decide +kernel
theorem dX6_drop_51 : decode cX6_drop 51 = .ok (.aload_n 0, 1) := by decide +kernel
theorem dX6_drop_52 : decode cX6_drop 52 = .ok (.getfield 28, 3) := by decide +kernel
theorem dX6_drop_55 : decode cX6_drop 55 = .ok (.aload_n 0, 1) := by decide +kernel
theorem dX6_drop_56 : decode cX6_drop 56 = .ok (.getfield 41, 3) := by decide +kernel
theorem dX6_drop_59 : decode cX6_drop 59 = .ok (.invokevirtual 175, 3) := by decide +kernel
theorem dX6_drop_62 : decode cX6_drop 62 = .ok (.invokevirtual 178, 3) := by decide +kernel
theorem dX6_drop_65 : decode cX6_drop 65 = .ok (.invokestatic 182, 3) := by decide +kernel
theorem dX6_drop_68 : decode cX6_drop 68 = .ok (.istore 5, 2) := by decide +kernel
theorem dX6_drop_70 : decode cX6_drop 70 = .ok (.iload 5, 2) := by decide +kernel
theorem dX6_drop_72 : decode cX6_drop 72 = .ok (.iload_n 3, 1) := by decide +kernel
theorem dX6_drop_73 : decode cX6_drop 73 = .ok (.if_icmp .le 9, 3) := by decide +kernel
theorem dX6_drop_76 : decode cX6_drop 76 = .ok (.iload 4, 2) := by decide +kernel
theorem dX6_drop_78 : decode cX6_drop 78 = .ok (.istore_n 2, 1) := by decide +kernel
theorem dX6_drop_79 : decode cX6_drop 79 = .ok (.iload 5, 2) := by decide +kernel
theorem dX6_drop_81 : decode cX6_drop 81 = .ok (.istore_n 3, 1) := by decide +kernel
theorem dX6_drop_82 : decode cX6_drop 82 = .ok (.iinc 4 1, 3) := by decide +kernel
theorem dX6_drop_85 : decode cX6_drop 85 = .ok (.goto (-67), 3) := by decide +kernel
theorem dX6_drop_88 : decode cX6_drop 88 = .ok (.iload_n 1, 1) := by decide +kernel
theorem dX6_drop_89 : decode cX6_drop 89 = .ok (.ifCond .ne 7, 3) := by decide +kernel
theorem dX6_drop_92 : decode cX6_drop 92 = .ok (.iload_n 2, 1) := by decide +kernel
theorem dX6_drop_93 : decode cX6_drop 93 = .ok (.goto 4, 3) := by decide +kernel
theorem dX6_drop_96 : decode cX6_drop 96 = .ok (.iload_n 3, 1) := by decide +kernel
theorem dX6_drop_97 : decode cX6_drop 97 = .ok (.ireturn, 1) := by decide +kernel
theorem dX6_clean_0 : decode cX6_clean 0 = .ok (.iload_n 1, 1) := by decide +kernel
theorem dX6_clean_1 : decode cX6_clean 1 = .ok (.iconst 2, 1) := by decide +kernel
theorem dX6_clean_2 : decode cX6_clean 2 = .ok (.invokestatic 84, 3) := by decide +kernel
theorem dX6_clean_5 : decode cX6_clean 5 = .ok (.ifCond .eq 6, 3) := by decide +kernel
theorem dX6_clean_8 : decode cX6_clean 8 = .ok (.bipush (-2), 2) := by decide +kernel
theorem dX6_clean_10 : decode cX6_clean 10 = .ok (.ireturn, 1) := by decide +kernel
theorem dX6_clean_11 : decode cX6_clean 11 = .ok (.iconst 0, 1) := by decide +kernel
theorem dX6_clean_12 : decode cX6_clean 12 = .ok (.istore_n 2, 1) := by decide +kernel
theorem dX6_clean_13 : decode cX6_clean 13 = .ok (.iconst 1, 1) := by decide +kernel
theorem dX6_clean_14 : decode cX6_clean 14 = .ok (.istore_n 3, 1) := by decide +kernel
theorem dX6_clean_15 : decode cX6_clean 15 = .ok (.iload_n 3, 1) := by decide +kernel
theorem dX6_clean_16 : decode cX6_clean 16 = .ok (.iconst 1, 1) := by decide +kernel
theorem dX6_clean_17 : decode cX6_clean 17 = .ok (.aload_n 0, 1) := by decide +kernel
theorem dX6_clean_18 : decode cX6_clean 18 = .ok (.getfield 24, 3) := by decide +kernel
theorem dX6_clean_21 : decode cX6_clean 21 = .ok (.getfield 105, 3) := by decide +kernel
theorem dX6_clean_24 : decode cX6_clean 24 = .ok (.ishl, 1) := by decide +kernel
theorem dX6_clean_25 : decode cX6_clean 25 = .ok (.if_icmp .ge 33, 3) := by decide +kernel
theorem dX6_clean_28 : decode cX6_clean 28 = .ok (.iload_n 3, 1) := by decide +kernel
theorem dX6_clean_29 : decode cX6_clean 29 = .ok (.invokestatic 182, 3) := by decide +kernel
theorem dX6_clean_32 : decode cX6_clean 32 = .ok (.iload_n 2, 1) := by decide +kernel
theorem dX6_clean_33 : decode cX6_clean 33 = .ok (.invokestatic 182, 3) := by decide +kernel
theorem dX6_clean_36 : decode cX6_clean 36 = .ok (.if_icmp .le 16, 3) := by decide +kernel
theorem dX6_clean_39 : decode cX6_clean 39 = .ok (.aload_n 0, 1) := by decide +kernel
theorem dX6_clean_40 : decode cX6_clean 40 = .ok (.getfield 24, 3) := by decide +kernel
theorem dX6_clean_43 : decode cX6_clean 43 = .ok (.iload_n 3, 1) := by decide +kernel
theorem dX6_clean_44 : decode cX6_clean 44 = .ok (.invokevirtual 210, 3) := by decide +kernel
theorem dX6_clean_47 : decode cX6_clean 47 = .ok (.ifCond .eq 5, 3) := by decide +kernel
theorem dX6_clean_50 : decode cX6_clean 50 = .ok (.iload_n 3, 1) := by decide +kernel
theorem dX6_clean_51 : decode cX6_clean 51 = .ok (.istore_n 2, 1) := by decide +kernel
theorem dX6_clean_52 : decode cX6_clean 52 = .ok (.iinc 3 1, 3) := by decide +kernel
theorem dX6_clean_55 : decode cX6_clean 55 = .ok (.goto (-40), 3) := by decide +kernel
theorem dX6_clean_58 : decode cX6_clean 58 = .ok (.iload_n 1, 1) := by decide +kernel
theorem dX6_clean_59 : decode cX6_clean 59 = .ok (.ifCond .ne 10, 3) := by decide +kernel
theorem dX6_clean_62 : decode cX6_clean 62 = .ok (.iload_n 2, 1) := by decide +kernel
theorem dX6_clean_63 : decode cX6_clean 63 = .ok (.invokestatic 182, 3) := by decide +kernel
theorem dX6_clean_66 : decode cX6_clean 66 = .ok (.goto 4, 3) := by decide +kernel
theorem dX6_clean_69 : decode cX6_clean 69 = .ok (.iload_n 2, 1) := by decide +kernel
theorem dX6_clean_70 : decode cX6_clean 70 = .ok (.ireturn, 1) := by decide +kernel
theorem dX6_spare_0 : decode cX6_spare 0 = .ok (.iload_n 1, 1) := by decide +kernel
theorem dX6_spare_1 : decode cX6_spare 1 = .ok (.iconst (-1), 1) := by decide +kernel
theorem dX6_spare_2 : decode cX6_spare 2 = .ok (.if_icmp .eq 14, 3) := by decide +kernel
theorem dX6_spare_5 : decode cX6_spare 5 = .ok (.iload_n 1, 1) := by decide +kernel
theorem dX6_spare_6 : decode cX6_spare 6 = .ok (.iconst 2, 1) := by decide +kernel
theorem dX6_spare_7 : decode cX6_spare 7 = .ok (.invokestatic 84, 3) := by decide +kernel
theorem dX6_spare_10 : decode cX6_spare 10 = .ok (.ifCond .eq 6, 3) := by decide +kernel
theorem dX6_spare_13 : decode cX6_spare 13 = .ok (.bipush (-2), 2) := by decide +kernel
theorem dX6_spare_15 : decode cX6_spare 15 = .ok (.ireturn, 1) := by decide +kernel
theorem dX6_spare_16 : decode cX6_spare 16 = .ok (.aload_n 0, 1) := by decide +kernel
theorem dX6_spare_17 : decode cX6_spare 17 = .ok (.invokevirtual 214, 3) := by decide +kernel
theorem dX6_spare_20 : decode cX6_spare 20 = .ok (.istore_n 2, 1) := by decide +kernel
theorem dX6_spare_21 : decode cX6_spare 21 = .ok (.iload_n 2, 1) := by decide +kernel
theorem dX6_spare_22 : decode cX6_spare 22 = .ok (.iconst (-1), 1) := by decide +kernel
theorem dX6_spare_23 : decode cX6_spare 23 = .ok (.if_icmp .ne 5, 3) := by decide +kernel
theorem dX6_spare_26 : decode cX6_spare 26 = .ok (.iconst (-1), 1) := by decide +kernel
theorem dX6_spare_27 : decode cX6_spare 27 = .ok (.ireturn, 1) := by decide +kernel
theorem dX6_spare_28 : decode cX6_spare 28 = .ok (.iload_n 1, 1) := by decide +kernel
theorem dX6_spare_29 : decode cX6_spare 29 = .ok (.iconst (-1), 1) := by decide +kernel
theorem dX6_spare_30 : decode cX6_spare 30 = .ok (.if_icmp .ne 10, 3) := by decide +kernel
theorem dX6_spare_33 : decode cX6_spare 33 = .ok (.iload_n 2, 1) := by decide +kernel
theorem dX6_spare_34 : decode cX6_spare 34 = .ok (.invokestatic 182, 3) := by decide +kernel
theorem dX6_spare_37 : decode cX6_spare 37 = .ok (.goto 8, 3) := by decide +kernel
theorem dX6_spare_40 : decode cX6_spare 40 = .ok (.iload_n 2, 1) := by decide +kernel
theorem dX6_spare_41 : decode cX6_spare 41 = .ok (.iload_n 1, 1) := by decide +kernel
theorem dX6_spare_42 : decode cX6_spare 42 = .ok (.invokestatic 217, 3) := by decide +kernel
theorem dX6_spare_45 : decode cX6_spare 45 = .ok (.ireturn, 1) := by decide +kernel
theorem dX6_seen_0 : decode cX6_seen 0 = .ok (.iload_n 1, 1) := by decide +kernel
theorem dX6_seen_1 : decode cX6_seen 1 = .ok (.bipush 8, 2) := by decide +kernel
theorem dX6_seen_3 : decode cX6_seen 3 = .ok (.invokestatic 84, 3) := by decide +kernel
theorem dX6_seen_6 : decode cX6_seen 6 = .ok (.ifCond .ne 11, 3) := by decide +kernel
theorem dX6_seen_9 : decode cX6_seen 9 = .ok (.iload_n 2, 1) := by decide +kernel
theorem dX6_seen_10 : decode cX6_seen 10 = .ok (.iconst 2, 1) := by decide +kernel
theorem dX6_seen_11 : decode cX6_seen 11 = .ok (.invokestatic 84, 3) := by decide +kernel
theorem dX6_seen_14 : decode cX6_seen 14 = .ok (.ifCond .eq 6, 3) := by decide +kernel
theorem dX6_seen_17 : decode cX6_seen 17 = .ok (.bipush (-2), 2) := by decide +kernel
theorem dX6_seen_19 : decode cX6_seen 19 = .ok (.ireturn, 1) := by decide +kernel
theorem dX6_seen_20 : decode cX6_seen 20 = .ok (.aload_n 0, 1) := by decide +kernel
theorem dX6_seen_21 : decode cX6_seen 21 = .ok (.getfield 78, 3) := by decide +kernel
theorem dX6_seen_24 : decode cX6_seen 24 = .ok (.bipush 8, 2) := by decide +kernel
theorem dX6_seen_26 : decode cX6_seen 26 = .ok (.if_icmp .lt 6, 3) := by decide +kernel
theorem dX6_seen_29 : decode cX6_seen 29 = .ok (.bipush (-4), 2) := by decide +kernel
theorem dX6_seen_31 : decode cX6_seen 31 = .ok (.ireturn, 1) := by decide +kernel
theorem dX6_seen_32 : decode cX6_seen 32 = .ok (.aload_n 0, 1) := by decide +kernel
theorem dX6_seen_33 : decode cX6_seen 33 = .ok (.getfield 54, 3) := by decide +kernel
theorem dX6_seen_36 : decode cX6_seen 36 = .ok (.aload_n 0, 1) := by decide +kernel
theorem dX6_seen_37 : decode cX6_seen 37 = .ok (.getfield 78, 3) := by decide +kernel
theorem dX6_seen_40 : decode cX6_seen 40 = .ok (.iload_n 1, 1) := by decide +kernel
theorem dX6_seen_41 : decode cX6_seen 41 = .ok (.iastore, 1) := by decide +kernel
theorem dX6_seen_42 : decode cX6_seen 42 = .ok (.aload_n 0, 1) := by decide +kernel
theorem dX6_seen_43 : decode cX6_seen 43 = .ok (.getfield 58, 3) := by decide +kernel
theorem dX6_seen_46 : decode cX6_seen 46 = .ok (.aload_n 0, 1) := by decide +kernel
theorem dX6_seen_47 : decode cX6_seen 47 = .ok (.getfield 78, 3) := by decide +kernel
theorem dX6_seen_50 : decode cX6_seen 50 = .ok (.iload_n 2, 1) := by decide +kernel
theorem dX6_seen_51 : decode cX6_seen 51 = .ok (.iastore, 1) := by decide +kernel
theorem dX6_seen_52 : decode cX6_seen 52 = .ok (.aload_n 0, 1) := by decide +kernel
theorem dX6_seen_53 : decode cX6_seen 53 = .ok (.dup, 1) := by decide +kernel
theorem dX6_seen_54 : decode cX6_seen 54 = .ok (.getfield 78, 3) := by decide +kernel
theorem dX6_seen_57 : decode cX6_seen 57 = .ok (.iconst 1, 1) := by decide +kernel
theorem dX6_seen_58 : decode cX6_seen 58 = .ok (.iadd, 1) := by decide +kernel
theorem dX6_seen_59 : decode cX6_seen 59 = .ok (.putfield 78, 3) := by decide +kernel
theorem dX6_seen_62 : decode cX6_seen 62 = .ok (.aload_n 0, 1) := by decide +kernel
theorem dX6_seen_63 : decode cX6_seen 63 = .ok (.getfield 78, 3) := by decide +kernel
theorem dX6_seen_66 : decode cX6_seen 66 = .ok (.ireturn, 1) := by decide +kernel
theorem dX6_forget_0 : decode cX6_forget 0 = .ok (.aload_n 0, 1) := by decide +kernel
theorem dX6_forget_1 : decode cX6_forget 1 = .ok (.getfield 78, 3) := by decide +kernel
theorem dX6_forget_4 : decode cX6_forget 4 = .ok (.istore_n 1, 1) := by decide +kernel
theorem dX6_forget_5 : decode cX6_forget 5 = .ok (.aload_n 0, 1) := by decide +kernel
theorem dX6_forget_6 : decode cX6_forget 6 = .ok (.iconst 0, 1) := by decide +kernel
theorem dX6_forget_7 : decode cX6_forget 7 = .ok (.putfield 78, 3) := by decide +kernel
theorem dX6_forget_10 : decode cX6_forget 10 = .ok (.iload_n 1, 1) := by decide +kernel
theorem dX6_forget_11 : decode cX6_forget 11 = .ok (.ireturn, 1) := by decide +kernel
theorem dX6_never_0 : decode cX6_never 0 = .ok (.iconst 0, 1) := by decide +kernel
theorem dX6_never_1 : decode cX6_never 1 = .ok (.istore_n 1, 1) := by decide +kernel
theorem dX6_never_2 : decode cX6_never 2 = .ok (.iconst 0, 1) := by decide +kernel
theorem dX6_never_3 : decode cX6_never 3 = .ok (.istore_n 2, 1) := by decide +kernel
theorem dX6_never_4 : decode cX6_never 4 = .ok (.iload_n 2, 1) := by decide +kernel
theorem dX6_never_5 : decode cX6_never 5 = .ok (.aload_n 0, 1) := by decide +kernel
theorem dX6_never_6 : decode cX6_never 6 = .ok (.getfield 41, 3) := by decide +kernel
theorem dX6_never_9 : decode cX6_never 9 = .ok (.getfield 121, 3) := by decide +kernel
theorem dX6_never_12 : decode cX6_never 12 = .ok (.if_icmp .ge 43, 3) := by decide +kernel
theorem dX6_never_15 : decode cX6_never 15 = .ok (.aload_n 0, 1) := by decide +kernel
theorem dX6_never_16 : decode cX6_never 16 = .ok (.aload_n 0, 1) := by decide +kernel
theorem dX6_never_17 : decode cX6_never 17 = .ok (.aload_n 0, 1) := by decide +kernel
theorem dX6_never_18 : decode cX6_never 18 = .ok (.getfield 24, 3) := by decide +kernel
theorem dX6_never_21 : decode cX6_never 21 = .ok (.aload_n 0, 1) := by decide +kernel
theorem dX6_never_22 : decode cX6_never 22 = .ok (.getfield 41, 3) := by decide +kernel
theorem dX6_never_25 : decode cX6_never 25 = .ok (.invokevirtual 175, 3) := by decide +kernel
theorem dX6_never_28 : decode cX6_never 28 = .ok (.iconst 1, 1) := by decide +kernel
theorem dX6_never_29 : decode cX6_never 29 = .ok (.iload_n 2, 1) := by decide +kernel
theorem dX6_never_30 : decode cX6_never 30 = .ok (.ishl, 1) := by decide +kernel
theorem dX6_never_31 : decode cX6_never 31 = .ok (.iconst (-1), 1) := by decide +kernel
theorem dX6_never_32 : decode cX6_never 32 = .ok (.ixor, 1) := by decide +kernel
theorem dX6_never_33 : decode cX6_never 33 = .ok (.iand, 1) := by decide +kernel
theorem dX6_never_34 : decode cX6_never 34 = .ok (.invokevirtual 178, 3) := by decide +kernel
theorem dX6_never_37 : decode cX6_never 37 = .ok (.invokevirtual 220, 3) := by decide +kernel
theorem dX6_never_40 : decode cX6_never 40 = .ok (.ifCond .eq 9, 3) := by decide +kernel
theorem dX6_never_43 : decode cX6_never 43 = .ok (.iload_n 1, 1) := by decide +kernel
theorem dX6_never_44 : decode cX6_never 44 = .ok (.iconst 1, 1) := by decide +kernel
theorem dX6_never_45 : decode cX6_never 45 = .ok (.iload_n 2, 1) := by decide +kernel
theorem dX6_never_46 : decode cX6_never 46 = .ok (.ishl, 1) := by decide +kernel
theorem dX6_never_47 : decode cX6_never 47 = .ok (.ior, 1) := by decide +kernel
theorem dX6_never_48 : decode cX6_never 48 = .ok (.istore_n 1, 1) := by decide +kernel
theorem dX6_never_49 : decode cX6_never 49 = .ok (.iinc 2 1, 3) := by decide +kernel
theorem dX6_never_52 : decode cX6_never 52 = .ok (.goto (-48), 3) := by decide +kernel
theorem dX6_never_55 : decode cX6_never 55 = .ok (.iload_n 1, 1) := by decide +kernel
theorem dX6_never_56 : decode cX6_never 56 = .ok (.ireturn, 1) := by decide +kernel
theorem dX6_was_0 : decode cX6_was 0 = .ok (.iload_n 1, 1) := by decide +kernel
theorem dX6_was_1 : decode cX6_was 1 = .ok (.aload_n 0, 1) := by decide +kernel
theorem dX6_was_2 : decode cX6_was 2 = .ok (.getfield 24, 3) := by decide +kernel
theorem dX6_was_5 : decode cX6_was 5 = .ok (.getfield 105, 3) := by decide +kernel
theorem dX6_was_8 : decode cX6_was 8 = .ok (.invokestatic 84, 3) := by decide +kernel
theorem dX6_was_11 : decode cX6_was 11 = .ok (.ifCond .ne 11, 3) := by decide +kernel
theorem dX6_was_14 : decode cX6_was 14 = .ok (.iload_n 2, 1) := by decide +kernel
theorem dX6_was_15 : decode cX6_was 15 = .ok (.iconst 2, 1) := by decide +kernel
theorem dX6_was_16 : decode cX6_was 16 = .ok (.invokestatic 84, 3) := by decide +kernel
theorem dX6_was_19 : decode cX6_was 19 = .ok (.ifCond .eq 6, 3) := by decide +kernel
theorem dX6_was_22 : decode cX6_was 22 = .ok (.bipush (-2), 2) := by decide +kernel
theorem dX6_was_24 : decode cX6_was 24 = .ok (.ireturn, 1) := by decide +kernel
theorem dX6_was_25 : decode cX6_was 25 = .ok (.aload_n 0, 1) := by decide +kernel
theorem dX6_was_26 : decode cX6_was 26 = .ok (.getfield 28, 3) := by decide +kernel
theorem dX6_was_29 : decode cX6_was 29 = .ok (.aload_n 0, 1) := by decide +kernel
theorem dX6_was_30 : decode cX6_was 30 = .ok (.getfield 24, 3) := by decide +kernel
theorem dX6_was_33 : decode cX6_was 33 = .ok (.invokevirtual 202, 3) := by decide +kernel
theorem dX6_was_36 : decode cX6_was 36 = .ok (.iload_n 2, 1) := by decide +kernel
theorem dX6_was_37 : decode cX6_was 37 = .ok (.ifCond .ne 13, 3) := by decide +kernel
theorem dX6_was_40 : decode cX6_was 40 = .ok (.aload_n 0, 1) := by decide +kernel
theorem dX6_was_41 : decode cX6_was 41 = .ok (.getfield 28, 3) := by decide +kernel
theorem dX6_was_44 : decode cX6_was 44 = .ok (.getfield 112, 3) := by decide +kernel
theorem dX6_was_47 : decode cX6_was 47 = .ok (.goto 10, 3) := by decide +kernel
theorem dX6_was_50 : decode cX6_was 50 = .ok (.aload_n 0, 1) := by decide +kernel
theorem dX6_was_51 : decode cX6_was 51 = .ok (.getfield 28, 3) := by decide +kernel
theorem dX6_was_54 : decode cX6_was 54 = .ok (.getfield 115, 3) := by decide +kernel
theorem dX6_was_57 : decode cX6_was 57 = .ok (.astore_n 3, 1) := by decide +kernel
theorem dX6_was_58 : decode cX6_was 58 = .ok (.iload_n 2, 1) := by decide +kernel
theorem dX6_was_59 : decode cX6_was 59 = .ok (.ifCond .ne 8, 3) := by decide +kernel
theorem dX6_was_62 : decode cX6_was 62 = .ok (.bipush 10, 2) := by decide +kernel
theorem dX6_was_64 : decode cX6_was 64 = .ok (.goto 4, 3) := by decide +kernel
theorem dX6_was_67 : decode cX6_was 67 = .ok (.iconst 3, 1) := by decide +kernel
theorem dX6_was_68 : decode cX6_was 68 = .ok (.istore 4, 2) := by decide +kernel
theorem dX6_was_70 : decode cX6_was 70 = .ok (.iconst 0, 1) := by decide +kernel
theorem dX6_was_71 : decode cX6_was 71 = .ok (.istore 5, 2) := by decide +kernel
theorem dX6_was_73 : decode cX6_was 73 = .ok (.iconst 0, 1) := by decide +kernel
theorem dX6_was_74 : decode cX6_was 74 = .ok (.istore 6, 2) := by decide +kernel
theorem dX6_was_76 : decode cX6_was 76 = .ok (.iload 6, 2) := by decide +kernel
theorem dX6_was_78 : decode cX6_was 78 = .ok (.iload 4, 2) := by decide +kernel
theorem dX6_was_80 : decode cX6_was 80 = .ok (.if_icmp .ge 45, 3) := by decide +kernel
theorem dX6_was_83 : decode cX6_was 83 = .ok (.aload_n 3, 1) := by decide +kernel
theorem dX6_was_84 : decode cX6_was 84 = .ok (.iload_n 1, 1) := by decide +kernel
theorem dX6_was_85 : decode cX6_was 85 = .ok (.iload 6, 2) := by decide +kernel
theorem dX6_was_87 : decode cX6_was 87 = .ok (.iastore, 1) := by decide +kernel
theorem dX6_was_88 : decode cX6_was 88 = .ok (.aload_n 0, 1) := by decide +kernel
theorem dX6_was_89 : decode cX6_was 89 = .ok (.aload_n 0, 1) := by decide +kernel
theorem dX6_was_90 : decode cX6_was 90 = .ok (.aload_n 0, 1) := by decide +kernel
theorem dX6_was_91 : decode cX6_was 91 = .ok (.getfield 28, 3) := by decide +kernel
theorem dX6_was_94 : decode cX6_was 94 = .ok (.aload_n 0, 1) := by decide +kernel
theorem dX6_was_95 : decode cX6_was 95 = .ok (.getfield 41, 3) := by decide +kernel
theorem dX6_was_98 : decode cX6_was 98 = .ok (.invokevirtual 175, 3) := by decide +kernel
theorem dX6_was_101 : decode cX6_was 101 = .ok (.invokevirtual 178, 3) := by decide +kernel
theorem dX6_was_104 : decode cX6_was 104 = .ok (.invokevirtual 220, 3) := by decide +kernel
theorem dX6_was_107 : decode cX6_was 107 = .ok (.ifCond .eq 12, 3) := by decide +kernel
theorem dX6_was_110 : decode cX6_was 110 = .ok (.iload 5, 2) := by decide +kernel
theorem dX6_was_112 : decode cX6_was 112 = .ok (.iconst 1, 1) := by decide +kernel
theorem dX6_was_113 : decode cX6_was 113 = .ok (.iload 6, 2) := by decide +kernel
theorem dX6_was_115 : decode cX6_was 115 = .ok (.ishl, 1) := by decide +kernel
theorem dX6_was_116 : decode cX6_was 116 = .ok (.ior, 1) := by decide +kernel
theorem dX6_was_117 : decode cX6_was 117 = .ok (.istore 5, 2) := by decide +kernel
theorem dX6_was_119 : decode cX6_was 119 = .ok (.iinc 6 1, 3) := by decide +kernel
theorem dX6_was_122 : decode cX6_was 122 = .ok (.goto (-46), 3) := by decide +kernel
theorem dX6_was_125 : decode cX6_was 125 = .ok (.iload 5, 2) := by decide +kernel
theorem dX6_was_127 : decode cX6_was 127 = .ok (.ireturn, 1) := by decide +kernel
theorem dX6_ask_0 : decode cX6_ask 0 = .ok (.iload_n 1, 1) := by decide +kernel
theorem dX6_ask_1 : decode cX6_ask 1 = .ok (.aload_n 0, 1) := by decide +kernel
theorem dX6_ask_2 : decode cX6_ask 2 = .ok (.getfield 24, 3) := by decide +kernel
theorem dX6_ask_5 : decode cX6_ask 5 = .ok (.getfield 105, 3) := by decide +kernel
theorem dX6_ask_8 : decode cX6_ask 8 = .ok (.invokestatic 84, 3) := by decide +kernel
theorem dX6_ask_11 : decode cX6_ask 11 = .ok (.ifCond .eq 6, 3) := by decide +kernel
theorem dX6_ask_14 : decode cX6_ask 14 = .ok (.bipush (-2), 2) := by decide +kernel
theorem dX6_ask_16 : decode cX6_ask 16 = .ok (.ireturn, 1) := by decide +kernel
theorem dX6_ask_17 : decode cX6_ask 17 = .ok (.aload_n 0, 1) := by decide +kernel
theorem dX6_ask_18 : decode cX6_ask 18 = .ok (.getfield 28, 3) := by decide +kernel
theorem dX6_ask_21 : decode cX6_ask 21 = .ok (.aload_n 0, 1) := by decide +kernel
theorem dX6_ask_22 : decode cX6_ask 22 = .ok (.getfield 24, 3) := by decide +kernel
theorem dX6_ask_25 : decode cX6_ask 25 = .ok (.invokevirtual 202, 3) := by decide +kernel
theorem dX6_ask_28 : decode cX6_ask 28 = .ok (.aload_n 0, 1) := by decide +kernel
theorem dX6_ask_29 : decode cX6_ask 29 = .ok (.getfield 67, 3) := by decide +kernel
theorem dX6_ask_32 : decode cX6_ask 32 = .ok (.iconst 0, 1) := by decide +kernel
theorem dX6_ask_33 : decode cX6_ask 33 = .ok (.invokestatic 223, 3) := by decide +kernel
theorem dX6_ask_36 : decode cX6_ask 36 = .ok (.iconst 0, 1) := by decide +kernel
theorem dX6_ask_37 : decode cX6_ask 37 = .ok (.istore_n 2, 1) := by decide +kernel
theorem dX6_ask_38 : decode cX6_ask 38 = .ok (.iconst 0, 1) := by decide +kernel
theorem dX6_ask_39 : decode cX6_ask 39 = .ok (.istore_n 3, 1) := by decide +kernel
theorem dX6_ask_40 : decode cX6_ask 40 = .ok (.iload_n 3, 1) := by decide +kernel
theorem dX6_ask_41 : decode cX6_ask 41 = .ok (.bipush 10, 2) := by decide +kernel
theorem dX6_ask_43 : decode cX6_ask 43 = .ok (.if_icmp .ge 54, 3) := by decide +kernel
theorem dX6_ask_46 : decode cX6_ask 46 = .ok (.aload_n 0, 1) := by decide +kernel
theorem dX6_ask_47 : decode cX6_ask 47 = .ok (.getfield 28, 3) := by decide +kernel
theorem dX6_ask_50 : decode cX6_ask 50 = .ok (.getfield 112, 3) := by decide +kernel
theorem dX6_ask_53 : decode cX6_ask 53 = .ok (.iload_n 1, 1) := by decide +kernel
theorem dX6_ask_54 : decode cX6_ask 54 = .ok (.iload_n 3, 1) := by decide +kernel
theorem dX6_ask_55 : decode cX6_ask 55 = .ok (.iastore, 1) := by decide +kernel
theorem dX6_ask_56 : decode cX6_ask 56 = .ok (.aload_n 0, 1) := by decide +kernel
theorem dX6_ask_57 : decode cX6_ask 57 = .ok (.aload_n 0, 1) := by decide +kernel
theorem dX6_ask_58 : decode cX6_ask 58 = .ok (.getfield 28, 3) := by decide +kernel
theorem dX6_ask_61 : decode cX6_ask 61 = .ok (.aload_n 0, 1) := by decide +kernel
theorem dX6_ask_62 : decode cX6_ask 62 = .ok (.getfield 41, 3) := by decide +kernel
theorem dX6_ask_65 : decode cX6_ask 65 = .ok (.invokevirtual 175, 3) := by decide +kernel
theorem dX6_ask_68 : decode cX6_ask 68 = .ok (.invokevirtual 178, 3) := by decide +kernel
theorem dX6_ask_71 : decode cX6_ask 71 = .ok (.istore 4, 2) := by decide +kernel
theorem dX6_ask_73 : decode cX6_ask 73 = .ok (.aload_n 0, 1) := by decide +kernel
theorem dX6_ask_74 : decode cX6_ask 74 = .ok (.iload 4, 2) := by decide +kernel
theorem dX6_ask_76 : decode cX6_ask 76 = .ok (.invokevirtual 220, 3) := by decide +kernel
theorem dX6_ask_79 : decode cX6_ask 79 = .ok (.ifCond .eq 12, 3) := by decide +kernel
theorem dX6_ask_82 : decode cX6_ask 82 = .ok (.iinc 2 1, 3) := by decide +kernel
theorem dX6_ask_85 : decode cX6_ask 85 = .ok (.aload_n 0, 1) := by decide +kernel
theorem dX6_ask_86 : decode cX6_ask 86 = .ok (.iload 4, 2) := by decide +kernel
theorem dX6_ask_88 : decode cX6_ask 88 = .ok (.invokevirtual 229, 3) := by decide +kernel
theorem dX6_ask_91 : decode cX6_ask 91 = .ok (.iinc 3 1, 3) := by decide +kernel
theorem dX6_ask_94 : decode cX6_ask 94 = .ok (.goto (-54), 3) := by decide +kernel
theorem dX6_ask_97 : decode cX6_ask 97 = .ok (.iconst 0, 1) := by decide +kernel
theorem dX6_ask_98 : decode cX6_ask 98 = .ok (.istore_n 3, 1) := by decide +kernel
theorem dX6_ask_99 : decode cX6_ask 99 = .ok (.iload_n 2, 1) := by decide +kernel
theorem dX6_ask_100 : decode cX6_ask 100 = .ok (.iconst 1, 1) := by decide +kernel
theorem dX6_ask_101 : decode cX6_ask 101 = .ok (.iadd, 1) := by decide +kernel
theorem dX6_ask_102 : decode cX6_ask 102 = .ok (.istore 4, 2) := by decide +kernel
theorem dX6_ask_104 : decode cX6_ask 104 = .ok (.iconst 0, 1) := by decide +kernel
theorem dX6_ask_105 : decode cX6_ask 105 = .ok (.istore 5, 2) := by decide +kernel
theorem dX6_ask_107 : decode cX6_ask 107 = .ok (.iload 5, 2) := by decide +kernel
theorem dX6_ask_109 : decode cX6_ask 109 = .ok (.bipush 8, 2) := by decide +kernel
theorem dX6_ask_111 : decode cX6_ask 111 = .ok (.if_icmp .ge 44, 3) := by decide +kernel
theorem dX6_ask_114 : decode cX6_ask 114 = .ok (.aload_n 0, 1) := by decide +kernel
theorem dX6_ask_115 : decode cX6_ask 115 = .ok (.getfield 67, 3) := by decide +kernel
theorem dX6_ask_118 : decode cX6_ask 118 = .ok (.iload 5, 2) := by decide +kernel
theorem dX6_ask_120 : decode cX6_ask 120 = .ok (.iaload, 1) := by decide +kernel
theorem dX6_ask_121 : decode cX6_ask 121 = .ok (.iload_n 2, 1) := by decide +kernel
theorem dX6_ask_122 : decode cX6_ask 122 = .ok (.aload_n 0, 1) := by decide +kernel
theorem dX6_ask_123 : decode cX6_ask 123 = .ok (.getfield 67, 3) := by decide +kernel
theorem dX6_ask_126 : decode cX6_ask 126 = .ok (.iload 5, 2) := by decide +kernel
theorem dX6_ask_128 : decode cX6_ask 128 = .ok (.iaload, 1) := by decide +kernel
theorem dX6_ask_129 : decode cX6_ask 129 = .ok (.isub, 1) := by decide +kernel
theorem dX6_ask_130 : decode cX6_ask 130 = .ok (.invokestatic 160, 3) := by decide +kernel
theorem dX6_ask_133 : decode cX6_ask 133 = .ok (.istore 6, 2) := by decide +kernel
theorem dX6_ask_135 : decode cX6_ask 135 = .ok (.iload 6, 2) := by decide +kernel
theorem dX6_ask_137 : decode cX6_ask 137 = .ok (.iload 4, 2) := by decide +kernel
theorem dX6_ask_139 : decode cX6_ask 139 = .ok (.if_icmp .ge 10, 3) := by decide +kernel
theorem dX6_ask_142 : decode cX6_ask 142 = .ok (.iload 5, 2) := by decide +kernel
theorem dX6_ask_144 : decode cX6_ask 144 = .ok (.istore_n 3, 1) := by decide +kernel
theorem dX6_ask_145 : decode cX6_ask 145 = .ok (.iload 6, 2) := by decide +kernel
theorem dX6_ask_147 : decode cX6_ask 147 = .ok (.istore 4, 2) := by decide +kernel
theorem dX6_ask_149 : decode cX6_ask 149 = .ok (.iinc 5 1, 3) := by decide +kernel
theorem dX6_ask_152 : decode cX6_ask 152 = .ok (.goto (-45), 3) := by decide +kernel
theorem dX6_ask_155 : decode cX6_ask 155 = .ok (.iload_n 3, 1) := by decide +kernel
theorem dX6_ask_156 : decode cX6_ask 156 = .ok (.ireturn, 1) := by decide +kernel
theorem dX6_chance_0 : decode cX6_chance 0 = .ok (.iload_n 1, 1) := by decide +kernel
theorem dX6_chance_1 : decode cX6_chance 1 = .ok (.bipush 17, 2) := by decide +kernel
theorem dX6_chance_3 : decode cX6_chance 3 = .ok (.invokestatic 84, 3) := by decide +kernel
theorem dX6_chance_6 : decode cX6_chance 6 = .ok (.ifCond .ne 25, 3) := by decide +kernel
theorem dX6_chance_9 : decode cX6_chance 9 = .ok (.iload_n 2, 1) := by decide +kernel
theorem dX6_chance_10 : decode cX6_chance 10 = .ok (.aload_n 0, 1) := by decide +kernel
theorem dX6_chance_11 : decode cX6_chance 11 = .ok (.getfield 34, 3) := by decide +kernel
theorem dX6_chance_14 : decode cX6_chance 14 = .ok (.getfield 118, 3) := by decide +kernel
theorem dX6_chance_17 : decode cX6_chance 17 = .ok (.invokestatic 84, 3) := by decide +kernel
theorem dX6_chance_20 : decode cX6_chance 20 = .ok (.ifCond .ne 11, 3) := by decide +kernel
theorem dX6_chance_23 : decode cX6_chance 23 = .ok (.iload_n 3, 1) := by decide +kernel
theorem dX6_chance_24 : decode cX6_chance 24 = .ok (.iconst 2, 1) := by decide +kernel
theorem dX6_chance_25 : decode cX6_chance 25 = .ok (.invokestatic 84, 3) := by decide +kernel
theorem dX6_chance_28 : decode cX6_chance 28 = .ok (.ifCond .eq 7, 3) := by decide +kernel
theorem dX6_chance_31 : decode cX6_chance 31 = .ok (.ldc2_w 232, 3) := by decide +kernel
theorem dX6_chance_34 : decode cX6_chance 34 = .ok (.lreturn, 1) := by decide +kernel
theorem dX6_chance_35 : decode cX6_chance 35 = .ok (.aload_n 0, 1) := by decide +kernel
theorem dX6_chance_36 : decode cX6_chance 36 = .ok (.iload_n 1, 1) := by decide +kernel
theorem dX6_chance_37 : decode cX6_chance 37 = .ok (.invokevirtual 234, 3) := by decide +kernel
theorem dX6_chance_40 : decode cX6_chance 40 = .ok (.aload_n 0, 1) := by decide +kernel
theorem dX6_chance_41 : decode cX6_chance 41 = .ok (.aload_n 0, 1) := by decide +kernel
theorem dX6_chance_42 : decode cX6_chance 42 = .ok (.getfield 70, 3) := by decide +kernel
theorem dX6_chance_45 : decode cX6_chance 45 = .ok (.iload_n 2, 1) := by decide +kernel
theorem dX6_chance_46 : decode cX6_chance 46 = .ok (.laload, 1) := by decide +kernel
theorem dX6_chance_47 : decode cX6_chance 47 = .ok (.iload_n 3, 1) := by decide +kernel
theorem dX6_chance_48 : decode cX6_chance 48 = .ok (.invokevirtual 237, 3) := by decide +kernel
theorem dX6_chance_51 : decode cX6_chance 51 = .ok (.lreturn, 1) := by decide +kernel
theorem dX6_lives_0 : decode cX6_lives 0 = .ok (.iload_n 2, 1) := by decide +kernel
theorem dX6_lives_1 : decode cX6_lives 1 = .ok (.bipush 13, 2) := by decide +kernel
theorem dX6_lives_3 : decode cX6_lives 3 = .ok (.invokestatic 84, 3) := by decide +kernel
theorem dX6_lives_6 : decode cX6_lives 6 = .ok (.ifCond .ne 11, 3) := by decide +kernel
theorem dX6_lives_9 : decode cX6_lives 9 = .ok (.iload_n 3, 1) := by decide +kernel
theorem dX6_lives_10 : decode cX6_lives 10 = .ok (.iconst 2, 1) := by decide +kernel
theorem dX6_lives_11 : decode cX6_lives 11 = .ok (.invokestatic 84, 3) := by decide +kernel
theorem dX6_lives_14 : decode cX6_lives 14 = .ok (.ifCond .eq 6, 3) := by decide +kernel
theorem dX6_lives_17 : decode cX6_lives 17 = .ok (.bipush (-2), 2) := by decide +kernel
theorem dX6_lives_19 : decode cX6_lives 19 = .ok (.ireturn, 1) := by decide +kernel
theorem dX6_lives_20 : decode cX6_lives 20 = .ok (.aload_n 0, 1) := by decide +kernel
theorem dX6_lives_21 : decode cX6_lives 21 = .ok (.getfield 28, 3) := by decide +kernel
theorem dX6_lives_24 : decode cX6_lives 24 = .ok (.iload_n 1, 1) := by decide +kernel
theorem dX6_lives_25 : decode cX6_lives 25 = .ok (.iload_n 2, 1) := by decide +kernel
theorem dX6_lives_26 : decode cX6_lives 26 = .ok (.invokevirtual 241, 3) := by decide +kernel
theorem dX6_lives_29 : decode cX6_lives 29 = .ok (.aload_n 0, 1) := by decide +kernel
theorem dX6_lives_30 : decode cX6_lives 30 = .ok (.aload_n 0, 1) := by decide +kernel
theorem dX6_lives_31 : decode cX6_lives 31 = .ok (.getfield 28, 3) := by decide +kernel
theorem dX6_lives_34 : decode cX6_lives 34 = .ok (.aload_n 0, 1) := by decide +kernel
theorem dX6_lives_35 : decode cX6_lives 35 = .ok (.getfield 41, 3) := by decide +kernel
theorem dX6_lives_38 : decode cX6_lives 38 = .ok (.invokevirtual 175, 3) := by decide +kernel
theorem dX6_lives_41 : decode cX6_lives 41 = .ok (.invokevirtual 178, 3) := by decide +kernel
theorem dX6_lives_44 : decode cX6_lives 44 = .ok (.istore 4, 2) := by decide +kernel
theorem dX6_lives_46 : decode cX6_lives 46 = .ok (.iload_n 3, 1) := by decide +kernel
theorem dX6_lives_47 : decode cX6_lives 47 = .ok (.ifCond .ne 11, 3) := by decide +kernel
theorem dX6_lives_50 : decode cX6_lives 50 = .ok (.iload 4, 2) := by decide +kernel
theorem dX6_lives_52 : decode cX6_lives 52 = .ok (.invokestatic 182, 3) := by decide +kernel
theorem dX6_lives_55 : decode cX6_lives 55 = .ok (.goto 10, 3) := by decide +kernel
theorem dX6_lives_58 : decode cX6_lives 58 = .ok (.aload_n 0, 1) := by decide +kernel
theorem dX6_lives_59 : decode cX6_lives 59 = .ok (.getfield 50, 3) := by decide +kernel
theorem dX6_lives_62 : decode cX6_lives 62 = .ok (.getfield 187, 3) := by decide +kernel
theorem dX6_lives_65 : decode cX6_lives 65 = .ok (.ireturn, 1) := by decide +kernel
theorem dX6_sheet_0 : decode cX6_sheet 0 = .ok (.iload_n 1, 1) := by decide +kernel
theorem dX6_sheet_1 : decode cX6_sheet 1 = .ok (.iconst 4, 1) := by decide +kernel
theorem dX6_sheet_2 : decode cX6_sheet 2 = .ok (.invokestatic 84, 3) := by decide +kernel
theorem dX6_sheet_5 : decode cX6_sheet 5 = .ok (.ifCond .ne 17, 3) := by decide +kernel
theorem dX6_sheet_8 : decode cX6_sheet 8 = .ok (.iload_n 2, 1) := by decide +kernel
theorem dX6_sheet_9 : decode cX6_sheet 9 = .ok (.iconst 3, 1) := by decide +kernel
theorem dX6_sheet_10 : decode cX6_sheet 10 = .ok (.invokestatic 84, 3) := by decide +kernel
theorem dX6_sheet_13 : decode cX6_sheet 13 = .ok (.ifCond .ne 9, 3) := by decide +kernel
theorem dX6_sheet_16 : decode cX6_sheet 16 = .ok (.iload_n 3, 1) := by decide +kernel
theorem dX6_sheet_17 : decode cX6_sheet 17 = .ok (.bipush 60, 2) := by decide +kernel
theorem dX6_sheet_19 : decode cX6_sheet 19 = .ok (.if_icmp .le 6, 3) := by decide +kernel
theorem dX6_sheet_22 : decode cX6_sheet 22 = .ok (.bipush (-2), 2) := by decide +kernel
theorem dX6_sheet_24 : decode cX6_sheet 24 = .ok (.ireturn, 1) := by decide +kernel
theorem dX6_sheet_25 : decode cX6_sheet 25 = .ok (.iload_n 3, 1) := by decide +kernel
theorem dX6_sheet_26 : decode cX6_sheet 26 = .ok (.ifCond .ge 9, 3) := by decide +kernel
theorem dX6_sheet_29 : decode cX6_sheet 29 = .ok (.aload_n 0, 1) := by decide +kernel
theorem dX6_sheet_30 : decode cX6_sheet 30 = .ok (.iconst 5, 1) := by decide +kernel
theorem dX6_sheet_31 : decode cX6_sheet 31 = .ok (.invokevirtual 129, 3) := by decide +kernel
theorem dX6_sheet_34 : decode cX6_sheet 34 = .ok (.ireturn, 1) := by decide +kernel
theorem dX6_sheet_35 : decode cX6_sheet 35 = .ok (.aload_n 0, 1) := by decide +kernel
theorem dX6_sheet_36 : decode cX6_sheet 36 = .ok (.getfield 63, 3) := by decide +kernel
theorem dX6_sheet_39 : decode cX6_sheet 39 = .ok (.iload_n 1, 1) := by decide +kernel
theorem dX6_sheet_40 : decode cX6_sheet 40 = .ok (.new 61, 3) := by decide +kernel
theorem dX6_sheet_43 : decode cX6_sheet 43 = .ok (.dup, 1) := by decide +kernel
theorem dX6_sheet_44 : decode cX6_sheet 44 = .ok (.iload_n 2, 1) := by decide +kernel
theorem dX6_sheet_45 : decode cX6_sheet 45 = .ok (.iload_n 3, 1) := by decide +kernel
theorem dX6_sheet_46 : decode cX6_sheet 46 = .ok (.invokespecial 244, 3) := by decide +kernel
theorem dX6_sheet_49 : decode cX6_sheet 49 = .ok (.aastore, 1) := by decide +kernel
theorem dX6_sheet_50 : decode cX6_sheet 50 = .ok (.iload_n 3, 1) := by decide +kernel
theorem dX6_sheet_51 : decode cX6_sheet 51 = .ok (.ireturn, 1) := by decide +kernel
theorem dX6_lose_0 : decode cX6_lose 0 = .ok (.iload_n 1, 1) := by decide +kernel
theorem dX6_lose_1 : decode cX6_lose 1 = .ok (.iconst 4, 1) := by decide +kernel
theorem dX6_lose_2 : decode cX6_lose 2 = .ok (.invokestatic 84, 3) := by decide +kernel
theorem dX6_lose_5 : decode cX6_lose 5 = .ok (.ifCond .eq 6, 3) := by decide +kernel
theorem dX6_lose_8 : decode cX6_lose 8 = .ok (.bipush (-2), 2) := by decide +kernel
theorem dX6_lose_10 : decode cX6_lose 10 = .ok (.ireturn, 1) := by decide +kernel
theorem dX6_lose_11 : decode cX6_lose 11 = .ok (.aload_n 0, 1) := by decide +kernel
theorem dX6_lose_12 : decode cX6_lose 12 = .ok (.getfield 63, 3) := by decide +kernel
theorem dX6_lose_15 : decode cX6_lose 15 = .ok (.iload_n 1, 1) := by decide +kernel
theorem dX6_lose_16 : decode cX6_lose 16 = .ok (.aaload, 1) := by decide +kernel
theorem dX6_lose_17 : decode cX6_lose 17 = .ok (.astore_n 2, 1) := by decide +kernel
theorem dX6_lose_18 : decode cX6_lose 18 = .ok (.aload_n 2, 1) := by decide +kernel
theorem dX6_lose_19 : decode cX6_lose 19 = .ok (.ifnonnull 9, 3) := by decide +kernel
theorem dX6_lose_22 : decode cX6_lose 22 = .ok (.aload_n 0, 1) := by decide +kernel
theorem dX6_lose_23 : decode cX6_lose 23 = .ok (.iconst 1, 1) := by decide +kernel
theorem dX6_lose_24 : decode cX6_lose 24 = .ok (.invokevirtual 129, 3) := by decide +kernel
theorem dX6_lose_27 : decode cX6_lose 27 = .ok (.ireturn, 1) := by decide +kernel
theorem dX6_lose_28 : decode cX6_lose 28 = .ok (.aload_n 0, 1) := by decide +kernel
theorem dX6_lose_29 : decode cX6_lose 29 = .ok (.getfield 63, 3) := by decide +kernel
theorem dX6_lose_32 : decode cX6_lose 32 = .ok (.iload_n 1, 1) := by decide +kernel
theorem dX6_lose_33 : decode cX6_lose 33 = .ok (.aconst_null, 1) := by decide +kernel
theorem dX6_lose_34 : decode cX6_lose 34 = .ok (.aastore, 1) := by decide +kernel
theorem dX6_lose_35 : decode cX6_lose 35 = .ok (.aload_n 2, 1) := by decide +kernel
theorem dX6_lose_36 : decode cX6_lose 36 = .ok (.getfield 133, 3) := by decide +kernel
theorem dX6_lose_39 : decode cX6_lose 39 = .ok (.arraylength, 1) := by decide +kernel
theorem dX6_lose_40 : decode cX6_lose 40 = .ok (.ireturn, 1) := by decide +kernel
theorem dX6_put_0 : decode cX6_put 0 = .ok (.iload_n 1, 1) := by decide +kernel
theorem dX6_put_1 : decode cX6_put 1 = .ok (.iconst 4, 1) := by decide +kernel
theorem dX6_put_2 : decode cX6_put 2 = .ok (.invokestatic 84, 3) := by decide +kernel
theorem dX6_put_5 : decode cX6_put 5 = .ok (.ifCond .ne 11, 3) := by decide +kernel
theorem dX6_put_8 : decode cX6_put 8 = .ok (.iload_n 2, 1) := by decide +kernel
theorem dX6_put_9 : decode cX6_put 9 = .ok (.iconst 3, 1) := by decide +kernel
theorem dX6_put_10 : decode cX6_put 10 = .ok (.invokestatic 84, 3) := by decide +kernel
theorem dX6_put_13 : decode cX6_put 13 = .ok (.ifCond .eq 6, 3) := by decide +kernel
theorem dX6_put_16 : decode cX6_put 16 = .ok (.bipush (-2), 2) := by decide +kernel
theorem dX6_put_18 : decode cX6_put 18 = .ok (.ireturn, 1) := by decide +kernel
theorem dX6_put_19 : decode cX6_put 19 = .ok (.aload_n 0, 1) := by decide +kernel
theorem dX6_put_20 : decode cX6_put 20 = .ok (.getfield 63, 3) := by decide +kernel
theorem dX6_put_23 : decode cX6_put 23 = .ok (.iload_n 1, 1) := by decide +kernel
theorem dX6_put_24 : decode cX6_put 24 = .ok (.aaload, 1) := by decide +kernel
theorem dX6_put_25 : decode cX6_put 25 = .ok (.astore 5, 2) := by decide +kernel
theorem dX6_put_27 : decode cX6_put 27 = .ok (.aload 5, 2) := by decide +kernel
theorem dX6_put_29 : decode cX6_put 29 = .ok (.ifnonnull 9, 3) := by decide +kernel
theorem dX6_put_32 : decode cX6_put 32 = .ok (.aload_n 0, 1) := by decide +kernel
theorem dX6_put_33 : decode cX6_put 33 = .ok (.iconst 1, 1) := by decide +kernel
theorem dX6_put_34 : decode cX6_put 34 = .ok (.invokevirtual 129, 3) := by decide +kernel
theorem dX6_put_37 : decode cX6_put 37 = .ok (.ireturn, 1) := by decide +kernel
theorem dX6_put_38 : decode cX6_put 38 = .ok (.aload 5, 2) := by decide +kernel
theorem dX6_put_40 : decode cX6_put 40 = .ok (.getfield 245, 3) := by decide +kernel
theorem dX6_put_43 : decode cX6_put 43 = .ok (.iload_n 2, 1) := by decide +kernel
theorem dX6_put_44 : decode cX6_put 44 = .ok (.if_icmp .eq 9, 3) := by decide +kernel
theorem dX6_put_47 : decode cX6_put 47 = .ok (.aload_n 0, 1) := by decide +kernel
theorem dX6_put_48 : decode cX6_put 48 = .ok (.iconst 3, 1) := by decide +kernel
theorem dX6_put_49 : decode cX6_put 49 = .ok (.invokevirtual 129, 3) := by decide +kernel
theorem dX6_put_52 : decode cX6_put 52 = .ok (.ireturn, 1) := by decide +kernel
theorem dX6_put_53 : decode cX6_put 53 = .ok (.iload_n 3, 1) := by decide +kernel
theorem dX6_put_54 : decode cX6_put 54 = .ok (.aload 5, 2) := by decide +kernel
theorem dX6_put_56 : decode cX6_put 56 = .ok (.getfield 133, 3) := by decide +kernel
theorem dX6_put_59 : decode cX6_put 59 = .ok (.arraylength, 1) := by decide +kernel
theorem dX6_put_60 : decode cX6_put 60 = .ok (.invokestatic 84, 3) := by decide +kernel
theorem dX6_put_63 : decode cX6_put 63 = .ok (.ifCond .eq 9, 3) := by decide +kernel
theorem dX6_put_66 : decode cX6_put 66 = .ok (.aload_n 0, 1) := by decide +kernel
theorem dX6_put_67 : decode cX6_put 67 = .ok (.iconst 2, 1) := by decide +kernel
theorem dX6_put_68 : decode cX6_put 68 = .ok (.invokevirtual 129, 3) := by decide +kernel
theorem dX6_put_71 : decode cX6_put 71 = .ok (.ireturn, 1) := by decide +kernel
theorem dX6_put_72 : decode cX6_put 72 = .ok (.aload 5, 2) := by decide +kernel
theorem dX6_put_74 : decode cX6_put 74 = .ok (.getfield 133, 3) := by decide +kernel
theorem dX6_put_77 : decode cX6_put 77 = .ok (.iload_n 3, 1) := by decide +kernel
theorem dX6_put_78 : decode cX6_put 78 = .ok (.aload 5, 2) := by decide +kernel
theorem dX6_put_80 : decode cX6_put 80 = .ok (.iload 4, 2) := by decide +kernel
theorem dX6_put_82 : decode cX6_put 82 = .ok (.invokevirtual 248, 3) := by decide +kernel
theorem dX6_put_85 : decode cX6_put 85 = .ok (.iastore, 1) := by decide +kernel
theorem dX6_put_86 : decode cX6_put 86 = .ok (.iconst 1, 1) := by decide +kernel
theorem dX6_put_87 : decode cX6_put 87 = .ok (.ireturn, 1) := by decide +kernel
theorem dX6_get_0 : decode cX6_get 0 = .ok (.iload_n 1, 1) := by decide +kernel
theorem dX6_get_1 : decode cX6_get 1 = .ok (.iconst 4, 1) := by decide +kernel
theorem dX6_get_2 : decode cX6_get 2 = .ok (.invokestatic 84, 3) := by decide +kernel
theorem dX6_get_5 : decode cX6_get 5 = .ok (.ifCond .ne 11, 3) := by decide +kernel
theorem dX6_get_8 : decode cX6_get 8 = .ok (.iload_n 2, 1) := by decide +kernel
theorem dX6_get_9 : decode cX6_get 9 = .ok (.iconst 3, 1) := by decide +kernel
theorem dX6_get_10 : decode cX6_get 10 = .ok (.invokestatic 84, 3) := by decide +kernel
theorem dX6_get_13 : decode cX6_get 13 = .ok (.ifCond .eq 6, 3) := by decide +kernel
theorem dX6_get_16 : decode cX6_get 16 = .ok (.ldc 168, 2) := by decide +kernel
theorem dX6_get_18 : decode cX6_get 18 = .ok (.ireturn, 1) := by decide +kernel
theorem dX6_get_19 : decode cX6_get 19 = .ok (.aload_n 0, 1) := by decide +kernel
theorem dX6_get_20 : decode cX6_get 20 = .ok (.getfield 63, 3) := by decide +kernel
theorem dX6_get_23 : decode cX6_get 23 = .ok (.iload_n 1, 1) := by decide +kernel
theorem dX6_get_24 : decode cX6_get 24 = .ok (.aaload, 1) := by decide +kernel
theorem dX6_get_25 : decode cX6_get 25 = .ok (.astore 4, 2) := by decide +kernel
theorem dX6_get_27 : decode cX6_get 27 = .ok (.aload 4, 2) := by decide +kernel
theorem dX6_get_29 : decode cX6_get 29 = .ok (.ifnonnull 9, 3) := by decide +kernel
theorem dX6_get_32 : decode cX6_get 32 = .ok (.aload_n 0, 1) := by decide +kernel
theorem dX6_get_33 : decode cX6_get 33 = .ok (.iconst 1, 1) := by decide +kernel
theorem dX6_get_34 : decode cX6_get 34 = .ok (.invokevirtual 251, 3) := by decide +kernel
theorem dX6_get_37 : decode cX6_get 37 = .ok (.ireturn, 1) := by decide +kernel
theorem dX6_get_38 : decode cX6_get 38 = .ok (.aload 4, 2) := by decide +kernel
theorem dX6_get_40 : decode cX6_get 40 = .ok (.getfield 245, 3) := by decide +kernel
theorem dX6_get_43 : decode cX6_get 43 = .ok (.iload_n 2, 1) := by decide +kernel
theorem dX6_get_44 : decode cX6_get 44 = .ok (.if_icmp .eq 9, 3) := by decide +kernel
theorem dX6_get_47 : decode cX6_get 47 = .ok (.aload_n 0, 1) := by decide +kernel
theorem dX6_get_48 : decode cX6_get 48 = .ok (.iconst 3, 1) := by decide +kernel
theorem dX6_get_49 : decode cX6_get 49 = .ok (.invokevirtual 251, 3) := by decide +kernel
theorem dX6_get_52 : decode cX6_get 52 = .ok (.ireturn, 1) := by decide +kernel
theorem dX6_get_53 : decode cX6_get 53 = .ok (.iload_n 3, 1) := by decide +kernel
theorem dX6_get_54 : decode cX6_get 54 = .ok (.aload 4, 2) := by decide +kernel
theorem dX6_get_56 : decode cX6_get 56 = .ok (.getfield 133, 3) := by decide +kernel
theorem dX6_get_59 : decode cX6_get 59 = .ok (.arraylength, 1) := by decide +kernel
theorem dX6_get_60 : decode cX6_get 60 = .ok (.invokestatic 84, 3) := by decide +kernel
theorem dX6_get_63 : decode cX6_get 63 = .ok (.ifCond .eq 9, 3) := by decide +kernel
theorem dX6_get_66 : decode cX6_get 66 = .ok (.aload_n 0, 1) := by decide +kernel
theorem dX6_get_67 : decode cX6_get 67 = .ok (.iconst 2, 1) := by decide +kernel
theorem dX6_get_68 : decode cX6_get 68 = .ok (.invokevirtual 251, 3) := by decide +kernel
theorem dX6_get_71 : decode cX6_get 71 = .ok (.ireturn, 1) := by decide +kernel
theorem dX6_get_72 : decode cX6_get 72 = .ok (.aload 4, 2) := by decide +kernel
theorem dX6_get_74 : decode cX6_get 74 = .ok (.getfield 133, 3) := by decide +kernel
theorem dX6_get_77 : decode cX6_get 77 = .ok (.iload_n 3, 1) := by decide +kernel
theorem dX6_get_78 : decode cX6_get 78 = .ok (.iaload, 1) := by decide +kernel
theorem dX6_get_79 : decode cX6_get 79 = .ok (.ireturn, 1) := by decide +kernel
theorem dX6_copy_0 : decode cX6_copy 0 = .ok (.iload_n 1, 1) := by decide +kernel
theorem dX6_copy_1 : decode cX6_copy 1 = .ok (.iconst 4, 1) := by decide +kernel
theorem dX6_copy_2 : decode cX6_copy 2 = .ok (.invokestatic 84, 3) := by decide +kernel
theorem dX6_copy_5 : decode cX6_copy 5 = .ok (.ifCond .ne 11, 3) := by decide +kernel
theorem dX6_copy_8 : decode cX6_copy 8 = .ok (.iload_n 3, 1) := by decide +kernel
theorem dX6_copy_9 : decode cX6_copy 9 = .ok (.iconst 4, 1) := by decide +kernel
theorem dX6_copy_10 : decode cX6_copy 10 = .ok (.invokestatic 84, 3) := by decide +kernel
theorem dX6_copy_13 : decode cX6_copy 13 = .ok (.ifCond .eq 6, 3) := by decide +kernel
theorem dX6_copy_16 : decode cX6_copy 16 = .ok (.bipush (-2), 2) := by decide +kernel
theorem dX6_copy_18 : decode cX6_copy 18 = .ok (.ireturn, 1) := by decide +kernel
theorem dX6_copy_19 : decode cX6_copy 19 = .ok (.aload_n 0, 1) := by decide +kernel
theorem dX6_copy_20 : decode cX6_copy 20 = .ok (.getfield 63, 3) := by decide +kernel
theorem dX6_copy_23 : decode cX6_copy 23 = .ok (.iload_n 1, 1) := by decide +kernel
theorem dX6_copy_24 : decode cX6_copy 24 = .ok (.aaload, 1) := by decide +kernel
theorem dX6_copy_25 : decode cX6_copy 25 = .ok (.astore 6, 2) := by decide +kernel
theorem dX6_copy_27 : decode cX6_copy 27 = .ok (.aload_n 0, 1) := by decide +kernel
theorem dX6_copy_28 : decode cX6_copy 28 = .ok (.getfield 63, 3) := by decide +kernel
theorem dX6_copy_31 : decode cX6_copy 31 = .ok (.iload_n 3, 1) := by decide +kernel
theorem dX6_copy_32 : decode cX6_copy 32 = .ok (.aaload, 1) := by decide +kernel
theorem dX6_copy_33 : decode cX6_copy 33 = .ok (.astore 7, 2) := by decide +kernel
theorem dX6_copy_35 : decode cX6_copy 35 = .ok (.aload 6, 2) := by decide +kernel
theorem dX6_copy_37 : decode cX6_copy 37 = .ok (.ifnull 8, 3) := by decide +kernel
theorem dX6_copy_40 : decode cX6_copy 40 = .ok (.aload 7, 2) := by decide +kernel
theorem dX6_copy_42 : decode cX6_copy 42 = .ok (.ifnonnull 9, 3) := by decide +kernel
theorem dX6_copy_45 : decode cX6_copy 45 = .ok (.aload_n 0, 1) := by decide +kernel
theorem dX6_copy_46 : decode cX6_copy 46 = .ok (.iconst 1, 1) := by decide +kernel
theorem dX6_copy_47 : decode cX6_copy 47 = .ok (.invokevirtual 129, 3) := by decide +kernel
theorem dX6_copy_50 : decode cX6_copy 50 = .ok (.ireturn, 1) := by decide +kernel
theorem dX6_copy_51 : decode cX6_copy 51 = .ok (.aload 6, 2) := by decide +kernel
theorem dX6_copy_53 : decode cX6_copy 53 = .ok (.getfield 245, 3) := by decide +kernel
theorem dX6_copy_56 : decode cX6_copy 56 = .ok (.aload 7, 2) := by decide +kernel
theorem dX6_copy_58 : decode cX6_copy 58 = .ok (.getfield 245, 3) := by decide +kernel
theorem dX6_copy_61 : decode cX6_copy 61 = .ok (.if_icmp .eq 9, 3) := by decide +kernel
theorem dX6_copy_64 : decode cX6_copy 64 = .ok (.aload_n 0, 1) := by decide +kernel
theorem dX6_copy_65 : decode cX6_copy 65 = .ok (.iconst 4, 1) := by decide +kernel
theorem dX6_copy_66 : decode cX6_copy 66 = .ok (.invokevirtual 129, 3) := by decide +kernel
theorem dX6_copy_69 : decode cX6_copy 69 = .ok (.ireturn, 1) := by decide +kernel
theorem dX6_copy_70 : decode cX6_copy 70 = .ok (.iload 5, 2) := by decide +kernel
theorem dX6_copy_72 : decode cX6_copy 72 = .ok (.ifCond .lt 26, 3) := by decide +kernel
theorem dX6_copy_75 : decode cX6_copy 75 = .ok (.aload 6, 2) := by decide +kernel
theorem dX6_copy_77 : decode cX6_copy 77 = .ok (.iload_n 2, 1) := by decide +kernel
theorem dX6_copy_78 : decode cX6_copy 78 = .ok (.iload 5, 2) := by decide +kernel
theorem dX6_copy_80 : decode cX6_copy 80 = .ok (.invokevirtual 254, 3) := by decide +kernel
theorem dX6_copy_83 : decode cX6_copy 83 = .ok (.ifCond .eq 15, 3) := by decide +kernel
theorem dX6_copy_86 : decode cX6_copy 86 = .ok (.aload 7, 2) := by decide +kernel
theorem dX6_copy_88 : decode cX6_copy 88 = .ok (.iload 4, 2) := by decide +kernel
theorem dX6_copy_90 : decode cX6_copy 90 = .ok (.iload 5, 2) := by decide +kernel
theorem dX6_copy_92 : decode cX6_copy 92 = .ok (.invokevirtual 254, 3) := by decide +kernel
theorem dX6_copy_95 : decode cX6_copy 95 = .ok (.ifCond .ne 9, 3) := by decide +kernel
theorem dX6_copy_98 : decode cX6_copy 98 = .ok (.aload_n 0, 1) := by decide +kernel
theorem dX6_copy_99 : decode cX6_copy 99 = .ok (.iconst 2, 1) := by decide +kernel
theorem dX6_copy_100 : decode cX6_copy 100 = .ok (.invokevirtual 129, 3) := by decide +kernel
theorem dX6_copy_103 : decode cX6_copy 103 = .ok (.ireturn, 1) := by decide +kernel
theorem dX6_copy_104 : decode cX6_copy 104 = .ok (.aload 6, 2) := by decide +kernel
theorem dX6_copy_106 : decode cX6_copy 106 = .ok (.getfield 133, 3) := by decide +kernel
theorem dX6_copy_109 : decode cX6_copy 109 = .ok (.iload_n 2, 1) := by decide +kernel
theorem dX6_copy_110 : decode cX6_copy 110 = .ok (.aload 7, 2) := by decide +kernel
theorem dX6_copy_112 : decode cX6_copy 112 = .ok (.getfield 133, 3) := by decide +kernel
theorem dX6_copy_115 : decode cX6_copy 115 = .ok (.iload 4, 2) := by decide +kernel
theorem dX6_copy_117 : decode cX6_copy 117 = .ok (.iload 5, 2) := by decide +kernel
theorem dX6_copy_119 : decode cX6_copy 119 = .ok (.invokestatic 257, 3) := by decide +kernel
theorem dX6_copy_122 : decode cX6_copy 122 = .ok (.iconst 1, 1) := by decide +kernel
theorem dX6_copy_123 : decode cX6_copy 123 = .ok (.ireturn, 1) := by decide +kernel
theorem dX6_write_0 : decode cX6_write 0 = .ok (.iload_n 1, 1) := by decide +kernel
theorem dX6_write_1 : decode cX6_write 1 = .ok (.bipush 8, 2) := by decide +kernel
theorem dX6_write_3 : decode cX6_write 3 = .ok (.invokestatic 84, 3) := by decide +kernel
theorem dX6_write_6 : decode cX6_write 6 = .ok (.ifCond .ne 11, 3) := by decide +kernel
theorem dX6_write_9 : decode cX6_write 9 = .ok (.iload_n 2, 1) := by decide +kernel
theorem dX6_write_10 : decode cX6_write 10 = .ok (.iconst 4, 1) := by decide +kernel
theorem dX6_write_11 : decode cX6_write 11 = .ok (.invokestatic 84, 3) := by decide +kernel
theorem dX6_write_14 : decode cX6_write 14 = .ok (.ifCond .eq 6, 3) := by decide +kernel
theorem dX6_write_17 : decode cX6_write 17 = .ok (.bipush (-2), 2) := by decide +kernel
theorem dX6_write_19 : decode cX6_write 19 = .ok (.ireturn, 1) := by decide +kernel
theorem dX6_write_20 : decode cX6_write 20 = .ok (.aload_n 0, 1) := by decide +kernel
theorem dX6_write_21 : decode cX6_write 21 = .ok (.getfield 63, 3) := by decide +kernel
theorem dX6_write_24 : decode cX6_write 24 = .ok (.iload_n 2, 1) := by decide +kernel
theorem dX6_write_25 : decode cX6_write 25 = .ok (.aaload, 1) := by decide +kernel
theorem dX6_write_26 : decode cX6_write 26 = .ok (.astore_n 3, 1) := by decide +kernel
theorem dX6_write_27 : decode cX6_write 27 = .ok (.aload_n 3, 1) := by decide +kernel
theorem dX6_write_28 : decode cX6_write 28 = .ok (.ifnonnull 9, 3) := by decide +kernel
theorem dX6_write_31 : decode cX6_write 31 = .ok (.aload_n 0, 1) := by decide +kernel
theorem dX6_write_32 : decode cX6_write 32 = .ok (.iconst 1, 1) := by decide +kernel
theorem dX6_write_33 : decode cX6_write 33 = .ok (.invokevirtual 129, 3) := by decide +kernel
theorem dX6_write_36 : decode cX6_write 36 = .ok (.ireturn, 1) := by decide +kernel
theorem dX6_write_37 : decode cX6_write 37 = .ok (.aload_n 0, 1) := by decide +kernel
theorem dX6_write_38 : decode cX6_write 38 = .ok (.invokevirtual 143, 3) := by decide +kernel
theorem dX6_write_41 : decode cX6_write 41 = .ok (.bipush 24, 2) := by decide +kernel
theorem dX6_write_43 : decode cX6_write 43 = .ok (.aload_n 3, 1) := by decide +kernel
theorem dX6_write_44 : decode cX6_write 44 = .ok (.getfield 133, 3) := by decide +kernel
theorem dX6_write_47 : decode cX6_write 47 = .ok (.arraylength, 1) := by decide +kernel
theorem dX6_write_48 : decode cX6_write 48 = .ok (.invokestatic 263, 3) := by decide +kernel
theorem dX6_write_51 : decode cX6_write 51 = .ok (.istore 4, 2) := by decide +kernel
theorem dX6_write_53 : decode cX6_write 53 = .ok (.iconst 0, 1) := by decide +kernel
theorem dX6_write_54 : decode cX6_write 54 = .ok (.istore 5, 2) := by decide +kernel
theorem dX6_write_56 : decode cX6_write 56 = .ok (.iload 5, 2) := by decide +kernel
theorem dX6_write_58 : decode cX6_write 58 = .ok (.iload 4, 2) := by decide +kernel
theorem dX6_write_60 : decode cX6_write 60 = .ok (.if_icmp .ge 30, 3) := by decide +kernel
theorem dX6_write_63 : decode cX6_write 63 = .ok (.aload_n 3, 1) := by decide +kernel
theorem dX6_write_64 : decode cX6_write 64 = .ok (.getfield 133, 3) := by decide +kernel
theorem dX6_write_67 : decode cX6_write 67 = .ok (.iload 5, 2) := by decide +kernel
theorem dX6_write_69 : decode cX6_write 69 = .ok (.iconst 0, 1) := by decide +kernel
theorem dX6_write_70 : decode cX6_write 70 = .ok (.aload_n 0, 1) := by decide +kernel
theorem dX6_write_71 : decode cX6_write 71 = .ok (.getfield 50, 3) := by decide +kernel
theorem dX6_write_74 : decode cX6_write 74 = .ok (.iload 5, 2) := by decide +kernel
theorem dX6_write_76 : decode cX6_write 76 = .ok (.iload_n 1, 1) := by decide +kernel
theorem dX6_write_77 : decode cX6_write 77 = .ok (.invokevirtual 156, 3) := by decide +kernel
theorem dX6_write_80 : decode cX6_write 80 = .ok (.invokestatic 160, 3) := by decide +kernel
theorem dX6_write_83 : decode cX6_write 83 = .ok (.iastore, 1) := by decide +kernel
theorem dX6_write_84 : decode cX6_write 84 = .ok (.iinc 5 1, 3) := by decide +kernel
theorem dX6_write_87 : decode cX6_write 87 = .ok (.goto (-31), 3) := by decide +kernel
theorem dX6_write_90 : decode cX6_write 90 = .ok (.iload 4, 2) := by decide +kernel
theorem dX6_write_92 : decode cX6_write 92 = .ok (.ireturn, 1) := by decide +kernel
theorem dX6_count_0 : decode cX6_count 0 = .ok (.iload_n 1, 1) := by decide +kernel
theorem dX6_count_1 : decode cX6_count 1 = .ok (.tableswitch 125 0 8 #[51, 59, 67, 75, 83, 88, 96, 115, 120], 51) := by decide +kernel
theorem dX6_count_52 : decode cX6_count 52 = .ok (.aload_n 0, 1) := by decide +kernel
theorem dX6_count_53 : decode cX6_count 53 = .ok (.getfield 24, 3) := by decide +kernel
theorem dX6_count_56 : decode cX6_count 56 = .ok (.getfield 105, 3) := by decide +kernel
theorem dX6_count_59 : decode cX6_count 59 = .ok (.ireturn, 1) := by decide +kernel
theorem dX6_count_60 : decode cX6_count 60 = .ok (.aload_n 0, 1) := by decide +kernel
theorem dX6_count_61 : decode cX6_count 61 = .ok (.getfield 34, 3) := by decide +kernel
theorem dX6_count_64 : decode cX6_count 64 = .ok (.getfield 118, 3) := by decide +kernel
theorem dX6_count_67 : decode cX6_count 67 = .ok (.ireturn, 1) := by decide +kernel
theorem dX6_count_68 : decode cX6_count 68 = .ok (.aload_n 0, 1) := by decide +kernel
theorem dX6_count_69 : decode cX6_count 69 = .ok (.getfield 14, 3) := by decide +kernel
theorem dX6_count_72 : decode cX6_count 72 = .ok (.getfield 92, 3) := by decide +kernel
theorem dX6_count_75 : decode cX6_count 75 = .ok (.ireturn, 1) := by decide +kernel
theorem dX6_count_76 : decode cX6_count 76 = .ok (.aload_n 0, 1) := by decide +kernel
theorem dX6_count_77 : decode cX6_count 77 = .ok (.getfield 18, 3) := by decide +kernel
theorem dX6_count_80 : decode cX6_count 80 = .ok (.getfield 92, 3) := by decide +kernel
theorem dX6_count_83 : decode cX6_count 83 = .ok (.ireturn, 1) := by decide +kernel
theorem dX6_count_84 : decode cX6_count 84 = .ok (.aload_n 0, 1) := by decide +kernel
theorem dX6_count_85 : decode cX6_count 85 = .ok (.getfield 74, 3) := by decide +kernel
theorem dX6_count_88 : decode cX6_count 88 = .ok (.ireturn, 1) := by decide +kernel
theorem dX6_count_89 : decode cX6_count 89 = .ok (.aload_n 0, 1) := by decide +kernel
theorem dX6_count_90 : decode cX6_count 90 = .ok (.getfield 41, 3) := by decide +kernel
theorem dX6_count_93 : decode cX6_count 93 = .ok (.getfield 121, 3) := by decide +kernel
theorem dX6_count_96 : decode cX6_count 96 = .ok (.ireturn, 1) := by decide +kernel
theorem dX6_count_97 : decode cX6_count 97 = .ok (.aload_n 0, 1) := by decide +kernel
theorem dX6_count_98 : decode cX6_count 98 = .ok (.aload_n 0, 1) := by decide +kernel
theorem dX6_count_99 : decode cX6_count 99 = .ok (.getfield 24, 3) := by decide +kernel
theorem dX6_count_102 : decode cX6_count 102 = .ok (.aload_n 0, 1) := by decide +kernel
theorem dX6_count_103 : decode cX6_count 103 = .ok (.getfield 41, 3) := by decide +kernel
theorem dX6_count_106 : decode cX6_count 106 = .ok (.invokevirtual 175, 3) := by decide +kernel
theorem dX6_count_109 : decode cX6_count 109 = .ok (.invokevirtual 178, 3) := by decide +kernel
theorem dX6_count_112 : decode cX6_count 112 = .ok (.invokestatic 182, 3) := by decide +kernel
theorem dX6_count_115 : decode cX6_count 115 = .ok (.ireturn, 1) := by decide +kernel
theorem dX6_count_116 : decode cX6_count 116 = .ok (.aload_n 0, 1) := by decide +kernel
theorem dX6_count_117 : decode cX6_count 117 = .ok (.getfield 78, 3) := by decide +kernel
theorem dX6_count_120 : decode cX6_count 120 = .ok (.ireturn, 1) := by decide +kernel
theorem dX6_count_121 : decode cX6_count 121 = .ok (.aload_n 0, 1) := by decide +kernel
theorem dX6_count_122 : decode cX6_count 122 = .ok (.getfield 81, 3) := by decide +kernel
theorem dX6_count_125 : decode cX6_count 125 = .ok (.ireturn, 1) := by decide +kernel
theorem dX6_count_126 : decode cX6_count 126 = .ok (.bipush (-2), 2) := by decide +kernel
theorem dX6_count_128 : decode cX6_count 128 = .ok (.ireturn, 1) := by decide +kernel
theorem dX6_digest_0 : decode cX6_digest 0 = .ok (.ldc2_w 266, 3) := by decide +kernel
theorem dX6_digest_3 : decode cX6_digest 3 = .ok (.lstore_n 1, 1) := by decide +kernel
theorem dX6_digest_4 : decode cX6_digest 4 = .ok (.iconst 0, 1) := by decide +kernel
theorem dX6_digest_5 : decode cX6_digest 5 = .ok (.istore_n 3, 1) := by decide +kernel
theorem dX6_digest_6 : decode cX6_digest 6 = .ok (.iload_n 3, 1) := by decide +kernel
theorem dX6_digest_7 : decode cX6_digest 7 = .ok (.bipush 8, 2) := by decide +kernel
theorem dX6_digest_9 : decode cX6_digest 9 = .ok (.if_icmp .ge 22, 3) := by decide +kernel
theorem dX6_digest_12 : decode cX6_digest 12 = .ok (.ldc2_w 268, 3) := by decide +kernel
theorem dX6_digest_15 : decode cX6_digest 15 = .ok (.lload_n 1, 1) := by decide +kernel
theorem dX6_digest_16 : decode cX6_digest 16 = .ok (.lmul, 1) := by decide +kernel
theorem dX6_digest_17 : decode cX6_digest 17 = .ok (.aload_n 0, 1) := by decide +kernel
theorem dX6_digest_18 : decode cX6_digest 18 = .ok (.iload_n 3, 1) := by decide +kernel
theorem dX6_digest_19 : decode cX6_digest 19 = .ok (.invokevirtual 270, 3) := by decide +kernel
theorem dX6_digest_22 : decode cX6_digest 22 = .ok (.i2l, 1) := by decide +kernel
theorem dX6_digest_23 : decode cX6_digest 23 = .ok (.ladd, 1) := by decide +kernel
theorem dX6_digest_24 : decode cX6_digest 24 = .ok (.lstore_n 1, 1) := by decide +kernel
theorem dX6_digest_25 : decode cX6_digest 25 = .ok (.iinc 3 1, 3) := by decide +kernel
theorem dX6_digest_28 : decode cX6_digest 28 = .ok (.goto (-22), 3) := by decide +kernel
theorem dX6_digest_31 : decode cX6_digest 31 = .ok (.iconst 0, 1) := by decide +kernel
theorem dX6_digest_32 : decode cX6_digest 32 = .ok (.istore_n 3, 1) := by decide +kernel
theorem dX6_digest_33 : decode cX6_digest 33 = .ok (.iload_n 3, 1) := by decide +kernel
theorem dX6_digest_34 : decode cX6_digest 34 = .ok (.iconst 2, 1) := by decide +kernel
theorem dX6_digest_35 : decode cX6_digest 35 = .ok (.if_icmp .ge 22, 3) := by decide +kernel
theorem dX6_digest_38 : decode cX6_digest 38 = .ok (.ldc2_w 268, 3) := by decide +kernel
theorem dX6_digest_41 : decode cX6_digest 41 = .ok (.lload_n 1, 1) := by decide +kernel
theorem dX6_digest_42 : decode cX6_digest 42 = .ok (.lmul, 1) := by decide +kernel
theorem dX6_digest_43 : decode cX6_digest 43 = .ok (.aload_n 0, 1) := by decide +kernel
theorem dX6_digest_44 : decode cX6_digest 44 = .ok (.iload_n 3, 1) := by decide +kernel
theorem dX6_digest_45 : decode cX6_digest 45 = .ok (.invokevirtual 273, 3) := by decide +kernel
theorem dX6_digest_48 : decode cX6_digest 48 = .ok (.i2l, 1) := by decide +kernel
theorem dX6_digest_49 : decode cX6_digest 49 = .ok (.ladd, 1) := by decide +kernel
theorem dX6_digest_50 : decode cX6_digest 50 = .ok (.lstore_n 1, 1) := by decide +kernel
theorem dX6_digest_51 : decode cX6_digest 51 = .ok (.iinc 3 1, 3) := by decide +kernel
theorem dX6_digest_54 : decode cX6_digest 54 = .ok (.goto (-21), 3) := by decide +kernel
theorem dX6_digest_57 : decode cX6_digest 57 = .ok (.iconst 0, 1) := by decide +kernel
theorem dX6_digest_58 : decode cX6_digest 58 = .ok (.istore_n 3, 1) := by decide +kernel
theorem dX6_digest_59 : decode cX6_digest 59 = .ok (.iload_n 3, 1) := by decide +kernel
theorem dX6_digest_60 : decode cX6_digest 60 = .ok (.bipush 8, 2) := by decide +kernel
theorem dX6_digest_62 : decode cX6_digest 62 = .ok (.if_icmp .ge 72, 3) := by decide +kernel
theorem dX6_digest_65 : decode cX6_digest 65 = .ok (.ldc2_w 268, 3) := by decide +kernel
theorem dX6_digest_68 : decode cX6_digest 68 = .ok (.lload_n 1, 1) := by decide +kernel
theorem dX6_digest_69 : decode cX6_digest 69 = .ok (.lmul, 1) := by decide +kernel
theorem dX6_digest_70 : decode cX6_digest 70 = .ok (.aload_n 0, 1) := by decide +kernel
theorem dX6_digest_71 : decode cX6_digest 71 = .ok (.iconst 3, 1) := by decide +kernel
theorem dX6_digest_72 : decode cX6_digest 72 = .ok (.iload_n 3, 1) := by decide +kernel
theorem dX6_digest_73 : decode cX6_digest 73 = .ok (.iconst 0, 1) := by decide +kernel
theorem dX6_digest_74 : decode cX6_digest 74 = .ok (.invokevirtual 276, 3) := by decide +kernel
theorem dX6_digest_77 : decode cX6_digest 77 = .ok (.i2l, 1) := by decide +kernel
theorem dX6_digest_78 : decode cX6_digest 78 = .ok (.ladd, 1) := by decide +kernel
theorem dX6_digest_79 : decode cX6_digest 79 = .ok (.lstore_n 1, 1) := by decide +kernel
theorem dX6_digest_80 : decode cX6_digest 80 = .ok (.ldc2_w 268, 3) := by decide +kernel
theorem dX6_digest_83 : decode cX6_digest 83 = .ok (.lload_n 1, 1) := by decide +kernel
theorem dX6_digest_84 : decode cX6_digest 84 = .ok (.lmul, 1) := by decide +kernel
theorem dX6_digest_85 : decode cX6_digest 85 = .ok (.aload_n 0, 1) := by decide +kernel
theorem dX6_digest_86 : decode cX6_digest 86 = .ok (.bipush 12, 2) := by decide +kernel
theorem dX6_digest_88 : decode cX6_digest 88 = .ok (.iload_n 3, 1) := by decide +kernel
theorem dX6_digest_89 : decode cX6_digest 89 = .ok (.iconst 0, 1) := by decide +kernel
theorem dX6_digest_90 : decode cX6_digest 90 = .ok (.invokevirtual 276, 3) := by decide +kernel
theorem dX6_digest_93 : decode cX6_digest 93 = .ok (.i2l, 1) := by decide +kernel
theorem dX6_digest_94 : decode cX6_digest 94 = .ok (.ladd, 1) := by decide +kernel
theorem dX6_digest_95 : decode cX6_digest 95 = .ok (.lstore_n 1, 1) := by decide +kernel
theorem dX6_digest_96 : decode cX6_digest 96 = .ok (.ldc2_w 268, 3) := by decide +kernel
theorem dX6_digest_99 : decode cX6_digest 99 = .ok (.lload_n 1, 1) := by decide +kernel
theorem dX6_digest_100 : decode cX6_digest 100 = .ok (.lmul, 1) := by decide +kernel
theorem dX6_digest_101 : decode cX6_digest 101 = .ok (.aload_n 0, 1) := by decide +kernel
theorem dX6_digest_102 : decode cX6_digest 102 = .ok (.bipush 23, 2) := by decide +kernel
theorem dX6_digest_104 : decode cX6_digest 104 = .ok (.iload_n 3, 1) := by decide +kernel
theorem dX6_digest_105 : decode cX6_digest 105 = .ok (.iconst 0, 1) := by decide +kernel
theorem dX6_digest_106 : decode cX6_digest 106 = .ok (.invokevirtual 276, 3) := by decide +kernel
theorem dX6_digest_109 : decode cX6_digest 109 = .ok (.i2l, 1) := by decide +kernel
theorem dX6_digest_110 : decode cX6_digest 110 = .ok (.ladd, 1) := by decide +kernel
theorem dX6_digest_111 : decode cX6_digest 111 = .ok (.lstore_n 1, 1) := by decide +kernel
theorem dX6_digest_112 : decode cX6_digest 112 = .ok (.ldc2_w 268, 3) := by decide +kernel
theorem dX6_digest_115 : decode cX6_digest 115 = .ok (.lload_n 1, 1) := by decide +kernel
theorem dX6_digest_116 : decode cX6_digest 116 = .ok (.lmul, 1) := by decide +kernel
theorem dX6_digest_117 : decode cX6_digest 117 = .ok (.aload_n 0, 1) := by decide +kernel
theorem dX6_digest_118 : decode cX6_digest 118 = .ok (.bipush 23, 2) := by decide +kernel
theorem dX6_digest_120 : decode cX6_digest 120 = .ok (.iload_n 3, 1) := by decide +kernel
theorem dX6_digest_121 : decode cX6_digest 121 = .ok (.iconst 1, 1) := by decide +kernel
theorem dX6_digest_122 : decode cX6_digest 122 = .ok (.invokevirtual 276, 3) := by decide +kernel
theorem dX6_digest_125 : decode cX6_digest 125 = .ok (.i2l, 1) := by decide +kernel
theorem dX6_digest_126 : decode cX6_digest 126 = .ok (.ladd, 1) := by decide +kernel
theorem dX6_digest_127 : decode cX6_digest 127 = .ok (.lstore_n 1, 1) := by decide +kernel
theorem dX6_digest_128 : decode cX6_digest 128 = .ok (.iinc 3 1, 3) := by decide +kernel
theorem dX6_digest_131 : decode cX6_digest 131 = .ok (.goto (-72), 3) := by decide +kernel
theorem dX6_digest_134 : decode cX6_digest 134 = .ok (.iconst 0, 1) := by decide +kernel
theorem dX6_digest_135 : decode cX6_digest 135 = .ok (.istore_n 3, 1) := by decide +kernel
theorem dX6_digest_136 : decode cX6_digest 136 = .ok (.iload_n 3, 1) := by decide +kernel
theorem dX6_digest_137 : decode cX6_digest 137 = .ok (.bipush 24, 2) := by decide +kernel
theorem dX6_digest_139 : decode cX6_digest 139 = .ok (.if_icmp .ge 22, 3) := by decide +kernel
theorem dX6_digest_142 : decode cX6_digest 142 = .ok (.ldc2_w 268, 3) := by decide +kernel
theorem dX6_digest_145 : decode cX6_digest 145 = .ok (.lload_n 1, 1) := by decide +kernel
theorem dX6_digest_146 : decode cX6_digest 146 = .ok (.lmul, 1) := by decide +kernel
theorem dX6_digest_147 : decode cX6_digest 147 = .ok (.aload_n 0, 1) := by decide +kernel
theorem dX6_digest_148 : decode cX6_digest 148 = .ok (.iload_n 3, 1) := by decide +kernel
theorem dX6_digest_149 : decode cX6_digest 149 = .ok (.invokevirtual 279, 3) := by decide +kernel
theorem dX6_digest_152 : decode cX6_digest 152 = .ok (.i2l, 1) := by decide +kernel
theorem dX6_digest_153 : decode cX6_digest 153 = .ok (.ladd, 1) := by decide +kernel
theorem dX6_digest_154 : decode cX6_digest 154 = .ok (.lstore_n 1, 1) := by decide +kernel
theorem dX6_digest_155 : decode cX6_digest 155 = .ok (.iinc 3 1, 3) := by decide +kernel
theorem dX6_digest_158 : decode cX6_digest 158 = .ok (.goto (-22), 3) := by decide +kernel
theorem dX6_digest_161 : decode cX6_digest 161 = .ok (.aload_n 0, 1) := by decide +kernel
theorem dX6_digest_162 : decode cX6_digest 162 = .ok (.aload_n 0, 1) := by decide +kernel
theorem dX6_digest_163 : decode cX6_digest 163 = .ok (.lload_n 1, 1) := by decide +kernel
theorem dX6_digest_164 : decode cX6_digest 164 = .ok (.invokevirtual 282, 3) := by decide +kernel
theorem dX6_digest_167 : decode cX6_digest 167 = .ok (.invokevirtual 286, 3) := by decide +kernel
theorem dX6_digest_170 : decode cX6_digest 170 = .ok (.lstore_n 1, 1) := by decide +kernel
theorem dX6_digest_171 : decode cX6_digest 171 = .ok (.iconst 0, 1) := by decide +kernel
theorem dX6_digest_172 : decode cX6_digest 172 = .ok (.istore_n 3, 1) := by decide +kernel
theorem dX6_digest_173 : decode cX6_digest 173 = .ok (.iload_n 3, 1) := by decide +kernel
theorem dX6_digest_174 : decode cX6_digest 174 = .ok (.iconst 4, 1) := by decide +kernel
theorem dX6_digest_175 : decode cX6_digest 175 = .ok (.if_icmp .ge 22, 3) := by decide +kernel
theorem dX6_digest_178 : decode cX6_digest 178 = .ok (.ldc2_w 268, 3) := by decide +kernel
theorem dX6_digest_181 : decode cX6_digest 181 = .ok (.lload_n 1, 1) := by decide +kernel
theorem dX6_digest_182 : decode cX6_digest 182 = .ok (.lmul, 1) := by decide +kernel
theorem dX6_digest_183 : decode cX6_digest 183 = .ok (.aload_n 0, 1) := by decide +kernel
theorem dX6_digest_184 : decode cX6_digest 184 = .ok (.iload_n 3, 1) := by decide +kernel
theorem dX6_digest_185 : decode cX6_digest 185 = .ok (.invokevirtual 289, 3) := by decide +kernel
theorem dX6_digest_188 : decode cX6_digest 188 = .ok (.i2l, 1) := by decide +kernel
theorem dX6_digest_189 : decode cX6_digest 189 = .ok (.ladd, 1) := by decide +kernel
theorem dX6_digest_190 : decode cX6_digest 190 = .ok (.lstore_n 1, 1) := by decide +kernel
theorem dX6_digest_191 : decode cX6_digest 191 = .ok (.iinc 3 1, 3) := by decide +kernel
theorem dX6_digest_194 : decode cX6_digest 194 = .ok (.goto (-21), 3) := by decide +kernel
theorem dX6_digest_197 : decode cX6_digest 197 = .ok (.ldc2_w 268, 3) := by decide +kernel
theorem dX6_digest_200 : decode cX6_digest 200 = .ok (.lload_n 1, 1) := by decide +kernel
theorem dX6_digest_201 : decode cX6_digest 201 = .ok (.lmul, 1) := by decide +kernel
theorem dX6_digest_202 : decode cX6_digest 202 = .ok (.aload_n 0, 1) := by decide +kernel
theorem dX6_digest_203 : decode cX6_digest 203 = .ok (.invokevirtual 292, 3) := by decide +kernel
theorem dX6_digest_206 : decode cX6_digest 206 = .ok (.i2l, 1) := by decide +kernel
theorem dX6_digest_207 : decode cX6_digest 207 = .ok (.ladd, 1) := by decide +kernel
theorem dX6_digest_208 : decode cX6_digest 208 = .ok (.lstore_n 1, 1) := by decide +kernel
theorem dX6_digest_209 : decode cX6_digest 209 = .ok (.ldc2_w 268, 3) := by decide +kernel
theorem dX6_digest_212 : decode cX6_digest 212 = .ok (.lload_n 1, 1) := by decide +kernel
theorem dX6_digest_213 : decode cX6_digest 213 = .ok (.lmul, 1) := by decide +kernel
theorem dX6_digest_214 : decode cX6_digest 214 = .ok (.aload_n 0, 1) := by decide +kernel
theorem dX6_digest_215 : decode cX6_digest 215 = .ok (.invokevirtual 295, 3) := by decide +kernel
theorem dX6_digest_218 : decode cX6_digest 218 = .ok (.i2l, 1) := by decide +kernel
theorem dX6_digest_219 : decode cX6_digest 219 = .ok (.ladd, 1) := by decide +kernel
theorem dX6_digest_220 : decode cX6_digest 220 = .ok (.lstore_n 1, 1) := by decide +kernel
theorem dX6_digest_221 : decode cX6_digest 221 = .ok (.ldc2_w 268, 3) := by decide +kernel
theorem dX6_digest_224 : decode cX6_digest 224 = .ok (.lload_n 1, 1) := by decide +kernel
theorem dX6_digest_225 : decode cX6_digest 225 = .ok (.lmul, 1) := by decide +kernel
theorem dX6_digest_226 : decode cX6_digest 226 = .ok (.aload_n 0, 1) := by decide +kernel
theorem dX6_digest_227 : decode cX6_digest 227 = .ok (.iconst 0, 1) := by decide +kernel
theorem dX6_digest_228 : decode cX6_digest 228 = .ok (.invokevirtual 298, 3) := by decide +kernel
theorem dX6_digest_231 : decode cX6_digest 231 = .ok (.i2l, 1) := by decide +kernel
theorem dX6_digest_232 : decode cX6_digest 232 = .ok (.ladd, 1) := by decide +kernel
theorem dX6_digest_233 : decode cX6_digest 233 = .ok (.lstore_n 1, 1) := by decide +kernel
theorem dX6_digest_234 : decode cX6_digest 234 = .ok (.ldc2_w 268, 3) := by decide +kernel
theorem dX6_digest_237 : decode cX6_digest 237 = .ok (.lload_n 1, 1) := by decide +kernel
theorem dX6_digest_238 : decode cX6_digest 238 = .ok (.lmul, 1) := by decide +kernel
theorem dX6_digest_239 : decode cX6_digest 239 = .ok (.aload_n 0, 1) := by decide +kernel
theorem dX6_digest_240 : decode cX6_digest 240 = .ok (.iconst 1, 1) := by decide +kernel
theorem dX6_digest_241 : decode cX6_digest 241 = .ok (.invokevirtual 298, 3) := by decide +kernel
theorem dX6_digest_244 : decode cX6_digest 244 = .ok (.i2l, 1) := by decide +kernel
theorem dX6_digest_245 : decode cX6_digest 245 = .ok (.ladd, 1) := by decide +kernel
theorem dX6_digest_246 : decode cX6_digest 246 = .ok (.lstore_n 1, 1) := by decide +kernel
theorem dX6_digest_247 : decode cX6_digest 247 = .ok (.ldc2_w 268, 3) := by decide +kernel
theorem dX6_digest_250 : decode cX6_digest 250 = .ok (.lload_n 1, 1) := by decide +kernel
theorem dX6_digest_251 : decode cX6_digest 251 = .ok (.lmul, 1) := by decide +kernel
theorem dX6_digest_252 : decode cX6_digest 252 = .ok (.aload_n 0, 1) := by decide +kernel
theorem dX6_digest_253 : decode cX6_digest 253 = .ok (.iconst 0, 1) := by decide +kernel
theorem dX6_digest_254 : decode cX6_digest 254 = .ok (.invokevirtual 301, 3) := by decide +kernel
theorem dX6_digest_257 : decode cX6_digest 257 = .ok (.i2l, 1) := by decide +kernel
theorem dX6_digest_258 : decode cX6_digest 258 = .ok (.ladd, 1) := by decide +kernel
theorem dX6_digest_259 : decode cX6_digest 259 = .ok (.lstore_n 1, 1) := by decide +kernel
theorem dX6_digest_260 : decode cX6_digest 260 = .ok (.ldc2_w 268, 3) := by decide +kernel
theorem dX6_digest_263 : decode cX6_digest 263 = .ok (.lload_n 1, 1) := by decide +kernel
theorem dX6_digest_264 : decode cX6_digest 264 = .ok (.lmul, 1) := by decide +kernel
theorem dX6_digest_265 : decode cX6_digest 265 = .ok (.aload_n 0, 1) := by decide +kernel
theorem dX6_digest_266 : decode cX6_digest 266 = .ok (.iconst 1, 1) := by decide +kernel
theorem dX6_digest_267 : decode cX6_digest 267 = .ok (.invokevirtual 301, 3) := by decide +kernel
theorem dX6_digest_270 : decode cX6_digest 270 = .ok (.i2l, 1) := by decide +kernel
theorem dX6_digest_271 : decode cX6_digest 271 = .ok (.ladd, 1) := by decide +kernel
theorem dX6_digest_272 : decode cX6_digest 272 = .ok (.lstore_n 1, 1) := by decide +kernel
theorem dX6_digest_273 : decode cX6_digest 273 = .ok (.ldc2_w 268, 3) := by decide +kernel
theorem dX6_digest_276 : decode cX6_digest 276 = .ok (.lload_n 1, 1) := by decide +kernel
theorem dX6_digest_277 : decode cX6_digest 277 = .ok (.lmul, 1) := by decide +kernel
theorem dX6_digest_278 : decode cX6_digest 278 = .ok (.aload_n 0, 1) := by decide +kernel
theorem dX6_digest_279 : decode cX6_digest 279 = .ok (.iconst (-1), 1) := by decide +kernel
theorem dX6_digest_280 : decode cX6_digest 280 = .ok (.invokevirtual 304, 3) := by decide +kernel
theorem dX6_digest_283 : decode cX6_digest 283 = .ok (.i2l, 1) := by decide +kernel
theorem dX6_digest_284 : decode cX6_digest 284 = .ok (.ladd, 1) := by decide +kernel
theorem dX6_digest_285 : decode cX6_digest 285 = .ok (.lstore_n 1, 1) := by decide +kernel
theorem dX6_digest_286 : decode cX6_digest 286 = .ok (.ldc2_w 268, 3) := by decide +kernel
theorem dX6_digest_289 : decode cX6_digest 289 = .ok (.lload_n 1, 1) := by decide +kernel
theorem dX6_digest_290 : decode cX6_digest 290 = .ok (.lmul, 1) := by decide +kernel
theorem dX6_digest_291 : decode cX6_digest 291 = .ok (.aload_n 0, 1) := by decide +kernel
theorem dX6_digest_292 : decode cX6_digest 292 = .ok (.iconst 0, 1) := by decide +kernel
theorem dX6_digest_293 : decode cX6_digest 293 = .ok (.invokevirtual 304, 3) := by decide +kernel
theorem dX6_digest_296 : decode cX6_digest 296 = .ok (.i2l, 1) := by decide +kernel
theorem dX6_digest_297 : decode cX6_digest 297 = .ok (.ladd, 1) := by decide +kernel
theorem dX6_digest_298 : decode cX6_digest 298 = .ok (.lstore_n 1, 1) := by decide +kernel
theorem dX6_digest_299 : decode cX6_digest 299 = .ok (.ldc2_w 268, 3) := by decide +kernel
theorem dX6_digest_302 : decode cX6_digest 302 = .ok (.lload_n 1, 1) := by decide +kernel
theorem dX6_digest_303 : decode cX6_digest 303 = .ok (.lmul, 1) := by decide +kernel
theorem dX6_digest_304 : decode cX6_digest 304 = .ok (.aload_n 0, 1) := by decide +kernel
theorem dX6_digest_305 : decode cX6_digest 305 = .ok (.invokevirtual 307, 3) := by decide +kernel
theorem dX6_digest_308 : decode cX6_digest 308 = .ok (.i2l, 1) := by decide +kernel
theorem dX6_digest_309 : decode cX6_digest 309 = .ok (.ladd, 1) := by decide +kernel
theorem dX6_digest_310 : decode cX6_digest 310 = .ok (.lstore_n 1, 1) := by decide +kernel
theorem dX6_digest_311 : decode cX6_digest 311 = .ok (.ldc2_w 268, 3) := by decide +kernel
theorem dX6_digest_314 : decode cX6_digest 314 = .ok (.lload_n 1, 1) := by decide +kernel
theorem dX6_digest_315 : decode cX6_digest 315 = .ok (.lmul, 1) := by decide +kernel
theorem dX6_digest_316 : decode cX6_digest 316 = .ok (.aload_n 0, 1) := by decide +kernel
theorem dX6_digest_317 : decode cX6_digest 317 = .ok (.bipush 7, 2) := by decide +kernel
theorem dX6_digest_319 : decode cX6_digest 319 = .ok (.bipush 9, 2) := by decide +kernel
theorem dX6_digest_321 : decode cX6_digest 321 = .ok (.iconst 0, 1) := by decide +kernel
theorem dX6_digest_322 : decode cX6_digest 322 = .ok (.invokevirtual 310, 3) := by decide +kernel
theorem dX6_digest_325 : decode cX6_digest 325 = .ok (.i2l, 1) := by decide +kernel
theorem dX6_digest_326 : decode cX6_digest 326 = .ok (.ladd, 1) := by decide +kernel
theorem dX6_digest_327 : decode cX6_digest 327 = .ok (.lstore_n 1, 1) := by decide +kernel
theorem dX6_digest_328 : decode cX6_digest 328 = .ok (.ldc2_w 268, 3) := by decide +kernel
theorem dX6_digest_331 : decode cX6_digest 331 = .ok (.lload_n 1, 1) := by decide +kernel
theorem dX6_digest_332 : decode cX6_digest 332 = .ok (.lmul, 1) := by decide +kernel
theorem dX6_digest_333 : decode cX6_digest 333 = .ok (.aload_n 0, 1) := by decide +kernel
theorem dX6_digest_334 : decode cX6_digest 334 = .ok (.bipush 7, 2) := by decide +kernel
theorem dX6_digest_336 : decode cX6_digest 336 = .ok (.bipush 9, 2) := by decide +kernel
theorem dX6_digest_338 : decode cX6_digest 338 = .ok (.iconst 1, 1) := by decide +kernel
theorem dX6_digest_339 : decode cX6_digest 339 = .ok (.invokevirtual 310, 3) := by decide +kernel
theorem dX6_digest_342 : decode cX6_digest 342 = .ok (.i2l, 1) := by decide +kernel
theorem dX6_digest_343 : decode cX6_digest 343 = .ok (.ladd, 1) := by decide +kernel
theorem dX6_digest_344 : decode cX6_digest 344 = .ok (.lreturn, 1) := by decide +kernel
theorem dX6_digestOfTales_0 : decode cX6_digestOfTales 0 = .ok (.lload_n 1, 1) := by decide +kernel
theorem dX6_digestOfTales_1 : decode cX6_digestOfTales 1 = .ok (.lstore_n 3, 1) := by decide +kernel
theorem dX6_digestOfTales_2 : decode cX6_digestOfTales 2 = .ok (.iconst 0, 1) := by decide +kernel
theorem dX6_digestOfTales_3 : decode cX6_digestOfTales 3 = .ok (.istore 5, 2) := by decide +kernel
theorem dX6_digestOfTales_5 : decode cX6_digestOfTales 5 = .ok (.iload 5, 2) := by decide +kernel
theorem dX6_digestOfTales_7 : decode cX6_digestOfTales 7 = .ok (.aload_n 0, 1) := by decide +kernel
theorem dX6_digestOfTales_8 : decode cX6_digestOfTales 8 = .ok (.getfield 24, 3) := by decide +kernel
theorem dX6_digestOfTales_11 : decode cX6_digestOfTales 11 = .ok (.getfield 105, 3) := by decide +kernel
theorem dX6_digestOfTales_14 : decode cX6_digestOfTales 14 = .ok (.if_icmp .ge 145, 3) := by decide +kernel
theorem dX6_digestOfTales_17 : decode cX6_digestOfTales 17 = .ok (.iconst 0, 1) := by decide +kernel
theorem dX6_digestOfTales_18 : decode cX6_digestOfTales 18 = .ok (.istore 6, 2) := by decide +kernel
theorem dX6_digestOfTales_20 : decode cX6_digestOfTales 20 = .ok (.iload 6, 2) := by decide +kernel
theorem dX6_digestOfTales_22 : decode cX6_digestOfTales 22 = .ok (.iconst 4, 1) := by decide +kernel
theorem dX6_digestOfTales_23 : decode cX6_digestOfTales 23 = .ok (.if_icmp .ge 25, 3) := by decide +kernel
theorem dX6_digestOfTales_26 : decode cX6_digestOfTales 26 = .ok (.ldc2_w 268, 3) := by decide +kernel
theorem dX6_digestOfTales_29 : decode cX6_digestOfTales 29 = .ok (.lload_n 3, 1) := by decide +kernel
theorem dX6_digestOfTales_30 : decode cX6_digestOfTales 30 = .ok (.lmul, 1) := by decide +kernel
theorem dX6_digestOfTales_31 : decode cX6_digestOfTales 31 = .ok (.aload_n 0, 1) := by decide +kernel
theorem dX6_digestOfTales_32 : decode cX6_digestOfTales 32 = .ok (.iload 5, 2) := by decide +kernel
theorem dX6_digestOfTales_34 : decode cX6_digestOfTales 34 = .ok (.iload 6, 2) := by decide +kernel
theorem dX6_digestOfTales_36 : decode cX6_digestOfTales 36 = .ok (.invokevirtual 313, 3) := by decide +kernel
theorem dX6_digestOfTales_39 : decode cX6_digestOfTales 39 = .ok (.i2l, 1) := by decide +kernel
theorem dX6_digestOfTales_40 : decode cX6_digestOfTales 40 = .ok (.ladd, 1) := by decide +kernel
theorem dX6_digestOfTales_41 : decode cX6_digestOfTales 41 = .ok (.lstore_n 3, 1) := by decide +kernel
theorem dX6_digestOfTales_42 : decode cX6_digestOfTales 42 = .ok (.iinc 6 1, 3) := by decide +kernel
theorem dX6_digestOfTales_45 : decode cX6_digestOfTales 45 = .ok (.goto (-25), 3) := by decide +kernel
theorem dX6_digestOfTales_48 : decode cX6_digestOfTales 48 = .ok (.iconst 0, 1) := by decide +kernel
theorem dX6_digestOfTales_49 : decode cX6_digestOfTales 49 = .ok (.istore 6, 2) := by decide +kernel
theorem dX6_digestOfTales_51 : decode cX6_digestOfTales 51 = .ok (.iload 6, 2) := by decide +kernel
theorem dX6_digestOfTales_53 : decode cX6_digestOfTales 53 = .ok (.iconst 3, 1) := by decide +kernel
theorem dX6_digestOfTales_54 : decode cX6_digestOfTales 54 = .ok (.if_icmp .ge 25, 3) := by decide +kernel
theorem dX6_digestOfTales_57 : decode cX6_digestOfTales 57 = .ok (.ldc2_w 268, 3) := by decide +kernel
theorem dX6_digestOfTales_60 : decode cX6_digestOfTales 60 = .ok (.lload_n 3, 1) := by decide +kernel
theorem dX6_digestOfTales_61 : decode cX6_digestOfTales 61 = .ok (.lmul, 1) := by decide +kernel
theorem dX6_digestOfTales_62 : decode cX6_digestOfTales 62 = .ok (.aload_n 0, 1) := by decide +kernel
theorem dX6_digestOfTales_63 : decode cX6_digestOfTales 63 = .ok (.iload 5, 2) := by decide +kernel
theorem dX6_digestOfTales_65 : decode cX6_digestOfTales 65 = .ok (.iload 6, 2) := by decide +kernel
theorem dX6_digestOfTales_67 : decode cX6_digestOfTales 67 = .ok (.invokevirtual 316, 3) := by decide +kernel
theorem dX6_digestOfTales_70 : decode cX6_digestOfTales 70 = .ok (.i2l, 1) := by decide +kernel
theorem dX6_digestOfTales_71 : decode cX6_digestOfTales 71 = .ok (.ladd, 1) := by decide +kernel
theorem dX6_digestOfTales_72 : decode cX6_digestOfTales 72 = .ok (.lstore_n 3, 1) := by decide +kernel
theorem dX6_digestOfTales_73 : decode cX6_digestOfTales 73 = .ok (.iinc 6 1, 3) := by decide +kernel
theorem dX6_digestOfTales_76 : decode cX6_digestOfTales 76 = .ok (.goto (-25), 3) := by decide +kernel
theorem dX6_digestOfTales_79 : decode cX6_digestOfTales 79 = .ok (.ldc2_w 268, 3) := by decide +kernel
theorem dX6_digestOfTales_82 : decode cX6_digestOfTales 82 = .ok (.lload_n 3, 1) := by decide +kernel
theorem dX6_digestOfTales_83 : decode cX6_digestOfTales 83 = .ok (.lmul, 1) := by decide +kernel
theorem dX6_digestOfTales_84 : decode cX6_digestOfTales 84 = .ok (.aload_n 0, 1) := by decide +kernel
theorem dX6_digestOfTales_85 : decode cX6_digestOfTales 85 = .ok (.iload 5, 2) := by decide +kernel
theorem dX6_digestOfTales_87 : decode cX6_digestOfTales 87 = .ok (.iconst 0, 1) := by decide +kernel
theorem dX6_digestOfTales_88 : decode cX6_digestOfTales 88 = .ok (.invokevirtual 319, 3) := by decide +kernel
theorem dX6_digestOfTales_91 : decode cX6_digestOfTales 91 = .ok (.i2l, 1) := by decide +kernel
theorem dX6_digestOfTales_92 : decode cX6_digestOfTales 92 = .ok (.ladd, 1) := by decide +kernel
theorem dX6_digestOfTales_93 : decode cX6_digestOfTales 93 = .ok (.lstore_n 3, 1) := by decide +kernel
theorem dX6_digestOfTales_94 : decode cX6_digestOfTales 94 = .ok (.ldc2_w 268, 3) := by decide +kernel
theorem dX6_digestOfTales_97 : decode cX6_digestOfTales 97 = .ok (.lload_n 3, 1) := by decide +kernel
theorem dX6_digestOfTales_98 : decode cX6_digestOfTales 98 = .ok (.lmul, 1) := by decide +kernel
theorem dX6_digestOfTales_99 : decode cX6_digestOfTales 99 = .ok (.aload_n 0, 1) := by decide +kernel
theorem dX6_digestOfTales_100 : decode cX6_digestOfTales 100 = .ok (.iload 5, 2) := by decide +kernel
theorem dX6_digestOfTales_102 : decode cX6_digestOfTales 102 = .ok (.iconst 1, 1) := by decide +kernel
theorem dX6_digestOfTales_103 : decode cX6_digestOfTales 103 = .ok (.invokevirtual 319, 3) := by decide +kernel
theorem dX6_digestOfTales_106 : decode cX6_digestOfTales 106 = .ok (.i2l, 1) := by decide +kernel
theorem dX6_digestOfTales_107 : decode cX6_digestOfTales 107 = .ok (.ladd, 1) := by decide +kernel
theorem dX6_digestOfTales_108 : decode cX6_digestOfTales 108 = .ok (.lstore_n 3, 1) := by decide +kernel
theorem dX6_digestOfTales_109 : decode cX6_digestOfTales 109 = .ok (.ldc2_w 268, 3) := by decide +kernel
theorem dX6_digestOfTales_112 : decode cX6_digestOfTales 112 = .ok (.lload_n 3, 1) := by decide +kernel
theorem dX6_digestOfTales_113 : decode cX6_digestOfTales 113 = .ok (.lmul, 1) := by decide +kernel
theorem dX6_digestOfTales_114 : decode cX6_digestOfTales 114 = .ok (.aload_n 0, 1) := by decide +kernel
theorem dX6_digestOfTales_115 : decode cX6_digestOfTales 115 = .ok (.iload 5, 2) := by decide +kernel
theorem dX6_digestOfTales_117 : decode cX6_digestOfTales 117 = .ok (.iconst 0, 1) := by decide +kernel
theorem dX6_digestOfTales_118 : decode cX6_digestOfTales 118 = .ok (.invokevirtual 322, 3) := by decide +kernel
theorem dX6_digestOfTales_121 : decode cX6_digestOfTales 121 = .ok (.i2l, 1) := by decide +kernel
theorem dX6_digestOfTales_122 : decode cX6_digestOfTales 122 = .ok (.ladd, 1) := by decide +kernel
theorem dX6_digestOfTales_123 : decode cX6_digestOfTales 123 = .ok (.lstore_n 3, 1) := by decide +kernel
theorem dX6_digestOfTales_124 : decode cX6_digestOfTales 124 = .ok (.ldc2_w 268, 3) := by decide +kernel
theorem dX6_digestOfTales_127 : decode cX6_digestOfTales 127 = .ok (.lload_n 3, 1) := by decide +kernel
theorem dX6_digestOfTales_128 : decode cX6_digestOfTales 128 = .ok (.lmul, 1) := by decide +kernel
theorem dX6_digestOfTales_129 : decode cX6_digestOfTales 129 = .ok (.aload_n 0, 1) := by decide +kernel
theorem dX6_digestOfTales_130 : decode cX6_digestOfTales 130 = .ok (.iload 5, 2) := by decide +kernel
theorem dX6_digestOfTales_132 : decode cX6_digestOfTales 132 = .ok (.iconst 1, 1) := by decide +kernel
theorem dX6_digestOfTales_133 : decode cX6_digestOfTales 133 = .ok (.invokevirtual 322, 3) := by decide +kernel
theorem dX6_digestOfTales_136 : decode cX6_digestOfTales 136 = .ok (.i2l, 1) := by decide +kernel
theorem dX6_digestOfTales_137 : decode cX6_digestOfTales 137 = .ok (.ladd, 1) := by decide +kernel
theorem dX6_digestOfTales_138 : decode cX6_digestOfTales 138 = .ok (.lstore_n 3, 1) := by decide +kernel
theorem dX6_digestOfTales_139 : decode cX6_digestOfTales 139 = .ok (.ldc2_w 268, 3) := by decide +kernel
theorem dX6_digestOfTales_142 : decode cX6_digestOfTales 142 = .ok (.lload_n 3, 1) := by decide +kernel
theorem dX6_digestOfTales_143 : decode cX6_digestOfTales 143 = .ok (.lmul, 1) := by decide +kernel
theorem dX6_digestOfTales_144 : decode cX6_digestOfTales 144 = .ok (.aload_n 0, 1) := by decide +kernel
theorem dX6_digestOfTales_145 : decode cX6_digestOfTales 145 = .ok (.iload 5, 2) := by decide +kernel
theorem dX6_digestOfTales_147 : decode cX6_digestOfTales 147 = .ok (.invokevirtual 325, 3) := by decide +kernel
theorem dX6_digestOfTales_150 : decode cX6_digestOfTales 150 = .ok (.i2l, 1) := by decide +kernel
theorem dX6_digestOfTales_151 : decode cX6_digestOfTales 151 = .ok (.ladd, 1) := by decide +kernel
theorem dX6_digestOfTales_152 : decode cX6_digestOfTales 152 = .ok (.lstore_n 3, 1) := by decide +kernel
theorem dX6_digestOfTales_153 : decode cX6_digestOfTales 153 = .ok (.iinc 5 1, 3) := by decide +kernel
theorem dX6_digestOfTales_156 : decode cX6_digestOfTales 156 = .ok (.goto (-151), 3) := by decide +kernel
theorem dX6_digestOfTales_159 : decode cX6_digestOfTales 159 = .ok (.lload_n 3, 1) := by decide +kernel
theorem dX6_digestOfTales_160 : decode cX6_digestOfTales 160 = .ok (.lreturn, 1) := by decide +kernel
theorem dX6_digestOfCharges_0 : decode cX6_digestOfCharges 0 = .ok (.lload_n 1, 1) := by decide +kernel
theorem dX6_digestOfCharges_1 : decode cX6_digestOfCharges 1 = .ok (.lstore_n 3, 1) := by decide +kernel
theorem dX6_digestOfCharges_2 : decode cX6_digestOfCharges 2 = .ok (.aload_n 0, 1) := by decide +kernel
theorem dX6_digestOfCharges_3 : decode cX6_digestOfCharges 3 = .ok (.iconst 5, 1) := by decide +kernel
theorem dX6_digestOfCharges_4 : decode cX6_digestOfCharges 4 = .ok (.invokevirtual 234, 3) := by decide +kernel
theorem dX6_digestOfCharges_7 : decode cX6_digestOfCharges 7 = .ok (.iconst 0, 1) := by decide +kernel
theorem dX6_digestOfCharges_8 : decode cX6_digestOfCharges 8 = .ok (.istore 5, 2) := by decide +kernel
theorem dX6_digestOfCharges_10 : decode cX6_digestOfCharges 10 = .ok (.iload 5, 2) := by decide +kernel
theorem dX6_digestOfCharges_12 : decode cX6_digestOfCharges 12 = .ok (.aload_n 0, 1) := by decide +kernel
theorem dX6_digestOfCharges_13 : decode cX6_digestOfCharges 13 = .ok (.getfield 34, 3) := by decide +kernel
theorem dX6_digestOfCharges_16 : decode cX6_digestOfCharges 16 = .ok (.getfield 118, 3) := by decide +kernel
theorem dX6_digestOfCharges_19 : decode cX6_digestOfCharges 19 = .ok (.if_icmp .ge 121, 3) := by decide +kernel
theorem dX6_digestOfCharges_22 : decode cX6_digestOfCharges 22 = .ok (.ldc2_w 268, 3) := by decide +kernel
theorem dX6_digestOfCharges_25 : decode cX6_digestOfCharges 25 = .ok (.lload_n 3, 1) := by decide +kernel
theorem dX6_digestOfCharges_26 : decode cX6_digestOfCharges 26 = .ok (.lmul, 1) := by decide +kernel
theorem dX6_digestOfCharges_27 : decode cX6_digestOfCharges 27 = .ok (.aload_n 0, 1) := by decide +kernel
theorem dX6_digestOfCharges_28 : decode cX6_digestOfCharges 28 = .ok (.iload 5, 2) := by decide +kernel
theorem dX6_digestOfCharges_30 : decode cX6_digestOfCharges 30 = .ok (.iconst 0, 1) := by decide +kernel
theorem dX6_digestOfCharges_31 : decode cX6_digestOfCharges 31 = .ok (.invokevirtual 328, 3) := by decide +kernel
theorem dX6_digestOfCharges_34 : decode cX6_digestOfCharges 34 = .ok (.i2l, 1) := by decide +kernel
theorem dX6_digestOfCharges_35 : decode cX6_digestOfCharges 35 = .ok (.ladd, 1) := by decide +kernel
theorem dX6_digestOfCharges_36 : decode cX6_digestOfCharges 36 = .ok (.lstore_n 3, 1) := by decide +kernel
theorem dX6_digestOfCharges_37 : decode cX6_digestOfCharges 37 = .ok (.ldc2_w 268, 3) := by decide +kernel
theorem dX6_digestOfCharges_40 : decode cX6_digestOfCharges 40 = .ok (.lload_n 3, 1) := by decide +kernel
theorem dX6_digestOfCharges_41 : decode cX6_digestOfCharges 41 = .ok (.lmul, 1) := by decide +kernel
theorem dX6_digestOfCharges_42 : decode cX6_digestOfCharges 42 = .ok (.aload_n 0, 1) := by decide +kernel
theorem dX6_digestOfCharges_43 : decode cX6_digestOfCharges 43 = .ok (.iload 5, 2) := by decide +kernel
theorem dX6_digestOfCharges_45 : decode cX6_digestOfCharges 45 = .ok (.iconst 1, 1) := by decide +kernel
theorem dX6_digestOfCharges_46 : decode cX6_digestOfCharges 46 = .ok (.invokevirtual 328, 3) := by decide +kernel
theorem dX6_digestOfCharges_49 : decode cX6_digestOfCharges 49 = .ok (.i2l, 1) := by decide +kernel
theorem dX6_digestOfCharges_50 : decode cX6_digestOfCharges 50 = .ok (.ladd, 1) := by decide +kernel
theorem dX6_digestOfCharges_51 : decode cX6_digestOfCharges 51 = .ok (.lstore_n 3, 1) := by decide +kernel
theorem dX6_digestOfCharges_52 : decode cX6_digestOfCharges 52 = .ok (.ldc2_w 268, 3) := by decide +kernel
theorem dX6_digestOfCharges_55 : decode cX6_digestOfCharges 55 = .ok (.lload_n 3, 1) := by decide +kernel
theorem dX6_digestOfCharges_56 : decode cX6_digestOfCharges 56 = .ok (.lmul, 1) := by decide +kernel
theorem dX6_digestOfCharges_57 : decode cX6_digestOfCharges 57 = .ok (.aload_n 0, 1) := by decide +kernel
theorem dX6_digestOfCharges_58 : decode cX6_digestOfCharges 58 = .ok (.iload 5, 2) := by decide +kernel
theorem dX6_digestOfCharges_60 : decode cX6_digestOfCharges 60 = .ok (.invokevirtual 331, 3) := by decide +kernel
theorem dX6_digestOfCharges_63 : decode cX6_digestOfCharges 63 = .ok (.i2l, 1) := by decide +kernel
theorem dX6_digestOfCharges_64 : decode cX6_digestOfCharges 64 = .ok (.ladd, 1) := by decide +kernel
theorem dX6_digestOfCharges_65 : decode cX6_digestOfCharges 65 = .ok (.lstore_n 3, 1) := by decide +kernel
theorem dX6_digestOfCharges_66 : decode cX6_digestOfCharges 66 = .ok (.ldc2_w 268, 3) := by decide +kernel
theorem dX6_digestOfCharges_69 : decode cX6_digestOfCharges 69 = .ok (.lload_n 3, 1) := by decide +kernel
theorem dX6_digestOfCharges_70 : decode cX6_digestOfCharges 70 = .ok (.lmul, 1) := by decide +kernel
theorem dX6_digestOfCharges_71 : decode cX6_digestOfCharges 71 = .ok (.aload_n 0, 1) := by decide +kernel
theorem dX6_digestOfCharges_72 : decode cX6_digestOfCharges 72 = .ok (.iload 5, 2) := by decide +kernel
theorem dX6_digestOfCharges_74 : decode cX6_digestOfCharges 74 = .ok (.iconst 0, 1) := by decide +kernel
theorem dX6_digestOfCharges_75 : decode cX6_digestOfCharges 75 = .ok (.invokevirtual 334, 3) := by decide +kernel
theorem dX6_digestOfCharges_78 : decode cX6_digestOfCharges 78 = .ok (.i2l, 1) := by decide +kernel
theorem dX6_digestOfCharges_79 : decode cX6_digestOfCharges 79 = .ok (.ladd, 1) := by decide +kernel
theorem dX6_digestOfCharges_80 : decode cX6_digestOfCharges 80 = .ok (.lstore_n 3, 1) := by decide +kernel
theorem dX6_digestOfCharges_81 : decode cX6_digestOfCharges 81 = .ok (.ldc2_w 268, 3) := by decide +kernel
theorem dX6_digestOfCharges_84 : decode cX6_digestOfCharges 84 = .ok (.lload_n 3, 1) := by decide +kernel
theorem dX6_digestOfCharges_85 : decode cX6_digestOfCharges 85 = .ok (.lmul, 1) := by decide +kernel
theorem dX6_digestOfCharges_86 : decode cX6_digestOfCharges 86 = .ok (.aload_n 0, 1) := by decide +kernel
theorem dX6_digestOfCharges_87 : decode cX6_digestOfCharges 87 = .ok (.iload 5, 2) := by decide +kernel
theorem dX6_digestOfCharges_89 : decode cX6_digestOfCharges 89 = .ok (.iconst 1, 1) := by decide +kernel
theorem dX6_digestOfCharges_90 : decode cX6_digestOfCharges 90 = .ok (.invokevirtual 334, 3) := by decide +kernel
theorem dX6_digestOfCharges_93 : decode cX6_digestOfCharges 93 = .ok (.i2l, 1) := by decide +kernel
theorem dX6_digestOfCharges_94 : decode cX6_digestOfCharges 94 = .ok (.ladd, 1) := by decide +kernel
theorem dX6_digestOfCharges_95 : decode cX6_digestOfCharges 95 = .ok (.lstore_n 3, 1) := by decide +kernel
theorem dX6_digestOfCharges_96 : decode cX6_digestOfCharges 96 = .ok (.ldc2_w 268, 3) := by decide +kernel
theorem dX6_digestOfCharges_99 : decode cX6_digestOfCharges 99 = .ok (.lload_n 3, 1) := by decide +kernel
theorem dX6_digestOfCharges_100 : decode cX6_digestOfCharges 100 = .ok (.lmul, 1) := by decide +kernel
theorem dX6_digestOfCharges_101 : decode cX6_digestOfCharges 101 = .ok (.aload_n 0, 1) := by decide +kernel
theorem dX6_digestOfCharges_102 : decode cX6_digestOfCharges 102 = .ok (.aload_n 0, 1) := by decide +kernel
theorem dX6_digestOfCharges_103 : decode cX6_digestOfCharges 103 = .ok (.getfield 70, 3) := by decide +kernel
theorem dX6_digestOfCharges_106 : decode cX6_digestOfCharges 106 = .ok (.iload 5, 2) := by decide +kernel
theorem dX6_digestOfCharges_108 : decode cX6_digestOfCharges 108 = .ok (.laload, 1) := by decide +kernel
theorem dX6_digestOfCharges_109 : decode cX6_digestOfCharges 109 = .ok (.iconst 0, 1) := by decide +kernel
theorem dX6_digestOfCharges_110 : decode cX6_digestOfCharges 110 = .ok (.invokevirtual 237, 3) := by decide +kernel
theorem dX6_digestOfCharges_113 : decode cX6_digestOfCharges 113 = .ok (.ladd, 1) := by decide +kernel
theorem dX6_digestOfCharges_114 : decode cX6_digestOfCharges 114 = .ok (.lstore_n 3, 1) := by decide +kernel
theorem dX6_digestOfCharges_115 : decode cX6_digestOfCharges 115 = .ok (.ldc2_w 268, 3) := by decide +kernel
theorem dX6_digestOfCharges_118 : decode cX6_digestOfCharges 118 = .ok (.lload_n 3, 1) := by decide +kernel
theorem dX6_digestOfCharges_119 : decode cX6_digestOfCharges 119 = .ok (.lmul, 1) := by decide +kernel
theorem dX6_digestOfCharges_120 : decode cX6_digestOfCharges 120 = .ok (.aload_n 0, 1) := by decide +kernel
theorem dX6_digestOfCharges_121 : decode cX6_digestOfCharges 121 = .ok (.aload_n 0, 1) := by decide +kernel
theorem dX6_digestOfCharges_122 : decode cX6_digestOfCharges 122 = .ok (.getfield 70, 3) := by decide +kernel
theorem dX6_digestOfCharges_125 : decode cX6_digestOfCharges 125 = .ok (.iload 5, 2) := by decide +kernel
theorem dX6_digestOfCharges_127 : decode cX6_digestOfCharges 127 = .ok (.laload, 1) := by decide +kernel
theorem dX6_digestOfCharges_128 : decode cX6_digestOfCharges 128 = .ok (.iconst 1, 1) := by decide +kernel
theorem dX6_digestOfCharges_129 : decode cX6_digestOfCharges 129 = .ok (.invokevirtual 237, 3) := by decide +kernel
theorem dX6_digestOfCharges_132 : decode cX6_digestOfCharges 132 = .ok (.ladd, 1) := by decide +kernel
theorem dX6_digestOfCharges_133 : decode cX6_digestOfCharges 133 = .ok (.lstore_n 3, 1) := by decide +kernel
theorem dX6_digestOfCharges_134 : decode cX6_digestOfCharges 134 = .ok (.iinc 5 1, 3) := by decide +kernel
theorem dX6_digestOfCharges_137 : decode cX6_digestOfCharges 137 = .ok (.goto (-127), 3) := by decide +kernel
theorem dX6_digestOfCharges_140 : decode cX6_digestOfCharges 140 = .ok (.lload_n 3, 1) := by decide +kernel
theorem dX6_digestOfCharges_141 : decode cX6_digestOfCharges 141 = .ok (.lreturn, 1) := by decide +kernel
theorem dX6_outside_0 : decode cX6_outside 0 = .ok (.iload_n 0, 1) := by decide +kernel
theorem dX6_outside_1 : decode cX6_outside 1 = .ok (.ifCond .lt 8, 3) := by decide +kernel
theorem dX6_outside_4 : decode cX6_outside 4 = .ok (.iload_n 0, 1) := by decide +kernel
theorem dX6_outside_5 : decode cX6_outside 5 = .ok (.iload_n 1, 1) := by decide +kernel
theorem dX6_outside_6 : decode cX6_outside 6 = .ok (.if_icmp .lt 7, 3) := by decide +kernel
theorem dX6_outside_9 : decode cX6_outside 9 = .ok (.iconst 1, 1) := by decide +kernel
theorem dX6_outside_10 : decode cX6_outside 10 = .ok (.goto 4, 3) := by decide +kernel
theorem dX6_outside_13 : decode cX6_outside 13 = .ok (.iconst 0, 1) := by decide +kernel
theorem dX6_outside_14 : decode cX6_outside 14 = .ok (.ireturn, 1) := by decide +kernel
theorem dX6_finding_0 : decode cX6_finding 0 = .ok (.aload_n 0, 1) := by decide +kernel
theorem dX6_finding_1 : decode cX6_finding 1 = .ok (.iload_n 1, 1) := by decide +kernel
theorem dX6_finding_2 : decode cX6_finding 2 = .ok (.putfield 81, 3) := by decide +kernel
theorem dX6_finding_5 : decode cX6_finding 5 = .ok (.bipush (-10), 2) := by decide +kernel
theorem dX6_finding_7 : decode cX6_finding 7 = .ok (.iload_n 1, 1) := by decide +kernel
theorem dX6_finding_8 : decode cX6_finding 8 = .ok (.isub, 1) := by decide +kernel
theorem dX6_finding_9 : decode cX6_finding 9 = .ok (.ireturn, 1) := by decide +kernel
theorem dX6_findingAsLeast_0 : decode cX6_findingAsLeast 0 = .ok (.aload_n 0, 1) := by decide +kernel
theorem dX6_findingAsLeast_1 : decode cX6_findingAsLeast 1 = .ok (.iload_n 1, 1) := by decide +kernel
theorem dX6_findingAsLeast_2 : decode cX6_findingAsLeast 2 = .ok (.putfield 81, 3) := by decide +kernel
theorem dX6_findingAsLeast_5 : decode cX6_findingAsLeast 5 = .ok (.ldc 168, 2) := by decide +kernel
theorem dX6_findingAsLeast_7 : decode cX6_findingAsLeast 7 = .ok (.ireturn, 1) := by decide +kernel
theorem dX6_textOf_0 : decode cX6_textOf 0 = .ok (.iload_n 1, 1) := by decide +kernel
theorem dX6_textOf_1 : decode cX6_textOf 1 = .ok (.ifCond .ne 10, 3) := by decide +kernel
theorem dX6_textOf_4 : decode cX6_textOf 4 = .ok (.aload_n 0, 1) := by decide +kernel
theorem dX6_textOf_5 : decode cX6_textOf 5 = .ok (.getfield 14, 3) := by decide +kernel
theorem dX6_textOf_8 : decode cX6_textOf 8 = .ok (.goto 7, 3) := by decide +kernel
theorem dX6_textOf_11 : decode cX6_textOf 11 = .ok (.aload_n 0, 1) := by decide +kernel
theorem dX6_textOf_12 : decode cX6_textOf 12 = .ok (.getfield 18, 3) := by decide +kernel
theorem dX6_textOf_15 : decode cX6_textOf 15 = .ok (.areturn, 1) := by decide +kernel
theorem dX6_tellAnew_0 : decode cX6_tellAnew 0 = .ok (.aload_n 0, 1) := by decide +kernel
theorem dX6_tellAnew_1 : decode cX6_tellAnew 1 = .ok (.getfield 24, 3) := by decide +kernel
theorem dX6_tellAnew_4 : decode cX6_tellAnew 4 = .ok (.aload_n 0, 1) := by decide +kernel
theorem dX6_tellAnew_5 : decode cX6_tellAnew 5 = .ok (.getfield 14, 3) := by decide +kernel
theorem dX6_tellAnew_8 : decode cX6_tellAnew 8 = .ok (.invokevirtual 337, 3) := by decide +kernel
theorem dX6_tellAnew_11 : decode cX6_tellAnew 11 = .ok (.aload_n 0, 1) := by decide +kernel
theorem dX6_tellAnew_12 : decode cX6_tellAnew 12 = .ok (.getfield 34, 3) := by decide +kernel
theorem dX6_tellAnew_15 : decode cX6_tellAnew 15 = .ok (.aload_n 0, 1) := by decide +kernel
theorem dX6_tellAnew_16 : decode cX6_tellAnew 16 = .ok (.getfield 18, 3) := by decide +kernel
theorem dX6_tellAnew_19 : decode cX6_tellAnew 19 = .ok (.invokevirtual 341, 3) := by decide +kernel
theorem dX6_tellAnew_22 : decode cX6_tellAnew 22 = .ok (.return_, 1) := by decide +kernel
theorem dX6_hearAsTold_0 : decode cX6_hearAsTold 0 = .ok (.aload_n 0, 1) := by decide +kernel
theorem dX6_hearAsTold_1 : decode cX6_hearAsTold 1 = .ok (.getfield 50, 3) := by decide +kernel
theorem dX6_hearAsTold_4 : decode cX6_hearAsTold 4 = .ok (.aload_n 0, 1) := by decide +kernel
theorem dX6_hearAsTold_5 : decode cX6_hearAsTold 5 = .ok (.getfield 24, 3) := by decide +kernel
theorem dX6_hearAsTold_8 : decode cX6_hearAsTold 8 = .ok (.aload_n 0, 1) := by decide +kernel
theorem dX6_hearAsTold_9 : decode cX6_hearAsTold 9 = .ok (.getfield 41, 3) := by decide +kernel
theorem dX6_hearAsTold_12 : decode cX6_hearAsTold 12 = .ok (.invokevirtual 175, 3) := by decide +kernel
theorem dX6_hearAsTold_15 : decode cX6_hearAsTold 15 = .ok (.invokevirtual 342, 3) := by decide +kernel
theorem dX6_hearAsTold_18 : decode cX6_hearAsTold 18 = .ok (.return_, 1) := by decide +kernel
theorem dX6_clearedBits_0 : decode cX6_clearedBits 0 = .ok (.aload_n 0, 1) := by decide +kernel
theorem dX6_clearedBits_1 : decode cX6_clearedBits 1 = .ok (.getfield 50, 3) := by decide +kernel
theorem dX6_clearedBits_4 : decode cX6_clearedBits 4 = .ok (.aload_n 1, 1) := by decide +kernel
theorem dX6_clearedBits_5 : decode cX6_clearedBits 5 = .ok (.iload_n 2, 1) := by decide +kernel
theorem dX6_clearedBits_6 : decode cX6_clearedBits 6 = .ok (.invokevirtual 342, 3) := by decide +kernel
theorem dX6_clearedBits_9 : decode cX6_clearedBits 9 = .ok (.iconst 0, 1) := by decide +kernel
theorem dX6_clearedBits_10 : decode cX6_clearedBits 10 = .ok (.istore_n 3, 1) := by decide +kernel
theorem dX6_clearedBits_11 : decode cX6_clearedBits 11 = .ok (.iconst 0, 1) := by decide +kernel
theorem dX6_clearedBits_12 : decode cX6_clearedBits 12 = .ok (.istore 4, 2) := by decide +kernel
theorem dX6_clearedBits_14 : decode cX6_clearedBits 14 = .ok (.iload 4, 2) := by decide +kernel
theorem dX6_clearedBits_16 : decode cX6_clearedBits 16 = .ok (.aload_n 0, 1) := by decide +kernel
theorem dX6_clearedBits_17 : decode cX6_clearedBits 17 = .ok (.getfield 34, 3) := by decide +kernel
theorem dX6_clearedBits_20 : decode cX6_clearedBits 20 = .ok (.getfield 118, 3) := by decide +kernel
theorem dX6_clearedBits_23 : decode cX6_clearedBits 23 = .ok (.if_icmp .ge 50, 3) := by decide +kernel
theorem dX6_clearedBits_26 : decode cX6_clearedBits 26 = .ok (.aload_n 0, 1) := by decide +kernel
theorem dX6_clearedBits_27 : decode cX6_clearedBits 27 = .ok (.getfield 50, 3) := by decide +kernel
theorem dX6_clearedBits_30 : decode cX6_clearedBits 30 = .ok (.aload_n 0, 1) := by decide +kernel
theorem dX6_clearedBits_31 : decode cX6_clearedBits 31 = .ok (.getfield 34, 3) := by decide +kernel
theorem dX6_clearedBits_34 : decode cX6_clearedBits 34 = .ok (.getfield 119, 3) := by decide +kernel
theorem dX6_clearedBits_37 : decode cX6_clearedBits 37 = .ok (.iload 4, 2) := by decide +kernel
theorem dX6_clearedBits_39 : decode cX6_clearedBits 39 = .ok (.iaload, 1) := by decide +kernel
theorem dX6_clearedBits_40 : decode cX6_clearedBits 40 = .ok (.aload_n 0, 1) := by decide +kernel
theorem dX6_clearedBits_41 : decode cX6_clearedBits 41 = .ok (.getfield 34, 3) := by decide +kernel
theorem dX6_clearedBits_44 : decode cX6_clearedBits 44 = .ok (.getfield 120, 3) := by decide +kernel
theorem dX6_clearedBits_47 : decode cX6_clearedBits 47 = .ok (.iload 4, 2) := by decide +kernel
theorem dX6_clearedBits_49 : decode cX6_clearedBits 49 = .ok (.iaload, 1) := by decide +kernel
theorem dX6_clearedBits_50 : decode cX6_clearedBits 50 = .ok (.invokevirtual 169, 3) := by decide +kernel
theorem dX6_clearedBits_53 : decode cX6_clearedBits 53 = .ok (.aload_n 0, 1) := by decide +kernel
theorem dX6_clearedBits_54 : decode cX6_clearedBits 54 = .ok (.getfield 74, 3) := by decide +kernel
theorem dX6_clearedBits_57 : decode cX6_clearedBits 57 = .ok (.if_icmp .lt 10, 3) := by decide +kernel
theorem dX6_clearedBits_60 : decode cX6_clearedBits 60 = .ok (.iload_n 3, 1) := by decide +kernel
theorem dX6_clearedBits_61 : decode cX6_clearedBits 61 = .ok (.iconst 1, 1) := by decide +kernel
theorem dX6_clearedBits_62 : decode cX6_clearedBits 62 = .ok (.iload 4, 2) := by decide +kernel
theorem dX6_clearedBits_64 : decode cX6_clearedBits 64 = .ok (.ishl, 1) := by decide +kernel
theorem dX6_clearedBits_65 : decode cX6_clearedBits 65 = .ok (.ior, 1) := by decide +kernel
theorem dX6_clearedBits_66 : decode cX6_clearedBits 66 = .ok (.istore_n 3, 1) := by decide +kernel
theorem dX6_clearedBits_67 : decode cX6_clearedBits 67 = .ok (.iinc 4 1, 3) := by decide +kernel
theorem dX6_clearedBits_70 : decode cX6_clearedBits 70 = .ok (.goto (-56), 3) := by decide +kernel
theorem dX6_clearedBits_73 : decode cX6_clearedBits 73 = .ok (.iload_n 3, 1) := by decide +kernel
theorem dX6_clearedBits_74 : decode cX6_clearedBits 74 = .ok (.ireturn, 1) := by decide +kernel
theorem dX6_comesOutSo_0 : decode cX6_comesOutSo 0 = .ok (.iconst 0, 1) := by decide +kernel
theorem dX6_comesOutSo_1 : decode cX6_comesOutSo 1 = .ok (.istore_n 2, 1) := by decide +kernel
theorem dX6_comesOutSo_2 : decode cX6_comesOutSo 2 = .ok (.iload_n 2, 1) := by decide +kernel
theorem dX6_comesOutSo_3 : decode cX6_comesOutSo 3 = .ok (.aload_n 0, 1) := by decide +kernel
theorem dX6_comesOutSo_4 : decode cX6_comesOutSo 4 = .ok (.getfield 78, 3) := by decide +kernel
theorem dX6_comesOutSo_7 : decode cX6_comesOutSo 7 = .ok (.if_icmp .ge 46, 3) := by decide +kernel
theorem dX6_comesOutSo_10 : decode cX6_comesOutSo 10 = .ok (.aload_n 0, 1) := by decide +kernel
theorem dX6_comesOutSo_11 : decode cX6_comesOutSo 11 = .ok (.getfield 54, 3) := by decide +kernel
theorem dX6_comesOutSo_14 : decode cX6_comesOutSo 14 = .ok (.iload_n 2, 1) := by decide +kernel
theorem dX6_comesOutSo_15 : decode cX6_comesOutSo 15 = .ok (.iaload, 1) := by decide +kernel
theorem dX6_comesOutSo_16 : decode cX6_comesOutSo 16 = .ok (.aload_n 0, 1) := by decide +kernel
theorem dX6_comesOutSo_17 : decode cX6_comesOutSo 17 = .ok (.getfield 34, 3) := by decide +kernel
theorem dX6_comesOutSo_20 : decode cX6_comesOutSo 20 = .ok (.getfield 118, 3) := by decide +kernel
theorem dX6_comesOutSo_23 : decode cX6_comesOutSo 23 = .ok (.if_icmp .ge 22, 3) := by decide +kernel
theorem dX6_comesOutSo_26 : decode cX6_comesOutSo 26 = .ok (.iload_n 1, 1) := by decide +kernel
theorem dX6_comesOutSo_27 : decode cX6_comesOutSo 27 = .ok (.aload_n 0, 1) := by decide +kernel
theorem dX6_comesOutSo_28 : decode cX6_comesOutSo 28 = .ok (.getfield 54, 3) := by decide +kernel
theorem dX6_comesOutSo_31 : decode cX6_comesOutSo 31 = .ok (.iload_n 2, 1) := by decide +kernel
theorem dX6_comesOutSo_32 : decode cX6_comesOutSo 32 = .ok (.iaload, 1) := by decide +kernel
theorem dX6_comesOutSo_33 : decode cX6_comesOutSo 33 = .ok (.ishr, 1) := by decide +kernel
theorem dX6_comesOutSo_34 : decode cX6_comesOutSo 34 = .ok (.iconst 1, 1) := by decide +kernel
theorem dX6_comesOutSo_35 : decode cX6_comesOutSo 35 = .ok (.iand, 1) := by decide +kernel
theorem dX6_comesOutSo_36 : decode cX6_comesOutSo 36 = .ok (.aload_n 0, 1) := by decide +kernel
theorem dX6_comesOutSo_37 : decode cX6_comesOutSo 37 = .ok (.getfield 58, 3) := by decide +kernel
theorem dX6_comesOutSo_40 : decode cX6_comesOutSo 40 = .ok (.iload_n 2, 1) := by decide +kernel
theorem dX6_comesOutSo_41 : decode cX6_comesOutSo 41 = .ok (.iaload, 1) := by decide +kernel
theorem dX6_comesOutSo_42 : decode cX6_comesOutSo 42 = .ok (.if_icmp .eq 5, 3) := by decide +kernel
theorem dX6_comesOutSo_45 : decode cX6_comesOutSo 45 = .ok (.iconst 0, 1) := by decide +kernel
theorem dX6_comesOutSo_46 : decode cX6_comesOutSo 46 = .ok (.ireturn, 1) := by decide +kernel
theorem dX6_comesOutSo_47 : decode cX6_comesOutSo 47 = .ok (.iinc 2 1, 3) := by decide +kernel
theorem dX6_comesOutSo_50 : decode cX6_comesOutSo 50 = .ok (.goto (-48), 3) := by decide +kernel
theorem dX6_comesOutSo_53 : decode cX6_comesOutSo 53 = .ok (.iconst 1, 1) := by decide +kernel
theorem dX6_comesOutSo_54 : decode cX6_comesOutSo 54 = .ok (.ireturn, 1) := by decide +kernel
theorem dX6_sparedBits_0 : decode cX6_sparedBits 0 = .ok (.aload_n 0, 1) := by decide +kernel
theorem dX6_sparedBits_1 : decode cX6_sparedBits 1 = .ok (.getfield 41, 3) := by decide +kernel
theorem dX6_sparedBits_4 : decode cX6_sparedBits 4 = .ok (.invokevirtual 175, 3) := by decide +kernel
theorem dX6_sparedBits_7 : decode cX6_sparedBits 7 = .ok (.istore_n 1, 1) := by decide +kernel
theorem dX6_sparedBits_8 : decode cX6_sparedBits 8 = .ok (.iconst 1, 1) := by decide +kernel
theorem dX6_sparedBits_9 : decode cX6_sparedBits 9 = .ok (.aload_n 0, 1) := by decide +kernel
theorem dX6_sparedBits_10 : decode cX6_sparedBits 10 = .ok (.getfield 34, 3) := by decide +kernel
theorem dX6_sparedBits_13 : decode cX6_sparedBits 13 = .ok (.getfield 118, 3) := by decide +kernel
theorem dX6_sparedBits_16 : decode cX6_sparedBits 16 = .ok (.ishl, 1) := by decide +kernel
theorem dX6_sparedBits_17 : decode cX6_sparedBits 17 = .ok (.iconst 1, 1) := by decide +kernel
theorem dX6_sparedBits_18 : decode cX6_sparedBits 18 = .ok (.isub, 1) := by decide +kernel
theorem dX6_sparedBits_19 : decode cX6_sparedBits 19 = .ok (.istore_n 2, 1) := by decide +kernel
theorem dX6_sparedBits_20 : decode cX6_sparedBits 20 = .ok (.aload_n 0, 1) := by decide +kernel
theorem dX6_sparedBits_21 : decode cX6_sparedBits 21 = .ok (.aload_n 0, 1) := by decide +kernel
theorem dX6_sparedBits_22 : decode cX6_sparedBits 22 = .ok (.getfield 24, 3) := by decide +kernel
theorem dX6_sparedBits_25 : decode cX6_sparedBits 25 = .ok (.iload_n 1, 1) := by decide +kernel
theorem dX6_sparedBits_26 : decode cX6_sparedBits 26 = .ok (.invokevirtual 178, 3) := by decide +kernel
theorem dX6_sparedBits_29 : decode cX6_sparedBits 29 = .ok (.iload_n 2, 1) := by decide +kernel
theorem dX6_sparedBits_30 : decode cX6_sparedBits 30 = .ok (.if_icmp .ne 5, 3) := by decide +kernel
theorem dX6_sparedBits_33 : decode cX6_sparedBits 33 = .ok (.iconst 0, 1) := by decide +kernel
theorem dX6_sparedBits_34 : decode cX6_sparedBits 34 = .ok (.ireturn, 1) := by decide +kernel
theorem dX6_sparedBits_35 : decode cX6_sparedBits 35 = .ok (.iconst 0, 1) := by decide +kernel
theorem dX6_sparedBits_36 : decode cX6_sparedBits 36 = .ok (.istore_n 3, 1) := by decide +kernel
theorem dX6_sparedBits_37 : decode cX6_sparedBits 37 = .ok (.iload_n 3, 1) := by decide +kernel
theorem dX6_sparedBits_38 : decode cX6_sparedBits 38 = .ok (.aload_n 0, 1) := by decide +kernel
theorem dX6_sparedBits_39 : decode cX6_sparedBits 39 = .ok (.getfield 41, 3) := by decide +kernel
theorem dX6_sparedBits_42 : decode cX6_sparedBits 42 = .ok (.getfield 121, 3) := by decide +kernel
theorem dX6_sparedBits_45 : decode cX6_sparedBits 45 = .ok (.if_icmp .ge 32, 3) := by decide +kernel
theorem dX6_sparedBits_48 : decode cX6_sparedBits 48 = .ok (.aload_n 0, 1) := by decide +kernel
theorem dX6_sparedBits_49 : decode cX6_sparedBits 49 = .ok (.aload_n 0, 1) := by decide +kernel
theorem dX6_sparedBits_50 : decode cX6_sparedBits 50 = .ok (.getfield 24, 3) := by decide +kernel
theorem dX6_sparedBits_53 : decode cX6_sparedBits 53 = .ok (.iload_n 1, 1) := by decide +kernel
theorem dX6_sparedBits_54 : decode cX6_sparedBits 54 = .ok (.iconst 1, 1) := by decide +kernel
theorem dX6_sparedBits_55 : decode cX6_sparedBits 55 = .ok (.iload_n 3, 1) := by decide +kernel
theorem dX6_sparedBits_56 : decode cX6_sparedBits 56 = .ok (.ishl, 1) := by decide +kernel
theorem dX6_sparedBits_57 : decode cX6_sparedBits 57 = .ok (.iconst (-1), 1) := by decide +kernel
theorem dX6_sparedBits_58 : decode cX6_sparedBits 58 = .ok (.ixor, 1) := by decide +kernel
theorem dX6_sparedBits_59 : decode cX6_sparedBits 59 = .ok (.iand, 1) := by decide +kernel
theorem dX6_sparedBits_60 : decode cX6_sparedBits 60 = .ok (.invokevirtual 178, 3) := by decide +kernel
theorem dX6_sparedBits_63 : decode cX6_sparedBits 63 = .ok (.iload_n 2, 1) := by decide +kernel
theorem dX6_sparedBits_64 : decode cX6_sparedBits 64 = .ok (.if_icmp .ne 7, 3) := by decide +kernel
theorem dX6_sparedBits_67 : decode cX6_sparedBits 67 = .ok (.iconst 1, 1) := by decide +kernel
theorem dX6_sparedBits_68 : decode cX6_sparedBits 68 = .ok (.iload_n 3, 1) := by decide +kernel
theorem dX6_sparedBits_69 : decode cX6_sparedBits 69 = .ok (.ishl, 1) := by decide +kernel
theorem dX6_sparedBits_70 : decode cX6_sparedBits 70 = .ok (.ireturn, 1) := by decide +kernel
theorem dX6_sparedBits_71 : decode cX6_sparedBits 71 = .ok (.iinc 3 1, 3) := by decide +kernel
theorem dX6_sparedBits_74 : decode cX6_sparedBits 74 = .ok (.goto (-37), 3) := by decide +kernel
theorem dX6_sparedBits_77 : decode cX6_sparedBits 77 = .ok (.iconst 0, 1) := by decide +kernel
theorem dX6_sparedBits_78 : decode cX6_sparedBits 78 = .ok (.istore_n 3, 1) := by decide +kernel
theorem dX6_sparedBits_79 : decode cX6_sparedBits 79 = .ok (.iload_n 3, 1) := by decide +kernel
theorem dX6_sparedBits_80 : decode cX6_sparedBits 80 = .ok (.aload_n 0, 1) := by decide +kernel
theorem dX6_sparedBits_81 : decode cX6_sparedBits 81 = .ok (.getfield 41, 3) := by decide +kernel
theorem dX6_sparedBits_84 : decode cX6_sparedBits 84 = .ok (.getfield 121, 3) := by decide +kernel
theorem dX6_sparedBits_87 : decode cX6_sparedBits 87 = .ok (.if_icmp .ge 63, 3) := by decide +kernel
theorem dX6_sparedBits_90 : decode cX6_sparedBits 90 = .ok (.iload_n 3, 1) := by decide +kernel
theorem dX6_sparedBits_91 : decode cX6_sparedBits 91 = .ok (.iconst 1, 1) := by decide +kernel
theorem dX6_sparedBits_92 : decode cX6_sparedBits 92 = .ok (.iadd, 1) := by decide +kernel
theorem dX6_sparedBits_93 : decode cX6_sparedBits 93 = .ok (.istore 4, 2) := by decide +kernel
theorem dX6_sparedBits_95 : decode cX6_sparedBits 95 = .ok (.iload 4, 2) := by decide +kernel
theorem dX6_sparedBits_97 : decode cX6_sparedBits 97 = .ok (.aload_n 0, 1) := by decide +kernel
theorem dX6_sparedBits_98 : decode cX6_sparedBits 98 = .ok (.getfield 41, 3) := by decide +kernel
theorem dX6_sparedBits_101 : decode cX6_sparedBits 101 = .ok (.getfield 121, 3) := by decide +kernel
theorem dX6_sparedBits_104 : decode cX6_sparedBits 104 = .ok (.if_icmp .ge 40, 3) := by decide +kernel
theorem dX6_sparedBits_107 : decode cX6_sparedBits 107 = .ok (.iconst 1, 1) := by decide +kernel
theorem dX6_sparedBits_108 : decode cX6_sparedBits 108 = .ok (.iload_n 3, 1) := by decide +kernel
theorem dX6_sparedBits_109 : decode cX6_sparedBits 109 = .ok (.ishl, 1) := by decide +kernel
theorem dX6_sparedBits_110 : decode cX6_sparedBits 110 = .ok (.iconst 1, 1) := by decide +kernel
theorem dX6_sparedBits_111 : decode cX6_sparedBits 111 = .ok (.iload 4, 2) := by decide +kernel
theorem dX6_sparedBits_113 : decode cX6_sparedBits 113 = .ok (.ishl, 1) := by decide +kernel
theorem dX6_sparedBits_114 : decode cX6_sparedBits 114 = .ok (.ior, 1) := by decide +kernel
theorem dX6_sparedBits_115 : decode cX6_sparedBits 115 = .ok (.istore 5, 2) := by decide +kernel
theorem dX6_sparedBits_117 : decode cX6_sparedBits 117 = .ok (.aload_n 0, 1) := by decide +kernel
theorem dX6_sparedBits_118 : decode cX6_sparedBits 118 = .ok (.aload_n 0, 1) := by decide +kernel
theorem dX6_sparedBits_119 : decode cX6_sparedBits 119 = .ok (.getfield 24, 3) := by decide +kernel
theorem dX6_sparedBits_122 : decode cX6_sparedBits 122 = .ok (.iload_n 1, 1) := by decide +kernel
theorem dX6_sparedBits_123 : decode cX6_sparedBits 123 = .ok (.iload 5, 2) := by decide +kernel
theorem dX6_sparedBits_125 : decode cX6_sparedBits 125 = .ok (.iconst (-1), 1) := by decide +kernel
theorem dX6_sparedBits_126 : decode cX6_sparedBits 126 = .ok (.ixor, 1) := by decide +kernel
theorem dX6_sparedBits_127 : decode cX6_sparedBits 127 = .ok (.iand, 1) := by decide +kernel
theorem dX6_sparedBits_128 : decode cX6_sparedBits 128 = .ok (.invokevirtual 178, 3) := by decide +kernel
theorem dX6_sparedBits_131 : decode cX6_sparedBits 131 = .ok (.iload_n 2, 1) := by decide +kernel
theorem dX6_sparedBits_132 : decode cX6_sparedBits 132 = .ok (.if_icmp .ne 6, 3) := by decide +kernel
theorem dX6_sparedBits_135 : decode cX6_sparedBits 135 = .ok (.iload 5, 2) := by decide +kernel
theorem dX6_sparedBits_137 : decode cX6_sparedBits 137 = .ok (.ireturn, 1) := by decide +kernel
theorem dX6_sparedBits_138 : decode cX6_sparedBits 138 = .ok (.iinc 4 1, 3) := by decide +kernel
theorem dX6_sparedBits_141 : decode cX6_sparedBits 141 = .ok (.goto (-46), 3) := by decide +kernel
theorem dX6_sparedBits_144 : decode cX6_sparedBits 144 = .ok (.iinc 3 1, 3) := by decide +kernel
theorem dX6_sparedBits_147 : decode cX6_sparedBits 147 = .ok (.goto (-68), 3) := by decide +kernel
theorem dX6_sparedBits_150 : decode cX6_sparedBits 150 = .ok (.iconst (-1), 1) := by decide +kernel
theorem dX6_sparedBits_151 : decode cX6_sparedBits 151 = .ok (.ireturn, 1) := by decide +kernel
theorem dX6_nthBit_0 : decode cX6_nthBit 0 = .ok (.iconst 0, 1) := by decide +kernel
theorem dX6_nthBit_1 : decode cX6_nthBit 1 = .ok (.istore_n 2, 1) := by decide +kernel
theorem dX6_nthBit_2 : decode cX6_nthBit 2 = .ok (.iconst 0, 1) := by decide +kernel
theorem dX6_nthBit_3 : decode cX6_nthBit 3 = .ok (.istore_n 3, 1) := by decide +kernel
theorem dX6_nthBit_4 : decode cX6_nthBit 4 = .ok (.iload_n 3, 1) := by decide +kernel
theorem dX6_nthBit_5 : decode cX6_nthBit 5 = .ok (.bipush 8, 2) := by decide +kernel
theorem dX6_nthBit_7 : decode cX6_nthBit 7 = .ok (.if_icmp .ge 28, 3) := by decide +kernel
theorem dX6_nthBit_10 : decode cX6_nthBit 10 = .ok (.iload_n 0, 1) := by decide +kernel
theorem dX6_nthBit_11 : decode cX6_nthBit 11 = .ok (.iload_n 3, 1) := by decide +kernel
theorem dX6_nthBit_12 : decode cX6_nthBit 12 = .ok (.ishr, 1) := by decide +kernel
theorem dX6_nthBit_13 : decode cX6_nthBit 13 = .ok (.iconst 1, 1) := by decide +kernel
theorem dX6_nthBit_14 : decode cX6_nthBit 14 = .ok (.iand, 1) := by decide +kernel
theorem dX6_nthBit_15 : decode cX6_nthBit 15 = .ok (.iconst 1, 1) := by decide +kernel
theorem dX6_nthBit_16 : decode cX6_nthBit 16 = .ok (.if_icmp .ne 13, 3) := by decide +kernel
theorem dX6_nthBit_19 : decode cX6_nthBit 19 = .ok (.iload_n 2, 1) := by decide +kernel
theorem dX6_nthBit_20 : decode cX6_nthBit 20 = .ok (.iload_n 1, 1) := by decide +kernel
theorem dX6_nthBit_21 : decode cX6_nthBit 21 = .ok (.if_icmp .ne 5, 3) := by decide +kernel
theorem dX6_nthBit_24 : decode cX6_nthBit 24 = .ok (.iload_n 3, 1) := by decide +kernel
theorem dX6_nthBit_25 : decode cX6_nthBit 25 = .ok (.ireturn, 1) := by decide +kernel
theorem dX6_nthBit_26 : decode cX6_nthBit 26 = .ok (.iinc 2 1, 3) := by decide +kernel
theorem dX6_nthBit_29 : decode cX6_nthBit 29 = .ok (.iinc 3 1, 3) := by decide +kernel
theorem dX6_nthBit_32 : decode cX6_nthBit 32 = .ok (.goto (-28), 3) := by decide +kernel
theorem dX6_nthBit_35 : decode cX6_nthBit 35 = .ok (.iconst (-1), 1) := by decide +kernel
theorem dX6_nthBit_36 : decode cX6_nthBit 36 = .ok (.ireturn, 1) := by decide +kernel
theorem dX6_addToTally_0 : decode cX6_addToTally 0 = .ok (.iconst 0, 1) := by decide +kernel
theorem dX6_addToTally_1 : decode cX6_addToTally 1 = .ok (.istore_n 2, 1) := by decide +kernel
theorem dX6_addToTally_2 : decode cX6_addToTally 2 = .ok (.iload_n 2, 1) := by decide +kernel
theorem dX6_addToTally_3 : decode cX6_addToTally 3 = .ok (.bipush 8, 2) := by decide +kernel
theorem dX6_addToTally_5 : decode cX6_addToTally 5 = .ok (.if_icmp .ge 23, 3) := by decide +kernel
theorem dX6_addToTally_8 : decode cX6_addToTally 8 = .ok (.aload_n 0, 1) := by decide +kernel
theorem dX6_addToTally_9 : decode cX6_addToTally 9 = .ok (.getfield 67, 3) := by decide +kernel
theorem dX6_addToTally_12 : decode cX6_addToTally 12 = .ok (.iload_n 2, 1) := by decide +kernel
theorem dX6_addToTally_13 : decode cX6_addToTally 13 = .ok (.dup2, 1) := by decide +kernel
theorem dX6_addToTally_14 : decode cX6_addToTally 14 = .ok (.iaload, 1) := by decide +kernel
theorem dX6_addToTally_15 : decode cX6_addToTally 15 = .ok (.iload_n 1, 1) := by decide +kernel
theorem dX6_addToTally_16 : decode cX6_addToTally 16 = .ok (.iload_n 2, 1) := by decide +kernel
theorem dX6_addToTally_17 : decode cX6_addToTally 17 = .ok (.ishr, 1) := by decide +kernel
theorem dX6_addToTally_18 : decode cX6_addToTally 18 = .ok (.iconst 1, 1) := by decide +kernel
theorem dX6_addToTally_19 : decode cX6_addToTally 19 = .ok (.iand, 1) := by decide +kernel
theorem dX6_addToTally_20 : decode cX6_addToTally 20 = .ok (.iadd, 1) := by decide +kernel
theorem dX6_addToTally_21 : decode cX6_addToTally 21 = .ok (.iastore, 1) := by decide +kernel
theorem dX6_addToTally_22 : decode cX6_addToTally 22 = .ok (.iinc 2 1, 3) := by decide +kernel
theorem dX6_addToTally_25 : decode cX6_addToTally 25 = .ok (.goto (-23), 3) := by decide +kernel
theorem dX6_addToTally_28 : decode cX6_addToTally 28 = .ok (.return_, 1) := by decide +kernel
theorem dX6_tallyFavour_0 : decode cX6_tallyFavour 0 = .ok (.aload_n 0, 1) := by decide +kernel
theorem dX6_tallyFavour_1 : decode cX6_tallyFavour 1 = .ok (.getfield 70, 3) := by decide +kernel
theorem dX6_tallyFavour_4 : decode cX6_tallyFavour 4 = .ok (.lconst 0, 1) := by decide +kernel
theorem dX6_tallyFavour_5 : decode cX6_tallyFavour 5 = .ok (.invokestatic 346, 3) := by decide +kernel
theorem dX6_tallyFavour_8 : decode cX6_tallyFavour 8 = .ok (.iconst 0, 1) := by decide +kernel
theorem dX6_tallyFavour_9 : decode cX6_tallyFavour 9 = .ok (.istore_n 2, 1) := by decide +kernel
theorem dX6_tallyFavour_10 : decode cX6_tallyFavour 10 = .ok (.iload_n 2, 1) := by decide +kernel
theorem dX6_tallyFavour_11 : decode cX6_tallyFavour 11 = .ok (.aload_n 0, 1) := by decide +kernel
theorem dX6_tallyFavour_12 : decode cX6_tallyFavour 12 = .ok (.getfield 41, 3) := by decide +kernel
theorem dX6_tallyFavour_15 : decode cX6_tallyFavour 15 = .ok (.invokevirtual 175, 3) := by decide +kernel
theorem dX6_tallyFavour_18 : decode cX6_tallyFavour 18 = .ok (.if_icmp .gt 102, 3) := by decide +kernel
theorem dX6_tallyFavour_21 : decode cX6_tallyFavour 21 = .ok (.iload_n 2, 1) := by decide +kernel
theorem dX6_tallyFavour_22 : decode cX6_tallyFavour 22 = .ok (.invokestatic 182, 3) := by decide +kernel
theorem dX6_tallyFavour_25 : decode cX6_tallyFavour 25 = .ok (.istore_n 3, 1) := by decide +kernel
theorem dX6_tallyFavour_26 : decode cX6_tallyFavour 26 = .ok (.iload_n 1, 1) := by decide +kernel
theorem dX6_tallyFavour_27 : decode cX6_tallyFavour 27 = .ok (.iload_n 3, 1) := by decide +kernel
theorem dX6_tallyFavour_28 : decode cX6_tallyFavour 28 = .ok (.invokestatic 349, 3) := by decide +kernel
theorem dX6_tallyFavour_31 : decode cX6_tallyFavour 31 = .ok (.bipush 16, 2) := by decide +kernel
theorem dX6_tallyFavour_33 : decode cX6_tallyFavour 33 = .ok (.iload_n 1, 1) := by decide +kernel
theorem dX6_tallyFavour_34 : decode cX6_tallyFavour 34 = .ok (.isub, 1) := by decide +kernel
theorem dX6_tallyFavour_35 : decode cX6_tallyFavour 35 = .ok (.aload_n 0, 1) := by decide +kernel
theorem dX6_tallyFavour_36 : decode cX6_tallyFavour 36 = .ok (.getfield 41, 3) := by decide +kernel
theorem dX6_tallyFavour_39 : decode cX6_tallyFavour 39 = .ok (.getfield 121, 3) := by decide +kernel
theorem dX6_tallyFavour_42 : decode cX6_tallyFavour 42 = .ok (.iload_n 3, 1) := by decide +kernel
theorem dX6_tallyFavour_43 : decode cX6_tallyFavour 43 = .ok (.isub, 1) := by decide +kernel
theorem dX6_tallyFavour_44 : decode cX6_tallyFavour 44 = .ok (.invokestatic 349, 3) := by decide +kernel
theorem dX6_tallyFavour_47 : decode cX6_tallyFavour 47 = .ok (.lmul, 1) := by decide +kernel
theorem dX6_tallyFavour_48 : decode cX6_tallyFavour 48 = .ok (.lstore 4, 2) := by decide +kernel
theorem dX6_tallyFavour_50 : decode cX6_tallyFavour 50 = .ok (.lload 4, 2) := by decide +kernel
theorem dX6_tallyFavour_52 : decode cX6_tallyFavour 52 = .ok (.lconst 0, 1) := by decide +kernel
theorem dX6_tallyFavour_53 : decode cX6_tallyFavour 53 = .ok (.lcmp, 1) := by decide +kernel
theorem dX6_tallyFavour_54 : decode cX6_tallyFavour 54 = .ok (.ifCond .ne 7, 3) := by decide +kernel
theorem dX6_tallyFavour_57 : decode cX6_tallyFavour 57 = .ok (.iconst 0, 1) := by decide +kernel
theorem dX6_tallyFavour_58 : decode cX6_tallyFavour 58 = .ok (.goto 12, 3) := by decide +kernel
theorem dX6_tallyFavour_61 : decode cX6_tallyFavour 61 = .ok (.aload_n 0, 1) := by decide +kernel
theorem dX6_tallyFavour_62 : decode cX6_tallyFavour 62 = .ok (.aload_n 0, 1) := by decide +kernel
theorem dX6_tallyFavour_63 : decode cX6_tallyFavour 63 = .ok (.getfield 24, 3) := by decide +kernel
theorem dX6_tallyFavour_66 : decode cX6_tallyFavour 66 = .ok (.iload_n 2, 1) := by decide +kernel
theorem dX6_tallyFavour_67 : decode cX6_tallyFavour 67 = .ok (.invokevirtual 178, 3) := by decide +kernel
theorem dX6_tallyFavour_70 : decode cX6_tallyFavour 70 = .ok (.istore 6, 2) := by decide +kernel
theorem dX6_tallyFavour_72 : decode cX6_tallyFavour 72 = .ok (.iconst 0, 1) := by decide +kernel
theorem dX6_tallyFavour_73 : decode cX6_tallyFavour 73 = .ok (.istore 7, 2) := by decide +kernel
theorem dX6_tallyFavour_75 : decode cX6_tallyFavour 75 = .ok (.iload 7, 2) := by decide +kernel
theorem dX6_tallyFavour_77 : decode cX6_tallyFavour 77 = .ok (.aload_n 0, 1) := by decide +kernel
theorem dX6_tallyFavour_78 : decode cX6_tallyFavour 78 = .ok (.getfield 34, 3) := by decide +kernel
theorem dX6_tallyFavour_81 : decode cX6_tallyFavour 81 = .ok (.getfield 118, 3) := by decide +kernel
theorem dX6_tallyFavour_84 : decode cX6_tallyFavour 84 = .ok (.if_icmp .ge 30, 3) := by decide +kernel
theorem dX6_tallyFavour_87 : decode cX6_tallyFavour 87 = .ok (.aload_n 0, 1) := by decide +kernel
theorem dX6_tallyFavour_88 : decode cX6_tallyFavour 88 = .ok (.getfield 70, 3) := by decide +kernel
theorem dX6_tallyFavour_91 : decode cX6_tallyFavour 91 = .ok (.iload 7, 2) := by decide +kernel
theorem dX6_tallyFavour_93 : decode cX6_tallyFavour 93 = .ok (.dup2, 1) := by decide +kernel
theorem dX6_tallyFavour_94 : decode cX6_tallyFavour 94 = .ok (.laload, 1) := by decide +kernel
theorem dX6_tallyFavour_95 : decode cX6_tallyFavour 95 = .ok (.iload 6, 2) := by decide +kernel
theorem dX6_tallyFavour_97 : decode cX6_tallyFavour 97 = .ok (.iload 7, 2) := by decide +kernel
theorem dX6_tallyFavour_99 : decode cX6_tallyFavour 99 = .ok (.ishr, 1) := by decide +kernel
theorem dX6_tallyFavour_100 : decode cX6_tallyFavour 100 = .ok (.iconst 1, 1) := by decide +kernel
theorem dX6_tallyFavour_101 : decode cX6_tallyFavour 101 = .ok (.iand, 1) := by decide +kernel
theorem dX6_tallyFavour_102 : decode cX6_tallyFavour 102 = .ok (.i2l, 1) := by decide +kernel
theorem dX6_tallyFavour_103 : decode cX6_tallyFavour 103 = .ok (.lload 4, 2) := by decide +kernel
theorem dX6_tallyFavour_105 : decode cX6_tallyFavour 105 = .ok (.lmul, 1) := by decide +kernel
theorem dX6_tallyFavour_106 : decode cX6_tallyFavour 106 = .ok (.ladd, 1) := by decide +kernel
theorem dX6_tallyFavour_107 : decode cX6_tallyFavour 107 = .ok (.lastore, 1) := by decide +kernel
theorem dX6_tallyFavour_108 : decode cX6_tallyFavour 108 = .ok (.iinc 7 1, 3) := by decide +kernel
theorem dX6_tallyFavour_111 : decode cX6_tallyFavour 111 = .ok (.goto (-36), 3) := by decide +kernel
theorem dX6_tallyFavour_114 : decode cX6_tallyFavour 114 = .ok (.iinc 2 1, 3) := by decide +kernel
theorem dX6_tallyFavour_117 : decode cX6_tallyFavour 117 = .ok (.goto (-107), 3) := by decide +kernel
theorem dX6_tallyFavour_120 : decode cX6_tallyFavour 120 = .ok (.return_, 1) := by decide +kernel
theorem dX6_power_0 : decode cX6_power 0 = .ok (.lconst 1, 1) := by decide +kernel
theorem dX6_power_1 : decode cX6_power 1 = .ok (.lstore_n 2, 1) := by decide +kernel
theorem dX6_power_2 : decode cX6_power 2 = .ok (.iconst 0, 1) := by decide +kernel
theorem dX6_power_3 : decode cX6_power 3 = .ok (.istore 4, 2) := by decide +kernel
theorem dX6_power_5 : decode cX6_power 5 = .ok (.iload 4, 2) := by decide +kernel
theorem dX6_power_7 : decode cX6_power 7 = .ok (.iload_n 1, 1) := by decide +kernel
theorem dX6_power_8 : decode cX6_power 8 = .ok (.if_icmp .ge 14, 3) := by decide +kernel
theorem dX6_power_11 : decode cX6_power 11 = .ok (.lload_n 2, 1) := by decide +kernel
theorem dX6_power_12 : decode cX6_power 12 = .ok (.iload_n 0, 1) := by decide +kernel
theorem dX6_power_13 : decode cX6_power 13 = .ok (.i2l, 1) := by decide +kernel
theorem dX6_power_14 : decode cX6_power 14 = .ok (.lmul, 1) := by decide +kernel
theorem dX6_power_15 : decode cX6_power 15 = .ok (.lstore_n 2, 1) := by decide +kernel
theorem dX6_power_16 : decode cX6_power 16 = .ok (.iinc 4 1, 3) := by decide +kernel
theorem dX6_power_19 : decode cX6_power 19 = .ok (.goto (-14), 3) := by decide +kernel
theorem dX6_power_22 : decode cX6_power 22 = .ok (.lload_n 2, 1) := by decide +kernel
theorem dX6_power_23 : decode cX6_power 23 = .ok (.lreturn, 1) := by decide +kernel
theorem dX6_lowestTerm_0 : decode cX6_lowestTerm 0 = .ok (.lload_n 1, 1) := by decide +kernel
theorem dX6_lowestTerm_1 : decode cX6_lowestTerm 1 = .ok (.lstore 4, 2) := by decide +kernel
theorem dX6_lowestTerm_3 : decode cX6_lowestTerm 3 = .ok (.iconst 4, 1) := by decide +kernel
theorem dX6_lowestTerm_4 : decode cX6_lowestTerm 4 = .ok (.aload_n 0, 1) := by decide +kernel
theorem dX6_lowestTerm_5 : decode cX6_lowestTerm 5 = .ok (.getfield 41, 3) := by decide +kernel
theorem dX6_lowestTerm_8 : decode cX6_lowestTerm 8 = .ok (.getfield 121, 3) := by decide +kernel
theorem dX6_lowestTerm_11 : decode cX6_lowestTerm 11 = .ok (.imul, 1) := by decide +kernel
theorem dX6_lowestTerm_12 : decode cX6_lowestTerm 12 = .ok (.istore 6, 2) := by decide +kernel
theorem dX6_lowestTerm_14 : decode cX6_lowestTerm 14 = .ok (.iload 6, 2) := by decide +kernel
theorem dX6_lowestTerm_16 : decode cX6_lowestTerm 16 = .ok (.ifCond .le 24, 3) := by decide +kernel
theorem dX6_lowestTerm_19 : decode cX6_lowestTerm 19 = .ok (.lload 4, 2) := by decide +kernel
theorem dX6_lowestTerm_21 : decode cX6_lowestTerm 21 = .ok (.lconst 1, 1) := by decide +kernel
theorem dX6_lowestTerm_22 : decode cX6_lowestTerm 22 = .ok (.land, 1) := by decide +kernel
theorem dX6_lowestTerm_23 : decode cX6_lowestTerm 23 = .ok (.lconst 0, 1) := by decide +kernel
theorem dX6_lowestTerm_24 : decode cX6_lowestTerm 24 = .ok (.lcmp, 1) := by decide +kernel
theorem dX6_lowestTerm_25 : decode cX6_lowestTerm 25 = .ok (.ifCond .ne 15, 3) := by decide +kernel
theorem dX6_lowestTerm_28 : decode cX6_lowestTerm 28 = .ok (.lload 4, 2) := by decide +kernel
theorem dX6_lowestTerm_30 : decode cX6_lowestTerm 30 = .ok (.iconst 1, 1) := by decide +kernel
theorem dX6_lowestTerm_31 : decode cX6_lowestTerm 31 = .ok (.lshr, 1) := by decide +kernel
theorem dX6_lowestTerm_32 : decode cX6_lowestTerm 32 = .ok (.lstore 4, 2) := by decide +kernel
theorem dX6_lowestTerm_34 : decode cX6_lowestTerm 34 = .ok (.iinc 6 (-1), 3) := by decide +kernel
theorem dX6_lowestTerm_37 : decode cX6_lowestTerm 37 = .ok (.goto (-23), 3) := by decide +kernel
theorem dX6_lowestTerm_40 : decode cX6_lowestTerm 40 = .ok (.iload_n 3, 1) := by decide +kernel
theorem dX6_lowestTerm_41 : decode cX6_lowestTerm 41 = .ok (.ifCond .ne 8, 3) := by decide +kernel
theorem dX6_lowestTerm_44 : decode cX6_lowestTerm 44 = .ok (.lload 4, 2) := by decide +kernel
theorem dX6_lowestTerm_46 : decode cX6_lowestTerm 46 = .ok (.goto 7, 3) := by decide +kernel
theorem dX6_lowestTerm_49 : decode cX6_lowestTerm 49 = .ok (.lconst 1, 1) := by decide +kernel
theorem dX6_lowestTerm_50 : decode cX6_lowestTerm 50 = .ok (.iload 6, 2) := by decide +kernel
theorem dX6_lowestTerm_52 : decode cX6_lowestTerm 52 = .ok (.lshl, 1) := by decide +kernel
theorem dX6_lowestTerm_53 : decode cX6_lowestTerm 53 = .ok (.lreturn, 1) := by decide +kernel
theorem dX6_reach_0 : decode cX6_reach 0 = .ok (.iload_n 0, 1) := by decide +kernel
theorem dX6_reach_1 : decode cX6_reach 1 = .ok (.iload_n 0, 1) := by decide +kernel
theorem dX6_reach_2 : decode cX6_reach 2 = .ok (.iconst 1, 1) := by decide +kernel
theorem dX6_reach_3 : decode cX6_reach 3 = .ok (.ishl, 1) := by decide +kernel
theorem dX6_reach_4 : decode cX6_reach 4 = .ok (.ior, 1) := by decide +kernel
theorem dX6_reach_5 : decode cX6_reach 5 = .ok (.iload_n 0, 1) := by decide +kernel
theorem dX6_reach_6 : decode cX6_reach 6 = .ok (.iconst 1, 1) := by decide +kernel
theorem dX6_reach_7 : decode cX6_reach 7 = .ok (.ishr, 1) := by decide +kernel
theorem dX6_reach_8 : decode cX6_reach 8 = .ok (.ior, 1) := by decide +kernel
theorem dX6_reach_9 : decode cX6_reach 9 = .ok (.sipush 255, 3) := by decide +kernel
theorem dX6_reach_12 : decode cX6_reach 12 = .ok (.iand, 1) := by decide +kernel
theorem dX6_reach_13 : decode cX6_reach 13 = .ok (.ireturn, 1) := by decide +kernel
theorem dX6_rankBy_0 : decode cX6_rankBy 0 = .ok (.iload_n 0, 1) := by decide +kernel
theorem dX6_rankBy_1 : decode cX6_rankBy 1 = .ok (.iconst (-1), 1) := by decide +kernel
theorem dX6_rankBy_2 : decode cX6_rankBy 2 = .ok (.if_icmp .ne 5, 3) := by decide +kernel
theorem dX6_rankBy_5 : decode cX6_rankBy 5 = .ok (.iconst 0, 1) := by decide +kernel
theorem dX6_rankBy_6 : decode cX6_rankBy 6 = .ok (.ireturn, 1) := by decide +kernel
theorem dX6_rankBy_7 : decode cX6_rankBy 7 = .ok (.iload_n 0, 1) := by decide +kernel
theorem dX6_rankBy_8 : decode cX6_rankBy 8 = .ok (.bipush 6, 2) := by decide +kernel
theorem dX6_rankBy_10 : decode cX6_rankBy 10 = .ok (.if_icmp .ge 7, 3) := by decide +kernel
theorem dX6_rankBy_13 : decode cX6_rankBy 13 = .ok (.iconst 1, 1) := by decide +kernel
theorem dX6_rankBy_14 : decode cX6_rankBy 14 = .ok (.goto 14, 3) := by decide +kernel
theorem dX6_rankBy_17 : decode cX6_rankBy 17 = .ok (.iload_n 0, 1) := by decide +kernel
theorem dX6_rankBy_18 : decode cX6_rankBy 18 = .ok (.bipush 15, 2) := by decide +kernel
theorem dX6_rankBy_20 : decode cX6_rankBy 20 = .ok (.if_icmp .ge 7, 3) := by decide +kernel
theorem dX6_rankBy_23 : decode cX6_rankBy 23 = .ok (.iconst 2, 1) := by decide +kernel
theorem dX6_rankBy_24 : decode cX6_rankBy 24 = .ok (.goto 4, 3) := by decide +kernel
theorem dX6_rankBy_27 : decode cX6_rankBy 27 = .ok (.iconst 3, 1) := by decide +kernel
theorem dX6_rankBy_28 : decode cX6_rankBy 28 = .ok (.ireturn, 1) := by decide +kernel
theorem dJ6_bitCount_0f7a4_0 : decode cJ6_bitCount_0f7a4 0 = .ok (.iload_n 0, 1) := by decide +kernel
theorem dJ6_bitCount_0f7a4_1 : decode cJ6_bitCount_0f7a4 1 = .ok (.iload_n 0, 1) := by decide +kernel
theorem dJ6_bitCount_0f7a4_2 : decode cJ6_bitCount_0f7a4 2 = .ok (.iconst 1, 1) := by decide +kernel
theorem dJ6_bitCount_0f7a4_3 : decode cJ6_bitCount_0f7a4 3 = .ok (.iushr, 1) := by decide +kernel
theorem dJ6_bitCount_0f7a4_4 : decode cJ6_bitCount_0f7a4 4 = .ok (.ldc_w 265, 3) := by decide +kernel
theorem dJ6_bitCount_0f7a4_7 : decode cJ6_bitCount_0f7a4 7 = .ok (.iand, 1) := by decide +kernel
theorem dJ6_bitCount_0f7a4_8 : decode cJ6_bitCount_0f7a4 8 = .ok (.isub, 1) := by decide +kernel
theorem dJ6_bitCount_0f7a4_9 : decode cJ6_bitCount_0f7a4 9 = .ok (.istore_n 0, 1) := by decide +kernel
theorem dJ6_bitCount_0f7a4_10 : decode cJ6_bitCount_0f7a4 10 = .ok (.iload_n 0, 1) := by decide +kernel
theorem dJ6_bitCount_0f7a4_11 : decode cJ6_bitCount_0f7a4 11 = .ok (.ldc_w 266, 3) := by decide +kernel
theorem dJ6_bitCount_0f7a4_14 : decode cJ6_bitCount_0f7a4 14 = .ok (.iand, 1) := by decide +kernel
theorem dJ6_bitCount_0f7a4_15 : decode cJ6_bitCount_0f7a4 15 = .ok (.iload_n 0, 1) := by decide +kernel
theorem dJ6_bitCount_0f7a4_16 : decode cJ6_bitCount_0f7a4 16 = .ok (.iconst 2, 1) := by decide +kernel
theorem dJ6_bitCount_0f7a4_17 : decode cJ6_bitCount_0f7a4 17 = .ok (.iushr, 1) := by decide +kernel
theorem dJ6_bitCount_0f7a4_18 : decode cJ6_bitCount_0f7a4 18 = .ok (.ldc_w 266, 3) := by decide +kernel
theorem dJ6_bitCount_0f7a4_21 : decode cJ6_bitCount_0f7a4 21 = .ok (.iand, 1) := by decide +kernel
theorem dJ6_bitCount_0f7a4_22 : decode cJ6_bitCount_0f7a4 22 = .ok (.iadd, 1) := by decide +kernel
theorem dJ6_bitCount_0f7a4_23 : decode cJ6_bitCount_0f7a4 23 = .ok (.istore_n 0, 1) := by decide +kernel
theorem dJ6_bitCount_0f7a4_24 : decode cJ6_bitCount_0f7a4 24 = .ok (.iload_n 0, 1) := by decide +kernel
theorem dJ6_bitCount_0f7a4_25 : decode cJ6_bitCount_0f7a4 25 = .ok (.iload_n 0, 1) := by decide +kernel
theorem dJ6_bitCount_0f7a4_26 : decode cJ6_bitCount_0f7a4 26 = .ok (.iconst 4, 1) := by decide +kernel
theorem dJ6_bitCount_0f7a4_27 : decode cJ6_bitCount_0f7a4 27 = .ok (.iushr, 1) := by decide +kernel
theorem dJ6_bitCount_0f7a4_28 : decode cJ6_bitCount_0f7a4 28 = .ok (.iadd, 1) := by decide +kernel
theorem dJ6_bitCount_0f7a4_29 : decode cJ6_bitCount_0f7a4 29 = .ok (.ldc_w 267, 3) := by decide +kernel
theorem dJ6_bitCount_0f7a4_32 : decode cJ6_bitCount_0f7a4 32 = .ok (.iand, 1) := by decide +kernel
theorem dJ6_bitCount_0f7a4_33 : decode cJ6_bitCount_0f7a4 33 = .ok (.istore_n 0, 1) := by decide +kernel
theorem dJ6_bitCount_0f7a4_34 : decode cJ6_bitCount_0f7a4 34 = .ok (.iload_n 0, 1) := by decide +kernel
theorem dJ6_bitCount_0f7a4_35 : decode cJ6_bitCount_0f7a4 35 = .ok (.iload_n 0, 1) := by decide +kernel
theorem dJ6_bitCount_0f7a4_36 : decode cJ6_bitCount_0f7a4 36 = .ok (.bipush 8, 2) := by decide +kernel
theorem dJ6_bitCount_0f7a4_38 : decode cJ6_bitCount_0f7a4 38 = .ok (.iushr, 1) := by decide +kernel
theorem dJ6_bitCount_0f7a4_39 : decode cJ6_bitCount_0f7a4 39 = .ok (.iadd, 1) := by decide +kernel
theorem dJ6_bitCount_0f7a4_40 : decode cJ6_bitCount_0f7a4 40 = .ok (.istore_n 0, 1) := by decide +kernel
theorem dJ6_bitCount_0f7a4_41 : decode cJ6_bitCount_0f7a4 41 = .ok (.iload_n 0, 1) := by decide +kernel
theorem dJ6_bitCount_0f7a4_42 : decode cJ6_bitCount_0f7a4 42 = .ok (.iload_n 0, 1) := by decide +kernel
theorem dJ6_bitCount_0f7a4_43 : decode cJ6_bitCount_0f7a4 43 = .ok (.bipush 16, 2) := by decide +kernel
theorem dJ6_bitCount_0f7a4_45 : decode cJ6_bitCount_0f7a4 45 = .ok (.iushr, 1) := by decide +kernel
theorem dJ6_bitCount_0f7a4_46 : decode cJ6_bitCount_0f7a4 46 = .ok (.iadd, 1) := by decide +kernel
theorem dJ6_bitCount_0f7a4_47 : decode cJ6_bitCount_0f7a4 47 = .ok (.istore_n 0, 1) := by decide +kernel
theorem dJ6_bitCount_0f7a4_48 : decode cJ6_bitCount_0f7a4 48 = .ok (.iload_n 0, 1) := by decide +kernel
theorem dJ6_bitCount_0f7a4_49 : decode cJ6_bitCount_0f7a4 49 = .ok (.bipush 63, 2) := by decide +kernel
theorem dJ6_bitCount_0f7a4_51 : decode cJ6_bitCount_0f7a4 51 = .ok (.iand, 1) := by decide +kernel
theorem dJ6_bitCount_0f7a4_52 : decode cJ6_bitCount_0f7a4 52 = .ok (.ireturn, 1) := by decide +kernel
theorem dJ9_abs_0f7a4_0 : decode cJ9_abs_0f7a4 0 = .ok (.iload_n 0, 1) := by decide +kernel
theorem dJ9_abs_0f7a4_1 : decode cJ9_abs_0f7a4 1 = .ok (.ifCond .ge 8, 3) := by decide +kernel
theorem dJ9_abs_0f7a4_4 : decode cJ9_abs_0f7a4 4 = .ok (.iload_n 0, 1) := by decide +kernel
theorem dJ9_abs_0f7a4_5 : decode cJ9_abs_0f7a4 5 = .ok (.ineg, 1) := by decide +kernel
theorem dJ9_abs_0f7a4_6 : decode cJ9_abs_0f7a4 6 = .ok (.goto 4, 3) := by decide +kernel
theorem dJ9_abs_0f7a4_9 : decode cJ9_abs_0f7a4 9 = .ok (.iload_n 0, 1) := by decide +kernel
theorem dJ9_abs_0f7a4_10 : decode cJ9_abs_0f7a4 10 = .ok (.ireturn, 1) := by decide +kernel
theorem dJ9_max_7cf53_0 : decode cJ9_max_7cf53 0 = .ok (.iload_n 0, 1) := by decide +kernel
theorem dJ9_max_7cf53_1 : decode cJ9_max_7cf53 1 = .ok (.iload_n 1, 1) := by decide +kernel
theorem dJ9_max_7cf53_2 : decode cJ9_max_7cf53 2 = .ok (.if_icmp .lt 7, 3) := by decide +kernel
theorem dJ9_max_7cf53_5 : decode cJ9_max_7cf53 5 = .ok (.iload_n 0, 1) := by decide +kernel
theorem dJ9_max_7cf53_6 : decode cJ9_max_7cf53 6 = .ok (.goto 4, 3) := by decide +kernel
theorem dJ9_max_7cf53_9 : decode cJ9_max_7cf53 9 = .ok (.iload_n 1, 1) := by decide +kernel
theorem dJ9_max_7cf53_10 : decode cJ9_max_7cf53 10 = .ok (.ireturn, 1) := by decide +kernel
theorem dJ9_min_7cf53_0 : decode cJ9_min_7cf53 0 = .ok (.iload_n 0, 1) := by decide +kernel
theorem dJ9_min_7cf53_1 : decode cJ9_min_7cf53 1 = .ok (.iload_n 1, 1) := by decide +kernel
theorem dJ9_min_7cf53_2 : decode cJ9_min_7cf53 2 = .ok (.if_icmp .gt 7, 3) := by decide +kernel
theorem dJ9_min_7cf53_5 : decode cJ9_min_7cf53 5 = .ok (.iload_n 0, 1) := by decide +kernel
theorem dJ9_min_7cf53_6 : decode cJ9_min_7cf53 6 = .ok (.goto 4, 3) := by decide +kernel
theorem dJ9_min_7cf53_9 : decode cJ9_min_7cf53 9 = .ok (.iload_n 1, 1) := by decide +kernel
theorem dJ9_min_7cf53_10 : decode cJ9_min_7cf53 10 = .ok (.ireturn, 1) := by decide +kernel
theorem dJ7_fill_d0a16_0 : decode cJ7_fill_d0a16 0 = .ok (.iconst 0, 1) := by decide +kernel
theorem dJ7_fill_d0a16_1 : decode cJ7_fill_d0a16 1 = .ok (.istore_n 3, 1) := by decide +kernel
theorem dJ7_fill_d0a16_2 : decode cJ7_fill_d0a16 2 = .ok (.aload_n 0, 1) := by decide +kernel
theorem dJ7_fill_d0a16_3 : decode cJ7_fill_d0a16 3 = .ok (.arraylength, 1) := by decide +kernel
theorem dJ7_fill_d0a16_4 : decode cJ7_fill_d0a16 4 = .ok (.istore 4, 2) := by decide +kernel
theorem dJ7_fill_d0a16_6 : decode cJ7_fill_d0a16 6 = .ok (.iload_n 3, 1) := by decide +kernel
theorem dJ7_fill_d0a16_7 : decode cJ7_fill_d0a16 7 = .ok (.iload 4, 2) := by decide +kernel
theorem dJ7_fill_d0a16_9 : decode cJ7_fill_d0a16 9 = .ok (.if_icmp .ge 13, 3) := by decide +kernel
theorem dJ7_fill_d0a16_12 : decode cJ7_fill_d0a16 12 = .ok (.aload_n 0, 1) := by decide +kernel
theorem dJ7_fill_d0a16_13 : decode cJ7_fill_d0a16 13 = .ok (.iload_n 3, 1) := by decide +kernel
theorem dJ7_fill_d0a16_14 : decode cJ7_fill_d0a16 14 = .ok (.lload_n 1, 1) := by decide +kernel
theorem dJ7_fill_d0a16_15 : decode cJ7_fill_d0a16 15 = .ok (.lastore, 1) := by decide +kernel
theorem dJ7_fill_d0a16_16 : decode cJ7_fill_d0a16 16 = .ok (.iinc 3 1, 3) := by decide +kernel
theorem dJ7_fill_d0a16_19 : decode cJ7_fill_d0a16 19 = .ok (.goto (-13), 3) := by decide +kernel
theorem dJ7_fill_d0a16_22 : decode cJ7_fill_d0a16 22 = .ok (.return_, 1) := by decide +kernel
theorem dJ7_fill_53178_0 : decode cJ7_fill_53178 0 = .ok (.iconst 0, 1) := by decide +kernel
theorem dJ7_fill_53178_1 : decode cJ7_fill_53178 1 = .ok (.istore_n 2, 1) := by decide +kernel
theorem dJ7_fill_53178_2 : decode cJ7_fill_53178 2 = .ok (.aload_n 0, 1) := by decide +kernel
theorem dJ7_fill_53178_3 : decode cJ7_fill_53178 3 = .ok (.arraylength, 1) := by decide +kernel
theorem dJ7_fill_53178_4 : decode cJ7_fill_53178 4 = .ok (.istore_n 3, 1) := by decide +kernel
theorem dJ7_fill_53178_5 : decode cJ7_fill_53178 5 = .ok (.iload_n 2, 1) := by decide +kernel
theorem dJ7_fill_53178_6 : decode cJ7_fill_53178 6 = .ok (.iload_n 3, 1) := by decide +kernel
theorem dJ7_fill_53178_7 : decode cJ7_fill_53178 7 = .ok (.if_icmp .ge 13, 3) := by decide +kernel
theorem dJ7_fill_53178_10 : decode cJ7_fill_53178 10 = .ok (.aload_n 0, 1) := by decide +kernel
theorem dJ7_fill_53178_11 : decode cJ7_fill_53178 11 = .ok (.iload_n 2, 1) := by decide +kernel
theorem dJ7_fill_53178_12 : decode cJ7_fill_53178 12 = .ok (.iload_n 1, 1) := by decide +kernel
theorem dJ7_fill_53178_13 : decode cJ7_fill_53178 13 = .ok (.iastore, 1) := by decide +kernel
theorem dJ7_fill_53178_14 : decode cJ7_fill_53178 14 = .ok (.iinc 2 1, 3) := by decide +kernel
theorem dJ7_fill_53178_17 : decode cJ7_fill_53178 17 = .ok (.goto (-12), 3) := by decide +kernel
theorem dJ7_fill_53178_20 : decode cJ7_fill_53178 20 = .ok (.return_, 1) := by decide +kernel
end
section
theorem dX7_init_0 : decode cX7_init 0 = .ok (.aload_n 0, 1) := by decide +kernel
theorem dX7_init_1 : decode cX7_init 1 = .ok (.invokespecial 1, 3) := by decide +kernel
theorem dX7_init_4 : decode cX7_init 4 = .ok (.aload_n 0, 1) := by decide +kernel
theorem dX7_init_5 : decode cX7_init 5 = .ok (.iconst 2, 1) := by decide +kernel
theorem dX7_init_6 : decode cX7_init 6 = .ok (.newarray .int, 2) := by decide +kernel
theorem dX7_init_8 : decode cX7_init 8 = .ok (.putfield 7, 3) := by decide +kernel
theorem dX7_init_11 : decode cX7_init 11 = .ok (.aload_n 0, 1) := by decide +kernel
theorem dX7_init_12 : decode cX7_init 12 = .ok (.bipush 118, 2) := by decide +kernel
theorem dX7_init_14 : decode cX7_init 14 = .ok (.newarray .int, 2) := by decide +kernel
theorem dX7_init_16 : decode cX7_init 16 = .ok (.putfield 13, 3) := by decide +kernel
theorem dX7_init_19 : decode cX7_init 19 = .ok (.aload_n 0, 1) := by decide +kernel
theorem dX7_init_20 : decode cX7_init 20 = .ok (.bipush 13, 2) := by decide +kernel
theorem dX7_init_22 : decode cX7_init 22 = .ok (.newarray .int, 2) := by decide +kernel
theorem dX7_init_24 : decode cX7_init 24 = .ok (.putfield 16, 3) := by decide +kernel
theorem dX7_init_27 : decode cX7_init 27 = .ok (.aload_n 0, 1) := by decide +kernel
theorem dX7_init_28 : decode cX7_init 28 = .ok (.bipush 13, 2) := by decide +kernel
theorem dX7_init_30 : decode cX7_init 30 = .ok (.newarray .int, 2) := by decide +kernel
theorem dX7_init_32 : decode cX7_init 32 = .ok (.putfield 19, 3) := by decide +kernel
theorem dX7_init_35 : decode cX7_init 35 = .ok (.aload_n 0, 1) := by decide +kernel
theorem dX7_init_36 : decode cX7_init 36 = .ok (.bipush 13, 2) := by decide +kernel
theorem dX7_init_38 : decode cX7_init 38 = .ok (.newarray .int, 2) := by decide +kernel
theorem dX7_init_40 : decode cX7_init 40 = .ok (.putfield 22, 3) := by decide +kernel
theorem dX7_init_43 : decode cX7_init 43 = .ok (.aload_n 0, 1) := by decide +kernel
theorem dX7_init_44 : decode cX7_init 44 = .ok (.bipush 13, 2) := by decide +kernel
theorem dX7_init_46 : decode cX7_init 46 = .ok (.newarray .int, 2) := by decide +kernel
theorem dX7_init_48 : decode cX7_init 48 = .ok (.putfield 25, 3) := by decide +kernel
theorem dX7_init_51 : decode cX7_init 51 = .ok (.aload_n 0, 1) := by decide +kernel
theorem dX7_init_52 : decode cX7_init 52 = .ok (.bipush 9, 2) := by decide +kernel
theorem dX7_init_54 : decode cX7_init 54 = .ok (.newarray .int, 2) := by decide +kernel
theorem dX7_init_56 : decode cX7_init 56 = .ok (.putfield 28, 3) := by decide +kernel
theorem dX7_init_59 : decode cX7_init 59 = .ok (.aload_n 0, 1) := by decide +kernel
theorem dX7_init_60 : decode cX7_init 60 = .ok (.bipush 9, 2) := by decide +kernel
theorem dX7_init_62 : decode cX7_init 62 = .ok (.newarray .int, 2) := by decide +kernel
theorem dX7_init_64 : decode cX7_init 64 = .ok (.putfield 31, 3) := by decide +kernel
theorem dX7_init_67 : decode cX7_init 67 = .ok (.aload_n 0, 1) := by decide +kernel
theorem dX7_init_68 : decode cX7_init 68 = .ok (.bipush 8, 2) := by decide +kernel
theorem dX7_init_70 : decode cX7_init 70 = .ok (.newarray .int, 2) := by decide +kernel
theorem dX7_init_72 : decode cX7_init 72 = .ok (.putfield 34, 3) := by decide +kernel
theorem dX7_init_75 : decode cX7_init 75 = .ok (.aload_n 0, 1) := by decide +kernel
theorem dX7_init_76 : decode cX7_init 76 = .ok (.bipush 8, 2) := by decide +kernel
theorem dX7_init_78 : decode cX7_init 78 = .ok (.newarray .int, 2) := by decide +kernel
theorem dX7_init_80 : decode cX7_init 80 = .ok (.putfield 37, 3) := by decide +kernel
theorem dX7_init_83 : decode cX7_init 83 = .ok (.aload_n 0, 1) := by decide +kernel
theorem dX7_init_84 : decode cX7_init 84 = .ok (.bipush 8, 2) := by decide +kernel
theorem dX7_init_86 : decode cX7_init 86 = .ok (.newarray .int, 2) := by decide +kernel
theorem dX7_init_88 : decode cX7_init 88 = .ok (.putfield 40, 3) := by decide +kernel
theorem dX7_init_91 : decode cX7_init 91 = .ok (.aload_n 0, 1) := by decide +kernel
theorem dX7_init_92 : decode cX7_init 92 = .ok (.bipush 12, 2) := by decide +kernel
theorem dX7_init_94 : decode cX7_init 94 = .ok (.newarray .int, 2) := by decide +kernel
theorem dX7_init_96 : decode cX7_init 96 = .ok (.putfield 43, 3) := by decide +kernel
theorem dX7_init_99 : decode cX7_init 99 = .ok (.aload_n 0, 1) := by decide +kernel
theorem dX7_init_100 : decode cX7_init 100 = .ok (.bipush 12, 2) := by decide +kernel
theorem dX7_init_102 : decode cX7_init 102 = .ok (.newarray .int, 2) := by decide +kernel
theorem dX7_init_104 : decode cX7_init 104 = .ok (.putfield 46, 3) := by decide +kernel
theorem dX7_init_107 : decode cX7_init 107 = .ok (.aload_n 0, 1) := by decide +kernel
theorem dX7_init_108 : decode cX7_init 108 = .ok (.bipush 12, 2) := by decide +kernel
theorem dX7_init_110 : decode cX7_init 110 = .ok (.newarray .int, 2) := by decide +kernel
theorem dX7_init_112 : decode cX7_init 112 = .ok (.putfield 49, 3) := by decide +kernel
theorem dX7_init_115 : decode cX7_init 115 = .ok (.aload_n 0, 1) := by decide +kernel
theorem dX7_init_116 : decode cX7_init 116 = .ok (.bipush 12, 2) := by decide +kernel
theorem dX7_init_118 : decode cX7_init 118 = .ok (.newarray .int, 2) := by decide +kernel
theorem dX7_init_120 : decode cX7_init 120 = .ok (.putfield 52, 3) := by decide +kernel
theorem dX7_init_123 : decode cX7_init 123 = .ok (.aload_n 0, 1) := by decide +kernel
theorem dX7_init_124 : decode cX7_init 124 = .ok (.bipush 12, 2) := by decide +kernel
theorem dX7_init_126 : decode cX7_init 126 = .ok (.newarray .int, 2) := by decide +kernel
theorem dX7_init_128 : decode cX7_init 128 = .ok (.putfield 55, 3) := by decide +kernel
theorem dX7_init_131 : decode cX7_init 131 = .ok (.aload_n 0, 1) := by decide +kernel
theorem dX7_init_132 : decode cX7_init 132 = .ok (.bipush 12, 2) := by decide +kernel
theorem dX7_init_134 : decode cX7_init 134 = .ok (.newarray .int, 2) := by decide +kernel
theorem dX7_init_136 : decode cX7_init 136 = .ok (.putfield 58, 3) := by decide +kernel
theorem dX7_init_139 : decode cX7_init 139 = .ok (.aload_n 0, 1) := by decide +kernel
theorem dX7_init_140 : decode cX7_init 140 = .ok (.bipush 12, 2) := by decide +kernel
theorem dX7_init_142 : decode cX7_init 142 = .ok (.newarray .int, 2) := by decide +kernel
theorem dX7_init_144 : decode cX7_init 144 = .ok (.putfield 61, 3) := by decide +kernel
theorem dX7_init_147 : decode cX7_init 147 = .ok (.aload_n 0, 1) := by decide +kernel
theorem dX7_init_148 : decode cX7_init 148 = .ok (.sipush 192, 3) := by decide +kernel
theorem dX7_init_151 : decode cX7_init 151 = .ok (.newarray .int, 2) := by decide +kernel
theorem dX7_init_153 : decode cX7_init 153 = .ok (.putfield 64, 3) := by decide +kernel
theorem dX7_init_156 : decode cX7_init 156 = .ok (.aload_n 0, 1) := by decide +kernel
theorem dX7_init_157 : decode cX7_init 157 = .ok (.sipush 192, 3) := by decide +kernel
theorem dX7_init_160 : decode cX7_init 160 = .ok (.newarray .int, 2) := by decide +kernel
theorem dX7_init_162 : decode cX7_init 162 = .ok (.putfield 67, 3) := by decide +kernel
theorem dX7_init_165 : decode cX7_init 165 = .ok (.aload_n 0, 1) := by decide +kernel
theorem dX7_init_166 : decode cX7_init 166 = .ok (.sipush 192, 3) := by decide +kernel
theorem dX7_init_169 : decode cX7_init 169 = .ok (.newarray .int, 2) := by decide +kernel
theorem dX7_init_171 : decode cX7_init 171 = .ok (.putfield 70, 3) := by decide +kernel
theorem dX7_init_174 : decode cX7_init 174 = .ok (.aload_n 0, 1) := by decide +kernel
theorem dX7_init_175 : decode cX7_init 175 = .ok (.bipush 24, 2) := by decide +kernel
theorem dX7_init_177 : decode cX7_init 177 = .ok (.newarray .int, 2) := by decide +kernel
theorem dX7_init_179 : decode cX7_init 179 = .ok (.putfield 73, 3) := by decide +kernel
theorem dX7_init_182 : decode cX7_init 182 = .ok (.aload_n 0, 1) := by decide +kernel
theorem dX7_init_183 : decode cX7_init 183 = .ok (.bipush 12, 2) := by decide +kernel
theorem dX7_init_185 : decode cX7_init 185 = .ok (.newarray .int, 2) := by decide +kernel
theorem dX7_init_187 : decode cX7_init 187 = .ok (.putfield 76, 3) := by decide +kernel
theorem dX7_init_190 : decode cX7_init 190 = .ok (.aload_n 0, 1) := by decide +kernel
theorem dX7_init_191 : decode cX7_init 191 = .ok (.iconst 2, 1) := by decide +kernel
theorem dX7_init_192 : decode cX7_init 192 = .ok (.newarray .int, 2) := by decide +kernel
theorem dX7_init_194 : decode cX7_init 194 = .ok (.putfield 79, 3) := by decide +kernel
theorem dX7_init_197 : decode cX7_init 197 = .ok (.aload_n 0, 1) := by decide +kernel
theorem dX7_init_198 : decode cX7_init 198 = .ok (.bipush 8, 2) := by decide +kernel
theorem dX7_init_200 : decode cX7_init 200 = .ok (.newarray .int, 2) := by decide +kernel
theorem dX7_init_202 : decode cX7_init 202 = .ok (.putfield 82, 3) := by decide +kernel
theorem dX7_init_205 : decode cX7_init 205 = .ok (.aload_n 0, 1) := by decide +kernel
theorem dX7_init_206 : decode cX7_init 206 = .ok (.bipush 8, 2) := by decide +kernel
theorem dX7_init_208 : decode cX7_init 208 = .ok (.newarray .int, 2) := by decide +kernel
theorem dX7_init_210 : decode cX7_init 210 = .ok (.putfield 85, 3) := by decide +kernel
theorem dX7_init_213 : decode cX7_init 213 = .ok (.aload_n 0, 1) := by decide +kernel
theorem dX7_init_214 : decode cX7_init 214 = .ok (.bipush 10, 2) := by decide +kernel
theorem dX7_init_216 : decode cX7_init 216 = .ok (.newarray .int, 2) := by decide +kernel
theorem dX7_init_218 : decode cX7_init 218 = .ok (.putfield 88, 3) := by decide +kernel
theorem dX7_init_221 : decode cX7_init 221 = .ok (.aload_n 0, 1) := by decide +kernel
theorem dX7_init_222 : decode cX7_init 222 = .ok (.iconst 4, 1) := by decide +kernel
theorem dX7_init_223 : decode cX7_init 223 = .ok (.newarray .boolean, 2) := by decide +kernel
theorem dX7_init_225 : decode cX7_init 225 = .ok (.putfield 91, 3) := by decide +kernel
theorem dX7_init_228 : decode cX7_init 228 = .ok (.aload_n 0, 1) := by decide +kernel
theorem dX7_init_229 : decode cX7_init 229 = .ok (.iconst 4, 1) := by decide +kernel
theorem dX7_init_230 : decode cX7_init 230 = .ok (.newarray .int, 2) := by decide +kernel
theorem dX7_init_232 : decode cX7_init 232 = .ok (.putfield 95, 3) := by decide +kernel
theorem dX7_init_235 : decode cX7_init 235 = .ok (.aload_n 0, 1) := by decide +kernel
theorem dX7_init_236 : decode cX7_init 236 = .ok (.iconst 4, 1) := by decide +kernel
theorem dX7_init_237 : decode cX7_init 237 = .ok (.newarray .int, 2) := by decide +kernel
theorem dX7_init_239 : decode cX7_init 239 = .ok (.putfield 98, 3) := by decide +kernel
theorem dX7_init_242 : decode cX7_init 242 = .ok (.aload_n 0, 1) := by decide +kernel
theorem dX7_init_243 : decode cX7_init 243 = .ok (.sipush 240, 3) := by decide +kernel
theorem dX7_init_246 : decode cX7_init 246 = .ok (.newarray .int, 2) := by decide +kernel
theorem dX7_init_248 : decode cX7_init 248 = .ok (.putfield 101, 3) := by decide +kernel
theorem dX7_init_251 : decode cX7_init 251 = .ok (.aload_n 0, 1) := by decide +kernel
theorem dX7_init_252 : decode cX7_init 252 = .ok (.bipush 60, 2) := by decide +kernel
theorem dX7_init_254 : decode cX7_init 254 = .ok (.newarray .int, 2) := by decide +kernel
theorem dX7_init_256 : decode cX7_init 256 = .ok (.putfield 104, 3) := by decide +kernel
theorem dX7_init_259 : decode cX7_init 259 = .ok (.aload_n 0, 1) := by decide +kernel
theorem dX7_init_260 : decode cX7_init 260 = .ok (.bipush 6, 2) := by decide +kernel
theorem dX7_init_262 : decode cX7_init 262 = .ok (.putfield 107, 3) := by decide +kernel
theorem dX7_init_265 : decode cX7_init 265 = .ok (.return_, 1) := by decide +kernel
theorem dX7_in_0 : decode cX7_in 0 = .ok (.iload_n 0, 1) := by decide +kernel
theorem dX7_in_1 : decode cX7_in 1 = .ok (.iload_n 1, 1) := by decide +kernel
theorem dX7_in_2 : decode cX7_in 2 = .ok (.if_icmp .lt 12, 3) := by decide +kernel
theorem dX7_in_5 : decode cX7_in 5 = .ok (.iload_n 0, 1) := by decide +kernel
theorem dX7_in_6 : decode cX7_in 6 = .ok (.iload_n 2, 1) := by decide +kernel
theorem dX7_in_7 : decode cX7_in 7 = .ok (.if_icmp .gt 7, 3) := by decide +kernel
theorem dX7_in_10 : decode cX7_in 10 = .ok (.iconst 1, 1) := by decide +kernel
theorem dX7_in_11 : decode cX7_in 11 = .ok (.goto 4, 3) := by decide +kernel
theorem dX7_in_14 : decode cX7_in 14 = .ok (.iconst 0, 1) := by decide +kernel
theorem dX7_in_15 : decode cX7_in 15 = .ok (.ireturn, 1) := by decide +kernel
theorem dX7_isIn_0 : decode cX7_isIn 0 = .ok (.iload_n 0, 1) := by decide +kernel
theorem dX7_isIn_1 : decode cX7_isIn 1 = .ok (.iload_n 1, 1) := by decide +kernel
theorem dX7_isIn_2 : decode cX7_isIn 2 = .ok (.ishr, 1) := by decide +kernel
theorem dX7_isIn_3 : decode cX7_isIn 3 = .ok (.iconst 1, 1) := by decide +kernel
theorem dX7_isIn_4 : decode cX7_isIn 4 = .ok (.iand, 1) := by decide +kernel
theorem dX7_isIn_5 : decode cX7_isIn 5 = .ok (.iconst 1, 1) := by decide +kernel
theorem dX7_isIn_6 : decode cX7_isIn 6 = .ok (.if_icmp .ne 7, 3) := by decide +kernel
theorem dX7_isIn_9 : decode cX7_isIn 9 = .ok (.iconst 1, 1) := by decide +kernel
theorem dX7_isIn_10 : decode cX7_isIn 10 = .ok (.goto 4, 3) := by decide +kernel
theorem dX7_isIn_13 : decode cX7_isIn 13 = .ok (.iconst 0, 1) := by decide +kernel
theorem dX7_isIn_14 : decode cX7_isIn 14 = .ok (.ireturn, 1) := by decide +kernel
theorem dX7_no_0 : decode cX7_no 0 = .ok (.ldc2_w 111, 3) := by decide +kernel
theorem dX7_no_3 : decode cX7_no 3 = .ok (.iload_n 0, 1) := by decide +kernel
theorem dX7_no_4 : decode cX7_no 4 = .ok (.i2l, 1) := by decide +kernel
theorem dX7_no_5 : decode cX7_no 5 = .ok (.lsub, 1) := by decide +kernel
theorem dX7_no_6 : decode cX7_no 6 = .ok (.lreturn, 1) := by decide +kernel
theorem dX7_lowest_0 : decode cX7_lowest 0 = .ok (.lload_n 0, 1) := by decide +kernel
theorem dX7_lowest_1 : decode cX7_lowest 1 = .ok (.lstore 5, 2) := by decide +kernel
theorem dX7_lowest_3 : decode cX7_lowest 3 = .ok (.lload_n 2, 1) := by decide +kernel
theorem dX7_lowest_4 : decode cX7_lowest 4 = .ok (.lstore 7, 2) := by decide +kernel
theorem dX7_lowest_6 : decode cX7_lowest 6 = .ok (.lload 7, 2) := by decide +kernel
theorem dX7_lowest_8 : decode cX7_lowest 8 = .ok (.lconst 0, 1) := by decide +kernel
theorem dX7_lowest_9 : decode cX7_lowest 9 = .ok (.lcmp, 1) := by decide +kernel
theorem dX7_lowest_10 : decode cX7_lowest 10 = .ok (.ifCond .eq 21, 3) := by decide +kernel
theorem dX7_lowest_13 : decode cX7_lowest 13 = .ok (.lload 5, 2) := by decide +kernel
theorem dX7_lowest_15 : decode cX7_lowest 15 = .ok (.lload 7, 2) := by decide +kernel
theorem dX7_lowest_17 : decode cX7_lowest 17 = .ok (.lrem, 1) := by decide +kernel
theorem dX7_lowest_18 : decode cX7_lowest 18 = .ok (.lstore 9, 2) := by decide +kernel
theorem dX7_lowest_20 : decode cX7_lowest 20 = .ok (.lload 7, 2) := by decide +kernel
theorem dX7_lowest_22 : decode cX7_lowest 22 = .ok (.lstore 5, 2) := by decide +kernel
theorem dX7_lowest_24 : decode cX7_lowest 24 = .ok (.lload 9, 2) := by decide +kernel
theorem dX7_lowest_26 : decode cX7_lowest 26 = .ok (.lstore 7, 2) := by decide +kernel
theorem dX7_lowest_28 : decode cX7_lowest 28 = .ok (.goto (-22), 3) := by decide +kernel
theorem dX7_lowest_31 : decode cX7_lowest 31 = .ok (.iload 4, 2) := by decide +kernel
theorem dX7_lowest_33 : decode cX7_lowest 33 = .ok (.ifCond .ne 10, 3) := by decide +kernel
theorem dX7_lowest_36 : decode cX7_lowest 36 = .ok (.lload_n 0, 1) := by decide +kernel
theorem dX7_lowest_37 : decode cX7_lowest 37 = .ok (.lload 5, 2) := by decide +kernel
theorem dX7_lowest_39 : decode cX7_lowest 39 = .ok (.ldiv, 1) := by decide +kernel
theorem dX7_lowest_40 : decode cX7_lowest 40 = .ok (.goto 7, 3) := by decide +kernel
theorem dX7_lowest_43 : decode cX7_lowest 43 = .ok (.lload_n 2, 1) := by decide +kernel
theorem dX7_lowest_44 : decode cX7_lowest 44 = .ok (.lload 5, 2) := by decide +kernel
theorem dX7_lowest_46 : decode cX7_lowest 46 = .ok (.ldiv, 1) := by decide +kernel
theorem dX7_lowest_47 : decode cX7_lowest 47 = .ok (.lreturn, 1) := by decide +kernel
theorem dX7_isTwo_0 : decode cX7_isTwo 0 = .ok (.iload_n 0, 1) := by decide +kernel
theorem dX7_isTwo_1 : decode cX7_isTwo 1 = .ok (.iconst 0, 1) := by decide +kernel
theorem dX7_isTwo_2 : decode cX7_isTwo 2 = .ok (.iconst 1, 1) := by decide +kernel
theorem dX7_isTwo_3 : decode cX7_isTwo 3 = .ok (.invokestatic 113, 3) := by decide +kernel
theorem dX7_isTwo_6 : decode cX7_isTwo 6 = .ok (.ireturn, 1) := by decide +kernel
theorem dX7_isThree_0 : decode cX7_isThree 0 = .ok (.iload_n 0, 1) := by decide +kernel
theorem dX7_isThree_1 : decode cX7_isThree 1 = .ok (.iconst 0, 1) := by decide +kernel
theorem dX7_isThree_2 : decode cX7_isThree 2 = .ok (.iconst 2, 1) := by decide +kernel
theorem dX7_isThree_3 : decode cX7_isThree 3 = .ok (.invokestatic 113, 3) := by decide +kernel
theorem dX7_isThree_6 : decode cX7_isThree 6 = .ok (.ireturn, 1) := by decide +kernel
theorem dX7_isNight_0 : decode cX7_isNight 0 = .ok (.iload_n 0, 1) := by decide +kernel
theorem dX7_isNight_1 : decode cX7_isNight 1 = .ok (.iconst 0, 1) := by decide +kernel
theorem dX7_isNight_2 : decode cX7_isNight 2 = .ok (.bipush 23, 2) := by decide +kernel
theorem dX7_isNight_4 : decode cX7_isNight 4 = .ok (.invokestatic 113, 3) := by decide +kernel
theorem dX7_isNight_7 : decode cX7_isNight 7 = .ok (.ireturn, 1) := by decide +kernel
theorem dX7_isTown_0 : decode cX7_isTown 0 = .ok (.iload_n 0, 1) := by decide +kernel
theorem dX7_isTown_1 : decode cX7_isTown 1 = .ok (.iconst 0, 1) := by decide +kernel
theorem dX7_isTown_2 : decode cX7_isTown 2 = .ok (.bipush 7, 2) := by decide +kernel
theorem dX7_isTown_4 : decode cX7_isTown 4 = .ok (.invokestatic 113, 3) := by decide +kernel
theorem dX7_isTown_7 : decode cX7_isTown 7 = .ok (.ireturn, 1) := by decide +kernel
theorem dX7_type_0 : decode cX7_type 0 = .ok (.iload_n 1, 1) := by decide +kernel
theorem dX7_type_1 : decode cX7_type 1 = .ok (.invokestatic 117, 3) := by decide +kernel
theorem dX7_type_4 : decode cX7_type 4 = .ok (.ifCond .eq 14, 3) := by decide +kernel
theorem dX7_type_7 : decode cX7_type 7 = .ok (.iload_n 2, 1) := by decide +kernel
theorem dX7_type_8 : decode cX7_type 8 = .ok (.iconst 0, 1) := by decide +kernel
theorem dX7_type_9 : decode cX7_type 9 = .ok (.sipush 255, 3) := by decide +kernel
theorem dX7_type_12 : decode cX7_type 12 = .ok (.invokestatic 113, 3) := by decide +kernel
theorem dX7_type_15 : decode cX7_type 15 = .ok (.ifCond .ne 6, 3) := by decide +kernel
theorem dX7_type_18 : decode cX7_type 18 = .ok (.bipush (-2), 2) := by decide +kernel
theorem dX7_type_20 : decode cX7_type 20 = .ok (.ireturn, 1) := by decide +kernel
theorem dX7_type_21 : decode cX7_type 21 = .ok (.aload_n 0, 1) := by decide +kernel
theorem dX7_type_22 : decode cX7_type 22 = .ok (.getfield 7, 3) := by decide +kernel
theorem dX7_type_25 : decode cX7_type 25 = .ok (.iload_n 1, 1) := by decide +kernel
theorem dX7_type_26 : decode cX7_type 26 = .ok (.iaload, 1) := by decide +kernel
theorem dX7_type_27 : decode cX7_type 27 = .ok (.iload_n 1, 1) := by decide +kernel
theorem dX7_type_28 : decode cX7_type 28 = .ok (.ifCond .ne 8, 3) := by decide +kernel
theorem dX7_type_31 : decode cX7_type 31 = .ok (.bipush 59, 2) := by decide +kernel
theorem dX7_type_33 : decode cX7_type 33 = .ok (.goto 5, 3) := by decide +kernel
theorem dX7_type_36 : decode cX7_type 36 = .ok (.bipush 23, 2) := by decide +kernel
theorem dX7_type_38 : decode cX7_type 38 = .ok (.if_icmp .ne 6, 3) := by decide +kernel
theorem dX7_type_41 : decode cX7_type 41 = .ok (.bipush (-4), 2) := by decide +kernel
theorem dX7_type_43 : decode cX7_type 43 = .ok (.ireturn, 1) := by decide +kernel
theorem dX7_type_44 : decode cX7_type 44 = .ok (.aload_n 0, 1) := by decide +kernel
theorem dX7_type_45 : decode cX7_type 45 = .ok (.getfield 13, 3) := by decide +kernel
theorem dX7_type_48 : decode cX7_type 48 = .ok (.bipush 59, 2) := by decide +kernel
theorem dX7_type_50 : decode cX7_type 50 = .ok (.iload_n 1, 1) := by decide +kernel
theorem dX7_type_51 : decode cX7_type 51 = .ok (.imul, 1) := by decide +kernel
theorem dX7_type_52 : decode cX7_type 52 = .ok (.aload_n 0, 1) := by decide +kernel
theorem dX7_type_53 : decode cX7_type 53 = .ok (.getfield 7, 3) := by decide +kernel
theorem dX7_type_56 : decode cX7_type 56 = .ok (.iload_n 1, 1) := by decide +kernel
theorem dX7_type_57 : decode cX7_type 57 = .ok (.iaload, 1) := by decide +kernel
theorem dX7_type_58 : decode cX7_type 58 = .ok (.iadd, 1) := by decide +kernel
theorem dX7_type_59 : decode cX7_type 59 = .ok (.iload_n 2, 1) := by decide +kernel
theorem dX7_type_60 : decode cX7_type 60 = .ok (.iastore, 1) := by decide +kernel
theorem dX7_type_61 : decode cX7_type 61 = .ok (.aload_n 0, 1) := by decide +kernel
theorem dX7_type_62 : decode cX7_type 62 = .ok (.getfield 7, 3) := by decide +kernel
theorem dX7_type_65 : decode cX7_type 65 = .ok (.iload_n 1, 1) := by decide +kernel
theorem dX7_type_66 : decode cX7_type 66 = .ok (.dup2, 1) := by decide +kernel
theorem dX7_type_67 : decode cX7_type 67 = .ok (.iaload, 1) := by decide +kernel
theorem dX7_type_68 : decode cX7_type 68 = .ok (.iconst 1, 1) := by decide +kernel
theorem dX7_type_69 : decode cX7_type 69 = .ok (.iadd, 1) := by decide +kernel
theorem dX7_type_70 : decode cX7_type 70 = .ok (.iastore, 1) := by decide +kernel
theorem dX7_type_71 : decode cX7_type 71 = .ok (.aload_n 0, 1) := by decide +kernel
theorem dX7_type_72 : decode cX7_type 72 = .ok (.getfield 7, 3) := by decide +kernel
theorem dX7_type_75 : decode cX7_type 75 = .ok (.iload_n 1, 1) := by decide +kernel
theorem dX7_type_76 : decode cX7_type 76 = .ok (.iaload, 1) := by decide +kernel
theorem dX7_type_77 : decode cX7_type 77 = .ok (.ireturn, 1) := by decide +kernel
theorem dX7_wipe_0 : decode cX7_wipe 0 = .ok (.iload_n 1, 1) := by decide +kernel
theorem dX7_wipe_1 : decode cX7_wipe 1 = .ok (.invokestatic 117, 3) := by decide +kernel
theorem dX7_wipe_4 : decode cX7_wipe 4 = .ok (.ifCond .ne 6, 3) := by decide +kernel
theorem dX7_wipe_7 : decode cX7_wipe 7 = .ok (.bipush (-2), 2) := by decide +kernel
theorem dX7_wipe_9 : decode cX7_wipe 9 = .ok (.ireturn, 1) := by decide +kernel
theorem dX7_wipe_10 : decode cX7_wipe 10 = .ok (.aload_n 0, 1) := by decide +kernel
theorem dX7_wipe_11 : decode cX7_wipe 11 = .ok (.getfield 7, 3) := by decide +kernel
theorem dX7_wipe_14 : decode cX7_wipe 14 = .ok (.iload_n 1, 1) := by decide +kernel
theorem dX7_wipe_15 : decode cX7_wipe 15 = .ok (.iaload, 1) := by decide +kernel
theorem dX7_wipe_16 : decode cX7_wipe 16 = .ok (.istore_n 2, 1) := by decide +kernel
theorem dX7_wipe_17 : decode cX7_wipe 17 = .ok (.aload_n 0, 1) := by decide +kernel
theorem dX7_wipe_18 : decode cX7_wipe 18 = .ok (.getfield 7, 3) := by decide +kernel
theorem dX7_wipe_21 : decode cX7_wipe 21 = .ok (.iload_n 1, 1) := by decide +kernel
theorem dX7_wipe_22 : decode cX7_wipe 22 = .ok (.iconst 0, 1) := by decide +kernel
theorem dX7_wipe_23 : decode cX7_wipe 23 = .ok (.iastore, 1) := by decide +kernel
theorem dX7_wipe_24 : decode cX7_wipe 24 = .ok (.iload_n 2, 1) := by decide +kernel
theorem dX7_wipe_25 : decode cX7_wipe 25 = .ok (.ireturn, 1) := by decide +kernel
theorem dX7_undo_0 : decode cX7_undo 0 = .ok (.iload_n 1, 1) := by decide +kernel
theorem dX7_undo_1 : decode cX7_undo 1 = .ok (.invokestatic 117, 3) := by decide +kernel
theorem dX7_undo_4 : decode cX7_undo 4 = .ok (.ifCond .ne 6, 3) := by decide +kernel
theorem dX7_undo_7 : decode cX7_undo 7 = .ok (.bipush (-2), 2) := by decide +kernel
theorem dX7_undo_9 : decode cX7_undo 9 = .ok (.ireturn, 1) := by decide +kernel
theorem dX7_undo_10 : decode cX7_undo 10 = .ok (.aload_n 0, 1) := by decide +kernel
theorem dX7_undo_11 : decode cX7_undo 11 = .ok (.getfield 7, 3) := by decide +kernel
theorem dX7_undo_14 : decode cX7_undo 14 = .ok (.iload_n 1, 1) := by decide +kernel
theorem dX7_undo_15 : decode cX7_undo 15 = .ok (.iaload, 1) := by decide +kernel
theorem dX7_undo_16 : decode cX7_undo 16 = .ok (.ifCond .ne 6, 3) := by decide +kernel
theorem dX7_undo_19 : decode cX7_undo 19 = .ok (.bipush (-3), 2) := by decide +kernel
theorem dX7_undo_21 : decode cX7_undo 21 = .ok (.ireturn, 1) := by decide +kernel
theorem dX7_undo_22 : decode cX7_undo 22 = .ok (.aload_n 0, 1) := by decide +kernel
theorem dX7_undo_23 : decode cX7_undo 23 = .ok (.getfield 7, 3) := by decide +kernel
theorem dX7_undo_26 : decode cX7_undo 26 = .ok (.iload_n 1, 1) := by decide +kernel
theorem dX7_undo_27 : decode cX7_undo 27 = .ok (.dup2, 1) := by decide +kernel
theorem dX7_undo_28 : decode cX7_undo 28 = .ok (.iaload, 1) := by decide +kernel
theorem dX7_undo_29 : decode cX7_undo 29 = .ok (.iconst 1, 1) := by decide +kernel
theorem dX7_undo_30 : decode cX7_undo 30 = .ok (.isub, 1) := by decide +kernel
theorem dX7_undo_31 : decode cX7_undo 31 = .ok (.iastore, 1) := by decide +kernel
theorem dX7_undo_32 : decode cX7_undo 32 = .ok (.aload_n 0, 1) := by decide +kernel
theorem dX7_undo_33 : decode cX7_undo 33 = .ok (.getfield 7, 3) := by decide +kernel
theorem dX7_undo_36 : decode cX7_undo 36 = .ok (.iload_n 1, 1) := by decide +kernel
theorem dX7_undo_37 : decode cX7_undo 37 = .ok (.iaload, 1) := by decide +kernel
theorem dX7_undo_38 : decode cX7_undo 38 = .ok (.ireturn, 1) := by decide +kernel
theorem dX7_byteAt_0 : decode cX7_byteAt 0 = .ok (.iload_n 2, 1) := by decide +kernel
theorem dX7_byteAt_1 : decode cX7_byteAt 1 = .ok (.aload_n 0, 1) := by decide +kernel
theorem dX7_byteAt_2 : decode cX7_byteAt 2 = .ok (.getfield 7, 3) := by decide +kernel
theorem dX7_byteAt_5 : decode cX7_byteAt 5 = .ok (.iload_n 1, 1) := by decide +kernel
theorem dX7_byteAt_6 : decode cX7_byteAt 6 = .ok (.iaload, 1) := by decide +kernel
theorem dX7_byteAt_7 : decode cX7_byteAt 7 = .ok (.if_icmp .ge 17, 3) := by decide +kernel
theorem dX7_byteAt_10 : decode cX7_byteAt 10 = .ok (.aload_n 0, 1) := by decide +kernel
theorem dX7_byteAt_11 : decode cX7_byteAt 11 = .ok (.getfield 13, 3) := by decide +kernel
theorem dX7_byteAt_14 : decode cX7_byteAt 14 = .ok (.bipush 59, 2) := by decide +kernel
theorem dX7_byteAt_16 : decode cX7_byteAt 16 = .ok (.iload_n 1, 1) := by decide +kernel
theorem dX7_byteAt_17 : decode cX7_byteAt 17 = .ok (.imul, 1) := by decide +kernel
theorem dX7_byteAt_18 : decode cX7_byteAt 18 = .ok (.iload_n 2, 1) := by decide +kernel
theorem dX7_byteAt_19 : decode cX7_byteAt 19 = .ok (.iadd, 1) := by decide +kernel
theorem dX7_byteAt_20 : decode cX7_byteAt 20 = .ok (.iaload, 1) := by decide +kernel
theorem dX7_byteAt_21 : decode cX7_byteAt 21 = .ok (.goto 4, 3) := by decide +kernel
theorem dX7_byteAt_24 : decode cX7_byteAt 24 = .ok (.iconst (-1), 1) := by decide +kernel
theorem dX7_byteAt_25 : decode cX7_byteAt 25 = .ok (.ireturn, 1) := by decide +kernel
theorem dX7_sortOf_0 : decode cX7_sortOf 0 = .ok (.iload_n 0, 1) := by decide +kernel
theorem dX7_sortOf_1 : decode cX7_sortOf 1 = .ok (.bipush 115, 2) := by decide +kernel
theorem dX7_sortOf_3 : decode cX7_sortOf 3 = .ok (.if_icmp .ne 7, 3) := by decide +kernel
theorem dX7_sortOf_6 : decode cX7_sortOf 6 = .ok (.iconst 0, 1) := by decide +kernel
theorem dX7_sortOf_7 : decode cX7_sortOf 7 = .ok (.goto 24, 3) := by decide +kernel
theorem dX7_sortOf_10 : decode cX7_sortOf 10 = .ok (.iload_n 0, 1) := by decide +kernel
theorem dX7_sortOf_11 : decode cX7_sortOf 11 = .ok (.bipush 100, 2) := by decide +kernel
theorem dX7_sortOf_13 : decode cX7_sortOf 13 = .ok (.if_icmp .ne 7, 3) := by decide +kernel
theorem dX7_sortOf_16 : decode cX7_sortOf 16 = .ok (.iconst 1, 1) := by decide +kernel
theorem dX7_sortOf_17 : decode cX7_sortOf 17 = .ok (.goto 14, 3) := by decide +kernel
theorem dX7_sortOf_20 : decode cX7_sortOf 20 = .ok (.iload_n 0, 1) := by decide +kernel
theorem dX7_sortOf_21 : decode cX7_sortOf 21 = .ok (.bipush 107, 2) := by decide +kernel
theorem dX7_sortOf_23 : decode cX7_sortOf 23 = .ok (.if_icmp .ne 7, 3) := by decide +kernel
theorem dX7_sortOf_26 : decode cX7_sortOf 26 = .ok (.iconst 2, 1) := by decide +kernel
theorem dX7_sortOf_27 : decode cX7_sortOf 27 = .ok (.goto 4, 3) := by decide +kernel
theorem dX7_sortOf_30 : decode cX7_sortOf 30 = .ok (.iconst (-1), 1) := by decide +kernel
theorem dX7_sortOf_31 : decode cX7_sortOf 31 = .ok (.ireturn, 1) := by decide +kernel
theorem dX7_readsTale_0 : decode cX7_readsTale 0 = .ok (.aload_n 0, 1) := by decide +kernel
theorem dX7_readsTale_1 : decode cX7_readsTale 1 = .ok (.iconst 0, 1) := by decide +kernel
theorem dX7_readsTale_2 : decode cX7_readsTale 2 = .ok (.iload_n 2, 1) := by decide +kernel
theorem dX7_readsTale_3 : decode cX7_readsTale 3 = .ok (.invokevirtual 121, 3) := by decide +kernel
theorem dX7_readsTale_6 : decode cX7_readsTale 6 = .ok (.bipush 97, 2) := by decide +kernel
theorem dX7_readsTale_8 : decode cX7_readsTale 8 = .ok (.isub, 1) := by decide +kernel
theorem dX7_readsTale_9 : decode cX7_readsTale 9 = .ok (.istore_n 3, 1) := by decide +kernel
theorem dX7_readsTale_10 : decode cX7_readsTale 10 = .ok (.aload_n 0, 1) := by decide +kernel
theorem dX7_readsTale_11 : decode cX7_readsTale 11 = .ok (.iconst 0, 1) := by decide +kernel
theorem dX7_readsTale_12 : decode cX7_readsTale 12 = .ok (.iload_n 2, 1) := by decide +kernel
theorem dX7_readsTale_13 : decode cX7_readsTale 13 = .ok (.iconst 1, 1) := by decide +kernel
theorem dX7_readsTale_14 : decode cX7_readsTale 14 = .ok (.iadd, 1) := by decide +kernel
theorem dX7_readsTale_15 : decode cX7_readsTale 15 = .ok (.invokevirtual 121, 3) := by decide +kernel
theorem dX7_readsTale_18 : decode cX7_readsTale 18 = .ok (.bipush 48, 2) := by decide +kernel
theorem dX7_readsTale_20 : decode cX7_readsTale 20 = .ok (.isub, 1) := by decide +kernel
theorem dX7_readsTale_21 : decode cX7_readsTale 21 = .ok (.istore 4, 2) := by decide +kernel
theorem dX7_readsTale_23 : decode cX7_readsTale 23 = .ok (.aload_n 0, 1) := by decide +kernel
theorem dX7_readsTale_24 : decode cX7_readsTale 24 = .ok (.iconst 0, 1) := by decide +kernel
theorem dX7_readsTale_25 : decode cX7_readsTale 25 = .ok (.iload_n 2, 1) := by decide +kernel
theorem dX7_readsTale_26 : decode cX7_readsTale 26 = .ok (.iconst 2, 1) := by decide +kernel
theorem dX7_readsTale_27 : decode cX7_readsTale 27 = .ok (.iadd, 1) := by decide +kernel
theorem dX7_readsTale_28 : decode cX7_readsTale 28 = .ok (.invokevirtual 121, 3) := by decide +kernel
theorem dX7_readsTale_31 : decode cX7_readsTale 31 = .ok (.bipush 48, 2) := by decide +kernel
theorem dX7_readsTale_33 : decode cX7_readsTale 33 = .ok (.isub, 1) := by decide +kernel
theorem dX7_readsTale_34 : decode cX7_readsTale 34 = .ok (.istore 5, 2) := by decide +kernel
theorem dX7_readsTale_36 : decode cX7_readsTale 36 = .ok (.aload_n 0, 1) := by decide +kernel
theorem dX7_readsTale_37 : decode cX7_readsTale 37 = .ok (.iconst 0, 1) := by decide +kernel
theorem dX7_readsTale_38 : decode cX7_readsTale 38 = .ok (.iload_n 2, 1) := by decide +kernel
theorem dX7_readsTale_39 : decode cX7_readsTale 39 = .ok (.iconst 3, 1) := by decide +kernel
theorem dX7_readsTale_40 : decode cX7_readsTale 40 = .ok (.iadd, 1) := by decide +kernel
theorem dX7_readsTale_41 : decode cX7_readsTale 41 = .ok (.invokevirtual 121, 3) := by decide +kernel
theorem dX7_readsTale_44 : decode cX7_readsTale 44 = .ok (.invokestatic 125, 3) := by decide +kernel
theorem dX7_readsTale_47 : decode cX7_readsTale 47 = .ok (.istore 6, 2) := by decide +kernel
theorem dX7_readsTale_49 : decode cX7_readsTale 49 = .ok (.iload_n 1, 1) := by decide +kernel
theorem dX7_readsTale_50 : decode cX7_readsTale 50 = .ok (.bipush 12, 2) := by decide +kernel
theorem dX7_readsTale_52 : decode cX7_readsTale 52 = .ok (.if_icmp .eq 10, 3) := by decide +kernel
theorem dX7_readsTale_55 : decode cX7_readsTale 55 = .ok (.iload_n 3, 1) := by decide +kernel
theorem dX7_readsTale_56 : decode cX7_readsTale 56 = .ok (.invokestatic 129, 3) := by decide +kernel
theorem dX7_readsTale_59 : decode cX7_readsTale 59 = .ok (.ifCond .ne 5, 3) := by decide +kernel
theorem dX7_readsTale_62 : decode cX7_readsTale 62 = .ok (.iconst 0, 1) := by decide +kernel
theorem dX7_readsTale_63 : decode cX7_readsTale 63 = .ok (.ireturn, 1) := by decide +kernel
theorem dX7_readsTale_64 : decode cX7_readsTale 64 = .ok (.iload 4, 2) := by decide +kernel
theorem dX7_readsTale_66 : decode cX7_readsTale 66 = .ok (.invokestatic 132, 3) := by decide +kernel
theorem dX7_readsTale_69 : decode cX7_readsTale 69 = .ok (.ifCond .ne 5, 3) := by decide +kernel
theorem dX7_readsTale_72 : decode cX7_readsTale 72 = .ok (.iconst 1, 1) := by decide +kernel
theorem dX7_readsTale_73 : decode cX7_readsTale 73 = .ok (.ireturn, 1) := by decide +kernel
theorem dX7_readsTale_74 : decode cX7_readsTale 74 = .ok (.iload 5, 2) := by decide +kernel
theorem dX7_readsTale_76 : decode cX7_readsTale 76 = .ok (.iconst 0, 1) := by decide +kernel
theorem dX7_readsTale_77 : decode cX7_readsTale 77 = .ok (.bipush 9, 2) := by decide +kernel
theorem dX7_readsTale_79 : decode cX7_readsTale 79 = .ok (.invokestatic 113, 3) := by decide +kernel
theorem dX7_readsTale_82 : decode cX7_readsTale 82 = .ok (.ifCond .ne 5, 3) := by decide +kernel
theorem dX7_readsTale_85 : decode cX7_readsTale 85 = .ok (.iconst 2, 1) := by decide +kernel
theorem dX7_readsTale_86 : decode cX7_readsTale 86 = .ok (.ireturn, 1) := by decide +kernel
theorem dX7_readsTale_87 : decode cX7_readsTale 87 = .ok (.iload 6, 2) := by decide +kernel
theorem dX7_readsTale_89 : decode cX7_readsTale 89 = .ok (.iconst (-1), 1) := by decide +kernel
theorem dX7_readsTale_90 : decode cX7_readsTale 90 = .ok (.if_icmp .ne 5, 3) := by decide +kernel
theorem dX7_readsTale_93 : decode cX7_readsTale 93 = .ok (.iconst 3, 1) := by decide +kernel
theorem dX7_readsTale_94 : decode cX7_readsTale 94 = .ok (.ireturn, 1) := by decide +kernel
theorem dX7_readsTale_95 : decode cX7_readsTale 95 = .ok (.aload_n 0, 1) := by decide +kernel
theorem dX7_readsTale_96 : decode cX7_readsTale 96 = .ok (.getfield 16, 3) := by decide +kernel
theorem dX7_readsTale_99 : decode cX7_readsTale 99 = .ok (.iload_n 1, 1) := by decide +kernel
theorem dX7_readsTale_100 : decode cX7_readsTale 100 = .ok (.iload_n 3, 1) := by decide +kernel
theorem dX7_readsTale_101 : decode cX7_readsTale 101 = .ok (.iastore, 1) := by decide +kernel
theorem dX7_readsTale_102 : decode cX7_readsTale 102 = .ok (.aload_n 0, 1) := by decide +kernel
theorem dX7_readsTale_103 : decode cX7_readsTale 103 = .ok (.getfield 19, 3) := by decide +kernel
theorem dX7_readsTale_106 : decode cX7_readsTale 106 = .ok (.iload_n 1, 1) := by decide +kernel
theorem dX7_readsTale_107 : decode cX7_readsTale 107 = .ok (.iload 4, 2) := by decide +kernel
theorem dX7_readsTale_109 : decode cX7_readsTale 109 = .ok (.iastore, 1) := by decide +kernel
theorem dX7_readsTale_110 : decode cX7_readsTale 110 = .ok (.aload_n 0, 1) := by decide +kernel
theorem dX7_readsTale_111 : decode cX7_readsTale 111 = .ok (.getfield 22, 3) := by decide +kernel
theorem dX7_readsTale_114 : decode cX7_readsTale 114 = .ok (.iload_n 1, 1) := by decide +kernel
theorem dX7_readsTale_115 : decode cX7_readsTale 115 = .ok (.iload 5, 2) := by decide +kernel
theorem dX7_readsTale_117 : decode cX7_readsTale 117 = .ok (.iastore, 1) := by decide +kernel
theorem dX7_readsTale_118 : decode cX7_readsTale 118 = .ok (.aload_n 0, 1) := by decide +kernel
theorem dX7_readsTale_119 : decode cX7_readsTale 119 = .ok (.getfield 25, 3) := by decide +kernel
theorem dX7_readsTale_122 : decode cX7_readsTale 122 = .ok (.iload_n 1, 1) := by decide +kernel
theorem dX7_readsTale_123 : decode cX7_readsTale 123 = .ok (.iload 6, 2) := by decide +kernel
theorem dX7_readsTale_125 : decode cX7_readsTale 125 = .ok (.iastore, 1) := by decide +kernel
theorem dX7_readsTale_126 : decode cX7_readsTale 126 = .ok (.iconst 4, 1) := by decide +kernel
theorem dX7_readsTale_127 : decode cX7_readsTale 127 = .ok (.ireturn, 1) := by decide +kernel
theorem dX7_readsCharge_0 : decode cX7_readsCharge 0 = .ok (.aload_n 0, 1) := by decide +kernel
theorem dX7_readsCharge_1 : decode cX7_readsCharge 1 = .ok (.iconst 1, 1) := by decide +kernel
theorem dX7_readsCharge_2 : decode cX7_readsCharge 2 = .ok (.iload_n 2, 1) := by decide +kernel
theorem dX7_readsCharge_3 : decode cX7_readsCharge 3 = .ok (.invokevirtual 121, 3) := by decide +kernel
theorem dX7_readsCharge_6 : decode cX7_readsCharge 6 = .ok (.bipush 97, 2) := by decide +kernel
theorem dX7_readsCharge_8 : decode cX7_readsCharge 8 = .ok (.isub, 1) := by decide +kernel
theorem dX7_readsCharge_9 : decode cX7_readsCharge 9 = .ok (.istore_n 3, 1) := by decide +kernel
theorem dX7_readsCharge_10 : decode cX7_readsCharge 10 = .ok (.aload_n 0, 1) := by decide +kernel
theorem dX7_readsCharge_11 : decode cX7_readsCharge 11 = .ok (.iconst 1, 1) := by decide +kernel
theorem dX7_readsCharge_12 : decode cX7_readsCharge 12 = .ok (.iload_n 2, 1) := by decide +kernel
theorem dX7_readsCharge_13 : decode cX7_readsCharge 13 = .ok (.iconst 1, 1) := by decide +kernel
theorem dX7_readsCharge_14 : decode cX7_readsCharge 14 = .ok (.iadd, 1) := by decide +kernel
theorem dX7_readsCharge_15 : decode cX7_readsCharge 15 = .ok (.invokevirtual 121, 3) := by decide +kernel
theorem dX7_readsCharge_18 : decode cX7_readsCharge 18 = .ok (.bipush 48, 2) := by decide +kernel
theorem dX7_readsCharge_20 : decode cX7_readsCharge 20 = .ok (.isub, 1) := by decide +kernel
theorem dX7_readsCharge_21 : decode cX7_readsCharge 21 = .ok (.istore 4, 2) := by decide +kernel
theorem dX7_readsCharge_23 : decode cX7_readsCharge 23 = .ok (.iload_n 1, 1) := by decide +kernel
theorem dX7_readsCharge_24 : decode cX7_readsCharge 24 = .ok (.bipush 8, 2) := by decide +kernel
theorem dX7_readsCharge_26 : decode cX7_readsCharge 26 = .ok (.if_icmp .eq 10, 3) := by decide +kernel
theorem dX7_readsCharge_29 : decode cX7_readsCharge 29 = .ok (.iload_n 3, 1) := by decide +kernel
theorem dX7_readsCharge_30 : decode cX7_readsCharge 30 = .ok (.invokestatic 129, 3) := by decide +kernel
theorem dX7_readsCharge_33 : decode cX7_readsCharge 33 = .ok (.ifCond .ne 5, 3) := by decide +kernel
theorem dX7_readsCharge_36 : decode cX7_readsCharge 36 = .ok (.iconst 0, 1) := by decide +kernel
theorem dX7_readsCharge_37 : decode cX7_readsCharge 37 = .ok (.ireturn, 1) := by decide +kernel
theorem dX7_readsCharge_38 : decode cX7_readsCharge 38 = .ok (.iload 4, 2) := by decide +kernel
theorem dX7_readsCharge_40 : decode cX7_readsCharge 40 = .ok (.invokestatic 132, 3) := by decide +kernel
theorem dX7_readsCharge_43 : decode cX7_readsCharge 43 = .ok (.ifCond .ne 5, 3) := by decide +kernel
theorem dX7_readsCharge_46 : decode cX7_readsCharge 46 = .ok (.iconst 1, 1) := by decide +kernel
theorem dX7_readsCharge_47 : decode cX7_readsCharge 47 = .ok (.ireturn, 1) := by decide +kernel
theorem dX7_readsCharge_48 : decode cX7_readsCharge 48 = .ok (.aload_n 0, 1) := by decide +kernel
theorem dX7_readsCharge_49 : decode cX7_readsCharge 49 = .ok (.getfield 28, 3) := by decide +kernel
theorem dX7_readsCharge_52 : decode cX7_readsCharge 52 = .ok (.iload_n 1, 1) := by decide +kernel
theorem dX7_readsCharge_53 : decode cX7_readsCharge 53 = .ok (.iload_n 3, 1) := by decide +kernel
theorem dX7_readsCharge_54 : decode cX7_readsCharge 54 = .ok (.iastore, 1) := by decide +kernel
theorem dX7_readsCharge_55 : decode cX7_readsCharge 55 = .ok (.aload_n 0, 1) := by decide +kernel
theorem dX7_readsCharge_56 : decode cX7_readsCharge 56 = .ok (.getfield 31, 3) := by decide +kernel
theorem dX7_readsCharge_59 : decode cX7_readsCharge 59 = .ok (.iload_n 1, 1) := by decide +kernel
theorem dX7_readsCharge_60 : decode cX7_readsCharge 60 = .ok (.iload 4, 2) := by decide +kernel
theorem dX7_readsCharge_62 : decode cX7_readsCharge 62 = .ok (.iastore, 1) := by decide +kernel
theorem dX7_readsCharge_63 : decode cX7_readsCharge 63 = .ok (.iconst 2, 1) := by decide +kernel
theorem dX7_readsCharge_64 : decode cX7_readsCharge 64 = .ok (.ireturn, 1) := by decide +kernel
theorem dX7_readsText_0 : decode cX7_readsText 0 = .ok (.iconst 0, 1) := by decide +kernel
theorem dX7_readsText_1 : decode cX7_readsText 1 = .ok (.istore_n 2, 1) := by decide +kernel
theorem dX7_readsText_2 : decode cX7_readsText 2 = .ok (.iconst 0, 1) := by decide +kernel
theorem dX7_readsText_3 : decode cX7_readsText 3 = .ok (.istore_n 3, 1) := by decide +kernel
theorem dX7_readsText_4 : decode cX7_readsText 4 = .ok (.iload_n 1, 1) := by decide +kernel
theorem dX7_readsText_5 : decode cX7_readsText 5 = .ok (.ifCond .ne 7, 3) := by decide +kernel
theorem dX7_readsText_8 : decode cX7_readsText 8 = .ok (.iconst 4, 1) := by decide +kernel
theorem dX7_readsText_9 : decode cX7_readsText 9 = .ok (.goto 4, 3) := by decide +kernel
theorem dX7_readsText_12 : decode cX7_readsText 12 = .ok (.iconst 2, 1) := by decide +kernel
theorem dX7_readsText_13 : decode cX7_readsText 13 = .ok (.istore 4, 2) := by decide +kernel
theorem dX7_readsText_15 : decode cX7_readsText 15 = .ok (.aload_n 0, 1) := by decide +kernel
theorem dX7_readsText_16 : decode cX7_readsText 16 = .ok (.iload_n 1, 1) := by decide +kernel
theorem dX7_readsText_17 : decode cX7_readsText 17 = .ok (.ifCond .ne 7, 3) := by decide +kernel
theorem dX7_readsText_20 : decode cX7_readsText 20 = .ok (.iconst 0, 1) := by decide +kernel
theorem dX7_readsText_21 : decode cX7_readsText 21 = .ok (.goto 7, 3) := by decide +kernel
theorem dX7_readsText_24 : decode cX7_readsText 24 = .ok (.aload_n 0, 1) := by decide +kernel
theorem dX7_readsText_25 : decode cX7_readsText 25 = .ok (.getfield 135, 3) := by decide +kernel
theorem dX7_readsText_28 : decode cX7_readsText 28 = .ok (.putfield 135, 3) := by decide +kernel
theorem dX7_readsText_31 : decode cX7_readsText 31 = .ok (.aload_n 0, 1) := by decide +kernel
theorem dX7_readsText_32 : decode cX7_readsText 32 = .ok (.iload_n 1, 1) := by decide +kernel
theorem dX7_readsText_33 : decode cX7_readsText 33 = .ok (.iconst 1, 1) := by decide +kernel
theorem dX7_readsText_34 : decode cX7_readsText 34 = .ok (.if_icmp .ne 7, 3) := by decide +kernel
theorem dX7_readsText_37 : decode cX7_readsText 37 = .ok (.iconst 0, 1) := by decide +kernel
theorem dX7_readsText_38 : decode cX7_readsText 38 = .ok (.goto 7, 3) := by decide +kernel
theorem dX7_readsText_41 : decode cX7_readsText 41 = .ok (.aload_n 0, 1) := by decide +kernel
theorem dX7_readsText_42 : decode cX7_readsText 42 = .ok (.getfield 138, 3) := by decide +kernel
theorem dX7_readsText_45 : decode cX7_readsText 45 = .ok (.putfield 138, 3) := by decide +kernel
theorem dX7_readsText_48 : decode cX7_readsText 48 = .ok (.iload_n 3, 1) := by decide +kernel
theorem dX7_readsText_49 : decode cX7_readsText 49 = .ok (.aload_n 0, 1) := by decide +kernel
theorem dX7_readsText_50 : decode cX7_readsText 50 = .ok (.getfield 7, 3) := by decide +kernel
theorem dX7_readsText_53 : decode cX7_readsText 53 = .ok (.iload_n 1, 1) := by decide +kernel
theorem dX7_readsText_54 : decode cX7_readsText 54 = .ok (.iaload, 1) := by decide +kernel
theorem dX7_readsText_55 : decode cX7_readsText 55 = .ok (.if_icmp .lt 7, 3) := by decide +kernel
theorem dX7_readsText_58 : decode cX7_readsText 58 = .ok (.iload_n 3, 1) := by decide +kernel
theorem dX7_readsText_59 : decode cX7_readsText 59 = .ok (.ifCond .le 108, 3) := by decide +kernel
theorem dX7_readsText_62 : decode cX7_readsText 62 = .ok (.iload_n 1, 1) := by decide +kernel
theorem dX7_readsText_63 : decode cX7_readsText 63 = .ok (.ifCond .ne 12, 3) := by decide +kernel
theorem dX7_readsText_66 : decode cX7_readsText 66 = .ok (.aload_n 0, 1) := by decide +kernel
theorem dX7_readsText_67 : decode cX7_readsText 67 = .ok (.iload_n 2, 1) := by decide +kernel
theorem dX7_readsText_68 : decode cX7_readsText 68 = .ok (.iload_n 3, 1) := by decide +kernel
theorem dX7_readsText_69 : decode cX7_readsText 69 = .ok (.invokevirtual 141, 3) := by decide +kernel
theorem dX7_readsText_72 : decode cX7_readsText 72 = .ok (.goto 9, 3) := by decide +kernel
theorem dX7_readsText_75 : decode cX7_readsText 75 = .ok (.aload_n 0, 1) := by decide +kernel
theorem dX7_readsText_76 : decode cX7_readsText 76 = .ok (.iload_n 2, 1) := by decide +kernel
theorem dX7_readsText_77 : decode cX7_readsText 77 = .ok (.iload_n 3, 1) := by decide +kernel
theorem dX7_readsText_78 : decode cX7_readsText 78 = .ok (.invokevirtual 144, 3) := by decide +kernel
theorem dX7_readsText_81 : decode cX7_readsText 81 = .ok (.istore 5, 2) := by decide +kernel
theorem dX7_readsText_83 : decode cX7_readsText 83 = .ok (.iload 5, 2) := by decide +kernel
theorem dX7_readsText_85 : decode cX7_readsText 85 = .ok (.iload 4, 2) := by decide +kernel
theorem dX7_readsText_87 : decode cX7_readsText 87 = .ok (.if_icmp .ge 8, 3) := by decide +kernel
theorem dX7_readsText_90 : decode cX7_readsText 90 = .ok (.iload_n 3, 1) := by decide +kernel
theorem dX7_readsText_91 : decode cX7_readsText 91 = .ok (.iload 5, 2) := by decide +kernel
theorem dX7_readsText_93 : decode cX7_readsText 93 = .ok (.iadd, 1) := by decide +kernel
theorem dX7_readsText_94 : decode cX7_readsText 94 = .ok (.ireturn, 1) := by decide +kernel
theorem dX7_readsText_95 : decode cX7_readsText 95 = .ok (.iinc 2 1, 3) := by decide +kernel
theorem dX7_readsText_98 : decode cX7_readsText 98 = .ok (.iload_n 3, 1) := by decide +kernel
theorem dX7_readsText_99 : decode cX7_readsText 99 = .ok (.iload 4, 2) := by decide +kernel
theorem dX7_readsText_101 : decode cX7_readsText 101 = .ok (.iadd, 1) := by decide +kernel
theorem dX7_readsText_102 : decode cX7_readsText 102 = .ok (.istore_n 3, 1) := by decide +kernel
theorem dX7_readsText_103 : decode cX7_readsText 103 = .ok (.iload_n 3, 1) := by decide +kernel
theorem dX7_readsText_104 : decode cX7_readsText 104 = .ok (.aload_n 0, 1) := by decide +kernel
theorem dX7_readsText_105 : decode cX7_readsText 105 = .ok (.getfield 7, 3) := by decide +kernel
theorem dX7_readsText_108 : decode cX7_readsText 108 = .ok (.iload_n 1, 1) := by decide +kernel
theorem dX7_readsText_109 : decode cX7_readsText 109 = .ok (.iaload, 1) := by decide +kernel
theorem dX7_readsText_110 : decode cX7_readsText 110 = .ok (.if_icmp .ne 38, 3) := by decide +kernel
theorem dX7_readsText_113 : decode cX7_readsText 113 = .ok (.aload_n 0, 1) := by decide +kernel
theorem dX7_readsText_114 : decode cX7_readsText 114 = .ok (.iload_n 1, 1) := by decide +kernel
theorem dX7_readsText_115 : decode cX7_readsText 115 = .ok (.ifCond .ne 7, 3) := by decide +kernel
theorem dX7_readsText_118 : decode cX7_readsText 118 = .ok (.iload_n 2, 1) := by decide +kernel
theorem dX7_readsText_119 : decode cX7_readsText 119 = .ok (.goto 7, 3) := by decide +kernel
theorem dX7_readsText_122 : decode cX7_readsText 122 = .ok (.aload_n 0, 1) := by decide +kernel
theorem dX7_readsText_123 : decode cX7_readsText 123 = .ok (.getfield 135, 3) := by decide +kernel
theorem dX7_readsText_126 : decode cX7_readsText 126 = .ok (.putfield 135, 3) := by decide +kernel
theorem dX7_readsText_129 : decode cX7_readsText 129 = .ok (.aload_n 0, 1) := by decide +kernel
theorem dX7_readsText_130 : decode cX7_readsText 130 = .ok (.iload_n 1, 1) := by decide +kernel
theorem dX7_readsText_131 : decode cX7_readsText 131 = .ok (.iconst 1, 1) := by decide +kernel
theorem dX7_readsText_132 : decode cX7_readsText 132 = .ok (.if_icmp .ne 7, 3) := by decide +kernel
theorem dX7_readsText_135 : decode cX7_readsText 135 = .ok (.iload_n 2, 1) := by decide +kernel
theorem dX7_readsText_136 : decode cX7_readsText 136 = .ok (.goto 7, 3) := by decide +kernel
theorem dX7_readsText_139 : decode cX7_readsText 139 = .ok (.aload_n 0, 1) := by decide +kernel
theorem dX7_readsText_140 : decode cX7_readsText 140 = .ok (.getfield 138, 3) := by decide +kernel
theorem dX7_readsText_143 : decode cX7_readsText 143 = .ok (.putfield 138, 3) := by decide +kernel
theorem dX7_readsText_146 : decode cX7_readsText 146 = .ok (.iconst (-1), 1) := by decide +kernel
theorem dX7_readsText_147 : decode cX7_readsText 147 = .ok (.ireturn, 1) := by decide +kernel
theorem dX7_readsText_148 : decode cX7_readsText 148 = .ok (.aload_n 0, 1) := by decide +kernel
theorem dX7_readsText_149 : decode cX7_readsText 149 = .ok (.iload_n 1, 1) := by decide +kernel
theorem dX7_readsText_150 : decode cX7_readsText 150 = .ok (.iload_n 3, 1) := by decide +kernel
theorem dX7_readsText_151 : decode cX7_readsText 151 = .ok (.invokevirtual 121, 3) := by decide +kernel
theorem dX7_readsText_154 : decode cX7_readsText 154 = .ok (.bipush 59, 2) := by decide +kernel
theorem dX7_readsText_156 : decode cX7_readsText 156 = .ok (.if_icmp .eq 5, 3) := by decide +kernel
theorem dX7_readsText_159 : decode cX7_readsText 159 = .ok (.iload_n 3, 1) := by decide +kernel
theorem dX7_readsText_160 : decode cX7_readsText 160 = .ok (.ireturn, 1) := by decide +kernel
theorem dX7_readsText_161 : decode cX7_readsText 161 = .ok (.iinc 3 1, 3) := by decide +kernel
theorem dX7_readsText_164 : decode cX7_readsText 164 = .ok (.goto (-116), 3) := by decide +kernel
theorem dX7_readsText_167 : decode cX7_readsText 167 = .ok (.iconst (-1), 1) := by decide +kernel
theorem dX7_readsText_168 : decode cX7_readsText 168 = .ok (.ireturn, 1) := by decide +kernel
theorem dX7_faultOf_0 : decode cX7_faultOf 0 = .ok (.aload_n 0, 1) := by decide +kernel
theorem dX7_faultOf_1 : decode cX7_faultOf 1 = .ok (.iconst 0, 1) := by decide +kernel
theorem dX7_faultOf_2 : decode cX7_faultOf 2 = .ok (.invokevirtual 147, 3) := by decide +kernel
theorem dX7_faultOf_5 : decode cX7_faultOf 5 = .ok (.istore_n 2, 1) := by decide +kernel
theorem dX7_faultOf_6 : decode cX7_faultOf 6 = .ok (.aload_n 0, 1) := by decide +kernel
theorem dX7_faultOf_7 : decode cX7_faultOf 7 = .ok (.iconst 1, 1) := by decide +kernel
theorem dX7_faultOf_8 : decode cX7_faultOf 8 = .ok (.invokevirtual 147, 3) := by decide +kernel
theorem dX7_faultOf_11 : decode cX7_faultOf 11 = .ok (.istore_n 3, 1) := by decide +kernel
theorem dX7_faultOf_12 : decode cX7_faultOf 12 = .ok (.iload_n 1, 1) := by decide +kernel
theorem dX7_faultOf_13 : decode cX7_faultOf 13 = .ok (.ifCond .ne 7, 3) := by decide +kernel
theorem dX7_faultOf_16 : decode cX7_faultOf 16 = .ok (.iload_n 2, 1) := by decide +kernel
theorem dX7_faultOf_17 : decode cX7_faultOf 17 = .ok (.goto 4, 3) := by decide +kernel
theorem dX7_faultOf_20 : decode cX7_faultOf 20 = .ok (.iload_n 3, 1) := by decide +kernel
theorem dX7_faultOf_21 : decode cX7_faultOf 21 = .ok (.ireturn, 1) := by decide +kernel
theorem dX7_reads_0 : decode cX7_reads 0 = .ok (.aload_n 0, 1) := by decide +kernel
theorem dX7_reads_1 : decode cX7_reads 1 = .ok (.iconst 0, 1) := by decide +kernel
theorem dX7_reads_2 : decode cX7_reads 2 = .ok (.invokevirtual 150, 3) := by decide +kernel
theorem dX7_reads_5 : decode cX7_reads 5 = .ok (.istore_n 1, 1) := by decide +kernel
theorem dX7_reads_6 : decode cX7_reads 6 = .ok (.return_, 1) := by decide +kernel
theorem dX7_fault_0 : decode cX7_fault 0 = .ok (.iload_n 1, 1) := by decide +kernel
theorem dX7_fault_1 : decode cX7_fault 1 = .ok (.invokestatic 117, 3) := by decide +kernel
theorem dX7_fault_4 : decode cX7_fault 4 = .ok (.ifCond .eq 11, 3) := by decide +kernel
theorem dX7_fault_7 : decode cX7_fault 7 = .ok (.aload_n 0, 1) := by decide +kernel
theorem dX7_fault_8 : decode cX7_fault 8 = .ok (.iload_n 1, 1) := by decide +kernel
theorem dX7_fault_9 : decode cX7_fault 9 = .ok (.invokevirtual 150, 3) := by decide +kernel
theorem dX7_fault_12 : decode cX7_fault 12 = .ok (.goto 5, 3) := by decide +kernel
theorem dX7_fault_15 : decode cX7_fault 15 = .ok (.bipush (-2), 2) := by decide +kernel
theorem dX7_fault_17 : decode cX7_fault 17 = .ok (.ireturn, 1) := by decide +kernel
theorem dX7_isTale_0 : decode cX7_isTale 0 = .ok (.aload_n 0, 1) := by decide +kernel
theorem dX7_isTale_1 : decode cX7_isTale 1 = .ok (.invokevirtual 153, 3) := by decide +kernel
theorem dX7_isTale_4 : decode cX7_isTale 4 = .ok (.iload_n 1, 1) := by decide +kernel
theorem dX7_isTale_5 : decode cX7_isTale 5 = .ok (.iconst 0, 1) := by decide +kernel
theorem dX7_isTale_6 : decode cX7_isTale 6 = .ok (.aload_n 0, 1) := by decide +kernel
theorem dX7_isTale_7 : decode cX7_isTale 7 = .ok (.getfield 135, 3) := by decide +kernel
theorem dX7_isTale_10 : decode cX7_isTale 10 = .ok (.iconst 1, 1) := by decide +kernel
theorem dX7_isTale_11 : decode cX7_isTale 11 = .ok (.isub, 1) := by decide +kernel
theorem dX7_isTale_12 : decode cX7_isTale 12 = .ok (.invokestatic 113, 3) := by decide +kernel
theorem dX7_isTale_15 : decode cX7_isTale 15 = .ok (.ireturn, 1) := by decide +kernel
theorem dX7_isCharge_0 : decode cX7_isCharge 0 = .ok (.aload_n 0, 1) := by decide +kernel
theorem dX7_isCharge_1 : decode cX7_isCharge 1 = .ok (.invokevirtual 153, 3) := by decide +kernel
theorem dX7_isCharge_4 : decode cX7_isCharge 4 = .ok (.iload_n 1, 1) := by decide +kernel
theorem dX7_isCharge_5 : decode cX7_isCharge 5 = .ok (.iconst 0, 1) := by decide +kernel
theorem dX7_isCharge_6 : decode cX7_isCharge 6 = .ok (.aload_n 0, 1) := by decide +kernel
theorem dX7_isCharge_7 : decode cX7_isCharge 7 = .ok (.getfield 138, 3) := by decide +kernel
theorem dX7_isCharge_10 : decode cX7_isCharge 10 = .ok (.iconst 1, 1) := by decide +kernel
theorem dX7_isCharge_11 : decode cX7_isCharge 11 = .ok (.isub, 1) := by decide +kernel
theorem dX7_isCharge_12 : decode cX7_isCharge 12 = .ok (.invokestatic 113, 3) := by decide +kernel
theorem dX7_isCharge_15 : decode cX7_isCharge 15 = .ok (.ireturn, 1) := by decide +kernel
theorem dX7_taleOf_0 : decode cX7_taleOf 0 = .ok (.iload_n 2, 1) := by decide +kernel
theorem dX7_taleOf_1 : decode cX7_taleOf 1 = .ok (.ifCond .ne 12, 3) := by decide +kernel
theorem dX7_taleOf_4 : decode cX7_taleOf 4 = .ok (.aload_n 0, 1) := by decide +kernel
theorem dX7_taleOf_5 : decode cX7_taleOf 5 = .ok (.getfield 16, 3) := by decide +kernel
theorem dX7_taleOf_8 : decode cX7_taleOf 8 = .ok (.iload_n 1, 1) := by decide +kernel
theorem dX7_taleOf_9 : decode cX7_taleOf 9 = .ok (.iaload, 1) := by decide +kernel
theorem dX7_taleOf_10 : decode cX7_taleOf 10 = .ok (.goto 37, 3) := by decide +kernel
theorem dX7_taleOf_13 : decode cX7_taleOf 13 = .ok (.iload_n 2, 1) := by decide +kernel
theorem dX7_taleOf_14 : decode cX7_taleOf 14 = .ok (.iconst 1, 1) := by decide +kernel
theorem dX7_taleOf_15 : decode cX7_taleOf 15 = .ok (.if_icmp .ne 12, 3) := by decide +kernel
theorem dX7_taleOf_18 : decode cX7_taleOf 18 = .ok (.aload_n 0, 1) := by decide +kernel
theorem dX7_taleOf_19 : decode cX7_taleOf 19 = .ok (.getfield 19, 3) := by decide +kernel
theorem dX7_taleOf_22 : decode cX7_taleOf 22 = .ok (.iload_n 1, 1) := by decide +kernel
theorem dX7_taleOf_23 : decode cX7_taleOf 23 = .ok (.iaload, 1) := by decide +kernel
theorem dX7_taleOf_24 : decode cX7_taleOf 24 = .ok (.goto 23, 3) := by decide +kernel
theorem dX7_taleOf_27 : decode cX7_taleOf 27 = .ok (.iload_n 2, 1) := by decide +kernel
theorem dX7_taleOf_28 : decode cX7_taleOf 28 = .ok (.iconst 2, 1) := by decide +kernel
theorem dX7_taleOf_29 : decode cX7_taleOf 29 = .ok (.if_icmp .ne 12, 3) := by decide +kernel
theorem dX7_taleOf_32 : decode cX7_taleOf 32 = .ok (.aload_n 0, 1) := by decide +kernel
theorem dX7_taleOf_33 : decode cX7_taleOf 33 = .ok (.getfield 22, 3) := by decide +kernel
theorem dX7_taleOf_36 : decode cX7_taleOf 36 = .ok (.iload_n 1, 1) := by decide +kernel
theorem dX7_taleOf_37 : decode cX7_taleOf 37 = .ok (.iaload, 1) := by decide +kernel
theorem dX7_taleOf_38 : decode cX7_taleOf 38 = .ok (.goto 9, 3) := by decide +kernel
theorem dX7_taleOf_41 : decode cX7_taleOf 41 = .ok (.aload_n 0, 1) := by decide +kernel
theorem dX7_taleOf_42 : decode cX7_taleOf 42 = .ok (.getfield 25, 3) := by decide +kernel
theorem dX7_taleOf_45 : decode cX7_taleOf 45 = .ok (.iload_n 1, 1) := by decide +kernel
theorem dX7_taleOf_46 : decode cX7_taleOf 46 = .ok (.iaload, 1) := by decide +kernel
theorem dX7_taleOf_47 : decode cX7_taleOf 47 = .ok (.ireturn, 1) := by decide +kernel
theorem dX7_tale_0 : decode cX7_tale 0 = .ok (.aload_n 0, 1) := by decide +kernel
theorem dX7_tale_1 : decode cX7_tale 1 = .ok (.iload_n 1, 1) := by decide +kernel
theorem dX7_tale_2 : decode cX7_tale 2 = .ok (.invokevirtual 156, 3) := by decide +kernel
theorem dX7_tale_5 : decode cX7_tale 5 = .ok (.ifCond .eq 21, 3) := by decide +kernel
theorem dX7_tale_8 : decode cX7_tale 8 = .ok (.iload_n 2, 1) := by decide +kernel
theorem dX7_tale_9 : decode cX7_tale 9 = .ok (.iconst 0, 1) := by decide +kernel
theorem dX7_tale_10 : decode cX7_tale 10 = .ok (.iconst 3, 1) := by decide +kernel
theorem dX7_tale_11 : decode cX7_tale 11 = .ok (.invokestatic 113, 3) := by decide +kernel
theorem dX7_tale_14 : decode cX7_tale 14 = .ok (.ifCond .eq 12, 3) := by decide +kernel
theorem dX7_tale_17 : decode cX7_tale 17 = .ok (.aload_n 0, 1) := by decide +kernel
theorem dX7_tale_18 : decode cX7_tale 18 = .ok (.iload_n 1, 1) := by decide +kernel
theorem dX7_tale_19 : decode cX7_tale 19 = .ok (.iload_n 2, 1) := by decide +kernel
theorem dX7_tale_20 : decode cX7_tale 20 = .ok (.invokevirtual 159, 3) := by decide +kernel
theorem dX7_tale_23 : decode cX7_tale 23 = .ok (.goto 5, 3) := by decide +kernel
theorem dX7_tale_26 : decode cX7_tale 26 = .ok (.bipush (-2), 2) := by decide +kernel
theorem dX7_tale_28 : decode cX7_tale 28 = .ok (.ireturn, 1) := by decide +kernel
theorem dX7_chargeOf_0 : decode cX7_chargeOf 0 = .ok (.iload_n 2, 1) := by decide +kernel
theorem dX7_chargeOf_1 : decode cX7_chargeOf 1 = .ok (.ifCond .ne 12, 3) := by decide +kernel
theorem dX7_chargeOf_4 : decode cX7_chargeOf 4 = .ok (.aload_n 0, 1) := by decide +kernel
theorem dX7_chargeOf_5 : decode cX7_chargeOf 5 = .ok (.getfield 28, 3) := by decide +kernel
theorem dX7_chargeOf_8 : decode cX7_chargeOf 8 = .ok (.iload_n 1, 1) := by decide +kernel
theorem dX7_chargeOf_9 : decode cX7_chargeOf 9 = .ok (.iaload, 1) := by decide +kernel
theorem dX7_chargeOf_10 : decode cX7_chargeOf 10 = .ok (.goto 9, 3) := by decide +kernel
theorem dX7_chargeOf_13 : decode cX7_chargeOf 13 = .ok (.aload_n 0, 1) := by decide +kernel
theorem dX7_chargeOf_14 : decode cX7_chargeOf 14 = .ok (.getfield 31, 3) := by decide +kernel
theorem dX7_chargeOf_17 : decode cX7_chargeOf 17 = .ok (.iload_n 1, 1) := by decide +kernel
theorem dX7_chargeOf_18 : decode cX7_chargeOf 18 = .ok (.iaload, 1) := by decide +kernel
theorem dX7_chargeOf_19 : decode cX7_chargeOf 19 = .ok (.ireturn, 1) := by decide +kernel
theorem dX7_charge_0 : decode cX7_charge 0 = .ok (.aload_n 0, 1) := by decide +kernel
theorem dX7_charge_1 : decode cX7_charge 1 = .ok (.iload_n 1, 1) := by decide +kernel
theorem dX7_charge_2 : decode cX7_charge 2 = .ok (.invokevirtual 162, 3) := by decide +kernel
theorem dX7_charge_5 : decode cX7_charge 5 = .ok (.ifCond .eq 19, 3) := by decide +kernel
theorem dX7_charge_8 : decode cX7_charge 8 = .ok (.iload_n 2, 1) := by decide +kernel
theorem dX7_charge_9 : decode cX7_charge 9 = .ok (.invokestatic 117, 3) := by decide +kernel
theorem dX7_charge_12 : decode cX7_charge 12 = .ok (.ifCond .eq 12, 3) := by decide +kernel
theorem dX7_charge_15 : decode cX7_charge 15 = .ok (.aload_n 0, 1) := by decide +kernel
theorem dX7_charge_16 : decode cX7_charge 16 = .ok (.iload_n 1, 1) := by decide +kernel
theorem dX7_charge_17 : decode cX7_charge 17 = .ok (.iload_n 2, 1) := by decide +kernel
theorem dX7_charge_18 : decode cX7_charge 18 = .ok (.invokevirtual 165, 3) := by decide +kernel
theorem dX7_charge_21 : decode cX7_charge 21 = .ok (.goto 5, 3) := by decide +kernel
theorem dX7_charge_24 : decode cX7_charge 24 = .ok (.bipush (-2), 2) := by decide +kernel
theorem dX7_charge_26 : decode cX7_charge 26 = .ok (.ireturn, 1) := by decide +kernel
theorem dX7_need_0 : decode cX7_need 0 = .ok (.iload_n 1, 1) := by decide +kernel
theorem dX7_need_1 : decode cX7_need 1 = .ok (.iconst 1, 1) := by decide +kernel
theorem dX7_need_2 : decode cX7_need 2 = .ok (.bipush 40, 2) := by decide +kernel
theorem dX7_need_4 : decode cX7_need 4 = .ok (.invokestatic 113, 3) := by decide +kernel
theorem dX7_need_7 : decode cX7_need 7 = .ok (.ifCond .ne 6, 3) := by decide +kernel
theorem dX7_need_10 : decode cX7_need 10 = .ok (.bipush (-2), 2) := by decide +kernel
theorem dX7_need_12 : decode cX7_need 12 = .ok (.ireturn, 1) := by decide +kernel
theorem dX7_need_13 : decode cX7_need 13 = .ok (.aload_n 0, 1) := by decide +kernel
theorem dX7_need_14 : decode cX7_need 14 = .ok (.getfield 107, 3) := by decide +kernel
theorem dX7_need_17 : decode cX7_need 17 = .ok (.istore_n 2, 1) := by decide +kernel
theorem dX7_need_18 : decode cX7_need 18 = .ok (.aload_n 0, 1) := by decide +kernel
theorem dX7_need_19 : decode cX7_need 19 = .ok (.iload_n 1, 1) := by decide +kernel
theorem dX7_need_20 : decode cX7_need 20 = .ok (.putfield 107, 3) := by decide +kernel
theorem dX7_need_23 : decode cX7_need 23 = .ok (.iload_n 2, 1) := by decide +kernel
theorem dX7_need_24 : decode cX7_need 24 = .ok (.ireturn, 1) := by decide +kernel
theorem dX7_event_0 : decode cX7_event 0 = .ok (.iload_n 1, 1) := by decide +kernel
theorem dX7_event_1 : decode cX7_event 1 = .ok (.invokestatic 168, 3) := by decide +kernel
theorem dX7_event_4 : decode cX7_event 4 = .ok (.ifCond .eq 20, 3) := by decide +kernel
theorem dX7_event_7 : decode cX7_event 7 = .ok (.iload_n 2, 1) := by decide +kernel
theorem dX7_event_8 : decode cX7_event 8 = .ok (.invokestatic 129, 3) := by decide +kernel
theorem dX7_event_11 : decode cX7_event 11 = .ok (.ifCond .eq 13, 3) := by decide +kernel
theorem dX7_event_14 : decode cX7_event 14 = .ok (.iload_n 3, 1) := by decide +kernel
theorem dX7_event_15 : decode cX7_event 15 = .ok (.iconst 0, 1) := by decide +kernel
theorem dX7_event_16 : decode cX7_event 16 = .ok (.bipush 9, 2) := by decide +kernel
theorem dX7_event_18 : decode cX7_event 18 = .ok (.invokestatic 113, 3) := by decide +kernel
theorem dX7_event_21 : decode cX7_event 21 = .ok (.ifCond .ne 6, 3) := by decide +kernel
theorem dX7_event_24 : decode cX7_event 24 = .ok (.bipush (-2), 2) := by decide +kernel
theorem dX7_event_26 : decode cX7_event 26 = .ok (.ireturn, 1) := by decide +kernel
theorem dX7_event_27 : decode cX7_event 27 = .ok (.aload_n 0, 1) := by decide +kernel
theorem dX7_event_28 : decode cX7_event 28 = .ok (.getfield 171, 3) := by decide +kernel
theorem dX7_event_31 : decode cX7_event 31 = .ok (.bipush 8, 2) := by decide +kernel
theorem dX7_event_33 : decode cX7_event 33 = .ok (.if_icmp .ne 6, 3) := by decide +kernel
theorem dX7_event_36 : decode cX7_event 36 = .ok (.bipush (-4), 2) := by decide +kernel
theorem dX7_event_38 : decode cX7_event 38 = .ok (.ireturn, 1) := by decide +kernel
theorem dX7_event_39 : decode cX7_event 39 = .ok (.aload_n 0, 1) := by decide +kernel
theorem dX7_event_40 : decode cX7_event 40 = .ok (.getfield 34, 3) := by decide +kernel
theorem dX7_event_43 : decode cX7_event 43 = .ok (.aload_n 0, 1) := by decide +kernel
theorem dX7_event_44 : decode cX7_event 44 = .ok (.getfield 171, 3) := by decide +kernel
theorem dX7_event_47 : decode cX7_event 47 = .ok (.iload_n 1, 1) := by decide +kernel
theorem dX7_event_48 : decode cX7_event 48 = .ok (.iastore, 1) := by decide +kernel
theorem dX7_event_49 : decode cX7_event 49 = .ok (.aload_n 0, 1) := by decide +kernel
theorem dX7_event_50 : decode cX7_event 50 = .ok (.getfield 37, 3) := by decide +kernel
theorem dX7_event_53 : decode cX7_event 53 = .ok (.aload_n 0, 1) := by decide +kernel
theorem dX7_event_54 : decode cX7_event 54 = .ok (.getfield 171, 3) := by decide +kernel
theorem dX7_event_57 : decode cX7_event 57 = .ok (.iload_n 2, 1) := by decide +kernel
theorem dX7_event_58 : decode cX7_event 58 = .ok (.iastore, 1) := by decide +kernel
theorem dX7_event_59 : decode cX7_event 59 = .ok (.aload_n 0, 1) := by decide +kernel
theorem dX7_event_60 : decode cX7_event 60 = .ok (.getfield 40, 3) := by decide +kernel
theorem dX7_event_63 : decode cX7_event 63 = .ok (.aload_n 0, 1) := by decide +kernel
theorem dX7_event_64 : decode cX7_event 64 = .ok (.getfield 171, 3) := by decide +kernel
theorem dX7_event_67 : decode cX7_event 67 = .ok (.iload_n 3, 1) := by decide +kernel
theorem dX7_event_68 : decode cX7_event 68 = .ok (.iastore, 1) := by decide +kernel
theorem dX7_event_69 : decode cX7_event 69 = .ok (.aload_n 0, 1) := by decide +kernel
theorem dX7_event_70 : decode cX7_event 70 = .ok (.dup, 1) := by decide +kernel
theorem dX7_event_71 : decode cX7_event 71 = .ok (.getfield 171, 3) := by decide +kernel
theorem dX7_event_74 : decode cX7_event 74 = .ok (.iconst 1, 1) := by decide +kernel
theorem dX7_event_75 : decode cX7_event 75 = .ok (.iadd, 1) := by decide +kernel
theorem dX7_event_76 : decode cX7_event 76 = .ok (.putfield 171, 3) := by decide +kernel
theorem dX7_event_79 : decode cX7_event 79 = .ok (.aload_n 0, 1) := by decide +kernel
theorem dX7_event_80 : decode cX7_event 80 = .ok (.getfield 171, 3) := by decide +kernel
theorem dX7_event_83 : decode cX7_event 83 = .ok (.ireturn, 1) := by decide +kernel
theorem dX7_back_0 : decode cX7_back 0 = .ok (.aload_n 0, 1) := by decide +kernel
theorem dX7_back_1 : decode cX7_back 1 = .ok (.getfield 171, 3) := by decide +kernel
theorem dX7_back_4 : decode cX7_back 4 = .ok (.ifCond .ne 6, 3) := by decide +kernel
theorem dX7_back_7 : decode cX7_back 7 = .ok (.bipush (-3), 2) := by decide +kernel
theorem dX7_back_9 : decode cX7_back 9 = .ok (.ireturn, 1) := by decide +kernel
theorem dX7_back_10 : decode cX7_back 10 = .ok (.aload_n 0, 1) := by decide +kernel
theorem dX7_back_11 : decode cX7_back 11 = .ok (.dup, 1) := by decide +kernel
theorem dX7_back_12 : decode cX7_back 12 = .ok (.getfield 171, 3) := by decide +kernel
theorem dX7_back_15 : decode cX7_back 15 = .ok (.iconst 1, 1) := by decide +kernel
theorem dX7_back_16 : decode cX7_back 16 = .ok (.isub, 1) := by decide +kernel
theorem dX7_back_17 : decode cX7_back 17 = .ok (.putfield 171, 3) := by decide +kernel
theorem dX7_back_20 : decode cX7_back 20 = .ok (.aload_n 0, 1) := by decide +kernel
theorem dX7_back_21 : decode cX7_back 21 = .ok (.getfield 171, 3) := by decide +kernel
theorem dX7_back_24 : decode cX7_back 24 = .ok (.ireturn, 1) := by decide +kernel
theorem dX7_read_0 : decode cX7_read 0 = .ok (.iload_n 1, 1) := by decide +kernel
theorem dX7_read_1 : decode cX7_read 1 = .ok (.invokestatic 174, 3) := by decide +kernel
theorem dX7_read_4 : decode cX7_read 4 = .ok (.ifCond .ne 6, 3) := by decide +kernel
theorem dX7_read_7 : decode cX7_read 7 = .ok (.bipush (-2), 2) := by decide +kernel
theorem dX7_read_9 : decode cX7_read 9 = .ok (.ireturn, 1) := by decide +kernel
theorem dX7_read_10 : decode cX7_read 10 = .ok (.aload_n 0, 1) := by decide +kernel
theorem dX7_read_11 : decode cX7_read 11 = .ok (.getfield 91, 3) := by decide +kernel
theorem dX7_read_14 : decode cX7_read 14 = .ok (.iload_n 1, 1) := by decide +kernel
theorem dX7_read_15 : decode cX7_read 15 = .ok (.baload, 1) := by decide +kernel
theorem dX7_read_16 : decode cX7_read 16 = .ok (.ifCond .ne 9, 3) := by decide +kernel
theorem dX7_read_19 : decode cX7_read 19 = .ok (.aload_n 0, 1) := by decide +kernel
theorem dX7_read_20 : decode cX7_read 20 = .ok (.iconst 1, 1) := by decide +kernel
theorem dX7_read_21 : decode cX7_read 21 = .ok (.invokevirtual 177, 3) := by decide +kernel
theorem dX7_read_24 : decode cX7_read 24 = .ok (.ireturn, 1) := by decide +kernel
theorem dX7_read_25 : decode cX7_read 25 = .ok (.iconst 0, 1) := by decide +kernel
theorem dX7_read_26 : decode cX7_read 26 = .ok (.istore_n 2, 1) := by decide +kernel
theorem dX7_read_27 : decode cX7_read 27 = .ok (.bipush 60, 2) := by decide +kernel
theorem dX7_read_29 : decode cX7_read 29 = .ok (.iload_n 1, 1) := by decide +kernel
theorem dX7_read_30 : decode cX7_read 30 = .ok (.imul, 1) := by decide +kernel
theorem dX7_read_31 : decode cX7_read 31 = .ok (.istore_n 3, 1) := by decide +kernel
theorem dX7_read_32 : decode cX7_read 32 = .ok (.iconst 3, 1) := by decide +kernel
theorem dX7_read_33 : decode cX7_read 33 = .ok (.iload_n 2, 1) := by decide +kernel
theorem dX7_read_34 : decode cX7_read 34 = .ok (.imul, 1) := by decide +kernel
theorem dX7_read_35 : decode cX7_read 35 = .ok (.iconst 2, 1) := by decide +kernel
theorem dX7_read_36 : decode cX7_read 36 = .ok (.iadd, 1) := by decide +kernel
theorem dX7_read_37 : decode cX7_read 37 = .ok (.aload_n 0, 1) := by decide +kernel
theorem dX7_read_38 : decode cX7_read 38 = .ok (.getfield 98, 3) := by decide +kernel
theorem dX7_read_41 : decode cX7_read 41 = .ok (.iload_n 1, 1) := by decide +kernel
theorem dX7_read_42 : decode cX7_read 42 = .ok (.iaload, 1) := by decide +kernel
theorem dX7_read_43 : decode cX7_read 43 = .ok (.if_icmp .ge 50, 3) := by decide +kernel
theorem dX7_read_46 : decode cX7_read 46 = .ok (.aload_n 0, 1) := by decide +kernel
theorem dX7_read_47 : decode cX7_read 47 = .ok (.aload_n 0, 1) := by decide +kernel
theorem dX7_read_48 : decode cX7_read 48 = .ok (.getfield 101, 3) := by decide +kernel
theorem dX7_read_51 : decode cX7_read 51 = .ok (.iload_n 3, 1) := by decide +kernel
theorem dX7_read_52 : decode cX7_read 52 = .ok (.iconst 3, 1) := by decide +kernel
theorem dX7_read_53 : decode cX7_read 53 = .ok (.iload_n 2, 1) := by decide +kernel
theorem dX7_read_54 : decode cX7_read 54 = .ok (.imul, 1) := by decide +kernel
theorem dX7_read_55 : decode cX7_read 55 = .ok (.iadd, 1) := by decide +kernel
theorem dX7_read_56 : decode cX7_read 56 = .ok (.iaload, 1) := by decide +kernel
theorem dX7_read_57 : decode cX7_read 57 = .ok (.aload_n 0, 1) := by decide +kernel
theorem dX7_read_58 : decode cX7_read 58 = .ok (.getfield 101, 3) := by decide +kernel
theorem dX7_read_61 : decode cX7_read 61 = .ok (.iload_n 3, 1) := by decide +kernel
theorem dX7_read_62 : decode cX7_read 62 = .ok (.iconst 3, 1) := by decide +kernel
theorem dX7_read_63 : decode cX7_read 63 = .ok (.iload_n 2, 1) := by decide +kernel
theorem dX7_read_64 : decode cX7_read 64 = .ok (.imul, 1) := by decide +kernel
theorem dX7_read_65 : decode cX7_read 65 = .ok (.iadd, 1) := by decide +kernel
theorem dX7_read_66 : decode cX7_read 66 = .ok (.iconst 1, 1) := by decide +kernel
theorem dX7_read_67 : decode cX7_read 67 = .ok (.iadd, 1) := by decide +kernel
theorem dX7_read_68 : decode cX7_read 68 = .ok (.iaload, 1) := by decide +kernel
theorem dX7_read_69 : decode cX7_read 69 = .ok (.aload_n 0, 1) := by decide +kernel
theorem dX7_read_70 : decode cX7_read 70 = .ok (.getfield 101, 3) := by decide +kernel
theorem dX7_read_73 : decode cX7_read 73 = .ok (.iload_n 3, 1) := by decide +kernel
theorem dX7_read_74 : decode cX7_read 74 = .ok (.iconst 3, 1) := by decide +kernel
theorem dX7_read_75 : decode cX7_read 75 = .ok (.iload_n 2, 1) := by decide +kernel
theorem dX7_read_76 : decode cX7_read 76 = .ok (.imul, 1) := by decide +kernel
theorem dX7_read_77 : decode cX7_read 77 = .ok (.iadd, 1) := by decide +kernel
theorem dX7_read_78 : decode cX7_read 78 = .ok (.iconst 2, 1) := by decide +kernel
theorem dX7_read_79 : decode cX7_read 79 = .ok (.iadd, 1) := by decide +kernel
theorem dX7_read_80 : decode cX7_read 80 = .ok (.iaload, 1) := by decide +kernel
theorem dX7_read_81 : decode cX7_read 81 = .ok (.invokevirtual 180, 3) := by decide +kernel
theorem dX7_read_84 : decode cX7_read 84 = .ok (.ifCond .le 9, 3) := by decide +kernel
theorem dX7_read_87 : decode cX7_read 87 = .ok (.iinc 2 1, 3) := by decide +kernel
theorem dX7_read_90 : decode cX7_read 90 = .ok (.goto (-58), 3) := by decide +kernel
theorem dX7_read_93 : decode cX7_read 93 = .ok (.iload_n 2, 1) := by decide +kernel
theorem dX7_read_94 : decode cX7_read 94 = .ok (.ireturn, 1) := by decide +kernel
theorem dX7_asTold_0 : decode cX7_asTold 0 = .ok (.aload_n 0, 1) := by decide +kernel
theorem dX7_asTold_1 : decode cX7_asTold 1 = .ok (.invokevirtual 153, 3) := by decide +kernel
theorem dX7_asTold_4 : decode cX7_asTold 4 = .ok (.aload_n 0, 1) := by decide +kernel
theorem dX7_asTold_5 : decode cX7_asTold 5 = .ok (.aload_n 0, 1) := by decide +kernel
theorem dX7_asTold_6 : decode cX7_asTold 6 = .ok (.getfield 135, 3) := by decide +kernel
theorem dX7_asTold_9 : decode cX7_asTold 9 = .ok (.putfield 184, 3) := by decide +kernel
theorem dX7_asTold_12 : decode cX7_asTold 12 = .ok (.iconst 0, 1) := by decide +kernel
theorem dX7_asTold_13 : decode cX7_asTold 13 = .ok (.istore_n 1, 1) := by decide +kernel
theorem dX7_asTold_14 : decode cX7_asTold 14 = .ok (.iload_n 1, 1) := by decide +kernel
theorem dX7_asTold_15 : decode cX7_asTold 15 = .ok (.aload_n 0, 1) := by decide +kernel
theorem dX7_asTold_16 : decode cX7_asTold 16 = .ok (.getfield 135, 3) := by decide +kernel
theorem dX7_asTold_19 : decode cX7_asTold 19 = .ok (.if_icmp .ge 57, 3) := by decide +kernel
theorem dX7_asTold_22 : decode cX7_asTold 22 = .ok (.aload_n 0, 1) := by decide +kernel
theorem dX7_asTold_23 : decode cX7_asTold 23 = .ok (.getfield 43, 3) := by decide +kernel
theorem dX7_asTold_26 : decode cX7_asTold 26 = .ok (.iload_n 1, 1) := by decide +kernel
theorem dX7_asTold_27 : decode cX7_asTold 27 = .ok (.aload_n 0, 1) := by decide +kernel
theorem dX7_asTold_28 : decode cX7_asTold 28 = .ok (.getfield 16, 3) := by decide +kernel
theorem dX7_asTold_31 : decode cX7_asTold 31 = .ok (.iload_n 1, 1) := by decide +kernel
theorem dX7_asTold_32 : decode cX7_asTold 32 = .ok (.iaload, 1) := by decide +kernel
theorem dX7_asTold_33 : decode cX7_asTold 33 = .ok (.iastore, 1) := by decide +kernel
theorem dX7_asTold_34 : decode cX7_asTold 34 = .ok (.aload_n 0, 1) := by decide +kernel
theorem dX7_asTold_35 : decode cX7_asTold 35 = .ok (.getfield 46, 3) := by decide +kernel
theorem dX7_asTold_38 : decode cX7_asTold 38 = .ok (.iload_n 1, 1) := by decide +kernel
theorem dX7_asTold_39 : decode cX7_asTold 39 = .ok (.aload_n 0, 1) := by decide +kernel
theorem dX7_asTold_40 : decode cX7_asTold 40 = .ok (.getfield 19, 3) := by decide +kernel
theorem dX7_asTold_43 : decode cX7_asTold 43 = .ok (.iload_n 1, 1) := by decide +kernel
theorem dX7_asTold_44 : decode cX7_asTold 44 = .ok (.iaload, 1) := by decide +kernel
theorem dX7_asTold_45 : decode cX7_asTold 45 = .ok (.iastore, 1) := by decide +kernel
theorem dX7_asTold_46 : decode cX7_asTold 46 = .ok (.aload_n 0, 1) := by decide +kernel
theorem dX7_asTold_47 : decode cX7_asTold 47 = .ok (.getfield 49, 3) := by decide +kernel
theorem dX7_asTold_50 : decode cX7_asTold 50 = .ok (.iload_n 1, 1) := by decide +kernel
theorem dX7_asTold_51 : decode cX7_asTold 51 = .ok (.aload_n 0, 1) := by decide +kernel
theorem dX7_asTold_52 : decode cX7_asTold 52 = .ok (.getfield 22, 3) := by decide +kernel
theorem dX7_asTold_55 : decode cX7_asTold 55 = .ok (.iload_n 1, 1) := by decide +kernel
theorem dX7_asTold_56 : decode cX7_asTold 56 = .ok (.iaload, 1) := by decide +kernel
theorem dX7_asTold_57 : decode cX7_asTold 57 = .ok (.iastore, 1) := by decide +kernel
theorem dX7_asTold_58 : decode cX7_asTold 58 = .ok (.aload_n 0, 1) := by decide +kernel
theorem dX7_asTold_59 : decode cX7_asTold 59 = .ok (.getfield 52, 3) := by decide +kernel
theorem dX7_asTold_62 : decode cX7_asTold 62 = .ok (.iload_n 1, 1) := by decide +kernel
theorem dX7_asTold_63 : decode cX7_asTold 63 = .ok (.aload_n 0, 1) := by decide +kernel
theorem dX7_asTold_64 : decode cX7_asTold 64 = .ok (.getfield 25, 3) := by decide +kernel
theorem dX7_asTold_67 : decode cX7_asTold 67 = .ok (.iload_n 1, 1) := by decide +kernel
theorem dX7_asTold_68 : decode cX7_asTold 68 = .ok (.iaload, 1) := by decide +kernel
theorem dX7_asTold_69 : decode cX7_asTold 69 = .ok (.iastore, 1) := by decide +kernel
theorem dX7_asTold_70 : decode cX7_asTold 70 = .ok (.iinc 1 1, 3) := by decide +kernel
theorem dX7_asTold_73 : decode cX7_asTold 73 = .ok (.goto (-59), 3) := by decide +kernel
theorem dX7_asTold_76 : decode cX7_asTold 76 = .ok (.aload_n 0, 1) := by decide +kernel
theorem dX7_asTold_77 : decode cX7_asTold 77 = .ok (.iconst (-1), 1) := by decide +kernel
theorem dX7_asTold_78 : decode cX7_asTold 78 = .ok (.putfield 187, 3) := by decide +kernel
theorem dX7_asTold_81 : decode cX7_asTold 81 = .ok (.aload_n 0, 1) := by decide +kernel
theorem dX7_asTold_82 : decode cX7_asTold 82 = .ok (.iconst 0, 1) := by decide +kernel
theorem dX7_asTold_83 : decode cX7_asTold 83 = .ok (.putfield 190, 3) := by decide +kernel
theorem dX7_asTold_86 : decode cX7_asTold 86 = .ok (.return_, 1) := by decide +kernel
theorem dX7_far_0 : decode cX7_far 0 = .ok (.iload_n 0, 1) := by decide +kernel
theorem dX7_far_1 : decode cX7_far 1 = .ok (.iload_n 1, 1) := by decide +kernel
theorem dX7_far_2 : decode cX7_far 2 = .ok (.if_icmp .ge 9, 3) := by decide +kernel
theorem dX7_far_5 : decode cX7_far 5 = .ok (.iload_n 1, 1) := by decide +kernel
theorem dX7_far_6 : decode cX7_far 6 = .ok (.iload_n 0, 1) := by decide +kernel
theorem dX7_far_7 : decode cX7_far 7 = .ok (.isub, 1) := by decide +kernel
theorem dX7_far_8 : decode cX7_far 8 = .ok (.goto 6, 3) := by decide +kernel
theorem dX7_far_11 : decode cX7_far 11 = .ok (.iload_n 0, 1) := by decide +kernel
theorem dX7_far_12 : decode cX7_far 12 = .ok (.iload_n 1, 1) := by decide +kernel
theorem dX7_far_13 : decode cX7_far 13 = .ok (.isub, 1) := by decide +kernel
theorem dX7_far_14 : decode cX7_far 14 = .ok (.ireturn, 1) := by decide +kernel
theorem dX7_clashes_0 : decode cX7_clashes 0 = .ok (.aload_n 0, 1) := by decide +kernel
theorem dX7_clashes_1 : decode cX7_clashes 1 = .ok (.getfield 49, 3) := by decide +kernel
theorem dX7_clashes_4 : decode cX7_clashes 4 = .ok (.iload_n 1, 1) := by decide +kernel
theorem dX7_clashes_5 : decode cX7_clashes 5 = .ok (.iaload, 1) := by decide +kernel
theorem dX7_clashes_6 : decode cX7_clashes 6 = .ok (.aload_n 0, 1) := by decide +kernel
theorem dX7_clashes_7 : decode cX7_clashes 7 = .ok (.getfield 49, 3) := by decide +kernel
theorem dX7_clashes_10 : decode cX7_clashes 10 = .ok (.iload_n 2, 1) := by decide +kernel
theorem dX7_clashes_11 : decode cX7_clashes 11 = .ok (.iaload, 1) := by decide +kernel
theorem dX7_clashes_12 : decode cX7_clashes 12 = .ok (.if_icmp .ne 40, 3) := by decide +kernel
theorem dX7_clashes_15 : decode cX7_clashes 15 = .ok (.aload_n 0, 1) := by decide +kernel
theorem dX7_clashes_16 : decode cX7_clashes 16 = .ok (.getfield 46, 3) := by decide +kernel
theorem dX7_clashes_19 : decode cX7_clashes 19 = .ok (.iload_n 1, 1) := by decide +kernel
theorem dX7_clashes_20 : decode cX7_clashes 20 = .ok (.iaload, 1) := by decide +kernel
theorem dX7_clashes_21 : decode cX7_clashes 21 = .ok (.aload_n 0, 1) := by decide +kernel
theorem dX7_clashes_22 : decode cX7_clashes 22 = .ok (.getfield 46, 3) := by decide +kernel
theorem dX7_clashes_25 : decode cX7_clashes 25 = .ok (.iload_n 2, 1) := by decide +kernel
theorem dX7_clashes_26 : decode cX7_clashes 26 = .ok (.iaload, 1) := by decide +kernel
theorem dX7_clashes_27 : decode cX7_clashes 27 = .ok (.invokestatic 193, 3) := by decide +kernel
theorem dX7_clashes_30 : decode cX7_clashes 30 = .ok (.aload_n 0, 1) := by decide +kernel
theorem dX7_clashes_31 : decode cX7_clashes 31 = .ok (.getfield 43, 3) := by decide +kernel
theorem dX7_clashes_34 : decode cX7_clashes 34 = .ok (.iload_n 1, 1) := by decide +kernel
theorem dX7_clashes_35 : decode cX7_clashes 35 = .ok (.iaload, 1) := by decide +kernel
theorem dX7_clashes_36 : decode cX7_clashes 36 = .ok (.aload_n 0, 1) := by decide +kernel
theorem dX7_clashes_37 : decode cX7_clashes 37 = .ok (.getfield 43, 3) := by decide +kernel
theorem dX7_clashes_40 : decode cX7_clashes 40 = .ok (.iload_n 2, 1) := by decide +kernel
theorem dX7_clashes_41 : decode cX7_clashes 41 = .ok (.iaload, 1) := by decide +kernel
theorem dX7_clashes_42 : decode cX7_clashes 42 = .ok (.invokestatic 193, 3) := by decide +kernel
theorem dX7_clashes_45 : decode cX7_clashes 45 = .ok (.if_icmp .le 7, 3) := by decide +kernel
theorem dX7_clashes_48 : decode cX7_clashes 48 = .ok (.iconst 1, 1) := by decide +kernel
theorem dX7_clashes_49 : decode cX7_clashes 49 = .ok (.goto 4, 3) := by decide +kernel
theorem dX7_clashes_52 : decode cX7_clashes 52 = .ok (.iconst 0, 1) := by decide +kernel
theorem dX7_clashes_53 : decode cX7_clashes 53 = .ok (.ireturn, 1) := by decide +kernel
theorem dX7_isShaken_0 : decode cX7_isShaken 0 = .ok (.iload_n 1, 1) := by decide +kernel
theorem dX7_isShaken_1 : decode cX7_isShaken 1 = .ok (.aload_n 0, 1) := by decide +kernel
theorem dX7_isShaken_2 : decode cX7_isShaken 2 = .ok (.getfield 187, 3) := by decide +kernel
theorem dX7_isShaken_5 : decode cX7_isShaken 5 = .ok (.if_icmp .ne 7, 3) := by decide +kernel
theorem dX7_isShaken_8 : decode cX7_isShaken 8 = .ok (.iconst 1, 1) := by decide +kernel
theorem dX7_isShaken_9 : decode cX7_isShaken 9 = .ok (.goto 4, 3) := by decide +kernel
theorem dX7_isShaken_12 : decode cX7_isShaken 12 = .ok (.iconst 0, 1) := by decide +kernel
theorem dX7_isShaken_13 : decode cX7_isShaken 13 = .ok (.istore_n 2, 1) := by decide +kernel
theorem dX7_isShaken_14 : decode cX7_isShaken 14 = .ok (.iconst 0, 1) := by decide +kernel
theorem dX7_isShaken_15 : decode cX7_isShaken 15 = .ok (.istore_n 3, 1) := by decide +kernel
theorem dX7_isShaken_16 : decode cX7_isShaken 16 = .ok (.iload_n 3, 1) := by decide +kernel
theorem dX7_isShaken_17 : decode cX7_isShaken 17 = .ok (.aload_n 0, 1) := by decide +kernel
theorem dX7_isShaken_18 : decode cX7_isShaken 18 = .ok (.getfield 171, 3) := by decide +kernel
theorem dX7_isShaken_21 : decode cX7_isShaken 21 = .ok (.if_icmp .ge 119, 3) := by decide +kernel
theorem dX7_isShaken_24 : decode cX7_isShaken 24 = .ok (.aload_n 0, 1) := by decide +kernel
theorem dX7_isShaken_25 : decode cX7_isShaken 25 = .ok (.getfield 190, 3) := by decide +kernel
theorem dX7_isShaken_28 : decode cX7_isShaken 28 = .ok (.iload_n 3, 1) := by decide +kernel
theorem dX7_isShaken_29 : decode cX7_isShaken 29 = .ok (.invokestatic 196, 3) := by decide +kernel
theorem dX7_isShaken_32 : decode cX7_isShaken 32 = .ok (.ifCond .ne 102, 3) := by decide +kernel
theorem dX7_isShaken_35 : decode cX7_isShaken 35 = .ok (.iload_n 2, 1) := by decide +kernel
theorem dX7_isShaken_36 : decode cX7_isShaken 36 = .ok (.ifCond .ne 42, 3) := by decide +kernel
theorem dX7_isShaken_39 : decode cX7_isShaken 39 = .ok (.aload_n 0, 1) := by decide +kernel
theorem dX7_isShaken_40 : decode cX7_isShaken 40 = .ok (.getfield 34, 3) := by decide +kernel
theorem dX7_isShaken_43 : decode cX7_isShaken 43 = .ok (.iload_n 3, 1) := by decide +kernel
theorem dX7_isShaken_44 : decode cX7_isShaken 44 = .ok (.iaload, 1) := by decide +kernel
theorem dX7_isShaken_45 : decode cX7_isShaken 45 = .ok (.ifCond .ne 37, 3) := by decide +kernel
theorem dX7_isShaken_48 : decode cX7_isShaken 48 = .ok (.aload_n 0, 1) := by decide +kernel
theorem dX7_isShaken_49 : decode cX7_isShaken 49 = .ok (.getfield 40, 3) := by decide +kernel
theorem dX7_isShaken_52 : decode cX7_isShaken 52 = .ok (.iload_n 3, 1) := by decide +kernel
theorem dX7_isShaken_53 : decode cX7_isShaken 53 = .ok (.iaload, 1) := by decide +kernel
theorem dX7_isShaken_54 : decode cX7_isShaken 54 = .ok (.aload_n 0, 1) := by decide +kernel
theorem dX7_isShaken_55 : decode cX7_isShaken 55 = .ok (.getfield 49, 3) := by decide +kernel
theorem dX7_isShaken_58 : decode cX7_isShaken 58 = .ok (.iload_n 1, 1) := by decide +kernel
theorem dX7_isShaken_59 : decode cX7_isShaken 59 = .ok (.iaload, 1) := by decide +kernel
theorem dX7_isShaken_60 : decode cX7_isShaken 60 = .ok (.if_icmp .ne 22, 3) := by decide +kernel
theorem dX7_isShaken_63 : decode cX7_isShaken 63 = .ok (.aload_n 0, 1) := by decide +kernel
theorem dX7_isShaken_64 : decode cX7_isShaken 64 = .ok (.getfield 37, 3) := by decide +kernel
theorem dX7_isShaken_67 : decode cX7_isShaken 67 = .ok (.iload_n 3, 1) := by decide +kernel
theorem dX7_isShaken_68 : decode cX7_isShaken 68 = .ok (.iaload, 1) := by decide +kernel
theorem dX7_isShaken_69 : decode cX7_isShaken 69 = .ok (.aload_n 0, 1) := by decide +kernel
theorem dX7_isShaken_70 : decode cX7_isShaken 70 = .ok (.getfield 43, 3) := by decide +kernel
theorem dX7_isShaken_73 : decode cX7_isShaken 73 = .ok (.iload_n 1, 1) := by decide +kernel
theorem dX7_isShaken_74 : decode cX7_isShaken 74 = .ok (.iaload, 1) := by decide +kernel
theorem dX7_isShaken_75 : decode cX7_isShaken 75 = .ok (.if_icmp .gt 7, 3) := by decide +kernel
theorem dX7_isShaken_78 : decode cX7_isShaken 78 = .ok (.iconst 1, 1) := by decide +kernel
theorem dX7_isShaken_79 : decode cX7_isShaken 79 = .ok (.goto 4, 3) := by decide +kernel
theorem dX7_isShaken_82 : decode cX7_isShaken 82 = .ok (.iconst 0, 1) := by decide +kernel
theorem dX7_isShaken_83 : decode cX7_isShaken 83 = .ok (.istore_n 2, 1) := by decide +kernel
theorem dX7_isShaken_84 : decode cX7_isShaken 84 = .ok (.iload_n 2, 1) := by decide +kernel
theorem dX7_isShaken_85 : decode cX7_isShaken 85 = .ok (.ifCond .ne 43, 3) := by decide +kernel
theorem dX7_isShaken_88 : decode cX7_isShaken 88 = .ok (.aload_n 0, 1) := by decide +kernel
theorem dX7_isShaken_89 : decode cX7_isShaken 89 = .ok (.getfield 34, 3) := by decide +kernel
theorem dX7_isShaken_92 : decode cX7_isShaken 92 = .ok (.iload_n 3, 1) := by decide +kernel
theorem dX7_isShaken_93 : decode cX7_isShaken 93 = .ok (.iaload, 1) := by decide +kernel
theorem dX7_isShaken_94 : decode cX7_isShaken 94 = .ok (.iconst 1, 1) := by decide +kernel
theorem dX7_isShaken_95 : decode cX7_isShaken 95 = .ok (.if_icmp .ne 37, 3) := by decide +kernel
theorem dX7_isShaken_98 : decode cX7_isShaken 98 = .ok (.aload_n 0, 1) := by decide +kernel
theorem dX7_isShaken_99 : decode cX7_isShaken 99 = .ok (.getfield 40, 3) := by decide +kernel
theorem dX7_isShaken_102 : decode cX7_isShaken 102 = .ok (.iload_n 3, 1) := by decide +kernel
theorem dX7_isShaken_103 : decode cX7_isShaken 103 = .ok (.iaload, 1) := by decide +kernel
theorem dX7_isShaken_104 : decode cX7_isShaken 104 = .ok (.aload_n 0, 1) := by decide +kernel
theorem dX7_isShaken_105 : decode cX7_isShaken 105 = .ok (.getfield 46, 3) := by decide +kernel
theorem dX7_isShaken_108 : decode cX7_isShaken 108 = .ok (.iload_n 1, 1) := by decide +kernel
theorem dX7_isShaken_109 : decode cX7_isShaken 109 = .ok (.iaload, 1) := by decide +kernel
theorem dX7_isShaken_110 : decode cX7_isShaken 110 = .ok (.if_icmp .ne 22, 3) := by decide +kernel
theorem dX7_isShaken_113 : decode cX7_isShaken 113 = .ok (.aload_n 0, 1) := by decide +kernel
theorem dX7_isShaken_114 : decode cX7_isShaken 114 = .ok (.getfield 37, 3) := by decide +kernel
theorem dX7_isShaken_117 : decode cX7_isShaken 117 = .ok (.iload_n 3, 1) := by decide +kernel
theorem dX7_isShaken_118 : decode cX7_isShaken 118 = .ok (.iaload, 1) := by decide +kernel
theorem dX7_isShaken_119 : decode cX7_isShaken 119 = .ok (.aload_n 0, 1) := by decide +kernel
theorem dX7_isShaken_120 : decode cX7_isShaken 120 = .ok (.getfield 43, 3) := by decide +kernel
theorem dX7_isShaken_123 : decode cX7_isShaken 123 = .ok (.iload_n 1, 1) := by decide +kernel
theorem dX7_isShaken_124 : decode cX7_isShaken 124 = .ok (.iaload, 1) := by decide +kernel
theorem dX7_isShaken_125 : decode cX7_isShaken 125 = .ok (.if_icmp .ne 7, 3) := by decide +kernel
theorem dX7_isShaken_128 : decode cX7_isShaken 128 = .ok (.iconst 1, 1) := by decide +kernel
theorem dX7_isShaken_129 : decode cX7_isShaken 129 = .ok (.goto 4, 3) := by decide +kernel
theorem dX7_isShaken_132 : decode cX7_isShaken 132 = .ok (.iconst 0, 1) := by decide +kernel
theorem dX7_isShaken_133 : decode cX7_isShaken 133 = .ok (.istore_n 2, 1) := by decide +kernel
theorem dX7_isShaken_134 : decode cX7_isShaken 134 = .ok (.iinc 3 1, 3) := by decide +kernel
theorem dX7_isShaken_137 : decode cX7_isShaken 137 = .ok (.goto (-121), 3) := by decide +kernel
theorem dX7_isShaken_140 : decode cX7_isShaken 140 = .ok (.iload_n 2, 1) := by decide +kernel
theorem dX7_isShaken_141 : decode cX7_isShaken 141 = .ok (.ireturn, 1) := by decide +kernel
theorem dX7_countsAll_0 : decode cX7_countsAll 0 = .ok (.iconst 0, 1) := by decide +kernel
theorem dX7_countsAll_1 : decode cX7_countsAll 1 = .ok (.istore_n 1, 1) := by decide +kernel
theorem dX7_countsAll_2 : decode cX7_countsAll 2 = .ok (.iload_n 1, 1) := by decide +kernel
theorem dX7_countsAll_3 : decode cX7_countsAll 3 = .ok (.aload_n 0, 1) := by decide +kernel
theorem dX7_countsAll_4 : decode cX7_countsAll 4 = .ok (.getfield 184, 3) := by decide +kernel
theorem dX7_countsAll_7 : decode cX7_countsAll 7 = .ok (.if_icmp .ge 94, 3) := by decide +kernel
theorem dX7_countsAll_10 : decode cX7_countsAll 10 = .ok (.aload_n 0, 1) := by decide +kernel
theorem dX7_countsAll_11 : decode cX7_countsAll 11 = .ok (.getfield 61, 3) := by decide +kernel
theorem dX7_countsAll_14 : decode cX7_countsAll 14 = .ok (.iload_n 1, 1) := by decide +kernel
theorem dX7_countsAll_15 : decode cX7_countsAll 15 = .ok (.iconst (-1), 1) := by decide +kernel
theorem dX7_countsAll_16 : decode cX7_countsAll 16 = .ok (.iastore, 1) := by decide +kernel
theorem dX7_countsAll_17 : decode cX7_countsAll 17 = .ok (.iload_n 1, 1) := by decide +kernel
theorem dX7_countsAll_18 : decode cX7_countsAll 18 = .ok (.iconst 1, 1) := by decide +kernel
theorem dX7_countsAll_19 : decode cX7_countsAll 19 = .ok (.isub, 1) := by decide +kernel
theorem dX7_countsAll_20 : decode cX7_countsAll 20 = .ok (.istore_n 2, 1) := by decide +kernel
theorem dX7_countsAll_21 : decode cX7_countsAll 21 = .ok (.iload_n 2, 1) := by decide +kernel
theorem dX7_countsAll_22 : decode cX7_countsAll 22 = .ok (.ifCond .lt 44, 3) := by decide +kernel
theorem dX7_countsAll_25 : decode cX7_countsAll 25 = .ok (.aload_n 0, 1) := by decide +kernel
theorem dX7_countsAll_26 : decode cX7_countsAll 26 = .ok (.getfield 61, 3) := by decide +kernel
theorem dX7_countsAll_29 : decode cX7_countsAll 29 = .ok (.iload_n 1, 1) := by decide +kernel
theorem dX7_countsAll_30 : decode cX7_countsAll 30 = .ok (.aload_n 0, 1) := by decide +kernel
theorem dX7_countsAll_31 : decode cX7_countsAll 31 = .ok (.getfield 55, 3) := by decide +kernel
theorem dX7_countsAll_34 : decode cX7_countsAll 34 = .ok (.iload_n 2, 1) := by decide +kernel
theorem dX7_countsAll_35 : decode cX7_countsAll 35 = .ok (.iaload, 1) := by decide +kernel
theorem dX7_countsAll_36 : decode cX7_countsAll 36 = .ok (.iconst 1, 1) := by decide +kernel
theorem dX7_countsAll_37 : decode cX7_countsAll 37 = .ok (.if_icmp .ne 16, 3) := by decide +kernel
theorem dX7_countsAll_40 : decode cX7_countsAll 40 = .ok (.aload_n 0, 1) := by decide +kernel
theorem dX7_countsAll_41 : decode cX7_countsAll 41 = .ok (.iload_n 2, 1) := by decide +kernel
theorem dX7_countsAll_42 : decode cX7_countsAll 42 = .ok (.iload_n 1, 1) := by decide +kernel
theorem dX7_countsAll_43 : decode cX7_countsAll 43 = .ok (.invokevirtual 200, 3) := by decide +kernel
theorem dX7_countsAll_46 : decode cX7_countsAll 46 = .ok (.ifCond .eq 7, 3) := by decide +kernel
theorem dX7_countsAll_49 : decode cX7_countsAll 49 = .ok (.iload_n 2, 1) := by decide +kernel
theorem dX7_countsAll_50 : decode cX7_countsAll 50 = .ok (.goto 9, 3) := by decide +kernel
theorem dX7_countsAll_53 : decode cX7_countsAll 53 = .ok (.aload_n 0, 1) := by decide +kernel
theorem dX7_countsAll_54 : decode cX7_countsAll 54 = .ok (.getfield 61, 3) := by decide +kernel
theorem dX7_countsAll_57 : decode cX7_countsAll 57 = .ok (.iload_n 1, 1) := by decide +kernel
theorem dX7_countsAll_58 : decode cX7_countsAll 58 = .ok (.iaload, 1) := by decide +kernel
theorem dX7_countsAll_59 : decode cX7_countsAll 59 = .ok (.iastore, 1) := by decide +kernel
theorem dX7_countsAll_60 : decode cX7_countsAll 60 = .ok (.iinc 2 (-1), 3) := by decide +kernel
theorem dX7_countsAll_63 : decode cX7_countsAll 63 = .ok (.goto (-42), 3) := by decide +kernel
theorem dX7_countsAll_66 : decode cX7_countsAll 66 = .ok (.aload_n 0, 1) := by decide +kernel
theorem dX7_countsAll_67 : decode cX7_countsAll 67 = .ok (.getfield 55, 3) := by decide +kernel
theorem dX7_countsAll_70 : decode cX7_countsAll 70 = .ok (.iload_n 1, 1) := by decide +kernel
theorem dX7_countsAll_71 : decode cX7_countsAll 71 = .ok (.aload_n 0, 1) := by decide +kernel
theorem dX7_countsAll_72 : decode cX7_countsAll 72 = .ok (.iload_n 1, 1) := by decide +kernel
theorem dX7_countsAll_73 : decode cX7_countsAll 73 = .ok (.invokevirtual 203, 3) := by decide +kernel
theorem dX7_countsAll_76 : decode cX7_countsAll 76 = .ok (.ifCond .ne 17, 3) := by decide +kernel
theorem dX7_countsAll_79 : decode cX7_countsAll 79 = .ok (.aload_n 0, 1) := by decide +kernel
theorem dX7_countsAll_80 : decode cX7_countsAll 80 = .ok (.getfield 61, 3) := by decide +kernel
theorem dX7_countsAll_83 : decode cX7_countsAll 83 = .ok (.iload_n 1, 1) := by decide +kernel
theorem dX7_countsAll_84 : decode cX7_countsAll 84 = .ok (.iaload, 1) := by decide +kernel
theorem dX7_countsAll_85 : decode cX7_countsAll 85 = .ok (.iconst (-1), 1) := by decide +kernel
theorem dX7_countsAll_86 : decode cX7_countsAll 86 = .ok (.if_icmp .ne 7, 3) := by decide +kernel
theorem dX7_countsAll_89 : decode cX7_countsAll 89 = .ok (.iconst 1, 1) := by decide +kernel
theorem dX7_countsAll_90 : decode cX7_countsAll 90 = .ok (.goto 4, 3) := by decide +kernel
theorem dX7_countsAll_93 : decode cX7_countsAll 93 = .ok (.iconst 0, 1) := by decide +kernel
theorem dX7_countsAll_94 : decode cX7_countsAll 94 = .ok (.iastore, 1) := by decide +kernel
theorem dX7_countsAll_95 : decode cX7_countsAll 95 = .ok (.iinc 1 1, 3) := by decide +kernel
theorem dX7_countsAll_98 : decode cX7_countsAll 98 = .ok (.goto (-96), 3) := by decide +kernel
theorem dX7_countsAll_101 : decode cX7_countsAll 101 = .ok (.return_, 1) := by decide +kernel
theorem dX7_others_0 : decode cX7_others 0 = .ok (.iconst 0, 1) := by decide +kernel
theorem dX7_others_1 : decode cX7_others 1 = .ok (.istore_n 2, 1) := by decide +kernel
theorem dX7_others_2 : decode cX7_others 2 = .ok (.iconst 0, 1) := by decide +kernel
theorem dX7_others_3 : decode cX7_others 3 = .ok (.istore_n 3, 1) := by decide +kernel
theorem dX7_others_4 : decode cX7_others 4 = .ok (.iload_n 3, 1) := by decide +kernel
theorem dX7_others_5 : decode cX7_others 5 = .ok (.aload_n 0, 1) := by decide +kernel
theorem dX7_others_6 : decode cX7_others 6 = .ok (.getfield 184, 3) := by decide +kernel
theorem dX7_others_9 : decode cX7_others 9 = .ok (.if_icmp .ge 91, 3) := by decide +kernel
theorem dX7_others_12 : decode cX7_others 12 = .ok (.aload_n 0, 1) := by decide +kernel
theorem dX7_others_13 : decode cX7_others 13 = .ok (.getfield 55, 3) := by decide +kernel
theorem dX7_others_16 : decode cX7_others 16 = .ok (.iload_n 3, 1) := by decide +kernel
theorem dX7_others_17 : decode cX7_others 17 = .ok (.iaload, 1) := by decide +kernel
theorem dX7_others_18 : decode cX7_others 18 = .ok (.iconst 1, 1) := by decide +kernel
theorem dX7_others_19 : decode cX7_others 19 = .ok (.if_icmp .ne 52, 3) := by decide +kernel
theorem dX7_others_22 : decode cX7_others 22 = .ok (.aload_n 0, 1) := by decide +kernel
theorem dX7_others_23 : decode cX7_others 23 = .ok (.getfield 43, 3) := by decide +kernel
theorem dX7_others_26 : decode cX7_others 26 = .ok (.iload_n 3, 1) := by decide +kernel
theorem dX7_others_27 : decode cX7_others 27 = .ok (.iaload, 1) := by decide +kernel
theorem dX7_others_28 : decode cX7_others 28 = .ok (.aload_n 0, 1) := by decide +kernel
theorem dX7_others_29 : decode cX7_others 29 = .ok (.getfield 43, 3) := by decide +kernel
theorem dX7_others_32 : decode cX7_others 32 = .ok (.iload_n 1, 1) := by decide +kernel
theorem dX7_others_33 : decode cX7_others 33 = .ok (.iaload, 1) := by decide +kernel
theorem dX7_others_34 : decode cX7_others 34 = .ok (.if_icmp .ne 37, 3) := by decide +kernel
theorem dX7_others_37 : decode cX7_others 37 = .ok (.aload_n 0, 1) := by decide +kernel
theorem dX7_others_38 : decode cX7_others 38 = .ok (.getfield 46, 3) := by decide +kernel
theorem dX7_others_41 : decode cX7_others 41 = .ok (.iload_n 3, 1) := by decide +kernel
theorem dX7_others_42 : decode cX7_others 42 = .ok (.iaload, 1) := by decide +kernel
theorem dX7_others_43 : decode cX7_others 43 = .ok (.aload_n 0, 1) := by decide +kernel
theorem dX7_others_44 : decode cX7_others 44 = .ok (.getfield 46, 3) := by decide +kernel
theorem dX7_others_47 : decode cX7_others 47 = .ok (.iload_n 1, 1) := by decide +kernel
theorem dX7_others_48 : decode cX7_others 48 = .ok (.iaload, 1) := by decide +kernel
theorem dX7_others_49 : decode cX7_others 49 = .ok (.if_icmp .ne 22, 3) := by decide +kernel
theorem dX7_others_52 : decode cX7_others 52 = .ok (.aload_n 0, 1) := by decide +kernel
theorem dX7_others_53 : decode cX7_others 53 = .ok (.getfield 49, 3) := by decide +kernel
theorem dX7_others_56 : decode cX7_others 56 = .ok (.iload_n 3, 1) := by decide +kernel
theorem dX7_others_57 : decode cX7_others 57 = .ok (.iaload, 1) := by decide +kernel
theorem dX7_others_58 : decode cX7_others 58 = .ok (.aload_n 0, 1) := by decide +kernel
theorem dX7_others_59 : decode cX7_others 59 = .ok (.getfield 49, 3) := by decide +kernel
theorem dX7_others_62 : decode cX7_others 62 = .ok (.iload_n 1, 1) := by decide +kernel
theorem dX7_others_63 : decode cX7_others 63 = .ok (.iaload, 1) := by decide +kernel
theorem dX7_others_64 : decode cX7_others 64 = .ok (.if_icmp .eq 7, 3) := by decide +kernel
theorem dX7_others_67 : decode cX7_others 67 = .ok (.iconst 1, 1) := by decide +kernel
theorem dX7_others_68 : decode cX7_others 68 = .ok (.goto 4, 3) := by decide +kernel
theorem dX7_others_71 : decode cX7_others 71 = .ok (.iconst 0, 1) := by decide +kernel
theorem dX7_others_72 : decode cX7_others 72 = .ok (.istore 4, 2) := by decide +kernel
theorem dX7_others_74 : decode cX7_others 74 = .ok (.iload_n 2, 1) := by decide +kernel
theorem dX7_others_75 : decode cX7_others 75 = .ok (.iload 4, 2) := by decide +kernel
theorem dX7_others_77 : decode cX7_others 77 = .ok (.ifCond .eq 14, 3) := by decide +kernel
theorem dX7_others_80 : decode cX7_others 80 = .ok (.iconst 1, 1) := by decide +kernel
theorem dX7_others_81 : decode cX7_others 81 = .ok (.aload_n 0, 1) := by decide +kernel
theorem dX7_others_82 : decode cX7_others 82 = .ok (.getfield 49, 3) := by decide +kernel
theorem dX7_others_85 : decode cX7_others 85 = .ok (.iload_n 3, 1) := by decide +kernel
theorem dX7_others_86 : decode cX7_others 86 = .ok (.iaload, 1) := by decide +kernel
theorem dX7_others_87 : decode cX7_others 87 = .ok (.ishl, 1) := by decide +kernel
theorem dX7_others_88 : decode cX7_others 88 = .ok (.goto 4, 3) := by decide +kernel
theorem dX7_others_91 : decode cX7_others 91 = .ok (.iconst 0, 1) := by decide +kernel
theorem dX7_others_92 : decode cX7_others 92 = .ok (.ior, 1) := by decide +kernel
theorem dX7_others_93 : decode cX7_others 93 = .ok (.istore_n 2, 1) := by decide +kernel
theorem dX7_others_94 : decode cX7_others 94 = .ok (.iinc 3 1, 3) := by decide +kernel
theorem dX7_others_97 : decode cX7_others 97 = .ok (.goto (-93), 3) := by decide +kernel
theorem dX7_others_100 : decode cX7_others 100 = .ok (.iconst 0, 1) := by decide +kernel
theorem dX7_others_101 : decode cX7_others 101 = .ok (.istore_n 3, 1) := by decide +kernel
theorem dX7_others_102 : decode cX7_others 102 = .ok (.iconst 0, 1) := by decide +kernel
theorem dX7_others_103 : decode cX7_others 103 = .ok (.istore 4, 2) := by decide +kernel
theorem dX7_others_105 : decode cX7_others 105 = .ok (.iload 4, 2) := by decide +kernel
theorem dX7_others_107 : decode cX7_others 107 = .ok (.bipush 10, 2) := by decide +kernel
theorem dX7_others_109 : decode cX7_others 109 = .ok (.if_icmp .ge 26, 3) := by decide +kernel
theorem dX7_others_112 : decode cX7_others 112 = .ok (.iload_n 3, 1) := by decide +kernel
theorem dX7_others_113 : decode cX7_others 113 = .ok (.iload_n 2, 1) := by decide +kernel
theorem dX7_others_114 : decode cX7_others 114 = .ok (.iload 4, 2) := by decide +kernel
theorem dX7_others_116 : decode cX7_others 116 = .ok (.invokestatic 196, 3) := by decide +kernel
theorem dX7_others_119 : decode cX7_others 119 = .ok (.ifCond .eq 7, 3) := by decide +kernel
theorem dX7_others_122 : decode cX7_others 122 = .ok (.iconst 1, 1) := by decide +kernel
theorem dX7_others_123 : decode cX7_others 123 = .ok (.goto 4, 3) := by decide +kernel
theorem dX7_others_126 : decode cX7_others 126 = .ok (.iconst 0, 1) := by decide +kernel
theorem dX7_others_127 : decode cX7_others 127 = .ok (.iadd, 1) := by decide +kernel
theorem dX7_others_128 : decode cX7_others 128 = .ok (.istore_n 3, 1) := by decide +kernel
theorem dX7_others_129 : decode cX7_others 129 = .ok (.iinc 4 1, 3) := by decide +kernel
theorem dX7_others_132 : decode cX7_others 132 = .ok (.goto (-27), 3) := by decide +kernel
theorem dX7_others_135 : decode cX7_others 135 = .ok (.iload_n 3, 1) := by decide +kernel
theorem dX7_others_136 : decode cX7_others 136 = .ok (.ireturn, 1) := by decide +kernel
theorem dX7_isLiar_0 : decode cX7_isLiar 0 = .ok (.iconst 0, 1) := by decide +kernel
theorem dX7_isLiar_1 : decode cX7_isLiar 1 = .ok (.istore_n 2, 1) := by decide +kernel
theorem dX7_isLiar_2 : decode cX7_isLiar 2 = .ok (.iconst 0, 1) := by decide +kernel
theorem dX7_isLiar_3 : decode cX7_isLiar 3 = .ok (.istore_n 3, 1) := by decide +kernel
theorem dX7_isLiar_4 : decode cX7_isLiar 4 = .ok (.iload_n 3, 1) := by decide +kernel
theorem dX7_isLiar_5 : decode cX7_isLiar 5 = .ok (.aload_n 0, 1) := by decide +kernel
theorem dX7_isLiar_6 : decode cX7_isLiar 6 = .ok (.getfield 184, 3) := by decide +kernel
theorem dX7_isLiar_9 : decode cX7_isLiar 9 = .ok (.if_icmp .ge 46, 3) := by decide +kernel
theorem dX7_isLiar_12 : decode cX7_isLiar 12 = .ok (.iload_n 2, 1) := by decide +kernel
theorem dX7_isLiar_13 : decode cX7_isLiar 13 = .ok (.ifCond .ne 30, 3) := by decide +kernel
theorem dX7_isLiar_16 : decode cX7_isLiar 16 = .ok (.iload_n 3, 1) := by decide +kernel
theorem dX7_isLiar_17 : decode cX7_isLiar 17 = .ok (.aload_n 0, 1) := by decide +kernel
theorem dX7_isLiar_18 : decode cX7_isLiar 18 = .ok (.getfield 187, 3) := by decide +kernel
theorem dX7_isLiar_21 : decode cX7_isLiar 21 = .ok (.if_icmp .eq 26, 3) := by decide +kernel
theorem dX7_isLiar_24 : decode cX7_isLiar 24 = .ok (.aload_n 0, 1) := by decide +kernel
theorem dX7_isLiar_25 : decode cX7_isLiar 25 = .ok (.getfield 49, 3) := by decide +kernel
theorem dX7_isLiar_28 : decode cX7_isLiar 28 = .ok (.iload_n 3, 1) := by decide +kernel
theorem dX7_isLiar_29 : decode cX7_isLiar 29 = .ok (.iaload, 1) := by decide +kernel
theorem dX7_isLiar_30 : decode cX7_isLiar 30 = .ok (.iload_n 1, 1) := by decide +kernel
theorem dX7_isLiar_31 : decode cX7_isLiar 31 = .ok (.if_icmp .ne 16, 3) := by decide +kernel
theorem dX7_isLiar_34 : decode cX7_isLiar 34 = .ok (.aload_n 0, 1) := by decide +kernel
theorem dX7_isLiar_35 : decode cX7_isLiar 35 = .ok (.getfield 55, 3) := by decide +kernel
theorem dX7_isLiar_38 : decode cX7_isLiar 38 = .ok (.iload_n 3, 1) := by decide +kernel
theorem dX7_isLiar_39 : decode cX7_isLiar 39 = .ok (.iaload, 1) := by decide +kernel
theorem dX7_isLiar_40 : decode cX7_isLiar 40 = .ok (.ifCond .ne 7, 3) := by decide +kernel
theorem dX7_isLiar_43 : decode cX7_isLiar 43 = .ok (.iconst 1, 1) := by decide +kernel
theorem dX7_isLiar_44 : decode cX7_isLiar 44 = .ok (.goto 4, 3) := by decide +kernel
theorem dX7_isLiar_47 : decode cX7_isLiar 47 = .ok (.iconst 0, 1) := by decide +kernel
theorem dX7_isLiar_48 : decode cX7_isLiar 48 = .ok (.istore_n 2, 1) := by decide +kernel
theorem dX7_isLiar_49 : decode cX7_isLiar 49 = .ok (.iinc 3 1, 3) := by decide +kernel
theorem dX7_isLiar_52 : decode cX7_isLiar 52 = .ok (.goto (-48), 3) := by decide +kernel
theorem dX7_isLiar_55 : decode cX7_isLiar 55 = .ok (.iload_n 2, 1) := by decide +kernel
theorem dX7_isLiar_56 : decode cX7_isLiar 56 = .ok (.ireturn, 1) := by decide +kernel
theorem dX7_weighsAll_0 : decode cX7_weighsAll 0 = .ok (.iconst 0, 1) := by decide +kernel
theorem dX7_weighsAll_1 : decode cX7_weighsAll 1 = .ok (.istore_n 1, 1) := by decide +kernel
theorem dX7_weighsAll_2 : decode cX7_weighsAll 2 = .ok (.iload_n 1, 1) := by decide +kernel
theorem dX7_weighsAll_3 : decode cX7_weighsAll 3 = .ok (.aload_n 0, 1) := by decide +kernel
theorem dX7_weighsAll_4 : decode cX7_weighsAll 4 = .ok (.getfield 184, 3) := by decide +kernel
theorem dX7_weighsAll_7 : decode cX7_weighsAll 7 = .ok (.if_icmp .ge 93, 3) := by decide +kernel
theorem dX7_weighsAll_10 : decode cX7_weighsAll 10 = .ok (.iconst 1, 1) := by decide +kernel
theorem dX7_weighsAll_11 : decode cX7_weighsAll 11 = .ok (.aload_n 0, 1) := by decide +kernel
theorem dX7_weighsAll_12 : decode cX7_weighsAll 12 = .ok (.iload_n 1, 1) := by decide +kernel
theorem dX7_weighsAll_13 : decode cX7_weighsAll 13 = .ok (.invokevirtual 206, 3) := by decide +kernel
theorem dX7_weighsAll_16 : decode cX7_weighsAll 16 = .ok (.iadd, 1) := by decide +kernel
theorem dX7_weighsAll_17 : decode cX7_weighsAll 17 = .ok (.istore_n 2, 1) := by decide +kernel
theorem dX7_weighsAll_18 : decode cX7_weighsAll 18 = .ok (.aload_n 0, 1) := by decide +kernel
theorem dX7_weighsAll_19 : decode cX7_weighsAll 19 = .ok (.getfield 52, 3) := by decide +kernel
theorem dX7_weighsAll_22 : decode cX7_weighsAll 22 = .ok (.iload_n 1, 1) := by decide +kernel
theorem dX7_weighsAll_23 : decode cX7_weighsAll 23 = .ok (.iaload, 1) := by decide +kernel
theorem dX7_weighsAll_24 : decode cX7_weighsAll 24 = .ok (.ifCond .ne 7, 3) := by decide +kernel
theorem dX7_weighsAll_27 : decode cX7_weighsAll 27 = .ok (.iconst 3, 1) := by decide +kernel
theorem dX7_weighsAll_28 : decode cX7_weighsAll 28 = .ok (.goto 44, 3) := by decide +kernel
theorem dX7_weighsAll_31 : decode cX7_weighsAll 31 = .ok (.aload_n 0, 1) := by decide +kernel
theorem dX7_weighsAll_32 : decode cX7_weighsAll 32 = .ok (.getfield 52, 3) := by decide +kernel
theorem dX7_weighsAll_35 : decode cX7_weighsAll 35 = .ok (.iload_n 1, 1) := by decide +kernel
theorem dX7_weighsAll_36 : decode cX7_weighsAll 36 = .ok (.iaload, 1) := by decide +kernel
theorem dX7_weighsAll_37 : decode cX7_weighsAll 37 = .ok (.iconst 1, 1) := by decide +kernel
theorem dX7_weighsAll_38 : decode cX7_weighsAll 38 = .ok (.if_icmp .ne 16, 3) := by decide +kernel
theorem dX7_weighsAll_41 : decode cX7_weighsAll 41 = .ok (.iload_n 2, 1) := by decide +kernel
theorem dX7_weighsAll_42 : decode cX7_weighsAll 42 = .ok (.iconst 3, 1) := by decide +kernel
theorem dX7_weighsAll_43 : decode cX7_weighsAll 43 = .ok (.if_icmp .ge 7, 3) := by decide +kernel
theorem dX7_weighsAll_46 : decode cX7_weighsAll 46 = .ok (.iload_n 2, 1) := by decide +kernel
theorem dX7_weighsAll_47 : decode cX7_weighsAll 47 = .ok (.goto 25, 3) := by decide +kernel
theorem dX7_weighsAll_50 : decode cX7_weighsAll 50 = .ok (.iconst 3, 1) := by decide +kernel
theorem dX7_weighsAll_51 : decode cX7_weighsAll 51 = .ok (.goto 21, 3) := by decide +kernel
theorem dX7_weighsAll_54 : decode cX7_weighsAll 54 = .ok (.aload_n 0, 1) := by decide +kernel
theorem dX7_weighsAll_55 : decode cX7_weighsAll 55 = .ok (.aload_n 0, 1) := by decide +kernel
theorem dX7_weighsAll_56 : decode cX7_weighsAll 56 = .ok (.getfield 49, 3) := by decide +kernel
theorem dX7_weighsAll_59 : decode cX7_weighsAll 59 = .ok (.iload_n 1, 1) := by decide +kernel
theorem dX7_weighsAll_60 : decode cX7_weighsAll 60 = .ok (.iaload, 1) := by decide +kernel
theorem dX7_weighsAll_61 : decode cX7_weighsAll 61 = .ok (.invokevirtual 209, 3) := by decide +kernel
theorem dX7_weighsAll_64 : decode cX7_weighsAll 64 = .ok (.ifCond .eq 7, 3) := by decide +kernel
theorem dX7_weighsAll_67 : decode cX7_weighsAll 67 = .ok (.iconst 0, 1) := by decide +kernel
theorem dX7_weighsAll_68 : decode cX7_weighsAll 68 = .ok (.goto 4, 3) := by decide +kernel
theorem dX7_weighsAll_71 : decode cX7_weighsAll 71 = .ok (.iconst 2, 1) := by decide +kernel
theorem dX7_weighsAll_72 : decode cX7_weighsAll 72 = .ok (.istore_n 3, 1) := by decide +kernel
theorem dX7_weighsAll_73 : decode cX7_weighsAll 73 = .ok (.aload_n 0, 1) := by decide +kernel
theorem dX7_weighsAll_74 : decode cX7_weighsAll 74 = .ok (.getfield 58, 3) := by decide +kernel
theorem dX7_weighsAll_77 : decode cX7_weighsAll 77 = .ok (.iload_n 1, 1) := by decide +kernel
theorem dX7_weighsAll_78 : decode cX7_weighsAll 78 = .ok (.aload_n 0, 1) := by decide +kernel
theorem dX7_weighsAll_79 : decode cX7_weighsAll 79 = .ok (.getfield 55, 3) := by decide +kernel
theorem dX7_weighsAll_82 : decode cX7_weighsAll 82 = .ok (.iload_n 1, 1) := by decide +kernel
theorem dX7_weighsAll_83 : decode cX7_weighsAll 83 = .ok (.iaload, 1) := by decide +kernel
theorem dX7_weighsAll_84 : decode cX7_weighsAll 84 = .ok (.iconst 1, 1) := by decide +kernel
theorem dX7_weighsAll_85 : decode cX7_weighsAll 85 = .ok (.if_icmp .ne 7, 3) := by decide +kernel
theorem dX7_weighsAll_88 : decode cX7_weighsAll 88 = .ok (.iload_n 3, 1) := by decide +kernel
theorem dX7_weighsAll_89 : decode cX7_weighsAll 89 = .ok (.goto 4, 3) := by decide +kernel
theorem dX7_weighsAll_92 : decode cX7_weighsAll 92 = .ok (.iconst 0, 1) := by decide +kernel
theorem dX7_weighsAll_93 : decode cX7_weighsAll 93 = .ok (.iastore, 1) := by decide +kernel
theorem dX7_weighsAll_94 : decode cX7_weighsAll 94 = .ok (.iinc 1 1, 3) := by decide +kernel
theorem dX7_weighsAll_97 : decode cX7_weighsAll 97 = .ok (.goto (-95), 3) := by decide +kernel
theorem dX7_weighsAll_100 : decode cX7_weighsAll 100 = .ok (.return_, 1) := by decide +kernel
theorem dX7_letters_0 : decode cX7_letters 0 = .ok (.iconst 0, 1) := by decide +kernel
theorem dX7_letters_1 : decode cX7_letters 1 = .ok (.istore_n 3, 1) := by decide +kernel
theorem dX7_letters_2 : decode cX7_letters 2 = .ok (.iconst 0, 1) := by decide +kernel
theorem dX7_letters_3 : decode cX7_letters 3 = .ok (.istore 4, 2) := by decide +kernel
theorem dX7_letters_5 : decode cX7_letters 5 = .ok (.iload 4, 2) := by decide +kernel
theorem dX7_letters_7 : decode cX7_letters 7 = .ok (.aload_n 0, 1) := by decide +kernel
theorem dX7_letters_8 : decode cX7_letters 8 = .ok (.getfield 171, 3) := by decide +kernel
theorem dX7_letters_11 : decode cX7_letters 11 = .ok (.if_icmp .ge 62, 3) := by decide +kernel
theorem dX7_letters_14 : decode cX7_letters 14 = .ok (.iload_n 3, 1) := by decide +kernel
theorem dX7_letters_15 : decode cX7_letters 15 = .ok (.aload_n 0, 1) := by decide +kernel
theorem dX7_letters_16 : decode cX7_letters 16 = .ok (.getfield 34, 3) := by decide +kernel
theorem dX7_letters_19 : decode cX7_letters 19 = .ok (.iload 4, 2) := by decide +kernel
theorem dX7_letters_21 : decode cX7_letters 21 = .ok (.iaload, 1) := by decide +kernel
theorem dX7_letters_22 : decode cX7_letters 22 = .ok (.iconst 2, 1) := by decide +kernel
theorem dX7_letters_23 : decode cX7_letters 23 = .ok (.if_icmp .ne 41, 3) := by decide +kernel
theorem dX7_letters_26 : decode cX7_letters 26 = .ok (.aload_n 0, 1) := by decide +kernel
theorem dX7_letters_27 : decode cX7_letters 27 = .ok (.getfield 40, 3) := by decide +kernel
theorem dX7_letters_30 : decode cX7_letters 30 = .ok (.iload 4, 2) := by decide +kernel
theorem dX7_letters_32 : decode cX7_letters 32 = .ok (.iaload, 1) := by decide +kernel
theorem dX7_letters_33 : decode cX7_letters 33 = .ok (.iload_n 1, 1) := by decide +kernel
theorem dX7_letters_34 : decode cX7_letters 34 = .ok (.if_icmp .ne 30, 3) := by decide +kernel
theorem dX7_letters_37 : decode cX7_letters 37 = .ok (.aload_n 0, 1) := by decide +kernel
theorem dX7_letters_38 : decode cX7_letters 38 = .ok (.getfield 37, 3) := by decide +kernel
theorem dX7_letters_41 : decode cX7_letters 41 = .ok (.iload 4, 2) := by decide +kernel
theorem dX7_letters_43 : decode cX7_letters 43 = .ok (.iaload, 1) := by decide +kernel
theorem dX7_letters_44 : decode cX7_letters 44 = .ok (.iload_n 2, 1) := by decide +kernel
theorem dX7_letters_45 : decode cX7_letters 45 = .ok (.if_icmp .ne 19, 3) := by decide +kernel
theorem dX7_letters_48 : decode cX7_letters 48 = .ok (.aload_n 0, 1) := by decide +kernel
theorem dX7_letters_49 : decode cX7_letters 49 = .ok (.getfield 190, 3) := by decide +kernel
theorem dX7_letters_52 : decode cX7_letters 52 = .ok (.iload 4, 2) := by decide +kernel
theorem dX7_letters_54 : decode cX7_letters 54 = .ok (.invokestatic 196, 3) := by decide +kernel
theorem dX7_letters_57 : decode cX7_letters 57 = .ok (.ifCond .ne 7, 3) := by decide +kernel
theorem dX7_letters_60 : decode cX7_letters 60 = .ok (.iconst 1, 1) := by decide +kernel
theorem dX7_letters_61 : decode cX7_letters 61 = .ok (.goto 4, 3) := by decide +kernel
theorem dX7_letters_64 : decode cX7_letters 64 = .ok (.iconst 0, 1) := by decide +kernel
theorem dX7_letters_65 : decode cX7_letters 65 = .ok (.iadd, 1) := by decide +kernel
theorem dX7_letters_66 : decode cX7_letters 66 = .ok (.istore_n 3, 1) := by decide +kernel
theorem dX7_letters_67 : decode cX7_letters 67 = .ok (.iinc 4 1, 3) := by decide +kernel
theorem dX7_letters_70 : decode cX7_letters 70 = .ok (.goto (-65), 3) := by decide +kernel
theorem dX7_letters_73 : decode cX7_letters 73 = .ok (.iload_n 3, 1) := by decide +kernel
theorem dX7_letters_74 : decode cX7_letters 74 = .ok (.ireturn, 1) := by decide +kernel
theorem dX7_standsIn_0 : decode cX7_standsIn 0 = .ok (.bipush 24, 2) := by decide +kernel
theorem dX7_standsIn_2 : decode cX7_standsIn 2 = .ok (.istore_n 2, 1) := by decide +kernel
theorem dX7_standsIn_3 : decode cX7_standsIn 3 = .ok (.iconst 0, 1) := by decide +kernel
theorem dX7_standsIn_4 : decode cX7_standsIn 4 = .ok (.istore_n 3, 1) := by decide +kernel
theorem dX7_standsIn_5 : decode cX7_standsIn 5 = .ok (.iload_n 3, 1) := by decide +kernel
theorem dX7_standsIn_6 : decode cX7_standsIn 6 = .ok (.aload_n 0, 1) := by decide +kernel
theorem dX7_standsIn_7 : decode cX7_standsIn 7 = .ok (.getfield 184, 3) := by decide +kernel
theorem dX7_standsIn_10 : decode cX7_standsIn 10 = .ok (.if_icmp .ge 50, 3) := by decide +kernel
theorem dX7_standsIn_13 : decode cX7_standsIn 13 = .ok (.aload_n 0, 1) := by decide +kernel
theorem dX7_standsIn_14 : decode cX7_standsIn 14 = .ok (.getfield 55, 3) := by decide +kernel
theorem dX7_standsIn_17 : decode cX7_standsIn 17 = .ok (.iload_n 3, 1) := by decide +kernel
theorem dX7_standsIn_18 : decode cX7_standsIn 18 = .ok (.iaload, 1) := by decide +kernel
theorem dX7_standsIn_19 : decode cX7_standsIn 19 = .ok (.iconst 1, 1) := by decide +kernel
theorem dX7_standsIn_20 : decode cX7_standsIn 20 = .ok (.if_icmp .ne 32, 3) := by decide +kernel
theorem dX7_standsIn_23 : decode cX7_standsIn 23 = .ok (.aload_n 0, 1) := by decide +kernel
theorem dX7_standsIn_24 : decode cX7_standsIn 24 = .ok (.getfield 46, 3) := by decide +kernel
theorem dX7_standsIn_27 : decode cX7_standsIn 27 = .ok (.iload_n 3, 1) := by decide +kernel
theorem dX7_standsIn_28 : decode cX7_standsIn 28 = .ok (.iaload, 1) := by decide +kernel
theorem dX7_standsIn_29 : decode cX7_standsIn 29 = .ok (.iload_n 1, 1) := by decide +kernel
theorem dX7_standsIn_30 : decode cX7_standsIn 30 = .ok (.if_icmp .ne 22, 3) := by decide +kernel
theorem dX7_standsIn_33 : decode cX7_standsIn 33 = .ok (.aload_n 0, 1) := by decide +kernel
theorem dX7_standsIn_34 : decode cX7_standsIn 34 = .ok (.getfield 43, 3) := by decide +kernel
theorem dX7_standsIn_37 : decode cX7_standsIn 37 = .ok (.iload_n 3, 1) := by decide +kernel
theorem dX7_standsIn_38 : decode cX7_standsIn 38 = .ok (.iaload, 1) := by decide +kernel
theorem dX7_standsIn_39 : decode cX7_standsIn 39 = .ok (.iload_n 2, 1) := by decide +kernel
theorem dX7_standsIn_40 : decode cX7_standsIn 40 = .ok (.if_icmp .ge 12, 3) := by decide +kernel
theorem dX7_standsIn_43 : decode cX7_standsIn 43 = .ok (.aload_n 0, 1) := by decide +kernel
theorem dX7_standsIn_44 : decode cX7_standsIn 44 = .ok (.getfield 43, 3) := by decide +kernel
theorem dX7_standsIn_47 : decode cX7_standsIn 47 = .ok (.iload_n 3, 1) := by decide +kernel
theorem dX7_standsIn_48 : decode cX7_standsIn 48 = .ok (.iaload, 1) := by decide +kernel
theorem dX7_standsIn_49 : decode cX7_standsIn 49 = .ok (.goto 4, 3) := by decide +kernel
theorem dX7_standsIn_52 : decode cX7_standsIn 52 = .ok (.iload_n 2, 1) := by decide +kernel
theorem dX7_standsIn_53 : decode cX7_standsIn 53 = .ok (.istore_n 2, 1) := by decide +kernel
theorem dX7_standsIn_54 : decode cX7_standsIn 54 = .ok (.iinc 3 1, 3) := by decide +kernel
theorem dX7_standsIn_57 : decode cX7_standsIn 57 = .ok (.goto (-52), 3) := by decide +kernel
theorem dX7_standsIn_60 : decode cX7_standsIn 60 = .ok (.iconst 0, 1) := by decide +kernel
theorem dX7_standsIn_61 : decode cX7_standsIn 61 = .ok (.istore_n 3, 1) := by decide +kernel
theorem dX7_standsIn_62 : decode cX7_standsIn 62 = .ok (.iconst 0, 1) := by decide +kernel
theorem dX7_standsIn_63 : decode cX7_standsIn 63 = .ok (.istore 4, 2) := by decide +kernel
theorem dX7_standsIn_65 : decode cX7_standsIn 65 = .ok (.iload 4, 2) := by decide +kernel
theorem dX7_standsIn_67 : decode cX7_standsIn 67 = .ok (.bipush 24, 2) := by decide +kernel
theorem dX7_standsIn_69 : decode cX7_standsIn 69 = .ok (.if_icmp .ge 207, 3) := by decide +kernel
theorem dX7_standsIn_72 : decode cX7_standsIn 72 = .ok (.bipush 24, 2) := by decide +kernel
theorem dX7_standsIn_74 : decode cX7_standsIn 74 = .ok (.iload_n 1, 1) := by decide +kernel
theorem dX7_standsIn_75 : decode cX7_standsIn 75 = .ok (.imul, 1) := by decide +kernel
theorem dX7_standsIn_76 : decode cX7_standsIn 76 = .ok (.iload 4, 2) := by decide +kernel
theorem dX7_standsIn_78 : decode cX7_standsIn 78 = .ok (.iadd, 1) := by decide +kernel
theorem dX7_standsIn_79 : decode cX7_standsIn 79 = .ok (.istore 5, 2) := by decide +kernel
theorem dX7_standsIn_81 : decode cX7_standsIn 81 = .ok (.aload_n 0, 1) := by decide +kernel
theorem dX7_standsIn_82 : decode cX7_standsIn 82 = .ok (.getfield 64, 3) := by decide +kernel
theorem dX7_standsIn_85 : decode cX7_standsIn 85 = .ok (.iload 5, 2) := by decide +kernel
theorem dX7_standsIn_87 : decode cX7_standsIn 87 = .ok (.iconst 0, 1) := by decide +kernel
theorem dX7_standsIn_88 : decode cX7_standsIn 88 = .ok (.iastore, 1) := by decide +kernel
theorem dX7_standsIn_89 : decode cX7_standsIn 89 = .ok (.iconst 0, 1) := by decide +kernel
theorem dX7_standsIn_90 : decode cX7_standsIn 90 = .ok (.istore 6, 2) := by decide +kernel
theorem dX7_standsIn_92 : decode cX7_standsIn 92 = .ok (.iload 6, 2) := by decide +kernel
theorem dX7_standsIn_94 : decode cX7_standsIn 94 = .ok (.aload_n 0, 1) := by decide +kernel
theorem dX7_standsIn_95 : decode cX7_standsIn 95 = .ok (.getfield 184, 3) := by decide +kernel
theorem dX7_standsIn_98 : decode cX7_standsIn 98 = .ok (.if_icmp .ge 53, 3) := by decide +kernel
theorem dX7_standsIn_101 : decode cX7_standsIn 101 = .ok (.aload_n 0, 1) := by decide +kernel
theorem dX7_standsIn_102 : decode cX7_standsIn 102 = .ok (.getfield 64, 3) := by decide +kernel
theorem dX7_standsIn_105 : decode cX7_standsIn 105 = .ok (.iload 5, 2) := by decide +kernel
theorem dX7_standsIn_107 : decode cX7_standsIn 107 = .ok (.dup2, 1) := by decide +kernel
theorem dX7_standsIn_108 : decode cX7_standsIn 108 = .ok (.iaload, 1) := by decide +kernel
theorem dX7_standsIn_109 : decode cX7_standsIn 109 = .ok (.aload_n 0, 1) := by decide +kernel
theorem dX7_standsIn_110 : decode cX7_standsIn 110 = .ok (.getfield 46, 3) := by decide +kernel
theorem dX7_standsIn_113 : decode cX7_standsIn 113 = .ok (.iload 6, 2) := by decide +kernel
theorem dX7_standsIn_115 : decode cX7_standsIn 115 = .ok (.iaload, 1) := by decide +kernel
theorem dX7_standsIn_116 : decode cX7_standsIn 116 = .ok (.iload_n 1, 1) := by decide +kernel
theorem dX7_standsIn_117 : decode cX7_standsIn 117 = .ok (.if_icmp .ne 25, 3) := by decide +kernel
theorem dX7_standsIn_120 : decode cX7_standsIn 120 = .ok (.aload_n 0, 1) := by decide +kernel
theorem dX7_standsIn_121 : decode cX7_standsIn 121 = .ok (.getfield 43, 3) := by decide +kernel
theorem dX7_standsIn_124 : decode cX7_standsIn 124 = .ok (.iload 6, 2) := by decide +kernel
theorem dX7_standsIn_126 : decode cX7_standsIn 126 = .ok (.iaload, 1) := by decide +kernel
theorem dX7_standsIn_127 : decode cX7_standsIn 127 = .ok (.iload 4, 2) := by decide +kernel
theorem dX7_standsIn_129 : decode cX7_standsIn 129 = .ok (.if_icmp .ne 13, 3) := by decide +kernel
theorem dX7_standsIn_132 : decode cX7_standsIn 132 = .ok (.aload_n 0, 1) := by decide +kernel
theorem dX7_standsIn_133 : decode cX7_standsIn 133 = .ok (.getfield 58, 3) := by decide +kernel
theorem dX7_standsIn_136 : decode cX7_standsIn 136 = .ok (.iload 6, 2) := by decide +kernel
theorem dX7_standsIn_138 : decode cX7_standsIn 138 = .ok (.iaload, 1) := by decide +kernel
theorem dX7_standsIn_139 : decode cX7_standsIn 139 = .ok (.goto 4, 3) := by decide +kernel
theorem dX7_standsIn_142 : decode cX7_standsIn 142 = .ok (.iconst 0, 1) := by decide +kernel
theorem dX7_standsIn_143 : decode cX7_standsIn 143 = .ok (.iadd, 1) := by decide +kernel
theorem dX7_standsIn_144 : decode cX7_standsIn 144 = .ok (.iastore, 1) := by decide +kernel
theorem dX7_standsIn_145 : decode cX7_standsIn 145 = .ok (.iinc 6 1, 3) := by decide +kernel
theorem dX7_standsIn_148 : decode cX7_standsIn 148 = .ok (.goto (-56), 3) := by decide +kernel
theorem dX7_standsIn_151 : decode cX7_standsIn 151 = .ok (.iload_n 3, 1) := by decide +kernel
theorem dX7_standsIn_152 : decode cX7_standsIn 152 = .ok (.aload_n 0, 1) := by decide +kernel
theorem dX7_standsIn_153 : decode cX7_standsIn 153 = .ok (.getfield 64, 3) := by decide +kernel
theorem dX7_standsIn_156 : decode cX7_standsIn 156 = .ok (.iload 5, 2) := by decide +kernel
theorem dX7_standsIn_158 : decode cX7_standsIn 158 = .ok (.iaload, 1) := by decide +kernel
theorem dX7_standsIn_159 : decode cX7_standsIn 159 = .ok (.iload 4, 2) := by decide +kernel
theorem dX7_standsIn_161 : decode cX7_standsIn 161 = .ok (.iload_n 2, 1) := by decide +kernel
theorem dX7_standsIn_162 : decode cX7_standsIn 162 = .ok (.if_icmp .lt 15, 3) := by decide +kernel
theorem dX7_standsIn_165 : decode cX7_standsIn 165 = .ok (.iconst 3, 1) := by decide +kernel
theorem dX7_standsIn_166 : decode cX7_standsIn 166 = .ok (.aload_n 0, 1) := by decide +kernel
theorem dX7_standsIn_167 : decode cX7_standsIn 167 = .ok (.iload_n 1, 1) := by decide +kernel
theorem dX7_standsIn_168 : decode cX7_standsIn 168 = .ok (.iload 4, 2) := by decide +kernel
theorem dX7_standsIn_170 : decode cX7_standsIn 170 = .ok (.invokevirtual 212, 3) := by decide +kernel
theorem dX7_standsIn_173 : decode cX7_standsIn 173 = .ok (.imul, 1) := by decide +kernel
theorem dX7_standsIn_174 : decode cX7_standsIn 174 = .ok (.goto 4, 3) := by decide +kernel
theorem dX7_standsIn_177 : decode cX7_standsIn 177 = .ok (.iconst 0, 1) := by decide +kernel
theorem dX7_standsIn_178 : decode cX7_standsIn 178 = .ok (.iadd, 1) := by decide +kernel
theorem dX7_standsIn_179 : decode cX7_standsIn 179 = .ok (.iadd, 1) := by decide +kernel
theorem dX7_standsIn_180 : decode cX7_standsIn 180 = .ok (.istore_n 3, 1) := by decide +kernel
theorem dX7_standsIn_181 : decode cX7_standsIn 181 = .ok (.iload 4, 2) := by decide +kernel
theorem dX7_standsIn_183 : decode cX7_standsIn 183 = .ok (.iload_n 2, 1) := by decide +kernel
theorem dX7_standsIn_184 : decode cX7_standsIn 184 = .ok (.isub, 1) := by decide +kernel
theorem dX7_standsIn_185 : decode cX7_standsIn 185 = .ok (.iload_n 3, 1) := by decide +kernel
theorem dX7_standsIn_186 : decode cX7_standsIn 186 = .ok (.iadd, 1) := by decide +kernel
theorem dX7_standsIn_187 : decode cX7_standsIn 187 = .ok (.istore 6, 2) := by decide +kernel
theorem dX7_standsIn_189 : decode cX7_standsIn 189 = .ok (.aload_n 0, 1) := by decide +kernel
theorem dX7_standsIn_190 : decode cX7_standsIn 190 = .ok (.getfield 67, 3) := by decide +kernel
theorem dX7_standsIn_193 : decode cX7_standsIn 193 = .ok (.iload 5, 2) := by decide +kernel
theorem dX7_standsIn_195 : decode cX7_standsIn 195 = .ok (.iload 4, 2) := by decide +kernel
theorem dX7_standsIn_197 : decode cX7_standsIn 197 = .ok (.iload_n 2, 1) := by decide +kernel
theorem dX7_standsIn_198 : decode cX7_standsIn 198 = .ok (.if_icmp .ge 7, 3) := by decide +kernel
theorem dX7_standsIn_201 : decode cX7_standsIn 201 = .ok (.iconst 0, 1) := by decide +kernel
theorem dX7_standsIn_202 : decode cX7_standsIn 202 = .ok (.goto 17, 3) := by decide +kernel
theorem dX7_standsIn_205 : decode cX7_standsIn 205 = .ok (.iload 6, 2) := by decide +kernel
theorem dX7_standsIn_207 : decode cX7_standsIn 207 = .ok (.bipush 40, 2) := by decide +kernel
theorem dX7_standsIn_209 : decode cX7_standsIn 209 = .ok (.if_icmp .ge 8, 3) := by decide +kernel
theorem dX7_standsIn_212 : decode cX7_standsIn 212 = .ok (.iload 6, 2) := by decide +kernel
theorem dX7_standsIn_214 : decode cX7_standsIn 214 = .ok (.goto 5, 3) := by decide +kernel
theorem dX7_standsIn_217 : decode cX7_standsIn 217 = .ok (.bipush 40, 2) := by decide +kernel
theorem dX7_standsIn_219 : decode cX7_standsIn 219 = .ok (.iastore, 1) := by decide +kernel
theorem dX7_standsIn_220 : decode cX7_standsIn 220 = .ok (.aload_n 0, 1) := by decide +kernel
theorem dX7_standsIn_221 : decode cX7_standsIn 221 = .ok (.getfield 70, 3) := by decide +kernel
theorem dX7_standsIn_224 : decode cX7_standsIn 224 = .ok (.iload 5, 2) := by decide +kernel
theorem dX7_standsIn_226 : decode cX7_standsIn 226 = .ok (.iload 4, 2) := by decide +kernel
theorem dX7_standsIn_228 : decode cX7_standsIn 228 = .ok (.iload_n 2, 1) := by decide +kernel
theorem dX7_standsIn_229 : decode cX7_standsIn 229 = .ok (.if_icmp .ge 7, 3) := by decide +kernel
theorem dX7_standsIn_232 : decode cX7_standsIn 232 = .ok (.iconst 0, 1) := by decide +kernel
theorem dX7_standsIn_233 : decode cX7_standsIn 233 = .ok (.goto 36, 3) := by decide +kernel
theorem dX7_standsIn_236 : decode cX7_standsIn 236 = .ok (.aload_n 0, 1) := by decide +kernel
theorem dX7_standsIn_237 : decode cX7_standsIn 237 = .ok (.getfield 67, 3) := by decide +kernel
theorem dX7_standsIn_240 : decode cX7_standsIn 240 = .ok (.iload 5, 2) := by decide +kernel
theorem dX7_standsIn_242 : decode cX7_standsIn 242 = .ok (.iaload, 1) := by decide +kernel
theorem dX7_standsIn_243 : decode cX7_standsIn 243 = .ok (.bipush 6, 2) := by decide +kernel
theorem dX7_standsIn_245 : decode cX7_standsIn 245 = .ok (.if_icmp .ge 7, 3) := by decide +kernel
theorem dX7_standsIn_248 : decode cX7_standsIn 248 = .ok (.iconst 1, 1) := by decide +kernel
theorem dX7_standsIn_249 : decode cX7_standsIn 249 = .ok (.goto 20, 3) := by decide +kernel
theorem dX7_standsIn_252 : decode cX7_standsIn 252 = .ok (.aload_n 0, 1) := by decide +kernel
theorem dX7_standsIn_253 : decode cX7_standsIn 253 = .ok (.getfield 67, 3) := by decide +kernel
theorem dX7_standsIn_256 : decode cX7_standsIn 256 = .ok (.iload 5, 2) := by decide +kernel
theorem dX7_standsIn_258 : decode cX7_standsIn 258 = .ok (.iaload, 1) := by decide +kernel
theorem dX7_standsIn_259 : decode cX7_standsIn 259 = .ok (.bipush 15, 2) := by decide +kernel
theorem dX7_standsIn_261 : decode cX7_standsIn 261 = .ok (.if_icmp .ge 7, 3) := by decide +kernel
theorem dX7_standsIn_264 : decode cX7_standsIn 264 = .ok (.iconst 2, 1) := by decide +kernel
theorem dX7_standsIn_265 : decode cX7_standsIn 265 = .ok (.goto 4, 3) := by decide +kernel
theorem dX7_standsIn_268 : decode cX7_standsIn 268 = .ok (.iconst 3, 1) := by decide +kernel
theorem dX7_standsIn_269 : decode cX7_standsIn 269 = .ok (.iastore, 1) := by decide +kernel
theorem dX7_standsIn_270 : decode cX7_standsIn 270 = .ok (.iinc 4 1, 3) := by decide +kernel
theorem dX7_standsIn_273 : decode cX7_standsIn 273 = .ok (.goto (-208), 3) := by decide +kernel
theorem dX7_standsIn_276 : decode cX7_standsIn 276 = .ok (.return_, 1) := by decide +kernel
theorem dX7_bestTown_0 : decode cX7_bestTown 0 = .ok (.aload_n 0, 1) := by decide +kernel
theorem dX7_bestTown_1 : decode cX7_bestTown 1 = .ok (.getfield 28, 3) := by decide +kernel
theorem dX7_bestTown_4 : decode cX7_bestTown 4 = .ok (.iload_n 1, 1) := by decide +kernel
theorem dX7_bestTown_5 : decode cX7_bestTown 5 = .ok (.iaload, 1) := by decide +kernel
theorem dX7_bestTown_6 : decode cX7_bestTown 6 = .ok (.istore_n 2, 1) := by decide +kernel
theorem dX7_bestTown_7 : decode cX7_bestTown 7 = .ok (.iconst (-1), 1) := by decide +kernel
theorem dX7_bestTown_8 : decode cX7_bestTown 8 = .ok (.istore_n 3, 1) := by decide +kernel
theorem dX7_bestTown_9 : decode cX7_bestTown 9 = .ok (.iconst (-1), 1) := by decide +kernel
theorem dX7_bestTown_10 : decode cX7_bestTown 10 = .ok (.istore 4, 2) := by decide +kernel
theorem dX7_bestTown_12 : decode cX7_bestTown 12 = .ok (.iconst 0, 1) := by decide +kernel
theorem dX7_bestTown_13 : decode cX7_bestTown 13 = .ok (.istore 5, 2) := by decide +kernel
theorem dX7_bestTown_15 : decode cX7_bestTown 15 = .ok (.iload 5, 2) := by decide +kernel
theorem dX7_bestTown_17 : decode cX7_bestTown 17 = .ok (.bipush 8, 2) := by decide +kernel
theorem dX7_bestTown_19 : decode cX7_bestTown 19 = .ok (.if_icmp .ge 61, 3) := by decide +kernel
theorem dX7_bestTown_22 : decode cX7_bestTown 22 = .ok (.aload_n 0, 1) := by decide +kernel
theorem dX7_bestTown_23 : decode cX7_bestTown 23 = .ok (.getfield 64, 3) := by decide +kernel
theorem dX7_bestTown_26 : decode cX7_bestTown 26 = .ok (.bipush 24, 2) := by decide +kernel
theorem dX7_bestTown_28 : decode cX7_bestTown 28 = .ok (.iload 5, 2) := by decide +kernel
theorem dX7_bestTown_30 : decode cX7_bestTown 30 = .ok (.imul, 1) := by decide +kernel
theorem dX7_bestTown_31 : decode cX7_bestTown 31 = .ok (.iload_n 2, 1) := by decide +kernel
theorem dX7_bestTown_32 : decode cX7_bestTown 32 = .ok (.iadd, 1) := by decide +kernel
theorem dX7_bestTown_33 : decode cX7_bestTown 33 = .ok (.iaload, 1) := by decide +kernel
theorem dX7_bestTown_34 : decode cX7_bestTown 34 = .ok (.aload_n 0, 1) := by decide +kernel
theorem dX7_bestTown_35 : decode cX7_bestTown 35 = .ok (.getfield 70, 3) := by decide +kernel
theorem dX7_bestTown_38 : decode cX7_bestTown 38 = .ok (.bipush 24, 2) := by decide +kernel
theorem dX7_bestTown_40 : decode cX7_bestTown 40 = .ok (.iload 5, 2) := by decide +kernel
theorem dX7_bestTown_42 : decode cX7_bestTown 42 = .ok (.imul, 1) := by decide +kernel
theorem dX7_bestTown_43 : decode cX7_bestTown 43 = .ok (.iload_n 2, 1) := by decide +kernel
theorem dX7_bestTown_44 : decode cX7_bestTown 44 = .ok (.iadd, 1) := by decide +kernel
theorem dX7_bestTown_45 : decode cX7_bestTown 45 = .ok (.iaload, 1) := by decide +kernel
theorem dX7_bestTown_46 : decode cX7_bestTown 46 = .ok (.imul, 1) := by decide +kernel
theorem dX7_bestTown_47 : decode cX7_bestTown 47 = .ok (.istore 6, 2) := by decide +kernel
theorem dX7_bestTown_49 : decode cX7_bestTown 49 = .ok (.iload 5, 2) := by decide +kernel
theorem dX7_bestTown_51 : decode cX7_bestTown 51 = .ok (.aload_n 0, 1) := by decide +kernel
theorem dX7_bestTown_52 : decode cX7_bestTown 52 = .ok (.getfield 31, 3) := by decide +kernel
theorem dX7_bestTown_55 : decode cX7_bestTown 55 = .ok (.iload_n 1, 1) := by decide +kernel
theorem dX7_bestTown_56 : decode cX7_bestTown 56 = .ok (.iaload, 1) := by decide +kernel
theorem dX7_bestTown_57 : decode cX7_bestTown 57 = .ok (.if_icmp .eq 17, 3) := by decide +kernel
theorem dX7_bestTown_60 : decode cX7_bestTown 60 = .ok (.iload 6, 2) := by decide +kernel
theorem dX7_bestTown_62 : decode cX7_bestTown 62 = .ok (.iload 4, 2) := by decide +kernel
theorem dX7_bestTown_64 : decode cX7_bestTown 64 = .ok (.if_icmp .le 10, 3) := by decide +kernel
theorem dX7_bestTown_67 : decode cX7_bestTown 67 = .ok (.iload 5, 2) := by decide +kernel
theorem dX7_bestTown_69 : decode cX7_bestTown 69 = .ok (.istore_n 3, 1) := by decide +kernel
theorem dX7_bestTown_70 : decode cX7_bestTown 70 = .ok (.iload 6, 2) := by decide +kernel
theorem dX7_bestTown_72 : decode cX7_bestTown 72 = .ok (.istore 4, 2) := by decide +kernel
theorem dX7_bestTown_74 : decode cX7_bestTown 74 = .ok (.iinc 5 1, 3) := by decide +kernel
theorem dX7_bestTown_77 : decode cX7_bestTown 77 = .ok (.goto (-62), 3) := by decide +kernel
theorem dX7_bestTown_80 : decode cX7_bestTown 80 = .ok (.iload_n 3, 1) := by decide +kernel
theorem dX7_bestTown_81 : decode cX7_bestTown 81 = .ok (.ireturn, 1) := by decide +kernel
theorem dX7_beliefNow_0 : decode cX7_beliefNow 0 = .ok (.aload_n 0, 1) := by decide +kernel
theorem dX7_beliefNow_1 : decode cX7_beliefNow 1 = .ok (.getfield 28, 3) := by decide +kernel
theorem dX7_beliefNow_4 : decode cX7_beliefNow 4 = .ok (.iload_n 1, 1) := by decide +kernel
theorem dX7_beliefNow_5 : decode cX7_beliefNow 5 = .ok (.iaload, 1) := by decide +kernel
theorem dX7_beliefNow_6 : decode cX7_beliefNow 6 = .ok (.istore_n 2, 1) := by decide +kernel
theorem dX7_beliefNow_7 : decode cX7_beliefNow 7 = .ok (.aload_n 0, 1) := by decide +kernel
theorem dX7_beliefNow_8 : decode cX7_beliefNow 8 = .ok (.iload_n 1, 1) := by decide +kernel
theorem dX7_beliefNow_9 : decode cX7_beliefNow 9 = .ok (.invokevirtual 215, 3) := by decide +kernel
theorem dX7_beliefNow_12 : decode cX7_beliefNow 12 = .ok (.istore_n 3, 1) := by decide +kernel
theorem dX7_beliefNow_13 : decode cX7_beliefNow 13 = .ok (.aload_n 0, 1) := by decide +kernel
theorem dX7_beliefNow_14 : decode cX7_beliefNow 14 = .ok (.getfield 64, 3) := by decide +kernel
theorem dX7_beliefNow_17 : decode cX7_beliefNow 17 = .ok (.bipush 24, 2) := by decide +kernel
theorem dX7_beliefNow_19 : decode cX7_beliefNow 19 = .ok (.iload_n 3, 1) := by decide +kernel
theorem dX7_beliefNow_20 : decode cX7_beliefNow 20 = .ok (.imul, 1) := by decide +kernel
theorem dX7_beliefNow_21 : decode cX7_beliefNow 21 = .ok (.iload_n 2, 1) := by decide +kernel
theorem dX7_beliefNow_22 : decode cX7_beliefNow 22 = .ok (.iadd, 1) := by decide +kernel
theorem dX7_beliefNow_23 : decode cX7_beliefNow 23 = .ok (.iaload, 1) := by decide +kernel
theorem dX7_beliefNow_24 : decode cX7_beliefNow 24 = .ok (.aload_n 0, 1) := by decide +kernel
theorem dX7_beliefNow_25 : decode cX7_beliefNow 25 = .ok (.getfield 70, 3) := by decide +kernel
theorem dX7_beliefNow_28 : decode cX7_beliefNow 28 = .ok (.bipush 24, 2) := by decide +kernel
theorem dX7_beliefNow_30 : decode cX7_beliefNow 30 = .ok (.iload_n 3, 1) := by decide +kernel
theorem dX7_beliefNow_31 : decode cX7_beliefNow 31 = .ok (.imul, 1) := by decide +kernel
theorem dX7_beliefNow_32 : decode cX7_beliefNow 32 = .ok (.iload_n 2, 1) := by decide +kernel
theorem dX7_beliefNow_33 : decode cX7_beliefNow 33 = .ok (.iadd, 1) := by decide +kernel
theorem dX7_beliefNow_34 : decode cX7_beliefNow 34 = .ok (.iaload, 1) := by decide +kernel
theorem dX7_beliefNow_35 : decode cX7_beliefNow 35 = .ok (.imul, 1) := by decide +kernel
theorem dX7_beliefNow_36 : decode cX7_beliefNow 36 = .ok (.aload_n 0, 1) := by decide +kernel
theorem dX7_beliefNow_37 : decode cX7_beliefNow 37 = .ok (.getfield 64, 3) := by decide +kernel
theorem dX7_beliefNow_40 : decode cX7_beliefNow 40 = .ok (.bipush 24, 2) := by decide +kernel
theorem dX7_beliefNow_42 : decode cX7_beliefNow 42 = .ok (.aload_n 0, 1) := by decide +kernel
theorem dX7_beliefNow_43 : decode cX7_beliefNow 43 = .ok (.getfield 31, 3) := by decide +kernel
theorem dX7_beliefNow_46 : decode cX7_beliefNow 46 = .ok (.iload_n 1, 1) := by decide +kernel
theorem dX7_beliefNow_47 : decode cX7_beliefNow 47 = .ok (.iaload, 1) := by decide +kernel
theorem dX7_beliefNow_48 : decode cX7_beliefNow 48 = .ok (.imul, 1) := by decide +kernel
theorem dX7_beliefNow_49 : decode cX7_beliefNow 49 = .ok (.iload_n 2, 1) := by decide +kernel
theorem dX7_beliefNow_50 : decode cX7_beliefNow 50 = .ok (.iadd, 1) := by decide +kernel
theorem dX7_beliefNow_51 : decode cX7_beliefNow 51 = .ok (.iaload, 1) := by decide +kernel
theorem dX7_beliefNow_52 : decode cX7_beliefNow 52 = .ok (.isub, 1) := by decide +kernel
theorem dX7_beliefNow_53 : decode cX7_beliefNow 53 = .ok (.ireturn, 1) := by decide +kernel
theorem dX7_runs_0 : decode cX7_runs 0 = .ok (.aload_n 0, 1) := by decide +kernel
theorem dX7_runs_1 : decode cX7_runs 1 = .ok (.invokevirtual 218, 3) := by decide +kernel
theorem dX7_runs_4 : decode cX7_runs 4 = .ok (.aload_n 0, 1) := by decide +kernel
theorem dX7_runs_5 : decode cX7_runs 5 = .ok (.invokevirtual 221, 3) := by decide +kernel
theorem dX7_runs_8 : decode cX7_runs 8 = .ok (.iconst 0, 1) := by decide +kernel
theorem dX7_runs_9 : decode cX7_runs 9 = .ok (.istore_n 1, 1) := by decide +kernel
theorem dX7_runs_10 : decode cX7_runs 10 = .ok (.iload_n 1, 1) := by decide +kernel
theorem dX7_runs_11 : decode cX7_runs 11 = .ok (.bipush 8, 2) := by decide +kernel
theorem dX7_runs_13 : decode cX7_runs 13 = .ok (.if_icmp .ge 14, 3) := by decide +kernel
theorem dX7_runs_16 : decode cX7_runs 16 = .ok (.aload_n 0, 1) := by decide +kernel
theorem dX7_runs_17 : decode cX7_runs 17 = .ok (.iload_n 1, 1) := by decide +kernel
theorem dX7_runs_18 : decode cX7_runs 18 = .ok (.invokevirtual 224, 3) := by decide +kernel
theorem dX7_runs_21 : decode cX7_runs 21 = .ok (.iinc 1 1, 3) := by decide +kernel
theorem dX7_runs_24 : decode cX7_runs 24 = .ok (.goto (-14), 3) := by decide +kernel
theorem dX7_runs_27 : decode cX7_runs 27 = .ok (.aload_n 0, 1) := by decide +kernel
theorem dX7_runs_28 : decode cX7_runs 28 = .ok (.iconst 0, 1) := by decide +kernel
theorem dX7_runs_29 : decode cX7_runs 29 = .ok (.putfield 228, 3) := by decide +kernel
theorem dX7_runs_32 : decode cX7_runs 32 = .ok (.iconst 0, 1) := by decide +kernel
theorem dX7_runs_33 : decode cX7_runs 33 = .ok (.istore_n 1, 1) := by decide +kernel
theorem dX7_runs_34 : decode cX7_runs 34 = .ok (.iload_n 1, 1) := by decide +kernel
theorem dX7_runs_35 : decode cX7_runs 35 = .ok (.aload_n 0, 1) := by decide +kernel
theorem dX7_runs_36 : decode cX7_runs 36 = .ok (.getfield 138, 3) := by decide +kernel
theorem dX7_runs_39 : decode cX7_runs 39 = .ok (.if_icmp .ge 37, 3) := by decide +kernel
theorem dX7_runs_42 : decode cX7_runs 42 = .ok (.aload_n 0, 1) := by decide +kernel
theorem dX7_runs_43 : decode cX7_runs 43 = .ok (.dup, 1) := by decide +kernel
theorem dX7_runs_44 : decode cX7_runs 44 = .ok (.getfield 228, 3) := by decide +kernel
theorem dX7_runs_47 : decode cX7_runs 47 = .ok (.aload_n 0, 1) := by decide +kernel
theorem dX7_runs_48 : decode cX7_runs 48 = .ok (.iload_n 1, 1) := by decide +kernel
theorem dX7_runs_49 : decode cX7_runs 49 = .ok (.invokevirtual 231, 3) := by decide +kernel
theorem dX7_runs_52 : decode cX7_runs 52 = .ok (.aload_n 0, 1) := by decide +kernel
theorem dX7_runs_53 : decode cX7_runs 53 = .ok (.getfield 107, 3) := by decide +kernel
theorem dX7_runs_56 : decode cX7_runs 56 = .ok (.if_icmp .lt 9, 3) := by decide +kernel
theorem dX7_runs_59 : decode cX7_runs 59 = .ok (.iconst 1, 1) := by decide +kernel
theorem dX7_runs_60 : decode cX7_runs 60 = .ok (.iload_n 1, 1) := by decide +kernel
theorem dX7_runs_61 : decode cX7_runs 61 = .ok (.ishl, 1) := by decide +kernel
theorem dX7_runs_62 : decode cX7_runs 62 = .ok (.goto 4, 3) := by decide +kernel
theorem dX7_runs_65 : decode cX7_runs 65 = .ok (.iconst 0, 1) := by decide +kernel
theorem dX7_runs_66 : decode cX7_runs 66 = .ok (.ior, 1) := by decide +kernel
theorem dX7_runs_67 : decode cX7_runs 67 = .ok (.putfield 228, 3) := by decide +kernel
theorem dX7_runs_70 : decode cX7_runs 70 = .ok (.iinc 1 1, 3) := by decide +kernel
theorem dX7_runs_73 : decode cX7_runs 73 = .ok (.goto (-39), 3) := by decide +kernel
theorem dX7_runs_76 : decode cX7_runs 76 = .ok (.return_, 1) := by decide +kernel
theorem dX7_runsTold_0 : decode cX7_runsTold 0 = .ok (.aload_n 0, 1) := by decide +kernel
theorem dX7_runsTold_1 : decode cX7_runsTold 1 = .ok (.invokevirtual 234, 3) := by decide +kernel
theorem dX7_runsTold_4 : decode cX7_runsTold 4 = .ok (.aload_n 0, 1) := by decide +kernel
theorem dX7_runsTold_5 : decode cX7_runsTold 5 = .ok (.invokevirtual 237, 3) := by decide +kernel
theorem dX7_runsTold_8 : decode cX7_runsTold 8 = .ok (.return_, 1) := by decide +kernel
theorem dX7_many_0 : decode cX7_many 0 = .ok (.iconst 0, 1) := by decide +kernel
theorem dX7_many_1 : decode cX7_many 1 = .ok (.istore_n 1, 1) := by decide +kernel
theorem dX7_many_2 : decode cX7_many 2 = .ok (.iconst 0, 1) := by decide +kernel
theorem dX7_many_3 : decode cX7_many 3 = .ok (.istore_n 2, 1) := by decide +kernel
theorem dX7_many_4 : decode cX7_many 4 = .ok (.iload_n 2, 1) := by decide +kernel
theorem dX7_many_5 : decode cX7_many 5 = .ok (.bipush 12, 2) := by decide +kernel
theorem dX7_many_7 : decode cX7_many 7 = .ok (.if_icmp .ge 25, 3) := by decide +kernel
theorem dX7_many_10 : decode cX7_many 10 = .ok (.iload_n 1, 1) := by decide +kernel
theorem dX7_many_11 : decode cX7_many 11 = .ok (.iload_n 0, 1) := by decide +kernel
theorem dX7_many_12 : decode cX7_many 12 = .ok (.iload_n 2, 1) := by decide +kernel
theorem dX7_many_13 : decode cX7_many 13 = .ok (.invokestatic 196, 3) := by decide +kernel
theorem dX7_many_16 : decode cX7_many 16 = .ok (.ifCond .eq 7, 3) := by decide +kernel
theorem dX7_many_19 : decode cX7_many 19 = .ok (.iconst 1, 1) := by decide +kernel
theorem dX7_many_20 : decode cX7_many 20 = .ok (.goto 4, 3) := by decide +kernel
theorem dX7_many_23 : decode cX7_many 23 = .ok (.iconst 0, 1) := by decide +kernel
theorem dX7_many_24 : decode cX7_many 24 = .ok (.iadd, 1) := by decide +kernel
theorem dX7_many_25 : decode cX7_many 25 = .ok (.istore_n 1, 1) := by decide +kernel
theorem dX7_many_26 : decode cX7_many 26 = .ok (.iinc 2 1, 3) := by decide +kernel
theorem dX7_many_29 : decode cX7_many 29 = .ok (.goto (-25), 3) := by decide +kernel
theorem dX7_many_32 : decode cX7_many 32 = .ok (.iload_n 1, 1) := by decide +kernel
theorem dX7_many_33 : decode cX7_many 33 = .ok (.ireturn, 1) := by decide +kernel
theorem dX7_clashOf_0 : decode cX7_clashOf 0 = .ok (.aload_n 0, 1) := by decide +kernel
theorem dX7_clashOf_1 : decode cX7_clashOf 1 = .ok (.invokevirtual 234, 3) := by decide +kernel
theorem dX7_clashOf_4 : decode cX7_clashOf 4 = .ok (.aload_n 0, 1) := by decide +kernel
theorem dX7_clashOf_5 : decode cX7_clashOf 5 = .ok (.iload_n 1, 1) := by decide +kernel
theorem dX7_clashOf_6 : decode cX7_clashOf 6 = .ok (.iload_n 2, 1) := by decide +kernel
theorem dX7_clashOf_7 : decode cX7_clashOf 7 = .ok (.invokevirtual 200, 3) := by decide +kernel
theorem dX7_clashOf_10 : decode cX7_clashOf 10 = .ok (.ifCond .eq 7, 3) := by decide +kernel
theorem dX7_clashOf_13 : decode cX7_clashOf 13 = .ok (.iconst 1, 1) := by decide +kernel
theorem dX7_clashOf_14 : decode cX7_clashOf 14 = .ok (.goto 4, 3) := by decide +kernel
theorem dX7_clashOf_17 : decode cX7_clashOf 17 = .ok (.iconst 0, 1) := by decide +kernel
theorem dX7_clashOf_18 : decode cX7_clashOf 18 = .ok (.ireturn, 1) := by decide +kernel
theorem dX7_clash_0 : decode cX7_clash 0 = .ok (.aload_n 0, 1) := by decide +kernel
theorem dX7_clash_1 : decode cX7_clash 1 = .ok (.iload_n 1, 1) := by decide +kernel
theorem dX7_clash_2 : decode cX7_clash 2 = .ok (.invokevirtual 156, 3) := by decide +kernel
theorem dX7_clash_5 : decode cX7_clash 5 = .ok (.ifCond .eq 25, 3) := by decide +kernel
theorem dX7_clash_8 : decode cX7_clash 8 = .ok (.aload_n 0, 1) := by decide +kernel
theorem dX7_clash_9 : decode cX7_clash 9 = .ok (.iload_n 2, 1) := by decide +kernel
theorem dX7_clash_10 : decode cX7_clash 10 = .ok (.invokevirtual 156, 3) := by decide +kernel
theorem dX7_clash_13 : decode cX7_clash 13 = .ok (.ifCond .eq 17, 3) := by decide +kernel
theorem dX7_clash_16 : decode cX7_clash 16 = .ok (.iload_n 1, 1) := by decide +kernel
theorem dX7_clash_17 : decode cX7_clash 17 = .ok (.iload_n 2, 1) := by decide +kernel
theorem dX7_clash_18 : decode cX7_clash 18 = .ok (.if_icmp .eq 12, 3) := by decide +kernel
theorem dX7_clash_21 : decode cX7_clash 21 = .ok (.aload_n 0, 1) := by decide +kernel
theorem dX7_clash_22 : decode cX7_clash 22 = .ok (.iload_n 1, 1) := by decide +kernel
theorem dX7_clash_23 : decode cX7_clash 23 = .ok (.iload_n 2, 1) := by decide +kernel
theorem dX7_clash_24 : decode cX7_clash 24 = .ok (.invokevirtual 240, 3) := by decide +kernel
theorem dX7_clash_27 : decode cX7_clash 27 = .ok (.goto 5, 3) := by decide +kernel
theorem dX7_clash_30 : decode cX7_clash 30 = .ok (.bipush (-2), 2) := by decide +kernel
theorem dX7_clash_32 : decode cX7_clash 32 = .ok (.ireturn, 1) := by decide +kernel
theorem dX7_standsOf_0 : decode cX7_standsOf 0 = .ok (.aload_n 0, 1) := by decide +kernel
theorem dX7_standsOf_1 : decode cX7_standsOf 1 = .ok (.invokevirtual 243, 3) := by decide +kernel
theorem dX7_standsOf_4 : decode cX7_standsOf 4 = .ok (.iload_n 2, 1) := by decide +kernel
theorem dX7_standsOf_5 : decode cX7_standsOf 5 = .ok (.ifCond .ne 12, 3) := by decide +kernel
theorem dX7_standsOf_8 : decode cX7_standsOf 8 = .ok (.aload_n 0, 1) := by decide +kernel
theorem dX7_standsOf_9 : decode cX7_standsOf 9 = .ok (.getfield 55, 3) := by decide +kernel
theorem dX7_standsOf_12 : decode cX7_standsOf 12 = .ok (.iload_n 1, 1) := by decide +kernel
theorem dX7_standsOf_13 : decode cX7_standsOf 13 = .ok (.iaload, 1) := by decide +kernel
theorem dX7_standsOf_14 : decode cX7_standsOf 14 = .ok (.goto 23, 3) := by decide +kernel
theorem dX7_standsOf_17 : decode cX7_standsOf 17 = .ok (.iload_n 2, 1) := by decide +kernel
theorem dX7_standsOf_18 : decode cX7_standsOf 18 = .ok (.iconst 1, 1) := by decide +kernel
theorem dX7_standsOf_19 : decode cX7_standsOf 19 = .ok (.if_icmp .ne 12, 3) := by decide +kernel
theorem dX7_standsOf_22 : decode cX7_standsOf 22 = .ok (.aload_n 0, 1) := by decide +kernel
theorem dX7_standsOf_23 : decode cX7_standsOf 23 = .ok (.getfield 58, 3) := by decide +kernel
theorem dX7_standsOf_26 : decode cX7_standsOf 26 = .ok (.iload_n 1, 1) := by decide +kernel
theorem dX7_standsOf_27 : decode cX7_standsOf 27 = .ok (.iaload, 1) := by decide +kernel
theorem dX7_standsOf_28 : decode cX7_standsOf 28 = .ok (.goto 9, 3) := by decide +kernel
theorem dX7_standsOf_31 : decode cX7_standsOf 31 = .ok (.aload_n 0, 1) := by decide +kernel
theorem dX7_standsOf_32 : decode cX7_standsOf 32 = .ok (.getfield 61, 3) := by decide +kernel
theorem dX7_standsOf_35 : decode cX7_standsOf 35 = .ok (.iload_n 1, 1) := by decide +kernel
theorem dX7_standsOf_36 : decode cX7_standsOf 36 = .ok (.iaload, 1) := by decide +kernel
theorem dX7_standsOf_37 : decode cX7_standsOf 37 = .ok (.ireturn, 1) := by decide +kernel
theorem dX7_stands_0 : decode cX7_stands 0 = .ok (.aload_n 0, 1) := by decide +kernel
theorem dX7_stands_1 : decode cX7_stands 1 = .ok (.iload_n 1, 1) := by decide +kernel
theorem dX7_stands_2 : decode cX7_stands 2 = .ok (.invokevirtual 156, 3) := by decide +kernel
theorem dX7_stands_5 : decode cX7_stands 5 = .ok (.ifCond .eq 19, 3) := by decide +kernel
theorem dX7_stands_8 : decode cX7_stands 8 = .ok (.iload_n 2, 1) := by decide +kernel
theorem dX7_stands_9 : decode cX7_stands 9 = .ok (.invokestatic 168, 3) := by decide +kernel
theorem dX7_stands_12 : decode cX7_stands 12 = .ok (.ifCond .eq 12, 3) := by decide +kernel
theorem dX7_stands_15 : decode cX7_stands 15 = .ok (.aload_n 0, 1) := by decide +kernel
theorem dX7_stands_16 : decode cX7_stands 16 = .ok (.iload_n 1, 1) := by decide +kernel
theorem dX7_stands_17 : decode cX7_stands 17 = .ok (.iload_n 2, 1) := by decide +kernel
theorem dX7_stands_18 : decode cX7_stands 18 = .ok (.invokevirtual 246, 3) := by decide +kernel
theorem dX7_stands_21 : decode cX7_stands 21 = .ok (.goto 5, 3) := by decide +kernel
theorem dX7_stands_24 : decode cX7_stands 24 = .ok (.bipush (-2), 2) := by decide +kernel
theorem dX7_stands_26 : decode cX7_stands 26 = .ok (.ireturn, 1) := by decide +kernel
theorem dX7_manOf_0 : decode cX7_manOf 0 = .ok (.aload_n 0, 1) := by decide +kernel
theorem dX7_manOf_1 : decode cX7_manOf 1 = .ok (.invokevirtual 243, 3) := by decide +kernel
theorem dX7_manOf_4 : decode cX7_manOf 4 = .ok (.iload_n 3, 1) := by decide +kernel
theorem dX7_manOf_5 : decode cX7_manOf 5 = .ok (.ifCond .ne 17, 3) := by decide +kernel
theorem dX7_manOf_8 : decode cX7_manOf 8 = .ok (.aload_n 0, 1) := by decide +kernel
theorem dX7_manOf_9 : decode cX7_manOf 9 = .ok (.getfield 67, 3) := by decide +kernel
theorem dX7_manOf_12 : decode cX7_manOf 12 = .ok (.bipush 24, 2) := by decide +kernel
theorem dX7_manOf_14 : decode cX7_manOf 14 = .ok (.iload_n 2, 1) := by decide +kernel
theorem dX7_manOf_15 : decode cX7_manOf 15 = .ok (.imul, 1) := by decide +kernel
theorem dX7_manOf_16 : decode cX7_manOf 16 = .ok (.iload_n 1, 1) := by decide +kernel
theorem dX7_manOf_17 : decode cX7_manOf 17 = .ok (.iadd, 1) := by decide +kernel
theorem dX7_manOf_18 : decode cX7_manOf 18 = .ok (.iaload, 1) := by decide +kernel
theorem dX7_manOf_19 : decode cX7_manOf 19 = .ok (.goto 14, 3) := by decide +kernel
theorem dX7_manOf_22 : decode cX7_manOf 22 = .ok (.aload_n 0, 1) := by decide +kernel
theorem dX7_manOf_23 : decode cX7_manOf 23 = .ok (.getfield 70, 3) := by decide +kernel
theorem dX7_manOf_26 : decode cX7_manOf 26 = .ok (.bipush 24, 2) := by decide +kernel
theorem dX7_manOf_28 : decode cX7_manOf 28 = .ok (.iload_n 2, 1) := by decide +kernel
theorem dX7_manOf_29 : decode cX7_manOf 29 = .ok (.imul, 1) := by decide +kernel
theorem dX7_manOf_30 : decode cX7_manOf 30 = .ok (.iload_n 1, 1) := by decide +kernel
theorem dX7_manOf_31 : decode cX7_manOf 31 = .ok (.iadd, 1) := by decide +kernel
theorem dX7_manOf_32 : decode cX7_manOf 32 = .ok (.iaload, 1) := by decide +kernel
theorem dX7_manOf_33 : decode cX7_manOf 33 = .ok (.ireturn, 1) := by decide +kernel
theorem dX7_man_0 : decode cX7_man 0 = .ok (.iload_n 1, 1) := by decide +kernel
theorem dX7_man_1 : decode cX7_man 1 = .ok (.invokestatic 129, 3) := by decide +kernel
theorem dX7_man_4 : decode cX7_man 4 = .ok (.ifCond .eq 27, 3) := by decide +kernel
theorem dX7_man_7 : decode cX7_man 7 = .ok (.iload_n 2, 1) := by decide +kernel
theorem dX7_man_8 : decode cX7_man 8 = .ok (.invokestatic 132, 3) := by decide +kernel
theorem dX7_man_11 : decode cX7_man 11 = .ok (.ifCond .eq 20, 3) := by decide +kernel
theorem dX7_man_14 : decode cX7_man 14 = .ok (.iload_n 3, 1) := by decide +kernel
theorem dX7_man_15 : decode cX7_man 15 = .ok (.invokestatic 117, 3) := by decide +kernel
theorem dX7_man_18 : decode cX7_man 18 = .ok (.ifCond .eq 13, 3) := by decide +kernel
theorem dX7_man_21 : decode cX7_man 21 = .ok (.aload_n 0, 1) := by decide +kernel
theorem dX7_man_22 : decode cX7_man 22 = .ok (.iload_n 1, 1) := by decide +kernel
theorem dX7_man_23 : decode cX7_man 23 = .ok (.iload_n 2, 1) := by decide +kernel
theorem dX7_man_24 : decode cX7_man 24 = .ok (.iload_n 3, 1) := by decide +kernel
theorem dX7_man_25 : decode cX7_man 25 = .ok (.invokevirtual 249, 3) := by decide +kernel
theorem dX7_man_28 : decode cX7_man 28 = .ok (.goto 5, 3) := by decide +kernel
theorem dX7_man_31 : decode cX7_man 31 = .ok (.bipush (-2), 2) := by decide +kernel
theorem dX7_man_33 : decode cX7_man 33 = .ok (.ireturn, 1) := by decide +kernel
theorem dX7_beliefOf_0 : decode cX7_beliefOf 0 = .ok (.aload_n 0, 1) := by decide +kernel
theorem dX7_beliefOf_1 : decode cX7_beliefOf 1 = .ok (.invokevirtual 243, 3) := by decide +kernel
theorem dX7_beliefOf_4 : decode cX7_beliefOf 4 = .ok (.aload_n 0, 1) := by decide +kernel
theorem dX7_beliefOf_5 : decode cX7_beliefOf 5 = .ok (.iload_n 1, 1) := by decide +kernel
theorem dX7_beliefOf_6 : decode cX7_beliefOf 6 = .ok (.invokevirtual 231, 3) := by decide +kernel
theorem dX7_beliefOf_9 : decode cX7_beliefOf 9 = .ok (.ireturn, 1) := by decide +kernel
theorem dX7_belief_0 : decode cX7_belief 0 = .ok (.aload_n 0, 1) := by decide +kernel
theorem dX7_belief_1 : decode cX7_belief 1 = .ok (.iload_n 1, 1) := by decide +kernel
theorem dX7_belief_2 : decode cX7_belief 2 = .ok (.invokevirtual 162, 3) := by decide +kernel
theorem dX7_belief_5 : decode cX7_belief 5 = .ok (.ifCond .eq 11, 3) := by decide +kernel
theorem dX7_belief_8 : decode cX7_belief 8 = .ok (.aload_n 0, 1) := by decide +kernel
theorem dX7_belief_9 : decode cX7_belief 9 = .ok (.iload_n 1, 1) := by decide +kernel
theorem dX7_belief_10 : decode cX7_belief 10 = .ok (.invokevirtual 252, 3) := by decide +kernel
theorem dX7_belief_13 : decode cX7_belief 13 = .ok (.goto 5, 3) := by decide +kernel
theorem dX7_belief_16 : decode cX7_belief 16 = .ok (.ldc 255, 2) := by decide +kernel
theorem dX7_belief_18 : decode cX7_belief 18 = .ok (.ireturn, 1) := by decide +kernel
theorem dX7_clearedOf_0 : decode cX7_clearedOf 0 = .ok (.aload_n 0, 1) := by decide +kernel
theorem dX7_clearedOf_1 : decode cX7_clearedOf 1 = .ok (.invokevirtual 243, 3) := by decide +kernel
theorem dX7_clearedOf_4 : decode cX7_clearedOf 4 = .ok (.iload_n 2, 1) := by decide +kernel
theorem dX7_clearedOf_5 : decode cX7_clearedOf 5 = .ok (.ifCond .ne 14, 3) := by decide +kernel
theorem dX7_clearedOf_8 : decode cX7_clearedOf 8 = .ok (.aload_n 0, 1) := by decide +kernel
theorem dX7_clearedOf_9 : decode cX7_clearedOf 9 = .ok (.getfield 228, 3) := by decide +kernel
theorem dX7_clearedOf_12 : decode cX7_clearedOf 12 = .ok (.iload_n 1, 1) := by decide +kernel
theorem dX7_clearedOf_13 : decode cX7_clearedOf 13 = .ok (.ishr, 1) := by decide +kernel
theorem dX7_clearedOf_14 : decode cX7_clearedOf 14 = .ok (.iconst 1, 1) := by decide +kernel
theorem dX7_clearedOf_15 : decode cX7_clearedOf 15 = .ok (.iand, 1) := by decide +kernel
theorem dX7_clearedOf_16 : decode cX7_clearedOf 16 = .ok (.goto 8, 3) := by decide +kernel
theorem dX7_clearedOf_19 : decode cX7_clearedOf 19 = .ok (.aload_n 0, 1) := by decide +kernel
theorem dX7_clearedOf_20 : decode cX7_clearedOf 20 = .ok (.iload_n 1, 1) := by decide +kernel
theorem dX7_clearedOf_21 : decode cX7_clearedOf 21 = .ok (.invokevirtual 215, 3) := by decide +kernel
theorem dX7_clearedOf_24 : decode cX7_clearedOf 24 = .ok (.ireturn, 1) := by decide +kernel
theorem dX7_cleared_0 : decode cX7_cleared 0 = .ok (.aload_n 0, 1) := by decide +kernel
theorem dX7_cleared_1 : decode cX7_cleared 1 = .ok (.iload_n 1, 1) := by decide +kernel
theorem dX7_cleared_2 : decode cX7_cleared 2 = .ok (.invokevirtual 162, 3) := by decide +kernel
theorem dX7_cleared_5 : decode cX7_cleared 5 = .ok (.ifCond .eq 19, 3) := by decide +kernel
theorem dX7_cleared_8 : decode cX7_cleared 8 = .ok (.iload_n 2, 1) := by decide +kernel
theorem dX7_cleared_9 : decode cX7_cleared 9 = .ok (.invokestatic 117, 3) := by decide +kernel
theorem dX7_cleared_12 : decode cX7_cleared 12 = .ok (.ifCond .eq 12, 3) := by decide +kernel
theorem dX7_cleared_15 : decode cX7_cleared 15 = .ok (.aload_n 0, 1) := by decide +kernel
theorem dX7_cleared_16 : decode cX7_cleared 16 = .ok (.iload_n 1, 1) := by decide +kernel
theorem dX7_cleared_17 : decode cX7_cleared 17 = .ok (.iload_n 2, 1) := by decide +kernel
theorem dX7_cleared_18 : decode cX7_cleared 18 = .ok (.invokevirtual 256, 3) := by decide +kernel
theorem dX7_cleared_21 : decode cX7_cleared 21 = .ok (.goto 5, 3) := by decide +kernel
theorem dX7_cleared_24 : decode cX7_cleared 24 = .ok (.bipush (-2), 2) := by decide +kernel
theorem dX7_cleared_26 : decode cX7_cleared 26 = .ok (.ireturn, 1) := by decide +kernel
theorem dX7_countMany_0 : decode cX7_countMany 0 = .ok (.iconst 0, 1) := by decide +kernel
theorem dX7_countMany_1 : decode cX7_countMany 1 = .ok (.istore_n 1, 1) := by decide +kernel
theorem dX7_countMany_2 : decode cX7_countMany 2 = .ok (.iconst 0, 1) := by decide +kernel
theorem dX7_countMany_3 : decode cX7_countMany 3 = .ok (.istore_n 2, 1) := by decide +kernel
theorem dX7_countMany_4 : decode cX7_countMany 4 = .ok (.iload_n 2, 1) := by decide +kernel
theorem dX7_countMany_5 : decode cX7_countMany 5 = .ok (.aload_n 0, 1) := by decide +kernel
theorem dX7_countMany_6 : decode cX7_countMany 6 = .ok (.getfield 184, 3) := by decide +kernel
theorem dX7_countMany_9 : decode cX7_countMany 9 = .ok (.if_icmp .ge 18, 3) := by decide +kernel
theorem dX7_countMany_12 : decode cX7_countMany 12 = .ok (.iload_n 1, 1) := by decide +kernel
theorem dX7_countMany_13 : decode cX7_countMany 13 = .ok (.aload_n 0, 1) := by decide +kernel
theorem dX7_countMany_14 : decode cX7_countMany 14 = .ok (.getfield 55, 3) := by decide +kernel
theorem dX7_countMany_17 : decode cX7_countMany 17 = .ok (.iload_n 2, 1) := by decide +kernel
theorem dX7_countMany_18 : decode cX7_countMany 18 = .ok (.iaload, 1) := by decide +kernel
theorem dX7_countMany_19 : decode cX7_countMany 19 = .ok (.iadd, 1) := by decide +kernel
theorem dX7_countMany_20 : decode cX7_countMany 20 = .ok (.istore_n 1, 1) := by decide +kernel
theorem dX7_countMany_21 : decode cX7_countMany 21 = .ok (.iinc 2 1, 3) := by decide +kernel
theorem dX7_countMany_24 : decode cX7_countMany 24 = .ok (.goto (-20), 3) := by decide +kernel
theorem dX7_countMany_27 : decode cX7_countMany 27 = .ok (.iload_n 1, 1) := by decide +kernel
theorem dX7_countMany_28 : decode cX7_countMany 28 = .ok (.ireturn, 1) := by decide +kernel
theorem dX7_menOf_0 : decode cX7_menOf 0 = .ok (.iconst 0, 1) := by decide +kernel
theorem dX7_menOf_1 : decode cX7_menOf 1 = .ok (.istore_n 2, 1) := by decide +kernel
theorem dX7_menOf_2 : decode cX7_menOf 2 = .ok (.iconst 0, 1) := by decide +kernel
theorem dX7_menOf_3 : decode cX7_menOf 3 = .ok (.istore_n 3, 1) := by decide +kernel
theorem dX7_menOf_4 : decode cX7_menOf 4 = .ok (.iload_n 3, 1) := by decide +kernel
theorem dX7_menOf_5 : decode cX7_menOf 5 = .ok (.bipush 8, 2) := by decide +kernel
theorem dX7_menOf_7 : decode cX7_menOf 7 = .ok (.if_icmp .ge 33, 3) := by decide +kernel
theorem dX7_menOf_10 : decode cX7_menOf 10 = .ok (.iload_n 2, 1) := by decide +kernel
theorem dX7_menOf_11 : decode cX7_menOf 11 = .ok (.aload_n 0, 1) := by decide +kernel
theorem dX7_menOf_12 : decode cX7_menOf 12 = .ok (.getfield 70, 3) := by decide +kernel
theorem dX7_menOf_15 : decode cX7_menOf 15 = .ok (.bipush 24, 2) := by decide +kernel
theorem dX7_menOf_17 : decode cX7_menOf 17 = .ok (.iload_n 3, 1) := by decide +kernel
theorem dX7_menOf_18 : decode cX7_menOf 18 = .ok (.imul, 1) := by decide +kernel
theorem dX7_menOf_19 : decode cX7_menOf 19 = .ok (.bipush 23, 2) := by decide +kernel
theorem dX7_menOf_21 : decode cX7_menOf 21 = .ok (.iadd, 1) := by decide +kernel
theorem dX7_menOf_22 : decode cX7_menOf 22 = .ok (.iaload, 1) := by decide +kernel
theorem dX7_menOf_23 : decode cX7_menOf 23 = .ok (.iload_n 1, 1) := by decide +kernel
theorem dX7_menOf_24 : decode cX7_menOf 24 = .ok (.if_icmp .lt 7, 3) := by decide +kernel
theorem dX7_menOf_27 : decode cX7_menOf 27 = .ok (.iconst 1, 1) := by decide +kernel
theorem dX7_menOf_28 : decode cX7_menOf 28 = .ok (.goto 4, 3) := by decide +kernel
theorem dX7_menOf_31 : decode cX7_menOf 31 = .ok (.iconst 0, 1) := by decide +kernel
theorem dX7_menOf_32 : decode cX7_menOf 32 = .ok (.iadd, 1) := by decide +kernel
theorem dX7_menOf_33 : decode cX7_menOf 33 = .ok (.istore_n 2, 1) := by decide +kernel
theorem dX7_menOf_34 : decode cX7_menOf 34 = .ok (.iinc 3 1, 3) := by decide +kernel
theorem dX7_menOf_37 : decode cX7_menOf 37 = .ok (.goto (-33), 3) := by decide +kernel
theorem dX7_menOf_40 : decode cX7_menOf 40 = .ok (.iload_n 2, 1) := by decide +kernel
theorem dX7_menOf_41 : decode cX7_menOf 41 = .ok (.ireturn, 1) := by decide +kernel
theorem dX7_sumOf_0 : decode cX7_sumOf 0 = .ok (.aload_n 0, 1) := by decide +kernel
theorem dX7_sumOf_1 : decode cX7_sumOf 1 = .ok (.invokevirtual 243, 3) := by decide +kernel
theorem dX7_sumOf_4 : decode cX7_sumOf 4 = .ok (.iload_n 1, 1) := by decide +kernel
theorem dX7_sumOf_5 : decode cX7_sumOf 5 = .ok (.ifCond .ne 13, 3) := by decide +kernel
theorem dX7_sumOf_8 : decode cX7_sumOf 8 = .ok (.aload_n 0, 1) := by decide +kernel
theorem dX7_sumOf_9 : decode cX7_sumOf 9 = .ok (.getfield 228, 3) := by decide +kernel
theorem dX7_sumOf_12 : decode cX7_sumOf 12 = .ok (.invokestatic 259, 3) := by decide +kernel
theorem dX7_sumOf_15 : decode cX7_sumOf 15 = .ok (.goto 33, 3) := by decide +kernel
theorem dX7_sumOf_18 : decode cX7_sumOf 18 = .ok (.iload_n 1, 1) := by decide +kernel
theorem dX7_sumOf_19 : decode cX7_sumOf 19 = .ok (.iconst 1, 1) := by decide +kernel
theorem dX7_sumOf_20 : decode cX7_sumOf 20 = .ok (.if_icmp .ne 10, 3) := by decide +kernel
theorem dX7_sumOf_23 : decode cX7_sumOf 23 = .ok (.aload_n 0, 1) := by decide +kernel
theorem dX7_sumOf_24 : decode cX7_sumOf 24 = .ok (.invokevirtual 262, 3) := by decide +kernel
theorem dX7_sumOf_27 : decode cX7_sumOf 27 = .ok (.goto 21, 3) := by decide +kernel
theorem dX7_sumOf_30 : decode cX7_sumOf 30 = .ok (.iload_n 1, 1) := by decide +kernel
theorem dX7_sumOf_31 : decode cX7_sumOf 31 = .ok (.iconst 2, 1) := by decide +kernel
theorem dX7_sumOf_32 : decode cX7_sumOf 32 = .ok (.if_icmp .ne 11, 3) := by decide +kernel
theorem dX7_sumOf_35 : decode cX7_sumOf 35 = .ok (.aload_n 0, 1) := by decide +kernel
theorem dX7_sumOf_36 : decode cX7_sumOf 36 = .ok (.iconst 1, 1) := by decide +kernel
theorem dX7_sumOf_37 : decode cX7_sumOf 37 = .ok (.invokevirtual 266, 3) := by decide +kernel
theorem dX7_sumOf_40 : decode cX7_sumOf 40 = .ok (.goto 8, 3) := by decide +kernel
theorem dX7_sumOf_43 : decode cX7_sumOf 43 = .ok (.aload_n 0, 1) := by decide +kernel
theorem dX7_sumOf_44 : decode cX7_sumOf 44 = .ok (.iconst 3, 1) := by decide +kernel
theorem dX7_sumOf_45 : decode cX7_sumOf 45 = .ok (.invokevirtual 266, 3) := by decide +kernel
theorem dX7_sumOf_48 : decode cX7_sumOf 48 = .ok (.ireturn, 1) := by decide +kernel
theorem dX7_sum_0 : decode cX7_sum 0 = .ok (.iload_n 1, 1) := by decide +kernel
theorem dX7_sum_1 : decode cX7_sum 1 = .ok (.iconst 0, 1) := by decide +kernel
theorem dX7_sum_2 : decode cX7_sum 2 = .ok (.iconst 3, 1) := by decide +kernel
theorem dX7_sum_3 : decode cX7_sum 3 = .ok (.invokestatic 113, 3) := by decide +kernel
theorem dX7_sum_6 : decode cX7_sum 6 = .ok (.ifCond .eq 11, 3) := by decide +kernel
theorem dX7_sum_9 : decode cX7_sum 9 = .ok (.aload_n 0, 1) := by decide +kernel
theorem dX7_sum_10 : decode cX7_sum 10 = .ok (.iload_n 1, 1) := by decide +kernel
theorem dX7_sum_11 : decode cX7_sum 11 = .ok (.invokevirtual 269, 3) := by decide +kernel
theorem dX7_sum_14 : decode cX7_sum 14 = .ok (.goto 5, 3) := by decide +kernel
theorem dX7_sum_17 : decode cX7_sum 17 = .ok (.bipush (-2), 2) := by decide +kernel
theorem dX7_sum_19 : decode cX7_sum 19 = .ok (.ireturn, 1) := by decide +kernel
theorem dX7_liarOf_0 : decode cX7_liarOf 0 = .ok (.aload_n 0, 1) := by decide +kernel
theorem dX7_liarOf_1 : decode cX7_liarOf 1 = .ok (.invokevirtual 243, 3) := by decide +kernel
theorem dX7_liarOf_4 : decode cX7_liarOf 4 = .ok (.iconst (-1), 1) := by decide +kernel
theorem dX7_liarOf_5 : decode cX7_liarOf 5 = .ok (.istore_n 1, 1) := by decide +kernel
theorem dX7_liarOf_6 : decode cX7_liarOf 6 = .ok (.iconst 0, 1) := by decide +kernel
theorem dX7_liarOf_7 : decode cX7_liarOf 7 = .ok (.istore_n 2, 1) := by decide +kernel
theorem dX7_liarOf_8 : decode cX7_liarOf 8 = .ok (.iconst 0, 1) := by decide +kernel
theorem dX7_liarOf_9 : decode cX7_liarOf 9 = .ok (.istore_n 3, 1) := by decide +kernel
theorem dX7_liarOf_10 : decode cX7_liarOf 10 = .ok (.iload_n 3, 1) := by decide +kernel
theorem dX7_liarOf_11 : decode cX7_liarOf 11 = .ok (.bipush 10, 2) := by decide +kernel
theorem dX7_liarOf_13 : decode cX7_liarOf 13 = .ok (.if_icmp .ge 86, 3) := by decide +kernel
theorem dX7_liarOf_16 : decode cX7_liarOf 16 = .ok (.iconst 0, 1) := by decide +kernel
theorem dX7_liarOf_17 : decode cX7_liarOf 17 = .ok (.istore 4, 2) := by decide +kernel
theorem dX7_liarOf_19 : decode cX7_liarOf 19 = .ok (.iconst 0, 1) := by decide +kernel
theorem dX7_liarOf_20 : decode cX7_liarOf 20 = .ok (.istore 5, 2) := by decide +kernel
theorem dX7_liarOf_22 : decode cX7_liarOf 22 = .ok (.iload 5, 2) := by decide +kernel
theorem dX7_liarOf_24 : decode cX7_liarOf 24 = .ok (.aload_n 0, 1) := by decide +kernel
theorem dX7_liarOf_25 : decode cX7_liarOf 25 = .ok (.getfield 135, 3) := by decide +kernel
theorem dX7_liarOf_28 : decode cX7_liarOf 28 = .ok (.if_icmp .ge 40, 3) := by decide +kernel
theorem dX7_liarOf_31 : decode cX7_liarOf 31 = .ok (.iload 4, 2) := by decide +kernel
theorem dX7_liarOf_33 : decode cX7_liarOf 33 = .ok (.aload_n 0, 1) := by decide +kernel
theorem dX7_liarOf_34 : decode cX7_liarOf 34 = .ok (.getfield 22, 3) := by decide +kernel
theorem dX7_liarOf_37 : decode cX7_liarOf 37 = .ok (.iload 5, 2) := by decide +kernel
theorem dX7_liarOf_39 : decode cX7_liarOf 39 = .ok (.iaload, 1) := by decide +kernel
theorem dX7_liarOf_40 : decode cX7_liarOf 40 = .ok (.iload_n 3, 1) := by decide +kernel
theorem dX7_liarOf_41 : decode cX7_liarOf 41 = .ok (.if_icmp .ne 17, 3) := by decide +kernel
theorem dX7_liarOf_44 : decode cX7_liarOf 44 = .ok (.aload_n 0, 1) := by decide +kernel
theorem dX7_liarOf_45 : decode cX7_liarOf 45 = .ok (.getfield 55, 3) := by decide +kernel
theorem dX7_liarOf_48 : decode cX7_liarOf 48 = .ok (.iload 5, 2) := by decide +kernel
theorem dX7_liarOf_50 : decode cX7_liarOf 50 = .ok (.iaload, 1) := by decide +kernel
theorem dX7_liarOf_51 : decode cX7_liarOf 51 = .ok (.ifCond .ne 7, 3) := by decide +kernel
theorem dX7_liarOf_54 : decode cX7_liarOf 54 = .ok (.iconst 1, 1) := by decide +kernel
theorem dX7_liarOf_55 : decode cX7_liarOf 55 = .ok (.goto 4, 3) := by decide +kernel
theorem dX7_liarOf_58 : decode cX7_liarOf 58 = .ok (.iconst 0, 1) := by decide +kernel
theorem dX7_liarOf_59 : decode cX7_liarOf 59 = .ok (.iadd, 1) := by decide +kernel
theorem dX7_liarOf_60 : decode cX7_liarOf 60 = .ok (.istore 4, 2) := by decide +kernel
theorem dX7_liarOf_62 : decode cX7_liarOf 62 = .ok (.iinc 5 1, 3) := by decide +kernel
theorem dX7_liarOf_65 : decode cX7_liarOf 65 = .ok (.goto (-43), 3) := by decide +kernel
theorem dX7_liarOf_68 : decode cX7_liarOf 68 = .ok (.iload 4, 2) := by decide +kernel
theorem dX7_liarOf_70 : decode cX7_liarOf 70 = .ok (.iload_n 2, 1) := by decide +kernel
theorem dX7_liarOf_71 : decode cX7_liarOf 71 = .ok (.if_icmp .le 7, 3) := by decide +kernel
theorem dX7_liarOf_74 : decode cX7_liarOf 74 = .ok (.iload_n 3, 1) := by decide +kernel
theorem dX7_liarOf_75 : decode cX7_liarOf 75 = .ok (.goto 4, 3) := by decide +kernel
theorem dX7_liarOf_78 : decode cX7_liarOf 78 = .ok (.iload_n 1, 1) := by decide +kernel
theorem dX7_liarOf_79 : decode cX7_liarOf 79 = .ok (.istore_n 1, 1) := by decide +kernel
theorem dX7_liarOf_80 : decode cX7_liarOf 80 = .ok (.iload 4, 2) := by decide +kernel
theorem dX7_liarOf_82 : decode cX7_liarOf 82 = .ok (.iload_n 2, 1) := by decide +kernel
theorem dX7_liarOf_83 : decode cX7_liarOf 83 = .ok (.if_icmp .le 8, 3) := by decide +kernel
theorem dX7_liarOf_86 : decode cX7_liarOf 86 = .ok (.iload 4, 2) := by decide +kernel
theorem dX7_liarOf_88 : decode cX7_liarOf 88 = .ok (.goto 4, 3) := by decide +kernel
theorem dX7_liarOf_91 : decode cX7_liarOf 91 = .ok (.iload_n 2, 1) := by decide +kernel
theorem dX7_liarOf_92 : decode cX7_liarOf 92 = .ok (.istore_n 2, 1) := by decide +kernel
theorem dX7_liarOf_93 : decode cX7_liarOf 93 = .ok (.iinc 3 1, 3) := by decide +kernel
theorem dX7_liarOf_96 : decode cX7_liarOf 96 = .ok (.goto (-86), 3) := by decide +kernel
theorem dX7_liarOf_99 : decode cX7_liarOf 99 = .ok (.iload_n 1, 1) := by decide +kernel
theorem dX7_liarOf_100 : decode cX7_liarOf 100 = .ok (.ireturn, 1) := by decide +kernel
theorem dX7_liar_0 : decode cX7_liar 0 = .ok (.aload_n 0, 1) := by decide +kernel
theorem dX7_liar_1 : decode cX7_liar 1 = .ok (.invokevirtual 272, 3) := by decide +kernel
theorem dX7_liar_4 : decode cX7_liar 4 = .ok (.ireturn, 1) := by decide +kernel
theorem dX7_bestOf_0 : decode cX7_bestOf 0 = .ok (.aload_n 0, 1) := by decide +kernel
theorem dX7_bestOf_1 : decode cX7_bestOf 1 = .ok (.invokevirtual 243, 3) := by decide +kernel
theorem dX7_bestOf_4 : decode cX7_bestOf 4 = .ok (.iconst (-1), 1) := by decide +kernel
theorem dX7_bestOf_5 : decode cX7_bestOf 5 = .ok (.istore_n 1, 1) := by decide +kernel
theorem dX7_bestOf_6 : decode cX7_bestOf 6 = .ok (.iconst (-1), 1) := by decide +kernel
theorem dX7_bestOf_7 : decode cX7_bestOf 7 = .ok (.istore_n 2, 1) := by decide +kernel
theorem dX7_bestOf_8 : decode cX7_bestOf 8 = .ok (.iconst 0, 1) := by decide +kernel
theorem dX7_bestOf_9 : decode cX7_bestOf 9 = .ok (.istore_n 3, 1) := by decide +kernel
theorem dX7_bestOf_10 : decode cX7_bestOf 10 = .ok (.iload_n 3, 1) := by decide +kernel
theorem dX7_bestOf_11 : decode cX7_bestOf 11 = .ok (.bipush 8, 2) := by decide +kernel
theorem dX7_bestOf_13 : decode cX7_bestOf 13 = .ok (.if_icmp .ge 74, 3) := by decide +kernel
theorem dX7_bestOf_16 : decode cX7_bestOf 16 = .ok (.bipush 24, 2) := by decide +kernel
theorem dX7_bestOf_18 : decode cX7_bestOf 18 = .ok (.iload_n 3, 1) := by decide +kernel
theorem dX7_bestOf_19 : decode cX7_bestOf 19 = .ok (.imul, 1) := by decide +kernel
theorem dX7_bestOf_20 : decode cX7_bestOf 20 = .ok (.bipush 23, 2) := by decide +kernel
theorem dX7_bestOf_22 : decode cX7_bestOf 22 = .ok (.iadd, 1) := by decide +kernel
theorem dX7_bestOf_23 : decode cX7_bestOf 23 = .ok (.istore 4, 2) := by decide +kernel
theorem dX7_bestOf_25 : decode cX7_bestOf 25 = .ok (.aload_n 0, 1) := by decide +kernel
theorem dX7_bestOf_26 : decode cX7_bestOf 26 = .ok (.getfield 70, 3) := by decide +kernel
theorem dX7_bestOf_29 : decode cX7_bestOf 29 = .ok (.iload 4, 2) := by decide +kernel
theorem dX7_bestOf_31 : decode cX7_bestOf 31 = .ok (.iaload, 1) := by decide +kernel
theorem dX7_bestOf_32 : decode cX7_bestOf 32 = .ok (.ifCond .le 18, 3) := by decide +kernel
theorem dX7_bestOf_35 : decode cX7_bestOf 35 = .ok (.aload_n 0, 1) := by decide +kernel
theorem dX7_bestOf_36 : decode cX7_bestOf 36 = .ok (.getfield 67, 3) := by decide +kernel
theorem dX7_bestOf_39 : decode cX7_bestOf 39 = .ok (.iload 4, 2) := by decide +kernel
theorem dX7_bestOf_41 : decode cX7_bestOf 41 = .ok (.iaload, 1) := by decide +kernel
theorem dX7_bestOf_42 : decode cX7_bestOf 42 = .ok (.iload_n 2, 1) := by decide +kernel
theorem dX7_bestOf_43 : decode cX7_bestOf 43 = .ok (.if_icmp .le 7, 3) := by decide +kernel
theorem dX7_bestOf_46 : decode cX7_bestOf 46 = .ok (.iconst 1, 1) := by decide +kernel
theorem dX7_bestOf_47 : decode cX7_bestOf 47 = .ok (.goto 4, 3) := by decide +kernel
theorem dX7_bestOf_50 : decode cX7_bestOf 50 = .ok (.iconst 0, 1) := by decide +kernel
theorem dX7_bestOf_51 : decode cX7_bestOf 51 = .ok (.istore 5, 2) := by decide +kernel
theorem dX7_bestOf_53 : decode cX7_bestOf 53 = .ok (.iload 5, 2) := by decide +kernel
theorem dX7_bestOf_55 : decode cX7_bestOf 55 = .ok (.ifCond .eq 7, 3) := by decide +kernel
theorem dX7_bestOf_58 : decode cX7_bestOf 58 = .ok (.iload_n 3, 1) := by decide +kernel
theorem dX7_bestOf_59 : decode cX7_bestOf 59 = .ok (.goto 4, 3) := by decide +kernel
theorem dX7_bestOf_62 : decode cX7_bestOf 62 = .ok (.iload_n 1, 1) := by decide +kernel
theorem dX7_bestOf_63 : decode cX7_bestOf 63 = .ok (.istore_n 1, 1) := by decide +kernel
theorem dX7_bestOf_64 : decode cX7_bestOf 64 = .ok (.iload 5, 2) := by decide +kernel
theorem dX7_bestOf_66 : decode cX7_bestOf 66 = .ok (.ifCond .eq 13, 3) := by decide +kernel
theorem dX7_bestOf_69 : decode cX7_bestOf 69 = .ok (.aload_n 0, 1) := by decide +kernel
theorem dX7_bestOf_70 : decode cX7_bestOf 70 = .ok (.getfield 67, 3) := by decide +kernel
theorem dX7_bestOf_73 : decode cX7_bestOf 73 = .ok (.iload 4, 2) := by decide +kernel
theorem dX7_bestOf_75 : decode cX7_bestOf 75 = .ok (.iaload, 1) := by decide +kernel
theorem dX7_bestOf_76 : decode cX7_bestOf 76 = .ok (.goto 4, 3) := by decide +kernel
theorem dX7_bestOf_79 : decode cX7_bestOf 79 = .ok (.iload_n 2, 1) := by decide +kernel
theorem dX7_bestOf_80 : decode cX7_bestOf 80 = .ok (.istore_n 2, 1) := by decide +kernel
theorem dX7_bestOf_81 : decode cX7_bestOf 81 = .ok (.iinc 3 1, 3) := by decide +kernel
theorem dX7_bestOf_84 : decode cX7_bestOf 84 = .ok (.goto (-74), 3) := by decide +kernel
theorem dX7_bestOf_87 : decode cX7_bestOf 87 = .ok (.iload_n 1, 1) := by decide +kernel
theorem dX7_bestOf_88 : decode cX7_bestOf 88 = .ok (.ireturn, 1) := by decide +kernel
theorem dX7_best_0 : decode cX7_best 0 = .ok (.aload_n 0, 1) := by decide +kernel
theorem dX7_best_1 : decode cX7_best 1 = .ok (.invokevirtual 275, 3) := by decide +kernel
theorem dX7_best_4 : decode cX7_best 4 = .ok (.ireturn, 1) := by decide +kernel
theorem dX7_spread_0 : decode cX7_spread 0 = .ok (.iload_n 0, 1) := by decide +kernel
theorem dX7_spread_1 : decode cX7_spread 1 = .ok (.iload_n 0, 1) := by decide +kernel
theorem dX7_spread_2 : decode cX7_spread 2 = .ok (.iconst 1, 1) := by decide +kernel
theorem dX7_spread_3 : decode cX7_spread 3 = .ok (.ishl, 1) := by decide +kernel
theorem dX7_spread_4 : decode cX7_spread 4 = .ok (.ior, 1) := by decide +kernel
theorem dX7_spread_5 : decode cX7_spread 5 = .ok (.iload_n 0, 1) := by decide +kernel
theorem dX7_spread_6 : decode cX7_spread 6 = .ok (.iconst 1, 1) := by decide +kernel
theorem dX7_spread_7 : decode cX7_spread 7 = .ok (.ishr, 1) := by decide +kernel
theorem dX7_spread_8 : decode cX7_spread 8 = .ok (.ior, 1) := by decide +kernel
theorem dX7_spread_9 : decode cX7_spread 9 = .ok (.sipush 255, 3) := by decide +kernel
theorem dX7_spread_12 : decode cX7_spread 12 = .ok (.iand, 1) := by decide +kernel
theorem dX7_spread_13 : decode cX7_spread 13 = .ok (.ireturn, 1) := by decide +kernel
theorem dX7_whereOf_0 : decode cX7_whereOf 0 = .ok (.aload_n 0, 1) := by decide +kernel
theorem dX7_whereOf_1 : decode cX7_whereOf 1 = .ok (.invokevirtual 243, 3) := by decide +kernel
theorem dX7_whereOf_4 : decode cX7_whereOf 4 = .ok (.iconst 0, 1) := by decide +kernel
theorem dX7_whereOf_5 : decode cX7_whereOf 5 = .ok (.istore_n 2, 1) := by decide +kernel
theorem dX7_whereOf_6 : decode cX7_whereOf 6 = .ok (.iload_n 2, 1) := by decide +kernel
theorem dX7_whereOf_7 : decode cX7_whereOf 7 = .ok (.bipush 24, 2) := by decide +kernel
theorem dX7_whereOf_9 : decode cX7_whereOf 9 = .ok (.if_icmp .ge 104, 3) := by decide +kernel
theorem dX7_whereOf_12 : decode cX7_whereOf 12 = .ok (.aload_n 0, 1) := by decide +kernel
theorem dX7_whereOf_13 : decode cX7_whereOf 13 = .ok (.getfield 73, 3) := by decide +kernel
theorem dX7_whereOf_16 : decode cX7_whereOf 16 = .ok (.iload_n 2, 1) := by decide +kernel
theorem dX7_whereOf_17 : decode cX7_whereOf 17 = .ok (.iload_n 2, 1) := by decide +kernel
theorem dX7_whereOf_18 : decode cX7_whereOf 18 = .ok (.ifCond .ne 9, 3) := by decide +kernel
theorem dX7_whereOf_21 : decode cX7_whereOf 21 = .ok (.sipush 255, 3) := by decide +kernel
theorem dX7_whereOf_24 : decode cX7_whereOf 24 = .ok (.goto 14, 3) := by decide +kernel
theorem dX7_whereOf_27 : decode cX7_whereOf 27 = .ok (.aload_n 0, 1) := by decide +kernel
theorem dX7_whereOf_28 : decode cX7_whereOf 28 = .ok (.getfield 73, 3) := by decide +kernel
theorem dX7_whereOf_31 : decode cX7_whereOf 31 = .ok (.iload_n 2, 1) := by decide +kernel
theorem dX7_whereOf_32 : decode cX7_whereOf 32 = .ok (.iconst 1, 1) := by decide +kernel
theorem dX7_whereOf_33 : decode cX7_whereOf 33 = .ok (.isub, 1) := by decide +kernel
theorem dX7_whereOf_34 : decode cX7_whereOf 34 = .ok (.iaload, 1) := by decide +kernel
theorem dX7_whereOf_35 : decode cX7_whereOf 35 = .ok (.invokestatic 278, 3) := by decide +kernel
theorem dX7_whereOf_38 : decode cX7_whereOf 38 = .ok (.iastore, 1) := by decide +kernel
theorem dX7_whereOf_39 : decode cX7_whereOf 39 = .ok (.iconst 0, 1) := by decide +kernel
theorem dX7_whereOf_40 : decode cX7_whereOf 40 = .ok (.istore_n 3, 1) := by decide +kernel
theorem dX7_whereOf_41 : decode cX7_whereOf 41 = .ok (.iload_n 3, 1) := by decide +kernel
theorem dX7_whereOf_42 : decode cX7_whereOf 42 = .ok (.aload_n 0, 1) := by decide +kernel
theorem dX7_whereOf_43 : decode cX7_whereOf 43 = .ok (.getfield 135, 3) := by decide +kernel
theorem dX7_whereOf_46 : decode cX7_whereOf 46 = .ok (.if_icmp .ge 61, 3) := by decide +kernel
theorem dX7_whereOf_49 : decode cX7_whereOf 49 = .ok (.aload_n 0, 1) := by decide +kernel
theorem dX7_whereOf_50 : decode cX7_whereOf 50 = .ok (.getfield 73, 3) := by decide +kernel
theorem dX7_whereOf_53 : decode cX7_whereOf 53 = .ok (.iload_n 2, 1) := by decide +kernel
theorem dX7_whereOf_54 : decode cX7_whereOf 54 = .ok (.dup2, 1) := by decide +kernel
theorem dX7_whereOf_55 : decode cX7_whereOf 55 = .ok (.iaload, 1) := by decide +kernel
theorem dX7_whereOf_56 : decode cX7_whereOf 56 = .ok (.aload_n 0, 1) := by decide +kernel
theorem dX7_whereOf_57 : decode cX7_whereOf 57 = .ok (.getfield 55, 3) := by decide +kernel
theorem dX7_whereOf_60 : decode cX7_whereOf 60 = .ok (.iload_n 3, 1) := by decide +kernel
theorem dX7_whereOf_61 : decode cX7_whereOf 61 = .ok (.iaload, 1) := by decide +kernel
theorem dX7_whereOf_62 : decode cX7_whereOf 62 = .ok (.iconst 1, 1) := by decide +kernel
theorem dX7_whereOf_63 : decode cX7_whereOf 63 = .ok (.if_icmp .ne 33, 3) := by decide +kernel
theorem dX7_whereOf_66 : decode cX7_whereOf 66 = .ok (.aload_n 0, 1) := by decide +kernel
theorem dX7_whereOf_67 : decode cX7_whereOf 67 = .ok (.getfield 25, 3) := by decide +kernel
theorem dX7_whereOf_70 : decode cX7_whereOf 70 = .ok (.iload_n 3, 1) := by decide +kernel
theorem dX7_whereOf_71 : decode cX7_whereOf 71 = .ok (.iaload, 1) := by decide +kernel
theorem dX7_whereOf_72 : decode cX7_whereOf 72 = .ok (.ifCond .ne 24, 3) := by decide +kernel
theorem dX7_whereOf_75 : decode cX7_whereOf 75 = .ok (.aload_n 0, 1) := by decide +kernel
theorem dX7_whereOf_76 : decode cX7_whereOf 76 = .ok (.getfield 16, 3) := by decide +kernel
theorem dX7_whereOf_79 : decode cX7_whereOf 79 = .ok (.iload_n 3, 1) := by decide +kernel
theorem dX7_whereOf_80 : decode cX7_whereOf 80 = .ok (.iaload, 1) := by decide +kernel
theorem dX7_whereOf_81 : decode cX7_whereOf 81 = .ok (.iload_n 2, 1) := by decide +kernel
theorem dX7_whereOf_82 : decode cX7_whereOf 82 = .ok (.if_icmp .ne 14, 3) := by decide +kernel
theorem dX7_whereOf_85 : decode cX7_whereOf 85 = .ok (.iconst 1, 1) := by decide +kernel
theorem dX7_whereOf_86 : decode cX7_whereOf 86 = .ok (.aload_n 0, 1) := by decide +kernel
theorem dX7_whereOf_87 : decode cX7_whereOf 87 = .ok (.getfield 19, 3) := by decide +kernel
theorem dX7_whereOf_90 : decode cX7_whereOf 90 = .ok (.iload_n 3, 1) := by decide +kernel
theorem dX7_whereOf_91 : decode cX7_whereOf 91 = .ok (.iaload, 1) := by decide +kernel
theorem dX7_whereOf_92 : decode cX7_whereOf 92 = .ok (.ishl, 1) := by decide +kernel
theorem dX7_whereOf_93 : decode cX7_whereOf 93 = .ok (.goto 6, 3) := by decide +kernel
theorem dX7_whereOf_96 : decode cX7_whereOf 96 = .ok (.sipush 255, 3) := by decide +kernel
theorem dX7_whereOf_99 : decode cX7_whereOf 99 = .ok (.iand, 1) := by decide +kernel
theorem dX7_whereOf_100 : decode cX7_whereOf 100 = .ok (.iastore, 1) := by decide +kernel
theorem dX7_whereOf_101 : decode cX7_whereOf 101 = .ok (.iinc 3 1, 3) := by decide +kernel
theorem dX7_whereOf_104 : decode cX7_whereOf 104 = .ok (.goto (-63), 3) := by decide +kernel
theorem dX7_whereOf_107 : decode cX7_whereOf 107 = .ok (.iinc 2 1, 3) := by decide +kernel
theorem dX7_whereOf_110 : decode cX7_whereOf 110 = .ok (.goto (-104), 3) := by decide +kernel
theorem dX7_whereOf_113 : decode cX7_whereOf 113 = .ok (.bipush 22, 2) := by decide +kernel
theorem dX7_whereOf_115 : decode cX7_whereOf 115 = .ok (.istore_n 2, 1) := by decide +kernel
theorem dX7_whereOf_116 : decode cX7_whereOf 116 = .ok (.iload_n 2, 1) := by decide +kernel
theorem dX7_whereOf_117 : decode cX7_whereOf 117 = .ok (.ifCond .lt 29, 3) := by decide +kernel
theorem dX7_whereOf_120 : decode cX7_whereOf 120 = .ok (.aload_n 0, 1) := by decide +kernel
theorem dX7_whereOf_121 : decode cX7_whereOf 121 = .ok (.getfield 73, 3) := by decide +kernel
theorem dX7_whereOf_124 : decode cX7_whereOf 124 = .ok (.iload_n 2, 1) := by decide +kernel
theorem dX7_whereOf_125 : decode cX7_whereOf 125 = .ok (.dup2, 1) := by decide +kernel
theorem dX7_whereOf_126 : decode cX7_whereOf 126 = .ok (.iaload, 1) := by decide +kernel
theorem dX7_whereOf_127 : decode cX7_whereOf 127 = .ok (.aload_n 0, 1) := by decide +kernel
theorem dX7_whereOf_128 : decode cX7_whereOf 128 = .ok (.getfield 73, 3) := by decide +kernel
theorem dX7_whereOf_131 : decode cX7_whereOf 131 = .ok (.iload_n 2, 1) := by decide +kernel
theorem dX7_whereOf_132 : decode cX7_whereOf 132 = .ok (.iconst 1, 1) := by decide +kernel
theorem dX7_whereOf_133 : decode cX7_whereOf 133 = .ok (.iadd, 1) := by decide +kernel
theorem dX7_whereOf_134 : decode cX7_whereOf 134 = .ok (.iaload, 1) := by decide +kernel
theorem dX7_whereOf_135 : decode cX7_whereOf 135 = .ok (.invokestatic 278, 3) := by decide +kernel
theorem dX7_whereOf_138 : decode cX7_whereOf 138 = .ok (.iand, 1) := by decide +kernel
theorem dX7_whereOf_139 : decode cX7_whereOf 139 = .ok (.iastore, 1) := by decide +kernel
theorem dX7_whereOf_140 : decode cX7_whereOf 140 = .ok (.iinc 2 (-1), 3) := by decide +kernel
theorem dX7_whereOf_143 : decode cX7_whereOf 143 = .ok (.goto (-27), 3) := by decide +kernel
theorem dX7_whereOf_146 : decode cX7_whereOf 146 = .ok (.aload_n 0, 1) := by decide +kernel
theorem dX7_whereOf_147 : decode cX7_whereOf 147 = .ok (.getfield 73, 3) := by decide +kernel
theorem dX7_whereOf_150 : decode cX7_whereOf 150 = .ok (.iload_n 1, 1) := by decide +kernel
theorem dX7_whereOf_151 : decode cX7_whereOf 151 = .ok (.iaload, 1) := by decide +kernel
theorem dX7_whereOf_152 : decode cX7_whereOf 152 = .ok (.ireturn, 1) := by decide +kernel
theorem dX7_where_0 : decode cX7_where 0 = .ok (.iload_n 1, 1) := by decide +kernel
theorem dX7_where_1 : decode cX7_where 1 = .ok (.invokestatic 129, 3) := by decide +kernel
theorem dX7_where_4 : decode cX7_where 4 = .ok (.ifCond .eq 11, 3) := by decide +kernel
theorem dX7_where_7 : decode cX7_where 7 = .ok (.aload_n 0, 1) := by decide +kernel
theorem dX7_where_8 : decode cX7_where 8 = .ok (.iload_n 1, 1) := by decide +kernel
theorem dX7_where_9 : decode cX7_where 9 = .ok (.invokevirtual 281, 3) := by decide +kernel
theorem dX7_where_12 : decode cX7_where 12 = .ok (.goto 5, 3) := by decide +kernel
theorem dX7_where_15 : decode cX7_where 15 = .ok (.bipush (-2), 2) := by decide +kernel
theorem dX7_where_17 : decode cX7_where 17 = .ok (.ireturn, 1) := by decide +kernel
theorem dX7_starts_0 : decode cX7_starts 0 = .ok (.aload_n 0, 1) := by decide +kernel
theorem dX7_starts_1 : decode cX7_starts 1 = .ok (.invokevirtual 234, 3) := by decide +kernel
theorem dX7_starts_4 : decode cX7_starts 4 = .ok (.aload_n 0, 1) := by decide +kernel
theorem dX7_starts_5 : decode cX7_starts 5 = .ok (.iconst (-1), 1) := by decide +kernel
theorem dX7_starts_6 : decode cX7_starts 6 = .ok (.putfield 284, 3) := by decide +kernel
theorem dX7_starts_9 : decode cX7_starts 9 = .ok (.aload_n 0, 1) := by decide +kernel
theorem dX7_starts_10 : decode cX7_starts 10 = .ok (.iconst (-1), 1) := by decide +kernel
theorem dX7_starts_11 : decode cX7_starts 11 = .ok (.putfield 287, 3) := by decide +kernel
theorem dX7_starts_14 : decode cX7_starts 14 = .ok (.return_, 1) := by decide +kernel
theorem dX7_tries_0 : decode cX7_tries 0 = .ok (.aload_n 0, 1) := by decide +kernel
theorem dX7_tries_1 : decode cX7_tries 1 = .ok (.invokevirtual 237, 3) := by decide +kernel
theorem dX7_tries_4 : decode cX7_tries 4 = .ok (.aload_n 0, 1) := by decide +kernel
theorem dX7_tries_5 : decode cX7_tries 5 = .ok (.getfield 228, 3) := by decide +kernel
theorem dX7_tries_8 : decode cX7_tries 8 = .ok (.invokestatic 259, 3) := by decide +kernel
theorem dX7_tries_11 : decode cX7_tries 11 = .ok (.istore_n 2, 1) := by decide +kernel
theorem dX7_tries_12 : decode cX7_tries 12 = .ok (.aload_n 0, 1) := by decide +kernel
theorem dX7_tries_13 : decode cX7_tries 13 = .ok (.iload_n 2, 1) := by decide +kernel
theorem dX7_tries_14 : decode cX7_tries 14 = .ok (.aload_n 0, 1) := by decide +kernel
theorem dX7_tries_15 : decode cX7_tries 15 = .ok (.getfield 287, 3) := by decide +kernel
theorem dX7_tries_18 : decode cX7_tries 18 = .ok (.if_icmp .le 7, 3) := by decide +kernel
theorem dX7_tries_21 : decode cX7_tries 21 = .ok (.iload_n 1, 1) := by decide +kernel
theorem dX7_tries_22 : decode cX7_tries 22 = .ok (.goto 7, 3) := by decide +kernel
theorem dX7_tries_25 : decode cX7_tries 25 = .ok (.aload_n 0, 1) := by decide +kernel
theorem dX7_tries_26 : decode cX7_tries 26 = .ok (.getfield 284, 3) := by decide +kernel
theorem dX7_tries_29 : decode cX7_tries 29 = .ok (.putfield 284, 3) := by decide +kernel
theorem dX7_tries_32 : decode cX7_tries 32 = .ok (.aload_n 0, 1) := by decide +kernel
theorem dX7_tries_33 : decode cX7_tries 33 = .ok (.iload_n 2, 1) := by decide +kernel
theorem dX7_tries_34 : decode cX7_tries 34 = .ok (.aload_n 0, 1) := by decide +kernel
theorem dX7_tries_35 : decode cX7_tries 35 = .ok (.getfield 287, 3) := by decide +kernel
theorem dX7_tries_38 : decode cX7_tries 38 = .ok (.if_icmp .le 7, 3) := by decide +kernel
theorem dX7_tries_41 : decode cX7_tries 41 = .ok (.iload_n 2, 1) := by decide +kernel
theorem dX7_tries_42 : decode cX7_tries 42 = .ok (.goto 7, 3) := by decide +kernel
theorem dX7_tries_45 : decode cX7_tries 45 = .ok (.aload_n 0, 1) := by decide +kernel
theorem dX7_tries_46 : decode cX7_tries 46 = .ok (.getfield 287, 3) := by decide +kernel
theorem dX7_tries_49 : decode cX7_tries 49 = .ok (.putfield 287, 3) := by decide +kernel
theorem dX7_tries_52 : decode cX7_tries 52 = .ok (.return_, 1) := by decide +kernel
theorem dX7_moveOf_0 : decode cX7_moveOf 0 = .ok (.aload_n 0, 1) := by decide +kernel
theorem dX7_moveOf_1 : decode cX7_moveOf 1 = .ok (.invokevirtual 290, 3) := by decide +kernel
theorem dX7_moveOf_4 : decode cX7_moveOf 4 = .ok (.iconst 0, 1) := by decide +kernel
theorem dX7_moveOf_5 : decode cX7_moveOf 5 = .ok (.istore_n 3, 1) := by decide +kernel
theorem dX7_moveOf_6 : decode cX7_moveOf 6 = .ok (.iload_n 3, 1) := by decide +kernel
theorem dX7_moveOf_7 : decode cX7_moveOf 7 = .ok (.bipush 8, 2) := by decide +kernel
theorem dX7_moveOf_9 : decode cX7_moveOf 9 = .ok (.if_icmp .ge 21, 3) := by decide +kernel
theorem dX7_moveOf_12 : decode cX7_moveOf 12 = .ok (.aload_n 0, 1) := by decide +kernel
theorem dX7_moveOf_13 : decode cX7_moveOf 13 = .ok (.getfield 46, 3) := by decide +kernel
theorem dX7_moveOf_16 : decode cX7_moveOf 16 = .ok (.iload_n 1, 1) := by decide +kernel
theorem dX7_moveOf_17 : decode cX7_moveOf 17 = .ok (.iload_n 3, 1) := by decide +kernel
theorem dX7_moveOf_18 : decode cX7_moveOf 18 = .ok (.iastore, 1) := by decide +kernel
theorem dX7_moveOf_19 : decode cX7_moveOf 19 = .ok (.aload_n 0, 1) := by decide +kernel
theorem dX7_moveOf_20 : decode cX7_moveOf 20 = .ok (.iload_n 3, 1) := by decide +kernel
theorem dX7_moveOf_21 : decode cX7_moveOf 21 = .ok (.invokevirtual 293, 3) := by decide +kernel
theorem dX7_moveOf_24 : decode cX7_moveOf 24 = .ok (.iinc 3 1, 3) := by decide +kernel
theorem dX7_moveOf_27 : decode cX7_moveOf 27 = .ok (.goto (-21), 3) := by decide +kernel
theorem dX7_moveOf_30 : decode cX7_moveOf 30 = .ok (.iload_n 2, 1) := by decide +kernel
theorem dX7_moveOf_31 : decode cX7_moveOf 31 = .ok (.ifCond .ne 10, 3) := by decide +kernel
theorem dX7_moveOf_34 : decode cX7_moveOf 34 = .ok (.aload_n 0, 1) := by decide +kernel
theorem dX7_moveOf_35 : decode cX7_moveOf 35 = .ok (.getfield 284, 3) := by decide +kernel
theorem dX7_moveOf_38 : decode cX7_moveOf 38 = .ok (.goto 7, 3) := by decide +kernel
theorem dX7_moveOf_41 : decode cX7_moveOf 41 = .ok (.aload_n 0, 1) := by decide +kernel
theorem dX7_moveOf_42 : decode cX7_moveOf 42 = .ok (.getfield 287, 3) := by decide +kernel
theorem dX7_moveOf_45 : decode cX7_moveOf 45 = .ok (.ireturn, 1) := by decide +kernel
theorem dX7_move_0 : decode cX7_move 0 = .ok (.aload_n 0, 1) := by decide +kernel
theorem dX7_move_1 : decode cX7_move 1 = .ok (.iload_n 1, 1) := by decide +kernel
theorem dX7_move_2 : decode cX7_move 2 = .ok (.invokevirtual 156, 3) := by decide +kernel
theorem dX7_move_5 : decode cX7_move 5 = .ok (.ifCond .eq 19, 3) := by decide +kernel
theorem dX7_move_8 : decode cX7_move 8 = .ok (.iload_n 2, 1) := by decide +kernel
theorem dX7_move_9 : decode cX7_move 9 = .ok (.invokestatic 117, 3) := by decide +kernel
theorem dX7_move_12 : decode cX7_move 12 = .ok (.ifCond .eq 12, 3) := by decide +kernel
theorem dX7_move_15 : decode cX7_move 15 = .ok (.aload_n 0, 1) := by decide +kernel
theorem dX7_move_16 : decode cX7_move 16 = .ok (.iload_n 1, 1) := by decide +kernel
theorem dX7_move_17 : decode cX7_move 17 = .ok (.iload_n 2, 1) := by decide +kernel
theorem dX7_move_18 : decode cX7_move 18 = .ok (.invokevirtual 296, 3) := by decide +kernel
theorem dX7_move_21 : decode cX7_move 21 = .ok (.goto 5, 3) := by decide +kernel
theorem dX7_move_24 : decode cX7_move 24 = .ok (.bipush (-2), 2) := by decide +kernel
theorem dX7_move_26 : decode cX7_move 26 = .ok (.ireturn, 1) := by decide +kernel
theorem dX7_dropOf_0 : decode cX7_dropOf 0 = .ok (.aload_n 0, 1) := by decide +kernel
theorem dX7_dropOf_1 : decode cX7_dropOf 1 = .ok (.invokevirtual 290, 3) := by decide +kernel
theorem dX7_dropOf_4 : decode cX7_dropOf 4 = .ok (.iconst 0, 1) := by decide +kernel
theorem dX7_dropOf_5 : decode cX7_dropOf 5 = .ok (.istore_n 2, 1) := by decide +kernel
theorem dX7_dropOf_6 : decode cX7_dropOf 6 = .ok (.iload_n 2, 1) := by decide +kernel
theorem dX7_dropOf_7 : decode cX7_dropOf 7 = .ok (.aload_n 0, 1) := by decide +kernel
theorem dX7_dropOf_8 : decode cX7_dropOf 8 = .ok (.getfield 135, 3) := by decide +kernel
theorem dX7_dropOf_11 : decode cX7_dropOf 11 = .ok (.if_icmp .ge 19, 3) := by decide +kernel
theorem dX7_dropOf_14 : decode cX7_dropOf 14 = .ok (.aload_n 0, 1) := by decide +kernel
theorem dX7_dropOf_15 : decode cX7_dropOf 15 = .ok (.iload_n 2, 1) := by decide +kernel
theorem dX7_dropOf_16 : decode cX7_dropOf 16 = .ok (.putfield 187, 3) := by decide +kernel
theorem dX7_dropOf_19 : decode cX7_dropOf 19 = .ok (.aload_n 0, 1) := by decide +kernel
theorem dX7_dropOf_20 : decode cX7_dropOf 20 = .ok (.iload_n 2, 1) := by decide +kernel
theorem dX7_dropOf_21 : decode cX7_dropOf 21 = .ok (.invokevirtual 293, 3) := by decide +kernel
theorem dX7_dropOf_24 : decode cX7_dropOf 24 = .ok (.iinc 2 1, 3) := by decide +kernel
theorem dX7_dropOf_27 : decode cX7_dropOf 27 = .ok (.goto (-21), 3) := by decide +kernel
theorem dX7_dropOf_30 : decode cX7_dropOf 30 = .ok (.iload_n 1, 1) := by decide +kernel
theorem dX7_dropOf_31 : decode cX7_dropOf 31 = .ok (.ifCond .ne 10, 3) := by decide +kernel
theorem dX7_dropOf_34 : decode cX7_dropOf 34 = .ok (.aload_n 0, 1) := by decide +kernel
theorem dX7_dropOf_35 : decode cX7_dropOf 35 = .ok (.getfield 284, 3) := by decide +kernel
theorem dX7_dropOf_38 : decode cX7_dropOf 38 = .ok (.goto 7, 3) := by decide +kernel
theorem dX7_dropOf_41 : decode cX7_dropOf 41 = .ok (.aload_n 0, 1) := by decide +kernel
theorem dX7_dropOf_42 : decode cX7_dropOf 42 = .ok (.getfield 287, 3) := by decide +kernel
theorem dX7_dropOf_45 : decode cX7_dropOf 45 = .ok (.ireturn, 1) := by decide +kernel
theorem dX7_drop_0 : decode cX7_drop 0 = .ok (.iload_n 1, 1) := by decide +kernel
theorem dX7_drop_1 : decode cX7_drop 1 = .ok (.invokestatic 117, 3) := by decide +kernel
theorem dX7_drop_4 : decode cX7_drop 4 = .ok (.ifCond .eq 11, 3) := by decide +kernel
theorem dX7_drop_7 : decode cX7_drop 7 = .ok (.aload_n 0, 1) := by decide +kernel
theorem dX7_drop_8 : decode cX7_drop 8 = .ok (.iload_n 1, 1) := by decide +kernel
theorem dX7_drop_9 : decode cX7_drop 9 = .ok (.invokevirtual 299, 3) := by decide +kernel
theorem dX7_drop_12 : decode cX7_drop 12 = .ok (.goto 5, 3) := by decide +kernel
theorem dX7_drop_15 : decode cX7_drop 15 = .ok (.bipush (-2), 2) := by decide +kernel
theorem dX7_drop_17 : decode cX7_drop 17 = .ok (.ireturn, 1) := by decide +kernel
theorem dX7_cleanOf_0 : decode cX7_cleanOf 0 = .ok (.aload_n 0, 1) := by decide +kernel
theorem dX7_cleanOf_1 : decode cX7_cleanOf 1 = .ok (.invokevirtual 234, 3) := by decide +kernel
theorem dX7_cleanOf_4 : decode cX7_cleanOf 4 = .ok (.iconst 0, 1) := by decide +kernel
theorem dX7_cleanOf_5 : decode cX7_cleanOf 5 = .ok (.istore_n 2, 1) := by decide +kernel
theorem dX7_cleanOf_6 : decode cX7_cleanOf 6 = .ok (.iload_n 2, 1) := by decide +kernel
theorem dX7_cleanOf_7 : decode cX7_cleanOf 7 = .ok (.aload_n 0, 1) := by decide +kernel
theorem dX7_cleanOf_8 : decode cX7_cleanOf 8 = .ok (.getfield 135, 3) := by decide +kernel
theorem dX7_cleanOf_11 : decode cX7_cleanOf 11 = .ok (.if_icmp .ge 62, 3) := by decide +kernel
theorem dX7_cleanOf_14 : decode cX7_cleanOf 14 = .ok (.aload_n 0, 1) := by decide +kernel
theorem dX7_cleanOf_15 : decode cX7_cleanOf 15 = .ok (.getfield 76, 3) := by decide +kernel
theorem dX7_cleanOf_18 : decode cX7_cleanOf 18 = .ok (.iload_n 2, 1) := by decide +kernel
theorem dX7_cleanOf_19 : decode cX7_cleanOf 19 = .ok (.iconst 0, 1) := by decide +kernel
theorem dX7_cleanOf_20 : decode cX7_cleanOf 20 = .ok (.iastore, 1) := by decide +kernel
theorem dX7_cleanOf_21 : decode cX7_cleanOf 21 = .ok (.iconst 0, 1) := by decide +kernel
theorem dX7_cleanOf_22 : decode cX7_cleanOf 22 = .ok (.istore_n 3, 1) := by decide +kernel
theorem dX7_cleanOf_23 : decode cX7_cleanOf 23 = .ok (.iload_n 3, 1) := by decide +kernel
theorem dX7_cleanOf_24 : decode cX7_cleanOf 24 = .ok (.aload_n 0, 1) := by decide +kernel
theorem dX7_cleanOf_25 : decode cX7_cleanOf 25 = .ok (.getfield 135, 3) := by decide +kernel
theorem dX7_cleanOf_28 : decode cX7_cleanOf 28 = .ok (.if_icmp .ge 39, 3) := by decide +kernel
theorem dX7_cleanOf_31 : decode cX7_cleanOf 31 = .ok (.aload_n 0, 1) := by decide +kernel
theorem dX7_cleanOf_32 : decode cX7_cleanOf 32 = .ok (.getfield 76, 3) := by decide +kernel
theorem dX7_cleanOf_35 : decode cX7_cleanOf 35 = .ok (.iload_n 2, 1) := by decide +kernel
theorem dX7_cleanOf_36 : decode cX7_cleanOf 36 = .ok (.dup2, 1) := by decide +kernel
theorem dX7_cleanOf_37 : decode cX7_cleanOf 37 = .ok (.iaload, 1) := by decide +kernel
theorem dX7_cleanOf_38 : decode cX7_cleanOf 38 = .ok (.iload_n 3, 1) := by decide +kernel
theorem dX7_cleanOf_39 : decode cX7_cleanOf 39 = .ok (.iload_n 2, 1) := by decide +kernel
theorem dX7_cleanOf_40 : decode cX7_cleanOf 40 = .ok (.if_icmp .eq 18, 3) := by decide +kernel
theorem dX7_cleanOf_43 : decode cX7_cleanOf 43 = .ok (.aload_n 0, 1) := by decide +kernel
theorem dX7_cleanOf_44 : decode cX7_cleanOf 44 = .ok (.iload_n 3, 1) := by decide +kernel
theorem dX7_cleanOf_45 : decode cX7_cleanOf 45 = .ok (.iload_n 2, 1) := by decide +kernel
theorem dX7_cleanOf_46 : decode cX7_cleanOf 46 = .ok (.invokevirtual 200, 3) := by decide +kernel
theorem dX7_cleanOf_49 : decode cX7_cleanOf 49 = .ok (.ifCond .eq 9, 3) := by decide +kernel
theorem dX7_cleanOf_52 : decode cX7_cleanOf 52 = .ok (.iconst 1, 1) := by decide +kernel
theorem dX7_cleanOf_53 : decode cX7_cleanOf 53 = .ok (.iload_n 3, 1) := by decide +kernel
theorem dX7_cleanOf_54 : decode cX7_cleanOf 54 = .ok (.ishl, 1) := by decide +kernel
theorem dX7_cleanOf_55 : decode cX7_cleanOf 55 = .ok (.goto 4, 3) := by decide +kernel
theorem dX7_cleanOf_58 : decode cX7_cleanOf 58 = .ok (.iconst 0, 1) := by decide +kernel
theorem dX7_cleanOf_59 : decode cX7_cleanOf 59 = .ok (.ior, 1) := by decide +kernel
theorem dX7_cleanOf_60 : decode cX7_cleanOf 60 = .ok (.iastore, 1) := by decide +kernel
theorem dX7_cleanOf_61 : decode cX7_cleanOf 61 = .ok (.iinc 3 1, 3) := by decide +kernel
theorem dX7_cleanOf_64 : decode cX7_cleanOf 64 = .ok (.goto (-41), 3) := by decide +kernel
theorem dX7_cleanOf_67 : decode cX7_cleanOf 67 = .ok (.iinc 2 1, 3) := by decide +kernel
theorem dX7_cleanOf_70 : decode cX7_cleanOf 70 = .ok (.goto (-64), 3) := by decide +kernel
theorem dX7_cleanOf_73 : decode cX7_cleanOf 73 = .ok (.iconst 0, 1) := by decide +kernel
theorem dX7_cleanOf_74 : decode cX7_cleanOf 74 = .ok (.istore_n 2, 1) := by decide +kernel
theorem dX7_cleanOf_75 : decode cX7_cleanOf 75 = .ok (.iconst 0, 1) := by decide +kernel
theorem dX7_cleanOf_76 : decode cX7_cleanOf 76 = .ok (.istore_n 3, 1) := by decide +kernel
theorem dX7_cleanOf_77 : decode cX7_cleanOf 77 = .ok (.iconst 0, 1) := by decide +kernel
theorem dX7_cleanOf_78 : decode cX7_cleanOf 78 = .ok (.istore 4, 2) := by decide +kernel
theorem dX7_cleanOf_80 : decode cX7_cleanOf 80 = .ok (.iload 4, 2) := by decide +kernel
theorem dX7_cleanOf_82 : decode cX7_cleanOf 82 = .ok (.iconst 1, 1) := by decide +kernel
theorem dX7_cleanOf_83 : decode cX7_cleanOf 83 = .ok (.aload_n 0, 1) := by decide +kernel
theorem dX7_cleanOf_84 : decode cX7_cleanOf 84 = .ok (.getfield 135, 3) := by decide +kernel
theorem dX7_cleanOf_87 : decode cX7_cleanOf 87 = .ok (.ishl, 1) := by decide +kernel
theorem dX7_cleanOf_88 : decode cX7_cleanOf 88 = .ok (.if_icmp .ge 105, 3) := by decide +kernel
theorem dX7_cleanOf_91 : decode cX7_cleanOf 91 = .ok (.iload 4, 2) := by decide +kernel
theorem dX7_cleanOf_93 : decode cX7_cleanOf 93 = .ok (.invokestatic 259, 3) := by decide +kernel
theorem dX7_cleanOf_96 : decode cX7_cleanOf 96 = .ok (.iload_n 3, 1) := by decide +kernel
theorem dX7_cleanOf_97 : decode cX7_cleanOf 97 = .ok (.if_icmp .le 7, 3) := by decide +kernel
theorem dX7_cleanOf_100 : decode cX7_cleanOf 100 = .ok (.iconst 1, 1) := by decide +kernel
theorem dX7_cleanOf_101 : decode cX7_cleanOf 101 = .ok (.goto 4, 3) := by decide +kernel
theorem dX7_cleanOf_104 : decode cX7_cleanOf 104 = .ok (.iconst 0, 1) := by decide +kernel
theorem dX7_cleanOf_105 : decode cX7_cleanOf 105 = .ok (.istore 5, 2) := by decide +kernel
theorem dX7_cleanOf_107 : decode cX7_cleanOf 107 = .ok (.iconst 0, 1) := by decide +kernel
theorem dX7_cleanOf_108 : decode cX7_cleanOf 108 = .ok (.istore 6, 2) := by decide +kernel
theorem dX7_cleanOf_110 : decode cX7_cleanOf 110 = .ok (.iload 6, 2) := by decide +kernel
theorem dX7_cleanOf_112 : decode cX7_cleanOf 112 = .ok (.aload_n 0, 1) := by decide +kernel
theorem dX7_cleanOf_113 : decode cX7_cleanOf 113 = .ok (.getfield 135, 3) := by decide +kernel
theorem dX7_cleanOf_116 : decode cX7_cleanOf 116 = .ok (.if_icmp .ge 44, 3) := by decide +kernel
theorem dX7_cleanOf_119 : decode cX7_cleanOf 119 = .ok (.iload 5, 2) := by decide +kernel
theorem dX7_cleanOf_121 : decode cX7_cleanOf 121 = .ok (.ifCond .eq 39, 3) := by decide +kernel
theorem dX7_cleanOf_124 : decode cX7_cleanOf 124 = .ok (.iload 4, 2) := by decide +kernel
theorem dX7_cleanOf_126 : decode cX7_cleanOf 126 = .ok (.iload 6, 2) := by decide +kernel
theorem dX7_cleanOf_128 : decode cX7_cleanOf 128 = .ok (.invokestatic 196, 3) := by decide +kernel
theorem dX7_cleanOf_131 : decode cX7_cleanOf 131 = .ok (.ifCond .eq 16, 3) := by decide +kernel
theorem dX7_cleanOf_134 : decode cX7_cleanOf 134 = .ok (.iload 4, 2) := by decide +kernel
theorem dX7_cleanOf_136 : decode cX7_cleanOf 136 = .ok (.aload_n 0, 1) := by decide +kernel
theorem dX7_cleanOf_137 : decode cX7_cleanOf 137 = .ok (.getfield 76, 3) := by decide +kernel
theorem dX7_cleanOf_140 : decode cX7_cleanOf 140 = .ok (.iload 6, 2) := by decide +kernel
theorem dX7_cleanOf_142 : decode cX7_cleanOf 142 = .ok (.iaload, 1) := by decide +kernel
theorem dX7_cleanOf_143 : decode cX7_cleanOf 143 = .ok (.iand, 1) := by decide +kernel
theorem dX7_cleanOf_144 : decode cX7_cleanOf 144 = .ok (.ifCond .ne 7, 3) := by decide +kernel
theorem dX7_cleanOf_147 : decode cX7_cleanOf 147 = .ok (.iconst 1, 1) := by decide +kernel
theorem dX7_cleanOf_148 : decode cX7_cleanOf 148 = .ok (.goto 4, 3) := by decide +kernel
theorem dX7_cleanOf_151 : decode cX7_cleanOf 151 = .ok (.iconst 0, 1) := by decide +kernel
theorem dX7_cleanOf_152 : decode cX7_cleanOf 152 = .ok (.istore 5, 2) := by decide +kernel
theorem dX7_cleanOf_154 : decode cX7_cleanOf 154 = .ok (.iinc 6 1, 3) := by decide +kernel
theorem dX7_cleanOf_157 : decode cX7_cleanOf 157 = .ok (.goto (-47), 3) := by decide +kernel
theorem dX7_cleanOf_160 : decode cX7_cleanOf 160 = .ok (.iload 5, 2) := by decide +kernel
theorem dX7_cleanOf_162 : decode cX7_cleanOf 162 = .ok (.ifCond .eq 8, 3) := by decide +kernel
theorem dX7_cleanOf_165 : decode cX7_cleanOf 165 = .ok (.iload 4, 2) := by decide +kernel
theorem dX7_cleanOf_167 : decode cX7_cleanOf 167 = .ok (.goto 4, 3) := by decide +kernel
theorem dX7_cleanOf_170 : decode cX7_cleanOf 170 = .ok (.iload_n 2, 1) := by decide +kernel
theorem dX7_cleanOf_171 : decode cX7_cleanOf 171 = .ok (.istore_n 2, 1) := by decide +kernel
theorem dX7_cleanOf_172 : decode cX7_cleanOf 172 = .ok (.iload 5, 2) := by decide +kernel
theorem dX7_cleanOf_174 : decode cX7_cleanOf 174 = .ok (.ifCond .eq 11, 3) := by decide +kernel
theorem dX7_cleanOf_177 : decode cX7_cleanOf 177 = .ok (.iload 4, 2) := by decide +kernel
theorem dX7_cleanOf_179 : decode cX7_cleanOf 179 = .ok (.invokestatic 259, 3) := by decide +kernel
theorem dX7_cleanOf_182 : decode cX7_cleanOf 182 = .ok (.goto 4, 3) := by decide +kernel
theorem dX7_cleanOf_185 : decode cX7_cleanOf 185 = .ok (.iload_n 3, 1) := by decide +kernel
theorem dX7_cleanOf_186 : decode cX7_cleanOf 186 = .ok (.istore_n 3, 1) := by decide +kernel
theorem dX7_cleanOf_187 : decode cX7_cleanOf 187 = .ok (.iinc 4 1, 3) := by decide +kernel
theorem dX7_cleanOf_190 : decode cX7_cleanOf 190 = .ok (.goto (-110), 3) := by decide +kernel
theorem dX7_cleanOf_193 : decode cX7_cleanOf 193 = .ok (.iload_n 1, 1) := by decide +kernel
theorem dX7_cleanOf_194 : decode cX7_cleanOf 194 = .ok (.ifCond .ne 7, 3) := by decide +kernel
theorem dX7_cleanOf_197 : decode cX7_cleanOf 197 = .ok (.iload_n 3, 1) := by decide +kernel
theorem dX7_cleanOf_198 : decode cX7_cleanOf 198 = .ok (.goto 4, 3) := by decide +kernel
theorem dX7_cleanOf_201 : decode cX7_cleanOf 201 = .ok (.iload_n 2, 1) := by decide +kernel
theorem dX7_cleanOf_202 : decode cX7_cleanOf 202 = .ok (.ireturn, 1) := by decide +kernel
theorem dX7_clean_0 : decode cX7_clean 0 = .ok (.iload_n 1, 1) := by decide +kernel
theorem dX7_clean_1 : decode cX7_clean 1 = .ok (.invokestatic 117, 3) := by decide +kernel
theorem dX7_clean_4 : decode cX7_clean 4 = .ok (.ifCond .eq 11, 3) := by decide +kernel
theorem dX7_clean_7 : decode cX7_clean 7 = .ok (.aload_n 0, 1) := by decide +kernel
theorem dX7_clean_8 : decode cX7_clean 8 = .ok (.iload_n 1, 1) := by decide +kernel
theorem dX7_clean_9 : decode cX7_clean 9 = .ok (.invokevirtual 302, 3) := by decide +kernel
theorem dX7_clean_12 : decode cX7_clean 12 = .ok (.goto 5, 3) := by decide +kernel
theorem dX7_clean_15 : decode cX7_clean 15 = .ok (.bipush (-2), 2) := by decide +kernel
theorem dX7_clean_17 : decode cX7_clean 17 = .ok (.ireturn, 1) := by decide +kernel
theorem dX7_isSpared_0 : decode cX7_isSpared 0 = .ok (.aload_n 0, 1) := by decide +kernel
theorem dX7_isSpared_1 : decode cX7_isSpared 1 = .ok (.iload_n 1, 1) := by decide +kernel
theorem dX7_isSpared_2 : decode cX7_isSpared 2 = .ok (.putfield 190, 3) := by decide +kernel
theorem dX7_isSpared_5 : decode cX7_isSpared 5 = .ok (.aload_n 0, 1) := by decide +kernel
theorem dX7_isSpared_6 : decode cX7_isSpared 6 = .ok (.invokevirtual 237, 3) := by decide +kernel
theorem dX7_isSpared_9 : decode cX7_isSpared 9 = .ok (.aload_n 0, 1) := by decide +kernel
theorem dX7_isSpared_10 : decode cX7_isSpared 10 = .ok (.getfield 228, 3) := by decide +kernel
theorem dX7_isSpared_13 : decode cX7_isSpared 13 = .ok (.iconst 1, 1) := by decide +kernel
theorem dX7_isSpared_14 : decode cX7_isSpared 14 = .ok (.aload_n 0, 1) := by decide +kernel
theorem dX7_isSpared_15 : decode cX7_isSpared 15 = .ok (.getfield 138, 3) := by decide +kernel
theorem dX7_isSpared_18 : decode cX7_isSpared 18 = .ok (.ishl, 1) := by decide +kernel
theorem dX7_isSpared_19 : decode cX7_isSpared 19 = .ok (.iconst 1, 1) := by decide +kernel
theorem dX7_isSpared_20 : decode cX7_isSpared 20 = .ok (.isub, 1) := by decide +kernel
theorem dX7_isSpared_21 : decode cX7_isSpared 21 = .ok (.if_icmp .ne 7, 3) := by decide +kernel
theorem dX7_isSpared_24 : decode cX7_isSpared 24 = .ok (.iconst 1, 1) := by decide +kernel
theorem dX7_isSpared_25 : decode cX7_isSpared 25 = .ok (.goto 4, 3) := by decide +kernel
theorem dX7_isSpared_28 : decode cX7_isSpared 28 = .ok (.iconst 0, 1) := by decide +kernel
theorem dX7_isSpared_29 : decode cX7_isSpared 29 = .ok (.ireturn, 1) := by decide +kernel
theorem dX7_spareBy_0 : decode cX7_spareBy 0 = .ok (.aload_n 0, 1) := by decide +kernel
theorem dX7_spareBy_1 : decode cX7_spareBy 1 = .ok (.invokevirtual 234, 3) := by decide +kernel
theorem dX7_spareBy_4 : decode cX7_spareBy 4 = .ok (.aload_n 0, 1) := by decide +kernel
theorem dX7_spareBy_5 : decode cX7_spareBy 5 = .ok (.iconst 0, 1) := by decide +kernel
theorem dX7_spareBy_6 : decode cX7_spareBy 6 = .ok (.invokevirtual 305, 3) := by decide +kernel
theorem dX7_spareBy_9 : decode cX7_spareBy 9 = .ok (.ifCond .eq 5, 3) := by decide +kernel
theorem dX7_spareBy_12 : decode cX7_spareBy 12 = .ok (.iconst 0, 1) := by decide +kernel
theorem dX7_spareBy_13 : decode cX7_spareBy 13 = .ok (.ireturn, 1) := by decide +kernel
theorem dX7_spareBy_14 : decode cX7_spareBy 14 = .ok (.iconst 0, 1) := by decide +kernel
theorem dX7_spareBy_15 : decode cX7_spareBy 15 = .ok (.istore_n 1, 1) := by decide +kernel
theorem dX7_spareBy_16 : decode cX7_spareBy 16 = .ok (.iload_n 1, 1) := by decide +kernel
theorem dX7_spareBy_17 : decode cX7_spareBy 17 = .ok (.aload_n 0, 1) := by decide +kernel
theorem dX7_spareBy_18 : decode cX7_spareBy 18 = .ok (.getfield 171, 3) := by decide +kernel
theorem dX7_spareBy_21 : decode cX7_spareBy 21 = .ok (.if_icmp .ge 28, 3) := by decide +kernel
theorem dX7_spareBy_24 : decode cX7_spareBy 24 = .ok (.aload_n 0, 1) := by decide +kernel
theorem dX7_spareBy_25 : decode cX7_spareBy 25 = .ok (.getfield 79, 3) := by decide +kernel
theorem dX7_spareBy_28 : decode cX7_spareBy 28 = .ok (.iconst 0, 1) := by decide +kernel
theorem dX7_spareBy_29 : decode cX7_spareBy 29 = .ok (.iload_n 1, 1) := by decide +kernel
theorem dX7_spareBy_30 : decode cX7_spareBy 30 = .ok (.iastore, 1) := by decide +kernel
theorem dX7_spareBy_31 : decode cX7_spareBy 31 = .ok (.aload_n 0, 1) := by decide +kernel
theorem dX7_spareBy_32 : decode cX7_spareBy 32 = .ok (.iconst 1, 1) := by decide +kernel
theorem dX7_spareBy_33 : decode cX7_spareBy 33 = .ok (.iload_n 1, 1) := by decide +kernel
theorem dX7_spareBy_34 : decode cX7_spareBy 34 = .ok (.ishl, 1) := by decide +kernel
theorem dX7_spareBy_35 : decode cX7_spareBy 35 = .ok (.invokevirtual 305, 3) := by decide +kernel
theorem dX7_spareBy_38 : decode cX7_spareBy 38 = .ok (.ifCond .eq 5, 3) := by decide +kernel
theorem dX7_spareBy_41 : decode cX7_spareBy 41 = .ok (.iconst 1, 1) := by decide +kernel
theorem dX7_spareBy_42 : decode cX7_spareBy 42 = .ok (.ireturn, 1) := by decide +kernel
theorem dX7_spareBy_43 : decode cX7_spareBy 43 = .ok (.iinc 1 1, 3) := by decide +kernel
theorem dX7_spareBy_46 : decode cX7_spareBy 46 = .ok (.goto (-30), 3) := by decide +kernel
theorem dX7_spareBy_49 : decode cX7_spareBy 49 = .ok (.iconst 0, 1) := by decide +kernel
theorem dX7_spareBy_50 : decode cX7_spareBy 50 = .ok (.istore_n 1, 1) := by decide +kernel
theorem dX7_spareBy_51 : decode cX7_spareBy 51 = .ok (.iload_n 1, 1) := by decide +kernel
theorem dX7_spareBy_52 : decode cX7_spareBy 52 = .ok (.aload_n 0, 1) := by decide +kernel
theorem dX7_spareBy_53 : decode cX7_spareBy 53 = .ok (.getfield 171, 3) := by decide +kernel
theorem dX7_spareBy_56 : decode cX7_spareBy 56 = .ok (.if_icmp .ge 57, 3) := by decide +kernel
theorem dX7_spareBy_59 : decode cX7_spareBy 59 = .ok (.iload_n 1, 1) := by decide +kernel
theorem dX7_spareBy_60 : decode cX7_spareBy 60 = .ok (.iconst 1, 1) := by decide +kernel
theorem dX7_spareBy_61 : decode cX7_spareBy 61 = .ok (.iadd, 1) := by decide +kernel
theorem dX7_spareBy_62 : decode cX7_spareBy 62 = .ok (.istore_n 2, 1) := by decide +kernel
theorem dX7_spareBy_63 : decode cX7_spareBy 63 = .ok (.iload_n 2, 1) := by decide +kernel
theorem dX7_spareBy_64 : decode cX7_spareBy 64 = .ok (.aload_n 0, 1) := by decide +kernel
theorem dX7_spareBy_65 : decode cX7_spareBy 65 = .ok (.getfield 171, 3) := by decide +kernel
theorem dX7_spareBy_68 : decode cX7_spareBy 68 = .ok (.if_icmp .ge 39, 3) := by decide +kernel
theorem dX7_spareBy_71 : decode cX7_spareBy 71 = .ok (.aload_n 0, 1) := by decide +kernel
theorem dX7_spareBy_72 : decode cX7_spareBy 72 = .ok (.getfield 79, 3) := by decide +kernel
theorem dX7_spareBy_75 : decode cX7_spareBy 75 = .ok (.iconst 0, 1) := by decide +kernel
theorem dX7_spareBy_76 : decode cX7_spareBy 76 = .ok (.iload_n 1, 1) := by decide +kernel
theorem dX7_spareBy_77 : decode cX7_spareBy 77 = .ok (.iastore, 1) := by decide +kernel
theorem dX7_spareBy_78 : decode cX7_spareBy 78 = .ok (.aload_n 0, 1) := by decide +kernel
theorem dX7_spareBy_79 : decode cX7_spareBy 79 = .ok (.getfield 79, 3) := by decide +kernel
theorem dX7_spareBy_82 : decode cX7_spareBy 82 = .ok (.iconst 1, 1) := by decide +kernel
theorem dX7_spareBy_83 : decode cX7_spareBy 83 = .ok (.iload_n 2, 1) := by decide +kernel
theorem dX7_spareBy_84 : decode cX7_spareBy 84 = .ok (.iastore, 1) := by decide +kernel
theorem dX7_spareBy_85 : decode cX7_spareBy 85 = .ok (.aload_n 0, 1) := by decide +kernel
theorem dX7_spareBy_86 : decode cX7_spareBy 86 = .ok (.iconst 1, 1) := by decide +kernel
theorem dX7_spareBy_87 : decode cX7_spareBy 87 = .ok (.iload_n 1, 1) := by decide +kernel
theorem dX7_spareBy_88 : decode cX7_spareBy 88 = .ok (.ishl, 1) := by decide +kernel
theorem dX7_spareBy_89 : decode cX7_spareBy 89 = .ok (.iconst 1, 1) := by decide +kernel
theorem dX7_spareBy_90 : decode cX7_spareBy 90 = .ok (.iload_n 2, 1) := by decide +kernel
theorem dX7_spareBy_91 : decode cX7_spareBy 91 = .ok (.ishl, 1) := by decide +kernel
theorem dX7_spareBy_92 : decode cX7_spareBy 92 = .ok (.ior, 1) := by decide +kernel
theorem dX7_spareBy_93 : decode cX7_spareBy 93 = .ok (.invokevirtual 305, 3) := by decide +kernel
theorem dX7_spareBy_96 : decode cX7_spareBy 96 = .ok (.ifCond .eq 5, 3) := by decide +kernel
theorem dX7_spareBy_99 : decode cX7_spareBy 99 = .ok (.iconst 2, 1) := by decide +kernel
theorem dX7_spareBy_100 : decode cX7_spareBy 100 = .ok (.ireturn, 1) := by decide +kernel
theorem dX7_spareBy_101 : decode cX7_spareBy 101 = .ok (.iinc 2 1, 3) := by decide +kernel
theorem dX7_spareBy_104 : decode cX7_spareBy 104 = .ok (.goto (-41), 3) := by decide +kernel
theorem dX7_spareBy_107 : decode cX7_spareBy 107 = .ok (.iinc 1 1, 3) := by decide +kernel
theorem dX7_spareBy_110 : decode cX7_spareBy 110 = .ok (.goto (-59), 3) := by decide +kernel
theorem dX7_spareBy_113 : decode cX7_spareBy 113 = .ok (.iconst (-1), 1) := by decide +kernel
theorem dX7_spareBy_114 : decode cX7_spareBy 114 = .ok (.ireturn, 1) := by decide +kernel
theorem dX7_ofRow_0 : decode cX7_ofRow 0 = .ok (.iload_n 2, 1) := by decide +kernel
theorem dX7_ofRow_1 : decode cX7_ofRow 1 = .ok (.iconst (-1), 1) := by decide +kernel
theorem dX7_ofRow_2 : decode cX7_ofRow 2 = .ok (.if_icmp .ne 7, 3) := by decide +kernel
theorem dX7_ofRow_5 : decode cX7_ofRow 5 = .ok (.iload_n 1, 1) := by decide +kernel
theorem dX7_ofRow_6 : decode cX7_ofRow 6 = .ok (.goto 18, 3) := by decide +kernel
theorem dX7_ofRow_9 : decode cX7_ofRow 9 = .ok (.iload_n 2, 1) := by decide +kernel
theorem dX7_ofRow_10 : decode cX7_ofRow 10 = .ok (.iload_n 1, 1) := by decide +kernel
theorem dX7_ofRow_11 : decode cX7_ofRow 11 = .ok (.if_icmp .ge 12, 3) := by decide +kernel
theorem dX7_ofRow_14 : decode cX7_ofRow 14 = .ok (.aload_n 0, 1) := by decide +kernel
theorem dX7_ofRow_15 : decode cX7_ofRow 15 = .ok (.getfield 79, 3) := by decide +kernel
theorem dX7_ofRow_18 : decode cX7_ofRow 18 = .ok (.iload_n 2, 1) := by decide +kernel
theorem dX7_ofRow_19 : decode cX7_ofRow 19 = .ok (.iaload, 1) := by decide +kernel
theorem dX7_ofRow_20 : decode cX7_ofRow 20 = .ok (.goto 4, 3) := by decide +kernel
theorem dX7_ofRow_23 : decode cX7_ofRow 23 = .ok (.iconst (-1), 1) := by decide +kernel
theorem dX7_ofRow_24 : decode cX7_ofRow 24 = .ok (.ireturn, 1) := by decide +kernel
theorem dX7_spare_0 : decode cX7_spare 0 = .ok (.iload_n 1, 1) := by decide +kernel
theorem dX7_spare_1 : decode cX7_spare 1 = .ok (.iconst (-1), 1) := by decide +kernel
theorem dX7_spare_2 : decode cX7_spare 2 = .ok (.iconst 1, 1) := by decide +kernel
theorem dX7_spare_3 : decode cX7_spare 3 = .ok (.invokestatic 113, 3) := by decide +kernel
theorem dX7_spare_6 : decode cX7_spare 6 = .ok (.ifCond .eq 15, 3) := by decide +kernel
theorem dX7_spare_9 : decode cX7_spare 9 = .ok (.aload_n 0, 1) := by decide +kernel
theorem dX7_spare_10 : decode cX7_spare 10 = .ok (.aload_n 0, 1) := by decide +kernel
theorem dX7_spare_11 : decode cX7_spare 11 = .ok (.invokevirtual 308, 3) := by decide +kernel
theorem dX7_spare_14 : decode cX7_spare 14 = .ok (.iload_n 1, 1) := by decide +kernel
theorem dX7_spare_15 : decode cX7_spare 15 = .ok (.invokevirtual 311, 3) := by decide +kernel
theorem dX7_spare_18 : decode cX7_spare 18 = .ok (.goto 5, 3) := by decide +kernel
theorem dX7_spare_21 : decode cX7_spare 21 = .ok (.bipush (-2), 2) := by decide +kernel
theorem dX7_spare_23 : decode cX7_spare 23 = .ok (.ireturn, 1) := by decide +kernel
theorem dX7_seen_0 : decode cX7_seen 0 = .ok (.iload_n 1, 1) := by decide +kernel
theorem dX7_seen_1 : decode cX7_seen 1 = .ok (.iconst 0, 1) := by decide +kernel
theorem dX7_seen_2 : decode cX7_seen 2 = .ok (.bipush 7, 2) := by decide +kernel
theorem dX7_seen_4 : decode cX7_seen 4 = .ok (.invokestatic 113, 3) := by decide +kernel
theorem dX7_seen_7 : decode cX7_seen 7 = .ok (.ifCond .eq 10, 3) := by decide +kernel
theorem dX7_seen_10 : decode cX7_seen 10 = .ok (.iload_n 2, 1) := by decide +kernel
theorem dX7_seen_11 : decode cX7_seen 11 = .ok (.invokestatic 117, 3) := by decide +kernel
theorem dX7_seen_14 : decode cX7_seen 14 = .ok (.ifCond .ne 6, 3) := by decide +kernel
theorem dX7_seen_17 : decode cX7_seen 17 = .ok (.bipush (-2), 2) := by decide +kernel
theorem dX7_seen_19 : decode cX7_seen 19 = .ok (.ireturn, 1) := by decide +kernel
theorem dX7_seen_20 : decode cX7_seen 20 = .ok (.aload_n 0, 1) := by decide +kernel
theorem dX7_seen_21 : decode cX7_seen 21 = .ok (.getfield 314, 3) := by decide +kernel
theorem dX7_seen_24 : decode cX7_seen 24 = .ok (.bipush 8, 2) := by decide +kernel
theorem dX7_seen_26 : decode cX7_seen 26 = .ok (.if_icmp .ne 6, 3) := by decide +kernel
theorem dX7_seen_29 : decode cX7_seen 29 = .ok (.bipush (-4), 2) := by decide +kernel
theorem dX7_seen_31 : decode cX7_seen 31 = .ok (.ireturn, 1) := by decide +kernel
theorem dX7_seen_32 : decode cX7_seen 32 = .ok (.aload_n 0, 1) := by decide +kernel
theorem dX7_seen_33 : decode cX7_seen 33 = .ok (.getfield 82, 3) := by decide +kernel
theorem dX7_seen_36 : decode cX7_seen 36 = .ok (.aload_n 0, 1) := by decide +kernel
theorem dX7_seen_37 : decode cX7_seen 37 = .ok (.getfield 314, 3) := by decide +kernel
theorem dX7_seen_40 : decode cX7_seen 40 = .ok (.iload_n 1, 1) := by decide +kernel
theorem dX7_seen_41 : decode cX7_seen 41 = .ok (.iastore, 1) := by decide +kernel
theorem dX7_seen_42 : decode cX7_seen 42 = .ok (.aload_n 0, 1) := by decide +kernel
theorem dX7_seen_43 : decode cX7_seen 43 = .ok (.getfield 85, 3) := by decide +kernel
theorem dX7_seen_46 : decode cX7_seen 46 = .ok (.aload_n 0, 1) := by decide +kernel
theorem dX7_seen_47 : decode cX7_seen 47 = .ok (.getfield 314, 3) := by decide +kernel
theorem dX7_seen_50 : decode cX7_seen 50 = .ok (.iload_n 2, 1) := by decide +kernel
theorem dX7_seen_51 : decode cX7_seen 51 = .ok (.iastore, 1) := by decide +kernel
theorem dX7_seen_52 : decode cX7_seen 52 = .ok (.aload_n 0, 1) := by decide +kernel
theorem dX7_seen_53 : decode cX7_seen 53 = .ok (.dup, 1) := by decide +kernel
theorem dX7_seen_54 : decode cX7_seen 54 = .ok (.getfield 314, 3) := by decide +kernel
theorem dX7_seen_57 : decode cX7_seen 57 = .ok (.iconst 1, 1) := by decide +kernel
theorem dX7_seen_58 : decode cX7_seen 58 = .ok (.iadd, 1) := by decide +kernel
theorem dX7_seen_59 : decode cX7_seen 59 = .ok (.putfield 314, 3) := by decide +kernel
theorem dX7_seen_62 : decode cX7_seen 62 = .ok (.aload_n 0, 1) := by decide +kernel
theorem dX7_seen_63 : decode cX7_seen 63 = .ok (.getfield 314, 3) := by decide +kernel
theorem dX7_seen_66 : decode cX7_seen 66 = .ok (.ireturn, 1) := by decide +kernel
theorem dX7_forget_0 : decode cX7_forget 0 = .ok (.aload_n 0, 1) := by decide +kernel
theorem dX7_forget_1 : decode cX7_forget 1 = .ok (.getfield 314, 3) := by decide +kernel
theorem dX7_forget_4 : decode cX7_forget 4 = .ok (.istore_n 1, 1) := by decide +kernel
theorem dX7_forget_5 : decode cX7_forget 5 = .ok (.aload_n 0, 1) := by decide +kernel
theorem dX7_forget_6 : decode cX7_forget 6 = .ok (.iconst 0, 1) := by decide +kernel
theorem dX7_forget_7 : decode cX7_forget 7 = .ok (.putfield 314, 3) := by decide +kernel
theorem dX7_forget_10 : decode cX7_forget 10 = .ok (.iload_n 1, 1) := by decide +kernel
theorem dX7_forget_11 : decode cX7_forget 11 = .ok (.ireturn, 1) := by decide +kernel
theorem dX7_isSeen_0 : decode cX7_isSeen 0 = .ok (.aload_n 0, 1) := by decide +kernel
theorem dX7_isSeen_1 : decode cX7_isSeen 1 = .ok (.invokevirtual 237, 3) := by decide +kernel
theorem dX7_isSeen_4 : decode cX7_isSeen 4 = .ok (.iconst 1, 1) := by decide +kernel
theorem dX7_isSeen_5 : decode cX7_isSeen 5 = .ok (.istore_n 1, 1) := by decide +kernel
theorem dX7_isSeen_6 : decode cX7_isSeen 6 = .ok (.iconst 0, 1) := by decide +kernel
theorem dX7_isSeen_7 : decode cX7_isSeen 7 = .ok (.istore_n 2, 1) := by decide +kernel
theorem dX7_isSeen_8 : decode cX7_isSeen 8 = .ok (.iload_n 2, 1) := by decide +kernel
theorem dX7_isSeen_9 : decode cX7_isSeen 9 = .ok (.aload_n 0, 1) := by decide +kernel
theorem dX7_isSeen_10 : decode cX7_isSeen 10 = .ok (.getfield 314, 3) := by decide +kernel
theorem dX7_isSeen_13 : decode cX7_isSeen 13 = .ok (.if_icmp .ge 63, 3) := by decide +kernel
theorem dX7_isSeen_16 : decode cX7_isSeen 16 = .ok (.iload_n 1, 1) := by decide +kernel
theorem dX7_isSeen_17 : decode cX7_isSeen 17 = .ok (.ifCond .eq 59, 3) := by decide +kernel
theorem dX7_isSeen_20 : decode cX7_isSeen 20 = .ok (.aload_n 0, 1) := by decide +kernel
theorem dX7_isSeen_21 : decode cX7_isSeen 21 = .ok (.getfield 82, 3) := by decide +kernel
theorem dX7_isSeen_24 : decode cX7_isSeen 24 = .ok (.iload_n 2, 1) := by decide +kernel
theorem dX7_isSeen_25 : decode cX7_isSeen 25 = .ok (.iaload, 1) := by decide +kernel
theorem dX7_isSeen_26 : decode cX7_isSeen 26 = .ok (.aload_n 0, 1) := by decide +kernel
theorem dX7_isSeen_27 : decode cX7_isSeen 27 = .ok (.getfield 138, 3) := by decide +kernel
theorem dX7_isSeen_30 : decode cX7_isSeen 30 = .ok (.if_icmp .ge 38, 3) := by decide +kernel
theorem dX7_isSeen_33 : decode cX7_isSeen 33 = .ok (.aload_n 0, 1) := by decide +kernel
theorem dX7_isSeen_34 : decode cX7_isSeen 34 = .ok (.getfield 228, 3) := by decide +kernel
theorem dX7_isSeen_37 : decode cX7_isSeen 37 = .ok (.aload_n 0, 1) := by decide +kernel
theorem dX7_isSeen_38 : decode cX7_isSeen 38 = .ok (.getfield 82, 3) := by decide +kernel
theorem dX7_isSeen_41 : decode cX7_isSeen 41 = .ok (.iload_n 2, 1) := by decide +kernel
theorem dX7_isSeen_42 : decode cX7_isSeen 42 = .ok (.iaload, 1) := by decide +kernel
theorem dX7_isSeen_43 : decode cX7_isSeen 43 = .ok (.invokestatic 196, 3) := by decide +kernel
theorem dX7_isSeen_46 : decode cX7_isSeen 46 = .ok (.aload_n 0, 1) := by decide +kernel
theorem dX7_isSeen_47 : decode cX7_isSeen 47 = .ok (.getfield 85, 3) := by decide +kernel
theorem dX7_isSeen_50 : decode cX7_isSeen 50 = .ok (.iload_n 2, 1) := by decide +kernel
theorem dX7_isSeen_51 : decode cX7_isSeen 51 = .ok (.iaload, 1) := by decide +kernel
theorem dX7_isSeen_52 : decode cX7_isSeen 52 = .ok (.iconst 1, 1) := by decide +kernel
theorem dX7_isSeen_53 : decode cX7_isSeen 53 = .ok (.if_icmp .ne 7, 3) := by decide +kernel
theorem dX7_isSeen_56 : decode cX7_isSeen 56 = .ok (.iconst 1, 1) := by decide +kernel
theorem dX7_isSeen_57 : decode cX7_isSeen 57 = .ok (.goto 4, 3) := by decide +kernel
theorem dX7_isSeen_60 : decode cX7_isSeen 60 = .ok (.iconst 0, 1) := by decide +kernel
theorem dX7_isSeen_61 : decode cX7_isSeen 61 = .ok (.if_icmp .ne 7, 3) := by decide +kernel
theorem dX7_isSeen_64 : decode cX7_isSeen 64 = .ok (.iconst 1, 1) := by decide +kernel
theorem dX7_isSeen_65 : decode cX7_isSeen 65 = .ok (.goto 4, 3) := by decide +kernel
theorem dX7_isSeen_68 : decode cX7_isSeen 68 = .ok (.iconst 0, 1) := by decide +kernel
theorem dX7_isSeen_69 : decode cX7_isSeen 69 = .ok (.istore_n 1, 1) := by decide +kernel
theorem dX7_isSeen_70 : decode cX7_isSeen 70 = .ok (.iinc 2 1, 3) := by decide +kernel
theorem dX7_isSeen_73 : decode cX7_isSeen 73 = .ok (.goto (-65), 3) := by decide +kernel
theorem dX7_isSeen_76 : decode cX7_isSeen 76 = .ok (.iload_n 1, 1) := by decide +kernel
theorem dX7_isSeen_77 : decode cX7_isSeen 77 = .ok (.ireturn, 1) := by decide +kernel
theorem dX7_neverNow_0 : decode cX7_neverNow 0 = .ok (.aload_n 0, 1) := by decide +kernel
theorem dX7_neverNow_1 : decode cX7_neverNow 1 = .ok (.invokevirtual 234, 3) := by decide +kernel
theorem dX7_neverNow_4 : decode cX7_neverNow 4 = .ok (.iconst 0, 1) := by decide +kernel
theorem dX7_neverNow_5 : decode cX7_neverNow 5 = .ok (.istore_n 1, 1) := by decide +kernel
theorem dX7_neverNow_6 : decode cX7_neverNow 6 = .ok (.iconst 0, 1) := by decide +kernel
theorem dX7_neverNow_7 : decode cX7_neverNow 7 = .ok (.istore_n 2, 1) := by decide +kernel
theorem dX7_neverNow_8 : decode cX7_neverNow 8 = .ok (.iload_n 2, 1) := by decide +kernel
theorem dX7_neverNow_9 : decode cX7_neverNow 9 = .ok (.aload_n 0, 1) := by decide +kernel
theorem dX7_neverNow_10 : decode cX7_neverNow 10 = .ok (.getfield 171, 3) := by decide +kernel
theorem dX7_neverNow_13 : decode cX7_neverNow 13 = .ok (.if_icmp .ge 33, 3) := by decide +kernel
theorem dX7_neverNow_16 : decode cX7_neverNow 16 = .ok (.aload_n 0, 1) := by decide +kernel
theorem dX7_neverNow_17 : decode cX7_neverNow 17 = .ok (.iconst 1, 1) := by decide +kernel
theorem dX7_neverNow_18 : decode cX7_neverNow 18 = .ok (.iload_n 2, 1) := by decide +kernel
theorem dX7_neverNow_19 : decode cX7_neverNow 19 = .ok (.ishl, 1) := by decide +kernel
theorem dX7_neverNow_20 : decode cX7_neverNow 20 = .ok (.putfield 190, 3) := by decide +kernel
theorem dX7_neverNow_23 : decode cX7_neverNow 23 = .ok (.iload_n 1, 1) := by decide +kernel
theorem dX7_neverNow_24 : decode cX7_neverNow 24 = .ok (.aload_n 0, 1) := by decide +kernel
theorem dX7_neverNow_25 : decode cX7_neverNow 25 = .ok (.invokevirtual 317, 3) := by decide +kernel
theorem dX7_neverNow_28 : decode cX7_neverNow 28 = .ok (.ifCond .eq 9, 3) := by decide +kernel
theorem dX7_neverNow_31 : decode cX7_neverNow 31 = .ok (.iconst 1, 1) := by decide +kernel
theorem dX7_neverNow_32 : decode cX7_neverNow 32 = .ok (.iload_n 2, 1) := by decide +kernel
theorem dX7_neverNow_33 : decode cX7_neverNow 33 = .ok (.ishl, 1) := by decide +kernel
theorem dX7_neverNow_34 : decode cX7_neverNow 34 = .ok (.goto 4, 3) := by decide +kernel
theorem dX7_neverNow_37 : decode cX7_neverNow 37 = .ok (.iconst 0, 1) := by decide +kernel
theorem dX7_neverNow_38 : decode cX7_neverNow 38 = .ok (.ior, 1) := by decide +kernel
theorem dX7_neverNow_39 : decode cX7_neverNow 39 = .ok (.istore_n 1, 1) := by decide +kernel
theorem dX7_neverNow_40 : decode cX7_neverNow 40 = .ok (.iinc 2 1, 3) := by decide +kernel
theorem dX7_neverNow_43 : decode cX7_neverNow 43 = .ok (.goto (-35), 3) := by decide +kernel
theorem dX7_neverNow_46 : decode cX7_neverNow 46 = .ok (.iload_n 1, 1) := by decide +kernel
theorem dX7_neverNow_47 : decode cX7_neverNow 47 = .ok (.ireturn, 1) := by decide +kernel
theorem dX7_never_0 : decode cX7_never 0 = .ok (.aload_n 0, 1) := by decide +kernel
theorem dX7_never_1 : decode cX7_never 1 = .ok (.invokevirtual 321, 3) := by decide +kernel
theorem dX7_never_4 : decode cX7_never 4 = .ok (.ireturn, 1) := by decide +kernel
theorem dX7_whoseBy_0 : decode cX7_whoseBy 0 = .ok (.aload_n 0, 1) := by decide +kernel
theorem dX7_whoseBy_1 : decode cX7_whoseBy 1 = .ok (.invokevirtual 234, 3) := by decide +kernel
theorem dX7_whoseBy_4 : decode cX7_whoseBy 4 = .ok (.iconst 0, 1) := by decide +kernel
theorem dX7_whoseBy_5 : decode cX7_whoseBy 5 = .ok (.istore_n 2, 1) := by decide +kernel
theorem dX7_whoseBy_6 : decode cX7_whoseBy 6 = .ok (.iconst 0, 1) := by decide +kernel
theorem dX7_whoseBy_7 : decode cX7_whoseBy 7 = .ok (.istore_n 3, 1) := by decide +kernel
theorem dX7_whoseBy_8 : decode cX7_whoseBy 8 = .ok (.iload_n 3, 1) := by decide +kernel
theorem dX7_whoseBy_9 : decode cX7_whoseBy 9 = .ok (.bipush 10, 2) := by decide +kernel
theorem dX7_whoseBy_11 : decode cX7_whoseBy 11 = .ok (.if_icmp .ge 43, 3) := by decide +kernel
theorem dX7_whoseBy_14 : decode cX7_whoseBy 14 = .ok (.aload_n 0, 1) := by decide +kernel
theorem dX7_whoseBy_15 : decode cX7_whoseBy 15 = .ok (.getfield 49, 3) := by decide +kernel
theorem dX7_whoseBy_18 : decode cX7_whoseBy 18 = .ok (.iload_n 1, 1) := by decide +kernel
theorem dX7_whoseBy_19 : decode cX7_whoseBy 19 = .ok (.iload_n 3, 1) := by decide +kernel
theorem dX7_whoseBy_20 : decode cX7_whoseBy 20 = .ok (.iastore, 1) := by decide +kernel
theorem dX7_whoseBy_21 : decode cX7_whoseBy 21 = .ok (.iload_n 2, 1) := by decide +kernel
theorem dX7_whoseBy_22 : decode cX7_whoseBy 22 = .ok (.aload_n 0, 1) := by decide +kernel
theorem dX7_whoseBy_23 : decode cX7_whoseBy 23 = .ok (.invokevirtual 317, 3) := by decide +kernel
theorem dX7_whoseBy_26 : decode cX7_whoseBy 26 = .ok (.ifCond .eq 9, 3) := by decide +kernel
theorem dX7_whoseBy_29 : decode cX7_whoseBy 29 = .ok (.iconst 1, 1) := by decide +kernel
theorem dX7_whoseBy_30 : decode cX7_whoseBy 30 = .ok (.iload_n 3, 1) := by decide +kernel
theorem dX7_whoseBy_31 : decode cX7_whoseBy 31 = .ok (.ishl, 1) := by decide +kernel
theorem dX7_whoseBy_32 : decode cX7_whoseBy 32 = .ok (.goto 4, 3) := by decide +kernel
theorem dX7_whoseBy_35 : decode cX7_whoseBy 35 = .ok (.iconst 0, 1) := by decide +kernel
theorem dX7_whoseBy_36 : decode cX7_whoseBy 36 = .ok (.ior, 1) := by decide +kernel
theorem dX7_whoseBy_37 : decode cX7_whoseBy 37 = .ok (.istore_n 2, 1) := by decide +kernel
theorem dX7_whoseBy_38 : decode cX7_whoseBy 38 = .ok (.aload_n 0, 1) := by decide +kernel
theorem dX7_whoseBy_39 : decode cX7_whoseBy 39 = .ok (.getfield 88, 3) := by decide +kernel
theorem dX7_whoseBy_42 : decode cX7_whoseBy 42 = .ok (.iload_n 3, 1) := by decide +kernel
theorem dX7_whoseBy_43 : decode cX7_whoseBy 43 = .ok (.aload_n 0, 1) := by decide +kernel
theorem dX7_whoseBy_44 : decode cX7_whoseBy 44 = .ok (.getfield 228, 3) := by decide +kernel
theorem dX7_whoseBy_47 : decode cX7_whoseBy 47 = .ok (.iastore, 1) := by decide +kernel
theorem dX7_whoseBy_48 : decode cX7_whoseBy 48 = .ok (.iinc 3 1, 3) := by decide +kernel
theorem dX7_whoseBy_51 : decode cX7_whoseBy 51 = .ok (.goto (-43), 3) := by decide +kernel
theorem dX7_whoseBy_54 : decode cX7_whoseBy 54 = .ok (.iload_n 2, 1) := by decide +kernel
theorem dX7_whoseBy_55 : decode cX7_whoseBy 55 = .ok (.ireturn, 1) := by decide +kernel
theorem dX7_sortsBy_0 : decode cX7_sortsBy 0 = .ok (.aload_n 0, 1) := by decide +kernel
theorem dX7_sortsBy_1 : decode cX7_sortsBy 1 = .ok (.invokevirtual 234, 3) := by decide +kernel
theorem dX7_sortsBy_4 : decode cX7_sortsBy 4 = .ok (.iconst 0, 1) := by decide +kernel
theorem dX7_sortsBy_5 : decode cX7_sortsBy 5 = .ok (.istore_n 2, 1) := by decide +kernel
theorem dX7_sortsBy_6 : decode cX7_sortsBy 6 = .ok (.iconst 0, 1) := by decide +kernel
theorem dX7_sortsBy_7 : decode cX7_sortsBy 7 = .ok (.istore_n 3, 1) := by decide +kernel
theorem dX7_sortsBy_8 : decode cX7_sortsBy 8 = .ok (.iload_n 3, 1) := by decide +kernel
theorem dX7_sortsBy_9 : decode cX7_sortsBy 9 = .ok (.iconst 3, 1) := by decide +kernel
theorem dX7_sortsBy_10 : decode cX7_sortsBy 10 = .ok (.if_icmp .ge 33, 3) := by decide +kernel
theorem dX7_sortsBy_13 : decode cX7_sortsBy 13 = .ok (.aload_n 0, 1) := by decide +kernel
theorem dX7_sortsBy_14 : decode cX7_sortsBy 14 = .ok (.getfield 52, 3) := by decide +kernel
theorem dX7_sortsBy_17 : decode cX7_sortsBy 17 = .ok (.iload_n 1, 1) := by decide +kernel
theorem dX7_sortsBy_18 : decode cX7_sortsBy 18 = .ok (.iload_n 3, 1) := by decide +kernel
theorem dX7_sortsBy_19 : decode cX7_sortsBy 19 = .ok (.iastore, 1) := by decide +kernel
theorem dX7_sortsBy_20 : decode cX7_sortsBy 20 = .ok (.iload_n 2, 1) := by decide +kernel
theorem dX7_sortsBy_21 : decode cX7_sortsBy 21 = .ok (.aload_n 0, 1) := by decide +kernel
theorem dX7_sortsBy_22 : decode cX7_sortsBy 22 = .ok (.invokevirtual 317, 3) := by decide +kernel
theorem dX7_sortsBy_25 : decode cX7_sortsBy 25 = .ok (.ifCond .eq 9, 3) := by decide +kernel
theorem dX7_sortsBy_28 : decode cX7_sortsBy 28 = .ok (.iconst 1, 1) := by decide +kernel
theorem dX7_sortsBy_29 : decode cX7_sortsBy 29 = .ok (.iload_n 3, 1) := by decide +kernel
theorem dX7_sortsBy_30 : decode cX7_sortsBy 30 = .ok (.ishl, 1) := by decide +kernel
theorem dX7_sortsBy_31 : decode cX7_sortsBy 31 = .ok (.goto 4, 3) := by decide +kernel
theorem dX7_sortsBy_34 : decode cX7_sortsBy 34 = .ok (.iconst 0, 1) := by decide +kernel
theorem dX7_sortsBy_35 : decode cX7_sortsBy 35 = .ok (.ior, 1) := by decide +kernel
theorem dX7_sortsBy_36 : decode cX7_sortsBy 36 = .ok (.istore_n 2, 1) := by decide +kernel
theorem dX7_sortsBy_37 : decode cX7_sortsBy 37 = .ok (.iinc 3 1, 3) := by decide +kernel
theorem dX7_sortsBy_40 : decode cX7_sortsBy 40 = .ok (.goto (-32), 3) := by decide +kernel
theorem dX7_sortsBy_43 : decode cX7_sortsBy 43 = .ok (.iload_n 2, 1) := by decide +kernel
theorem dX7_sortsBy_44 : decode cX7_sortsBy 44 = .ok (.ireturn, 1) := by decide +kernel
theorem dX7_was_0 : decode cX7_was 0 = .ok (.aload_n 0, 1) := by decide +kernel
theorem dX7_was_1 : decode cX7_was 1 = .ok (.iload_n 1, 1) := by decide +kernel
theorem dX7_was_2 : decode cX7_was 2 = .ok (.invokevirtual 156, 3) := by decide +kernel
theorem dX7_was_5 : decode cX7_was 5 = .ok (.ifCond .eq 30, 3) := by decide +kernel
theorem dX7_was_8 : decode cX7_was 8 = .ok (.iload_n 2, 1) := by decide +kernel
theorem dX7_was_9 : decode cX7_was 9 = .ok (.invokestatic 117, 3) := by decide +kernel
theorem dX7_was_12 : decode cX7_was 12 = .ok (.ifCond .eq 23, 3) := by decide +kernel
theorem dX7_was_15 : decode cX7_was 15 = .ok (.iload_n 2, 1) := by decide +kernel
theorem dX7_was_16 : decode cX7_was 16 = .ok (.ifCond .ne 11, 3) := by decide +kernel
theorem dX7_was_19 : decode cX7_was 19 = .ok (.aload_n 0, 1) := by decide +kernel
theorem dX7_was_20 : decode cX7_was 20 = .ok (.iload_n 1, 1) := by decide +kernel
theorem dX7_was_21 : decode cX7_was 21 = .ok (.invokevirtual 324, 3) := by decide +kernel
theorem dX7_was_24 : decode cX7_was 24 = .ok (.goto 13, 3) := by decide +kernel
theorem dX7_was_27 : decode cX7_was 27 = .ok (.aload_n 0, 1) := by decide +kernel
theorem dX7_was_28 : decode cX7_was 28 = .ok (.iload_n 1, 1) := by decide +kernel
theorem dX7_was_29 : decode cX7_was 29 = .ok (.invokevirtual 327, 3) := by decide +kernel
theorem dX7_was_32 : decode cX7_was 32 = .ok (.goto 5, 3) := by decide +kernel
theorem dX7_was_35 : decode cX7_was 35 = .ok (.bipush (-2), 2) := by decide +kernel
theorem dX7_was_37 : decode cX7_was 37 = .ok (.ireturn, 1) := by decide +kernel
theorem dX7_askOf_0 : decode cX7_askOf 0 = .ok (.aload_n 0, 1) := by decide +kernel
theorem dX7_askOf_1 : decode cX7_askOf 1 = .ok (.iload_n 1, 1) := by decide +kernel
theorem dX7_askOf_2 : decode cX7_askOf 2 = .ok (.invokevirtual 324, 3) := by decide +kernel
theorem dX7_askOf_5 : decode cX7_askOf 5 = .ok (.istore_n 2, 1) := by decide +kernel
theorem dX7_askOf_6 : decode cX7_askOf 6 = .ok (.iconst (-1), 1) := by decide +kernel
theorem dX7_askOf_7 : decode cX7_askOf 7 = .ok (.istore_n 3, 1) := by decide +kernel
theorem dX7_askOf_8 : decode cX7_askOf 8 = .ok (.iconst 0, 1) := by decide +kernel
theorem dX7_askOf_9 : decode cX7_askOf 9 = .ok (.istore 4, 2) := by decide +kernel
theorem dX7_askOf_11 : decode cX7_askOf 11 = .ok (.iconst 0, 1) := by decide +kernel
theorem dX7_askOf_12 : decode cX7_askOf 12 = .ok (.istore 5, 2) := by decide +kernel
theorem dX7_askOf_14 : decode cX7_askOf 14 = .ok (.iload 5, 2) := by decide +kernel
theorem dX7_askOf_16 : decode cX7_askOf 16 = .ok (.bipush 8, 2) := by decide +kernel
theorem dX7_askOf_18 : decode cX7_askOf 18 = .ok (.if_icmp .ge 160, 3) := by decide +kernel
theorem dX7_askOf_21 : decode cX7_askOf 21 = .ok (.iconst 0, 1) := by decide +kernel
theorem dX7_askOf_22 : decode cX7_askOf 22 = .ok (.istore 6, 2) := by decide +kernel
theorem dX7_askOf_24 : decode cX7_askOf 24 = .ok (.iconst 0, 1) := by decide +kernel
theorem dX7_askOf_25 : decode cX7_askOf 25 = .ok (.istore 7, 2) := by decide +kernel
theorem dX7_askOf_27 : decode cX7_askOf 27 = .ok (.iconst 0, 1) := by decide +kernel
theorem dX7_askOf_28 : decode cX7_askOf 28 = .ok (.istore 8, 2) := by decide +kernel
theorem dX7_askOf_30 : decode cX7_askOf 30 = .ok (.iload 8, 2) := by decide +kernel
theorem dX7_askOf_32 : decode cX7_askOf 32 = .ok (.bipush 10, 2) := by decide +kernel
theorem dX7_askOf_34 : decode cX7_askOf 34 = .ok (.if_icmp .ge 77, 3) := by decide +kernel
theorem dX7_askOf_37 : decode cX7_askOf 37 = .ok (.iload 6, 2) := by decide +kernel
theorem dX7_askOf_39 : decode cX7_askOf 39 = .ok (.iload_n 2, 1) := by decide +kernel
theorem dX7_askOf_40 : decode cX7_askOf 40 = .ok (.iload 8, 2) := by decide +kernel
theorem dX7_askOf_42 : decode cX7_askOf 42 = .ok (.invokestatic 196, 3) := by decide +kernel
theorem dX7_askOf_45 : decode cX7_askOf 45 = .ok (.ifCond .eq 22, 3) := by decide +kernel
theorem dX7_askOf_48 : decode cX7_askOf 48 = .ok (.aload_n 0, 1) := by decide +kernel
theorem dX7_askOf_49 : decode cX7_askOf 49 = .ok (.getfield 88, 3) := by decide +kernel
theorem dX7_askOf_52 : decode cX7_askOf 52 = .ok (.iload 8, 2) := by decide +kernel
theorem dX7_askOf_54 : decode cX7_askOf 54 = .ok (.iaload, 1) := by decide +kernel
theorem dX7_askOf_55 : decode cX7_askOf 55 = .ok (.iload 5, 2) := by decide +kernel
theorem dX7_askOf_57 : decode cX7_askOf 57 = .ok (.invokestatic 196, 3) := by decide +kernel
theorem dX7_askOf_60 : decode cX7_askOf 60 = .ok (.ifCond .eq 7, 3) := by decide +kernel
theorem dX7_askOf_63 : decode cX7_askOf 63 = .ok (.iconst 1, 1) := by decide +kernel
theorem dX7_askOf_64 : decode cX7_askOf 64 = .ok (.goto 4, 3) := by decide +kernel
theorem dX7_askOf_67 : decode cX7_askOf 67 = .ok (.iconst 0, 1) := by decide +kernel
theorem dX7_askOf_68 : decode cX7_askOf 68 = .ok (.iadd, 1) := by decide +kernel
theorem dX7_askOf_69 : decode cX7_askOf 69 = .ok (.istore 6, 2) := by decide +kernel
theorem dX7_askOf_71 : decode cX7_askOf 71 = .ok (.iload 7, 2) := by decide +kernel
theorem dX7_askOf_73 : decode cX7_askOf 73 = .ok (.iload_n 2, 1) := by decide +kernel
theorem dX7_askOf_74 : decode cX7_askOf 74 = .ok (.iload 8, 2) := by decide +kernel
theorem dX7_askOf_76 : decode cX7_askOf 76 = .ok (.invokestatic 196, 3) := by decide +kernel
theorem dX7_askOf_79 : decode cX7_askOf 79 = .ok (.ifCond .eq 22, 3) := by decide +kernel
theorem dX7_askOf_82 : decode cX7_askOf 82 = .ok (.aload_n 0, 1) := by decide +kernel
theorem dX7_askOf_83 : decode cX7_askOf 83 = .ok (.getfield 88, 3) := by decide +kernel
theorem dX7_askOf_86 : decode cX7_askOf 86 = .ok (.iload 8, 2) := by decide +kernel
theorem dX7_askOf_88 : decode cX7_askOf 88 = .ok (.iaload, 1) := by decide +kernel
theorem dX7_askOf_89 : decode cX7_askOf 89 = .ok (.iload 5, 2) := by decide +kernel
theorem dX7_askOf_91 : decode cX7_askOf 91 = .ok (.invokestatic 196, 3) := by decide +kernel
theorem dX7_askOf_94 : decode cX7_askOf 94 = .ok (.ifCond .ne 7, 3) := by decide +kernel
theorem dX7_askOf_97 : decode cX7_askOf 97 = .ok (.iconst 1, 1) := by decide +kernel
theorem dX7_askOf_98 : decode cX7_askOf 98 = .ok (.goto 4, 3) := by decide +kernel
theorem dX7_askOf_101 : decode cX7_askOf 101 = .ok (.iconst 0, 1) := by decide +kernel
theorem dX7_askOf_102 : decode cX7_askOf 102 = .ok (.iadd, 1) := by decide +kernel
theorem dX7_askOf_103 : decode cX7_askOf 103 = .ok (.istore 7, 2) := by decide +kernel
theorem dX7_askOf_105 : decode cX7_askOf 105 = .ok (.iinc 8 1, 3) := by decide +kernel
theorem dX7_askOf_108 : decode cX7_askOf 108 = .ok (.goto (-78), 3) := by decide +kernel
theorem dX7_askOf_111 : decode cX7_askOf 111 = .ok (.iload 6, 2) := by decide +kernel
theorem dX7_askOf_113 : decode cX7_askOf 113 = .ok (.iload 7, 2) := by decide +kernel
theorem dX7_askOf_115 : decode cX7_askOf 115 = .ok (.if_icmp .le 8, 3) := by decide +kernel
theorem dX7_askOf_118 : decode cX7_askOf 118 = .ok (.iload 6, 2) := by decide +kernel
theorem dX7_askOf_120 : decode cX7_askOf 120 = .ok (.goto 5, 3) := by decide +kernel
theorem dX7_askOf_123 : decode cX7_askOf 123 = .ok (.iload 7, 2) := by decide +kernel
theorem dX7_askOf_125 : decode cX7_askOf 125 = .ok (.istore 8, 2) := by decide +kernel
theorem dX7_askOf_127 : decode cX7_askOf 127 = .ok (.iload_n 3, 1) := by decide +kernel
theorem dX7_askOf_128 : decode cX7_askOf 128 = .ok (.iconst (-1), 1) := by decide +kernel
theorem dX7_askOf_129 : decode cX7_askOf 129 = .ok (.if_icmp .eq 10, 3) := by decide +kernel
theorem dX7_askOf_132 : decode cX7_askOf 132 = .ok (.iload 8, 2) := by decide +kernel
theorem dX7_askOf_134 : decode cX7_askOf 134 = .ok (.iload 4, 2) := by decide +kernel
theorem dX7_askOf_136 : decode cX7_askOf 136 = .ok (.if_icmp .ge 7, 3) := by decide +kernel
theorem dX7_askOf_139 : decode cX7_askOf 139 = .ok (.iconst 1, 1) := by decide +kernel
theorem dX7_askOf_140 : decode cX7_askOf 140 = .ok (.goto 4, 3) := by decide +kernel
theorem dX7_askOf_143 : decode cX7_askOf 143 = .ok (.iconst 0, 1) := by decide +kernel
theorem dX7_askOf_144 : decode cX7_askOf 144 = .ok (.istore 9, 2) := by decide +kernel
theorem dX7_askOf_146 : decode cX7_askOf 146 = .ok (.iload 9, 2) := by decide +kernel
theorem dX7_askOf_148 : decode cX7_askOf 148 = .ok (.ifCond .eq 8, 3) := by decide +kernel
theorem dX7_askOf_151 : decode cX7_askOf 151 = .ok (.iload 5, 2) := by decide +kernel
theorem dX7_askOf_153 : decode cX7_askOf 153 = .ok (.goto 4, 3) := by decide +kernel
theorem dX7_askOf_156 : decode cX7_askOf 156 = .ok (.iload_n 3, 1) := by decide +kernel
theorem dX7_askOf_157 : decode cX7_askOf 157 = .ok (.istore_n 3, 1) := by decide +kernel
theorem dX7_askOf_158 : decode cX7_askOf 158 = .ok (.iload 9, 2) := by decide +kernel
theorem dX7_askOf_160 : decode cX7_askOf 160 = .ok (.ifCond .eq 8, 3) := by decide +kernel
theorem dX7_askOf_163 : decode cX7_askOf 163 = .ok (.iload 8, 2) := by decide +kernel
theorem dX7_askOf_165 : decode cX7_askOf 165 = .ok (.goto 5, 3) := by decide +kernel
theorem dX7_askOf_168 : decode cX7_askOf 168 = .ok (.iload 4, 2) := by decide +kernel
theorem dX7_askOf_170 : decode cX7_askOf 170 = .ok (.istore 4, 2) := by decide +kernel
theorem dX7_askOf_172 : decode cX7_askOf 172 = .ok (.iinc 5 1, 3) := by decide +kernel
theorem dX7_askOf_175 : decode cX7_askOf 175 = .ok (.goto (-161), 3) := by decide +kernel
theorem dX7_askOf_178 : decode cX7_askOf 178 = .ok (.iload_n 3, 1) := by decide +kernel
theorem dX7_askOf_179 : decode cX7_askOf 179 = .ok (.ireturn, 1) := by decide +kernel
theorem dX7_ask_0 : decode cX7_ask 0 = .ok (.aload_n 0, 1) := by decide +kernel
theorem dX7_ask_1 : decode cX7_ask 1 = .ok (.iload_n 1, 1) := by decide +kernel
theorem dX7_ask_2 : decode cX7_ask 2 = .ok (.invokevirtual 156, 3) := by decide +kernel
theorem dX7_ask_5 : decode cX7_ask 5 = .ok (.ifCond .eq 11, 3) := by decide +kernel
theorem dX7_ask_8 : decode cX7_ask 8 = .ok (.aload_n 0, 1) := by decide +kernel
theorem dX7_ask_9 : decode cX7_ask 9 = .ok (.iload_n 1, 1) := by decide +kernel
theorem dX7_ask_10 : decode cX7_ask 10 = .ok (.invokevirtual 330, 3) := by decide +kernel
theorem dX7_ask_13 : decode cX7_ask 13 = .ok (.goto 5, 3) := by decide +kernel
theorem dX7_ask_16 : decode cX7_ask 16 = .ok (.bipush (-2), 2) := by decide +kernel
theorem dX7_ask_18 : decode cX7_ask 18 = .ok (.ireturn, 1) := by decide +kernel
theorem dX7_chanceOf_0 : decode cX7_chanceOf 0 = .ok (.aload_n 0, 1) := by decide +kernel
theorem dX7_chanceOf_1 : decode cX7_chanceOf 1 = .ok (.invokevirtual 234, 3) := by decide +kernel
theorem dX7_chanceOf_4 : decode cX7_chanceOf 4 = .ok (.lconst 0, 1) := by decide +kernel
theorem dX7_chanceOf_5 : decode cX7_chanceOf 5 = .ok (.lstore 4, 2) := by decide +kernel
theorem dX7_chanceOf_7 : decode cX7_chanceOf 7 = .ok (.iconst 0, 1) := by decide +kernel
theorem dX7_chanceOf_8 : decode cX7_chanceOf 8 = .ok (.istore 6, 2) := by decide +kernel
theorem dX7_chanceOf_10 : decode cX7_chanceOf 10 = .ok (.iload 6, 2) := by decide +kernel
theorem dX7_chanceOf_12 : decode cX7_chanceOf 12 = .ok (.iconst 1, 1) := by decide +kernel
theorem dX7_chanceOf_13 : decode cX7_chanceOf 13 = .ok (.aload_n 0, 1) := by decide +kernel
theorem dX7_chanceOf_14 : decode cX7_chanceOf 14 = .ok (.getfield 171, 3) := by decide +kernel
theorem dX7_chanceOf_17 : decode cX7_chanceOf 17 = .ok (.ishl, 1) := by decide +kernel
theorem dX7_chanceOf_18 : decode cX7_chanceOf 18 = .ok (.if_icmp .ge 94, 3) := by decide +kernel
theorem dX7_chanceOf_21 : decode cX7_chanceOf 21 = .ok (.lconst 1, 1) := by decide +kernel
theorem dX7_chanceOf_22 : decode cX7_chanceOf 22 = .ok (.lstore 7, 2) := by decide +kernel
theorem dX7_chanceOf_24 : decode cX7_chanceOf 24 = .ok (.iconst 0, 1) := by decide +kernel
theorem dX7_chanceOf_25 : decode cX7_chanceOf 25 = .ok (.istore 9, 2) := by decide +kernel
theorem dX7_chanceOf_27 : decode cX7_chanceOf 27 = .ok (.iload 9, 2) := by decide +kernel
theorem dX7_chanceOf_29 : decode cX7_chanceOf 29 = .ok (.aload_n 0, 1) := by decide +kernel
theorem dX7_chanceOf_30 : decode cX7_chanceOf 30 = .ok (.getfield 171, 3) := by decide +kernel
theorem dX7_chanceOf_33 : decode cX7_chanceOf 33 = .ok (.if_icmp .ge 34, 3) := by decide +kernel
theorem dX7_chanceOf_36 : decode cX7_chanceOf 36 = .ok (.lload 7, 2) := by decide +kernel
theorem dX7_chanceOf_38 : decode cX7_chanceOf 38 = .ok (.iload 6, 2) := by decide +kernel
theorem dX7_chanceOf_40 : decode cX7_chanceOf 40 = .ok (.iload 9, 2) := by decide +kernel
theorem dX7_chanceOf_42 : decode cX7_chanceOf 42 = .ok (.invokestatic 196, 3) := by decide +kernel
theorem dX7_chanceOf_45 : decode cX7_chanceOf 45 = .ok (.ifCond .eq 11, 3) := by decide +kernel
theorem dX7_chanceOf_48 : decode cX7_chanceOf 48 = .ok (.bipush 16, 2) := by decide +kernel
theorem dX7_chanceOf_50 : decode cX7_chanceOf 50 = .ok (.iload_n 1, 1) := by decide +kernel
theorem dX7_chanceOf_51 : decode cX7_chanceOf 51 = .ok (.isub, 1) := by decide +kernel
theorem dX7_chanceOf_52 : decode cX7_chanceOf 52 = .ok (.i2l, 1) := by decide +kernel
theorem dX7_chanceOf_53 : decode cX7_chanceOf 53 = .ok (.goto 5, 3) := by decide +kernel
theorem dX7_chanceOf_56 : decode cX7_chanceOf 56 = .ok (.iload_n 1, 1) := by decide +kernel
theorem dX7_chanceOf_57 : decode cX7_chanceOf 57 = .ok (.i2l, 1) := by decide +kernel
theorem dX7_chanceOf_58 : decode cX7_chanceOf 58 = .ok (.lmul, 1) := by decide +kernel
theorem dX7_chanceOf_59 : decode cX7_chanceOf 59 = .ok (.lstore 7, 2) := by decide +kernel
theorem dX7_chanceOf_61 : decode cX7_chanceOf 61 = .ok (.iinc 9 1, 3) := by decide +kernel
theorem dX7_chanceOf_64 : decode cX7_chanceOf 64 = .ok (.goto (-37), 3) := by decide +kernel
theorem dX7_chanceOf_67 : decode cX7_chanceOf 67 = .ok (.lload 7, 2) := by decide +kernel
theorem dX7_chanceOf_69 : decode cX7_chanceOf 69 = .ok (.lconst 0, 1) := by decide +kernel
theorem dX7_chanceOf_70 : decode cX7_chanceOf 70 = .ok (.lcmp, 1) := by decide +kernel
theorem dX7_chanceOf_71 : decode cX7_chanceOf 71 = .ok (.ifCond .le 35, 3) := by decide +kernel
theorem dX7_chanceOf_74 : decode cX7_chanceOf 74 = .ok (.aload_n 0, 1) := by decide +kernel
theorem dX7_chanceOf_75 : decode cX7_chanceOf 75 = .ok (.iload 6, 2) := by decide +kernel
theorem dX7_chanceOf_77 : decode cX7_chanceOf 77 = .ok (.putfield 190, 3) := by decide +kernel
theorem dX7_chanceOf_80 : decode cX7_chanceOf 80 = .ok (.aload_n 0, 1) := by decide +kernel
theorem dX7_chanceOf_81 : decode cX7_chanceOf 81 = .ok (.invokevirtual 237, 3) := by decide +kernel
theorem dX7_chanceOf_84 : decode cX7_chanceOf 84 = .ok (.lload 4, 2) := by decide +kernel
theorem dX7_chanceOf_86 : decode cX7_chanceOf 86 = .ok (.aload_n 0, 1) := by decide +kernel
theorem dX7_chanceOf_87 : decode cX7_chanceOf 87 = .ok (.getfield 228, 3) := by decide +kernel
theorem dX7_chanceOf_90 : decode cX7_chanceOf 90 = .ok (.iload_n 2, 1) := by decide +kernel
theorem dX7_chanceOf_91 : decode cX7_chanceOf 91 = .ok (.invokestatic 196, 3) := by decide +kernel
theorem dX7_chanceOf_94 : decode cX7_chanceOf 94 = .ok (.ifCond .eq 8, 3) := by decide +kernel
theorem dX7_chanceOf_97 : decode cX7_chanceOf 97 = .ok (.lload 7, 2) := by decide +kernel
theorem dX7_chanceOf_99 : decode cX7_chanceOf 99 = .ok (.goto 4, 3) := by decide +kernel
theorem dX7_chanceOf_102 : decode cX7_chanceOf 102 = .ok (.lconst 0, 1) := by decide +kernel
theorem dX7_chanceOf_103 : decode cX7_chanceOf 103 = .ok (.ladd, 1) := by decide +kernel
theorem dX7_chanceOf_104 : decode cX7_chanceOf 104 = .ok (.lstore 4, 2) := by decide +kernel
theorem dX7_chanceOf_106 : decode cX7_chanceOf 106 = .ok (.iinc 6 1, 3) := by decide +kernel
theorem dX7_chanceOf_109 : decode cX7_chanceOf 109 = .ok (.goto (-99), 3) := by decide +kernel
theorem dX7_chanceOf_112 : decode cX7_chanceOf 112 = .ok (.lload 4, 2) := by decide +kernel
theorem dX7_chanceOf_114 : decode cX7_chanceOf 114 = .ok (.lconst 1, 1) := by decide +kernel
theorem dX7_chanceOf_115 : decode cX7_chanceOf 115 = .ok (.iconst 4, 1) := by decide +kernel
theorem dX7_chanceOf_116 : decode cX7_chanceOf 116 = .ok (.aload_n 0, 1) := by decide +kernel
theorem dX7_chanceOf_117 : decode cX7_chanceOf 117 = .ok (.getfield 171, 3) := by decide +kernel
theorem dX7_chanceOf_120 : decode cX7_chanceOf 120 = .ok (.imul, 1) := by decide +kernel
theorem dX7_chanceOf_121 : decode cX7_chanceOf 121 = .ok (.lshl, 1) := by decide +kernel
theorem dX7_chanceOf_122 : decode cX7_chanceOf 122 = .ok (.iload_n 3, 1) := by decide +kernel
theorem dX7_chanceOf_123 : decode cX7_chanceOf 123 = .ok (.invokestatic 333, 3) := by decide +kernel
theorem dX7_chanceOf_126 : decode cX7_chanceOf 126 = .ok (.lreturn, 1) := by decide +kernel
theorem dX7_chance_0 : decode cX7_chance 0 = .ok (.iload_n 1, 1) := by decide +kernel
theorem dX7_chance_1 : decode cX7_chance 1 = .ok (.iconst 0, 1) := by decide +kernel
theorem dX7_chance_2 : decode cX7_chance 2 = .ok (.bipush 16, 2) := by decide +kernel
theorem dX7_chance_4 : decode cX7_chance 4 = .ok (.invokestatic 113, 3) := by decide +kernel
theorem dX7_chance_7 : decode cX7_chance 7 = .ok (.ifCond .eq 28, 3) := by decide +kernel
theorem dX7_chance_10 : decode cX7_chance 10 = .ok (.aload_n 0, 1) := by decide +kernel
theorem dX7_chance_11 : decode cX7_chance 11 = .ok (.iload_n 2, 1) := by decide +kernel
theorem dX7_chance_12 : decode cX7_chance 12 = .ok (.invokevirtual 162, 3) := by decide +kernel
theorem dX7_chance_15 : decode cX7_chance 15 = .ok (.ifCond .eq 20, 3) := by decide +kernel
theorem dX7_chance_18 : decode cX7_chance 18 = .ok (.iload_n 3, 1) := by decide +kernel
theorem dX7_chance_19 : decode cX7_chance 19 = .ok (.invokestatic 117, 3) := by decide +kernel
theorem dX7_chance_22 : decode cX7_chance 22 = .ok (.ifCond .eq 13, 3) := by decide +kernel
theorem dX7_chance_25 : decode cX7_chance 25 = .ok (.aload_n 0, 1) := by decide +kernel
theorem dX7_chance_26 : decode cX7_chance 26 = .ok (.iload_n 1, 1) := by decide +kernel
theorem dX7_chance_27 : decode cX7_chance 27 = .ok (.iload_n 2, 1) := by decide +kernel
theorem dX7_chance_28 : decode cX7_chance 28 = .ok (.iload_n 3, 1) := by decide +kernel
theorem dX7_chance_29 : decode cX7_chance 29 = .ok (.invokevirtual 337, 3) := by decide +kernel
theorem dX7_chance_32 : decode cX7_chance 32 = .ok (.goto 8, 3) := by decide +kernel
theorem dX7_chance_35 : decode cX7_chance 35 = .ok (.bipush (-2), 2) := by decide +kernel
theorem dX7_chance_37 : decode cX7_chance 37 = .ok (.invokestatic 341, 3) := by decide +kernel
theorem dX7_chance_40 : decode cX7_chance 40 = .ok (.lreturn, 1) := by decide +kernel
theorem dX7_livesOf_0 : decode cX7_livesOf 0 = .ok (.aload_n 0, 1) := by decide +kernel
theorem dX7_livesOf_1 : decode cX7_livesOf 1 = .ok (.invokevirtual 234, 3) := by decide +kernel
theorem dX7_livesOf_4 : decode cX7_livesOf 4 = .ok (.iload_n 1, 1) := by decide +kernel
theorem dX7_livesOf_5 : decode cX7_livesOf 5 = .ok (.istore 4, 2) := by decide +kernel
theorem dX7_livesOf_7 : decode cX7_livesOf 7 = .ok (.aload_n 0, 1) := by decide +kernel
theorem dX7_livesOf_8 : decode cX7_livesOf 8 = .ok (.iload_n 2, 1) := by decide +kernel
theorem dX7_livesOf_9 : decode cX7_livesOf 9 = .ok (.putfield 184, 3) := by decide +kernel
theorem dX7_livesOf_12 : decode cX7_livesOf 12 = .ok (.iconst 0, 1) := by decide +kernel
theorem dX7_livesOf_13 : decode cX7_livesOf 13 = .ok (.istore 5, 2) := by decide +kernel
theorem dX7_livesOf_15 : decode cX7_livesOf 15 = .ok (.iload 5, 2) := by decide +kernel
theorem dX7_livesOf_17 : decode cX7_livesOf 17 = .ok (.iload_n 2, 1) := by decide +kernel
theorem dX7_livesOf_18 : decode cX7_livesOf 18 = .ok (.if_icmp .ge 116, 3) := by decide +kernel
theorem dX7_livesOf_21 : decode cX7_livesOf 21 = .ok (.ldc_w 345, 3) := by decide +kernel
theorem dX7_livesOf_24 : decode cX7_livesOf 24 = .ok (.iload 4, 2) := by decide +kernel
theorem dX7_livesOf_26 : decode cX7_livesOf 26 = .ok (.imul, 1) := by decide +kernel
theorem dX7_livesOf_27 : decode cX7_livesOf 27 = .ok (.sipush 12345, 3) := by decide +kernel
theorem dX7_livesOf_30 : decode cX7_livesOf 30 = .ok (.iadd, 1) := by decide +kernel
theorem dX7_livesOf_31 : decode cX7_livesOf 31 = .ok (.istore 4, 2) := by decide +kernel
theorem dX7_livesOf_33 : decode cX7_livesOf 33 = .ok (.aload_n 0, 1) := by decide +kernel
theorem dX7_livesOf_34 : decode cX7_livesOf 34 = .ok (.getfield 43, 3) := by decide +kernel
theorem dX7_livesOf_37 : decode cX7_livesOf 37 = .ok (.iload 5, 2) := by decide +kernel
theorem dX7_livesOf_39 : decode cX7_livesOf 39 = .ok (.iload 4, 2) := by decide +kernel
theorem dX7_livesOf_41 : decode cX7_livesOf 41 = .ok (.bipush 16, 2) := by decide +kernel
theorem dX7_livesOf_43 : decode cX7_livesOf 43 = .ok (.iushr, 1) := by decide +kernel
theorem dX7_livesOf_44 : decode cX7_livesOf 44 = .ok (.bipush 24, 2) := by decide +kernel
theorem dX7_livesOf_46 : decode cX7_livesOf 46 = .ok (.irem, 1) := by decide +kernel
theorem dX7_livesOf_47 : decode cX7_livesOf 47 = .ok (.iastore, 1) := by decide +kernel
theorem dX7_livesOf_48 : decode cX7_livesOf 48 = .ok (.ldc_w 345, 3) := by decide +kernel
theorem dX7_livesOf_51 : decode cX7_livesOf 51 = .ok (.iload 4, 2) := by decide +kernel
theorem dX7_livesOf_53 : decode cX7_livesOf 53 = .ok (.imul, 1) := by decide +kernel
theorem dX7_livesOf_54 : decode cX7_livesOf 54 = .ok (.sipush 12345, 3) := by decide +kernel
theorem dX7_livesOf_57 : decode cX7_livesOf 57 = .ok (.iadd, 1) := by decide +kernel
theorem dX7_livesOf_58 : decode cX7_livesOf 58 = .ok (.istore 4, 2) := by decide +kernel
theorem dX7_livesOf_60 : decode cX7_livesOf 60 = .ok (.aload_n 0, 1) := by decide +kernel
theorem dX7_livesOf_61 : decode cX7_livesOf 61 = .ok (.getfield 46, 3) := by decide +kernel
theorem dX7_livesOf_64 : decode cX7_livesOf 64 = .ok (.iload 5, 2) := by decide +kernel
theorem dX7_livesOf_66 : decode cX7_livesOf 66 = .ok (.iload 4, 2) := by decide +kernel
theorem dX7_livesOf_68 : decode cX7_livesOf 68 = .ok (.bipush 16, 2) := by decide +kernel
theorem dX7_livesOf_70 : decode cX7_livesOf 70 = .ok (.iushr, 1) := by decide +kernel
theorem dX7_livesOf_71 : decode cX7_livesOf 71 = .ok (.bipush 8, 2) := by decide +kernel
theorem dX7_livesOf_73 : decode cX7_livesOf 73 = .ok (.irem, 1) := by decide +kernel
theorem dX7_livesOf_74 : decode cX7_livesOf 74 = .ok (.iastore, 1) := by decide +kernel
theorem dX7_livesOf_75 : decode cX7_livesOf 75 = .ok (.ldc_w 345, 3) := by decide +kernel
theorem dX7_livesOf_78 : decode cX7_livesOf 78 = .ok (.iload 4, 2) := by decide +kernel
theorem dX7_livesOf_80 : decode cX7_livesOf 80 = .ok (.imul, 1) := by decide +kernel
theorem dX7_livesOf_81 : decode cX7_livesOf 81 = .ok (.sipush 12345, 3) := by decide +kernel
theorem dX7_livesOf_84 : decode cX7_livesOf 84 = .ok (.iadd, 1) := by decide +kernel
theorem dX7_livesOf_85 : decode cX7_livesOf 85 = .ok (.istore 4, 2) := by decide +kernel
theorem dX7_livesOf_87 : decode cX7_livesOf 87 = .ok (.aload_n 0, 1) := by decide +kernel
theorem dX7_livesOf_88 : decode cX7_livesOf 88 = .ok (.getfield 49, 3) := by decide +kernel
theorem dX7_livesOf_91 : decode cX7_livesOf 91 = .ok (.iload 5, 2) := by decide +kernel
theorem dX7_livesOf_93 : decode cX7_livesOf 93 = .ok (.iload 4, 2) := by decide +kernel
theorem dX7_livesOf_95 : decode cX7_livesOf 95 = .ok (.bipush 16, 2) := by decide +kernel
theorem dX7_livesOf_97 : decode cX7_livesOf 97 = .ok (.iushr, 1) := by decide +kernel
theorem dX7_livesOf_98 : decode cX7_livesOf 98 = .ok (.bipush 10, 2) := by decide +kernel
theorem dX7_livesOf_100 : decode cX7_livesOf 100 = .ok (.irem, 1) := by decide +kernel
theorem dX7_livesOf_101 : decode cX7_livesOf 101 = .ok (.iastore, 1) := by decide +kernel
theorem dX7_livesOf_102 : decode cX7_livesOf 102 = .ok (.ldc_w 345, 3) := by decide +kernel
theorem dX7_livesOf_105 : decode cX7_livesOf 105 = .ok (.iload 4, 2) := by decide +kernel
theorem dX7_livesOf_107 : decode cX7_livesOf 107 = .ok (.imul, 1) := by decide +kernel
theorem dX7_livesOf_108 : decode cX7_livesOf 108 = .ok (.sipush 12345, 3) := by decide +kernel
theorem dX7_livesOf_111 : decode cX7_livesOf 111 = .ok (.iadd, 1) := by decide +kernel
theorem dX7_livesOf_112 : decode cX7_livesOf 112 = .ok (.istore 4, 2) := by decide +kernel
theorem dX7_livesOf_114 : decode cX7_livesOf 114 = .ok (.aload_n 0, 1) := by decide +kernel
theorem dX7_livesOf_115 : decode cX7_livesOf 115 = .ok (.getfield 52, 3) := by decide +kernel
theorem dX7_livesOf_118 : decode cX7_livesOf 118 = .ok (.iload 5, 2) := by decide +kernel
theorem dX7_livesOf_120 : decode cX7_livesOf 120 = .ok (.iload 4, 2) := by decide +kernel
theorem dX7_livesOf_122 : decode cX7_livesOf 122 = .ok (.bipush 16, 2) := by decide +kernel
theorem dX7_livesOf_124 : decode cX7_livesOf 124 = .ok (.iushr, 1) := by decide +kernel
theorem dX7_livesOf_125 : decode cX7_livesOf 125 = .ok (.iconst 3, 1) := by decide +kernel
theorem dX7_livesOf_126 : decode cX7_livesOf 126 = .ok (.irem, 1) := by decide +kernel
theorem dX7_livesOf_127 : decode cX7_livesOf 127 = .ok (.iastore, 1) := by decide +kernel
theorem dX7_livesOf_128 : decode cX7_livesOf 128 = .ok (.iinc 5 1, 3) := by decide +kernel
theorem dX7_livesOf_131 : decode cX7_livesOf 131 = .ok (.goto (-116), 3) := by decide +kernel
theorem dX7_livesOf_134 : decode cX7_livesOf 134 = .ok (.aload_n 0, 1) := by decide +kernel
theorem dX7_livesOf_135 : decode cX7_livesOf 135 = .ok (.invokevirtual 237, 3) := by decide +kernel
theorem dX7_livesOf_138 : decode cX7_livesOf 138 = .ok (.iload_n 3, 1) := by decide +kernel
theorem dX7_livesOf_139 : decode cX7_livesOf 139 = .ok (.ifCond .ne 13, 3) := by decide +kernel
theorem dX7_livesOf_142 : decode cX7_livesOf 142 = .ok (.aload_n 0, 1) := by decide +kernel
theorem dX7_livesOf_143 : decode cX7_livesOf 143 = .ok (.getfield 228, 3) := by decide +kernel
theorem dX7_livesOf_146 : decode cX7_livesOf 146 = .ok (.invokestatic 259, 3) := by decide +kernel
theorem dX7_livesOf_149 : decode cX7_livesOf 149 = .ok (.goto 7, 3) := by decide +kernel
theorem dX7_livesOf_152 : decode cX7_livesOf 152 = .ok (.aload_n 0, 1) := by decide +kernel
theorem dX7_livesOf_153 : decode cX7_livesOf 153 = .ok (.invokevirtual 262, 3) := by decide +kernel
theorem dX7_livesOf_156 : decode cX7_livesOf 156 = .ok (.ireturn, 1) := by decide +kernel
theorem dX7_lives_0 : decode cX7_lives 0 = .ok (.iload_n 2, 1) := by decide +kernel
theorem dX7_lives_1 : decode cX7_lives 1 = .ok (.iconst 0, 1) := by decide +kernel
theorem dX7_lives_2 : decode cX7_lives 2 = .ok (.bipush 12, 2) := by decide +kernel
theorem dX7_lives_4 : decode cX7_lives 4 = .ok (.invokestatic 113, 3) := by decide +kernel
theorem dX7_lives_7 : decode cX7_lives 7 = .ok (.ifCond .eq 20, 3) := by decide +kernel
theorem dX7_lives_10 : decode cX7_lives 10 = .ok (.iload_n 3, 1) := by decide +kernel
theorem dX7_lives_11 : decode cX7_lives 11 = .ok (.invokestatic 117, 3) := by decide +kernel
theorem dX7_lives_14 : decode cX7_lives 14 = .ok (.ifCond .eq 13, 3) := by decide +kernel
theorem dX7_lives_17 : decode cX7_lives 17 = .ok (.aload_n 0, 1) := by decide +kernel
theorem dX7_lives_18 : decode cX7_lives 18 = .ok (.iload_n 1, 1) := by decide +kernel
theorem dX7_lives_19 : decode cX7_lives 19 = .ok (.iload_n 2, 1) := by decide +kernel
theorem dX7_lives_20 : decode cX7_lives 20 = .ok (.iload_n 3, 1) := by decide +kernel
theorem dX7_lives_21 : decode cX7_lives 21 = .ok (.invokevirtual 346, 3) := by decide +kernel
theorem dX7_lives_24 : decode cX7_lives 24 = .ok (.goto 5, 3) := by decide +kernel
theorem dX7_lives_27 : decode cX7_lives 27 = .ok (.bipush (-2), 2) := by decide +kernel
theorem dX7_lives_29 : decode cX7_lives 29 = .ok (.ireturn, 1) := by decide +kernel
theorem dX7_meets_0 : decode cX7_meets 0 = .ok (.aload_n 0, 1) := by decide +kernel
theorem dX7_meets_1 : decode cX7_meets 1 = .ok (.iload_n 1, 1) := by decide +kernel
theorem dX7_meets_2 : decode cX7_meets 2 = .ok (.putfield 349, 3) := by decide +kernel
theorem dX7_meets_5 : decode cX7_meets 5 = .ok (.bipush (-10), 2) := by decide +kernel
theorem dX7_meets_7 : decode cX7_meets 7 = .ok (.iload_n 1, 1) := by decide +kernel
theorem dX7_meets_8 : decode cX7_meets 8 = .ok (.isub, 1) := by decide +kernel
theorem dX7_meets_9 : decode cX7_meets 9 = .ok (.ireturn, 1) := by decide +kernel
theorem dX7_isSheet_0 : decode cX7_isSheet 0 = .ok (.iload_n 0, 1) := by decide +kernel
theorem dX7_isSheet_1 : decode cX7_isSheet 1 = .ok (.iconst 0, 1) := by decide +kernel
theorem dX7_isSheet_2 : decode cX7_isSheet 2 = .ok (.iconst 3, 1) := by decide +kernel
theorem dX7_isSheet_3 : decode cX7_isSheet 3 = .ok (.invokestatic 113, 3) := by decide +kernel
theorem dX7_isSheet_6 : decode cX7_isSheet 6 = .ok (.ireturn, 1) := by decide +kernel
theorem dX7_sheet_0 : decode cX7_sheet 0 = .ok (.iload_n 1, 1) := by decide +kernel
theorem dX7_sheet_1 : decode cX7_sheet 1 = .ok (.invokestatic 174, 3) := by decide +kernel
theorem dX7_sheet_4 : decode cX7_sheet 4 = .ok (.ifCond .eq 18, 3) := by decide +kernel
theorem dX7_sheet_7 : decode cX7_sheet 7 = .ok (.iload_n 2, 1) := by decide +kernel
theorem dX7_sheet_8 : decode cX7_sheet 8 = .ok (.iconst 0, 1) := by decide +kernel
theorem dX7_sheet_9 : decode cX7_sheet 9 = .ok (.iconst 2, 1) := by decide +kernel
theorem dX7_sheet_10 : decode cX7_sheet 10 = .ok (.invokestatic 113, 3) := by decide +kernel
theorem dX7_sheet_13 : decode cX7_sheet 13 = .ok (.ifCond .eq 9, 3) := by decide +kernel
theorem dX7_sheet_16 : decode cX7_sheet 16 = .ok (.iload_n 3, 1) := by decide +kernel
theorem dX7_sheet_17 : decode cX7_sheet 17 = .ok (.bipush 60, 2) := by decide +kernel
theorem dX7_sheet_19 : decode cX7_sheet 19 = .ok (.if_icmp .le 6, 3) := by decide +kernel
theorem dX7_sheet_22 : decode cX7_sheet 22 = .ok (.bipush (-2), 2) := by decide +kernel
theorem dX7_sheet_24 : decode cX7_sheet 24 = .ok (.ireturn, 1) := by decide +kernel
theorem dX7_sheet_25 : decode cX7_sheet 25 = .ok (.iload_n 3, 1) := by decide +kernel
theorem dX7_sheet_26 : decode cX7_sheet 26 = .ok (.ifCond .ge 9, 3) := by decide +kernel
theorem dX7_sheet_29 : decode cX7_sheet 29 = .ok (.aload_n 0, 1) := by decide +kernel
theorem dX7_sheet_30 : decode cX7_sheet 30 = .ok (.iconst 5, 1) := by decide +kernel
theorem dX7_sheet_31 : decode cX7_sheet 31 = .ok (.invokevirtual 177, 3) := by decide +kernel
theorem dX7_sheet_34 : decode cX7_sheet 34 = .ok (.ireturn, 1) := by decide +kernel
theorem dX7_sheet_35 : decode cX7_sheet 35 = .ok (.aload_n 0, 1) := by decide +kernel
theorem dX7_sheet_36 : decode cX7_sheet 36 = .ok (.getfield 91, 3) := by decide +kernel
theorem dX7_sheet_39 : decode cX7_sheet 39 = .ok (.iload_n 1, 1) := by decide +kernel
theorem dX7_sheet_40 : decode cX7_sheet 40 = .ok (.iconst 1, 1) := by decide +kernel
theorem dX7_sheet_41 : decode cX7_sheet 41 = .ok (.bastore, 1) := by decide +kernel
theorem dX7_sheet_42 : decode cX7_sheet 42 = .ok (.aload_n 0, 1) := by decide +kernel
theorem dX7_sheet_43 : decode cX7_sheet 43 = .ok (.getfield 95, 3) := by decide +kernel
theorem dX7_sheet_46 : decode cX7_sheet 46 = .ok (.iload_n 1, 1) := by decide +kernel
theorem dX7_sheet_47 : decode cX7_sheet 47 = .ok (.iload_n 2, 1) := by decide +kernel
theorem dX7_sheet_48 : decode cX7_sheet 48 = .ok (.iastore, 1) := by decide +kernel
theorem dX7_sheet_49 : decode cX7_sheet 49 = .ok (.aload_n 0, 1) := by decide +kernel
theorem dX7_sheet_50 : decode cX7_sheet 50 = .ok (.getfield 98, 3) := by decide +kernel
theorem dX7_sheet_53 : decode cX7_sheet 53 = .ok (.iload_n 1, 1) := by decide +kernel
theorem dX7_sheet_54 : decode cX7_sheet 54 = .ok (.iload_n 3, 1) := by decide +kernel
theorem dX7_sheet_55 : decode cX7_sheet 55 = .ok (.iastore, 1) := by decide +kernel
theorem dX7_sheet_56 : decode cX7_sheet 56 = .ok (.iconst 0, 1) := by decide +kernel
theorem dX7_sheet_57 : decode cX7_sheet 57 = .ok (.istore 4, 2) := by decide +kernel
theorem dX7_sheet_59 : decode cX7_sheet 59 = .ok (.iload 4, 2) := by decide +kernel
theorem dX7_sheet_61 : decode cX7_sheet 61 = .ok (.bipush 60, 2) := by decide +kernel
theorem dX7_sheet_63 : decode cX7_sheet 63 = .ok (.if_icmp .ge 22, 3) := by decide +kernel
theorem dX7_sheet_66 : decode cX7_sheet 66 = .ok (.aload_n 0, 1) := by decide +kernel
theorem dX7_sheet_67 : decode cX7_sheet 67 = .ok (.getfield 101, 3) := by decide +kernel
theorem dX7_sheet_70 : decode cX7_sheet 70 = .ok (.bipush 60, 2) := by decide +kernel
theorem dX7_sheet_72 : decode cX7_sheet 72 = .ok (.iload_n 1, 1) := by decide +kernel
theorem dX7_sheet_73 : decode cX7_sheet 73 = .ok (.imul, 1) := by decide +kernel
theorem dX7_sheet_74 : decode cX7_sheet 74 = .ok (.iload 4, 2) := by decide +kernel
theorem dX7_sheet_76 : decode cX7_sheet 76 = .ok (.iadd, 1) := by decide +kernel
theorem dX7_sheet_77 : decode cX7_sheet 77 = .ok (.iconst 0, 1) := by decide +kernel
theorem dX7_sheet_78 : decode cX7_sheet 78 = .ok (.iastore, 1) := by decide +kernel
theorem dX7_sheet_79 : decode cX7_sheet 79 = .ok (.iinc 4 1, 3) := by decide +kernel
theorem dX7_sheet_82 : decode cX7_sheet 82 = .ok (.goto (-23), 3) := by decide +kernel
theorem dX7_sheet_85 : decode cX7_sheet 85 = .ok (.iload_n 3, 1) := by decide +kernel
theorem dX7_sheet_86 : decode cX7_sheet 86 = .ok (.ireturn, 1) := by decide +kernel
theorem dX7_lose_0 : decode cX7_lose 0 = .ok (.iload_n 1, 1) := by decide +kernel
theorem dX7_lose_1 : decode cX7_lose 1 = .ok (.invokestatic 174, 3) := by decide +kernel
theorem dX7_lose_4 : decode cX7_lose 4 = .ok (.ifCond .ne 6, 3) := by decide +kernel
theorem dX7_lose_7 : decode cX7_lose 7 = .ok (.bipush (-2), 2) := by decide +kernel
theorem dX7_lose_9 : decode cX7_lose 9 = .ok (.ireturn, 1) := by decide +kernel
theorem dX7_lose_10 : decode cX7_lose 10 = .ok (.aload_n 0, 1) := by decide +kernel
theorem dX7_lose_11 : decode cX7_lose 11 = .ok (.getfield 91, 3) := by decide +kernel
theorem dX7_lose_14 : decode cX7_lose 14 = .ok (.iload_n 1, 1) := by decide +kernel
theorem dX7_lose_15 : decode cX7_lose 15 = .ok (.baload, 1) := by decide +kernel
theorem dX7_lose_16 : decode cX7_lose 16 = .ok (.ifCond .ne 9, 3) := by decide +kernel
theorem dX7_lose_19 : decode cX7_lose 19 = .ok (.aload_n 0, 1) := by decide +kernel
theorem dX7_lose_20 : decode cX7_lose 20 = .ok (.iconst 1, 1) := by decide +kernel
theorem dX7_lose_21 : decode cX7_lose 21 = .ok (.invokevirtual 177, 3) := by decide +kernel
theorem dX7_lose_24 : decode cX7_lose 24 = .ok (.ireturn, 1) := by decide +kernel
theorem dX7_lose_25 : decode cX7_lose 25 = .ok (.aload_n 0, 1) := by decide +kernel
theorem dX7_lose_26 : decode cX7_lose 26 = .ok (.getfield 91, 3) := by decide +kernel
theorem dX7_lose_29 : decode cX7_lose 29 = .ok (.iload_n 1, 1) := by decide +kernel
theorem dX7_lose_30 : decode cX7_lose 30 = .ok (.iconst 0, 1) := by decide +kernel
theorem dX7_lose_31 : decode cX7_lose 31 = .ok (.bastore, 1) := by decide +kernel
theorem dX7_lose_32 : decode cX7_lose 32 = .ok (.aload_n 0, 1) := by decide +kernel
theorem dX7_lose_33 : decode cX7_lose 33 = .ok (.getfield 98, 3) := by decide +kernel
theorem dX7_lose_36 : decode cX7_lose 36 = .ok (.iload_n 1, 1) := by decide +kernel
theorem dX7_lose_37 : decode cX7_lose 37 = .ok (.iaload, 1) := by decide +kernel
theorem dX7_lose_38 : decode cX7_lose 38 = .ok (.ireturn, 1) := by decide +kernel
theorem dX7_lacks_0 : decode cX7_lacks 0 = .ok (.aload_n 0, 1) := by decide +kernel
theorem dX7_lacks_1 : decode cX7_lacks 1 = .ok (.getfield 91, 3) := by decide +kernel
theorem dX7_lacks_4 : decode cX7_lacks 4 = .ok (.iload_n 1, 1) := by decide +kernel
theorem dX7_lacks_5 : decode cX7_lacks 5 = .ok (.baload, 1) := by decide +kernel
theorem dX7_lacks_6 : decode cX7_lacks 6 = .ok (.ifCond .ne 7, 3) := by decide +kernel
theorem dX7_lacks_9 : decode cX7_lacks 9 = .ok (.iconst 1, 1) := by decide +kernel
theorem dX7_lacks_10 : decode cX7_lacks 10 = .ok (.goto 38, 3) := by decide +kernel
theorem dX7_lacks_13 : decode cX7_lacks 13 = .ok (.aload_n 0, 1) := by decide +kernel
theorem dX7_lacks_14 : decode cX7_lacks 14 = .ok (.getfield 95, 3) := by decide +kernel
theorem dX7_lacks_17 : decode cX7_lacks 17 = .ok (.iload_n 1, 1) := by decide +kernel
theorem dX7_lacks_18 : decode cX7_lacks 18 = .ok (.iaload, 1) := by decide +kernel
theorem dX7_lacks_19 : decode cX7_lacks 19 = .ok (.iload_n 2, 1) := by decide +kernel
theorem dX7_lacks_20 : decode cX7_lacks 20 = .ok (.if_icmp .eq 7, 3) := by decide +kernel
theorem dX7_lacks_23 : decode cX7_lacks 23 = .ok (.iconst 3, 1) := by decide +kernel
theorem dX7_lacks_24 : decode cX7_lacks 24 = .ok (.goto 24, 3) := by decide +kernel
theorem dX7_lacks_27 : decode cX7_lacks 27 = .ok (.iload_n 3, 1) := by decide +kernel
theorem dX7_lacks_28 : decode cX7_lacks 28 = .ok (.iconst 0, 1) := by decide +kernel
theorem dX7_lacks_29 : decode cX7_lacks 29 = .ok (.aload_n 0, 1) := by decide +kernel
theorem dX7_lacks_30 : decode cX7_lacks 30 = .ok (.getfield 98, 3) := by decide +kernel
theorem dX7_lacks_33 : decode cX7_lacks 33 = .ok (.iload_n 1, 1) := by decide +kernel
theorem dX7_lacks_34 : decode cX7_lacks 34 = .ok (.iaload, 1) := by decide +kernel
theorem dX7_lacks_35 : decode cX7_lacks 35 = .ok (.iconst 1, 1) := by decide +kernel
theorem dX7_lacks_36 : decode cX7_lacks 36 = .ok (.isub, 1) := by decide +kernel
theorem dX7_lacks_37 : decode cX7_lacks 37 = .ok (.invokestatic 113, 3) := by decide +kernel
theorem dX7_lacks_40 : decode cX7_lacks 40 = .ok (.ifCond .eq 7, 3) := by decide +kernel
theorem dX7_lacks_43 : decode cX7_lacks 43 = .ok (.iconst 0, 1) := by decide +kernel
theorem dX7_lacks_44 : decode cX7_lacks 44 = .ok (.goto 4, 3) := by decide +kernel
theorem dX7_lacks_47 : decode cX7_lacks 47 = .ok (.iconst 2, 1) := by decide +kernel
theorem dX7_lacks_48 : decode cX7_lacks 48 = .ok (.ireturn, 1) := by decide +kernel
theorem dX7_keep_0 : decode cX7_keep 0 = .ok (.aload_n 0, 1) := by decide +kernel
theorem dX7_keep_1 : decode cX7_keep 1 = .ok (.getfield 101, 3) := by decide +kernel
theorem dX7_keep_4 : decode cX7_keep 4 = .ok (.bipush 60, 2) := by decide +kernel
theorem dX7_keep_6 : decode cX7_keep 6 = .ok (.iload_n 1, 1) := by decide +kernel
theorem dX7_keep_7 : decode cX7_keep 7 = .ok (.imul, 1) := by decide +kernel
theorem dX7_keep_8 : decode cX7_keep 8 = .ok (.iload_n 2, 1) := by decide +kernel
theorem dX7_keep_9 : decode cX7_keep 9 = .ok (.iadd, 1) := by decide +kernel
theorem dX7_keep_10 : decode cX7_keep 10 = .ok (.aload_n 0, 1) := by decide +kernel
theorem dX7_keep_11 : decode cX7_keep 11 = .ok (.getfield 95, 3) := by decide +kernel
theorem dX7_keep_14 : decode cX7_keep 14 = .ok (.iload_n 1, 1) := by decide +kernel
theorem dX7_keep_15 : decode cX7_keep 15 = .ok (.iaload, 1) := by decide +kernel
theorem dX7_keep_16 : decode cX7_keep 16 = .ok (.ifCond .ne 8, 3) := by decide +kernel
theorem dX7_keep_19 : decode cX7_keep 19 = .ok (.iload_n 3, 1) := by decide +kernel
theorem dX7_keep_20 : decode cX7_keep 20 = .ok (.i2b, 1) := by decide +kernel
theorem dX7_keep_21 : decode cX7_keep 21 = .ok (.goto 19, 3) := by decide +kernel
theorem dX7_keep_24 : decode cX7_keep 24 = .ok (.aload_n 0, 1) := by decide +kernel
theorem dX7_keep_25 : decode cX7_keep 25 = .ok (.getfield 95, 3) := by decide +kernel
theorem dX7_keep_28 : decode cX7_keep 28 = .ok (.iload_n 1, 1) := by decide +kernel
theorem dX7_keep_29 : decode cX7_keep 29 = .ok (.iaload, 1) := by decide +kernel
theorem dX7_keep_30 : decode cX7_keep 30 = .ok (.iconst 1, 1) := by decide +kernel
theorem dX7_keep_31 : decode cX7_keep 31 = .ok (.if_icmp .ne 8, 3) := by decide +kernel
theorem dX7_keep_34 : decode cX7_keep 34 = .ok (.iload_n 3, 1) := by decide +kernel
theorem dX7_keep_35 : decode cX7_keep 35 = .ok (.i2s, 1) := by decide +kernel
theorem dX7_keep_36 : decode cX7_keep 36 = .ok (.goto 4, 3) := by decide +kernel
theorem dX7_keep_39 : decode cX7_keep 39 = .ok (.iload_n 3, 1) := by decide +kernel
theorem dX7_keep_40 : decode cX7_keep 40 = .ok (.iastore, 1) := by decide +kernel
theorem dX7_keep_41 : decode cX7_keep 41 = .ok (.return_, 1) := by decide +kernel
theorem dX7_put_0 : decode cX7_put 0 = .ok (.iload_n 1, 1) := by decide +kernel
theorem dX7_put_1 : decode cX7_put 1 = .ok (.invokestatic 174, 3) := by decide +kernel
theorem dX7_put_4 : decode cX7_put 4 = .ok (.ifCond .eq 12, 3) := by decide +kernel
theorem dX7_put_7 : decode cX7_put 7 = .ok (.iload_n 2, 1) := by decide +kernel
theorem dX7_put_8 : decode cX7_put 8 = .ok (.iconst 0, 1) := by decide +kernel
theorem dX7_put_9 : decode cX7_put 9 = .ok (.iconst 2, 1) := by decide +kernel
theorem dX7_put_10 : decode cX7_put 10 = .ok (.invokestatic 113, 3) := by decide +kernel
theorem dX7_put_13 : decode cX7_put 13 = .ok (.ifCond .ne 6, 3) := by decide +kernel
theorem dX7_put_16 : decode cX7_put 16 = .ok (.bipush (-2), 2) := by decide +kernel
theorem dX7_put_18 : decode cX7_put 18 = .ok (.ireturn, 1) := by decide +kernel
theorem dX7_put_19 : decode cX7_put 19 = .ok (.aload_n 0, 1) := by decide +kernel
theorem dX7_put_20 : decode cX7_put 20 = .ok (.iload_n 1, 1) := by decide +kernel
theorem dX7_put_21 : decode cX7_put 21 = .ok (.iload_n 2, 1) := by decide +kernel
theorem dX7_put_22 : decode cX7_put 22 = .ok (.iload_n 3, 1) := by decide +kernel
theorem dX7_put_23 : decode cX7_put 23 = .ok (.invokevirtual 352, 3) := by decide +kernel
theorem dX7_put_26 : decode cX7_put 26 = .ok (.istore 5, 2) := by decide +kernel
theorem dX7_put_28 : decode cX7_put 28 = .ok (.iload 5, 2) := by decide +kernel
theorem dX7_put_30 : decode cX7_put 30 = .ok (.ifCond .le 10, 3) := by decide +kernel
theorem dX7_put_33 : decode cX7_put 33 = .ok (.aload_n 0, 1) := by decide +kernel
theorem dX7_put_34 : decode cX7_put 34 = .ok (.iload 5, 2) := by decide +kernel
theorem dX7_put_36 : decode cX7_put 36 = .ok (.invokevirtual 177, 3) := by decide +kernel
theorem dX7_put_39 : decode cX7_put 39 = .ok (.ireturn, 1) := by decide +kernel
theorem dX7_put_40 : decode cX7_put 40 = .ok (.aload_n 0, 1) := by decide +kernel
theorem dX7_put_41 : decode cX7_put 41 = .ok (.iload_n 1, 1) := by decide +kernel
theorem dX7_put_42 : decode cX7_put 42 = .ok (.iload_n 3, 1) := by decide +kernel
theorem dX7_put_43 : decode cX7_put 43 = .ok (.iload 4, 2) := by decide +kernel
theorem dX7_put_45 : decode cX7_put 45 = .ok (.invokevirtual 355, 3) := by decide +kernel
theorem dX7_put_48 : decode cX7_put 48 = .ok (.iconst 1, 1) := by decide +kernel
theorem dX7_put_49 : decode cX7_put 49 = .ok (.ireturn, 1) := by decide +kernel
theorem dX7_get_0 : decode cX7_get 0 = .ok (.iload_n 1, 1) := by decide +kernel
theorem dX7_get_1 : decode cX7_get 1 = .ok (.invokestatic 174, 3) := by decide +kernel
theorem dX7_get_4 : decode cX7_get 4 = .ok (.ifCond .eq 12, 3) := by decide +kernel
theorem dX7_get_7 : decode cX7_get 7 = .ok (.iload_n 2, 1) := by decide +kernel
theorem dX7_get_8 : decode cX7_get 8 = .ok (.iconst 0, 1) := by decide +kernel
theorem dX7_get_9 : decode cX7_get 9 = .ok (.iconst 2, 1) := by decide +kernel
theorem dX7_get_10 : decode cX7_get 10 = .ok (.invokestatic 113, 3) := by decide +kernel
theorem dX7_get_13 : decode cX7_get 13 = .ok (.ifCond .ne 6, 3) := by decide +kernel
theorem dX7_get_16 : decode cX7_get 16 = .ok (.ldc 255, 2) := by decide +kernel
theorem dX7_get_18 : decode cX7_get 18 = .ok (.ireturn, 1) := by decide +kernel
theorem dX7_get_19 : decode cX7_get 19 = .ok (.aload_n 0, 1) := by decide +kernel
theorem dX7_get_20 : decode cX7_get 20 = .ok (.iload_n 1, 1) := by decide +kernel
theorem dX7_get_21 : decode cX7_get 21 = .ok (.iload_n 2, 1) := by decide +kernel
theorem dX7_get_22 : decode cX7_get 22 = .ok (.iload_n 3, 1) := by decide +kernel
theorem dX7_get_23 : decode cX7_get 23 = .ok (.invokevirtual 352, 3) := by decide +kernel
theorem dX7_get_26 : decode cX7_get 26 = .ok (.istore 4, 2) := by decide +kernel
theorem dX7_get_28 : decode cX7_get 28 = .ok (.iload 4, 2) := by decide +kernel
theorem dX7_get_30 : decode cX7_get 30 = .ok (.ifCond .le 12, 3) := by decide +kernel
theorem dX7_get_33 : decode cX7_get 33 = .ok (.aload_n 0, 1) := by decide +kernel
theorem dX7_get_34 : decode cX7_get 34 = .ok (.iload 4, 2) := by decide +kernel
theorem dX7_get_36 : decode cX7_get 36 = .ok (.putfield 349, 3) := by decide +kernel
theorem dX7_get_39 : decode cX7_get 39 = .ok (.ldc 255, 2) := by decide +kernel
theorem dX7_get_41 : decode cX7_get 41 = .ok (.ireturn, 1) := by decide +kernel
theorem dX7_get_42 : decode cX7_get 42 = .ok (.aload_n 0, 1) := by decide +kernel
theorem dX7_get_43 : decode cX7_get 43 = .ok (.getfield 101, 3) := by decide +kernel
theorem dX7_get_46 : decode cX7_get 46 = .ok (.bipush 60, 2) := by decide +kernel
theorem dX7_get_48 : decode cX7_get 48 = .ok (.iload_n 1, 1) := by decide +kernel
theorem dX7_get_49 : decode cX7_get 49 = .ok (.imul, 1) := by decide +kernel
theorem dX7_get_50 : decode cX7_get 50 = .ok (.iload_n 3, 1) := by decide +kernel
theorem dX7_get_51 : decode cX7_get 51 = .ok (.iadd, 1) := by decide +kernel
theorem dX7_get_52 : decode cX7_get 52 = .ok (.iaload, 1) := by decide +kernel
theorem dX7_get_53 : decode cX7_get 53 = .ok (.ireturn, 1) := by decide +kernel
theorem dX7_copy_0 : decode cX7_copy 0 = .ok (.iload_n 1, 1) := by decide +kernel
theorem dX7_copy_1 : decode cX7_copy 1 = .ok (.invokestatic 174, 3) := by decide +kernel
theorem dX7_copy_4 : decode cX7_copy 4 = .ok (.ifCond .eq 10, 3) := by decide +kernel
theorem dX7_copy_7 : decode cX7_copy 7 = .ok (.iload_n 3, 1) := by decide +kernel
theorem dX7_copy_8 : decode cX7_copy 8 = .ok (.invokestatic 174, 3) := by decide +kernel
theorem dX7_copy_11 : decode cX7_copy 11 = .ok (.ifCond .ne 6, 3) := by decide +kernel
theorem dX7_copy_14 : decode cX7_copy 14 = .ok (.bipush (-2), 2) := by decide +kernel
theorem dX7_copy_16 : decode cX7_copy 16 = .ok (.ireturn, 1) := by decide +kernel
theorem dX7_copy_17 : decode cX7_copy 17 = .ok (.aload_n 0, 1) := by decide +kernel
theorem dX7_copy_18 : decode cX7_copy 18 = .ok (.getfield 91, 3) := by decide +kernel
theorem dX7_copy_21 : decode cX7_copy 21 = .ok (.iload_n 1, 1) := by decide +kernel
theorem dX7_copy_22 : decode cX7_copy 22 = .ok (.baload, 1) := by decide +kernel
theorem dX7_copy_23 : decode cX7_copy 23 = .ok (.ifCond .eq 12, 3) := by decide +kernel
theorem dX7_copy_26 : decode cX7_copy 26 = .ok (.aload_n 0, 1) := by decide +kernel
theorem dX7_copy_27 : decode cX7_copy 27 = .ok (.getfield 91, 3) := by decide +kernel
theorem dX7_copy_30 : decode cX7_copy 30 = .ok (.iload_n 3, 1) := by decide +kernel
theorem dX7_copy_31 : decode cX7_copy 31 = .ok (.baload, 1) := by decide +kernel
theorem dX7_copy_32 : decode cX7_copy 32 = .ok (.ifCond .ne 9, 3) := by decide +kernel
theorem dX7_copy_35 : decode cX7_copy 35 = .ok (.aload_n 0, 1) := by decide +kernel
theorem dX7_copy_36 : decode cX7_copy 36 = .ok (.iconst 1, 1) := by decide +kernel
theorem dX7_copy_37 : decode cX7_copy 37 = .ok (.invokevirtual 177, 3) := by decide +kernel
theorem dX7_copy_40 : decode cX7_copy 40 = .ok (.ireturn, 1) := by decide +kernel
theorem dX7_copy_41 : decode cX7_copy 41 = .ok (.aload_n 0, 1) := by decide +kernel
theorem dX7_copy_42 : decode cX7_copy 42 = .ok (.getfield 95, 3) := by decide +kernel
theorem dX7_copy_45 : decode cX7_copy 45 = .ok (.iload_n 1, 1) := by decide +kernel
theorem dX7_copy_46 : decode cX7_copy 46 = .ok (.iaload, 1) := by decide +kernel
theorem dX7_copy_47 : decode cX7_copy 47 = .ok (.aload_n 0, 1) := by decide +kernel
theorem dX7_copy_48 : decode cX7_copy 48 = .ok (.getfield 95, 3) := by decide +kernel
theorem dX7_copy_51 : decode cX7_copy 51 = .ok (.iload_n 3, 1) := by decide +kernel
theorem dX7_copy_52 : decode cX7_copy 52 = .ok (.iaload, 1) := by decide +kernel
theorem dX7_copy_53 : decode cX7_copy 53 = .ok (.if_icmp .eq 9, 3) := by decide +kernel
theorem dX7_copy_56 : decode cX7_copy 56 = .ok (.aload_n 0, 1) := by decide +kernel
theorem dX7_copy_57 : decode cX7_copy 57 = .ok (.iconst 4, 1) := by decide +kernel
theorem dX7_copy_58 : decode cX7_copy 58 = .ok (.invokevirtual 177, 3) := by decide +kernel
theorem dX7_copy_61 : decode cX7_copy 61 = .ok (.ireturn, 1) := by decide +kernel
theorem dX7_copy_62 : decode cX7_copy 62 = .ok (.iload_n 2, 1) := by decide +kernel
theorem dX7_copy_63 : decode cX7_copy 63 = .ok (.ifCond .lt 48, 3) := by decide +kernel
theorem dX7_copy_66 : decode cX7_copy 66 = .ok (.iload 4, 2) := by decide +kernel
theorem dX7_copy_68 : decode cX7_copy 68 = .ok (.ifCond .lt 43, 3) := by decide +kernel
theorem dX7_copy_71 : decode cX7_copy 71 = .ok (.iload 5, 2) := by decide +kernel
theorem dX7_copy_73 : decode cX7_copy 73 = .ok (.ifCond .lt 38, 3) := by decide +kernel
theorem dX7_copy_76 : decode cX7_copy 76 = .ok (.iload_n 2, 1) := by decide +kernel
theorem dX7_copy_77 : decode cX7_copy 77 = .ok (.i2l, 1) := by decide +kernel
theorem dX7_copy_78 : decode cX7_copy 78 = .ok (.iload 5, 2) := by decide +kernel
theorem dX7_copy_80 : decode cX7_copy 80 = .ok (.i2l, 1) := by decide +kernel
theorem dX7_copy_81 : decode cX7_copy 81 = .ok (.ladd, 1) := by decide +kernel
theorem dX7_copy_82 : decode cX7_copy 82 = .ok (.aload_n 0, 1) := by decide +kernel
theorem dX7_copy_83 : decode cX7_copy 83 = .ok (.getfield 98, 3) := by decide +kernel
theorem dX7_copy_86 : decode cX7_copy 86 = .ok (.iload_n 1, 1) := by decide +kernel
theorem dX7_copy_87 : decode cX7_copy 87 = .ok (.iaload, 1) := by decide +kernel
theorem dX7_copy_88 : decode cX7_copy 88 = .ok (.i2l, 1) := by decide +kernel
theorem dX7_copy_89 : decode cX7_copy 89 = .ok (.lcmp, 1) := by decide +kernel
theorem dX7_copy_90 : decode cX7_copy 90 = .ok (.ifCond .gt 21, 3) := by decide +kernel
theorem dX7_copy_93 : decode cX7_copy 93 = .ok (.iload 4, 2) := by decide +kernel
theorem dX7_copy_95 : decode cX7_copy 95 = .ok (.i2l, 1) := by decide +kernel
theorem dX7_copy_96 : decode cX7_copy 96 = .ok (.iload 5, 2) := by decide +kernel
theorem dX7_copy_98 : decode cX7_copy 98 = .ok (.i2l, 1) := by decide +kernel
theorem dX7_copy_99 : decode cX7_copy 99 = .ok (.ladd, 1) := by decide +kernel
theorem dX7_copy_100 : decode cX7_copy 100 = .ok (.aload_n 0, 1) := by decide +kernel
theorem dX7_copy_101 : decode cX7_copy 101 = .ok (.getfield 98, 3) := by decide +kernel
theorem dX7_copy_104 : decode cX7_copy 104 = .ok (.iload_n 3, 1) := by decide +kernel
theorem dX7_copy_105 : decode cX7_copy 105 = .ok (.iaload, 1) := by decide +kernel
theorem dX7_copy_106 : decode cX7_copy 106 = .ok (.i2l, 1) := by decide +kernel
theorem dX7_copy_107 : decode cX7_copy 107 = .ok (.lcmp, 1) := by decide +kernel
theorem dX7_copy_108 : decode cX7_copy 108 = .ok (.ifCond .le 9, 3) := by decide +kernel
theorem dX7_copy_111 : decode cX7_copy 111 = .ok (.aload_n 0, 1) := by decide +kernel
theorem dX7_copy_112 : decode cX7_copy 112 = .ok (.iconst 2, 1) := by decide +kernel
theorem dX7_copy_113 : decode cX7_copy 113 = .ok (.invokevirtual 177, 3) := by decide +kernel
theorem dX7_copy_116 : decode cX7_copy 116 = .ok (.ireturn, 1) := by decide +kernel
theorem dX7_copy_117 : decode cX7_copy 117 = .ok (.iconst 0, 1) := by decide +kernel
theorem dX7_copy_118 : decode cX7_copy 118 = .ok (.istore 6, 2) := by decide +kernel
theorem dX7_copy_120 : decode cX7_copy 120 = .ok (.iload 6, 2) := by decide +kernel
theorem dX7_copy_122 : decode cX7_copy 122 = .ok (.iload 5, 2) := by decide +kernel
theorem dX7_copy_124 : decode cX7_copy 124 = .ok (.if_icmp .ge 30, 3) := by decide +kernel
theorem dX7_copy_127 : decode cX7_copy 127 = .ok (.aload_n 0, 1) := by decide +kernel
theorem dX7_copy_128 : decode cX7_copy 128 = .ok (.getfield 104, 3) := by decide +kernel
theorem dX7_copy_131 : decode cX7_copy 131 = .ok (.iload 6, 2) := by decide +kernel
theorem dX7_copy_133 : decode cX7_copy 133 = .ok (.aload_n 0, 1) := by decide +kernel
theorem dX7_copy_134 : decode cX7_copy 134 = .ok (.getfield 101, 3) := by decide +kernel
theorem dX7_copy_137 : decode cX7_copy 137 = .ok (.bipush 60, 2) := by decide +kernel
theorem dX7_copy_139 : decode cX7_copy 139 = .ok (.iload_n 1, 1) := by decide +kernel
theorem dX7_copy_140 : decode cX7_copy 140 = .ok (.imul, 1) := by decide +kernel
theorem dX7_copy_141 : decode cX7_copy 141 = .ok (.iload_n 2, 1) := by decide +kernel
theorem dX7_copy_142 : decode cX7_copy 142 = .ok (.iadd, 1) := by decide +kernel
theorem dX7_copy_143 : decode cX7_copy 143 = .ok (.iload 6, 2) := by decide +kernel
theorem dX7_copy_145 : decode cX7_copy 145 = .ok (.iadd, 1) := by decide +kernel
theorem dX7_copy_146 : decode cX7_copy 146 = .ok (.iaload, 1) := by decide +kernel
theorem dX7_copy_147 : decode cX7_copy 147 = .ok (.iastore, 1) := by decide +kernel
theorem dX7_copy_148 : decode cX7_copy 148 = .ok (.iinc 6 1, 3) := by decide +kernel
theorem dX7_copy_151 : decode cX7_copy 151 = .ok (.goto (-31), 3) := by decide +kernel
theorem dX7_copy_154 : decode cX7_copy 154 = .ok (.iconst 0, 1) := by decide +kernel
theorem dX7_copy_155 : decode cX7_copy 155 = .ok (.istore 6, 2) := by decide +kernel
theorem dX7_copy_157 : decode cX7_copy 157 = .ok (.iload 6, 2) := by decide +kernel
theorem dX7_copy_159 : decode cX7_copy 159 = .ok (.iload 5, 2) := by decide +kernel
theorem dX7_copy_161 : decode cX7_copy 161 = .ok (.if_icmp .ge 31, 3) := by decide +kernel
theorem dX7_copy_164 : decode cX7_copy 164 = .ok (.aload_n 0, 1) := by decide +kernel
theorem dX7_copy_165 : decode cX7_copy 165 = .ok (.getfield 101, 3) := by decide +kernel
theorem dX7_copy_168 : decode cX7_copy 168 = .ok (.bipush 60, 2) := by decide +kernel
theorem dX7_copy_170 : decode cX7_copy 170 = .ok (.iload_n 3, 1) := by decide +kernel
theorem dX7_copy_171 : decode cX7_copy 171 = .ok (.imul, 1) := by decide +kernel
theorem dX7_copy_172 : decode cX7_copy 172 = .ok (.iload 4, 2) := by decide +kernel
theorem dX7_copy_174 : decode cX7_copy 174 = .ok (.iadd, 1) := by decide +kernel
theorem dX7_copy_175 : decode cX7_copy 175 = .ok (.iload 6, 2) := by decide +kernel
theorem dX7_copy_177 : decode cX7_copy 177 = .ok (.iadd, 1) := by decide +kernel
theorem dX7_copy_178 : decode cX7_copy 178 = .ok (.aload_n 0, 1) := by decide +kernel
theorem dX7_copy_179 : decode cX7_copy 179 = .ok (.getfield 104, 3) := by decide +kernel
theorem dX7_copy_182 : decode cX7_copy 182 = .ok (.iload 6, 2) := by decide +kernel
theorem dX7_copy_184 : decode cX7_copy 184 = .ok (.iaload, 1) := by decide +kernel
theorem dX7_copy_185 : decode cX7_copy 185 = .ok (.iastore, 1) := by decide +kernel
theorem dX7_copy_186 : decode cX7_copy 186 = .ok (.iinc 6 1, 3) := by decide +kernel
theorem dX7_copy_189 : decode cX7_copy 189 = .ok (.goto (-32), 3) := by decide +kernel
theorem dX7_copy_192 : decode cX7_copy 192 = .ok (.iconst 1, 1) := by decide +kernel
theorem dX7_copy_193 : decode cX7_copy 193 = .ok (.ireturn, 1) := by decide +kernel
theorem dX7_write_0 : decode cX7_write 0 = .ok (.iload_n 1, 1) := by decide +kernel
theorem dX7_write_1 : decode cX7_write 1 = .ok (.invokestatic 132, 3) := by decide +kernel
theorem dX7_write_4 : decode cX7_write 4 = .ok (.ifCond .eq 10, 3) := by decide +kernel
theorem dX7_write_7 : decode cX7_write 7 = .ok (.iload_n 2, 1) := by decide +kernel
theorem dX7_write_8 : decode cX7_write 8 = .ok (.invokestatic 174, 3) := by decide +kernel
theorem dX7_write_11 : decode cX7_write 11 = .ok (.ifCond .ne 6, 3) := by decide +kernel
theorem dX7_write_14 : decode cX7_write 14 = .ok (.bipush (-2), 2) := by decide +kernel
theorem dX7_write_16 : decode cX7_write 16 = .ok (.ireturn, 1) := by decide +kernel
theorem dX7_write_17 : decode cX7_write 17 = .ok (.aload_n 0, 1) := by decide +kernel
theorem dX7_write_18 : decode cX7_write 18 = .ok (.getfield 91, 3) := by decide +kernel
theorem dX7_write_21 : decode cX7_write 21 = .ok (.iload_n 2, 1) := by decide +kernel
theorem dX7_write_22 : decode cX7_write 22 = .ok (.baload, 1) := by decide +kernel
theorem dX7_write_23 : decode cX7_write 23 = .ok (.ifCond .ne 9, 3) := by decide +kernel
theorem dX7_write_26 : decode cX7_write 26 = .ok (.aload_n 0, 1) := by decide +kernel
theorem dX7_write_27 : decode cX7_write 27 = .ok (.iconst 1, 1) := by decide +kernel
theorem dX7_write_28 : decode cX7_write 28 = .ok (.invokevirtual 177, 3) := by decide +kernel
theorem dX7_write_31 : decode cX7_write 31 = .ok (.ireturn, 1) := by decide +kernel
theorem dX7_write_32 : decode cX7_write 32 = .ok (.aload_n 0, 1) := by decide +kernel
theorem dX7_write_33 : decode cX7_write 33 = .ok (.invokevirtual 243, 3) := by decide +kernel
theorem dX7_write_36 : decode cX7_write 36 = .ok (.iconst 0, 1) := by decide +kernel
theorem dX7_write_37 : decode cX7_write 37 = .ok (.istore_n 3, 1) := by decide +kernel
theorem dX7_write_38 : decode cX7_write 38 = .ok (.iload_n 3, 1) := by decide +kernel
theorem dX7_write_39 : decode cX7_write 39 = .ok (.aload_n 0, 1) := by decide +kernel
theorem dX7_write_40 : decode cX7_write 40 = .ok (.getfield 98, 3) := by decide +kernel
theorem dX7_write_43 : decode cX7_write 43 = .ok (.iload_n 2, 1) := by decide +kernel
theorem dX7_write_44 : decode cX7_write 44 = .ok (.iaload, 1) := by decide +kernel
theorem dX7_write_45 : decode cX7_write 45 = .ok (.if_icmp .ge 32, 3) := by decide +kernel
theorem dX7_write_48 : decode cX7_write 48 = .ok (.iload_n 3, 1) := by decide +kernel
theorem dX7_write_49 : decode cX7_write 49 = .ok (.bipush 24, 2) := by decide +kernel
theorem dX7_write_51 : decode cX7_write 51 = .ok (.if_icmp .ge 26, 3) := by decide +kernel
theorem dX7_write_54 : decode cX7_write 54 = .ok (.aload_n 0, 1) := by decide +kernel
theorem dX7_write_55 : decode cX7_write 55 = .ok (.iload_n 2, 1) := by decide +kernel
theorem dX7_write_56 : decode cX7_write 56 = .ok (.iload_n 3, 1) := by decide +kernel
theorem dX7_write_57 : decode cX7_write 57 = .ok (.aload_n 0, 1) := by decide +kernel
theorem dX7_write_58 : decode cX7_write 58 = .ok (.getfield 67, 3) := by decide +kernel
theorem dX7_write_61 : decode cX7_write 61 = .ok (.bipush 24, 2) := by decide +kernel
theorem dX7_write_63 : decode cX7_write 63 = .ok (.iload_n 1, 1) := by decide +kernel
theorem dX7_write_64 : decode cX7_write 64 = .ok (.imul, 1) := by decide +kernel
theorem dX7_write_65 : decode cX7_write 65 = .ok (.iload_n 3, 1) := by decide +kernel
theorem dX7_write_66 : decode cX7_write 66 = .ok (.iadd, 1) := by decide +kernel
theorem dX7_write_67 : decode cX7_write 67 = .ok (.iaload, 1) := by decide +kernel
theorem dX7_write_68 : decode cX7_write 68 = .ok (.invokevirtual 355, 3) := by decide +kernel
theorem dX7_write_71 : decode cX7_write 71 = .ok (.iinc 3 1, 3) := by decide +kernel
theorem dX7_write_74 : decode cX7_write 74 = .ok (.goto (-36), 3) := by decide +kernel
theorem dX7_write_77 : decode cX7_write 77 = .ok (.iload_n 3, 1) := by decide +kernel
theorem dX7_write_78 : decode cX7_write 78 = .ok (.ireturn, 1) := by decide +kernel
theorem dX7_tellOf_0 : decode cX7_tellOf 0 = .ok (.aload_n 0, 1) := by decide +kernel
theorem dX7_tellOf_1 : decode cX7_tellOf 1 = .ok (.invokevirtual 153, 3) := by decide +kernel
theorem dX7_tellOf_4 : decode cX7_tellOf 4 = .ok (.iload_n 1, 1) := by decide +kernel
theorem dX7_tellOf_5 : decode cX7_tellOf 5 = .ok (.ifCond .ne 10, 3) := by decide +kernel
theorem dX7_tellOf_8 : decode cX7_tellOf 8 = .ok (.aload_n 0, 1) := by decide +kernel
theorem dX7_tellOf_9 : decode cX7_tellOf 9 = .ok (.getfield 135, 3) := by decide +kernel
theorem dX7_tellOf_12 : decode cX7_tellOf 12 = .ok (.goto 7, 3) := by decide +kernel
theorem dX7_tellOf_15 : decode cX7_tellOf 15 = .ok (.aload_n 0, 1) := by decide +kernel
theorem dX7_tellOf_16 : decode cX7_tellOf 16 = .ok (.getfield 138, 3) := by decide +kernel
theorem dX7_tellOf_19 : decode cX7_tellOf 19 = .ok (.ireturn, 1) := by decide +kernel
theorem dX7_count_0 : decode cX7_count 0 = .ok (.iload_n 1, 1) := by decide +kernel
theorem dX7_count_1 : decode cX7_count 1 = .ok (.tableswitch 92 0 8 #[51, 51, 57, 57, 66, 71, 76, 82, 87], 51) := by decide +kernel
theorem dX7_count_52 : decode cX7_count 52 = .ok (.aload_n 0, 1) := by decide +kernel
theorem dX7_count_53 : decode cX7_count 53 = .ok (.iload_n 1, 1) := by decide +kernel
theorem dX7_count_54 : decode cX7_count 54 = .ok (.invokevirtual 359, 3) := by decide +kernel
theorem dX7_count_57 : decode cX7_count 57 = .ok (.ireturn, 1) := by decide +kernel
theorem dX7_count_58 : decode cX7_count 58 = .ok (.aload_n 0, 1) := by decide +kernel
theorem dX7_count_59 : decode cX7_count 59 = .ok (.getfield 7, 3) := by decide +kernel
theorem dX7_count_62 : decode cX7_count 62 = .ok (.iload_n 1, 1) := by decide +kernel
theorem dX7_count_63 : decode cX7_count 63 = .ok (.iconst 2, 1) := by decide +kernel
theorem dX7_count_64 : decode cX7_count 64 = .ok (.isub, 1) := by decide +kernel
theorem dX7_count_65 : decode cX7_count 65 = .ok (.iaload, 1) := by decide +kernel
theorem dX7_count_66 : decode cX7_count 66 = .ok (.ireturn, 1) := by decide +kernel
theorem dX7_count_67 : decode cX7_count 67 = .ok (.aload_n 0, 1) := by decide +kernel
theorem dX7_count_68 : decode cX7_count 68 = .ok (.getfield 107, 3) := by decide +kernel
theorem dX7_count_71 : decode cX7_count 71 = .ok (.ireturn, 1) := by decide +kernel
theorem dX7_count_72 : decode cX7_count 72 = .ok (.aload_n 0, 1) := by decide +kernel
theorem dX7_count_73 : decode cX7_count 73 = .ok (.getfield 171, 3) := by decide +kernel
theorem dX7_count_76 : decode cX7_count 76 = .ok (.ireturn, 1) := by decide +kernel
theorem dX7_count_77 : decode cX7_count 77 = .ok (.aload_n 0, 1) := by decide +kernel
theorem dX7_count_78 : decode cX7_count 78 = .ok (.iconst 0, 1) := by decide +kernel
theorem dX7_count_79 : decode cX7_count 79 = .ok (.invokevirtual 269, 3) := by decide +kernel
theorem dX7_count_82 : decode cX7_count 82 = .ok (.ireturn, 1) := by decide +kernel
theorem dX7_count_83 : decode cX7_count 83 = .ok (.aload_n 0, 1) := by decide +kernel
theorem dX7_count_84 : decode cX7_count 84 = .ok (.getfield 314, 3) := by decide +kernel
theorem dX7_count_87 : decode cX7_count 87 = .ok (.ireturn, 1) := by decide +kernel
theorem dX7_count_88 : decode cX7_count 88 = .ok (.aload_n 0, 1) := by decide +kernel
theorem dX7_count_89 : decode cX7_count 89 = .ok (.getfield 349, 3) := by decide +kernel
theorem dX7_count_92 : decode cX7_count 92 = .ok (.ireturn, 1) := by decide +kernel
theorem dX7_count_93 : decode cX7_count 93 = .ok (.bipush (-2), 2) := by decide +kernel
theorem dX7_count_95 : decode cX7_count 95 = .ok (.ireturn, 1) := by decide +kernel
theorem dX7_taleDigest_0 : decode cX7_taleDigest 0 = .ok (.lload_n 1, 1) := by decide +kernel
theorem dX7_taleDigest_1 : decode cX7_taleDigest 1 = .ok (.lstore 4, 2) := by decide +kernel
theorem dX7_taleDigest_3 : decode cX7_taleDigest 3 = .ok (.iconst 0, 1) := by decide +kernel
theorem dX7_taleDigest_4 : decode cX7_taleDigest 4 = .ok (.istore 6, 2) := by decide +kernel
theorem dX7_taleDigest_6 : decode cX7_taleDigest 6 = .ok (.iload 6, 2) := by decide +kernel
theorem dX7_taleDigest_8 : decode cX7_taleDigest 8 = .ok (.iconst 4, 1) := by decide +kernel
theorem dX7_taleDigest_9 : decode cX7_taleDigest 9 = .ok (.if_icmp .ge 26, 3) := by decide +kernel
theorem dX7_taleDigest_12 : decode cX7_taleDigest 12 = .ok (.ldc2_w 362, 3) := by decide +kernel
theorem dX7_taleDigest_15 : decode cX7_taleDigest 15 = .ok (.lload 4, 2) := by decide +kernel
theorem dX7_taleDigest_17 : decode cX7_taleDigest 17 = .ok (.lmul, 1) := by decide +kernel
theorem dX7_taleDigest_18 : decode cX7_taleDigest 18 = .ok (.aload_n 0, 1) := by decide +kernel
theorem dX7_taleDigest_19 : decode cX7_taleDigest 19 = .ok (.iload_n 3, 1) := by decide +kernel
theorem dX7_taleDigest_20 : decode cX7_taleDigest 20 = .ok (.iload 6, 2) := by decide +kernel
theorem dX7_taleDigest_22 : decode cX7_taleDigest 22 = .ok (.invokevirtual 159, 3) := by decide +kernel
theorem dX7_taleDigest_25 : decode cX7_taleDigest 25 = .ok (.i2l, 1) := by decide +kernel
theorem dX7_taleDigest_26 : decode cX7_taleDigest 26 = .ok (.ladd, 1) := by decide +kernel
theorem dX7_taleDigest_27 : decode cX7_taleDigest 27 = .ok (.lstore 4, 2) := by decide +kernel
theorem dX7_taleDigest_29 : decode cX7_taleDigest 29 = .ok (.iinc 6 1, 3) := by decide +kernel
theorem dX7_taleDigest_32 : decode cX7_taleDigest 32 = .ok (.goto (-26), 3) := by decide +kernel
theorem dX7_taleDigest_35 : decode cX7_taleDigest 35 = .ok (.iconst 0, 1) := by decide +kernel
theorem dX7_taleDigest_36 : decode cX7_taleDigest 36 = .ok (.istore 6, 2) := by decide +kernel
theorem dX7_taleDigest_38 : decode cX7_taleDigest 38 = .ok (.iload 6, 2) := by decide +kernel
theorem dX7_taleDigest_40 : decode cX7_taleDigest 40 = .ok (.iconst 3, 1) := by decide +kernel
theorem dX7_taleDigest_41 : decode cX7_taleDigest 41 = .ok (.if_icmp .ge 26, 3) := by decide +kernel
theorem dX7_taleDigest_44 : decode cX7_taleDigest 44 = .ok (.ldc2_w 362, 3) := by decide +kernel
theorem dX7_taleDigest_47 : decode cX7_taleDigest 47 = .ok (.lload 4, 2) := by decide +kernel
theorem dX7_taleDigest_49 : decode cX7_taleDigest 49 = .ok (.lmul, 1) := by decide +kernel
theorem dX7_taleDigest_50 : decode cX7_taleDigest 50 = .ok (.aload_n 0, 1) := by decide +kernel
theorem dX7_taleDigest_51 : decode cX7_taleDigest 51 = .ok (.iload_n 3, 1) := by decide +kernel
theorem dX7_taleDigest_52 : decode cX7_taleDigest 52 = .ok (.iload 6, 2) := by decide +kernel
theorem dX7_taleDigest_54 : decode cX7_taleDigest 54 = .ok (.invokevirtual 246, 3) := by decide +kernel
theorem dX7_taleDigest_57 : decode cX7_taleDigest 57 = .ok (.i2l, 1) := by decide +kernel
theorem dX7_taleDigest_58 : decode cX7_taleDigest 58 = .ok (.ladd, 1) := by decide +kernel
theorem dX7_taleDigest_59 : decode cX7_taleDigest 59 = .ok (.lstore 4, 2) := by decide +kernel
theorem dX7_taleDigest_61 : decode cX7_taleDigest 61 = .ok (.iinc 6 1, 3) := by decide +kernel
theorem dX7_taleDigest_64 : decode cX7_taleDigest 64 = .ok (.goto (-26), 3) := by decide +kernel
theorem dX7_taleDigest_67 : decode cX7_taleDigest 67 = .ok (.ldc2_w 362, 3) := by decide +kernel
theorem dX7_taleDigest_70 : decode cX7_taleDigest 70 = .ok (.lload 4, 2) := by decide +kernel
theorem dX7_taleDigest_72 : decode cX7_taleDigest 72 = .ok (.lmul, 1) := by decide +kernel
theorem dX7_taleDigest_73 : decode cX7_taleDigest 73 = .ok (.aload_n 0, 1) := by decide +kernel
theorem dX7_taleDigest_74 : decode cX7_taleDigest 74 = .ok (.iload_n 3, 1) := by decide +kernel
theorem dX7_taleDigest_75 : decode cX7_taleDigest 75 = .ok (.iconst 0, 1) := by decide +kernel
theorem dX7_taleDigest_76 : decode cX7_taleDigest 76 = .ok (.invokevirtual 296, 3) := by decide +kernel
theorem dX7_taleDigest_79 : decode cX7_taleDigest 79 = .ok (.i2l, 1) := by decide +kernel
theorem dX7_taleDigest_80 : decode cX7_taleDigest 80 = .ok (.ladd, 1) := by decide +kernel
theorem dX7_taleDigest_81 : decode cX7_taleDigest 81 = .ok (.lstore 4, 2) := by decide +kernel
theorem dX7_taleDigest_83 : decode cX7_taleDigest 83 = .ok (.ldc2_w 362, 3) := by decide +kernel
theorem dX7_taleDigest_86 : decode cX7_taleDigest 86 = .ok (.lload 4, 2) := by decide +kernel
theorem dX7_taleDigest_88 : decode cX7_taleDigest 88 = .ok (.lmul, 1) := by decide +kernel
theorem dX7_taleDigest_89 : decode cX7_taleDigest 89 = .ok (.aload_n 0, 1) := by decide +kernel
theorem dX7_taleDigest_90 : decode cX7_taleDigest 90 = .ok (.iload_n 3, 1) := by decide +kernel
theorem dX7_taleDigest_91 : decode cX7_taleDigest 91 = .ok (.iconst 1, 1) := by decide +kernel
theorem dX7_taleDigest_92 : decode cX7_taleDigest 92 = .ok (.invokevirtual 296, 3) := by decide +kernel
theorem dX7_taleDigest_95 : decode cX7_taleDigest 95 = .ok (.i2l, 1) := by decide +kernel
theorem dX7_taleDigest_96 : decode cX7_taleDigest 96 = .ok (.ladd, 1) := by decide +kernel
theorem dX7_taleDigest_97 : decode cX7_taleDigest 97 = .ok (.lstore 4, 2) := by decide +kernel
theorem dX7_taleDigest_99 : decode cX7_taleDigest 99 = .ok (.ldc2_w 362, 3) := by decide +kernel
theorem dX7_taleDigest_102 : decode cX7_taleDigest 102 = .ok (.lload 4, 2) := by decide +kernel
theorem dX7_taleDigest_104 : decode cX7_taleDigest 104 = .ok (.lmul, 1) := by decide +kernel
theorem dX7_taleDigest_105 : decode cX7_taleDigest 105 = .ok (.aload_n 0, 1) := by decide +kernel
theorem dX7_taleDigest_106 : decode cX7_taleDigest 106 = .ok (.iload_n 3, 1) := by decide +kernel
theorem dX7_taleDigest_107 : decode cX7_taleDigest 107 = .ok (.invokevirtual 324, 3) := by decide +kernel
theorem dX7_taleDigest_110 : decode cX7_taleDigest 110 = .ok (.i2l, 1) := by decide +kernel
theorem dX7_taleDigest_111 : decode cX7_taleDigest 111 = .ok (.ladd, 1) := by decide +kernel
theorem dX7_taleDigest_112 : decode cX7_taleDigest 112 = .ok (.lstore 4, 2) := by decide +kernel
theorem dX7_taleDigest_114 : decode cX7_taleDigest 114 = .ok (.ldc2_w 362, 3) := by decide +kernel
theorem dX7_taleDigest_117 : decode cX7_taleDigest 117 = .ok (.lload 4, 2) := by decide +kernel
theorem dX7_taleDigest_119 : decode cX7_taleDigest 119 = .ok (.lmul, 1) := by decide +kernel
theorem dX7_taleDigest_120 : decode cX7_taleDigest 120 = .ok (.aload_n 0, 1) := by decide +kernel
theorem dX7_taleDigest_121 : decode cX7_taleDigest 121 = .ok (.iload_n 3, 1) := by decide +kernel
theorem dX7_taleDigest_122 : decode cX7_taleDigest 122 = .ok (.invokevirtual 327, 3) := by decide +kernel
theorem dX7_taleDigest_125 : decode cX7_taleDigest 125 = .ok (.i2l, 1) := by decide +kernel
theorem dX7_taleDigest_126 : decode cX7_taleDigest 126 = .ok (.ladd, 1) := by decide +kernel
theorem dX7_taleDigest_127 : decode cX7_taleDigest 127 = .ok (.lstore 4, 2) := by decide +kernel
theorem dX7_taleDigest_129 : decode cX7_taleDigest 129 = .ok (.ldc2_w 362, 3) := by decide +kernel
theorem dX7_taleDigest_132 : decode cX7_taleDigest 132 = .ok (.lload 4, 2) := by decide +kernel
theorem dX7_taleDigest_134 : decode cX7_taleDigest 134 = .ok (.lmul, 1) := by decide +kernel
theorem dX7_taleDigest_135 : decode cX7_taleDigest 135 = .ok (.aload_n 0, 1) := by decide +kernel
theorem dX7_taleDigest_136 : decode cX7_taleDigest 136 = .ok (.iload_n 3, 1) := by decide +kernel
theorem dX7_taleDigest_137 : decode cX7_taleDigest 137 = .ok (.invokevirtual 330, 3) := by decide +kernel
theorem dX7_taleDigest_140 : decode cX7_taleDigest 140 = .ok (.i2l, 1) := by decide +kernel
theorem dX7_taleDigest_141 : decode cX7_taleDigest 141 = .ok (.ladd, 1) := by decide +kernel
theorem dX7_taleDigest_142 : decode cX7_taleDigest 142 = .ok (.lreturn, 1) := by decide +kernel
theorem dX7_chargeDigest_0 : decode cX7_chargeDigest 0 = .ok (.ldc2_w 362, 3) := by decide +kernel
theorem dX7_chargeDigest_3 : decode cX7_chargeDigest 3 = .ok (.lload_n 1, 1) := by decide +kernel
theorem dX7_chargeDigest_4 : decode cX7_chargeDigest 4 = .ok (.lmul, 1) := by decide +kernel
theorem dX7_chargeDigest_5 : decode cX7_chargeDigest 5 = .ok (.aload_n 0, 1) := by decide +kernel
theorem dX7_chargeDigest_6 : decode cX7_chargeDigest 6 = .ok (.iload_n 3, 1) := by decide +kernel
theorem dX7_chargeDigest_7 : decode cX7_chargeDigest 7 = .ok (.iconst 0, 1) := by decide +kernel
theorem dX7_chargeDigest_8 : decode cX7_chargeDigest 8 = .ok (.invokevirtual 165, 3) := by decide +kernel
theorem dX7_chargeDigest_11 : decode cX7_chargeDigest 11 = .ok (.i2l, 1) := by decide +kernel
theorem dX7_chargeDigest_12 : decode cX7_chargeDigest 12 = .ok (.ladd, 1) := by decide +kernel
theorem dX7_chargeDigest_13 : decode cX7_chargeDigest 13 = .ok (.lstore 4, 2) := by decide +kernel
theorem dX7_chargeDigest_15 : decode cX7_chargeDigest 15 = .ok (.ldc2_w 362, 3) := by decide +kernel
theorem dX7_chargeDigest_18 : decode cX7_chargeDigest 18 = .ok (.lload 4, 2) := by decide +kernel
theorem dX7_chargeDigest_20 : decode cX7_chargeDigest 20 = .ok (.lmul, 1) := by decide +kernel
theorem dX7_chargeDigest_21 : decode cX7_chargeDigest 21 = .ok (.aload_n 0, 1) := by decide +kernel
theorem dX7_chargeDigest_22 : decode cX7_chargeDigest 22 = .ok (.iload_n 3, 1) := by decide +kernel
theorem dX7_chargeDigest_23 : decode cX7_chargeDigest 23 = .ok (.iconst 1, 1) := by decide +kernel
theorem dX7_chargeDigest_24 : decode cX7_chargeDigest 24 = .ok (.invokevirtual 165, 3) := by decide +kernel
theorem dX7_chargeDigest_27 : decode cX7_chargeDigest 27 = .ok (.i2l, 1) := by decide +kernel
theorem dX7_chargeDigest_28 : decode cX7_chargeDigest 28 = .ok (.ladd, 1) := by decide +kernel
theorem dX7_chargeDigest_29 : decode cX7_chargeDigest 29 = .ok (.lstore 4, 2) := by decide +kernel
theorem dX7_chargeDigest_31 : decode cX7_chargeDigest 31 = .ok (.ldc2_w 362, 3) := by decide +kernel
theorem dX7_chargeDigest_34 : decode cX7_chargeDigest 34 = .ok (.lload 4, 2) := by decide +kernel
theorem dX7_chargeDigest_36 : decode cX7_chargeDigest 36 = .ok (.lmul, 1) := by decide +kernel
theorem dX7_chargeDigest_37 : decode cX7_chargeDigest 37 = .ok (.aload_n 0, 1) := by decide +kernel
theorem dX7_chargeDigest_38 : decode cX7_chargeDigest 38 = .ok (.iload_n 3, 1) := by decide +kernel
theorem dX7_chargeDigest_39 : decode cX7_chargeDigest 39 = .ok (.invokevirtual 252, 3) := by decide +kernel
theorem dX7_chargeDigest_42 : decode cX7_chargeDigest 42 = .ok (.i2l, 1) := by decide +kernel
theorem dX7_chargeDigest_43 : decode cX7_chargeDigest 43 = .ok (.ladd, 1) := by decide +kernel
theorem dX7_chargeDigest_44 : decode cX7_chargeDigest 44 = .ok (.lstore 4, 2) := by decide +kernel
theorem dX7_chargeDigest_46 : decode cX7_chargeDigest 46 = .ok (.ldc2_w 362, 3) := by decide +kernel
theorem dX7_chargeDigest_49 : decode cX7_chargeDigest 49 = .ok (.lload 4, 2) := by decide +kernel
theorem dX7_chargeDigest_51 : decode cX7_chargeDigest 51 = .ok (.lmul, 1) := by decide +kernel
theorem dX7_chargeDigest_52 : decode cX7_chargeDigest 52 = .ok (.aload_n 0, 1) := by decide +kernel
theorem dX7_chargeDigest_53 : decode cX7_chargeDigest 53 = .ok (.iload_n 3, 1) := by decide +kernel
theorem dX7_chargeDigest_54 : decode cX7_chargeDigest 54 = .ok (.iconst 0, 1) := by decide +kernel
theorem dX7_chargeDigest_55 : decode cX7_chargeDigest 55 = .ok (.invokevirtual 256, 3) := by decide +kernel
theorem dX7_chargeDigest_58 : decode cX7_chargeDigest 58 = .ok (.i2l, 1) := by decide +kernel
theorem dX7_chargeDigest_59 : decode cX7_chargeDigest 59 = .ok (.ladd, 1) := by decide +kernel
theorem dX7_chargeDigest_60 : decode cX7_chargeDigest 60 = .ok (.lstore 4, 2) := by decide +kernel
theorem dX7_chargeDigest_62 : decode cX7_chargeDigest 62 = .ok (.ldc2_w 362, 3) := by decide +kernel
theorem dX7_chargeDigest_65 : decode cX7_chargeDigest 65 = .ok (.lload 4, 2) := by decide +kernel
theorem dX7_chargeDigest_67 : decode cX7_chargeDigest 67 = .ok (.lmul, 1) := by decide +kernel
theorem dX7_chargeDigest_68 : decode cX7_chargeDigest 68 = .ok (.aload_n 0, 1) := by decide +kernel
theorem dX7_chargeDigest_69 : decode cX7_chargeDigest 69 = .ok (.iload_n 3, 1) := by decide +kernel
theorem dX7_chargeDigest_70 : decode cX7_chargeDigest 70 = .ok (.iconst 1, 1) := by decide +kernel
theorem dX7_chargeDigest_71 : decode cX7_chargeDigest 71 = .ok (.invokevirtual 256, 3) := by decide +kernel
theorem dX7_chargeDigest_74 : decode cX7_chargeDigest 74 = .ok (.i2l, 1) := by decide +kernel
theorem dX7_chargeDigest_75 : decode cX7_chargeDigest 75 = .ok (.ladd, 1) := by decide +kernel
theorem dX7_chargeDigest_76 : decode cX7_chargeDigest 76 = .ok (.lstore 4, 2) := by decide +kernel
theorem dX7_chargeDigest_78 : decode cX7_chargeDigest 78 = .ok (.ldc2_w 362, 3) := by decide +kernel
theorem dX7_chargeDigest_81 : decode cX7_chargeDigest 81 = .ok (.lload 4, 2) := by decide +kernel
theorem dX7_chargeDigest_83 : decode cX7_chargeDigest 83 = .ok (.lmul, 1) := by decide +kernel
theorem dX7_chargeDigest_84 : decode cX7_chargeDigest 84 = .ok (.aload_n 0, 1) := by decide +kernel
theorem dX7_chargeDigest_85 : decode cX7_chargeDigest 85 = .ok (.iconst 5, 1) := by decide +kernel
theorem dX7_chargeDigest_86 : decode cX7_chargeDigest 86 = .ok (.iload_n 3, 1) := by decide +kernel
theorem dX7_chargeDigest_87 : decode cX7_chargeDigest 87 = .ok (.iconst 0, 1) := by decide +kernel
theorem dX7_chargeDigest_88 : decode cX7_chargeDigest 88 = .ok (.invokevirtual 337, 3) := by decide +kernel
theorem dX7_chargeDigest_91 : decode cX7_chargeDigest 91 = .ok (.ladd, 1) := by decide +kernel
theorem dX7_chargeDigest_92 : decode cX7_chargeDigest 92 = .ok (.lstore 4, 2) := by decide +kernel
theorem dX7_chargeDigest_94 : decode cX7_chargeDigest 94 = .ok (.ldc2_w 362, 3) := by decide +kernel
theorem dX7_chargeDigest_97 : decode cX7_chargeDigest 97 = .ok (.lload 4, 2) := by decide +kernel
theorem dX7_chargeDigest_99 : decode cX7_chargeDigest 99 = .ok (.lmul, 1) := by decide +kernel
theorem dX7_chargeDigest_100 : decode cX7_chargeDigest 100 = .ok (.aload_n 0, 1) := by decide +kernel
theorem dX7_chargeDigest_101 : decode cX7_chargeDigest 101 = .ok (.iconst 5, 1) := by decide +kernel
theorem dX7_chargeDigest_102 : decode cX7_chargeDigest 102 = .ok (.iload_n 3, 1) := by decide +kernel
theorem dX7_chargeDigest_103 : decode cX7_chargeDigest 103 = .ok (.iconst 1, 1) := by decide +kernel
theorem dX7_chargeDigest_104 : decode cX7_chargeDigest 104 = .ok (.invokevirtual 337, 3) := by decide +kernel
theorem dX7_chargeDigest_107 : decode cX7_chargeDigest 107 = .ok (.ladd, 1) := by decide +kernel
theorem dX7_chargeDigest_108 : decode cX7_chargeDigest 108 = .ok (.lreturn, 1) := by decide +kernel
theorem dX7_digest_0 : decode cX7_digest 0 = .ok (.ldc2_w 364, 3) := by decide +kernel
theorem dX7_digest_3 : decode cX7_digest 3 = .ok (.lstore_n 1, 1) := by decide +kernel
theorem dX7_digest_4 : decode cX7_digest 4 = .ok (.iconst 0, 1) := by decide +kernel
theorem dX7_digest_5 : decode cX7_digest 5 = .ok (.istore_n 3, 1) := by decide +kernel
theorem dX7_digest_6 : decode cX7_digest 6 = .ok (.iload_n 3, 1) := by decide +kernel
theorem dX7_digest_7 : decode cX7_digest 7 = .ok (.bipush 8, 2) := by decide +kernel
theorem dX7_digest_9 : decode cX7_digest 9 = .ok (.if_icmp .ge 22, 3) := by decide +kernel
theorem dX7_digest_12 : decode cX7_digest 12 = .ok (.ldc2_w 362, 3) := by decide +kernel
theorem dX7_digest_15 : decode cX7_digest 15 = .ok (.lload_n 1, 1) := by decide +kernel
theorem dX7_digest_16 : decode cX7_digest 16 = .ok (.lmul, 1) := by decide +kernel
theorem dX7_digest_17 : decode cX7_digest 17 = .ok (.aload_n 0, 1) := by decide +kernel
theorem dX7_digest_18 : decode cX7_digest 18 = .ok (.iload_n 3, 1) := by decide +kernel
theorem dX7_digest_19 : decode cX7_digest 19 = .ok (.invokevirtual 366, 3) := by decide +kernel
theorem dX7_digest_22 : decode cX7_digest 22 = .ok (.i2l, 1) := by decide +kernel
theorem dX7_digest_23 : decode cX7_digest 23 = .ok (.ladd, 1) := by decide +kernel
theorem dX7_digest_24 : decode cX7_digest 24 = .ok (.lstore_n 1, 1) := by decide +kernel
theorem dX7_digest_25 : decode cX7_digest 25 = .ok (.iinc 3 1, 3) := by decide +kernel
theorem dX7_digest_28 : decode cX7_digest 28 = .ok (.goto (-22), 3) := by decide +kernel
theorem dX7_digest_31 : decode cX7_digest 31 = .ok (.ldc2_w 362, 3) := by decide +kernel
theorem dX7_digest_34 : decode cX7_digest 34 = .ok (.lload_n 1, 1) := by decide +kernel
theorem dX7_digest_35 : decode cX7_digest 35 = .ok (.lmul, 1) := by decide +kernel
theorem dX7_digest_36 : decode cX7_digest 36 = .ok (.aload_n 0, 1) := by decide +kernel
theorem dX7_digest_37 : decode cX7_digest 37 = .ok (.iconst 0, 1) := by decide +kernel
theorem dX7_digest_38 : decode cX7_digest 38 = .ok (.invokevirtual 150, 3) := by decide +kernel
theorem dX7_digest_41 : decode cX7_digest 41 = .ok (.i2l, 1) := by decide +kernel
theorem dX7_digest_42 : decode cX7_digest 42 = .ok (.ladd, 1) := by decide +kernel
theorem dX7_digest_43 : decode cX7_digest 43 = .ok (.lstore_n 1, 1) := by decide +kernel
theorem dX7_digest_44 : decode cX7_digest 44 = .ok (.ldc2_w 362, 3) := by decide +kernel
theorem dX7_digest_47 : decode cX7_digest 47 = .ok (.lload_n 1, 1) := by decide +kernel
theorem dX7_digest_48 : decode cX7_digest 48 = .ok (.lmul, 1) := by decide +kernel
theorem dX7_digest_49 : decode cX7_digest 49 = .ok (.aload_n 0, 1) := by decide +kernel
theorem dX7_digest_50 : decode cX7_digest 50 = .ok (.iconst 1, 1) := by decide +kernel
theorem dX7_digest_51 : decode cX7_digest 51 = .ok (.invokevirtual 150, 3) := by decide +kernel
theorem dX7_digest_54 : decode cX7_digest 54 = .ok (.i2l, 1) := by decide +kernel
theorem dX7_digest_55 : decode cX7_digest 55 = .ok (.ladd, 1) := by decide +kernel
theorem dX7_digest_56 : decode cX7_digest 56 = .ok (.lstore_n 1, 1) := by decide +kernel
theorem dX7_digest_57 : decode cX7_digest 57 = .ok (.iconst 0, 1) := by decide +kernel
theorem dX7_digest_58 : decode cX7_digest 58 = .ok (.istore_n 3, 1) := by decide +kernel
theorem dX7_digest_59 : decode cX7_digest 59 = .ok (.iload_n 3, 1) := by decide +kernel
theorem dX7_digest_60 : decode cX7_digest 60 = .ok (.bipush 8, 2) := by decide +kernel
theorem dX7_digest_62 : decode cX7_digest 62 = .ok (.if_icmp .ge 72, 3) := by decide +kernel
theorem dX7_digest_65 : decode cX7_digest 65 = .ok (.ldc2_w 362, 3) := by decide +kernel
theorem dX7_digest_68 : decode cX7_digest 68 = .ok (.lload_n 1, 1) := by decide +kernel
theorem dX7_digest_69 : decode cX7_digest 69 = .ok (.lmul, 1) := by decide +kernel
theorem dX7_digest_70 : decode cX7_digest 70 = .ok (.aload_n 0, 1) := by decide +kernel
theorem dX7_digest_71 : decode cX7_digest 71 = .ok (.iconst 3, 1) := by decide +kernel
theorem dX7_digest_72 : decode cX7_digest 72 = .ok (.iload_n 3, 1) := by decide +kernel
theorem dX7_digest_73 : decode cX7_digest 73 = .ok (.iconst 0, 1) := by decide +kernel
theorem dX7_digest_74 : decode cX7_digest 74 = .ok (.invokevirtual 249, 3) := by decide +kernel
theorem dX7_digest_77 : decode cX7_digest 77 = .ok (.i2l, 1) := by decide +kernel
theorem dX7_digest_78 : decode cX7_digest 78 = .ok (.ladd, 1) := by decide +kernel
theorem dX7_digest_79 : decode cX7_digest 79 = .ok (.lstore_n 1, 1) := by decide +kernel
theorem dX7_digest_80 : decode cX7_digest 80 = .ok (.ldc2_w 362, 3) := by decide +kernel
theorem dX7_digest_83 : decode cX7_digest 83 = .ok (.lload_n 1, 1) := by decide +kernel
theorem dX7_digest_84 : decode cX7_digest 84 = .ok (.lmul, 1) := by decide +kernel
theorem dX7_digest_85 : decode cX7_digest 85 = .ok (.aload_n 0, 1) := by decide +kernel
theorem dX7_digest_86 : decode cX7_digest 86 = .ok (.bipush 12, 2) := by decide +kernel
theorem dX7_digest_88 : decode cX7_digest 88 = .ok (.iload_n 3, 1) := by decide +kernel
theorem dX7_digest_89 : decode cX7_digest 89 = .ok (.iconst 0, 1) := by decide +kernel
theorem dX7_digest_90 : decode cX7_digest 90 = .ok (.invokevirtual 249, 3) := by decide +kernel
theorem dX7_digest_93 : decode cX7_digest 93 = .ok (.i2l, 1) := by decide +kernel
theorem dX7_digest_94 : decode cX7_digest 94 = .ok (.ladd, 1) := by decide +kernel
theorem dX7_digest_95 : decode cX7_digest 95 = .ok (.lstore_n 1, 1) := by decide +kernel
theorem dX7_digest_96 : decode cX7_digest 96 = .ok (.ldc2_w 362, 3) := by decide +kernel
theorem dX7_digest_99 : decode cX7_digest 99 = .ok (.lload_n 1, 1) := by decide +kernel
theorem dX7_digest_100 : decode cX7_digest 100 = .ok (.lmul, 1) := by decide +kernel
theorem dX7_digest_101 : decode cX7_digest 101 = .ok (.aload_n 0, 1) := by decide +kernel
theorem dX7_digest_102 : decode cX7_digest 102 = .ok (.bipush 23, 2) := by decide +kernel
theorem dX7_digest_104 : decode cX7_digest 104 = .ok (.iload_n 3, 1) := by decide +kernel
theorem dX7_digest_105 : decode cX7_digest 105 = .ok (.iconst 0, 1) := by decide +kernel
theorem dX7_digest_106 : decode cX7_digest 106 = .ok (.invokevirtual 249, 3) := by decide +kernel
theorem dX7_digest_109 : decode cX7_digest 109 = .ok (.i2l, 1) := by decide +kernel
theorem dX7_digest_110 : decode cX7_digest 110 = .ok (.ladd, 1) := by decide +kernel
theorem dX7_digest_111 : decode cX7_digest 111 = .ok (.lstore_n 1, 1) := by decide +kernel
theorem dX7_digest_112 : decode cX7_digest 112 = .ok (.ldc2_w 362, 3) := by decide +kernel
theorem dX7_digest_115 : decode cX7_digest 115 = .ok (.lload_n 1, 1) := by decide +kernel
theorem dX7_digest_116 : decode cX7_digest 116 = .ok (.lmul, 1) := by decide +kernel
theorem dX7_digest_117 : decode cX7_digest 117 = .ok (.aload_n 0, 1) := by decide +kernel
theorem dX7_digest_118 : decode cX7_digest 118 = .ok (.bipush 23, 2) := by decide +kernel
theorem dX7_digest_120 : decode cX7_digest 120 = .ok (.iload_n 3, 1) := by decide +kernel
theorem dX7_digest_121 : decode cX7_digest 121 = .ok (.iconst 1, 1) := by decide +kernel
theorem dX7_digest_122 : decode cX7_digest 122 = .ok (.invokevirtual 249, 3) := by decide +kernel
theorem dX7_digest_125 : decode cX7_digest 125 = .ok (.i2l, 1) := by decide +kernel
theorem dX7_digest_126 : decode cX7_digest 126 = .ok (.ladd, 1) := by decide +kernel
theorem dX7_digest_127 : decode cX7_digest 127 = .ok (.lstore_n 1, 1) := by decide +kernel
theorem dX7_digest_128 : decode cX7_digest 128 = .ok (.iinc 3 1, 3) := by decide +kernel
theorem dX7_digest_131 : decode cX7_digest 131 = .ok (.goto (-72), 3) := by decide +kernel
theorem dX7_digest_134 : decode cX7_digest 134 = .ok (.iconst 0, 1) := by decide +kernel
theorem dX7_digest_135 : decode cX7_digest 135 = .ok (.istore_n 3, 1) := by decide +kernel
theorem dX7_digest_136 : decode cX7_digest 136 = .ok (.iload_n 3, 1) := by decide +kernel
theorem dX7_digest_137 : decode cX7_digest 137 = .ok (.bipush 24, 2) := by decide +kernel
theorem dX7_digest_139 : decode cX7_digest 139 = .ok (.if_icmp .ge 22, 3) := by decide +kernel
theorem dX7_digest_142 : decode cX7_digest 142 = .ok (.ldc2_w 362, 3) := by decide +kernel
theorem dX7_digest_145 : decode cX7_digest 145 = .ok (.lload_n 1, 1) := by decide +kernel
theorem dX7_digest_146 : decode cX7_digest 146 = .ok (.lmul, 1) := by decide +kernel
theorem dX7_digest_147 : decode cX7_digest 147 = .ok (.aload_n 0, 1) := by decide +kernel
theorem dX7_digest_148 : decode cX7_digest 148 = .ok (.iload_n 3, 1) := by decide +kernel
theorem dX7_digest_149 : decode cX7_digest 149 = .ok (.invokevirtual 281, 3) := by decide +kernel
theorem dX7_digest_152 : decode cX7_digest 152 = .ok (.i2l, 1) := by decide +kernel
theorem dX7_digest_153 : decode cX7_digest 153 = .ok (.ladd, 1) := by decide +kernel
theorem dX7_digest_154 : decode cX7_digest 154 = .ok (.lstore_n 1, 1) := by decide +kernel
theorem dX7_digest_155 : decode cX7_digest 155 = .ok (.iinc 3 1, 3) := by decide +kernel
theorem dX7_digest_158 : decode cX7_digest 158 = .ok (.goto (-22), 3) := by decide +kernel
theorem dX7_digest_161 : decode cX7_digest 161 = .ok (.iconst 0, 1) := by decide +kernel
theorem dX7_digest_162 : decode cX7_digest 162 = .ok (.istore_n 3, 1) := by decide +kernel
theorem dX7_digest_163 : decode cX7_digest 163 = .ok (.iload_n 3, 1) := by decide +kernel
theorem dX7_digest_164 : decode cX7_digest 164 = .ok (.aload_n 0, 1) := by decide +kernel
theorem dX7_digest_165 : decode cX7_digest 165 = .ok (.getfield 135, 3) := by decide +kernel
theorem dX7_digest_168 : decode cX7_digest 168 = .ok (.if_icmp .ge 16, 3) := by decide +kernel
theorem dX7_digest_171 : decode cX7_digest 171 = .ok (.aload_n 0, 1) := by decide +kernel
theorem dX7_digest_172 : decode cX7_digest 172 = .ok (.lload_n 1, 1) := by decide +kernel
theorem dX7_digest_173 : decode cX7_digest 173 = .ok (.iload_n 3, 1) := by decide +kernel
theorem dX7_digest_174 : decode cX7_digest 174 = .ok (.invokevirtual 369, 3) := by decide +kernel
theorem dX7_digest_177 : decode cX7_digest 177 = .ok (.lstore_n 1, 1) := by decide +kernel
theorem dX7_digest_178 : decode cX7_digest 178 = .ok (.iinc 3 1, 3) := by decide +kernel
theorem dX7_digest_181 : decode cX7_digest 181 = .ok (.goto (-18), 3) := by decide +kernel
theorem dX7_digest_184 : decode cX7_digest 184 = .ok (.iconst 0, 1) := by decide +kernel
theorem dX7_digest_185 : decode cX7_digest 185 = .ok (.istore_n 3, 1) := by decide +kernel
theorem dX7_digest_186 : decode cX7_digest 186 = .ok (.iload_n 3, 1) := by decide +kernel
theorem dX7_digest_187 : decode cX7_digest 187 = .ok (.aload_n 0, 1) := by decide +kernel
theorem dX7_digest_188 : decode cX7_digest 188 = .ok (.getfield 138, 3) := by decide +kernel
theorem dX7_digest_191 : decode cX7_digest 191 = .ok (.if_icmp .ge 16, 3) := by decide +kernel
theorem dX7_digest_194 : decode cX7_digest 194 = .ok (.aload_n 0, 1) := by decide +kernel
theorem dX7_digest_195 : decode cX7_digest 195 = .ok (.lload_n 1, 1) := by decide +kernel
theorem dX7_digest_196 : decode cX7_digest 196 = .ok (.iload_n 3, 1) := by decide +kernel
theorem dX7_digest_197 : decode cX7_digest 197 = .ok (.invokevirtual 373, 3) := by decide +kernel
theorem dX7_digest_200 : decode cX7_digest 200 = .ok (.lstore_n 1, 1) := by decide +kernel
theorem dX7_digest_201 : decode cX7_digest 201 = .ok (.iinc 3 1, 3) := by decide +kernel
theorem dX7_digest_204 : decode cX7_digest 204 = .ok (.goto (-18), 3) := by decide +kernel
theorem dX7_digest_207 : decode cX7_digest 207 = .ok (.iconst 0, 1) := by decide +kernel
theorem dX7_digest_208 : decode cX7_digest 208 = .ok (.istore_n 3, 1) := by decide +kernel
theorem dX7_digest_209 : decode cX7_digest 209 = .ok (.iload_n 3, 1) := by decide +kernel
theorem dX7_digest_210 : decode cX7_digest 210 = .ok (.iconst 4, 1) := by decide +kernel
theorem dX7_digest_211 : decode cX7_digest 211 = .ok (.if_icmp .ge 22, 3) := by decide +kernel
theorem dX7_digest_214 : decode cX7_digest 214 = .ok (.ldc2_w 362, 3) := by decide +kernel
theorem dX7_digest_217 : decode cX7_digest 217 = .ok (.lload_n 1, 1) := by decide +kernel
theorem dX7_digest_218 : decode cX7_digest 218 = .ok (.lmul, 1) := by decide +kernel
theorem dX7_digest_219 : decode cX7_digest 219 = .ok (.aload_n 0, 1) := by decide +kernel
theorem dX7_digest_220 : decode cX7_digest 220 = .ok (.iload_n 3, 1) := by decide +kernel
theorem dX7_digest_221 : decode cX7_digest 221 = .ok (.invokevirtual 269, 3) := by decide +kernel
theorem dX7_digest_224 : decode cX7_digest 224 = .ok (.i2l, 1) := by decide +kernel
theorem dX7_digest_225 : decode cX7_digest 225 = .ok (.ladd, 1) := by decide +kernel
theorem dX7_digest_226 : decode cX7_digest 226 = .ok (.lstore_n 1, 1) := by decide +kernel
theorem dX7_digest_227 : decode cX7_digest 227 = .ok (.iinc 3 1, 3) := by decide +kernel
theorem dX7_digest_230 : decode cX7_digest 230 = .ok (.goto (-21), 3) := by decide +kernel
theorem dX7_digest_233 : decode cX7_digest 233 = .ok (.ldc2_w 362, 3) := by decide +kernel
theorem dX7_digest_236 : decode cX7_digest 236 = .ok (.lload_n 1, 1) := by decide +kernel
theorem dX7_digest_237 : decode cX7_digest 237 = .ok (.lmul, 1) := by decide +kernel
theorem dX7_digest_238 : decode cX7_digest 238 = .ok (.aload_n 0, 1) := by decide +kernel
theorem dX7_digest_239 : decode cX7_digest 239 = .ok (.invokevirtual 272, 3) := by decide +kernel
theorem dX7_digest_242 : decode cX7_digest 242 = .ok (.i2l, 1) := by decide +kernel
theorem dX7_digest_243 : decode cX7_digest 243 = .ok (.ladd, 1) := by decide +kernel
theorem dX7_digest_244 : decode cX7_digest 244 = .ok (.lstore_n 1, 1) := by decide +kernel
theorem dX7_digest_245 : decode cX7_digest 245 = .ok (.ldc2_w 362, 3) := by decide +kernel
theorem dX7_digest_248 : decode cX7_digest 248 = .ok (.lload_n 1, 1) := by decide +kernel
theorem dX7_digest_249 : decode cX7_digest 249 = .ok (.lmul, 1) := by decide +kernel
theorem dX7_digest_250 : decode cX7_digest 250 = .ok (.aload_n 0, 1) := by decide +kernel
theorem dX7_digest_251 : decode cX7_digest 251 = .ok (.invokevirtual 275, 3) := by decide +kernel
theorem dX7_digest_254 : decode cX7_digest 254 = .ok (.i2l, 1) := by decide +kernel
theorem dX7_digest_255 : decode cX7_digest 255 = .ok (.ladd, 1) := by decide +kernel
theorem dX7_digest_256 : decode cX7_digest 256 = .ok (.lstore_n 1, 1) := by decide +kernel
theorem dX7_digest_257 : decode cX7_digest 257 = .ok (.ldc2_w 362, 3) := by decide +kernel
theorem dX7_digest_260 : decode cX7_digest 260 = .ok (.lload_n 1, 1) := by decide +kernel
theorem dX7_digest_261 : decode cX7_digest 261 = .ok (.lmul, 1) := by decide +kernel
theorem dX7_digest_262 : decode cX7_digest 262 = .ok (.aload_n 0, 1) := by decide +kernel
theorem dX7_digest_263 : decode cX7_digest 263 = .ok (.iconst 0, 1) := by decide +kernel
theorem dX7_digest_264 : decode cX7_digest 264 = .ok (.invokevirtual 299, 3) := by decide +kernel
theorem dX7_digest_267 : decode cX7_digest 267 = .ok (.i2l, 1) := by decide +kernel
theorem dX7_digest_268 : decode cX7_digest 268 = .ok (.ladd, 1) := by decide +kernel
theorem dX7_digest_269 : decode cX7_digest 269 = .ok (.lstore_n 1, 1) := by decide +kernel
theorem dX7_digest_270 : decode cX7_digest 270 = .ok (.ldc2_w 362, 3) := by decide +kernel
theorem dX7_digest_273 : decode cX7_digest 273 = .ok (.lload_n 1, 1) := by decide +kernel
theorem dX7_digest_274 : decode cX7_digest 274 = .ok (.lmul, 1) := by decide +kernel
theorem dX7_digest_275 : decode cX7_digest 275 = .ok (.aload_n 0, 1) := by decide +kernel
theorem dX7_digest_276 : decode cX7_digest 276 = .ok (.iconst 1, 1) := by decide +kernel
theorem dX7_digest_277 : decode cX7_digest 277 = .ok (.invokevirtual 299, 3) := by decide +kernel
theorem dX7_digest_280 : decode cX7_digest 280 = .ok (.i2l, 1) := by decide +kernel
theorem dX7_digest_281 : decode cX7_digest 281 = .ok (.ladd, 1) := by decide +kernel
theorem dX7_digest_282 : decode cX7_digest 282 = .ok (.lstore_n 1, 1) := by decide +kernel
theorem dX7_digest_283 : decode cX7_digest 283 = .ok (.ldc2_w 362, 3) := by decide +kernel
theorem dX7_digest_286 : decode cX7_digest 286 = .ok (.lload_n 1, 1) := by decide +kernel
theorem dX7_digest_287 : decode cX7_digest 287 = .ok (.lmul, 1) := by decide +kernel
theorem dX7_digest_288 : decode cX7_digest 288 = .ok (.aload_n 0, 1) := by decide +kernel
theorem dX7_digest_289 : decode cX7_digest 289 = .ok (.iconst 0, 1) := by decide +kernel
theorem dX7_digest_290 : decode cX7_digest 290 = .ok (.invokevirtual 302, 3) := by decide +kernel
theorem dX7_digest_293 : decode cX7_digest 293 = .ok (.i2l, 1) := by decide +kernel
theorem dX7_digest_294 : decode cX7_digest 294 = .ok (.ladd, 1) := by decide +kernel
theorem dX7_digest_295 : decode cX7_digest 295 = .ok (.lstore_n 1, 1) := by decide +kernel
theorem dX7_digest_296 : decode cX7_digest 296 = .ok (.ldc2_w 362, 3) := by decide +kernel
theorem dX7_digest_299 : decode cX7_digest 299 = .ok (.lload_n 1, 1) := by decide +kernel
theorem dX7_digest_300 : decode cX7_digest 300 = .ok (.lmul, 1) := by decide +kernel
theorem dX7_digest_301 : decode cX7_digest 301 = .ok (.aload_n 0, 1) := by decide +kernel
theorem dX7_digest_302 : decode cX7_digest 302 = .ok (.iconst 1, 1) := by decide +kernel
theorem dX7_digest_303 : decode cX7_digest 303 = .ok (.invokevirtual 302, 3) := by decide +kernel
theorem dX7_digest_306 : decode cX7_digest 306 = .ok (.i2l, 1) := by decide +kernel
theorem dX7_digest_307 : decode cX7_digest 307 = .ok (.ladd, 1) := by decide +kernel
theorem dX7_digest_308 : decode cX7_digest 308 = .ok (.lstore_n 1, 1) := by decide +kernel
theorem dX7_digest_309 : decode cX7_digest 309 = .ok (.aload_n 0, 1) := by decide +kernel
theorem dX7_digest_310 : decode cX7_digest 310 = .ok (.invokevirtual 308, 3) := by decide +kernel
theorem dX7_digest_313 : decode cX7_digest 313 = .ok (.istore_n 3, 1) := by decide +kernel
theorem dX7_digest_314 : decode cX7_digest 314 = .ok (.ldc2_w 362, 3) := by decide +kernel
theorem dX7_digest_317 : decode cX7_digest 317 = .ok (.lload_n 1, 1) := by decide +kernel
theorem dX7_digest_318 : decode cX7_digest 318 = .ok (.lmul, 1) := by decide +kernel
theorem dX7_digest_319 : decode cX7_digest 319 = .ok (.iload_n 3, 1) := by decide +kernel
theorem dX7_digest_320 : decode cX7_digest 320 = .ok (.i2l, 1) := by decide +kernel
theorem dX7_digest_321 : decode cX7_digest 321 = .ok (.ladd, 1) := by decide +kernel
theorem dX7_digest_322 : decode cX7_digest 322 = .ok (.lstore_n 1, 1) := by decide +kernel
theorem dX7_digest_323 : decode cX7_digest 323 = .ok (.ldc2_w 362, 3) := by decide +kernel
theorem dX7_digest_326 : decode cX7_digest 326 = .ok (.lload_n 1, 1) := by decide +kernel
theorem dX7_digest_327 : decode cX7_digest 327 = .ok (.lmul, 1) := by decide +kernel
theorem dX7_digest_328 : decode cX7_digest 328 = .ok (.aload_n 0, 1) := by decide +kernel
theorem dX7_digest_329 : decode cX7_digest 329 = .ok (.iload_n 3, 1) := by decide +kernel
theorem dX7_digest_330 : decode cX7_digest 330 = .ok (.iconst 0, 1) := by decide +kernel
theorem dX7_digest_331 : decode cX7_digest 331 = .ok (.invokevirtual 311, 3) := by decide +kernel
theorem dX7_digest_334 : decode cX7_digest 334 = .ok (.i2l, 1) := by decide +kernel
theorem dX7_digest_335 : decode cX7_digest 335 = .ok (.ladd, 1) := by decide +kernel
theorem dX7_digest_336 : decode cX7_digest 336 = .ok (.lstore_n 1, 1) := by decide +kernel
theorem dX7_digest_337 : decode cX7_digest 337 = .ok (.ldc2_w 362, 3) := by decide +kernel
theorem dX7_digest_340 : decode cX7_digest 340 = .ok (.lload_n 1, 1) := by decide +kernel
theorem dX7_digest_341 : decode cX7_digest 341 = .ok (.lmul, 1) := by decide +kernel
theorem dX7_digest_342 : decode cX7_digest 342 = .ok (.aload_n 0, 1) := by decide +kernel
theorem dX7_digest_343 : decode cX7_digest 343 = .ok (.invokevirtual 321, 3) := by decide +kernel
theorem dX7_digest_346 : decode cX7_digest 346 = .ok (.i2l, 1) := by decide +kernel
theorem dX7_digest_347 : decode cX7_digest 347 = .ok (.ladd, 1) := by decide +kernel
theorem dX7_digest_348 : decode cX7_digest 348 = .ok (.lstore_n 1, 1) := by decide +kernel
theorem dX7_digest_349 : decode cX7_digest 349 = .ok (.ldc2_w 362, 3) := by decide +kernel
theorem dX7_digest_352 : decode cX7_digest 352 = .ok (.lload_n 1, 1) := by decide +kernel
theorem dX7_digest_353 : decode cX7_digest 353 = .ok (.lmul, 1) := by decide +kernel
theorem dX7_digest_354 : decode cX7_digest 354 = .ok (.aload_n 0, 1) := by decide +kernel
theorem dX7_digest_355 : decode cX7_digest 355 = .ok (.bipush 7, 2) := by decide +kernel
theorem dX7_digest_357 : decode cX7_digest 357 = .ok (.bipush 9, 2) := by decide +kernel
theorem dX7_digest_359 : decode cX7_digest 359 = .ok (.iconst 0, 1) := by decide +kernel
theorem dX7_digest_360 : decode cX7_digest 360 = .ok (.invokevirtual 346, 3) := by decide +kernel
theorem dX7_digest_363 : decode cX7_digest 363 = .ok (.i2l, 1) := by decide +kernel
theorem dX7_digest_364 : decode cX7_digest 364 = .ok (.ladd, 1) := by decide +kernel
theorem dX7_digest_365 : decode cX7_digest 365 = .ok (.lstore_n 1, 1) := by decide +kernel
theorem dX7_digest_366 : decode cX7_digest 366 = .ok (.ldc2_w 362, 3) := by decide +kernel
theorem dX7_digest_369 : decode cX7_digest 369 = .ok (.lload_n 1, 1) := by decide +kernel
theorem dX7_digest_370 : decode cX7_digest 370 = .ok (.lmul, 1) := by decide +kernel
theorem dX7_digest_371 : decode cX7_digest 371 = .ok (.aload_n 0, 1) := by decide +kernel
theorem dX7_digest_372 : decode cX7_digest 372 = .ok (.bipush 7, 2) := by decide +kernel
theorem dX7_digest_374 : decode cX7_digest 374 = .ok (.bipush 9, 2) := by decide +kernel
theorem dX7_digest_376 : decode cX7_digest 376 = .ok (.iconst 1, 1) := by decide +kernel
theorem dX7_digest_377 : decode cX7_digest 377 = .ok (.invokevirtual 346, 3) := by decide +kernel
theorem dX7_digest_380 : decode cX7_digest 380 = .ok (.i2l, 1) := by decide +kernel
theorem dX7_digest_381 : decode cX7_digest 381 = .ok (.ladd, 1) := by decide +kernel
theorem dX7_digest_382 : decode cX7_digest 382 = .ok (.lreturn, 1) := by decide +kernel
end
section
theorem dL_law_0 : decode cL_law 0 = .ok (.new 7, 3) := by decide +kernel
theorem dL_law_3 : decode cL_law 3 = .ok (.dup, 1) := by decide +kernel
theorem dL_law_4 : decode cL_law 4 = .ok (.invokespecial 9, 3) := by decide +kernel
theorem dL_law_7 : decode cL_law 7 = .ok (.astore_n 1, 1) := by decide +kernel
theorem dL_law_8 : decode cL_law 8 = .ok (.new 10, 3) := by decide +kernel
theorem dL_law_11 : decode cL_law 11 = .ok (.dup, 1) := by decide +kernel
theorem dL_law_12 : decode cL_law 12 = .ok (.invokespecial 12, 3) := by decide +kernel
theorem dL_law_15 : decode cL_law 15 = .ok (.astore_n 2, 1) := by decide +kernel
theorem dL_law_16 : decode cL_law 16 = .ok (.iconst 0, 1) := by decide +kernel
theorem dL_law_17 : decode cL_law 17 = .ok (.istore_n 3, 1) := by decide +kernel
theorem dL_law_18 : decode cL_law 18 = .ok (.iload_n 3, 1) := by decide +kernel
theorem dL_law_19 : decode cL_law 19 = .ok (.aload_n 0, 1) := by decide +kernel
theorem dL_law_20 : decode cL_law 20 = .ok (.arraylength, 1) := by decide +kernel
theorem dL_law_21 : decode cL_law 21 = .ok (.bipush 6, 2) := by decide +kernel
theorem dL_law_23 : decode cL_law 23 = .ok (.isub, 1) := by decide +kernel
theorem dL_law_24 : decode cL_law 24 = .ok (.if_icmp .gt 1288, 3) := by decide +kernel
theorem dL_law_27 : decode cL_law 27 = .ok (.aload_n 0, 1) := by decide +kernel
theorem dL_law_28 : decode cL_law 28 = .ok (.iload_n 3, 1) := by decide +kernel
theorem dL_law_29 : decode cL_law 29 = .ok (.iaload, 1) := by decide +kernel
theorem dL_law_30 : decode cL_law 30 = .ok (.bipush 63, 2) := by decide +kernel
theorem dL_law_32 : decode cL_law 32 = .ok (.iand, 1) := by decide +kernel
theorem dL_law_33 : decode cL_law 33 = .ok (.tableswitch 1273 0 37 #[167, 200, 223, 246, 269, 302, 335, 358, 401, 414, 437, 470, 503, 546, 569, 602, 625, 638, 651, 674, 707, 730, 753, 776, 809, 822, 835, 868, 891, 935, 978, 1021, 1044, 1097, 1140, 1203, 1236, 1259], 167) := by decide +kernel
theorem dL_law_200 : decode cL_law 200 = .ok (.aload_n 1, 1) := by decide +kernel
theorem dL_law_201 : decode cL_law 201 = .ok (.aload_n 0, 1) := by decide +kernel
theorem dL_law_202 : decode cL_law 202 = .ok (.iload_n 3, 1) := by decide +kernel
theorem dL_law_203 : decode cL_law 203 = .ok (.iconst 1, 1) := by decide +kernel
theorem dL_law_204 : decode cL_law 204 = .ok (.iadd, 1) := by decide +kernel
theorem dL_law_205 : decode cL_law 205 = .ok (.iaload, 1) := by decide +kernel
theorem dL_law_206 : decode cL_law 206 = .ok (.aload_n 0, 1) := by decide +kernel
theorem dL_law_207 : decode cL_law 207 = .ok (.iload_n 3, 1) := by decide +kernel
theorem dL_law_208 : decode cL_law 208 = .ok (.iconst 2, 1) := by decide +kernel
theorem dL_law_209 : decode cL_law 209 = .ok (.iadd, 1) := by decide +kernel
theorem dL_law_210 : decode cL_law 210 = .ok (.iaload, 1) := by decide +kernel
theorem dL_law_211 : decode cL_law 211 = .ok (.invokevirtual 13, 3) := by decide +kernel
theorem dL_law_214 : decode cL_law 214 = .ok (.aload_n 2, 1) := by decide +kernel
theorem dL_law_215 : decode cL_law 215 = .ok (.aload_n 0, 1) := by decide +kernel
theorem dL_law_216 : decode cL_law 216 = .ok (.iload_n 3, 1) := by decide +kernel
theorem dL_law_217 : decode cL_law 217 = .ok (.iconst 1, 1) := by decide +kernel
theorem dL_law_218 : decode cL_law 218 = .ok (.iadd, 1) := by decide +kernel
theorem dL_law_219 : decode cL_law 219 = .ok (.iaload, 1) := by decide +kernel
theorem dL_law_220 : decode cL_law 220 = .ok (.aload_n 0, 1) := by decide +kernel
theorem dL_law_221 : decode cL_law 221 = .ok (.iload_n 3, 1) := by decide +kernel
theorem dL_law_222 : decode cL_law 222 = .ok (.iconst 2, 1) := by decide +kernel
theorem dL_law_223 : decode cL_law 223 = .ok (.iadd, 1) := by decide +kernel
theorem dL_law_224 : decode cL_law 224 = .ok (.iaload, 1) := by decide +kernel
theorem dL_law_225 : decode cL_law 225 = .ok (.invokevirtual 17, 3) := by decide +kernel
theorem dL_law_228 : decode cL_law 228 = .ok (.if_icmp .eq 1078, 3) := by decide +kernel
theorem dL_law_231 : decode cL_law 231 = .ok (.iconst 0, 1) := by decide +kernel
theorem dL_law_232 : decode cL_law 232 = .ok (.ireturn, 1) := by decide +kernel
theorem dL_law_233 : decode cL_law 233 = .ok (.aload_n 1, 1) := by decide +kernel
theorem dL_law_234 : decode cL_law 234 = .ok (.aload_n 0, 1) := by decide +kernel
theorem dL_law_235 : decode cL_law 235 = .ok (.iload_n 3, 1) := by decide +kernel
theorem dL_law_236 : decode cL_law 236 = .ok (.iconst 1, 1) := by decide +kernel
theorem dL_law_237 : decode cL_law 237 = .ok (.iadd, 1) := by decide +kernel
theorem dL_law_238 : decode cL_law 238 = .ok (.iaload, 1) := by decide +kernel
theorem dL_law_239 : decode cL_law 239 = .ok (.invokevirtual 18, 3) := by decide +kernel
theorem dL_law_242 : decode cL_law 242 = .ok (.aload_n 2, 1) := by decide +kernel
theorem dL_law_243 : decode cL_law 243 = .ok (.aload_n 0, 1) := by decide +kernel
theorem dL_law_244 : decode cL_law 244 = .ok (.iload_n 3, 1) := by decide +kernel
theorem dL_law_245 : decode cL_law 245 = .ok (.iconst 1, 1) := by decide +kernel
theorem dL_law_246 : decode cL_law 246 = .ok (.iadd, 1) := by decide +kernel
theorem dL_law_247 : decode cL_law 247 = .ok (.iaload, 1) := by decide +kernel
theorem dL_law_248 : decode cL_law 248 = .ok (.invokevirtual 22, 3) := by decide +kernel
theorem dL_law_251 : decode cL_law 251 = .ok (.if_icmp .eq 1055, 3) := by decide +kernel
theorem dL_law_254 : decode cL_law 254 = .ok (.iconst 0, 1) := by decide +kernel
theorem dL_law_255 : decode cL_law 255 = .ok (.ireturn, 1) := by decide +kernel
theorem dL_law_256 : decode cL_law 256 = .ok (.aload_n 1, 1) := by decide +kernel
theorem dL_law_257 : decode cL_law 257 = .ok (.aload_n 0, 1) := by decide +kernel
theorem dL_law_258 : decode cL_law 258 = .ok (.iload_n 3, 1) := by decide +kernel
theorem dL_law_259 : decode cL_law 259 = .ok (.iconst 1, 1) := by decide +kernel
theorem dL_law_260 : decode cL_law 260 = .ok (.iadd, 1) := by decide +kernel
theorem dL_law_261 : decode cL_law 261 = .ok (.iaload, 1) := by decide +kernel
theorem dL_law_262 : decode cL_law 262 = .ok (.invokevirtual 23, 3) := by decide +kernel
theorem dL_law_265 : decode cL_law 265 = .ok (.aload_n 2, 1) := by decide +kernel
theorem dL_law_266 : decode cL_law 266 = .ok (.aload_n 0, 1) := by decide +kernel
theorem dL_law_267 : decode cL_law 267 = .ok (.iload_n 3, 1) := by decide +kernel
theorem dL_law_268 : decode cL_law 268 = .ok (.iconst 1, 1) := by decide +kernel
theorem dL_law_269 : decode cL_law 269 = .ok (.iadd, 1) := by decide +kernel
theorem dL_law_270 : decode cL_law 270 = .ok (.iaload, 1) := by decide +kernel
theorem dL_law_271 : decode cL_law 271 = .ok (.invokevirtual 26, 3) := by decide +kernel
theorem dL_law_274 : decode cL_law 274 = .ok (.if_icmp .eq 1032, 3) := by decide +kernel
theorem dL_law_277 : decode cL_law 277 = .ok (.iconst 0, 1) := by decide +kernel
theorem dL_law_278 : decode cL_law 278 = .ok (.ireturn, 1) := by decide +kernel
theorem dL_law_279 : decode cL_law 279 = .ok (.aload_n 1, 1) := by decide +kernel
theorem dL_law_280 : decode cL_law 280 = .ok (.aload_n 0, 1) := by decide +kernel
theorem dL_law_281 : decode cL_law 281 = .ok (.iload_n 3, 1) := by decide +kernel
theorem dL_law_282 : decode cL_law 282 = .ok (.iconst 1, 1) := by decide +kernel
theorem dL_law_283 : decode cL_law 283 = .ok (.iadd, 1) := by decide +kernel
theorem dL_law_284 : decode cL_law 284 = .ok (.iaload, 1) := by decide +kernel
theorem dL_law_285 : decode cL_law 285 = .ok (.invokevirtual 27, 3) := by decide +kernel
theorem dL_law_288 : decode cL_law 288 = .ok (.aload_n 2, 1) := by decide +kernel
theorem dL_law_289 : decode cL_law 289 = .ok (.aload_n 0, 1) := by decide +kernel
theorem dL_law_290 : decode cL_law 290 = .ok (.iload_n 3, 1) := by decide +kernel
theorem dL_law_291 : decode cL_law 291 = .ok (.iconst 1, 1) := by decide +kernel
theorem dL_law_292 : decode cL_law 292 = .ok (.iadd, 1) := by decide +kernel
theorem dL_law_293 : decode cL_law 293 = .ok (.iaload, 1) := by decide +kernel
theorem dL_law_294 : decode cL_law 294 = .ok (.invokevirtual 30, 3) := by decide +kernel
theorem dL_law_297 : decode cL_law 297 = .ok (.if_icmp .eq 1009, 3) := by decide +kernel
theorem dL_law_300 : decode cL_law 300 = .ok (.iconst 0, 1) := by decide +kernel
theorem dL_law_301 : decode cL_law 301 = .ok (.ireturn, 1) := by decide +kernel
theorem dL_law_302 : decode cL_law 302 = .ok (.aload_n 1, 1) := by decide +kernel
theorem dL_law_303 : decode cL_law 303 = .ok (.aload_n 0, 1) := by decide +kernel
theorem dL_law_304 : decode cL_law 304 = .ok (.iload_n 3, 1) := by decide +kernel
theorem dL_law_305 : decode cL_law 305 = .ok (.iconst 1, 1) := by decide +kernel
theorem dL_law_306 : decode cL_law 306 = .ok (.iadd, 1) := by decide +kernel
theorem dL_law_307 : decode cL_law 307 = .ok (.iaload, 1) := by decide +kernel
theorem dL_law_308 : decode cL_law 308 = .ok (.aload_n 0, 1) := by decide +kernel
theorem dL_law_309 : decode cL_law 309 = .ok (.iload_n 3, 1) := by decide +kernel
theorem dL_law_310 : decode cL_law 310 = .ok (.iconst 2, 1) := by decide +kernel
theorem dL_law_311 : decode cL_law 311 = .ok (.iadd, 1) := by decide +kernel
theorem dL_law_312 : decode cL_law 312 = .ok (.iaload, 1) := by decide +kernel
theorem dL_law_313 : decode cL_law 313 = .ok (.invokevirtual 31, 3) := by decide +kernel
theorem dL_law_316 : decode cL_law 316 = .ok (.aload_n 2, 1) := by decide +kernel
theorem dL_law_317 : decode cL_law 317 = .ok (.aload_n 0, 1) := by decide +kernel
theorem dL_law_318 : decode cL_law 318 = .ok (.iload_n 3, 1) := by decide +kernel
theorem dL_law_319 : decode cL_law 319 = .ok (.iconst 1, 1) := by decide +kernel
theorem dL_law_320 : decode cL_law 320 = .ok (.iadd, 1) := by decide +kernel
theorem dL_law_321 : decode cL_law 321 = .ok (.iaload, 1) := by decide +kernel
theorem dL_law_322 : decode cL_law 322 = .ok (.aload_n 0, 1) := by decide +kernel
theorem dL_law_323 : decode cL_law 323 = .ok (.iload_n 3, 1) := by decide +kernel
theorem dL_law_324 : decode cL_law 324 = .ok (.iconst 2, 1) := by decide +kernel
theorem dL_law_325 : decode cL_law 325 = .ok (.iadd, 1) := by decide +kernel
theorem dL_law_326 : decode cL_law 326 = .ok (.iaload, 1) := by decide +kernel
theorem dL_law_327 : decode cL_law 327 = .ok (.invokevirtual 34, 3) := by decide +kernel
theorem dL_law_330 : decode cL_law 330 = .ok (.if_icmp .eq 976, 3) := by decide +kernel
theorem dL_law_333 : decode cL_law 333 = .ok (.iconst 0, 1) := by decide +kernel
theorem dL_law_334 : decode cL_law 334 = .ok (.ireturn, 1) := by decide +kernel
theorem dL_law_335 : decode cL_law 335 = .ok (.aload_n 1, 1) := by decide +kernel
theorem dL_law_336 : decode cL_law 336 = .ok (.aload_n 0, 1) := by decide +kernel
theorem dL_law_337 : decode cL_law 337 = .ok (.iload_n 3, 1) := by decide +kernel
theorem dL_law_338 : decode cL_law 338 = .ok (.iconst 1, 1) := by decide +kernel
theorem dL_law_339 : decode cL_law 339 = .ok (.iadd, 1) := by decide +kernel
theorem dL_law_340 : decode cL_law 340 = .ok (.iaload, 1) := by decide +kernel
theorem dL_law_341 : decode cL_law 341 = .ok (.aload_n 0, 1) := by decide +kernel
theorem dL_law_342 : decode cL_law 342 = .ok (.iload_n 3, 1) := by decide +kernel
theorem dL_law_343 : decode cL_law 343 = .ok (.iconst 2, 1) := by decide +kernel
theorem dL_law_344 : decode cL_law 344 = .ok (.iadd, 1) := by decide +kernel
theorem dL_law_345 : decode cL_law 345 = .ok (.iaload, 1) := by decide +kernel
theorem dL_law_346 : decode cL_law 346 = .ok (.invokevirtual 35, 3) := by decide +kernel
theorem dL_law_349 : decode cL_law 349 = .ok (.aload_n 2, 1) := by decide +kernel
theorem dL_law_350 : decode cL_law 350 = .ok (.aload_n 0, 1) := by decide +kernel
theorem dL_law_351 : decode cL_law 351 = .ok (.iload_n 3, 1) := by decide +kernel
theorem dL_law_352 : decode cL_law 352 = .ok (.iconst 1, 1) := by decide +kernel
theorem dL_law_353 : decode cL_law 353 = .ok (.iadd, 1) := by decide +kernel
theorem dL_law_354 : decode cL_law 354 = .ok (.iaload, 1) := by decide +kernel
theorem dL_law_355 : decode cL_law 355 = .ok (.aload_n 0, 1) := by decide +kernel
theorem dL_law_356 : decode cL_law 356 = .ok (.iload_n 3, 1) := by decide +kernel
theorem dL_law_357 : decode cL_law 357 = .ok (.iconst 2, 1) := by decide +kernel
theorem dL_law_358 : decode cL_law 358 = .ok (.iadd, 1) := by decide +kernel
theorem dL_law_359 : decode cL_law 359 = .ok (.iaload, 1) := by decide +kernel
theorem dL_law_360 : decode cL_law 360 = .ok (.invokevirtual 38, 3) := by decide +kernel
theorem dL_law_363 : decode cL_law 363 = .ok (.if_icmp .eq 943, 3) := by decide +kernel
theorem dL_law_366 : decode cL_law 366 = .ok (.iconst 0, 1) := by decide +kernel
theorem dL_law_367 : decode cL_law 367 = .ok (.ireturn, 1) := by decide +kernel
theorem dL_law_368 : decode cL_law 368 = .ok (.aload_n 1, 1) := by decide +kernel
theorem dL_law_369 : decode cL_law 369 = .ok (.aload_n 0, 1) := by decide +kernel
theorem dL_law_370 : decode cL_law 370 = .ok (.iload_n 3, 1) := by decide +kernel
theorem dL_law_371 : decode cL_law 371 = .ok (.iconst 1, 1) := by decide +kernel
theorem dL_law_372 : decode cL_law 372 = .ok (.iadd, 1) := by decide +kernel
theorem dL_law_373 : decode cL_law 373 = .ok (.iaload, 1) := by decide +kernel
theorem dL_law_374 : decode cL_law 374 = .ok (.invokevirtual 39, 3) := by decide +kernel
theorem dL_law_377 : decode cL_law 377 = .ok (.aload_n 2, 1) := by decide +kernel
theorem dL_law_378 : decode cL_law 378 = .ok (.aload_n 0, 1) := by decide +kernel
theorem dL_law_379 : decode cL_law 379 = .ok (.iload_n 3, 1) := by decide +kernel
theorem dL_law_380 : decode cL_law 380 = .ok (.iconst 1, 1) := by decide +kernel
theorem dL_law_381 : decode cL_law 381 = .ok (.iadd, 1) := by decide +kernel
theorem dL_law_382 : decode cL_law 382 = .ok (.iaload, 1) := by decide +kernel
theorem dL_law_383 : decode cL_law 383 = .ok (.invokevirtual 42, 3) := by decide +kernel
theorem dL_law_386 : decode cL_law 386 = .ok (.if_icmp .eq 920, 3) := by decide +kernel
theorem dL_law_389 : decode cL_law 389 = .ok (.iconst 0, 1) := by decide +kernel
theorem dL_law_390 : decode cL_law 390 = .ok (.ireturn, 1) := by decide +kernel
theorem dL_law_391 : decode cL_law 391 = .ok (.aload_n 1, 1) := by decide +kernel
theorem dL_law_392 : decode cL_law 392 = .ok (.aload_n 0, 1) := by decide +kernel
theorem dL_law_393 : decode cL_law 393 = .ok (.iload_n 3, 1) := by decide +kernel
theorem dL_law_394 : decode cL_law 394 = .ok (.iconst 1, 1) := by decide +kernel
theorem dL_law_395 : decode cL_law 395 = .ok (.iadd, 1) := by decide +kernel
theorem dL_law_396 : decode cL_law 396 = .ok (.iaload, 1) := by decide +kernel
theorem dL_law_397 : decode cL_law 397 = .ok (.aload_n 0, 1) := by decide +kernel
theorem dL_law_398 : decode cL_law 398 = .ok (.iload_n 3, 1) := by decide +kernel
theorem dL_law_399 : decode cL_law 399 = .ok (.iconst 2, 1) := by decide +kernel
theorem dL_law_400 : decode cL_law 400 = .ok (.iadd, 1) := by decide +kernel
theorem dL_law_401 : decode cL_law 401 = .ok (.iaload, 1) := by decide +kernel
theorem dL_law_402 : decode cL_law 402 = .ok (.aload_n 0, 1) := by decide +kernel
theorem dL_law_403 : decode cL_law 403 = .ok (.iload_n 3, 1) := by decide +kernel
theorem dL_law_404 : decode cL_law 404 = .ok (.iconst 3, 1) := by decide +kernel
theorem dL_law_405 : decode cL_law 405 = .ok (.iadd, 1) := by decide +kernel
theorem dL_law_406 : decode cL_law 406 = .ok (.iaload, 1) := by decide +kernel
theorem dL_law_407 : decode cL_law 407 = .ok (.invokevirtual 43, 3) := by decide +kernel
theorem dL_law_410 : decode cL_law 410 = .ok (.aload_n 2, 1) := by decide +kernel
theorem dL_law_411 : decode cL_law 411 = .ok (.aload_n 0, 1) := by decide +kernel
theorem dL_law_412 : decode cL_law 412 = .ok (.iload_n 3, 1) := by decide +kernel
theorem dL_law_413 : decode cL_law 413 = .ok (.iconst 1, 1) := by decide +kernel
theorem dL_law_414 : decode cL_law 414 = .ok (.iadd, 1) := by decide +kernel
theorem dL_law_415 : decode cL_law 415 = .ok (.iaload, 1) := by decide +kernel
theorem dL_law_416 : decode cL_law 416 = .ok (.aload_n 0, 1) := by decide +kernel
theorem dL_law_417 : decode cL_law 417 = .ok (.iload_n 3, 1) := by decide +kernel
theorem dL_law_418 : decode cL_law 418 = .ok (.iconst 2, 1) := by decide +kernel
theorem dL_law_419 : decode cL_law 419 = .ok (.iadd, 1) := by decide +kernel
theorem dL_law_420 : decode cL_law 420 = .ok (.iaload, 1) := by decide +kernel
theorem dL_law_421 : decode cL_law 421 = .ok (.aload_n 0, 1) := by decide +kernel
theorem dL_law_422 : decode cL_law 422 = .ok (.iload_n 3, 1) := by decide +kernel
theorem dL_law_423 : decode cL_law 423 = .ok (.iconst 3, 1) := by decide +kernel
theorem dL_law_424 : decode cL_law 424 = .ok (.iadd, 1) := by decide +kernel
theorem dL_law_425 : decode cL_law 425 = .ok (.iaload, 1) := by decide +kernel
theorem dL_law_426 : decode cL_law 426 = .ok (.invokevirtual 47, 3) := by decide +kernel
theorem dL_law_429 : decode cL_law 429 = .ok (.if_icmp .eq 877, 3) := by decide +kernel
theorem dL_law_432 : decode cL_law 432 = .ok (.iconst 0, 1) := by decide +kernel
theorem dL_law_433 : decode cL_law 433 = .ok (.ireturn, 1) := by decide +kernel
theorem dL_law_434 : decode cL_law 434 = .ok (.aload_n 1, 1) := by decide +kernel
theorem dL_law_435 : decode cL_law 435 = .ok (.invokevirtual 48, 3) := by decide +kernel
theorem dL_law_438 : decode cL_law 438 = .ok (.aload_n 2, 1) := by decide +kernel
theorem dL_law_439 : decode cL_law 439 = .ok (.invokevirtual 52, 3) := by decide +kernel
theorem dL_law_442 : decode cL_law 442 = .ok (.if_icmp .eq 864, 3) := by decide +kernel
theorem dL_law_445 : decode cL_law 445 = .ok (.iconst 0, 1) := by decide +kernel
theorem dL_law_446 : decode cL_law 446 = .ok (.ireturn, 1) := by decide +kernel
theorem dL_law_447 : decode cL_law 447 = .ok (.aload_n 1, 1) := by decide +kernel
theorem dL_law_448 : decode cL_law 448 = .ok (.aload_n 0, 1) := by decide +kernel
theorem dL_law_449 : decode cL_law 449 = .ok (.iload_n 3, 1) := by decide +kernel
theorem dL_law_450 : decode cL_law 450 = .ok (.iconst 1, 1) := by decide +kernel
theorem dL_law_451 : decode cL_law 451 = .ok (.iadd, 1) := by decide +kernel
theorem dL_law_452 : decode cL_law 452 = .ok (.iaload, 1) := by decide +kernel
theorem dL_law_453 : decode cL_law 453 = .ok (.invokevirtual 53, 3) := by decide +kernel
theorem dL_law_456 : decode cL_law 456 = .ok (.aload_n 2, 1) := by decide +kernel
theorem dL_law_457 : decode cL_law 457 = .ok (.aload_n 0, 1) := by decide +kernel
theorem dL_law_458 : decode cL_law 458 = .ok (.iload_n 3, 1) := by decide +kernel
theorem dL_law_459 : decode cL_law 459 = .ok (.iconst 1, 1) := by decide +kernel
theorem dL_law_460 : decode cL_law 460 = .ok (.iadd, 1) := by decide +kernel
theorem dL_law_461 : decode cL_law 461 = .ok (.iaload, 1) := by decide +kernel
theorem dL_law_462 : decode cL_law 462 = .ok (.invokevirtual 56, 3) := by decide +kernel
theorem dL_law_465 : decode cL_law 465 = .ok (.if_icmp .eq 841, 3) := by decide +kernel
theorem dL_law_468 : decode cL_law 468 = .ok (.iconst 0, 1) := by decide +kernel
theorem dL_law_469 : decode cL_law 469 = .ok (.ireturn, 1) := by decide +kernel
theorem dL_law_470 : decode cL_law 470 = .ok (.aload_n 1, 1) := by decide +kernel
theorem dL_law_471 : decode cL_law 471 = .ok (.aload_n 0, 1) := by decide +kernel
theorem dL_law_472 : decode cL_law 472 = .ok (.iload_n 3, 1) := by decide +kernel
theorem dL_law_473 : decode cL_law 473 = .ok (.iconst 1, 1) := by decide +kernel
theorem dL_law_474 : decode cL_law 474 = .ok (.iadd, 1) := by decide +kernel
theorem dL_law_475 : decode cL_law 475 = .ok (.iaload, 1) := by decide +kernel
theorem dL_law_476 : decode cL_law 476 = .ok (.aload_n 0, 1) := by decide +kernel
theorem dL_law_477 : decode cL_law 477 = .ok (.iload_n 3, 1) := by decide +kernel
theorem dL_law_478 : decode cL_law 478 = .ok (.iconst 2, 1) := by decide +kernel
theorem dL_law_479 : decode cL_law 479 = .ok (.iadd, 1) := by decide +kernel
theorem dL_law_480 : decode cL_law 480 = .ok (.iaload, 1) := by decide +kernel
theorem dL_law_481 : decode cL_law 481 = .ok (.invokevirtual 57, 3) := by decide +kernel
theorem dL_law_484 : decode cL_law 484 = .ok (.aload_n 2, 1) := by decide +kernel
theorem dL_law_485 : decode cL_law 485 = .ok (.aload_n 0, 1) := by decide +kernel
theorem dL_law_486 : decode cL_law 486 = .ok (.iload_n 3, 1) := by decide +kernel
theorem dL_law_487 : decode cL_law 487 = .ok (.iconst 1, 1) := by decide +kernel
theorem dL_law_488 : decode cL_law 488 = .ok (.iadd, 1) := by decide +kernel
theorem dL_law_489 : decode cL_law 489 = .ok (.iaload, 1) := by decide +kernel
theorem dL_law_490 : decode cL_law 490 = .ok (.aload_n 0, 1) := by decide +kernel
theorem dL_law_491 : decode cL_law 491 = .ok (.iload_n 3, 1) := by decide +kernel
theorem dL_law_492 : decode cL_law 492 = .ok (.iconst 2, 1) := by decide +kernel
theorem dL_law_493 : decode cL_law 493 = .ok (.iadd, 1) := by decide +kernel
theorem dL_law_494 : decode cL_law 494 = .ok (.iaload, 1) := by decide +kernel
theorem dL_law_495 : decode cL_law 495 = .ok (.invokevirtual 60, 3) := by decide +kernel
theorem dL_law_498 : decode cL_law 498 = .ok (.if_icmp .eq 808, 3) := by decide +kernel
theorem dL_law_501 : decode cL_law 501 = .ok (.iconst 0, 1) := by decide +kernel
theorem dL_law_502 : decode cL_law 502 = .ok (.ireturn, 1) := by decide +kernel
theorem dL_law_503 : decode cL_law 503 = .ok (.aload_n 1, 1) := by decide +kernel
theorem dL_law_504 : decode cL_law 504 = .ok (.aload_n 0, 1) := by decide +kernel
theorem dL_law_505 : decode cL_law 505 = .ok (.iload_n 3, 1) := by decide +kernel
theorem dL_law_506 : decode cL_law 506 = .ok (.iconst 1, 1) := by decide +kernel
theorem dL_law_507 : decode cL_law 507 = .ok (.iadd, 1) := by decide +kernel
theorem dL_law_508 : decode cL_law 508 = .ok (.iaload, 1) := by decide +kernel
theorem dL_law_509 : decode cL_law 509 = .ok (.aload_n 0, 1) := by decide +kernel
theorem dL_law_510 : decode cL_law 510 = .ok (.iload_n 3, 1) := by decide +kernel
theorem dL_law_511 : decode cL_law 511 = .ok (.iconst 2, 1) := by decide +kernel
theorem dL_law_512 : decode cL_law 512 = .ok (.iadd, 1) := by decide +kernel
theorem dL_law_513 : decode cL_law 513 = .ok (.iaload, 1) := by decide +kernel
theorem dL_law_514 : decode cL_law 514 = .ok (.invokevirtual 61, 3) := by decide +kernel
theorem dL_law_517 : decode cL_law 517 = .ok (.aload_n 2, 1) := by decide +kernel
theorem dL_law_518 : decode cL_law 518 = .ok (.aload_n 0, 1) := by decide +kernel
theorem dL_law_519 : decode cL_law 519 = .ok (.iload_n 3, 1) := by decide +kernel
theorem dL_law_520 : decode cL_law 520 = .ok (.iconst 1, 1) := by decide +kernel
theorem dL_law_521 : decode cL_law 521 = .ok (.iadd, 1) := by decide +kernel
theorem dL_law_522 : decode cL_law 522 = .ok (.iaload, 1) := by decide +kernel
theorem dL_law_523 : decode cL_law 523 = .ok (.aload_n 0, 1) := by decide +kernel
theorem dL_law_524 : decode cL_law 524 = .ok (.iload_n 3, 1) := by decide +kernel
theorem dL_law_525 : decode cL_law 525 = .ok (.iconst 2, 1) := by decide +kernel
theorem dL_law_526 : decode cL_law 526 = .ok (.iadd, 1) := by decide +kernel
theorem dL_law_527 : decode cL_law 527 = .ok (.iaload, 1) := by decide +kernel
theorem dL_law_528 : decode cL_law 528 = .ok (.invokevirtual 64, 3) := by decide +kernel
theorem dL_law_531 : decode cL_law 531 = .ok (.if_icmp .eq 775, 3) := by decide +kernel
theorem dL_law_534 : decode cL_law 534 = .ok (.iconst 0, 1) := by decide +kernel
theorem dL_law_535 : decode cL_law 535 = .ok (.ireturn, 1) := by decide +kernel
theorem dL_law_536 : decode cL_law 536 = .ok (.aload_n 1, 1) := by decide +kernel
theorem dL_law_537 : decode cL_law 537 = .ok (.aload_n 0, 1) := by decide +kernel
theorem dL_law_538 : decode cL_law 538 = .ok (.iload_n 3, 1) := by decide +kernel
theorem dL_law_539 : decode cL_law 539 = .ok (.iconst 1, 1) := by decide +kernel
theorem dL_law_540 : decode cL_law 540 = .ok (.iadd, 1) := by decide +kernel
theorem dL_law_541 : decode cL_law 541 = .ok (.iaload, 1) := by decide +kernel
theorem dL_law_542 : decode cL_law 542 = .ok (.aload_n 0, 1) := by decide +kernel
theorem dL_law_543 : decode cL_law 543 = .ok (.iload_n 3, 1) := by decide +kernel
theorem dL_law_544 : decode cL_law 544 = .ok (.iconst 2, 1) := by decide +kernel
theorem dL_law_545 : decode cL_law 545 = .ok (.iadd, 1) := by decide +kernel
theorem dL_law_546 : decode cL_law 546 = .ok (.iaload, 1) := by decide +kernel
theorem dL_law_547 : decode cL_law 547 = .ok (.aload_n 0, 1) := by decide +kernel
theorem dL_law_548 : decode cL_law 548 = .ok (.iload_n 3, 1) := by decide +kernel
theorem dL_law_549 : decode cL_law 549 = .ok (.iconst 3, 1) := by decide +kernel
theorem dL_law_550 : decode cL_law 550 = .ok (.iadd, 1) := by decide +kernel
theorem dL_law_551 : decode cL_law 551 = .ok (.iaload, 1) := by decide +kernel
theorem dL_law_552 : decode cL_law 552 = .ok (.invokevirtual 65, 3) := by decide +kernel
theorem dL_law_555 : decode cL_law 555 = .ok (.aload_n 2, 1) := by decide +kernel
theorem dL_law_556 : decode cL_law 556 = .ok (.aload_n 0, 1) := by decide +kernel
theorem dL_law_557 : decode cL_law 557 = .ok (.iload_n 3, 1) := by decide +kernel
theorem dL_law_558 : decode cL_law 558 = .ok (.iconst 1, 1) := by decide +kernel
theorem dL_law_559 : decode cL_law 559 = .ok (.iadd, 1) := by decide +kernel
theorem dL_law_560 : decode cL_law 560 = .ok (.iaload, 1) := by decide +kernel
theorem dL_law_561 : decode cL_law 561 = .ok (.aload_n 0, 1) := by decide +kernel
theorem dL_law_562 : decode cL_law 562 = .ok (.iload_n 3, 1) := by decide +kernel
theorem dL_law_563 : decode cL_law 563 = .ok (.iconst 2, 1) := by decide +kernel
theorem dL_law_564 : decode cL_law 564 = .ok (.iadd, 1) := by decide +kernel
theorem dL_law_565 : decode cL_law 565 = .ok (.iaload, 1) := by decide +kernel
theorem dL_law_566 : decode cL_law 566 = .ok (.aload_n 0, 1) := by decide +kernel
theorem dL_law_567 : decode cL_law 567 = .ok (.iload_n 3, 1) := by decide +kernel
theorem dL_law_568 : decode cL_law 568 = .ok (.iconst 3, 1) := by decide +kernel
theorem dL_law_569 : decode cL_law 569 = .ok (.iadd, 1) := by decide +kernel
theorem dL_law_570 : decode cL_law 570 = .ok (.iaload, 1) := by decide +kernel
theorem dL_law_571 : decode cL_law 571 = .ok (.invokevirtual 68, 3) := by decide +kernel
theorem dL_law_574 : decode cL_law 574 = .ok (.if_icmp .eq 732, 3) := by decide +kernel
theorem dL_law_577 : decode cL_law 577 = .ok (.iconst 0, 1) := by decide +kernel
theorem dL_law_578 : decode cL_law 578 = .ok (.ireturn, 1) := by decide +kernel
theorem dL_law_579 : decode cL_law 579 = .ok (.aload_n 1, 1) := by decide +kernel
theorem dL_law_580 : decode cL_law 580 = .ok (.aload_n 0, 1) := by decide +kernel
theorem dL_law_581 : decode cL_law 581 = .ok (.iload_n 3, 1) := by decide +kernel
theorem dL_law_582 : decode cL_law 582 = .ok (.iconst 1, 1) := by decide +kernel
theorem dL_law_583 : decode cL_law 583 = .ok (.iadd, 1) := by decide +kernel
theorem dL_law_584 : decode cL_law 584 = .ok (.iaload, 1) := by decide +kernel
theorem dL_law_585 : decode cL_law 585 = .ok (.invokevirtual 69, 3) := by decide +kernel
theorem dL_law_588 : decode cL_law 588 = .ok (.aload_n 2, 1) := by decide +kernel
theorem dL_law_589 : decode cL_law 589 = .ok (.aload_n 0, 1) := by decide +kernel
theorem dL_law_590 : decode cL_law 590 = .ok (.iload_n 3, 1) := by decide +kernel
theorem dL_law_591 : decode cL_law 591 = .ok (.iconst 1, 1) := by decide +kernel
theorem dL_law_592 : decode cL_law 592 = .ok (.iadd, 1) := by decide +kernel
theorem dL_law_593 : decode cL_law 593 = .ok (.iaload, 1) := by decide +kernel
theorem dL_law_594 : decode cL_law 594 = .ok (.invokevirtual 72, 3) := by decide +kernel
theorem dL_law_597 : decode cL_law 597 = .ok (.if_icmp .eq 709, 3) := by decide +kernel
theorem dL_law_600 : decode cL_law 600 = .ok (.iconst 0, 1) := by decide +kernel
theorem dL_law_601 : decode cL_law 601 = .ok (.ireturn, 1) := by decide +kernel
theorem dL_law_602 : decode cL_law 602 = .ok (.aload_n 1, 1) := by decide +kernel
theorem dL_law_603 : decode cL_law 603 = .ok (.aload_n 0, 1) := by decide +kernel
theorem dL_law_604 : decode cL_law 604 = .ok (.iload_n 3, 1) := by decide +kernel
theorem dL_law_605 : decode cL_law 605 = .ok (.iconst 1, 1) := by decide +kernel
theorem dL_law_606 : decode cL_law 606 = .ok (.iadd, 1) := by decide +kernel
theorem dL_law_607 : decode cL_law 607 = .ok (.iaload, 1) := by decide +kernel
theorem dL_law_608 : decode cL_law 608 = .ok (.aload_n 0, 1) := by decide +kernel
theorem dL_law_609 : decode cL_law 609 = .ok (.iload_n 3, 1) := by decide +kernel
theorem dL_law_610 : decode cL_law 610 = .ok (.iconst 2, 1) := by decide +kernel
theorem dL_law_611 : decode cL_law 611 = .ok (.iadd, 1) := by decide +kernel
theorem dL_law_612 : decode cL_law 612 = .ok (.iaload, 1) := by decide +kernel
theorem dL_law_613 : decode cL_law 613 = .ok (.invokevirtual 73, 3) := by decide +kernel
theorem dL_law_616 : decode cL_law 616 = .ok (.aload_n 2, 1) := by decide +kernel
theorem dL_law_617 : decode cL_law 617 = .ok (.aload_n 0, 1) := by decide +kernel
theorem dL_law_618 : decode cL_law 618 = .ok (.iload_n 3, 1) := by decide +kernel
theorem dL_law_619 : decode cL_law 619 = .ok (.iconst 1, 1) := by decide +kernel
theorem dL_law_620 : decode cL_law 620 = .ok (.iadd, 1) := by decide +kernel
theorem dL_law_621 : decode cL_law 621 = .ok (.iaload, 1) := by decide +kernel
theorem dL_law_622 : decode cL_law 622 = .ok (.aload_n 0, 1) := by decide +kernel
theorem dL_law_623 : decode cL_law 623 = .ok (.iload_n 3, 1) := by decide +kernel
theorem dL_law_624 : decode cL_law 624 = .ok (.iconst 2, 1) := by decide +kernel
theorem dL_law_625 : decode cL_law 625 = .ok (.iadd, 1) := by decide +kernel
theorem dL_law_626 : decode cL_law 626 = .ok (.iaload, 1) := by decide +kernel
theorem dL_law_627 : decode cL_law 627 = .ok (.invokevirtual 76, 3) := by decide +kernel
theorem dL_law_630 : decode cL_law 630 = .ok (.if_icmp .eq 676, 3) := by decide +kernel
theorem dL_law_633 : decode cL_law 633 = .ok (.iconst 0, 1) := by decide +kernel
theorem dL_law_634 : decode cL_law 634 = .ok (.ireturn, 1) := by decide +kernel
theorem dL_law_635 : decode cL_law 635 = .ok (.aload_n 1, 1) := by decide +kernel
theorem dL_law_636 : decode cL_law 636 = .ok (.aload_n 0, 1) := by decide +kernel
theorem dL_law_637 : decode cL_law 637 = .ok (.iload_n 3, 1) := by decide +kernel
theorem dL_law_638 : decode cL_law 638 = .ok (.iconst 1, 1) := by decide +kernel
theorem dL_law_639 : decode cL_law 639 = .ok (.iadd, 1) := by decide +kernel
theorem dL_law_640 : decode cL_law 640 = .ok (.iaload, 1) := by decide +kernel
theorem dL_law_641 : decode cL_law 641 = .ok (.invokevirtual 77, 3) := by decide +kernel
theorem dL_law_644 : decode cL_law 644 = .ok (.aload_n 2, 1) := by decide +kernel
theorem dL_law_645 : decode cL_law 645 = .ok (.aload_n 0, 1) := by decide +kernel
theorem dL_law_646 : decode cL_law 646 = .ok (.iload_n 3, 1) := by decide +kernel
theorem dL_law_647 : decode cL_law 647 = .ok (.iconst 1, 1) := by decide +kernel
theorem dL_law_648 : decode cL_law 648 = .ok (.iadd, 1) := by decide +kernel
theorem dL_law_649 : decode cL_law 649 = .ok (.iaload, 1) := by decide +kernel
theorem dL_law_650 : decode cL_law 650 = .ok (.invokevirtual 80, 3) := by decide +kernel
theorem dL_law_653 : decode cL_law 653 = .ok (.if_icmp .eq 653, 3) := by decide +kernel
theorem dL_law_656 : decode cL_law 656 = .ok (.iconst 0, 1) := by decide +kernel
theorem dL_law_657 : decode cL_law 657 = .ok (.ireturn, 1) := by decide +kernel
theorem dL_law_658 : decode cL_law 658 = .ok (.aload_n 1, 1) := by decide +kernel
theorem dL_law_659 : decode cL_law 659 = .ok (.invokevirtual 81, 3) := by decide +kernel
theorem dL_law_662 : decode cL_law 662 = .ok (.aload_n 2, 1) := by decide +kernel
theorem dL_law_663 : decode cL_law 663 = .ok (.invokevirtual 84, 3) := by decide +kernel
theorem dL_law_666 : decode cL_law 666 = .ok (.if_icmp .eq 640, 3) := by decide +kernel
theorem dL_law_669 : decode cL_law 669 = .ok (.iconst 0, 1) := by decide +kernel
theorem dL_law_670 : decode cL_law 670 = .ok (.ireturn, 1) := by decide +kernel
theorem dL_law_671 : decode cL_law 671 = .ok (.aload_n 1, 1) := by decide +kernel
theorem dL_law_672 : decode cL_law 672 = .ok (.invokevirtual 85, 3) := by decide +kernel
theorem dL_law_675 : decode cL_law 675 = .ok (.aload_n 2, 1) := by decide +kernel
theorem dL_law_676 : decode cL_law 676 = .ok (.invokevirtual 88, 3) := by decide +kernel
theorem dL_law_679 : decode cL_law 679 = .ok (.if_icmp .eq 627, 3) := by decide +kernel
theorem dL_law_682 : decode cL_law 682 = .ok (.iconst 0, 1) := by decide +kernel
theorem dL_law_683 : decode cL_law 683 = .ok (.ireturn, 1) := by decide +kernel
theorem dL_law_684 : decode cL_law 684 = .ok (.aload_n 1, 1) := by decide +kernel
theorem dL_law_685 : decode cL_law 685 = .ok (.aload_n 0, 1) := by decide +kernel
theorem dL_law_686 : decode cL_law 686 = .ok (.iload_n 3, 1) := by decide +kernel
theorem dL_law_687 : decode cL_law 687 = .ok (.iconst 1, 1) := by decide +kernel
theorem dL_law_688 : decode cL_law 688 = .ok (.iadd, 1) := by decide +kernel
theorem dL_law_689 : decode cL_law 689 = .ok (.iaload, 1) := by decide +kernel
theorem dL_law_690 : decode cL_law 690 = .ok (.invokevirtual 89, 3) := by decide +kernel
theorem dL_law_693 : decode cL_law 693 = .ok (.aload_n 2, 1) := by decide +kernel
theorem dL_law_694 : decode cL_law 694 = .ok (.aload_n 0, 1) := by decide +kernel
theorem dL_law_695 : decode cL_law 695 = .ok (.iload_n 3, 1) := by decide +kernel
theorem dL_law_696 : decode cL_law 696 = .ok (.iconst 1, 1) := by decide +kernel
theorem dL_law_697 : decode cL_law 697 = .ok (.iadd, 1) := by decide +kernel
theorem dL_law_698 : decode cL_law 698 = .ok (.iaload, 1) := by decide +kernel
theorem dL_law_699 : decode cL_law 699 = .ok (.invokevirtual 92, 3) := by decide +kernel
theorem dL_law_702 : decode cL_law 702 = .ok (.if_icmp .eq 604, 3) := by decide +kernel
theorem dL_law_705 : decode cL_law 705 = .ok (.iconst 0, 1) := by decide +kernel
theorem dL_law_706 : decode cL_law 706 = .ok (.ireturn, 1) := by decide +kernel
theorem dL_law_707 : decode cL_law 707 = .ok (.aload_n 1, 1) := by decide +kernel
theorem dL_law_708 : decode cL_law 708 = .ok (.aload_n 0, 1) := by decide +kernel
theorem dL_law_709 : decode cL_law 709 = .ok (.iload_n 3, 1) := by decide +kernel
theorem dL_law_710 : decode cL_law 710 = .ok (.iconst 1, 1) := by decide +kernel
theorem dL_law_711 : decode cL_law 711 = .ok (.iadd, 1) := by decide +kernel
theorem dL_law_712 : decode cL_law 712 = .ok (.iaload, 1) := by decide +kernel
theorem dL_law_713 : decode cL_law 713 = .ok (.aload_n 0, 1) := by decide +kernel
theorem dL_law_714 : decode cL_law 714 = .ok (.iload_n 3, 1) := by decide +kernel
theorem dL_law_715 : decode cL_law 715 = .ok (.iconst 2, 1) := by decide +kernel
theorem dL_law_716 : decode cL_law 716 = .ok (.iadd, 1) := by decide +kernel
theorem dL_law_717 : decode cL_law 717 = .ok (.iaload, 1) := by decide +kernel
theorem dL_law_718 : decode cL_law 718 = .ok (.invokevirtual 93, 3) := by decide +kernel
theorem dL_law_721 : decode cL_law 721 = .ok (.aload_n 2, 1) := by decide +kernel
theorem dL_law_722 : decode cL_law 722 = .ok (.aload_n 0, 1) := by decide +kernel
theorem dL_law_723 : decode cL_law 723 = .ok (.iload_n 3, 1) := by decide +kernel
theorem dL_law_724 : decode cL_law 724 = .ok (.iconst 1, 1) := by decide +kernel
theorem dL_law_725 : decode cL_law 725 = .ok (.iadd, 1) := by decide +kernel
theorem dL_law_726 : decode cL_law 726 = .ok (.iaload, 1) := by decide +kernel
theorem dL_law_727 : decode cL_law 727 = .ok (.aload_n 0, 1) := by decide +kernel
theorem dL_law_728 : decode cL_law 728 = .ok (.iload_n 3, 1) := by decide +kernel
theorem dL_law_729 : decode cL_law 729 = .ok (.iconst 2, 1) := by decide +kernel
theorem dL_law_730 : decode cL_law 730 = .ok (.iadd, 1) := by decide +kernel
theorem dL_law_731 : decode cL_law 731 = .ok (.iaload, 1) := by decide +kernel
theorem dL_law_732 : decode cL_law 732 = .ok (.invokevirtual 96, 3) := by decide +kernel
theorem dL_law_735 : decode cL_law 735 = .ok (.if_icmp .eq 571, 3) := by decide +kernel
theorem dL_law_738 : decode cL_law 738 = .ok (.iconst 0, 1) := by decide +kernel
theorem dL_law_739 : decode cL_law 739 = .ok (.ireturn, 1) := by decide +kernel
theorem dL_law_740 : decode cL_law 740 = .ok (.aload_n 1, 1) := by decide +kernel
theorem dL_law_741 : decode cL_law 741 = .ok (.aload_n 0, 1) := by decide +kernel
theorem dL_law_742 : decode cL_law 742 = .ok (.iload_n 3, 1) := by decide +kernel
theorem dL_law_743 : decode cL_law 743 = .ok (.iconst 1, 1) := by decide +kernel
theorem dL_law_744 : decode cL_law 744 = .ok (.iadd, 1) := by decide +kernel
theorem dL_law_745 : decode cL_law 745 = .ok (.iaload, 1) := by decide +kernel
theorem dL_law_746 : decode cL_law 746 = .ok (.invokevirtual 97, 3) := by decide +kernel
theorem dL_law_749 : decode cL_law 749 = .ok (.aload_n 2, 1) := by decide +kernel
theorem dL_law_750 : decode cL_law 750 = .ok (.aload_n 0, 1) := by decide +kernel
theorem dL_law_751 : decode cL_law 751 = .ok (.iload_n 3, 1) := by decide +kernel
theorem dL_law_752 : decode cL_law 752 = .ok (.iconst 1, 1) := by decide +kernel
theorem dL_law_753 : decode cL_law 753 = .ok (.iadd, 1) := by decide +kernel
theorem dL_law_754 : decode cL_law 754 = .ok (.iaload, 1) := by decide +kernel
theorem dL_law_755 : decode cL_law 755 = .ok (.invokevirtual 100, 3) := by decide +kernel
theorem dL_law_758 : decode cL_law 758 = .ok (.if_icmp .eq 548, 3) := by decide +kernel
theorem dL_law_761 : decode cL_law 761 = .ok (.iconst 0, 1) := by decide +kernel
theorem dL_law_762 : decode cL_law 762 = .ok (.ireturn, 1) := by decide +kernel
theorem dL_law_763 : decode cL_law 763 = .ok (.aload_n 1, 1) := by decide +kernel
theorem dL_law_764 : decode cL_law 764 = .ok (.aload_n 0, 1) := by decide +kernel
theorem dL_law_765 : decode cL_law 765 = .ok (.iload_n 3, 1) := by decide +kernel
theorem dL_law_766 : decode cL_law 766 = .ok (.iconst 1, 1) := by decide +kernel
theorem dL_law_767 : decode cL_law 767 = .ok (.iadd, 1) := by decide +kernel
theorem dL_law_768 : decode cL_law 768 = .ok (.iaload, 1) := by decide +kernel
theorem dL_law_769 : decode cL_law 769 = .ok (.invokevirtual 101, 3) := by decide +kernel
theorem dL_law_772 : decode cL_law 772 = .ok (.aload_n 2, 1) := by decide +kernel
theorem dL_law_773 : decode cL_law 773 = .ok (.aload_n 0, 1) := by decide +kernel
theorem dL_law_774 : decode cL_law 774 = .ok (.iload_n 3, 1) := by decide +kernel
theorem dL_law_775 : decode cL_law 775 = .ok (.iconst 1, 1) := by decide +kernel
theorem dL_law_776 : decode cL_law 776 = .ok (.iadd, 1) := by decide +kernel
theorem dL_law_777 : decode cL_law 777 = .ok (.iaload, 1) := by decide +kernel
theorem dL_law_778 : decode cL_law 778 = .ok (.invokevirtual 104, 3) := by decide +kernel
theorem dL_law_781 : decode cL_law 781 = .ok (.if_icmp .eq 525, 3) := by decide +kernel
theorem dL_law_784 : decode cL_law 784 = .ok (.iconst 0, 1) := by decide +kernel
theorem dL_law_785 : decode cL_law 785 = .ok (.ireturn, 1) := by decide +kernel
theorem dL_law_786 : decode cL_law 786 = .ok (.aload_n 1, 1) := by decide +kernel
theorem dL_law_787 : decode cL_law 787 = .ok (.aload_n 0, 1) := by decide +kernel
theorem dL_law_788 : decode cL_law 788 = .ok (.iload_n 3, 1) := by decide +kernel
theorem dL_law_789 : decode cL_law 789 = .ok (.iconst 1, 1) := by decide +kernel
theorem dL_law_790 : decode cL_law 790 = .ok (.iadd, 1) := by decide +kernel
theorem dL_law_791 : decode cL_law 791 = .ok (.iaload, 1) := by decide +kernel
theorem dL_law_792 : decode cL_law 792 = .ok (.invokevirtual 105, 3) := by decide +kernel
theorem dL_law_795 : decode cL_law 795 = .ok (.aload_n 2, 1) := by decide +kernel
theorem dL_law_796 : decode cL_law 796 = .ok (.aload_n 0, 1) := by decide +kernel
theorem dL_law_797 : decode cL_law 797 = .ok (.iload_n 3, 1) := by decide +kernel
theorem dL_law_798 : decode cL_law 798 = .ok (.iconst 1, 1) := by decide +kernel
theorem dL_law_799 : decode cL_law 799 = .ok (.iadd, 1) := by decide +kernel
theorem dL_law_800 : decode cL_law 800 = .ok (.iaload, 1) := by decide +kernel
theorem dL_law_801 : decode cL_law 801 = .ok (.invokevirtual 108, 3) := by decide +kernel
theorem dL_law_804 : decode cL_law 804 = .ok (.if_icmp .eq 502, 3) := by decide +kernel
theorem dL_law_807 : decode cL_law 807 = .ok (.iconst 0, 1) := by decide +kernel
theorem dL_law_808 : decode cL_law 808 = .ok (.ireturn, 1) := by decide +kernel
theorem dL_law_809 : decode cL_law 809 = .ok (.aload_n 1, 1) := by decide +kernel
theorem dL_law_810 : decode cL_law 810 = .ok (.aload_n 0, 1) := by decide +kernel
theorem dL_law_811 : decode cL_law 811 = .ok (.iload_n 3, 1) := by decide +kernel
theorem dL_law_812 : decode cL_law 812 = .ok (.iconst 1, 1) := by decide +kernel
theorem dL_law_813 : decode cL_law 813 = .ok (.iadd, 1) := by decide +kernel
theorem dL_law_814 : decode cL_law 814 = .ok (.iaload, 1) := by decide +kernel
theorem dL_law_815 : decode cL_law 815 = .ok (.aload_n 0, 1) := by decide +kernel
theorem dL_law_816 : decode cL_law 816 = .ok (.iload_n 3, 1) := by decide +kernel
theorem dL_law_817 : decode cL_law 817 = .ok (.iconst 2, 1) := by decide +kernel
theorem dL_law_818 : decode cL_law 818 = .ok (.iadd, 1) := by decide +kernel
theorem dL_law_819 : decode cL_law 819 = .ok (.iaload, 1) := by decide +kernel
theorem dL_law_820 : decode cL_law 820 = .ok (.invokevirtual 109, 3) := by decide +kernel
theorem dL_law_823 : decode cL_law 823 = .ok (.aload_n 2, 1) := by decide +kernel
theorem dL_law_824 : decode cL_law 824 = .ok (.aload_n 0, 1) := by decide +kernel
theorem dL_law_825 : decode cL_law 825 = .ok (.iload_n 3, 1) := by decide +kernel
theorem dL_law_826 : decode cL_law 826 = .ok (.iconst 1, 1) := by decide +kernel
theorem dL_law_827 : decode cL_law 827 = .ok (.iadd, 1) := by decide +kernel
theorem dL_law_828 : decode cL_law 828 = .ok (.iaload, 1) := by decide +kernel
theorem dL_law_829 : decode cL_law 829 = .ok (.aload_n 0, 1) := by decide +kernel
theorem dL_law_830 : decode cL_law 830 = .ok (.iload_n 3, 1) := by decide +kernel
theorem dL_law_831 : decode cL_law 831 = .ok (.iconst 2, 1) := by decide +kernel
theorem dL_law_832 : decode cL_law 832 = .ok (.iadd, 1) := by decide +kernel
theorem dL_law_833 : decode cL_law 833 = .ok (.iaload, 1) := by decide +kernel
theorem dL_law_834 : decode cL_law 834 = .ok (.invokevirtual 112, 3) := by decide +kernel
theorem dL_law_837 : decode cL_law 837 = .ok (.if_icmp .eq 469, 3) := by decide +kernel
theorem dL_law_840 : decode cL_law 840 = .ok (.iconst 0, 1) := by decide +kernel
theorem dL_law_841 : decode cL_law 841 = .ok (.ireturn, 1) := by decide +kernel
theorem dL_law_842 : decode cL_law 842 = .ok (.aload_n 1, 1) := by decide +kernel
theorem dL_law_843 : decode cL_law 843 = .ok (.invokevirtual 113, 3) := by decide +kernel
theorem dL_law_846 : decode cL_law 846 = .ok (.aload_n 2, 1) := by decide +kernel
theorem dL_law_847 : decode cL_law 847 = .ok (.invokevirtual 116, 3) := by decide +kernel
theorem dL_law_850 : decode cL_law 850 = .ok (.if_icmp .eq 456, 3) := by decide +kernel
theorem dL_law_853 : decode cL_law 853 = .ok (.iconst 0, 1) := by decide +kernel
theorem dL_law_854 : decode cL_law 854 = .ok (.ireturn, 1) := by decide +kernel
theorem dL_law_855 : decode cL_law 855 = .ok (.aload_n 1, 1) := by decide +kernel
theorem dL_law_856 : decode cL_law 856 = .ok (.invokevirtual 117, 3) := by decide +kernel
theorem dL_law_859 : decode cL_law 859 = .ok (.aload_n 2, 1) := by decide +kernel
theorem dL_law_860 : decode cL_law 860 = .ok (.invokevirtual 120, 3) := by decide +kernel
theorem dL_law_863 : decode cL_law 863 = .ok (.if_icmp .eq 443, 3) := by decide +kernel
theorem dL_law_866 : decode cL_law 866 = .ok (.iconst 0, 1) := by decide +kernel
theorem dL_law_867 : decode cL_law 867 = .ok (.ireturn, 1) := by decide +kernel
theorem dL_law_868 : decode cL_law 868 = .ok (.aload_n 1, 1) := by decide +kernel
theorem dL_law_869 : decode cL_law 869 = .ok (.aload_n 0, 1) := by decide +kernel
theorem dL_law_870 : decode cL_law 870 = .ok (.iload_n 3, 1) := by decide +kernel
theorem dL_law_871 : decode cL_law 871 = .ok (.iconst 1, 1) := by decide +kernel
theorem dL_law_872 : decode cL_law 872 = .ok (.iadd, 1) := by decide +kernel
theorem dL_law_873 : decode cL_law 873 = .ok (.iaload, 1) := by decide +kernel
theorem dL_law_874 : decode cL_law 874 = .ok (.aload_n 0, 1) := by decide +kernel
theorem dL_law_875 : decode cL_law 875 = .ok (.iload_n 3, 1) := by decide +kernel
theorem dL_law_876 : decode cL_law 876 = .ok (.iconst 2, 1) := by decide +kernel
theorem dL_law_877 : decode cL_law 877 = .ok (.iadd, 1) := by decide +kernel
theorem dL_law_878 : decode cL_law 878 = .ok (.iaload, 1) := by decide +kernel
theorem dL_law_879 : decode cL_law 879 = .ok (.invokevirtual 121, 3) := by decide +kernel
theorem dL_law_882 : decode cL_law 882 = .ok (.aload_n 2, 1) := by decide +kernel
theorem dL_law_883 : decode cL_law 883 = .ok (.aload_n 0, 1) := by decide +kernel
theorem dL_law_884 : decode cL_law 884 = .ok (.iload_n 3, 1) := by decide +kernel
theorem dL_law_885 : decode cL_law 885 = .ok (.iconst 1, 1) := by decide +kernel
theorem dL_law_886 : decode cL_law 886 = .ok (.iadd, 1) := by decide +kernel
theorem dL_law_887 : decode cL_law 887 = .ok (.iaload, 1) := by decide +kernel
theorem dL_law_888 : decode cL_law 888 = .ok (.aload_n 0, 1) := by decide +kernel
theorem dL_law_889 : decode cL_law 889 = .ok (.iload_n 3, 1) := by decide +kernel
theorem dL_law_890 : decode cL_law 890 = .ok (.iconst 2, 1) := by decide +kernel
theorem dL_law_891 : decode cL_law 891 = .ok (.iadd, 1) := by decide +kernel
theorem dL_law_892 : decode cL_law 892 = .ok (.iaload, 1) := by decide +kernel
theorem dL_law_893 : decode cL_law 893 = .ok (.invokevirtual 124, 3) := by decide +kernel
theorem dL_law_896 : decode cL_law 896 = .ok (.if_icmp .eq 410, 3) := by decide +kernel
theorem dL_law_899 : decode cL_law 899 = .ok (.iconst 0, 1) := by decide +kernel
theorem dL_law_900 : decode cL_law 900 = .ok (.ireturn, 1) := by decide +kernel
theorem dL_law_901 : decode cL_law 901 = .ok (.aload_n 1, 1) := by decide +kernel
theorem dL_law_902 : decode cL_law 902 = .ok (.aload_n 0, 1) := by decide +kernel
theorem dL_law_903 : decode cL_law 903 = .ok (.iload_n 3, 1) := by decide +kernel
theorem dL_law_904 : decode cL_law 904 = .ok (.iconst 1, 1) := by decide +kernel
theorem dL_law_905 : decode cL_law 905 = .ok (.iadd, 1) := by decide +kernel
theorem dL_law_906 : decode cL_law 906 = .ok (.iaload, 1) := by decide +kernel
theorem dL_law_907 : decode cL_law 907 = .ok (.invokevirtual 125, 3) := by decide +kernel
theorem dL_law_910 : decode cL_law 910 = .ok (.aload_n 2, 1) := by decide +kernel
theorem dL_law_911 : decode cL_law 911 = .ok (.aload_n 0, 1) := by decide +kernel
theorem dL_law_912 : decode cL_law 912 = .ok (.iload_n 3, 1) := by decide +kernel
theorem dL_law_913 : decode cL_law 913 = .ok (.iconst 1, 1) := by decide +kernel
theorem dL_law_914 : decode cL_law 914 = .ok (.iadd, 1) := by decide +kernel
theorem dL_law_915 : decode cL_law 915 = .ok (.iaload, 1) := by decide +kernel
theorem dL_law_916 : decode cL_law 916 = .ok (.invokevirtual 128, 3) := by decide +kernel
theorem dL_law_919 : decode cL_law 919 = .ok (.if_icmp .eq 387, 3) := by decide +kernel
theorem dL_law_922 : decode cL_law 922 = .ok (.iconst 0, 1) := by decide +kernel
theorem dL_law_923 : decode cL_law 923 = .ok (.ireturn, 1) := by decide +kernel
theorem dL_law_924 : decode cL_law 924 = .ok (.aload_n 1, 1) := by decide +kernel
theorem dL_law_925 : decode cL_law 925 = .ok (.aload_n 0, 1) := by decide +kernel
theorem dL_law_926 : decode cL_law 926 = .ok (.iload_n 3, 1) := by decide +kernel
theorem dL_law_927 : decode cL_law 927 = .ok (.iconst 1, 1) := by decide +kernel
theorem dL_law_928 : decode cL_law 928 = .ok (.iadd, 1) := by decide +kernel
theorem dL_law_929 : decode cL_law 929 = .ok (.iaload, 1) := by decide +kernel
theorem dL_law_930 : decode cL_law 930 = .ok (.aload_n 0, 1) := by decide +kernel
theorem dL_law_931 : decode cL_law 931 = .ok (.iload_n 3, 1) := by decide +kernel
theorem dL_law_932 : decode cL_law 932 = .ok (.iconst 2, 1) := by decide +kernel
theorem dL_law_933 : decode cL_law 933 = .ok (.iadd, 1) := by decide +kernel
theorem dL_law_934 : decode cL_law 934 = .ok (.iaload, 1) := by decide +kernel
theorem dL_law_935 : decode cL_law 935 = .ok (.aload_n 0, 1) := by decide +kernel
theorem dL_law_936 : decode cL_law 936 = .ok (.iload_n 3, 1) := by decide +kernel
theorem dL_law_937 : decode cL_law 937 = .ok (.iconst 3, 1) := by decide +kernel
theorem dL_law_938 : decode cL_law 938 = .ok (.iadd, 1) := by decide +kernel
theorem dL_law_939 : decode cL_law 939 = .ok (.iaload, 1) := by decide +kernel
theorem dL_law_940 : decode cL_law 940 = .ok (.invokevirtual 129, 3) := by decide +kernel
theorem dL_law_943 : decode cL_law 943 = .ok (.aload_n 2, 1) := by decide +kernel
theorem dL_law_944 : decode cL_law 944 = .ok (.aload_n 0, 1) := by decide +kernel
theorem dL_law_945 : decode cL_law 945 = .ok (.iload_n 3, 1) := by decide +kernel
theorem dL_law_946 : decode cL_law 946 = .ok (.iconst 1, 1) := by decide +kernel
theorem dL_law_947 : decode cL_law 947 = .ok (.iadd, 1) := by decide +kernel
theorem dL_law_948 : decode cL_law 948 = .ok (.iaload, 1) := by decide +kernel
theorem dL_law_949 : decode cL_law 949 = .ok (.aload_n 0, 1) := by decide +kernel
theorem dL_law_950 : decode cL_law 950 = .ok (.iload_n 3, 1) := by decide +kernel
theorem dL_law_951 : decode cL_law 951 = .ok (.iconst 2, 1) := by decide +kernel
theorem dL_law_952 : decode cL_law 952 = .ok (.iadd, 1) := by decide +kernel
theorem dL_law_953 : decode cL_law 953 = .ok (.iaload, 1) := by decide +kernel
theorem dL_law_954 : decode cL_law 954 = .ok (.aload_n 0, 1) := by decide +kernel
theorem dL_law_955 : decode cL_law 955 = .ok (.iload_n 3, 1) := by decide +kernel
theorem dL_law_956 : decode cL_law 956 = .ok (.iconst 3, 1) := by decide +kernel
theorem dL_law_957 : decode cL_law 957 = .ok (.iadd, 1) := by decide +kernel
theorem dL_law_958 : decode cL_law 958 = .ok (.iaload, 1) := by decide +kernel
theorem dL_law_959 : decode cL_law 959 = .ok (.invokevirtual 133, 3) := by decide +kernel
theorem dL_law_962 : decode cL_law 962 = .ok (.lcmp, 1) := by decide +kernel
theorem dL_law_963 : decode cL_law 963 = .ok (.ifCond .eq 343, 3) := by decide +kernel
theorem dL_law_966 : decode cL_law 966 = .ok (.iconst 0, 1) := by decide +kernel
theorem dL_law_967 : decode cL_law 967 = .ok (.ireturn, 1) := by decide +kernel
theorem dL_law_968 : decode cL_law 968 = .ok (.aload_n 1, 1) := by decide +kernel
theorem dL_law_969 : decode cL_law 969 = .ok (.aload_n 0, 1) := by decide +kernel
theorem dL_law_970 : decode cL_law 970 = .ok (.iload_n 3, 1) := by decide +kernel
theorem dL_law_971 : decode cL_law 971 = .ok (.iconst 1, 1) := by decide +kernel
theorem dL_law_972 : decode cL_law 972 = .ok (.iadd, 1) := by decide +kernel
theorem dL_law_973 : decode cL_law 973 = .ok (.iaload, 1) := by decide +kernel
theorem dL_law_974 : decode cL_law 974 = .ok (.aload_n 0, 1) := by decide +kernel
theorem dL_law_975 : decode cL_law 975 = .ok (.iload_n 3, 1) := by decide +kernel
theorem dL_law_976 : decode cL_law 976 = .ok (.iconst 2, 1) := by decide +kernel
theorem dL_law_977 : decode cL_law 977 = .ok (.iadd, 1) := by decide +kernel
theorem dL_law_978 : decode cL_law 978 = .ok (.iaload, 1) := by decide +kernel
theorem dL_law_979 : decode cL_law 979 = .ok (.aload_n 0, 1) := by decide +kernel
theorem dL_law_980 : decode cL_law 980 = .ok (.iload_n 3, 1) := by decide +kernel
theorem dL_law_981 : decode cL_law 981 = .ok (.iconst 3, 1) := by decide +kernel
theorem dL_law_982 : decode cL_law 982 = .ok (.iadd, 1) := by decide +kernel
theorem dL_law_983 : decode cL_law 983 = .ok (.iaload, 1) := by decide +kernel
theorem dL_law_984 : decode cL_law 984 = .ok (.invokevirtual 134, 3) := by decide +kernel
theorem dL_law_987 : decode cL_law 987 = .ok (.aload_n 2, 1) := by decide +kernel
theorem dL_law_988 : decode cL_law 988 = .ok (.aload_n 0, 1) := by decide +kernel
theorem dL_law_989 : decode cL_law 989 = .ok (.iload_n 3, 1) := by decide +kernel
theorem dL_law_990 : decode cL_law 990 = .ok (.iconst 1, 1) := by decide +kernel
theorem dL_law_991 : decode cL_law 991 = .ok (.iadd, 1) := by decide +kernel
theorem dL_law_992 : decode cL_law 992 = .ok (.iaload, 1) := by decide +kernel
theorem dL_law_993 : decode cL_law 993 = .ok (.aload_n 0, 1) := by decide +kernel
theorem dL_law_994 : decode cL_law 994 = .ok (.iload_n 3, 1) := by decide +kernel
theorem dL_law_995 : decode cL_law 995 = .ok (.iconst 2, 1) := by decide +kernel
theorem dL_law_996 : decode cL_law 996 = .ok (.iadd, 1) := by decide +kernel
theorem dL_law_997 : decode cL_law 997 = .ok (.iaload, 1) := by decide +kernel
theorem dL_law_998 : decode cL_law 998 = .ok (.aload_n 0, 1) := by decide +kernel
theorem dL_law_999 : decode cL_law 999 = .ok (.iload_n 3, 1) := by decide +kernel
theorem dL_law_1000 : decode cL_law 1000 = .ok (.iconst 3, 1) := by decide +kernel
theorem dL_law_1001 : decode cL_law 1001 = .ok (.iadd, 1) := by decide +kernel
theorem dL_law_1002 : decode cL_law 1002 = .ok (.iaload, 1) := by decide +kernel
theorem dL_law_1003 : decode cL_law 1003 = .ok (.invokevirtual 137, 3) := by decide +kernel
theorem dL_law_1006 : decode cL_law 1006 = .ok (.if_icmp .eq 300, 3) := by decide +kernel
theorem dL_law_1009 : decode cL_law 1009 = .ok (.iconst 0, 1) := by decide +kernel
theorem dL_law_1010 : decode cL_law 1010 = .ok (.ireturn, 1) := by decide +kernel
theorem dL_law_1011 : decode cL_law 1011 = .ok (.aload_n 1, 1) := by decide +kernel
theorem dL_law_1012 : decode cL_law 1012 = .ok (.aload_n 0, 1) := by decide +kernel
theorem dL_law_1013 : decode cL_law 1013 = .ok (.iload_n 3, 1) := by decide +kernel
theorem dL_law_1014 : decode cL_law 1014 = .ok (.iconst 1, 1) := by decide +kernel
theorem dL_law_1015 : decode cL_law 1015 = .ok (.iadd, 1) := by decide +kernel
theorem dL_law_1016 : decode cL_law 1016 = .ok (.iaload, 1) := by decide +kernel
theorem dL_law_1017 : decode cL_law 1017 = .ok (.aload_n 0, 1) := by decide +kernel
theorem dL_law_1018 : decode cL_law 1018 = .ok (.iload_n 3, 1) := by decide +kernel
theorem dL_law_1019 : decode cL_law 1019 = .ok (.iconst 2, 1) := by decide +kernel
theorem dL_law_1020 : decode cL_law 1020 = .ok (.iadd, 1) := by decide +kernel
theorem dL_law_1021 : decode cL_law 1021 = .ok (.iaload, 1) := by decide +kernel
theorem dL_law_1022 : decode cL_law 1022 = .ok (.aload_n 0, 1) := by decide +kernel
theorem dL_law_1023 : decode cL_law 1023 = .ok (.iload_n 3, 1) := by decide +kernel
theorem dL_law_1024 : decode cL_law 1024 = .ok (.iconst 3, 1) := by decide +kernel
theorem dL_law_1025 : decode cL_law 1025 = .ok (.iadd, 1) := by decide +kernel
theorem dL_law_1026 : decode cL_law 1026 = .ok (.iaload, 1) := by decide +kernel
theorem dL_law_1027 : decode cL_law 1027 = .ok (.invokevirtual 138, 3) := by decide +kernel
theorem dL_law_1030 : decode cL_law 1030 = .ok (.aload_n 2, 1) := by decide +kernel
theorem dL_law_1031 : decode cL_law 1031 = .ok (.aload_n 0, 1) := by decide +kernel
theorem dL_law_1032 : decode cL_law 1032 = .ok (.iload_n 3, 1) := by decide +kernel
theorem dL_law_1033 : decode cL_law 1033 = .ok (.iconst 1, 1) := by decide +kernel
theorem dL_law_1034 : decode cL_law 1034 = .ok (.iadd, 1) := by decide +kernel
theorem dL_law_1035 : decode cL_law 1035 = .ok (.iaload, 1) := by decide +kernel
theorem dL_law_1036 : decode cL_law 1036 = .ok (.aload_n 0, 1) := by decide +kernel
theorem dL_law_1037 : decode cL_law 1037 = .ok (.iload_n 3, 1) := by decide +kernel
theorem dL_law_1038 : decode cL_law 1038 = .ok (.iconst 2, 1) := by decide +kernel
theorem dL_law_1039 : decode cL_law 1039 = .ok (.iadd, 1) := by decide +kernel
theorem dL_law_1040 : decode cL_law 1040 = .ok (.iaload, 1) := by decide +kernel
theorem dL_law_1041 : decode cL_law 1041 = .ok (.aload_n 0, 1) := by decide +kernel
theorem dL_law_1042 : decode cL_law 1042 = .ok (.iload_n 3, 1) := by decide +kernel
theorem dL_law_1043 : decode cL_law 1043 = .ok (.iconst 3, 1) := by decide +kernel
theorem dL_law_1044 : decode cL_law 1044 = .ok (.iadd, 1) := by decide +kernel
theorem dL_law_1045 : decode cL_law 1045 = .ok (.iaload, 1) := by decide +kernel
theorem dL_law_1046 : decode cL_law 1046 = .ok (.invokevirtual 141, 3) := by decide +kernel
theorem dL_law_1049 : decode cL_law 1049 = .ok (.if_icmp .eq 257, 3) := by decide +kernel
theorem dL_law_1052 : decode cL_law 1052 = .ok (.iconst 0, 1) := by decide +kernel
theorem dL_law_1053 : decode cL_law 1053 = .ok (.ireturn, 1) := by decide +kernel
theorem dL_law_1054 : decode cL_law 1054 = .ok (.aload_n 1, 1) := by decide +kernel
theorem dL_law_1055 : decode cL_law 1055 = .ok (.aload_n 0, 1) := by decide +kernel
theorem dL_law_1056 : decode cL_law 1056 = .ok (.iload_n 3, 1) := by decide +kernel
theorem dL_law_1057 : decode cL_law 1057 = .ok (.iconst 1, 1) := by decide +kernel
theorem dL_law_1058 : decode cL_law 1058 = .ok (.iadd, 1) := by decide +kernel
theorem dL_law_1059 : decode cL_law 1059 = .ok (.iaload, 1) := by decide +kernel
theorem dL_law_1060 : decode cL_law 1060 = .ok (.invokevirtual 142, 3) := by decide +kernel
theorem dL_law_1063 : decode cL_law 1063 = .ok (.aload_n 2, 1) := by decide +kernel
theorem dL_law_1064 : decode cL_law 1064 = .ok (.aload_n 0, 1) := by decide +kernel
theorem dL_law_1065 : decode cL_law 1065 = .ok (.iload_n 3, 1) := by decide +kernel
theorem dL_law_1066 : decode cL_law 1066 = .ok (.iconst 1, 1) := by decide +kernel
theorem dL_law_1067 : decode cL_law 1067 = .ok (.iadd, 1) := by decide +kernel
theorem dL_law_1068 : decode cL_law 1068 = .ok (.iaload, 1) := by decide +kernel
theorem dL_law_1069 : decode cL_law 1069 = .ok (.invokevirtual 145, 3) := by decide +kernel
theorem dL_law_1072 : decode cL_law 1072 = .ok (.if_icmp .eq 234, 3) := by decide +kernel
theorem dL_law_1075 : decode cL_law 1075 = .ok (.iconst 0, 1) := by decide +kernel
theorem dL_law_1076 : decode cL_law 1076 = .ok (.ireturn, 1) := by decide +kernel
theorem dL_law_1077 : decode cL_law 1077 = .ok (.aload_n 1, 1) := by decide +kernel
theorem dL_law_1078 : decode cL_law 1078 = .ok (.aload_n 0, 1) := by decide +kernel
theorem dL_law_1079 : decode cL_law 1079 = .ok (.iload_n 3, 1) := by decide +kernel
theorem dL_law_1080 : decode cL_law 1080 = .ok (.iconst 1, 1) := by decide +kernel
theorem dL_law_1081 : decode cL_law 1081 = .ok (.iadd, 1) := by decide +kernel
theorem dL_law_1082 : decode cL_law 1082 = .ok (.iaload, 1) := by decide +kernel
theorem dL_law_1083 : decode cL_law 1083 = .ok (.aload_n 0, 1) := by decide +kernel
theorem dL_law_1084 : decode cL_law 1084 = .ok (.iload_n 3, 1) := by decide +kernel
theorem dL_law_1085 : decode cL_law 1085 = .ok (.iconst 2, 1) := by decide +kernel
theorem dL_law_1086 : decode cL_law 1086 = .ok (.iadd, 1) := by decide +kernel
theorem dL_law_1087 : decode cL_law 1087 = .ok (.iaload, 1) := by decide +kernel
theorem dL_law_1088 : decode cL_law 1088 = .ok (.aload_n 0, 1) := by decide +kernel
theorem dL_law_1089 : decode cL_law 1089 = .ok (.iload_n 3, 1) := by decide +kernel
theorem dL_law_1090 : decode cL_law 1090 = .ok (.iconst 3, 1) := by decide +kernel
theorem dL_law_1091 : decode cL_law 1091 = .ok (.iadd, 1) := by decide +kernel
theorem dL_law_1092 : decode cL_law 1092 = .ok (.iaload, 1) := by decide +kernel
theorem dL_law_1093 : decode cL_law 1093 = .ok (.aload_n 0, 1) := by decide +kernel
theorem dL_law_1094 : decode cL_law 1094 = .ok (.iload_n 3, 1) := by decide +kernel
theorem dL_law_1095 : decode cL_law 1095 = .ok (.iconst 4, 1) := by decide +kernel
theorem dL_law_1096 : decode cL_law 1096 = .ok (.iadd, 1) := by decide +kernel
theorem dL_law_1097 : decode cL_law 1097 = .ok (.iaload, 1) := by decide +kernel
theorem dL_law_1098 : decode cL_law 1098 = .ok (.invokevirtual 146, 3) := by decide +kernel
theorem dL_law_1101 : decode cL_law 1101 = .ok (.aload_n 2, 1) := by decide +kernel
theorem dL_law_1102 : decode cL_law 1102 = .ok (.aload_n 0, 1) := by decide +kernel
theorem dL_law_1103 : decode cL_law 1103 = .ok (.iload_n 3, 1) := by decide +kernel
theorem dL_law_1104 : decode cL_law 1104 = .ok (.iconst 1, 1) := by decide +kernel
theorem dL_law_1105 : decode cL_law 1105 = .ok (.iadd, 1) := by decide +kernel
theorem dL_law_1106 : decode cL_law 1106 = .ok (.iaload, 1) := by decide +kernel
theorem dL_law_1107 : decode cL_law 1107 = .ok (.aload_n 0, 1) := by decide +kernel
theorem dL_law_1108 : decode cL_law 1108 = .ok (.iload_n 3, 1) := by decide +kernel
theorem dL_law_1109 : decode cL_law 1109 = .ok (.iconst 2, 1) := by decide +kernel
theorem dL_law_1110 : decode cL_law 1110 = .ok (.iadd, 1) := by decide +kernel
theorem dL_law_1111 : decode cL_law 1111 = .ok (.iaload, 1) := by decide +kernel
theorem dL_law_1112 : decode cL_law 1112 = .ok (.aload_n 0, 1) := by decide +kernel
theorem dL_law_1113 : decode cL_law 1113 = .ok (.iload_n 3, 1) := by decide +kernel
theorem dL_law_1114 : decode cL_law 1114 = .ok (.iconst 3, 1) := by decide +kernel
theorem dL_law_1115 : decode cL_law 1115 = .ok (.iadd, 1) := by decide +kernel
theorem dL_law_1116 : decode cL_law 1116 = .ok (.iaload, 1) := by decide +kernel
theorem dL_law_1117 : decode cL_law 1117 = .ok (.aload_n 0, 1) := by decide +kernel
theorem dL_law_1118 : decode cL_law 1118 = .ok (.iload_n 3, 1) := by decide +kernel
theorem dL_law_1119 : decode cL_law 1119 = .ok (.iconst 4, 1) := by decide +kernel
theorem dL_law_1120 : decode cL_law 1120 = .ok (.iadd, 1) := by decide +kernel
theorem dL_law_1121 : decode cL_law 1121 = .ok (.iaload, 1) := by decide +kernel
theorem dL_law_1122 : decode cL_law 1122 = .ok (.invokevirtual 150, 3) := by decide +kernel
theorem dL_law_1125 : decode cL_law 1125 = .ok (.if_icmp .eq 181, 3) := by decide +kernel
theorem dL_law_1128 : decode cL_law 1128 = .ok (.iconst 0, 1) := by decide +kernel
theorem dL_law_1129 : decode cL_law 1129 = .ok (.ireturn, 1) := by decide +kernel
theorem dL_law_1130 : decode cL_law 1130 = .ok (.aload_n 1, 1) := by decide +kernel
theorem dL_law_1131 : decode cL_law 1131 = .ok (.aload_n 0, 1) := by decide +kernel
theorem dL_law_1132 : decode cL_law 1132 = .ok (.iload_n 3, 1) := by decide +kernel
theorem dL_law_1133 : decode cL_law 1133 = .ok (.iconst 1, 1) := by decide +kernel
theorem dL_law_1134 : decode cL_law 1134 = .ok (.iadd, 1) := by decide +kernel
theorem dL_law_1135 : decode cL_law 1135 = .ok (.iaload, 1) := by decide +kernel
theorem dL_law_1136 : decode cL_law 1136 = .ok (.aload_n 0, 1) := by decide +kernel
theorem dL_law_1137 : decode cL_law 1137 = .ok (.iload_n 3, 1) := by decide +kernel
theorem dL_law_1138 : decode cL_law 1138 = .ok (.iconst 2, 1) := by decide +kernel
theorem dL_law_1139 : decode cL_law 1139 = .ok (.iadd, 1) := by decide +kernel
theorem dL_law_1140 : decode cL_law 1140 = .ok (.iaload, 1) := by decide +kernel
theorem dL_law_1141 : decode cL_law 1141 = .ok (.aload_n 0, 1) := by decide +kernel
theorem dL_law_1142 : decode cL_law 1142 = .ok (.iload_n 3, 1) := by decide +kernel
theorem dL_law_1143 : decode cL_law 1143 = .ok (.iconst 3, 1) := by decide +kernel
theorem dL_law_1144 : decode cL_law 1144 = .ok (.iadd, 1) := by decide +kernel
theorem dL_law_1145 : decode cL_law 1145 = .ok (.iaload, 1) := by decide +kernel
theorem dL_law_1146 : decode cL_law 1146 = .ok (.invokevirtual 151, 3) := by decide +kernel
theorem dL_law_1149 : decode cL_law 1149 = .ok (.aload_n 2, 1) := by decide +kernel
theorem dL_law_1150 : decode cL_law 1150 = .ok (.aload_n 0, 1) := by decide +kernel
theorem dL_law_1151 : decode cL_law 1151 = .ok (.iload_n 3, 1) := by decide +kernel
theorem dL_law_1152 : decode cL_law 1152 = .ok (.iconst 1, 1) := by decide +kernel
theorem dL_law_1153 : decode cL_law 1153 = .ok (.iadd, 1) := by decide +kernel
theorem dL_law_1154 : decode cL_law 1154 = .ok (.iaload, 1) := by decide +kernel
theorem dL_law_1155 : decode cL_law 1155 = .ok (.aload_n 0, 1) := by decide +kernel
theorem dL_law_1156 : decode cL_law 1156 = .ok (.iload_n 3, 1) := by decide +kernel
theorem dL_law_1157 : decode cL_law 1157 = .ok (.iconst 2, 1) := by decide +kernel
theorem dL_law_1158 : decode cL_law 1158 = .ok (.iadd, 1) := by decide +kernel
theorem dL_law_1159 : decode cL_law 1159 = .ok (.iaload, 1) := by decide +kernel
theorem dL_law_1160 : decode cL_law 1160 = .ok (.aload_n 0, 1) := by decide +kernel
theorem dL_law_1161 : decode cL_law 1161 = .ok (.iload_n 3, 1) := by decide +kernel
theorem dL_law_1162 : decode cL_law 1162 = .ok (.iconst 3, 1) := by decide +kernel
theorem dL_law_1163 : decode cL_law 1163 = .ok (.iadd, 1) := by decide +kernel
theorem dL_law_1164 : decode cL_law 1164 = .ok (.iaload, 1) := by decide +kernel
theorem dL_law_1165 : decode cL_law 1165 = .ok (.invokevirtual 154, 3) := by decide +kernel
theorem dL_law_1168 : decode cL_law 1168 = .ok (.if_icmp .eq 138, 3) := by decide +kernel
theorem dL_law_1171 : decode cL_law 1171 = .ok (.iconst 0, 1) := by decide +kernel
theorem dL_law_1172 : decode cL_law 1172 = .ok (.ireturn, 1) := by decide +kernel
theorem dL_law_1173 : decode cL_law 1173 = .ok (.aload_n 1, 1) := by decide +kernel
theorem dL_law_1174 : decode cL_law 1174 = .ok (.aload_n 0, 1) := by decide +kernel
theorem dL_law_1175 : decode cL_law 1175 = .ok (.iload_n 3, 1) := by decide +kernel
theorem dL_law_1176 : decode cL_law 1176 = .ok (.iconst 1, 1) := by decide +kernel
theorem dL_law_1177 : decode cL_law 1177 = .ok (.iadd, 1) := by decide +kernel
theorem dL_law_1178 : decode cL_law 1178 = .ok (.iaload, 1) := by decide +kernel
theorem dL_law_1179 : decode cL_law 1179 = .ok (.aload_n 0, 1) := by decide +kernel
theorem dL_law_1180 : decode cL_law 1180 = .ok (.iload_n 3, 1) := by decide +kernel
theorem dL_law_1181 : decode cL_law 1181 = .ok (.iconst 2, 1) := by decide +kernel
theorem dL_law_1182 : decode cL_law 1182 = .ok (.iadd, 1) := by decide +kernel
theorem dL_law_1183 : decode cL_law 1183 = .ok (.iaload, 1) := by decide +kernel
theorem dL_law_1184 : decode cL_law 1184 = .ok (.aload_n 0, 1) := by decide +kernel
theorem dL_law_1185 : decode cL_law 1185 = .ok (.iload_n 3, 1) := by decide +kernel
theorem dL_law_1186 : decode cL_law 1186 = .ok (.iconst 3, 1) := by decide +kernel
theorem dL_law_1187 : decode cL_law 1187 = .ok (.iadd, 1) := by decide +kernel
theorem dL_law_1188 : decode cL_law 1188 = .ok (.iaload, 1) := by decide +kernel
theorem dL_law_1189 : decode cL_law 1189 = .ok (.aload_n 0, 1) := by decide +kernel
theorem dL_law_1190 : decode cL_law 1190 = .ok (.iload_n 3, 1) := by decide +kernel
theorem dL_law_1191 : decode cL_law 1191 = .ok (.iconst 4, 1) := by decide +kernel
theorem dL_law_1192 : decode cL_law 1192 = .ok (.iadd, 1) := by decide +kernel
theorem dL_law_1193 : decode cL_law 1193 = .ok (.iaload, 1) := by decide +kernel
theorem dL_law_1194 : decode cL_law 1194 = .ok (.aload_n 0, 1) := by decide +kernel
theorem dL_law_1195 : decode cL_law 1195 = .ok (.iload_n 3, 1) := by decide +kernel
theorem dL_law_1196 : decode cL_law 1196 = .ok (.iconst 5, 1) := by decide +kernel
theorem dL_law_1197 : decode cL_law 1197 = .ok (.iadd, 1) := by decide +kernel
theorem dL_law_1198 : decode cL_law 1198 = .ok (.iaload, 1) := by decide +kernel
theorem dL_law_1199 : decode cL_law 1199 = .ok (.invokevirtual 155, 3) := by decide +kernel
theorem dL_law_1202 : decode cL_law 1202 = .ok (.aload_n 2, 1) := by decide +kernel
theorem dL_law_1203 : decode cL_law 1203 = .ok (.aload_n 0, 1) := by decide +kernel
theorem dL_law_1204 : decode cL_law 1204 = .ok (.iload_n 3, 1) := by decide +kernel
theorem dL_law_1205 : decode cL_law 1205 = .ok (.iconst 1, 1) := by decide +kernel
theorem dL_law_1206 : decode cL_law 1206 = .ok (.iadd, 1) := by decide +kernel
theorem dL_law_1207 : decode cL_law 1207 = .ok (.iaload, 1) := by decide +kernel
theorem dL_law_1208 : decode cL_law 1208 = .ok (.aload_n 0, 1) := by decide +kernel
theorem dL_law_1209 : decode cL_law 1209 = .ok (.iload_n 3, 1) := by decide +kernel
theorem dL_law_1210 : decode cL_law 1210 = .ok (.iconst 2, 1) := by decide +kernel
theorem dL_law_1211 : decode cL_law 1211 = .ok (.iadd, 1) := by decide +kernel
theorem dL_law_1212 : decode cL_law 1212 = .ok (.iaload, 1) := by decide +kernel
theorem dL_law_1213 : decode cL_law 1213 = .ok (.aload_n 0, 1) := by decide +kernel
theorem dL_law_1214 : decode cL_law 1214 = .ok (.iload_n 3, 1) := by decide +kernel
theorem dL_law_1215 : decode cL_law 1215 = .ok (.iconst 3, 1) := by decide +kernel
theorem dL_law_1216 : decode cL_law 1216 = .ok (.iadd, 1) := by decide +kernel
theorem dL_law_1217 : decode cL_law 1217 = .ok (.iaload, 1) := by decide +kernel
theorem dL_law_1218 : decode cL_law 1218 = .ok (.aload_n 0, 1) := by decide +kernel
theorem dL_law_1219 : decode cL_law 1219 = .ok (.iload_n 3, 1) := by decide +kernel
theorem dL_law_1220 : decode cL_law 1220 = .ok (.iconst 4, 1) := by decide +kernel
theorem dL_law_1221 : decode cL_law 1221 = .ok (.iadd, 1) := by decide +kernel
theorem dL_law_1222 : decode cL_law 1222 = .ok (.iaload, 1) := by decide +kernel
theorem dL_law_1223 : decode cL_law 1223 = .ok (.aload_n 0, 1) := by decide +kernel
theorem dL_law_1224 : decode cL_law 1224 = .ok (.iload_n 3, 1) := by decide +kernel
theorem dL_law_1225 : decode cL_law 1225 = .ok (.iconst 5, 1) := by decide +kernel
theorem dL_law_1226 : decode cL_law 1226 = .ok (.iadd, 1) := by decide +kernel
theorem dL_law_1227 : decode cL_law 1227 = .ok (.iaload, 1) := by decide +kernel
theorem dL_law_1228 : decode cL_law 1228 = .ok (.invokevirtual 159, 3) := by decide +kernel
theorem dL_law_1231 : decode cL_law 1231 = .ok (.if_icmp .eq 75, 3) := by decide +kernel
theorem dL_law_1234 : decode cL_law 1234 = .ok (.iconst 0, 1) := by decide +kernel
theorem dL_law_1235 : decode cL_law 1235 = .ok (.ireturn, 1) := by decide +kernel
theorem dL_law_1236 : decode cL_law 1236 = .ok (.aload_n 1, 1) := by decide +kernel
theorem dL_law_1237 : decode cL_law 1237 = .ok (.aload_n 0, 1) := by decide +kernel
theorem dL_law_1238 : decode cL_law 1238 = .ok (.iload_n 3, 1) := by decide +kernel
theorem dL_law_1239 : decode cL_law 1239 = .ok (.iconst 1, 1) := by decide +kernel
theorem dL_law_1240 : decode cL_law 1240 = .ok (.iadd, 1) := by decide +kernel
theorem dL_law_1241 : decode cL_law 1241 = .ok (.iaload, 1) := by decide +kernel
theorem dL_law_1242 : decode cL_law 1242 = .ok (.aload_n 0, 1) := by decide +kernel
theorem dL_law_1243 : decode cL_law 1243 = .ok (.iload_n 3, 1) := by decide +kernel
theorem dL_law_1244 : decode cL_law 1244 = .ok (.iconst 2, 1) := by decide +kernel
theorem dL_law_1245 : decode cL_law 1245 = .ok (.iadd, 1) := by decide +kernel
theorem dL_law_1246 : decode cL_law 1246 = .ok (.iaload, 1) := by decide +kernel
theorem dL_law_1247 : decode cL_law 1247 = .ok (.invokevirtual 160, 3) := by decide +kernel
theorem dL_law_1250 : decode cL_law 1250 = .ok (.aload_n 2, 1) := by decide +kernel
theorem dL_law_1251 : decode cL_law 1251 = .ok (.aload_n 0, 1) := by decide +kernel
theorem dL_law_1252 : decode cL_law 1252 = .ok (.iload_n 3, 1) := by decide +kernel
theorem dL_law_1253 : decode cL_law 1253 = .ok (.iconst 1, 1) := by decide +kernel
theorem dL_law_1254 : decode cL_law 1254 = .ok (.iadd, 1) := by decide +kernel
theorem dL_law_1255 : decode cL_law 1255 = .ok (.iaload, 1) := by decide +kernel
theorem dL_law_1256 : decode cL_law 1256 = .ok (.aload_n 0, 1) := by decide +kernel
theorem dL_law_1257 : decode cL_law 1257 = .ok (.iload_n 3, 1) := by decide +kernel
theorem dL_law_1258 : decode cL_law 1258 = .ok (.iconst 2, 1) := by decide +kernel
theorem dL_law_1259 : decode cL_law 1259 = .ok (.iadd, 1) := by decide +kernel
theorem dL_law_1260 : decode cL_law 1260 = .ok (.iaload, 1) := by decide +kernel
theorem dL_law_1261 : decode cL_law 1261 = .ok (.invokevirtual 163, 3) := by decide +kernel
theorem dL_law_1264 : decode cL_law 1264 = .ok (.if_icmp .eq 42, 3) := by decide +kernel
theorem dL_law_1267 : decode cL_law 1267 = .ok (.iconst 0, 1) := by decide +kernel
theorem dL_law_1268 : decode cL_law 1268 = .ok (.ireturn, 1) := by decide +kernel
theorem dL_law_1269 : decode cL_law 1269 = .ok (.aload_n 1, 1) := by decide +kernel
theorem dL_law_1270 : decode cL_law 1270 = .ok (.aload_n 0, 1) := by decide +kernel
theorem dL_law_1271 : decode cL_law 1271 = .ok (.iload_n 3, 1) := by decide +kernel
theorem dL_law_1272 : decode cL_law 1272 = .ok (.iconst 1, 1) := by decide +kernel
theorem dL_law_1273 : decode cL_law 1273 = .ok (.iadd, 1) := by decide +kernel
theorem dL_law_1274 : decode cL_law 1274 = .ok (.iaload, 1) := by decide +kernel
theorem dL_law_1275 : decode cL_law 1275 = .ok (.invokevirtual 164, 3) := by decide +kernel
theorem dL_law_1278 : decode cL_law 1278 = .ok (.aload_n 2, 1) := by decide +kernel
theorem dL_law_1279 : decode cL_law 1279 = .ok (.aload_n 0, 1) := by decide +kernel
theorem dL_law_1280 : decode cL_law 1280 = .ok (.iload_n 3, 1) := by decide +kernel
theorem dL_law_1281 : decode cL_law 1281 = .ok (.iconst 1, 1) := by decide +kernel
theorem dL_law_1282 : decode cL_law 1282 = .ok (.iadd, 1) := by decide +kernel
theorem dL_law_1283 : decode cL_law 1283 = .ok (.iaload, 1) := by decide +kernel
theorem dL_law_1284 : decode cL_law 1284 = .ok (.invokevirtual 167, 3) := by decide +kernel
theorem dL_law_1287 : decode cL_law 1287 = .ok (.if_icmp .eq 19, 3) := by decide +kernel
theorem dL_law_1290 : decode cL_law 1290 = .ok (.iconst 0, 1) := by decide +kernel
theorem dL_law_1291 : decode cL_law 1291 = .ok (.ireturn, 1) := by decide +kernel
theorem dL_law_1292 : decode cL_law 1292 = .ok (.aload_n 1, 1) := by decide +kernel
theorem dL_law_1293 : decode cL_law 1293 = .ok (.invokevirtual 168, 3) := by decide +kernel
theorem dL_law_1296 : decode cL_law 1296 = .ok (.aload_n 2, 1) := by decide +kernel
theorem dL_law_1297 : decode cL_law 1297 = .ok (.invokevirtual 172, 3) := by decide +kernel
theorem dL_law_1300 : decode cL_law 1300 = .ok (.lcmp, 1) := by decide +kernel
theorem dL_law_1301 : decode cL_law 1301 = .ok (.ifCond .eq 5, 3) := by decide +kernel
theorem dL_law_1304 : decode cL_law 1304 = .ok (.iconst 0, 1) := by decide +kernel
theorem dL_law_1305 : decode cL_law 1305 = .ok (.ireturn, 1) := by decide +kernel
theorem dL_law_1306 : decode cL_law 1306 = .ok (.iinc 3 6, 3) := by decide +kernel
theorem dL_law_1309 : decode cL_law 1309 = .ok (.goto (-1291), 3) := by decide +kernel
theorem dL_law_1312 : decode cL_law 1312 = .ok (.iconst 1, 1) := by decide +kernel
theorem dL_law_1313 : decode cL_law 1313 = .ok (.ireturn, 1) := by decide +kernel
end
section
def NWS : List Cond := [.methodLinkNest RX0 103 yX6_rankBy "SwornElsewhere"]
theorem NWS_form : ∀ w ∈ NWS, ∃ (a : String) (i : Nat) (x : MethodName) (h : String), w = .methodLinkNest a i x h := (show ∀ w ∈ [Cond.methodLinkNest RX0 103 yX6_rankBy "SwornElsewhere"], ∃ (a : String) (i : Nat) (x : MethodName) (h : String), w = .methodLinkNest a i x h from List.forall_mem_cons.mpr ⟨⟨_, _, _, _, rfl⟩, fun _ h => absurd h List.not_mem_nil⟩)
theorem NWS_t0 : Cond.methodLinkNest RX0 103 yX6_rankBy "SwornElsewhere" ∈ lw_tbl := List.mem_of_getElem? (i := 455) (by decide +kernel)
end
section
/-! The abstract walk: numbers are Int, cells are numbered by a layout, the memory is a function of cell and place; every cell has its least and greatest value. -/
section AWa
abbrev AV : Type := Int ⊕ (Int ⊕ Option Nat)
abbrev aI (x : Int) : AV := Sum.inl x
abbrev aL (x : Int) : AV := Sum.inr (Sum.inl x)
abbrev aR (k : Nat) : AV := Sum.inr (Sum.inr (some k))
abbrev aN : AV := Sum.inr (Sum.inr none)
abbrev Mem : Type := Nat → Nat → Int
/-- a field: (0, lo, hi) a number; (1, k, _) the cell k; (2, lo, hi) a cell's number, below 0 null -/
abbrev FD : Type := Nat × Int × Int
/-- a cell: an object (its class, its fields), or an array (its kind: 0 int, 1 boolean, 2 long, 3 sheets; length; lo; hi) -/
abbrev CD : Type := (Nat × List FD) ⊕ (Nat × Nat × Int × Int)
def i32 (x : Int) : Int32 := Int32.ofInt x
def i64 (x : Int) : Int64 := Int64.ofInt x
def wr (x : Int) : Int := (x + 2147483648) % 4294967296 - 2147483648
def wl (x : Int) : Int := (x + 9223372036854775808) % 18446744073709551616 - 9223372036854775808
theorem wr_id {x : Int} (h : -2147483648 ≤ x ∧ x < 2147483648) : wr x = x := by unfold wr; omega
theorem wl_id {x : Int} (h : -9223372036854775808 ≤ x ∧ x < 9223372036854775808) : wl x = x := by unfold wl; omega
theorem wr_in (x : Int) : -2147483648 ≤ wr x ∧ wr x < 2147483648 := by unfold wr; omega
theorem wl_in (x : Int) : -9223372036854775808 ≤ wl x ∧ wl x < 9223372036854775808 := by unfold wl; omega
theorem i32_toInt (x : Int) : (i32 x).toInt = wr x := by
  unfold i32 wr
  rw [Int32.toInt_ofInt, Int.bmod_def]
  simp only [Int32.size]
  split <;> omega
theorem i64_toInt (x : Int) : (i64 x).toInt = wl x := by
  unfold i64 wl
  rw [Int64.toInt_ofInt, Int.bmod_def]
  simp only [Int64.size]
  split <;> omega
theorem i32_id {x : Int} (h : -2147483648 ≤ x ∧ x < 2147483648) : (i32 x).toInt = x := by rw [i32_toInt, wr_id h]
theorem i64_id {x : Int} (h : -9223372036854775808 ≤ x ∧ x < 9223372036854775808) : (i64 x).toInt = x := by rw [i64_toInt, wl_id h]
theorem i32_of (a : Int32) : i32 a.toInt = a := Int32.ofInt_toInt a
theorem i64_of (a : Int64) : i64 a.toInt = a := Int64.ofInt_toInt a
theorem i32_wr (x : Int) : i32 (wr x) = i32 x := Int32.toInt_inj.mp (by rw [i32_toInt, i32_toInt, wr_id (wr_in x)])
theorem i64_wl (x : Int) : i64 (wl x) = i64 x := Int64.toInt_inj.mp (by rw [i64_toInt, i64_toInt, wl_id (wl_in x)])
theorem i32_add (x y : Int) : i32 x + i32 y = i32 (x + y) := (Int32.ofInt_add x y).symm
theorem i32_sub (x y : Int) : i32 x - i32 y = i32 (x - y) := (Int32.ofInt_sub x y).symm
theorem i32_mul (x y : Int) : i32 x * i32 y = i32 (x * y) := (Int32.ofInt_mul x y).symm
theorem i64_add (x y : Int) : i64 x + i64 y = i64 (x + y) := (Int64.ofInt_add x y).symm
theorem i64_sub (x y : Int) : i64 x - i64 y = i64 (x - y) := (Int64.ofInt_sub x y).symm
theorem i64_mul (x y : Int) : i64 x * i64 y = i64 (x * y) := (Int64.ofInt_mul x y).symm
theorem i32_eq {x y : Int} (hx : -2147483648 ≤ x ∧ x < 2147483648) (hy : -2147483648 ≤ y ∧ y < 2147483648) : i32 x = i32 y ↔ x = y := by
  rw [← Int32.toInt_inj, i32_id hx, i32_id hy]
theorem i32_lt {x y : Int} (hx : -2147483648 ≤ x ∧ x < 2147483648) (hy : -2147483648 ≤ y ∧ y < 2147483648) : i32 x < i32 y ↔ x < y := by
  rw [Int32.lt_iff_toInt_lt, i32_id hx, i32_id hy]
theorem i32_le {x y : Int} (hx : -2147483648 ≤ x ∧ x < 2147483648) (hy : -2147483648 ≤ y ∧ y < 2147483648) : i32 x ≤ i32 y ↔ x ≤ y := by
  rw [Int32.le_iff_toInt_le, i32_id hx, i32_id hy]
theorem i64_eq {x y : Int} (hx : -9223372036854775808 ≤ x ∧ x < 9223372036854775808) (hy : -9223372036854775808 ≤ y ∧ y < 9223372036854775808) : i64 x = i64 y ↔ x = y := by
  rw [← Int64.toInt_inj, i64_id hx, i64_id hy]
theorem i64_lt {x y : Int} (hx : -9223372036854775808 ≤ x ∧ x < 9223372036854775808) (hy : -9223372036854775808 ≤ y ∧ y < 9223372036854775808) : i64 x < i64 y ↔ x < y := by
  rw [Int64.lt_iff_toInt_lt, i64_id hx, i64_id hy]
theorem b8_32 {n : Int} (h : -128 ≤ n ∧ n < 128) : (Int8.ofInt n).toInt32 = i32 n := by
  rw [← Int32.toInt_inj, Int8.toInt_toInt32, Int8.toInt_ofInt, i32_id (by omega), Int.bmod_def]
  simp only [Int8.size]
  split <;> omega
theorem b16_32 {n : Int} (h : -32768 ≤ n ∧ n < 32768) : (Int16.ofInt n).toInt32 = i32 n := by
  rw [← Int32.toInt_inj, Int16.toInt_toInt32, Int16.toInt_ofInt, i32_id (by omega), Int.bmod_def]
  simp only [Int16.size]
  split <;> omega
theorem i32_0 : i32 0 = 0 := by decide +kernel
theorem i64_0 : i64 0 = 0 := by decide +kernel
theorem i32_clamp {x : Int} (h : -2147483648 ≤ x ∧ x < 2147483648) : (i32 x).toNatClampNeg = x.toNat := by
  show (i32 x).toInt.toNat = x.toNat
  rw [i32_id h]
theorem i32_in {x : Int} {n : Nat} (h : -2147483648 ≤ x ∧ x < 2147483648) (hn : 0 ≤ x ∧ x < n) : vp_in (i32 x) n := by
  rw [vp_in_iff, i32_id h]
  exact hn
def bAnd (x y : Int) : Int := (i32 x &&& i32 y).toInt
def bOr (x y : Int) : Int := (i32 x ||| i32 y).toInt
def bXor (x y : Int) : Int := (i32 x ^^^ i32 y).toInt
def bShl (x y : Int) : Int := (i32 x <<< (i32 y &&& 31)).toInt
def bShr (x y : Int) : Int := (i32 x >>> (i32 y &&& 31)).toInt
def bUsh (x y : Int) : Int := ((i32 x).toUInt32 >>> ((i32 y).toUInt32 &&& Int32.toUInt32 31)).toInt32.toInt
def lAnd (x y : Int) : Int := (i64 x &&& i64 y).toInt
def lShl (x y : Int) : Int := (i64 x <<< ((i32 y).toInt64 &&& 63)).toInt
def lShr (x y : Int) : Int := (i64 x >>> ((i32 y).toInt64 &&& 63)).toInt
def toB (x : Int) : Int := (i32 x).toInt8.toInt32.toInt
def toS (x : Int) : Int := (i32 x).toInt16.toInt32.toInt
theorem i32_rng (a : Int32) : -2147483648 ≤ a.toInt ∧ a.toInt < 2147483648 := by
  have h := wr_in a.toInt
  rwa [← i32_toInt, i32_of] at h
theorem i64_rng (a : Int64) : -9223372036854775808 ≤ a.toInt ∧ a.toInt < 9223372036854775808 := by
  have h := wl_in a.toInt
  rwa [← i64_toInt, i64_of] at h
def cv (ad : Nat → Nat) : AV → Value
  | .inl x => .int (i32 x)
  | .inr (.inl x) => .long (i64 x)
  | .inr (.inr (some k)) => .ref (ad k)
  | .inr (.inr none) => .null
def okV : AV → Prop
  | .inl x => -2147483648 ≤ x ∧ x < 2147483648
  | .inr (.inl x) => -9223372036854775808 ≤ x ∧ x < 9223372036854775808
  | .inr (.inr _) => True
def ctV : AV → Nat
  | .inr (.inl _) => 2
  | _ => 1
theorem ctV_cv (ad : Nat → Nat) (v : AV) : (cv ad v).category = ctV v := by
  rcases v with x | x | _ | k <;> rfl
def cfd (ad : Nat → Nat) (fd : FD) (x : Int) : Value := if fd.1 = 0 then .int (i32 x) else if fd.1 = 1 then .ref (ad fd.2.1.toNat) else if x < 0 then .null else .ref (ad x.toNat)
def carr (ad : Nat → Nat) (t : Nat) (f : Nat → Int) : (Nat → Int32) ⊕ (Nat → Int64) ⊕ (Nat → UInt32) ⊕ (Nat → UInt64) ⊕ (Nat → Option Nat) :=
  if t = 2 then .inr (.inl (fun j => i64 (f j))) else if t = 3 then .inr (.inr (.inr (.inr (fun j => if f j < 0 then none else some (ad (f j).toNat))))) else .inl (fun j => i32 (f j))
def ccell (ca : Nat → ClassId) (ad : Nat → Nat) (d : CD) (f : Nat → Int) : va_E := match d with
  | .inl (ci, fds) => .inr (ci, fds.mapIdx (fun j fd => cfd ad fd (f j)))
  | .inr (t, n, _, _) => .inl (ca t, n, carr ad t f)
def conc (ca : Nat → ClassId) (ad : Nat → Nat) (L : List CD) (M : Mem) : va_W := L.mapIdx (fun k d => (ad k, ccell ca ad d (M k)))
theorem conc_get {ca : Nat → ClassId} {ad : Nat → Nat} {L : List CD} {M : Mem} {k : Nat} {d : CD} (h : L[k]? = some d) : (conc ca ad L M)[k]? = some (ad k, ccell ca ad d (M k)) := by
  unfold conc
  rw [List.getElem?_mapIdx, h]
  rfl
def up (M : Mem) (k j : Nat) (v : Int) : Mem := fun a b => if a = k ∧ b = j then v else M a b
def up1 (f : Nat → Int) (j : Nat) (v : Int) : Nat → Int := fun b => if b = j then v else f b
theorem up_row (M : Mem) (k j : Nat) (v : Int) : up M k j v k = up1 (M k) j v := by
  funext b
  simp [up, up1]
theorem up_off {M : Mem} {k j a : Nat} {v : Int} (h : a ≠ k) : up M k j v a = M a := by
  funext b
  simp [up, h]
theorem up_at (M : Mem) (k j : Nat) (v : Int) : up M k j v k j = v := by simp [up]
theorem up_nj {M : Mem} {k j a b : Nat} {v : Int} (h : b ≠ j) : up M k j v a b = M a b := by simp [up, h]
theorem conc_up {ca : Nat → ClassId} {ad : Nat → Nat} {L : List CD} {M : Mem} {k j : Nat} {d : CD} {v : Int} (h : L[k]? = some d) : (conc ca ad L M).set k (ad k, ccell ca ad d (up1 (M k) j v)) = conc ca ad L (up M k j v) := by
  apply List.ext_getElem?
  intro i
  unfold conc
  rw [List.getElem?_set, List.getElem?_mapIdx, List.getElem?_mapIdx]
  have hk : k < L.length := (List.getElem?_eq_some_iff.mp h).1
  by_cases hi : k = i
  · subst hi
    rw [if_pos rfl, if_pos (by rw [List.length_mapIdx]; exact hk), h, up_row]
    rfl
  · rw [if_neg hi]
    cases hL : L[i]? with
    | none => rfl
    | some d' =>
      show some _ = some _
      rw [up_off (fun q => hi q.symm)]
def okC (d : CD) (f : Nat → Int) : Prop := match d with
  | .inl (_, fds) => ∀ (j : Nat) (fd : FD), fds[j]? = some fd → fd.1 ≠ 1 → fd.2.1 ≤ f j ∧ f j ≤ fd.2.2
  | .inr (_, _, lo, hi) => ∀ j : Nat, lo ≤ f j ∧ f j ≤ hi
/-- a layout's own bounds fit the machine's numbers; an object has as many fields as its class -/
def okD (d : CD) : Prop := match d with
  | .inl (ci, fds) => (∀ fd ∈ fds, fd.1 = 0 → -2147483648 ≤ fd.2.1 ∧ fd.2.2 < 2147483648) ∧ ∃ r, vwCl[ci]? = some r ∧ r.2.2 = fds.length
  | .inr (t, n, lo, hi) => (if t = 2 then -9223372036854775808 ≤ lo ∧ hi < 9223372036854775808 else -2147483648 ≤ lo ∧ hi < 2147483648) ∧ t < 4 ∧ n < 2147483648
def okM (L : List CD) (M : Mem) : Prop := ∀ (k : Nat) (d : CD), L[k]? = some d → okD d ∧ okC d (M k)
theorem okM_upA {L : List CD} {M : Mem} {k j t n : Nat} {lo hi v : Int} (h : L[k]? = some (.inr (t, n, lo, hi))) (om : okM L M) (hv : lo ≤ v ∧ v ≤ hi) : okM L (up M k j v) := by
  intro a d ha
  by_cases hk : a = k
  · subst hk
    rw [h] at ha
    cases ha
    refine ⟨(om a _ h).1, ?_⟩
    intro b
    have hb := (om a _ h).2 b
    rw [up_row]
    show lo ≤ up1 (M a) j v b ∧ up1 (M a) j v b ≤ hi
    unfold up1
    split
    · exact hv
    · exact hb
  · rw [up_off hk]
    exact om a d ha
theorem okM_upF {L : List CD} {M : Mem} {k j ci : Nat} {fds : List FD} {fd : FD} {v : Int} (h : L[k]? = some (.inl (ci, fds))) (hf : fds[j]? = some fd) (om : okM L M) (hv : fd.2.1 ≤ v ∧ v ≤ fd.2.2) : okM L (up M k j v) := by
  intro a d ha
  by_cases hk : a = k
  · subst hk
    rw [h] at ha
    cases ha
    refine ⟨(om a _ h).1, ?_⟩
    intro b fb hb h1
    have hb2 := (om a _ h).2 b fb hb h1
    rw [up_row]
    unfold up1
    split
    · rename_i e
      subst e
      rw [hf] at hb
      cases hb
      exact hv
    · exact hb2
  · rw [up_off hk]
    exact om a d ha
theorem os1 {a : AV} {stk : List AV} (h : ∀ v ∈ a :: stk, okV v) : ∀ v ∈ stk, okV v := (List.forall_mem_cons.mp h).2
theorem os0 {a : AV} {stk : List AV} (h : ∀ v ∈ a :: stk, okV v) : okV a := (List.forall_mem_cons.mp h).1
theorem osc {a : AV} {stk : List AV} (h0 : okV a) (h : ∀ v ∈ stk, okV v) : ∀ v ∈ a :: stk, okV v := List.forall_mem_cons.mpr ⟨h0, h⟩
def TY (ca : Nat → ClassId) : List (ClassId × FieldType) := [(ca 0, .int), (ca 1, .boolean), (ca 2, .long), (ca 3, .object "SwornElsewhere$Sheet")]
abbrev CTX : Type := Program × Launch × Env × Room × State × MethodId × Array Value × List Frame × Method × Code × Nat × Nat × (State → Prop) × va_G × (Nat → ClassId) × (Nat → Nat) × (Nat → Prop)
def cvl (ad : Nat → Nat) (loc : List (Nat × AV)) : List (Nat × Value) := loc.map (fun q => (q.1, cv ad q.2))
def AW (X : CTX) (L : List CD) (nL pc : Nat) (loc : List (Nat × AV)) (stk : List AV) (M : Mem) : Prop := match X with
  | (p, l, e, R, s, m, args, below, meth, c, cells, slots, Q, D, ca, ad, A) => ∀ (H : Heap) (locs : List Loc) (ls : Array Slot), va_P D vwCl (conc ca ad L M) H → va_D A (conc ca ad L M) → va_S A s.heap H locs → lv_has ls nL (cvl ad loc) → (∀ q ∈ loc, okV q.2) → (∀ v ∈ stk, okV v) → okM L M → W p l e R s m args below meth c H locs cells slots Q (F0 m pc ls (stk.map (cv ad)))
def NK (U : State) : Prop := ∀ w ∈ NWS, va_Nw w U
theorem NK.warm {s U : State} (hW : s.WarmedH U.vm) (h : NK s) : NK U := by
  intro w hw
  obtain ⟨a, i, x, h', rfl⟩ := NWS_form w hw
  exact va_Nw.warmM hW (h _ hw)
theorem NK.calling {U : State} {g : JFrame} {mk : MethodId} {a : Array Value} (h : NK U) : NK (U.calling g mk a) := by
  intro w hw
  obtain ⟨b, i, x, h', rfl⟩ := NWS_form w hw
  exact va_Nw.same rfl rfl (h _ hw)
def Cx (X : CTX) (cc : ByteArray) (own : String) (nL dd : Nat) : Prop := match X with
  | (p, _, _, R, s, m, args, _, _, c, cells, slots, _, D, ca, _, A) => p.tables.exec = Jvm.exec ∧ c.code = cc ∧ c.maxLocals = nL ∧ s.vm.findClass own = some m.cls ∧ (∀ w ∈ WS, w.before args s = true) ∧ va_K D vwCl (TY ca) s ∧ NK s ∧ (∀ q, s.heap.size ≤ q → A q) ∧ dd ≤ R.frames ∧ 40 * dd ≤ R.locals ∧ cells ≤ R.cells ∧ slots ≤ R.slots
end AWa
section AWr
variable {X : CTX} {L : List CD} {nL pc dd : Nat} {loc : List (Nat × AV)} {stk : List AV} {M : Mem} {cc : ByteArray} {own : String}
theorem aw_eq {pc2 : Nat} {loc2 : List (Nat × AV)} {stk2 : List AV} {M2 : Mem} (k : AW X L nL pc2 loc2 stk2 M2) (h1 : pc = pc2) (h2 : loc = loc2) (h3 : stk = stk2) (h4 : M = M2) : AW X L nL pc loc stk M := by
  subst h1; subst h2; subst h3; subst h4; exact k
/-- a value of the list of locals, the stack, may be used for its range -/
theorem aw_rngL {x : Int} (k : Nat) {i : Nat} (hk : loc[k]? = some (i, aI x)) (kk : -2147483648 ≤ x → x < 2147483648 → AW X L nL pc loc stk M) : AW X L nL pc loc stk M := by
  obtain ⟨p, l, e, R, s, m, args, below, meth, c, cells, slots, Q, D, ca, ad, A⟩ := X
  intro H locs ls hP hD hS hl ol os om
  have h : okV (aI x) := ol _ (List.mem_of_getElem? hk)
  exact kk h.1 h.2 H locs ls hP hD hS hl ol os om
theorem aw_rngS {x : Int} (kk : -2147483648 ≤ x → x < 2147483648 → AW X L nL pc loc (aI x :: stk) M) : AW X L nL pc loc (aI x :: stk) M := by
  obtain ⟨p, l, e, R, s, m, args, below, meth, c, cells, slots, Q, D, ca, ad, A⟩ := X
  intro H locs ls hP hD hS hl ol os om
  have h : okV (aI x) := os0 os
  exact kk h.1 h.2 H locs ls hP hD hS hl ol os om
theorem aw_ok (kk : okM L M → AW X L nL pc loc stk M) : AW X L nL pc loc stk M := by
  obtain ⟨p, l, e, R, s, m, args, below, meth, c, cells, slots, Q, D, ca, ad, A⟩ := X
  intro H locs ls hP hD hS hl ol os om
  exact kk om H locs ls hP hD hS hl ol os om
theorem aw_top {x : Int} (kk : ∀ z, z = x → AW X L nL pc loc (aI z :: stk) M) : AW X L nL pc loc (aI x :: stk) M := kk x rfl
theorem aw_topL {x : Int} (kk : ∀ z, z = x → AW X L nL pc loc (aL z :: stk) M) : AW X L nL pc loc (aL x :: stk) M := kk x rfl
/-- fewer locals -/
theorem aw_sub {loc2 : List (Nat × AV)} (ks : List Nat) (h : ks.filterMap (fun k => loc[k]?) = loc2) (kk : AW X L nL pc loc2 stk M) : AW X L nL pc loc stk M := by
  obtain ⟨p, l, e, R, s, m, args, below, meth, c, cells, slots, Q, D, ca, ad, A⟩ := X
  intro H locs ls hP hD hS hl ol os om
  have hm : ∀ q ∈ loc2, q ∈ loc := by
    intro q hq
    rw [← h] at hq
    obtain ⟨k, -, hk⟩ := List.mem_filterMap.mp hq
    exact List.mem_of_getElem? hk
  refine kk H locs ls hP hD hS ⟨hl.1, hl.2.1, fun q hq => ?_⟩ (fun q hq => ol q (hm q hq)) os om
  obtain ⟨q0, h0, rfl⟩ := List.mem_map.mp hq
  exact hl.2.2 _ (List.mem_map.mpr ⟨q0, hm q0 h0, rfl⟩)
theorem lv_pick_cvl {ls : Array Slot} {ad : Nat → Nat} {v : AV} {i : Nat} (hl : lv_has ls nL (cvl ad loc)) (k : Nat) (hk : loc[k]? = some (i, v)) : ls[i]? = some (.val (cv ad v)) :=
  hl.2.2 (i, cv ad v) (List.mem_map.mpr ⟨(i, v), List.mem_of_getElem? hk, rfl⟩)
def lgV : AV → Bool
  | .inr (.inl _) => true
  | _ => false
def stI (loc : List (Nat × AV)) (i : Nat) (v : AV) : List (Nat × AV) := (i, v) :: loc.filter (fun q => !(q.1 == i) && !(q.1 + 1 == i && lgV q.2))
def stL (loc : List (Nat × AV)) (i : Nat) (v : AV) : List (Nat × AV) := (i, v) :: loc.filter (fun q => !(q.1 == i) && (!(q.1 == i + 1) && !(q.1 + 1 == i && lgV q.2)))
theorem lgV_cv (ad : Nat → Nat) (v : AV) : ((cv ad v).category == 2) = lgV v := by
  rcases v with x | x | _ | k <;> rfl
theorem cvl_stI (ad : Nat → Nat) (loc : List (Nat × AV)) (i : Nat) (v : AV) : (i, cv ad v) :: (cvl ad loc).filter (fun q => !(q.1 == i) && !(q.1 + 1 == i && q.2.category == 2)) = cvl ad (stI loc i v) := by
  unfold cvl stI
  rw [List.map_cons, List.filter_map]
  congr 2
  apply List.filter_congr
  intro q _
  simp only [Function.comp, lgV_cv]
theorem cvl_stL (ad : Nat → Nat) (loc : List (Nat × AV)) (i : Nat) (v : AV) : (i, cv ad v) :: (cvl ad loc).filter (fun q => !(q.1 == i) && (!(q.1 == i + 1) && !(q.1 + 1 == i && q.2.category == 2))) = cvl ad (stL loc i v) := by
  unfold cvl stL
  rw [List.map_cons, List.filter_map]
  congr 2
  apply List.filter_congr
  intro q _
  simp only [Function.comp, lgV_cv]
theorem ok_stI {i : Nat} {v : AV} (ol : ∀ q ∈ loc, okV q.2) (hv : okV v) : ∀ q ∈ stI loc i v, okV q.2 := List.forall_mem_cons.mpr ⟨hv, fun q hq => ol q (List.mem_filter.mp hq).1⟩
theorem ok_stL {i : Nat} {v : AV} (ol : ∀ q ∈ loc, okV q.2) (hv : okV v) : ∀ q ∈ stL loc i v, okV q.2 := List.forall_mem_cons.mpr ⟨hv, fun q hq => ol q (List.mem_filter.mp hq).1⟩

theorem aw_iconst {n : Int} (cx : Cx X cc own nL dd) (d : decode cc pc = .ok (.iconst n, 1)) (hn : -2147483648 ≤ n ∧ n < 2147483648) (kk : AW X L nL (pc + 1) loc (aI n :: stk) M) : AW X L nL pc loc stk M := by
  obtain ⟨p, l, e, R, s, m, args, below, meth, c, cells, slots, Q, D, ca, ad, A⟩ := X
  obtain ⟨hx, hb, hml, hown, hts, hK, hN, hA, hfr, hlo, hce, hsl⟩ := cx
  intro H locs ls hP hD hS hl ol os om
  exact lv_iconst (v := i32 n) hx hb d rfl (kk H locs ls hP hD hS hl ol (osc hn os) om)
theorem aw_bipush {n : Int} (cx : Cx X cc own nL dd) (d : decode cc pc = .ok (.bipush n, 2)) (hn : -128 ≤ n ∧ n < 128) (kk : AW X L nL (pc + 2) loc (aI n :: stk) M) : AW X L nL pc loc stk M := by
  obtain ⟨p, l, e, R, s, m, args, below, meth, c, cells, slots, Q, D, ca, ad, A⟩ := X
  obtain ⟨hx, hb, hml, hown, hts, hK, hN, hA, hfr, hlo, hce, hsl⟩ := cx
  intro H locs ls hP hD hS hl ol os om
  have h8 := b8_32 hn
  have hn : -2147483648 ≤ n ∧ n < 2147483648 := by omega
  exact lv_bipush (v := i32 n) hx hb d h8 (kk H locs ls hP hD hS hl ol (osc hn os) om)
theorem aw_sipush {n : Int} (cx : Cx X cc own nL dd) (d : decode cc pc = .ok (.sipush n, 3)) (hn : -32768 ≤ n ∧ n < 32768) (kk : AW X L nL (pc + 3) loc (aI n :: stk) M) : AW X L nL pc loc stk M := by
  obtain ⟨p, l, e, R, s, m, args, below, meth, c, cells, slots, Q, D, ca, ad, A⟩ := X
  obtain ⟨hx, hb, hml, hown, hts, hK, hN, hA, hfr, hlo, hce, hsl⟩ := cx
  intro H locs ls hP hD hS hl ol os om
  have h8 := b16_32 hn
  have hn : -2147483648 ≤ n ∧ n < 2147483648 := by omega
  exact lv_sipush (v := i32 n) hx hb d h8 (kk H locs ls hP hD hS hl ol (osc hn os) om)
theorem aw_lconst {n : Fin 2} {v : Int} (cx : Cx X cc own nL dd) (d : decode cc pc = .ok (.lconst n, 1)) (hv : v = (n.val : Int)) (kk : AW X L nL (pc + 1) loc (aL v :: stk) M) : AW X L nL pc loc stk M := by
  obtain ⟨p, l, e, R, s, m, args, below, meth, c, cells, slots, Q, D, ca, ad, A⟩ := X
  obtain ⟨hx, hb, hml, hown, hts, hK, hN, hA, hfr, hlo, hce, hsl⟩ := cx
  intro H locs ls hP hD hS hl ol os om
  have hn : n.val < 2 := n.isLt
  refine lv_lconst (v := i64 v) hx hb d ?_ (kk H locs ls hP hD hS hl ol (osc (show _ ∧ _ from ⟨by omega, by omega⟩) os) om)
  subst hv
  first | rfl | (rcases n with ⟨n, hn⟩; match n, hn with | 0, _ => rfl | 1, _ => rfl)
theorem aw_ldc {index : Nat} {v : Int32} {x : Int} (cx : Cx X cc own nL dd) (d : decode cc pc = .ok (.ldc index, 2)) (hw : Cond.constant own index v ∈ WS) (hv : v.toInt = x) (kk : AW X L nL (pc + 2) loc (aI x :: stk) M) : AW X L nL pc loc stk M := by
  obtain ⟨p, l, e, R, s, m, args, below, meth, c, cells, slots, Q, D, ca, ad, A⟩ := X
  obtain ⟨hx, hb, hml, hown, hts, hK, hN, hA, hfr, hlo, hce, hsl⟩ := cx
  intro H locs ls hP hD hS hl ol os om
  refine lv_ldc hx hb hown (hts _ hw) d ?_
  subst hv
  have h := kk H locs ls hP hD hS hl ol (osc (i32_rng v) os) om
  rw [List.map_cons, show cv ad (aI v.toInt) = .int v by show Value.int (i32 v.toInt) = _; rw [i32_of]] at h
  exact h
theorem aw_ldc_w {index : Nat} {v : Int32} {x : Int} (cx : Cx X cc own nL dd) (d : decode cc pc = .ok (.ldc_w index, 3)) (hw : Cond.constant own index v ∈ WS) (hv : v.toInt = x) (kk : AW X L nL (pc + 3) loc (aI x :: stk) M) : AW X L nL pc loc stk M := by
  obtain ⟨p, l, e, R, s, m, args, below, meth, c, cells, slots, Q, D, ca, ad, A⟩ := X
  obtain ⟨hx, hb, hml, hown, hts, hK, hN, hA, hfr, hlo, hce, hsl⟩ := cx
  intro H locs ls hP hD hS hl ol os om
  refine lv_ldcw hx hb hown (hts _ hw) d ?_
  subst hv
  have h := kk H locs ls hP hD hS hl ol (osc (i32_rng v) os) om
  rw [List.map_cons, show cv ad (aI v.toInt) = .int v by show Value.int (i32 v.toInt) = _; rw [i32_of]] at h
  exact h
theorem aw_ldc2 {index : Nat} {v : Int64} {x : Int} (cx : Cx X cc own nL dd) (d : decode cc pc = .ok (.ldc2_w index, 3)) (hw : Cond.constantLong own index v ∈ WS) (hv : v.toInt = x) (kk : AW X L nL (pc + 3) loc (aL x :: stk) M) : AW X L nL pc loc stk M := by
  obtain ⟨p, l, e, R, s, m, args, below, meth, c, cells, slots, Q, D, ca, ad, A⟩ := X
  obtain ⟨hx, hb, hml, hown, hts, hK, hN, hA, hfr, hlo, hce, hsl⟩ := cx
  intro H locs ls hP hD hS hl ol os om
  refine lv_ldc2 hx hb hown (hts _ hw) d ?_
  subst hv
  have h := kk H locs ls hP hD hS hl ol (osc (i64_rng v) os) om
  rw [List.map_cons, show cv ad (aL v.toInt) = .long v by show Value.long (i64 v.toInt) = _; rw [i64_of]] at h
  exact h
theorem aw_iload_n {k4 : Fin 4} {i : Nat} {x : Int} (cx : Cx X cc own nL dd) (d : decode cc pc = .ok (.iload_n k4, 1)) (hi : (k4 : Nat) = i) (k : Nat) (hk : loc[k]? = some (i, aI x)) (kk : AW X L nL (pc + 1) loc (aI x :: stk) M) : AW X L nL pc loc stk M := by
  obtain ⟨p, l, e, R, s, m, args, below, meth, c, cells, slots, Q, D, ca, ad, A⟩ := X
  obtain ⟨hx, hb, hml, hown, hts, hK, hN, hA, hfr, hlo, hce, hsl⟩ := cx
  intro H locs ls hP hD hS hl ol os om
  exact lv_iload_n hx hb d hi (lv_pick_cvl hl k hk) (kk H locs ls hP hD hS hl ol (osc (ol _ (List.mem_of_getElem? hk)) os) om)
theorem aw_iload {i : Nat} {x : Int} (cx : Cx X cc own nL dd) (d : decode cc pc = .ok (.iload i, 2)) (k : Nat) (hk : loc[k]? = some (i, aI x)) (kk : AW X L nL (pc + 2) loc (aI x :: stk) M) : AW X L nL pc loc stk M := by
  obtain ⟨p, l, e, R, s, m, args, below, meth, c, cells, slots, Q, D, ca, ad, A⟩ := X
  obtain ⟨hx, hb, hml, hown, hts, hK, hN, hA, hfr, hlo, hce, hsl⟩ := cx
  intro H locs ls hP hD hS hl ol os om
  exact lv_iload hx hb d (lv_pick_cvl hl k hk) (kk H locs ls hP hD hS hl ol (osc (ol _ (List.mem_of_getElem? hk)) os) om)
theorem aw_lload_n {k4 : Fin 4} {i : Nat} {x : Int} (cx : Cx X cc own nL dd) (d : decode cc pc = .ok (.lload_n k4, 1)) (hi : (k4 : Nat) = i) (k : Nat) (hk : loc[k]? = some (i, aL x)) (kk : AW X L nL (pc + 1) loc (aL x :: stk) M) : AW X L nL pc loc stk M := by
  obtain ⟨p, l, e, R, s, m, args, below, meth, c, cells, slots, Q, D, ca, ad, A⟩ := X
  obtain ⟨hx, hb, hml, hown, hts, hK, hN, hA, hfr, hlo, hce, hsl⟩ := cx
  intro H locs ls hP hD hS hl ol os om
  exact lv_lload_n hx hb d hi (lv_pick_cvl hl k hk) (kk H locs ls hP hD hS hl ol (osc (ol _ (List.mem_of_getElem? hk)) os) om)
theorem aw_lload {i : Nat} {x : Int} (cx : Cx X cc own nL dd) (d : decode cc pc = .ok (.lload i, 2)) (k : Nat) (hk : loc[k]? = some (i, aL x)) (kk : AW X L nL (pc + 2) loc (aL x :: stk) M) : AW X L nL pc loc stk M := by
  obtain ⟨p, l, e, R, s, m, args, below, meth, c, cells, slots, Q, D, ca, ad, A⟩ := X
  obtain ⟨hx, hb, hml, hown, hts, hK, hN, hA, hfr, hlo, hce, hsl⟩ := cx
  intro H locs ls hP hD hS hl ol os om
  exact lv_lload hx hb d (lv_pick_cvl hl k hk) (kk H locs ls hP hD hS hl ol (osc (ol _ (List.mem_of_getElem? hk)) os) om)
theorem aw_aload_n {k4 : Fin 4} {i : Nat} {x : Nat} (cx : Cx X cc own nL dd) (d : decode cc pc = .ok (.aload_n k4, 1)) (hi : (k4 : Nat) = i) (k : Nat) (hk : loc[k]? = some (i, aR x)) (kk : AW X L nL (pc + 1) loc (aR x :: stk) M) : AW X L nL pc loc stk M := by
  obtain ⟨p, l, e, R, s, m, args, below, meth, c, cells, slots, Q, D, ca, ad, A⟩ := X
  obtain ⟨hx, hb, hml, hown, hts, hK, hN, hA, hfr, hlo, hce, hsl⟩ := cx
  intro H locs ls hP hD hS hl ol os om
  exact lv_aload_n hx hb d hi (lv_pick_cvl hl k hk) (kk H locs ls hP hD hS hl ol (osc (ol _ (List.mem_of_getElem? hk)) os) om)
theorem aw_aload {i : Nat} {x : Nat} (cx : Cx X cc own nL dd) (d : decode cc pc = .ok (.aload i, 2)) (k : Nat) (hk : loc[k]? = some (i, aR x)) (kk : AW X L nL (pc + 2) loc (aR x :: stk) M) : AW X L nL pc loc stk M := by
  obtain ⟨p, l, e, R, s, m, args, below, meth, c, cells, slots, Q, D, ca, ad, A⟩ := X
  obtain ⟨hx, hb, hml, hown, hts, hK, hN, hA, hfr, hlo, hce, hsl⟩ := cx
  intro H locs ls hP hD hS hl ol os om
  exact lv_aload hx hb d (lv_pick_cvl hl k hk) (kk H locs ls hP hD hS hl ol (osc (ol _ (List.mem_of_getElem? hk)) os) om)
theorem aw_istore_n {k4 : Fin 4} {i : Nat} {x : Int} {loc2 : List (Nat × AV)} (cx : Cx X cc own nL dd) (d : decode cc pc = .ok (.istore_n k4, 1)) (hi : (k4 : Nat) = i) (hn : i < nL) (hl2 : stI loc i (aI x) = loc2) (kk : AW X L nL (pc + 1) loc2 stk M) : AW X L nL pc loc (aI x :: stk) M := by
  obtain ⟨p, l, e, R, s, m, args, below, meth, c, cells, slots, Q, D, ca, ad, A⟩ := X
  obtain ⟨hx, hb, hml, hown, hts, hK, hN, hA, hfr, hlo, hce, hsl⟩ := cx
  intro H locs ls hP hD hS hl ol os om
  subst hl2
  exact lv_istore_n hx hb d hi hl hn (cvl_stI ad loc i (aI x)) (fun ls hl => kk H locs ls hP hD hS hl (ok_stI ol (os0 os)) (os1 os) om)
theorem aw_istore {i : Nat} {x : Int} {loc2 : List (Nat × AV)} (cx : Cx X cc own nL dd) (d : decode cc pc = .ok (.istore i, 2)) (hn : i < nL) (hl2 : stI loc i (aI x) = loc2) (kk : AW X L nL (pc + 2) loc2 stk M) : AW X L nL pc loc (aI x :: stk) M := by
  obtain ⟨p, l, e, R, s, m, args, below, meth, c, cells, slots, Q, D, ca, ad, A⟩ := X
  obtain ⟨hx, hb, hml, hown, hts, hK, hN, hA, hfr, hlo, hce, hsl⟩ := cx
  intro H locs ls hP hD hS hl ol os om
  subst hl2
  exact lv_istore hx hb d hl hn (cvl_stI ad loc i (aI x)) (fun ls hl => kk H locs ls hP hD hS hl (ok_stI ol (os0 os)) (os1 os) om)
theorem aw_lstore_n {k4 : Fin 4} {i : Nat} {x : Int} {loc2 : List (Nat × AV)} (cx : Cx X cc own nL dd) (d : decode cc pc = .ok (.lstore_n k4, 1)) (hi : (k4 : Nat) = i) (hn : i + 1 < nL) (hl2 : stL loc i (aL x) = loc2) (kk : AW X L nL (pc + 1) loc2 stk M) : AW X L nL pc loc (aL x :: stk) M := by
  obtain ⟨p, l, e, R, s, m, args, below, meth, c, cells, slots, Q, D, ca, ad, A⟩ := X
  obtain ⟨hx, hb, hml, hown, hts, hK, hN, hA, hfr, hlo, hce, hsl⟩ := cx
  intro H locs ls hP hD hS hl ol os om
  subst hl2
  exact lv_lstore_n hx hb d hi hl hn (cvl_stL ad loc i (aL x)) (fun ls hl => kk H locs ls hP hD hS hl (ok_stL ol (os0 os)) (os1 os) om)
theorem aw_lstore {i : Nat} {x : Int} {loc2 : List (Nat × AV)} (cx : Cx X cc own nL dd) (d : decode cc pc = .ok (.lstore i, 2)) (hn : i + 1 < nL) (hl2 : stL loc i (aL x) = loc2) (kk : AW X L nL (pc + 2) loc2 stk M) : AW X L nL pc loc (aL x :: stk) M := by
  obtain ⟨p, l, e, R, s, m, args, below, meth, c, cells, slots, Q, D, ca, ad, A⟩ := X
  obtain ⟨hx, hb, hml, hown, hts, hK, hN, hA, hfr, hlo, hce, hsl⟩ := cx
  intro H locs ls hP hD hS hl ol os om
  subst hl2
  exact lv_lstore hx hb d hl hn (cvl_stL ad loc i (aL x)) (fun ls hl => kk H locs ls hP hD hS hl (ok_stL ol (os0 os)) (os1 os) om)
theorem aw_astore_n {k4 : Fin 4} {i : Nat} {x : Nat} {loc2 : List (Nat × AV)} (cx : Cx X cc own nL dd) (d : decode cc pc = .ok (.astore_n k4, 1)) (hi : (k4 : Nat) = i) (hn : i < nL) (hl2 : stI loc i (aR x) = loc2) (kk : AW X L nL (pc + 1) loc2 stk M) : AW X L nL pc loc (aR x :: stk) M := by
  obtain ⟨p, l, e, R, s, m, args, below, meth, c, cells, slots, Q, D, ca, ad, A⟩ := X
  obtain ⟨hx, hb, hml, hown, hts, hK, hN, hA, hfr, hlo, hce, hsl⟩ := cx
  intro H locs ls hP hD hS hl ol os om
  subst hl2
  exact lv_astore_n hx hb d hi hl hn (cvl_stI ad loc i (aR x)) (fun ls hl => kk H locs ls hP hD hS hl (ok_stI ol (os0 os)) (os1 os) om)
theorem aw_astore {i : Nat} {x : Nat} {loc2 : List (Nat × AV)} (cx : Cx X cc own nL dd) (d : decode cc pc = .ok (.astore i, 2)) (hn : i < nL) (hl2 : stI loc i (aR x) = loc2) (kk : AW X L nL (pc + 2) loc2 stk M) : AW X L nL pc loc (aR x :: stk) M := by
  obtain ⟨p, l, e, R, s, m, args, below, meth, c, cells, slots, Q, D, ca, ad, A⟩ := X
  obtain ⟨hx, hb, hml, hown, hts, hK, hN, hA, hfr, hlo, hce, hsl⟩ := cx
  intro H locs ls hP hD hS hl ol os om
  subst hl2
  exact lv_astore hx hb d hl hn (cvl_stI ad loc i (aR x)) (fun ls hl => kk H locs ls hP hD hS hl (ok_stI ol (os0 os)) (os1 os) om)
theorem aw_iinc {i : Nat} {n x : Int} {loc2 : List (Nat × AV)} (cx : Cx X cc own nL dd) (d : decode cc pc = .ok (.iinc i n, 3)) (k : Nat) (hk : loc[k]? = some (i, aI x)) (hn : i < nL) (hr : -2147483648 ≤ x + n ∧ x + n < 2147483648) (kk : ∀ z, z = x + n → AW X L nL (pc + 3) (stI loc i (aI z)) stk M) : AW X L nL pc loc stk M := by
  obtain ⟨p, l, e, R, s, m, args, below, meth, c, cells, slots, Q, D, ca, ad, A⟩ := X
  obtain ⟨hx, hb, hml, hown, hts, hK, hN, hA, hfr, hlo, hce, hsl⟩ := cx
  intro H locs ls hP hD hS hl ol os om
  have hk2 : (cvl ad loc)[k]? = some (i, .int (i32 x)) := by unfold cvl; rw [List.getElem?_map, hk]; rfl
  refine lv_iinc hx hb d hl (k := k) hk2 (v := i32 (x + n)) (i32_add x n) hn (cvl_stI ad loc i (aI (x + n))) (fun ls hl => kk _ rfl H locs ls hP hD hS hl (ok_stI ol hr) os om)
theorem aw_loc {loc2 : List (Nat × AV)} (h : loc = loc2) (kk : AW X L nL pc loc2 stk M) : AW X L nL pc loc stk M := h ▸ kk
theorem aw_iadd {x y : Int} (cx : Cx X cc own nL dd) (d : decode cc pc = .ok (.iadd, 1)) (hr : -2147483648 ≤ x + y ∧ x + y < 2147483648) (kk : ∀ z, z = x + y → AW X L nL (pc + 1) loc (aI z :: stk) M) : AW X L nL pc loc (aI y :: aI x :: stk) M := by
  obtain ⟨p, l, e, R, s, m, args, below, meth, c, cells, slots, Q, D, ca, ad, A⟩ := X
  obtain ⟨hx, hb, hml, hown, hts, hK, hN, hA, hfr, hlo, hce, hsl⟩ := cx
  intro H locs ls hP hD hS hl ol os om
  refine lv_iadd hx hb d ?_
  rw [i32_add]
  exact kk _ rfl H locs ls hP hD hS hl ol (osc hr (os1 (os1 os))) om
theorem aw_iaddW {x y : Int} (cx : Cx X cc own nL dd) (d : decode cc pc = .ok (.iadd, 1)) (kk : ∀ z, z = wr (x + y) → AW X L nL (pc + 1) loc (aI z :: stk) M) : AW X L nL pc loc (aI y :: aI x :: stk) M := by
  obtain ⟨p, l, e, R, s, m, args, below, meth, c, cells, slots, Q, D, ca, ad, A⟩ := X
  obtain ⟨hx, hb, hml, hown, hts, hK, hN, hA, hfr, hlo, hce, hsl⟩ := cx
  intro H locs ls hP hD hS hl ol os om
  refine lv_iadd hx hb d ?_
  rw [i32_add, ← i32_wr]
  exact kk _ rfl H locs ls hP hD hS hl ol (osc (wr_in _) (os1 (os1 os))) om
theorem aw_isub {x y : Int} (cx : Cx X cc own nL dd) (d : decode cc pc = .ok (.isub, 1)) (hr : -2147483648 ≤ x - y ∧ x - y < 2147483648) (kk : ∀ z, z = x - y → AW X L nL (pc + 1) loc (aI z :: stk) M) : AW X L nL pc loc (aI y :: aI x :: stk) M := by
  obtain ⟨p, l, e, R, s, m, args, below, meth, c, cells, slots, Q, D, ca, ad, A⟩ := X
  obtain ⟨hx, hb, hml, hown, hts, hK, hN, hA, hfr, hlo, hce, hsl⟩ := cx
  intro H locs ls hP hD hS hl ol os om
  refine lv_isub hx hb d ?_
  rw [i32_sub]
  exact kk _ rfl H locs ls hP hD hS hl ol (osc hr (os1 (os1 os))) om
theorem aw_isubW {x y : Int} (cx : Cx X cc own nL dd) (d : decode cc pc = .ok (.isub, 1)) (kk : ∀ z, z = wr (x - y) → AW X L nL (pc + 1) loc (aI z :: stk) M) : AW X L nL pc loc (aI y :: aI x :: stk) M := by
  obtain ⟨p, l, e, R, s, m, args, below, meth, c, cells, slots, Q, D, ca, ad, A⟩ := X
  obtain ⟨hx, hb, hml, hown, hts, hK, hN, hA, hfr, hlo, hce, hsl⟩ := cx
  intro H locs ls hP hD hS hl ol os om
  refine lv_isub hx hb d ?_
  rw [i32_sub, ← i32_wr]
  exact kk _ rfl H locs ls hP hD hS hl ol (osc (wr_in _) (os1 (os1 os))) om
theorem aw_imul {x y : Int} (cx : Cx X cc own nL dd) (d : decode cc pc = .ok (.imul, 1)) (hr : -2147483648 ≤ x * y ∧ x * y < 2147483648) (kk : ∀ z, z = x * y → AW X L nL (pc + 1) loc (aI z :: stk) M) : AW X L nL pc loc (aI y :: aI x :: stk) M := by
  obtain ⟨p, l, e, R, s, m, args, below, meth, c, cells, slots, Q, D, ca, ad, A⟩ := X
  obtain ⟨hx, hb, hml, hown, hts, hK, hN, hA, hfr, hlo, hce, hsl⟩ := cx
  intro H locs ls hP hD hS hl ol os om
  refine lv_imul hx hb d ?_
  rw [i32_mul]
  exact kk _ rfl H locs ls hP hD hS hl ol (osc hr (os1 (os1 os))) om
theorem aw_imulW {x y : Int} (cx : Cx X cc own nL dd) (d : decode cc pc = .ok (.imul, 1)) (kk : ∀ z, z = wr (x * y) → AW X L nL (pc + 1) loc (aI z :: stk) M) : AW X L nL pc loc (aI y :: aI x :: stk) M := by
  obtain ⟨p, l, e, R, s, m, args, below, meth, c, cells, slots, Q, D, ca, ad, A⟩ := X
  obtain ⟨hx, hb, hml, hown, hts, hK, hN, hA, hfr, hlo, hce, hsl⟩ := cx
  intro H locs ls hP hD hS hl ol os om
  refine lv_imul hx hb d ?_
  rw [i32_mul, ← i32_wr]
  exact kk _ rfl H locs ls hP hD hS hl ol (osc (wr_in _) (os1 (os1 os))) om
theorem aw_ladd {x y : Int} (cx : Cx X cc own nL dd) (d : decode cc pc = .ok (.ladd, 1)) (hr : -9223372036854775808 ≤ x + y ∧ x + y < 9223372036854775808) (kk : ∀ z, z = x + y → AW X L nL (pc + 1) loc (aL z :: stk) M) : AW X L nL pc loc (aL y :: aL x :: stk) M := by
  obtain ⟨p, l, e, R, s, m, args, below, meth, c, cells, slots, Q, D, ca, ad, A⟩ := X
  obtain ⟨hx, hb, hml, hown, hts, hK, hN, hA, hfr, hlo, hce, hsl⟩ := cx
  intro H locs ls hP hD hS hl ol os om
  refine lv_ladd hx hb d ?_
  rw [i64_add]
  exact kk _ rfl H locs ls hP hD hS hl ol (osc hr (os1 (os1 os))) om
theorem aw_laddW {x y : Int} (cx : Cx X cc own nL dd) (d : decode cc pc = .ok (.ladd, 1)) (kk : ∀ z, z = wl (x + y) → AW X L nL (pc + 1) loc (aL z :: stk) M) : AW X L nL pc loc (aL y :: aL x :: stk) M := by
  obtain ⟨p, l, e, R, s, m, args, below, meth, c, cells, slots, Q, D, ca, ad, A⟩ := X
  obtain ⟨hx, hb, hml, hown, hts, hK, hN, hA, hfr, hlo, hce, hsl⟩ := cx
  intro H locs ls hP hD hS hl ol os om
  refine lv_ladd hx hb d ?_
  rw [i64_add, ← i64_wl]
  exact kk _ rfl H locs ls hP hD hS hl ol (osc (wl_in _) (os1 (os1 os))) om
theorem aw_lsub {x y : Int} (cx : Cx X cc own nL dd) (d : decode cc pc = .ok (.lsub, 1)) (hr : -9223372036854775808 ≤ x - y ∧ x - y < 9223372036854775808) (kk : ∀ z, z = x - y → AW X L nL (pc + 1) loc (aL z :: stk) M) : AW X L nL pc loc (aL y :: aL x :: stk) M := by
  obtain ⟨p, l, e, R, s, m, args, below, meth, c, cells, slots, Q, D, ca, ad, A⟩ := X
  obtain ⟨hx, hb, hml, hown, hts, hK, hN, hA, hfr, hlo, hce, hsl⟩ := cx
  intro H locs ls hP hD hS hl ol os om
  refine lv_lsub hx hb d ?_
  rw [i64_sub]
  exact kk _ rfl H locs ls hP hD hS hl ol (osc hr (os1 (os1 os))) om
theorem aw_lsubW {x y : Int} (cx : Cx X cc own nL dd) (d : decode cc pc = .ok (.lsub, 1)) (kk : ∀ z, z = wl (x - y) → AW X L nL (pc + 1) loc (aL z :: stk) M) : AW X L nL pc loc (aL y :: aL x :: stk) M := by
  obtain ⟨p, l, e, R, s, m, args, below, meth, c, cells, slots, Q, D, ca, ad, A⟩ := X
  obtain ⟨hx, hb, hml, hown, hts, hK, hN, hA, hfr, hlo, hce, hsl⟩ := cx
  intro H locs ls hP hD hS hl ol os om
  refine lv_lsub hx hb d ?_
  rw [i64_sub, ← i64_wl]
  exact kk _ rfl H locs ls hP hD hS hl ol (osc (wl_in _) (os1 (os1 os))) om
theorem aw_lmul {x y : Int} (cx : Cx X cc own nL dd) (d : decode cc pc = .ok (.lmul, 1)) (hr : -9223372036854775808 ≤ x * y ∧ x * y < 9223372036854775808) (kk : ∀ z, z = x * y → AW X L nL (pc + 1) loc (aL z :: stk) M) : AW X L nL pc loc (aL y :: aL x :: stk) M := by
  obtain ⟨p, l, e, R, s, m, args, below, meth, c, cells, slots, Q, D, ca, ad, A⟩ := X
  obtain ⟨hx, hb, hml, hown, hts, hK, hN, hA, hfr, hlo, hce, hsl⟩ := cx
  intro H locs ls hP hD hS hl ol os om
  refine lv_lmul hx hb d ?_
  rw [i64_mul]
  exact kk _ rfl H locs ls hP hD hS hl ol (osc hr (os1 (os1 os))) om
theorem aw_lmulW {x y : Int} (cx : Cx X cc own nL dd) (d : decode cc pc = .ok (.lmul, 1)) (kk : ∀ z, z = wl (x * y) → AW X L nL (pc + 1) loc (aL z :: stk) M) : AW X L nL pc loc (aL y :: aL x :: stk) M := by
  obtain ⟨p, l, e, R, s, m, args, below, meth, c, cells, slots, Q, D, ca, ad, A⟩ := X
  obtain ⟨hx, hb, hml, hown, hts, hK, hN, hA, hfr, hlo, hce, hsl⟩ := cx
  intro H locs ls hP hD hS hl ol os om
  refine lv_lmul hx hb d ?_
  rw [i64_mul, ← i64_wl]
  exact kk _ rfl H locs ls hP hD hS hl ol (osc (wl_in _) (os1 (os1 os))) om
theorem aw_iand {x y : Int} (cx : Cx X cc own nL dd) (d : decode cc pc = .ok (.iand, 1)) (kk : ∀ z, z = bAnd x y → AW X L nL (pc + 1) loc (aI z :: stk) M) : AW X L nL pc loc (aI y :: aI x :: stk) M := by
  obtain ⟨p, l, e, R, s, m, args, below, meth, c, cells, slots, Q, D, ca, ad, A⟩ := X
  obtain ⟨hx, hb, hml, hown, hts, hK, hN, hA, hfr, hlo, hce, hsl⟩ := cx
  intro H locs ls hP hD hS hl ol os om
  refine lv_iand hx hb d ?_
  rw [show i32 x &&& i32 y = i32 (bAnd x y) from (i32_of _).symm]
  exact kk (bAnd x y) rfl H locs ls hP hD hS hl ol (osc (i32_rng _) (os1 (os1 os))) om
theorem aw_ior {x y : Int} (cx : Cx X cc own nL dd) (d : decode cc pc = .ok (.ior, 1)) (kk : ∀ z, z = bOr x y → AW X L nL (pc + 1) loc (aI z :: stk) M) : AW X L nL pc loc (aI y :: aI x :: stk) M := by
  obtain ⟨p, l, e, R, s, m, args, below, meth, c, cells, slots, Q, D, ca, ad, A⟩ := X
  obtain ⟨hx, hb, hml, hown, hts, hK, hN, hA, hfr, hlo, hce, hsl⟩ := cx
  intro H locs ls hP hD hS hl ol os om
  refine lv_ior hx hb d ?_
  rw [show i32 x ||| i32 y = i32 (bOr x y) from (i32_of _).symm]
  exact kk (bOr x y) rfl H locs ls hP hD hS hl ol (osc (i32_rng _) (os1 (os1 os))) om
theorem aw_ixor {x y : Int} (cx : Cx X cc own nL dd) (d : decode cc pc = .ok (.ixor, 1)) (kk : ∀ z, z = bXor x y → AW X L nL (pc + 1) loc (aI z :: stk) M) : AW X L nL pc loc (aI y :: aI x :: stk) M := by
  obtain ⟨p, l, e, R, s, m, args, below, meth, c, cells, slots, Q, D, ca, ad, A⟩ := X
  obtain ⟨hx, hb, hml, hown, hts, hK, hN, hA, hfr, hlo, hce, hsl⟩ := cx
  intro H locs ls hP hD hS hl ol os om
  refine lv_ixor hx hb d ?_
  rw [show i32 x ^^^ i32 y = i32 (bXor x y) from (i32_of _).symm]
  exact kk (bXor x y) rfl H locs ls hP hD hS hl ol (osc (i32_rng _) (os1 (os1 os))) om
theorem aw_ishl {x y : Int} (cx : Cx X cc own nL dd) (d : decode cc pc = .ok (.ishl, 1)) (kk : ∀ z, z = bShl x y → AW X L nL (pc + 1) loc (aI z :: stk) M) : AW X L nL pc loc (aI y :: aI x :: stk) M := by
  obtain ⟨p, l, e, R, s, m, args, below, meth, c, cells, slots, Q, D, ca, ad, A⟩ := X
  obtain ⟨hx, hb, hml, hown, hts, hK, hN, hA, hfr, hlo, hce, hsl⟩ := cx
  intro H locs ls hP hD hS hl ol os om
  refine lv_ishl hx hb d ?_
  rw [show i32 x <<< (i32 y &&& 31) = i32 (bShl x y) from (i32_of _).symm]
  exact kk (bShl x y) rfl H locs ls hP hD hS hl ol (osc (i32_rng _) (os1 (os1 os))) om
theorem aw_ishr {x y : Int} (cx : Cx X cc own nL dd) (d : decode cc pc = .ok (.ishr, 1)) (kk : ∀ z, z = bShr x y → AW X L nL (pc + 1) loc (aI z :: stk) M) : AW X L nL pc loc (aI y :: aI x :: stk) M := by
  obtain ⟨p, l, e, R, s, m, args, below, meth, c, cells, slots, Q, D, ca, ad, A⟩ := X
  obtain ⟨hx, hb, hml, hown, hts, hK, hN, hA, hfr, hlo, hce, hsl⟩ := cx
  intro H locs ls hP hD hS hl ol os om
  refine lv_ishr hx hb d ?_
  rw [show i32 x >>> (i32 y &&& 31) = i32 (bShr x y) from (i32_of _).symm]
  exact kk (bShr x y) rfl H locs ls hP hD hS hl ol (osc (i32_rng _) (os1 (os1 os))) om
theorem aw_iushr {x y : Int} (cx : Cx X cc own nL dd) (d : decode cc pc = .ok (.iushr, 1)) (kk : ∀ z, z = bUsh x y → AW X L nL (pc + 1) loc (aI z :: stk) M) : AW X L nL pc loc (aI y :: aI x :: stk) M := by
  obtain ⟨p, l, e, R, s, m, args, below, meth, c, cells, slots, Q, D, ca, ad, A⟩ := X
  obtain ⟨hx, hb, hml, hown, hts, hK, hN, hA, hfr, hlo, hce, hsl⟩ := cx
  intro H locs ls hP hD hS hl ol os om
  exact lv_iushr hx hb d (v := i32 (bUsh x y)) (i32_of _).symm (kk (bUsh x y) rfl H locs ls hP hD hS hl ol (osc (i32_rng _) (os1 (os1 os))) om)
theorem aw_land {x y : Int} (cx : Cx X cc own nL dd) (d : decode cc pc = .ok (.land, 1)) (kk : ∀ z, z = lAnd x y → AW X L nL (pc + 1) loc (aL z :: stk) M) : AW X L nL pc loc (aL y :: aL x :: stk) M := by
  obtain ⟨p, l, e, R, s, m, args, below, meth, c, cells, slots, Q, D, ca, ad, A⟩ := X
  obtain ⟨hx, hb, hml, hown, hts, hK, hN, hA, hfr, hlo, hce, hsl⟩ := cx
  intro H locs ls hP hD hS hl ol os om
  refine lv_land hx hb d ?_
  rw [show i64 x &&& i64 y = i64 (lAnd x y) from (i64_of _).symm]
  exact kk (lAnd x y) rfl H locs ls hP hD hS hl ol (osc (i64_rng _) (os1 (os1 os))) om
theorem aw_lshl {x y : Int} (cx : Cx X cc own nL dd) (d : decode cc pc = .ok (.lshl, 1)) (kk : ∀ z, z = lShl x y → AW X L nL (pc + 1) loc (aL z :: stk) M) : AW X L nL pc loc (aI y :: aL x :: stk) M := by
  obtain ⟨p, l, e, R, s, m, args, below, meth, c, cells, slots, Q, D, ca, ad, A⟩ := X
  obtain ⟨hx, hb, hml, hown, hts, hK, hN, hA, hfr, hlo, hce, hsl⟩ := cx
  intro H locs ls hP hD hS hl ol os om
  exact lv_lshl hx hb d (v := i64 (lShl x y)) (i64_of _).symm (kk (lShl x y) rfl H locs ls hP hD hS hl ol (osc (i64_rng _) (os1 (os1 os))) om)
theorem aw_lshr {x y : Int} (cx : Cx X cc own nL dd) (d : decode cc pc = .ok (.lshr, 1)) (kk : ∀ z, z = lShr x y → AW X L nL (pc + 1) loc (aL z :: stk) M) : AW X L nL pc loc (aI y :: aL x :: stk) M := by
  obtain ⟨p, l, e, R, s, m, args, below, meth, c, cells, slots, Q, D, ca, ad, A⟩ := X
  obtain ⟨hx, hb, hml, hown, hts, hK, hN, hA, hfr, hlo, hce, hsl⟩ := cx
  intro H locs ls hP hD hS hl ol os om
  exact lv_lshr hx hb d (v := i64 (lShr x y)) (i64_of _).symm (kk (lShr x y) rfl H locs ls hP hD hS hl ol (osc (i64_rng _) (os1 (os1 os))) om)
theorem aw_ineg {x : Int} (cx : Cx X cc own nL dd) (d : decode cc pc = .ok (.ineg, 1)) (hr : -2147483648 < x) (kk : ∀ z, z = -x → AW X L nL (pc + 1) loc (aI z :: stk) M) : AW X L nL pc loc (aI x :: stk) M := by
  obtain ⟨p, l, e, R, s, m, args, below, meth, c, cells, slots, Q, D, ca, ad, A⟩ := X
  obtain ⟨hx, hb, hml, hown, hts, hK, hN, hA, hfr, hlo, hce, hsl⟩ := cx
  intro H locs ls hP hD hS hl ol os om
  have hx0 : okV (aI x) := os0 os
  have h0 := hx0.1
  have h1 := hx0.2
  refine lv_ineg hx hb d ?_
  first
    | rw [show (0 : Int32) - i32 x = i32 (-x) by rw [← i32_0, i32_sub, Int.zero_sub]]
    | rw [show -(i32 x) = i32 (-x) from (Int32.ofInt_neg x).symm]
  exact kk _ rfl H locs ls hP hD hS hl ol (osc (show _ ∧ _ from ⟨by omega, by omega⟩) (os1 os)) om
theorem aw_i2l {x : Int} (cx : Cx X cc own nL dd) (d : decode cc pc = .ok (.i2l, 1)) (kk : AW X L nL (pc + 1) loc (aL x :: stk) M) : AW X L nL pc loc (aI x :: stk) M := by
  obtain ⟨p, l, e, R, s, m, args, below, meth, c, cells, slots, Q, D, ca, ad, A⟩ := X
  obtain ⟨hx, hb, hml, hown, hts, hK, hN, hA, hfr, hlo, hce, hsl⟩ := cx
  intro H locs ls hP hD hS hl ol os om
  have hx0 : okV (aI x) := os0 os
  have h0 := hx0.1
  have h1 := hx0.2
  refine lv_i2l hx hb d (v := i64 x) ?_ (kk H locs ls hP hD hS hl ol (osc (show _ ∧ _ from ⟨by omega, by omega⟩) (os1 os)) om)
  rw [← Int64.toInt_inj, Int32.toInt_toInt64, i32_id hx0, i64_id ⟨by omega, by omega⟩]
theorem aw_i2b {x : Int} (cx : Cx X cc own nL dd) (d : decode cc pc = .ok (.i2b, 1)) (kk : ∀ z, z = toB x → AW X L nL (pc + 1) loc (aI z :: stk) M) : AW X L nL pc loc (aI x :: stk) M := by
  obtain ⟨p, l, e, R, s, m, args, below, meth, c, cells, slots, Q, D, ca, ad, A⟩ := X
  obtain ⟨hx, hb, hml, hown, hts, hK, hN, hA, hfr, hlo, hce, hsl⟩ := cx
  intro H locs ls hP hD hS hl ol os om
  exact lv_i2b hx hb d (v := i32 (toB x)) (i32_of _).symm (kk (toB x) rfl H locs ls hP hD hS hl ol (osc (i32_rng _) (os1 os)) om)
theorem aw_i2s {x : Int} (cx : Cx X cc own nL dd) (d : decode cc pc = .ok (.i2s, 1)) (kk : ∀ z, z = toS x → AW X L nL (pc + 1) loc (aI z :: stk) M) : AW X L nL pc loc (aI x :: stk) M := by
  obtain ⟨p, l, e, R, s, m, args, below, meth, c, cells, slots, Q, D, ca, ad, A⟩ := X
  obtain ⟨hx, hb, hml, hown, hts, hK, hN, hA, hfr, hlo, hce, hsl⟩ := cx
  intro H locs ls hP hD hS hl ol os om
  exact lv_i2s hx hb d (v := i32 (toS x)) (i32_of _).symm (kk (toS x) rfl H locs ls hP hD hS hl ol (osc (i32_rng _) (os1 os)) om)
theorem aw_idiv {x y : Int} (cx : Cx X cc own nL dd) (d : decode cc pc = .ok (.idiv, 1)) (h0 : 0 ≤ x) (hy : 0 < y) (kk : ∀ z, z = x / y → AW X L nL (pc + 1) loc (aI z :: stk) M) : AW X L nL pc loc (aI y :: aI x :: stk) M := by
  obtain ⟨p, l, e, R, s, m, args, below, meth, c, cells, slots, Q, D, ca, ad, A⟩ := X
  obtain ⟨hx, hb, hml, hown, hts, hK, hN, hA, hfr, hlo, hce, hsl⟩ := cx
  intro H locs ls hP hD hS hl ol os om
  have hyr : okV (aI y) := os0 os
  have hxr : okV (aI x) := os0 (os1 os)
  have hx1 := hxr.2
  have hy1 := hyr.2
  have hne : ¬ i32 y = 0 := by
    rw [← i32_0, i32_eq hyr ⟨by omega, by omega⟩]
    omega
  have hd0 : 0 ≤ x / y := Int.ediv_nonneg h0 (by omega)
  have hd1 : x / y ≤ x := Int.ediv_le_self y h0
  have hb2 : (x / y).bmod 4294967296 = x / y := by
    rw [Int.bmod_def]
    split <;> omega
  have hq : i32 x / i32 y = i32 (x / y) := by
    rw [← Int32.toInt_inj, Int32.toInt_div, i32_id hxr, i32_id hyr, i32_id ⟨by omega, by omega⟩, Int.tdiv_eq_ediv_of_nonneg h0]
    exact hb2
  refine lv_idiv hx hb d hne ?_
  rw [hq]
  exact kk _ rfl H locs ls hP hD hS hl ol (osc (show _ ∧ _ from ⟨by omega, by omega⟩) (os1 (os1 os))) om
theorem aw_ldiv {x y : Int} (cx : Cx X cc own nL dd) (d : decode cc pc = .ok (.ldiv, 1)) (h0 : 0 ≤ x) (hy : 0 < y) (kk : ∀ z, z = x / y → AW X L nL (pc + 1) loc (aL z :: stk) M) : AW X L nL pc loc (aL y :: aL x :: stk) M := by
  obtain ⟨p, l, e, R, s, m, args, below, meth, c, cells, slots, Q, D, ca, ad, A⟩ := X
  obtain ⟨hx, hb, hml, hown, hts, hK, hN, hA, hfr, hlo, hce, hsl⟩ := cx
  intro H locs ls hP hD hS hl ol os om
  have hyr : okV (aL y) := os0 os
  have hxr : okV (aL x) := os0 (os1 os)
  have hx1 := hxr.2
  have hy1 := hyr.2
  have hne : ¬ i64 y = 0 := by
    rw [← i64_0, i64_eq hyr ⟨by omega, by omega⟩]
    omega
  have hd0 : 0 ≤ x / y := Int.ediv_nonneg h0 (by omega)
  have hd1 : x / y ≤ x := Int.ediv_le_self y h0
  have hb2 : (x / y).bmod 18446744073709551616 = x / y := by
    rw [Int.bmod_def]
    split <;> omega
  have hq : i64 x / i64 y = i64 (x / y) := by
    rw [← Int64.toInt_inj, Int64.toInt_div, i64_id hxr, i64_id hyr, i64_id ⟨by omega, by omega⟩, Int.tdiv_eq_ediv_of_nonneg h0]
    exact hb2
  refine lv_ldiv hx hb d hne ?_
  rw [hq]
  exact kk _ rfl H locs ls hP hD hS hl ol (osc (show _ ∧ _ from ⟨by omega, by omega⟩) (os1 (os1 os))) om
theorem aw_irem {x y : Int} (cx : Cx X cc own nL dd) (d : decode cc pc = .ok (.irem, 1)) (h0 : 0 ≤ x) (hy : 0 < y) (kk : ∀ z, z = x % y → AW X L nL (pc + 1) loc (aI z :: stk) M) : AW X L nL pc loc (aI y :: aI x :: stk) M := by
  obtain ⟨p, l, e, R, s, m, args, below, meth, c, cells, slots, Q, D, ca, ad, A⟩ := X
  obtain ⟨hx, hb, hml, hown, hts, hK, hN, hA, hfr, hlo, hce, hsl⟩ := cx
  intro H locs ls hP hD hS hl ol os om
  have hyr : okV (aI y) := os0 os
  have hxr : okV (aI x) := os0 (os1 os)
  have hx1 := hxr.2
  have hy1 := hyr.2
  have hne : ¬ i32 y = 0 := by
    rw [← i32_0, i32_eq hyr ⟨by omega, by omega⟩]
    omega
  have hd0 : 0 ≤ x / y := Int.ediv_nonneg h0 (by omega)
  have hd1 : x / y ≤ x := Int.ediv_le_self y h0
  have hb2 : (x / y).bmod 4294967296 = x / y := by
    rw [Int.bmod_def]
    split <;> omega
  have hq : i32 x / i32 y = i32 (x / y) := by
    rw [← Int32.toInt_inj, Int32.toInt_div, i32_id hxr, i32_id hyr, i32_id ⟨by omega, by omega⟩, Int.tdiv_eq_ediv_of_nonneg h0]
    exact hb2
  refine lv_irem hx hb d hne ?_
  have hm0 : 0 ≤ x % y := Int.emod_nonneg x (by omega)
  have hm1 : x % y < y := Int.emod_lt_of_pos x hy
  rw [hq, i32_mul, i32_sub, show x - x / y * y = x % y by rw [Int.emod_def, Int.mul_comm]]
  exact kk _ rfl H locs ls hP hD hS hl ol (osc (show _ ∧ _ from ⟨by omega, by omega⟩) (os1 (os1 os))) om
theorem aw_lrem {x y : Int} (cx : Cx X cc own nL dd) (d : decode cc pc = .ok (.lrem, 1)) (h0 : 0 ≤ x) (hy : 0 < y) (kk : ∀ z, z = x % y → AW X L nL (pc + 1) loc (aL z :: stk) M) : AW X L nL pc loc (aL y :: aL x :: stk) M := by
  obtain ⟨p, l, e, R, s, m, args, below, meth, c, cells, slots, Q, D, ca, ad, A⟩ := X
  obtain ⟨hx, hb, hml, hown, hts, hK, hN, hA, hfr, hlo, hce, hsl⟩ := cx
  intro H locs ls hP hD hS hl ol os om
  have hyr : okV (aL y) := os0 os
  have hxr : okV (aL x) := os0 (os1 os)
  have hx1 := hxr.2
  have hy1 := hyr.2
  have hne : ¬ i64 y = 0 := by
    rw [← i64_0, i64_eq hyr ⟨by omega, by omega⟩]
    omega
  have hd0 : 0 ≤ x / y := Int.ediv_nonneg h0 (by omega)
  have hd1 : x / y ≤ x := Int.ediv_le_self y h0
  have hb2 : (x / y).bmod 18446744073709551616 = x / y := by
    rw [Int.bmod_def]
    split <;> omega
  have hq : i64 x / i64 y = i64 (x / y) := by
    rw [← Int64.toInt_inj, Int64.toInt_div, i64_id hxr, i64_id hyr, i64_id ⟨by omega, by omega⟩, Int.tdiv_eq_ediv_of_nonneg h0]
    exact hb2
  refine lv_lrem hx hb d hne ?_
  have hm0 : 0 ≤ x % y := Int.emod_nonneg x (by omega)
  have hm1 : x % y < y := Int.emod_lt_of_pos x hy
  rw [hq, i64_mul, i64_sub, show x - x / y * y = x % y by rw [Int.emod_def, Int.mul_comm]]
  exact kk _ rfl H locs ls hP hD hS hl ol (osc (show _ ∧ _ from ⟨by omega, by omega⟩) (os1 (os1 os))) om
theorem aw_dup {v : AV} (cx : Cx X cc own nL dd) (d : decode cc pc = .ok (.dup, 1)) (hc : ctV v = 1) (kk : AW X L nL (pc + 1) loc (v :: v :: stk) M) : AW X L nL pc loc (v :: stk) M := by
  obtain ⟨p, l, e, R, s, m, args, below, meth, c, cells, slots, Q, D, ca, ad, A⟩ := X
  obtain ⟨hx, hb, hml, hown, hts, hK, hN, hA, hfr, hlo, hce, hsl⟩ := cx
  intro H locs ls hP hD hS hl ol os om
  exact lv_dup hx hb d ((ctV_cv ad v).trans hc) (kk H locs ls hP hD hS hl ol (osc (os0 os) os) om)
theorem aw_dup2 {v w : AV} (cx : Cx X cc own nL dd) (d : decode cc pc = .ok (.dup2, 1)) (hc : ctV v = 1) (hc2 : ctV w = 1) (kk : AW X L nL (pc + 1) loc (v :: w :: v :: w :: stk) M) : AW X L nL pc loc (v :: w :: stk) M := by
  obtain ⟨p, l, e, R, s, m, args, below, meth, c, cells, slots, Q, D, ca, ad, A⟩ := X
  obtain ⟨hx, hb, hml, hown, hts, hK, hN, hA, hfr, hlo, hce, hsl⟩ := cx
  intro H locs ls hP hD hS hl ol os om
  exact lv_dup2_11 hx hb d ((ctV_cv ad v).trans hc) ((ctV_cv ad w).trans hc2) (kk H locs ls hP hD hS hl ol (osc (os0 os) (osc (os0 (os1 os)) os)) om)
theorem aw_if_eq {x off : Int} {tgt : Nat} (cx : Cx X cc own nL dd) (d : decode cc pc = .ok (.ifCond .eq off, 3)) (ht : (pc : Int) + off = (tgt : Int)) (kt : x = 0 → AW X L nL tgt loc stk M) (kf : ¬ x = 0 → AW X L nL (pc + 3) loc stk M) : AW X L nL pc loc (aI x :: stk) M := by
  obtain ⟨p, l, e, R, s, m, args, below, meth, c, cells, slots, Q, D, ca, ad, A⟩ := X
  obtain ⟨hx, hb, hml, hown, hts, hK, hN, hA, hfr, hlo, hce, hsl⟩ := cx
  intro H locs ls hP hD hS hl ol os om
  have hr : okV (aI x) := os0 os
  have zz : -2147483648 ≤ (0 : Int) ∧ (0 : Int) < 2147483648 := ⟨by omega, by omega⟩
  refine lv_if_eq hx hb d ht (fun h => ?_) (fun h => ?_)
  · rw [← i32_0, i32_eq hr zz] at h
    exact kt h H locs ls hP hD hS hl ol (os1 os) om
  · rw [← i32_0, i32_eq hr zz] at h
    exact kf h H locs ls hP hD hS hl ol (os1 os) om
theorem aw_if_ne {x off : Int} {tgt : Nat} (cx : Cx X cc own nL dd) (d : decode cc pc = .ok (.ifCond .ne off, 3)) (ht : (pc : Int) + off = (tgt : Int)) (kt : ¬ x = 0 → AW X L nL tgt loc stk M) (kf : x = 0 → AW X L nL (pc + 3) loc stk M) : AW X L nL pc loc (aI x :: stk) M := by
  obtain ⟨p, l, e, R, s, m, args, below, meth, c, cells, slots, Q, D, ca, ad, A⟩ := X
  obtain ⟨hx, hb, hml, hown, hts, hK, hN, hA, hfr, hlo, hce, hsl⟩ := cx
  intro H locs ls hP hD hS hl ol os om
  have hr : okV (aI x) := os0 os
  have zz : -2147483648 ≤ (0 : Int) ∧ (0 : Int) < 2147483648 := ⟨by omega, by omega⟩
  refine lv_if_ne hx hb d ht (fun h => ?_) (fun h => ?_)
  · rw [← i32_0, i32_eq hr zz] at h
    exact kt h H locs ls hP hD hS hl ol (os1 os) om
  · rw [← i32_0, i32_eq hr zz] at h
    exact kf h H locs ls hP hD hS hl ol (os1 os) om
theorem aw_if_lt {x off : Int} {tgt : Nat} (cx : Cx X cc own nL dd) (d : decode cc pc = .ok (.ifCond .lt off, 3)) (ht : (pc : Int) + off = (tgt : Int)) (kt : x < 0 → AW X L nL tgt loc stk M) (kf : ¬ x < 0 → AW X L nL (pc + 3) loc stk M) : AW X L nL pc loc (aI x :: stk) M := by
  obtain ⟨p, l, e, R, s, m, args, below, meth, c, cells, slots, Q, D, ca, ad, A⟩ := X
  obtain ⟨hx, hb, hml, hown, hts, hK, hN, hA, hfr, hlo, hce, hsl⟩ := cx
  intro H locs ls hP hD hS hl ol os om
  have hr : okV (aI x) := os0 os
  have zz : -2147483648 ≤ (0 : Int) ∧ (0 : Int) < 2147483648 := ⟨by omega, by omega⟩
  refine lv_if_lt hx hb d ht (fun h => ?_) (fun h => ?_)
  · rw [← i32_0, i32_lt hr zz] at h
    exact kt h H locs ls hP hD hS hl ol (os1 os) om
  · rw [← i32_0, i32_lt hr zz] at h
    exact kf h H locs ls hP hD hS hl ol (os1 os) om
theorem aw_if_ge {x off : Int} {tgt : Nat} (cx : Cx X cc own nL dd) (d : decode cc pc = .ok (.ifCond .ge off, 3)) (ht : (pc : Int) + off = (tgt : Int)) (kt : 0 ≤ x → AW X L nL tgt loc stk M) (kf : ¬ 0 ≤ x → AW X L nL (pc + 3) loc stk M) : AW X L nL pc loc (aI x :: stk) M := by
  obtain ⟨p, l, e, R, s, m, args, below, meth, c, cells, slots, Q, D, ca, ad, A⟩ := X
  obtain ⟨hx, hb, hml, hown, hts, hK, hN, hA, hfr, hlo, hce, hsl⟩ := cx
  intro H locs ls hP hD hS hl ol os om
  have hr : okV (aI x) := os0 os
  have zz : -2147483648 ≤ (0 : Int) ∧ (0 : Int) < 2147483648 := ⟨by omega, by omega⟩
  refine lv_if_ge hx hb d ht (fun h => ?_) (fun h => ?_)
  · rw [← i32_0, i32_le zz hr] at h
    exact kt h H locs ls hP hD hS hl ol (os1 os) om
  · rw [← i32_0, i32_le zz hr] at h
    exact kf h H locs ls hP hD hS hl ol (os1 os) om
theorem aw_if_gt {x off : Int} {tgt : Nat} (cx : Cx X cc own nL dd) (d : decode cc pc = .ok (.ifCond .gt off, 3)) (ht : (pc : Int) + off = (tgt : Int)) (kt : 0 < x → AW X L nL tgt loc stk M) (kf : ¬ 0 < x → AW X L nL (pc + 3) loc stk M) : AW X L nL pc loc (aI x :: stk) M := by
  obtain ⟨p, l, e, R, s, m, args, below, meth, c, cells, slots, Q, D, ca, ad, A⟩ := X
  obtain ⟨hx, hb, hml, hown, hts, hK, hN, hA, hfr, hlo, hce, hsl⟩ := cx
  intro H locs ls hP hD hS hl ol os om
  have hr : okV (aI x) := os0 os
  have zz : -2147483648 ≤ (0 : Int) ∧ (0 : Int) < 2147483648 := ⟨by omega, by omega⟩
  refine lv_if_gt hx hb d ht (fun h => ?_) (fun h => ?_)
  · rw [← i32_0, i32_lt zz hr] at h
    exact kt h H locs ls hP hD hS hl ol (os1 os) om
  · rw [← i32_0, i32_lt zz hr] at h
    exact kf h H locs ls hP hD hS hl ol (os1 os) om
theorem aw_if_le {x off : Int} {tgt : Nat} (cx : Cx X cc own nL dd) (d : decode cc pc = .ok (.ifCond .le off, 3)) (ht : (pc : Int) + off = (tgt : Int)) (kt : x ≤ 0 → AW X L nL tgt loc stk M) (kf : ¬ x ≤ 0 → AW X L nL (pc + 3) loc stk M) : AW X L nL pc loc (aI x :: stk) M := by
  obtain ⟨p, l, e, R, s, m, args, below, meth, c, cells, slots, Q, D, ca, ad, A⟩ := X
  obtain ⟨hx, hb, hml, hown, hts, hK, hN, hA, hfr, hlo, hce, hsl⟩ := cx
  intro H locs ls hP hD hS hl ol os om
  have hr : okV (aI x) := os0 os
  have zz : -2147483648 ≤ (0 : Int) ∧ (0 : Int) < 2147483648 := ⟨by omega, by omega⟩
  refine lv_if_le hx hb d ht (fun h => ?_) (fun h => ?_)
  · rw [← i32_0, i32_le hr zz] at h
    exact kt h H locs ls hP hD hS hl ol (os1 os) om
  · rw [← i32_0, i32_le hr zz] at h
    exact kf h H locs ls hP hD hS hl ol (os1 os) om
theorem aw_icmp_eq {x y off : Int} {tgt : Nat} (cx : Cx X cc own nL dd) (d : decode cc pc = .ok (.if_icmp .eq off, 3)) (ht : (pc : Int) + off = (tgt : Int)) (kt : x = y → AW X L nL tgt loc stk M) (kf : ¬ x = y → AW X L nL (pc + 3) loc stk M) : AW X L nL pc loc (aI y :: aI x :: stk) M := by
  obtain ⟨p, l, e, R, s, m, args, below, meth, c, cells, slots, Q, D, ca, ad, A⟩ := X
  obtain ⟨hx, hb, hml, hown, hts, hK, hN, hA, hfr, hlo, hce, hsl⟩ := cx
  intro H locs ls hP hD hS hl ol os om
  have hq : okV (aI y) := os0 os
  have hr : okV (aI x) := os0 (os1 os)
  refine lv_icmp_eq hx hb d ht (fun h => ?_) (fun h => ?_)
  · rw [i32_eq hr hq] at h
    exact kt h H locs ls hP hD hS hl ol (os1 (os1 os)) om
  · rw [i32_eq hr hq] at h
    exact kf h H locs ls hP hD hS hl ol (os1 (os1 os)) om
theorem aw_icmp_ne {x y off : Int} {tgt : Nat} (cx : Cx X cc own nL dd) (d : decode cc pc = .ok (.if_icmp .ne off, 3)) (ht : (pc : Int) + off = (tgt : Int)) (kt : ¬ x = y → AW X L nL tgt loc stk M) (kf : x = y → AW X L nL (pc + 3) loc stk M) : AW X L nL pc loc (aI y :: aI x :: stk) M := by
  obtain ⟨p, l, e, R, s, m, args, below, meth, c, cells, slots, Q, D, ca, ad, A⟩ := X
  obtain ⟨hx, hb, hml, hown, hts, hK, hN, hA, hfr, hlo, hce, hsl⟩ := cx
  intro H locs ls hP hD hS hl ol os om
  have hq : okV (aI y) := os0 os
  have hr : okV (aI x) := os0 (os1 os)
  refine lv_icmp_ne hx hb d ht (fun h => ?_) (fun h => ?_)
  · rw [i32_eq hr hq] at h
    exact kt h H locs ls hP hD hS hl ol (os1 (os1 os)) om
  · rw [i32_eq hr hq] at h
    exact kf h H locs ls hP hD hS hl ol (os1 (os1 os)) om
theorem aw_icmp_lt {x y off : Int} {tgt : Nat} (cx : Cx X cc own nL dd) (d : decode cc pc = .ok (.if_icmp .lt off, 3)) (ht : (pc : Int) + off = (tgt : Int)) (kt : x < y → AW X L nL tgt loc stk M) (kf : ¬ x < y → AW X L nL (pc + 3) loc stk M) : AW X L nL pc loc (aI y :: aI x :: stk) M := by
  obtain ⟨p, l, e, R, s, m, args, below, meth, c, cells, slots, Q, D, ca, ad, A⟩ := X
  obtain ⟨hx, hb, hml, hown, hts, hK, hN, hA, hfr, hlo, hce, hsl⟩ := cx
  intro H locs ls hP hD hS hl ol os om
  have hq : okV (aI y) := os0 os
  have hr : okV (aI x) := os0 (os1 os)
  refine lv_icmp_lt hx hb d ht (fun h => ?_) (fun h => ?_)
  · rw [i32_lt hr hq] at h
    exact kt h H locs ls hP hD hS hl ol (os1 (os1 os)) om
  · rw [i32_lt hr hq] at h
    exact kf h H locs ls hP hD hS hl ol (os1 (os1 os)) om
theorem aw_icmp_ge {x y off : Int} {tgt : Nat} (cx : Cx X cc own nL dd) (d : decode cc pc = .ok (.if_icmp .ge off, 3)) (ht : (pc : Int) + off = (tgt : Int)) (kt : y ≤ x → AW X L nL tgt loc stk M) (kf : ¬ y ≤ x → AW X L nL (pc + 3) loc stk M) : AW X L nL pc loc (aI y :: aI x :: stk) M := by
  obtain ⟨p, l, e, R, s, m, args, below, meth, c, cells, slots, Q, D, ca, ad, A⟩ := X
  obtain ⟨hx, hb, hml, hown, hts, hK, hN, hA, hfr, hlo, hce, hsl⟩ := cx
  intro H locs ls hP hD hS hl ol os om
  have hq : okV (aI y) := os0 os
  have hr : okV (aI x) := os0 (os1 os)
  refine lv_icmp_ge hx hb d ht (fun h => ?_) (fun h => ?_)
  · rw [i32_le hq hr] at h
    exact kt h H locs ls hP hD hS hl ol (os1 (os1 os)) om
  · rw [i32_le hq hr] at h
    exact kf h H locs ls hP hD hS hl ol (os1 (os1 os)) om
theorem aw_icmp_gt {x y off : Int} {tgt : Nat} (cx : Cx X cc own nL dd) (d : decode cc pc = .ok (.if_icmp .gt off, 3)) (ht : (pc : Int) + off = (tgt : Int)) (kt : y < x → AW X L nL tgt loc stk M) (kf : ¬ y < x → AW X L nL (pc + 3) loc stk M) : AW X L nL pc loc (aI y :: aI x :: stk) M := by
  obtain ⟨p, l, e, R, s, m, args, below, meth, c, cells, slots, Q, D, ca, ad, A⟩ := X
  obtain ⟨hx, hb, hml, hown, hts, hK, hN, hA, hfr, hlo, hce, hsl⟩ := cx
  intro H locs ls hP hD hS hl ol os om
  have hq : okV (aI y) := os0 os
  have hr : okV (aI x) := os0 (os1 os)
  refine lv_icmp_gt hx hb d ht (fun h => ?_) (fun h => ?_)
  · rw [i32_lt hq hr] at h
    exact kt h H locs ls hP hD hS hl ol (os1 (os1 os)) om
  · rw [i32_lt hq hr] at h
    exact kf h H locs ls hP hD hS hl ol (os1 (os1 os)) om
theorem aw_icmp_le {x y off : Int} {tgt : Nat} (cx : Cx X cc own nL dd) (d : decode cc pc = .ok (.if_icmp .le off, 3)) (ht : (pc : Int) + off = (tgt : Int)) (kt : x ≤ y → AW X L nL tgt loc stk M) (kf : ¬ x ≤ y → AW X L nL (pc + 3) loc stk M) : AW X L nL pc loc (aI y :: aI x :: stk) M := by
  obtain ⟨p, l, e, R, s, m, args, below, meth, c, cells, slots, Q, D, ca, ad, A⟩ := X
  obtain ⟨hx, hb, hml, hown, hts, hK, hN, hA, hfr, hlo, hce, hsl⟩ := cx
  intro H locs ls hP hD hS hl ol os om
  have hq : okV (aI y) := os0 os
  have hr : okV (aI x) := os0 (os1 os)
  refine lv_icmp_le hx hb d ht (fun h => ?_) (fun h => ?_)
  · rw [i32_le hr hq] at h
    exact kt h H locs ls hP hD hS hl ol (os1 (os1 os)) om
  · rw [i32_le hr hq] at h
    exact kf h H locs ls hP hD hS hl ol (os1 (os1 os)) om
theorem aw_goto {off : Int} {tgt : Nat} (cx : Cx X cc own nL dd) (d : decode cc pc = .ok (.goto off, 3)) (ht : (pc : Int) + off = (tgt : Int)) (kk : AW X L nL tgt loc stk M) : AW X L nL pc loc stk M := by
  obtain ⟨p, l, e, R, s, m, args, below, meth, c, cells, slots, Q, D, ca, ad, A⟩ := X
  obtain ⟨hx, hb, hml, hown, hts, hK, hN, hA, hfr, hlo, hce, hsl⟩ := cx
  intro H locs ls hP hD hS hl ol os om
  exact lv_goto hx hb d ht (kk H locs ls hP hD hS hl ol os om)
theorem aw_tabOut {dflt lo hi x : Int} {offs : Array Int} {len tgt : Nat} (cx : Cx X cc own nL dd) (d : decode cc pc = .ok (.tableswitch dflt lo hi offs, len)) (h : x < lo ∨ hi < x) (ht : (pc : Int) + dflt = (tgt : Int)) (kk : AW X L nL tgt loc stk M) : AW X L nL pc loc (aI x :: stk) M := by
  obtain ⟨p, l, e, R, s, m, args, below, meth, c, cells, slots, Q, D, ca, ad, A⟩ := X
  obtain ⟨hx, hb, hml, hown, hts, hK, hN, hA, hfr, hlo, hce, hsl⟩ := cx
  intro H locs ls hP hD hS hl ol os om
  exact lv_tableOut hx hb d (by rw [i32_id (os0 os)]; exact h) ht (kk H locs ls hP hD hS hl ol (os1 os) om)
theorem aw_tabIn {dflt lo hi x off : Int} {offs : Array Int} {len tgt : Nat} (cx : Cx X cc own nL dd) (d : decode cc pc = .ok (.tableswitch dflt lo hi offs, len)) (h1 : lo ≤ x) (h2 : x ≤ hi) (ho : offs[(x - lo).toNat]? = some off) (ht : (pc : Int) + off = (tgt : Int)) (kk : AW X L nL tgt loc stk M) : AW X L nL pc loc (aI x :: stk) M := by
  obtain ⟨p, l, e, R, s, m, args, below, meth, c, cells, slots, Q, D, ca, ad, A⟩ := X
  obtain ⟨hx, hb, hml, hown, hts, hK, hN, hA, hfr, hlo, hce, hsl⟩ := cx
  intro H locs ls hP hD hS hl ol os om
  exact lv_tableIn hx hb d (by rw [i32_id (os0 os)]; omega) (by rw [i32_id (os0 os)]; omega) (by rw [i32_id (os0 os)]; exact ho) ht (kk H locs ls hP hD hS hl ol (os1 os) om)
theorem aw_lookup {dflt x off : Int} {ps : Array (Int × Int)} {len tgt : Nat} (cx : Cx X cc own nL dd) (d : decode cc pc = .ok (.lookupswitch dflt ps, len)) (hp : (ps.toList.zip (ps.toList.drop 1)).all (fun (a, next) => a.1 < next.1) = true) (ho : Op.lookupswitch.offset ps.toList dflt x = off) (ht : (pc : Int) + off = (tgt : Int)) (kk : AW X L nL tgt loc stk M) : AW X L nL pc loc (aI x :: stk) M := by
  obtain ⟨p, l, e, R, s, m, args, below, meth, c, cells, slots, Q, D, ca, ad, A⟩ := X
  obtain ⟨hx, hb, hml, hown, hts, hK, hN, hA, hfr, hlo, hce, hsl⟩ := cx
  intro H locs ls hP hD hS hl ol os om
  exact lv_lookup hx hb d hp (by rw [i32_id (os0 os)]; exact ho) ht (kk H locs ls hP hD hS hl ol (os1 os) om)
theorem aw_ifnull {k : Nat} {off : Int} (cx : Cx X cc own nL dd) (d : decode cc pc = .ok (.ifnull off, 3)) (kk : AW X L nL (pc + 3) loc stk M) : AW X L nL pc loc (aR k :: stk) M := by
  obtain ⟨p, l, e, R, s, m, args, below, meth, c, cells, slots, Q, D, ca, ad, A⟩ := X
  obtain ⟨hx, hb, hml, hown, hts, hK, hN, hA, hfr, hlo, hce, hsl⟩ := cx
  intro H locs ls hP hD hS hl ol os om
  exact lv_ifnull hx hb d (kk H locs ls hP hD hS hl ol (os1 os) om)
theorem aw_ifnullN {off : Int} {tgt : Nat} (cx : Cx X cc own nL dd) (d : decode cc pc = .ok (.ifnull off, 3)) (ht : (pc : Int) + off = (tgt : Int)) (kk : AW X L nL tgt loc stk M) : AW X L nL pc loc (aN :: stk) M := by
  obtain ⟨p, l, e, R, s, m, args, below, meth, c, cells, slots, Q, D, ca, ad, A⟩ := X
  obtain ⟨hx, hb, hml, hown, hts, hK, hN, hA, hfr, hlo, hce, hsl⟩ := cx
  intro H locs ls hP hD hS hl ol os om
  exact lv_ifnullN hx hb d ht (kk H locs ls hP hD hS hl ol (os1 os) om)
theorem aw_ifnonnull {k : Nat} {off : Int} {tgt : Nat} (cx : Cx X cc own nL dd) (d : decode cc pc = .ok (.ifnonnull off, 3)) (ht : (pc : Int) + off = (tgt : Int)) (kk : AW X L nL tgt loc stk M) : AW X L nL pc loc (aR k :: stk) M := by
  obtain ⟨p, l, e, R, s, m, args, below, meth, c, cells, slots, Q, D, ca, ad, A⟩ := X
  obtain ⟨hx, hb, hml, hown, hts, hK, hN, hA, hfr, hlo, hce, hsl⟩ := cx
  intro H locs ls hP hD hS hl ol os om
  exact lv_ifnonnull hx hb d ht (kk H locs ls hP hD hS hl ol (os1 os) om)
theorem aw_ifnonnullN {off : Int} (cx : Cx X cc own nL dd) (d : decode cc pc = .ok (.ifnonnull off, 3)) (kk : AW X L nL (pc + 3) loc stk M) : AW X L nL pc loc (aN :: stk) M := by
  obtain ⟨p, l, e, R, s, m, args, below, meth, c, cells, slots, Q, D, ca, ad, A⟩ := X
  obtain ⟨hx, hb, hml, hown, hts, hK, hN, hA, hfr, hlo, hce, hsl⟩ := cx
  intro H locs ls hP hD hS hl ol os om
  exact lv_ifnonnullN hx hb d (kk H locs ls hP hD hS hl ol (os1 os) om)
theorem aw_null (cx : Cx X cc own nL dd) (d : decode cc pc = .ok (.aconst_null, 1)) (kk : AW X L nL (pc + 1) loc (aN :: stk) M) : AW X L nL pc loc stk M := by
  obtain ⟨p, l, e, R, s, m, args, below, meth, c, cells, slots, Q, D, ca, ad, A⟩ := X
  obtain ⟨hx, hb, hml, hown, hts, hK, hN, hA, hfr, hlo, hce, hsl⟩ := cx
  intro H locs ls hP hD hS hl ol os om
  exact lv_null hx hb d (kk H locs ls hP hD hS hl ol (osc (show okV aN from trivial) os) om)
theorem aw_astoreN {i : Nat} {loc2 : List (Nat × AV)} (cx : Cx X cc own nL dd) (d : decode cc pc = .ok (.astore i, 2)) (hn : i < nL) (hl2 : stI loc i aN = loc2) (kk : AW X L nL (pc + 2) loc2 stk M) : AW X L nL pc loc (aN :: stk) M := by
  obtain ⟨p, l, e, R, s, m, args, below, meth, c, cells, slots, Q, D, ca, ad, A⟩ := X
  obtain ⟨hx, hb, hml, hown, hts, hK, hN, hA, hfr, hlo, hce, hsl⟩ := cx
  intro H locs ls hP hD hS hl ol os om
  subst hl2
  exact lv_astoreN hx hb d hl hn (cvl_stI ad loc i aN) (fun ls hl => kk H locs ls hP hD hS hl (ok_stI ol (os0 os)) (os1 os) om)
theorem aw_astore_nN {k4 : Fin 4} {i : Nat} {loc2 : List (Nat × AV)} (cx : Cx X cc own nL dd) (d : decode cc pc = .ok (.astore_n k4, 1)) (hi : (k4 : Nat) = i) (hn : i < nL) (hl2 : stI loc i aN = loc2) (kk : AW X L nL (pc + 1) loc2 stk M) : AW X L nL pc loc (aN :: stk) M := by
  obtain ⟨p, l, e, R, s, m, args, below, meth, c, cells, slots, Q, D, ca, ad, A⟩ := X
  obtain ⟨hx, hb, hml, hown, hts, hK, hN, hA, hfr, hlo, hce, hsl⟩ := cx
  intro H locs ls hP hD hS hl ol os om
  subst hl2
  exact lv_astore_nN hx hb d hi hl hn (cvl_stI ad loc i aN) (fun ls hl => kk H locs ls hP hD hS hl (ok_stI ol (os0 os)) (os1 os) om)
theorem aw_aload_nN {k4 : Fin 4} {i : Nat} (cx : Cx X cc own nL dd) (d : decode cc pc = .ok (.aload_n k4, 1)) (hi : (k4 : Nat) = i) (k : Nat) (hk : loc[k]? = some (i, aN)) (kk : AW X L nL (pc + 1) loc (aN :: stk) M) : AW X L nL pc loc stk M := by
  obtain ⟨p, l, e, R, s, m, args, below, meth, c, cells, slots, Q, D, ca, ad, A⟩ := X
  obtain ⟨hx, hb, hml, hown, hts, hK, hN, hA, hfr, hlo, hce, hsl⟩ := cx
  intro H locs ls hP hD hS hl ol os om
  exact lv_aload_nN hx hb d hi (lv_pick_cvl hl k hk) (kk H locs ls hP hD hS hl ol (osc (show okV aN from trivial) os) om)
theorem aw_aloadN {i : Nat} (cx : Cx X cc own nL dd) (d : decode cc pc = .ok (.aload i, 2)) (k : Nat) (hk : loc[k]? = some (i, aN)) (kk : AW X L nL (pc + 2) loc (aN :: stk) M) : AW X L nL pc loc stk M := by
  obtain ⟨p, l, e, R, s, m, args, below, meth, c, cells, slots, Q, D, ca, ad, A⟩ := X
  obtain ⟨hx, hb, hml, hown, hts, hK, hN, hA, hfr, hlo, hce, hsl⟩ := cx
  intro H locs ls hP hD hS hl ol os om
  exact lv_aloadN hx hb d (lv_pick_cvl hl k hk) (kk H locs ls hP hD hS hl ol (osc (show okV aN from trivial) os) om)
theorem aw_lcmp {x y : Int} (cx : Cx X cc own nL dd) (d : decode cc pc = .ok (.lcmp, 1)) (k1 : y < x → AW X L nL (pc + 1) loc (aI 1 :: stk) M) (k2 : x = y → AW X L nL (pc + 1) loc (aI 0 :: stk) M) (k3 : x < y → AW X L nL (pc + 1) loc (aI (-1) :: stk) M) : AW X L nL pc loc (aL y :: aL x :: stk) M := by
  obtain ⟨p, l, e, R, s, m, args, below, meth, c, cells, slots, Q, D, ca, ad, A⟩ := X
  obtain ⟨hx, hb, hml, hown, hts, hK, hN, hA, hfr, hlo, hce, hsl⟩ := cx
  intro H locs ls hP hD hS hl ol os om
  have hq : okV (aL y) := os0 os
  have hr : okV (aL x) := os0 (os1 os)
  refine W.lcmp hx hb d ?_
  by_cases h1 : y < x
  · rw [show lg_cmp (i64 x) (i64 y) = i32 1 by unfold lg_cmp; rw [if_pos ((i64_lt hq hr).mpr h1)]; rfl]
    exact k1 h1 H locs ls hP hD hS hl ol (osc (show okV (aI 1) from ⟨by omega, by omega⟩) (os1 (os1 os))) om
  · by_cases h2 : x = y
    · rw [show lg_cmp (i64 x) (i64 y) = i32 0 by unfold lg_cmp; rw [if_neg (fun q => h1 ((i64_lt hq hr).mp q)), if_pos ((i64_eq hr hq).mpr h2)]; rfl]
      exact k2 h2 H locs ls hP hD hS hl ol (osc (show okV (aI 0) from ⟨by omega, by omega⟩) (os1 (os1 os))) om
    · rw [show lg_cmp (i64 x) (i64 y) = i32 (-1) by unfold lg_cmp; rw [if_neg (fun q => h1 ((i64_lt hq hr).mp q)), if_neg (fun q => h2 ((i64_eq hr hq).mp q))]; rfl]
      exact k3 (by omega) H locs ls hP hD hS hl ol (osc (show okV (aI (-1)) from ⟨by omega, by omega⟩) (os1 (os1 os))) om
end AWr
end
section
section AWh
variable {X : CTX} {L : List CD} {nL pc dd : Nat} {loc : List (Nat × AV)} {stk : List AV} {M : Mem} {cc : ByteArray} {own : String}
def FL (own : String) (idx ci j : Nat) : Prop := ∃ (C : String) (T : u_T) (N : Nat), vwCl[ci]? = some (C, T, N) ∧ j < N ∧ (∀ w ∈ u_ws C T N, w ∈ WS) ∧ Cond.fieldLink own idx (T j).1 (T j).2.1 (T j).2.2.1 ∈ WS
/-- what is known of a class's fields: their types, names apart -/
def KT (ci : Nat) (T : u_T) (N : Nat) (ty : Nat → FieldType) : Prop := (∃ C, vwCl[ci]? = some (C, T, N)) ∧ (∀ k, k < N → parseFieldDescriptor (T k).2.2.1 = some (ty k)) ∧ ∀ a, a < N → ∀ b, b < N → a ≠ b → (T a).2.1 ≠ (T b).2.1
theorem fv_at {ad : Nat → Nat} {fds : List FD} {f : Nat → Int} {j : Nat} {fd : FD} (h : fds[j]? = some fd) : (fds.mapIdx (fun j fd => cfd ad fd (f j)))[j]? = some (cfd ad fd (f j)) := by
  rw [List.getElem?_mapIdx, h]
  rfl
theorem fv_set {ad : Nat → Nat} {fds : List FD} {f : Nat → Int} {j : Nat} {fd : FD} {x : Int} (h : fds[j]? = some fd) : (fds.mapIdx (fun j fd => cfd ad fd (f j))).set j (cfd ad fd x) = fds.mapIdx (fun i fd => cfd ad fd (up1 f j x i)) := by
  apply List.ext_getElem?
  intro i
  have hj : j < fds.length := (List.getElem?_eq_some_iff.mp h).1
  rw [List.getElem?_set, List.getElem?_mapIdx, List.getElem?_mapIdx]
  by_cases hi : j = i
  · subst hi
    rw [if_pos rfl, if_pos (by rw [List.length_mapIdx]; exact hj), h]
    simp [up1]
  · rw [if_neg hi]
    cases hL : fds[i]? with
    | none => rfl
    | some d' =>
      have hij : ¬ i = j := fun q => hi q.symm
      simp [up1, hij]
theorem aw_getI {k ci j idx : Nat} {fds : List FD} {lo hi : Int} (cx : Cx X cc own nL dd) (d : decode cc pc = .ok (.getfield idx, 3)) (fl : FL own idx ci j) (hk : L[k]? = some (.inl (ci, fds))) (hf : fds[j]? = some (0, lo, hi)) (kk : ∀ z, z = M k j → lo ≤ z → z ≤ hi → AW X L nL (pc + 3) loc (aI z :: stk) M) : AW X L nL pc loc (aR k :: stk) M := by
  obtain ⟨p, l, e, R, s, m, args, below, meth, c, cells, slots, Q, D, ca, ad, A⟩ := X
  obtain ⟨hx, hb, hml, hown, hts, hK, hN, hA, hfr, hlo, hce, hsl⟩ := cx
  intro H locs ls hP hD hS hl ol os om
  obtain ⟨C, T, N, hc, hj, hin, hlk⟩ := fl
  have hb0 : lo ≤ M k j ∧ M k j ≤ hi := (om k _ hk).2 j _ hf (show (0 : Nat) ≠ 1 by decide)
  have hb1 : -2147483648 ≤ lo ∧ hi < 2147483648 := (om k _ hk).1.1 _ (List.mem_of_getElem? hf) rfl
  exact va_get hx hb hts hin hown hK hP k (conc_get hk) hc j hj (hts _ hlk) (fun _ h => h) (fv_at hf) d (kk _ rfl hb0.1 hb0.2 H locs ls hP hD hS hl ol (osc (show _ ∧ _ from ⟨by omega, by omega⟩) (os1 os)) om)
theorem aw_getR {k ci j idx q : Nat} {fds : List FD} {qi z : Int} (cx : Cx X cc own nL dd) (d : decode cc pc = .ok (.getfield idx, 3)) (fl : FL own idx ci j) (hk : L[k]? = some (.inl (ci, fds))) (hf : fds[j]? = some (1, qi, z)) (hq : qi.toNat = q) (kk : AW X L nL (pc + 3) loc (aR q :: stk) M) : AW X L nL pc loc (aR k :: stk) M := by
  obtain ⟨p, l, e, R, s, m, args, below, meth, c, cells, slots, Q, D, ca, ad, A⟩ := X
  obtain ⟨hx, hb, hml, hown, hts, hK, hN, hA, hfr, hlo, hce, hsl⟩ := cx
  intro H locs ls hP hD hS hl ol os om
  obtain ⟨C, T, N, hc, hj, hin, hlk⟩ := fl
  subst hq
  exact va_get hx hb hts hin hown hK hP k (conc_get hk) hc j hj (hts _ hlk) (fun _ h => h) (fv_at hf) d (kk H locs ls hP hD hS hl ol (osc (show okV (aR _) from trivial) (os1 os)) om)
theorem aw_getD {k ci j idx q : Nat} {fds : List FD} {lo hi : Int} (cx : Cx X cc own nL dd) (d : decode cc pc = .ok (.getfield idx, 3)) (fl : FL own idx ci j) (hk : L[k]? = some (.inl (ci, fds))) (hf : fds[j]? = some (2, lo, hi)) (hq : M k j = (q : Int)) (kk : AW X L nL (pc + 3) loc (aR q :: stk) M) : AW X L nL pc loc (aR k :: stk) M := by
  obtain ⟨p, l, e, R, s, m, args, below, meth, c, cells, slots, Q, D, ca, ad, A⟩ := X
  obtain ⟨hx, hb, hml, hown, hts, hK, hN, hA, hfr, hlo, hce, hsl⟩ := cx
  intro H locs ls hP hD hS hl ol os om
  obtain ⟨C, T, N, hc, hj, hin, hlk⟩ := fl
  refine va_get hx hb hts hin hown hK hP k (conc_get hk) hc j hj (hts _ hlk) (fun _ h => h) (fv_at hf) d ?_
  rw [show cfd ad (2, lo, hi) (M k j) = cv ad (aR q) by
    unfold cfd
    rw [if_neg (show ¬ (2 : Nat) = 0 by decide), if_neg (show ¬ (2 : Nat) = 1 by decide), hq, if_neg (by omega)]
    rfl]
  exact kk H locs ls hP hD hS hl ol (osc (show okV (aR _) from trivial) (os1 os)) om
theorem aw_putI {k ci j idx : Nat} {fds : List FD} {lo hi x : Int} {T : u_T} {N : Nat} {ty : Nat → FieldType} (cx : Cx X cc own nL dd) (d : decode cc pc = .ok (.putfield idx, 3)) (fl : FL own idx ci j) (kt : KT ci T N ty) (hfin : (T j).2.2.2 = false) (hty : ty j = .int) (hk : L[k]? = some (.inl (ci, fds))) (hf : fds[j]? = some (0, lo, hi)) (hv : lo ≤ x ∧ x ≤ hi) (kk : AW X L nL (pc + 3) loc stk (up M k j x)) : AW X L nL pc loc (aI x :: aR k :: stk) M := by
  obtain ⟨p, l, e, R, s, m, args, below, meth, c, cells, slots, Q, D, ca, ad, A⟩ := X
  obtain ⟨hx, hb, hml, hown, hts, hK, hN, hA, hfr, hlo, hce, hsl⟩ := cx
  intro H locs ls hP hD hS hl ol os om
  obtain ⟨C, T', N', hc, hj, hin, hlk⟩ := fl
  obtain ⟨⟨C', hc'⟩, hpt, hnm⟩ := kt
  rw [hc] at hc'
  cases hc'
  have hlen : j < (fds.mapIdx (fun j fd => cfd ad fd (M k j))).length := by rw [List.length_mapIdx]; exact (List.getElem?_eq_some_iff.mp hf).1
  refine va_put (v := .int (i32 x)) (ty := .int) hx hb hts hin ty hpt hnm hown hK hP hD hS k (conc_get hk) hc j hj (hts _ hlk) (fun _ h => h) hfin (by rw [hpt j hj, hty]) rfl rfl hlen d (fun H1 locs1 hP1 hD1 hS1 => ?_)
  have hset : (fds.mapIdx (fun j fd => cfd ad fd (M k j))).set j (.int (i32 x)) = fds.mapIdx (fun i fd => cfd ad fd (up1 (M k) j x i)) := fv_set hf
  rw [hset] at hP1 hD1
  have hcu := conc_up (ca := ca) (ad := ad) (M := M) (j := j) (v := x) hk
  have hP1 := (show va_P D vwCl ((conc ca ad L M).set k (ad k, ccell ca ad (.inl (ci, fds)) (up1 (M k) j x))) H1 from hP1)
  have hD1 := (show va_D A ((conc ca ad L M).set k (ad k, ccell ca ad (.inl (ci, fds)) (up1 (M k) j x))) from hD1)
  rw [hcu] at hP1 hD1
  exact kk H1 locs1 ls hP1 hD1 hS1 hl ol (os1 (os1 os)) (okM_upF hk hf om hv)
theorem aw_putR {k ci j idx q : Nat} {fds : List FD} {lo hi : Int} {T : u_T} {N : Nat} {ty : Nat → FieldType} {cn : String} (cx : Cx X cc own nL dd) (d : decode cc pc = .ok (.putfield idx, 3)) (fl : FL own idx ci j) (kt : KT ci T N ty) (hfin : (T j).2.2.2 = false) (hty : ty j = .object cn) (hk : L[k]? = some (.inl (ci, fds))) (hf : fds[j]? = some (2, lo, hi)) (hv : lo ≤ (q : Int) ∧ (q : Int) ≤ hi) (kk : AW X L nL (pc + 3) loc stk (up M k j (q : Int))) : AW X L nL pc loc (aR q :: aR k :: stk) M := by
  obtain ⟨p, l, e, R, s, m, args, below, meth, c, cells, slots, Q, D, ca, ad, A⟩ := X
  obtain ⟨hx, hb, hml, hown, hts, hK, hN, hA, hfr, hlo, hce, hsl⟩ := cx
  intro H locs ls hP hD hS hl ol os om
  obtain ⟨C, T', N', hc, hj, hin, hlk⟩ := fl
  obtain ⟨⟨C', hc'⟩, hpt, hnm⟩ := kt
  rw [hc] at hc'
  cases hc'
  have hlen : j < (fds.mapIdx (fun j fd => cfd ad fd (M k j))).length := by rw [List.length_mapIdx]; exact (List.getElem?_eq_some_iff.mp hf).1
  refine va_put (v := .ref (ad q)) (ty := .object cn) hx hb hts hin ty hpt hnm hown hK hP hD hS k (conc_get hk) hc j hj (hts _ hlk) (fun _ h => h) hfin (by rw [hpt j hj, hty]) rfl rfl hlen d (fun H1 locs1 hP1 hD1 hS1 => ?_)
  have hcf : cfd ad (2, lo, hi) (q : Int) = .ref (ad q) := by
    unfold cfd
    rw [if_neg (show ¬ (2 : Nat) = 0 by decide), if_neg (show ¬ (2 : Nat) = 1 by decide), if_neg (by omega)]
    rfl
  have hset : (fds.mapIdx (fun j fd => cfd ad fd (M k j))).set j (.ref (ad q)) = fds.mapIdx (fun i fd => cfd ad fd (up1 (M k) j (q : Int) i)) := by
    rw [← hcf]
    exact fv_set hf
  rw [hset] at hP1 hD1
  have hcu := conc_up (ca := ca) (ad := ad) (M := M) (j := j) (v := (q : Int)) hk
  have hP1 := (show va_P D vwCl ((conc ca ad L M).set k (ad k, ccell ca ad (.inl (ci, fds)) (up1 (M k) j (q : Int)))) H1 from hP1)
  have hD1 := (show va_D A ((conc ca ad L M).set k (ad k, ccell ca ad (.inl (ci, fds)) (up1 (M k) j (q : Int)))) from hD1)
  rw [hcu] at hP1 hD1
  exact kk H1 locs1 ls hP1 hD1 hS1 hl ol (os1 (os1 os)) (okM_upF hk hf om hv)
theorem i32_upd (f : Nat → Int) (j : Nat) (x : Int) : upd (fun j => i32 (f j)) j (i32 x) = fun b => i32 (up1 f j x b) := by
  funext b
  unfold upd up1
  split <;> rfl
theorem i64_upd (f : Nat → Int) (j : Nat) (x : Int) : vp_updL (fun j => i64 (f j)) j (i64 x) = fun b => i64 (up1 f j x b) := by
  funext b
  unfold vp_updL up1
  split <;> rfl

theorem aw_iald {k n : Nat} {i lo hi : Int} (cx : Cx X cc own nL dd) (d : decode cc pc = .ok (.iaload, 1)) (hk : L[k]? = some (.inr (0, n, lo, hi))) (hi2 : 0 ≤ i ∧ i < n) (kk : ∀ z, z = M k i.toNat → lo ≤ z → z ≤ hi → AW X L nL (pc + 1) loc (aI z :: stk) M) : AW X L nL pc loc (aI i :: aR k :: stk) M := by
  obtain ⟨p, l, e, R, s, m, args, below, meth, c, cells, slots, Q, D, ca, ad, A⟩ := X
  obtain ⟨hx, hb, hml, hown, hts, hK, hN, hA, hfr, hlo, hce, hsl⟩ := cx
  intro H locs ls hP hD hS hl ol os om
  have hr : okV (aI i) := os0 os
  have hb0 : lo ≤ M k i.toNat ∧ M k i.toNat ≤ hi := (om k _ hk).2 i.toNat
  have hb1 : -2147483648 ≤ lo ∧ hi < 2147483648 := (om k _ hk).1.1
  refine va_iald hx hb hK hP k 0 (conc_get hk) rfl (i32_in hr hi2) d ?_
  rw [i32_clamp hr]
  exact kk _ rfl hb0.1 hb0.2 H locs ls hP hD hS hl ol (osc (show _ ∧ _ from ⟨by omega, by omega⟩) (os1 (os1 os))) om
theorem aw_zald {k n : Nat} {i lo hi : Int} (cx : Cx X cc own nL dd) (d : decode cc pc = .ok (.baload, 1)) (hk : L[k]? = some (.inr (1, n, lo, hi))) (hi2 : 0 ≤ i ∧ i < n) (kk : ∀ z, z = M k i.toNat → lo ≤ z → z ≤ hi → AW X L nL (pc + 1) loc (aI z :: stk) M) : AW X L nL pc loc (aI i :: aR k :: stk) M := by
  obtain ⟨p, l, e, R, s, m, args, below, meth, c, cells, slots, Q, D, ca, ad, A⟩ := X
  obtain ⟨hx, hb, hml, hown, hts, hK, hN, hA, hfr, hlo, hce, hsl⟩ := cx
  intro H locs ls hP hD hS hl ol os om
  have hr : okV (aI i) := os0 os
  have hb0 : lo ≤ M k i.toNat ∧ M k i.toNat ≤ hi := (om k _ hk).2 i.toNat
  have hb1 : -2147483648 ≤ lo ∧ hi < 2147483648 := (om k _ hk).1.1
  refine va_zald hx hb hK hP k 1 (conc_get hk) rfl (i32_in hr hi2) d ?_
  rw [i32_clamp hr]
  exact kk _ rfl hb0.1 hb0.2 H locs ls hP hD hS hl ol (osc (show _ ∧ _ from ⟨by omega, by omega⟩) (os1 (os1 os))) om
theorem aw_lald {k n : Nat} {i lo hi : Int} (cx : Cx X cc own nL dd) (d : decode cc pc = .ok (.laload, 1)) (hk : L[k]? = some (.inr (2, n, lo, hi))) (hi2 : 0 ≤ i ∧ i < n) (kk : ∀ z, z = M k i.toNat → lo ≤ z → z ≤ hi → AW X L nL (pc + 1) loc (aL z :: stk) M) : AW X L nL pc loc (aI i :: aR k :: stk) M := by
  obtain ⟨p, l, e, R, s, m, args, below, meth, c, cells, slots, Q, D, ca, ad, A⟩ := X
  obtain ⟨hx, hb, hml, hown, hts, hK, hN, hA, hfr, hlo, hce, hsl⟩ := cx
  intro H locs ls hP hD hS hl ol os om
  have hr : okV (aI i) := os0 os
  have hb0 : lo ≤ M k i.toNat ∧ M k i.toNat ≤ hi := (om k _ hk).2 i.toNat
  have hb1 : -9223372036854775808 ≤ lo ∧ hi < 9223372036854775808 := (om k _ hk).1.1
  refine va_lald hx hb hK hP k 2 (conc_get hk) rfl (i32_in hr hi2) d ?_
  rw [i32_clamp hr]
  exact kk _ rfl hb0.1 hb0.2 H locs ls hP hD hS hl ol (osc (show _ ∧ _ from ⟨by omega, by omega⟩) (os1 (os1 os))) om
theorem aw_iast {k n : Nat} {i x lo hi : Int} (cx : Cx X cc own nL dd) (d : decode cc pc = .ok (.iastore, 1)) (hk : L[k]? = some (.inr (0, n, lo, hi))) (hi2 : 0 ≤ i ∧ i < n) (hv : lo ≤ x ∧ x ≤ hi) (kk : AW X L nL (pc + 1) loc stk (up M k i.toNat x)) : AW X L nL pc loc (aI x :: aI i :: aR k :: stk) M := by
  obtain ⟨p, l, e, R, s, m, args, below, meth, c, cells, slots, Q, D, ca, ad, A⟩ := X
  obtain ⟨hx, hb, hml, hown, hts, hK, hN, hA, hfr, hlo, hce, hsl⟩ := cx
  intro H locs ls hP hD hS hl ol os om
  have hr : okV (aI i) := os0 (os1 os)
  refine va_iast hx hb hK hP hD hS k 0 (conc_get hk) rfl (i32_in hr hi2) d (fun H1 locs1 hP1 hD1 hS1 => ?_)
  rw [i32_clamp hr, i32_upd] at hP1 hD1
  have hcu := conc_up (ca := ca) (ad := ad) (M := M) (j := i.toNat) (v := x) hk
  have hP1 := (show va_P D vwCl ((conc ca ad L M).set k (ad k, ccell ca ad (.inr (0, n, lo, hi)) (up1 (M k) i.toNat x))) H1 from hP1)
  have hD1 := (show va_D A ((conc ca ad L M).set k (ad k, ccell ca ad (.inr (0, n, lo, hi)) (up1 (M k) i.toNat x))) from hD1)
  rw [hcu] at hP1 hD1
  exact kk H1 locs1 ls hP1 hD1 hS1 hl ol (os1 (os1 (os1 os))) (okM_upA hk om hv)
theorem aw_last {k n : Nat} {i x lo hi : Int} (cx : Cx X cc own nL dd) (d : decode cc pc = .ok (.lastore, 1)) (hk : L[k]? = some (.inr (2, n, lo, hi))) (hi2 : 0 ≤ i ∧ i < n) (hv : lo ≤ x ∧ x ≤ hi) (kk : AW X L nL (pc + 1) loc stk (up M k i.toNat x)) : AW X L nL pc loc (aL x :: aI i :: aR k :: stk) M := by
  obtain ⟨p, l, e, R, s, m, args, below, meth, c, cells, slots, Q, D, ca, ad, A⟩ := X
  obtain ⟨hx, hb, hml, hown, hts, hK, hN, hA, hfr, hlo, hce, hsl⟩ := cx
  intro H locs ls hP hD hS hl ol os om
  have hr : okV (aI i) := os0 (os1 os)
  refine va_last hx hb hK hP hD hS k 2 (conc_get hk) rfl (i32_in hr hi2) d (fun H1 locs1 hP1 hD1 hS1 => ?_)
  rw [i32_clamp hr, i64_upd] at hP1 hD1
  have hcu := conc_up (ca := ca) (ad := ad) (M := M) (j := i.toNat) (v := x) hk
  have hP1 := (show va_P D vwCl ((conc ca ad L M).set k (ad k, ccell ca ad (.inr (2, n, lo, hi)) (up1 (M k) i.toNat x))) H1 from hP1)
  have hD1 := (show va_D A ((conc ca ad L M).set k (ad k, ccell ca ad (.inr (2, n, lo, hi)) (up1 (M k) i.toNat x))) from hD1)
  rw [hcu] at hP1 hD1
  exact kk H1 locs1 ls hP1 hD1 hS1 hl ol (os1 (os1 (os1 os))) (okM_upA hk om hv)
theorem nar_bool {x : Int} (h : x = 0 ∨ x = 1) : vp_nar .boolean (i32 x) = i32 x := by
  rcases h with rfl | rfl <;> decide +kernel
theorem aw_zast {k n : Nat} {i x lo hi : Int} (cx : Cx X cc own nL dd) (d : decode cc pc = .ok (.bastore, 1)) (hk : L[k]? = some (.inr (1, n, lo, hi))) (hi2 : 0 ≤ i ∧ i < n) (hv : lo ≤ x ∧ x ≤ hi) (h01 : x = 0 ∨ x = 1) (kk : AW X L nL (pc + 1) loc stk (up M k i.toNat x)) : AW X L nL pc loc (aI x :: aI i :: aR k :: stk) M := by
  obtain ⟨p, l, e, R, s, m, args, below, meth, c, cells, slots, Q, D, ca, ad, A⟩ := X
  obtain ⟨hx, hb, hml, hown, hts, hK, hN, hA, hfr, hlo, hce, hsl⟩ := cx
  intro H locs ls hP hD hS hl ol os om
  have hr : okV (aI i) := os0 (os1 os)
  refine va_zast hx hb hK hP hD hS k 1 (conc_get hk) rfl (i32_in hr hi2) d (fun H1 locs1 hP1 hD1 hS1 => ?_)
  rw [i32_clamp hr, nar_bool h01, i32_upd] at hP1 hD1
  have hcu := conc_up (ca := ca) (ad := ad) (M := M) (j := i.toNat) (v := x) hk
  have hP1 := (show va_P D vwCl ((conc ca ad L M).set k (ad k, ccell ca ad (.inr (1, n, lo, hi)) (up1 (M k) i.toNat x))) H1 from hP1)
  have hD1 := (show va_D A ((conc ca ad L M).set k (ad k, ccell ca ad (.inr (1, n, lo, hi)) (up1 (M k) i.toNat x))) from hD1)
  rw [hcu] at hP1 hD1
  exact kk H1 locs1 ls hP1 hD1 hS1 hl ol (os1 (os1 (os1 os))) (okM_upA hk om hv)
theorem aw_alen {k t n : Nat} {lo hi : Int} (cx : Cx X cc own nL dd) (d : decode cc pc = .ok (.arraylength, 1)) (hk : L[k]? = some (.inr (t, n, lo, hi))) (kk : AW X L nL (pc + 1) loc (aI (n : Int) :: stk) M) : AW X L nL pc loc (aR k :: stk) M := by
  obtain ⟨p, l, e, R, s, m, args, below, meth, c, cells, slots, Q, D, ca, ad, A⟩ := X
  obtain ⟨hx, hb, hml, hown, hts, hK, hN, hA, hfr, hlo, hce, hsl⟩ := cx
  intro H locs ls hP hD hS hl ol os om
  have hb1 : t < 4 ∧ n < 2147483648 := (om k _ hk).1.2
  obtain ⟨ty, ht⟩ : ∃ ty, (TY ca)[t]? = some (ca t, ty) := by
    match t, hb1.1 with
    | 0, _ => exact ⟨_, rfl⟩
    | 1, _ => exact ⟨_, rfl⟩
    | 2, _ => exact ⟨_, rfl⟩
    | 3, _ => exact ⟨_, rfl⟩
  exact va_alen hx hb hK hP k t (conc_get hk) ht (v := i32 (n : Int)) rfl d (kk H locs ls hP hD hS hl ol (osc (show _ ∧ _ from ⟨by omega, by omega⟩) (os1 os)) om)
theorem aw_aald {k n : Nat} {i lo hi : Int} {v : AV} (cx : Cx X cc own nL dd) (d : decode cc pc = .ok (.aaload, 1)) (hk : L[k]? = some (.inr (3, n, lo, hi))) (hi2 : 0 ≤ i ∧ i < n) (hv : v = if M k i.toNat < 0 then aN else aR (M k i.toNat).toNat) (kk : AW X L nL (pc + 1) loc (v :: stk) M) : AW X L nL pc loc (aI i :: aR k :: stk) M := by
  obtain ⟨p, l, e, R, s, m, args, below, meth, c, cells, slots, Q, D, ca, ad, A⟩ := X
  obtain ⟨hx, hb, hml, hown, hts, hK, hN, hA, hfr, hlo, hce, hsl⟩ := cx
  intro H locs ls hP hD hS hl ol os om
  have hr : okV (aI i) := os0 os
  refine va_aldq hx hb hK hP k 3 (conc_get hk) rfl (i32_in hr hi2) d ?_
  rw [i32_clamp hr]
  subst hv
  by_cases h : M k i.toNat < 0
  · rw [if_pos h]
    have kk := kk H locs ls hP hD hS hl ol (by rw [if_pos h]; exact osc (show okV aN from trivial) (os1 (os1 os))) om
    rw [if_pos h] at kk
    exact kk
  · rw [if_neg h]
    have kk := kk H locs ls hP hD hS hl ol (by rw [if_neg h]; exact osc (show okV (aR _) from trivial) (os1 (os1 os))) om
    rw [if_neg h] at kk
    exact kk
theorem rf_upN (ad : Nat → Nat) (f : Nat → Int) (j : Nat) : va_up (fun j => if f j < 0 then none else some (ad (f j).toNat)) j none = fun b => if up1 f j (-1) b < 0 then none else some (ad (up1 f j (-1) b).toNat) := by
  funext b
  unfold va_up up1
  by_cases h : b = j
  · simp [h]
  · simp [h]
theorem aw_aastN {k n : Nat} {i lo hi : Int} (cx : Cx X cc own nL dd) (d : decode cc pc = .ok (.aastore, 1)) (hk : L[k]? = some (.inr (3, n, lo, hi))) (hi2 : 0 ≤ i ∧ i < n) (hv : lo ≤ -1 ∧ -1 ≤ hi) (kk : AW X L nL (pc + 1) loc stk (up M k i.toNat (-1))) : AW X L nL pc loc (aN :: aI i :: aR k :: stk) M := by
  obtain ⟨p, l, e, R, s, m, args, below, meth, c, cells, slots, Q, D, ca, ad, A⟩ := X
  obtain ⟨hx, hb, hml, hown, hts, hK, hN, hA, hfr, hlo, hce, hsl⟩ := cx
  intro H locs ls hP hD hS hl ol os om
  have hr : okV (aI i) := os0 (os1 os)
  refine va_astqN hx hb hK hP hD hS k 3 (conc_get hk) rfl (i32_in hr hi2) d (fun H1 locs1 hP1 hD1 hS1 => ?_)
  rw [i32_clamp hr, rf_upN] at hP1 hD1
  have hcu := conc_up (ca := ca) (ad := ad) (M := M) (j := i.toNat) (v := -1) hk
  have hP1 := (show va_P D vwCl ((conc ca ad L M).set k (ad k, ccell ca ad (.inr (3, n, lo, hi)) (up1 (M k) i.toNat (-1)))) H1 from hP1)
  have hD1 := (show va_D A ((conc ca ad L M).set k (ad k, ccell ca ad (.inr (3, n, lo, hi)) (up1 (M k) i.toNat (-1)))) from hD1)
  rw [hcu] at hP1 hD1
  exact kk H1 locs1 ls hP1 hD1 hS1 hl ol (os1 (os1 (os1 os))) (okM_upA hk om hv)
end AWh
end
section
section AWc
/-- a method: its name, code, locals, answer's type -/
abbrev MI : Type := MethodName × ByteArray × Nat × Option FieldType
def RM (d : Nat) : Room := { frames := d, cells := 0, slots := 0, locals := 40 * d }
def PC (D : va_G) (ca : Nat → ClassId) (ad : Nat → Nat) (L : List CD) (as : List AV) (M : Mem) (sz : Nat) : Array Value → State → Prop := va_Pc (as.map (cv ad)) (fun U => U.heap.size = sz ∧ va_P D vwCl (conc ca ad L M) U.heap ∧ va_K D vwCl (TY ca) U ∧ NK U ∧ va_D (fun _ => True) (conc ca ad L M))
def QC (D : va_G) (ca : Nat → ClassId) (ad : Nat → Nat) (L : List CD) (A : Nat → Prop) (Post : Option AV → Mem → Prop) : Array Value → State → Outcome → State → Prop := fun _ st oc t => (∃ (r : Option AV) (M' : Mem), oc = .returned (r.map (cv ad)) ∧ Post r M' ∧ (∀ v ∈ r.toList, okV v) ∧ okM L M' ∧ va_P D vwCl (conc ca ad L M') t.heap) ∧ va_F A st t
/-- THE CONTRACT: called with these arguments at this memory the method returns, with what Post says of answer and memory; d: how deep its own calls go -/
def Ct (d : Nat) (y : MI) (L : List CD) (as : List AV) (M : Mem) (Post : Option AV → Mem → Prop) : Prop := ∀ (l : Launch) (D : va_G) (ca : Nat → ClassId) (ad : Nat → Nat) (sz : Nat), (∀ v ∈ as, okV v) → okM L M → Met l y.1 (.code y.1 y.2.1 y.2.2.1 y.2.2.2 :: WS) (RM d) (PC D ca ad L as M sz) (QC D ca ad L (va_A (conc ca ad L M) sz) Post) 0 0 (va_A (conc ca ad L M) sz)
def Rt (X : CTX) (ret : Option FieldType) (L : List CD) (Post : Option AV → Mem → Prop) : Prop := match X with
  | (_, _, _, _, s, _, args, below, meth, _, cells, slots, Q, D, ca, ad, A) => meth.sig.returnType = ret ∧ meth.locks = false ∧ cells = 0 ∧ slots = 0 ∧ Q = MQ below (QC D ca ad L A Post) args s 0 0 A
def lvA : Nat → List AV → List (Nat × AV)
  | _, [] => []
  | i, v :: vs => (i, v) :: lvA (i + ctV v) vs
theorem lvA_cv (ad : Nat → Nat) : ∀ (as : List AV) (i : Nat), lv_args i (as.map (cv ad)) = cvl ad (lvA i as)
  | [], _ => rfl
  | v :: vs, i => by
    show (i, cv ad v) :: lv_args (if (cv ad v).category = 2 then i + 2 else i + 1) (vs.map (cv ad)) = (i, cv ad v) :: cvl ad (lvA (i + ctV v) vs)
    rw [ctV_cv, lvA_cv ad vs]
    congr 2
    congr 1
    rcases v with x | x | _ | k <;> rfl
theorem lvA_ok : ∀ (as : List AV) (i : Nat), (∀ v ∈ as, okV v) → ∀ q ∈ lvA i as, okV q.2
  | [], _, _ => fun q h => by cases h
  | v :: vs, i, h => List.forall_mem_cons.mpr ⟨(List.forall_mem_cons.mp h).1, lvA_ok vs (i + ctV v) (List.forall_mem_cons.mp h).2⟩
theorem lg_len (ad : Nat → Nat) : ∀ (as : List AV), (lg_sl (as.map (cv ad))).length = (as.map ctV).sum
  | [] => rfl
  | v :: vs => by
    have ih := lg_len ad vs
    unfold lg_sl at ih ⊢
    rw [List.map_cons, List.flatMap_cons, List.length_append, ih, List.map_cons, List.sum_cons, ctV_cv]
    congr 1
    rcases v with x | x | _ | k <;> rfl
theorem conc_D {A B : Nat → Prop} {ca : Nat → ClassId} {ad : Nat → Nat} {L : List CD} {M M' : Mem} (h : va_D A (conc ca ad L M)) : va_D A (conc ca ad L M') := by
  have key : ∀ (k : Nat) (q : Nat × va_E), (conc ca ad L M')[k]? = some q → ∃ q', (conc ca ad L M)[k]? = some q' ∧ q'.1 = q.1 := by
    intro k q hq
    unfold conc at hq ⊢
    rw [List.getElem?_mapIdx] at hq ⊢
    cases hL : L[k]? with
    | none => rw [hL] at hq; cases hq
    | some d => rw [hL] at hq; cases hq; exact ⟨_, rfl, rfl⟩
  refine ⟨fun i j p q hi hj e => ?_, fun k q hq => ?_⟩
  · obtain ⟨p', hp, ep⟩ := key i p hi
    obtain ⟨q', hq, eq⟩ := key j q hj
    exact h.1 i j p' q' hp hq (by rw [ep, eq, e])
  · obtain ⟨q', h1, e⟩ := key k q hq
    rw [← e]
    exact h.2 k q' h1
theorem Ct.of {d : Nat} {y : MethodName} {cc : ByteArray} {nL : Nat} {ret : Option FieldType} {L : List CD} {as : List AV} {M : Mem} {Post : Option AV → Mem → Prop} {own : String} (hcls : y.cls = own) (hpl : plainName y.cls = true) (hn : (as.map ctV).sum ≤ nL)
    (body : ∀ X : CTX, Cx X cc own nL d → Rt X ret L Post → AW X L nL 0 (lvA 0 as) [] M) : Ct d (y, cc, nL, ret) L as M Post := by
  intro l D ca ad sz oa om
  refine Met.ofW (cc := cc) (maxL := nL) (ret := ret) hpl rfl ?_
  intro p e s m args below meth c s₁ B hml hv
  obtain ⟨rfl, hsz, hP, hK, hN, hD0⟩ := hv
  have hts := atoms_spec (ws := .code y cc nL ret :: WS) B.pre
  have hown : s.vm.findClass own = some m.cls := by rw [← hcls]; exact findClass_of_methodNamed B.named
  subst hsz
  have hD := hD0.self (sz := s.heap.size)
  have hl := lv_entry (as.map (cv ad)) (n := nL) (by rw [lg_len]; exact hn)
  rw [lg_entry_eq]
  rw [lvA_cv] at hl
  have hS : va_S (va_A (conc ca ad L M) s.heap.size) s.heap s.heap [] := va_S.rf
  exact body (p, l, e, RM d, s, m, (as.map (cv ad)).toArray, below, meth, c, 0, 0, _, D, ca, ad, va_A (conc ca ad L M) s.heap.size) ⟨B.exec, B.bytes, hml, hown, fun w hw => hts w (List.mem_cons_of_mem _ hw), hK, hN, fun q h => Or.inr h, Nat.le_refl _, Nat.le_refl _, Nat.le_refl _, Nat.le_refl _⟩ ⟨B.returns, B.notSynchronized, rfl, rfl, rfl⟩ s.heap [] _ hP hD hS hl (lvA_ok as 0 oa) (fun v h => by cases h) om
/-- a contract's end may be weakened -/
theorem Ct.mono {d : Nat} {y : MI} {L : List CD} {as : List AV} {M : Mem} {P1 P2 : Option AV → Mem → Prop} (h : Ct d y L as M P1) (hw : ∀ r M', P1 r M' → P2 r M') : Ct d y L as M P2 := by
  intro l D ca ad sz oa om
  have h1 := h l D ca ad sz oa om
  intro p e ha hc hk s m args below hf hap hpc htr
  obtain ⟨k, o, a1, a2, a3, ⟨⟨r, M', b1, b2, b3⟩, hF⟩, a4⟩ := h1 p e ha hc hk s m args below hf hap hpc htr
  exact ⟨k, o, a1, a2, a3, ⟨⟨r, M', b1, hw r M' b2, b3⟩, hF⟩, a4⟩
end AWc
section AWq
variable {X : CTX} {L : List CD} {nL pc dd : Nat} {loc : List (Nat × AV)} {stk : List AV} {M : Mem} {cc : ByteArray} {own : String} {Post : Option AV → Mem → Prop}
theorem aw_iret {x : Int} (cx : Cx X cc own nL dd) (rt : Rt X (some .int) L Post) (d : decode cc pc = .ok (.ireturn, 1)) (hp : Post (some (aI x)) M) : AW X L nL pc loc [aI x] M := by
  obtain ⟨p, l, e, R, s, m, args, below, meth, c, cells, slots, Q, D, ca, ad, A⟩ := X
  obtain ⟨hx, hb, hml, hown, hts, hK, hN, hA, hfr, hlo, hce, hsl⟩ := cx
  intro H locs ls hP hD hS hl ol os om
  obtain ⟨hr, hlk, rfl, rfl, rfl⟩ := rt
  exact W.iret (v := i32 x) hx hb hr (fun t ht hW => ⟨⟨some (aI x), M, rfl, hp, os, om, by rw [ht]; exact hP⟩, hS.F ht⟩) hS.2.2 d hlk
theorem aw_zret {x : Int} (cx : Cx X cc own nL dd) (rt : Rt X (some .boolean) L Post) (d : decode cc pc = .ok (.ireturn, 1)) (h01 : x = 0 ∨ x = 1) (hp : Post (some (aI x)) M) : AW X L nL pc loc [aI x] M := by
  obtain ⟨p, l, e, R, s, m, args, below, meth, c, cells, slots, Q, D, ca, ad, A⟩ := X
  obtain ⟨hx, hb, hml, hown, hts, hK, hN, hA, hfr, hlo, hce, hsl⟩ := cx
  intro H locs ls hP hD hS hl ol os om
  obtain ⟨hr, hlk, rfl, rfl, rfl⟩ := rt
  exact W.zret (v := i32 x) hx hb hr (by rcases h01 with rfl | rfl <;> rfl) (fun t ht hW => ⟨⟨some (aI x), M, rfl, hp, os, om, by rw [ht]; exact hP⟩, hS.F ht⟩) hS.2.2 d hlk
theorem aw_lret {x : Int} (cx : Cx X cc own nL dd) (rt : Rt X (some .long) L Post) (d : decode cc pc = .ok (.lreturn, 1)) (hp : Post (some (aL x)) M) : AW X L nL pc loc [aL x] M := by
  obtain ⟨p, l, e, R, s, m, args, below, meth, c, cells, slots, Q, D, ca, ad, A⟩ := X
  obtain ⟨hx, hb, hml, hown, hts, hK, hN, hA, hfr, hlo, hce, hsl⟩ := cx
  intro H locs ls hP hD hS hl ol os om
  obtain ⟨hr, hlk, rfl, rfl, rfl⟩ := rt
  exact W.lret (v := i64 x) hx hb hr (fun t ht hW => ⟨⟨some (aL x), M, rfl, hp, os, om, by rw [ht]; exact hP⟩, hS.F ht⟩) hS.2.2 d hlk
theorem aw_vret (cx : Cx X cc own nL dd) (rt : Rt X none L Post) (d : decode cc pc = .ok (.return_, 1)) (hp : Post none M) : AW X L nL pc loc [] M := by
  obtain ⟨p, l, e, R, s, m, args, below, meth, c, cells, slots, Q, D, ca, ad, A⟩ := X
  obtain ⟨hx, hb, hml, hown, hts, hK, hN, hA, hfr, hlo, hce, hsl⟩ := cx
  intro H locs ls hP hD hS hl ol os om
  obtain ⟨hr, hlk, rfl, rfl, rfl⟩ := rt
  exact W.vret hx hb hr (fun t ht hW => ⟨⟨none, M, rfl, hp, (fun v h => by cases h), om, by rw [ht]; exact hP⟩, hS.F ht⟩) hS.2.2 d hlk
theorem aw_aret {k : Nat} {cn : String} (cx : Cx X cc own nL dd) (rt : Rt X (some (.object cn)) L Post) (d : decode cc pc = .ok (.areturn, 1)) (hp : Post (some (aR k)) M) : AW X L nL pc loc [aR k] M := by
  obtain ⟨p, l, e, R, s, m, args, below, meth, c, cells, slots, Q, D, ca, ad, A⟩ := X
  obtain ⟨hx, hb, hml, hown, hts, hK, hN, hA, hfr, hlo, hce, hsl⟩ := cx
  intro H locs ls hP hD hS hl ol os om
  obtain ⟨hr, hlk, rfl, rfl, rfl⟩ := rt
  exact W.aret (v := .ref (ad k)) hx hb hr (Or.inl ⟨_, rfl⟩) (Or.inr ⟨_, rfl⟩) (fun t ht hW => ⟨⟨some (aR k), M, rfl, hp, os, om, by rw [ht]; exact hP⟩, hS.F ht⟩) hS.2.2 d hlk
/-- what a call of a method needs of the tables: an instance's, a static one's -/
def MV (y : MI) (C : String) (n : Nat) : Prop := Cond.instanceMethod y.1 ∈ WS ∧ Cond.selects C y.1 y.1 ∈ WS ∧ Cond.initialized y.1.cls ∈ WS ∧ Cond.code y.1 y.2.1 y.2.2.1 y.2.2.2 ∈ WS ∧ (y.1.cls ≠ "java/lang/invoke/MethodHandle" ∧ y.1.cls ≠ "java/lang/invoke/VarHandle" ∧ (parseMethodDescriptor y.1.desc).map (fun d => d.parameters.length) = some n) ∧ y.2.2.1 ≤ 21
def MS (y : MI) (n : Nat) : Prop := Cond.static y.1 ∈ WS ∧ Cond.initialized y.1.cls ∈ WS ∧ Cond.code y.1 y.2.1 y.2.2.1 y.2.2.2 ∈ WS ∧ (y.1.cls ≠ "java/lang/invoke/MethodHandle" ∧ y.1.cls ≠ "java/lang/invoke/VarHandle" ∧ (parseMethodDescriptor y.1.desc).map (fun d => d.parameters.length) = some n) ∧ y.2.2.1 ≤ 21
theorem goodCode {w : Cond} (h : w ∈ WS) : GoodIn WS (w :: WS) := by
  intro v hv
  rcases List.mem_cons.mp hv with rfl | hv
  · exact ⟨h, good_of_word (WS_good h)⟩
  · exact ⟨hv, good_of_word (WS_good hv)⟩
theorem PC_blind (D : va_G) (ca : Nat → ClassId) (ad : Nat → Nat) (L : List CD) (as : List AV) (M : Mem) (sz : Nat) : FrameBlind (PC D ca ad L as M sz) := by
  intro a U g mk q
  obtain ⟨q0, q1, qP, qK, qN, qD⟩ := q
  exact ⟨q0, q1, qP, va_K.moved (u := U) (U := U.calling g mk a) (Vm.Alike.refl U.vm) qK, qN.calling, qD⟩
theorem st_ct (ad : Nat → Nat) (stk : List AV) : ((stk.map (cv ad)).map fun v => v.category).sum = (stk.map ctV).sum := by
  rw [List.map_map]
  congr 1
  apply List.map_congr_left
  intro v _
  exact ctV_cv ad v
/-- behind a call of any kind -/
theorem aw_after {p : Program} {l : Launch} {e : Env} {R : Room} {s : State} {m : MethodId} {args a : Array Value} {below : List Frame} {meth : Method} {c : Code} {H : Heap} {locs : List Loc} {cells slots : Nat} {Q : State → Prop} {D : va_G} {ca : Nat → ClassId} {ad : Nat → Nat} {A : Nat → Prop} {ls : Array Slot} {st0 : List Value}
    (hr : va_Run p l e R s m args below meth c H locs cells slots 0 0 (F0 m pc ls st0) (stk.map (cv ad)) (QC D ca ad L (va_A (conc ca ad L M) H.size) Post a) (va_A (conc ca ad L M) H.size))
    (hD : va_D A (conc ca ad L M)) (hS : va_S A s.heap H locs) (hA : ∀ q, s.heap.size ≤ q → A q) (hl : lv_has ls nL (cvl ad loc)) (ol : ∀ q ∈ loc, okV q.2) (os : ∀ v ∈ stk, okV v)
    (kk : ∀ (r : Option AV) (M' : Mem), Post r M' → AW (p, l, e, R, s, m, args, below, meth, c, cells, slots, Q, D, ca, ad, A) L nL (pc + 3) loc (r.toList ++ stk) M') : W p l e R s m args below meth c H locs cells slots Q (F0 m pc ls st0) := by
  have hF : ∀ q, va_A (conc ca ad L M) H.size q → A q := by
    intro q h
    rcases h with ⟨k, e, h⟩ | h
    · exact hD.2 k _ h
    · exact hA q (Nat.le_trans hS.1 h)
  intro T hT X0
  obtain ⟨v, st₀, t, T', L', h0, X', hL, e1, e2, ⟨⟨r, M', hv, hp, hok, om', hP'⟩, hz, hk⟩, st⟩ := hr T hT X0
  cases hv
  rw [h0] at hz hk
  have h1 := kk r M' hp T'.heap (locs ++ L') ls (by rw [e1]; exact hP') (conc_D (B := A) hD)
    ⟨Nat.le_trans hS.1 (by rw [e1]; exact hz), fun q h1 h2 => by rw [e1, hk q (Nat.lt_of_lt_of_le h1 hS.1) (fun z => h2 (hF q z))]; exact hS.2.1 q h1 h2, fun q hq => by
      rcases List.mem_append.mp hq with h | h
      · exact hS.2.2 q h
      · exact hF _ (hL q h)⟩ hl ol (fun v hv => by
      rcases List.mem_append.mp hv with h | h
      · exact hok v h
      · exact os v h) om'
  obtain ⟨t2, a1, b1⟩ := h1 T' rfl X'
  refine ⟨t2, st t2 ?_, b1⟩
  rw [show (r.map (cv ad)).toList ++ stk.map (cv ad) = (r.toList ++ stk).map (cv ad) by rw [List.map_append]; cases r <;> rfl]
  exact a1
theorem aw_callV {y : MI} {C : String} {idx n d' k ci : Nat} {as stk0 : List AV} {fds : List FD} {cT : u_T} {cN : Nat} (cx : Cx X cc own nL dd) (d : decode cc pc = .ok (.invokevirtual idx, 3)) (hlk : Cond.methodLink own idx y.1 ∈ WS) (mv : MV y C n) (hci : vwCl[ci]? = some (C, cT, cN)) (hk : L[k]? = some (.inl (ci, fds))) (hd : d' + 1 ≤ dd) (hn : as.length = n) (hst : stk0 = as.reverse ++ aR k :: stk) (hw : (stk.map ctV).sum ≤ 8) (ct : Ct d' y L (aR k :: as) M Post)
    (kk : ∀ (r : Option AV) (M' : Mem), Post r M' → AW X L nL (pc + 3) loc (r.toList ++ stk) M') : AW X L nL pc loc stk0 M := by
  obtain ⟨p, l, e, R, s, m, args, below, meth, c, cells, slots, Q, D, ca, ad, A⟩ := X
  obtain ⟨hx, hb, hml, hown, hts, hK, hN, hA, hfr, hlo, hce, hsl⟩ := cx
  intro H locs ls hP hD hS hl ol os om
  obtain ⟨m1, m2, m3, m4, m5, m6⟩ := mv
  subst hst
  have os' : ∀ v ∈ stk, okV v := fun v h => os v (List.mem_append_right _ (List.mem_cons_of_mem _ h))
  have oa : ∀ v ∈ aR k :: as, okV v := List.forall_mem_cons.mpr ⟨trivial, fun v h => os v (List.mem_append_left _ (List.mem_reverse.mpr h))⟩
  have hM := ct l D ca ad H.size oa om
  have hst2 : (as.reverse ++ aR k :: stk).map (cv ad) = (as.map (cv ad)).reverse ++ .ref (ad k) :: stk.map (cv ad) := by
    rw [List.map_append, List.map_cons, List.map_reverse]; rfl
  rw [hst2]
  refine aw_after (va_runV (As := as.map (cv ad)) (rest := stk.map (cv ad)) (C := C) (bytes := y.2.1) (maxL := y.2.2.1) (ret := y.2.2.2) ⟨hx, hb, hml, hown, hts⟩ hM ⟨callB_of n hts (goodCode m4) rfl rfl rfl (hts _ m3) (hts _ hlk) m5 ⟨?_, ?_⟩, hts _ m1, hts _ m2⟩ ⟨PC_blind _ _ _ _ _ _ _, va_recv hK hP hci (conc_get hk), fun U hU hW => ⟨rfl, by rw [hU], by rw [hU]; exact hP, va_K.moved hW.alike hK, hN.warm hW, hD.weaken (fun _ _ _ _ => trivial)⟩⟩ rfl (by rw [List.length_map]; exact hn) hl.1 rfl (lv_room (by rw [st_ct]; exact hw)) d ⟨hce, hsl⟩) hD hS hA hl ol os' kk
  · show d' + 1 ≤ R.frames
    omega
  · show 8 + (y.2.2.1 + 11) + 40 * d' ≤ R.locals
    omega
theorem aw_callS {y : MI} {idx n d' : Nat} {as stk0 : List AV} (cx : Cx X cc own nL dd) (d : decode cc pc = .ok (.invokestatic idx, 3)) (hlk : Cond.methodLink own idx y.1 ∈ WS) (mv : MS y n) (hd : d' + 1 ≤ dd) (hn : as.length = n) (hst : stk0 = as.reverse ++ stk) (hw : (stk.map ctV).sum ≤ 8) (ct : Ct d' y L as M Post)
    (kk : ∀ (r : Option AV) (M' : Mem), Post r M' → AW X L nL (pc + 3) loc (r.toList ++ stk) M') : AW X L nL pc loc stk0 M := by
  obtain ⟨p, l, e, R, s, m, args, below, meth, c, cells, slots, Q, D, ca, ad, A⟩ := X
  obtain ⟨hx, hb, hml, hown, hts, hK, hN, hA, hfr, hlo, hce, hsl⟩ := cx
  intro H locs ls hP hD hS hl ol os om
  obtain ⟨m1, m3, m4, m5, m6⟩ := mv
  subst hst
  have os' : ∀ v ∈ stk, okV v := fun v h => os v (List.mem_append_right _ h)
  have oa : ∀ v ∈ as, okV v := fun v h => os v (List.mem_append_left _ (List.mem_reverse.mpr h))
  have hM := ct l D ca ad H.size oa om
  have hst2 : (as.reverse ++ stk).map (cv ad) = (as.map (cv ad)).reverse ++ stk.map (cv ad) := by
    rw [List.map_append, List.map_reverse]
  rw [hst2]
  refine aw_after (va_runS (As := as.map (cv ad)) (rest := stk.map (cv ad)) (bytes := y.2.1) (maxL := y.2.2.1) (ret := y.2.2.2) ⟨hx, hb, hml, hown, hts⟩ hM ⟨callB_of n hts (goodCode m4) rfl rfl rfl (hts _ m3) (hts _ hlk) m5 ⟨?_, ?_⟩, hts _ m1⟩ ⟨PC_blind _ _ _ _ _ _ _, fun U hU hW => ⟨rfl, by rw [hU], by rw [hU]; exact hP, va_K.moved hW.alike hK, hN.warm hW, hD.weaken (fun _ _ _ _ => trivial)⟩⟩ rfl (by rw [List.length_map]; exact hn) hl.1 rfl (lv_room (by rw [st_ct]; exact hw)) d ⟨hce, hsl⟩) hD hS hA hl ol os' kk
  · show d' + 1 ≤ R.frames
    omega
  · show 8 + (y.2.2.1 + 11) + 40 * d' ≤ R.locals
    omega
theorem aw_callN {y : MI} {host : String} {idx n d' : Nat} {as stk0 : List AV} (cx : Cx X cc own nL dd) (d : decode cc pc = .ok (.invokestatic idx, 3)) (hlk : Cond.methodLinkNest own idx y.1 host ∈ NWS) (mv : MS y n) (hd : d' + 1 ≤ dd) (hn : as.length = n) (hst : stk0 = as.reverse ++ stk) (hw : (stk.map ctV).sum ≤ 8) (ct : Ct d' y L as M Post)
    (kk : ∀ (r : Option AV) (M' : Mem), Post r M' → AW X L nL (pc + 3) loc (r.toList ++ stk) M') : AW X L nL pc loc stk0 M := by
  obtain ⟨p, l, e, R, s, m, args, below, meth, c, cells, slots, Q, D, ca, ad, A⟩ := X
  obtain ⟨hx, hb, hml, hown, hts, hK, hN, hA, hfr, hlo, hce, hsl⟩ := cx
  intro H locs ls hP hD hS hl ol os om
  obtain ⟨m1, m3, m4, m5, m6⟩ := mv
  subst hst
  have os' : ∀ v ∈ stk, okV v := fun v h => os v (List.mem_append_right _ h)
  have oa : ∀ v ∈ as, okV v := fun v h => os v (List.mem_append_left _ (List.mem_reverse.mpr h))
  have hM := ct l D ca ad H.size oa om
  have hst2 : (as.reverse ++ stk).map (cv ad) = (as.map (cv ad)).reverse ++ stk.map (cv ad) := by
    rw [List.map_append, List.map_reverse]
  rw [hst2]
  refine aw_after (va_runSN (As := as.map (cv ad)) (rest := stk.map (cv ad)) (bytes := y.2.1) (maxL := y.2.2.1) (ret := y.2.2.2) (Ts := WS) ⟨hx, hb, hml, hown, hts⟩ hM ⟨va_cnB n hts (goodCode m4) rfl rfl rfl (hN _ hlk) (hts _ m3) m5 ⟨?_, ?_⟩, hts _ m1, trivial⟩ ⟨PC_blind _ _ _ _ _ _ _, fun U hU hW => ⟨rfl, by rw [hU], by rw [hU]; exact hP, va_K.moved hW.alike hK, hN.warm hW, hD.weaken (fun _ _ _ _ => trivial)⟩⟩ rfl (by rw [List.length_map]; exact hn) hl.1 rfl (lv_room (by rw [st_ct]; exact hw)) d ⟨hce, hsl⟩) hD hS hA hl ol os' kk
  · show d' + 1 ≤ R.frames
    omega
  · show 8 + (y.2.2.1 + 11) + 40 * d' ≤ R.locals
    omega
end AWq
end
