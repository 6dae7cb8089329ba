-- ===== PART A: goes FIRST, ahead of the names: the tables' words, and 'selects' of the private methods out of them =====
/-- a private method of a class that the tables say can be made, by its rows of tables_1 -/
def lw_okq (q : MethodName × Nat) : Prop := (q.1.cls ≠ "java/lang/invoke/MethodHandle" ∧ q.1.cls ≠ "java/lang/invoke/VarHandle") ∧ Cond.instantiable q.1.cls q.2 ∈ tables_1 ∧ Cond.privateMethod q.1 ∈ tables_1 ∧ Cond.instanceMethod q.1 ∈ tables_1
theorem lw_p0 : lw_okq (⟨"SwornElsewhere", "textOf", "(I)LSwornElsewhere$Text;"⟩, 15) := ⟨⟨by decide +kernel, by decide +kernel⟩, List.mem_of_getElem? (i := 14) (by decide +kernel), List.mem_of_getElem? (i := 214) (by decide +kernel), List.mem_of_getElem? (i := 215) (by decide +kernel)⟩
theorem lw_p1 : lw_okq (⟨"SwornElsewhere", "tellAnew", "()V"⟩, 15) := ⟨⟨by decide +kernel, by decide +kernel⟩, List.mem_of_getElem? (i := 14) (by decide +kernel), List.mem_of_getElem? (i := 218) (by decide +kernel), List.mem_of_getElem? (i := 219) (by decide +kernel)⟩
theorem lw_p2 : lw_okq (⟨"SwornElsewhere$Text", "fits", "(II)Z"⟩, 3) := ⟨⟨by decide +kernel, by decide +kernel⟩, List.mem_of_getElem? (i := 22) (by decide +kernel), List.mem_of_getElem? (i := 234) (by decide +kernel), List.mem_of_getElem? (i := 235) (by decide +kernel)⟩
theorem lw_p3 : lw_okq (⟨"SwornElsewhere", "finding", "(I)I"⟩, 15) := ⟨⟨by decide +kernel, by decide +kernel⟩, List.mem_of_getElem? (i := 14) (by decide +kernel), List.mem_of_getElem? (i := 284) (by decide +kernel), List.mem_of_getElem? (i := 285) (by decide +kernel)⟩
theorem lw_p4 : lw_okq (⟨"SwornElsewhere", "hearAsTold", "()V"⟩, 15) := ⟨⟨by decide +kernel, by decide +kernel⟩, List.mem_of_getElem? (i := 14) (by decide +kernel), List.mem_of_getElem? (i := 304) (by decide +kernel), List.mem_of_getElem? (i := 305) (by decide +kernel)⟩
theorem lw_p5 : lw_okq (⟨"SwornElsewhere$Bench", "spoiled", "(I)Z"⟩, 7) := ⟨⟨by decide +kernel, by decide +kernel⟩, List.mem_of_getElem? (i := 126) (by decide +kernel), List.mem_of_getElem? (i := 316) (by decide +kernel), List.mem_of_getElem? (i := 317) (by decide +kernel)⟩
theorem lw_p6 : lw_okq (⟨"SwornElsewhere$Bench", "weigh", "(I)I"⟩, 7) := ⟨⟨by decide +kernel, by decide +kernel⟩, List.mem_of_getElem? (i := 126) (by decide +kernel), List.mem_of_getElem? (i := 328) (by decide +kernel), List.mem_of_getElem? (i := 329) (by decide +kernel)⟩
theorem lw_p7 : lw_okq (⟨"SwornElsewhere$Bench", "othersFor", "(I)I"⟩, 7) := ⟨⟨by decide +kernel, by decide +kernel⟩, List.mem_of_getElem? (i := 126) (by decide +kernel), List.mem_of_getElem? (i := 332) (by decide +kernel), List.mem_of_getElem? (i := 333) (by decide +kernel)⟩
theorem lw_p8 : lw_okq (⟨"SwornElsewhere$Bench", "support", "(II)I"⟩, 7) := ⟨⟨by decide +kernel, by decide +kernel⟩, List.mem_of_getElem? (i := 126) (by decide +kernel), List.mem_of_getElem? (i := 371) (by decide +kernel), List.mem_of_getElem? (i := 372) (by decide +kernel)⟩
theorem lw_p9 : lw_okq (⟨"SwornElsewhere$Bench", "weightIn", "(II)I"⟩, 7) := ⟨⟨by decide +kernel, by decide +kernel⟩, List.mem_of_getElem? (i := 126) (by decide +kernel), List.mem_of_getElem? (i := 375) (by decide +kernel), List.mem_of_getElem? (i := 376) (by decide +kernel)⟩
theorem lw_p10 : lw_okq (⟨"SwornElsewhere", "clearedBits", "(LSwornElsewhere$Tales;I)I"⟩, 15) := ⟨⟨by decide +kernel, by decide +kernel⟩, List.mem_of_getElem? (i := 14) (by decide +kernel), List.mem_of_getElem? (i := 394) (by decide +kernel), List.mem_of_getElem? (i := 395) (by decide +kernel)⟩
theorem lw_p11 : lw_okq (⟨"SwornElsewhere$Tales", "takeOver", "(ILSwornElsewhere$Tales;I)V"⟩, 6) := ⟨⟨by decide +kernel, by decide +kernel⟩, List.mem_of_getElem? (i := 45) (by decide +kernel), List.mem_of_getElem? (i := 431) (by decide +kernel), List.mem_of_getElem? (i := 432) (by decide +kernel)⟩
theorem lw_p12 : lw_okq (⟨"SwornElsewhere", "sparedBits", "()I"⟩, 15) := ⟨⟨by decide +kernel, by decide +kernel⟩, List.mem_of_getElem? (i := 14) (by decide +kernel), List.mem_of_getElem? (i := 456) (by decide +kernel), List.mem_of_getElem? (i := 457) (by decide +kernel)⟩
theorem lw_p13 : lw_okq (⟨"SwornElsewhere", "comesOutSo", "(I)Z"⟩, 15) := ⟨⟨by decide +kernel, by decide +kernel⟩, List.mem_of_getElem? (i := 14) (by decide +kernel), List.mem_of_getElem? (i := 475) (by decide +kernel), List.mem_of_getElem? (i := 476) (by decide +kernel)⟩
theorem lw_p14 : lw_okq (⟨"SwornElsewhere", "addToTally", "(I)V"⟩, 15) := ⟨⟨by decide +kernel, by decide +kernel⟩, List.mem_of_getElem? (i := 14) (by decide +kernel), List.mem_of_getElem? (i := 488) (by decide +kernel), List.mem_of_getElem? (i := 489) (by decide +kernel)⟩
theorem lw_p15 : lw_okq (⟨"SwornElsewhere", "tallyFavour", "(I)V"⟩, 15) := ⟨⟨by decide +kernel, by decide +kernel⟩, List.mem_of_getElem? (i := 14) (by decide +kernel), List.mem_of_getElem? (i := 497) (by decide +kernel), List.mem_of_getElem? (i := 498) (by decide +kernel)⟩
def lw_privs_1 : List (MethodName × Nat) := [(⟨"SwornElsewhere", "textOf", "(I)LSwornElsewhere$Text;"⟩, 15), (⟨"SwornElsewhere", "tellAnew", "()V"⟩, 15), (⟨"SwornElsewhere$Text", "fits", "(II)Z"⟩, 3), (⟨"SwornElsewhere", "finding", "(I)I"⟩, 15), (⟨"SwornElsewhere", "hearAsTold", "()V"⟩, 15), (⟨"SwornElsewhere$Bench", "spoiled", "(I)Z"⟩, 7), (⟨"SwornElsewhere$Bench", "weigh", "(I)I"⟩, 7), (⟨"SwornElsewhere$Bench", "othersFor", "(I)I"⟩, 7), (⟨"SwornElsewhere$Bench", "support", "(II)I"⟩, 7), (⟨"SwornElsewhere$Bench", "weightIn", "(II)I"⟩, 7), (⟨"SwornElsewhere", "clearedBits", "(LSwornElsewhere$Tales;I)I"⟩, 15), (⟨"SwornElsewhere$Tales", "takeOver", "(ILSwornElsewhere$Tales;I)V"⟩, 6), (⟨"SwornElsewhere", "sparedBits", "()I"⟩, 15), (⟨"SwornElsewhere", "comesOutSo", "(I)Z"⟩, 15), (⟨"SwornElsewhere", "addToTally", "(I)V"⟩, 15), (⟨"SwornElsewhere", "tallyFavour", "(I)V"⟩, 15)]
theorem lw_r1 : ∀ q ∈ lw_privs_1, lw_okq q := List.forall_mem_cons.mpr ⟨lw_p0, List.forall_mem_cons.mpr ⟨lw_p1, List.forall_mem_cons.mpr ⟨lw_p2, List.forall_mem_cons.mpr ⟨lw_p3, List.forall_mem_cons.mpr ⟨lw_p4, List.forall_mem_cons.mpr ⟨lw_p5, List.forall_mem_cons.mpr ⟨lw_p6, List.forall_mem_cons.mpr ⟨lw_p7, List.forall_mem_cons.mpr ⟨lw_p8, List.forall_mem_cons.mpr ⟨lw_p9, List.forall_mem_cons.mpr ⟨lw_p10, List.forall_mem_cons.mpr ⟨lw_p11, List.forall_mem_cons.mpr ⟨lw_p12, List.forall_mem_cons.mpr ⟨lw_p13, List.forall_mem_cons.mpr ⟨lw_p14, List.forall_mem_cons.mpr ⟨lw_p15, fun _ h => absurd h List.not_mem_nil⟩⟩⟩⟩⟩⟩⟩⟩⟩⟩⟩⟩⟩⟩⟩⟩
theorem lw_p16 : lw_okq (⟨"SwornElsewhere", "lowestTerm", "(JI)J"⟩, 15) := ⟨⟨by decide +kernel, by decide +kernel⟩, List.mem_of_getElem? (i := 14) (by decide +kernel), List.mem_of_getElem? (i := 507) (by decide +kernel), List.mem_of_getElem? (i := 508) (by decide +kernel)⟩
theorem lw_p17 : lw_okq (⟨"SwornElsewhere$Tales", "nextLot", "()I"⟩, 6) := ⟨⟨by decide +kernel, by decide +kernel⟩, List.mem_of_getElem? (i := 45) (by decide +kernel), List.mem_of_getElem? (i := 519) (by decide +kernel), List.mem_of_getElem? (i := 520) (by decide +kernel)⟩
theorem lw_p18 : lw_okq (⟨"SwornElsewhere", "findingAsLeast", "(I)I"⟩, 15) := ⟨⟨by decide +kernel, by decide +kernel⟩, List.mem_of_getElem? (i := 14) (by decide +kernel), List.mem_of_getElem? (i := 558) (by decide +kernel), List.mem_of_getElem? (i := 559) (by decide +kernel)⟩
theorem lw_p19 : lw_okq (⟨"SwornElsewhere", "digestOfTales", "(J)J"⟩, 15) := ⟨⟨by decide +kernel, by decide +kernel⟩, List.mem_of_getElem? (i := 14) (by decide +kernel), List.mem_of_getElem? (i := 592) (by decide +kernel), List.mem_of_getElem? (i := 593) (by decide +kernel)⟩
theorem lw_p20 : lw_okq (⟨"SwornElsewhere", "digestOfCharges", "(J)J"⟩, 15) := ⟨⟨by decide +kernel, by decide +kernel⟩, List.mem_of_getElem? (i := 14) (by decide +kernel), List.mem_of_getElem? (i := 601) (by decide +kernel), List.mem_of_getElem? (i := 602) (by decide +kernel)⟩
theorem lw_p21 : lw_okq (⟨"SwornElsewhereModel", "faultOf", "(I)I"⟩, 44) := ⟨⟨by decide +kernel, by decide +kernel⟩, List.mem_of_getElem? (i := 616) (by decide +kernel), List.mem_of_getElem? (i := 777) (by decide +kernel), List.mem_of_getElem? (i := 778) (by decide +kernel)⟩
theorem lw_p22 : lw_okq (⟨"SwornElsewhereModel", "readsText", "(I)I"⟩, 44) := ⟨⟨by decide +kernel, by decide +kernel⟩, List.mem_of_getElem? (i := 616) (by decide +kernel), List.mem_of_getElem? (i := 781) (by decide +kernel), List.mem_of_getElem? (i := 782) (by decide +kernel)⟩
theorem lw_p23 : lw_okq (⟨"SwornElsewhereModel", "readsTale", "(II)I"⟩, 44) := ⟨⟨by decide +kernel, by decide +kernel⟩, List.mem_of_getElem? (i := 616) (by decide +kernel), List.mem_of_getElem? (i := 785) (by decide +kernel), List.mem_of_getElem? (i := 786) (by decide +kernel)⟩
theorem lw_p24 : lw_okq (⟨"SwornElsewhereModel", "byteAt", "(II)I"⟩, 44) := ⟨⟨by decide +kernel, by decide +kernel⟩, List.mem_of_getElem? (i := 616) (by decide +kernel), List.mem_of_getElem? (i := 789) (by decide +kernel), List.mem_of_getElem? (i := 790) (by decide +kernel)⟩
theorem lw_p25 : lw_okq (⟨"SwornElsewhereModel", "readsCharge", "(II)I"⟩, 44) := ⟨⟨by decide +kernel, by decide +kernel⟩, List.mem_of_getElem? (i := 616) (by decide +kernel), List.mem_of_getElem? (i := 802) (by decide +kernel), List.mem_of_getElem? (i := 803) (by decide +kernel)⟩
theorem lw_p26 : lw_okq (⟨"SwornElsewhereModel", "isTale", "(I)Z"⟩, 44) := ⟨⟨by decide +kernel, by decide +kernel⟩, List.mem_of_getElem? (i := 616) (by decide +kernel), List.mem_of_getElem? (i := 810) (by decide +kernel), List.mem_of_getElem? (i := 811) (by decide +kernel)⟩
theorem lw_p27 : lw_okq (⟨"SwornElsewhereModel", "reads", "()V"⟩, 44) := ⟨⟨by decide +kernel, by decide +kernel⟩, List.mem_of_getElem? (i := 616) (by decide +kernel), List.mem_of_getElem? (i := 814) (by decide +kernel), List.mem_of_getElem? (i := 815) (by decide +kernel)⟩
theorem lw_p28 : lw_okq (⟨"SwornElsewhereModel", "taleOf", "(II)I"⟩, 44) := ⟨⟨by decide +kernel, by decide +kernel⟩, List.mem_of_getElem? (i := 616) (by decide +kernel), List.mem_of_getElem? (i := 818) (by decide +kernel), List.mem_of_getElem? (i := 819) (by decide +kernel)⟩
theorem lw_p29 : lw_okq (⟨"SwornElsewhereModel", "isCharge", "(I)Z"⟩, 44) := ⟨⟨by decide +kernel, by decide +kernel⟩, List.mem_of_getElem? (i := 616) (by decide +kernel), List.mem_of_getElem? (i := 826) (by decide +kernel), List.mem_of_getElem? (i := 827) (by decide +kernel)⟩
theorem lw_p30 : lw_okq (⟨"SwornElsewhereModel", "chargeOf", "(II)I"⟩, 44) := ⟨⟨by decide +kernel, by decide +kernel⟩, List.mem_of_getElem? (i := 616) (by decide +kernel), List.mem_of_getElem? (i := 830) (by decide +kernel), List.mem_of_getElem? (i := 831) (by decide +kernel)⟩
theorem lw_p31 : lw_okq (⟨"SwornElsewhereModel", "meets", "(I)I"⟩, 44) := ⟨⟨by decide +kernel, by decide +kernel⟩, List.mem_of_getElem? (i := 616) (by decide +kernel), List.mem_of_getElem? (i := 856) (by decide +kernel), List.mem_of_getElem? (i := 857) (by decide +kernel)⟩
def lw_privs_2 : List (MethodName × Nat) := [(⟨"SwornElsewhere", "lowestTerm", "(JI)J"⟩, 15), (⟨"SwornElsewhere$Tales", "nextLot", "()I"⟩, 6), (⟨"SwornElsewhere", "findingAsLeast", "(I)I"⟩, 15), (⟨"SwornElsewhere", "digestOfTales", "(J)J"⟩, 15), (⟨"SwornElsewhere", "digestOfCharges", "(J)J"⟩, 15), (⟨"SwornElsewhereModel", "faultOf", "(I)I"⟩, 44), (⟨"SwornElsewhereModel", "readsText", "(I)I"⟩, 44), (⟨"SwornElsewhereModel", "readsTale", "(II)I"⟩, 44), (⟨"SwornElsewhereModel", "byteAt", "(II)I"⟩, 44), (⟨"SwornElsewhereModel", "readsCharge", "(II)I"⟩, 44), (⟨"SwornElsewhereModel", "isTale", "(I)Z"⟩, 44), (⟨"SwornElsewhereModel", "reads", "()V"⟩, 44), (⟨"SwornElsewhereModel", "taleOf", "(II)I"⟩, 44), (⟨"SwornElsewhereModel", "isCharge", "(I)Z"⟩, 44), (⟨"SwornElsewhereModel", "chargeOf", "(II)I"⟩, 44), (⟨"SwornElsewhereModel", "meets", "(I)I"⟩, 44)]
theorem lw_r2 : ∀ q ∈ lw_privs_2, lw_okq q := List.forall_mem_cons.mpr ⟨lw_p16, List.forall_mem_cons.mpr ⟨lw_p17, List.forall_mem_cons.mpr ⟨lw_p18, List.forall_mem_cons.mpr ⟨lw_p19, List.forall_mem_cons.mpr ⟨lw_p20, List.forall_mem_cons.mpr ⟨lw_p21, List.forall_mem_cons.mpr ⟨lw_p22, List.forall_mem_cons.mpr ⟨lw_p23, List.forall_mem_cons.mpr ⟨lw_p24, List.forall_mem_cons.mpr ⟨lw_p25, List.forall_mem_cons.mpr ⟨lw_p26, List.forall_mem_cons.mpr ⟨lw_p27, List.forall_mem_cons.mpr ⟨lw_p28, List.forall_mem_cons.mpr ⟨lw_p29, List.forall_mem_cons.mpr ⟨lw_p30, List.forall_mem_cons.mpr ⟨lw_p31, fun _ h => absurd h List.not_mem_nil⟩⟩⟩⟩⟩⟩⟩⟩⟩⟩⟩⟩⟩⟩⟩⟩
theorem lw_p32 : lw_okq (⟨"SwornElsewhereModel", "clashOf", "(II)I"⟩, 44) := ⟨⟨by decide +kernel, by decide +kernel⟩, List.mem_of_getElem? (i := 616) (by decide +kernel), List.mem_of_getElem? (i := 865) (by decide +kernel), List.mem_of_getElem? (i := 866) (by decide +kernel)⟩
theorem lw_p33 : lw_okq (⟨"SwornElsewhereModel", "asTold", "()V"⟩, 44) := ⟨⟨by decide +kernel, by decide +kernel⟩, List.mem_of_getElem? (i := 616) (by decide +kernel), List.mem_of_getElem? (i := 869) (by decide +kernel), List.mem_of_getElem? (i := 870) (by decide +kernel)⟩
theorem lw_p34 : lw_okq (⟨"SwornElsewhereModel", "clashes", "(II)Z"⟩, 44) := ⟨⟨by decide +kernel, by decide +kernel⟩, List.mem_of_getElem? (i := 616) (by decide +kernel), List.mem_of_getElem? (i := 873) (by decide +kernel), List.mem_of_getElem? (i := 874) (by decide +kernel)⟩
theorem lw_p35 : lw_okq (⟨"SwornElsewhereModel", "standsOf", "(II)I"⟩, 44) := ⟨⟨by decide +kernel, by decide +kernel⟩, List.mem_of_getElem? (i := 616) (by decide +kernel), List.mem_of_getElem? (i := 884) (by decide +kernel), List.mem_of_getElem? (i := 885) (by decide +kernel)⟩
theorem lw_p36 : lw_okq (⟨"SwornElsewhereModel", "runsTold", "()V"⟩, 44) := ⟨⟨by decide +kernel, by decide +kernel⟩, List.mem_of_getElem? (i := 616) (by decide +kernel), List.mem_of_getElem? (i := 888) (by decide +kernel), List.mem_of_getElem? (i := 889) (by decide +kernel)⟩
theorem lw_p37 : lw_okq (⟨"SwornElsewhereModel", "runs", "()V"⟩, 44) := ⟨⟨by decide +kernel, by decide +kernel⟩, List.mem_of_getElem? (i := 616) (by decide +kernel), List.mem_of_getElem? (i := 892) (by decide +kernel), List.mem_of_getElem? (i := 893) (by decide +kernel)⟩
theorem lw_p38 : lw_okq (⟨"SwornElsewhereModel", "countsAll", "()V"⟩, 44) := ⟨⟨by decide +kernel, by decide +kernel⟩, List.mem_of_getElem? (i := 616) (by decide +kernel), List.mem_of_getElem? (i := 896) (by decide +kernel), List.mem_of_getElem? (i := 897) (by decide +kernel)⟩
theorem lw_p39 : lw_okq (⟨"SwornElsewhereModel", "isShaken", "(I)Z"⟩, 44) := ⟨⟨by decide +kernel, by decide +kernel⟩, List.mem_of_getElem? (i := 616) (by decide +kernel), List.mem_of_getElem? (i := 900) (by decide +kernel), List.mem_of_getElem? (i := 901) (by decide +kernel)⟩
theorem lw_p40 : lw_okq (⟨"SwornElsewhereModel", "weighsAll", "()V"⟩, 44) := ⟨⟨by decide +kernel, by decide +kernel⟩, List.mem_of_getElem? (i := 616) (by decide +kernel), List.mem_of_getElem? (i := 907) (by decide +kernel), List.mem_of_getElem? (i := 908) (by decide +kernel)⟩
theorem lw_p41 : lw_okq (⟨"SwornElsewhereModel", "others", "(I)I"⟩, 44) := ⟨⟨by decide +kernel, by decide +kernel⟩, List.mem_of_getElem? (i := 616) (by decide +kernel), List.mem_of_getElem? (i := 911) (by decide +kernel), List.mem_of_getElem? (i := 912) (by decide +kernel)⟩
theorem lw_p42 : lw_okq (⟨"SwornElsewhereModel", "isLiar", "(I)Z"⟩, 44) := ⟨⟨by decide +kernel, by decide +kernel⟩, List.mem_of_getElem? (i := 616) (by decide +kernel), List.mem_of_getElem? (i := 915) (by decide +kernel), List.mem_of_getElem? (i := 916) (by decide +kernel)⟩
theorem lw_p43 : lw_okq (⟨"SwornElsewhereModel", "standsIn", "(I)V"⟩, 44) := ⟨⟨by decide +kernel, by decide +kernel⟩, List.mem_of_getElem? (i := 616) (by decide +kernel), List.mem_of_getElem? (i := 919) (by decide +kernel), List.mem_of_getElem? (i := 920) (by decide +kernel)⟩
theorem lw_p44 : lw_okq (⟨"SwornElsewhereModel", "letters", "(II)I"⟩, 44) := ⟨⟨by decide +kernel, by decide +kernel⟩, List.mem_of_getElem? (i := 616) (by decide +kernel), List.mem_of_getElem? (i := 923) (by decide +kernel), List.mem_of_getElem? (i := 924) (by decide +kernel)⟩
theorem lw_p45 : lw_okq (⟨"SwornElsewhereModel", "beliefNow", "(I)I"⟩, 44) := ⟨⟨by decide +kernel, by decide +kernel⟩, List.mem_of_getElem? (i := 616) (by decide +kernel), List.mem_of_getElem? (i := 927) (by decide +kernel), List.mem_of_getElem? (i := 928) (by decide +kernel)⟩
theorem lw_p46 : lw_okq (⟨"SwornElsewhereModel", "bestTown", "(I)I"⟩, 44) := ⟨⟨by decide +kernel, by decide +kernel⟩, List.mem_of_getElem? (i := 616) (by decide +kernel), List.mem_of_getElem? (i := 931) (by decide +kernel), List.mem_of_getElem? (i := 932) (by decide +kernel)⟩
theorem lw_p47 : lw_okq (⟨"SwornElsewhereModel", "manOf", "(III)I"⟩, 44) := ⟨⟨by decide +kernel, by decide +kernel⟩, List.mem_of_getElem? (i := 616) (by decide +kernel), List.mem_of_getElem? (i := 939) (by decide +kernel), List.mem_of_getElem? (i := 940) (by decide +kernel)⟩
def lw_privs_3 : List (MethodName × Nat) := [(⟨"SwornElsewhereModel", "clashOf", "(II)I"⟩, 44), (⟨"SwornElsewhereModel", "asTold", "()V"⟩, 44), (⟨"SwornElsewhereModel", "clashes", "(II)Z"⟩, 44), (⟨"SwornElsewhereModel", "standsOf", "(II)I"⟩, 44), (⟨"SwornElsewhereModel", "runsTold", "()V"⟩, 44), (⟨"SwornElsewhereModel", "runs", "()V"⟩, 44), (⟨"SwornElsewhereModel", "countsAll", "()V"⟩, 44), (⟨"SwornElsewhereModel", "isShaken", "(I)Z"⟩, 44), (⟨"SwornElsewhereModel", "weighsAll", "()V"⟩, 44), (⟨"SwornElsewhereModel", "others", "(I)I"⟩, 44), (⟨"SwornElsewhereModel", "isLiar", "(I)Z"⟩, 44), (⟨"SwornElsewhereModel", "standsIn", "(I)V"⟩, 44), (⟨"SwornElsewhereModel", "letters", "(II)I"⟩, 44), (⟨"SwornElsewhereModel", "beliefNow", "(I)I"⟩, 44), (⟨"SwornElsewhereModel", "bestTown", "(I)I"⟩, 44), (⟨"SwornElsewhereModel", "manOf", "(III)I"⟩, 44)]
theorem lw_r3 : ∀ q ∈ lw_privs_3, lw_okq q := List.forall_mem_cons.mpr ⟨lw_p32, List.forall_mem_cons.mpr ⟨lw_p33, List.forall_mem_cons.mpr ⟨lw_p34, List.forall_mem_cons.mpr ⟨lw_p35, List.forall_mem_cons.mpr ⟨lw_p36, List.forall_mem_cons.mpr ⟨lw_p37, List.forall_mem_cons.mpr ⟨lw_p38, List.forall_mem_cons.mpr ⟨lw_p39, List.forall_mem_cons.mpr ⟨lw_p40, List.forall_mem_cons.mpr ⟨lw_p41, List.forall_mem_cons.mpr ⟨lw_p42, List.forall_mem_cons.mpr ⟨lw_p43, List.forall_mem_cons.mpr ⟨lw_p44, List.forall_mem_cons.mpr ⟨lw_p45, List.forall_mem_cons.mpr ⟨lw_p46, List.forall_mem_cons.mpr ⟨lw_p47, fun _ h => absurd h List.not_mem_nil⟩⟩⟩⟩⟩⟩⟩⟩⟩⟩⟩⟩⟩⟩⟩⟩
theorem lw_p48 : lw_okq (⟨"SwornElsewhereModel", "beliefOf", "(I)I"⟩, 44) := ⟨⟨by decide +kernel, by decide +kernel⟩, List.mem_of_getElem? (i := 616) (by decide +kernel), List.mem_of_getElem? (i := 947) (by decide +kernel), List.mem_of_getElem? (i := 948) (by decide +kernel)⟩
theorem lw_p49 : lw_okq (⟨"SwornElsewhereModel", "clearedOf", "(II)I"⟩, 44) := ⟨⟨by decide +kernel, by decide +kernel⟩, List.mem_of_getElem? (i := 616) (by decide +kernel), List.mem_of_getElem? (i := 956) (by decide +kernel), List.mem_of_getElem? (i := 957) (by decide +kernel)⟩
theorem lw_p50 : lw_okq (⟨"SwornElsewhereModel", "sumOf", "(I)I"⟩, 44) := ⟨⟨by decide +kernel, by decide +kernel⟩, List.mem_of_getElem? (i := 616) (by decide +kernel), List.mem_of_getElem? (i := 964) (by decide +kernel), List.mem_of_getElem? (i := 965) (by decide +kernel)⟩
theorem lw_p51 : lw_okq (⟨"SwornElsewhereModel", "countMany", "()I"⟩, 44) := ⟨⟨by decide +kernel, by decide +kernel⟩, List.mem_of_getElem? (i := 616) (by decide +kernel), List.mem_of_getElem? (i := 971) (by decide +kernel), List.mem_of_getElem? (i := 972) (by decide +kernel)⟩
theorem lw_p52 : lw_okq (⟨"SwornElsewhereModel", "menOf", "(I)I"⟩, 44) := ⟨⟨by decide +kernel, by decide +kernel⟩, List.mem_of_getElem? (i := 616) (by decide +kernel), List.mem_of_getElem? (i := 975) (by decide +kernel), List.mem_of_getElem? (i := 976) (by decide +kernel)⟩
theorem lw_p53 : lw_okq (⟨"SwornElsewhereModel", "liarOf", "()I"⟩, 44) := ⟨⟨by decide +kernel, by decide +kernel⟩, List.mem_of_getElem? (i := 616) (by decide +kernel), List.mem_of_getElem? (i := 983) (by decide +kernel), List.mem_of_getElem? (i := 984) (by decide +kernel)⟩
theorem lw_p54 : lw_okq (⟨"SwornElsewhereModel", "bestOf", "()I"⟩, 44) := ⟨⟨by decide +kernel, by decide +kernel⟩, List.mem_of_getElem? (i := 616) (by decide +kernel), List.mem_of_getElem? (i := 991) (by decide +kernel), List.mem_of_getElem? (i := 992) (by decide +kernel)⟩
theorem lw_p55 : lw_okq (⟨"SwornElsewhereModel", "whereOf", "(I)I"⟩, 44) := ⟨⟨by decide +kernel, by decide +kernel⟩, List.mem_of_getElem? (i := 616) (by decide +kernel), List.mem_of_getElem? (i := 999) (by decide +kernel), List.mem_of_getElem? (i := 1000) (by decide +kernel)⟩
theorem lw_p56 : lw_okq (⟨"SwornElsewhereModel", "moveOf", "(II)I"⟩, 44) := ⟨⟨by decide +kernel, by decide +kernel⟩, List.mem_of_getElem? (i := 616) (by decide +kernel), List.mem_of_getElem? (i := 1010) (by decide +kernel), List.mem_of_getElem? (i := 1011) (by decide +kernel)⟩
theorem lw_p57 : lw_okq (⟨"SwornElsewhereModel", "starts", "()V"⟩, 44) := ⟨⟨by decide +kernel, by decide +kernel⟩, List.mem_of_getElem? (i := 616) (by decide +kernel), List.mem_of_getElem? (i := 1014) (by decide +kernel), List.mem_of_getElem? (i := 1015) (by decide +kernel)⟩
theorem lw_p58 : lw_okq (⟨"SwornElsewhereModel", "tries", "(I)V"⟩, 44) := ⟨⟨by decide +kernel, by decide +kernel⟩, List.mem_of_getElem? (i := 616) (by decide +kernel), List.mem_of_getElem? (i := 1018) (by decide +kernel), List.mem_of_getElem? (i := 1019) (by decide +kernel)⟩
theorem lw_p59 : lw_okq (⟨"SwornElsewhereModel", "dropOf", "(I)I"⟩, 44) := ⟨⟨by decide +kernel, by decide +kernel⟩, List.mem_of_getElem? (i := 616) (by decide +kernel), List.mem_of_getElem? (i := 1026) (by decide +kernel), List.mem_of_getElem? (i := 1027) (by decide +kernel)⟩
theorem lw_p60 : lw_okq (⟨"SwornElsewhereModel", "cleanOf", "(I)I"⟩, 44) := ⟨⟨by decide +kernel, by decide +kernel⟩, List.mem_of_getElem? (i := 616) (by decide +kernel), List.mem_of_getElem? (i := 1034) (by decide +kernel), List.mem_of_getElem? (i := 1035) (by decide +kernel)⟩
theorem lw_p61 : lw_okq (⟨"SwornElsewhereModel", "spareBy", "()I"⟩, 44) := ⟨⟨by decide +kernel, by decide +kernel⟩, List.mem_of_getElem? (i := 616) (by decide +kernel), List.mem_of_getElem? (i := 1042) (by decide +kernel), List.mem_of_getElem? (i := 1043) (by decide +kernel)⟩
theorem lw_p62 : lw_okq (⟨"SwornElsewhereModel", "isSpared", "(I)Z"⟩, 44) := ⟨⟨by decide +kernel, by decide +kernel⟩, List.mem_of_getElem? (i := 616) (by decide +kernel), List.mem_of_getElem? (i := 1046) (by decide +kernel), List.mem_of_getElem? (i := 1047) (by decide +kernel)⟩
theorem lw_p63 : lw_okq (⟨"SwornElsewhereModel", "ofRow", "(II)I"⟩, 44) := ⟨⟨by decide +kernel, by decide +kernel⟩, List.mem_of_getElem? (i := 616) (by decide +kernel), List.mem_of_getElem? (i := 1050) (by decide +kernel), List.mem_of_getElem? (i := 1051) (by decide +kernel)⟩
def lw_privs_4 : List (MethodName × Nat) := [(⟨"SwornElsewhereModel", "beliefOf", "(I)I"⟩, 44), (⟨"SwornElsewhereModel", "clearedOf", "(II)I"⟩, 44), (⟨"SwornElsewhereModel", "sumOf", "(I)I"⟩, 44), (⟨"SwornElsewhereModel", "countMany", "()I"⟩, 44), (⟨"SwornElsewhereModel", "menOf", "(I)I"⟩, 44), (⟨"SwornElsewhereModel", "liarOf", "()I"⟩, 44), (⟨"SwornElsewhereModel", "bestOf", "()I"⟩, 44), (⟨"SwornElsewhereModel", "whereOf", "(I)I"⟩, 44), (⟨"SwornElsewhereModel", "moveOf", "(II)I"⟩, 44), (⟨"SwornElsewhereModel", "starts", "()V"⟩, 44), (⟨"SwornElsewhereModel", "tries", "(I)V"⟩, 44), (⟨"SwornElsewhereModel", "dropOf", "(I)I"⟩, 44), (⟨"SwornElsewhereModel", "cleanOf", "(I)I"⟩, 44), (⟨"SwornElsewhereModel", "spareBy", "()I"⟩, 44), (⟨"SwornElsewhereModel", "isSpared", "(I)Z"⟩, 44), (⟨"SwornElsewhereModel", "ofRow", "(II)I"⟩, 44)]
theorem lw_r4 : ∀ q ∈ lw_privs_4, lw_okq q := List.forall_mem_cons.mpr ⟨lw_p48, List.forall_mem_cons.mpr ⟨lw_p49, List.forall_mem_cons.mpr ⟨lw_p50, List.forall_mem_cons.mpr ⟨lw_p51, List.forall_mem_cons.mpr ⟨lw_p52, List.forall_mem_cons.mpr ⟨lw_p53, List.forall_mem_cons.mpr ⟨lw_p54, List.forall_mem_cons.mpr ⟨lw_p55, List.forall_mem_cons.mpr ⟨lw_p56, List.forall_mem_cons.mpr ⟨lw_p57, List.forall_mem_cons.mpr ⟨lw_p58, List.forall_mem_cons.mpr ⟨lw_p59, List.forall_mem_cons.mpr ⟨lw_p60, List.forall_mem_cons.mpr ⟨lw_p61, List.forall_mem_cons.mpr ⟨lw_p62, List.forall_mem_cons.mpr ⟨lw_p63, fun _ h => absurd h List.not_mem_nil⟩⟩⟩⟩⟩⟩⟩⟩⟩⟩⟩⟩⟩⟩⟩⟩
theorem lw_p64 : lw_okq (⟨"SwornElsewhereModel", "neverNow", "()I"⟩, 44) := ⟨⟨by decide +kernel, by decide +kernel⟩, List.mem_of_getElem? (i := 616) (by decide +kernel), List.mem_of_getElem? (i := 1066) (by decide +kernel), List.mem_of_getElem? (i := 1067) (by decide +kernel)⟩
theorem lw_p65 : lw_okq (⟨"SwornElsewhereModel", "isSeen", "()Z"⟩, 44) := ⟨⟨by decide +kernel, by decide +kernel⟩, List.mem_of_getElem? (i := 616) (by decide +kernel), List.mem_of_getElem? (i := 1070) (by decide +kernel), List.mem_of_getElem? (i := 1071) (by decide +kernel)⟩
theorem lw_p66 : lw_okq (⟨"SwornElsewhereModel", "whoseBy", "(I)I"⟩, 44) := ⟨⟨by decide +kernel, by decide +kernel⟩, List.mem_of_getElem? (i := 616) (by decide +kernel), List.mem_of_getElem? (i := 1078) (by decide +kernel), List.mem_of_getElem? (i := 1079) (by decide +kernel)⟩
theorem lw_p67 : lw_okq (⟨"SwornElsewhereModel", "sortsBy", "(I)I"⟩, 44) := ⟨⟨by decide +kernel, by decide +kernel⟩, List.mem_of_getElem? (i := 616) (by decide +kernel), List.mem_of_getElem? (i := 1082) (by decide +kernel), List.mem_of_getElem? (i := 1083) (by decide +kernel)⟩
theorem lw_p68 : lw_okq (⟨"SwornElsewhereModel", "askOf", "(I)I"⟩, 44) := ⟨⟨by decide +kernel, by decide +kernel⟩, List.mem_of_getElem? (i := 616) (by decide +kernel), List.mem_of_getElem? (i := 1090) (by decide +kernel), List.mem_of_getElem? (i := 1091) (by decide +kernel)⟩
theorem lw_p69 : lw_okq (⟨"SwornElsewhereModel", "chanceOf", "(III)J"⟩, 44) := ⟨⟨by decide +kernel, by decide +kernel⟩, List.mem_of_getElem? (i := 616) (by decide +kernel), List.mem_of_getElem? (i := 1098) (by decide +kernel), List.mem_of_getElem? (i := 1099) (by decide +kernel)⟩
theorem lw_p70 : lw_okq (⟨"SwornElsewhereModel", "livesOf", "(III)I"⟩, 44) := ⟨⟨by decide +kernel, by decide +kernel⟩, List.mem_of_getElem? (i := 616) (by decide +kernel), List.mem_of_getElem? (i := 1113) (by decide +kernel), List.mem_of_getElem? (i := 1114) (by decide +kernel)⟩
theorem lw_p71 : lw_okq (⟨"SwornElsewhereModel", "lacks", "(III)I"⟩, 44) := ⟨⟨by decide +kernel, by decide +kernel⟩, List.mem_of_getElem? (i := 616) (by decide +kernel), List.mem_of_getElem? (i := 1130) (by decide +kernel), List.mem_of_getElem? (i := 1131) (by decide +kernel)⟩
theorem lw_p72 : lw_okq (⟨"SwornElsewhereModel", "keep", "(III)V"⟩, 44) := ⟨⟨by decide +kernel, by decide +kernel⟩, List.mem_of_getElem? (i := 616) (by decide +kernel), List.mem_of_getElem? (i := 1134) (by decide +kernel), List.mem_of_getElem? (i := 1135) (by decide +kernel)⟩
theorem lw_p73 : lw_okq (⟨"SwornElsewhereModel", "tellOf", "(I)I"⟩, 44) := ⟨⟨by decide +kernel, by decide +kernel⟩, List.mem_of_getElem? (i := 616) (by decide +kernel), List.mem_of_getElem? (i := 1154) (by decide +kernel), List.mem_of_getElem? (i := 1155) (by decide +kernel)⟩
theorem lw_p74 : lw_okq (⟨"SwornElsewhereModel", "taleDigest", "(JI)J"⟩, 44) := ⟨⟨by decide +kernel, by decide +kernel⟩, List.mem_of_getElem? (i := 616) (by decide +kernel), List.mem_of_getElem? (i := 1165) (by decide +kernel), List.mem_of_getElem? (i := 1166) (by decide +kernel)⟩
theorem lw_p75 : lw_okq (⟨"SwornElsewhereModel", "chargeDigest", "(JI)J"⟩, 44) := ⟨⟨by decide +kernel, by decide +kernel⟩, List.mem_of_getElem? (i := 616) (by decide +kernel), List.mem_of_getElem? (i := 1169) (by decide +kernel), List.mem_of_getElem? (i := 1170) (by decide +kernel)⟩
def lw_privs_5 : List (MethodName × Nat) := [(⟨"SwornElsewhereModel", "neverNow", "()I"⟩, 44), (⟨"SwornElsewhereModel", "isSeen", "()Z"⟩, 44), (⟨"SwornElsewhereModel", "whoseBy", "(I)I"⟩, 44), (⟨"SwornElsewhereModel", "sortsBy", "(I)I"⟩, 44), (⟨"SwornElsewhereModel", "askOf", "(I)I"⟩, 44), (⟨"SwornElsewhereModel", "chanceOf", "(III)J"⟩, 44), (⟨"SwornElsewhereModel", "livesOf", "(III)I"⟩, 44), (⟨"SwornElsewhereModel", "lacks", "(III)I"⟩, 44), (⟨"SwornElsewhereModel", "keep", "(III)V"⟩, 44), (⟨"SwornElsewhereModel", "tellOf", "(I)I"⟩, 44), (⟨"SwornElsewhereModel", "taleDigest", "(JI)J"⟩, 44), (⟨"SwornElsewhereModel", "chargeDigest", "(JI)J"⟩, 44)]
theorem lw_r5 : ∀ q ∈ lw_privs_5, lw_okq q := List.forall_mem_cons.mpr ⟨lw_p64, List.forall_mem_cons.mpr ⟨lw_p65, List.forall_mem_cons.mpr ⟨lw_p66, List.forall_mem_cons.mpr ⟨lw_p67, List.forall_mem_cons.mpr ⟨lw_p68, List.forall_mem_cons.mpr ⟨lw_p69, List.forall_mem_cons.mpr ⟨lw_p70, List.forall_mem_cons.mpr ⟨lw_p71, List.forall_mem_cons.mpr ⟨lw_p72, List.forall_mem_cons.mpr ⟨lw_p73, List.forall_mem_cons.mpr ⟨lw_p74, List.forall_mem_cons.mpr ⟨lw_p75, fun _ h => absurd h List.not_mem_nil⟩⟩⟩⟩⟩⟩⟩⟩⟩⟩⟩⟩
def lw_privs : List (MethodName × Nat) := lw_privs_1 ++ (lw_privs_2 ++ (lw_privs_3 ++ (lw_privs_4 ++ (lw_privs_5))))
def lw_tbl : List Cond := k2_sels lw_privs ++ tables_1
theorem lw_privs_ok : ∀ q ∈ lw_privs, lw_okq q := by
  show ∀ q ∈ lw_privs_1 ++ (lw_privs_2 ++ (lw_privs_3 ++ (lw_privs_4 ++ (lw_privs_5)))), lw_okq q
  exact List.forall_mem_append.mpr ⟨lw_r1, List.forall_mem_append.mpr ⟨lw_r2, List.forall_mem_append.mpr ⟨lw_r3, List.forall_mem_append.mpr ⟨lw_r4, lw_r5⟩⟩⟩⟩
-- ===== end of PART A; then your names; then what follows =====
/-! ===== BEGIN words of one list among another's, by their places ===== -/
theorem goodIn_r {big : List Cond} (ws : List Cond) (ps : List Nat) (hp : ws = ps.filterMap (fun i => big[i]?)) (h : ws.all goodWord = true) : GoodIn big ws := by
  intro w hw
  have h1 := List.all_eq_true.mp h w hw
  rw [hp] at hw
  obtain ⟨i, -, hi⟩ := List.mem_filterMap.mp hw
  have hm : w ∈ big := by first | exact List.mem_of_getElem? hi | exact List.getElem?_mem hi
  exact ⟨hm, good_of_word h1⟩
theorem goodIn_app {big a b : List Cond} (ha : GoodIn big a) (hb : GoodIn big b) : GoodIn big (a ++ b) := fun w h => (List.mem_append.mp h).elim (ha w) (hb w)
theorem goodIn_ca {big a b : List Cond} {c : Cond} (ha : GoodIn big (c :: a)) (hb : GoodIn big b) : GoodIn big (c :: (a ++ b)) := fun w h => (List.mem_cons.mp h).elim (fun e => ha w (List.mem_cons.mpr (Or.inl e))) (fun h => (List.mem_append.mp h).elim (fun h => ha w (List.mem_cons.mpr (Or.inr h))) (hb w))
theorem goodIn_sub {big ws : List Cond} (hm : ∀ w ∈ ws, w ∈ big) (h : ws.all goodWord = true) : GoodIn big ws := fun w hw => ⟨hm w hw, good_of_word (List.all_eq_true.mp h w hw)⟩
/-! ===== END ===== -/
/-! ===== BEGIN printed: names, fields, word lists, decode rows ===== -/
def RX0 : String := "SwornElsewhere$Bench"
def TX0 : u_T := fun k => match k with
  | 0 => ("SwornElsewhere$Bench", "counts", "[Z", true)
  | 1 => ("SwornElsewhere$Bench", "weight", "[I", true)
  | 2 => ("SwornElsewhere$Bench", "counted", "I", false)
  | 3 => ("SwornElsewhere$Bench", "birth", "[I", true)
  | 4 => ("SwornElsewhere$Bench", "kind", "[I", true)
  | 5 => ("SwornElsewhere$Bench", "events", "LSwornElsewhere$Events;", true)
  | _ => ("SwornElsewhere$Bench", "tales", "LSwornElsewhere$Tales;", false)
def tyX0 : Nat → FieldType := fun k => match k with
  | 0 => .array .boolean
  | 1 => .array .int
  | 2 => .int
  | 3 => .array .int
  | 4 => .array .int
  | 5 => .object "SwornElsewhere$Events"
  | _ => .object "SwornElsewhere$Tales"
abbrev wsX00 : List Cond := u_ws RX0 TX0 7
theorem nmX0 : ∀ a, a < 7 → ∀ b, b < 7 → a ≠ b → (TX0 a).2.1 ≠ (TX0 b).2.1 := by decide +kernel
theorem tyX0_ok : ∀ k, k < 7 → parseFieldDescriptor (TX0 k).2.2.1 = some (tyX0 k) := by decide +kernel
abbrev cX0_init : ByteArray := prog_2_method_1_code
def yX0_init : MethodName := ⟨RX0, "<init>", "(LSwornElsewhere$Tales;LSwornElsewhere$Events;)V"⟩
abbrev cX0_hear : ByteArray := prog_2_method_2_code
def yX0_hear : MethodName := ⟨RX0, "hear", "(LSwornElsewhere$Tales;I)V"⟩
abbrev cX0_spoiled : ByteArray := prog_2_method_3_code
def yX0_spoiled : MethodName := ⟨RX0, "spoiled", "(I)Z"⟩
abbrev cX0_firstAgainst : ByteArray := prog_2_method_4_code
def yX0_firstAgainst : MethodName := ⟨RX0, "firstAgainst", "(I)I"⟩
abbrev cX0_weigh : ByteArray := prog_2_method_5_code
def yX0_weigh : MethodName := ⟨RX0, "weigh", "(I)I"⟩
abbrev cX0_othersFor : ByteArray := prog_2_method_6_code
def yX0_othersFor : MethodName := ⟨RX0, "othersFor", "(I)I"⟩
abbrev cX0_fallenOf : ByteArray := prog_2_method_7_code
def yX0_fallenOf : MethodName := ⟨RX0, "fallenOf", "(I)I"⟩
abbrev cX0_standing : ByteArray := prog_2_method_8_code
def yX0_standing : MethodName := ⟨RX0, "standing", "(II)I"⟩
abbrev cX0_menOfRank : ByteArray := prog_2_method_9_code
def yX0_menOfRank : MethodName := ⟨RX0, "menOfRank", "(I)I"⟩
abbrev cX0_weightIn : ByteArray := prog_2_method_10_code
def yX0_weightIn : MethodName := ⟨RX0, "weightIn", "(II)I"⟩
abbrev cX0_support : ByteArray := prog_2_method_11_code
def yX0_support : MethodName := ⟨RX0, "support", "(II)I"⟩
abbrev cX0_trust : ByteArray := prog_2_method_12_code
def yX0_trust : MethodName := ⟨RX0, "trust", "(II)I"⟩
abbrev cX0_trustedTown : ByteArray := prog_2_method_13_code
def yX0_trustedTown : MethodName := ⟨RX0, "trustedTown", "(II)I"⟩
abbrev cX0_swornTowns : ByteArray := prog_2_method_14_code
def yX0_swornTowns : MethodName := ⟨RX0, "swornTowns", "(I)I"⟩
def RX1 : String := "SwornElsewhere$Charges"
def TX1 : u_T := fun k => match k with
  | 0 => ("SwornElsewhere$Charges", "night", "[I", true)
  | 1 => ("SwornElsewhere$Charges", "town", "[I", true)
  | _ => ("SwornElsewhere$Charges", "size", "I", false)
def tyX1 : Nat → FieldType := fun k => match k with
  | 0 => .array .int
  | 1 => .array .int
  | _ => .int
abbrev wsX10 : List Cond := u_ws RX1 TX1 3
theorem nmX1 : ∀ a, a < 3 → ∀ b, b < 3 → a ≠ b → (TX1 a).2.1 ≠ (TX1 b).2.1 := by decide +kernel
theorem tyX1_ok : ∀ k, k < 3 → parseFieldDescriptor (TX1 k).2.2.1 = some (tyX1 k) := by decide +kernel
abbrev cX1_init : ByteArray := prog_3_method_1_code
def yX1_init : MethodName := ⟨RX1, "<init>", "()V"⟩
abbrev cX1_takeFrom : ByteArray := prog_3_method_2_code
def yX1_takeFrom : MethodName := ⟨RX1, "takeFrom", "(LSwornElsewhere$Text;)V"⟩
def RX2 : String := "SwornElsewhere$Events"
def TX2 : u_T := fun k => match k with
  | 0 => ("SwornElsewhere$Events", "kind", "[I", true)
  | 1 => ("SwornElsewhere$Events", "night", "[I", true)
  | 2 => ("SwornElsewhere$Events", "number", "[I", true)
  | _ => ("SwornElsewhere$Events", "size", "I", false)
def tyX2 : Nat → FieldType := fun k => match k with
  | 0 => .array .int
  | 1 => .array .int
  | 2 => .array .int
  | _ => .int
abbrev wsX20 : List Cond := u_ws RX2 TX2 4
theorem nmX2 : ∀ a, a < 4 → ∀ b, b < 4 → a ≠ b → (TX2 a).2.1 ≠ (TX2 b).2.1 := by decide +kernel
theorem tyX2_ok : ∀ k, k < 4 → parseFieldDescriptor (TX2 k).2.2.1 = some (tyX2 k) := by decide +kernel
abbrev cX2_init : ByteArray := prog_4_method_1_code
def yX2_init : MethodName := ⟨RX2, "<init>", "()V"⟩
abbrev cX2_all : ByteArray := prog_4_method_2_code
def yX2_all : MethodName := ⟨RX2, "all", "()I"⟩
def RX3 : String := "SwornElsewhere$Sheet"
def TX3 : u_T := fun k => match k with
  | 0 => ("SwornElsewhere$Sheet", "form", "I", true)
  | _ => ("SwornElsewhere$Sheet", "items", "[I", true)
def tyX3 : Nat → FieldType := fun k => match k with
  | 0 => .int
  | _ => .array .int
abbrev wsX30 : List Cond := u_ws RX3 TX3 2
theorem nmX3 : ∀ a, a < 2 → ∀ b, b < 2 → a ≠ b → (TX3 a).2.1 ≠ (TX3 b).2.1 := by decide +kernel
theorem tyX3_ok : ∀ k, k < 2 → parseFieldDescriptor (TX3 k).2.2.1 = some (tyX3 k) := by decide +kernel
abbrev cX3_init : ByteArray := prog_5_method_1_code
def yX3_init : MethodName := ⟨RX3, "<init>", "(II)V"⟩
abbrev cX3_cut : ByteArray := prog_5_method_2_code
def yX3_cut : MethodName := ⟨RX3, "cut", "(I)I"⟩
abbrev cX3_spans : ByteArray := prog_5_method_3_code
def yX3_spans : MethodName := ⟨RX3, "spans", "(II)Z"⟩
def RX4 : String := "SwornElsewhere$Tales"
def TX4 : u_T := fun k => match k with
  | 0 => ("SwornElsewhere$Tales", "night", "[I", true)
  | 1 => ("SwornElsewhere$Tales", "town", "[I", true)
  | 2 => ("SwornElsewhere$Tales", "witness", "[I", true)
  | 3 => ("SwornElsewhere$Tales", "sort", "[I", true)
  | 4 => ("SwornElsewhere$Tales", "size", "I", false)
  | _ => ("SwornElsewhere$Tales", "lotSeed", "I", false)
def tyX4 : Nat → FieldType := fun k => match k with
  | 0 => .array .int
  | 1 => .array .int
  | 2 => .array .int
  | 3 => .array .int
  | 4 => .int
  | _ => .int
abbrev wsX40 : List Cond := u_ws RX4 TX4 6
theorem nmX4 : ∀ a, a < 6 → ∀ b, b < 6 → a ≠ b → (TX4 a).2.1 ≠ (TX4 b).2.1 := by decide +kernel
theorem tyX4_ok : ∀ k, k < 6 → parseFieldDescriptor (TX4 k).2.2.1 = some (tyX4 k) := by decide +kernel
abbrev cX4_init : ByteArray := prog_6_method_1_code
def yX4_init : MethodName := ⟨RX4, "<init>", "()V"⟩
abbrev cX4_takeFrom : ByteArray := prog_6_method_2_code
def yX4_takeFrom : MethodName := ⟨RX4, "takeFrom", "(LSwornElsewhere$Text;)V"⟩
abbrev cX4_becomeLike : ByteArray := prog_6_method_3_code
def yX4_becomeLike : MethodName := ⟨RX4, "becomeLike", "(LSwornElsewhere$Tales;)V"⟩
abbrev cX4_leaveOut : ByteArray := prog_6_method_4_code
def yX4_leaveOut : MethodName := ⟨RX4, "leaveOut", "(I)V"⟩
abbrev cX4_takeOver : ByteArray := prog_6_method_5_code
def yX4_takeOver : MethodName := ⟨RX4, "takeOver", "(ILSwornElsewhere$Tales;I)V"⟩
abbrev cX4_drawLots : ByteArray := prog_6_method_6_code
def yX4_drawLots : MethodName := ⟨RX4, "drawLots", "(II)V"⟩
abbrev cX4_nextLot : ByteArray := prog_6_method_7_code
def yX4_nextLot : MethodName := ⟨RX4, "nextLot", "()I"⟩
abbrev cX4_apart : ByteArray := prog_6_method_8_code
def yX4_apart : MethodName := ⟨RX4, "apart", "(II)Z"⟩
abbrev cX4_together : ByteArray := prog_6_method_9_code
def yX4_together : MethodName := ⟨RX4, "together", "(I)Z"⟩
def RX5 : String := "SwornElsewhere$Text"
def TX5 : u_T := fun k => match k with
  | 0 => ("SwornElsewhere$Text", "bytes", "[I", true)
  | 1 => ("SwornElsewhere$Text", "step", "I", true)
  | _ => ("SwornElsewhere$Text", "size", "I", false)
def tyX5 : Nat → FieldType := fun k => match k with
  | 0 => .array .int
  | 1 => .int
  | _ => .int
abbrev wsX50 : List Cond := u_ws RX5 TX5 3
theorem nmX5 : ∀ a, a < 3 → ∀ b, b < 3 → a ≠ b → (TX5 a).2.1 ≠ (TX5 b).2.1 := by decide +kernel
theorem tyX5_ok : ∀ k, k < 3 → parseFieldDescriptor (TX5 k).2.2.1 = some (tyX5 k) := by decide +kernel
abbrev cX5_init : ByteArray := prog_7_method_1_code
def yX5_init : MethodName := ⟨RX5, "<init>", "(II)V"⟩
abbrev cX5_faultPlace : ByteArray := prog_7_method_2_code
def yX5_faultPlace : MethodName := ⟨RX5, "faultPlace", "()I"⟩
abbrev cX5_fits : ByteArray := prog_7_method_3_code
def yX5_fits : MethodName := ⟨RX5, "fits", "(II)Z"⟩
abbrev cX5_hasFault : ByteArray := prog_7_method_4_code
def yX5_hasFault : MethodName := ⟨RX5, "hasFault", "()Z"⟩
def RX6 : String := "SwornElsewhere"
def TX6 : u_T := fun k => match k with
  | 0 => ("SwornElsewhere", "taleText", "LSwornElsewhere$Text;", true)
  | 1 => ("SwornElsewhere", "chargeText", "LSwornElsewhere$Text;", true)
  | 2 => ("SwornElsewhere", "told", "LSwornElsewhere$Tales;", true)
  | 3 => ("SwornElsewhere", "trial", "LSwornElsewhere$Tales;", true)
  | 4 => ("SwornElsewhere", "charges", "LSwornElsewhere$Charges;", true)
  | 5 => ("SwornElsewhere", "events", "LSwornElsewhere$Events;", true)
  | 6 => ("SwornElsewhere", "bench", "LSwornElsewhere$Bench;", true)
  | 7 => ("SwornElsewhere", "seenCharge", "[I", true)
  | 8 => ("SwornElsewhere", "seenIs", "[I", true)
  | 9 => ("SwornElsewhere", "sheets", "[LSwornElsewhere$Sheet;", true)
  | 10 => ("SwornElsewhere", "tally", "[I", true)
  | 11 => ("SwornElsewhere", "favour", "[J", true)
  | 12 => ("SwornElsewhere", "needed", "I", false)
  | 13 => ("SwornElsewhere", "seenSize", "I", false)
  | _ => ("SwornElsewhere", "latestFinding", "I", false)
def tyX6 : Nat → FieldType := fun k => match k with
  | 0 => .object "SwornElsewhere$Text"
  | 1 => .object "SwornElsewhere$Text"
  | 2 => .object "SwornElsewhere$Tales"
  | 3 => .object "SwornElsewhere$Tales"
  | 4 => .object "SwornElsewhere$Charges"
  | 5 => .object "SwornElsewhere$Events"
  | 6 => .object "SwornElsewhere$Bench"
  | 7 => .array .int
  | 8 => .array .int
  | 9 => .array (.object "SwornElsewhere$Sheet")
  | 10 => .array .int
  | 11 => .array .long
  | 12 => .int
  | 13 => .int
  | _ => .int
abbrev wsX60 : List Cond := u_ws RX6 TX6 15
theorem nmX6 : ∀ a, a < 15 → ∀ b, b < 15 → a ≠ b → (TX6 a).2.1 ≠ (TX6 b).2.1 := by decide +kernel
theorem tyX6_ok : ∀ k, k < 15 → parseFieldDescriptor (TX6 k).2.2.1 = some (tyX6 k) := by decide +kernel
abbrev cX6_init : ByteArray := prog_1_method_1_code
def yX6_init : MethodName := ⟨RX6, "<init>", "()V"⟩
abbrev cX6_type : ByteArray := prog_1_method_2_code
def yX6_type : MethodName := ⟨RX6, "type", "(II)I"⟩
abbrev cX6_wipe : ByteArray := prog_1_method_3_code
def yX6_wipe : MethodName := ⟨RX6, "wipe", "(I)I"⟩
abbrev cX6_undo : ByteArray := prog_1_method_4_code
def yX6_undo : MethodName := ⟨RX6, "undo", "(I)I"⟩
abbrev cX6_fault : ByteArray := prog_1_method_5_code
def yX6_fault : MethodName := ⟨RX6, "fault", "(I)I"⟩
abbrev cX6_tale : ByteArray := prog_1_method_6_code
def yX6_tale : MethodName := ⟨RX6, "tale", "(II)I"⟩
abbrev cX6_charge : ByteArray := prog_1_method_7_code
def yX6_charge : MethodName := ⟨RX6, "charge", "(II)I"⟩
abbrev cX6_need : ByteArray := prog_1_method_8_code
def yX6_need : MethodName := ⟨RX6, "need", "(I)I"⟩
abbrev cX6_event : ByteArray := prog_1_method_9_code
def yX6_event : MethodName := ⟨RX6, "event", "(III)I"⟩
abbrev cX6_back : ByteArray := prog_1_method_10_code
def yX6_back : MethodName := ⟨RX6, "back", "()I"⟩
abbrev cX6_read : ByteArray := prog_1_method_11_code
def yX6_read : MethodName := ⟨RX6, "read", "(I)I"⟩
abbrev cX6_clash : ByteArray := prog_1_method_12_code
def yX6_clash : MethodName := ⟨RX6, "clash", "(II)I"⟩
abbrev cX6_stands : ByteArray := prog_1_method_13_code
def yX6_stands : MethodName := ⟨RX6, "stands", "(II)I"⟩
abbrev cX6_man : ByteArray := prog_1_method_14_code
def yX6_man : MethodName := ⟨RX6, "man", "(III)I"⟩
abbrev cX6_belief : ByteArray := prog_1_method_15_code
def yX6_belief : MethodName := ⟨RX6, "belief", "(I)I"⟩
abbrev cX6_cleared : ByteArray := prog_1_method_16_code
def yX6_cleared : MethodName := ⟨RX6, "cleared", "(II)I"⟩
abbrev cX6_sum : ByteArray := prog_1_method_17_code
def yX6_sum : MethodName := ⟨RX6, "sum", "(I)I"⟩
abbrev cX6_liar : ByteArray := prog_1_method_18_code
def yX6_liar : MethodName := ⟨RX6, "liar", "()I"⟩
abbrev cX6_best : ByteArray := prog_1_method_19_code
def yX6_best : MethodName := ⟨RX6, "best", "()I"⟩
abbrev cX6_where : ByteArray := prog_1_method_20_code
def yX6_where : MethodName := ⟨RX6, "where", "(I)I"⟩
abbrev cX6_move : ByteArray := prog_1_method_21_code
def yX6_move : MethodName := ⟨RX6, "move", "(II)I"⟩
abbrev cX6_drop : ByteArray := prog_1_method_22_code
def yX6_drop : MethodName := ⟨RX6, "drop", "(I)I"⟩
abbrev cX6_clean : ByteArray := prog_1_method_23_code
def yX6_clean : MethodName := ⟨RX6, "clean", "(I)I"⟩
abbrev cX6_spare : ByteArray := prog_1_method_24_code
def yX6_spare : MethodName := ⟨RX6, "spare", "(I)I"⟩
abbrev cX6_seen : ByteArray := prog_1_method_25_code
def yX6_seen : MethodName := ⟨RX6, "seen", "(II)I"⟩
abbrev cX6_forget : ByteArray := prog_1_method_26_code
def yX6_forget : MethodName := ⟨RX6, "forget", "()I"⟩
abbrev cX6_never : ByteArray := prog_1_method_27_code
def yX6_never : MethodName := ⟨RX6, "never", "()I"⟩
abbrev cX6_was : ByteArray := prog_1_method_28_code
def yX6_was : MethodName := ⟨RX6, "was", "(II)I"⟩
abbrev cX6_ask : ByteArray := prog_1_method_29_code
def yX6_ask : MethodName := ⟨RX6, "ask", "(I)I"⟩
abbrev cX6_chance : ByteArray := prog_1_method_30_code
def yX6_chance : MethodName := ⟨RX6, "chance", "(III)J"⟩
abbrev cX6_lives : ByteArray := prog_1_method_31_code
def yX6_lives : MethodName := ⟨RX6, "lives", "(III)I"⟩
abbrev cX6_sheet : ByteArray := prog_1_method_32_code
def yX6_sheet : MethodName := ⟨RX6, "sheet", "(III)I"⟩
abbrev cX6_lose : ByteArray := prog_1_method_33_code
def yX6_lose : MethodName := ⟨RX6, "lose", "(I)I"⟩
abbrev cX6_put : ByteArray := prog_1_method_34_code
def yX6_put : MethodName := ⟨RX6, "put", "(IIII)I"⟩
abbrev cX6_get : ByteArray := prog_1_method_35_code
def yX6_get : MethodName := ⟨RX6, "get", "(III)I"⟩
abbrev cX6_copy : ByteArray := prog_1_method_36_code
def yX6_copy : MethodName := ⟨RX6, "copy", "(IIIII)I"⟩
abbrev cX6_write : ByteArray := prog_1_method_37_code
def yX6_write : MethodName := ⟨RX6, "write", "(II)I"⟩
abbrev cX6_count : ByteArray := prog_1_method_38_code
def yX6_count : MethodName := ⟨RX6, "count", "(I)I"⟩
abbrev cX6_digest : ByteArray := prog_1_method_39_code
def yX6_digest : MethodName := ⟨RX6, "digest", "()J"⟩
abbrev cX6_digestOfTales : ByteArray := prog_1_method_40_code
def yX6_digestOfTales : MethodName := ⟨RX6, "digestOfTales", "(J)J"⟩
abbrev cX6_digestOfCharges : ByteArray := prog_1_method_41_code
def yX6_digestOfCharges : MethodName := ⟨RX6, "digestOfCharges", "(J)J"⟩
abbrev cX6_outside : ByteArray := prog_1_method_42_code
def yX6_outside : MethodName := ⟨RX6, "outside", "(II)Z"⟩
abbrev cX6_finding : ByteArray := prog_1_method_43_code
def yX6_finding : MethodName := ⟨RX6, "finding", "(I)I"⟩
abbrev cX6_findingAsLeast : ByteArray := prog_1_method_44_code
def yX6_findingAsLeast : MethodName := ⟨RX6, "findingAsLeast", "(I)I"⟩
abbrev cX6_textOf : ByteArray := prog_1_method_45_code
def yX6_textOf : MethodName := ⟨RX6, "textOf", "(I)LSwornElsewhere$Text;"⟩
abbrev cX6_tellAnew : ByteArray := prog_1_method_46_code
def yX6_tellAnew : MethodName := ⟨RX6, "tellAnew", "()V"⟩
abbrev cX6_hearAsTold : ByteArray := prog_1_method_47_code
def yX6_hearAsTold : MethodName := ⟨RX6, "hearAsTold", "()V"⟩
abbrev cX6_clearedBits : ByteArray := prog_1_method_48_code
def yX6_clearedBits : MethodName := ⟨RX6, "clearedBits", "(LSwornElsewhere$Tales;I)I"⟩
abbrev cX6_comesOutSo : ByteArray := prog_1_method_49_code
def yX6_comesOutSo : MethodName := ⟨RX6, "comesOutSo", "(I)Z"⟩
abbrev cX6_sparedBits : ByteArray := prog_1_method_50_code
def yX6_sparedBits : MethodName := ⟨RX6, "sparedBits", "()I"⟩
abbrev cX6_nthBit : ByteArray := prog_1_method_51_code
def yX6_nthBit : MethodName := ⟨RX6, "nthBit", "(II)I"⟩
abbrev cX6_addToTally : ByteArray := prog_1_method_52_code
def yX6_addToTally : MethodName := ⟨RX6, "addToTally", "(I)V"⟩
abbrev cX6_tallyFavour : ByteArray := prog_1_method_53_code
def yX6_tallyFavour : MethodName := ⟨RX6, "tallyFavour", "(I)V"⟩
abbrev cX6_power : ByteArray := prog_1_method_54_code
def yX6_power : MethodName := ⟨RX6, "power", "(II)J"⟩
abbrev cX6_lowestTerm : ByteArray := prog_1_method_55_code
def yX6_lowestTerm : MethodName := ⟨RX6, "lowestTerm", "(JI)J"⟩
abbrev cX6_reach : ByteArray := prog_1_method_56_code
def yX6_reach : MethodName := ⟨RX6, "reach", "(I)I"⟩
abbrev cX6_rankBy : ByteArray := prog_1_method_57_code
def yX6_rankBy : MethodName := ⟨RX6, "rankBy", "(I)I"⟩
def RX7 : String := "SwornElsewhereModel"
def TX7 : u_T := fun k => match k with
  | 0 => ("SwornElsewhereModel", "typed", "[I", true)
  | 1 => ("SwornElsewhereModel", "texts", "[I", true)
  | 2 => ("SwornElsewhereModel", "tales", "I", false)
  | 3 => ("SwornElsewhereModel", "nights", "[I", true)
  | 4 => ("SwornElsewhereModel", "towns", "[I", true)
  | 5 => ("SwornElsewhereModel", "whose", "[I", true)
  | 6 => ("SwornElsewhereModel", "sorts", "[I", true)
  | 7 => ("SwornElsewhereModel", "charges", "I", false)
  | 8 => ("SwornElsewhereModel", "chargeNight", "[I", true)
  | 9 => ("SwornElsewhereModel", "chargeTown", "[I", true)
  | 10 => ("SwornElsewhereModel", "needTold", "I", false)
  | 11 => ("SwornElsewhereModel", "events", "I", false)
  | 12 => ("SwornElsewhereModel", "eventKind", "[I", true)
  | 13 => ("SwornElsewhereModel", "eventAt", "[I", true)
  | 14 => ("SwornElsewhereModel", "eventNumber", "[I", true)
  | 15 => ("SwornElsewhereModel", "talesNow", "I", false)
  | 16 => ("SwornElsewhereModel", "nightNow", "[I", true)
  | 17 => ("SwornElsewhereModel", "townNow", "[I", true)
  | 18 => ("SwornElsewhereModel", "whoNow", "[I", true)
  | 19 => ("SwornElsewhereModel", "sortNow", "[I", true)
  | 20 => ("SwornElsewhereModel", "leftOut", "I", false)
  | 21 => ("SwornElsewhereModel", "notEvents", "I", false)
  | 22 => ("SwornElsewhereModel", "counts", "[I", true)
  | 23 => ("SwornElsewhereModel", "weighs", "[I", true)
  | 24 => ("SwornElsewhereModel", "against", "[I", true)
  | 25 => ("SwornElsewhereModel", "weightAt", "[I", true)
  | 26 => ("SwornElsewhereModel", "standingAt", "[I", true)
  | 27 => ("SwornElsewhereModel", "rankAt", "[I", true)
  | 28 => ("SwornElsewhereModel", "clearedNow", "I", false)
  | 29 => ("SwornElsewhereModel", "mayAt", "[I", true)
  | 30 => ("SwornElsewhereModel", "bestNow", "I", false)
  | 31 => ("SwornElsewhereModel", "mostNow", "I", false)
  | 32 => ("SwornElsewhereModel", "clashing", "[I", true)
  | 33 => ("SwornElsewhereModel", "planRow", "[I", true)
  | 34 => ("SwornElsewhereModel", "seens", "I", false)
  | 35 => ("SwornElsewhereModel", "seenCharge", "[I", true)
  | 36 => ("SwornElsewhereModel", "seenIs", "[I", true)
  | 37 => ("SwornElsewhereModel", "clearedBy", "[I", true)
  | 38 => ("SwornElsewhereModel", "isThere", "[Z", true)
  | 39 => ("SwornElsewhereModel", "forms", "[I", true)
  | 40 => ("SwornElsewhereModel", "sizes", "[I", true)
  | 41 => ("SwornElsewhereModel", "items", "[I", true)
  | 42 => ("SwornElsewhereModel", "moved", "[I", true)
  | _ => ("SwornElsewhereModel", "finding", "I", false)
def tyX7 : Nat → FieldType := fun k => match k with
  | 0 => .array .int
  | 1 => .array .int
  | 2 => .int
  | 3 => .array .int
  | 4 => .array .int
  | 5 => .array .int
  | 6 => .array .int
  | 7 => .int
  | 8 => .array .int
  | 9 => .array .int
  | 10 => .int
  | 11 => .int
  | 12 => .array .int
  | 13 => .array .int
  | 14 => .array .int
  | 15 => .int
  | 16 => .array .int
  | 17 => .array .int
  | 18 => .array .int
  | 19 => .array .int
  | 20 => .int
  | 21 => .int
  | 22 => .array .int
  | 23 => .array .int
  | 24 => .array .int
  | 25 => .array .int
  | 26 => .array .int
  | 27 => .array .int
  | 28 => .int
  | 29 => .array .int
  | 30 => .int
  | 31 => .int
  | 32 => .array .int
  | 33 => .array .int
  | 34 => .int
  | 35 => .array .int
  | 36 => .array .int
  | 37 => .array .int
  | 38 => .array .boolean
  | 39 => .array .int
  | 40 => .array .int
  | 41 => .array .int
  | 42 => .array .int
  | _ => .int
abbrev wsX70 : List Cond := u_ws RX7 TX7 44
theorem nmX7 : ∀ a, a < 44 → ∀ b, b < 44 → a ≠ b → (TX7 a).2.1 ≠ (TX7 b).2.1 := by decide +kernel
theorem tyX7_ok : ∀ k, k < 44 → parseFieldDescriptor (TX7 k).2.2.1 = some (tyX7 k) := by decide +kernel
abbrev cX7_init : ByteArray := prog_9_method_1_code
def yX7_init : MethodName := ⟨RX7, "<init>", "()V"⟩
abbrev cX7_in : ByteArray := prog_9_method_3_code
def yX7_in : MethodName := ⟨RX7, "in", "(III)Z"⟩
abbrev cX7_isIn : ByteArray := prog_9_method_4_code
def yX7_isIn : MethodName := ⟨RX7, "isIn", "(II)Z"⟩
abbrev cX7_no : ByteArray := prog_9_method_5_code
def yX7_no : MethodName := ⟨RX7, "no", "(I)J"⟩
abbrev cX7_lowest : ByteArray := prog_9_method_6_code
def yX7_lowest : MethodName := ⟨RX7, "lowest", "(JJI)J"⟩
abbrev cX7_isTwo : ByteArray := prog_9_method_7_code
def yX7_isTwo : MethodName := ⟨RX7, "isTwo", "(I)Z"⟩
abbrev cX7_isThree : ByteArray := prog_9_method_8_code
def yX7_isThree : MethodName := ⟨RX7, "isThree", "(I)Z"⟩
abbrev cX7_isNight : ByteArray := prog_9_method_9_code
def yX7_isNight : MethodName := ⟨RX7, "isNight", "(I)Z"⟩
abbrev cX7_isTown : ByteArray := prog_9_method_10_code
def yX7_isTown : MethodName := ⟨RX7, "isTown", "(I)Z"⟩
abbrev cX7_type : ByteArray := prog_9_method_11_code
def yX7_type : MethodName := ⟨RX7, "type", "(II)I"⟩
abbrev cX7_wipe : ByteArray := prog_9_method_12_code
def yX7_wipe : MethodName := ⟨RX7, "wipe", "(I)I"⟩
abbrev cX7_undo : ByteArray := prog_9_method_13_code
def yX7_undo : MethodName := ⟨RX7, "undo", "(I)I"⟩
abbrev cX7_byteAt : ByteArray := prog_9_method_14_code
def yX7_byteAt : MethodName := ⟨RX7, "byteAt", "(II)I"⟩
abbrev cX7_sortOf : ByteArray := prog_9_method_15_code
def yX7_sortOf : MethodName := ⟨RX7, "sortOf", "(I)I"⟩
abbrev cX7_readsTale : ByteArray := prog_9_method_16_code
def yX7_readsTale : MethodName := ⟨RX7, "readsTale", "(II)I"⟩
abbrev cX7_readsCharge : ByteArray := prog_9_method_17_code
def yX7_readsCharge : MethodName := ⟨RX7, "readsCharge", "(II)I"⟩
abbrev cX7_readsText : ByteArray := prog_9_method_18_code
def yX7_readsText : MethodName := ⟨RX7, "readsText", "(I)I"⟩
abbrev cX7_faultOf : ByteArray := prog_9_method_19_code
def yX7_faultOf : MethodName := ⟨RX7, "faultOf", "(I)I"⟩
abbrev cX7_reads : ByteArray := prog_9_method_20_code
def yX7_reads : MethodName := ⟨RX7, "reads", "()V"⟩
abbrev cX7_fault : ByteArray := prog_9_method_21_code
def yX7_fault : MethodName := ⟨RX7, "fault", "(I)I"⟩
abbrev cX7_isTale : ByteArray := prog_9_method_22_code
def yX7_isTale : MethodName := ⟨RX7, "isTale", "(I)Z"⟩
abbrev cX7_isCharge : ByteArray := prog_9_method_23_code
def yX7_isCharge : MethodName := ⟨RX7, "isCharge", "(I)Z"⟩
abbrev cX7_taleOf : ByteArray := prog_9_method_24_code
def yX7_taleOf : MethodName := ⟨RX7, "taleOf", "(II)I"⟩
abbrev cX7_tale : ByteArray := prog_9_method_25_code
def yX7_tale : MethodName := ⟨RX7, "tale", "(II)I"⟩
abbrev cX7_chargeOf : ByteArray := prog_9_method_26_code
def yX7_chargeOf : MethodName := ⟨RX7, "chargeOf", "(II)I"⟩
abbrev cX7_charge : ByteArray := prog_9_method_27_code
def yX7_charge : MethodName := ⟨RX7, "charge", "(II)I"⟩
abbrev cX7_need : ByteArray := prog_9_method_28_code
def yX7_need : MethodName := ⟨RX7, "need", "(I)I"⟩
abbrev cX7_event : ByteArray := prog_9_method_29_code
def yX7_event : MethodName := ⟨RX7, "event", "(III)I"⟩
abbrev cX7_back : ByteArray := prog_9_method_30_code
def yX7_back : MethodName := ⟨RX7, "back", "()I"⟩
abbrev cX7_read : ByteArray := prog_9_method_31_code
def yX7_read : MethodName := ⟨RX7, "read", "(I)I"⟩
abbrev cX7_asTold : ByteArray := prog_9_method_32_code
def yX7_asTold : MethodName := ⟨RX7, "asTold", "()V"⟩
abbrev cX7_far : ByteArray := prog_9_method_33_code
def yX7_far : MethodName := ⟨RX7, "far", "(II)I"⟩
abbrev cX7_clashes : ByteArray := prog_9_method_34_code
def yX7_clashes : MethodName := ⟨RX7, "clashes", "(II)Z"⟩
abbrev cX7_isShaken : ByteArray := prog_9_method_35_code
def yX7_isShaken : MethodName := ⟨RX7, "isShaken", "(I)Z"⟩
abbrev cX7_countsAll : ByteArray := prog_9_method_36_code
def yX7_countsAll : MethodName := ⟨RX7, "countsAll", "()V"⟩
abbrev cX7_others : ByteArray := prog_9_method_37_code
def yX7_others : MethodName := ⟨RX7, "others", "(I)I"⟩
abbrev cX7_isLiar : ByteArray := prog_9_method_38_code
def yX7_isLiar : MethodName := ⟨RX7, "isLiar", "(I)Z"⟩
abbrev cX7_weighsAll : ByteArray := prog_9_method_39_code
def yX7_weighsAll : MethodName := ⟨RX7, "weighsAll", "()V"⟩
abbrev cX7_letters : ByteArray := prog_9_method_40_code
def yX7_letters : MethodName := ⟨RX7, "letters", "(II)I"⟩
abbrev cX7_standsIn : ByteArray := prog_9_method_41_code
def yX7_standsIn : MethodName := ⟨RX7, "standsIn", "(I)V"⟩
abbrev cX7_bestTown : ByteArray := prog_9_method_42_code
def yX7_bestTown : MethodName := ⟨RX7, "bestTown", "(I)I"⟩
abbrev cX7_beliefNow : ByteArray := prog_9_method_43_code
def yX7_beliefNow : MethodName := ⟨RX7, "beliefNow", "(I)I"⟩
abbrev cX7_runs : ByteArray := prog_9_method_44_code
def yX7_runs : MethodName := ⟨RX7, "runs", "()V"⟩
abbrev cX7_runsTold : ByteArray := prog_9_method_45_code
def yX7_runsTold : MethodName := ⟨RX7, "runsTold", "()V"⟩
abbrev cX7_many : ByteArray := prog_9_method_46_code
def yX7_many : MethodName := ⟨RX7, "many", "(I)I"⟩
abbrev cX7_clashOf : ByteArray := prog_9_method_47_code
def yX7_clashOf : MethodName := ⟨RX7, "clashOf", "(II)I"⟩
abbrev cX7_clash : ByteArray := prog_9_method_48_code
def yX7_clash : MethodName := ⟨RX7, "clash", "(II)I"⟩
abbrev cX7_standsOf : ByteArray := prog_9_method_49_code
def yX7_standsOf : MethodName := ⟨RX7, "standsOf", "(II)I"⟩
abbrev cX7_stands : ByteArray := prog_9_method_50_code
def yX7_stands : MethodName := ⟨RX7, "stands", "(II)I"⟩
abbrev cX7_manOf : ByteArray := prog_9_method_51_code
def yX7_manOf : MethodName := ⟨RX7, "manOf", "(III)I"⟩
abbrev cX7_man : ByteArray := prog_9_method_52_code
def yX7_man : MethodName := ⟨RX7, "man", "(III)I"⟩
abbrev cX7_beliefOf : ByteArray := prog_9_method_53_code
def yX7_beliefOf : MethodName := ⟨RX7, "beliefOf", "(I)I"⟩
abbrev cX7_belief : ByteArray := prog_9_method_54_code
def yX7_belief : MethodName := ⟨RX7, "belief", "(I)I"⟩
abbrev cX7_clearedOf : ByteArray := prog_9_method_55_code
def yX7_clearedOf : MethodName := ⟨RX7, "clearedOf", "(II)I"⟩
abbrev cX7_cleared : ByteArray := prog_9_method_56_code
def yX7_cleared : MethodName := ⟨RX7, "cleared", "(II)I"⟩
abbrev cX7_countMany : ByteArray := prog_9_method_57_code
def yX7_countMany : MethodName := ⟨RX7, "countMany", "()I"⟩
abbrev cX7_menOf : ByteArray := prog_9_method_58_code
def yX7_menOf : MethodName := ⟨RX7, "menOf", "(I)I"⟩
abbrev cX7_sumOf : ByteArray := prog_9_method_59_code
def yX7_sumOf : MethodName := ⟨RX7, "sumOf", "(I)I"⟩
abbrev cX7_sum : ByteArray := prog_9_method_60_code
def yX7_sum : MethodName := ⟨RX7, "sum", "(I)I"⟩
abbrev cX7_liarOf : ByteArray := prog_9_method_61_code
def yX7_liarOf : MethodName := ⟨RX7, "liarOf", "()I"⟩
abbrev cX7_liar : ByteArray := prog_9_method_62_code
def yX7_liar : MethodName := ⟨RX7, "liar", "()I"⟩
abbrev cX7_bestOf : ByteArray := prog_9_method_63_code
def yX7_bestOf : MethodName := ⟨RX7, "bestOf", "()I"⟩
abbrev cX7_best : ByteArray := prog_9_method_64_code
def yX7_best : MethodName := ⟨RX7, "best", "()I"⟩
abbrev cX7_spread : ByteArray := prog_9_method_65_code
def yX7_spread : MethodName := ⟨RX7, "spread", "(I)I"⟩
abbrev cX7_whereOf : ByteArray := prog_9_method_66_code
def yX7_whereOf : MethodName := ⟨RX7, "whereOf", "(I)I"⟩
abbrev cX7_where : ByteArray := prog_9_method_67_code
def yX7_where : MethodName := ⟨RX7, "where", "(I)I"⟩
abbrev cX7_starts : ByteArray := prog_9_method_68_code
def yX7_starts : MethodName := ⟨RX7, "starts", "()V"⟩
abbrev cX7_tries : ByteArray := prog_9_method_69_code
def yX7_tries : MethodName := ⟨RX7, "tries", "(I)V"⟩
abbrev cX7_moveOf : ByteArray := prog_9_method_70_code
def yX7_moveOf : MethodName := ⟨RX7, "moveOf", "(II)I"⟩
abbrev cX7_move : ByteArray := prog_9_method_71_code
def yX7_move : MethodName := ⟨RX7, "move", "(II)I"⟩
abbrev cX7_dropOf : ByteArray := prog_9_method_72_code
def yX7_dropOf : MethodName := ⟨RX7, "dropOf", "(I)I"⟩
abbrev cX7_drop : ByteArray := prog_9_method_73_code
def yX7_drop : MethodName := ⟨RX7, "drop", "(I)I"⟩
abbrev cX7_cleanOf : ByteArray := prog_9_method_74_code
def yX7_cleanOf : MethodName := ⟨RX7, "cleanOf", "(I)I"⟩
abbrev cX7_clean : ByteArray := prog_9_method_75_code
def yX7_clean : MethodName := ⟨RX7, "clean", "(I)I"⟩
abbrev cX7_isSpared : ByteArray := prog_9_method_76_code
def yX7_isSpared : MethodName := ⟨RX7, "isSpared", "(I)Z"⟩
abbrev cX7_spareBy : ByteArray := prog_9_method_77_code
def yX7_spareBy : MethodName := ⟨RX7, "spareBy", "()I"⟩
abbrev cX7_ofRow : ByteArray := prog_9_method_78_code
def yX7_ofRow : MethodName := ⟨RX7, "ofRow", "(II)I"⟩
abbrev cX7_spare : ByteArray := prog_9_method_79_code
def yX7_spare : MethodName := ⟨RX7, "spare", "(I)I"⟩
abbrev cX7_seen : ByteArray := prog_9_method_80_code
def yX7_seen : MethodName := ⟨RX7, "seen", "(II)I"⟩
abbrev cX7_forget : ByteArray := prog_9_method_81_code
def yX7_forget : MethodName := ⟨RX7, "forget", "()I"⟩
abbrev cX7_isSeen : ByteArray := prog_9_method_82_code
def yX7_isSeen : MethodName := ⟨RX7, "isSeen", "()Z"⟩
abbrev cX7_neverNow : ByteArray := prog_9_method_83_code
def yX7_neverNow : MethodName := ⟨RX7, "neverNow", "()I"⟩
abbrev cX7_never : ByteArray := prog_9_method_84_code
def yX7_never : MethodName := ⟨RX7, "never", "()I"⟩
abbrev cX7_whoseBy : ByteArray := prog_9_method_85_code
def yX7_whoseBy : MethodName := ⟨RX7, "whoseBy", "(I)I"⟩
abbrev cX7_sortsBy : ByteArray := prog_9_method_86_code
def yX7_sortsBy : MethodName := ⟨RX7, "sortsBy", "(I)I"⟩
abbrev cX7_was : ByteArray := prog_9_method_87_code
def yX7_was : MethodName := ⟨RX7, "was", "(II)I"⟩
abbrev cX7_askOf : ByteArray := prog_9_method_88_code
def yX7_askOf : MethodName := ⟨RX7, "askOf", "(I)I"⟩
abbrev cX7_ask : ByteArray := prog_9_method_89_code
def yX7_ask : MethodName := ⟨RX7, "ask", "(I)I"⟩
abbrev cX7_chanceOf : ByteArray := prog_9_method_90_code
def yX7_chanceOf : MethodName := ⟨RX7, "chanceOf", "(III)J"⟩
abbrev cX7_chance : ByteArray := prog_9_method_91_code
def yX7_chance : MethodName := ⟨RX7, "chance", "(III)J"⟩
abbrev cX7_livesOf : ByteArray := prog_9_method_92_code
def yX7_livesOf : MethodName := ⟨RX7, "livesOf", "(III)I"⟩
abbrev cX7_lives : ByteArray := prog_9_method_93_code
def yX7_lives : MethodName := ⟨RX7, "lives", "(III)I"⟩
abbrev cX7_meets : ByteArray := prog_9_method_94_code
def yX7_meets : MethodName := ⟨RX7, "meets", "(I)I"⟩
abbrev cX7_isSheet : ByteArray := prog_9_method_95_code
def yX7_isSheet : MethodName := ⟨RX7, "isSheet", "(I)Z"⟩
abbrev cX7_sheet : ByteArray := prog_9_method_96_code
def yX7_sheet : MethodName := ⟨RX7, "sheet", "(III)I"⟩
abbrev cX7_lose : ByteArray := prog_9_method_97_code
def yX7_lose : MethodName := ⟨RX7, "lose", "(I)I"⟩
abbrev cX7_lacks : ByteArray := prog_9_method_98_code
def yX7_lacks : MethodName := ⟨RX7, "lacks", "(III)I"⟩
abbrev cX7_keep : ByteArray := prog_9_method_99_code
def yX7_keep : MethodName := ⟨RX7, "keep", "(III)V"⟩
abbrev cX7_put : ByteArray := prog_9_method_100_code
def yX7_put : MethodName := ⟨RX7, "put", "(IIII)I"⟩
abbrev cX7_get : ByteArray := prog_9_method_101_code
def yX7_get : MethodName := ⟨RX7, "get", "(III)I"⟩
abbrev cX7_copy : ByteArray := prog_9_method_102_code
def yX7_copy : MethodName := ⟨RX7, "copy", "(IIIII)I"⟩
abbrev cX7_write : ByteArray := prog_9_method_103_code
def yX7_write : MethodName := ⟨RX7, "write", "(II)I"⟩
abbrev cX7_tellOf : ByteArray := prog_9_method_104_code
def yX7_tellOf : MethodName := ⟨RX7, "tellOf", "(I)I"⟩
abbrev cX7_count : ByteArray := prog_9_method_105_code
def yX7_count : MethodName := ⟨RX7, "count", "(I)I"⟩
abbrev cX7_taleDigest : ByteArray := prog_9_method_106_code
def yX7_taleDigest : MethodName := ⟨RX7, "taleDigest", "(JI)J"⟩
abbrev cX7_chargeDigest : ByteArray := prog_9_method_107_code
def yX7_chargeDigest : MethodName := ⟨RX7, "chargeDigest", "(JI)J"⟩
abbrev cX7_digest : ByteArray := prog_9_method_108_code
def yX7_digest : MethodName := ⟨RX7, "digest", "()J"⟩
def RJ6 : String := "java/lang/Integer"
def TJ6 : u_T := fun k => match k with
  | _ => ("", "", "", false)
def tyJ6 : Nat → FieldType := fun k => match k with
  | _ => .int
abbrev wsJ60 : List Cond := u_ws RJ6 TJ6 0
theorem nmJ6 : ∀ a, a < 0 → ∀ b, b < 0 → a ≠ b → (TJ6 a).2.1 ≠ (TJ6 b).2.1 := by decide +kernel
theorem tyJ6_ok : ∀ k, k < 0 → parseFieldDescriptor (TJ6 k).2.2.1 = some (tyJ6 k) := by decide +kernel
abbrev cJ6_bitCount_0f7a4 : ByteArray := prog_10_method_49_code
def yJ6_bitCount_0f7a4 : MethodName := ⟨RJ6, "bitCount", "(I)I"⟩
def RJ9 : String := "java/lang/Math"
def TJ9 : u_T := fun k => match k with
  | _ => ("", "", "", false)
def tyJ9 : Nat → FieldType := fun k => match k with
  | _ => .int
abbrev wsJ90 : List Cond := u_ws RJ9 TJ9 0
theorem nmJ9 : ∀ a, a < 0 → ∀ b, b < 0 → a ≠ b → (TJ9 a).2.1 ≠ (TJ9 b).2.1 := by decide +kernel
theorem tyJ9_ok : ∀ k, k < 0 → parseFieldDescriptor (TJ9 k).2.2.1 = some (tyJ9 k) := by decide +kernel
abbrev cJ9_abs_0f7a4 : ByteArray := prog_11_method_59_code
def yJ9_abs_0f7a4 : MethodName := ⟨RJ9, "abs", "(I)I"⟩
abbrev cJ9_max_7cf53 : ByteArray := prog_11_method_65_code
def yJ9_max_7cf53 : MethodName := ⟨RJ9, "max", "(II)I"⟩
abbrev cJ9_min_7cf53 : ByteArray := prog_11_method_69_code
def yJ9_min_7cf53 : MethodName := ⟨RJ9, "min", "(II)I"⟩
def RJ10 : String := "java/lang/System"
def TJ10 : u_T := fun k => match k with
  | _ => ("", "", "", false)
def tyJ10 : Nat → FieldType := fun k => match k with
  | _ => .int
abbrev wsJ100 : List Cond := u_ws RJ10 TJ10 0
theorem nmJ10 : ∀ a, a < 0 → ∀ b, b < 0 → a ≠ b → (TJ10 a).2.1 ≠ (TJ10 b).2.1 := by decide +kernel
theorem tyJ10_ok : ∀ k, k < 0 → parseFieldDescriptor (TJ10 k).2.2.1 = some (tyJ10 k) := by decide +kernel
def RJ7 : String := "java/util/Arrays"
def TJ7 : u_T := fun k => match k with
  | _ => ("", "", "", false)
def tyJ7 : Nat → FieldType := fun k => match k with
  | _ => .int
abbrev wsJ70 : List Cond := u_ws RJ7 TJ7 0
theorem nmJ7 : ∀ a, a < 0 → ∀ b, b < 0 → a ≠ b → (TJ7 a).2.1 ≠ (TJ7 b).2.1 := by decide +kernel
theorem tyJ7_ok : ∀ k, k < 0 → parseFieldDescriptor (TJ7 k).2.2.1 = some (tyJ7 k) := by decide +kernel
abbrev cJ7_fill_d0a16 : ByteArray := prog_13_method_101_code
def yJ7_fill_d0a16 : MethodName := ⟨RJ7, "fill", "([JJ)V"⟩
abbrev cJ7_fill_53178 : ByteArray := prog_13_method_103_code
def yJ7_fill_53178 : MethodName := ⟨RJ7, "fill", "([II)V"⟩
def RL : String := "SwornElsewhereLaw"
abbrev cL_law : ByteArray := code
def yL_law : MethodName := ⟨RL, "law", "([I)Z"⟩
abbrev vwCl : List vw_C := [(RX0, TX0, 7), (RX1, TX1, 3), (RX2, TX2, 4), (RX3, TX3, 2), (RX4, TX4, 6), (RX5, TX5, 3), (RX6, TX6, 15), (RX7, TX7, 44)]
def WS : List Cond := lw_tbl.filter goodWord
theorem WS_mem {w : Cond} (h : w ∈ lw_tbl) (g : goodWord w = true) : w ∈ WS := List.mem_filter.mpr ⟨h, g⟩
theorem WS_tbl {w : Cond} (h : w ∈ WS) : w ∈ lw_tbl := (List.mem_filter.mp h).1
theorem WS_good {w : Cond} (h : w ∈ WS) : goodWord w = true := (List.mem_filter.mp h).2
