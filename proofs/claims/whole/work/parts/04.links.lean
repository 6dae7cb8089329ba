theorem ly_X0_0 : u_lay RX0 TX0 0 ∈ WS := (WS_mem (List.mem_of_getElem? (i := 217) (by decide +kernel)) (by decide +kernel))
theorem ly_X0_1 : u_lay RX0 TX0 1 ∈ WS := (WS_mem (List.mem_of_getElem? (i := 219) (by decide +kernel)) (by decide +kernel))
theorem ly_X0_2 : u_lay RX0 TX0 2 ∈ WS := (WS_mem (List.mem_of_getElem? (i := 221) (by decide +kernel)) (by decide +kernel))
theorem ly_X0_3 : u_lay RX0 TX0 3 ∈ WS := (WS_mem (List.mem_of_getElem? (i := 223) (by decide +kernel)) (by decide +kernel))
theorem ly_X0_4 : u_lay RX0 TX0 4 ∈ WS := (WS_mem (List.mem_of_getElem? (i := 225) (by decide +kernel)) (by decide +kernel))
theorem ly_X0_5 : u_lay RX0 TX0 5 ∈ WS := (WS_mem (List.mem_of_getElem? (i := 227) (by decide +kernel)) (by decide +kernel))
theorem ly_X0_6 : u_lay RX0 TX0 6 ∈ WS := (WS_mem (List.mem_of_getElem? (i := 229) (by decide +kernel)) (by decide +kernel))
theorem inW_X0 : ∀ w ∈ u_ws RX0 TX0 7, w ∈ WS := (show ∀ w ∈ [u_lay RX0 TX0 0, u_lay RX0 TX0 1, u_lay RX0 TX0 2, u_lay RX0 TX0 3, u_lay RX0 TX0 4, u_lay RX0 TX0 5, u_lay RX0 TX0 6], w ∈ WS from List.forall_mem_cons.mpr ⟨ly_X0_0, List.forall_mem_cons.mpr ⟨ly_X0_1, List.forall_mem_cons.mpr ⟨ly_X0_2, List.forall_mem_cons.mpr ⟨ly_X0_3, List.forall_mem_cons.mpr ⟨ly_X0_4, List.forall_mem_cons.mpr ⟨ly_X0_5, List.forall_mem_cons.mpr ⟨ly_X0_6, fun _ h => absurd h List.not_mem_nil⟩⟩⟩⟩⟩⟩⟩)
theorem kt_X0 : KT 0 TX0 7 tyX0 := ⟨⟨RX0, rfl⟩, tyX0_ok, nmX0⟩
theorem ly_X1_0 : u_lay RX1 TX1 0 ∈ WS := (WS_mem (List.mem_of_getElem? (i := 167) (by decide +kernel)) (by decide +kernel))
theorem ly_X1_1 : u_lay RX1 TX1 1 ∈ WS := (WS_mem (List.mem_of_getElem? (i := 169) (by decide +kernel)) (by decide +kernel))
theorem ly_X1_2 : u_lay RX1 TX1 2 ∈ WS := (WS_mem (List.mem_of_getElem? (i := 171) (by decide +kernel)) (by decide +kernel))
theorem inW_X1 : ∀ w ∈ u_ws RX1 TX1 3, w ∈ WS := (show ∀ w ∈ [u_lay RX1 TX1 0, u_lay RX1 TX1 1, u_lay RX1 TX1 2], w ∈ WS from List.forall_mem_cons.mpr ⟨ly_X1_0, List.forall_mem_cons.mpr ⟨ly_X1_1, List.forall_mem_cons.mpr ⟨ly_X1_2, fun _ h => absurd h List.not_mem_nil⟩⟩⟩)
theorem kt_X1 : KT 1 TX1 3 tyX1 := ⟨⟨RX1, rfl⟩, tyX1_ok, nmX1⟩
theorem ly_X2_0 : u_lay RX2 TX2 0 ∈ WS := (WS_mem (List.mem_of_getElem? (i := 192) (by decide +kernel)) (by decide +kernel))
theorem ly_X2_1 : u_lay RX2 TX2 1 ∈ WS := (WS_mem (List.mem_of_getElem? (i := 194) (by decide +kernel)) (by decide +kernel))
theorem ly_X2_2 : u_lay RX2 TX2 2 ∈ WS := (WS_mem (List.mem_of_getElem? (i := 196) (by decide +kernel)) (by decide +kernel))
theorem ly_X2_3 : u_lay RX2 TX2 3 ∈ WS := (WS_mem (List.mem_of_getElem? (i := 198) (by decide +kernel)) (by decide +kernel))
theorem inW_X2 : ∀ w ∈ u_ws RX2 TX2 4, w ∈ WS := (show ∀ w ∈ [u_lay RX2 TX2 0, u_lay RX2 TX2 1, u_lay RX2 TX2 2, u_lay RX2 TX2 3], w ∈ WS from List.forall_mem_cons.mpr ⟨ly_X2_0, List.forall_mem_cons.mpr ⟨ly_X2_1, List.forall_mem_cons.mpr ⟨ly_X2_2, List.forall_mem_cons.mpr ⟨ly_X2_3, fun _ h => absurd h List.not_mem_nil⟩⟩⟩⟩)
theorem kt_X2 : KT 2 TX2 4 tyX2 := ⟨⟨RX2, rfl⟩, tyX2_ok, nmX2⟩
theorem ly_X3_0 : u_lay RX3 TX3 0 ∈ WS := (WS_mem (List.mem_of_getElem? (i := 612) (by decide +kernel)) (by decide +kernel))
theorem ly_X3_1 : u_lay RX3 TX3 1 ∈ WS := (WS_mem (List.mem_of_getElem? (i := 614) (by decide +kernel)) (by decide +kernel))
theorem inW_X3 : ∀ w ∈ u_ws RX3 TX3 2, w ∈ WS := (show ∀ w ∈ [u_lay RX3 TX3 0, u_lay RX3 TX3 1], w ∈ WS from List.forall_mem_cons.mpr ⟨ly_X3_0, List.forall_mem_cons.mpr ⟨ly_X3_1, fun _ h => absurd h List.not_mem_nil⟩⟩)
theorem kt_X3 : KT 3 TX3 2 tyX3 := ⟨⟨RX3, rfl⟩, tyX3_ok, nmX3⟩
theorem ly_X4_0 : u_lay RX4 TX4 0 ∈ WS := (WS_mem (List.mem_of_getElem? (i := 142) (by decide +kernel)) (by decide +kernel))
theorem ly_X4_1 : u_lay RX4 TX4 1 ∈ WS := (WS_mem (List.mem_of_getElem? (i := 144) (by decide +kernel)) (by decide +kernel))
theorem ly_X4_2 : u_lay RX4 TX4 2 ∈ WS := (WS_mem (List.mem_of_getElem? (i := 146) (by decide +kernel)) (by decide +kernel))
theorem ly_X4_3 : u_lay RX4 TX4 3 ∈ WS := (WS_mem (List.mem_of_getElem? (i := 148) (by decide +kernel)) (by decide +kernel))
theorem ly_X4_4 : u_lay RX4 TX4 4 ∈ WS := (WS_mem (List.mem_of_getElem? (i := 150) (by decide +kernel)) (by decide +kernel))
theorem ly_X4_5 : u_lay RX4 TX4 5 ∈ WS := (WS_mem (List.mem_of_getElem? (i := 152) (by decide +kernel)) (by decide +kernel))
theorem inW_X4 : ∀ w ∈ u_ws RX4 TX4 6, w ∈ WS := (show ∀ w ∈ [u_lay RX4 TX4 0, u_lay RX4 TX4 1, u_lay RX4 TX4 2, u_lay RX4 TX4 3, u_lay RX4 TX4 4, u_lay RX4 TX4 5], w ∈ WS from List.forall_mem_cons.mpr ⟨ly_X4_0, List.forall_mem_cons.mpr ⟨ly_X4_1, List.forall_mem_cons.mpr ⟨ly_X4_2, List.forall_mem_cons.mpr ⟨ly_X4_3, List.forall_mem_cons.mpr ⟨ly_X4_4, List.forall_mem_cons.mpr ⟨ly_X4_5, fun _ h => absurd h List.not_mem_nil⟩⟩⟩⟩⟩⟩)
theorem kt_X4 : KT 4 TX4 6 tyX4 := ⟨⟨RX4, rfl⟩, tyX4_ok, nmX4⟩
theorem ly_X5_0 : u_lay RX5 TX5 0 ∈ WS := (WS_mem (List.mem_of_getElem? (i := 112) (by decide +kernel)) (by decide +kernel))
theorem ly_X5_1 : u_lay RX5 TX5 1 ∈ WS := (WS_mem (List.mem_of_getElem? (i := 114) (by decide +kernel)) (by decide +kernel))
theorem ly_X5_2 : u_lay RX5 TX5 2 ∈ WS := (WS_mem (List.mem_of_getElem? (i := 116) (by decide +kernel)) (by decide +kernel))
theorem inW_X5 : ∀ w ∈ u_ws RX5 TX5 3, w ∈ WS := (show ∀ w ∈ [u_lay RX5 TX5 0, u_lay RX5 TX5 1, u_lay RX5 TX5 2], w ∈ WS from List.forall_mem_cons.mpr ⟨ly_X5_0, List.forall_mem_cons.mpr ⟨ly_X5_1, List.forall_mem_cons.mpr ⟨ly_X5_2, fun _ h => absurd h List.not_mem_nil⟩⟩⟩)
theorem kt_X5 : KT 5 TX5 3 tyX5 := ⟨⟨RX5, rfl⟩, tyX5_ok, nmX5⟩
theorem ly_X6_0 : u_lay RX6 TX6 0 ∈ WS := (WS_mem (List.mem_of_getElem? (i := 250) (by decide +kernel)) (by decide +kernel))
theorem ly_X6_1 : u_lay RX6 TX6 1 ∈ WS := (WS_mem (List.mem_of_getElem? (i := 252) (by decide +kernel)) (by decide +kernel))
theorem ly_X6_2 : u_lay RX6 TX6 2 ∈ WS := (WS_mem (List.mem_of_getElem? (i := 254) (by decide +kernel)) (by decide +kernel))
theorem ly_X6_3 : u_lay RX6 TX6 3 ∈ WS := (WS_mem (List.mem_of_getElem? (i := 256) (by decide +kernel)) (by decide +kernel))
theorem ly_X6_4 : u_lay RX6 TX6 4 ∈ WS := (WS_mem (List.mem_of_getElem? (i := 258) (by decide +kernel)) (by decide +kernel))
theorem ly_X6_5 : u_lay RX6 TX6 5 ∈ WS := (WS_mem (List.mem_of_getElem? (i := 260) (by decide +kernel)) (by decide +kernel))
theorem ly_X6_6 : u_lay RX6 TX6 6 ∈ WS := (WS_mem (List.mem_of_getElem? (i := 262) (by decide +kernel)) (by decide +kernel))
theorem ly_X6_7 : u_lay RX6 TX6 7 ∈ WS := (WS_mem (List.mem_of_getElem? (i := 264) (by decide +kernel)) (by decide +kernel))
theorem ly_X6_8 : u_lay RX6 TX6 8 ∈ WS := (WS_mem (List.mem_of_getElem? (i := 266) (by decide +kernel)) (by decide +kernel))
theorem ly_X6_9 : u_lay RX6 TX6 9 ∈ WS := (WS_mem (List.mem_of_getElem? (i := 268) (by decide +kernel)) (by decide +kernel))
theorem ly_X6_10 : u_lay RX6 TX6 10 ∈ WS := (WS_mem (List.mem_of_getElem? (i := 270) (by decide +kernel)) (by decide +kernel))
theorem ly_X6_11 : u_lay RX6 TX6 11 ∈ WS := (WS_mem (List.mem_of_getElem? (i := 272) (by decide +kernel)) (by decide +kernel))
theorem ly_X6_12 : u_lay RX6 TX6 12 ∈ WS := (WS_mem (List.mem_of_getElem? (i := 274) (by decide +kernel)) (by decide +kernel))
theorem ly_X6_13 : u_lay RX6 TX6 13 ∈ WS := (WS_mem (List.mem_of_getElem? (i := 276) (by decide +kernel)) (by decide +kernel))
theorem ly_X6_14 : u_lay RX6 TX6 14 ∈ WS := (WS_mem (List.mem_of_getElem? (i := 278) (by decide +kernel)) (by decide +kernel))
theorem inW_X6 : ∀ w ∈ u_ws RX6 TX6 15, w ∈ WS := (show ∀ w ∈ [u_lay RX6 TX6 0, u_lay RX6 TX6 1, u_lay RX6 TX6 2, u_lay RX6 TX6 3, u_lay RX6 TX6 4, u_lay RX6 TX6 5, u_lay RX6 TX6 6, u_lay RX6 TX6 7, u_lay RX6 TX6 8, u_lay RX6 TX6 9, u_lay RX6 TX6 10, u_lay RX6 TX6 11, u_lay RX6 TX6 12, u_lay RX6 TX6 13, u_lay RX6 TX6 14], w ∈ WS from List.forall_mem_cons.mpr ⟨ly_X6_0, List.forall_mem_cons.mpr ⟨ly_X6_1, List.forall_mem_cons.mpr ⟨ly_X6_2, List.forall_mem_cons.mpr ⟨ly_X6_3, List.forall_mem_cons.mpr ⟨ly_X6_4, List.forall_mem_cons.mpr ⟨ly_X6_5, List.forall_mem_cons.mpr ⟨ly_X6_6, List.forall_mem_cons.mpr ⟨ly_X6_7, List.forall_mem_cons.mpr ⟨ly_X6_8, List.forall_mem_cons.mpr ⟨ly_X6_9, List.forall_mem_cons.mpr ⟨ly_X6_10, List.forall_mem_cons.mpr ⟨ly_X6_11, List.forall_mem_cons.mpr ⟨ly_X6_12, List.forall_mem_cons.mpr ⟨ly_X6_13, List.forall_mem_cons.mpr ⟨ly_X6_14, fun _ h => absurd h List.not_mem_nil⟩⟩⟩⟩⟩⟩⟩⟩⟩⟩⟩⟩⟩⟩⟩)
theorem kt_X6 : KT 6 TX6 15 tyX6 := ⟨⟨RX6, rfl⟩, tyX6_ok, nmX6⟩
theorem ly_X7_0 : u_lay RX7 TX7 0 ∈ WS := (WS_mem (List.mem_of_getElem? (i := 741) (by decide +kernel)) (by decide +kernel))
theorem ly_X7_1 : u_lay RX7 TX7 1 ∈ WS := (WS_mem (List.mem_of_getElem? (i := 743) (by decide +kernel)) (by decide +kernel))
theorem ly_X7_2 : u_lay RX7 TX7 2 ∈ WS := (WS_mem (List.mem_of_getElem? (i := 745) (by decide +kernel)) (by decide +kernel))
theorem ly_X7_3 : u_lay RX7 TX7 3 ∈ WS := (WS_mem (List.mem_of_getElem? (i := 747) (by decide +kernel)) (by decide +kernel))
theorem ly_X7_4 : u_lay RX7 TX7 4 ∈ WS := (WS_mem (List.mem_of_getElem? (i := 749) (by decide +kernel)) (by decide +kernel))
theorem ly_X7_5 : u_lay RX7 TX7 5 ∈ WS := (WS_mem (List.mem_of_getElem? (i := 751) (by decide +kernel)) (by decide +kernel))
theorem ly_X7_6 : u_lay RX7 TX7 6 ∈ WS := (WS_mem (List.mem_of_getElem? (i := 753) (by decide +kernel)) (by decide +kernel))
theorem ly_X7_7 : u_lay RX7 TX7 7 ∈ WS := (WS_mem (List.mem_of_getElem? (i := 755) (by decide +kernel)) (by decide +kernel))
theorem ly_X7_8 : u_lay RX7 TX7 8 ∈ WS := (WS_mem (List.mem_of_getElem? (i := 757) (by decide +kernel)) (by decide +kernel))
theorem ly_X7_9 : u_lay RX7 TX7 9 ∈ WS := (WS_mem (List.mem_of_getElem? (i := 759) (by decide +kernel)) (by decide +kernel))
theorem ly_X7_10 : u_lay RX7 TX7 10 ∈ WS := (WS_mem (List.mem_of_getElem? (i := 761) (by decide +kernel)) (by decide +kernel))
theorem ly_X7_11 : u_lay RX7 TX7 11 ∈ WS := (WS_mem (List.mem_of_getElem? (i := 763) (by decide +kernel)) (by decide +kernel))
theorem ly_X7_12 : u_lay RX7 TX7 12 ∈ WS := (WS_mem (List.mem_of_getElem? (i := 765) (by decide +kernel)) (by decide +kernel))
theorem ly_X7_13 : u_lay RX7 TX7 13 ∈ WS := (WS_mem (List.mem_of_getElem? (i := 767) (by decide +kernel)) (by decide +kernel))
theorem ly_X7_14 : u_lay RX7 TX7 14 ∈ WS := (WS_mem (List.mem_of_getElem? (i := 769) (by decide +kernel)) (by decide +kernel))
theorem ly_X7_15 : u_lay RX7 TX7 15 ∈ WS := (WS_mem (List.mem_of_getElem? (i := 771) (by decide +kernel)) (by decide +kernel))
theorem ly_X7_16 : u_lay RX7 TX7 16 ∈ WS := (WS_mem (List.mem_of_getElem? (i := 773) (by decide +kernel)) (by decide +kernel))
theorem ly_X7_17 : u_lay RX7 TX7 17 ∈ WS := (WS_mem (List.mem_of_getElem? (i := 775) (by decide +kernel)) (by decide +kernel))
theorem ly_X7_18 : u_lay RX7 TX7 18 ∈ WS := (WS_mem (List.mem_of_getElem? (i := 777) (by decide +kernel)) (by decide +kernel))
theorem ly_X7_19 : u_lay RX7 TX7 19 ∈ WS := (WS_mem (List.mem_of_getElem? (i := 779) (by decide +kernel)) (by decide +kernel))
theorem ly_X7_20 : u_lay RX7 TX7 20 ∈ WS := (WS_mem (List.mem_of_getElem? (i := 781) (by decide +kernel)) (by decide +kernel))
theorem ly_X7_21 : u_lay RX7 TX7 21 ∈ WS := (WS_mem (List.mem_of_getElem? (i := 783) (by decide +kernel)) (by decide +kernel))
theorem ly_X7_22 : u_lay RX7 TX7 22 ∈ WS := (WS_mem (List.mem_of_getElem? (i := 785) (by decide +kernel)) (by decide +kernel))
theorem ly_X7_23 : u_lay RX7 TX7 23 ∈ WS := (WS_mem (List.mem_of_getElem? (i := 787) (by decide +kernel)) (by decide +kernel))
theorem ly_X7_24 : u_lay RX7 TX7 24 ∈ WS := (WS_mem (List.mem_of_getElem? (i := 789) (by decide +kernel)) (by decide +kernel))
theorem ly_X7_25 : u_lay RX7 TX7 25 ∈ WS := (WS_mem (List.mem_of_getElem? (i := 791) (by decide +kernel)) (by decide +kernel))
theorem ly_X7_26 : u_lay RX7 TX7 26 ∈ WS := (WS_mem (List.mem_of_getElem? (i := 793) (by decide +kernel)) (by decide +kernel))
theorem ly_X7_27 : u_lay RX7 TX7 27 ∈ WS := (WS_mem (List.mem_of_getElem? (i := 795) (by decide +kernel)) (by decide +kernel))
theorem ly_X7_28 : u_lay RX7 TX7 28 ∈ WS := (WS_mem (List.mem_of_getElem? (i := 797) (by decide +kernel)) (by decide +kernel))
theorem ly_X7_29 : u_lay RX7 TX7 29 ∈ WS := (WS_mem (List.mem_of_getElem? (i := 799) (by decide +kernel)) (by decide +kernel))
theorem ly_X7_30 : u_lay RX7 TX7 30 ∈ WS := (WS_mem (List.mem_of_getElem? (i := 801) (by decide +kernel)) (by decide +kernel))
theorem ly_X7_31 : u_lay RX7 TX7 31 ∈ WS := (WS_mem (List.mem_of_getElem? (i := 803) (by decide +kernel)) (by decide +kernel))
theorem ly_X7_32 : u_lay RX7 TX7 32 ∈ WS := (WS_mem (List.mem_of_getElem? (i := 805) (by decide +kernel)) (by decide +kernel))
theorem ly_X7_33 : u_lay RX7 TX7 33 ∈ WS := (WS_mem (List.mem_of_getElem? (i := 807) (by decide +kernel)) (by decide +kernel))
theorem ly_X7_34 : u_lay RX7 TX7 34 ∈ WS := (WS_mem (List.mem_of_getElem? (i := 809) (by decide +kernel)) (by decide +kernel))
theorem ly_X7_35 : u_lay RX7 TX7 35 ∈ WS := (WS_mem (List.mem_of_getElem? (i := 811) (by decide +kernel)) (by decide +kernel))
theorem ly_X7_36 : u_lay RX7 TX7 36 ∈ WS := (WS_mem (List.mem_of_getElem? (i := 813) (by decide +kernel)) (by decide +kernel))
theorem ly_X7_37 : u_lay RX7 TX7 37 ∈ WS := (WS_mem (List.mem_of_getElem? (i := 815) (by decide +kernel)) (by decide +kernel))
theorem ly_X7_38 : u_lay RX7 TX7 38 ∈ WS := (WS_mem (List.mem_of_getElem? (i := 817) (by decide +kernel)) (by decide +kernel))
theorem ly_X7_39 : u_lay RX7 TX7 39 ∈ WS := (WS_mem (List.mem_of_getElem? (i := 819) (by decide +kernel)) (by decide +kernel))
theorem ly_X7_40 : u_lay RX7 TX7 40 ∈ WS := (WS_mem (List.mem_of_getElem? (i := 821) (by decide +kernel)) (by decide +kernel))
theorem ly_X7_41 : u_lay RX7 TX7 41 ∈ WS := (WS_mem (List.mem_of_getElem? (i := 823) (by decide +kernel)) (by decide +kernel))
theorem ly_X7_42 : u_lay RX7 TX7 42 ∈ WS := (WS_mem (List.mem_of_getElem? (i := 825) (by decide +kernel)) (by decide +kernel))
theorem ly_X7_43 : u_lay RX7 TX7 43 ∈ WS := (WS_mem (List.mem_of_getElem? (i := 827) (by decide +kernel)) (by decide +kernel))
theorem inW_X7 : ∀ w ∈ u_ws RX7 TX7 44, w ∈ WS := (show ∀ w ∈ [u_lay RX7 TX7 0, u_lay RX7 TX7 1, u_lay RX7 TX7 2, u_lay RX7 TX7 3, u_lay RX7 TX7 4, u_lay RX7 TX7 5, u_lay RX7 TX7 6, u_lay RX7 TX7 7, u_lay RX7 TX7 8, u_lay RX7 TX7 9, u_lay RX7 TX7 10, u_lay RX7 TX7 11, u_lay RX7 TX7 12, u_lay RX7 TX7 13, u_lay RX7 TX7 14, u_lay RX7 TX7 15, u_lay RX7 TX7 16, u_lay RX7 TX7 17, u_lay RX7 TX7 18, u_lay RX7 TX7 19, u_lay RX7 TX7 20, u_lay RX7 TX7 21, u_lay RX7 TX7 22, u_lay RX7 TX7 23, u_lay RX7 TX7 24, u_lay RX7 TX7 25, u_lay RX7 TX7 26, u_lay RX7 TX7 27, u_lay RX7 TX7 28, u_lay RX7 TX7 29, u_lay RX7 TX7 30, u_lay RX7 TX7 31, u_lay RX7 TX7 32, u_lay RX7 TX7 33, u_lay RX7 TX7 34, u_lay RX7 TX7 35, u_lay RX7 TX7 36, u_lay RX7 TX7 37, u_lay RX7 TX7 38, u_lay RX7 TX7 39, u_lay RX7 TX7 40, u_lay RX7 TX7 41, u_lay RX7 TX7 42, u_lay RX7 TX7 43], w ∈ WS from List.forall_mem_cons.mpr ⟨ly_X7_0, List.forall_mem_cons.mpr ⟨ly_X7_1, List.forall_mem_cons.mpr ⟨ly_X7_2, List.forall_mem_cons.mpr ⟨ly_X7_3, List.forall_mem_cons.mpr ⟨ly_X7_4, List.forall_mem_cons.mpr ⟨ly_X7_5, List.forall_mem_cons.mpr ⟨ly_X7_6, List.forall_mem_cons.mpr ⟨ly_X7_7, List.forall_mem_cons.mpr ⟨ly_X7_8, List.forall_mem_cons.mpr ⟨ly_X7_9, List.forall_mem_cons.mpr ⟨ly_X7_10, List.forall_mem_cons.mpr ⟨ly_X7_11, List.forall_mem_cons.mpr ⟨ly_X7_12, List.forall_mem_cons.mpr ⟨ly_X7_13, List.forall_mem_cons.mpr ⟨ly_X7_14, List.forall_mem_cons.mpr ⟨ly_X7_15, List.forall_mem_cons.mpr ⟨ly_X7_16, List.forall_mem_cons.mpr ⟨ly_X7_17, List.forall_mem_cons.mpr ⟨ly_X7_18, List.forall_mem_cons.mpr ⟨ly_X7_19, List.forall_mem_cons.mpr ⟨ly_X7_20, List.forall_mem_cons.mpr ⟨ly_X7_21, List.forall_mem_cons.mpr ⟨ly_X7_22, List.forall_mem_cons.mpr ⟨ly_X7_23, List.forall_mem_cons.mpr ⟨ly_X7_24, List.forall_mem_cons.mpr ⟨ly_X7_25, List.forall_mem_cons.mpr ⟨ly_X7_26, List.forall_mem_cons.mpr ⟨ly_X7_27, List.forall_mem_cons.mpr ⟨ly_X7_28, List.forall_mem_cons.mpr ⟨ly_X7_29, List.forall_mem_cons.mpr ⟨ly_X7_30, List.forall_mem_cons.mpr ⟨ly_X7_31, List.forall_mem_cons.mpr ⟨ly_X7_32, List.forall_mem_cons.mpr ⟨ly_X7_33, List.forall_mem_cons.mpr ⟨ly_X7_34, List.forall_mem_cons.mpr ⟨ly_X7_35, List.forall_mem_cons.mpr ⟨ly_X7_36, List.forall_mem_cons.mpr ⟨ly_X7_37, List.forall_mem_cons.mpr ⟨ly_X7_38, List.forall_mem_cons.mpr ⟨ly_X7_39, List.forall_mem_cons.mpr ⟨ly_X7_40, List.forall_mem_cons.mpr ⟨ly_X7_41, List.forall_mem_cons.mpr ⟨ly_X7_42, List.forall_mem_cons.mpr ⟨ly_X7_43, fun _ h => absurd h List.not_mem_nil⟩⟩⟩⟩⟩⟩⟩⟩⟩⟩⟩⟩⟩⟩⟩⟩⟩⟩⟩⟩⟩⟩⟩⟩⟩⟩⟩⟩⟩⟩⟩⟩⟩⟩⟩⟩⟩⟩⟩⟩⟩⟩⟩⟩)
theorem kt_X7 : KT 7 TX7 44 tyX7 := ⟨⟨RX7, rfl⟩, tyX7_ok, nmX7⟩
theorem fl_X5_15 : FL RX5 15 5 0 := ⟨RX5, TX5, 3, rfl, by decide, inW_X5, (WS_mem (List.mem_of_getElem? (i := 103) (by decide +kernel)) (by decide +kernel))⟩
theorem fl_X6_95 : FL RX6 95 5 0 := ⟨RX5, TX5, 3, rfl, by decide, inW_X5, (WS_mem (List.mem_of_getElem? (i := 104) (by decide +kernel)) (by decide +kernel))⟩
theorem fl_X1_35 : FL RX1 35 5 0 := ⟨RX5, TX5, 3, rfl, by decide, inW_X5, (WS_mem (List.mem_of_getElem? (i := 105) (by decide +kernel)) (by decide +kernel))⟩
theorem fl_X4_44 : FL RX4 44 5 0 := ⟨RX5, TX5, 3, rfl, by decide, inW_X5, (WS_mem (List.mem_of_getElem? (i := 106) (by decide +kernel)) (by decide +kernel))⟩
theorem fl_X5_19 : FL RX5 19 5 1 := ⟨RX5, TX5, 3, rfl, by decide, inW_X5, (WS_mem (List.mem_of_getElem? (i := 107) (by decide +kernel)) (by decide +kernel))⟩
theorem fl_X5_9 : FL RX5 9 5 2 := ⟨RX5, TX5, 3, rfl, by decide, inW_X5, (WS_mem (List.mem_of_getElem? (i := 108) (by decide +kernel)) (by decide +kernel))⟩
theorem fl_X4_37 : FL RX4 37 5 2 := ⟨RX5, TX5, 3, rfl, by decide, inW_X5, (WS_mem (List.mem_of_getElem? (i := 109) (by decide +kernel)) (by decide +kernel))⟩
theorem fl_X1_28 : FL RX1 28 5 2 := ⟨RX5, TX5, 3, rfl, by decide, inW_X5, (WS_mem (List.mem_of_getElem? (i := 110) (by decide +kernel)) (by decide +kernel))⟩
theorem fl_X6_92 : FL RX6 92 5 2 := ⟨RX5, TX5, 3, rfl, by decide, inW_X5, (WS_mem (List.mem_of_getElem? (i := 111) (by decide +kernel)) (by decide +kernel))⟩
theorem fl_X4_9 : FL RX4 9 4 0 := ⟨RX4, TX4, 6, rfl, by decide, inW_X4, (WS_mem (List.mem_of_getElem? (i := 126) (by decide +kernel)) (by decide +kernel))⟩
theorem fl_X0_66 : FL RX0 66 4 0 := ⟨RX4, TX4, 6, rfl, by decide, inW_X4, (WS_mem (List.mem_of_getElem? (i := 127) (by decide +kernel)) (by decide +kernel))⟩
theorem fl_X6_106 : FL RX6 106 4 0 := ⟨RX4, TX4, 6, rfl, by decide, inW_X4, (WS_mem (List.mem_of_getElem? (i := 128) (by decide +kernel)) (by decide +kernel))⟩
theorem fl_X4_15 : FL RX4 15 4 1 := ⟨RX4, TX4, 6, rfl, by decide, inW_X4, (WS_mem (List.mem_of_getElem? (i := 129) (by decide +kernel)) (by decide +kernel))⟩
theorem fl_X0_63 : FL RX0 63 4 1 := ⟨RX4, TX4, 6, rfl, by decide, inW_X4, (WS_mem (List.mem_of_getElem? (i := 130) (by decide +kernel)) (by decide +kernel))⟩
theorem fl_X6_109 : FL RX6 109 4 1 := ⟨RX4, TX4, 6, rfl, by decide, inW_X4, (WS_mem (List.mem_of_getElem? (i := 131) (by decide +kernel)) (by decide +kernel))⟩
theorem fl_X4_18 : FL RX4 18 4 2 := ⟨RX4, TX4, 6, rfl, by decide, inW_X4, (WS_mem (List.mem_of_getElem? (i := 132) (by decide +kernel)) (by decide +kernel))⟩
theorem fl_X0_73 : FL RX0 73 4 2 := ⟨RX4, TX4, 6, rfl, by decide, inW_X4, (WS_mem (List.mem_of_getElem? (i := 133) (by decide +kernel)) (by decide +kernel))⟩
theorem fl_X6_112 : FL RX6 112 4 2 := ⟨RX4, TX4, 6, rfl, by decide, inW_X4, (WS_mem (List.mem_of_getElem? (i := 134) (by decide +kernel)) (by decide +kernel))⟩
theorem fl_X4_21 : FL RX4 21 4 3 := ⟨RX4, TX4, 6, rfl, by decide, inW_X4, (WS_mem (List.mem_of_getElem? (i := 135) (by decide +kernel)) (by decide +kernel))⟩
theorem fl_X0_80 : FL RX0 80 4 3 := ⟨RX4, TX4, 6, rfl, by decide, inW_X4, (WS_mem (List.mem_of_getElem? (i := 136) (by decide +kernel)) (by decide +kernel))⟩
theorem fl_X6_115 : FL RX6 115 4 3 := ⟨RX4, TX4, 6, rfl, by decide, inW_X4, (WS_mem (List.mem_of_getElem? (i := 137) (by decide +kernel)) (by decide +kernel))⟩
theorem fl_X4_24 : FL RX4 24 4 4 := ⟨RX4, TX4, 6, rfl, by decide, inW_X4, (WS_mem (List.mem_of_getElem? (i := 138) (by decide +kernel)) (by decide +kernel))⟩
theorem fl_X0_43 : FL RX0 43 4 4 := ⟨RX4, TX4, 6, rfl, by decide, inW_X4, (WS_mem (List.mem_of_getElem? (i := 139) (by decide +kernel)) (by decide +kernel))⟩
theorem fl_X6_105 : FL RX6 105 4 4 := ⟨RX4, TX4, 6, rfl, by decide, inW_X4, (WS_mem (List.mem_of_getElem? (i := 140) (by decide +kernel)) (by decide +kernel))⟩
theorem fl_X4_28 : FL RX4 28 4 5 := ⟨RX4, TX4, 6, rfl, by decide, inW_X4, (WS_mem (List.mem_of_getElem? (i := 141) (by decide +kernel)) (by decide +kernel))⟩
theorem fl_X1_9 : FL RX1 9 1 0 := ⟨RX1, TX1, 3, rfl, by decide, inW_X1, (WS_mem (List.mem_of_getElem? (i := 161) (by decide +kernel)) (by decide +kernel))⟩
theorem fl_X6_119 : FL RX6 119 1 0 := ⟨RX1, TX1, 3, rfl, by decide, inW_X1, (WS_mem (List.mem_of_getElem? (i := 162) (by decide +kernel)) (by decide +kernel))⟩
theorem fl_X1_15 : FL RX1 15 1 1 := ⟨RX1, TX1, 3, rfl, by decide, inW_X1, (WS_mem (List.mem_of_getElem? (i := 163) (by decide +kernel)) (by decide +kernel))⟩
theorem fl_X6_120 : FL RX6 120 1 1 := ⟨RX1, TX1, 3, rfl, by decide, inW_X1, (WS_mem (List.mem_of_getElem? (i := 164) (by decide +kernel)) (by decide +kernel))⟩
theorem fl_X1_18 : FL RX1 18 1 2 := ⟨RX1, TX1, 3, rfl, by decide, inW_X1, (WS_mem (List.mem_of_getElem? (i := 165) (by decide +kernel)) (by decide +kernel))⟩
theorem fl_X6_118 : FL RX6 118 1 2 := ⟨RX1, TX1, 3, rfl, by decide, inW_X1, (WS_mem (List.mem_of_getElem? (i := 166) (by decide +kernel)) (by decide +kernel))⟩
theorem fl_X2_9 : FL RX2 9 2 0 := ⟨RX2, TX2, 4, rfl, by decide, inW_X2, (WS_mem (List.mem_of_getElem? (i := 180) (by decide +kernel)) (by decide +kernel))⟩
theorem fl_X0_42 : FL RX0 42 2 0 := ⟨RX2, TX2, 4, rfl, by decide, inW_X2, (WS_mem (List.mem_of_getElem? (i := 181) (by decide +kernel)) (by decide +kernel))⟩
theorem fl_X6_122 : FL RX6 122 2 0 := ⟨RX2, TX2, 4, rfl, by decide, inW_X2, (WS_mem (List.mem_of_getElem? (i := 182) (by decide +kernel)) (by decide +kernel))⟩
theorem fl_X2_15 : FL RX2 15 2 1 := ⟨RX2, TX2, 4, rfl, by decide, inW_X2, (WS_mem (List.mem_of_getElem? (i := 183) (by decide +kernel)) (by decide +kernel))⟩
theorem fl_X0_69 : FL RX0 69 2 1 := ⟨RX2, TX2, 4, rfl, by decide, inW_X2, (WS_mem (List.mem_of_getElem? (i := 184) (by decide +kernel)) (by decide +kernel))⟩
theorem fl_X6_125 : FL RX6 125 2 1 := ⟨RX2, TX2, 4, rfl, by decide, inW_X2, (WS_mem (List.mem_of_getElem? (i := 185) (by decide +kernel)) (by decide +kernel))⟩
theorem fl_X2_18 : FL RX2 18 2 2 := ⟨RX2, TX2, 4, rfl, by decide, inW_X2, (WS_mem (List.mem_of_getElem? (i := 186) (by decide +kernel)) (by decide +kernel))⟩
theorem fl_X0_70 : FL RX0 70 2 2 := ⟨RX2, TX2, 4, rfl, by decide, inW_X2, (WS_mem (List.mem_of_getElem? (i := 187) (by decide +kernel)) (by decide +kernel))⟩
theorem fl_X6_126 : FL RX6 126 2 2 := ⟨RX2, TX2, 4, rfl, by decide, inW_X2, (WS_mem (List.mem_of_getElem? (i := 188) (by decide +kernel)) (by decide +kernel))⟩
theorem fl_X2_21 : FL RX2 21 2 3 := ⟨RX2, TX2, 4, rfl, by decide, inW_X2, (WS_mem (List.mem_of_getElem? (i := 189) (by decide +kernel)) (by decide +kernel))⟩
theorem fl_X0_37 : FL RX0 37 2 3 := ⟨RX2, TX2, 4, rfl, by decide, inW_X2, (WS_mem (List.mem_of_getElem? (i := 190) (by decide +kernel)) (by decide +kernel))⟩
theorem fl_X6_121 : FL RX6 121 2 3 := ⟨RX2, TX2, 4, rfl, by decide, inW_X2, (WS_mem (List.mem_of_getElem? (i := 191) (by decide +kernel)) (by decide +kernel))⟩
theorem fl_X0_9 : FL RX0 9 0 0 := ⟨RX0, TX0, 7, rfl, by decide, inW_X0, (WS_mem (List.mem_of_getElem? (i := 207) (by decide +kernel)) (by decide +kernel))⟩
theorem fl_X6_146 : FL RX6 146 0 0 := ⟨RX0, TX0, 7, rfl, by decide, inW_X0, (WS_mem (List.mem_of_getElem? (i := 208) (by decide +kernel)) (by decide +kernel))⟩
theorem fl_X0_15 : FL RX0 15 0 1 := ⟨RX0, TX0, 7, rfl, by decide, inW_X0, (WS_mem (List.mem_of_getElem? (i := 209) (by decide +kernel)) (by decide +kernel))⟩
theorem fl_X6_150 : FL RX6 150 0 1 := ⟨RX0, TX0, 7, rfl, by decide, inW_X0, (WS_mem (List.mem_of_getElem? (i := 210) (by decide +kernel)) (by decide +kernel))⟩
theorem fl_X0_19 : FL RX0 19 0 2 := ⟨RX0, TX0, 7, rfl, by decide, inW_X0, (WS_mem (List.mem_of_getElem? (i := 211) (by decide +kernel)) (by decide +kernel))⟩
theorem fl_X6_187 : FL RX6 187 0 2 := ⟨RX0, TX0, 7, rfl, by decide, inW_X0, (WS_mem (List.mem_of_getElem? (i := 212) (by decide +kernel)) (by decide +kernel))⟩
theorem fl_X0_23 : FL RX0 23 0 3 := ⟨RX0, TX0, 7, rfl, by decide, inW_X0, (WS_mem (List.mem_of_getElem? (i := 213) (by decide +kernel)) (by decide +kernel))⟩
theorem fl_X0_26 : FL RX0 26 0 4 := ⟨RX0, TX0, 7, rfl, by decide, inW_X0, (WS_mem (List.mem_of_getElem? (i := 214) (by decide +kernel)) (by decide +kernel))⟩
theorem fl_X0_33 : FL RX0 33 0 5 := ⟨RX0, TX0, 7, rfl, by decide, inW_X0, (WS_mem (List.mem_of_getElem? (i := 215) (by decide +kernel)) (by decide +kernel))⟩
theorem fl_X0_29 : FL RX0 29 0 6 := ⟨RX0, TX0, 7, rfl, by decide, inW_X0, (WS_mem (List.mem_of_getElem? (i := 216) (by decide +kernel)) (by decide +kernel))⟩
theorem fl_X6_14 : FL RX6 14 6 0 := ⟨RX6, TX6, 15, rfl, by decide, inW_X6, (WS_mem (List.mem_of_getElem? (i := 235) (by decide +kernel)) (by decide +kernel))⟩
theorem fl_X6_18 : FL RX6 18 6 1 := ⟨RX6, TX6, 15, rfl, by decide, inW_X6, (WS_mem (List.mem_of_getElem? (i := 236) (by decide +kernel)) (by decide +kernel))⟩
theorem fl_X6_24 : FL RX6 24 6 2 := ⟨RX6, TX6, 15, rfl, by decide, inW_X6, (WS_mem (List.mem_of_getElem? (i := 237) (by decide +kernel)) (by decide +kernel))⟩
theorem fl_X6_28 : FL RX6 28 6 3 := ⟨RX6, TX6, 15, rfl, by decide, inW_X6, (WS_mem (List.mem_of_getElem? (i := 238) (by decide +kernel)) (by decide +kernel))⟩
theorem fl_X6_34 : FL RX6 34 6 4 := ⟨RX6, TX6, 15, rfl, by decide, inW_X6, (WS_mem (List.mem_of_getElem? (i := 239) (by decide +kernel)) (by decide +kernel))⟩
theorem fl_X6_41 : FL RX6 41 6 5 := ⟨RX6, TX6, 15, rfl, by decide, inW_X6, (WS_mem (List.mem_of_getElem? (i := 240) (by decide +kernel)) (by decide +kernel))⟩
theorem fl_X6_50 : FL RX6 50 6 6 := ⟨RX6, TX6, 15, rfl, by decide, inW_X6, (WS_mem (List.mem_of_getElem? (i := 241) (by decide +kernel)) (by decide +kernel))⟩
theorem fl_X6_54 : FL RX6 54 6 7 := ⟨RX6, TX6, 15, rfl, by decide, inW_X6, (WS_mem (List.mem_of_getElem? (i := 242) (by decide +kernel)) (by decide +kernel))⟩
theorem fl_X6_58 : FL RX6 58 6 8 := ⟨RX6, TX6, 15, rfl, by decide, inW_X6, (WS_mem (List.mem_of_getElem? (i := 243) (by decide +kernel)) (by decide +kernel))⟩
theorem fl_X6_63 : FL RX6 63 6 9 := ⟨RX6, TX6, 15, rfl, by decide, inW_X6, (WS_mem (List.mem_of_getElem? (i := 244) (by decide +kernel)) (by decide +kernel))⟩
theorem fl_X6_67 : FL RX6 67 6 10 := ⟨RX6, TX6, 15, rfl, by decide, inW_X6, (WS_mem (List.mem_of_getElem? (i := 245) (by decide +kernel)) (by decide +kernel))⟩
theorem fl_X6_70 : FL RX6 70 6 11 := ⟨RX6, TX6, 15, rfl, by decide, inW_X6, (WS_mem (List.mem_of_getElem? (i := 246) (by decide +kernel)) (by decide +kernel))⟩
theorem fl_X6_74 : FL RX6 74 6 12 := ⟨RX6, TX6, 15, rfl, by decide, inW_X6, (WS_mem (List.mem_of_getElem? (i := 247) (by decide +kernel)) (by decide +kernel))⟩
theorem fl_X6_78 : FL RX6 78 6 13 := ⟨RX6, TX6, 15, rfl, by decide, inW_X6, (WS_mem (List.mem_of_getElem? (i := 248) (by decide +kernel)) (by decide +kernel))⟩
theorem fl_X6_81 : FL RX6 81 6 14 := ⟨RX6, TX6, 15, rfl, by decide, inW_X6, (WS_mem (List.mem_of_getElem? (i := 249) (by decide +kernel)) (by decide +kernel))⟩
theorem fl_X3_9 : FL RX3 9 3 0 := ⟨RX3, TX3, 2, rfl, by decide, inW_X3, (WS_mem (List.mem_of_getElem? (i := 608) (by decide +kernel)) (by decide +kernel))⟩
theorem fl_X6_245 : FL RX6 245 3 0 := ⟨RX3, TX3, 2, rfl, by decide, inW_X3, (WS_mem (List.mem_of_getElem? (i := 609) (by decide +kernel)) (by decide +kernel))⟩
theorem fl_X3_15 : FL RX3 15 3 1 := ⟨RX3, TX3, 2, rfl, by decide, inW_X3, (WS_mem (List.mem_of_getElem? (i := 610) (by decide +kernel)) (by decide +kernel))⟩
theorem fl_X6_133 : FL RX6 133 3 1 := ⟨RX3, TX3, 2, rfl, by decide, inW_X3, (WS_mem (List.mem_of_getElem? (i := 611) (by decide +kernel)) (by decide +kernel))⟩
theorem fl_X7_7 : FL RX7 7 7 0 := ⟨RX7, TX7, 44, rfl, by decide, inW_X7, (WS_mem (List.mem_of_getElem? (i := 697) (by decide +kernel)) (by decide +kernel))⟩
theorem fl_X7_13 : FL RX7 13 7 1 := ⟨RX7, TX7, 44, rfl, by decide, inW_X7, (WS_mem (List.mem_of_getElem? (i := 698) (by decide +kernel)) (by decide +kernel))⟩
theorem fl_X7_135 : FL RX7 135 7 2 := ⟨RX7, TX7, 44, rfl, by decide, inW_X7, (WS_mem (List.mem_of_getElem? (i := 699) (by decide +kernel)) (by decide +kernel))⟩
theorem fl_X7_16 : FL RX7 16 7 3 := ⟨RX7, TX7, 44, rfl, by decide, inW_X7, (WS_mem (List.mem_of_getElem? (i := 700) (by decide +kernel)) (by decide +kernel))⟩
theorem fl_X7_19 : FL RX7 19 7 4 := ⟨RX7, TX7, 44, rfl, by decide, inW_X7, (WS_mem (List.mem_of_getElem? (i := 701) (by decide +kernel)) (by decide +kernel))⟩
theorem fl_X7_22 : FL RX7 22 7 5 := ⟨RX7, TX7, 44, rfl, by decide, inW_X7, (WS_mem (List.mem_of_getElem? (i := 702) (by decide +kernel)) (by decide +kernel))⟩
theorem fl_X7_25 : FL RX7 25 7 6 := ⟨RX7, TX7, 44, rfl, by decide, inW_X7, (WS_mem (List.mem_of_getElem? (i := 703) (by decide +kernel)) (by decide +kernel))⟩
theorem fl_X7_138 : FL RX7 138 7 7 := ⟨RX7, TX7, 44, rfl, by decide, inW_X7, (WS_mem (List.mem_of_getElem? (i := 704) (by decide +kernel)) (by decide +kernel))⟩
theorem fl_X7_28 : FL RX7 28 7 8 := ⟨RX7, TX7, 44, rfl, by decide, inW_X7, (WS_mem (List.mem_of_getElem? (i := 705) (by decide +kernel)) (by decide +kernel))⟩
theorem fl_X7_31 : FL RX7 31 7 9 := ⟨RX7, TX7, 44, rfl, by decide, inW_X7, (WS_mem (List.mem_of_getElem? (i := 706) (by decide +kernel)) (by decide +kernel))⟩
theorem fl_X7_107 : FL RX7 107 7 10 := ⟨RX7, TX7, 44, rfl, by decide, inW_X7, (WS_mem (List.mem_of_getElem? (i := 707) (by decide +kernel)) (by decide +kernel))⟩
theorem fl_X7_171 : FL RX7 171 7 11 := ⟨RX7, TX7, 44, rfl, by decide, inW_X7, (WS_mem (List.mem_of_getElem? (i := 708) (by decide +kernel)) (by decide +kernel))⟩
theorem fl_X7_34 : FL RX7 34 7 12 := ⟨RX7, TX7, 44, rfl, by decide, inW_X7, (WS_mem (List.mem_of_getElem? (i := 709) (by decide +kernel)) (by decide +kernel))⟩
theorem fl_X7_37 : FL RX7 37 7 13 := ⟨RX7, TX7, 44, rfl, by decide, inW_X7, (WS_mem (List.mem_of_getElem? (i := 710) (by decide +kernel)) (by decide +kernel))⟩
theorem fl_X7_40 : FL RX7 40 7 14 := ⟨RX7, TX7, 44, rfl, by decide, inW_X7, (WS_mem (List.mem_of_getElem? (i := 711) (by decide +kernel)) (by decide +kernel))⟩
theorem fl_X7_184 : FL RX7 184 7 15 := ⟨RX7, TX7, 44, rfl, by decide, inW_X7, (WS_mem (List.mem_of_getElem? (i := 712) (by decide +kernel)) (by decide +kernel))⟩
theorem fl_X7_43 : FL RX7 43 7 16 := ⟨RX7, TX7, 44, rfl, by decide, inW_X7, (WS_mem (List.mem_of_getElem? (i := 713) (by decide +kernel)) (by decide +kernel))⟩
theorem fl_X7_46 : FL RX7 46 7 17 := ⟨RX7, TX7, 44, rfl, by decide, inW_X7, (WS_mem (List.mem_of_getElem? (i := 714) (by decide +kernel)) (by decide +kernel))⟩
theorem fl_X7_49 : FL RX7 49 7 18 := ⟨RX7, TX7, 44, rfl, by decide, inW_X7, (WS_mem (List.mem_of_getElem? (i := 715) (by decide +kernel)) (by decide +kernel))⟩
theorem fl_X7_52 : FL RX7 52 7 19 := ⟨RX7, TX7, 44, rfl, by decide, inW_X7, (WS_mem (List.mem_of_getElem? (i := 716) (by decide +kernel)) (by decide +kernel))⟩
theorem fl_X7_187 : FL RX7 187 7 20 := ⟨RX7, TX7, 44, rfl, by decide, inW_X7, (WS_mem (List.mem_of_getElem? (i := 717) (by decide +kernel)) (by decide +kernel))⟩
theorem fl_X7_190 : FL RX7 190 7 21 := ⟨RX7, TX7, 44, rfl, by decide, inW_X7, (WS_mem (List.mem_of_getElem? (i := 718) (by decide +kernel)) (by decide +kernel))⟩
theorem fl_X7_55 : FL RX7 55 7 22 := ⟨RX7, TX7, 44, rfl, by decide, inW_X7, (WS_mem (List.mem_of_getElem? (i := 719) (by decide +kernel)) (by decide +kernel))⟩
theorem fl_X7_58 : FL RX7 58 7 23 := ⟨RX7, TX7, 44, rfl, by decide, inW_X7, (WS_mem (List.mem_of_getElem? (i := 720) (by decide +kernel)) (by decide +kernel))⟩
theorem fl_X7_61 : FL RX7 61 7 24 := ⟨RX7, TX7, 44, rfl, by decide, inW_X7, (WS_mem (List.mem_of_getElem? (i := 721) (by decide +kernel)) (by decide +kernel))⟩
theorem fl_X7_64 : FL RX7 64 7 25 := ⟨RX7, TX7, 44, rfl, by decide, inW_X7, (WS_mem (List.mem_of_getElem? (i := 722) (by decide +kernel)) (by decide +kernel))⟩
theorem fl_X7_67 : FL RX7 67 7 26 := ⟨RX7, TX7, 44, rfl, by decide, inW_X7, (WS_mem (List.mem_of_getElem? (i := 723) (by decide +kernel)) (by decide +kernel))⟩
theorem fl_X7_70 : FL RX7 70 7 27 := ⟨RX7, TX7, 44, rfl, by decide, inW_X7, (WS_mem (List.mem_of_getElem? (i := 724) (by decide +kernel)) (by decide +kernel))⟩
theorem fl_X7_228 : FL RX7 228 7 28 := ⟨RX7, TX7, 44, rfl, by decide, inW_X7, (WS_mem (List.mem_of_getElem? (i := 725) (by decide +kernel)) (by decide +kernel))⟩
theorem fl_X7_73 : FL RX7 73 7 29 := ⟨RX7, TX7, 44, rfl, by decide, inW_X7, (WS_mem (List.mem_of_getElem? (i := 726) (by decide +kernel)) (by decide +kernel))⟩
theorem fl_X7_284 : FL RX7 284 7 30 := ⟨RX7, TX7, 44, rfl, by decide, inW_X7, (WS_mem (List.mem_of_getElem? (i := 727) (by decide +kernel)) (by decide +kernel))⟩
theorem fl_X7_287 : FL RX7 287 7 31 := ⟨RX7, TX7, 44, rfl, by decide, inW_X7, (WS_mem (List.mem_of_getElem? (i := 728) (by decide +kernel)) (by decide +kernel))⟩
theorem fl_X7_76 : FL RX7 76 7 32 := ⟨RX7, TX7, 44, rfl, by decide, inW_X7, (WS_mem (List.mem_of_getElem? (i := 729) (by decide +kernel)) (by decide +kernel))⟩
theorem fl_X7_79 : FL RX7 79 7 33 := ⟨RX7, TX7, 44, rfl, by decide, inW_X7, (WS_mem (List.mem_of_getElem? (i := 730) (by decide +kernel)) (by decide +kernel))⟩
theorem fl_X7_314 : FL RX7 314 7 34 := ⟨RX7, TX7, 44, rfl, by decide, inW_X7, (WS_mem (List.mem_of_getElem? (i := 731) (by decide +kernel)) (by decide +kernel))⟩
theorem fl_X7_82 : FL RX7 82 7 35 := ⟨RX7, TX7, 44, rfl, by decide, inW_X7, (WS_mem (List.mem_of_getElem? (i := 732) (by decide +kernel)) (by decide +kernel))⟩
theorem fl_X7_85 : FL RX7 85 7 36 := ⟨RX7, TX7, 44, rfl, by decide, inW_X7, (WS_mem (List.mem_of_getElem? (i := 733) (by decide +kernel)) (by decide +kernel))⟩
theorem fl_X7_88 : FL RX7 88 7 37 := ⟨RX7, TX7, 44, rfl, by decide, inW_X7, (WS_mem (List.mem_of_getElem? (i := 734) (by decide +kernel)) (by decide +kernel))⟩
theorem fl_X7_91 : FL RX7 91 7 38 := ⟨RX7, TX7, 44, rfl, by decide, inW_X7, (WS_mem (List.mem_of_getElem? (i := 735) (by decide +kernel)) (by decide +kernel))⟩
theorem fl_X7_95 : FL RX7 95 7 39 := ⟨RX7, TX7, 44, rfl, by decide, inW_X7, (WS_mem (List.mem_of_getElem? (i := 736) (by decide +kernel)) (by decide +kernel))⟩
theorem fl_X7_98 : FL RX7 98 7 40 := ⟨RX7, TX7, 44, rfl, by decide, inW_X7, (WS_mem (List.mem_of_getElem? (i := 737) (by decide +kernel)) (by decide +kernel))⟩
theorem fl_X7_101 : FL RX7 101 7 41 := ⟨RX7, TX7, 44, rfl, by decide, inW_X7, (WS_mem (List.mem_of_getElem? (i := 738) (by decide +kernel)) (by decide +kernel))⟩
theorem fl_X7_104 : FL RX7 104 7 42 := ⟨RX7, TX7, 44, rfl, by decide, inW_X7, (WS_mem (List.mem_of_getElem? (i := 739) (by decide +kernel)) (by decide +kernel))⟩
theorem fl_X7_349 : FL RX7 349 7 43 := ⟨RX7, TX7, 44, rfl, by decide, inW_X7, (WS_mem (List.mem_of_getElem? (i := 740) (by decide +kernel)) (by decide +kernel))⟩
abbrev mX6_init : MI := (yX6_init, cX6_init, 1, none)
set_option maxRecDepth 40000 in
theorem cw_X6_init : Cond.code yX6_init cX6_init 1 none ∈ WS := (WS_mem (List.mem_of_getElem? (i := 93) rfl) rfl)
abbrev mX5_init : MI := (yX5_init, cX5_init, 3, none)
set_option maxRecDepth 40000 in
theorem cw_X5_init : Cond.code yX5_init cX5_init 3 none ∈ WS := (WS_mem (List.mem_of_getElem? (i := 101) rfl) rfl)
abbrev mX4_init : MI := (yX4_init, cX4_init, 1, none)
set_option maxRecDepth 40000 in
theorem cw_X4_init : Cond.code yX4_init cX4_init 1 none ∈ WS := (WS_mem (List.mem_of_getElem? (i := 124) rfl) rfl)
abbrev mX1_init : MI := (yX1_init, cX1_init, 1, none)
set_option maxRecDepth 40000 in
theorem cw_X1_init : Cond.code yX1_init cX1_init 1 none ∈ WS := (WS_mem (List.mem_of_getElem? (i := 159) rfl) rfl)
abbrev mX2_init : MI := (yX2_init, cX2_init, 1, none)
set_option maxRecDepth 40000 in
theorem cw_X2_init : Cond.code yX2_init cX2_init 1 none ∈ WS := (WS_mem (List.mem_of_getElem? (i := 178) rfl) rfl)
abbrev mX0_init : MI := (yX0_init, cX0_init, 3, none)
set_option maxRecDepth 40000 in
theorem cw_X0_init : Cond.code yX0_init cX0_init 3 none ∈ WS := (WS_mem (List.mem_of_getElem? (i := 205) rfl) rfl)
abbrev mX6_type : MI := (yX6_type, cX6_type, 4, (some .int))
set_option maxRecDepth 40000 in
theorem cw_X6_type : Cond.code yX6_type cX6_type 4 (some .int) ∈ WS := (WS_mem (List.mem_of_getElem? (i := 285) rfl) rfl)
theorem mv_X6_type : MV mX6_type RX6 2 := ⟨(WS_mem (List.mem_of_getElem? (i := 283) (by decide +kernel)) (by decide +kernel)), (WS_mem (List.mem_of_getElem? (i := 284) (by decide +kernel)) (by decide +kernel)), (WS_mem (List.mem_of_getElem? (i := 77) (by decide +kernel)) (by decide +kernel)), cw_X6_type, ⟨by decide +kernel, by decide +kernel, by decide +kernel⟩, by decide⟩
abbrev mX6_outside : MI := (yX6_outside, cX6_outside, 2, (some .boolean))
set_option maxRecDepth 40000 in
theorem cw_X6_outside : Cond.code yX6_outside cX6_outside 2 (some .boolean) ∈ WS := (WS_mem (List.mem_of_getElem? (i := 288) rfl) rfl)
theorem ms_X6_outside : MS mX6_outside 2 := ⟨(WS_mem (List.mem_of_getElem? (i := 287) (by decide +kernel)) (by decide +kernel)), (WS_mem (List.mem_of_getElem? (i := 77) (by decide +kernel)) (by decide +kernel)), cw_X6_outside, ⟨by decide +kernel, by decide +kernel, by decide +kernel⟩, by decide⟩
abbrev mX6_textOf : MI := (yX6_textOf, cX6_textOf, 2, (some (.object "SwornElsewhere$Text")))
set_option maxRecDepth 40000 in
theorem cw_X6_textOf : Cond.code yX6_textOf cX6_textOf 2 (some (.object "SwornElsewhere$Text")) ∈ WS := (WS_mem (List.mem_of_getElem? (i := 292) rfl) rfl)
theorem mv_X6_textOf : MV mX6_textOf RX6 1 := ⟨(WS_mem (List.mem_of_getElem? (i := 291) (by decide +kernel)) (by decide +kernel)), (WS_mem (List.mem_of_getElem? (i := 0) (by decide +kernel)) (by decide +kernel)), (WS_mem (List.mem_of_getElem? (i := 77) (by decide +kernel)) (by decide +kernel)), cw_X6_textOf, ⟨by decide +kernel, by decide +kernel, by decide +kernel⟩, by decide⟩
abbrev mX6_tellAnew : MI := (yX6_tellAnew, cX6_tellAnew, 1, none)
set_option maxRecDepth 40000 in
theorem cw_X6_tellAnew : Cond.code yX6_tellAnew cX6_tellAnew 1 none ∈ WS := (WS_mem (List.mem_of_getElem? (i := 296) rfl) rfl)
theorem mv_X6_tellAnew : MV mX6_tellAnew RX6 0 := ⟨(WS_mem (List.mem_of_getElem? (i := 295) (by decide +kernel)) (by decide +kernel)), (WS_mem (List.mem_of_getElem? (i := 1) (by decide +kernel)) (by decide +kernel)), (WS_mem (List.mem_of_getElem? (i := 77) (by decide +kernel)) (by decide +kernel)), cw_X6_tellAnew, ⟨by decide +kernel, by decide +kernel, by decide +kernel⟩, by decide⟩
abbrev mX4_takeFrom : MI := (yX4_takeFrom, cX4_takeFrom, 5, none)
set_option maxRecDepth 40000 in
theorem cw_X4_takeFrom : Cond.code yX4_takeFrom cX4_takeFrom 5 none ∈ WS := (WS_mem (List.mem_of_getElem? (i := 300) rfl) rfl)
theorem mv_X4_takeFrom : MV mX4_takeFrom RX4 1 := ⟨(WS_mem (List.mem_of_getElem? (i := 298) (by decide +kernel)) (by decide +kernel)), (WS_mem (List.mem_of_getElem? (i := 299) (by decide +kernel)) (by decide +kernel)), (WS_mem (List.mem_of_getElem? (i := 79) (by decide +kernel)) (by decide +kernel)), cw_X4_takeFrom, ⟨by decide +kernel, by decide +kernel, by decide +kernel⟩, by decide⟩
abbrev mX5_hasFault : MI := (yX5_hasFault, cX5_hasFault, 1, (some .boolean))
set_option maxRecDepth 40000 in
theorem cw_X5_hasFault : Cond.code yX5_hasFault cX5_hasFault 1 (some .boolean) ∈ WS := (WS_mem (List.mem_of_getElem? (i := 304) rfl) rfl)
theorem mv_X5_hasFault : MV mX5_hasFault RX5 0 := ⟨(WS_mem (List.mem_of_getElem? (i := 302) (by decide +kernel)) (by decide +kernel)), (WS_mem (List.mem_of_getElem? (i := 303) (by decide +kernel)) (by decide +kernel)), (WS_mem (List.mem_of_getElem? (i := 78) (by decide +kernel)) (by decide +kernel)), cw_X5_hasFault, ⟨by decide +kernel, by decide +kernel, by decide +kernel⟩, by decide⟩
abbrev mX5_faultPlace : MI := (yX5_faultPlace, cX5_faultPlace, 3, (some .int))
set_option maxRecDepth 40000 in
theorem cw_X5_faultPlace : Cond.code yX5_faultPlace cX5_faultPlace 3 (some .int) ∈ WS := (WS_mem (List.mem_of_getElem? (i := 308) rfl) rfl)
theorem mv_X5_faultPlace : MV mX5_faultPlace RX5 0 := ⟨(WS_mem (List.mem_of_getElem? (i := 306) (by decide +kernel)) (by decide +kernel)), (WS_mem (List.mem_of_getElem? (i := 307) (by decide +kernel)) (by decide +kernel)), (WS_mem (List.mem_of_getElem? (i := 78) (by decide +kernel)) (by decide +kernel)), cw_X5_faultPlace, ⟨by decide +kernel, by decide +kernel, by decide +kernel⟩, by decide⟩
abbrev mX5_fits : MI := (yX5_fits, cX5_fits, 3, (some .boolean))
set_option maxRecDepth 40000 in
theorem cw_X5_fits : Cond.code yX5_fits cX5_fits 3 (some .boolean) ∈ WS := (WS_mem (List.mem_of_getElem? (i := 312) rfl) rfl)
theorem mv_X5_fits : MV mX5_fits RX5 2 := ⟨(WS_mem (List.mem_of_getElem? (i := 311) (by decide +kernel)) (by decide +kernel)), (WS_mem (List.mem_of_getElem? (i := 2) (by decide +kernel)) (by decide +kernel)), (WS_mem (List.mem_of_getElem? (i := 78) (by decide +kernel)) (by decide +kernel)), cw_X5_fits, ⟨by decide +kernel, by decide +kernel, by decide +kernel⟩, by decide⟩
abbrev mJ9_min_7cf53 : MI := (yJ9_min_7cf53, cJ9_min_7cf53, 2, (some .int))
set_option maxRecDepth 40000 in
theorem cw_J9_min_7cf53 : Cond.code yJ9_min_7cf53 cJ9_min_7cf53 2 (some .int) ∈ WS := (WS_mem (List.mem_of_getElem? (i := 315) rfl) rfl)
theorem ms_J9_min_7cf53 : MS mJ9_min_7cf53 2 := ⟨(WS_mem (List.mem_of_getElem? (i := 314) (by decide +kernel)) (by decide +kernel)), (WS_mem (List.mem_of_getElem? (i := 84) (by decide +kernel)) (by decide +kernel)), cw_J9_min_7cf53, ⟨by decide +kernel, by decide +kernel, by decide +kernel⟩, by decide⟩
abbrev mX1_takeFrom : MI := (yX1_takeFrom, cX1_takeFrom, 3, none)
set_option maxRecDepth 40000 in
theorem cw_X1_takeFrom : Cond.code yX1_takeFrom cX1_takeFrom 3 none ∈ WS := (WS_mem (List.mem_of_getElem? (i := 319) rfl) rfl)
theorem mv_X1_takeFrom : MV mX1_takeFrom RX1 1 := ⟨(WS_mem (List.mem_of_getElem? (i := 317) (by decide +kernel)) (by decide +kernel)), (WS_mem (List.mem_of_getElem? (i := 318) (by decide +kernel)) (by decide +kernel)), (WS_mem (List.mem_of_getElem? (i := 80) (by decide +kernel)) (by decide +kernel)), cw_X1_takeFrom, ⟨by decide +kernel, by decide +kernel, by decide +kernel⟩, by decide⟩
abbrev mX6_wipe : MI := (yX6_wipe, cX6_wipe, 4, (some .int))
set_option maxRecDepth 40000 in
theorem cw_X6_wipe : Cond.code yX6_wipe cX6_wipe 4 (some .int) ∈ WS := (WS_mem (List.mem_of_getElem? (i := 325) rfl) rfl)
theorem mv_X6_wipe : MV mX6_wipe RX6 1 := ⟨(WS_mem (List.mem_of_getElem? (i := 323) (by decide +kernel)) (by decide +kernel)), (WS_mem (List.mem_of_getElem? (i := 324) (by decide +kernel)) (by decide +kernel)), (WS_mem (List.mem_of_getElem? (i := 77) (by decide +kernel)) (by decide +kernel)), cw_X6_wipe, ⟨by decide +kernel, by decide +kernel, by decide +kernel⟩, by decide⟩
abbrev mX6_undo : MI := (yX6_undo, cX6_undo, 3, (some .int))
set_option maxRecDepth 40000 in
theorem cw_X6_undo : Cond.code yX6_undo cX6_undo 3 (some .int) ∈ WS := (WS_mem (List.mem_of_getElem? (i := 329) rfl) rfl)
theorem mv_X6_undo : MV mX6_undo RX6 1 := ⟨(WS_mem (List.mem_of_getElem? (i := 327) (by decide +kernel)) (by decide +kernel)), (WS_mem (List.mem_of_getElem? (i := 328) (by decide +kernel)) (by decide +kernel)), (WS_mem (List.mem_of_getElem? (i := 77) (by decide +kernel)) (by decide +kernel)), cw_X6_undo, ⟨by decide +kernel, by decide +kernel, by decide +kernel⟩, by decide⟩
abbrev mX6_fault : MI := (yX6_fault, cX6_fault, 2, (some .int))
set_option maxRecDepth 40000 in
theorem cw_X6_fault : Cond.code yX6_fault cX6_fault 2 (some .int) ∈ WS := (WS_mem (List.mem_of_getElem? (i := 333) rfl) rfl)
theorem mv_X6_fault : MV mX6_fault RX6 1 := ⟨(WS_mem (List.mem_of_getElem? (i := 331) (by decide +kernel)) (by decide +kernel)), (WS_mem (List.mem_of_getElem? (i := 332) (by decide +kernel)) (by decide +kernel)), (WS_mem (List.mem_of_getElem? (i := 77) (by decide +kernel)) (by decide +kernel)), cw_X6_fault, ⟨by decide +kernel, by decide +kernel, by decide +kernel⟩, by decide⟩
abbrev mX6_tale : MI := (yX6_tale, cX6_tale, 3, (some .int))
set_option maxRecDepth 40000 in
theorem cw_X6_tale : Cond.code yX6_tale cX6_tale 3 (some .int) ∈ WS := (WS_mem (List.mem_of_getElem? (i := 338) rfl) rfl)
theorem mv_X6_tale : MV mX6_tale RX6 2 := ⟨(WS_mem (List.mem_of_getElem? (i := 336) (by decide +kernel)) (by decide +kernel)), (WS_mem (List.mem_of_getElem? (i := 337) (by decide +kernel)) (by decide +kernel)), (WS_mem (List.mem_of_getElem? (i := 77) (by decide +kernel)) (by decide +kernel)), cw_X6_tale, ⟨by decide +kernel, by decide +kernel, by decide +kernel⟩, by decide⟩
abbrev mX6_charge : MI := (yX6_charge, cX6_charge, 3, (some .int))
set_option maxRecDepth 40000 in
theorem cw_X6_charge : Cond.code yX6_charge cX6_charge 3 (some .int) ∈ WS := (WS_mem (List.mem_of_getElem? (i := 342) rfl) rfl)
theorem mv_X6_charge : MV mX6_charge RX6 2 := ⟨(WS_mem (List.mem_of_getElem? (i := 340) (by decide +kernel)) (by decide +kernel)), (WS_mem (List.mem_of_getElem? (i := 341) (by decide +kernel)) (by decide +kernel)), (WS_mem (List.mem_of_getElem? (i := 77) (by decide +kernel)) (by decide +kernel)), cw_X6_charge, ⟨by decide +kernel, by decide +kernel, by decide +kernel⟩, by decide⟩
abbrev mX6_need : MI := (yX6_need, cX6_need, 3, (some .int))
set_option maxRecDepth 40000 in
theorem cw_X6_need : Cond.code yX6_need cX6_need 3 (some .int) ∈ WS := (WS_mem (List.mem_of_getElem? (i := 346) rfl) rfl)
theorem mv_X6_need : MV mX6_need RX6 1 := ⟨(WS_mem (List.mem_of_getElem? (i := 344) (by decide +kernel)) (by decide +kernel)), (WS_mem (List.mem_of_getElem? (i := 345) (by decide +kernel)) (by decide +kernel)), (WS_mem (List.mem_of_getElem? (i := 77) (by decide +kernel)) (by decide +kernel)), cw_X6_need, ⟨by decide +kernel, by decide +kernel, by decide +kernel⟩, by decide⟩
abbrev mX6_event : MI := (yX6_event, cX6_event, 4, (some .int))
set_option maxRecDepth 40000 in
theorem cw_X6_event : Cond.code yX6_event cX6_event 4 (some .int) ∈ WS := (WS_mem (List.mem_of_getElem? (i := 350) rfl) rfl)
theorem mv_X6_event : MV mX6_event RX6 3 := ⟨(WS_mem (List.mem_of_getElem? (i := 348) (by decide +kernel)) (by decide +kernel)), (WS_mem (List.mem_of_getElem? (i := 349) (by decide +kernel)) (by decide +kernel)), (WS_mem (List.mem_of_getElem? (i := 77) (by decide +kernel)) (by decide +kernel)), cw_X6_event, ⟨by decide +kernel, by decide +kernel, by decide +kernel⟩, by decide⟩
abbrev mX6_back : MI := (yX6_back, cX6_back, 1, (some .int))
set_option maxRecDepth 40000 in
theorem cw_X6_back : Cond.code yX6_back cX6_back 1 (some .int) ∈ WS := (WS_mem (List.mem_of_getElem? (i := 354) rfl) rfl)
theorem mv_X6_back : MV mX6_back RX6 0 := ⟨(WS_mem (List.mem_of_getElem? (i := 352) (by decide +kernel)) (by decide +kernel)), (WS_mem (List.mem_of_getElem? (i := 353) (by decide +kernel)) (by decide +kernel)), (WS_mem (List.mem_of_getElem? (i := 77) (by decide +kernel)) (by decide +kernel)), cw_X6_back, ⟨by decide +kernel, by decide +kernel, by decide +kernel⟩, by decide⟩
abbrev mX6_read : MI := (yX6_read, cX6_read, 5, (some .int))
set_option maxRecDepth 40000 in
theorem cw_X6_read : Cond.code yX6_read cX6_read 5 (some .int) ∈ WS := (WS_mem (List.mem_of_getElem? (i := 358) rfl) rfl)
theorem mv_X6_read : MV mX6_read RX6 1 := ⟨(WS_mem (List.mem_of_getElem? (i := 356) (by decide +kernel)) (by decide +kernel)), (WS_mem (List.mem_of_getElem? (i := 357) (by decide +kernel)) (by decide +kernel)), (WS_mem (List.mem_of_getElem? (i := 77) (by decide +kernel)) (by decide +kernel)), cw_X6_read, ⟨by decide +kernel, by decide +kernel, by decide +kernel⟩, by decide⟩
abbrev mX6_finding : MI := (yX6_finding, cX6_finding, 2, (some .int))
set_option maxRecDepth 40000 in
theorem cw_X6_finding : Cond.code yX6_finding cX6_finding 2 (some .int) ∈ WS := (WS_mem (List.mem_of_getElem? (i := 362) rfl) rfl)
theorem mv_X6_finding : MV mX6_finding RX6 1 := ⟨(WS_mem (List.mem_of_getElem? (i := 361) (by decide +kernel)) (by decide +kernel)), (WS_mem (List.mem_of_getElem? (i := 3) (by decide +kernel)) (by decide +kernel)), (WS_mem (List.mem_of_getElem? (i := 77) (by decide +kernel)) (by decide +kernel)), cw_X6_finding, ⟨by decide +kernel, by decide +kernel, by decide +kernel⟩, by decide⟩
abbrev mX6_clash : MI := (yX6_clash, cX6_clash, 3, (some .int))
set_option maxRecDepth 40000 in
theorem cw_X6_clash : Cond.code yX6_clash cX6_clash 3 (some .int) ∈ WS := (WS_mem (List.mem_of_getElem? (i := 367) rfl) rfl)
theorem mv_X6_clash : MV mX6_clash RX6 2 := ⟨(WS_mem (List.mem_of_getElem? (i := 365) (by decide +kernel)) (by decide +kernel)), (WS_mem (List.mem_of_getElem? (i := 366) (by decide +kernel)) (by decide +kernel)), (WS_mem (List.mem_of_getElem? (i := 77) (by decide +kernel)) (by decide +kernel)), cw_X6_clash, ⟨by decide +kernel, by decide +kernel, by decide +kernel⟩, by decide⟩
abbrev mX4_apart : MI := (yX4_apart, cX4_apart, 3, (some .boolean))
set_option maxRecDepth 40000 in
theorem cw_X4_apart : Cond.code yX4_apart cX4_apart 3 (some .boolean) ∈ WS := (WS_mem (List.mem_of_getElem? (i := 371) rfl) rfl)
theorem mv_X4_apart : MV mX4_apart RX4 2 := ⟨(WS_mem (List.mem_of_getElem? (i := 369) (by decide +kernel)) (by decide +kernel)), (WS_mem (List.mem_of_getElem? (i := 370) (by decide +kernel)) (by decide +kernel)), (WS_mem (List.mem_of_getElem? (i := 79) (by decide +kernel)) (by decide +kernel)), cw_X4_apart, ⟨by decide +kernel, by decide +kernel, by decide +kernel⟩, by decide⟩
abbrev mJ9_abs_0f7a4 : MI := (yJ9_abs_0f7a4, cJ9_abs_0f7a4, 1, (some .int))
set_option maxRecDepth 40000 in
theorem cw_J9_abs_0f7a4 : Cond.code yJ9_abs_0f7a4 cJ9_abs_0f7a4 1 (some .int) ∈ WS := (WS_mem (List.mem_of_getElem? (i := 374) rfl) rfl)
theorem ms_J9_abs_0f7a4 : MS mJ9_abs_0f7a4 1 := ⟨(WS_mem (List.mem_of_getElem? (i := 373) (by decide +kernel)) (by decide +kernel)), (WS_mem (List.mem_of_getElem? (i := 84) (by decide +kernel)) (by decide +kernel)), cw_J9_abs_0f7a4, ⟨by decide +kernel, by decide +kernel, by decide +kernel⟩, by decide⟩
abbrev mX6_stands : MI := (yX6_stands, cX6_stands, 3, (some .int))
set_option maxRecDepth 40000 in
theorem cw_X6_stands : Cond.code yX6_stands cX6_stands 3 (some .int) ∈ WS := (WS_mem (List.mem_of_getElem? (i := 378) rfl) rfl)
theorem mv_X6_stands : MV mX6_stands RX6 2 := ⟨(WS_mem (List.mem_of_getElem? (i := 376) (by decide +kernel)) (by decide +kernel)), (WS_mem (List.mem_of_getElem? (i := 377) (by decide +kernel)) (by decide +kernel)), (WS_mem (List.mem_of_getElem? (i := 77) (by decide +kernel)) (by decide +kernel)), cw_X6_stands, ⟨by decide +kernel, by decide +kernel, by decide +kernel⟩, by decide⟩
abbrev mX6_hearAsTold : MI := (yX6_hearAsTold, cX6_hearAsTold, 1, none)
set_option maxRecDepth 40000 in
theorem cw_X6_hearAsTold : Cond.code yX6_hearAsTold cX6_hearAsTold 1 none ∈ WS := (WS_mem (List.mem_of_getElem? (i := 382) rfl) rfl)
theorem mv_X6_hearAsTold : MV mX6_hearAsTold RX6 0 := ⟨(WS_mem (List.mem_of_getElem? (i := 381) (by decide +kernel)) (by decide +kernel)), (WS_mem (List.mem_of_getElem? (i := 4) (by decide +kernel)) (by decide +kernel)), (WS_mem (List.mem_of_getElem? (i := 77) (by decide +kernel)) (by decide +kernel)), cw_X6_hearAsTold, ⟨by decide +kernel, by decide +kernel, by decide +kernel⟩, by decide⟩
abbrev mX2_all : MI := (yX2_all, cX2_all, 1, (some .int))
set_option maxRecDepth 40000 in
theorem cw_X2_all : Cond.code yX2_all cX2_all 1 (some .int) ∈ WS := (WS_mem (List.mem_of_getElem? (i := 386) rfl) rfl)
theorem mv_X2_all : MV mX2_all RX2 0 := ⟨(WS_mem (List.mem_of_getElem? (i := 384) (by decide +kernel)) (by decide +kernel)), (WS_mem (List.mem_of_getElem? (i := 385) (by decide +kernel)) (by decide +kernel)), (WS_mem (List.mem_of_getElem? (i := 81) (by decide +kernel)) (by decide +kernel)), cw_X2_all, ⟨by decide +kernel, by decide +kernel, by decide +kernel⟩, by decide⟩
abbrev mX0_hear : MI := (yX0_hear, cX0_hear, 5, none)
set_option maxRecDepth 40000 in
theorem cw_X0_hear : Cond.code yX0_hear cX0_hear 5 none ∈ WS := (WS_mem (List.mem_of_getElem? (i := 390) rfl) rfl)
theorem mv_X0_hear : MV mX0_hear RX0 2 := ⟨(WS_mem (List.mem_of_getElem? (i := 388) (by decide +kernel)) (by decide +kernel)), (WS_mem (List.mem_of_getElem? (i := 389) (by decide +kernel)) (by decide +kernel)), (WS_mem (List.mem_of_getElem? (i := 82) (by decide +kernel)) (by decide +kernel)), cw_X0_hear, ⟨by decide +kernel, by decide +kernel, by decide +kernel⟩, by decide⟩
abbrev mX0_spoiled : MI := (yX0_spoiled, cX0_spoiled, 4, (some .boolean))
set_option maxRecDepth 40000 in
theorem cw_X0_spoiled : Cond.code yX0_spoiled cX0_spoiled 4 (some .boolean) ∈ WS := (WS_mem (List.mem_of_getElem? (i := 394) rfl) rfl)
theorem mv_X0_spoiled : MV mX0_spoiled RX0 1 := ⟨(WS_mem (List.mem_of_getElem? (i := 393) (by decide +kernel)) (by decide +kernel)), (WS_mem (List.mem_of_getElem? (i := 5) (by decide +kernel)) (by decide +kernel)), (WS_mem (List.mem_of_getElem? (i := 82) (by decide +kernel)) (by decide +kernel)), cw_X0_spoiled, ⟨by decide +kernel, by decide +kernel, by decide +kernel⟩, by decide⟩
abbrev mX0_firstAgainst : MI := (yX0_firstAgainst, cX0_firstAgainst, 3, (some .int))
set_option maxRecDepth 40000 in
theorem cw_X0_firstAgainst : Cond.code yX0_firstAgainst cX0_firstAgainst 3 (some .int) ∈ WS := (WS_mem (List.mem_of_getElem? (i := 398) rfl) rfl)
theorem mv_X0_firstAgainst : MV mX0_firstAgainst RX0 1 := ⟨(WS_mem (List.mem_of_getElem? (i := 396) (by decide +kernel)) (by decide +kernel)), (WS_mem (List.mem_of_getElem? (i := 397) (by decide +kernel)) (by decide +kernel)), (WS_mem (List.mem_of_getElem? (i := 82) (by decide +kernel)) (by decide +kernel)), cw_X0_firstAgainst, ⟨by decide +kernel, by decide +kernel, by decide +kernel⟩, by decide⟩
abbrev mJ7_fill_53178 : MI := (yJ7_fill_53178, cJ7_fill_53178, 4, none)
set_option maxRecDepth 40000 in
theorem cw_J7_fill_53178 : Cond.code yJ7_fill_53178 cJ7_fill_53178 4 none ∈ WS := (WS_mem (List.mem_of_getElem? (i := 402) rfl) rfl)
theorem ms_J7_fill_53178 : MS mJ7_fill_53178 2 := ⟨(WS_mem (List.mem_of_getElem? (i := 401) (by decide +kernel)) (by decide +kernel)), (WS_mem (List.mem_of_getElem? (i := 85) (by decide +kernel)) (by decide +kernel)), cw_J7_fill_53178, ⟨by decide +kernel, by decide +kernel, by decide +kernel⟩, by decide⟩
abbrev mX0_weigh : MI := (yX0_weigh, cX0_weigh, 2, (some .int))
set_option maxRecDepth 40000 in
theorem cw_X0_weigh : Cond.code yX0_weigh cX0_weigh 2 (some .int) ∈ WS := (WS_mem (List.mem_of_getElem? (i := 406) rfl) rfl)
theorem mv_X0_weigh : MV mX0_weigh RX0 1 := ⟨(WS_mem (List.mem_of_getElem? (i := 405) (by decide +kernel)) (by decide +kernel)), (WS_mem (List.mem_of_getElem? (i := 6) (by decide +kernel)) (by decide +kernel)), (WS_mem (List.mem_of_getElem? (i := 82) (by decide +kernel)) (by decide +kernel)), cw_X0_weigh, ⟨by decide +kernel, by decide +kernel, by decide +kernel⟩, by decide⟩
abbrev mX0_othersFor : MI := (yX0_othersFor, cX0_othersFor, 4, (some .int))
set_option maxRecDepth 40000 in
theorem cw_X0_othersFor : Cond.code yX0_othersFor cX0_othersFor 4 (some .int) ∈ WS := (WS_mem (List.mem_of_getElem? (i := 410) rfl) rfl)
theorem mv_X0_othersFor : MV mX0_othersFor RX0 1 := ⟨(WS_mem (List.mem_of_getElem? (i := 409) (by decide +kernel)) (by decide +kernel)), (WS_mem (List.mem_of_getElem? (i := 7) (by decide +kernel)) (by decide +kernel)), (WS_mem (List.mem_of_getElem? (i := 82) (by decide +kernel)) (by decide +kernel)), cw_X0_othersFor, ⟨by decide +kernel, by decide +kernel, by decide +kernel⟩, by decide⟩
abbrev mJ6_bitCount_0f7a4 : MI := (yJ6_bitCount_0f7a4, cJ6_bitCount_0f7a4, 1, (some .int))
set_option maxRecDepth 40000 in
theorem cw_J6_bitCount_0f7a4 : Cond.code yJ6_bitCount_0f7a4 cJ6_bitCount_0f7a4 1 (some .int) ∈ WS := (WS_mem (List.mem_of_getElem? (i := 413) rfl) rfl)
theorem ms_J6_bitCount_0f7a4 : MS mJ6_bitCount_0f7a4 1 := ⟨(WS_mem (List.mem_of_getElem? (i := 412) (by decide +kernel)) (by decide +kernel)), (WS_mem (List.mem_of_getElem? (i := 86) (by decide +kernel)) (by decide +kernel)), cw_J6_bitCount_0f7a4, ⟨by decide +kernel, by decide +kernel, by decide +kernel⟩, by decide⟩
abbrev mX0_fallenOf : MI := (yX0_fallenOf, cX0_fallenOf, 4, (some .int))
set_option maxRecDepth 40000 in
theorem cw_X0_fallenOf : Cond.code yX0_fallenOf cX0_fallenOf 4 (some .int) ∈ WS := (WS_mem (List.mem_of_getElem? (i := 421) rfl) rfl)
theorem mv_X0_fallenOf : MV mX0_fallenOf RX0 1 := ⟨(WS_mem (List.mem_of_getElem? (i := 419) (by decide +kernel)) (by decide +kernel)), (WS_mem (List.mem_of_getElem? (i := 420) (by decide +kernel)) (by decide +kernel)), (WS_mem (List.mem_of_getElem? (i := 82) (by decide +kernel)) (by decide +kernel)), cw_X0_fallenOf, ⟨by decide +kernel, by decide +kernel, by decide +kernel⟩, by decide⟩
abbrev mX6_man : MI := (yX6_man, cX6_man, 5, (some .int))
set_option maxRecDepth 40000 in
theorem cw_X6_man : Cond.code yX6_man cX6_man 5 (some .int) ∈ WS := (WS_mem (List.mem_of_getElem? (i := 426) rfl) rfl)
theorem mv_X6_man : MV mX6_man RX6 3 := ⟨(WS_mem (List.mem_of_getElem? (i := 424) (by decide +kernel)) (by decide +kernel)), (WS_mem (List.mem_of_getElem? (i := 425) (by decide +kernel)) (by decide +kernel)), (WS_mem (List.mem_of_getElem? (i := 77) (by decide +kernel)) (by decide +kernel)), cw_X6_man, ⟨by decide +kernel, by decide +kernel, by decide +kernel⟩, by decide⟩
abbrev mX0_standing : MI := (yX0_standing, cX0_standing, 7, (some .int))
set_option maxRecDepth 40000 in
theorem cw_X0_standing : Cond.code yX0_standing cX0_standing 7 (some .int) ∈ WS := (WS_mem (List.mem_of_getElem? (i := 430) rfl) rfl)
theorem mv_X0_standing : MV mX0_standing RX0 2 := ⟨(WS_mem (List.mem_of_getElem? (i := 428) (by decide +kernel)) (by decide +kernel)), (WS_mem (List.mem_of_getElem? (i := 429) (by decide +kernel)) (by decide +kernel)), (WS_mem (List.mem_of_getElem? (i := 82) (by decide +kernel)) (by decide +kernel)), cw_X0_standing, ⟨by decide +kernel, by decide +kernel, by decide +kernel⟩, by decide⟩
abbrev mJ9_max_7cf53 : MI := (yJ9_max_7cf53, cJ9_max_7cf53, 2, (some .int))
set_option maxRecDepth 40000 in
theorem cw_J9_max_7cf53 : Cond.code yJ9_max_7cf53 cJ9_max_7cf53 2 (some .int) ∈ WS := (WS_mem (List.mem_of_getElem? (i := 433) rfl) rfl)
theorem ms_J9_max_7cf53 : MS mJ9_max_7cf53 2 := ⟨(WS_mem (List.mem_of_getElem? (i := 432) (by decide +kernel)) (by decide +kernel)), (WS_mem (List.mem_of_getElem? (i := 84) (by decide +kernel)) (by decide +kernel)), cw_J9_max_7cf53, ⟨by decide +kernel, by decide +kernel, by decide +kernel⟩, by decide⟩
abbrev mX6_rankBy : MI := (yX6_rankBy, cX6_rankBy, 1, (some .int))
set_option maxRecDepth 40000 in
theorem cw_X6_rankBy : Cond.code yX6_rankBy cX6_rankBy 1 (some .int) ∈ WS := (WS_mem (List.mem_of_getElem? (i := 436) rfl) rfl)
theorem ms_X6_rankBy : MS mX6_rankBy 1 := ⟨(WS_mem (List.mem_of_getElem? (i := 435) (by decide +kernel)) (by decide +kernel)), (WS_mem (List.mem_of_getElem? (i := 77) (by decide +kernel)) (by decide +kernel)), cw_X6_rankBy, ⟨by decide +kernel, by decide +kernel, by decide +kernel⟩, by decide⟩
abbrev mX6_belief : MI := (yX6_belief, cX6_belief, 2, (some .int))
set_option maxRecDepth 40000 in
theorem cw_X6_belief : Cond.code yX6_belief cX6_belief 2 (some .int) ∈ WS := (WS_mem (List.mem_of_getElem? (i := 440) rfl) rfl)
theorem mv_X6_belief : MV mX6_belief RX6 1 := ⟨(WS_mem (List.mem_of_getElem? (i := 438) (by decide +kernel)) (by decide +kernel)), (WS_mem (List.mem_of_getElem? (i := 439) (by decide +kernel)) (by decide +kernel)), (WS_mem (List.mem_of_getElem? (i := 77) (by decide +kernel)) (by decide +kernel)), cw_X6_belief, ⟨by decide +kernel, by decide +kernel, by decide +kernel⟩, by decide⟩
abbrev mX0_trust : MI := (yX0_trust, cX0_trust, 5, (some .int))
set_option maxRecDepth 40000 in
theorem cw_X0_trust : Cond.code yX0_trust cX0_trust 5 (some .int) ∈ WS := (WS_mem (List.mem_of_getElem? (i := 445) rfl) rfl)
theorem mv_X0_trust : MV mX0_trust RX0 2 := ⟨(WS_mem (List.mem_of_getElem? (i := 443) (by decide +kernel)) (by decide +kernel)), (WS_mem (List.mem_of_getElem? (i := 444) (by decide +kernel)) (by decide +kernel)), (WS_mem (List.mem_of_getElem? (i := 82) (by decide +kernel)) (by decide +kernel)), cw_X0_trust, ⟨by decide +kernel, by decide +kernel, by decide +kernel⟩, by decide⟩
abbrev mX0_support : MI := (yX0_support, cX0_support, 4, (some .int))
set_option maxRecDepth 40000 in
theorem cw_X0_support : Cond.code yX0_support cX0_support 4 (some .int) ∈ WS := (WS_mem (List.mem_of_getElem? (i := 449) rfl) rfl)
theorem mv_X0_support : MV mX0_support RX0 2 := ⟨(WS_mem (List.mem_of_getElem? (i := 448) (by decide +kernel)) (by decide +kernel)), (WS_mem (List.mem_of_getElem? (i := 8) (by decide +kernel)) (by decide +kernel)), (WS_mem (List.mem_of_getElem? (i := 82) (by decide +kernel)) (by decide +kernel)), cw_X0_support, ⟨by decide +kernel, by decide +kernel, by decide +kernel⟩, by decide⟩
abbrev mX0_weightIn : MI := (yX0_weightIn, cX0_weightIn, 5, (some .int))
set_option maxRecDepth 40000 in
theorem cw_X0_weightIn : Cond.code yX0_weightIn cX0_weightIn 5 (some .int) ∈ WS := (WS_mem (List.mem_of_getElem? (i := 453) rfl) rfl)
theorem mv_X0_weightIn : MV mX0_weightIn RX0 2 := ⟨(WS_mem (List.mem_of_getElem? (i := 452) (by decide +kernel)) (by decide +kernel)), (WS_mem (List.mem_of_getElem? (i := 9) (by decide +kernel)) (by decide +kernel)), (WS_mem (List.mem_of_getElem? (i := 82) (by decide +kernel)) (by decide +kernel)), cw_X0_weightIn, ⟨by decide +kernel, by decide +kernel, by decide +kernel⟩, by decide⟩
abbrev mX6_cleared : MI := (yX6_cleared, cX6_cleared, 5, (some .int))
set_option maxRecDepth 40000 in
theorem cw_X6_cleared : Cond.code yX6_cleared cX6_cleared 5 (some .int) ∈ WS := (WS_mem (List.mem_of_getElem? (i := 460) rfl) rfl)
theorem mv_X6_cleared : MV mX6_cleared RX6 2 := ⟨(WS_mem (List.mem_of_getElem? (i := 458) (by decide +kernel)) (by decide +kernel)), (WS_mem (List.mem_of_getElem? (i := 459) (by decide +kernel)) (by decide +kernel)), (WS_mem (List.mem_of_getElem? (i := 77) (by decide +kernel)) (by decide +kernel)), cw_X6_cleared, ⟨by decide +kernel, by decide +kernel, by decide +kernel⟩, by decide⟩
abbrev mX0_trustedTown : MI := (yX0_trustedTown, cX0_trustedTown, 7, (some .int))
set_option maxRecDepth 40000 in
theorem cw_X0_trustedTown : Cond.code yX0_trustedTown cX0_trustedTown 7 (some .int) ∈ WS := (WS_mem (List.mem_of_getElem? (i := 464) rfl) rfl)
theorem mv_X0_trustedTown : MV mX0_trustedTown RX0 2 := ⟨(WS_mem (List.mem_of_getElem? (i := 462) (by decide +kernel)) (by decide +kernel)), (WS_mem (List.mem_of_getElem? (i := 463) (by decide +kernel)) (by decide +kernel)), (WS_mem (List.mem_of_getElem? (i := 82) (by decide +kernel)) (by decide +kernel)), cw_X0_trustedTown, ⟨by decide +kernel, by decide +kernel, by decide +kernel⟩, by decide⟩
abbrev mX6_sum : MI := (yX6_sum, cX6_sum, 3, (some .int))
set_option maxRecDepth 40000 in
theorem cw_X6_sum : Cond.code yX6_sum cX6_sum 3 (some .int) ∈ WS := (WS_mem (List.mem_of_getElem? (i := 468) rfl) rfl)
theorem mv_X6_sum : MV mX6_sum RX6 1 := ⟨(WS_mem (List.mem_of_getElem? (i := 466) (by decide +kernel)) (by decide +kernel)), (WS_mem (List.mem_of_getElem? (i := 467) (by decide +kernel)) (by decide +kernel)), (WS_mem (List.mem_of_getElem? (i := 77) (by decide +kernel)) (by decide +kernel)), cw_X6_sum, ⟨by decide +kernel, by decide +kernel, by decide +kernel⟩, by decide⟩
abbrev mX6_clearedBits : MI := (yX6_clearedBits, cX6_clearedBits, 5, (some .int))
set_option maxRecDepth 40000 in
theorem cw_X6_clearedBits : Cond.code yX6_clearedBits cX6_clearedBits 5 (some .int) ∈ WS := (WS_mem (List.mem_of_getElem? (i := 472) rfl) rfl)
theorem mv_X6_clearedBits : MV mX6_clearedBits RX6 2 := ⟨(WS_mem (List.mem_of_getElem? (i := 471) (by decide +kernel)) (by decide +kernel)), (WS_mem (List.mem_of_getElem? (i := 10) (by decide +kernel)) (by decide +kernel)), (WS_mem (List.mem_of_getElem? (i := 77) (by decide +kernel)) (by decide +kernel)), cw_X6_clearedBits, ⟨by decide +kernel, by decide +kernel, by decide +kernel⟩, by decide⟩
abbrev mX0_menOfRank : MI := (yX0_menOfRank, cX0_menOfRank, 4, (some .int))
set_option maxRecDepth 40000 in
theorem cw_X0_menOfRank : Cond.code yX0_menOfRank cX0_menOfRank 4 (some .int) ∈ WS := (WS_mem (List.mem_of_getElem? (i := 477) rfl) rfl)
theorem mv_X0_menOfRank : MV mX0_menOfRank RX0 1 := ⟨(WS_mem (List.mem_of_getElem? (i := 475) (by decide +kernel)) (by decide +kernel)), (WS_mem (List.mem_of_getElem? (i := 476) (by decide +kernel)) (by decide +kernel)), (WS_mem (List.mem_of_getElem? (i := 82) (by decide +kernel)) (by decide +kernel)), cw_X0_menOfRank, ⟨by decide +kernel, by decide +kernel, by decide +kernel⟩, by decide⟩
abbrev mX6_liar : MI := (yX6_liar, cX6_liar, 5, (some .int))
set_option maxRecDepth 40000 in
theorem cw_X6_liar : Cond.code yX6_liar cX6_liar 5 (some .int) ∈ WS := (WS_mem (List.mem_of_getElem? (i := 481) rfl) rfl)
theorem mv_X6_liar : MV mX6_liar RX6 0 := ⟨(WS_mem (List.mem_of_getElem? (i := 479) (by decide +kernel)) (by decide +kernel)), (WS_mem (List.mem_of_getElem? (i := 480) (by decide +kernel)) (by decide +kernel)), (WS_mem (List.mem_of_getElem? (i := 77) (by decide +kernel)) (by decide +kernel)), cw_X6_liar, ⟨by decide +kernel, by decide +kernel, by decide +kernel⟩, by decide⟩
abbrev mX6_best : MI := (yX6_best, cX6_best, 5, (some .int))
set_option maxRecDepth 40000 in
theorem cw_X6_best : Cond.code yX6_best cX6_best 5 (some .int) ∈ WS := (WS_mem (List.mem_of_getElem? (i := 486) rfl) rfl)
theorem mv_X6_best : MV mX6_best RX6 0 := ⟨(WS_mem (List.mem_of_getElem? (i := 484) (by decide +kernel)) (by decide +kernel)), (WS_mem (List.mem_of_getElem? (i := 485) (by decide +kernel)) (by decide +kernel)), (WS_mem (List.mem_of_getElem? (i := 77) (by decide +kernel)) (by decide +kernel)), cw_X6_best, ⟨by decide +kernel, by decide +kernel, by decide +kernel⟩, by decide⟩
abbrev mX6_where : MI := (yX6_where, cX6_where, 5, (some .int))
set_option maxRecDepth 40000 in
theorem cw_X6_where : Cond.code yX6_where cX6_where 5 (some .int) ∈ WS := (WS_mem (List.mem_of_getElem? (i := 490) rfl) rfl)
theorem mv_X6_where : MV mX6_where RX6 1 := ⟨(WS_mem (List.mem_of_getElem? (i := 488) (by decide +kernel)) (by decide +kernel)), (WS_mem (List.mem_of_getElem? (i := 489) (by decide +kernel)) (by decide +kernel)), (WS_mem (List.mem_of_getElem? (i := 77) (by decide +kernel)) (by decide +kernel)), cw_X6_where, ⟨by decide +kernel, by decide +kernel, by decide +kernel⟩, by decide⟩
abbrev mX0_swornTowns : MI := (yX0_swornTowns, cX0_swornTowns, 4, (some .int))
set_option maxRecDepth 40000 in
theorem cw_X0_swornTowns : Cond.code yX0_swornTowns cX0_swornTowns 4 (some .int) ∈ WS := (WS_mem (List.mem_of_getElem? (i := 494) rfl) rfl)
theorem mv_X0_swornTowns : MV mX0_swornTowns RX0 1 := ⟨(WS_mem (List.mem_of_getElem? (i := 492) (by decide +kernel)) (by decide +kernel)), (WS_mem (List.mem_of_getElem? (i := 493) (by decide +kernel)) (by decide +kernel)), (WS_mem (List.mem_of_getElem? (i := 82) (by decide +kernel)) (by decide +kernel)), cw_X0_swornTowns, ⟨by decide +kernel, by decide +kernel, by decide +kernel⟩, by decide⟩
abbrev mX6_reach : MI := (yX6_reach, cX6_reach, 1, (some .int))
set_option maxRecDepth 40000 in
theorem cw_X6_reach : Cond.code yX6_reach cX6_reach 1 (some .int) ∈ WS := (WS_mem (List.mem_of_getElem? (i := 497) rfl) rfl)
theorem ms_X6_reach : MS mX6_reach 1 := ⟨(WS_mem (List.mem_of_getElem? (i := 496) (by decide +kernel)) (by decide +kernel)), (WS_mem (List.mem_of_getElem? (i := 77) (by decide +kernel)) (by decide +kernel)), cw_X6_reach, ⟨by decide +kernel, by decide +kernel, by decide +kernel⟩, by decide⟩
abbrev mX6_move : MI := (yX6_move, cX6_move, 7, (some .int))
set_option maxRecDepth 40000 in
theorem cw_X6_move : Cond.code yX6_move cX6_move 7 (some .int) ∈ WS := (WS_mem (List.mem_of_getElem? (i := 501) rfl) rfl)
theorem mv_X6_move : MV mX6_move RX6 2 := ⟨(WS_mem (List.mem_of_getElem? (i := 499) (by decide +kernel)) (by decide +kernel)), (WS_mem (List.mem_of_getElem? (i := 500) (by decide +kernel)) (by decide +kernel)), (WS_mem (List.mem_of_getElem? (i := 77) (by decide +kernel)) (by decide +kernel)), cw_X6_move, ⟨by decide +kernel, by decide +kernel, by decide +kernel⟩, by decide⟩
abbrev mX4_becomeLike : MI := (yX4_becomeLike, cX4_becomeLike, 3, none)
set_option maxRecDepth 40000 in
theorem cw_X4_becomeLike : Cond.code yX4_becomeLike cX4_becomeLike 3 none ∈ WS := (WS_mem (List.mem_of_getElem? (i := 505) rfl) rfl)
theorem mv_X4_becomeLike : MV mX4_becomeLike RX4 1 := ⟨(WS_mem (List.mem_of_getElem? (i := 503) (by decide +kernel)) (by decide +kernel)), (WS_mem (List.mem_of_getElem? (i := 504) (by decide +kernel)) (by decide +kernel)), (WS_mem (List.mem_of_getElem? (i := 79) (by decide +kernel)) (by decide +kernel)), cw_X4_becomeLike, ⟨by decide +kernel, by decide +kernel, by decide +kernel⟩, by decide⟩
abbrev mX4_takeOver : MI := (yX4_takeOver, cX4_takeOver, 4, none)
set_option maxRecDepth 40000 in
theorem cw_X4_takeOver : Cond.code yX4_takeOver cX4_takeOver 4 none ∈ WS := (WS_mem (List.mem_of_getElem? (i := 509) rfl) rfl)
theorem mv_X4_takeOver : MV mX4_takeOver RX4 3 := ⟨(WS_mem (List.mem_of_getElem? (i := 508) (by decide +kernel)) (by decide +kernel)), (WS_mem (List.mem_of_getElem? (i := 11) (by decide +kernel)) (by decide +kernel)), (WS_mem (List.mem_of_getElem? (i := 79) (by decide +kernel)) (by decide +kernel)), cw_X4_takeOver, ⟨by decide +kernel, by decide +kernel, by decide +kernel⟩, by decide⟩
abbrev mX6_drop : MI := (yX6_drop, cX6_drop, 6, (some .int))
set_option maxRecDepth 40000 in
theorem cw_X6_drop : Cond.code yX6_drop cX6_drop 6 (some .int) ∈ WS := (WS_mem (List.mem_of_getElem? (i := 513) rfl) rfl)
theorem mv_X6_drop : MV mX6_drop RX6 1 := ⟨(WS_mem (List.mem_of_getElem? (i := 511) (by decide +kernel)) (by decide +kernel)), (WS_mem (List.mem_of_getElem? (i := 512) (by decide +kernel)) (by decide +kernel)), (WS_mem (List.mem_of_getElem? (i := 77) (by decide +kernel)) (by decide +kernel)), cw_X6_drop, ⟨by decide +kernel, by decide +kernel, by decide +kernel⟩, by decide⟩
abbrev mX4_leaveOut : MI := (yX4_leaveOut, cX4_leaveOut, 3, none)
set_option maxRecDepth 40000 in
theorem cw_X4_leaveOut : Cond.code yX4_leaveOut cX4_leaveOut 3 none ∈ WS := (WS_mem (List.mem_of_getElem? (i := 517) rfl) rfl)
theorem mv_X4_leaveOut : MV mX4_leaveOut RX4 1 := ⟨(WS_mem (List.mem_of_getElem? (i := 515) (by decide +kernel)) (by decide +kernel)), (WS_mem (List.mem_of_getElem? (i := 516) (by decide +kernel)) (by decide +kernel)), (WS_mem (List.mem_of_getElem? (i := 79) (by decide +kernel)) (by decide +kernel)), cw_X4_leaveOut, ⟨by decide +kernel, by decide +kernel, by decide +kernel⟩, by decide⟩
abbrev mX6_clean : MI := (yX6_clean, cX6_clean, 4, (some .int))
set_option maxRecDepth 40000 in
theorem cw_X6_clean : Cond.code yX6_clean cX6_clean 4 (some .int) ∈ WS := (WS_mem (List.mem_of_getElem? (i := 521) rfl) rfl)
theorem mv_X6_clean : MV mX6_clean RX6 1 := ⟨(WS_mem (List.mem_of_getElem? (i := 519) (by decide +kernel)) (by decide +kernel)), (WS_mem (List.mem_of_getElem? (i := 520) (by decide +kernel)) (by decide +kernel)), (WS_mem (List.mem_of_getElem? (i := 77) (by decide +kernel)) (by decide +kernel)), cw_X6_clean, ⟨by decide +kernel, by decide +kernel, by decide +kernel⟩, by decide⟩
abbrev mX4_together : MI := (yX4_together, cX4_together, 4, (some .boolean))
set_option maxRecDepth 40000 in
theorem cw_X4_together : Cond.code yX4_together cX4_together 4 (some .boolean) ∈ WS := (WS_mem (List.mem_of_getElem? (i := 525) rfl) rfl)
theorem mv_X4_together : MV mX4_together RX4 1 := ⟨(WS_mem (List.mem_of_getElem? (i := 523) (by decide +kernel)) (by decide +kernel)), (WS_mem (List.mem_of_getElem? (i := 524) (by decide +kernel)) (by decide +kernel)), (WS_mem (List.mem_of_getElem? (i := 79) (by decide +kernel)) (by decide +kernel)), cw_X4_together, ⟨by decide +kernel, by decide +kernel, by decide +kernel⟩, by decide⟩
abbrev mX6_spare : MI := (yX6_spare, cX6_spare, 3, (some .int))
set_option maxRecDepth 40000 in
theorem cw_X6_spare : Cond.code yX6_spare cX6_spare 3 (some .int) ∈ WS := (WS_mem (List.mem_of_getElem? (i := 530) rfl) rfl)
theorem mv_X6_spare : MV mX6_spare RX6 1 := ⟨(WS_mem (List.mem_of_getElem? (i := 528) (by decide +kernel)) (by decide +kernel)), (WS_mem (List.mem_of_getElem? (i := 529) (by decide +kernel)) (by decide +kernel)), (WS_mem (List.mem_of_getElem? (i := 77) (by decide +kernel)) (by decide +kernel)), cw_X6_spare, ⟨by decide +kernel, by decide +kernel, by decide +kernel⟩, by decide⟩
abbrev mX6_sparedBits : MI := (yX6_sparedBits, cX6_sparedBits, 6, (some .int))
set_option maxRecDepth 40000 in
theorem cw_X6_sparedBits : Cond.code yX6_sparedBits cX6_sparedBits 6 (some .int) ∈ WS := (WS_mem (List.mem_of_getElem? (i := 534) rfl) rfl)
theorem mv_X6_sparedBits : MV mX6_sparedBits RX6 0 := ⟨(WS_mem (List.mem_of_getElem? (i := 533) (by decide +kernel)) (by decide +kernel)), (WS_mem (List.mem_of_getElem? (i := 12) (by decide +kernel)) (by decide +kernel)), (WS_mem (List.mem_of_getElem? (i := 77) (by decide +kernel)) (by decide +kernel)), cw_X6_sparedBits, ⟨by decide +kernel, by decide +kernel, by decide +kernel⟩, by decide⟩
abbrev mX6_nthBit : MI := (yX6_nthBit, cX6_nthBit, 4, (some .int))
set_option maxRecDepth 40000 in
theorem cw_X6_nthBit : Cond.code yX6_nthBit cX6_nthBit 4 (some .int) ∈ WS := (WS_mem (List.mem_of_getElem? (i := 537) rfl) rfl)
theorem ms_X6_nthBit : MS mX6_nthBit 2 := ⟨(WS_mem (List.mem_of_getElem? (i := 536) (by decide +kernel)) (by decide +kernel)), (WS_mem (List.mem_of_getElem? (i := 77) (by decide +kernel)) (by decide +kernel)), cw_X6_nthBit, ⟨by decide +kernel, by decide +kernel, by decide +kernel⟩, by decide⟩
abbrev mX6_seen : MI := (yX6_seen, cX6_seen, 3, (some .int))
set_option maxRecDepth 40000 in
theorem cw_X6_seen : Cond.code yX6_seen cX6_seen 3 (some .int) ∈ WS := (WS_mem (List.mem_of_getElem? (i := 541) rfl) rfl)
theorem mv_X6_seen : MV mX6_seen RX6 2 := ⟨(WS_mem (List.mem_of_getElem? (i := 539) (by decide +kernel)) (by decide +kernel)), (WS_mem (List.mem_of_getElem? (i := 540) (by decide +kernel)) (by decide +kernel)), (WS_mem (List.mem_of_getElem? (i := 77) (by decide +kernel)) (by decide +kernel)), cw_X6_seen, ⟨by decide +kernel, by decide +kernel, by decide +kernel⟩, by decide⟩
abbrev mX6_forget : MI := (yX6_forget, cX6_forget, 2, (some .int))
set_option maxRecDepth 40000 in
theorem cw_X6_forget : Cond.code yX6_forget cX6_forget 2 (some .int) ∈ WS := (WS_mem (List.mem_of_getElem? (i := 545) rfl) rfl)
theorem mv_X6_forget : MV mX6_forget RX6 0 := ⟨(WS_mem (List.mem_of_getElem? (i := 543) (by decide +kernel)) (by decide +kernel)), (WS_mem (List.mem_of_getElem? (i := 544) (by decide +kernel)) (by decide +kernel)), (WS_mem (List.mem_of_getElem? (i := 77) (by decide +kernel)) (by decide +kernel)), cw_X6_forget, ⟨by decide +kernel, by decide +kernel, by decide +kernel⟩, by decide⟩
abbrev mX6_never : MI := (yX6_never, cX6_never, 3, (some .int))
set_option maxRecDepth 40000 in
theorem cw_X6_never : Cond.code yX6_never cX6_never 3 (some .int) ∈ WS := (WS_mem (List.mem_of_getElem? (i := 549) rfl) rfl)
theorem mv_X6_never : MV mX6_never RX6 0 := ⟨(WS_mem (List.mem_of_getElem? (i := 547) (by decide +kernel)) (by decide +kernel)), (WS_mem (List.mem_of_getElem? (i := 548) (by decide +kernel)) (by decide +kernel)), (WS_mem (List.mem_of_getElem? (i := 77) (by decide +kernel)) (by decide +kernel)), cw_X6_never, ⟨by decide +kernel, by decide +kernel, by decide +kernel⟩, by decide⟩
abbrev mX6_comesOutSo : MI := (yX6_comesOutSo, cX6_comesOutSo, 3, (some .boolean))
set_option maxRecDepth 40000 in
theorem cw_X6_comesOutSo : Cond.code yX6_comesOutSo cX6_comesOutSo 3 (some .boolean) ∈ WS := (WS_mem (List.mem_of_getElem? (i := 553) rfl) rfl)
theorem mv_X6_comesOutSo : MV mX6_comesOutSo RX6 1 := ⟨(WS_mem (List.mem_of_getElem? (i := 552) (by decide +kernel)) (by decide +kernel)), (WS_mem (List.mem_of_getElem? (i := 13) (by decide +kernel)) (by decide +kernel)), (WS_mem (List.mem_of_getElem? (i := 77) (by decide +kernel)) (by decide +kernel)), cw_X6_comesOutSo, ⟨by decide +kernel, by decide +kernel, by decide +kernel⟩, by decide⟩
abbrev mX6_was : MI := (yX6_was, cX6_was, 7, (some .int))
set_option maxRecDepth 40000 in
theorem cw_X6_was : Cond.code yX6_was cX6_was 7 (some .int) ∈ WS := (WS_mem (List.mem_of_getElem? (i := 557) rfl) rfl)
theorem mv_X6_was : MV mX6_was RX6 2 := ⟨(WS_mem (List.mem_of_getElem? (i := 555) (by decide +kernel)) (by decide +kernel)), (WS_mem (List.mem_of_getElem? (i := 556) (by decide +kernel)) (by decide +kernel)), (WS_mem (List.mem_of_getElem? (i := 77) (by decide +kernel)) (by decide +kernel)), cw_X6_was, ⟨by decide +kernel, by decide +kernel, by decide +kernel⟩, by decide⟩
abbrev mX6_ask : MI := (yX6_ask, cX6_ask, 7, (some .int))
set_option maxRecDepth 40000 in
theorem cw_X6_ask : Cond.code yX6_ask cX6_ask 7 (some .int) ∈ WS := (WS_mem (List.mem_of_getElem? (i := 561) rfl) rfl)
theorem mv_X6_ask : MV mX6_ask RX6 1 := ⟨(WS_mem (List.mem_of_getElem? (i := 559) (by decide +kernel)) (by decide +kernel)), (WS_mem (List.mem_of_getElem? (i := 560) (by decide +kernel)) (by decide +kernel)), (WS_mem (List.mem_of_getElem? (i := 77) (by decide +kernel)) (by decide +kernel)), cw_X6_ask, ⟨by decide +kernel, by decide +kernel, by decide +kernel⟩, by decide⟩
abbrev mX6_addToTally : MI := (yX6_addToTally, cX6_addToTally, 3, none)
set_option maxRecDepth 40000 in
theorem cw_X6_addToTally : Cond.code yX6_addToTally cX6_addToTally 3 none ∈ WS := (WS_mem (List.mem_of_getElem? (i := 566) rfl) rfl)
theorem mv_X6_addToTally : MV mX6_addToTally RX6 1 := ⟨(WS_mem (List.mem_of_getElem? (i := 565) (by decide +kernel)) (by decide +kernel)), (WS_mem (List.mem_of_getElem? (i := 14) (by decide +kernel)) (by decide +kernel)), (WS_mem (List.mem_of_getElem? (i := 77) (by decide +kernel)) (by decide +kernel)), cw_X6_addToTally, ⟨by decide +kernel, by decide +kernel, by decide +kernel⟩, by decide⟩
abbrev mX6_chance : MI := (yX6_chance, cX6_chance, 4, (some .long))
set_option maxRecDepth 40000 in
theorem cw_X6_chance : Cond.code yX6_chance cX6_chance 4 (some .long) ∈ WS := (WS_mem (List.mem_of_getElem? (i := 570) rfl) rfl)
theorem mv_X6_chance : MV mX6_chance RX6 3 := ⟨(WS_mem (List.mem_of_getElem? (i := 568) (by decide +kernel)) (by decide +kernel)), (WS_mem (List.mem_of_getElem? (i := 569) (by decide +kernel)) (by decide +kernel)), (WS_mem (List.mem_of_getElem? (i := 77) (by decide +kernel)) (by decide +kernel)), cw_X6_chance, ⟨by decide +kernel, by decide +kernel, by decide +kernel⟩, by decide⟩
abbrev mX6_tallyFavour : MI := (yX6_tallyFavour, cX6_tallyFavour, 8, none)
set_option maxRecDepth 40000 in
theorem cw_X6_tallyFavour : Cond.code yX6_tallyFavour cX6_tallyFavour 8 none ∈ WS := (WS_mem (List.mem_of_getElem? (i := 575) rfl) rfl)
theorem mv_X6_tallyFavour : MV mX6_tallyFavour RX6 1 := ⟨(WS_mem (List.mem_of_getElem? (i := 574) (by decide +kernel)) (by decide +kernel)), (WS_mem (List.mem_of_getElem? (i := 15) (by decide +kernel)) (by decide +kernel)), (WS_mem (List.mem_of_getElem? (i := 77) (by decide +kernel)) (by decide +kernel)), cw_X6_tallyFavour, ⟨by decide +kernel, by decide +kernel, by decide +kernel⟩, by decide⟩
abbrev mJ7_fill_d0a16 : MI := (yJ7_fill_d0a16, cJ7_fill_d0a16, 5, none)
set_option maxRecDepth 40000 in
theorem cw_J7_fill_d0a16 : Cond.code yJ7_fill_d0a16 cJ7_fill_d0a16 5 none ∈ WS := (WS_mem (List.mem_of_getElem? (i := 578) rfl) rfl)
theorem ms_J7_fill_d0a16 : MS mJ7_fill_d0a16 2 := ⟨(WS_mem (List.mem_of_getElem? (i := 577) (by decide +kernel)) (by decide +kernel)), (WS_mem (List.mem_of_getElem? (i := 85) (by decide +kernel)) (by decide +kernel)), cw_J7_fill_d0a16, ⟨by decide +kernel, by decide +kernel, by decide +kernel⟩, by decide⟩
abbrev mX6_power : MI := (yX6_power, cX6_power, 5, (some .long))
set_option maxRecDepth 40000 in
theorem cw_X6_power : Cond.code yX6_power cX6_power 5 (some .long) ∈ WS := (WS_mem (List.mem_of_getElem? (i := 581) rfl) rfl)
theorem ms_X6_power : MS mX6_power 2 := ⟨(WS_mem (List.mem_of_getElem? (i := 580) (by decide +kernel)) (by decide +kernel)), (WS_mem (List.mem_of_getElem? (i := 77) (by decide +kernel)) (by decide +kernel)), cw_X6_power, ⟨by decide +kernel, by decide +kernel, by decide +kernel⟩, by decide⟩
abbrev mX6_lowestTerm : MI := (yX6_lowestTerm, cX6_lowestTerm, 7, (some .long))
set_option maxRecDepth 40000 in
theorem cw_X6_lowestTerm : Cond.code yX6_lowestTerm cX6_lowestTerm 7 (some .long) ∈ WS := (WS_mem (List.mem_of_getElem? (i := 585) rfl) rfl)
theorem mv_X6_lowestTerm : MV mX6_lowestTerm RX6 2 := ⟨(WS_mem (List.mem_of_getElem? (i := 584) (by decide +kernel)) (by decide +kernel)), (WS_mem (List.mem_of_getElem? (i := 16) (by decide +kernel)) (by decide +kernel)), (WS_mem (List.mem_of_getElem? (i := 77) (by decide +kernel)) (by decide +kernel)), cw_X6_lowestTerm, ⟨by decide +kernel, by decide +kernel, by decide +kernel⟩, by decide⟩
abbrev mX6_lives : MI := (yX6_lives, cX6_lives, 5, (some .int))
set_option maxRecDepth 40000 in
theorem cw_X6_lives : Cond.code yX6_lives cX6_lives 5 (some .int) ∈ WS := (WS_mem (List.mem_of_getElem? (i := 589) rfl) rfl)
theorem mv_X6_lives : MV mX6_lives RX6 3 := ⟨(WS_mem (List.mem_of_getElem? (i := 587) (by decide +kernel)) (by decide +kernel)), (WS_mem (List.mem_of_getElem? (i := 588) (by decide +kernel)) (by decide +kernel)), (WS_mem (List.mem_of_getElem? (i := 77) (by decide +kernel)) (by decide +kernel)), cw_X6_lives, ⟨by decide +kernel, by decide +kernel, by decide +kernel⟩, by decide⟩
abbrev mX4_drawLots : MI := (yX4_drawLots, cX4_drawLots, 4, none)
set_option maxRecDepth 40000 in
theorem cw_X4_drawLots : Cond.code yX4_drawLots cX4_drawLots 4 none ∈ WS := (WS_mem (List.mem_of_getElem? (i := 593) rfl) rfl)
theorem mv_X4_drawLots : MV mX4_drawLots RX4 2 := ⟨(WS_mem (List.mem_of_getElem? (i := 591) (by decide +kernel)) (by decide +kernel)), (WS_mem (List.mem_of_getElem? (i := 592) (by decide +kernel)) (by decide +kernel)), (WS_mem (List.mem_of_getElem? (i := 79) (by decide +kernel)) (by decide +kernel)), cw_X4_drawLots, ⟨by decide +kernel, by decide +kernel, by decide +kernel⟩, by decide⟩
abbrev mX4_nextLot : MI := (yX4_nextLot, cX4_nextLot, 1, (some .int))
set_option maxRecDepth 40000 in
theorem cw_X4_nextLot : Cond.code yX4_nextLot cX4_nextLot 1 (some .int) ∈ WS := (WS_mem (List.mem_of_getElem? (i := 597) rfl) rfl)
theorem mv_X4_nextLot : MV mX4_nextLot RX4 0 := ⟨(WS_mem (List.mem_of_getElem? (i := 596) (by decide +kernel)) (by decide +kernel)), (WS_mem (List.mem_of_getElem? (i := 17) (by decide +kernel)) (by decide +kernel)), (WS_mem (List.mem_of_getElem? (i := 79) (by decide +kernel)) (by decide +kernel)), cw_X4_nextLot, ⟨by decide +kernel, by decide +kernel, by decide +kernel⟩, by decide⟩
abbrev mX6_sheet : MI := (yX6_sheet, cX6_sheet, 4, (some .int))
set_option maxRecDepth 40000 in
theorem cw_X6_sheet : Cond.code yX6_sheet cX6_sheet 4 (some .int) ∈ WS := (WS_mem (List.mem_of_getElem? (i := 602) rfl) rfl)
theorem mv_X6_sheet : MV mX6_sheet RX6 3 := ⟨(WS_mem (List.mem_of_getElem? (i := 600) (by decide +kernel)) (by decide +kernel)), (WS_mem (List.mem_of_getElem? (i := 601) (by decide +kernel)) (by decide +kernel)), (WS_mem (List.mem_of_getElem? (i := 77) (by decide +kernel)) (by decide +kernel)), cw_X6_sheet, ⟨by decide +kernel, by decide +kernel, by decide +kernel⟩, by decide⟩
abbrev mX3_init : MI := (yX3_init, cX3_init, 3, none)
set_option maxRecDepth 40000 in
theorem cw_X3_init : Cond.code yX3_init cX3_init 3 none ∈ WS := (WS_mem (List.mem_of_getElem? (i := 606) rfl) rfl)
abbrev mX6_lose : MI := (yX6_lose, cX6_lose, 3, (some .int))
set_option maxRecDepth 40000 in
theorem cw_X6_lose : Cond.code yX6_lose cX6_lose 3 (some .int) ∈ WS := (WS_mem (List.mem_of_getElem? (i := 620) rfl) rfl)
theorem mv_X6_lose : MV mX6_lose RX6 1 := ⟨(WS_mem (List.mem_of_getElem? (i := 618) (by decide +kernel)) (by decide +kernel)), (WS_mem (List.mem_of_getElem? (i := 619) (by decide +kernel)) (by decide +kernel)), (WS_mem (List.mem_of_getElem? (i := 77) (by decide +kernel)) (by decide +kernel)), cw_X6_lose, ⟨by decide +kernel, by decide +kernel, by decide +kernel⟩, by decide⟩
abbrev mX6_put : MI := (yX6_put, cX6_put, 6, (some .int))
set_option maxRecDepth 40000 in
theorem cw_X6_put : Cond.code yX6_put cX6_put 6 (some .int) ∈ WS := (WS_mem (List.mem_of_getElem? (i := 624) rfl) rfl)
theorem mv_X6_put : MV mX6_put RX6 4 := ⟨(WS_mem (List.mem_of_getElem? (i := 622) (by decide +kernel)) (by decide +kernel)), (WS_mem (List.mem_of_getElem? (i := 623) (by decide +kernel)) (by decide +kernel)), (WS_mem (List.mem_of_getElem? (i := 77) (by decide +kernel)) (by decide +kernel)), cw_X6_put, ⟨by decide +kernel, by decide +kernel, by decide +kernel⟩, by decide⟩
abbrev mX3_cut : MI := (yX3_cut, cX3_cut, 2, (some .int))
set_option maxRecDepth 40000 in
theorem cw_X3_cut : Cond.code yX3_cut cX3_cut 2 (some .int) ∈ WS := (WS_mem (List.mem_of_getElem? (i := 628) rfl) rfl)
theorem mv_X3_cut : MV mX3_cut RX3 1 := ⟨(WS_mem (List.mem_of_getElem? (i := 626) (by decide +kernel)) (by decide +kernel)), (WS_mem (List.mem_of_getElem? (i := 627) (by decide +kernel)) (by decide +kernel)), (WS_mem (List.mem_of_getElem? (i := 87) (by decide +kernel)) (by decide +kernel)), cw_X3_cut, ⟨by decide +kernel, by decide +kernel, by decide +kernel⟩, by decide⟩
abbrev mX6_get : MI := (yX6_get, cX6_get, 5, (some .int))
set_option maxRecDepth 40000 in
theorem cw_X6_get : Cond.code yX6_get cX6_get 5 (some .int) ∈ WS := (WS_mem (List.mem_of_getElem? (i := 632) rfl) rfl)
theorem mv_X6_get : MV mX6_get RX6 3 := ⟨(WS_mem (List.mem_of_getElem? (i := 630) (by decide +kernel)) (by decide +kernel)), (WS_mem (List.mem_of_getElem? (i := 631) (by decide +kernel)) (by decide +kernel)), (WS_mem (List.mem_of_getElem? (i := 77) (by decide +kernel)) (by decide +kernel)), cw_X6_get, ⟨by decide +kernel, by decide +kernel, by decide +kernel⟩, by decide⟩
abbrev mX6_findingAsLeast : MI := (yX6_findingAsLeast, cX6_findingAsLeast, 2, (some .int))
set_option maxRecDepth 40000 in
theorem cw_X6_findingAsLeast : Cond.code yX6_findingAsLeast cX6_findingAsLeast 2 (some .int) ∈ WS := (WS_mem (List.mem_of_getElem? (i := 636) rfl) rfl)
theorem mv_X6_findingAsLeast : MV mX6_findingAsLeast RX6 1 := ⟨(WS_mem (List.mem_of_getElem? (i := 635) (by decide +kernel)) (by decide +kernel)), (WS_mem (List.mem_of_getElem? (i := 18) (by decide +kernel)) (by decide +kernel)), (WS_mem (List.mem_of_getElem? (i := 77) (by decide +kernel)) (by decide +kernel)), cw_X6_findingAsLeast, ⟨by decide +kernel, by decide +kernel, by decide +kernel⟩, by decide⟩
abbrev mX6_copy : MI := (yX6_copy, cX6_copy, 8, (some .int))
set_option maxRecDepth 40000 in
theorem cw_X6_copy : Cond.code yX6_copy cX6_copy 8 (some .int) ∈ WS := (WS_mem (List.mem_of_getElem? (i := 640) rfl) rfl)
theorem mv_X6_copy : MV mX6_copy RX6 5 := ⟨(WS_mem (List.mem_of_getElem? (i := 638) (by decide +kernel)) (by decide +kernel)), (WS_mem (List.mem_of_getElem? (i := 639) (by decide +kernel)) (by decide +kernel)), (WS_mem (List.mem_of_getElem? (i := 77) (by decide +kernel)) (by decide +kernel)), cw_X6_copy, ⟨by decide +kernel, by decide +kernel, by decide +kernel⟩, by decide⟩
abbrev mX3_spans : MI := (yX3_spans, cX3_spans, 3, (some .boolean))
set_option maxRecDepth 40000 in
theorem cw_X3_spans : Cond.code yX3_spans cX3_spans 3 (some .boolean) ∈ WS := (WS_mem (List.mem_of_getElem? (i := 644) rfl) rfl)
theorem mv_X3_spans : MV mX3_spans RX3 2 := ⟨(WS_mem (List.mem_of_getElem? (i := 642) (by decide +kernel)) (by decide +kernel)), (WS_mem (List.mem_of_getElem? (i := 643) (by decide +kernel)) (by decide +kernel)), (WS_mem (List.mem_of_getElem? (i := 87) (by decide +kernel)) (by decide +kernel)), cw_X3_spans, ⟨by decide +kernel, by decide +kernel, by decide +kernel⟩, by decide⟩
abbrev mX6_write : MI := (yX6_write, cX6_write, 6, (some .int))
set_option maxRecDepth 40000 in
theorem cw_X6_write : Cond.code yX6_write cX6_write 6 (some .int) ∈ WS := (WS_mem (List.mem_of_getElem? (i := 651) rfl) rfl)
theorem mv_X6_write : MV mX6_write RX6 2 := ⟨(WS_mem (List.mem_of_getElem? (i := 649) (by decide +kernel)) (by decide +kernel)), (WS_mem (List.mem_of_getElem? (i := 650) (by decide +kernel)) (by decide +kernel)), (WS_mem (List.mem_of_getElem? (i := 77) (by decide +kernel)) (by decide +kernel)), cw_X6_write, ⟨by decide +kernel, by decide +kernel, by decide +kernel⟩, by decide⟩
abbrev mX6_count : MI := (yX6_count, cX6_count, 2, (some .int))
set_option maxRecDepth 40000 in
theorem cw_X6_count : Cond.code yX6_count cX6_count 2 (some .int) ∈ WS := (WS_mem (List.mem_of_getElem? (i := 656) rfl) rfl)
theorem mv_X6_count : MV mX6_count RX6 1 := ⟨(WS_mem (List.mem_of_getElem? (i := 654) (by decide +kernel)) (by decide +kernel)), (WS_mem (List.mem_of_getElem? (i := 655) (by decide +kernel)) (by decide +kernel)), (WS_mem (List.mem_of_getElem? (i := 77) (by decide +kernel)) (by decide +kernel)), cw_X6_count, ⟨by decide +kernel, by decide +kernel, by decide +kernel⟩, by decide⟩
abbrev mX6_digest : MI := (yX6_digest, cX6_digest, 4, (some .long))
set_option maxRecDepth 40000 in
theorem cw_X6_digest : Cond.code yX6_digest cX6_digest 4 (some .long) ∈ WS := (WS_mem (List.mem_of_getElem? (i := 660) rfl) rfl)
theorem mv_X6_digest : MV mX6_digest RX6 0 := ⟨(WS_mem (List.mem_of_getElem? (i := 658) (by decide +kernel)) (by decide +kernel)), (WS_mem (List.mem_of_getElem? (i := 659) (by decide +kernel)) (by decide +kernel)), (WS_mem (List.mem_of_getElem? (i := 77) (by decide +kernel)) (by decide +kernel)), cw_X6_digest, ⟨by decide +kernel, by decide +kernel, by decide +kernel⟩, by decide⟩
abbrev mX6_digestOfTales : MI := (yX6_digestOfTales, cX6_digestOfTales, 7, (some .long))
set_option maxRecDepth 40000 in
theorem cw_X6_digestOfTales : Cond.code yX6_digestOfTales cX6_digestOfTales 7 (some .long) ∈ WS := (WS_mem (List.mem_of_getElem? (i := 670) rfl) rfl)
theorem mv_X6_digestOfTales : MV mX6_digestOfTales RX6 1 := ⟨(WS_mem (List.mem_of_getElem? (i := 669) (by decide +kernel)) (by decide +kernel)), (WS_mem (List.mem_of_getElem? (i := 19) (by decide +kernel)) (by decide +kernel)), (WS_mem (List.mem_of_getElem? (i := 77) (by decide +kernel)) (by decide +kernel)), cw_X6_digestOfTales, ⟨by decide +kernel, by decide +kernel, by decide +kernel⟩, by decide⟩
abbrev mX6_digestOfCharges : MI := (yX6_digestOfCharges, cX6_digestOfCharges, 6, (some .long))
set_option maxRecDepth 40000 in
theorem cw_X6_digestOfCharges : Cond.code yX6_digestOfCharges cX6_digestOfCharges 6 (some .long) ∈ WS := (WS_mem (List.mem_of_getElem? (i := 679) rfl) rfl)
theorem mv_X6_digestOfCharges : MV mX6_digestOfCharges RX6 1 := ⟨(WS_mem (List.mem_of_getElem? (i := 678) (by decide +kernel)) (by decide +kernel)), (WS_mem (List.mem_of_getElem? (i := 20) (by decide +kernel)) (by decide +kernel)), (WS_mem (List.mem_of_getElem? (i := 77) (by decide +kernel)) (by decide +kernel)), cw_X6_digestOfCharges, ⟨by decide +kernel, by decide +kernel, by decide +kernel⟩, by decide⟩
abbrev mX7_init : MI := (yX7_init, cX7_init, 1, none)
set_option maxRecDepth 40000 in
theorem cw_X7_init : Cond.code yX7_init cX7_init 1 none ∈ WS := (WS_mem (List.mem_of_getElem? (i := 695) rfl) rfl)
abbrev mX7_type : MI := (yX7_type, cX7_type, 3, (some .int))
set_option maxRecDepth 40000 in
theorem cw_X7_type : Cond.code yX7_type cX7_type 3 (some .int) ∈ WS := (WS_mem (List.mem_of_getElem? (i := 833) rfl) rfl)
theorem mv_X7_type : MV mX7_type RX7 2 := ⟨(WS_mem (List.mem_of_getElem? (i := 831) (by decide +kernel)) (by decide +kernel)), (WS_mem (List.mem_of_getElem? (i := 832) (by decide +kernel)) (by decide +kernel)), (WS_mem (List.mem_of_getElem? (i := 83) (by decide +kernel)) (by decide +kernel)), cw_X7_type, ⟨by decide +kernel, by decide +kernel, by decide +kernel⟩, by decide⟩
abbrev mX7_isTwo : MI := (yX7_isTwo, cX7_isTwo, 1, (some .boolean))
set_option maxRecDepth 40000 in
theorem cw_X7_isTwo : Cond.code yX7_isTwo cX7_isTwo 1 (some .boolean) ∈ WS := (WS_mem (List.mem_of_getElem? (i := 836) rfl) rfl)
theorem ms_X7_isTwo : MS mX7_isTwo 1 := ⟨(WS_mem (List.mem_of_getElem? (i := 835) (by decide +kernel)) (by decide +kernel)), (WS_mem (List.mem_of_getElem? (i := 83) (by decide +kernel)) (by decide +kernel)), cw_X7_isTwo, ⟨by decide +kernel, by decide +kernel, by decide +kernel⟩, by decide⟩
abbrev mX7_in : MI := (yX7_in, cX7_in, 3, (some .boolean))
set_option maxRecDepth 40000 in
theorem cw_X7_in : Cond.code yX7_in cX7_in 3 (some .boolean) ∈ WS := (WS_mem (List.mem_of_getElem? (i := 839) rfl) rfl)
theorem ms_X7_in : MS mX7_in 3 := ⟨(WS_mem (List.mem_of_getElem? (i := 838) (by decide +kernel)) (by decide +kernel)), (WS_mem (List.mem_of_getElem? (i := 83) (by decide +kernel)) (by decide +kernel)), cw_X7_in, ⟨by decide +kernel, by decide +kernel, by decide +kernel⟩, by decide⟩
abbrev mX7_wipe : MI := (yX7_wipe, cX7_wipe, 3, (some .int))
set_option maxRecDepth 40000 in
theorem cw_X7_wipe : Cond.code yX7_wipe cX7_wipe 3 (some .int) ∈ WS := (WS_mem (List.mem_of_getElem? (i := 843) rfl) rfl)
theorem mv_X7_wipe : MV mX7_wipe RX7 1 := ⟨(WS_mem (List.mem_of_getElem? (i := 841) (by decide +kernel)) (by decide +kernel)), (WS_mem (List.mem_of_getElem? (i := 842) (by decide +kernel)) (by decide +kernel)), (WS_mem (List.mem_of_getElem? (i := 83) (by decide +kernel)) (by decide +kernel)), cw_X7_wipe, ⟨by decide +kernel, by decide +kernel, by decide +kernel⟩, by decide⟩
abbrev mX7_undo : MI := (yX7_undo, cX7_undo, 2, (some .int))
set_option maxRecDepth 40000 in
theorem cw_X7_undo : Cond.code yX7_undo cX7_undo 2 (some .int) ∈ WS := (WS_mem (List.mem_of_getElem? (i := 847) rfl) rfl)
theorem mv_X7_undo : MV mX7_undo RX7 1 := ⟨(WS_mem (List.mem_of_getElem? (i := 845) (by decide +kernel)) (by decide +kernel)), (WS_mem (List.mem_of_getElem? (i := 846) (by decide +kernel)) (by decide +kernel)), (WS_mem (List.mem_of_getElem? (i := 83) (by decide +kernel)) (by decide +kernel)), cw_X7_undo, ⟨by decide +kernel, by decide +kernel, by decide +kernel⟩, by decide⟩
abbrev mX7_fault : MI := (yX7_fault, cX7_fault, 2, (some .int))
set_option maxRecDepth 40000 in
theorem cw_X7_fault : Cond.code yX7_fault cX7_fault 2 (some .int) ∈ WS := (WS_mem (List.mem_of_getElem? (i := 851) rfl) rfl)
theorem mv_X7_fault : MV mX7_fault RX7 1 := ⟨(WS_mem (List.mem_of_getElem? (i := 849) (by decide +kernel)) (by decide +kernel)), (WS_mem (List.mem_of_getElem? (i := 850) (by decide +kernel)) (by decide +kernel)), (WS_mem (List.mem_of_getElem? (i := 83) (by decide +kernel)) (by decide +kernel)), cw_X7_fault, ⟨by decide +kernel, by decide +kernel, by decide +kernel⟩, by decide⟩
abbrev mX7_faultOf : MI := (yX7_faultOf, cX7_faultOf, 4, (some .int))
set_option maxRecDepth 40000 in
theorem cw_X7_faultOf : Cond.code yX7_faultOf cX7_faultOf 4 (some .int) ∈ WS := (WS_mem (List.mem_of_getElem? (i := 855) rfl) rfl)
theorem mv_X7_faultOf : MV mX7_faultOf RX7 1 := ⟨(WS_mem (List.mem_of_getElem? (i := 854) (by decide +kernel)) (by decide +kernel)), (WS_mem (List.mem_of_getElem? (i := 21) (by decide +kernel)) (by decide +kernel)), (WS_mem (List.mem_of_getElem? (i := 83) (by decide +kernel)) (by decide +kernel)), cw_X7_faultOf, ⟨by decide +kernel, by decide +kernel, by decide +kernel⟩, by decide⟩
abbrev mX7_readsText : MI := (yX7_readsText, cX7_readsText, 6, (some .int))
set_option maxRecDepth 40000 in
theorem cw_X7_readsText : Cond.code yX7_readsText cX7_readsText 6 (some .int) ∈ WS := (WS_mem (List.mem_of_getElem? (i := 859) rfl) rfl)
theorem mv_X7_readsText : MV mX7_readsText RX7 1 := ⟨(WS_mem (List.mem_of_getElem? (i := 858) (by decide +kernel)) (by decide +kernel)), (WS_mem (List.mem_of_getElem? (i := 22) (by decide +kernel)) (by decide +kernel)), (WS_mem (List.mem_of_getElem? (i := 83) (by decide +kernel)) (by decide +kernel)), cw_X7_readsText, ⟨by decide +kernel, by decide +kernel, by decide +kernel⟩, by decide⟩
abbrev mX7_readsTale : MI := (yX7_readsTale, cX7_readsTale, 7, (some .int))
set_option maxRecDepth 40000 in
theorem cw_X7_readsTale : Cond.code yX7_readsTale cX7_readsTale 7 (some .int) ∈ WS := (WS_mem (List.mem_of_getElem? (i := 863) rfl) rfl)
theorem mv_X7_readsTale : MV mX7_readsTale RX7 2 := ⟨(WS_mem (List.mem_of_getElem? (i := 862) (by decide +kernel)) (by decide +kernel)), (WS_mem (List.mem_of_getElem? (i := 23) (by decide +kernel)) (by decide +kernel)), (WS_mem (List.mem_of_getElem? (i := 83) (by decide +kernel)) (by decide +kernel)), cw_X7_readsTale, ⟨by decide +kernel, by decide +kernel, by decide +kernel⟩, by decide⟩
abbrev mX7_byteAt : MI := (yX7_byteAt, cX7_byteAt, 3, (some .int))
set_option maxRecDepth 40000 in
theorem cw_X7_byteAt : Cond.code yX7_byteAt cX7_byteAt 3 (some .int) ∈ WS := (WS_mem (List.mem_of_getElem? (i := 867) rfl) rfl)
theorem mv_X7_byteAt : MV mX7_byteAt RX7 2 := ⟨(WS_mem (List.mem_of_getElem? (i := 866) (by decide +kernel)) (by decide +kernel)), (WS_mem (List.mem_of_getElem? (i := 24) (by decide +kernel)) (by decide +kernel)), (WS_mem (List.mem_of_getElem? (i := 83) (by decide +kernel)) (by decide +kernel)), cw_X7_byteAt, ⟨by decide +kernel, by decide +kernel, by decide +kernel⟩, by decide⟩
abbrev mX7_sortOf : MI := (yX7_sortOf, cX7_sortOf, 1, (some .int))
set_option maxRecDepth 40000 in
theorem cw_X7_sortOf : Cond.code yX7_sortOf cX7_sortOf 1 (some .int) ∈ WS := (WS_mem (List.mem_of_getElem? (i := 870) rfl) rfl)
theorem ms_X7_sortOf : MS mX7_sortOf 1 := ⟨(WS_mem (List.mem_of_getElem? (i := 869) (by decide +kernel)) (by decide +kernel)), (WS_mem (List.mem_of_getElem? (i := 83) (by decide +kernel)) (by decide +kernel)), cw_X7_sortOf, ⟨by decide +kernel, by decide +kernel, by decide +kernel⟩, by decide⟩
abbrev mX7_isNight : MI := (yX7_isNight, cX7_isNight, 1, (some .boolean))
set_option maxRecDepth 40000 in
theorem cw_X7_isNight : Cond.code yX7_isNight cX7_isNight 1 (some .boolean) ∈ WS := (WS_mem (List.mem_of_getElem? (i := 873) rfl) rfl)
theorem ms_X7_isNight : MS mX7_isNight 1 := ⟨(WS_mem (List.mem_of_getElem? (i := 872) (by decide +kernel)) (by decide +kernel)), (WS_mem (List.mem_of_getElem? (i := 83) (by decide +kernel)) (by decide +kernel)), cw_X7_isNight, ⟨by decide +kernel, by decide +kernel, by decide +kernel⟩, by decide⟩
abbrev mX7_isTown : MI := (yX7_isTown, cX7_isTown, 1, (some .boolean))
set_option maxRecDepth 40000 in
theorem cw_X7_isTown : Cond.code yX7_isTown cX7_isTown 1 (some .boolean) ∈ WS := (WS_mem (List.mem_of_getElem? (i := 876) rfl) rfl)
theorem ms_X7_isTown : MS mX7_isTown 1 := ⟨(WS_mem (List.mem_of_getElem? (i := 875) (by decide +kernel)) (by decide +kernel)), (WS_mem (List.mem_of_getElem? (i := 83) (by decide +kernel)) (by decide +kernel)), cw_X7_isTown, ⟨by decide +kernel, by decide +kernel, by decide +kernel⟩, by decide⟩
abbrev mX7_readsCharge : MI := (yX7_readsCharge, cX7_readsCharge, 5, (some .int))
set_option maxRecDepth 40000 in
theorem cw_X7_readsCharge : Cond.code yX7_readsCharge cX7_readsCharge 5 (some .int) ∈ WS := (WS_mem (List.mem_of_getElem? (i := 880) rfl) rfl)
theorem mv_X7_readsCharge : MV mX7_readsCharge RX7 2 := ⟨(WS_mem (List.mem_of_getElem? (i := 879) (by decide +kernel)) (by decide +kernel)), (WS_mem (List.mem_of_getElem? (i := 25) (by decide +kernel)) (by decide +kernel)), (WS_mem (List.mem_of_getElem? (i := 83) (by decide +kernel)) (by decide +kernel)), cw_X7_readsCharge, ⟨by decide +kernel, by decide +kernel, by decide +kernel⟩, by decide⟩
abbrev mX7_tale : MI := (yX7_tale, cX7_tale, 3, (some .int))
set_option maxRecDepth 40000 in
theorem cw_X7_tale : Cond.code yX7_tale cX7_tale 3 (some .int) ∈ WS := (WS_mem (List.mem_of_getElem? (i := 884) rfl) rfl)
theorem mv_X7_tale : MV mX7_tale RX7 2 := ⟨(WS_mem (List.mem_of_getElem? (i := 882) (by decide +kernel)) (by decide +kernel)), (WS_mem (List.mem_of_getElem? (i := 883) (by decide +kernel)) (by decide +kernel)), (WS_mem (List.mem_of_getElem? (i := 83) (by decide +kernel)) (by decide +kernel)), cw_X7_tale, ⟨by decide +kernel, by decide +kernel, by decide +kernel⟩, by decide⟩
abbrev mX7_isTale : MI := (yX7_isTale, cX7_isTale, 2, (some .boolean))
set_option maxRecDepth 40000 in
theorem cw_X7_isTale : Cond.code yX7_isTale cX7_isTale 2 (some .boolean) ∈ WS := (WS_mem (List.mem_of_getElem? (i := 888) rfl) rfl)
theorem mv_X7_isTale : MV mX7_isTale RX7 1 := ⟨(WS_mem (List.mem_of_getElem? (i := 887) (by decide +kernel)) (by decide +kernel)), (WS_mem (List.mem_of_getElem? (i := 26) (by decide +kernel)) (by decide +kernel)), (WS_mem (List.mem_of_getElem? (i := 83) (by decide +kernel)) (by decide +kernel)), cw_X7_isTale, ⟨by decide +kernel, by decide +kernel, by decide +kernel⟩, by decide⟩
abbrev mX7_reads : MI := (yX7_reads, cX7_reads, 2, none)
set_option maxRecDepth 40000 in
theorem cw_X7_reads : Cond.code yX7_reads cX7_reads 2 none ∈ WS := (WS_mem (List.mem_of_getElem? (i := 892) rfl) rfl)
theorem mv_X7_reads : MV mX7_reads RX7 0 := ⟨(WS_mem (List.mem_of_getElem? (i := 891) (by decide +kernel)) (by decide +kernel)), (WS_mem (List.mem_of_getElem? (i := 27) (by decide +kernel)) (by decide +kernel)), (WS_mem (List.mem_of_getElem? (i := 83) (by decide +kernel)) (by decide +kernel)), cw_X7_reads, ⟨by decide +kernel, by decide +kernel, by decide +kernel⟩, by decide⟩
abbrev mX7_taleOf : MI := (yX7_taleOf, cX7_taleOf, 3, (some .int))
set_option maxRecDepth 40000 in
theorem cw_X7_taleOf : Cond.code yX7_taleOf cX7_taleOf 3 (some .int) ∈ WS := (WS_mem (List.mem_of_getElem? (i := 896) rfl) rfl)
theorem mv_X7_taleOf : MV mX7_taleOf RX7 2 := ⟨(WS_mem (List.mem_of_getElem? (i := 895) (by decide +kernel)) (by decide +kernel)), (WS_mem (List.mem_of_getElem? (i := 28) (by decide +kernel)) (by decide +kernel)), (WS_mem (List.mem_of_getElem? (i := 83) (by decide +kernel)) (by decide +kernel)), cw_X7_taleOf, ⟨by decide +kernel, by decide +kernel, by decide +kernel⟩, by decide⟩
abbrev mX7_charge : MI := (yX7_charge, cX7_charge, 3, (some .int))
set_option maxRecDepth 40000 in
theorem cw_X7_charge : Cond.code yX7_charge cX7_charge 3 (some .int) ∈ WS := (WS_mem (List.mem_of_getElem? (i := 900) rfl) rfl)
theorem mv_X7_charge : MV mX7_charge RX7 2 := ⟨(WS_mem (List.mem_of_getElem? (i := 898) (by decide +kernel)) (by decide +kernel)), (WS_mem (List.mem_of_getElem? (i := 899) (by decide +kernel)) (by decide +kernel)), (WS_mem (List.mem_of_getElem? (i := 83) (by decide +kernel)) (by decide +kernel)), cw_X7_charge, ⟨by decide +kernel, by decide +kernel, by decide +kernel⟩, by decide⟩
abbrev mX7_isCharge : MI := (yX7_isCharge, cX7_isCharge, 2, (some .boolean))
set_option maxRecDepth 40000 in
theorem cw_X7_isCharge : Cond.code yX7_isCharge cX7_isCharge 2 (some .boolean) ∈ WS := (WS_mem (List.mem_of_getElem? (i := 904) rfl) rfl)
theorem mv_X7_isCharge : MV mX7_isCharge RX7 1 := ⟨(WS_mem (List.mem_of_getElem? (i := 903) (by decide +kernel)) (by decide +kernel)), (WS_mem (List.mem_of_getElem? (i := 29) (by decide +kernel)) (by decide +kernel)), (WS_mem (List.mem_of_getElem? (i := 83) (by decide +kernel)) (by decide +kernel)), cw_X7_isCharge, ⟨by decide +kernel, by decide +kernel, by decide +kernel⟩, by decide⟩
abbrev mX7_chargeOf : MI := (yX7_chargeOf, cX7_chargeOf, 3, (some .int))
set_option maxRecDepth 40000 in
theorem cw_X7_chargeOf : Cond.code yX7_chargeOf cX7_chargeOf 3 (some .int) ∈ WS := (WS_mem (List.mem_of_getElem? (i := 908) rfl) rfl)
theorem mv_X7_chargeOf : MV mX7_chargeOf RX7 2 := ⟨(WS_mem (List.mem_of_getElem? (i := 907) (by decide +kernel)) (by decide +kernel)), (WS_mem (List.mem_of_getElem? (i := 30) (by decide +kernel)) (by decide +kernel)), (WS_mem (List.mem_of_getElem? (i := 83) (by decide +kernel)) (by decide +kernel)), cw_X7_chargeOf, ⟨by decide +kernel, by decide +kernel, by decide +kernel⟩, by decide⟩
abbrev mX7_need : MI := (yX7_need, cX7_need, 3, (some .int))
set_option maxRecDepth 40000 in
theorem cw_X7_need : Cond.code yX7_need cX7_need 3 (some .int) ∈ WS := (WS_mem (List.mem_of_getElem? (i := 912) rfl) rfl)
theorem mv_X7_need : MV mX7_need RX7 1 := ⟨(WS_mem (List.mem_of_getElem? (i := 910) (by decide +kernel)) (by decide +kernel)), (WS_mem (List.mem_of_getElem? (i := 911) (by decide +kernel)) (by decide +kernel)), (WS_mem (List.mem_of_getElem? (i := 83) (by decide +kernel)) (by decide +kernel)), cw_X7_need, ⟨by decide +kernel, by decide +kernel, by decide +kernel⟩, by decide⟩
abbrev mX7_event : MI := (yX7_event, cX7_event, 4, (some .int))
set_option maxRecDepth 40000 in
theorem cw_X7_event : Cond.code yX7_event cX7_event 4 (some .int) ∈ WS := (WS_mem (List.mem_of_getElem? (i := 916) rfl) rfl)
theorem mv_X7_event : MV mX7_event RX7 3 := ⟨(WS_mem (List.mem_of_getElem? (i := 914) (by decide +kernel)) (by decide +kernel)), (WS_mem (List.mem_of_getElem? (i := 915) (by decide +kernel)) (by decide +kernel)), (WS_mem (List.mem_of_getElem? (i := 83) (by decide +kernel)) (by decide +kernel)), cw_X7_event, ⟨by decide +kernel, by decide +kernel, by decide +kernel⟩, by decide⟩
abbrev mX7_isThree : MI := (yX7_isThree, cX7_isThree, 1, (some .boolean))
set_option maxRecDepth 40000 in
theorem cw_X7_isThree : Cond.code yX7_isThree cX7_isThree 1 (some .boolean) ∈ WS := (WS_mem (List.mem_of_getElem? (i := 919) rfl) rfl)
theorem ms_X7_isThree : MS mX7_isThree 1 := ⟨(WS_mem (List.mem_of_getElem? (i := 918) (by decide +kernel)) (by decide +kernel)), (WS_mem (List.mem_of_getElem? (i := 83) (by decide +kernel)) (by decide +kernel)), cw_X7_isThree, ⟨by decide +kernel, by decide +kernel, by decide +kernel⟩, by decide⟩
abbrev mX7_back : MI := (yX7_back, cX7_back, 1, (some .int))
set_option maxRecDepth 40000 in
theorem cw_X7_back : Cond.code yX7_back cX7_back 1 (some .int) ∈ WS := (WS_mem (List.mem_of_getElem? (i := 923) rfl) rfl)
theorem mv_X7_back : MV mX7_back RX7 0 := ⟨(WS_mem (List.mem_of_getElem? (i := 921) (by decide +kernel)) (by decide +kernel)), (WS_mem (List.mem_of_getElem? (i := 922) (by decide +kernel)) (by decide +kernel)), (WS_mem (List.mem_of_getElem? (i := 83) (by decide +kernel)) (by decide +kernel)), cw_X7_back, ⟨by decide +kernel, by decide +kernel, by decide +kernel⟩, by decide⟩
abbrev mX7_read : MI := (yX7_read, cX7_read, 4, (some .int))
set_option maxRecDepth 40000 in
theorem cw_X7_read : Cond.code yX7_read cX7_read 4 (some .int) ∈ WS := (WS_mem (List.mem_of_getElem? (i := 927) rfl) rfl)
theorem mv_X7_read : MV mX7_read RX7 1 := ⟨(WS_mem (List.mem_of_getElem? (i := 925) (by decide +kernel)) (by decide +kernel)), (WS_mem (List.mem_of_getElem? (i := 926) (by decide +kernel)) (by decide +kernel)), (WS_mem (List.mem_of_getElem? (i := 83) (by decide +kernel)) (by decide +kernel)), cw_X7_read, ⟨by decide +kernel, by decide +kernel, by decide +kernel⟩, by decide⟩
abbrev mX7_isSheet : MI := (yX7_isSheet, cX7_isSheet, 1, (some .boolean))
set_option maxRecDepth 40000 in
theorem cw_X7_isSheet : Cond.code yX7_isSheet cX7_isSheet 1 (some .boolean) ∈ WS := (WS_mem (List.mem_of_getElem? (i := 930) rfl) rfl)
theorem ms_X7_isSheet : MS mX7_isSheet 1 := ⟨(WS_mem (List.mem_of_getElem? (i := 929) (by decide +kernel)) (by decide +kernel)), (WS_mem (List.mem_of_getElem? (i := 83) (by decide +kernel)) (by decide +kernel)), cw_X7_isSheet, ⟨by decide +kernel, by decide +kernel, by decide +kernel⟩, by decide⟩
abbrev mX7_meets : MI := (yX7_meets, cX7_meets, 2, (some .int))
set_option maxRecDepth 40000 in
theorem cw_X7_meets : Cond.code yX7_meets cX7_meets 2 (some .int) ∈ WS := (WS_mem (List.mem_of_getElem? (i := 934) rfl) rfl)
theorem mv_X7_meets : MV mX7_meets RX7 1 := ⟨(WS_mem (List.mem_of_getElem? (i := 933) (by decide +kernel)) (by decide +kernel)), (WS_mem (List.mem_of_getElem? (i := 31) (by decide +kernel)) (by decide +kernel)), (WS_mem (List.mem_of_getElem? (i := 83) (by decide +kernel)) (by decide +kernel)), cw_X7_meets, ⟨by decide +kernel, by decide +kernel, by decide +kernel⟩, by decide⟩
abbrev mX7_clash : MI := (yX7_clash, cX7_clash, 3, (some .int))
set_option maxRecDepth 40000 in
theorem cw_X7_clash : Cond.code yX7_clash cX7_clash 3 (some .int) ∈ WS := (WS_mem (List.mem_of_getElem? (i := 939) rfl) rfl)
theorem mv_X7_clash : MV mX7_clash RX7 2 := ⟨(WS_mem (List.mem_of_getElem? (i := 937) (by decide +kernel)) (by decide +kernel)), (WS_mem (List.mem_of_getElem? (i := 938) (by decide +kernel)) (by decide +kernel)), (WS_mem (List.mem_of_getElem? (i := 83) (by decide +kernel)) (by decide +kernel)), cw_X7_clash, ⟨by decide +kernel, by decide +kernel, by decide +kernel⟩, by decide⟩
abbrev mX7_clashOf : MI := (yX7_clashOf, cX7_clashOf, 3, (some .int))
set_option maxRecDepth 40000 in
theorem cw_X7_clashOf : Cond.code yX7_clashOf cX7_clashOf 3 (some .int) ∈ WS := (WS_mem (List.mem_of_getElem? (i := 943) rfl) rfl)
theorem mv_X7_clashOf : MV mX7_clashOf RX7 2 := ⟨(WS_mem (List.mem_of_getElem? (i := 942) (by decide +kernel)) (by decide +kernel)), (WS_mem (List.mem_of_getElem? (i := 32) (by decide +kernel)) (by decide +kernel)), (WS_mem (List.mem_of_getElem? (i := 83) (by decide +kernel)) (by decide +kernel)), cw_X7_clashOf, ⟨by decide +kernel, by decide +kernel, by decide +kernel⟩, by decide⟩
abbrev mX7_asTold : MI := (yX7_asTold, cX7_asTold, 2, none)
set_option maxRecDepth 40000 in
theorem cw_X7_asTold : Cond.code yX7_asTold cX7_asTold 2 none ∈ WS := (WS_mem (List.mem_of_getElem? (i := 947) rfl) rfl)
theorem mv_X7_asTold : MV mX7_asTold RX7 0 := ⟨(WS_mem (List.mem_of_getElem? (i := 946) (by decide +kernel)) (by decide +kernel)), (WS_mem (List.mem_of_getElem? (i := 33) (by decide +kernel)) (by decide +kernel)), (WS_mem (List.mem_of_getElem? (i := 83) (by decide +kernel)) (by decide +kernel)), cw_X7_asTold, ⟨by decide +kernel, by decide +kernel, by decide +kernel⟩, by decide⟩
abbrev mX7_clashes : MI := (yX7_clashes, cX7_clashes, 3, (some .boolean))
set_option maxRecDepth 40000 in
theorem cw_X7_clashes : Cond.code yX7_clashes cX7_clashes 3 (some .boolean) ∈ WS := (WS_mem (List.mem_of_getElem? (i := 951) rfl) rfl)
theorem mv_X7_clashes : MV mX7_clashes RX7 2 := ⟨(WS_mem (List.mem_of_getElem? (i := 950) (by decide +kernel)) (by decide +kernel)), (WS_mem (List.mem_of_getElem? (i := 34) (by decide +kernel)) (by decide +kernel)), (WS_mem (List.mem_of_getElem? (i := 83) (by decide +kernel)) (by decide +kernel)), cw_X7_clashes, ⟨by decide +kernel, by decide +kernel, by decide +kernel⟩, by decide⟩
abbrev mX7_far : MI := (yX7_far, cX7_far, 2, (some .int))
set_option maxRecDepth 40000 in
theorem cw_X7_far : Cond.code yX7_far cX7_far 2 (some .int) ∈ WS := (WS_mem (List.mem_of_getElem? (i := 954) rfl) rfl)
theorem ms_X7_far : MS mX7_far 2 := ⟨(WS_mem (List.mem_of_getElem? (i := 953) (by decide +kernel)) (by decide +kernel)), (WS_mem (List.mem_of_getElem? (i := 83) (by decide +kernel)) (by decide +kernel)), cw_X7_far, ⟨by decide +kernel, by decide +kernel, by decide +kernel⟩, by decide⟩
abbrev mX7_stands : MI := (yX7_stands, cX7_stands, 3, (some .int))
set_option maxRecDepth 40000 in
theorem cw_X7_stands : Cond.code yX7_stands cX7_stands 3 (some .int) ∈ WS := (WS_mem (List.mem_of_getElem? (i := 958) rfl) rfl)
theorem mv_X7_stands : MV mX7_stands RX7 2 := ⟨(WS_mem (List.mem_of_getElem? (i := 956) (by decide +kernel)) (by decide +kernel)), (WS_mem (List.mem_of_getElem? (i := 957) (by decide +kernel)) (by decide +kernel)), (WS_mem (List.mem_of_getElem? (i := 83) (by decide +kernel)) (by decide +kernel)), cw_X7_stands, ⟨by decide +kernel, by decide +kernel, by decide +kernel⟩, by decide⟩
abbrev mX7_standsOf : MI := (yX7_standsOf, cX7_standsOf, 3, (some .int))
set_option maxRecDepth 40000 in
theorem cw_X7_standsOf : Cond.code yX7_standsOf cX7_standsOf 3 (some .int) ∈ WS := (WS_mem (List.mem_of_getElem? (i := 962) rfl) rfl)
theorem mv_X7_standsOf : MV mX7_standsOf RX7 2 := ⟨(WS_mem (List.mem_of_getElem? (i := 961) (by decide +kernel)) (by decide +kernel)), (WS_mem (List.mem_of_getElem? (i := 35) (by decide +kernel)) (by decide +kernel)), (WS_mem (List.mem_of_getElem? (i := 83) (by decide +kernel)) (by decide +kernel)), cw_X7_standsOf, ⟨by decide +kernel, by decide +kernel, by decide +kernel⟩, by decide⟩
abbrev mX7_runsTold : MI := (yX7_runsTold, cX7_runsTold, 1, none)
set_option maxRecDepth 40000 in
theorem cw_X7_runsTold : Cond.code yX7_runsTold cX7_runsTold 1 none ∈ WS := (WS_mem (List.mem_of_getElem? (i := 966) rfl) rfl)
theorem mv_X7_runsTold : MV mX7_runsTold RX7 0 := ⟨(WS_mem (List.mem_of_getElem? (i := 965) (by decide +kernel)) (by decide +kernel)), (WS_mem (List.mem_of_getElem? (i := 36) (by decide +kernel)) (by decide +kernel)), (WS_mem (List.mem_of_getElem? (i := 83) (by decide +kernel)) (by decide +kernel)), cw_X7_runsTold, ⟨by decide +kernel, by decide +kernel, by decide +kernel⟩, by decide⟩
abbrev mX7_runs : MI := (yX7_runs, cX7_runs, 2, none)
set_option maxRecDepth 40000 in
theorem cw_X7_runs : Cond.code yX7_runs cX7_runs 2 none ∈ WS := (WS_mem (List.mem_of_getElem? (i := 970) rfl) rfl)
theorem mv_X7_runs : MV mX7_runs RX7 0 := ⟨(WS_mem (List.mem_of_getElem? (i := 969) (by decide +kernel)) (by decide +kernel)), (WS_mem (List.mem_of_getElem? (i := 37) (by decide +kernel)) (by decide +kernel)), (WS_mem (List.mem_of_getElem? (i := 83) (by decide +kernel)) (by decide +kernel)), cw_X7_runs, ⟨by decide +kernel, by decide +kernel, by decide +kernel⟩, by decide⟩
abbrev mX7_countsAll : MI := (yX7_countsAll, cX7_countsAll, 3, none)
set_option maxRecDepth 40000 in
theorem cw_X7_countsAll : Cond.code yX7_countsAll cX7_countsAll 3 none ∈ WS := (WS_mem (List.mem_of_getElem? (i := 974) rfl) rfl)
theorem mv_X7_countsAll : MV mX7_countsAll RX7 0 := ⟨(WS_mem (List.mem_of_getElem? (i := 973) (by decide +kernel)) (by decide +kernel)), (WS_mem (List.mem_of_getElem? (i := 38) (by decide +kernel)) (by decide +kernel)), (WS_mem (List.mem_of_getElem? (i := 83) (by decide +kernel)) (by decide +kernel)), cw_X7_countsAll, ⟨by decide +kernel, by decide +kernel, by decide +kernel⟩, by decide⟩
abbrev mX7_isShaken : MI := (yX7_isShaken, cX7_isShaken, 4, (some .boolean))
set_option maxRecDepth 40000 in
theorem cw_X7_isShaken : Cond.code yX7_isShaken cX7_isShaken 4 (some .boolean) ∈ WS := (WS_mem (List.mem_of_getElem? (i := 978) rfl) rfl)
theorem mv_X7_isShaken : MV mX7_isShaken RX7 1 := ⟨(WS_mem (List.mem_of_getElem? (i := 977) (by decide +kernel)) (by decide +kernel)), (WS_mem (List.mem_of_getElem? (i := 39) (by decide +kernel)) (by decide +kernel)), (WS_mem (List.mem_of_getElem? (i := 83) (by decide +kernel)) (by decide +kernel)), cw_X7_isShaken, ⟨by decide +kernel, by decide +kernel, by decide +kernel⟩, by decide⟩
abbrev mX7_isIn : MI := (yX7_isIn, cX7_isIn, 2, (some .boolean))
set_option maxRecDepth 40000 in
theorem cw_X7_isIn : Cond.code yX7_isIn cX7_isIn 2 (some .boolean) ∈ WS := (WS_mem (List.mem_of_getElem? (i := 981) rfl) rfl)
theorem ms_X7_isIn : MS mX7_isIn 2 := ⟨(WS_mem (List.mem_of_getElem? (i := 980) (by decide +kernel)) (by decide +kernel)), (WS_mem (List.mem_of_getElem? (i := 83) (by decide +kernel)) (by decide +kernel)), cw_X7_isIn, ⟨by decide +kernel, by decide +kernel, by decide +kernel⟩, by decide⟩
abbrev mX7_weighsAll : MI := (yX7_weighsAll, cX7_weighsAll, 4, none)
set_option maxRecDepth 40000 in
theorem cw_X7_weighsAll : Cond.code yX7_weighsAll cX7_weighsAll 4 none ∈ WS := (WS_mem (List.mem_of_getElem? (i := 985) rfl) rfl)
theorem mv_X7_weighsAll : MV mX7_weighsAll RX7 0 := ⟨(WS_mem (List.mem_of_getElem? (i := 984) (by decide +kernel)) (by decide +kernel)), (WS_mem (List.mem_of_getElem? (i := 40) (by decide +kernel)) (by decide +kernel)), (WS_mem (List.mem_of_getElem? (i := 83) (by decide +kernel)) (by decide +kernel)), cw_X7_weighsAll, ⟨by decide +kernel, by decide +kernel, by decide +kernel⟩, by decide⟩
abbrev mX7_others : MI := (yX7_others, cX7_others, 5, (some .int))
set_option maxRecDepth 40000 in
theorem cw_X7_others : Cond.code yX7_others cX7_others 5 (some .int) ∈ WS := (WS_mem (List.mem_of_getElem? (i := 989) rfl) rfl)
theorem mv_X7_others : MV mX7_others RX7 1 := ⟨(WS_mem (List.mem_of_getElem? (i := 988) (by decide +kernel)) (by decide +kernel)), (WS_mem (List.mem_of_getElem? (i := 41) (by decide +kernel)) (by decide +kernel)), (WS_mem (List.mem_of_getElem? (i := 83) (by decide +kernel)) (by decide +kernel)), cw_X7_others, ⟨by decide +kernel, by decide +kernel, by decide +kernel⟩, by decide⟩
abbrev mX7_isLiar : MI := (yX7_isLiar, cX7_isLiar, 4, (some .boolean))
set_option maxRecDepth 40000 in
theorem cw_X7_isLiar : Cond.code yX7_isLiar cX7_isLiar 4 (some .boolean) ∈ WS := (WS_mem (List.mem_of_getElem? (i := 993) rfl) rfl)
theorem mv_X7_isLiar : MV mX7_isLiar RX7 1 := ⟨(WS_mem (List.mem_of_getElem? (i := 992) (by decide +kernel)) (by decide +kernel)), (WS_mem (List.mem_of_getElem? (i := 42) (by decide +kernel)) (by decide +kernel)), (WS_mem (List.mem_of_getElem? (i := 83) (by decide +kernel)) (by decide +kernel)), cw_X7_isLiar, ⟨by decide +kernel, by decide +kernel, by decide +kernel⟩, by decide⟩
abbrev mX7_standsIn : MI := (yX7_standsIn, cX7_standsIn, 7, none)
set_option maxRecDepth 40000 in
theorem cw_X7_standsIn : Cond.code yX7_standsIn cX7_standsIn 7 none ∈ WS := (WS_mem (List.mem_of_getElem? (i := 997) rfl) rfl)
theorem mv_X7_standsIn : MV mX7_standsIn RX7 1 := ⟨(WS_mem (List.mem_of_getElem? (i := 996) (by decide +kernel)) (by decide +kernel)), (WS_mem (List.mem_of_getElem? (i := 43) (by decide +kernel)) (by decide +kernel)), (WS_mem (List.mem_of_getElem? (i := 83) (by decide +kernel)) (by decide +kernel)), cw_X7_standsIn, ⟨by decide +kernel, by decide +kernel, by decide +kernel⟩, by decide⟩
abbrev mX7_letters : MI := (yX7_letters, cX7_letters, 5, (some .int))
set_option maxRecDepth 40000 in
theorem cw_X7_letters : Cond.code yX7_letters cX7_letters 5 (some .int) ∈ WS := (WS_mem (List.mem_of_getElem? (i := 1001) rfl) rfl)
theorem mv_X7_letters : MV mX7_letters RX7 2 := ⟨(WS_mem (List.mem_of_getElem? (i := 1000) (by decide +kernel)) (by decide +kernel)), (WS_mem (List.mem_of_getElem? (i := 44) (by decide +kernel)) (by decide +kernel)), (WS_mem (List.mem_of_getElem? (i := 83) (by decide +kernel)) (by decide +kernel)), cw_X7_letters, ⟨by decide +kernel, by decide +kernel, by decide +kernel⟩, by decide⟩
abbrev mX7_beliefNow : MI := (yX7_beliefNow, cX7_beliefNow, 4, (some .int))
set_option maxRecDepth 40000 in
theorem cw_X7_beliefNow : Cond.code yX7_beliefNow cX7_beliefNow 4 (some .int) ∈ WS := (WS_mem (List.mem_of_getElem? (i := 1005) rfl) rfl)
theorem mv_X7_beliefNow : MV mX7_beliefNow RX7 1 := ⟨(WS_mem (List.mem_of_getElem? (i := 1004) (by decide +kernel)) (by decide +kernel)), (WS_mem (List.mem_of_getElem? (i := 45) (by decide +kernel)) (by decide +kernel)), (WS_mem (List.mem_of_getElem? (i := 83) (by decide +kernel)) (by decide +kernel)), cw_X7_beliefNow, ⟨by decide +kernel, by decide +kernel, by decide +kernel⟩, by decide⟩
abbrev mX7_bestTown : MI := (yX7_bestTown, cX7_bestTown, 7, (some .int))
set_option maxRecDepth 40000 in
theorem cw_X7_bestTown : Cond.code yX7_bestTown cX7_bestTown 7 (some .int) ∈ WS := (WS_mem (List.mem_of_getElem? (i := 1009) rfl) rfl)
theorem mv_X7_bestTown : MV mX7_bestTown RX7 1 := ⟨(WS_mem (List.mem_of_getElem? (i := 1008) (by decide +kernel)) (by decide +kernel)), (WS_mem (List.mem_of_getElem? (i := 46) (by decide +kernel)) (by decide +kernel)), (WS_mem (List.mem_of_getElem? (i := 83) (by decide +kernel)) (by decide +kernel)), cw_X7_bestTown, ⟨by decide +kernel, by decide +kernel, by decide +kernel⟩, by decide⟩
abbrev mX7_man : MI := (yX7_man, cX7_man, 4, (some .int))
set_option maxRecDepth 40000 in
theorem cw_X7_man : Cond.code yX7_man cX7_man 4 (some .int) ∈ WS := (WS_mem (List.mem_of_getElem? (i := 1013) rfl) rfl)
theorem mv_X7_man : MV mX7_man RX7 3 := ⟨(WS_mem (List.mem_of_getElem? (i := 1011) (by decide +kernel)) (by decide +kernel)), (WS_mem (List.mem_of_getElem? (i := 1012) (by decide +kernel)) (by decide +kernel)), (WS_mem (List.mem_of_getElem? (i := 83) (by decide +kernel)) (by decide +kernel)), cw_X7_man, ⟨by decide +kernel, by decide +kernel, by decide +kernel⟩, by decide⟩
abbrev mX7_manOf : MI := (yX7_manOf, cX7_manOf, 4, (some .int))
set_option maxRecDepth 40000 in
theorem cw_X7_manOf : Cond.code yX7_manOf cX7_manOf 4 (some .int) ∈ WS := (WS_mem (List.mem_of_getElem? (i := 1017) rfl) rfl)
theorem mv_X7_manOf : MV mX7_manOf RX7 3 := ⟨(WS_mem (List.mem_of_getElem? (i := 1016) (by decide +kernel)) (by decide +kernel)), (WS_mem (List.mem_of_getElem? (i := 47) (by decide +kernel)) (by decide +kernel)), (WS_mem (List.mem_of_getElem? (i := 83) (by decide +kernel)) (by decide +kernel)), cw_X7_manOf, ⟨by decide +kernel, by decide +kernel, by decide +kernel⟩, by decide⟩
abbrev mX7_belief : MI := (yX7_belief, cX7_belief, 2, (some .int))
set_option maxRecDepth 40000 in
theorem cw_X7_belief : Cond.code yX7_belief cX7_belief 2 (some .int) ∈ WS := (WS_mem (List.mem_of_getElem? (i := 1021) rfl) rfl)
theorem mv_X7_belief : MV mX7_belief RX7 1 := ⟨(WS_mem (List.mem_of_getElem? (i := 1019) (by decide +kernel)) (by decide +kernel)), (WS_mem (List.mem_of_getElem? (i := 1020) (by decide +kernel)) (by decide +kernel)), (WS_mem (List.mem_of_getElem? (i := 83) (by decide +kernel)) (by decide +kernel)), cw_X7_belief, ⟨by decide +kernel, by decide +kernel, by decide +kernel⟩, by decide⟩
abbrev mX7_beliefOf : MI := (yX7_beliefOf, cX7_beliefOf, 2, (some .int))
set_option maxRecDepth 40000 in
theorem cw_X7_beliefOf : Cond.code yX7_beliefOf cX7_beliefOf 2 (some .int) ∈ WS := (WS_mem (List.mem_of_getElem? (i := 1025) rfl) rfl)
theorem mv_X7_beliefOf : MV mX7_beliefOf RX7 1 := ⟨(WS_mem (List.mem_of_getElem? (i := 1024) (by decide +kernel)) (by decide +kernel)), (WS_mem (List.mem_of_getElem? (i := 48) (by decide +kernel)) (by decide +kernel)), (WS_mem (List.mem_of_getElem? (i := 83) (by decide +kernel)) (by decide +kernel)), cw_X7_beliefOf, ⟨by decide +kernel, by decide +kernel, by decide +kernel⟩, by decide⟩
abbrev mX7_cleared : MI := (yX7_cleared, cX7_cleared, 3, (some .int))
set_option maxRecDepth 40000 in
theorem cw_X7_cleared : Cond.code yX7_cleared cX7_cleared 3 (some .int) ∈ WS := (WS_mem (List.mem_of_getElem? (i := 1030) rfl) rfl)
theorem mv_X7_cleared : MV mX7_cleared RX7 2 := ⟨(WS_mem (List.mem_of_getElem? (i := 1028) (by decide +kernel)) (by decide +kernel)), (WS_mem (List.mem_of_getElem? (i := 1029) (by decide +kernel)) (by decide +kernel)), (WS_mem (List.mem_of_getElem? (i := 83) (by decide +kernel)) (by decide +kernel)), cw_X7_cleared, ⟨by decide +kernel, by decide +kernel, by decide +kernel⟩, by decide⟩
abbrev mX7_clearedOf : MI := (yX7_clearedOf, cX7_clearedOf, 3, (some .int))
set_option maxRecDepth 40000 in
theorem cw_X7_clearedOf : Cond.code yX7_clearedOf cX7_clearedOf 3 (some .int) ∈ WS := (WS_mem (List.mem_of_getElem? (i := 1034) rfl) rfl)
theorem mv_X7_clearedOf : MV mX7_clearedOf RX7 2 := ⟨(WS_mem (List.mem_of_getElem? (i := 1033) (by decide +kernel)) (by decide +kernel)), (WS_mem (List.mem_of_getElem? (i := 49) (by decide +kernel)) (by decide +kernel)), (WS_mem (List.mem_of_getElem? (i := 83) (by decide +kernel)) (by decide +kernel)), cw_X7_clearedOf, ⟨by decide +kernel, by decide +kernel, by decide +kernel⟩, by decide⟩
abbrev mX7_sum : MI := (yX7_sum, cX7_sum, 2, (some .int))
set_option maxRecDepth 40000 in
theorem cw_X7_sum : Cond.code yX7_sum cX7_sum 2 (some .int) ∈ WS := (WS_mem (List.mem_of_getElem? (i := 1038) rfl) rfl)
theorem mv_X7_sum : MV mX7_sum RX7 1 := ⟨(WS_mem (List.mem_of_getElem? (i := 1036) (by decide +kernel)) (by decide +kernel)), (WS_mem (List.mem_of_getElem? (i := 1037) (by decide +kernel)) (by decide +kernel)), (WS_mem (List.mem_of_getElem? (i := 83) (by decide +kernel)) (by decide +kernel)), cw_X7_sum, ⟨by decide +kernel, by decide +kernel, by decide +kernel⟩, by decide⟩
abbrev mX7_sumOf : MI := (yX7_sumOf, cX7_sumOf, 2, (some .int))
set_option maxRecDepth 40000 in
theorem cw_X7_sumOf : Cond.code yX7_sumOf cX7_sumOf 2 (some .int) ∈ WS := (WS_mem (List.mem_of_getElem? (i := 1042) rfl) rfl)
theorem mv_X7_sumOf : MV mX7_sumOf RX7 1 := ⟨(WS_mem (List.mem_of_getElem? (i := 1041) (by decide +kernel)) (by decide +kernel)), (WS_mem (List.mem_of_getElem? (i := 50) (by decide +kernel)) (by decide +kernel)), (WS_mem (List.mem_of_getElem? (i := 83) (by decide +kernel)) (by decide +kernel)), cw_X7_sumOf, ⟨by decide +kernel, by decide +kernel, by decide +kernel⟩, by decide⟩
abbrev mX7_many : MI := (yX7_many, cX7_many, 3, (some .int))
set_option maxRecDepth 40000 in
theorem cw_X7_many : Cond.code yX7_many cX7_many 3 (some .int) ∈ WS := (WS_mem (List.mem_of_getElem? (i := 1045) rfl) rfl)
theorem ms_X7_many : MS mX7_many 1 := ⟨(WS_mem (List.mem_of_getElem? (i := 1044) (by decide +kernel)) (by decide +kernel)), (WS_mem (List.mem_of_getElem? (i := 83) (by decide +kernel)) (by decide +kernel)), cw_X7_many, ⟨by decide +kernel, by decide +kernel, by decide +kernel⟩, by decide⟩
abbrev mX7_countMany : MI := (yX7_countMany, cX7_countMany, 3, (some .int))
set_option maxRecDepth 40000 in
theorem cw_X7_countMany : Cond.code yX7_countMany cX7_countMany 3 (some .int) ∈ WS := (WS_mem (List.mem_of_getElem? (i := 1049) rfl) rfl)
theorem mv_X7_countMany : MV mX7_countMany RX7 0 := ⟨(WS_mem (List.mem_of_getElem? (i := 1048) (by decide +kernel)) (by decide +kernel)), (WS_mem (List.mem_of_getElem? (i := 51) (by decide +kernel)) (by decide +kernel)), (WS_mem (List.mem_of_getElem? (i := 83) (by decide +kernel)) (by decide +kernel)), cw_X7_countMany, ⟨by decide +kernel, by decide +kernel, by decide +kernel⟩, by decide⟩
abbrev mX7_menOf : MI := (yX7_menOf, cX7_menOf, 4, (some .int))
set_option maxRecDepth 40000 in
theorem cw_X7_menOf : Cond.code yX7_menOf cX7_menOf 4 (some .int) ∈ WS := (WS_mem (List.mem_of_getElem? (i := 1053) rfl) rfl)
theorem mv_X7_menOf : MV mX7_menOf RX7 1 := ⟨(WS_mem (List.mem_of_getElem? (i := 1052) (by decide +kernel)) (by decide +kernel)), (WS_mem (List.mem_of_getElem? (i := 52) (by decide +kernel)) (by decide +kernel)), (WS_mem (List.mem_of_getElem? (i := 83) (by decide +kernel)) (by decide +kernel)), cw_X7_menOf, ⟨by decide +kernel, by decide +kernel, by decide +kernel⟩, by decide⟩
abbrev mX7_liar : MI := (yX7_liar, cX7_liar, 1, (some .int))
set_option maxRecDepth 40000 in
theorem cw_X7_liar : Cond.code yX7_liar cX7_liar 1 (some .int) ∈ WS := (WS_mem (List.mem_of_getElem? (i := 1057) rfl) rfl)
theorem mv_X7_liar : MV mX7_liar RX7 0 := ⟨(WS_mem (List.mem_of_getElem? (i := 1055) (by decide +kernel)) (by decide +kernel)), (WS_mem (List.mem_of_getElem? (i := 1056) (by decide +kernel)) (by decide +kernel)), (WS_mem (List.mem_of_getElem? (i := 83) (by decide +kernel)) (by decide +kernel)), cw_X7_liar, ⟨by decide +kernel, by decide +kernel, by decide +kernel⟩, by decide⟩
abbrev mX7_liarOf : MI := (yX7_liarOf, cX7_liarOf, 6, (some .int))
set_option maxRecDepth 40000 in
theorem cw_X7_liarOf : Cond.code yX7_liarOf cX7_liarOf 6 (some .int) ∈ WS := (WS_mem (List.mem_of_getElem? (i := 1061) rfl) rfl)
theorem mv_X7_liarOf : MV mX7_liarOf RX7 0 := ⟨(WS_mem (List.mem_of_getElem? (i := 1060) (by decide +kernel)) (by decide +kernel)), (WS_mem (List.mem_of_getElem? (i := 53) (by decide +kernel)) (by decide +kernel)), (WS_mem (List.mem_of_getElem? (i := 83) (by decide +kernel)) (by decide +kernel)), cw_X7_liarOf, ⟨by decide +kernel, by decide +kernel, by decide +kernel⟩, by decide⟩
abbrev mX7_best : MI := (yX7_best, cX7_best, 1, (some .int))
set_option maxRecDepth 40000 in
theorem cw_X7_best : Cond.code yX7_best cX7_best 1 (some .int) ∈ WS := (WS_mem (List.mem_of_getElem? (i := 1065) rfl) rfl)
theorem mv_X7_best : MV mX7_best RX7 0 := ⟨(WS_mem (List.mem_of_getElem? (i := 1063) (by decide +kernel)) (by decide +kernel)), (WS_mem (List.mem_of_getElem? (i := 1064) (by decide +kernel)) (by decide +kernel)), (WS_mem (List.mem_of_getElem? (i := 83) (by decide +kernel)) (by decide +kernel)), cw_X7_best, ⟨by decide +kernel, by decide +kernel, by decide +kernel⟩, by decide⟩
abbrev mX7_bestOf : MI := (yX7_bestOf, cX7_bestOf, 6, (some .int))
set_option maxRecDepth 40000 in
theorem cw_X7_bestOf : Cond.code yX7_bestOf cX7_bestOf 6 (some .int) ∈ WS := (WS_mem (List.mem_of_getElem? (i := 1069) rfl) rfl)
theorem mv_X7_bestOf : MV mX7_bestOf RX7 0 := ⟨(WS_mem (List.mem_of_getElem? (i := 1068) (by decide +kernel)) (by decide +kernel)), (WS_mem (List.mem_of_getElem? (i := 54) (by decide +kernel)) (by decide +kernel)), (WS_mem (List.mem_of_getElem? (i := 83) (by decide +kernel)) (by decide +kernel)), cw_X7_bestOf, ⟨by decide +kernel, by decide +kernel, by decide +kernel⟩, by decide⟩
abbrev mX7_where : MI := (yX7_where, cX7_where, 2, (some .int))
set_option maxRecDepth 40000 in
theorem cw_X7_where : Cond.code yX7_where cX7_where 2 (some .int) ∈ WS := (WS_mem (List.mem_of_getElem? (i := 1073) rfl) rfl)
theorem mv_X7_where : MV mX7_where RX7 1 := ⟨(WS_mem (List.mem_of_getElem? (i := 1071) (by decide +kernel)) (by decide +kernel)), (WS_mem (List.mem_of_getElem? (i := 1072) (by decide +kernel)) (by decide +kernel)), (WS_mem (List.mem_of_getElem? (i := 83) (by decide +kernel)) (by decide +kernel)), cw_X7_where, ⟨by decide +kernel, by decide +kernel, by decide +kernel⟩, by decide⟩
abbrev mX7_whereOf : MI := (yX7_whereOf, cX7_whereOf, 4, (some .int))
set_option maxRecDepth 40000 in
theorem cw_X7_whereOf : Cond.code yX7_whereOf cX7_whereOf 4 (some .int) ∈ WS := (WS_mem (List.mem_of_getElem? (i := 1077) rfl) rfl)
theorem mv_X7_whereOf : MV mX7_whereOf RX7 1 := ⟨(WS_mem (List.mem_of_getElem? (i := 1076) (by decide +kernel)) (by decide +kernel)), (WS_mem (List.mem_of_getElem? (i := 55) (by decide +kernel)) (by decide +kernel)), (WS_mem (List.mem_of_getElem? (i := 83) (by decide +kernel)) (by decide +kernel)), cw_X7_whereOf, ⟨by decide +kernel, by decide +kernel, by decide +kernel⟩, by decide⟩
abbrev mX7_spread : MI := (yX7_spread, cX7_spread, 1, (some .int))
set_option maxRecDepth 40000 in
theorem cw_X7_spread : Cond.code yX7_spread cX7_spread 1 (some .int) ∈ WS := (WS_mem (List.mem_of_getElem? (i := 1080) rfl) rfl)
theorem ms_X7_spread : MS mX7_spread 1 := ⟨(WS_mem (List.mem_of_getElem? (i := 1079) (by decide +kernel)) (by decide +kernel)), (WS_mem (List.mem_of_getElem? (i := 83) (by decide +kernel)) (by decide +kernel)), cw_X7_spread, ⟨by decide +kernel, by decide +kernel, by decide +kernel⟩, by decide⟩
abbrev mX7_move : MI := (yX7_move, cX7_move, 3, (some .int))
set_option maxRecDepth 40000 in
theorem cw_X7_move : Cond.code yX7_move cX7_move 3 (some .int) ∈ WS := (WS_mem (List.mem_of_getElem? (i := 1084) rfl) rfl)
theorem mv_X7_move : MV mX7_move RX7 2 := ⟨(WS_mem (List.mem_of_getElem? (i := 1082) (by decide +kernel)) (by decide +kernel)), (WS_mem (List.mem_of_getElem? (i := 1083) (by decide +kernel)) (by decide +kernel)), (WS_mem (List.mem_of_getElem? (i := 83) (by decide +kernel)) (by decide +kernel)), cw_X7_move, ⟨by decide +kernel, by decide +kernel, by decide +kernel⟩, by decide⟩
abbrev mX7_moveOf : MI := (yX7_moveOf, cX7_moveOf, 4, (some .int))
set_option maxRecDepth 40000 in
theorem cw_X7_moveOf : Cond.code yX7_moveOf cX7_moveOf 4 (some .int) ∈ WS := (WS_mem (List.mem_of_getElem? (i := 1088) rfl) rfl)
theorem mv_X7_moveOf : MV mX7_moveOf RX7 2 := ⟨(WS_mem (List.mem_of_getElem? (i := 1087) (by decide +kernel)) (by decide +kernel)), (WS_mem (List.mem_of_getElem? (i := 56) (by decide +kernel)) (by decide +kernel)), (WS_mem (List.mem_of_getElem? (i := 83) (by decide +kernel)) (by decide +kernel)), cw_X7_moveOf, ⟨by decide +kernel, by decide +kernel, by decide +kernel⟩, by decide⟩
abbrev mX7_starts : MI := (yX7_starts, cX7_starts, 1, none)
set_option maxRecDepth 40000 in
theorem cw_X7_starts : Cond.code yX7_starts cX7_starts 1 none ∈ WS := (WS_mem (List.mem_of_getElem? (i := 1092) rfl) rfl)
theorem mv_X7_starts : MV mX7_starts RX7 0 := ⟨(WS_mem (List.mem_of_getElem? (i := 1091) (by decide +kernel)) (by decide +kernel)), (WS_mem (List.mem_of_getElem? (i := 57) (by decide +kernel)) (by decide +kernel)), (WS_mem (List.mem_of_getElem? (i := 83) (by decide +kernel)) (by decide +kernel)), cw_X7_starts, ⟨by decide +kernel, by decide +kernel, by decide +kernel⟩, by decide⟩
abbrev mX7_tries : MI := (yX7_tries, cX7_tries, 3, none)
set_option maxRecDepth 40000 in
theorem cw_X7_tries : Cond.code yX7_tries cX7_tries 3 none ∈ WS := (WS_mem (List.mem_of_getElem? (i := 1096) rfl) rfl)
theorem mv_X7_tries : MV mX7_tries RX7 1 := ⟨(WS_mem (List.mem_of_getElem? (i := 1095) (by decide +kernel)) (by decide +kernel)), (WS_mem (List.mem_of_getElem? (i := 58) (by decide +kernel)) (by decide +kernel)), (WS_mem (List.mem_of_getElem? (i := 83) (by decide +kernel)) (by decide +kernel)), cw_X7_tries, ⟨by decide +kernel, by decide +kernel, by decide +kernel⟩, by decide⟩
abbrev mX7_drop : MI := (yX7_drop, cX7_drop, 2, (some .int))
set_option maxRecDepth 40000 in
theorem cw_X7_drop : Cond.code yX7_drop cX7_drop 2 (some .int) ∈ WS := (WS_mem (List.mem_of_getElem? (i := 1100) rfl) rfl)
theorem mv_X7_drop : MV mX7_drop RX7 1 := ⟨(WS_mem (List.mem_of_getElem? (i := 1098) (by decide +kernel)) (by decide +kernel)), (WS_mem (List.mem_of_getElem? (i := 1099) (by decide +kernel)) (by decide +kernel)), (WS_mem (List.mem_of_getElem? (i := 83) (by decide +kernel)) (by decide +kernel)), cw_X7_drop, ⟨by decide +kernel, by decide +kernel, by decide +kernel⟩, by decide⟩
abbrev mX7_dropOf : MI := (yX7_dropOf, cX7_dropOf, 3, (some .int))
set_option maxRecDepth 40000 in
theorem cw_X7_dropOf : Cond.code yX7_dropOf cX7_dropOf 3 (some .int) ∈ WS := (WS_mem (List.mem_of_getElem? (i := 1104) rfl) rfl)
theorem mv_X7_dropOf : MV mX7_dropOf RX7 1 := ⟨(WS_mem (List.mem_of_getElem? (i := 1103) (by decide +kernel)) (by decide +kernel)), (WS_mem (List.mem_of_getElem? (i := 59) (by decide +kernel)) (by decide +kernel)), (WS_mem (List.mem_of_getElem? (i := 83) (by decide +kernel)) (by decide +kernel)), cw_X7_dropOf, ⟨by decide +kernel, by decide +kernel, by decide +kernel⟩, by decide⟩
abbrev mX7_clean : MI := (yX7_clean, cX7_clean, 2, (some .int))
set_option maxRecDepth 40000 in
theorem cw_X7_clean : Cond.code yX7_clean cX7_clean 2 (some .int) ∈ WS := (WS_mem (List.mem_of_getElem? (i := 1108) rfl) rfl)
theorem mv_X7_clean : MV mX7_clean RX7 1 := ⟨(WS_mem (List.mem_of_getElem? (i := 1106) (by decide +kernel)) (by decide +kernel)), (WS_mem (List.mem_of_getElem? (i := 1107) (by decide +kernel)) (by decide +kernel)), (WS_mem (List.mem_of_getElem? (i := 83) (by decide +kernel)) (by decide +kernel)), cw_X7_clean, ⟨by decide +kernel, by decide +kernel, by decide +kernel⟩, by decide⟩
abbrev mX7_cleanOf : MI := (yX7_cleanOf, cX7_cleanOf, 7, (some .int))
set_option maxRecDepth 40000 in
theorem cw_X7_cleanOf : Cond.code yX7_cleanOf cX7_cleanOf 7 (some .int) ∈ WS := (WS_mem (List.mem_of_getElem? (i := 1112) rfl) rfl)
theorem mv_X7_cleanOf : MV mX7_cleanOf RX7 1 := ⟨(WS_mem (List.mem_of_getElem? (i := 1111) (by decide +kernel)) (by decide +kernel)), (WS_mem (List.mem_of_getElem? (i := 60) (by decide +kernel)) (by decide +kernel)), (WS_mem (List.mem_of_getElem? (i := 83) (by decide +kernel)) (by decide +kernel)), cw_X7_cleanOf, ⟨by decide +kernel, by decide +kernel, by decide +kernel⟩, by decide⟩
abbrev mX7_spare : MI := (yX7_spare, cX7_spare, 2, (some .int))
set_option maxRecDepth 40000 in
theorem cw_X7_spare : Cond.code yX7_spare cX7_spare 2 (some .int) ∈ WS := (WS_mem (List.mem_of_getElem? (i := 1116) rfl) rfl)
theorem mv_X7_spare : MV mX7_spare RX7 1 := ⟨(WS_mem (List.mem_of_getElem? (i := 1114) (by decide +kernel)) (by decide +kernel)), (WS_mem (List.mem_of_getElem? (i := 1115) (by decide +kernel)) (by decide +kernel)), (WS_mem (List.mem_of_getElem? (i := 83) (by decide +kernel)) (by decide +kernel)), cw_X7_spare, ⟨by decide +kernel, by decide +kernel, by decide +kernel⟩, by decide⟩
abbrev mX7_spareBy : MI := (yX7_spareBy, cX7_spareBy, 3, (some .int))
set_option maxRecDepth 40000 in
theorem cw_X7_spareBy : Cond.code yX7_spareBy cX7_spareBy 3 (some .int) ∈ WS := (WS_mem (List.mem_of_getElem? (i := 1120) rfl) rfl)
theorem mv_X7_spareBy : MV mX7_spareBy RX7 0 := ⟨(WS_mem (List.mem_of_getElem? (i := 1119) (by decide +kernel)) (by decide +kernel)), (WS_mem (List.mem_of_getElem? (i := 61) (by decide +kernel)) (by decide +kernel)), (WS_mem (List.mem_of_getElem? (i := 83) (by decide +kernel)) (by decide +kernel)), cw_X7_spareBy, ⟨by decide +kernel, by decide +kernel, by decide +kernel⟩, by decide⟩
abbrev mX7_isSpared : MI := (yX7_isSpared, cX7_isSpared, 2, (some .boolean))
set_option maxRecDepth 40000 in
theorem cw_X7_isSpared : Cond.code yX7_isSpared cX7_isSpared 2 (some .boolean) ∈ WS := (WS_mem (List.mem_of_getElem? (i := 1124) rfl) rfl)
theorem mv_X7_isSpared : MV mX7_isSpared RX7 1 := ⟨(WS_mem (List.mem_of_getElem? (i := 1123) (by decide +kernel)) (by decide +kernel)), (WS_mem (List.mem_of_getElem? (i := 62) (by decide +kernel)) (by decide +kernel)), (WS_mem (List.mem_of_getElem? (i := 83) (by decide +kernel)) (by decide +kernel)), cw_X7_isSpared, ⟨by decide +kernel, by decide +kernel, by decide +kernel⟩, by decide⟩
abbrev mX7_ofRow : MI := (yX7_ofRow, cX7_ofRow, 3, (some .int))
set_option maxRecDepth 40000 in
theorem cw_X7_ofRow : Cond.code yX7_ofRow cX7_ofRow 3 (some .int) ∈ WS := (WS_mem (List.mem_of_getElem? (i := 1128) rfl) rfl)
theorem mv_X7_ofRow : MV mX7_ofRow RX7 2 := ⟨(WS_mem (List.mem_of_getElem? (i := 1127) (by decide +kernel)) (by decide +kernel)), (WS_mem (List.mem_of_getElem? (i := 63) (by decide +kernel)) (by decide +kernel)), (WS_mem (List.mem_of_getElem? (i := 83) (by decide +kernel)) (by decide +kernel)), cw_X7_ofRow, ⟨by decide +kernel, by decide +kernel, by decide +kernel⟩, by decide⟩
abbrev mX7_seen : MI := (yX7_seen, cX7_seen, 3, (some .int))
set_option maxRecDepth 40000 in
theorem cw_X7_seen : Cond.code yX7_seen cX7_seen 3 (some .int) ∈ WS := (WS_mem (List.mem_of_getElem? (i := 1132) rfl) rfl)
theorem mv_X7_seen : MV mX7_seen RX7 2 := ⟨(WS_mem (List.mem_of_getElem? (i := 1130) (by decide +kernel)) (by decide +kernel)), (WS_mem (List.mem_of_getElem? (i := 1131) (by decide +kernel)) (by decide +kernel)), (WS_mem (List.mem_of_getElem? (i := 83) (by decide +kernel)) (by decide +kernel)), cw_X7_seen, ⟨by decide +kernel, by decide +kernel, by decide +kernel⟩, by decide⟩
abbrev mX7_forget : MI := (yX7_forget, cX7_forget, 2, (some .int))
set_option maxRecDepth 40000 in
theorem cw_X7_forget : Cond.code yX7_forget cX7_forget 2 (some .int) ∈ WS := (WS_mem (List.mem_of_getElem? (i := 1136) rfl) rfl)
theorem mv_X7_forget : MV mX7_forget RX7 0 := ⟨(WS_mem (List.mem_of_getElem? (i := 1134) (by decide +kernel)) (by decide +kernel)), (WS_mem (List.mem_of_getElem? (i := 1135) (by decide +kernel)) (by decide +kernel)), (WS_mem (List.mem_of_getElem? (i := 83) (by decide +kernel)) (by decide +kernel)), cw_X7_forget, ⟨by decide +kernel, by decide +kernel, by decide +kernel⟩, by decide⟩
abbrev mX7_never : MI := (yX7_never, cX7_never, 1, (some .int))
set_option maxRecDepth 40000 in
theorem cw_X7_never : Cond.code yX7_never cX7_never 1 (some .int) ∈ WS := (WS_mem (List.mem_of_getElem? (i := 1140) rfl) rfl)
theorem mv_X7_never : MV mX7_never RX7 0 := ⟨(WS_mem (List.mem_of_getElem? (i := 1138) (by decide +kernel)) (by decide +kernel)), (WS_mem (List.mem_of_getElem? (i := 1139) (by decide +kernel)) (by decide +kernel)), (WS_mem (List.mem_of_getElem? (i := 83) (by decide +kernel)) (by decide +kernel)), cw_X7_never, ⟨by decide +kernel, by decide +kernel, by decide +kernel⟩, by decide⟩
abbrev mX7_neverNow : MI := (yX7_neverNow, cX7_neverNow, 3, (some .int))
set_option maxRecDepth 40000 in
theorem cw_X7_neverNow : Cond.code yX7_neverNow cX7_neverNow 3 (some .int) ∈ WS := (WS_mem (List.mem_of_getElem? (i := 1144) rfl) rfl)
theorem mv_X7_neverNow : MV mX7_neverNow RX7 0 := ⟨(WS_mem (List.mem_of_getElem? (i := 1143) (by decide +kernel)) (by decide +kernel)), (WS_mem (List.mem_of_getElem? (i := 64) (by decide +kernel)) (by decide +kernel)), (WS_mem (List.mem_of_getElem? (i := 83) (by decide +kernel)) (by decide +kernel)), cw_X7_neverNow, ⟨by decide +kernel, by decide +kernel, by decide +kernel⟩, by decide⟩
abbrev mX7_isSeen : MI := (yX7_isSeen, cX7_isSeen, 3, (some .boolean))
set_option maxRecDepth 40000 in
theorem cw_X7_isSeen : Cond.code yX7_isSeen cX7_isSeen 3 (some .boolean) ∈ WS := (WS_mem (List.mem_of_getElem? (i := 1148) rfl) rfl)
theorem mv_X7_isSeen : MV mX7_isSeen RX7 0 := ⟨(WS_mem (List.mem_of_getElem? (i := 1147) (by decide +kernel)) (by decide +kernel)), (WS_mem (List.mem_of_getElem? (i := 65) (by decide +kernel)) (by decide +kernel)), (WS_mem (List.mem_of_getElem? (i := 83) (by decide +kernel)) (by decide +kernel)), cw_X7_isSeen, ⟨by decide +kernel, by decide +kernel, by decide +kernel⟩, by decide⟩
abbrev mX7_was : MI := (yX7_was, cX7_was, 3, (some .int))
set_option maxRecDepth 40000 in
theorem cw_X7_was : Cond.code yX7_was cX7_was 3 (some .int) ∈ WS := (WS_mem (List.mem_of_getElem? (i := 1152) rfl) rfl)
theorem mv_X7_was : MV mX7_was RX7 2 := ⟨(WS_mem (List.mem_of_getElem? (i := 1150) (by decide +kernel)) (by decide +kernel)), (WS_mem (List.mem_of_getElem? (i := 1151) (by decide +kernel)) (by decide +kernel)), (WS_mem (List.mem_of_getElem? (i := 83) (by decide +kernel)) (by decide +kernel)), cw_X7_was, ⟨by decide +kernel, by decide +kernel, by decide +kernel⟩, by decide⟩
abbrev mX7_whoseBy : MI := (yX7_whoseBy, cX7_whoseBy, 4, (some .int))
set_option maxRecDepth 40000 in
theorem cw_X7_whoseBy : Cond.code yX7_whoseBy cX7_whoseBy 4 (some .int) ∈ WS := (WS_mem (List.mem_of_getElem? (i := 1156) rfl) rfl)
theorem mv_X7_whoseBy : MV mX7_whoseBy RX7 1 := ⟨(WS_mem (List.mem_of_getElem? (i := 1155) (by decide +kernel)) (by decide +kernel)), (WS_mem (List.mem_of_getElem? (i := 66) (by decide +kernel)) (by decide +kernel)), (WS_mem (List.mem_of_getElem? (i := 83) (by decide +kernel)) (by decide +kernel)), cw_X7_whoseBy, ⟨by decide +kernel, by decide +kernel, by decide +kernel⟩, by decide⟩
abbrev mX7_sortsBy : MI := (yX7_sortsBy, cX7_sortsBy, 4, (some .int))
set_option maxRecDepth 40000 in
theorem cw_X7_sortsBy : Cond.code yX7_sortsBy cX7_sortsBy 4 (some .int) ∈ WS := (WS_mem (List.mem_of_getElem? (i := 1160) rfl) rfl)
theorem mv_X7_sortsBy : MV mX7_sortsBy RX7 1 := ⟨(WS_mem (List.mem_of_getElem? (i := 1159) (by decide +kernel)) (by decide +kernel)), (WS_mem (List.mem_of_getElem? (i := 67) (by decide +kernel)) (by decide +kernel)), (WS_mem (List.mem_of_getElem? (i := 83) (by decide +kernel)) (by decide +kernel)), cw_X7_sortsBy, ⟨by decide +kernel, by decide +kernel, by decide +kernel⟩, by decide⟩
abbrev mX7_ask : MI := (yX7_ask, cX7_ask, 2, (some .int))
set_option maxRecDepth 40000 in
theorem cw_X7_ask : Cond.code yX7_ask cX7_ask 2 (some .int) ∈ WS := (WS_mem (List.mem_of_getElem? (i := 1164) rfl) rfl)
theorem mv_X7_ask : MV mX7_ask RX7 1 := ⟨(WS_mem (List.mem_of_getElem? (i := 1162) (by decide +kernel)) (by decide +kernel)), (WS_mem (List.mem_of_getElem? (i := 1163) (by decide +kernel)) (by decide +kernel)), (WS_mem (List.mem_of_getElem? (i := 83) (by decide +kernel)) (by decide +kernel)), cw_X7_ask, ⟨by decide +kernel, by decide +kernel, by decide +kernel⟩, by decide⟩
abbrev mX7_askOf : MI := (yX7_askOf, cX7_askOf, 10, (some .int))
set_option maxRecDepth 40000 in
theorem cw_X7_askOf : Cond.code yX7_askOf cX7_askOf 10 (some .int) ∈ WS := (WS_mem (List.mem_of_getElem? (i := 1168) rfl) rfl)
theorem mv_X7_askOf : MV mX7_askOf RX7 1 := ⟨(WS_mem (List.mem_of_getElem? (i := 1167) (by decide +kernel)) (by decide +kernel)), (WS_mem (List.mem_of_getElem? (i := 68) (by decide +kernel)) (by decide +kernel)), (WS_mem (List.mem_of_getElem? (i := 83) (by decide +kernel)) (by decide +kernel)), cw_X7_askOf, ⟨by decide +kernel, by decide +kernel, by decide +kernel⟩, by decide⟩
abbrev mX7_chance : MI := (yX7_chance, cX7_chance, 4, (some .long))
set_option maxRecDepth 40000 in
theorem cw_X7_chance : Cond.code yX7_chance cX7_chance 4 (some .long) ∈ WS := (WS_mem (List.mem_of_getElem? (i := 1172) rfl) rfl)
theorem mv_X7_chance : MV mX7_chance RX7 3 := ⟨(WS_mem (List.mem_of_getElem? (i := 1170) (by decide +kernel)) (by decide +kernel)), (WS_mem (List.mem_of_getElem? (i := 1171) (by decide +kernel)) (by decide +kernel)), (WS_mem (List.mem_of_getElem? (i := 83) (by decide +kernel)) (by decide +kernel)), cw_X7_chance, ⟨by decide +kernel, by decide +kernel, by decide +kernel⟩, by decide⟩
abbrev mX7_chanceOf : MI := (yX7_chanceOf, cX7_chanceOf, 10, (some .long))
set_option maxRecDepth 40000 in
theorem cw_X7_chanceOf : Cond.code yX7_chanceOf cX7_chanceOf 10 (some .long) ∈ WS := (WS_mem (List.mem_of_getElem? (i := 1176) rfl) rfl)
theorem mv_X7_chanceOf : MV mX7_chanceOf RX7 3 := ⟨(WS_mem (List.mem_of_getElem? (i := 1175) (by decide +kernel)) (by decide +kernel)), (WS_mem (List.mem_of_getElem? (i := 69) (by decide +kernel)) (by decide +kernel)), (WS_mem (List.mem_of_getElem? (i := 83) (by decide +kernel)) (by decide +kernel)), cw_X7_chanceOf, ⟨by decide +kernel, by decide +kernel, by decide +kernel⟩, by decide⟩
abbrev mX7_lowest : MI := (yX7_lowest, cX7_lowest, 11, (some .long))
set_option maxRecDepth 40000 in
theorem cw_X7_lowest : Cond.code yX7_lowest cX7_lowest 11 (some .long) ∈ WS := (WS_mem (List.mem_of_getElem? (i := 1179) rfl) rfl)
theorem ms_X7_lowest : MS mX7_lowest 3 := ⟨(WS_mem (List.mem_of_getElem? (i := 1178) (by decide +kernel)) (by decide +kernel)), (WS_mem (List.mem_of_getElem? (i := 83) (by decide +kernel)) (by decide +kernel)), cw_X7_lowest, ⟨by decide +kernel, by decide +kernel, by decide +kernel⟩, by decide⟩
abbrev mX7_no : MI := (yX7_no, cX7_no, 1, (some .long))
set_option maxRecDepth 40000 in
theorem cw_X7_no : Cond.code yX7_no cX7_no 1 (some .long) ∈ WS := (WS_mem (List.mem_of_getElem? (i := 1182) rfl) rfl)
theorem ms_X7_no : MS mX7_no 1 := ⟨(WS_mem (List.mem_of_getElem? (i := 1181) (by decide +kernel)) (by decide +kernel)), (WS_mem (List.mem_of_getElem? (i := 83) (by decide +kernel)) (by decide +kernel)), cw_X7_no, ⟨by decide +kernel, by decide +kernel, by decide +kernel⟩, by decide⟩
abbrev mX7_lives : MI := (yX7_lives, cX7_lives, 4, (some .int))
set_option maxRecDepth 40000 in
theorem cw_X7_lives : Cond.code yX7_lives cX7_lives 4 (some .int) ∈ WS := (WS_mem (List.mem_of_getElem? (i := 1187) rfl) rfl)
theorem mv_X7_lives : MV mX7_lives RX7 3 := ⟨(WS_mem (List.mem_of_getElem? (i := 1185) (by decide +kernel)) (by decide +kernel)), (WS_mem (List.mem_of_getElem? (i := 1186) (by decide +kernel)) (by decide +kernel)), (WS_mem (List.mem_of_getElem? (i := 83) (by decide +kernel)) (by decide +kernel)), cw_X7_lives, ⟨by decide +kernel, by decide +kernel, by decide +kernel⟩, by decide⟩
abbrev mX7_livesOf : MI := (yX7_livesOf, cX7_livesOf, 6, (some .int))
set_option maxRecDepth 40000 in
theorem cw_X7_livesOf : Cond.code yX7_livesOf cX7_livesOf 6 (some .int) ∈ WS := (WS_mem (List.mem_of_getElem? (i := 1191) rfl) rfl)
theorem mv_X7_livesOf : MV mX7_livesOf RX7 3 := ⟨(WS_mem (List.mem_of_getElem? (i := 1190) (by decide +kernel)) (by decide +kernel)), (WS_mem (List.mem_of_getElem? (i := 70) (by decide +kernel)) (by decide +kernel)), (WS_mem (List.mem_of_getElem? (i := 83) (by decide +kernel)) (by decide +kernel)), cw_X7_livesOf, ⟨by decide +kernel, by decide +kernel, by decide +kernel⟩, by decide⟩
abbrev mX7_sheet : MI := (yX7_sheet, cX7_sheet, 5, (some .int))
set_option maxRecDepth 40000 in
theorem cw_X7_sheet : Cond.code yX7_sheet cX7_sheet 5 (some .int) ∈ WS := (WS_mem (List.mem_of_getElem? (i := 1196) rfl) rfl)
theorem mv_X7_sheet : MV mX7_sheet RX7 3 := ⟨(WS_mem (List.mem_of_getElem? (i := 1194) (by decide +kernel)) (by decide +kernel)), (WS_mem (List.mem_of_getElem? (i := 1195) (by decide +kernel)) (by decide +kernel)), (WS_mem (List.mem_of_getElem? (i := 83) (by decide +kernel)) (by decide +kernel)), cw_X7_sheet, ⟨by decide +kernel, by decide +kernel, by decide +kernel⟩, by decide⟩
abbrev mX7_lose : MI := (yX7_lose, cX7_lose, 2, (some .int))
set_option maxRecDepth 40000 in
theorem cw_X7_lose : Cond.code yX7_lose cX7_lose 2 (some .int) ∈ WS := (WS_mem (List.mem_of_getElem? (i := 1200) rfl) rfl)
theorem mv_X7_lose : MV mX7_lose RX7 1 := ⟨(WS_mem (List.mem_of_getElem? (i := 1198) (by decide +kernel)) (by decide +kernel)), (WS_mem (List.mem_of_getElem? (i := 1199) (by decide +kernel)) (by decide +kernel)), (WS_mem (List.mem_of_getElem? (i := 83) (by decide +kernel)) (by decide +kernel)), cw_X7_lose, ⟨by decide +kernel, by decide +kernel, by decide +kernel⟩, by decide⟩
abbrev mX7_put : MI := (yX7_put, cX7_put, 6, (some .int))
set_option maxRecDepth 40000 in
theorem cw_X7_put : Cond.code yX7_put cX7_put 6 (some .int) ∈ WS := (WS_mem (List.mem_of_getElem? (i := 1204) rfl) rfl)
theorem mv_X7_put : MV mX7_put RX7 4 := ⟨(WS_mem (List.mem_of_getElem? (i := 1202) (by decide +kernel)) (by decide +kernel)), (WS_mem (List.mem_of_getElem? (i := 1203) (by decide +kernel)) (by decide +kernel)), (WS_mem (List.mem_of_getElem? (i := 83) (by decide +kernel)) (by decide +kernel)), cw_X7_put, ⟨by decide +kernel, by decide +kernel, by decide +kernel⟩, by decide⟩
abbrev mX7_lacks : MI := (yX7_lacks, cX7_lacks, 4, (some .int))
set_option maxRecDepth 40000 in
theorem cw_X7_lacks : Cond.code yX7_lacks cX7_lacks 4 (some .int) ∈ WS := (WS_mem (List.mem_of_getElem? (i := 1208) rfl) rfl)
theorem mv_X7_lacks : MV mX7_lacks RX7 3 := ⟨(WS_mem (List.mem_of_getElem? (i := 1207) (by decide +kernel)) (by decide +kernel)), (WS_mem (List.mem_of_getElem? (i := 71) (by decide +kernel)) (by decide +kernel)), (WS_mem (List.mem_of_getElem? (i := 83) (by decide +kernel)) (by decide +kernel)), cw_X7_lacks, ⟨by decide +kernel, by decide +kernel, by decide +kernel⟩, by decide⟩
abbrev mX7_keep : MI := (yX7_keep, cX7_keep, 4, none)
set_option maxRecDepth 40000 in
theorem cw_X7_keep : Cond.code yX7_keep cX7_keep 4 none ∈ WS := (WS_mem (List.mem_of_getElem? (i := 1212) rfl) rfl)
theorem mv_X7_keep : MV mX7_keep RX7 3 := ⟨(WS_mem (List.mem_of_getElem? (i := 1211) (by decide +kernel)) (by decide +kernel)), (WS_mem (List.mem_of_getElem? (i := 72) (by decide +kernel)) (by decide +kernel)), (WS_mem (List.mem_of_getElem? (i := 83) (by decide +kernel)) (by decide +kernel)), cw_X7_keep, ⟨by decide +kernel, by decide +kernel, by decide +kernel⟩, by decide⟩
abbrev mX7_get : MI := (yX7_get, cX7_get, 5, (some .int))
set_option maxRecDepth 40000 in
theorem cw_X7_get : Cond.code yX7_get cX7_get 5 (some .int) ∈ WS := (WS_mem (List.mem_of_getElem? (i := 1216) rfl) rfl)
theorem mv_X7_get : MV mX7_get RX7 3 := ⟨(WS_mem (List.mem_of_getElem? (i := 1214) (by decide +kernel)) (by decide +kernel)), (WS_mem (List.mem_of_getElem? (i := 1215) (by decide +kernel)) (by decide +kernel)), (WS_mem (List.mem_of_getElem? (i := 83) (by decide +kernel)) (by decide +kernel)), cw_X7_get, ⟨by decide +kernel, by decide +kernel, by decide +kernel⟩, by decide⟩
abbrev mX7_copy : MI := (yX7_copy, cX7_copy, 7, (some .int))
set_option maxRecDepth 40000 in
theorem cw_X7_copy : Cond.code yX7_copy cX7_copy 7 (some .int) ∈ WS := (WS_mem (List.mem_of_getElem? (i := 1220) rfl) rfl)
theorem mv_X7_copy : MV mX7_copy RX7 5 := ⟨(WS_mem (List.mem_of_getElem? (i := 1218) (by decide +kernel)) (by decide +kernel)), (WS_mem (List.mem_of_getElem? (i := 1219) (by decide +kernel)) (by decide +kernel)), (WS_mem (List.mem_of_getElem? (i := 83) (by decide +kernel)) (by decide +kernel)), cw_X7_copy, ⟨by decide +kernel, by decide +kernel, by decide +kernel⟩, by decide⟩
abbrev mX7_write : MI := (yX7_write, cX7_write, 4, (some .int))
set_option maxRecDepth 40000 in
theorem cw_X7_write : Cond.code yX7_write cX7_write 4 (some .int) ∈ WS := (WS_mem (List.mem_of_getElem? (i := 1224) rfl) rfl)
theorem mv_X7_write : MV mX7_write RX7 2 := ⟨(WS_mem (List.mem_of_getElem? (i := 1222) (by decide +kernel)) (by decide +kernel)), (WS_mem (List.mem_of_getElem? (i := 1223) (by decide +kernel)) (by decide +kernel)), (WS_mem (List.mem_of_getElem? (i := 83) (by decide +kernel)) (by decide +kernel)), cw_X7_write, ⟨by decide +kernel, by decide +kernel, by decide +kernel⟩, by decide⟩
abbrev mX7_count : MI := (yX7_count, cX7_count, 2, (some .int))
set_option maxRecDepth 40000 in
theorem cw_X7_count : Cond.code yX7_count cX7_count 2 (some .int) ∈ WS := (WS_mem (List.mem_of_getElem? (i := 1228) rfl) rfl)
theorem mv_X7_count : MV mX7_count RX7 1 := ⟨(WS_mem (List.mem_of_getElem? (i := 1226) (by decide +kernel)) (by decide +kernel)), (WS_mem (List.mem_of_getElem? (i := 1227) (by decide +kernel)) (by decide +kernel)), (WS_mem (List.mem_of_getElem? (i := 83) (by decide +kernel)) (by decide +kernel)), cw_X7_count, ⟨by decide +kernel, by decide +kernel, by decide +kernel⟩, by decide⟩
abbrev mX7_tellOf : MI := (yX7_tellOf, cX7_tellOf, 2, (some .int))
set_option maxRecDepth 40000 in
theorem cw_X7_tellOf : Cond.code yX7_tellOf cX7_tellOf 2 (some .int) ∈ WS := (WS_mem (List.mem_of_getElem? (i := 1232) rfl) rfl)
theorem mv_X7_tellOf : MV mX7_tellOf RX7 1 := ⟨(WS_mem (List.mem_of_getElem? (i := 1231) (by decide +kernel)) (by decide +kernel)), (WS_mem (List.mem_of_getElem? (i := 73) (by decide +kernel)) (by decide +kernel)), (WS_mem (List.mem_of_getElem? (i := 83) (by decide +kernel)) (by decide +kernel)), cw_X7_tellOf, ⟨by decide +kernel, by decide +kernel, by decide +kernel⟩, by decide⟩
abbrev mX7_digest : MI := (yX7_digest, cX7_digest, 4, (some .long))
set_option maxRecDepth 40000 in
theorem cw_X7_digest : Cond.code yX7_digest cX7_digest 4 (some .long) ∈ WS := (WS_mem (List.mem_of_getElem? (i := 1236) rfl) rfl)
theorem mv_X7_digest : MV mX7_digest RX7 0 := ⟨(WS_mem (List.mem_of_getElem? (i := 1234) (by decide +kernel)) (by decide +kernel)), (WS_mem (List.mem_of_getElem? (i := 1235) (by decide +kernel)) (by decide +kernel)), (WS_mem (List.mem_of_getElem? (i := 83) (by decide +kernel)) (by decide +kernel)), cw_X7_digest, ⟨by decide +kernel, by decide +kernel, by decide +kernel⟩, by decide⟩
abbrev mX7_taleDigest : MI := (yX7_taleDigest, cX7_taleDigest, 7, (some .long))
set_option maxRecDepth 40000 in
theorem cw_X7_taleDigest : Cond.code yX7_taleDigest cX7_taleDigest 7 (some .long) ∈ WS := (WS_mem (List.mem_of_getElem? (i := 1243) rfl) rfl)
theorem mv_X7_taleDigest : MV mX7_taleDigest RX7 2 := ⟨(WS_mem (List.mem_of_getElem? (i := 1242) (by decide +kernel)) (by decide +kernel)), (WS_mem (List.mem_of_getElem? (i := 74) (by decide +kernel)) (by decide +kernel)), (WS_mem (List.mem_of_getElem? (i := 83) (by decide +kernel)) (by decide +kernel)), cw_X7_taleDigest, ⟨by decide +kernel, by decide +kernel, by decide +kernel⟩, by decide⟩
abbrev mX7_chargeDigest : MI := (yX7_chargeDigest, cX7_chargeDigest, 6, (some .long))
set_option maxRecDepth 40000 in
theorem cw_X7_chargeDigest : Cond.code yX7_chargeDigest cX7_chargeDigest 6 (some .long) ∈ WS := (WS_mem (List.mem_of_getElem? (i := 1247) rfl) rfl)
theorem mv_X7_chargeDigest : MV mX7_chargeDigest RX7 2 := ⟨(WS_mem (List.mem_of_getElem? (i := 1246) (by decide +kernel)) (by decide +kernel)), (WS_mem (List.mem_of_getElem? (i := 75) (by decide +kernel)) (by decide +kernel)), (WS_mem (List.mem_of_getElem? (i := 83) (by decide +kernel)) (by decide +kernel)), cw_X7_chargeDigest, ⟨by decide +kernel, by decide +kernel, by decide +kernel⟩, by decide⟩
theorem ml_L_9 : Cond.methodLink RL 9 yX6_init ∈ WS := (WS_mem (List.mem_of_getElem? (i := 91) (by decide +kernel)) (by decide +kernel))
theorem ml_X6_11 : Cond.methodLink RX6 11 yX5_init ∈ WS := (WS_mem (List.mem_of_getElem? (i := 99) (by decide +kernel)) (by decide +kernel))
theorem ml_X6_47 : Cond.methodLink RX6 47 yX0_init ∈ WS := (WS_mem (List.mem_of_getElem? (i := 203) (by decide +kernel)) (by decide +kernel))
theorem ml_L_13 : Cond.methodLink RL 13 yX6_type ∈ WS := (WS_mem (List.mem_of_getElem? (i := 282) (by decide +kernel)) (by decide +kernel))
theorem ml_X6_84 : Cond.methodLink RX6 84 yX6_outside ∈ WS := (WS_mem (List.mem_of_getElem? (i := 286) (by decide +kernel)) (by decide +kernel))
theorem ml_X6_88 : Cond.methodLink RX6 88 yX6_textOf ∈ WS := (WS_mem (List.mem_of_getElem? (i := 289) (by decide +kernel)) (by decide +kernel))
theorem ml_X6_98 : Cond.methodLink RX6 98 yX6_tellAnew ∈ WS := (WS_mem (List.mem_of_getElem? (i := 293) (by decide +kernel)) (by decide +kernel))
theorem ml_X6_337 : Cond.methodLink RX6 337 yX4_takeFrom ∈ WS := (WS_mem (List.mem_of_getElem? (i := 297) (by decide +kernel)) (by decide +kernel))
theorem ml_X4_31 : Cond.methodLink RX4 31 yX5_hasFault ∈ WS := (WS_mem (List.mem_of_getElem? (i := 301) (by decide +kernel)) (by decide +kernel))
theorem ml_X5_26 : Cond.methodLink RX5 26 yX5_faultPlace ∈ WS := (WS_mem (List.mem_of_getElem? (i := 305) (by decide +kernel)) (by decide +kernel))
theorem ml_X5_22 : Cond.methodLink RX5 22 yX5_fits ∈ WS := (WS_mem (List.mem_of_getElem? (i := 309) (by decide +kernel)) (by decide +kernel))
theorem ml_X4_38 : Cond.methodLink RX4 38 yJ9_min_7cf53 ∈ WS := (WS_mem (List.mem_of_getElem? (i := 313) (by decide +kernel)) (by decide +kernel))
theorem ml_X6_341 : Cond.methodLink RX6 341 yX1_takeFrom ∈ WS := (WS_mem (List.mem_of_getElem? (i := 316) (by decide +kernel)) (by decide +kernel))
theorem ml_X1_22 : Cond.methodLink RX1 22 yX5_hasFault ∈ WS := (WS_mem (List.mem_of_getElem? (i := 320) (by decide +kernel)) (by decide +kernel))
theorem ml_X1_29 : Cond.methodLink RX1 29 yJ9_min_7cf53 ∈ WS := (WS_mem (List.mem_of_getElem? (i := 321) (by decide +kernel)) (by decide +kernel))
theorem ml_L_18 : Cond.methodLink RL 18 yX6_wipe ∈ WS := (WS_mem (List.mem_of_getElem? (i := 322) (by decide +kernel)) (by decide +kernel))
theorem ml_L_23 : Cond.methodLink RL 23 yX6_undo ∈ WS := (WS_mem (List.mem_of_getElem? (i := 326) (by decide +kernel)) (by decide +kernel))
theorem ml_L_27 : Cond.methodLink RL 27 yX6_fault ∈ WS := (WS_mem (List.mem_of_getElem? (i := 330) (by decide +kernel)) (by decide +kernel))
theorem ml_X6_101 : Cond.methodLink RX6 101 yX5_faultPlace ∈ WS := (WS_mem (List.mem_of_getElem? (i := 334) (by decide +kernel)) (by decide +kernel))
theorem ml_L_31 : Cond.methodLink RL 31 yX6_tale ∈ WS := (WS_mem (List.mem_of_getElem? (i := 335) (by decide +kernel)) (by decide +kernel))
theorem ml_L_35 : Cond.methodLink RL 35 yX6_charge ∈ WS := (WS_mem (List.mem_of_getElem? (i := 339) (by decide +kernel)) (by decide +kernel))
theorem ml_L_39 : Cond.methodLink RL 39 yX6_need ∈ WS := (WS_mem (List.mem_of_getElem? (i := 343) (by decide +kernel)) (by decide +kernel))
theorem ml_L_43 : Cond.methodLink RL 43 yX6_event ∈ WS := (WS_mem (List.mem_of_getElem? (i := 347) (by decide +kernel)) (by decide +kernel))
theorem ml_L_48 : Cond.methodLink RL 48 yX6_back ∈ WS := (WS_mem (List.mem_of_getElem? (i := 351) (by decide +kernel)) (by decide +kernel))
theorem ml_L_53 : Cond.methodLink RL 53 yX6_read ∈ WS := (WS_mem (List.mem_of_getElem? (i := 355) (by decide +kernel)) (by decide +kernel))
theorem ml_X6_129 : Cond.methodLink RX6 129 yX6_finding ∈ WS := (WS_mem (List.mem_of_getElem? (i := 359) (by decide +kernel)) (by decide +kernel))
theorem ml_X6_136 : Cond.methodLink RX6 136 yX6_event ∈ WS := (WS_mem (List.mem_of_getElem? (i := 363) (by decide +kernel)) (by decide +kernel))
theorem ml_L_57 : Cond.methodLink RL 57 yX6_clash ∈ WS := (WS_mem (List.mem_of_getElem? (i := 364) (by decide +kernel)) (by decide +kernel))
theorem ml_X6_140 : Cond.methodLink RX6 140 yX4_apart ∈ WS := (WS_mem (List.mem_of_getElem? (i := 368) (by decide +kernel)) (by decide +kernel))
theorem ml_X4_56 : Cond.methodLink RX4 56 yJ9_abs_0f7a4 ∈ WS := (WS_mem (List.mem_of_getElem? (i := 372) (by decide +kernel)) (by decide +kernel))
theorem ml_L_61 : Cond.methodLink RL 61 yX6_stands ∈ WS := (WS_mem (List.mem_of_getElem? (i := 375) (by decide +kernel)) (by decide +kernel))
theorem ml_X6_143 : Cond.methodLink RX6 143 yX6_hearAsTold ∈ WS := (WS_mem (List.mem_of_getElem? (i := 379) (by decide +kernel)) (by decide +kernel))
theorem ml_X6_175 : Cond.methodLink RX6 175 yX2_all ∈ WS := (WS_mem (List.mem_of_getElem? (i := 383) (by decide +kernel)) (by decide +kernel))
theorem ml_X6_342 : Cond.methodLink RX6 342 yX0_hear ∈ WS := (WS_mem (List.mem_of_getElem? (i := 387) (by decide +kernel)) (by decide +kernel))
theorem ml_X0_46 : Cond.methodLink RX0 46 yX0_spoiled ∈ WS := (WS_mem (List.mem_of_getElem? (i := 391) (by decide +kernel)) (by decide +kernel))
theorem ml_X0_50 : Cond.methodLink RX0 50 yX0_firstAgainst ∈ WS := (WS_mem (List.mem_of_getElem? (i := 395) (by decide +kernel)) (by decide +kernel))
theorem ml_X0_76 : Cond.methodLink RX0 76 yX4_apart ∈ WS := (WS_mem (List.mem_of_getElem? (i := 399) (by decide +kernel)) (by decide +kernel))
theorem ml_X0_54 : Cond.methodLink RX0 54 yJ7_fill_53178 ∈ WS := (WS_mem (List.mem_of_getElem? (i := 400) (by decide +kernel)) (by decide +kernel))
theorem ml_X0_60 : Cond.methodLink RX0 60 yX0_weigh ∈ WS := (WS_mem (List.mem_of_getElem? (i := 403) (by decide +kernel)) (by decide +kernel))
theorem ml_X0_83 : Cond.methodLink RX0 83 yX0_othersFor ∈ WS := (WS_mem (List.mem_of_getElem? (i := 407) (by decide +kernel)) (by decide +kernel))
theorem ml_X0_95 : Cond.methodLink RX0 95 yJ6_bitCount_0f7a4 ∈ WS := (WS_mem (List.mem_of_getElem? (i := 411) (by decide +kernel)) (by decide +kernel))
theorem kc_J6_265 : Cond.constant RJ6 265 (1431655765) ∈ WS := (WS_mem (List.mem_of_getElem? (i := 414) (by decide +kernel)) (by decide +kernel))
theorem kc_J6_266 : Cond.constant RJ6 266 (858993459) ∈ WS := (WS_mem (List.mem_of_getElem? (i := 415) (by decide +kernel)) (by decide +kernel))
theorem kc_J6_267 : Cond.constant RJ6 267 (252645135) ∈ WS := (WS_mem (List.mem_of_getElem? (i := 416) (by decide +kernel)) (by decide +kernel))
theorem ml_X0_86 : Cond.methodLink RX0 86 yJ9_min_7cf53 ∈ WS := (WS_mem (List.mem_of_getElem? (i := 417) (by decide +kernel)) (by decide +kernel))
theorem ml_X0_92 : Cond.methodLink RX0 92 yX0_fallenOf ∈ WS := (WS_mem (List.mem_of_getElem? (i := 418) (by decide +kernel)) (by decide +kernel))
theorem ml_X6_153 : Cond.methodLink RX6 153 yX0_firstAgainst ∈ WS := (WS_mem (List.mem_of_getElem? (i := 422) (by decide +kernel)) (by decide +kernel))
theorem ml_L_65 : Cond.methodLink RL 65 yX6_man ∈ WS := (WS_mem (List.mem_of_getElem? (i := 423) (by decide +kernel)) (by decide +kernel))
theorem ml_X6_156 : Cond.methodLink RX6 156 yX0_standing ∈ WS := (WS_mem (List.mem_of_getElem? (i := 427) (by decide +kernel)) (by decide +kernel))
theorem ml_X6_160 : Cond.methodLink RX6 160 yJ9_max_7cf53 ∈ WS := (WS_mem (List.mem_of_getElem? (i := 431) (by decide +kernel)) (by decide +kernel))
theorem ml_X6_165 : Cond.methodLink RX6 165 yX6_rankBy ∈ WS := (WS_mem (List.mem_of_getElem? (i := 434) (by decide +kernel)) (by decide +kernel))
theorem ml_L_69 : Cond.methodLink RL 69 yX6_belief ∈ WS := (WS_mem (List.mem_of_getElem? (i := 437) (by decide +kernel)) (by decide +kernel))
theorem kc_X6_168 : Cond.constant RX6 168 (-2147483648) ∈ WS := (WS_mem (List.mem_of_getElem? (i := 441) (by decide +kernel)) (by decide +kernel))
theorem ml_X6_169 : Cond.methodLink RX6 169 yX0_trust ∈ WS := (WS_mem (List.mem_of_getElem? (i := 442) (by decide +kernel)) (by decide +kernel))
theorem ml_X0_109 : Cond.methodLink RX0 109 yX0_support ∈ WS := (WS_mem (List.mem_of_getElem? (i := 446) (by decide +kernel)) (by decide +kernel))
theorem ml_X0_106 : Cond.methodLink RX0 106 yX0_weightIn ∈ WS := (WS_mem (List.mem_of_getElem? (i := 450) (by decide +kernel)) (by decide +kernel))
theorem ml_X0_100 : Cond.methodLink RX0 100 yX0_standing ∈ WS := (WS_mem (List.mem_of_getElem? (i := 454) (by decide +kernel)) (by decide +kernel))
theorem mn_X0_103 : Cond.methodLinkNest RX0 103 yX6_rankBy "SwornElsewhere" ∈ NWS := List.mem_of_getElem? (i := 0) rfl
theorem ml_X0_112 : Cond.methodLink RX0 112 yJ9_max_7cf53 ∈ WS := (WS_mem (List.mem_of_getElem? (i := 456) (by decide +kernel)) (by decide +kernel))
theorem ml_L_73 : Cond.methodLink RL 73 yX6_cleared ∈ WS := (WS_mem (List.mem_of_getElem? (i := 457) (by decide +kernel)) (by decide +kernel))
theorem ml_X6_172 : Cond.methodLink RX6 172 yX0_trustedTown ∈ WS := (WS_mem (List.mem_of_getElem? (i := 461) (by decide +kernel)) (by decide +kernel))
theorem ml_L_77 : Cond.methodLink RL 77 yX6_sum ∈ WS := (WS_mem (List.mem_of_getElem? (i := 465) (by decide +kernel)) (by decide +kernel))
theorem ml_X6_178 : Cond.methodLink RX6 178 yX6_clearedBits ∈ WS := (WS_mem (List.mem_of_getElem? (i := 469) (by decide +kernel)) (by decide +kernel))
theorem ml_X6_182 : Cond.methodLink RX6 182 yJ6_bitCount_0f7a4 ∈ WS := (WS_mem (List.mem_of_getElem? (i := 473) (by decide +kernel)) (by decide +kernel))
theorem ml_X6_190 : Cond.methodLink RX6 190 yX0_menOfRank ∈ WS := (WS_mem (List.mem_of_getElem? (i := 474) (by decide +kernel)) (by decide +kernel))
theorem ml_L_81 : Cond.methodLink RL 81 yX6_liar ∈ WS := (WS_mem (List.mem_of_getElem? (i := 478) (by decide +kernel)) (by decide +kernel))
theorem ml_X6_193 : Cond.methodLink RX6 193 yX0_fallenOf ∈ WS := (WS_mem (List.mem_of_getElem? (i := 482) (by decide +kernel)) (by decide +kernel))
theorem ml_L_85 : Cond.methodLink RL 85 yX6_best ∈ WS := (WS_mem (List.mem_of_getElem? (i := 483) (by decide +kernel)) (by decide +kernel))
theorem ml_L_89 : Cond.methodLink RL 89 yX6_where ∈ WS := (WS_mem (List.mem_of_getElem? (i := 487) (by decide +kernel)) (by decide +kernel))
theorem ml_X6_196 : Cond.methodLink RX6 196 yX0_swornTowns ∈ WS := (WS_mem (List.mem_of_getElem? (i := 491) (by decide +kernel)) (by decide +kernel))
theorem ml_X6_199 : Cond.methodLink RX6 199 yX6_reach ∈ WS := (WS_mem (List.mem_of_getElem? (i := 495) (by decide +kernel)) (by decide +kernel))
theorem ml_L_93 : Cond.methodLink RL 93 yX6_move ∈ WS := (WS_mem (List.mem_of_getElem? (i := 498) (by decide +kernel)) (by decide +kernel))
theorem ml_X6_202 : Cond.methodLink RX6 202 yX4_becomeLike ∈ WS := (WS_mem (List.mem_of_getElem? (i := 502) (by decide +kernel)) (by decide +kernel))
theorem ml_X4_47 : Cond.methodLink RX4 47 yX4_takeOver ∈ WS := (WS_mem (List.mem_of_getElem? (i := 506) (by decide +kernel)) (by decide +kernel))
theorem ml_L_97 : Cond.methodLink RL 97 yX6_drop ∈ WS := (WS_mem (List.mem_of_getElem? (i := 510) (by decide +kernel)) (by decide +kernel))
theorem ml_X6_206 : Cond.methodLink RX6 206 yX4_leaveOut ∈ WS := (WS_mem (List.mem_of_getElem? (i := 514) (by decide +kernel)) (by decide +kernel))
theorem ml_L_101 : Cond.methodLink RL 101 yX6_clean ∈ WS := (WS_mem (List.mem_of_getElem? (i := 518) (by decide +kernel)) (by decide +kernel))
theorem ml_X6_210 : Cond.methodLink RX6 210 yX4_together ∈ WS := (WS_mem (List.mem_of_getElem? (i := 522) (by decide +kernel)) (by decide +kernel))
theorem ml_X4_60 : Cond.methodLink RX4 60 yX4_apart ∈ WS := (WS_mem (List.mem_of_getElem? (i := 526) (by decide +kernel)) (by decide +kernel))
theorem ml_L_105 : Cond.methodLink RL 105 yX6_spare ∈ WS := (WS_mem (List.mem_of_getElem? (i := 527) (by decide +kernel)) (by decide +kernel))
theorem ml_X6_214 : Cond.methodLink RX6 214 yX6_sparedBits ∈ WS := (WS_mem (List.mem_of_getElem? (i := 531) (by decide +kernel)) (by decide +kernel))
theorem ml_X6_217 : Cond.methodLink RX6 217 yX6_nthBit ∈ WS := (WS_mem (List.mem_of_getElem? (i := 535) (by decide +kernel)) (by decide +kernel))
theorem ml_L_109 : Cond.methodLink RL 109 yX6_seen ∈ WS := (WS_mem (List.mem_of_getElem? (i := 538) (by decide +kernel)) (by decide +kernel))
theorem ml_L_113 : Cond.methodLink RL 113 yX6_forget ∈ WS := (WS_mem (List.mem_of_getElem? (i := 542) (by decide +kernel)) (by decide +kernel))
theorem ml_L_117 : Cond.methodLink RL 117 yX6_never ∈ WS := (WS_mem (List.mem_of_getElem? (i := 546) (by decide +kernel)) (by decide +kernel))
theorem ml_X6_220 : Cond.methodLink RX6 220 yX6_comesOutSo ∈ WS := (WS_mem (List.mem_of_getElem? (i := 550) (by decide +kernel)) (by decide +kernel))
theorem ml_L_121 : Cond.methodLink RL 121 yX6_was ∈ WS := (WS_mem (List.mem_of_getElem? (i := 554) (by decide +kernel)) (by decide +kernel))
theorem ml_L_125 : Cond.methodLink RL 125 yX6_ask ∈ WS := (WS_mem (List.mem_of_getElem? (i := 558) (by decide +kernel)) (by decide +kernel))
theorem ml_X6_223 : Cond.methodLink RX6 223 yJ7_fill_53178 ∈ WS := (WS_mem (List.mem_of_getElem? (i := 562) (by decide +kernel)) (by decide +kernel))
theorem ml_X6_229 : Cond.methodLink RX6 229 yX6_addToTally ∈ WS := (WS_mem (List.mem_of_getElem? (i := 563) (by decide +kernel)) (by decide +kernel))
theorem ml_L_129 : Cond.methodLink RL 129 yX6_chance ∈ WS := (WS_mem (List.mem_of_getElem? (i := 567) (by decide +kernel)) (by decide +kernel))
theorem kc_X6_232 : Cond.constantLong RX6 232 (-9223372036854775806) ∈ WS := (WS_mem (List.mem_of_getElem? (i := 571) (by decide +kernel)) (by decide +kernel))
theorem ml_X6_234 : Cond.methodLink RX6 234 yX6_tallyFavour ∈ WS := (WS_mem (List.mem_of_getElem? (i := 572) (by decide +kernel)) (by decide +kernel))
theorem ml_X6_346 : Cond.methodLink RX6 346 yJ7_fill_d0a16 ∈ WS := (WS_mem (List.mem_of_getElem? (i := 576) (by decide +kernel)) (by decide +kernel))
theorem ml_X6_349 : Cond.methodLink RX6 349 yX6_power ∈ WS := (WS_mem (List.mem_of_getElem? (i := 579) (by decide +kernel)) (by decide +kernel))
theorem ml_X6_237 : Cond.methodLink RX6 237 yX6_lowestTerm ∈ WS := (WS_mem (List.mem_of_getElem? (i := 582) (by decide +kernel)) (by decide +kernel))
theorem ml_L_134 : Cond.methodLink RL 134 yX6_lives ∈ WS := (WS_mem (List.mem_of_getElem? (i := 586) (by decide +kernel)) (by decide +kernel))
theorem ml_X6_241 : Cond.methodLink RX6 241 yX4_drawLots ∈ WS := (WS_mem (List.mem_of_getElem? (i := 590) (by decide +kernel)) (by decide +kernel))
theorem ml_X4_51 : Cond.methodLink RX4 51 yX4_nextLot ∈ WS := (WS_mem (List.mem_of_getElem? (i := 594) (by decide +kernel)) (by decide +kernel))
theorem kc_X4_55 : Cond.constant RX4 55 (1103515245) ∈ WS := (WS_mem (List.mem_of_getElem? (i := 598) (by decide +kernel)) (by decide +kernel))
theorem ml_L_138 : Cond.methodLink RL 138 yX6_sheet ∈ WS := (WS_mem (List.mem_of_getElem? (i := 599) (by decide +kernel)) (by decide +kernel))
theorem ml_X6_244 : Cond.methodLink RX6 244 yX3_init ∈ WS := (WS_mem (List.mem_of_getElem? (i := 604) (by decide +kernel)) (by decide +kernel))
theorem ml_L_142 : Cond.methodLink RL 142 yX6_lose ∈ WS := (WS_mem (List.mem_of_getElem? (i := 617) (by decide +kernel)) (by decide +kernel))
theorem ml_L_146 : Cond.methodLink RL 146 yX6_put ∈ WS := (WS_mem (List.mem_of_getElem? (i := 621) (by decide +kernel)) (by decide +kernel))
theorem ml_X6_248 : Cond.methodLink RX6 248 yX3_cut ∈ WS := (WS_mem (List.mem_of_getElem? (i := 625) (by decide +kernel)) (by decide +kernel))
theorem ml_L_151 : Cond.methodLink RL 151 yX6_get ∈ WS := (WS_mem (List.mem_of_getElem? (i := 629) (by decide +kernel)) (by decide +kernel))
theorem ml_X6_251 : Cond.methodLink RX6 251 yX6_findingAsLeast ∈ WS := (WS_mem (List.mem_of_getElem? (i := 633) (by decide +kernel)) (by decide +kernel))
theorem ml_L_155 : Cond.methodLink RL 155 yX6_copy ∈ WS := (WS_mem (List.mem_of_getElem? (i := 637) (by decide +kernel)) (by decide +kernel))
theorem ml_X6_254 : Cond.methodLink RX6 254 yX3_spans ∈ WS := (WS_mem (List.mem_of_getElem? (i := 641) (by decide +kernel)) (by decide +kernel))
theorem ml_L_160 : Cond.methodLink RL 160 yX6_write ∈ WS := (WS_mem (List.mem_of_getElem? (i := 648) (by decide +kernel)) (by decide +kernel))
theorem ml_X6_263 : Cond.methodLink RX6 263 yJ9_min_7cf53 ∈ WS := (WS_mem (List.mem_of_getElem? (i := 652) (by decide +kernel)) (by decide +kernel))
theorem ml_L_164 : Cond.methodLink RL 164 yX6_count ∈ WS := (WS_mem (List.mem_of_getElem? (i := 653) (by decide +kernel)) (by decide +kernel))
theorem ml_L_168 : Cond.methodLink RL 168 yX6_digest ∈ WS := (WS_mem (List.mem_of_getElem? (i := 657) (by decide +kernel)) (by decide +kernel))
theorem kc_X6_266 : Cond.constantLong RX6 266 (17) ∈ WS := (WS_mem (List.mem_of_getElem? (i := 661) (by decide +kernel)) (by decide +kernel))
theorem kc_X6_268 : Cond.constantLong RX6 268 (31) ∈ WS := (WS_mem (List.mem_of_getElem? (i := 662) (by decide +kernel)) (by decide +kernel))
theorem ml_X6_270 : Cond.methodLink RX6 270 yX6_count ∈ WS := (WS_mem (List.mem_of_getElem? (i := 663) (by decide +kernel)) (by decide +kernel))
theorem ml_X6_273 : Cond.methodLink RX6 273 yX6_fault ∈ WS := (WS_mem (List.mem_of_getElem? (i := 664) (by decide +kernel)) (by decide +kernel))
theorem ml_X6_276 : Cond.methodLink RX6 276 yX6_man ∈ WS := (WS_mem (List.mem_of_getElem? (i := 665) (by decide +kernel)) (by decide +kernel))
theorem ml_X6_279 : Cond.methodLink RX6 279 yX6_where ∈ WS := (WS_mem (List.mem_of_getElem? (i := 666) (by decide +kernel)) (by decide +kernel))
theorem ml_X6_282 : Cond.methodLink RX6 282 yX6_digestOfTales ∈ WS := (WS_mem (List.mem_of_getElem? (i := 667) (by decide +kernel)) (by decide +kernel))
theorem ml_X6_313 : Cond.methodLink RX6 313 yX6_tale ∈ WS := (WS_mem (List.mem_of_getElem? (i := 671) (by decide +kernel)) (by decide +kernel))
theorem ml_X6_316 : Cond.methodLink RX6 316 yX6_stands ∈ WS := (WS_mem (List.mem_of_getElem? (i := 672) (by decide +kernel)) (by decide +kernel))
theorem ml_X6_319 : Cond.methodLink RX6 319 yX6_move ∈ WS := (WS_mem (List.mem_of_getElem? (i := 673) (by decide +kernel)) (by decide +kernel))
theorem ml_X6_322 : Cond.methodLink RX6 322 yX6_was ∈ WS := (WS_mem (List.mem_of_getElem? (i := 674) (by decide +kernel)) (by decide +kernel))
theorem ml_X6_325 : Cond.methodLink RX6 325 yX6_ask ∈ WS := (WS_mem (List.mem_of_getElem? (i := 675) (by decide +kernel)) (by decide +kernel))
theorem ml_X6_286 : Cond.methodLink RX6 286 yX6_digestOfCharges ∈ WS := (WS_mem (List.mem_of_getElem? (i := 676) (by decide +kernel)) (by decide +kernel))
theorem ml_X6_328 : Cond.methodLink RX6 328 yX6_charge ∈ WS := (WS_mem (List.mem_of_getElem? (i := 680) (by decide +kernel)) (by decide +kernel))
theorem ml_X6_331 : Cond.methodLink RX6 331 yX6_belief ∈ WS := (WS_mem (List.mem_of_getElem? (i := 681) (by decide +kernel)) (by decide +kernel))
theorem ml_X6_334 : Cond.methodLink RX6 334 yX6_cleared ∈ WS := (WS_mem (List.mem_of_getElem? (i := 682) (by decide +kernel)) (by decide +kernel))
theorem ml_X6_289 : Cond.methodLink RX6 289 yX6_sum ∈ WS := (WS_mem (List.mem_of_getElem? (i := 683) (by decide +kernel)) (by decide +kernel))
theorem ml_X6_292 : Cond.methodLink RX6 292 yX6_liar ∈ WS := (WS_mem (List.mem_of_getElem? (i := 684) (by decide +kernel)) (by decide +kernel))
theorem ml_X6_295 : Cond.methodLink RX6 295 yX6_best ∈ WS := (WS_mem (List.mem_of_getElem? (i := 685) (by decide +kernel)) (by decide +kernel))
theorem ml_X6_298 : Cond.methodLink RX6 298 yX6_drop ∈ WS := (WS_mem (List.mem_of_getElem? (i := 686) (by decide +kernel)) (by decide +kernel))
theorem ml_X6_301 : Cond.methodLink RX6 301 yX6_clean ∈ WS := (WS_mem (List.mem_of_getElem? (i := 687) (by decide +kernel)) (by decide +kernel))
theorem ml_X6_304 : Cond.methodLink RX6 304 yX6_spare ∈ WS := (WS_mem (List.mem_of_getElem? (i := 688) (by decide +kernel)) (by decide +kernel))
theorem ml_X6_307 : Cond.methodLink RX6 307 yX6_never ∈ WS := (WS_mem (List.mem_of_getElem? (i := 689) (by decide +kernel)) (by decide +kernel))
theorem ml_X6_310 : Cond.methodLink RX6 310 yX6_lives ∈ WS := (WS_mem (List.mem_of_getElem? (i := 690) (by decide +kernel)) (by decide +kernel))
theorem ml_L_12 : Cond.methodLink RL 12 yX7_init ∈ WS := (WS_mem (List.mem_of_getElem? (i := 693) (by decide +kernel)) (by decide +kernel))
theorem ml_L_17 : Cond.methodLink RL 17 yX7_type ∈ WS := (WS_mem (List.mem_of_getElem? (i := 830) (by decide +kernel)) (by decide +kernel))
theorem ml_X7_117 : Cond.methodLink RX7 117 yX7_isTwo ∈ WS := (WS_mem (List.mem_of_getElem? (i := 834) (by decide +kernel)) (by decide +kernel))
theorem ml_X7_113 : Cond.methodLink RX7 113 yX7_in ∈ WS := (WS_mem (List.mem_of_getElem? (i := 837) (by decide +kernel)) (by decide +kernel))
theorem ml_L_22 : Cond.methodLink RL 22 yX7_wipe ∈ WS := (WS_mem (List.mem_of_getElem? (i := 840) (by decide +kernel)) (by decide +kernel))
theorem ml_L_26 : Cond.methodLink RL 26 yX7_undo ∈ WS := (WS_mem (List.mem_of_getElem? (i := 844) (by decide +kernel)) (by decide +kernel))
theorem ml_L_30 : Cond.methodLink RL 30 yX7_fault ∈ WS := (WS_mem (List.mem_of_getElem? (i := 848) (by decide +kernel)) (by decide +kernel))
theorem ml_X7_150 : Cond.methodLink RX7 150 yX7_faultOf ∈ WS := (WS_mem (List.mem_of_getElem? (i := 852) (by decide +kernel)) (by decide +kernel))
theorem ml_X7_147 : Cond.methodLink RX7 147 yX7_readsText ∈ WS := (WS_mem (List.mem_of_getElem? (i := 856) (by decide +kernel)) (by decide +kernel))
theorem ml_X7_141 : Cond.methodLink RX7 141 yX7_readsTale ∈ WS := (WS_mem (List.mem_of_getElem? (i := 860) (by decide +kernel)) (by decide +kernel))
theorem ml_X7_121 : Cond.methodLink RX7 121 yX7_byteAt ∈ WS := (WS_mem (List.mem_of_getElem? (i := 864) (by decide +kernel)) (by decide +kernel))
theorem ml_X7_125 : Cond.methodLink RX7 125 yX7_sortOf ∈ WS := (WS_mem (List.mem_of_getElem? (i := 868) (by decide +kernel)) (by decide +kernel))
theorem ml_X7_129 : Cond.methodLink RX7 129 yX7_isNight ∈ WS := (WS_mem (List.mem_of_getElem? (i := 871) (by decide +kernel)) (by decide +kernel))
theorem ml_X7_132 : Cond.methodLink RX7 132 yX7_isTown ∈ WS := (WS_mem (List.mem_of_getElem? (i := 874) (by decide +kernel)) (by decide +kernel))
theorem ml_X7_144 : Cond.methodLink RX7 144 yX7_readsCharge ∈ WS := (WS_mem (List.mem_of_getElem? (i := 877) (by decide +kernel)) (by decide +kernel))
theorem ml_L_34 : Cond.methodLink RL 34 yX7_tale ∈ WS := (WS_mem (List.mem_of_getElem? (i := 881) (by decide +kernel)) (by decide +kernel))
theorem ml_X7_156 : Cond.methodLink RX7 156 yX7_isTale ∈ WS := (WS_mem (List.mem_of_getElem? (i := 885) (by decide +kernel)) (by decide +kernel))
theorem ml_X7_153 : Cond.methodLink RX7 153 yX7_reads ∈ WS := (WS_mem (List.mem_of_getElem? (i := 889) (by decide +kernel)) (by decide +kernel))
theorem ml_X7_159 : Cond.methodLink RX7 159 yX7_taleOf ∈ WS := (WS_mem (List.mem_of_getElem? (i := 893) (by decide +kernel)) (by decide +kernel))
theorem ml_L_38 : Cond.methodLink RL 38 yX7_charge ∈ WS := (WS_mem (List.mem_of_getElem? (i := 897) (by decide +kernel)) (by decide +kernel))
theorem ml_X7_162 : Cond.methodLink RX7 162 yX7_isCharge ∈ WS := (WS_mem (List.mem_of_getElem? (i := 901) (by decide +kernel)) (by decide +kernel))
theorem ml_X7_165 : Cond.methodLink RX7 165 yX7_chargeOf ∈ WS := (WS_mem (List.mem_of_getElem? (i := 905) (by decide +kernel)) (by decide +kernel))
theorem ml_L_42 : Cond.methodLink RL 42 yX7_need ∈ WS := (WS_mem (List.mem_of_getElem? (i := 909) (by decide +kernel)) (by decide +kernel))
theorem ml_L_47 : Cond.methodLink RL 47 yX7_event ∈ WS := (WS_mem (List.mem_of_getElem? (i := 913) (by decide +kernel)) (by decide +kernel))
theorem ml_X7_168 : Cond.methodLink RX7 168 yX7_isThree ∈ WS := (WS_mem (List.mem_of_getElem? (i := 917) (by decide +kernel)) (by decide +kernel))
theorem ml_L_52 : Cond.methodLink RL 52 yX7_back ∈ WS := (WS_mem (List.mem_of_getElem? (i := 920) (by decide +kernel)) (by decide +kernel))
theorem ml_L_56 : Cond.methodLink RL 56 yX7_read ∈ WS := (WS_mem (List.mem_of_getElem? (i := 924) (by decide +kernel)) (by decide +kernel))
theorem ml_X7_174 : Cond.methodLink RX7 174 yX7_isSheet ∈ WS := (WS_mem (List.mem_of_getElem? (i := 928) (by decide +kernel)) (by decide +kernel))
theorem ml_X7_177 : Cond.methodLink RX7 177 yX7_meets ∈ WS := (WS_mem (List.mem_of_getElem? (i := 931) (by decide +kernel)) (by decide +kernel))
theorem ml_X7_180 : Cond.methodLink RX7 180 yX7_event ∈ WS := (WS_mem (List.mem_of_getElem? (i := 935) (by decide +kernel)) (by decide +kernel))
theorem ml_L_60 : Cond.methodLink RL 60 yX7_clash ∈ WS := (WS_mem (List.mem_of_getElem? (i := 936) (by decide +kernel)) (by decide +kernel))
theorem ml_X7_240 : Cond.methodLink RX7 240 yX7_clashOf ∈ WS := (WS_mem (List.mem_of_getElem? (i := 940) (by decide +kernel)) (by decide +kernel))
theorem ml_X7_234 : Cond.methodLink RX7 234 yX7_asTold ∈ WS := (WS_mem (List.mem_of_getElem? (i := 944) (by decide +kernel)) (by decide +kernel))
theorem ml_X7_200 : Cond.methodLink RX7 200 yX7_clashes ∈ WS := (WS_mem (List.mem_of_getElem? (i := 948) (by decide +kernel)) (by decide +kernel))
theorem ml_X7_193 : Cond.methodLink RX7 193 yX7_far ∈ WS := (WS_mem (List.mem_of_getElem? (i := 952) (by decide +kernel)) (by decide +kernel))
theorem ml_L_64 : Cond.methodLink RL 64 yX7_stands ∈ WS := (WS_mem (List.mem_of_getElem? (i := 955) (by decide +kernel)) (by decide +kernel))
theorem ml_X7_246 : Cond.methodLink RX7 246 yX7_standsOf ∈ WS := (WS_mem (List.mem_of_getElem? (i := 959) (by decide +kernel)) (by decide +kernel))
theorem ml_X7_243 : Cond.methodLink RX7 243 yX7_runsTold ∈ WS := (WS_mem (List.mem_of_getElem? (i := 963) (by decide +kernel)) (by decide +kernel))
theorem ml_X7_237 : Cond.methodLink RX7 237 yX7_runs ∈ WS := (WS_mem (List.mem_of_getElem? (i := 967) (by decide +kernel)) (by decide +kernel))
theorem ml_X7_218 : Cond.methodLink RX7 218 yX7_countsAll ∈ WS := (WS_mem (List.mem_of_getElem? (i := 971) (by decide +kernel)) (by decide +kernel))
theorem ml_X7_203 : Cond.methodLink RX7 203 yX7_isShaken ∈ WS := (WS_mem (List.mem_of_getElem? (i := 975) (by decide +kernel)) (by decide +kernel))
theorem ml_X7_196 : Cond.methodLink RX7 196 yX7_isIn ∈ WS := (WS_mem (List.mem_of_getElem? (i := 979) (by decide +kernel)) (by decide +kernel))
theorem ml_X7_221 : Cond.methodLink RX7 221 yX7_weighsAll ∈ WS := (WS_mem (List.mem_of_getElem? (i := 982) (by decide +kernel)) (by decide +kernel))
theorem ml_X7_206 : Cond.methodLink RX7 206 yX7_others ∈ WS := (WS_mem (List.mem_of_getElem? (i := 986) (by decide +kernel)) (by decide +kernel))
theorem ml_X7_209 : Cond.methodLink RX7 209 yX7_isLiar ∈ WS := (WS_mem (List.mem_of_getElem? (i := 990) (by decide +kernel)) (by decide +kernel))
theorem ml_X7_224 : Cond.methodLink RX7 224 yX7_standsIn ∈ WS := (WS_mem (List.mem_of_getElem? (i := 994) (by decide +kernel)) (by decide +kernel))
theorem ml_X7_212 : Cond.methodLink RX7 212 yX7_letters ∈ WS := (WS_mem (List.mem_of_getElem? (i := 998) (by decide +kernel)) (by decide +kernel))
theorem ml_X7_231 : Cond.methodLink RX7 231 yX7_beliefNow ∈ WS := (WS_mem (List.mem_of_getElem? (i := 1002) (by decide +kernel)) (by decide +kernel))
theorem ml_X7_215 : Cond.methodLink RX7 215 yX7_bestTown ∈ WS := (WS_mem (List.mem_of_getElem? (i := 1006) (by decide +kernel)) (by decide +kernel))
theorem ml_L_68 : Cond.methodLink RL 68 yX7_man ∈ WS := (WS_mem (List.mem_of_getElem? (i := 1010) (by decide +kernel)) (by decide +kernel))
theorem ml_X7_249 : Cond.methodLink RX7 249 yX7_manOf ∈ WS := (WS_mem (List.mem_of_getElem? (i := 1014) (by decide +kernel)) (by decide +kernel))
theorem ml_L_72 : Cond.methodLink RL 72 yX7_belief ∈ WS := (WS_mem (List.mem_of_getElem? (i := 1018) (by decide +kernel)) (by decide +kernel))
theorem ml_X7_252 : Cond.methodLink RX7 252 yX7_beliefOf ∈ WS := (WS_mem (List.mem_of_getElem? (i := 1022) (by decide +kernel)) (by decide +kernel))
theorem kc_X7_255 : Cond.constant RX7 255 (-2147483648) ∈ WS := (WS_mem (List.mem_of_getElem? (i := 1026) (by decide +kernel)) (by decide +kernel))
theorem ml_L_76 : Cond.methodLink RL 76 yX7_cleared ∈ WS := (WS_mem (List.mem_of_getElem? (i := 1027) (by decide +kernel)) (by decide +kernel))
theorem ml_X7_256 : Cond.methodLink RX7 256 yX7_clearedOf ∈ WS := (WS_mem (List.mem_of_getElem? (i := 1031) (by decide +kernel)) (by decide +kernel))
theorem ml_L_80 : Cond.methodLink RL 80 yX7_sum ∈ WS := (WS_mem (List.mem_of_getElem? (i := 1035) (by decide +kernel)) (by decide +kernel))
theorem ml_X7_269 : Cond.methodLink RX7 269 yX7_sumOf ∈ WS := (WS_mem (List.mem_of_getElem? (i := 1039) (by decide +kernel)) (by decide +kernel))
theorem ml_X7_259 : Cond.methodLink RX7 259 yX7_many ∈ WS := (WS_mem (List.mem_of_getElem? (i := 1043) (by decide +kernel)) (by decide +kernel))
theorem ml_X7_262 : Cond.methodLink RX7 262 yX7_countMany ∈ WS := (WS_mem (List.mem_of_getElem? (i := 1046) (by decide +kernel)) (by decide +kernel))
theorem ml_X7_266 : Cond.methodLink RX7 266 yX7_menOf ∈ WS := (WS_mem (List.mem_of_getElem? (i := 1050) (by decide +kernel)) (by decide +kernel))
theorem ml_L_84 : Cond.methodLink RL 84 yX7_liar ∈ WS := (WS_mem (List.mem_of_getElem? (i := 1054) (by decide +kernel)) (by decide +kernel))
theorem ml_X7_272 : Cond.methodLink RX7 272 yX7_liarOf ∈ WS := (WS_mem (List.mem_of_getElem? (i := 1058) (by decide +kernel)) (by decide +kernel))
theorem ml_L_88 : Cond.methodLink RL 88 yX7_best ∈ WS := (WS_mem (List.mem_of_getElem? (i := 1062) (by decide +kernel)) (by decide +kernel))
theorem ml_X7_275 : Cond.methodLink RX7 275 yX7_bestOf ∈ WS := (WS_mem (List.mem_of_getElem? (i := 1066) (by decide +kernel)) (by decide +kernel))
theorem ml_L_92 : Cond.methodLink RL 92 yX7_where ∈ WS := (WS_mem (List.mem_of_getElem? (i := 1070) (by decide +kernel)) (by decide +kernel))
theorem ml_X7_281 : Cond.methodLink RX7 281 yX7_whereOf ∈ WS := (WS_mem (List.mem_of_getElem? (i := 1074) (by decide +kernel)) (by decide +kernel))
theorem ml_X7_278 : Cond.methodLink RX7 278 yX7_spread ∈ WS := (WS_mem (List.mem_of_getElem? (i := 1078) (by decide +kernel)) (by decide +kernel))
theorem ml_L_96 : Cond.methodLink RL 96 yX7_move ∈ WS := (WS_mem (List.mem_of_getElem? (i := 1081) (by decide +kernel)) (by decide +kernel))
theorem ml_X7_296 : Cond.methodLink RX7 296 yX7_moveOf ∈ WS := (WS_mem (List.mem_of_getElem? (i := 1085) (by decide +kernel)) (by decide +kernel))
theorem ml_X7_290 : Cond.methodLink RX7 290 yX7_starts ∈ WS := (WS_mem (List.mem_of_getElem? (i := 1089) (by decide +kernel)) (by decide +kernel))
theorem ml_X7_293 : Cond.methodLink RX7 293 yX7_tries ∈ WS := (WS_mem (List.mem_of_getElem? (i := 1093) (by decide +kernel)) (by decide +kernel))
theorem ml_L_100 : Cond.methodLink RL 100 yX7_drop ∈ WS := (WS_mem (List.mem_of_getElem? (i := 1097) (by decide +kernel)) (by decide +kernel))
theorem ml_X7_299 : Cond.methodLink RX7 299 yX7_dropOf ∈ WS := (WS_mem (List.mem_of_getElem? (i := 1101) (by decide +kernel)) (by decide +kernel))
theorem ml_L_104 : Cond.methodLink RL 104 yX7_clean ∈ WS := (WS_mem (List.mem_of_getElem? (i := 1105) (by decide +kernel)) (by decide +kernel))
theorem ml_X7_302 : Cond.methodLink RX7 302 yX7_cleanOf ∈ WS := (WS_mem (List.mem_of_getElem? (i := 1109) (by decide +kernel)) (by decide +kernel))
theorem ml_L_108 : Cond.methodLink RL 108 yX7_spare ∈ WS := (WS_mem (List.mem_of_getElem? (i := 1113) (by decide +kernel)) (by decide +kernel))
theorem ml_X7_308 : Cond.methodLink RX7 308 yX7_spareBy ∈ WS := (WS_mem (List.mem_of_getElem? (i := 1117) (by decide +kernel)) (by decide +kernel))
theorem ml_X7_305 : Cond.methodLink RX7 305 yX7_isSpared ∈ WS := (WS_mem (List.mem_of_getElem? (i := 1121) (by decide +kernel)) (by decide +kernel))
theorem ml_X7_311 : Cond.methodLink RX7 311 yX7_ofRow ∈ WS := (WS_mem (List.mem_of_getElem? (i := 1125) (by decide +kernel)) (by decide +kernel))
theorem ml_L_112 : Cond.methodLink RL 112 yX7_seen ∈ WS := (WS_mem (List.mem_of_getElem? (i := 1129) (by decide +kernel)) (by decide +kernel))
theorem ml_L_116 : Cond.methodLink RL 116 yX7_forget ∈ WS := (WS_mem (List.mem_of_getElem? (i := 1133) (by decide +kernel)) (by decide +kernel))
theorem ml_L_120 : Cond.methodLink RL 120 yX7_never ∈ WS := (WS_mem (List.mem_of_getElem? (i := 1137) (by decide +kernel)) (by decide +kernel))
theorem ml_X7_321 : Cond.methodLink RX7 321 yX7_neverNow ∈ WS := (WS_mem (List.mem_of_getElem? (i := 1141) (by decide +kernel)) (by decide +kernel))
theorem ml_X7_317 : Cond.methodLink RX7 317 yX7_isSeen ∈ WS := (WS_mem (List.mem_of_getElem? (i := 1145) (by decide +kernel)) (by decide +kernel))
theorem ml_L_124 : Cond.methodLink RL 124 yX7_was ∈ WS := (WS_mem (List.mem_of_getElem? (i := 1149) (by decide +kernel)) (by decide +kernel))
theorem ml_X7_324 : Cond.methodLink RX7 324 yX7_whoseBy ∈ WS := (WS_mem (List.mem_of_getElem? (i := 1153) (by decide +kernel)) (by decide +kernel))
theorem ml_X7_327 : Cond.methodLink RX7 327 yX7_sortsBy ∈ WS := (WS_mem (List.mem_of_getElem? (i := 1157) (by decide +kernel)) (by decide +kernel))
theorem ml_L_128 : Cond.methodLink RL 128 yX7_ask ∈ WS := (WS_mem (List.mem_of_getElem? (i := 1161) (by decide +kernel)) (by decide +kernel))
theorem ml_X7_330 : Cond.methodLink RX7 330 yX7_askOf ∈ WS := (WS_mem (List.mem_of_getElem? (i := 1165) (by decide +kernel)) (by decide +kernel))
theorem ml_L_133 : Cond.methodLink RL 133 yX7_chance ∈ WS := (WS_mem (List.mem_of_getElem? (i := 1169) (by decide +kernel)) (by decide +kernel))
theorem ml_X7_337 : Cond.methodLink RX7 337 yX7_chanceOf ∈ WS := (WS_mem (List.mem_of_getElem? (i := 1173) (by decide +kernel)) (by decide +kernel))
theorem ml_X7_333 : Cond.methodLink RX7 333 yX7_lowest ∈ WS := (WS_mem (List.mem_of_getElem? (i := 1177) (by decide +kernel)) (by decide +kernel))
theorem ml_X7_341 : Cond.methodLink RX7 341 yX7_no ∈ WS := (WS_mem (List.mem_of_getElem? (i := 1180) (by decide +kernel)) (by decide +kernel))
theorem kc_X7_111 : Cond.constantLong RX7 111 (-9223372036854775808) ∈ WS := (WS_mem (List.mem_of_getElem? (i := 1183) (by decide +kernel)) (by decide +kernel))
theorem ml_L_137 : Cond.methodLink RL 137 yX7_lives ∈ WS := (WS_mem (List.mem_of_getElem? (i := 1184) (by decide +kernel)) (by decide +kernel))
theorem ml_X7_346 : Cond.methodLink RX7 346 yX7_livesOf ∈ WS := (WS_mem (List.mem_of_getElem? (i := 1188) (by decide +kernel)) (by decide +kernel))
theorem kc_X7_345 : Cond.constant RX7 345 (1103515245) ∈ WS := (WS_mem (List.mem_of_getElem? (i := 1192) (by decide +kernel)) (by decide +kernel))
theorem ml_L_141 : Cond.methodLink RL 141 yX7_sheet ∈ WS := (WS_mem (List.mem_of_getElem? (i := 1193) (by decide +kernel)) (by decide +kernel))
theorem ml_L_145 : Cond.methodLink RL 145 yX7_lose ∈ WS := (WS_mem (List.mem_of_getElem? (i := 1197) (by decide +kernel)) (by decide +kernel))
theorem ml_L_150 : Cond.methodLink RL 150 yX7_put ∈ WS := (WS_mem (List.mem_of_getElem? (i := 1201) (by decide +kernel)) (by decide +kernel))
theorem ml_X7_352 : Cond.methodLink RX7 352 yX7_lacks ∈ WS := (WS_mem (List.mem_of_getElem? (i := 1205) (by decide +kernel)) (by decide +kernel))
theorem ml_X7_355 : Cond.methodLink RX7 355 yX7_keep ∈ WS := (WS_mem (List.mem_of_getElem? (i := 1209) (by decide +kernel)) (by decide +kernel))
theorem ml_L_154 : Cond.methodLink RL 154 yX7_get ∈ WS := (WS_mem (List.mem_of_getElem? (i := 1213) (by decide +kernel)) (by decide +kernel))
theorem ml_L_159 : Cond.methodLink RL 159 yX7_copy ∈ WS := (WS_mem (List.mem_of_getElem? (i := 1217) (by decide +kernel)) (by decide +kernel))
theorem ml_L_163 : Cond.methodLink RL 163 yX7_write ∈ WS := (WS_mem (List.mem_of_getElem? (i := 1221) (by decide +kernel)) (by decide +kernel))
theorem ml_L_167 : Cond.methodLink RL 167 yX7_count ∈ WS := (WS_mem (List.mem_of_getElem? (i := 1225) (by decide +kernel)) (by decide +kernel))
theorem ml_X7_359 : Cond.methodLink RX7 359 yX7_tellOf ∈ WS := (WS_mem (List.mem_of_getElem? (i := 1229) (by decide +kernel)) (by decide +kernel))
theorem ml_L_172 : Cond.methodLink RL 172 yX7_digest ∈ WS := (WS_mem (List.mem_of_getElem? (i := 1233) (by decide +kernel)) (by decide +kernel))
theorem kc_X7_364 : Cond.constantLong RX7 364 (17) ∈ WS := (WS_mem (List.mem_of_getElem? (i := 1237) (by decide +kernel)) (by decide +kernel))
theorem kc_X7_362 : Cond.constantLong RX7 362 (31) ∈ WS := (WS_mem (List.mem_of_getElem? (i := 1238) (by decide +kernel)) (by decide +kernel))
theorem ml_X7_366 : Cond.methodLink RX7 366 yX7_count ∈ WS := (WS_mem (List.mem_of_getElem? (i := 1239) (by decide +kernel)) (by decide +kernel))
theorem ml_X7_369 : Cond.methodLink RX7 369 yX7_taleDigest ∈ WS := (WS_mem (List.mem_of_getElem? (i := 1240) (by decide +kernel)) (by decide +kernel))
theorem ml_X7_373 : Cond.methodLink RX7 373 yX7_chargeDigest ∈ WS := (WS_mem (List.mem_of_getElem? (i := 1244) (by decide +kernel)) (by decide +kernel))
