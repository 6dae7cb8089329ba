theorem dX6_init_0 : decode cX6_init 0 = .ok (.aload_n 0, 1) := by decide +kernel
theorem dX6_init_1 : decode cX6_init 1 = .ok (.invokespecial 1, 3) := by decide +kernel
theorem dX6_init_4 : decode cX6_init 4 = .ok (.aload_n 0, 1) := by decide +kernel
theorem dX6_init_5 : decode cX6_init 5 = .ok (.new 7, 3) := by decide +kernel
theorem dX6_init_8 : decode cX6_init 8 = .ok (.dup, 1) := by decide +kernel
theorem dX6_init_9 : decode cX6_init 9 = .ok (.bipush 59, 2) := by decide +kernel
theorem dX6_init_11 : decode cX6_init 11 = .ok (.iconst 5, 1) := by decide +kernel
theorem dX6_init_12 : decode cX6_init 12 = .ok (.invokespecial 11, 3) := by decide +kernel
theorem dX6_init_15 : decode cX6_init 15 = .ok (.putfield 14, 3) := by decide +kernel
theorem dX6_init_18 : decode cX6_init 18 = .ok (.aload_n 0, 1) := by decide +kernel
theorem dX6_init_19 : decode cX6_init 19 = .ok (.new 7, 3) := by decide +kernel
theorem dX6_init_22 : decode cX6_init 22 = .ok (.dup, 1) := by decide +kernel
theorem dX6_init_23 : decode cX6_init 23 = .ok (.bipush 23, 2) := by decide +kernel
theorem dX6_init_25 : decode cX6_init 25 = .ok (.iconst 3, 1) := by decide +kernel
theorem dX6_init_26 : decode cX6_init 26 = .ok (.invokespecial 11, 3) := by decide +kernel
theorem dX6_init_29 : decode cX6_init 29 = .ok (.putfield 18, 3) := by decide +kernel
theorem dX6_init_32 : decode cX6_init 32 = .ok (.aload_n 0, 1) := by decide +kernel
theorem dX6_init_33 : decode cX6_init 33 = .ok (.new 21, 3) := by decide +kernel
theorem dX6_init_36 : decode cX6_init 36 = .ok (.dup, 1) := by decide +kernel
theorem dX6_init_37 : decode cX6_init 37 = .ok (.invokespecial 23, 3) := by decide +kernel
theorem dX6_init_40 : decode cX6_init 40 = .ok (.putfield 24, 3) := by decide +kernel
theorem dX6_init_43 : decode cX6_init 43 = .ok (.aload_n 0, 1) := by decide +kernel
theorem dX6_init_44 : decode cX6_init 44 = .ok (.new 21, 3) := by decide +kernel
theorem dX6_init_47 : decode cX6_init 47 = .ok (.dup, 1) := by decide +kernel
theorem dX6_init_48 : decode cX6_init 48 = .ok (.invokespecial 23, 3) := by decide +kernel
theorem dX6_init_51 : decode cX6_init 51 = .ok (.putfield 28, 3) := by decide +kernel
theorem dX6_init_54 : decode cX6_init 54 = .ok (.aload_n 0, 1) := by decide +kernel
theorem dX6_init_55 : decode cX6_init 55 = .ok (.new 31, 3) := by decide +kernel
theorem dX6_init_58 : decode cX6_init 58 = .ok (.dup, 1) := by decide +kernel
theorem dX6_init_59 : decode cX6_init 59 = .ok (.invokespecial 33, 3) := by decide +kernel
theorem dX6_init_62 : decode cX6_init 62 = .ok (.putfield 34, 3) := by decide +kernel
theorem dX6_init_65 : decode cX6_init 65 = .ok (.aload_n 0, 1) := by decide +kernel
theorem dX6_init_66 : decode cX6_init 66 = .ok (.new 38, 3) := by decide +kernel
theorem dX6_init_69 : decode cX6_init 69 = .ok (.dup, 1) := by decide +kernel
theorem dX6_init_70 : decode cX6_init 70 = .ok (.invokespecial 40, 3) := by decide +kernel
theorem dX6_init_73 : decode cX6_init 73 = .ok (.putfield 41, 3) := by decide +kernel
theorem dX6_init_76 : decode cX6_init 76 = .ok (.aload_n 0, 1) := by decide +kernel
theorem dX6_init_77 : decode cX6_init 77 = .ok (.new 45, 3) := by decide +kernel
theorem dX6_init_80 : decode cX6_init 80 = .ok (.dup, 1) := by decide +kernel
theorem dX6_init_81 : decode cX6_init 81 = .ok (.aload_n 0, 1) := by decide +kernel
theorem dX6_init_82 : decode cX6_init 82 = .ok (.getfield 24, 3) := by decide +kernel
theorem dX6_init_85 : decode cX6_init 85 = .ok (.aload_n 0, 1) := by decide +kernel
theorem dX6_init_86 : decode cX6_init 86 = .ok (.getfield 41, 3) := by decide +kernel
theorem dX6_init_89 : decode cX6_init 89 = .ok (.invokespecial 47, 3) := by decide +kernel
theorem dX6_init_92 : decode cX6_init 92 = .ok (.putfield 50, 3) := by decide +kernel
theorem dX6_init_95 : decode cX6_init 95 = .ok (.aload_n 0, 1) := by decide +kernel
theorem dX6_init_96 : decode cX6_init 96 = .ok (.bipush 8, 2) := by decide +kernel
theorem dX6_init_98 : decode cX6_init 98 = .ok (.newarray .int, 2) := by decide +kernel
theorem dX6_init_100 : decode cX6_init 100 = .ok (.putfield 54, 3) := by decide +kernel
theorem dX6_init_103 : decode cX6_init 103 = .ok (.aload_n 0, 1) := by decide +kernel
theorem dX6_init_104 : decode cX6_init 104 = .ok (.bipush 8, 2) := by decide +kernel
theorem dX6_init_106 : decode cX6_init 106 = .ok (.newarray .int, 2) := by decide +kernel
theorem dX6_init_108 : decode cX6_init 108 = .ok (.putfield 58, 3) := by decide +kernel
theorem dX6_init_111 : decode cX6_init 111 = .ok (.aload_n 0, 1) := by decide +kernel
theorem dX6_init_112 : decode cX6_init 112 = .ok (.iconst 4, 1) := by decide +kernel
theorem dX6_init_113 : decode cX6_init 113 = .ok (.anewarray 61, 3) := by decide +kernel
theorem dX6_init_116 : decode cX6_init 116 = .ok (.putfield 63, 3) := by decide +kernel
theorem dX6_init_119 : decode cX6_init 119 = .ok (.aload_n 0, 1) := by decide +kernel
theorem dX6_init_120 : decode cX6_init 120 = .ok (.bipush 8, 2) := by decide +kernel
theorem dX6_init_122 : decode cX6_init 122 = .ok (.newarray .int, 2) := by decide +kernel
theorem dX6_init_124 : decode cX6_init 124 = .ok (.putfield 67, 3) := by decide +kernel
theorem dX6_init_127 : decode cX6_init 127 = .ok (.aload_n 0, 1) := by decide +kernel
theorem dX6_init_128 : decode cX6_init 128 = .ok (.bipush 8, 2) := by decide +kernel
theorem dX6_init_130 : decode cX6_init 130 = .ok (.newarray .long, 2) := by decide +kernel
theorem dX6_init_132 : decode cX6_init 132 = .ok (.putfield 70, 3) := by decide +kernel
theorem dX6_init_135 : decode cX6_init 135 = .ok (.aload_n 0, 1) := by decide +kernel
theorem dX6_init_136 : decode cX6_init 136 = .ok (.bipush 6, 2) := by decide +kernel
theorem dX6_init_138 : decode cX6_init 138 = .ok (.putfield 74, 3) := by decide +kernel
theorem dX6_init_141 : decode cX6_init 141 = .ok (.aload_n 0, 1) := by decide +kernel
theorem dX6_init_142 : decode cX6_init 142 = .ok (.iconst 0, 1) := by decide +kernel
theorem dX6_init_143 : decode cX6_init 143 = .ok (.putfield 78, 3) := by decide +kernel
theorem dX6_init_146 : decode cX6_init 146 = .ok (.aload_n 0, 1) := by decide +kernel
theorem dX6_init_147 : decode cX6_init 147 = .ok (.iconst 0, 1) := by decide +kernel
theorem dX6_init_148 : decode cX6_init 148 = .ok (.putfield 81, 3) := by decide +kernel
theorem dX6_init_151 : decode cX6_init 151 = .ok (.return_, 1) := by decide +kernel
theorem dX6_type_0 : decode cX6_type 0 = .ok (.iload_n 1, 1) := by decide +kernel
theorem dX6_type_1 : decode cX6_type 1 = .ok (.iconst 2, 1) := by decide +kernel
theorem dX6_type_2 : decode cX6_type 2 = .ok (.invokestatic 84, 3) := by decide +kernel
theorem dX6_type_5 : decode cX6_type 5 = .ok (.ifCond .ne 13, 3) := by decide +kernel
theorem dX6_type_8 : decode cX6_type 8 = .ok (.iload_n 2, 1) := by decide +kernel
theorem dX6_type_9 : decode cX6_type 9 = .ok (.sipush 256, 3) := by decide +kernel
theorem dX6_type_12 : decode cX6_type 12 = .ok (.invokestatic 84, 3) := by decide +kernel
theorem dX6_type_15 : decode cX6_type 15 = .ok (.ifCond .eq 6, 3) := by decide +kernel
theorem dX6_type_18 : decode cX6_type 18 = .ok (.bipush (-2), 2) := by decide +kernel
theorem dX6_type_20 : decode cX6_type 20 = .ok (.ireturn, 1) := by decide +kernel
theorem dX6_type_21 : decode cX6_type 21 = .ok (.aload_n 0, 1) := by decide +kernel
theorem dX6_type_22 : decode cX6_type 22 = .ok (.iload_n 1, 1) := by decide +kernel
theorem dX6_type_23 : decode cX6_type 23 = .ok (.invokevirtual 88, 3) := by decide +kernel
theorem dX6_type_26 : decode cX6_type 26 = .ok (.astore_n 3, 1) := by decide +kernel
theorem dX6_type_27 : decode cX6_type 27 = .ok (.aload_n 3, 1) := by decide +kernel
theorem dX6_type_28 : decode cX6_type 28 = .ok (.getfield 92, 3) := by decide +kernel
theorem dX6_type_31 : decode cX6_type 31 = .ok (.aload_n 3, 1) := by decide +kernel
theorem dX6_type_32 : decode cX6_type 32 = .ok (.getfield 95, 3) := by decide +kernel
theorem dX6_type_35 : decode cX6_type 35 = .ok (.arraylength, 1) := by decide +kernel
theorem dX6_type_36 : decode cX6_type 36 = .ok (.if_icmp .lt 6, 3) := by decide +kernel
theorem dX6_type_39 : decode cX6_type 39 = .ok (.bipush (-4), 2) := by decide +kernel
theorem dX6_type_41 : decode cX6_type 41 = .ok (.ireturn, 1) := by decide +kernel
theorem dX6_type_42 : decode cX6_type 42 = .ok (.aload_n 3, 1) := by decide +kernel
theorem dX6_type_43 : decode cX6_type 43 = .ok (.getfield 95, 3) := by decide +kernel
theorem dX6_type_46 : decode cX6_type 46 = .ok (.aload_n 3, 1) := by decide +kernel
theorem dX6_type_47 : decode cX6_type 47 = .ok (.getfield 92, 3) := by decide +kernel
theorem dX6_type_50 : decode cX6_type 50 = .ok (.iload_n 2, 1) := by decide +kernel
theorem dX6_type_51 : decode cX6_type 51 = .ok (.iastore, 1) := by decide +kernel
theorem dX6_type_52 : decode cX6_type 52 = .ok (.aload_n 3, 1) := by decide +kernel
theorem dX6_type_53 : decode cX6_type 53 = .ok (.dup, 1) := by decide +kernel
theorem dX6_type_54 : decode cX6_type 54 = .ok (.getfield 92, 3) := by decide +kernel
theorem dX6_type_57 : decode cX6_type 57 = .ok (.iconst 1, 1) := by decide +kernel
theorem dX6_type_58 : decode cX6_type 58 = .ok (.iadd, 1) := by decide +kernel
theorem dX6_type_59 : decode cX6_type 59 = .ok (.putfield 92, 3) := by decide +kernel
theorem dX6_type_62 : decode cX6_type 62 = .ok (.aload_n 0, 1) := by decide +kernel
theorem dX6_type_63 : decode cX6_type 63 = .ok (.invokevirtual 98, 3) := by decide +kernel
theorem dX6_type_66 : decode cX6_type 66 = .ok (.aload_n 3, 1) := by decide +kernel
theorem dX6_type_67 : decode cX6_type 67 = .ok (.getfield 92, 3) := by decide +kernel
theorem dX6_type_70 : decode cX6_type 70 = .ok (.ireturn, 1) := by decide +kernel
theorem dX6_wipe_0 : decode cX6_wipe 0 = .ok (.iload_n 1, 1) := by decide +kernel
theorem dX6_wipe_1 : decode cX6_wipe 1 = .ok (.iconst 2, 1) := by decide +kernel
theorem dX6_wipe_2 : decode cX6_wipe 2 = .ok (.invokestatic 84, 3) := by decide +kernel
theorem dX6_wipe_5 : decode cX6_wipe 5 = .ok (.ifCond .eq 6, 3) := by decide +kernel
theorem dX6_wipe_8 : decode cX6_wipe 8 = .ok (.bipush (-2), 2) := by decide +kernel
theorem dX6_wipe_10 : decode cX6_wipe 10 = .ok (.ireturn, 1) := by decide +kernel
theorem dX6_wipe_11 : decode cX6_wipe 11 = .ok (.aload_n 0, 1) := by decide +kernel
theorem dX6_wipe_12 : decode cX6_wipe 12 = .ok (.iload_n 1, 1) := by decide +kernel
theorem dX6_wipe_13 : decode cX6_wipe 13 = .ok (.invokevirtual 88, 3) := by decide +kernel
theorem dX6_wipe_16 : decode cX6_wipe 16 = .ok (.astore_n 2, 1) := by decide +kernel
theorem dX6_wipe_17 : decode cX6_wipe 17 = .ok (.aload_n 2, 1) := by decide +kernel
theorem dX6_wipe_18 : decode cX6_wipe 18 = .ok (.getfield 92, 3) := by decide +kernel
theorem dX6_wipe_21 : decode cX6_wipe 21 = .ok (.istore_n 3, 1) := by decide +kernel
theorem dX6_wipe_22 : decode cX6_wipe 22 = .ok (.aload_n 2, 1) := by decide +kernel
theorem dX6_wipe_23 : decode cX6_wipe 23 = .ok (.iconst 0, 1) := by decide +kernel
theorem dX6_wipe_24 : decode cX6_wipe 24 = .ok (.putfield 92, 3) := by decide +kernel
theorem dX6_wipe_27 : decode cX6_wipe 27 = .ok (.aload_n 0, 1) := by decide +kernel
theorem dX6_wipe_28 : decode cX6_wipe 28 = .ok (.invokevirtual 98, 3) := by decide +kernel
theorem dX6_wipe_31 : decode cX6_wipe 31 = .ok (.iload_n 3, 1) := by decide +kernel
theorem dX6_wipe_32 : decode cX6_wipe 32 = .ok (.ireturn, 1) := by decide +kernel
theorem dX6_undo_0 : decode cX6_undo 0 = .ok (.iload_n 1, 1) := by decide +kernel
theorem dX6_undo_1 : decode cX6_undo 1 = .ok (.iconst 2, 1) := by decide +kernel
theorem dX6_undo_2 : decode cX6_undo 2 = .ok (.invokestatic 84, 3) := by decide +kernel
theorem dX6_undo_5 : decode cX6_undo 5 = .ok (.ifCond .eq 6, 3) := by decide +kernel
theorem dX6_undo_8 : decode cX6_undo 8 = .ok (.bipush (-2), 2) := by decide +kernel
theorem dX6_undo_10 : decode cX6_undo 10 = .ok (.ireturn, 1) := by decide +kernel
theorem dX6_undo_11 : decode cX6_undo 11 = .ok (.aload_n 0, 1) := by decide +kernel
theorem dX6_undo_12 : decode cX6_undo 12 = .ok (.iload_n 1, 1) := by decide +kernel
theorem dX6_undo_13 : decode cX6_undo 13 = .ok (.invokevirtual 88, 3) := by decide +kernel
theorem dX6_undo_16 : decode cX6_undo 16 = .ok (.astore_n 2, 1) := by decide +kernel
theorem dX6_undo_17 : decode cX6_undo 17 = .ok (.aload_n 2, 1) := by decide +kernel
theorem dX6_undo_18 : decode cX6_undo 18 = .ok (.getfield 92, 3) := by decide +kernel
theorem dX6_undo_21 : decode cX6_undo 21 = .ok (.ifCond .ne 6, 3) := by decide +kernel
theorem dX6_undo_24 : decode cX6_undo 24 = .ok (.bipush (-3), 2) := by decide +kernel
theorem dX6_undo_26 : decode cX6_undo 26 = .ok (.ireturn, 1) := by decide +kernel
theorem dX6_undo_27 : decode cX6_undo 27 = .ok (.aload_n 2, 1) := by decide +kernel
theorem dX6_undo_28 : decode cX6_undo 28 = .ok (.dup, 1) := by decide +kernel
theorem dX6_undo_29 : decode cX6_undo 29 = .ok (.getfield 92, 3) := by decide +kernel
theorem dX6_undo_32 : decode cX6_undo 32 = .ok (.iconst 1, 1) := by decide +kernel
theorem dX6_undo_33 : decode cX6_undo 33 = .ok (.isub, 1) := by decide +kernel
theorem dX6_undo_34 : decode cX6_undo 34 = .ok (.putfield 92, 3) := by decide +kernel
theorem dX6_undo_37 : decode cX6_undo 37 = .ok (.aload_n 0, 1) := by decide +kernel
theorem dX6_undo_38 : decode cX6_undo 38 = .ok (.invokevirtual 98, 3) := by decide +kernel
theorem dX6_undo_41 : decode cX6_undo 41 = .ok (.aload_n 2, 1) := by decide +kernel
theorem dX6_undo_42 : decode cX6_undo 42 = .ok (.getfield 92, 3) := by decide +kernel
theorem dX6_undo_45 : decode cX6_undo 45 = .ok (.ireturn, 1) := by decide +kernel
theorem dX6_fault_0 : decode cX6_fault 0 = .ok (.iload_n 1, 1) := by decide +kernel
theorem dX6_fault_1 : decode cX6_fault 1 = .ok (.iconst 2, 1) := by decide +kernel
theorem dX6_fault_2 : decode cX6_fault 2 = .ok (.invokestatic 84, 3) := by decide +kernel
theorem dX6_fault_5 : decode cX6_fault 5 = .ok (.ifCond .eq 8, 3) := by decide +kernel
theorem dX6_fault_8 : decode cX6_fault 8 = .ok (.bipush (-2), 2) := by decide +kernel
theorem dX6_fault_10 : decode cX6_fault 10 = .ok (.goto 11, 3) := by decide +kernel
theorem dX6_fault_13 : decode cX6_fault 13 = .ok (.aload_n 0, 1) := by decide +kernel
theorem dX6_fault_14 : decode cX6_fault 14 = .ok (.iload_n 1, 1) := by decide +kernel
theorem dX6_fault_15 : decode cX6_fault 15 = .ok (.invokevirtual 88, 3) := by decide +kernel
theorem dX6_fault_18 : decode cX6_fault 18 = .ok (.invokevirtual 101, 3) := by decide +kernel
theorem dX6_fault_21 : decode cX6_fault 21 = .ok (.ireturn, 1) := by decide +kernel
theorem dX6_tale_0 : decode cX6_tale 0 = .ok (.iload_n 1, 1) := by decide +kernel
theorem dX6_tale_1 : decode cX6_tale 1 = .ok (.aload_n 0, 1) := by decide +kernel
theorem dX6_tale_2 : decode cX6_tale 2 = .ok (.getfield 24, 3) := by decide +kernel
theorem dX6_tale_5 : decode cX6_tale 5 = .ok (.getfield 105, 3) := by decide +kernel
theorem dX6_tale_8 : decode cX6_tale 8 = .ok (.invokestatic 84, 3) := by decide +kernel
theorem dX6_tale_11 : decode cX6_tale 11 = .ok (.ifCond .eq 6, 3) := by decide +kernel
theorem dX6_tale_14 : decode cX6_tale 14 = .ok (.bipush (-2), 2) := by decide +kernel
theorem dX6_tale_16 : decode cX6_tale 16 = .ok (.ireturn, 1) := by decide +kernel
theorem dX6_tale_17 : decode cX6_tale 17 = .ok (.iload_n 2, 1) := by decide +kernel
theorem dX6_tale_18 : decode cX6_tale 18 = .ok (.tableswitch 70 0 3 #[30, 40, 50, 60], 30) := by decide +kernel
theorem dX6_tale_48 : decode cX6_tale 48 = .ok (.aload_n 0, 1) := by decide +kernel
theorem dX6_tale_49 : decode cX6_tale 49 = .ok (.getfield 24, 3) := by decide +kernel
theorem dX6_tale_52 : decode cX6_tale 52 = .ok (.getfield 106, 3) := by decide +kernel
theorem dX6_tale_55 : decode cX6_tale 55 = .ok (.iload_n 1, 1) := by decide +kernel
theorem dX6_tale_56 : decode cX6_tale 56 = .ok (.iaload, 1) := by decide +kernel
theorem dX6_tale_57 : decode cX6_tale 57 = .ok (.ireturn, 1) := by decide +kernel
theorem dX6_tale_58 : decode cX6_tale 58 = .ok (.aload_n 0, 1) := by decide +kernel
theorem dX6_tale_59 : decode cX6_tale 59 = .ok (.getfield 24, 3) := by decide +kernel
theorem dX6_tale_62 : decode cX6_tale 62 = .ok (.getfield 109, 3) := by decide +kernel
theorem dX6_tale_65 : decode cX6_tale 65 = .ok (.iload_n 1, 1) := by decide +kernel
theorem dX6_tale_66 : decode cX6_tale 66 = .ok (.iaload, 1) := by decide +kernel
theorem dX6_tale_67 : decode cX6_tale 67 = .ok (.ireturn, 1) := by decide +kernel
theorem dX6_tale_68 : decode cX6_tale 68 = .ok (.aload_n 0, 1) := by decide +kernel
theorem dX6_tale_69 : decode cX6_tale 69 = .ok (.getfield 24, 3) := by decide +kernel
theorem dX6_tale_72 : decode cX6_tale 72 = .ok (.getfield 112, 3) := by decide +kernel
theorem dX6_tale_75 : decode cX6_tale 75 = .ok (.iload_n 1, 1) := by decide +kernel
theorem dX6_tale_76 : decode cX6_tale 76 = .ok (.iaload, 1) := by decide +kernel
theorem dX6_tale_77 : decode cX6_tale 77 = .ok (.ireturn, 1) := by decide +kernel
theorem dX6_tale_78 : decode cX6_tale 78 = .ok (.aload_n 0, 1) := by decide +kernel
theorem dX6_tale_79 : decode cX6_tale 79 = .ok (.getfield 24, 3) := by decide +kernel
theorem dX6_tale_82 : decode cX6_tale 82 = .ok (.getfield 115, 3) := by decide +kernel
theorem dX6_tale_85 : decode cX6_tale 85 = .ok (.iload_n 1, 1) := by decide +kernel
theorem dX6_tale_86 : decode cX6_tale 86 = .ok (.iaload, 1) := by decide +kernel
theorem dX6_tale_87 : decode cX6_tale 87 = .ok (.ireturn, 1) := by decide +kernel
theorem dX6_tale_88 : decode cX6_tale 88 = .ok (.bipush (-2), 2) := by decide +kernel
theorem dX6_tale_90 : decode cX6_tale 90 = .ok (.ireturn, 1) := by decide +kernel
theorem dX6_charge_0 : decode cX6_charge 0 = .ok (.iload_n 1, 1) := by decide +kernel
theorem dX6_charge_1 : decode cX6_charge 1 = .ok (.aload_n 0, 1) := by decide +kernel
theorem dX6_charge_2 : decode cX6_charge 2 = .ok (.getfield 34, 3) := by decide +kernel
theorem dX6_charge_5 : decode cX6_charge 5 = .ok (.getfield 118, 3) := by decide +kernel
theorem dX6_charge_8 : decode cX6_charge 8 = .ok (.invokestatic 84, 3) := by decide +kernel
theorem dX6_charge_11 : decode cX6_charge 11 = .ok (.ifCond .ne 11, 3) := by decide +kernel
theorem dX6_charge_14 : decode cX6_charge 14 = .ok (.iload_n 2, 1) := by decide +kernel
theorem dX6_charge_15 : decode cX6_charge 15 = .ok (.iconst 2, 1) := by decide +kernel
theorem dX6_charge_16 : decode cX6_charge 16 = .ok (.invokestatic 84, 3) := by decide +kernel
theorem dX6_charge_19 : decode cX6_charge 19 = .ok (.ifCond .eq 6, 3) := by decide +kernel
theorem dX6_charge_22 : decode cX6_charge 22 = .ok (.bipush (-2), 2) := by decide +kernel
theorem dX6_charge_24 : decode cX6_charge 24 = .ok (.ireturn, 1) := by decide +kernel
theorem dX6_charge_25 : decode cX6_charge 25 = .ok (.iload_n 2, 1) := by decide +kernel
theorem dX6_charge_26 : decode cX6_charge 26 = .ok (.ifCond .ne 15, 3) := by decide +kernel
theorem dX6_charge_29 : decode cX6_charge 29 = .ok (.aload_n 0, 1) := by decide +kernel
theorem dX6_charge_30 : decode cX6_charge 30 = .ok (.getfield 34, 3) := by decide +kernel
theorem dX6_charge_33 : decode cX6_charge 33 = .ok (.getfield 119, 3) := by decide +kernel
theorem dX6_charge_36 : decode cX6_charge 36 = .ok (.iload_n 1, 1) := by decide +kernel
theorem dX6_charge_37 : decode cX6_charge 37 = .ok (.iaload, 1) := by decide +kernel
theorem dX6_charge_38 : decode cX6_charge 38 = .ok (.goto 12, 3) := by decide +kernel
theorem dX6_charge_41 : decode cX6_charge 41 = .ok (.aload_n 0, 1) := by decide +kernel
theorem dX6_charge_42 : decode cX6_charge 42 = .ok (.getfield 34, 3) := by decide +kernel
theorem dX6_charge_45 : decode cX6_charge 45 = .ok (.getfield 120, 3) := by decide +kernel
theorem dX6_charge_48 : decode cX6_charge 48 = .ok (.iload_n 1, 1) := by decide +kernel
theorem dX6_charge_49 : decode cX6_charge 49 = .ok (.iaload, 1) := by decide +kernel
theorem dX6_charge_50 : decode cX6_charge 50 = .ok (.ireturn, 1) := by decide +kernel
theorem dX6_need_0 : decode cX6_need 0 = .ok (.iload_n 1, 1) := by decide +kernel
theorem dX6_need_1 : decode cX6_need 1 = .ok (.iconst 1, 1) := by decide +kernel
theorem dX6_need_2 : decode cX6_need 2 = .ok (.if_icmp .lt 9, 3) := by decide +kernel
theorem dX6_need_5 : decode cX6_need 5 = .ok (.iload_n 1, 1) := by decide +kernel
theorem dX6_need_6 : decode cX6_need 6 = .ok (.bipush 40, 2) := by decide +kernel
theorem dX6_need_8 : decode cX6_need 8 = .ok (.if_icmp .le 6, 3) := by decide +kernel
theorem dX6_need_11 : decode cX6_need 11 = .ok (.bipush (-2), 2) := by decide +kernel
theorem dX6_need_13 : decode cX6_need 13 = .ok (.ireturn, 1) := by decide +kernel
theorem dX6_need_14 : decode cX6_need 14 = .ok (.aload_n 0, 1) := by decide +kernel
theorem dX6_need_15 : decode cX6_need 15 = .ok (.getfield 74, 3) := by decide +kernel
theorem dX6_need_18 : decode cX6_need 18 = .ok (.istore_n 2, 1) := by decide +kernel
theorem dX6_need_19 : decode cX6_need 19 = .ok (.aload_n 0, 1) := by decide +kernel
theorem dX6_need_20 : decode cX6_need 20 = .ok (.iload_n 1, 1) := by decide +kernel
theorem dX6_need_21 : decode cX6_need 21 = .ok (.putfield 74, 3) := by decide +kernel
theorem dX6_need_24 : decode cX6_need 24 = .ok (.iload_n 2, 1) := by decide +kernel
theorem dX6_need_25 : decode cX6_need 25 = .ok (.ireturn, 1) := by decide +kernel
theorem dX6_event_0 : decode cX6_event 0 = .ok (.iload_n 1, 1) := by decide +kernel
theorem dX6_event_1 : decode cX6_event 1 = .ok (.iconst 3, 1) := by decide +kernel
theorem dX6_event_2 : decode cX6_event 2 = .ok (.invokestatic 84, 3) := by decide +kernel
theorem dX6_event_5 : decode cX6_event 5 = .ok (.ifCond .ne 21, 3) := by decide +kernel
theorem dX6_event_8 : decode cX6_event 8 = .ok (.iload_n 2, 1) := by decide +kernel
theorem dX6_event_9 : decode cX6_event 9 = .ok (.bipush 24, 2) := by decide +kernel
theorem dX6_event_11 : decode cX6_event 11 = .ok (.invokestatic 84, 3) := by decide +kernel
theorem dX6_event_14 : decode cX6_event 14 = .ok (.ifCond .ne 12, 3) := by decide +kernel
theorem dX6_event_17 : decode cX6_event 17 = .ok (.iload_n 3, 1) := by decide +kernel
theorem dX6_event_18 : decode cX6_event 18 = .ok (.bipush 10, 2) := by decide +kernel
theorem dX6_event_20 : decode cX6_event 20 = .ok (.invokestatic 84, 3) := by decide +kernel
theorem dX6_event_23 : decode cX6_event 23 = .ok (.ifCond .eq 6, 3) := by decide +kernel
theorem dX6_event_26 : decode cX6_event 26 = .ok (.bipush (-2), 2) := by decide +kernel
theorem dX6_event_28 : decode cX6_event 28 = .ok (.ireturn, 1) := by decide +kernel
theorem dX6_event_29 : decode cX6_event 29 = .ok (.aload_n 0, 1) := by decide +kernel
theorem dX6_event_30 : decode cX6_event 30 = .ok (.getfield 41, 3) := by decide +kernel
theorem dX6_event_33 : decode cX6_event 33 = .ok (.getfield 121, 3) := by decide +kernel
theorem dX6_event_36 : decode cX6_event 36 = .ok (.bipush 8, 2) := by decide +kernel
theorem dX6_event_38 : decode cX6_event 38 = .ok (.if_icmp .lt 6, 3) := by decide +kernel
theorem dX6_event_41 : decode cX6_event 41 = .ok (.bipush (-4), 2) := by decide +kernel
theorem dX6_event_43 : decode cX6_event 43 = .ok (.ireturn, 1) := by decide +kernel
theorem dX6_event_44 : decode cX6_event 44 = .ok (.aload_n 0, 1) := by decide +kernel
theorem dX6_event_45 : decode cX6_event 45 = .ok (.getfield 41, 3) := by decide +kernel
theorem dX6_event_48 : decode cX6_event 48 = .ok (.getfield 122, 3) := by decide +kernel
theorem dX6_event_51 : decode cX6_event 51 = .ok (.aload_n 0, 1) := by decide +kernel
theorem dX6_event_52 : decode cX6_event 52 = .ok (.getfield 41, 3) := by decide +kernel
theorem dX6_event_55 : decode cX6_event 55 = .ok (.getfield 121, 3) := by decide +kernel
theorem dX6_event_58 : decode cX6_event 58 = .ok (.iload_n 1, 1) := by decide +kernel
theorem dX6_event_59 : decode cX6_event 59 = .ok (.iastore, 1) := by decide +kernel
theorem dX6_event_60 : decode cX6_event 60 = .ok (.aload_n 0, 1) := by decide +kernel
theorem dX6_event_61 : decode cX6_event 61 = .ok (.getfield 41, 3) := by decide +kernel
theorem dX6_event_64 : decode cX6_event 64 = .ok (.getfield 125, 3) := by decide +kernel
theorem dX6_event_67 : decode cX6_event 67 = .ok (.aload_n 0, 1) := by decide +kernel
theorem dX6_event_68 : decode cX6_event 68 = .ok (.getfield 41, 3) := by decide +kernel
theorem dX6_event_71 : decode cX6_event 71 = .ok (.getfield 121, 3) := by decide +kernel
theorem dX6_event_74 : decode cX6_event 74 = .ok (.iload_n 2, 1) := by decide +kernel
theorem dX6_event_75 : decode cX6_event 75 = .ok (.iastore, 1) := by decide +kernel
theorem dX6_event_76 : decode cX6_event 76 = .ok (.aload_n 0, 1) := by decide +kernel
theorem dX6_event_77 : decode cX6_event 77 = .ok (.getfield 41, 3) := by decide +kernel
theorem dX6_event_80 : decode cX6_event 80 = .ok (.getfield 126, 3) := by decide +kernel
theorem dX6_event_83 : decode cX6_event 83 = .ok (.aload_n 0, 1) := by decide +kernel
theorem dX6_event_84 : decode cX6_event 84 = .ok (.getfield 41, 3) := by decide +kernel
theorem dX6_event_87 : decode cX6_event 87 = .ok (.getfield 121, 3) := by decide +kernel
theorem dX6_event_90 : decode cX6_event 90 = .ok (.iload_n 3, 1) := by decide +kernel
theorem dX6_event_91 : decode cX6_event 91 = .ok (.iastore, 1) := by decide +kernel
theorem dX6_event_92 : decode cX6_event 92 = .ok (.aload_n 0, 1) := by decide +kernel
theorem dX6_event_93 : decode cX6_event 93 = .ok (.getfield 41, 3) := by decide +kernel
theorem dX6_event_96 : decode cX6_event 96 = .ok (.dup, 1) := by decide +kernel
theorem dX6_event_97 : decode cX6_event 97 = .ok (.getfield 121, 3) := by decide +kernel
theorem dX6_event_100 : decode cX6_event 100 = .ok (.iconst 1, 1) := by decide +kernel
theorem dX6_event_101 : decode cX6_event 101 = .ok (.iadd, 1) := by decide +kernel
theorem dX6_event_102 : decode cX6_event 102 = .ok (.putfield 121, 3) := by decide +kernel
theorem dX6_event_105 : decode cX6_event 105 = .ok (.aload_n 0, 1) := by decide +kernel
theorem dX6_event_106 : decode cX6_event 106 = .ok (.getfield 41, 3) := by decide +kernel
theorem dX6_event_109 : decode cX6_event 109 = .ok (.getfield 121, 3) := by decide +kernel
theorem dX6_event_112 : decode cX6_event 112 = .ok (.ireturn, 1) := by decide +kernel
theorem dX6_back_0 : decode cX6_back 0 = .ok (.aload_n 0, 1) := by decide +kernel
theorem dX6_back_1 : decode cX6_back 1 = .ok (.getfield 41, 3) := by decide +kernel
theorem dX6_back_4 : decode cX6_back 4 = .ok (.getfield 121, 3) := by decide +kernel
theorem dX6_back_7 : decode cX6_back 7 = .ok (.ifCond .ne 6, 3) := by decide +kernel
theorem dX6_back_10 : decode cX6_back 10 = .ok (.bipush (-3), 2) := by decide +kernel
theorem dX6_back_12 : decode cX6_back 12 = .ok (.ireturn, 1) := by decide +kernel
theorem dX6_back_13 : decode cX6_back 13 = .ok (.aload_n 0, 1) := by decide +kernel
theorem dX6_back_14 : decode cX6_back 14 = .ok (.getfield 41, 3) := by decide +kernel
theorem dX6_back_17 : decode cX6_back 17 = .ok (.dup, 1) := by decide +kernel
theorem dX6_back_18 : decode cX6_back 18 = .ok (.getfield 121, 3) := by decide +kernel
theorem dX6_back_21 : decode cX6_back 21 = .ok (.iconst 1, 1) := by decide +kernel
theorem dX6_back_22 : decode cX6_back 22 = .ok (.isub, 1) := by decide +kernel
theorem dX6_back_23 : decode cX6_back 23 = .ok (.putfield 121, 3) := by decide +kernel
theorem dX6_back_26 : decode cX6_back 26 = .ok (.aload_n 0, 1) := by decide +kernel
theorem dX6_back_27 : decode cX6_back 27 = .ok (.getfield 41, 3) := by decide +kernel
theorem dX6_back_30 : decode cX6_back 30 = .ok (.getfield 121, 3) := by decide +kernel
theorem dX6_back_33 : decode cX6_back 33 = .ok (.ireturn, 1) := by decide +kernel
theorem dX6_read_0 : decode cX6_read 0 = .ok (.iload_n 1, 1) := by decide +kernel
theorem dX6_read_1 : decode cX6_read 1 = .ok (.iconst 4, 1) := by decide +kernel
theorem dX6_read_2 : decode cX6_read 2 = .ok (.invokestatic 84, 3) := by decide +kernel
theorem dX6_read_5 : decode cX6_read 5 = .ok (.ifCond .eq 6, 3) := by decide +kernel
theorem dX6_read_8 : decode cX6_read 8 = .ok (.bipush (-2), 2) := by decide +kernel
theorem dX6_read_10 : decode cX6_read 10 = .ok (.ireturn, 1) := by decide +kernel
theorem dX6_read_11 : decode cX6_read 11 = .ok (.aload_n 0, 1) := by decide +kernel
theorem dX6_read_12 : decode cX6_read 12 = .ok (.getfield 63, 3) := by decide +kernel
theorem dX6_read_15 : decode cX6_read 15 = .ok (.iload_n 1, 1) := by decide +kernel
theorem dX6_read_16 : decode cX6_read 16 = .ok (.aaload, 1) := by decide +kernel
theorem dX6_read_17 : decode cX6_read 17 = .ok (.astore_n 2, 1) := by decide +kernel
theorem dX6_read_18 : decode cX6_read 18 = .ok (.aload_n 2, 1) := by decide +kernel
theorem dX6_read_19 : decode cX6_read 19 = .ok (.ifnonnull 9, 3) := by decide +kernel
theorem dX6_read_22 : decode cX6_read 22 = .ok (.aload_n 0, 1) := by decide +kernel
theorem dX6_read_23 : decode cX6_read 23 = .ok (.iconst 1, 1) := by decide +kernel
theorem dX6_read_24 : decode cX6_read 24 = .ok (.invokevirtual 129, 3) := by decide +kernel
theorem dX6_read_27 : decode cX6_read 27 = .ok (.ireturn, 1) := by decide +kernel
theorem dX6_read_28 : decode cX6_read 28 = .ok (.iconst 0, 1) := by decide +kernel
theorem dX6_read_29 : decode cX6_read 29 = .ok (.istore_n 3, 1) := by decide +kernel
theorem dX6_read_30 : decode cX6_read 30 = .ok (.iconst 0, 1) := by decide +kernel
theorem dX6_read_31 : decode cX6_read 31 = .ok (.istore 4, 2) := by decide +kernel
theorem dX6_read_33 : decode cX6_read 33 = .ok (.iload 4, 2) := by decide +kernel
theorem dX6_read_35 : decode cX6_read 35 = .ok (.iconst 2, 1) := by decide +kernel
theorem dX6_read_36 : decode cX6_read 36 = .ok (.iadd, 1) := by decide +kernel
theorem dX6_read_37 : decode cX6_read 37 = .ok (.aload_n 2, 1) := by decide +kernel
theorem dX6_read_38 : decode cX6_read 38 = .ok (.getfield 133, 3) := by decide +kernel
theorem dX6_read_41 : decode cX6_read 41 = .ok (.arraylength, 1) := by decide +kernel
theorem dX6_read_42 : decode cX6_read 42 = .ok (.if_icmp .ge 47, 3) := by decide +kernel
theorem dX6_read_45 : decode cX6_read 45 = .ok (.aload_n 0, 1) := by decide +kernel
theorem dX6_read_46 : decode cX6_read 46 = .ok (.aload_n 2, 1) := by decide +kernel
theorem dX6_read_47 : decode cX6_read 47 = .ok (.getfield 133, 3) := by decide +kernel
theorem dX6_read_50 : decode cX6_read 50 = .ok (.iload 4, 2) := by decide +kernel
theorem dX6_read_52 : decode cX6_read 52 = .ok (.iaload, 1) := by decide +kernel
theorem dX6_read_53 : decode cX6_read 53 = .ok (.aload_n 2, 1) := by decide +kernel
theorem dX6_read_54 : decode cX6_read 54 = .ok (.getfield 133, 3) := by decide +kernel
theorem dX6_read_57 : decode cX6_read 57 = .ok (.iload 4, 2) := by decide +kernel
theorem dX6_read_59 : decode cX6_read 59 = .ok (.iconst 1, 1) := by decide +kernel
theorem dX6_read_60 : decode cX6_read 60 = .ok (.iadd, 1) := by decide +kernel
theorem dX6_read_61 : decode cX6_read 61 = .ok (.iaload, 1) := by decide +kernel
theorem dX6_read_62 : decode cX6_read 62 = .ok (.aload_n 2, 1) := by decide +kernel
theorem dX6_read_63 : decode cX6_read 63 = .ok (.getfield 133, 3) := by decide +kernel
theorem dX6_read_66 : decode cX6_read 66 = .ok (.iload 4, 2) := by decide +kernel
theorem dX6_read_68 : decode cX6_read 68 = .ok (.iconst 2, 1) := by decide +kernel
theorem dX6_read_69 : decode cX6_read 69 = .ok (.iadd, 1) := by decide +kernel
theorem dX6_read_70 : decode cX6_read 70 = .ok (.iaload, 1) := by decide +kernel
theorem dX6_read_71 : decode cX6_read 71 = .ok (.invokevirtual 136, 3) := by decide +kernel
theorem dX6_read_74 : decode cX6_read 74 = .ok (.ifCond .ge 6, 3) := by decide +kernel
theorem dX6_read_77 : decode cX6_read 77 = .ok (.goto 12, 3) := by decide +kernel
theorem dX6_read_80 : decode cX6_read 80 = .ok (.iinc 3 1, 3) := by decide +kernel
theorem dX6_read_83 : decode cX6_read 83 = .ok (.iinc 4 3, 3) := by decide +kernel
theorem dX6_read_86 : decode cX6_read 86 = .ok (.goto (-53), 3) := by decide +kernel
theorem dX6_read_89 : decode cX6_read 89 = .ok (.iload_n 3, 1) := by decide +kernel
theorem dX6_read_90 : decode cX6_read 90 = .ok (.ireturn, 1) := by decide +kernel
theorem dX6_clash_0 : decode cX6_clash 0 = .ok (.iload_n 1, 1) := by decide +kernel
theorem dX6_clash_1 : decode cX6_clash 1 = .ok (.aload_n 0, 1) := by decide +kernel
theorem dX6_clash_2 : decode cX6_clash 2 = .ok (.getfield 24, 3) := by decide +kernel
theorem dX6_clash_5 : decode cX6_clash 5 = .ok (.getfield 105, 3) := by decide +kernel
theorem dX6_clash_8 : decode cX6_clash 8 = .ok (.invokestatic 84, 3) := by decide +kernel
theorem dX6_clash_11 : decode cX6_clash 11 = .ok (.ifCond .ne 22, 3) := by decide +kernel
theorem dX6_clash_14 : decode cX6_clash 14 = .ok (.iload_n 2, 1) := by decide +kernel
theorem dX6_clash_15 : decode cX6_clash 15 = .ok (.aload_n 0, 1) := by decide +kernel
theorem dX6_clash_16 : decode cX6_clash 16 = .ok (.getfield 24, 3) := by decide +kernel
theorem dX6_clash_19 : decode cX6_clash 19 = .ok (.getfield 105, 3) := by decide +kernel
theorem dX6_clash_22 : decode cX6_clash 22 = .ok (.invokestatic 84, 3) := by decide +kernel
theorem dX6_clash_25 : decode cX6_clash 25 = .ok (.ifCond .ne 8, 3) := by decide +kernel
theorem dX6_clash_28 : decode cX6_clash 28 = .ok (.iload_n 1, 1) := by decide +kernel
theorem dX6_clash_29 : decode cX6_clash 29 = .ok (.iload_n 2, 1) := by decide +kernel
theorem dX6_clash_30 : decode cX6_clash 30 = .ok (.if_icmp .ne 6, 3) := by decide +kernel
theorem dX6_clash_33 : decode cX6_clash 33 = .ok (.bipush (-2), 2) := by decide +kernel
theorem dX6_clash_35 : decode cX6_clash 35 = .ok (.ireturn, 1) := by decide +kernel
theorem dX6_clash_36 : decode cX6_clash 36 = .ok (.aload_n 0, 1) := by decide +kernel
theorem dX6_clash_37 : decode cX6_clash 37 = .ok (.getfield 24, 3) := by decide +kernel
theorem dX6_clash_40 : decode cX6_clash 40 = .ok (.iload_n 1, 1) := by decide +kernel
theorem dX6_clash_41 : decode cX6_clash 41 = .ok (.iload_n 2, 1) := by decide +kernel
theorem dX6_clash_42 : decode cX6_clash 42 = .ok (.invokevirtual 140, 3) := by decide +kernel
theorem dX6_clash_45 : decode cX6_clash 45 = .ok (.ifCond .eq 7, 3) := by decide +kernel
theorem dX6_clash_48 : decode cX6_clash 48 = .ok (.iconst 1, 1) := by decide +kernel
theorem dX6_clash_49 : decode cX6_clash 49 = .ok (.goto 4, 3) := by decide +kernel
theorem dX6_clash_52 : decode cX6_clash 52 = .ok (.iconst 0, 1) := by decide +kernel
theorem dX6_clash_53 : decode cX6_clash 53 = .ok (.ireturn, 1) := by decide +kernel
theorem dX6_stands_0 : decode cX6_stands 0 = .ok (.iload_n 1, 1) := by decide +kernel
theorem dX6_stands_1 : decode cX6_stands 1 = .ok (.aload_n 0, 1) := by decide +kernel
theorem dX6_stands_2 : decode cX6_stands 2 = .ok (.getfield 24, 3) := by decide +kernel
theorem dX6_stands_5 : decode cX6_stands 5 = .ok (.getfield 105, 3) := by decide +kernel
theorem dX6_stands_8 : decode cX6_stands 8 = .ok (.invokestatic 84, 3) := by decide +kernel
theorem dX6_stands_11 : decode cX6_stands 11 = .ok (.ifCond .ne 11, 3) := by decide +kernel
theorem dX6_stands_14 : decode cX6_stands 14 = .ok (.iload_n 2, 1) := by decide +kernel
theorem dX6_stands_15 : decode cX6_stands 15 = .ok (.iconst 3, 1) := by decide +kernel
theorem dX6_stands_16 : decode cX6_stands 16 = .ok (.invokestatic 84, 3) := by decide +kernel
theorem dX6_stands_19 : decode cX6_stands 19 = .ok (.ifCond .eq 6, 3) := by decide +kernel
theorem dX6_stands_22 : decode cX6_stands 22 = .ok (.bipush (-2), 2) := by decide +kernel
theorem dX6_stands_24 : decode cX6_stands 24 = .ok (.ireturn, 1) := by decide +kernel
theorem dX6_stands_25 : decode cX6_stands 25 = .ok (.aload_n 0, 1) := by decide +kernel
theorem dX6_stands_26 : decode cX6_stands 26 = .ok (.invokevirtual 143, 3) := by decide +kernel
theorem dX6_stands_29 : decode cX6_stands 29 = .ok (.iload_n 2, 1) := by decide +kernel
theorem dX6_stands_30 : decode cX6_stands 30 = .ok (.ifCond .ne 21, 3) := by decide +kernel
theorem dX6_stands_33 : decode cX6_stands 33 = .ok (.aload_n 0, 1) := by decide +kernel
theorem dX6_stands_34 : decode cX6_stands 34 = .ok (.getfield 50, 3) := by decide +kernel
theorem dX6_stands_37 : decode cX6_stands 37 = .ok (.getfield 146, 3) := by decide +kernel
theorem dX6_stands_40 : decode cX6_stands 40 = .ok (.iload_n 1, 1) := by decide +kernel
theorem dX6_stands_41 : decode cX6_stands 41 = .ok (.baload, 1) := by decide +kernel
theorem dX6_stands_42 : decode cX6_stands 42 = .ok (.ifCond .eq 7, 3) := by decide +kernel
theorem dX6_stands_45 : decode cX6_stands 45 = .ok (.iconst 1, 1) := by decide +kernel
theorem dX6_stands_46 : decode cX6_stands 46 = .ok (.goto 4, 3) := by decide +kernel
theorem dX6_stands_49 : decode cX6_stands 49 = .ok (.iconst 0, 1) := by decide +kernel
theorem dX6_stands_50 : decode cX6_stands 50 = .ok (.ireturn, 1) := by decide +kernel
theorem dX6_stands_51 : decode cX6_stands 51 = .ok (.iload_n 2, 1) := by decide +kernel
theorem dX6_stands_52 : decode cX6_stands 52 = .ok (.iconst 1, 1) := by decide +kernel
theorem dX6_stands_53 : decode cX6_stands 53 = .ok (.if_icmp .ne 15, 3) := by decide +kernel
theorem dX6_stands_56 : decode cX6_stands 56 = .ok (.aload_n 0, 1) := by decide +kernel
theorem dX6_stands_57 : decode cX6_stands 57 = .ok (.getfield 50, 3) := by decide +kernel
theorem dX6_stands_60 : decode cX6_stands 60 = .ok (.getfield 150, 3) := by decide +kernel
theorem dX6_stands_63 : decode cX6_stands 63 = .ok (.iload_n 1, 1) := by decide +kernel
theorem dX6_stands_64 : decode cX6_stands 64 = .ok (.iaload, 1) := by decide +kernel
theorem dX6_stands_65 : decode cX6_stands 65 = .ok (.goto 11, 3) := by decide +kernel
theorem dX6_stands_68 : decode cX6_stands 68 = .ok (.aload_n 0, 1) := by decide +kernel
theorem dX6_stands_69 : decode cX6_stands 69 = .ok (.getfield 50, 3) := by decide +kernel
theorem dX6_stands_72 : decode cX6_stands 72 = .ok (.iload_n 1, 1) := by decide +kernel
theorem dX6_stands_73 : decode cX6_stands 73 = .ok (.invokevirtual 153, 3) := by decide +kernel
theorem dX6_stands_76 : decode cX6_stands 76 = .ok (.ireturn, 1) := by decide +kernel
theorem dX6_man_0 : decode cX6_man 0 = .ok (.iload_n 1, 1) := by decide +kernel
theorem dX6_man_1 : decode cX6_man 1 = .ok (.bipush 24, 2) := by decide +kernel
theorem dX6_man_3 : decode cX6_man 3 = .ok (.invokestatic 84, 3) := by decide +kernel
theorem dX6_man_6 : decode cX6_man 6 = .ok (.ifCond .ne 20, 3) := by decide +kernel
theorem dX6_man_9 : decode cX6_man 9 = .ok (.iload_n 2, 1) := by decide +kernel
theorem dX6_man_10 : decode cX6_man 10 = .ok (.bipush 8, 2) := by decide +kernel
theorem dX6_man_12 : decode cX6_man 12 = .ok (.invokestatic 84, 3) := by decide +kernel
theorem dX6_man_15 : decode cX6_man 15 = .ok (.ifCond .ne 11, 3) := by decide +kernel
theorem dX6_man_18 : decode cX6_man 18 = .ok (.iload_n 3, 1) := by decide +kernel
theorem dX6_man_19 : decode cX6_man 19 = .ok (.iconst 2, 1) := by decide +kernel
theorem dX6_man_20 : decode cX6_man 20 = .ok (.invokestatic 84, 3) := by decide +kernel
theorem dX6_man_23 : decode cX6_man 23 = .ok (.ifCond .eq 6, 3) := by decide +kernel
theorem dX6_man_26 : decode cX6_man 26 = .ok (.bipush (-2), 2) := by decide +kernel
theorem dX6_man_28 : decode cX6_man 28 = .ok (.ireturn, 1) := by decide +kernel
theorem dX6_man_29 : decode cX6_man 29 = .ok (.aload_n 0, 1) := by decide +kernel
theorem dX6_man_30 : decode cX6_man 30 = .ok (.invokevirtual 143, 3) := by decide +kernel
theorem dX6_man_33 : decode cX6_man 33 = .ok (.aload_n 0, 1) := by decide +kernel
theorem dX6_man_34 : decode cX6_man 34 = .ok (.getfield 50, 3) := by decide +kernel
theorem dX6_man_37 : decode cX6_man 37 = .ok (.iload_n 1, 1) := by decide +kernel
theorem dX6_man_38 : decode cX6_man 38 = .ok (.iload_n 2, 1) := by decide +kernel
theorem dX6_man_39 : decode cX6_man 39 = .ok (.invokevirtual 156, 3) := by decide +kernel
theorem dX6_man_42 : decode cX6_man 42 = .ok (.istore 4, 2) := by decide +kernel
theorem dX6_man_44 : decode cX6_man 44 = .ok (.iload_n 3, 1) := by decide +kernel
theorem dX6_man_45 : decode cX6_man 45 = .ok (.ifCond .ne 12, 3) := by decide +kernel
theorem dX6_man_48 : decode cX6_man 48 = .ok (.iconst 0, 1) := by decide +kernel
theorem dX6_man_49 : decode cX6_man 49 = .ok (.iload 4, 2) := by decide +kernel
theorem dX6_man_51 : decode cX6_man 51 = .ok (.invokestatic 160, 3) := by decide +kernel
theorem dX6_man_54 : decode cX6_man 54 = .ok (.goto 8, 3) := by decide +kernel
theorem dX6_man_57 : decode cX6_man 57 = .ok (.iload 4, 2) := by decide +kernel
theorem dX6_man_59 : decode cX6_man 59 = .ok (.invokestatic 165, 3) := by decide +kernel
theorem dX6_man_62 : decode cX6_man 62 = .ok (.ireturn, 1) := by decide +kernel
theorem dX6_belief_0 : decode cX6_belief 0 = .ok (.iload_n 1, 1) := by decide +kernel
theorem dX6_belief_1 : decode cX6_belief 1 = .ok (.aload_n 0, 1) := by decide +kernel
theorem dX6_belief_2 : decode cX6_belief 2 = .ok (.getfield 34, 3) := by decide +kernel
theorem dX6_belief_5 : decode cX6_belief 5 = .ok (.getfield 118, 3) := by decide +kernel
theorem dX6_belief_8 : decode cX6_belief 8 = .ok (.invokestatic 84, 3) := by decide +kernel
theorem dX6_belief_11 : decode cX6_belief 11 = .ok (.ifCond .eq 6, 3) := by decide +kernel
theorem dX6_belief_14 : decode cX6_belief 14 = .ok (.ldc 168, 2) := by decide +kernel
theorem dX6_belief_16 : decode cX6_belief 16 = .ok (.ireturn, 1) := by decide +kernel
theorem dX6_belief_17 : decode cX6_belief 17 = .ok (.aload_n 0, 1) := by decide +kernel
theorem dX6_belief_18 : decode cX6_belief 18 = .ok (.invokevirtual 143, 3) := by decide +kernel
theorem dX6_belief_21 : decode cX6_belief 21 = .ok (.aload_n 0, 1) := by decide +kernel
theorem dX6_belief_22 : decode cX6_belief 22 = .ok (.getfield 50, 3) := by decide +kernel
theorem dX6_belief_25 : decode cX6_belief 25 = .ok (.aload_n 0, 1) := by decide +kernel
theorem dX6_belief_26 : decode cX6_belief 26 = .ok (.getfield 34, 3) := by decide +kernel
theorem dX6_belief_29 : decode cX6_belief 29 = .ok (.getfield 119, 3) := by decide +kernel
theorem dX6_belief_32 : decode cX6_belief 32 = .ok (.iload_n 1, 1) := by decide +kernel
theorem dX6_belief_33 : decode cX6_belief 33 = .ok (.iaload, 1) := by decide +kernel
theorem dX6_belief_34 : decode cX6_belief 34 = .ok (.aload_n 0, 1) := by decide +kernel
theorem dX6_belief_35 : decode cX6_belief 35 = .ok (.getfield 34, 3) := by decide +kernel
theorem dX6_belief_38 : decode cX6_belief 38 = .ok (.getfield 120, 3) := by decide +kernel
theorem dX6_belief_41 : decode cX6_belief 41 = .ok (.iload_n 1, 1) := by decide +kernel
theorem dX6_belief_42 : decode cX6_belief 42 = .ok (.iaload, 1) := by decide +kernel
theorem dX6_belief_43 : decode cX6_belief 43 = .ok (.invokevirtual 169, 3) := by decide +kernel
theorem dX6_belief_46 : decode cX6_belief 46 = .ok (.ireturn, 1) := by decide +kernel
theorem dX6_cleared_0 : decode cX6_cleared 0 = .ok (.iload_n 1, 1) := by decide +kernel
theorem dX6_cleared_1 : decode cX6_cleared 1 = .ok (.aload_n 0, 1) := by decide +kernel
theorem dX6_cleared_2 : decode cX6_cleared 2 = .ok (.getfield 34, 3) := by decide +kernel
theorem dX6_cleared_5 : decode cX6_cleared 5 = .ok (.getfield 118, 3) := by decide +kernel
theorem dX6_cleared_8 : decode cX6_cleared 8 = .ok (.invokestatic 84, 3) := by decide +kernel
theorem dX6_cleared_11 : decode cX6_cleared 11 = .ok (.ifCond .ne 11, 3) := by decide +kernel
theorem dX6_cleared_14 : decode cX6_cleared 14 = .ok (.iload_n 2, 1) := by decide +kernel
theorem dX6_cleared_15 : decode cX6_cleared 15 = .ok (.iconst 2, 1) := by decide +kernel
theorem dX6_cleared_16 : decode cX6_cleared 16 = .ok (.invokestatic 84, 3) := by decide +kernel
theorem dX6_cleared_19 : decode cX6_cleared 19 = .ok (.ifCond .eq 6, 3) := by decide +kernel
theorem dX6_cleared_22 : decode cX6_cleared 22 = .ok (.bipush (-2), 2) := by decide +kernel
theorem dX6_cleared_24 : decode cX6_cleared 24 = .ok (.ireturn, 1) := by decide +kernel
theorem dX6_cleared_25 : decode cX6_cleared 25 = .ok (.aload_n 0, 1) := by decide +kernel
theorem dX6_cleared_26 : decode cX6_cleared 26 = .ok (.invokevirtual 143, 3) := by decide +kernel
theorem dX6_cleared_29 : decode cX6_cleared 29 = .ok (.aload_n 0, 1) := by decide +kernel
theorem dX6_cleared_30 : decode cX6_cleared 30 = .ok (.getfield 34, 3) := by decide +kernel
theorem dX6_cleared_33 : decode cX6_cleared 33 = .ok (.getfield 119, 3) := by decide +kernel
theorem dX6_cleared_36 : decode cX6_cleared 36 = .ok (.iload_n 1, 1) := by decide +kernel
theorem dX6_cleared_37 : decode cX6_cleared 37 = .ok (.iaload, 1) := by decide +kernel
theorem dX6_cleared_38 : decode cX6_cleared 38 = .ok (.istore_n 3, 1) := by decide +kernel
theorem dX6_cleared_39 : decode cX6_cleared 39 = .ok (.aload_n 0, 1) := by decide +kernel
theorem dX6_cleared_40 : decode cX6_cleared 40 = .ok (.getfield 34, 3) := by decide +kernel
theorem dX6_cleared_43 : decode cX6_cleared 43 = .ok (.getfield 120, 3) := by decide +kernel
theorem dX6_cleared_46 : decode cX6_cleared 46 = .ok (.iload_n 1, 1) := by decide +kernel
theorem dX6_cleared_47 : decode cX6_cleared 47 = .ok (.iaload, 1) := by decide +kernel
theorem dX6_cleared_48 : decode cX6_cleared 48 = .ok (.istore 4, 2) := by decide +kernel
theorem dX6_cleared_50 : decode cX6_cleared 50 = .ok (.iload_n 2, 1) := by decide +kernel
theorem dX6_cleared_51 : decode cX6_cleared 51 = .ok (.ifCond .ne 26, 3) := by decide +kernel
theorem dX6_cleared_54 : decode cX6_cleared 54 = .ok (.aload_n 0, 1) := by decide +kernel
theorem dX6_cleared_55 : decode cX6_cleared 55 = .ok (.getfield 50, 3) := by decide +kernel
theorem dX6_cleared_58 : decode cX6_cleared 58 = .ok (.iload_n 3, 1) := by decide +kernel
theorem dX6_cleared_59 : decode cX6_cleared 59 = .ok (.iload 4, 2) := by decide +kernel
theorem dX6_cleared_61 : decode cX6_cleared 61 = .ok (.invokevirtual 169, 3) := by decide +kernel
theorem dX6_cleared_64 : decode cX6_cleared 64 = .ok (.aload_n 0, 1) := by decide +kernel
theorem dX6_cleared_65 : decode cX6_cleared 65 = .ok (.getfield 74, 3) := by decide +kernel
theorem dX6_cleared_68 : decode cX6_cleared 68 = .ok (.if_icmp .lt 7, 3) := by decide +kernel
theorem dX6_cleared_71 : decode cX6_cleared 71 = .ok (.iconst 1, 1) := by decide +kernel
theorem dX6_cleared_72 : decode cX6_cleared 72 = .ok (.goto 4, 3) := by decide +kernel
theorem dX6_cleared_75 : decode cX6_cleared 75 = .ok (.iconst 0, 1) := by decide +kernel
theorem dX6_cleared_76 : decode cX6_cleared 76 = .ok (.ireturn, 1) := by decide +kernel
theorem dX6_cleared_77 : decode cX6_cleared 77 = .ok (.aload_n 0, 1) := by decide +kernel
theorem dX6_cleared_78 : decode cX6_cleared 78 = .ok (.getfield 50, 3) := by decide +kernel
theorem dX6_cleared_81 : decode cX6_cleared 81 = .ok (.iload_n 3, 1) := by decide +kernel
theorem dX6_cleared_82 : decode cX6_cleared 82 = .ok (.iload 4, 2) := by decide +kernel
theorem dX6_cleared_84 : decode cX6_cleared 84 = .ok (.invokevirtual 172, 3) := by decide +kernel
theorem dX6_cleared_87 : decode cX6_cleared 87 = .ok (.ireturn, 1) := by decide +kernel
theorem dX6_sum_0 : decode cX6_sum 0 = .ok (.iload_n 1, 1) := by decide +kernel
theorem dX6_sum_1 : decode cX6_sum 1 = .ok (.iconst 4, 1) := by decide +kernel
theorem dX6_sum_2 : decode cX6_sum 2 = .ok (.invokestatic 84, 3) := by decide +kernel
theorem dX6_sum_5 : decode cX6_sum 5 = .ok (.ifCond .eq 6, 3) := by decide +kernel
theorem dX6_sum_8 : decode cX6_sum 8 = .ok (.bipush (-2), 2) := by decide +kernel
theorem dX6_sum_10 : decode cX6_sum 10 = .ok (.ireturn, 1) := by decide +kernel
theorem dX6_sum_11 : decode cX6_sum 11 = .ok (.aload_n 0, 1) := by decide +kernel
theorem dX6_sum_12 : decode cX6_sum 12 = .ok (.aload_n 0, 1) := by decide +kernel
theorem dX6_sum_13 : decode cX6_sum 13 = .ok (.getfield 24, 3) := by decide +kernel
theorem dX6_sum_16 : decode cX6_sum 16 = .ok (.aload_n 0, 1) := by decide +kernel
theorem dX6_sum_17 : decode cX6_sum 17 = .ok (.getfield 41, 3) := by decide +kernel
theorem dX6_sum_20 : decode cX6_sum 20 = .ok (.invokevirtual 175, 3) := by decide +kernel
theorem dX6_sum_23 : decode cX6_sum 23 = .ok (.invokevirtual 178, 3) := by decide +kernel
theorem dX6_sum_26 : decode cX6_sum 26 = .ok (.istore_n 2, 1) := by decide +kernel
theorem dX6_sum_27 : decode cX6_sum 27 = .ok (.iload_n 1, 1) := by decide +kernel
theorem dX6_sum_28 : decode cX6_sum 28 = .ok (.tableswitch 50 0 2 #[28, 33, 41], 28) := by decide +kernel
theorem dX6_sum_56 : decode cX6_sum 56 = .ok (.iload_n 2, 1) := by decide +kernel
theorem dX6_sum_57 : decode cX6_sum 57 = .ok (.invokestatic 182, 3) := by decide +kernel
theorem dX6_sum_60 : decode cX6_sum 60 = .ok (.ireturn, 1) := by decide +kernel
theorem dX6_sum_61 : decode cX6_sum 61 = .ok (.aload_n 0, 1) := by decide +kernel
theorem dX6_sum_62 : decode cX6_sum 62 = .ok (.getfield 50, 3) := by decide +kernel
theorem dX6_sum_65 : decode cX6_sum 65 = .ok (.getfield 187, 3) := by decide +kernel
theorem dX6_sum_68 : decode cX6_sum 68 = .ok (.ireturn, 1) := by decide +kernel
theorem dX6_sum_69 : decode cX6_sum 69 = .ok (.aload_n 0, 1) := by decide +kernel
theorem dX6_sum_70 : decode cX6_sum 70 = .ok (.getfield 50, 3) := by decide +kernel
theorem dX6_sum_73 : decode cX6_sum 73 = .ok (.iconst 1, 1) := by decide +kernel
theorem dX6_sum_74 : decode cX6_sum 74 = .ok (.invokevirtual 190, 3) := by decide +kernel
theorem dX6_sum_77 : decode cX6_sum 77 = .ok (.ireturn, 1) := by decide +kernel
theorem dX6_sum_78 : decode cX6_sum 78 = .ok (.aload_n 0, 1) := by decide +kernel
theorem dX6_sum_79 : decode cX6_sum 79 = .ok (.getfield 50, 3) := by decide +kernel
theorem dX6_sum_82 : decode cX6_sum 82 = .ok (.iconst 3, 1) := by decide +kernel
theorem dX6_sum_83 : decode cX6_sum 83 = .ok (.invokevirtual 190, 3) := by decide +kernel
theorem dX6_sum_86 : decode cX6_sum 86 = .ok (.ireturn, 1) := by decide +kernel
theorem dX6_liar_0 : decode cX6_liar 0 = .ok (.aload_n 0, 1) := by decide +kernel
theorem dX6_liar_1 : decode cX6_liar 1 = .ok (.invokevirtual 143, 3) := by decide +kernel
theorem dX6_liar_4 : decode cX6_liar 4 = .ok (.iconst (-1), 1) := by decide +kernel
theorem dX6_liar_5 : decode cX6_liar 5 = .ok (.istore_n 1, 1) := by decide +kernel
theorem dX6_liar_6 : decode cX6_liar 6 = .ok (.iconst 0, 1) := by decide +kernel
theorem dX6_liar_7 : decode cX6_liar 7 = .ok (.istore_n 2, 1) := by decide +kernel
theorem dX6_liar_8 : decode cX6_liar 8 = .ok (.iconst 0, 1) := by decide +kernel
theorem dX6_liar_9 : decode cX6_liar 9 = .ok (.istore_n 3, 1) := by decide +kernel
theorem dX6_liar_10 : decode cX6_liar 10 = .ok (.iload_n 3, 1) := by decide +kernel
theorem dX6_liar_11 : decode cX6_liar 11 = .ok (.bipush 10, 2) := by decide +kernel
theorem dX6_liar_13 : decode cX6_liar 13 = .ok (.if_icmp .ge 30, 3) := by decide +kernel
theorem dX6_liar_16 : decode cX6_liar 16 = .ok (.aload_n 0, 1) := by decide +kernel
theorem dX6_liar_17 : decode cX6_liar 17 = .ok (.getfield 50, 3) := by decide +kernel
theorem dX6_liar_20 : decode cX6_liar 20 = .ok (.iload_n 3, 1) := by decide +kernel
theorem dX6_liar_21 : decode cX6_liar 21 = .ok (.invokevirtual 193, 3) := by decide +kernel
theorem dX6_liar_24 : decode cX6_liar 24 = .ok (.istore 4, 2) := by decide +kernel
theorem dX6_liar_26 : decode cX6_liar 26 = .ok (.iload 4, 2) := by decide +kernel
theorem dX6_liar_28 : decode cX6_liar 28 = .ok (.iload_n 2, 1) := by decide +kernel
theorem dX6_liar_29 : decode cX6_liar 29 = .ok (.if_icmp .le 8, 3) := by decide +kernel
theorem dX6_liar_32 : decode cX6_liar 32 = .ok (.iload_n 3, 1) := by decide +kernel
theorem dX6_liar_33 : decode cX6_liar 33 = .ok (.istore_n 1, 1) := by decide +kernel
theorem dX6_liar_34 : decode cX6_liar 34 = .ok (.iload 4, 2) := by decide +kernel
theorem dX6_liar_36 : decode cX6_liar 36 = .ok (.istore_n 2, 1) := by decide +kernel
theorem dX6_liar_37 : decode cX6_liar 37 = .ok (.iinc 3 1, 3) := by decide +kernel
theorem dX6_liar_40 : decode cX6_liar 40 = .ok (.goto (-30), 3) := by decide +kernel
theorem dX6_liar_43 : decode cX6_liar 43 = .ok (.iload_n 1, 1) := by decide +kernel
theorem dX6_liar_44 : decode cX6_liar 44 = .ok (.ireturn, 1) := by decide +kernel
theorem dX6_best_0 : decode cX6_best 0 = .ok (.aload_n 0, 1) := by decide +kernel
theorem dX6_best_1 : decode cX6_best 1 = .ok (.invokevirtual 143, 3) := by decide +kernel
theorem dX6_best_4 : decode cX6_best 4 = .ok (.iconst (-1), 1) := by decide +kernel
theorem dX6_best_5 : decode cX6_best 5 = .ok (.istore_n 1, 1) := by decide +kernel
theorem dX6_best_6 : decode cX6_best 6 = .ok (.iconst (-1), 1) := by decide +kernel
theorem dX6_best_7 : decode cX6_best 7 = .ok (.istore_n 2, 1) := by decide +kernel
theorem dX6_best_8 : decode cX6_best 8 = .ok (.iconst 0, 1) := by decide +kernel
theorem dX6_best_9 : decode cX6_best 9 = .ok (.istore_n 3, 1) := by decide +kernel
theorem dX6_best_10 : decode cX6_best 10 = .ok (.iload_n 3, 1) := by decide +kernel
theorem dX6_best_11 : decode cX6_best 11 = .ok (.bipush 8, 2) := by decide +kernel
theorem dX6_best_13 : decode cX6_best 13 = .ok (.if_icmp .ge 32, 3) := by decide +kernel
theorem dX6_best_16 : decode cX6_best 16 = .ok (.aload_n 0, 1) := by decide +kernel
theorem dX6_best_17 : decode cX6_best 17 = .ok (.getfield 50, 3) := by decide +kernel
theorem dX6_best_20 : decode cX6_best 20 = .ok (.bipush 23, 2) := by decide +kernel
theorem dX6_best_22 : decode cX6_best 22 = .ok (.iload_n 3, 1) := by decide +kernel
theorem dX6_best_23 : decode cX6_best 23 = .ok (.invokevirtual 156, 3) := by decide +kernel
theorem dX6_best_26 : decode cX6_best 26 = .ok (.istore 4, 2) := by decide +kernel
theorem dX6_best_28 : decode cX6_best 28 = .ok (.iload 4, 2) := by decide +kernel
theorem dX6_best_30 : decode cX6_best 30 = .ok (.iload_n 2, 1) := by decide +kernel
theorem dX6_best_31 : decode cX6_best 31 = .ok (.if_icmp .le 8, 3) := by decide +kernel
theorem dX6_best_34 : decode cX6_best 34 = .ok (.iload_n 3, 1) := by decide +kernel
theorem dX6_best_35 : decode cX6_best 35 = .ok (.istore_n 1, 1) := by decide +kernel
theorem dX6_best_36 : decode cX6_best 36 = .ok (.iload 4, 2) := by decide +kernel
theorem dX6_best_38 : decode cX6_best 38 = .ok (.istore_n 2, 1) := by decide +kernel
theorem dX6_best_39 : decode cX6_best 39 = .ok (.iinc 3 1, 3) := by decide +kernel
theorem dX6_best_42 : decode cX6_best 42 = .ok (.goto (-32), 3) := by decide +kernel
theorem dX6_best_45 : decode cX6_best 45 = .ok (.iload_n 1, 1) := by decide +kernel
theorem dX6_best_46 : decode cX6_best 46 = .ok (.ireturn, 1) := by decide +kernel
theorem dX6_where_0 : decode cX6_where 0 = .ok (.iload_n 1, 1) := by decide +kernel
theorem dX6_where_1 : decode cX6_where 1 = .ok (.bipush 24, 2) := by decide +kernel
theorem dX6_where_3 : decode cX6_where 3 = .ok (.invokestatic 84, 3) := by decide +kernel
theorem dX6_where_6 : decode cX6_where 6 = .ok (.ifCond .eq 6, 3) := by decide +kernel
theorem dX6_where_9 : decode cX6_where 9 = .ok (.bipush (-2), 2) := by decide +kernel
theorem dX6_where_11 : decode cX6_where 11 = .ok (.ireturn, 1) := by decide +kernel
theorem dX6_where_12 : decode cX6_where 12 = .ok (.aload_n 0, 1) := by decide +kernel
theorem dX6_where_13 : decode cX6_where 13 = .ok (.invokevirtual 143, 3) := by decide +kernel
theorem dX6_where_16 : decode cX6_where 16 = .ok (.aload_n 0, 1) := by decide +kernel
theorem dX6_where_17 : decode cX6_where 17 = .ok (.getfield 50, 3) := by decide +kernel
theorem dX6_where_20 : decode cX6_where 20 = .ok (.iconst 0, 1) := by decide +kernel
theorem dX6_where_21 : decode cX6_where 21 = .ok (.invokevirtual 196, 3) := by decide +kernel
theorem dX6_where_24 : decode cX6_where 24 = .ok (.istore_n 2, 1) := by decide +kernel
theorem dX6_where_25 : decode cX6_where 25 = .ok (.iconst 1, 1) := by decide +kernel
theorem dX6_where_26 : decode cX6_where 26 = .ok (.istore_n 3, 1) := by decide +kernel
theorem dX6_where_27 : decode cX6_where 27 = .ok (.iload_n 3, 1) := by decide +kernel
theorem dX6_where_28 : decode cX6_where 28 = .ok (.iload_n 1, 1) := by decide +kernel
theorem dX6_where_29 : decode cX6_where 29 = .ok (.if_icmp .gt 23, 3) := by decide +kernel
theorem dX6_where_32 : decode cX6_where 32 = .ok (.iload_n 2, 1) := by decide +kernel
theorem dX6_where_33 : decode cX6_where 33 = .ok (.invokestatic 199, 3) := by decide +kernel
theorem dX6_where_36 : decode cX6_where 36 = .ok (.aload_n 0, 1) := by decide +kernel
theorem dX6_where_37 : decode cX6_where 37 = .ok (.getfield 50, 3) := by decide +kernel
theorem dX6_where_40 : decode cX6_where 40 = .ok (.iload_n 3, 1) := by decide +kernel
theorem dX6_where_41 : decode cX6_where 41 = .ok (.invokevirtual 196, 3) := by decide +kernel
theorem dX6_where_44 : decode cX6_where 44 = .ok (.iand, 1) := by decide +kernel
theorem dX6_where_45 : decode cX6_where 45 = .ok (.istore_n 2, 1) := by decide +kernel
theorem dX6_where_46 : decode cX6_where 46 = .ok (.iinc 3 1, 3) := by decide +kernel
theorem dX6_where_49 : decode cX6_where 49 = .ok (.goto (-22), 3) := by decide +kernel
theorem dX6_where_52 : decode cX6_where 52 = .ok (.aload_n 0, 1) := by decide +kernel
theorem dX6_where_53 : decode cX6_where 53 = .ok (.getfield 50, 3) := by decide +kernel
theorem dX6_where_56 : decode cX6_where 56 = .ok (.bipush 23, 2) := by decide +kernel
theorem dX6_where_58 : decode cX6_where 58 = .ok (.invokevirtual 196, 3) := by decide +kernel
theorem dX6_where_61 : decode cX6_where 61 = .ok (.istore_n 3, 1) := by decide +kernel
theorem dX6_where_62 : decode cX6_where 62 = .ok (.bipush 22, 2) := by decide +kernel
theorem dX6_where_64 : decode cX6_where 64 = .ok (.istore 4, 2) := by decide +kernel
theorem dX6_where_66 : decode cX6_where 66 = .ok (.iload 4, 2) := by decide +kernel
theorem dX6_where_68 : decode cX6_where 68 = .ok (.iload_n 1, 1) := by decide +kernel
theorem dX6_where_69 : decode cX6_where 69 = .ok (.if_icmp .lt 24, 3) := by decide +kernel
theorem dX6_where_72 : decode cX6_where 72 = .ok (.iload_n 3, 1) := by decide +kernel
theorem dX6_where_73 : decode cX6_where 73 = .ok (.invokestatic 199, 3) := by decide +kernel
theorem dX6_where_76 : decode cX6_where 76 = .ok (.aload_n 0, 1) := by decide +kernel
theorem dX6_where_77 : decode cX6_where 77 = .ok (.getfield 50, 3) := by decide +kernel
theorem dX6_where_80 : decode cX6_where 80 = .ok (.iload 4, 2) := by decide +kernel
theorem dX6_where_82 : decode cX6_where 82 = .ok (.invokevirtual 196, 3) := by decide +kernel
theorem dX6_where_85 : decode cX6_where 85 = .ok (.iand, 1) := by decide +kernel
theorem dX6_where_86 : decode cX6_where 86 = .ok (.istore_n 3, 1) := by decide +kernel
theorem dX6_where_87 : decode cX6_where 87 = .ok (.iinc 4 (-1), 3) := by decide +kernel
theorem dX6_where_90 : decode cX6_where 90 = .ok (.goto (-24), 3) := by decide +kernel
theorem dX6_where_93 : decode cX6_where 93 = .ok (.iload_n 2, 1) := by decide +kernel
theorem dX6_where_94 : decode cX6_where 94 = .ok (.iload_n 3, 1) := by decide +kernel
theorem dX6_where_95 : decode cX6_where 95 = .ok (.iand, 1) := by decide +kernel
theorem dX6_where_96 : decode cX6_where 96 = .ok (.ireturn, 1) := by decide +kernel
theorem dX6_move_0 : decode cX6_move 0 = .ok (.iload_n 1, 1) := by decide +kernel
theorem dX6_move_1 : decode cX6_move 1 = .ok (.aload_n 0, 1) := by decide +kernel
theorem dX6_move_2 : decode cX6_move 2 = .ok (.getfield 24, 3) := by decide +kernel
theorem dX6_move_5 : decode cX6_move 5 = .ok (.getfield 105, 3) := by decide +kernel
theorem dX6_move_8 : decode cX6_move 8 = .ok (.invokestatic 84, 3) := by decide +kernel
theorem dX6_move_11 : decode cX6_move 11 = .ok (.ifCond .ne 11, 3) := by decide +kernel
theorem dX6_move_14 : decode cX6_move 14 = .ok (.iload_n 2, 1) := by decide +kernel
theorem dX6_move_15 : decode cX6_move 15 = .ok (.iconst 2, 1) := by decide +kernel
theorem dX6_move_16 : decode cX6_move 16 = .ok (.invokestatic 84, 3) := by decide +kernel
theorem dX6_move_19 : decode cX6_move 19 = .ok (.ifCond .eq 6, 3) := by decide +kernel
theorem dX6_move_22 : decode cX6_move 22 = .ok (.bipush (-2), 2) := by decide +kernel
theorem dX6_move_24 : decode cX6_move 24 = .ok (.ireturn, 1) := by decide +kernel
theorem dX6_move_25 : decode cX6_move 25 = .ok (.aload_n 0, 1) := by decide +kernel
theorem dX6_move_26 : decode cX6_move 26 = .ok (.getfield 28, 3) := by decide +kernel
theorem dX6_move_29 : decode cX6_move 29 = .ok (.aload_n 0, 1) := by decide +kernel
theorem dX6_move_30 : decode cX6_move 30 = .ok (.getfield 24, 3) := by decide +kernel
theorem dX6_move_33 : decode cX6_move 33 = .ok (.invokevirtual 202, 3) := by decide +kernel
theorem dX6_move_36 : decode cX6_move 36 = .ok (.iconst (-1), 1) := by decide +kernel
theorem dX6_move_37 : decode cX6_move 37 = .ok (.istore_n 3, 1) := by decide +kernel
theorem dX6_move_38 : decode cX6_move 38 = .ok (.iconst (-1), 1) := by decide +kernel
theorem dX6_move_39 : decode cX6_move 39 = .ok (.istore 4, 2) := by decide +kernel
theorem dX6_move_41 : decode cX6_move 41 = .ok (.iconst 0, 1) := by decide +kernel
theorem dX6_move_42 : decode cX6_move 42 = .ok (.istore 5, 2) := by decide +kernel
theorem dX6_move_44 : decode cX6_move 44 = .ok (.iload 5, 2) := by decide +kernel
theorem dX6_move_46 : decode cX6_move 46 = .ok (.bipush 8, 2) := by decide +kernel
theorem dX6_move_48 : decode cX6_move 48 = .ok (.if_icmp .ge 54, 3) := by decide +kernel
theorem dX6_move_51 : decode cX6_move 51 = .ok (.aload_n 0, 1) := by decide +kernel
theorem dX6_move_52 : decode cX6_move 52 = .ok (.getfield 28, 3) := by decide +kernel
theorem dX6_move_55 : decode cX6_move 55 = .ok (.getfield 109, 3) := by decide +kernel
theorem dX6_move_58 : decode cX6_move 58 = .ok (.iload_n 1, 1) := by decide +kernel
theorem dX6_move_59 : decode cX6_move 59 = .ok (.iload 5, 2) := by decide +kernel
theorem dX6_move_61 : decode cX6_move 61 = .ok (.iastore, 1) := by decide +kernel
theorem dX6_move_62 : decode cX6_move 62 = .ok (.aload_n 0, 1) := by decide +kernel
theorem dX6_move_63 : decode cX6_move 63 = .ok (.aload_n 0, 1) := by decide +kernel
theorem dX6_move_64 : decode cX6_move 64 = .ok (.getfield 28, 3) := by decide +kernel
theorem dX6_move_67 : decode cX6_move 67 = .ok (.aload_n 0, 1) := by decide +kernel
theorem dX6_move_68 : decode cX6_move 68 = .ok (.getfield 41, 3) := by decide +kernel
theorem dX6_move_71 : decode cX6_move 71 = .ok (.invokevirtual 175, 3) := by decide +kernel
theorem dX6_move_74 : decode cX6_move 74 = .ok (.invokevirtual 178, 3) := by decide +kernel
theorem dX6_move_77 : decode cX6_move 77 = .ok (.invokestatic 182, 3) := by decide +kernel
theorem dX6_move_80 : decode cX6_move 80 = .ok (.istore 6, 2) := by decide +kernel
theorem dX6_move_82 : decode cX6_move 82 = .ok (.iload 6, 2) := by decide +kernel
theorem dX6_move_84 : decode cX6_move 84 = .ok (.iload 4, 2) := by decide +kernel
theorem dX6_move_86 : decode cX6_move 86 = .ok (.if_icmp .le 10, 3) := by decide +kernel
theorem dX6_move_89 : decode cX6_move 89 = .ok (.iload 5, 2) := by decide +kernel
theorem dX6_move_91 : decode cX6_move 91 = .ok (.istore_n 3, 1) := by decide +kernel
theorem dX6_move_92 : decode cX6_move 92 = .ok (.iload 6, 2) := by decide +kernel
theorem dX6_move_94 : decode cX6_move 94 = .ok (.istore 4, 2) := by decide +kernel
theorem dX6_move_96 : decode cX6_move 96 = .ok (.iinc 5 1, 3) := by decide +kernel
theorem dX6_move_99 : decode cX6_move 99 = .ok (.goto (-55), 3) := by decide +kernel
theorem dX6_move_102 : decode cX6_move 102 = .ok (.iload_n 2, 1) := by decide +kernel
theorem dX6_move_103 : decode cX6_move 103 = .ok (.ifCond .ne 7, 3) := by decide +kernel
theorem dX6_move_106 : decode cX6_move 106 = .ok (.iload_n 3, 1) := by decide +kernel
theorem dX6_move_107 : decode cX6_move 107 = .ok (.goto 5, 3) := by decide +kernel
theorem dX6_move_110 : decode cX6_move 110 = .ok (.iload 4, 2) := by decide +kernel
theorem dX6_move_112 : decode cX6_move 112 = .ok (.ireturn, 1) := by decide +kernel
theorem dX6_drop_0 : decode cX6_drop 0 = .ok (.iload_n 1, 1) := by decide +kernel
theorem dX6_drop_1 : decode cX6_drop 1 = .ok (.iconst 2, 1) := by decide +kernel
theorem dX6_drop_2 : decode cX6_drop 2 = .ok (.invokestatic 84, 3) := by decide +kernel
theorem dX6_drop_5 : decode cX6_drop 5 = .ok (.ifCond .eq 6, 3) := by decide +kernel
theorem dX6_drop_8 : decode cX6_drop 8 = .ok (.bipush (-2), 2) := by decide +kernel
theorem dX6_drop_10 : decode cX6_drop 10 = .ok (.ireturn, 1) := by decide +kernel
theorem dX6_drop_11 : decode cX6_drop 11 = .ok (.iconst (-1), 1) := by decide +kernel
theorem dX6_drop_12 : decode cX6_drop 12 = .ok (.istore_n 2, 1) := by decide +kernel
theorem dX6_drop_13 : decode cX6_drop 13 = .ok (.iconst (-1), 1) := by decide +kernel
theorem dX6_drop_14 : decode cX6_drop 14 = .ok (.istore_n 3, 1) := by decide +kernel
theorem dX6_drop_15 : decode cX6_drop 15 = .ok (.iconst 0, 1) := by decide +kernel
theorem dX6_drop_16 : decode cX6_drop 16 = .ok (.istore 4, 2) := by decide +kernel
theorem dX6_drop_18 : decode cX6_drop 18 = .ok (.iload 4, 2) := by decide +kernel
theorem dX6_drop_20 : decode cX6_drop 20 = .ok (.aload_n 0, 1) := by decide +kernel
theorem dX6_drop_21 : decode cX6_drop 21 = .ok (.getfield 24, 3) := by decide +kernel
theorem dX6_drop_24 : decode cX6_drop 24 = .ok (.getfield 105, 3) := by decide +kernel
theorem dX6_drop_27 : decode cX6_drop 27 = .ok (.if_icmp .ge 61, 3) := by decide +kernel
theorem dX6_drop_30 : decode cX6_drop 30 = .ok (.aload_n 0, 1) := by decide +kernel
theorem dX6_drop_31 : decode cX6_drop 31 = .ok (.getfield 28, 3) := by decide +kernel
theorem dX6_drop_34 : decode cX6_drop 34 = .ok (.aload_n 0, 1) := by decide +kernel
theorem dX6_drop_35 : decode cX6_drop 35 = .ok (.getfield 24, 3) := by decide +kernel
theorem dX6_drop_38 : decode cX6_drop 38 = .ok (.invokevirtual 202, 3) := by decide +kernel
theorem dX6_drop_41 : decode cX6_drop 41 = .ok (.aload_n 0, 1) := by decide +kernel
theorem dX6_drop_42 : decode cX6_drop 42 = .ok (.getfield 28, 3) := by decide +kernel
theorem dX6_drop_45 : decode cX6_drop 45 = .ok (.iload 4, 2) := by decide +kernel
theorem dX6_drop_47 : decode cX6_drop 47 = .ok (.invokevirtual 206, 3) := by decide +kernel
theorem dX6_drop_50 : decode cX6_drop 50 = .ok (.aload_n 0, 1) := by decide +kernel
theorem dX6_drop_51 : decode cX6_drop 51 = .ok (.aload_n 0, 1) := by decide +kernel
theorem dX6_drop_52 : decode cX6_drop 52 = .ok (.getfield 28, 3) := by decide +kernel
theorem dX6_drop_55 : decode cX6_drop 55 = .ok (.aload_n 0, 1) := by decide +kernel
theorem dX6_drop_56 : decode cX6_drop 56 = .ok (.getfield 41, 3) := by decide +kernel
theorem dX6_drop_59 : decode cX6_drop 59 = .ok (.invokevirtual 175, 3) := by decide +kernel
theorem dX6_drop_62 : decode cX6_drop 62 = .ok (.invokevirtual 178, 3) := by decide +kernel
theorem dX6_drop_65 : decode cX6_drop 65 = .ok (.invokestatic 182, 3) := by decide +kernel
theorem dX6_drop_68 : decode cX6_drop 68 = .ok (.istore 5, 2) := by decide +kernel
theorem dX6_drop_70 : decode cX6_drop 70 = .ok (.iload 5, 2) := by decide +kernel
theorem dX6_drop_72 : decode cX6_drop 72 = .ok (.iload_n 3, 1) := by decide +kernel
theorem dX6_drop_73 : decode cX6_drop 73 = .ok (.if_icmp .le 9, 3) := by decide +kernel
theorem dX6_drop_76 : decode cX6_drop 76 = .ok (.iload 4, 2) := by decide +kernel
theorem dX6_drop_78 : decode cX6_drop 78 = .ok (.istore_n 2, 1) := by decide +kernel
theorem dX6_drop_79 : decode cX6_drop 79 = .ok (.iload 5, 2) := by decide +kernel
theorem dX6_drop_81 : decode cX6_drop 81 = .ok (.istore_n 3, 1) := by decide +kernel
theorem dX6_drop_82 : decode cX6_drop 82 = .ok (.iinc 4 1, 3) := by decide +kernel
theorem dX6_drop_85 : decode cX6_drop 85 = .ok (.goto (-67), 3) := by decide +kernel
theorem dX6_drop_88 : decode cX6_drop 88 = .ok (.iload_n 1, 1) := by decide +kernel
theorem dX6_drop_89 : decode cX6_drop 89 = .ok (.ifCond .ne 7, 3) := by decide +kernel
theorem dX6_drop_92 : decode cX6_drop 92 = .ok (.iload_n 2, 1) := by decide +kernel
theorem dX6_drop_93 : decode cX6_drop 93 = .ok (.goto 4, 3) := by decide +kernel
theorem dX6_drop_96 : decode cX6_drop 96 = .ok (.iload_n 3, 1) := by decide +kernel
theorem dX6_drop_97 : decode cX6_drop 97 = .ok (.ireturn, 1) := by decide +kernel
theorem dX6_clean_0 : decode cX6_clean 0 = .ok (.iload_n 1, 1) := by decide +kernel
theorem dX6_clean_1 : decode cX6_clean 1 = .ok (.iconst 2, 1) := by decide +kernel
theorem dX6_clean_2 : decode cX6_clean 2 = .ok (.invokestatic 84, 3) := by decide +kernel
theorem dX6_clean_5 : decode cX6_clean 5 = .ok (.ifCond .eq 6, 3) := by decide +kernel
theorem dX6_clean_8 : decode cX6_clean 8 = .ok (.bipush (-2), 2) := by decide +kernel
theorem dX6_clean_10 : decode cX6_clean 10 = .ok (.ireturn, 1) := by decide +kernel
theorem dX6_clean_11 : decode cX6_clean 11 = .ok (.iconst 0, 1) := by decide +kernel
theorem dX6_clean_12 : decode cX6_clean 12 = .ok (.istore_n 2, 1) := by decide +kernel
theorem dX6_clean_13 : decode cX6_clean 13 = .ok (.iconst 1, 1) := by decide +kernel
theorem dX6_clean_14 : decode cX6_clean 14 = .ok (.istore_n 3, 1) := by decide +kernel
theorem dX6_clean_15 : decode cX6_clean 15 = .ok (.iload_n 3, 1) := by decide +kernel
theorem dX6_clean_16 : decode cX6_clean 16 = .ok (.iconst 1, 1) := by decide +kernel
theorem dX6_clean_17 : decode cX6_clean 17 = .ok (.aload_n 0, 1) := by decide +kernel
theorem dX6_clean_18 : decode cX6_clean 18 = .ok (.getfield 24, 3) := by decide +kernel
theorem dX6_clean_21 : decode cX6_clean 21 = .ok (.getfield 105, 3) := by decide +kernel
theorem dX6_clean_24 : decode cX6_clean 24 = .ok (.ishl, 1) := by decide +kernel
theorem dX6_clean_25 : decode cX6_clean 25 = .ok (.if_icmp .ge 33, 3) := by decide +kernel
theorem dX6_clean_28 : decode cX6_clean 28 = .ok (.iload_n 3, 1) := by decide +kernel
theorem dX6_clean_29 : decode cX6_clean 29 = .ok (.invokestatic 182, 3) := by decide +kernel
theorem dX6_clean_32 : decode cX6_clean 32 = .ok (.iload_n 2, 1) := by decide +kernel
theorem dX6_clean_33 : decode cX6_clean 33 = .ok (.invokestatic 182, 3) := by decide +kernel
theorem dX6_clean_36 : decode cX6_clean 36 = .ok (.if_icmp .le 16, 3) := by decide +kernel
theorem dX6_clean_39 : decode cX6_clean 39 = .ok (.aload_n 0, 1) := by decide +kernel
theorem dX6_clean_40 : decode cX6_clean 40 = .ok (.getfield 24, 3) := by decide +kernel
theorem dX6_clean_43 : decode cX6_clean 43 = .ok (.iload_n 3, 1) := by decide +kernel
theorem dX6_clean_44 : decode cX6_clean 44 = .ok (.invokevirtual 210, 3) := by decide +kernel
theorem dX6_clean_47 : decode cX6_clean 47 = .ok (.ifCond .eq 5, 3) := by decide +kernel
theorem dX6_clean_50 : decode cX6_clean 50 = .ok (.iload_n 3, 1) := by decide +kernel
theorem dX6_clean_51 : decode cX6_clean 51 = .ok (.istore_n 2, 1) := by decide +kernel
theorem dX6_clean_52 : decode cX6_clean 52 = .ok (.iinc 3 1, 3) := by decide +kernel
theorem dX6_clean_55 : decode cX6_clean 55 = .ok (.goto (-40), 3) := by decide +kernel
theorem dX6_clean_58 : decode cX6_clean 58 = .ok (.iload_n 1, 1) := by decide +kernel
theorem dX6_clean_59 : decode cX6_clean 59 = .ok (.ifCond .ne 10, 3) := by decide +kernel
theorem dX6_clean_62 : decode cX6_clean 62 = .ok (.iload_n 2, 1) := by decide +kernel
theorem dX6_clean_63 : decode cX6_clean 63 = .ok (.invokestatic 182, 3) := by decide +kernel
theorem dX6_clean_66 : decode cX6_clean 66 = .ok (.goto 4, 3) := by decide +kernel
theorem dX6_clean_69 : decode cX6_clean 69 = .ok (.iload_n 2, 1) := by decide +kernel
theorem dX6_clean_70 : decode cX6_clean 70 = .ok (.ireturn, 1) := by decide +kernel
theorem dX6_spare_0 : decode cX6_spare 0 = .ok (.iload_n 1, 1) := by decide +kernel
theorem dX6_spare_1 : decode cX6_spare 1 = .ok (.iconst (-1), 1) := by decide +kernel
theorem dX6_spare_2 : decode cX6_spare 2 = .ok (.if_icmp .eq 14, 3) := by decide +kernel
theorem dX6_spare_5 : decode cX6_spare 5 = .ok (.iload_n 1, 1) := by decide +kernel
theorem dX6_spare_6 : decode cX6_spare 6 = .ok (.iconst 2, 1) := by decide +kernel
theorem dX6_spare_7 : decode cX6_spare 7 = .ok (.invokestatic 84, 3) := by decide +kernel
theorem dX6_spare_10 : decode cX6_spare 10 = .ok (.ifCond .eq 6, 3) := by decide +kernel
theorem dX6_spare_13 : decode cX6_spare 13 = .ok (.bipush (-2), 2) := by decide +kernel
theorem dX6_spare_15 : decode cX6_spare 15 = .ok (.ireturn, 1) := by decide +kernel
theorem dX6_spare_16 : decode cX6_spare 16 = .ok (.aload_n 0, 1) := by decide +kernel
theorem dX6_spare_17 : decode cX6_spare 17 = .ok (.invokevirtual 214, 3) := by decide +kernel
theorem dX6_spare_20 : decode cX6_spare 20 = .ok (.istore_n 2, 1) := by decide +kernel
theorem dX6_spare_21 : decode cX6_spare 21 = .ok (.iload_n 2, 1) := by decide +kernel
theorem dX6_spare_22 : decode cX6_spare 22 = .ok (.iconst (-1), 1) := by decide +kernel
theorem dX6_spare_23 : decode cX6_spare 23 = .ok (.if_icmp .ne 5, 3) := by decide +kernel
theorem dX6_spare_26 : decode cX6_spare 26 = .ok (.iconst (-1), 1) := by decide +kernel
theorem dX6_spare_27 : decode cX6_spare 27 = .ok (.ireturn, 1) := by decide +kernel
theorem dX6_spare_28 : decode cX6_spare 28 = .ok (.iload_n 1, 1) := by decide +kernel
theorem dX6_spare_29 : decode cX6_spare 29 = .ok (.iconst (-1), 1) := by decide +kernel
theorem dX6_spare_30 : decode cX6_spare 30 = .ok (.if_icmp .ne 10, 3) := by decide +kernel
theorem dX6_spare_33 : decode cX6_spare 33 = .ok (.iload_n 2, 1) := by decide +kernel
theorem dX6_spare_34 : decode cX6_spare 34 = .ok (.invokestatic 182, 3) := by decide +kernel
theorem dX6_spare_37 : decode cX6_spare 37 = .ok (.goto 8, 3) := by decide +kernel
theorem dX6_spare_40 : decode cX6_spare 40 = .ok (.iload_n 2, 1) := by decide +kernel
theorem dX6_spare_41 : decode cX6_spare 41 = .ok (.iload_n 1, 1) := by decide +kernel
theorem dX6_spare_42 : decode cX6_spare 42 = .ok (.invokestatic 217, 3) := by decide +kernel
theorem dX6_spare_45 : decode cX6_spare 45 = .ok (.ireturn, 1) := by decide +kernel
theorem dX6_seen_0 : decode cX6_seen 0 = .ok (.iload_n 1, 1) := by decide +kernel
theorem dX6_seen_1 : decode cX6_seen 1 = .ok (.bipush 8, 2) := by decide +kernel
theorem dX6_seen_3 : decode cX6_seen 3 = .ok (.invokestatic 84, 3) := by decide +kernel
theorem dX6_seen_6 : decode cX6_seen 6 = .ok (.ifCond .ne 11, 3) := by decide +kernel
theorem dX6_seen_9 : decode cX6_seen 9 = .ok (.iload_n 2, 1) := by decide +kernel
theorem dX6_seen_10 : decode cX6_seen 10 = .ok (.iconst 2, 1) := by decide +kernel
theorem dX6_seen_11 : decode cX6_seen 11 = .ok (.invokestatic 84, 3) := by decide +kernel
theorem dX6_seen_14 : decode cX6_seen 14 = .ok (.ifCond .eq 6, 3) := by decide +kernel
theorem dX6_seen_17 : decode cX6_seen 17 = .ok (.bipush (-2), 2) := by decide +kernel
theorem dX6_seen_19 : decode cX6_seen 19 = .ok (.ireturn, 1) := by decide +kernel
theorem dX6_seen_20 : decode cX6_seen 20 = .ok (.aload_n 0, 1) := by decide +kernel
theorem dX6_seen_21 : decode cX6_seen 21 = .ok (.getfield 78, 3) := by decide +kernel
theorem dX6_seen_24 : decode cX6_seen 24 = .ok (.bipush 8, 2) := by decide +kernel
theorem dX6_seen_26 : decode cX6_seen 26 = .ok (.if_icmp .lt 6, 3) := by decide +kernel
theorem dX6_seen_29 : decode cX6_seen 29 = .ok (.bipush (-4), 2) := by decide +kernel
theorem dX6_seen_31 : decode cX6_seen 31 = .ok (.ireturn, 1) := by decide +kernel
theorem dX6_seen_32 : decode cX6_seen 32 = .ok (.aload_n 0, 1) := by decide +kernel
theorem dX6_seen_33 : decode cX6_seen 33 = .ok (.getfield 54, 3) := by decide +kernel
theorem dX6_seen_36 : decode cX6_seen 36 = .ok (.aload_n 0, 1) := by decide +kernel
theorem dX6_seen_37 : decode cX6_seen 37 = .ok (.getfield 78, 3) := by decide +kernel
theorem dX6_seen_40 : decode cX6_seen 40 = .ok (.iload_n 1, 1) := by decide +kernel
theorem dX6_seen_41 : decode cX6_seen 41 = .ok (.iastore, 1) := by decide +kernel
theorem dX6_seen_42 : decode cX6_seen 42 = .ok (.aload_n 0, 1) := by decide +kernel
theorem dX6_seen_43 : decode cX6_seen 43 = .ok (.getfield 58, 3) := by decide +kernel
theorem dX6_seen_46 : decode cX6_seen 46 = .ok (.aload_n 0, 1) := by decide +kernel
theorem dX6_seen_47 : decode cX6_seen 47 = .ok (.getfield 78, 3) := by decide +kernel
theorem dX6_seen_50 : decode cX6_seen 50 = .ok (.iload_n 2, 1) := by decide +kernel
theorem dX6_seen_51 : decode cX6_seen 51 = .ok (.iastore, 1) := by decide +kernel
theorem dX6_seen_52 : decode cX6_seen 52 = .ok (.aload_n 0, 1) := by decide +kernel
theorem dX6_seen_53 : decode cX6_seen 53 = .ok (.dup, 1) := by decide +kernel
theorem dX6_seen_54 : decode cX6_seen 54 = .ok (.getfield 78, 3) := by decide +kernel
theorem dX6_seen_57 : decode cX6_seen 57 = .ok (.iconst 1, 1) := by decide +kernel
theorem dX6_seen_58 : decode cX6_seen 58 = .ok (.iadd, 1) := by decide +kernel
theorem dX6_seen_59 : decode cX6_seen 59 = .ok (.putfield 78, 3) := by decide +kernel
theorem dX6_seen_62 : decode cX6_seen 62 = .ok (.aload_n 0, 1) := by decide +kernel
theorem dX6_seen_63 : decode cX6_seen 63 = .ok (.getfield 78, 3) := by decide +kernel
theorem dX6_seen_66 : decode cX6_seen 66 = .ok (.ireturn, 1) := by decide +kernel
theorem dX6_forget_0 : decode cX6_forget 0 = .ok (.aload_n 0, 1) := by decide +kernel
theorem dX6_forget_1 : decode cX6_forget 1 = .ok (.getfield 78, 3) := by decide +kernel
theorem dX6_forget_4 : decode cX6_forget 4 = .ok (.istore_n 1, 1) := by decide +kernel
theorem dX6_forget_5 : decode cX6_forget 5 = .ok (.aload_n 0, 1) := by decide +kernel
theorem dX6_forget_6 : decode cX6_forget 6 = .ok (.iconst 0, 1) := by decide +kernel
theorem dX6_forget_7 : decode cX6_forget 7 = .ok (.putfield 78, 3) := by decide +kernel
theorem dX6_forget_10 : decode cX6_forget 10 = .ok (.iload_n 1, 1) := by decide +kernel
theorem dX6_forget_11 : decode cX6_forget 11 = .ok (.ireturn, 1) := by decide +kernel
theorem dX6_never_0 : decode cX6_never 0 = .ok (.iconst 0, 1) := by decide +kernel
theorem dX6_never_1 : decode cX6_never 1 = .ok (.istore_n 1, 1) := by decide +kernel
theorem dX6_never_2 : decode cX6_never 2 = .ok (.iconst 0, 1) := by decide +kernel
theorem dX6_never_3 : decode cX6_never 3 = .ok (.istore_n 2, 1) := by decide +kernel
theorem dX6_never_4 : decode cX6_never 4 = .ok (.iload_n 2, 1) := by decide +kernel
theorem dX6_never_5 : decode cX6_never 5 = .ok (.aload_n 0, 1) := by decide +kernel
theorem dX6_never_6 : decode cX6_never 6 = .ok (.getfield 41, 3) := by decide +kernel
theorem dX6_never_9 : decode cX6_never 9 = .ok (.getfield 121, 3) := by decide +kernel
theorem dX6_never_12 : decode cX6_never 12 = .ok (.if_icmp .ge 43, 3) := by decide +kernel
theorem dX6_never_15 : decode cX6_never 15 = .ok (.aload_n 0, 1) := by decide +kernel
theorem dX6_never_16 : decode cX6_never 16 = .ok (.aload_n 0, 1) := by decide +kernel
theorem dX6_never_17 : decode cX6_never 17 = .ok (.aload_n 0, 1) := by decide +kernel
theorem dX6_never_18 : decode cX6_never 18 = .ok (.getfield 24, 3) := by decide +kernel
theorem dX6_never_21 : decode cX6_never 21 = .ok (.aload_n 0, 1) := by decide +kernel
theorem dX6_never_22 : decode cX6_never 22 = .ok (.getfield 41, 3) := by decide +kernel
theorem dX6_never_25 : decode cX6_never 25 = .ok (.invokevirtual 175, 3) := by decide +kernel
theorem dX6_never_28 : decode cX6_never 28 = .ok (.iconst 1, 1) := by decide +kernel
theorem dX6_never_29 : decode cX6_never 29 = .ok (.iload_n 2, 1) := by decide +kernel
theorem dX6_never_30 : decode cX6_never 30 = .ok (.ishl, 1) := by decide +kernel
theorem dX6_never_31 : decode cX6_never 31 = .ok (.iconst (-1), 1) := by decide +kernel
theorem dX6_never_32 : decode cX6_never 32 = .ok (.ixor, 1) := by decide +kernel
theorem dX6_never_33 : decode cX6_never 33 = .ok (.iand, 1) := by decide +kernel
theorem dX6_never_34 : decode cX6_never 34 = .ok (.invokevirtual 178, 3) := by decide +kernel
theorem dX6_never_37 : decode cX6_never 37 = .ok (.invokevirtual 220, 3) := by decide +kernel
theorem dX6_never_40 : decode cX6_never 40 = .ok (.ifCond .eq 9, 3) := by decide +kernel
theorem dX6_never_43 : decode cX6_never 43 = .ok (.iload_n 1, 1) := by decide +kernel
theorem dX6_never_44 : decode cX6_never 44 = .ok (.iconst 1, 1) := by decide +kernel
theorem dX6_never_45 : decode cX6_never 45 = .ok (.iload_n 2, 1) := by decide +kernel
theorem dX6_never_46 : decode cX6_never 46 = .ok (.ishl, 1) := by decide +kernel
theorem dX6_never_47 : decode cX6_never 47 = .ok (.ior, 1) := by decide +kernel
theorem dX6_never_48 : decode cX6_never 48 = .ok (.istore_n 1, 1) := by decide +kernel
theorem dX6_never_49 : decode cX6_never 49 = .ok (.iinc 2 1, 3) := by decide +kernel
theorem dX6_never_52 : decode cX6_never 52 = .ok (.goto (-48), 3) := by decide +kernel
theorem dX6_never_55 : decode cX6_never 55 = .ok (.iload_n 1, 1) := by decide +kernel
theorem dX6_never_56 : decode cX6_never 56 = .ok (.ireturn, 1) := by decide +kernel
theorem dX6_was_0 : decode cX6_was 0 = .ok (.iload_n 1, 1) := by decide +kernel
theorem dX6_was_1 : decode cX6_was 1 = .ok (.aload_n 0, 1) := by decide +kernel
theorem dX6_was_2 : decode cX6_was 2 = .ok (.getfield 24, 3) := by decide +kernel
theorem dX6_was_5 : decode cX6_was 5 = .ok (.getfield 105, 3) := by decide +kernel
theorem dX6_was_8 : decode cX6_was 8 = .ok (.invokestatic 84, 3) := by decide +kernel
theorem dX6_was_11 : decode cX6_was 11 = .ok (.ifCond .ne 11, 3) := by decide +kernel
theorem dX6_was_14 : decode cX6_was 14 = .ok (.iload_n 2, 1) := by decide +kernel
theorem dX6_was_15 : decode cX6_was 15 = .ok (.iconst 2, 1) := by decide +kernel
theorem dX6_was_16 : decode cX6_was 16 = .ok (.invokestatic 84, 3) := by decide +kernel
theorem dX6_was_19 : decode cX6_was 19 = .ok (.ifCond .eq 6, 3) := by decide +kernel
theorem dX6_was_22 : decode cX6_was 22 = .ok (.bipush (-2), 2) := by decide +kernel
theorem dX6_was_24 : decode cX6_was 24 = .ok (.ireturn, 1) := by decide +kernel
theorem dX6_was_25 : decode cX6_was 25 = .ok (.aload_n 0, 1) := by decide +kernel
theorem dX6_was_26 : decode cX6_was 26 = .ok (.getfield 28, 3) := by decide +kernel
theorem dX6_was_29 : decode cX6_was 29 = .ok (.aload_n 0, 1) := by decide +kernel
theorem dX6_was_30 : decode cX6_was 30 = .ok (.getfield 24, 3) := by decide +kernel
theorem dX6_was_33 : decode cX6_was 33 = .ok (.invokevirtual 202, 3) := by decide +kernel
theorem dX6_was_36 : decode cX6_was 36 = .ok (.iload_n 2, 1) := by decide +kernel
theorem dX6_was_37 : decode cX6_was 37 = .ok (.ifCond .ne 13, 3) := by decide +kernel
theorem dX6_was_40 : decode cX6_was 40 = .ok (.aload_n 0, 1) := by decide +kernel
theorem dX6_was_41 : decode cX6_was 41 = .ok (.getfield 28, 3) := by decide +kernel
theorem dX6_was_44 : decode cX6_was 44 = .ok (.getfield 112, 3) := by decide +kernel
theorem dX6_was_47 : decode cX6_was 47 = .ok (.goto 10, 3) := by decide +kernel
theorem dX6_was_50 : decode cX6_was 50 = .ok (.aload_n 0, 1) := by decide +kernel
theorem dX6_was_51 : decode cX6_was 51 = .ok (.getfield 28, 3) := by decide +kernel
theorem dX6_was_54 : decode cX6_was 54 = .ok (.getfield 115, 3) := by decide +kernel
theorem dX6_was_57 : decode cX6_was 57 = .ok (.astore_n 3, 1) := by decide +kernel
theorem dX6_was_58 : decode cX6_was 58 = .ok (.iload_n 2, 1) := by decide +kernel
theorem dX6_was_59 : decode cX6_was 59 = .ok (.ifCond .ne 8, 3) := by decide +kernel
theorem dX6_was_62 : decode cX6_was 62 = .ok (.bipush 10, 2) := by decide +kernel
theorem dX6_was_64 : decode cX6_was 64 = .ok (.goto 4, 3) := by decide +kernel
theorem dX6_was_67 : decode cX6_was 67 = .ok (.iconst 3, 1) := by decide +kernel
theorem dX6_was_68 : decode cX6_was 68 = .ok (.istore 4, 2) := by decide +kernel
theorem dX6_was_70 : decode cX6_was 70 = .ok (.iconst 0, 1) := by decide +kernel
theorem dX6_was_71 : decode cX6_was 71 = .ok (.istore 5, 2) := by decide +kernel
theorem dX6_was_73 : decode cX6_was 73 = .ok (.iconst 0, 1) := by decide +kernel
theorem dX6_was_74 : decode cX6_was 74 = .ok (.istore 6, 2) := by decide +kernel
theorem dX6_was_76 : decode cX6_was 76 = .ok (.iload 6, 2) := by decide +kernel
theorem dX6_was_78 : decode cX6_was 78 = .ok (.iload 4, 2) := by decide +kernel
theorem dX6_was_80 : decode cX6_was 80 = .ok (.if_icmp .ge 45, 3) := by decide +kernel
theorem dX6_was_83 : decode cX6_was 83 = .ok (.aload_n 3, 1) := by decide +kernel
theorem dX6_was_84 : decode cX6_was 84 = .ok (.iload_n 1, 1) := by decide +kernel
theorem dX6_was_85 : decode cX6_was 85 = .ok (.iload 6, 2) := by decide +kernel
theorem dX6_was_87 : decode cX6_was 87 = .ok (.iastore, 1) := by decide +kernel
theorem dX6_was_88 : decode cX6_was 88 = .ok (.aload_n 0, 1) := by decide +kernel
theorem dX6_was_89 : decode cX6_was 89 = .ok (.aload_n 0, 1) := by decide +kernel
theorem dX6_was_90 : decode cX6_was 90 = .ok (.aload_n 0, 1) := by decide +kernel
theorem dX6_was_91 : decode cX6_was 91 = .ok (.getfield 28, 3) := by decide +kernel
theorem dX6_was_94 : decode cX6_was 94 = .ok (.aload_n 0, 1) := by decide +kernel
theorem dX6_was_95 : decode cX6_was 95 = .ok (.getfield 41, 3) := by decide +kernel
theorem dX6_was_98 : decode cX6_was 98 = .ok (.invokevirtual 175, 3) := by decide +kernel
theorem dX6_was_101 : decode cX6_was 101 = .ok (.invokevirtual 178, 3) := by decide +kernel
theorem dX6_was_104 : decode cX6_was 104 = .ok (.invokevirtual 220, 3) := by decide +kernel
theorem dX6_was_107 : decode cX6_was 107 = .ok (.ifCond .eq 12, 3) := by decide +kernel
theorem dX6_was_110 : decode cX6_was 110 = .ok (.iload 5, 2) := by decide +kernel
theorem dX6_was_112 : decode cX6_was 112 = .ok (.iconst 1, 1) := by decide +kernel
theorem dX6_was_113 : decode cX6_was 113 = .ok (.iload 6, 2) := by decide +kernel
theorem dX6_was_115 : decode cX6_was 115 = .ok (.ishl, 1) := by decide +kernel
theorem dX6_was_116 : decode cX6_was 116 = .ok (.ior, 1) := by decide +kernel
theorem dX6_was_117 : decode cX6_was 117 = .ok (.istore 5, 2) := by decide +kernel
theorem dX6_was_119 : decode cX6_was 119 = .ok (.iinc 6 1, 3) := by decide +kernel
theorem dX6_was_122 : decode cX6_was 122 = .ok (.goto (-46), 3) := by decide +kernel
theorem dX6_was_125 : decode cX6_was 125 = .ok (.iload 5, 2) := by decide +kernel
theorem dX6_was_127 : decode cX6_was 127 = .ok (.ireturn, 1) := by decide +kernel
theorem dX6_ask_0 : decode cX6_ask 0 = .ok (.iload_n 1, 1) := by decide +kernel
theorem dX6_ask_1 : decode cX6_ask 1 = .ok (.aload_n 0, 1) := by decide +kernel
theorem dX6_ask_2 : decode cX6_ask 2 = .ok (.getfield 24, 3) := by decide +kernel
theorem dX6_ask_5 : decode cX6_ask 5 = .ok (.getfield 105, 3) := by decide +kernel
theorem dX6_ask_8 : decode cX6_ask 8 = .ok (.invokestatic 84, 3) := by decide +kernel
theorem dX6_ask_11 : decode cX6_ask 11 = .ok (.ifCond .eq 6, 3) := by decide +kernel
theorem dX6_ask_14 : decode cX6_ask 14 = .ok (.bipush (-2), 2) := by decide +kernel
theorem dX6_ask_16 : decode cX6_ask 16 = .ok (.ireturn, 1) := by decide +kernel
theorem dX6_ask_17 : decode cX6_ask 17 = .ok (.aload_n 0, 1) := by decide +kernel
theorem dX6_ask_18 : decode cX6_ask 18 = .ok (.getfield 28, 3) := by decide +kernel
theorem dX6_ask_21 : decode cX6_ask 21 = .ok (.aload_n 0, 1) := by decide +kernel
theorem dX6_ask_22 : decode cX6_ask 22 = .ok (.getfield 24, 3) := by decide +kernel
theorem dX6_ask_25 : decode cX6_ask 25 = .ok (.invokevirtual 202, 3) := by decide +kernel
theorem dX6_ask_28 : decode cX6_ask 28 = .ok (.aload_n 0, 1) := by decide +kernel
theorem dX6_ask_29 : decode cX6_ask 29 = .ok (.getfield 67, 3) := by decide +kernel
theorem dX6_ask_32 : decode cX6_ask 32 = .ok (.iconst 0, 1) := by decide +kernel
theorem dX6_ask_33 : decode cX6_ask 33 = .ok (.invokestatic 223, 3) := by decide +kernel
theorem dX6_ask_36 : decode cX6_ask 36 = .ok (.iconst 0, 1) := by decide +kernel
theorem dX6_ask_37 : decode cX6_ask 37 = .ok (.istore_n 2, 1) := by decide +kernel
theorem dX6_ask_38 : decode cX6_ask 38 = .ok (.iconst 0, 1) := by decide +kernel
theorem dX6_ask_39 : decode cX6_ask 39 = .ok (.istore_n 3, 1) := by decide +kernel
theorem dX6_ask_40 : decode cX6_ask 40 = .ok (.iload_n 3, 1) := by decide +kernel
theorem dX6_ask_41 : decode cX6_ask 41 = .ok (.bipush 10, 2) := by decide +kernel
theorem dX6_ask_43 : decode cX6_ask 43 = .ok (.if_icmp .ge 54, 3) := by decide +kernel
theorem dX6_ask_46 : decode cX6_ask 46 = .ok (.aload_n 0, 1) := by decide +kernel
theorem dX6_ask_47 : decode cX6_ask 47 = .ok (.getfield 28, 3) := by decide +kernel
theorem dX6_ask_50 : decode cX6_ask 50 = .ok (.getfield 112, 3) := by decide +kernel
theorem dX6_ask_53 : decode cX6_ask 53 = .ok (.iload_n 1, 1) := by decide +kernel
theorem dX6_ask_54 : decode cX6_ask 54 = .ok (.iload_n 3, 1) := by decide +kernel
theorem dX6_ask_55 : decode cX6_ask 55 = .ok (.iastore, 1) := by decide +kernel
theorem dX6_ask_56 : decode cX6_ask 56 = .ok (.aload_n 0, 1) := by decide +kernel
theorem dX6_ask_57 : decode cX6_ask 57 = .ok (.aload_n 0, 1) := by decide +kernel
theorem dX6_ask_58 : decode cX6_ask 58 = .ok (.getfield 28, 3) := by decide +kernel
theorem dX6_ask_61 : decode cX6_ask 61 = .ok (.aload_n 0, 1) := by decide +kernel
theorem dX6_ask_62 : decode cX6_ask 62 = .ok (.getfield 41, 3) := by decide +kernel
theorem dX6_ask_65 : decode cX6_ask 65 = .ok (.invokevirtual 175, 3) := by decide +kernel
theorem dX6_ask_68 : decode cX6_ask 68 = .ok (.invokevirtual 178, 3) := by decide +kernel
theorem dX6_ask_71 : decode cX6_ask 71 = .ok (.istore 4, 2) := by decide +kernel
theorem dX6_ask_73 : decode cX6_ask 73 = .ok (.aload_n 0, 1) := by decide +kernel
theorem dX6_ask_74 : decode cX6_ask 74 = .ok (.iload 4, 2) := by decide +kernel
theorem dX6_ask_76 : decode cX6_ask 76 = .ok (.invokevirtual 220, 3) := by decide +kernel
theorem dX6_ask_79 : decode cX6_ask 79 = .ok (.ifCond .eq 12, 3) := by decide +kernel
theorem dX6_ask_82 : decode cX6_ask 82 = .ok (.iinc 2 1, 3) := by decide +kernel
theorem dX6_ask_85 : decode cX6_ask 85 = .ok (.aload_n 0, 1) := by decide +kernel
theorem dX6_ask_86 : decode cX6_ask 86 = .ok (.iload 4, 2) := by decide +kernel
theorem dX6_ask_88 : decode cX6_ask 88 = .ok (.invokevirtual 229, 3) := by decide +kernel
theorem dX6_ask_91 : decode cX6_ask 91 = .ok (.iinc 3 1, 3) := by decide +kernel
theorem dX6_ask_94 : decode cX6_ask 94 = .ok (.goto (-54), 3) := by decide +kernel
theorem dX6_ask_97 : decode cX6_ask 97 = .ok (.iconst 0, 1) := by decide +kernel
theorem dX6_ask_98 : decode cX6_ask 98 = .ok (.istore_n 3, 1) := by decide +kernel
theorem dX6_ask_99 : decode cX6_ask 99 = .ok (.iload_n 2, 1) := by decide +kernel
theorem dX6_ask_100 : decode cX6_ask 100 = .ok (.iconst 1, 1) := by decide +kernel
theorem dX6_ask_101 : decode cX6_ask 101 = .ok (.iadd, 1) := by decide +kernel
theorem dX6_ask_102 : decode cX6_ask 102 = .ok (.istore 4, 2) := by decide +kernel
theorem dX6_ask_104 : decode cX6_ask 104 = .ok (.iconst 0, 1) := by decide +kernel
theorem dX6_ask_105 : decode cX6_ask 105 = .ok (.istore 5, 2) := by decide +kernel
theorem dX6_ask_107 : decode cX6_ask 107 = .ok (.iload 5, 2) := by decide +kernel
theorem dX6_ask_109 : decode cX6_ask 109 = .ok (.bipush 8, 2) := by decide +kernel
theorem dX6_ask_111 : decode cX6_ask 111 = .ok (.if_icmp .ge 44, 3) := by decide +kernel
theorem dX6_ask_114 : decode cX6_ask 114 = .ok (.aload_n 0, 1) := by decide +kernel
theorem dX6_ask_115 : decode cX6_ask 115 = .ok (.getfield 67, 3) := by decide +kernel
theorem dX6_ask_118 : decode cX6_ask 118 = .ok (.iload 5, 2) := by decide +kernel
theorem dX6_ask_120 : decode cX6_ask 120 = .ok (.iaload, 1) := by decide +kernel
theorem dX6_ask_121 : decode cX6_ask 121 = .ok (.iload_n 2, 1) := by decide +kernel
theorem dX6_ask_122 : decode cX6_ask 122 = .ok (.aload_n 0, 1) := by decide +kernel
theorem dX6_ask_123 : decode cX6_ask 123 = .ok (.getfield 67, 3) := by decide +kernel
theorem dX6_ask_126 : decode cX6_ask 126 = .ok (.iload 5, 2) := by decide +kernel
theorem dX6_ask_128 : decode cX6_ask 128 = .ok (.iaload, 1) := by decide +kernel
theorem dX6_ask_129 : decode cX6_ask 129 = .ok (.isub, 1) := by decide +kernel
theorem dX6_ask_130 : decode cX6_ask 130 = .ok (.invokestatic 160, 3) := by decide +kernel
theorem dX6_ask_133 : decode cX6_ask 133 = .ok (.istore 6, 2) := by decide +kernel
theorem dX6_ask_135 : decode cX6_ask 135 = .ok (.iload 6, 2) := by decide +kernel
theorem dX6_ask_137 : decode cX6_ask 137 = .ok (.iload 4, 2) := by decide +kernel
theorem dX6_ask_139 : decode cX6_ask 139 = .ok (.if_icmp .ge 10, 3) := by decide +kernel
theorem dX6_ask_142 : decode cX6_ask 142 = .ok (.iload 5, 2) := by decide +kernel
theorem dX6_ask_144 : decode cX6_ask 144 = .ok (.istore_n 3, 1) := by decide +kernel
theorem dX6_ask_145 : decode cX6_ask 145 = .ok (.iload 6, 2) := by decide +kernel
theorem dX6_ask_147 : decode cX6_ask 147 = .ok (.istore 4, 2) := by decide +kernel
theorem dX6_ask_149 : decode cX6_ask 149 = .ok (.iinc 5 1, 3) := by decide +kernel
theorem dX6_ask_152 : decode cX6_ask 152 = .ok (.goto (-45), 3) := by decide +kernel
theorem dX6_ask_155 : decode cX6_ask 155 = .ok (.iload_n 3, 1) := by decide +kernel
theorem dX6_ask_156 : decode cX6_ask 156 = .ok (.ireturn, 1) := by decide +kernel
theorem dX6_chance_0 : decode cX6_chance 0 = .ok (.iload_n 1, 1) := by decide +kernel
theorem dX6_chance_1 : decode cX6_chance 1 = .ok (.bipush 17, 2) := by decide +kernel
theorem dX6_chance_3 : decode cX6_chance 3 = .ok (.invokestatic 84, 3) := by decide +kernel
theorem dX6_chance_6 : decode cX6_chance 6 = .ok (.ifCond .ne 25, 3) := by decide +kernel
theorem dX6_chance_9 : decode cX6_chance 9 = .ok (.iload_n 2, 1) := by decide +kernel
theorem dX6_chance_10 : decode cX6_chance 10 = .ok (.aload_n 0, 1) := by decide +kernel
theorem dX6_chance_11 : decode cX6_chance 11 = .ok (.getfield 34, 3) := by decide +kernel
theorem dX6_chance_14 : decode cX6_chance 14 = .ok (.getfield 118, 3) := by decide +kernel
theorem dX6_chance_17 : decode cX6_chance 17 = .ok (.invokestatic 84, 3) := by decide +kernel
theorem dX6_chance_20 : decode cX6_chance 20 = .ok (.ifCond .ne 11, 3) := by decide +kernel
theorem dX6_chance_23 : decode cX6_chance 23 = .ok (.iload_n 3, 1) := by decide +kernel
theorem dX6_chance_24 : decode cX6_chance 24 = .ok (.iconst 2, 1) := by decide +kernel
theorem dX6_chance_25 : decode cX6_chance 25 = .ok (.invokestatic 84, 3) := by decide +kernel
theorem dX6_chance_28 : decode cX6_chance 28 = .ok (.ifCond .eq 7, 3) := by decide +kernel
theorem dX6_chance_31 : decode cX6_chance 31 = .ok (.ldc2_w 232, 3) := by decide +kernel
theorem dX6_chance_34 : decode cX6_chance 34 = .ok (.lreturn, 1) := by decide +kernel
theorem dX6_chance_35 : decode cX6_chance 35 = .ok (.aload_n 0, 1) := by decide +kernel
theorem dX6_chance_36 : decode cX6_chance 36 = .ok (.iload_n 1, 1) := by decide +kernel
theorem dX6_chance_37 : decode cX6_chance 37 = .ok (.invokevirtual 234, 3) := by decide +kernel
theorem dX6_chance_40 : decode cX6_chance 40 = .ok (.aload_n 0, 1) := by decide +kernel
theorem dX6_chance_41 : decode cX6_chance 41 = .ok (.aload_n 0, 1) := by decide +kernel
theorem dX6_chance_42 : decode cX6_chance 42 = .ok (.getfield 70, 3) := by decide +kernel
theorem dX6_chance_45 : decode cX6_chance 45 = .ok (.iload_n 2, 1) := by decide +kernel
theorem dX6_chance_46 : decode cX6_chance 46 = .ok (.laload, 1) := by decide +kernel
theorem dX6_chance_47 : decode cX6_chance 47 = .ok (.iload_n 3, 1) := by decide +kernel
theorem dX6_chance_48 : decode cX6_chance 48 = .ok (.invokevirtual 237, 3) := by decide +kernel
theorem dX6_chance_51 : decode cX6_chance 51 = .ok (.lreturn, 1) := by decide +kernel
theorem dX6_lives_0 : decode cX6_lives 0 = .ok (.iload_n 2, 1) := by decide +kernel
theorem dX6_lives_1 : decode cX6_lives 1 = .ok (.bipush 13, 2) := by decide +kernel
theorem dX6_lives_3 : decode cX6_lives 3 = .ok (.invokestatic 84, 3) := by decide +kernel
theorem dX6_lives_6 : decode cX6_lives 6 = .ok (.ifCond .ne 11, 3) := by decide +kernel
theorem dX6_lives_9 : decode cX6_lives 9 = .ok (.iload_n 3, 1) := by decide +kernel
theorem dX6_lives_10 : decode cX6_lives 10 = .ok (.iconst 2, 1) := by decide +kernel
theorem dX6_lives_11 : decode cX6_lives 11 = .ok (.invokestatic 84, 3) := by decide +kernel
theorem dX6_lives_14 : decode cX6_lives 14 = .ok (.ifCond .eq 6, 3) := by decide +kernel
theorem dX6_lives_17 : decode cX6_lives 17 = .ok (.bipush (-2), 2) := by decide +kernel
theorem dX6_lives_19 : decode cX6_lives 19 = .ok (.ireturn, 1) := by decide +kernel
theorem dX6_lives_20 : decode cX6_lives 20 = .ok (.aload_n 0, 1) := by decide +kernel
theorem dX6_lives_21 : decode cX6_lives 21 = .ok (.getfield 28, 3) := by decide +kernel
theorem dX6_lives_24 : decode cX6_lives 24 = .ok (.iload_n 1, 1) := by decide +kernel
theorem dX6_lives_25 : decode cX6_lives 25 = .ok (.iload_n 2, 1) := by decide +kernel
theorem dX6_lives_26 : decode cX6_lives 26 = .ok (.invokevirtual 241, 3) := by decide +kernel
theorem dX6_lives_29 : decode cX6_lives 29 = .ok (.aload_n 0, 1) := by decide +kernel
theorem dX6_lives_30 : decode cX6_lives 30 = .ok (.aload_n 0, 1) := by decide +kernel
theorem dX6_lives_31 : decode cX6_lives 31 = .ok (.getfield 28, 3) := by decide +kernel
theorem dX6_lives_34 : decode cX6_lives 34 = .ok (.aload_n 0, 1) := by decide +kernel
theorem dX6_lives_35 : decode cX6_lives 35 = .ok (.getfield 41, 3) := by decide +kernel
theorem dX6_lives_38 : decode cX6_lives 38 = .ok (.invokevirtual 175, 3) := by decide +kernel
theorem dX6_lives_41 : decode cX6_lives 41 = .ok (.invokevirtual 178, 3) := by decide +kernel
theorem dX6_lives_44 : decode cX6_lives 44 = .ok (.istore 4, 2) := by decide +kernel
theorem dX6_lives_46 : decode cX6_lives 46 = .ok (.iload_n 3, 1) := by decide +kernel
theorem dX6_lives_47 : decode cX6_lives 47 = .ok (.ifCond .ne 11, 3) := by decide +kernel
theorem dX6_lives_50 : decode cX6_lives 50 = .ok (.iload 4, 2) := by decide +kernel
theorem dX6_lives_52 : decode cX6_lives 52 = .ok (.invokestatic 182, 3) := by decide +kernel
theorem dX6_lives_55 : decode cX6_lives 55 = .ok (.goto 10, 3) := by decide +kernel
theorem dX6_lives_58 : decode cX6_lives 58 = .ok (.aload_n 0, 1) := by decide +kernel
theorem dX6_lives_59 : decode cX6_lives 59 = .ok (.getfield 50, 3) := by decide +kernel
theorem dX6_lives_62 : decode cX6_lives 62 = .ok (.getfield 187, 3) := by decide +kernel
theorem dX6_lives_65 : decode cX6_lives 65 = .ok (.ireturn, 1) := by decide +kernel
theorem dX6_sheet_0 : decode cX6_sheet 0 = .ok (.iload_n 1, 1) := by decide +kernel
theorem dX6_sheet_1 : decode cX6_sheet 1 = .ok (.iconst 4, 1) := by decide +kernel
theorem dX6_sheet_2 : decode cX6_sheet 2 = .ok (.invokestatic 84, 3) := by decide +kernel
theorem dX6_sheet_5 : decode cX6_sheet 5 = .ok (.ifCond .ne 17, 3) := by decide +kernel
theorem dX6_sheet_8 : decode cX6_sheet 8 = .ok (.iload_n 2, 1) := by decide +kernel
theorem dX6_sheet_9 : decode cX6_sheet 9 = .ok (.iconst 3, 1) := by decide +kernel
theorem dX6_sheet_10 : decode cX6_sheet 10 = .ok (.invokestatic 84, 3) := by decide +kernel
theorem dX6_sheet_13 : decode cX6_sheet 13 = .ok (.ifCond .ne 9, 3) := by decide +kernel
theorem dX6_sheet_16 : decode cX6_sheet 16 = .ok (.iload_n 3, 1) := by decide +kernel
theorem dX6_sheet_17 : decode cX6_sheet 17 = .ok (.bipush 60, 2) := by decide +kernel
theorem dX6_sheet_19 : decode cX6_sheet 19 = .ok (.if_icmp .le 6, 3) := by decide +kernel
theorem dX6_sheet_22 : decode cX6_sheet 22 = .ok (.bipush (-2), 2) := by decide +kernel
theorem dX6_sheet_24 : decode cX6_sheet 24 = .ok (.ireturn, 1) := by decide +kernel
theorem dX6_sheet_25 : decode cX6_sheet 25 = .ok (.iload_n 3, 1) := by decide +kernel
theorem dX6_sheet_26 : decode cX6_sheet 26 = .ok (.ifCond .ge 9, 3) := by decide +kernel
theorem dX6_sheet_29 : decode cX6_sheet 29 = .ok (.aload_n 0, 1) := by decide +kernel
theorem dX6_sheet_30 : decode cX6_sheet 30 = .ok (.iconst 5, 1) := by decide +kernel
theorem dX6_sheet_31 : decode cX6_sheet 31 = .ok (.invokevirtual 129, 3) := by decide +kernel
theorem dX6_sheet_34 : decode cX6_sheet 34 = .ok (.ireturn, 1) := by decide +kernel
theorem dX6_sheet_35 : decode cX6_sheet 35 = .ok (.aload_n 0, 1) := by decide +kernel
theorem dX6_sheet_36 : decode cX6_sheet 36 = .ok (.getfield 63, 3) := by decide +kernel
theorem dX6_sheet_39 : decode cX6_sheet 39 = .ok (.iload_n 1, 1) := by decide +kernel
theorem dX6_sheet_40 : decode cX6_sheet 40 = .ok (.new 61, 3) := by decide +kernel
theorem dX6_sheet_43 : decode cX6_sheet 43 = .ok (.dup, 1) := by decide +kernel
theorem dX6_sheet_44 : decode cX6_sheet 44 = .ok (.iload_n 2, 1) := by decide +kernel
theorem dX6_sheet_45 : decode cX6_sheet 45 = .ok (.iload_n 3, 1) := by decide +kernel
theorem dX6_sheet_46 : decode cX6_sheet 46 = .ok (.invokespecial 244, 3) := by decide +kernel
theorem dX6_sheet_49 : decode cX6_sheet 49 = .ok (.aastore, 1) := by decide +kernel
theorem dX6_sheet_50 : decode cX6_sheet 50 = .ok (.iload_n 3, 1) := by decide +kernel
theorem dX6_sheet_51 : decode cX6_sheet 51 = .ok (.ireturn, 1) := by decide +kernel
theorem dX6_lose_0 : decode cX6_lose 0 = .ok (.iload_n 1, 1) := by decide +kernel
theorem dX6_lose_1 : decode cX6_lose 1 = .ok (.iconst 4, 1) := by decide +kernel
theorem dX6_lose_2 : decode cX6_lose 2 = .ok (.invokestatic 84, 3) := by decide +kernel
theorem dX6_lose_5 : decode cX6_lose 5 = .ok (.ifCond .eq 6, 3) := by decide +kernel
theorem dX6_lose_8 : decode cX6_lose 8 = .ok (.bipush (-2), 2) := by decide +kernel
theorem dX6_lose_10 : decode cX6_lose 10 = .ok (.ireturn, 1) := by decide +kernel
theorem dX6_lose_11 : decode cX6_lose 11 = .ok (.aload_n 0, 1) := by decide +kernel
theorem dX6_lose_12 : decode cX6_lose 12 = .ok (.getfield 63, 3) := by decide +kernel
theorem dX6_lose_15 : decode cX6_lose 15 = .ok (.iload_n 1, 1) := by decide +kernel
theorem dX6_lose_16 : decode cX6_lose 16 = .ok (.aaload, 1) := by decide +kernel
theorem dX6_lose_17 : decode cX6_lose 17 = .ok (.astore_n 2, 1) := by decide +kernel
theorem dX6_lose_18 : decode cX6_lose 18 = .ok (.aload_n 2, 1) := by decide +kernel
theorem dX6_lose_19 : decode cX6_lose 19 = .ok (.ifnonnull 9, 3) := by decide +kernel
theorem dX6_lose_22 : decode cX6_lose 22 = .ok (.aload_n 0, 1) := by decide +kernel
theorem dX6_lose_23 : decode cX6_lose 23 = .ok (.iconst 1, 1) := by decide +kernel
theorem dX6_lose_24 : decode cX6_lose 24 = .ok (.invokevirtual 129, 3) := by decide +kernel
theorem dX6_lose_27 : decode cX6_lose 27 = .ok (.ireturn, 1) := by decide +kernel
theorem dX6_lose_28 : decode cX6_lose 28 = .ok (.aload_n 0, 1) := by decide +kernel
theorem dX6_lose_29 : decode cX6_lose 29 = .ok (.getfield 63, 3) := by decide +kernel
theorem dX6_lose_32 : decode cX6_lose 32 = .ok (.iload_n 1, 1) := by decide +kernel
theorem dX6_lose_33 : decode cX6_lose 33 = .ok (.aconst_null, 1) := by decide +kernel
theorem dX6_lose_34 : decode cX6_lose 34 = .ok (.aastore, 1) := by decide +kernel
theorem dX6_lose_35 : decode cX6_lose 35 = .ok (.aload_n 2, 1) := by decide +kernel
theorem dX6_lose_36 : decode cX6_lose 36 = .ok (.getfield 133, 3) := by decide +kernel
theorem dX6_lose_39 : decode cX6_lose 39 = .ok (.arraylength, 1) := by decide +kernel
theorem dX6_lose_40 : decode cX6_lose 40 = .ok (.ireturn, 1) := by decide +kernel
theorem dX6_put_0 : decode cX6_put 0 = .ok (.iload_n 1, 1) := by decide +kernel
theorem dX6_put_1 : decode cX6_put 1 = .ok (.iconst 4, 1) := by decide +kernel
theorem dX6_put_2 : decode cX6_put 2 = .ok (.invokestatic 84, 3) := by decide +kernel
theorem dX6_put_5 : decode cX6_put 5 = .ok (.ifCond .ne 11, 3) := by decide +kernel
theorem dX6_put_8 : decode cX6_put 8 = .ok (.iload_n 2, 1) := by decide +kernel
theorem dX6_put_9 : decode cX6_put 9 = .ok (.iconst 3, 1) := by decide +kernel
theorem dX6_put_10 : decode cX6_put 10 = .ok (.invokestatic 84, 3) := by decide +kernel
theorem dX6_put_13 : decode cX6_put 13 = .ok (.ifCond .eq 6, 3) := by decide +kernel
theorem dX6_put_16 : decode cX6_put 16 = .ok (.bipush (-2), 2) := by decide +kernel
theorem dX6_put_18 : decode cX6_put 18 = .ok (.ireturn, 1) := by decide +kernel
theorem dX6_put_19 : decode cX6_put 19 = .ok (.aload_n 0, 1) := by decide +kernel
theorem dX6_put_20 : decode cX6_put 20 = .ok (.getfield 63, 3) := by decide +kernel
theorem dX6_put_23 : decode cX6_put 23 = .ok (.iload_n 1, 1) := by decide +kernel
theorem dX6_put_24 : decode cX6_put 24 = .ok (.aaload, 1) := by decide +kernel
theorem dX6_put_25 : decode cX6_put 25 = .ok (.astore 5, 2) := by decide +kernel
theorem dX6_put_27 : decode cX6_put 27 = .ok (.aload 5, 2) := by decide +kernel
theorem dX6_put_29 : decode cX6_put 29 = .ok (.ifnonnull 9, 3) := by decide +kernel
theorem dX6_put_32 : decode cX6_put 32 = .ok (.aload_n 0, 1) := by decide +kernel
theorem dX6_put_33 : decode cX6_put 33 = .ok (.iconst 1, 1) := by decide +kernel
theorem dX6_put_34 : decode cX6_put 34 = .ok (.invokevirtual 129, 3) := by decide +kernel
theorem dX6_put_37 : decode cX6_put 37 = .ok (.ireturn, 1) := by decide +kernel
theorem dX6_put_38 : decode cX6_put 38 = .ok (.aload 5, 2) := by decide +kernel
theorem dX6_put_40 : decode cX6_put 40 = .ok (.getfield 245, 3) := by decide +kernel
theorem dX6_put_43 : decode cX6_put 43 = .ok (.iload_n 2, 1) := by decide +kernel
theorem dX6_put_44 : decode cX6_put 44 = .ok (.if_icmp .eq 9, 3) := by decide +kernel
theorem dX6_put_47 : decode cX6_put 47 = .ok (.aload_n 0, 1) := by decide +kernel
theorem dX6_put_48 : decode cX6_put 48 = .ok (.iconst 3, 1) := by decide +kernel
theorem dX6_put_49 : decode cX6_put 49 = .ok (.invokevirtual 129, 3) := by decide +kernel
theorem dX6_put_52 : decode cX6_put 52 = .ok (.ireturn, 1) := by decide +kernel
theorem dX6_put_53 : decode cX6_put 53 = .ok (.iload_n 3, 1) := by decide +kernel
theorem dX6_put_54 : decode cX6_put 54 = .ok (.aload 5, 2) := by decide +kernel
theorem dX6_put_56 : decode cX6_put 56 = .ok (.getfield 133, 3) := by decide +kernel
theorem dX6_put_59 : decode cX6_put 59 = .ok (.arraylength, 1) := by decide +kernel
theorem dX6_put_60 : decode cX6_put 60 = .ok (.invokestatic 84, 3) := by decide +kernel
theorem dX6_put_63 : decode cX6_put 63 = .ok (.ifCond .eq 9, 3) := by decide +kernel
theorem dX6_put_66 : decode cX6_put 66 = .ok (.aload_n 0, 1) := by decide +kernel
theorem dX6_put_67 : decode cX6_put 67 = .ok (.iconst 2, 1) := by decide +kernel
theorem dX6_put_68 : decode cX6_put 68 = .ok (.invokevirtual 129, 3) := by decide +kernel
theorem dX6_put_71 : decode cX6_put 71 = .ok (.ireturn, 1) := by decide +kernel
theorem dX6_put_72 : decode cX6_put 72 = .ok (.aload 5, 2) := by decide +kernel
theorem dX6_put_74 : decode cX6_put 74 = .ok (.getfield 133, 3) := by decide +kernel
theorem dX6_put_77 : decode cX6_put 77 = .ok (.iload_n 3, 1) := by decide +kernel
theorem dX6_put_78 : decode cX6_put 78 = .ok (.aload 5, 2) := by decide +kernel
theorem dX6_put_80 : decode cX6_put 80 = .ok (.iload 4, 2) := by decide +kernel
theorem dX6_put_82 : decode cX6_put 82 = .ok (.invokevirtual 248, 3) := by decide +kernel
theorem dX6_put_85 : decode cX6_put 85 = .ok (.iastore, 1) := by decide +kernel
theorem dX6_put_86 : decode cX6_put 86 = .ok (.iconst 1, 1) := by decide +kernel
theorem dX6_put_87 : decode cX6_put 87 = .ok (.ireturn, 1) := by decide +kernel
theorem dX6_get_0 : decode cX6_get 0 = .ok (.iload_n 1, 1) := by decide +kernel
theorem dX6_get_1 : decode cX6_get 1 = .ok (.iconst 4, 1) := by decide +kernel
theorem dX6_get_2 : decode cX6_get 2 = .ok (.invokestatic 84, 3) := by decide +kernel
theorem dX6_get_5 : decode cX6_get 5 = .ok (.ifCond .ne 11, 3) := by decide +kernel
theorem dX6_get_8 : decode cX6_get 8 = .ok (.iload_n 2, 1) := by decide +kernel
theorem dX6_get_9 : decode cX6_get 9 = .ok (.iconst 3, 1) := by decide +kernel
theorem dX6_get_10 : decode cX6_get 10 = .ok (.invokestatic 84, 3) := by decide +kernel
theorem dX6_get_13 : decode cX6_get 13 = .ok (.ifCond .eq 6, 3) := by decide +kernel
theorem dX6_get_16 : decode cX6_get 16 = .ok (.ldc 168, 2) := by decide +kernel
theorem dX6_get_18 : decode cX6_get 18 = .ok (.ireturn, 1) := by decide +kernel
theorem dX6_get_19 : decode cX6_get 19 = .ok (.aload_n 0, 1) := by decide +kernel
theorem dX6_get_20 : decode cX6_get 20 = .ok (.getfield 63, 3) := by decide +kernel
theorem dX6_get_23 : decode cX6_get 23 = .ok (.iload_n 1, 1) := by decide +kernel
theorem dX6_get_24 : decode cX6_get 24 = .ok (.aaload, 1) := by decide +kernel
theorem dX6_get_25 : decode cX6_get 25 = .ok (.astore 4, 2) := by decide +kernel
theorem dX6_get_27 : decode cX6_get 27 = .ok (.aload 4, 2) := by decide +kernel
theorem dX6_get_29 : decode cX6_get 29 = .ok (.ifnonnull 9, 3) := by decide +kernel
theorem dX6_get_32 : decode cX6_get 32 = .ok (.aload_n 0, 1) := by decide +kernel
theorem dX6_get_33 : decode cX6_get 33 = .ok (.iconst 1, 1) := by decide +kernel
theorem dX6_get_34 : decode cX6_get 34 = .ok (.invokevirtual 251, 3) := by decide +kernel
theorem dX6_get_37 : decode cX6_get 37 = .ok (.ireturn, 1) := by decide +kernel
theorem dX6_get_38 : decode cX6_get 38 = .ok (.aload 4, 2) := by decide +kernel
theorem dX6_get_40 : decode cX6_get 40 = .ok (.getfield 245, 3) := by decide +kernel
theorem dX6_get_43 : decode cX6_get 43 = .ok (.iload_n 2, 1) := by decide +kernel
theorem dX6_get_44 : decode cX6_get 44 = .ok (.if_icmp .eq 9, 3) := by decide +kernel
theorem dX6_get_47 : decode cX6_get 47 = .ok (.aload_n 0, 1) := by decide +kernel
theorem dX6_get_48 : decode cX6_get 48 = .ok (.iconst 3, 1) := by decide +kernel
theorem dX6_get_49 : decode cX6_get 49 = .ok (.invokevirtual 251, 3) := by decide +kernel
theorem dX6_get_52 : decode cX6_get 52 = .ok (.ireturn, 1) := by decide +kernel
theorem dX6_get_53 : decode cX6_get 53 = .ok (.iload_n 3, 1) := by decide +kernel
theorem dX6_get_54 : decode cX6_get 54 = .ok (.aload 4, 2) := by decide +kernel
theorem dX6_get_56 : decode cX6_get 56 = .ok (.getfield 133, 3) := by decide +kernel
theorem dX6_get_59 : decode cX6_get 59 = .ok (.arraylength, 1) := by decide +kernel
theorem dX6_get_60 : decode cX6_get 60 = .ok (.invokestatic 84, 3) := by decide +kernel
theorem dX6_get_63 : decode cX6_get 63 = .ok (.ifCond .eq 9, 3) := by decide +kernel
theorem dX6_get_66 : decode cX6_get 66 = .ok (.aload_n 0, 1) := by decide +kernel
theorem dX6_get_67 : decode cX6_get 67 = .ok (.iconst 2, 1) := by decide +kernel
theorem dX6_get_68 : decode cX6_get 68 = .ok (.invokevirtual 251, 3) := by decide +kernel
theorem dX6_get_71 : decode cX6_get 71 = .ok (.ireturn, 1) := by decide +kernel
theorem dX6_get_72 : decode cX6_get 72 = .ok (.aload 4, 2) := by decide +kernel
theorem dX6_get_74 : decode cX6_get 74 = .ok (.getfield 133, 3) := by decide +kernel
theorem dX6_get_77 : decode cX6_get 77 = .ok (.iload_n 3, 1) := by decide +kernel
theorem dX6_get_78 : decode cX6_get 78 = .ok (.iaload, 1) := by decide +kernel
theorem dX6_get_79 : decode cX6_get 79 = .ok (.ireturn, 1) := by decide +kernel
theorem dX6_copy_0 : decode cX6_copy 0 = .ok (.iload_n 1, 1) := by decide +kernel
theorem dX6_copy_1 : decode cX6_copy 1 = .ok (.iconst 4, 1) := by decide +kernel
theorem dX6_copy_2 : decode cX6_copy 2 = .ok (.invokestatic 84, 3) := by decide +kernel
theorem dX6_copy_5 : decode cX6_copy 5 = .ok (.ifCond .ne 11, 3) := by decide +kernel
theorem dX6_copy_8 : decode cX6_copy 8 = .ok (.iload_n 3, 1) := by decide +kernel
theorem dX6_copy_9 : decode cX6_copy 9 = .ok (.iconst 4, 1) := by decide +kernel
theorem dX6_copy_10 : decode cX6_copy 10 = .ok (.invokestatic 84, 3) := by decide +kernel
theorem dX6_copy_13 : decode cX6_copy 13 = .ok (.ifCond .eq 6, 3) := by decide +kernel
theorem dX6_copy_16 : decode cX6_copy 16 = .ok (.bipush (-2), 2) := by decide +kernel
theorem dX6_copy_18 : decode cX6_copy 18 = .ok (.ireturn, 1) := by decide +kernel
theorem dX6_copy_19 : decode cX6_copy 19 = .ok (.aload_n 0, 1) := by decide +kernel
theorem dX6_copy_20 : decode cX6_copy 20 = .ok (.getfield 63, 3) := by decide +kernel
theorem dX6_copy_23 : decode cX6_copy 23 = .ok (.iload_n 1, 1) := by decide +kernel
theorem dX6_copy_24 : decode cX6_copy 24 = .ok (.aaload, 1) := by decide +kernel
theorem dX6_copy_25 : decode cX6_copy 25 = .ok (.astore 6, 2) := by decide +kernel
theorem dX6_copy_27 : decode cX6_copy 27 = .ok (.aload_n 0, 1) := by decide +kernel
theorem dX6_copy_28 : decode cX6_copy 28 = .ok (.getfield 63, 3) := by decide +kernel
theorem dX6_copy_31 : decode cX6_copy 31 = .ok (.iload_n 3, 1) := by decide +kernel
theorem dX6_copy_32 : decode cX6_copy 32 = .ok (.aaload, 1) := by decide +kernel
theorem dX6_copy_33 : decode cX6_copy 33 = .ok (.astore 7, 2) := by decide +kernel
theorem dX6_copy_35 : decode cX6_copy 35 = .ok (.aload 6, 2) := by decide +kernel
theorem dX6_copy_37 : decode cX6_copy 37 = .ok (.ifnull 8, 3) := by decide +kernel
theorem dX6_copy_40 : decode cX6_copy 40 = .ok (.aload 7, 2) := by decide +kernel
theorem dX6_copy_42 : decode cX6_copy 42 = .ok (.ifnonnull 9, 3) := by decide +kernel
theorem dX6_copy_45 : decode cX6_copy 45 = .ok (.aload_n 0, 1) := by decide +kernel
theorem dX6_copy_46 : decode cX6_copy 46 = .ok (.iconst 1, 1) := by decide +kernel
theorem dX6_copy_47 : decode cX6_copy 47 = .ok (.invokevirtual 129, 3) := by decide +kernel
theorem dX6_copy_50 : decode cX6_copy 50 = .ok (.ireturn, 1) := by decide +kernel
theorem dX6_copy_51 : decode cX6_copy 51 = .ok (.aload 6, 2) := by decide +kernel
theorem dX6_copy_53 : decode cX6_copy 53 = .ok (.getfield 245, 3) := by decide +kernel
theorem dX6_copy_56 : decode cX6_copy 56 = .ok (.aload 7, 2) := by decide +kernel
theorem dX6_copy_58 : decode cX6_copy 58 = .ok (.getfield 245, 3) := by decide +kernel
theorem dX6_copy_61 : decode cX6_copy 61 = .ok (.if_icmp .eq 9, 3) := by decide +kernel
theorem dX6_copy_64 : decode cX6_copy 64 = .ok (.aload_n 0, 1) := by decide +kernel
theorem dX6_copy_65 : decode cX6_copy 65 = .ok (.iconst 4, 1) := by decide +kernel
theorem dX6_copy_66 : decode cX6_copy 66 = .ok (.invokevirtual 129, 3) := by decide +kernel
theorem dX6_copy_69 : decode cX6_copy 69 = .ok (.ireturn, 1) := by decide +kernel
theorem dX6_copy_70 : decode cX6_copy 70 = .ok (.iload 5, 2) := by decide +kernel
theorem dX6_copy_72 : decode cX6_copy 72 = .ok (.ifCond .lt 26, 3) := by decide +kernel
theorem dX6_copy_75 : decode cX6_copy 75 = .ok (.aload 6, 2) := by decide +kernel
theorem dX6_copy_77 : decode cX6_copy 77 = .ok (.iload_n 2, 1) := by decide +kernel
theorem dX6_copy_78 : decode cX6_copy 78 = .ok (.iload 5, 2) := by decide +kernel
theorem dX6_copy_80 : decode cX6_copy 80 = .ok (.invokevirtual 254, 3) := by decide +kernel
theorem dX6_copy_83 : decode cX6_copy 83 = .ok (.ifCond .eq 15, 3) := by decide +kernel
theorem dX6_copy_86 : decode cX6_copy 86 = .ok (.aload 7, 2) := by decide +kernel
theorem dX6_copy_88 : decode cX6_copy 88 = .ok (.iload 4, 2) := by decide +kernel
theorem dX6_copy_90 : decode cX6_copy 90 = .ok (.iload 5, 2) := by decide +kernel
theorem dX6_copy_92 : decode cX6_copy 92 = .ok (.invokevirtual 254, 3) := by decide +kernel
theorem dX6_copy_95 : decode cX6_copy 95 = .ok (.ifCond .ne 9, 3) := by decide +kernel
theorem dX6_copy_98 : decode cX6_copy 98 = .ok (.aload_n 0, 1) := by decide +kernel
theorem dX6_copy_99 : decode cX6_copy 99 = .ok (.iconst 2, 1) := by decide +kernel
theorem dX6_copy_100 : decode cX6_copy 100 = .ok (.invokevirtual 129, 3) := by decide +kernel
theorem dX6_copy_103 : decode cX6_copy 103 = .ok (.ireturn, 1) := by decide +kernel
theorem dX6_copy_104 : decode cX6_copy 104 = .ok (.aload 6, 2) := by decide +kernel
theorem dX6_copy_106 : decode cX6_copy 106 = .ok (.getfield 133, 3) := by decide +kernel
theorem dX6_copy_109 : decode cX6_copy 109 = .ok (.iload_n 2, 1) := by decide +kernel
theorem dX6_copy_110 : decode cX6_copy 110 = .ok (.aload 7, 2) := by decide +kernel
theorem dX6_copy_112 : decode cX6_copy 112 = .ok (.getfield 133, 3) := by decide +kernel
theorem dX6_copy_115 : decode cX6_copy 115 = .ok (.iload 4, 2) := by decide +kernel
theorem dX6_copy_117 : decode cX6_copy 117 = .ok (.iload 5, 2) := by decide +kernel
theorem dX6_copy_119 : decode cX6_copy 119 = .ok (.invokestatic 257, 3) := by decide +kernel
theorem dX6_copy_122 : decode cX6_copy 122 = .ok (.iconst 1, 1) := by decide +kernel
theorem dX6_copy_123 : decode cX6_copy 123 = .ok (.ireturn, 1) := by decide +kernel
theorem dX6_write_0 : decode cX6_write 0 = .ok (.iload_n 1, 1) := by decide +kernel
theorem dX6_write_1 : decode cX6_write 1 = .ok (.bipush 8, 2) := by decide +kernel
theorem dX6_write_3 : decode cX6_write 3 = .ok (.invokestatic 84, 3) := by decide +kernel
theorem dX6_write_6 : decode cX6_write 6 = .ok (.ifCond .ne 11, 3) := by decide +kernel
theorem dX6_write_9 : decode cX6_write 9 = .ok (.iload_n 2, 1) := by decide +kernel
theorem dX6_write_10 : decode cX6_write 10 = .ok (.iconst 4, 1) := by decide +kernel
theorem dX6_write_11 : decode cX6_write 11 = .ok (.invokestatic 84, 3) := by decide +kernel
theorem dX6_write_14 : decode cX6_write 14 = .ok (.ifCond .eq 6, 3) := by decide +kernel
theorem dX6_write_17 : decode cX6_write 17 = .ok (.bipush (-2), 2) := by decide +kernel
theorem dX6_write_19 : decode cX6_write 19 = .ok (.ireturn, 1) := by decide +kernel
theorem dX6_write_20 : decode cX6_write 20 = .ok (.aload_n 0, 1) := by decide +kernel
theorem dX6_write_21 : decode cX6_write 21 = .ok (.getfield 63, 3) := by decide +kernel
theorem dX6_write_24 : decode cX6_write 24 = .ok (.iload_n 2, 1) := by decide +kernel
theorem dX6_write_25 : decode cX6_write 25 = .ok (.aaload, 1) := by decide +kernel
theorem dX6_write_26 : decode cX6_write 26 = .ok (.astore_n 3, 1) := by decide +kernel
theorem dX6_write_27 : decode cX6_write 27 = .ok (.aload_n 3, 1) := by decide +kernel
theorem dX6_write_28 : decode cX6_write 28 = .ok (.ifnonnull 9, 3) := by decide +kernel
theorem dX6_write_31 : decode cX6_write 31 = .ok (.aload_n 0, 1) := by decide +kernel
theorem dX6_write_32 : decode cX6_write 32 = .ok (.iconst 1, 1) := by decide +kernel
theorem dX6_write_33 : decode cX6_write 33 = .ok (.invokevirtual 129, 3) := by decide +kernel
theorem dX6_write_36 : decode cX6_write 36 = .ok (.ireturn, 1) := by decide +kernel
theorem dX6_write_37 : decode cX6_write 37 = .ok (.aload_n 0, 1) := by decide +kernel
theorem dX6_write_38 : decode cX6_write 38 = .ok (.invokevirtual 143, 3) := by decide +kernel
theorem dX6_write_41 : decode cX6_write 41 = .ok (.bipush 24, 2) := by decide +kernel
theorem dX6_write_43 : decode cX6_write 43 = .ok (.aload_n 3, 1) := by decide +kernel
theorem dX6_write_44 : decode cX6_write 44 = .ok (.getfield 133, 3) := by decide +kernel
theorem dX6_write_47 : decode cX6_write 47 = .ok (.arraylength, 1) := by decide +kernel
theorem dX6_write_48 : decode cX6_write 48 = .ok (.invokestatic 263, 3) := by decide +kernel
theorem dX6_write_51 : decode cX6_write 51 = .ok (.istore 4, 2) := by decide +kernel
theorem dX6_write_53 : decode cX6_write 53 = .ok (.iconst 0, 1) := by decide +kernel
theorem dX6_write_54 : decode cX6_write 54 = .ok (.istore 5, 2) := by decide +kernel
theorem dX6_write_56 : decode cX6_write 56 = .ok (.iload 5, 2) := by decide +kernel
theorem dX6_write_58 : decode cX6_write 58 = .ok (.iload 4, 2) := by decide +kernel
theorem dX6_write_60 : decode cX6_write 60 = .ok (.if_icmp .ge 30, 3) := by decide +kernel
theorem dX6_write_63 : decode cX6_write 63 = .ok (.aload_n 3, 1) := by decide +kernel
theorem dX6_write_64 : decode cX6_write 64 = .ok (.getfield 133, 3) := by decide +kernel
theorem dX6_write_67 : decode cX6_write 67 = .ok (.iload 5, 2) := by decide +kernel
theorem dX6_write_69 : decode cX6_write 69 = .ok (.iconst 0, 1) := by decide +kernel
theorem dX6_write_70 : decode cX6_write 70 = .ok (.aload_n 0, 1) := by decide +kernel
theorem dX6_write_71 : decode cX6_write 71 = .ok (.getfield 50, 3) := by decide +kernel
theorem dX6_write_74 : decode cX6_write 74 = .ok (.iload 5, 2) := by decide +kernel
theorem dX6_write_76 : decode cX6_write 76 = .ok (.iload_n 1, 1) := by decide +kernel
theorem dX6_write_77 : decode cX6_write 77 = .ok (.invokevirtual 156, 3) := by decide +kernel
theorem dX6_write_80 : decode cX6_write 80 = .ok (.invokestatic 160, 3) := by decide +kernel
theorem dX6_write_83 : decode cX6_write 83 = .ok (.iastore, 1) := by decide +kernel
theorem dX6_write_84 : decode cX6_write 84 = .ok (.iinc 5 1, 3) := by decide +kernel
theorem dX6_write_87 : decode cX6_write 87 = .ok (.goto (-31), 3) := by decide +kernel
theorem dX6_write_90 : decode cX6_write 90 = .ok (.iload 4, 2) := by decide +kernel
theorem dX6_write_92 : decode cX6_write 92 = .ok (.ireturn, 1) := by decide +kernel
theorem dX6_count_0 : decode cX6_count 0 = .ok (.iload_n 1, 1) := by decide +kernel
theorem dX6_count_1 : decode cX6_count 1 = .ok (.tableswitch 125 0 8 #[51, 59, 67, 75, 83, 88, 96, 115, 120], 51) := by decide +kernel
theorem dX6_count_52 : decode cX6_count 52 = .ok (.aload_n 0, 1) := by decide +kernel
theorem dX6_count_53 : decode cX6_count 53 = .ok (.getfield 24, 3) := by decide +kernel
theorem dX6_count_56 : decode cX6_count 56 = .ok (.getfield 105, 3) := by decide +kernel
theorem dX6_count_59 : decode cX6_count 59 = .ok (.ireturn, 1) := by decide +kernel
theorem dX6_count_60 : decode cX6_count 60 = .ok (.aload_n 0, 1) := by decide +kernel
theorem dX6_count_61 : decode cX6_count 61 = .ok (.getfield 34, 3) := by decide +kernel
theorem dX6_count_64 : decode cX6_count 64 = .ok (.getfield 118, 3) := by decide +kernel
theorem dX6_count_67 : decode cX6_count 67 = .ok (.ireturn, 1) := by decide +kernel
theorem dX6_count_68 : decode cX6_count 68 = .ok (.aload_n 0, 1) := by decide +kernel
theorem dX6_count_69 : decode cX6_count 69 = .ok (.getfield 14, 3) := by decide +kernel
theorem dX6_count_72 : decode cX6_count 72 = .ok (.getfield 92, 3) := by decide +kernel
theorem dX6_count_75 : decode cX6_count 75 = .ok (.ireturn, 1) := by decide +kernel
theorem dX6_count_76 : decode cX6_count 76 = .ok (.aload_n 0, 1) := by decide +kernel
theorem dX6_count_77 : decode cX6_count 77 = .ok (.getfield 18, 3) := by decide +kernel
theorem dX6_count_80 : decode cX6_count 80 = .ok (.getfield 92, 3) := by decide +kernel
theorem dX6_count_83 : decode cX6_count 83 = .ok (.ireturn, 1) := by decide +kernel
theorem dX6_count_84 : decode cX6_count 84 = .ok (.aload_n 0, 1) := by decide +kernel
theorem dX6_count_85 : decode cX6_count 85 = .ok (.getfield 74, 3) := by decide +kernel
theorem dX6_count_88 : decode cX6_count 88 = .ok (.ireturn, 1) := by decide +kernel
theorem dX6_count_89 : decode cX6_count 89 = .ok (.aload_n 0, 1) := by decide +kernel
theorem dX6_count_90 : decode cX6_count 90 = .ok (.getfield 41, 3) := by decide +kernel
theorem dX6_count_93 : decode cX6_count 93 = .ok (.getfield 121, 3) := by decide +kernel
theorem dX6_count_96 : decode cX6_count 96 = .ok (.ireturn, 1) := by decide +kernel
theorem dX6_count_97 : decode cX6_count 97 = .ok (.aload_n 0, 1) := by decide +kernel
theorem dX6_count_98 : decode cX6_count 98 = .ok (.aload_n 0, 1) := by decide +kernel
theorem dX6_count_99 : decode cX6_count 99 = .ok (.getfield 24, 3) := by decide +kernel
theorem dX6_count_102 : decode cX6_count 102 = .ok (.aload_n 0, 1) := by decide +kernel
theorem dX6_count_103 : decode cX6_count 103 = .ok (.getfield 41, 3) := by decide +kernel
theorem dX6_count_106 : decode cX6_count 106 = .ok (.invokevirtual 175, 3) := by decide +kernel
theorem dX6_count_109 : decode cX6_count 109 = .ok (.invokevirtual 178, 3) := by decide +kernel
theorem dX6_count_112 : decode cX6_count 112 = .ok (.invokestatic 182, 3) := by decide +kernel
theorem dX6_count_115 : decode cX6_count 115 = .ok (.ireturn, 1) := by decide +kernel
theorem dX6_count_116 : decode cX6_count 116 = .ok (.aload_n 0, 1) := by decide +kernel
theorem dX6_count_117 : decode cX6_count 117 = .ok (.getfield 78, 3) := by decide +kernel
theorem dX6_count_120 : decode cX6_count 120 = .ok (.ireturn, 1) := by decide +kernel
theorem dX6_count_121 : decode cX6_count 121 = .ok (.aload_n 0, 1) := by decide +kernel
theorem dX6_count_122 : decode cX6_count 122 = .ok (.getfield 81, 3) := by decide +kernel
theorem dX6_count_125 : decode cX6_count 125 = .ok (.ireturn, 1) := by decide +kernel
theorem dX6_count_126 : decode cX6_count 126 = .ok (.bipush (-2), 2) := by decide +kernel
theorem dX6_count_128 : decode cX6_count 128 = .ok (.ireturn, 1) := by decide +kernel
theorem dX6_digest_0 : decode cX6_digest 0 = .ok (.ldc2_w 266, 3) := by decide +kernel
theorem dX6_digest_3 : decode cX6_digest 3 = .ok (.lstore_n 1, 1) := by decide +kernel
theorem dX6_digest_4 : decode cX6_digest 4 = .ok (.iconst 0, 1) := by decide +kernel
theorem dX6_digest_5 : decode cX6_digest 5 = .ok (.istore_n 3, 1) := by decide +kernel
theorem dX6_digest_6 : decode cX6_digest 6 = .ok (.iload_n 3, 1) := by decide +kernel
theorem dX6_digest_7 : decode cX6_digest 7 = .ok (.bipush 8, 2) := by decide +kernel
theorem dX6_digest_9 : decode cX6_digest 9 = .ok (.if_icmp .ge 22, 3) := by decide +kernel
theorem dX6_digest_12 : decode cX6_digest 12 = .ok (.ldc2_w 268, 3) := by decide +kernel
theorem dX6_digest_15 : decode cX6_digest 15 = .ok (.lload_n 1, 1) := by decide +kernel
theorem dX6_digest_16 : decode cX6_digest 16 = .ok (.lmul, 1) := by decide +kernel
theorem dX6_digest_17 : decode cX6_digest 17 = .ok (.aload_n 0, 1) := by decide +kernel
theorem dX6_digest_18 : decode cX6_digest 18 = .ok (.iload_n 3, 1) := by decide +kernel
theorem dX6_digest_19 : decode cX6_digest 19 = .ok (.invokevirtual 270, 3) := by decide +kernel
theorem dX6_digest_22 : decode cX6_digest 22 = .ok (.i2l, 1) := by decide +kernel
theorem dX6_digest_23 : decode cX6_digest 23 = .ok (.ladd, 1) := by decide +kernel
theorem dX6_digest_24 : decode cX6_digest 24 = .ok (.lstore_n 1, 1) := by decide +kernel
theorem dX6_digest_25 : decode cX6_digest 25 = .ok (.iinc 3 1, 3) := by decide +kernel
theorem dX6_digest_28 : decode cX6_digest 28 = .ok (.goto (-22), 3) := by decide +kernel
theorem dX6_digest_31 : decode cX6_digest 31 = .ok (.iconst 0, 1) := by decide +kernel
theorem dX6_digest_32 : decode cX6_digest 32 = .ok (.istore_n 3, 1) := by decide +kernel
theorem dX6_digest_33 : decode cX6_digest 33 = .ok (.iload_n 3, 1) := by decide +kernel
theorem dX6_digest_34 : decode cX6_digest 34 = .ok (.iconst 2, 1) := by decide +kernel
theorem dX6_digest_35 : decode cX6_digest 35 = .ok (.if_icmp .ge 22, 3) := by decide +kernel
theorem dX6_digest_38 : decode cX6_digest 38 = .ok (.ldc2_w 268, 3) := by decide +kernel
theorem dX6_digest_41 : decode cX6_digest 41 = .ok (.lload_n 1, 1) := by decide +kernel
theorem dX6_digest_42 : decode cX6_digest 42 = .ok (.lmul, 1) := by decide +kernel
theorem dX6_digest_43 : decode cX6_digest 43 = .ok (.aload_n 0, 1) := by decide +kernel
theorem dX6_digest_44 : decode cX6_digest 44 = .ok (.iload_n 3, 1) := by decide +kernel
theorem dX6_digest_45 : decode cX6_digest 45 = .ok (.invokevirtual 273, 3) := by decide +kernel
theorem dX6_digest_48 : decode cX6_digest 48 = .ok (.i2l, 1) := by decide +kernel
theorem dX6_digest_49 : decode cX6_digest 49 = .ok (.ladd, 1) := by decide +kernel
theorem dX6_digest_50 : decode cX6_digest 50 = .ok (.lstore_n 1, 1) := by decide +kernel
theorem dX6_digest_51 : decode cX6_digest 51 = .ok (.iinc 3 1, 3) := by decide +kernel
theorem dX6_digest_54 : decode cX6_digest 54 = .ok (.goto (-21), 3) := by decide +kernel
theorem dX6_digest_57 : decode cX6_digest 57 = .ok (.iconst 0, 1) := by decide +kernel
theorem dX6_digest_58 : decode cX6_digest 58 = .ok (.istore_n 3, 1) := by decide +kernel
theorem dX6_digest_59 : decode cX6_digest 59 = .ok (.iload_n 3, 1) := by decide +kernel
theorem dX6_digest_60 : decode cX6_digest 60 = .ok (.bipush 8, 2) := by decide +kernel
theorem dX6_digest_62 : decode cX6_digest 62 = .ok (.if_icmp .ge 72, 3) := by decide +kernel
theorem dX6_digest_65 : decode cX6_digest 65 = .ok (.ldc2_w 268, 3) := by decide +kernel
theorem dX6_digest_68 : decode cX6_digest 68 = .ok (.lload_n 1, 1) := by decide +kernel
theorem dX6_digest_69 : decode cX6_digest 69 = .ok (.lmul, 1) := by decide +kernel
theorem dX6_digest_70 : decode cX6_digest 70 = .ok (.aload_n 0, 1) := by decide +kernel
theorem dX6_digest_71 : decode cX6_digest 71 = .ok (.iconst 3, 1) := by decide +kernel
theorem dX6_digest_72 : decode cX6_digest 72 = .ok (.iload_n 3, 1) := by decide +kernel
theorem dX6_digest_73 : decode cX6_digest 73 = .ok (.iconst 0, 1) := by decide +kernel
theorem dX6_digest_74 : decode cX6_digest 74 = .ok (.invokevirtual 276, 3) := by decide +kernel
theorem dX6_digest_77 : decode cX6_digest 77 = .ok (.i2l, 1) := by decide +kernel
theorem dX6_digest_78 : decode cX6_digest 78 = .ok (.ladd, 1) := by decide +kernel
theorem dX6_digest_79 : decode cX6_digest 79 = .ok (.lstore_n 1, 1) := by decide +kernel
theorem dX6_digest_80 : decode cX6_digest 80 = .ok (.ldc2_w 268, 3) := by decide +kernel
theorem dX6_digest_83 : decode cX6_digest 83 = .ok (.lload_n 1, 1) := by decide +kernel
theorem dX6_digest_84 : decode cX6_digest 84 = .ok (.lmul, 1) := by decide +kernel
theorem dX6_digest_85 : decode cX6_digest 85 = .ok (.aload_n 0, 1) := by decide +kernel
theorem dX6_digest_86 : decode cX6_digest 86 = .ok (.bipush 12, 2) := by decide +kernel
theorem dX6_digest_88 : decode cX6_digest 88 = .ok (.iload_n 3, 1) := by decide +kernel
theorem dX6_digest_89 : decode cX6_digest 89 = .ok (.iconst 0, 1) := by decide +kernel
theorem dX6_digest_90 : decode cX6_digest 90 = .ok (.invokevirtual 276, 3) := by decide +kernel
theorem dX6_digest_93 : decode cX6_digest 93 = .ok (.i2l, 1) := by decide +kernel
theorem dX6_digest_94 : decode cX6_digest 94 = .ok (.ladd, 1) := by decide +kernel
theorem dX6_digest_95 : decode cX6_digest 95 = .ok (.lstore_n 1, 1) := by decide +kernel
theorem dX6_digest_96 : decode cX6_digest 96 = .ok (.ldc2_w 268, 3) := by decide +kernel
theorem dX6_digest_99 : decode cX6_digest 99 = .ok (.lload_n 1, 1) := by decide +kernel
theorem dX6_digest_100 : decode cX6_digest 100 = .ok (.lmul, 1) := by decide +kernel
theorem dX6_digest_101 : decode cX6_digest 101 = .ok (.aload_n 0, 1) := by decide +kernel
theorem dX6_digest_102 : decode cX6_digest 102 = .ok (.bipush 23, 2) := by decide +kernel
theorem dX6_digest_104 : decode cX6_digest 104 = .ok (.iload_n 3, 1) := by decide +kernel
theorem dX6_digest_105 : decode cX6_digest 105 = .ok (.iconst 0, 1) := by decide +kernel
theorem dX6_digest_106 : decode cX6_digest 106 = .ok (.invokevirtual 276, 3) := by decide +kernel
theorem dX6_digest_109 : decode cX6_digest 109 = .ok (.i2l, 1) := by decide +kernel
theorem dX6_digest_110 : decode cX6_digest 110 = .ok (.ladd, 1) := by decide +kernel
theorem dX6_digest_111 : decode cX6_digest 111 = .ok (.lstore_n 1, 1) := by decide +kernel
theorem dX6_digest_112 : decode cX6_digest 112 = .ok (.ldc2_w 268, 3) := by decide +kernel
theorem dX6_digest_115 : decode cX6_digest 115 = .ok (.lload_n 1, 1) := by decide +kernel
theorem dX6_digest_116 : decode cX6_digest 116 = .ok (.lmul, 1) := by decide +kernel
theorem dX6_digest_117 : decode cX6_digest 117 = .ok (.aload_n 0, 1) := by decide +kernel
theorem dX6_digest_118 : decode cX6_digest 118 = .ok (.bipush 23, 2) := by decide +kernel
theorem dX6_digest_120 : decode cX6_digest 120 = .ok (.iload_n 3, 1) := by decide +kernel
theorem dX6_digest_121 : decode cX6_digest 121 = .ok (.iconst 1, 1) := by decide +kernel
theorem dX6_digest_122 : decode cX6_digest 122 = .ok (.invokevirtual 276, 3) := by decide +kernel
theorem dX6_digest_125 : decode cX6_digest 125 = .ok (.i2l, 1) := by decide +kernel
theorem dX6_digest_126 : decode cX6_digest 126 = .ok (.ladd, 1) := by decide +kernel
theorem dX6_digest_127 : decode cX6_digest 127 = .ok (.lstore_n 1, 1) := by decide +kernel
theorem dX6_digest_128 : decode cX6_digest 128 = .ok (.iinc 3 1, 3) := by decide +kernel
theorem dX6_digest_131 : decode cX6_digest 131 = .ok (.goto (-72), 3) := by decide +kernel
theorem dX6_digest_134 : decode cX6_digest 134 = .ok (.iconst 0, 1) := by decide +kernel
theorem dX6_digest_135 : decode cX6_digest 135 = .ok (.istore_n 3, 1) := by decide +kernel
theorem dX6_digest_136 : decode cX6_digest 136 = .ok (.iload_n 3, 1) := by decide +kernel
theorem dX6_digest_137 : decode cX6_digest 137 = .ok (.bipush 24, 2) := by decide +kernel
theorem dX6_digest_139 : decode cX6_digest 139 = .ok (.if_icmp .ge 22, 3) := by decide +kernel
theorem dX6_digest_142 : decode cX6_digest 142 = .ok (.ldc2_w 268, 3) := by decide +kernel
theorem dX6_digest_145 : decode cX6_digest 145 = .ok (.lload_n 1, 1) := by decide +kernel
theorem dX6_digest_146 : decode cX6_digest 146 = .ok (.lmul, 1) := by decide +kernel
theorem dX6_digest_147 : decode cX6_digest 147 = .ok (.aload_n 0, 1) := by decide +kernel
theorem dX6_digest_148 : decode cX6_digest 148 = .ok (.iload_n 3, 1) := by decide +kernel
theorem dX6_digest_149 : decode cX6_digest 149 = .ok (.invokevirtual 279, 3) := by decide +kernel
theorem dX6_digest_152 : decode cX6_digest 152 = .ok (.i2l, 1) := by decide +kernel
theorem dX6_digest_153 : decode cX6_digest 153 = .ok (.ladd, 1) := by decide +kernel
theorem dX6_digest_154 : decode cX6_digest 154 = .ok (.lstore_n 1, 1) := by decide +kernel
theorem dX6_digest_155 : decode cX6_digest 155 = .ok (.iinc 3 1, 3) := by decide +kernel
theorem dX6_digest_158 : decode cX6_digest 158 = .ok (.goto (-22), 3) := by decide +kernel
theorem dX6_digest_161 : decode cX6_digest 161 = .ok (.aload_n 0, 1) := by decide +kernel
theorem dX6_digest_162 : decode cX6_digest 162 = .ok (.aload_n 0, 1) := by decide +kernel
theorem dX6_digest_163 : decode cX6_digest 163 = .ok (.lload_n 1, 1) := by decide +kernel
theorem dX6_digest_164 : decode cX6_digest 164 = .ok (.invokevirtual 282, 3) := by decide +kernel
theorem dX6_digest_167 : decode cX6_digest 167 = .ok (.invokevirtual 286, 3) := by decide +kernel
theorem dX6_digest_170 : decode cX6_digest 170 = .ok (.lstore_n 1, 1) := by decide +kernel
theorem dX6_digest_171 : decode cX6_digest 171 = .ok (.iconst 0, 1) := by decide +kernel
theorem dX6_digest_172 : decode cX6_digest 172 = .ok (.istore_n 3, 1) := by decide +kernel
theorem dX6_digest_173 : decode cX6_digest 173 = .ok (.iload_n 3, 1) := by decide +kernel
theorem dX6_digest_174 : decode cX6_digest 174 = .ok (.iconst 4, 1) := by decide +kernel
theorem dX6_digest_175 : decode cX6_digest 175 = .ok (.if_icmp .ge 22, 3) := by decide +kernel
theorem dX6_digest_178 : decode cX6_digest 178 = .ok (.ldc2_w 268, 3) := by decide +kernel
theorem dX6_digest_181 : decode cX6_digest 181 = .ok (.lload_n 1, 1) := by decide +kernel
theorem dX6_digest_182 : decode cX6_digest 182 = .ok (.lmul, 1) := by decide +kernel
theorem dX6_digest_183 : decode cX6_digest 183 = .ok (.aload_n 0, 1) := by decide +kernel
theorem dX6_digest_184 : decode cX6_digest 184 = .ok (.iload_n 3, 1) := by decide +kernel
theorem dX6_digest_185 : decode cX6_digest 185 = .ok (.invokevirtual 289, 3) := by decide +kernel
theorem dX6_digest_188 : decode cX6_digest 188 = .ok (.i2l, 1) := by decide +kernel
theorem dX6_digest_189 : decode cX6_digest 189 = .ok (.ladd, 1) := by decide +kernel
theorem dX6_digest_190 : decode cX6_digest 190 = .ok (.lstore_n 1, 1) := by decide +kernel
theorem dX6_digest_191 : decode cX6_digest 191 = .ok (.iinc 3 1, 3) := by decide +kernel
theorem dX6_digest_194 : decode cX6_digest 194 = .ok (.goto (-21), 3) := by decide +kernel
theorem dX6_digest_197 : decode cX6_digest 197 = .ok (.ldc2_w 268, 3) := by decide +kernel
theorem dX6_digest_200 : decode cX6_digest 200 = .ok (.lload_n 1, 1) := by decide +kernel
theorem dX6_digest_201 : decode cX6_digest 201 = .ok (.lmul, 1) := by decide +kernel
theorem dX6_digest_202 : decode cX6_digest 202 = .ok (.aload_n 0, 1) := by decide +kernel
theorem dX6_digest_203 : decode cX6_digest 203 = .ok (.invokevirtual 292, 3) := by decide +kernel
theorem dX6_digest_206 : decode cX6_digest 206 = .ok (.i2l, 1) := by decide +kernel
theorem dX6_digest_207 : decode cX6_digest 207 = .ok (.ladd, 1) := by decide +kernel
theorem dX6_digest_208 : decode cX6_digest 208 = .ok (.lstore_n 1, 1) := by decide +kernel
theorem dX6_digest_209 : decode cX6_digest 209 = .ok (.ldc2_w 268, 3) := by decide +kernel
theorem dX6_digest_212 : decode cX6_digest 212 = .ok (.lload_n 1, 1) := by decide +kernel
theorem dX6_digest_213 : decode cX6_digest 213 = .ok (.lmul, 1) := by decide +kernel
theorem dX6_digest_214 : decode cX6_digest 214 = .ok (.aload_n 0, 1) := by decide +kernel
theorem dX6_digest_215 : decode cX6_digest 215 = .ok (.invokevirtual 295, 3) := by decide +kernel
theorem dX6_digest_218 : decode cX6_digest 218 = .ok (.i2l, 1) := by decide +kernel
theorem dX6_digest_219 : decode cX6_digest 219 = .ok (.ladd, 1) := by decide +kernel
theorem dX6_digest_220 : decode cX6_digest 220 = .ok (.lstore_n 1, 1) := by decide +kernel
theorem dX6_digest_221 : decode cX6_digest 221 = .ok (.ldc2_w 268, 3) := by decide +kernel
theorem dX6_digest_224 : decode cX6_digest 224 = .ok (.lload_n 1, 1) := by decide +kernel
theorem dX6_digest_225 : decode cX6_digest 225 = .ok (.lmul, 1) := by decide +kernel
theorem dX6_digest_226 : decode cX6_digest 226 = .ok (.aload_n 0, 1) := by decide +kernel
theorem dX6_digest_227 : decode cX6_digest 227 = .ok (.iconst 0, 1) := by decide +kernel
theorem dX6_digest_228 : decode cX6_digest 228 = .ok (.invokevirtual 298, 3) := by decide +kernel
theorem dX6_digest_231 : decode cX6_digest 231 = .ok (.i2l, 1) := by decide +kernel
theorem dX6_digest_232 : decode cX6_digest 232 = .ok (.ladd, 1) := by decide +kernel
theorem dX6_digest_233 : decode cX6_digest 233 = .ok (.lstore_n 1, 1) := by decide +kernel
theorem dX6_digest_234 : decode cX6_digest 234 = .ok (.ldc2_w 268, 3) := by decide +kernel
theorem dX6_digest_237 : decode cX6_digest 237 = .ok (.lload_n 1, 1) := by decide +kernel
theorem dX6_digest_238 : decode cX6_digest 238 = .ok (.lmul, 1) := by decide +kernel
theorem dX6_digest_239 : decode cX6_digest 239 = .ok (.aload_n 0, 1) := by decide +kernel
theorem dX6_digest_240 : decode cX6_digest 240 = .ok (.iconst 1, 1) := by decide +kernel
theorem dX6_digest_241 : decode cX6_digest 241 = .ok (.invokevirtual 298, 3) := by decide +kernel
theorem dX6_digest_244 : decode cX6_digest 244 = .ok (.i2l, 1) := by decide +kernel
theorem dX6_digest_245 : decode cX6_digest 245 = .ok (.ladd, 1) := by decide +kernel
theorem dX6_digest_246 : decode cX6_digest 246 = .ok (.lstore_n 1, 1) := by decide +kernel
theorem dX6_digest_247 : decode cX6_digest 247 = .ok (.ldc2_w 268, 3) := by decide +kernel
theorem dX6_digest_250 : decode cX6_digest 250 = .ok (.lload_n 1, 1) := by decide +kernel
theorem dX6_digest_251 : decode cX6_digest 251 = .ok (.lmul, 1) := by decide +kernel
theorem dX6_digest_252 : decode cX6_digest 252 = .ok (.aload_n 0, 1) := by decide +kernel
theorem dX6_digest_253 : decode cX6_digest 253 = .ok (.iconst 0, 1) := by decide +kernel
theorem dX6_digest_254 : decode cX6_digest 254 = .ok (.invokevirtual 301, 3) := by decide +kernel
theorem dX6_digest_257 : decode cX6_digest 257 = .ok (.i2l, 1) := by decide +kernel
theorem dX6_digest_258 : decode cX6_digest 258 = .ok (.ladd, 1) := by decide +kernel
theorem dX6_digest_259 : decode cX6_digest 259 = .ok (.lstore_n 1, 1) := by decide +kernel
theorem dX6_digest_260 : decode cX6_digest 260 = .ok (.ldc2_w 268, 3) := by decide +kernel
theorem dX6_digest_263 : decode cX6_digest 263 = .ok (.lload_n 1, 1) := by decide +kernel
theorem dX6_digest_264 : decode cX6_digest 264 = .ok (.lmul, 1) := by decide +kernel
theorem dX6_digest_265 : decode cX6_digest 265 = .ok (.aload_n 0, 1) := by decide +kernel
theorem dX6_digest_266 : decode cX6_digest 266 = .ok (.iconst 1, 1) := by decide +kernel
theorem dX6_digest_267 : decode cX6_digest 267 = .ok (.invokevirtual 301, 3) := by decide +kernel
theorem dX6_digest_270 : decode cX6_digest 270 = .ok (.i2l, 1) := by decide +kernel
theorem dX6_digest_271 : decode cX6_digest 271 = .ok (.ladd, 1) := by decide +kernel
theorem dX6_digest_272 : decode cX6_digest 272 = .ok (.lstore_n 1, 1) := by decide +kernel
theorem dX6_digest_273 : decode cX6_digest 273 = .ok (.ldc2_w 268, 3) := by decide +kernel
theorem dX6_digest_276 : decode cX6_digest 276 = .ok (.lload_n 1, 1) := by decide +kernel
theorem dX6_digest_277 : decode cX6_digest 277 = .ok (.lmul, 1) := by decide +kernel
theorem dX6_digest_278 : decode cX6_digest 278 = .ok (.aload_n 0, 1) := by decide +kernel
theorem dX6_digest_279 : decode cX6_digest 279 = .ok (.iconst (-1), 1) := by decide +kernel
theorem dX6_digest_280 : decode cX6_digest 280 = .ok (.invokevirtual 304, 3) := by decide +kernel
theorem dX6_digest_283 : decode cX6_digest 283 = .ok (.i2l, 1) := by decide +kernel
theorem dX6_digest_284 : decode cX6_digest 284 = .ok (.ladd, 1) := by decide +kernel
theorem dX6_digest_285 : decode cX6_digest 285 = .ok (.lstore_n 1, 1) := by decide +kernel
theorem dX6_digest_286 : decode cX6_digest 286 = .ok (.ldc2_w 268, 3) := by decide +kernel
theorem dX6_digest_289 : decode cX6_digest 289 = .ok (.lload_n 1, 1) := by decide +kernel
theorem dX6_digest_290 : decode cX6_digest 290 = .ok (.lmul, 1) := by decide +kernel
theorem dX6_digest_291 : decode cX6_digest 291 = .ok (.aload_n 0, 1) := by decide +kernel
theorem dX6_digest_292 : decode cX6_digest 292 = .ok (.iconst 0, 1) := by decide +kernel
theorem dX6_digest_293 : decode cX6_digest 293 = .ok (.invokevirtual 304, 3) := by decide +kernel
theorem dX6_digest_296 : decode cX6_digest 296 = .ok (.i2l, 1) := by decide +kernel
theorem dX6_digest_297 : decode cX6_digest 297 = .ok (.ladd, 1) := by decide +kernel
theorem dX6_digest_298 : decode cX6_digest 298 = .ok (.lstore_n 1, 1) := by decide +kernel
theorem dX6_digest_299 : decode cX6_digest 299 = .ok (.ldc2_w 268, 3) := by decide +kernel
theorem dX6_digest_302 : decode cX6_digest 302 = .ok (.lload_n 1, 1) := by decide +kernel
theorem dX6_digest_303 : decode cX6_digest 303 = .ok (.lmul, 1) := by decide +kernel
theorem dX6_digest_304 : decode cX6_digest 304 = .ok (.aload_n 0, 1) := by decide +kernel
theorem dX6_digest_305 : decode cX6_digest 305 = .ok (.invokevirtual 307, 3) := by decide +kernel
theorem dX6_digest_308 : decode cX6_digest 308 = .ok (.i2l, 1) := by decide +kernel
theorem dX6_digest_309 : decode cX6_digest 309 = .ok (.ladd, 1) := by decide +kernel
theorem dX6_digest_310 : decode cX6_digest 310 = .ok (.lstore_n 1, 1) := by decide +kernel
theorem dX6_digest_311 : decode cX6_digest 311 = .ok (.ldc2_w 268, 3) := by decide +kernel
theorem dX6_digest_314 : decode cX6_digest 314 = .ok (.lload_n 1, 1) := by decide +kernel
theorem dX6_digest_315 : decode cX6_digest 315 = .ok (.lmul, 1) := by decide +kernel
theorem dX6_digest_316 : decode cX6_digest 316 = .ok (.aload_n 0, 1) := by decide +kernel
theorem dX6_digest_317 : decode cX6_digest 317 = .ok (.bipush 7, 2) := by decide +kernel
theorem dX6_digest_319 : decode cX6_digest 319 = .ok (.bipush 9, 2) := by decide +kernel
theorem dX6_digest_321 : decode cX6_digest 321 = .ok (.iconst 0, 1) := by decide +kernel
theorem dX6_digest_322 : decode cX6_digest 322 = .ok (.invokevirtual 310, 3) := by decide +kernel
theorem dX6_digest_325 : decode cX6_digest 325 = .ok (.i2l, 1) := by decide +kernel
theorem dX6_digest_326 : decode cX6_digest 326 = .ok (.ladd, 1) := by decide +kernel
theorem dX6_digest_327 : decode cX6_digest 327 = .ok (.lstore_n 1, 1) := by decide +kernel
theorem dX6_digest_328 : decode cX6_digest 328 = .ok (.ldc2_w 268, 3) := by decide +kernel
theorem dX6_digest_331 : decode cX6_digest 331 = .ok (.lload_n 1, 1) := by decide +kernel
theorem dX6_digest_332 : decode cX6_digest 332 = .ok (.lmul, 1) := by decide +kernel
theorem dX6_digest_333 : decode cX6_digest 333 = .ok (.aload_n 0, 1) := by decide +kernel
theorem dX6_digest_334 : decode cX6_digest 334 = .ok (.bipush 7, 2) := by decide +kernel
theorem dX6_digest_336 : decode cX6_digest 336 = .ok (.bipush 9, 2) := by decide +kernel
theorem dX6_digest_338 : decode cX6_digest 338 = .ok (.iconst 1, 1) := by decide +kernel
theorem dX6_digest_339 : decode cX6_digest 339 = .ok (.invokevirtual 310, 3) := by decide +kernel
theorem dX6_digest_342 : decode cX6_digest 342 = .ok (.i2l, 1) := by decide +kernel
theorem dX6_digest_343 : decode cX6_digest 343 = .ok (.ladd, 1) := by decide +kernel
theorem dX6_digest_344 : decode cX6_digest 344 = .ok (.lreturn, 1) := by decide +kernel
theorem dX6_digestOfTales_0 : decode cX6_digestOfTales 0 = .ok (.lload_n 1, 1) := by decide +kernel
theorem dX6_digestOfTales_1 : decode cX6_digestOfTales 1 = .ok (.lstore_n 3, 1) := by decide +kernel
theorem dX6_digestOfTales_2 : decode cX6_digestOfTales 2 = .ok (.iconst 0, 1) := by decide +kernel
theorem dX6_digestOfTales_3 : decode cX6_digestOfTales 3 = .ok (.istore 5, 2) := by decide +kernel
theorem dX6_digestOfTales_5 : decode cX6_digestOfTales 5 = .ok (.iload 5, 2) := by decide +kernel
theorem dX6_digestOfTales_7 : decode cX6_digestOfTales 7 = .ok (.aload_n 0, 1) := by decide +kernel
theorem dX6_digestOfTales_8 : decode cX6_digestOfTales 8 = .ok (.getfield 24, 3) := by decide +kernel
theorem dX6_digestOfTales_11 : decode cX6_digestOfTales 11 = .ok (.getfield 105, 3) := by decide +kernel
theorem dX6_digestOfTales_14 : decode cX6_digestOfTales 14 = .ok (.if_icmp .ge 145, 3) := by decide +kernel
theorem dX6_digestOfTales_17 : decode cX6_digestOfTales 17 = .ok (.iconst 0, 1) := by decide +kernel
theorem dX6_digestOfTales_18 : decode cX6_digestOfTales 18 = .ok (.istore 6, 2) := by decide +kernel
theorem dX6_digestOfTales_20 : decode cX6_digestOfTales 20 = .ok (.iload 6, 2) := by decide +kernel
theorem dX6_digestOfTales_22 : decode cX6_digestOfTales 22 = .ok (.iconst 4, 1) := by decide +kernel
theorem dX6_digestOfTales_23 : decode cX6_digestOfTales 23 = .ok (.if_icmp .ge 25, 3) := by decide +kernel
theorem dX6_digestOfTales_26 : decode cX6_digestOfTales 26 = .ok (.ldc2_w 268, 3) := by decide +kernel
theorem dX6_digestOfTales_29 : decode cX6_digestOfTales 29 = .ok (.lload_n 3, 1) := by decide +kernel
theorem dX6_digestOfTales_30 : decode cX6_digestOfTales 30 = .ok (.lmul, 1) := by decide +kernel
theorem dX6_digestOfTales_31 : decode cX6_digestOfTales 31 = .ok (.aload_n 0, 1) := by decide +kernel
theorem dX6_digestOfTales_32 : decode cX6_digestOfTales 32 = .ok (.iload 5, 2) := by decide +kernel
theorem dX6_digestOfTales_34 : decode cX6_digestOfTales 34 = .ok (.iload 6, 2) := by decide +kernel
theorem dX6_digestOfTales_36 : decode cX6_digestOfTales 36 = .ok (.invokevirtual 313, 3) := by decide +kernel
theorem dX6_digestOfTales_39 : decode cX6_digestOfTales 39 = .ok (.i2l, 1) := by decide +kernel
theorem dX6_digestOfTales_40 : decode cX6_digestOfTales 40 = .ok (.ladd, 1) := by decide +kernel
theorem dX6_digestOfTales_41 : decode cX6_digestOfTales 41 = .ok (.lstore_n 3, 1) := by decide +kernel
theorem dX6_digestOfTales_42 : decode cX6_digestOfTales 42 = .ok (.iinc 6 1, 3) := by decide +kernel
theorem dX6_digestOfTales_45 : decode cX6_digestOfTales 45 = .ok (.goto (-25), 3) := by decide +kernel
theorem dX6_digestOfTales_48 : decode cX6_digestOfTales 48 = .ok (.iconst 0, 1) := by decide +kernel
theorem dX6_digestOfTales_49 : decode cX6_digestOfTales 49 = .ok (.istore 6, 2) := by decide +kernel
theorem dX6_digestOfTales_51 : decode cX6_digestOfTales 51 = .ok (.iload 6, 2) := by decide +kernel
theorem dX6_digestOfTales_53 : decode cX6_digestOfTales 53 = .ok (.iconst 3, 1) := by decide +kernel
theorem dX6_digestOfTales_54 : decode cX6_digestOfTales 54 = .ok (.if_icmp .ge 25, 3) := by decide +kernel
theorem dX6_digestOfTales_57 : decode cX6_digestOfTales 57 = .ok (.ldc2_w 268, 3) := by decide +kernel
theorem dX6_digestOfTales_60 : decode cX6_digestOfTales 60 = .ok (.lload_n 3, 1) := by decide +kernel
theorem dX6_digestOfTales_61 : decode cX6_digestOfTales 61 = .ok (.lmul, 1) := by decide +kernel
theorem dX6_digestOfTales_62 : decode cX6_digestOfTales 62 = .ok (.aload_n 0, 1) := by decide +kernel
theorem dX6_digestOfTales_63 : decode cX6_digestOfTales 63 = .ok (.iload 5, 2) := by decide +kernel
theorem dX6_digestOfTales_65 : decode cX6_digestOfTales 65 = .ok (.iload 6, 2) := by decide +kernel
theorem dX6_digestOfTales_67 : decode cX6_digestOfTales 67 = .ok (.invokevirtual 316, 3) := by decide +kernel
theorem dX6_digestOfTales_70 : decode cX6_digestOfTales 70 = .ok (.i2l, 1) := by decide +kernel
theorem dX6_digestOfTales_71 : decode cX6_digestOfTales 71 = .ok (.ladd, 1) := by decide +kernel
theorem dX6_digestOfTales_72 : decode cX6_digestOfTales 72 = .ok (.lstore_n 3, 1) := by decide +kernel
theorem dX6_digestOfTales_73 : decode cX6_digestOfTales 73 = .ok (.iinc 6 1, 3) := by decide +kernel
theorem dX6_digestOfTales_76 : decode cX6_digestOfTales 76 = .ok (.goto (-25), 3) := by decide +kernel
theorem dX6_digestOfTales_79 : decode cX6_digestOfTales 79 = .ok (.ldc2_w 268, 3) := by decide +kernel
theorem dX6_digestOfTales_82 : decode cX6_digestOfTales 82 = .ok (.lload_n 3, 1) := by decide +kernel
theorem dX6_digestOfTales_83 : decode cX6_digestOfTales 83 = .ok (.lmul, 1) := by decide +kernel
theorem dX6_digestOfTales_84 : decode cX6_digestOfTales 84 = .ok (.aload_n 0, 1) := by decide +kernel
theorem dX6_digestOfTales_85 : decode cX6_digestOfTales 85 = .ok (.iload 5, 2) := by decide +kernel
theorem dX6_digestOfTales_87 : decode cX6_digestOfTales 87 = .ok (.iconst 0, 1) := by decide +kernel
theorem dX6_digestOfTales_88 : decode cX6_digestOfTales 88 = .ok (.invokevirtual 319, 3) := by decide +kernel
theorem dX6_digestOfTales_91 : decode cX6_digestOfTales 91 = .ok (.i2l, 1) := by decide +kernel
theorem dX6_digestOfTales_92 : decode cX6_digestOfTales 92 = .ok (.ladd, 1) := by decide +kernel
theorem dX6_digestOfTales_93 : decode cX6_digestOfTales 93 = .ok (.lstore_n 3, 1) := by decide +kernel
theorem dX6_digestOfTales_94 : decode cX6_digestOfTales 94 = .ok (.ldc2_w 268, 3) := by decide +kernel
theorem dX6_digestOfTales_97 : decode cX6_digestOfTales 97 = .ok (.lload_n 3, 1) := by decide +kernel
theorem dX6_digestOfTales_98 : decode cX6_digestOfTales 98 = .ok (.lmul, 1) := by decide +kernel
theorem dX6_digestOfTales_99 : decode cX6_digestOfTales 99 = .ok (.aload_n 0, 1) := by decide +kernel
theorem dX6_digestOfTales_100 : decode cX6_digestOfTales 100 = .ok (.iload 5, 2) := by decide +kernel
theorem dX6_digestOfTales_102 : decode cX6_digestOfTales 102 = .ok (.iconst 1, 1) := by decide +kernel
theorem dX6_digestOfTales_103 : decode cX6_digestOfTales 103 = .ok (.invokevirtual 319, 3) := by decide +kernel
theorem dX6_digestOfTales_106 : decode cX6_digestOfTales 106 = .ok (.i2l, 1) := by decide +kernel
theorem dX6_digestOfTales_107 : decode cX6_digestOfTales 107 = .ok (.ladd, 1) := by decide +kernel
theorem dX6_digestOfTales_108 : decode cX6_digestOfTales 108 = .ok (.lstore_n 3, 1) := by decide +kernel
theorem dX6_digestOfTales_109 : decode cX6_digestOfTales 109 = .ok (.ldc2_w 268, 3) := by decide +kernel
theorem dX6_digestOfTales_112 : decode cX6_digestOfTales 112 = .ok (.lload_n 3, 1) := by decide +kernel
theorem dX6_digestOfTales_113 : decode cX6_digestOfTales 113 = .ok (.lmul, 1) := by decide +kernel
theorem dX6_digestOfTales_114 : decode cX6_digestOfTales 114 = .ok (.aload_n 0, 1) := by decide +kernel
theorem dX6_digestOfTales_115 : decode cX6_digestOfTales 115 = .ok (.iload 5, 2) := by decide +kernel
theorem dX6_digestOfTales_117 : decode cX6_digestOfTales 117 = .ok (.iconst 0, 1) := by decide +kernel
theorem dX6_digestOfTales_118 : decode cX6_digestOfTales 118 = .ok (.invokevirtual 322, 3) := by decide +kernel
theorem dX6_digestOfTales_121 : decode cX6_digestOfTales 121 = .ok (.i2l, 1) := by decide +kernel
theorem dX6_digestOfTales_122 : decode cX6_digestOfTales 122 = .ok (.ladd, 1) := by decide +kernel
theorem dX6_digestOfTales_123 : decode cX6_digestOfTales 123 = .ok (.lstore_n 3, 1) := by decide +kernel
theorem dX6_digestOfTales_124 : decode cX6_digestOfTales 124 = .ok (.ldc2_w 268, 3) := by decide +kernel
theorem dX6_digestOfTales_127 : decode cX6_digestOfTales 127 = .ok (.lload_n 3, 1) := by decide +kernel
theorem dX6_digestOfTales_128 : decode cX6_digestOfTales 128 = .ok (.lmul, 1) := by decide +kernel
theorem dX6_digestOfTales_129 : decode cX6_digestOfTales 129 = .ok (.aload_n 0, 1) := by decide +kernel
theorem dX6_digestOfTales_130 : decode cX6_digestOfTales 130 = .ok (.iload 5, 2) := by decide +kernel
theorem dX6_digestOfTales_132 : decode cX6_digestOfTales 132 = .ok (.iconst 1, 1) := by decide +kernel
theorem dX6_digestOfTales_133 : decode cX6_digestOfTales 133 = .ok (.invokevirtual 322, 3) := by decide +kernel
theorem dX6_digestOfTales_136 : decode cX6_digestOfTales 136 = .ok (.i2l, 1) := by decide +kernel
theorem dX6_digestOfTales_137 : decode cX6_digestOfTales 137 = .ok (.ladd, 1) := by decide +kernel
theorem dX6_digestOfTales_138 : decode cX6_digestOfTales 138 = .ok (.lstore_n 3, 1) := by decide +kernel
theorem dX6_digestOfTales_139 : decode cX6_digestOfTales 139 = .ok (.ldc2_w 268, 3) := by decide +kernel
theorem dX6_digestOfTales_142 : decode cX6_digestOfTales 142 = .ok (.lload_n 3, 1) := by decide +kernel
theorem dX6_digestOfTales_143 : decode cX6_digestOfTales 143 = .ok (.lmul, 1) := by decide +kernel
theorem dX6_digestOfTales_144 : decode cX6_digestOfTales 144 = .ok (.aload_n 0, 1) := by decide +kernel
theorem dX6_digestOfTales_145 : decode cX6_digestOfTales 145 = .ok (.iload 5, 2) := by decide +kernel
theorem dX6_digestOfTales_147 : decode cX6_digestOfTales 147 = .ok (.invokevirtual 325, 3) := by decide +kernel
theorem dX6_digestOfTales_150 : decode cX6_digestOfTales 150 = .ok (.i2l, 1) := by decide +kernel
theorem dX6_digestOfTales_151 : decode cX6_digestOfTales 151 = .ok (.ladd, 1) := by decide +kernel
theorem dX6_digestOfTales_152 : decode cX6_digestOfTales 152 = .ok (.lstore_n 3, 1) := by decide +kernel
theorem dX6_digestOfTales_153 : decode cX6_digestOfTales 153 = .ok (.iinc 5 1, 3) := by decide +kernel
theorem dX6_digestOfTales_156 : decode cX6_digestOfTales 156 = .ok (.goto (-151), 3) := by decide +kernel
theorem dX6_digestOfTales_159 : decode cX6_digestOfTales 159 = .ok (.lload_n 3, 1) := by decide +kernel
theorem dX6_digestOfTales_160 : decode cX6_digestOfTales 160 = .ok (.lreturn, 1) := by decide +kernel
theorem dX6_digestOfCharges_0 : decode cX6_digestOfCharges 0 = .ok (.lload_n 1, 1) := by decide +kernel
theorem dX6_digestOfCharges_1 : decode cX6_digestOfCharges 1 = .ok (.lstore_n 3, 1) := by decide +kernel
theorem dX6_digestOfCharges_2 : decode cX6_digestOfCharges 2 = .ok (.aload_n 0, 1) := by decide +kernel
theorem dX6_digestOfCharges_3 : decode cX6_digestOfCharges 3 = .ok (.iconst 5, 1) := by decide +kernel
theorem dX6_digestOfCharges_4 : decode cX6_digestOfCharges 4 = .ok (.invokevirtual 234, 3) := by decide +kernel
theorem dX6_digestOfCharges_7 : decode cX6_digestOfCharges 7 = .ok (.iconst 0, 1) := by decide +kernel
theorem dX6_digestOfCharges_8 : decode cX6_digestOfCharges 8 = .ok (.istore 5, 2) := by decide +kernel
theorem dX6_digestOfCharges_10 : decode cX6_digestOfCharges 10 = .ok (.iload 5, 2) := by decide +kernel
theorem dX6_digestOfCharges_12 : decode cX6_digestOfCharges 12 = .ok (.aload_n 0, 1) := by decide +kernel
theorem dX6_digestOfCharges_13 : decode cX6_digestOfCharges 13 = .ok (.getfield 34, 3) := by decide +kernel
theorem dX6_digestOfCharges_16 : decode cX6_digestOfCharges 16 = .ok (.getfield 118, 3) := by decide +kernel
theorem dX6_digestOfCharges_19 : decode cX6_digestOfCharges 19 = .ok (.if_icmp .ge 121, 3) := by decide +kernel
theorem dX6_digestOfCharges_22 : decode cX6_digestOfCharges 22 = .ok (.ldc2_w 268, 3) := by decide +kernel
theorem dX6_digestOfCharges_25 : decode cX6_digestOfCharges 25 = .ok (.lload_n 3, 1) := by decide +kernel
theorem dX6_digestOfCharges_26 : decode cX6_digestOfCharges 26 = .ok (.lmul, 1) := by decide +kernel
theorem dX6_digestOfCharges_27 : decode cX6_digestOfCharges 27 = .ok (.aload_n 0, 1) := by decide +kernel
theorem dX6_digestOfCharges_28 : decode cX6_digestOfCharges 28 = .ok (.iload 5, 2) := by decide +kernel
theorem dX6_digestOfCharges_30 : decode cX6_digestOfCharges 30 = .ok (.iconst 0, 1) := by decide +kernel
theorem dX6_digestOfCharges_31 : decode cX6_digestOfCharges 31 = .ok (.invokevirtual 328, 3) := by decide +kernel
theorem dX6_digestOfCharges_34 : decode cX6_digestOfCharges 34 = .ok (.i2l, 1) := by decide +kernel
theorem dX6_digestOfCharges_35 : decode cX6_digestOfCharges 35 = .ok (.ladd, 1) := by decide +kernel
theorem dX6_digestOfCharges_36 : decode cX6_digestOfCharges 36 = .ok (.lstore_n 3, 1) := by decide +kernel
theorem dX6_digestOfCharges_37 : decode cX6_digestOfCharges 37 = .ok (.ldc2_w 268, 3) := by decide +kernel
theorem dX6_digestOfCharges_40 : decode cX6_digestOfCharges 40 = .ok (.lload_n 3, 1) := by decide +kernel
theorem dX6_digestOfCharges_41 : decode cX6_digestOfCharges 41 = .ok (.lmul, 1) := by decide +kernel
theorem dX6_digestOfCharges_42 : decode cX6_digestOfCharges 42 = .ok (.aload_n 0, 1) := by decide +kernel
theorem dX6_digestOfCharges_43 : decode cX6_digestOfCharges 43 = .ok (.iload 5, 2) := by decide +kernel
theorem dX6_digestOfCharges_45 : decode cX6_digestOfCharges 45 = .ok (.iconst 1, 1) := by decide +kernel
theorem dX6_digestOfCharges_46 : decode cX6_digestOfCharges 46 = .ok (.invokevirtual 328, 3) := by decide +kernel
theorem dX6_digestOfCharges_49 : decode cX6_digestOfCharges 49 = .ok (.i2l, 1) := by decide +kernel
theorem dX6_digestOfCharges_50 : decode cX6_digestOfCharges 50 = .ok (.ladd, 1) := by decide +kernel
theorem dX6_digestOfCharges_51 : decode cX6_digestOfCharges 51 = .ok (.lstore_n 3, 1) := by decide +kernel
theorem dX6_digestOfCharges_52 : decode cX6_digestOfCharges 52 = .ok (.ldc2_w 268, 3) := by decide +kernel
theorem dX6_digestOfCharges_55 : decode cX6_digestOfCharges 55 = .ok (.lload_n 3, 1) := by decide +kernel
theorem dX6_digestOfCharges_56 : decode cX6_digestOfCharges 56 = .ok (.lmul, 1) := by decide +kernel
theorem dX6_digestOfCharges_57 : decode cX6_digestOfCharges 57 = .ok (.aload_n 0, 1) := by decide +kernel
theorem dX6_digestOfCharges_58 : decode cX6_digestOfCharges 58 = .ok (.iload 5, 2) := by decide +kernel
theorem dX6_digestOfCharges_60 : decode cX6_digestOfCharges 60 = .ok (.invokevirtual 331, 3) := by decide +kernel
theorem dX6_digestOfCharges_63 : decode cX6_digestOfCharges 63 = .ok (.i2l, 1) := by decide +kernel
theorem dX6_digestOfCharges_64 : decode cX6_digestOfCharges 64 = .ok (.ladd, 1) := by decide +kernel
theorem dX6_digestOfCharges_65 : decode cX6_digestOfCharges 65 = .ok (.lstore_n 3, 1) := by decide +kernel
theorem dX6_digestOfCharges_66 : decode cX6_digestOfCharges 66 = .ok (.ldc2_w 268, 3) := by decide +kernel
theorem dX6_digestOfCharges_69 : decode cX6_digestOfCharges 69 = .ok (.lload_n 3, 1) := by decide +kernel
theorem dX6_digestOfCharges_70 : decode cX6_digestOfCharges 70 = .ok (.lmul, 1) := by decide +kernel
theorem dX6_digestOfCharges_71 : decode cX6_digestOfCharges 71 = .ok (.aload_n 0, 1) := by decide +kernel
theorem dX6_digestOfCharges_72 : decode cX6_digestOfCharges 72 = .ok (.iload 5, 2) := by decide +kernel
theorem dX6_digestOfCharges_74 : decode cX6_digestOfCharges 74 = .ok (.iconst 0, 1) := by decide +kernel
theorem dX6_digestOfCharges_75 : decode cX6_digestOfCharges 75 = .ok (.invokevirtual 334, 3) := by decide +kernel
theorem dX6_digestOfCharges_78 : decode cX6_digestOfCharges 78 = .ok (.i2l, 1) := by decide +kernel
theorem dX6_digestOfCharges_79 : decode cX6_digestOfCharges 79 = .ok (.ladd, 1) := by decide +kernel
theorem dX6_digestOfCharges_80 : decode cX6_digestOfCharges 80 = .ok (.lstore_n 3, 1) := by decide +kernel
theorem dX6_digestOfCharges_81 : decode cX6_digestOfCharges 81 = .ok (.ldc2_w 268, 3) := by decide +kernel
theorem dX6_digestOfCharges_84 : decode cX6_digestOfCharges 84 = .ok (.lload_n 3, 1) := by decide +kernel
theorem dX6_digestOfCharges_85 : decode cX6_digestOfCharges 85 = .ok (.lmul, 1) := by decide +kernel
theorem dX6_digestOfCharges_86 : decode cX6_digestOfCharges 86 = .ok (.aload_n 0, 1) := by decide +kernel
theorem dX6_digestOfCharges_87 : decode cX6_digestOfCharges 87 = .ok (.iload 5, 2) := by decide +kernel
theorem dX6_digestOfCharges_89 : decode cX6_digestOfCharges 89 = .ok (.iconst 1, 1) := by decide +kernel
theorem dX6_digestOfCharges_90 : decode cX6_digestOfCharges 90 = .ok (.invokevirtual 334, 3) := by decide +kernel
theorem dX6_digestOfCharges_93 : decode cX6_digestOfCharges 93 = .ok (.i2l, 1) := by decide +kernel
theorem dX6_digestOfCharges_94 : decode cX6_digestOfCharges 94 = .ok (.ladd, 1) := by decide +kernel
theorem dX6_digestOfCharges_95 : decode cX6_digestOfCharges 95 = .ok (.lstore_n 3, 1) := by decide +kernel
theorem dX6_digestOfCharges_96 : decode cX6_digestOfCharges 96 = .ok (.ldc2_w 268, 3) := by decide +kernel
theorem dX6_digestOfCharges_99 : decode cX6_digestOfCharges 99 = .ok (.lload_n 3, 1) := by decide +kernel
theorem dX6_digestOfCharges_100 : decode cX6_digestOfCharges 100 = .ok (.lmul, 1) := by decide +kernel
theorem dX6_digestOfCharges_101 : decode cX6_digestOfCharges 101 = .ok (.aload_n 0, 1) := by decide +kernel
theorem dX6_digestOfCharges_102 : decode cX6_digestOfCharges 102 = .ok (.aload_n 0, 1) := by decide +kernel
theorem dX6_digestOfCharges_103 : decode cX6_digestOfCharges 103 = .ok (.getfield 70, 3) := by decide +kernel
theorem dX6_digestOfCharges_106 : decode cX6_digestOfCharges 106 = .ok (.iload 5, 2) := by decide +kernel
theorem dX6_digestOfCharges_108 : decode cX6_digestOfCharges 108 = .ok (.laload, 1) := by decide +kernel
theorem dX6_digestOfCharges_109 : decode cX6_digestOfCharges 109 = .ok (.iconst 0, 1) := by decide +kernel
theorem dX6_digestOfCharges_110 : decode cX6_digestOfCharges 110 = .ok (.invokevirtual 237, 3) := by decide +kernel
theorem dX6_digestOfCharges_113 : decode cX6_digestOfCharges 113 = .ok (.ladd, 1) := by decide +kernel
theorem dX6_digestOfCharges_114 : decode cX6_digestOfCharges 114 = .ok (.lstore_n 3, 1) := by decide +kernel
theorem dX6_digestOfCharges_115 : decode cX6_digestOfCharges 115 = .ok (.ldc2_w 268, 3) := by decide +kernel
theorem dX6_digestOfCharges_118 : decode cX6_digestOfCharges 118 = .ok (.lload_n 3, 1) := by decide +kernel
theorem dX6_digestOfCharges_119 : decode cX6_digestOfCharges 119 = .ok (.lmul, 1) := by decide +kernel
theorem dX6_digestOfCharges_120 : decode cX6_digestOfCharges 120 = .ok (.aload_n 0, 1) := by decide +kernel
theorem dX6_digestOfCharges_121 : decode cX6_digestOfCharges 121 = .ok (.aload_n 0, 1) := by decide +kernel
theorem dX6_digestOfCharges_122 : decode cX6_digestOfCharges 122 = .ok (.getfield 70, 3) := by decide +kernel
theorem dX6_digestOfCharges_125 : decode cX6_digestOfCharges 125 = .ok (.iload 5, 2) := by decide +kernel
theorem dX6_digestOfCharges_127 : decode cX6_digestOfCharges 127 = .ok (.laload, 1) := by decide +kernel
theorem dX6_digestOfCharges_128 : decode cX6_digestOfCharges 128 = .ok (.iconst 1, 1) := by decide +kernel
theorem dX6_digestOfCharges_129 : decode cX6_digestOfCharges 129 = .ok (.invokevirtual 237, 3) := by decide +kernel
theorem dX6_digestOfCharges_132 : decode cX6_digestOfCharges 132 = .ok (.ladd, 1) := by decide +kernel
theorem dX6_digestOfCharges_133 : decode cX6_digestOfCharges 133 = .ok (.lstore_n 3, 1) := by decide +kernel
theorem dX6_digestOfCharges_134 : decode cX6_digestOfCharges 134 = .ok (.iinc 5 1, 3) := by decide +kernel
theorem dX6_digestOfCharges_137 : decode cX6_digestOfCharges 137 = .ok (.goto (-127), 3) := by decide +kernel
theorem dX6_digestOfCharges_140 : decode cX6_digestOfCharges 140 = .ok (.lload_n 3, 1) := by decide +kernel
theorem dX6_digestOfCharges_141 : decode cX6_digestOfCharges 141 = .ok (.lreturn, 1) := by decide +kernel
theorem dX6_outside_0 : decode cX6_outside 0 = .ok (.iload_n 0, 1) := by decide +kernel
theorem dX6_outside_1 : decode cX6_outside 1 = .ok (.ifCond .lt 8, 3) := by decide +kernel
theorem dX6_outside_4 : decode cX6_outside 4 = .ok (.iload_n 0, 1) := by decide +kernel
theorem dX6_outside_5 : decode cX6_outside 5 = .ok (.iload_n 1, 1) := by decide +kernel
theorem dX6_outside_6 : decode cX6_outside 6 = .ok (.if_icmp .lt 7, 3) := by decide +kernel
theorem dX6_outside_9 : decode cX6_outside 9 = .ok (.iconst 1, 1) := by decide +kernel
theorem dX6_outside_10 : decode cX6_outside 10 = .ok (.goto 4, 3) := by decide +kernel
theorem dX6_outside_13 : decode cX6_outside 13 = .ok (.iconst 0, 1) := by decide +kernel
theorem dX6_outside_14 : decode cX6_outside 14 = .ok (.ireturn, 1) := by decide +kernel
theorem dX6_finding_0 : decode cX6_finding 0 = .ok (.aload_n 0, 1) := by decide +kernel
theorem dX6_finding_1 : decode cX6_finding 1 = .ok (.iload_n 1, 1) := by decide +kernel
theorem dX6_finding_2 : decode cX6_finding 2 = .ok (.putfield 81, 3) := by decide +kernel
theorem dX6_finding_5 : decode cX6_finding 5 = .ok (.bipush (-10), 2) := by decide +kernel
theorem dX6_finding_7 : decode cX6_finding 7 = .ok (.iload_n 1, 1) := by decide +kernel
theorem dX6_finding_8 : decode cX6_finding 8 = .ok (.isub, 1) := by decide +kernel
theorem dX6_finding_9 : decode cX6_finding 9 = .ok (.ireturn, 1) := by decide +kernel
theorem dX6_findingAsLeast_0 : decode cX6_findingAsLeast 0 = .ok (.aload_n 0, 1) := by decide +kernel
theorem dX6_findingAsLeast_1 : decode cX6_findingAsLeast 1 = .ok (.iload_n 1, 1) := by decide +kernel
theorem dX6_findingAsLeast_2 : decode cX6_findingAsLeast 2 = .ok (.putfield 81, 3) := by decide +kernel
theorem dX6_findingAsLeast_5 : decode cX6_findingAsLeast 5 = .ok (.ldc 168, 2) := by decide +kernel
theorem dX6_findingAsLeast_7 : decode cX6_findingAsLeast 7 = .ok (.ireturn, 1) := by decide +kernel
theorem dX6_textOf_0 : decode cX6_textOf 0 = .ok (.iload_n 1, 1) := by decide +kernel
theorem dX6_textOf_1 : decode cX6_textOf 1 = .ok (.ifCond .ne 10, 3) := by decide +kernel
theorem dX6_textOf_4 : decode cX6_textOf 4 = .ok (.aload_n 0, 1) := by decide +kernel
theorem dX6_textOf_5 : decode cX6_textOf 5 = .ok (.getfield 14, 3) := by decide +kernel
theorem dX6_textOf_8 : decode cX6_textOf 8 = .ok (.goto 7, 3) := by decide +kernel
theorem dX6_textOf_11 : decode cX6_textOf 11 = .ok (.aload_n 0, 1) := by decide +kernel
theorem dX6_textOf_12 : decode cX6_textOf 12 = .ok (.getfield 18, 3) := by decide +kernel
theorem dX6_textOf_15 : decode cX6_textOf 15 = .ok (.areturn, 1) := by decide +kernel
theorem dX6_tellAnew_0 : decode cX6_tellAnew 0 = .ok (.aload_n 0, 1) := by decide +kernel
theorem dX6_tellAnew_1 : decode cX6_tellAnew 1 = .ok (.getfield 24, 3) := by decide +kernel
theorem dX6_tellAnew_4 : decode cX6_tellAnew 4 = .ok (.aload_n 0, 1) := by decide +kernel
theorem dX6_tellAnew_5 : decode cX6_tellAnew 5 = .ok (.getfield 14, 3) := by decide +kernel
theorem dX6_tellAnew_8 : decode cX6_tellAnew 8 = .ok (.invokevirtual 337, 3) := by decide +kernel
theorem dX6_tellAnew_11 : decode cX6_tellAnew 11 = .ok (.aload_n 0, 1) := by decide +kernel
theorem dX6_tellAnew_12 : decode cX6_tellAnew 12 = .ok (.getfield 34, 3) := by decide +kernel
theorem dX6_tellAnew_15 : decode cX6_tellAnew 15 = .ok (.aload_n 0, 1) := by decide +kernel
theorem dX6_tellAnew_16 : decode cX6_tellAnew 16 = .ok (.getfield 18, 3) := by decide +kernel
theorem dX6_tellAnew_19 : decode cX6_tellAnew 19 = .ok (.invokevirtual 341, 3) := by decide +kernel
theorem dX6_tellAnew_22 : decode cX6_tellAnew 22 = .ok (.return_, 1) := by decide +kernel
theorem dX6_hearAsTold_0 : decode cX6_hearAsTold 0 = .ok (.aload_n 0, 1) := by decide +kernel
theorem dX6_hearAsTold_1 : decode cX6_hearAsTold 1 = .ok (.getfield 50, 3) := by decide +kernel
theorem dX6_hearAsTold_4 : decode cX6_hearAsTold 4 = .ok (.aload_n 0, 1) := by decide +kernel
theorem dX6_hearAsTold_5 : decode cX6_hearAsTold 5 = .ok (.getfield 24, 3) := by decide +kernel
theorem dX6_hearAsTold_8 : decode cX6_hearAsTold 8 = .ok (.aload_n 0, 1) := by decide +kernel
theorem dX6_hearAsTold_9 : decode cX6_hearAsTold 9 = .ok (.getfield 41, 3) := by decide +kernel
theorem dX6_hearAsTold_12 : decode cX6_hearAsTold 12 = .ok (.invokevirtual 175, 3) := by decide +kernel
theorem dX6_hearAsTold_15 : decode cX6_hearAsTold 15 = .ok (.invokevirtual 342, 3) := by decide +kernel
theorem dX6_hearAsTold_18 : decode cX6_hearAsTold 18 = .ok (.return_, 1) := by decide +kernel
theorem dX6_clearedBits_0 : decode cX6_clearedBits 0 = .ok (.aload_n 0, 1) := by decide +kernel
theorem dX6_clearedBits_1 : decode cX6_clearedBits 1 = .ok (.getfield 50, 3) := by decide +kernel
theorem dX6_clearedBits_4 : decode cX6_clearedBits 4 = .ok (.aload_n 1, 1) := by decide +kernel
theorem dX6_clearedBits_5 : decode cX6_clearedBits 5 = .ok (.iload_n 2, 1) := by decide +kernel
theorem dX6_clearedBits_6 : decode cX6_clearedBits 6 = .ok (.invokevirtual 342, 3) := by decide +kernel
theorem dX6_clearedBits_9 : decode cX6_clearedBits 9 = .ok (.iconst 0, 1) := by decide +kernel
theorem dX6_clearedBits_10 : decode cX6_clearedBits 10 = .ok (.istore_n 3, 1) := by decide +kernel
theorem dX6_clearedBits_11 : decode cX6_clearedBits 11 = .ok (.iconst 0, 1) := by decide +kernel
theorem dX6_clearedBits_12 : decode cX6_clearedBits 12 = .ok (.istore 4, 2) := by decide +kernel
theorem dX6_clearedBits_14 : decode cX6_clearedBits 14 = .ok (.iload 4, 2) := by decide +kernel
theorem dX6_clearedBits_16 : decode cX6_clearedBits 16 = .ok (.aload_n 0, 1) := by decide +kernel
theorem dX6_clearedBits_17 : decode cX6_clearedBits 17 = .ok (.getfield 34, 3) := by decide +kernel
theorem dX6_clearedBits_20 : decode cX6_clearedBits 20 = .ok (.getfield 118, 3) := by decide +kernel
theorem dX6_clearedBits_23 : decode cX6_clearedBits 23 = .ok (.if_icmp .ge 50, 3) := by decide +kernel
theorem dX6_clearedBits_26 : decode cX6_clearedBits 26 = .ok (.aload_n 0, 1) := by decide +kernel
theorem dX6_clearedBits_27 : decode cX6_clearedBits 27 = .ok (.getfield 50, 3) := by decide +kernel
theorem dX6_clearedBits_30 : decode cX6_clearedBits 30 = .ok (.aload_n 0, 1) := by decide +kernel
theorem dX6_clearedBits_31 : decode cX6_clearedBits 31 = .ok (.getfield 34, 3) := by decide +kernel
theorem dX6_clearedBits_34 : decode cX6_clearedBits 34 = .ok (.getfield 119, 3) := by decide +kernel
theorem dX6_clearedBits_37 : decode cX6_clearedBits 37 = .ok (.iload 4, 2) := by decide +kernel
theorem dX6_clearedBits_39 : decode cX6_clearedBits 39 = .ok (.iaload, 1) := by decide +kernel
theorem dX6_clearedBits_40 : decode cX6_clearedBits 40 = .ok (.aload_n 0, 1) := by decide +kernel
theorem dX6_clearedBits_41 : decode cX6_clearedBits 41 = .ok (.getfield 34, 3) := by decide +kernel
theorem dX6_clearedBits_44 : decode cX6_clearedBits 44 = .ok (.getfield 120, 3) := by decide +kernel
theorem dX6_clearedBits_47 : decode cX6_clearedBits 47 = .ok (.iload 4, 2) := by decide +kernel
theorem dX6_clearedBits_49 : decode cX6_clearedBits 49 = .ok (.iaload, 1) := by decide +kernel
theorem dX6_clearedBits_50 : decode cX6_clearedBits 50 = .ok (.invokevirtual 169, 3) := by decide +kernel
theorem dX6_clearedBits_53 : decode cX6_clearedBits 53 = .ok (.aload_n 0, 1) := by decide +kernel
theorem dX6_clearedBits_54 : decode cX6_clearedBits 54 = .ok (.getfield 74, 3) := by decide +kernel
theorem dX6_clearedBits_57 : decode cX6_clearedBits 57 = .ok (.if_icmp .lt 10, 3) := by decide +kernel
theorem dX6_clearedBits_60 : decode cX6_clearedBits 60 = .ok (.iload_n 3, 1) := by decide +kernel
theorem dX6_clearedBits_61 : decode cX6_clearedBits 61 = .ok (.iconst 1, 1) := by decide +kernel
theorem dX6_clearedBits_62 : decode cX6_clearedBits 62 = .ok (.iload 4, 2) := by decide +kernel
theorem dX6_clearedBits_64 : decode cX6_clearedBits 64 = .ok (.ishl, 1) := by decide +kernel
theorem dX6_clearedBits_65 : decode cX6_clearedBits 65 = .ok (.ior, 1) := by decide +kernel
theorem dX6_clearedBits_66 : decode cX6_clearedBits 66 = .ok (.istore_n 3, 1) := by decide +kernel
theorem dX6_clearedBits_67 : decode cX6_clearedBits 67 = .ok (.iinc 4 1, 3) := by decide +kernel
theorem dX6_clearedBits_70 : decode cX6_clearedBits 70 = .ok (.goto (-56), 3) := by decide +kernel
theorem dX6_clearedBits_73 : decode cX6_clearedBits 73 = .ok (.iload_n 3, 1) := by decide +kernel
theorem dX6_clearedBits_74 : decode cX6_clearedBits 74 = .ok (.ireturn, 1) := by decide +kernel
theorem dX6_comesOutSo_0 : decode cX6_comesOutSo 0 = .ok (.iconst 0, 1) := by decide +kernel
theorem dX6_comesOutSo_1 : decode cX6_comesOutSo 1 = .ok (.istore_n 2, 1) := by decide +kernel
theorem dX6_comesOutSo_2 : decode cX6_comesOutSo 2 = .ok (.iload_n 2, 1) := by decide +kernel
theorem dX6_comesOutSo_3 : decode cX6_comesOutSo 3 = .ok (.aload_n 0, 1) := by decide +kernel
theorem dX6_comesOutSo_4 : decode cX6_comesOutSo 4 = .ok (.getfield 78, 3) := by decide +kernel
theorem dX6_comesOutSo_7 : decode cX6_comesOutSo 7 = .ok (.if_icmp .ge 46, 3) := by decide +kernel
theorem dX6_comesOutSo_10 : decode cX6_comesOutSo 10 = .ok (.aload_n 0, 1) := by decide +kernel
theorem dX6_comesOutSo_11 : decode cX6_comesOutSo 11 = .ok (.getfield 54, 3) := by decide +kernel
theorem dX6_comesOutSo_14 : decode cX6_comesOutSo 14 = .ok (.iload_n 2, 1) := by decide +kernel
theorem dX6_comesOutSo_15 : decode cX6_comesOutSo 15 = .ok (.iaload, 1) := by decide +kernel
theorem dX6_comesOutSo_16 : decode cX6_comesOutSo 16 = .ok (.aload_n 0, 1) := by decide +kernel
theorem dX6_comesOutSo_17 : decode cX6_comesOutSo 17 = .ok (.getfield 34, 3) := by decide +kernel
theorem dX6_comesOutSo_20 : decode cX6_comesOutSo 20 = .ok (.getfield 118, 3) := by decide +kernel
theorem dX6_comesOutSo_23 : decode cX6_comesOutSo 23 = .ok (.if_icmp .ge 22, 3) := by decide +kernel
theorem dX6_comesOutSo_26 : decode cX6_comesOutSo 26 = .ok (.iload_n 1, 1) := by decide +kernel
theorem dX6_comesOutSo_27 : decode cX6_comesOutSo 27 = .ok (.aload_n 0, 1) := by decide +kernel
theorem dX6_comesOutSo_28 : decode cX6_comesOutSo 28 = .ok (.getfield 54, 3) := by decide +kernel
theorem dX6_comesOutSo_31 : decode cX6_comesOutSo 31 = .ok (.iload_n 2, 1) := by decide +kernel
theorem dX6_comesOutSo_32 : decode cX6_comesOutSo 32 = .ok (.iaload, 1) := by decide +kernel
theorem dX6_comesOutSo_33 : decode cX6_comesOutSo 33 = .ok (.ishr, 1) := by decide +kernel
theorem dX6_comesOutSo_34 : decode cX6_comesOutSo 34 = .ok (.iconst 1, 1) := by decide +kernel
theorem dX6_comesOutSo_35 : decode cX6_comesOutSo 35 = .ok (.iand, 1) := by decide +kernel
theorem dX6_comesOutSo_36 : decode cX6_comesOutSo 36 = .ok (.aload_n 0, 1) := by decide +kernel
theorem dX6_comesOutSo_37 : decode cX6_comesOutSo 37 = .ok (.getfield 58, 3) := by decide +kernel
theorem dX6_comesOutSo_40 : decode cX6_comesOutSo 40 = .ok (.iload_n 2, 1) := by decide +kernel
theorem dX6_comesOutSo_41 : decode cX6_comesOutSo 41 = .ok (.iaload, 1) := by decide +kernel
theorem dX6_comesOutSo_42 : decode cX6_comesOutSo 42 = .ok (.if_icmp .eq 5, 3) := by decide +kernel
theorem dX6_comesOutSo_45 : decode cX6_comesOutSo 45 = .ok (.iconst 0, 1) := by decide +kernel
theorem dX6_comesOutSo_46 : decode cX6_comesOutSo 46 = .ok (.ireturn, 1) := by decide +kernel
theorem dX6_comesOutSo_47 : decode cX6_comesOutSo 47 = .ok (.iinc 2 1, 3) := by decide +kernel
theorem dX6_comesOutSo_50 : decode cX6_comesOutSo 50 = .ok (.goto (-48), 3) := by decide +kernel
theorem dX6_comesOutSo_53 : decode cX6_comesOutSo 53 = .ok (.iconst 1, 1) := by decide +kernel
theorem dX6_comesOutSo_54 : decode cX6_comesOutSo 54 = .ok (.ireturn, 1) := by decide +kernel
theorem dX6_sparedBits_0 : decode cX6_sparedBits 0 = .ok (.aload_n 0, 1) := by decide +kernel
theorem dX6_sparedBits_1 : decode cX6_sparedBits 1 = .ok (.getfield 41, 3) := by decide +kernel
theorem dX6_sparedBits_4 : decode cX6_sparedBits 4 = .ok (.invokevirtual 175, 3) := by decide +kernel
theorem dX6_sparedBits_7 : decode cX6_sparedBits 7 = .ok (.istore_n 1, 1) := by decide +kernel
theorem dX6_sparedBits_8 : decode cX6_sparedBits 8 = .ok (.iconst 1, 1) := by decide +kernel
theorem dX6_sparedBits_9 : decode cX6_sparedBits 9 = .ok (.aload_n 0, 1) := by decide +kernel
theorem dX6_sparedBits_10 : decode cX6_sparedBits 10 = .ok (.getfield 34, 3) := by decide +kernel
theorem dX6_sparedBits_13 : decode cX6_sparedBits 13 = .ok (.getfield 118, 3) := by decide +kernel
theorem dX6_sparedBits_16 : decode cX6_sparedBits 16 = .ok (.ishl, 1) := by decide +kernel
theorem dX6_sparedBits_17 : decode cX6_sparedBits 17 = .ok (.iconst 1, 1) := by decide +kernel
theorem dX6_sparedBits_18 : decode cX6_sparedBits 18 = .ok (.isub, 1) := by decide +kernel
theorem dX6_sparedBits_19 : decode cX6_sparedBits 19 = .ok (.istore_n 2, 1) := by decide +kernel
theorem dX6_sparedBits_20 : decode cX6_sparedBits 20 = .ok (.aload_n 0, 1) := by decide +kernel
theorem dX6_sparedBits_21 : decode cX6_sparedBits 21 = .ok (.aload_n 0, 1) := by decide +kernel
theorem dX6_sparedBits_22 : decode cX6_sparedBits 22 = .ok (.getfield 24, 3) := by decide +kernel
theorem dX6_sparedBits_25 : decode cX6_sparedBits 25 = .ok (.iload_n 1, 1) := by decide +kernel
theorem dX6_sparedBits_26 : decode cX6_sparedBits 26 = .ok (.invokevirtual 178, 3) := by decide +kernel
theorem dX6_sparedBits_29 : decode cX6_sparedBits 29 = .ok (.iload_n 2, 1) := by decide +kernel
theorem dX6_sparedBits_30 : decode cX6_sparedBits 30 = .ok (.if_icmp .ne 5, 3) := by decide +kernel
theorem dX6_sparedBits_33 : decode cX6_sparedBits 33 = .ok (.iconst 0, 1) := by decide +kernel
theorem dX6_sparedBits_34 : decode cX6_sparedBits 34 = .ok (.ireturn, 1) := by decide +kernel
theorem dX6_sparedBits_35 : decode cX6_sparedBits 35 = .ok (.iconst 0, 1) := by decide +kernel
theorem dX6_sparedBits_36 : decode cX6_sparedBits 36 = .ok (.istore_n 3, 1) := by decide +kernel
theorem dX6_sparedBits_37 : decode cX6_sparedBits 37 = .ok (.iload_n 3, 1) := by decide +kernel
theorem dX6_sparedBits_38 : decode cX6_sparedBits 38 = .ok (.aload_n 0, 1) := by decide +kernel
theorem dX6_sparedBits_39 : decode cX6_sparedBits 39 = .ok (.getfield 41, 3) := by decide +kernel
theorem dX6_sparedBits_42 : decode cX6_sparedBits 42 = .ok (.getfield 121, 3) := by decide +kernel
theorem dX6_sparedBits_45 : decode cX6_sparedBits 45 = .ok (.if_icmp .ge 32, 3) := by decide +kernel
theorem dX6_sparedBits_48 : decode cX6_sparedBits 48 = .ok (.aload_n 0, 1) := by decide +kernel
theorem dX6_sparedBits_49 : decode cX6_sparedBits 49 = .ok (.aload_n 0, 1) := by decide +kernel
theorem dX6_sparedBits_50 : decode cX6_sparedBits 50 = .ok (.getfield 24, 3) := by decide +kernel
theorem dX6_sparedBits_53 : decode cX6_sparedBits 53 = .ok (.iload_n 1, 1) := by decide +kernel
theorem dX6_sparedBits_54 : decode cX6_sparedBits 54 = .ok (.iconst 1, 1) := by decide +kernel
theorem dX6_sparedBits_55 : decode cX6_sparedBits 55 = .ok (.iload_n 3, 1) := by decide +kernel
theorem dX6_sparedBits_56 : decode cX6_sparedBits 56 = .ok (.ishl, 1) := by decide +kernel
theorem dX6_sparedBits_57 : decode cX6_sparedBits 57 = .ok (.iconst (-1), 1) := by decide +kernel
theorem dX6_sparedBits_58 : decode cX6_sparedBits 58 = .ok (.ixor, 1) := by decide +kernel
theorem dX6_sparedBits_59 : decode cX6_sparedBits 59 = .ok (.iand, 1) := by decide +kernel
theorem dX6_sparedBits_60 : decode cX6_sparedBits 60 = .ok (.invokevirtual 178, 3) := by decide +kernel
theorem dX6_sparedBits_63 : decode cX6_sparedBits 63 = .ok (.iload_n 2, 1) := by decide +kernel
theorem dX6_sparedBits_64 : decode cX6_sparedBits 64 = .ok (.if_icmp .ne 7, 3) := by decide +kernel
theorem dX6_sparedBits_67 : decode cX6_sparedBits 67 = .ok (.iconst 1, 1) := by decide +kernel
theorem dX6_sparedBits_68 : decode cX6_sparedBits 68 = .ok (.iload_n 3, 1) := by decide +kernel
theorem dX6_sparedBits_69 : decode cX6_sparedBits 69 = .ok (.ishl, 1) := by decide +kernel
theorem dX6_sparedBits_70 : decode cX6_sparedBits 70 = .ok (.ireturn, 1) := by decide +kernel
theorem dX6_sparedBits_71 : decode cX6_sparedBits 71 = .ok (.iinc 3 1, 3) := by decide +kernel
theorem dX6_sparedBits_74 : decode cX6_sparedBits 74 = .ok (.goto (-37), 3) := by decide +kernel
theorem dX6_sparedBits_77 : decode cX6_sparedBits 77 = .ok (.iconst 0, 1) := by decide +kernel
theorem dX6_sparedBits_78 : decode cX6_sparedBits 78 = .ok (.istore_n 3, 1) := by decide +kernel
theorem dX6_sparedBits_79 : decode cX6_sparedBits 79 = .ok (.iload_n 3, 1) := by decide +kernel
theorem dX6_sparedBits_80 : decode cX6_sparedBits 80 = .ok (.aload_n 0, 1) := by decide +kernel
theorem dX6_sparedBits_81 : decode cX6_sparedBits 81 = .ok (.getfield 41, 3) := by decide +kernel
theorem dX6_sparedBits_84 : decode cX6_sparedBits 84 = .ok (.getfield 121, 3) := by decide +kernel
theorem dX6_sparedBits_87 : decode cX6_sparedBits 87 = .ok (.if_icmp .ge 63, 3) := by decide +kernel
theorem dX6_sparedBits_90 : decode cX6_sparedBits 90 = .ok (.iload_n 3, 1) := by decide +kernel
theorem dX6_sparedBits_91 : decode cX6_sparedBits 91 = .ok (.iconst 1, 1) := by decide +kernel
theorem dX6_sparedBits_92 : decode cX6_sparedBits 92 = .ok (.iadd, 1) := by decide +kernel
theorem dX6_sparedBits_93 : decode cX6_sparedBits 93 = .ok (.istore 4, 2) := by decide +kernel
theorem dX6_sparedBits_95 : decode cX6_sparedBits 95 = .ok (.iload 4, 2) := by decide +kernel
theorem dX6_sparedBits_97 : decode cX6_sparedBits 97 = .ok (.aload_n 0, 1) := by decide +kernel
theorem dX6_sparedBits_98 : decode cX6_sparedBits 98 = .ok (.getfield 41, 3) := by decide +kernel
theorem dX6_sparedBits_101 : decode cX6_sparedBits 101 = .ok (.getfield 121, 3) := by decide +kernel
theorem dX6_sparedBits_104 : decode cX6_sparedBits 104 = .ok (.if_icmp .ge 40, 3) := by decide +kernel
theorem dX6_sparedBits_107 : decode cX6_sparedBits 107 = .ok (.iconst 1, 1) := by decide +kernel
theorem dX6_sparedBits_108 : decode cX6_sparedBits 108 = .ok (.iload_n 3, 1) := by decide +kernel
theorem dX6_sparedBits_109 : decode cX6_sparedBits 109 = .ok (.ishl, 1) := by decide +kernel
theorem dX6_sparedBits_110 : decode cX6_sparedBits 110 = .ok (.iconst 1, 1) := by decide +kernel
theorem dX6_sparedBits_111 : decode cX6_sparedBits 111 = .ok (.iload 4, 2) := by decide +kernel
theorem dX6_sparedBits_113 : decode cX6_sparedBits 113 = .ok (.ishl, 1) := by decide +kernel
theorem dX6_sparedBits_114 : decode cX6_sparedBits 114 = .ok (.ior, 1) := by decide +kernel
theorem dX6_sparedBits_115 : decode cX6_sparedBits 115 = .ok (.istore 5, 2) := by decide +kernel
theorem dX6_sparedBits_117 : decode cX6_sparedBits 117 = .ok (.aload_n 0, 1) := by decide +kernel
theorem dX6_sparedBits_118 : decode cX6_sparedBits 118 = .ok (.aload_n 0, 1) := by decide +kernel
theorem dX6_sparedBits_119 : decode cX6_sparedBits 119 = .ok (.getfield 24, 3) := by decide +kernel
theorem dX6_sparedBits_122 : decode cX6_sparedBits 122 = .ok (.iload_n 1, 1) := by decide +kernel
theorem dX6_sparedBits_123 : decode cX6_sparedBits 123 = .ok (.iload 5, 2) := by decide +kernel
theorem dX6_sparedBits_125 : decode cX6_sparedBits 125 = .ok (.iconst (-1), 1) := by decide +kernel
theorem dX6_sparedBits_126 : decode cX6_sparedBits 126 = .ok (.ixor, 1) := by decide +kernel
theorem dX6_sparedBits_127 : decode cX6_sparedBits 127 = .ok (.iand, 1) := by decide +kernel
theorem dX6_sparedBits_128 : decode cX6_sparedBits 128 = .ok (.invokevirtual 178, 3) := by decide +kernel
theorem dX6_sparedBits_131 : decode cX6_sparedBits 131 = .ok (.iload_n 2, 1) := by decide +kernel
theorem dX6_sparedBits_132 : decode cX6_sparedBits 132 = .ok (.if_icmp .ne 6, 3) := by decide +kernel
theorem dX6_sparedBits_135 : decode cX6_sparedBits 135 = .ok (.iload 5, 2) := by decide +kernel
theorem dX6_sparedBits_137 : decode cX6_sparedBits 137 = .ok (.ireturn, 1) := by decide +kernel
theorem dX6_sparedBits_138 : decode cX6_sparedBits 138 = .ok (.iinc 4 1, 3) := by decide +kernel
theorem dX6_sparedBits_141 : decode cX6_sparedBits 141 = .ok (.goto (-46), 3) := by decide +kernel
theorem dX6_sparedBits_144 : decode cX6_sparedBits 144 = .ok (.iinc 3 1, 3) := by decide +kernel
theorem dX6_sparedBits_147 : decode cX6_sparedBits 147 = .ok (.goto (-68), 3) := by decide +kernel
theorem dX6_sparedBits_150 : decode cX6_sparedBits 150 = .ok (.iconst (-1), 1) := by decide +kernel
theorem dX6_sparedBits_151 : decode cX6_sparedBits 151 = .ok (.ireturn, 1) := by decide +kernel
theorem dX6_nthBit_0 : decode cX6_nthBit 0 = .ok (.iconst 0, 1) := by decide +kernel
theorem dX6_nthBit_1 : decode cX6_nthBit 1 = .ok (.istore_n 2, 1) := by decide +kernel
theorem dX6_nthBit_2 : decode cX6_nthBit 2 = .ok (.iconst 0, 1) := by decide +kernel
theorem dX6_nthBit_3 : decode cX6_nthBit 3 = .ok (.istore_n 3, 1) := by decide +kernel
theorem dX6_nthBit_4 : decode cX6_nthBit 4 = .ok (.iload_n 3, 1) := by decide +kernel
theorem dX6_nthBit_5 : decode cX6_nthBit 5 = .ok (.bipush 8, 2) := by decide +kernel
theorem dX6_nthBit_7 : decode cX6_nthBit 7 = .ok (.if_icmp .ge 28, 3) := by decide +kernel
theorem dX6_nthBit_10 : decode cX6_nthBit 10 = .ok (.iload_n 0, 1) := by decide +kernel
theorem dX6_nthBit_11 : decode cX6_nthBit 11 = .ok (.iload_n 3, 1) := by decide +kernel
theorem dX6_nthBit_12 : decode cX6_nthBit 12 = .ok (.ishr, 1) := by decide +kernel
theorem dX6_nthBit_13 : decode cX6_nthBit 13 = .ok (.iconst 1, 1) := by decide +kernel
theorem dX6_nthBit_14 : decode cX6_nthBit 14 = .ok (.iand, 1) := by decide +kernel
theorem dX6_nthBit_15 : decode cX6_nthBit 15 = .ok (.iconst 1, 1) := by decide +kernel
theorem dX6_nthBit_16 : decode cX6_nthBit 16 = .ok (.if_icmp .ne 13, 3) := by decide +kernel
theorem dX6_nthBit_19 : decode cX6_nthBit 19 = .ok (.iload_n 2, 1) := by decide +kernel
theorem dX6_nthBit_20 : decode cX6_nthBit 20 = .ok (.iload_n 1, 1) := by decide +kernel
theorem dX6_nthBit_21 : decode cX6_nthBit 21 = .ok (.if_icmp .ne 5, 3) := by decide +kernel
theorem dX6_nthBit_24 : decode cX6_nthBit 24 = .ok (.iload_n 3, 1) := by decide +kernel
theorem dX6_nthBit_25 : decode cX6_nthBit 25 = .ok (.ireturn, 1) := by decide +kernel
theorem dX6_nthBit_26 : decode cX6_nthBit 26 = .ok (.iinc 2 1, 3) := by decide +kernel
theorem dX6_nthBit_29 : decode cX6_nthBit 29 = .ok (.iinc 3 1, 3) := by decide +kernel
theorem dX6_nthBit_32 : decode cX6_nthBit 32 = .ok (.goto (-28), 3) := by decide +kernel
theorem dX6_nthBit_35 : decode cX6_nthBit 35 = .ok (.iconst (-1), 1) := by decide +kernel
theorem dX6_nthBit_36 : decode cX6_nthBit 36 = .ok (.ireturn, 1) := by decide +kernel
theorem dX6_addToTally_0 : decode cX6_addToTally 0 = .ok (.iconst 0, 1) := by decide +kernel
theorem dX6_addToTally_1 : decode cX6_addToTally 1 = .ok (.istore_n 2, 1) := by decide +kernel
theorem dX6_addToTally_2 : decode cX6_addToTally 2 = .ok (.iload_n 2, 1) := by decide +kernel
theorem dX6_addToTally_3 : decode cX6_addToTally 3 = .ok (.bipush 8, 2) := by decide +kernel
theorem dX6_addToTally_5 : decode cX6_addToTally 5 = .ok (.if_icmp .ge 23, 3) := by decide +kernel
theorem dX6_addToTally_8 : decode cX6_addToTally 8 = .ok (.aload_n 0, 1) := by decide +kernel
theorem dX6_addToTally_9 : decode cX6_addToTally 9 = .ok (.getfield 67, 3) := by decide +kernel
theorem dX6_addToTally_12 : decode cX6_addToTally 12 = .ok (.iload_n 2, 1) := by decide +kernel
theorem dX6_addToTally_13 : decode cX6_addToTally 13 = .ok (.dup2, 1) := by decide +kernel
theorem dX6_addToTally_14 : decode cX6_addToTally 14 = .ok (.iaload, 1) := by decide +kernel
theorem dX6_addToTally_15 : decode cX6_addToTally 15 = .ok (.iload_n 1, 1) := by decide +kernel
theorem dX6_addToTally_16 : decode cX6_addToTally 16 = .ok (.iload_n 2, 1) := by decide +kernel
theorem dX6_addToTally_17 : decode cX6_addToTally 17 = .ok (.ishr, 1) := by decide +kernel
theorem dX6_addToTally_18 : decode cX6_addToTally 18 = .ok (.iconst 1, 1) := by decide +kernel
theorem dX6_addToTally_19 : decode cX6_addToTally 19 = .ok (.iand, 1) := by decide +kernel
theorem dX6_addToTally_20 : decode cX6_addToTally 20 = .ok (.iadd, 1) := by decide +kernel
theorem dX6_addToTally_21 : decode cX6_addToTally 21 = .ok (.iastore, 1) := by decide +kernel
theorem dX6_addToTally_22 : decode cX6_addToTally 22 = .ok (.iinc 2 1, 3) := by decide +kernel
theorem dX6_addToTally_25 : decode cX6_addToTally 25 = .ok (.goto (-23), 3) := by decide +kernel
theorem dX6_addToTally_28 : decode cX6_addToTally 28 = .ok (.return_, 1) := by decide +kernel
theorem dX6_tallyFavour_0 : decode cX6_tallyFavour 0 = .ok (.aload_n 0, 1) := by decide +kernel
theorem dX6_tallyFavour_1 : decode cX6_tallyFavour 1 = .ok (.getfield 70, 3) := by decide +kernel
theorem dX6_tallyFavour_4 : decode cX6_tallyFavour 4 = .ok (.lconst 0, 1) := by decide +kernel
theorem dX6_tallyFavour_5 : decode cX6_tallyFavour 5 = .ok (.invokestatic 346, 3) := by decide +kernel
theorem dX6_tallyFavour_8 : decode cX6_tallyFavour 8 = .ok (.iconst 0, 1) := by decide +kernel
theorem dX6_tallyFavour_9 : decode cX6_tallyFavour 9 = .ok (.istore_n 2, 1) := by decide +kernel
theorem dX6_tallyFavour_10 : decode cX6_tallyFavour 10 = .ok (.iload_n 2, 1) := by decide +kernel
theorem dX6_tallyFavour_11 : decode cX6_tallyFavour 11 = .ok (.aload_n 0, 1) := by decide +kernel
theorem dX6_tallyFavour_12 : decode cX6_tallyFavour 12 = .ok (.getfield 41, 3) := by decide +kernel
theorem dX6_tallyFavour_15 : decode cX6_tallyFavour 15 = .ok (.invokevirtual 175, 3) := by decide +kernel
theorem dX6_tallyFavour_18 : decode cX6_tallyFavour 18 = .ok (.if_icmp .gt 102, 3) := by decide +kernel
theorem dX6_tallyFavour_21 : decode cX6_tallyFavour 21 = .ok (.iload_n 2, 1) := by decide +kernel
theorem dX6_tallyFavour_22 : decode cX6_tallyFavour 22 = .ok (.invokestatic 182, 3) := by decide +kernel
theorem dX6_tallyFavour_25 : decode cX6_tallyFavour 25 = .ok (.istore_n 3, 1) := by decide +kernel
theorem dX6_tallyFavour_26 : decode cX6_tallyFavour 26 = .ok (.iload_n 1, 1) := by decide +kernel
theorem dX6_tallyFavour_27 : decode cX6_tallyFavour 27 = .ok (.iload_n 3, 1) := by decide +kernel
theorem dX6_tallyFavour_28 : decode cX6_tallyFavour 28 = .ok (.invokestatic 349, 3) := by decide +kernel
theorem dX6_tallyFavour_31 : decode cX6_tallyFavour 31 = .ok (.bipush 16, 2) := by decide +kernel
theorem dX6_tallyFavour_33 : decode cX6_tallyFavour 33 = .ok (.iload_n 1, 1) := by decide +kernel
theorem dX6_tallyFavour_34 : decode cX6_tallyFavour 34 = .ok (.isub, 1) := by decide +kernel
theorem dX6_tallyFavour_35 : decode cX6_tallyFavour 35 = .ok (.aload_n 0, 1) := by decide +kernel
theorem dX6_tallyFavour_36 : decode cX6_tallyFavour 36 = .ok (.getfield 41, 3) := by decide +kernel
theorem dX6_tallyFavour_39 : decode cX6_tallyFavour 39 = .ok (.getfield 121, 3) := by decide +kernel
theorem dX6_tallyFavour_42 : decode cX6_tallyFavour 42 = .ok (.iload_n 3, 1) := by decide +kernel
theorem dX6_tallyFavour_43 : decode cX6_tallyFavour 43 = .ok (.isub, 1) := by decide +kernel
theorem dX6_tallyFavour_44 : decode cX6_tallyFavour 44 = .ok (.invokestatic 349, 3) := by decide +kernel
theorem dX6_tallyFavour_47 : decode cX6_tallyFavour 47 = .ok (.lmul, 1) := by decide +kernel
theorem dX6_tallyFavour_48 : decode cX6_tallyFavour 48 = .ok (.lstore 4, 2) := by decide +kernel
theorem dX6_tallyFavour_50 : decode cX6_tallyFavour 50 = .ok (.lload 4, 2) := by decide +kernel
theorem dX6_tallyFavour_52 : decode cX6_tallyFavour 52 = .ok (.lconst 0, 1) := by decide +kernel
theorem dX6_tallyFavour_53 : decode cX6_tallyFavour 53 = .ok (.lcmp, 1) := by decide +kernel
theorem dX6_tallyFavour_54 : decode cX6_tallyFavour 54 = .ok (.ifCond .ne 7, 3) := by decide +kernel
theorem dX6_tallyFavour_57 : decode cX6_tallyFavour 57 = .ok (.iconst 0, 1) := by decide +kernel
theorem dX6_tallyFavour_58 : decode cX6_tallyFavour 58 = .ok (.goto 12, 3) := by decide +kernel
theorem dX6_tallyFavour_61 : decode cX6_tallyFavour 61 = .ok (.aload_n 0, 1) := by decide +kernel
theorem dX6_tallyFavour_62 : decode cX6_tallyFavour 62 = .ok (.aload_n 0, 1) := by decide +kernel
theorem dX6_tallyFavour_63 : decode cX6_tallyFavour 63 = .ok (.getfield 24, 3) := by decide +kernel
theorem dX6_tallyFavour_66 : decode cX6_tallyFavour 66 = .ok (.iload_n 2, 1) := by decide +kernel
theorem dX6_tallyFavour_67 : decode cX6_tallyFavour 67 = .ok (.invokevirtual 178, 3) := by decide +kernel
theorem dX6_tallyFavour_70 : decode cX6_tallyFavour 70 = .ok (.istore 6, 2) := by decide +kernel
theorem dX6_tallyFavour_72 : decode cX6_tallyFavour 72 = .ok (.iconst 0, 1) := by decide +kernel
theorem dX6_tallyFavour_73 : decode cX6_tallyFavour 73 = .ok (.istore 7, 2) := by decide +kernel
theorem dX6_tallyFavour_75 : decode cX6_tallyFavour 75 = .ok (.iload 7, 2) := by decide +kernel
theorem dX6_tallyFavour_77 : decode cX6_tallyFavour 77 = .ok (.aload_n 0, 1) := by decide +kernel
theorem dX6_tallyFavour_78 : decode cX6_tallyFavour 78 = .ok (.getfield 34, 3) := by decide +kernel
theorem dX6_tallyFavour_81 : decode cX6_tallyFavour 81 = .ok (.getfield 118, 3) := by decide +kernel
theorem dX6_tallyFavour_84 : decode cX6_tallyFavour 84 = .ok (.if_icmp .ge 30, 3) := by decide +kernel
theorem dX6_tallyFavour_87 : decode cX6_tallyFavour 87 = .ok (.aload_n 0, 1) := by decide +kernel
theorem dX6_tallyFavour_88 : decode cX6_tallyFavour 88 = .ok (.getfield 70, 3) := by decide +kernel
theorem dX6_tallyFavour_91 : decode cX6_tallyFavour 91 = .ok (.iload 7, 2) := by decide +kernel
theorem dX6_tallyFavour_93 : decode cX6_tallyFavour 93 = .ok (.dup2, 1) := by decide +kernel
theorem dX6_tallyFavour_94 : decode cX6_tallyFavour 94 = .ok (.laload, 1) := by decide +kernel
theorem dX6_tallyFavour_95 : decode cX6_tallyFavour 95 = .ok (.iload 6, 2) := by decide +kernel
theorem dX6_tallyFavour_97 : decode cX6_tallyFavour 97 = .ok (.iload 7, 2) := by decide +kernel
theorem dX6_tallyFavour_99 : decode cX6_tallyFavour 99 = .ok (.ishr, 1) := by decide +kernel
theorem dX6_tallyFavour_100 : decode cX6_tallyFavour 100 = .ok (.iconst 1, 1) := by decide +kernel
theorem dX6_tallyFavour_101 : decode cX6_tallyFavour 101 = .ok (.iand, 1) := by decide +kernel
theorem dX6_tallyFavour_102 : decode cX6_tallyFavour 102 = .ok (.i2l, 1) := by decide +kernel
theorem dX6_tallyFavour_103 : decode cX6_tallyFavour 103 = .ok (.lload 4, 2) := by decide +kernel
theorem dX6_tallyFavour_105 : decode cX6_tallyFavour 105 = .ok (.lmul, 1) := by decide +kernel
theorem dX6_tallyFavour_106 : decode cX6_tallyFavour 106 = .ok (.ladd, 1) := by decide +kernel
theorem dX6_tallyFavour_107 : decode cX6_tallyFavour 107 = .ok (.lastore, 1) := by decide +kernel
theorem dX6_tallyFavour_108 : decode cX6_tallyFavour 108 = .ok (.iinc 7 1, 3) := by decide +kernel
theorem dX6_tallyFavour_111 : decode cX6_tallyFavour 111 = .ok (.goto (-36), 3) := by decide +kernel
theorem dX6_tallyFavour_114 : decode cX6_tallyFavour 114 = .ok (.iinc 2 1, 3) := by decide +kernel
theorem dX6_tallyFavour_117 : decode cX6_tallyFavour 117 = .ok (.goto (-107), 3) := by decide +kernel
theorem dX6_tallyFavour_120 : decode cX6_tallyFavour 120 = .ok (.return_, 1) := by decide +kernel
theorem dX6_power_0 : decode cX6_power 0 = .ok (.lconst 1, 1) := by decide +kernel
theorem dX6_power_1 : decode cX6_power 1 = .ok (.lstore_n 2, 1) := by decide +kernel
theorem dX6_power_2 : decode cX6_power 2 = .ok (.iconst 0, 1) := by decide +kernel
theorem dX6_power_3 : decode cX6_power 3 = .ok (.istore 4, 2) := by decide +kernel
theorem dX6_power_5 : decode cX6_power 5 = .ok (.iload 4, 2) := by decide +kernel
theorem dX6_power_7 : decode cX6_power 7 = .ok (.iload_n 1, 1) := by decide +kernel
theorem dX6_power_8 : decode cX6_power 8 = .ok (.if_icmp .ge 14, 3) := by decide +kernel
theorem dX6_power_11 : decode cX6_power 11 = .ok (.lload_n 2, 1) := by decide +kernel
theorem dX6_power_12 : decode cX6_power 12 = .ok (.iload_n 0, 1) := by decide +kernel
theorem dX6_power_13 : decode cX6_power 13 = .ok (.i2l, 1) := by decide +kernel
theorem dX6_power_14 : decode cX6_power 14 = .ok (.lmul, 1) := by decide +kernel
theorem dX6_power_15 : decode cX6_power 15 = .ok (.lstore_n 2, 1) := by decide +kernel
theorem dX6_power_16 : decode cX6_power 16 = .ok (.iinc 4 1, 3) := by decide +kernel
theorem dX6_power_19 : decode cX6_power 19 = .ok (.goto (-14), 3) := by decide +kernel
theorem dX6_power_22 : decode cX6_power 22 = .ok (.lload_n 2, 1) := by decide +kernel
theorem dX6_power_23 : decode cX6_power 23 = .ok (.lreturn, 1) := by decide +kernel
theorem dX6_lowestTerm_0 : decode cX6_lowestTerm 0 = .ok (.lload_n 1, 1) := by decide +kernel
theorem dX6_lowestTerm_1 : decode cX6_lowestTerm 1 = .ok (.lstore 4, 2) := by decide +kernel
theorem dX6_lowestTerm_3 : decode cX6_lowestTerm 3 = .ok (.iconst 4, 1) := by decide +kernel
theorem dX6_lowestTerm_4 : decode cX6_lowestTerm 4 = .ok (.aload_n 0, 1) := by decide +kernel
theorem dX6_lowestTerm_5 : decode cX6_lowestTerm 5 = .ok (.getfield 41, 3) := by decide +kernel
theorem dX6_lowestTerm_8 : decode cX6_lowestTerm 8 = .ok (.getfield 121, 3) := by decide +kernel
theorem dX6_lowestTerm_11 : decode cX6_lowestTerm 11 = .ok (.imul, 1) := by decide +kernel
theorem dX6_lowestTerm_12 : decode cX6_lowestTerm 12 = .ok (.istore 6, 2) := by decide +kernel
theorem dX6_lowestTerm_14 : decode cX6_lowestTerm 14 = .ok (.iload 6, 2) := by decide +kernel
theorem dX6_lowestTerm_16 : decode cX6_lowestTerm 16 = .ok (.ifCond .le 24, 3) := by decide +kernel
theorem dX6_lowestTerm_19 : decode cX6_lowestTerm 19 = .ok (.lload 4, 2) := by decide +kernel
theorem dX6_lowestTerm_21 : decode cX6_lowestTerm 21 = .ok (.lconst 1, 1) := by decide +kernel
theorem dX6_lowestTerm_22 : decode cX6_lowestTerm 22 = .ok (.land, 1) := by decide +kernel
theorem dX6_lowestTerm_23 : decode cX6_lowestTerm 23 = .ok (.lconst 0, 1) := by decide +kernel
theorem dX6_lowestTerm_24 : decode cX6_lowestTerm 24 = .ok (.lcmp, 1) := by decide +kernel
theorem dX6_lowestTerm_25 : decode cX6_lowestTerm 25 = .ok (.ifCond .ne 15, 3) := by decide +kernel
theorem dX6_lowestTerm_28 : decode cX6_lowestTerm 28 = .ok (.lload 4, 2) := by decide +kernel
theorem dX6_lowestTerm_30 : decode cX6_lowestTerm 30 = .ok (.iconst 1, 1) := by decide +kernel
theorem dX6_lowestTerm_31 : decode cX6_lowestTerm 31 = .ok (.lshr, 1) := by decide +kernel
theorem dX6_lowestTerm_32 : decode cX6_lowestTerm 32 = .ok (.lstore 4, 2) := by decide +kernel
theorem dX6_lowestTerm_34 : decode cX6_lowestTerm 34 = .ok (.iinc 6 (-1), 3) := by decide +kernel
theorem dX6_lowestTerm_37 : decode cX6_lowestTerm 37 = .ok (.goto (-23), 3) := by decide +kernel
theorem dX6_lowestTerm_40 : decode cX6_lowestTerm 40 = .ok (.iload_n 3, 1) := by decide +kernel
theorem dX6_lowestTerm_41 : decode cX6_lowestTerm 41 = .ok (.ifCond .ne 8, 3) := by decide +kernel
theorem dX6_lowestTerm_44 : decode cX6_lowestTerm 44 = .ok (.lload 4, 2) := by decide +kernel
theorem dX6_lowestTerm_46 : decode cX6_lowestTerm 46 = .ok (.goto 7, 3) := by decide +kernel
theorem dX6_lowestTerm_49 : decode cX6_lowestTerm 49 = .ok (.lconst 1, 1) := by decide +kernel
theorem dX6_lowestTerm_50 : decode cX6_lowestTerm 50 = .ok (.iload 6, 2) := by decide +kernel
theorem dX6_lowestTerm_52 : decode cX6_lowestTerm 52 = .ok (.lshl, 1) := by decide +kernel
theorem dX6_lowestTerm_53 : decode cX6_lowestTerm 53 = .ok (.lreturn, 1) := by decide +kernel
theorem dX6_reach_0 : decode cX6_reach 0 = .ok (.iload_n 0, 1) := by decide +kernel
theorem dX6_reach_1 : decode cX6_reach 1 = .ok (.iload_n 0, 1) := by decide +kernel
theorem dX6_reach_2 : decode cX6_reach 2 = .ok (.iconst 1, 1) := by decide +kernel
theorem dX6_reach_3 : decode cX6_reach 3 = .ok (.ishl, 1) := by decide +kernel
theorem dX6_reach_4 : decode cX6_reach 4 = .ok (.ior, 1) := by decide +kernel
theorem dX6_reach_5 : decode cX6_reach 5 = .ok (.iload_n 0, 1) := by decide +kernel
theorem dX6_reach_6 : decode cX6_reach 6 = .ok (.iconst 1, 1) := by decide +kernel
theorem dX6_reach_7 : decode cX6_reach 7 = .ok (.ishr, 1) := by decide +kernel
theorem dX6_reach_8 : decode cX6_reach 8 = .ok (.ior, 1) := by decide +kernel
theorem dX6_reach_9 : decode cX6_reach 9 = .ok (.sipush 255, 3) := by decide +kernel
theorem dX6_reach_12 : decode cX6_reach 12 = .ok (.iand, 1) := by decide +kernel
theorem dX6_reach_13 : decode cX6_reach 13 = .ok (.ireturn, 1) := by decide +kernel
theorem dX6_rankBy_0 : decode cX6_rankBy 0 = .ok (.iload_n 0, 1) := by decide +kernel
theorem dX6_rankBy_1 : decode cX6_rankBy 1 = .ok (.iconst (-1), 1) := by decide +kernel
theorem dX6_rankBy_2 : decode cX6_rankBy 2 = .ok (.if_icmp .ne 5, 3) := by decide +kernel
theorem dX6_rankBy_5 : decode cX6_rankBy 5 = .ok (.iconst 0, 1) := by decide +kernel
theorem dX6_rankBy_6 : decode cX6_rankBy 6 = .ok (.ireturn, 1) := by decide +kernel
theorem dX6_rankBy_7 : decode cX6_rankBy 7 = .ok (.iload_n 0, 1) := by decide +kernel
theorem dX6_rankBy_8 : decode cX6_rankBy 8 = .ok (.bipush 6, 2) := by decide +kernel
theorem dX6_rankBy_10 : decode cX6_rankBy 10 = .ok (.if_icmp .ge 7, 3) := by decide +kernel
theorem dX6_rankBy_13 : decode cX6_rankBy 13 = .ok (.iconst 1, 1) := by decide +kernel
theorem dX6_rankBy_14 : decode cX6_rankBy 14 = .ok (.goto 14, 3) := by decide +kernel
theorem dX6_rankBy_17 : decode cX6_rankBy 17 = .ok (.iload_n 0, 1) := by decide +kernel
theorem dX6_rankBy_18 : decode cX6_rankBy 18 = .ok (.bipush 15, 2) := by decide +kernel
theorem dX6_rankBy_20 : decode cX6_rankBy 20 = .ok (.if_icmp .ge 7, 3) := by decide +kernel
theorem dX6_rankBy_23 : decode cX6_rankBy 23 = .ok (.iconst 2, 1) := by decide +kernel
theorem dX6_rankBy_24 : decode cX6_rankBy 24 = .ok (.goto 4, 3) := by decide +kernel
theorem dX6_rankBy_27 : decode cX6_rankBy 27 = .ok (.iconst 3, 1) := by decide +kernel
theorem dX6_rankBy_28 : decode cX6_rankBy 28 = .ok (.ireturn, 1) := by decide +kernel
theorem dJ6_bitCount_0f7a4_0 : decode cJ6_bitCount_0f7a4 0 = .ok (.iload_n 0, 1) := by decide +kernel
theorem dJ6_bitCount_0f7a4_1 : decode cJ6_bitCount_0f7a4 1 = .ok (.iload_n 0, 1) := by decide +kernel
theorem dJ6_bitCount_0f7a4_2 : decode cJ6_bitCount_0f7a4 2 = .ok (.iconst 1, 1) := by decide +kernel
theorem dJ6_bitCount_0f7a4_3 : decode cJ6_bitCount_0f7a4 3 = .ok (.iushr, 1) := by decide +kernel
theorem dJ6_bitCount_0f7a4_4 : decode cJ6_bitCount_0f7a4 4 = .ok (.ldc_w 265, 3) := by decide +kernel
theorem dJ6_bitCount_0f7a4_7 : decode cJ6_bitCount_0f7a4 7 = .ok (.iand, 1) := by decide +kernel
theorem dJ6_bitCount_0f7a4_8 : decode cJ6_bitCount_0f7a4 8 = .ok (.isub, 1) := by decide +kernel
theorem dJ6_bitCount_0f7a4_9 : decode cJ6_bitCount_0f7a4 9 = .ok (.istore_n 0, 1) := by decide +kernel
theorem dJ6_bitCount_0f7a4_10 : decode cJ6_bitCount_0f7a4 10 = .ok (.iload_n 0, 1) := by decide +kernel
theorem dJ6_bitCount_0f7a4_11 : decode cJ6_bitCount_0f7a4 11 = .ok (.ldc_w 266, 3) := by decide +kernel
theorem dJ6_bitCount_0f7a4_14 : decode cJ6_bitCount_0f7a4 14 = .ok (.iand, 1) := by decide +kernel
theorem dJ6_bitCount_0f7a4_15 : decode cJ6_bitCount_0f7a4 15 = .ok (.iload_n 0, 1) := by decide +kernel
theorem dJ6_bitCount_0f7a4_16 : decode cJ6_bitCount_0f7a4 16 = .ok (.iconst 2, 1) := by decide +kernel
theorem dJ6_bitCount_0f7a4_17 : decode cJ6_bitCount_0f7a4 17 = .ok (.iushr, 1) := by decide +kernel
theorem dJ6_bitCount_0f7a4_18 : decode cJ6_bitCount_0f7a4 18 = .ok (.ldc_w 266, 3) := by decide +kernel
theorem dJ6_bitCount_0f7a4_21 : decode cJ6_bitCount_0f7a4 21 = .ok (.iand, 1) := by decide +kernel
theorem dJ6_bitCount_0f7a4_22 : decode cJ6_bitCount_0f7a4 22 = .ok (.iadd, 1) := by decide +kernel
theorem dJ6_bitCount_0f7a4_23 : decode cJ6_bitCount_0f7a4 23 = .ok (.istore_n 0, 1) := by decide +kernel
theorem dJ6_bitCount_0f7a4_24 : decode cJ6_bitCount_0f7a4 24 = .ok (.iload_n 0, 1) := by decide +kernel
theorem dJ6_bitCount_0f7a4_25 : decode cJ6_bitCount_0f7a4 25 = .ok (.iload_n 0, 1) := by decide +kernel
theorem dJ6_bitCount_0f7a4_26 : decode cJ6_bitCount_0f7a4 26 = .ok (.iconst 4, 1) := by decide +kernel
theorem dJ6_bitCount_0f7a4_27 : decode cJ6_bitCount_0f7a4 27 = .ok (.iushr, 1) := by decide +kernel
theorem dJ6_bitCount_0f7a4_28 : decode cJ6_bitCount_0f7a4 28 = .ok (.iadd, 1) := by decide +kernel
theorem dJ6_bitCount_0f7a4_29 : decode cJ6_bitCount_0f7a4 29 = .ok (.ldc_w 267, 3) := by decide +kernel
theorem dJ6_bitCount_0f7a4_32 : decode cJ6_bitCount_0f7a4 32 = .ok (.iand, 1) := by decide +kernel
theorem dJ6_bitCount_0f7a4_33 : decode cJ6_bitCount_0f7a4 33 = .ok (.istore_n 0, 1) := by decide +kernel
theorem dJ6_bitCount_0f7a4_34 : decode cJ6_bitCount_0f7a4 34 = .ok (.iload_n 0, 1) := by decide +kernel
theorem dJ6_bitCount_0f7a4_35 : decode cJ6_bitCount_0f7a4 35 = .ok (.iload_n 0, 1) := by decide +kernel
theorem dJ6_bitCount_0f7a4_36 : decode cJ6_bitCount_0f7a4 36 = .ok (.bipush 8, 2) := by decide +kernel
theorem dJ6_bitCount_0f7a4_38 : decode cJ6_bitCount_0f7a4 38 = .ok (.iushr, 1) := by decide +kernel
theorem dJ6_bitCount_0f7a4_39 : decode cJ6_bitCount_0f7a4 39 = .ok (.iadd, 1) := by decide +kernel
theorem dJ6_bitCount_0f7a4_40 : decode cJ6_bitCount_0f7a4 40 = .ok (.istore_n 0, 1) := by decide +kernel
theorem dJ6_bitCount_0f7a4_41 : decode cJ6_bitCount_0f7a4 41 = .ok (.iload_n 0, 1) := by decide +kernel
theorem dJ6_bitCount_0f7a4_42 : decode cJ6_bitCount_0f7a4 42 = .ok (.iload_n 0, 1) := by decide +kernel
theorem dJ6_bitCount_0f7a4_43 : decode cJ6_bitCount_0f7a4 43 = .ok (.bipush 16, 2) := by decide +kernel
theorem dJ6_bitCount_0f7a4_45 : decode cJ6_bitCount_0f7a4 45 = .ok (.iushr, 1) := by decide +kernel
theorem dJ6_bitCount_0f7a4_46 : decode cJ6_bitCount_0f7a4 46 = .ok (.iadd, 1) := by decide +kernel
theorem dJ6_bitCount_0f7a4_47 : decode cJ6_bitCount_0f7a4 47 = .ok (.istore_n 0, 1) := by decide +kernel
theorem dJ6_bitCount_0f7a4_48 : decode cJ6_bitCount_0f7a4 48 = .ok (.iload_n 0, 1) := by decide +kernel
theorem dJ6_bitCount_0f7a4_49 : decode cJ6_bitCount_0f7a4 49 = .ok (.bipush 63, 2) := by decide +kernel
theorem dJ6_bitCount_0f7a4_51 : decode cJ6_bitCount_0f7a4 51 = .ok (.iand, 1) := by decide +kernel
theorem dJ6_bitCount_0f7a4_52 : decode cJ6_bitCount_0f7a4 52 = .ok (.ireturn, 1) := by decide +kernel
theorem dJ9_abs_0f7a4_0 : decode cJ9_abs_0f7a4 0 = .ok (.iload_n 0, 1) := by decide +kernel
theorem dJ9_abs_0f7a4_1 : decode cJ9_abs_0f7a4 1 = .ok (.ifCond .ge 8, 3) := by decide +kernel
theorem dJ9_abs_0f7a4_4 : decode cJ9_abs_0f7a4 4 = .ok (.iload_n 0, 1) := by decide +kernel
theorem dJ9_abs_0f7a4_5 : decode cJ9_abs_0f7a4 5 = .ok (.ineg, 1) := by decide +kernel
theorem dJ9_abs_0f7a4_6 : decode cJ9_abs_0f7a4 6 = .ok (.goto 4, 3) := by decide +kernel
theorem dJ9_abs_0f7a4_9 : decode cJ9_abs_0f7a4 9 = .ok (.iload_n 0, 1) := by decide +kernel
theorem dJ9_abs_0f7a4_10 : decode cJ9_abs_0f7a4 10 = .ok (.ireturn, 1) := by decide +kernel
theorem dJ9_max_7cf53_0 : decode cJ9_max_7cf53 0 = .ok (.iload_n 0, 1) := by decide +kernel
theorem dJ9_max_7cf53_1 : decode cJ9_max_7cf53 1 = .ok (.iload_n 1, 1) := by decide +kernel
theorem dJ9_max_7cf53_2 : decode cJ9_max_7cf53 2 = .ok (.if_icmp .lt 7, 3) := by decide +kernel
theorem dJ9_max_7cf53_5 : decode cJ9_max_7cf53 5 = .ok (.iload_n 0, 1) := by decide +kernel
theorem dJ9_max_7cf53_6 : decode cJ9_max_7cf53 6 = .ok (.goto 4, 3) := by decide +kernel
theorem dJ9_max_7cf53_9 : decode cJ9_max_7cf53 9 = .ok (.iload_n 1, 1) := by decide +kernel
theorem dJ9_max_7cf53_10 : decode cJ9_max_7cf53 10 = .ok (.ireturn, 1) := by decide +kernel
theorem dJ9_min_7cf53_0 : decode cJ9_min_7cf53 0 = .ok (.iload_n 0, 1) := by decide +kernel
theorem dJ9_min_7cf53_1 : decode cJ9_min_7cf53 1 = .ok (.iload_n 1, 1) := by decide +kernel
theorem dJ9_min_7cf53_2 : decode cJ9_min_7cf53 2 = .ok (.if_icmp .gt 7, 3) := by decide +kernel
theorem dJ9_min_7cf53_5 : decode cJ9_min_7cf53 5 = .ok (.iload_n 0, 1) := by decide +kernel
theorem dJ9_min_7cf53_6 : decode cJ9_min_7cf53 6 = .ok (.goto 4, 3) := by decide +kernel
theorem dJ9_min_7cf53_9 : decode cJ9_min_7cf53 9 = .ok (.iload_n 1, 1) := by decide +kernel
theorem dJ9_min_7cf53_10 : decode cJ9_min_7cf53 10 = .ok (.ireturn, 1) := by decide +kernel
theorem dJ7_fill_d0a16_0 : decode cJ7_fill_d0a16 0 = .ok (.iconst 0, 1) := by decide +kernel
theorem dJ7_fill_d0a16_1 : decode cJ7_fill_d0a16 1 = .ok (.istore_n 3, 1) := by decide +kernel
theorem dJ7_fill_d0a16_2 : decode cJ7_fill_d0a16 2 = .ok (.aload_n 0, 1) := by decide +kernel
theorem dJ7_fill_d0a16_3 : decode cJ7_fill_d0a16 3 = .ok (.arraylength, 1) := by decide +kernel
theorem dJ7_fill_d0a16_4 : decode cJ7_fill_d0a16 4 = .ok (.istore 4, 2) := by decide +kernel
theorem dJ7_fill_d0a16_6 : decode cJ7_fill_d0a16 6 = .ok (.iload_n 3, 1) := by decide +kernel
theorem dJ7_fill_d0a16_7 : decode cJ7_fill_d0a16 7 = .ok (.iload 4, 2) := by decide +kernel
theorem dJ7_fill_d0a16_9 : decode cJ7_fill_d0a16 9 = .ok (.if_icmp .ge 13, 3) := by decide +kernel
theorem dJ7_fill_d0a16_12 : decode cJ7_fill_d0a16 12 = .ok (.aload_n 0, 1) := by decide +kernel
theorem dJ7_fill_d0a16_13 : decode cJ7_fill_d0a16 13 = .ok (.iload_n 3, 1) := by decide +kernel
theorem dJ7_fill_d0a16_14 : decode cJ7_fill_d0a16 14 = .ok (.lload_n 1, 1) := by decide +kernel
theorem dJ7_fill_d0a16_15 : decode cJ7_fill_d0a16 15 = .ok (.lastore, 1) := by decide +kernel
theorem dJ7_fill_d0a16_16 : decode cJ7_fill_d0a16 16 = .ok (.iinc 3 1, 3) := by decide +kernel
theorem dJ7_fill_d0a16_19 : decode cJ7_fill_d0a16 19 = .ok (.goto (-13), 3) := by decide +kernel
theorem dJ7_fill_d0a16_22 : decode cJ7_fill_d0a16 22 = .ok (.return_, 1) := by decide +kernel
theorem dJ7_fill_53178_0 : decode cJ7_fill_53178 0 = .ok (.iconst 0, 1) := by decide +kernel
theorem dJ7_fill_53178_1 : decode cJ7_fill_53178 1 = .ok (.istore_n 2, 1) := by decide +kernel
theorem dJ7_fill_53178_2 : decode cJ7_fill_53178 2 = .ok (.aload_n 0, 1) := by decide +kernel
theorem dJ7_fill_53178_3 : decode cJ7_fill_53178 3 = .ok (.arraylength, 1) := by decide +kernel
theorem dJ7_fill_53178_4 : decode cJ7_fill_53178 4 = .ok (.istore_n 3, 1) := by decide +kernel
theorem dJ7_fill_53178_5 : decode cJ7_fill_53178 5 = .ok (.iload_n 2, 1) := by decide +kernel
theorem dJ7_fill_53178_6 : decode cJ7_fill_53178 6 = .ok (.iload_n 3, 1) := by decide +kernel
theorem dJ7_fill_53178_7 : decode cJ7_fill_53178 7 = .ok (.if_icmp .ge 13, 3) := by decide +kernel
theorem dJ7_fill_53178_10 : decode cJ7_fill_53178 10 = .ok (.aload_n 0, 1) := by decide +kernel
theorem dJ7_fill_53178_11 : decode cJ7_fill_53178 11 = .ok (.iload_n 2, 1) := by decide +kernel
theorem dJ7_fill_53178_12 : decode cJ7_fill_53178 12 = .ok (.iload_n 1, 1) := by decide +kernel
theorem dJ7_fill_53178_13 : decode cJ7_fill_53178 13 = .ok (.iastore, 1) := by decide +kernel
theorem dJ7_fill_53178_14 : decode cJ7_fill_53178 14 = .ok (.iinc 2 1, 3) := by decide +kernel
theorem dJ7_fill_53178_17 : decode cJ7_fill_53178 17 = .ok (.goto (-12), 3) := by decide +kernel
theorem dJ7_fill_53178_20 : decode cJ7_fill_53178 20 = .ok (.return_, 1) := by decide +kernel
