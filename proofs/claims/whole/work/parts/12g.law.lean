set_option maxHeartbeats 1000000 in
set_option maxRecDepth 100000 in
theorem law_c9 {X : CTX} (tl : List CD) (M : Mem) {Ln : Nat} {xs : Nat → Int32} (cx : Cx X cL_law RL 4 13) (sx : SX X Ln xs) (hLn : Ln ≤ 3072) (hJ : JA tl M) (x3q : Int) (h3q : 0 ≤ x3q ∧ x3q + 6 ≤ Ln) (kk : ∀ M2, JA tl M2 → AW X (LB ++ tl) 4 1306 [(3, aI x3q), (2, aR 32), (1, aR 0), (0, aR SCI)] [] M2) : AW X (LB ++ tl) 4 447 [(3, aI x3q), (2, aR 32), (1, aR 0), (0, aR SCI)] [] M := by
  refine aw_ok (fun om => ?_)
  have r18 : 0 ≤ M 18 3 ∧ M 18 3 ≤ 8 := okF om (lb_18 tl) (j := 3) rfl (show (0 : Nat) ≠ 1 by decide)
  refine aw_aload_n cx dL_law_447 rfl 2 rfl ?_
  refine aw_aload_n cx dL_law_448 rfl 3 rfl ?_
  refine aw_iload_n cx dL_law_449 rfl 0 rfl ?_
  refine aw_iconst (n := 1) cx dL_law_450 (by decide) ?_
  refine aw_iadd cx dL_law_451 (by omega) (fun z451q hz451q => ?_)
  refine aw_sld cx sx dL_law_452 (⟨by omega, by omega⟩) (fun z452q hz452q => ?_)
  refine aw_callV (as := [aI z452q]) (k := 0) (stk := []) cx dL_law_453 ml_L_53 mv_X6_read rfl (lb_0 tl) (by decide) rfl rfl (Nat.le_of_ble_eq_true rfl) (ct_X6_read_h tl M _ (hJ)) (fun rr453q M_453q hp453q => ?_)
  obtain ⟨z453q, rfl, hsM_453⟩ := hp453q
  refine aw_eq (stk2 := [aI z453q]) ?_ rfl rfl rfl rfl
  refine aw_aload_n cx dL_law_456 rfl 1 rfl ?_
  refine aw_aload_n cx dL_law_457 rfl 3 rfl ?_
  refine aw_iload_n cx dL_law_458 rfl 0 rfl ?_
  refine aw_iconst (n := 1) cx dL_law_459 (by decide) ?_
  refine aw_iadd cx dL_law_460 (by omega) (fun z460q hz460q => ?_)
  refine aw_sld cx sx dL_law_461 (⟨by omega, by omega⟩) (fun z461q hz461q => ?_)
  rw [show z461q = z452q by rw [hz461q, hz452q, hz460q, hz451q]]
  refine aw_callV (as := [aI z452q]) (k := 32) (stk := [aI z453q]) cx dL_law_462 ml_L_56 mv_X7_read rfl (lb_32 tl) (by decide) rfl rfl (Nat.le_of_ble_eq_true rfl) (ct_X7_read tl M_453q _ ) (fun rr462q M_462q hp462q => ?_)
  obtain ⟨z462q, rfl, hreM_462⟩ := hp462q
  refine aw_eq (stk2 := [aI z462q, aI z453q]) ?_ rfl rfl rfl rfl
  have hE := J_read hJ r18 hsM_453 hreM_462
  refine aw_icmp_eq (tgt := 1306) cx dL_law_465 (by decide) (fun c465q => ?_) (fun c465q => ?_)
  · exact kk _ hE.2
  · exfalso
    exact c465q hE.1
set_option maxHeartbeats 1000000 in
set_option maxRecDepth 100000 in
theorem law_c31 {X : CTX} (tl : List CD) (M : Mem) {Ln : Nat} {xs : Nat → Int32} (cx : Cx X cL_law RL 4 13) (sx : SX X Ln xs) (hLn : Ln ≤ 3072) (hJ : JA tl M) (x3q : Int) (h3q : 0 ≤ x3q ∧ x3q + 6 ≤ Ln) (kk : ∀ M2, JA tl M2 → AW X (LB ++ tl) 4 1306 [(3, aI x3q), (2, aR 32), (1, aR 0), (0, aR SCI)] [] M2) : AW X (LB ++ tl) 4 1054 [(3, aI x3q), (2, aR 32), (1, aR 0), (0, aR SCI)] [] M := by
  refine aw_aload_n cx dL_law_1054 rfl 2 rfl ?_
  refine aw_aload_n cx dL_law_1055 rfl 3 rfl ?_
  refine aw_iload_n cx dL_law_1056 rfl 0 rfl ?_
  refine aw_iconst (n := 1) cx dL_law_1057 (by decide) ?_
  refine aw_iadd cx dL_law_1058 (by omega) (fun z1058q hz1058q => ?_)
  refine aw_sld cx sx dL_law_1059 (⟨by omega, by omega⟩) (fun z1059q hz1059q => ?_)
  refine aw_callV (as := [aI z1059q]) (k := 0) (stk := []) cx dL_law_1060 ml_L_142 mv_X6_lose rfl (lb_0 tl) (by decide) rfl rfl (Nat.le_of_ble_eq_true rfl) (ct_X6_lose_h tl M _ (hJ)) (fun rr1060q M_1060q hp1060q => ?_)
  obtain ⟨z1060q, rfl, hsM_1060⟩ := hp1060q
  refine aw_eq (stk2 := [aI z1060q]) ?_ rfl rfl rfl rfl
  refine aw_aload_n cx dL_law_1063 rfl 1 rfl ?_
  refine aw_aload_n cx dL_law_1064 rfl 3 rfl ?_
  refine aw_iload_n cx dL_law_1065 rfl 0 rfl ?_
  refine aw_iconst (n := 1) cx dL_law_1066 (by decide) ?_
  refine aw_iadd cx dL_law_1067 (by omega) (fun z1067q hz1067q => ?_)
  refine aw_sld cx sx dL_law_1068 (⟨by omega, by omega⟩) (fun z1068q hz1068q => ?_)
  rw [show z1068q = z1059q by rw [hz1068q, hz1059q, hz1067q, hz1058q]]
  refine aw_callV (as := [aI z1059q]) (k := 32) (stk := [aI z1060q]) cx dL_law_1069 ml_L_145 mv_X7_lose rfl (lb_32 tl) (by decide) rfl rfl (Nat.le_of_ble_eq_true rfl) (ct_X7_lose tl M_1060q _ ) (fun rr1069q M_1069q hp1069q => ?_)
  obtain ⟨z1069q, rfl, hloM_1069⟩ := hp1069q
  refine aw_eq (stk2 := [aI z1069q, aI z1060q]) ?_ rfl rfl rfl rfl
  have hE := J_lose hJ hsM_1060 hloM_1069
  refine aw_icmp_eq (tgt := 1306) cx dL_law_1072 (by decide) (fun c1072q => ?_) (fun c1072q => ?_)
  · exact kk _ hE.2
  · exfalso
    exact c1072q hE.1
set_option maxHeartbeats 1000000 in
set_option maxRecDepth 100000 in
theorem law_c32 {X : CTX} (tl : List CD) (M : Mem) {Ln : Nat} {xs : Nat → Int32} (cx : Cx X cL_law RL 4 13) (sx : SX X Ln xs) (hLn : Ln ≤ 3072) (hJ : JA tl M) (x3q : Int) (h3q : 0 ≤ x3q ∧ x3q + 6 ≤ Ln) (kk : ∀ M2, JA tl M2 → AW X (LB ++ tl) 4 1306 [(3, aI x3q), (2, aR 32), (1, aR 0), (0, aR SCI)] [] M2) : AW X (LB ++ tl) 4 1077 [(3, aI x3q), (2, aR 32), (1, aR 0), (0, aR SCI)] [] M := by
  refine aw_aload_n cx dL_law_1077 rfl 2 rfl ?_
  refine aw_aload_n cx dL_law_1078 rfl 3 rfl ?_
  refine aw_iload_n cx dL_law_1079 rfl 0 rfl ?_
  refine aw_iconst (n := 1) cx dL_law_1080 (by decide) ?_
  refine aw_iadd cx dL_law_1081 (by omega) (fun z1081q hz1081q => ?_)
  refine aw_sld cx sx dL_law_1082 (⟨by omega, by omega⟩) (fun z1082q hz1082q => ?_)
  refine aw_aload_n cx dL_law_1083 rfl 3 rfl ?_
  refine aw_iload_n cx dL_law_1084 rfl 0 rfl ?_
  refine aw_iconst (n := 2) cx dL_law_1085 (by decide) ?_
  refine aw_iadd cx dL_law_1086 (by omega) (fun z1086q hz1086q => ?_)
  refine aw_sld cx sx dL_law_1087 (⟨by omega, by omega⟩) (fun z1087q hz1087q => ?_)
  refine aw_aload_n cx dL_law_1088 rfl 3 rfl ?_
  refine aw_iload_n cx dL_law_1089 rfl 0 rfl ?_
  refine aw_iconst (n := 3) cx dL_law_1090 (by decide) ?_
  refine aw_iadd cx dL_law_1091 (by omega) (fun z1091q hz1091q => ?_)
  refine aw_sld cx sx dL_law_1092 (⟨by omega, by omega⟩) (fun z1092q hz1092q => ?_)
  refine aw_aload_n cx dL_law_1093 rfl 3 rfl ?_
  refine aw_iload_n cx dL_law_1094 rfl 0 rfl ?_
  refine aw_iconst (n := 4) cx dL_law_1095 (by decide) ?_
  refine aw_iadd cx dL_law_1096 (by omega) (fun z1096q hz1096q => ?_)
  refine aw_sld cx sx dL_law_1097 (⟨by omega, by omega⟩) (fun z1097q hz1097q => ?_)
  refine aw_callV (as := [aI z1082q, aI z1087q, aI z1092q, aI z1097q]) (k := 0) (stk := []) cx dL_law_1098 ml_L_146 mv_X6_put rfl (lb_0 tl) (by decide) rfl rfl (Nat.le_of_ble_eq_true rfl) (ct_X6_put_h tl M _ _ _ _ (hJ)) (fun rr1098q M_1098q hp1098q => ?_)
  obtain ⟨z1098q, rfl, hsM_1098⟩ := hp1098q
  refine aw_eq (stk2 := [aI z1098q]) ?_ rfl rfl rfl rfl
  refine aw_aload_n cx dL_law_1101 rfl 1 rfl ?_
  refine aw_aload_n cx dL_law_1102 rfl 3 rfl ?_
  refine aw_iload_n cx dL_law_1103 rfl 0 rfl ?_
  refine aw_iconst (n := 1) cx dL_law_1104 (by decide) ?_
  refine aw_iadd cx dL_law_1105 (by omega) (fun z1105q hz1105q => ?_)
  refine aw_sld cx sx dL_law_1106 (⟨by omega, by omega⟩) (fun z1106q hz1106q => ?_)
  rw [show z1106q = z1082q by rw [hz1106q, hz1082q, hz1105q, hz1081q]]
  refine aw_aload_n cx dL_law_1107 rfl 3 rfl ?_
  refine aw_iload_n cx dL_law_1108 rfl 0 rfl ?_
  refine aw_iconst (n := 2) cx dL_law_1109 (by decide) ?_
  refine aw_iadd cx dL_law_1110 (by omega) (fun z1110q hz1110q => ?_)
  refine aw_sld cx sx dL_law_1111 (⟨by omega, by omega⟩) (fun z1111q hz1111q => ?_)
  rw [show z1111q = z1087q by rw [hz1111q, hz1087q, hz1110q, hz1086q]]
  refine aw_aload_n cx dL_law_1112 rfl 3 rfl ?_
  refine aw_iload_n cx dL_law_1113 rfl 0 rfl ?_
  refine aw_iconst (n := 3) cx dL_law_1114 (by decide) ?_
  refine aw_iadd cx dL_law_1115 (by omega) (fun z1115q hz1115q => ?_)
  refine aw_sld cx sx dL_law_1116 (⟨by omega, by omega⟩) (fun z1116q hz1116q => ?_)
  rw [show z1116q = z1092q by rw [hz1116q, hz1092q, hz1115q, hz1091q]]
  refine aw_aload_n cx dL_law_1117 rfl 3 rfl ?_
  refine aw_iload_n cx dL_law_1118 rfl 0 rfl ?_
  refine aw_iconst (n := 4) cx dL_law_1119 (by decide) ?_
  refine aw_iadd cx dL_law_1120 (by omega) (fun z1120q hz1120q => ?_)
  refine aw_sld cx sx dL_law_1121 (⟨by omega, by omega⟩) (fun z1121q hz1121q => ?_)
  rw [show z1121q = z1097q by rw [hz1121q, hz1097q, hz1120q, hz1096q]]
  refine aw_callV (as := [aI z1082q, aI z1087q, aI z1092q, aI z1097q]) (k := 32) (stk := [aI z1098q]) cx dL_law_1122 ml_L_150 mv_X7_put rfl (lb_32 tl) (by decide) rfl rfl (Nat.le_of_ble_eq_true rfl) (ct_X7_put tl M_1098q _ _ _ _ ) (fun rr1122q M_1122q hp1122q => ?_)
  obtain ⟨z1122q, rfl, hpuM_1122⟩ := hp1122q
  refine aw_eq (stk2 := [aI z1122q, aI z1098q]) ?_ rfl rfl rfl rfl
  have hE := J_put hJ hsM_1098 hpuM_1122
  refine aw_icmp_eq (tgt := 1306) cx dL_law_1125 (by decide) (fun c1125q => ?_) (fun c1125q => ?_)
  · exact kk _ hE.2
  · exfalso
    exact c1125q hE.1
set_option maxHeartbeats 1000000 in
set_option maxRecDepth 100000 in
theorem law_c33 {X : CTX} (tl : List CD) (M : Mem) {Ln : Nat} {xs : Nat → Int32} (cx : Cx X cL_law RL 4 13) (sx : SX X Ln xs) (hLn : Ln ≤ 3072) (hJ : JA tl M) (x3q : Int) (h3q : 0 ≤ x3q ∧ x3q + 6 ≤ Ln) (kk : ∀ M2, JA tl M2 → AW X (LB ++ tl) 4 1306 [(3, aI x3q), (2, aR 32), (1, aR 0), (0, aR SCI)] [] M2) : AW X (LB ++ tl) 4 1130 [(3, aI x3q), (2, aR 32), (1, aR 0), (0, aR SCI)] [] M := by
  refine aw_aload_n cx dL_law_1130 rfl 2 rfl ?_
  refine aw_aload_n cx dL_law_1131 rfl 3 rfl ?_
  refine aw_iload_n cx dL_law_1132 rfl 0 rfl ?_
  refine aw_iconst (n := 1) cx dL_law_1133 (by decide) ?_
  refine aw_iadd cx dL_law_1134 (by omega) (fun z1134q hz1134q => ?_)
  refine aw_sld cx sx dL_law_1135 (⟨by omega, by omega⟩) (fun z1135q hz1135q => ?_)
  refine aw_aload_n cx dL_law_1136 rfl 3 rfl ?_
  refine aw_iload_n cx dL_law_1137 rfl 0 rfl ?_
  refine aw_iconst (n := 2) cx dL_law_1138 (by decide) ?_
  refine aw_iadd cx dL_law_1139 (by omega) (fun z1139q hz1139q => ?_)
  refine aw_sld cx sx dL_law_1140 (⟨by omega, by omega⟩) (fun z1140q hz1140q => ?_)
  refine aw_aload_n cx dL_law_1141 rfl 3 rfl ?_
  refine aw_iload_n cx dL_law_1142 rfl 0 rfl ?_
  refine aw_iconst (n := 3) cx dL_law_1143 (by decide) ?_
  refine aw_iadd cx dL_law_1144 (by omega) (fun z1144q hz1144q => ?_)
  refine aw_sld cx sx dL_law_1145 (⟨by omega, by omega⟩) (fun z1145q hz1145q => ?_)
  refine aw_callV (as := [aI z1135q, aI z1140q, aI z1145q]) (k := 0) (stk := []) cx dL_law_1146 ml_L_151 mv_X6_get rfl (lb_0 tl) (by decide) rfl rfl (Nat.le_of_ble_eq_true rfl) (ct_X6_get_h tl M _ _ _ (hJ)) (fun rr1146q M_1146q hp1146q => ?_)
  obtain ⟨z1146q, rfl, hsM_1146⟩ := hp1146q
  refine aw_eq (stk2 := [aI z1146q]) ?_ rfl rfl rfl rfl
  refine aw_aload_n cx dL_law_1149 rfl 1 rfl ?_
  refine aw_aload_n cx dL_law_1150 rfl 3 rfl ?_
  refine aw_iload_n cx dL_law_1151 rfl 0 rfl ?_
  refine aw_iconst (n := 1) cx dL_law_1152 (by decide) ?_
  refine aw_iadd cx dL_law_1153 (by omega) (fun z1153q hz1153q => ?_)
  refine aw_sld cx sx dL_law_1154 (⟨by omega, by omega⟩) (fun z1154q hz1154q => ?_)
  rw [show z1154q = z1135q by rw [hz1154q, hz1135q, hz1153q, hz1134q]]
  refine aw_aload_n cx dL_law_1155 rfl 3 rfl ?_
  refine aw_iload_n cx dL_law_1156 rfl 0 rfl ?_
  refine aw_iconst (n := 2) cx dL_law_1157 (by decide) ?_
  refine aw_iadd cx dL_law_1158 (by omega) (fun z1158q hz1158q => ?_)
  refine aw_sld cx sx dL_law_1159 (⟨by omega, by omega⟩) (fun z1159q hz1159q => ?_)
  rw [show z1159q = z1140q by rw [hz1159q, hz1140q, hz1158q, hz1139q]]
  refine aw_aload_n cx dL_law_1160 rfl 3 rfl ?_
  refine aw_iload_n cx dL_law_1161 rfl 0 rfl ?_
  refine aw_iconst (n := 3) cx dL_law_1162 (by decide) ?_
  refine aw_iadd cx dL_law_1163 (by omega) (fun z1163q hz1163q => ?_)
  refine aw_sld cx sx dL_law_1164 (⟨by omega, by omega⟩) (fun z1164q hz1164q => ?_)
  rw [show z1164q = z1145q by rw [hz1164q, hz1145q, hz1163q, hz1144q]]
  refine aw_callV (as := [aI z1135q, aI z1140q, aI z1145q]) (k := 32) (stk := [aI z1146q]) cx dL_law_1165 ml_L_154 mv_X7_get rfl (lb_32 tl) (by decide) rfl rfl (Nat.le_of_ble_eq_true rfl) (ct_X7_get tl M_1146q _ _ _ ) (fun rr1165q M_1165q hp1165q => ?_)
  obtain ⟨z1165q, rfl, hgeM_1165⟩ := hp1165q
  refine aw_eq (stk2 := [aI z1165q, aI z1146q]) ?_ rfl rfl rfl rfl
  have hE := J_get hJ hsM_1146 hgeM_1165
  refine aw_icmp_eq (tgt := 1306) cx dL_law_1168 (by decide) (fun c1168q => ?_) (fun c1168q => ?_)
  · exact kk _ hE.2
  · exfalso
    exact c1168q hE.1
set_option maxHeartbeats 1000000 in
set_option maxRecDepth 100000 in
theorem law_c34 {X : CTX} (tl : List CD) (M : Mem) {Ln : Nat} {xs : Nat → Int32} (cx : Cx X cL_law RL 4 13) (sx : SX X Ln xs) (hLn : Ln ≤ 3072) (hJ : JA tl M) (x3q : Int) (h3q : 0 ≤ x3q ∧ x3q + 6 ≤ Ln) (kk : ∀ M2, JA tl M2 → AW X (LB ++ tl) 4 1306 [(3, aI x3q), (2, aR 32), (1, aR 0), (0, aR SCI)] [] M2) : AW X (LB ++ tl) 4 1173 [(3, aI x3q), (2, aR 32), (1, aR 0), (0, aR SCI)] [] M := by
  refine aw_aload_n cx dL_law_1173 rfl 2 rfl ?_
  refine aw_aload_n cx dL_law_1174 rfl 3 rfl ?_
  refine aw_iload_n cx dL_law_1175 rfl 0 rfl ?_
  refine aw_iconst (n := 1) cx dL_law_1176 (by decide) ?_
  refine aw_iadd cx dL_law_1177 (by omega) (fun z1177q hz1177q => ?_)
  refine aw_sld cx sx dL_law_1178 (⟨by omega, by omega⟩) (fun z1178q hz1178q => ?_)
  refine aw_aload_n cx dL_law_1179 rfl 3 rfl ?_
  refine aw_iload_n cx dL_law_1180 rfl 0 rfl ?_
  refine aw_iconst (n := 2) cx dL_law_1181 (by decide) ?_
  refine aw_iadd cx dL_law_1182 (by omega) (fun z1182q hz1182q => ?_)
  refine aw_sld cx sx dL_law_1183 (⟨by omega, by omega⟩) (fun z1183q hz1183q => ?_)
  refine aw_aload_n cx dL_law_1184 rfl 3 rfl ?_
  refine aw_iload_n cx dL_law_1185 rfl 0 rfl ?_
  refine aw_iconst (n := 3) cx dL_law_1186 (by decide) ?_
  refine aw_iadd cx dL_law_1187 (by omega) (fun z1187q hz1187q => ?_)
  refine aw_sld cx sx dL_law_1188 (⟨by omega, by omega⟩) (fun z1188q hz1188q => ?_)
  refine aw_aload_n cx dL_law_1189 rfl 3 rfl ?_
  refine aw_iload_n cx dL_law_1190 rfl 0 rfl ?_
  refine aw_iconst (n := 4) cx dL_law_1191 (by decide) ?_
  refine aw_iadd cx dL_law_1192 (by omega) (fun z1192q hz1192q => ?_)
  refine aw_sld cx sx dL_law_1193 (⟨by omega, by omega⟩) (fun z1193q hz1193q => ?_)
  refine aw_aload_n cx dL_law_1194 rfl 3 rfl ?_
  refine aw_iload_n cx dL_law_1195 rfl 0 rfl ?_
  refine aw_iconst (n := 5) cx dL_law_1196 (by decide) ?_
  refine aw_iadd cx dL_law_1197 (by omega) (fun z1197q hz1197q => ?_)
  refine aw_sld cx sx dL_law_1198 (⟨by omega, by omega⟩) (fun z1198q hz1198q => ?_)
  refine aw_callV (as := [aI z1178q, aI z1183q, aI z1188q, aI z1193q, aI z1198q]) (k := 0) (stk := []) cx dL_law_1199 ml_L_155 mv_X6_copy rfl (lb_0 tl) (by decide) rfl rfl (Nat.le_of_ble_eq_true rfl) (ct_X6_copy_h tl M _ _ _ _ _ (hJ)) (fun rr1199q M_1199q hp1199q => ?_)
  obtain ⟨z1199q, rfl, hsM_1199⟩ := hp1199q
  refine aw_eq (stk2 := [aI z1199q]) ?_ rfl rfl rfl rfl
  refine aw_aload_n cx dL_law_1202 rfl 1 rfl ?_
  refine aw_aload_n cx dL_law_1203 rfl 3 rfl ?_
  refine aw_iload_n cx dL_law_1204 rfl 0 rfl ?_
  refine aw_iconst (n := 1) cx dL_law_1205 (by decide) ?_
  refine aw_iadd cx dL_law_1206 (by omega) (fun z1206q hz1206q => ?_)
  refine aw_sld cx sx dL_law_1207 (⟨by omega, by omega⟩) (fun z1207q hz1207q => ?_)
  rw [show z1207q = z1178q by rw [hz1207q, hz1178q, hz1206q, hz1177q]]
  refine aw_aload_n cx dL_law_1208 rfl 3 rfl ?_
  refine aw_iload_n cx dL_law_1209 rfl 0 rfl ?_
  refine aw_iconst (n := 2) cx dL_law_1210 (by decide) ?_
  refine aw_iadd cx dL_law_1211 (by omega) (fun z1211q hz1211q => ?_)
  refine aw_sld cx sx dL_law_1212 (⟨by omega, by omega⟩) (fun z1212q hz1212q => ?_)
  rw [show z1212q = z1183q by rw [hz1212q, hz1183q, hz1211q, hz1182q]]
  refine aw_aload_n cx dL_law_1213 rfl 3 rfl ?_
  refine aw_iload_n cx dL_law_1214 rfl 0 rfl ?_
  refine aw_iconst (n := 3) cx dL_law_1215 (by decide) ?_
  refine aw_iadd cx dL_law_1216 (by omega) (fun z1216q hz1216q => ?_)
  refine aw_sld cx sx dL_law_1217 (⟨by omega, by omega⟩) (fun z1217q hz1217q => ?_)
  rw [show z1217q = z1188q by rw [hz1217q, hz1188q, hz1216q, hz1187q]]
  refine aw_aload_n cx dL_law_1218 rfl 3 rfl ?_
  refine aw_iload_n cx dL_law_1219 rfl 0 rfl ?_
  refine aw_iconst (n := 4) cx dL_law_1220 (by decide) ?_
  refine aw_iadd cx dL_law_1221 (by omega) (fun z1221q hz1221q => ?_)
  refine aw_sld cx sx dL_law_1222 (⟨by omega, by omega⟩) (fun z1222q hz1222q => ?_)
  rw [show z1222q = z1193q by rw [hz1222q, hz1193q, hz1221q, hz1192q]]
  refine aw_aload_n cx dL_law_1223 rfl 3 rfl ?_
  refine aw_iload_n cx dL_law_1224 rfl 0 rfl ?_
  refine aw_iconst (n := 5) cx dL_law_1225 (by decide) ?_
  refine aw_iadd cx dL_law_1226 (by omega) (fun z1226q hz1226q => ?_)
  refine aw_sld cx sx dL_law_1227 (⟨by omega, by omega⟩) (fun z1227q hz1227q => ?_)
  rw [show z1227q = z1198q by rw [hz1227q, hz1198q, hz1226q, hz1197q]]
  refine aw_callV (as := [aI z1178q, aI z1183q, aI z1188q, aI z1193q, aI z1198q]) (k := 32) (stk := [aI z1199q]) cx dL_law_1228 ml_L_159 mv_X7_copy rfl (lb_32 tl) (by decide) rfl rfl (Nat.le_of_ble_eq_true rfl) (ct_X7_copy tl M_1199q _ _ _ _ _ ) (fun rr1228q M_1228q hp1228q => ?_)
  obtain ⟨z1228q, rfl, hcpM_1228⟩ := hp1228q
  refine aw_eq (stk2 := [aI z1228q, aI z1199q]) ?_ rfl rfl rfl rfl
  have hE := J_copy hJ hsM_1199 hcpM_1228
  refine aw_icmp_eq (tgt := 1306) cx dL_law_1231 (by decide) (fun c1231q => ?_) (fun c1231q => ?_)
  · exact kk _ hE.2
  · exfalso
    exact c1231q hE.1
set_option maxHeartbeats 1000000 in
set_option maxRecDepth 100000 in
theorem law_c35 {X : CTX} (tl : List CD) (M : Mem) {Ln : Nat} {xs : Nat → Int32} (cx : Cx X cL_law RL 4 13) (sx : SX X Ln xs) (hLn : Ln ≤ 3072) (hJ : JA tl M) (x3q : Int) (h3q : 0 ≤ x3q ∧ x3q + 6 ≤ Ln) (kk : ∀ M2, JA tl M2 → AW X (LB ++ tl) 4 1306 [(3, aI x3q), (2, aR 32), (1, aR 0), (0, aR SCI)] [] M2) : AW X (LB ++ tl) 4 1236 [(3, aI x3q), (2, aR 32), (1, aR 0), (0, aR SCI)] [] M := by
  refine aw_aload_n cx dL_law_1236 rfl 2 rfl ?_
  refine aw_aload_n cx dL_law_1237 rfl 3 rfl ?_
  refine aw_iload_n cx dL_law_1238 rfl 0 rfl ?_
  refine aw_iconst (n := 1) cx dL_law_1239 (by decide) ?_
  refine aw_iadd cx dL_law_1240 (by omega) (fun z1240q hz1240q => ?_)
  refine aw_sld cx sx dL_law_1241 (⟨by omega, by omega⟩) (fun z1241q hz1241q => ?_)
  refine aw_aload_n cx dL_law_1242 rfl 3 rfl ?_
  refine aw_iload_n cx dL_law_1243 rfl 0 rfl ?_
  refine aw_iconst (n := 2) cx dL_law_1244 (by decide) ?_
  refine aw_iadd cx dL_law_1245 (by omega) (fun z1245q hz1245q => ?_)
  refine aw_sld cx sx dL_law_1246 (⟨by omega, by omega⟩) (fun z1246q hz1246q => ?_)
  refine aw_callV (as := [aI z1241q, aI z1246q]) (k := 0) (stk := []) cx dL_law_1247 ml_L_160 mv_X6_write rfl (lb_0 tl) (by decide) rfl rfl (Nat.le_of_ble_eq_true rfl) (ct_X6_write_h tl M _ _ (hJ)) (fun rr1247q M_1247q hp1247q => ?_)
  obtain ⟨z1247q, rfl, hsM_1247⟩ := hp1247q
  refine aw_eq (stk2 := [aI z1247q]) ?_ rfl rfl rfl rfl
  refine aw_aload_n cx dL_law_1250 rfl 1 rfl ?_
  refine aw_aload_n cx dL_law_1251 rfl 3 rfl ?_
  refine aw_iload_n cx dL_law_1252 rfl 0 rfl ?_
  refine aw_iconst (n := 1) cx dL_law_1253 (by decide) ?_
  refine aw_iadd cx dL_law_1254 (by omega) (fun z1254q hz1254q => ?_)
  refine aw_sld cx sx dL_law_1255 (⟨by omega, by omega⟩) (fun z1255q hz1255q => ?_)
  rw [show z1255q = z1241q by rw [hz1255q, hz1241q, hz1254q, hz1240q]]
  refine aw_aload_n cx dL_law_1256 rfl 3 rfl ?_
  refine aw_iload_n cx dL_law_1257 rfl 0 rfl ?_
  refine aw_iconst (n := 2) cx dL_law_1258 (by decide) ?_
  refine aw_iadd cx dL_law_1259 (by omega) (fun z1259q hz1259q => ?_)
  refine aw_sld cx sx dL_law_1260 (⟨by omega, by omega⟩) (fun z1260q hz1260q => ?_)
  rw [show z1260q = z1246q by rw [hz1260q, hz1246q, hz1259q, hz1245q]]
  refine aw_callV (as := [aI z1241q, aI z1246q]) (k := 32) (stk := [aI z1247q]) cx dL_law_1261 ml_L_163 mv_X7_write rfl (lb_32 tl) (by decide) rfl rfl (Nat.le_of_ble_eq_true rfl) (ct_X7_write tl M_1247q _ _ (WRc_JQ hJ hsM_1247)) (fun rr1261q M_1261q hp1261q => ?_)
  obtain ⟨z1261q, rfl, hwrM_1261⟩ := hp1261q
  refine aw_eq (stk2 := [aI z1261q, aI z1247q]) ?_ rfl rfl rfl rfl
  have hE := J_write hJ hsM_1247 hwrM_1261
  refine aw_icmp_eq (tgt := 1306) cx dL_law_1264 (by decide) (fun c1264q => ?_) (fun c1264q => ?_)
  · exact kk _ hE.2
  · exfalso
    exact c1264q hE.1
