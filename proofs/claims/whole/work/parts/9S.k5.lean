set_option maxHeartbeats 4000000 in
set_option maxRecDepth 100000 in
theorem lc_copy {κ : GC} {cy : Nat → ClassId} {Z : (Nat → Prop) → State → Heap → Prop} {aStr aByt : Nat → Nat} {bS L : Nat} {xs : Nat → Int32} (hW : LawX κ cy Z aStr aByt bS L xs) {h0 : Nat} {b : Nat → Nat} {ε : Ev} {σ : Sg} {μ : Mg} {x : Nat → Nat → Int32} (hR : Rel ε σ μ) {n1 n2 i : Nat} (hi : i + 6 ≤ L) (hn1 : n1 ≤ 600000) (hn2 : n2 ≤ 7302250) (K : ∀ (σ2 : Sg) (μ2 : Mg) (x2 : Nat → Nat → Int32), Rel ε σ2 μ2 → GW κ n1 n2 (cW cy h0 b ε σ2 μ2.1 μ2.2.1 μ2.2.2 x2) 1368 (lvL bS (sAd ε 0) h0 i) []) : GW κ n1 n2 (cW cy h0 b ε σ μ.1 μ.2.1 μ.2.2 x) 1068 (lvL bS (sAd ε 0) h0 i) [] := by
  obtain ⟨hX, hN, hS, hzo, hzs, hL⟩ := hW
  obtain ⟨res, σ2, μ2, e1, e2, hR2⟩ := copy_ok hR (xs (i + 1)) (xs (i + 2)) (xs (i + 3)) (xs (i + 4)) (xs (i + 5))
  refine g_aload_n hX 2 rfl rfl dL_law_1068 ?_
  refine l_arg hX hS 1 1 (by decide) (by omega) hL dL_law_1069 dL_law_1070 dL_law_1071 dL_law_1072 dL_law_1073 ?_
  refine l_arg hX hS 2 2 (by decide) (by omega) hL dL_law_1074 dL_law_1075 dL_law_1076 dL_law_1077 dL_law_1078 ?_
  refine l_arg hX hS 3 3 (by decide) (by omega) hL dL_law_1079 dL_law_1080 dL_law_1081 dL_law_1082 dL_law_1083 ?_
  refine l_arg hX hS 4 4 (by decide) (by omega) hL dL_law_1084 dL_law_1085 dL_law_1086 dL_law_1087 dL_law_1088 ?_
  refine l_arg hX hS 5 5 (by decide) (by omega) hL dL_law_1089 dL_law_1090 dL_law_1091 dL_law_1092 dL_law_1093 ?_
  refine c_call6 (c := 0) (C := fun ε σ => cW cy h0 b ε σ μ.1 μ.2.1 μ.2.2 x) hX (cw_lens _ _ _ _) hzo rfl [.int (xs (i + 1)), .int (xs (i + 2)), .int (xs (i + 3)), .int (xs (i + 4)), .int (xs (i + 5))] [] (ct_X6_copy _ _ _ _ hzo hzs (cw_lens _ _ _ _) ε (xs (i + 1)) (xs (i + 2)) (xs (i + 3)) (xs (i + 4)) (xs (i + 5)) σ σ2 res e1) kX6_copy tMet_L_138 rfl rfl (Nat.le_of_ble_eq_true rfl) (Nat.le_of_ble_eq_true rfl) ⟨hn1, hn2⟩ rfl rfl (Nat.le_of_ble_eq_true rfl) dL_law_1094 ?_
  refine g_aload_n hX 1 rfl rfl dL_law_1097 ?_
  refine l_arg hX hS 1 1 (by decide) (by omega) hL dL_law_1098 dL_law_1099 dL_law_1100 dL_law_1101 dL_law_1102 ?_
  refine l_arg hX hS 2 2 (by decide) (by omega) hL dL_law_1103 dL_law_1104 dL_law_1105 dL_law_1106 dL_law_1107 ?_
  refine l_arg hX hS 3 3 (by decide) (by omega) hL dL_law_1108 dL_law_1109 dL_law_1110 dL_law_1111 dL_law_1112 ?_
  refine l_arg hX hS 4 4 (by decide) (by omega) hL dL_law_1113 dL_law_1114 dL_law_1115 dL_law_1116 dL_law_1117 ?_
  refine l_arg hX hS 5 5 (by decide) (by omega) hL dL_law_1118 dL_law_1119 dL_law_1120 dL_law_1121 dL_law_1122 ?_
  refine l_callM (C := fun v s r x => cW cy h0 b ε σ2 v s r x) hX hzo (cw_mlens ε σ2) [.int (xs (i + 1)), .int (xs (i + 2)), .int (xs (i + 3)), .int (xs (i + 4)), .int (xs (i + 5))] [.int res] (ct_X7_copy _ _ _ _ hzo (cw_mlens ε σ2) (xs (i + 1)) (xs (i + 2)) (xs (i + 3)) (xs (i + 4)) (xs (i + 5)) μ μ2 x res e2) kX7_copy tMet_L_142 rfl rfl (Nat.le_of_ble_eq_true rfl) (Nat.le_of_ble_eq_true rfl) ⟨hn1, hn2⟩ rfl (Nat.le_of_ble_eq_true rfl) dL_law_1123 ?_
  rintro _ _ ⟨rfl, x2, rfl⟩
  exact g_icmp_eq hX 1368 (by decide) dL_law_1126 (fun _ => K σ2 μ2 x2 hR2) (fun z => absurd rfl z)
set_option maxHeartbeats 4000000 in
set_option maxRecDepth 100000 in
theorem lc_lay {κ : GC} {cy : Nat → ClassId} {Z : (Nat → Prop) → State → Heap → Prop} {aStr aByt : Nat → Nat} {bS L : Nat} {xs : Nat → Int32} (hW : LawX κ cy Z aStr aByt bS L xs) {h0 : Nat} {b : Nat → Nat} {ε : Ev} {σ : Sg} {μ : Mg} {x : Nat → Nat → Int32} (hR : Rel ε σ μ) {n1 n2 i : Nat} (hi : i + 6 ≤ L) (hn1 : n1 ≤ 600000) (hn2 : n2 ≤ 7302250) (K : ∀ (σ2 : Sg) (μ2 : Mg) (x2 : Nat → Nat → Int32), Rel ε σ2 μ2 → GW κ n1 n2 (cW cy h0 b ε σ2 μ2.1 μ2.2.1 μ2.2.2 x2) 1368 (lvL bS (sAd ε 0) h0 i) []) : GW κ n1 n2 (cW cy h0 b ε σ μ.1 μ.2.1 μ.2.2 x) 1131 (lvL bS (sAd ε 0) h0 i) [] := by
  obtain ⟨hX, hN, hS, hzo, hzs, hL⟩ := hW
  obtain ⟨res, σ2, μ2, e1, e2, hR2⟩ := lay_ok hR (xs (i + 1)) (xs (i + 2)) (xs (i + 3))
  refine g_aload_n hX 2 rfl rfl dL_law_1131 ?_
  refine l_arg hX hS 1 1 (by decide) (by omega) hL dL_law_1132 dL_law_1133 dL_law_1134 dL_law_1135 dL_law_1136 ?_
  refine l_arg hX hS 2 2 (by decide) (by omega) hL dL_law_1137 dL_law_1138 dL_law_1139 dL_law_1140 dL_law_1141 ?_
  refine l_arg hX hS 3 3 (by decide) (by omega) hL dL_law_1142 dL_law_1143 dL_law_1144 dL_law_1145 dL_law_1146 ?_
  refine c_call6 (c := 0) (C := fun ε σ => cW cy h0 b ε σ μ.1 μ.2.1 μ.2.2 x) hX (cw_lens _ _ _ _) hzo rfl [.int (xs (i + 1)), .int (xs (i + 2)), .int (xs (i + 3))] [] (ct_X6_lay _ _ _ _ hzo hzs (cw_lens _ _ _ _) ε (xs (i + 1)) (xs (i + 2)) (xs (i + 3)) σ σ2 res e1) kX6_lay tMet_L_143 rfl rfl (Nat.le_of_ble_eq_true rfl) (Nat.le_of_ble_eq_true rfl) ⟨hn1, hn2⟩ rfl rfl (Nat.le_of_ble_eq_true rfl) dL_law_1147 ?_
  refine g_aload_n hX 1 rfl rfl dL_law_1150 ?_
  refine l_arg hX hS 1 1 (by decide) (by omega) hL dL_law_1151 dL_law_1152 dL_law_1153 dL_law_1154 dL_law_1155 ?_
  refine l_arg hX hS 2 2 (by decide) (by omega) hL dL_law_1156 dL_law_1157 dL_law_1158 dL_law_1159 dL_law_1160 ?_
  refine l_arg hX hS 3 3 (by decide) (by omega) hL dL_law_1161 dL_law_1162 dL_law_1163 dL_law_1164 dL_law_1165 ?_
  refine l_callM (C := fun v s r x => cW cy h0 b ε σ2 v s r x) hX hzo (cw_mlens ε σ2) [.int (xs (i + 1)), .int (xs (i + 2)), .int (xs (i + 3))] [.int res] (ct_X7_lay _ _ _ _ hzo (cw_mlens ε σ2) (xs (i + 1)) (xs (i + 2)) (xs (i + 3)) μ μ2 x res e2) kX7_lay tMet_L_146 rfl rfl (Nat.le_of_ble_eq_true rfl) (Nat.le_of_ble_eq_true rfl) ⟨hn1, hn2⟩ rfl (Nat.le_of_ble_eq_true rfl) dL_law_1166 ?_
  rintro _ _ ⟨rfl, x2, rfl⟩
  exact g_icmp_eq hX 1368 (by decide) dL_law_1169 (fun _ => K σ2 μ2 x2 hR2) (fun z => absurd rfl z)
set_option maxHeartbeats 4000000 in
set_option maxRecDepth 100000 in
theorem lc_ask {κ : GC} {cy : Nat → ClassId} {Z : (Nat → Prop) → State → Heap → Prop} {aStr aByt : Nat → Nat} {bS L : Nat} {xs : Nat → Int32} (hW : LawX κ cy Z aStr aByt bS L xs) {h0 : Nat} {b : Nat → Nat} {ε : Ev} {σ : Sg} {μ : Mg} {x : Nat → Nat → Int32} (hR : Rel ε σ μ) {n1 n2 i : Nat} (hi : i + 6 ≤ L) (hn1 : n1 ≤ 600000) (hn2 : n2 ≤ 7302250) (K : ∀ (σ2 : Sg) (μ2 : Mg) (x2 : Nat → Nat → Int32), Rel ε σ2 μ2 → GW κ n1 n2 (cW cy h0 b ε σ2 μ2.1 μ2.2.1 μ2.2.2 x2) 1368 (lvL bS (sAd ε 0) h0 i) []) : GW κ n1 n2 (cW cy h0 b ε σ μ.1 μ.2.1 μ.2.2 x) 1174 (lvL bS (sAd ε 0) h0 i) [] := by
  obtain ⟨hX, hN, hS, hzo, hzs, hL⟩ := hW
  obtain ⟨res, σ2, μ2, e1, e2, hR2⟩ := ask_ok hR (xs (i + 1)) (xs (i + 2))
  refine g_aload_n hX 2 rfl rfl dL_law_1174 ?_
  refine l_arg hX hS 1 1 (by decide) (by omega) hL dL_law_1175 dL_law_1176 dL_law_1177 dL_law_1178 dL_law_1179 ?_
  refine l_arg hX hS 2 2 (by decide) (by omega) hL dL_law_1180 dL_law_1181 dL_law_1182 dL_law_1183 dL_law_1184 ?_
  refine c_call6 (c := 0) (C := fun ε σ => cW cy h0 b ε σ μ.1 μ.2.1 μ.2.2 x) hX (cw_lens _ _ _ _) hzo rfl [.int (xs (i + 1)), .int (xs (i + 2))] [] (ct_X6_ask _ _ _ _ hzo hzs (cw_lens _ _ _ _) ε (xs (i + 1)) (xs (i + 2)) σ σ2 res e1) kX6_ask tMet_L_147 rfl rfl (Nat.le_of_ble_eq_true rfl) (Nat.le_of_ble_eq_true rfl) ⟨hn1, hn2⟩ rfl rfl (Nat.le_of_ble_eq_true rfl) dL_law_1185 ?_
  refine g_aload_n hX 1 rfl rfl dL_law_1188 ?_
  refine l_arg hX hS 1 1 (by decide) (by omega) hL dL_law_1189 dL_law_1190 dL_law_1191 dL_law_1192 dL_law_1193 ?_
  refine l_arg hX hS 2 2 (by decide) (by omega) hL dL_law_1194 dL_law_1195 dL_law_1196 dL_law_1197 dL_law_1198 ?_
  refine l_callM (C := fun v s r x => cW cy h0 b ε σ2 v s r x) hX hzo (cw_mlens ε σ2) [.int (xs (i + 1)), .int (xs (i + 2))] [.int res] (ct_X7_ask _ _ _ _ hzo (cw_mlens ε σ2) (xs (i + 1)) (xs (i + 2)) μ μ2 x res e2) kX7_ask tMet_L_150 rfl rfl (Nat.le_of_ble_eq_true rfl) (Nat.le_of_ble_eq_true rfl) ⟨hn1, hn2⟩ rfl (Nat.le_of_ble_eq_true rfl) dL_law_1199 ?_
  rintro _ _ ⟨rfl, x2, rfl⟩
  exact g_icmp_eq hX 1368 (by decide) dL_law_1202 (fun _ => K σ2 μ2 x2 hR2) (fun z => absurd rfl z)
set_option maxHeartbeats 4000000 in
set_option maxRecDepth 100000 in
theorem lc_item {κ : GC} {cy : Nat → ClassId} {Z : (Nat → Prop) → State → Heap → Prop} {aStr aByt : Nat → Nat} {bS L : Nat} {xs : Nat → Int32} (hW : LawX κ cy Z aStr aByt bS L xs) {h0 : Nat} {b : Nat → Nat} {ε : Ev} {σ : Sg} {μ : Mg} {x : Nat → Nat → Int32} (hR : Rel ε σ μ) {n1 n2 i : Nat} (hi : i + 6 ≤ L) (hn1 : n1 ≤ 600000) (hn2 : n2 ≤ 7302250) (K : ∀ (σ2 : Sg) (μ2 : Mg) (x2 : Nat → Nat → Int32), Rel ε σ2 μ2 → GW κ n1 n2 (cW cy h0 b ε σ2 μ2.1 μ2.2.1 μ2.2.2 x2) 1368 (lvL bS (sAd ε 0) h0 i) []) : GW κ n1 n2 (cW cy h0 b ε σ μ.1 μ.2.1 μ.2.2 x) 1207 (lvL bS (sAd ε 0) h0 i) [] := by
  obtain ⟨hX, hN, hS, hzo, hzs, hL⟩ := hW
  obtain ⟨res, σ2, μ2, e1, e2, hR2⟩ := item_ok hR (xs (i + 1)) (xs (i + 2))
  refine g_aload_n hX 2 rfl rfl dL_law_1207 ?_
  refine l_arg hX hS 1 1 (by decide) (by omega) hL dL_law_1208 dL_law_1209 dL_law_1210 dL_law_1211 dL_law_1212 ?_
  refine l_arg hX hS 2 2 (by decide) (by omega) hL dL_law_1213 dL_law_1214 dL_law_1215 dL_law_1216 dL_law_1217 ?_
  refine c_call6 (c := 0) (C := fun ε σ => cW cy h0 b ε σ μ.1 μ.2.1 μ.2.2 x) hX (cw_lens _ _ _ _) hzo rfl [.int (xs (i + 1)), .int (xs (i + 2))] [] (ct_X6_item _ _ _ _ hzo hzs (cw_lens _ _ _ _) ε (xs (i + 1)) (xs (i + 2)) σ σ2 res e1) kX6_item tMet_L_151 rfl rfl (Nat.le_of_ble_eq_true rfl) (Nat.le_of_ble_eq_true rfl) ⟨hn1, hn2⟩ rfl rfl (Nat.le_of_ble_eq_true rfl) dL_law_1218 ?_
  refine g_aload_n hX 1 rfl rfl dL_law_1221 ?_
  refine l_arg hX hS 1 1 (by decide) (by omega) hL dL_law_1222 dL_law_1223 dL_law_1224 dL_law_1225 dL_law_1226 ?_
  refine l_arg hX hS 2 2 (by decide) (by omega) hL dL_law_1227 dL_law_1228 dL_law_1229 dL_law_1230 dL_law_1231 ?_
  refine l_callM (C := fun v s r x => cW cy h0 b ε σ2 v s r x) hX hzo (cw_mlens ε σ2) [.int (xs (i + 1)), .int (xs (i + 2))] [.int res] (ct_X7_item _ _ _ _ hzo (cw_mlens ε σ2) (xs (i + 1)) (xs (i + 2)) μ μ2 x res e2) kX7_item tMet_L_154 rfl rfl (Nat.le_of_ble_eq_true rfl) (Nat.le_of_ble_eq_true rfl) ⟨hn1, hn2⟩ rfl (Nat.le_of_ble_eq_true rfl) dL_law_1232 ?_
  rintro _ _ ⟨rfl, x2, rfl⟩
  exact g_icmp_eq hX 1368 (by decide) dL_law_1235 (fun _ => K σ2 μ2 x2 hR2) (fun z => absurd rfl z)
set_option maxHeartbeats 4000000 in
set_option maxRecDepth 100000 in
theorem lc_rest {κ : GC} {cy : Nat → ClassId} {Z : (Nat → Prop) → State → Heap → Prop} {aStr aByt : Nat → Nat} {bS L : Nat} {xs : Nat → Int32} (hW : LawX κ cy Z aStr aByt bS L xs) {h0 : Nat} {b : Nat → Nat} {ε : Ev} {σ : Sg} {μ : Mg} {x : Nat → Nat → Int32} (hR : Rel ε σ μ) {n1 n2 i : Nat} (hi : i + 6 ≤ L) (hn1 : n1 ≤ 600000) (hn2 : n2 ≤ 7302250) (K : ∀ (σ2 : Sg) (μ2 : Mg) (x2 : Nat → Nat → Int32), Rel ε σ2 μ2 → GW κ n1 n2 (cW cy h0 b ε σ2 μ2.1 μ2.2.1 μ2.2.2 x2) 1368 (lvL bS (sAd ε 0) h0 i) []) : GW κ n1 n2 (cW cy h0 b ε σ μ.1 μ.2.1 μ.2.2 x) 1240 (lvL bS (sAd ε 0) h0 i) [] := by
  obtain ⟨hX, hN, hS, hzo, hzs, hL⟩ := hW
  obtain ⟨res, σ2, μ2, e1, e2, hR2⟩ := rest_ok hR (xs (i + 1)) (xs (i + 2))
  refine g_aload_n hX 2 rfl rfl dL_law_1240 ?_
  refine l_arg hX hS 1 1 (by decide) (by omega) hL dL_law_1241 dL_law_1242 dL_law_1243 dL_law_1244 dL_law_1245 ?_
  refine l_arg hX hS 2 2 (by decide) (by omega) hL dL_law_1246 dL_law_1247 dL_law_1248 dL_law_1249 dL_law_1250 ?_
  refine c_call6 (c := 0) (C := fun ε σ => cW cy h0 b ε σ μ.1 μ.2.1 μ.2.2 x) hX (cw_lens _ _ _ _) hzo rfl [.int (xs (i + 1)), .int (xs (i + 2))] [] (ct_X6_rest _ _ _ _ hzo hzs (cw_lens _ _ _ _) ε (xs (i + 1)) (xs (i + 2)) σ σ2 res e1) kX6_rest tMet_L_155 rfl rfl (Nat.le_of_ble_eq_true rfl) (Nat.le_of_ble_eq_true rfl) ⟨hn1, hn2⟩ rfl rfl (Nat.le_of_ble_eq_true rfl) dL_law_1251 ?_
  refine g_aload_n hX 1 rfl rfl dL_law_1254 ?_
  refine l_arg hX hS 1 1 (by decide) (by omega) hL dL_law_1255 dL_law_1256 dL_law_1257 dL_law_1258 dL_law_1259 ?_
  refine l_arg hX hS 2 2 (by decide) (by omega) hL dL_law_1260 dL_law_1261 dL_law_1262 dL_law_1263 dL_law_1264 ?_
  refine l_callM (C := fun v s r x => cW cy h0 b ε σ2 v s r x) hX hzo (cw_mlens ε σ2) [.int (xs (i + 1)), .int (xs (i + 2))] [.int res] (ct_X7_rest _ _ _ _ hzo (cw_mlens ε σ2) (xs (i + 1)) (xs (i + 2)) μ μ2 x res e2) kX7_rest tMet_L_158 rfl rfl (Nat.le_of_ble_eq_true rfl) (Nat.le_of_ble_eq_true rfl) ⟨hn1, hn2⟩ rfl (Nat.le_of_ble_eq_true rfl) dL_law_1265 ?_
  rintro _ _ ⟨rfl, x2, rfl⟩
  exact g_icmp_eq hX 1368 (by decide) dL_law_1268 (fun _ => K σ2 μ2 x2 hR2) (fun z => absurd rfl z)
set_option maxHeartbeats 4000000 in
set_option maxRecDepth 100000 in
theorem lc_tell {κ : GC} {cy : Nat → ClassId} {Z : (Nat → Prop) → State → Heap → Prop} {aStr aByt : Nat → Nat} {bS L : Nat} {xs : Nat → Int32} (hW : LawX κ cy Z aStr aByt bS L xs) {h0 : Nat} {b : Nat → Nat} {ε : Ev} {σ : Sg} {μ : Mg} {x : Nat → Nat → Int32} (hR : Rel ε σ μ) {n1 n2 i : Nat} (hi : i + 6 ≤ L) (hn1 : n1 ≤ 600000) (hn2 : n2 ≤ 7302250) (K : ∀ (σ2 : Sg) (μ2 : Mg) (x2 : Nat → Nat → Int32), Rel ε σ2 μ2 → GW κ n1 n2 (cW cy h0 b ε σ2 μ2.1 μ2.2.1 μ2.2.2 x2) 1368 (lvL bS (sAd ε 0) h0 i) []) : GW κ n1 n2 (cW cy h0 b ε σ μ.1 μ.2.1 μ.2.2 x) 1273 (lvL bS (sAd ε 0) h0 i) [] := by
  obtain ⟨hX, hN, hS, hzo, hzs, hL⟩ := hW
  obtain ⟨res, σ2, μ2, e1, e2, hR2⟩ := tell_ok hR (xs (i + 1))
  refine g_aload_n hX 2 rfl rfl dL_law_1273 ?_
  refine l_arg hX hS 1 1 (by decide) (by omega) hL dL_law_1274 dL_law_1275 dL_law_1276 dL_law_1277 dL_law_1278 ?_
  refine c_call6 (c := 0) (C := fun ε σ => cW cy h0 b ε σ μ.1 μ.2.1 μ.2.2 x) hX (cw_lens _ _ _ _) hzo rfl [.int (xs (i + 1))] [] (ct_X6_tell _ _ _ _ hzo hzs (cw_lens _ _ _ _) ε (xs (i + 1)) σ σ2 res e1) kX6_tell tMet_L_159 rfl rfl (Nat.le_of_ble_eq_true rfl) (Nat.le_of_ble_eq_true rfl) ⟨hn1, hn2⟩ rfl rfl (Nat.le_of_ble_eq_true rfl) dL_law_1279 ?_
  refine g_aload_n hX 1 rfl rfl dL_law_1282 ?_
  refine l_arg hX hS 1 1 (by decide) (by omega) hL dL_law_1283 dL_law_1284 dL_law_1285 dL_law_1286 dL_law_1287 ?_
  refine l_callM (C := fun v s r x => cW cy h0 b ε σ2 v s r x) hX hzo (cw_mlens ε σ2) [.int (xs (i + 1))] [.int res] (ct_X7_tell _ _ _ _ hzo (cw_mlens ε σ2) (xs (i + 1)) μ μ2 x res e2) kX7_tell tMet_L_162 rfl rfl (Nat.le_of_ble_eq_true rfl) (Nat.le_of_ble_eq_true rfl) ⟨hn1, hn2⟩ rfl (Nat.le_of_ble_eq_true rfl) dL_law_1288 ?_
  rintro _ _ ⟨rfl, x2, rfl⟩
  exact g_icmp_eq hX 1368 (by decide) dL_law_1291 (fun _ => K σ2 μ2 x2 hR2) (fun z => absurd rfl z)
set_option maxHeartbeats 4000000 in
set_option maxRecDepth 100000 in
theorem lc_check {κ : GC} {cy : Nat → ClassId} {Z : (Nat → Prop) → State → Heap → Prop} {aStr aByt : Nat → Nat} {bS L : Nat} {xs : Nat → Int32} (hW : LawX κ cy Z aStr aByt bS L xs) {h0 : Nat} {b : Nat → Nat} {ε : Ev} {σ : Sg} {μ : Mg} {x : Nat → Nat → Int32} (hR : Rel ε σ μ) {n1 n2 i : Nat} (hi : i + 6 ≤ L) (hn1 : n1 ≤ 600000) (hn2 : n2 ≤ 7302250) (K : ∀ (σ2 : Sg) (μ2 : Mg) (x2 : Nat → Nat → Int32), Rel ε σ2 μ2 → GW κ n1 n2 (cW cy h0 b ε σ2 μ2.1 μ2.2.1 μ2.2.2 x2) 1368 (lvL bS (sAd ε 0) h0 i) []) : GW κ n1 n2 (cW cy h0 b ε σ μ.1 μ.2.1 μ.2.2 x) 1296 (lvL bS (sAd ε 0) h0 i) [] := by
  obtain ⟨hX, hN, hS, hzo, hzs, hL⟩ := hW
  obtain ⟨res, σ2, μ2, e1, e2, hR2⟩ := check_ok hR (xs (i + 1))
  refine g_aload_n hX 2 rfl rfl dL_law_1296 ?_
  refine l_arg hX hS 1 1 (by decide) (by omega) hL dL_law_1297 dL_law_1298 dL_law_1299 dL_law_1300 dL_law_1301 ?_
  refine c_call6 (c := 0) (C := fun ε σ => cW cy h0 b ε σ μ.1 μ.2.1 μ.2.2 x) hX (cw_lens _ _ _ _) hzo rfl [.int (xs (i + 1))] [] (ct_X6_check _ _ _ _ hzo hzs (cw_lens _ _ _ _) ε (xs (i + 1)) σ σ2 res e1) kX6_check tMet_L_163 rfl rfl (Nat.le_of_ble_eq_true rfl) (Nat.le_of_ble_eq_true rfl) ⟨hn1, hn2⟩ rfl rfl (Nat.le_of_ble_eq_true rfl) dL_law_1302 ?_
  refine g_aload_n hX 1 rfl rfl dL_law_1305 ?_
  refine l_arg hX hS 1 1 (by decide) (by omega) hL dL_law_1306 dL_law_1307 dL_law_1308 dL_law_1309 dL_law_1310 ?_
  refine l_callM (C := fun v s r x => cW cy h0 b ε σ2 v s r x) hX hzo (cw_mlens ε σ2) [.int (xs (i + 1))] [.int res] (ct_X7_check _ _ _ _ hzo (cw_mlens ε σ2) (xs (i + 1)) μ μ2 x res e2) kX7_check tMet_L_166 rfl rfl (Nat.le_of_ble_eq_true rfl) (Nat.le_of_ble_eq_true rfl) ⟨hn1, hn2⟩ rfl (Nat.le_of_ble_eq_true rfl) dL_law_1311 ?_
  rintro _ _ ⟨rfl, x2, rfl⟩
  exact g_icmp_eq hX 1368 (by decide) dL_law_1314 (fun _ => K σ2 μ2 x2 hR2) (fun z => absurd rfl z)
set_option maxHeartbeats 4000000 in
set_option maxRecDepth 100000 in
theorem lc_keep {κ : GC} {cy : Nat → ClassId} {Z : (Nat → Prop) → State → Heap → Prop} {aStr aByt : Nat → Nat} {bS L : Nat} {xs : Nat → Int32} (hW : LawX κ cy Z aStr aByt bS L xs) {h0 : Nat} {b : Nat → Nat} {ε : Ev} {σ : Sg} {μ : Mg} {x : Nat → Nat → Int32} (hR : Rel ε σ μ) {n1 n2 i : Nat} (hi : i + 6 ≤ L) (hn1 : n1 ≤ 600000) (hn2 : n2 ≤ 7302250) (K : ∀ (σ2 : Sg) (μ2 : Mg) (x2 : Nat → Nat → Int32), Rel ε σ2 μ2 → GW κ n1 n2 (cW cy h0 b ε σ2 μ2.1 μ2.2.1 μ2.2.2 x2) 1368 (lvL bS (sAd ε 0) h0 i) []) : GW κ n1 n2 (cW cy h0 b ε σ μ.1 μ.2.1 μ.2.2 x) 1319 (lvL bS (sAd ε 0) h0 i) [] := by
  obtain ⟨hX, hN, hS, hzo, hzs, hL⟩ := hW
  obtain ⟨res, σ2, μ2, e1, e2, hR2⟩ := keep_ok hR 
  refine g_aload_n hX 2 rfl rfl dL_law_1319 ?_
  refine c_call6 (c := 0) (C := fun ε σ => cW cy h0 b ε σ μ.1 μ.2.1 μ.2.2 x) hX (cw_lens _ _ _ _) hzo rfl [] [] (ct_X6_keep _ _ _ _ hzo hzs (cw_lens _ _ _ _) ε  σ σ2 res e1) kX6_keep tMet_L_167 rfl rfl (Nat.le_of_ble_eq_true rfl) (Nat.le_of_ble_eq_true rfl) ⟨hn1, hn2⟩ rfl rfl (Nat.le_of_ble_eq_true rfl) dL_law_1320 ?_
  refine g_aload_n hX 1 rfl rfl dL_law_1323 ?_
  refine l_callM (C := fun v s r x => cW cy h0 b ε σ2 v s r x) hX hzo (cw_mlens ε σ2) [] [.int res] (ct_X7_keep _ _ _ _ hzo (cw_mlens ε σ2)  μ μ2 x res e2) kX7_keep tMet_L_170 rfl rfl (Nat.le_of_ble_eq_true rfl) (Nat.le_of_ble_eq_true rfl) ⟨hn1, hn2⟩ rfl (Nat.le_of_ble_eq_true rfl) dL_law_1324 ?_
  rintro _ _ ⟨rfl, x2, rfl⟩
  exact g_icmp_eq hX 1368 (by decide) dL_law_1327 (fun _ => K σ2 μ2 x2 hR2) (fun z => absurd rfl z)
set_option maxHeartbeats 4000000 in
set_option maxRecDepth 100000 in
theorem lc_back {κ : GC} {cy : Nat → ClassId} {Z : (Nat → Prop) → State → Heap → Prop} {aStr aByt : Nat → Nat} {bS L : Nat} {xs : Nat → Int32} (hW : LawX κ cy Z aStr aByt bS L xs) {h0 : Nat} {b : Nat → Nat} {ε : Ev} {σ : Sg} {μ : Mg} {x : Nat → Nat → Int32} (hR : Rel ε σ μ) {n1 n2 i : Nat} (hi : i + 6 ≤ L) (hn1 : n1 ≤ 600000) (hn2 : n2 ≤ 7302250) (K : ∀ (σ2 : Sg) (μ2 : Mg) (x2 : Nat → Nat → Int32), Rel ε σ2 μ2 → GW κ n1 n2 (cW cy h0 b ε σ2 μ2.1 μ2.2.1 μ2.2.2 x2) 1368 (lvL bS (sAd ε 0) h0 i) []) : GW κ n1 n2 (cW cy h0 b ε σ μ.1 μ.2.1 μ.2.2 x) 1332 (lvL bS (sAd ε 0) h0 i) [] := by
  obtain ⟨hX, hN, hS, hzo, hzs, hL⟩ := hW
  obtain ⟨res, σ2, μ2, e1, e2, hR2⟩ := back_ok hR 
  refine g_aload_n hX 2 rfl rfl dL_law_1332 ?_
  refine c_call6 (c := 0) (C := fun ε σ => cW cy h0 b ε σ μ.1 μ.2.1 μ.2.2 x) hX (cw_lens _ _ _ _) hzo rfl [] [] (ct_X6_back _ _ _ _ hzo hzs (cw_lens _ _ _ _) ε  σ σ2 res e1) kX6_back tMet_L_171 rfl rfl (Nat.le_of_ble_eq_true rfl) (Nat.le_of_ble_eq_true rfl) ⟨hn1, hn2⟩ rfl rfl (Nat.le_of_ble_eq_true rfl) dL_law_1333 ?_
  refine g_aload_n hX 1 rfl rfl dL_law_1336 ?_
  refine l_callM (C := fun v s r x => cW cy h0 b ε σ2 v s r x) hX hzo (cw_mlens ε σ2) [] [.int res] (ct_X7_back _ _ _ _ hzo (cw_mlens ε σ2)  μ μ2 x res e2) kX7_back tMet_L_174 rfl rfl (Nat.le_of_ble_eq_true rfl) (Nat.le_of_ble_eq_true rfl) ⟨hn1, hn2⟩ rfl (Nat.le_of_ble_eq_true rfl) dL_law_1337 ?_
  rintro _ _ ⟨rfl, x2, rfl⟩
  exact g_icmp_eq hX 1368 (by decide) dL_law_1340 (fun _ => K σ2 μ2 x2 hR2) (fun z => absurd rfl z)
set_option maxHeartbeats 4000000 in
set_option maxRecDepth 100000 in
theorem lc_count {κ : GC} {cy : Nat → ClassId} {Z : (Nat → Prop) → State → Heap → Prop} {aStr aByt : Nat → Nat} {bS L : Nat} {xs : Nat → Int32} (hW : LawX κ cy Z aStr aByt bS L xs) {h0 : Nat} {b : Nat → Nat} {ε : Ev} {σ : Sg} {μ : Mg} {x : Nat → Nat → Int32} (hR : Rel ε σ μ) {n1 n2 i : Nat} (hi : i + 6 ≤ L) (hn1 : n1 ≤ 600000) (hn2 : n2 ≤ 7302250) (K : ∀ (σ2 : Sg) (μ2 : Mg) (x2 : Nat → Nat → Int32), Rel ε σ2 μ2 → GW κ n1 n2 (cW cy h0 b ε σ2 μ2.1 μ2.2.1 μ2.2.2 x2) 1368 (lvL bS (sAd ε 0) h0 i) []) : GW κ n1 n2 (cW cy h0 b ε σ μ.1 μ.2.1 μ.2.2 x) 1345 (lvL bS (sAd ε 0) h0 i) [] := by
  obtain ⟨hX, hN, hS, hzo, hzs, hL⟩ := hW
  obtain ⟨res, σ2, μ2, e1, e2, hR2⟩ := count_ok hR (xs (i + 1))
  refine g_aload_n hX 2 rfl rfl dL_law_1345 ?_
  refine l_arg hX hS 1 1 (by decide) (by omega) hL dL_law_1346 dL_law_1347 dL_law_1348 dL_law_1349 dL_law_1350 ?_
  refine c_call6 (c := 0) (C := fun ε σ => cW cy h0 b ε σ μ.1 μ.2.1 μ.2.2 x) hX (cw_lens _ _ _ _) hzo rfl [.int (xs (i + 1))] [] (ct_X6_count _ _ _ _ hzo hzs (cw_lens _ _ _ _) ε (xs (i + 1)) σ σ2 res e1) kX6_count tMet_L_175 rfl rfl (Nat.le_of_ble_eq_true rfl) (Nat.le_of_ble_eq_true rfl) ⟨hn1, hn2⟩ rfl rfl (Nat.le_of_ble_eq_true rfl) dL_law_1351 ?_
  refine g_aload_n hX 1 rfl rfl dL_law_1354 ?_
  refine l_arg hX hS 1 1 (by decide) (by omega) hL dL_law_1355 dL_law_1356 dL_law_1357 dL_law_1358 dL_law_1359 ?_
  refine l_callM (C := fun v s r x => cW cy h0 b ε σ2 v s r x) hX hzo (cw_mlens ε σ2) [.int (xs (i + 1))] [.int res] (ct_X7_count _ _ _ _ hzo (cw_mlens ε σ2) (xs (i + 1)) μ μ2 x res e2) kX7_count tMet_L_178 rfl rfl (Nat.le_of_ble_eq_true rfl) (Nat.le_of_ble_eq_true rfl) ⟨hn1, hn2⟩ rfl (Nat.le_of_ble_eq_true rfl) dL_law_1360 ?_
  rintro _ _ ⟨rfl, x2, rfl⟩
  exact g_icmp_eq hX 1368 (by decide) dL_law_1363 (fun _ => K σ2 μ2 x2 hR2) (fun z => absurd rfl z)
