/-! the law's cases -/
set_option maxHeartbeats 4000000 in
theorem lw_c28 {G : GT} {k z : Nat} {Q : QT} {S : ST} {M : MT} (ok : okST S) (h : RC S M) (g : RM S M) (i : Nat) (hi : i + 7 ≤ G.2.2.2.2.2.1) (hL : G.2.2.2.2.2.1 ≤ 448) (hk : k ≤ 600000) (hz : z ≤ 7302250) (kk : ∀ S' M', okST S' → RC S' M' → RM S' M' → Wp G J_lw_law k z 1367 [(0, pR 1001), (1, pR 0), (2, pR 101), (3, pI (i : Int))] [] NN RF M' Q) : Wp G J_lw_law k z 1105 [(0, pR 1001), (1, pR 0), (2, pR 101), (3, pI (i : Int))] [] NN RF M Q := by
  refine wp_aload_n d_lw_law_1105 rfl 1 rfl ?_
  refine lw_arg 1 (by omega) d_lw_law_1106 d_lw_law_1107 d_lw_law_1108 d_lw_law_1109 d_lw_law_1110 hi hL ?_
  refine wp_callV [pI _] 0 d_lw_law_1111 jd_tl_lose lk_lw_131 rfl s_0 rfl (Nat.le_of_ble_eq_true rfl) (Nat.le_of_ble_eq_true rfl) (rm_kz rfl hk hz) ?_
  refine clI_k (P := fun x M1 => Wp G J_lw_law k z 1114 [(0, pR 1001), (1, pR 0), (2, pR 101), (3, pI (i : Int))] [pI x] NN RF M1 Q) (c_tl_lose ok h _ (fun M1 f1 r1 => ?_)) (fun _ _ hx => hx)
  have g1 := g.fx f1
  refine wp_aload_n d_lw_law_1114 rfl 2 rfl ?_
  refine lw_arg 1 (by omega) d_lw_law_1115 d_lw_law_1116 d_lw_law_1117 d_lw_law_1118 d_lw_law_1119 hi hL ?_
  refine wp_callV [pI _] 101 d_lw_law_1120 jd_mo_lose lk_lw_134 rfl s_101 rfl (Nat.le_of_ble_eq_true rfl) (Nat.le_of_ble_eq_true rfl) (rm_kz rfl hk hz) ?_
  refine clI_k (P := fun y M2 => Wp G J_lw_law k z 1123 [(0, pR 1001), (1, pR 0), (2, pR 101), (3, pI (i : Int))] [pI y, pI _] NN RF M2 Q) (c_mo_lose ok g1 _ (fun M2 f2 g2 => ?_)) (fun _ _ hx => hx)
  exact wp_icmp_eq 1367 d_lw_law_1123 (by decide) (fun _ => kk _ M2 (ok_lose ok _) (r1.fo (ok_lose ok _) f2) g2) (fun c => absurd rfl c)
set_option maxHeartbeats 4000000 in
theorem lw_c29 {G : GT} {k z : Nat} {Q : QT} {S : ST} {M : MT} (ok : okST S) (h : RC S M) (g : RM S M) (i : Nat) (hi : i + 7 ≤ G.2.2.2.2.2.1) (hL : G.2.2.2.2.2.1 ≤ 448) (hk : k ≤ 600000) (hz : z ≤ 7302250) (kk : ∀ S' M', okST S' → RC S' M' → RM S' M' → Wp G J_lw_law k z 1367 [(0, pR 1001), (1, pR 0), (2, pR 101), (3, pI (i : Int))] [] NN RF M' Q) : Wp G J_lw_law k z 1128 [(0, pR 1001), (1, pR 0), (2, pR 101), (3, pI (i : Int))] [] NN RF M Q := by
  refine wp_aload_n d_lw_law_1128 rfl 1 rfl ?_
  refine lw_arg 1 (by omega) d_lw_law_1129 d_lw_law_1130 d_lw_law_1131 d_lw_law_1132 d_lw_law_1133 hi hL ?_
  refine lw_arg 2 (by omega) d_lw_law_1134 d_lw_law_1135 d_lw_law_1136 d_lw_law_1137 d_lw_law_1138 hi hL ?_
  refine lw_arg 3 (by omega) d_lw_law_1139 d_lw_law_1140 d_lw_law_1141 d_lw_law_1142 d_lw_law_1143 hi hL ?_
  refine lw_arg 4 (by omega) d_lw_law_1144 d_lw_law_1145 d_lw_law_1146 d_lw_law_1147 d_lw_law_1148 hi hL ?_
  refine wp_callV [pI _, pI _, pI _, pI _] 0 d_lw_law_1149 jd_tl_lay lk_lw_135 rfl s_0 rfl (Nat.le_of_ble_eq_true rfl) (Nat.le_of_ble_eq_true rfl) (rm_kz rfl hk hz) ?_
  refine clI_k (P := fun x M1 => Wp G J_lw_law k z 1152 [(0, pR 1001), (1, pR 0), (2, pR 101), (3, pI (i : Int))] [pI x] NN RF M1 Q) (c_tl_lay ok h _ _ _ _ (fun M1 f1 r1 => ?_)) (fun _ _ hx => hx)
  have g1 := g.fx f1
  refine wp_aload_n d_lw_law_1152 rfl 2 rfl ?_
  refine lw_arg 1 (by omega) d_lw_law_1153 d_lw_law_1154 d_lw_law_1155 d_lw_law_1156 d_lw_law_1157 hi hL ?_
  refine lw_arg 2 (by omega) d_lw_law_1158 d_lw_law_1159 d_lw_law_1160 d_lw_law_1161 d_lw_law_1162 hi hL ?_
  refine lw_arg 3 (by omega) d_lw_law_1163 d_lw_law_1164 d_lw_law_1165 d_lw_law_1166 d_lw_law_1167 hi hL ?_
  refine lw_arg 4 (by omega) d_lw_law_1168 d_lw_law_1169 d_lw_law_1170 d_lw_law_1171 d_lw_law_1172 hi hL ?_
  refine wp_callV [pI _, pI _, pI _, pI _] 101 d_lw_law_1173 jd_mo_lay lk_lw_138 rfl s_101 rfl (Nat.le_of_ble_eq_true rfl) (Nat.le_of_ble_eq_true rfl) (rm_kz rfl hk hz) ?_
  refine clI_k (P := fun y M2 => Wp G J_lw_law k z 1176 [(0, pR 1001), (1, pR 0), (2, pR 101), (3, pI (i : Int))] [pI y, pI _] NN RF M2 Q) (c_mo_lay ok g1 _ _ _ _ (fun M2 f2 g2 => ?_)) (fun _ _ hx => hx)
  exact wp_icmp_eq 1367 d_lw_law_1176 (by decide) (fun _ => kk _ M2 (ok_lay ok _ _ _ _) (r1.fo (ok_lay ok _ _ _ _) f2) g2) (fun c => absurd rfl c)
set_option maxHeartbeats 4000000 in
theorem lw_c30 {G : GT} {k z : Nat} {Q : QT} {S : ST} {M : MT} (ok : okST S) (h : RC S M) (g : RM S M) (i : Nat) (hi : i + 7 ≤ G.2.2.2.2.2.1) (hL : G.2.2.2.2.2.1 ≤ 448) (hk : k ≤ 600000) (hz : z ≤ 7302250) (kk : ∀ S' M', okST S' → RC S' M' → RM S' M' → Wp G J_lw_law k z 1367 [(0, pR 1001), (1, pR 0), (2, pR 101), (3, pI (i : Int))] [] NN RF M' Q) : Wp G J_lw_law k z 1181 [(0, pR 1001), (1, pR 0), (2, pR 101), (3, pI (i : Int))] [] NN RF M Q := by
  refine wp_aload_n d_lw_law_1181 rfl 1 rfl ?_
  refine lw_arg 1 (by omega) d_lw_law_1182 d_lw_law_1183 d_lw_law_1184 d_lw_law_1185 d_lw_law_1186 hi hL ?_
  refine lw_arg 2 (by omega) d_lw_law_1187 d_lw_law_1188 d_lw_law_1189 d_lw_law_1190 d_lw_law_1191 hi hL ?_
  refine lw_arg 3 (by omega) d_lw_law_1192 d_lw_law_1193 d_lw_law_1194 d_lw_law_1195 d_lw_law_1196 hi hL ?_
  refine wp_callV [pI _, pI _, pI _] 0 d_lw_law_1197 jd_tl_get lk_lw_139 rfl s_0 rfl (Nat.le_of_ble_eq_true rfl) (Nat.le_of_ble_eq_true rfl) (rm_kz rfl hk hz) ?_
  refine clI_k (P := fun x M1 => Wp G J_lw_law k z 1200 [(0, pR 1001), (1, pR 0), (2, pR 101), (3, pI (i : Int))] [pI x] NN RF M1 Q) (c_tl_get ok h _ _ _ (fun M1 f1 r1 => ?_)) (fun _ _ hx => hx)
  have g1 := g.fx f1
  refine wp_aload_n d_lw_law_1200 rfl 2 rfl ?_
  refine lw_arg 1 (by omega) d_lw_law_1201 d_lw_law_1202 d_lw_law_1203 d_lw_law_1204 d_lw_law_1205 hi hL ?_
  refine lw_arg 2 (by omega) d_lw_law_1206 d_lw_law_1207 d_lw_law_1208 d_lw_law_1209 d_lw_law_1210 hi hL ?_
  refine lw_arg 3 (by omega) d_lw_law_1211 d_lw_law_1212 d_lw_law_1213 d_lw_law_1214 d_lw_law_1215 hi hL ?_
  refine wp_callV [pI _, pI _, pI _] 101 d_lw_law_1216 jd_mo_get lk_lw_142 rfl s_101 rfl (Nat.le_of_ble_eq_true rfl) (Nat.le_of_ble_eq_true rfl) (rm_kz rfl hk hz) ?_
  refine clI_k (P := fun y M2 => Wp G J_lw_law k z 1219 [(0, pR 1001), (1, pR 0), (2, pR 101), (3, pI (i : Int))] [pI y, pI _] NN RF M2 Q) (c_mo_get ok g1 _ _ _ (fun M2 f2 g2 => ?_)) (fun _ _ hx => hx)
  exact wp_icmp_eq 1367 d_lw_law_1219 (by decide) (fun _ => kk _ M2 (ok_get ok _ _ _) (r1.fo (ok_get ok _ _ _) f2) g2) (fun c => absurd rfl c)
set_option maxHeartbeats 4000000 in
theorem lw_c31 {G : GT} {k z : Nat} {Q : QT} {S : ST} {M : MT} (ok : okST S) (h : RC S M) (g : RM S M) (i : Nat) (hi : i + 7 ≤ G.2.2.2.2.2.1) (hL : G.2.2.2.2.2.1 ≤ 448) (hk : k ≤ 600000) (hz : z ≤ 7302250) (kk : ∀ S' M', okST S' → RC S' M' → RM S' M' → Wp G J_lw_law k z 1367 [(0, pR 1001), (1, pR 0), (2, pR 101), (3, pI (i : Int))] [] NN RF M' Q) : Wp G J_lw_law k z 1224 [(0, pR 1001), (1, pR 0), (2, pR 101), (3, pI (i : Int))] [] NN RF M Q := by
  refine wp_aload_n d_lw_law_1224 rfl 1 rfl ?_
  refine lw_arg 1 (by omega) d_lw_law_1225 d_lw_law_1226 d_lw_law_1227 d_lw_law_1228 d_lw_law_1229 hi hL ?_
  refine lw_arg 2 (by omega) d_lw_law_1230 d_lw_law_1231 d_lw_law_1232 d_lw_law_1233 d_lw_law_1234 hi hL ?_
  refine lw_arg 3 (by omega) d_lw_law_1235 d_lw_law_1236 d_lw_law_1237 d_lw_law_1238 d_lw_law_1239 hi hL ?_
  refine lw_arg 4 (by omega) d_lw_law_1240 d_lw_law_1241 d_lw_law_1242 d_lw_law_1243 d_lw_law_1244 hi hL ?_
  refine lw_arg 5 (by omega) d_lw_law_1245 d_lw_law_1246 d_lw_law_1247 d_lw_law_1248 d_lw_law_1249 hi hL ?_
  refine wp_callV [pI _, pI _, pI _, pI _, pI _] 0 d_lw_law_1250 jd_tl_copy lk_lw_143 rfl s_0 rfl (Nat.le_of_ble_eq_true rfl) (Nat.le_of_ble_eq_true rfl) (rm_kz rfl hk hz) ?_
  refine clI_k (P := fun x M1 => Wp G J_lw_law k z 1253 [(0, pR 1001), (1, pR 0), (2, pR 101), (3, pI (i : Int))] [pI x] NN RF M1 Q) (c_tl_copy ok h _ _ _ _ _ (fun M1 f1 r1 => ?_)) (fun _ _ hx => hx)
  have g1 := g.fx f1
  refine wp_aload_n d_lw_law_1253 rfl 2 rfl ?_
  refine lw_arg 1 (by omega) d_lw_law_1254 d_lw_law_1255 d_lw_law_1256 d_lw_law_1257 d_lw_law_1258 hi hL ?_
  refine lw_arg 2 (by omega) d_lw_law_1259 d_lw_law_1260 d_lw_law_1261 d_lw_law_1262 d_lw_law_1263 hi hL ?_
  refine lw_arg 3 (by omega) d_lw_law_1264 d_lw_law_1265 d_lw_law_1266 d_lw_law_1267 d_lw_law_1268 hi hL ?_
  refine lw_arg 4 (by omega) d_lw_law_1269 d_lw_law_1270 d_lw_law_1271 d_lw_law_1272 d_lw_law_1273 hi hL ?_
  refine lw_arg 5 (by omega) d_lw_law_1274 d_lw_law_1275 d_lw_law_1276 d_lw_law_1277 d_lw_law_1278 hi hL ?_
  refine wp_callV [pI _, pI _, pI _, pI _, pI _] 101 d_lw_law_1279 jd_mo_copy lk_lw_147 rfl s_101 rfl (Nat.le_of_ble_eq_true rfl) (Nat.le_of_ble_eq_true rfl) (rm_kz rfl hk hz) ?_
  refine clI_k (P := fun y M2 => Wp G J_lw_law k z 1282 [(0, pR 1001), (1, pR 0), (2, pR 101), (3, pI (i : Int))] [pI y, pI _] NN RF M2 Q) (c_mo_copy ok g1 _ _ _ _ _ ⟨r32 _, r32 _, r32 _⟩ (fun M2 f2 g2 => ?_)) (fun _ _ hx => hx)
  exact wp_icmp_eq 1367 d_lw_law_1282 (by decide) (fun _ => kk _ M2 (ok_copy ok _ _ _ _ _) (r1.fo (ok_copy ok _ _ _ _ _) f2) g2) (fun c => absurd rfl c)
set_option maxHeartbeats 4000000 in
theorem lw_c32 {G : GT} {k z : Nat} {Q : QT} {S : ST} {M : MT} (ok : okST S) (h : RC S M) (g : RM S M) (i : Nat) (hi : i + 7 ≤ G.2.2.2.2.2.1) (hL : G.2.2.2.2.2.1 ≤ 448) (hk : k ≤ 600000) (hz : z ≤ 7302250) (kk : ∀ S' M', okST S' → RC S' M' → RM S' M' → Wp G J_lw_law k z 1367 [(0, pR 1001), (1, pR 0), (2, pR 101), (3, pI (i : Int))] [] NN RF M' Q) : Wp G J_lw_law k z 1287 [(0, pR 1001), (1, pR 0), (2, pR 101), (3, pI (i : Int))] [] NN RF M Q := by
  refine wp_aload_n d_lw_law_1287 rfl 1 rfl ?_
  refine lw_arg 1 (by omega) d_lw_law_1288 d_lw_law_1289 d_lw_law_1290 d_lw_law_1291 d_lw_law_1292 hi hL ?_
  refine lw_arg 2 (by omega) d_lw_law_1293 d_lw_law_1294 d_lw_law_1295 d_lw_law_1296 d_lw_law_1297 hi hL ?_
  refine lw_arg 3 (by omega) d_lw_law_1298 d_lw_law_1299 d_lw_law_1300 d_lw_law_1301 d_lw_law_1302 hi hL ?_
  refine wp_callV [pI _, pI _, pI _] 0 d_lw_law_1303 jd_tl_write lk_lw_148 rfl s_0 rfl (Nat.le_of_ble_eq_true rfl) (Nat.le_of_ble_eq_true rfl) (rm_kz rfl hk hz) ?_
  refine clI_k (P := fun x M1 => Wp G J_lw_law k z 1306 [(0, pR 1001), (1, pR 0), (2, pR 101), (3, pI (i : Int))] [pI x] NN RF M1 Q) (c_tl_write ok h _ _ _ (fun M1 f1 r1 => ?_)) (fun _ _ hx => hx)
  have g1 := g.fx f1
  refine wp_aload_n d_lw_law_1306 rfl 2 rfl ?_
  refine lw_arg 1 (by omega) d_lw_law_1307 d_lw_law_1308 d_lw_law_1309 d_lw_law_1310 d_lw_law_1311 hi hL ?_
  refine lw_arg 2 (by omega) d_lw_law_1312 d_lw_law_1313 d_lw_law_1314 d_lw_law_1315 d_lw_law_1316 hi hL ?_
  refine lw_arg 3 (by omega) d_lw_law_1317 d_lw_law_1318 d_lw_law_1319 d_lw_law_1320 d_lw_law_1321 hi hL ?_
  refine wp_callV [pI _, pI _, pI _] 101 d_lw_law_1322 jd_mo_write lk_lw_151 rfl s_101 rfl (Nat.le_of_ble_eq_true rfl) (Nat.le_of_ble_eq_true rfl) (rm_kz rfl hk hz) ?_
  refine clI_k (P := fun y M2 => Wp G J_lw_law k z 1325 [(0, pR 1001), (1, pR 0), (2, pR 101), (3, pI (i : Int))] [pI y, pI _] NN RF M2 Q) (c_mo_write ok g1 _ _ _ (fun M2 f2 g2 => ?_)) (fun _ _ hx => hx)
  exact wp_icmp_eq 1367 d_lw_law_1325 (by decide) (fun _ => kk _ M2 (ok_write ok _ _ _) (r1.fo (ok_write ok _ _ _) f2) g2) (fun c => absurd rfl c)
set_option maxHeartbeats 4000000 in
theorem lw_c33 {G : GT} {k z : Nat} {Q : QT} {S : ST} {M : MT} (ok : okST S) (h : RC S M) (g : RM S M) (i : Nat) (hi : i + 7 ≤ G.2.2.2.2.2.1) (hL : G.2.2.2.2.2.1 ≤ 448) (hk : k ≤ 600000) (hz : z ≤ 7302250) (kk : ∀ S' M', okST S' → RC S' M' → RM S' M' → Wp G J_lw_law k z 1367 [(0, pR 1001), (1, pR 0), (2, pR 101), (3, pI (i : Int))] [] NN RF M' Q) : Wp G J_lw_law k z 1330 [(0, pR 1001), (1, pR 0), (2, pR 101), (3, pI (i : Int))] [] NN RF M Q := by
  refine wp_aload_n d_lw_law_1330 rfl 1 rfl ?_
  refine lw_arg 1 (by omega) d_lw_law_1331 d_lw_law_1332 d_lw_law_1333 d_lw_law_1334 d_lw_law_1335 hi hL ?_
  refine wp_callV [pI _] 0 d_lw_law_1336 jd_tl_count lk_lw_152 rfl s_0 rfl (Nat.le_of_ble_eq_true rfl) (Nat.le_of_ble_eq_true rfl) (rm_kz rfl hk hz) ?_
  refine clI_k (P := fun x M1 => Wp G J_lw_law k z 1339 [(0, pR 1001), (1, pR 0), (2, pR 101), (3, pI (i : Int))] [pI x] NN RF M1 Q) (c_tl_count ok h _ (fun M1 f1 k1 => ?_)) (fun _ _ hx => hx)
  have r1 := h.fc ok f1 k1
  have g1 := g.fx f1.fx
  refine wp_aload_n d_lw_law_1339 rfl 2 rfl ?_
  refine lw_arg 1 (by omega) d_lw_law_1340 d_lw_law_1341 d_lw_law_1342 d_lw_law_1343 d_lw_law_1344 hi hL ?_
  refine wp_callV [pI _] 101 d_lw_law_1345 jd_mo_count lk_lw_155 rfl s_101 rfl (Nat.le_of_ble_eq_true rfl) (Nat.le_of_ble_eq_true rfl) (rm_kz rfl hk hz) ?_
  refine clI_k (P := fun y M2 => Wp G J_lw_law k z 1348 [(0, pR 1001), (1, pR 0), (2, pR 101), (3, pI (i : Int))] [pI y, pI _] NN RF M2 Q) (c_mo_count ok g1 _ (fun M2 f2 => ?_)) (fun _ _ hx => hx)
  exact wp_icmp_eq 1367 d_lw_law_1348 (by decide) (fun _ => kk S M2 ok (r1.fo ok f2.fo) (g1.fa f2)) (fun c => absurd rfl c)
set_option maxHeartbeats 4000000 in
theorem lw_c34 {G : GT} {k z : Nat} {Q : QT} {S : ST} {M : MT} (ok : okST S) (h : RC S M) (g : RM S M) (i : Nat) (hi : i + 7 ≤ G.2.2.2.2.2.1) (hL : G.2.2.2.2.2.1 ≤ 448) (hk : k ≤ 600000) (hz : z ≤ 7302250) (kk : ∀ S' M', okST S' → RC S' M' → RM S' M' → Wp G J_lw_law k z 1367 [(0, pR 1001), (1, pR 0), (2, pR 101), (3, pI (i : Int))] [] NN RF M' Q) : Wp G J_lw_law k z 1353 [(0, pR 1001), (1, pR 0), (2, pR 101), (3, pI (i : Int))] [] NN RF M Q := by
  refine wp_aload_n d_lw_law_1353 rfl 1 rfl ?_
  refine wp_callV [] 0 d_lw_law_1354 jd_tl_digest lk_lw_156 rfl s_0 rfl (Nat.le_of_ble_eq_true rfl) (Nat.le_of_ble_eq_true rfl) (rm_kz rfl hk hz) ?_
  refine clL_k (P := fun x M1 => Wp G J_lw_law k z 1357 [(0, pR 1001), (1, pR 0), (2, pR 101), (3, pI (i : Int))] [pL x] NN RF M1 Q) (c_tl_digest ok h (fun M1 f1 k1 => ?_)) (fun _ _ hx => hx)
  have r1 := h.fc ok f1 k1
  have g1 := g.fx f1.fx
  refine wp_aload_n d_lw_law_1357 rfl 2 rfl ?_
  refine wp_callV [] 101 d_lw_law_1358 jd_mo_digest lk_lw_160 rfl s_101 rfl (Nat.le_of_ble_eq_true rfl) (Nat.le_of_ble_eq_true rfl) (rm_kz rfl hk hz) ?_
  refine clL_k (P := fun y M2 => Wp G J_lw_law k z 1361 [(0, pR 1001), (1, pR 0), (2, pR 101), (3, pI (i : Int))] [pL y, pL _] NN RF M2 Q) (c_mo_digest ok g1 (fun M2 f2 => ?_)) (fun _ _ hx => hx)
  refine wp_lcmp d_lw_law_1361 ?_
  exact wp_if_eq 1367 d_lw_law_1362 (by decide) (fun _ => kk S M2 ok (r1.fo ok f2.fo) (g1.fa f2)) (fun c => absurd ((lcm_eq _ _).mpr rfl) c)
