/-! decode rows of the law -/
theorem d_lw_law_1188 : decode code 1188 = .ok (.iload_n 3, 1) := by decide +kernel
theorem d_lw_law_1189 : decode code 1189 = .ok (.iconst 2, 1) := by decide +kernel
theorem d_lw_law_1190 : decode code 1190 = .ok (.iadd, 1) := by decide +kernel
theorem d_lw_law_1191 : decode code 1191 = .ok (.iaload, 1) := by decide +kernel
theorem d_lw_law_1192 : decode code 1192 = .ok (.aload_n 0, 1) := by decide +kernel
theorem d_lw_law_1193 : decode code 1193 = .ok (.iload_n 3, 1) := by decide +kernel
theorem d_lw_law_1194 : decode code 1194 = .ok (.iconst 3, 1) := by decide +kernel
theorem d_lw_law_1195 : decode code 1195 = .ok (.iadd, 1) := by decide +kernel
theorem d_lw_law_1196 : decode code 1196 = .ok (.iaload, 1) := by decide +kernel
theorem d_lw_law_1197 : decode code 1197 = .ok (.invokevirtual 139, 3) := by decide +kernel
theorem d_lw_law_1200 : decode code 1200 = .ok (.aload_n 2, 1) := by decide +kernel
theorem d_lw_law_1201 : decode code 1201 = .ok (.aload_n 0, 1) := by decide +kernel
theorem d_lw_law_1202 : decode code 1202 = .ok (.iload_n 3, 1) := by decide +kernel
theorem d_lw_law_1203 : decode code 1203 = .ok (.iconst 1, 1) := by decide +kernel
theorem d_lw_law_1204 : decode code 1204 = .ok (.iadd, 1) := by decide +kernel
theorem d_lw_law_1205 : decode code 1205 = .ok (.iaload, 1) := by decide +kernel
theorem d_lw_law_1206 : decode code 1206 = .ok (.aload_n 0, 1) := by decide +kernel
theorem d_lw_law_1207 : decode code 1207 = .ok (.iload_n 3, 1) := by decide +kernel
theorem d_lw_law_1208 : decode code 1208 = .ok (.iconst 2, 1) := by decide +kernel
theorem d_lw_law_1209 : decode code 1209 = .ok (.iadd, 1) := by decide +kernel
theorem d_lw_law_1210 : decode code 1210 = .ok (.iaload, 1) := by decide +kernel
theorem d_lw_law_1211 : decode code 1211 = .ok (.aload_n 0, 1) := by decide +kernel
theorem d_lw_law_1212 : decode code 1212 = .ok (.iload_n 3, 1) := by decide +kernel
theorem d_lw_law_1213 : decode code 1213 = .ok (.iconst 3, 1) := by decide +kernel
theorem d_lw_law_1214 : decode code 1214 = .ok (.iadd, 1) := by decide +kernel
theorem d_lw_law_1215 : decode code 1215 = .ok (.iaload, 1) := by decide +kernel
theorem d_lw_law_1216 : decode code 1216 = .ok (.invokevirtual 142, 3) := by decide +kernel
theorem d_lw_law_1219 : decode code 1219 = .ok (.if_icmp .eq 148, 3) := by decide +kernel
theorem d_lw_law_1222 : decode code 1222 = .ok (.iconst 0, 1) := by decide +kernel
theorem d_lw_law_1223 : decode code 1223 = .ok (.ireturn, 1) := by decide +kernel
theorem d_lw_law_1224 : decode code 1224 = .ok (.aload_n 1, 1) := by decide +kernel
theorem d_lw_law_1225 : decode code 1225 = .ok (.aload_n 0, 1) := by decide +kernel
theorem d_lw_law_1226 : decode code 1226 = .ok (.iload_n 3, 1) := by decide +kernel
theorem d_lw_law_1227 : decode code 1227 = .ok (.iconst 1, 1) := by decide +kernel
theorem d_lw_law_1228 : decode code 1228 = .ok (.iadd, 1) := by decide +kernel
theorem d_lw_law_1229 : decode code 1229 = .ok (.iaload, 1) := by decide +kernel
theorem d_lw_law_1230 : decode code 1230 = .ok (.aload_n 0, 1) := by decide +kernel
theorem d_lw_law_1231 : decode code 1231 = .ok (.iload_n 3, 1) := by decide +kernel
theorem d_lw_law_1232 : decode code 1232 = .ok (.iconst 2, 1) := by decide +kernel
theorem d_lw_law_1233 : decode code 1233 = .ok (.iadd, 1) := by decide +kernel
theorem d_lw_law_1234 : decode code 1234 = .ok (.iaload, 1) := by decide +kernel
theorem d_lw_law_1235 : decode code 1235 = .ok (.aload_n 0, 1) := by decide +kernel
theorem d_lw_law_1236 : decode code 1236 = .ok (.iload_n 3, 1) := by decide +kernel
theorem d_lw_law_1237 : decode code 1237 = .ok (.iconst 3, 1) := by decide +kernel
theorem d_lw_law_1238 : decode code 1238 = .ok (.iadd, 1) := by decide +kernel
theorem d_lw_law_1239 : decode code 1239 = .ok (.iaload, 1) := by decide +kernel
theorem d_lw_law_1240 : decode code 1240 = .ok (.aload_n 0, 1) := by decide +kernel
theorem d_lw_law_1241 : decode code 1241 = .ok (.iload_n 3, 1) := by decide +kernel
theorem d_lw_law_1242 : decode code 1242 = .ok (.iconst 4, 1) := by decide +kernel
theorem d_lw_law_1243 : decode code 1243 = .ok (.iadd, 1) := by decide +kernel
theorem d_lw_law_1244 : decode code 1244 = .ok (.iaload, 1) := by decide +kernel
theorem d_lw_law_1245 : decode code 1245 = .ok (.aload_n 0, 1) := by decide +kernel
theorem d_lw_law_1246 : decode code 1246 = .ok (.iload_n 3, 1) := by decide +kernel
theorem d_lw_law_1247 : decode code 1247 = .ok (.iconst 5, 1) := by decide +kernel
theorem d_lw_law_1248 : decode code 1248 = .ok (.iadd, 1) := by decide +kernel
theorem d_lw_law_1249 : decode code 1249 = .ok (.iaload, 1) := by decide +kernel
theorem d_lw_law_1250 : decode code 1250 = .ok (.invokevirtual 143, 3) := by decide +kernel
theorem d_lw_law_1253 : decode code 1253 = .ok (.aload_n 2, 1) := by decide +kernel
theorem d_lw_law_1254 : decode code 1254 = .ok (.aload_n 0, 1) := by decide +kernel
theorem d_lw_law_1255 : decode code 1255 = .ok (.iload_n 3, 1) := by decide +kernel
theorem d_lw_law_1256 : decode code 1256 = .ok (.iconst 1, 1) := by decide +kernel
theorem d_lw_law_1257 : decode code 1257 = .ok (.iadd, 1) := by decide +kernel
theorem d_lw_law_1258 : decode code 1258 = .ok (.iaload, 1) := by decide +kernel
theorem d_lw_law_1259 : decode code 1259 = .ok (.aload_n 0, 1) := by decide +kernel
theorem d_lw_law_1260 : decode code 1260 = .ok (.iload_n 3, 1) := by decide +kernel
theorem d_lw_law_1261 : decode code 1261 = .ok (.iconst 2, 1) := by decide +kernel
theorem d_lw_law_1262 : decode code 1262 = .ok (.iadd, 1) := by decide +kernel
theorem d_lw_law_1263 : decode code 1263 = .ok (.iaload, 1) := by decide +kernel
theorem d_lw_law_1264 : decode code 1264 = .ok (.aload_n 0, 1) := by decide +kernel
theorem d_lw_law_1265 : decode code 1265 = .ok (.iload_n 3, 1) := by decide +kernel
theorem d_lw_law_1266 : decode code 1266 = .ok (.iconst 3, 1) := by decide +kernel
theorem d_lw_law_1267 : decode code 1267 = .ok (.iadd, 1) := by decide +kernel
theorem d_lw_law_1268 : decode code 1268 = .ok (.iaload, 1) := by decide +kernel
theorem d_lw_law_1269 : decode code 1269 = .ok (.aload_n 0, 1) := by decide +kernel
theorem d_lw_law_1270 : decode code 1270 = .ok (.iload_n 3, 1) := by decide +kernel
theorem d_lw_law_1271 : decode code 1271 = .ok (.iconst 4, 1) := by decide +kernel
theorem d_lw_law_1272 : decode code 1272 = .ok (.iadd, 1) := by decide +kernel
theorem d_lw_law_1273 : decode code 1273 = .ok (.iaload, 1) := by decide +kernel
theorem d_lw_law_1274 : decode code 1274 = .ok (.aload_n 0, 1) := by decide +kernel
theorem d_lw_law_1275 : decode code 1275 = .ok (.iload_n 3, 1) := by decide +kernel
theorem d_lw_law_1276 : decode code 1276 = .ok (.iconst 5, 1) := by decide +kernel
theorem d_lw_law_1277 : decode code 1277 = .ok (.iadd, 1) := by decide +kernel
theorem d_lw_law_1278 : decode code 1278 = .ok (.iaload, 1) := by decide +kernel
theorem d_lw_law_1279 : decode code 1279 = .ok (.invokevirtual 147, 3) := by decide +kernel
theorem d_lw_law_1282 : decode code 1282 = .ok (.if_icmp .eq 85, 3) := by decide +kernel
theorem d_lw_law_1285 : decode code 1285 = .ok (.iconst 0, 1) := by decide +kernel
theorem d_lw_law_1286 : decode code 1286 = .ok (.ireturn, 1) := by decide +kernel
theorem d_lw_law_1287 : decode code 1287 = .ok (.aload_n 1, 1) := by decide +kernel
theorem d_lw_law_1288 : decode code 1288 = .ok (.aload_n 0, 1) := by decide +kernel
theorem d_lw_law_1289 : decode code 1289 = .ok (.iload_n 3, 1) := by decide +kernel
theorem d_lw_law_1290 : decode code 1290 = .ok (.iconst 1, 1) := by decide +kernel
theorem d_lw_law_1291 : decode code 1291 = .ok (.iadd, 1) := by decide +kernel
theorem d_lw_law_1292 : decode code 1292 = .ok (.iaload, 1) := by decide +kernel
theorem d_lw_law_1293 : decode code 1293 = .ok (.aload_n 0, 1) := by decide +kernel
theorem d_lw_law_1294 : decode code 1294 = .ok (.iload_n 3, 1) := by decide +kernel
theorem d_lw_law_1295 : decode code 1295 = .ok (.iconst 2, 1) := by decide +kernel
theorem d_lw_law_1296 : decode code 1296 = .ok (.iadd, 1) := by decide +kernel
theorem d_lw_law_1297 : decode code 1297 = .ok (.iaload, 1) := by decide +kernel
theorem d_lw_law_1298 : decode code 1298 = .ok (.aload_n 0, 1) := by decide +kernel
theorem d_lw_law_1299 : decode code 1299 = .ok (.iload_n 3, 1) := by decide +kernel
theorem d_lw_law_1300 : decode code 1300 = .ok (.iconst 3, 1) := by decide +kernel
theorem d_lw_law_1301 : decode code 1301 = .ok (.iadd, 1) := by decide +kernel
theorem d_lw_law_1302 : decode code 1302 = .ok (.iaload, 1) := by decide +kernel
theorem d_lw_law_1303 : decode code 1303 = .ok (.invokevirtual 148, 3) := by decide +kernel
theorem d_lw_law_1306 : decode code 1306 = .ok (.aload_n 2, 1) := by decide +kernel
theorem d_lw_law_1307 : decode code 1307 = .ok (.aload_n 0, 1) := by decide +kernel
theorem d_lw_law_1308 : decode code 1308 = .ok (.iload_n 3, 1) := by decide +kernel
theorem d_lw_law_1309 : decode code 1309 = .ok (.iconst 1, 1) := by decide +kernel
theorem d_lw_law_1310 : decode code 1310 = .ok (.iadd, 1) := by decide +kernel
theorem d_lw_law_1311 : decode code 1311 = .ok (.iaload, 1) := by decide +kernel
theorem d_lw_law_1312 : decode code 1312 = .ok (.aload_n 0, 1) := by decide +kernel
theorem d_lw_law_1313 : decode code 1313 = .ok (.iload_n 3, 1) := by decide +kernel
theorem d_lw_law_1314 : decode code 1314 = .ok (.iconst 2, 1) := by decide +kernel
theorem d_lw_law_1315 : decode code 1315 = .ok (.iadd, 1) := by decide +kernel
theorem d_lw_law_1316 : decode code 1316 = .ok (.iaload, 1) := by decide +kernel
theorem d_lw_law_1317 : decode code 1317 = .ok (.aload_n 0, 1) := by decide +kernel
theorem d_lw_law_1318 : decode code 1318 = .ok (.iload_n 3, 1) := by decide +kernel
theorem d_lw_law_1319 : decode code 1319 = .ok (.iconst 3, 1) := by decide +kernel
theorem d_lw_law_1320 : decode code 1320 = .ok (.iadd, 1) := by decide +kernel
theorem d_lw_law_1321 : decode code 1321 = .ok (.iaload, 1) := by decide +kernel
