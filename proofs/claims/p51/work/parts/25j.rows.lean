section RW9
variable {X : XT} {L9 : Nat} {xs : Nat → Int32}
theorem d_W_law_1107 : decode mi_W_law.2.1 1107 = .ok (.aload 23, 2) := by decide +kernel
theorem d_W_law_1109 : decode mi_W_law.2.1 1109 = .ok (.iload 24, 2) := by decide +kernel
theorem d_W_law_1111 : decode mi_W_law.2.1 1111 = .ok (.iconst (-1), 1) := by decide +kernel
theorem d_W_law_1112 : decode mi_W_law.2.1 1112 = .ok (.iastore, 1) := by decide +kernel
theorem d_W_law_1113 : decode mi_W_law.2.1 1113 = .ok (.iinc 24 (1), 3) := by decide +kernel
theorem d_W_law_1116 : decode mi_W_law.2.1 1116 = .ok (.goto (-16), 3) := by decide +kernel
theorem d_W_law_1119 : decode mi_W_law.2.1 1119 = .ok (.aload 23, 2) := by decide +kernel
theorem d_W_law_1121 : decode mi_W_law.2.1 1121 = .ok (.iload 19, 2) := by decide +kernel
theorem d_W_law_1123 : decode mi_W_law.2.1 1123 = .ok (.iconst (0), 1) := by decide +kernel
theorem d_W_law_1124 : decode mi_W_law.2.1 1124 = .ok (.iastore, 1) := by decide +kernel
theorem d_W_law_1125 : decode mi_W_law.2.1 1125 = .ok (.aload 20, 2) := by decide +kernel
theorem d_W_law_1127 : decode mi_W_law.2.1 1127 = .ok (.iconst (0), 1) := by decide +kernel
theorem d_W_law_1128 : decode mi_W_law.2.1 1128 = .ok (.iload 19, 2) := by decide +kernel
theorem d_W_law_1130 : decode mi_W_law.2.1 1130 = .ok (.iastore, 1) := by decide +kernel
theorem d_W_law_1131 : decode mi_W_law.2.1 1131 = .ok (.iconst (1), 1) := by decide +kernel
theorem d_W_law_1132 : decode mi_W_law.2.1 1132 = .ok (.istore 24, 2) := by decide +kernel
theorem d_W_law_1134 : decode mi_W_law.2.1 1134 = .ok (.iconst (-1), 1) := by decide +kernel
theorem d_W_law_1135 : decode mi_W_law.2.1 1135 = .ok (.istore 25, 2) := by decide +kernel
theorem d_W_law_1137 : decode mi_W_law.2.1 1137 = .ok (.iconst (0), 1) := by decide +kernel
theorem d_W_law_1138 : decode mi_W_law.2.1 1138 = .ok (.istore 26, 2) := by decide +kernel
theorem d_W_law_1140 : decode mi_W_law.2.1 1140 = .ok (.iload 26, 2) := by decide +kernel
theorem d_W_law_1142 : decode mi_W_law.2.1 1142 = .ok (.iload 24, 2) := by decide +kernel
theorem d_W_law_1144 : decode mi_W_law.2.1 1144 = .ok (.if_icmp .ge (141), 3) := by decide +kernel
theorem d_W_law_1147 : decode mi_W_law.2.1 1147 = .ok (.iconst (0), 1) := by decide +kernel
theorem d_W_law_1148 : decode mi_W_law.2.1 1148 = .ok (.istore 27, 2) := by decide +kernel
theorem d_W_law_1150 : decode mi_W_law.2.1 1150 = .ok (.iload 27, 2) := by decide +kernel
theorem d_W_law_1152 : decode mi_W_law.2.1 1152 = .ok (.iconst (1), 1) := by decide +kernel
theorem d_W_law_1153 : decode mi_W_law.2.1 1153 = .ok (.iload_n 3, 1) := by decide +kernel
theorem d_W_law_1154 : decode mi_W_law.2.1 1154 = .ok (.ishl, 1) := by decide +kernel
theorem d_W_law_1155 : decode mi_W_law.2.1 1155 = .ok (.if_icmp .ge (124), 3) := by decide +kernel
theorem d_W_law_1158 : decode mi_W_law.2.1 1158 = .ok (.aload 20, 2) := by decide +kernel
theorem d_W_law_1160 : decode mi_W_law.2.1 1160 = .ok (.iload 26, 2) := by decide +kernel
theorem d_W_law_1162 : decode mi_W_law.2.1 1162 = .ok (.iaload, 1) := by decide +kernel
theorem d_W_law_1163 : decode mi_W_law.2.1 1163 = .ok (.iload_n 3, 1) := by decide +kernel
theorem d_W_law_1164 : decode mi_W_law.2.1 1164 = .ok (.ishl, 1) := by decide +kernel
theorem d_W_law_1165 : decode mi_W_law.2.1 1165 = .ok (.iload 27, 2) := by decide +kernel
theorem d_W_law_1167 : decode mi_W_law.2.1 1167 = .ok (.ior, 1) := by decide +kernel
theorem d_W_law_1168 : decode mi_W_law.2.1 1168 = .ok (.istore 28, 2) := by decide +kernel
theorem d_W_law_1170 : decode mi_W_law.2.1 1170 = .ok (.iload 25, 2) := by decide +kernel
theorem d_W_law_1172 : decode mi_W_law.2.1 1172 = .ok (.ifCond .ge (24), 3) := by decide +kernel
theorem d_W_law_1175 : decode mi_W_law.2.1 1175 = .ok (.aload 15, 2) := by decide +kernel
theorem d_W_law_1177 : decode mi_W_law.2.1 1177 = .ok (.iload 28, 2) := by decide +kernel
theorem d_W_law_1179 : decode mi_W_law.2.1 1179 = .ok (.baload, 1) := by decide +kernel
theorem d_W_law_1180 : decode mi_W_law.2.1 1180 = .ok (.ifCond .eq (16), 3) := by decide +kernel
theorem d_W_law_1183 : decode mi_W_law.2.1 1183 = .ok (.aload 18, 2) := by decide +kernel
theorem d_W_law_1185 : decode mi_W_law.2.1 1185 = .ok (.iload 28, 2) := by decide +kernel
theorem d_W_law_1187 : decode mi_W_law.2.1 1187 = .ok (.baload, 1) := by decide +kernel
theorem d_W_law_1188 : decode mi_W_law.2.1 1188 = .ok (.ifCond .eq (8), 3) := by decide +kernel
theorem d_W_law_1191 : decode mi_W_law.2.1 1191 = .ok (.iload 28, 2) := by decide +kernel
theorem d_W_law_1193 : decode mi_W_law.2.1 1193 = .ok (.goto (5), 3) := by decide +kernel
theorem d_W_law_1196 : decode mi_W_law.2.1 1196 = .ok (.iload 25, 2) := by decide +kernel
theorem d_W_law_1198 : decode mi_W_law.2.1 1198 = .ok (.istore 25, 2) := by decide +kernel
theorem d_W_law_1200 : decode mi_W_law.2.1 1200 = .ok (.aload 15, 2) := by decide +kernel
theorem d_W_law_1202 : decode mi_W_law.2.1 1202 = .ok (.iload 28, 2) := by decide +kernel
theorem d_W_law_1204 : decode mi_W_law.2.1 1204 = .ok (.baload, 1) := by decide +kernel
theorem d_W_law_1205 : decode mi_W_law.2.1 1205 = .ok (.ifCond .eq (68), 3) := by decide +kernel
theorem d_W_law_1208 : decode mi_W_law.2.1 1208 = .ok (.aload 23, 2) := by decide +kernel
theorem d_W_law_1210 : decode mi_W_law.2.1 1210 = .ok (.aload 17, 2) := by decide +kernel
theorem d_W_law_1212 : decode mi_W_law.2.1 1212 = .ok (.iload 28, 2) := by decide +kernel
theorem d_W_law_1214 : decode mi_W_law.2.1 1214 = .ok (.iaload, 1) := by decide +kernel
theorem d_W_law_1215 : decode mi_W_law.2.1 1215 = .ok (.iaload, 1) := by decide +kernel
theorem d_W_law_1216 : decode mi_W_law.2.1 1216 = .ok (.ifCond .ge (57), 3) := by decide +kernel
theorem d_W_law_1219 : decode mi_W_law.2.1 1219 = .ok (.aload 23, 2) := by decide +kernel
theorem d_W_law_1221 : decode mi_W_law.2.1 1221 = .ok (.aload 17, 2) := by decide +kernel
theorem d_W_law_1223 : decode mi_W_law.2.1 1223 = .ok (.iload 28, 2) := by decide +kernel
theorem d_W_law_1225 : decode mi_W_law.2.1 1225 = .ok (.iaload, 1) := by decide +kernel
theorem d_W_law_1226 : decode mi_W_law.2.1 1226 = .ok (.aload 23, 2) := by decide +kernel
theorem d_W_law_1228 : decode mi_W_law.2.1 1228 = .ok (.aload 20, 2) := by decide +kernel
theorem d_W_law_1230 : decode mi_W_law.2.1 1230 = .ok (.iload 26, 2) := by decide +kernel
theorem d_W_law_1232 : decode mi_W_law.2.1 1232 = .ok (.iaload, 1) := by decide +kernel
theorem d_W_law_1233 : decode mi_W_law.2.1 1233 = .ok (.iaload, 1) := by decide +kernel
theorem d_W_law_1234 : decode mi_W_law.2.1 1234 = .ok (.iconst (1), 1) := by decide +kernel
theorem d_W_law_1235 : decode mi_W_law.2.1 1235 = .ok (.iadd, 1) := by decide +kernel
theorem d_W_law_1236 : decode mi_W_law.2.1 1236 = .ok (.iastore, 1) := by decide +kernel
theorem d_W_law_1237 : decode mi_W_law.2.1 1237 = .ok (.aload 21, 2) := by decide +kernel
theorem d_W_law_1239 : decode mi_W_law.2.1 1239 = .ok (.aload 17, 2) := by decide +kernel
theorem d_W_law_1241 : decode mi_W_law.2.1 1241 = .ok (.iload 28, 2) := by decide +kernel
theorem d_W_law_1243 : decode mi_W_law.2.1 1243 = .ok (.iaload, 1) := by decide +kernel
theorem d_W_law_1244 : decode mi_W_law.2.1 1244 = .ok (.aload 20, 2) := by decide +kernel
theorem d_W_law_1246 : decode mi_W_law.2.1 1246 = .ok (.iload 26, 2) := by decide +kernel
theorem d_W_law_1248 : decode mi_W_law.2.1 1248 = .ok (.iaload, 1) := by decide +kernel
theorem d_W_law_1249 : decode mi_W_law.2.1 1249 = .ok (.iastore, 1) := by decide +kernel
theorem d_W_law_1250 : decode mi_W_law.2.1 1250 = .ok (.aload 22, 2) := by decide +kernel
theorem d_W_law_1252 : decode mi_W_law.2.1 1252 = .ok (.aload 17, 2) := by decide +kernel
theorem d_W_law_1254 : decode mi_W_law.2.1 1254 = .ok (.iload 28, 2) := by decide +kernel
theorem d_W_law_1256 : decode mi_W_law.2.1 1256 = .ok (.iaload, 1) := by decide +kernel
theorem d_W_law_1257 : decode mi_W_law.2.1 1257 = .ok (.iload 27, 2) := by decide +kernel
theorem d_W_law_1259 : decode mi_W_law.2.1 1259 = .ok (.iastore, 1) := by decide +kernel
theorem d_W_law_1260 : decode mi_W_law.2.1 1260 = .ok (.aload 20, 2) := by decide +kernel
theorem d_W_law_1262 : decode mi_W_law.2.1 1262 = .ok (.iload 24, 2) := by decide +kernel
theorem d_W_law_1264 : decode mi_W_law.2.1 1264 = .ok (.aload 17, 2) := by decide +kernel
theorem d_W_law_1266 : decode mi_W_law.2.1 1266 = .ok (.iload 28, 2) := by decide +kernel
theorem d_W_law_1268 : decode mi_W_law.2.1 1268 = .ok (.iaload, 1) := by decide +kernel
theorem d_W_law_1269 : decode mi_W_law.2.1 1269 = .ok (.iastore, 1) := by decide +kernel
theorem d_W_law_1270 : decode mi_W_law.2.1 1270 = .ok (.iinc 24 (1), 3) := by decide +kernel
theorem d_W_law_1273 : decode mi_W_law.2.1 1273 = .ok (.iinc 27 (1), 3) := by decide +kernel
theorem d_W_law_1276 : decode mi_W_law.2.1 1276 = .ok (.goto (-126), 3) := by decide +kernel
theorem d_W_law_1279 : decode mi_W_law.2.1 1279 = .ok (.iinc 26 (1), 3) := by decide +kernel
theorem d_W_law_1282 : decode mi_W_law.2.1 1282 = .ok (.goto (-142), 3) := by decide +kernel
theorem d_W_law_1285 : decode mi_W_law.2.1 1285 = .ok (.iload 25, 2) := by decide +kernel
theorem d_W_law_1287 : decode mi_W_law.2.1 1287 = .ok (.ifCond .ge (7), 3) := by decide +kernel
theorem d_W_law_1290 : decode mi_W_law.2.1 1290 = .ok (.iconst (-1), 1) := by decide +kernel
theorem d_W_law_1291 : decode mi_W_law.2.1 1291 = .ok (.goto (10), 3) := by decide +kernel
theorem d_W_law_1294 : decode mi_W_law.2.1 1294 = .ok (.aload 23, 2) := by decide +kernel
theorem d_W_law_1296 : decode mi_W_law.2.1 1296 = .ok (.iload 25, 2) := by decide +kernel
theorem d_W_law_1298 : decode mi_W_law.2.1 1298 = .ok (.iload_n 3, 1) := by decide +kernel
theorem d_W_law_1299 : decode mi_W_law.2.1 1299 = .ok (.ishr, 1) := by decide +kernel
theorem d_W_law_1300 : decode mi_W_law.2.1 1300 = .ok (.iaload, 1) := by decide +kernel
theorem d_W_law_1301 : decode mi_W_law.2.1 1301 = .ok (.istore 26, 2) := by decide +kernel
theorem d_W_law_1303 : decode mi_W_law.2.1 1303 = .ok (.iload_n 2, 1) := by decide +kernel
theorem d_W_law_1304 : decode mi_W_law.2.1 1304 = .ok (.aload_n 1, 1) := by decide +kernel
theorem d_W_law_1305 : decode mi_W_law.2.1 1305 = .ok (.invokestatic 152, 3) := by decide +kernel
theorem d_W_law_1308 : decode mi_W_law.2.1 1308 = .ok (.iload 24, 2) := by decide +kernel
theorem d_W_law_1310 : decode mi_W_law.2.1 1310 = .ok (.if_icmp .ne (39), 3) := by decide +kernel
theorem d_W_law_1313 : decode mi_W_law.2.1 1313 = .ok (.aload_n 1, 1) := by decide +kernel
theorem d_W_law_1314 : decode mi_W_law.2.1 1314 = .ok (.invokestatic 188, 3) := by decide +kernel
theorem d_W_law_1317 : decode mi_W_law.2.1 1317 = .ok (.iload 26, 2) := by decide +kernel
theorem d_W_law_1319 : decode mi_W_law.2.1 1319 = .ok (.if_icmp .ne (30), 3) := by decide +kernel
theorem d_W_law_1322 : decode mi_W_law.2.1 1322 = .ok (.aload_n 1, 1) := by decide +kernel
theorem d_W_law_1323 : decode mi_W_law.2.1 1323 = .ok (.iload 26, 2) := by decide +kernel
theorem d_W_law_1325 : decode mi_W_law.2.1 1325 = .ok (.iconst (1), 1) := by decide +kernel
theorem d_W_law_1326 : decode mi_W_law.2.1 1326 = .ok (.iadd, 1) := by decide +kernel
theorem d_W_law_1327 : decode mi_W_law.2.1 1327 = .ok (.invokestatic 190, 3) := by decide +kernel
theorem d_W_law_1330 : decode mi_W_law.2.1 1330 = .ok (.ldc 20, 2) := by decide +kernel
theorem d_W_law_1332 : decode mi_W_law.2.1 1332 = .ok (.if_icmp .ne (17), 3) := by decide +kernel
theorem d_W_law_1335 : decode mi_W_law.2.1 1335 = .ok (.aload_n 1, 1) := by decide +kernel
theorem d_W_law_1336 : decode mi_W_law.2.1 1336 = .ok (.iconst (-1), 1) := by decide +kernel
theorem d_W_law_1337 : decode mi_W_law.2.1 1337 = .ok (.invokestatic 190, 3) := by decide +kernel
theorem d_W_law_1340 : decode mi_W_law.2.1 1340 = .ok (.ldc 20, 2) := by decide +kernel
theorem d_W_law_1342 : decode mi_W_law.2.1 1342 = .ok (.if_icmp .ne (7), 3) := by decide +kernel
theorem d_W_law_1345 : decode mi_W_law.2.1 1345 = .ok (.iconst (1), 1) := by decide +kernel
theorem d_W_law_1346 : decode mi_W_law.2.1 1346 = .ok (.goto (4), 3) := by decide +kernel
theorem d_W_law_1349 : decode mi_W_law.2.1 1349 = .ok (.iconst (0), 1) := by decide +kernel
theorem d_W_law_1350 : decode mi_W_law.2.1 1350 = .ok (.iand, 1) := by decide +kernel
theorem d_W_law_1351 : decode mi_W_law.2.1 1351 = .ok (.istore_n 2, 1) := by decide +kernel
theorem d_W_law_1352 : decode mi_W_law.2.1 1352 = .ok (.iload 25, 2) := by decide +kernel
theorem d_W_law_1354 : decode mi_W_law.2.1 1354 = .ok (.ifCond .ge (7), 3) := by decide +kernel
theorem d_W_law_1357 : decode mi_W_law.2.1 1357 = .ok (.iconst (0), 1) := by decide +kernel
theorem d_W_law_1358 : decode mi_W_law.2.1 1358 = .ok (.goto (7), 3) := by decide +kernel
theorem d_W_law_1361 : decode mi_W_law.2.1 1361 = .ok (.iload 25, 2) := by decide +kernel
theorem d_W_law_1363 : decode mi_W_law.2.1 1363 = .ok (.iload_n 3, 1) := by decide +kernel
theorem d_W_law_1364 : decode mi_W_law.2.1 1364 = .ok (.ishr, 1) := by decide +kernel
theorem d_W_law_1365 : decode mi_W_law.2.1 1365 = .ok (.istore 27, 2) := by decide +kernel
theorem d_W_law_1367 : decode mi_W_law.2.1 1367 = .ok (.iload 25, 2) := by decide +kernel
theorem d_W_law_1369 : decode mi_W_law.2.1 1369 = .ok (.ifCond .ge (7), 3) := by decide +kernel
theorem d_W_law_1372 : decode mi_W_law.2.1 1372 = .ok (.iconst (0), 1) := by decide +kernel
theorem d_W_law_1373 : decode mi_W_law.2.1 1373 = .ok (.goto (9), 3) := by decide +kernel
theorem d_W_law_1376 : decode mi_W_law.2.1 1376 = .ok (.iload 25, 2) := by decide +kernel
theorem d_W_law_1378 : decode mi_W_law.2.1 1378 = .ok (.iconst (1), 1) := by decide +kernel
theorem d_W_law_1379 : decode mi_W_law.2.1 1379 = .ok (.iload_n 3, 1) := by decide +kernel
theorem d_W_law_1380 : decode mi_W_law.2.1 1380 = .ok (.ishl, 1) := by decide +kernel
theorem d_W_law_1381 : decode mi_W_law.2.1 1381 = .ok (.irem, 1) := by decide +kernel
theorem d_W_law_1382 : decode mi_W_law.2.1 1382 = .ok (.istore 28, 2) := by decide +kernel
theorem d_W_law_1384 : decode mi_W_law.2.1 1384 = .ok (.iload 26, 2) := by decide +kernel
theorem d_W_law_1386 : decode mi_W_law.2.1 1386 = .ok (.istore 29, 2) := by decide +kernel
theorem d_W_law_1388 : decode mi_W_law.2.1 1388 = .ok (.iload 29, 2) := by decide +kernel
theorem d_W_law_1390 : decode mi_W_law.2.1 1390 = .ok (.ifCond .lt (42), 3) := by decide +kernel
theorem d_W_law_1393 : decode mi_W_law.2.1 1393 = .ok (.iload_n 2, 1) := by decide +kernel
theorem d_W_law_1394 : decode mi_W_law.2.1 1394 = .ok (.aload_n 1, 1) := by decide +kernel
theorem d_W_law_1395 : decode mi_W_law.2.1 1395 = .ok (.iload 29, 2) := by decide +kernel
theorem d_W_law_1397 : decode mi_W_law.2.1 1397 = .ok (.invokestatic 190, 3) := by decide +kernel
theorem d_W_law_1400 : decode mi_W_law.2.1 1400 = .ok (.iload 28, 2) := by decide +kernel
theorem d_W_law_1402 : decode mi_W_law.2.1 1402 = .ok (.if_icmp .ne (7), 3) := by decide +kernel
theorem d_W_law_1405 : decode mi_W_law.2.1 1405 = .ok (.iconst (1), 1) := by decide +kernel
theorem d_W_law_1406 : decode mi_W_law.2.1 1406 = .ok (.goto (4), 3) := by decide +kernel
theorem d_W_law_1409 : decode mi_W_law.2.1 1409 = .ok (.iconst (0), 1) := by decide +kernel
theorem d_W_law_1410 : decode mi_W_law.2.1 1410 = .ok (.iand, 1) := by decide +kernel
theorem d_W_law_1411 : decode mi_W_law.2.1 1411 = .ok (.istore_n 2, 1) := by decide +kernel
theorem d_W_law_1412 : decode mi_W_law.2.1 1412 = .ok (.aload 22, 2) := by decide +kernel
theorem d_W_law_1414 : decode mi_W_law.2.1 1414 = .ok (.iload 27, 2) := by decide +kernel
theorem d_W_law_1416 : decode mi_W_law.2.1 1416 = .ok (.iaload, 1) := by decide +kernel
theorem d_W_law_1417 : decode mi_W_law.2.1 1417 = .ok (.istore 28, 2) := by decide +kernel
theorem d_W_law_1419 : decode mi_W_law.2.1 1419 = .ok (.aload 21, 2) := by decide +kernel
theorem d_W_law_1421 : decode mi_W_law.2.1 1421 = .ok (.iload 27, 2) := by decide +kernel
theorem d_W_law_1423 : decode mi_W_law.2.1 1423 = .ok (.iaload, 1) := by decide +kernel
theorem d_W_law_1424 : decode mi_W_law.2.1 1424 = .ok (.istore 27, 2) := by decide +kernel
theorem d_W_law_1426 : decode mi_W_law.2.1 1426 = .ok (.iinc 29 (-1), 3) := by decide +kernel
theorem d_W_law_1429 : decode mi_W_law.2.1 1429 = .ok (.goto (-41), 3) := by decide +kernel
theorem d_W_law_1432 : decode mi_W_law.2.1 1432 = .ok (.iload 16, 2) := by decide +kernel
theorem d_W_law_1434 : decode mi_W_law.2.1 1434 = .ok (.newarray .boolean, 2) := by decide +kernel
theorem d_W_law_1436 : decode mi_W_law.2.1 1436 = .ok (.astore 29, 2) := by decide +kernel
theorem d_W_law_1438 : decode mi_W_law.2.1 1438 = .ok (.iconst (0), 1) := by decide +kernel
theorem d_W_law_1439 : decode mi_W_law.2.1 1439 = .ok (.istore 30, 2) := by decide +kernel
theorem d_W_law_1441 : decode mi_W_law.2.1 1441 = .ok (.iload 30, 2) := by decide +kernel
theorem d_W_law_1443 : decode mi_W_law.2.1 1443 = .ok (.iload 16, 2) := by decide +kernel
theorem d_W_law_1445 : decode mi_W_law.2.1 1445 = .ok (.if_icmp .ge (15), 3) := by decide +kernel
theorem d_W_law_1448 : decode mi_W_law.2.1 1448 = .ok (.aload 29, 2) := by decide +kernel
theorem d_W_law_1450 : decode mi_W_law.2.1 1450 = .ok (.iload 30, 2) := by decide +kernel
theorem d_W_law_1452 : decode mi_W_law.2.1 1452 = .ok (.iconst (1), 1) := by decide +kernel
theorem d_W_law_1453 : decode mi_W_law.2.1 1453 = .ok (.bastore, 1) := by decide +kernel
theorem d_W_law_1454 : decode mi_W_law.2.1 1454 = .ok (.iinc 30 (1), 3) := by decide +kernel
theorem d_W_law_1457 : decode mi_W_law.2.1 1457 = .ok (.goto (-16), 3) := by decide +kernel
theorem d_W_law_1460 : decode mi_W_law.2.1 1460 = .ok (.iconst (0), 1) := by decide +kernel
theorem d_W_law_1461 : decode mi_W_law.2.1 1461 = .ok (.istore 30, 2) := by decide +kernel
theorem d_W_law_1463 : decode mi_W_law.2.1 1463 = .ok (.iload 30, 2) := by decide +kernel
theorem d_W_law_1465 : decode mi_W_law.2.1 1465 = .ok (.iconst (3), 1) := by decide +kernel
theorem d_W_law_1466 : decode mi_W_law.2.1 1466 = .ok (.if_icmp .ge (159), 3) := by decide +kernel
theorem d_W_law_1469 : decode mi_W_law.2.1 1469 = .ok (.iload 26, 2) := by decide +kernel
theorem d_W_law_1471 : decode mi_W_law.2.1 1471 = .ok (.ifCond .lt (10), 3) := by decide +kernel
theorem d_W_law_1474 : decode mi_W_law.2.1 1474 = .ok (.iload 26, 2) := by decide +kernel
theorem d_W_law_1476 : decode mi_W_law.2.1 1476 = .ok (.iload 30, 2) := by decide +kernel
theorem d_W_law_1478 : decode mi_W_law.2.1 1478 = .ok (.if_icmp .lt (7), 3) := by decide +kernel
theorem d_W_law_1481 : decode mi_W_law.2.1 1481 = .ok (.iconst (1), 1) := by decide +kernel
theorem d_W_law_1482 : decode mi_W_law.2.1 1482 = .ok (.goto (4), 3) := by decide +kernel
theorem d_W_law_1485 : decode mi_W_law.2.1 1485 = .ok (.iconst (0), 1) := by decide +kernel
theorem d_W_law_1486 : decode mi_W_law.2.1 1486 = .ok (.istore 31, 2) := by decide +kernel
theorem d_W_law_1488 : decode mi_W_law.2.1 1488 = .ok (.iload 16, 2) := by decide +kernel
theorem d_W_law_1490 : decode mi_W_law.2.1 1490 = .ok (.newarray .boolean, 2) := by decide +kernel
theorem d_W_law_1492 : decode mi_W_law.2.1 1492 = .ok (.astore 32, 2) := by decide +kernel
theorem d_W_law_1494 : decode mi_W_law.2.1 1494 = .ok (.iconst (0), 1) := by decide +kernel
theorem d_W_law_1495 : decode mi_W_law.2.1 1495 = .ok (.istore 33, 2) := by decide +kernel
theorem d_W_law_1497 : decode mi_W_law.2.1 1497 = .ok (.iload 33, 2) := by decide +kernel
theorem d_W_law_1499 : decode mi_W_law.2.1 1499 = .ok (.iload 9, 2) := by decide +kernel
theorem d_W_law_1501 : decode mi_W_law.2.1 1501 = .ok (.if_icmp .ge (87), 3) := by decide +kernel
theorem d_W_law_1504 : decode mi_W_law.2.1 1504 = .ok (.iload 31, 2) := by decide +kernel
theorem d_W_law_1506 : decode mi_W_law.2.1 1506 = .ok (.aload 29, 2) := by decide +kernel
theorem d_W_law_1508 : decode mi_W_law.2.1 1508 = .ok (.iload 33, 2) := by decide +kernel
theorem d_W_law_1510 : decode mi_W_law.2.1 1510 = .ok (.iload_n 3, 1) := by decide +kernel
theorem d_W_law_1511 : decode mi_W_law.2.1 1511 = .ok (.ishr, 1) := by decide +kernel
theorem d_W_law_1512 : decode mi_W_law.2.1 1512 = .ok (.baload, 1) := by decide +kernel
theorem d_W_law_1513 : decode mi_W_law.2.1 1513 = .ok (.ifCond .eq (19), 3) := by decide +kernel
theorem d_W_law_1516 : decode mi_W_law.2.1 1516 = .ok (.aload 15, 2) := by decide +kernel
theorem d_W_law_1518 : decode mi_W_law.2.1 1518 = .ok (.iload 33, 2) := by decide +kernel
theorem d_W_law_1520 : decode mi_W_law.2.1 1520 = .ok (.baload, 1) := by decide +kernel
theorem d_W_law_1521 : decode mi_W_law.2.1 1521 = .ok (.ifCond .eq (11), 3) := by decide +kernel
theorem d_W_law_1524 : decode mi_W_law.2.1 1524 = .ok (.aload 18, 2) := by decide +kernel
theorem d_W_law_1526 : decode mi_W_law.2.1 1526 = .ok (.iload 33, 2) := by decide +kernel
theorem d_W_law_1528 : decode mi_W_law.2.1 1528 = .ok (.baload, 1) := by decide +kernel
theorem d_W_law_1529 : decode mi_W_law.2.1 1529 = .ok (.ifCond .ne (7), 3) := by decide +kernel
theorem d_W_law_1532 : decode mi_W_law.2.1 1532 = .ok (.iconst (1), 1) := by decide +kernel
theorem d_W_law_1533 : decode mi_W_law.2.1 1533 = .ok (.goto (4), 3) := by decide +kernel
theorem d_W_law_1536 : decode mi_W_law.2.1 1536 = .ok (.iconst (0), 1) := by decide +kernel
theorem d_W_law_1537 : decode mi_W_law.2.1 1537 = .ok (.iand, 1) := by decide +kernel
theorem d_W_law_1538 : decode mi_W_law.2.1 1538 = .ok (.istore 31, 2) := by decide +kernel
theorem d_W_law_1540 : decode mi_W_law.2.1 1540 = .ok (.aload 32, 2) := by decide +kernel
theorem d_W_law_1542 : decode mi_W_law.2.1 1542 = .ok (.aload 17, 2) := by decide +kernel
theorem d_W_law_1544 : decode mi_W_law.2.1 1544 = .ok (.iload 33, 2) := by decide +kernel
theorem d_W_law_1546 : decode mi_W_law.2.1 1546 = .ok (.iaload, 1) := by decide +kernel
theorem d_W_law_1547 : decode mi_W_law.2.1 1547 = .ok (.dup2, 1) := by decide +kernel
theorem d_W_law_1548 : decode mi_W_law.2.1 1548 = .ok (.baload, 1) := by decide +kernel
theorem d_W_law_1549 : decode mi_W_law.2.1 1549 = .ok (.aload 29, 2) := by decide +kernel
theorem d_W_law_1551 : decode mi_W_law.2.1 1551 = .ok (.iload 33, 2) := by decide +kernel
theorem d_W_law_1553 : decode mi_W_law.2.1 1553 = .ok (.iload_n 3, 1) := by decide +kernel
theorem d_W_law_1554 : decode mi_W_law.2.1 1554 = .ok (.ishr, 1) := by decide +kernel
theorem d_W_law_1555 : decode mi_W_law.2.1 1555 = .ok (.baload, 1) := by decide +kernel
theorem d_W_law_1556 : decode mi_W_law.2.1 1556 = .ok (.ifCond .eq (23), 3) := by decide +kernel
theorem d_W_law_1559 : decode mi_W_law.2.1 1559 = .ok (.aload 15, 2) := by decide +kernel
theorem d_W_law_1561 : decode mi_W_law.2.1 1561 = .ok (.iload 33, 2) := by decide +kernel
theorem d_W_law_1563 : decode mi_W_law.2.1 1563 = .ok (.baload, 1) := by decide +kernel
theorem d_W_law_1564 : decode mi_W_law.2.1 1564 = .ok (.ifCond .eq (15), 3) := by decide +kernel
theorem d_W_law_1567 : decode mi_W_law.2.1 1567 = .ok (.aload 18, 2) := by decide +kernel
theorem d_W_law_1569 : decode mi_W_law.2.1 1569 = .ok (.iload 33, 2) := by decide +kernel
theorem d_W_law_1571 : decode mi_W_law.2.1 1571 = .ok (.baload, 1) := by decide +kernel
theorem d_W_law_1572 : decode mi_W_law.2.1 1572 = .ok (.ifCond .ne (7), 3) := by decide +kernel
theorem d_W_law_1575 : decode mi_W_law.2.1 1575 = .ok (.iconst (1), 1) := by decide +kernel
theorem d_W_law_1576 : decode mi_W_law.2.1 1576 = .ok (.goto (4), 3) := by decide +kernel
theorem d_W_law_1579 : decode mi_W_law.2.1 1579 = .ok (.iconst (0), 1) := by decide +kernel
theorem d_W_law_1580 : decode mi_W_law.2.1 1580 = .ok (.ior, 1) := by decide +kernel
theorem d_W_law_1581 : decode mi_W_law.2.1 1581 = .ok (.bastore, 1) := by decide +kernel
theorem d_W_law_1582 : decode mi_W_law.2.1 1582 = .ok (.iinc 33 (1), 3) := by decide +kernel
theorem d_W_law_1585 : decode mi_W_law.2.1 1585 = .ok (.goto (-88), 3) := by decide +kernel
theorem d_W_law_1588 : decode mi_W_law.2.1 1588 = .ok (.iload_n 2, 1) := by decide +kernel
theorem d_W_law_1589 : decode mi_W_law.2.1 1589 = .ok (.aload_n 1, 1) := by decide +kernel
theorem d_W_law_1590 : decode mi_W_law.2.1 1590 = .ok (.iload 30, 2) := by decide +kernel
theorem d_W_law_1592 : decode mi_W_law.2.1 1592 = .ok (.invokestatic 192, 3) := by decide +kernel
theorem d_W_law_1595 : decode mi_W_law.2.1 1595 = .ok (.iload 31, 2) := by decide +kernel
theorem d_W_law_1597 : decode mi_W_law.2.1 1597 = .ok (.ifCond .eq (7), 3) := by decide +kernel
theorem d_W_law_1600 : decode mi_W_law.2.1 1600 = .ok (.iconst (1), 1) := by decide +kernel
theorem d_W_law_1601 : decode mi_W_law.2.1 1601 = .ok (.goto (4), 3) := by decide +kernel
theorem d_W_law_1604 : decode mi_W_law.2.1 1604 = .ok (.iconst (0), 1) := by decide +kernel
theorem d_W_law_1605 : decode mi_W_law.2.1 1605 = .ok (.if_icmp .ne (7), 3) := by decide +kernel
theorem d_W_law_1608 : decode mi_W_law.2.1 1608 = .ok (.iconst (1), 1) := by decide +kernel
theorem d_W_law_1609 : decode mi_W_law.2.1 1609 = .ok (.goto (4), 3) := by decide +kernel
theorem d_W_law_1612 : decode mi_W_law.2.1 1612 = .ok (.iconst (0), 1) := by decide +kernel
theorem d_W_law_1613 : decode mi_W_law.2.1 1613 = .ok (.iand, 1) := by decide +kernel
theorem d_W_law_1614 : decode mi_W_law.2.1 1614 = .ok (.istore_n 2, 1) := by decide +kernel
theorem d_W_law_1615 : decode mi_W_law.2.1 1615 = .ok (.aload 32, 2) := by decide +kernel
theorem d_W_law_1617 : decode mi_W_law.2.1 1617 = .ok (.astore 29, 2) := by decide +kernel
theorem d_W_law_1619 : decode mi_W_law.2.1 1619 = .ok (.iinc 30 (1), 3) := by decide +kernel
theorem d_W_law_1622 : decode mi_W_law.2.1 1622 = .ok (.goto (-159), 3) := by decide +kernel
theorem d_W_law_1625 : decode mi_W_law.2.1 1625 = .ok (.iconst (0), 1) := by decide +kernel
theorem d_W_law_1626 : decode mi_W_law.2.1 1626 = .ok (.istore 30, 2) := by decide +kernel
theorem d_W_law_1628 : decode mi_W_law.2.1 1628 = .ok (.iload 30, 2) := by decide +kernel
theorem d_W_law_1630 : decode mi_W_law.2.1 1630 = .ok (.iconst (5), 1) := by decide +kernel
theorem d_W_law_1631 : decode mi_W_law.2.1 1631 = .ok (.if_icmp .ge (202), 3) := by decide +kernel
theorem d_W_law_1634 : decode mi_W_law.2.1 1634 = .ok (.aload_n 0, 1) := by decide +kernel
theorem d_W_law_1635 : decode mi_W_law.2.1 1635 = .ok (.sipush (380), 3) := by decide +kernel
theorem d_W_law_1638 : decode mi_W_law.2.1 1638 = .ok (.iload 30, 2) := by decide +kernel
theorem d_W_law_1640 : decode mi_W_law.2.1 1640 = .ok (.iadd, 1) := by decide +kernel
theorem d_W_law_1641 : decode mi_W_law.2.1 1641 = .ok (.aload 5, 2) := by decide +kernel
theorem d_W_law_1643 : decode mi_W_law.2.1 1643 = .ok (.arraylength, 1) := by decide +kernel
theorem d_W_law_1644 : decode mi_W_law.2.1 1644 = .ok (.invokestatic 104, 3) := by decide +kernel
theorem d_W_law_1647 : decode mi_W_law.2.1 1647 = .ok (.istore 31, 2) := by decide +kernel
theorem d_W_law_1649 : decode mi_W_law.2.1 1649 = .ok (.iload 16, 2) := by decide +kernel
theorem d_W_law_1651 : decode mi_W_law.2.1 1651 = .ok (.newarray .boolean, 2) := by decide +kernel
theorem d_W_law_1653 : decode mi_W_law.2.1 1653 = .ok (.astore 32, 2) := by decide +kernel
theorem d_W_law_1655 : decode mi_W_law.2.1 1655 = .ok (.iconst (0), 1) := by decide +kernel
theorem d_W_law_1656 : decode mi_W_law.2.1 1656 = .ok (.istore 33, 2) := by decide +kernel
theorem d_W_law_1658 : decode mi_W_law.2.1 1658 = .ok (.iload 33, 2) := by decide +kernel
theorem d_W_law_1660 : decode mi_W_law.2.1 1660 = .ok (.iload 16, 2) := by decide +kernel
end RW9
