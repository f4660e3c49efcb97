/-! the law's own instructions, 3 -/
theorem dL_law__1096 : decode cL_law_ 1096 = .ok (.iload 4, 2) := by decide +kernel
theorem dL_law__1098 : decode cL_law_ 1098 = .ok (.iconst 1, 1) := by decide +kernel
theorem dL_law__1099 : decode cL_law_ 1099 = .ok (.iadd, 1) := by decide +kernel
theorem dL_law__1100 : decode cL_law_ 1100 = .ok (.iaload, 1) := by decide +kernel
theorem dL_law__1101 : decode cL_law_ 1101 = .ok (.aload_n 0, 1) := by decide +kernel
theorem dL_law__1102 : decode cL_law_ 1102 = .ok (.iload 4, 2) := by decide +kernel
theorem dL_law__1104 : decode cL_law_ 1104 = .ok (.iconst 2, 1) := by decide +kernel
theorem dL_law__1105 : decode cL_law_ 1105 = .ok (.iadd, 1) := by decide +kernel
theorem dL_law__1106 : decode cL_law_ 1106 = .ok (.iaload, 1) := by decide +kernel
theorem dL_law__1107 : decode cL_law_ 1107 = .ok (.invokevirtual 188, 3) := by decide +kernel
theorem dL_law__1110 : decode cL_law_ 1110 = .ok (.istore 6, 2) := by decide +kernel
theorem dL_law__1112 : decode cL_law_ 1112 = .ok (.aload_n 2, 1) := by decide +kernel
theorem dL_law__1113 : decode cL_law_ 1113 = .ok (.invokevirtual 149, 3) := by decide +kernel
theorem dL_law__1116 : decode cL_law_ 1116 = .ok (.iload 5, 2) := by decide +kernel
theorem dL_law__1118 : decode cL_law_ 1118 = .ok (.if_icmp .eq 5, 3) := by decide +kernel
theorem dL_law__1121 : decode cL_law_ 1121 = .ok (.iconst 0, 1) := by decide +kernel
theorem dL_law__1122 : decode cL_law_ 1122 = .ok (.ireturn, 1) := by decide +kernel
theorem dL_law__1123 : decode cL_law_ 1123 = .ok (.iload 5, 2) := by decide +kernel
theorem dL_law__1125 : decode cL_law_ 1125 = .ok (.ifCond .ne 15, 3) := by decide +kernel
theorem dL_law__1128 : decode cL_law_ 1128 = .ok (.aload_n 3, 1) := by decide +kernel
theorem dL_law__1129 : decode cL_law_ 1129 = .ok (.iconst 0, 1) := by decide +kernel
theorem dL_law__1130 : decode cL_law_ 1130 = .ok (.laload, 1) := by decide +kernel
theorem dL_law__1131 : decode cL_law_ 1131 = .ok (.iload 6, 2) := by decide +kernel
theorem dL_law__1133 : decode cL_law_ 1133 = .ok (.i2l, 1) := by decide +kernel
theorem dL_law__1134 : decode cL_law_ 1134 = .ok (.lcmp, 1) := by decide +kernel
theorem dL_law__1135 : decode cL_law_ 1135 = .ok (.ifCond .eq 5, 3) := by decide +kernel
theorem dL_law__1138 : decode cL_law_ 1138 = .ok (.iconst 0, 1) := by decide +kernel
theorem dL_law__1139 : decode cL_law_ 1139 = .ok (.ireturn, 1) := by decide +kernel
theorem dL_law__1140 : decode cL_law_ 1140 = .ok (.goto 1805, 3) := by decide +kernel
theorem dL_law__1143 : decode cL_law_ 1143 = .ok (.aload_n 1, 1) := by decide +kernel
theorem dL_law__1144 : decode cL_law_ 1144 = .ok (.aload_n 0, 1) := by decide +kernel
theorem dL_law__1145 : decode cL_law_ 1145 = .ok (.iload 4, 2) := by decide +kernel
theorem dL_law__1147 : decode cL_law_ 1147 = .ok (.iconst 1, 1) := by decide +kernel
theorem dL_law__1148 : decode cL_law_ 1148 = .ok (.iadd, 1) := by decide +kernel
theorem dL_law__1149 : decode cL_law_ 1149 = .ok (.iaload, 1) := by decide +kernel
theorem dL_law__1150 : decode cL_law_ 1150 = .ok (.aload_n 0, 1) := by decide +kernel
theorem dL_law__1151 : decode cL_law_ 1151 = .ok (.iload 4, 2) := by decide +kernel
theorem dL_law__1153 : decode cL_law_ 1153 = .ok (.iconst 2, 1) := by decide +kernel
theorem dL_law__1154 : decode cL_law_ 1154 = .ok (.iadd, 1) := by decide +kernel
theorem dL_law__1155 : decode cL_law_ 1155 = .ok (.iaload, 1) := by decide +kernel
theorem dL_law__1156 : decode cL_law_ 1156 = .ok (.aload_n 3, 1) := by decide +kernel
theorem dL_law__1157 : decode cL_law_ 1157 = .ok (.invokestatic 189, 3) := by decide +kernel
theorem dL_law__1160 : decode cL_law_ 1160 = .ok (.istore 5, 2) := by decide +kernel
theorem dL_law__1162 : decode cL_law_ 1162 = .ok (.aload_n 2, 1) := by decide +kernel
theorem dL_law__1163 : decode cL_law_ 1163 = .ok (.aload_n 0, 1) := by decide +kernel
theorem dL_law__1164 : decode cL_law_ 1164 = .ok (.iload 4, 2) := by decide +kernel
theorem dL_law__1166 : decode cL_law_ 1166 = .ok (.iconst 1, 1) := by decide +kernel
theorem dL_law__1167 : decode cL_law_ 1167 = .ok (.iadd, 1) := by decide +kernel
theorem dL_law__1168 : decode cL_law_ 1168 = .ok (.iaload, 1) := by decide +kernel
theorem dL_law__1169 : decode cL_law_ 1169 = .ok (.aload_n 0, 1) := by decide +kernel
theorem dL_law__1170 : decode cL_law_ 1170 = .ok (.iload 4, 2) := by decide +kernel
theorem dL_law__1172 : decode cL_law_ 1172 = .ok (.iconst 2, 1) := by decide +kernel
theorem dL_law__1173 : decode cL_law_ 1173 = .ok (.iadd, 1) := by decide +kernel
theorem dL_law__1174 : decode cL_law_ 1174 = .ok (.iaload, 1) := by decide +kernel
theorem dL_law__1175 : decode cL_law_ 1175 = .ok (.invokevirtual 191, 3) := by decide +kernel
theorem dL_law__1178 : decode cL_law_ 1178 = .ok (.istore 6, 2) := by decide +kernel
theorem dL_law__1180 : decode cL_law_ 1180 = .ok (.aload_n 2, 1) := by decide +kernel
theorem dL_law__1181 : decode cL_law_ 1181 = .ok (.invokevirtual 149, 3) := by decide +kernel
theorem dL_law__1184 : decode cL_law_ 1184 = .ok (.iload 5, 2) := by decide +kernel
theorem dL_law__1186 : decode cL_law_ 1186 = .ok (.if_icmp .eq 5, 3) := by decide +kernel
theorem dL_law__1189 : decode cL_law_ 1189 = .ok (.iconst 0, 1) := by decide +kernel
theorem dL_law__1190 : decode cL_law_ 1190 = .ok (.ireturn, 1) := by decide +kernel
theorem dL_law__1191 : decode cL_law_ 1191 = .ok (.iload 5, 2) := by decide +kernel
theorem dL_law__1193 : decode cL_law_ 1193 = .ok (.ifCond .ne 15, 3) := by decide +kernel
theorem dL_law__1196 : decode cL_law_ 1196 = .ok (.aload_n 3, 1) := by decide +kernel
theorem dL_law__1197 : decode cL_law_ 1197 = .ok (.iconst 0, 1) := by decide +kernel
theorem dL_law__1198 : decode cL_law_ 1198 = .ok (.laload, 1) := by decide +kernel
theorem dL_law__1199 : decode cL_law_ 1199 = .ok (.iload 6, 2) := by decide +kernel
theorem dL_law__1201 : decode cL_law_ 1201 = .ok (.i2l, 1) := by decide +kernel
theorem dL_law__1202 : decode cL_law_ 1202 = .ok (.lcmp, 1) := by decide +kernel
theorem dL_law__1203 : decode cL_law_ 1203 = .ok (.ifCond .eq 5, 3) := by decide +kernel
theorem dL_law__1206 : decode cL_law_ 1206 = .ok (.iconst 0, 1) := by decide +kernel
theorem dL_law__1207 : decode cL_law_ 1207 = .ok (.ireturn, 1) := by decide +kernel
theorem dL_law__1208 : decode cL_law_ 1208 = .ok (.goto 1737, 3) := by decide +kernel
theorem dL_law__1211 : decode cL_law_ 1211 = .ok (.aload_n 1, 1) := by decide +kernel
theorem dL_law__1212 : decode cL_law_ 1212 = .ok (.aload_n 0, 1) := by decide +kernel
theorem dL_law__1213 : decode cL_law_ 1213 = .ok (.iload 4, 2) := by decide +kernel
theorem dL_law__1215 : decode cL_law_ 1215 = .ok (.iconst 1, 1) := by decide +kernel
theorem dL_law__1216 : decode cL_law_ 1216 = .ok (.iadd, 1) := by decide +kernel
theorem dL_law__1217 : decode cL_law_ 1217 = .ok (.iaload, 1) := by decide +kernel
theorem dL_law__1218 : decode cL_law_ 1218 = .ok (.aload_n 0, 1) := by decide +kernel
theorem dL_law__1219 : decode cL_law_ 1219 = .ok (.iload 4, 2) := by decide +kernel
theorem dL_law__1221 : decode cL_law_ 1221 = .ok (.iconst 2, 1) := by decide +kernel
theorem dL_law__1222 : decode cL_law_ 1222 = .ok (.iadd, 1) := by decide +kernel
theorem dL_law__1223 : decode cL_law_ 1223 = .ok (.iaload, 1) := by decide +kernel
theorem dL_law__1224 : decode cL_law_ 1224 = .ok (.aload_n 0, 1) := by decide +kernel
theorem dL_law__1225 : decode cL_law_ 1225 = .ok (.iload 4, 2) := by decide +kernel
theorem dL_law__1227 : decode cL_law_ 1227 = .ok (.iconst 3, 1) := by decide +kernel
theorem dL_law__1228 : decode cL_law_ 1228 = .ok (.iadd, 1) := by decide +kernel
theorem dL_law__1229 : decode cL_law_ 1229 = .ok (.iaload, 1) := by decide +kernel
theorem dL_law__1230 : decode cL_law_ 1230 = .ok (.ifCond .eq 7, 3) := by decide +kernel
theorem dL_law__1233 : decode cL_law_ 1233 = .ok (.iconst 1, 1) := by decide +kernel
theorem dL_law__1234 : decode cL_law_ 1234 = .ok (.goto 4, 3) := by decide +kernel
theorem dL_law__1237 : decode cL_law_ 1237 = .ok (.iconst 0, 1) := by decide +kernel
theorem dL_law__1238 : decode cL_law_ 1238 = .ok (.aload_n 3, 1) := by decide +kernel
theorem dL_law__1239 : decode cL_law_ 1239 = .ok (.invokestatic 192, 3) := by decide +kernel
theorem dL_law__1242 : decode cL_law_ 1242 = .ok (.istore 5, 2) := by decide +kernel
theorem dL_law__1244 : decode cL_law_ 1244 = .ok (.aload_n 2, 1) := by decide +kernel
theorem dL_law__1245 : decode cL_law_ 1245 = .ok (.aload_n 0, 1) := by decide +kernel
theorem dL_law__1246 : decode cL_law_ 1246 = .ok (.iload 4, 2) := by decide +kernel
theorem dL_law__1248 : decode cL_law_ 1248 = .ok (.iconst 1, 1) := by decide +kernel
theorem dL_law__1249 : decode cL_law_ 1249 = .ok (.iadd, 1) := by decide +kernel
theorem dL_law__1250 : decode cL_law_ 1250 = .ok (.iaload, 1) := by decide +kernel
theorem dL_law__1251 : decode cL_law_ 1251 = .ok (.aload_n 0, 1) := by decide +kernel
theorem dL_law__1252 : decode cL_law_ 1252 = .ok (.iload 4, 2) := by decide +kernel
theorem dL_law__1254 : decode cL_law_ 1254 = .ok (.iconst 2, 1) := by decide +kernel
theorem dL_law__1255 : decode cL_law_ 1255 = .ok (.iadd, 1) := by decide +kernel
theorem dL_law__1256 : decode cL_law_ 1256 = .ok (.iaload, 1) := by decide +kernel
theorem dL_law__1257 : decode cL_law_ 1257 = .ok (.aload_n 0, 1) := by decide +kernel
theorem dL_law__1258 : decode cL_law_ 1258 = .ok (.iload 4, 2) := by decide +kernel
theorem dL_law__1260 : decode cL_law_ 1260 = .ok (.iconst 3, 1) := by decide +kernel
theorem dL_law__1261 : decode cL_law_ 1261 = .ok (.iadd, 1) := by decide +kernel
theorem dL_law__1262 : decode cL_law_ 1262 = .ok (.iaload, 1) := by decide +kernel
theorem dL_law__1263 : decode cL_law_ 1263 = .ok (.ifCond .eq 7, 3) := by decide +kernel
theorem dL_law__1266 : decode cL_law_ 1266 = .ok (.iconst 1, 1) := by decide +kernel
theorem dL_law__1267 : decode cL_law_ 1267 = .ok (.goto 4, 3) := by decide +kernel
theorem dL_law__1270 : decode cL_law_ 1270 = .ok (.iconst 0, 1) := by decide +kernel
theorem dL_law__1271 : decode cL_law_ 1271 = .ok (.invokevirtual 195, 3) := by decide +kernel
theorem dL_law__1274 : decode cL_law_ 1274 = .ok (.istore 6, 2) := by decide +kernel
theorem dL_law__1276 : decode cL_law_ 1276 = .ok (.aload_n 2, 1) := by decide +kernel
theorem dL_law__1277 : decode cL_law_ 1277 = .ok (.invokevirtual 149, 3) := by decide +kernel
theorem dL_law__1280 : decode cL_law_ 1280 = .ok (.iload 5, 2) := by decide +kernel
theorem dL_law__1282 : decode cL_law_ 1282 = .ok (.if_icmp .eq 5, 3) := by decide +kernel
theorem dL_law__1285 : decode cL_law_ 1285 = .ok (.iconst 0, 1) := by decide +kernel
theorem dL_law__1286 : decode cL_law_ 1286 = .ok (.ireturn, 1) := by decide +kernel
theorem dL_law__1287 : decode cL_law_ 1287 = .ok (.iload 5, 2) := by decide +kernel
theorem dL_law__1289 : decode cL_law_ 1289 = .ok (.ifCond .ne 22, 3) := by decide +kernel
theorem dL_law__1292 : decode cL_law_ 1292 = .ok (.aload_n 3, 1) := by decide +kernel
theorem dL_law__1293 : decode cL_law_ 1293 = .ok (.iconst 0, 1) := by decide +kernel
theorem dL_law__1294 : decode cL_law_ 1294 = .ok (.laload, 1) := by decide +kernel
theorem dL_law__1295 : decode cL_law_ 1295 = .ok (.iload 6, 2) := by decide +kernel
theorem dL_law__1297 : decode cL_law_ 1297 = .ok (.ifCond .eq 7, 3) := by decide +kernel
theorem dL_law__1300 : decode cL_law_ 1300 = .ok (.lconst 1, 1) := by decide +kernel
theorem dL_law__1301 : decode cL_law_ 1301 = .ok (.goto 4, 3) := by decide +kernel
theorem dL_law__1304 : decode cL_law_ 1304 = .ok (.lconst 0, 1) := by decide +kernel
theorem dL_law__1305 : decode cL_law_ 1305 = .ok (.lcmp, 1) := by decide +kernel
theorem dL_law__1306 : decode cL_law_ 1306 = .ok (.ifCond .eq 5, 3) := by decide +kernel
theorem dL_law__1309 : decode cL_law_ 1309 = .ok (.iconst 0, 1) := by decide +kernel
theorem dL_law__1310 : decode cL_law_ 1310 = .ok (.ireturn, 1) := by decide +kernel
theorem dL_law__1311 : decode cL_law_ 1311 = .ok (.goto 1634, 3) := by decide +kernel
theorem dL_law__1314 : decode cL_law_ 1314 = .ok (.aload_n 1, 1) := by decide +kernel
theorem dL_law__1315 : decode cL_law_ 1315 = .ok (.aload_n 0, 1) := by decide +kernel
theorem dL_law__1316 : decode cL_law_ 1316 = .ok (.iload 4, 2) := by decide +kernel
theorem dL_law__1318 : decode cL_law_ 1318 = .ok (.iconst 1, 1) := by decide +kernel
theorem dL_law__1319 : decode cL_law_ 1319 = .ok (.iadd, 1) := by decide +kernel
theorem dL_law__1320 : decode cL_law_ 1320 = .ok (.iaload, 1) := by decide +kernel
theorem dL_law__1321 : decode cL_law_ 1321 = .ok (.aload_n 3, 1) := by decide +kernel
theorem dL_law__1322 : decode cL_law_ 1322 = .ok (.invokestatic 196, 3) := by decide +kernel
theorem dL_law__1325 : decode cL_law_ 1325 = .ok (.istore 5, 2) := by decide +kernel
theorem dL_law__1327 : decode cL_law_ 1327 = .ok (.aload_n 2, 1) := by decide +kernel
theorem dL_law__1328 : decode cL_law_ 1328 = .ok (.aload_n 0, 1) := by decide +kernel
theorem dL_law__1329 : decode cL_law_ 1329 = .ok (.iload 4, 2) := by decide +kernel
theorem dL_law__1331 : decode cL_law_ 1331 = .ok (.iconst 1, 1) := by decide +kernel
theorem dL_law__1332 : decode cL_law_ 1332 = .ok (.iadd, 1) := by decide +kernel
theorem dL_law__1333 : decode cL_law_ 1333 = .ok (.iaload, 1) := by decide +kernel
theorem dL_law__1334 : decode cL_law_ 1334 = .ok (.invokevirtual 199, 3) := by decide +kernel
theorem dL_law__1337 : decode cL_law_ 1337 = .ok (.istore 6, 2) := by decide +kernel
theorem dL_law__1339 : decode cL_law_ 1339 = .ok (.aload_n 2, 1) := by decide +kernel
theorem dL_law__1340 : decode cL_law_ 1340 = .ok (.invokevirtual 149, 3) := by decide +kernel
theorem dL_law__1343 : decode cL_law_ 1343 = .ok (.iload 5, 2) := by decide +kernel
theorem dL_law__1345 : decode cL_law_ 1345 = .ok (.if_icmp .eq 5, 3) := by decide +kernel
theorem dL_law__1348 : decode cL_law_ 1348 = .ok (.iconst 0, 1) := by decide +kernel
theorem dL_law__1349 : decode cL_law_ 1349 = .ok (.ireturn, 1) := by decide +kernel
theorem dL_law__1350 : decode cL_law_ 1350 = .ok (.iload 5, 2) := by decide +kernel
theorem dL_law__1352 : decode cL_law_ 1352 = .ok (.ifCond .ne 15, 3) := by decide +kernel
theorem dL_law__1355 : decode cL_law_ 1355 = .ok (.aload_n 3, 1) := by decide +kernel
theorem dL_law__1356 : decode cL_law_ 1356 = .ok (.iconst 0, 1) := by decide +kernel
theorem dL_law__1357 : decode cL_law_ 1357 = .ok (.laload, 1) := by decide +kernel
theorem dL_law__1358 : decode cL_law_ 1358 = .ok (.iload 6, 2) := by decide +kernel
theorem dL_law__1360 : decode cL_law_ 1360 = .ok (.i2l, 1) := by decide +kernel
theorem dL_law__1361 : decode cL_law_ 1361 = .ok (.lcmp, 1) := by decide +kernel
theorem dL_law__1362 : decode cL_law_ 1362 = .ok (.ifCond .eq 5, 3) := by decide +kernel
theorem dL_law__1365 : decode cL_law_ 1365 = .ok (.iconst 0, 1) := by decide +kernel
theorem dL_law__1366 : decode cL_law_ 1366 = .ok (.ireturn, 1) := by decide +kernel
theorem dL_law__1367 : decode cL_law_ 1367 = .ok (.goto 1578, 3) := by decide +kernel
theorem dL_law__1370 : decode cL_law_ 1370 = .ok (.aload_n 1, 1) := by decide +kernel
theorem dL_law__1371 : decode cL_law_ 1371 = .ok (.aload_n 0, 1) := by decide +kernel
theorem dL_law__1372 : decode cL_law_ 1372 = .ok (.iload 4, 2) := by decide +kernel
theorem dL_law__1374 : decode cL_law_ 1374 = .ok (.iconst 1, 1) := by decide +kernel
theorem dL_law__1375 : decode cL_law_ 1375 = .ok (.iadd, 1) := by decide +kernel
theorem dL_law__1376 : decode cL_law_ 1376 = .ok (.iaload, 1) := by decide +kernel
theorem dL_law__1377 : decode cL_law_ 1377 = .ok (.aload_n 0, 1) := by decide +kernel
theorem dL_law__1378 : decode cL_law_ 1378 = .ok (.iload 4, 2) := by decide +kernel
theorem dL_law__1380 : decode cL_law_ 1380 = .ok (.iconst 2, 1) := by decide +kernel
theorem dL_law__1381 : decode cL_law_ 1381 = .ok (.iadd, 1) := by decide +kernel
theorem dL_law__1382 : decode cL_law_ 1382 = .ok (.iaload, 1) := by decide +kernel
theorem dL_law__1383 : decode cL_law_ 1383 = .ok (.aload_n 0, 1) := by decide +kernel
theorem dL_law__1384 : decode cL_law_ 1384 = .ok (.iload 4, 2) := by decide +kernel
theorem dL_law__1386 : decode cL_law_ 1386 = .ok (.iconst 3, 1) := by decide +kernel
theorem dL_law__1387 : decode cL_law_ 1387 = .ok (.iadd, 1) := by decide +kernel
theorem dL_law__1388 : decode cL_law_ 1388 = .ok (.iaload, 1) := by decide +kernel
theorem dL_law__1389 : decode cL_law_ 1389 = .ok (.aload_n 0, 1) := by decide +kernel
theorem dL_law__1390 : decode cL_law_ 1390 = .ok (.iload 4, 2) := by decide +kernel
theorem dL_law__1392 : decode cL_law_ 1392 = .ok (.iconst 4, 1) := by decide +kernel
theorem dL_law__1393 : decode cL_law_ 1393 = .ok (.iadd, 1) := by decide +kernel
theorem dL_law__1394 : decode cL_law_ 1394 = .ok (.iaload, 1) := by decide +kernel
theorem dL_law__1395 : decode cL_law_ 1395 = .ok (.ifCond .eq 7, 3) := by decide +kernel
theorem dL_law__1398 : decode cL_law_ 1398 = .ok (.iconst 1, 1) := by decide +kernel
theorem dL_law__1399 : decode cL_law_ 1399 = .ok (.goto 4, 3) := by decide +kernel
theorem dL_law__1402 : decode cL_law_ 1402 = .ok (.iconst 0, 1) := by decide +kernel
theorem dL_law__1403 : decode cL_law_ 1403 = .ok (.aload_n 3, 1) := by decide +kernel
theorem dL_law__1404 : decode cL_law_ 1404 = .ok (.invokestatic 200, 3) := by decide +kernel
theorem dL_law__1407 : decode cL_law_ 1407 = .ok (.istore 5, 2) := by decide +kernel
theorem dL_law__1409 : decode cL_law_ 1409 = .ok (.aload_n 2, 1) := by decide +kernel
theorem dL_law__1410 : decode cL_law_ 1410 = .ok (.aload_n 0, 1) := by decide +kernel
theorem dL_law__1411 : decode cL_law_ 1411 = .ok (.iload 4, 2) := by decide +kernel
theorem dL_law__1413 : decode cL_law_ 1413 = .ok (.iconst 1, 1) := by decide +kernel
theorem dL_law__1414 : decode cL_law_ 1414 = .ok (.iadd, 1) := by decide +kernel
theorem dL_law__1415 : decode cL_law_ 1415 = .ok (.iaload, 1) := by decide +kernel
theorem dL_law__1416 : decode cL_law_ 1416 = .ok (.aload_n 0, 1) := by decide +kernel
theorem dL_law__1417 : decode cL_law_ 1417 = .ok (.iload 4, 2) := by decide +kernel
theorem dL_law__1419 : decode cL_law_ 1419 = .ok (.iconst 2, 1) := by decide +kernel
theorem dL_law__1420 : decode cL_law_ 1420 = .ok (.iadd, 1) := by decide +kernel
theorem dL_law__1421 : decode cL_law_ 1421 = .ok (.iaload, 1) := by decide +kernel
theorem dL_law__1422 : decode cL_law_ 1422 = .ok (.aload_n 0, 1) := by decide +kernel
theorem dL_law__1423 : decode cL_law_ 1423 = .ok (.iload 4, 2) := by decide +kernel
theorem dL_law__1425 : decode cL_law_ 1425 = .ok (.iconst 3, 1) := by decide +kernel
theorem dL_law__1426 : decode cL_law_ 1426 = .ok (.iadd, 1) := by decide +kernel
theorem dL_law__1427 : decode cL_law_ 1427 = .ok (.iaload, 1) := by decide +kernel
theorem dL_law__1428 : decode cL_law_ 1428 = .ok (.aload_n 0, 1) := by decide +kernel
theorem dL_law__1429 : decode cL_law_ 1429 = .ok (.iload 4, 2) := by decide +kernel
theorem dL_law__1431 : decode cL_law_ 1431 = .ok (.iconst 4, 1) := by decide +kernel
theorem dL_law__1432 : decode cL_law_ 1432 = .ok (.iadd, 1) := by decide +kernel
theorem dL_law__1433 : decode cL_law_ 1433 = .ok (.iaload, 1) := by decide +kernel
theorem dL_law__1434 : decode cL_law_ 1434 = .ok (.ifCond .eq 7, 3) := by decide +kernel
theorem dL_law__1437 : decode cL_law_ 1437 = .ok (.iconst 1, 1) := by decide +kernel
theorem dL_law__1438 : decode cL_law_ 1438 = .ok (.goto 4, 3) := by decide +kernel
theorem dL_law__1441 : decode cL_law_ 1441 = .ok (.iconst 0, 1) := by decide +kernel
theorem dL_law__1442 : decode cL_law_ 1442 = .ok (.invokevirtual 202, 3) := by decide +kernel
theorem dL_law__1445 : decode cL_law_ 1445 = .ok (.istore 6, 2) := by decide +kernel
theorem dL_law__1447 : decode cL_law_ 1447 = .ok (.aload_n 2, 1) := by decide +kernel
theorem dL_law__1448 : decode cL_law_ 1448 = .ok (.invokevirtual 149, 3) := by decide +kernel
theorem dL_law__1451 : decode cL_law_ 1451 = .ok (.iload 5, 2) := by decide +kernel
theorem dL_law__1453 : decode cL_law_ 1453 = .ok (.if_icmp .eq 5, 3) := by decide +kernel
theorem dL_law__1456 : decode cL_law_ 1456 = .ok (.iconst 0, 1) := by decide +kernel
theorem dL_law__1457 : decode cL_law_ 1457 = .ok (.ireturn, 1) := by decide +kernel
theorem dL_law__1458 : decode cL_law_ 1458 = .ok (.iload 5, 2) := by decide +kernel
theorem dL_law__1460 : decode cL_law_ 1460 = .ok (.ifCond .ne 15, 3) := by decide +kernel
theorem dL_law__1463 : decode cL_law_ 1463 = .ok (.aload_n 3, 1) := by decide +kernel
theorem dL_law__1464 : decode cL_law_ 1464 = .ok (.iconst 0, 1) := by decide +kernel
theorem dL_law__1465 : decode cL_law_ 1465 = .ok (.laload, 1) := by decide +kernel
theorem dL_law__1466 : decode cL_law_ 1466 = .ok (.iload 6, 2) := by decide +kernel
theorem dL_law__1468 : decode cL_law_ 1468 = .ok (.i2l, 1) := by decide +kernel
theorem dL_law__1469 : decode cL_law_ 1469 = .ok (.lcmp, 1) := by decide +kernel
theorem dL_law__1470 : decode cL_law_ 1470 = .ok (.ifCond .eq 5, 3) := by decide +kernel
theorem dL_law__1473 : decode cL_law_ 1473 = .ok (.iconst 0, 1) := by decide +kernel
theorem dL_law__1474 : decode cL_law_ 1474 = .ok (.ireturn, 1) := by decide +kernel
theorem dL_law__1475 : decode cL_law_ 1475 = .ok (.goto 1470, 3) := by decide +kernel
theorem dL_law__1478 : decode cL_law_ 1478 = .ok (.aload_n 1, 1) := by decide +kernel
theorem dL_law__1479 : decode cL_law_ 1479 = .ok (.aload_n 0, 1) := by decide +kernel
theorem dL_law__1480 : decode cL_law_ 1480 = .ok (.iload 4, 2) := by decide +kernel
theorem dL_law__1482 : decode cL_law_ 1482 = .ok (.iconst 1, 1) := by decide +kernel
theorem dL_law__1483 : decode cL_law_ 1483 = .ok (.iadd, 1) := by decide +kernel
theorem dL_law__1484 : decode cL_law_ 1484 = .ok (.iaload, 1) := by decide +kernel
theorem dL_law__1485 : decode cL_law_ 1485 = .ok (.aload_n 0, 1) := by decide +kernel
theorem dL_law__1486 : decode cL_law_ 1486 = .ok (.iload 4, 2) := by decide +kernel
theorem dL_law__1488 : decode cL_law_ 1488 = .ok (.iconst 2, 1) := by decide +kernel
theorem dL_law__1489 : decode cL_law_ 1489 = .ok (.iadd, 1) := by decide +kernel
theorem dL_law__1490 : decode cL_law_ 1490 = .ok (.iaload, 1) := by decide +kernel
theorem dL_law__1491 : decode cL_law_ 1491 = .ok (.aload_n 3, 1) := by decide +kernel
theorem dL_law__1492 : decode cL_law_ 1492 = .ok (.invokestatic 203, 3) := by decide +kernel
theorem dL_law__1495 : decode cL_law_ 1495 = .ok (.istore 5, 2) := by decide +kernel
theorem dL_law__1497 : decode cL_law_ 1497 = .ok (.aload_n 2, 1) := by decide +kernel
theorem dL_law__1498 : decode cL_law_ 1498 = .ok (.aload_n 0, 1) := by decide +kernel
theorem dL_law__1499 : decode cL_law_ 1499 = .ok (.iload 4, 2) := by decide +kernel
theorem dL_law__1501 : decode cL_law_ 1501 = .ok (.iconst 1, 1) := by decide +kernel
theorem dL_law__1502 : decode cL_law_ 1502 = .ok (.iadd, 1) := by decide +kernel
theorem dL_law__1503 : decode cL_law_ 1503 = .ok (.iaload, 1) := by decide +kernel
theorem dL_law__1504 : decode cL_law_ 1504 = .ok (.aload_n 0, 1) := by decide +kernel
theorem dL_law__1505 : decode cL_law_ 1505 = .ok (.iload 4, 2) := by decide +kernel
theorem dL_law__1507 : decode cL_law_ 1507 = .ok (.iconst 2, 1) := by decide +kernel
theorem dL_law__1508 : decode cL_law_ 1508 = .ok (.iadd, 1) := by decide +kernel
theorem dL_law__1509 : decode cL_law_ 1509 = .ok (.iaload, 1) := by decide +kernel
theorem dL_law__1510 : decode cL_law_ 1510 = .ok (.invokevirtual 205, 3) := by decide +kernel
theorem dL_law__1513 : decode cL_law_ 1513 = .ok (.istore 6, 2) := by decide +kernel
theorem dL_law__1515 : decode cL_law_ 1515 = .ok (.aload_n 2, 1) := by decide +kernel
theorem dL_law__1516 : decode cL_law_ 1516 = .ok (.invokevirtual 149, 3) := by decide +kernel
theorem dL_law__1519 : decode cL_law_ 1519 = .ok (.iload 5, 2) := by decide +kernel
theorem dL_law__1521 : decode cL_law_ 1521 = .ok (.if_icmp .eq 5, 3) := by decide +kernel
theorem dL_law__1524 : decode cL_law_ 1524 = .ok (.iconst 0, 1) := by decide +kernel
theorem dL_law__1525 : decode cL_law_ 1525 = .ok (.ireturn, 1) := by decide +kernel
theorem dL_law__1526 : decode cL_law_ 1526 = .ok (.iload 5, 2) := by decide +kernel
theorem dL_law__1528 : decode cL_law_ 1528 = .ok (.ifCond .ne 15, 3) := by decide +kernel
theorem dL_law__1531 : decode cL_law_ 1531 = .ok (.aload_n 3, 1) := by decide +kernel
theorem dL_law__1532 : decode cL_law_ 1532 = .ok (.iconst 0, 1) := by decide +kernel
theorem dL_law__1533 : decode cL_law_ 1533 = .ok (.laload, 1) := by decide +kernel
theorem dL_law__1534 : decode cL_law_ 1534 = .ok (.iload 6, 2) := by decide +kernel
theorem dL_law__1536 : decode cL_law_ 1536 = .ok (.i2l, 1) := by decide +kernel
theorem dL_law__1537 : decode cL_law_ 1537 = .ok (.lcmp, 1) := by decide +kernel
theorem dL_law__1538 : decode cL_law_ 1538 = .ok (.ifCond .eq 5, 3) := by decide +kernel
theorem dL_law__1541 : decode cL_law_ 1541 = .ok (.iconst 0, 1) := by decide +kernel
theorem dL_law__1542 : decode cL_law_ 1542 = .ok (.ireturn, 1) := by decide +kernel
theorem dL_law__1543 : decode cL_law_ 1543 = .ok (.goto 1402, 3) := by decide +kernel
theorem dL_law__1546 : decode cL_law_ 1546 = .ok (.aload_n 1, 1) := by decide +kernel
theorem dL_law__1547 : decode cL_law_ 1547 = .ok (.aload_n 0, 1) := by decide +kernel
theorem dL_law__1548 : decode cL_law_ 1548 = .ok (.iload 4, 2) := by decide +kernel
theorem dL_law__1550 : decode cL_law_ 1550 = .ok (.iconst 1, 1) := by decide +kernel
theorem dL_law__1551 : decode cL_law_ 1551 = .ok (.iadd, 1) := by decide +kernel
theorem dL_law__1552 : decode cL_law_ 1552 = .ok (.iaload, 1) := by decide +kernel
theorem dL_law__1553 : decode cL_law_ 1553 = .ok (.aload_n 0, 1) := by decide +kernel
