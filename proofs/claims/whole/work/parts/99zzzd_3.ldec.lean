/-! the law decoded -/
theorem dL_1135 : decode code 1135 = .ok (.iaload, 1) := by decide +kernel
theorem dL_1136 : decode code 1136 = .ok (.aload_n 0, 1) := by decide +kernel
theorem dL_1137 : decode code 1137 = .ok (.iload_n 3, 1) := by decide +kernel
theorem dL_1138 : decode code 1138 = .ok (.iconst 3, 1) := by decide +kernel
theorem dL_1139 : decode code 1139 = .ok (.iadd, 1) := by decide +kernel
theorem dL_1140 : decode code 1140 = .ok (.iaload, 1) := by decide +kernel
theorem dL_1141 : decode code 1141 = .ok (.aload_n 0, 1) := by decide +kernel
theorem dL_1142 : decode code 1142 = .ok (.iload_n 3, 1) := by decide +kernel
theorem dL_1143 : decode code 1143 = .ok (.iconst 4, 1) := by decide +kernel
theorem dL_1144 : decode code 1144 = .ok (.iadd, 1) := by decide +kernel
theorem dL_1145 : decode code 1145 = .ok (.iaload, 1) := by decide +kernel
theorem dL_1146 : decode code 1146 = .ok (.invokevirtual 151, 3) := by decide +kernel
theorem dL_1149 : decode code 1149 = .ok (.if_icmp .eq 298, 3) := by decide +kernel
theorem dL_1154 : decode code 1154 = .ok (.aload_n 1, 1) := by decide +kernel
theorem dL_1155 : decode code 1155 = .ok (.aload_n 0, 1) := by decide +kernel
theorem dL_1156 : decode code 1156 = .ok (.iload_n 3, 1) := by decide +kernel
theorem dL_1157 : decode code 1157 = .ok (.iconst 1, 1) := by decide +kernel
theorem dL_1158 : decode code 1158 = .ok (.iadd, 1) := by decide +kernel
theorem dL_1159 : decode code 1159 = .ok (.iaload, 1) := by decide +kernel
theorem dL_1160 : decode code 1160 = .ok (.invokevirtual 152, 3) := by decide +kernel
theorem dL_1163 : decode code 1163 = .ok (.aload_n 2, 1) := by decide +kernel
theorem dL_1164 : decode code 1164 = .ok (.aload_n 0, 1) := by decide +kernel
theorem dL_1165 : decode code 1165 = .ok (.iload_n 3, 1) := by decide +kernel
theorem dL_1166 : decode code 1166 = .ok (.iconst 1, 1) := by decide +kernel
theorem dL_1167 : decode code 1167 = .ok (.iadd, 1) := by decide +kernel
theorem dL_1168 : decode code 1168 = .ok (.iaload, 1) := by decide +kernel
theorem dL_1169 : decode code 1169 = .ok (.invokevirtual 155, 3) := by decide +kernel
theorem dL_1172 : decode code 1172 = .ok (.if_icmp .eq 275, 3) := by decide +kernel
theorem dL_1177 : decode code 1177 = .ok (.aload_n 1, 1) := by decide +kernel
theorem dL_1178 : decode code 1178 = .ok (.aload_n 0, 1) := by decide +kernel
theorem dL_1179 : decode code 1179 = .ok (.iload_n 3, 1) := by decide +kernel
theorem dL_1180 : decode code 1180 = .ok (.iconst 1, 1) := by decide +kernel
theorem dL_1181 : decode code 1181 = .ok (.iadd, 1) := by decide +kernel
theorem dL_1182 : decode code 1182 = .ok (.iaload, 1) := by decide +kernel
theorem dL_1183 : decode code 1183 = .ok (.aload_n 0, 1) := by decide +kernel
theorem dL_1184 : decode code 1184 = .ok (.iload_n 3, 1) := by decide +kernel
theorem dL_1185 : decode code 1185 = .ok (.iconst 2, 1) := by decide +kernel
theorem dL_1186 : decode code 1186 = .ok (.iadd, 1) := by decide +kernel
theorem dL_1187 : decode code 1187 = .ok (.iaload, 1) := by decide +kernel
theorem dL_1188 : decode code 1188 = .ok (.invokevirtual 156, 3) := by decide +kernel
theorem dL_1191 : decode code 1191 = .ok (.aload_n 2, 1) := by decide +kernel
theorem dL_1192 : decode code 1192 = .ok (.aload_n 0, 1) := by decide +kernel
theorem dL_1193 : decode code 1193 = .ok (.iload_n 3, 1) := by decide +kernel
theorem dL_1194 : decode code 1194 = .ok (.iconst 1, 1) := by decide +kernel
theorem dL_1195 : decode code 1195 = .ok (.iadd, 1) := by decide +kernel
theorem dL_1196 : decode code 1196 = .ok (.iaload, 1) := by decide +kernel
theorem dL_1197 : decode code 1197 = .ok (.aload_n 0, 1) := by decide +kernel
theorem dL_1198 : decode code 1198 = .ok (.iload_n 3, 1) := by decide +kernel
theorem dL_1199 : decode code 1199 = .ok (.iconst 2, 1) := by decide +kernel
theorem dL_1200 : decode code 1200 = .ok (.iadd, 1) := by decide +kernel
theorem dL_1201 : decode code 1201 = .ok (.iaload, 1) := by decide +kernel
theorem dL_1202 : decode code 1202 = .ok (.invokevirtual 159, 3) := by decide +kernel
theorem dL_1205 : decode code 1205 = .ok (.if_icmp .eq 242, 3) := by decide +kernel
theorem dL_1210 : decode code 1210 = .ok (.aload_n 1, 1) := by decide +kernel
theorem dL_1211 : decode code 1211 = .ok (.aload_n 0, 1) := by decide +kernel
theorem dL_1212 : decode code 1212 = .ok (.iload_n 3, 1) := by decide +kernel
theorem dL_1213 : decode code 1213 = .ok (.iconst 1, 1) := by decide +kernel
theorem dL_1214 : decode code 1214 = .ok (.iadd, 1) := by decide +kernel
theorem dL_1215 : decode code 1215 = .ok (.iaload, 1) := by decide +kernel
theorem dL_1216 : decode code 1216 = .ok (.aload_n 0, 1) := by decide +kernel
theorem dL_1217 : decode code 1217 = .ok (.iload_n 3, 1) := by decide +kernel
theorem dL_1218 : decode code 1218 = .ok (.iconst 2, 1) := by decide +kernel
theorem dL_1219 : decode code 1219 = .ok (.iadd, 1) := by decide +kernel
theorem dL_1220 : decode code 1220 = .ok (.iaload, 1) := by decide +kernel
theorem dL_1221 : decode code 1221 = .ok (.invokevirtual 160, 3) := by decide +kernel
theorem dL_1224 : decode code 1224 = .ok (.aload_n 2, 1) := by decide +kernel
theorem dL_1225 : decode code 1225 = .ok (.aload_n 0, 1) := by decide +kernel
theorem dL_1226 : decode code 1226 = .ok (.iload_n 3, 1) := by decide +kernel
theorem dL_1227 : decode code 1227 = .ok (.iconst 1, 1) := by decide +kernel
theorem dL_1228 : decode code 1228 = .ok (.iadd, 1) := by decide +kernel
theorem dL_1229 : decode code 1229 = .ok (.iaload, 1) := by decide +kernel
theorem dL_1230 : decode code 1230 = .ok (.aload_n 0, 1) := by decide +kernel
theorem dL_1231 : decode code 1231 = .ok (.iload_n 3, 1) := by decide +kernel
theorem dL_1232 : decode code 1232 = .ok (.iconst 2, 1) := by decide +kernel
theorem dL_1233 : decode code 1233 = .ok (.iadd, 1) := by decide +kernel
theorem dL_1234 : decode code 1234 = .ok (.iaload, 1) := by decide +kernel
theorem dL_1235 : decode code 1235 = .ok (.invokevirtual 163, 3) := by decide +kernel
theorem dL_1238 : decode code 1238 = .ok (.if_icmp .eq 209, 3) := by decide +kernel
theorem dL_1243 : decode code 1243 = .ok (.aload_n 1, 1) := by decide +kernel
theorem dL_1244 : decode code 1244 = .ok (.aload_n 0, 1) := by decide +kernel
theorem dL_1245 : decode code 1245 = .ok (.iload_n 3, 1) := by decide +kernel
theorem dL_1246 : decode code 1246 = .ok (.iconst 1, 1) := by decide +kernel
theorem dL_1247 : decode code 1247 = .ok (.iadd, 1) := by decide +kernel
theorem dL_1248 : decode code 1248 = .ok (.iaload, 1) := by decide +kernel
theorem dL_1249 : decode code 1249 = .ok (.invokevirtual 164, 3) := by decide +kernel
theorem dL_1252 : decode code 1252 = .ok (.aload_n 2, 1) := by decide +kernel
theorem dL_1253 : decode code 1253 = .ok (.aload_n 0, 1) := by decide +kernel
theorem dL_1254 : decode code 1254 = .ok (.iload_n 3, 1) := by decide +kernel
theorem dL_1255 : decode code 1255 = .ok (.iconst 1, 1) := by decide +kernel
theorem dL_1256 : decode code 1256 = .ok (.iadd, 1) := by decide +kernel
theorem dL_1257 : decode code 1257 = .ok (.iaload, 1) := by decide +kernel
theorem dL_1258 : decode code 1258 = .ok (.invokevirtual 167, 3) := by decide +kernel
theorem dL_1261 : decode code 1261 = .ok (.if_icmp .eq 186, 3) := by decide +kernel
theorem dL_1266 : decode code 1266 = .ok (.aload_n 1, 1) := by decide +kernel
theorem dL_1267 : decode code 1267 = .ok (.aload_n 0, 1) := by decide +kernel
theorem dL_1268 : decode code 1268 = .ok (.iload_n 3, 1) := by decide +kernel
theorem dL_1269 : decode code 1269 = .ok (.iconst 1, 1) := by decide +kernel
theorem dL_1270 : decode code 1270 = .ok (.iadd, 1) := by decide +kernel
theorem dL_1271 : decode code 1271 = .ok (.iaload, 1) := by decide +kernel
theorem dL_1272 : decode code 1272 = .ok (.aload_n 0, 1) := by decide +kernel
theorem dL_1273 : decode code 1273 = .ok (.iload_n 3, 1) := by decide +kernel
theorem dL_1274 : decode code 1274 = .ok (.iconst 2, 1) := by decide +kernel
theorem dL_1275 : decode code 1275 = .ok (.iadd, 1) := by decide +kernel
theorem dL_1276 : decode code 1276 = .ok (.iaload, 1) := by decide +kernel
theorem dL_1277 : decode code 1277 = .ok (.invokevirtual 168, 3) := by decide +kernel
theorem dL_1280 : decode code 1280 = .ok (.aload_n 2, 1) := by decide +kernel
theorem dL_1281 : decode code 1281 = .ok (.aload_n 0, 1) := by decide +kernel
theorem dL_1282 : decode code 1282 = .ok (.iload_n 3, 1) := by decide +kernel
theorem dL_1283 : decode code 1283 = .ok (.iconst 1, 1) := by decide +kernel
theorem dL_1284 : decode code 1284 = .ok (.iadd, 1) := by decide +kernel
theorem dL_1285 : decode code 1285 = .ok (.iaload, 1) := by decide +kernel
theorem dL_1286 : decode code 1286 = .ok (.aload_n 0, 1) := by decide +kernel
theorem dL_1287 : decode code 1287 = .ok (.iload_n 3, 1) := by decide +kernel
theorem dL_1288 : decode code 1288 = .ok (.iconst 2, 1) := by decide +kernel
theorem dL_1289 : decode code 1289 = .ok (.iadd, 1) := by decide +kernel
theorem dL_1290 : decode code 1290 = .ok (.iaload, 1) := by decide +kernel
theorem dL_1291 : decode code 1291 = .ok (.invokevirtual 171, 3) := by decide +kernel
theorem dL_1294 : decode code 1294 = .ok (.if_icmp .eq 153, 3) := by decide +kernel
theorem dL_1299 : decode code 1299 = .ok (.aload_n 1, 1) := by decide +kernel
theorem dL_1300 : decode code 1300 = .ok (.aload_n 0, 1) := by decide +kernel
theorem dL_1301 : decode code 1301 = .ok (.iload_n 3, 1) := by decide +kernel
theorem dL_1302 : decode code 1302 = .ok (.iconst 1, 1) := by decide +kernel
theorem dL_1303 : decode code 1303 = .ok (.iadd, 1) := by decide +kernel
theorem dL_1304 : decode code 1304 = .ok (.iaload, 1) := by decide +kernel
theorem dL_1305 : decode code 1305 = .ok (.aload_n 0, 1) := by decide +kernel
theorem dL_1306 : decode code 1306 = .ok (.iload_n 3, 1) := by decide +kernel
theorem dL_1307 : decode code 1307 = .ok (.iconst 2, 1) := by decide +kernel
theorem dL_1308 : decode code 1308 = .ok (.iadd, 1) := by decide +kernel
theorem dL_1309 : decode code 1309 = .ok (.iaload, 1) := by decide +kernel
theorem dL_1310 : decode code 1310 = .ok (.invokevirtual 172, 3) := by decide +kernel
theorem dL_1313 : decode code 1313 = .ok (.aload_n 2, 1) := by decide +kernel
theorem dL_1314 : decode code 1314 = .ok (.aload_n 0, 1) := by decide +kernel
theorem dL_1315 : decode code 1315 = .ok (.iload_n 3, 1) := by decide +kernel
theorem dL_1316 : decode code 1316 = .ok (.iconst 1, 1) := by decide +kernel
theorem dL_1317 : decode code 1317 = .ok (.iadd, 1) := by decide +kernel
theorem dL_1318 : decode code 1318 = .ok (.iaload, 1) := by decide +kernel
theorem dL_1319 : decode code 1319 = .ok (.aload_n 0, 1) := by decide +kernel
theorem dL_1320 : decode code 1320 = .ok (.iload_n 3, 1) := by decide +kernel
theorem dL_1321 : decode code 1321 = .ok (.iconst 2, 1) := by decide +kernel
theorem dL_1322 : decode code 1322 = .ok (.iadd, 1) := by decide +kernel
theorem dL_1323 : decode code 1323 = .ok (.iaload, 1) := by decide +kernel
theorem dL_1324 : decode code 1324 = .ok (.invokevirtual 175, 3) := by decide +kernel
theorem dL_1327 : decode code 1327 = .ok (.if_icmp .eq 120, 3) := by decide +kernel
theorem dL_1332 : decode code 1332 = .ok (.aload_n 1, 1) := by decide +kernel
theorem dL_1333 : decode code 1333 = .ok (.aload_n 0, 1) := by decide +kernel
theorem dL_1334 : decode code 1334 = .ok (.iload_n 3, 1) := by decide +kernel
theorem dL_1335 : decode code 1335 = .ok (.iconst 1, 1) := by decide +kernel
theorem dL_1336 : decode code 1336 = .ok (.iadd, 1) := by decide +kernel
theorem dL_1337 : decode code 1337 = .ok (.iaload, 1) := by decide +kernel
theorem dL_1338 : decode code 1338 = .ok (.aload_n 0, 1) := by decide +kernel
theorem dL_1339 : decode code 1339 = .ok (.iload_n 3, 1) := by decide +kernel
theorem dL_1340 : decode code 1340 = .ok (.iconst 2, 1) := by decide +kernel
theorem dL_1341 : decode code 1341 = .ok (.iadd, 1) := by decide +kernel
theorem dL_1342 : decode code 1342 = .ok (.iaload, 1) := by decide +kernel
theorem dL_1343 : decode code 1343 = .ok (.invokevirtual 176, 3) := by decide +kernel
theorem dL_1346 : decode code 1346 = .ok (.aload_n 2, 1) := by decide +kernel
theorem dL_1347 : decode code 1347 = .ok (.aload_n 0, 1) := by decide +kernel
theorem dL_1348 : decode code 1348 = .ok (.iload_n 3, 1) := by decide +kernel
theorem dL_1349 : decode code 1349 = .ok (.iconst 1, 1) := by decide +kernel
theorem dL_1350 : decode code 1350 = .ok (.iadd, 1) := by decide +kernel
theorem dL_1351 : decode code 1351 = .ok (.iaload, 1) := by decide +kernel
theorem dL_1352 : decode code 1352 = .ok (.aload_n 0, 1) := by decide +kernel
theorem dL_1353 : decode code 1353 = .ok (.iload_n 3, 1) := by decide +kernel
theorem dL_1354 : decode code 1354 = .ok (.iconst 2, 1) := by decide +kernel
theorem dL_1355 : decode code 1355 = .ok (.iadd, 1) := by decide +kernel
theorem dL_1356 : decode code 1356 = .ok (.iaload, 1) := by decide +kernel
theorem dL_1357 : decode code 1357 = .ok (.invokevirtual 179, 3) := by decide +kernel
theorem dL_1360 : decode code 1360 = .ok (.if_icmp .eq 87, 3) := by decide +kernel
theorem dL_1365 : decode code 1365 = .ok (.aload_n 1, 1) := by decide +kernel
theorem dL_1366 : decode code 1366 = .ok (.aload_n 0, 1) := by decide +kernel
theorem dL_1367 : decode code 1367 = .ok (.iload_n 3, 1) := by decide +kernel
theorem dL_1368 : decode code 1368 = .ok (.iconst 1, 1) := by decide +kernel
theorem dL_1369 : decode code 1369 = .ok (.iadd, 1) := by decide +kernel
theorem dL_1370 : decode code 1370 = .ok (.iaload, 1) := by decide +kernel
theorem dL_1371 : decode code 1371 = .ok (.invokevirtual 180, 3) := by decide +kernel
theorem dL_1374 : decode code 1374 = .ok (.aload_n 2, 1) := by decide +kernel
theorem dL_1375 : decode code 1375 = .ok (.aload_n 0, 1) := by decide +kernel
theorem dL_1376 : decode code 1376 = .ok (.iload_n 3, 1) := by decide +kernel
theorem dL_1377 : decode code 1377 = .ok (.iconst 1, 1) := by decide +kernel
theorem dL_1378 : decode code 1378 = .ok (.iadd, 1) := by decide +kernel
theorem dL_1379 : decode code 1379 = .ok (.iaload, 1) := by decide +kernel
theorem dL_1380 : decode code 1380 = .ok (.invokevirtual 183, 3) := by decide +kernel
theorem dL_1383 : decode code 1383 = .ok (.if_icmp .eq 64, 3) := by decide +kernel
theorem dL_1388 : decode code 1388 = .ok (.aload_n 1, 1) := by decide +kernel
theorem dL_1389 : decode code 1389 = .ok (.aload_n 0, 1) := by decide +kernel
theorem dL_1390 : decode code 1390 = .ok (.iload_n 3, 1) := by decide +kernel
theorem dL_1391 : decode code 1391 = .ok (.iconst 1, 1) := by decide +kernel
theorem dL_1392 : decode code 1392 = .ok (.iadd, 1) := by decide +kernel
theorem dL_1393 : decode code 1393 = .ok (.iaload, 1) := by decide +kernel
theorem dL_1394 : decode code 1394 = .ok (.invokevirtual 184, 3) := by decide +kernel
theorem dL_1397 : decode code 1397 = .ok (.aload_n 2, 1) := by decide +kernel
theorem dL_1398 : decode code 1398 = .ok (.aload_n 0, 1) := by decide +kernel
theorem dL_1399 : decode code 1399 = .ok (.iload_n 3, 1) := by decide +kernel
theorem dL_1400 : decode code 1400 = .ok (.iconst 1, 1) := by decide +kernel
theorem dL_1401 : decode code 1401 = .ok (.iadd, 1) := by decide +kernel
theorem dL_1402 : decode code 1402 = .ok (.iaload, 1) := by decide +kernel
theorem dL_1403 : decode code 1403 = .ok (.invokevirtual 187, 3) := by decide +kernel
theorem dL_1406 : decode code 1406 = .ok (.if_icmp .eq 41, 3) := by decide +kernel
theorem dL_1411 : decode code 1411 = .ok (.aload_n 1, 1) := by decide +kernel
theorem dL_1412 : decode code 1412 = .ok (.aload_n 0, 1) := by decide +kernel
theorem dL_1413 : decode code 1413 = .ok (.iload_n 3, 1) := by decide +kernel
theorem dL_1414 : decode code 1414 = .ok (.iconst 1, 1) := by decide +kernel
theorem dL_1415 : decode code 1415 = .ok (.iadd, 1) := by decide +kernel
theorem dL_1416 : decode code 1416 = .ok (.iaload, 1) := by decide +kernel
theorem dL_1417 : decode code 1417 = .ok (.invokevirtual 188, 3) := by decide +kernel
theorem dL_1420 : decode code 1420 = .ok (.aload_n 2, 1) := by decide +kernel
theorem dL_1421 : decode code 1421 = .ok (.aload_n 0, 1) := by decide +kernel
theorem dL_1422 : decode code 1422 = .ok (.iload_n 3, 1) := by decide +kernel
theorem dL_1423 : decode code 1423 = .ok (.iconst 1, 1) := by decide +kernel
theorem dL_1424 : decode code 1424 = .ok (.iadd, 1) := by decide +kernel
theorem dL_1425 : decode code 1425 = .ok (.iaload, 1) := by decide +kernel
theorem dL_1426 : decode code 1426 = .ok (.invokevirtual 191, 3) := by decide +kernel
theorem dL_1429 : decode code 1429 = .ok (.if_icmp .eq 18, 3) := by decide +kernel
theorem dL_1434 : decode code 1434 = .ok (.aload_n 1, 1) := by decide +kernel
theorem dL_1435 : decode code 1435 = .ok (.invokevirtual 192, 3) := by decide +kernel
theorem dL_1438 : decode code 1438 = .ok (.aload_n 2, 1) := by decide +kernel
theorem dL_1439 : decode code 1439 = .ok (.invokevirtual 195, 3) := by decide +kernel
theorem dL_1442 : decode code 1442 = .ok (.if_icmp .eq 5, 3) := by decide +kernel
theorem dL_1447 : decode code 1447 = .ok (.iinc 3 6, 3) := by decide +kernel
theorem dL_1450 : decode code 1450 = .ok (.goto (-1432), 3) := by decide +kernel
theorem dL_1453 : decode code 1453 = .ok (.iconst 1, 1) := by decide +kernel
theorem dL_1454 : decode code 1454 = .ok (.ireturn, 1) := by decide +kernel
