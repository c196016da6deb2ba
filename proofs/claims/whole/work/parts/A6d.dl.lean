/-! ===== DECODE ROWS OF THE LAW (printed by wip/gen/law.py) ===== -/
theorem dl_1155 : decode code 1155 = .ok (.iaload, 1) := by decide +kernel
theorem dl_1156 : decode code 1156 = .ok (.invokevirtual 120, 3) := by decide +kernel
theorem dl_1159 : decode code 1159 = .ok (.if_icmp .eq 353, 3) := by decide +kernel
theorem dl_1164 : decode code 1164 = .ok (.aload_n 1, 1) := by decide +kernel
theorem dl_1165 : decode code 1165 = .ok (.aload_n 0, 1) := by decide +kernel
theorem dl_1166 : decode code 1166 = .ok (.iload 4, 2) := by decide +kernel
theorem dl_1168 : decode code 1168 = .ok (.iconst 1, 1) := by decide +kernel
theorem dl_1169 : decode code 1169 = .ok (.iadd, 1) := by decide +kernel
theorem dl_1170 : decode code 1170 = .ok (.iaload, 1) := by decide +kernel
theorem dl_1171 : decode code 1171 = .ok (.invokevirtual 121, 3) := by decide +kernel
theorem dl_1174 : decode code 1174 = .ok (.aload_n 2, 1) := by decide +kernel
theorem dl_1175 : decode code 1175 = .ok (.aload_n 0, 1) := by decide +kernel
theorem dl_1176 : decode code 1176 = .ok (.iload 4, 2) := by decide +kernel
theorem dl_1178 : decode code 1178 = .ok (.iconst 1, 1) := by decide +kernel
theorem dl_1179 : decode code 1179 = .ok (.iadd, 1) := by decide +kernel
theorem dl_1180 : decode code 1180 = .ok (.iaload, 1) := by decide +kernel
theorem dl_1181 : decode code 1181 = .ok (.invokevirtual 124, 3) := by decide +kernel
theorem dl_1184 : decode code 1184 = .ok (.if_icmp .eq 328, 3) := by decide +kernel
theorem dl_1189 : decode code 1189 = .ok (.aload_n 1, 1) := by decide +kernel
theorem dl_1190 : decode code 1190 = .ok (.aload_n 0, 1) := by decide +kernel
theorem dl_1191 : decode code 1191 = .ok (.iload 4, 2) := by decide +kernel
theorem dl_1193 : decode code 1193 = .ok (.iconst 1, 1) := by decide +kernel
theorem dl_1194 : decode code 1194 = .ok (.iadd, 1) := by decide +kernel
theorem dl_1195 : decode code 1195 = .ok (.iaload, 1) := by decide +kernel
theorem dl_1196 : decode code 1196 = .ok (.aload_n 0, 1) := by decide +kernel
theorem dl_1197 : decode code 1197 = .ok (.iload 4, 2) := by decide +kernel
theorem dl_1199 : decode code 1199 = .ok (.iconst 2, 1) := by decide +kernel
theorem dl_1200 : decode code 1200 = .ok (.iadd, 1) := by decide +kernel
theorem dl_1201 : decode code 1201 = .ok (.iaload, 1) := by decide +kernel
theorem dl_1202 : decode code 1202 = .ok (.aload_n 3, 1) := by decide +kernel
theorem dl_1203 : decode code 1203 = .ok (.invokestatic 125, 3) := by decide +kernel
theorem dl_1206 : decode code 1206 = .ok (.istore 5, 2) := by decide +kernel
theorem dl_1208 : decode code 1208 = .ok (.aload_n 2, 1) := by decide +kernel
theorem dl_1209 : decode code 1209 = .ok (.aload_n 0, 1) := by decide +kernel
theorem dl_1210 : decode code 1210 = .ok (.iload 4, 2) := by decide +kernel
theorem dl_1212 : decode code 1212 = .ok (.iconst 1, 1) := by decide +kernel
theorem dl_1213 : decode code 1213 = .ok (.iadd, 1) := by decide +kernel
theorem dl_1214 : decode code 1214 = .ok (.iaload, 1) := by decide +kernel
theorem dl_1215 : decode code 1215 = .ok (.aload_n 0, 1) := by decide +kernel
theorem dl_1216 : decode code 1216 = .ok (.iload 4, 2) := by decide +kernel
theorem dl_1218 : decode code 1218 = .ok (.iconst 2, 1) := by decide +kernel
theorem dl_1219 : decode code 1219 = .ok (.iadd, 1) := by decide +kernel
theorem dl_1220 : decode code 1220 = .ok (.iaload, 1) := by decide +kernel
theorem dl_1221 : decode code 1221 = .ok (.invokevirtual 130, 3) := by decide +kernel
theorem dl_1224 : decode code 1224 = .ok (.istore 6, 2) := by decide +kernel
theorem dl_1226 : decode code 1226 = .ok (.aload_n 2, 1) := by decide +kernel
theorem dl_1227 : decode code 1227 = .ok (.invokevirtual 131, 3) := by decide +kernel
theorem dl_1230 : decode code 1230 = .ok (.iload 5, 2) := by decide +kernel
theorem dl_1232 : decode code 1232 = .ok (.if_icmp .eq 5, 3) := by decide +kernel
theorem dl_1237 : decode code 1237 = .ok (.iload 5, 2) := by decide +kernel
theorem dl_1239 : decode code 1239 = .ok (.ifCond .ne 15, 3) := by decide +kernel
theorem dl_1242 : decode code 1242 = .ok (.aload_n 3, 1) := by decide +kernel
theorem dl_1243 : decode code 1243 = .ok (.iconst 0, 1) := by decide +kernel
theorem dl_1244 : decode code 1244 = .ok (.laload, 1) := by decide +kernel
theorem dl_1245 : decode code 1245 = .ok (.iload 6, 2) := by decide +kernel
theorem dl_1247 : decode code 1247 = .ok (.i2l, 1) := by decide +kernel
theorem dl_1248 : decode code 1248 = .ok (.lcmp, 1) := by decide +kernel
theorem dl_1249 : decode code 1249 = .ok (.ifCond .eq 5, 3) := by decide +kernel
theorem dl_1254 : decode code 1254 = .ok (.goto 258, 3) := by decide +kernel
theorem dl_1257 : decode code 1257 = .ok (.aload_n 1, 1) := by decide +kernel
theorem dl_1258 : decode code 1258 = .ok (.aload_n 0, 1) := by decide +kernel
theorem dl_1259 : decode code 1259 = .ok (.iload 4, 2) := by decide +kernel
theorem dl_1261 : decode code 1261 = .ok (.iconst 1, 1) := by decide +kernel
theorem dl_1262 : decode code 1262 = .ok (.iadd, 1) := by decide +kernel
theorem dl_1263 : decode code 1263 = .ok (.iaload, 1) := by decide +kernel
theorem dl_1264 : decode code 1264 = .ok (.aload_n 0, 1) := by decide +kernel
theorem dl_1265 : decode code 1265 = .ok (.iload 4, 2) := by decide +kernel
theorem dl_1267 : decode code 1267 = .ok (.iconst 2, 1) := by decide +kernel
theorem dl_1268 : decode code 1268 = .ok (.iadd, 1) := by decide +kernel
theorem dl_1269 : decode code 1269 = .ok (.iaload, 1) := by decide +kernel
theorem dl_1270 : decode code 1270 = .ok (.aload_n 3, 1) := by decide +kernel
theorem dl_1271 : decode code 1271 = .ok (.invokestatic 134, 3) := by decide +kernel
theorem dl_1274 : decode code 1274 = .ok (.istore 5, 2) := by decide +kernel
theorem dl_1276 : decode code 1276 = .ok (.aload_n 2, 1) := by decide +kernel
theorem dl_1277 : decode code 1277 = .ok (.aload_n 0, 1) := by decide +kernel
theorem dl_1278 : decode code 1278 = .ok (.iload 4, 2) := by decide +kernel
theorem dl_1280 : decode code 1280 = .ok (.iconst 1, 1) := by decide +kernel
theorem dl_1281 : decode code 1281 = .ok (.iadd, 1) := by decide +kernel
theorem dl_1282 : decode code 1282 = .ok (.iaload, 1) := by decide +kernel
theorem dl_1283 : decode code 1283 = .ok (.aload_n 0, 1) := by decide +kernel
theorem dl_1284 : decode code 1284 = .ok (.iload 4, 2) := by decide +kernel
theorem dl_1286 : decode code 1286 = .ok (.iconst 2, 1) := by decide +kernel
theorem dl_1287 : decode code 1287 = .ok (.iadd, 1) := by decide +kernel
theorem dl_1288 : decode code 1288 = .ok (.iaload, 1) := by decide +kernel
theorem dl_1289 : decode code 1289 = .ok (.invokevirtual 136, 3) := by decide +kernel
theorem dl_1292 : decode code 1292 = .ok (.istore 6, 2) := by decide +kernel
theorem dl_1294 : decode code 1294 = .ok (.aload_n 2, 1) := by decide +kernel
theorem dl_1295 : decode code 1295 = .ok (.invokevirtual 131, 3) := by decide +kernel
theorem dl_1298 : decode code 1298 = .ok (.iload 5, 2) := by decide +kernel
theorem dl_1300 : decode code 1300 = .ok (.if_icmp .eq 5, 3) := by decide +kernel
theorem dl_1305 : decode code 1305 = .ok (.iload 5, 2) := by decide +kernel
theorem dl_1307 : decode code 1307 = .ok (.ifCond .ne 15, 3) := by decide +kernel
theorem dl_1310 : decode code 1310 = .ok (.aload_n 3, 1) := by decide +kernel
theorem dl_1311 : decode code 1311 = .ok (.iconst 0, 1) := by decide +kernel
theorem dl_1312 : decode code 1312 = .ok (.laload, 1) := by decide +kernel
theorem dl_1313 : decode code 1313 = .ok (.iload 6, 2) := by decide +kernel
theorem dl_1315 : decode code 1315 = .ok (.i2l, 1) := by decide +kernel
theorem dl_1316 : decode code 1316 = .ok (.lcmp, 1) := by decide +kernel
theorem dl_1317 : decode code 1317 = .ok (.ifCond .eq 5, 3) := by decide +kernel
theorem dl_1322 : decode code 1322 = .ok (.goto 190, 3) := by decide +kernel
theorem dl_1325 : decode code 1325 = .ok (.aload_n 1, 1) := by decide +kernel
theorem dl_1326 : decode code 1326 = .ok (.aload_n 0, 1) := by decide +kernel
theorem dl_1327 : decode code 1327 = .ok (.iload 4, 2) := by decide +kernel
theorem dl_1329 : decode code 1329 = .ok (.iconst 1, 1) := by decide +kernel
theorem dl_1330 : decode code 1330 = .ok (.iadd, 1) := by decide +kernel
theorem dl_1331 : decode code 1331 = .ok (.iaload, 1) := by decide +kernel
theorem dl_1332 : decode code 1332 = .ok (.aload_n 0, 1) := by decide +kernel
theorem dl_1333 : decode code 1333 = .ok (.iload 4, 2) := by decide +kernel
theorem dl_1335 : decode code 1335 = .ok (.iconst 2, 1) := by decide +kernel
theorem dl_1336 : decode code 1336 = .ok (.iadd, 1) := by decide +kernel
theorem dl_1337 : decode code 1337 = .ok (.iaload, 1) := by decide +kernel
theorem dl_1338 : decode code 1338 = .ok (.invokevirtual 137, 3) := by decide +kernel
theorem dl_1341 : decode code 1341 = .ok (.aload_n 2, 1) := by decide +kernel
theorem dl_1342 : decode code 1342 = .ok (.aload_n 0, 1) := by decide +kernel
theorem dl_1343 : decode code 1343 = .ok (.iload 4, 2) := by decide +kernel
theorem dl_1345 : decode code 1345 = .ok (.iconst 1, 1) := by decide +kernel
theorem dl_1346 : decode code 1346 = .ok (.iadd, 1) := by decide +kernel
theorem dl_1347 : decode code 1347 = .ok (.iaload, 1) := by decide +kernel
theorem dl_1348 : decode code 1348 = .ok (.aload_n 0, 1) := by decide +kernel
theorem dl_1349 : decode code 1349 = .ok (.iload 4, 2) := by decide +kernel
theorem dl_1351 : decode code 1351 = .ok (.iconst 2, 1) := by decide +kernel
theorem dl_1352 : decode code 1352 = .ok (.iadd, 1) := by decide +kernel
theorem dl_1353 : decode code 1353 = .ok (.iaload, 1) := by decide +kernel
theorem dl_1354 : decode code 1354 = .ok (.invokevirtual 140, 3) := by decide +kernel
theorem dl_1357 : decode code 1357 = .ok (.if_icmp .eq 155, 3) := by decide +kernel
theorem dl_1362 : decode code 1362 = .ok (.aload_n 1, 1) := by decide +kernel
theorem dl_1363 : decode code 1363 = .ok (.invokevirtual 141, 3) := by decide +kernel
theorem dl_1366 : decode code 1366 = .ok (.aload_n 2, 1) := by decide +kernel
theorem dl_1367 : decode code 1367 = .ok (.invokevirtual 144, 3) := by decide +kernel
theorem dl_1370 : decode code 1370 = .ok (.if_icmp .eq 142, 3) := by decide +kernel
theorem dl_1375 : decode code 1375 = .ok (.aload_n 1, 1) := by decide +kernel
theorem dl_1376 : decode code 1376 = .ok (.aload_n 0, 1) := by decide +kernel
theorem dl_1377 : decode code 1377 = .ok (.iload 4, 2) := by decide +kernel
theorem dl_1379 : decode code 1379 = .ok (.iconst 1, 1) := by decide +kernel
theorem dl_1380 : decode code 1380 = .ok (.iadd, 1) := by decide +kernel
theorem dl_1381 : decode code 1381 = .ok (.iaload, 1) := by decide +kernel
theorem dl_1382 : decode code 1382 = .ok (.aload_n 0, 1) := by decide +kernel
theorem dl_1383 : decode code 1383 = .ok (.iload 4, 2) := by decide +kernel
theorem dl_1385 : decode code 1385 = .ok (.iconst 2, 1) := by decide +kernel
theorem dl_1386 : decode code 1386 = .ok (.iadd, 1) := by decide +kernel
theorem dl_1387 : decode code 1387 = .ok (.iaload, 1) := by decide +kernel
theorem dl_1388 : decode code 1388 = .ok (.aload_n 0, 1) := by decide +kernel
theorem dl_1389 : decode code 1389 = .ok (.iload 4, 2) := by decide +kernel
theorem dl_1391 : decode code 1391 = .ok (.iconst 3, 1) := by decide +kernel
theorem dl_1392 : decode code 1392 = .ok (.iadd, 1) := by decide +kernel
theorem dl_1393 : decode code 1393 = .ok (.iaload, 1) := by decide +kernel
theorem dl_1394 : decode code 1394 = .ok (.aload_n 0, 1) := by decide +kernel
theorem dl_1395 : decode code 1395 = .ok (.iload 4, 2) := by decide +kernel
theorem dl_1397 : decode code 1397 = .ok (.iconst 4, 1) := by decide +kernel
theorem dl_1398 : decode code 1398 = .ok (.iadd, 1) := by decide +kernel
theorem dl_1399 : decode code 1399 = .ok (.iaload, 1) := by decide +kernel
theorem dl_1400 : decode code 1400 = .ok (.aload_n 0, 1) := by decide +kernel
theorem dl_1401 : decode code 1401 = .ok (.iload 4, 2) := by decide +kernel
theorem dl_1403 : decode code 1403 = .ok (.iconst 5, 1) := by decide +kernel
theorem dl_1404 : decode code 1404 = .ok (.iadd, 1) := by decide +kernel
theorem dl_1405 : decode code 1405 = .ok (.iaload, 1) := by decide +kernel
theorem dl_1406 : decode code 1406 = .ok (.aload_n 0, 1) := by decide +kernel
theorem dl_1407 : decode code 1407 = .ok (.iload 4, 2) := by decide +kernel
theorem dl_1409 : decode code 1409 = .ok (.bipush 6, 2) := by decide +kernel
theorem dl_1411 : decode code 1411 = .ok (.iadd, 1) := by decide +kernel
theorem dl_1412 : decode code 1412 = .ok (.iaload, 1) := by decide +kernel
theorem dl_1413 : decode code 1413 = .ok (.invokevirtual 145, 3) := by decide +kernel
theorem dl_1416 : decode code 1416 = .ok (.aload_n 2, 1) := by decide +kernel
theorem dl_1417 : decode code 1417 = .ok (.aload_n 0, 1) := by decide +kernel
theorem dl_1418 : decode code 1418 = .ok (.iload 4, 2) := by decide +kernel
theorem dl_1420 : decode code 1420 = .ok (.iconst 1, 1) := by decide +kernel
theorem dl_1421 : decode code 1421 = .ok (.iadd, 1) := by decide +kernel
theorem dl_1422 : decode code 1422 = .ok (.iaload, 1) := by decide +kernel
theorem dl_1423 : decode code 1423 = .ok (.aload_n 0, 1) := by decide +kernel
theorem dl_1424 : decode code 1424 = .ok (.iload 4, 2) := by decide +kernel
theorem dl_1426 : decode code 1426 = .ok (.iconst 2, 1) := by decide +kernel
theorem dl_1427 : decode code 1427 = .ok (.iadd, 1) := by decide +kernel
theorem dl_1428 : decode code 1428 = .ok (.iaload, 1) := by decide +kernel
theorem dl_1429 : decode code 1429 = .ok (.aload_n 0, 1) := by decide +kernel
theorem dl_1430 : decode code 1430 = .ok (.iload 4, 2) := by decide +kernel
theorem dl_1432 : decode code 1432 = .ok (.iconst 3, 1) := by decide +kernel
theorem dl_1433 : decode code 1433 = .ok (.iadd, 1) := by decide +kernel
theorem dl_1434 : decode code 1434 = .ok (.iaload, 1) := by decide +kernel
theorem dl_1435 : decode code 1435 = .ok (.aload_n 0, 1) := by decide +kernel
theorem dl_1436 : decode code 1436 = .ok (.iload 4, 2) := by decide +kernel
theorem dl_1438 : decode code 1438 = .ok (.iconst 4, 1) := by decide +kernel
theorem dl_1439 : decode code 1439 = .ok (.iadd, 1) := by decide +kernel
theorem dl_1440 : decode code 1440 = .ok (.iaload, 1) := by decide +kernel
theorem dl_1441 : decode code 1441 = .ok (.aload_n 0, 1) := by decide +kernel
theorem dl_1442 : decode code 1442 = .ok (.iload 4, 2) := by decide +kernel
theorem dl_1444 : decode code 1444 = .ok (.iconst 5, 1) := by decide +kernel
theorem dl_1445 : decode code 1445 = .ok (.iadd, 1) := by decide +kernel
theorem dl_1446 : decode code 1446 = .ok (.iaload, 1) := by decide +kernel
theorem dl_1447 : decode code 1447 = .ok (.aload_n 0, 1) := by decide +kernel
theorem dl_1448 : decode code 1448 = .ok (.iload 4, 2) := by decide +kernel
theorem dl_1450 : decode code 1450 = .ok (.bipush 6, 2) := by decide +kernel
theorem dl_1452 : decode code 1452 = .ok (.iadd, 1) := by decide +kernel
theorem dl_1453 : decode code 1453 = .ok (.iaload, 1) := by decide +kernel
theorem dl_1454 : decode code 1454 = .ok (.invokevirtual 149, 3) := by decide +kernel
theorem dl_1457 : decode code 1457 = .ok (.if_icmp .eq 55, 3) := by decide +kernel
theorem dl_1462 : decode code 1462 = .ok (.aload_n 1, 1) := by decide +kernel
theorem dl_1463 : decode code 1463 = .ok (.aload_n 0, 1) := by decide +kernel
theorem dl_1464 : decode code 1464 = .ok (.iload 4, 2) := by decide +kernel
theorem dl_1466 : decode code 1466 = .ok (.iconst 1, 1) := by decide +kernel
theorem dl_1467 : decode code 1467 = .ok (.iadd, 1) := by decide +kernel
theorem dl_1468 : decode code 1468 = .ok (.iaload, 1) := by decide +kernel
theorem dl_1469 : decode code 1469 = .ok (.invokevirtual 150, 3) := by decide +kernel
theorem dl_1472 : decode code 1472 = .ok (.aload_n 2, 1) := by decide +kernel
theorem dl_1473 : decode code 1473 = .ok (.aload_n 0, 1) := by decide +kernel
theorem dl_1474 : decode code 1474 = .ok (.iload 4, 2) := by decide +kernel
theorem dl_1476 : decode code 1476 = .ok (.iconst 1, 1) := by decide +kernel
theorem dl_1477 : decode code 1477 = .ok (.iadd, 1) := by decide +kernel
theorem dl_1478 : decode code 1478 = .ok (.iaload, 1) := by decide +kernel
theorem dl_1479 : decode code 1479 = .ok (.invokevirtual 153, 3) := by decide +kernel
theorem dl_1482 : decode code 1482 = .ok (.if_icmp .eq 30, 3) := by decide +kernel
theorem dl_1487 : decode code 1487 = .ok (.aload_n 1, 1) := by decide +kernel
theorem dl_1488 : decode code 1488 = .ok (.aload_n 0, 1) := by decide +kernel
theorem dl_1489 : decode code 1489 = .ok (.iload 4, 2) := by decide +kernel
theorem dl_1491 : decode code 1491 = .ok (.iconst 1, 1) := by decide +kernel
theorem dl_1492 : decode code 1492 = .ok (.iadd, 1) := by decide +kernel
theorem dl_1493 : decode code 1493 = .ok (.iaload, 1) := by decide +kernel
theorem dl_1494 : decode code 1494 = .ok (.invokevirtual 154, 3) := by decide +kernel
theorem dl_1497 : decode code 1497 = .ok (.aload_n 2, 1) := by decide +kernel
theorem dl_1498 : decode code 1498 = .ok (.aload_n 0, 1) := by decide +kernel
theorem dl_1499 : decode code 1499 = .ok (.iload 4, 2) := by decide +kernel
theorem dl_1501 : decode code 1501 = .ok (.iconst 1, 1) := by decide +kernel
theorem dl_1502 : decode code 1502 = .ok (.iadd, 1) := by decide +kernel
theorem dl_1503 : decode code 1503 = .ok (.iaload, 1) := by decide +kernel
theorem dl_1504 : decode code 1504 = .ok (.invokevirtual 157, 3) := by decide +kernel
theorem dl_1507 : decode code 1507 = .ok (.if_icmp .eq 5, 3) := by decide +kernel
theorem dl_1512 : decode code 1512 = .ok (.iinc 4 9, 3) := by decide +kernel
theorem dl_1515 : decode code 1515 = .ok (.goto (-1492), 3) := by decide +kernel
theorem dl_1518 : decode code 1518 = .ok (.iconst 1, 1) := by decide +kernel
theorem dl_1519 : decode code 1519 = .ok (.ireturn, 1) := by decide +kernel
