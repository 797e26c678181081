theorem dL_1230 : decode code 1230 = .ok (.iload_n 3, 1) := by decide +kernel
theorem dL_1231 : decode code 1231 = .ok (.iconst 1, 1) := by decide +kernel
theorem dL_1232 : decode code 1232 = .ok (.iadd, 1) := by decide +kernel
theorem dL_1233 : decode code 1233 = .ok (.iaload, 1) := by decide +kernel
theorem dL_1234 : decode code 1234 = .ok (.aload_n 0, 1) := by decide +kernel
theorem dL_1235 : decode code 1235 = .ok (.iload_n 3, 1) := by decide +kernel
theorem dL_1236 : decode code 1236 = .ok (.iconst 2, 1) := by decide +kernel
theorem dL_1237 : decode code 1237 = .ok (.iadd, 1) := by decide +kernel
theorem dL_1238 : decode code 1238 = .ok (.iaload, 1) := by decide +kernel
theorem dL_1239 : decode code 1239 = .ok (.aload_n 0, 1) := by decide +kernel
theorem dL_1240 : decode code 1240 = .ok (.iload_n 3, 1) := by decide +kernel
theorem dL_1241 : decode code 1241 = .ok (.iconst 3, 1) := by decide +kernel
theorem dL_1242 : decode code 1242 = .ok (.iadd, 1) := by decide +kernel
theorem dL_1243 : decode code 1243 = .ok (.iaload, 1) := by decide +kernel
theorem dL_1244 : decode code 1244 = .ok (.invokevirtual 128, 3) := by decide +kernel
theorem dL_1247 : decode code 1247 = .ok (.aload_n 2, 1) := by decide +kernel
theorem dL_1248 : decode code 1248 = .ok (.aload_n 0, 1) := by decide +kernel
theorem dL_1249 : decode code 1249 = .ok (.iload_n 3, 1) := by decide +kernel
theorem dL_1250 : decode code 1250 = .ok (.iconst 1, 1) := by decide +kernel
theorem dL_1251 : decode code 1251 = .ok (.iadd, 1) := by decide +kernel
theorem dL_1252 : decode code 1252 = .ok (.iaload, 1) := by decide +kernel
theorem dL_1253 : decode code 1253 = .ok (.aload_n 0, 1) := by decide +kernel
theorem dL_1254 : decode code 1254 = .ok (.iload_n 3, 1) := by decide +kernel
theorem dL_1255 : decode code 1255 = .ok (.iconst 2, 1) := by decide +kernel
theorem dL_1256 : decode code 1256 = .ok (.iadd, 1) := by decide +kernel
theorem dL_1257 : decode code 1257 = .ok (.iaload, 1) := by decide +kernel
theorem dL_1258 : decode code 1258 = .ok (.aload_n 0, 1) := by decide +kernel
theorem dL_1259 : decode code 1259 = .ok (.iload_n 3, 1) := by decide +kernel
theorem dL_1260 : decode code 1260 = .ok (.iconst 3, 1) := by decide +kernel
theorem dL_1261 : decode code 1261 = .ok (.iadd, 1) := by decide +kernel
theorem dL_1262 : decode code 1262 = .ok (.iaload, 1) := by decide +kernel
theorem dL_1263 : decode code 1263 = .ok (.invokevirtual 131, 3) := by decide +kernel
theorem dL_1266 : decode code 1266 = .ok (.if_icmp .eq 348, 3) := by decide +kernel
theorem dL_1271 : decode code 1271 = .ok (.aload_n 1, 1) := by decide +kernel
theorem dL_1272 : decode code 1272 = .ok (.aload_n 0, 1) := by decide +kernel
theorem dL_1273 : decode code 1273 = .ok (.iload_n 3, 1) := by decide +kernel
theorem dL_1274 : decode code 1274 = .ok (.iconst 1, 1) := by decide +kernel
theorem dL_1275 : decode code 1275 = .ok (.iadd, 1) := by decide +kernel
theorem dL_1276 : decode code 1276 = .ok (.iaload, 1) := by decide +kernel
theorem dL_1277 : decode code 1277 = .ok (.aload_n 0, 1) := by decide +kernel
theorem dL_1278 : decode code 1278 = .ok (.iload_n 3, 1) := by decide +kernel
theorem dL_1279 : decode code 1279 = .ok (.iconst 2, 1) := by decide +kernel
theorem dL_1280 : decode code 1280 = .ok (.iadd, 1) := by decide +kernel
theorem dL_1281 : decode code 1281 = .ok (.iaload, 1) := by decide +kernel
theorem dL_1282 : decode code 1282 = .ok (.aload_n 0, 1) := by decide +kernel
theorem dL_1283 : decode code 1283 = .ok (.iload_n 3, 1) := by decide +kernel
theorem dL_1284 : decode code 1284 = .ok (.iconst 3, 1) := by decide +kernel
theorem dL_1285 : decode code 1285 = .ok (.iadd, 1) := by decide +kernel
theorem dL_1286 : decode code 1286 = .ok (.iaload, 1) := by decide +kernel
theorem dL_1287 : decode code 1287 = .ok (.invokevirtual 132, 3) := by decide +kernel
theorem dL_1290 : decode code 1290 = .ok (.aload_n 2, 1) := by decide +kernel
theorem dL_1291 : decode code 1291 = .ok (.aload_n 0, 1) := by decide +kernel
theorem dL_1292 : decode code 1292 = .ok (.iload_n 3, 1) := by decide +kernel
theorem dL_1293 : decode code 1293 = .ok (.iconst 1, 1) := by decide +kernel
theorem dL_1294 : decode code 1294 = .ok (.iadd, 1) := by decide +kernel
theorem dL_1295 : decode code 1295 = .ok (.iaload, 1) := by decide +kernel
theorem dL_1296 : decode code 1296 = .ok (.aload_n 0, 1) := by decide +kernel
theorem dL_1297 : decode code 1297 = .ok (.iload_n 3, 1) := by decide +kernel
theorem dL_1298 : decode code 1298 = .ok (.iconst 2, 1) := by decide +kernel
theorem dL_1299 : decode code 1299 = .ok (.iadd, 1) := by decide +kernel
theorem dL_1300 : decode code 1300 = .ok (.iaload, 1) := by decide +kernel
theorem dL_1301 : decode code 1301 = .ok (.aload_n 0, 1) := by decide +kernel
theorem dL_1302 : decode code 1302 = .ok (.iload_n 3, 1) := by decide +kernel
theorem dL_1303 : decode code 1303 = .ok (.iconst 3, 1) := by decide +kernel
theorem dL_1304 : decode code 1304 = .ok (.iadd, 1) := by decide +kernel
theorem dL_1305 : decode code 1305 = .ok (.iaload, 1) := by decide +kernel
theorem dL_1306 : decode code 1306 = .ok (.invokevirtual 135, 3) := by decide +kernel
theorem dL_1309 : decode code 1309 = .ok (.if_icmp .eq 305, 3) := by decide +kernel
theorem dL_1314 : decode code 1314 = .ok (.aload_n 1, 1) := by decide +kernel
theorem dL_1315 : decode code 1315 = .ok (.aload_n 0, 1) := by decide +kernel
theorem dL_1316 : decode code 1316 = .ok (.iload_n 3, 1) := by decide +kernel
theorem dL_1317 : decode code 1317 = .ok (.iconst 1, 1) := by decide +kernel
theorem dL_1318 : decode code 1318 = .ok (.iadd, 1) := by decide +kernel
theorem dL_1319 : decode code 1319 = .ok (.iaload, 1) := by decide +kernel
theorem dL_1320 : decode code 1320 = .ok (.aload_n 0, 1) := by decide +kernel
theorem dL_1321 : decode code 1321 = .ok (.iload_n 3, 1) := by decide +kernel
theorem dL_1322 : decode code 1322 = .ok (.iconst 2, 1) := by decide +kernel
theorem dL_1323 : decode code 1323 = .ok (.iadd, 1) := by decide +kernel
theorem dL_1324 : decode code 1324 = .ok (.iaload, 1) := by decide +kernel
theorem dL_1325 : decode code 1325 = .ok (.invokevirtual 136, 3) := by decide +kernel
theorem dL_1328 : decode code 1328 = .ok (.aload_n 2, 1) := by decide +kernel
theorem dL_1329 : decode code 1329 = .ok (.aload_n 0, 1) := by decide +kernel
theorem dL_1330 : decode code 1330 = .ok (.iload_n 3, 1) := by decide +kernel
theorem dL_1331 : decode code 1331 = .ok (.iconst 1, 1) := by decide +kernel
theorem dL_1332 : decode code 1332 = .ok (.iadd, 1) := by decide +kernel
theorem dL_1333 : decode code 1333 = .ok (.iaload, 1) := by decide +kernel
theorem dL_1334 : decode code 1334 = .ok (.aload_n 0, 1) := by decide +kernel
theorem dL_1335 : decode code 1335 = .ok (.iload_n 3, 1) := by decide +kernel
theorem dL_1336 : decode code 1336 = .ok (.iconst 2, 1) := by decide +kernel
theorem dL_1337 : decode code 1337 = .ok (.iadd, 1) := by decide +kernel
theorem dL_1338 : decode code 1338 = .ok (.iaload, 1) := by decide +kernel
theorem dL_1339 : decode code 1339 = .ok (.invokevirtual 139, 3) := by decide +kernel
theorem dL_1342 : decode code 1342 = .ok (.if_icmp .eq 272, 3) := by decide +kernel
theorem dL_1347 : decode code 1347 = .ok (.aload_n 1, 1) := by decide +kernel
theorem dL_1348 : decode code 1348 = .ok (.aload_n 0, 1) := by decide +kernel
theorem dL_1349 : decode code 1349 = .ok (.iload_n 3, 1) := by decide +kernel
theorem dL_1350 : decode code 1350 = .ok (.iconst 1, 1) := by decide +kernel
theorem dL_1351 : decode code 1351 = .ok (.iadd, 1) := by decide +kernel
theorem dL_1352 : decode code 1352 = .ok (.iaload, 1) := by decide +kernel
theorem dL_1353 : decode code 1353 = .ok (.aload_n 0, 1) := by decide +kernel
theorem dL_1354 : decode code 1354 = .ok (.iload_n 3, 1) := by decide +kernel
theorem dL_1355 : decode code 1355 = .ok (.iconst 2, 1) := by decide +kernel
theorem dL_1356 : decode code 1356 = .ok (.iadd, 1) := by decide +kernel
theorem dL_1357 : decode code 1357 = .ok (.iaload, 1) := by decide +kernel
theorem dL_1358 : decode code 1358 = .ok (.aload_n 0, 1) := by decide +kernel
theorem dL_1359 : decode code 1359 = .ok (.iload_n 3, 1) := by decide +kernel
theorem dL_1360 : decode code 1360 = .ok (.iconst 3, 1) := by decide +kernel
theorem dL_1361 : decode code 1361 = .ok (.iadd, 1) := by decide +kernel
theorem dL_1362 : decode code 1362 = .ok (.iaload, 1) := by decide +kernel
theorem dL_1363 : decode code 1363 = .ok (.invokevirtual 140, 3) := by decide +kernel
theorem dL_1366 : decode code 1366 = .ok (.aload_n 2, 1) := by decide +kernel
theorem dL_1367 : decode code 1367 = .ok (.aload_n 0, 1) := by decide +kernel
theorem dL_1368 : decode code 1368 = .ok (.iload_n 3, 1) := by decide +kernel
theorem dL_1369 : decode code 1369 = .ok (.iconst 1, 1) := by decide +kernel
theorem dL_1370 : decode code 1370 = .ok (.iadd, 1) := by decide +kernel
theorem dL_1371 : decode code 1371 = .ok (.iaload, 1) := by decide +kernel
theorem dL_1372 : decode code 1372 = .ok (.aload_n 0, 1) := by decide +kernel
theorem dL_1373 : decode code 1373 = .ok (.iload_n 3, 1) := by decide +kernel
theorem dL_1374 : decode code 1374 = .ok (.iconst 2, 1) := by decide +kernel
theorem dL_1375 : decode code 1375 = .ok (.iadd, 1) := by decide +kernel
theorem dL_1376 : decode code 1376 = .ok (.iaload, 1) := by decide +kernel
theorem dL_1377 : decode code 1377 = .ok (.aload_n 0, 1) := by decide +kernel
theorem dL_1378 : decode code 1378 = .ok (.iload_n 3, 1) := by decide +kernel
theorem dL_1379 : decode code 1379 = .ok (.iconst 3, 1) := by decide +kernel
theorem dL_1380 : decode code 1380 = .ok (.iadd, 1) := by decide +kernel
theorem dL_1381 : decode code 1381 = .ok (.iaload, 1) := by decide +kernel
theorem dL_1382 : decode code 1382 = .ok (.invokevirtual 143, 3) := by decide +kernel
theorem dL_1385 : decode code 1385 = .ok (.if_icmp .eq 229, 3) := by decide +kernel
theorem dL_1390 : decode code 1390 = .ok (.aload_n 1, 1) := by decide +kernel
theorem dL_1391 : decode code 1391 = .ok (.aload_n 0, 1) := by decide +kernel
theorem dL_1392 : decode code 1392 = .ok (.iload_n 3, 1) := by decide +kernel
theorem dL_1393 : decode code 1393 = .ok (.iconst 1, 1) := by decide +kernel
theorem dL_1394 : decode code 1394 = .ok (.iadd, 1) := by decide +kernel
theorem dL_1395 : decode code 1395 = .ok (.iaload, 1) := by decide +kernel
theorem dL_1396 : decode code 1396 = .ok (.aload_n 0, 1) := by decide +kernel
theorem dL_1397 : decode code 1397 = .ok (.iload_n 3, 1) := by decide +kernel
theorem dL_1398 : decode code 1398 = .ok (.iconst 2, 1) := by decide +kernel
theorem dL_1399 : decode code 1399 = .ok (.iadd, 1) := by decide +kernel
theorem dL_1400 : decode code 1400 = .ok (.iaload, 1) := by decide +kernel
theorem dL_1401 : decode code 1401 = .ok (.invokevirtual 144, 3) := by decide +kernel
theorem dL_1404 : decode code 1404 = .ok (.aload_n 2, 1) := by decide +kernel
theorem dL_1405 : decode code 1405 = .ok (.aload_n 0, 1) := by decide +kernel
theorem dL_1406 : decode code 1406 = .ok (.iload_n 3, 1) := by decide +kernel
theorem dL_1407 : decode code 1407 = .ok (.iconst 1, 1) := by decide +kernel
theorem dL_1408 : decode code 1408 = .ok (.iadd, 1) := by decide +kernel
theorem dL_1409 : decode code 1409 = .ok (.iaload, 1) := by decide +kernel
theorem dL_1410 : decode code 1410 = .ok (.aload_n 0, 1) := by decide +kernel
theorem dL_1411 : decode code 1411 = .ok (.iload_n 3, 1) := by decide +kernel
theorem dL_1412 : decode code 1412 = .ok (.iconst 2, 1) := by decide +kernel
theorem dL_1413 : decode code 1413 = .ok (.iadd, 1) := by decide +kernel
theorem dL_1414 : decode code 1414 = .ok (.iaload, 1) := by decide +kernel
theorem dL_1415 : decode code 1415 = .ok (.invokevirtual 147, 3) := by decide +kernel
theorem dL_1418 : decode code 1418 = .ok (.if_icmp .eq 196, 3) := by decide +kernel
theorem dL_1423 : decode code 1423 = .ok (.aload_n 1, 1) := by decide +kernel
theorem dL_1424 : decode code 1424 = .ok (.aload_n 0, 1) := by decide +kernel
theorem dL_1425 : decode code 1425 = .ok (.iload_n 3, 1) := by decide +kernel
theorem dL_1426 : decode code 1426 = .ok (.iconst 1, 1) := by decide +kernel
theorem dL_1427 : decode code 1427 = .ok (.iadd, 1) := by decide +kernel
theorem dL_1428 : decode code 1428 = .ok (.iaload, 1) := by decide +kernel
theorem dL_1429 : decode code 1429 = .ok (.aload_n 0, 1) := by decide +kernel
