theorem dL_1274 : decode code 1274 = .ok (.aload_n 2, 1) := by decide +kernel
theorem dL_1275 : decode code 1275 = .ok (.aload_n 0, 1) := by decide +kernel
theorem dL_1276 : decode code 1276 = .ok (.iload_n 3, 1) := by decide +kernel
theorem dL_1277 : decode code 1277 = .ok (.iconst 1, 1) := by decide +kernel
theorem dL_1278 : decode code 1278 = .ok (.iadd, 1) := by decide +kernel
theorem dL_1279 : decode code 1279 = .ok (.iaload, 1) := by decide +kernel
theorem dL_1280 : decode code 1280 = .ok (.aload_n 0, 1) := by decide +kernel
theorem dL_1281 : decode code 1281 = .ok (.iload_n 3, 1) := by decide +kernel
theorem dL_1282 : decode code 1282 = .ok (.iconst 2, 1) := by decide +kernel
theorem dL_1283 : decode code 1283 = .ok (.iadd, 1) := by decide +kernel
theorem dL_1284 : decode code 1284 = .ok (.iaload, 1) := by decide +kernel
theorem dL_1285 : decode code 1285 = .ok (.aload_n 0, 1) := by decide +kernel
theorem dL_1286 : decode code 1286 = .ok (.iload_n 3, 1) := by decide +kernel
theorem dL_1287 : decode code 1287 = .ok (.iconst 3, 1) := by decide +kernel
theorem dL_1288 : decode code 1288 = .ok (.iadd, 1) := by decide +kernel
theorem dL_1289 : decode code 1289 = .ok (.iaload, 1) := by decide +kernel
theorem dL_1290 : decode code 1290 = .ok (.invokevirtual 153, 3) := by decide +kernel
theorem dL_1293 : decode code 1293 = .ok (.if_icmp .eq 199, 3) := by decide +kernel
theorem dL_1296 : decode code 1296 = .ok (.iconst 0, 1) := by decide +kernel
theorem dL_1297 : decode code 1297 = .ok (.ireturn, 1) := by decide +kernel
theorem dL_1298 : decode code 1298 = .ok (.aload_n 1, 1) := by decide +kernel
theorem dL_1299 : decode code 1299 = .ok (.aload_n 0, 1) := by decide +kernel
theorem dL_1300 : decode code 1300 = .ok (.iload_n 3, 1) := by decide +kernel
theorem dL_1301 : decode code 1301 = .ok (.iconst 1, 1) := by decide +kernel
theorem dL_1302 : decode code 1302 = .ok (.iadd, 1) := by decide +kernel
theorem dL_1303 : decode code 1303 = .ok (.iaload, 1) := by decide +kernel
theorem dL_1304 : decode code 1304 = .ok (.aload_n 0, 1) := by decide +kernel
theorem dL_1305 : decode code 1305 = .ok (.iload_n 3, 1) := by decide +kernel
theorem dL_1306 : decode code 1306 = .ok (.iconst 2, 1) := by decide +kernel
theorem dL_1307 : decode code 1307 = .ok (.iadd, 1) := by decide +kernel
theorem dL_1308 : decode code 1308 = .ok (.iaload, 1) := by decide +kernel
theorem dL_1309 : decode code 1309 = .ok (.invokevirtual 154, 3) := by decide +kernel
theorem dL_1312 : decode code 1312 = .ok (.aload_n 2, 1) := by decide +kernel
theorem dL_1313 : decode code 1313 = .ok (.aload_n 0, 1) := by decide +kernel
theorem dL_1314 : decode code 1314 = .ok (.iload_n 3, 1) := by decide +kernel
theorem dL_1315 : decode code 1315 = .ok (.iconst 1, 1) := by decide +kernel
theorem dL_1316 : decode code 1316 = .ok (.iadd, 1) := by decide +kernel
theorem dL_1317 : decode code 1317 = .ok (.iaload, 1) := by decide +kernel
theorem dL_1318 : decode code 1318 = .ok (.aload_n 0, 1) := by decide +kernel
theorem dL_1319 : decode code 1319 = .ok (.iload_n 3, 1) := by decide +kernel
theorem dL_1320 : decode code 1320 = .ok (.iconst 2, 1) := by decide +kernel
theorem dL_1321 : decode code 1321 = .ok (.iadd, 1) := by decide +kernel
theorem dL_1322 : decode code 1322 = .ok (.iaload, 1) := by decide +kernel
theorem dL_1323 : decode code 1323 = .ok (.invokevirtual 157, 3) := by decide +kernel
theorem dL_1326 : decode code 1326 = .ok (.if_icmp .eq 166, 3) := by decide +kernel
theorem dL_1329 : decode code 1329 = .ok (.iconst 0, 1) := by decide +kernel
theorem dL_1330 : decode code 1330 = .ok (.ireturn, 1) := by decide +kernel
theorem dL_1331 : decode code 1331 = .ok (.aload_n 1, 1) := by decide +kernel
theorem dL_1332 : decode code 1332 = .ok (.aload_n 0, 1) := by decide +kernel
theorem dL_1333 : decode code 1333 = .ok (.iload_n 3, 1) := by decide +kernel
theorem dL_1334 : decode code 1334 = .ok (.iconst 1, 1) := by decide +kernel
theorem dL_1335 : decode code 1335 = .ok (.iadd, 1) := by decide +kernel
theorem dL_1336 : decode code 1336 = .ok (.iaload, 1) := by decide +kernel
theorem dL_1337 : decode code 1337 = .ok (.aload_n 0, 1) := by decide +kernel
theorem dL_1338 : decode code 1338 = .ok (.iload_n 3, 1) := by decide +kernel
theorem dL_1339 : decode code 1339 = .ok (.iconst 2, 1) := by decide +kernel
theorem dL_1340 : decode code 1340 = .ok (.iadd, 1) := by decide +kernel
theorem dL_1341 : decode code 1341 = .ok (.iaload, 1) := by decide +kernel
theorem dL_1342 : decode code 1342 = .ok (.invokevirtual 158, 3) := by decide +kernel
theorem dL_1345 : decode code 1345 = .ok (.aload_n 2, 1) := by decide +kernel
theorem dL_1346 : decode code 1346 = .ok (.aload_n 0, 1) := by decide +kernel
theorem dL_1347 : decode code 1347 = .ok (.iload_n 3, 1) := by decide +kernel
theorem dL_1348 : decode code 1348 = .ok (.iconst 1, 1) := by decide +kernel
theorem dL_1349 : decode code 1349 = .ok (.iadd, 1) := by decide +kernel
theorem dL_1350 : decode code 1350 = .ok (.iaload, 1) := by decide +kernel
theorem dL_1351 : decode code 1351 = .ok (.aload_n 0, 1) := by decide +kernel
theorem dL_1352 : decode code 1352 = .ok (.iload_n 3, 1) := by decide +kernel
theorem dL_1353 : decode code 1353 = .ok (.iconst 2, 1) := by decide +kernel
theorem dL_1354 : decode code 1354 = .ok (.iadd, 1) := by decide +kernel
theorem dL_1355 : decode code 1355 = .ok (.iaload, 1) := by decide +kernel
theorem dL_1356 : decode code 1356 = .ok (.invokevirtual 161, 3) := by decide +kernel
theorem dL_1359 : decode code 1359 = .ok (.if_icmp .eq 133, 3) := by decide +kernel
theorem dL_1362 : decode code 1362 = .ok (.iconst 0, 1) := by decide +kernel
theorem dL_1363 : decode code 1363 = .ok (.ireturn, 1) := by decide +kernel
theorem dL_1364 : decode code 1364 = .ok (.aload_n 1, 1) := by decide +kernel
theorem dL_1365 : decode code 1365 = .ok (.aload_n 0, 1) := by decide +kernel
theorem dL_1366 : decode code 1366 = .ok (.iload_n 3, 1) := by decide +kernel
theorem dL_1367 : decode code 1367 = .ok (.iconst 1, 1) := by decide +kernel
theorem dL_1368 : decode code 1368 = .ok (.iadd, 1) := by decide +kernel
theorem dL_1369 : decode code 1369 = .ok (.iaload, 1) := by decide +kernel
theorem dL_1370 : decode code 1370 = .ok (.aload_n 0, 1) := by decide +kernel
theorem dL_1371 : decode code 1371 = .ok (.iload_n 3, 1) := by decide +kernel
theorem dL_1372 : decode code 1372 = .ok (.iconst 2, 1) := by decide +kernel
theorem dL_1373 : decode code 1373 = .ok (.iadd, 1) := by decide +kernel
theorem dL_1374 : decode code 1374 = .ok (.iaload, 1) := by decide +kernel
theorem dL_1375 : decode code 1375 = .ok (.invokevirtual 162, 3) := by decide +kernel
theorem dL_1378 : decode code 1378 = .ok (.aload_n 2, 1) := by decide +kernel
theorem dL_1379 : decode code 1379 = .ok (.aload_n 0, 1) := by decide +kernel
theorem dL_1380 : decode code 1380 = .ok (.iload_n 3, 1) := by decide +kernel
theorem dL_1381 : decode code 1381 = .ok (.iconst 1, 1) := by decide +kernel
theorem dL_1382 : decode code 1382 = .ok (.iadd, 1) := by decide +kernel
theorem dL_1383 : decode code 1383 = .ok (.iaload, 1) := by decide +kernel
theorem dL_1384 : decode code 1384 = .ok (.aload_n 0, 1) := by decide +kernel
theorem dL_1385 : decode code 1385 = .ok (.iload_n 3, 1) := by decide +kernel
theorem dL_1386 : decode code 1386 = .ok (.iconst 2, 1) := by decide +kernel
theorem dL_1387 : decode code 1387 = .ok (.iadd, 1) := by decide +kernel
theorem dL_1388 : decode code 1388 = .ok (.iaload, 1) := by decide +kernel
theorem dL_1389 : decode code 1389 = .ok (.invokevirtual 165, 3) := by decide +kernel
theorem dL_1392 : decode code 1392 = .ok (.if_icmp .eq 100, 3) := by decide +kernel
theorem dL_1395 : decode code 1395 = .ok (.iconst 0, 1) := by decide +kernel
theorem dL_1396 : decode code 1396 = .ok (.ireturn, 1) := by decide +kernel
theorem dL_1397 : decode code 1397 = .ok (.aload_n 1, 1) := by decide +kernel
theorem dL_1398 : decode code 1398 = .ok (.aload_n 0, 1) := by decide +kernel
theorem dL_1399 : decode code 1399 = .ok (.iload_n 3, 1) := by decide +kernel
theorem dL_1400 : decode code 1400 = .ok (.iconst 1, 1) := by decide +kernel
theorem dL_1401 : decode code 1401 = .ok (.iadd, 1) := by decide +kernel
theorem dL_1402 : decode code 1402 = .ok (.iaload, 1) := by decide +kernel
theorem dL_1403 : decode code 1403 = .ok (.invokevirtual 166, 3) := by decide +kernel
theorem dL_1406 : decode code 1406 = .ok (.aload_n 2, 1) := by decide +kernel
theorem dL_1407 : decode code 1407 = .ok (.aload_n 0, 1) := by decide +kernel
