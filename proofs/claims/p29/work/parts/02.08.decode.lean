-- decode rows: a program laid them
theorem dL_law_1328 : decode cL_law 1328 = .ok (.iaload, 1) := dcq_780.2.2.2.2.2.2.2.2.1
theorem dL_law_1329 : decode cL_law 1329 = .ok (.aload_n 0, 1) := dcq_780.2.2.2.2.2.2.2.2.2.1
theorem dL_law_1330 : decode cL_law 1330 = .ok (.iload_n 3, 1) := dcq_780.2.2.2.2.2.2.2.2.2.2.1
theorem dL_law_1331 : decode cL_law 1331 = .ok (.iconst 2, 1) := dcq_780.2.2.2.2.2.2.2.2.2.2.2
set_option maxRecDepth 20000 in
theorem dcb_781 : fd_B cL_law 1332 [96, 46, 42, 29, 6, 96, 46, 182, 0, 162, 87, 167, 0, 237, 43, 42] := fd_o cL_law 1332 _ (by decide +kernel)
theorem dcq_781 : (decode cL_law 1332 = .ok (.iadd, 1)) ∧ (decode cL_law 1333 = .ok (.iaload, 1)) ∧ (decode cL_law 1334 = .ok (.aload_n 0, 1)) ∧ (decode cL_law 1335 = .ok (.iload_n 3, 1)) ∧ (decode cL_law 1336 = .ok (.iconst 3, 1)) ∧ (decode cL_law 1337 = .ok (.iadd, 1)) ∧ (decode cL_law 1338 = .ok (.iaload, 1)) ∧ (decode cL_law 1339 = .ok (.invokevirtual 162, 3)) ∧ (decode cL_law 1342 = .ok (.pop, 1)) ∧ (decode cL_law 1343 = .ok (.goto 237, 3)) ∧ (decode cL_law 1346 = .ok (.aload_n 1, 1)) ∧ (decode cL_law 1347 = .ok (.aload_n 0, 1)) := have h := dcb_781; ⟨fd_96 h, have h := fd_t1 h; ⟨fd_46 h, have h := fd_t1 h; ⟨fd_42 h, have h := fd_t1 h; ⟨fd_29 h, have h := fd_t1 h; ⟨fd_6 h, have h := fd_t1 h; ⟨fd_96 h, have h := fd_t1 h; ⟨fd_46 h, have h := fd_t1 h; ⟨fd_182 h rfl, have h := fd_t3 h; ⟨fd_87 h, have h := fd_t1 h; ⟨fd_167 h (by decide +kernel), have h := fd_t3 h; ⟨fd_43 h, have h := fd_t1 h; fd_42 h⟩⟩⟩⟩⟩⟩⟩⟩⟩⟩⟩
theorem dL_law_1332 : decode cL_law 1332 = .ok (.iadd, 1) := dcq_781.1
theorem dL_law_1333 : decode cL_law 1333 = .ok (.iaload, 1) := dcq_781.2.1
theorem dL_law_1334 : decode cL_law 1334 = .ok (.aload_n 0, 1) := dcq_781.2.2.1
theorem dL_law_1335 : decode cL_law 1335 = .ok (.iload_n 3, 1) := dcq_781.2.2.2.1
theorem dL_law_1336 : decode cL_law 1336 = .ok (.iconst 3, 1) := dcq_781.2.2.2.2.1
theorem dL_law_1337 : decode cL_law 1337 = .ok (.iadd, 1) := dcq_781.2.2.2.2.2.1
theorem dL_law_1338 : decode cL_law 1338 = .ok (.iaload, 1) := dcq_781.2.2.2.2.2.2.1
theorem dL_law_1339 : decode cL_law 1339 = .ok (.invokevirtual 162, 3) := dcq_781.2.2.2.2.2.2.2.1
theorem dL_law_1342 : decode cL_law 1342 = .ok (.pop, 1) := dcq_781.2.2.2.2.2.2.2.2.1
theorem dL_law_1343 : decode cL_law 1343 = .ok (.goto 237, 3) := dcq_781.2.2.2.2.2.2.2.2.2.1
theorem dL_law_1346 : decode cL_law 1346 = .ok (.aload_n 1, 1) := dcq_781.2.2.2.2.2.2.2.2.2.2.1
theorem dL_law_1347 : decode cL_law 1347 = .ok (.aload_n 0, 1) := dcq_781.2.2.2.2.2.2.2.2.2.2.2
set_option maxRecDepth 20000 in
theorem dcb_782 : fd_B cL_law 1348 [29, 4, 96, 46, 42, 29, 5, 96, 46, 42, 29, 6] := fd_o cL_law 1348 _ (by decide +kernel)
theorem dcq_782 : (decode cL_law 1348 = .ok (.iload_n 3, 1)) ∧ (decode cL_law 1349 = .ok (.iconst 1, 1)) ∧ (decode cL_law 1350 = .ok (.iadd, 1)) ∧ (decode cL_law 1351 = .ok (.iaload, 1)) ∧ (decode cL_law 1352 = .ok (.aload_n 0, 1)) ∧ (decode cL_law 1353 = .ok (.iload_n 3, 1)) ∧ (decode cL_law 1354 = .ok (.iconst 2, 1)) ∧ (decode cL_law 1355 = .ok (.iadd, 1)) ∧ (decode cL_law 1356 = .ok (.iaload, 1)) ∧ (decode cL_law 1357 = .ok (.aload_n 0, 1)) ∧ (decode cL_law 1358 = .ok (.iload_n 3, 1)) ∧ (decode cL_law 1359 = .ok (.iconst 3, 1)) := have h := dcb_782; ⟨fd_29 h, have h := fd_t1 h; ⟨fd_4 h, have h := fd_t1 h; ⟨fd_96 h, have h := fd_t1 h; ⟨fd_46 h, have h := fd_t1 h; ⟨fd_42 h, have h := fd_t1 h; ⟨fd_29 h, have h := fd_t1 h; ⟨fd_5 h, have h := fd_t1 h; ⟨fd_96 h, have h := fd_t1 h; ⟨fd_46 h, have h := fd_t1 h; ⟨fd_42 h, have h := fd_t1 h; ⟨fd_29 h, have h := fd_t1 h; fd_6 h⟩⟩⟩⟩⟩⟩⟩⟩⟩⟩⟩
theorem dL_law_1348 : decode cL_law 1348 = .ok (.iload_n 3, 1) := dcq_782.1
theorem dL_law_1349 : decode cL_law 1349 = .ok (.iconst 1, 1) := dcq_782.2.1
theorem dL_law_1350 : decode cL_law 1350 = .ok (.iadd, 1) := dcq_782.2.2.1
theorem dL_law_1351 : decode cL_law 1351 = .ok (.iaload, 1) := dcq_782.2.2.2.1
theorem dL_law_1352 : decode cL_law 1352 = .ok (.aload_n 0, 1) := dcq_782.2.2.2.2.1
theorem dL_law_1353 : decode cL_law 1353 = .ok (.iload_n 3, 1) := dcq_782.2.2.2.2.2.1
theorem dL_law_1354 : decode cL_law 1354 = .ok (.iconst 2, 1) := dcq_782.2.2.2.2.2.2.1
theorem dL_law_1355 : decode cL_law 1355 = .ok (.iadd, 1) := dcq_782.2.2.2.2.2.2.2.1
theorem dL_law_1356 : decode cL_law 1356 = .ok (.iaload, 1) := dcq_782.2.2.2.2.2.2.2.2.1
theorem dL_law_1357 : decode cL_law 1357 = .ok (.aload_n 0, 1) := dcq_782.2.2.2.2.2.2.2.2.2.1
theorem dL_law_1358 : decode cL_law 1358 = .ok (.iload_n 3, 1) := dcq_782.2.2.2.2.2.2.2.2.2.2.1
theorem dL_law_1359 : decode cL_law 1359 = .ok (.iconst 3, 1) := dcq_782.2.2.2.2.2.2.2.2.2.2.2
set_option maxRecDepth 20000 in
theorem dcb_783 : fd_B cL_law 1360 [96, 46, 182, 0, 163, 87, 44, 42, 29, 4, 96, 46, 42, 29] := fd_o cL_law 1360 _ (by decide +kernel)
theorem dcq_783 : (decode cL_law 1360 = .ok (.iadd, 1)) ∧ (decode cL_law 1361 = .ok (.iaload, 1)) ∧ (decode cL_law 1362 = .ok (.invokevirtual 163, 3)) ∧ (decode cL_law 1365 = .ok (.pop, 1)) ∧ (decode cL_law 1366 = .ok (.aload_n 2, 1)) ∧ (decode cL_law 1367 = .ok (.aload_n 0, 1)) ∧ (decode cL_law 1368 = .ok (.iload_n 3, 1)) ∧ (decode cL_law 1369 = .ok (.iconst 1, 1)) ∧ (decode cL_law 1370 = .ok (.iadd, 1)) ∧ (decode cL_law 1371 = .ok (.iaload, 1)) ∧ (decode cL_law 1372 = .ok (.aload_n 0, 1)) ∧ (decode cL_law 1373 = .ok (.iload_n 3, 1)) := have h := dcb_783; ⟨fd_96 h, have h := fd_t1 h; ⟨fd_46 h, have h := fd_t1 h; ⟨fd_182 h rfl, have h := fd_t3 h; ⟨fd_87 h, have h := fd_t1 h; ⟨fd_44 h, have h := fd_t1 h; ⟨fd_42 h, have h := fd_t1 h; ⟨fd_29 h, have h := fd_t1 h; ⟨fd_4 h, have h := fd_t1 h; ⟨fd_96 h, have h := fd_t1 h; ⟨fd_46 h, have h := fd_t1 h; ⟨fd_42 h, have h := fd_t1 h; fd_29 h⟩⟩⟩⟩⟩⟩⟩⟩⟩⟩⟩
theorem dL_law_1360 : decode cL_law 1360 = .ok (.iadd, 1) := dcq_783.1
theorem dL_law_1361 : decode cL_law 1361 = .ok (.iaload, 1) := dcq_783.2.1
theorem dL_law_1362 : decode cL_law 1362 = .ok (.invokevirtual 163, 3) := dcq_783.2.2.1
theorem dL_law_1365 : decode cL_law 1365 = .ok (.pop, 1) := dcq_783.2.2.2.1
theorem dL_law_1366 : decode cL_law 1366 = .ok (.aload_n 2, 1) := dcq_783.2.2.2.2.1
theorem dL_law_1367 : decode cL_law 1367 = .ok (.aload_n 0, 1) := dcq_783.2.2.2.2.2.1
theorem dL_law_1368 : decode cL_law 1368 = .ok (.iload_n 3, 1) := dcq_783.2.2.2.2.2.2.1
theorem dL_law_1369 : decode cL_law 1369 = .ok (.iconst 1, 1) := dcq_783.2.2.2.2.2.2.2.1
theorem dL_law_1370 : decode cL_law 1370 = .ok (.iadd, 1) := dcq_783.2.2.2.2.2.2.2.2.1
theorem dL_law_1371 : decode cL_law 1371 = .ok (.iaload, 1) := dcq_783.2.2.2.2.2.2.2.2.2.1
theorem dL_law_1372 : decode cL_law 1372 = .ok (.aload_n 0, 1) := dcq_783.2.2.2.2.2.2.2.2.2.2.1
theorem dL_law_1373 : decode cL_law 1373 = .ok (.iload_n 3, 1) := dcq_783.2.2.2.2.2.2.2.2.2.2.2
set_option maxRecDepth 20000 in
theorem dcb_784 : fd_B cL_law 1374 [5, 96, 46, 42, 29, 6, 96, 46, 182, 0, 166, 87, 167, 0, 194, 43] := fd_o cL_law 1374 _ (by decide +kernel)
theorem dcq_784 : (decode cL_law 1374 = .ok (.iconst 2, 1)) ∧ (decode cL_law 1375 = .ok (.iadd, 1)) ∧ (decode cL_law 1376 = .ok (.iaload, 1)) ∧ (decode cL_law 1377 = .ok (.aload_n 0, 1)) ∧ (decode cL_law 1378 = .ok (.iload_n 3, 1)) ∧ (decode cL_law 1379 = .ok (.iconst 3, 1)) ∧ (decode cL_law 1380 = .ok (.iadd, 1)) ∧ (decode cL_law 1381 = .ok (.iaload, 1)) ∧ (decode cL_law 1382 = .ok (.invokevirtual 166, 3)) ∧ (decode cL_law 1385 = .ok (.pop, 1)) ∧ (decode cL_law 1386 = .ok (.goto 194, 3)) ∧ (decode cL_law 1389 = .ok (.aload_n 1, 1)) := have h := dcb_784; ⟨fd_5 h, have h := fd_t1 h; ⟨fd_96 h, have h := fd_t1 h; ⟨fd_46 h, have h := fd_t1 h; ⟨fd_42 h, have h := fd_t1 h; ⟨fd_29 h, have h := fd_t1 h; ⟨fd_6 h, have h := fd_t1 h; ⟨fd_96 h, have h := fd_t1 h; ⟨fd_46 h, have h := fd_t1 h; ⟨fd_182 h rfl, have h := fd_t3 h; ⟨fd_87 h, have h := fd_t1 h; ⟨fd_167 h (by decide +kernel), have h := fd_t3 h; fd_43 h⟩⟩⟩⟩⟩⟩⟩⟩⟩⟩⟩
theorem dL_law_1374 : decode cL_law 1374 = .ok (.iconst 2, 1) := dcq_784.1
theorem dL_law_1375 : decode cL_law 1375 = .ok (.iadd, 1) := dcq_784.2.1
theorem dL_law_1376 : decode cL_law 1376 = .ok (.iaload, 1) := dcq_784.2.2.1
theorem dL_law_1377 : decode cL_law 1377 = .ok (.aload_n 0, 1) := dcq_784.2.2.2.1
theorem dL_law_1378 : decode cL_law 1378 = .ok (.iload_n 3, 1) := dcq_784.2.2.2.2.1
theorem dL_law_1379 : decode cL_law 1379 = .ok (.iconst 3, 1) := dcq_784.2.2.2.2.2.1
theorem dL_law_1380 : decode cL_law 1380 = .ok (.iadd, 1) := dcq_784.2.2.2.2.2.2.1
theorem dL_law_1381 : decode cL_law 1381 = .ok (.iaload, 1) := dcq_784.2.2.2.2.2.2.2.1
theorem dL_law_1382 : decode cL_law 1382 = .ok (.invokevirtual 166, 3) := dcq_784.2.2.2.2.2.2.2.2.1
theorem dL_law_1385 : decode cL_law 1385 = .ok (.pop, 1) := dcq_784.2.2.2.2.2.2.2.2.2.1
theorem dL_law_1386 : decode cL_law 1386 = .ok (.goto 194, 3) := dcq_784.2.2.2.2.2.2.2.2.2.2.1
theorem dL_law_1389 : decode cL_law 1389 = .ok (.aload_n 1, 1) := dcq_784.2.2.2.2.2.2.2.2.2.2.2
set_option maxRecDepth 20000 in
theorem dcb_785 : fd_B cL_law 1390 [42, 29, 4, 96, 46, 42, 29, 5, 96, 46, 42, 29] := fd_o cL_law 1390 _ (by decide +kernel)
theorem dcq_785 : (decode cL_law 1390 = .ok (.aload_n 0, 1)) ∧ (decode cL_law 1391 = .ok (.iload_n 3, 1)) ∧ (decode cL_law 1392 = .ok (.iconst 1, 1)) ∧ (decode cL_law 1393 = .ok (.iadd, 1)) ∧ (decode cL_law 1394 = .ok (.iaload, 1)) ∧ (decode cL_law 1395 = .ok (.aload_n 0, 1)) ∧ (decode cL_law 1396 = .ok (.iload_n 3, 1)) ∧ (decode cL_law 1397 = .ok (.iconst 2, 1)) ∧ (decode cL_law 1398 = .ok (.iadd, 1)) ∧ (decode cL_law 1399 = .ok (.iaload, 1)) ∧ (decode cL_law 1400 = .ok (.aload_n 0, 1)) ∧ (decode cL_law 1401 = .ok (.iload_n 3, 1)) := have h := dcb_785; ⟨fd_42 h, have h := fd_t1 h; ⟨fd_29 h, have h := fd_t1 h; ⟨fd_4 h, have h := fd_t1 h; ⟨fd_96 h, have h := fd_t1 h; ⟨fd_46 h, have h := fd_t1 h; ⟨fd_42 h, have h := fd_t1 h; ⟨fd_29 h, have h := fd_t1 h; ⟨fd_5 h, have h := fd_t1 h; ⟨fd_96 h, have h := fd_t1 h; ⟨fd_46 h, have h := fd_t1 h; ⟨fd_42 h, have h := fd_t1 h; fd_29 h⟩⟩⟩⟩⟩⟩⟩⟩⟩⟩⟩
theorem dL_law_1390 : decode cL_law 1390 = .ok (.aload_n 0, 1) := dcq_785.1
theorem dL_law_1391 : decode cL_law 1391 = .ok (.iload_n 3, 1) := dcq_785.2.1
theorem dL_law_1392 : decode cL_law 1392 = .ok (.iconst 1, 1) := dcq_785.2.2.1
theorem dL_law_1393 : decode cL_law 1393 = .ok (.iadd, 1) := dcq_785.2.2.2.1
theorem dL_law_1394 : decode cL_law 1394 = .ok (.iaload, 1) := dcq_785.2.2.2.2.1
theorem dL_law_1395 : decode cL_law 1395 = .ok (.aload_n 0, 1) := dcq_785.2.2.2.2.2.1
theorem dL_law_1396 : decode cL_law 1396 = .ok (.iload_n 3, 1) := dcq_785.2.2.2.2.2.2.1
theorem dL_law_1397 : decode cL_law 1397 = .ok (.iconst 2, 1) := dcq_785.2.2.2.2.2.2.2.1
theorem dL_law_1398 : decode cL_law 1398 = .ok (.iadd, 1) := dcq_785.2.2.2.2.2.2.2.2.1
theorem dL_law_1399 : decode cL_law 1399 = .ok (.iaload, 1) := dcq_785.2.2.2.2.2.2.2.2.2.1
theorem dL_law_1400 : decode cL_law 1400 = .ok (.aload_n 0, 1) := dcq_785.2.2.2.2.2.2.2.2.2.2.1
theorem dL_law_1401 : decode cL_law 1401 = .ok (.iload_n 3, 1) := dcq_785.2.2.2.2.2.2.2.2.2.2.2
set_option maxRecDepth 20000 in
theorem dcb_786 : fd_B cL_law 1402 [6, 96, 46, 182, 0, 167, 87, 44, 42, 29, 4, 96, 46, 42] := fd_o cL_law 1402 _ (by decide +kernel)
theorem dcq_786 : (decode cL_law 1402 = .ok (.iconst 3, 1)) ∧ (decode cL_law 1403 = .ok (.iadd, 1)) ∧ (decode cL_law 1404 = .ok (.iaload, 1)) ∧ (decode cL_law 1405 = .ok (.invokevirtual 167, 3)) ∧ (decode cL_law 1408 = .ok (.pop, 1)) ∧ (decode cL_law 1409 = .ok (.aload_n 2, 1)) ∧ (decode cL_law 1410 = .ok (.aload_n 0, 1)) ∧ (decode cL_law 1411 = .ok (.iload_n 3, 1)) ∧ (decode cL_law 1412 = .ok (.iconst 1, 1)) ∧ (decode cL_law 1413 = .ok (.iadd, 1)) ∧ (decode cL_law 1414 = .ok (.iaload, 1)) ∧ (decode cL_law 1415 = .ok (.aload_n 0, 1)) := have h := dcb_786; ⟨fd_6 h, have h := fd_t1 h; ⟨fd_96 h, have h := fd_t1 h; ⟨fd_46 h, have h := fd_t1 h; ⟨fd_182 h rfl, have h := fd_t3 h; ⟨fd_87 h, have h := fd_t1 h; ⟨fd_44 h, have h := fd_t1 h; ⟨fd_42 h, have h := fd_t1 h; ⟨fd_29 h, have h := fd_t1 h; ⟨fd_4 h, have h := fd_t1 h; ⟨fd_96 h, have h := fd_t1 h; ⟨fd_46 h, have h := fd_t1 h; fd_42 h⟩⟩⟩⟩⟩⟩⟩⟩⟩⟩⟩
theorem dL_law_1402 : decode cL_law 1402 = .ok (.iconst 3, 1) := dcq_786.1
theorem dL_law_1403 : decode cL_law 1403 = .ok (.iadd, 1) := dcq_786.2.1
theorem dL_law_1404 : decode cL_law 1404 = .ok (.iaload, 1) := dcq_786.2.2.1
theorem dL_law_1405 : decode cL_law 1405 = .ok (.invokevirtual 167, 3) := dcq_786.2.2.2.1
theorem dL_law_1408 : decode cL_law 1408 = .ok (.pop, 1) := dcq_786.2.2.2.2.1
theorem dL_law_1409 : decode cL_law 1409 = .ok (.aload_n 2, 1) := dcq_786.2.2.2.2.2.1
theorem dL_law_1410 : decode cL_law 1410 = .ok (.aload_n 0, 1) := dcq_786.2.2.2.2.2.2.1
theorem dL_law_1411 : decode cL_law 1411 = .ok (.iload_n 3, 1) := dcq_786.2.2.2.2.2.2.2.1
theorem dL_law_1412 : decode cL_law 1412 = .ok (.iconst 1, 1) := dcq_786.2.2.2.2.2.2.2.2.1
theorem dL_law_1413 : decode cL_law 1413 = .ok (.iadd, 1) := dcq_786.2.2.2.2.2.2.2.2.2.1
theorem dL_law_1414 : decode cL_law 1414 = .ok (.iaload, 1) := dcq_786.2.2.2.2.2.2.2.2.2.2.1
theorem dL_law_1415 : decode cL_law 1415 = .ok (.aload_n 0, 1) := dcq_786.2.2.2.2.2.2.2.2.2.2.2
set_option maxRecDepth 20000 in
theorem dcb_787 : fd_B cL_law 1416 [29, 5, 96, 46, 42, 29, 6, 96, 46, 182, 0, 170, 87, 167, 0, 151] := fd_o cL_law 1416 _ (by decide +kernel)
theorem dcq_787 : (decode cL_law 1416 = .ok (.iload_n 3, 1)) ∧ (decode cL_law 1417 = .ok (.iconst 2, 1)) ∧ (decode cL_law 1418 = .ok (.iadd, 1)) ∧ (decode cL_law 1419 = .ok (.iaload, 1)) ∧ (decode cL_law 1420 = .ok (.aload_n 0, 1)) ∧ (decode cL_law 1421 = .ok (.iload_n 3, 1)) ∧ (decode cL_law 1422 = .ok (.iconst 3, 1)) ∧ (decode cL_law 1423 = .ok (.iadd, 1)) ∧ (decode cL_law 1424 = .ok (.iaload, 1)) ∧ (decode cL_law 1425 = .ok (.invokevirtual 170, 3)) ∧ (decode cL_law 1428 = .ok (.pop, 1)) ∧ (decode cL_law 1429 = .ok (.goto 151, 3)) := have h := dcb_787; ⟨fd_29 h, have h := fd_t1 h; ⟨fd_5 h, have h := fd_t1 h; ⟨fd_96 h, have h := fd_t1 h; ⟨fd_46 h, have h := fd_t1 h; ⟨fd_42 h, have h := fd_t1 h; ⟨fd_29 h, have h := fd_t1 h; ⟨fd_6 h, have h := fd_t1 h; ⟨fd_96 h, have h := fd_t1 h; ⟨fd_46 h, have h := fd_t1 h; ⟨fd_182 h rfl, have h := fd_t3 h; ⟨fd_87 h, have h := fd_t1 h; fd_167 h (by decide +kernel)⟩⟩⟩⟩⟩⟩⟩⟩⟩⟩⟩
theorem dL_law_1416 : decode cL_law 1416 = .ok (.iload_n 3, 1) := dcq_787.1
theorem dL_law_1417 : decode cL_law 1417 = .ok (.iconst 2, 1) := dcq_787.2.1
theorem dL_law_1418 : decode cL_law 1418 = .ok (.iadd, 1) := dcq_787.2.2.1
theorem dL_law_1419 : decode cL_law 1419 = .ok (.iaload, 1) := dcq_787.2.2.2.1
theorem dL_law_1420 : decode cL_law 1420 = .ok (.aload_n 0, 1) := dcq_787.2.2.2.2.1
theorem dL_law_1421 : decode cL_law 1421 = .ok (.iload_n 3, 1) := dcq_787.2.2.2.2.2.1
theorem dL_law_1422 : decode cL_law 1422 = .ok (.iconst 3, 1) := dcq_787.2.2.2.2.2.2.1
theorem dL_law_1423 : decode cL_law 1423 = .ok (.iadd, 1) := dcq_787.2.2.2.2.2.2.2.1
theorem dL_law_1424 : decode cL_law 1424 = .ok (.iaload, 1) := dcq_787.2.2.2.2.2.2.2.2.1
theorem dL_law_1425 : decode cL_law 1425 = .ok (.invokevirtual 170, 3) := dcq_787.2.2.2.2.2.2.2.2.2.1
theorem dL_law_1428 : decode cL_law 1428 = .ok (.pop, 1) := dcq_787.2.2.2.2.2.2.2.2.2.2.1
theorem dL_law_1429 : decode cL_law 1429 = .ok (.goto 151, 3) := dcq_787.2.2.2.2.2.2.2.2.2.2.2
set_option maxRecDepth 20000 in
theorem dcb_788 : fd_B cL_law 1432 [43, 42, 29, 4, 96, 46, 42, 29, 5, 96, 46, 182, 0, 171] := fd_o cL_law 1432 _ (by decide +kernel)
theorem dcq_788 : (decode cL_law 1432 = .ok (.aload_n 1, 1)) ∧ (decode cL_law 1433 = .ok (.aload_n 0, 1)) ∧ (decode cL_law 1434 = .ok (.iload_n 3, 1)) ∧ (decode cL_law 1435 = .ok (.iconst 1, 1)) ∧ (decode cL_law 1436 = .ok (.iadd, 1)) ∧ (decode cL_law 1437 = .ok (.iaload, 1)) ∧ (decode cL_law 1438 = .ok (.aload_n 0, 1)) ∧ (decode cL_law 1439 = .ok (.iload_n 3, 1)) ∧ (decode cL_law 1440 = .ok (.iconst 2, 1)) ∧ (decode cL_law 1441 = .ok (.iadd, 1)) ∧ (decode cL_law 1442 = .ok (.iaload, 1)) ∧ (decode cL_law 1443 = .ok (.invokevirtual 171, 3)) := have h := dcb_788; ⟨fd_43 h, have h := fd_t1 h; ⟨fd_42 h, have h := fd_t1 h; ⟨fd_29 h, have h := fd_t1 h; ⟨fd_4 h, have h := fd_t1 h; ⟨fd_96 h, have h := fd_t1 h; ⟨fd_46 h, have h := fd_t1 h; ⟨fd_42 h, have h := fd_t1 h; ⟨fd_29 h, have h := fd_t1 h; ⟨fd_5 h, have h := fd_t1 h; ⟨fd_96 h, have h := fd_t1 h; ⟨fd_46 h, have h := fd_t1 h; fd_182 h rfl⟩⟩⟩⟩⟩⟩⟩⟩⟩⟩⟩
theorem dL_law_1432 : decode cL_law 1432 = .ok (.aload_n 1, 1) := dcq_788.1
theorem dL_law_1433 : decode cL_law 1433 = .ok (.aload_n 0, 1) := dcq_788.2.1
theorem dL_law_1434 : decode cL_law 1434 = .ok (.iload_n 3, 1) := dcq_788.2.2.1
theorem dL_law_1435 : decode cL_law 1435 = .ok (.iconst 1, 1) := dcq_788.2.2.2.1
theorem dL_law_1436 : decode cL_law 1436 = .ok (.iadd, 1) := dcq_788.2.2.2.2.1
theorem dL_law_1437 : decode cL_law 1437 = .ok (.iaload, 1) := dcq_788.2.2.2.2.2.1
theorem dL_law_1438 : decode cL_law 1438 = .ok (.aload_n 0, 1) := dcq_788.2.2.2.2.2.2.1
theorem dL_law_1439 : decode cL_law 1439 = .ok (.iload_n 3, 1) := dcq_788.2.2.2.2.2.2.2.1
theorem dL_law_1440 : decode cL_law 1440 = .ok (.iconst 2, 1) := dcq_788.2.2.2.2.2.2.2.2.1
theorem dL_law_1441 : decode cL_law 1441 = .ok (.iadd, 1) := dcq_788.2.2.2.2.2.2.2.2.2.1
theorem dL_law_1442 : decode cL_law 1442 = .ok (.iaload, 1) := dcq_788.2.2.2.2.2.2.2.2.2.2.1
theorem dL_law_1443 : decode cL_law 1443 = .ok (.invokevirtual 171, 3) := dcq_788.2.2.2.2.2.2.2.2.2.2.2
set_option maxRecDepth 20000 in
theorem dcb_789 : fd_B cL_law 1446 [87, 44, 42, 29, 4, 96, 46, 42, 29, 5, 96, 46] := fd_o cL_law 1446 _ (by decide +kernel)
theorem dcq_789 : (decode cL_law 1446 = .ok (.pop, 1)) ∧ (decode cL_law 1447 = .ok (.aload_n 2, 1)) ∧ (decode cL_law 1448 = .ok (.aload_n 0, 1)) ∧ (decode cL_law 1449 = .ok (.iload_n 3, 1)) ∧ (decode cL_law 1450 = .ok (.iconst 1, 1)) ∧ (decode cL_law 1451 = .ok (.iadd, 1)) ∧ (decode cL_law 1452 = .ok (.iaload, 1)) ∧ (decode cL_law 1453 = .ok (.aload_n 0, 1)) ∧ (decode cL_law 1454 = .ok (.iload_n 3, 1)) ∧ (decode cL_law 1455 = .ok (.iconst 2, 1)) ∧ (decode cL_law 1456 = .ok (.iadd, 1)) ∧ (decode cL_law 1457 = .ok (.iaload, 1)) := have h := dcb_789; ⟨fd_87 h, have h := fd_t1 h; ⟨fd_44 h, have h := fd_t1 h; ⟨fd_42 h, have h := fd_t1 h; ⟨fd_29 h, have h := fd_t1 h; ⟨fd_4 h, have h := fd_t1 h; ⟨fd_96 h, have h := fd_t1 h; ⟨fd_46 h, have h := fd_t1 h; ⟨fd_42 h, have h := fd_t1 h; ⟨fd_29 h, have h := fd_t1 h; ⟨fd_5 h, have h := fd_t1 h; ⟨fd_96 h, have h := fd_t1 h; fd_46 h⟩⟩⟩⟩⟩⟩⟩⟩⟩⟩⟩
theorem dL_law_1446 : decode cL_law 1446 = .ok (.pop, 1) := dcq_789.1
theorem dL_law_1447 : decode cL_law 1447 = .ok (.aload_n 2, 1) := dcq_789.2.1
theorem dL_law_1448 : decode cL_law 1448 = .ok (.aload_n 0, 1) := dcq_789.2.2.1
theorem dL_law_1449 : decode cL_law 1449 = .ok (.iload_n 3, 1) := dcq_789.2.2.2.1
theorem dL_law_1450 : decode cL_law 1450 = .ok (.iconst 1, 1) := dcq_789.2.2.2.2.1
theorem dL_law_1451 : decode cL_law 1451 = .ok (.iadd, 1) := dcq_789.2.2.2.2.2.1
theorem dL_law_1452 : decode cL_law 1452 = .ok (.iaload, 1) := dcq_789.2.2.2.2.2.2.1
theorem dL_law_1453 : decode cL_law 1453 = .ok (.aload_n 0, 1) := dcq_789.2.2.2.2.2.2.2.1
theorem dL_law_1454 : decode cL_law 1454 = .ok (.iload_n 3, 1) := dcq_789.2.2.2.2.2.2.2.2.1
theorem dL_law_1455 : decode cL_law 1455 = .ok (.iconst 2, 1) := dcq_789.2.2.2.2.2.2.2.2.2.1
theorem dL_law_1456 : decode cL_law 1456 = .ok (.iadd, 1) := dcq_789.2.2.2.2.2.2.2.2.2.2.1
theorem dL_law_1457 : decode cL_law 1457 = .ok (.iaload, 1) := dcq_789.2.2.2.2.2.2.2.2.2.2.2
set_option maxRecDepth 20000 in
theorem dcb_790 : fd_B cL_law 1458 [182, 0, 174, 87, 167, 0, 118, 43, 42, 29, 4, 96, 46, 42, 29, 5] := fd_o cL_law 1458 _ (by decide +kernel)
theorem dcq_790 : (decode cL_law 1458 = .ok (.invokevirtual 174, 3)) ∧ (decode cL_law 1461 = .ok (.pop, 1)) ∧ (decode cL_law 1462 = .ok (.goto 118, 3)) ∧ (decode cL_law 1465 = .ok (.aload_n 1, 1)) ∧ (decode cL_law 1466 = .ok (.aload_n 0, 1)) ∧ (decode cL_law 1467 = .ok (.iload_n 3, 1)) ∧ (decode cL_law 1468 = .ok (.iconst 1, 1)) ∧ (decode cL_law 1469 = .ok (.iadd, 1)) ∧ (decode cL_law 1470 = .ok (.iaload, 1)) ∧ (decode cL_law 1471 = .ok (.aload_n 0, 1)) ∧ (decode cL_law 1472 = .ok (.iload_n 3, 1)) ∧ (decode cL_law 1473 = .ok (.iconst 2, 1)) := have h := dcb_790; ⟨fd_182 h rfl, have h := fd_t3 h; ⟨fd_87 h, have h := fd_t1 h; ⟨fd_167 h (by decide +kernel), have h := fd_t3 h; ⟨fd_43 h, have h := fd_t1 h; ⟨fd_42 h, have h := fd_t1 h; ⟨fd_29 h, have h := fd_t1 h; ⟨fd_4 h, have h := fd_t1 h; ⟨fd_96 h, have h := fd_t1 h; ⟨fd_46 h, have h := fd_t1 h; ⟨fd_42 h, have h := fd_t1 h; ⟨fd_29 h, have h := fd_t1 h; fd_5 h⟩⟩⟩⟩⟩⟩⟩⟩⟩⟩⟩
theorem dL_law_1458 : decode cL_law 1458 = .ok (.invokevirtual 174, 3) := dcq_790.1
theorem dL_law_1461 : decode cL_law 1461 = .ok (.pop, 1) := dcq_790.2.1
theorem dL_law_1462 : decode cL_law 1462 = .ok (.goto 118, 3) := dcq_790.2.2.1
theorem dL_law_1465 : decode cL_law 1465 = .ok (.aload_n 1, 1) := dcq_790.2.2.2.1
theorem dL_law_1466 : decode cL_law 1466 = .ok (.aload_n 0, 1) := dcq_790.2.2.2.2.1
theorem dL_law_1467 : decode cL_law 1467 = .ok (.iload_n 3, 1) := dcq_790.2.2.2.2.2.1
theorem dL_law_1468 : decode cL_law 1468 = .ok (.iconst 1, 1) := dcq_790.2.2.2.2.2.2.1
theorem dL_law_1469 : decode cL_law 1469 = .ok (.iadd, 1) := dcq_790.2.2.2.2.2.2.2.1
theorem dL_law_1470 : decode cL_law 1470 = .ok (.iaload, 1) := dcq_790.2.2.2.2.2.2.2.2.1
theorem dL_law_1471 : decode cL_law 1471 = .ok (.aload_n 0, 1) := dcq_790.2.2.2.2.2.2.2.2.2.1
theorem dL_law_1472 : decode cL_law 1472 = .ok (.iload_n 3, 1) := dcq_790.2.2.2.2.2.2.2.2.2.2.1
theorem dL_law_1473 : decode cL_law 1473 = .ok (.iconst 2, 1) := dcq_790.2.2.2.2.2.2.2.2.2.2.2
set_option maxRecDepth 20000 in
theorem dcb_791 : fd_B cL_law 1474 [96, 46, 42, 29, 6, 96, 46, 182, 0, 175, 87, 44, 42, 29] := fd_o cL_law 1474 _ (by decide +kernel)
theorem dcq_791 : (decode cL_law 1474 = .ok (.iadd, 1)) ∧ (decode cL_law 1475 = .ok (.iaload, 1)) ∧ (decode cL_law 1476 = .ok (.aload_n 0, 1)) ∧ (decode cL_law 1477 = .ok (.iload_n 3, 1)) ∧ (decode cL_law 1478 = .ok (.iconst 3, 1)) ∧ (decode cL_law 1479 = .ok (.iadd, 1)) ∧ (decode cL_law 1480 = .ok (.iaload, 1)) ∧ (decode cL_law 1481 = .ok (.invokevirtual 175, 3)) ∧ (decode cL_law 1484 = .ok (.pop, 1)) ∧ (decode cL_law 1485 = .ok (.aload_n 2, 1)) ∧ (decode cL_law 1486 = .ok (.aload_n 0, 1)) ∧ (decode cL_law 1487 = .ok (.iload_n 3, 1)) := have h := dcb_791; ⟨fd_96 h, have h := fd_t1 h; ⟨fd_46 h, have h := fd_t1 h; ⟨fd_42 h, have h := fd_t1 h; ⟨fd_29 h, have h := fd_t1 h; ⟨fd_6 h, have h := fd_t1 h; ⟨fd_96 h, have h := fd_t1 h; ⟨fd_46 h, have h := fd_t1 h; ⟨fd_182 h rfl, have h := fd_t3 h; ⟨fd_87 h, have h := fd_t1 h; ⟨fd_44 h, have h := fd_t1 h; ⟨fd_42 h, have h := fd_t1 h; fd_29 h⟩⟩⟩⟩⟩⟩⟩⟩⟩⟩⟩
theorem dL_law_1474 : decode cL_law 1474 = .ok (.iadd, 1) := dcq_791.1
theorem dL_law_1475 : decode cL_law 1475 = .ok (.iaload, 1) := dcq_791.2.1
theorem dL_law_1476 : decode cL_law 1476 = .ok (.aload_n 0, 1) := dcq_791.2.2.1
theorem dL_law_1477 : decode cL_law 1477 = .ok (.iload_n 3, 1) := dcq_791.2.2.2.1
theorem dL_law_1478 : decode cL_law 1478 = .ok (.iconst 3, 1) := dcq_791.2.2.2.2.1
theorem dL_law_1479 : decode cL_law 1479 = .ok (.iadd, 1) := dcq_791.2.2.2.2.2.1
theorem dL_law_1480 : decode cL_law 1480 = .ok (.iaload, 1) := dcq_791.2.2.2.2.2.2.1
theorem dL_law_1481 : decode cL_law 1481 = .ok (.invokevirtual 175, 3) := dcq_791.2.2.2.2.2.2.2.1
theorem dL_law_1484 : decode cL_law 1484 = .ok (.pop, 1) := dcq_791.2.2.2.2.2.2.2.2.1
theorem dL_law_1485 : decode cL_law 1485 = .ok (.aload_n 2, 1) := dcq_791.2.2.2.2.2.2.2.2.2.1
theorem dL_law_1486 : decode cL_law 1486 = .ok (.aload_n 0, 1) := dcq_791.2.2.2.2.2.2.2.2.2.2.1
theorem dL_law_1487 : decode cL_law 1487 = .ok (.iload_n 3, 1) := dcq_791.2.2.2.2.2.2.2.2.2.2.2
set_option maxRecDepth 20000 in
theorem dcb_792 : fd_B cL_law 1488 [4, 96, 46, 42, 29, 5, 96, 46, 42, 29, 6, 96] := fd_o cL_law 1488 _ (by decide +kernel)
theorem dcq_792 : (decode cL_law 1488 = .ok (.iconst 1, 1)) ∧ (decode cL_law 1489 = .ok (.iadd, 1)) ∧ (decode cL_law 1490 = .ok (.iaload, 1)) ∧ (decode cL_law 1491 = .ok (.aload_n 0, 1)) ∧ (decode cL_law 1492 = .ok (.iload_n 3, 1)) ∧ (decode cL_law 1493 = .ok (.iconst 2, 1)) ∧ (decode cL_law 1494 = .ok (.iadd, 1)) ∧ (decode cL_law 1495 = .ok (.iaload, 1)) ∧ (decode cL_law 1496 = .ok (.aload_n 0, 1)) ∧ (decode cL_law 1497 = .ok (.iload_n 3, 1)) ∧ (decode cL_law 1498 = .ok (.iconst 3, 1)) ∧ (decode cL_law 1499 = .ok (.iadd, 1)) := have h := dcb_792; ⟨fd_4 h, have h := fd_t1 h; ⟨fd_96 h, have h := fd_t1 h; ⟨fd_46 h, have h := fd_t1 h; ⟨fd_42 h, have h := fd_t1 h; ⟨fd_29 h, have h := fd_t1 h; ⟨fd_5 h, have h := fd_t1 h; ⟨fd_96 h, have h := fd_t1 h; ⟨fd_46 h, have h := fd_t1 h; ⟨fd_42 h, have h := fd_t1 h; ⟨fd_29 h, have h := fd_t1 h; ⟨fd_6 h, have h := fd_t1 h; fd_96 h⟩⟩⟩⟩⟩⟩⟩⟩⟩⟩⟩
theorem dL_law_1488 : decode cL_law 1488 = .ok (.iconst 1, 1) := dcq_792.1
theorem dL_law_1489 : decode cL_law 1489 = .ok (.iadd, 1) := dcq_792.2.1
theorem dL_law_1490 : decode cL_law 1490 = .ok (.iaload, 1) := dcq_792.2.2.1
theorem dL_law_1491 : decode cL_law 1491 = .ok (.aload_n 0, 1) := dcq_792.2.2.2.1
theorem dL_law_1492 : decode cL_law 1492 = .ok (.iload_n 3, 1) := dcq_792.2.2.2.2.1
theorem dL_law_1493 : decode cL_law 1493 = .ok (.iconst 2, 1) := dcq_792.2.2.2.2.2.1
theorem dL_law_1494 : decode cL_law 1494 = .ok (.iadd, 1) := dcq_792.2.2.2.2.2.2.1
theorem dL_law_1495 : decode cL_law 1495 = .ok (.iaload, 1) := dcq_792.2.2.2.2.2.2.2.1
theorem dL_law_1496 : decode cL_law 1496 = .ok (.aload_n 0, 1) := dcq_792.2.2.2.2.2.2.2.2.1
theorem dL_law_1497 : decode cL_law 1497 = .ok (.iload_n 3, 1) := dcq_792.2.2.2.2.2.2.2.2.2.1
theorem dL_law_1498 : decode cL_law 1498 = .ok (.iconst 3, 1) := dcq_792.2.2.2.2.2.2.2.2.2.2.1
theorem dL_law_1499 : decode cL_law 1499 = .ok (.iadd, 1) := dcq_792.2.2.2.2.2.2.2.2.2.2.2
set_option maxRecDepth 20000 in
theorem dcb_793 : fd_B cL_law 1500 [46, 182, 0, 178, 87, 167, 0, 75, 43, 42, 29, 4, 96, 46, 182, 0, 179, 87] := fd_o cL_law 1500 _ (by decide +kernel)
theorem dcq_793 : (decode cL_law 1500 = .ok (.iaload, 1)) ∧ (decode cL_law 1501 = .ok (.invokevirtual 178, 3)) ∧ (decode cL_law 1504 = .ok (.pop, 1)) ∧ (decode cL_law 1505 = .ok (.goto 75, 3)) ∧ (decode cL_law 1508 = .ok (.aload_n 1, 1)) ∧ (decode cL_law 1509 = .ok (.aload_n 0, 1)) ∧ (decode cL_law 1510 = .ok (.iload_n 3, 1)) ∧ (decode cL_law 1511 = .ok (.iconst 1, 1)) ∧ (decode cL_law 1512 = .ok (.iadd, 1)) ∧ (decode cL_law 1513 = .ok (.iaload, 1)) ∧ (decode cL_law 1514 = .ok (.invokevirtual 179, 3)) ∧ (decode cL_law 1517 = .ok (.pop, 1)) := have h := dcb_793; ⟨fd_46 h, have h := fd_t1 h; ⟨fd_182 h rfl, have h := fd_t3 h; ⟨fd_87 h, have h := fd_t1 h; ⟨fd_167 h (by decide +kernel), have h := fd_t3 h; ⟨fd_43 h, have h := fd_t1 h; ⟨fd_42 h, have h := fd_t1 h; ⟨fd_29 h, have h := fd_t1 h; ⟨fd_4 h, have h := fd_t1 h; ⟨fd_96 h, have h := fd_t1 h; ⟨fd_46 h, have h := fd_t1 h; ⟨fd_182 h rfl, have h := fd_t3 h; fd_87 h⟩⟩⟩⟩⟩⟩⟩⟩⟩⟩⟩
theorem dL_law_1500 : decode cL_law 1500 = .ok (.iaload, 1) := dcq_793.1
theorem dL_law_1501 : decode cL_law 1501 = .ok (.invokevirtual 178, 3) := dcq_793.2.1
theorem dL_law_1504 : decode cL_law 1504 = .ok (.pop, 1) := dcq_793.2.2.1
theorem dL_law_1505 : decode cL_law 1505 = .ok (.goto 75, 3) := dcq_793.2.2.2.1
theorem dL_law_1508 : decode cL_law 1508 = .ok (.aload_n 1, 1) := dcq_793.2.2.2.2.1
theorem dL_law_1509 : decode cL_law 1509 = .ok (.aload_n 0, 1) := dcq_793.2.2.2.2.2.1
theorem dL_law_1510 : decode cL_law 1510 = .ok (.iload_n 3, 1) := dcq_793.2.2.2.2.2.2.1
theorem dL_law_1511 : decode cL_law 1511 = .ok (.iconst 1, 1) := dcq_793.2.2.2.2.2.2.2.1
theorem dL_law_1512 : decode cL_law 1512 = .ok (.iadd, 1) := dcq_793.2.2.2.2.2.2.2.2.1
theorem dL_law_1513 : decode cL_law 1513 = .ok (.iaload, 1) := dcq_793.2.2.2.2.2.2.2.2.2.1
theorem dL_law_1514 : decode cL_law 1514 = .ok (.invokevirtual 179, 3) := dcq_793.2.2.2.2.2.2.2.2.2.2.1
theorem dL_law_1517 : decode cL_law 1517 = .ok (.pop, 1) := dcq_793.2.2.2.2.2.2.2.2.2.2.2
set_option maxRecDepth 20000 in
theorem dcb_794 : fd_B cL_law 1518 [44, 42, 29, 4, 96, 46, 182, 0, 182, 87, 167, 0, 52, 43, 42, 29] := fd_o cL_law 1518 _ (by decide +kernel)
theorem dcq_794 : (decode cL_law 1518 = .ok (.aload_n 2, 1)) ∧ (decode cL_law 1519 = .ok (.aload_n 0, 1)) ∧ (decode cL_law 1520 = .ok (.iload_n 3, 1)) ∧ (decode cL_law 1521 = .ok (.iconst 1, 1)) ∧ (decode cL_law 1522 = .ok (.iadd, 1)) ∧ (decode cL_law 1523 = .ok (.iaload, 1)) ∧ (decode cL_law 1524 = .ok (.invokevirtual 182, 3)) ∧ (decode cL_law 1527 = .ok (.pop, 1)) ∧ (decode cL_law 1528 = .ok (.goto 52, 3)) ∧ (decode cL_law 1531 = .ok (.aload_n 1, 1)) ∧ (decode cL_law 1532 = .ok (.aload_n 0, 1)) ∧ (decode cL_law 1533 = .ok (.iload_n 3, 1)) := have h := dcb_794; ⟨fd_44 h, have h := fd_t1 h; ⟨fd_42 h, have h := fd_t1 h; ⟨fd_29 h, have h := fd_t1 h; ⟨fd_4 h, have h := fd_t1 h; ⟨fd_96 h, have h := fd_t1 h; ⟨fd_46 h, have h := fd_t1 h; ⟨fd_182 h rfl, have h := fd_t3 h; ⟨fd_87 h, have h := fd_t1 h; ⟨fd_167 h (by decide +kernel), have h := fd_t3 h; ⟨fd_43 h, have h := fd_t1 h; ⟨fd_42 h, have h := fd_t1 h; fd_29 h⟩⟩⟩⟩⟩⟩⟩⟩⟩⟩⟩
theorem dL_law_1518 : decode cL_law 1518 = .ok (.aload_n 2, 1) := dcq_794.1
theorem dL_law_1519 : decode cL_law 1519 = .ok (.aload_n 0, 1) := dcq_794.2.1
theorem dL_law_1520 : decode cL_law 1520 = .ok (.iload_n 3, 1) := dcq_794.2.2.1
theorem dL_law_1521 : decode cL_law 1521 = .ok (.iconst 1, 1) := dcq_794.2.2.2.1
theorem dL_law_1522 : decode cL_law 1522 = .ok (.iadd, 1) := dcq_794.2.2.2.2.1
theorem dL_law_1523 : decode cL_law 1523 = .ok (.iaload, 1) := dcq_794.2.2.2.2.2.1
theorem dL_law_1524 : decode cL_law 1524 = .ok (.invokevirtual 182, 3) := dcq_794.2.2.2.2.2.2.1
theorem dL_law_1527 : decode cL_law 1527 = .ok (.pop, 1) := dcq_794.2.2.2.2.2.2.2.1
theorem dL_law_1528 : decode cL_law 1528 = .ok (.goto 52, 3) := dcq_794.2.2.2.2.2.2.2.2.1
theorem dL_law_1531 : decode cL_law 1531 = .ok (.aload_n 1, 1) := dcq_794.2.2.2.2.2.2.2.2.2.1
theorem dL_law_1532 : decode cL_law 1532 = .ok (.aload_n 0, 1) := dcq_794.2.2.2.2.2.2.2.2.2.2.1
theorem dL_law_1533 : decode cL_law 1533 = .ok (.iload_n 3, 1) := dcq_794.2.2.2.2.2.2.2.2.2.2.2
set_option maxRecDepth 20000 in
theorem dcb_795 : fd_B cL_law 1534 [4, 96, 46, 182, 0, 183, 87, 44, 42, 29, 4, 96, 46, 182, 0, 186] := fd_o cL_law 1534 _ (by decide +kernel)
theorem dcq_795 : (decode cL_law 1534 = .ok (.iconst 1, 1)) ∧ (decode cL_law 1535 = .ok (.iadd, 1)) ∧ (decode cL_law 1536 = .ok (.iaload, 1)) ∧ (decode cL_law 1537 = .ok (.invokevirtual 183, 3)) ∧ (decode cL_law 1540 = .ok (.pop, 1)) ∧ (decode cL_law 1541 = .ok (.aload_n 2, 1)) ∧ (decode cL_law 1542 = .ok (.aload_n 0, 1)) ∧ (decode cL_law 1543 = .ok (.iload_n 3, 1)) ∧ (decode cL_law 1544 = .ok (.iconst 1, 1)) ∧ (decode cL_law 1545 = .ok (.iadd, 1)) ∧ (decode cL_law 1546 = .ok (.iaload, 1)) ∧ (decode cL_law 1547 = .ok (.invokevirtual 186, 3)) := have h := dcb_795; ⟨fd_4 h, have h := fd_t1 h; ⟨fd_96 h, have h := fd_t1 h; ⟨fd_46 h, have h := fd_t1 h; ⟨fd_182 h rfl, have h := fd_t3 h; ⟨fd_87 h, have h := fd_t1 h; ⟨fd_44 h, have h := fd_t1 h; ⟨fd_42 h, have h := fd_t1 h; ⟨fd_29 h, have h := fd_t1 h; ⟨fd_4 h, have h := fd_t1 h; ⟨fd_96 h, have h := fd_t1 h; ⟨fd_46 h, have h := fd_t1 h; fd_182 h rfl⟩⟩⟩⟩⟩⟩⟩⟩⟩⟩⟩
theorem dL_law_1534 : decode cL_law 1534 = .ok (.iconst 1, 1) := dcq_795.1
theorem dL_law_1535 : decode cL_law 1535 = .ok (.iadd, 1) := dcq_795.2.1
theorem dL_law_1536 : decode cL_law 1536 = .ok (.iaload, 1) := dcq_795.2.2.1
theorem dL_law_1537 : decode cL_law 1537 = .ok (.invokevirtual 183, 3) := dcq_795.2.2.2.1
theorem dL_law_1540 : decode cL_law 1540 = .ok (.pop, 1) := dcq_795.2.2.2.2.1
theorem dL_law_1541 : decode cL_law 1541 = .ok (.aload_n 2, 1) := dcq_795.2.2.2.2.2.1
theorem dL_law_1542 : decode cL_law 1542 = .ok (.aload_n 0, 1) := dcq_795.2.2.2.2.2.2.1
theorem dL_law_1543 : decode cL_law 1543 = .ok (.iload_n 3, 1) := dcq_795.2.2.2.2.2.2.2.1
theorem dL_law_1544 : decode cL_law 1544 = .ok (.iconst 1, 1) := dcq_795.2.2.2.2.2.2.2.2.1
theorem dL_law_1545 : decode cL_law 1545 = .ok (.iadd, 1) := dcq_795.2.2.2.2.2.2.2.2.2.1
theorem dL_law_1546 : decode cL_law 1546 = .ok (.iaload, 1) := dcq_795.2.2.2.2.2.2.2.2.2.2.1
theorem dL_law_1547 : decode cL_law 1547 = .ok (.invokevirtual 186, 3) := dcq_795.2.2.2.2.2.2.2.2.2.2.2
set_option maxRecDepth 20000 in
theorem dcb_796 : fd_B cL_law 1550 [87, 167, 0, 29, 43, 182, 0, 187, 87, 44, 182, 0, 190, 87, 167, 0, 16, 43, 182, 0, 191, 87] := fd_o cL_law 1550 _ (by decide +kernel)
theorem dcq_796 : (decode cL_law 1550 = .ok (.pop, 1)) ∧ (decode cL_law 1551 = .ok (.goto 29, 3)) ∧ (decode cL_law 1554 = .ok (.aload_n 1, 1)) ∧ (decode cL_law 1555 = .ok (.invokevirtual 187, 3)) ∧ (decode cL_law 1558 = .ok (.pop, 1)) ∧ (decode cL_law 1559 = .ok (.aload_n 2, 1)) ∧ (decode cL_law 1560 = .ok (.invokevirtual 190, 3)) ∧ (decode cL_law 1563 = .ok (.pop, 1)) ∧ (decode cL_law 1564 = .ok (.goto 16, 3)) ∧ (decode cL_law 1567 = .ok (.aload_n 1, 1)) ∧ (decode cL_law 1568 = .ok (.invokevirtual 191, 3)) ∧ (decode cL_law 1571 = .ok (.pop, 1)) := have h := dcb_796; ⟨fd_87 h, have h := fd_t1 h; ⟨fd_167 h (by decide +kernel), have h := fd_t3 h; ⟨fd_43 h, have h := fd_t1 h; ⟨fd_182 h rfl, have h := fd_t3 h; ⟨fd_87 h, have h := fd_t1 h; ⟨fd_44 h, have h := fd_t1 h; ⟨fd_182 h rfl, have h := fd_t3 h; ⟨fd_87 h, have h := fd_t1 h; ⟨fd_167 h (by decide +kernel), have h := fd_t3 h; ⟨fd_43 h, have h := fd_t1 h; ⟨fd_182 h rfl, have h := fd_t3 h; fd_87 h⟩⟩⟩⟩⟩⟩⟩⟩⟩⟩⟩
theorem dL_law_1550 : decode cL_law 1550 = .ok (.pop, 1) := dcq_796.1
theorem dL_law_1551 : decode cL_law 1551 = .ok (.goto 29, 3) := dcq_796.2.1
theorem dL_law_1554 : decode cL_law 1554 = .ok (.aload_n 1, 1) := dcq_796.2.2.1
theorem dL_law_1555 : decode cL_law 1555 = .ok (.invokevirtual 187, 3) := dcq_796.2.2.2.1
theorem dL_law_1558 : decode cL_law 1558 = .ok (.pop, 1) := dcq_796.2.2.2.2.1
theorem dL_law_1559 : decode cL_law 1559 = .ok (.aload_n 2, 1) := dcq_796.2.2.2.2.2.1
theorem dL_law_1560 : decode cL_law 1560 = .ok (.invokevirtual 190, 3) := dcq_796.2.2.2.2.2.2.1
theorem dL_law_1563 : decode cL_law 1563 = .ok (.pop, 1) := dcq_796.2.2.2.2.2.2.2.1
theorem dL_law_1564 : decode cL_law 1564 = .ok (.goto 16, 3) := dcq_796.2.2.2.2.2.2.2.2.1
theorem dL_law_1567 : decode cL_law 1567 = .ok (.aload_n 1, 1) := dcq_796.2.2.2.2.2.2.2.2.2.1
theorem dL_law_1568 : decode cL_law 1568 = .ok (.invokevirtual 191, 3) := dcq_796.2.2.2.2.2.2.2.2.2.2.1
theorem dL_law_1571 : decode cL_law 1571 = .ok (.pop, 1) := dcq_796.2.2.2.2.2.2.2.2.2.2.2
set_option maxRecDepth 20000 in
theorem dcb_797 : fd_B cL_law 1572 [44, 182, 0, 194, 87, 167, 0, 3, 132, 3, 5, 167, 249, 227, 4, 172] := fd_o cL_law 1572 _ (by decide +kernel)
theorem dcq_797 : (decode cL_law 1572 = .ok (.aload_n 2, 1)) ∧ (decode cL_law 1573 = .ok (.invokevirtual 194, 3)) ∧ (decode cL_law 1576 = .ok (.pop, 1)) ∧ (decode cL_law 1577 = .ok (.goto 3, 3)) ∧ (decode cL_law 1580 = .ok (.iinc 3 5, 3)) ∧ (decode cL_law 1583 = .ok (.goto (-1565), 3)) ∧ (decode cL_law 1586 = .ok (.iconst 1, 1)) ∧ (decode cL_law 1587 = .ok (.ireturn, 1)) := have h := dcb_797; ⟨fd_44 h, have h := fd_t1 h; ⟨fd_182 h rfl, have h := fd_t3 h; ⟨fd_87 h, have h := fd_t1 h; ⟨fd_167 h (by decide +kernel), have h := fd_t3 h; ⟨fd_132 h rfl (by decide +kernel), have h := fd_t3 h; ⟨fd_167 h (by decide +kernel), have h := fd_t3 h; ⟨fd_4 h, have h := fd_t1 h; fd_172 h⟩⟩⟩⟩⟩⟩⟩
theorem dL_law_1572 : decode cL_law 1572 = .ok (.aload_n 2, 1) := dcq_797.1
theorem dL_law_1573 : decode cL_law 1573 = .ok (.invokevirtual 194, 3) := dcq_797.2.1
theorem dL_law_1576 : decode cL_law 1576 = .ok (.pop, 1) := dcq_797.2.2.1
theorem dL_law_1577 : decode cL_law 1577 = .ok (.goto 3, 3) := dcq_797.2.2.2.1
theorem dL_law_1580 : decode cL_law 1580 = .ok (.iinc 3 5, 3) := dcq_797.2.2.2.2.1
theorem dL_law_1583 : decode cL_law 1583 = .ok (.goto (-1565), 3) := dcq_797.2.2.2.2.2.1
theorem dL_law_1586 : decode cL_law 1586 = .ok (.iconst 1, 1) := dcq_797.2.2.2.2.2.2.1
theorem dL_law_1587 : decode cL_law 1587 = .ok (.ireturn, 1) := dcq_797.2.2.2.2.2.2.2
