-- decode rows: a program laid them
theorem dL_law_1328 : decode cL_law 1328 = .ok (.aload_n 0, 1) := dcq_780.2.2.2.2.2.2.2.2.1
theorem dL_law_1329 : decode cL_law 1329 = .ok (.iload_n 3, 1) := dcq_780.2.2.2.2.2.2.2.2.2.1
theorem dL_law_1330 : decode cL_law 1330 = .ok (.iconst 2, 1) := dcq_780.2.2.2.2.2.2.2.2.2.2.1
theorem dL_law_1331 : decode cL_law 1331 = .ok (.iadd, 1) := dcq_780.2.2.2.2.2.2.2.2.2.2.2
set_option maxRecDepth 20000 in
theorem dcb_781 : fd_B cL_law 1332 [46, 42, 29, 6, 96, 46, 182, 0, 162, 87, 167, 0, 237, 43, 42, 29] := fd_o cL_law 1332 _ (by decide +kernel)
theorem dcq_781 : (decode cL_law 1332 = .ok (.iaload, 1)) ∧ (decode cL_law 1333 = .ok (.aload_n 0, 1)) ∧ (decode cL_law 1334 = .ok (.iload_n 3, 1)) ∧ (decode cL_law 1335 = .ok (.iconst 3, 1)) ∧ (decode cL_law 1336 = .ok (.iadd, 1)) ∧ (decode cL_law 1337 = .ok (.iaload, 1)) ∧ (decode cL_law 1338 = .ok (.invokevirtual 162, 3)) ∧ (decode cL_law 1341 = .ok (.pop, 1)) ∧ (decode cL_law 1342 = .ok (.goto 237, 3)) ∧ (decode cL_law 1345 = .ok (.aload_n 1, 1)) ∧ (decode cL_law 1346 = .ok (.aload_n 0, 1)) ∧ (decode cL_law 1347 = .ok (.iload_n 3, 1)) := have h := dcb_781; ⟨fd_46 h, have h := fd_t1 h; ⟨fd_42 h, have h := fd_t1 h; ⟨fd_29 h, have h := fd_t1 h; ⟨fd_6 h, have h := fd_t1 h; ⟨fd_96 h, have h := fd_t1 h; ⟨fd_46 h, have h := fd_t1 h; ⟨fd_182 h rfl, have h := fd_t3 h; ⟨fd_87 h, have h := fd_t1 h; ⟨fd_167 h (by decide +kernel), have h := fd_t3 h; ⟨fd_43 h, have h := fd_t1 h; ⟨fd_42 h, have h := fd_t1 h; fd_29 h⟩⟩⟩⟩⟩⟩⟩⟩⟩⟩⟩
theorem dL_law_1332 : decode cL_law 1332 = .ok (.iaload, 1) := dcq_781.1
theorem dL_law_1333 : decode cL_law 1333 = .ok (.aload_n 0, 1) := dcq_781.2.1
theorem dL_law_1334 : decode cL_law 1334 = .ok (.iload_n 3, 1) := dcq_781.2.2.1
theorem dL_law_1335 : decode cL_law 1335 = .ok (.iconst 3, 1) := dcq_781.2.2.2.1
theorem dL_law_1336 : decode cL_law 1336 = .ok (.iadd, 1) := dcq_781.2.2.2.2.1
theorem dL_law_1337 : decode cL_law 1337 = .ok (.iaload, 1) := dcq_781.2.2.2.2.2.1
theorem dL_law_1338 : decode cL_law 1338 = .ok (.invokevirtual 162, 3) := dcq_781.2.2.2.2.2.2.1
theorem dL_law_1341 : decode cL_law 1341 = .ok (.pop, 1) := dcq_781.2.2.2.2.2.2.2.1
theorem dL_law_1342 : decode cL_law 1342 = .ok (.goto 237, 3) := dcq_781.2.2.2.2.2.2.2.2.1
theorem dL_law_1345 : decode cL_law 1345 = .ok (.aload_n 1, 1) := dcq_781.2.2.2.2.2.2.2.2.2.1
theorem dL_law_1346 : decode cL_law 1346 = .ok (.aload_n 0, 1) := dcq_781.2.2.2.2.2.2.2.2.2.2.1
theorem dL_law_1347 : decode cL_law 1347 = .ok (.iload_n 3, 1) := dcq_781.2.2.2.2.2.2.2.2.2.2.2
set_option maxRecDepth 20000 in
theorem dcb_782 : fd_B cL_law 1348 [4, 96, 46, 42, 29, 5, 96, 46, 42, 29, 6, 96] := fd_o cL_law 1348 _ (by decide +kernel)
theorem dcq_782 : (decode cL_law 1348 = .ok (.iconst 1, 1)) ∧ (decode cL_law 1349 = .ok (.iadd, 1)) ∧ (decode cL_law 1350 = .ok (.iaload, 1)) ∧ (decode cL_law 1351 = .ok (.aload_n 0, 1)) ∧ (decode cL_law 1352 = .ok (.iload_n 3, 1)) ∧ (decode cL_law 1353 = .ok (.iconst 2, 1)) ∧ (decode cL_law 1354 = .ok (.iadd, 1)) ∧ (decode cL_law 1355 = .ok (.iaload, 1)) ∧ (decode cL_law 1356 = .ok (.aload_n 0, 1)) ∧ (decode cL_law 1357 = .ok (.iload_n 3, 1)) ∧ (decode cL_law 1358 = .ok (.iconst 3, 1)) ∧ (decode cL_law 1359 = .ok (.iadd, 1)) := have h := dcb_782; ⟨fd_4 h, have h := fd_t1 h; ⟨fd_96 h, have h := fd_t1 h; ⟨fd_46 h, have h := fd_t1 h; ⟨fd_42 h, have h := fd_t1 h; ⟨fd_29 h, have h := fd_t1 h; ⟨fd_5 h, have h := fd_t1 h; ⟨fd_96 h, have h := fd_t1 h; ⟨fd_46 h, have h := fd_t1 h; ⟨fd_42 h, have h := fd_t1 h; ⟨fd_29 h, have h := fd_t1 h; ⟨fd_6 h, have h := fd_t1 h; fd_96 h⟩⟩⟩⟩⟩⟩⟩⟩⟩⟩⟩
theorem dL_law_1348 : decode cL_law 1348 = .ok (.iconst 1, 1) := dcq_782.1
theorem dL_law_1349 : decode cL_law 1349 = .ok (.iadd, 1) := dcq_782.2.1
theorem dL_law_1350 : decode cL_law 1350 = .ok (.iaload, 1) := dcq_782.2.2.1
theorem dL_law_1351 : decode cL_law 1351 = .ok (.aload_n 0, 1) := dcq_782.2.2.2.1
theorem dL_law_1352 : decode cL_law 1352 = .ok (.iload_n 3, 1) := dcq_782.2.2.2.2.1
theorem dL_law_1353 : decode cL_law 1353 = .ok (.iconst 2, 1) := dcq_782.2.2.2.2.2.1
theorem dL_law_1354 : decode cL_law 1354 = .ok (.iadd, 1) := dcq_782.2.2.2.2.2.2.1
theorem dL_law_1355 : decode cL_law 1355 = .ok (.iaload, 1) := dcq_782.2.2.2.2.2.2.2.1
theorem dL_law_1356 : decode cL_law 1356 = .ok (.aload_n 0, 1) := dcq_782.2.2.2.2.2.2.2.2.1
theorem dL_law_1357 : decode cL_law 1357 = .ok (.iload_n 3, 1) := dcq_782.2.2.2.2.2.2.2.2.2.1
theorem dL_law_1358 : decode cL_law 1358 = .ok (.iconst 3, 1) := dcq_782.2.2.2.2.2.2.2.2.2.2.1
theorem dL_law_1359 : decode cL_law 1359 = .ok (.iadd, 1) := dcq_782.2.2.2.2.2.2.2.2.2.2.2
set_option maxRecDepth 20000 in
theorem dcb_783 : fd_B cL_law 1360 [46, 182, 0, 163, 87, 44, 42, 29, 4, 96, 46, 42, 29, 5] := fd_o cL_law 1360 _ (by decide +kernel)
theorem dcq_783 : (decode cL_law 1360 = .ok (.iaload, 1)) ∧ (decode cL_law 1361 = .ok (.invokevirtual 163, 3)) ∧ (decode cL_law 1364 = .ok (.pop, 1)) ∧ (decode cL_law 1365 = .ok (.aload_n 2, 1)) ∧ (decode cL_law 1366 = .ok (.aload_n 0, 1)) ∧ (decode cL_law 1367 = .ok (.iload_n 3, 1)) ∧ (decode cL_law 1368 = .ok (.iconst 1, 1)) ∧ (decode cL_law 1369 = .ok (.iadd, 1)) ∧ (decode cL_law 1370 = .ok (.iaload, 1)) ∧ (decode cL_law 1371 = .ok (.aload_n 0, 1)) ∧ (decode cL_law 1372 = .ok (.iload_n 3, 1)) ∧ (decode cL_law 1373 = .ok (.iconst 2, 1)) := have h := dcb_783; ⟨fd_46 h, have h := fd_t1 h; ⟨fd_182 h rfl, have h := fd_t3 h; ⟨fd_87 h, have h := fd_t1 h; ⟨fd_44 h, have h := fd_t1 h; ⟨fd_42 h, have h := fd_t1 h; ⟨fd_29 h, have h := fd_t1 h; ⟨fd_4 h, have h := fd_t1 h; ⟨fd_96 h, have h := fd_t1 h; ⟨fd_46 h, have h := fd_t1 h; ⟨fd_42 h, have h := fd_t1 h; ⟨fd_29 h, have h := fd_t1 h; fd_5 h⟩⟩⟩⟩⟩⟩⟩⟩⟩⟩⟩
theorem dL_law_1360 : decode cL_law 1360 = .ok (.iaload, 1) := dcq_783.1
theorem dL_law_1361 : decode cL_law 1361 = .ok (.invokevirtual 163, 3) := dcq_783.2.1
theorem dL_law_1364 : decode cL_law 1364 = .ok (.pop, 1) := dcq_783.2.2.1
theorem dL_law_1365 : decode cL_law 1365 = .ok (.aload_n 2, 1) := dcq_783.2.2.2.1
theorem dL_law_1366 : decode cL_law 1366 = .ok (.aload_n 0, 1) := dcq_783.2.2.2.2.1
theorem dL_law_1367 : decode cL_law 1367 = .ok (.iload_n 3, 1) := dcq_783.2.2.2.2.2.1
theorem dL_law_1368 : decode cL_law 1368 = .ok (.iconst 1, 1) := dcq_783.2.2.2.2.2.2.1
theorem dL_law_1369 : decode cL_law 1369 = .ok (.iadd, 1) := dcq_783.2.2.2.2.2.2.2.1
theorem dL_law_1370 : decode cL_law 1370 = .ok (.iaload, 1) := dcq_783.2.2.2.2.2.2.2.2.1
theorem dL_law_1371 : decode cL_law 1371 = .ok (.aload_n 0, 1) := dcq_783.2.2.2.2.2.2.2.2.2.1
theorem dL_law_1372 : decode cL_law 1372 = .ok (.iload_n 3, 1) := dcq_783.2.2.2.2.2.2.2.2.2.2.1
theorem dL_law_1373 : decode cL_law 1373 = .ok (.iconst 2, 1) := dcq_783.2.2.2.2.2.2.2.2.2.2.2
set_option maxRecDepth 20000 in
theorem dcb_784 : fd_B cL_law 1374 [96, 46, 42, 29, 6, 96, 46, 182, 0, 166, 87, 167, 0, 194, 43, 42] := fd_o cL_law 1374 _ (by decide +kernel)
theorem dcq_784 : (decode cL_law 1374 = .ok (.iadd, 1)) ∧ (decode cL_law 1375 = .ok (.iaload, 1)) ∧ (decode cL_law 1376 = .ok (.aload_n 0, 1)) ∧ (decode cL_law 1377 = .ok (.iload_n 3, 1)) ∧ (decode cL_law 1378 = .ok (.iconst 3, 1)) ∧ (decode cL_law 1379 = .ok (.iadd, 1)) ∧ (decode cL_law 1380 = .ok (.iaload, 1)) ∧ (decode cL_law 1381 = .ok (.invokevirtual 166, 3)) ∧ (decode cL_law 1384 = .ok (.pop, 1)) ∧ (decode cL_law 1385 = .ok (.goto 194, 3)) ∧ (decode cL_law 1388 = .ok (.aload_n 1, 1)) ∧ (decode cL_law 1389 = .ok (.aload_n 0, 1)) := have h := dcb_784; ⟨fd_96 h, have h := fd_t1 h; ⟨fd_46 h, have h := fd_t1 h; ⟨fd_42 h, have h := fd_t1 h; ⟨fd_29 h, have h := fd_t1 h; ⟨fd_6 h, have h := fd_t1 h; ⟨fd_96 h, have h := fd_t1 h; ⟨fd_46 h, have h := fd_t1 h; ⟨fd_182 h rfl, have h := fd_t3 h; ⟨fd_87 h, have h := fd_t1 h; ⟨fd_167 h (by decide +kernel), have h := fd_t3 h; ⟨fd_43 h, have h := fd_t1 h; fd_42 h⟩⟩⟩⟩⟩⟩⟩⟩⟩⟩⟩
theorem dL_law_1374 : decode cL_law 1374 = .ok (.iadd, 1) := dcq_784.1
theorem dL_law_1375 : decode cL_law 1375 = .ok (.iaload, 1) := dcq_784.2.1
theorem dL_law_1376 : decode cL_law 1376 = .ok (.aload_n 0, 1) := dcq_784.2.2.1
theorem dL_law_1377 : decode cL_law 1377 = .ok (.iload_n 3, 1) := dcq_784.2.2.2.1
theorem dL_law_1378 : decode cL_law 1378 = .ok (.iconst 3, 1) := dcq_784.2.2.2.2.1
theorem dL_law_1379 : decode cL_law 1379 = .ok (.iadd, 1) := dcq_784.2.2.2.2.2.1
theorem dL_law_1380 : decode cL_law 1380 = .ok (.iaload, 1) := dcq_784.2.2.2.2.2.2.1
theorem dL_law_1381 : decode cL_law 1381 = .ok (.invokevirtual 166, 3) := dcq_784.2.2.2.2.2.2.2.1
theorem dL_law_1384 : decode cL_law 1384 = .ok (.pop, 1) := dcq_784.2.2.2.2.2.2.2.2.1
theorem dL_law_1385 : decode cL_law 1385 = .ok (.goto 194, 3) := dcq_784.2.2.2.2.2.2.2.2.2.1
theorem dL_law_1388 : decode cL_law 1388 = .ok (.aload_n 1, 1) := dcq_784.2.2.2.2.2.2.2.2.2.2.1
theorem dL_law_1389 : decode cL_law 1389 = .ok (.aload_n 0, 1) := dcq_784.2.2.2.2.2.2.2.2.2.2.2
set_option maxRecDepth 20000 in
theorem dcb_785 : fd_B cL_law 1390 [29, 4, 96, 46, 42, 29, 5, 96, 46, 42, 29, 6] := fd_o cL_law 1390 _ (by decide +kernel)
theorem dcq_785 : (decode cL_law 1390 = .ok (.iload_n 3, 1)) ∧ (decode cL_law 1391 = .ok (.iconst 1, 1)) ∧ (decode cL_law 1392 = .ok (.iadd, 1)) ∧ (decode cL_law 1393 = .ok (.iaload, 1)) ∧ (decode cL_law 1394 = .ok (.aload_n 0, 1)) ∧ (decode cL_law 1395 = .ok (.iload_n 3, 1)) ∧ (decode cL_law 1396 = .ok (.iconst 2, 1)) ∧ (decode cL_law 1397 = .ok (.iadd, 1)) ∧ (decode cL_law 1398 = .ok (.iaload, 1)) ∧ (decode cL_law 1399 = .ok (.aload_n 0, 1)) ∧ (decode cL_law 1400 = .ok (.iload_n 3, 1)) ∧ (decode cL_law 1401 = .ok (.iconst 3, 1)) := have h := dcb_785; ⟨fd_29 h, have h := fd_t1 h; ⟨fd_4 h, have h := fd_t1 h; ⟨fd_96 h, have h := fd_t1 h; ⟨fd_46 h, have h := fd_t1 h; ⟨fd_42 h, have h := fd_t1 h; ⟨fd_29 h, have h := fd_t1 h; ⟨fd_5 h, have h := fd_t1 h; ⟨fd_96 h, have h := fd_t1 h; ⟨fd_46 h, have h := fd_t1 h; ⟨fd_42 h, have h := fd_t1 h; ⟨fd_29 h, have h := fd_t1 h; fd_6 h⟩⟩⟩⟩⟩⟩⟩⟩⟩⟩⟩
theorem dL_law_1390 : decode cL_law 1390 = .ok (.iload_n 3, 1) := dcq_785.1
theorem dL_law_1391 : decode cL_law 1391 = .ok (.iconst 1, 1) := dcq_785.2.1
theorem dL_law_1392 : decode cL_law 1392 = .ok (.iadd, 1) := dcq_785.2.2.1
theorem dL_law_1393 : decode cL_law 1393 = .ok (.iaload, 1) := dcq_785.2.2.2.1
theorem dL_law_1394 : decode cL_law 1394 = .ok (.aload_n 0, 1) := dcq_785.2.2.2.2.1
theorem dL_law_1395 : decode cL_law 1395 = .ok (.iload_n 3, 1) := dcq_785.2.2.2.2.2.1
theorem dL_law_1396 : decode cL_law 1396 = .ok (.iconst 2, 1) := dcq_785.2.2.2.2.2.2.1
theorem dL_law_1397 : decode cL_law 1397 = .ok (.iadd, 1) := dcq_785.2.2.2.2.2.2.2.1
theorem dL_law_1398 : decode cL_law 1398 = .ok (.iaload, 1) := dcq_785.2.2.2.2.2.2.2.2.1
theorem dL_law_1399 : decode cL_law 1399 = .ok (.aload_n 0, 1) := dcq_785.2.2.2.2.2.2.2.2.2.1
theorem dL_law_1400 : decode cL_law 1400 = .ok (.iload_n 3, 1) := dcq_785.2.2.2.2.2.2.2.2.2.2.1
theorem dL_law_1401 : decode cL_law 1401 = .ok (.iconst 3, 1) := dcq_785.2.2.2.2.2.2.2.2.2.2.2
set_option maxRecDepth 20000 in
theorem dcb_786 : fd_B cL_law 1402 [96, 46, 182, 0, 167, 87, 44, 42, 29, 4, 96, 46, 42, 29] := fd_o cL_law 1402 _ (by decide +kernel)
theorem dcq_786 : (decode cL_law 1402 = .ok (.iadd, 1)) ∧ (decode cL_law 1403 = .ok (.iaload, 1)) ∧ (decode cL_law 1404 = .ok (.invokevirtual 167, 3)) ∧ (decode cL_law 1407 = .ok (.pop, 1)) ∧ (decode cL_law 1408 = .ok (.aload_n 2, 1)) ∧ (decode cL_law 1409 = .ok (.aload_n 0, 1)) ∧ (decode cL_law 1410 = .ok (.iload_n 3, 1)) ∧ (decode cL_law 1411 = .ok (.iconst 1, 1)) ∧ (decode cL_law 1412 = .ok (.iadd, 1)) ∧ (decode cL_law 1413 = .ok (.iaload, 1)) ∧ (decode cL_law 1414 = .ok (.aload_n 0, 1)) ∧ (decode cL_law 1415 = .ok (.iload_n 3, 1)) := have h := dcb_786; ⟨fd_96 h, have h := fd_t1 h; ⟨fd_46 h, have h := fd_t1 h; ⟨fd_182 h rfl, have h := fd_t3 h; ⟨fd_87 h, have h := fd_t1 h; ⟨fd_44 h, have h := fd_t1 h; ⟨fd_42 h, have h := fd_t1 h; ⟨fd_29 h, have h := fd_t1 h; ⟨fd_4 h, have h := fd_t1 h; ⟨fd_96 h, have h := fd_t1 h; ⟨fd_46 h, have h := fd_t1 h; ⟨fd_42 h, have h := fd_t1 h; fd_29 h⟩⟩⟩⟩⟩⟩⟩⟩⟩⟩⟩
theorem dL_law_1402 : decode cL_law 1402 = .ok (.iadd, 1) := dcq_786.1
theorem dL_law_1403 : decode cL_law 1403 = .ok (.iaload, 1) := dcq_786.2.1
theorem dL_law_1404 : decode cL_law 1404 = .ok (.invokevirtual 167, 3) := dcq_786.2.2.1
theorem dL_law_1407 : decode cL_law 1407 = .ok (.pop, 1) := dcq_786.2.2.2.1
theorem dL_law_1408 : decode cL_law 1408 = .ok (.aload_n 2, 1) := dcq_786.2.2.2.2.1
theorem dL_law_1409 : decode cL_law 1409 = .ok (.aload_n 0, 1) := dcq_786.2.2.2.2.2.1
theorem dL_law_1410 : decode cL_law 1410 = .ok (.iload_n 3, 1) := dcq_786.2.2.2.2.2.2.1
theorem dL_law_1411 : decode cL_law 1411 = .ok (.iconst 1, 1) := dcq_786.2.2.2.2.2.2.2.1
theorem dL_law_1412 : decode cL_law 1412 = .ok (.iadd, 1) := dcq_786.2.2.2.2.2.2.2.2.1
theorem dL_law_1413 : decode cL_law 1413 = .ok (.iaload, 1) := dcq_786.2.2.2.2.2.2.2.2.2.1
theorem dL_law_1414 : decode cL_law 1414 = .ok (.aload_n 0, 1) := dcq_786.2.2.2.2.2.2.2.2.2.2.1
theorem dL_law_1415 : decode cL_law 1415 = .ok (.iload_n 3, 1) := dcq_786.2.2.2.2.2.2.2.2.2.2.2
set_option maxRecDepth 20000 in
theorem dcb_787 : fd_B cL_law 1416 [5, 96, 46, 42, 29, 6, 96, 46, 182, 0, 170, 87, 167, 0, 151, 43] := fd_o cL_law 1416 _ (by decide +kernel)
theorem dcq_787 : (decode cL_law 1416 = .ok (.iconst 2, 1)) ∧ (decode cL_law 1417 = .ok (.iadd, 1)) ∧ (decode cL_law 1418 = .ok (.iaload, 1)) ∧ (decode cL_law 1419 = .ok (.aload_n 0, 1)) ∧ (decode cL_law 1420 = .ok (.iload_n 3, 1)) ∧ (decode cL_law 1421 = .ok (.iconst 3, 1)) ∧ (decode cL_law 1422 = .ok (.iadd, 1)) ∧ (decode cL_law 1423 = .ok (.iaload, 1)) ∧ (decode cL_law 1424 = .ok (.invokevirtual 170, 3)) ∧ (decode cL_law 1427 = .ok (.pop, 1)) ∧ (decode cL_law 1428 = .ok (.goto 151, 3)) ∧ (decode cL_law 1431 = .ok (.aload_n 1, 1)) := have h := dcb_787; ⟨fd_5 h, have h := fd_t1 h; ⟨fd_96 h, have h := fd_t1 h; ⟨fd_46 h, have h := fd_t1 h; ⟨fd_42 h, have h := fd_t1 h; ⟨fd_29 h, have h := fd_t1 h; ⟨fd_6 h, have h := fd_t1 h; ⟨fd_96 h, have h := fd_t1 h; ⟨fd_46 h, have h := fd_t1 h; ⟨fd_182 h rfl, have h := fd_t3 h; ⟨fd_87 h, have h := fd_t1 h; ⟨fd_167 h (by decide +kernel), have h := fd_t3 h; fd_43 h⟩⟩⟩⟩⟩⟩⟩⟩⟩⟩⟩
theorem dL_law_1416 : decode cL_law 1416 = .ok (.iconst 2, 1) := dcq_787.1
theorem dL_law_1417 : decode cL_law 1417 = .ok (.iadd, 1) := dcq_787.2.1
theorem dL_law_1418 : decode cL_law 1418 = .ok (.iaload, 1) := dcq_787.2.2.1
theorem dL_law_1419 : decode cL_law 1419 = .ok (.aload_n 0, 1) := dcq_787.2.2.2.1
theorem dL_law_1420 : decode cL_law 1420 = .ok (.iload_n 3, 1) := dcq_787.2.2.2.2.1
theorem dL_law_1421 : decode cL_law 1421 = .ok (.iconst 3, 1) := dcq_787.2.2.2.2.2.1
theorem dL_law_1422 : decode cL_law 1422 = .ok (.iadd, 1) := dcq_787.2.2.2.2.2.2.1
theorem dL_law_1423 : decode cL_law 1423 = .ok (.iaload, 1) := dcq_787.2.2.2.2.2.2.2.1
theorem dL_law_1424 : decode cL_law 1424 = .ok (.invokevirtual 170, 3) := dcq_787.2.2.2.2.2.2.2.2.1
theorem dL_law_1427 : decode cL_law 1427 = .ok (.pop, 1) := dcq_787.2.2.2.2.2.2.2.2.2.1
theorem dL_law_1428 : decode cL_law 1428 = .ok (.goto 151, 3) := dcq_787.2.2.2.2.2.2.2.2.2.2.1
theorem dL_law_1431 : decode cL_law 1431 = .ok (.aload_n 1, 1) := dcq_787.2.2.2.2.2.2.2.2.2.2.2
set_option maxRecDepth 20000 in
theorem dcb_788 : fd_B cL_law 1432 [42, 29, 4, 96, 46, 42, 29, 5, 96, 46, 182, 0, 171, 87] := fd_o cL_law 1432 _ (by decide +kernel)
theorem dcq_788 : (decode cL_law 1432 = .ok (.aload_n 0, 1)) ∧ (decode cL_law 1433 = .ok (.iload_n 3, 1)) ∧ (decode cL_law 1434 = .ok (.iconst 1, 1)) ∧ (decode cL_law 1435 = .ok (.iadd, 1)) ∧ (decode cL_law 1436 = .ok (.iaload, 1)) ∧ (decode cL_law 1437 = .ok (.aload_n 0, 1)) ∧ (decode cL_law 1438 = .ok (.iload_n 3, 1)) ∧ (decode cL_law 1439 = .ok (.iconst 2, 1)) ∧ (decode cL_law 1440 = .ok (.iadd, 1)) ∧ (decode cL_law 1441 = .ok (.iaload, 1)) ∧ (decode cL_law 1442 = .ok (.invokevirtual 171, 3)) ∧ (decode cL_law 1445 = .ok (.pop, 1)) := have h := dcb_788; ⟨fd_42 h, have h := fd_t1 h; ⟨fd_29 h, have h := fd_t1 h; ⟨fd_4 h, have h := fd_t1 h; ⟨fd_96 h, have h := fd_t1 h; ⟨fd_46 h, have h := fd_t1 h; ⟨fd_42 h, have h := fd_t1 h; ⟨fd_29 h, have h := fd_t1 h; ⟨fd_5 h, have h := fd_t1 h; ⟨fd_96 h, have h := fd_t1 h; ⟨fd_46 h, have h := fd_t1 h; ⟨fd_182 h rfl, have h := fd_t3 h; fd_87 h⟩⟩⟩⟩⟩⟩⟩⟩⟩⟩⟩
theorem dL_law_1432 : decode cL_law 1432 = .ok (.aload_n 0, 1) := dcq_788.1
theorem dL_law_1433 : decode cL_law 1433 = .ok (.iload_n 3, 1) := dcq_788.2.1
theorem dL_law_1434 : decode cL_law 1434 = .ok (.iconst 1, 1) := dcq_788.2.2.1
theorem dL_law_1435 : decode cL_law 1435 = .ok (.iadd, 1) := dcq_788.2.2.2.1
theorem dL_law_1436 : decode cL_law 1436 = .ok (.iaload, 1) := dcq_788.2.2.2.2.1
theorem dL_law_1437 : decode cL_law 1437 = .ok (.aload_n 0, 1) := dcq_788.2.2.2.2.2.1
theorem dL_law_1438 : decode cL_law 1438 = .ok (.iload_n 3, 1) := dcq_788.2.2.2.2.2.2.1
theorem dL_law_1439 : decode cL_law 1439 = .ok (.iconst 2, 1) := dcq_788.2.2.2.2.2.2.2.1
theorem dL_law_1440 : decode cL_law 1440 = .ok (.iadd, 1) := dcq_788.2.2.2.2.2.2.2.2.1
theorem dL_law_1441 : decode cL_law 1441 = .ok (.iaload, 1) := dcq_788.2.2.2.2.2.2.2.2.2.1
theorem dL_law_1442 : decode cL_law 1442 = .ok (.invokevirtual 171, 3) := dcq_788.2.2.2.2.2.2.2.2.2.2.1
theorem dL_law_1445 : decode cL_law 1445 = .ok (.pop, 1) := dcq_788.2.2.2.2.2.2.2.2.2.2.2
set_option maxRecDepth 20000 in
theorem dcb_789 : fd_B cL_law 1446 [44, 42, 29, 4, 96, 46, 42, 29, 5, 96, 46, 182, 0, 174] := fd_o cL_law 1446 _ (by decide +kernel)
theorem dcq_789 : (decode cL_law 1446 = .ok (.aload_n 2, 1)) ∧ (decode cL_law 1447 = .ok (.aload_n 0, 1)) ∧ (decode cL_law 1448 = .ok (.iload_n 3, 1)) ∧ (decode cL_law 1449 = .ok (.iconst 1, 1)) ∧ (decode cL_law 1450 = .ok (.iadd, 1)) ∧ (decode cL_law 1451 = .ok (.iaload, 1)) ∧ (decode cL_law 1452 = .ok (.aload_n 0, 1)) ∧ (decode cL_law 1453 = .ok (.iload_n 3, 1)) ∧ (decode cL_law 1454 = .ok (.iconst 2, 1)) ∧ (decode cL_law 1455 = .ok (.iadd, 1)) ∧ (decode cL_law 1456 = .ok (.iaload, 1)) ∧ (decode cL_law 1457 = .ok (.invokevirtual 174, 3)) := have h := dcb_789; ⟨fd_44 h, have h := fd_t1 h; ⟨fd_42 h, have h := fd_t1 h; ⟨fd_29 h, have h := fd_t1 h; ⟨fd_4 h, have h := fd_t1 h; ⟨fd_96 h, have h := fd_t1 h; ⟨fd_46 h, have h := fd_t1 h; ⟨fd_42 h, have h := fd_t1 h; ⟨fd_29 h, have h := fd_t1 h; ⟨fd_5 h, have h := fd_t1 h; ⟨fd_96 h, have h := fd_t1 h; ⟨fd_46 h, have h := fd_t1 h; fd_182 h rfl⟩⟩⟩⟩⟩⟩⟩⟩⟩⟩⟩
theorem dL_law_1446 : decode cL_law 1446 = .ok (.aload_n 2, 1) := dcq_789.1
theorem dL_law_1447 : decode cL_law 1447 = .ok (.aload_n 0, 1) := dcq_789.2.1
theorem dL_law_1448 : decode cL_law 1448 = .ok (.iload_n 3, 1) := dcq_789.2.2.1
theorem dL_law_1449 : decode cL_law 1449 = .ok (.iconst 1, 1) := dcq_789.2.2.2.1
theorem dL_law_1450 : decode cL_law 1450 = .ok (.iadd, 1) := dcq_789.2.2.2.2.1
theorem dL_law_1451 : decode cL_law 1451 = .ok (.iaload, 1) := dcq_789.2.2.2.2.2.1
theorem dL_law_1452 : decode cL_law 1452 = .ok (.aload_n 0, 1) := dcq_789.2.2.2.2.2.2.1
theorem dL_law_1453 : decode cL_law 1453 = .ok (.iload_n 3, 1) := dcq_789.2.2.2.2.2.2.2.1
theorem dL_law_1454 : decode cL_law 1454 = .ok (.iconst 2, 1) := dcq_789.2.2.2.2.2.2.2.2.1
theorem dL_law_1455 : decode cL_law 1455 = .ok (.iadd, 1) := dcq_789.2.2.2.2.2.2.2.2.2.1
theorem dL_law_1456 : decode cL_law 1456 = .ok (.iaload, 1) := dcq_789.2.2.2.2.2.2.2.2.2.2.1
theorem dL_law_1457 : decode cL_law 1457 = .ok (.invokevirtual 174, 3) := dcq_789.2.2.2.2.2.2.2.2.2.2.2
set_option maxRecDepth 20000 in
theorem dcb_790 : fd_B cL_law 1460 [87, 167, 0, 118, 43, 42, 29, 4, 96, 46, 42, 29, 5, 96] := fd_o cL_law 1460 _ (by decide +kernel)
theorem dcq_790 : (decode cL_law 1460 = .ok (.pop, 1)) ∧ (decode cL_law 1461 = .ok (.goto 118, 3)) ∧ (decode cL_law 1464 = .ok (.aload_n 1, 1)) ∧ (decode cL_law 1465 = .ok (.aload_n 0, 1)) ∧ (decode cL_law 1466 = .ok (.iload_n 3, 1)) ∧ (decode cL_law 1467 = .ok (.iconst 1, 1)) ∧ (decode cL_law 1468 = .ok (.iadd, 1)) ∧ (decode cL_law 1469 = .ok (.iaload, 1)) ∧ (decode cL_law 1470 = .ok (.aload_n 0, 1)) ∧ (decode cL_law 1471 = .ok (.iload_n 3, 1)) ∧ (decode cL_law 1472 = .ok (.iconst 2, 1)) ∧ (decode cL_law 1473 = .ok (.iadd, 1)) := have h := dcb_790; ⟨fd_87 h, have h := fd_t1 h; ⟨fd_167 h (by decide +kernel), have h := fd_t3 h; ⟨fd_43 h, have h := fd_t1 h; ⟨fd_42 h, have h := fd_t1 h; ⟨fd_29 h, have h := fd_t1 h; ⟨fd_4 h, have h := fd_t1 h; ⟨fd_96 h, have h := fd_t1 h; ⟨fd_46 h, have h := fd_t1 h; ⟨fd_42 h, have h := fd_t1 h; ⟨fd_29 h, have h := fd_t1 h; ⟨fd_5 h, have h := fd_t1 h; fd_96 h⟩⟩⟩⟩⟩⟩⟩⟩⟩⟩⟩
theorem dL_law_1460 : decode cL_law 1460 = .ok (.pop, 1) := dcq_790.1
theorem dL_law_1461 : decode cL_law 1461 = .ok (.goto 118, 3) := dcq_790.2.1
theorem dL_law_1464 : decode cL_law 1464 = .ok (.aload_n 1, 1) := dcq_790.2.2.1
theorem dL_law_1465 : decode cL_law 1465 = .ok (.aload_n 0, 1) := dcq_790.2.2.2.1
theorem dL_law_1466 : decode cL_law 1466 = .ok (.iload_n 3, 1) := dcq_790.2.2.2.2.1
theorem dL_law_1467 : decode cL_law 1467 = .ok (.iconst 1, 1) := dcq_790.2.2.2.2.2.1
theorem dL_law_1468 : decode cL_law 1468 = .ok (.iadd, 1) := dcq_790.2.2.2.2.2.2.1
theorem dL_law_1469 : decode cL_law 1469 = .ok (.iaload, 1) := dcq_790.2.2.2.2.2.2.2.1
theorem dL_law_1470 : decode cL_law 1470 = .ok (.aload_n 0, 1) := dcq_790.2.2.2.2.2.2.2.2.1
theorem dL_law_1471 : decode cL_law 1471 = .ok (.iload_n 3, 1) := dcq_790.2.2.2.2.2.2.2.2.2.1
theorem dL_law_1472 : decode cL_law 1472 = .ok (.iconst 2, 1) := dcq_790.2.2.2.2.2.2.2.2.2.2.1
theorem dL_law_1473 : decode cL_law 1473 = .ok (.iadd, 1) := dcq_790.2.2.2.2.2.2.2.2.2.2.2
set_option maxRecDepth 20000 in
theorem dcb_791 : fd_B cL_law 1474 [46, 42, 29, 6, 96, 46, 182, 0, 175, 87, 44, 42, 29, 4] := fd_o cL_law 1474 _ (by decide +kernel)
theorem dcq_791 : (decode cL_law 1474 = .ok (.iaload, 1)) ∧ (decode cL_law 1475 = .ok (.aload_n 0, 1)) ∧ (decode cL_law 1476 = .ok (.iload_n 3, 1)) ∧ (decode cL_law 1477 = .ok (.iconst 3, 1)) ∧ (decode cL_law 1478 = .ok (.iadd, 1)) ∧ (decode cL_law 1479 = .ok (.iaload, 1)) ∧ (decode cL_law 1480 = .ok (.invokevirtual 175, 3)) ∧ (decode cL_law 1483 = .ok (.pop, 1)) ∧ (decode cL_law 1484 = .ok (.aload_n 2, 1)) ∧ (decode cL_law 1485 = .ok (.aload_n 0, 1)) ∧ (decode cL_law 1486 = .ok (.iload_n 3, 1)) ∧ (decode cL_law 1487 = .ok (.iconst 1, 1)) := have h := dcb_791; ⟨fd_46 h, have h := fd_t1 h; ⟨fd_42 h, have h := fd_t1 h; ⟨fd_29 h, have h := fd_t1 h; ⟨fd_6 h, have h := fd_t1 h; ⟨fd_96 h, have h := fd_t1 h; ⟨fd_46 h, have h := fd_t1 h; ⟨fd_182 h rfl, have h := fd_t3 h; ⟨fd_87 h, have h := fd_t1 h; ⟨fd_44 h, have h := fd_t1 h; ⟨fd_42 h, have h := fd_t1 h; ⟨fd_29 h, have h := fd_t1 h; fd_4 h⟩⟩⟩⟩⟩⟩⟩⟩⟩⟩⟩
theorem dL_law_1474 : decode cL_law 1474 = .ok (.iaload, 1) := dcq_791.1
theorem dL_law_1475 : decode cL_law 1475 = .ok (.aload_n 0, 1) := dcq_791.2.1
theorem dL_law_1476 : decode cL_law 1476 = .ok (.iload_n 3, 1) := dcq_791.2.2.1
theorem dL_law_1477 : decode cL_law 1477 = .ok (.iconst 3, 1) := dcq_791.2.2.2.1
theorem dL_law_1478 : decode cL_law 1478 = .ok (.iadd, 1) := dcq_791.2.2.2.2.1
theorem dL_law_1479 : decode cL_law 1479 = .ok (.iaload, 1) := dcq_791.2.2.2.2.2.1
theorem dL_law_1480 : decode cL_law 1480 = .ok (.invokevirtual 175, 3) := dcq_791.2.2.2.2.2.2.1
theorem dL_law_1483 : decode cL_law 1483 = .ok (.pop, 1) := dcq_791.2.2.2.2.2.2.2.1
theorem dL_law_1484 : decode cL_law 1484 = .ok (.aload_n 2, 1) := dcq_791.2.2.2.2.2.2.2.2.1
theorem dL_law_1485 : decode cL_law 1485 = .ok (.aload_n 0, 1) := dcq_791.2.2.2.2.2.2.2.2.2.1
theorem dL_law_1486 : decode cL_law 1486 = .ok (.iload_n 3, 1) := dcq_791.2.2.2.2.2.2.2.2.2.2.1
theorem dL_law_1487 : decode cL_law 1487 = .ok (.iconst 1, 1) := dcq_791.2.2.2.2.2.2.2.2.2.2.2
set_option maxRecDepth 20000 in
theorem dcb_792 : fd_B cL_law 1488 [96, 46, 42, 29, 5, 96, 46, 42, 29, 6, 96, 46] := fd_o cL_law 1488 _ (by decide +kernel)
theorem dcq_792 : (decode cL_law 1488 = .ok (.iadd, 1)) ∧ (decode cL_law 1489 = .ok (.iaload, 1)) ∧ (decode cL_law 1490 = .ok (.aload_n 0, 1)) ∧ (decode cL_law 1491 = .ok (.iload_n 3, 1)) ∧ (decode cL_law 1492 = .ok (.iconst 2, 1)) ∧ (decode cL_law 1493 = .ok (.iadd, 1)) ∧ (decode cL_law 1494 = .ok (.iaload, 1)) ∧ (decode cL_law 1495 = .ok (.aload_n 0, 1)) ∧ (decode cL_law 1496 = .ok (.iload_n 3, 1)) ∧ (decode cL_law 1497 = .ok (.iconst 3, 1)) ∧ (decode cL_law 1498 = .ok (.iadd, 1)) ∧ (decode cL_law 1499 = .ok (.iaload, 1)) := have h := dcb_792; ⟨fd_96 h, have h := fd_t1 h; ⟨fd_46 h, have h := fd_t1 h; ⟨fd_42 h, have h := fd_t1 h; ⟨fd_29 h, have h := fd_t1 h; ⟨fd_5 h, have h := fd_t1 h; ⟨fd_96 h, have h := fd_t1 h; ⟨fd_46 h, have h := fd_t1 h; ⟨fd_42 h, have h := fd_t1 h; ⟨fd_29 h, have h := fd_t1 h; ⟨fd_6 h, have h := fd_t1 h; ⟨fd_96 h, have h := fd_t1 h; fd_46 h⟩⟩⟩⟩⟩⟩⟩⟩⟩⟩⟩
theorem dL_law_1488 : decode cL_law 1488 = .ok (.iadd, 1) := dcq_792.1
theorem dL_law_1489 : decode cL_law 1489 = .ok (.iaload, 1) := dcq_792.2.1
theorem dL_law_1490 : decode cL_law 1490 = .ok (.aload_n 0, 1) := dcq_792.2.2.1
theorem dL_law_1491 : decode cL_law 1491 = .ok (.iload_n 3, 1) := dcq_792.2.2.2.1
theorem dL_law_1492 : decode cL_law 1492 = .ok (.iconst 2, 1) := dcq_792.2.2.2.2.1
theorem dL_law_1493 : decode cL_law 1493 = .ok (.iadd, 1) := dcq_792.2.2.2.2.2.1
theorem dL_law_1494 : decode cL_law 1494 = .ok (.iaload, 1) := dcq_792.2.2.2.2.2.2.1
theorem dL_law_1495 : decode cL_law 1495 = .ok (.aload_n 0, 1) := dcq_792.2.2.2.2.2.2.2.1
theorem dL_law_1496 : decode cL_law 1496 = .ok (.iload_n 3, 1) := dcq_792.2.2.2.2.2.2.2.2.1
theorem dL_law_1497 : decode cL_law 1497 = .ok (.iconst 3, 1) := dcq_792.2.2.2.2.2.2.2.2.2.1
theorem dL_law_1498 : decode cL_law 1498 = .ok (.iadd, 1) := dcq_792.2.2.2.2.2.2.2.2.2.2.1
theorem dL_law_1499 : decode cL_law 1499 = .ok (.iaload, 1) := dcq_792.2.2.2.2.2.2.2.2.2.2.2
set_option maxRecDepth 20000 in
theorem dcb_793 : fd_B cL_law 1500 [182, 0, 178, 87, 167, 0, 75, 43, 42, 29, 4, 96, 46, 182, 0, 179, 87, 44] := fd_o cL_law 1500 _ (by decide +kernel)
theorem dcq_793 : (decode cL_law 1500 = .ok (.invokevirtual 178, 3)) ∧ (decode cL_law 1503 = .ok (.pop, 1)) ∧ (decode cL_law 1504 = .ok (.goto 75, 3)) ∧ (decode cL_law 1507 = .ok (.aload_n 1, 1)) ∧ (decode cL_law 1508 = .ok (.aload_n 0, 1)) ∧ (decode cL_law 1509 = .ok (.iload_n 3, 1)) ∧ (decode cL_law 1510 = .ok (.iconst 1, 1)) ∧ (decode cL_law 1511 = .ok (.iadd, 1)) ∧ (decode cL_law 1512 = .ok (.iaload, 1)) ∧ (decode cL_law 1513 = .ok (.invokevirtual 179, 3)) ∧ (decode cL_law 1516 = .ok (.pop, 1)) ∧ (decode cL_law 1517 = .ok (.aload_n 2, 1)) := have h := dcb_793; ⟨fd_182 h rfl, have h := fd_t3 h; ⟨fd_87 h, have h := fd_t1 h; ⟨fd_167 h (by decide +kernel), have h := fd_t3 h; ⟨fd_43 h, have h := fd_t1 h; ⟨fd_42 h, have h := fd_t1 h; ⟨fd_29 h, have h := fd_t1 h; ⟨fd_4 h, have h := fd_t1 h; ⟨fd_96 h, have h := fd_t1 h; ⟨fd_46 h, have h := fd_t1 h; ⟨fd_182 h rfl, have h := fd_t3 h; ⟨fd_87 h, have h := fd_t1 h; fd_44 h⟩⟩⟩⟩⟩⟩⟩⟩⟩⟩⟩
theorem dL_law_1500 : decode cL_law 1500 = .ok (.invokevirtual 178, 3) := dcq_793.1
theorem dL_law_1503 : decode cL_law 1503 = .ok (.pop, 1) := dcq_793.2.1
theorem dL_law_1504 : decode cL_law 1504 = .ok (.goto 75, 3) := dcq_793.2.2.1
theorem dL_law_1507 : decode cL_law 1507 = .ok (.aload_n 1, 1) := dcq_793.2.2.2.1
theorem dL_law_1508 : decode cL_law 1508 = .ok (.aload_n 0, 1) := dcq_793.2.2.2.2.1
theorem dL_law_1509 : decode cL_law 1509 = .ok (.iload_n 3, 1) := dcq_793.2.2.2.2.2.1
theorem dL_law_1510 : decode cL_law 1510 = .ok (.iconst 1, 1) := dcq_793.2.2.2.2.2.2.1
theorem dL_law_1511 : decode cL_law 1511 = .ok (.iadd, 1) := dcq_793.2.2.2.2.2.2.2.1
theorem dL_law_1512 : decode cL_law 1512 = .ok (.iaload, 1) := dcq_793.2.2.2.2.2.2.2.2.1
theorem dL_law_1513 : decode cL_law 1513 = .ok (.invokevirtual 179, 3) := dcq_793.2.2.2.2.2.2.2.2.2.1
theorem dL_law_1516 : decode cL_law 1516 = .ok (.pop, 1) := dcq_793.2.2.2.2.2.2.2.2.2.2.1
theorem dL_law_1517 : decode cL_law 1517 = .ok (.aload_n 2, 1) := dcq_793.2.2.2.2.2.2.2.2.2.2.2
set_option maxRecDepth 20000 in
theorem dcb_794 : fd_B cL_law 1518 [42, 29, 4, 96, 46, 182, 0, 182, 87, 167, 0, 52, 43, 42, 29, 4] := fd_o cL_law 1518 _ (by decide +kernel)
theorem dcq_794 : (decode cL_law 1518 = .ok (.aload_n 0, 1)) ∧ (decode cL_law 1519 = .ok (.iload_n 3, 1)) ∧ (decode cL_law 1520 = .ok (.iconst 1, 1)) ∧ (decode cL_law 1521 = .ok (.iadd, 1)) ∧ (decode cL_law 1522 = .ok (.iaload, 1)) ∧ (decode cL_law 1523 = .ok (.invokevirtual 182, 3)) ∧ (decode cL_law 1526 = .ok (.pop, 1)) ∧ (decode cL_law 1527 = .ok (.goto 52, 3)) ∧ (decode cL_law 1530 = .ok (.aload_n 1, 1)) ∧ (decode cL_law 1531 = .ok (.aload_n 0, 1)) ∧ (decode cL_law 1532 = .ok (.iload_n 3, 1)) ∧ (decode cL_law 1533 = .ok (.iconst 1, 1)) := have h := dcb_794; ⟨fd_42 h, have h := fd_t1 h; ⟨fd_29 h, have h := fd_t1 h; ⟨fd_4 h, have h := fd_t1 h; ⟨fd_96 h, have h := fd_t1 h; ⟨fd_46 h, have h := fd_t1 h; ⟨fd_182 h rfl, have h := fd_t3 h; ⟨fd_87 h, have h := fd_t1 h; ⟨fd_167 h (by decide +kernel), have h := fd_t3 h; ⟨fd_43 h, have h := fd_t1 h; ⟨fd_42 h, have h := fd_t1 h; ⟨fd_29 h, have h := fd_t1 h; fd_4 h⟩⟩⟩⟩⟩⟩⟩⟩⟩⟩⟩
theorem dL_law_1518 : decode cL_law 1518 = .ok (.aload_n 0, 1) := dcq_794.1
theorem dL_law_1519 : decode cL_law 1519 = .ok (.iload_n 3, 1) := dcq_794.2.1
theorem dL_law_1520 : decode cL_law 1520 = .ok (.iconst 1, 1) := dcq_794.2.2.1
theorem dL_law_1521 : decode cL_law 1521 = .ok (.iadd, 1) := dcq_794.2.2.2.1
theorem dL_law_1522 : decode cL_law 1522 = .ok (.iaload, 1) := dcq_794.2.2.2.2.1
theorem dL_law_1523 : decode cL_law 1523 = .ok (.invokevirtual 182, 3) := dcq_794.2.2.2.2.2.1
theorem dL_law_1526 : decode cL_law 1526 = .ok (.pop, 1) := dcq_794.2.2.2.2.2.2.1
theorem dL_law_1527 : decode cL_law 1527 = .ok (.goto 52, 3) := dcq_794.2.2.2.2.2.2.2.1
theorem dL_law_1530 : decode cL_law 1530 = .ok (.aload_n 1, 1) := dcq_794.2.2.2.2.2.2.2.2.1
theorem dL_law_1531 : decode cL_law 1531 = .ok (.aload_n 0, 1) := dcq_794.2.2.2.2.2.2.2.2.2.1
theorem dL_law_1532 : decode cL_law 1532 = .ok (.iload_n 3, 1) := dcq_794.2.2.2.2.2.2.2.2.2.2.1
theorem dL_law_1533 : decode cL_law 1533 = .ok (.iconst 1, 1) := dcq_794.2.2.2.2.2.2.2.2.2.2.2
set_option maxRecDepth 20000 in
theorem dcb_795 : fd_B cL_law 1534 [96, 46, 182, 0, 183, 87, 44, 42, 29, 4, 96, 46, 182, 0, 186, 87] := fd_o cL_law 1534 _ (by decide +kernel)
theorem dcq_795 : (decode cL_law 1534 = .ok (.iadd, 1)) ∧ (decode cL_law 1535 = .ok (.iaload, 1)) ∧ (decode cL_law 1536 = .ok (.invokevirtual 183, 3)) ∧ (decode cL_law 1539 = .ok (.pop, 1)) ∧ (decode cL_law 1540 = .ok (.aload_n 2, 1)) ∧ (decode cL_law 1541 = .ok (.aload_n 0, 1)) ∧ (decode cL_law 1542 = .ok (.iload_n 3, 1)) ∧ (decode cL_law 1543 = .ok (.iconst 1, 1)) ∧ (decode cL_law 1544 = .ok (.iadd, 1)) ∧ (decode cL_law 1545 = .ok (.iaload, 1)) ∧ (decode cL_law 1546 = .ok (.invokevirtual 186, 3)) ∧ (decode cL_law 1549 = .ok (.pop, 1)) := have h := dcb_795; ⟨fd_96 h, have h := fd_t1 h; ⟨fd_46 h, have h := fd_t1 h; ⟨fd_182 h rfl, have h := fd_t3 h; ⟨fd_87 h, have h := fd_t1 h; ⟨fd_44 h, have h := fd_t1 h; ⟨fd_42 h, have h := fd_t1 h; ⟨fd_29 h, have h := fd_t1 h; ⟨fd_4 h, have h := fd_t1 h; ⟨fd_96 h, have h := fd_t1 h; ⟨fd_46 h, have h := fd_t1 h; ⟨fd_182 h rfl, have h := fd_t3 h; fd_87 h⟩⟩⟩⟩⟩⟩⟩⟩⟩⟩⟩
theorem dL_law_1534 : decode cL_law 1534 = .ok (.iadd, 1) := dcq_795.1
theorem dL_law_1535 : decode cL_law 1535 = .ok (.iaload, 1) := dcq_795.2.1
theorem dL_law_1536 : decode cL_law 1536 = .ok (.invokevirtual 183, 3) := dcq_795.2.2.1
theorem dL_law_1539 : decode cL_law 1539 = .ok (.pop, 1) := dcq_795.2.2.2.1
theorem dL_law_1540 : decode cL_law 1540 = .ok (.aload_n 2, 1) := dcq_795.2.2.2.2.1
theorem dL_law_1541 : decode cL_law 1541 = .ok (.aload_n 0, 1) := dcq_795.2.2.2.2.2.1
theorem dL_law_1542 : decode cL_law 1542 = .ok (.iload_n 3, 1) := dcq_795.2.2.2.2.2.2.1
theorem dL_law_1543 : decode cL_law 1543 = .ok (.iconst 1, 1) := dcq_795.2.2.2.2.2.2.2.1
theorem dL_law_1544 : decode cL_law 1544 = .ok (.iadd, 1) := dcq_795.2.2.2.2.2.2.2.2.1
theorem dL_law_1545 : decode cL_law 1545 = .ok (.iaload, 1) := dcq_795.2.2.2.2.2.2.2.2.2.1
theorem dL_law_1546 : decode cL_law 1546 = .ok (.invokevirtual 186, 3) := dcq_795.2.2.2.2.2.2.2.2.2.2.1
theorem dL_law_1549 : decode cL_law 1549 = .ok (.pop, 1) := dcq_795.2.2.2.2.2.2.2.2.2.2.2
set_option maxRecDepth 20000 in
theorem dcb_796 : fd_B cL_law 1550 [167, 0, 29, 43, 182, 0, 187, 87, 44, 182, 0, 190, 87, 167, 0, 16, 43, 182, 0, 191, 44, 182, 0, 194] := fd_o cL_law 1550 _ (by decide +kernel)
theorem dcq_796 : (decode cL_law 1550 = .ok (.goto 29, 3)) ∧ (decode cL_law 1553 = .ok (.aload_n 1, 1)) ∧ (decode cL_law 1554 = .ok (.invokevirtual 187, 3)) ∧ (decode cL_law 1557 = .ok (.pop, 1)) ∧ (decode cL_law 1558 = .ok (.aload_n 2, 1)) ∧ (decode cL_law 1559 = .ok (.invokevirtual 190, 3)) ∧ (decode cL_law 1562 = .ok (.pop, 1)) ∧ (decode cL_law 1563 = .ok (.goto 16, 3)) ∧ (decode cL_law 1566 = .ok (.aload_n 1, 1)) ∧ (decode cL_law 1567 = .ok (.invokevirtual 191, 3)) ∧ (decode cL_law 1570 = .ok (.aload_n 2, 1)) ∧ (decode cL_law 1571 = .ok (.invokevirtual 194, 3)) := have h := dcb_796; ⟨fd_167 h (by decide +kernel), have h := fd_t3 h; ⟨fd_43 h, have h := fd_t1 h; ⟨fd_182 h rfl, have h := fd_t3 h; ⟨fd_87 h, have h := fd_t1 h; ⟨fd_44 h, have h := fd_t1 h; ⟨fd_182 h rfl, have h := fd_t3 h; ⟨fd_87 h, have h := fd_t1 h; ⟨fd_167 h (by decide +kernel), have h := fd_t3 h; ⟨fd_43 h, have h := fd_t1 h; ⟨fd_182 h rfl, have h := fd_t3 h; ⟨fd_44 h, have h := fd_t1 h; fd_182 h rfl⟩⟩⟩⟩⟩⟩⟩⟩⟩⟩⟩
theorem dL_law_1550 : decode cL_law 1550 = .ok (.goto 29, 3) := dcq_796.1
theorem dL_law_1553 : decode cL_law 1553 = .ok (.aload_n 1, 1) := dcq_796.2.1
theorem dL_law_1554 : decode cL_law 1554 = .ok (.invokevirtual 187, 3) := dcq_796.2.2.1
theorem dL_law_1557 : decode cL_law 1557 = .ok (.pop, 1) := dcq_796.2.2.2.1
theorem dL_law_1558 : decode cL_law 1558 = .ok (.aload_n 2, 1) := dcq_796.2.2.2.2.1
theorem dL_law_1559 : decode cL_law 1559 = .ok (.invokevirtual 190, 3) := dcq_796.2.2.2.2.2.1
theorem dL_law_1562 : decode cL_law 1562 = .ok (.pop, 1) := dcq_796.2.2.2.2.2.2.1
theorem dL_law_1563 : decode cL_law 1563 = .ok (.goto 16, 3) := dcq_796.2.2.2.2.2.2.2.1
theorem dL_law_1566 : decode cL_law 1566 = .ok (.aload_n 1, 1) := dcq_796.2.2.2.2.2.2.2.2.1
theorem dL_law_1567 : decode cL_law 1567 = .ok (.invokevirtual 191, 3) := dcq_796.2.2.2.2.2.2.2.2.2.1
theorem dL_law_1570 : decode cL_law 1570 = .ok (.aload_n 2, 1) := dcq_796.2.2.2.2.2.2.2.2.2.2.1
theorem dL_law_1571 : decode cL_law 1571 = .ok (.invokevirtual 194, 3) := dcq_796.2.2.2.2.2.2.2.2.2.2.2
set_option maxRecDepth 20000 in
theorem dcb_797 : fd_B cL_law 1574 [159, 0, 5, 3, 172, 132, 3, 5, 167, 249, 228, 4, 172] := fd_o cL_law 1574 _ (by decide +kernel)
theorem dcq_797 : (decode cL_law 1574 = .ok (.if_icmp .eq 5, 3)) ∧ (decode cL_law 1577 = .ok (.iconst 0, 1)) ∧ (decode cL_law 1578 = .ok (.ireturn, 1)) ∧ (decode cL_law 1579 = .ok (.iinc 3 5, 3)) ∧ (decode cL_law 1582 = .ok (.goto (-1564), 3)) ∧ (decode cL_law 1585 = .ok (.iconst 1, 1)) ∧ (decode cL_law 1586 = .ok (.ireturn, 1)) := have h := dcb_797; ⟨fd_159 h (by decide +kernel), have h := fd_t3 h; ⟨fd_3 h, have h := fd_t1 h; ⟨fd_172 h, have h := fd_t1 h; ⟨fd_132 h rfl (by decide +kernel), have h := fd_t3 h; ⟨fd_167 h (by decide +kernel), have h := fd_t3 h; ⟨fd_4 h, have h := fd_t1 h; fd_172 h⟩⟩⟩⟩⟩⟩
theorem dL_law_1574 : decode cL_law 1574 = .ok (.if_icmp .eq 5, 3) := dcq_797.1
theorem dL_law_1577 : decode cL_law 1577 = .ok (.iconst 0, 1) := dcq_797.2.1
theorem dL_law_1578 : decode cL_law 1578 = .ok (.ireturn, 1) := dcq_797.2.2.1
theorem dL_law_1579 : decode cL_law 1579 = .ok (.iinc 3 5, 3) := dcq_797.2.2.2.1
theorem dL_law_1582 : decode cL_law 1582 = .ok (.goto (-1564), 3) := dcq_797.2.2.2.2.1
theorem dL_law_1585 : decode cL_law 1585 = .ok (.iconst 1, 1) := dcq_797.2.2.2.2.2.1
theorem dL_law_1586 : decode cL_law 1586 = .ok (.ireturn, 1) := dcq_797.2.2.2.2.2.2
