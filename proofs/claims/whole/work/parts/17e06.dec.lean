theorem d_w_1257 : decode code 1257 = .ok (.iconst 0, 1) := by decide +kernel
theorem d_w_1258 : decode code 1258 = .ok (.ireturn, 1) := by decide +kernel
theorem d_w_1259 : decode code 1259 = .ok (.iload 6, 2) := by decide +kernel
theorem d_w_1261 : decode code 1261 = .ok (.ifCond .ne 35, 3) := by decide +kernel
theorem d_w_1264 : decode code 1264 = .ok (.aload 4, 2) := by decide +kernel
theorem d_w_1266 : decode code 1266 = .ok (.iconst 0, 1) := by decide +kernel
theorem d_w_1267 : decode code 1267 = .ok (.daload, 1) := by decide +kernel
theorem d_w_1268 : decode code 1268 = .ok (.dload 7, 2) := by decide +kernel
theorem d_w_1270 : decode code 1270 = .ok (.dcmp .l, 1) := by decide +kernel
theorem d_w_1271 : decode code 1271 = .ok (.ifCond .eq 25, 3) := by decide +kernel
theorem d_w_1274 : decode code 1274 = .ok (.aload 4, 2) := by decide +kernel
theorem d_w_1276 : decode code 1276 = .ok (.iconst 0, 1) := by decide +kernel
theorem d_w_1277 : decode code 1277 = .ok (.daload, 1) := by decide +kernel
theorem d_w_1278 : decode code 1278 = .ok (.aload 4, 2) := by decide +kernel
theorem d_w_1280 : decode code 1280 = .ok (.iconst 0, 1) := by decide +kernel
theorem d_w_1281 : decode code 1281 = .ok (.daload, 1) := by decide +kernel
theorem d_w_1282 : decode code 1282 = .ok (.dcmp .l, 1) := by decide +kernel
theorem d_w_1283 : decode code 1283 = .ok (.ifCond .eq 11, 3) := by decide +kernel
theorem d_w_1286 : decode code 1286 = .ok (.dload 7, 2) := by decide +kernel
theorem d_w_1288 : decode code 1288 = .ok (.dload 7, 2) := by decide +kernel
theorem d_w_1290 : decode code 1290 = .ok (.dcmp .l, 1) := by decide +kernel
theorem d_w_1291 : decode code 1291 = .ok (.ifCond .ne 5, 3) := by decide +kernel
theorem d_w_1294 : decode code 1294 = .ok (.iconst 0, 1) := by decide +kernel
theorem d_w_1295 : decode code 1295 = .ok (.ireturn, 1) := by decide +kernel
theorem d_w_1296 : decode code 1296 = .ok (.goto 943, 3) := by decide +kernel
theorem d_w_1299 : decode code 1299 = .ok (.aload_n 1, 1) := by decide +kernel
theorem d_w_1300 : decode code 1300 = .ok (.aload_n 0, 1) := by decide +kernel
theorem d_w_1301 : decode code 1301 = .ok (.iload 5, 2) := by decide +kernel
theorem d_w_1303 : decode code 1303 = .ok (.iconst 1, 1) := by decide +kernel
theorem d_w_1304 : decode code 1304 = .ok (.iadd, 1) := by decide +kernel
theorem d_w_1305 : decode code 1305 = .ok (.iaload, 1) := by decide +kernel
theorem d_w_1306 : decode code 1306 = .ok (.aload_n 3, 1) := by decide +kernel
theorem d_w_1307 : decode code 1307 = .ok (.invokestatic 189, 3) := by decide +kernel
theorem d_w_1310 : decode code 1310 = .ok (.istore 6, 2) := by decide +kernel
theorem d_w_1312 : decode code 1312 = .ok (.aload_n 2, 1) := by decide +kernel
theorem d_w_1313 : decode code 1313 = .ok (.aload_n 0, 1) := by decide +kernel
theorem d_w_1314 : decode code 1314 = .ok (.iload 5, 2) := by decide +kernel
theorem d_w_1316 : decode code 1316 = .ok (.iconst 1, 1) := by decide +kernel
theorem d_w_1317 : decode code 1317 = .ok (.iadd, 1) := by decide +kernel
theorem d_w_1318 : decode code 1318 = .ok (.iaload, 1) := by decide +kernel
theorem d_w_1319 : decode code 1319 = .ok (.invokevirtual 191, 3) := by decide +kernel
theorem d_w_1322 : decode code 1322 = .ok (.lstore 7, 2) := by decide +kernel
theorem d_w_1324 : decode code 1324 = .ok (.aload_n 2, 1) := by decide +kernel
theorem d_w_1325 : decode code 1325 = .ok (.invokevirtual 114, 3) := by decide +kernel
theorem d_w_1328 : decode code 1328 = .ok (.iload 6, 2) := by decide +kernel
theorem d_w_1330 : decode code 1330 = .ok (.if_icmp .eq 5, 3) := by decide +kernel
theorem d_w_1333 : decode code 1333 = .ok (.iconst 0, 1) := by decide +kernel
theorem d_w_1334 : decode code 1334 = .ok (.ireturn, 1) := by decide +kernel
theorem d_w_1335 : decode code 1335 = .ok (.iload 6, 2) := by decide +kernel
theorem d_w_1337 : decode code 1337 = .ok (.ifCond .ne 14, 3) := by decide +kernel
theorem d_w_1340 : decode code 1340 = .ok (.aload_n 3, 1) := by decide +kernel
theorem d_w_1341 : decode code 1341 = .ok (.iconst 0, 1) := by decide +kernel
theorem d_w_1342 : decode code 1342 = .ok (.laload, 1) := by decide +kernel
theorem d_w_1343 : decode code 1343 = .ok (.lload 7, 2) := by decide +kernel
theorem d_w_1345 : decode code 1345 = .ok (.lcmp, 1) := by decide +kernel
theorem d_w_1346 : decode code 1346 = .ok (.ifCond .eq 5, 3) := by decide +kernel
theorem d_w_1349 : decode code 1349 = .ok (.iconst 0, 1) := by decide +kernel
theorem d_w_1350 : decode code 1350 = .ok (.ireturn, 1) := by decide +kernel
theorem d_w_1351 : decode code 1351 = .ok (.goto 888, 3) := by decide +kernel
theorem d_w_1354 : decode code 1354 = .ok (.aload_n 1, 1) := by decide +kernel
theorem d_w_1355 : decode code 1355 = .ok (.invokevirtual 192, 3) := by decide +kernel
theorem d_w_1358 : decode code 1358 = .ok (.aload_n 2, 1) := by decide +kernel
theorem d_w_1359 : decode code 1359 = .ok (.invokevirtual 195, 3) := by decide +kernel
theorem d_w_1362 : decode code 1362 = .ok (.if_icmp .eq 877, 3) := by decide +kernel
theorem d_w_1365 : decode code 1365 = .ok (.iconst 0, 1) := by decide +kernel
theorem d_w_1366 : decode code 1366 = .ok (.ireturn, 1) := by decide +kernel
theorem d_w_1367 : decode code 1367 = .ok (.aload_n 1, 1) := by decide +kernel
theorem d_w_1368 : decode code 1368 = .ok (.invokevirtual 196, 3) := by decide +kernel
theorem d_w_1371 : decode code 1371 = .ok (.aload_n 2, 1) := by decide +kernel
theorem d_w_1372 : decode code 1372 = .ok (.invokevirtual 199, 3) := by decide +kernel
theorem d_w_1375 : decode code 1375 = .ok (.if_icmp .eq 864, 3) := by decide +kernel
theorem d_w_1378 : decode code 1378 = .ok (.iconst 0, 1) := by decide +kernel
theorem d_w_1379 : decode code 1379 = .ok (.ireturn, 1) := by decide +kernel
theorem d_w_1380 : decode code 1380 = .ok (.aload_n 1, 1) := by decide +kernel
theorem d_w_1381 : decode code 1381 = .ok (.invokevirtual 200, 3) := by decide +kernel
theorem d_w_1384 : decode code 1384 = .ok (.aload_n 2, 1) := by decide +kernel
theorem d_w_1385 : decode code 1385 = .ok (.invokevirtual 203, 3) := by decide +kernel
theorem d_w_1388 : decode code 1388 = .ok (.if_icmp .eq 851, 3) := by decide +kernel
theorem d_w_1391 : decode code 1391 = .ok (.iconst 0, 1) := by decide +kernel
theorem d_w_1392 : decode code 1392 = .ok (.ireturn, 1) := by decide +kernel
theorem d_w_1393 : decode code 1393 = .ok (.aload_n 1, 1) := by decide +kernel
theorem d_w_1394 : decode code 1394 = .ok (.invokevirtual 204, 3) := by decide +kernel
theorem d_w_1397 : decode code 1397 = .ok (.aload_n 2, 1) := by decide +kernel
theorem d_w_1398 : decode code 1398 = .ok (.invokevirtual 207, 3) := by decide +kernel
theorem d_w_1401 : decode code 1401 = .ok (.lcmp, 1) := by decide +kernel
theorem d_w_1402 : decode code 1402 = .ok (.ifCond .eq 837, 3) := by decide +kernel
theorem d_w_1405 : decode code 1405 = .ok (.iconst 0, 1) := by decide +kernel
theorem d_w_1406 : decode code 1406 = .ok (.ireturn, 1) := by decide +kernel
theorem d_w_1407 : decode code 1407 = .ok (.aload_n 1, 1) := by decide +kernel
theorem d_w_1408 : decode code 1408 = .ok (.invokevirtual 208, 3) := by decide +kernel
theorem d_w_1411 : decode code 1411 = .ok (.aload_n 2, 1) := by decide +kernel
theorem d_w_1412 : decode code 1412 = .ok (.invokevirtual 211, 3) := by decide +kernel
theorem d_w_1415 : decode code 1415 = .ok (.if_icmp .eq 824, 3) := by decide +kernel
theorem d_w_1418 : decode code 1418 = .ok (.iconst 0, 1) := by decide +kernel
theorem d_w_1419 : decode code 1419 = .ok (.ireturn, 1) := by decide +kernel
theorem d_w_1420 : decode code 1420 = .ok (.aload_n 1, 1) := by decide +kernel
theorem d_w_1421 : decode code 1421 = .ok (.aload_n 0, 1) := by decide +kernel
theorem d_w_1422 : decode code 1422 = .ok (.iload 5, 2) := by decide +kernel
theorem d_w_1424 : decode code 1424 = .ok (.iconst 1, 1) := by decide +kernel
theorem d_w_1425 : decode code 1425 = .ok (.iadd, 1) := by decide +kernel
theorem d_w_1426 : decode code 1426 = .ok (.iaload, 1) := by decide +kernel
theorem d_w_1427 : decode code 1427 = .ok (.aload_n 0, 1) := by decide +kernel
theorem d_w_1428 : decode code 1428 = .ok (.iload 5, 2) := by decide +kernel
theorem d_w_1430 : decode code 1430 = .ok (.iconst 2, 1) := by decide +kernel
theorem d_w_1431 : decode code 1431 = .ok (.iadd, 1) := by decide +kernel
theorem d_w_1432 : decode code 1432 = .ok (.iaload, 1) := by decide +kernel
theorem d_w_1433 : decode code 1433 = .ok (.aload_n 3, 1) := by decide +kernel
theorem d_w_1434 : decode code 1434 = .ok (.invokestatic 212, 3) := by decide +kernel
theorem d_w_1437 : decode code 1437 = .ok (.istore 6, 2) := by decide +kernel
theorem d_w_1439 : decode code 1439 = .ok (.aload_n 2, 1) := by decide +kernel
