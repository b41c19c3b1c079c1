/-! decode rows of the law -/
theorem d_lw_law_1322 : decode code 1322 = .ok (.invokevirtual 151, 3) := by decide +kernel
theorem d_lw_law_1325 : decode code 1325 = .ok (.if_icmp .eq 42, 3) := by decide +kernel
theorem d_lw_law_1328 : decode code 1328 = .ok (.iconst 0, 1) := by decide +kernel
theorem d_lw_law_1329 : decode code 1329 = .ok (.ireturn, 1) := by decide +kernel
theorem d_lw_law_1330 : decode code 1330 = .ok (.aload_n 1, 1) := by decide +kernel
theorem d_lw_law_1331 : decode code 1331 = .ok (.aload_n 0, 1) := by decide +kernel
theorem d_lw_law_1332 : decode code 1332 = .ok (.iload_n 3, 1) := by decide +kernel
theorem d_lw_law_1333 : decode code 1333 = .ok (.iconst 1, 1) := by decide +kernel
theorem d_lw_law_1334 : decode code 1334 = .ok (.iadd, 1) := by decide +kernel
theorem d_lw_law_1335 : decode code 1335 = .ok (.iaload, 1) := by decide +kernel
theorem d_lw_law_1336 : decode code 1336 = .ok (.invokevirtual 152, 3) := by decide +kernel
theorem d_lw_law_1339 : decode code 1339 = .ok (.aload_n 2, 1) := by decide +kernel
theorem d_lw_law_1340 : decode code 1340 = .ok (.aload_n 0, 1) := by decide +kernel
theorem d_lw_law_1341 : decode code 1341 = .ok (.iload_n 3, 1) := by decide +kernel
theorem d_lw_law_1342 : decode code 1342 = .ok (.iconst 1, 1) := by decide +kernel
theorem d_lw_law_1343 : decode code 1343 = .ok (.iadd, 1) := by decide +kernel
theorem d_lw_law_1344 : decode code 1344 = .ok (.iaload, 1) := by decide +kernel
theorem d_lw_law_1345 : decode code 1345 = .ok (.invokevirtual 155, 3) := by decide +kernel
theorem d_lw_law_1348 : decode code 1348 = .ok (.if_icmp .eq 19, 3) := by decide +kernel
theorem d_lw_law_1351 : decode code 1351 = .ok (.iconst 0, 1) := by decide +kernel
theorem d_lw_law_1352 : decode code 1352 = .ok (.ireturn, 1) := by decide +kernel
theorem d_lw_law_1353 : decode code 1353 = .ok (.aload_n 1, 1) := by decide +kernel
theorem d_lw_law_1354 : decode code 1354 = .ok (.invokevirtual 156, 3) := by decide +kernel
theorem d_lw_law_1357 : decode code 1357 = .ok (.aload_n 2, 1) := by decide +kernel
theorem d_lw_law_1358 : decode code 1358 = .ok (.invokevirtual 160, 3) := by decide +kernel
theorem d_lw_law_1361 : decode code 1361 = .ok (.lcmp, 1) := by decide +kernel
theorem d_lw_law_1362 : decode code 1362 = .ok (.ifCond .eq 5, 3) := by decide +kernel
theorem d_lw_law_1365 : decode code 1365 = .ok (.iconst 0, 1) := by decide +kernel
theorem d_lw_law_1366 : decode code 1366 = .ok (.ireturn, 1) := by decide +kernel
theorem d_lw_law_1367 : decode code 1367 = .ok (.iinc 3 7, 3) := by decide +kernel
theorem d_lw_law_1370 : decode code 1370 = .ok (.goto (-1352), 3) := by decide +kernel
theorem d_lw_law_1373 : decode code 1373 = .ok (.iconst 1, 1) := by decide +kernel
theorem d_lw_law_1374 : decode code 1374 = .ok (.ireturn, 1) := by decide +kernel
