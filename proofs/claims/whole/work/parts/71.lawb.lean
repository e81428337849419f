abbrev ML_law : rf_M := (yL_law, cL_law, 4, (some (.boolean)))
def cL_law_0 : List rf_I := [(.new 7, 3, 11, 0, 93, 0, 0), (.dup, 1, 0, 0, 0, 0, 0)]
theorem kL_law_0 : rf_ck ML_law 0 cL_law_0 = true := by decide +kernel
theorem qL_law_4 : rf_kc ML_law 4 9 95 yX11_init 2 = true := by decide +kernel
def cL_law_7 : List rf_I := [(.astore_n 1, 1, 1, 0, 0, 0, 0), (.new 10, 3, 12, 0, 1178, 0, 0), (.dup, 1, 0, 0, 0, 0, 0)]
theorem kL_law_7 : rf_ck ML_law 7 cL_law_7 = true := by decide +kernel
theorem qL_law_12 : rf_kc ML_law 12 12 1180 yX12_init 2 = true := by decide +kernel
def cL_law_15 : List rf_I := [(.astore_n 2, 1, 2, 0, 0, 0, 0), (.iconst 0, 1, 0, 0, 0, nI 0, 0), (.istore_n 3, 1, 3, 0, 0, 0, 0)]
theorem kL_law_15 : rf_ck ML_law 15 cL_law_15 = true := by decide +kernel
def cL_law_18 : List rf_I := [(.iload_n 3, 1, 3, 0, 0, 0, 0), (.aload_n 0, 1, 0, 0, 0, 0, 0), (.arraylength, 1, 0, 0, 0, 0, 0), (.bipush 6, 2, 0, 0, 0, nI 6, 0), (.isub, 1, 0, 0, 0, 0, 0)]
theorem kL_law_18 : rf_ck ML_law 18 cL_law_18 = true := by decide +kernel
theorem bL_law_24 : rf_ckb ML_law 24 (.if_icmp .gt 1731) 1731 1755 = true := by decide +kernel
def cL_law_27 : List rf_I := [(.aload_n 0, 1, 0, 0, 0, 0, 0), (.iload_n 3, 1, 3, 0, 0, 0, 0), (.iaload, 1, 0, 0, 0, 0, 0), (.bipush 63, 2, 0, 0, 0, nI 63, 0), (.iand, 1, 0, 0, 0, 0, 0)]
theorem kL_law_27 : rf_ck ML_law 27 cL_law_27 = true := by decide +kernel
theorem bL_law_33 : rf_ckt ML_law 33 1716 0 46 [203, 216, 259, 302, 345, 378, 421, 454, 497, 550, 583, 616, 649, 682, 745, 768, 831, 854, 877, 910, 943, 976, 989, 1013, 1046, 1069, 1092, 1125, 1138, 1191, 1214, 1247, 1281, 1314, 1337, 1360, 1403, 1426, 1469, 1512, 1575, 1598, 1611, 1624, 1647, 1670, 1693] [236, 249, 292, 335, 378, 411, 454, 487, 530, 583, 616, 649, 682, 715, 778, 801, 864, 887, 910, 943, 976, 1009, 1022, 1046, 1079, 1102, 1125, 1158, 1171, 1224, 1247, 1280, 1314, 1347, 1370, 1393, 1436, 1459, 1502, 1545, 1608, 1631, 1644, 1657, 1680, 1703, 1726] 1749 = true := by decide +kernel
def cL_law_236 : List rf_I := [(.aload_n 1, 1, 1, 0, 0, 0, 0)]
theorem kL_law_236 : rf_ck ML_law 236 cL_law_236 = true := by decide +kernel
theorem qL_law_237 : rf_kc ML_law 237 13 486 yX11_station 0 = true := by decide +kernel
def cL_law_240 : List rf_I := [(.aload_n 2, 1, 2, 0, 0, 0, 0)]
theorem kL_law_240 : rf_ck ML_law 240 cL_law_240 = true := by decide +kernel
theorem qL_law_241 : rf_kc ML_law 241 17 1257 yX12_station 0 = true := by decide +kernel
theorem bL_law_244 : rf_ckb ML_law 244 (.if_icmp .eq 1505) 1505 1749 = true := by decide +kernel
def cL_law_247 : List rf_I := [(.iconst 0, 1, 0, 0, 0, nI 0, 0)]
theorem kL_law_247 : rf_ck ML_law 247 cL_law_247 = true := by decide +kernel
theorem eL_law_248 : rf_cki ML_law 248 .ireturn = true := by decide +kernel
def cL_law_249 : List rf_I := [(.aload_n 1, 1, 1, 0, 0, 0, 0), (.aload_n 0, 1, 0, 0, 0, 0, 0), (.iload_n 3, 1, 3, 0, 0, 0, 0), (.iconst 1, 1, 0, 0, 0, nI 1, 0), (.iadd, 1, 0, 0, 0, 0, 0), (.iaload, 1, 0, 0, 0, 0, 0), (.aload_n 0, 1, 0, 0, 0, 0, 0), (.iload_n 3, 1, 3, 0, 0, 0, 0), (.iconst 2, 1, 0, 0, 0, nI 2, 0), (.iadd, 1, 0, 0, 0, 0, 0), (.iaload, 1, 0, 0, 0, 0, 0), (.aload_n 0, 1, 0, 0, 0, 0, 0), (.iload_n 3, 1, 3, 0, 0, 0, 0), (.iconst 3, 1, 0, 0, 0, nI 3, 0), (.iadd, 1, 0, 0, 0, 0, 0), (.iaload, 1, 0, 0, 0, 0, 0)]
theorem kL_law_249 : rf_ck ML_law 249 cL_law_249 = true := by decide +kernel
theorem qL_law_265 : rf_kc ML_law 265 18 503 yX11_walk 0 = true := by decide +kernel
def cL_law_268 : List rf_I := [(.aload_n 2, 1, 2, 0, 0, 0, 0), (.aload_n 0, 1, 0, 0, 0, 0, 0), (.iload_n 3, 1, 3, 0, 0, 0, 0), (.iconst 1, 1, 0, 0, 0, nI 1, 0), (.iadd, 1, 0, 0, 0, 0, 0), (.iaload, 1, 0, 0, 0, 0, 0), (.aload_n 0, 1, 0, 0, 0, 0, 0), (.iload_n 3, 1, 3, 0, 0, 0, 0), (.iconst 2, 1, 0, 0, 0, nI 2, 0), (.iadd, 1, 0, 0, 0, 0, 0), (.iaload, 1, 0, 0, 0, 0, 0), (.aload_n 0, 1, 0, 0, 0, 0, 0), (.iload_n 3, 1, 3, 0, 0, 0, 0), (.iconst 3, 1, 0, 0, 0, nI 3, 0), (.iadd, 1, 0, 0, 0, 0, 0), (.iaload, 1, 0, 0, 0, 0, 0)]
theorem kL_law_268 : rf_ck ML_law 268 cL_law_268 = true := by decide +kernel
theorem qL_law_284 : rf_kc ML_law 284 22 1266 yX12_walk 0 = true := by decide +kernel
theorem bL_law_287 : rf_ckb ML_law 287 (.if_icmp .eq 1462) 1462 1749 = true := by decide +kernel
def cL_law_290 : List rf_I := [(.iconst 0, 1, 0, 0, 0, nI 0, 0)]
theorem kL_law_290 : rf_ck ML_law 290 cL_law_290 = true := by decide +kernel
theorem eL_law_291 : rf_cki ML_law 291 .ireturn = true := by decide +kernel
def cL_law_292 : List rf_I := [(.aload_n 1, 1, 1, 0, 0, 0, 0), (.aload_n 0, 1, 0, 0, 0, 0, 0), (.iload_n 3, 1, 3, 0, 0, 0, 0), (.iconst 1, 1, 0, 0, 0, nI 1, 0), (.iadd, 1, 0, 0, 0, 0, 0), (.iaload, 1, 0, 0, 0, 0, 0), (.aload_n 0, 1, 0, 0, 0, 0, 0), (.iload_n 3, 1, 3, 0, 0, 0, 0), (.iconst 2, 1, 0, 0, 0, nI 2, 0), (.iadd, 1, 0, 0, 0, 0, 0), (.iaload, 1, 0, 0, 0, 0, 0), (.aload_n 0, 1, 0, 0, 0, 0, 0), (.iload_n 3, 1, 3, 0, 0, 0, 0), (.iconst 3, 1, 0, 0, 0, nI 3, 0), (.iadd, 1, 0, 0, 0, 0, 0), (.iaload, 1, 0, 0, 0, 0, 0)]
theorem kL_law_292 : rf_ck ML_law 292 cL_law_292 = true := by decide +kernel
theorem qL_law_308 : rf_kc ML_law 308 23 520 yX11_line 0 = true := by decide +kernel
def cL_law_311 : List rf_I := [(.aload_n 2, 1, 2, 0, 0, 0, 0), (.aload_n 0, 1, 0, 0, 0, 0, 0), (.iload_n 3, 1, 3, 0, 0, 0, 0), (.iconst 1, 1, 0, 0, 0, nI 1, 0), (.iadd, 1, 0, 0, 0, 0, 0), (.iaload, 1, 0, 0, 0, 0, 0), (.aload_n 0, 1, 0, 0, 0, 0, 0), (.iload_n 3, 1, 3, 0, 0, 0, 0), (.iconst 2, 1, 0, 0, 0, nI 2, 0), (.iadd, 1, 0, 0, 0, 0, 0), (.iaload, 1, 0, 0, 0, 0, 0), (.aload_n 0, 1, 0, 0, 0, 0, 0), (.iload_n 3, 1, 3, 0, 0, 0, 0), (.iconst 3, 1, 0, 0, 0, nI 3, 0), (.iadd, 1, 0, 0, 0, 0, 0), (.iaload, 1, 0, 0, 0, 0, 0)]
theorem kL_law_311 : rf_ck ML_law 311 cL_law_311 = true := by decide +kernel
theorem qL_law_327 : rf_kc ML_law 327 26 1283 yX12_line 0 = true := by decide +kernel
theorem bL_law_330 : rf_ckb ML_law 330 (.if_icmp .eq 1419) 1419 1749 = true := by decide +kernel
def cL_law_333 : List rf_I := [(.iconst 0, 1, 0, 0, 0, nI 0, 0)]
theorem kL_law_333 : rf_ck ML_law 333 cL_law_333 = true := by decide +kernel
theorem eL_law_334 : rf_cki ML_law 334 .ireturn = true := by decide +kernel
def cL_law_335 : List rf_I := [(.aload_n 1, 1, 1, 0, 0, 0, 0), (.aload_n 0, 1, 0, 0, 0, 0, 0), (.iload_n 3, 1, 3, 0, 0, 0, 0), (.iconst 1, 1, 0, 0, 0, nI 1, 0), (.iadd, 1, 0, 0, 0, 0, 0), (.iaload, 1, 0, 0, 0, 0, 0), (.aload_n 0, 1, 0, 0, 0, 0, 0), (.iload_n 3, 1, 3, 0, 0, 0, 0), (.iconst 2, 1, 0, 0, 0, nI 2, 0), (.iadd, 1, 0, 0, 0, 0, 0), (.iaload, 1, 0, 0, 0, 0, 0), (.aload_n 0, 1, 0, 0, 0, 0, 0), (.iload_n 3, 1, 3, 0, 0, 0, 0), (.iconst 3, 1, 0, 0, 0, nI 3, 0), (.iadd, 1, 0, 0, 0, 0, 0), (.iaload, 1, 0, 0, 0, 0, 0)]
theorem kL_law_335 : rf_ck ML_law 335 cL_law_335 = true := by decide +kernel
theorem qL_law_351 : rf_kc ML_law 351 27 532 yX11_extend 0 = true := by decide +kernel
def cL_law_354 : List rf_I := [(.aload_n 2, 1, 2, 0, 0, 0, 0), (.aload_n 0, 1, 0, 0, 0, 0, 0), (.iload_n 3, 1, 3, 0, 0, 0, 0), (.iconst 1, 1, 0, 0, 0, nI 1, 0), (.iadd, 1, 0, 0, 0, 0, 0), (.iaload, 1, 0, 0, 0, 0, 0), (.aload_n 0, 1, 0, 0, 0, 0, 0), (.iload_n 3, 1, 3, 0, 0, 0, 0), (.iconst 2, 1, 0, 0, 0, nI 2, 0), (.iadd, 1, 0, 0, 0, 0, 0), (.iaload, 1, 0, 0, 0, 0, 0), (.aload_n 0, 1, 0, 0, 0, 0, 0), (.iload_n 3, 1, 3, 0, 0, 0, 0), (.iconst 3, 1, 0, 0, 0, nI 3, 0), (.iadd, 1, 0, 0, 0, 0, 0), (.iaload, 1, 0, 0, 0, 0, 0)]
theorem kL_law_354 : rf_ck ML_law 354 cL_law_354 = true := by decide +kernel
theorem qL_law_370 : rf_kc ML_law 370 30 1288 yX12_extend 0 = true := by decide +kernel
theorem bL_law_373 : rf_ckb ML_law 373 (.if_icmp .eq 1376) 1376 1749 = true := by decide +kernel
def cL_law_376 : List rf_I := [(.iconst 0, 1, 0, 0, 0, nI 0, 0)]
theorem kL_law_376 : rf_ck ML_law 376 cL_law_376 = true := by decide +kernel
theorem eL_law_377 : rf_cki ML_law 377 .ireturn = true := by decide +kernel
def cL_law_378 : List rf_I := [(.aload_n 1, 1, 1, 0, 0, 0, 0), (.aload_n 0, 1, 0, 0, 0, 0, 0), (.iload_n 3, 1, 3, 0, 0, 0, 0), (.iconst 1, 1, 0, 0, 0, nI 1, 0), (.iadd, 1, 0, 0, 0, 0, 0), (.iaload, 1, 0, 0, 0, 0, 0), (.aload_n 0, 1, 0, 0, 0, 0, 0), (.iload_n 3, 1, 3, 0, 0, 0, 0), (.iconst 2, 1, 0, 0, 0, nI 2, 0), (.iadd, 1, 0, 0, 0, 0, 0), (.iaload, 1, 0, 0, 0, 0, 0)]
theorem kL_law_378 : rf_ck ML_law 378 cL_law_378 = true := by decide +kernel
theorem qL_law_389 : rf_kc ML_law 389 31 545 yX11_ofLine 0 = true := by decide +kernel
def cL_law_392 : List rf_I := [(.aload_n 2, 1, 2, 0, 0, 0, 0), (.aload_n 0, 1, 0, 0, 0, 0, 0), (.iload_n 3, 1, 3, 0, 0, 0, 0), (.iconst 1, 1, 0, 0, 0, nI 1, 0), (.iadd, 1, 0, 0, 0, 0, 0), (.iaload, 1, 0, 0, 0, 0, 0), (.aload_n 0, 1, 0, 0, 0, 0, 0), (.iload_n 3, 1, 3, 0, 0, 0, 0), (.iconst 2, 1, 0, 0, 0, nI 2, 0), (.iadd, 1, 0, 0, 0, 0, 0), (.iaload, 1, 0, 0, 0, 0, 0)]
theorem kL_law_392 : rf_ck ML_law 392 cL_law_392 = true := by decide +kernel
theorem qL_law_403 : rf_kc ML_law 403 35 1296 yX12_ofLine 0 = true := by decide +kernel
theorem bL_law_406 : rf_ckb ML_law 406 (.if_icmp .eq 1343) 1343 1749 = true := by decide +kernel
def cL_law_409 : List rf_I := [(.iconst 0, 1, 0, 0, 0, nI 0, 0)]
theorem kL_law_409 : rf_ck ML_law 409 cL_law_409 = true := by decide +kernel
theorem eL_law_410 : rf_cki ML_law 410 .ireturn = true := by decide +kernel
def cL_law_411 : List rf_I := [(.aload_n 1, 1, 1, 0, 0, 0, 0), (.aload_n 0, 1, 0, 0, 0, 0, 0), (.iload_n 3, 1, 3, 0, 0, 0, 0), (.iconst 1, 1, 0, 0, 0, nI 1, 0), (.iadd, 1, 0, 0, 0, 0, 0), (.iaload, 1, 0, 0, 0, 0, 0), (.aload_n 0, 1, 0, 0, 0, 0, 0), (.iload_n 3, 1, 3, 0, 0, 0, 0), (.iconst 2, 1, 0, 0, 0, nI 2, 0), (.iadd, 1, 0, 0, 0, 0, 0), (.iaload, 1, 0, 0, 0, 0, 0), (.aload_n 0, 1, 0, 0, 0, 0, 0), (.iload_n 3, 1, 3, 0, 0, 0, 0), (.iconst 3, 1, 0, 0, 0, nI 3, 0), (.iadd, 1, 0, 0, 0, 0, 0), (.iaload, 1, 0, 0, 0, 0, 0)]
theorem kL_law_411 : rf_ck ML_law 411 cL_law_411 = true := by decide +kernel
theorem qL_law_427 : rf_kc ML_law 427 36 550 yX11_train 0 = true := by decide +kernel
def cL_law_430 : List rf_I := [(.aload_n 2, 1, 2, 0, 0, 0, 0), (.aload_n 0, 1, 0, 0, 0, 0, 0), (.iload_n 3, 1, 3, 0, 0, 0, 0), (.iconst 1, 1, 0, 0, 0, nI 1, 0), (.iadd, 1, 0, 0, 0, 0, 0), (.iaload, 1, 0, 0, 0, 0, 0), (.aload_n 0, 1, 0, 0, 0, 0, 0), (.iload_n 3, 1, 3, 0, 0, 0, 0), (.iconst 2, 1, 0, 0, 0, nI 2, 0), (.iadd, 1, 0, 0, 0, 0, 0), (.iaload, 1, 0, 0, 0, 0, 0), (.aload_n 0, 1, 0, 0, 0, 0, 0), (.iload_n 3, 1, 3, 0, 0, 0, 0), (.iconst 3, 1, 0, 0, 0, nI 3, 0), (.iadd, 1, 0, 0, 0, 0, 0), (.iaload, 1, 0, 0, 0, 0, 0)]
theorem kL_law_430 : rf_ck ML_law 430 cL_law_430 = true := by decide +kernel
theorem qL_law_446 : rf_kc ML_law 446 39 1300 yX12_train 0 = true := by decide +kernel
theorem bL_law_449 : rf_ckb ML_law 449 (.if_icmp .eq 1300) 1300 1749 = true := by decide +kernel
def cL_law_452 : List rf_I := [(.iconst 0, 1, 0, 0, 0, nI 0, 0)]
theorem kL_law_452 : rf_ck ML_law 452 cL_law_452 = true := by decide +kernel
theorem eL_law_453 : rf_cki ML_law 453 .ireturn = true := by decide +kernel
def cL_law_454 : List rf_I := [(.aload_n 1, 1, 1, 0, 0, 0, 0), (.aload_n 0, 1, 0, 0, 0, 0, 0), (.iload_n 3, 1, 3, 0, 0, 0, 0), (.iconst 1, 1, 0, 0, 0, nI 1, 0), (.iadd, 1, 0, 0, 0, 0, 0), (.iaload, 1, 0, 0, 0, 0, 0), (.aload_n 0, 1, 0, 0, 0, 0, 0), (.iload_n 3, 1, 3, 0, 0, 0, 0), (.iconst 2, 1, 0, 0, 0, nI 2, 0), (.iadd, 1, 0, 0, 0, 0, 0), (.iaload, 1, 0, 0, 0, 0, 0)]
theorem kL_law_454 : rf_ck ML_law 454 cL_law_454 = true := by decide +kernel
theorem qL_law_465 : rf_kc ML_law 465 40 558 yX11_ofTrain 0 = true := by decide +kernel
def cL_law_468 : List rf_I := [(.aload_n 2, 1, 2, 0, 0, 0, 0), (.aload_n 0, 1, 0, 0, 0, 0, 0), (.iload_n 3, 1, 3, 0, 0, 0, 0), (.iconst 1, 1, 0, 0, 0, nI 1, 0), (.iadd, 1, 0, 0, 0, 0, 0), (.iaload, 1, 0, 0, 0, 0, 0), (.aload_n 0, 1, 0, 0, 0, 0, 0), (.iload_n 3, 1, 3, 0, 0, 0, 0), (.iconst 2, 1, 0, 0, 0, nI 2, 0), (.iadd, 1, 0, 0, 0, 0, 0), (.iaload, 1, 0, 0, 0, 0, 0)]
theorem kL_law_468 : rf_ck ML_law 468 cL_law_468 = true := by decide +kernel
theorem qL_law_479 : rf_kc ML_law 479 43 1305 yX12_ofTrain 0 = true := by decide +kernel
theorem bL_law_482 : rf_ckb ML_law 482 (.if_icmp .eq 1267) 1267 1749 = true := by decide +kernel
def cL_law_485 : List rf_I := [(.iconst 0, 1, 0, 0, 0, nI 0, 0)]
theorem kL_law_485 : rf_ck ML_law 485 cL_law_485 = true := by decide +kernel
theorem eL_law_486 : rf_cki ML_law 486 .ireturn = true := by decide +kernel
def cL_law_487 : List rf_I := [(.aload_n 1, 1, 1, 0, 0, 0, 0), (.aload_n 0, 1, 0, 0, 0, 0, 0), (.iload_n 3, 1, 3, 0, 0, 0, 0), (.iconst 1, 1, 0, 0, 0, nI 1, 0), (.iadd, 1, 0, 0, 0, 0, 0), (.iaload, 1, 0, 0, 0, 0, 0), (.aload_n 0, 1, 0, 0, 0, 0, 0), (.iload_n 3, 1, 3, 0, 0, 0, 0), (.iconst 2, 1, 0, 0, 0, nI 2, 0), (.iadd, 1, 0, 0, 0, 0, 0), (.iaload, 1, 0, 0, 0, 0, 0), (.aload_n 0, 1, 0, 0, 0, 0, 0), (.iload_n 3, 1, 3, 0, 0, 0, 0), (.iconst 3, 1, 0, 0, 0, nI 3, 0), (.iadd, 1, 0, 0, 0, 0, 0), (.iaload, 1, 0, 0, 0, 0, 0)]
theorem kL_law_487 : rf_ck ML_law 487 cL_law_487 = true := by decide +kernel
theorem qL_law_503 : rf_kc ML_law 503 44 595 yX11_stop 0 = true := by decide +kernel
def cL_law_506 : List rf_I := [(.aload_n 2, 1, 2, 0, 0, 0, 0), (.aload_n 0, 1, 0, 0, 0, 0, 0), (.iload_n 3, 1, 3, 0, 0, 0, 0), (.iconst 1, 1, 0, 0, 0, nI 1, 0), (.iadd, 1, 0, 0, 0, 0, 0), (.iaload, 1, 0, 0, 0, 0, 0), (.aload_n 0, 1, 0, 0, 0, 0, 0), (.iload_n 3, 1, 3, 0, 0, 0, 0), (.iconst 2, 1, 0, 0, 0, nI 2, 0), (.iadd, 1, 0, 0, 0, 0, 0), (.iaload, 1, 0, 0, 0, 0, 0), (.aload_n 0, 1, 0, 0, 0, 0, 0), (.iload_n 3, 1, 3, 0, 0, 0, 0), (.iconst 3, 1, 0, 0, 0, nI 3, 0), (.iadd, 1, 0, 0, 0, 0, 0), (.iaload, 1, 0, 0, 0, 0, 0)]
theorem kL_law_506 : rf_ck ML_law 506 cL_law_506 = true := by decide +kernel
theorem qL_law_522 : rf_kc ML_law 522 47 1341 yX12_stop 0 = true := by decide +kernel
theorem bL_law_525 : rf_ckb ML_law 525 (.if_icmp .eq 1224) 1224 1749 = true := by decide +kernel
def cL_law_528 : List rf_I := [(.iconst 0, 1, 0, 0, 0, nI 0, 0)]
theorem kL_law_528 : rf_ck ML_law 528 cL_law_528 = true := by decide +kernel
theorem eL_law_529 : rf_cki ML_law 529 .ireturn = true := by decide +kernel
def cL_law_530 : List rf_I := [(.aload_n 1, 1, 1, 0, 0, 0, 0), (.aload_n 0, 1, 0, 0, 0, 0, 0), (.iload_n 3, 1, 3, 0, 0, 0, 0), (.iconst 1, 1, 0, 0, 0, nI 1, 0), (.iadd, 1, 0, 0, 0, 0, 0), (.iaload, 1, 0, 0, 0, 0, 0), (.aload_n 0, 1, 0, 0, 0, 0, 0), (.iload_n 3, 1, 3, 0, 0, 0, 0), (.iconst 2, 1, 0, 0, 0, nI 2, 0), (.iadd, 1, 0, 0, 0, 0, 0), (.iaload, 1, 0, 0, 0, 0, 0), (.aload_n 0, 1, 0, 0, 0, 0, 0), (.iload_n 3, 1, 3, 0, 0, 0, 0), (.iconst 3, 1, 0, 0, 0, nI 3, 0), (.iadd, 1, 0, 0, 0, 0, 0), (.iaload, 1, 0, 0, 0, 0, 0), (.aload_n 0, 1, 0, 0, 0, 0, 0), (.iload_n 3, 1, 3, 0, 0, 0, 0), (.iconst 4, 1, 0, 0, 0, nI 4, 0), (.iadd, 1, 0, 0, 0, 0, 0), (.iaload, 1, 0, 0, 0, 0, 0)]
theorem kL_law_530 : rf_ck ML_law 530 cL_law_530 = true := by decide +kernel
theorem qL_law_551 : rf_kc ML_law 551 48 601 yX11_group 0 = true := by decide +kernel
def cL_law_554 : List rf_I := [(.aload_n 2, 1, 2, 0, 0, 0, 0), (.aload_n 0, 1, 0, 0, 0, 0, 0), (.iload_n 3, 1, 3, 0, 0, 0, 0), (.iconst 1, 1, 0, 0, 0, nI 1, 0), (.iadd, 1, 0, 0, 0, 0, 0), (.iaload, 1, 0, 0, 0, 0, 0), (.aload_n 0, 1, 0, 0, 0, 0, 0), (.iload_n 3, 1, 3, 0, 0, 0, 0), (.iconst 2, 1, 0, 0, 0, nI 2, 0), (.iadd, 1, 0, 0, 0, 0, 0), (.iaload, 1, 0, 0, 0, 0, 0), (.aload_n 0, 1, 0, 0, 0, 0, 0), (.iload_n 3, 1, 3, 0, 0, 0, 0), (.iconst 3, 1, 0, 0, 0, nI 3, 0), (.iadd, 1, 0, 0, 0, 0, 0), (.iaload, 1, 0, 0, 0, 0, 0), (.aload_n 0, 1, 0, 0, 0, 0, 0), (.iload_n 3, 1, 3, 0, 0, 0, 0), (.iconst 4, 1, 0, 0, 0, nI 4, 0), (.iadd, 1, 0, 0, 0, 0, 0), (.iaload, 1, 0, 0, 0, 0, 0)]
theorem kL_law_554 : rf_ck ML_law 554 cL_law_554 = true := by decide +kernel
theorem qL_law_575 : rf_kc ML_law 575 52 1409 yX12_group 0 = true := by decide +kernel
theorem bL_law_578 : rf_ckb ML_law 578 (.if_icmp .eq 1171) 1171 1749 = true := by decide +kernel
def cL_law_581 : List rf_I := [(.iconst 0, 1, 0, 0, 0, nI 0, 0)]
theorem kL_law_581 : rf_ck ML_law 581 cL_law_581 = true := by decide +kernel
theorem eL_law_582 : rf_cki ML_law 582 .ireturn = true := by decide +kernel
def cL_law_583 : List rf_I := [(.aload_n 1, 1, 1, 0, 0, 0, 0), (.aload_n 0, 1, 0, 0, 0, 0, 0), (.iload_n 3, 1, 3, 0, 0, 0, 0), (.iconst 1, 1, 0, 0, 0, nI 1, 0), (.iadd, 1, 0, 0, 0, 0, 0), (.iaload, 1, 0, 0, 0, 0, 0), (.aload_n 0, 1, 0, 0, 0, 0, 0), (.iload_n 3, 1, 3, 0, 0, 0, 0), (.iconst 2, 1, 0, 0, 0, nI 2, 0), (.iadd, 1, 0, 0, 0, 0, 0), (.iaload, 1, 0, 0, 0, 0, 0)]
theorem kL_law_583 : rf_ck ML_law 583 cL_law_583 = true := by decide +kernel
theorem qL_law_594 : rf_kc ML_law 594 53 624 yX11_ofGroup 0 = true := by decide +kernel
def cL_law_597 : List rf_I := [(.aload_n 2, 1, 2, 0, 0, 0, 0), (.aload_n 0, 1, 0, 0, 0, 0, 0), (.iload_n 3, 1, 3, 0, 0, 0, 0), (.iconst 1, 1, 0, 0, 0, nI 1, 0), (.iadd, 1, 0, 0, 0, 0, 0), (.iaload, 1, 0, 0, 0, 0, 0), (.aload_n 0, 1, 0, 0, 0, 0, 0), (.iload_n 3, 1, 3, 0, 0, 0, 0), (.iconst 2, 1, 0, 0, 0, nI 2, 0), (.iadd, 1, 0, 0, 0, 0, 0), (.iaload, 1, 0, 0, 0, 0, 0)]
theorem kL_law_597 : rf_ck ML_law 597 cL_law_597 = true := by decide +kernel
theorem qL_law_608 : rf_kc ML_law 608 56 1426 yX12_ofGroup 0 = true := by decide +kernel
theorem bL_law_611 : rf_ckb ML_law 611 (.if_icmp .eq 1138) 1138 1749 = true := by decide +kernel
def cL_law_614 : List rf_I := [(.iconst 0, 1, 0, 0, 0, nI 0, 0)]
theorem kL_law_614 : rf_ck ML_law 614 cL_law_614 = true := by decide +kernel
theorem eL_law_615 : rf_cki ML_law 615 .ireturn = true := by decide +kernel
def cL_law_616 : List rf_I := [(.aload_n 1, 1, 1, 0, 0, 0, 0), (.aload_n 0, 1, 0, 0, 0, 0, 0), (.iload_n 3, 1, 3, 0, 0, 0, 0), (.iconst 1, 1, 0, 0, 0, nI 1, 0), (.iadd, 1, 0, 0, 0, 0, 0), (.iaload, 1, 0, 0, 0, 0, 0), (.aload_n 0, 1, 0, 0, 0, 0, 0), (.iload_n 3, 1, 3, 0, 0, 0, 0), (.iconst 2, 1, 0, 0, 0, nI 2, 0), (.iadd, 1, 0, 0, 0, 0, 0), (.iaload, 1, 0, 0, 0, 0, 0)]
theorem kL_law_616 : rf_ck ML_law 616 cL_law_616 = true := by decide +kernel
theorem qL_law_627 : rf_kc ML_law 627 57 673 yX11_as 0 = true := by decide +kernel
def cL_law_630 : List rf_I := [(.aload_n 2, 1, 2, 0, 0, 0, 0), (.aload_n 0, 1, 0, 0, 0, 0, 0), (.iload_n 3, 1, 3, 0, 0, 0, 0), (.iconst 1, 1, 0, 0, 0, nI 1, 0), (.iadd, 1, 0, 0, 0, 0, 0), (.iaload, 1, 0, 0, 0, 0, 0), (.aload_n 0, 1, 0, 0, 0, 0, 0), (.iload_n 3, 1, 3, 0, 0, 0, 0), (.iconst 2, 1, 0, 0, 0, nI 2, 0), (.iadd, 1, 0, 0, 0, 0, 0), (.iaload, 1, 0, 0, 0, 0, 0)]
theorem kL_law_630 : rf_ck ML_law 630 cL_law_630 = true := by decide +kernel
theorem qL_law_641 : rf_kc ML_law 641 60 1455 yX12_as 0 = true := by decide +kernel
theorem bL_law_644 : rf_ckb ML_law 644 (.if_icmp .eq 1105) 1105 1749 = true := by decide +kernel
def cL_law_647 : List rf_I := [(.iconst 0, 1, 0, 0, 0, nI 0, 0)]
theorem kL_law_647 : rf_ck ML_law 647 cL_law_647 = true := by decide +kernel
theorem eL_law_648 : rf_cki ML_law 648 .ireturn = true := by decide +kernel
def cL_law_649 : List rf_I := [(.aload_n 1, 1, 1, 0, 0, 0, 0), (.aload_n 0, 1, 0, 0, 0, 0, 0), (.iload_n 3, 1, 3, 0, 0, 0, 0), (.iconst 1, 1, 0, 0, 0, nI 1, 0), (.iadd, 1, 0, 0, 0, 0, 0), (.iaload, 1, 0, 0, 0, 0, 0), (.aload_n 0, 1, 0, 0, 0, 0, 0), (.iload_n 3, 1, 3, 0, 0, 0, 0), (.iconst 2, 1, 0, 0, 0, nI 2, 0), (.iadd, 1, 0, 0, 0, 0, 0), (.iaload, 1, 0, 0, 0, 0, 0)]
theorem kL_law_649 : rf_ck ML_law 649 cL_law_649 = true := by decide +kernel
theorem qL_law_660 : rf_kc ML_law 660 61 683 yX11_believe 0 = true := by decide +kernel
def cL_law_663 : List rf_I := [(.aload_n 2, 1, 2, 0, 0, 0, 0), (.aload_n 0, 1, 0, 0, 0, 0, 0), (.iload_n 3, 1, 3, 0, 0, 0, 0), (.iconst 1, 1, 0, 0, 0, nI 1, 0), (.iadd, 1, 0, 0, 0, 0, 0), (.iaload, 1, 0, 0, 0, 0, 0), (.aload_n 0, 1, 0, 0, 0, 0, 0), (.iload_n 3, 1, 3, 0, 0, 0, 0), (.iconst 2, 1, 0, 0, 0, nI 2, 0), (.iadd, 1, 0, 0, 0, 0, 0), (.iaload, 1, 0, 0, 0, 0, 0)]
theorem kL_law_663 : rf_ck ML_law 663 cL_law_663 = true := by decide +kernel
theorem qL_law_674 : rf_kc ML_law 674 64 1462 yX12_believe 0 = true := by decide +kernel
theorem bL_law_677 : rf_ckb ML_law 677 (.if_icmp .eq 1072) 1072 1749 = true := by decide +kernel
def cL_law_680 : List rf_I := [(.iconst 0, 1, 0, 0, 0, nI 0, 0)]
theorem kL_law_680 : rf_ck ML_law 680 cL_law_680 = true := by decide +kernel
theorem eL_law_681 : rf_cki ML_law 681 .ireturn = true := by decide +kernel
def cL_law_682 : List rf_I := [(.aload_n 1, 1, 1, 0, 0, 0, 0), (.aload_n 0, 1, 0, 0, 0, 0, 0), (.iload_n 3, 1, 3, 0, 0, 0, 0), (.iconst 1, 1, 0, 0, 0, nI 1, 0), (.iadd, 1, 0, 0, 0, 0, 0), (.iaload, 1, 0, 0, 0, 0, 0), (.aload_n 0, 1, 0, 0, 0, 0, 0), (.iload_n 3, 1, 3, 0, 0, 0, 0), (.iconst 2, 1, 0, 0, 0, nI 2, 0), (.iadd, 1, 0, 0, 0, 0, 0), (.iaload, 1, 0, 0, 0, 0, 0)]
theorem kL_law_682 : rf_ck ML_law 682 cL_law_682 = true := by decide +kernel
theorem qL_law_693 : rf_kc ML_law 693 65 688 yX11_price 0 = true := by decide +kernel
def cL_law_696 : List rf_I := [(.aload_n 2, 1, 2, 0, 0, 0, 0), (.aload_n 0, 1, 0, 0, 0, 0, 0), (.iload_n 3, 1, 3, 0, 0, 0, 0), (.iconst 1, 1, 0, 0, 0, nI 1, 0), (.iadd, 1, 0, 0, 0, 0, 0), (.iaload, 1, 0, 0, 0, 0, 0), (.aload_n 0, 1, 0, 0, 0, 0, 0), (.iload_n 3, 1, 3, 0, 0, 0, 0), (.iconst 2, 1, 0, 0, 0, nI 2, 0), (.iadd, 1, 0, 0, 0, 0, 0), (.iaload, 1, 0, 0, 0, 0, 0)]
theorem kL_law_696 : rf_ck ML_law 696 cL_law_696 = true := by decide +kernel
theorem qL_law_707 : rf_kc ML_law 707 68 1466 yX12_price 0 = true := by decide +kernel
theorem bL_law_710 : rf_ckb ML_law 710 (.if_icmp .eq 1039) 1039 1749 = true := by decide +kernel
def cL_law_713 : List rf_I := [(.iconst 0, 1, 0, 0, 0, nI 0, 0)]
theorem kL_law_713 : rf_ck ML_law 713 cL_law_713 = true := by decide +kernel
theorem eL_law_714 : rf_cki ML_law 714 .ireturn = true := by decide +kernel
def cL_law_715 : List rf_I := [(.aload_n 1, 1, 1, 0, 0, 0, 0), (.aload_n 0, 1, 0, 0, 0, 0, 0), (.iload_n 3, 1, 3, 0, 0, 0, 0), (.iconst 1, 1, 0, 0, 0, nI 1, 0), (.iadd, 1, 0, 0, 0, 0, 0), (.iaload, 1, 0, 0, 0, 0, 0), (.i2l, 1, 0, 0, 0, 0, 0), (.bipush 32, 2, 0, 0, 0, nI 32, 0), (.lshl, 1, 0, 0, 0, 0, 0), (.aload_n 0, 1, 0, 0, 0, 0, 0), (.iload_n 3, 1, 3, 0, 0, 0, 0), (.iconst 2, 1, 0, 0, 0, nI 2, 0), (.iadd, 1, 0, 0, 0, 0, 0), (.iaload, 1, 0, 0, 0, 0, 0), (.i2l, 1, 0, 0, 0, 0, 0), (.ldc2_w 69, 3, 0, 0, 1690, 0, lN 4294967295), (.land, 1, 0, 0, 0, 0, 0), (.lor, 1, 0, 0, 0, 0, 0), (.aload_n 0, 1, 0, 0, 0, 0, 0), (.iload_n 3, 1, 3, 0, 0, 0, 0), (.iconst 3, 1, 0, 0, 0, nI 3, 0), (.iadd, 1, 0, 0, 0, 0, 0), (.iaload, 1, 0, 0, 0, 0, 0)]
theorem kL_law_715 : rf_ck ML_law 715 cL_law_715 = true := by decide +kernel
theorem qL_law_741 : rf_kc ML_law 741 71 692 yX11_feed 0 = true := by decide +kernel
def cL_law_744 : List rf_I := [(.aload_n 2, 1, 2, 0, 0, 0, 0), (.aload_n 0, 1, 0, 0, 0, 0, 0), (.iload_n 3, 1, 3, 0, 0, 0, 0), (.iconst 1, 1, 0, 0, 0, nI 1, 0), (.iadd, 1, 0, 0, 0, 0, 0), (.iaload, 1, 0, 0, 0, 0, 0), (.i2l, 1, 0, 0, 0, 0, 0), (.bipush 32, 2, 0, 0, 0, nI 32, 0), (.lshl, 1, 0, 0, 0, 0, 0), (.aload_n 0, 1, 0, 0, 0, 0, 0), (.iload_n 3, 1, 3, 0, 0, 0, 0), (.iconst 2, 1, 0, 0, 0, nI 2, 0), (.iadd, 1, 0, 0, 0, 0, 0), (.iaload, 1, 0, 0, 0, 0, 0), (.i2l, 1, 0, 0, 0, 0, 0), (.ldc2_w 69, 3, 0, 0, 1690, 0, lN 4294967295), (.land, 1, 0, 0, 0, 0, 0), (.lor, 1, 0, 0, 0, 0, 0), (.aload_n 0, 1, 0, 0, 0, 0, 0), (.iload_n 3, 1, 3, 0, 0, 0, 0), (.iconst 3, 1, 0, 0, 0, nI 3, 0), (.iadd, 1, 0, 0, 0, 0, 0), (.iaload, 1, 0, 0, 0, 0, 0)]
theorem kL_law_744 : rf_ck ML_law 744 cL_law_744 = true := by decide +kernel
theorem qL_law_770 : rf_kc ML_law 770 75 1345 yX12_feed 0 = true := by decide +kernel
theorem bL_law_773 : rf_ckb ML_law 773 (.if_icmp .eq 976) 976 1749 = true := by decide +kernel
def cL_law_776 : List rf_I := [(.iconst 0, 1, 0, 0, 0, nI 0, 0)]
theorem kL_law_776 : rf_ck ML_law 776 cL_law_776 = true := by decide +kernel
theorem eL_law_777 : rf_cki ML_law 777 .ireturn = true := by decide +kernel
def cL_law_778 : List rf_I := [(.aload_n 1, 1, 1, 0, 0, 0, 0), (.aload_n 0, 1, 0, 0, 0, 0, 0), (.iload_n 3, 1, 3, 0, 0, 0, 0), (.iconst 1, 1, 0, 0, 0, nI 1, 0), (.iadd, 1, 0, 0, 0, 0, 0), (.iaload, 1, 0, 0, 0, 0, 0)]
theorem kL_law_778 : rf_ck ML_law 778 cL_law_778 = true := by decide +kernel
theorem qL_law_784 : rf_kc ML_law 784 76 700 yX11_text 0 = true := by decide +kernel
def cL_law_787 : List rf_I := [(.aload_n 2, 1, 2, 0, 0, 0, 0), (.aload_n 0, 1, 0, 0, 0, 0, 0), (.iload_n 3, 1, 3, 0, 0, 0, 0), (.iconst 1, 1, 0, 0, 0, nI 1, 0), (.iadd, 1, 0, 0, 0, 0, 0), (.iaload, 1, 0, 0, 0, 0, 0)]
theorem kL_law_787 : rf_ck ML_law 787 cL_law_787 = true := by decide +kernel
theorem qL_law_793 : rf_kc ML_law 793 80 1351 yX12_text 0 = true := by decide +kernel
theorem bL_law_796 : rf_ckb ML_law 796 (.if_icmp .eq 953) 953 1749 = true := by decide +kernel
def cL_law_799 : List rf_I := [(.iconst 0, 1, 0, 0, 0, nI 0, 0)]
theorem kL_law_799 : rf_ck ML_law 799 cL_law_799 = true := by decide +kernel
theorem eL_law_800 : rf_cki ML_law 800 .ireturn = true := by decide +kernel
def cL_law_801 : List rf_I := [(.aload_n 1, 1, 1, 0, 0, 0, 0), (.aload_n 0, 1, 0, 0, 0, 0, 0), (.iload_n 3, 1, 3, 0, 0, 0, 0), (.iconst 1, 1, 0, 0, 0, nI 1, 0), (.iadd, 1, 0, 0, 0, 0, 0), (.iaload, 1, 0, 0, 0, 0, 0), (.aload_n 0, 1, 0, 0, 0, 0, 0), (.iload_n 3, 1, 3, 0, 0, 0, 0), (.iconst 2, 1, 0, 0, 0, nI 2, 0), (.iadd, 1, 0, 0, 0, 0, 0), (.iaload, 1, 0, 0, 0, 0, 0), (.aload_n 0, 1, 0, 0, 0, 0, 0), (.iload_n 3, 1, 3, 0, 0, 0, 0), (.iconst 3, 1, 0, 0, 0, nI 3, 0), (.iadd, 1, 0, 0, 0, 0, 0), (.iaload, 1, 0, 0, 0, 0, 0), (.aload_n 0, 1, 0, 0, 0, 0, 0), (.iload_n 3, 1, 3, 0, 0, 0, 0), (.iconst 4, 1, 0, 0, 0, nI 4, 0), (.iadd, 1, 0, 0, 0, 0, 0), (.iaload, 1, 0, 0, 0, 0, 0), (.aload_n 0, 1, 0, 0, 0, 0, 0), (.iload_n 3, 1, 3, 0, 0, 0, 0), (.iconst 5, 1, 0, 0, 0, nI 5, 0), (.iadd, 1, 0, 0, 0, 0, 0), (.iaload, 1, 0, 0, 0, 0, 0)]
theorem kL_law_801 : rf_ck ML_law 801 cL_law_801 = true := by decide +kernel
theorem qL_law_827 : rf_kc ML_law 827 81 838 yX11_law 0 = true := by decide +kernel
def cL_law_830 : List rf_I := [(.aload_n 2, 1, 2, 0, 0, 0, 0), (.aload_n 0, 1, 0, 0, 0, 0, 0), (.iload_n 3, 1, 3, 0, 0, 0, 0), (.iconst 1, 1, 0, 0, 0, nI 1, 0), (.iadd, 1, 0, 0, 0, 0, 0), (.iaload, 1, 0, 0, 0, 0, 0), (.aload_n 0, 1, 0, 0, 0, 0, 0), (.iload_n 3, 1, 3, 0, 0, 0, 0), (.iconst 2, 1, 0, 0, 0, nI 2, 0), (.iadd, 1, 0, 0, 0, 0, 0), (.iaload, 1, 0, 0, 0, 0, 0), (.aload_n 0, 1, 0, 0, 0, 0, 0), (.iload_n 3, 1, 3, 0, 0, 0, 0), (.iconst 3, 1, 0, 0, 0, nI 3, 0), (.iadd, 1, 0, 0, 0, 0, 0), (.iaload, 1, 0, 0, 0, 0, 0), (.aload_n 0, 1, 0, 0, 0, 0, 0), (.iload_n 3, 1, 3, 0, 0, 0, 0), (.iconst 4, 1, 0, 0, 0, nI 4, 0), (.iadd, 1, 0, 0, 0, 0, 0), (.iaload, 1, 0, 0, 0, 0, 0), (.aload_n 0, 1, 0, 0, 0, 0, 0), (.iload_n 3, 1, 3, 0, 0, 0, 0), (.iconst 5, 1, 0, 0, 0, nI 5, 0), (.iadd, 1, 0, 0, 0, 0, 0), (.iaload, 1, 0, 0, 0, 0, 0)]
theorem kL_law_830 : rf_ck ML_law 830 cL_law_830 = true := by decide +kernel
theorem qL_law_856 : rf_kc ML_law 856 85 1401 yX12_law 0 = true := by decide +kernel
theorem bL_law_859 : rf_ckb ML_law 859 (.if_icmp .eq 890) 890 1749 = true := by decide +kernel
def cL_law_862 : List rf_I := [(.iconst 0, 1, 0, 0, 0, nI 0, 0)]
theorem kL_law_862 : rf_ck ML_law 862 cL_law_862 = true := by decide +kernel
theorem eL_law_863 : rf_cki ML_law 863 .ireturn = true := by decide +kernel
def cL_law_864 : List rf_I := [(.aload_n 1, 1, 1, 0, 0, 0, 0), (.aload_n 0, 1, 0, 0, 0, 0, 0), (.iload_n 3, 1, 3, 0, 0, 0, 0), (.iconst 1, 1, 0, 0, 0, nI 1, 0), (.iadd, 1, 0, 0, 0, 0, 0), (.iaload, 1, 0, 0, 0, 0, 0)]
theorem kL_law_864 : rf_ck ML_law 864 cL_law_864 = true := by decide +kernel
theorem qL_law_870 : rf_kc ML_law 870 86 847 yX11_walked 0 = true := by decide +kernel
def cL_law_873 : List rf_I := [(.aload_n 2, 1, 2, 0, 0, 0, 0), (.aload_n 0, 1, 0, 0, 0, 0, 0), (.iload_n 3, 1, 3, 0, 0, 0, 0), (.iconst 1, 1, 0, 0, 0, nI 1, 0), (.iadd, 1, 0, 0, 0, 0, 0), (.iaload, 1, 0, 0, 0, 0, 0)]
theorem kL_law_873 : rf_ck ML_law 873 cL_law_873 = true := by decide +kernel
theorem qL_law_879 : rf_kc ML_law 879 89 1471 yX12_walked 0 = true := by decide +kernel
theorem bL_law_882 : rf_ckb ML_law 882 (.if_icmp .eq 867) 867 1749 = true := by decide +kernel
def cL_law_885 : List rf_I := [(.iconst 0, 1, 0, 0, 0, nI 0, 0)]
theorem kL_law_885 : rf_ck ML_law 885 cL_law_885 = true := by decide +kernel
theorem eL_law_886 : rf_cki ML_law 886 .ireturn = true := by decide +kernel
def cL_law_887 : List rf_I := [(.aload_n 1, 1, 1, 0, 0, 0, 0), (.aload_n 0, 1, 0, 0, 0, 0, 0), (.iload_n 3, 1, 3, 0, 0, 0, 0), (.iconst 1, 1, 0, 0, 0, nI 1, 0), (.iadd, 1, 0, 0, 0, 0, 0), (.iaload, 1, 0, 0, 0, 0, 0)]
theorem kL_law_887 : rf_ck ML_law 887 cL_law_887 = true := by decide +kernel
theorem qL_law_893 : rf_kc ML_law 893 90 870 yX11_shift 0 = true := by decide +kernel
def cL_law_896 : List rf_I := [(.aload_n 2, 1, 2, 0, 0, 0, 0), (.aload_n 0, 1, 0, 0, 0, 0, 0), (.iload_n 3, 1, 3, 0, 0, 0, 0), (.iconst 1, 1, 0, 0, 0, nI 1, 0), (.iadd, 1, 0, 0, 0, 0, 0), (.iaload, 1, 0, 0, 0, 0, 0)]
theorem kL_law_896 : rf_ck ML_law 896 cL_law_896 = true := by decide +kernel
theorem qL_law_902 : rf_kc ML_law 902 93 1487 yX12_shift 0 = true := by decide +kernel
theorem bL_law_905 : rf_ckb ML_law 905 (.if_icmp .eq 844) 844 1749 = true := by decide +kernel
def cL_law_908 : List rf_I := [(.iconst 0, 1, 0, 0, 0, nI 0, 0)]
theorem kL_law_908 : rf_ck ML_law 908 cL_law_908 = true := by decide +kernel
theorem eL_law_909 : rf_cki ML_law 909 .ireturn = true := by decide +kernel
def cL_law_910 : List rf_I := [(.aload_n 1, 1, 1, 0, 0, 0, 0), (.aload_n 0, 1, 0, 0, 0, 0, 0), (.iload_n 3, 1, 3, 0, 0, 0, 0), (.iconst 1, 1, 0, 0, 0, nI 1, 0), (.iadd, 1, 0, 0, 0, 0, 0), (.iaload, 1, 0, 0, 0, 0, 0), (.aload_n 0, 1, 0, 0, 0, 0, 0), (.iload_n 3, 1, 3, 0, 0, 0, 0), (.iconst 2, 1, 0, 0, 0, nI 2, 0), (.iadd, 1, 0, 0, 0, 0, 0), (.iaload, 1, 0, 0, 0, 0, 0)]
theorem kL_law_910 : rf_ck ML_law 910 cL_law_910 = true := by decide +kernel
theorem qL_law_921 : rf_kc ML_law 921 94 879 yX11_lots 0 = true := by decide +kernel
def cL_law_924 : List rf_I := [(.aload_n 2, 1, 2, 0, 0, 0, 0), (.aload_n 0, 1, 0, 0, 0, 0, 0), (.iload_n 3, 1, 3, 0, 0, 0, 0), (.iconst 1, 1, 0, 0, 0, nI 1, 0), (.iadd, 1, 0, 0, 0, 0, 0), (.iaload, 1, 0, 0, 0, 0, 0), (.aload_n 0, 1, 0, 0, 0, 0, 0), (.iload_n 3, 1, 3, 0, 0, 0, 0), (.iconst 2, 1, 0, 0, 0, nI 2, 0), (.iadd, 1, 0, 0, 0, 0, 0), (.iaload, 1, 0, 0, 0, 0, 0)]
theorem kL_law_924 : rf_ck ML_law 924 cL_law_924 = true := by decide +kernel
theorem qL_law_935 : rf_kc ML_law 935 97 1491 yX12_lots 0 = true := by decide +kernel
theorem bL_law_938 : rf_ckb ML_law 938 (.if_icmp .eq 811) 811 1749 = true := by decide +kernel
def cL_law_941 : List rf_I := [(.iconst 0, 1, 0, 0, 0, nI 0, 0)]
theorem kL_law_941 : rf_ck ML_law 941 cL_law_941 = true := by decide +kernel
theorem eL_law_942 : rf_cki ML_law 942 .ireturn = true := by decide +kernel
def cL_law_943 : List rf_I := [(.aload_n 1, 1, 1, 0, 0, 0, 0), (.aload_n 0, 1, 0, 0, 0, 0, 0), (.iload_n 3, 1, 3, 0, 0, 0, 0), (.iconst 1, 1, 0, 0, 0, nI 1, 0), (.iadd, 1, 0, 0, 0, 0, 0), (.iaload, 1, 0, 0, 0, 0, 0), (.aload_n 0, 1, 0, 0, 0, 0, 0), (.iload_n 3, 1, 3, 0, 0, 0, 0), (.iconst 2, 1, 0, 0, 0, nI 2, 0), (.iadd, 1, 0, 0, 0, 0, 0), (.iaload, 1, 0, 0, 0, 0, 0)]
theorem kL_law_943 : rf_ck ML_law 943 cL_law_943 = true := by decide +kernel
theorem qL_law_954 : rf_kc ML_law 954 98 887 yX11_ofShift 0 = true := by decide +kernel
def cL_law_957 : List rf_I := [(.aload_n 2, 1, 2, 0, 0, 0, 0), (.aload_n 0, 1, 0, 0, 0, 0, 0), (.iload_n 3, 1, 3, 0, 0, 0, 0), (.iconst 1, 1, 0, 0, 0, nI 1, 0), (.iadd, 1, 0, 0, 0, 0, 0), (.iaload, 1, 0, 0, 0, 0, 0), (.aload_n 0, 1, 0, 0, 0, 0, 0), (.iload_n 3, 1, 3, 0, 0, 0, 0), (.iconst 2, 1, 0, 0, 0, nI 2, 0), (.iadd, 1, 0, 0, 0, 0, 0), (.iaload, 1, 0, 0, 0, 0, 0)]
theorem kL_law_957 : rf_ck ML_law 957 cL_law_957 = true := by decide +kernel
theorem qL_law_968 : rf_kc ML_law 968 101 1499 yX12_ofShift 0 = true := by decide +kernel
theorem bL_law_971 : rf_ckb ML_law 971 (.if_icmp .eq 778) 778 1749 = true := by decide +kernel
def cL_law_974 : List rf_I := [(.iconst 0, 1, 0, 0, 0, nI 0, 0)]
theorem kL_law_974 : rf_ck ML_law 974 cL_law_974 = true := by decide +kernel
theorem eL_law_975 : rf_cki ML_law 975 .ireturn = true := by decide +kernel
def cL_law_976 : List rf_I := [(.aload_n 1, 1, 1, 0, 0, 0, 0), (.aload_n 0, 1, 0, 0, 0, 0, 0), (.iload_n 3, 1, 3, 0, 0, 0, 0), (.iconst 1, 1, 0, 0, 0, nI 1, 0), (.iadd, 1, 0, 0, 0, 0, 0), (.iaload, 1, 0, 0, 0, 0, 0), (.aload_n 0, 1, 0, 0, 0, 0, 0), (.iload_n 3, 1, 3, 0, 0, 0, 0), (.iconst 2, 1, 0, 0, 0, nI 2, 0), (.iadd, 1, 0, 0, 0, 0, 0), (.iaload, 1, 0, 0, 0, 0, 0)]
theorem kL_law_976 : rf_ck ML_law 976 cL_law_976 = true := by decide +kernel
theorem qL_law_987 : rf_kc ML_law 987 102 895 yX11_odds 0 = true := by decide +kernel
def cL_law_990 : List rf_I := [(.aload_n 2, 1, 2, 0, 0, 0, 0), (.aload_n 0, 1, 0, 0, 0, 0, 0), (.iload_n 3, 1, 3, 0, 0, 0, 0), (.iconst 1, 1, 0, 0, 0, nI 1, 0), (.iadd, 1, 0, 0, 0, 0, 0), (.iaload, 1, 0, 0, 0, 0, 0), (.aload_n 0, 1, 0, 0, 0, 0, 0), (.iload_n 3, 1, 3, 0, 0, 0, 0), (.iconst 2, 1, 0, 0, 0, nI 2, 0), (.iadd, 1, 0, 0, 0, 0, 0), (.iaload, 1, 0, 0, 0, 0, 0)]
theorem kL_law_990 : rf_ck ML_law 990 cL_law_990 = true := by decide +kernel
theorem qL_law_1001 : rf_kc ML_law 1001 105 1508 yX12_odds 0 = true := by decide +kernel
theorem bL_law_1004 : rf_ckb ML_law 1004 (.if_icmp .eq 745) 745 1749 = true := by decide +kernel
def cL_law_1007 : List rf_I := [(.iconst 0, 1, 0, 0, 0, nI 0, 0)]
theorem kL_law_1007 : rf_ck ML_law 1007 cL_law_1007 = true := by decide +kernel
theorem eL_law_1008 : rf_cki ML_law 1008 .ireturn = true := by decide +kernel
def cL_law_1009 : List rf_I := [(.aload_n 1, 1, 1, 0, 0, 0, 0)]
theorem kL_law_1009 : rf_ck ML_law 1009 cL_law_1009 = true := by decide +kernel
theorem qL_law_1010 : rf_kc ML_law 1010 106 903 yX11_unpaid 0 = true := by decide +kernel
def cL_law_1013 : List rf_I := [(.aload_n 2, 1, 2, 0, 0, 0, 0)]
theorem kL_law_1013 : rf_ck ML_law 1013 cL_law_1013 = true := by decide +kernel
theorem qL_law_1014 : rf_kc ML_law 1014 109 1518 yX12_unpaid 0 = true := by decide +kernel
theorem bL_law_1017 : rf_ckb ML_law 1017 (.if_icmp .eq 732) 732 1749 = true := by decide +kernel
def cL_law_1020 : List rf_I := [(.iconst 0, 1, 0, 0, 0, nI 0, 0)]
theorem kL_law_1020 : rf_ck ML_law 1020 cL_law_1020 = true := by decide +kernel
theorem eL_law_1021 : rf_cki ML_law 1021 .ireturn = true := by decide +kernel
def cL_law_1022 : List rf_I := [(.aload_n 1, 1, 1, 0, 0, 0, 0), (.aload_n 0, 1, 0, 0, 0, 0, 0), (.iload_n 3, 1, 3, 0, 0, 0, 0), (.iconst 1, 1, 0, 0, 0, nI 1, 0), (.iadd, 1, 0, 0, 0, 0, 0), (.iaload, 1, 0, 0, 0, 0, 0)]
theorem kL_law_1022 : rf_ck ML_law 1022 cL_law_1022 = true := by decide +kernel
theorem qL_law_1028 : rf_kc ML_law 1028 110 913 yX11_coin 0 = true := by decide +kernel
def cL_law_1031 : List rf_I := [(.aload_n 2, 1, 2, 0, 0, 0, 0), (.aload_n 0, 1, 0, 0, 0, 0, 0), (.iload_n 3, 1, 3, 0, 0, 0, 0), (.iconst 1, 1, 0, 0, 0, nI 1, 0), (.iadd, 1, 0, 0, 0, 0, 0), (.iaload, 1, 0, 0, 0, 0, 0)]
theorem kL_law_1031 : rf_ck ML_law 1031 cL_law_1031 = true := by decide +kernel
theorem qL_law_1037 : rf_kc ML_law 1037 114 1526 yX12_coin 0 = true := by decide +kernel
def cL_law_1040 : List rf_I := [(.lcmp, 1, 0, 0, 0, 0, 0)]
theorem kL_law_1040 : rf_ck ML_law 1040 cL_law_1040 = true := by decide +kernel
theorem bL_law_1041 : rf_ckb ML_law 1041 (.ifCond .eq 708) 708 1749 = true := by decide +kernel
def cL_law_1044 : List rf_I := [(.iconst 0, 1, 0, 0, 0, nI 0, 0)]
theorem kL_law_1044 : rf_ck ML_law 1044 cL_law_1044 = true := by decide +kernel
theorem eL_law_1045 : rf_cki ML_law 1045 .ireturn = true := by decide +kernel
def cL_law_1046 : List rf_I := [(.aload_n 1, 1, 1, 0, 0, 0, 0), (.aload_n 0, 1, 0, 0, 0, 0, 0), (.iload_n 3, 1, 3, 0, 0, 0, 0), (.iconst 1, 1, 0, 0, 0, nI 1, 0), (.iadd, 1, 0, 0, 0, 0, 0), (.iaload, 1, 0, 0, 0, 0, 0), (.aload_n 0, 1, 0, 0, 0, 0, 0), (.iload_n 3, 1, 3, 0, 0, 0, 0), (.iconst 2, 1, 0, 0, 0, nI 2, 0), (.iadd, 1, 0, 0, 0, 0, 0), (.iaload, 1, 0, 0, 0, 0, 0)]
theorem kL_law_1046 : rf_ck ML_law 1046 cL_law_1046 = true := by decide +kernel
theorem qL_law_1057 : rf_kc ML_law 1057 115 921 yX11_best 0 = true := by decide +kernel
def cL_law_1060 : List rf_I := [(.aload_n 2, 1, 2, 0, 0, 0, 0), (.aload_n 0, 1, 0, 0, 0, 0, 0), (.iload_n 3, 1, 3, 0, 0, 0, 0), (.iconst 1, 1, 0, 0, 0, nI 1, 0), (.iadd, 1, 0, 0, 0, 0, 0), (.iaload, 1, 0, 0, 0, 0, 0), (.aload_n 0, 1, 0, 0, 0, 0, 0), (.iload_n 3, 1, 3, 0, 0, 0, 0), (.iconst 2, 1, 0, 0, 0, nI 2, 0), (.iadd, 1, 0, 0, 0, 0, 0), (.iaload, 1, 0, 0, 0, 0, 0)]
theorem kL_law_1060 : rf_ck ML_law 1060 cL_law_1060 = true := by decide +kernel
theorem qL_law_1071 : rf_kc ML_law 1071 118 1534 yX12_best 0 = true := by decide +kernel
theorem bL_law_1074 : rf_ckb ML_law 1074 (.if_icmp .eq 675) 675 1749 = true := by decide +kernel
def cL_law_1077 : List rf_I := [(.iconst 0, 1, 0, 0, 0, nI 0, 0)]
theorem kL_law_1077 : rf_ck ML_law 1077 cL_law_1077 = true := by decide +kernel
theorem eL_law_1078 : rf_cki ML_law 1078 .ireturn = true := by decide +kernel
def cL_law_1079 : List rf_I := [(.aload_n 1, 1, 1, 0, 0, 0, 0), (.aload_n 0, 1, 0, 0, 0, 0, 0), (.iload_n 3, 1, 3, 0, 0, 0, 0), (.iconst 1, 1, 0, 0, 0, nI 1, 0), (.iadd, 1, 0, 0, 0, 0, 0), (.iaload, 1, 0, 0, 0, 0, 0)]
theorem kL_law_1079 : rf_ck ML_law 1079 cL_law_1079 = true := by decide +kernel
theorem qL_law_1085 : rf_kc ML_law 1085 119 950 yX11_plan 0 = true := by decide +kernel
def cL_law_1088 : List rf_I := [(.aload_n 2, 1, 2, 0, 0, 0, 0), (.aload_n 0, 1, 0, 0, 0, 0, 0), (.iload_n 3, 1, 3, 0, 0, 0, 0), (.iconst 1, 1, 0, 0, 0, nI 1, 0), (.iadd, 1, 0, 0, 0, 0, 0), (.iaload, 1, 0, 0, 0, 0, 0)]
theorem kL_law_1088 : rf_ck ML_law 1088 cL_law_1088 = true := by decide +kernel
theorem qL_law_1094 : rf_kc ML_law 1094 122 1547 yX12_plan 0 = true := by decide +kernel
theorem bL_law_1097 : rf_ckb ML_law 1097 (.if_icmp .eq 652) 652 1749 = true := by decide +kernel
def cL_law_1100 : List rf_I := [(.iconst 0, 1, 0, 0, 0, nI 0, 0)]
theorem kL_law_1100 : rf_ck ML_law 1100 cL_law_1100 = true := by decide +kernel
theorem eL_law_1101 : rf_cki ML_law 1101 .ireturn = true := by decide +kernel
def cL_law_1102 : List rf_I := [(.aload_n 1, 1, 1, 0, 0, 0, 0), (.aload_n 0, 1, 0, 0, 0, 0, 0), (.iload_n 3, 1, 3, 0, 0, 0, 0), (.iconst 1, 1, 0, 0, 0, nI 1, 0), (.iadd, 1, 0, 0, 0, 0, 0), (.iaload, 1, 0, 0, 0, 0, 0)]
theorem kL_law_1102 : rf_ck ML_law 1102 cL_law_1102 = true := by decide +kernel
theorem qL_law_1108 : rf_kc ML_law 1108 123 959 yX11_days 0 = true := by decide +kernel
def cL_law_1111 : List rf_I := [(.aload_n 2, 1, 2, 0, 0, 0, 0), (.aload_n 0, 1, 0, 0, 0, 0, 0), (.iload_n 3, 1, 3, 0, 0, 0, 0), (.iconst 1, 1, 0, 0, 0, nI 1, 0), (.iadd, 1, 0, 0, 0, 0, 0), (.iaload, 1, 0, 0, 0, 0, 0)]
theorem kL_law_1111 : rf_ck ML_law 1111 cL_law_1111 = true := by decide +kernel
theorem qL_law_1117 : rf_kc ML_law 1117 126 1551 yX12_days 0 = true := by decide +kernel
theorem bL_law_1120 : rf_ckb ML_law 1120 (.if_icmp .eq 629) 629 1749 = true := by decide +kernel
def cL_law_1123 : List rf_I := [(.iconst 0, 1, 0, 0, 0, nI 0, 0)]
theorem kL_law_1123 : rf_ck ML_law 1123 cL_law_1123 = true := by decide +kernel
theorem eL_law_1124 : rf_cki ML_law 1124 .ireturn = true := by decide +kernel
def cL_law_1125 : List rf_I := [(.aload_n 1, 1, 1, 0, 0, 0, 0), (.aload_n 0, 1, 0, 0, 0, 0, 0), (.iload_n 3, 1, 3, 0, 0, 0, 0), (.iconst 1, 1, 0, 0, 0, nI 1, 0), (.iadd, 1, 0, 0, 0, 0, 0), (.iaload, 1, 0, 0, 0, 0, 0), (.aload_n 0, 1, 0, 0, 0, 0, 0), (.iload_n 3, 1, 3, 0, 0, 0, 0), (.iconst 2, 1, 0, 0, 0, nI 2, 0), (.iadd, 1, 0, 0, 0, 0, 0), (.iaload, 1, 0, 0, 0, 0, 0)]
theorem kL_law_1125 : rf_ck ML_law 1125 cL_law_1125 = true := by decide +kernel
theorem qL_law_1136 : rf_kc ML_law 1136 127 988 yX11_find 0 = true := by decide +kernel
def cL_law_1139 : List rf_I := [(.aload_n 2, 1, 2, 0, 0, 0, 0), (.aload_n 0, 1, 0, 0, 0, 0, 0), (.iload_n 3, 1, 3, 0, 0, 0, 0), (.iconst 1, 1, 0, 0, 0, nI 1, 0), (.iadd, 1, 0, 0, 0, 0, 0), (.iaload, 1, 0, 0, 0, 0, 0), (.aload_n 0, 1, 0, 0, 0, 0, 0), (.iload_n 3, 1, 3, 0, 0, 0, 0), (.iconst 2, 1, 0, 0, 0, nI 2, 0), (.iadd, 1, 0, 0, 0, 0, 0), (.iaload, 1, 0, 0, 0, 0, 0)]
theorem kL_law_1139 : rf_ck ML_law 1139 cL_law_1139 = true := by decide +kernel
theorem qL_law_1150 : rf_kc ML_law 1150 130 1571 yX12_find 0 = true := by decide +kernel
theorem bL_law_1153 : rf_ckb ML_law 1153 (.if_icmp .eq 596) 596 1749 = true := by decide +kernel
def cL_law_1156 : List rf_I := [(.iconst 0, 1, 0, 0, 0, nI 0, 0)]
theorem kL_law_1156 : rf_ck ML_law 1156 cL_law_1156 = true := by decide +kernel
theorem eL_law_1157 : rf_cki ML_law 1157 .ireturn = true := by decide +kernel
def cL_law_1158 : List rf_I := [(.aload_n 1, 1, 1, 0, 0, 0, 0)]
theorem kL_law_1158 : rf_ck ML_law 1158 cL_law_1158 = true := by decide +kernel
theorem qL_law_1159 : rf_kc ML_law 1159 131 992 yX11_average 0 = true := by decide +kernel
def cL_law_1162 : List rf_I := [(.aload_n 2, 1, 2, 0, 0, 0, 0)]
theorem kL_law_1162 : rf_ck ML_law 1162 cL_law_1162 = true := by decide +kernel
theorem qL_law_1163 : rf_kc ML_law 1163 134 1575 yX12_average 0 = true := by decide +kernel
theorem bL_law_1166 : rf_ckb ML_law 1166 (.if_icmp .eq 583) 583 1749 = true := by decide +kernel
def cL_law_1169 : List rf_I := [(.iconst 0, 1, 0, 0, 0, nI 0, 0)]
theorem kL_law_1169 : rf_ck ML_law 1169 cL_law_1169 = true := by decide +kernel
theorem eL_law_1170 : rf_cki ML_law 1170 .ireturn = true := by decide +kernel
def cL_law_1171 : List rf_I := [(.aload_n 1, 1, 1, 0, 0, 0, 0), (.aload_n 0, 1, 0, 0, 0, 0, 0), (.iload_n 3, 1, 3, 0, 0, 0, 0), (.iconst 1, 1, 0, 0, 0, nI 1, 0), (.iadd, 1, 0, 0, 0, 0, 0), (.iaload, 1, 0, 0, 0, 0, 0), (.aload_n 0, 1, 0, 0, 0, 0, 0), (.iload_n 3, 1, 3, 0, 0, 0, 0), (.iconst 2, 1, 0, 0, 0, nI 2, 0), (.iadd, 1, 0, 0, 0, 0, 0), (.iaload, 1, 0, 0, 0, 0, 0), (.aload_n 0, 1, 0, 0, 0, 0, 0), (.iload_n 3, 1, 3, 0, 0, 0, 0), (.iconst 3, 1, 0, 0, 0, nI 3, 0), (.iadd, 1, 0, 0, 0, 0, 0), (.iaload, 1, 0, 0, 0, 0, 0), (.aload_n 0, 1, 0, 0, 0, 0, 0), (.iload_n 3, 1, 3, 0, 0, 0, 0), (.iconst 4, 1, 0, 0, 0, nI 4, 0), (.iadd, 1, 0, 0, 0, 0, 0), (.iaload, 1, 0, 0, 0, 0, 0)]
theorem kL_law_1171 : rf_ck ML_law 1171 cL_law_1171 = true := by decide +kernel
theorem qL_law_1192 : rf_kc ML_law 1192 135 1001 yX11_telling 0 = true := by decide +kernel
def cL_law_1195 : List rf_I := [(.aload_n 2, 1, 2, 0, 0, 0, 0), (.aload_n 0, 1, 0, 0, 0, 0, 0), (.iload_n 3, 1, 3, 0, 0, 0, 0), (.iconst 1, 1, 0, 0, 0, nI 1, 0), (.iadd, 1, 0, 0, 0, 0, 0), (.iaload, 1, 0, 0, 0, 0, 0), (.aload_n 0, 1, 0, 0, 0, 0, 0), (.iload_n 3, 1, 3, 0, 0, 0, 0), (.iconst 2, 1, 0, 0, 0, nI 2, 0), (.iadd, 1, 0, 0, 0, 0, 0), (.iaload, 1, 0, 0, 0, 0, 0), (.aload_n 0, 1, 0, 0, 0, 0, 0), (.iload_n 3, 1, 3, 0, 0, 0, 0), (.iconst 3, 1, 0, 0, 0, nI 3, 0), (.iadd, 1, 0, 0, 0, 0, 0), (.iaload, 1, 0, 0, 0, 0, 0), (.aload_n 0, 1, 0, 0, 0, 0, 0), (.iload_n 3, 1, 3, 0, 0, 0, 0), (.iconst 4, 1, 0, 0, 0, nI 4, 0), (.iadd, 1, 0, 0, 0, 0, 0), (.iaload, 1, 0, 0, 0, 0, 0)]
theorem kL_law_1195 : rf_ck ML_law 1195 cL_law_1195 = true := by decide +kernel
theorem qL_law_1216 : rf_kc ML_law 1216 138 1579 yX12_telling 0 = true := by decide +kernel
theorem bL_law_1219 : rf_ckb ML_law 1219 (.if_icmp .eq 530) 530 1749 = true := by decide +kernel
def cL_law_1222 : List rf_I := [(.iconst 0, 1, 0, 0, 0, nI 0, 0)]
theorem kL_law_1222 : rf_ck ML_law 1222 cL_law_1222 = true := by decide +kernel
theorem eL_law_1223 : rf_cki ML_law 1223 .ireturn = true := by decide +kernel
def cL_law_1224 : List rf_I := [(.aload_n 1, 1, 1, 0, 0, 0, 0), (.aload_n 0, 1, 0, 0, 0, 0, 0), (.iload_n 3, 1, 3, 0, 0, 0, 0), (.iconst 1, 1, 0, 0, 0, nI 1, 0), (.iadd, 1, 0, 0, 0, 0, 0), (.iaload, 1, 0, 0, 0, 0, 0)]
theorem kL_law_1224 : rf_ck ML_law 1224 cL_law_1224 = true := by decide +kernel
theorem qL_law_1230 : rf_kc ML_law 1230 139 1010 yX11_turn 0 = true := by decide +kernel
def cL_law_1233 : List rf_I := [(.aload_n 2, 1, 2, 0, 0, 0, 0), (.aload_n 0, 1, 0, 0, 0, 0, 0), (.iload_n 3, 1, 3, 0, 0, 0, 0), (.iconst 1, 1, 0, 0, 0, nI 1, 0), (.iadd, 1, 0, 0, 0, 0, 0), (.iaload, 1, 0, 0, 0, 0, 0)]
theorem kL_law_1233 : rf_ck ML_law 1233 cL_law_1233 = true := by decide +kernel
theorem qL_law_1239 : rf_kc ML_law 1239 142 1584 yX12_turn 0 = true := by decide +kernel
theorem bL_law_1242 : rf_ckb ML_law 1242 (.if_icmp .eq 507) 507 1749 = true := by decide +kernel
def cL_law_1245 : List rf_I := [(.iconst 0, 1, 0, 0, 0, nI 0, 0)]
theorem kL_law_1245 : rf_ck ML_law 1245 cL_law_1245 = true := by decide +kernel
theorem eL_law_1246 : rf_cki ML_law 1246 .ireturn = true := by decide +kernel
def cL_law_1247 : List rf_I := [(.aload_n 1, 1, 1, 0, 0, 0, 0), (.aload_n 0, 1, 0, 0, 0, 0, 0), (.iload_n 3, 1, 3, 0, 0, 0, 0), (.iconst 1, 1, 0, 0, 0, nI 1, 0), (.iadd, 1, 0, 0, 0, 0, 0), (.iaload, 1, 0, 0, 0, 0, 0), (.aload_n 0, 1, 0, 0, 0, 0, 0), (.iload_n 3, 1, 3, 0, 0, 0, 0), (.iconst 2, 1, 0, 0, 0, nI 2, 0), (.iadd, 1, 0, 0, 0, 0, 0), (.iaload, 1, 0, 0, 0, 0, 0)]
theorem kL_law_1247 : rf_ck ML_law 1247 cL_law_1247 = true := by decide +kernel
theorem qL_law_1258 : rf_kc ML_law 1258 143 1024 yX11_gate 0 = true := by decide +kernel
def cL_law_1261 : List rf_I := [(.aload_n 2, 1, 2, 0, 0, 0, 0), (.aload_n 0, 1, 0, 0, 0, 0, 0), (.iload_n 3, 1, 3, 0, 0, 0, 0), (.iconst 1, 1, 0, 0, 0, nI 1, 0), (.iadd, 1, 0, 0, 0, 0, 0), (.iaload, 1, 0, 0, 0, 0, 0), (.aload_n 0, 1, 0, 0, 0, 0, 0), (.iload_n 3, 1, 3, 0, 0, 0, 0), (.iconst 2, 1, 0, 0, 0, nI 2, 0), (.iadd, 1, 0, 0, 0, 0, 0), (.iaload, 1, 0, 0, 0, 0, 0)]
theorem kL_law_1261 : rf_ck ML_law 1261 cL_law_1261 = true := by decide +kernel
theorem qL_law_1272 : rf_kc ML_law 1272 146 1589 yX12_gate 0 = true := by decide +kernel
theorem bL_law_1275 : rf_ckb ML_law 1275 (.if_icmp .eq 474) 474 1749 = true := by decide +kernel
def cL_law_1278 : List rf_I := [(.iconst 0, 1, 0, 0, 0, nI 0, 0)]
theorem kL_law_1278 : rf_ck ML_law 1278 cL_law_1278 = true := by decide +kernel
theorem eL_law_1279 : rf_cki ML_law 1279 .ireturn = true := by decide +kernel
def cL_law_1280 : List rf_I := [(.aload_n 1, 1, 1, 0, 0, 0, 0), (.aload_n 0, 1, 0, 0, 0, 0, 0), (.iload_n 3, 1, 3, 0, 0, 0, 0), (.iconst 1, 1, 0, 0, 0, nI 1, 0), (.iadd, 1, 0, 0, 0, 0, 0), (.iaload, 1, 0, 0, 0, 0, 0), (.aload_n 0, 1, 0, 0, 0, 0, 0), (.iload_n 3, 1, 3, 0, 0, 0, 0), (.iconst 2, 1, 0, 0, 0, nI 2, 0), (.iadd, 1, 0, 0, 0, 0, 0), (.iaload, 1, 0, 0, 0, 0, 0)]
theorem kL_law_1280 : rf_ck ML_law 1280 cL_law_1280 = true := by decide +kernel
theorem qL_law_1291 : rf_kc ML_law 1291 147 1033 yX11_wrong 0 = true := by decide +kernel
def cL_law_1294 : List rf_I := [(.aload_n 2, 1, 2, 0, 0, 0, 0), (.aload_n 0, 1, 0, 0, 0, 0, 0), (.iload_n 3, 1, 3, 0, 0, 0, 0), (.iconst 1, 1, 0, 0, 0, nI 1, 0), (.iadd, 1, 0, 0, 0, 0, 0), (.iaload, 1, 0, 0, 0, 0, 0), (.aload_n 0, 1, 0, 0, 0, 0, 0), (.iload_n 3, 1, 3, 0, 0, 0, 0), (.iconst 2, 1, 0, 0, 0, nI 2, 0), (.iadd, 1, 0, 0, 0, 0, 0), (.iaload, 1, 0, 0, 0, 0, 0)]
theorem kL_law_1294 : rf_ck ML_law 1294 cL_law_1294 = true := by decide +kernel
theorem qL_law_1305 : rf_kc ML_law 1305 151 1593 yX12_wrong_ 0 = true := by decide +kernel
def cL_law_1308 : List rf_I := [(.lcmp, 1, 0, 0, 0, 0, 0)]
theorem kL_law_1308 : rf_ck ML_law 1308 cL_law_1308 = true := by decide +kernel
theorem bL_law_1309 : rf_ckb ML_law 1309 (.ifCond .eq 440) 440 1749 = true := by decide +kernel
def cL_law_1312 : List rf_I := [(.iconst 0, 1, 0, 0, 0, nI 0, 0)]
theorem kL_law_1312 : rf_ck ML_law 1312 cL_law_1312 = true := by decide +kernel
theorem eL_law_1313 : rf_cki ML_law 1313 .ireturn = true := by decide +kernel
def cL_law_1314 : List rf_I := [(.aload_n 1, 1, 1, 0, 0, 0, 0), (.aload_n 0, 1, 0, 0, 0, 0, 0), (.iload_n 3, 1, 3, 0, 0, 0, 0), (.iconst 1, 1, 0, 0, 0, nI 1, 0), (.iadd, 1, 0, 0, 0, 0, 0), (.iaload, 1, 0, 0, 0, 0, 0), (.aload_n 0, 1, 0, 0, 0, 0, 0), (.iload_n 3, 1, 3, 0, 0, 0, 0), (.iconst 2, 1, 0, 0, 0, nI 2, 0), (.iadd, 1, 0, 0, 0, 0, 0), (.iaload, 1, 0, 0, 0, 0, 0)]
theorem kL_law_1314 : rf_ck ML_law 1314 cL_law_1314 = true := by decide +kernel
theorem qL_law_1325 : rf_kc ML_law 1325 152 1042 yX11_seen 0 = true := by decide +kernel
def cL_law_1328 : List rf_I := [(.aload_n 2, 1, 2, 0, 0, 0, 0), (.aload_n 0, 1, 0, 0, 0, 0, 0), (.iload_n 3, 1, 3, 0, 0, 0, 0), (.iconst 1, 1, 0, 0, 0, nI 1, 0), (.iadd, 1, 0, 0, 0, 0, 0), (.iaload, 1, 0, 0, 0, 0, 0), (.aload_n 0, 1, 0, 0, 0, 0, 0), (.iload_n 3, 1, 3, 0, 0, 0, 0), (.iconst 2, 1, 0, 0, 0, nI 2, 0), (.iadd, 1, 0, 0, 0, 0, 0), (.iaload, 1, 0, 0, 0, 0, 0)]
theorem kL_law_1328 : rf_ck ML_law 1328 cL_law_1328 = true := by decide +kernel
theorem qL_law_1339 : rf_kc ML_law 1339 155 1598 yX12_seen 0 = true := by decide +kernel
theorem bL_law_1342 : rf_ckb ML_law 1342 (.if_icmp .eq 407) 407 1749 = true := by decide +kernel
def cL_law_1345 : List rf_I := [(.iconst 0, 1, 0, 0, 0, nI 0, 0)]
theorem kL_law_1345 : rf_ck ML_law 1345 cL_law_1345 = true := by decide +kernel
theorem eL_law_1346 : rf_cki ML_law 1346 .ireturn = true := by decide +kernel
def cL_law_1347 : List rf_I := [(.aload_n 1, 1, 1, 0, 0, 0, 0), (.aload_n 0, 1, 0, 0, 0, 0, 0), (.iload_n 3, 1, 3, 0, 0, 0, 0), (.iconst 1, 1, 0, 0, 0, nI 1, 0), (.iadd, 1, 0, 0, 0, 0, 0), (.iaload, 1, 0, 0, 0, 0, 0)]
theorem kL_law_1347 : rf_ck ML_law 1347 cL_law_1347 = true := by decide +kernel
theorem qL_law_1353 : rf_kc ML_law 1353 156 1053 yX11_fair 0 = true := by decide +kernel
def cL_law_1356 : List rf_I := [(.aload_n 2, 1, 2, 0, 0, 0, 0), (.aload_n 0, 1, 0, 0, 0, 0, 0), (.iload_n 3, 1, 3, 0, 0, 0, 0), (.iconst 1, 1, 0, 0, 0, nI 1, 0), (.iadd, 1, 0, 0, 0, 0, 0), (.iaload, 1, 0, 0, 0, 0, 0)]
theorem kL_law_1356 : rf_ck ML_law 1356 cL_law_1356 = true := by decide +kernel
theorem qL_law_1362 : rf_kc ML_law 1362 159 1603 yX12_fair 0 = true := by decide +kernel
theorem bL_law_1365 : rf_ckb ML_law 1365 (.if_icmp .eq 384) 384 1749 = true := by decide +kernel
def cL_law_1368 : List rf_I := [(.iconst 0, 1, 0, 0, 0, nI 0, 0)]
theorem kL_law_1368 : rf_ck ML_law 1368 cL_law_1368 = true := by decide +kernel
theorem eL_law_1369 : rf_cki ML_law 1369 .ireturn = true := by decide +kernel
def cL_law_1370 : List rf_I := [(.aload_n 1, 1, 1, 0, 0, 0, 0), (.aload_n 0, 1, 0, 0, 0, 0, 0), (.iload_n 3, 1, 3, 0, 0, 0, 0), (.iconst 1, 1, 0, 0, 0, nI 1, 0), (.iadd, 1, 0, 0, 0, 0, 0), (.iaload, 1, 0, 0, 0, 0, 0)]
theorem kL_law_1370 : rf_ck ML_law 1370 cL_law_1370 = true := by decide +kernel
theorem qL_law_1376 : rf_kc ML_law 1376 160 1061 yX11_seed 0 = true := by decide +kernel
def cL_law_1379 : List rf_I := [(.aload_n 2, 1, 2, 0, 0, 0, 0), (.aload_n 0, 1, 0, 0, 0, 0, 0), (.iload_n 3, 1, 3, 0, 0, 0, 0), (.iconst 1, 1, 0, 0, 0, nI 1, 0), (.iadd, 1, 0, 0, 0, 0, 0), (.iaload, 1, 0, 0, 0, 0, 0)]
theorem kL_law_1379 : rf_ck ML_law 1379 cL_law_1379 = true := by decide +kernel
theorem qL_law_1385 : rf_kc ML_law 1385 163 1607 yX12_seed 0 = true := by decide +kernel
theorem bL_law_1388 : rf_ckb ML_law 1388 (.if_icmp .eq 361) 361 1749 = true := by decide +kernel
def cL_law_1391 : List rf_I := [(.iconst 0, 1, 0, 0, 0, nI 0, 0)]
theorem kL_law_1391 : rf_ck ML_law 1391 cL_law_1391 = true := by decide +kernel
theorem eL_law_1392 : rf_cki ML_law 1392 .ireturn = true := by decide +kernel
def cL_law_1393 : List rf_I := [(.aload_n 1, 1, 1, 0, 0, 0, 0), (.aload_n 0, 1, 0, 0, 0, 0, 0), (.iload_n 3, 1, 3, 0, 0, 0, 0), (.iconst 1, 1, 0, 0, 0, nI 1, 0), (.iadd, 1, 0, 0, 0, 0, 0), (.iaload, 1, 0, 0, 0, 0, 0), (.aload_n 0, 1, 0, 0, 0, 0, 0), (.iload_n 3, 1, 3, 0, 0, 0, 0), (.iconst 2, 1, 0, 0, 0, nI 2, 0), (.iadd, 1, 0, 0, 0, 0, 0), (.iaload, 1, 0, 0, 0, 0, 0), (.aload_n 0, 1, 0, 0, 0, 0, 0), (.iload_n 3, 1, 3, 0, 0, 0, 0), (.iconst 3, 1, 0, 0, 0, nI 3, 0), (.iadd, 1, 0, 0, 0, 0, 0), (.iaload, 1, 0, 0, 0, 0, 0)]
theorem kL_law_1393 : rf_ck ML_law 1393 cL_law_1393 = true := by decide +kernel
theorem qL_law_1409 : rf_kc ML_law 1409 164 1065 yX11_voice 0 = true := by decide +kernel
def cL_law_1412 : List rf_I := [(.aload_n 2, 1, 2, 0, 0, 0, 0), (.aload_n 0, 1, 0, 0, 0, 0, 0), (.iload_n 3, 1, 3, 0, 0, 0, 0), (.iconst 1, 1, 0, 0, 0, nI 1, 0), (.iadd, 1, 0, 0, 0, 0, 0), (.iaload, 1, 0, 0, 0, 0, 0), (.aload_n 0, 1, 0, 0, 0, 0, 0), (.iload_n 3, 1, 3, 0, 0, 0, 0), (.iconst 2, 1, 0, 0, 0, nI 2, 0), (.iadd, 1, 0, 0, 0, 0, 0), (.iaload, 1, 0, 0, 0, 0, 0), (.aload_n 0, 1, 0, 0, 0, 0, 0), (.iload_n 3, 1, 3, 0, 0, 0, 0), (.iconst 3, 1, 0, 0, 0, nI 3, 0), (.iadd, 1, 0, 0, 0, 0, 0), (.iaload, 1, 0, 0, 0, 0, 0)]
theorem kL_law_1412 : rf_ck ML_law 1412 cL_law_1412 = true := by decide +kernel
theorem qL_law_1428 : rf_kc ML_law 1428 167 1611 yX12_voice 0 = true := by decide +kernel
theorem bL_law_1431 : rf_ckb ML_law 1431 (.if_icmp .eq 318) 318 1749 = true := by decide +kernel
def cL_law_1434 : List rf_I := [(.iconst 0, 1, 0, 0, 0, nI 0, 0)]
theorem kL_law_1434 : rf_ck ML_law 1434 cL_law_1434 = true := by decide +kernel
theorem eL_law_1435 : rf_cki ML_law 1435 .ireturn = true := by decide +kernel
def cL_law_1436 : List rf_I := [(.aload_n 1, 1, 1, 0, 0, 0, 0), (.aload_n 0, 1, 0, 0, 0, 0, 0), (.iload_n 3, 1, 3, 0, 0, 0, 0), (.iconst 1, 1, 0, 0, 0, nI 1, 0), (.iadd, 1, 0, 0, 0, 0, 0), (.iaload, 1, 0, 0, 0, 0, 0)]
theorem kL_law_1436 : rf_ck ML_law 1436 cL_law_1436 = true := by decide +kernel
theorem qL_law_1442 : rf_kc ML_law 1442 168 1084 yX11_trace 0 = true := by decide +kernel
def cL_law_1445 : List rf_I := [(.aload_n 2, 1, 2, 0, 0, 0, 0), (.aload_n 0, 1, 0, 0, 0, 0, 0), (.iload_n 3, 1, 3, 0, 0, 0, 0), (.iconst 1, 1, 0, 0, 0, nI 1, 0), (.iadd, 1, 0, 0, 0, 0, 0), (.iaload, 1, 0, 0, 0, 0, 0)]
theorem kL_law_1445 : rf_ck ML_law 1445 cL_law_1445 = true := by decide +kernel
theorem qL_law_1451 : rf_kc ML_law 1451 171 1643 yX12_trace 0 = true := by decide +kernel
theorem bL_law_1454 : rf_ckb ML_law 1454 (.if_icmp .eq 295) 295 1749 = true := by decide +kernel
def cL_law_1457 : List rf_I := [(.iconst 0, 1, 0, 0, 0, nI 0, 0)]
theorem kL_law_1457 : rf_ck ML_law 1457 cL_law_1457 = true := by decide +kernel
theorem eL_law_1458 : rf_cki ML_law 1458 .ireturn = true := by decide +kernel
def cL_law_1459 : List rf_I := [(.aload_n 1, 1, 1, 0, 0, 0, 0), (.aload_n 0, 1, 0, 0, 0, 0, 0), (.iload_n 3, 1, 3, 0, 0, 0, 0), (.iconst 1, 1, 0, 0, 0, nI 1, 0), (.iadd, 1, 0, 0, 0, 0, 0), (.iaload, 1, 0, 0, 0, 0, 0), (.aload_n 0, 1, 0, 0, 0, 0, 0), (.iload_n 3, 1, 3, 0, 0, 0, 0), (.iconst 2, 1, 0, 0, 0, nI 2, 0), (.iadd, 1, 0, 0, 0, 0, 0), (.iaload, 1, 0, 0, 0, 0, 0), (.aload_n 0, 1, 0, 0, 0, 0, 0), (.iload_n 3, 1, 3, 0, 0, 0, 0), (.iconst 3, 1, 0, 0, 0, nI 3, 0), (.iadd, 1, 0, 0, 0, 0, 0), (.iaload, 1, 0, 0, 0, 0, 0)]
theorem kL_law_1459 : rf_ck ML_law 1459 cL_law_1459 = true := by decide +kernel
theorem qL_law_1475 : rf_kc ML_law 1475 172 1088 yX11_sheet 0 = true := by decide +kernel
def cL_law_1478 : List rf_I := [(.aload_n 2, 1, 2, 0, 0, 0, 0), (.aload_n 0, 1, 0, 0, 0, 0, 0), (.iload_n 3, 1, 3, 0, 0, 0, 0), (.iconst 1, 1, 0, 0, 0, nI 1, 0), (.iadd, 1, 0, 0, 0, 0, 0), (.iaload, 1, 0, 0, 0, 0, 0), (.aload_n 0, 1, 0, 0, 0, 0, 0), (.iload_n 3, 1, 3, 0, 0, 0, 0), (.iconst 2, 1, 0, 0, 0, nI 2, 0), (.iadd, 1, 0, 0, 0, 0, 0), (.iaload, 1, 0, 0, 0, 0, 0), (.aload_n 0, 1, 0, 0, 0, 0, 0), (.iload_n 3, 1, 3, 0, 0, 0, 0), (.iconst 3, 1, 0, 0, 0, nI 3, 0), (.iadd, 1, 0, 0, 0, 0, 0), (.iaload, 1, 0, 0, 0, 0, 0)]
theorem kL_law_1478 : rf_ck ML_law 1478 cL_law_1478 = true := by decide +kernel
theorem qL_law_1494 : rf_kc ML_law 1494 175 1647 yX12_sheet 0 = true := by decide +kernel
theorem bL_law_1497 : rf_ckb ML_law 1497 (.if_icmp .eq 252) 252 1749 = true := by decide +kernel
def cL_law_1500 : List rf_I := [(.iconst 0, 1, 0, 0, 0, nI 0, 0)]
theorem kL_law_1500 : rf_ck ML_law 1500 cL_law_1500 = true := by decide +kernel
theorem eL_law_1501 : rf_cki ML_law 1501 .ireturn = true := by decide +kernel
def cL_law_1502 : List rf_I := [(.aload_n 1, 1, 1, 0, 0, 0, 0), (.aload_n 0, 1, 0, 0, 0, 0, 0), (.iload_n 3, 1, 3, 0, 0, 0, 0), (.iconst 1, 1, 0, 0, 0, nI 1, 0), (.iadd, 1, 0, 0, 0, 0, 0), (.iaload, 1, 0, 0, 0, 0, 0), (.aload_n 0, 1, 0, 0, 0, 0, 0), (.iload_n 3, 1, 3, 0, 0, 0, 0), (.iconst 2, 1, 0, 0, 0, nI 2, 0), (.iadd, 1, 0, 0, 0, 0, 0), (.iaload, 1, 0, 0, 0, 0, 0), (.aload_n 0, 1, 0, 0, 0, 0, 0), (.iload_n 3, 1, 3, 0, 0, 0, 0), (.iconst 3, 1, 0, 0, 0, nI 3, 0), (.iadd, 1, 0, 0, 0, 0, 0), (.iaload, 1, 0, 0, 0, 0, 0)]
theorem kL_law_1502 : rf_ck ML_law 1502 cL_law_1502 = true := by decide +kernel
theorem qL_law_1518 : rf_kc ML_law 1518 176 1101 yX11_put 0 = true := by decide +kernel
def cL_law_1521 : List rf_I := [(.aload_n 2, 1, 2, 0, 0, 0, 0), (.aload_n 0, 1, 0, 0, 0, 0, 0), (.iload_n 3, 1, 3, 0, 0, 0, 0), (.iconst 1, 1, 0, 0, 0, nI 1, 0), (.iadd, 1, 0, 0, 0, 0, 0), (.iaload, 1, 0, 0, 0, 0, 0), (.aload_n 0, 1, 0, 0, 0, 0, 0), (.iload_n 3, 1, 3, 0, 0, 0, 0), (.iconst 2, 1, 0, 0, 0, nI 2, 0), (.iadd, 1, 0, 0, 0, 0, 0), (.iaload, 1, 0, 0, 0, 0, 0), (.aload_n 0, 1, 0, 0, 0, 0, 0), (.iload_n 3, 1, 3, 0, 0, 0, 0), (.iconst 3, 1, 0, 0, 0, nI 3, 0), (.iadd, 1, 0, 0, 0, 0, 0), (.iaload, 1, 0, 0, 0, 0, 0)]
theorem kL_law_1521 : rf_ck ML_law 1521 cL_law_1521 = true := by decide +kernel
theorem qL_law_1537 : rf_kc ML_law 1537 179 1654 yX12_put 0 = true := by decide +kernel
theorem bL_law_1540 : rf_ckb ML_law 1540 (.if_icmp .eq 209) 209 1749 = true := by decide +kernel
def cL_law_1543 : List rf_I := [(.iconst 0, 1, 0, 0, 0, nI 0, 0)]
theorem kL_law_1543 : rf_ck ML_law 1543 cL_law_1543 = true := by decide +kernel
theorem eL_law_1544 : rf_cki ML_law 1544 .ireturn = true := by decide +kernel
def cL_law_1545 : List rf_I := [(.aload_n 1, 1, 1, 0, 0, 0, 0), (.aload_n 0, 1, 0, 0, 0, 0, 0), (.iload_n 3, 1, 3, 0, 0, 0, 0), (.iconst 1, 1, 0, 0, 0, nI 1, 0), (.iadd, 1, 0, 0, 0, 0, 0), (.iaload, 1, 0, 0, 0, 0, 0), (.aload_n 0, 1, 0, 0, 0, 0, 0), (.iload_n 3, 1, 3, 0, 0, 0, 0), (.iconst 2, 1, 0, 0, 0, nI 2, 0), (.iadd, 1, 0, 0, 0, 0, 0), (.iaload, 1, 0, 0, 0, 0, 0), (.aload_n 0, 1, 0, 0, 0, 0, 0), (.iload_n 3, 1, 3, 0, 0, 0, 0), (.iconst 3, 1, 0, 0, 0, nI 3, 0), (.iadd, 1, 0, 0, 0, 0, 0), (.iaload, 1, 0, 0, 0, 0, 0), (.aload_n 0, 1, 0, 0, 0, 0, 0), (.iload_n 3, 1, 3, 0, 0, 0, 0), (.iconst 4, 1, 0, 0, 0, nI 4, 0), (.iadd, 1, 0, 0, 0, 0, 0), (.iaload, 1, 0, 0, 0, 0, 0), (.aload_n 0, 1, 0, 0, 0, 0, 0), (.iload_n 3, 1, 3, 0, 0, 0, 0), (.iconst 5, 1, 0, 0, 0, nI 5, 0), (.iadd, 1, 0, 0, 0, 0, 0), (.iaload, 1, 0, 0, 0, 0, 0)]
theorem kL_law_1545 : rf_ck ML_law 1545 cL_law_1545 = true := by decide +kernel
theorem qL_law_1571 : rf_kc ML_law 1571 180 1109 yX11_move 0 = true := by decide +kernel
def cL_law_1574 : List rf_I := [(.aload_n 2, 1, 2, 0, 0, 0, 0), (.aload_n 0, 1, 0, 0, 0, 0, 0), (.iload_n 3, 1, 3, 0, 0, 0, 0), (.iconst 1, 1, 0, 0, 0, nI 1, 0), (.iadd, 1, 0, 0, 0, 0, 0), (.iaload, 1, 0, 0, 0, 0, 0), (.aload_n 0, 1, 0, 0, 0, 0, 0), (.iload_n 3, 1, 3, 0, 0, 0, 0), (.iconst 2, 1, 0, 0, 0, nI 2, 0), (.iadd, 1, 0, 0, 0, 0, 0), (.iaload, 1, 0, 0, 0, 0, 0), (.aload_n 0, 1, 0, 0, 0, 0, 0), (.iload_n 3, 1, 3, 0, 0, 0, 0), (.iconst 3, 1, 0, 0, 0, nI 3, 0), (.iadd, 1, 0, 0, 0, 0, 0), (.iaload, 1, 0, 0, 0, 0, 0), (.aload_n 0, 1, 0, 0, 0, 0, 0), (.iload_n 3, 1, 3, 0, 0, 0, 0), (.iconst 4, 1, 0, 0, 0, nI 4, 0), (.iadd, 1, 0, 0, 0, 0, 0), (.iaload, 1, 0, 0, 0, 0, 0), (.aload_n 0, 1, 0, 0, 0, 0, 0), (.iload_n 3, 1, 3, 0, 0, 0, 0), (.iconst 5, 1, 0, 0, 0, nI 5, 0), (.iadd, 1, 0, 0, 0, 0, 0), (.iaload, 1, 0, 0, 0, 0, 0)]
theorem kL_law_1574 : rf_ck ML_law 1574 cL_law_1574 = true := by decide +kernel
theorem qL_law_1600 : rf_kc ML_law 1600 183 1658 yX12_move 0 = true := by decide +kernel
theorem bL_law_1603 : rf_ckb ML_law 1603 (.if_icmp .eq 146) 146 1749 = true := by decide +kernel
def cL_law_1606 : List rf_I := [(.iconst 0, 1, 0, 0, 0, nI 0, 0)]
theorem kL_law_1606 : rf_ck ML_law 1606 cL_law_1606 = true := by decide +kernel
theorem eL_law_1607 : rf_cki ML_law 1607 .ireturn = true := by decide +kernel
def cL_law_1608 : List rf_I := [(.aload_n 1, 1, 1, 0, 0, 0, 0), (.aload_n 0, 1, 0, 0, 0, 0, 0), (.iload_n 3, 1, 3, 0, 0, 0, 0), (.iconst 1, 1, 0, 0, 0, nI 1, 0), (.iadd, 1, 0, 0, 0, 0, 0), (.iaload, 1, 0, 0, 0, 0, 0)]
theorem kL_law_1608 : rf_ck ML_law 1608 cL_law_1608 = true := by decide +kernel
theorem qL_law_1614 : rf_kc ML_law 1614 184 1113 yX11_groups 0 = true := by decide +kernel
def cL_law_1617 : List rf_I := [(.aload_n 2, 1, 2, 0, 0, 0, 0), (.aload_n 0, 1, 0, 0, 0, 0, 0), (.iload_n 3, 1, 3, 0, 0, 0, 0), (.iconst 1, 1, 0, 0, 0, nI 1, 0), (.iadd, 1, 0, 0, 0, 0, 0), (.iaload, 1, 0, 0, 0, 0, 0)]
theorem kL_law_1617 : rf_ck ML_law 1617 cL_law_1617 = true := by decide +kernel
theorem qL_law_1623 : rf_kc ML_law 1623 187 1662 yX12_groups 0 = true := by decide +kernel
theorem bL_law_1626 : rf_ckb ML_law 1626 (.if_icmp .eq 123) 123 1749 = true := by decide +kernel
def cL_law_1629 : List rf_I := [(.iconst 0, 1, 0, 0, 0, nI 0, 0)]
theorem kL_law_1629 : rf_ck ML_law 1629 cL_law_1629 = true := by decide +kernel
theorem eL_law_1630 : rf_cki ML_law 1630 .ireturn = true := by decide +kernel
def cL_law_1631 : List rf_I := [(.aload_n 1, 1, 1, 0, 0, 0, 0)]
theorem kL_law_1631 : rf_ck ML_law 1631 cL_law_1631 = true := by decide +kernel
theorem qL_law_1632 : rf_kc ML_law 1632 188 1117 yX11_image 0 = true := by decide +kernel
def cL_law_1635 : List rf_I := [(.aload_n 2, 1, 2, 0, 0, 0, 0)]
theorem kL_law_1635 : rf_ck ML_law 1635 cL_law_1635 = true := by decide +kernel
theorem qL_law_1636 : rf_kc ML_law 1636 191 1666 yX12_image 0 = true := by decide +kernel
theorem bL_law_1639 : rf_ckb ML_law 1639 (.if_icmp .eq 110) 110 1749 = true := by decide +kernel
def cL_law_1642 : List rf_I := [(.iconst 0, 1, 0, 0, 0, nI 0, 0)]
theorem kL_law_1642 : rf_ck ML_law 1642 cL_law_1642 = true := by decide +kernel
theorem eL_law_1643 : rf_cki ML_law 1643 .ireturn = true := by decide +kernel
def cL_law_1644 : List rf_I := [(.aload_n 1, 1, 1, 0, 0, 0, 0)]
theorem kL_law_1644 : rf_ck ML_law 1644 cL_law_1644 = true := by decide +kernel
theorem qL_law_1645 : rf_kc ML_law 1645 192 1150 yX11_restore 0 = true := by decide +kernel
def cL_law_1648 : List rf_I := [(.aload_n 2, 1, 2, 0, 0, 0, 0)]
theorem kL_law_1648 : rf_ck ML_law 1648 cL_law_1648 = true := by decide +kernel
theorem qL_law_1649 : rf_kc ML_law 1649 195 1670 yX12_restore 0 = true := by decide +kernel
theorem bL_law_1652 : rf_ckb ML_law 1652 (.if_icmp .eq 97) 97 1749 = true := by decide +kernel
def cL_law_1655 : List rf_I := [(.iconst 0, 1, 0, 0, 0, nI 0, 0)]
theorem kL_law_1655 : rf_ck ML_law 1655 cL_law_1655 = true := by decide +kernel
theorem eL_law_1656 : rf_cki ML_law 1656 .ireturn = true := by decide +kernel
def cL_law_1657 : List rf_I := [(.aload_n 1, 1, 1, 0, 0, 0, 0), (.aload_n 0, 1, 0, 0, 0, 0, 0), (.iload_n 3, 1, 3, 0, 0, 0, 0), (.iconst 1, 1, 0, 0, 0, nI 1, 0), (.iadd, 1, 0, 0, 0, 0, 0), (.iaload, 1, 0, 0, 0, 0, 0)]
theorem kL_law_1657 : rf_ck ML_law 1657 cL_law_1657 = true := by decide +kernel
theorem qL_law_1663 : rf_kc ML_law 1663 196 1154 yX11_tell 0 = true := by decide +kernel
def cL_law_1666 : List rf_I := [(.aload_n 2, 1, 2, 0, 0, 0, 0), (.aload_n 0, 1, 0, 0, 0, 0, 0), (.iload_n 3, 1, 3, 0, 0, 0, 0), (.iconst 1, 1, 0, 0, 0, nI 1, 0), (.iadd, 1, 0, 0, 0, 0, 0), (.iaload, 1, 0, 0, 0, 0, 0)]
theorem kL_law_1666 : rf_ck ML_law 1666 cL_law_1666 = true := by decide +kernel
theorem qL_law_1672 : rf_kc ML_law 1672 199 1674 yX12_tell 0 = true := by decide +kernel
theorem bL_law_1675 : rf_ckb ML_law 1675 (.if_icmp .eq 74) 74 1749 = true := by decide +kernel
def cL_law_1678 : List rf_I := [(.iconst 0, 1, 0, 0, 0, nI 0, 0)]
theorem kL_law_1678 : rf_ck ML_law 1678 cL_law_1678 = true := by decide +kernel
theorem eL_law_1679 : rf_cki ML_law 1679 .ireturn = true := by decide +kernel
def cL_law_1680 : List rf_I := [(.aload_n 1, 1, 1, 0, 0, 0, 0), (.aload_n 0, 1, 0, 0, 0, 0, 0), (.iload_n 3, 1, 3, 0, 0, 0, 0), (.iconst 1, 1, 0, 0, 0, nI 1, 0), (.iadd, 1, 0, 0, 0, 0, 0), (.iaload, 1, 0, 0, 0, 0, 0)]
theorem kL_law_1680 : rf_ck ML_law 1680 cL_law_1680 = true := by decide +kernel
theorem qL_law_1686 : rf_kc ML_law 1686 200 1162 yX11_check 0 = true := by decide +kernel
def cL_law_1689 : List rf_I := [(.aload_n 2, 1, 2, 0, 0, 0, 0), (.aload_n 0, 1, 0, 0, 0, 0, 0), (.iload_n 3, 1, 3, 0, 0, 0, 0), (.iconst 1, 1, 0, 0, 0, nI 1, 0), (.iadd, 1, 0, 0, 0, 0, 0), (.iaload, 1, 0, 0, 0, 0, 0)]
theorem kL_law_1689 : rf_ck ML_law 1689 cL_law_1689 = true := by decide +kernel
theorem qL_law_1695 : rf_kc ML_law 1695 203 1678 yX12_check 0 = true := by decide +kernel
theorem bL_law_1698 : rf_ckb ML_law 1698 (.if_icmp .eq 51) 51 1749 = true := by decide +kernel
def cL_law_1701 : List rf_I := [(.iconst 0, 1, 0, 0, 0, nI 0, 0)]
theorem kL_law_1701 : rf_ck ML_law 1701 cL_law_1701 = true := by decide +kernel
theorem eL_law_1702 : rf_cki ML_law 1702 .ireturn = true := by decide +kernel
def cL_law_1703 : List rf_I := [(.aload_n 1, 1, 1, 0, 0, 0, 0), (.aload_n 0, 1, 0, 0, 0, 0, 0), (.iload_n 3, 1, 3, 0, 0, 0, 0), (.iconst 1, 1, 0, 0, 0, nI 1, 0), (.iadd, 1, 0, 0, 0, 0, 0), (.iaload, 1, 0, 0, 0, 0, 0)]
theorem kL_law_1703 : rf_ck ML_law 1703 cL_law_1703 = true := by decide +kernel
theorem qL_law_1709 : rf_kc ML_law 1709 204 1170 yX11_count 0 = true := by decide +kernel
def cL_law_1712 : List rf_I := [(.aload_n 2, 1, 2, 0, 0, 0, 0), (.aload_n 0, 1, 0, 0, 0, 0, 0), (.iload_n 3, 1, 3, 0, 0, 0, 0), (.iconst 1, 1, 0, 0, 0, nI 1, 0), (.iadd, 1, 0, 0, 0, 0, 0), (.iaload, 1, 0, 0, 0, 0, 0)]
theorem kL_law_1712 : rf_ck ML_law 1712 cL_law_1712 = true := by decide +kernel
theorem qL_law_1718 : rf_kc ML_law 1718 207 1682 yX12_count 0 = true := by decide +kernel
theorem bL_law_1721 : rf_ckb ML_law 1721 (.if_icmp .eq 28) 28 1749 = true := by decide +kernel
def cL_law_1724 : List rf_I := [(.iconst 0, 1, 0, 0, 0, nI 0, 0)]
theorem kL_law_1724 : rf_ck ML_law 1724 cL_law_1724 = true := by decide +kernel
theorem eL_law_1725 : rf_cki ML_law 1725 .ireturn = true := by decide +kernel
def cL_law_1726 : List rf_I := [(.aload_n 1, 1, 1, 0, 0, 0, 0), (.aload_n 0, 1, 0, 0, 0, 0, 0), (.iload_n 3, 1, 3, 0, 0, 0, 0), (.iconst 1, 1, 0, 0, 0, nI 1, 0), (.iadd, 1, 0, 0, 0, 0, 0), (.iaload, 1, 0, 0, 0, 0, 0)]
theorem kL_law_1726 : rf_ck ML_law 1726 cL_law_1726 = true := by decide +kernel
theorem qL_law_1732 : rf_kc ML_law 1732 208 1174 yX11_told 0 = true := by decide +kernel
def cL_law_1735 : List rf_I := [(.aload_n 2, 1, 2, 0, 0, 0, 0), (.aload_n 0, 1, 0, 0, 0, 0, 0), (.iload_n 3, 1, 3, 0, 0, 0, 0), (.iconst 1, 1, 0, 0, 0, nI 1, 0), (.iadd, 1, 0, 0, 0, 0, 0), (.iaload, 1, 0, 0, 0, 0, 0)]
theorem kL_law_1735 : rf_ck ML_law 1735 cL_law_1735 = true := by decide +kernel
theorem qL_law_1741 : rf_kc ML_law 1741 211 1686 yX12_told 0 = true := by decide +kernel
theorem bL_law_1744 : rf_ckb ML_law 1744 (.if_icmp .eq 5) 5 1749 = true := by decide +kernel
def cL_law_1747 : List rf_I := [(.iconst 0, 1, 0, 0, 0, nI 0, 0)]
theorem kL_law_1747 : rf_ck ML_law 1747 cL_law_1747 = true := by decide +kernel
theorem eL_law_1748 : rf_cki ML_law 1748 .ireturn = true := by decide +kernel
def cL_law_1749 : List rf_I := [(.iinc 3 6, 3, 3, 0, 0, nI 6, 0)]
theorem kL_law_1749 : rf_ck ML_law 1749 cL_law_1749 = true := by decide +kernel
theorem bL_law_1752 : rf_ckb ML_law 1752 (.goto (-1734)) (-1734) 18 = true := by decide +kernel
def cL_law_1755 : List rf_I := [(.iconst 1, 1, 0, 0, 0, nI 1, 0)]
theorem kL_law_1755 : rf_ck ML_law 1755 cL_law_1755 = true := by decide +kernel
theorem eL_law_1756 : rf_cki ML_law 1756 .ireturn = true := by decide +kernel
