abbrev MX12_init : rf_M := (yX12_init, cX12_init, 2, none)
theorem mkX12_init : rf_mk MX12_init 2 0 1182 85 1181 0 = true := by decide +kernel
def cX12_init_0 : List rf_I := [(.aload_n 0, 1, 0, 0, 0, 0, 0), (.invokespecial 1, 3, 0, 0, 1183, 0, 0), (.aload_n 0, 1, 0, 0, 0, 0, 0), (.sipush 700, 3, 0, 0, 0, nI 700, 0), (.newarray .int, 2, 0, 700, 0, 0, 0), (.putfield 7, 3, 12, 0, 1184, 0, 0), (.aload_n 0, 1, 0, 0, 0, 0, 0), (.sipush 700, 3, 0, 0, 0, nI 700, 0), (.newarray .int, 2, 0, 700, 0, 0, 0), (.putfield 13, 3, 12, 1, 1185, 0, 0), (.aload_n 0, 1, 0, 0, 0, 0, 0), (.bipush 6, 2, 0, 0, 0, nI 6, 0), (.newarray .int, 2, 0, 6, 0, 0, 0), (.putfield 16, 3, 12, 3, 1187, 0, 0), (.aload_n 0, 1, 0, 0, 0, 0, 0), (.iconst 5, 1, 0, 0, 0, nI 5, 0), (.newarray .int, 2, 0, 5, 0, 0, 0), (.putfield 19, 3, 12, 10, 1194, 0, 0), (.aload_n 0, 1, 0, 0, 0, 0, 0), (.bipush 12, 2, 0, 0, 0, nI 12, 0), (.newarray .int, 2, 0, 12, 0, 0, 0), (.putfield 22, 3, 12, 11, 1195, 0, 0), (.aload_n 0, 1, 0, 0, 0, 0, 0), (.bipush 8, 2, 0, 0, 0, nI 8, 0), (.newarray .int, 2, 0, 8, 0, 0, 0), (.putfield 25, 3, 12, 13, 1197, 0, 0), (.aload_n 0, 1, 0, 0, 0, 0, 0), (.bipush 8, 2, 0, 0, 0, nI 8, 0), (.newarray .int, 2, 0, 8, 0, 0, 0), (.putfield 28, 3, 12, 14, 1198, 0, 0), (.aload_n 0, 1, 0, 0, 0, 0, 0), (.bipush 16, 2, 0, 0, 0, nI 16, 0), (.newarray .boolean, 2, 1, 16, 0, 0, 0), (.putfield 31, 3, 12, 16, 1200, 0, 0), (.aload_n 0, 1, 0, 0, 0, 0, 0), (.bipush 40, 2, 0, 0, 0, nI 40, 0), (.newarray .int, 2, 0, 40, 0, 0, 0), (.putfield 35, 3, 12, 17, 1201, 0, 0), (.aload_n 0, 1, 0, 0, 0, 0, 0), (.iconst 4, 1, 0, 0, 0, nI 4, 0), (.newarray .int, 2, 0, 4, 0, 0, 0), (.putfield 38, 3, 12, 20, 1204, 0, 0), (.aload_n 0, 1, 0, 0, 0, 0, 0), (.iconst 4, 1, 0, 0, 0, nI 4, 0), (.newarray .int, 2, 0, 4, 0, 0, 0), (.putfield 41, 3, 12, 21, 1205, 0, 0), (.aload_n 0, 1, 0, 0, 0, 0, 0), (.sipush 160, 3, 0, 0, 0, nI 160, 0), (.newarray .int, 2, 0, 160, 0, 0, 0), (.putfield 44, 3, 12, 22, 1206, 0, 0), (.aload_n 0, 1, 0, 0, 0, 0, 0), (.bipush 40, 2, 0, 0, 0, nI 40, 0), (.newarray .int, 2, 0, 40, 0, 0, 0), (.putfield 47, 3, 12, 23, 1207, 0, 0), (.aload_n 0, 1, 0, 0, 0, 0, 0), (.getfield 7, 3, 12, 0, 1184, 0, 0), (.bipush 8, 2, 0, 0, 0, nI 8, 0), (.iconst 3, 1, 0, 0, 0, nI 3, 0), (.iastore, 1, 0, 0, 0, 0, 0), (.aload_n 0, 1, 0, 0, 0, 0, 0), (.getfield 7, 3, 12, 0, 1184, 0, 0), (.bipush 9, 2, 0, 0, 0, nI 9, 0), (.bipush 60, 2, 0, 0, 0, nI 60, 0), (.iastore, 1, 0, 0, 0, 0, 0), (.aload_n 0, 1, 0, 0, 0, 0, 0), (.getfield 7, 3, 12, 0, 1184, 0, 0), (.bipush 10, 2, 0, 0, 0, nI 10, 0), (.iconst 1, 1, 0, 0, 0, nI 1, 0), (.iastore, 1, 0, 0, 0, 0, 0), (.iconst 0, 1, 0, 0, 0, nI 0, 0), (.istore_n 1, 1, 1, 0, 0, 0, 0)]
theorem kX12_init_0 : rf_ck MX12_init 0 cX12_init_0 = true := by decide +kernel
def cX12_init_135 : List rf_I := [(.iload_n 1, 1, 1, 0, 0, 0, 0), (.bipush 64, 2, 0, 0, 0, nI 64, 0)]
theorem kX12_init_135 : rf_ck MX12_init 135 cX12_init_135 = true := by decide +kernel
theorem bX12_init_138 : rf_ckb MX12_init 138 (.if_icmp .ge 34) 34 172 = true := by decide +kernel
def cX12_init_141 : List rf_I := [(.aload_n 0, 1, 0, 0, 0, 0, 0), (.getfield 7, 3, 12, 0, 1184, 0, 0), (.bipush 20, 2, 0, 0, 0, nI 20, 0), (.iload_n 1, 1, 1, 0, 0, 0, 0), (.iadd, 1, 0, 0, 0, 0, 0), (.iload_n 1, 1, 1, 0, 0, 0, 0), (.bipush 8, 2, 0, 0, 0, nI 8, 0), (.idiv, 1, 0, 0, 0, 0, 0), (.iload_n 1, 1, 1, 0, 0, 0, 0), (.bipush 8, 2, 0, 0, 0, nI 8, 0), (.irem, 1, 0, 0, 0, 0, 0)]
theorem kX12_init_141 : rf_ck MX12_init 141 cX12_init_141 = true := by decide +kernel
theorem bX12_init_157 : rf_ckb MX12_init 157 (.if_icmp .ne 7) 7 164 = true := by decide +kernel
def cX12_init_160 : List rf_I := [(.iconst 0, 1, 0, 0, 0, nI 0, 0)]
theorem kX12_init_160 : rf_ck MX12_init 160 cX12_init_160 = true := by decide +kernel
theorem bX12_init_161 : rf_ckb MX12_init 161 (.goto 4) 4 165 = true := by decide +kernel
def cX12_init_164 : List rf_I := [(.iconst (-1), 1, 0, 0, 0, (-1), 0)]
theorem kX12_init_164 : rf_ck MX12_init 164 cX12_init_164 = true := by decide +kernel
def cX12_init_165 : List rf_I := [(.iastore, 1, 0, 0, 0, 0, 0), (.iinc 1 1, 3, 1, 0, 0, nI 1, 0)]
theorem kX12_init_165 : rf_ck MX12_init 165 cX12_init_165 = true := by decide +kernel
theorem bX12_init_169 : rf_ckb MX12_init 169 (.goto (-34)) (-34) 135 = true := by decide +kernel
theorem eX12_init_172 : rf_cki MX12_init 172 .return_ = true := by decide +kernel
abbrev MX12_finds : rf_M := (yX12_finds, cX12_finds, 2, (some (.int)))
theorem mkX12_finds : rf_mk MX12_finds 0 1 1264 85 1263 21 = true := by decide +kernel
def cX12_finds_0 : List rf_I := [(.aload_n 0, 1, 0, 0, 0, 0, 0), (.getfield 16, 3, 12, 3, 1187, 0, 0), (.iload_n 1, 1, 1, 0, 0, 0, 0), (.dup2, 1, 0, 0, 0, 0, 0), (.iaload, 1, 0, 0, 0, 0, 0), (.iconst 1, 1, 0, 0, 0, nI 1, 0), (.iadd, 1, 0, 0, 0, 0, 0), (.iastore, 1, 0, 0, 0, 0, 0), (.ldc 50, 2, 0, 0, 1265, (-1000000000), 0), (.iload_n 1, 1, 1, 0, 0, 0, 0), (.isub, 1, 0, 0, 0, 0, 0)]
theorem kX12_finds_0 : rf_ck MX12_finds 0 cX12_finds_0 = true := by decide +kernel
theorem eX12_finds_14 : rf_cki MX12_finds 14 .ireturn = true := by decide +kernel
abbrev MX12_in : rf_M := (yX12_in, cX12_in, 6, (some (.boolean)))
theorem mkX12_in : rf_mk MX12_in 1 3 1280 85 1279 0 = true := by decide +kernel
def cX12_in_0 : List rf_I := [(.lload_n 0, 1, 0, 0, 0, 0, 0), (.lload_n 2, 1, 2, 0, 0, 0, 0), (.lcmp, 1, 0, 0, 0, 0, 0)]
theorem kX12_in_0 : rf_ck MX12_in 0 cX12_in_0 = true := by decide +kernel
theorem bX12_in_3 : rf_ckb MX12_in 3 (.ifCond .lt 14) 14 17 = true := by decide +kernel
def cX12_in_6 : List rf_I := [(.lload_n 0, 1, 0, 0, 0, 0, 0), (.lload 4, 2, 4, 0, 0, 0, 0), (.lcmp, 1, 0, 0, 0, 0, 0)]
theorem kX12_in_6 : rf_ck MX12_in 6 cX12_in_6 = true := by decide +kernel
theorem bX12_in_10 : rf_ckb MX12_in 10 (.ifCond .gt 7) 7 17 = true := by decide +kernel
def cX12_in_13 : List rf_I := [(.iconst 1, 1, 0, 0, 0, nI 1, 0)]
theorem kX12_in_13 : rf_ck MX12_in 13 cX12_in_13 = true := by decide +kernel
theorem bX12_in_14 : rf_ckb MX12_in 14 (.goto 4) 4 18 = true := by decide +kernel
def cX12_in_17 : List rf_I := [(.iconst 0, 1, 0, 0, 0, nI 0, 0)]
theorem kX12_in_17 : rf_ck MX12_in 17 cX12_in_17 = true := by decide +kernel
theorem eX12_in_18 : rf_cki MX12_in 18 .ireturn = true := by decide +kernel
abbrev MX12_isStation : rf_M := (yX12_isStation, cX12_isStation, 2, (some (.boolean)))
theorem mkX12_isStation : rf_mk MX12_isStation 0 1 1277 85 1276 23 = true := by decide +kernel
def cX12_isStation_0 : List rf_I := [(.iload_n 1, 1, 1, 0, 0, 0, 0), (.i2l, 1, 0, 0, 0, 0, 0), (.lconst 0, 1, 0, 0, 0, 0, lN 0), (.aload_n 0, 1, 0, 0, 0, 0, 0), (.getfield 7, 3, 12, 0, 1184, 0, 0), (.iconst 1, 1, 0, 0, 0, nI 1, 0), (.iaload, 1, 0, 0, 0, 0, 0), (.iconst 1, 1, 0, 0, 0, nI 1, 0), (.isub, 1, 0, 0, 0, 0, 0), (.i2l, 1, 0, 0, 0, 0, 0)]
theorem kX12_isStation_0 : rf_ck MX12_isStation 0 cX12_isStation_0 = true := by decide +kernel
theorem qX12_isStation_12 : rf_kc MX12_isStation 12 51 1278 yX12_in 1 = true := by decide +kernel
theorem eX12_isStation_15 : rf_cki MX12_isStation 15 .ireturn = true := by decide +kernel
abbrev MX12_areTwo : rf_M := (yX12_areTwo, cX12_areTwo, 3, (some (.boolean)))
theorem mkX12_areTwo : rf_mk MX12_areTwo 0 2 1273 85 1272 22 = true := by decide +kernel
def cX12_areTwo_0 : List rf_I := [(.aload_n 0, 1, 0, 0, 0, 0, 0), (.iload_n 1, 1, 1, 0, 0, 0, 0)]
theorem kX12_areTwo_0 : rf_ck MX12_areTwo 0 cX12_areTwo_0 = true := by decide +kernel
theorem qX12_areTwo_2 : rf_kc MX12_areTwo 2 55 1274 yX12_isStation 0 = true := by decide +kernel
theorem bX12_areTwo_5 : rf_ckb MX12_areTwo 5 (.ifCond .eq 20) 20 25 = true := by decide +kernel
def cX12_areTwo_8 : List rf_I := [(.aload_n 0, 1, 0, 0, 0, 0, 0), (.iload_n 2, 1, 2, 0, 0, 0, 0)]
theorem kX12_areTwo_8 : rf_ck MX12_areTwo 8 cX12_areTwo_8 = true := by decide +kernel
theorem qX12_areTwo_10 : rf_kc MX12_areTwo 10 55 1274 yX12_isStation 0 = true := by decide +kernel
theorem bX12_areTwo_13 : rf_ckb MX12_areTwo 13 (.ifCond .eq 12) 12 25 = true := by decide +kernel
def cX12_areTwo_16 : List rf_I := [(.iload_n 1, 1, 1, 0, 0, 0, 0), (.iload_n 2, 1, 2, 0, 0, 0, 0)]
theorem kX12_areTwo_16 : rf_ck MX12_areTwo 16 cX12_areTwo_16 = true := by decide +kernel
theorem bX12_areTwo_18 : rf_ckb MX12_areTwo 18 (.if_icmp .eq 7) 7 25 = true := by decide +kernel
def cX12_areTwo_21 : List rf_I := [(.iconst 1, 1, 0, 0, 0, nI 1, 0)]
theorem kX12_areTwo_21 : rf_ck MX12_areTwo 21 cX12_areTwo_21 = true := by decide +kernel
theorem bX12_areTwo_22 : rf_ckb MX12_areTwo 22 (.goto 4) 4 26 = true := by decide +kernel
def cX12_areTwo_25 : List rf_I := [(.iconst 0, 1, 0, 0, 0, nI 0, 0)]
theorem kX12_areTwo_25 : rf_ck MX12_areTwo 25 cX12_areTwo_25 = true := by decide +kernel
theorem eX12_areTwo_26 : rf_cki MX12_areTwo 26 .ireturn = true := by decide +kernel
abbrev MX12_isLine : rf_M := (yX12_isLine, cX12_isLine, 2, (some (.boolean)))
theorem mkX12_isLine : rf_mk MX12_isLine 0 1 1295 85 1294 24 = true := by decide +kernel
def cX12_isLine_0 : List rf_I := [(.iload_n 1, 1, 1, 0, 0, 0, 0), (.i2l, 1, 0, 0, 0, 0, 0), (.lconst 0, 1, 0, 0, 0, 0, lN 0), (.aload_n 0, 1, 0, 0, 0, 0, 0), (.getfield 7, 3, 12, 0, 1184, 0, 0), (.iconst 2, 1, 0, 0, 0, nI 2, 0), (.iaload, 1, 0, 0, 0, 0, 0), (.iconst 1, 1, 0, 0, 0, nI 1, 0), (.isub, 1, 0, 0, 0, 0, 0), (.i2l, 1, 0, 0, 0, 0, 0)]
theorem kX12_isLine_0 : rf_ck MX12_isLine 0 cX12_isLine_0 = true := by decide +kernel
theorem qX12_isLine_12 : rf_kc MX12_isLine 12 51 1278 yX12_in 1 = true := by decide +kernel
theorem eX12_isLine_15 : rf_cki MX12_isLine 15 .ireturn = true := by decide +kernel
abbrev MX12_isTrain : rf_M := (yX12_isTrain, cX12_isTrain, 2, (some (.boolean)))
theorem mkX12_isTrain : rf_mk MX12_isTrain 0 1 1312 85 1311 25 = true := by decide +kernel
def cX12_isTrain_0 : List rf_I := [(.iload_n 1, 1, 1, 0, 0, 0, 0), (.i2l, 1, 0, 0, 0, 0, 0), (.lconst 0, 1, 0, 0, 0, 0, lN 0), (.aload_n 0, 1, 0, 0, 0, 0, 0), (.getfield 7, 3, 12, 0, 1184, 0, 0), (.iconst 3, 1, 0, 0, 0, nI 3, 0), (.iaload, 1, 0, 0, 0, 0, 0), (.iconst 1, 1, 0, 0, 0, nI 1, 0), (.isub, 1, 0, 0, 0, 0, 0), (.i2l, 1, 0, 0, 0, 0, 0)]
theorem kX12_isTrain_0 : rf_ck MX12_isTrain 0 cX12_isTrain_0 = true := by decide +kernel
theorem qX12_isTrain_12 : rf_kc MX12_isTrain 12 51 1278 yX12_in 1 = true := by decide +kernel
theorem eX12_isTrain_15 : rf_cki MX12_isTrain 15 .ireturn = true := by decide +kernel
abbrev MX12_isGroup : rf_M := (yX12_isGroup, cX12_isGroup, 2, (some (.boolean)))
theorem mkX12_isGroup : rf_mk MX12_isGroup 0 1 1433 85 1432 47 = true := by decide +kernel
def cX12_isGroup_0 : List rf_I := [(.iload_n 1, 1, 1, 0, 0, 0, 0), (.i2l, 1, 0, 0, 0, 0, 0), (.lconst 0, 1, 0, 0, 0, 0, lN 0), (.aload_n 0, 1, 0, 0, 0, 0, 0), (.getfield 7, 3, 12, 0, 1184, 0, 0), (.iconst 4, 1, 0, 0, 0, nI 4, 0), (.iaload, 1, 0, 0, 0, 0, 0), (.iconst 1, 1, 0, 0, 0, nI 1, 0), (.isub, 1, 0, 0, 0, 0, 0), (.i2l, 1, 0, 0, 0, 0, 0)]
theorem kX12_isGroup_0 : rf_ck MX12_isGroup 0 cX12_isGroup_0 = true := by decide +kernel
theorem qX12_isGroup_12 : rf_kc MX12_isGroup 12 51 1278 yX12_in 1 = true := by decide +kernel
theorem eX12_isGroup_15 : rf_cki MX12_isGroup 15 .ireturn = true := by decide +kernel
abbrev MX12_isShift : rf_M := (yX12_isShift, cX12_isShift, 2, (some (.boolean)))
theorem mkX12_isShift : rf_mk MX12_isShift 0 1 1498 85 1497 56 = true := by decide +kernel
def cX12_isShift_0 : List rf_I := [(.iload_n 1, 1, 1, 0, 0, 0, 0), (.i2l, 1, 0, 0, 0, 0, 0), (.lconst 0, 1, 0, 0, 0, 0, lN 0), (.aload_n 0, 1, 0, 0, 0, 0, 0), (.getfield 7, 3, 12, 0, 1184, 0, 0), (.iconst 5, 1, 0, 0, 0, nI 5, 0), (.iaload, 1, 0, 0, 0, 0, 0), (.iconst 1, 1, 0, 0, 0, nI 1, 0), (.isub, 1, 0, 0, 0, 0, 0), (.i2l, 1, 0, 0, 0, 0, 0)]
theorem kX12_isShift_0 : rf_ck MX12_isShift 0 cX12_isShift_0 = true := by decide +kernel
theorem qX12_isShift_12 : rf_kc MX12_isShift 12 51 1278 yX12_in 1 = true := by decide +kernel
theorem eX12_isShift_15 : rf_cki MX12_isShift 15 .ireturn = true := by decide +kernel
abbrev MX12_gr : rf_M := (yX12_gr, cX12_gr, 3, (some (.int)))
theorem mkX12_gr : rf_mk MX12_gr 0 2 1438 85 1437 48 = true := by decide +kernel
def cX12_gr_0 : List rf_I := [(.aload_n 0, 1, 0, 0, 0, 0, 0), (.getfield 7, 3, 12, 0, 1184, 0, 0), (.sipush 190, 3, 0, 0, 0, nI 190, 0), (.bipush 8, 2, 0, 0, 0, nI 8, 0), (.iload_n 1, 1, 1, 0, 0, 0, 0), (.imul, 1, 0, 0, 0, 0, 0), (.iadd, 1, 0, 0, 0, 0, 0), (.iload_n 2, 1, 2, 0, 0, 0, 0), (.iadd, 1, 0, 0, 0, 0, 0), (.iaload, 1, 0, 0, 0, 0, 0)]
theorem kX12_gr_0 : rf_ck MX12_gr 0 cX12_gr_0 = true := by decide +kernel
theorem eX12_gr_15 : rf_cki MX12_gr 15 .ireturn = true := by decide +kernel
abbrev MX12_station : rf_M := (yX12_station, cX12_station, 1, (some (.int)))
theorem mkX12_station : rf_mk MX12_station 0 0 1260 85 1258 1259 = true := by decide +kernel
def cX12_station_0 : List rf_I := [(.aload_n 0, 1, 0, 0, 0, 0, 0), (.getfield 7, 3, 12, 0, 1184, 0, 0), (.iconst 1, 1, 0, 0, 0, nI 1, 0), (.iaload, 1, 0, 0, 0, 0, 0), (.bipush 8, 2, 0, 0, 0, nI 8, 0)]
theorem kX12_station_0 : rf_ck MX12_station 0 cX12_station_0 = true := by decide +kernel
theorem bX12_station_8 : rf_ckb MX12_station 8 (.if_icmp .ne 9) 9 17 = true := by decide +kernel
def cX12_station_11 : List rf_I := [(.aload_n 0, 1, 0, 0, 0, 0, 0), (.iconst 4, 1, 0, 0, 0, nI 4, 0)]
theorem kX12_station_11 : rf_ck MX12_station 11 cX12_station_11 = true := by decide +kernel
theorem qX12_station_13 : rf_kc MX12_station 13 59 1261 yX12_finds 0 = true := by decide +kernel
theorem eX12_station_16 : rf_cki MX12_station 16 .ireturn = true := by decide +kernel
def cX12_station_17 : List rf_I := [(.aload_n 0, 1, 0, 0, 0, 0, 0), (.getfield 7, 3, 12, 0, 1184, 0, 0), (.iconst 1, 1, 0, 0, 0, nI 1, 0), (.dup2, 1, 0, 0, 0, 0, 0), (.iaload, 1, 0, 0, 0, 0, 0), (.iconst 1, 1, 0, 0, 0, nI 1, 0), (.iadd, 1, 0, 0, 0, 0, 0), (.iastore, 1, 0, 0, 0, 0, 0), (.aload_n 0, 1, 0, 0, 0, 0, 0), (.getfield 7, 3, 12, 0, 1184, 0, 0), (.iconst 1, 1, 0, 0, 0, nI 1, 0), (.iaload, 1, 0, 0, 0, 0, 0), (.iconst 1, 1, 0, 0, 0, nI 1, 0), (.isub, 1, 0, 0, 0, 0, 0)]
theorem kX12_station_17 : rf_ck MX12_station 17 cX12_station_17 = true := by decide +kernel
theorem eX12_station_35 : rf_cki MX12_station 35 .ireturn = true := by decide +kernel
abbrev MX12_walk : rf_M := (yX12_walk, cX12_walk, 5, (some (.int)))
theorem mkX12_walk : rf_mk MX12_walk 0 3 1269 85 1267 1268 = true := by decide +kernel
def cX12_walk_0 : List rf_I := [(.aload_n 0, 1, 0, 0, 0, 0, 0), (.iload_n 1, 1, 1, 0, 0, 0, 0), (.iload_n 2, 1, 2, 0, 0, 0, 0)]
theorem kX12_walk_0 : rf_ck MX12_walk 0 cX12_walk_0 = true := by decide +kernel
theorem qX12_walk_3 : rf_kc MX12_walk 3 63 1270 yX12_areTwo 0 = true := by decide +kernel
theorem bX12_walk_6 : rf_ckb MX12_walk 6 (.ifCond .eq 17) 17 23 = true := by decide +kernel
def cX12_walk_9 : List rf_I := [(.iload_n 3, 1, 3, 0, 0, 0, 0), (.i2l, 1, 0, 0, 0, 0, 0), (.ldc2_w 67, 3, 0, 0, 1281, 0, (-1)), (.ldc2_w 69, 3, 0, 0, 1282, 0, lN 60)]
theorem kX12_walk_9 : rf_ck MX12_walk 9 cX12_walk_9 = true := by decide +kernel
theorem qX12_walk_17 : rf_kc MX12_walk 17 51 1278 yX12_in 1 = true := by decide +kernel
theorem bX12_walk_20 : rf_ckb MX12_walk 20 (.ifCond .ne 9) 9 29 = true := by decide +kernel
def cX12_walk_23 : List rf_I := [(.aload_n 0, 1, 0, 0, 0, 0, 0), (.iconst 1, 1, 0, 0, 0, nI 1, 0)]
theorem kX12_walk_23 : rf_ck MX12_walk 23 cX12_walk_23 = true := by decide +kernel
theorem qX12_walk_25 : rf_kc MX12_walk 25 59 1261 yX12_finds 0 = true := by decide +kernel
theorem eX12_walk_28 : rf_cki MX12_walk 28 .ireturn = true := by decide +kernel
def cX12_walk_29 : List rf_I := [(.aload_n 0, 1, 0, 0, 0, 0, 0), (.getfield 7, 3, 12, 0, 1184, 0, 0), (.bipush 20, 2, 0, 0, 0, nI 20, 0), (.bipush 8, 2, 0, 0, 0, nI 8, 0), (.iload_n 1, 1, 1, 0, 0, 0, 0), (.imul, 1, 0, 0, 0, 0, 0), (.iadd, 1, 0, 0, 0, 0, 0), (.iload_n 2, 1, 2, 0, 0, 0, 0), (.iadd, 1, 0, 0, 0, 0, 0), (.iaload, 1, 0, 0, 0, 0, 0), (.istore 4, 2, 4, 0, 0, 0, 0), (.aload_n 0, 1, 0, 0, 0, 0, 0), (.getfield 7, 3, 12, 0, 1184, 0, 0), (.bipush 20, 2, 0, 0, 0, nI 20, 0), (.bipush 8, 2, 0, 0, 0, nI 8, 0), (.iload_n 1, 1, 1, 0, 0, 0, 0), (.imul, 1, 0, 0, 0, 0, 0), (.iadd, 1, 0, 0, 0, 0, 0), (.iload_n 2, 1, 2, 0, 0, 0, 0), (.iadd, 1, 0, 0, 0, 0, 0), (.iload_n 3, 1, 3, 0, 0, 0, 0), (.iastore, 1, 0, 0, 0, 0, 0), (.aload_n 0, 1, 0, 0, 0, 0, 0), (.getfield 7, 3, 12, 0, 1184, 0, 0), (.bipush 20, 2, 0, 0, 0, nI 20, 0), (.bipush 8, 2, 0, 0, 0, nI 8, 0), (.iload_n 2, 1, 2, 0, 0, 0, 0), (.imul, 1, 0, 0, 0, 0, 0), (.iadd, 1, 0, 0, 0, 0, 0), (.iload_n 1, 1, 1, 0, 0, 0, 0), (.iadd, 1, 0, 0, 0, 0, 0), (.iload_n 3, 1, 3, 0, 0, 0, 0), (.iastore, 1, 0, 0, 0, 0, 0), (.iload 4, 2, 4, 0, 0, 0, 0)]
theorem kX12_walk_29 : rf_ck MX12_walk 29 cX12_walk_29 = true := by decide +kernel
theorem eX12_walk_77 : rf_cki MX12_walk 77 .ireturn = true := by decide +kernel
abbrev MX12_line : rf_M := (yX12_line, cX12_line, 5, (some (.int)))
theorem mkX12_line : rf_mk MX12_line 0 3 1286 85 1284 1285 = true := by decide +kernel
def cX12_line_0 : List rf_I := [(.aload_n 0, 1, 0, 0, 0, 0, 0), (.iload_n 1, 1, 1, 0, 0, 0, 0), (.iload_n 2, 1, 2, 0, 0, 0, 0)]
theorem kX12_line_0 : rf_ck MX12_line 0 cX12_line_0 = true := by decide +kernel
theorem qX12_line_3 : rf_kc MX12_line 3 63 1270 yX12_areTwo 0 = true := by decide +kernel
theorem bX12_line_6 : rf_ckb MX12_line 6 (.ifCond .eq 15) 15 21 = true := by decide +kernel
def cX12_line_9 : List rf_I := [(.iload_n 3, 1, 3, 0, 0, 0, 0), (.i2l, 1, 0, 0, 0, 0, 0), (.lconst 1, 1, 0, 0, 0, 0, lN 1), (.ldc2_w 71, 3, 0, 0, 1287, 0, lN 30)]
theorem kX12_line_9 : rf_ck MX12_line 9 cX12_line_9 = true := by decide +kernel
theorem qX12_line_15 : rf_kc MX12_line 15 51 1278 yX12_in 1 = true := by decide +kernel
theorem bX12_line_18 : rf_ckb MX12_line 18 (.ifCond .ne 9) 9 27 = true := by decide +kernel
def cX12_line_21 : List rf_I := [(.aload_n 0, 1, 0, 0, 0, 0, 0), (.iconst 1, 1, 0, 0, 0, nI 1, 0)]
theorem kX12_line_21 : rf_ck MX12_line 21 cX12_line_21 = true := by decide +kernel
theorem qX12_line_23 : rf_kc MX12_line 23 59 1261 yX12_finds 0 = true := by decide +kernel
theorem eX12_line_26 : rf_cki MX12_line 26 .ireturn = true := by decide +kernel
def cX12_line_27 : List rf_I := [(.aload_n 0, 1, 0, 0, 0, 0, 0), (.getfield 7, 3, 12, 0, 1184, 0, 0), (.iconst 2, 1, 0, 0, 0, nI 2, 0), (.iaload, 1, 0, 0, 0, 0, 0), (.iconst 4, 1, 0, 0, 0, nI 4, 0)]
theorem kX12_line_27 : rf_ck MX12_line 27 cX12_line_27 = true := by decide +kernel
theorem bX12_line_34 : rf_ckb MX12_line 34 (.if_icmp .ne 9) 9 43 = true := by decide +kernel
def cX12_line_37 : List rf_I := [(.aload_n 0, 1, 0, 0, 0, 0, 0), (.iconst 4, 1, 0, 0, 0, nI 4, 0)]
theorem kX12_line_37 : rf_ck MX12_line 37 cX12_line_37 = true := by decide +kernel
theorem qX12_line_39 : rf_kc MX12_line 39 59 1261 yX12_finds 0 = true := by decide +kernel
theorem eX12_line_42 : rf_cki MX12_line 42 .ireturn = true := by decide +kernel
def cX12_line_43 : List rf_I := [(.bipush 90, 2, 0, 0, 0, nI 90, 0), (.bipush 13, 2, 0, 0, 0, nI 13, 0), (.aload_n 0, 1, 0, 0, 0, 0, 0), (.getfield 7, 3, 12, 0, 1184, 0, 0), (.iconst 2, 1, 0, 0, 0, nI 2, 0), (.iaload, 1, 0, 0, 0, 0, 0), (.imul, 1, 0, 0, 0, 0, 0), (.iadd, 1, 0, 0, 0, 0, 0), (.istore 4, 2, 4, 0, 0, 0, 0), (.aload_n 0, 1, 0, 0, 0, 0, 0), (.getfield 7, 3, 12, 0, 1184, 0, 0), (.iload 4, 2, 4, 0, 0, 0, 0), (.iconst 2, 1, 0, 0, 0, nI 2, 0), (.iastore, 1, 0, 0, 0, 0, 0), (.aload_n 0, 1, 0, 0, 0, 0, 0), (.getfield 7, 3, 12, 0, 1184, 0, 0), (.iload 4, 2, 4, 0, 0, 0, 0), (.iconst 1, 1, 0, 0, 0, nI 1, 0), (.iadd, 1, 0, 0, 0, 0, 0), (.iload_n 1, 1, 1, 0, 0, 0, 0), (.iastore, 1, 0, 0, 0, 0, 0), (.aload_n 0, 1, 0, 0, 0, 0, 0), (.getfield 7, 3, 12, 0, 1184, 0, 0), (.iload 4, 2, 4, 0, 0, 0, 0), (.iconst 2, 1, 0, 0, 0, nI 2, 0), (.iadd, 1, 0, 0, 0, 0, 0), (.iload_n 2, 1, 2, 0, 0, 0, 0), (.iastore, 1, 0, 0, 0, 0, 0), (.aload_n 0, 1, 0, 0, 0, 0, 0), (.getfield 7, 3, 12, 0, 1184, 0, 0), (.iload 4, 2, 4, 0, 0, 0, 0), (.bipush 7, 2, 0, 0, 0, nI 7, 0), (.iadd, 1, 0, 0, 0, 0, 0), (.iload_n 3, 1, 3, 0, 0, 0, 0), (.iastore, 1, 0, 0, 0, 0, 0), (.aload_n 0, 1, 0, 0, 0, 0, 0), (.getfield 7, 3, 12, 0, 1184, 0, 0), (.iconst 2, 1, 0, 0, 0, nI 2, 0), (.dup2, 1, 0, 0, 0, 0, 0), (.iaload, 1, 0, 0, 0, 0, 0), (.iconst 1, 1, 0, 0, 0, nI 1, 0), (.iadd, 1, 0, 0, 0, 0, 0), (.iastore, 1, 0, 0, 0, 0, 0), (.aload_n 0, 1, 0, 0, 0, 0, 0), (.getfield 7, 3, 12, 0, 1184, 0, 0), (.iconst 2, 1, 0, 0, 0, nI 2, 0), (.iaload, 1, 0, 0, 0, 0, 0), (.iconst 1, 1, 0, 0, 0, nI 1, 0), (.isub, 1, 0, 0, 0, 0, 0)]
theorem kX12_line_43 : rf_ck MX12_line 43 cX12_line_43 = true := by decide +kernel
theorem eX12_line_114 : rf_cki MX12_line 114 .ireturn = true := by decide +kernel
abbrev MX12_extend : rf_M := (yX12_extend, cX12_extend, 5, (some (.int)))
theorem mkX12_extend : rf_mk MX12_extend 0 3 1291 85 1289 1290 = true := by decide +kernel
def cX12_extend_0 : List rf_I := [(.aload_n 0, 1, 0, 0, 0, 0, 0), (.iload_n 1, 1, 1, 0, 0, 0, 0)]
theorem kX12_extend_0 : rf_ck MX12_extend 0 cX12_extend_0 = true := by decide +kernel
theorem qX12_extend_2 : rf_kc MX12_extend 2 73 1292 yX12_isLine 0 = true := by decide +kernel
theorem bX12_extend_5 : rf_ckb MX12_extend 5 (.ifCond .eq 23) 23 28 = true := by decide +kernel
def cX12_extend_8 : List rf_I := [(.aload_n 0, 1, 0, 0, 0, 0, 0), (.iload_n 2, 1, 2, 0, 0, 0, 0)]
theorem kX12_extend_8 : rf_ck MX12_extend 8 cX12_extend_8 = true := by decide +kernel
theorem qX12_extend_10 : rf_kc MX12_extend 10 55 1274 yX12_isStation 0 = true := by decide +kernel
theorem bX12_extend_13 : rf_ckb MX12_extend 13 (.ifCond .eq 15) 15 28 = true := by decide +kernel
def cX12_extend_16 : List rf_I := [(.iload_n 3, 1, 3, 0, 0, 0, 0), (.i2l, 1, 0, 0, 0, 0, 0), (.lconst 1, 1, 0, 0, 0, 0, lN 1), (.ldc2_w 71, 3, 0, 0, 1287, 0, lN 30)]
theorem kX12_extend_16 : rf_ck MX12_extend 16 cX12_extend_16 = true := by decide +kernel
theorem qX12_extend_22 : rf_kc MX12_extend 22 51 1278 yX12_in 1 = true := by decide +kernel
theorem bX12_extend_25 : rf_ckb MX12_extend 25 (.ifCond .ne 9) 9 34 = true := by decide +kernel
def cX12_extend_28 : List rf_I := [(.aload_n 0, 1, 0, 0, 0, 0, 0), (.iconst 1, 1, 0, 0, 0, nI 1, 0)]
theorem kX12_extend_28 : rf_ck MX12_extend 28 cX12_extend_28 = true := by decide +kernel
theorem qX12_extend_30 : rf_kc MX12_extend 30 59 1261 yX12_finds 0 = true := by decide +kernel
theorem eX12_extend_33 : rf_cki MX12_extend 33 .ireturn = true := by decide +kernel
def cX12_extend_34 : List rf_I := [(.bipush 90, 2, 0, 0, 0, nI 90, 0), (.bipush 13, 2, 0, 0, 0, nI 13, 0), (.iload_n 1, 1, 1, 0, 0, 0, 0), (.imul, 1, 0, 0, 0, 0, 0), (.iadd, 1, 0, 0, 0, 0, 0), (.istore 4, 2, 4, 0, 0, 0, 0), (.aload_n 0, 1, 0, 0, 0, 0, 0), (.getfield 7, 3, 12, 0, 1184, 0, 0), (.iload 4, 2, 4, 0, 0, 0, 0), (.aload_n 0, 1, 0, 0, 0, 0, 0), (.getfield 7, 3, 12, 0, 1184, 0, 0), (.iload 4, 2, 4, 0, 0, 0, 0), (.iaload, 1, 0, 0, 0, 0, 0), (.iadd, 1, 0, 0, 0, 0, 0), (.iaload, 1, 0, 0, 0, 0, 0), (.iload_n 2, 1, 2, 0, 0, 0, 0)]
theorem kX12_extend_34 : rf_ck MX12_extend 34 cX12_extend_34 = true := by decide +kernel
theorem bX12_extend_59 : rf_ckb MX12_extend 59 (.if_icmp .ne 9) 9 68 = true := by decide +kernel
def cX12_extend_62 : List rf_I := [(.aload_n 0, 1, 0, 0, 0, 0, 0), (.iconst 1, 1, 0, 0, 0, nI 1, 0)]
theorem kX12_extend_62 : rf_ck MX12_extend 62 cX12_extend_62 = true := by decide +kernel
theorem qX12_extend_64 : rf_kc MX12_extend 64 59 1261 yX12_finds 0 = true := by decide +kernel
theorem eX12_extend_67 : rf_cki MX12_extend 67 .ireturn = true := by decide +kernel
def cX12_extend_68 : List rf_I := [(.aload_n 0, 1, 0, 0, 0, 0, 0), (.getfield 7, 3, 12, 0, 1184, 0, 0), (.iload 4, 2, 4, 0, 0, 0, 0), (.iaload, 1, 0, 0, 0, 0, 0), (.bipush 6, 2, 0, 0, 0, nI 6, 0)]
theorem kX12_extend_68 : rf_ck MX12_extend 68 cX12_extend_68 = true := by decide +kernel
theorem bX12_extend_77 : rf_ckb MX12_extend 77 (.if_icmp .ne 9) 9 86 = true := by decide +kernel
def cX12_extend_80 : List rf_I := [(.aload_n 0, 1, 0, 0, 0, 0, 0), (.iconst 4, 1, 0, 0, 0, nI 4, 0)]
theorem kX12_extend_80 : rf_ck MX12_extend 80 cX12_extend_80 = true := by decide +kernel
theorem qX12_extend_82 : rf_kc MX12_extend 82 59 1261 yX12_finds 0 = true := by decide +kernel
theorem eX12_extend_85 : rf_cki MX12_extend 85 .ireturn = true := by decide +kernel
def cX12_extend_86 : List rf_I := [(.aload_n 0, 1, 0, 0, 0, 0, 0), (.getfield 7, 3, 12, 0, 1184, 0, 0), (.iload 4, 2, 4, 0, 0, 0, 0), (.dup2, 1, 0, 0, 0, 0, 0), (.iaload, 1, 0, 0, 0, 0, 0), (.iconst 1, 1, 0, 0, 0, nI 1, 0), (.iadd, 1, 0, 0, 0, 0, 0), (.iastore, 1, 0, 0, 0, 0, 0), (.aload_n 0, 1, 0, 0, 0, 0, 0), (.getfield 7, 3, 12, 0, 1184, 0, 0), (.iload 4, 2, 4, 0, 0, 0, 0), (.aload_n 0, 1, 0, 0, 0, 0, 0), (.getfield 7, 3, 12, 0, 1184, 0, 0), (.iload 4, 2, 4, 0, 0, 0, 0), (.iaload, 1, 0, 0, 0, 0, 0), (.iadd, 1, 0, 0, 0, 0, 0), (.iload_n 2, 1, 2, 0, 0, 0, 0), (.iastore, 1, 0, 0, 0, 0, 0), (.aload_n 0, 1, 0, 0, 0, 0, 0), (.getfield 7, 3, 12, 0, 1184, 0, 0), (.iload 4, 2, 4, 0, 0, 0, 0), (.iconst 5, 1, 0, 0, 0, nI 5, 0), (.iadd, 1, 0, 0, 0, 0, 0), (.aload_n 0, 1, 0, 0, 0, 0, 0), (.getfield 7, 3, 12, 0, 1184, 0, 0), (.iload 4, 2, 4, 0, 0, 0, 0), (.iaload, 1, 0, 0, 0, 0, 0), (.iadd, 1, 0, 0, 0, 0, 0), (.iload_n 3, 1, 3, 0, 0, 0, 0), (.iastore, 1, 0, 0, 0, 0, 0), (.aload_n 0, 1, 0, 0, 0, 0, 0), (.getfield 7, 3, 12, 0, 1184, 0, 0), (.iload 4, 2, 4, 0, 0, 0, 0), (.iaload, 1, 0, 0, 0, 0, 0)]
theorem kX12_extend_86 : rf_ck MX12_extend 86 cX12_extend_86 = true := by decide +kernel
theorem eX12_extend_138 : rf_cki MX12_extend 138 .ireturn = true := by decide +kernel
abbrev MX12_ofLine : rf_M := (yX12_ofLine, cX12_ofLine, 4, (some (.int)))
theorem mkX12_ofLine : rf_mk MX12_ofLine 0 2 1299 85 1297 1298 = true := by decide +kernel
def cX12_ofLine_0 : List rf_I := [(.aload_n 0, 1, 0, 0, 0, 0, 0), (.iload_n 1, 1, 1, 0, 0, 0, 0)]
theorem kX12_ofLine_0 : rf_ck MX12_ofLine 0 cX12_ofLine_0 = true := by decide +kernel
theorem qX12_ofLine_2 : rf_kc MX12_ofLine 2 73 1292 yX12_isLine 0 = true := by decide +kernel
theorem bX12_ofLine_5 : rf_ckb MX12_ofLine 5 (.ifCond .eq 8) 8 13 = true := by decide +kernel
def cX12_ofLine_8 : List rf_I := [(.iload_n 2, 1, 2, 0, 0, 0, 0), (.iconst (-1), 1, 0, 0, 0, (-1), 0)]
theorem kX12_ofLine_8 : rf_ck MX12_ofLine 8 cX12_ofLine_8 = true := by decide +kernel
theorem bX12_ofLine_10 : rf_ckb MX12_ofLine 10 (.if_icmp .ge 9) 9 19 = true := by decide +kernel
def cX12_ofLine_13 : List rf_I := [(.aload_n 0, 1, 0, 0, 0, 0, 0), (.iconst 1, 1, 0, 0, 0, nI 1, 0)]
theorem kX12_ofLine_13 : rf_ck MX12_ofLine 13 cX12_ofLine_13 = true := by decide +kernel
theorem qX12_ofLine_15 : rf_kc MX12_ofLine 15 59 1261 yX12_finds 0 = true := by decide +kernel
theorem eX12_ofLine_18 : rf_cki MX12_ofLine 18 .ireturn = true := by decide +kernel
def cX12_ofLine_19 : List rf_I := [(.bipush 90, 2, 0, 0, 0, nI 90, 0), (.bipush 13, 2, 0, 0, 0, nI 13, 0), (.iload_n 1, 1, 1, 0, 0, 0, 0), (.imul, 1, 0, 0, 0, 0, 0), (.iadd, 1, 0, 0, 0, 0, 0), (.istore_n 3, 1, 3, 0, 0, 0, 0), (.iload_n 2, 1, 2, 0, 0, 0, 0), (.iconst (-1), 1, 0, 0, 0, (-1), 0)]
theorem kX12_ofLine_19 : rf_ck MX12_ofLine 19 cX12_ofLine_19 = true := by decide +kernel
theorem bX12_ofLine_29 : rf_ckb MX12_ofLine 29 (.if_icmp .ne 12) 12 41 = true := by decide +kernel
def cX12_ofLine_32 : List rf_I := [(.aload_n 0, 1, 0, 0, 0, 0, 0), (.getfield 7, 3, 12, 0, 1184, 0, 0), (.iload_n 3, 1, 3, 0, 0, 0, 0), (.iaload, 1, 0, 0, 0, 0, 0)]
theorem kX12_ofLine_32 : rf_ck MX12_ofLine 32 cX12_ofLine_32 = true := by decide +kernel
theorem bX12_ofLine_38 : rf_ckb MX12_ofLine 38 (.goto 31) 31 69 = true := by decide +kernel
def cX12_ofLine_41 : List rf_I := [(.iload_n 2, 1, 2, 0, 0, 0, 0), (.aload_n 0, 1, 0, 0, 0, 0, 0), (.getfield 7, 3, 12, 0, 1184, 0, 0), (.iload_n 3, 1, 3, 0, 0, 0, 0), (.iaload, 1, 0, 0, 0, 0, 0)]
theorem kX12_ofLine_41 : rf_ck MX12_ofLine 41 cX12_ofLine_41 = true := by decide +kernel
theorem bX12_ofLine_48 : rf_ckb MX12_ofLine 48 (.if_icmp .ge 16) 16 64 = true := by decide +kernel
def cX12_ofLine_51 : List rf_I := [(.aload_n 0, 1, 0, 0, 0, 0, 0), (.getfield 7, 3, 12, 0, 1184, 0, 0), (.iload_n 3, 1, 3, 0, 0, 0, 0), (.iconst 1, 1, 0, 0, 0, nI 1, 0), (.iadd, 1, 0, 0, 0, 0, 0), (.iload_n 2, 1, 2, 0, 0, 0, 0), (.iadd, 1, 0, 0, 0, 0, 0), (.iaload, 1, 0, 0, 0, 0, 0)]
theorem kX12_ofLine_51 : rf_ck MX12_ofLine 51 cX12_ofLine_51 = true := by decide +kernel
theorem bX12_ofLine_61 : rf_ckb MX12_ofLine 61 (.goto 8) 8 69 = true := by decide +kernel
def cX12_ofLine_64 : List rf_I := [(.aload_n 0, 1, 0, 0, 0, 0, 0), (.iconst 2, 1, 0, 0, 0, nI 2, 0)]
theorem kX12_ofLine_64 : rf_ck MX12_ofLine 64 cX12_ofLine_64 = true := by decide +kernel
theorem qX12_ofLine_66 : rf_kc MX12_ofLine 66 59 1261 yX12_finds 0 = true := by decide +kernel
theorem eX12_ofLine_69 : rf_cki MX12_ofLine 69 .ireturn = true := by decide +kernel
abbrev MX12_train : rf_M := (yX12_train, cX12_train, 5, (some (.int)))
theorem mkX12_train : rf_mk MX12_train 0 3 1303 85 1301 1302 = true := by decide +kernel
def cX12_train_0 : List rf_I := [(.aload_n 0, 1, 0, 0, 0, 0, 0), (.iload_n 1, 1, 1, 0, 0, 0, 0)]
theorem kX12_train_0 : rf_ck MX12_train 0 cX12_train_0 = true := by decide +kernel
theorem qX12_train_2 : rf_kc MX12_train 2 73 1292 yX12_isLine 0 = true := by decide +kernel
theorem bX12_train_5 : rf_ckb MX12_train 5 (.ifCond .eq 25) 25 30 = true := by decide +kernel
def cX12_train_8 : List rf_I := [(.iload_n 2, 1, 2, 0, 0, 0, 0), (.i2l, 1, 0, 0, 0, 0, 0), (.lconst 0, 1, 0, 0, 0, 0, lN 0), (.ldc2_w 76, 3, 0, 0, 1304, 0, lN 1199)]
theorem kX12_train_8 : rf_ck MX12_train 8 cX12_train_8 = true := by decide +kernel
theorem qX12_train_14 : rf_kc MX12_train 14 51 1278 yX12_in 1 = true := by decide +kernel
theorem bX12_train_17 : rf_ckb MX12_train 17 (.ifCond .eq 13) 13 30 = true := by decide +kernel
def cX12_train_20 : List rf_I := [(.iload_n 3, 1, 3, 0, 0, 0, 0), (.i2l, 1, 0, 0, 0, 0, 0), (.lconst 0, 1, 0, 0, 0, 0, lN 0), (.lconst 1, 1, 0, 0, 0, 0, lN 1)]
theorem kX12_train_20 : rf_ck MX12_train 20 cX12_train_20 = true := by decide +kernel
theorem qX12_train_24 : rf_kc MX12_train 24 51 1278 yX12_in 1 = true := by decide +kernel
theorem bX12_train_27 : rf_ckb MX12_train 27 (.ifCond .ne 9) 9 36 = true := by decide +kernel
def cX12_train_30 : List rf_I := [(.aload_n 0, 1, 0, 0, 0, 0, 0), (.iconst 1, 1, 0, 0, 0, nI 1, 0)]
theorem kX12_train_30 : rf_ck MX12_train 30 cX12_train_30 = true := by decide +kernel
theorem qX12_train_32 : rf_kc MX12_train 32 59 1261 yX12_finds 0 = true := by decide +kernel
theorem eX12_train_35 : rf_cki MX12_train 35 .ireturn = true := by decide +kernel
def cX12_train_36 : List rf_I := [(.aload_n 0, 1, 0, 0, 0, 0, 0), (.getfield 7, 3, 12, 0, 1184, 0, 0), (.iconst 3, 1, 0, 0, 0, nI 3, 0), (.iaload, 1, 0, 0, 0, 0, 0), (.bipush 12, 2, 0, 0, 0, nI 12, 0)]
theorem kX12_train_36 : rf_ck MX12_train 36 cX12_train_36 = true := by decide +kernel
theorem bX12_train_44 : rf_ckb MX12_train 44 (.if_icmp .ne 9) 9 53 = true := by decide +kernel
def cX12_train_47 : List rf_I := [(.aload_n 0, 1, 0, 0, 0, 0, 0), (.iconst 4, 1, 0, 0, 0, nI 4, 0)]
theorem kX12_train_47 : rf_ck MX12_train 47 cX12_train_47 = true := by decide +kernel
theorem qX12_train_49 : rf_kc MX12_train 49 59 1261 yX12_finds 0 = true := by decide +kernel
theorem eX12_train_52 : rf_cki MX12_train 52 .ireturn = true := by decide +kernel
def cX12_train_53 : List rf_I := [(.sipush 150, 3, 0, 0, 0, nI 150, 0), (.iconst 3, 1, 0, 0, 0, nI 3, 0), (.aload_n 0, 1, 0, 0, 0, 0, 0), (.getfield 7, 3, 12, 0, 1184, 0, 0), (.iconst 3, 1, 0, 0, 0, nI 3, 0), (.iaload, 1, 0, 0, 0, 0, 0), (.imul, 1, 0, 0, 0, 0, 0), (.iadd, 1, 0, 0, 0, 0, 0), (.istore 4, 2, 4, 0, 0, 0, 0), (.aload_n 0, 1, 0, 0, 0, 0, 0), (.getfield 7, 3, 12, 0, 1184, 0, 0), (.iload 4, 2, 4, 0, 0, 0, 0), (.iload_n 1, 1, 1, 0, 0, 0, 0), (.iastore, 1, 0, 0, 0, 0, 0), (.aload_n 0, 1, 0, 0, 0, 0, 0), (.getfield 7, 3, 12, 0, 1184, 0, 0), (.iload 4, 2, 4, 0, 0, 0, 0), (.iconst 1, 1, 0, 0, 0, nI 1, 0), (.iadd, 1, 0, 0, 0, 0, 0), (.iload_n 2, 1, 2, 0, 0, 0, 0), (.iastore, 1, 0, 0, 0, 0, 0), (.aload_n 0, 1, 0, 0, 0, 0, 0), (.getfield 7, 3, 12, 0, 1184, 0, 0), (.iload 4, 2, 4, 0, 0, 0, 0), (.iconst 2, 1, 0, 0, 0, nI 2, 0), (.iadd, 1, 0, 0, 0, 0, 0), (.iload_n 3, 1, 3, 0, 0, 0, 0), (.iastore, 1, 0, 0, 0, 0, 0), (.aload_n 0, 1, 0, 0, 0, 0, 0), (.getfield 7, 3, 12, 0, 1184, 0, 0), (.iconst 3, 1, 0, 0, 0, nI 3, 0), (.dup2, 1, 0, 0, 0, 0, 0), (.iaload, 1, 0, 0, 0, 0, 0), (.iconst 1, 1, 0, 0, 0, nI 1, 0), (.iadd, 1, 0, 0, 0, 0, 0), (.iastore, 1, 0, 0, 0, 0, 0), (.aload_n 0, 1, 0, 0, 0, 0, 0), (.getfield 7, 3, 12, 0, 1184, 0, 0), (.iconst 3, 1, 0, 0, 0, nI 3, 0), (.iaload, 1, 0, 0, 0, 0, 0), (.iconst 1, 1, 0, 0, 0, nI 1, 0), (.isub, 1, 0, 0, 0, 0, 0)]
theorem kX12_train_53 : rf_ck MX12_train 53 cX12_train_53 = true := by decide +kernel
theorem eX12_train_113 : rf_cki MX12_train 113 .ireturn = true := by decide +kernel
abbrev MX12_lineOf : rf_M := (yX12_lineOf, cX12_lineOf, 2, (some (.int)))
theorem mkX12_lineOf : rf_mk MX12_lineOf 0 1 1316 85 1315 26 = true := by decide +kernel
def cX12_lineOf_0 : List rf_I := [(.aload_n 0, 1, 0, 0, 0, 0, 0), (.getfield 7, 3, 12, 0, 1184, 0, 0), (.sipush 150, 3, 0, 0, 0, nI 150, 0), (.iconst 3, 1, 0, 0, 0, nI 3, 0), (.iload_n 1, 1, 1, 0, 0, 0, 0), (.imul, 1, 0, 0, 0, 0, 0), (.iadd, 1, 0, 0, 0, 0, 0), (.iaload, 1, 0, 0, 0, 0, 0)]
theorem kX12_lineOf_0 : rf_ck MX12_lineOf 0 cX12_lineOf_0 = true := by decide +kernel
theorem eX12_lineOf_12 : rf_cki MX12_lineOf 12 .ireturn = true := by decide +kernel
abbrev MX12_startOf : rf_M := (yX12_startOf, cX12_startOf, 2, (some (.int)))
theorem mkX12_startOf : rf_mk MX12_startOf 0 1 1320 85 1319 27 = true := by decide +kernel
def cX12_startOf_0 : List rf_I := [(.aload_n 0, 1, 0, 0, 0, 0, 0), (.getfield 7, 3, 12, 0, 1184, 0, 0), (.sipush 150, 3, 0, 0, 0, nI 150, 0), (.iconst 3, 1, 0, 0, 0, nI 3, 0), (.iload_n 1, 1, 1, 0, 0, 0, 0), (.imul, 1, 0, 0, 0, 0, 0), (.iadd, 1, 0, 0, 0, 0, 0), (.iconst 1, 1, 0, 0, 0, nI 1, 0), (.iadd, 1, 0, 0, 0, 0, 0), (.iaload, 1, 0, 0, 0, 0, 0)]
theorem kX12_startOf_0 : rf_ck MX12_startOf 0 cX12_startOf_0 = true := by decide +kernel
theorem eX12_startOf_14 : rf_cki MX12_startOf 14 .ireturn = true := by decide +kernel
abbrev MX12_stopsOf : rf_M := (yX12_stopsOf, cX12_stopsOf, 2, (some (.int)))
theorem mkX12_stopsOf : rf_mk MX12_stopsOf 0 1 1328 85 1327 29 = true := by decide +kernel
def cX12_stopsOf_0 : List rf_I := [(.aload_n 0, 1, 0, 0, 0, 0, 0), (.getfield 7, 3, 12, 0, 1184, 0, 0), (.bipush 90, 2, 0, 0, 0, nI 90, 0), (.bipush 13, 2, 0, 0, 0, nI 13, 0), (.aload_n 0, 1, 0, 0, 0, 0, 0), (.iload_n 1, 1, 1, 0, 0, 0, 0)]
theorem kX12_stopsOf_0 : rf_ck MX12_stopsOf 0 cX12_stopsOf_0 = true := by decide +kernel
theorem qX12_stopsOf_10 : rf_kc MX12_stopsOf 10 78 1313 yX12_lineOf 0 = true := by decide +kernel
def cX12_stopsOf_13 : List rf_I := [(.imul, 1, 0, 0, 0, 0, 0), (.iadd, 1, 0, 0, 0, 0, 0), (.iaload, 1, 0, 0, 0, 0, 0)]
theorem kX12_stopsOf_13 : rf_ck MX12_stopsOf 13 cX12_stopsOf_13 = true := by decide +kernel
theorem eX12_stopsOf_16 : rf_cki MX12_stopsOf 16 .ireturn = true := by decide +kernel
abbrev MX12_stationAt : rf_M := (yX12_stationAt, cX12_stationAt, 4, (some (.int)))
theorem mkX12_stationAt : rf_mk MX12_stationAt 0 2 1336 85 1335 31 = true := by decide +kernel
def cX12_stationAt_0 : List rf_I := [(.bipush 90, 2, 0, 0, 0, nI 90, 0), (.bipush 13, 2, 0, 0, 0, nI 13, 0), (.aload_n 0, 1, 0, 0, 0, 0, 0), (.iload_n 1, 1, 1, 0, 0, 0, 0)]
theorem kX12_stationAt_0 : rf_ck MX12_stationAt 0 cX12_stationAt_0 = true := by decide +kernel
theorem qX12_stationAt_6 : rf_kc MX12_stationAt 6 78 1313 yX12_lineOf 0 = true := by decide +kernel
def cX12_stationAt_9 : List rf_I := [(.imul, 1, 0, 0, 0, 0, 0), (.iadd, 1, 0, 0, 0, 0, 0), (.istore_n 3, 1, 3, 0, 0, 0, 0), (.aload_n 0, 1, 0, 0, 0, 0, 0), (.getfield 7, 3, 12, 0, 1184, 0, 0), (.sipush 150, 3, 0, 0, 0, nI 150, 0), (.iconst 3, 1, 0, 0, 0, nI 3, 0), (.iload_n 1, 1, 1, 0, 0, 0, 0), (.imul, 1, 0, 0, 0, 0, 0), (.iadd, 1, 0, 0, 0, 0, 0), (.iconst 2, 1, 0, 0, 0, nI 2, 0), (.iadd, 1, 0, 0, 0, 0, 0), (.iaload, 1, 0, 0, 0, 0, 0)]
theorem kX12_stationAt_9 : rf_ck MX12_stationAt 9 cX12_stationAt_9 = true := by decide +kernel
theorem bX12_stationAt_26 : rf_ckb MX12_stationAt 26 (.ifCond .ne 16) 16 42 = true := by decide +kernel
def cX12_stationAt_29 : List rf_I := [(.aload_n 0, 1, 0, 0, 0, 0, 0), (.getfield 7, 3, 12, 0, 1184, 0, 0), (.iload_n 3, 1, 3, 0, 0, 0, 0), (.iconst 1, 1, 0, 0, 0, nI 1, 0), (.iadd, 1, 0, 0, 0, 0, 0), (.iload_n 2, 1, 2, 0, 0, 0, 0), (.iadd, 1, 0, 0, 0, 0, 0), (.iaload, 1, 0, 0, 0, 0, 0)]
theorem kX12_stationAt_29 : rf_ck MX12_stationAt 29 cX12_stationAt_29 = true := by decide +kernel
theorem bX12_stationAt_39 : rf_ckb MX12_stationAt 39 (.goto 18) 18 57 = true := by decide +kernel
def cX12_stationAt_42 : List rf_I := [(.aload_n 0, 1, 0, 0, 0, 0, 0), (.getfield 7, 3, 12, 0, 1184, 0, 0), (.iload_n 3, 1, 3, 0, 0, 0, 0), (.aload_n 0, 1, 0, 0, 0, 0, 0), (.getfield 7, 3, 12, 0, 1184, 0, 0), (.iload_n 3, 1, 3, 0, 0, 0, 0), (.iaload, 1, 0, 0, 0, 0, 0), (.iadd, 1, 0, 0, 0, 0, 0), (.iload_n 2, 1, 2, 0, 0, 0, 0), (.isub, 1, 0, 0, 0, 0, 0), (.iaload, 1, 0, 0, 0, 0, 0)]
theorem kX12_stationAt_42 : rf_ck MX12_stationAt 42 cX12_stationAt_42 = true := by decide +kernel
theorem eX12_stationAt_57 : rf_cki MX12_stationAt 57 .ireturn = true := by decide +kernel
abbrev MX12_minuteAt : rf_M := (yX12_minuteAt, cX12_minuteAt, 6, (some (.int)))
theorem mkX12_minuteAt : rf_mk MX12_minuteAt 0 2 1332 85 1331 30 = true := by decide +kernel
def cX12_minuteAt_0 : List rf_I := [(.bipush 90, 2, 0, 0, 0, nI 90, 0), (.bipush 13, 2, 0, 0, 0, nI 13, 0), (.aload_n 0, 1, 0, 0, 0, 0, 0), (.iload_n 1, 1, 1, 0, 0, 0, 0)]
theorem kX12_minuteAt_0 : rf_ck MX12_minuteAt 0 cX12_minuteAt_0 = true := by decide +kernel
theorem qX12_minuteAt_6 : rf_kc MX12_minuteAt 6 78 1313 yX12_lineOf 0 = true := by decide +kernel
def cX12_minuteAt_9 : List rf_I := [(.imul, 1, 0, 0, 0, 0, 0), (.iadd, 1, 0, 0, 0, 0, 0), (.istore_n 3, 1, 3, 0, 0, 0, 0), (.aload_n 0, 1, 0, 0, 0, 0, 0), (.iload_n 1, 1, 1, 0, 0, 0, 0)]
theorem kX12_minuteAt_9 : rf_ck MX12_minuteAt 9 cX12_minuteAt_9 = true := by decide +kernel
theorem qX12_minuteAt_14 : rf_kc MX12_minuteAt 14 81 1317 yX12_startOf 0 = true := by decide +kernel
def cX12_minuteAt_17 : List rf_I := [(.istore 4, 2, 4, 0, 0, 0, 0), (.iconst 0, 1, 0, 0, 0, nI 0, 0), (.istore 5, 2, 5, 0, 0, 0, 0)]
theorem kX12_minuteAt_17 : rf_ck MX12_minuteAt 17 cX12_minuteAt_17 = true := by decide +kernel
def cX12_minuteAt_22 : List rf_I := [(.iload 5, 2, 5, 0, 0, 0, 0), (.iload_n 2, 1, 2, 0, 0, 0, 0)]
theorem kX12_minuteAt_22 : rf_ck MX12_minuteAt 22 cX12_minuteAt_22 = true := by decide +kernel
theorem bX12_minuteAt_25 : rf_ckb MX12_minuteAt 25 (.if_icmp .ge 67) 67 92 = true := by decide +kernel
def cX12_minuteAt_28 : List rf_I := [(.iload 4, 2, 4, 0, 0, 0, 0), (.aload_n 0, 1, 0, 0, 0, 0, 0), (.getfield 7, 3, 12, 0, 1184, 0, 0), (.sipush 150, 3, 0, 0, 0, nI 150, 0), (.iconst 3, 1, 0, 0, 0, nI 3, 0), (.iload_n 1, 1, 1, 0, 0, 0, 0), (.imul, 1, 0, 0, 0, 0, 0), (.iadd, 1, 0, 0, 0, 0, 0), (.iconst 2, 1, 0, 0, 0, nI 2, 0), (.iadd, 1, 0, 0, 0, 0, 0), (.iaload, 1, 0, 0, 0, 0, 0)]
theorem kX12_minuteAt_28 : rf_ck MX12_minuteAt 28 cX12_minuteAt_28 = true := by decide +kernel
theorem bX12_minuteAt_44 : rf_ckb MX12_minuteAt 44 (.ifCond .ne 18) 18 62 = true := by decide +kernel
def cX12_minuteAt_47 : List rf_I := [(.aload_n 0, 1, 0, 0, 0, 0, 0), (.getfield 7, 3, 12, 0, 1184, 0, 0), (.iload_n 3, 1, 3, 0, 0, 0, 0), (.bipush 7, 2, 0, 0, 0, nI 7, 0), (.iadd, 1, 0, 0, 0, 0, 0), (.iload 5, 2, 5, 0, 0, 0, 0), (.iadd, 1, 0, 0, 0, 0, 0), (.iaload, 1, 0, 0, 0, 0, 0)]
theorem kX12_minuteAt_47 : rf_ck MX12_minuteAt 47 cX12_minuteAt_47 = true := by decide +kernel
theorem bX12_minuteAt_59 : rf_ckb MX12_minuteAt 59 (.goto 24) 24 83 = true := by decide +kernel
def cX12_minuteAt_62 : List rf_I := [(.aload_n 0, 1, 0, 0, 0, 0, 0), (.getfield 7, 3, 12, 0, 1184, 0, 0), (.iload_n 3, 1, 3, 0, 0, 0, 0), (.bipush 7, 2, 0, 0, 0, nI 7, 0), (.iadd, 1, 0, 0, 0, 0, 0), (.aload_n 0, 1, 0, 0, 0, 0, 0), (.getfield 7, 3, 12, 0, 1184, 0, 0), (.iload_n 3, 1, 3, 0, 0, 0, 0), (.iaload, 1, 0, 0, 0, 0, 0), (.iadd, 1, 0, 0, 0, 0, 0), (.iconst 2, 1, 0, 0, 0, nI 2, 0), (.isub, 1, 0, 0, 0, 0, 0), (.iload 5, 2, 5, 0, 0, 0, 0), (.isub, 1, 0, 0, 0, 0, 0), (.iaload, 1, 0, 0, 0, 0, 0)]
theorem kX12_minuteAt_62 : rf_ck MX12_minuteAt 62 cX12_minuteAt_62 = true := by decide +kernel
def cX12_minuteAt_83 : List rf_I := [(.iadd, 1, 0, 0, 0, 0, 0), (.istore 4, 2, 4, 0, 0, 0, 0), (.iinc 5 1, 3, 5, 0, 0, nI 1, 0)]
theorem kX12_minuteAt_83 : rf_ck MX12_minuteAt 83 cX12_minuteAt_83 = true := by decide +kernel
theorem bX12_minuteAt_89 : rf_ckb MX12_minuteAt 89 (.goto (-67)) (-67) 22 = true := by decide +kernel
def cX12_minuteAt_92 : List rf_I := [(.iload 4, 2, 4, 0, 0, 0, 0)]
theorem kX12_minuteAt_92 : rf_ck MX12_minuteAt 92 cX12_minuteAt_92 = true := by decide +kernel
theorem eX12_minuteAt_94 : rf_cki MX12_minuteAt 94 .ireturn = true := by decide +kernel
abbrev MX12_endOf : rf_M := (yX12_endOf, cX12_endOf, 2, (some (.int)))
theorem mkX12_endOf : rf_mk MX12_endOf 0 1 1324 85 1323 28 = true := by decide +kernel
def cX12_endOf_0 : List rf_I := [(.aload_n 0, 1, 0, 0, 0, 0, 0), (.iload_n 1, 1, 1, 0, 0, 0, 0), (.aload_n 0, 1, 0, 0, 0, 0, 0), (.iload_n 1, 1, 1, 0, 0, 0, 0)]
theorem kX12_endOf_0 : rf_ck MX12_endOf 0 cX12_endOf_0 = true := by decide +kernel
theorem qX12_endOf_4 : rf_kc MX12_endOf 4 84 1325 yX12_stopsOf 0 = true := by decide +kernel
def cX12_endOf_7 : List rf_I := [(.iconst 1, 1, 0, 0, 0, nI 1, 0), (.isub, 1, 0, 0, 0, 0, 0)]
theorem kX12_endOf_7 : rf_ck MX12_endOf 7 cX12_endOf_7 = true := by decide +kernel
theorem qX12_endOf_9 : rf_kc MX12_endOf 9 87 1329 yX12_minuteAt 0 = true := by decide +kernel
theorem eX12_endOf_12 : rf_cki MX12_endOf 12 .ireturn = true := by decide +kernel
abbrev MX12_lotsWith : rf_M := (yX12_lotsWith, cX12_lotsWith, 4, (some (.int)))
theorem mkX12_lotsWith : rf_mk MX12_lotsWith 0 1 1340 85 1339 32 = true := by decide +kernel
def cX12_lotsWith_0 : List rf_I := [(.iconst 0, 1, 0, 0, 0, nI 0, 0), (.istore_n 2, 1, 2, 0, 0, 0, 0), (.iconst 0, 1, 0, 0, 0, nI 0, 0), (.istore_n 3, 1, 3, 0, 0, 0, 0)]
theorem kX12_lotsWith_0 : rf_ck MX12_lotsWith 0 cX12_lotsWith_0 = true := by decide +kernel
def cX12_lotsWith_4 : List rf_I := [(.iload_n 3, 1, 3, 0, 0, 0, 0), (.aload_n 0, 1, 0, 0, 0, 0, 0), (.getfield 7, 3, 12, 0, 1184, 0, 0), (.iconst 5, 1, 0, 0, 0, nI 5, 0), (.iaload, 1, 0, 0, 0, 0, 0)]
theorem kX12_lotsWith_4 : rf_ck MX12_lotsWith 4 cX12_lotsWith_4 = true := by decide +kernel
theorem bX12_lotsWith_11 : rf_ckb MX12_lotsWith 11 (.if_icmp .ge 44) 44 55 = true := by decide +kernel
def cX12_lotsWith_14 : List rf_I := [(.iload_n 2, 1, 2, 0, 0, 0, 0), (.aload_n 0, 1, 0, 0, 0, 0, 0), (.getfield 7, 3, 12, 0, 1184, 0, 0), (.sipush 320, 3, 0, 0, 0, nI 320, 0), (.iload_n 3, 1, 3, 0, 0, 0, 0), (.iadd, 1, 0, 0, 0, 0, 0), (.iaload, 1, 0, 0, 0, 0, 0), (.iload_n 1, 1, 1, 0, 0, 0, 0), (.ishr, 1, 0, 0, 0, 0, 0), (.iconst 1, 1, 0, 0, 0, nI 1, 0), (.iand, 1, 0, 0, 0, 0, 0), (.iconst 1, 1, 0, 0, 0, nI 1, 0)]
theorem kX12_lotsWith_14 : rf_ck MX12_lotsWith 14 cX12_lotsWith_14 = true := by decide +kernel
theorem bX12_lotsWith_30 : rf_ckb MX12_lotsWith 30 (.if_icmp .ne 16) 16 46 = true := by decide +kernel
def cX12_lotsWith_33 : List rf_I := [(.aload_n 0, 1, 0, 0, 0, 0, 0), (.getfield 7, 3, 12, 0, 1184, 0, 0), (.sipush 330, 3, 0, 0, 0, nI 330, 0), (.iload_n 3, 1, 3, 0, 0, 0, 0), (.iadd, 1, 0, 0, 0, 0, 0), (.iaload, 1, 0, 0, 0, 0, 0)]
theorem kX12_lotsWith_33 : rf_ck MX12_lotsWith 33 cX12_lotsWith_33 = true := by decide +kernel
theorem bX12_lotsWith_43 : rf_ckb MX12_lotsWith 43 (.goto 4) 4 47 = true := by decide +kernel
def cX12_lotsWith_46 : List rf_I := [(.iconst 0, 1, 0, 0, 0, nI 0, 0)]
theorem kX12_lotsWith_46 : rf_ck MX12_lotsWith 46 cX12_lotsWith_46 = true := by decide +kernel
def cX12_lotsWith_47 : List rf_I := [(.iadd, 1, 0, 0, 0, 0, 0), (.istore_n 2, 1, 2, 0, 0, 0, 0), (.iinc 3 1, 3, 3, 0, 0, nI 1, 0)]
theorem kX12_lotsWith_47 : rf_ck MX12_lotsWith 47 cX12_lotsWith_47 = true := by decide +kernel
theorem bX12_lotsWith_52 : rf_ckb MX12_lotsWith 52 (.goto (-48)) (-48) 4 = true := by decide +kernel
def cX12_lotsWith_55 : List rf_I := [(.iload_n 2, 1, 2, 0, 0, 0, 0)]
theorem kX12_lotsWith_55 : rf_ck MX12_lotsWith 55 cX12_lotsWith_55 = true := by decide +kernel
theorem eX12_lotsWith_56 : rf_cki MX12_lotsWith 56 .ireturn = true := by decide +kernel
abbrev MX12_allLots : rf_M := (yX12_allLots, cX12_allLots, 3, (some (.int)))
theorem mkX12_allLots : rf_mk MX12_allLots 0 0 1446 85 1445 50 = true := by decide +kernel
def cX12_allLots_0 : List rf_I := [(.iconst 0, 1, 0, 0, 0, nI 0, 0), (.istore_n 1, 1, 1, 0, 0, 0, 0), (.iconst 0, 1, 0, 0, 0, nI 0, 0), (.istore_n 2, 1, 2, 0, 0, 0, 0)]
theorem kX12_allLots_0 : rf_ck MX12_allLots 0 cX12_allLots_0 = true := by decide +kernel
def cX12_allLots_4 : List rf_I := [(.iload_n 2, 1, 2, 0, 0, 0, 0), (.aload_n 0, 1, 0, 0, 0, 0, 0), (.getfield 7, 3, 12, 0, 1184, 0, 0), (.iconst 5, 1, 0, 0, 0, nI 5, 0), (.iaload, 1, 0, 0, 0, 0, 0)]
theorem kX12_allLots_4 : rf_ck MX12_allLots 4 cX12_allLots_4 = true := by decide +kernel
theorem bX12_allLots_11 : rf_ckb MX12_allLots 11 (.if_icmp .ge 22) 22 33 = true := by decide +kernel
def cX12_allLots_14 : List rf_I := [(.iload_n 1, 1, 1, 0, 0, 0, 0), (.aload_n 0, 1, 0, 0, 0, 0, 0), (.getfield 7, 3, 12, 0, 1184, 0, 0), (.sipush 330, 3, 0, 0, 0, nI 330, 0), (.iload_n 2, 1, 2, 0, 0, 0, 0), (.iadd, 1, 0, 0, 0, 0, 0), (.iaload, 1, 0, 0, 0, 0, 0), (.iadd, 1, 0, 0, 0, 0, 0), (.istore_n 1, 1, 1, 0, 0, 0, 0), (.iinc 2 1, 3, 2, 0, 0, nI 1, 0)]
theorem kX12_allLots_14 : rf_ck MX12_allLots 14 cX12_allLots_14 = true := by decide +kernel
theorem bX12_allLots_30 : rf_ckb MX12_allLots 30 (.goto (-26)) (-26) 4 = true := by decide +kernel
def cX12_allLots_33 : List rf_I := [(.iload_n 1, 1, 1, 0, 0, 0, 0)]
theorem kX12_allLots_33 : rf_ck MX12_allLots 33 cX12_allLots_33 = true := by decide +kernel
theorem eX12_allLots_34 : rf_cki MX12_allLots 34 .ireturn = true := by decide +kernel
abbrev MX12_ofTrain : rf_M := (yX12_ofTrain, cX12_ofTrain, 3, (some (.int)))
theorem mkX12_ofTrain : rf_mk MX12_ofTrain 0 2 1308 85 1306 1307 = true := by decide +kernel
def cX12_ofTrain_0 : List rf_I := [(.aload_n 0, 1, 0, 0, 0, 0, 0), (.iload_n 1, 1, 1, 0, 0, 0, 0)]
theorem kX12_ofTrain_0 : rf_ck MX12_ofTrain 0 cX12_ofTrain_0 = true := by decide +kernel
theorem qX12_ofTrain_2 : rf_kc MX12_ofTrain 2 91 1309 yX12_isTrain 0 = true := by decide +kernel
theorem bX12_ofTrain_5 : rf_ckb MX12_ofTrain 5 (.ifCond .ne 9) 9 14 = true := by decide +kernel
def cX12_ofTrain_8 : List rf_I := [(.aload_n 0, 1, 0, 0, 0, 0, 0), (.iconst 1, 1, 0, 0, 0, nI 1, 0)]
theorem kX12_ofTrain_8 : rf_ck MX12_ofTrain 8 cX12_ofTrain_8 = true := by decide +kernel
theorem qX12_ofTrain_10 : rf_kc MX12_ofTrain 10 59 1261 yX12_finds 0 = true := by decide +kernel
theorem eX12_ofTrain_13 : rf_cki MX12_ofTrain 13 .ireturn = true := by decide +kernel
def cX12_ofTrain_14 : List rf_I := [(.iload_n 2, 1, 2, 0, 0, 0, 0)]
theorem kX12_ofTrain_14 : rf_ck MX12_ofTrain 14 cX12_ofTrain_14 = true := by decide +kernel
theorem bX12_ofTrain_15 : rf_ckt MX12_ofTrain 15 100 0 6 [41, 47, 53, 68, 74, 81, 94] [56, 62, 68, 83, 89, 96, 109] 115 = true := by decide +kernel
def cX12_ofTrain_56 : List rf_I := [(.aload_n 0, 1, 0, 0, 0, 0, 0), (.iload_n 1, 1, 1, 0, 0, 0, 0)]
theorem kX12_ofTrain_56 : rf_ck MX12_ofTrain 56 cX12_ofTrain_56 = true := by decide +kernel
theorem qX12_ofTrain_58 : rf_kc MX12_ofTrain 58 78 1313 yX12_lineOf 0 = true := by decide +kernel
theorem eX12_ofTrain_61 : rf_cki MX12_ofTrain 61 .ireturn = true := by decide +kernel
def cX12_ofTrain_62 : List rf_I := [(.aload_n 0, 1, 0, 0, 0, 0, 0), (.iload_n 1, 1, 1, 0, 0, 0, 0)]
theorem kX12_ofTrain_62 : rf_ck MX12_ofTrain 62 cX12_ofTrain_62 = true := by decide +kernel
theorem qX12_ofTrain_64 : rf_kc MX12_ofTrain 64 81 1317 yX12_startOf 0 = true := by decide +kernel
theorem eX12_ofTrain_67 : rf_cki MX12_ofTrain 67 .ireturn = true := by decide +kernel
def cX12_ofTrain_68 : List rf_I := [(.aload_n 0, 1, 0, 0, 0, 0, 0), (.getfield 7, 3, 12, 0, 1184, 0, 0), (.sipush 150, 3, 0, 0, 0, nI 150, 0), (.iconst 3, 1, 0, 0, 0, nI 3, 0), (.iload_n 1, 1, 1, 0, 0, 0, 0), (.imul, 1, 0, 0, 0, 0, 0), (.iadd, 1, 0, 0, 0, 0, 0), (.iconst 2, 1, 0, 0, 0, nI 2, 0), (.iadd, 1, 0, 0, 0, 0, 0), (.iaload, 1, 0, 0, 0, 0, 0)]
theorem kX12_ofTrain_68 : rf_ck MX12_ofTrain 68 cX12_ofTrain_68 = true := by decide +kernel
theorem eX12_ofTrain_82 : rf_cki MX12_ofTrain 82 .ireturn = true := by decide +kernel
def cX12_ofTrain_83 : List rf_I := [(.aload_n 0, 1, 0, 0, 0, 0, 0), (.iload_n 1, 1, 1, 0, 0, 0, 0)]
theorem kX12_ofTrain_83 : rf_ck MX12_ofTrain 83 cX12_ofTrain_83 = true := by decide +kernel
theorem qX12_ofTrain_85 : rf_kc MX12_ofTrain 85 94 1321 yX12_endOf 0 = true := by decide +kernel
theorem eX12_ofTrain_88 : rf_cki MX12_ofTrain 88 .ireturn = true := by decide +kernel
def cX12_ofTrain_89 : List rf_I := [(.aload_n 0, 1, 0, 0, 0, 0, 0), (.iload_n 1, 1, 1, 0, 0, 0, 0), (.iconst 0, 1, 0, 0, 0, nI 0, 0)]
theorem kX12_ofTrain_89 : rf_ck MX12_ofTrain 89 cX12_ofTrain_89 = true := by decide +kernel
theorem qX12_ofTrain_92 : rf_kc MX12_ofTrain 92 97 1333 yX12_stationAt 0 = true := by decide +kernel
theorem eX12_ofTrain_95 : rf_cki MX12_ofTrain 95 .ireturn = true := by decide +kernel
def cX12_ofTrain_96 : List rf_I := [(.aload_n 0, 1, 0, 0, 0, 0, 0), (.iload_n 1, 1, 1, 0, 0, 0, 0), (.aload_n 0, 1, 0, 0, 0, 0, 0), (.iload_n 1, 1, 1, 0, 0, 0, 0)]
theorem kX12_ofTrain_96 : rf_ck MX12_ofTrain 96 cX12_ofTrain_96 = true := by decide +kernel
theorem qX12_ofTrain_100 : rf_kc MX12_ofTrain 100 84 1325 yX12_stopsOf 0 = true := by decide +kernel
def cX12_ofTrain_103 : List rf_I := [(.iconst 1, 1, 0, 0, 0, nI 1, 0), (.isub, 1, 0, 0, 0, 0, 0)]
theorem kX12_ofTrain_103 : rf_ck MX12_ofTrain 103 cX12_ofTrain_103 = true := by decide +kernel
theorem qX12_ofTrain_105 : rf_kc MX12_ofTrain 105 97 1333 yX12_stationAt 0 = true := by decide +kernel
theorem eX12_ofTrain_108 : rf_cki MX12_ofTrain 108 .ireturn = true := by decide +kernel
def cX12_ofTrain_109 : List rf_I := [(.aload_n 0, 1, 0, 0, 0, 0, 0), (.iload_n 1, 1, 1, 0, 0, 0, 0)]
theorem kX12_ofTrain_109 : rf_ck MX12_ofTrain 109 cX12_ofTrain_109 = true := by decide +kernel
theorem qX12_ofTrain_111 : rf_kc MX12_ofTrain 111 100 1337 yX12_lotsWith 0 = true := by decide +kernel
theorem eX12_ofTrain_114 : rf_cki MX12_ofTrain 114 .ireturn = true := by decide +kernel
def cX12_ofTrain_115 : List rf_I := [(.aload_n 0, 1, 0, 0, 0, 0, 0), (.iconst 1, 1, 0, 0, 0, nI 1, 0)]
theorem kX12_ofTrain_115 : rf_ck MX12_ofTrain 115 cX12_ofTrain_115 = true := by decide +kernel
theorem qX12_ofTrain_117 : rf_kc MX12_ofTrain 117 59 1261 yX12_finds 0 = true := by decide +kernel
theorem eX12_ofTrain_120 : rf_cki MX12_ofTrain 120 .ireturn = true := by decide +kernel
abbrev MX12_stop : rf_M := (yX12_stop, cX12_stop, 4, (some (.int)))
theorem mkX12_stop : rf_mk MX12_stop 0 3 1344 85 1342 1343 = true := by decide +kernel
def cX12_stop_0 : List rf_I := [(.aload_n 0, 1, 0, 0, 0, 0, 0), (.iload_n 1, 1, 1, 0, 0, 0, 0)]
theorem kX12_stop_0 : rf_ck MX12_stop 0 cX12_stop_0 = true := by decide +kernel
theorem qX12_stop_2 : rf_kc MX12_stop 2 91 1309 yX12_isTrain 0 = true := by decide +kernel
theorem bX12_stop_5 : rf_ckb MX12_stop 5 (.ifCond .eq 17) 17 22 = true := by decide +kernel
def cX12_stop_8 : List rf_I := [(.iload_n 3, 1, 3, 0, 0, 0, 0), (.i2l, 1, 0, 0, 0, 0, 0), (.lconst 0, 1, 0, 0, 0, 0, lN 0), (.lconst 1, 1, 0, 0, 0, 0, lN 1)]
theorem kX12_stop_8 : rf_ck MX12_stop 8 cX12_stop_8 = true := by decide +kernel
theorem qX12_stop_12 : rf_kc MX12_stop 12 51 1278 yX12_in 1 = true := by decide +kernel
theorem bX12_stop_15 : rf_ckb MX12_stop 15 (.ifCond .eq 7) 7 22 = true := by decide +kernel
def cX12_stop_18 : List rf_I := [(.iload_n 2, 1, 2, 0, 0, 0, 0)]
theorem kX12_stop_18 : rf_ck MX12_stop 18 cX12_stop_18 = true := by decide +kernel
theorem bX12_stop_19 : rf_ckb MX12_stop 19 (.ifCond .ge 9) 9 28 = true := by decide +kernel
def cX12_stop_22 : List rf_I := [(.aload_n 0, 1, 0, 0, 0, 0, 0), (.iconst 1, 1, 0, 0, 0, nI 1, 0)]
theorem kX12_stop_22 : rf_ck MX12_stop 22 cX12_stop_22 = true := by decide +kernel
theorem qX12_stop_24 : rf_kc MX12_stop 24 59 1261 yX12_finds 0 = true := by decide +kernel
theorem eX12_stop_27 : rf_cki MX12_stop 27 .ireturn = true := by decide +kernel
def cX12_stop_28 : List rf_I := [(.iload_n 2, 1, 2, 0, 0, 0, 0), (.aload_n 0, 1, 0, 0, 0, 0, 0), (.iload_n 1, 1, 1, 0, 0, 0, 0)]
theorem kX12_stop_28 : rf_ck MX12_stop 28 cX12_stop_28 = true := by decide +kernel
theorem qX12_stop_31 : rf_kc MX12_stop 31 84 1325 yX12_stopsOf 0 = true := by decide +kernel
theorem bX12_stop_34 : rf_ckb MX12_stop 34 (.if_icmp .lt 9) 9 43 = true := by decide +kernel
def cX12_stop_37 : List rf_I := [(.aload_n 0, 1, 0, 0, 0, 0, 0), (.iconst 2, 1, 0, 0, 0, nI 2, 0)]
theorem kX12_stop_37 : rf_ck MX12_stop 37 cX12_stop_37 = true := by decide +kernel
theorem qX12_stop_39 : rf_kc MX12_stop 39 59 1261 yX12_finds 0 = true := by decide +kernel
theorem eX12_stop_42 : rf_cki MX12_stop 42 .ireturn = true := by decide +kernel
def cX12_stop_43 : List rf_I := [(.iload_n 3, 1, 3, 0, 0, 0, 0)]
theorem kX12_stop_43 : rf_ck MX12_stop 43 cX12_stop_43 = true := by decide +kernel
theorem bX12_stop_44 : rf_ckb MX12_stop 44 (.ifCond .ne 12) 12 56 = true := by decide +kernel
def cX12_stop_47 : List rf_I := [(.aload_n 0, 1, 0, 0, 0, 0, 0), (.iload_n 1, 1, 1, 0, 0, 0, 0), (.iload_n 2, 1, 2, 0, 0, 0, 0)]
theorem kX12_stop_47 : rf_ck MX12_stop 47 cX12_stop_47 = true := by decide +kernel
theorem qX12_stop_50 : rf_kc MX12_stop 50 97 1333 yX12_stationAt 0 = true := by decide +kernel
theorem bX12_stop_53 : rf_ckb MX12_stop 53 (.goto 9) 9 62 = true := by decide +kernel
def cX12_stop_56 : List rf_I := [(.aload_n 0, 1, 0, 0, 0, 0, 0), (.iload_n 1, 1, 1, 0, 0, 0, 0), (.iload_n 2, 1, 2, 0, 0, 0, 0)]
theorem kX12_stop_56 : rf_ck MX12_stop 56 cX12_stop_56 = true := by decide +kernel
theorem qX12_stop_59 : rf_kc MX12_stop 59 87 1329 yX12_minuteAt 0 = true := by decide +kernel
theorem eX12_stop_62 : rf_cki MX12_stop 62 .ireturn = true := by decide +kernel
abbrev MX12_here : rf_M := (yX12_here, cX12_here, 1, (some (.int)))
theorem mkX12_here : rf_mk MX12_here 0 0 1386 85 1385 40 = true := by decide +kernel
def cX12_here_0 : List rf_I := [(.aload_n 0, 1, 0, 0, 0, 0, 0), (.getfield 103, 3, 12, 5, 1189, 0, 0), (.aload_n 0, 1, 0, 0, 0, 0, 0), (.getfield 107, 3, 12, 6, 1190, 0, 0)]
theorem kX12_here_0 : rf_ck MX12_here 0 cX12_here_0 = true := by decide +kernel
theorem bX12_here_8 : rf_ckb MX12_here 8 (.if_icmp .ge 27) 27 35 = true := by decide +kernel
def cX12_here_11 : List rf_I := [(.aload_n 0, 1, 0, 0, 0, 0, 0), (.getfield 110, 3, 12, 7, 1191, 0, 0)]
theorem kX12_here_11 : rf_ck MX12_here 11 cX12_here_11 = true := by decide +kernel
theorem bX12_here_15 : rf_ckb MX12_here 15 (.ifCond .ge 20) 20 35 = true := by decide +kernel
def cX12_here_18 : List rf_I := [(.aload_n 0, 1, 0, 0, 0, 0, 0), (.getfield 7, 3, 12, 0, 1184, 0, 0), (.aload_n 0, 1, 0, 0, 0, 0, 0), (.getfield 113, 3, 12, 4, 1188, 0, 0), (.aload_n 0, 1, 0, 0, 0, 0, 0), (.getfield 103, 3, 12, 5, 1189, 0, 0), (.iadd, 1, 0, 0, 0, 0, 0), (.iaload, 1, 0, 0, 0, 0, 0)]
theorem kX12_here_18 : rf_ck MX12_here 18 cX12_here_18 = true := by decide +kernel
theorem bX12_here_32 : rf_ckb MX12_here 32 (.goto 4) 4 36 = true := by decide +kernel
def cX12_here_35 : List rf_I := [(.iconst (-1), 1, 0, 0, 0, (-1), 0)]
theorem kX12_here_35 : rf_ck MX12_here 35 cX12_here_35 = true := by decide +kernel
theorem eX12_here_36 : rf_cki MX12_here 36 .ireturn = true := by decide +kernel
abbrev MX12_wrong : rf_M := (yX12_wrong, cX12_wrong, 1, (some (.int)))
theorem mkX12_wrong : rf_mk MX12_wrong 0 0 1390 85 1389 41 = true := by decide +kernel
def cX12_wrong_0 : List rf_I := [(.aload_n 0, 1, 0, 0, 0, 0, 0), (.aload_n 0, 1, 0, 0, 0, 0, 0), (.getfield 110, 3, 12, 7, 1191, 0, 0)]
theorem kX12_wrong_0 : rf_ck MX12_wrong 0 cX12_wrong_0 = true := by decide +kernel
theorem bX12_wrong_5 : rf_ckb MX12_wrong 5 (.ifCond .ge 10) 10 15 = true := by decide +kernel
def cX12_wrong_8 : List rf_I := [(.aload_n 0, 1, 0, 0, 0, 0, 0), (.getfield 103, 3, 12, 5, 1189, 0, 0)]
theorem kX12_wrong_8 : rf_ck MX12_wrong 8 cX12_wrong_8 = true := by decide +kernel
theorem bX12_wrong_12 : rf_ckb MX12_wrong 12 (.goto 7) 7 19 = true := by decide +kernel
def cX12_wrong_15 : List rf_I := [(.aload_n 0, 1, 0, 0, 0, 0, 0), (.getfield 110, 3, 12, 7, 1191, 0, 0)]
theorem kX12_wrong_15 : rf_ck MX12_wrong 15 cX12_wrong_15 = true := by decide +kernel
def cX12_wrong_19 : List rf_I := [(.putfield 110, 3, 12, 7, 1191, 0, 0), (.iconst 0, 1, 0, 0, 0, nI 0, 0)]
theorem kX12_wrong_19 : rf_ck MX12_wrong 19 cX12_wrong_19 = true := by decide +kernel
theorem eX12_wrong_23 : rf_cki MX12_wrong 23 .ireturn = true := by decide +kernel
abbrev MX12_takes : rf_M := (yX12_takes, cX12_takes, 2, (some (.boolean)))
theorem mkX12_takes : rf_mk MX12_takes 0 1 1394 85 1393 42 = true := by decide +kernel
def cX12_takes_0 : List rf_I := [(.aload_n 0, 1, 0, 0, 0, 0, 0)]
theorem kX12_takes_0 : rf_ck MX12_takes 0 cX12_takes_0 = true := by decide +kernel
theorem qX12_takes_1 : rf_kc MX12_takes 1 116 1383 yX12_here 0 = true := by decide +kernel
def cX12_takes_4 : List rf_I := [(.iload_n 1, 1, 1, 0, 0, 0, 0)]
theorem kX12_takes_4 : rf_ck MX12_takes 4 cX12_takes_4 = true := by decide +kernel
theorem bX12_takes_5 : rf_ckb MX12_takes 5 (.if_icmp .eq 5) 5 10 = true := by decide +kernel
def cX12_takes_8 : List rf_I := [(.iconst 0, 1, 0, 0, 0, nI 0, 0)]
theorem kX12_takes_8 : rf_ck MX12_takes 8 cX12_takes_8 = true := by decide +kernel
theorem eX12_takes_9 : rf_cki MX12_takes 9 .ireturn = true := by decide +kernel
def cX12_takes_10 : List rf_I := [(.aload_n 0, 1, 0, 0, 0, 0, 0), (.dup, 1, 0, 0, 0, 0, 0), (.getfield 103, 3, 12, 5, 1189, 0, 0), (.iconst 1, 1, 0, 0, 0, nI 1, 0), (.iadd, 1, 0, 0, 0, 0, 0), (.putfield 103, 3, 12, 5, 1189, 0, 0), (.iconst 1, 1, 0, 0, 0, nI 1, 0)]
theorem kX12_takes_10 : rf_ck MX12_takes 10 cX12_takes_10 = true := by decide +kernel
theorem eX12_takes_21 : rf_cki MX12_takes 21 .ireturn = true := by decide +kernel
abbrev MX12_nameOf : rf_M := (yX12_nameOf, cX12_nameOf, 2, (some (.int)))
theorem mkX12_nameOf : rf_mk MX12_nameOf 0 1 1398 85 1397 43 = true := by decide +kernel
def cX12_nameOf_0 : List rf_I := [(.aload_n 0, 1, 0, 0, 0, 0, 0), (.getfield 120, 3, 12, 9, 1193, 0, 0)]
theorem kX12_nameOf_0 : rf_ck MX12_nameOf 0 cX12_nameOf_0 = true := by decide +kernel
theorem bX12_nameOf_4 : rf_ckb MX12_nameOf 4 (.ifCond .eq 45) 45 49 = true := by decide +kernel
def cX12_nameOf_7 : List rf_I := [(.iload_n 1, 1, 1, 0, 0, 0, 0), (.bipush 110, 2, 0, 0, 0, nI 110, 0)]
theorem kX12_nameOf_7 : rf_ck MX12_nameOf 7 cX12_nameOf_7 = true := by decide +kernel
theorem bX12_nameOf_10 : rf_ckb MX12_nameOf 10 (.if_icmp .ne 7) 7 17 = true := by decide +kernel
def cX12_nameOf_13 : List rf_I := [(.iconst 0, 1, 0, 0, 0, nI 0, 0)]
theorem kX12_nameOf_13 : rf_ck MX12_nameOf 13 cX12_nameOf_13 = true := by decide +kernel
theorem bX12_nameOf_14 : rf_ckb MX12_nameOf 14 (.goto 34) 34 48 = true := by decide +kernel
def cX12_nameOf_17 : List rf_I := [(.iload_n 1, 1, 1, 0, 0, 0, 0), (.bipush 108, 2, 0, 0, 0, nI 108, 0)]
theorem kX12_nameOf_17 : rf_ck MX12_nameOf 17 cX12_nameOf_17 = true := by decide +kernel
theorem bX12_nameOf_20 : rf_ckb MX12_nameOf 20 (.if_icmp .ne 7) 7 27 = true := by decide +kernel
def cX12_nameOf_23 : List rf_I := [(.iconst 1, 1, 0, 0, 0, nI 1, 0)]
theorem kX12_nameOf_23 : rf_ck MX12_nameOf 23 cX12_nameOf_23 = true := by decide +kernel
theorem bX12_nameOf_24 : rf_ckb MX12_nameOf 24 (.goto 24) 24 48 = true := by decide +kernel
def cX12_nameOf_27 : List rf_I := [(.iload_n 1, 1, 1, 0, 0, 0, 0), (.bipush 103, 2, 0, 0, 0, nI 103, 0)]
theorem kX12_nameOf_27 : rf_ck MX12_nameOf 27 cX12_nameOf_27 = true := by decide +kernel
theorem bX12_nameOf_30 : rf_ckb MX12_nameOf 30 (.if_icmp .ne 7) 7 37 = true := by decide +kernel
def cX12_nameOf_33 : List rf_I := [(.iconst 2, 1, 0, 0, 0, nI 2, 0)]
theorem kX12_nameOf_33 : rf_ck MX12_nameOf 33 cX12_nameOf_33 = true := by decide +kernel
theorem bX12_nameOf_34 : rf_ckb MX12_nameOf 34 (.goto 14) 14 48 = true := by decide +kernel
def cX12_nameOf_37 : List rf_I := [(.iload_n 1, 1, 1, 0, 0, 0, 0), (.bipush 98, 2, 0, 0, 0, nI 98, 0)]
theorem kX12_nameOf_37 : rf_ck MX12_nameOf 37 cX12_nameOf_37 = true := by decide +kernel
theorem bX12_nameOf_40 : rf_ckb MX12_nameOf 40 (.if_icmp .ne 7) 7 47 = true := by decide +kernel
def cX12_nameOf_43 : List rf_I := [(.iconst 3, 1, 0, 0, 0, nI 3, 0)]
theorem kX12_nameOf_43 : rf_ck MX12_nameOf 43 cX12_nameOf_43 = true := by decide +kernel
theorem bX12_nameOf_44 : rf_ckb MX12_nameOf 44 (.goto 4) 4 48 = true := by decide +kernel
def cX12_nameOf_47 : List rf_I := [(.iconst (-1), 1, 0, 0, 0, (-1), 0)]
theorem kX12_nameOf_47 : rf_ck MX12_nameOf 47 cX12_nameOf_47 = true := by decide +kernel
theorem eX12_nameOf_48 : rf_cki MX12_nameOf 48 .ireturn = true := by decide +kernel
def cX12_nameOf_49 : List rf_I := [(.iload_n 1, 1, 1, 0, 0, 0, 0), (.bipush 102, 2, 0, 0, 0, nI 102, 0)]
theorem kX12_nameOf_49 : rf_ck MX12_nameOf 49 cX12_nameOf_49 = true := by decide +kernel
theorem bX12_nameOf_52 : rf_ckb MX12_nameOf 52 (.if_icmp .ne 7) 7 59 = true := by decide +kernel
def cX12_nameOf_55 : List rf_I := [(.iconst 0, 1, 0, 0, 0, nI 0, 0)]
theorem kX12_nameOf_55 : rf_ck MX12_nameOf 55 cX12_nameOf_55 = true := by decide +kernel
theorem bX12_nameOf_56 : rf_ckb MX12_nameOf 56 (.goto 44) 44 100 = true := by decide +kernel
def cX12_nameOf_59 : List rf_I := [(.iload_n 1, 1, 1, 0, 0, 0, 0), (.bipush 103, 2, 0, 0, 0, nI 103, 0)]
theorem kX12_nameOf_59 : rf_ck MX12_nameOf 59 cX12_nameOf_59 = true := by decide +kernel
theorem bX12_nameOf_62 : rf_ckb MX12_nameOf 62 (.if_icmp .ne 7) 7 69 = true := by decide +kernel
def cX12_nameOf_65 : List rf_I := [(.iconst 1, 1, 0, 0, 0, nI 1, 0)]
theorem kX12_nameOf_65 : rf_ck MX12_nameOf 65 cX12_nameOf_65 = true := by decide +kernel
theorem bX12_nameOf_66 : rf_ckb MX12_nameOf 66 (.goto 34) 34 100 = true := by decide +kernel
def cX12_nameOf_69 : List rf_I := [(.iload_n 1, 1, 1, 0, 0, 0, 0), (.bipush 112, 2, 0, 0, 0, nI 112, 0)]
theorem kX12_nameOf_69 : rf_ck MX12_nameOf 69 cX12_nameOf_69 = true := by decide +kernel
theorem bX12_nameOf_72 : rf_ckb MX12_nameOf 72 (.if_icmp .ne 7) 7 79 = true := by decide +kernel
def cX12_nameOf_75 : List rf_I := [(.iconst 2, 1, 0, 0, 0, nI 2, 0)]
theorem kX12_nameOf_75 : rf_ck MX12_nameOf 75 cX12_nameOf_75 = true := by decide +kernel
theorem bX12_nameOf_76 : rf_ckb MX12_nameOf 76 (.goto 24) 24 100 = true := by decide +kernel
def cX12_nameOf_79 : List rf_I := [(.iload_n 1, 1, 1, 0, 0, 0, 0), (.bipush 113, 2, 0, 0, 0, nI 113, 0)]
theorem kX12_nameOf_79 : rf_ck MX12_nameOf 79 cX12_nameOf_79 = true := by decide +kernel
theorem bX12_nameOf_82 : rf_ckb MX12_nameOf 82 (.if_icmp .ne 7) 7 89 = true := by decide +kernel
def cX12_nameOf_85 : List rf_I := [(.iconst 3, 1, 0, 0, 0, nI 3, 0)]
theorem kX12_nameOf_85 : rf_ck MX12_nameOf 85 cX12_nameOf_85 = true := by decide +kernel
theorem bX12_nameOf_86 : rf_ckb MX12_nameOf 86 (.goto 14) 14 100 = true := by decide +kernel
def cX12_nameOf_89 : List rf_I := [(.iload_n 1, 1, 1, 0, 0, 0, 0), (.bipush 110, 2, 0, 0, 0, nI 110, 0)]
theorem kX12_nameOf_89 : rf_ck MX12_nameOf 89 cX12_nameOf_89 = true := by decide +kernel
theorem bX12_nameOf_92 : rf_ckb MX12_nameOf 92 (.if_icmp .ne 7) 7 99 = true := by decide +kernel
def cX12_nameOf_95 : List rf_I := [(.iconst 4, 1, 0, 0, 0, nI 4, 0)]
theorem kX12_nameOf_95 : rf_ck MX12_nameOf 95 cX12_nameOf_95 = true := by decide +kernel
theorem bX12_nameOf_96 : rf_ckb MX12_nameOf 96 (.goto 4) 4 100 = true := by decide +kernel
def cX12_nameOf_99 : List rf_I := [(.iconst (-1), 1, 0, 0, 0, (-1), 0)]
theorem kX12_nameOf_99 : rf_ck MX12_nameOf 99 cX12_nameOf_99 = true := by decide +kernel
theorem eX12_nameOf_100 : rf_cki MX12_nameOf 100 .ireturn = true := by decide +kernel
abbrev MX12_either : rf_M := (yX12_either, cX12_either, 3, (some (.int)))
theorem mkX12_either : rf_mk MX12_either 0 0 1362 85 1361 34 = true := by decide +kernel
def cX12_either_0 : List rf_I := [(.aload_n 0, 1, 0, 0, 0, 0, 0)]
theorem kX12_either_0 : rf_ck MX12_either 0 cX12_either_0 = true := by decide +kernel
theorem qX12_either_1 : rf_kc MX12_either 1 124 1363 yX12_both 0 = true := by decide +kernel
def cX12_either_4 : List rf_I := [(.istore_n 1, 1, 1, 0, 0, 0, 0)]
theorem kX12_either_4 : rf_ck MX12_either 4 cX12_either_4 = true := by decide +kernel
def cX12_either_5 : List rf_I := [(.aload_n 0, 1, 0, 0, 0, 0, 0), (.bipush 124, 2, 0, 0, 0, nI 124, 0)]
theorem kX12_either_5 : rf_ck MX12_either 5 cX12_either_5 = true := by decide +kernel
theorem qX12_either_8 : rf_kc MX12_either 8 127 1391 yX12_takes 0 = true := by decide +kernel
theorem bX12_either_11 : rf_ckb MX12_either 11 (.ifCond .eq 25) 25 36 = true := by decide +kernel
def cX12_either_14 : List rf_I := [(.aload_n 0, 1, 0, 0, 0, 0, 0)]
theorem kX12_either_14 : rf_ck MX12_either 14 cX12_either_14 = true := by decide +kernel
theorem qX12_either_15 : rf_kc MX12_either 15 124 1363 yX12_both 0 = true := by decide +kernel
def cX12_either_18 : List rf_I := [(.istore_n 2, 1, 2, 0, 0, 0, 0), (.iload_n 1, 1, 1, 0, 0, 0, 0)]
theorem kX12_either_18 : rf_ck MX12_either 18 cX12_either_18 = true := by decide +kernel
theorem bX12_either_20 : rf_ckb MX12_either 20 (.ifCond .ne 7) 7 27 = true := by decide +kernel
def cX12_either_23 : List rf_I := [(.iload_n 2, 1, 2, 0, 0, 0, 0)]
theorem kX12_either_23 : rf_ck MX12_either 23 cX12_either_23 = true := by decide +kernel
theorem bX12_either_24 : rf_ckb MX12_either 24 (.ifCond .eq 7) 7 31 = true := by decide +kernel
def cX12_either_27 : List rf_I := [(.iconst 1, 1, 0, 0, 0, nI 1, 0)]
theorem kX12_either_27 : rf_ck MX12_either 27 cX12_either_27 = true := by decide +kernel
theorem bX12_either_28 : rf_ckb MX12_either 28 (.goto 4) 4 32 = true := by decide +kernel
def cX12_either_31 : List rf_I := [(.iconst 0, 1, 0, 0, 0, nI 0, 0)]
theorem kX12_either_31 : rf_ck MX12_either 31 cX12_either_31 = true := by decide +kernel
def cX12_either_32 : List rf_I := [(.istore_n 1, 1, 1, 0, 0, 0, 0)]
theorem kX12_either_32 : rf_ck MX12_either 32 cX12_either_32 = true := by decide +kernel
theorem bX12_either_33 : rf_ckb MX12_either 33 (.goto (-28)) (-28) 5 = true := by decide +kernel
def cX12_either_36 : List rf_I := [(.iload_n 1, 1, 1, 0, 0, 0, 0)]
theorem kX12_either_36 : rf_ck MX12_either 36 cX12_either_36 = true := by decide +kernel
theorem eX12_either_37 : rf_cki MX12_either 37 .ireturn = true := by decide +kernel
abbrev MX12_both : rf_M := (yX12_both, cX12_both, 3, (some (.int)))
theorem mkX12_both : rf_mk MX12_both 0 0 1366 85 1365 35 = true := by decide +kernel
def cX12_both_0 : List rf_I := [(.aload_n 0, 1, 0, 0, 0, 0, 0)]
theorem kX12_both_0 : rf_ck MX12_both 0 cX12_both_0 = true := by decide +kernel
theorem qX12_both_1 : rf_kc MX12_both 1 130 1367 yX12_compared 0 = true := by decide +kernel
def cX12_both_4 : List rf_I := [(.istore_n 1, 1, 1, 0, 0, 0, 0)]
theorem kX12_both_4 : rf_ck MX12_both 4 cX12_both_4 = true := by decide +kernel
def cX12_both_5 : List rf_I := [(.aload_n 0, 1, 0, 0, 0, 0, 0), (.bipush 38, 2, 0, 0, 0, nI 38, 0)]
theorem kX12_both_5 : rf_ck MX12_both 5 cX12_both_5 = true := by decide +kernel
theorem qX12_both_8 : rf_kc MX12_both 8 127 1391 yX12_takes 0 = true := by decide +kernel
theorem bX12_both_11 : rf_ckb MX12_both 11 (.ifCond .eq 25) 25 36 = true := by decide +kernel
def cX12_both_14 : List rf_I := [(.aload_n 0, 1, 0, 0, 0, 0, 0)]
theorem kX12_both_14 : rf_ck MX12_both 14 cX12_both_14 = true := by decide +kernel
theorem qX12_both_15 : rf_kc MX12_both 15 130 1367 yX12_compared 0 = true := by decide +kernel
def cX12_both_18 : List rf_I := [(.istore_n 2, 1, 2, 0, 0, 0, 0), (.iload_n 1, 1, 1, 0, 0, 0, 0)]
theorem kX12_both_18 : rf_ck MX12_both 18 cX12_both_18 = true := by decide +kernel
theorem bX12_both_20 : rf_ckb MX12_both 20 (.ifCond .eq 11) 11 31 = true := by decide +kernel
def cX12_both_23 : List rf_I := [(.iload_n 2, 1, 2, 0, 0, 0, 0)]
theorem kX12_both_23 : rf_ck MX12_both 23 cX12_both_23 = true := by decide +kernel
theorem bX12_both_24 : rf_ckb MX12_both 24 (.ifCond .eq 7) 7 31 = true := by decide +kernel
def cX12_both_27 : List rf_I := [(.iconst 1, 1, 0, 0, 0, nI 1, 0)]
theorem kX12_both_27 : rf_ck MX12_both 27 cX12_both_27 = true := by decide +kernel
theorem bX12_both_28 : rf_ckb MX12_both 28 (.goto 4) 4 32 = true := by decide +kernel
def cX12_both_31 : List rf_I := [(.iconst 0, 1, 0, 0, 0, nI 0, 0)]
theorem kX12_both_31 : rf_ck MX12_both 31 cX12_both_31 = true := by decide +kernel
def cX12_both_32 : List rf_I := [(.istore_n 1, 1, 1, 0, 0, 0, 0)]
theorem kX12_both_32 : rf_ck MX12_both 32 cX12_both_32 = true := by decide +kernel
theorem bX12_both_33 : rf_ckb MX12_both 33 (.goto (-28)) (-28) 5 = true := by decide +kernel
def cX12_both_36 : List rf_I := [(.iload_n 1, 1, 1, 0, 0, 0, 0)]
theorem kX12_both_36 : rf_ck MX12_both 36 cX12_both_36 = true := by decide +kernel
theorem eX12_both_37 : rf_cki MX12_both 37 .ireturn = true := by decide +kernel
abbrev MX12_compared : rf_M := (yX12_compared, cX12_compared, 4, (some (.int)))
theorem mkX12_compared : rf_mk MX12_compared 0 0 1370 85 1369 36 = true := by decide +kernel
def cX12_compared_0 : List rf_I := [(.aload_n 0, 1, 0, 0, 0, 0, 0)]
theorem kX12_compared_0 : rf_ck MX12_compared 0 cX12_compared_0 = true := by decide +kernel
theorem qX12_compared_1 : rf_kc MX12_compared 1 133 1371 yX12_sum 0 = true := by decide +kernel
def cX12_compared_4 : List rf_I := [(.istore_n 1, 1, 1, 0, 0, 0, 0), (.aload_n 0, 1, 0, 0, 0, 0, 0)]
theorem kX12_compared_4 : rf_ck MX12_compared 4 cX12_compared_4 = true := by decide +kernel
theorem qX12_compared_6 : rf_kc MX12_compared 6 116 1383 yX12_here 0 = true := by decide +kernel
def cX12_compared_9 : List rf_I := [(.istore_n 2, 1, 2, 0, 0, 0, 0), (.iload_n 2, 1, 2, 0, 0, 0, 0), (.bipush 60, 2, 0, 0, 0, nI 60, 0)]
theorem kX12_compared_9 : rf_ck MX12_compared 9 cX12_compared_9 = true := by decide +kernel
theorem bX12_compared_13 : rf_ckb MX12_compared 13 (.if_icmp .eq 17) 17 30 = true := by decide +kernel
def cX12_compared_16 : List rf_I := [(.iload_n 2, 1, 2, 0, 0, 0, 0), (.bipush 61, 2, 0, 0, 0, nI 61, 0)]
theorem kX12_compared_16 : rf_ck MX12_compared 16 cX12_compared_16 = true := by decide +kernel
theorem bX12_compared_19 : rf_ckb MX12_compared 19 (.if_icmp .eq 11) 11 30 = true := by decide +kernel
def cX12_compared_22 : List rf_I := [(.iload_n 2, 1, 2, 0, 0, 0, 0), (.bipush 62, 2, 0, 0, 0, nI 62, 0)]
theorem kX12_compared_22 : rf_ck MX12_compared 22 cX12_compared_22 = true := by decide +kernel
theorem bX12_compared_25 : rf_ckb MX12_compared 25 (.if_icmp .eq 5) 5 30 = true := by decide +kernel
def cX12_compared_28 : List rf_I := [(.iload_n 1, 1, 1, 0, 0, 0, 0)]
theorem kX12_compared_28 : rf_ck MX12_compared 28 cX12_compared_28 = true := by decide +kernel
theorem eX12_compared_29 : rf_cki MX12_compared 29 .ireturn = true := by decide +kernel
def cX12_compared_30 : List rf_I := [(.aload_n 0, 1, 0, 0, 0, 0, 0), (.dup, 1, 0, 0, 0, 0, 0), (.getfield 103, 3, 12, 5, 1189, 0, 0), (.iconst 1, 1, 0, 0, 0, nI 1, 0), (.iadd, 1, 0, 0, 0, 0, 0), (.putfield 103, 3, 12, 5, 1189, 0, 0), (.aload_n 0, 1, 0, 0, 0, 0, 0)]
theorem kX12_compared_30 : rf_ck MX12_compared 30 cX12_compared_30 = true := by decide +kernel
theorem qX12_compared_41 : rf_kc MX12_compared 41 133 1371 yX12_sum 0 = true := by decide +kernel
def cX12_compared_44 : List rf_I := [(.istore_n 3, 1, 3, 0, 0, 0, 0), (.iload_n 2, 1, 2, 0, 0, 0, 0), (.bipush 60, 2, 0, 0, 0, nI 60, 0)]
theorem kX12_compared_44 : rf_ck MX12_compared 44 cX12_compared_44 = true := by decide +kernel
theorem bX12_compared_48 : rf_ckb MX12_compared 48 (.if_icmp .ne 11) 11 59 = true := by decide +kernel
def cX12_compared_51 : List rf_I := [(.iload_n 1, 1, 1, 0, 0, 0, 0), (.iload_n 3, 1, 3, 0, 0, 0, 0)]
theorem kX12_compared_51 : rf_ck MX12_compared 51 cX12_compared_51 = true := by decide +kernel
theorem bX12_compared_53 : rf_ckb MX12_compared 53 (.if_icmp .ge 29) 29 82 = true := by decide +kernel
theorem bX12_compared_56 : rf_ckb MX12_compared 56 (.goto 22) 22 78 = true := by decide +kernel
def cX12_compared_59 : List rf_I := [(.iload_n 2, 1, 2, 0, 0, 0, 0), (.bipush 61, 2, 0, 0, 0, nI 61, 0)]
theorem kX12_compared_59 : rf_ck MX12_compared 59 cX12_compared_59 = true := by decide +kernel
theorem bX12_compared_62 : rf_ckb MX12_compared 62 (.if_icmp .ne 11) 11 73 = true := by decide +kernel
def cX12_compared_65 : List rf_I := [(.iload_n 1, 1, 1, 0, 0, 0, 0), (.iload_n 3, 1, 3, 0, 0, 0, 0)]
theorem kX12_compared_65 : rf_ck MX12_compared 65 cX12_compared_65 = true := by decide +kernel
theorem bX12_compared_67 : rf_ckb MX12_compared 67 (.if_icmp .ne 15) 15 82 = true := by decide +kernel
theorem bX12_compared_70 : rf_ckb MX12_compared 70 (.goto 8) 8 78 = true := by decide +kernel
def cX12_compared_73 : List rf_I := [(.iload_n 1, 1, 1, 0, 0, 0, 0), (.iload_n 3, 1, 3, 0, 0, 0, 0)]
theorem kX12_compared_73 : rf_ck MX12_compared 73 cX12_compared_73 = true := by decide +kernel
theorem bX12_compared_75 : rf_ckb MX12_compared 75 (.if_icmp .le 7) 7 82 = true := by decide +kernel
def cX12_compared_78 : List rf_I := [(.iconst 1, 1, 0, 0, 0, nI 1, 0)]
theorem kX12_compared_78 : rf_ck MX12_compared 78 cX12_compared_78 = true := by decide +kernel
theorem bX12_compared_79 : rf_ckb MX12_compared 79 (.goto 4) 4 83 = true := by decide +kernel
def cX12_compared_82 : List rf_I := [(.iconst 0, 1, 0, 0, 0, nI 0, 0)]
theorem kX12_compared_82 : rf_ck MX12_compared 82 cX12_compared_82 = true := by decide +kernel
theorem eX12_compared_83 : rf_cki MX12_compared 83 .ireturn = true := by decide +kernel
abbrev MX12_sum : rf_M := (yX12_sum, cX12_sum, 4, (some (.int)))
theorem mkX12_sum : rf_mk MX12_sum 0 0 1374 85 1373 37 = true := by decide +kernel
def cX12_sum_0 : List rf_I := [(.aload_n 0, 1, 0, 0, 0, 0, 0)]
theorem kX12_sum_0 : rf_ck MX12_sum 0 cX12_sum_0 = true := by decide +kernel
theorem qX12_sum_1 : rf_kc MX12_sum 1 136 1375 yX12_product 0 = true := by decide +kernel
def cX12_sum_4 : List rf_I := [(.istore_n 1, 1, 1, 0, 0, 0, 0)]
theorem kX12_sum_4 : rf_ck MX12_sum 4 cX12_sum_4 = true := by decide +kernel
def cX12_sum_5 : List rf_I := [(.aload_n 0, 1, 0, 0, 0, 0, 0)]
theorem kX12_sum_5 : rf_ck MX12_sum 5 cX12_sum_5 = true := by decide +kernel
theorem qX12_sum_6 : rf_kc MX12_sum 6 116 1383 yX12_here 0 = true := by decide +kernel
def cX12_sum_9 : List rf_I := [(.bipush 43, 2, 0, 0, 0, nI 43, 0)]
theorem kX12_sum_9 : rf_ck MX12_sum 9 cX12_sum_9 = true := by decide +kernel
theorem bX12_sum_11 : rf_ckb MX12_sum 11 (.if_icmp .eq 12) 12 23 = true := by decide +kernel
def cX12_sum_14 : List rf_I := [(.aload_n 0, 1, 0, 0, 0, 0, 0)]
theorem kX12_sum_14 : rf_ck MX12_sum 14 cX12_sum_14 = true := by decide +kernel
theorem qX12_sum_15 : rf_kc MX12_sum 15 116 1383 yX12_here 0 = true := by decide +kernel
def cX12_sum_18 : List rf_I := [(.bipush 45, 2, 0, 0, 0, nI 45, 0)]
theorem kX12_sum_18 : rf_ck MX12_sum 18 cX12_sum_18 = true := by decide +kernel
theorem bX12_sum_20 : rf_ckb MX12_sum 20 (.if_icmp .ne 42) 42 62 = true := by decide +kernel
def cX12_sum_23 : List rf_I := [(.aload_n 0, 1, 0, 0, 0, 0, 0)]
theorem kX12_sum_23 : rf_ck MX12_sum 23 cX12_sum_23 = true := by decide +kernel
theorem qX12_sum_24 : rf_kc MX12_sum 24 116 1383 yX12_here 0 = true := by decide +kernel
def cX12_sum_27 : List rf_I := [(.istore_n 2, 1, 2, 0, 0, 0, 0), (.aload_n 0, 1, 0, 0, 0, 0, 0), (.dup, 1, 0, 0, 0, 0, 0), (.getfield 103, 3, 12, 5, 1189, 0, 0), (.iconst 1, 1, 0, 0, 0, nI 1, 0), (.iadd, 1, 0, 0, 0, 0, 0), (.putfield 103, 3, 12, 5, 1189, 0, 0), (.aload_n 0, 1, 0, 0, 0, 0, 0)]
theorem kX12_sum_27 : rf_ck MX12_sum 27 cX12_sum_27 = true := by decide +kernel
theorem qX12_sum_39 : rf_kc MX12_sum 39 136 1375 yX12_product 0 = true := by decide +kernel
def cX12_sum_42 : List rf_I := [(.istore_n 3, 1, 3, 0, 0, 0, 0), (.iload_n 2, 1, 2, 0, 0, 0, 0), (.bipush 43, 2, 0, 0, 0, nI 43, 0)]
theorem kX12_sum_42 : rf_ck MX12_sum 42 cX12_sum_42 = true := by decide +kernel
theorem bX12_sum_46 : rf_ckb MX12_sum 46 (.if_icmp .ne 9) 9 55 = true := by decide +kernel
def cX12_sum_49 : List rf_I := [(.iload_n 1, 1, 1, 0, 0, 0, 0), (.iload_n 3, 1, 3, 0, 0, 0, 0), (.iadd, 1, 0, 0, 0, 0, 0)]
theorem kX12_sum_49 : rf_ck MX12_sum 49 cX12_sum_49 = true := by decide +kernel
theorem bX12_sum_52 : rf_ckb MX12_sum 52 (.goto 6) 6 58 = true := by decide +kernel
def cX12_sum_55 : List rf_I := [(.iload_n 1, 1, 1, 0, 0, 0, 0), (.iload_n 3, 1, 3, 0, 0, 0, 0), (.isub, 1, 0, 0, 0, 0, 0)]
theorem kX12_sum_55 : rf_ck MX12_sum 55 cX12_sum_55 = true := by decide +kernel
def cX12_sum_58 : List rf_I := [(.istore_n 1, 1, 1, 0, 0, 0, 0)]
theorem kX12_sum_58 : rf_ck MX12_sum 58 cX12_sum_58 = true := by decide +kernel
theorem bX12_sum_59 : rf_ckb MX12_sum 59 (.goto (-54)) (-54) 5 = true := by decide +kernel
def cX12_sum_62 : List rf_I := [(.iload_n 1, 1, 1, 0, 0, 0, 0)]
theorem kX12_sum_62 : rf_ck MX12_sum 62 cX12_sum_62 = true := by decide +kernel
theorem eX12_sum_63 : rf_cki MX12_sum 63 .ireturn = true := by decide +kernel
abbrev MX12_product : rf_M := (yX12_product, cX12_product, 4, (some (.int)))
theorem mkX12_product : rf_mk MX12_product 0 0 1378 85 1377 38 = true := by decide +kernel
def cX12_product_0 : List rf_I := [(.aload_n 0, 1, 0, 0, 0, 0, 0)]
theorem kX12_product_0 : rf_ck MX12_product 0 cX12_product_0 = true := by decide +kernel
theorem qX12_product_1 : rf_kc MX12_product 1 139 1379 yX12_unit 0 = true := by decide +kernel
def cX12_product_4 : List rf_I := [(.istore_n 1, 1, 1, 0, 0, 0, 0)]
theorem kX12_product_4 : rf_ck MX12_product 4 cX12_product_4 = true := by decide +kernel
def cX12_product_5 : List rf_I := [(.aload_n 0, 1, 0, 0, 0, 0, 0)]
theorem kX12_product_5 : rf_ck MX12_product 5 cX12_product_5 = true := by decide +kernel
theorem qX12_product_6 : rf_kc MX12_product 6 116 1383 yX12_here 0 = true := by decide +kernel
def cX12_product_9 : List rf_I := [(.bipush 42, 2, 0, 0, 0, nI 42, 0)]
theorem kX12_product_9 : rf_ck MX12_product 9 cX12_product_9 = true := by decide +kernel
theorem bX12_product_11 : rf_ckb MX12_product 11 (.if_icmp .eq 21) 21 32 = true := by decide +kernel
def cX12_product_14 : List rf_I := [(.aload_n 0, 1, 0, 0, 0, 0, 0)]
theorem kX12_product_14 : rf_ck MX12_product 14 cX12_product_14 = true := by decide +kernel
theorem qX12_product_15 : rf_kc MX12_product 15 116 1383 yX12_here 0 = true := by decide +kernel
def cX12_product_18 : List rf_I := [(.bipush 47, 2, 0, 0, 0, nI 47, 0)]
theorem kX12_product_18 : rf_ck MX12_product 18 cX12_product_18 = true := by decide +kernel
theorem bX12_product_20 : rf_ckb MX12_product 20 (.if_icmp .eq 12) 12 32 = true := by decide +kernel
def cX12_product_23 : List rf_I := [(.aload_n 0, 1, 0, 0, 0, 0, 0)]
theorem kX12_product_23 : rf_ck MX12_product 23 cX12_product_23 = true := by decide +kernel
theorem qX12_product_24 : rf_kc MX12_product 24 116 1383 yX12_here 0 = true := by decide +kernel
def cX12_product_27 : List rf_I := [(.bipush 37, 2, 0, 0, 0, nI 37, 0)]
theorem kX12_product_27 : rf_ck MX12_product 27 cX12_product_27 = true := by decide +kernel
theorem bX12_product_29 : rf_ckb MX12_product 29 (.if_icmp .ne 62) 62 91 = true := by decide +kernel
def cX12_product_32 : List rf_I := [(.aload_n 0, 1, 0, 0, 0, 0, 0)]
theorem kX12_product_32 : rf_ck MX12_product 32 cX12_product_32 = true := by decide +kernel
theorem qX12_product_33 : rf_kc MX12_product 33 116 1383 yX12_here 0 = true := by decide +kernel
def cX12_product_36 : List rf_I := [(.istore_n 2, 1, 2, 0, 0, 0, 0), (.aload_n 0, 1, 0, 0, 0, 0, 0), (.dup, 1, 0, 0, 0, 0, 0), (.getfield 103, 3, 12, 5, 1189, 0, 0), (.iconst 1, 1, 0, 0, 0, nI 1, 0), (.iadd, 1, 0, 0, 0, 0, 0), (.putfield 103, 3, 12, 5, 1189, 0, 0), (.aload_n 0, 1, 0, 0, 0, 0, 0)]
theorem kX12_product_36 : rf_ck MX12_product 36 cX12_product_36 = true := by decide +kernel
theorem qX12_product_48 : rf_kc MX12_product 48 139 1379 yX12_unit 0 = true := by decide +kernel
def cX12_product_51 : List rf_I := [(.istore_n 3, 1, 3, 0, 0, 0, 0), (.iload_n 2, 1, 2, 0, 0, 0, 0), (.bipush 42, 2, 0, 0, 0, nI 42, 0)]
theorem kX12_product_51 : rf_ck MX12_product 51 cX12_product_51 = true := by decide +kernel
theorem bX12_product_55 : rf_ckb MX12_product 55 (.if_icmp .ne 9) 9 64 = true := by decide +kernel
def cX12_product_58 : List rf_I := [(.iload_n 1, 1, 1, 0, 0, 0, 0), (.iload_n 3, 1, 3, 0, 0, 0, 0), (.imul, 1, 0, 0, 0, 0, 0)]
theorem kX12_product_58 : rf_ck MX12_product 58 cX12_product_58 = true := by decide +kernel
theorem bX12_product_61 : rf_ckb MX12_product 61 (.goto 26) 26 87 = true := by decide +kernel
def cX12_product_64 : List rf_I := [(.iload_n 3, 1, 3, 0, 0, 0, 0)]
theorem kX12_product_64 : rf_ck MX12_product 64 cX12_product_64 = true := by decide +kernel
theorem bX12_product_65 : rf_ckb MX12_product 65 (.ifCond .ne 7) 7 72 = true := by decide +kernel
def cX12_product_68 : List rf_I := [(.iconst 0, 1, 0, 0, 0, nI 0, 0)]
theorem kX12_product_68 : rf_ck MX12_product 68 cX12_product_68 = true := by decide +kernel
theorem bX12_product_69 : rf_ckb MX12_product 69 (.goto 18) 18 87 = true := by decide +kernel
def cX12_product_72 : List rf_I := [(.iload_n 2, 1, 2, 0, 0, 0, 0), (.bipush 47, 2, 0, 0, 0, nI 47, 0)]
theorem kX12_product_72 : rf_ck MX12_product 72 cX12_product_72 = true := by decide +kernel
theorem bX12_product_75 : rf_ckb MX12_product 75 (.if_icmp .ne 9) 9 84 = true := by decide +kernel
def cX12_product_78 : List rf_I := [(.iload_n 1, 1, 1, 0, 0, 0, 0), (.iload_n 3, 1, 3, 0, 0, 0, 0), (.idiv, 1, 0, 0, 0, 0, 0)]
theorem kX12_product_78 : rf_ck MX12_product 78 cX12_product_78 = true := by decide +kernel
theorem bX12_product_81 : rf_ckb MX12_product 81 (.goto 6) 6 87 = true := by decide +kernel
def cX12_product_84 : List rf_I := [(.iload_n 1, 1, 1, 0, 0, 0, 0), (.iload_n 3, 1, 3, 0, 0, 0, 0), (.irem, 1, 0, 0, 0, 0, 0)]
theorem kX12_product_84 : rf_ck MX12_product 84 cX12_product_84 = true := by decide +kernel
def cX12_product_87 : List rf_I := [(.istore_n 1, 1, 1, 0, 0, 0, 0)]
theorem kX12_product_87 : rf_ck MX12_product 87 cX12_product_87 = true := by decide +kernel
theorem bX12_product_88 : rf_ckb MX12_product 88 (.goto (-83)) (-83) 5 = true := by decide +kernel
def cX12_product_91 : List rf_I := [(.iload_n 1, 1, 1, 0, 0, 0, 0)]
theorem kX12_product_91 : rf_ck MX12_product 91 cX12_product_91 = true := by decide +kernel
theorem eX12_product_92 : rf_cki MX12_product 92 .ireturn = true := by decide +kernel
abbrev MX12_unit : rf_M := (yX12_unit, cX12_unit, 5, (some (.int)))
theorem mkX12_unit : rf_mk MX12_unit 0 0 1382 85 1381 39 = true := by decide +kernel
def cX12_unit_0 : List rf_I := [(.aload_n 0, 1, 0, 0, 0, 0, 0)]
theorem kX12_unit_0 : rf_ck MX12_unit 0 cX12_unit_0 = true := by decide +kernel
theorem qX12_unit_1 : rf_kc MX12_unit 1 116 1383 yX12_here 0 = true := by decide +kernel
def cX12_unit_4 : List rf_I := [(.istore_n 1, 1, 1, 0, 0, 0, 0), (.iload_n 1, 1, 1, 0, 0, 0, 0), (.bipush 33, 2, 0, 0, 0, nI 33, 0)]
theorem kX12_unit_4 : rf_ck MX12_unit 4 cX12_unit_4 = true := by decide +kernel
theorem bX12_unit_8 : rf_ckb MX12_unit 8 (.if_icmp .eq 9) 9 17 = true := by decide +kernel
def cX12_unit_11 : List rf_I := [(.iload_n 1, 1, 1, 0, 0, 0, 0), (.bipush 40, 2, 0, 0, 0, nI 40, 0)]
theorem kX12_unit_11 : rf_ck MX12_unit 11 cX12_unit_11 = true := by decide +kernel
theorem bX12_unit_14 : rf_ckb MX12_unit 14 (.if_icmp .ne 104) 104 118 = true := by decide +kernel
def cX12_unit_17 : List rf_I := [(.aload_n 0, 1, 0, 0, 0, 0, 0), (.getfield 142, 3, 12, 8, 1192, 0, 0), (.iconst 5, 1, 0, 0, 0, nI 5, 0)]
theorem kX12_unit_17 : rf_ck MX12_unit 17 cX12_unit_17 = true := by decide +kernel
theorem bX12_unit_22 : rf_ckb MX12_unit 22 (.if_icmp .ne 8) 8 30 = true := by decide +kernel
def cX12_unit_25 : List rf_I := [(.aload_n 0, 1, 0, 0, 0, 0, 0)]
theorem kX12_unit_25 : rf_ck MX12_unit 25 cX12_unit_25 = true := by decide +kernel
theorem qX12_unit_26 : rf_kc MX12_unit 26 145 1387 yX12_wrong 0 = true := by decide +kernel
theorem eX12_unit_29 : rf_cki MX12_unit 29 .ireturn = true := by decide +kernel
def cX12_unit_30 : List rf_I := [(.aload_n 0, 1, 0, 0, 0, 0, 0), (.dup, 1, 0, 0, 0, 0, 0), (.getfield 142, 3, 12, 8, 1192, 0, 0), (.iconst 1, 1, 0, 0, 0, nI 1, 0), (.iadd, 1, 0, 0, 0, 0, 0), (.putfield 142, 3, 12, 8, 1192, 0, 0), (.aload_n 0, 1, 0, 0, 0, 0, 0), (.dup, 1, 0, 0, 0, 0, 0), (.getfield 103, 3, 12, 5, 1189, 0, 0), (.iconst 1, 1, 0, 0, 0, nI 1, 0), (.iadd, 1, 0, 0, 0, 0, 0), (.putfield 103, 3, 12, 5, 1189, 0, 0), (.iload_n 1, 1, 1, 0, 0, 0, 0), (.bipush 40, 2, 0, 0, 0, nI 40, 0)]
theorem kX12_unit_30 : rf_ck MX12_unit 30 cX12_unit_30 = true := by decide +kernel
theorem bX12_unit_53 : rf_ckb MX12_unit 53 (.if_icmp .ne 10) 10 63 = true := by decide +kernel
def cX12_unit_56 : List rf_I := [(.aload_n 0, 1, 0, 0, 0, 0, 0)]
theorem kX12_unit_56 : rf_ck MX12_unit 56 cX12_unit_56 = true := by decide +kernel
theorem qX12_unit_57 : rf_kc MX12_unit 57 148 1359 yX12_either 0 = true := by decide +kernel
theorem bX12_unit_60 : rf_ckb MX12_unit 60 (.goto 7) 7 67 = true := by decide +kernel
def cX12_unit_63 : List rf_I := [(.aload_n 0, 1, 0, 0, 0, 0, 0)]
theorem kX12_unit_63 : rf_ck MX12_unit 63 cX12_unit_63 = true := by decide +kernel
theorem qX12_unit_64 : rf_kc MX12_unit 64 139 1379 yX12_unit 0 = true := by decide +kernel
def cX12_unit_67 : List rf_I := [(.istore_n 2, 1, 2, 0, 0, 0, 0), (.iload_n 1, 1, 1, 0, 0, 0, 0), (.bipush 40, 2, 0, 0, 0, nI 40, 0)]
theorem kX12_unit_67 : rf_ck MX12_unit 67 cX12_unit_67 = true := by decide +kernel
theorem bX12_unit_71 : rf_ckb MX12_unit 71 (.if_icmp .ne 17) 17 88 = true := by decide +kernel
def cX12_unit_74 : List rf_I := [(.aload_n 0, 1, 0, 0, 0, 0, 0), (.bipush 41, 2, 0, 0, 0, nI 41, 0)]
theorem kX12_unit_74 : rf_ck MX12_unit 74 cX12_unit_74 = true := by decide +kernel
theorem qX12_unit_77 : rf_kc MX12_unit 77 127 1391 yX12_takes 0 = true := by decide +kernel
theorem bX12_unit_80 : rf_ckb MX12_unit 80 (.ifCond .ne 8) 8 88 = true := by decide +kernel
def cX12_unit_83 : List rf_I := [(.aload_n 0, 1, 0, 0, 0, 0, 0)]
theorem kX12_unit_83 : rf_ck MX12_unit 83 cX12_unit_83 = true := by decide +kernel
theorem qX12_unit_84 : rf_kc MX12_unit 84 145 1387 yX12_wrong 0 = true := by decide +kernel
theorem eX12_unit_87 : rf_cki MX12_unit 87 .ireturn = true := by decide +kernel
def cX12_unit_88 : List rf_I := [(.aload_n 0, 1, 0, 0, 0, 0, 0), (.dup, 1, 0, 0, 0, 0, 0), (.getfield 142, 3, 12, 8, 1192, 0, 0), (.iconst 1, 1, 0, 0, 0, nI 1, 0), (.isub, 1, 0, 0, 0, 0, 0), (.putfield 142, 3, 12, 8, 1192, 0, 0), (.iload_n 1, 1, 1, 0, 0, 0, 0), (.bipush 40, 2, 0, 0, 0, nI 40, 0)]
theorem kX12_unit_88 : rf_ck MX12_unit 88 cX12_unit_88 = true := by decide +kernel
theorem bX12_unit_101 : rf_ckb MX12_unit 101 (.if_icmp .ne 7) 7 108 = true := by decide +kernel
def cX12_unit_104 : List rf_I := [(.iload_n 2, 1, 2, 0, 0, 0, 0)]
theorem kX12_unit_104 : rf_ck MX12_unit 104 cX12_unit_104 = true := by decide +kernel
theorem bX12_unit_105 : rf_ckb MX12_unit 105 (.goto 12) 12 117 = true := by decide +kernel
def cX12_unit_108 : List rf_I := [(.iload_n 2, 1, 2, 0, 0, 0, 0)]
theorem kX12_unit_108 : rf_ck MX12_unit 108 cX12_unit_108 = true := by decide +kernel
theorem bX12_unit_109 : rf_ckb MX12_unit 109 (.ifCond .ne 7) 7 116 = true := by decide +kernel
def cX12_unit_112 : List rf_I := [(.iconst 1, 1, 0, 0, 0, nI 1, 0)]
theorem kX12_unit_112 : rf_ck MX12_unit 112 cX12_unit_112 = true := by decide +kernel
theorem bX12_unit_113 : rf_ckb MX12_unit 113 (.goto 4) 4 117 = true := by decide +kernel
def cX12_unit_116 : List rf_I := [(.iconst 0, 1, 0, 0, 0, nI 0, 0)]
theorem kX12_unit_116 : rf_ck MX12_unit 116 cX12_unit_116 = true := by decide +kernel
theorem eX12_unit_117 : rf_cki MX12_unit 117 .ireturn = true := by decide +kernel
def cX12_unit_118 : List rf_I := [(.aload_n 0, 1, 0, 0, 0, 0, 0), (.iload_n 1, 1, 1, 0, 0, 0, 0)]
theorem kX12_unit_118 : rf_ck MX12_unit 118 cX12_unit_118 = true := by decide +kernel
theorem qX12_unit_120 : rf_kc MX12_unit 120 151 1395 yX12_nameOf 0 = true := by decide +kernel
def cX12_unit_123 : List rf_I := [(.istore_n 2, 1, 2, 0, 0, 0, 0), (.iload_n 2, 1, 2, 0, 0, 0, 0)]
theorem kX12_unit_123 : rf_ck MX12_unit 123 cX12_unit_123 = true := by decide +kernel
theorem bX12_unit_125 : rf_ckb MX12_unit 125 (.ifCond .lt 20) 20 145 = true := by decide +kernel
def cX12_unit_128 : List rf_I := [(.aload_n 0, 1, 0, 0, 0, 0, 0), (.dup, 1, 0, 0, 0, 0, 0), (.getfield 103, 3, 12, 5, 1189, 0, 0), (.iconst 1, 1, 0, 0, 0, nI 1, 0), (.iadd, 1, 0, 0, 0, 0, 0), (.putfield 103, 3, 12, 5, 1189, 0, 0), (.aload_n 0, 1, 0, 0, 0, 0, 0), (.getfield 19, 3, 12, 10, 1194, 0, 0), (.iload_n 2, 1, 2, 0, 0, 0, 0), (.iaload, 1, 0, 0, 0, 0, 0)]
theorem kX12_unit_128 : rf_ck MX12_unit 128 cX12_unit_128 = true := by decide +kernel
theorem eX12_unit_144 : rf_cki MX12_unit 144 .ireturn = true := by decide +kernel
def cX12_unit_145 : List rf_I := [(.iconst 0, 1, 0, 0, 0, nI 0, 0), (.istore_n 3, 1, 3, 0, 0, 0, 0), (.iconst 0, 1, 0, 0, 0, nI 0, 0), (.istore 4, 2, 4, 0, 0, 0, 0)]
theorem kX12_unit_145 : rf_ck MX12_unit 145 cX12_unit_145 = true := by decide +kernel
def cX12_unit_150 : List rf_I := [(.iload 4, 2, 4, 0, 0, 0, 0), (.iconst 4, 1, 0, 0, 0, nI 4, 0)]
theorem kX12_unit_150 : rf_ck MX12_unit 150 cX12_unit_150 = true := by decide +kernel
theorem bX12_unit_153 : rf_ckb MX12_unit 153 (.if_icmp .ge 49) 49 202 = true := by decide +kernel
def cX12_unit_156 : List rf_I := [(.aload_n 0, 1, 0, 0, 0, 0, 0)]
theorem kX12_unit_156 : rf_ck MX12_unit 156 cX12_unit_156 = true := by decide +kernel
theorem qX12_unit_157 : rf_kc MX12_unit 157 116 1383 yX12_here 0 = true := by decide +kernel
def cX12_unit_160 : List rf_I := [(.i2l, 1, 0, 0, 0, 0, 0), (.ldc2_w 154, 3, 0, 0, 1399, 0, lN 48), (.ldc2_w 156, 3, 0, 0, 1400, 0, lN 57)]
theorem kX12_unit_160 : rf_ck MX12_unit 160 cX12_unit_160 = true := by decide +kernel
theorem qX12_unit_167 : rf_kc MX12_unit 167 51 1278 yX12_in 1 = true := by decide +kernel
theorem bX12_unit_170 : rf_ckb MX12_unit 170 (.ifCond .eq 32) 32 202 = true := by decide +kernel
def cX12_unit_173 : List rf_I := [(.bipush 10, 2, 0, 0, 0, nI 10, 0), (.iload_n 3, 1, 3, 0, 0, 0, 0), (.imul, 1, 0, 0, 0, 0, 0), (.aload_n 0, 1, 0, 0, 0, 0, 0)]
theorem kX12_unit_173 : rf_ck MX12_unit 173 cX12_unit_173 = true := by decide +kernel
theorem qX12_unit_178 : rf_kc MX12_unit 178 116 1383 yX12_here 0 = true := by decide +kernel
def cX12_unit_181 : List rf_I := [(.iadd, 1, 0, 0, 0, 0, 0), (.bipush 48, 2, 0, 0, 0, nI 48, 0), (.isub, 1, 0, 0, 0, 0, 0), (.istore_n 3, 1, 3, 0, 0, 0, 0), (.aload_n 0, 1, 0, 0, 0, 0, 0), (.dup, 1, 0, 0, 0, 0, 0), (.getfield 103, 3, 12, 5, 1189, 0, 0), (.iconst 1, 1, 0, 0, 0, nI 1, 0), (.iadd, 1, 0, 0, 0, 0, 0), (.putfield 103, 3, 12, 5, 1189, 0, 0), (.iinc 4 1, 3, 4, 0, 0, nI 1, 0)]
theorem kX12_unit_181 : rf_ck MX12_unit 181 cX12_unit_181 = true := by decide +kernel
theorem bX12_unit_199 : rf_ckb MX12_unit 199 (.goto (-49)) (-49) 150 = true := by decide +kernel
def cX12_unit_202 : List rf_I := [(.iload 4, 2, 4, 0, 0, 0, 0)]
theorem kX12_unit_202 : rf_ck MX12_unit 202 cX12_unit_202 = true := by decide +kernel
theorem bX12_unit_204 : rf_ckb MX12_unit 204 (.ifCond .ne 10) 10 214 = true := by decide +kernel
def cX12_unit_207 : List rf_I := [(.aload_n 0, 1, 0, 0, 0, 0, 0)]
theorem kX12_unit_207 : rf_ck MX12_unit 207 cX12_unit_207 = true := by decide +kernel
theorem qX12_unit_208 : rf_kc MX12_unit 208 145 1387 yX12_wrong 0 = true := by decide +kernel
theorem bX12_unit_211 : rf_ckb MX12_unit 211 (.goto 4) 4 215 = true := by decide +kernel
def cX12_unit_214 : List rf_I := [(.iload_n 3, 1, 3, 0, 0, 0, 0)]
theorem kX12_unit_214 : rf_ck MX12_unit 214 cX12_unit_214 = true := by decide +kernel
theorem eX12_unit_215 : rf_cki MX12_unit 215 .ireturn = true := by decide +kernel
abbrev MX12_worked : rf_M := (yX12_worked, cX12_worked, 5, (some (.int)))
theorem mkX12_worked : rf_mk MX12_worked 0 3 1358 85 1357 33 = true := by decide +kernel
def cX12_worked_0 : List rf_I := [(.aload_n 0, 1, 0, 0, 0, 0, 0), (.iload_n 1, 1, 1, 0, 0, 0, 0), (.putfield 113, 3, 12, 4, 1188, 0, 0), (.aload_n 0, 1, 0, 0, 0, 0, 0), (.iconst 0, 1, 0, 0, 0, nI 0, 0), (.putfield 103, 3, 12, 5, 1189, 0, 0), (.aload_n 0, 1, 0, 0, 0, 0, 0), (.iload_n 2, 1, 2, 0, 0, 0, 0), (.putfield 107, 3, 12, 6, 1190, 0, 0), (.aload_n 0, 1, 0, 0, 0, 0, 0), (.iconst (-1), 1, 0, 0, 0, (-1), 0), (.putfield 110, 3, 12, 7, 1191, 0, 0), (.aload_n 0, 1, 0, 0, 0, 0, 0), (.iconst 0, 1, 0, 0, 0, nI 0, 0), (.putfield 142, 3, 12, 8, 1192, 0, 0), (.aload_n 0, 1, 0, 0, 0, 0, 0), (.iload_n 3, 1, 3, 0, 0, 0, 0), (.iconst 1, 1, 0, 0, 0, nI 1, 0)]
theorem kX12_worked_0 : rf_ck MX12_worked 0 cX12_worked_0 = true := by decide +kernel
theorem bX12_worked_28 : rf_ckb MX12_worked 28 (.if_icmp .ne 7) 7 35 = true := by decide +kernel
def cX12_worked_31 : List rf_I := [(.iconst 1, 1, 0, 0, 0, nI 1, 0)]
theorem kX12_worked_31 : rf_ck MX12_worked 31 cX12_worked_31 = true := by decide +kernel
theorem bX12_worked_32 : rf_ckb MX12_worked 32 (.goto 4) 4 36 = true := by decide +kernel
def cX12_worked_35 : List rf_I := [(.iconst 0, 1, 0, 0, 0, nI 0, 0)]
theorem kX12_worked_35 : rf_ck MX12_worked 35 cX12_worked_35 = true := by decide +kernel
def cX12_worked_36 : List rf_I := [(.putfield 120, 3, 12, 9, 1193, 0, 0), (.aload_n 0, 1, 0, 0, 0, 0, 0)]
theorem kX12_worked_36 : rf_ck MX12_worked 36 cX12_worked_36 = true := by decide +kernel
theorem qX12_worked_40 : rf_kc MX12_worked 40 148 1359 yX12_either 0 = true := by decide +kernel
def cX12_worked_43 : List rf_I := [(.istore 4, 2, 4, 0, 0, 0, 0), (.aload_n 0, 1, 0, 0, 0, 0, 0), (.getfield 110, 3, 12, 7, 1191, 0, 0)]
theorem kX12_worked_43 : rf_ck MX12_worked 43 cX12_worked_43 = true := by decide +kernel
theorem bX12_worked_49 : rf_ckb MX12_worked 49 (.ifCond .ge 19) 19 68 = true := by decide +kernel
def cX12_worked_52 : List rf_I := [(.aload_n 0, 1, 0, 0, 0, 0, 0), (.getfield 103, 3, 12, 5, 1189, 0, 0), (.aload_n 0, 1, 0, 0, 0, 0, 0), (.getfield 107, 3, 12, 6, 1190, 0, 0)]
theorem kX12_worked_52 : rf_ck MX12_worked 52 cX12_worked_52 = true := by decide +kernel
theorem bX12_worked_60 : rf_ckb MX12_worked 60 (.if_icmp .ge 8) 8 68 = true := by decide +kernel
def cX12_worked_63 : List rf_I := [(.aload_n 0, 1, 0, 0, 0, 0, 0)]
theorem kX12_worked_63 : rf_ck MX12_worked 63 cX12_worked_63 = true := by decide +kernel
theorem qX12_worked_64 : rf_kc MX12_worked 64 145 1387 yX12_wrong 0 = true := by decide +kernel
theorem eX12_worked_67 : rf_cki MX12_worked 67 .ireturn = true := by decide +kernel
def cX12_worked_68 : List rf_I := [(.iload 4, 2, 4, 0, 0, 0, 0)]
theorem kX12_worked_68 : rf_ck MX12_worked 68 cX12_worked_68 = true := by decide +kernel
theorem eX12_worked_70 : rf_cki MX12_worked 70 .ireturn = true := by decide +kernel
abbrev MX12_feed : rf_M := (yX12_feed, cX12_feed, 5, (some (.int)))
theorem mkX12_feed : rf_mk MX12_feed 0 2 1348 85 1346 1347 = true := by decide +kernel
def cX12_feed_0 : List rf_I := [(.iload_n 3, 1, 3, 0, 0, 0, 0), (.i2l, 1, 0, 0, 0, 0, 0), (.lconst 1, 1, 0, 0, 0, 0, lN 1), (.ldc2_w 158, 3, 0, 0, 1349, 0, lN 8)]
theorem kX12_feed_0 : rf_ck MX12_feed 0 cX12_feed_0 = true := by decide +kernel
theorem qX12_feed_6 : rf_kc MX12_feed 6 51 1278 yX12_in 1 = true := by decide +kernel
theorem bX12_feed_9 : rf_ckb MX12_feed 9 (.ifCond .ne 9) 9 18 = true := by decide +kernel
def cX12_feed_12 : List rf_I := [(.aload_n 0, 1, 0, 0, 0, 0, 0), (.iconst 1, 1, 0, 0, 0, nI 1, 0)]
theorem kX12_feed_12 : rf_ck MX12_feed 12 cX12_feed_12 = true := by decide +kernel
theorem qX12_feed_14 : rf_kc MX12_feed 14 59 1261 yX12_finds 0 = true := by decide +kernel
theorem eX12_feed_17 : rf_cki MX12_feed 17 .ireturn = true := by decide +kernel
def cX12_feed_18 : List rf_I := [(.aload_n 0, 1, 0, 0, 0, 0, 0), (.getfield 7, 3, 12, 0, 1184, 0, 0), (.bipush 11, 2, 0, 0, 0, nI 11, 0), (.iaload, 1, 0, 0, 0, 0, 0), (.iload_n 3, 1, 3, 0, 0, 0, 0), (.iadd, 1, 0, 0, 0, 0, 0), (.bipush 50, 2, 0, 0, 0, nI 50, 0)]
theorem kX12_feed_18 : rf_ck MX12_feed 18 cX12_feed_18 = true := by decide +kernel
theorem bX12_feed_29 : rf_ckb MX12_feed 29 (.if_icmp .le 9) 9 38 = true := by decide +kernel
def cX12_feed_32 : List rf_I := [(.aload_n 0, 1, 0, 0, 0, 0, 0), (.iconst 4, 1, 0, 0, 0, nI 4, 0)]
theorem kX12_feed_32 : rf_ck MX12_feed 32 cX12_feed_32 = true := by decide +kernel
theorem qX12_feed_34 : rf_kc MX12_feed 34 59 1261 yX12_finds 0 = true := by decide +kernel
theorem eX12_feed_37 : rf_cki MX12_feed 37 .ireturn = true := by decide +kernel
def cX12_feed_38 : List rf_I := [(.iconst 0, 1, 0, 0, 0, nI 0, 0), (.istore 4, 2, 4, 0, 0, 0, 0)]
theorem kX12_feed_38 : rf_ck MX12_feed 38 cX12_feed_38 = true := by decide +kernel
def cX12_feed_41 : List rf_I := [(.iload 4, 2, 4, 0, 0, 0, 0), (.iload_n 3, 1, 3, 0, 0, 0, 0)]
theorem kX12_feed_41 : rf_ck MX12_feed 41 cX12_feed_41 = true := by decide +kernel
theorem bX12_feed_44 : rf_ckb MX12_feed 44 (.if_icmp .ge 48) 48 92 = true := by decide +kernel
def cX12_feed_47 : List rf_I := [(.aload_n 0, 1, 0, 0, 0, 0, 0), (.getfield 7, 3, 12, 0, 1184, 0, 0), (.sipush 630, 3, 0, 0, 0, nI 630, 0), (.aload_n 0, 1, 0, 0, 0, 0, 0), (.getfield 7, 3, 12, 0, 1184, 0, 0), (.bipush 11, 2, 0, 0, 0, nI 11, 0), (.iaload, 1, 0, 0, 0, 0, 0), (.iadd, 1, 0, 0, 0, 0, 0), (.lload_n 1, 1, 1, 0, 0, 0, 0), (.bipush 8, 2, 0, 0, 0, nI 8, 0), (.iload 4, 2, 4, 0, 0, 0, 0), (.imul, 1, 0, 0, 0, 0, 0), (.lshr, 1, 0, 0, 0, 0, 0), (.ldc2_w 160, 3, 0, 0, 1350, 0, lN 255), (.land, 1, 0, 0, 0, 0, 0), (.l2i, 1, 0, 0, 0, 0, 0), (.iastore, 1, 0, 0, 0, 0, 0), (.aload_n 0, 1, 0, 0, 0, 0, 0), (.getfield 7, 3, 12, 0, 1184, 0, 0), (.bipush 11, 2, 0, 0, 0, nI 11, 0), (.dup2, 1, 0, 0, 0, 0, 0), (.iaload, 1, 0, 0, 0, 0, 0), (.iconst 1, 1, 0, 0, 0, nI 1, 0), (.iadd, 1, 0, 0, 0, 0, 0), (.iastore, 1, 0, 0, 0, 0, 0), (.iinc 4 1, 3, 4, 0, 0, nI 1, 0)]
theorem kX12_feed_47 : rf_ck MX12_feed 47 cX12_feed_47 = true := by decide +kernel
theorem bX12_feed_89 : rf_ckb MX12_feed 89 (.goto (-48)) (-48) 41 = true := by decide +kernel
def cX12_feed_92 : List rf_I := [(.aload_n 0, 1, 0, 0, 0, 0, 0), (.getfield 7, 3, 12, 0, 1184, 0, 0), (.bipush 11, 2, 0, 0, 0, nI 11, 0), (.iaload, 1, 0, 0, 0, 0, 0)]
theorem kX12_feed_92 : rf_ck MX12_feed 92 cX12_feed_92 = true := by decide +kernel
theorem eX12_feed_99 : rf_cki MX12_feed 99 .ireturn = true := by decide +kernel
abbrev MX12_text : rf_M := (yX12_text, cX12_text, 5, (some (.int)))
theorem mkX12_text : rf_mk MX12_text 0 1 1354 85 1352 1353 = true := by decide +kernel
def cX12_text_0 : List rf_I := [(.iload_n 1, 1, 1, 0, 0, 0, 0), (.i2l, 1, 0, 0, 0, 0, 0), (.lconst 0, 1, 0, 0, 0, 0, lN 0), (.lconst 1, 1, 0, 0, 0, 0, lN 1)]
theorem kX12_text_0 : rf_ck MX12_text 0 cX12_text_0 = true := by decide +kernel
theorem qX12_text_4 : rf_kc MX12_text 4 51 1278 yX12_in 1 = true := by decide +kernel
theorem bX12_text_7 : rf_ckb MX12_text 7 (.ifCond .ne 9) 9 16 = true := by decide +kernel
def cX12_text_10 : List rf_I := [(.aload_n 0, 1, 0, 0, 0, 0, 0), (.iconst 1, 1, 0, 0, 0, nI 1, 0)]
theorem kX12_text_10 : rf_ck MX12_text 10 cX12_text_10 = true := by decide +kernel
theorem qX12_text_12 : rf_kc MX12_text 12 59 1261 yX12_finds 0 = true := by decide +kernel
theorem eX12_text_15 : rf_cki MX12_text 15 .ireturn = true := by decide +kernel
def cX12_text_16 : List rf_I := [(.aload_n 0, 1, 0, 0, 0, 0, 0), (.getfield 7, 3, 12, 0, 1184, 0, 0), (.bipush 11, 2, 0, 0, 0, nI 11, 0), (.iaload, 1, 0, 0, 0, 0, 0), (.istore_n 2, 1, 2, 0, 0, 0, 0), (.aload_n 0, 1, 0, 0, 0, 0, 0), (.getfield 7, 3, 12, 0, 1184, 0, 0), (.bipush 11, 2, 0, 0, 0, nI 11, 0), (.iconst 0, 1, 0, 0, 0, nI 0, 0), (.iastore, 1, 0, 0, 0, 0, 0), (.aload_n 0, 1, 0, 0, 0, 0, 0), (.sipush 630, 3, 0, 0, 0, nI 630, 0), (.iload_n 2, 1, 2, 0, 0, 0, 0), (.iload_n 1, 1, 1, 0, 0, 0, 0)]
theorem kX12_text_16 : rf_ck MX12_text 16 cX12_text_16 = true := by decide +kernel
theorem qX12_text_38 : rf_kc MX12_text 38 162 1355 yX12_worked 0 = true := by decide +kernel
def cX12_text_41 : List rf_I := [(.istore_n 3, 1, 3, 0, 0, 0, 0), (.aload_n 0, 1, 0, 0, 0, 0, 0), (.getfield 110, 3, 12, 7, 1191, 0, 0)]
theorem kX12_text_41 : rf_ck MX12_text 41 cX12_text_41 = true := by decide +kernel
theorem bX12_text_46 : rf_ckb MX12_text 46 (.ifCond .lt 11) 11 57 = true := by decide +kernel
def cX12_text_49 : List rf_I := [(.bipush (-10), 2, 0, 0, 0, (-10), 0), (.aload_n 0, 1, 0, 0, 0, 0, 0), (.getfield 110, 3, 12, 7, 1191, 0, 0), (.isub, 1, 0, 0, 0, 0, 0)]
theorem kX12_text_49 : rf_ck MX12_text 49 cX12_text_49 = true := by decide +kernel
theorem eX12_text_56 : rf_cki MX12_text 56 .ireturn = true := by decide +kernel
def cX12_text_57 : List rf_I := [(.aload_n 0, 1, 0, 0, 0, 0, 0), (.getfield 7, 3, 12, 0, 1184, 0, 0), (.sipush 520, 3, 0, 0, 0, nI 520, 0), (.iload_n 1, 1, 1, 0, 0, 0, 0), (.iadd, 1, 0, 0, 0, 0, 0), (.iload_n 2, 1, 2, 0, 0, 0, 0), (.iastore, 1, 0, 0, 0, 0, 0), (.iconst 0, 1, 0, 0, 0, nI 0, 0), (.istore 4, 2, 4, 0, 0, 0, 0)]
theorem kX12_text_57 : rf_ck MX12_text 57 cX12_text_57 = true := by decide +kernel
def cX12_text_71 : List rf_I := [(.iload 4, 2, 4, 0, 0, 0, 0), (.iload_n 2, 1, 2, 0, 0, 0, 0)]
theorem kX12_text_71 : rf_ck MX12_text 71 cX12_text_71 = true := by decide +kernel
theorem bX12_text_74 : rf_ckb MX12_text 74 (.if_icmp .ge 36) 36 110 = true := by decide +kernel
def cX12_text_77 : List rf_I := [(.aload_n 0, 1, 0, 0, 0, 0, 0), (.getfield 7, 3, 12, 0, 1184, 0, 0), (.sipush 530, 3, 0, 0, 0, nI 530, 0), (.bipush 50, 2, 0, 0, 0, nI 50, 0), (.iload_n 1, 1, 1, 0, 0, 0, 0), (.imul, 1, 0, 0, 0, 0, 0), (.iadd, 1, 0, 0, 0, 0, 0), (.iload 4, 2, 4, 0, 0, 0, 0), (.iadd, 1, 0, 0, 0, 0, 0), (.aload_n 0, 1, 0, 0, 0, 0, 0), (.getfield 7, 3, 12, 0, 1184, 0, 0), (.sipush 630, 3, 0, 0, 0, nI 630, 0), (.iload 4, 2, 4, 0, 0, 0, 0), (.iadd, 1, 0, 0, 0, 0, 0), (.iaload, 1, 0, 0, 0, 0, 0), (.iastore, 1, 0, 0, 0, 0, 0), (.iinc 4 1, 3, 4, 0, 0, nI 1, 0)]
theorem kX12_text_77 : rf_ck MX12_text 77 cX12_text_77 = true := by decide +kernel
theorem bX12_text_107 : rf_ckb MX12_text 107 (.goto (-36)) (-36) 71 = true := by decide +kernel
def cX12_text_110 : List rf_I := [(.iconst 1, 1, 0, 0, 0, nI 1, 0)]
theorem kX12_text_110 : rf_ck MX12_text 110 cX12_text_110 = true := by decide +kernel
theorem eX12_text_111 : rf_cki MX12_text 111 .ireturn = true := by decide +kernel
abbrev MX12_gives : rf_M := (yX12_gives, cX12_gives, 2, (some (.int)))
theorem mkX12_gives : rf_mk MX12_gives 0 1 1408 85 1407 44 = true := by decide +kernel
def cX12_gives_0 : List rf_I := [(.aload_n 0, 1, 0, 0, 0, 0, 0), (.getfield 7, 3, 12, 0, 1184, 0, 0), (.sipush 520, 3, 0, 0, 0, nI 520, 0), (.iload_n 1, 1, 1, 0, 0, 0, 0), (.iadd, 1, 0, 0, 0, 0, 0), (.iaload, 1, 0, 0, 0, 0, 0)]
theorem kX12_gives_0 : rf_ck MX12_gives 0 cX12_gives_0 = true := by decide +kernel
theorem bX12_gives_10 : rf_ckb MX12_gives 10 (.ifCond .le 27) 27 37 = true := by decide +kernel
def cX12_gives_13 : List rf_I := [(.aload_n 0, 1, 0, 0, 0, 0, 0), (.sipush 530, 3, 0, 0, 0, nI 530, 0), (.bipush 50, 2, 0, 0, 0, nI 50, 0), (.iload_n 1, 1, 1, 0, 0, 0, 0), (.imul, 1, 0, 0, 0, 0, 0), (.iadd, 1, 0, 0, 0, 0, 0), (.aload_n 0, 1, 0, 0, 0, 0, 0), (.getfield 7, 3, 12, 0, 1184, 0, 0), (.sipush 520, 3, 0, 0, 0, nI 520, 0), (.iload_n 1, 1, 1, 0, 0, 0, 0), (.iadd, 1, 0, 0, 0, 0, 0), (.iaload, 1, 0, 0, 0, 0, 0), (.iload_n 1, 1, 1, 0, 0, 0, 0)]
theorem kX12_gives_13 : rf_ck MX12_gives 13 cX12_gives_13 = true := by decide +kernel
theorem qX12_gives_33 : rf_kc MX12_gives 33 162 1355 yX12_worked 0 = true := by decide +kernel
theorem eX12_gives_36 : rf_cki MX12_gives 36 .ireturn = true := by decide +kernel
def cX12_gives_37 : List rf_I := [(.iload_n 1, 1, 1, 0, 0, 0, 0), (.iconst 1, 1, 0, 0, 0, nI 1, 0)]
theorem kX12_gives_37 : rf_ck MX12_gives 37 cX12_gives_37 = true := by decide +kernel
theorem bX12_gives_39 : rf_ckb MX12_gives 39 (.if_icmp .eq 32) 32 71 = true := by decide +kernel
def cX12_gives_42 : List rf_I := [(.aload_n 0, 1, 0, 0, 0, 0, 0), (.getfield 19, 3, 12, 10, 1194, 0, 0), (.iconst 0, 1, 0, 0, 0, nI 0, 0), (.iaload, 1, 0, 0, 0, 0, 0), (.aload_n 0, 1, 0, 0, 0, 0, 0), (.getfield 19, 3, 12, 10, 1194, 0, 0), (.iconst 3, 1, 0, 0, 0, nI 3, 0), (.iaload, 1, 0, 0, 0, 0, 0), (.imul, 1, 0, 0, 0, 0, 0), (.aload_n 0, 1, 0, 0, 0, 0, 0), (.getfield 19, 3, 12, 10, 1194, 0, 0), (.iconst 1, 1, 0, 0, 0, nI 1, 0), (.iaload, 1, 0, 0, 0, 0, 0), (.aload_n 0, 1, 0, 0, 0, 0, 0), (.getfield 19, 3, 12, 10, 1194, 0, 0), (.iconst 2, 1, 0, 0, 0, nI 2, 0), (.iaload, 1, 0, 0, 0, 0, 0), (.imul, 1, 0, 0, 0, 0, 0)]
theorem kX12_gives_42 : rf_ck MX12_gives 42 cX12_gives_42 = true := by decide +kernel
theorem bX12_gives_68 : rf_ckb MX12_gives 68 (.if_icmp .gt 7) 7 75 = true := by decide +kernel
def cX12_gives_71 : List rf_I := [(.iconst 1, 1, 0, 0, 0, nI 1, 0)]
theorem kX12_gives_71 : rf_ck MX12_gives 71 cX12_gives_71 = true := by decide +kernel
theorem bX12_gives_72 : rf_ckb MX12_gives 72 (.goto 4) 4 76 = true := by decide +kernel
def cX12_gives_75 : List rf_I := [(.iconst 0, 1, 0, 0, 0, nI 0, 0)]
theorem kX12_gives_75 : rf_ck MX12_gives 75 cX12_gives_75 = true := by decide +kernel
theorem eX12_gives_76 : rf_cki MX12_gives 76 .ireturn = true := by decide +kernel
abbrev MX12_law : rf_M := (yX12_law, cX12_law, 6, (some (.int)))
theorem mkX12_law : rf_mk MX12_law 0 5 1404 85 1402 1403 = true := by decide +kernel
def cX12_law_0 : List rf_I := [(.iload_n 1, 1, 1, 0, 0, 0, 0), (.i2l, 1, 0, 0, 0, 0, 0), (.lconst 0, 1, 0, 0, 0, 0, lN 0), (.lconst 1, 1, 0, 0, 0, 0, lN 1)]
theorem kX12_law_0 : rf_ck MX12_law 0 cX12_law_0 = true := by decide +kernel
theorem qX12_law_4 : rf_kc MX12_law 4 51 1278 yX12_in 1 = true := by decide +kernel
theorem bX12_law_7 : rf_ckb MX12_law 7 (.ifCond .ne 9) 9 16 = true := by decide +kernel
def cX12_law_10 : List rf_I := [(.aload_n 0, 1, 0, 0, 0, 0, 0), (.iconst 1, 1, 0, 0, 0, nI 1, 0)]
theorem kX12_law_10 : rf_ck MX12_law 10 cX12_law_10 = true := by decide +kernel
theorem qX12_law_12 : rf_kc MX12_law 12 59 1261 yX12_finds 0 = true := by decide +kernel
theorem eX12_law_15 : rf_cki MX12_law 15 .ireturn = true := by decide +kernel
def cX12_law_16 : List rf_I := [(.aload_n 0, 1, 0, 0, 0, 0, 0), (.getfield 19, 3, 12, 10, 1194, 0, 0), (.iconst 0, 1, 0, 0, 0, nI 0, 0), (.iload_n 2, 1, 2, 0, 0, 0, 0), (.iastore, 1, 0, 0, 0, 0, 0), (.aload_n 0, 1, 0, 0, 0, 0, 0), (.getfield 19, 3, 12, 10, 1194, 0, 0), (.iconst 1, 1, 0, 0, 0, nI 1, 0), (.iload_n 3, 1, 3, 0, 0, 0, 0), (.iastore, 1, 0, 0, 0, 0, 0), (.aload_n 0, 1, 0, 0, 0, 0, 0), (.getfield 19, 3, 12, 10, 1194, 0, 0), (.iconst 2, 1, 0, 0, 0, nI 2, 0), (.iload 4, 2, 4, 0, 0, 0, 0), (.iastore, 1, 0, 0, 0, 0, 0), (.aload_n 0, 1, 0, 0, 0, 0, 0), (.getfield 19, 3, 12, 10, 1194, 0, 0), (.iconst 3, 1, 0, 0, 0, nI 3, 0), (.iload 5, 2, 5, 0, 0, 0, 0), (.iastore, 1, 0, 0, 0, 0, 0), (.aload_n 0, 1, 0, 0, 0, 0, 0), (.getfield 19, 3, 12, 10, 1194, 0, 0), (.iconst 4, 1, 0, 0, 0, nI 4, 0), (.iconst 0, 1, 0, 0, 0, nI 0, 0), (.iastore, 1, 0, 0, 0, 0, 0), (.aload_n 0, 1, 0, 0, 0, 0, 0), (.iload_n 1, 1, 1, 0, 0, 0, 0)]
theorem kX12_law_16 : rf_ck MX12_law 16 cX12_law_16 = true := by decide +kernel
theorem qX12_law_55 : rf_kc MX12_law 55 166 1405 yX12_gives 0 = true := by decide +kernel
theorem eX12_law_58 : rf_cki MX12_law 58 .ireturn = true := by decide +kernel
abbrev MX12_isPart : rf_M := (yX12_isPart, cX12_isPart, 1, (some (.boolean)))
theorem mkX12_isPart : rf_mk MX12_isPart 1 1 1420 85 1419 0 = true := by decide +kernel
def cX12_isPart_0 : List rf_I := [(.iload_n 0, 1, 0, 0, 0, 0, 0)]
theorem kX12_isPart_0 : rf_ck MX12_isPart 0 cX12_isPart_0 = true := by decide +kernel
theorem bX12_isPart_1 : rf_ckb MX12_isPart 1 (.ifCond .lt 33) 33 34 = true := by decide +kernel
def cX12_isPart_4 : List rf_I := [(.iload_n 0, 1, 0, 0, 0, 0, 0), (.bipush 10, 2, 0, 0, 0, nI 10, 0), (.irem, 1, 0, 0, 0, 0, 0), (.i2l, 1, 0, 0, 0, 0, 0), (.lconst 1, 1, 0, 0, 0, 0, lN 1), (.ldc2_w 169, 3, 0, 0, 1421, 0, lN 9)]
theorem kX12_isPart_4 : rf_ck MX12_isPart 4 cX12_isPart_4 = true := by decide +kernel
theorem qX12_isPart_13 : rf_kc MX12_isPart 13 51 1278 yX12_in 1 = true := by decide +kernel
theorem bX12_isPart_16 : rf_ckb MX12_isPart 16 (.ifCond .eq 18) 18 34 = true := by decide +kernel
def cX12_isPart_19 : List rf_I := [(.iload_n 0, 1, 0, 0, 0, 0, 0), (.bipush 10, 2, 0, 0, 0, nI 10, 0), (.idiv, 1, 0, 0, 0, 0, 0), (.iload_n 0, 1, 0, 0, 0, 0, 0), (.bipush 10, 2, 0, 0, 0, nI 10, 0), (.irem, 1, 0, 0, 0, 0, 0)]
theorem kX12_isPart_19 : rf_ck MX12_isPart 19 cX12_isPart_19 = true := by decide +kernel
theorem bX12_isPart_27 : rf_ckb MX12_isPart 27 (.if_icmp .gt 7) 7 34 = true := by decide +kernel
def cX12_isPart_30 : List rf_I := [(.iconst 1, 1, 0, 0, 0, nI 1, 0)]
theorem kX12_isPart_30 : rf_ck MX12_isPart 30 cX12_isPart_30 = true := by decide +kernel
theorem bX12_isPart_31 : rf_ckb MX12_isPart 31 (.goto 4) 4 35 = true := by decide +kernel
def cX12_isPart_34 : List rf_I := [(.iconst 0, 1, 0, 0, 0, nI 0, 0)]
theorem kX12_isPart_34 : rf_ck MX12_isPart 34 cX12_isPart_34 = true := by decide +kernel
theorem eX12_isPart_35 : rf_cki MX12_isPart 35 .ireturn = true := by decide +kernel
abbrev MX12_areRight : rf_M := (yX12_areRight, cX12_areRight, 6, (some (.boolean)))
theorem mkX12_areRight : rf_mk MX12_areRight 0 4 1416 85 1415 45 = true := by decide +kernel
def cX12_areRight_0 : List rf_I := [(.iload_n 1, 1, 1, 0, 0, 0, 0)]
theorem kX12_areRight_0 : rf_ck MX12_areRight 0 cX12_areRight_0 = true := by decide +kernel
theorem bX12_areRight_1 : rf_ckb MX12_areRight 1 (.ifCond .lt 39) 39 40 = true := by decide +kernel
def cX12_areRight_4 : List rf_I := [(.iload_n 1, 1, 1, 0, 0, 0, 0), (.bipush 100, 2, 0, 0, 0, nI 100, 0), (.idiv, 1, 0, 0, 0, 0, 0), (.bipush 7, 2, 0, 0, 0, nI 7, 0)]
theorem kX12_areRight_4 : rf_ck MX12_areRight 4 cX12_areRight_4 = true := by decide +kernel
theorem bX12_areRight_10 : rf_ckb MX12_areRight 10 (.if_icmp .gt 30) 30 40 = true := by decide +kernel
def cX12_areRight_13 : List rf_I := [(.aload_n 0, 1, 0, 0, 0, 0, 0), (.iload_n 1, 1, 1, 0, 0, 0, 0), (.bipush 100, 2, 0, 0, 0, nI 100, 0), (.irem, 1, 0, 0, 0, 0, 0)]
theorem kX12_areRight_13 : rf_ck MX12_areRight 13 cX12_areRight_13 = true := by decide +kernel
theorem qX12_areRight_18 : rf_kc MX12_areRight 18 91 1309 yX12_isTrain 0 = true := by decide +kernel
theorem bX12_areRight_21 : rf_ckb MX12_areRight 21 (.ifCond .eq 19) 19 40 = true := by decide +kernel
def cX12_areRight_24 : List rf_I := [(.iload_n 3, 1, 3, 0, 0, 0, 0), (.i2l, 1, 0, 0, 0, 0, 0), (.lconst 1, 1, 0, 0, 0, 0, lN 1), (.ldc2_w 171, 3, 0, 0, 1417, 0, lN 999)]
theorem kX12_areRight_24 : rf_ck MX12_areRight 24 cX12_areRight_24 = true := by decide +kernel
theorem qX12_areRight_30 : rf_kc MX12_areRight 30 51 1278 yX12_in 1 = true := by decide +kernel
theorem bX12_areRight_33 : rf_ckb MX12_areRight 33 (.ifCond .eq 7) 7 40 = true := by decide +kernel
def cX12_areRight_36 : List rf_I := [(.iconst 1, 1, 0, 0, 0, nI 1, 0)]
theorem kX12_areRight_36 : rf_ck MX12_areRight 36 cX12_areRight_36 = true := by decide +kernel
theorem bX12_areRight_37 : rf_ckb MX12_areRight 37 (.goto 4) 4 41 = true := by decide +kernel
def cX12_areRight_40 : List rf_I := [(.iconst 0, 1, 0, 0, 0, nI 0, 0)]
theorem kX12_areRight_40 : rf_ck MX12_areRight 40 cX12_areRight_40 = true := by decide +kernel
def cX12_areRight_41 : List rf_I := [(.istore 5, 2, 5, 0, 0, 0, 0), (.iload 5, 2, 5, 0, 0, 0, 0)]
theorem kX12_areRight_41 : rf_ck MX12_areRight 41 cX12_areRight_41 = true := by decide +kernel
theorem bX12_areRight_45 : rf_ckb MX12_areRight 45 (.ifCond .eq 38) 38 83 = true := by decide +kernel
def cX12_areRight_48 : List rf_I := [(.iload_n 2, 1, 2, 0, 0, 0, 0)]
theorem kX12_areRight_48 : rf_ck MX12_areRight 48 cX12_areRight_48 = true := by decide +kernel
theorem bX12_areRight_49 : rf_ckb MX12_areRight 49 (.ifCond .lt 34) 34 83 = true := by decide +kernel
def cX12_areRight_52 : List rf_I := [(.iload_n 2, 1, 2, 0, 0, 0, 0), (.bipush 10, 2, 0, 0, 0, nI 10, 0), (.idiv, 1, 0, 0, 0, 0, 0), (.iload_n 2, 1, 2, 0, 0, 0, 0), (.bipush 10, 2, 0, 0, 0, nI 10, 0), (.irem, 1, 0, 0, 0, 0, 0)]
theorem kX12_areRight_52 : rf_ck MX12_areRight 52 cX12_areRight_52 = true := by decide +kernel
theorem bX12_areRight_60 : rf_ckb MX12_areRight 60 (.if_icmp .ge 23) 23 83 = true := by decide +kernel
def cX12_areRight_63 : List rf_I := [(.iload_n 2, 1, 2, 0, 0, 0, 0), (.bipush 10, 2, 0, 0, 0, nI 10, 0), (.irem, 1, 0, 0, 0, 0, 0), (.iconst 5, 1, 0, 0, 0, nI 5, 0)]
theorem kX12_areRight_63 : rf_ck MX12_areRight 63 cX12_areRight_63 = true := by decide +kernel
theorem bX12_areRight_68 : rf_ckb MX12_areRight 68 (.if_icmp .gt 15) 15 83 = true := by decide +kernel
def cX12_areRight_71 : List rf_I := [(.iload 4, 2, 4, 0, 0, 0, 0)]
theorem kX12_areRight_71 : rf_ck MX12_areRight 71 cX12_areRight_71 = true := by decide +kernel
theorem qX12_areRight_73 : rf_kc MX12_areRight 73 173 1418 yX12_isPart 1 = true := by decide +kernel
theorem bX12_areRight_76 : rf_ckb MX12_areRight 76 (.ifCond .eq 7) 7 83 = true := by decide +kernel
def cX12_areRight_79 : List rf_I := [(.iconst 1, 1, 0, 0, 0, nI 1, 0)]
theorem kX12_areRight_79 : rf_ck MX12_areRight 79 cX12_areRight_79 = true := by decide +kernel
theorem bX12_areRight_80 : rf_ckb MX12_areRight 80 (.goto 4) 4 84 = true := by decide +kernel
def cX12_areRight_83 : List rf_I := [(.iconst 0, 1, 0, 0, 0, nI 0, 0)]
theorem kX12_areRight_83 : rf_ck MX12_areRight 83 cX12_areRight_83 = true := by decide +kernel
theorem eX12_areRight_84 : rf_cki MX12_areRight 84 .ireturn = true := by decide +kernel
abbrev MX12_comes : rf_M := (yX12_comes, cX12_comes, 6, none)
theorem mkX12_comes : rf_mk MX12_comes 0 4 1425 85 1424 46 = true := by decide +kernel
def cX12_comes_0 : List rf_I := [(.sipush 190, 3, 0, 0, 0, nI 190, 0), (.bipush 8, 2, 0, 0, 0, nI 8, 0), (.aload_n 0, 1, 0, 0, 0, 0, 0), (.getfield 7, 3, 12, 0, 1184, 0, 0), (.iconst 4, 1, 0, 0, 0, nI 4, 0), (.iaload, 1, 0, 0, 0, 0, 0), (.imul, 1, 0, 0, 0, 0, 0), (.iadd, 1, 0, 0, 0, 0, 0), (.istore 5, 2, 5, 0, 0, 0, 0), (.aload_n 0, 1, 0, 0, 0, 0, 0), (.getfield 7, 3, 12, 0, 1184, 0, 0), (.iload 5, 2, 5, 0, 0, 0, 0), (.iconst 0, 1, 0, 0, 0, nI 0, 0), (.iadd, 1, 0, 0, 0, 0, 0), (.iload_n 1, 1, 1, 0, 0, 0, 0), (.bipush 100, 2, 0, 0, 0, nI 100, 0), (.idiv, 1, 0, 0, 0, 0, 0), (.iastore, 1, 0, 0, 0, 0, 0), (.aload_n 0, 1, 0, 0, 0, 0, 0), (.getfield 7, 3, 12, 0, 1184, 0, 0), (.iload 5, 2, 5, 0, 0, 0, 0), (.iconst 1, 1, 0, 0, 0, nI 1, 0), (.iadd, 1, 0, 0, 0, 0, 0), (.iload_n 1, 1, 1, 0, 0, 0, 0), (.bipush 100, 2, 0, 0, 0, nI 100, 0), (.irem, 1, 0, 0, 0, 0, 0), (.iastore, 1, 0, 0, 0, 0, 0), (.aload_n 0, 1, 0, 0, 0, 0, 0), (.getfield 7, 3, 12, 0, 1184, 0, 0), (.iload 5, 2, 5, 0, 0, 0, 0), (.iconst 2, 1, 0, 0, 0, nI 2, 0), (.iadd, 1, 0, 0, 0, 0, 0), (.iload_n 2, 1, 2, 0, 0, 0, 0), (.bipush 10, 2, 0, 0, 0, nI 10, 0), (.idiv, 1, 0, 0, 0, 0, 0), (.iastore, 1, 0, 0, 0, 0, 0), (.aload_n 0, 1, 0, 0, 0, 0, 0), (.getfield 7, 3, 12, 0, 1184, 0, 0), (.iload 5, 2, 5, 0, 0, 0, 0), (.iconst 3, 1, 0, 0, 0, nI 3, 0), (.iadd, 1, 0, 0, 0, 0, 0), (.iload_n 2, 1, 2, 0, 0, 0, 0), (.bipush 10, 2, 0, 0, 0, nI 10, 0), (.irem, 1, 0, 0, 0, 0, 0), (.iastore, 1, 0, 0, 0, 0, 0), (.aload_n 0, 1, 0, 0, 0, 0, 0), (.getfield 7, 3, 12, 0, 1184, 0, 0), (.iload 5, 2, 5, 0, 0, 0, 0), (.iconst 4, 1, 0, 0, 0, nI 4, 0), (.iadd, 1, 0, 0, 0, 0, 0), (.iload_n 3, 1, 3, 0, 0, 0, 0), (.iastore, 1, 0, 0, 0, 0, 0), (.aload_n 0, 1, 0, 0, 0, 0, 0), (.getfield 7, 3, 12, 0, 1184, 0, 0), (.iload 5, 2, 5, 0, 0, 0, 0), (.iconst 5, 1, 0, 0, 0, nI 5, 0), (.iadd, 1, 0, 0, 0, 0, 0), (.iload 4, 2, 4, 0, 0, 0, 0), (.bipush 10, 2, 0, 0, 0, nI 10, 0), (.idiv, 1, 0, 0, 0, 0, 0), (.iastore, 1, 0, 0, 0, 0, 0), (.aload_n 0, 1, 0, 0, 0, 0, 0), (.getfield 7, 3, 12, 0, 1184, 0, 0), (.iload 5, 2, 5, 0, 0, 0, 0), (.bipush 6, 2, 0, 0, 0, nI 6, 0), (.iadd, 1, 0, 0, 0, 0, 0), (.iload 4, 2, 4, 0, 0, 0, 0), (.bipush 10, 2, 0, 0, 0, nI 10, 0), (.irem, 1, 0, 0, 0, 0, 0), (.iastore, 1, 0, 0, 0, 0, 0), (.aload_n 0, 1, 0, 0, 0, 0, 0), (.getfield 7, 3, 12, 0, 1184, 0, 0), (.iload 5, 2, 5, 0, 0, 0, 0), (.bipush 7, 2, 0, 0, 0, nI 7, 0), (.iadd, 1, 0, 0, 0, 0, 0), (.iconst 0, 1, 0, 0, 0, nI 0, 0), (.iastore, 1, 0, 0, 0, 0, 0), (.aload_n 0, 1, 0, 0, 0, 0, 0), (.getfield 7, 3, 12, 0, 1184, 0, 0), (.iconst 4, 1, 0, 0, 0, nI 4, 0), (.dup2, 1, 0, 0, 0, 0, 0), (.iaload, 1, 0, 0, 0, 0, 0), (.iconst 1, 1, 0, 0, 0, nI 1, 0), (.iadd, 1, 0, 0, 0, 0, 0), (.iastore, 1, 0, 0, 0, 0, 0)]
theorem kX12_comes_0 : rf_ck MX12_comes 0 cX12_comes_0 = true := by decide +kernel
theorem eX12_comes_127 : rf_cki MX12_comes 127 .return_ = true := by decide +kernel
abbrev MX12_group : rf_M := (yX12_group, cX12_group, 5, (some (.int)))
theorem mkX12_group : rf_mk MX12_group 0 4 1412 85 1410 1411 = true := by decide +kernel
def cX12_group_0 : List rf_I := [(.aload_n 0, 1, 0, 0, 0, 0, 0), (.iload_n 1, 1, 1, 0, 0, 0, 0), (.iload_n 2, 1, 2, 0, 0, 0, 0), (.iload_n 3, 1, 3, 0, 0, 0, 0), (.iload 4, 2, 4, 0, 0, 0, 0)]
theorem kX12_group_0 : rf_ck MX12_group 0 cX12_group_0 = true := by decide +kernel
theorem qX12_group_6 : rf_kc MX12_group 6 176 1413 yX12_areRight 0 = true := by decide +kernel
theorem bX12_group_9 : rf_ckb MX12_group 9 (.ifCond .ne 9) 9 18 = true := by decide +kernel
def cX12_group_12 : List rf_I := [(.aload_n 0, 1, 0, 0, 0, 0, 0), (.iconst 1, 1, 0, 0, 0, nI 1, 0)]
theorem kX12_group_12 : rf_ck MX12_group 12 cX12_group_12 = true := by decide +kernel
theorem qX12_group_14 : rf_kc MX12_group 14 59 1261 yX12_finds 0 = true := by decide +kernel
theorem eX12_group_17 : rf_cki MX12_group 17 .ireturn = true := by decide +kernel
def cX12_group_18 : List rf_I := [(.aload_n 0, 1, 0, 0, 0, 0, 0), (.getfield 7, 3, 12, 0, 1184, 0, 0), (.iconst 4, 1, 0, 0, 0, nI 4, 0), (.iaload, 1, 0, 0, 0, 0, 0), (.bipush 16, 2, 0, 0, 0, nI 16, 0)]
theorem kX12_group_18 : rf_ck MX12_group 18 cX12_group_18 = true := by decide +kernel
theorem bX12_group_26 : rf_ckb MX12_group 26 (.if_icmp .ne 9) 9 35 = true := by decide +kernel
def cX12_group_29 : List rf_I := [(.aload_n 0, 1, 0, 0, 0, 0, 0), (.iconst 4, 1, 0, 0, 0, nI 4, 0)]
theorem kX12_group_29 : rf_ck MX12_group 29 cX12_group_29 = true := by decide +kernel
theorem qX12_group_31 : rf_kc MX12_group 31 59 1261 yX12_finds 0 = true := by decide +kernel
theorem eX12_group_34 : rf_cki MX12_group 34 .ireturn = true := by decide +kernel
def cX12_group_35 : List rf_I := [(.aload_n 0, 1, 0, 0, 0, 0, 0), (.iload_n 1, 1, 1, 0, 0, 0, 0), (.iload_n 2, 1, 2, 0, 0, 0, 0), (.iload_n 3, 1, 3, 0, 0, 0, 0), (.iload 4, 2, 4, 0, 0, 0, 0)]
theorem kX12_group_35 : rf_ck MX12_group 35 cX12_group_35 = true := by decide +kernel
theorem qX12_group_41 : rf_kc MX12_group 41 180 1422 yX12_comes 0 = true := by decide +kernel
def cX12_group_44 : List rf_I := [(.aload_n 0, 1, 0, 0, 0, 0, 0), (.getfield 7, 3, 12, 0, 1184, 0, 0), (.iconst 4, 1, 0, 0, 0, nI 4, 0), (.iaload, 1, 0, 0, 0, 0, 0), (.iconst 1, 1, 0, 0, 0, nI 1, 0), (.isub, 1, 0, 0, 0, 0, 0)]
theorem kX12_group_44 : rf_ck MX12_group 44 cX12_group_44 = true := by decide +kernel
theorem eX12_group_52 : rf_cki MX12_group 52 .ireturn = true := by decide +kernel
abbrev MX12_weighs : rf_M := (yX12_weighs, cX12_weighs, 6, (some (.boolean)))
theorem mkX12_weighs : rf_mk MX12_weighs 0 4 1454 85 1453 52 = true := by decide +kernel
def cX12_weighs_0 : List rf_I := [(.aload_n 0, 1, 0, 0, 0, 0, 0), (.iload_n 1, 1, 1, 0, 0, 0, 0), (.iconst 3, 1, 0, 0, 0, nI 3, 0)]
theorem kX12_weighs_0 : rf_ck MX12_weighs 0 cX12_weighs_0 = true := by decide +kernel
theorem qX12_weighs_3 : rf_kc MX12_weighs 3 184 1435 yX12_gr 0 = true := by decide +kernel
def cX12_weighs_6 : List rf_I := [(.aload_n 0, 1, 0, 0, 0, 0, 0), (.iload_n 1, 1, 1, 0, 0, 0, 0), (.iconst 2, 1, 0, 0, 0, nI 2, 0)]
theorem kX12_weighs_6 : rf_ck MX12_weighs 6 cX12_weighs_6 = true := by decide +kernel
theorem qX12_weighs_9 : rf_kc MX12_weighs 9 184 1435 yX12_gr 0 = true := by decide +kernel
def cX12_weighs_12 : List rf_I := [(.isub, 1, 0, 0, 0, 0, 0), (.istore 5, 2, 5, 0, 0, 0, 0), (.aload_n 0, 1, 0, 0, 0, 0, 0), (.getfield 19, 3, 12, 10, 1194, 0, 0), (.iconst 0, 1, 0, 0, 0, nI 0, 0), (.aload_n 0, 1, 0, 0, 0, 0, 0), (.iload_n 1, 1, 1, 0, 0, 0, 0), (.iconst 0, 1, 0, 0, 0, nI 0, 0)]
theorem kX12_weighs_12 : rf_ck MX12_weighs 12 cX12_weighs_12 = true := by decide +kernel
theorem qX12_weighs_23 : rf_kc MX12_weighs 23 184 1435 yX12_gr 0 = true := by decide +kernel
def cX12_weighs_26 : List rf_I := [(.iconst 4, 1, 0, 0, 0, nI 4, 0)]
theorem kX12_weighs_26 : rf_ck MX12_weighs 26 cX12_weighs_26 = true := by decide +kernel
theorem bX12_weighs_27 : rf_ckb MX12_weighs 27 (.if_icmp .ne 21) 21 48 = true := by decide +kernel
def cX12_weighs_30 : List rf_I := [(.iload 5, 2, 5, 0, 0, 0, 0), (.iconst 3, 1, 0, 0, 0, nI 3, 0)]
theorem kX12_weighs_30 : rf_ck MX12_weighs 30 cX12_weighs_30 = true := by decide +kernel
theorem bX12_weighs_33 : rf_ckb MX12_weighs 33 (.if_icmp .gt 15) 15 48 = true := by decide +kernel
def cX12_weighs_36 : List rf_I := [(.aload_n 0, 1, 0, 0, 0, 0, 0), (.getfield 7, 3, 12, 0, 1184, 0, 0), (.bipush 8, 2, 0, 0, 0, nI 8, 0), (.iaload, 1, 0, 0, 0, 0, 0), (.iconst 2, 1, 0, 0, 0, nI 2, 0), (.idiv, 1, 0, 0, 0, 0, 0)]
theorem kX12_weighs_36 : rf_ck MX12_weighs 36 cX12_weighs_36 = true := by decide +kernel
theorem bX12_weighs_45 : rf_ckb MX12_weighs 45 (.goto 10) 10 55 = true := by decide +kernel
def cX12_weighs_48 : List rf_I := [(.aload_n 0, 1, 0, 0, 0, 0, 0), (.getfield 7, 3, 12, 0, 1184, 0, 0), (.bipush 8, 2, 0, 0, 0, nI 8, 0), (.iaload, 1, 0, 0, 0, 0, 0)]
theorem kX12_weighs_48 : rf_ck MX12_weighs 48 cX12_weighs_48 = true := by decide +kernel
def cX12_weighs_55 : List rf_I := [(.iastore, 1, 0, 0, 0, 0, 0), (.aload_n 0, 1, 0, 0, 0, 0, 0), (.getfield 19, 3, 12, 10, 1194, 0, 0), (.iconst 1, 1, 0, 0, 0, nI 1, 0), (.iload 4, 2, 4, 0, 0, 0, 0), (.iastore, 1, 0, 0, 0, 0, 0), (.aload_n 0, 1, 0, 0, 0, 0, 0), (.getfield 19, 3, 12, 10, 1194, 0, 0), (.iconst 2, 1, 0, 0, 0, nI 2, 0), (.iload_n 2, 1, 2, 0, 0, 0, 0), (.iastore, 1, 0, 0, 0, 0, 0), (.aload_n 0, 1, 0, 0, 0, 0, 0), (.getfield 19, 3, 12, 10, 1194, 0, 0), (.iconst 3, 1, 0, 0, 0, nI 3, 0), (.iload_n 3, 1, 3, 0, 0, 0, 0), (.iastore, 1, 0, 0, 0, 0, 0), (.aload_n 0, 1, 0, 0, 0, 0, 0), (.getfield 19, 3, 12, 10, 1194, 0, 0), (.iconst 4, 1, 0, 0, 0, nI 4, 0), (.iload 5, 2, 5, 0, 0, 0, 0), (.iastore, 1, 0, 0, 0, 0, 0), (.aload_n 0, 1, 0, 0, 0, 0, 0), (.iconst 0, 1, 0, 0, 0, nI 0, 0)]
theorem kX12_weighs_55 : rf_ck MX12_weighs 55 cX12_weighs_55 = true := by decide +kernel
theorem qX12_weighs_88 : rf_kc MX12_weighs 88 166 1405 yX12_gives 0 = true := by decide +kernel
theorem bX12_weighs_91 : rf_ckb MX12_weighs 91 (.ifCond .eq 7) 7 98 = true := by decide +kernel
def cX12_weighs_94 : List rf_I := [(.iconst 1, 1, 0, 0, 0, nI 1, 0)]
theorem kX12_weighs_94 : rf_ck MX12_weighs 94 cX12_weighs_94 = true := by decide +kernel
theorem bX12_weighs_95 : rf_ckb MX12_weighs 95 (.goto 4) 4 99 = true := by decide +kernel
def cX12_weighs_98 : List rf_I := [(.iconst 0, 1, 0, 0, 0, nI 0, 0)]
theorem kX12_weighs_98 : rf_ck MX12_weighs 98 cX12_weighs_98 = true := by decide +kernel
theorem eX12_weighs_99 : rf_cki MX12_weighs 99 .ireturn = true := by decide +kernel
abbrev MX12_paysBy : rf_M := (yX12_paysBy, cX12_paysBy, 5, (some (.boolean)))
theorem mkX12_paysBy : rf_mk MX12_paysBy 0 4 1450 85 1449 51 = true := by decide +kernel
def cX12_paysBy_0 : List rf_I := [(.aload_n 0, 1, 0, 0, 0, 0, 0), (.iload_n 1, 1, 1, 0, 0, 0, 0), (.iconst 0, 1, 0, 0, 0, nI 0, 0)]
theorem kX12_paysBy_0 : rf_ck MX12_paysBy 0 cX12_paysBy_0 = true := by decide +kernel
theorem qX12_paysBy_3 : rf_kc MX12_paysBy 3 184 1435 yX12_gr 0 = true := by decide +kernel
theorem bX12_paysBy_6 : rf_ckt MX12_paysBy 6 160 1 7 [42, 44, 65, 44, 91, 113, 135] [48, 50, 71, 50, 97, 119, 141] 166 = true := by decide +kernel
def cX12_paysBy_48 : List rf_I := [(.iconst 1, 1, 0, 0, 0, nI 1, 0)]
theorem kX12_paysBy_48 : rf_ck MX12_paysBy 48 cX12_paysBy_48 = true := by decide +kernel
theorem eX12_paysBy_49 : rf_cki MX12_paysBy 49 .ireturn = true := by decide +kernel
def cX12_paysBy_50 : List rf_I := [(.aload_n 0, 1, 0, 0, 0, 0, 0), (.iload_n 1, 1, 1, 0, 0, 0, 0), (.aload_n 0, 1, 0, 0, 0, 0, 0), (.iload_n 1, 1, 1, 0, 0, 0, 0), (.iconst 5, 1, 0, 0, 0, nI 5, 0)]
theorem kX12_paysBy_50 : rf_ck MX12_paysBy 50 cX12_paysBy_50 = true := by decide +kernel
theorem qX12_paysBy_55 : rf_kc MX12_paysBy 55 184 1435 yX12_gr 0 = true := by decide +kernel
def cX12_paysBy_58 : List rf_I := [(.aload_n 0, 1, 0, 0, 0, 0, 0), (.iload_n 1, 1, 1, 0, 0, 0, 0), (.bipush 6, 2, 0, 0, 0, nI 6, 0)]
theorem kX12_paysBy_58 : rf_ck MX12_paysBy 58 cX12_paysBy_58 = true := by decide +kernel
theorem qX12_paysBy_62 : rf_kc MX12_paysBy 62 184 1435 yX12_gr 0 = true := by decide +kernel
def cX12_paysBy_65 : List rf_I := [(.iload 4, 2, 4, 0, 0, 0, 0)]
theorem kX12_paysBy_65 : rf_ck MX12_paysBy 65 cX12_paysBy_65 = true := by decide +kernel
theorem qX12_paysBy_67 : rf_kc MX12_paysBy 67 187 1451 yX12_weighs 0 = true := by decide +kernel
theorem eX12_paysBy_70 : rf_cki MX12_paysBy 70 .ireturn = true := by decide +kernel
def cX12_paysBy_71 : List rf_I := [(.aload_n 0, 1, 0, 0, 0, 0, 0), (.iload_n 1, 1, 1, 0, 0, 0, 0), (.iload_n 3, 1, 3, 0, 0, 0, 0)]
theorem kX12_paysBy_71 : rf_ck MX12_paysBy 71 cX12_paysBy_71 = true := by decide +kernel
theorem bX12_paysBy_74 : rf_ckb MX12_paysBy 74 (.ifCond .ne 7) 7 81 = true := by decide +kernel
def cX12_paysBy_77 : List rf_I := [(.iconst 0, 1, 0, 0, 0, nI 0, 0)]
theorem kX12_paysBy_77 : rf_ck MX12_paysBy 77 cX12_paysBy_77 = true := by decide +kernel
theorem bX12_paysBy_78 : rf_ckb MX12_paysBy 78 (.goto 4) 4 82 = true := by decide +kernel
def cX12_paysBy_81 : List rf_I := [(.iload_n 2, 1, 2, 0, 0, 0, 0)]
theorem kX12_paysBy_81 : rf_ck MX12_paysBy 81 cX12_paysBy_81 = true := by decide +kernel
def cX12_paysBy_82 : List rf_I := [(.iload_n 3, 1, 3, 0, 0, 0, 0)]
theorem kX12_paysBy_82 : rf_ck MX12_paysBy 82 cX12_paysBy_82 = true := by decide +kernel
theorem bX12_paysBy_83 : rf_ckb MX12_paysBy 83 (.ifCond .ne 7) 7 90 = true := by decide +kernel
def cX12_paysBy_86 : List rf_I := [(.iconst 1, 1, 0, 0, 0, nI 1, 0)]
theorem kX12_paysBy_86 : rf_ck MX12_paysBy 86 cX12_paysBy_86 = true := by decide +kernel
theorem bX12_paysBy_87 : rf_ckb MX12_paysBy 87 (.goto 4) 4 91 = true := by decide +kernel
def cX12_paysBy_90 : List rf_I := [(.iload_n 3, 1, 3, 0, 0, 0, 0)]
theorem kX12_paysBy_90 : rf_ck MX12_paysBy 90 cX12_paysBy_90 = true := by decide +kernel
def cX12_paysBy_91 : List rf_I := [(.iload 4, 2, 4, 0, 0, 0, 0)]
theorem kX12_paysBy_91 : rf_ck MX12_paysBy 91 cX12_paysBy_91 = true := by decide +kernel
theorem qX12_paysBy_93 : rf_kc MX12_paysBy 93 187 1451 yX12_weighs 0 = true := by decide +kernel
theorem eX12_paysBy_96 : rf_cki MX12_paysBy 96 .ireturn = true := by decide +kernel
def cX12_paysBy_97 : List rf_I := [(.aload_n 0, 1, 0, 0, 0, 0, 0), (.getfield 7, 3, 12, 0, 1184, 0, 0), (.iconst 0, 1, 0, 0, 0, nI 0, 0), (.iaload, 1, 0, 0, 0, 0, 0), (.aload_n 0, 1, 0, 0, 0, 0, 0), (.iload_n 1, 1, 1, 0, 0, 0, 0), (.bipush 7, 2, 0, 0, 0, nI 7, 0)]
theorem kX12_paysBy_97 : rf_ck MX12_paysBy 97 cX12_paysBy_97 = true := by decide +kernel
theorem qX12_paysBy_107 : rf_kc MX12_paysBy 107 184 1435 yX12_gr 0 = true := by decide +kernel
theorem bX12_paysBy_110 : rf_ckb MX12_paysBy 110 (.if_icmp .ge 7) 7 117 = true := by decide +kernel
def cX12_paysBy_113 : List rf_I := [(.iconst 1, 1, 0, 0, 0, nI 1, 0)]
theorem kX12_paysBy_113 : rf_ck MX12_paysBy 113 cX12_paysBy_113 = true := by decide +kernel
theorem bX12_paysBy_114 : rf_ckb MX12_paysBy 114 (.goto 4) 4 118 = true := by decide +kernel
def cX12_paysBy_117 : List rf_I := [(.iconst 0, 1, 0, 0, 0, nI 0, 0)]
theorem kX12_paysBy_117 : rf_ck MX12_paysBy 117 cX12_paysBy_117 = true := by decide +kernel
theorem eX12_paysBy_118 : rf_cki MX12_paysBy 118 .ireturn = true := by decide +kernel
def cX12_paysBy_119 : List rf_I := [(.aload_n 0, 1, 0, 0, 0, 0, 0), (.aload_n 0, 1, 0, 0, 0, 0, 0), (.iload_n 1, 1, 1, 0, 0, 0, 0), (.iconst 1, 1, 0, 0, 0, nI 1, 0)]
theorem kX12_paysBy_119 : rf_ck MX12_paysBy 119 cX12_paysBy_119 = true := by decide +kernel
theorem qX12_paysBy_123 : rf_kc MX12_paysBy 123 184 1435 yX12_gr 0 = true := by decide +kernel
theorem qX12_paysBy_126 : rf_kc MX12_paysBy 126 81 1317 yX12_startOf 0 = true := by decide +kernel
def cX12_paysBy_129 : List rf_I := [(.sipush 1100, 3, 0, 0, 0, nI 1100, 0)]
theorem kX12_paysBy_129 : rf_ck MX12_paysBy 129 cX12_paysBy_129 = true := by decide +kernel
theorem bX12_paysBy_132 : rf_ckb MX12_paysBy 132 (.if_icmp .ge 7) 7 139 = true := by decide +kernel
def cX12_paysBy_135 : List rf_I := [(.iconst 1, 1, 0, 0, 0, nI 1, 0)]
theorem kX12_paysBy_135 : rf_ck MX12_paysBy 135 cX12_paysBy_135 = true := by decide +kernel
theorem bX12_paysBy_136 : rf_ckb MX12_paysBy 136 (.goto 4) 4 140 = true := by decide +kernel
def cX12_paysBy_139 : List rf_I := [(.iconst 0, 1, 0, 0, 0, nI 0, 0)]
theorem kX12_paysBy_139 : rf_ck MX12_paysBy 139 cX12_paysBy_139 = true := by decide +kernel
theorem eX12_paysBy_140 : rf_cki MX12_paysBy 140 .ireturn = true := by decide +kernel
def cX12_paysBy_141 : List rf_I := [(.aload_n 0, 1, 0, 0, 0, 0, 0), (.getfield 7, 3, 12, 0, 1184, 0, 0), (.iconst 0, 1, 0, 0, 0, nI 0, 0), (.iaload, 1, 0, 0, 0, 0, 0), (.bipush 10, 2, 0, 0, 0, nI 10, 0), (.iadd, 1, 0, 0, 0, 0, 0), (.aload_n 0, 1, 0, 0, 0, 0, 0), (.iload_n 1, 1, 1, 0, 0, 0, 0), (.bipush 7, 2, 0, 0, 0, nI 7, 0)]
theorem kX12_paysBy_141 : rf_ck MX12_paysBy 141 cX12_paysBy_141 = true := by decide +kernel
theorem qX12_paysBy_154 : rf_kc MX12_paysBy 154 184 1435 yX12_gr 0 = true := by decide +kernel
theorem bX12_paysBy_157 : rf_ckb MX12_paysBy 157 (.if_icmp .ge 7) 7 164 = true := by decide +kernel
def cX12_paysBy_160 : List rf_I := [(.iconst 1, 1, 0, 0, 0, nI 1, 0)]
theorem kX12_paysBy_160 : rf_ck MX12_paysBy 160 cX12_paysBy_160 = true := by decide +kernel
theorem bX12_paysBy_161 : rf_ckb MX12_paysBy 161 (.goto 4) 4 165 = true := by decide +kernel
def cX12_paysBy_164 : List rf_I := [(.iconst 0, 1, 0, 0, 0, nI 0, 0)]
theorem kX12_paysBy_164 : rf_ck MX12_paysBy 164 cX12_paysBy_164 = true := by decide +kernel
theorem eX12_paysBy_165 : rf_cki MX12_paysBy 165 .ireturn = true := by decide +kernel
def cX12_paysBy_166 : List rf_I := [(.iconst 0, 1, 0, 0, 0, nI 0, 0)]
theorem kX12_paysBy_166 : rf_ck MX12_paysBy 166 cX12_paysBy_166 = true := by decide +kernel
theorem eX12_paysBy_167 : rf_cki MX12_paysBy 167 .ireturn = true := by decide +kernel
abbrev MX12_pays : rf_M := (yX12_pays, cX12_pays, 2, (some (.boolean)))
theorem mkX12_pays : rf_mk MX12_pays 0 1 1442 85 1441 49 = true := by decide +kernel
def cX12_pays_0 : List rf_I := [(.aload_n 0, 1, 0, 0, 0, 0, 0), (.iload_n 1, 1, 1, 0, 0, 0, 0), (.aload_n 0, 1, 0, 0, 0, 0, 0), (.aload_n 0, 1, 0, 0, 0, 0, 0), (.iload_n 1, 1, 1, 0, 0, 0, 0), (.iconst 1, 1, 0, 0, 0, nI 1, 0)]
theorem kX12_pays_0 : rf_ck MX12_pays 0 cX12_pays_0 = true := by decide +kernel
theorem qX12_pays_6 : rf_kc MX12_pays 6 184 1435 yX12_gr 0 = true := by decide +kernel
theorem qX12_pays_9 : rf_kc MX12_pays 9 100 1337 yX12_lotsWith 0 = true := by decide +kernel
def cX12_pays_12 : List rf_I := [(.aload_n 0, 1, 0, 0, 0, 0, 0)]
theorem kX12_pays_12 : rf_ck MX12_pays 12 cX12_pays_12 = true := by decide +kernel
theorem qX12_pays_13 : rf_kc MX12_pays 13 190 1443 yX12_allLots 0 = true := by decide +kernel
def cX12_pays_16 : List rf_I := [(.aload_n 0, 1, 0, 0, 0, 0, 0), (.getfield 7, 3, 12, 0, 1184, 0, 0), (.bipush 9, 2, 0, 0, 0, nI 9, 0), (.iaload, 1, 0, 0, 0, 0, 0)]
theorem kX12_pays_16 : rf_ck MX12_pays 16 cX12_pays_16 = true := by decide +kernel
theorem qX12_pays_23 : rf_kc MX12_pays 23 193 1447 yX12_paysBy 0 = true := by decide +kernel
theorem eX12_pays_26 : rf_cki MX12_pays 26 .ireturn = true := by decide +kernel
abbrev MX12_ofGroup : rf_M := (yX12_ofGroup, cX12_ofGroup, 3, (some (.int)))
theorem mkX12_ofGroup : rf_mk MX12_ofGroup 0 2 1429 85 1427 1428 = true := by decide +kernel
def cX12_ofGroup_0 : List rf_I := [(.aload_n 0, 1, 0, 0, 0, 0, 0), (.iload_n 1, 1, 1, 0, 0, 0, 0)]
theorem kX12_ofGroup_0 : rf_ck MX12_ofGroup 0 cX12_ofGroup_0 = true := by decide +kernel
theorem qX12_ofGroup_2 : rf_kc MX12_ofGroup 2 196 1430 yX12_isGroup 0 = true := by decide +kernel
theorem bX12_ofGroup_5 : rf_ckb MX12_ofGroup 5 (.ifCond .eq 15) 15 20 = true := by decide +kernel
def cX12_ofGroup_8 : List rf_I := [(.iload_n 2, 1, 2, 0, 0, 0, 0), (.i2l, 1, 0, 0, 0, 0, 0), (.lconst 0, 1, 0, 0, 0, 0, lN 0), (.ldc2_w 199, 3, 0, 0, 1434, 0, lN 7)]
theorem kX12_ofGroup_8 : rf_ck MX12_ofGroup 8 cX12_ofGroup_8 = true := by decide +kernel
theorem qX12_ofGroup_14 : rf_kc MX12_ofGroup 14 51 1278 yX12_in 1 = true := by decide +kernel
theorem bX12_ofGroup_17 : rf_ckb MX12_ofGroup 17 (.ifCond .ne 9) 9 26 = true := by decide +kernel
def cX12_ofGroup_20 : List rf_I := [(.aload_n 0, 1, 0, 0, 0, 0, 0), (.iconst 1, 1, 0, 0, 0, nI 1, 0)]
theorem kX12_ofGroup_20 : rf_ck MX12_ofGroup 20 cX12_ofGroup_20 = true := by decide +kernel
theorem qX12_ofGroup_22 : rf_kc MX12_ofGroup 22 59 1261 yX12_finds 0 = true := by decide +kernel
theorem eX12_ofGroup_25 : rf_cki MX12_ofGroup 25 .ireturn = true := by decide +kernel
def cX12_ofGroup_26 : List rf_I := [(.iload_n 2, 1, 2, 0, 0, 0, 0)]
theorem kX12_ofGroup_26 : rf_ck MX12_ofGroup 26 cX12_ofGroup_26 = true := by decide +kernel
theorem bX12_ofGroup_27 : rf_ckt MX12_ofGroup 27 65 5 7 [25, 43, 51] [52, 70, 78] 92 = true := by decide +kernel
def cX12_ofGroup_52 : List rf_I := [(.bipush 10, 2, 0, 0, 0, nI 10, 0), (.aload_n 0, 1, 0, 0, 0, 0, 0), (.iload_n 1, 1, 1, 0, 0, 0, 0), (.iconst 5, 1, 0, 0, 0, nI 5, 0)]
theorem kX12_ofGroup_52 : rf_ck MX12_ofGroup 52 cX12_ofGroup_52 = true := by decide +kernel
theorem qX12_ofGroup_57 : rf_kc MX12_ofGroup 57 184 1435 yX12_gr 0 = true := by decide +kernel
def cX12_ofGroup_60 : List rf_I := [(.imul, 1, 0, 0, 0, 0, 0), (.aload_n 0, 1, 0, 0, 0, 0, 0), (.iload_n 1, 1, 1, 0, 0, 0, 0), (.bipush 6, 2, 0, 0, 0, nI 6, 0)]
theorem kX12_ofGroup_60 : rf_ck MX12_ofGroup 60 cX12_ofGroup_60 = true := by decide +kernel
theorem qX12_ofGroup_65 : rf_kc MX12_ofGroup 65 184 1435 yX12_gr 0 = true := by decide +kernel
def cX12_ofGroup_68 : List rf_I := [(.iadd, 1, 0, 0, 0, 0, 0)]
theorem kX12_ofGroup_68 : rf_ck MX12_ofGroup 68 cX12_ofGroup_68 = true := by decide +kernel
theorem eX12_ofGroup_69 : rf_cki MX12_ofGroup 69 .ireturn = true := by decide +kernel
def cX12_ofGroup_70 : List rf_I := [(.aload_n 0, 1, 0, 0, 0, 0, 0), (.iload_n 1, 1, 1, 0, 0, 0, 0), (.bipush 7, 2, 0, 0, 0, nI 7, 0)]
theorem kX12_ofGroup_70 : rf_ck MX12_ofGroup 70 cX12_ofGroup_70 = true := by decide +kernel
theorem qX12_ofGroup_74 : rf_kc MX12_ofGroup 74 184 1435 yX12_gr 0 = true := by decide +kernel
theorem eX12_ofGroup_77 : rf_cki MX12_ofGroup 77 .ireturn = true := by decide +kernel
def cX12_ofGroup_78 : List rf_I := [(.aload_n 0, 1, 0, 0, 0, 0, 0), (.iload_n 1, 1, 1, 0, 0, 0, 0)]
theorem kX12_ofGroup_78 : rf_ck MX12_ofGroup 78 cX12_ofGroup_78 = true := by decide +kernel
theorem qX12_ofGroup_80 : rf_kc MX12_ofGroup 80 201 1439 yX12_pays 0 = true := by decide +kernel
theorem bX12_ofGroup_83 : rf_ckb MX12_ofGroup 83 (.ifCond .eq 7) 7 90 = true := by decide +kernel
def cX12_ofGroup_86 : List rf_I := [(.iconst 1, 1, 0, 0, 0, nI 1, 0)]
theorem kX12_ofGroup_86 : rf_ck MX12_ofGroup 86 cX12_ofGroup_86 = true := by decide +kernel
theorem bX12_ofGroup_87 : rf_ckb MX12_ofGroup 87 (.goto 4) 4 91 = true := by decide +kernel
def cX12_ofGroup_90 : List rf_I := [(.iconst 0, 1, 0, 0, 0, nI 0, 0)]
theorem kX12_ofGroup_90 : rf_ck MX12_ofGroup 90 cX12_ofGroup_90 = true := by decide +kernel
theorem eX12_ofGroup_91 : rf_cki MX12_ofGroup 91 .ireturn = true := by decide +kernel
def cX12_ofGroup_92 : List rf_I := [(.aload_n 0, 1, 0, 0, 0, 0, 0), (.iload_n 1, 1, 1, 0, 0, 0, 0), (.iload_n 2, 1, 2, 0, 0, 0, 0)]
theorem kX12_ofGroup_92 : rf_ck MX12_ofGroup 92 cX12_ofGroup_92 = true := by decide +kernel
theorem qX12_ofGroup_95 : rf_kc MX12_ofGroup 95 184 1435 yX12_gr 0 = true := by decide +kernel
theorem eX12_ofGroup_98 : rf_cki MX12_ofGroup 98 .ireturn = true := by decide +kernel
abbrev MX12_isOf : rf_M := (yX12_isOf, cX12_isOf, 2, (some (.boolean)))
theorem mkX12_isOf : rf_mk MX12_isOf 1 2 1461 85 1460 0 = true := by decide +kernel
def cX12_isOf_0 : List rf_I := [(.iload_n 1, 1, 1, 0, 0, 0, 0)]
theorem kX12_isOf_0 : rf_ck MX12_isOf 0 cX12_isOf_0 = true := by decide +kernel
theorem bX12_isOf_1 : rf_ckb MX12_isOf 1 (.ifCond .eq 45) 45 46 = true := by decide +kernel
def cX12_isOf_4 : List rf_I := [(.iload_n 1, 1, 1, 0, 0, 0, 0), (.iload_n 0, 1, 0, 0, 0, 0, 0)]
theorem kX12_isOf_4 : rf_ck MX12_isOf 4 cX12_isOf_4 = true := by decide +kernel
theorem bX12_isOf_6 : rf_ckb MX12_isOf 6 (.if_icmp .eq 40) 40 46 = true := by decide +kernel
def cX12_isOf_9 : List rf_I := [(.iload_n 1, 1, 1, 0, 0, 0, 0), (.iconst 1, 1, 0, 0, 0, nI 1, 0)]
theorem kX12_isOf_9 : rf_ck MX12_isOf 9 cX12_isOf_9 = true := by decide +kernel
theorem bX12_isOf_11 : rf_ckb MX12_isOf 11 (.if_icmp .ne 9) 9 20 = true := by decide +kernel
def cX12_isOf_14 : List rf_I := [(.iload_n 0, 1, 0, 0, 0, 0, 0), (.bipush 6, 2, 0, 0, 0, nI 6, 0)]
theorem kX12_isOf_14 : rf_ck MX12_isOf 14 cX12_isOf_14 = true := by decide +kernel
theorem bX12_isOf_17 : rf_ckb MX12_isOf 17 (.if_icmp .eq 29) 29 46 = true := by decide +kernel
def cX12_isOf_20 : List rf_I := [(.iload_n 1, 1, 1, 0, 0, 0, 0), (.iconst 2, 1, 0, 0, 0, nI 2, 0)]
theorem kX12_isOf_20 : rf_ck MX12_isOf 20 cX12_isOf_20 = true := by decide +kernel
theorem bX12_isOf_22 : rf_ckb MX12_isOf 22 (.if_icmp .ne 13) 13 35 = true := by decide +kernel
def cX12_isOf_25 : List rf_I := [(.iload_n 0, 1, 0, 0, 0, 0, 0), (.iconst 3, 1, 0, 0, 0, nI 3, 0)]
theorem kX12_isOf_25 : rf_ck MX12_isOf 25 cX12_isOf_25 = true := by decide +kernel
theorem bX12_isOf_27 : rf_ckb MX12_isOf 27 (.if_icmp .eq 19) 19 46 = true := by decide +kernel
def cX12_isOf_30 : List rf_I := [(.iload_n 0, 1, 0, 0, 0, 0, 0), (.iconst 4, 1, 0, 0, 0, nI 4, 0)]
theorem kX12_isOf_30 : rf_ck MX12_isOf 30 cX12_isOf_30 = true := by decide +kernel
theorem bX12_isOf_32 : rf_ckb MX12_isOf 32 (.if_icmp .eq 14) 14 46 = true := by decide +kernel
def cX12_isOf_35 : List rf_I := [(.iload_n 1, 1, 1, 0, 0, 0, 0), (.iconst 5, 1, 0, 0, 0, nI 5, 0)]
theorem kX12_isOf_35 : rf_ck MX12_isOf 35 cX12_isOf_35 = true := by decide +kernel
theorem bX12_isOf_37 : rf_ckb MX12_isOf 37 (.if_icmp .ne 13) 13 50 = true := by decide +kernel
def cX12_isOf_40 : List rf_I := [(.iload_n 0, 1, 0, 0, 0, 0, 0), (.bipush 7, 2, 0, 0, 0, nI 7, 0)]
theorem kX12_isOf_40 : rf_ck MX12_isOf 40 cX12_isOf_40 = true := by decide +kernel
theorem bX12_isOf_43 : rf_ckb MX12_isOf 43 (.if_icmp .ne 7) 7 50 = true := by decide +kernel
def cX12_isOf_46 : List rf_I := [(.iconst 1, 1, 0, 0, 0, nI 1, 0)]
theorem kX12_isOf_46 : rf_ck MX12_isOf 46 cX12_isOf_46 = true := by decide +kernel
theorem bX12_isOf_47 : rf_ckb MX12_isOf 47 (.goto 4) 4 51 = true := by decide +kernel
def cX12_isOf_50 : List rf_I := [(.iconst 0, 1, 0, 0, 0, nI 0, 0)]
theorem kX12_isOf_50 : rf_ck MX12_isOf 50 cX12_isOf_50 = true := by decide +kernel
theorem eX12_isOf_51 : rf_cki MX12_isOf 51 .ireturn = true := by decide +kernel
abbrev MX12_as : rf_M := (yX12_as, cX12_as, 3, (some (.int)))
theorem mkX12_as : rf_mk MX12_as 0 2 1458 85 1456 1457 = true := by decide +kernel
def cX12_as_0 : List rf_I := [(.aload_n 0, 1, 0, 0, 0, 0, 0), (.iload_n 1, 1, 1, 0, 0, 0, 0)]
theorem kX12_as_0 : rf_ck MX12_as 0 cX12_as_0 = true := by decide +kernel
theorem qX12_as_2 : rf_kc MX12_as 2 196 1430 yX12_isGroup 0 = true := by decide +kernel
theorem bX12_as_5 : rf_ckb MX12_as 5 (.ifCond .eq 15) 15 20 = true := by decide +kernel
def cX12_as_8 : List rf_I := [(.iload_n 2, 1, 2, 0, 0, 0, 0), (.i2l, 1, 0, 0, 0, 0, 0), (.lconst 0, 1, 0, 0, 0, 0, lN 0), (.ldc2_w 199, 3, 0, 0, 1434, 0, lN 7)]
theorem kX12_as_8 : rf_ck MX12_as 8 cX12_as_8 = true := by decide +kernel
theorem qX12_as_14 : rf_kc MX12_as 14 51 1278 yX12_in 1 = true := by decide +kernel
theorem bX12_as_17 : rf_ckb MX12_as 17 (.ifCond .ne 9) 9 26 = true := by decide +kernel
def cX12_as_20 : List rf_I := [(.aload_n 0, 1, 0, 0, 0, 0, 0), (.iconst 1, 1, 0, 0, 0, nI 1, 0)]
theorem kX12_as_20 : rf_ck MX12_as 20 cX12_as_20 = true := by decide +kernel
theorem qX12_as_22 : rf_kc MX12_as 22 59 1261 yX12_finds 0 = true := by decide +kernel
theorem eX12_as_25 : rf_cki MX12_as 25 .ireturn = true := by decide +kernel
def cX12_as_26 : List rf_I := [(.aload_n 0, 1, 0, 0, 0, 0, 0), (.iload_n 1, 1, 1, 0, 0, 0, 0), (.iconst 0, 1, 0, 0, 0, nI 0, 0)]
theorem kX12_as_26 : rf_ck MX12_as 26 cX12_as_26 = true := by decide +kernel
theorem qX12_as_29 : rf_kc MX12_as 29 184 1435 yX12_gr 0 = true := by decide +kernel
def cX12_as_32 : List rf_I := [(.iload_n 2, 1, 2, 0, 0, 0, 0)]
theorem kX12_as_32 : rf_ck MX12_as 32 cX12_as_32 = true := by decide +kernel
theorem qX12_as_33 : rf_kc MX12_as 33 204 1459 yX12_isOf 1 = true := by decide +kernel
theorem bX12_as_36 : rf_ckb MX12_as 36 (.ifCond .eq 12) 12 48 = true := by decide +kernel
def cX12_as_39 : List rf_I := [(.aload_n 0, 1, 0, 0, 0, 0, 0), (.iload_n 1, 1, 1, 0, 0, 0, 0), (.iconst 4, 1, 0, 0, 0, nI 4, 0)]
theorem kX12_as_39 : rf_ck MX12_as 39 cX12_as_39 = true := by decide +kernel
theorem qX12_as_42 : rf_kc MX12_as 42 184 1435 yX12_gr 0 = true := by decide +kernel
theorem bX12_as_45 : rf_ckb MX12_as 45 (.goto 8) 8 53 = true := by decide +kernel
def cX12_as_48 : List rf_I := [(.aload_n 0, 1, 0, 0, 0, 0, 0), (.iconst 5, 1, 0, 0, 0, nI 5, 0)]
theorem kX12_as_48 : rf_ck MX12_as 48 cX12_as_48 = true := by decide +kernel
theorem qX12_as_50 : rf_kc MX12_as 50 59 1261 yX12_finds 0 = true := by decide +kernel
theorem eX12_as_53 : rf_cki MX12_as 53 .ireturn = true := by decide +kernel
abbrev MX12_believe : rf_M := (yX12_believe, cX12_believe, 5, (some (.int)))
theorem mkX12_believe : rf_mk MX12_believe 0 2 1465 85 1463 1464 = true := by decide +kernel
def cX12_believe_0 : List rf_I := [(.aload_n 0, 1, 0, 0, 0, 0, 0), (.iload_n 1, 1, 1, 0, 0, 0, 0)]
theorem kX12_believe_0 : rf_ck MX12_believe 0 cX12_believe_0 = true := by decide +kernel
theorem qX12_believe_2 : rf_kc MX12_believe 2 196 1430 yX12_isGroup 0 = true := by decide +kernel
theorem bX12_believe_5 : rf_ckb MX12_believe 5 (.ifCond .eq 10) 10 15 = true := by decide +kernel
def cX12_believe_8 : List rf_I := [(.iload_n 2, 1, 2, 0, 0, 0, 0)]
theorem kX12_believe_8 : rf_ck MX12_believe 8 cX12_believe_8 = true := by decide +kernel
theorem qX12_believe_9 : rf_kc MX12_believe 9 173 1418 yX12_isPart 1 = true := by decide +kernel
theorem bX12_believe_12 : rf_ckb MX12_believe 12 (.ifCond .ne 9) 9 21 = true := by decide +kernel
def cX12_believe_15 : List rf_I := [(.aload_n 0, 1, 0, 0, 0, 0, 0), (.iconst 1, 1, 0, 0, 0, nI 1, 0)]
theorem kX12_believe_15 : rf_ck MX12_believe 15 cX12_believe_15 = true := by decide +kernel
theorem qX12_believe_17 : rf_kc MX12_believe 17 59 1261 yX12_finds 0 = true := by decide +kernel
theorem eX12_believe_20 : rf_cki MX12_believe 20 .ireturn = true := by decide +kernel
def cX12_believe_21 : List rf_I := [(.sipush 190, 3, 0, 0, 0, nI 190, 0), (.bipush 8, 2, 0, 0, 0, nI 8, 0), (.iload_n 1, 1, 1, 0, 0, 0, 0), (.imul, 1, 0, 0, 0, 0, 0), (.iadd, 1, 0, 0, 0, 0, 0), (.istore_n 3, 1, 3, 0, 0, 0, 0), (.bipush 10, 2, 0, 0, 0, nI 10, 0), (.aload_n 0, 1, 0, 0, 0, 0, 0), (.getfield 7, 3, 12, 0, 1184, 0, 0), (.iload_n 3, 1, 3, 0, 0, 0, 0), (.iconst 5, 1, 0, 0, 0, nI 5, 0), (.iadd, 1, 0, 0, 0, 0, 0), (.iaload, 1, 0, 0, 0, 0, 0), (.imul, 1, 0, 0, 0, 0, 0), (.aload_n 0, 1, 0, 0, 0, 0, 0), (.getfield 7, 3, 12, 0, 1184, 0, 0), (.iload_n 3, 1, 3, 0, 0, 0, 0), (.bipush 6, 2, 0, 0, 0, nI 6, 0), (.iadd, 1, 0, 0, 0, 0, 0), (.iaload, 1, 0, 0, 0, 0, 0), (.iadd, 1, 0, 0, 0, 0, 0), (.istore 4, 2, 4, 0, 0, 0, 0), (.aload_n 0, 1, 0, 0, 0, 0, 0), (.getfield 7, 3, 12, 0, 1184, 0, 0), (.iload_n 3, 1, 3, 0, 0, 0, 0), (.iconst 5, 1, 0, 0, 0, nI 5, 0), (.iadd, 1, 0, 0, 0, 0, 0), (.iload_n 2, 1, 2, 0, 0, 0, 0), (.bipush 10, 2, 0, 0, 0, nI 10, 0), (.idiv, 1, 0, 0, 0, 0, 0), (.iastore, 1, 0, 0, 0, 0, 0), (.aload_n 0, 1, 0, 0, 0, 0, 0), (.getfield 7, 3, 12, 0, 1184, 0, 0), (.iload_n 3, 1, 3, 0, 0, 0, 0), (.bipush 6, 2, 0, 0, 0, nI 6, 0), (.iadd, 1, 0, 0, 0, 0, 0), (.iload_n 2, 1, 2, 0, 0, 0, 0), (.bipush 10, 2, 0, 0, 0, nI 10, 0), (.irem, 1, 0, 0, 0, 0, 0), (.iastore, 1, 0, 0, 0, 0, 0), (.iload 4, 2, 4, 0, 0, 0, 0)]
theorem kX12_believe_21 : rf_ck MX12_believe 21 cX12_believe_21 = true := by decide +kernel
theorem eX12_believe_80 : rf_cki MX12_believe 80 .ireturn = true := by decide +kernel
abbrev MX12_price : rf_M := (yX12_price, cX12_price, 4, (some (.int)))
theorem mkX12_price : rf_mk MX12_price 0 2 1469 85 1467 1468 = true := by decide +kernel
def cX12_price_0 : List rf_I := [(.iload_n 1, 1, 1, 0, 0, 0, 0), (.i2l, 1, 0, 0, 0, 0, 0), (.lconst 0, 1, 0, 0, 0, 0, lN 0), (.lconst 1, 1, 0, 0, 0, 0, lN 1)]
theorem kX12_price_0 : rf_ck MX12_price 0 cX12_price_0 = true := by decide +kernel
theorem qX12_price_4 : rf_kc MX12_price 4 51 1278 yX12_in 1 = true := by decide +kernel
theorem bX12_price_7 : rf_ckb MX12_price 7 (.ifCond .eq 34) 34 41 = true := by decide +kernel
def cX12_price_10 : List rf_I := [(.iload_n 1, 1, 1, 0, 0, 0, 0)]
theorem kX12_price_10 : rf_ck MX12_price 10 cX12_price_10 = true := by decide +kernel
theorem bX12_price_11 : rf_ckb MX12_price 11 (.ifCond .ne 18) 18 29 = true := by decide +kernel
def cX12_price_14 : List rf_I := [(.iload_n 2, 1, 2, 0, 0, 0, 0), (.i2l, 1, 0, 0, 0, 0, 0), (.lconst 1, 1, 0, 0, 0, 0, lN 1), (.ldc2_w 207, 3, 0, 0, 1470, 0, lN 99)]
theorem kX12_price_14 : rf_ck MX12_price 14 cX12_price_14 = true := by decide +kernel
theorem qX12_price_20 : rf_kc MX12_price 20 51 1278 yX12_in 1 = true := by decide +kernel
theorem bX12_price_23 : rf_ckb MX12_price 23 (.ifCond .eq 18) 18 41 = true := by decide +kernel
theorem bX12_price_26 : rf_ckb MX12_price 26 (.goto 21) 21 47 = true := by decide +kernel
def cX12_price_29 : List rf_I := [(.iload_n 2, 1, 2, 0, 0, 0, 0), (.i2l, 1, 0, 0, 0, 0, 0), (.lconst 0, 1, 0, 0, 0, 0, lN 0), (.ldc2_w 171, 3, 0, 0, 1417, 0, lN 999)]
theorem kX12_price_29 : rf_ck MX12_price 29 cX12_price_29 = true := by decide +kernel
theorem qX12_price_35 : rf_kc MX12_price 35 51 1278 yX12_in 1 = true := by decide +kernel
theorem bX12_price_38 : rf_ckb MX12_price 38 (.ifCond .ne 9) 9 47 = true := by decide +kernel
def cX12_price_41 : List rf_I := [(.aload_n 0, 1, 0, 0, 0, 0, 0), (.iconst 1, 1, 0, 0, 0, nI 1, 0)]
theorem kX12_price_41 : rf_ck MX12_price 41 cX12_price_41 = true := by decide +kernel
theorem qX12_price_43 : rf_kc MX12_price 43 59 1261 yX12_finds 0 = true := by decide +kernel
theorem eX12_price_46 : rf_cki MX12_price 46 .ireturn = true := by decide +kernel
def cX12_price_47 : List rf_I := [(.aload_n 0, 1, 0, 0, 0, 0, 0), (.getfield 7, 3, 12, 0, 1184, 0, 0), (.bipush 8, 2, 0, 0, 0, nI 8, 0), (.iload_n 1, 1, 1, 0, 0, 0, 0), (.iadd, 1, 0, 0, 0, 0, 0), (.iaload, 1, 0, 0, 0, 0, 0), (.istore_n 3, 1, 3, 0, 0, 0, 0), (.aload_n 0, 1, 0, 0, 0, 0, 0), (.getfield 7, 3, 12, 0, 1184, 0, 0), (.bipush 8, 2, 0, 0, 0, nI 8, 0), (.iload_n 1, 1, 1, 0, 0, 0, 0), (.iadd, 1, 0, 0, 0, 0, 0), (.iload_n 2, 1, 2, 0, 0, 0, 0), (.iastore, 1, 0, 0, 0, 0, 0), (.iload_n 3, 1, 3, 0, 0, 0, 0)]
theorem kX12_price_47 : rf_ck MX12_price 47 cX12_price_47 = true := by decide +kernel
theorem eX12_price_68 : rf_cki MX12_price 68 .ireturn = true := by decide +kernel
abbrev MX12_findRow : rf_M := (yX12_findRow, cX12_findRow, 4, none)
theorem mkX12_findRow : rf_mk MX12_findRow 0 1 1486 85 1485 55 = true := by decide +kernel
def cX12_findRow_0 : List rf_I := [(.aload_n 0, 1, 0, 0, 0, 0, 0), (.iconst 0, 1, 0, 0, 0, nI 0, 0), (.putfield 209, 3, 12, 12, 1196, 0, 0), (.iconst 0, 1, 0, 0, 0, nI 0, 0), (.istore_n 2, 1, 2, 0, 0, 0, 0)]
theorem kX12_findRow_0 : rf_ck MX12_findRow 0 cX12_findRow_0 = true := by decide +kernel
def cX12_findRow_7 : List rf_I := [(.iload_n 2, 1, 2, 0, 0, 0, 0), (.aload_n 0, 1, 0, 0, 0, 0, 0), (.getfield 7, 3, 12, 0, 1184, 0, 0), (.iconst 3, 1, 0, 0, 0, nI 3, 0), (.iaload, 1, 0, 0, 0, 0, 0)]
theorem kX12_findRow_7 : rf_ck MX12_findRow 7 cX12_findRow_7 = true := by decide +kernel
theorem bX12_findRow_14 : rf_ckb MX12_findRow 14 (.if_icmp .ge 84) 84 98 = true := by decide +kernel
def cX12_findRow_17 : List rf_I := [(.iload_n 1, 1, 1, 0, 0, 0, 0), (.iload_n 2, 1, 2, 0, 0, 0, 0), (.ishr, 1, 0, 0, 0, 0, 0), (.iconst 1, 1, 0, 0, 0, nI 1, 0), (.iand, 1, 0, 0, 0, 0, 0), (.iconst 1, 1, 0, 0, 0, nI 1, 0)]
theorem kX12_findRow_17 : rf_ck MX12_findRow 17 cX12_findRow_17 = true := by decide +kernel
theorem bX12_findRow_23 : rf_ckb MX12_findRow 23 (.if_icmp .ne 69) 69 92 = true := by decide +kernel
def cX12_findRow_26 : List rf_I := [(.aload_n 0, 1, 0, 0, 0, 0, 0), (.getfield 209, 3, 12, 12, 1196, 0, 0), (.istore_n 3, 1, 3, 0, 0, 0, 0)]
theorem kX12_findRow_26 : rf_ck MX12_findRow 26 cX12_findRow_26 = true := by decide +kernel
def cX12_findRow_31 : List rf_I := [(.iload_n 3, 1, 3, 0, 0, 0, 0)]
theorem kX12_findRow_31 : rf_ck MX12_findRow 31 cX12_findRow_31 = true := by decide +kernel
theorem bX12_findRow_32 : rf_ckb MX12_findRow 32 (.ifCond .le 43) 43 75 = true := by decide +kernel
def cX12_findRow_35 : List rf_I := [(.aload_n 0, 1, 0, 0, 0, 0, 0), (.aload_n 0, 1, 0, 0, 0, 0, 0), (.getfield 22, 3, 12, 11, 1195, 0, 0), (.iload_n 3, 1, 3, 0, 0, 0, 0), (.iconst 1, 1, 0, 0, 0, nI 1, 0), (.isub, 1, 0, 0, 0, 0, 0), (.iaload, 1, 0, 0, 0, 0, 0)]
theorem kX12_findRow_35 : rf_ck MX12_findRow 35 cX12_findRow_35 = true := by decide +kernel
theorem qX12_findRow_44 : rf_kc MX12_findRow 44 81 1317 yX12_startOf 0 = true := by decide +kernel
def cX12_findRow_47 : List rf_I := [(.aload_n 0, 1, 0, 0, 0, 0, 0), (.iload_n 2, 1, 2, 0, 0, 0, 0)]
theorem kX12_findRow_47 : rf_ck MX12_findRow 47 cX12_findRow_47 = true := by decide +kernel
theorem qX12_findRow_49 : rf_kc MX12_findRow 49 81 1317 yX12_startOf 0 = true := by decide +kernel
theorem bX12_findRow_52 : rf_ckb MX12_findRow 52 (.if_icmp .le 23) 23 75 = true := by decide +kernel
def cX12_findRow_55 : List rf_I := [(.aload_n 0, 1, 0, 0, 0, 0, 0), (.getfield 22, 3, 12, 11, 1195, 0, 0), (.iload_n 3, 1, 3, 0, 0, 0, 0), (.aload_n 0, 1, 0, 0, 0, 0, 0), (.getfield 22, 3, 12, 11, 1195, 0, 0), (.iload_n 3, 1, 3, 0, 0, 0, 0), (.iconst 1, 1, 0, 0, 0, nI 1, 0), (.isub, 1, 0, 0, 0, 0, 0), (.iaload, 1, 0, 0, 0, 0, 0), (.iastore, 1, 0, 0, 0, 0, 0), (.iinc 3 (-1), 3, 3, 0, 0, (-1), 0)]
theorem kX12_findRow_55 : rf_ck MX12_findRow 55 cX12_findRow_55 = true := by decide +kernel
theorem bX12_findRow_72 : rf_ckb MX12_findRow 72 (.goto (-41)) (-41) 31 = true := by decide +kernel
def cX12_findRow_75 : List rf_I := [(.aload_n 0, 1, 0, 0, 0, 0, 0), (.getfield 22, 3, 12, 11, 1195, 0, 0), (.iload_n 3, 1, 3, 0, 0, 0, 0), (.iload_n 2, 1, 2, 0, 0, 0, 0), (.iastore, 1, 0, 0, 0, 0, 0), (.aload_n 0, 1, 0, 0, 0, 0, 0), (.dup, 1, 0, 0, 0, 0, 0), (.getfield 209, 3, 12, 12, 1196, 0, 0), (.iconst 1, 1, 0, 0, 0, nI 1, 0), (.iadd, 1, 0, 0, 0, 0, 0), (.putfield 209, 3, 12, 12, 1196, 0, 0)]
theorem kX12_findRow_75 : rf_ck MX12_findRow 75 cX12_findRow_75 = true := by decide +kernel
def cX12_findRow_92 : List rf_I := [(.iinc 2 1, 3, 2, 0, 0, nI 1, 0)]
theorem kX12_findRow_92 : rf_ck MX12_findRow 92 cX12_findRow_92 = true := by decide +kernel
theorem bX12_findRow_95 : rf_ckb MX12_findRow 95 (.goto (-88)) (-88) 7 = true := by decide +kernel
theorem eX12_findRow_98 : rf_cki MX12_findRow 98 .return_ = true := by decide +kernel
abbrev MX12_whyNot : rf_M := (yX12_whyNot, cX12_whyNot, 7, (some (.int)))
theorem mkX12_whyNot : rf_mk MX12_whyNot 0 1 1482 85 1481 54 = true := by decide +kernel
def cX12_whyNot_0 : List rf_I := [(.aload_n 0, 1, 0, 0, 0, 0, 0), (.iload_n 1, 1, 1, 0, 0, 0, 0)]
theorem kX12_whyNot_0 : rf_ck MX12_whyNot 0 cX12_whyNot_0 = true := by decide +kernel
theorem qX12_whyNot_2 : rf_kc MX12_whyNot 2 212 1483 yX12_findRow 0 = true := by decide +kernel
def cX12_whyNot_5 : List rf_I := [(.iconst 0, 1, 0, 0, 0, nI 0, 0), (.istore_n 2, 1, 2, 0, 0, 0, 0), (.iconst 1, 1, 0, 0, 0, nI 1, 0), (.istore_n 3, 1, 3, 0, 0, 0, 0)]
theorem kX12_whyNot_5 : rf_ck MX12_whyNot 5 cX12_whyNot_5 = true := by decide +kernel
def cX12_whyNot_9 : List rf_I := [(.iload_n 3, 1, 3, 0, 0, 0, 0), (.aload_n 0, 1, 0, 0, 0, 0, 0), (.getfield 209, 3, 12, 12, 1196, 0, 0)]
theorem kX12_whyNot_9 : rf_ck MX12_whyNot 9 cX12_whyNot_9 = true := by decide +kernel
theorem bX12_whyNot_14 : rf_ckb MX12_whyNot 14 (.if_icmp .ge 104) 104 118 = true := by decide +kernel
def cX12_whyNot_17 : List rf_I := [(.aload_n 0, 1, 0, 0, 0, 0, 0), (.getfield 22, 3, 12, 11, 1195, 0, 0), (.iload_n 3, 1, 3, 0, 0, 0, 0), (.iconst 1, 1, 0, 0, 0, nI 1, 0), (.isub, 1, 0, 0, 0, 0, 0), (.iaload, 1, 0, 0, 0, 0, 0), (.istore 4, 2, 4, 0, 0, 0, 0), (.aload_n 0, 1, 0, 0, 0, 0, 0), (.getfield 7, 3, 12, 0, 1184, 0, 0), (.bipush 20, 2, 0, 0, 0, nI 20, 0), (.bipush 8, 2, 0, 0, 0, nI 8, 0), (.aload_n 0, 1, 0, 0, 0, 0, 0), (.iload 4, 2, 4, 0, 0, 0, 0), (.aload_n 0, 1, 0, 0, 0, 0, 0), (.iload 4, 2, 4, 0, 0, 0, 0)]
theorem kX12_whyNot_17 : rf_ck MX12_whyNot 17 cX12_whyNot_17 = true := by decide +kernel
theorem qX12_whyNot_41 : rf_kc MX12_whyNot 41 84 1325 yX12_stopsOf 0 = true := by decide +kernel
def cX12_whyNot_44 : List rf_I := [(.iconst 1, 1, 0, 0, 0, nI 1, 0), (.isub, 1, 0, 0, 0, 0, 0)]
theorem kX12_whyNot_44 : rf_ck MX12_whyNot 44 cX12_whyNot_44 = true := by decide +kernel
theorem qX12_whyNot_46 : rf_kc MX12_whyNot 46 97 1333 yX12_stationAt 0 = true := by decide +kernel
def cX12_whyNot_49 : List rf_I := [(.imul, 1, 0, 0, 0, 0, 0), (.iadd, 1, 0, 0, 0, 0, 0), (.aload_n 0, 1, 0, 0, 0, 0, 0), (.aload_n 0, 1, 0, 0, 0, 0, 0), (.getfield 22, 3, 12, 11, 1195, 0, 0), (.iload_n 3, 1, 3, 0, 0, 0, 0), (.iaload, 1, 0, 0, 0, 0, 0), (.iconst 0, 1, 0, 0, 0, nI 0, 0)]
theorem kX12_whyNot_49 : rf_ck MX12_whyNot 49 cX12_whyNot_49 = true := by decide +kernel
theorem qX12_whyNot_59 : rf_kc MX12_whyNot 59 97 1333 yX12_stationAt 0 = true := by decide +kernel
def cX12_whyNot_62 : List rf_I := [(.iadd, 1, 0, 0, 0, 0, 0), (.iaload, 1, 0, 0, 0, 0, 0), (.istore 5, 2, 5, 0, 0, 0, 0), (.aload_n 0, 1, 0, 0, 0, 0, 0), (.aload_n 0, 1, 0, 0, 0, 0, 0), (.getfield 22, 3, 12, 11, 1195, 0, 0), (.iload_n 3, 1, 3, 0, 0, 0, 0), (.iaload, 1, 0, 0, 0, 0, 0)]
theorem kX12_whyNot_62 : rf_ck MX12_whyNot 62 cX12_whyNot_62 = true := by decide +kernel
theorem qX12_whyNot_73 : rf_kc MX12_whyNot 73 81 1317 yX12_startOf 0 = true := by decide +kernel
def cX12_whyNot_76 : List rf_I := [(.aload_n 0, 1, 0, 0, 0, 0, 0), (.iload 4, 2, 4, 0, 0, 0, 0)]
theorem kX12_whyNot_76 : rf_ck MX12_whyNot 76 cX12_whyNot_76 = true := by decide +kernel
theorem qX12_whyNot_79 : rf_kc MX12_whyNot 79 94 1321 yX12_endOf 0 = true := by decide +kernel
def cX12_whyNot_82 : List rf_I := [(.isub, 1, 0, 0, 0, 0, 0), (.istore 6, 2, 6, 0, 0, 0, 0), (.iload 5, 2, 5, 0, 0, 0, 0)]
theorem kX12_whyNot_82 : rf_ck MX12_whyNot 82 cX12_whyNot_82 = true := by decide +kernel
theorem bX12_whyNot_87 : rf_ckb MX12_whyNot 87 (.ifCond .lt 10) 10 97 = true := by decide +kernel
def cX12_whyNot_90 : List rf_I := [(.iload 6, 2, 6, 0, 0, 0, 0), (.iload 5, 2, 5, 0, 0, 0, 0)]
theorem kX12_whyNot_90 : rf_ck MX12_whyNot 90 cX12_whyNot_90 = true := by decide +kernel
theorem bX12_whyNot_94 : rf_ckb MX12_whyNot 94 (.if_icmp .ge 5) 5 99 = true := by decide +kernel
def cX12_whyNot_97 : List rf_I := [(.iconst 1, 1, 0, 0, 0, nI 1, 0)]
theorem kX12_whyNot_97 : rf_ck MX12_whyNot 97 cX12_whyNot_97 = true := by decide +kernel
theorem eX12_whyNot_98 : rf_cki MX12_whyNot 98 .ireturn = true := by decide +kernel
def cX12_whyNot_99 : List rf_I := [(.iload 6, 2, 6, 0, 0, 0, 0), (.iload_n 2, 1, 2, 0, 0, 0, 0)]
theorem kX12_whyNot_99 : rf_ck MX12_whyNot 99 cX12_whyNot_99 = true := by decide +kernel
theorem bX12_whyNot_102 : rf_ckb MX12_whyNot 102 (.if_icmp .le 8) 8 110 = true := by decide +kernel
def cX12_whyNot_105 : List rf_I := [(.iload 6, 2, 6, 0, 0, 0, 0)]
theorem kX12_whyNot_105 : rf_ck MX12_whyNot 105 cX12_whyNot_105 = true := by decide +kernel
theorem bX12_whyNot_107 : rf_ckb MX12_whyNot 107 (.goto 4) 4 111 = true := by decide +kernel
def cX12_whyNot_110 : List rf_I := [(.iload_n 2, 1, 2, 0, 0, 0, 0)]
theorem kX12_whyNot_110 : rf_ck MX12_whyNot 110 cX12_whyNot_110 = true := by decide +kernel
def cX12_whyNot_111 : List rf_I := [(.istore_n 2, 1, 2, 0, 0, 0, 0), (.iinc 3 1, 3, 3, 0, 0, nI 1, 0)]
theorem kX12_whyNot_111 : rf_ck MX12_whyNot 111 cX12_whyNot_111 = true := by decide +kernel
theorem bX12_whyNot_115 : rf_ckb MX12_whyNot 115 (.goto (-106)) (-106) 9 = true := by decide +kernel
def cX12_whyNot_118 : List rf_I := [(.aload_n 0, 1, 0, 0, 0, 0, 0), (.getfield 19, 3, 12, 10, 1194, 0, 0), (.iconst 0, 1, 0, 0, 0, nI 0, 0), (.aload_n 0, 1, 0, 0, 0, 0, 0), (.getfield 209, 3, 12, 12, 1196, 0, 0), (.iastore, 1, 0, 0, 0, 0, 0), (.aload_n 0, 1, 0, 0, 0, 0, 0), (.getfield 19, 3, 12, 10, 1194, 0, 0), (.iconst 1, 1, 0, 0, 0, nI 1, 0), (.aload_n 0, 1, 0, 0, 0, 0, 0), (.aload_n 0, 1, 0, 0, 0, 0, 0), (.getfield 22, 3, 12, 11, 1195, 0, 0), (.aload_n 0, 1, 0, 0, 0, 0, 0), (.getfield 209, 3, 12, 12, 1196, 0, 0), (.iconst 1, 1, 0, 0, 0, nI 1, 0), (.isub, 1, 0, 0, 0, 0, 0), (.iaload, 1, 0, 0, 0, 0, 0)]
theorem kX12_whyNot_118 : rf_ck MX12_whyNot 118 cX12_whyNot_118 = true := by decide +kernel
theorem qX12_whyNot_145 : rf_kc MX12_whyNot 145 94 1321 yX12_endOf 0 = true := by decide +kernel
def cX12_whyNot_148 : List rf_I := [(.aload_n 0, 1, 0, 0, 0, 0, 0), (.aload_n 0, 1, 0, 0, 0, 0, 0), (.getfield 22, 3, 12, 11, 1195, 0, 0), (.iconst 0, 1, 0, 0, 0, nI 0, 0), (.iaload, 1, 0, 0, 0, 0, 0)]
theorem kX12_whyNot_148 : rf_ck MX12_whyNot 148 cX12_whyNot_148 = true := by decide +kernel
theorem qX12_whyNot_155 : rf_kc MX12_whyNot 155 81 1317 yX12_startOf 0 = true := by decide +kernel
def cX12_whyNot_158 : List rf_I := [(.isub, 1, 0, 0, 0, 0, 0), (.iastore, 1, 0, 0, 0, 0, 0), (.aload_n 0, 1, 0, 0, 0, 0, 0), (.getfield 19, 3, 12, 10, 1194, 0, 0), (.iconst 2, 1, 0, 0, 0, nI 2, 0), (.iload_n 2, 1, 2, 0, 0, 0, 0), (.iastore, 1, 0, 0, 0, 0, 0), (.aload_n 0, 1, 0, 0, 0, 0, 0), (.getfield 19, 3, 12, 10, 1194, 0, 0), (.iconst 3, 1, 0, 0, 0, nI 3, 0), (.aload_n 0, 1, 0, 0, 0, 0, 0), (.aload_n 0, 1, 0, 0, 0, 0, 0), (.getfield 22, 3, 12, 11, 1195, 0, 0), (.iconst 0, 1, 0, 0, 0, nI 0, 0), (.iaload, 1, 0, 0, 0, 0, 0)]
theorem kX12_whyNot_158 : rf_ck MX12_whyNot 158 cX12_whyNot_158 = true := by decide +kernel
theorem qX12_whyNot_179 : rf_kc MX12_whyNot 179 81 1317 yX12_startOf 0 = true := by decide +kernel
def cX12_whyNot_182 : List rf_I := [(.iastore, 1, 0, 0, 0, 0, 0), (.aload_n 0, 1, 0, 0, 0, 0, 0), (.iconst 1, 1, 0, 0, 0, nI 1, 0)]
theorem kX12_whyNot_182 : rf_ck MX12_whyNot 182 cX12_whyNot_182 = true := by decide +kernel
theorem qX12_whyNot_185 : rf_kc MX12_whyNot 185 166 1405 yX12_gives 0 = true := by decide +kernel
theorem bX12_whyNot_188 : rf_ckb MX12_whyNot 188 (.ifCond .ne 7) 7 195 = true := by decide +kernel
def cX12_whyNot_191 : List rf_I := [(.iconst 2, 1, 0, 0, 0, nI 2, 0)]
theorem kX12_whyNot_191 : rf_ck MX12_whyNot 191 cX12_whyNot_191 = true := by decide +kernel
theorem bX12_whyNot_192 : rf_ckb MX12_whyNot 192 (.goto 4) 4 196 = true := by decide +kernel
def cX12_whyNot_195 : List rf_I := [(.iconst 0, 1, 0, 0, 0, nI 0, 0)]
theorem kX12_whyNot_195 : rf_ck MX12_whyNot 195 cX12_whyNot_195 = true := by decide +kernel
theorem eX12_whyNot_196 : rf_cki MX12_whyNot 196 .ireturn = true := by decide +kernel
abbrev MX12_isSet : rf_M := (yX12_isSet, cX12_isSet, 2, (some (.boolean)))
theorem mkX12_isSet : rf_mk MX12_isSet 0 1 1478 85 1477 53 = true := by decide +kernel
def cX12_isSet_0 : List rf_I := [(.iload_n 1, 1, 1, 0, 0, 0, 0), (.i2l, 1, 0, 0, 0, 0, 0), (.lconst 1, 1, 0, 0, 0, 0, lN 1), (.iconst 1, 1, 0, 0, 0, nI 1, 0), (.aload_n 0, 1, 0, 0, 0, 0, 0), (.getfield 7, 3, 12, 0, 1184, 0, 0), (.iconst 3, 1, 0, 0, 0, nI 3, 0), (.iaload, 1, 0, 0, 0, 0, 0), (.ishl, 1, 0, 0, 0, 0, 0), (.iconst 1, 1, 0, 0, 0, nI 1, 0), (.isub, 1, 0, 0, 0, 0, 0), (.i2l, 1, 0, 0, 0, 0, 0)]
theorem kX12_isSet_0 : rf_ck MX12_isSet 0 cX12_isSet_0 = true := by decide +kernel
theorem qX12_isSet_14 : rf_kc MX12_isSet 14 51 1278 yX12_in 1 = true := by decide +kernel
theorem eX12_isSet_17 : rf_cki MX12_isSet 17 .ireturn = true := by decide +kernel
abbrev MX12_walked : rf_M := (yX12_walked, cX12_walked, 2, (some (.int)))
theorem mkX12_walked : rf_mk MX12_walked 0 1 1474 85 1472 1473 = true := by decide +kernel
def cX12_walked_0 : List rf_I := [(.aload_n 0, 1, 0, 0, 0, 0, 0), (.iload_n 1, 1, 1, 0, 0, 0, 0)]
theorem kX12_walked_0 : rf_ck MX12_walked 0 cX12_walked_0 = true := by decide +kernel
theorem qX12_walked_2 : rf_kc MX12_walked 2 216 1475 yX12_isSet 0 = true := by decide +kernel
theorem bX12_walked_5 : rf_ckb MX12_walked 5 (.ifCond .eq 11) 11 16 = true := by decide +kernel
def cX12_walked_8 : List rf_I := [(.aload_n 0, 1, 0, 0, 0, 0, 0), (.iload_n 1, 1, 1, 0, 0, 0, 0)]
theorem kX12_walked_8 : rf_ck MX12_walked 8 cX12_walked_8 = true := by decide +kernel
theorem qX12_walked_10 : rf_kc MX12_walked 10 219 1479 yX12_whyNot 0 = true := by decide +kernel
theorem bX12_walked_13 : rf_ckb MX12_walked 13 (.goto 8) 8 21 = true := by decide +kernel
def cX12_walked_16 : List rf_I := [(.aload_n 0, 1, 0, 0, 0, 0, 0), (.iconst 1, 1, 0, 0, 0, nI 1, 0)]
theorem kX12_walked_16 : rf_ck MX12_walked 16 cX12_walked_16 = true := by decide +kernel
theorem qX12_walked_18 : rf_kc MX12_walked 18 59 1261 yX12_finds 0 = true := by decide +kernel
theorem eX12_walked_21 : rf_cki MX12_walked 21 .ireturn = true := by decide +kernel
abbrev MX12_shift : rf_M := (yX12_shift, cX12_shift, 2, (some (.int)))
theorem mkX12_shift : rf_mk MX12_shift 0 1 1490 85 1488 1489 = true := by decide +kernel
def cX12_shift_0 : List rf_I := [(.aload_n 0, 1, 0, 0, 0, 0, 0), (.iload_n 1, 1, 1, 0, 0, 0, 0)]
theorem kX12_shift_0 : rf_ck MX12_shift 0 cX12_shift_0 = true := by decide +kernel
theorem qX12_shift_2 : rf_kc MX12_shift 2 216 1475 yX12_isSet 0 = true := by decide +kernel
theorem bX12_shift_5 : rf_ckb MX12_shift 5 (.ifCond .ne 9) 9 14 = true := by decide +kernel
def cX12_shift_8 : List rf_I := [(.aload_n 0, 1, 0, 0, 0, 0, 0), (.iconst 1, 1, 0, 0, 0, nI 1, 0)]
theorem kX12_shift_8 : rf_ck MX12_shift 8 cX12_shift_8 = true := by decide +kernel
theorem qX12_shift_10 : rf_kc MX12_shift 10 59 1261 yX12_finds 0 = true := by decide +kernel
theorem eX12_shift_13 : rf_cki MX12_shift 13 .ireturn = true := by decide +kernel
def cX12_shift_14 : List rf_I := [(.aload_n 0, 1, 0, 0, 0, 0, 0), (.iload_n 1, 1, 1, 0, 0, 0, 0)]
theorem kX12_shift_14 : rf_ck MX12_shift 14 cX12_shift_14 = true := by decide +kernel
theorem qX12_shift_16 : rf_kc MX12_shift 16 219 1479 yX12_whyNot 0 = true := by decide +kernel
theorem bX12_shift_19 : rf_ckb MX12_shift 19 (.ifCond .eq 9) 9 28 = true := by decide +kernel
def cX12_shift_22 : List rf_I := [(.aload_n 0, 1, 0, 0, 0, 0, 0), (.iconst 3, 1, 0, 0, 0, nI 3, 0)]
theorem kX12_shift_22 : rf_ck MX12_shift 22 cX12_shift_22 = true := by decide +kernel
theorem qX12_shift_24 : rf_kc MX12_shift 24 59 1261 yX12_finds 0 = true := by decide +kernel
theorem eX12_shift_27 : rf_cki MX12_shift 27 .ireturn = true := by decide +kernel
def cX12_shift_28 : List rf_I := [(.aload_n 0, 1, 0, 0, 0, 0, 0), (.getfield 7, 3, 12, 0, 1184, 0, 0), (.iconst 5, 1, 0, 0, 0, nI 5, 0), (.iaload, 1, 0, 0, 0, 0, 0), (.bipush 8, 2, 0, 0, 0, nI 8, 0)]
theorem kX12_shift_28 : rf_ck MX12_shift 28 cX12_shift_28 = true := by decide +kernel
theorem bX12_shift_36 : rf_ckb MX12_shift 36 (.if_icmp .ne 9) 9 45 = true := by decide +kernel
def cX12_shift_39 : List rf_I := [(.aload_n 0, 1, 0, 0, 0, 0, 0), (.iconst 4, 1, 0, 0, 0, nI 4, 0)]
theorem kX12_shift_39 : rf_ck MX12_shift 39 cX12_shift_39 = true := by decide +kernel
theorem qX12_shift_41 : rf_kc MX12_shift 41 59 1261 yX12_finds 0 = true := by decide +kernel
theorem eX12_shift_44 : rf_cki MX12_shift 44 .ireturn = true := by decide +kernel
def cX12_shift_45 : List rf_I := [(.aload_n 0, 1, 0, 0, 0, 0, 0), (.getfield 7, 3, 12, 0, 1184, 0, 0), (.sipush 320, 3, 0, 0, 0, nI 320, 0), (.aload_n 0, 1, 0, 0, 0, 0, 0), (.getfield 7, 3, 12, 0, 1184, 0, 0), (.iconst 5, 1, 0, 0, 0, nI 5, 0), (.iaload, 1, 0, 0, 0, 0, 0), (.iadd, 1, 0, 0, 0, 0, 0), (.iload_n 1, 1, 1, 0, 0, 0, 0), (.iastore, 1, 0, 0, 0, 0, 0), (.aload_n 0, 1, 0, 0, 0, 0, 0), (.getfield 7, 3, 12, 0, 1184, 0, 0), (.sipush 330, 3, 0, 0, 0, nI 330, 0), (.aload_n 0, 1, 0, 0, 0, 0, 0), (.getfield 7, 3, 12, 0, 1184, 0, 0), (.iconst 5, 1, 0, 0, 0, nI 5, 0), (.iaload, 1, 0, 0, 0, 0, 0), (.iadd, 1, 0, 0, 0, 0, 0), (.iconst 0, 1, 0, 0, 0, nI 0, 0), (.iastore, 1, 0, 0, 0, 0, 0), (.aload_n 0, 1, 0, 0, 0, 0, 0), (.getfield 7, 3, 12, 0, 1184, 0, 0), (.iconst 5, 1, 0, 0, 0, nI 5, 0), (.dup2, 1, 0, 0, 0, 0, 0), (.iaload, 1, 0, 0, 0, 0, 0), (.iconst 1, 1, 0, 0, 0, nI 1, 0), (.iadd, 1, 0, 0, 0, 0, 0), (.iastore, 1, 0, 0, 0, 0, 0), (.aload_n 0, 1, 0, 0, 0, 0, 0), (.getfield 7, 3, 12, 0, 1184, 0, 0), (.iconst 5, 1, 0, 0, 0, nI 5, 0), (.iaload, 1, 0, 0, 0, 0, 0), (.iconst 1, 1, 0, 0, 0, nI 1, 0), (.isub, 1, 0, 0, 0, 0, 0)]
theorem kX12_shift_45 : rf_ck MX12_shift 45 cX12_shift_45 = true := by decide +kernel
theorem eX12_shift_95 : rf_cki MX12_shift 95 .ireturn = true := by decide +kernel
abbrev MX12_lots : rf_M := (yX12_lots, cX12_lots, 4, (some (.int)))
theorem mkX12_lots : rf_mk MX12_lots 0 2 1494 85 1492 1493 = true := by decide +kernel
def cX12_lots_0 : List rf_I := [(.aload_n 0, 1, 0, 0, 0, 0, 0), (.iload_n 1, 1, 1, 0, 0, 0, 0)]
theorem kX12_lots_0 : rf_ck MX12_lots 0 cX12_lots_0 = true := by decide +kernel
theorem qX12_lots_2 : rf_kc MX12_lots 2 222 1495 yX12_isShift 0 = true := by decide +kernel
theorem bX12_lots_5 : rf_ckb MX12_lots 5 (.ifCond .eq 15) 15 20 = true := by decide +kernel
def cX12_lots_8 : List rf_I := [(.iload_n 2, 1, 2, 0, 0, 0, 0), (.i2l, 1, 0, 0, 0, 0, 0), (.lconst 0, 1, 0, 0, 0, 0, lN 0), (.ldc2_w 169, 3, 0, 0, 1421, 0, lN 9)]
theorem kX12_lots_8 : rf_ck MX12_lots 8 cX12_lots_8 = true := by decide +kernel
theorem qX12_lots_14 : rf_kc MX12_lots 14 51 1278 yX12_in 1 = true := by decide +kernel
theorem bX12_lots_17 : rf_ckb MX12_lots 17 (.ifCond .ne 9) 9 26 = true := by decide +kernel
def cX12_lots_20 : List rf_I := [(.aload_n 0, 1, 0, 0, 0, 0, 0), (.iconst 1, 1, 0, 0, 0, nI 1, 0)]
theorem kX12_lots_20 : rf_ck MX12_lots 20 cX12_lots_20 = true := by decide +kernel
theorem qX12_lots_22 : rf_kc MX12_lots 22 59 1261 yX12_finds 0 = true := by decide +kernel
theorem eX12_lots_25 : rf_cki MX12_lots 25 .ireturn = true := by decide +kernel
def cX12_lots_26 : List rf_I := [(.aload_n 0, 1, 0, 0, 0, 0, 0), (.getfield 7, 3, 12, 0, 1184, 0, 0), (.sipush 330, 3, 0, 0, 0, nI 330, 0), (.iload_n 1, 1, 1, 0, 0, 0, 0), (.iadd, 1, 0, 0, 0, 0, 0), (.iaload, 1, 0, 0, 0, 0, 0), (.istore_n 3, 1, 3, 0, 0, 0, 0), (.aload_n 0, 1, 0, 0, 0, 0, 0), (.getfield 7, 3, 12, 0, 1184, 0, 0), (.sipush 330, 3, 0, 0, 0, nI 330, 0), (.iload_n 1, 1, 1, 0, 0, 0, 0), (.iadd, 1, 0, 0, 0, 0, 0), (.iload_n 2, 1, 2, 0, 0, 0, 0), (.iastore, 1, 0, 0, 0, 0, 0), (.iload_n 3, 1, 3, 0, 0, 0, 0)]
theorem kX12_lots_26 : rf_ck MX12_lots 26 cX12_lots_26 = true := by decide +kernel
theorem eX12_lots_49 : rf_cki MX12_lots 49 .ireturn = true := by decide +kernel
abbrev MX12_findsOf : rf_M := (yX12_findsOf, cX12_findsOf, 4, (some (.int)))
theorem mkX12_findsOf : rf_mk MX12_findsOf 0 1 1507 85 1506 57 = true := by decide +kernel
def cX12_findsOf_0 : List rf_I := [(.iconst 0, 1, 0, 0, 0, nI 0, 0), (.istore_n 2, 1, 2, 0, 0, 0, 0), (.iconst 0, 1, 0, 0, 0, nI 0, 0), (.istore_n 3, 1, 3, 0, 0, 0, 0)]
theorem kX12_findsOf_0 : rf_ck MX12_findsOf 0 cX12_findsOf_0 = true := by decide +kernel
def cX12_findsOf_4 : List rf_I := [(.iload_n 3, 1, 3, 0, 0, 0, 0), (.aload_n 0, 1, 0, 0, 0, 0, 0), (.getfield 7, 3, 12, 0, 1184, 0, 0), (.bipush 6, 2, 0, 0, 0, nI 6, 0), (.iaload, 1, 0, 0, 0, 0, 0)]
theorem kX12_findsOf_4 : rf_ck MX12_findsOf 4 cX12_findsOf_4 = true := by decide +kernel
theorem bX12_findsOf_12 : rf_ckb MX12_findsOf 12 (.if_icmp .ge 33) 33 45 = true := by decide +kernel
def cX12_findsOf_15 : List rf_I := [(.iload_n 2, 1, 2, 0, 0, 0, 0), (.aload_n 0, 1, 0, 0, 0, 0, 0), (.getfield 7, 3, 12, 0, 1184, 0, 0), (.sipush 340, 3, 0, 0, 0, nI 340, 0), (.iconst 3, 1, 0, 0, 0, nI 3, 0), (.iload_n 3, 1, 3, 0, 0, 0, 0), (.imul, 1, 0, 0, 0, 0, 0), (.iadd, 1, 0, 0, 0, 0, 0), (.iaload, 1, 0, 0, 0, 0, 0), (.iload_n 1, 1, 1, 0, 0, 0, 0)]
theorem kX12_findsOf_15 : rf_ck MX12_findsOf 15 cX12_findsOf_15 = true := by decide +kernel
theorem bX12_findsOf_29 : rf_ckb MX12_findsOf 29 (.if_icmp .ne 7) 7 36 = true := by decide +kernel
def cX12_findsOf_32 : List rf_I := [(.iconst 1, 1, 0, 0, 0, nI 1, 0)]
theorem kX12_findsOf_32 : rf_ck MX12_findsOf 32 cX12_findsOf_32 = true := by decide +kernel
theorem bX12_findsOf_33 : rf_ckb MX12_findsOf 33 (.goto 4) 4 37 = true := by decide +kernel
def cX12_findsOf_36 : List rf_I := [(.iconst 0, 1, 0, 0, 0, nI 0, 0)]
theorem kX12_findsOf_36 : rf_ck MX12_findsOf 36 cX12_findsOf_36 = true := by decide +kernel
def cX12_findsOf_37 : List rf_I := [(.iadd, 1, 0, 0, 0, 0, 0), (.istore_n 2, 1, 2, 0, 0, 0, 0), (.iinc 3 1, 3, 3, 0, 0, nI 1, 0)]
theorem kX12_findsOf_37 : rf_ck MX12_findsOf 37 cX12_findsOf_37 = true := by decide +kernel
theorem bX12_findsOf_42 : rf_ckb MX12_findsOf 42 (.goto (-38)) (-38) 4 = true := by decide +kernel
def cX12_findsOf_45 : List rf_I := [(.iload_n 2, 1, 2, 0, 0, 0, 0)]
theorem kX12_findsOf_45 : rf_ck MX12_findsOf 45 cX12_findsOf_45 = true := by decide +kernel
theorem eX12_findsOf_46 : rf_cki MX12_findsOf 46 .ireturn = true := by decide +kernel
abbrev MX12_ofShift : rf_M := (yX12_ofShift, cX12_ofShift, 3, (some (.int)))
theorem mkX12_ofShift : rf_mk MX12_ofShift 0 2 1502 85 1500 1501 = true := by decide +kernel
def cX12_ofShift_0 : List rf_I := [(.aload_n 0, 1, 0, 0, 0, 0, 0), (.iload_n 1, 1, 1, 0, 0, 0, 0)]
theorem kX12_ofShift_0 : rf_ck MX12_ofShift 0 cX12_ofShift_0 = true := by decide +kernel
theorem qX12_ofShift_2 : rf_kc MX12_ofShift 2 222 1495 yX12_isShift 0 = true := by decide +kernel
theorem bX12_ofShift_5 : rf_ckb MX12_ofShift 5 (.ifCond .eq 15) 15 20 = true := by decide +kernel
def cX12_ofShift_8 : List rf_I := [(.iload_n 2, 1, 2, 0, 0, 0, 0), (.i2l, 1, 0, 0, 0, 0, 0), (.lconst 0, 1, 0, 0, 0, 0, lN 0), (.ldc2_w 225, 3, 0, 0, 1503, 0, lN 2)]
theorem kX12_ofShift_8 : rf_ck MX12_ofShift 8 cX12_ofShift_8 = true := by decide +kernel
theorem qX12_ofShift_14 : rf_kc MX12_ofShift 14 51 1278 yX12_in 1 = true := by decide +kernel
theorem bX12_ofShift_17 : rf_ckb MX12_ofShift 17 (.ifCond .ne 9) 9 26 = true := by decide +kernel
def cX12_ofShift_20 : List rf_I := [(.aload_n 0, 1, 0, 0, 0, 0, 0), (.iconst 1, 1, 0, 0, 0, nI 1, 0)]
theorem kX12_ofShift_20 : rf_ck MX12_ofShift 20 cX12_ofShift_20 = true := by decide +kernel
theorem qX12_ofShift_22 : rf_kc MX12_ofShift 22 59 1261 yX12_finds 0 = true := by decide +kernel
theorem eX12_ofShift_25 : rf_cki MX12_ofShift 25 .ireturn = true := by decide +kernel
def cX12_ofShift_26 : List rf_I := [(.iload_n 2, 1, 2, 0, 0, 0, 0)]
theorem kX12_ofShift_26 : rf_ck MX12_ofShift 26 cX12_ofShift_26 = true := by decide +kernel
theorem bX12_ofShift_27 : rf_ckb MX12_ofShift 27 (.ifCond .ne 16) 16 43 = true := by decide +kernel
def cX12_ofShift_30 : List rf_I := [(.aload_n 0, 1, 0, 0, 0, 0, 0), (.getfield 7, 3, 12, 0, 1184, 0, 0), (.sipush 320, 3, 0, 0, 0, nI 320, 0), (.iload_n 1, 1, 1, 0, 0, 0, 0), (.iadd, 1, 0, 0, 0, 0, 0), (.iaload, 1, 0, 0, 0, 0, 0)]
theorem kX12_ofShift_30 : rf_ck MX12_ofShift 30 cX12_ofShift_30 = true := by decide +kernel
theorem bX12_ofShift_40 : rf_ckb MX12_ofShift 40 (.goto 26) 26 66 = true := by decide +kernel
def cX12_ofShift_43 : List rf_I := [(.iload_n 2, 1, 2, 0, 0, 0, 0), (.iconst 1, 1, 0, 0, 0, nI 1, 0)]
theorem kX12_ofShift_43 : rf_ck MX12_ofShift 43 cX12_ofShift_43 = true := by decide +kernel
theorem bX12_ofShift_45 : rf_ckb MX12_ofShift 45 (.if_icmp .ne 16) 16 61 = true := by decide +kernel
def cX12_ofShift_48 : List rf_I := [(.aload_n 0, 1, 0, 0, 0, 0, 0), (.getfield 7, 3, 12, 0, 1184, 0, 0), (.sipush 330, 3, 0, 0, 0, nI 330, 0), (.iload_n 1, 1, 1, 0, 0, 0, 0), (.iadd, 1, 0, 0, 0, 0, 0), (.iaload, 1, 0, 0, 0, 0, 0)]
theorem kX12_ofShift_48 : rf_ck MX12_ofShift 48 cX12_ofShift_48 = true := by decide +kernel
theorem bX12_ofShift_58 : rf_ckb MX12_ofShift 58 (.goto 8) 8 66 = true := by decide +kernel
def cX12_ofShift_61 : List rf_I := [(.aload_n 0, 1, 0, 0, 0, 0, 0), (.iload_n 1, 1, 1, 0, 0, 0, 0)]
theorem kX12_ofShift_61 : rf_ck MX12_ofShift 61 cX12_ofShift_61 = true := by decide +kernel
theorem qX12_ofShift_63 : rf_kc MX12_ofShift 63 227 1504 yX12_findsOf 0 = true := by decide +kernel
theorem eX12_ofShift_66 : rf_cki MX12_ofShift 66 .ireturn = true := by decide +kernel
abbrev MX12_common : rf_M := (yX12_common, cX12_common, 10, (some (.long)))
theorem mkX12_common : rf_mk MX12_common 1 2 1517 85 1516 0 = true := by decide +kernel
def cX12_common_0 : List rf_I := [(.lload_n 0, 1, 0, 0, 0, 0, 0), (.lstore 4, 2, 4, 0, 0, 0, 0), (.lload_n 2, 1, 2, 0, 0, 0, 0), (.lstore 6, 2, 6, 0, 0, 0, 0)]
theorem kX12_common_0 : rf_ck MX12_common 0 cX12_common_0 = true := by decide +kernel
def cX12_common_6 : List rf_I := [(.lload 6, 2, 6, 0, 0, 0, 0), (.lconst 0, 1, 0, 0, 0, 0, lN 0), (.lcmp, 1, 0, 0, 0, 0, 0)]
theorem kX12_common_6 : rf_ck MX12_common 6 cX12_common_6 = true := by decide +kernel
theorem bX12_common_10 : rf_ckb MX12_common 10 (.ifCond .eq 21) 21 31 = true := by decide +kernel
def cX12_common_13 : List rf_I := [(.lload 4, 2, 4, 0, 0, 0, 0), (.lload 6, 2, 6, 0, 0, 0, 0), (.lrem, 1, 0, 0, 0, 0, 0), (.lstore 8, 2, 8, 0, 0, 0, 0), (.lload 6, 2, 6, 0, 0, 0, 0), (.lstore 4, 2, 4, 0, 0, 0, 0), (.lload 8, 2, 8, 0, 0, 0, 0), (.lstore 6, 2, 6, 0, 0, 0, 0)]
theorem kX12_common_13 : rf_ck MX12_common 13 cX12_common_13 = true := by decide +kernel
theorem bX12_common_28 : rf_ckb MX12_common 28 (.goto (-22)) (-22) 6 = true := by decide +kernel
def cX12_common_31 : List rf_I := [(.lload 4, 2, 4, 0, 0, 0, 0)]
theorem kX12_common_31 : rf_ck MX12_common 31 cX12_common_31 = true := by decide +kernel
theorem eX12_common_33 : rf_cki MX12_common 33 .lreturn = true := by decide +kernel
abbrev MX12_part : rf_M := (yX12_part, cX12_part, 5, (some (.long)))
theorem mkX12_part : rf_mk MX12_part 1 3 1514 85 1513 0 = true := by decide +kernel
def cX12_part_0 : List rf_I := [(.iload 4, 2, 4, 0, 0, 0, 0)]
theorem kX12_part_0 : rf_ck MX12_part 0 cX12_part_0 = true := by decide +kernel
theorem bX12_part_2 : rf_ckb MX12_part 2 (.ifCond .ne 7) 7 9 = true := by decide +kernel
def cX12_part_5 : List rf_I := [(.lload_n 0, 1, 0, 0, 0, 0, 0)]
theorem kX12_part_5 : rf_ck MX12_part 5 cX12_part_5 = true := by decide +kernel
theorem bX12_part_6 : rf_ckb MX12_part 6 (.goto 4) 4 10 = true := by decide +kernel
def cX12_part_9 : List rf_I := [(.lload_n 2, 1, 2, 0, 0, 0, 0)]
theorem kX12_part_9 : rf_ck MX12_part 9 cX12_part_9 = true := by decide +kernel
def cX12_part_10 : List rf_I := [(.lload_n 0, 1, 0, 0, 0, 0, 0), (.lload_n 2, 1, 2, 0, 0, 0, 0)]
theorem kX12_part_10 : rf_ck MX12_part 10 cX12_part_10 = true := by decide +kernel
theorem qX12_part_12 : rf_kc MX12_part 12 230 1515 yX12_common 1 = true := by decide +kernel
def cX12_part_15 : List rf_I := [(.ldiv, 1, 0, 0, 0, 0, 0)]
theorem kX12_part_15 : rf_ck MX12_part 15 cX12_part_15 = true := by decide +kernel
theorem eX12_part_16 : rf_cki MX12_part 16 .lreturn = true := by decide +kernel
abbrev MX12_odds : rf_M := (yX12_odds, cX12_odds, 4, (some (.int)))
theorem mkX12_odds : rf_mk MX12_odds 0 2 1511 85 1509 1510 = true := by decide +kernel
def cX12_odds_0 : List rf_I := [(.aload_n 0, 1, 0, 0, 0, 0, 0), (.iload_n 1, 1, 1, 0, 0, 0, 0)]
theorem kX12_odds_0 : rf_ck MX12_odds 0 cX12_odds_0 = true := by decide +kernel
theorem qX12_odds_2 : rf_kc MX12_odds 2 91 1309 yX12_isTrain 0 = true := by decide +kernel
theorem bX12_odds_5 : rf_ckb MX12_odds 5 (.ifCond .eq 13) 13 18 = true := by decide +kernel
def cX12_odds_8 : List rf_I := [(.iload_n 2, 1, 2, 0, 0, 0, 0), (.i2l, 1, 0, 0, 0, 0, 0), (.lconst 0, 1, 0, 0, 0, 0, lN 0), (.lconst 1, 1, 0, 0, 0, 0, lN 1)]
theorem kX12_odds_8 : rf_ck MX12_odds 8 cX12_odds_8 = true := by decide +kernel
theorem qX12_odds_12 : rf_kc MX12_odds 12 51 1278 yX12_in 1 = true := by decide +kernel
theorem bX12_odds_15 : rf_ckb MX12_odds 15 (.ifCond .ne 9) 9 24 = true := by decide +kernel
def cX12_odds_18 : List rf_I := [(.aload_n 0, 1, 0, 0, 0, 0, 0), (.iconst 1, 1, 0, 0, 0, nI 1, 0)]
theorem kX12_odds_18 : rf_ck MX12_odds 18 cX12_odds_18 = true := by decide +kernel
theorem qX12_odds_20 : rf_kc MX12_odds 20 59 1261 yX12_finds 0 = true := by decide +kernel
theorem eX12_odds_23 : rf_cki MX12_odds 23 .ireturn = true := by decide +kernel
def cX12_odds_24 : List rf_I := [(.aload_n 0, 1, 0, 0, 0, 0, 0)]
theorem kX12_odds_24 : rf_ck MX12_odds 24 cX12_odds_24 = true := by decide +kernel
theorem qX12_odds_25 : rf_kc MX12_odds 25 190 1443 yX12_allLots 0 = true := by decide +kernel
def cX12_odds_28 : List rf_I := [(.istore_n 3, 1, 3, 0, 0, 0, 0), (.iload_n 3, 1, 3, 0, 0, 0, 0)]
theorem kX12_odds_28 : rf_ck MX12_odds 28 cX12_odds_28 = true := by decide +kernel
theorem bX12_odds_30 : rf_ckb MX12_odds 30 (.ifCond .ne 7) 7 37 = true := by decide +kernel
def cX12_odds_33 : List rf_I := [(.lconst 0, 1, 0, 0, 0, 0, lN 0)]
theorem kX12_odds_33 : rf_ck MX12_odds 33 cX12_odds_33 = true := by decide +kernel
theorem bX12_odds_34 : rf_ckb MX12_odds 34 (.goto 9) 9 43 = true := by decide +kernel
def cX12_odds_37 : List rf_I := [(.aload_n 0, 1, 0, 0, 0, 0, 0), (.iload_n 1, 1, 1, 0, 0, 0, 0)]
theorem kX12_odds_37 : rf_ck MX12_odds 37 cX12_odds_37 = true := by decide +kernel
theorem qX12_odds_39 : rf_kc MX12_odds 39 100 1337 yX12_lotsWith 0 = true := by decide +kernel
def cX12_odds_42 : List rf_I := [(.i2l, 1, 0, 0, 0, 0, 0)]
theorem kX12_odds_42 : rf_ck MX12_odds 42 cX12_odds_42 = true := by decide +kernel
def cX12_odds_43 : List rf_I := [(.iload_n 3, 1, 3, 0, 0, 0, 0)]
theorem kX12_odds_43 : rf_ck MX12_odds 43 cX12_odds_43 = true := by decide +kernel
theorem bX12_odds_44 : rf_ckb MX12_odds 44 (.ifCond .ne 7) 7 51 = true := by decide +kernel
def cX12_odds_47 : List rf_I := [(.lconst 1, 1, 0, 0, 0, 0, lN 1)]
theorem kX12_odds_47 : rf_ck MX12_odds 47 cX12_odds_47 = true := by decide +kernel
theorem bX12_odds_48 : rf_ckb MX12_odds 48 (.goto 5) 5 53 = true := by decide +kernel
def cX12_odds_51 : List rf_I := [(.iload_n 3, 1, 3, 0, 0, 0, 0), (.i2l, 1, 0, 0, 0, 0, 0)]
theorem kX12_odds_51 : rf_ck MX12_odds 51 cX12_odds_51 = true := by decide +kernel
def cX12_odds_53 : List rf_I := [(.iload_n 2, 1, 2, 0, 0, 0, 0)]
theorem kX12_odds_53 : rf_ck MX12_odds 53 cX12_odds_53 = true := by decide +kernel
theorem qX12_odds_54 : rf_kc MX12_odds 54 234 1512 yX12_part 1 = true := by decide +kernel
def cX12_odds_57 : List rf_I := [(.l2i, 1, 0, 0, 0, 0, 0)]
theorem kX12_odds_57 : rf_ck MX12_odds 57 cX12_odds_57 = true := by decide +kernel
theorem eX12_odds_58 : rf_cki MX12_odds 58 .ireturn = true := by decide +kernel
abbrev MX12_unpaidBy : rf_M := (yX12_unpaidBy, cX12_unpaidBy, 5, (some (.int)))
theorem mkX12_unpaidBy : rf_mk MX12_unpaidBy 0 1 1525 85 1524 58 = true := by decide +kernel
def cX12_unpaidBy_0 : List rf_I := [(.iconst 0, 1, 0, 0, 0, nI 0, 0), (.istore_n 2, 1, 2, 0, 0, 0, 0), (.aload_n 0, 1, 0, 0, 0, 0, 0)]
theorem kX12_unpaidBy_0 : rf_ck MX12_unpaidBy 0 cX12_unpaidBy_0 = true := by decide +kernel
theorem qX12_unpaidBy_3 : rf_kc MX12_unpaidBy 3 190 1443 yX12_allLots 0 = true := by decide +kernel
def cX12_unpaidBy_6 : List rf_I := [(.istore_n 3, 1, 3, 0, 0, 0, 0), (.iconst 0, 1, 0, 0, 0, nI 0, 0), (.istore 4, 2, 4, 0, 0, 0, 0)]
theorem kX12_unpaidBy_6 : rf_ck MX12_unpaidBy 6 cX12_unpaidBy_6 = true := by decide +kernel
def cX12_unpaidBy_10 : List rf_I := [(.iload 4, 2, 4, 0, 0, 0, 0), (.aload_n 0, 1, 0, 0, 0, 0, 0), (.getfield 7, 3, 12, 0, 1184, 0, 0), (.iconst 4, 1, 0, 0, 0, nI 4, 0), (.iaload, 1, 0, 0, 0, 0, 0)]
theorem kX12_unpaidBy_10 : rf_ck MX12_unpaidBy 10 cX12_unpaidBy_10 = true := by decide +kernel
theorem bX12_unpaidBy_18 : rf_ckb MX12_unpaidBy 18 (.if_icmp .ge 45) 45 63 = true := by decide +kernel
def cX12_unpaidBy_21 : List rf_I := [(.iload_n 2, 1, 2, 0, 0, 0, 0), (.aload_n 0, 1, 0, 0, 0, 0, 0), (.iload 4, 2, 4, 0, 0, 0, 0), (.aload_n 0, 1, 0, 0, 0, 0, 0), (.aload_n 0, 1, 0, 0, 0, 0, 0), (.iload 4, 2, 4, 0, 0, 0, 0), (.iconst 1, 1, 0, 0, 0, nI 1, 0)]
theorem kX12_unpaidBy_21 : rf_ck MX12_unpaidBy 21 cX12_unpaidBy_21 = true := by decide +kernel
theorem qX12_unpaidBy_30 : rf_kc MX12_unpaidBy 30 184 1435 yX12_gr 0 = true := by decide +kernel
theorem qX12_unpaidBy_33 : rf_kc MX12_unpaidBy 33 100 1337 yX12_lotsWith 0 = true := by decide +kernel
def cX12_unpaidBy_36 : List rf_I := [(.iload_n 3, 1, 3, 0, 0, 0, 0), (.iload_n 1, 1, 1, 0, 0, 0, 0)]
theorem kX12_unpaidBy_36 : rf_ck MX12_unpaidBy 36 cX12_unpaidBy_36 = true := by decide +kernel
theorem qX12_unpaidBy_38 : rf_kc MX12_unpaidBy 38 193 1447 yX12_paysBy 0 = true := by decide +kernel
theorem bX12_unpaidBy_41 : rf_ckb MX12_unpaidBy 41 (.ifCond .eq 7) 7 48 = true := by decide +kernel
def cX12_unpaidBy_44 : List rf_I := [(.iconst 0, 1, 0, 0, 0, nI 0, 0)]
theorem kX12_unpaidBy_44 : rf_ck MX12_unpaidBy 44 cX12_unpaidBy_44 = true := by decide +kernel
theorem bX12_unpaidBy_45 : rf_ckb MX12_unpaidBy 45 (.goto 10) 10 55 = true := by decide +kernel
def cX12_unpaidBy_48 : List rf_I := [(.aload_n 0, 1, 0, 0, 0, 0, 0), (.iload 4, 2, 4, 0, 0, 0, 0), (.iconst 4, 1, 0, 0, 0, nI 4, 0)]
theorem kX12_unpaidBy_48 : rf_ck MX12_unpaidBy 48 cX12_unpaidBy_48 = true := by decide +kernel
theorem qX12_unpaidBy_52 : rf_kc MX12_unpaidBy 52 184 1435 yX12_gr 0 = true := by decide +kernel
def cX12_unpaidBy_55 : List rf_I := [(.iadd, 1, 0, 0, 0, 0, 0), (.istore_n 2, 1, 2, 0, 0, 0, 0), (.iinc 4 1, 3, 4, 0, 0, nI 1, 0)]
theorem kX12_unpaidBy_55 : rf_ck MX12_unpaidBy 55 cX12_unpaidBy_55 = true := by decide +kernel
theorem bX12_unpaidBy_60 : rf_ckb MX12_unpaidBy 60 (.goto (-50)) (-50) 10 = true := by decide +kernel
def cX12_unpaidBy_63 : List rf_I := [(.iload_n 2, 1, 2, 0, 0, 0, 0)]
theorem kX12_unpaidBy_63 : rf_ck MX12_unpaidBy 63 cX12_unpaidBy_63 = true := by decide +kernel
theorem eX12_unpaidBy_64 : rf_cki MX12_unpaidBy 64 .ireturn = true := by decide +kernel
abbrev MX12_unpaid : rf_M := (yX12_unpaid, cX12_unpaid, 1, (some (.int)))
theorem mkX12_unpaid : rf_mk MX12_unpaid 0 0 1521 85 1519 1520 = true := by decide +kernel
def cX12_unpaid_0 : List rf_I := [(.aload_n 0, 1, 0, 0, 0, 0, 0), (.aload_n 0, 1, 0, 0, 0, 0, 0), (.getfield 7, 3, 12, 0, 1184, 0, 0), (.bipush 9, 2, 0, 0, 0, nI 9, 0), (.iaload, 1, 0, 0, 0, 0, 0)]
theorem kX12_unpaid_0 : rf_ck MX12_unpaid 0 cX12_unpaid_0 = true := by decide +kernel
theorem qX12_unpaid_8 : rf_kc MX12_unpaid 8 238 1522 yX12_unpaidBy 0 = true := by decide +kernel
theorem eX12_unpaid_11 : rf_cki MX12_unpaid 11 .ireturn = true := by decide +kernel
abbrev MX12_coinUp : rf_M := (yX12_coinUp, cX12_coinUp, 7, (some (.long)))
theorem mkX12_coinUp : rf_mk MX12_coinUp 0 0 1533 85 1532 59 = true := by decide +kernel
def cX12_coinUp_0 : List rf_I := [(.aload_n 0, 1, 0, 0, 0, 0, 0)]
theorem kX12_coinUp_0 : rf_ck MX12_coinUp 0 cX12_coinUp_0 = true := by decide +kernel
theorem qX12_coinUp_1 : rf_kc MX12_coinUp 1 190 1443 yX12_allLots 0 = true := by decide +kernel
def cX12_coinUp_4 : List rf_I := [(.istore_n 1, 1, 1, 0, 0, 0, 0), (.lconst 0, 1, 0, 0, 0, 0, lN 0), (.lstore_n 2, 1, 2, 0, 0, 0, 0), (.iconst 0, 1, 0, 0, 0, nI 0, 0), (.istore 4, 2, 4, 0, 0, 0, 0)]
theorem kX12_coinUp_4 : rf_ck MX12_coinUp 4 cX12_coinUp_4 = true := by decide +kernel
def cX12_coinUp_10 : List rf_I := [(.iload 4, 2, 4, 0, 0, 0, 0), (.aload_n 0, 1, 0, 0, 0, 0, 0), (.getfield 7, 3, 12, 0, 1184, 0, 0), (.iconst 4, 1, 0, 0, 0, nI 4, 0), (.iaload, 1, 0, 0, 0, 0, 0)]
theorem kX12_coinUp_10 : rf_ck MX12_coinUp 10 cX12_coinUp_10 = true := by decide +kernel
theorem bX12_coinUp_18 : rf_ckb MX12_coinUp 18 (.if_icmp .ge 80) 80 98 = true := by decide +kernel
def cX12_coinUp_21 : List rf_I := [(.aload_n 0, 1, 0, 0, 0, 0, 0), (.iload 4, 2, 4, 0, 0, 0, 0), (.iconst 4, 1, 0, 0, 0, nI 4, 0)]
theorem kX12_coinUp_21 : rf_ck MX12_coinUp 21 cX12_coinUp_21 = true := by decide +kernel
theorem qX12_coinUp_25 : rf_kc MX12_coinUp 25 184 1435 yX12_gr 0 = true := by decide +kernel
def cX12_coinUp_28 : List rf_I := [(.i2l, 1, 0, 0, 0, 0, 0), (.lstore 5, 2, 5, 0, 0, 0, 0), (.lload_n 2, 1, 2, 0, 0, 0, 0), (.aload_n 0, 1, 0, 0, 0, 0, 0), (.iload 4, 2, 4, 0, 0, 0, 0)]
theorem kX12_coinUp_28 : rf_ck MX12_coinUp 28 cX12_coinUp_28 = true := by decide +kernel
theorem qX12_coinUp_35 : rf_kc MX12_coinUp 35 201 1439 yX12_pays 0 = true := by decide +kernel
theorem bX12_coinUp_38 : rf_ckb MX12_coinUp 38 (.ifCond .eq 28) 28 66 = true := by decide +kernel
def cX12_coinUp_41 : List rf_I := [(.lload 5, 2, 5, 0, 0, 0, 0), (.aload_n 0, 1, 0, 0, 0, 0, 0), (.getfield 7, 3, 12, 0, 1184, 0, 0), (.bipush 8, 2, 0, 0, 0, nI 8, 0), (.iaload, 1, 0, 0, 0, 0, 0), (.i2l, 1, 0, 0, 0, 0, 0), (.lmul, 1, 0, 0, 0, 0, 0), (.iload_n 1, 1, 1, 0, 0, 0, 0)]
theorem kX12_coinUp_41 : rf_ck MX12_coinUp 41 cX12_coinUp_41 = true := by decide +kernel
theorem bX12_coinUp_53 : rf_ckb MX12_coinUp 53 (.ifCond .ne 7) 7 60 = true := by decide +kernel
def cX12_coinUp_56 : List rf_I := [(.iconst 1, 1, 0, 0, 0, nI 1, 0)]
theorem kX12_coinUp_56 : rf_ck MX12_coinUp 56 cX12_coinUp_56 = true := by decide +kernel
theorem bX12_coinUp_57 : rf_ckb MX12_coinUp 57 (.goto 4) 4 61 = true := by decide +kernel
def cX12_coinUp_60 : List rf_I := [(.iload_n 1, 1, 1, 0, 0, 0, 0)]
theorem kX12_coinUp_60 : rf_ck MX12_coinUp 60 cX12_coinUp_60 = true := by decide +kernel
def cX12_coinUp_61 : List rf_I := [(.i2l, 1, 0, 0, 0, 0, 0), (.lmul, 1, 0, 0, 0, 0, 0)]
theorem kX12_coinUp_61 : rf_ck MX12_coinUp 61 cX12_coinUp_61 = true := by decide +kernel
theorem bX12_coinUp_63 : rf_ckb MX12_coinUp 63 (.goto 27) 27 90 = true := by decide +kernel
def cX12_coinUp_66 : List rf_I := [(.lload 5, 2, 5, 0, 0, 0, 0), (.aload_n 0, 1, 0, 0, 0, 0, 0), (.getfield 7, 3, 12, 0, 1184, 0, 0), (.bipush 9, 2, 0, 0, 0, nI 9, 0), (.iaload, 1, 0, 0, 0, 0, 0), (.i2l, 1, 0, 0, 0, 0, 0), (.lmul, 1, 0, 0, 0, 0, 0), (.aload_n 0, 1, 0, 0, 0, 0, 0), (.aload_n 0, 1, 0, 0, 0, 0, 0), (.iload 4, 2, 4, 0, 0, 0, 0), (.iconst 1, 1, 0, 0, 0, nI 1, 0)]
theorem kX12_coinUp_66 : rf_ck MX12_coinUp 66 cX12_coinUp_66 = true := by decide +kernel
theorem qX12_coinUp_82 : rf_kc MX12_coinUp 82 184 1435 yX12_gr 0 = true := by decide +kernel
theorem qX12_coinUp_85 : rf_kc MX12_coinUp 85 100 1337 yX12_lotsWith 0 = true := by decide +kernel
def cX12_coinUp_88 : List rf_I := [(.i2l, 1, 0, 0, 0, 0, 0), (.lmul, 1, 0, 0, 0, 0, 0)]
theorem kX12_coinUp_88 : rf_ck MX12_coinUp 88 cX12_coinUp_88 = true := by decide +kernel
def cX12_coinUp_90 : List rf_I := [(.ladd, 1, 0, 0, 0, 0, 0), (.lstore_n 2, 1, 2, 0, 0, 0, 0), (.iinc 4 1, 3, 4, 0, 0, nI 1, 0)]
theorem kX12_coinUp_90 : rf_ck MX12_coinUp 90 cX12_coinUp_90 = true := by decide +kernel
theorem bX12_coinUp_95 : rf_ckb MX12_coinUp 95 (.goto (-85)) (-85) 10 = true := by decide +kernel
def cX12_coinUp_98 : List rf_I := [(.lload_n 2, 1, 2, 0, 0, 0, 0)]
theorem kX12_coinUp_98 : rf_ck MX12_coinUp 98 cX12_coinUp_98 = true := by decide +kernel
theorem eX12_coinUp_99 : rf_cki MX12_coinUp 99 .lreturn = true := by decide +kernel
abbrev MX12_coin : rf_M := (yX12_coin, cX12_coin, 3, (some (.long)))
theorem mkX12_coin : rf_mk MX12_coin 0 1 1529 85 1527 1528 = true := by decide +kernel
def cX12_coin_0 : List rf_I := [(.iload_n 1, 1, 1, 0, 0, 0, 0), (.i2l, 1, 0, 0, 0, 0, 0), (.lconst 0, 1, 0, 0, 0, 0, lN 0), (.lconst 1, 1, 0, 0, 0, 0, lN 1)]
theorem kX12_coin_0 : rf_ck MX12_coin 0 cX12_coin_0 = true := by decide +kernel
theorem qX12_coin_4 : rf_kc MX12_coin 4 51 1278 yX12_in 1 = true := by decide +kernel
theorem bX12_coin_7 : rf_ckb MX12_coin 7 (.ifCond .ne 10) 10 17 = true := by decide +kernel
def cX12_coin_10 : List rf_I := [(.aload_n 0, 1, 0, 0, 0, 0, 0), (.iconst 1, 1, 0, 0, 0, nI 1, 0)]
theorem kX12_coin_10 : rf_ck MX12_coin 10 cX12_coin_10 = true := by decide +kernel
theorem qX12_coin_12 : rf_kc MX12_coin 12 59 1261 yX12_finds 0 = true := by decide +kernel
def cX12_coin_15 : List rf_I := [(.i2l, 1, 0, 0, 0, 0, 0)]
theorem kX12_coin_15 : rf_ck MX12_coin 15 cX12_coin_15 = true := by decide +kernel
theorem eX12_coin_16 : rf_cki MX12_coin 16 .lreturn = true := by decide +kernel
def cX12_coin_17 : List rf_I := [(.aload_n 0, 1, 0, 0, 0, 0, 0)]
theorem kX12_coin_17 : rf_ck MX12_coin 17 cX12_coin_17 = true := by decide +kernel
theorem qX12_coin_18 : rf_kc MX12_coin 18 190 1443 yX12_allLots 0 = true := by decide +kernel
def cX12_coin_21 : List rf_I := [(.istore_n 2, 1, 2, 0, 0, 0, 0), (.aload_n 0, 1, 0, 0, 0, 0, 0)]
theorem kX12_coin_21 : rf_ck MX12_coin 21 cX12_coin_21 = true := by decide +kernel
theorem qX12_coin_23 : rf_kc MX12_coin 23 241 1530 yX12_coinUp 0 = true := by decide +kernel
def cX12_coin_26 : List rf_I := [(.iload_n 2, 1, 2, 0, 0, 0, 0)]
theorem kX12_coin_26 : rf_ck MX12_coin 26 cX12_coin_26 = true := by decide +kernel
theorem bX12_coin_27 : rf_ckb MX12_coin 27 (.ifCond .ne 7) 7 34 = true := by decide +kernel
def cX12_coin_30 : List rf_I := [(.lconst 1, 1, 0, 0, 0, 0, lN 1)]
theorem kX12_coin_30 : rf_ck MX12_coin 30 cX12_coin_30 = true := by decide +kernel
theorem bX12_coin_31 : rf_ckb MX12_coin 31 (.goto 5) 5 36 = true := by decide +kernel
def cX12_coin_34 : List rf_I := [(.iload_n 2, 1, 2, 0, 0, 0, 0), (.i2l, 1, 0, 0, 0, 0, 0)]
theorem kX12_coin_34 : rf_ck MX12_coin 34 cX12_coin_34 = true := by decide +kernel
def cX12_coin_36 : List rf_I := [(.iload_n 1, 1, 1, 0, 0, 0, 0)]
theorem kX12_coin_36 : rf_ck MX12_coin 36 cX12_coin_36 = true := by decide +kernel
theorem qX12_coin_37 : rf_kc MX12_coin 37 234 1512 yX12_part 1 = true := by decide +kernel
theorem eX12_coin_40 : rf_cki MX12_coin 40 .lreturn = true := by decide +kernel
abbrev MX12_isNext : rf_M := (yX12_isNext, cX12_isNext, 4, (some (.boolean)))
theorem mkX12_isNext : rf_mk MX12_isNext 0 1 1546 85 1545 61 = true := by decide +kernel
def cX12_isNext_0 : List rf_I := [(.iload_n 1, 1, 1, 0, 0, 0, 0), (.iconst 1, 1, 0, 0, 0, nI 1, 0), (.isub, 1, 0, 0, 0, 0, 0), (.istore_n 2, 1, 2, 0, 0, 0, 0)]
theorem kX12_isNext_0 : rf_ck MX12_isNext 0 cX12_isNext_0 = true := by decide +kernel
def cX12_isNext_4 : List rf_I := [(.iload_n 2, 1, 2, 0, 0, 0, 0)]
theorem kX12_isNext_4 : rf_ck MX12_isNext 4 cX12_isNext_4 = true := by decide +kernel
theorem bX12_isNext_5 : rf_ckb MX12_isNext 5 (.ifCond .le 22) 22 27 = true := by decide +kernel
def cX12_isNext_8 : List rf_I := [(.aload_n 0, 1, 0, 0, 0, 0, 0), (.getfield 7, 3, 12, 0, 1184, 0, 0), (.sipush 330, 3, 0, 0, 0, nI 330, 0), (.iload_n 2, 1, 2, 0, 0, 0, 0), (.iadd, 1, 0, 0, 0, 0, 0), (.iaload, 1, 0, 0, 0, 0, 0)]
theorem kX12_isNext_8 : rf_ck MX12_isNext 8 cX12_isNext_8 = true := by decide +kernel
theorem bX12_isNext_18 : rf_ckb MX12_isNext 18 (.ifCond .ne 9) 9 27 = true := by decide +kernel
def cX12_isNext_21 : List rf_I := [(.iinc 2 (-1), 3, 2, 0, 0, (-1), 0)]
theorem kX12_isNext_21 : rf_ck MX12_isNext 21 cX12_isNext_21 = true := by decide +kernel
theorem bX12_isNext_24 : rf_ckb MX12_isNext 24 (.goto (-20)) (-20) 4 = true := by decide +kernel
def cX12_isNext_27 : List rf_I := [(.iload_n 2, 1, 2, 0, 0, 0, 0)]
theorem kX12_isNext_27 : rf_ck MX12_isNext 27 cX12_isNext_27 = true := by decide +kernel
theorem bX12_isNext_28 : rf_ckb MX12_isNext 28 (.ifCond .ne 5) 5 33 = true := by decide +kernel
def cX12_isNext_31 : List rf_I := [(.iconst 0, 1, 0, 0, 0, nI 0, 0)]
theorem kX12_isNext_31 : rf_ck MX12_isNext 31 cX12_isNext_31 = true := by decide +kernel
theorem eX12_isNext_32 : rf_cki MX12_isNext 32 .ireturn = true := by decide +kernel
def cX12_isNext_33 : List rf_I := [(.aload_n 0, 1, 0, 0, 0, 0, 0), (.getfield 7, 3, 12, 0, 1184, 0, 0), (.sipush 330, 3, 0, 0, 0, nI 330, 0), (.iload_n 2, 1, 2, 0, 0, 0, 0), (.iadd, 1, 0, 0, 0, 0, 0), (.iaload, 1, 0, 0, 0, 0, 0), (.iconst 1, 1, 0, 0, 0, nI 1, 0), (.isub, 1, 0, 0, 0, 0, 0), (.istore_n 3, 1, 3, 0, 0, 0, 0), (.aload_n 0, 1, 0, 0, 0, 0, 0), (.getfield 7, 3, 12, 0, 1184, 0, 0), (.sipush 330, 3, 0, 0, 0, nI 330, 0), (.iload_n 2, 1, 2, 0, 0, 0, 0), (.iadd, 1, 0, 0, 0, 0, 0), (.iconst 0, 1, 0, 0, 0, nI 0, 0), (.iastore, 1, 0, 0, 0, 0, 0), (.aload_n 0, 1, 0, 0, 0, 0, 0), (.getfield 7, 3, 12, 0, 1184, 0, 0), (.sipush 330, 3, 0, 0, 0, nI 330, 0), (.iload_n 2, 1, 2, 0, 0, 0, 0), (.iadd, 1, 0, 0, 0, 0, 0), (.iconst 1, 1, 0, 0, 0, nI 1, 0), (.isub, 1, 0, 0, 0, 0, 0), (.dup2, 1, 0, 0, 0, 0, 0), (.iaload, 1, 0, 0, 0, 0, 0), (.iconst 1, 1, 0, 0, 0, nI 1, 0), (.iadd, 1, 0, 0, 0, 0, 0), (.iastore, 1, 0, 0, 0, 0, 0), (.aload_n 0, 1, 0, 0, 0, 0, 0), (.getfield 7, 3, 12, 0, 1184, 0, 0), (.sipush 330, 3, 0, 0, 0, nI 330, 0), (.iload_n 1, 1, 1, 0, 0, 0, 0), (.iadd, 1, 0, 0, 0, 0, 0), (.iconst 1, 1, 0, 0, 0, nI 1, 0), (.isub, 1, 0, 0, 0, 0, 0), (.iload_n 3, 1, 3, 0, 0, 0, 0), (.iastore, 1, 0, 0, 0, 0, 0), (.iconst 1, 1, 0, 0, 0, nI 1, 0)]
theorem kX12_isNext_33 : rf_ck MX12_isNext 33 cX12_isNext_33 = true := by decide +kernel
theorem eX12_isNext_87 : rf_cki MX12_isNext 87 .ireturn = true := by decide +kernel
abbrev MX12_findBest : rf_M := (yX12_findBest, cX12_findBest, 10, none)
theorem mkX12_findBest : rf_mk MX12_findBest 0 1 1542 85 1541 60 = true := by decide +kernel
def cX12_findBest_0 : List rf_I := [(.aload_n 0, 1, 0, 0, 0, 0, 0), (.getfield 7, 3, 12, 0, 1184, 0, 0), (.iconst 5, 1, 0, 0, 0, nI 5, 0), (.iaload, 1, 0, 0, 0, 0, 0), (.istore_n 2, 1, 2, 0, 0, 0, 0), (.iconst 0, 1, 0, 0, 0, nI 0, 0), (.istore_n 3, 1, 3, 0, 0, 0, 0)]
theorem kX12_findBest_0 : rf_ck MX12_findBest 0 cX12_findBest_0 = true := by decide +kernel
def cX12_findBest_9 : List rf_I := [(.iload_n 3, 1, 3, 0, 0, 0, 0), (.iload_n 2, 1, 2, 0, 0, 0, 0)]
theorem kX12_findBest_9 : rf_ck MX12_findBest 9 cX12_findBest_9 = true := by decide +kernel
theorem bX12_findBest_11 : rf_ckb MX12_findBest 11 (.if_icmp .ge 47) 47 58 = true := by decide +kernel
def cX12_findBest_14 : List rf_I := [(.aload_n 0, 1, 0, 0, 0, 0, 0), (.getfield 28, 3, 12, 14, 1198, 0, 0), (.iload_n 3, 1, 3, 0, 0, 0, 0), (.aload_n 0, 1, 0, 0, 0, 0, 0), (.getfield 7, 3, 12, 0, 1184, 0, 0), (.sipush 330, 3, 0, 0, 0, nI 330, 0), (.iload_n 3, 1, 3, 0, 0, 0, 0), (.iadd, 1, 0, 0, 0, 0, 0), (.iaload, 1, 0, 0, 0, 0, 0), (.iastore, 1, 0, 0, 0, 0, 0), (.aload_n 0, 1, 0, 0, 0, 0, 0), (.getfield 7, 3, 12, 0, 1184, 0, 0), (.sipush 330, 3, 0, 0, 0, nI 330, 0), (.iload_n 3, 1, 3, 0, 0, 0, 0), (.iadd, 1, 0, 0, 0, 0, 0), (.iload_n 3, 1, 3, 0, 0, 0, 0), (.iload_n 2, 1, 2, 0, 0, 0, 0), (.iconst 1, 1, 0, 0, 0, nI 1, 0), (.isub, 1, 0, 0, 0, 0, 0)]
theorem kX12_findBest_14 : rf_ck MX12_findBest 14 cX12_findBest_14 = true := by decide +kernel
theorem bX12_findBest_43 : rf_ckb MX12_findBest 43 (.if_icmp .ne 7) 7 50 = true := by decide +kernel
def cX12_findBest_46 : List rf_I := [(.iload_n 1, 1, 1, 0, 0, 0, 0)]
theorem kX12_findBest_46 : rf_ck MX12_findBest 46 cX12_findBest_46 = true := by decide +kernel
theorem bX12_findBest_47 : rf_ckb MX12_findBest 47 (.goto 4) 4 51 = true := by decide +kernel
def cX12_findBest_50 : List rf_I := [(.iconst 0, 1, 0, 0, 0, nI 0, 0)]
theorem kX12_findBest_50 : rf_ck MX12_findBest 50 cX12_findBest_50 = true := by decide +kernel
def cX12_findBest_51 : List rf_I := [(.iastore, 1, 0, 0, 0, 0, 0), (.iinc 3 1, 3, 3, 0, 0, nI 1, 0)]
theorem kX12_findBest_51 : rf_ck MX12_findBest 51 cX12_findBest_51 = true := by decide +kernel
theorem bX12_findBest_55 : rf_ckb MX12_findBest 55 (.goto (-46)) (-46) 9 = true := by decide +kernel
def cX12_findBest_58 : List rf_I := [(.aload_n 0, 1, 0, 0, 0, 0, 0), (.iconst (-1), 1, 0, 0, 0, (-1), 0), (.putfield 245, 3, 12, 15, 1199, 0, 0), (.lconst 0, 1, 0, 0, 0, 0, lN 0), (.lstore_n 3, 1, 3, 0, 0, 0, 0), (.iconst 1, 1, 0, 0, 0, nI 1, 0), (.istore 5, 2, 5, 0, 0, 0, 0)]
theorem kX12_findBest_58 : rf_ck MX12_findBest 58 cX12_findBest_58 = true := by decide +kernel
def cX12_findBest_68 : List rf_I := [(.iload 5, 2, 5, 0, 0, 0, 0)]
theorem kX12_findBest_68 : rf_ck MX12_findBest 68 cX12_findBest_68 = true := by decide +kernel
theorem bX12_findBest_70 : rf_ckb MX12_findBest 70 (.ifCond .eq 126) 126 196 = true := by decide +kernel
def cX12_findBest_73 : List rf_I := [(.aload_n 0, 1, 0, 0, 0, 0, 0), (.aload_n 0, 1, 0, 0, 0, 0, 0), (.getfield 7, 3, 12, 0, 1184, 0, 0), (.bipush 9, 2, 0, 0, 0, nI 9, 0), (.iaload, 1, 0, 0, 0, 0, 0)]
theorem kX12_findBest_73 : rf_ck MX12_findBest 73 cX12_findBest_73 = true := by decide +kernel
theorem qX12_findBest_81 : rf_kc MX12_findBest 81 238 1522 yX12_unpaidBy 0 = true := by decide +kernel
def cX12_findBest_84 : List rf_I := [(.istore 6, 2, 6, 0, 0, 0, 0), (.aload_n 0, 1, 0, 0, 0, 0, 0), (.getfield 245, 3, 12, 15, 1199, 0, 0)]
theorem kX12_findBest_84 : rf_ck MX12_findBest 84 cX12_findBest_84 = true := by decide +kernel
theorem bX12_findBest_90 : rf_ckb MX12_findBest 90 (.ifCond .lt 12) 12 102 = true := by decide +kernel
def cX12_findBest_93 : List rf_I := [(.iload 6, 2, 6, 0, 0, 0, 0), (.aload_n 0, 1, 0, 0, 0, 0, 0), (.getfield 245, 3, 12, 15, 1199, 0, 0)]
theorem kX12_findBest_93 : rf_ck MX12_findBest 93 cX12_findBest_93 = true := by decide +kernel
theorem bX12_findBest_99 : rf_ckb MX12_findBest 99 (.if_icmp .gt 10) 10 109 = true := by decide +kernel
def cX12_findBest_102 : List rf_I := [(.aload_n 0, 1, 0, 0, 0, 0, 0)]
theorem kX12_findBest_102 : rf_ck MX12_findBest 102 cX12_findBest_102 = true := by decide +kernel
theorem qX12_findBest_103 : rf_kc MX12_findBest 103 241 1530 yX12_coinUp 0 = true := by decide +kernel
theorem bX12_findBest_106 : rf_ckb MX12_findBest 106 (.goto 4) 4 110 = true := by decide +kernel
def cX12_findBest_109 : List rf_I := [(.lconst 0, 1, 0, 0, 0, 0, lN 0)]
theorem kX12_findBest_109 : rf_ck MX12_findBest 109 cX12_findBest_109 = true := by decide +kernel
def cX12_findBest_110 : List rf_I := [(.lstore 7, 2, 7, 0, 0, 0, 0), (.aload_n 0, 1, 0, 0, 0, 0, 0), (.getfield 245, 3, 12, 15, 1199, 0, 0)]
theorem kX12_findBest_110 : rf_ck MX12_findBest 110 cX12_findBest_110 = true := by decide +kernel
theorem bX12_findBest_116 : rf_ckb MX12_findBest 116 (.ifCond .lt 28) 28 144 = true := by decide +kernel
def cX12_findBest_119 : List rf_I := [(.iload 6, 2, 6, 0, 0, 0, 0), (.aload_n 0, 1, 0, 0, 0, 0, 0), (.getfield 245, 3, 12, 15, 1199, 0, 0)]
theorem kX12_findBest_119 : rf_ck MX12_findBest 119 cX12_findBest_119 = true := by decide +kernel
theorem bX12_findBest_125 : rf_ckb MX12_findBest 125 (.if_icmp .lt 19) 19 144 = true := by decide +kernel
def cX12_findBest_128 : List rf_I := [(.iload 6, 2, 6, 0, 0, 0, 0), (.aload_n 0, 1, 0, 0, 0, 0, 0), (.getfield 245, 3, 12, 15, 1199, 0, 0)]
theorem kX12_findBest_128 : rf_ck MX12_findBest 128 cX12_findBest_128 = true := by decide +kernel
theorem bX12_findBest_134 : rf_ckb MX12_findBest 134 (.if_icmp .ne 52) 52 186 = true := by decide +kernel
def cX12_findBest_137 : List rf_I := [(.lload 7, 2, 7, 0, 0, 0, 0), (.lload_n 3, 1, 3, 0, 0, 0, 0), (.lcmp, 1, 0, 0, 0, 0, 0)]
theorem kX12_findBest_137 : rf_ck MX12_findBest 137 cX12_findBest_137 = true := by decide +kernel
theorem bX12_findBest_141 : rf_ckb MX12_findBest 141 (.ifCond .le 45) 45 186 = true := by decide +kernel
def cX12_findBest_144 : List rf_I := [(.aload_n 0, 1, 0, 0, 0, 0, 0), (.iload 6, 2, 6, 0, 0, 0, 0), (.putfield 245, 3, 12, 15, 1199, 0, 0), (.lload 7, 2, 7, 0, 0, 0, 0), (.lstore_n 3, 1, 3, 0, 0, 0, 0), (.iconst 0, 1, 0, 0, 0, nI 0, 0), (.istore 9, 2, 9, 0, 0, 0, 0)]
theorem kX12_findBest_144 : rf_ck MX12_findBest 144 cX12_findBest_144 = true := by decide +kernel
def cX12_findBest_156 : List rf_I := [(.iload 9, 2, 9, 0, 0, 0, 0), (.iload_n 2, 1, 2, 0, 0, 0, 0)]
theorem kX12_findBest_156 : rf_ck MX12_findBest 156 cX12_findBest_156 = true := by decide +kernel
theorem bX12_findBest_159 : rf_ckb MX12_findBest 159 (.if_icmp .ge 27) 27 186 = true := by decide +kernel
def cX12_findBest_162 : List rf_I := [(.aload_n 0, 1, 0, 0, 0, 0, 0), (.getfield 25, 3, 12, 13, 1197, 0, 0), (.iload 9, 2, 9, 0, 0, 0, 0), (.aload_n 0, 1, 0, 0, 0, 0, 0), (.getfield 7, 3, 12, 0, 1184, 0, 0), (.sipush 330, 3, 0, 0, 0, nI 330, 0), (.iload 9, 2, 9, 0, 0, 0, 0), (.iadd, 1, 0, 0, 0, 0, 0), (.iaload, 1, 0, 0, 0, 0, 0), (.iastore, 1, 0, 0, 0, 0, 0), (.iinc 9 1, 3, 9, 0, 0, nI 1, 0)]
theorem kX12_findBest_162 : rf_ck MX12_findBest 162 cX12_findBest_162 = true := by decide +kernel
theorem bX12_findBest_183 : rf_ckb MX12_findBest 183 (.goto (-27)) (-27) 156 = true := by decide +kernel
def cX12_findBest_186 : List rf_I := [(.aload_n 0, 1, 0, 0, 0, 0, 0), (.iload_n 2, 1, 2, 0, 0, 0, 0)]
theorem kX12_findBest_186 : rf_ck MX12_findBest 186 cX12_findBest_186 = true := by decide +kernel
theorem qX12_findBest_188 : rf_kc MX12_findBest 188 248 1543 yX12_isNext 0 = true := by decide +kernel
def cX12_findBest_191 : List rf_I := [(.istore 5, 2, 5, 0, 0, 0, 0)]
theorem kX12_findBest_191 : rf_ck MX12_findBest 191 cX12_findBest_191 = true := by decide +kernel
theorem bX12_findBest_193 : rf_ckb MX12_findBest 193 (.goto (-125)) (-125) 68 = true := by decide +kernel
def cX12_findBest_196 : List rf_I := [(.iconst 0, 1, 0, 0, 0, nI 0, 0), (.istore 6, 2, 6, 0, 0, 0, 0)]
theorem kX12_findBest_196 : rf_ck MX12_findBest 196 cX12_findBest_196 = true := by decide +kernel
def cX12_findBest_199 : List rf_I := [(.iload 6, 2, 6, 0, 0, 0, 0), (.iload_n 2, 1, 2, 0, 0, 0, 0)]
theorem kX12_findBest_199 : rf_ck MX12_findBest 199 cX12_findBest_199 = true := by decide +kernel
theorem bX12_findBest_202 : rf_ckb MX12_findBest 202 (.if_icmp .ge 27) 27 229 = true := by decide +kernel
def cX12_findBest_205 : List rf_I := [(.aload_n 0, 1, 0, 0, 0, 0, 0), (.getfield 7, 3, 12, 0, 1184, 0, 0), (.sipush 330, 3, 0, 0, 0, nI 330, 0), (.iload 6, 2, 6, 0, 0, 0, 0), (.iadd, 1, 0, 0, 0, 0, 0), (.aload_n 0, 1, 0, 0, 0, 0, 0), (.getfield 28, 3, 12, 14, 1198, 0, 0), (.iload 6, 2, 6, 0, 0, 0, 0), (.iaload, 1, 0, 0, 0, 0, 0), (.iastore, 1, 0, 0, 0, 0, 0), (.iinc 6 1, 3, 6, 0, 0, nI 1, 0)]
theorem kX12_findBest_205 : rf_ck MX12_findBest 205 cX12_findBest_205 = true := by decide +kernel
theorem bX12_findBest_226 : rf_ckb MX12_findBest 226 (.goto (-27)) (-27) 199 = true := by decide +kernel
theorem eX12_findBest_229 : rf_cki MX12_findBest 229 .return_ = true := by decide +kernel
abbrev MX12_best : rf_M := (yX12_best, cX12_best, 3, (some (.int)))
theorem mkX12_best : rf_mk MX12_best 0 2 1537 85 1535 1536 = true := by decide +kernel
def cX12_best_0 : List rf_I := [(.iload_n 1, 1, 1, 0, 0, 0, 0), (.i2l, 1, 0, 0, 0, 0, 0), (.lconst 1, 1, 0, 0, 0, 0, lN 1), (.ldc2_w 251, 3, 0, 0, 1538, 0, lN 5)]
theorem kX12_best_0 : rf_ck MX12_best 0 cX12_best_0 = true := by decide +kernel
theorem qX12_best_6 : rf_kc MX12_best 6 51 1278 yX12_in 1 = true := by decide +kernel
theorem bX12_best_9 : rf_ckb MX12_best 9 (.ifCond .eq 8) 8 17 = true := by decide +kernel
def cX12_best_12 : List rf_I := [(.iload_n 2, 1, 2, 0, 0, 0, 0), (.iconst (-1), 1, 0, 0, 0, (-1), 0)]
theorem kX12_best_12 : rf_ck MX12_best 12 cX12_best_12 = true := by decide +kernel
theorem bX12_best_14 : rf_ckb MX12_best 14 (.if_icmp .ge 9) 9 23 = true := by decide +kernel
def cX12_best_17 : List rf_I := [(.aload_n 0, 1, 0, 0, 0, 0, 0), (.iconst 1, 1, 0, 0, 0, nI 1, 0)]
theorem kX12_best_17 : rf_ck MX12_best 17 cX12_best_17 = true := by decide +kernel
theorem qX12_best_19 : rf_kc MX12_best 19 59 1261 yX12_finds 0 = true := by decide +kernel
theorem eX12_best_22 : rf_cki MX12_best 22 .ireturn = true := by decide +kernel
def cX12_best_23 : List rf_I := [(.aload_n 0, 1, 0, 0, 0, 0, 0), (.getfield 7, 3, 12, 0, 1184, 0, 0), (.iconst 5, 1, 0, 0, 0, nI 5, 0), (.iaload, 1, 0, 0, 0, 0, 0)]
theorem kX12_best_23 : rf_ck MX12_best 23 cX12_best_23 = true := by decide +kernel
theorem bX12_best_29 : rf_ckb MX12_best 29 (.ifCond .eq 13) 13 42 = true := by decide +kernel
def cX12_best_32 : List rf_I := [(.iload_n 2, 1, 2, 0, 0, 0, 0), (.aload_n 0, 1, 0, 0, 0, 0, 0), (.getfield 7, 3, 12, 0, 1184, 0, 0), (.iconst 5, 1, 0, 0, 0, nI 5, 0), (.iaload, 1, 0, 0, 0, 0, 0)]
theorem kX12_best_32 : rf_ck MX12_best 32 cX12_best_32 = true := by decide +kernel
theorem bX12_best_39 : rf_ckb MX12_best 39 (.if_icmp .lt 9) 9 48 = true := by decide +kernel
def cX12_best_42 : List rf_I := [(.aload_n 0, 1, 0, 0, 0, 0, 0), (.iconst 2, 1, 0, 0, 0, nI 2, 0)]
theorem kX12_best_42 : rf_ck MX12_best 42 cX12_best_42 = true := by decide +kernel
theorem qX12_best_44 : rf_kc MX12_best 44 59 1261 yX12_finds 0 = true := by decide +kernel
theorem eX12_best_47 : rf_cki MX12_best 47 .ireturn = true := by decide +kernel
def cX12_best_48 : List rf_I := [(.aload_n 0, 1, 0, 0, 0, 0, 0), (.iload_n 1, 1, 1, 0, 0, 0, 0)]
theorem kX12_best_48 : rf_ck MX12_best 48 cX12_best_48 = true := by decide +kernel
theorem qX12_best_50 : rf_kc MX12_best 50 253 1539 yX12_findBest 0 = true := by decide +kernel
def cX12_best_53 : List rf_I := [(.iload_n 2, 1, 2, 0, 0, 0, 0), (.iconst (-1), 1, 0, 0, 0, (-1), 0)]
theorem kX12_best_53 : rf_ck MX12_best 53 cX12_best_53 = true := by decide +kernel
theorem bX12_best_55 : rf_ckb MX12_best 55 (.if_icmp .ne 10) 10 65 = true := by decide +kernel
def cX12_best_58 : List rf_I := [(.aload_n 0, 1, 0, 0, 0, 0, 0), (.getfield 245, 3, 12, 15, 1199, 0, 0)]
theorem kX12_best_58 : rf_ck MX12_best 58 cX12_best_58 = true := by decide +kernel
theorem bX12_best_62 : rf_ckb MX12_best 62 (.goto 9) 9 71 = true := by decide +kernel
def cX12_best_65 : List rf_I := [(.aload_n 0, 1, 0, 0, 0, 0, 0), (.getfield 25, 3, 12, 13, 1197, 0, 0), (.iload_n 2, 1, 2, 0, 0, 0, 0), (.iaload, 1, 0, 0, 0, 0, 0)]
theorem kX12_best_65 : rf_ck MX12_best 65 cX12_best_65 = true := by decide +kernel
theorem eX12_best_71 : rf_cki MX12_best 71 .ireturn = true := by decide +kernel
abbrev MX12_plan : rf_M := (yX12_plan, cX12_plan, 3, (some (.int)))
theorem mkX12_plan : rf_mk MX12_plan 0 1 1550 85 1548 1549 = true := by decide +kernel
def cX12_plan_0 : List rf_I := [(.iload_n 1, 1, 1, 0, 0, 0, 0), (.i2l, 1, 0, 0, 0, 0, 0), (.lconst 1, 1, 0, 0, 0, 0, lN 1), (.ldc2_w 251, 3, 0, 0, 1538, 0, lN 5)]
theorem kX12_plan_0 : rf_ck MX12_plan 0 cX12_plan_0 = true := by decide +kernel
theorem qX12_plan_6 : rf_kc MX12_plan 6 51 1278 yX12_in 1 = true := by decide +kernel
theorem bX12_plan_9 : rf_ckb MX12_plan 9 (.ifCond .ne 9) 9 18 = true := by decide +kernel
def cX12_plan_12 : List rf_I := [(.aload_n 0, 1, 0, 0, 0, 0, 0), (.iconst 1, 1, 0, 0, 0, nI 1, 0)]
theorem kX12_plan_12 : rf_ck MX12_plan 12 cX12_plan_12 = true := by decide +kernel
theorem qX12_plan_14 : rf_kc MX12_plan 14 59 1261 yX12_finds 0 = true := by decide +kernel
theorem eX12_plan_17 : rf_cki MX12_plan 17 .ireturn = true := by decide +kernel
def cX12_plan_18 : List rf_I := [(.aload_n 0, 1, 0, 0, 0, 0, 0), (.getfield 7, 3, 12, 0, 1184, 0, 0), (.iconst 5, 1, 0, 0, 0, nI 5, 0), (.iaload, 1, 0, 0, 0, 0, 0)]
theorem kX12_plan_18 : rf_ck MX12_plan 18 cX12_plan_18 = true := by decide +kernel
theorem bX12_plan_24 : rf_ckb MX12_plan 24 (.ifCond .ne 9) 9 33 = true := by decide +kernel
def cX12_plan_27 : List rf_I := [(.aload_n 0, 1, 0, 0, 0, 0, 0), (.iconst 2, 1, 0, 0, 0, nI 2, 0)]
theorem kX12_plan_27 : rf_ck MX12_plan 27 cX12_plan_27 = true := by decide +kernel
theorem qX12_plan_29 : rf_kc MX12_plan 29 59 1261 yX12_finds 0 = true := by decide +kernel
theorem eX12_plan_32 : rf_cki MX12_plan 32 .ireturn = true := by decide +kernel
def cX12_plan_33 : List rf_I := [(.aload_n 0, 1, 0, 0, 0, 0, 0), (.iload_n 1, 1, 1, 0, 0, 0, 0)]
theorem kX12_plan_33 : rf_ck MX12_plan 33 cX12_plan_33 = true := by decide +kernel
theorem qX12_plan_35 : rf_kc MX12_plan 35 253 1539 yX12_findBest 0 = true := by decide +kernel
def cX12_plan_38 : List rf_I := [(.iconst 0, 1, 0, 0, 0, nI 0, 0), (.istore_n 2, 1, 2, 0, 0, 0, 0)]
theorem kX12_plan_38 : rf_ck MX12_plan 38 cX12_plan_38 = true := by decide +kernel
def cX12_plan_40 : List rf_I := [(.iload_n 2, 1, 2, 0, 0, 0, 0), (.aload_n 0, 1, 0, 0, 0, 0, 0), (.getfield 7, 3, 12, 0, 1184, 0, 0), (.iconst 5, 1, 0, 0, 0, nI 5, 0), (.iaload, 1, 0, 0, 0, 0, 0)]
theorem kX12_plan_40 : rf_ck MX12_plan 40 cX12_plan_40 = true := by decide +kernel
theorem bX12_plan_47 : rf_ckb MX12_plan 47 (.if_icmp .ge 25) 25 72 = true := by decide +kernel
def cX12_plan_50 : List rf_I := [(.aload_n 0, 1, 0, 0, 0, 0, 0), (.getfield 7, 3, 12, 0, 1184, 0, 0), (.sipush 330, 3, 0, 0, 0, nI 330, 0), (.iload_n 2, 1, 2, 0, 0, 0, 0), (.iadd, 1, 0, 0, 0, 0, 0), (.aload_n 0, 1, 0, 0, 0, 0, 0), (.getfield 25, 3, 12, 13, 1197, 0, 0), (.iload_n 2, 1, 2, 0, 0, 0, 0), (.iaload, 1, 0, 0, 0, 0, 0), (.iastore, 1, 0, 0, 0, 0, 0), (.iinc 2 1, 3, 2, 0, 0, nI 1, 0)]
theorem kX12_plan_50 : rf_ck MX12_plan 50 cX12_plan_50 = true := by decide +kernel
theorem bX12_plan_69 : rf_ckb MX12_plan 69 (.goto (-29)) (-29) 40 = true := by decide +kernel
def cX12_plan_72 : List rf_I := [(.aload_n 0, 1, 0, 0, 0, 0, 0), (.getfield 245, 3, 12, 15, 1199, 0, 0)]
theorem kX12_plan_72 : rf_ck MX12_plan 72 cX12_plan_72 = true := by decide +kernel
theorem eX12_plan_76 : rf_cki MX12_plan 76 .ireturn = true := by decide +kernel
abbrev MX12_drawn : rf_M := (yX12_drawn, cX12_drawn, 1, (some (.int)))
theorem mkX12_drawn : rf_mk MX12_drawn 0 0 1563 85 1562 63 = true := by decide +kernel
def cX12_drawn_0 : List rf_I := [(.aload_n 0, 1, 0, 0, 0, 0, 0), (.getfield 7, 3, 12, 0, 1184, 0, 0), (.bipush 10, 2, 0, 0, 0, nI 10, 0), (.aload_n 0, 1, 0, 0, 0, 0, 0), (.getfield 7, 3, 12, 0, 1184, 0, 0), (.bipush 10, 2, 0, 0, 0, nI 10, 0), (.iaload, 1, 0, 0, 0, 0, 0), (.ldc_w 256, 3, 0, 0, 1564, nI 1103515245, 0), (.imul, 1, 0, 0, 0, 0, 0), (.sipush 12345, 3, 0, 0, 0, nI 12345, 0), (.iadd, 1, 0, 0, 0, 0, 0), (.iastore, 1, 0, 0, 0, 0, 0), (.aload_n 0, 1, 0, 0, 0, 0, 0), (.getfield 7, 3, 12, 0, 1184, 0, 0), (.bipush 10, 2, 0, 0, 0, nI 10, 0), (.iaload, 1, 0, 0, 0, 0, 0), (.bipush 8, 2, 0, 0, 0, nI 8, 0), (.iushr, 1, 0, 0, 0, 0, 0)]
theorem kX12_drawn_0 : rf_ck MX12_drawn 0 cX12_drawn_0 = true := by decide +kernel
theorem eX12_drawn_32 : rf_cki MX12_drawn 32 .ireturn = true := by decide +kernel
abbrev MX12_isCaught : rf_M := (yX12_isCaught, cX12_isCaught, 3, none)
theorem mkX12_isCaught : rf_mk MX12_isCaught 0 1 1568 85 1567 64 = true := by decide +kernel
def cX12_isCaught_0 : List rf_I := [(.sipush 190, 3, 0, 0, 0, nI 190, 0), (.bipush 8, 2, 0, 0, 0, nI 8, 0), (.iload_n 1, 1, 1, 0, 0, 0, 0), (.imul, 1, 0, 0, 0, 0, 0), (.iadd, 1, 0, 0, 0, 0, 0), (.istore_n 2, 1, 2, 0, 0, 0, 0), (.aload_n 0, 1, 0, 0, 0, 0, 0), (.getfield 7, 3, 12, 0, 1184, 0, 0), (.iload_n 2, 1, 2, 0, 0, 0, 0), (.iaload, 1, 0, 0, 0, 0, 0)]
theorem kX12_isCaught_0 : rf_ck MX12_isCaught 0 cX12_isCaught_0 = true := by decide +kernel
theorem bX12_isCaught_15 : rf_ckt MX12_isCaught 15 141 2 7 [37, 37, 37, 76, 141, 97] [52, 52, 52, 91, 156, 112] 156 = true := by decide +kernel
def cX12_isCaught_52 : List rf_I := [(.aload_n 0, 1, 0, 0, 0, 0, 0), (.getfield 7, 3, 12, 0, 1184, 0, 0), (.iload_n 2, 1, 2, 0, 0, 0, 0), (.iconst 5, 1, 0, 0, 0, nI 5, 0), (.iadd, 1, 0, 0, 0, 0, 0), (.dup2, 1, 0, 0, 0, 0, 0), (.iaload, 1, 0, 0, 0, 0, 0), (.aload_n 0, 1, 0, 0, 0, 0, 0), (.getfield 7, 3, 12, 0, 1184, 0, 0), (.iload_n 2, 1, 2, 0, 0, 0, 0), (.iconst 5, 1, 0, 0, 0, nI 5, 0), (.iadd, 1, 0, 0, 0, 0, 0), (.iaload, 1, 0, 0, 0, 0, 0), (.aload_n 0, 1, 0, 0, 0, 0, 0), (.getfield 7, 3, 12, 0, 1184, 0, 0), (.iload_n 2, 1, 2, 0, 0, 0, 0), (.bipush 6, 2, 0, 0, 0, nI 6, 0), (.iadd, 1, 0, 0, 0, 0, 0), (.iaload, 1, 0, 0, 0, 0, 0)]
theorem kX12_isCaught_52 : rf_ck MX12_isCaught 52 cX12_isCaught_52 = true := by decide +kernel
theorem bX12_isCaught_78 : rf_ckb MX12_isCaught 78 (.if_icmp .ge 7) 7 85 = true := by decide +kernel
def cX12_isCaught_81 : List rf_I := [(.iconst 1, 1, 0, 0, 0, nI 1, 0)]
theorem kX12_isCaught_81 : rf_ck MX12_isCaught 81 cX12_isCaught_81 = true := by decide +kernel
theorem bX12_isCaught_82 : rf_ckb MX12_isCaught 82 (.goto 4) 4 86 = true := by decide +kernel
def cX12_isCaught_85 : List rf_I := [(.iconst 0, 1, 0, 0, 0, nI 0, 0)]
theorem kX12_isCaught_85 : rf_ck MX12_isCaught 85 cX12_isCaught_85 = true := by decide +kernel
def cX12_isCaught_86 : List rf_I := [(.iadd, 1, 0, 0, 0, 0, 0), (.iastore, 1, 0, 0, 0, 0, 0)]
theorem kX12_isCaught_86 : rf_ck MX12_isCaught 86 cX12_isCaught_86 = true := by decide +kernel
theorem bX12_isCaught_88 : rf_ckb MX12_isCaught 88 (.goto 68) 68 156 = true := by decide +kernel
def cX12_isCaught_91 : List rf_I := [(.aload_n 0, 1, 0, 0, 0, 0, 0), (.getfield 7, 3, 12, 0, 1184, 0, 0), (.iload_n 2, 1, 2, 0, 0, 0, 0), (.bipush 7, 2, 0, 0, 0, nI 7, 0), (.iadd, 1, 0, 0, 0, 0, 0), (.aload_n 0, 1, 0, 0, 0, 0, 0), (.getfield 7, 3, 12, 0, 1184, 0, 0), (.iconst 0, 1, 0, 0, 0, nI 0, 0), (.iaload, 1, 0, 0, 0, 0, 0), (.bipush 30, 2, 0, 0, 0, nI 30, 0), (.iadd, 1, 0, 0, 0, 0, 0), (.iastore, 1, 0, 0, 0, 0, 0)]
theorem kX12_isCaught_91 : rf_ck MX12_isCaught 91 cX12_isCaught_91 = true := by decide +kernel
theorem bX12_isCaught_109 : rf_ckb MX12_isCaught 109 (.goto 47) 47 156 = true := by decide +kernel
def cX12_isCaught_112 : List rf_I := [(.aload_n 0, 1, 0, 0, 0, 0, 0), (.getfield 7, 3, 12, 0, 1184, 0, 0), (.iload_n 2, 1, 2, 0, 0, 0, 0), (.bipush 7, 2, 0, 0, 0, nI 7, 0), (.iadd, 1, 0, 0, 0, 0, 0), (.aload_n 0, 1, 0, 0, 0, 0, 0), (.getfield 7, 3, 12, 0, 1184, 0, 0), (.iload_n 2, 1, 2, 0, 0, 0, 0), (.bipush 7, 2, 0, 0, 0, nI 7, 0), (.iadd, 1, 0, 0, 0, 0, 0), (.iaload, 1, 0, 0, 0, 0, 0)]
theorem kX12_isCaught_112 : rf_ck MX12_isCaught 112 cX12_isCaught_112 = true := by decide +kernel
theorem bX12_isCaught_129 : rf_ckb MX12_isCaught 129 (.ifCond .eq 15) 15 144 = true := by decide +kernel
def cX12_isCaught_132 : List rf_I := [(.aload_n 0, 1, 0, 0, 0, 0, 0), (.getfield 7, 3, 12, 0, 1184, 0, 0), (.iconst 0, 1, 0, 0, 0, nI 0, 0), (.iaload, 1, 0, 0, 0, 0, 0), (.bipush 30, 2, 0, 0, 0, nI 30, 0), (.iadd, 1, 0, 0, 0, 0, 0)]
theorem kX12_isCaught_132 : rf_ck MX12_isCaught 132 cX12_isCaught_132 = true := by decide +kernel
theorem bX12_isCaught_141 : rf_ckb MX12_isCaught 141 (.goto 11) 11 152 = true := by decide +kernel
def cX12_isCaught_144 : List rf_I := [(.aload_n 0, 1, 0, 0, 0, 0, 0), (.getfield 7, 3, 12, 0, 1184, 0, 0), (.iconst 0, 1, 0, 0, 0, nI 0, 0), (.iaload, 1, 0, 0, 0, 0, 0), (.iconst 1, 1, 0, 0, 0, nI 1, 0), (.iadd, 1, 0, 0, 0, 0, 0)]
theorem kX12_isCaught_144 : rf_ck MX12_isCaught 144 cX12_isCaught_144 = true := by decide +kernel
def cX12_isCaught_152 : List rf_I := [(.iastore, 1, 0, 0, 0, 0, 0)]
theorem kX12_isCaught_152 : rf_ck MX12_isCaught 152 cX12_isCaught_152 = true := by decide +kernel
theorem bX12_isCaught_153 : rf_ckb MX12_isCaught 153 (.goto 3) 3 156 = true := by decide +kernel
theorem eX12_isCaught_156 : rf_cki MX12_isCaught 156 .return_ = true := by decide +kernel
abbrev MX12_aDay : rf_M := (yX12_aDay, cX12_aDay, 7, (some (.int)))
theorem mkX12_aDay : rf_mk MX12_aDay 0 0 1559 85 1558 62 = true := by decide +kernel
def cX12_aDay_0 : List rf_I := [(.aload_n 0, 1, 0, 0, 0, 0, 0)]
theorem kX12_aDay_0 : rf_ck MX12_aDay 0 cX12_aDay_0 = true := by decide +kernel
theorem qX12_aDay_1 : rf_kc MX12_aDay 1 190 1443 yX12_allLots 0 = true := by decide +kernel
def cX12_aDay_4 : List rf_I := [(.istore_n 1, 1, 1, 0, 0, 0, 0), (.aload_n 0, 1, 0, 0, 0, 0, 0)]
theorem kX12_aDay_4 : rf_ck MX12_aDay 4 cX12_aDay_4 = true := by decide +kernel
theorem qX12_aDay_6 : rf_kc MX12_aDay 6 257 1560 yX12_drawn 0 = true := by decide +kernel
def cX12_aDay_9 : List rf_I := [(.iload_n 1, 1, 1, 0, 0, 0, 0), (.irem, 1, 0, 0, 0, 0, 0), (.istore_n 2, 1, 2, 0, 0, 0, 0), (.iconst 0, 1, 0, 0, 0, nI 0, 0), (.istore_n 3, 1, 3, 0, 0, 0, 0)]
theorem kX12_aDay_9 : rf_ck MX12_aDay 9 cX12_aDay_9 = true := by decide +kernel
def cX12_aDay_14 : List rf_I := [(.iload_n 2, 1, 2, 0, 0, 0, 0), (.aload_n 0, 1, 0, 0, 0, 0, 0), (.getfield 7, 3, 12, 0, 1184, 0, 0), (.sipush 330, 3, 0, 0, 0, nI 330, 0), (.iload_n 3, 1, 3, 0, 0, 0, 0), (.iadd, 1, 0, 0, 0, 0, 0), (.iaload, 1, 0, 0, 0, 0, 0)]
theorem kX12_aDay_14 : rf_ck MX12_aDay 14 cX12_aDay_14 = true := by decide +kernel
theorem bX12_aDay_25 : rf_ckb MX12_aDay 25 (.if_icmp .lt 22) 22 47 = true := by decide +kernel
def cX12_aDay_28 : List rf_I := [(.iload_n 2, 1, 2, 0, 0, 0, 0), (.aload_n 0, 1, 0, 0, 0, 0, 0), (.getfield 7, 3, 12, 0, 1184, 0, 0), (.sipush 330, 3, 0, 0, 0, nI 330, 0), (.iload_n 3, 1, 3, 0, 0, 0, 0), (.iadd, 1, 0, 0, 0, 0, 0), (.iaload, 1, 0, 0, 0, 0, 0), (.isub, 1, 0, 0, 0, 0, 0), (.istore_n 2, 1, 2, 0, 0, 0, 0), (.iinc 3 1, 3, 3, 0, 0, nI 1, 0)]
theorem kX12_aDay_28 : rf_ck MX12_aDay 28 cX12_aDay_28 = true := by decide +kernel
theorem bX12_aDay_44 : rf_ckb MX12_aDay 44 (.goto (-30)) (-30) 14 = true := by decide +kernel
def cX12_aDay_47 : List rf_I := [(.iconst 0, 1, 0, 0, 0, nI 0, 0), (.istore 4, 2, 4, 0, 0, 0, 0), (.iconst 0, 1, 0, 0, 0, nI 0, 0), (.istore 5, 2, 5, 0, 0, 0, 0)]
theorem kX12_aDay_47 : rf_ck MX12_aDay 47 cX12_aDay_47 = true := by decide +kernel
def cX12_aDay_53 : List rf_I := [(.iload 5, 2, 5, 0, 0, 0, 0), (.aload_n 0, 1, 0, 0, 0, 0, 0), (.getfield 7, 3, 12, 0, 1184, 0, 0), (.iconst 4, 1, 0, 0, 0, nI 4, 0), (.iaload, 1, 0, 0, 0, 0, 0)]
theorem kX12_aDay_53 : rf_ck MX12_aDay 53 cX12_aDay_53 = true := by decide +kernel
theorem bX12_aDay_61 : rf_ckb MX12_aDay 61 (.if_icmp .ge 80) 80 141 = true := by decide +kernel
def cX12_aDay_64 : List rf_I := [(.aload_n 0, 1, 0, 0, 0, 0, 0), (.getfield 31, 3, 12, 16, 1200, 0, 0), (.iload 5, 2, 5, 0, 0, 0, 0), (.aload_n 0, 1, 0, 0, 0, 0, 0), (.getfield 7, 3, 12, 0, 1184, 0, 0), (.sipush 320, 3, 0, 0, 0, nI 320, 0), (.iload_n 3, 1, 3, 0, 0, 0, 0), (.iadd, 1, 0, 0, 0, 0, 0), (.iaload, 1, 0, 0, 0, 0, 0), (.aload_n 0, 1, 0, 0, 0, 0, 0), (.iload 5, 2, 5, 0, 0, 0, 0), (.iconst 1, 1, 0, 0, 0, nI 1, 0)]
theorem kX12_aDay_64 : rf_ck MX12_aDay 64 cX12_aDay_64 = true := by decide +kernel
theorem qX12_aDay_84 : rf_kc MX12_aDay 84 184 1435 yX12_gr 0 = true := by decide +kernel
def cX12_aDay_87 : List rf_I := [(.ishr, 1, 0, 0, 0, 0, 0), (.iconst 1, 1, 0, 0, 0, nI 1, 0), (.iand, 1, 0, 0, 0, 0, 0), (.iconst 1, 1, 0, 0, 0, nI 1, 0)]
theorem kX12_aDay_87 : rf_ck MX12_aDay 87 cX12_aDay_87 = true := by decide +kernel
theorem bX12_aDay_91 : rf_ckb MX12_aDay 91 (.if_icmp .ne 16) 16 107 = true := by decide +kernel
def cX12_aDay_94 : List rf_I := [(.aload_n 0, 1, 0, 0, 0, 0, 0), (.iload 5, 2, 5, 0, 0, 0, 0)]
theorem kX12_aDay_94 : rf_ck MX12_aDay 94 cX12_aDay_94 = true := by decide +kernel
theorem qX12_aDay_97 : rf_kc MX12_aDay 97 201 1439 yX12_pays 0 = true := by decide +kernel
theorem bX12_aDay_100 : rf_ckb MX12_aDay 100 (.ifCond .ne 7) 7 107 = true := by decide +kernel
def cX12_aDay_103 : List rf_I := [(.iconst 1, 1, 0, 0, 0, nI 1, 0)]
theorem kX12_aDay_103 : rf_ck MX12_aDay 103 cX12_aDay_103 = true := by decide +kernel
theorem bX12_aDay_104 : rf_ckb MX12_aDay 104 (.goto 4) 4 108 = true := by decide +kernel
def cX12_aDay_107 : List rf_I := [(.iconst 0, 1, 0, 0, 0, nI 0, 0)]
theorem kX12_aDay_107 : rf_ck MX12_aDay 107 cX12_aDay_107 = true := by decide +kernel
def cX12_aDay_108 : List rf_I := [(.bastore, 1, 0, 0, 0, 0, 0), (.iload 4, 2, 4, 0, 0, 0, 0), (.aload_n 0, 1, 0, 0, 0, 0, 0), (.getfield 31, 3, 12, 16, 1200, 0, 0), (.iload 5, 2, 5, 0, 0, 0, 0), (.baload, 1, 0, 0, 0, 0, 0)]
theorem kX12_aDay_108 : rf_ck MX12_aDay 108 cX12_aDay_108 = true := by decide +kernel
theorem bX12_aDay_118 : rf_ckb MX12_aDay 118 (.ifCond .eq 13) 13 131 = true := by decide +kernel
def cX12_aDay_121 : List rf_I := [(.aload_n 0, 1, 0, 0, 0, 0, 0), (.iload 5, 2, 5, 0, 0, 0, 0), (.iconst 4, 1, 0, 0, 0, nI 4, 0)]
theorem kX12_aDay_121 : rf_ck MX12_aDay 121 cX12_aDay_121 = true := by decide +kernel
theorem qX12_aDay_125 : rf_kc MX12_aDay 125 184 1435 yX12_gr 0 = true := by decide +kernel
theorem bX12_aDay_128 : rf_ckb MX12_aDay 128 (.goto 4) 4 132 = true := by decide +kernel
def cX12_aDay_131 : List rf_I := [(.iconst 0, 1, 0, 0, 0, nI 0, 0)]
theorem kX12_aDay_131 : rf_ck MX12_aDay 131 cX12_aDay_131 = true := by decide +kernel
def cX12_aDay_132 : List rf_I := [(.iadd, 1, 0, 0, 0, 0, 0), (.istore 4, 2, 4, 0, 0, 0, 0), (.iinc 5 1, 3, 5, 0, 0, nI 1, 0)]
theorem kX12_aDay_132 : rf_ck MX12_aDay 132 cX12_aDay_132 = true := by decide +kernel
theorem bX12_aDay_138 : rf_ckb MX12_aDay 138 (.goto (-85)) (-85) 53 = true := by decide +kernel
def cX12_aDay_141 : List rf_I := [(.iconst 0, 1, 0, 0, 0, nI 0, 0), (.istore 5, 2, 5, 0, 0, 0, 0)]
theorem kX12_aDay_141 : rf_ck MX12_aDay 141 cX12_aDay_141 = true := by decide +kernel
def cX12_aDay_144 : List rf_I := [(.iload 5, 2, 5, 0, 0, 0, 0), (.aload_n 0, 1, 0, 0, 0, 0, 0), (.getfield 7, 3, 12, 0, 1184, 0, 0), (.iconst 4, 1, 0, 0, 0, nI 4, 0), (.iaload, 1, 0, 0, 0, 0, 0)]
theorem kX12_aDay_144 : rf_ck MX12_aDay 144 cX12_aDay_144 = true := by decide +kernel
theorem bX12_aDay_152 : rf_ckb MX12_aDay 152 (.if_icmp .ge 25) 25 177 = true := by decide +kernel
def cX12_aDay_155 : List rf_I := [(.aload_n 0, 1, 0, 0, 0, 0, 0), (.getfield 31, 3, 12, 16, 1200, 0, 0), (.iload 5, 2, 5, 0, 0, 0, 0), (.baload, 1, 0, 0, 0, 0, 0)]
theorem kX12_aDay_155 : rf_ck MX12_aDay 155 cX12_aDay_155 = true := by decide +kernel
theorem bX12_aDay_162 : rf_ckb MX12_aDay 162 (.ifCond .eq 9) 9 171 = true := by decide +kernel
def cX12_aDay_165 : List rf_I := [(.aload_n 0, 1, 0, 0, 0, 0, 0), (.iload 5, 2, 5, 0, 0, 0, 0)]
theorem kX12_aDay_165 : rf_ck MX12_aDay 165 cX12_aDay_165 = true := by decide +kernel
theorem qX12_aDay_168 : rf_kc MX12_aDay 168 260 1565 yX12_isCaught 0 = true := by decide +kernel
def cX12_aDay_171 : List rf_I := [(.iinc 5 1, 3, 5, 0, 0, nI 1, 0)]
theorem kX12_aDay_171 : rf_ck MX12_aDay 171 cX12_aDay_171 = true := by decide +kernel
theorem bX12_aDay_174 : rf_ckb MX12_aDay 174 (.goto (-30)) (-30) 144 = true := by decide +kernel
def cX12_aDay_177 : List rf_I := [(.aload_n 0, 1, 0, 0, 0, 0, 0), (.getfield 7, 3, 12, 0, 1184, 0, 0), (.bipush 6, 2, 0, 0, 0, nI 6, 0), (.iaload, 1, 0, 0, 0, 0, 0), (.bipush 60, 2, 0, 0, 0, nI 60, 0)]
theorem kX12_aDay_177 : rf_ck MX12_aDay 177 cX12_aDay_177 = true := by decide +kernel
theorem bX12_aDay_186 : rf_ckb MX12_aDay 186 (.if_icmp .ge 72) 72 258 = true := by decide +kernel
def cX12_aDay_189 : List rf_I := [(.sipush 340, 3, 0, 0, 0, nI 340, 0), (.iconst 3, 1, 0, 0, 0, nI 3, 0), (.aload_n 0, 1, 0, 0, 0, 0, 0), (.getfield 7, 3, 12, 0, 1184, 0, 0), (.bipush 6, 2, 0, 0, 0, nI 6, 0), (.iaload, 1, 0, 0, 0, 0, 0), (.imul, 1, 0, 0, 0, 0, 0), (.iadd, 1, 0, 0, 0, 0, 0), (.istore 5, 2, 5, 0, 0, 0, 0), (.aload_n 0, 1, 0, 0, 0, 0, 0), (.getfield 7, 3, 12, 0, 1184, 0, 0), (.iload 5, 2, 5, 0, 0, 0, 0), (.iload_n 3, 1, 3, 0, 0, 0, 0), (.iastore, 1, 0, 0, 0, 0, 0), (.aload_n 0, 1, 0, 0, 0, 0, 0), (.getfield 7, 3, 12, 0, 1184, 0, 0), (.iload 5, 2, 5, 0, 0, 0, 0), (.iconst 1, 1, 0, 0, 0, nI 1, 0), (.iadd, 1, 0, 0, 0, 0, 0), (.iload 4, 2, 4, 0, 0, 0, 0), (.iastore, 1, 0, 0, 0, 0, 0), (.aload_n 0, 1, 0, 0, 0, 0, 0), (.getfield 7, 3, 12, 0, 1184, 0, 0), (.iload 5, 2, 5, 0, 0, 0, 0), (.iconst 2, 1, 0, 0, 0, nI 2, 0), (.iadd, 1, 0, 0, 0, 0, 0), (.iload 4, 2, 4, 0, 0, 0, 0), (.iload_n 1, 1, 1, 0, 0, 0, 0), (.imul, 1, 0, 0, 0, 0, 0), (.aload_n 0, 1, 0, 0, 0, 0, 0), (.getfield 7, 3, 12, 0, 1184, 0, 0), (.sipush 330, 3, 0, 0, 0, nI 330, 0), (.iload_n 3, 1, 3, 0, 0, 0, 0), (.iadd, 1, 0, 0, 0, 0, 0), (.iaload, 1, 0, 0, 0, 0, 0), (.idiv, 1, 0, 0, 0, 0, 0), (.iastore, 1, 0, 0, 0, 0, 0), (.aload_n 0, 1, 0, 0, 0, 0, 0), (.getfield 7, 3, 12, 0, 1184, 0, 0), (.bipush 6, 2, 0, 0, 0, nI 6, 0), (.dup2, 1, 0, 0, 0, 0, 0), (.iaload, 1, 0, 0, 0, 0, 0), (.iconst 1, 1, 0, 0, 0, nI 1, 0), (.iadd, 1, 0, 0, 0, 0, 0), (.iastore, 1, 0, 0, 0, 0, 0)]
theorem kX12_aDay_189 : rf_ck MX12_aDay 189 cX12_aDay_189 = true := by decide +kernel
def cX12_aDay_258 : List rf_I := [(.aload_n 0, 1, 0, 0, 0, 0, 0), (.getfield 7, 3, 12, 0, 1184, 0, 0), (.bipush 7, 2, 0, 0, 0, nI 7, 0), (.iaload, 1, 0, 0, 0, 0, 0), (.i2l, 1, 0, 0, 0, 0, 0), (.aload_n 0, 1, 0, 0, 0, 0, 0), (.getfield 7, 3, 12, 0, 1184, 0, 0), (.bipush 9, 2, 0, 0, 0, nI 9, 0), (.iaload, 1, 0, 0, 0, 0, 0), (.i2l, 1, 0, 0, 0, 0, 0), (.iload 4, 2, 4, 0, 0, 0, 0), (.i2l, 1, 0, 0, 0, 0, 0), (.lmul, 1, 0, 0, 0, 0, 0), (.ladd, 1, 0, 0, 0, 0, 0), (.lstore 5, 2, 5, 0, 0, 0, 0), (.aload_n 0, 1, 0, 0, 0, 0, 0), (.getfield 7, 3, 12, 0, 1184, 0, 0), (.bipush 7, 2, 0, 0, 0, nI 7, 0), (.lload 5, 2, 5, 0, 0, 0, 0), (.ldc2_w 263, 3, 0, 0, 1569, 0, lN 1999999999), (.lcmp, 1, 0, 0, 0, 0, 0)]
theorem kX12_aDay_258 : rf_ck MX12_aDay 258 cX12_aDay_258 = true := by decide +kernel
theorem bX12_aDay_293 : rf_ckb MX12_aDay 293 (.ifCond .le 9) 9 302 = true := by decide +kernel
def cX12_aDay_296 : List rf_I := [(.ldc_w 265, 3, 0, 0, 1570, nI 1999999999, 0)]
theorem kX12_aDay_296 : rf_ck MX12_aDay 296 cX12_aDay_296 = true := by decide +kernel
theorem bX12_aDay_299 : rf_ckb MX12_aDay 299 (.goto 6) 6 305 = true := by decide +kernel
def cX12_aDay_302 : List rf_I := [(.lload 5, 2, 5, 0, 0, 0, 0), (.l2i, 1, 0, 0, 0, 0, 0)]
theorem kX12_aDay_302 : rf_ck MX12_aDay 302 cX12_aDay_302 = true := by decide +kernel
def cX12_aDay_305 : List rf_I := [(.iastore, 1, 0, 0, 0, 0, 0), (.aload_n 0, 1, 0, 0, 0, 0, 0), (.getfield 7, 3, 12, 0, 1184, 0, 0), (.iconst 0, 1, 0, 0, 0, nI 0, 0), (.dup2, 1, 0, 0, 0, 0, 0), (.iaload, 1, 0, 0, 0, 0, 0), (.iconst 1, 1, 0, 0, 0, nI 1, 0), (.iadd, 1, 0, 0, 0, 0, 0), (.iastore, 1, 0, 0, 0, 0, 0), (.iload 4, 2, 4, 0, 0, 0, 0)]
theorem kX12_aDay_305 : rf_ck MX12_aDay 305 cX12_aDay_305 = true := by decide +kernel
theorem eX12_aDay_318 : rf_cki MX12_aDay 318 .ireturn = true := by decide +kernel
abbrev MX12_days : rf_M := (yX12_days, cX12_days, 4, (some (.int)))
theorem mkX12_days : rf_mk MX12_days 0 1 1554 85 1552 1553 = true := by decide +kernel
def cX12_days_0 : List rf_I := [(.iload_n 1, 1, 1, 0, 0, 0, 0), (.i2l, 1, 0, 0, 0, 0, 0), (.lconst 1, 1, 0, 0, 0, 0, lN 1), (.ldc2_w 266, 3, 0, 0, 1555, 0, lN 50)]
theorem kX12_days_0 : rf_ck MX12_days 0 cX12_days_0 = true := by decide +kernel
theorem qX12_days_6 : rf_kc MX12_days 6 51 1278 yX12_in 1 = true := by decide +kernel
theorem bX12_days_9 : rf_ckb MX12_days 9 (.ifCond .ne 9) 9 18 = true := by decide +kernel
def cX12_days_12 : List rf_I := [(.aload_n 0, 1, 0, 0, 0, 0, 0), (.iconst 1, 1, 0, 0, 0, nI 1, 0)]
theorem kX12_days_12 : rf_ck MX12_days 12 cX12_days_12 = true := by decide +kernel
theorem qX12_days_14 : rf_kc MX12_days 14 59 1261 yX12_finds 0 = true := by decide +kernel
theorem eX12_days_17 : rf_cki MX12_days 17 .ireturn = true := by decide +kernel
def cX12_days_18 : List rf_I := [(.aload_n 0, 1, 0, 0, 0, 0, 0), (.getfield 7, 3, 12, 0, 1184, 0, 0), (.iconst 0, 1, 0, 0, 0, nI 0, 0), (.iaload, 1, 0, 0, 0, 0, 0), (.iload_n 1, 1, 1, 0, 0, 0, 0), (.iadd, 1, 0, 0, 0, 0, 0), (.sipush 399, 3, 0, 0, 0, nI 399, 0)]
theorem kX12_days_18 : rf_ck MX12_days 18 cX12_days_18 = true := by decide +kernel
theorem bX12_days_29 : rf_ckb MX12_days 29 (.if_icmp .gt 10) 10 39 = true := by decide +kernel
def cX12_days_32 : List rf_I := [(.aload_n 0, 1, 0, 0, 0, 0, 0)]
theorem kX12_days_32 : rf_ck MX12_days 32 cX12_days_32 = true := by decide +kernel
theorem qX12_days_33 : rf_kc MX12_days 33 190 1443 yX12_allLots 0 = true := by decide +kernel
theorem bX12_days_36 : rf_ckb MX12_days 36 (.ifCond .ne 9) 9 45 = true := by decide +kernel
def cX12_days_39 : List rf_I := [(.aload_n 0, 1, 0, 0, 0, 0, 0), (.iconst 3, 1, 0, 0, 0, nI 3, 0)]
theorem kX12_days_39 : rf_ck MX12_days 39 cX12_days_39 = true := by decide +kernel
theorem qX12_days_41 : rf_kc MX12_days 41 59 1261 yX12_finds 0 = true := by decide +kernel
theorem eX12_days_44 : rf_cki MX12_days 44 .ireturn = true := by decide +kernel
def cX12_days_45 : List rf_I := [(.iconst 0, 1, 0, 0, 0, nI 0, 0), (.istore_n 2, 1, 2, 0, 0, 0, 0), (.iconst 0, 1, 0, 0, 0, nI 0, 0), (.istore_n 3, 1, 3, 0, 0, 0, 0)]
theorem kX12_days_45 : rf_ck MX12_days 45 cX12_days_45 = true := by decide +kernel
def cX12_days_49 : List rf_I := [(.iload_n 3, 1, 3, 0, 0, 0, 0), (.iload_n 1, 1, 1, 0, 0, 0, 0)]
theorem kX12_days_49 : rf_ck MX12_days 49 cX12_days_49 = true := by decide +kernel
theorem bX12_days_51 : rf_ckb MX12_days 51 (.if_icmp .ge 16) 16 67 = true := by decide +kernel
def cX12_days_54 : List rf_I := [(.iload_n 2, 1, 2, 0, 0, 0, 0), (.aload_n 0, 1, 0, 0, 0, 0, 0)]
theorem kX12_days_54 : rf_ck MX12_days 54 cX12_days_54 = true := by decide +kernel
theorem qX12_days_56 : rf_kc MX12_days 56 268 1556 yX12_aDay 0 = true := by decide +kernel
def cX12_days_59 : List rf_I := [(.iadd, 1, 0, 0, 0, 0, 0), (.istore_n 2, 1, 2, 0, 0, 0, 0), (.iinc 3 1, 3, 3, 0, 0, nI 1, 0)]
theorem kX12_days_59 : rf_ck MX12_days 59 cX12_days_59 = true := by decide +kernel
theorem bX12_days_64 : rf_ckb MX12_days 64 (.goto (-15)) (-15) 49 = true := by decide +kernel
def cX12_days_67 : List rf_I := [(.iload_n 2, 1, 2, 0, 0, 0, 0)]
theorem kX12_days_67 : rf_ck MX12_days 67 cX12_days_67 = true := by decide +kernel
theorem eX12_days_68 : rf_cki MX12_days 68 .ireturn = true := by decide +kernel
abbrev MX12_find : rf_M := (yX12_find, cX12_find, 3, (some (.int)))
theorem mkX12_find : rf_mk MX12_find 0 2 1574 85 1572 1573 = true := by decide +kernel
def cX12_find_0 : List rf_I := [(.iload_n 1, 1, 1, 0, 0, 0, 0)]
theorem kX12_find_0 : rf_ck MX12_find 0 cX12_find_0 = true := by decide +kernel
theorem bX12_find_1 : rf_ckb MX12_find 1 (.ifCond .lt 15) 15 16 = true := by decide +kernel
def cX12_find_4 : List rf_I := [(.iload_n 2, 1, 2, 0, 0, 0, 0), (.i2l, 1, 0, 0, 0, 0, 0), (.lconst 0, 1, 0, 0, 0, 0, lN 0), (.ldc2_w 225, 3, 0, 0, 1503, 0, lN 2)]
theorem kX12_find_4 : rf_ck MX12_find 4 cX12_find_4 = true := by decide +kernel
theorem qX12_find_10 : rf_kc MX12_find 10 51 1278 yX12_in 1 = true := by decide +kernel
theorem bX12_find_13 : rf_ckb MX12_find 13 (.ifCond .ne 9) 9 22 = true := by decide +kernel
def cX12_find_16 : List rf_I := [(.aload_n 0, 1, 0, 0, 0, 0, 0), (.iconst 1, 1, 0, 0, 0, nI 1, 0)]
theorem kX12_find_16 : rf_ck MX12_find 16 cX12_find_16 = true := by decide +kernel
theorem qX12_find_18 : rf_kc MX12_find 18 59 1261 yX12_finds 0 = true := by decide +kernel
theorem eX12_find_21 : rf_cki MX12_find 21 .ireturn = true := by decide +kernel
def cX12_find_22 : List rf_I := [(.iload_n 1, 1, 1, 0, 0, 0, 0), (.aload_n 0, 1, 0, 0, 0, 0, 0), (.getfield 7, 3, 12, 0, 1184, 0, 0), (.bipush 6, 2, 0, 0, 0, nI 6, 0), (.iaload, 1, 0, 0, 0, 0, 0)]
theorem kX12_find_22 : rf_ck MX12_find 22 cX12_find_22 = true := by decide +kernel
theorem bX12_find_30 : rf_ckb MX12_find 30 (.if_icmp .ge 20) 20 50 = true := by decide +kernel
def cX12_find_33 : List rf_I := [(.aload_n 0, 1, 0, 0, 0, 0, 0), (.getfield 7, 3, 12, 0, 1184, 0, 0), (.sipush 340, 3, 0, 0, 0, nI 340, 0), (.iconst 3, 1, 0, 0, 0, nI 3, 0), (.iload_n 1, 1, 1, 0, 0, 0, 0), (.imul, 1, 0, 0, 0, 0, 0), (.iadd, 1, 0, 0, 0, 0, 0), (.iload_n 2, 1, 2, 0, 0, 0, 0), (.iadd, 1, 0, 0, 0, 0, 0), (.iaload, 1, 0, 0, 0, 0, 0)]
theorem kX12_find_33 : rf_ck MX12_find 33 cX12_find_33 = true := by decide +kernel
theorem bX12_find_47 : rf_ckb MX12_find 47 (.goto 8) 8 55 = true := by decide +kernel
def cX12_find_50 : List rf_I := [(.aload_n 0, 1, 0, 0, 0, 0, 0), (.iconst 2, 1, 0, 0, 0, nI 2, 0)]
theorem kX12_find_50 : rf_ck MX12_find 50 cX12_find_50 = true := by decide +kernel
theorem qX12_find_52 : rf_kc MX12_find 52 59 1261 yX12_finds 0 = true := by decide +kernel
theorem eX12_find_55 : rf_cki MX12_find 55 .ireturn = true := by decide +kernel
abbrev MX12_average : rf_M := (yX12_average, cX12_average, 4, (some (.int)))
theorem mkX12_average : rf_mk MX12_average 0 0 1578 85 1576 1577 = true := by decide +kernel
def cX12_average_0 : List rf_I := [(.aload_n 0, 1, 0, 0, 0, 0, 0), (.getfield 7, 3, 12, 0, 1184, 0, 0), (.bipush 6, 2, 0, 0, 0, nI 6, 0), (.iaload, 1, 0, 0, 0, 0, 0)]
theorem kX12_average_0 : rf_ck MX12_average 0 cX12_average_0 = true := by decide +kernel
theorem bX12_average_7 : rf_ckb MX12_average 7 (.ifCond .ne 9) 9 16 = true := by decide +kernel
def cX12_average_10 : List rf_I := [(.aload_n 0, 1, 0, 0, 0, 0, 0), (.iconst 2, 1, 0, 0, 0, nI 2, 0)]
theorem kX12_average_10 : rf_ck MX12_average 10 cX12_average_10 = true := by decide +kernel
theorem qX12_average_12 : rf_kc MX12_average 12 59 1261 yX12_finds 0 = true := by decide +kernel
theorem eX12_average_15 : rf_cki MX12_average 15 .ireturn = true := by decide +kernel
def cX12_average_16 : List rf_I := [(.lconst 0, 1, 0, 0, 0, 0, lN 0), (.lstore_n 1, 1, 1, 0, 0, 0, 0), (.iconst 0, 1, 0, 0, 0, nI 0, 0), (.istore_n 3, 1, 3, 0, 0, 0, 0)]
theorem kX12_average_16 : rf_ck MX12_average 16 cX12_average_16 = true := by decide +kernel
def cX12_average_20 : List rf_I := [(.iload_n 3, 1, 3, 0, 0, 0, 0), (.aload_n 0, 1, 0, 0, 0, 0, 0), (.getfield 7, 3, 12, 0, 1184, 0, 0), (.bipush 6, 2, 0, 0, 0, nI 6, 0), (.iaload, 1, 0, 0, 0, 0, 0)]
theorem kX12_average_20 : rf_ck MX12_average 20 cX12_average_20 = true := by decide +kernel
theorem bX12_average_28 : rf_ckb MX12_average 28 (.if_icmp .ge 27) 27 55 = true := by decide +kernel
def cX12_average_31 : List rf_I := [(.lload_n 1, 1, 1, 0, 0, 0, 0), (.aload_n 0, 1, 0, 0, 0, 0, 0), (.getfield 7, 3, 12, 0, 1184, 0, 0), (.sipush 340, 3, 0, 0, 0, nI 340, 0), (.iconst 3, 1, 0, 0, 0, nI 3, 0), (.iload_n 3, 1, 3, 0, 0, 0, 0), (.imul, 1, 0, 0, 0, 0, 0), (.iadd, 1, 0, 0, 0, 0, 0), (.iconst 2, 1, 0, 0, 0, nI 2, 0), (.iadd, 1, 0, 0, 0, 0, 0), (.iaload, 1, 0, 0, 0, 0, 0), (.i2l, 1, 0, 0, 0, 0, 0), (.ladd, 1, 0, 0, 0, 0, 0), (.lstore_n 1, 1, 1, 0, 0, 0, 0), (.iinc 3 1, 3, 3, 0, 0, nI 1, 0)]
theorem kX12_average_31 : rf_ck MX12_average 31 cX12_average_31 = true := by decide +kernel
theorem bX12_average_52 : rf_ckb MX12_average 52 (.goto (-32)) (-32) 20 = true := by decide +kernel
def cX12_average_55 : List rf_I := [(.lload_n 1, 1, 1, 0, 0, 0, 0), (.aload_n 0, 1, 0, 0, 0, 0, 0), (.getfield 7, 3, 12, 0, 1184, 0, 0), (.bipush 6, 2, 0, 0, 0, nI 6, 0), (.iaload, 1, 0, 0, 0, 0, 0), (.i2l, 1, 0, 0, 0, 0, 0), (.ldiv, 1, 0, 0, 0, 0, 0), (.l2i, 1, 0, 0, 0, 0, 0)]
theorem kX12_average_55 : rf_ck MX12_average 55 cX12_average_55 = true := by decide +kernel
theorem eX12_average_66 : rf_cki MX12_average 66 .ireturn = true := by decide +kernel
abbrev MX12_telling : rf_M := (yX12_telling, cX12_telling, 9, (some (.int)))
theorem mkX12_telling : rf_mk MX12_telling 0 4 1582 85 1580 1581 = true := by decide +kernel
def cX12_telling_0 : List rf_I := [(.aload_n 0, 1, 0, 0, 0, 0, 0), (.iload_n 1, 1, 1, 0, 0, 0, 0)]
theorem kX12_telling_0 : rf_ck MX12_telling 0 cX12_telling_0 = true := by decide +kernel
theorem qX12_telling_2 : rf_kc MX12_telling 2 91 1309 yX12_isTrain 0 = true := by decide +kernel
theorem bX12_telling_5 : rf_ckb MX12_telling 5 (.ifCond .eq 39) 39 44 = true := by decide +kernel
def cX12_telling_8 : List rf_I := [(.iload_n 2, 1, 2, 0, 0, 0, 0), (.i2l, 1, 0, 0, 0, 0, 0), (.lconst 0, 1, 0, 0, 0, 0, lN 0), (.ldc2_w 271, 3, 0, 0, 1583, 0, lN 600)]
theorem kX12_telling_8 : rf_ck MX12_telling 8 cX12_telling_8 = true := by decide +kernel
theorem qX12_telling_14 : rf_kc MX12_telling 14 51 1278 yX12_in 1 = true := by decide +kernel
theorem bX12_telling_17 : rf_ckb MX12_telling 17 (.ifCond .eq 27) 27 44 = true := by decide +kernel
def cX12_telling_20 : List rf_I := [(.iload_n 3, 1, 3, 0, 0, 0, 0), (.i2l, 1, 0, 0, 0, 0, 0), (.iload_n 2, 1, 2, 0, 0, 0, 0), (.i2l, 1, 0, 0, 0, 0, 0), (.ldc2_w 271, 3, 0, 0, 1583, 0, lN 600)]
theorem kX12_telling_20 : rf_ck MX12_telling 20 cX12_telling_20 = true := by decide +kernel
theorem qX12_telling_27 : rf_kc MX12_telling 27 51 1278 yX12_in 1 = true := by decide +kernel
theorem bX12_telling_30 : rf_ckb MX12_telling 30 (.ifCond .eq 14) 14 44 = true := by decide +kernel
def cX12_telling_33 : List rf_I := [(.iload 4, 2, 4, 0, 0, 0, 0), (.i2l, 1, 0, 0, 0, 0, 0), (.lconst 0, 1, 0, 0, 0, 0, lN 0), (.lconst 1, 1, 0, 0, 0, 0, lN 1)]
theorem kX12_telling_33 : rf_ck MX12_telling 33 cX12_telling_33 = true := by decide +kernel
theorem qX12_telling_38 : rf_kc MX12_telling 38 51 1278 yX12_in 1 = true := by decide +kernel
theorem bX12_telling_41 : rf_ckb MX12_telling 41 (.ifCond .ne 9) 9 50 = true := by decide +kernel
def cX12_telling_44 : List rf_I := [(.aload_n 0, 1, 0, 0, 0, 0, 0), (.iconst 1, 1, 0, 0, 0, nI 1, 0)]
theorem kX12_telling_44 : rf_ck MX12_telling 44 cX12_telling_44 = true := by decide +kernel
theorem qX12_telling_46 : rf_kc MX12_telling 46 59 1261 yX12_finds 0 = true := by decide +kernel
theorem eX12_telling_49 : rf_cki MX12_telling 49 .ireturn = true := by decide +kernel
def cX12_telling_50 : List rf_I := [(.iconst 0, 1, 0, 0, 0, nI 0, 0), (.istore 5, 2, 5, 0, 0, 0, 0), (.iconst 0, 1, 0, 0, 0, nI 0, 0), (.istore 6, 2, 6, 0, 0, 0, 0)]
theorem kX12_telling_50 : rf_ck MX12_telling 50 cX12_telling_50 = true := by decide +kernel
def cX12_telling_56 : List rf_I := [(.iload 6, 2, 6, 0, 0, 0, 0), (.aload_n 0, 1, 0, 0, 0, 0, 0), (.getfield 7, 3, 12, 0, 1184, 0, 0), (.iconst 3, 1, 0, 0, 0, nI 3, 0), (.iaload, 1, 0, 0, 0, 0, 0)]
theorem kX12_telling_56 : rf_ck MX12_telling 56 cX12_telling_56 = true := by decide +kernel
theorem bX12_telling_64 : rf_ckb MX12_telling 64 (.if_icmp .ge 77) 77 141 = true := by decide +kernel
def cX12_telling_67 : List rf_I := [(.iload 6, 2, 6, 0, 0, 0, 0), (.iload_n 1, 1, 1, 0, 0, 0, 0)]
theorem kX12_telling_67 : rf_ck MX12_telling 67 cX12_telling_67 = true := by decide +kernel
theorem bX12_telling_70 : rf_ckb MX12_telling 70 (.if_icmp .eq 44) 44 114 = true := by decide +kernel
def cX12_telling_73 : List rf_I := [(.aload_n 0, 1, 0, 0, 0, 0, 0), (.iload 6, 2, 6, 0, 0, 0, 0)]
theorem kX12_telling_73 : rf_ck MX12_telling 73 cX12_telling_73 = true := by decide +kernel
theorem qX12_telling_76 : rf_kc MX12_telling 76 78 1313 yX12_lineOf 0 = true := by decide +kernel
def cX12_telling_79 : List rf_I := [(.aload_n 0, 1, 0, 0, 0, 0, 0), (.iload_n 1, 1, 1, 0, 0, 0, 0)]
theorem kX12_telling_79 : rf_ck MX12_telling 79 cX12_telling_79 = true := by decide +kernel
theorem qX12_telling_81 : rf_kc MX12_telling 81 78 1313 yX12_lineOf 0 = true := by decide +kernel
theorem bX12_telling_84 : rf_ckb MX12_telling 84 (.if_icmp .ne 30) 30 114 = true := by decide +kernel
def cX12_telling_87 : List rf_I := [(.aload_n 0, 1, 0, 0, 0, 0, 0), (.iload 6, 2, 6, 0, 0, 0, 0)]
theorem kX12_telling_87 : rf_ck MX12_telling 87 cX12_telling_87 = true := by decide +kernel
theorem qX12_telling_90 : rf_kc MX12_telling 90 81 1317 yX12_startOf 0 = true := by decide +kernel
def cX12_telling_93 : List rf_I := [(.aload_n 0, 1, 0, 0, 0, 0, 0), (.iload_n 1, 1, 1, 0, 0, 0, 0)]
theorem kX12_telling_93 : rf_ck MX12_telling 93 cX12_telling_93 = true := by decide +kernel
theorem qX12_telling_95 : rf_kc MX12_telling 95 81 1317 yX12_startOf 0 = true := by decide +kernel
def cX12_telling_98 : List rf_I := [(.isub, 1, 0, 0, 0, 0, 0), (.i2l, 1, 0, 0, 0, 0, 0), (.iload_n 2, 1, 2, 0, 0, 0, 0), (.i2l, 1, 0, 0, 0, 0, 0), (.iload_n 3, 1, 3, 0, 0, 0, 0), (.i2l, 1, 0, 0, 0, 0, 0)]
theorem kX12_telling_98 : rf_ck MX12_telling 98 cX12_telling_98 = true := by decide +kernel
theorem qX12_telling_104 : rf_kc MX12_telling 104 51 1278 yX12_in 1 = true := by decide +kernel
theorem bX12_telling_107 : rf_ckb MX12_telling 107 (.ifCond .eq 7) 7 114 = true := by decide +kernel
def cX12_telling_110 : List rf_I := [(.iconst 1, 1, 0, 0, 0, nI 1, 0)]
theorem kX12_telling_110 : rf_ck MX12_telling 110 cX12_telling_110 = true := by decide +kernel
theorem bX12_telling_111 : rf_ckb MX12_telling 111 (.goto 4) 4 115 = true := by decide +kernel
def cX12_telling_114 : List rf_I := [(.iconst 0, 1, 0, 0, 0, nI 0, 0)]
theorem kX12_telling_114 : rf_ck MX12_telling 114 cX12_telling_114 = true := by decide +kernel
def cX12_telling_115 : List rf_I := [(.istore 7, 2, 7, 0, 0, 0, 0), (.iload 5, 2, 5, 0, 0, 0, 0), (.iload 7, 2, 7, 0, 0, 0, 0)]
theorem kX12_telling_115 : rf_ck MX12_telling 115 cX12_telling_115 = true := by decide +kernel
theorem bX12_telling_121 : rf_ckb MX12_telling 121 (.ifCond .eq 10) 10 131 = true := by decide +kernel
def cX12_telling_124 : List rf_I := [(.iconst 1, 1, 0, 0, 0, nI 1, 0), (.iload 6, 2, 6, 0, 0, 0, 0), (.ishl, 1, 0, 0, 0, 0, 0)]
theorem kX12_telling_124 : rf_ck MX12_telling 124 cX12_telling_124 = true := by decide +kernel
theorem bX12_telling_128 : rf_ckb MX12_telling 128 (.goto 4) 4 132 = true := by decide +kernel
def cX12_telling_131 : List rf_I := [(.iconst 0, 1, 0, 0, 0, nI 0, 0)]
theorem kX12_telling_131 : rf_ck MX12_telling 131 cX12_telling_131 = true := by decide +kernel
def cX12_telling_132 : List rf_I := [(.ior, 1, 0, 0, 0, 0, 0), (.istore 5, 2, 5, 0, 0, 0, 0), (.iinc 6 1, 3, 6, 0, 0, nI 1, 0)]
theorem kX12_telling_132 : rf_ck MX12_telling 132 cX12_telling_132 = true := by decide +kernel
theorem bX12_telling_138 : rf_ckb MX12_telling 138 (.goto (-82)) (-82) 56 = true := by decide +kernel
def cX12_telling_141 : List rf_I := [(.iconst 0, 1, 0, 0, 0, nI 0, 0), (.istore 6, 2, 6, 0, 0, 0, 0), (.iconst 0, 1, 0, 0, 0, nI 0, 0), (.istore 7, 2, 7, 0, 0, 0, 0)]
theorem kX12_telling_141 : rf_ck MX12_telling 141 cX12_telling_141 = true := by decide +kernel
def cX12_telling_147 : List rf_I := [(.iload 7, 2, 7, 0, 0, 0, 0), (.aload_n 0, 1, 0, 0, 0, 0, 0), (.getfield 7, 3, 12, 0, 1184, 0, 0), (.iconst 4, 1, 0, 0, 0, nI 4, 0), (.iaload, 1, 0, 0, 0, 0, 0)]
theorem kX12_telling_147 : rf_ck MX12_telling 147 cX12_telling_147 = true := by decide +kernel
theorem bX12_telling_155 : rf_ckb MX12_telling 155 (.if_icmp .ge 73) 73 228 = true := by decide +kernel
def cX12_telling_158 : List rf_I := [(.aload_n 0, 1, 0, 0, 0, 0, 0), (.iload 7, 2, 7, 0, 0, 0, 0), (.iconst 0, 1, 0, 0, 0, nI 0, 0)]
theorem kX12_telling_158 : rf_ck MX12_telling 158 cX12_telling_158 = true := by decide +kernel
theorem qX12_telling_162 : rf_kc MX12_telling 162 184 1435 yX12_gr 0 = true := by decide +kernel
def cX12_telling_165 : List rf_I := [(.iconst 3, 1, 0, 0, 0, nI 3, 0)]
theorem kX12_telling_165 : rf_ck MX12_telling 165 cX12_telling_165 = true := by decide +kernel
theorem bX12_telling_166 : rf_ckb MX12_telling 166 (.if_icmp .ne 23) 23 189 = true := by decide +kernel
def cX12_telling_169 : List rf_I := [(.iload 5, 2, 5, 0, 0, 0, 0), (.aload_n 0, 1, 0, 0, 0, 0, 0), (.iload 7, 2, 7, 0, 0, 0, 0), (.iconst 1, 1, 0, 0, 0, nI 1, 0)]
theorem kX12_telling_169 : rf_ck MX12_telling 169 cX12_telling_169 = true := by decide +kernel
theorem qX12_telling_175 : rf_kc MX12_telling 175 184 1435 yX12_gr 0 = true := by decide +kernel
def cX12_telling_178 : List rf_I := [(.ishr, 1, 0, 0, 0, 0, 0), (.iconst 1, 1, 0, 0, 0, nI 1, 0), (.iand, 1, 0, 0, 0, 0, 0), (.iconst 1, 1, 0, 0, 0, nI 1, 0)]
theorem kX12_telling_178 : rf_ck MX12_telling 178 cX12_telling_178 = true := by decide +kernel
theorem bX12_telling_182 : rf_ckb MX12_telling 182 (.if_icmp .ne 7) 7 189 = true := by decide +kernel
def cX12_telling_185 : List rf_I := [(.iconst 1, 1, 0, 0, 0, nI 1, 0)]
theorem kX12_telling_185 : rf_ck MX12_telling 185 cX12_telling_185 = true := by decide +kernel
theorem bX12_telling_186 : rf_ckb MX12_telling 186 (.goto 4) 4 190 = true := by decide +kernel
def cX12_telling_189 : List rf_I := [(.iconst 0, 1, 0, 0, 0, nI 0, 0)]
theorem kX12_telling_189 : rf_ck MX12_telling 189 cX12_telling_189 = true := by decide +kernel
def cX12_telling_190 : List rf_I := [(.istore 8, 2, 8, 0, 0, 0, 0), (.iload 6, 2, 6, 0, 0, 0, 0), (.iload 8, 2, 8, 0, 0, 0, 0)]
theorem kX12_telling_190 : rf_ck MX12_telling 190 cX12_telling_190 = true := by decide +kernel
theorem bX12_telling_196 : rf_ckb MX12_telling 196 (.ifCond .ne 12) 12 208 = true := by decide +kernel
def cX12_telling_199 : List rf_I := [(.aload_n 0, 1, 0, 0, 0, 0, 0), (.iload 7, 2, 7, 0, 0, 0, 0)]
theorem kX12_telling_199 : rf_ck MX12_telling 199 cX12_telling_199 = true := by decide +kernel
theorem qX12_telling_202 : rf_kc MX12_telling 202 201 1439 yX12_pays 0 = true := by decide +kernel
theorem bX12_telling_205 : rf_ckb MX12_telling 205 (.ifCond .eq 7) 7 212 = true := by decide +kernel
def cX12_telling_208 : List rf_I := [(.iconst 0, 1, 0, 0, 0, nI 0, 0)]
theorem kX12_telling_208 : rf_ck MX12_telling 208 cX12_telling_208 = true := by decide +kernel
theorem bX12_telling_209 : rf_ckb MX12_telling 209 (.goto 10) 10 219 = true := by decide +kernel
def cX12_telling_212 : List rf_I := [(.aload_n 0, 1, 0, 0, 0, 0, 0), (.iload 7, 2, 7, 0, 0, 0, 0), (.iconst 4, 1, 0, 0, 0, nI 4, 0)]
theorem kX12_telling_212 : rf_ck MX12_telling 212 cX12_telling_212 = true := by decide +kernel
theorem qX12_telling_216 : rf_kc MX12_telling 216 184 1435 yX12_gr 0 = true := by decide +kernel
def cX12_telling_219 : List rf_I := [(.iadd, 1, 0, 0, 0, 0, 0), (.istore 6, 2, 6, 0, 0, 0, 0), (.iinc 7 1, 3, 7, 0, 0, nI 1, 0)]
theorem kX12_telling_219 : rf_ck MX12_telling 219 cX12_telling_219 = true := by decide +kernel
theorem bX12_telling_225 : rf_ckb MX12_telling 225 (.goto (-78)) (-78) 147 = true := by decide +kernel
def cX12_telling_228 : List rf_I := [(.iload 4, 2, 4, 0, 0, 0, 0)]
theorem kX12_telling_228 : rf_ck MX12_telling 228 cX12_telling_228 = true := by decide +kernel
theorem bX12_telling_230 : rf_ckb MX12_telling 230 (.ifCond .ne 8) 8 238 = true := by decide +kernel
def cX12_telling_233 : List rf_I := [(.iload 5, 2, 5, 0, 0, 0, 0)]
theorem kX12_telling_233 : rf_ck MX12_telling 233 cX12_telling_233 = true := by decide +kernel
theorem bX12_telling_235 : rf_ckb MX12_telling 235 (.goto 5) 5 240 = true := by decide +kernel
def cX12_telling_238 : List rf_I := [(.iload 6, 2, 6, 0, 0, 0, 0)]
theorem kX12_telling_238 : rf_ck MX12_telling 238 cX12_telling_238 = true := by decide +kernel
theorem eX12_telling_240 : rf_cki MX12_telling 240 .ireturn = true := by decide +kernel
abbrev MX12_turn : rf_M := (yX12_turn, cX12_turn, 3, (some (.int)))
theorem mkX12_turn : rf_mk MX12_turn 0 1 1587 85 1585 1586 = true := by decide +kernel
def cX12_turn_0 : List rf_I := [(.iload_n 1, 1, 1, 0, 0, 0, 0), (.i2l, 1, 0, 0, 0, 0, 0), (.lconst 0, 1, 0, 0, 0, 0, lN 0), (.ldc2_w 273, 3, 0, 0, 1588, 0, lN 99999)]
theorem kX12_turn_0 : rf_ck MX12_turn 0 cX12_turn_0 = true := by decide +kernel
theorem qX12_turn_6 : rf_kc MX12_turn 6 51 1278 yX12_in 1 = true := by decide +kernel
theorem bX12_turn_9 : rf_ckb MX12_turn 9 (.ifCond .ne 9) 9 18 = true := by decide +kernel
def cX12_turn_12 : List rf_I := [(.aload_n 0, 1, 0, 0, 0, 0, 0), (.iconst 1, 1, 0, 0, 0, nI 1, 0)]
theorem kX12_turn_12 : rf_ck MX12_turn 12 cX12_turn_12 = true := by decide +kernel
theorem qX12_turn_14 : rf_kc MX12_turn 14 59 1261 yX12_finds 0 = true := by decide +kernel
theorem eX12_turn_17 : rf_cki MX12_turn 17 .ireturn = true := by decide +kernel
def cX12_turn_18 : List rf_I := [(.iconst 0, 1, 0, 0, 0, nI 0, 0), (.istore_n 2, 1, 2, 0, 0, 0, 0)]
theorem kX12_turn_18 : rf_ck MX12_turn 18 cX12_turn_18 = true := by decide +kernel
def cX12_turn_20 : List rf_I := [(.iload_n 2, 1, 2, 0, 0, 0, 0), (.sipush 1000, 3, 0, 0, 0, nI 1000, 0)]
theorem kX12_turn_20 : rf_ck MX12_turn 20 cX12_turn_20 = true := by decide +kernel
theorem bX12_turn_24 : rf_ckb MX12_turn 24 (.if_icmp .ge 20) 20 44 = true := by decide +kernel
def cX12_turn_27 : List rf_I := [(.aload_n 0, 1, 0, 0, 0, 0, 0), (.iload_n 2, 1, 2, 0, 0, 0, 0)]
theorem kX12_turn_27 : rf_ck MX12_turn 27 cX12_turn_27 = true := by decide +kernel
theorem qX12_turn_29 : rf_kc MX12_turn 29 238 1522 yX12_unpaidBy 0 = true := by decide +kernel
def cX12_turn_32 : List rf_I := [(.iload_n 1, 1, 1, 0, 0, 0, 0)]
theorem kX12_turn_32 : rf_ck MX12_turn 32 cX12_turn_32 = true := by decide +kernel
theorem bX12_turn_33 : rf_ckb MX12_turn 33 (.if_icmp .gt 5) 5 38 = true := by decide +kernel
def cX12_turn_36 : List rf_I := [(.iload_n 2, 1, 2, 0, 0, 0, 0)]
theorem kX12_turn_36 : rf_ck MX12_turn 36 cX12_turn_36 = true := by decide +kernel
theorem eX12_turn_37 : rf_cki MX12_turn 37 .ireturn = true := by decide +kernel
def cX12_turn_38 : List rf_I := [(.iinc 2 1, 3, 2, 0, 0, nI 1, 0)]
theorem kX12_turn_38 : rf_ck MX12_turn 38 cX12_turn_38 = true := by decide +kernel
theorem bX12_turn_41 : rf_ckb MX12_turn 41 (.goto (-21)) (-21) 20 = true := by decide +kernel
def cX12_turn_44 : List rf_I := [(.aload_n 0, 1, 0, 0, 0, 0, 0), (.iconst 2, 1, 0, 0, 0, nI 2, 0)]
theorem kX12_turn_44 : rf_ck MX12_turn 44 cX12_turn_44 = true := by decide +kernel
theorem qX12_turn_46 : rf_kc MX12_turn 46 59 1261 yX12_finds 0 = true := by decide +kernel
theorem eX12_turn_49 : rf_cki MX12_turn 49 .ireturn = true := by decide +kernel
abbrev MX12_gate : rf_M := (yX12_gate, cX12_gate, 7, (some (.int)))
theorem mkX12_gate : rf_mk MX12_gate 0 2 1592 85 1590 1591 = true := by decide +kernel
def cX12_gate_0 : List rf_I := [(.aload_n 0, 1, 0, 0, 0, 0, 0), (.iload_n 1, 1, 1, 0, 0, 0, 0)]
theorem kX12_gate_0 : rf_ck MX12_gate 0 cX12_gate_0 = true := by decide +kernel
theorem qX12_gate_2 : rf_kc MX12_gate 2 55 1274 yX12_isStation 0 = true := by decide +kernel
theorem bX12_gate_5 : rf_ckb MX12_gate 5 (.ifCond .eq 15) 15 20 = true := by decide +kernel
def cX12_gate_8 : List rf_I := [(.iload_n 2, 1, 2, 0, 0, 0, 0), (.i2l, 1, 0, 0, 0, 0, 0), (.lconst 0, 1, 0, 0, 0, 0, lN 0), (.ldc2_w 273, 3, 0, 0, 1588, 0, lN 99999)]
theorem kX12_gate_8 : rf_ck MX12_gate 8 cX12_gate_8 = true := by decide +kernel
theorem qX12_gate_14 : rf_kc MX12_gate 14 51 1278 yX12_in 1 = true := by decide +kernel
theorem bX12_gate_17 : rf_ckb MX12_gate 17 (.ifCond .ne 9) 9 26 = true := by decide +kernel
def cX12_gate_20 : List rf_I := [(.aload_n 0, 1, 0, 0, 0, 0, 0), (.iconst 1, 1, 0, 0, 0, nI 1, 0)]
theorem kX12_gate_20 : rf_ck MX12_gate 20 cX12_gate_20 = true := by decide +kernel
theorem qX12_gate_22 : rf_kc MX12_gate 22 59 1261 yX12_finds 0 = true := by decide +kernel
theorem eX12_gate_25 : rf_cki MX12_gate 25 .ireturn = true := by decide +kernel
def cX12_gate_26 : List rf_I := [(.iconst 0, 1, 0, 0, 0, nI 0, 0), (.istore_n 3, 1, 3, 0, 0, 0, 0), (.iconst 0, 1, 0, 0, 0, nI 0, 0), (.istore 4, 2, 4, 0, 0, 0, 0)]
theorem kX12_gate_26 : rf_ck MX12_gate 26 cX12_gate_26 = true := by decide +kernel
def cX12_gate_31 : List rf_I := [(.iload 4, 2, 4, 0, 0, 0, 0), (.aload_n 0, 1, 0, 0, 0, 0, 0), (.getfield 7, 3, 12, 0, 1184, 0, 0), (.iconst 4, 1, 0, 0, 0, nI 4, 0), (.iaload, 1, 0, 0, 0, 0, 0)]
theorem kX12_gate_31 : rf_ck MX12_gate 31 cX12_gate_31 = true := by decide +kernel
theorem bX12_gate_39 : rf_ckb MX12_gate 39 (.if_icmp .ge 86) 86 125 = true := by decide +kernel
def cX12_gate_42 : List rf_I := [(.aload_n 0, 1, 0, 0, 0, 0, 0), (.iload 4, 2, 4, 0, 0, 0, 0), (.iconst 1, 1, 0, 0, 0, nI 1, 0)]
theorem kX12_gate_42 : rf_ck MX12_gate 42 cX12_gate_42 = true := by decide +kernel
theorem qX12_gate_46 : rf_kc MX12_gate 46 184 1435 yX12_gr 0 = true := by decide +kernel
def cX12_gate_49 : List rf_I := [(.istore 5, 2, 5, 0, 0, 0, 0), (.aload_n 0, 1, 0, 0, 0, 0, 0), (.iload 4, 2, 4, 0, 0, 0, 0), (.iconst 2, 1, 0, 0, 0, nI 2, 0)]
theorem kX12_gate_49 : rf_ck MX12_gate 49 cX12_gate_49 = true := by decide +kernel
theorem qX12_gate_55 : rf_kc MX12_gate 55 184 1435 yX12_gr 0 = true := by decide +kernel
def cX12_gate_58 : List rf_I := [(.aload_n 0, 1, 0, 0, 0, 0, 0), (.iload 5, 2, 5, 0, 0, 0, 0)]
theorem kX12_gate_58 : rf_ck MX12_gate 58 cX12_gate_58 = true := by decide +kernel
theorem qX12_gate_61 : rf_kc MX12_gate 61 84 1325 yX12_stopsOf 0 = true := by decide +kernel
theorem bX12_gate_64 : rf_ckb MX12_gate 64 (.if_icmp .ge 24) 24 88 = true := by decide +kernel
def cX12_gate_67 : List rf_I := [(.aload_n 0, 1, 0, 0, 0, 0, 0), (.iload 5, 2, 5, 0, 0, 0, 0), (.aload_n 0, 1, 0, 0, 0, 0, 0), (.iload 4, 2, 4, 0, 0, 0, 0), (.iconst 2, 1, 0, 0, 0, nI 2, 0)]
theorem kX12_gate_67 : rf_ck MX12_gate 67 cX12_gate_67 = true := by decide +kernel
theorem qX12_gate_74 : rf_kc MX12_gate 74 184 1435 yX12_gr 0 = true := by decide +kernel
theorem qX12_gate_77 : rf_kc MX12_gate 77 97 1333 yX12_stationAt 0 = true := by decide +kernel
def cX12_gate_80 : List rf_I := [(.iload_n 1, 1, 1, 0, 0, 0, 0)]
theorem kX12_gate_80 : rf_ck MX12_gate 80 cX12_gate_80 = true := by decide +kernel
theorem bX12_gate_81 : rf_ckb MX12_gate 81 (.if_icmp .ne 7) 7 88 = true := by decide +kernel
def cX12_gate_84 : List rf_I := [(.iconst 1, 1, 0, 0, 0, nI 1, 0)]
theorem kX12_gate_84 : rf_ck MX12_gate 84 cX12_gate_84 = true := by decide +kernel
theorem bX12_gate_85 : rf_ckb MX12_gate 85 (.goto 4) 4 89 = true := by decide +kernel
def cX12_gate_88 : List rf_I := [(.iconst 0, 1, 0, 0, 0, nI 0, 0)]
theorem kX12_gate_88 : rf_ck MX12_gate 88 cX12_gate_88 = true := by decide +kernel
def cX12_gate_89 : List rf_I := [(.istore 6, 2, 6, 0, 0, 0, 0), (.iload_n 3, 1, 3, 0, 0, 0, 0), (.iload 6, 2, 6, 0, 0, 0, 0)]
theorem kX12_gate_89 : rf_ck MX12_gate 89 cX12_gate_89 = true := by decide +kernel
theorem bX12_gate_94 : rf_ckb MX12_gate 94 (.ifCond .eq 22) 22 116 = true := by decide +kernel
def cX12_gate_97 : List rf_I := [(.aload_n 0, 1, 0, 0, 0, 0, 0), (.iload 4, 2, 4, 0, 0, 0, 0)]
theorem kX12_gate_97 : rf_ck MX12_gate 97 cX12_gate_97 = true := by decide +kernel
theorem qX12_gate_100 : rf_kc MX12_gate 100 201 1439 yX12_pays 0 = true := by decide +kernel
theorem bX12_gate_103 : rf_ckb MX12_gate 103 (.ifCond .ne 13) 13 116 = true := by decide +kernel
def cX12_gate_106 : List rf_I := [(.aload_n 0, 1, 0, 0, 0, 0, 0), (.iload 4, 2, 4, 0, 0, 0, 0), (.iconst 4, 1, 0, 0, 0, nI 4, 0)]
theorem kX12_gate_106 : rf_ck MX12_gate 106 cX12_gate_106 = true := by decide +kernel
theorem qX12_gate_110 : rf_kc MX12_gate 110 184 1435 yX12_gr 0 = true := by decide +kernel
theorem bX12_gate_113 : rf_ckb MX12_gate 113 (.goto 4) 4 117 = true := by decide +kernel
def cX12_gate_116 : List rf_I := [(.iconst 0, 1, 0, 0, 0, nI 0, 0)]
theorem kX12_gate_116 : rf_ck MX12_gate 116 cX12_gate_116 = true := by decide +kernel
def cX12_gate_117 : List rf_I := [(.iadd, 1, 0, 0, 0, 0, 0), (.istore_n 3, 1, 3, 0, 0, 0, 0), (.iinc 4 1, 3, 4, 0, 0, nI 1, 0)]
theorem kX12_gate_117 : rf_ck MX12_gate 117 cX12_gate_117 = true := by decide +kernel
theorem bX12_gate_122 : rf_ckb MX12_gate 122 (.goto (-91)) (-91) 31 = true := by decide +kernel
def cX12_gate_125 : List rf_I := [(.aload_n 0, 1, 0, 0, 0, 0, 0), (.getfield 7, 3, 12, 0, 1184, 0, 0), (.bipush 8, 2, 0, 0, 0, nI 8, 0), (.iaload, 1, 0, 0, 0, 0, 0), (.iload_n 3, 1, 3, 0, 0, 0, 0), (.imul, 1, 0, 0, 0, 0, 0), (.iload_n 2, 1, 2, 0, 0, 0, 0), (.isub, 1, 0, 0, 0, 0, 0)]
theorem kX12_gate_125 : rf_ck MX12_gate 125 cX12_gate_125 = true := by decide +kernel
theorem eX12_gate_136 : rf_cki MX12_gate 136 .ireturn = true := by decide +kernel
abbrev MX12_wrong_ : rf_M := (yX12_wrong_, cX12_wrong_, 7, (some (.long)))
theorem mkX12_wrong_ : rf_mk MX12_wrong_ 0 2 1596 85 1594 1595 = true := by decide +kernel
def cX12_wrong__0 : List rf_I := [(.iload_n 1, 1, 1, 0, 0, 0, 0), (.i2l, 1, 0, 0, 0, 0, 0), (.lconst 0, 1, 0, 0, 0, 0, lN 0), (.ldc2_w 275, 3, 0, 0, 1597, 0, lN 1000)]
theorem kX12_wrong__0 : rf_ck MX12_wrong_ 0 cX12_wrong__0 = true := by decide +kernel
theorem qX12_wrong__6 : rf_kc MX12_wrong_ 6 51 1278 yX12_in 1 = true := by decide +kernel
theorem bX12_wrong__9 : rf_ckb MX12_wrong_ 9 (.ifCond .eq 13) 13 22 = true := by decide +kernel
def cX12_wrong__12 : List rf_I := [(.iload_n 2, 1, 2, 0, 0, 0, 0), (.i2l, 1, 0, 0, 0, 0, 0), (.lconst 0, 1, 0, 0, 0, 0, lN 0), (.lconst 1, 1, 0, 0, 0, 0, lN 1)]
theorem kX12_wrong__12 : rf_ck MX12_wrong_ 12 cX12_wrong__12 = true := by decide +kernel
theorem qX12_wrong__16 : rf_kc MX12_wrong_ 16 51 1278 yX12_in 1 = true := by decide +kernel
theorem bX12_wrong__19 : rf_ckb MX12_wrong_ 19 (.ifCond .ne 10) 10 29 = true := by decide +kernel
def cX12_wrong__22 : List rf_I := [(.aload_n 0, 1, 0, 0, 0, 0, 0), (.iconst 1, 1, 0, 0, 0, nI 1, 0)]
theorem kX12_wrong__22 : rf_ck MX12_wrong_ 22 cX12_wrong__22 = true := by decide +kernel
theorem qX12_wrong__24 : rf_kc MX12_wrong_ 24 59 1261 yX12_finds 0 = true := by decide +kernel
def cX12_wrong__27 : List rf_I := [(.i2l, 1, 0, 0, 0, 0, 0)]
theorem kX12_wrong__27 : rf_ck MX12_wrong_ 27 cX12_wrong__27 = true := by decide +kernel
theorem eX12_wrong__28 : rf_cki MX12_wrong_ 28 .lreturn = true := by decide +kernel
def cX12_wrong__29 : List rf_I := [(.aload_n 0, 1, 0, 0, 0, 0, 0)]
theorem kX12_wrong__29 : rf_ck MX12_wrong_ 29 cX12_wrong__29 = true := by decide +kernel
theorem qX12_wrong__30 : rf_kc MX12_wrong_ 30 190 1443 yX12_allLots 0 = true := by decide +kernel
def cX12_wrong__33 : List rf_I := [(.istore_n 3, 1, 3, 0, 0, 0, 0), (.lconst 0, 1, 0, 0, 0, 0, lN 0), (.lstore 4, 2, 4, 0, 0, 0, 0), (.iconst 0, 1, 0, 0, 0, nI 0, 0), (.istore 6, 2, 6, 0, 0, 0, 0)]
theorem kX12_wrong__33 : rf_ck MX12_wrong_ 33 cX12_wrong__33 = true := by decide +kernel
def cX12_wrong__40 : List rf_I := [(.iload 6, 2, 6, 0, 0, 0, 0), (.aload_n 0, 1, 0, 0, 0, 0, 0), (.getfield 7, 3, 12, 0, 1184, 0, 0), (.iconst 4, 1, 0, 0, 0, nI 4, 0), (.iaload, 1, 0, 0, 0, 0, 0)]
theorem kX12_wrong__40 : rf_ck MX12_wrong_ 40 cX12_wrong__40 = true := by decide +kernel
theorem bX12_wrong__48 : rf_ckb MX12_wrong_ 48 (.if_icmp .ge 51) 51 99 = true := by decide +kernel
def cX12_wrong__51 : List rf_I := [(.lload 4, 2, 4, 0, 0, 0, 0), (.aload_n 0, 1, 0, 0, 0, 0, 0), (.iload 6, 2, 6, 0, 0, 0, 0)]
theorem kX12_wrong__51 : rf_ck MX12_wrong_ 51 cX12_wrong__51 = true := by decide +kernel
theorem qX12_wrong__56 : rf_kc MX12_wrong_ 56 201 1439 yX12_pays 0 = true := by decide +kernel
theorem bX12_wrong__59 : rf_ckb MX12_wrong_ 59 (.ifCond .eq 30) 30 89 = true := by decide +kernel
def cX12_wrong__62 : List rf_I := [(.aload_n 0, 1, 0, 0, 0, 0, 0), (.iload 6, 2, 6, 0, 0, 0, 0), (.iconst 4, 1, 0, 0, 0, nI 4, 0)]
theorem kX12_wrong__62 : rf_ck MX12_wrong_ 62 cX12_wrong__62 = true := by decide +kernel
theorem qX12_wrong__66 : rf_kc MX12_wrong_ 66 184 1435 yX12_gr 0 = true := by decide +kernel
def cX12_wrong__69 : List rf_I := [(.i2l, 1, 0, 0, 0, 0, 0), (.aload_n 0, 1, 0, 0, 0, 0, 0), (.aload_n 0, 1, 0, 0, 0, 0, 0), (.iload 6, 2, 6, 0, 0, 0, 0), (.iconst 1, 1, 0, 0, 0, nI 1, 0)]
theorem kX12_wrong__69 : rf_ck MX12_wrong_ 69 cX12_wrong__69 = true := by decide +kernel
theorem qX12_wrong__75 : rf_kc MX12_wrong_ 75 184 1435 yX12_gr 0 = true := by decide +kernel
theorem qX12_wrong__78 : rf_kc MX12_wrong_ 78 100 1337 yX12_lotsWith 0 = true := by decide +kernel
def cX12_wrong__81 : List rf_I := [(.i2l, 1, 0, 0, 0, 0, 0), (.lmul, 1, 0, 0, 0, 0, 0), (.iload_n 1, 1, 1, 0, 0, 0, 0), (.i2l, 1, 0, 0, 0, 0, 0), (.lmul, 1, 0, 0, 0, 0, 0)]
theorem kX12_wrong__81 : rf_ck MX12_wrong_ 81 cX12_wrong__81 = true := by decide +kernel
theorem bX12_wrong__86 : rf_ckb MX12_wrong_ 86 (.goto 4) 4 90 = true := by decide +kernel
def cX12_wrong__89 : List rf_I := [(.lconst 0, 1, 0, 0, 0, 0, lN 0)]
theorem kX12_wrong__89 : rf_ck MX12_wrong_ 89 cX12_wrong__89 = true := by decide +kernel
def cX12_wrong__90 : List rf_I := [(.ladd, 1, 0, 0, 0, 0, 0), (.lstore 4, 2, 4, 0, 0, 0, 0), (.iinc 6 1, 3, 6, 0, 0, nI 1, 0)]
theorem kX12_wrong__90 : rf_ck MX12_wrong_ 90 cX12_wrong__90 = true := by decide +kernel
theorem bX12_wrong__96 : rf_ckb MX12_wrong_ 96 (.goto (-56)) (-56) 40 = true := by decide +kernel
def cX12_wrong__99 : List rf_I := [(.iload_n 3, 1, 3, 0, 0, 0, 0)]
theorem kX12_wrong__99 : rf_ck MX12_wrong_ 99 cX12_wrong__99 = true := by decide +kernel
theorem bX12_wrong__100 : rf_ckb MX12_wrong_ 100 (.ifCond .ne 8) 8 108 = true := by decide +kernel
def cX12_wrong__103 : List rf_I := [(.iload_n 2, 1, 2, 0, 0, 0, 0), (.i2l, 1, 0, 0, 0, 0, 0)]
theorem kX12_wrong__103 : rf_ck MX12_wrong_ 103 cX12_wrong__103 = true := by decide +kernel
theorem bX12_wrong__105 : rf_ckb MX12_wrong_ 105 (.goto 15) 15 120 = true := by decide +kernel
def cX12_wrong__108 : List rf_I := [(.lload 4, 2, 4, 0, 0, 0, 0), (.ldc2_w 275, 3, 0, 0, 1597, 0, lN 1000), (.iload_n 3, 1, 3, 0, 0, 0, 0), (.i2l, 1, 0, 0, 0, 0, 0), (.lmul, 1, 0, 0, 0, 0, 0), (.iload_n 2, 1, 2, 0, 0, 0, 0)]
theorem kX12_wrong__108 : rf_ck MX12_wrong_ 108 cX12_wrong__108 = true := by decide +kernel
theorem qX12_wrong__117 : rf_kc MX12_wrong_ 117 234 1512 yX12_part 1 = true := by decide +kernel
theorem eX12_wrong__120 : rf_cki MX12_wrong_ 120 .lreturn = true := by decide +kernel
abbrev MX12_seen : rf_M := (yX12_seen, cX12_seen, 12, (some (.int)))
theorem mkX12_seen : rf_mk MX12_seen 0 2 1601 85 1599 1600 = true := by decide +kernel
def cX12_seen_0 : List rf_I := [(.aload_n 0, 1, 0, 0, 0, 0, 0), (.iload_n 1, 1, 1, 0, 0, 0, 0)]
theorem kX12_seen_0 : rf_ck MX12_seen 0 cX12_seen_0 = true := by decide +kernel
theorem qX12_seen_2 : rf_kc MX12_seen 2 91 1309 yX12_isTrain 0 = true := by decide +kernel
theorem bX12_seen_5 : rf_ckb MX12_seen 5 (.ifCond .eq 15) 15 20 = true := by decide +kernel
def cX12_seen_8 : List rf_I := [(.iload_n 2, 1, 2, 0, 0, 0, 0), (.i2l, 1, 0, 0, 0, 0, 0), (.lconst 0, 1, 0, 0, 0, 0, lN 0), (.ldc2_w 277, 3, 0, 0, 1602, 0, lN 100)]
theorem kX12_seen_8 : rf_ck MX12_seen 8 cX12_seen_8 = true := by decide +kernel
theorem qX12_seen_14 : rf_kc MX12_seen 14 51 1278 yX12_in 1 = true := by decide +kernel
theorem bX12_seen_17 : rf_ckb MX12_seen 17 (.ifCond .ne 9) 9 26 = true := by decide +kernel
def cX12_seen_20 : List rf_I := [(.aload_n 0, 1, 0, 0, 0, 0, 0), (.iconst 1, 1, 0, 0, 0, nI 1, 0)]
theorem kX12_seen_20 : rf_ck MX12_seen 20 cX12_seen_20 = true := by decide +kernel
theorem qX12_seen_22 : rf_kc MX12_seen 22 59 1261 yX12_finds 0 = true := by decide +kernel
theorem eX12_seen_25 : rf_cki MX12_seen 25 .ireturn = true := by decide +kernel
def cX12_seen_26 : List rf_I := [(.aload_n 0, 1, 0, 0, 0, 0, 0)]
theorem kX12_seen_26 : rf_ck MX12_seen 26 cX12_seen_26 = true := by decide +kernel
theorem qX12_seen_27 : rf_kc MX12_seen 27 190 1443 yX12_allLots 0 = true := by decide +kernel
theorem bX12_seen_30 : rf_ckb MX12_seen 30 (.ifCond .ne 7) 7 37 = true := by decide +kernel
def cX12_seen_33 : List rf_I := [(.lconst 1, 1, 0, 0, 0, 0, lN 1)]
theorem kX12_seen_33 : rf_ck MX12_seen 33 cX12_seen_33 = true := by decide +kernel
theorem bX12_seen_34 : rf_ckb MX12_seen 34 (.goto 8) 8 42 = true := by decide +kernel
def cX12_seen_37 : List rf_I := [(.aload_n 0, 1, 0, 0, 0, 0, 0)]
theorem kX12_seen_37 : rf_ck MX12_seen 37 cX12_seen_37 = true := by decide +kernel
theorem qX12_seen_38 : rf_kc MX12_seen 38 190 1443 yX12_allLots 0 = true := by decide +kernel
def cX12_seen_41 : List rf_I := [(.i2l, 1, 0, 0, 0, 0, 0)]
theorem kX12_seen_41 : rf_ck MX12_seen 41 cX12_seen_41 = true := by decide +kernel
def cX12_seen_42 : List rf_I := [(.lstore_n 3, 1, 3, 0, 0, 0, 0), (.lload_n 3, 1, 3, 0, 0, 0, 0), (.aload_n 0, 1, 0, 0, 0, 0, 0), (.iload_n 1, 1, 1, 0, 0, 0, 0)]
theorem kX12_seen_42 : rf_ck MX12_seen 42 cX12_seen_42 = true := by decide +kernel
theorem qX12_seen_46 : rf_kc MX12_seen 46 100 1337 yX12_lotsWith 0 = true := by decide +kernel
def cX12_seen_49 : List rf_I := [(.i2l, 1, 0, 0, 0, 0, 0), (.lsub, 1, 0, 0, 0, 0, 0), (.lstore 5, 2, 5, 0, 0, 0, 0), (.lconst 1, 1, 0, 0, 0, 0, lN 1), (.lstore 7, 2, 7, 0, 0, 0, 0), (.lconst 1, 1, 0, 0, 0, 0, lN 1), (.lstore 9, 2, 9, 0, 0, 0, 0), (.iconst 1, 1, 0, 0, 0, nI 1, 0), (.istore 11, 2, 11, 0, 0, 0, 0)]
theorem kX12_seen_49 : rf_ck MX12_seen 49 cX12_seen_49 = true := by decide +kernel
def cX12_seen_62 : List rf_I := [(.iload 11, 2, 11, 0, 0, 0, 0), (.bipush 8, 2, 0, 0, 0, nI 8, 0)]
theorem kX12_seen_62 : rf_ck MX12_seen 62 cX12_seen_62 = true := by decide +kernel
theorem bX12_seen_66 : rf_ckb MX12_seen 66 (.if_icmp .gt 43) 43 109 = true := by decide +kernel
def cX12_seen_69 : List rf_I := [(.lload 7, 2, 7, 0, 0, 0, 0), (.lload_n 3, 1, 3, 0, 0, 0, 0), (.lmul, 1, 0, 0, 0, 0, 0), (.lstore 7, 2, 7, 0, 0, 0, 0), (.lload 9, 2, 9, 0, 0, 0, 0), (.lload 5, 2, 5, 0, 0, 0, 0), (.lmul, 1, 0, 0, 0, 0, 0), (.lstore 9, 2, 9, 0, 0, 0, 0), (.ldc2_w 277, 3, 0, 0, 1602, 0, lN 100), (.lload 7, 2, 7, 0, 0, 0, 0), (.lload 9, 2, 9, 0, 0, 0, 0), (.lsub, 1, 0, 0, 0, 0, 0), (.lmul, 1, 0, 0, 0, 0, 0), (.iload_n 2, 1, 2, 0, 0, 0, 0), (.i2l, 1, 0, 0, 0, 0, 0), (.lload 7, 2, 7, 0, 0, 0, 0), (.lmul, 1, 0, 0, 0, 0, 0), (.lcmp, 1, 0, 0, 0, 0, 0)]
theorem kX12_seen_69 : rf_ck MX12_seen 69 cX12_seen_69 = true := by decide +kernel
theorem bX12_seen_97 : rf_ckb MX12_seen 97 (.ifCond .lt 6) 6 103 = true := by decide +kernel
def cX12_seen_100 : List rf_I := [(.iload 11, 2, 11, 0, 0, 0, 0)]
theorem kX12_seen_100 : rf_ck MX12_seen 100 cX12_seen_100 = true := by decide +kernel
theorem eX12_seen_102 : rf_cki MX12_seen 102 .ireturn = true := by decide +kernel
def cX12_seen_103 : List rf_I := [(.iinc 11 1, 3, 11, 0, 0, nI 1, 0)]
theorem kX12_seen_103 : rf_ck MX12_seen 103 cX12_seen_103 = true := by decide +kernel
theorem bX12_seen_106 : rf_ckb MX12_seen 106 (.goto (-44)) (-44) 62 = true := by decide +kernel
def cX12_seen_109 : List rf_I := [(.aload_n 0, 1, 0, 0, 0, 0, 0), (.iconst 2, 1, 0, 0, 0, nI 2, 0)]
theorem kX12_seen_109 : rf_ck MX12_seen 109 cX12_seen_109 = true := by decide +kernel
theorem qX12_seen_111 : rf_kc MX12_seen 111 59 1261 yX12_finds 0 = true := by decide +kernel
theorem eX12_seen_114 : rf_cki MX12_seen 114 .ireturn = true := by decide +kernel
abbrev MX12_fair : rf_M := (yX12_fair, cX12_fair, 9, (some (.int)))
theorem mkX12_fair : rf_mk MX12_fair 0 1 1606 85 1604 1605 = true := by decide +kernel
def cX12_fair_0 : List rf_I := [(.iload_n 1, 1, 1, 0, 0, 0, 0), (.i2l, 1, 0, 0, 0, 0, 0), (.lconst 0, 1, 0, 0, 0, 0, lN 0), (.lconst 1, 1, 0, 0, 0, 0, lN 1)]
theorem kX12_fair_0 : rf_ck MX12_fair 0 cX12_fair_0 = true := by decide +kernel
theorem qX12_fair_4 : rf_kc MX12_fair 4 51 1278 yX12_in 1 = true := by decide +kernel
theorem bX12_fair_7 : rf_ckb MX12_fair 7 (.ifCond .ne 9) 9 16 = true := by decide +kernel
def cX12_fair_10 : List rf_I := [(.aload_n 0, 1, 0, 0, 0, 0, 0), (.iconst 1, 1, 0, 0, 0, nI 1, 0)]
theorem kX12_fair_10 : rf_ck MX12_fair 10 cX12_fair_10 = true := by decide +kernel
theorem qX12_fair_12 : rf_kc MX12_fair 12 59 1261 yX12_finds 0 = true := by decide +kernel
theorem eX12_fair_15 : rf_cki MX12_fair 15 .ireturn = true := by decide +kernel
def cX12_fair_16 : List rf_I := [(.iconst (-1), 1, 0, 0, 0, (-1), 0), (.istore_n 2, 1, 2, 0, 0, 0, 0), (.iconst (-1), 1, 0, 0, 0, (-1), 0), (.istore_n 3, 1, 3, 0, 0, 0, 0), (.iconst 0, 1, 0, 0, 0, nI 0, 0), (.istore 4, 2, 4, 0, 0, 0, 0)]
theorem kX12_fair_16 : rf_ck MX12_fair 16 cX12_fair_16 = true := by decide +kernel
def cX12_fair_23 : List rf_I := [(.iload 4, 2, 4, 0, 0, 0, 0), (.aload_n 0, 1, 0, 0, 0, 0, 0), (.getfield 7, 3, 12, 0, 1184, 0, 0), (.iconst 2, 1, 0, 0, 0, nI 2, 0), (.iaload, 1, 0, 0, 0, 0, 0)]
theorem kX12_fair_23 : rf_ck MX12_fair 23 cX12_fair_23 = true := by decide +kernel
theorem bX12_fair_31 : rf_ckb MX12_fair 31 (.if_icmp .ge 154) 154 185 = true := by decide +kernel
def cX12_fair_34 : List rf_I := [(.iconst 0, 1, 0, 0, 0, nI 0, 0), (.istore 5, 2, 5, 0, 0, 0, 0), (.iconst 0, 1, 0, 0, 0, nI 0, 0), (.istore 6, 2, 6, 0, 0, 0, 0), (.iconst 0, 1, 0, 0, 0, nI 0, 0), (.istore 7, 2, 7, 0, 0, 0, 0)]
theorem kX12_fair_34 : rf_ck MX12_fair 34 cX12_fair_34 = true := by decide +kernel
def cX12_fair_43 : List rf_I := [(.iload 7, 2, 7, 0, 0, 0, 0), (.aload_n 0, 1, 0, 0, 0, 0, 0), (.getfield 7, 3, 12, 0, 1184, 0, 0), (.iconst 4, 1, 0, 0, 0, nI 4, 0), (.iaload, 1, 0, 0, 0, 0, 0)]
theorem kX12_fair_43 : rf_ck MX12_fair 43 cX12_fair_43 = true := by decide +kernel
theorem bX12_fair_51 : rf_ckb MX12_fair 51 (.if_icmp .ge 83) 83 134 = true := by decide +kernel
def cX12_fair_54 : List rf_I := [(.aload_n 0, 1, 0, 0, 0, 0, 0), (.aload_n 0, 1, 0, 0, 0, 0, 0), (.iload 7, 2, 7, 0, 0, 0, 0), (.iconst 1, 1, 0, 0, 0, nI 1, 0)]
theorem kX12_fair_54 : rf_ck MX12_fair 54 cX12_fair_54 = true := by decide +kernel
theorem qX12_fair_59 : rf_kc MX12_fair 59 184 1435 yX12_gr 0 = true := by decide +kernel
theorem qX12_fair_62 : rf_kc MX12_fair 62 78 1313 yX12_lineOf 0 = true := by decide +kernel
def cX12_fair_65 : List rf_I := [(.iload 4, 2, 4, 0, 0, 0, 0)]
theorem kX12_fair_65 : rf_ck MX12_fair 65 cX12_fair_65 = true := by decide +kernel
theorem bX12_fair_67 : rf_ckb MX12_fair 67 (.if_icmp .ne 7) 7 74 = true := by decide +kernel
def cX12_fair_70 : List rf_I := [(.iconst 1, 1, 0, 0, 0, nI 1, 0)]
theorem kX12_fair_70 : rf_ck MX12_fair 70 cX12_fair_70 = true := by decide +kernel
theorem bX12_fair_71 : rf_ckb MX12_fair 71 (.goto 4) 4 75 = true := by decide +kernel
def cX12_fair_74 : List rf_I := [(.iconst 0, 1, 0, 0, 0, nI 0, 0)]
theorem kX12_fair_74 : rf_ck MX12_fair 74 cX12_fair_74 = true := by decide +kernel
def cX12_fair_75 : List rf_I := [(.istore 8, 2, 8, 0, 0, 0, 0), (.iload 5, 2, 5, 0, 0, 0, 0), (.iload 8, 2, 8, 0, 0, 0, 0)]
theorem kX12_fair_75 : rf_ck MX12_fair 75 cX12_fair_75 = true := by decide +kernel
theorem bX12_fair_81 : rf_ckb MX12_fair 81 (.ifCond .eq 13) 13 94 = true := by decide +kernel
def cX12_fair_84 : List rf_I := [(.aload_n 0, 1, 0, 0, 0, 0, 0), (.iload 7, 2, 7, 0, 0, 0, 0), (.iconst 4, 1, 0, 0, 0, nI 4, 0)]
theorem kX12_fair_84 : rf_ck MX12_fair 84 cX12_fair_84 = true := by decide +kernel
theorem qX12_fair_88 : rf_kc MX12_fair 88 184 1435 yX12_gr 0 = true := by decide +kernel
theorem bX12_fair_91 : rf_ckb MX12_fair 91 (.goto 4) 4 95 = true := by decide +kernel
def cX12_fair_94 : List rf_I := [(.iconst 0, 1, 0, 0, 0, nI 0, 0)]
theorem kX12_fair_94 : rf_ck MX12_fair 94 cX12_fair_94 = true := by decide +kernel
def cX12_fair_95 : List rf_I := [(.iadd, 1, 0, 0, 0, 0, 0), (.istore 5, 2, 5, 0, 0, 0, 0), (.iload 6, 2, 6, 0, 0, 0, 0), (.iload 8, 2, 8, 0, 0, 0, 0)]
theorem kX12_fair_95 : rf_ck MX12_fair 95 cX12_fair_95 = true := by decide +kernel
theorem bX12_fair_102 : rf_ckb MX12_fair 102 (.ifCond .eq 22) 22 124 = true := by decide +kernel
def cX12_fair_105 : List rf_I := [(.aload_n 0, 1, 0, 0, 0, 0, 0), (.iload 7, 2, 7, 0, 0, 0, 0)]
theorem kX12_fair_105 : rf_ck MX12_fair 105 cX12_fair_105 = true := by decide +kernel
theorem qX12_fair_108 : rf_kc MX12_fair 108 201 1439 yX12_pays 0 = true := by decide +kernel
theorem bX12_fair_111 : rf_ckb MX12_fair 111 (.ifCond .ne 13) 13 124 = true := by decide +kernel
def cX12_fair_114 : List rf_I := [(.aload_n 0, 1, 0, 0, 0, 0, 0), (.iload 7, 2, 7, 0, 0, 0, 0), (.iconst 4, 1, 0, 0, 0, nI 4, 0)]
theorem kX12_fair_114 : rf_ck MX12_fair 114 cX12_fair_114 = true := by decide +kernel
theorem qX12_fair_118 : rf_kc MX12_fair 118 184 1435 yX12_gr 0 = true := by decide +kernel
theorem bX12_fair_121 : rf_ckb MX12_fair 121 (.goto 4) 4 125 = true := by decide +kernel
def cX12_fair_124 : List rf_I := [(.iconst 0, 1, 0, 0, 0, nI 0, 0)]
theorem kX12_fair_124 : rf_ck MX12_fair 124 cX12_fair_124 = true := by decide +kernel
def cX12_fair_125 : List rf_I := [(.iadd, 1, 0, 0, 0, 0, 0), (.istore 6, 2, 6, 0, 0, 0, 0), (.iinc 7 1, 3, 7, 0, 0, nI 1, 0)]
theorem kX12_fair_125 : rf_ck MX12_fair 125 cX12_fair_125 = true := by decide +kernel
theorem bX12_fair_131 : rf_ckb MX12_fair 131 (.goto (-88)) (-88) 43 = true := by decide +kernel
def cX12_fair_134 : List rf_I := [(.iload 5, 2, 5, 0, 0, 0, 0)]
theorem kX12_fair_134 : rf_ck MX12_fair 134 cX12_fair_134 = true := by decide +kernel
theorem bX12_fair_136 : rf_ckb MX12_fair 136 (.ifCond .ne 7) 7 143 = true := by decide +kernel
def cX12_fair_139 : List rf_I := [(.iconst (-1), 1, 0, 0, 0, (-1), 0)]
theorem kX12_fair_139 : rf_ck MX12_fair 139 cX12_fair_139 = true := by decide +kernel
theorem bX12_fair_140 : rf_ckb MX12_fair 140 (.goto 11) 11 151 = true := by decide +kernel
def cX12_fair_143 : List rf_I := [(.bipush 100, 2, 0, 0, 0, nI 100, 0), (.iload 6, 2, 6, 0, 0, 0, 0), (.imul, 1, 0, 0, 0, 0, 0), (.iload 5, 2, 5, 0, 0, 0, 0), (.idiv, 1, 0, 0, 0, 0, 0)]
theorem kX12_fair_143 : rf_ck MX12_fair 143 cX12_fair_143 = true := by decide +kernel
def cX12_fair_151 : List rf_I := [(.istore 7, 2, 7, 0, 0, 0, 0), (.iload 7, 2, 7, 0, 0, 0, 0), (.iload_n 3, 1, 3, 0, 0, 0, 0)]
theorem kX12_fair_151 : rf_ck MX12_fair 151 cX12_fair_151 = true := by decide +kernel
theorem bX12_fair_156 : rf_ckb MX12_fair 156 (.if_icmp .le 8) 8 164 = true := by decide +kernel
def cX12_fair_159 : List rf_I := [(.iload 4, 2, 4, 0, 0, 0, 0)]
theorem kX12_fair_159 : rf_ck MX12_fair 159 cX12_fair_159 = true := by decide +kernel
theorem bX12_fair_161 : rf_ckb MX12_fair 161 (.goto 4) 4 165 = true := by decide +kernel
def cX12_fair_164 : List rf_I := [(.iload_n 2, 1, 2, 0, 0, 0, 0)]
theorem kX12_fair_164 : rf_ck MX12_fair 164 cX12_fair_164 = true := by decide +kernel
def cX12_fair_165 : List rf_I := [(.istore_n 2, 1, 2, 0, 0, 0, 0), (.iload 7, 2, 7, 0, 0, 0, 0), (.iload_n 3, 1, 3, 0, 0, 0, 0)]
theorem kX12_fair_165 : rf_ck MX12_fair 165 cX12_fair_165 = true := by decide +kernel
theorem bX12_fair_169 : rf_ckb MX12_fair 169 (.if_icmp .le 8) 8 177 = true := by decide +kernel
def cX12_fair_172 : List rf_I := [(.iload 7, 2, 7, 0, 0, 0, 0)]
theorem kX12_fair_172 : rf_ck MX12_fair 172 cX12_fair_172 = true := by decide +kernel
theorem bX12_fair_174 : rf_ckb MX12_fair 174 (.goto 4) 4 178 = true := by decide +kernel
def cX12_fair_177 : List rf_I := [(.iload_n 3, 1, 3, 0, 0, 0, 0)]
theorem kX12_fair_177 : rf_ck MX12_fair 177 cX12_fair_177 = true := by decide +kernel
def cX12_fair_178 : List rf_I := [(.istore_n 3, 1, 3, 0, 0, 0, 0), (.iinc 4 1, 3, 4, 0, 0, nI 1, 0)]
theorem kX12_fair_178 : rf_ck MX12_fair 178 cX12_fair_178 = true := by decide +kernel
theorem bX12_fair_182 : rf_ckb MX12_fair 182 (.goto (-159)) (-159) 23 = true := by decide +kernel
def cX12_fair_185 : List rf_I := [(.iload_n 2, 1, 2, 0, 0, 0, 0)]
theorem kX12_fair_185 : rf_ck MX12_fair 185 cX12_fair_185 = true := by decide +kernel
theorem bX12_fair_186 : rf_ckb MX12_fair 186 (.ifCond .ge 11) 11 197 = true := by decide +kernel
def cX12_fair_189 : List rf_I := [(.aload_n 0, 1, 0, 0, 0, 0, 0), (.iconst 2, 1, 0, 0, 0, nI 2, 0)]
theorem kX12_fair_189 : rf_ck MX12_fair 189 cX12_fair_189 = true := by decide +kernel
theorem qX12_fair_191 : rf_kc MX12_fair 191 59 1261 yX12_finds 0 = true := by decide +kernel
theorem bX12_fair_194 : rf_ckb MX12_fair 194 (.goto 12) 12 206 = true := by decide +kernel
def cX12_fair_197 : List rf_I := [(.iload_n 1, 1, 1, 0, 0, 0, 0)]
theorem kX12_fair_197 : rf_ck MX12_fair 197 cX12_fair_197 = true := by decide +kernel
theorem bX12_fair_198 : rf_ckb MX12_fair 198 (.ifCond .ne 7) 7 205 = true := by decide +kernel
def cX12_fair_201 : List rf_I := [(.iload_n 2, 1, 2, 0, 0, 0, 0)]
theorem kX12_fair_201 : rf_ck MX12_fair 201 cX12_fair_201 = true := by decide +kernel
theorem bX12_fair_202 : rf_ckb MX12_fair 202 (.goto 4) 4 206 = true := by decide +kernel
def cX12_fair_205 : List rf_I := [(.iload_n 3, 1, 3, 0, 0, 0, 0)]
theorem kX12_fair_205 : rf_ck MX12_fair 205 cX12_fair_205 = true := by decide +kernel
theorem eX12_fair_206 : rf_cki MX12_fair 206 .ireturn = true := by decide +kernel
abbrev MX12_seed : rf_M := (yX12_seed, cX12_seed, 3, (some (.int)))
theorem mkX12_seed : rf_mk MX12_seed 0 1 1610 85 1608 1609 = true := by decide +kernel
def cX12_seed_0 : List rf_I := [(.aload_n 0, 1, 0, 0, 0, 0, 0), (.getfield 7, 3, 12, 0, 1184, 0, 0), (.bipush 10, 2, 0, 0, 0, nI 10, 0), (.iaload, 1, 0, 0, 0, 0, 0), (.istore_n 2, 1, 2, 0, 0, 0, 0), (.aload_n 0, 1, 0, 0, 0, 0, 0), (.getfield 7, 3, 12, 0, 1184, 0, 0), (.bipush 10, 2, 0, 0, 0, nI 10, 0), (.iload_n 1, 1, 1, 0, 0, 0, 0), (.iastore, 1, 0, 0, 0, 0, 0), (.iload_n 2, 1, 2, 0, 0, 0, 0)]
theorem kX12_seed_0 : rf_ck MX12_seed 0 cX12_seed_0 = true := by decide +kernel
theorem eX12_seed_17 : rf_cki MX12_seed 17 .ireturn = true := by decide +kernel
abbrev MX12_ran : rf_M := (yX12_ran, cX12_ran, 2, none)
theorem mkX12_ran : rf_mk MX12_ran 0 1 1627 85 1626 67 = true := by decide +kernel
def cX12_ran_0 : List rf_I := [(.aload_n 0, 1, 0, 0, 0, 0, 0), (.getfield 279, 3, 12, 18, 1202, 0, 0), (.bipush 40, 2, 0, 0, 0, nI 40, 0)]
theorem kX12_ran_0 : rf_ck MX12_ran 0 cX12_ran_0 = true := by decide +kernel
theorem bX12_ran_6 : rf_ckb MX12_ran 6 (.if_icmp .ge 23) 23 29 = true := by decide +kernel
def cX12_ran_9 : List rf_I := [(.aload_n 0, 1, 0, 0, 0, 0, 0), (.getfield 35, 3, 12, 17, 1201, 0, 0), (.aload_n 0, 1, 0, 0, 0, 0, 0), (.getfield 279, 3, 12, 18, 1202, 0, 0), (.iload_n 1, 1, 1, 0, 0, 0, 0), (.iastore, 1, 0, 0, 0, 0, 0), (.aload_n 0, 1, 0, 0, 0, 0, 0), (.dup, 1, 0, 0, 0, 0, 0), (.getfield 279, 3, 12, 18, 1202, 0, 0), (.iconst 1, 1, 0, 0, 0, nI 1, 0), (.iadd, 1, 0, 0, 0, 0, 0), (.putfield 279, 3, 12, 18, 1202, 0, 0)]
theorem kX12_ran_9 : rf_ck MX12_ran 9 cX12_ran_9 = true := by decide +kernel
theorem eX12_ran_29 : rf_cki MX12_ran 29 .return_ = true := by decide +kernel
abbrev MX12_above : rf_M := (yX12_above, cX12_above, 1, (some (.int)))
theorem mkX12_above : rf_mk MX12_above 1 1 1630 85 1629 0 = true := by decide +kernel
def cX12_above_0 : List rf_I := [(.iload_n 0, 1, 0, 0, 0, 0, 0), (.iconst 3, 1, 0, 0, 0, nI 3, 0)]
theorem kX12_above_0 : rf_ck MX12_above 0 cX12_above_0 = true := by decide +kernel
theorem bX12_above_2 : rf_ckb MX12_above 2 (.if_icmp .eq 8) 8 10 = true := by decide +kernel
def cX12_above_5 : List rf_I := [(.iload_n 0, 1, 0, 0, 0, 0, 0), (.iconst 4, 1, 0, 0, 0, nI 4, 0)]
theorem kX12_above_5 : rf_ck MX12_above 5 cX12_above_5 = true := by decide +kernel
theorem bX12_above_7 : rf_ckb MX12_above 7 (.if_icmp .ne 7) 7 14 = true := by decide +kernel
def cX12_above_10 : List rf_I := [(.iconst 2, 1, 0, 0, 0, nI 2, 0)]
theorem kX12_above_10 : rf_ck MX12_above 10 cX12_above_10 = true := by decide +kernel
theorem bX12_above_11 : rf_ckb MX12_above 11 (.goto 24) 24 35 = true := by decide +kernel
def cX12_above_14 : List rf_I := [(.iload_n 0, 1, 0, 0, 0, 0, 0), (.bipush 6, 2, 0, 0, 0, nI 6, 0)]
theorem kX12_above_14 : rf_ck MX12_above 14 cX12_above_14 = true := by decide +kernel
theorem bX12_above_17 : rf_ckb MX12_above 17 (.if_icmp .ne 7) 7 24 = true := by decide +kernel
def cX12_above_20 : List rf_I := [(.iconst 1, 1, 0, 0, 0, nI 1, 0)]
theorem kX12_above_20 : rf_ck MX12_above 20 cX12_above_20 = true := by decide +kernel
theorem bX12_above_21 : rf_ckb MX12_above 21 (.goto 14) 14 35 = true := by decide +kernel
def cX12_above_24 : List rf_I := [(.iload_n 0, 1, 0, 0, 0, 0, 0), (.bipush 7, 2, 0, 0, 0, nI 7, 0)]
theorem kX12_above_24 : rf_ck MX12_above 24 cX12_above_24 = true := by decide +kernel
theorem bX12_above_27 : rf_ckb MX12_above 27 (.if_icmp .ne 7) 7 34 = true := by decide +kernel
def cX12_above_30 : List rf_I := [(.iconst 5, 1, 0, 0, 0, nI 5, 0)]
theorem kX12_above_30 : rf_ck MX12_above 30 cX12_above_30 = true := by decide +kernel
theorem bX12_above_31 : rf_ckb MX12_above 31 (.goto 4) 4 35 = true := by decide +kernel
def cX12_above_34 : List rf_I := [(.iconst 0, 1, 0, 0, 0, nI 0, 0)]
theorem kX12_above_34 : rf_ck MX12_above 34 cX12_above_34 = true := by decide +kernel
theorem eX12_above_35 : rf_cki MX12_above 35 .ireturn = true := by decide +kernel
abbrev MX12_own : rf_M := (yX12_own, cX12_own, 1, (some (.int)))
theorem mkX12_own : rf_mk MX12_own 0 0 1619 85 1618 65 = true := by decide +kernel
def cX12_own_0 : List rf_I := [(.aload_n 0, 1, 0, 0, 0, 0, 0), (.aload_n 0, 1, 0, 0, 0, 0, 0), (.getfield 282, 3, 12, 19, 1203, 0, 0), (.iconst 0, 1, 0, 0, 0, nI 0, 0)]
theorem kX12_own_0 : rf_ck MX12_own 0 cX12_own_0 = true := by decide +kernel
theorem qX12_own_6 : rf_kc MX12_own 6 184 1435 yX12_gr 0 = true := by decide +kernel
theorem eX12_own_9 : rf_cki MX12_own 9 .ireturn = true := by decide +kernel
abbrev MX12_goes : rf_M := (yX12_goes, cX12_goes, 3, (some (.int)))
theorem mkX12_goes : rf_mk MX12_goes 0 2 1623 85 1622 66 = true := by decide +kernel
def cX12_goes_0 : List rf_I := [(.iload_n 1, 1, 1, 0, 0, 0, 0)]
theorem kX12_goes_0 : rf_ck MX12_goes 0 cX12_goes_0 = true := by decide +kernel
theorem bX12_goes_1 : rf_ckt MX12_goes 1 126 0 7 [47, 126, 126, 126, 60, 78, 126, 104] [48, 127, 127, 127, 61, 79, 127, 105] 127 = true := by decide +kernel
def cX12_goes_48 : List rf_I := [(.aload_n 0, 1, 0, 0, 0, 0, 0), (.bipush 10, 2, 0, 0, 0, nI 10, 0)]
theorem kX12_goes_48 : rf_ck MX12_goes 48 cX12_goes_48 = true := by decide +kernel
theorem qX12_goes_51 : rf_kc MX12_goes 51 285 1624 yX12_ran 0 = true := by decide +kernel
def cX12_goes_54 : List rf_I := [(.iload_n 2, 1, 2, 0, 0, 0, 0), (.aload_n 0, 1, 0, 0, 0, 0, 0), (.getfield 282, 3, 12, 19, 1203, 0, 0), (.iadd, 1, 0, 0, 0, 0, 0)]
theorem kX12_goes_54 : rf_ck MX12_goes 54 cX12_goes_54 = true := by decide +kernel
theorem eX12_goes_60 : rf_cki MX12_goes 60 .ireturn = true := by decide +kernel
def cX12_goes_61 : List rf_I := [(.aload_n 0, 1, 0, 0, 0, 0, 0), (.bipush 50, 2, 0, 0, 0, nI 50, 0)]
theorem kX12_goes_61 : rf_ck MX12_goes 61 cX12_goes_61 = true := by decide +kernel
theorem qX12_goes_64 : rf_kc MX12_goes 64 285 1624 yX12_ran 0 = true := by decide +kernel
def cX12_goes_67 : List rf_I := [(.aload_n 0, 1, 0, 0, 0, 0, 0), (.iconst 4, 1, 0, 0, 0, nI 4, 0)]
theorem kX12_goes_67 : rf_ck MX12_goes 67 cX12_goes_67 = true := by decide +kernel
theorem qX12_goes_69 : rf_kc MX12_goes 69 288 1628 yX12_above 1 = true := by decide +kernel
def cX12_goes_72 : List rf_I := [(.iload_n 2, 1, 2, 0, 0, 0, 0)]
theorem kX12_goes_72 : rf_ck MX12_goes 72 cX12_goes_72 = true := by decide +kernel
theorem qX12_goes_73 : rf_kc MX12_goes 73 291 1620 yX12_goes 0 = true := by decide +kernel
def cX12_goes_76 : List rf_I := [(.iconst 3, 1, 0, 0, 0, nI 3, 0), (.imul, 1, 0, 0, 0, 0, 0)]
theorem kX12_goes_76 : rf_ck MX12_goes 76 cX12_goes_76 = true := by decide +kernel
theorem eX12_goes_78 : rf_cki MX12_goes 78 .ireturn = true := by decide +kernel
def cX12_goes_79 : List rf_I := [(.aload_n 0, 1, 0, 0, 0, 0, 0), (.bipush 60, 2, 0, 0, 0, nI 60, 0)]
theorem kX12_goes_79 : rf_ck MX12_goes 79 cX12_goes_79 = true := by decide +kernel
theorem qX12_goes_82 : rf_kc MX12_goes 82 285 1624 yX12_ran 0 = true := by decide +kernel
def cX12_goes_85 : List rf_I := [(.aload_n 0, 1, 0, 0, 0, 0, 0), (.iconst 5, 1, 0, 0, 0, nI 5, 0)]
theorem kX12_goes_85 : rf_ck MX12_goes 85 cX12_goes_85 = true := by decide +kernel
theorem qX12_goes_87 : rf_kc MX12_goes 87 288 1628 yX12_above 1 = true := by decide +kernel
def cX12_goes_90 : List rf_I := [(.iload_n 2, 1, 2, 0, 0, 0, 0)]
theorem kX12_goes_90 : rf_ck MX12_goes 90 cX12_goes_90 = true := by decide +kernel
theorem qX12_goes_91 : rf_kc MX12_goes 91 291 1620 yX12_goes 0 = true := by decide +kernel
def cX12_goes_94 : List rf_I := [(.aload_n 0, 1, 0, 0, 0, 0, 0), (.aload_n 0, 1, 0, 0, 0, 0, 0), (.getfield 282, 3, 12, 19, 1203, 0, 0), (.iconst 4, 1, 0, 0, 0, nI 4, 0)]
theorem kX12_goes_94 : rf_ck MX12_goes 94 cX12_goes_94 = true := by decide +kernel
theorem qX12_goes_100 : rf_kc MX12_goes 100 184 1435 yX12_gr 0 = true := by decide +kernel
def cX12_goes_103 : List rf_I := [(.ixor, 1, 0, 0, 0, 0, 0)]
theorem kX12_goes_103 : rf_ck MX12_goes 103 cX12_goes_103 = true := by decide +kernel
theorem eX12_goes_104 : rf_cki MX12_goes 104 .ireturn = true := by decide +kernel
def cX12_goes_105 : List rf_I := [(.aload_n 0, 1, 0, 0, 0, 0, 0), (.bipush 80, 2, 0, 0, 0, nI 80, 0)]
theorem kX12_goes_105 : rf_ck MX12_goes 105 cX12_goes_105 = true := by decide +kernel
theorem qX12_goes_108 : rf_kc MX12_goes 108 285 1624 yX12_ran 0 = true := by decide +kernel
def cX12_goes_111 : List rf_I := [(.aload_n 0, 1, 0, 0, 0, 0, 0), (.bipush 7, 2, 0, 0, 0, nI 7, 0)]
theorem kX12_goes_111 : rf_ck MX12_goes 111 cX12_goes_111 = true := by decide +kernel
theorem qX12_goes_114 : rf_kc MX12_goes 114 288 1628 yX12_above 1 = true := by decide +kernel
def cX12_goes_117 : List rf_I := [(.iload_n 2, 1, 2, 0, 0, 0, 0)]
theorem kX12_goes_117 : rf_ck MX12_goes 117 cX12_goes_117 = true := by decide +kernel
theorem qX12_goes_118 : rf_kc MX12_goes 118 291 1620 yX12_goes 0 = true := by decide +kernel
def cX12_goes_121 : List rf_I := [(.aload_n 0, 1, 0, 0, 0, 0, 0), (.getfield 282, 3, 12, 19, 1203, 0, 0), (.iadd, 1, 0, 0, 0, 0, 0)]
theorem kX12_goes_121 : rf_ck MX12_goes 121 cX12_goes_121 = true := by decide +kernel
theorem eX12_goes_126 : rf_cki MX12_goes 126 .ireturn = true := by decide +kernel
def cX12_goes_127 : List rf_I := [(.aload_n 0, 1, 0, 0, 0, 0, 0), (.iload_n 1, 1, 1, 0, 0, 0, 0)]
theorem kX12_goes_127 : rf_ck MX12_goes 127 cX12_goes_127 = true := by decide +kernel
theorem qX12_goes_129 : rf_kc MX12_goes 129 288 1628 yX12_above 1 = true := by decide +kernel
def cX12_goes_132 : List rf_I := [(.iload_n 2, 1, 2, 0, 0, 0, 0)]
theorem kX12_goes_132 : rf_ck MX12_goes 132 cX12_goes_132 = true := by decide +kernel
theorem qX12_goes_133 : rf_kc MX12_goes 133 291 1620 yX12_goes 0 = true := by decide +kernel
theorem eX12_goes_136 : rf_cki MX12_goes 136 .ireturn = true := by decide +kernel
abbrev MX12_weighsOf : rf_M := (yX12_weighsOf, cX12_weighsOf, 4, (some (.int)))
theorem mkX12_weighsOf : rf_mk MX12_weighsOf 0 2 1634 85 1633 68 = true := by decide +kernel
def cX12_weighsOf_0 : List rf_I := [(.iload_n 1, 1, 1, 0, 0, 0, 0)]
theorem kX12_weighsOf_0 : rf_ck MX12_weighsOf 0 cX12_weighsOf_0 = true := by decide +kernel
theorem bX12_weighsOf_1 : rf_ckt MX12_weighsOf 1 99 0 4 [35, 99, 53, 99, 81] [36, 100, 54, 100, 82] 100 = true := by decide +kernel
def cX12_weighsOf_36 : List rf_I := [(.aload_n 0, 1, 0, 0, 0, 0, 0), (.bipush 11, 2, 0, 0, 0, nI 11, 0)]
theorem kX12_weighsOf_36 : rf_ck MX12_weighsOf 36 cX12_weighsOf_36 = true := by decide +kernel
theorem qX12_weighsOf_39 : rf_kc MX12_weighsOf 39 285 1624 yX12_ran 0 = true := by decide +kernel
def cX12_weighsOf_42 : List rf_I := [(.aload_n 0, 1, 0, 0, 0, 0, 0), (.aload_n 0, 1, 0, 0, 0, 0, 0)]
theorem kX12_weighsOf_42 : rf_ck MX12_weighsOf 42 cX12_weighsOf_42 = true := by decide +kernel
theorem qX12_weighsOf_44 : rf_kc MX12_weighsOf 44 294 1616 yX12_own 0 = true := by decide +kernel
def cX12_weighsOf_47 : List rf_I := [(.iload_n 2, 1, 2, 0, 0, 0, 0)]
theorem kX12_weighsOf_47 : rf_ck MX12_weighsOf 47 cX12_weighsOf_47 = true := by decide +kernel
theorem qX12_weighsOf_48 : rf_kc MX12_weighsOf 48 291 1620 yX12_goes 0 = true := by decide +kernel
def cX12_weighsOf_51 : List rf_I := [(.iconst 2, 1, 0, 0, 0, nI 2, 0), (.imul, 1, 0, 0, 0, 0, 0)]
theorem kX12_weighsOf_51 : rf_ck MX12_weighsOf 51 cX12_weighsOf_51 = true := by decide +kernel
theorem eX12_weighsOf_53 : rf_cki MX12_weighsOf 53 .ireturn = true := by decide +kernel
def cX12_weighsOf_54 : List rf_I := [(.aload_n 0, 1, 0, 0, 0, 0, 0), (.bipush 30, 2, 0, 0, 0, nI 30, 0)]
theorem kX12_weighsOf_54 : rf_ck MX12_weighsOf 54 cX12_weighsOf_54 = true := by decide +kernel
theorem qX12_weighsOf_57 : rf_kc MX12_weighsOf 57 285 1624 yX12_ran 0 = true := by decide +kernel
def cX12_weighsOf_60 : List rf_I := [(.aload_n 0, 1, 0, 0, 0, 0, 0), (.iconst 2, 1, 0, 0, 0, nI 2, 0)]
theorem kX12_weighsOf_60 : rf_ck MX12_weighsOf 60 cX12_weighsOf_60 = true := by decide +kernel
theorem qX12_weighsOf_62 : rf_kc MX12_weighsOf 62 288 1628 yX12_above 1 = true := by decide +kernel
def cX12_weighsOf_65 : List rf_I := [(.iload_n 2, 1, 2, 0, 0, 0, 0)]
theorem kX12_weighsOf_65 : rf_ck MX12_weighsOf 65 cX12_weighsOf_65 = true := by decide +kernel
theorem qX12_weighsOf_66 : rf_kc MX12_weighsOf 66 297 1631 yX12_weighsOf 0 = true := by decide +kernel
def cX12_weighsOf_69 : List rf_I := [(.istore_n 3, 1, 3, 0, 0, 0, 0), (.iload_n 3, 1, 3, 0, 0, 0, 0), (.aload_n 0, 1, 0, 0, 0, 0, 0), (.aload_n 0, 1, 0, 0, 0, 0, 0)]
theorem kX12_weighsOf_69 : rf_ck MX12_weighsOf 69 cX12_weighsOf_69 = true := by decide +kernel
theorem qX12_weighsOf_73 : rf_kc MX12_weighsOf 73 294 1616 yX12_own 0 = true := by decide +kernel
def cX12_weighsOf_76 : List rf_I := [(.iconst 1, 1, 0, 0, 0, nI 1, 0)]
theorem kX12_weighsOf_76 : rf_ck MX12_weighsOf 76 cX12_weighsOf_76 = true := by decide +kernel
theorem qX12_weighsOf_77 : rf_kc MX12_weighsOf 77 300 1635 yX12_tellsOf 0 = true := by decide +kernel
def cX12_weighsOf_80 : List rf_I := [(.isub, 1, 0, 0, 0, 0, 0)]
theorem kX12_weighsOf_80 : rf_ck MX12_weighsOf 80 cX12_weighsOf_80 = true := by decide +kernel
theorem eX12_weighsOf_81 : rf_cki MX12_weighsOf 81 .ireturn = true := by decide +kernel
def cX12_weighsOf_82 : List rf_I := [(.aload_n 0, 1, 0, 0, 0, 0, 0), (.bipush 51, 2, 0, 0, 0, nI 51, 0)]
theorem kX12_weighsOf_82 : rf_ck MX12_weighsOf 82 cX12_weighsOf_82 = true := by decide +kernel
theorem qX12_weighsOf_85 : rf_kc MX12_weighsOf 85 285 1624 yX12_ran 0 = true := by decide +kernel
def cX12_weighsOf_88 : List rf_I := [(.aload_n 0, 1, 0, 0, 0, 0, 0), (.iconst 4, 1, 0, 0, 0, nI 4, 0)]
theorem kX12_weighsOf_88 : rf_ck MX12_weighsOf 88 cX12_weighsOf_88 = true := by decide +kernel
theorem qX12_weighsOf_90 : rf_kc MX12_weighsOf 90 288 1628 yX12_above 1 = true := by decide +kernel
def cX12_weighsOf_93 : List rf_I := [(.iload_n 2, 1, 2, 0, 0, 0, 0), (.iconst 1, 1, 0, 0, 0, nI 1, 0), (.iadd, 1, 0, 0, 0, 0, 0)]
theorem kX12_weighsOf_93 : rf_ck MX12_weighsOf 93 cX12_weighsOf_93 = true := by decide +kernel
theorem qX12_weighsOf_96 : rf_kc MX12_weighsOf 96 297 1631 yX12_weighsOf 0 = true := by decide +kernel
theorem eX12_weighsOf_99 : rf_cki MX12_weighsOf 99 .ireturn = true := by decide +kernel
def cX12_weighsOf_100 : List rf_I := [(.aload_n 0, 1, 0, 0, 0, 0, 0), (.iload_n 1, 1, 1, 0, 0, 0, 0)]
theorem kX12_weighsOf_100 : rf_ck MX12_weighsOf 100 cX12_weighsOf_100 = true := by decide +kernel
theorem qX12_weighsOf_102 : rf_kc MX12_weighsOf 102 288 1628 yX12_above 1 = true := by decide +kernel
def cX12_weighsOf_105 : List rf_I := [(.iload_n 2, 1, 2, 0, 0, 0, 0)]
theorem kX12_weighsOf_105 : rf_ck MX12_weighsOf 105 cX12_weighsOf_105 = true := by decide +kernel
theorem qX12_weighsOf_106 : rf_kc MX12_weighsOf 106 297 1631 yX12_weighsOf 0 = true := by decide +kernel
theorem eX12_weighsOf_109 : rf_cki MX12_weighsOf 109 .ireturn = true := by decide +kernel
abbrev MX12_tellsOf : rf_M := (yX12_tellsOf, cX12_tellsOf, 3, (some (.int)))
theorem mkX12_tellsOf : rf_mk MX12_tellsOf 0 2 1638 85 1637 69 = true := by decide +kernel
def cX12_tellsOf_0 : List rf_I := [(.iload_n 1, 1, 1, 0, 0, 0, 0)]
theorem kX12_tellsOf_0 : rf_ck MX12_tellsOf 0 cX12_tellsOf_0 = true := by decide +kernel
theorem bX12_tellsOf_1 : rf_ckl MX12_tellsOf 1 89 [(0, 35), (3, 53), (7, 70)] 90 = true := by decide +kernel
def cX12_tellsOf_36 : List rf_I := [(.aload_n 0, 1, 0, 0, 0, 0, 0), (.bipush 12, 2, 0, 0, 0, nI 12, 0)]
theorem kX12_tellsOf_36 : rf_ck MX12_tellsOf 36 cX12_tellsOf_36 = true := by decide +kernel
theorem qX12_tellsOf_39 : rf_kc MX12_tellsOf 39 285 1624 yX12_ran 0 = true := by decide +kernel
def cX12_tellsOf_42 : List rf_I := [(.iload_n 2, 1, 2, 0, 0, 0, 0), (.aload_n 0, 1, 0, 0, 0, 0, 0), (.aload_n 0, 1, 0, 0, 0, 0, 0), (.getfield 282, 3, 12, 19, 1203, 0, 0), (.iconst 4, 1, 0, 0, 0, nI 4, 0)]
theorem kX12_tellsOf_42 : rf_ck MX12_tellsOf 42 cX12_tellsOf_42 = true := by decide +kernel
theorem qX12_tellsOf_49 : rf_kc MX12_tellsOf 49 184 1435 yX12_gr 0 = true := by decide +kernel
def cX12_tellsOf_52 : List rf_I := [(.isub, 1, 0, 0, 0, 0, 0)]
theorem kX12_tellsOf_52 : rf_ck MX12_tellsOf 52 cX12_tellsOf_52 = true := by decide +kernel
theorem eX12_tellsOf_53 : rf_cki MX12_tellsOf 53 .ireturn = true := by decide +kernel
def cX12_tellsOf_54 : List rf_I := [(.aload_n 0, 1, 0, 0, 0, 0, 0), (.bipush 40, 2, 0, 0, 0, nI 40, 0)]
theorem kX12_tellsOf_54 : rf_ck MX12_tellsOf 54 cX12_tellsOf_54 = true := by decide +kernel
theorem qX12_tellsOf_57 : rf_kc MX12_tellsOf 57 285 1624 yX12_ran 0 = true := by decide +kernel
def cX12_tellsOf_60 : List rf_I := [(.aload_n 0, 1, 0, 0, 0, 0, 0), (.iconst 3, 1, 0, 0, 0, nI 3, 0)]
theorem kX12_tellsOf_60 : rf_ck MX12_tellsOf 60 cX12_tellsOf_60 = true := by decide +kernel
theorem qX12_tellsOf_62 : rf_kc MX12_tellsOf 62 288 1628 yX12_above 1 = true := by decide +kernel
def cX12_tellsOf_65 : List rf_I := [(.iload_n 2, 1, 2, 0, 0, 0, 0)]
theorem kX12_tellsOf_65 : rf_ck MX12_tellsOf 65 cX12_tellsOf_65 = true := by decide +kernel
theorem qX12_tellsOf_66 : rf_kc MX12_tellsOf 66 300 1635 yX12_tellsOf 0 = true := by decide +kernel
def cX12_tellsOf_69 : List rf_I := [(.ineg, 1, 0, 0, 0, 0, 0)]
theorem kX12_tellsOf_69 : rf_ck MX12_tellsOf 69 cX12_tellsOf_69 = true := by decide +kernel
theorem eX12_tellsOf_70 : rf_cki MX12_tellsOf 70 .ireturn = true := by decide +kernel
def cX12_tellsOf_71 : List rf_I := [(.aload_n 0, 1, 0, 0, 0, 0, 0), (.bipush 81, 2, 0, 0, 0, nI 81, 0)]
theorem kX12_tellsOf_71 : rf_ck MX12_tellsOf 71 cX12_tellsOf_71 = true := by decide +kernel
theorem qX12_tellsOf_74 : rf_kc MX12_tellsOf 74 285 1624 yX12_ran 0 = true := by decide +kernel
def cX12_tellsOf_77 : List rf_I := [(.aload_n 0, 1, 0, 0, 0, 0, 0), (.bipush 7, 2, 0, 0, 0, nI 7, 0)]
theorem kX12_tellsOf_77 : rf_ck MX12_tellsOf 77 cX12_tellsOf_77 = true := by decide +kernel
theorem qX12_tellsOf_80 : rf_kc MX12_tellsOf 80 288 1628 yX12_above 1 = true := by decide +kernel
def cX12_tellsOf_83 : List rf_I := [(.iload_n 2, 1, 2, 0, 0, 0, 0)]
theorem kX12_tellsOf_83 : rf_ck MX12_tellsOf 83 cX12_tellsOf_83 = true := by decide +kernel
theorem qX12_tellsOf_84 : rf_kc MX12_tellsOf 84 300 1635 yX12_tellsOf 0 = true := by decide +kernel
def cX12_tellsOf_87 : List rf_I := [(.iconst 5, 1, 0, 0, 0, nI 5, 0), (.imul, 1, 0, 0, 0, 0, 0)]
theorem kX12_tellsOf_87 : rf_ck MX12_tellsOf 87 cX12_tellsOf_87 = true := by decide +kernel
theorem eX12_tellsOf_89 : rf_cki MX12_tellsOf 89 .ireturn = true := by decide +kernel
def cX12_tellsOf_90 : List rf_I := [(.aload_n 0, 1, 0, 0, 0, 0, 0), (.iload_n 1, 1, 1, 0, 0, 0, 0)]
theorem kX12_tellsOf_90 : rf_ck MX12_tellsOf 90 cX12_tellsOf_90 = true := by decide +kernel
theorem qX12_tellsOf_92 : rf_kc MX12_tellsOf 92 288 1628 yX12_above 1 = true := by decide +kernel
def cX12_tellsOf_95 : List rf_I := [(.iload_n 2, 1, 2, 0, 0, 0, 0)]
theorem kX12_tellsOf_95 : rf_ck MX12_tellsOf 95 cX12_tellsOf_95 = true := by decide +kernel
theorem qX12_tellsOf_96 : rf_kc MX12_tellsOf 96 300 1635 yX12_tellsOf 0 = true := by decide +kernel
theorem eX12_tellsOf_99 : rf_cki MX12_tellsOf 99 .ireturn = true := by decide +kernel
abbrev MX12_paysOf : rf_M := (yX12_paysOf, cX12_paysOf, 4, (some (.int)))
theorem mkX12_paysOf : rf_mk MX12_paysOf 0 2 1642 85 1641 70 = true := by decide +kernel
def cX12_paysOf_0 : List rf_I := [(.iload_n 1, 1, 1, 0, 0, 0, 0)]
theorem kX12_paysOf_0 : rf_ck MX12_paysOf 0 cX12_paysOf_0 = true := by decide +kernel
theorem bX12_paysOf_1 : rf_ckl MX12_paysOf 1 110 [(0, 35), (1, 63), (6, 81)] 111 = true := by decide +kernel
def cX12_paysOf_36 : List rf_I := [(.aload_n 0, 1, 0, 0, 0, 0, 0), (.bipush 13, 2, 0, 0, 0, nI 13, 0)]
theorem kX12_paysOf_36 : rf_ck MX12_paysOf 36 cX12_paysOf_36 = true := by decide +kernel
theorem qX12_paysOf_39 : rf_kc MX12_paysOf 39 285 1624 yX12_ran 0 = true := by decide +kernel
def cX12_paysOf_42 : List rf_I := [(.aload_n 0, 1, 0, 0, 0, 0, 0), (.aload_n 0, 1, 0, 0, 0, 0, 0)]
theorem kX12_paysOf_42 : rf_ck MX12_paysOf 42 cX12_paysOf_42 = true := by decide +kernel
theorem qX12_paysOf_44 : rf_kc MX12_paysOf 44 294 1616 yX12_own 0 = true := by decide +kernel
def cX12_paysOf_47 : List rf_I := [(.iload_n 2, 1, 2, 0, 0, 0, 0)]
theorem kX12_paysOf_47 : rf_ck MX12_paysOf 47 cX12_paysOf_47 = true := by decide +kernel
theorem qX12_paysOf_48 : rf_kc MX12_paysOf 48 297 1631 yX12_weighsOf 0 = true := by decide +kernel
def cX12_paysOf_51 : List rf_I := [(.istore_n 3, 1, 3, 0, 0, 0, 0), (.iload_n 3, 1, 3, 0, 0, 0, 0), (.aload_n 0, 1, 0, 0, 0, 0, 0), (.aload_n 0, 1, 0, 0, 0, 0, 0)]
theorem kX12_paysOf_51 : rf_ck MX12_paysOf 51 cX12_paysOf_51 = true := by decide +kernel
theorem qX12_paysOf_55 : rf_kc MX12_paysOf 55 294 1616 yX12_own 0 = true := by decide +kernel
def cX12_paysOf_58 : List rf_I := [(.iload_n 2, 1, 2, 0, 0, 0, 0)]
theorem kX12_paysOf_58 : rf_ck MX12_paysOf 58 cX12_paysOf_58 = true := by decide +kernel
theorem qX12_paysOf_59 : rf_kc MX12_paysOf 59 300 1635 yX12_tellsOf 0 = true := by decide +kernel
def cX12_paysOf_62 : List rf_I := [(.ixor, 1, 0, 0, 0, 0, 0)]
theorem kX12_paysOf_62 : rf_ck MX12_paysOf 62 cX12_paysOf_62 = true := by decide +kernel
theorem eX12_paysOf_63 : rf_cki MX12_paysOf 63 .ireturn = true := by decide +kernel
def cX12_paysOf_64 : List rf_I := [(.aload_n 0, 1, 0, 0, 0, 0, 0), (.bipush 20, 2, 0, 0, 0, nI 20, 0)]
theorem kX12_paysOf_64 : rf_ck MX12_paysOf 64 cX12_paysOf_64 = true := by decide +kernel
theorem qX12_paysOf_67 : rf_kc MX12_paysOf 67 285 1624 yX12_ran 0 = true := by decide +kernel
def cX12_paysOf_70 : List rf_I := [(.aload_n 0, 1, 0, 0, 0, 0, 0), (.iconst 1, 1, 0, 0, 0, nI 1, 0)]
theorem kX12_paysOf_70 : rf_ck MX12_paysOf 70 cX12_paysOf_70 = true := by decide +kernel
theorem qX12_paysOf_72 : rf_kc MX12_paysOf 72 288 1628 yX12_above 1 = true := by decide +kernel
def cX12_paysOf_75 : List rf_I := [(.iload_n 2, 1, 2, 0, 0, 0, 0)]
theorem kX12_paysOf_75 : rf_ck MX12_paysOf 75 cX12_paysOf_75 = true := by decide +kernel
theorem qX12_paysOf_76 : rf_kc MX12_paysOf 76 303 1639 yX12_paysOf 0 = true := by decide +kernel
def cX12_paysOf_79 : List rf_I := [(.iconst 1, 1, 0, 0, 0, nI 1, 0), (.iadd, 1, 0, 0, 0, 0, 0)]
theorem kX12_paysOf_79 : rf_ck MX12_paysOf 79 cX12_paysOf_79 = true := by decide +kernel
theorem eX12_paysOf_81 : rf_cki MX12_paysOf 81 .ireturn = true := by decide +kernel
def cX12_paysOf_82 : List rf_I := [(.aload_n 0, 1, 0, 0, 0, 0, 0), (.bipush 70, 2, 0, 0, 0, nI 70, 0)]
theorem kX12_paysOf_82 : rf_ck MX12_paysOf 82 cX12_paysOf_82 = true := by decide +kernel
theorem qX12_paysOf_85 : rf_kc MX12_paysOf 85 285 1624 yX12_ran 0 = true := by decide +kernel
def cX12_paysOf_88 : List rf_I := [(.aload_n 0, 1, 0, 0, 0, 0, 0), (.aload_n 0, 1, 0, 0, 0, 0, 0)]
theorem kX12_paysOf_88 : rf_ck MX12_paysOf 88 cX12_paysOf_88 = true := by decide +kernel
theorem qX12_paysOf_90 : rf_kc MX12_paysOf 90 294 1616 yX12_own 0 = true := by decide +kernel
def cX12_paysOf_93 : List rf_I := [(.iconst 2, 1, 0, 0, 0, nI 2, 0)]
theorem kX12_paysOf_93 : rf_ck MX12_paysOf 93 cX12_paysOf_93 = true := by decide +kernel
theorem qX12_paysOf_94 : rf_kc MX12_paysOf 94 291 1620 yX12_goes 0 = true := by decide +kernel
def cX12_paysOf_97 : List rf_I := [(.istore_n 3, 1, 3, 0, 0, 0, 0), (.iload_n 3, 1, 3, 0, 0, 0, 0), (.aload_n 0, 1, 0, 0, 0, 0, 0), (.bipush 6, 2, 0, 0, 0, nI 6, 0)]
theorem kX12_paysOf_97 : rf_ck MX12_paysOf 97 cX12_paysOf_97 = true := by decide +kernel
theorem qX12_paysOf_102 : rf_kc MX12_paysOf 102 288 1628 yX12_above 1 = true := by decide +kernel
def cX12_paysOf_105 : List rf_I := [(.iload_n 2, 1, 2, 0, 0, 0, 0)]
theorem kX12_paysOf_105 : rf_ck MX12_paysOf 105 cX12_paysOf_105 = true := by decide +kernel
theorem qX12_paysOf_106 : rf_kc MX12_paysOf 106 303 1639 yX12_paysOf 0 = true := by decide +kernel
def cX12_paysOf_109 : List rf_I := [(.isub, 1, 0, 0, 0, 0, 0)]
theorem kX12_paysOf_109 : rf_ck MX12_paysOf 109 cX12_paysOf_109 = true := by decide +kernel
theorem eX12_paysOf_110 : rf_cki MX12_paysOf 110 .ireturn = true := by decide +kernel
def cX12_paysOf_111 : List rf_I := [(.aload_n 0, 1, 0, 0, 0, 0, 0), (.iload_n 1, 1, 1, 0, 0, 0, 0)]
theorem kX12_paysOf_111 : rf_ck MX12_paysOf 111 cX12_paysOf_111 = true := by decide +kernel
theorem qX12_paysOf_113 : rf_kc MX12_paysOf 113 288 1628 yX12_above 1 = true := by decide +kernel
def cX12_paysOf_116 : List rf_I := [(.iload_n 2, 1, 2, 0, 0, 0, 0)]
theorem kX12_paysOf_116 : rf_ck MX12_paysOf 116 cX12_paysOf_116 = true := by decide +kernel
theorem qX12_paysOf_117 : rf_kc MX12_paysOf 117 303 1639 yX12_paysOf 0 = true := by decide +kernel
theorem eX12_paysOf_120 : rf_cki MX12_paysOf 120 .ireturn = true := by decide +kernel
abbrev MX12_voice : rf_M := (yX12_voice, cX12_voice, 5, (some (.int)))
theorem mkX12_voice : rf_mk MX12_voice 0 3 1614 85 1612 1613 = true := by decide +kernel
def cX12_voice_0 : List rf_I := [(.aload_n 0, 1, 0, 0, 0, 0, 0), (.iload_n 1, 1, 1, 0, 0, 0, 0)]
theorem kX12_voice_0 : rf_ck MX12_voice 0 cX12_voice_0 = true := by decide +kernel
theorem qX12_voice_2 : rf_kc MX12_voice 2 196 1430 yX12_isGroup 0 = true := by decide +kernel
theorem bX12_voice_5 : rf_ckb MX12_voice 5 (.ifCond .eq 15) 15 20 = true := by decide +kernel
def cX12_voice_8 : List rf_I := [(.iload_n 2, 1, 2, 0, 0, 0, 0), (.i2l, 1, 0, 0, 0, 0, 0), (.lconst 0, 1, 0, 0, 0, 0, lN 0), (.ldc2_w 306, 3, 0, 0, 1615, 0, lN 3)]
theorem kX12_voice_8 : rf_ck MX12_voice 8 cX12_voice_8 = true := by decide +kernel
theorem qX12_voice_14 : rf_kc MX12_voice 14 51 1278 yX12_in 1 = true := by decide +kernel
theorem bX12_voice_17 : rf_ckb MX12_voice 17 (.ifCond .ne 9) 9 26 = true := by decide +kernel
def cX12_voice_20 : List rf_I := [(.aload_n 0, 1, 0, 0, 0, 0, 0), (.iconst 1, 1, 0, 0, 0, nI 1, 0)]
theorem kX12_voice_20 : rf_ck MX12_voice 20 cX12_voice_20 = true := by decide +kernel
theorem qX12_voice_22 : rf_kc MX12_voice 22 59 1261 yX12_finds 0 = true := by decide +kernel
theorem eX12_voice_25 : rf_cki MX12_voice 25 .ireturn = true := by decide +kernel
def cX12_voice_26 : List rf_I := [(.aload_n 0, 1, 0, 0, 0, 0, 0), (.iconst 0, 1, 0, 0, 0, nI 0, 0), (.putfield 279, 3, 12, 18, 1202, 0, 0), (.aload_n 0, 1, 0, 0, 0, 0, 0), (.iload_n 1, 1, 1, 0, 0, 0, 0), (.putfield 282, 3, 12, 19, 1203, 0, 0), (.aload_n 0, 1, 0, 0, 0, 0, 0)]
theorem kX12_voice_26 : rf_ck MX12_voice 26 cX12_voice_26 = true := by decide +kernel
theorem qX12_voice_37 : rf_kc MX12_voice 37 294 1616 yX12_own 0 = true := by decide +kernel
def cX12_voice_40 : List rf_I := [(.istore 4, 2, 4, 0, 0, 0, 0), (.iload_n 2, 1, 2, 0, 0, 0, 0)]
theorem kX12_voice_40 : rf_ck MX12_voice 40 cX12_voice_40 = true := by decide +kernel
theorem bX12_voice_43 : rf_ckb MX12_voice 43 (.ifCond .ne 13) 13 56 = true := by decide +kernel
def cX12_voice_46 : List rf_I := [(.aload_n 0, 1, 0, 0, 0, 0, 0), (.iload 4, 2, 4, 0, 0, 0, 0), (.iload_n 3, 1, 3, 0, 0, 0, 0)]
theorem kX12_voice_46 : rf_ck MX12_voice 46 cX12_voice_46 = true := by decide +kernel
theorem qX12_voice_50 : rf_kc MX12_voice 50 291 1620 yX12_goes 0 = true := by decide +kernel
theorem bX12_voice_53 : rf_ckb MX12_voice 53 (.goto 40) 40 93 = true := by decide +kernel
def cX12_voice_56 : List rf_I := [(.iload_n 2, 1, 2, 0, 0, 0, 0), (.iconst 1, 1, 0, 0, 0, nI 1, 0)]
theorem kX12_voice_56 : rf_ck MX12_voice 56 cX12_voice_56 = true := by decide +kernel
theorem bX12_voice_58 : rf_ckb MX12_voice 58 (.if_icmp .ne 13) 13 71 = true := by decide +kernel
def cX12_voice_61 : List rf_I := [(.aload_n 0, 1, 0, 0, 0, 0, 0), (.iload 4, 2, 4, 0, 0, 0, 0), (.iload_n 3, 1, 3, 0, 0, 0, 0)]
theorem kX12_voice_61 : rf_ck MX12_voice 61 cX12_voice_61 = true := by decide +kernel
theorem qX12_voice_65 : rf_kc MX12_voice 65 297 1631 yX12_weighsOf 0 = true := by decide +kernel
theorem bX12_voice_68 : rf_ckb MX12_voice 68 (.goto 25) 25 93 = true := by decide +kernel
def cX12_voice_71 : List rf_I := [(.iload_n 2, 1, 2, 0, 0, 0, 0), (.iconst 2, 1, 0, 0, 0, nI 2, 0)]
theorem kX12_voice_71 : rf_ck MX12_voice 71 cX12_voice_71 = true := by decide +kernel
theorem bX12_voice_73 : rf_ckb MX12_voice 73 (.if_icmp .ne 13) 13 86 = true := by decide +kernel
def cX12_voice_76 : List rf_I := [(.aload_n 0, 1, 0, 0, 0, 0, 0), (.iload 4, 2, 4, 0, 0, 0, 0), (.iload_n 3, 1, 3, 0, 0, 0, 0)]
theorem kX12_voice_76 : rf_ck MX12_voice 76 cX12_voice_76 = true := by decide +kernel
theorem qX12_voice_80 : rf_kc MX12_voice 80 300 1635 yX12_tellsOf 0 = true := by decide +kernel
theorem bX12_voice_83 : rf_ckb MX12_voice 83 (.goto 10) 10 93 = true := by decide +kernel
def cX12_voice_86 : List rf_I := [(.aload_n 0, 1, 0, 0, 0, 0, 0), (.iload 4, 2, 4, 0, 0, 0, 0), (.iload_n 3, 1, 3, 0, 0, 0, 0)]
theorem kX12_voice_86 : rf_ck MX12_voice 86 cX12_voice_86 = true := by decide +kernel
theorem qX12_voice_90 : rf_kc MX12_voice 90 303 1639 yX12_paysOf 0 = true := by decide +kernel
theorem eX12_voice_93 : rf_cki MX12_voice 93 .ireturn = true := by decide +kernel
abbrev MX12_trace : rf_M := (yX12_trace, cX12_trace, 2, (some (.int)))
theorem mkX12_trace : rf_mk MX12_trace 0 1 1646 85 1644 1645 = true := by decide +kernel
def cX12_trace_0 : List rf_I := [(.iload_n 1, 1, 1, 0, 0, 0, 0), (.i2l, 1, 0, 0, 0, 0, 0), (.lconst 0, 1, 0, 0, 0, 0, lN 0), (.aload_n 0, 1, 0, 0, 0, 0, 0), (.getfield 279, 3, 12, 18, 1202, 0, 0), (.iconst 1, 1, 0, 0, 0, nI 1, 0), (.isub, 1, 0, 0, 0, 0, 0), (.i2l, 1, 0, 0, 0, 0, 0)]
theorem kX12_trace_0 : rf_ck MX12_trace 0 cX12_trace_0 = true := by decide +kernel
theorem qX12_trace_10 : rf_kc MX12_trace 10 51 1278 yX12_in 1 = true := by decide +kernel
theorem bX12_trace_13 : rf_ckb MX12_trace 13 (.ifCond .eq 12) 12 25 = true := by decide +kernel
def cX12_trace_16 : List rf_I := [(.aload_n 0, 1, 0, 0, 0, 0, 0), (.getfield 35, 3, 12, 17, 1201, 0, 0), (.iload_n 1, 1, 1, 0, 0, 0, 0), (.iaload, 1, 0, 0, 0, 0, 0)]
theorem kX12_trace_16 : rf_ck MX12_trace 16 cX12_trace_16 = true := by decide +kernel
theorem bX12_trace_22 : rf_ckb MX12_trace 22 (.goto 8) 8 30 = true := by decide +kernel
def cX12_trace_25 : List rf_I := [(.aload_n 0, 1, 0, 0, 0, 0, 0), (.iconst 2, 1, 0, 0, 0, nI 2, 0)]
theorem kX12_trace_25 : rf_ck MX12_trace 25 cX12_trace_25 = true := by decide +kernel
theorem qX12_trace_27 : rf_kc MX12_trace 27 59 1261 yX12_finds 0 = true := by decide +kernel
theorem eX12_trace_30 : rf_cki MX12_trace 30 .ireturn = true := by decide +kernel
abbrev MX12_isSheet : rf_M := (yX12_isSheet, cX12_isSheet, 1, (some (.boolean)))
theorem mkX12_isSheet : rf_mk MX12_isSheet 1 1 1653 85 1652 0 = true := by decide +kernel
def cX12_isSheet_0 : List rf_I := [(.iload_n 0, 1, 0, 0, 0, 0, 0), (.i2l, 1, 0, 0, 0, 0, 0), (.lconst 0, 1, 0, 0, 0, 0, lN 0), (.ldc2_w 306, 3, 0, 0, 1615, 0, lN 3)]
theorem kX12_isSheet_0 : rf_ck MX12_isSheet 0 cX12_isSheet_0 = true := by decide +kernel
theorem qX12_isSheet_6 : rf_kc MX12_isSheet 6 51 1278 yX12_in 1 = true := by decide +kernel
theorem eX12_isSheet_9 : rf_cki MX12_isSheet 9 .ireturn = true := by decide +kernel
abbrev MX12_sheet : rf_M := (yX12_sheet, cX12_sheet, 5, (some (.int)))
theorem mkX12_sheet : rf_mk MX12_sheet 0 3 1650 85 1648 1649 = true := by decide +kernel
def cX12_sheet_0 : List rf_I := [(.iload_n 1, 1, 1, 0, 0, 0, 0)]
theorem kX12_sheet_0 : rf_ck MX12_sheet 0 cX12_sheet_0 = true := by decide +kernel
theorem qX12_sheet_1 : rf_kc MX12_sheet 1 308 1651 yX12_isSheet 1 = true := by decide +kernel
theorem bX12_sheet_4 : rf_ckb MX12_sheet 4 (.ifCond .eq 25) 25 29 = true := by decide +kernel
def cX12_sheet_7 : List rf_I := [(.iload_n 2, 1, 2, 0, 0, 0, 0)]
theorem kX12_sheet_7 : rf_ck MX12_sheet 7 cX12_sheet_7 = true := by decide +kernel
theorem bX12_sheet_8 : rf_ckb MX12_sheet 8 (.ifCond .eq 27) 27 35 = true := by decide +kernel
def cX12_sheet_11 : List rf_I := [(.iload_n 2, 1, 2, 0, 0, 0, 0), (.bipush 8, 2, 0, 0, 0, nI 8, 0)]
theorem kX12_sheet_11 : rf_ck MX12_sheet 11 cX12_sheet_11 = true := by decide +kernel
theorem bX12_sheet_14 : rf_ckb MX12_sheet 14 (.if_icmp .eq 21) 21 35 = true := by decide +kernel
def cX12_sheet_17 : List rf_I := [(.iload_n 2, 1, 2, 0, 0, 0, 0), (.bipush 16, 2, 0, 0, 0, nI 16, 0)]
theorem kX12_sheet_17 : rf_ck MX12_sheet 17 cX12_sheet_17 = true := by decide +kernel
theorem bX12_sheet_20 : rf_ckb MX12_sheet 20 (.if_icmp .eq 15) 15 35 = true := by decide +kernel
def cX12_sheet_23 : List rf_I := [(.iload_n 2, 1, 2, 0, 0, 0, 0), (.bipush 32, 2, 0, 0, 0, nI 32, 0)]
theorem kX12_sheet_23 : rf_ck MX12_sheet 23 cX12_sheet_23 = true := by decide +kernel
theorem bX12_sheet_26 : rf_ckb MX12_sheet 26 (.if_icmp .eq 9) 9 35 = true := by decide +kernel
def cX12_sheet_29 : List rf_I := [(.aload_n 0, 1, 0, 0, 0, 0, 0), (.iconst 1, 1, 0, 0, 0, nI 1, 0)]
theorem kX12_sheet_29 : rf_ck MX12_sheet 29 cX12_sheet_29 = true := by decide +kernel
theorem qX12_sheet_31 : rf_kc MX12_sheet 31 59 1261 yX12_finds 0 = true := by decide +kernel
theorem eX12_sheet_34 : rf_cki MX12_sheet 34 .ireturn = true := by decide +kernel
def cX12_sheet_35 : List rf_I := [(.iload_n 2, 1, 2, 0, 0, 0, 0)]
theorem kX12_sheet_35 : rf_ck MX12_sheet 35 cX12_sheet_35 = true := by decide +kernel
theorem bX12_sheet_36 : rf_ckb MX12_sheet 36 (.ifCond .eq 13) 13 49 = true := by decide +kernel
def cX12_sheet_39 : List rf_I := [(.iload_n 3, 1, 3, 0, 0, 0, 0)]
theorem kX12_sheet_39 : rf_ck MX12_sheet 39 cX12_sheet_39 = true := by decide +kernel
theorem bX12_sheet_40 : rf_ckb MX12_sheet 40 (.ifCond .ge 9) 9 49 = true := by decide +kernel
def cX12_sheet_43 : List rf_I := [(.aload_n 0, 1, 0, 0, 0, 0, 0), (.iconst 3, 1, 0, 0, 0, nI 3, 0)]
theorem kX12_sheet_43 : rf_ck MX12_sheet 43 cX12_sheet_43 = true := by decide +kernel
theorem qX12_sheet_45 : rf_kc MX12_sheet 45 59 1261 yX12_finds 0 = true := by decide +kernel
theorem eX12_sheet_48 : rf_cki MX12_sheet 48 .ireturn = true := by decide +kernel
def cX12_sheet_49 : List rf_I := [(.iload_n 2, 1, 2, 0, 0, 0, 0)]
theorem kX12_sheet_49 : rf_ck MX12_sheet 49 cX12_sheet_49 = true := by decide +kernel
theorem bX12_sheet_50 : rf_ckb MX12_sheet 50 (.ifCond .eq 15) 15 65 = true := by decide +kernel
def cX12_sheet_53 : List rf_I := [(.iload_n 3, 1, 3, 0, 0, 0, 0), (.bipush 40, 2, 0, 0, 0, nI 40, 0)]
theorem kX12_sheet_53 : rf_ck MX12_sheet 53 cX12_sheet_53 = true := by decide +kernel
theorem bX12_sheet_56 : rf_ckb MX12_sheet 56 (.if_icmp .le 9) 9 65 = true := by decide +kernel
def cX12_sheet_59 : List rf_I := [(.aload_n 0, 1, 0, 0, 0, 0, 0), (.iconst 1, 1, 0, 0, 0, nI 1, 0)]
theorem kX12_sheet_59 : rf_ck MX12_sheet 59 cX12_sheet_59 = true := by decide +kernel
theorem qX12_sheet_61 : rf_kc MX12_sheet 61 59 1261 yX12_finds 0 = true := by decide +kernel
theorem eX12_sheet_64 : rf_cki MX12_sheet 64 .ireturn = true := by decide +kernel
def cX12_sheet_65 : List rf_I := [(.aload_n 0, 1, 0, 0, 0, 0, 0), (.getfield 38, 3, 12, 20, 1204, 0, 0), (.iload_n 1, 1, 1, 0, 0, 0, 0), (.iload_n 2, 1, 2, 0, 0, 0, 0), (.iastore, 1, 0, 0, 0, 0, 0), (.aload_n 0, 1, 0, 0, 0, 0, 0), (.getfield 41, 3, 12, 21, 1205, 0, 0), (.iload_n 1, 1, 1, 0, 0, 0, 0), (.iload_n 2, 1, 2, 0, 0, 0, 0)]
theorem kX12_sheet_65 : rf_ck MX12_sheet 65 cX12_sheet_65 = true := by decide +kernel
theorem bX12_sheet_78 : rf_ckb MX12_sheet 78 (.ifCond .ne 7) 7 85 = true := by decide +kernel
def cX12_sheet_81 : List rf_I := [(.iconst 0, 1, 0, 0, 0, nI 0, 0)]
theorem kX12_sheet_81 : rf_ck MX12_sheet 81 cX12_sheet_81 = true := by decide +kernel
theorem bX12_sheet_82 : rf_ckb MX12_sheet 82 (.goto 4) 4 86 = true := by decide +kernel
def cX12_sheet_85 : List rf_I := [(.iload_n 3, 1, 3, 0, 0, 0, 0)]
theorem kX12_sheet_85 : rf_ck MX12_sheet 85 cX12_sheet_85 = true := by decide +kernel
def cX12_sheet_86 : List rf_I := [(.iastore, 1, 0, 0, 0, 0, 0), (.iconst 0, 1, 0, 0, 0, nI 0, 0), (.istore 4, 2, 4, 0, 0, 0, 0)]
theorem kX12_sheet_86 : rf_ck MX12_sheet 86 cX12_sheet_86 = true := by decide +kernel
def cX12_sheet_90 : List rf_I := [(.iload 4, 2, 4, 0, 0, 0, 0), (.bipush 40, 2, 0, 0, 0, nI 40, 0)]
theorem kX12_sheet_90 : rf_ck MX12_sheet 90 cX12_sheet_90 = true := by decide +kernel
theorem bX12_sheet_94 : rf_ckb MX12_sheet 94 (.if_icmp .ge 22) 22 116 = true := by decide +kernel
def cX12_sheet_97 : List rf_I := [(.aload_n 0, 1, 0, 0, 0, 0, 0), (.getfield 44, 3, 12, 22, 1206, 0, 0), (.bipush 40, 2, 0, 0, 0, nI 40, 0), (.iload_n 1, 1, 1, 0, 0, 0, 0), (.imul, 1, 0, 0, 0, 0, 0), (.iload 4, 2, 4, 0, 0, 0, 0), (.iadd, 1, 0, 0, 0, 0, 0), (.iconst 0, 1, 0, 0, 0, nI 0, 0), (.iastore, 1, 0, 0, 0, 0, 0), (.iinc 4 1, 3, 4, 0, 0, nI 1, 0)]
theorem kX12_sheet_97 : rf_ck MX12_sheet 97 cX12_sheet_97 = true := by decide +kernel
theorem bX12_sheet_113 : rf_ckb MX12_sheet 113 (.goto (-23)) (-23) 90 = true := by decide +kernel
def cX12_sheet_116 : List rf_I := [(.iconst 1, 1, 0, 0, 0, nI 1, 0)]
theorem kX12_sheet_116 : rf_ck MX12_sheet 116 cX12_sheet_116 = true := by decide +kernel
theorem eX12_sheet_117 : rf_cki MX12_sheet 117 .ireturn = true := by decide +kernel
abbrev MX12_put : rf_M := (yX12_put, cX12_put, 4, (some (.int)))
theorem mkX12_put : rf_mk MX12_put 0 3 1657 85 1655 1656 = true := by decide +kernel
def cX12_put_0 : List rf_I := [(.iload_n 1, 1, 1, 0, 0, 0, 0)]
theorem kX12_put_0 : rf_ck MX12_put 0 cX12_put_0 = true := by decide +kernel
theorem qX12_put_1 : rf_kc MX12_put 1 308 1651 yX12_isSheet 1 = true := by decide +kernel
theorem bX12_put_4 : rf_ckb MX12_put 4 (.ifCond .ne 9) 9 13 = true := by decide +kernel
def cX12_put_7 : List rf_I := [(.aload_n 0, 1, 0, 0, 0, 0, 0), (.iconst 1, 1, 0, 0, 0, nI 1, 0)]
theorem kX12_put_7 : rf_ck MX12_put 7 cX12_put_7 = true := by decide +kernel
theorem qX12_put_9 : rf_kc MX12_put 9 59 1261 yX12_finds 0 = true := by decide +kernel
theorem eX12_put_12 : rf_cki MX12_put 12 .ireturn = true := by decide +kernel
def cX12_put_13 : List rf_I := [(.aload_n 0, 1, 0, 0, 0, 0, 0), (.getfield 38, 3, 12, 20, 1204, 0, 0), (.iload_n 1, 1, 1, 0, 0, 0, 0), (.iaload, 1, 0, 0, 0, 0, 0)]
theorem kX12_put_13 : rf_ck MX12_put 13 cX12_put_13 = true := by decide +kernel
theorem bX12_put_19 : rf_ckb MX12_put 19 (.ifCond .ne 9) 9 28 = true := by decide +kernel
def cX12_put_22 : List rf_I := [(.aload_n 0, 1, 0, 0, 0, 0, 0), (.iconst 2, 1, 0, 0, 0, nI 2, 0)]
theorem kX12_put_22 : rf_ck MX12_put 22 cX12_put_22 = true := by decide +kernel
theorem qX12_put_24 : rf_kc MX12_put 24 59 1261 yX12_finds 0 = true := by decide +kernel
theorem eX12_put_27 : rf_cki MX12_put 27 .ireturn = true := by decide +kernel
def cX12_put_28 : List rf_I := [(.iload_n 2, 1, 2, 0, 0, 0, 0), (.i2l, 1, 0, 0, 0, 0, 0), (.lconst 0, 1, 0, 0, 0, 0, lN 0), (.aload_n 0, 1, 0, 0, 0, 0, 0), (.getfield 41, 3, 12, 21, 1205, 0, 0), (.iload_n 1, 1, 1, 0, 0, 0, 0), (.iaload, 1, 0, 0, 0, 0, 0), (.iconst 1, 1, 0, 0, 0, nI 1, 0), (.isub, 1, 0, 0, 0, 0, 0), (.i2l, 1, 0, 0, 0, 0, 0)]
theorem kX12_put_28 : rf_ck MX12_put 28 cX12_put_28 = true := by decide +kernel
theorem qX12_put_40 : rf_kc MX12_put 40 51 1278 yX12_in 1 = true := by decide +kernel
theorem bX12_put_43 : rf_ckb MX12_put 43 (.ifCond .ne 9) 9 52 = true := by decide +kernel
def cX12_put_46 : List rf_I := [(.aload_n 0, 1, 0, 0, 0, 0, 0), (.iconst 1, 1, 0, 0, 0, nI 1, 0)]
theorem kX12_put_46 : rf_ck MX12_put 46 cX12_put_46 = true := by decide +kernel
theorem qX12_put_48 : rf_kc MX12_put 48 59 1261 yX12_finds 0 = true := by decide +kernel
theorem eX12_put_51 : rf_cki MX12_put 51 .ireturn = true := by decide +kernel
def cX12_put_52 : List rf_I := [(.aload_n 0, 1, 0, 0, 0, 0, 0), (.getfield 44, 3, 12, 22, 1206, 0, 0), (.bipush 40, 2, 0, 0, 0, nI 40, 0), (.iload_n 1, 1, 1, 0, 0, 0, 0), (.imul, 1, 0, 0, 0, 0, 0), (.iload_n 2, 1, 2, 0, 0, 0, 0), (.iadd, 1, 0, 0, 0, 0, 0), (.aload_n 0, 1, 0, 0, 0, 0, 0), (.getfield 38, 3, 12, 20, 1204, 0, 0), (.iload_n 1, 1, 1, 0, 0, 0, 0), (.iaload, 1, 0, 0, 0, 0, 0), (.bipush 8, 2, 0, 0, 0, nI 8, 0)]
theorem kX12_put_52 : rf_ck MX12_put 52 cX12_put_52 = true := by decide +kernel
theorem bX12_put_70 : rf_ckb MX12_put 70 (.if_icmp .ne 8) 8 78 = true := by decide +kernel
def cX12_put_73 : List rf_I := [(.iload_n 3, 1, 3, 0, 0, 0, 0), (.i2b, 1, 0, 0, 0, 0, 0)]
theorem kX12_put_73 : rf_ck MX12_put 73 cX12_put_73 = true := by decide +kernel
theorem bX12_put_75 : rf_ckb MX12_put 75 (.goto 20) 20 95 = true := by decide +kernel
def cX12_put_78 : List rf_I := [(.aload_n 0, 1, 0, 0, 0, 0, 0), (.getfield 38, 3, 12, 20, 1204, 0, 0), (.iload_n 1, 1, 1, 0, 0, 0, 0), (.iaload, 1, 0, 0, 0, 0, 0), (.bipush 16, 2, 0, 0, 0, nI 16, 0)]
theorem kX12_put_78 : rf_ck MX12_put 78 cX12_put_78 = true := by decide +kernel
theorem bX12_put_86 : rf_ckb MX12_put 86 (.if_icmp .ne 8) 8 94 = true := by decide +kernel
def cX12_put_89 : List rf_I := [(.iload_n 3, 1, 3, 0, 0, 0, 0), (.i2s, 1, 0, 0, 0, 0, 0)]
theorem kX12_put_89 : rf_ck MX12_put 89 cX12_put_89 = true := by decide +kernel
theorem bX12_put_91 : rf_ckb MX12_put 91 (.goto 4) 4 95 = true := by decide +kernel
def cX12_put_94 : List rf_I := [(.iload_n 3, 1, 3, 0, 0, 0, 0)]
theorem kX12_put_94 : rf_ck MX12_put 94 cX12_put_94 = true := by decide +kernel
def cX12_put_95 : List rf_I := [(.iastore, 1, 0, 0, 0, 0, 0), (.iconst 1, 1, 0, 0, 0, nI 1, 0)]
theorem kX12_put_95 : rf_ck MX12_put 95 cX12_put_95 = true := by decide +kernel
theorem eX12_put_97 : rf_cki MX12_put 97 .ireturn = true := by decide +kernel
abbrev MX12_move : rf_M := (yX12_move, cX12_move, 7, (some (.int)))
theorem mkX12_move : rf_mk MX12_move 0 5 1661 85 1659 1660 = true := by decide +kernel
def cX12_move_0 : List rf_I := [(.iload_n 1, 1, 1, 0, 0, 0, 0)]
theorem kX12_move_0 : rf_ck MX12_move 0 cX12_move_0 = true := by decide +kernel
theorem qX12_move_1 : rf_kc MX12_move 1 308 1651 yX12_isSheet 1 = true := by decide +kernel
theorem bX12_move_4 : rf_ckb MX12_move 4 (.ifCond .eq 10) 10 14 = true := by decide +kernel
def cX12_move_7 : List rf_I := [(.iload_n 3, 1, 3, 0, 0, 0, 0)]
theorem kX12_move_7 : rf_ck MX12_move 7 cX12_move_7 = true := by decide +kernel
theorem qX12_move_8 : rf_kc MX12_move 8 308 1651 yX12_isSheet 1 = true := by decide +kernel
theorem bX12_move_11 : rf_ckb MX12_move 11 (.ifCond .ne 9) 9 20 = true := by decide +kernel
def cX12_move_14 : List rf_I := [(.aload_n 0, 1, 0, 0, 0, 0, 0), (.iconst 1, 1, 0, 0, 0, nI 1, 0)]
theorem kX12_move_14 : rf_ck MX12_move 14 cX12_move_14 = true := by decide +kernel
theorem qX12_move_16 : rf_kc MX12_move 16 59 1261 yX12_finds 0 = true := by decide +kernel
theorem eX12_move_19 : rf_cki MX12_move 19 .ireturn = true := by decide +kernel
def cX12_move_20 : List rf_I := [(.aload_n 0, 1, 0, 0, 0, 0, 0), (.getfield 38, 3, 12, 20, 1204, 0, 0), (.iload_n 1, 1, 1, 0, 0, 0, 0), (.iaload, 1, 0, 0, 0, 0, 0)]
theorem kX12_move_20 : rf_ck MX12_move 20 cX12_move_20 = true := by decide +kernel
theorem bX12_move_26 : rf_ckb MX12_move 26 (.ifCond .eq 12) 12 38 = true := by decide +kernel
def cX12_move_29 : List rf_I := [(.aload_n 0, 1, 0, 0, 0, 0, 0), (.getfield 38, 3, 12, 20, 1204, 0, 0), (.iload_n 3, 1, 3, 0, 0, 0, 0), (.iaload, 1, 0, 0, 0, 0, 0)]
theorem kX12_move_29 : rf_ck MX12_move 29 cX12_move_29 = true := by decide +kernel
theorem bX12_move_35 : rf_ckb MX12_move 35 (.ifCond .ne 9) 9 44 = true := by decide +kernel
def cX12_move_38 : List rf_I := [(.aload_n 0, 1, 0, 0, 0, 0, 0), (.iconst 2, 1, 0, 0, 0, nI 2, 0)]
theorem kX12_move_38 : rf_ck MX12_move 38 cX12_move_38 = true := by decide +kernel
theorem qX12_move_40 : rf_kc MX12_move 40 59 1261 yX12_finds 0 = true := by decide +kernel
theorem eX12_move_43 : rf_cki MX12_move 43 .ireturn = true := by decide +kernel
def cX12_move_44 : List rf_I := [(.aload_n 0, 1, 0, 0, 0, 0, 0), (.getfield 38, 3, 12, 20, 1204, 0, 0), (.iload_n 1, 1, 1, 0, 0, 0, 0), (.iaload, 1, 0, 0, 0, 0, 0), (.aload_n 0, 1, 0, 0, 0, 0, 0), (.getfield 38, 3, 12, 20, 1204, 0, 0), (.iload_n 3, 1, 3, 0, 0, 0, 0), (.iaload, 1, 0, 0, 0, 0, 0)]
theorem kX12_move_44 : rf_ck MX12_move 44 cX12_move_44 = true := by decide +kernel
theorem bX12_move_56 : rf_ckb MX12_move 56 (.if_icmp .eq 9) 9 65 = true := by decide +kernel
def cX12_move_59 : List rf_I := [(.aload_n 0, 1, 0, 0, 0, 0, 0), (.iconst 5, 1, 0, 0, 0, nI 5, 0)]
theorem kX12_move_59 : rf_ck MX12_move 59 cX12_move_59 = true := by decide +kernel
theorem qX12_move_61 : rf_kc MX12_move 61 59 1261 yX12_finds 0 = true := by decide +kernel
theorem eX12_move_64 : rf_cki MX12_move 64 .ireturn = true := by decide +kernel
def cX12_move_65 : List rf_I := [(.iload 5, 2, 5, 0, 0, 0, 0)]
theorem kX12_move_65 : rf_ck MX12_move 65 cX12_move_65 = true := by decide +kernel
theorem bX12_move_67 : rf_ckb MX12_move 67 (.ifCond .lt 39) 39 106 = true := by decide +kernel
def cX12_move_70 : List rf_I := [(.iload_n 2, 1, 2, 0, 0, 0, 0)]
theorem kX12_move_70 : rf_ck MX12_move 70 cX12_move_70 = true := by decide +kernel
theorem bX12_move_71 : rf_ckb MX12_move 71 (.ifCond .lt 35) 35 106 = true := by decide +kernel
def cX12_move_74 : List rf_I := [(.iload 4, 2, 4, 0, 0, 0, 0)]
theorem kX12_move_74 : rf_ck MX12_move 74 cX12_move_74 = true := by decide +kernel
theorem bX12_move_76 : rf_ckb MX12_move 76 (.ifCond .lt 30) 30 106 = true := by decide +kernel
def cX12_move_79 : List rf_I := [(.iload 5, 2, 5, 0, 0, 0, 0), (.aload_n 0, 1, 0, 0, 0, 0, 0), (.getfield 41, 3, 12, 21, 1205, 0, 0), (.iload_n 1, 1, 1, 0, 0, 0, 0), (.iaload, 1, 0, 0, 0, 0, 0), (.iload_n 2, 1, 2, 0, 0, 0, 0), (.isub, 1, 0, 0, 0, 0, 0)]
theorem kX12_move_79 : rf_ck MX12_move 79 cX12_move_79 = true := by decide +kernel
theorem bX12_move_89 : rf_ckb MX12_move 89 (.if_icmp .gt 17) 17 106 = true := by decide +kernel
def cX12_move_92 : List rf_I := [(.iload 5, 2, 5, 0, 0, 0, 0), (.aload_n 0, 1, 0, 0, 0, 0, 0), (.getfield 41, 3, 12, 21, 1205, 0, 0), (.iload_n 3, 1, 3, 0, 0, 0, 0), (.iaload, 1, 0, 0, 0, 0, 0), (.iload 4, 2, 4, 0, 0, 0, 0), (.isub, 1, 0, 0, 0, 0, 0)]
theorem kX12_move_92 : rf_ck MX12_move 92 cX12_move_92 = true := by decide +kernel
theorem bX12_move_103 : rf_ckb MX12_move 103 (.if_icmp .le 9) 9 112 = true := by decide +kernel
def cX12_move_106 : List rf_I := [(.aload_n 0, 1, 0, 0, 0, 0, 0), (.iconst 1, 1, 0, 0, 0, nI 1, 0)]
theorem kX12_move_106 : rf_ck MX12_move 106 cX12_move_106 = true := by decide +kernel
theorem qX12_move_108 : rf_kc MX12_move 108 59 1261 yX12_finds 0 = true := by decide +kernel
theorem eX12_move_111 : rf_cki MX12_move 111 .ireturn = true := by decide +kernel
def cX12_move_112 : List rf_I := [(.iconst 0, 1, 0, 0, 0, nI 0, 0), (.istore 6, 2, 6, 0, 0, 0, 0)]
theorem kX12_move_112 : rf_ck MX12_move 112 cX12_move_112 = true := by decide +kernel
def cX12_move_115 : List rf_I := [(.iload 6, 2, 6, 0, 0, 0, 0), (.iload 5, 2, 5, 0, 0, 0, 0)]
theorem kX12_move_115 : rf_ck MX12_move 115 cX12_move_115 = true := by decide +kernel
theorem bX12_move_119 : rf_ckb MX12_move 119 (.if_icmp .ge 30) 30 149 = true := by decide +kernel
def cX12_move_122 : List rf_I := [(.aload_n 0, 1, 0, 0, 0, 0, 0), (.getfield 47, 3, 12, 23, 1207, 0, 0), (.iload 6, 2, 6, 0, 0, 0, 0), (.aload_n 0, 1, 0, 0, 0, 0, 0), (.getfield 44, 3, 12, 22, 1206, 0, 0), (.bipush 40, 2, 0, 0, 0, nI 40, 0), (.iload_n 1, 1, 1, 0, 0, 0, 0), (.imul, 1, 0, 0, 0, 0, 0), (.iload_n 2, 1, 2, 0, 0, 0, 0), (.iadd, 1, 0, 0, 0, 0, 0), (.iload 6, 2, 6, 0, 0, 0, 0), (.iadd, 1, 0, 0, 0, 0, 0), (.iaload, 1, 0, 0, 0, 0, 0), (.iastore, 1, 0, 0, 0, 0, 0), (.iinc 6 1, 3, 6, 0, 0, nI 1, 0)]
theorem kX12_move_122 : rf_ck MX12_move 122 cX12_move_122 = true := by decide +kernel
theorem bX12_move_146 : rf_ckb MX12_move 146 (.goto (-31)) (-31) 115 = true := by decide +kernel
def cX12_move_149 : List rf_I := [(.iconst 0, 1, 0, 0, 0, nI 0, 0), (.istore 6, 2, 6, 0, 0, 0, 0)]
theorem kX12_move_149 : rf_ck MX12_move 149 cX12_move_149 = true := by decide +kernel
def cX12_move_152 : List rf_I := [(.iload 6, 2, 6, 0, 0, 0, 0), (.iload 5, 2, 5, 0, 0, 0, 0)]
theorem kX12_move_152 : rf_ck MX12_move 152 cX12_move_152 = true := by decide +kernel
theorem bX12_move_156 : rf_ckb MX12_move 156 (.if_icmp .ge 31) 31 187 = true := by decide +kernel
def cX12_move_159 : List rf_I := [(.aload_n 0, 1, 0, 0, 0, 0, 0), (.getfield 44, 3, 12, 22, 1206, 0, 0), (.bipush 40, 2, 0, 0, 0, nI 40, 0), (.iload_n 3, 1, 3, 0, 0, 0, 0), (.imul, 1, 0, 0, 0, 0, 0), (.iload 4, 2, 4, 0, 0, 0, 0), (.iadd, 1, 0, 0, 0, 0, 0), (.iload 6, 2, 6, 0, 0, 0, 0), (.iadd, 1, 0, 0, 0, 0, 0), (.aload_n 0, 1, 0, 0, 0, 0, 0), (.getfield 47, 3, 12, 23, 1207, 0, 0), (.iload 6, 2, 6, 0, 0, 0, 0), (.iaload, 1, 0, 0, 0, 0, 0), (.iastore, 1, 0, 0, 0, 0, 0), (.iinc 6 1, 3, 6, 0, 0, nI 1, 0)]
theorem kX12_move_159 : rf_ck MX12_move 159 cX12_move_159 = true := by decide +kernel
theorem bX12_move_184 : rf_ckb MX12_move 184 (.goto (-32)) (-32) 152 = true := by decide +kernel
def cX12_move_187 : List rf_I := [(.iload 5, 2, 5, 0, 0, 0, 0)]
theorem kX12_move_187 : rf_ck MX12_move 187 cX12_move_187 = true := by decide +kernel
theorem eX12_move_189 : rf_cki MX12_move 189 .ireturn = true := by decide +kernel
abbrev MX12_groups : rf_M := (yX12_groups, cX12_groups, 4, (some (.int)))
theorem mkX12_groups : rf_mk MX12_groups 0 1 1665 85 1663 1664 = true := by decide +kernel
def cX12_groups_0 : List rf_I := [(.iload_n 1, 1, 1, 0, 0, 0, 0)]
theorem kX12_groups_0 : rf_ck MX12_groups 0 cX12_groups_0 = true := by decide +kernel
theorem qX12_groups_1 : rf_kc MX12_groups 1 308 1651 yX12_isSheet 1 = true := by decide +kernel
theorem bX12_groups_4 : rf_ckb MX12_groups 4 (.ifCond .ne 9) 9 13 = true := by decide +kernel
def cX12_groups_7 : List rf_I := [(.aload_n 0, 1, 0, 0, 0, 0, 0), (.iconst 1, 1, 0, 0, 0, nI 1, 0)]
theorem kX12_groups_7 : rf_ck MX12_groups 7 cX12_groups_7 = true := by decide +kernel
theorem qX12_groups_9 : rf_kc MX12_groups 9 59 1261 yX12_finds 0 = true := by decide +kernel
theorem eX12_groups_12 : rf_cki MX12_groups 12 .ireturn = true := by decide +kernel
def cX12_groups_13 : List rf_I := [(.aload_n 0, 1, 0, 0, 0, 0, 0), (.getfield 38, 3, 12, 20, 1204, 0, 0), (.iload_n 1, 1, 1, 0, 0, 0, 0), (.iaload, 1, 0, 0, 0, 0, 0)]
theorem kX12_groups_13 : rf_ck MX12_groups 13 cX12_groups_13 = true := by decide +kernel
theorem bX12_groups_19 : rf_ckb MX12_groups 19 (.ifCond .ne 9) 9 28 = true := by decide +kernel
def cX12_groups_22 : List rf_I := [(.aload_n 0, 1, 0, 0, 0, 0, 0), (.iconst 2, 1, 0, 0, 0, nI 2, 0)]
theorem kX12_groups_22 : rf_ck MX12_groups 22 cX12_groups_22 = true := by decide +kernel
theorem qX12_groups_24 : rf_kc MX12_groups 24 59 1261 yX12_finds 0 = true := by decide +kernel
theorem eX12_groups_27 : rf_cki MX12_groups 27 .ireturn = true := by decide +kernel
def cX12_groups_28 : List rf_I := [(.iconst 0, 1, 0, 0, 0, nI 0, 0), (.istore_n 2, 1, 2, 0, 0, 0, 0), (.bipush 40, 2, 0, 0, 0, nI 40, 0), (.iload_n 1, 1, 1, 0, 0, 0, 0), (.imul, 1, 0, 0, 0, 0, 0), (.istore_n 3, 1, 3, 0, 0, 0, 0)]
theorem kX12_groups_28 : rf_ck MX12_groups 28 cX12_groups_28 = true := by decide +kernel
def cX12_groups_35 : List rf_I := [(.iconst 4, 1, 0, 0, 0, nI 4, 0), (.iload_n 2, 1, 2, 0, 0, 0, 0), (.imul, 1, 0, 0, 0, 0, 0), (.iconst 4, 1, 0, 0, 0, nI 4, 0), (.iadd, 1, 0, 0, 0, 0, 0), (.aload_n 0, 1, 0, 0, 0, 0, 0), (.getfield 41, 3, 12, 21, 1205, 0, 0), (.iload_n 1, 1, 1, 0, 0, 0, 0), (.iaload, 1, 0, 0, 0, 0, 0)]
theorem kX12_groups_35 : rf_ck MX12_groups 35 cX12_groups_35 = true := by decide +kernel
theorem bX12_groups_46 : rf_ckb MX12_groups 46 (.if_icmp .gt 94) 94 140 = true := by decide +kernel
def cX12_groups_49 : List rf_I := [(.aload_n 0, 1, 0, 0, 0, 0, 0), (.getfield 7, 3, 12, 0, 1184, 0, 0), (.iconst 4, 1, 0, 0, 0, nI 4, 0), (.iaload, 1, 0, 0, 0, 0, 0), (.bipush 16, 2, 0, 0, 0, nI 16, 0)]
theorem kX12_groups_49 : rf_ck MX12_groups 49 cX12_groups_49 = true := by decide +kernel
theorem bX12_groups_57 : rf_ckb MX12_groups 57 (.if_icmp .ge 83) 83 140 = true := by decide +kernel
def cX12_groups_60 : List rf_I := [(.aload_n 0, 1, 0, 0, 0, 0, 0), (.aload_n 0, 1, 0, 0, 0, 0, 0), (.getfield 44, 3, 12, 22, 1206, 0, 0), (.iload_n 3, 1, 3, 0, 0, 0, 0), (.iaload, 1, 0, 0, 0, 0, 0), (.aload_n 0, 1, 0, 0, 0, 0, 0), (.getfield 44, 3, 12, 22, 1206, 0, 0), (.iload_n 3, 1, 3, 0, 0, 0, 0), (.iconst 1, 1, 0, 0, 0, nI 1, 0), (.iadd, 1, 0, 0, 0, 0, 0), (.iaload, 1, 0, 0, 0, 0, 0), (.aload_n 0, 1, 0, 0, 0, 0, 0), (.getfield 44, 3, 12, 22, 1206, 0, 0), (.iload_n 3, 1, 3, 0, 0, 0, 0), (.iconst 2, 1, 0, 0, 0, nI 2, 0), (.iadd, 1, 0, 0, 0, 0, 0), (.iaload, 1, 0, 0, 0, 0, 0), (.aload_n 0, 1, 0, 0, 0, 0, 0), (.getfield 44, 3, 12, 22, 1206, 0, 0), (.iload_n 3, 1, 3, 0, 0, 0, 0), (.iconst 3, 1, 0, 0, 0, nI 3, 0), (.iadd, 1, 0, 0, 0, 0, 0), (.iaload, 1, 0, 0, 0, 0, 0)]
theorem kX12_groups_60 : rf_ck MX12_groups 60 cX12_groups_60 = true := by decide +kernel
theorem qX12_groups_91 : rf_kc MX12_groups 91 176 1413 yX12_areRight 0 = true := by decide +kernel
theorem bX12_groups_94 : rf_ckb MX12_groups 94 (.ifCond .eq 46) 46 140 = true := by decide +kernel
def cX12_groups_97 : List rf_I := [(.aload_n 0, 1, 0, 0, 0, 0, 0), (.aload_n 0, 1, 0, 0, 0, 0, 0), (.getfield 44, 3, 12, 22, 1206, 0, 0), (.iload_n 3, 1, 3, 0, 0, 0, 0), (.iaload, 1, 0, 0, 0, 0, 0), (.aload_n 0, 1, 0, 0, 0, 0, 0), (.getfield 44, 3, 12, 22, 1206, 0, 0), (.iload_n 3, 1, 3, 0, 0, 0, 0), (.iconst 1, 1, 0, 0, 0, nI 1, 0), (.iadd, 1, 0, 0, 0, 0, 0), (.iaload, 1, 0, 0, 0, 0, 0), (.aload_n 0, 1, 0, 0, 0, 0, 0), (.getfield 44, 3, 12, 22, 1206, 0, 0), (.iload_n 3, 1, 3, 0, 0, 0, 0), (.iconst 2, 1, 0, 0, 0, nI 2, 0), (.iadd, 1, 0, 0, 0, 0, 0), (.iaload, 1, 0, 0, 0, 0, 0), (.aload_n 0, 1, 0, 0, 0, 0, 0), (.getfield 44, 3, 12, 22, 1206, 0, 0), (.iload_n 3, 1, 3, 0, 0, 0, 0), (.iconst 3, 1, 0, 0, 0, nI 3, 0), (.iadd, 1, 0, 0, 0, 0, 0), (.iaload, 1, 0, 0, 0, 0, 0)]
theorem kX12_groups_97 : rf_ck MX12_groups 97 cX12_groups_97 = true := by decide +kernel
theorem qX12_groups_128 : rf_kc MX12_groups 128 180 1422 yX12_comes 0 = true := by decide +kernel
def cX12_groups_131 : List rf_I := [(.iinc 2 1, 3, 2, 0, 0, nI 1, 0), (.iinc 3 4, 3, 3, 0, 0, nI 4, 0)]
theorem kX12_groups_131 : rf_ck MX12_groups 131 cX12_groups_131 = true := by decide +kernel
theorem bX12_groups_137 : rf_ckb MX12_groups 137 (.goto (-102)) (-102) 35 = true := by decide +kernel
def cX12_groups_140 : List rf_I := [(.iload_n 2, 1, 2, 0, 0, 0, 0)]
theorem kX12_groups_140 : rf_ck MX12_groups 140 cX12_groups_140 = true := by decide +kernel
theorem eX12_groups_141 : rf_cki MX12_groups 141 .ireturn = true := by decide +kernel
abbrev MX12_image : rf_M := (yX12_image, cX12_image, 2, (some (.int)))
theorem mkX12_image : rf_mk MX12_image 0 0 1669 85 1667 1668 = true := by decide +kernel
def cX12_image_0 : List rf_I := [(.iconst 0, 1, 0, 0, 0, nI 0, 0), (.istore_n 1, 1, 1, 0, 0, 0, 0)]
theorem kX12_image_0 : rf_ck MX12_image 0 cX12_image_0 = true := by decide +kernel
def cX12_image_2 : List rf_I := [(.iload_n 1, 1, 1, 0, 0, 0, 0), (.sipush 700, 3, 0, 0, 0, nI 700, 0)]
theorem kX12_image_2 : rf_ck MX12_image 2 cX12_image_2 = true := by decide +kernel
theorem bX12_image_6 : rf_ckb MX12_image 6 (.if_icmp .ge 21) 21 27 = true := by decide +kernel
def cX12_image_9 : List rf_I := [(.aload_n 0, 1, 0, 0, 0, 0, 0), (.getfield 13, 3, 12, 1, 1185, 0, 0), (.iload_n 1, 1, 1, 0, 0, 0, 0), (.aload_n 0, 1, 0, 0, 0, 0, 0), (.getfield 7, 3, 12, 0, 1184, 0, 0), (.iload_n 1, 1, 1, 0, 0, 0, 0), (.iaload, 1, 0, 0, 0, 0, 0), (.iastore, 1, 0, 0, 0, 0, 0), (.iinc 1 1, 3, 1, 0, 0, nI 1, 0)]
theorem kX12_image_9 : rf_ck MX12_image 9 cX12_image_9 = true := by decide +kernel
theorem bX12_image_24 : rf_ckb MX12_image 24 (.goto (-22)) (-22) 2 = true := by decide +kernel
def cX12_image_27 : List rf_I := [(.aload_n 0, 1, 0, 0, 0, 0, 0), (.dup, 1, 0, 0, 0, 0, 0), (.getfield 311, 3, 12, 2, 1186, 0, 0), (.iconst 1, 1, 0, 0, 0, nI 1, 0), (.iadd, 1, 0, 0, 0, 0, 0), (.putfield 311, 3, 12, 2, 1186, 0, 0), (.aload_n 0, 1, 0, 0, 0, 0, 0), (.getfield 311, 3, 12, 2, 1186, 0, 0)]
theorem kX12_image_27 : rf_ck MX12_image 27 cX12_image_27 = true := by decide +kernel
theorem eX12_image_41 : rf_cki MX12_image 41 .ireturn = true := by decide +kernel
abbrev MX12_restore : rf_M := (yX12_restore, cX12_restore, 2, (some (.int)))
theorem mkX12_restore : rf_mk MX12_restore 0 0 1673 85 1671 1672 = true := by decide +kernel
def cX12_restore_0 : List rf_I := [(.aload_n 0, 1, 0, 0, 0, 0, 0), (.getfield 311, 3, 12, 2, 1186, 0, 0)]
theorem kX12_restore_0 : rf_ck MX12_restore 0 cX12_restore_0 = true := by decide +kernel
theorem bX12_restore_4 : rf_ckb MX12_restore 4 (.ifCond .ne 9) 9 13 = true := by decide +kernel
def cX12_restore_7 : List rf_I := [(.aload_n 0, 1, 0, 0, 0, 0, 0), (.iconst 2, 1, 0, 0, 0, nI 2, 0)]
theorem kX12_restore_7 : rf_ck MX12_restore 7 cX12_restore_7 = true := by decide +kernel
theorem qX12_restore_9 : rf_kc MX12_restore 9 59 1261 yX12_finds 0 = true := by decide +kernel
theorem eX12_restore_12 : rf_cki MX12_restore 12 .ireturn = true := by decide +kernel
def cX12_restore_13 : List rf_I := [(.iconst 0, 1, 0, 0, 0, nI 0, 0), (.istore_n 1, 1, 1, 0, 0, 0, 0)]
theorem kX12_restore_13 : rf_ck MX12_restore 13 cX12_restore_13 = true := by decide +kernel
def cX12_restore_15 : List rf_I := [(.iload_n 1, 1, 1, 0, 0, 0, 0), (.sipush 700, 3, 0, 0, 0, nI 700, 0)]
theorem kX12_restore_15 : rf_ck MX12_restore 15 cX12_restore_15 = true := by decide +kernel
theorem bX12_restore_19 : rf_ckb MX12_restore 19 (.if_icmp .ge 21) 21 40 = true := by decide +kernel
def cX12_restore_22 : List rf_I := [(.aload_n 0, 1, 0, 0, 0, 0, 0), (.getfield 7, 3, 12, 0, 1184, 0, 0), (.iload_n 1, 1, 1, 0, 0, 0, 0), (.aload_n 0, 1, 0, 0, 0, 0, 0), (.getfield 13, 3, 12, 1, 1185, 0, 0), (.iload_n 1, 1, 1, 0, 0, 0, 0), (.iaload, 1, 0, 0, 0, 0, 0), (.iastore, 1, 0, 0, 0, 0, 0), (.iinc 1 1, 3, 1, 0, 0, nI 1, 0)]
theorem kX12_restore_22 : rf_ck MX12_restore 22 cX12_restore_22 = true := by decide +kernel
theorem bX12_restore_37 : rf_ckb MX12_restore 37 (.goto (-22)) (-22) 15 = true := by decide +kernel
def cX12_restore_40 : List rf_I := [(.aload_n 0, 1, 0, 0, 0, 0, 0), (.getfield 7, 3, 12, 0, 1184, 0, 0), (.iconst 0, 1, 0, 0, 0, nI 0, 0), (.iaload, 1, 0, 0, 0, 0, 0)]
theorem kX12_restore_40 : rf_ck MX12_restore 40 cX12_restore_40 = true := by decide +kernel
theorem eX12_restore_46 : rf_cki MX12_restore 46 .ireturn = true := by decide +kernel
abbrev MX12_tell : rf_M := (yX12_tell, cX12_tell, 2, (some (.int)))
theorem mkX12_tell : rf_mk MX12_tell 0 1 1677 85 1675 1676 = true := by decide +kernel
def cX12_tell_0 : List rf_I := [(.aload_n 0, 1, 0, 0, 0, 0, 0), (.getfield 7, 3, 12, 0, 1184, 0, 0), (.bipush 12, 2, 0, 0, 0, nI 12, 0), (.iaload, 1, 0, 0, 0, 0, 0), (.bipush 20, 2, 0, 0, 0, nI 20, 0)]
theorem kX12_tell_0 : rf_ck MX12_tell 0 cX12_tell_0 = true := by decide +kernel
theorem bX12_tell_9 : rf_ckb MX12_tell 9 (.if_icmp .ne 9) 9 18 = true := by decide +kernel
def cX12_tell_12 : List rf_I := [(.aload_n 0, 1, 0, 0, 0, 0, 0), (.iconst 4, 1, 0, 0, 0, nI 4, 0)]
theorem kX12_tell_12 : rf_ck MX12_tell 12 cX12_tell_12 = true := by decide +kernel
theorem qX12_tell_14 : rf_kc MX12_tell 14 59 1261 yX12_finds 0 = true := by decide +kernel
theorem eX12_tell_17 : rf_cki MX12_tell 17 .ireturn = true := by decide +kernel
def cX12_tell_18 : List rf_I := [(.aload_n 0, 1, 0, 0, 0, 0, 0), (.getfield 7, 3, 12, 0, 1184, 0, 0), (.sipush 680, 3, 0, 0, 0, nI 680, 0), (.aload_n 0, 1, 0, 0, 0, 0, 0), (.getfield 7, 3, 12, 0, 1184, 0, 0), (.bipush 12, 2, 0, 0, 0, nI 12, 0), (.iaload, 1, 0, 0, 0, 0, 0), (.iadd, 1, 0, 0, 0, 0, 0), (.iload_n 1, 1, 1, 0, 0, 0, 0), (.iastore, 1, 0, 0, 0, 0, 0), (.aload_n 0, 1, 0, 0, 0, 0, 0), (.getfield 7, 3, 12, 0, 1184, 0, 0), (.bipush 12, 2, 0, 0, 0, nI 12, 0), (.dup2, 1, 0, 0, 0, 0, 0), (.iaload, 1, 0, 0, 0, 0, 0), (.iconst 1, 1, 0, 0, 0, nI 1, 0), (.iadd, 1, 0, 0, 0, 0, 0), (.iastore, 1, 0, 0, 0, 0, 0), (.aload_n 0, 1, 0, 0, 0, 0, 0), (.getfield 7, 3, 12, 0, 1184, 0, 0), (.bipush 12, 2, 0, 0, 0, nI 12, 0), (.iaload, 1, 0, 0, 0, 0, 0)]
theorem kX12_tell_18 : rf_ck MX12_tell 18 cX12_tell_18 = true := by decide +kernel
theorem eX12_tell_53 : rf_cki MX12_tell 53 .ireturn = true := by decide +kernel
abbrev MX12_check : rf_M := (yX12_check, cX12_check, 4, (some (.int)))
theorem mkX12_check : rf_mk MX12_check 0 1 1681 85 1679 1680 = true := by decide +kernel
def cX12_check_0 : List rf_I := [(.aload_n 0, 1, 0, 0, 0, 0, 0), (.getfield 7, 3, 12, 0, 1184, 0, 0), (.bipush 12, 2, 0, 0, 0, nI 12, 0), (.iaload, 1, 0, 0, 0, 0, 0), (.istore_n 2, 1, 2, 0, 0, 0, 0), (.aload_n 0, 1, 0, 0, 0, 0, 0), (.getfield 7, 3, 12, 0, 1184, 0, 0), (.bipush 12, 2, 0, 0, 0, nI 12, 0), (.iconst 0, 1, 0, 0, 0, nI 0, 0), (.iastore, 1, 0, 0, 0, 0, 0), (.aload_n 0, 1, 0, 0, 0, 0, 0), (.iload_n 1, 1, 1, 0, 0, 0, 0)]
theorem kX12_check_0 : rf_ck MX12_check 0 cX12_check_0 = true := by decide +kernel
theorem qX12_check_18 : rf_kc MX12_check 18 222 1495 yX12_isShift 0 = true := by decide +kernel
theorem bX12_check_21 : rf_ckb MX12_check 21 (.ifCond .ne 9) 9 30 = true := by decide +kernel
def cX12_check_24 : List rf_I := [(.aload_n 0, 1, 0, 0, 0, 0, 0), (.iconst 1, 1, 0, 0, 0, nI 1, 0)]
theorem kX12_check_24 : rf_ck MX12_check 24 cX12_check_24 = true := by decide +kernel
theorem qX12_check_26 : rf_kc MX12_check 26 59 1261 yX12_finds 0 = true := by decide +kernel
theorem eX12_check_29 : rf_cki MX12_check 29 .ireturn = true := by decide +kernel
def cX12_check_30 : List rf_I := [(.aload_n 0, 1, 0, 0, 0, 0, 0), (.aload_n 0, 1, 0, 0, 0, 0, 0), (.getfield 7, 3, 12, 0, 1184, 0, 0), (.sipush 320, 3, 0, 0, 0, nI 320, 0), (.iload_n 1, 1, 1, 0, 0, 0, 0), (.iadd, 1, 0, 0, 0, 0, 0), (.iaload, 1, 0, 0, 0, 0, 0)]
theorem kX12_check_30 : rf_ck MX12_check 30 cX12_check_30 = true := by decide +kernel
theorem qX12_check_41 : rf_kc MX12_check 41 212 1483 yX12_findRow 0 = true := by decide +kernel
def cX12_check_44 : List rf_I := [(.iconst 0, 1, 0, 0, 0, nI 0, 0), (.istore_n 3, 1, 3, 0, 0, 0, 0)]
theorem kX12_check_44 : rf_ck MX12_check 44 cX12_check_44 = true := by decide +kernel
def cX12_check_46 : List rf_I := [(.iload_n 3, 1, 3, 0, 0, 0, 0), (.iload_n 2, 1, 2, 0, 0, 0, 0)]
theorem kX12_check_46 : rf_ck MX12_check 46 cX12_check_46 = true := by decide +kernel
theorem bX12_check_48 : rf_ckb MX12_check 48 (.if_icmp .ge 36) 36 84 = true := by decide +kernel
def cX12_check_51 : List rf_I := [(.iload_n 3, 1, 3, 0, 0, 0, 0), (.aload_n 0, 1, 0, 0, 0, 0, 0), (.getfield 209, 3, 12, 12, 1196, 0, 0)]
theorem kX12_check_51 : rf_ck MX12_check 51 cX12_check_51 = true := by decide +kernel
theorem bX12_check_56 : rf_ckb MX12_check 56 (.if_icmp .ge 28) 28 84 = true := by decide +kernel
def cX12_check_59 : List rf_I := [(.aload_n 0, 1, 0, 0, 0, 0, 0), (.getfield 7, 3, 12, 0, 1184, 0, 0), (.sipush 680, 3, 0, 0, 0, nI 680, 0), (.iload_n 3, 1, 3, 0, 0, 0, 0), (.iadd, 1, 0, 0, 0, 0, 0), (.iaload, 1, 0, 0, 0, 0, 0), (.aload_n 0, 1, 0, 0, 0, 0, 0), (.getfield 22, 3, 12, 11, 1195, 0, 0), (.iload_n 3, 1, 3, 0, 0, 0, 0), (.iaload, 1, 0, 0, 0, 0, 0)]
theorem kX12_check_59 : rf_ck MX12_check 59 cX12_check_59 = true := by decide +kernel
theorem bX12_check_75 : rf_ckb MX12_check 75 (.if_icmp .ne 9) 9 84 = true := by decide +kernel
def cX12_check_78 : List rf_I := [(.iinc 3 1, 3, 3, 0, 0, nI 1, 0)]
theorem kX12_check_78 : rf_ck MX12_check 78 cX12_check_78 = true := by decide +kernel
theorem bX12_check_81 : rf_ckb MX12_check 81 (.goto (-35)) (-35) 46 = true := by decide +kernel
def cX12_check_84 : List rf_I := [(.iload_n 3, 1, 3, 0, 0, 0, 0), (.iload_n 2, 1, 2, 0, 0, 0, 0)]
theorem kX12_check_84 : rf_ck MX12_check 84 cX12_check_84 = true := by decide +kernel
theorem bX12_check_86 : rf_ckb MX12_check 86 (.if_icmp .ne 15) 15 101 = true := by decide +kernel
def cX12_check_89 : List rf_I := [(.iload_n 3, 1, 3, 0, 0, 0, 0), (.aload_n 0, 1, 0, 0, 0, 0, 0), (.getfield 209, 3, 12, 12, 1196, 0, 0)]
theorem kX12_check_89 : rf_ck MX12_check 89 cX12_check_89 = true := by decide +kernel
theorem bX12_check_94 : rf_ckb MX12_check 94 (.if_icmp .ne 7) 7 101 = true := by decide +kernel
def cX12_check_97 : List rf_I := [(.iconst 0, 1, 0, 0, 0, nI 0, 0)]
theorem kX12_check_97 : rf_ck MX12_check 97 cX12_check_97 = true := by decide +kernel
theorem bX12_check_98 : rf_ckb MX12_check 98 (.goto 6) 6 104 = true := by decide +kernel
def cX12_check_101 : List rf_I := [(.iconst 1, 1, 0, 0, 0, nI 1, 0), (.iload_n 3, 1, 3, 0, 0, 0, 0), (.iadd, 1, 0, 0, 0, 0, 0)]
theorem kX12_check_101 : rf_ck MX12_check 101 cX12_check_101 = true := by decide +kernel
theorem eX12_check_104 : rf_cki MX12_check 104 .ireturn = true := by decide +kernel
abbrev MX12_count : rf_M := (yX12_count, cX12_count, 2, (some (.int)))
theorem mkX12_count : rf_mk MX12_count 0 1 1685 85 1683 1684 = true := by decide +kernel
def cX12_count_0 : List rf_I := [(.iload_n 1, 1, 1, 0, 0, 0, 0), (.i2l, 1, 0, 0, 0, 0, 0), (.lconst 0, 1, 0, 0, 0, 0, lN 0), (.ldc2_w 199, 3, 0, 0, 1434, 0, lN 7)]
theorem kX12_count_0 : rf_ck MX12_count 0 cX12_count_0 = true := by decide +kernel
theorem qX12_count_6 : rf_kc MX12_count 6 51 1278 yX12_in 1 = true := by decide +kernel
theorem bX12_count_9 : rf_ckb MX12_count 9 (.ifCond .eq 10) 10 19 = true := by decide +kernel
def cX12_count_12 : List rf_I := [(.aload_n 0, 1, 0, 0, 0, 0, 0), (.getfield 7, 3, 12, 0, 1184, 0, 0), (.iload_n 1, 1, 1, 0, 0, 0, 0), (.iaload, 1, 0, 0, 0, 0, 0)]
theorem kX12_count_12 : rf_ck MX12_count 12 cX12_count_12 = true := by decide +kernel
theorem eX12_count_18 : rf_cki MX12_count 18 .ireturn = true := by decide +kernel
def cX12_count_19 : List rf_I := [(.iload_n 1, 1, 1, 0, 0, 0, 0)]
theorem kX12_count_19 : rf_ck MX12_count 19 cX12_count_19 = true := by decide +kernel
theorem bX12_count_20 : rf_ckt MX12_count 20 70 8 12 [36, 41, 49, 57, 62] [56, 61, 69, 77, 82] 90 = true := by decide +kernel
def cX12_count_56 : List rf_I := [(.aload_n 0, 1, 0, 0, 0, 0, 0)]
theorem kX12_count_56 : rf_ck MX12_count 56 cX12_count_56 = true := by decide +kernel
theorem qX12_count_57 : rf_kc MX12_count 57 190 1443 yX12_allLots 0 = true := by decide +kernel
theorem eX12_count_60 : rf_cki MX12_count 60 .ireturn = true := by decide +kernel
def cX12_count_61 : List rf_I := [(.aload_n 0, 1, 0, 0, 0, 0, 0), (.getfield 7, 3, 12, 0, 1184, 0, 0), (.bipush 11, 2, 0, 0, 0, nI 11, 0), (.iaload, 1, 0, 0, 0, 0, 0)]
theorem kX12_count_61 : rf_ck MX12_count 61 cX12_count_61 = true := by decide +kernel
theorem eX12_count_68 : rf_cki MX12_count 68 .ireturn = true := by decide +kernel
def cX12_count_69 : List rf_I := [(.aload_n 0, 1, 0, 0, 0, 0, 0), (.getfield 7, 3, 12, 0, 1184, 0, 0), (.bipush 12, 2, 0, 0, 0, nI 12, 0), (.iaload, 1, 0, 0, 0, 0, 0)]
theorem kX12_count_69 : rf_ck MX12_count 69 cX12_count_69 = true := by decide +kernel
theorem eX12_count_76 : rf_cki MX12_count 76 .ireturn = true := by decide +kernel
def cX12_count_77 : List rf_I := [(.aload_n 0, 1, 0, 0, 0, 0, 0), (.getfield 279, 3, 12, 18, 1202, 0, 0)]
theorem kX12_count_77 : rf_ck MX12_count 77 cX12_count_77 = true := by decide +kernel
theorem eX12_count_81 : rf_cki MX12_count 81 .ireturn = true := by decide +kernel
def cX12_count_82 : List rf_I := [(.aload_n 0, 1, 0, 0, 0, 0, 0), (.getfield 7, 3, 12, 0, 1184, 0, 0), (.bipush 10, 2, 0, 0, 0, nI 10, 0), (.iaload, 1, 0, 0, 0, 0, 0)]
theorem kX12_count_82 : rf_ck MX12_count 82 cX12_count_82 = true := by decide +kernel
theorem eX12_count_89 : rf_cki MX12_count 89 .ireturn = true := by decide +kernel
def cX12_count_90 : List rf_I := [(.aload_n 0, 1, 0, 0, 0, 0, 0), (.iconst 1, 1, 0, 0, 0, nI 1, 0)]
theorem kX12_count_90 : rf_ck MX12_count 90 cX12_count_90 = true := by decide +kernel
theorem qX12_count_92 : rf_kc MX12_count 92 59 1261 yX12_finds 0 = true := by decide +kernel
theorem eX12_count_95 : rf_cki MX12_count 95 .ireturn = true := by decide +kernel
abbrev MX12_told : rf_M := (yX12_told, cX12_told, 2, (some (.int)))
theorem mkX12_told : rf_mk MX12_told 0 1 1689 85 1687 1688 = true := by decide +kernel
def cX12_told_0 : List rf_I := [(.iload_n 1, 1, 1, 0, 0, 0, 0), (.i2l, 1, 0, 0, 0, 0, 0), (.lconst 1, 1, 0, 0, 0, 0, lN 1), (.ldc2_w 251, 3, 0, 0, 1538, 0, lN 5)]
theorem kX12_told_0 : rf_ck MX12_told 0 cX12_told_0 = true := by decide +kernel
theorem qX12_told_6 : rf_kc MX12_told 6 51 1278 yX12_in 1 = true := by decide +kernel
theorem bX12_told_9 : rf_ckb MX12_told 9 (.ifCond .eq 12) 12 21 = true := by decide +kernel
def cX12_told_12 : List rf_I := [(.aload_n 0, 1, 0, 0, 0, 0, 0), (.getfield 16, 3, 12, 3, 1187, 0, 0), (.iload_n 1, 1, 1, 0, 0, 0, 0), (.iaload, 1, 0, 0, 0, 0, 0)]
theorem kX12_told_12 : rf_ck MX12_told 12 cX12_told_12 = true := by decide +kernel
theorem bX12_told_18 : rf_ckb MX12_told 18 (.goto 8) 8 26 = true := by decide +kernel
def cX12_told_21 : List rf_I := [(.aload_n 0, 1, 0, 0, 0, 0, 0), (.iconst 1, 1, 0, 0, 0, nI 1, 0)]
theorem kX12_told_21 : rf_ck MX12_told 21 cX12_told_21 = true := by decide +kernel
theorem qX12_told_23 : rf_kc MX12_told 23 59 1261 yX12_finds 0 = true := by decide +kernel
theorem eX12_told_26 : rf_cki MX12_told 26 .ireturn = true := by decide +kernel
