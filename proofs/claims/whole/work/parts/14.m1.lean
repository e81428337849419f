abbrev MX0_init : rf_M := (yX0_init, cX0_init, 1, none)
theorem mkX0_init : rf_mk MX0_init 2 0 287 79 286 0 = true := by decide +kernel
def cX0_init_0 : List rf_I := [(.aload_n 0, 1, 0, 0, 0, 0, 0), (.invokespecial 3, 3, 0, 0, 288, 0, 0), (.aload_n 0, 1, 0, 0, 0, 0, 0), (.iconst 0, 1, 0, 0, 0, nI 0, 0), (.putfield 9, 3, 0, 0, 289, 0, 0), (.aload_n 0, 1, 0, 0, 0, 0, 0), (.iconst 0, 1, 0, 0, 0, nI 0, 0), (.putfield 15, 3, 0, 1, 292, 0, 0), (.aload_n 0, 1, 0, 0, 0, 0, 0), (.bipush 50, 2, 0, 0, 0, nI 50, 0), (.newarray .int, 2, 0, 50, 0, 0, 0), (.putfield 18, 3, 0, 2, 294, 0, 0), (.aload_n 0, 1, 0, 0, 0, 0, 0), (.bipush 20, 2, 0, 0, 0, nI 20, 0), (.newarray .int, 2, 0, 20, 0, 0, 0), (.putfield 22, 3, 0, 3, 296, 0, 0)]
theorem kX0_init_0 : rf_ck MX0_init 0 cX0_init_0 = true := by decide +kernel
theorem eX0_init_30 : rf_cki MX0_init 30 .return_ = true := by decide +kernel
abbrev MX0_addBytes : rf_M := (yX0_addBytes, cX0_addBytes, 5, (some (.int)))
theorem mkX0_addBytes : rf_mk MX0_addBytes 0 2 699 79 697 698 = true := by decide +kernel
def cX0_addBytes_0 : List rf_I := [(.iconst 0, 1, 0, 0, 0, nI 0, 0), (.istore 4, 2, 4, 0, 0, 0, 0)]
theorem kX0_addBytes_0 : rf_ck MX0_addBytes 0 cX0_addBytes_0 = true := by decide +kernel
def cX0_addBytes_3 : List rf_I := [(.iload 4, 2, 4, 0, 0, 0, 0), (.iload_n 3, 1, 3, 0, 0, 0, 0)]
theorem kX0_addBytes_3 : rf_ck MX0_addBytes 3 cX0_addBytes_3 = true := by decide +kernel
theorem bX0_addBytes_6 : rf_ckb MX0_addBytes 6 (.if_icmp .ge 33) 33 39 = true := by decide +kernel
def cX0_addBytes_9 : List rf_I := [(.aload_n 0, 1, 0, 0, 0, 0, 0), (.getfield 18, 3, 0, 2, 294, 0, 0), (.aload_n 0, 1, 0, 0, 0, 0, 0), (.getfield 9, 3, 0, 0, 289, 0, 0), (.iload 4, 2, 4, 0, 0, 0, 0), (.iadd, 1, 0, 0, 0, 0, 0), (.lload_n 1, 1, 1, 0, 0, 0, 0), (.bipush 8, 2, 0, 0, 0, nI 8, 0), (.iload 4, 2, 4, 0, 0, 0, 0), (.imul, 1, 0, 0, 0, 0, 0), (.lushr, 1, 0, 0, 0, 0, 0), (.l2i, 1, 0, 0, 0, 0, 0), (.sipush 255, 3, 0, 0, 0, nI 255, 0), (.iand, 1, 0, 0, 0, 0, 0), (.iastore, 1, 0, 0, 0, 0, 0), (.iinc 4 1, 3, 4, 0, 0, nI 1, 0)]
theorem kX0_addBytes_9 : rf_ck MX0_addBytes 9 cX0_addBytes_9 = true := by decide +kernel
theorem bX0_addBytes_36 : rf_ckb MX0_addBytes 36 (.goto (-33)) (-33) 3 = true := by decide +kernel
def cX0_addBytes_39 : List rf_I := [(.aload_n 0, 1, 0, 0, 0, 0, 0), (.dup, 1, 0, 0, 0, 0, 0), (.getfield 9, 3, 0, 0, 289, 0, 0), (.iload_n 3, 1, 3, 0, 0, 0, 0), (.iadd, 1, 0, 0, 0, 0, 0), (.putfield 9, 3, 0, 0, 289, 0, 0), (.aload_n 0, 1, 0, 0, 0, 0, 0), (.getfield 9, 3, 0, 0, 289, 0, 0)]
theorem kX0_addBytes_39 : rf_ck MX0_addBytes 39 cX0_addBytes_39 = true := by decide +kernel
theorem eX0_addBytes_53 : rf_cki MX0_addBytes 53 .ireturn = true := by decide +kernel
abbrev MX0_addNumber : rf_M := (yX0_addNumber, cX0_addNumber, 2, (some (.int)))
theorem mkX0_addNumber : rf_mk MX0_addNumber 0 1 1161 79 1159 1160 = true := by decide +kernel
def cX0_addNumber_0 : List rf_I := [(.aload_n 0, 1, 0, 0, 0, 0, 0), (.getfield 22, 3, 0, 3, 296, 0, 0), (.aload_n 0, 1, 0, 0, 0, 0, 0), (.getfield 15, 3, 0, 1, 292, 0, 0), (.iload_n 1, 1, 1, 0, 0, 0, 0), (.iastore, 1, 0, 0, 0, 0, 0), (.aload_n 0, 1, 0, 0, 0, 0, 0), (.dup, 1, 0, 0, 0, 0, 0), (.getfield 15, 3, 0, 1, 292, 0, 0), (.iconst 1, 1, 0, 0, 0, nI 1, 0), (.iadd, 1, 0, 0, 0, 0, 0), (.putfield 15, 3, 0, 1, 292, 0, 0), (.aload_n 0, 1, 0, 0, 0, 0, 0), (.getfield 15, 3, 0, 1, 292, 0, 0)]
theorem kX0_addNumber_0 : rf_ck MX0_addNumber 0 cX0_addNumber_0 = true := by decide +kernel
theorem eX0_addNumber_24 : rf_cki MX0_addNumber 24 .ireturn = true := by decide +kernel
abbrev MX0_copyFrom : rf_M := (yX0_copyFrom, cX0_copyFrom, 2, none)
theorem mkX0_copyFrom : rf_mk MX0_copyFrom 0 1 1147 79 1145 1146 = true := by decide +kernel
def cX0_copyFrom_0 : List rf_I := [(.aload_n 0, 1, 0, 0, 0, 0, 0), (.aload_n 1, 1, 1, 0, 0, 0, 0), (.getfield 9, 3, 0, 0, 289, 0, 0), (.putfield 9, 3, 0, 0, 289, 0, 0), (.aload_n 0, 1, 0, 0, 0, 0, 0), (.aload_n 1, 1, 1, 0, 0, 0, 0), (.getfield 15, 3, 0, 1, 292, 0, 0), (.putfield 15, 3, 0, 1, 292, 0, 0), (.aload_n 1, 1, 1, 0, 0, 0, 0), (.getfield 18, 3, 0, 2, 294, 0, 0), (.aload_n 0, 1, 0, 0, 0, 0, 0), (.getfield 18, 3, 0, 2, 294, 0, 0)]
theorem kX0_copyFrom_0 : rf_ck MX0_copyFrom 0 cX0_copyFrom_0 = true := by decide +kernel
theorem qX0_copyFrom_24 : rf_kc MX0_copyFrom 24 25 1148 yX11_copyRow 1 = true := by decide +kernel
def cX0_copyFrom_27 : List rf_I := [(.aload_n 1, 1, 1, 0, 0, 0, 0), (.getfield 22, 3, 0, 3, 296, 0, 0), (.aload_n 0, 1, 0, 0, 0, 0, 0), (.getfield 22, 3, 0, 3, 296, 0, 0)]
theorem kX0_copyFrom_27 : rf_ck MX0_copyFrom 27 cX0_copyFrom_27 = true := by decide +kernel
theorem qX0_copyFrom_35 : rf_kc MX0_copyFrom 35 25 1148 yX11_copyRow 1 = true := by decide +kernel
theorem eX0_copyFrom_38 : rf_cki MX0_copyFrom 38 .return_ = true := by decide +kernel
abbrev MX1_init : rf_M := (yX1_init, cX1_init, 1, none)
theorem mkX1_init : rf_mk MX1_init 2 0 250 78 249 0 = true := by decide +kernel
def cX1_init_0 : List rf_I := [(.aload_n 0, 1, 0, 0, 0, 0, 0), (.invokespecial 3, 3, 0, 0, 251, 0, 0), (.aload_n 0, 1, 0, 0, 0, 0, 0), (.iconst 0, 1, 0, 0, 0, nI 0, 0), (.putfield 9, 3, 1, 0, 252, 0, 0), (.aload_n 0, 1, 0, 0, 0, 0, 0), (.iconst 0, 1, 0, 0, 0, nI 0, 0), (.putfield 15, 3, 1, 1, 255, 0, 0), (.aload_n 0, 1, 0, 0, 0, 0, 0), (.iconst 1, 1, 0, 0, 0, nI 1, 0), (.putfield 18, 3, 1, 2, 258, 0, 0), (.aload_n 0, 1, 0, 0, 0, 0, 0), (.iconst 0, 1, 0, 0, 0, nI 0, 0), (.putfield 21, 3, 1, 3, 260, 0, 0), (.aload_n 0, 1, 0, 0, 0, 0, 0), (.bipush 60, 2, 0, 0, 0, nI 60, 0), (.newarray .int, 2, 0, 60, 0, 0, 0), (.putfield 24, 3, 1, 4, 262, 0, 0), (.aload_n 0, 1, 0, 0, 0, 0, 0), (.bipush 60, 2, 0, 0, 0, nI 60, 0), (.newarray .int, 2, 0, 60, 0, 0, 0), (.putfield 28, 3, 1, 5, 264, 0, 0), (.aload_n 0, 1, 0, 0, 0, 0, 0), (.bipush 60, 2, 0, 0, 0, nI 60, 0), (.newarray .int, 2, 0, 60, 0, 0, 0), (.putfield 31, 3, 1, 6, 266, 0, 0)]
theorem kX1_init_0 : rf_ck MX1_init 0 cX1_init_0 = true := by decide +kernel
theorem eX1_init_48 : rf_cki MX1_init 48 .return_ = true := by decide +kernel
abbrev MX1_draw : rf_M := (yX1_draw, cX1_draw, 1, (some (.int)))
theorem mkX1_draw : rf_mk MX1_draw 0 0 971 78 969 970 = true := by decide +kernel
def cX1_draw_0 : List rf_I := [(.aload_n 0, 1, 0, 0, 0, 0, 0), (.aload_n 0, 1, 0, 0, 0, 0, 0), (.getfield 18, 3, 1, 2, 258, 0, 0), (.ldc 34, 2, 0, 0, 972, nI 1103515245, 0), (.imul, 1, 0, 0, 0, 0, 0), (.sipush 12345, 3, 0, 0, 0, nI 12345, 0), (.iadd, 1, 0, 0, 0, 0, 0), (.putfield 18, 3, 1, 2, 258, 0, 0), (.aload_n 0, 1, 0, 0, 0, 0, 0), (.getfield 18, 3, 1, 2, 258, 0, 0), (.bipush 8, 2, 0, 0, 0, nI 8, 0), (.iushr, 1, 0, 0, 0, 0, 0)]
theorem kX1_draw_0 : rf_ck MX1_draw 0 cX1_draw_0 = true := by decide +kernel
theorem eX1_draw_22 : rf_cki MX1_draw 22 .ireturn = true := by decide +kernel
abbrev MX1_keepFind : rf_M := (yX1_keepFind, cX1_keepFind, 4, none)
theorem mkX1_keepFind : rf_mk MX1_keepFind 0 3 985 78 983 984 = true := by decide +kernel
def cX1_keepFind_0 : List rf_I := [(.aload_n 0, 1, 0, 0, 0, 0, 0), (.getfield 21, 3, 1, 3, 260, 0, 0), (.bipush 60, 2, 0, 0, 0, nI 60, 0)]
theorem kX1_keepFind_0 : rf_ck MX1_keepFind 0 cX1_keepFind_0 = true := by decide +kernel
theorem bX1_keepFind_6 : rf_ckb MX1_keepFind 6 (.if_icmp .ge 43) 43 49 = true := by decide +kernel
def cX1_keepFind_9 : List rf_I := [(.aload_n 0, 1, 0, 0, 0, 0, 0), (.getfield 24, 3, 1, 4, 262, 0, 0), (.aload_n 0, 1, 0, 0, 0, 0, 0), (.getfield 21, 3, 1, 3, 260, 0, 0), (.iload_n 1, 1, 1, 0, 0, 0, 0), (.iastore, 1, 0, 0, 0, 0, 0), (.aload_n 0, 1, 0, 0, 0, 0, 0), (.getfield 28, 3, 1, 5, 264, 0, 0), (.aload_n 0, 1, 0, 0, 0, 0, 0), (.getfield 21, 3, 1, 3, 260, 0, 0), (.iload_n 2, 1, 2, 0, 0, 0, 0), (.iastore, 1, 0, 0, 0, 0, 0), (.aload_n 0, 1, 0, 0, 0, 0, 0), (.getfield 31, 3, 1, 6, 266, 0, 0), (.aload_n 0, 1, 0, 0, 0, 0, 0), (.getfield 21, 3, 1, 3, 260, 0, 0), (.iload_n 3, 1, 3, 0, 0, 0, 0), (.iastore, 1, 0, 0, 0, 0, 0), (.aload_n 0, 1, 0, 0, 0, 0, 0), (.dup, 1, 0, 0, 0, 0, 0), (.getfield 21, 3, 1, 3, 260, 0, 0), (.iconst 1, 1, 0, 0, 0, nI 1, 0), (.iadd, 1, 0, 0, 0, 0, 0), (.putfield 21, 3, 1, 3, 260, 0, 0)]
theorem kX1_keepFind_9 : rf_ck MX1_keepFind 9 cX1_keepFind_9 = true := by decide +kernel
theorem eX1_keepFind_49 : rf_cki MX1_keepFind 49 .return_ = true := by decide +kernel
abbrev MX1_findsOf : rf_M := (yX1_findsOf, cX1_findsOf, 4, (some (.int)))
theorem mkX1_findsOf : rf_mk MX1_findsOf 0 1 894 78 892 893 = true := by decide +kernel
def cX1_findsOf_0 : List rf_I := [(.iconst 0, 1, 0, 0, 0, nI 0, 0), (.istore_n 2, 1, 2, 0, 0, 0, 0), (.iconst 0, 1, 0, 0, 0, nI 0, 0), (.istore_n 3, 1, 3, 0, 0, 0, 0)]
theorem kX1_findsOf_0 : rf_ck MX1_findsOf 0 cX1_findsOf_0 = true := by decide +kernel
def cX1_findsOf_4 : List rf_I := [(.iload_n 3, 1, 3, 0, 0, 0, 0), (.aload_n 0, 1, 0, 0, 0, 0, 0), (.getfield 21, 3, 1, 3, 260, 0, 0)]
theorem kX1_findsOf_4 : rf_ck MX1_findsOf 4 cX1_findsOf_4 = true := by decide +kernel
theorem bX1_findsOf_9 : rf_ckb MX1_findsOf 9 (.if_icmp .ge 22) 22 31 = true := by decide +kernel
def cX1_findsOf_12 : List rf_I := [(.aload_n 0, 1, 0, 0, 0, 0, 0), (.getfield 24, 3, 1, 4, 262, 0, 0), (.iload_n 3, 1, 3, 0, 0, 0, 0), (.iaload, 1, 0, 0, 0, 0, 0), (.iload_n 1, 1, 1, 0, 0, 0, 0)]
theorem kX1_findsOf_12 : rf_ck MX1_findsOf 12 cX1_findsOf_12 = true := by decide +kernel
theorem bX1_findsOf_19 : rf_ckb MX1_findsOf 19 (.if_icmp .ne 6) 6 25 = true := by decide +kernel
def cX1_findsOf_22 : List rf_I := [(.iinc 2 1, 3, 2, 0, 0, nI 1, 0)]
theorem kX1_findsOf_22 : rf_ck MX1_findsOf 22 cX1_findsOf_22 = true := by decide +kernel
def cX1_findsOf_25 : List rf_I := [(.iinc 3 1, 3, 3, 0, 0, nI 1, 0)]
theorem kX1_findsOf_25 : rf_ck MX1_findsOf 25 cX1_findsOf_25 = true := by decide +kernel
theorem bX1_findsOf_28 : rf_ckb MX1_findsOf 28 (.goto (-24)) (-24) 4 = true := by decide +kernel
def cX1_findsOf_31 : List rf_I := [(.iload_n 2, 1, 2, 0, 0, 0, 0)]
theorem kX1_findsOf_31 : rf_ck MX1_findsOf 31 cX1_findsOf_31 = true := by decide +kernel
theorem eX1_findsOf_32 : rf_cki MX1_findsOf 32 .ireturn = true := by decide +kernel
abbrev MX1_meanRight : rf_M := (yX1_meanRight, cX1_meanRight, 3, (some (.int)))
theorem mkX1_meanRight : rf_mk MX1_meanRight 0 0 999 78 997 998 = true := by decide +kernel
def cX1_meanRight_0 : List rf_I := [(.iconst 0, 1, 0, 0, 0, nI 0, 0), (.istore_n 1, 1, 1, 0, 0, 0, 0), (.iconst 0, 1, 0, 0, 0, nI 0, 0), (.istore_n 2, 1, 2, 0, 0, 0, 0)]
theorem kX1_meanRight_0 : rf_ck MX1_meanRight 0 cX1_meanRight_0 = true := by decide +kernel
def cX1_meanRight_4 : List rf_I := [(.iload_n 2, 1, 2, 0, 0, 0, 0), (.aload_n 0, 1, 0, 0, 0, 0, 0), (.getfield 21, 3, 1, 3, 260, 0, 0)]
theorem kX1_meanRight_4 : rf_ck MX1_meanRight 4 cX1_meanRight_4 = true := by decide +kernel
theorem bX1_meanRight_9 : rf_ckb MX1_meanRight 9 (.if_icmp .ge 18) 18 27 = true := by decide +kernel
def cX1_meanRight_12 : List rf_I := [(.iload_n 1, 1, 1, 0, 0, 0, 0), (.aload_n 0, 1, 0, 0, 0, 0, 0), (.getfield 31, 3, 1, 6, 266, 0, 0), (.iload_n 2, 1, 2, 0, 0, 0, 0), (.iaload, 1, 0, 0, 0, 0, 0), (.iadd, 1, 0, 0, 0, 0, 0), (.istore_n 1, 1, 1, 0, 0, 0, 0), (.iinc 2 1, 3, 2, 0, 0, nI 1, 0)]
theorem kX1_meanRight_12 : rf_ck MX1_meanRight 12 cX1_meanRight_12 = true := by decide +kernel
theorem bX1_meanRight_24 : rf_ckb MX1_meanRight 24 (.goto (-20)) (-20) 4 = true := by decide +kernel
def cX1_meanRight_27 : List rf_I := [(.iload_n 1, 1, 1, 0, 0, 0, 0), (.aload_n 0, 1, 0, 0, 0, 0, 0), (.getfield 21, 3, 1, 3, 260, 0, 0), (.iconst 1, 1, 0, 0, 0, nI 1, 0), (.invokestatic 35, 3, 0, 0, 1000, 0, 0), (.idiv, 1, 0, 0, 0, 0, 0)]
theorem kX1_meanRight_27 : rf_ck MX1_meanRight 27 cX1_meanRight_27 = true := by decide +kernel
theorem eX1_meanRight_37 : rf_cki MX1_meanRight 37 .ireturn = true := by decide +kernel
abbrev MX1_copyFrom : rf_M := (yX1_copyFrom, cX1_copyFrom, 2, none)
theorem mkX1_copyFrom : rf_mk MX1_copyFrom 0 1 1142 78 1140 1141 = true := by decide +kernel
def cX1_copyFrom_0 : List rf_I := [(.aload_n 0, 1, 0, 0, 0, 0, 0), (.aload_n 1, 1, 1, 0, 0, 0, 0), (.getfield 9, 3, 1, 0, 252, 0, 0), (.putfield 9, 3, 1, 0, 252, 0, 0), (.aload_n 0, 1, 0, 0, 0, 0, 0), (.aload_n 1, 1, 1, 0, 0, 0, 0), (.getfield 15, 3, 1, 1, 255, 0, 0), (.putfield 15, 3, 1, 1, 255, 0, 0), (.aload_n 0, 1, 0, 0, 0, 0, 0), (.aload_n 1, 1, 1, 0, 0, 0, 0), (.getfield 18, 3, 1, 2, 258, 0, 0), (.putfield 18, 3, 1, 2, 258, 0, 0), (.aload_n 0, 1, 0, 0, 0, 0, 0), (.aload_n 1, 1, 1, 0, 0, 0, 0), (.getfield 21, 3, 1, 3, 260, 0, 0), (.putfield 21, 3, 1, 3, 260, 0, 0), (.aload_n 1, 1, 1, 0, 0, 0, 0), (.getfield 24, 3, 1, 4, 262, 0, 0), (.aload_n 0, 1, 0, 0, 0, 0, 0), (.getfield 24, 3, 1, 4, 262, 0, 0)]
theorem kX1_copyFrom_0 : rf_ck MX1_copyFrom 0 cX1_copyFrom_0 = true := by decide +kernel
theorem qX1_copyFrom_40 : rf_kc MX1_copyFrom 40 41 1143 yX11_copyRow 1 = true := by decide +kernel
def cX1_copyFrom_43 : List rf_I := [(.aload_n 1, 1, 1, 0, 0, 0, 0), (.getfield 28, 3, 1, 5, 264, 0, 0), (.aload_n 0, 1, 0, 0, 0, 0, 0), (.getfield 28, 3, 1, 5, 264, 0, 0)]
theorem kX1_copyFrom_43 : rf_ck MX1_copyFrom 43 cX1_copyFrom_43 = true := by decide +kernel
theorem qX1_copyFrom_51 : rf_kc MX1_copyFrom 51 41 1143 yX11_copyRow 1 = true := by decide +kernel
def cX1_copyFrom_54 : List rf_I := [(.aload_n 1, 1, 1, 0, 0, 0, 0), (.getfield 31, 3, 1, 6, 266, 0, 0), (.aload_n 0, 1, 0, 0, 0, 0, 0), (.getfield 31, 3, 1, 6, 266, 0, 0)]
theorem kX1_copyFrom_54 : rf_ck MX1_copyFrom 54 cX1_copyFrom_54 = true := by decide +kernel
theorem qX1_copyFrom_62 : rf_kc MX1_copyFrom 62 41 1143 yX11_copyRow 1 = true := by decide +kernel
theorem eX1_copyFrom_65 : rf_cki MX1_copyFrom 65 .return_ = true := by decide +kernel
abbrev MX2_init : rf_M := (yX2_init, cX2_init, 1, none)
theorem mkX2_init : rf_mk MX2_init 2 0 369 81 368 0 = true := by decide +kernel
def cX2_init_0 : List rf_I := [(.aload_n 0, 1, 0, 0, 0, 0, 0), (.invokespecial 3, 3, 0, 0, 370, 0, 0), (.aload_n 0, 1, 0, 0, 0, 0, 0), (.new 9, 3, 8, 0, 371, 0, 0), (.dup, 1, 0, 0, 0, 0, 0)]
theorem kX2_init_0 : rf_ck MX2_init 0 cX2_init_0 = true := by decide +kernel
theorem qX2_init_9 : rf_kc MX2_init 9 11 372 yX8_init 2 = true := by decide +kernel
def cX2_init_12 : List rf_I := [(.putfield 12, 3, 2, 0, 374, 0, 0), (.aload_n 0, 1, 0, 0, 0, 0, 0), (.aconst_null, 1, 0, 0, 0, 0, 0), (.putfield 18, 3, 2, 1, 376, 0, 0), (.aload_n 0, 1, 0, 0, 0, 0, 0), (.ldc 22, 2, 1005, 0, 373, 0, 0), (.putfield 24, 3, 2, 2, 377, 0, 0), (.aload_n 0, 1, 0, 0, 0, 0, 0), (.iconst 0, 1, 0, 0, 0, nI 0, 0), (.putfield 28, 3, 2, 3, 378, 0, 0)]
theorem kX2_init_12 : rf_ck MX2_init 12 cX2_init_12 = true := by decide +kernel
theorem eX2_init_31 : rf_cki MX2_init 31 .return_ = true := by decide +kernel
abbrev MX2_read : rf_M := (yX2_read, cX2_read, 3, (some (.int)))
theorem mkX2_read : rf_mk MX2_read 0 2 707 81 705 706 = true := by decide +kernel
def cX2_read_0 : List rf_I := [(.aload_n 0, 1, 0, 0, 0, 0, 0), (.aload_n 1, 1, 1, 0, 0, 0, 0), (.putfield 18, 3, 2, 1, 376, 0, 0), (.aload_n 0, 1, 0, 0, 0, 0, 0), (.iload_n 2, 1, 2, 0, 0, 0, 0)]
theorem kX2_read_0 : rf_ck MX2_read 0 cX2_read_0 = true := by decide +kernel
theorem bX2_read_7 : rf_ckb MX2_read 7 (.ifCond .ne 8) 8 15 = true := by decide +kernel
def cX2_read_10 : List rf_I := [(.ldc 22, 2, 1005, 0, 373, 0, 0)]
theorem kX2_read_10 : rf_ck MX2_read 10 cX2_read_10 = true := by decide +kernel
theorem bX2_read_12 : rf_ckb MX2_read 12 (.goto 5) 5 17 = true := by decide +kernel
def cX2_read_15 : List rf_I := [(.ldc 32, 2, 1006, 0, 708, 0, 0)]
theorem kX2_read_15 : rf_ck MX2_read 15 cX2_read_15 = true := by decide +kernel
def cX2_read_17 : List rf_I := [(.putfield 24, 3, 2, 2, 377, 0, 0), (.aload_n 0, 1, 0, 0, 0, 0, 0), (.iconst 0, 1, 0, 0, 0, nI 0, 0), (.putfield 28, 3, 2, 3, 378, 0, 0), (.aload_n 0, 1, 0, 0, 0, 0, 0), (.getfield 12, 3, 2, 0, 374, 0, 0), (.iconst 0, 1, 0, 0, 0, nI 0, 0), (.putfield 34, 3, 8, 0, 314, 0, 0), (.aload_n 0, 1, 0, 0, 0, 0, 0), (.iconst 0, 1, 0, 0, 0, nI 0, 0), (.iconst 0, 1, 0, 0, 0, nI 0, 0)]
theorem kX2_read_17 : rf_ck MX2_read 17 cX2_read_17 = true := by decide +kernel
theorem qX2_read_36 : rf_kc MX2_read 36 37 709 yX2_readLevel 0 = true := by decide +kernel
theorem bX2_read_39 : rf_ckb MX2_read 39 (.ifCond .eq 18) 18 57 = true := by decide +kernel
def cX2_read_42 : List rf_I := [(.aload_n 0, 1, 0, 0, 0, 0, 0), (.getfield 28, 3, 2, 3, 378, 0, 0), (.aload_n 1, 1, 1, 0, 0, 0, 0), (.getfield 41, 3, 0, 0, 290, 0, 0)]
theorem kX2_read_42 : rf_ck MX2_read 42 cX2_read_42 = true := by decide +kernel
theorem bX2_read_50 : rf_ckb MX2_read 50 (.if_icmp .ne 7) 7 57 = true := by decide +kernel
def cX2_read_53 : List rf_I := [(.iconst (-1), 1, 0, 0, 0, (-1), 0)]
theorem kX2_read_53 : rf_ck MX2_read 53 cX2_read_53 = true := by decide +kernel
theorem bX2_read_54 : rf_ckb MX2_read 54 (.goto 7) 7 61 = true := by decide +kernel
def cX2_read_57 : List rf_I := [(.aload_n 0, 1, 0, 0, 0, 0, 0), (.getfield 28, 3, 2, 3, 378, 0, 0)]
theorem kX2_read_57 : rf_ck MX2_read 57 cX2_read_57 = true := by decide +kernel
theorem eX2_read_61 : rf_cki MX2_read 61 .ireturn = true := by decide +kernel
abbrev MX2_next : rf_M := (yX2_next, cX2_next, 1, (some (.int)))
theorem mkX2_next : rf_mk MX2_next 0 0 720 81 719 8 = true := by decide +kernel
def cX2_next_0 : List rf_I := [(.aload_n 0, 1, 0, 0, 0, 0, 0), (.getfield 18, 3, 2, 1, 376, nI 27, 0)]
theorem kX2_next_0 : rf_ck MX2_next 0 cX2_next_0 = true := by decide +kernel
theorem bX2_next_4 : rf_ckb MX2_next 4 (.ifnull 32) 32 36 = true := by decide +kernel
def cX2_next_7 : List rf_I := [(.aload_n 0, 1, 0, 0, 0, 0, 0), (.getfield 28, 3, 2, 3, 378, 0, 0), (.aload_n 0, 1, 0, 0, 0, 0, 0), (.getfield 18, 3, 2, 1, 376, nI 27, 0), (.getfield 41, 3, 0, 0, 290, 0, 0)]
theorem kX2_next_7 : rf_ck MX2_next 7 cX2_next_7 = true := by decide +kernel
theorem bX2_next_18 : rf_ckb MX2_next 18 (.if_icmp .ge 18) 18 36 = true := by decide +kernel
def cX2_next_21 : List rf_I := [(.aload_n 0, 1, 0, 0, 0, 0, 0), (.getfield 18, 3, 2, 1, 376, nI 27, 0), (.getfield 46, 3, 0, 2, 295, 0, 0), (.aload_n 0, 1, 0, 0, 0, 0, 0), (.getfield 28, 3, 2, 3, 378, 0, 0), (.iaload, 1, 0, 0, 0, 0, 0)]
theorem kX2_next_21 : rf_ck MX2_next 21 cX2_next_21 = true := by decide +kernel
theorem bX2_next_33 : rf_ckb MX2_next 33 (.goto 4) 4 37 = true := by decide +kernel
def cX2_next_36 : List rf_I := [(.iconst (-1), 1, 0, 0, 0, (-1), 0)]
theorem kX2_next_36 : rf_ck MX2_next 36 cX2_next_36 = true := by decide +kernel
theorem eX2_next_37 : rf_cki MX2_next 37 .ireturn = true := by decide +kernel
abbrev MX2_readLevel : rf_M := (yX2_readLevel, cX2_readLevel, 6, (some (.boolean)))
theorem mkX2_readLevel : rf_mk MX2_readLevel 0 2 712 81 711 6 = true := by decide +kernel
def cX2_readLevel_0 : List rf_I := [(.iload_n 1, 1, 1, 0, 0, 0, 0), (.iconst 4, 1, 0, 0, 0, nI 4, 0)]
theorem kX2_readLevel_0 : rf_ck MX2_readLevel 0 cX2_readLevel_0 = true := by decide +kernel
theorem bX2_readLevel_2 : rf_ckb MX2_readLevel 2 (.if_icmp .le 9) 9 11 = true := by decide +kernel
def cX2_readLevel_5 : List rf_I := [(.aload_n 0, 1, 0, 0, 0, 0, 0), (.iload_n 2, 1, 2, 0, 0, 0, 0)]
theorem kX2_readLevel_5 : rf_ck MX2_readLevel 5 cX2_readLevel_5 = true := by decide +kernel
theorem qX2_readLevel_7 : rf_kc MX2_readLevel 7 50 713 yX2_readFactor 0 = true := by decide +kernel
theorem eX2_readLevel_10 : rf_cki MX2_readLevel 10 .ireturn = true := by decide +kernel
def cX2_readLevel_11 : List rf_I := [(.aload_n 0, 1, 0, 0, 0, 0, 0), (.iload_n 1, 1, 1, 0, 0, 0, 0), (.iconst 1, 1, 0, 0, 0, nI 1, 0), (.iadd, 1, 0, 0, 0, 0, 0), (.iload_n 2, 1, 2, 0, 0, 0, 0)]
theorem kX2_readLevel_11 : rf_ck MX2_readLevel 11 cX2_readLevel_11 = true := by decide +kernel
theorem qX2_readLevel_16 : rf_kc MX2_readLevel 16 37 709 yX2_readLevel 0 = true := by decide +kernel
theorem bX2_readLevel_19 : rf_ckb MX2_readLevel 19 (.ifCond .ne 5) 5 24 = true := by decide +kernel
def cX2_readLevel_22 : List rf_I := [(.iconst 0, 1, 0, 0, 0, nI 0, 0)]
theorem kX2_readLevel_22 : rf_ck MX2_readLevel 22 cX2_readLevel_22 = true := by decide +kernel
theorem eX2_readLevel_23 : rf_cki MX2_readLevel 23 .ireturn = true := by decide +kernel
def cX2_readLevel_24 : List rf_I := [(.iload_n 1, 1, 1, 0, 0, 0, 0), (.iconst 2, 1, 0, 0, 0, nI 2, 0)]
theorem kX2_readLevel_24 : rf_ck MX2_readLevel 24 cX2_readLevel_24 = true := by decide +kernel
theorem bX2_readLevel_26 : rf_ckb MX2_readLevel 26 (.if_icmp .ne 7) 7 33 = true := by decide +kernel
def cX2_readLevel_29 : List rf_I := [(.iconst 1, 1, 0, 0, 0, nI 1, 0)]
theorem kX2_readLevel_29 : rf_ck MX2_readLevel 29 cX2_readLevel_29 = true := by decide +kernel
theorem bX2_readLevel_30 : rf_ckb MX2_readLevel 30 (.goto 5) 5 35 = true := by decide +kernel
def cX2_readLevel_33 : List rf_I := [(.bipush 50, 2, 0, 0, 0, nI 50, 0)]
theorem kX2_readLevel_33 : rf_ck MX2_readLevel 33 cX2_readLevel_33 = true := by decide +kernel
def cX2_readLevel_35 : List rf_I := [(.istore_n 3, 1, 3, 0, 0, 0, 0), (.iconst 0, 1, 0, 0, 0, nI 0, 0), (.istore 4, 2, 4, 0, 0, 0, 0)]
theorem kX2_readLevel_35 : rf_ck MX2_readLevel 35 cX2_readLevel_35 = true := by decide +kernel
def cX2_readLevel_39 : List rf_I := [(.iload 4, 2, 4, 0, 0, 0, 0), (.iload_n 3, 1, 3, 0, 0, 0, 0)]
theorem kX2_readLevel_39 : rf_ck MX2_readLevel 39 cX2_readLevel_39 = true := by decide +kernel
theorem bX2_readLevel_42 : rf_ckb MX2_readLevel 42 (.if_icmp .ge 62) 62 104 = true := by decide +kernel
def cX2_readLevel_45 : List rf_I := [(.aload_n 0, 1, 0, 0, 0, 0, 0)]
theorem kX2_readLevel_45 : rf_ck MX2_readLevel 45 cX2_readLevel_45 = true := by decide +kernel
theorem qX2_readLevel_46 : rf_kc MX2_readLevel 46 54 717 yX2_next 0 = true := by decide +kernel
theorem qX2_readLevel_49 : rf_kc MX2_readLevel 49 58 820 yX2_levelOf 1 = true := by decide +kernel
def cX2_readLevel_52 : List rf_I := [(.iload_n 1, 1, 1, 0, 0, 0, 0)]
theorem kX2_readLevel_52 : rf_ck MX2_readLevel 52 cX2_readLevel_52 = true := by decide +kernel
theorem bX2_readLevel_53 : rf_ckb MX2_readLevel 53 (.if_icmp .ne 51) 51 104 = true := by decide +kernel
def cX2_readLevel_56 : List rf_I := [(.aload_n 0, 1, 0, 0, 0, 0, 0)]
theorem kX2_readLevel_56 : rf_ck MX2_readLevel 56 cX2_readLevel_56 = true := by decide +kernel
theorem qX2_readLevel_57 : rf_kc MX2_readLevel 57 54 717 yX2_next 0 = true := by decide +kernel
def cX2_readLevel_60 : List rf_I := [(.istore 5, 2, 5, 0, 0, 0, 0), (.aload_n 0, 1, 0, 0, 0, 0, 0), (.dup, 1, 0, 0, 0, 0, 0), (.getfield 28, 3, 2, 3, 378, 0, 0), (.iconst 1, 1, 0, 0, 0, nI 1, 0), (.iadd, 1, 0, 0, 0, 0, 0), (.putfield 28, 3, 2, 3, 378, 0, 0), (.aload_n 0, 1, 0, 0, 0, 0, 0), (.iload_n 1, 1, 1, 0, 0, 0, 0), (.iconst 1, 1, 0, 0, 0, nI 1, 0), (.iadd, 1, 0, 0, 0, 0, 0), (.iload_n 2, 1, 2, 0, 0, 0, 0)]
theorem kX2_readLevel_60 : rf_ck MX2_readLevel 60 cX2_readLevel_60 = true := by decide +kernel
theorem qX2_readLevel_77 : rf_kc MX2_readLevel 77 37 709 yX2_readLevel 0 = true := by decide +kernel
theorem bX2_readLevel_80 : rf_ckb MX2_readLevel 80 (.ifCond .ne 5) 5 85 = true := by decide +kernel
def cX2_readLevel_83 : List rf_I := [(.iconst 0, 1, 0, 0, 0, nI 0, 0)]
theorem kX2_readLevel_83 : rf_ck MX2_readLevel 83 cX2_readLevel_83 = true := by decide +kernel
theorem eX2_readLevel_84 : rf_cki MX2_readLevel 84 .ireturn = true := by decide +kernel
def cX2_readLevel_85 : List rf_I := [(.aload_n 0, 1, 0, 0, 0, 0, 0), (.getfield 12, 3, 2, 0, 374, 0, 0), (.sipush 20000, 3, 0, 0, 0, nI 20000, 0), (.iload 5, 2, 5, 0, 0, 0, 0), (.iadd, 1, 0, 0, 0, 0, 0)]
theorem kX2_readLevel_85 : rf_ck MX2_readLevel 85 cX2_readLevel_85 = true := by decide +kernel
theorem qX2_readLevel_95 : rf_kc MX2_readLevel 95 62 725 yX8_add 0 = true := by decide +kernel
def cX2_readLevel_98 : List rf_I := [(.iinc 4 1, 3, 4, 0, 0, nI 1, 0)]
theorem kX2_readLevel_98 : rf_ck MX2_readLevel 98 cX2_readLevel_98 = true := by decide +kernel
theorem bX2_readLevel_101 : rf_ckb MX2_readLevel 101 (.goto (-62)) (-62) 39 = true := by decide +kernel
def cX2_readLevel_104 : List rf_I := [(.iconst 1, 1, 0, 0, 0, nI 1, 0)]
theorem kX2_readLevel_104 : rf_ck MX2_readLevel 104 cX2_readLevel_104 = true := by decide +kernel
theorem eX2_readLevel_105 : rf_cki MX2_readLevel 105 .ireturn = true := by decide +kernel
abbrev MX2_readFactor : rf_M := (yX2_readFactor, cX2_readFactor, 4, (some (.boolean)))
theorem mkX2_readFactor : rf_mk MX2_readFactor 0 1 716 81 715 7 = true := by decide +kernel
def cX2_readFactor_0 : List rf_I := [(.aload_n 0, 1, 0, 0, 0, 0, 0)]
theorem kX2_readFactor_0 : rf_ck MX2_readFactor 0 cX2_readFactor_0 = true := by decide +kernel
theorem qX2_readFactor_1 : rf_kc MX2_readFactor 1 54 717 yX2_next 0 = true := by decide +kernel
def cX2_readFactor_4 : List rf_I := [(.istore_n 2, 1, 2, 0, 0, 0, 0), (.iload_n 2, 1, 2, 0, 0, 0, 0), (.bipush 33, 2, 0, 0, 0, nI 33, 0)]
theorem kX2_readFactor_4 : rf_ck MX2_readFactor 4 cX2_readFactor_4 = true := by decide +kernel
theorem bX2_readFactor_8 : rf_ckb MX2_readFactor 8 (.if_icmp .eq 9) 9 17 = true := by decide +kernel
def cX2_readFactor_11 : List rf_I := [(.iload_n 2, 1, 2, 0, 0, 0, 0), (.bipush 40, 2, 0, 0, 0, nI 40, 0)]
theorem kX2_readFactor_11 : rf_ck MX2_readFactor 11 cX2_readFactor_11 = true := by decide +kernel
theorem bX2_readFactor_14 : rf_ckb MX2_readFactor 14 (.if_icmp .ne 25) 25 39 = true := by decide +kernel
def cX2_readFactor_17 : List rf_I := [(.iload_n 1, 1, 1, 0, 0, 0, 0), (.iconst 5, 1, 0, 0, 0, nI 5, 0)]
theorem kX2_readFactor_17 : rf_ck MX2_readFactor 17 cX2_readFactor_17 = true := by decide +kernel
theorem bX2_readFactor_19 : rf_ckb MX2_readFactor 19 (.if_icmp .ge 18) 18 37 = true := by decide +kernel
def cX2_readFactor_22 : List rf_I := [(.aload_n 0, 1, 0, 0, 0, 0, 0), (.iload_n 2, 1, 2, 0, 0, 0, 0), (.iload_n 1, 1, 1, 0, 0, 0, 0), (.iconst 1, 1, 0, 0, 0, nI 1, 0), (.iadd, 1, 0, 0, 0, 0, 0)]
theorem kX2_readFactor_22 : rf_ck MX2_readFactor 22 cX2_readFactor_22 = true := by decide +kernel
theorem qX2_readFactor_27 : rf_kc MX2_readFactor 27 66 721 yX2_readOpened 0 = true := by decide +kernel
theorem bX2_readFactor_30 : rf_ckb MX2_readFactor 30 (.ifCond .eq 7) 7 37 = true := by decide +kernel
def cX2_readFactor_33 : List rf_I := [(.iconst 1, 1, 0, 0, 0, nI 1, 0)]
theorem kX2_readFactor_33 : rf_ck MX2_readFactor 33 cX2_readFactor_33 = true := by decide +kernel
theorem bX2_readFactor_34 : rf_ckb MX2_readFactor 34 (.goto 4) 4 38 = true := by decide +kernel
def cX2_readFactor_37 : List rf_I := [(.iconst 0, 1, 0, 0, 0, nI 0, 0)]
theorem kX2_readFactor_37 : rf_ck MX2_readFactor 37 cX2_readFactor_37 = true := by decide +kernel
theorem eX2_readFactor_38 : rf_cki MX2_readFactor 38 .ireturn = true := by decide +kernel
def cX2_readFactor_39 : List rf_I := [(.iload_n 2, 1, 2, 0, 0, 0, 0)]
theorem kX2_readFactor_39 : rf_ck MX2_readFactor 39 cX2_readFactor_39 = true := by decide +kernel
theorem qX2_readFactor_40 : rf_kc MX2_readFactor 40 69 729 yX2_isDigit 1 = true := by decide +kernel
theorem bX2_readFactor_43 : rf_ckb MX2_readFactor 43 (.ifCond .eq 9) 9 52 = true := by decide +kernel
def cX2_readFactor_46 : List rf_I := [(.aload_n 0, 1, 0, 0, 0, 0, 0)]
theorem kX2_readFactor_46 : rf_ck MX2_readFactor 46 cX2_readFactor_46 = true := by decide +kernel
theorem qX2_readFactor_47 : rf_kc MX2_readFactor 47 72 732 yX2_readNumber 0 = true := by decide +kernel
def cX2_readFactor_50 : List rf_I := [(.iconst 1, 1, 0, 0, 0, nI 1, 0)]
theorem kX2_readFactor_50 : rf_ck MX2_readFactor 50 cX2_readFactor_50 = true := by decide +kernel
theorem eX2_readFactor_51 : rf_cki MX2_readFactor 51 .ireturn = true := by decide +kernel
def cX2_readFactor_52 : List rf_I := [(.iload_n 2, 1, 2, 0, 0, 0, 0)]
theorem kX2_readFactor_52 : rf_ck MX2_readFactor 52 cX2_readFactor_52 = true := by decide +kernel
theorem bX2_readFactor_53 : rf_ckb MX2_readFactor 53 (.ifCond .ge 7) 7 60 = true := by decide +kernel
def cX2_readFactor_56 : List rf_I := [(.iconst (-1), 1, 0, 0, 0, (-1), 0)]
theorem kX2_readFactor_56 : rf_ck MX2_readFactor 56 cX2_readFactor_56 = true := by decide +kernel
theorem bX2_readFactor_57 : rf_ckb MX2_readFactor 57 (.goto 12) 12 69 = true := by decide +kernel
def cX2_readFactor_60 (nv : Int32) : List rf_I := [(.aload_n 0, 1, 0, 0, 0, 0, 0), (.getfield 24, 3, 2, 2, 377, nv, 0), (.iload_n 2, 1, 2, 0, 0, 0, 0), (.i2c, 1, 0, 0, 0, 0, 0)]
theorem kX2_readFactor_60 (nv : Int32) : rf_ck MX2_readFactor 60 (cX2_readFactor_60 nv) = true := by
  have h : ∀ a b : Int32, rf_ck MX2_readFactor 60 (cX2_readFactor_60 a) = rf_ck MX2_readFactor 60 (cX2_readFactor_60 b) := fun _ _ => rfl
  rw [h nv 0]
  decide +kernel
theorem qX2_readFactor_66 : rf_kc MX2_readFactor 66 75 736 yJ0_indexOf_0f7a4 0 = true := by decide +kernel
def cX2_readFactor_69 : List rf_I := [(.istore_n 3, 1, 3, 0, 0, 0, 0), (.iload_n 3, 1, 3, 0, 0, 0, 0)]
theorem kX2_readFactor_69 : rf_ck MX2_readFactor 69 cX2_readFactor_69 = true := by decide +kernel
theorem bX2_readFactor_71 : rf_ckb MX2_readFactor 71 (.ifCond .ge 5) 5 76 = true := by decide +kernel
def cX2_readFactor_74 : List rf_I := [(.iconst 0, 1, 0, 0, 0, nI 0, 0)]
theorem kX2_readFactor_74 : rf_ck MX2_readFactor 74 cX2_readFactor_74 = true := by decide +kernel
theorem eX2_readFactor_75 : rf_cki MX2_readFactor 75 .ireturn = true := by decide +kernel
def cX2_readFactor_76 : List rf_I := [(.aload_n 0, 1, 0, 0, 0, 0, 0), (.getfield 12, 3, 2, 0, 374, 0, 0), (.sipush 10000, 3, 0, 0, 0, nI 10000, 0), (.iload_n 3, 1, 3, 0, 0, 0, 0), (.iadd, 1, 0, 0, 0, 0, 0)]
theorem kX2_readFactor_76 : rf_ck MX2_readFactor 76 cX2_readFactor_76 = true := by decide +kernel
theorem qX2_readFactor_85 : rf_kc MX2_readFactor 85 62 725 yX8_add 0 = true := by decide +kernel
def cX2_readFactor_88 : List rf_I := [(.aload_n 0, 1, 0, 0, 0, 0, 0), (.dup, 1, 0, 0, 0, 0, 0), (.getfield 28, 3, 2, 3, 378, 0, 0), (.iconst 1, 1, 0, 0, 0, nI 1, 0), (.iadd, 1, 0, 0, 0, 0, 0), (.putfield 28, 3, 2, 3, 378, 0, 0), (.iconst 1, 1, 0, 0, 0, nI 1, 0)]
theorem kX2_readFactor_88 : rf_ck MX2_readFactor 88 cX2_readFactor_88 = true := by decide +kernel
theorem eX2_readFactor_99 : rf_cki MX2_readFactor 99 .ireturn = true := by decide +kernel
abbrev MX2_readOpened : rf_M := (yX2_readOpened, cX2_readOpened, 3, (some (.boolean)))
theorem mkX2_readOpened : rf_mk MX2_readOpened 0 2 724 81 723 9 = true := by decide +kernel
def cX2_readOpened_0 : List rf_I := [(.aload_n 0, 1, 0, 0, 0, 0, 0), (.dup, 1, 0, 0, 0, 0, 0), (.getfield 28, 3, 2, 3, 378, 0, 0), (.iconst 1, 1, 0, 0, 0, nI 1, 0), (.iadd, 1, 0, 0, 0, 0, 0), (.putfield 28, 3, 2, 3, 378, 0, 0), (.iload_n 1, 1, 1, 0, 0, 0, 0), (.bipush 33, 2, 0, 0, 0, nI 33, 0)]
theorem kX2_readOpened_0 : rf_ck MX2_readOpened 0 cX2_readOpened_0 = true := by decide +kernel
theorem bX2_readOpened_13 : rf_ckb MX2_readOpened 13 (.if_icmp .ne 27) 27 40 = true := by decide +kernel
def cX2_readOpened_16 : List rf_I := [(.aload_n 0, 1, 0, 0, 0, 0, 0), (.iload_n 2, 1, 2, 0, 0, 0, 0)]
theorem kX2_readOpened_16 : rf_ck MX2_readOpened 16 cX2_readOpened_16 = true := by decide +kernel
theorem qX2_readOpened_18 : rf_kc MX2_readOpened 18 50 713 yX2_readFactor 0 = true := by decide +kernel
theorem bX2_readOpened_21 : rf_ckb MX2_readOpened 21 (.ifCond .ne 5) 5 26 = true := by decide +kernel
def cX2_readOpened_24 : List rf_I := [(.iconst 0, 1, 0, 0, 0, nI 0, 0)]
theorem kX2_readOpened_24 : rf_ck MX2_readOpened 24 cX2_readOpened_24 = true := by decide +kernel
theorem eX2_readOpened_25 : rf_cki MX2_readOpened 25 .ireturn = true := by decide +kernel
def cX2_readOpened_26 : List rf_I := [(.aload_n 0, 1, 0, 0, 0, 0, 0), (.getfield 12, 3, 2, 0, 374, 0, 0), (.sipush 20000, 3, 0, 0, 0, nI 20000, 0), (.iload_n 1, 1, 1, 0, 0, 0, 0), (.iadd, 1, 0, 0, 0, 0, 0)]
theorem kX2_readOpened_26 : rf_ck MX2_readOpened 26 cX2_readOpened_26 = true := by decide +kernel
theorem qX2_readOpened_35 : rf_kc MX2_readOpened 35 62 725 yX8_add 0 = true := by decide +kernel
def cX2_readOpened_38 : List rf_I := [(.iconst 1, 1, 0, 0, 0, nI 1, 0)]
theorem kX2_readOpened_38 : rf_ck MX2_readOpened 38 cX2_readOpened_38 = true := by decide +kernel
theorem eX2_readOpened_39 : rf_cki MX2_readOpened 39 .ireturn = true := by decide +kernel
def cX2_readOpened_40 : List rf_I := [(.aload_n 0, 1, 0, 0, 0, 0, 0), (.iconst 0, 1, 0, 0, 0, nI 0, 0), (.iload_n 2, 1, 2, 0, 0, 0, 0)]
theorem kX2_readOpened_40 : rf_ck MX2_readOpened 40 cX2_readOpened_40 = true := by decide +kernel
theorem qX2_readOpened_43 : rf_kc MX2_readOpened 43 37 709 yX2_readLevel 0 = true := by decide +kernel
theorem bX2_readOpened_46 : rf_ckb MX2_readOpened 46 (.ifCond .eq 12) 12 58 = true := by decide +kernel
def cX2_readOpened_49 : List rf_I := [(.aload_n 0, 1, 0, 0, 0, 0, 0)]
theorem kX2_readOpened_49 : rf_ck MX2_readOpened 49 cX2_readOpened_49 = true := by decide +kernel
theorem qX2_readOpened_50 : rf_kc MX2_readOpened 50 54 717 yX2_next 0 = true := by decide +kernel
def cX2_readOpened_53 : List rf_I := [(.bipush 41, 2, 0, 0, 0, nI 41, 0)]
theorem kX2_readOpened_53 : rf_ck MX2_readOpened 53 cX2_readOpened_53 = true := by decide +kernel
theorem bX2_readOpened_55 : rf_ckb MX2_readOpened 55 (.if_icmp .eq 5) 5 60 = true := by decide +kernel
def cX2_readOpened_58 : List rf_I := [(.iconst 0, 1, 0, 0, 0, nI 0, 0)]
theorem kX2_readOpened_58 : rf_ck MX2_readOpened 58 cX2_readOpened_58 = true := by decide +kernel
theorem eX2_readOpened_59 : rf_cki MX2_readOpened 59 .ireturn = true := by decide +kernel
def cX2_readOpened_60 : List rf_I := [(.aload_n 0, 1, 0, 0, 0, 0, 0), (.dup, 1, 0, 0, 0, 0, 0), (.getfield 28, 3, 2, 3, 378, 0, 0), (.iconst 1, 1, 0, 0, 0, nI 1, 0), (.iadd, 1, 0, 0, 0, 0, 0), (.putfield 28, 3, 2, 3, 378, 0, 0), (.iconst 1, 1, 0, 0, 0, nI 1, 0)]
theorem kX2_readOpened_60 : rf_ck MX2_readOpened 60 cX2_readOpened_60 = true := by decide +kernel
theorem eX2_readOpened_71 : rf_cki MX2_readOpened 71 .ireturn = true := by decide +kernel
abbrev MX2_readNumber : rf_M := (yX2_readNumber, cX2_readNumber, 3, none)
theorem mkX2_readNumber : rf_mk MX2_readNumber 0 0 735 81 734 10 = true := by decide +kernel
def cX2_readNumber_0 : List rf_I := [(.iconst 0, 1, 0, 0, 0, nI 0, 0), (.istore_n 1, 1, 1, 0, 0, 0, 0), (.iconst 0, 1, 0, 0, 0, nI 0, 0), (.istore_n 2, 1, 2, 0, 0, 0, 0)]
theorem kX2_readNumber_0 : rf_ck MX2_readNumber 0 cX2_readNumber_0 = true := by decide +kernel
def cX2_readNumber_4 : List rf_I := [(.iload_n 2, 1, 2, 0, 0, 0, 0), (.iconst 4, 1, 0, 0, 0, nI 4, 0)]
theorem kX2_readNumber_4 : rf_ck MX2_readNumber 4 cX2_readNumber_4 = true := by decide +kernel
theorem bX2_readNumber_6 : rf_ckb MX2_readNumber 6 (.if_icmp .ge 42) 42 48 = true := by decide +kernel
def cX2_readNumber_9 : List rf_I := [(.aload_n 0, 1, 0, 0, 0, 0, 0)]
theorem kX2_readNumber_9 : rf_ck MX2_readNumber 9 cX2_readNumber_9 = true := by decide +kernel
theorem qX2_readNumber_10 : rf_kc MX2_readNumber 10 54 717 yX2_next 0 = true := by decide +kernel
theorem qX2_readNumber_13 : rf_kc MX2_readNumber 13 69 729 yX2_isDigit 1 = true := by decide +kernel
theorem bX2_readNumber_16 : rf_ckb MX2_readNumber 16 (.ifCond .eq 32) 32 48 = true := by decide +kernel
def cX2_readNumber_19 : List rf_I := [(.iload_n 1, 1, 1, 0, 0, 0, 0), (.bipush 10, 2, 0, 0, 0, nI 10, 0), (.imul, 1, 0, 0, 0, 0, 0), (.aload_n 0, 1, 0, 0, 0, 0, 0)]
theorem kX2_readNumber_19 : rf_ck MX2_readNumber 19 cX2_readNumber_19 = true := by decide +kernel
theorem qX2_readNumber_24 : rf_kc MX2_readNumber 24 54 717 yX2_next 0 = true := by decide +kernel
def cX2_readNumber_27 : List rf_I := [(.iadd, 1, 0, 0, 0, 0, 0), (.bipush 48, 2, 0, 0, 0, nI 48, 0), (.isub, 1, 0, 0, 0, 0, 0), (.istore_n 1, 1, 1, 0, 0, 0, 0), (.aload_n 0, 1, 0, 0, 0, 0, 0), (.dup, 1, 0, 0, 0, 0, 0), (.getfield 28, 3, 2, 3, 378, 0, 0), (.iconst 1, 1, 0, 0, 0, nI 1, 0), (.iadd, 1, 0, 0, 0, 0, 0), (.putfield 28, 3, 2, 3, 378, 0, 0), (.iinc 2 1, 3, 2, 0, 0, nI 1, 0)]
theorem kX2_readNumber_27 : rf_ck MX2_readNumber 27 cX2_readNumber_27 = true := by decide +kernel
theorem bX2_readNumber_45 : rf_ckb MX2_readNumber 45 (.goto (-41)) (-41) 4 = true := by decide +kernel
def cX2_readNumber_48 : List rf_I := [(.aload_n 0, 1, 0, 0, 0, 0, 0), (.getfield 12, 3, 2, 0, 374, 0, 0), (.iload_n 1, 1, 1, 0, 0, 0, 0)]
theorem kX2_readNumber_48 : rf_ck MX2_readNumber 48 cX2_readNumber_48 = true := by decide +kernel
theorem qX2_readNumber_53 : rf_kc MX2_readNumber 53 62 725 yX8_add 0 = true := by decide +kernel
theorem eX2_readNumber_56 : rf_cki MX2_readNumber 56 .return_ = true := by decide +kernel
abbrev MX2_isDigit : rf_M := (yX2_isDigit, cX2_isDigit, 1, (some (.boolean)))
theorem mkX2_isDigit : rf_mk MX2_isDigit 1 1 731 81 730 0 = true := by decide +kernel
def cX2_isDigit_0 : List rf_I := [(.iload_n 0, 1, 0, 0, 0, 0, 0), (.bipush 48, 2, 0, 0, 0, nI 48, 0)]
theorem kX2_isDigit_0 : rf_ck MX2_isDigit 0 cX2_isDigit_0 = true := by decide +kernel
theorem bX2_isDigit_3 : rf_ckb MX2_isDigit 3 (.if_icmp .lt 13) 13 16 = true := by decide +kernel
def cX2_isDigit_6 : List rf_I := [(.iload_n 0, 1, 0, 0, 0, 0, 0), (.bipush 57, 2, 0, 0, 0, nI 57, 0)]
theorem kX2_isDigit_6 : rf_ck MX2_isDigit 6 cX2_isDigit_6 = true := by decide +kernel
theorem bX2_isDigit_9 : rf_ckb MX2_isDigit 9 (.if_icmp .gt 7) 7 16 = true := by decide +kernel
def cX2_isDigit_12 : List rf_I := [(.iconst 1, 1, 0, 0, 0, nI 1, 0)]
theorem kX2_isDigit_12 : rf_ck MX2_isDigit 12 cX2_isDigit_12 = true := by decide +kernel
theorem bX2_isDigit_13 : rf_ckb MX2_isDigit 13 (.goto 4) 4 17 = true := by decide +kernel
def cX2_isDigit_16 : List rf_I := [(.iconst 0, 1, 0, 0, 0, nI 0, 0)]
theorem kX2_isDigit_16 : rf_ck MX2_isDigit 16 cX2_isDigit_16 = true := by decide +kernel
theorem eX2_isDigit_17 : rf_cki MX2_isDigit 17 .ireturn = true := by decide +kernel
abbrev MX2_levelOf : rf_M := (yX2_levelOf, cX2_levelOf, 1, (some (.int)))
theorem mkX2_levelOf : rf_mk MX2_levelOf 1 1 822 81 821 0 = true := by decide +kernel
def cX2_levelOf_0 : List rf_I := [(.iload_n 0, 1, 0, 0, 0, 0, 0)]
theorem kX2_levelOf_0 : rf_ck MX2_levelOf 0 cX2_levelOf_0 = true := by decide +kernel
theorem bX2_levelOf_1 : rf_ckl MX2_levelOf 1 101 [(37, 99), (38, 93), (42, 99), (43, 97), (45, 97), (47, 99), (60, 95), (61, 95), (62, 95), (124, 91)] 102 = true := by decide +kernel
def cX2_levelOf_92 : List rf_I := [(.iconst 0, 1, 0, 0, 0, nI 0, 0)]
theorem kX2_levelOf_92 : rf_ck MX2_levelOf 92 cX2_levelOf_92 = true := by decide +kernel
theorem eX2_levelOf_93 : rf_cki MX2_levelOf 93 .ireturn = true := by decide +kernel
def cX2_levelOf_94 : List rf_I := [(.iconst 1, 1, 0, 0, 0, nI 1, 0)]
theorem kX2_levelOf_94 : rf_ck MX2_levelOf 94 cX2_levelOf_94 = true := by decide +kernel
theorem eX2_levelOf_95 : rf_cki MX2_levelOf 95 .ireturn = true := by decide +kernel
def cX2_levelOf_96 : List rf_I := [(.iconst 2, 1, 0, 0, 0, nI 2, 0)]
theorem kX2_levelOf_96 : rf_ck MX2_levelOf 96 cX2_levelOf_96 = true := by decide +kernel
theorem eX2_levelOf_97 : rf_cki MX2_levelOf 97 .ireturn = true := by decide +kernel
def cX2_levelOf_98 : List rf_I := [(.iconst 3, 1, 0, 0, 0, nI 3, 0)]
theorem kX2_levelOf_98 : rf_ck MX2_levelOf 98 cX2_levelOf_98 = true := by decide +kernel
theorem eX2_levelOf_99 : rf_cki MX2_levelOf 99 .ireturn = true := by decide +kernel
def cX2_levelOf_100 : List rf_I := [(.iconst 4, 1, 0, 0, 0, nI 4, 0)]
theorem kX2_levelOf_100 : rf_ck MX2_levelOf 100 cX2_levelOf_100 = true := by decide +kernel
theorem eX2_levelOf_101 : rf_cki MX2_levelOf 101 .ireturn = true := by decide +kernel
def cX2_levelOf_102 : List rf_I := [(.iconst (-1), 1, 0, 0, 0, (-1), 0)]
theorem kX2_levelOf_102 : rf_ck MX2_levelOf 102 cX2_levelOf_102 = true := by decide +kernel
theorem eX2_levelOf_103 : rf_cki MX2_levelOf 103 .ireturn = true := by decide +kernel
abbrev MX3_init : rf_M := (yX3_init, cX3_init, 1, none)
theorem mkX3_init : rf_mk MX3_init 2 0 162 76 161 0 = true := by decide +kernel
def cX3_init_0 : List rf_I := [(.aload_n 0, 1, 0, 0, 0, 0, 0), (.invokespecial 3, 3, 0, 0, 163, 0, 0), (.aload_n 0, 1, 0, 0, 0, 0, 0), (.iconst 0, 1, 0, 0, 0, nI 0, 0), (.putfield 9, 3, 3, 0, 164, 0, 0), (.aload_n 0, 1, 0, 0, 0, 0, 0), (.iconst 3, 1, 0, 0, 0, nI 3, 0), (.putfield 15, 3, 3, 1, 168, 0, 0), (.aload_n 0, 1, 0, 0, 0, 0, 0), (.bipush 60, 2, 0, 0, 0, nI 60, 0), (.putfield 18, 3, 3, 2, 171, 0, 0), (.aload_n 0, 1, 0, 0, 0, 0, 0), (.bipush 16, 2, 0, 0, 0, nI 16, 0), (.newarray .int, 2, 0, 16, 0, 0, 0), (.putfield 21, 3, 3, 3, 175, 0, 0), (.aload_n 0, 1, 0, 0, 0, 0, 0), (.bipush 16, 2, 0, 0, 0, nI 16, 0), (.newarray .int, 2, 0, 16, 0, 0, 0), (.putfield 25, 3, 3, 4, 179, 0, 0), (.aload_n 0, 1, 0, 0, 0, 0, 0), (.bipush 16, 2, 0, 0, 0, nI 16, 0), (.newarray .int, 2, 0, 16, 0, 0, 0), (.putfield 28, 3, 3, 5, 183, 0, 0), (.aload_n 0, 1, 0, 0, 0, 0, 0), (.bipush 16, 2, 0, 0, 0, nI 16, 0), (.newarray .int, 2, 0, 16, 0, 0, 0), (.putfield 31, 3, 3, 6, 186, 0, 0), (.aload_n 0, 1, 0, 0, 0, 0, 0), (.bipush 16, 2, 0, 0, 0, nI 16, 0), (.newarray .int, 2, 0, 16, 0, 0, 0), (.putfield 34, 3, 3, 7, 188, 0, 0), (.aload_n 0, 1, 0, 0, 0, 0, 0), (.bipush 16, 2, 0, 0, 0, nI 16, 0), (.newarray .int, 2, 0, 16, 0, 0, 0), (.putfield 37, 3, 3, 8, 193, 0, 0), (.aload_n 0, 1, 0, 0, 0, 0, 0), (.bipush 16, 2, 0, 0, 0, nI 16, 0), (.newarray .int, 2, 0, 16, 0, 0, 0), (.putfield 40, 3, 3, 9, 195, 0, 0), (.aload_n 0, 1, 0, 0, 0, 0, 0), (.bipush 16, 2, 0, 0, 0, nI 16, 0), (.newarray .int, 2, 0, 16, 0, 0, 0), (.putfield 43, 3, 3, 10, 197, 0, 0)]
theorem kX3_init_0 : rf_ck MX3_init 0 cX3_init_0 = true := by decide +kernel
theorem eX3_init_84 : rf_cki MX3_init 84 .return_ = true := by decide +kernel
abbrev MX3_addGroup : rf_M := (yX3_addGroup, cX3_addGroup, 6, (some (.int)))
theorem mkX3_addGroup : rf_mk MX3_addGroup 0 4 615 76 613 614 = true := by decide +kernel
def cX3_addGroup_0 : List rf_I := [(.aload_n 0, 1, 0, 0, 0, 0, 0), (.getfield 9, 3, 3, 0, 164, 0, 0), (.istore 5, 2, 5, 0, 0, 0, 0), (.aload_n 0, 1, 0, 0, 0, 0, 0), (.dup, 1, 0, 0, 0, 0, 0), (.getfield 9, 3, 3, 0, 164, 0, 0), (.iconst 1, 1, 0, 0, 0, nI 1, 0), (.iadd, 1, 0, 0, 0, 0, 0), (.putfield 9, 3, 3, 0, 164, 0, 0), (.aload_n 0, 1, 0, 0, 0, 0, 0), (.getfield 21, 3, 3, 3, 175, 0, 0), (.iload 5, 2, 5, 0, 0, 0, 0), (.iload_n 1, 1, 1, 0, 0, 0, 0), (.bipush 100, 2, 0, 0, 0, nI 100, 0), (.idiv, 1, 0, 0, 0, 0, 0), (.iastore, 1, 0, 0, 0, 0, 0), (.aload_n 0, 1, 0, 0, 0, 0, 0), (.getfield 25, 3, 3, 4, 179, 0, 0), (.iload 5, 2, 5, 0, 0, 0, 0), (.iload_n 1, 1, 1, 0, 0, 0, 0), (.bipush 100, 2, 0, 0, 0, nI 100, 0), (.irem, 1, 0, 0, 0, 0, 0), (.iastore, 1, 0, 0, 0, 0, 0), (.aload_n 0, 1, 0, 0, 0, 0, 0), (.getfield 28, 3, 3, 5, 183, 0, 0), (.iload 5, 2, 5, 0, 0, 0, 0), (.iload_n 2, 1, 2, 0, 0, 0, 0), (.bipush 10, 2, 0, 0, 0, nI 10, 0), (.idiv, 1, 0, 0, 0, 0, 0), (.iastore, 1, 0, 0, 0, 0, 0), (.aload_n 0, 1, 0, 0, 0, 0, 0), (.getfield 31, 3, 3, 6, 186, 0, 0), (.iload 5, 2, 5, 0, 0, 0, 0), (.iload_n 2, 1, 2, 0, 0, 0, 0), (.bipush 10, 2, 0, 0, 0, nI 10, 0), (.irem, 1, 0, 0, 0, 0, 0), (.iastore, 1, 0, 0, 0, 0, 0), (.aload_n 0, 1, 0, 0, 0, 0, 0), (.getfield 34, 3, 3, 7, 188, 0, 0), (.iload 5, 2, 5, 0, 0, 0, 0), (.iload_n 3, 1, 3, 0, 0, 0, 0), (.iastore, 1, 0, 0, 0, 0, 0), (.aload_n 0, 1, 0, 0, 0, 0, 0), (.getfield 43, 3, 3, 10, 197, 0, 0), (.iload 5, 2, 5, 0, 0, 0, 0), (.iconst 0, 1, 0, 0, 0, nI 0, 0), (.iastore, 1, 0, 0, 0, 0, 0), (.aload_n 0, 1, 0, 0, 0, 0, 0), (.iload 5, 2, 5, 0, 0, 0, 0), (.iload 4, 2, 4, 0, 0, 0, 0)]
theorem kX3_addGroup_0 : rf_ck MX3_addGroup 0 cX3_addGroup_0 = true := by decide +kernel
theorem qX3_addGroup_81 : rf_kc MX3_addGroup 81 46 616 yX3_setBelief 0 = true := by decide +kernel
def cX3_addGroup_84 : List rf_I := [(.pop, 1, 0, 0, 0, 0, 0), (.iload 5, 2, 5, 0, 0, 0, 0)]
theorem kX3_addGroup_84 : rf_ck MX3_addGroup 84 cX3_addGroup_84 = true := by decide +kernel
theorem eX3_addGroup_87 : rf_cki MX3_addGroup 87 .ireturn = true := by decide +kernel
abbrev MX3_beliefOf : rf_M := (yX3_beliefOf, cX3_beliefOf, 2, (some (.int)))
theorem mkX3_beliefOf : rf_mk MX3_beliefOf 0 1 623 76 621 622 = true := by decide +kernel
def cX3_beliefOf_0 : List rf_I := [(.bipush 10, 2, 0, 0, 0, nI 10, 0), (.aload_n 0, 1, 0, 0, 0, 0, 0), (.getfield 37, 3, 3, 8, 193, 0, 0), (.iload_n 1, 1, 1, 0, 0, 0, 0), (.iaload, 1, 0, 0, 0, 0, 0), (.imul, 1, 0, 0, 0, 0, 0), (.aload_n 0, 1, 0, 0, 0, 0, 0), (.getfield 40, 3, 3, 9, 195, 0, 0), (.iload_n 1, 1, 1, 0, 0, 0, 0), (.iaload, 1, 0, 0, 0, 0, 0), (.iadd, 1, 0, 0, 0, 0, 0)]
theorem kX3_beliefOf_0 : rf_ck MX3_beliefOf 0 cX3_beliefOf_0 = true := by decide +kernel
theorem eX3_beliefOf_16 : rf_cki MX3_beliefOf 16 .ireturn = true := by decide +kernel
abbrev MX3_setBelief : rf_M := (yX3_setBelief, cX3_setBelief, 4, (some (.int)))
theorem mkX3_setBelief : rf_mk MX3_setBelief 0 2 619 76 617 618 = true := by decide +kernel
def cX3_setBelief_0 : List rf_I := [(.aload_n 0, 1, 0, 0, 0, 0, 0), (.iload_n 1, 1, 1, 0, 0, 0, 0)]
theorem kX3_setBelief_0 : rf_ck MX3_setBelief 0 cX3_setBelief_0 = true := by decide +kernel
theorem qX3_setBelief_2 : rf_kc MX3_setBelief 2 50 620 yX3_beliefOf 0 = true := by decide +kernel
def cX3_setBelief_5 : List rf_I := [(.istore_n 3, 1, 3, 0, 0, 0, 0), (.aload_n 0, 1, 0, 0, 0, 0, 0), (.getfield 37, 3, 3, 8, 193, 0, 0), (.iload_n 1, 1, 1, 0, 0, 0, 0), (.iload_n 2, 1, 2, 0, 0, 0, 0), (.bipush 10, 2, 0, 0, 0, nI 10, 0), (.idiv, 1, 0, 0, 0, 0, 0), (.iastore, 1, 0, 0, 0, 0, 0), (.aload_n 0, 1, 0, 0, 0, 0, 0), (.getfield 40, 3, 3, 9, 195, 0, 0), (.iload_n 1, 1, 1, 0, 0, 0, 0), (.iload_n 2, 1, 2, 0, 0, 0, 0), (.bipush 10, 2, 0, 0, 0, nI 10, 0), (.irem, 1, 0, 0, 0, 0, 0), (.iastore, 1, 0, 0, 0, 0, 0), (.iload_n 3, 1, 3, 0, 0, 0, 0)]
theorem kX3_setBelief_5 : rf_ck MX3_setBelief 5 cX3_setBelief_5 = true := by decide +kernel
theorem eX3_setBelief_27 : rf_cki MX3_setBelief 27 .ireturn = true := by decide +kernel
abbrev MX3_stopsGone : rf_M := (yX3_stopsGone, cX3_stopsGone, 2, (some (.int)))
theorem mkX3_stopsGone : rf_mk MX3_stopsGone 0 1 660 76 658 659 = true := by decide +kernel
def cX3_stopsGone_0 : List rf_I := [(.aload_n 0, 1, 0, 0, 0, 0, 0), (.getfield 31, 3, 3, 6, 186, 0, 0), (.iload_n 1, 1, 1, 0, 0, 0, 0), (.iaload, 1, 0, 0, 0, 0, 0), (.aload_n 0, 1, 0, 0, 0, 0, 0), (.getfield 28, 3, 3, 5, 183, 0, 0), (.iload_n 1, 1, 1, 0, 0, 0, 0), (.iaload, 1, 0, 0, 0, 0, 0), (.isub, 1, 0, 0, 0, 0, 0)]
theorem kX3_stopsGone_0 : rf_ck MX3_stopsGone 0 cX3_stopsGone_0 = true := by decide +kernel
theorem eX3_stopsGone_13 : rf_cki MX3_stopsGone 13 .ireturn = true := by decide +kernel
abbrev MX3_fareWeighed : rf_M := (yX3_fareWeighed, cX3_fareWeighed, 2, (some (.int)))
theorem mkX3_fareWeighed : rf_mk MX3_fareWeighed 0 1 656 76 654 655 = true := by decide +kernel
def cX3_fareWeighed_0 : List rf_I := [(.aload_n 0, 1, 0, 0, 0, 0, 0), (.getfield 21, 3, 3, 3, 175, 0, 0), (.iload_n 1, 1, 1, 0, 0, 0, 0), (.iaload, 1, 0, 0, 0, 0, 0), (.iconst 4, 1, 0, 0, 0, nI 4, 0)]
theorem kX3_fareWeighed_0 : rf_ck MX3_fareWeighed 0 cX3_fareWeighed_0 = true := by decide +kernel
theorem bX3_fareWeighed_7 : rf_ckb MX3_fareWeighed 7 (.if_icmp .ne 21) 21 28 = true := by decide +kernel
def cX3_fareWeighed_10 : List rf_I := [(.aload_n 0, 1, 0, 0, 0, 0, 0), (.iload_n 1, 1, 1, 0, 0, 0, 0)]
theorem kX3_fareWeighed_10 : rf_ck MX3_fareWeighed 10 cX3_fareWeighed_10 = true := by decide +kernel
theorem qX3_fareWeighed_12 : rf_kc MX3_fareWeighed 12 54 657 yX3_stopsGone 0 = true := by decide +kernel
def cX3_fareWeighed_15 : List rf_I := [(.iconst 3, 1, 0, 0, 0, nI 3, 0)]
theorem kX3_fareWeighed_15 : rf_ck MX3_fareWeighed 15 cX3_fareWeighed_15 = true := by decide +kernel
theorem bX3_fareWeighed_16 : rf_ckb MX3_fareWeighed 16 (.if_icmp .gt 12) 12 28 = true := by decide +kernel
def cX3_fareWeighed_19 : List rf_I := [(.aload_n 0, 1, 0, 0, 0, 0, 0), (.getfield 15, 3, 3, 1, 168, 0, 0), (.iconst 2, 1, 0, 0, 0, nI 2, 0), (.idiv, 1, 0, 0, 0, 0, 0)]
theorem kX3_fareWeighed_19 : rf_ck MX3_fareWeighed 19 cX3_fareWeighed_19 = true := by decide +kernel
theorem bX3_fareWeighed_25 : rf_ckb MX3_fareWeighed 25 (.goto 7) 7 32 = true := by decide +kernel
def cX3_fareWeighed_28 : List rf_I := [(.aload_n 0, 1, 0, 0, 0, 0, 0), (.getfield 15, 3, 3, 1, 168, 0, 0)]
theorem kX3_fareWeighed_28 : rf_ck MX3_fareWeighed 28 cX3_fareWeighed_28 = true := by decide +kernel
theorem eX3_fareWeighed_32 : rf_cki MX3_fareWeighed 32 .ireturn = true := by decide +kernel
abbrev MX3_beFound : rf_M := (yX3_beFound, cX3_beFound, 3, none)
theorem mkX3_beFound : rf_mk MX3_beFound 0 2 980 76 978 979 = true := by decide +kernel
def cX3_beFound_0 : List rf_I := [(.aload_n 0, 1, 0, 0, 0, 0, 0), (.getfield 21, 3, 3, 3, 175, 0, 0), (.iload_n 1, 1, 1, 0, 0, 0, 0), (.iaload, 1, 0, 0, 0, 0, 0)]
theorem kX3_beFound_0 : rf_ck MX3_beFound 0 cX3_beFound_0 = true := by decide +kernel
theorem bX3_beFound_6 : rf_ckt MX3_beFound 6 105 2 7 [38, 38, 38, 64, 105, 77] [44, 44, 44, 70, 111, 83] 111 = true := by decide +kernel
def cX3_beFound_44 : List rf_I := [(.aload_n 0, 1, 0, 0, 0, 0, 0), (.getfield 37, 3, 3, 8, 193, 0, 0), (.iload_n 1, 1, 1, 0, 0, 0, 0), (.aload_n 0, 1, 0, 0, 0, 0, 0), (.getfield 37, 3, 3, 8, 193, 0, 0), (.iload_n 1, 1, 1, 0, 0, 0, 0), (.iaload, 1, 0, 0, 0, 0, 0), (.iconst 1, 1, 0, 0, 0, nI 1, 0), (.iadd, 1, 0, 0, 0, 0, 0), (.aload_n 0, 1, 0, 0, 0, 0, 0), (.getfield 40, 3, 3, 9, 195, 0, 0), (.iload_n 1, 1, 1, 0, 0, 0, 0), (.iaload, 1, 0, 0, 0, 0, 0), (.invokestatic 57, 3, 1, 0, 981, 0, 0), (.iastore, 1, 0, 0, 0, 0, 0)]
theorem kX3_beFound_44 : rf_ck MX3_beFound 44 cX3_beFound_44 = true := by decide +kernel
theorem bX3_beFound_67 : rf_ckb MX3_beFound 67 (.goto 44) 44 111 = true := by decide +kernel
def cX3_beFound_70 : List rf_I := [(.aload_n 0, 1, 0, 0, 0, 0, 0), (.getfield 43, 3, 3, 10, 197, 0, 0), (.iload_n 1, 1, 1, 0, 0, 0, 0), (.iload_n 2, 1, 2, 0, 0, 0, 0), (.bipush 30, 2, 0, 0, 0, nI 30, 0), (.iadd, 1, 0, 0, 0, 0, 0), (.iastore, 1, 0, 0, 0, 0, 0)]
theorem kX3_beFound_70 : rf_ck MX3_beFound 70 cX3_beFound_70 = true := by decide +kernel
theorem bX3_beFound_80 : rf_ckb MX3_beFound 80 (.goto 31) 31 111 = true := by decide +kernel
def cX3_beFound_83 : List rf_I := [(.aload_n 0, 1, 0, 0, 0, 0, 0), (.getfield 43, 3, 3, 10, 197, 0, 0), (.iload_n 1, 1, 1, 0, 0, 0, 0), (.aload_n 0, 1, 0, 0, 0, 0, 0), (.getfield 43, 3, 3, 10, 197, 0, 0), (.iload_n 1, 1, 1, 0, 0, 0, 0), (.iaload, 1, 0, 0, 0, 0, 0)]
theorem kX3_beFound_83 : rf_ck MX3_beFound 83 cX3_beFound_83 = true := by decide +kernel
theorem bX3_beFound_94 : rf_ckb MX3_beFound 94 (.ifCond .ne 9) 9 103 = true := by decide +kernel
def cX3_beFound_97 : List rf_I := [(.iload_n 2, 1, 2, 0, 0, 0, 0), (.iconst 1, 1, 0, 0, 0, nI 1, 0), (.iadd, 1, 0, 0, 0, 0, 0)]
theorem kX3_beFound_97 : rf_ck MX3_beFound 97 cX3_beFound_97 = true := by decide +kernel
theorem bX3_beFound_100 : rf_ckb MX3_beFound 100 (.goto 7) 7 107 = true := by decide +kernel
def cX3_beFound_103 : List rf_I := [(.iload_n 2, 1, 2, 0, 0, 0, 0), (.bipush 30, 2, 0, 0, 0, nI 30, 0), (.iadd, 1, 0, 0, 0, 0, 0)]
theorem kX3_beFound_103 : rf_ck MX3_beFound 103 cX3_beFound_103 = true := by decide +kernel
def cX3_beFound_107 : List rf_I := [(.iastore, 1, 0, 0, 0, 0, 0)]
theorem kX3_beFound_107 : rf_ck MX3_beFound 107 cX3_beFound_107 = true := by decide +kernel
theorem bX3_beFound_108 : rf_ckb MX3_beFound 108 (.goto 3) 3 111 = true := by decide +kernel
theorem eX3_beFound_111 : rf_cki MX3_beFound 111 .return_ = true := by decide +kernel
abbrev MX3_copyFrom : rf_M := (yX3_copyFrom, cX3_copyFrom, 2, none)
theorem mkX3_copyFrom : rf_mk MX3_copyFrom 0 1 1133 76 1131 1132 = true := by decide +kernel
def cX3_copyFrom_0 : List rf_I := [(.aload_n 0, 1, 0, 0, 0, 0, 0), (.aload_n 1, 1, 1, 0, 0, 0, 0), (.getfield 9, 3, 3, 0, 164, 0, 0), (.putfield 9, 3, 3, 0, 164, 0, 0), (.aload_n 0, 1, 0, 0, 0, 0, 0), (.aload_n 1, 1, 1, 0, 0, 0, 0), (.getfield 15, 3, 3, 1, 168, 0, 0), (.putfield 15, 3, 3, 1, 168, 0, 0), (.aload_n 0, 1, 0, 0, 0, 0, 0), (.aload_n 1, 1, 1, 0, 0, 0, 0), (.getfield 18, 3, 3, 2, 171, 0, 0), (.putfield 18, 3, 3, 2, 171, 0, 0), (.aload_n 1, 1, 1, 0, 0, 0, 0), (.getfield 21, 3, 3, 3, 175, 0, 0), (.aload_n 0, 1, 0, 0, 0, 0, 0), (.getfield 21, 3, 3, 3, 175, 0, 0)]
theorem kX3_copyFrom_0 : rf_ck MX3_copyFrom 0 cX3_copyFrom_0 = true := by decide +kernel
theorem qX3_copyFrom_32 : rf_kc MX3_copyFrom 32 62 1134 yX11_copyRow 1 = true := by decide +kernel
def cX3_copyFrom_35 : List rf_I := [(.aload_n 1, 1, 1, 0, 0, 0, 0), (.getfield 25, 3, 3, 4, 179, 0, 0), (.aload_n 0, 1, 0, 0, 0, 0, 0), (.getfield 25, 3, 3, 4, 179, 0, 0)]
theorem kX3_copyFrom_35 : rf_ck MX3_copyFrom 35 cX3_copyFrom_35 = true := by decide +kernel
theorem qX3_copyFrom_43 : rf_kc MX3_copyFrom 43 62 1134 yX11_copyRow 1 = true := by decide +kernel
def cX3_copyFrom_46 : List rf_I := [(.aload_n 1, 1, 1, 0, 0, 0, 0), (.getfield 28, 3, 3, 5, 183, 0, 0), (.aload_n 0, 1, 0, 0, 0, 0, 0), (.getfield 28, 3, 3, 5, 183, 0, 0)]
theorem kX3_copyFrom_46 : rf_ck MX3_copyFrom 46 cX3_copyFrom_46 = true := by decide +kernel
theorem qX3_copyFrom_54 : rf_kc MX3_copyFrom 54 62 1134 yX11_copyRow 1 = true := by decide +kernel
def cX3_copyFrom_57 : List rf_I := [(.aload_n 1, 1, 1, 0, 0, 0, 0), (.getfield 31, 3, 3, 6, 186, 0, 0), (.aload_n 0, 1, 0, 0, 0, 0, 0), (.getfield 31, 3, 3, 6, 186, 0, 0)]
theorem kX3_copyFrom_57 : rf_ck MX3_copyFrom 57 cX3_copyFrom_57 = true := by decide +kernel
theorem qX3_copyFrom_65 : rf_kc MX3_copyFrom 65 62 1134 yX11_copyRow 1 = true := by decide +kernel
def cX3_copyFrom_68 : List rf_I := [(.aload_n 1, 1, 1, 0, 0, 0, 0), (.getfield 34, 3, 3, 7, 188, 0, 0), (.aload_n 0, 1, 0, 0, 0, 0, 0), (.getfield 34, 3, 3, 7, 188, 0, 0)]
theorem kX3_copyFrom_68 : rf_ck MX3_copyFrom 68 cX3_copyFrom_68 = true := by decide +kernel
theorem qX3_copyFrom_76 : rf_kc MX3_copyFrom 76 62 1134 yX11_copyRow 1 = true := by decide +kernel
def cX3_copyFrom_79 : List rf_I := [(.aload_n 1, 1, 1, 0, 0, 0, 0), (.getfield 37, 3, 3, 8, 193, 0, 0), (.aload_n 0, 1, 0, 0, 0, 0, 0), (.getfield 37, 3, 3, 8, 193, 0, 0)]
theorem kX3_copyFrom_79 : rf_ck MX3_copyFrom 79 cX3_copyFrom_79 = true := by decide +kernel
theorem qX3_copyFrom_87 : rf_kc MX3_copyFrom 87 62 1134 yX11_copyRow 1 = true := by decide +kernel
def cX3_copyFrom_90 : List rf_I := [(.aload_n 1, 1, 1, 0, 0, 0, 0), (.getfield 40, 3, 3, 9, 195, 0, 0), (.aload_n 0, 1, 0, 0, 0, 0, 0), (.getfield 40, 3, 3, 9, 195, 0, 0)]
theorem kX3_copyFrom_90 : rf_ck MX3_copyFrom 90 cX3_copyFrom_90 = true := by decide +kernel
theorem qX3_copyFrom_98 : rf_kc MX3_copyFrom 98 62 1134 yX11_copyRow 1 = true := by decide +kernel
def cX3_copyFrom_101 : List rf_I := [(.aload_n 1, 1, 1, 0, 0, 0, 0), (.getfield 43, 3, 3, 10, 197, 0, 0), (.aload_n 0, 1, 0, 0, 0, 0, 0), (.getfield 43, 3, 3, 10, 197, 0, 0)]
theorem kX3_copyFrom_101 : rf_ck MX3_copyFrom 101 cX3_copyFrom_101 = true := by decide +kernel
theorem qX3_copyFrom_109 : rf_kc MX3_copyFrom 109 62 1134 yX11_copyRow 1 = true := by decide +kernel
theorem eX3_copyFrom_112 : rf_cki MX3_copyFrom 112 .return_ = true := by decide +kernel
abbrev MX4_init : rf_M := (yX4_init, cX4_init, 2, none)
theorem mkX4_init : rf_mk MX4_init 2 0 111 74 110 0 = true := by decide +kernel
def cX4_init_0 : List rf_I := [(.aload_n 0, 1, 0, 0, 0, 0, 0), (.invokespecial 3, 3, 0, 0, 112, 0, 0), (.aload_n 0, 1, 0, 0, 0, 0, 0), (.iconst 0, 1, 0, 0, 0, nI 0, 0), (.putfield 9, 3, 4, 0, 116, 0, 0), (.aload_n 0, 1, 0, 0, 0, 0, 0), (.iconst 0, 1, 0, 0, 0, nI 0, 0), (.putfield 15, 3, 4, 1, 118, 0, 0), (.aload_n 0, 1, 0, 0, 0, 0, 0), (.iconst 0, 1, 0, 0, 0, nI 0, 0), (.putfield 18, 3, 4, 2, 120, 0, 0), (.aload_n 0, 1, 0, 0, 0, 0, 0), (.bipush 64, 2, 0, 0, 0, nI 64, 0), (.newarray .int, 2, 0, 64, 0, 0, 0), (.putfield 21, 3, 4, 3, 123, 0, 0), (.aload_n 0, 1, 0, 0, 0, 0, 0), (.iconst 4, 1, 0, 0, 0, nI 4, 0), (.newarray .int, 2, 0, 4, 0, 0, 0), (.putfield 25, 3, 4, 4, 124, 0, 0), (.aload_n 0, 1, 0, 0, 0, 0, 0), (.bipush 24, 2, 0, 0, 0, nI 24, 0), (.newarray .int, 2, 0, 24, 0, 0, 0), (.putfield 28, 3, 4, 5, 126, 0, 0), (.aload_n 0, 1, 0, 0, 0, 0, 0), (.bipush 24, 2, 0, 0, 0, nI 24, 0), (.newarray .int, 2, 0, 24, 0, 0, 0), (.putfield 31, 3, 4, 6, 127, 0, 0), (.aload_n 0, 1, 0, 0, 0, 0, 0), (.bipush 12, 2, 0, 0, 0, nI 12, 0), (.newarray .int, 2, 0, 12, 0, 0, 0), (.putfield 34, 3, 4, 7, 128, 0, 0), (.aload_n 0, 1, 0, 0, 0, 0, 0), (.bipush 12, 2, 0, 0, 0, nI 12, 0), (.newarray .int, 2, 0, 12, 0, 0, 0), (.putfield 37, 3, 4, 8, 131, 0, 0), (.aload_n 0, 1, 0, 0, 0, 0, 0), (.bipush 12, 2, 0, 0, 0, nI 12, 0), (.newarray .int, 2, 0, 12, 0, 0, 0), (.putfield 40, 3, 4, 9, 134, 0, 0), (.aload_n 0, 1, 0, 0, 0, 0, 0), (.getfield 21, 3, 4, 3, 123, 0, 0), (.iconst (-1), 1, 0, 0, 0, (-1), 0)]
theorem kX4_init_0 : rf_ck MX4_init 0 cX4_init_0 = true := by decide +kernel
theorem qX4_init_79 : rf_kc MX4_init 79 43 113 yJ7_fill_53178 1 = true := by decide +kernel
def cX4_init_82 : List rf_I := [(.iconst 0, 1, 0, 0, 0, nI 0, 0), (.istore_n 1, 1, 1, 0, 0, 0, 0)]
theorem kX4_init_82 : rf_ck MX4_init 82 cX4_init_82 = true := by decide +kernel
def cX4_init_84 : List rf_I := [(.iload_n 1, 1, 1, 0, 0, 0, 0), (.bipush 8, 2, 0, 0, 0, nI 8, 0)]
theorem kX4_init_84 : rf_ck MX4_init 84 cX4_init_84 = true := by decide +kernel
theorem bX4_init_87 : rf_ckb MX4_init 87 (.if_icmp .ge 21) 21 108 = true := by decide +kernel
def cX4_init_90 : List rf_I := [(.aload_n 0, 1, 0, 0, 0, 0, 0), (.getfield 21, 3, 4, 3, 123, 0, 0), (.iload_n 1, 1, 1, 0, 0, 0, 0), (.bipush 8, 2, 0, 0, 0, nI 8, 0), (.imul, 1, 0, 0, 0, 0, 0), (.iload_n 1, 1, 1, 0, 0, 0, 0), (.iadd, 1, 0, 0, 0, 0, 0), (.iconst 0, 1, 0, 0, 0, nI 0, 0), (.iastore, 1, 0, 0, 0, 0, 0), (.iinc 1 1, 3, 1, 0, 0, nI 1, 0)]
theorem kX4_init_90 : rf_ck MX4_init 90 cX4_init_90 = true := by decide +kernel
theorem bX4_init_105 : rf_ckb MX4_init 105 (.goto (-21)) (-21) 84 = true := by decide +kernel
theorem eX4_init_108 : rf_cki MX4_init 108 .return_ = true := by decide +kernel
abbrev MX4_addStation : rf_M := (yX4_addStation, cX4_addStation, 1, (some (.int)))
theorem mkX4_addStation : rf_mk MX4_addStation 0 0 502 74 500 501 = true := by decide +kernel
def cX4_addStation_0 : List rf_I := [(.aload_n 0, 1, 0, 0, 0, 0, 0), (.dup, 1, 0, 0, 0, 0, 0), (.getfield 9, 3, 4, 0, 116, 0, 0), (.iconst 1, 1, 0, 0, 0, nI 1, 0), (.iadd, 1, 0, 0, 0, 0, 0), (.putfield 9, 3, 4, 0, 116, 0, 0), (.aload_n 0, 1, 0, 0, 0, 0, 0), (.getfield 9, 3, 4, 0, 116, 0, 0), (.iconst 1, 1, 0, 0, 0, nI 1, 0), (.isub, 1, 0, 0, 0, 0, 0)]
theorem kX4_addStation_0 : rf_ck MX4_addStation 0 cX4_addStation_0 = true := by decide +kernel
theorem eX4_addStation_16 : rf_cki MX4_addStation 16 .ireturn = true := by decide +kernel
abbrev MX4_walkFrom : rf_M := (yX4_walkFrom, cX4_walkFrom, 3, (some (.int)))
theorem mkX4_walkFrom : rf_mk MX4_walkFrom 0 2 519 74 517 518 = true := by decide +kernel
def cX4_walkFrom_0 : List rf_I := [(.aload_n 0, 1, 0, 0, 0, 0, 0), (.getfield 21, 3, 4, 3, 123, 0, 0), (.iload_n 1, 1, 1, 0, 0, 0, 0), (.bipush 8, 2, 0, 0, 0, nI 8, 0), (.imul, 1, 0, 0, 0, 0, 0), (.iload_n 2, 1, 2, 0, 0, 0, 0), (.iadd, 1, 0, 0, 0, 0, 0), (.iaload, 1, 0, 0, 0, 0, 0)]
theorem kX4_walkFrom_0 : rf_ck MX4_walkFrom 0 cX4_walkFrom_0 = true := by decide +kernel
theorem eX4_walkFrom_11 : rf_cki MX4_walkFrom 11 .ireturn = true := by decide +kernel
abbrev MX4_setWalk : rf_M := (yX4_setWalk, cX4_setWalk, 5, (some (.int)))
theorem mkX4_setWalk : rf_mk MX4_setWalk 0 3 515 74 513 514 = true := by decide +kernel
def cX4_setWalk_0 : List rf_I := [(.aload_n 0, 1, 0, 0, 0, 0, 0), (.iload_n 1, 1, 1, 0, 0, 0, 0), (.iload_n 2, 1, 2, 0, 0, 0, 0)]
theorem kX4_setWalk_0 : rf_ck MX4_setWalk 0 cX4_setWalk_0 = true := by decide +kernel
theorem qX4_setWalk_3 : rf_kc MX4_setWalk 3 49 516 yX4_walkFrom 0 = true := by decide +kernel
def cX4_setWalk_6 : List rf_I := [(.istore 4, 2, 4, 0, 0, 0, 0), (.aload_n 0, 1, 0, 0, 0, 0, 0), (.getfield 21, 3, 4, 3, 123, 0, 0), (.iload_n 1, 1, 1, 0, 0, 0, 0), (.bipush 8, 2, 0, 0, 0, nI 8, 0), (.imul, 1, 0, 0, 0, 0, 0), (.iload_n 2, 1, 2, 0, 0, 0, 0), (.iadd, 1, 0, 0, 0, 0, 0), (.iload_n 3, 1, 3, 0, 0, 0, 0), (.iastore, 1, 0, 0, 0, 0, 0), (.aload_n 0, 1, 0, 0, 0, 0, 0), (.getfield 21, 3, 4, 3, 123, 0, 0), (.iload_n 2, 1, 2, 0, 0, 0, 0), (.bipush 8, 2, 0, 0, 0, nI 8, 0), (.imul, 1, 0, 0, 0, 0, 0), (.iload_n 1, 1, 1, 0, 0, 0, 0), (.iadd, 1, 0, 0, 0, 0, 0), (.iload_n 3, 1, 3, 0, 0, 0, 0), (.iastore, 1, 0, 0, 0, 0, 0), (.iload 4, 2, 4, 0, 0, 0, 0)]
theorem kX4_setWalk_6 : rf_ck MX4_setWalk 6 cX4_setWalk_6 = true := by decide +kernel
theorem eX4_setWalk_34 : rf_cki MX4_setWalk 34 .ireturn = true := by decide +kernel
abbrev MX4_addLine : rf_M := (yX4_addLine, cX4_addLine, 5, (some (.int)))
theorem mkX4_addLine : rf_mk MX4_addLine 0 3 527 74 525 526 = true := by decide +kernel
def cX4_addLine_0 : List rf_I := [(.aload_n 0, 1, 0, 0, 0, 0, 0), (.getfield 15, 3, 4, 1, 118, 0, 0), (.istore 4, 2, 4, 0, 0, 0, 0), (.aload_n 0, 1, 0, 0, 0, 0, 0), (.dup, 1, 0, 0, 0, 0, 0), (.getfield 15, 3, 4, 1, 118, 0, 0), (.iconst 1, 1, 0, 0, 0, nI 1, 0), (.iadd, 1, 0, 0, 0, 0, 0), (.putfield 15, 3, 4, 1, 118, 0, 0), (.aload_n 0, 1, 0, 0, 0, 0, 0), (.getfield 28, 3, 4, 5, 126, 0, 0), (.iload 4, 2, 4, 0, 0, 0, 0), (.bipush 6, 2, 0, 0, 0, nI 6, 0), (.imul, 1, 0, 0, 0, 0, 0), (.iload_n 1, 1, 1, 0, 0, 0, 0), (.iastore, 1, 0, 0, 0, 0, 0), (.aload_n 0, 1, 0, 0, 0, 0, 0), (.getfield 25, 3, 4, 4, 124, 0, 0), (.iload 4, 2, 4, 0, 0, 0, 0), (.iconst 1, 1, 0, 0, 0, nI 1, 0), (.iastore, 1, 0, 0, 0, 0, 0), (.aload_n 0, 1, 0, 0, 0, 0, 0), (.iload 4, 2, 4, 0, 0, 0, 0), (.iload_n 2, 1, 2, 0, 0, 0, 0), (.iload_n 3, 1, 3, 0, 0, 0, 0)]
theorem kX4_addLine_0 : rf_ck MX4_addLine 0 cX4_addLine_0 = true := by decide +kernel
theorem qX4_addLine_40 : rf_kc MX4_addLine 40 53 528 yX4_lengthen 0 = true := by decide +kernel
def cX4_addLine_43 : List rf_I := [(.pop, 1, 0, 0, 0, 0, 0), (.iload 4, 2, 4, 0, 0, 0, 0)]
theorem kX4_addLine_43 : rf_ck MX4_addLine 43 cX4_addLine_43 = true := by decide +kernel
theorem eX4_addLine_46 : rf_cki MX4_addLine 46 .ireturn = true := by decide +kernel
abbrev MX4_lengthen : rf_M := (yX4_lengthen, cX4_lengthen, 5, (some (.int)))
theorem mkX4_lengthen : rf_mk MX4_lengthen 0 3 531 74 529 530 = true := by decide +kernel
def cX4_lengthen_0 : List rf_I := [(.iload_n 1, 1, 1, 0, 0, 0, 0), (.bipush 6, 2, 0, 0, 0, nI 6, 0), (.imul, 1, 0, 0, 0, 0, 0), (.aload_n 0, 1, 0, 0, 0, 0, 0), (.getfield 25, 3, 4, 4, 124, 0, 0), (.iload_n 1, 1, 1, 0, 0, 0, 0), (.iaload, 1, 0, 0, 0, 0, 0), (.iadd, 1, 0, 0, 0, 0, 0), (.istore 4, 2, 4, 0, 0, 0, 0), (.aload_n 0, 1, 0, 0, 0, 0, 0), (.getfield 28, 3, 4, 5, 126, 0, 0), (.iload 4, 2, 4, 0, 0, 0, 0), (.iload_n 2, 1, 2, 0, 0, 0, 0), (.iastore, 1, 0, 0, 0, 0, 0), (.aload_n 0, 1, 0, 0, 0, 0, 0), (.getfield 31, 3, 4, 6, 127, 0, 0), (.iload 4, 2, 4, 0, 0, 0, 0), (.iload_n 3, 1, 3, 0, 0, 0, 0), (.iastore, 1, 0, 0, 0, 0, 0), (.aload_n 0, 1, 0, 0, 0, 0, 0), (.getfield 25, 3, 4, 4, 124, 0, 0), (.iload_n 1, 1, 1, 0, 0, 0, 0), (.dup2, 1, 0, 0, 0, 0, 0), (.iaload, 1, 0, 0, 0, 0, 0), (.iconst 1, 1, 0, 0, 0, nI 1, 0), (.iadd, 1, 0, 0, 0, 0, 0), (.iastore, 1, 0, 0, 0, 0, 0), (.aload_n 0, 1, 0, 0, 0, 0, 0), (.getfield 25, 3, 4, 4, 124, 0, 0), (.iload_n 1, 1, 1, 0, 0, 0, 0), (.iaload, 1, 0, 0, 0, 0, 0)]
theorem kX4_lengthen_0 : rf_ck MX4_lengthen 0 cX4_lengthen_0 = true := by decide +kernel
theorem eX4_lengthen_45 : rf_cki MX4_lengthen 45 .ireturn = true := by decide +kernel
abbrev MX4_ofRow : rf_M := (yX4_ofRow, cX4_ofRow, 3, (some (.int)))
theorem mkX4_ofRow : rf_mk MX4_ofRow 0 2 543 74 541 542 = true := by decide +kernel
def cX4_ofRow_0 : List rf_I := [(.aload_n 0, 1, 0, 0, 0, 0, 0), (.getfield 28, 3, 4, 5, 126, 0, 0), (.iload_n 1, 1, 1, 0, 0, 0, 0), (.bipush 6, 2, 0, 0, 0, nI 6, 0), (.imul, 1, 0, 0, 0, 0, 0), (.iload_n 2, 1, 2, 0, 0, 0, 0), (.iadd, 1, 0, 0, 0, 0, 0), (.iaload, 1, 0, 0, 0, 0, 0)]
theorem kX4_ofRow_0 : rf_ck MX4_ofRow 0 cX4_ofRow_0 = true := by decide +kernel
theorem eX4_ofRow_11 : rf_cki MX4_ofRow 11 .ireturn = true := by decide +kernel
abbrev MX4_addTrain : rf_M := (yX4_addTrain, cX4_addTrain, 5, (some (.int)))
theorem mkX4_addTrain : rf_mk MX4_addTrain 0 3 557 74 555 556 = true := by decide +kernel
def cX4_addTrain_0 : List rf_I := [(.aload_n 0, 1, 0, 0, 0, 0, 0), (.getfield 18, 3, 4, 2, 120, 0, 0), (.istore 4, 2, 4, 0, 0, 0, 0), (.aload_n 0, 1, 0, 0, 0, 0, 0), (.dup, 1, 0, 0, 0, 0, 0), (.getfield 18, 3, 4, 2, 120, 0, 0), (.iconst 1, 1, 0, 0, 0, nI 1, 0), (.iadd, 1, 0, 0, 0, 0, 0), (.putfield 18, 3, 4, 2, 120, 0, 0), (.aload_n 0, 1, 0, 0, 0, 0, 0), (.getfield 34, 3, 4, 7, 128, 0, 0), (.iload 4, 2, 4, 0, 0, 0, 0), (.iload_n 1, 1, 1, 0, 0, 0, 0), (.iastore, 1, 0, 0, 0, 0, 0), (.aload_n 0, 1, 0, 0, 0, 0, 0), (.getfield 37, 3, 4, 8, 131, 0, 0), (.iload 4, 2, 4, 0, 0, 0, 0), (.iload_n 2, 1, 2, 0, 0, 0, 0), (.iastore, 1, 0, 0, 0, 0, 0), (.aload_n 0, 1, 0, 0, 0, 0, 0), (.getfield 40, 3, 4, 9, 134, 0, 0), (.iload 4, 2, 4, 0, 0, 0, 0), (.iload_n 3, 1, 3, 0, 0, 0, 0), (.iastore, 1, 0, 0, 0, 0, 0), (.iload 4, 2, 4, 0, 0, 0, 0)]
theorem kX4_addTrain_0 : rf_ck MX4_addTrain 0 cX4_addTrain_0 = true := by decide +kernel
theorem eX4_addTrain_42 : rf_cki MX4_addTrain 42 .ireturn = true := by decide +kernel
abbrev MX4_stopsOf : rf_M := (yX4_stopsOf, cX4_stopsOf, 2, (some (.int)))
theorem mkX4_stopsOf : rf_mk MX4_stopsOf 0 1 573 74 571 572 = true := by decide +kernel
def cX4_stopsOf_0 : List rf_I := [(.aload_n 0, 1, 0, 0, 0, 0, 0), (.getfield 25, 3, 4, 4, 124, 0, 0), (.aload_n 0, 1, 0, 0, 0, 0, 0), (.getfield 34, 3, 4, 7, 128, 0, 0), (.iload_n 1, 1, 1, 0, 0, 0, 0), (.iaload, 1, 0, 0, 0, 0, 0), (.iaload, 1, 0, 0, 0, 0, 0)]
theorem kX4_stopsOf_0 : rf_ck MX4_stopsOf 0 cX4_stopsOf_0 = true := by decide +kernel
theorem eX4_stopsOf_11 : rf_cki MX4_stopsOf 11 .ireturn = true := by decide +kernel
abbrev MX4_stationAt : rf_M := (yX4_stationAt, cX4_stationAt, 4, (some (.int)))
theorem mkX4_stationAt : rf_mk MX4_stationAt 0 2 581 74 579 580 = true := by decide +kernel
def cX4_stationAt_0 : List rf_I := [(.aload_n 0, 1, 0, 0, 0, 0, 0), (.getfield 34, 3, 4, 7, 128, 0, 0), (.iload_n 1, 1, 1, 0, 0, 0, 0), (.iaload, 1, 0, 0, 0, 0, 0), (.istore_n 3, 1, 3, 0, 0, 0, 0), (.aload_n 0, 1, 0, 0, 0, 0, 0), (.iload_n 3, 1, 3, 0, 0, 0, 0), (.aload_n 0, 1, 0, 0, 0, 0, 0), (.getfield 40, 3, 4, 9, 134, 0, 0), (.iload_n 1, 1, 1, 0, 0, 0, 0), (.iaload, 1, 0, 0, 0, 0, 0), (.iconst 1, 1, 0, 0, 0, nI 1, 0)]
theorem kX4_stationAt_0 : rf_ck MX4_stationAt 0 cX4_stationAt_0 = true := by decide +kernel
theorem bX4_stationAt_16 : rf_ckb MX4_stationAt 16 (.if_icmp .ne 16) 16 32 = true := by decide +kernel
def cX4_stationAt_19 : List rf_I := [(.aload_n 0, 1, 0, 0, 0, 0, 0), (.getfield 25, 3, 4, 4, 124, 0, 0), (.iload_n 3, 1, 3, 0, 0, 0, 0), (.iaload, 1, 0, 0, 0, 0, 0), (.iconst 1, 1, 0, 0, 0, nI 1, 0), (.isub, 1, 0, 0, 0, 0, 0), (.iload_n 2, 1, 2, 0, 0, 0, 0), (.isub, 1, 0, 0, 0, 0, 0)]
theorem kX4_stationAt_19 : rf_ck MX4_stationAt 19 cX4_stationAt_19 = true := by decide +kernel
theorem bX4_stationAt_29 : rf_ckb MX4_stationAt 29 (.goto 4) 4 33 = true := by decide +kernel
def cX4_stationAt_32 : List rf_I := [(.iload_n 2, 1, 2, 0, 0, 0, 0)]
theorem kX4_stationAt_32 : rf_ck MX4_stationAt 32 cX4_stationAt_32 = true := by decide +kernel
theorem qX4_stationAt_33 : rf_kc MX4_stationAt 33 57 582 yX4_ofRow 0 = true := by decide +kernel
theorem eX4_stationAt_36 : rf_cki MX4_stationAt 36 .ireturn = true := by decide +kernel
abbrev MX4_lastStation : rf_M := (yX4_lastStation, cX4_lastStation, 2, (some (.int)))
theorem mkX4_lastStation : rf_mk MX4_lastStation 0 1 586 74 584 585 = true := by decide +kernel
def cX4_lastStation_0 : List rf_I := [(.aload_n 0, 1, 0, 0, 0, 0, 0), (.iload_n 1, 1, 1, 0, 0, 0, 0), (.aload_n 0, 1, 0, 0, 0, 0, 0), (.iload_n 1, 1, 1, 0, 0, 0, 0)]
theorem kX4_lastStation_0 : rf_ck MX4_lastStation 0 cX4_lastStation_0 = true := by decide +kernel
theorem qX4_lastStation_4 : rf_kc MX4_lastStation 4 60 570 yX4_stopsOf 0 = true := by decide +kernel
def cX4_lastStation_7 : List rf_I := [(.iconst 1, 1, 0, 0, 0, nI 1, 0), (.isub, 1, 0, 0, 0, 0, 0)]
theorem kX4_lastStation_7 : rf_ck MX4_lastStation 7 cX4_lastStation_7 = true := by decide +kernel
theorem qX4_lastStation_9 : rf_kc MX4_lastStation 9 64 587 yX4_stationAt 0 = true := by decide +kernel
theorem eX4_lastStation_12 : rf_cki MX4_lastStation 12 .ireturn = true := by decide +kernel
abbrev MX4_minuteAt : rf_M := (yX4_minuteAt, cX4_minuteAt, 7, (some (.int)))
theorem mkX4_minuteAt : rf_mk MX4_minuteAt 0 2 577 74 575 576 = true := by decide +kernel
def cX4_minuteAt_0 : List rf_I := [(.aload_n 0, 1, 0, 0, 0, 0, 0), (.getfield 34, 3, 4, 7, 128, 0, 0), (.iload_n 1, 1, 1, 0, 0, 0, 0), (.iaload, 1, 0, 0, 0, 0, 0), (.bipush 6, 2, 0, 0, 0, nI 6, 0), (.imul, 1, 0, 0, 0, 0, 0), (.istore_n 3, 1, 3, 0, 0, 0, 0), (.aload_n 0, 1, 0, 0, 0, 0, 0), (.iload_n 1, 1, 1, 0, 0, 0, 0)]
theorem kX4_minuteAt_0 : rf_ck MX4_minuteAt 0 cX4_minuteAt_0 = true := by decide +kernel
theorem qX4_minuteAt_12 : rf_kc MX4_minuteAt 12 60 570 yX4_stopsOf 0 = true := by decide +kernel
def cX4_minuteAt_15 : List rf_I := [(.istore 4, 2, 4, 0, 0, 0, 0), (.aload_n 0, 1, 0, 0, 0, 0, 0), (.getfield 37, 3, 4, 8, 131, 0, 0), (.iload_n 1, 1, 1, 0, 0, 0, 0), (.iaload, 1, 0, 0, 0, 0, 0), (.istore 5, 2, 5, 0, 0, 0, 0), (.iconst 1, 1, 0, 0, 0, nI 1, 0), (.istore 6, 2, 6, 0, 0, 0, 0)]
theorem kX4_minuteAt_15 : rf_ck MX4_minuteAt 15 cX4_minuteAt_15 = true := by decide +kernel
def cX4_minuteAt_28 : List rf_I := [(.iload 6, 2, 6, 0, 0, 0, 0), (.iload_n 2, 1, 2, 0, 0, 0, 0)]
theorem kX4_minuteAt_28 : rf_ck MX4_minuteAt 28 cX4_minuteAt_28 = true := by decide +kernel
theorem bX4_minuteAt_31 : rf_ckb MX4_minuteAt 31 (.if_icmp .gt 41) 41 72 = true := by decide +kernel
def cX4_minuteAt_34 : List rf_I := [(.iload 5, 2, 5, 0, 0, 0, 0), (.aload_n 0, 1, 0, 0, 0, 0, 0), (.getfield 31, 3, 4, 6, 127, 0, 0), (.iload_n 3, 1, 3, 0, 0, 0, 0), (.aload_n 0, 1, 0, 0, 0, 0, 0), (.getfield 40, 3, 4, 9, 134, 0, 0), (.iload_n 1, 1, 1, 0, 0, 0, 0), (.iaload, 1, 0, 0, 0, 0, 0), (.iconst 1, 1, 0, 0, 0, nI 1, 0)]
theorem kX4_minuteAt_34 : rf_ck MX4_minuteAt 34 cX4_minuteAt_34 = true := by decide +kernel
theorem bX4_minuteAt_48 : rf_ckb MX4_minuteAt 48 (.if_icmp .ne 11) 11 59 = true := by decide +kernel
def cX4_minuteAt_51 : List rf_I := [(.iload 4, 2, 4, 0, 0, 0, 0), (.iload 6, 2, 6, 0, 0, 0, 0), (.isub, 1, 0, 0, 0, 0, 0)]
theorem kX4_minuteAt_51 : rf_ck MX4_minuteAt 51 cX4_minuteAt_51 = true := by decide +kernel
theorem bX4_minuteAt_56 : rf_ckb MX4_minuteAt 56 (.goto 5) 5 61 = true := by decide +kernel
def cX4_minuteAt_59 : List rf_I := [(.iload 6, 2, 6, 0, 0, 0, 0)]
theorem kX4_minuteAt_59 : rf_ck MX4_minuteAt 59 cX4_minuteAt_59 = true := by decide +kernel
def cX4_minuteAt_61 : List rf_I := [(.iadd, 1, 0, 0, 0, 0, 0), (.iaload, 1, 0, 0, 0, 0, 0), (.iadd, 1, 0, 0, 0, 0, 0), (.istore 5, 2, 5, 0, 0, 0, 0), (.iinc 6 1, 3, 6, 0, 0, nI 1, 0)]
theorem kX4_minuteAt_61 : rf_ck MX4_minuteAt 61 cX4_minuteAt_61 = true := by decide +kernel
theorem bX4_minuteAt_69 : rf_ckb MX4_minuteAt 69 (.goto (-41)) (-41) 28 = true := by decide +kernel
def cX4_minuteAt_72 : List rf_I := [(.iload 5, 2, 5, 0, 0, 0, 0)]
theorem kX4_minuteAt_72 : rf_ck MX4_minuteAt 72 cX4_minuteAt_72 = true := by decide +kernel
theorem eX4_minuteAt_74 : rf_cki MX4_minuteAt 74 .ireturn = true := by decide +kernel
abbrev MX4_endOf : rf_M := (yX4_endOf, cX4_endOf, 2, (some (.int)))
theorem mkX4_endOf : rf_mk MX4_endOf 0 1 569 74 567 568 = true := by decide +kernel
def cX4_endOf_0 : List rf_I := [(.aload_n 0, 1, 0, 0, 0, 0, 0), (.iload_n 1, 1, 1, 0, 0, 0, 0), (.aload_n 0, 1, 0, 0, 0, 0, 0), (.iload_n 1, 1, 1, 0, 0, 0, 0)]
theorem kX4_endOf_0 : rf_ck MX4_endOf 0 cX4_endOf_0 = true := by decide +kernel
theorem qX4_endOf_4 : rf_kc MX4_endOf 4 60 570 yX4_stopsOf 0 = true := by decide +kernel
def cX4_endOf_7 : List rf_I := [(.iconst 1, 1, 0, 0, 0, nI 1, 0), (.isub, 1, 0, 0, 0, 0, 0)]
theorem kX4_endOf_7 : rf_ck MX4_endOf 7 cX4_endOf_7 = true := by decide +kernel
theorem qX4_endOf_9 : rf_kc MX4_endOf 9 67 574 yX4_minuteAt 0 = true := by decide +kernel
theorem eX4_endOf_12 : rf_cki MX4_endOf 12 .ireturn = true := by decide +kernel
abbrev MX4_trainsBehind : rf_M := (yX4_trainsBehind, cX4_trainsBehind, 7, (some (.int)))
theorem mkX4_trainsBehind : rf_mk MX4_trainsBehind 0 3 1008 74 1006 1007 = true := by decide +kernel
def cX4_trainsBehind_0 : List rf_I := [(.iconst 0, 1, 0, 0, 0, nI 0, 0), (.istore 4, 2, 4, 0, 0, 0, 0), (.iconst 0, 1, 0, 0, 0, nI 0, 0), (.istore 5, 2, 5, 0, 0, 0, 0)]
theorem kX4_trainsBehind_0 : rf_ck MX4_trainsBehind 0 cX4_trainsBehind_0 = true := by decide +kernel
def cX4_trainsBehind_6 : List rf_I := [(.iload 5, 2, 5, 0, 0, 0, 0), (.aload_n 0, 1, 0, 0, 0, 0, 0), (.getfield 18, 3, 4, 2, 120, 0, 0)]
theorem kX4_trainsBehind_6 : rf_ck MX4_trainsBehind 6 cX4_trainsBehind_6 = true := by decide +kernel
theorem bX4_trainsBehind_12 : rf_ckb MX4_trainsBehind 12 (.if_icmp .ge 66) 66 78 = true := by decide +kernel
def cX4_trainsBehind_15 : List rf_I := [(.aload_n 0, 1, 0, 0, 0, 0, 0), (.getfield 37, 3, 4, 8, 131, 0, 0), (.iload 5, 2, 5, 0, 0, 0, 0), (.iaload, 1, 0, 0, 0, 0, 0), (.aload_n 0, 1, 0, 0, 0, 0, 0), (.getfield 37, 3, 4, 8, 131, 0, 0), (.iload_n 1, 1, 1, 0, 0, 0, 0), (.iaload, 1, 0, 0, 0, 0, 0), (.isub, 1, 0, 0, 0, 0, 0), (.istore 6, 2, 6, 0, 0, 0, 0), (.iload 5, 2, 5, 0, 0, 0, 0), (.iload_n 1, 1, 1, 0, 0, 0, 0)]
theorem kX4_trainsBehind_15 : rf_ck MX4_trainsBehind 15 cX4_trainsBehind_15 = true := by decide +kernel
theorem bX4_trainsBehind_34 : rf_ckb MX4_trainsBehind 34 (.if_icmp .eq 38) 38 72 = true := by decide +kernel
def cX4_trainsBehind_37 : List rf_I := [(.aload_n 0, 1, 0, 0, 0, 0, 0), (.getfield 34, 3, 4, 7, 128, 0, 0), (.iload 5, 2, 5, 0, 0, 0, 0), (.iaload, 1, 0, 0, 0, 0, 0), (.aload_n 0, 1, 0, 0, 0, 0, 0), (.getfield 34, 3, 4, 7, 128, 0, 0), (.iload_n 1, 1, 1, 0, 0, 0, 0), (.iaload, 1, 0, 0, 0, 0, 0)]
theorem kX4_trainsBehind_37 : rf_ck MX4_trainsBehind 37 cX4_trainsBehind_37 = true := by decide +kernel
theorem bX4_trainsBehind_50 : rf_ckb MX4_trainsBehind 50 (.if_icmp .ne 22) 22 72 = true := by decide +kernel
def cX4_trainsBehind_53 : List rf_I := [(.iload 6, 2, 6, 0, 0, 0, 0), (.iload_n 2, 1, 2, 0, 0, 0, 0), (.iload_n 3, 1, 3, 0, 0, 0, 0)]
theorem kX4_trainsBehind_53 : rf_ck MX4_trainsBehind 53 cX4_trainsBehind_53 = true := by decide +kernel
theorem qX4_trainsBehind_57 : rf_kc MX4_trainsBehind 57 70 1009 yX11_within 1 = true := by decide +kernel
theorem bX4_trainsBehind_60 : rf_ckb MX4_trainsBehind 60 (.ifCond .eq 12) 12 72 = true := by decide +kernel
def cX4_trainsBehind_63 : List rf_I := [(.iload 4, 2, 4, 0, 0, 0, 0), (.iconst 1, 1, 0, 0, 0, nI 1, 0), (.iload 5, 2, 5, 0, 0, 0, 0), (.ishl, 1, 0, 0, 0, 0, 0), (.ior, 1, 0, 0, 0, 0, 0), (.istore 4, 2, 4, 0, 0, 0, 0)]
theorem kX4_trainsBehind_63 : rf_ck MX4_trainsBehind 63 cX4_trainsBehind_63 = true := by decide +kernel
def cX4_trainsBehind_72 : List rf_I := [(.iinc 5 1, 3, 5, 0, 0, nI 1, 0)]
theorem kX4_trainsBehind_72 : rf_ck MX4_trainsBehind 72 cX4_trainsBehind_72 = true := by decide +kernel
theorem bX4_trainsBehind_75 : rf_ckb MX4_trainsBehind 75 (.goto (-69)) (-69) 6 = true := by decide +kernel
def cX4_trainsBehind_78 : List rf_I := [(.iload 4, 2, 4, 0, 0, 0, 0)]
theorem kX4_trainsBehind_78 : rf_ck MX4_trainsBehind 78 cX4_trainsBehind_78 = true := by decide +kernel
theorem eX4_trainsBehind_80 : rf_cki MX4_trainsBehind 80 .ireturn = true := by decide +kernel
abbrev MX4_sortByStart : rf_M := (yX4_sortByStart, cX4_sortByStart, 6, (some (.int)))
theorem mkX4_sortByStart : rf_mk MX4_sortByStart 0 2 862 74 860 861 = true := by decide +kernel
def cX4_sortByStart_0 : List rf_I := [(.iconst 0, 1, 0, 0, 0, nI 0, 0), (.istore_n 3, 1, 3, 0, 0, 0, 0), (.iconst 0, 1, 0, 0, 0, nI 0, 0), (.istore 4, 2, 4, 0, 0, 0, 0)]
theorem kX4_sortByStart_0 : rf_ck MX4_sortByStart 0 cX4_sortByStart_0 = true := by decide +kernel
def cX4_sortByStart_5 : List rf_I := [(.iload 4, 2, 4, 0, 0, 0, 0), (.aload_n 0, 1, 0, 0, 0, 0, 0), (.getfield 18, 3, 4, 2, 120, 0, 0)]
theorem kX4_sortByStart_5 : rf_ck MX4_sortByStart 5 cX4_sortByStart_5 = true := by decide +kernel
theorem bX4_sortByStart_11 : rf_ckb MX4_sortByStart 11 (.if_icmp .ge 72) 72 83 = true := by decide +kernel
def cX4_sortByStart_14 : List rf_I := [(.iload_n 1, 1, 1, 0, 0, 0, 0), (.iload 4, 2, 4, 0, 0, 0, 0)]
theorem kX4_sortByStart_14 : rf_ck MX4_sortByStart 14 cX4_sortByStart_14 = true := by decide +kernel
theorem qX4_sortByStart_17 : rf_kc MX4_sortByStart 17 74 863 yX11_has 1 = true := by decide +kernel
theorem bX4_sortByStart_20 : rf_ckb MX4_sortByStart 20 (.ifCond .eq 57) 57 77 = true := by decide +kernel
def cX4_sortByStart_23 : List rf_I := [(.iload_n 3, 1, 3, 0, 0, 0, 0), (.istore 5, 2, 5, 0, 0, 0, 0)]
theorem kX4_sortByStart_23 : rf_ck MX4_sortByStart 23 cX4_sortByStart_23 = true := by decide +kernel
def cX4_sortByStart_26 : List rf_I := [(.iload 5, 2, 5, 0, 0, 0, 0)]
theorem kX4_sortByStart_26 : rf_ck MX4_sortByStart 26 cX4_sortByStart_26 = true := by decide +kernel
theorem bX4_sortByStart_28 : rf_ckb MX4_sortByStart 28 (.ifCond .le 40) 40 68 = true := by decide +kernel
def cX4_sortByStart_31 : List rf_I := [(.aload_n 0, 1, 0, 0, 0, 0, 0), (.getfield 37, 3, 4, 8, 131, 0, 0), (.aload_n 2, 1, 2, 0, 0, 0, 0), (.iload 5, 2, 5, 0, 0, 0, 0), (.iconst 1, 1, 0, 0, 0, nI 1, 0), (.isub, 1, 0, 0, 0, 0, 0), (.iaload, 1, 0, 0, 0, 0, 0), (.iaload, 1, 0, 0, 0, 0, 0), (.aload_n 0, 1, 0, 0, 0, 0, 0), (.getfield 37, 3, 4, 8, 131, 0, 0), (.iload 4, 2, 4, 0, 0, 0, 0), (.iaload, 1, 0, 0, 0, 0, 0)]
theorem kX4_sortByStart_31 : rf_ck MX4_sortByStart 31 cX4_sortByStart_31 = true := by decide +kernel
theorem bX4_sortByStart_49 : rf_ckb MX4_sortByStart 49 (.if_icmp .le 19) 19 68 = true := by decide +kernel
def cX4_sortByStart_52 : List rf_I := [(.aload_n 2, 1, 2, 0, 0, 0, 0), (.iload 5, 2, 5, 0, 0, 0, 0), (.aload_n 2, 1, 2, 0, 0, 0, 0), (.iload 5, 2, 5, 0, 0, 0, 0), (.iconst 1, 1, 0, 0, 0, nI 1, 0), (.isub, 1, 0, 0, 0, 0, 0), (.iaload, 1, 0, 0, 0, 0, 0), (.iastore, 1, 0, 0, 0, 0, 0), (.iinc 5 (-1), 3, 5, 0, 0, (-1), 0)]
theorem kX4_sortByStart_52 : rf_ck MX4_sortByStart 52 cX4_sortByStart_52 = true := by decide +kernel
theorem bX4_sortByStart_65 : rf_ckb MX4_sortByStart 65 (.goto (-39)) (-39) 26 = true := by decide +kernel
def cX4_sortByStart_68 : List rf_I := [(.aload_n 2, 1, 2, 0, 0, 0, 0), (.iload 5, 2, 5, 0, 0, 0, 0), (.iload 4, 2, 4, 0, 0, 0, 0), (.iastore, 1, 0, 0, 0, 0, 0), (.iinc 3 1, 3, 3, 0, 0, nI 1, 0)]
theorem kX4_sortByStart_68 : rf_ck MX4_sortByStart 68 cX4_sortByStart_68 = true := by decide +kernel
def cX4_sortByStart_77 : List rf_I := [(.iinc 4 1, 3, 4, 0, 0, nI 1, 0)]
theorem kX4_sortByStart_77 : rf_ck MX4_sortByStart 77 cX4_sortByStart_77 = true := by decide +kernel
theorem bX4_sortByStart_80 : rf_ckb MX4_sortByStart 80 (.goto (-75)) (-75) 5 = true := by decide +kernel
def cX4_sortByStart_83 : List rf_I := [(.iload_n 3, 1, 3, 0, 0, 0, 0)]
theorem kX4_sortByStart_83 : rf_ck MX4_sortByStart 83 cX4_sortByStart_83 = true := by decide +kernel
theorem eX4_sortByStart_84 : rf_cki MX4_sortByStart 84 .ireturn = true := by decide +kernel
abbrev MX4_copyFrom : rf_M := (yX4_copyFrom, cX4_copyFrom, 2, none)
theorem mkX4_copyFrom : rf_mk MX4_copyFrom 0 1 1128 74 1126 1127 = true := by decide +kernel
def cX4_copyFrom_0 : List rf_I := [(.aload_n 0, 1, 0, 0, 0, 0, 0), (.aload_n 1, 1, 1, 0, 0, 0, 0), (.getfield 9, 3, 4, 0, 116, 0, 0), (.putfield 9, 3, 4, 0, 116, 0, 0), (.aload_n 0, 1, 0, 0, 0, 0, 0), (.aload_n 1, 1, 1, 0, 0, 0, 0), (.getfield 15, 3, 4, 1, 118, 0, 0), (.putfield 15, 3, 4, 1, 118, 0, 0), (.aload_n 0, 1, 0, 0, 0, 0, 0), (.aload_n 1, 1, 1, 0, 0, 0, 0), (.getfield 18, 3, 4, 2, 120, 0, 0), (.putfield 18, 3, 4, 2, 120, 0, 0), (.aload_n 1, 1, 1, 0, 0, 0, 0), (.getfield 21, 3, 4, 3, 123, 0, 0), (.aload_n 0, 1, 0, 0, 0, 0, 0), (.getfield 21, 3, 4, 3, 123, 0, 0)]
theorem kX4_copyFrom_0 : rf_ck MX4_copyFrom 0 cX4_copyFrom_0 = true := by decide +kernel
theorem qX4_copyFrom_32 : rf_kc MX4_copyFrom 32 78 1129 yX11_copyRow 1 = true := by decide +kernel
def cX4_copyFrom_35 : List rf_I := [(.aload_n 1, 1, 1, 0, 0, 0, 0), (.getfield 25, 3, 4, 4, 124, 0, 0), (.aload_n 0, 1, 0, 0, 0, 0, 0), (.getfield 25, 3, 4, 4, 124, 0, 0)]
theorem kX4_copyFrom_35 : rf_ck MX4_copyFrom 35 cX4_copyFrom_35 = true := by decide +kernel
theorem qX4_copyFrom_43 : rf_kc MX4_copyFrom 43 78 1129 yX11_copyRow 1 = true := by decide +kernel
def cX4_copyFrom_46 : List rf_I := [(.aload_n 1, 1, 1, 0, 0, 0, 0), (.getfield 28, 3, 4, 5, 126, 0, 0), (.aload_n 0, 1, 0, 0, 0, 0, 0), (.getfield 28, 3, 4, 5, 126, 0, 0)]
theorem kX4_copyFrom_46 : rf_ck MX4_copyFrom 46 cX4_copyFrom_46 = true := by decide +kernel
theorem qX4_copyFrom_54 : rf_kc MX4_copyFrom 54 78 1129 yX11_copyRow 1 = true := by decide +kernel
def cX4_copyFrom_57 : List rf_I := [(.aload_n 1, 1, 1, 0, 0, 0, 0), (.getfield 31, 3, 4, 6, 127, 0, 0), (.aload_n 0, 1, 0, 0, 0, 0, 0), (.getfield 31, 3, 4, 6, 127, 0, 0)]
theorem kX4_copyFrom_57 : rf_ck MX4_copyFrom 57 cX4_copyFrom_57 = true := by decide +kernel
theorem qX4_copyFrom_65 : rf_kc MX4_copyFrom 65 78 1129 yX11_copyRow 1 = true := by decide +kernel
def cX4_copyFrom_68 : List rf_I := [(.aload_n 1, 1, 1, 0, 0, 0, 0), (.getfield 34, 3, 4, 7, 128, 0, 0), (.aload_n 0, 1, 0, 0, 0, 0, 0), (.getfield 34, 3, 4, 7, 128, 0, 0)]
theorem kX4_copyFrom_68 : rf_ck MX4_copyFrom 68 cX4_copyFrom_68 = true := by decide +kernel
theorem qX4_copyFrom_76 : rf_kc MX4_copyFrom 76 78 1129 yX11_copyRow 1 = true := by decide +kernel
def cX4_copyFrom_79 : List rf_I := [(.aload_n 1, 1, 1, 0, 0, 0, 0), (.getfield 37, 3, 4, 8, 131, 0, 0), (.aload_n 0, 1, 0, 0, 0, 0, 0), (.getfield 37, 3, 4, 8, 131, 0, 0)]
theorem kX4_copyFrom_79 : rf_ck MX4_copyFrom 79 cX4_copyFrom_79 = true := by decide +kernel
theorem qX4_copyFrom_87 : rf_kc MX4_copyFrom 87 78 1129 yX11_copyRow 1 = true := by decide +kernel
def cX4_copyFrom_90 : List rf_I := [(.aload_n 1, 1, 1, 0, 0, 0, 0), (.getfield 40, 3, 4, 9, 134, 0, 0), (.aload_n 0, 1, 0, 0, 0, 0, 0), (.getfield 40, 3, 4, 9, 134, 0, 0)]
theorem kX4_copyFrom_90 : rf_ck MX4_copyFrom 90 cX4_copyFrom_90 = true := by decide +kernel
theorem qX4_copyFrom_98 : rf_kc MX4_copyFrom 98 78 1129 yX11_copyRow 1 = true := by decide +kernel
theorem eX4_copyFrom_101 : rf_cki MX4_copyFrom 101 .return_ = true := by decide +kernel
abbrev MX5_init : rf_M := (yX5_init, cX5_init, 1, none)
theorem mkX5_init : rf_mk MX5_init 2 0 393 82 392 0 = true := by decide +kernel
def cX5_init_0 : List rf_I := [(.aload_n 0, 1, 0, 0, 0, 0, 0), (.invokespecial 3, 3, 0, 0, 394, 0, 0), (.aload_n 0, 1, 0, 0, 0, 0, 0), (.iconst 0, 1, 0, 0, 0, nI 0, 0), (.putfield 9, 3, 5, 0, 395, 0, 0), (.aload_n 0, 1, 0, 0, 0, 0, 0), (.bipush 8, 2, 0, 0, 0, nI 8, 0), (.newarray .int, 2, 0, 8, 0, 0, 0), (.putfield 15, 3, 5, 1, 397, 0, 0), (.aload_n 0, 1, 0, 0, 0, 0, 0), (.lconst 0, 1, 0, 0, 0, 0, lN 0), (.putfield 19, 3, 5, 2, 399, 0, 0), (.aload_n 0, 1, 0, 0, 0, 0, 0), (.iconst 1, 1, 0, 0, 0, nI 1, 0), (.putfield 23, 3, 5, 3, 400, 0, 0), (.aload_n 0, 1, 0, 0, 0, 0, 0), (.bipush 8, 2, 0, 0, 0, nI 8, 0), (.newarray .int, 2, 0, 8, 0, 0, 0), (.putfield 27, 3, 5, 4, 401, 0, 0), (.aload_n 0, 1, 0, 0, 0, 0, 0), (.bipush 72, 2, 0, 0, 0, nI 72, 0), (.newarray .int, 2, 0, 72, 0, 0, 0), (.putfield 30, 3, 5, 5, 402, 0, 0)]
theorem kX5_init_0 : rf_ck MX5_init 0 cX5_init_0 = true := by decide +kernel
theorem eX5_init_43 : rf_cki MX5_init 43 .return_ = true := by decide +kernel
abbrev MX5_run : rf_M := (yX5_run, cX5_run, 3, none)
theorem mkX5_run : rf_mk MX5_run 0 2 928 82 926 927 = true := by decide +kernel
def cX5_run_0 : List rf_I := [(.aload_n 0, 1, 0, 0, 0, 0, 0), (.iconst 1, 1, 0, 0, 0, nI 1, 0), (.putfield 23, 3, 5, 3, 400, 0, 0), (.aload_n 0, 1, 0, 0, 0, 0, 0), (.getfield 27, 3, 5, 4, 401, 0, 0), (.iconst 0, 1, 0, 0, 0, nI 0, 0)]
theorem kX5_run_0 : rf_ck MX5_run 0 cX5_run_0 = true := by decide +kernel
theorem qX5_run_10 : rf_kc MX5_run 10 33 929 yJ7_fill_53178 1 = true := by decide +kernel
def cX5_run_13 : List rf_I := [(.aload_n 0, 1, 0, 0, 0, 0, 0), (.aload_n 1, 1, 1, 0, 0, 0, 0), (.iload_n 2, 1, 2, 0, 0, 0, 0)]
theorem kX5_run_13 : rf_ck MX5_run 13 cX5_run_13 = true := by decide +kernel
theorem qX5_run_16 : rf_kc MX5_run 16 39 930 yX5_fillUnpaid 0 = true := by decide +kernel
def cX5_run_19 : List rf_I := [(.aload_n 0, 1, 0, 0, 0, 0, 0), (.aload_n 1, 1, 1, 0, 0, 0, 0), (.iconst 0, 1, 0, 0, 0, nI 0, 0), (.iload_n 2, 1, 2, 0, 0, 0, 0)]
theorem kX5_run_19 : rf_ck MX5_run 19 cX5_run_19 = true := by decide +kernel
theorem qX5_run_23 : rf_kc MX5_run 23 43 935 yX5_tryRows 0 = true := by decide +kernel
theorem eX5_run_26 : rf_cki MX5_run 26 .return_ = true := by decide +kernel
abbrev MX5_fillUnpaid : rf_M := (yX5_fillUnpaid, cX5_fillUnpaid, 6, none)
theorem mkX5_fillUnpaid : rf_mk MX5_fillUnpaid 0 2 933 82 932 13 = true := by decide +kernel
def cX5_fillUnpaid_0 : List rf_I := [(.aload_n 0, 1, 0, 0, 0, 0, 0), (.getfield 30, 3, 5, 5, 402, 0, 0), (.iconst 0, 1, 0, 0, 0, nI 0, 0)]
theorem kX5_fillUnpaid_0 : rf_ck MX5_fillUnpaid 0 cX5_fillUnpaid_0 = true := by decide +kernel
theorem qX5_fillUnpaid_5 : rf_kc MX5_fillUnpaid 5 33 929 yJ7_fill_53178 1 = true := by decide +kernel
def cX5_fillUnpaid_8 : List rf_I := [(.aload_n 1, 1, 1, 0, 0, 0, 0), (.getfield 47, 3, 10, 1, 329, 0, 0), (.astore_n 3, 1, 3, 0, 0, 0, 0), (.iconst 0, 1, 0, 0, 0, nI 0, 0), (.istore 4, 2, 4, 0, 0, 0, 0)]
theorem kX5_fillUnpaid_8 : rf_ck MX5_fillUnpaid 8 cX5_fillUnpaid_8 = true := by decide +kernel
def cX5_fillUnpaid_16 : List rf_I := [(.iload 4, 2, 4, 0, 0, 0, 0), (.aload_n 3, 1, 3, 0, 0, 0, 0), (.getfield 53, 3, 3, 0, 165, 0, 0)]
theorem kX5_fillUnpaid_16 : rf_ck MX5_fillUnpaid 16 cX5_fillUnpaid_16 = true := by decide +kernel
theorem bX5_fillUnpaid_22 : rf_ckb MX5_fillUnpaid 22 (.if_icmp .ge 68) 68 90 = true := by decide +kernel
def cX5_fillUnpaid_25 : List rf_I := [(.iconst 0, 1, 0, 0, 0, nI 0, 0), (.istore 5, 2, 5, 0, 0, 0, 0)]
theorem kX5_fillUnpaid_25 : rf_ck MX5_fillUnpaid 25 cX5_fillUnpaid_25 = true := by decide +kernel
def cX5_fillUnpaid_28 : List rf_I := [(.iload 5, 2, 5, 0, 0, 0, 0), (.iload_n 2, 1, 2, 0, 0, 0, 0)]
theorem kX5_fillUnpaid_28 : rf_ck MX5_fillUnpaid 28 cX5_fillUnpaid_28 = true := by decide +kernel
theorem bX5_fillUnpaid_31 : rf_ckb MX5_fillUnpaid 31 (.if_icmp .gt 53) 53 84 = true := by decide +kernel
def cX5_fillUnpaid_34 : List rf_I := [(.aload_n 1, 1, 1, 0, 0, 0, 0), (.iload 4, 2, 4, 0, 0, 0, 0), (.aload_n 3, 1, 3, 0, 0, 0, 0), (.getfield 58, 3, 3, 2, 172, 0, 0), (.iload 5, 2, 5, 0, 0, 0, 0), (.iload_n 2, 1, 2, 0, 0, 0, 0)]
theorem kX5_fillUnpaid_34 : rf_ck MX5_fillUnpaid 34 cX5_fillUnpaid_34 = true := by decide +kernel
theorem qX5_fillUnpaid_44 : rf_kc MX5_fillUnpaid 44 61 934 yX10_pays 0 = true := by decide +kernel
theorem bX5_fillUnpaid_47 : rf_ckb MX5_fillUnpaid 47 (.ifCond .ne 31) 31 78 = true := by decide +kernel
def cX5_fillUnpaid_50 : List rf_I := [(.aload_n 0, 1, 0, 0, 0, 0, 0), (.getfield 30, 3, 5, 5, 402, 0, 0), (.aload_n 3, 1, 3, 0, 0, 0, 0), (.getfield 65, 3, 3, 4, 180, 0, 0), (.iload 4, 2, 4, 0, 0, 0, 0), (.iaload, 1, 0, 0, 0, 0, 0), (.bipush 6, 2, 0, 0, 0, nI 6, 0), (.imul, 1, 0, 0, 0, 0, 0), (.iload 5, 2, 5, 0, 0, 0, 0), (.iadd, 1, 0, 0, 0, 0, 0), (.dup2, 1, 0, 0, 0, 0, 0), (.iaload, 1, 0, 0, 0, 0, 0), (.aload_n 3, 1, 3, 0, 0, 0, 0), (.getfield 68, 3, 3, 7, 190, 0, 0), (.iload 4, 2, 4, 0, 0, 0, 0), (.iaload, 1, 0, 0, 0, 0, 0), (.iadd, 1, 0, 0, 0, 0, 0), (.iastore, 1, 0, 0, 0, 0, 0)]
theorem kX5_fillUnpaid_50 : rf_ck MX5_fillUnpaid 50 cX5_fillUnpaid_50 = true := by decide +kernel
def cX5_fillUnpaid_78 : List rf_I := [(.iinc 5 1, 3, 5, 0, 0, nI 1, 0)]
theorem kX5_fillUnpaid_78 : rf_ck MX5_fillUnpaid 78 cX5_fillUnpaid_78 = true := by decide +kernel
theorem bX5_fillUnpaid_81 : rf_ckb MX5_fillUnpaid 81 (.goto (-53)) (-53) 28 = true := by decide +kernel
def cX5_fillUnpaid_84 : List rf_I := [(.iinc 4 1, 3, 4, 0, 0, nI 1, 0)]
theorem kX5_fillUnpaid_84 : rf_ck MX5_fillUnpaid 84 cX5_fillUnpaid_84 = true := by decide +kernel
theorem bX5_fillUnpaid_87 : rf_ckb MX5_fillUnpaid 87 (.goto (-71)) (-71) 16 = true := by decide +kernel
theorem eX5_fillUnpaid_90 : rf_cki MX5_fillUnpaid 90 .return_ = true := by decide +kernel
abbrev MX5_tryRows : rf_M := (yX5_tryRows, cX5_tryRows, 5, none)
theorem mkX5_tryRows : rf_mk MX5_tryRows 0 3 938 82 937 14 = true := by decide +kernel
def cX5_tryRows_0 : List rf_I := [(.iload_n 2, 1, 2, 0, 0, 0, 0), (.aload_n 1, 1, 1, 0, 0, 0, 0), (.getfield 71, 3, 10, 2, 332, 0, 0), (.getfield 75, 3, 7, 0, 230, 0, 0), (.iconst 1, 1, 0, 0, 0, nI 1, 0), (.isub, 1, 0, 0, 0, 0, 0)]
theorem kX5_tryRows_0 : rf_ck MX5_tryRows 0 cX5_tryRows_0 = true := by decide +kernel
theorem bX5_tryRows_10 : rf_ckb MX5_tryRows 10 (.if_icmp .ge 9) 9 19 = true := by decide +kernel
def cX5_tryRows_13 : List rf_I := [(.iload_n 2, 1, 2, 0, 0, 0, 0), (.bipush 7, 2, 0, 0, 0, nI 7, 0)]
theorem kX5_tryRows_13 : rf_ck MX5_tryRows 13 cX5_tryRows_13 = true := by decide +kernel
theorem bX5_tryRows_16 : rf_ckb MX5_tryRows 16 (.if_icmp .lt 16) 16 32 = true := by decide +kernel
def cX5_tryRows_19 : List rf_I := [(.aload_n 0, 1, 0, 0, 0, 0, 0), (.getfield 27, 3, 5, 4, 401, 0, 0), (.iload_n 2, 1, 2, 0, 0, 0, 0), (.iload_n 3, 1, 3, 0, 0, 0, 0), (.iastore, 1, 0, 0, 0, 0, 0), (.aload_n 0, 1, 0, 0, 0, 0, 0), (.aload_n 1, 1, 1, 0, 0, 0, 0)]
theorem kX5_tryRows_19 : rf_ck MX5_tryRows 19 cX5_tryRows_19 = true := by decide +kernel
theorem qX5_tryRows_28 : rf_kc MX5_tryRows 28 79 939 yX5_compareRow 0 = true := by decide +kernel
theorem eX5_tryRows_31 : rf_cki MX5_tryRows 31 .return_ = true := by decide +kernel
def cX5_tryRows_32 : List rf_I := [(.iconst 0, 1, 0, 0, 0, nI 0, 0), (.istore 4, 2, 4, 0, 0, 0, 0)]
theorem kX5_tryRows_32 : rf_ck MX5_tryRows 32 cX5_tryRows_32 = true := by decide +kernel
def cX5_tryRows_35 : List rf_I := [(.iload 4, 2, 4, 0, 0, 0, 0), (.iload_n 3, 1, 3, 0, 0, 0, 0)]
theorem kX5_tryRows_35 : rf_ck MX5_tryRows 35 cX5_tryRows_35 = true := by decide +kernel
theorem bX5_tryRows_38 : rf_ckb MX5_tryRows 38 (.if_icmp .gt 29) 29 67 = true := by decide +kernel
def cX5_tryRows_41 : List rf_I := [(.aload_n 0, 1, 0, 0, 0, 0, 0), (.getfield 27, 3, 5, 4, 401, 0, 0), (.iload_n 2, 1, 2, 0, 0, 0, 0), (.iload 4, 2, 4, 0, 0, 0, 0), (.iastore, 1, 0, 0, 0, 0, 0), (.aload_n 0, 1, 0, 0, 0, 0, 0), (.aload_n 1, 1, 1, 0, 0, 0, 0), (.iload_n 2, 1, 2, 0, 0, 0, 0), (.iconst 1, 1, 0, 0, 0, nI 1, 0), (.iadd, 1, 0, 0, 0, 0, 0), (.iload_n 3, 1, 3, 0, 0, 0, 0), (.iload 4, 2, 4, 0, 0, 0, 0), (.isub, 1, 0, 0, 0, 0, 0)]
theorem kX5_tryRows_41 : rf_ck MX5_tryRows 41 cX5_tryRows_41 = true := by decide +kernel
theorem qX5_tryRows_58 : rf_kc MX5_tryRows 58 43 935 yX5_tryRows 0 = true := by decide +kernel
def cX5_tryRows_61 : List rf_I := [(.iinc 4 1, 3, 4, 0, 0, nI 1, 0)]
theorem kX5_tryRows_61 : rf_ck MX5_tryRows 61 cX5_tryRows_61 = true := by decide +kernel
theorem bX5_tryRows_64 : rf_ckb MX5_tryRows 64 (.goto (-29)) (-29) 35 = true := by decide +kernel
theorem eX5_tryRows_67 : rf_cki MX5_tryRows 67 .return_ = true := by decide +kernel
abbrev MX5_compareRow : rf_M := (yX5_compareRow, cX5_compareRow, 8, none)
theorem mkX5_compareRow : rf_mk MX5_compareRow 0 1 942 82 941 15 = true := by decide +kernel
def cX5_compareRow_0 : List rf_I := [(.iconst 0, 1, 0, 0, 0, nI 0, 0), (.istore_n 2, 1, 2, 0, 0, 0, 0), (.lconst 0, 1, 0, 0, 0, 0, lN 0), (.lstore_n 3, 1, 3, 0, 0, 0, 0), (.iconst 0, 1, 0, 0, 0, nI 0, 0), (.istore 5, 2, 5, 0, 0, 0, 0)]
theorem kX5_compareRow_0 : rf_ck MX5_compareRow 0 cX5_compareRow_0 = true := by decide +kernel
def cX5_compareRow_7 : List rf_I := [(.iload 5, 2, 5, 0, 0, 0, 0), (.aload_n 1, 1, 1, 0, 0, 0, 0), (.getfield 83, 3, 10, 0, 327, 0, 0), (.getfield 87, 3, 4, 2, 121, 0, 0)]
theorem kX5_compareRow_7 : rf_ck MX5_compareRow 7 cX5_compareRow_7 = true := by decide +kernel
theorem bX5_compareRow_16 : rf_ckb MX5_compareRow 16 (.if_icmp .ge 51) 51 67 = true := by decide +kernel
def cX5_compareRow_19 : List rf_I := [(.aload_n 0, 1, 0, 0, 0, 0, 0), (.aload_n 1, 1, 1, 0, 0, 0, 0), (.getfield 71, 3, 10, 2, 332, 0, 0), (.iload 5, 2, 5, 0, 0, 0, 0)]
theorem kX5_compareRow_19 : rf_ck MX5_compareRow 19 cX5_compareRow_19 = true := by decide +kernel
theorem qX5_compareRow_26 : rf_kc MX5_compareRow 26 92 943 yX5_lotsInRow 0 = true := by decide +kernel
def cX5_compareRow_29 : List rf_I := [(.istore 6, 2, 6, 0, 0, 0, 0), (.aload_n 0, 1, 0, 0, 0, 0, 0), (.getfield 30, 3, 5, 5, 402, 0, 0), (.iload 5, 2, 5, 0, 0, 0, 0), (.bipush 6, 2, 0, 0, 0, nI 6, 0), (.imul, 1, 0, 0, 0, 0, 0), (.iload 6, 2, 6, 0, 0, 0, 0), (.iadd, 1, 0, 0, 0, 0, 0), (.iaload, 1, 0, 0, 0, 0, 0), (.istore 7, 2, 7, 0, 0, 0, 0), (.iload_n 2, 1, 2, 0, 0, 0, 0), (.iload 7, 2, 7, 0, 0, 0, 0), (.iadd, 1, 0, 0, 0, 0, 0), (.istore_n 2, 1, 2, 0, 0, 0, 0), (.lload_n 3, 1, 3, 0, 0, 0, 0), (.iload 7, 2, 7, 0, 0, 0, 0), (.i2l, 1, 0, 0, 0, 0, 0), (.iload 6, 2, 6, 0, 0, 0, 0), (.i2l, 1, 0, 0, 0, 0, 0), (.lmul, 1, 0, 0, 0, 0, 0), (.ladd, 1, 0, 0, 0, 0, 0), (.lstore_n 3, 1, 3, 0, 0, 0, 0), (.iinc 5 1, 3, 5, 0, 0, nI 1, 0)]
theorem kX5_compareRow_29 : rf_ck MX5_compareRow 29 cX5_compareRow_29 = true := by decide +kernel
theorem bX5_compareRow_64 : rf_ckb MX5_compareRow 64 (.goto (-57)) (-57) 7 = true := by decide +kernel
def cX5_compareRow_67 : List rf_I := [(.lload_n 3, 1, 3, 0, 0, 0, 0), (.aload_n 1, 1, 1, 0, 0, 0, 0), (.getfield 47, 3, 10, 1, 329, 0, 0), (.getfield 58, 3, 3, 2, 172, 0, 0), (.i2l, 1, 0, 0, 0, 0, 0), (.lmul, 1, 0, 0, 0, 0, 0), (.lstore 5, 2, 5, 0, 0, 0, 0), (.aload_n 0, 1, 0, 0, 0, 0, 0), (.getfield 23, 3, 5, 3, 400, 0, 0)]
theorem kX5_compareRow_67 : rf_ck MX5_compareRow 67 cX5_compareRow_67 = true := by decide +kernel
theorem bX5_compareRow_83 : rf_ckb MX5_compareRow 83 (.ifCond .ne 29) 29 112 = true := by decide +kernel
def cX5_compareRow_86 : List rf_I := [(.iload_n 2, 1, 2, 0, 0, 0, 0), (.aload_n 0, 1, 0, 0, 0, 0, 0), (.getfield 9, 3, 5, 0, 395, 0, 0)]
theorem kX5_compareRow_86 : rf_ck MX5_compareRow 86 cX5_compareRow_86 = true := by decide +kernel
theorem bX5_compareRow_91 : rf_ckb MX5_compareRow 91 (.if_icmp .lt 21) 21 112 = true := by decide +kernel
def cX5_compareRow_94 : List rf_I := [(.iload_n 2, 1, 2, 0, 0, 0, 0), (.aload_n 0, 1, 0, 0, 0, 0, 0), (.getfield 9, 3, 5, 0, 395, 0, 0)]
theorem kX5_compareRow_94 : rf_ck MX5_compareRow 94 cX5_compareRow_94 = true := by decide +kernel
theorem bX5_compareRow_99 : rf_ckb MX5_compareRow 99 (.if_icmp .ne 40) 40 139 = true := by decide +kernel
def cX5_compareRow_102 : List rf_I := [(.lload 5, 2, 5, 0, 0, 0, 0), (.aload_n 0, 1, 0, 0, 0, 0, 0), (.getfield 19, 3, 5, 2, 399, 0, 0), (.lcmp, 1, 0, 0, 0, 0, 0)]
theorem kX5_compareRow_102 : rf_ck MX5_compareRow 102 cX5_compareRow_102 = true := by decide +kernel
theorem bX5_compareRow_109 : rf_ckb MX5_compareRow 109 (.ifCond .le 30) 30 139 = true := by decide +kernel
def cX5_compareRow_112 : List rf_I := [(.aload_n 0, 1, 0, 0, 0, 0, 0), (.iconst 0, 1, 0, 0, 0, nI 0, 0), (.putfield 23, 3, 5, 3, 400, 0, 0), (.aload_n 0, 1, 0, 0, 0, 0, 0), (.iload_n 2, 1, 2, 0, 0, 0, 0), (.putfield 9, 3, 5, 0, 395, 0, 0), (.aload_n 0, 1, 0, 0, 0, 0, 0), (.lload 5, 2, 5, 0, 0, 0, 0), (.putfield 19, 3, 5, 2, 399, 0, 0), (.aload_n 0, 1, 0, 0, 0, 0, 0), (.getfield 27, 3, 5, 4, 401, 0, 0), (.aload_n 0, 1, 0, 0, 0, 0, 0), (.getfield 15, 3, 5, 1, 397, 0, 0)]
theorem kX5_compareRow_112 : rf_ck MX5_compareRow 112 cX5_compareRow_112 = true := by decide +kernel
theorem qX5_compareRow_136 : rf_kc MX5_compareRow 136 96 949 yX11_copyRow 1 = true := by decide +kernel
theorem eX5_compareRow_139 : rf_cki MX5_compareRow 139 .return_ = true := by decide +kernel
abbrev MX5_lotsInRow : rf_M := (yX5_lotsInRow, cX5_lotsInRow, 5, (some (.int)))
theorem mkX5_lotsInRow : rf_mk MX5_lotsInRow 0 2 946 82 945 16 = true := by decide +kernel
def cX5_lotsInRow_0 : List rf_I := [(.iconst 0, 1, 0, 0, 0, nI 0, 0), (.istore_n 3, 1, 3, 0, 0, 0, 0), (.iconst 0, 1, 0, 0, 0, nI 0, 0), (.istore 4, 2, 4, 0, 0, 0, 0)]
theorem kX5_lotsInRow_0 : rf_ck MX5_lotsInRow 0 cX5_lotsInRow_0 = true := by decide +kernel
def cX5_lotsInRow_5 : List rf_I := [(.iload 4, 2, 4, 0, 0, 0, 0), (.aload_n 1, 1, 1, 0, 0, 0, 0), (.getfield 75, 3, 7, 0, 230, 0, 0)]
theorem kX5_lotsInRow_5 : rf_ck MX5_lotsInRow 5 cX5_lotsInRow_5 = true := by decide +kernel
theorem bX5_lotsInRow_11 : rf_ckb MX5_lotsInRow 11 (.if_icmp .ge 33) 33 44 = true := by decide +kernel
def cX5_lotsInRow_14 : List rf_I := [(.aload_n 1, 1, 1, 0, 0, 0, 0), (.getfield 100, 3, 7, 1, 233, 0, 0), (.iload 4, 2, 4, 0, 0, 0, 0), (.iaload, 1, 0, 0, 0, 0, 0), (.iload_n 2, 1, 2, 0, 0, 0, 0)]
theorem kX5_lotsInRow_14 : rf_ck MX5_lotsInRow 14 cX5_lotsInRow_14 = true := by decide +kernel
theorem qX5_lotsInRow_22 : rf_kc MX5_lotsInRow 22 103 947 yX11_has 1 = true := by decide +kernel
theorem bX5_lotsInRow_25 : rf_ckb MX5_lotsInRow 25 (.ifCond .eq 13) 13 38 = true := by decide +kernel
def cX5_lotsInRow_28 : List rf_I := [(.iload_n 3, 1, 3, 0, 0, 0, 0), (.aload_n 0, 1, 0, 0, 0, 0, 0), (.getfield 27, 3, 5, 4, 401, 0, 0), (.iload 4, 2, 4, 0, 0, 0, 0), (.iaload, 1, 0, 0, 0, 0, 0), (.iadd, 1, 0, 0, 0, 0, 0), (.istore_n 3, 1, 3, 0, 0, 0, 0)]
theorem kX5_lotsInRow_28 : rf_ck MX5_lotsInRow 28 cX5_lotsInRow_28 = true := by decide +kernel
def cX5_lotsInRow_38 : List rf_I := [(.iinc 4 1, 3, 4, 0, 0, nI 1, 0)]
theorem kX5_lotsInRow_38 : rf_ck MX5_lotsInRow 38 cX5_lotsInRow_38 = true := by decide +kernel
theorem bX5_lotsInRow_41 : rf_ckb MX5_lotsInRow 41 (.goto (-36)) (-36) 5 = true := by decide +kernel
def cX5_lotsInRow_44 : List rf_I := [(.iload_n 3, 1, 3, 0, 0, 0, 0), (.iconst 5, 1, 0, 0, 0, nI 5, 0), (.invokestatic 107, 3, 1, 0, 948, 0, 0)]
theorem kX5_lotsInRow_44 : rf_ck MX5_lotsInRow 44 cX5_lotsInRow_44 = true := by decide +kernel
theorem eX5_lotsInRow_49 : rf_cki MX5_lotsInRow 49 .ireturn = true := by decide +kernel
abbrev MX6_init : rf_M := (yX6_init, cX6_init, 1, none)
theorem mkX6_init : rf_mk MX6_init 2 0 444 84 443 0 = true := by decide +kernel
def cX6_init_0 : List rf_I := [(.aload_n 0, 1, 0, 0, 0, 0, 0), (.invokespecial 1, 3, 0, 0, 445, 0, 0), (.aload_n 0, 1, 0, 0, 0, 0, 0), (.iconst 4, 1, 0, 0, 0, nI 4, 0), (.newarray .int, 2, 0, 4, 0, 0, 0), (.putfield 9, 3, 6, 0, 448, 0, 0), (.aload_n 0, 1, 0, 0, 0, 0, 0), (.iconst 4, 1, 0, 0, 0, nI 4, 0), (.newarray .int, 2, 0, 4, 0, 0, 0), (.putfield 13, 3, 6, 1, 450, 0, 0), (.aload_n 0, 1, 0, 0, 0, 0, 0), (.iconst 4, 1, 0, 0, 0, nI 4, 0), (.bipush 40, 2, 0, 0, 0, nI 40, 0), (.multianewarray 16 2, 4, 0, 0, 446, 0, 0), (.putfield 18, 3, 6, 2, 452, 0, 0)]
theorem kX6_init_0 : rf_ck MX6_init 0 cX6_init_0 = true := by decide +kernel
theorem eX6_init_29 : rf_cki MX6_init 29 .return_ = true := by decide +kernel
abbrev MX6_clear : rf_M := (yX6_clear, cX6_clear, 4, (some (.int)))
theorem mkX6_clear : rf_mk MX6_clear 0 3 1099 84 1097 1098 = true := by decide +kernel
def cX6_clear_0 : List rf_I := [(.aload_n 0, 1, 0, 0, 0, 0, 0), (.getfield 9, 3, 6, 0, 448, 0, 0), (.iload_n 1, 1, 1, 0, 0, 0, 0), (.iload_n 2, 1, 2, 0, 0, 0, 0), (.iastore, 1, 0, 0, 0, 0, 0), (.aload_n 0, 1, 0, 0, 0, 0, 0), (.getfield 13, 3, 6, 1, 450, 0, 0), (.iload_n 1, 1, 1, 0, 0, 0, 0), (.iload_n 3, 1, 3, 0, 0, 0, 0), (.iastore, 1, 0, 0, 0, 0, 0), (.aload_n 0, 1, 0, 0, 0, 0, 0), (.getfield 18, 3, 6, 2, 452, 0, 0), (.iload_n 1, 1, 1, 0, 0, 0, 0), (.aaload, 1, 0, 0, 0, 0, 0), (.iconst 0, 1, 0, 0, 0, nI 0, 0)]
theorem kX6_clear_0 : rf_ck MX6_clear 0 cX6_clear_0 = true := by decide +kernel
theorem qX6_clear_21 : rf_kc MX6_clear 21 21 1100 yJ7_fill_53178 1 = true := by decide +kernel
def cX6_clear_24 : List rf_I := [(.iconst 1, 1, 0, 0, 0, nI 1, 0)]
theorem kX6_clear_24 : rf_ck MX6_clear 24 cX6_clear_24 = true := by decide +kernel
theorem eX6_clear_25 : rf_cki MX6_clear 25 .ireturn = true := by decide +kernel
abbrev MX6_cut : rf_M := (yX6_cut, cX6_cut, 3, (some (.int)))
theorem mkX6_cut : rf_mk MX6_cut 0 2 1108 84 1106 1107 = true := by decide +kernel
def cX6_cut_0 : List rf_I := [(.aload_n 0, 1, 0, 0, 0, 0, 0), (.getfield 9, 3, 6, 0, 448, 0, 0), (.iload_n 1, 1, 1, 0, 0, 0, 0), (.iaload, 1, 0, 0, 0, 0, 0), (.bipush 8, 2, 0, 0, 0, nI 8, 0)]
theorem kX6_cut_0 : rf_ck MX6_cut 0 cX6_cut_0 = true := by decide +kernel
theorem bX6_cut_8 : rf_ckb MX6_cut 8 (.if_icmp .ne 6) 6 14 = true := by decide +kernel
def cX6_cut_11 : List rf_I := [(.iload_n 2, 1, 2, 0, 0, 0, 0), (.i2b, 1, 0, 0, 0, 0, 0)]
theorem kX6_cut_11 : rf_ck MX6_cut 11 cX6_cut_11 = true := by decide +kernel
theorem eX6_cut_13 : rf_cki MX6_cut 13 .ireturn = true := by decide +kernel
def cX6_cut_14 : List rf_I := [(.aload_n 0, 1, 0, 0, 0, 0, 0), (.getfield 9, 3, 6, 0, 448, 0, 0), (.iload_n 1, 1, 1, 0, 0, 0, 0), (.iaload, 1, 0, 0, 0, 0, 0), (.bipush 16, 2, 0, 0, 0, nI 16, 0)]
theorem kX6_cut_14 : rf_ck MX6_cut 14 cX6_cut_14 = true := by decide +kernel
theorem bX6_cut_22 : rf_ckb MX6_cut 22 (.if_icmp .ne 8) 8 30 = true := by decide +kernel
def cX6_cut_25 : List rf_I := [(.iload_n 2, 1, 2, 0, 0, 0, 0), (.i2s, 1, 0, 0, 0, 0, 0)]
theorem kX6_cut_25 : rf_ck MX6_cut 25 cX6_cut_25 = true := by decide +kernel
theorem bX6_cut_27 : rf_ckb MX6_cut 27 (.goto 4) 4 31 = true := by decide +kernel
def cX6_cut_30 : List rf_I := [(.iload_n 2, 1, 2, 0, 0, 0, 0)]
theorem kX6_cut_30 : rf_ck MX6_cut 30 cX6_cut_30 = true := by decide +kernel
theorem eX6_cut_31 : rf_cki MX6_cut 31 .ireturn = true := by decide +kernel
abbrev MX7_init : rf_M := (yX7_init, cX7_init, 1, none)
theorem mkX7_init : rf_mk MX7_init 2 0 227 77 226 0 = true := by decide +kernel
def cX7_init_0 : List rf_I := [(.aload_n 0, 1, 0, 0, 0, 0, 0), (.invokespecial 3, 3, 0, 0, 228, 0, 0), (.aload_n 0, 1, 0, 0, 0, 0, 0), (.iconst 0, 1, 0, 0, 0, nI 0, 0), (.putfield 9, 3, 7, 0, 229, 0, 0), (.aload_n 0, 1, 0, 0, 0, 0, 0), (.bipush 8, 2, 0, 0, 0, nI 8, 0), (.newarray .int, 2, 0, 8, 0, 0, 0), (.putfield 15, 3, 7, 1, 232, 0, 0), (.aload_n 0, 1, 0, 0, 0, 0, 0), (.bipush 8, 2, 0, 0, 0, nI 8, 0), (.newarray .int, 2, 0, 8, 0, 0, 0), (.putfield 19, 3, 7, 2, 236, 0, 0)]
theorem kX7_init_0 : rf_ck MX7_init 0 cX7_init_0 = true := by decide +kernel
theorem eX7_init_25 : rf_cki MX7_init 25 .return_ = true := by decide +kernel
abbrev MX7_addShift : rf_M := (yX7_addShift, cX7_addShift, 3, (some (.int)))
theorem mkX7_addShift : rf_mk MX7_addShift 0 1 878 77 876 877 = true := by decide +kernel
def cX7_addShift_0 : List rf_I := [(.aload_n 0, 1, 0, 0, 0, 0, 0), (.getfield 9, 3, 7, 0, 229, 0, 0), (.istore_n 2, 1, 2, 0, 0, 0, 0), (.aload_n 0, 1, 0, 0, 0, 0, 0), (.dup, 1, 0, 0, 0, 0, 0), (.getfield 9, 3, 7, 0, 229, 0, 0), (.iconst 1, 1, 0, 0, 0, nI 1, 0), (.iadd, 1, 0, 0, 0, 0, 0), (.putfield 9, 3, 7, 0, 229, 0, 0), (.aload_n 0, 1, 0, 0, 0, 0, 0), (.getfield 15, 3, 7, 1, 232, 0, 0), (.iload_n 2, 1, 2, 0, 0, 0, 0), (.iload_n 1, 1, 1, 0, 0, 0, 0), (.iastore, 1, 0, 0, 0, 0, 0), (.aload_n 0, 1, 0, 0, 0, 0, 0), (.getfield 19, 3, 7, 2, 236, 0, 0), (.iload_n 2, 1, 2, 0, 0, 0, 0), (.iconst 0, 1, 0, 0, 0, nI 0, 0), (.iastore, 1, 0, 0, 0, 0, 0), (.iload_n 2, 1, 2, 0, 0, 0, 0)]
theorem kX7_addShift_0 : rf_ck MX7_addShift 0 cX7_addShift_0 = true := by decide +kernel
theorem eX7_addShift_30 : rf_cki MX7_addShift 30 .ireturn = true := by decide +kernel
abbrev MX7_all : rf_M := (yX7_all, cX7_all, 3, (some (.int)))
theorem mkX7_all : rf_mk MX7_all 0 0 645 77 643 644 = true := by decide +kernel
def cX7_all_0 : List rf_I := [(.iconst 0, 1, 0, 0, 0, nI 0, 0), (.istore_n 1, 1, 1, 0, 0, 0, 0), (.iconst 0, 1, 0, 0, 0, nI 0, 0), (.istore_n 2, 1, 2, 0, 0, 0, 0)]
theorem kX7_all_0 : rf_ck MX7_all 0 cX7_all_0 = true := by decide +kernel
def cX7_all_4 : List rf_I := [(.iload_n 2, 1, 2, 0, 0, 0, 0), (.aload_n 0, 1, 0, 0, 0, 0, 0), (.getfield 9, 3, 7, 0, 229, 0, 0)]
theorem kX7_all_4 : rf_ck MX7_all 4 cX7_all_4 = true := by decide +kernel
theorem bX7_all_9 : rf_ckb MX7_all 9 (.if_icmp .ge 18) 18 27 = true := by decide +kernel
def cX7_all_12 : List rf_I := [(.iload_n 1, 1, 1, 0, 0, 0, 0), (.aload_n 0, 1, 0, 0, 0, 0, 0), (.getfield 19, 3, 7, 2, 236, 0, 0), (.iload_n 2, 1, 2, 0, 0, 0, 0), (.iaload, 1, 0, 0, 0, 0, 0), (.iadd, 1, 0, 0, 0, 0, 0), (.istore_n 1, 1, 1, 0, 0, 0, 0), (.iinc 2 1, 3, 2, 0, 0, nI 1, 0)]
theorem kX7_all_12 : rf_ck MX7_all 12 cX7_all_12 = true := by decide +kernel
theorem bX7_all_24 : rf_ckb MX7_all 24 (.goto (-20)) (-20) 4 = true := by decide +kernel
def cX7_all_27 : List rf_I := [(.iload_n 1, 1, 1, 0, 0, 0, 0)]
theorem kX7_all_27 : rf_ck MX7_all 27 cX7_all_27 = true := by decide +kernel
theorem eX7_all_28 : rf_cki MX7_all 28 .ireturn = true := by decide +kernel
abbrev MX7_below : rf_M := (yX7_below, cX7_below, 1, (some (.int)))
theorem mkX7_below : rf_mk MX7_below 0 0 641 77 639 640 = true := by decide +kernel
def cX7_below_0 : List rf_I := [(.aload_n 0, 1, 0, 0, 0, 0, 0)]
theorem kX7_below_0 : rf_ck MX7_below 0 cX7_below_0 = true := by decide +kernel
theorem qX7_below_1 : rf_kc MX7_below 1 22 642 yX7_all 0 = true := by decide +kernel
def cX7_below_4 : List rf_I := [(.iconst 1, 1, 0, 0, 0, nI 1, 0), (.invokestatic 26, 3, 0, 0, 646, 0, 0)]
theorem kX7_below_4 : rf_ck MX7_below 4 cX7_below_4 = true := by decide +kernel
theorem eX7_below_8 : rf_cki MX7_below 8 .ireturn = true := by decide +kernel
abbrev MX7_lotsWith : rf_M := (yX7_lotsWith, cX7_lotsWith, 4, (some (.int)))
theorem mkX7_lotsWith : rf_mk MX7_lotsWith 0 1 591 77 589 590 = true := by decide +kernel
def cX7_lotsWith_0 : List rf_I := [(.iconst 0, 1, 0, 0, 0, nI 0, 0), (.istore_n 2, 1, 2, 0, 0, 0, 0), (.iconst 0, 1, 0, 0, 0, nI 0, 0), (.istore_n 3, 1, 3, 0, 0, 0, 0)]
theorem kX7_lotsWith_0 : rf_ck MX7_lotsWith 0 cX7_lotsWith_0 = true := by decide +kernel
def cX7_lotsWith_4 : List rf_I := [(.iload_n 3, 1, 3, 0, 0, 0, 0), (.aload_n 0, 1, 0, 0, 0, 0, 0), (.getfield 9, 3, 7, 0, 229, 0, 0)]
theorem kX7_lotsWith_4 : rf_ck MX7_lotsWith 4 cX7_lotsWith_4 = true := by decide +kernel
theorem bX7_lotsWith_9 : rf_ckb MX7_lotsWith 9 (.if_icmp .ge 31) 31 40 = true := by decide +kernel
def cX7_lotsWith_12 : List rf_I := [(.aload_n 0, 1, 0, 0, 0, 0, 0), (.getfield 15, 3, 7, 1, 232, 0, 0), (.iload_n 3, 1, 3, 0, 0, 0, 0), (.iaload, 1, 0, 0, 0, 0, 0), (.iload_n 1, 1, 1, 0, 0, 0, 0)]
theorem kX7_lotsWith_12 : rf_ck MX7_lotsWith 12 cX7_lotsWith_12 = true := by decide +kernel
theorem qX7_lotsWith_19 : rf_kc MX7_lotsWith 19 32 592 yX11_has 1 = true := by decide +kernel
theorem bX7_lotsWith_22 : rf_ckb MX7_lotsWith 22 (.ifCond .eq 12) 12 34 = true := by decide +kernel
def cX7_lotsWith_25 : List rf_I := [(.iload_n 2, 1, 2, 0, 0, 0, 0), (.aload_n 0, 1, 0, 0, 0, 0, 0), (.getfield 19, 3, 7, 2, 236, 0, 0), (.iload_n 3, 1, 3, 0, 0, 0, 0), (.iaload, 1, 0, 0, 0, 0, 0), (.iadd, 1, 0, 0, 0, 0, 0), (.istore_n 2, 1, 2, 0, 0, 0, 0)]
theorem kX7_lotsWith_25 : rf_ck MX7_lotsWith 25 cX7_lotsWith_25 = true := by decide +kernel
def cX7_lotsWith_34 : List rf_I := [(.iinc 3 1, 3, 3, 0, 0, nI 1, 0)]
theorem kX7_lotsWith_34 : rf_ck MX7_lotsWith 34 cX7_lotsWith_34 = true := by decide +kernel
theorem bX7_lotsWith_37 : rf_ckb MX7_lotsWith 37 (.goto (-33)) (-33) 4 = true := by decide +kernel
def cX7_lotsWith_40 : List rf_I := [(.iload_n 2, 1, 2, 0, 0, 0, 0)]
theorem kX7_lotsWith_40 : rf_ck MX7_lotsWith 40 cX7_lotsWith_40 = true := by decide +kernel
theorem eX7_lotsWith_41 : rf_cki MX7_lotsWith 41 .ireturn = true := by decide +kernel
abbrev MX7_shiftOf : rf_M := (yX7_shiftOf, cX7_shiftOf, 5, (some (.int)))
theorem mkX7_shiftOf : rf_mk MX7_shiftOf 0 1 976 77 974 975 = true := by decide +kernel
def cX7_shiftOf_0 : List rf_I := [(.iconst 0, 1, 0, 0, 0, nI 0, 0), (.istore_n 2, 1, 2, 0, 0, 0, 0), (.iconst 0, 1, 0, 0, 0, nI 0, 0), (.istore_n 3, 1, 3, 0, 0, 0, 0), (.iconst 0, 1, 0, 0, 0, nI 0, 0), (.istore 4, 2, 4, 0, 0, 0, 0)]
theorem kX7_shiftOf_0 : rf_ck MX7_shiftOf 0 cX7_shiftOf_0 = true := by decide +kernel
def cX7_shiftOf_7 : List rf_I := [(.iload 4, 2, 4, 0, 0, 0, 0), (.aload_n 0, 1, 0, 0, 0, 0, 0), (.getfield 9, 3, 7, 0, 229, 0, 0)]
theorem kX7_shiftOf_7 : rf_ck MX7_shiftOf 7 cX7_shiftOf_7 = true := by decide +kernel
theorem bX7_shiftOf_13 : rf_ckb MX7_shiftOf 13 (.if_icmp .ge 27) 27 40 = true := by decide +kernel
def cX7_shiftOf_16 : List rf_I := [(.iload_n 2, 1, 2, 0, 0, 0, 0), (.iload_n 1, 1, 1, 0, 0, 0, 0)]
theorem kX7_shiftOf_16 : rf_ck MX7_shiftOf 16 cX7_shiftOf_16 = true := by decide +kernel
theorem bX7_shiftOf_18 : rf_ckb MX7_shiftOf 18 (.if_icmp .gt 22) 22 40 = true := by decide +kernel
def cX7_shiftOf_21 : List rf_I := [(.iload_n 2, 1, 2, 0, 0, 0, 0), (.aload_n 0, 1, 0, 0, 0, 0, 0), (.getfield 19, 3, 7, 2, 236, 0, 0), (.iload 4, 2, 4, 0, 0, 0, 0), (.iaload, 1, 0, 0, 0, 0, 0), (.iadd, 1, 0, 0, 0, 0, 0), (.istore_n 2, 1, 2, 0, 0, 0, 0), (.iload 4, 2, 4, 0, 0, 0, 0), (.istore_n 3, 1, 3, 0, 0, 0, 0), (.iinc 4 1, 3, 4, 0, 0, nI 1, 0)]
theorem kX7_shiftOf_21 : rf_ck MX7_shiftOf 21 cX7_shiftOf_21 = true := by decide +kernel
theorem bX7_shiftOf_37 : rf_ckb MX7_shiftOf 37 (.goto (-30)) (-30) 7 = true := by decide +kernel
def cX7_shiftOf_40 : List rf_I := [(.iload_n 3, 1, 3, 0, 0, 0, 0)]
theorem kX7_shiftOf_40 : rf_ck MX7_shiftOf 40 cX7_shiftOf_40 = true := by decide +kernel
theorem eX7_shiftOf_41 : rf_cki MX7_shiftOf 41 .ireturn = true := by decide +kernel
abbrev MX7_daysTillSeen : rf_M := (yX7_daysTillSeen, cX7_daysTillSeen, 12, (some (.int)))
theorem mkX7_daysTillSeen : rf_mk MX7_daysTillSeen 0 2 1049 77 1047 1048 = true := by decide +kernel
def cX7_daysTillSeen_0 : List rf_I := [(.aload_n 0, 1, 0, 0, 0, 0, 0)]
theorem kX7_daysTillSeen_0 : rf_ck MX7_daysTillSeen 0 cX7_daysTillSeen_0 = true := by decide +kernel
theorem qX7_daysTillSeen_1 : rf_kc MX7_daysTillSeen 1 36 1050 yX7_below 0 = true := by decide +kernel
def cX7_daysTillSeen_4 : List rf_I := [(.i2l, 1, 0, 0, 0, 0, 0), (.lstore_n 3, 1, 3, 0, 0, 0, 0), (.lload_n 3, 1, 3, 0, 0, 0, 0), (.aload_n 0, 1, 0, 0, 0, 0, 0), (.iload_n 1, 1, 1, 0, 0, 0, 0)]
theorem kX7_daysTillSeen_4 : rf_ck MX7_daysTillSeen 4 cX7_daysTillSeen_4 = true := by decide +kernel
theorem qX7_daysTillSeen_9 : rf_kc MX7_daysTillSeen 9 39 1051 yX7_lotsWith 0 = true := by decide +kernel
def cX7_daysTillSeen_12 : List rf_I := [(.i2l, 1, 0, 0, 0, 0, 0), (.lsub, 1, 0, 0, 0, 0, 0), (.lstore 5, 2, 5, 0, 0, 0, 0), (.lconst 1, 1, 0, 0, 0, 0, lN 1), (.lstore 7, 2, 7, 0, 0, 0, 0), (.lconst 1, 1, 0, 0, 0, 0, lN 1), (.lstore 9, 2, 9, 0, 0, 0, 0), (.iconst 1, 1, 0, 0, 0, nI 1, 0), (.istore 11, 2, 11, 0, 0, 0, 0)]
theorem kX7_daysTillSeen_12 : rf_ck MX7_daysTillSeen 12 cX7_daysTillSeen_12 = true := by decide +kernel
def cX7_daysTillSeen_25 : List rf_I := [(.iload 11, 2, 11, 0, 0, 0, 0), (.bipush 8, 2, 0, 0, 0, nI 8, 0)]
theorem kX7_daysTillSeen_25 : rf_ck MX7_daysTillSeen 25 cX7_daysTillSeen_25 = true := by decide +kernel
theorem bX7_daysTillSeen_29 : rf_ckb MX7_daysTillSeen 29 (.if_icmp .gt 43) 43 72 = true := by decide +kernel
def cX7_daysTillSeen_32 : List rf_I := [(.lload 7, 2, 7, 0, 0, 0, 0), (.lload_n 3, 1, 3, 0, 0, 0, 0), (.lmul, 1, 0, 0, 0, 0, 0), (.lstore 7, 2, 7, 0, 0, 0, 0), (.lload 9, 2, 9, 0, 0, 0, 0), (.lload 5, 2, 5, 0, 0, 0, 0), (.lmul, 1, 0, 0, 0, 0, 0), (.lstore 9, 2, 9, 0, 0, 0, 0), (.ldc2_w 43, 3, 0, 0, 1052, 0, lN 100), (.lload 7, 2, 7, 0, 0, 0, 0), (.lload 9, 2, 9, 0, 0, 0, 0), (.lsub, 1, 0, 0, 0, 0, 0), (.lmul, 1, 0, 0, 0, 0, 0), (.iload_n 2, 1, 2, 0, 0, 0, 0), (.i2l, 1, 0, 0, 0, 0, 0), (.lload 7, 2, 7, 0, 0, 0, 0), (.lmul, 1, 0, 0, 0, 0, 0), (.lcmp, 1, 0, 0, 0, 0, 0)]
theorem kX7_daysTillSeen_32 : rf_ck MX7_daysTillSeen 32 cX7_daysTillSeen_32 = true := by decide +kernel
theorem bX7_daysTillSeen_60 : rf_ckb MX7_daysTillSeen 60 (.ifCond .lt 6) 6 66 = true := by decide +kernel
def cX7_daysTillSeen_63 : List rf_I := [(.iload 11, 2, 11, 0, 0, 0, 0)]
theorem kX7_daysTillSeen_63 : rf_ck MX7_daysTillSeen 63 cX7_daysTillSeen_63 = true := by decide +kernel
theorem eX7_daysTillSeen_65 : rf_cki MX7_daysTillSeen 65 .ireturn = true := by decide +kernel
def cX7_daysTillSeen_66 : List rf_I := [(.iinc 11 1, 3, 11, 0, 0, nI 1, 0)]
theorem kX7_daysTillSeen_66 : rf_ck MX7_daysTillSeen 66 cX7_daysTillSeen_66 = true := by decide +kernel
theorem bX7_daysTillSeen_69 : rf_ckb MX7_daysTillSeen 69 (.goto (-44)) (-44) 25 = true := by decide +kernel
def cX7_daysTillSeen_72 : List rf_I := [(.iconst (-1), 1, 0, 0, 0, (-1), 0)]
theorem kX7_daysTillSeen_72 : rf_ck MX7_daysTillSeen 72 cX7_daysTillSeen_72 = true := by decide +kernel
theorem eX7_daysTillSeen_73 : rf_cki MX7_daysTillSeen 73 .ireturn = true := by decide +kernel
abbrev MX7_take : rf_M := (yX7_take, cX7_take, 2, none)
theorem mkX7_take : rf_mk MX7_take 0 1 957 77 955 956 = true := by decide +kernel
def cX7_take_0 : List rf_I := [(.aload_n 1, 1, 1, 0, 0, 0, 0), (.aload_n 0, 1, 0, 0, 0, 0, 0), (.getfield 19, 3, 7, 2, 236, 0, 0)]
theorem kX7_take_0 : rf_ck MX7_take 0 cX7_take_0 = true := by decide +kernel
theorem qX7_take_5 : rf_kc MX7_take 5 45 958 yX11_copyRow 1 = true := by decide +kernel
theorem eX7_take_8 : rf_cki MX7_take 8 .return_ = true := by decide +kernel
abbrev MX7_copyFrom : rf_M := (yX7_copyFrom, cX7_copyFrom, 2, none)
theorem mkX7_copyFrom : rf_mk MX7_copyFrom 0 1 1138 77 1136 1137 = true := by decide +kernel
def cX7_copyFrom_0 : List rf_I := [(.aload_n 0, 1, 0, 0, 0, 0, 0), (.aload_n 1, 1, 1, 0, 0, 0, 0), (.getfield 9, 3, 7, 0, 229, 0, 0), (.putfield 9, 3, 7, 0, 229, 0, 0), (.aload_n 1, 1, 1, 0, 0, 0, 0), (.getfield 15, 3, 7, 1, 232, 0, 0), (.aload_n 0, 1, 0, 0, 0, 0, 0), (.getfield 15, 3, 7, 1, 232, 0, 0)]
theorem kX7_copyFrom_0 : rf_ck MX7_copyFrom 0 cX7_copyFrom_0 = true := by decide +kernel
theorem qX7_copyFrom_16 : rf_kc MX7_copyFrom 16 45 958 yX11_copyRow 1 = true := by decide +kernel
def cX7_copyFrom_19 : List rf_I := [(.aload_n 1, 1, 1, 0, 0, 0, 0), (.getfield 19, 3, 7, 2, 236, 0, 0), (.aload_n 0, 1, 0, 0, 0, 0, 0), (.getfield 19, 3, 7, 2, 236, 0, 0)]
theorem kX7_copyFrom_19 : rf_ck MX7_copyFrom 19 cX7_copyFrom_19 = true := by decide +kernel
theorem qX7_copyFrom_27 : rf_kc MX7_copyFrom 27 45 958 yX11_copyRow 1 = true := by decide +kernel
theorem eX7_copyFrom_30 : rf_cki MX7_copyFrom 30 .return_ = true := by decide +kernel
abbrev MX8_init : rf_M := (yX8_init, cX8_init, 1, none)
theorem mkX8_init : rf_mk MX8_init 2 0 311 80 310 0 = true := by decide +kernel
def cX8_init_0 : List rf_I := [(.aload_n 0, 1, 0, 0, 0, 0, 0), (.invokespecial 3, 3, 0, 0, 312, 0, 0), (.aload_n 0, 1, 0, 0, 0, 0, 0), (.iconst 0, 1, 0, 0, 0, nI 0, 0), (.putfield 9, 3, 8, 0, 313, 0, 0), (.aload_n 0, 1, 0, 0, 0, 0, 0), (.bipush 50, 2, 0, 0, 0, nI 50, 0), (.newarray .int, 2, 0, 50, 0, 0, 0), (.putfield 15, 3, 8, 1, 316, 0, 0), (.aload_n 0, 1, 0, 0, 0, 0, 0), (.bipush 50, 2, 0, 0, 0, nI 50, 0), (.newarray .int, 2, 0, 50, 0, 0, 0), (.putfield 19, 3, 8, 2, 317, 0, 0)]
theorem kX8_init_0 : rf_ck MX8_init 0 cX8_init_0 = true := by decide +kernel
theorem eX8_init_25 : rf_cki MX8_init 25 .return_ = true := by decide +kernel
abbrev MX8_add : rf_M := (yX8_add, cX8_add, 2, none)
theorem mkX8_add : rf_mk MX8_add 0 1 728 80 726 727 = true := by decide +kernel
def cX8_add_0 : List rf_I := [(.aload_n 0, 1, 0, 0, 0, 0, 0), (.getfield 9, 3, 8, 0, 313, 0, 0), (.aload_n 0, 1, 0, 0, 0, 0, 0), (.getfield 15, 3, 8, 1, 316, 0, 0), (.arraylength, 1, 0, 0, 0, 0, 0)]
theorem kX8_add_0 : rf_ck MX8_add 0 cX8_add_0 = true := by decide +kernel
theorem bX8_add_9 : rf_ckb MX8_add 9 (.if_icmp .ge 23) 23 32 = true := by decide +kernel
def cX8_add_12 : List rf_I := [(.aload_n 0, 1, 0, 0, 0, 0, 0), (.getfield 15, 3, 8, 1, 316, 0, 0), (.aload_n 0, 1, 0, 0, 0, 0, 0), (.getfield 9, 3, 8, 0, 313, 0, 0), (.iload_n 1, 1, 1, 0, 0, 0, 0), (.iastore, 1, 0, 0, 0, 0, 0), (.aload_n 0, 1, 0, 0, 0, 0, 0), (.dup, 1, 0, 0, 0, 0, 0), (.getfield 9, 3, 8, 0, 313, 0, 0), (.iconst 1, 1, 0, 0, 0, nI 1, 0), (.iadd, 1, 0, 0, 0, 0, 0), (.putfield 9, 3, 8, 0, 313, 0, 0)]
theorem kX8_add_12 : rf_ck MX8_add 12 cX8_add_12 = true := by decide +kernel
theorem eX8_add_32 : rf_cki MX8_add 32 .return_ = true := by decide +kernel
abbrev MX8_workOut : rf_M := (yX8_workOut, cX8_workOut, 5, (some (.int)))
theorem mkX8_workOut : rf_mk MX8_workOut 0 1 669 80 667 668 = true := by decide +kernel
def cX8_workOut_0 : List rf_I := [(.iconst 0, 1, 0, 0, 0, nI 0, 0), (.istore_n 2, 1, 2, 0, 0, 0, 0), (.iconst 0, 1, 0, 0, 0, nI 0, 0), (.istore_n 3, 1, 3, 0, 0, 0, 0)]
theorem kX8_workOut_0 : rf_ck MX8_workOut 0 cX8_workOut_0 = true := by decide +kernel
def cX8_workOut_4 : List rf_I := [(.iload_n 3, 1, 3, 0, 0, 0, 0), (.aload_n 0, 1, 0, 0, 0, 0, 0), (.getfield 9, 3, 8, 0, 313, 0, 0)]
theorem kX8_workOut_4 : rf_ck MX8_workOut 4 cX8_workOut_4 = true := by decide +kernel
theorem bX8_workOut_9 : rf_ckb MX8_workOut 9 (.if_icmp .ge 145) 145 154 = true := by decide +kernel
def cX8_workOut_12 : List rf_I := [(.aload_n 0, 1, 0, 0, 0, 0, 0), (.getfield 15, 3, 8, 1, 316, 0, 0), (.iload_n 3, 1, 3, 0, 0, 0, 0), (.iaload, 1, 0, 0, 0, 0, 0), (.istore 4, 2, 4, 0, 0, 0, 0), (.iload 4, 2, 4, 0, 0, 0, 0), (.sipush 10000, 3, 0, 0, 0, nI 10000, 0)]
theorem kX8_workOut_12 : rf_ck MX8_workOut 12 cX8_workOut_12 = true := by decide +kernel
theorem bX8_workOut_25 : rf_ckb MX8_workOut 25 (.if_icmp .ge 17) 17 42 = true := by decide +kernel
def cX8_workOut_28 : List rf_I := [(.aload_n 0, 1, 0, 0, 0, 0, 0), (.getfield 19, 3, 8, 2, 317, 0, 0), (.iload_n 2, 1, 2, 0, 0, 0, 0), (.iload 4, 2, 4, 0, 0, 0, 0), (.iastore, 1, 0, 0, 0, 0, 0), (.iinc 2 1, 3, 2, 0, 0, nI 1, 0)]
theorem kX8_workOut_28 : rf_ck MX8_workOut 28 cX8_workOut_28 = true := by decide +kernel
theorem bX8_workOut_39 : rf_ckb MX8_workOut 39 (.goto 109) 109 148 = true := by decide +kernel
def cX8_workOut_42 : List rf_I := [(.iload 4, 2, 4, 0, 0, 0, 0), (.sipush 20000, 3, 0, 0, 0, nI 20000, 0)]
theorem kX8_workOut_42 : rf_ck MX8_workOut 42 cX8_workOut_42 = true := by decide +kernel
theorem bX8_workOut_47 : rf_ckb MX8_workOut 47 (.if_icmp .ge 23) 23 70 = true := by decide +kernel
def cX8_workOut_50 : List rf_I := [(.aload_n 0, 1, 0, 0, 0, 0, 0), (.getfield 19, 3, 8, 2, 317, 0, 0), (.iload_n 2, 1, 2, 0, 0, 0, 0), (.aload_n 1, 1, 1, 0, 0, 0, 0), (.iload 4, 2, 4, 0, 0, 0, 0), (.sipush 10000, 3, 0, 0, 0, nI 10000, 0), (.isub, 1, 0, 0, 0, 0, 0), (.iaload, 1, 0, 0, 0, 0, 0), (.iastore, 1, 0, 0, 0, 0, 0), (.iinc 2 1, 3, 2, 0, 0, nI 1, 0)]
theorem kX8_workOut_50 : rf_ck MX8_workOut 50 cX8_workOut_50 = true := by decide +kernel
theorem bX8_workOut_67 : rf_ckb MX8_workOut 67 (.goto 81) 81 148 = true := by decide +kernel
def cX8_workOut_70 : List rf_I := [(.iload 4, 2, 4, 0, 0, 0, 0), (.sipush 20033, 3, 0, 0, 0, nI 20033, 0)]
theorem kX8_workOut_70 : rf_ck MX8_workOut 70 cX8_workOut_70 = true := by decide +kernel
theorem bX8_workOut_75 : rf_ckb MX8_workOut 75 (.if_icmp .ne 34) 34 109 = true := by decide +kernel
def cX8_workOut_78 : List rf_I := [(.iload_n 2, 1, 2, 0, 0, 0, 0)]
theorem kX8_workOut_78 : rf_ck MX8_workOut 78 cX8_workOut_78 = true := by decide +kernel
theorem bX8_workOut_79 : rf_ckb MX8_workOut 79 (.ifCond .le 30) 30 109 = true := by decide +kernel
def cX8_workOut_82 : List rf_I := [(.aload_n 0, 1, 0, 0, 0, 0, 0), (.getfield 19, 3, 8, 2, 317, 0, 0), (.iload_n 2, 1, 2, 0, 0, 0, 0), (.iconst 1, 1, 0, 0, 0, nI 1, 0), (.isub, 1, 0, 0, 0, 0, 0), (.aload_n 0, 1, 0, 0, 0, 0, 0), (.getfield 19, 3, 8, 2, 317, 0, 0), (.iload_n 2, 1, 2, 0, 0, 0, 0), (.iconst 1, 1, 0, 0, 0, nI 1, 0), (.isub, 1, 0, 0, 0, 0, 0), (.iaload, 1, 0, 0, 0, 0, 0)]
theorem kX8_workOut_82 : rf_ck MX8_workOut 82 cX8_workOut_82 = true := by decide +kernel
theorem bX8_workOut_97 : rf_ckb MX8_workOut 97 (.ifCond .ne 7) 7 104 = true := by decide +kernel
def cX8_workOut_100 : List rf_I := [(.iconst 1, 1, 0, 0, 0, nI 1, 0)]
theorem kX8_workOut_100 : rf_ck MX8_workOut 100 cX8_workOut_100 = true := by decide +kernel
theorem bX8_workOut_101 : rf_ckb MX8_workOut 101 (.goto 4) 4 105 = true := by decide +kernel
def cX8_workOut_104 : List rf_I := [(.iconst 0, 1, 0, 0, 0, nI 0, 0)]
theorem kX8_workOut_104 : rf_ck MX8_workOut 104 cX8_workOut_104 = true := by decide +kernel
def cX8_workOut_105 : List rf_I := [(.iastore, 1, 0, 0, 0, 0, 0)]
theorem kX8_workOut_105 : rf_ck MX8_workOut 105 cX8_workOut_105 = true := by decide +kernel
theorem bX8_workOut_106 : rf_ckb MX8_workOut 106 (.goto 42) 42 148 = true := by decide +kernel
def cX8_workOut_109 : List rf_I := [(.iload_n 2, 1, 2, 0, 0, 0, 0), (.iconst 1, 1, 0, 0, 0, nI 1, 0)]
theorem kX8_workOut_109 : rf_ck MX8_workOut 109 cX8_workOut_109 = true := by decide +kernel
theorem bX8_workOut_111 : rf_ckb MX8_workOut 111 (.if_icmp .le 37) 37 148 = true := by decide +kernel
def cX8_workOut_114 : List rf_I := [(.iinc 2 (-1), 3, 2, 0, 0, (-1), 0), (.aload_n 0, 1, 0, 0, 0, 0, 0), (.getfield 19, 3, 8, 2, 317, 0, 0), (.iload_n 2, 1, 2, 0, 0, 0, 0), (.iconst 1, 1, 0, 0, 0, nI 1, 0), (.isub, 1, 0, 0, 0, 0, 0), (.iload 4, 2, 4, 0, 0, 0, 0), (.sipush 20000, 3, 0, 0, 0, nI 20000, 0), (.isub, 1, 0, 0, 0, 0, 0), (.aload_n 0, 1, 0, 0, 0, 0, 0), (.getfield 19, 3, 8, 2, 317, 0, 0), (.iload_n 2, 1, 2, 0, 0, 0, 0), (.iconst 1, 1, 0, 0, 0, nI 1, 0), (.isub, 1, 0, 0, 0, 0, 0), (.iaload, 1, 0, 0, 0, 0, 0), (.aload_n 0, 1, 0, 0, 0, 0, 0), (.getfield 19, 3, 8, 2, 317, 0, 0), (.iload_n 2, 1, 2, 0, 0, 0, 0), (.iaload, 1, 0, 0, 0, 0, 0)]
theorem kX8_workOut_114 : rf_ck MX8_workOut 114 cX8_workOut_114 = true := by decide +kernel
theorem qX8_workOut_144 : rf_kc MX8_workOut 144 22 670 yX8_join 1 = true := by decide +kernel
def cX8_workOut_147 : List rf_I := [(.iastore, 1, 0, 0, 0, 0, 0)]
theorem kX8_workOut_147 : rf_ck MX8_workOut 147 cX8_workOut_147 = true := by decide +kernel
def cX8_workOut_148 : List rf_I := [(.iinc 3 1, 3, 3, 0, 0, nI 1, 0)]
theorem kX8_workOut_148 : rf_ck MX8_workOut 148 cX8_workOut_148 = true := by decide +kernel
theorem bX8_workOut_151 : rf_ckb MX8_workOut 151 (.goto (-147)) (-147) 4 = true := by decide +kernel
def cX8_workOut_154 : List rf_I := [(.aload_n 0, 1, 0, 0, 0, 0, 0), (.getfield 19, 3, 8, 2, 317, 0, 0), (.iconst 0, 1, 0, 0, 0, nI 0, 0), (.iaload, 1, 0, 0, 0, 0, 0)]
theorem kX8_workOut_154 : rf_ck MX8_workOut 154 cX8_workOut_154 = true := by decide +kernel
theorem eX8_workOut_160 : rf_cki MX8_workOut 160 .ireturn = true := by decide +kernel
abbrev MX8_join : rf_M := (yX8_join, cX8_join, 3, (some (.int)))
theorem mkX8_join : rf_mk MX8_join 1 3 672 80 671 0 = true := by decide +kernel
def cX8_join_0 : List rf_I := [(.iload_n 0, 1, 0, 0, 0, 0, 0)]
theorem kX8_join_0 : rf_ck MX8_join 0 cX8_join_0 = true := by decide +kernel
theorem bX8_join_1 : rf_ckl MX8_join 1 168 [(38, 97), (42, 152), (43, 144), (45, 148), (47, 156), (60, 111), (61, 122), (62, 133), (124, 83)] 169 = true := by decide +kernel
def cX8_join_84 : List rf_I := [(.iload_n 1, 1, 1, 0, 0, 0, 0)]
theorem kX8_join_84 : rf_ck MX8_join 84 cX8_join_84 = true := by decide +kernel
theorem bX8_join_85 : rf_ckb MX8_join 85 (.ifCond .ne 7) 7 92 = true := by decide +kernel
def cX8_join_88 : List rf_I := [(.iload_n 2, 1, 2, 0, 0, 0, 0)]
theorem kX8_join_88 : rf_ck MX8_join 88 cX8_join_88 = true := by decide +kernel
theorem bX8_join_89 : rf_ckb MX8_join 89 (.ifCond .eq 7) 7 96 = true := by decide +kernel
def cX8_join_92 : List rf_I := [(.iconst 1, 1, 0, 0, 0, nI 1, 0)]
theorem kX8_join_92 : rf_ck MX8_join 92 cX8_join_92 = true := by decide +kernel
theorem bX8_join_93 : rf_ckb MX8_join 93 (.goto 4) 4 97 = true := by decide +kernel
def cX8_join_96 : List rf_I := [(.iconst 0, 1, 0, 0, 0, nI 0, 0)]
theorem kX8_join_96 : rf_ck MX8_join 96 cX8_join_96 = true := by decide +kernel
theorem eX8_join_97 : rf_cki MX8_join 97 .ireturn = true := by decide +kernel
def cX8_join_98 : List rf_I := [(.iload_n 1, 1, 1, 0, 0, 0, 0)]
theorem kX8_join_98 : rf_ck MX8_join 98 cX8_join_98 = true := by decide +kernel
theorem bX8_join_99 : rf_ckb MX8_join 99 (.ifCond .eq 11) 11 110 = true := by decide +kernel
def cX8_join_102 : List rf_I := [(.iload_n 2, 1, 2, 0, 0, 0, 0)]
theorem kX8_join_102 : rf_ck MX8_join 102 cX8_join_102 = true := by decide +kernel
theorem bX8_join_103 : rf_ckb MX8_join 103 (.ifCond .eq 7) 7 110 = true := by decide +kernel
def cX8_join_106 : List rf_I := [(.iconst 1, 1, 0, 0, 0, nI 1, 0)]
theorem kX8_join_106 : rf_ck MX8_join 106 cX8_join_106 = true := by decide +kernel
theorem bX8_join_107 : rf_ckb MX8_join 107 (.goto 4) 4 111 = true := by decide +kernel
def cX8_join_110 : List rf_I := [(.iconst 0, 1, 0, 0, 0, nI 0, 0)]
theorem kX8_join_110 : rf_ck MX8_join 110 cX8_join_110 = true := by decide +kernel
theorem eX8_join_111 : rf_cki MX8_join 111 .ireturn = true := by decide +kernel
def cX8_join_112 : List rf_I := [(.iload_n 1, 1, 1, 0, 0, 0, 0), (.iload_n 2, 1, 2, 0, 0, 0, 0)]
theorem kX8_join_112 : rf_ck MX8_join 112 cX8_join_112 = true := by decide +kernel
theorem bX8_join_114 : rf_ckb MX8_join 114 (.if_icmp .ge 7) 7 121 = true := by decide +kernel
def cX8_join_117 : List rf_I := [(.iconst 1, 1, 0, 0, 0, nI 1, 0)]
theorem kX8_join_117 : rf_ck MX8_join 117 cX8_join_117 = true := by decide +kernel
theorem bX8_join_118 : rf_ckb MX8_join 118 (.goto 4) 4 122 = true := by decide +kernel
def cX8_join_121 : List rf_I := [(.iconst 0, 1, 0, 0, 0, nI 0, 0)]
theorem kX8_join_121 : rf_ck MX8_join 121 cX8_join_121 = true := by decide +kernel
theorem eX8_join_122 : rf_cki MX8_join 122 .ireturn = true := by decide +kernel
def cX8_join_123 : List rf_I := [(.iload_n 1, 1, 1, 0, 0, 0, 0), (.iload_n 2, 1, 2, 0, 0, 0, 0)]
theorem kX8_join_123 : rf_ck MX8_join 123 cX8_join_123 = true := by decide +kernel
theorem bX8_join_125 : rf_ckb MX8_join 125 (.if_icmp .ne 7) 7 132 = true := by decide +kernel
def cX8_join_128 : List rf_I := [(.iconst 1, 1, 0, 0, 0, nI 1, 0)]
theorem kX8_join_128 : rf_ck MX8_join 128 cX8_join_128 = true := by decide +kernel
theorem bX8_join_129 : rf_ckb MX8_join 129 (.goto 4) 4 133 = true := by decide +kernel
def cX8_join_132 : List rf_I := [(.iconst 0, 1, 0, 0, 0, nI 0, 0)]
theorem kX8_join_132 : rf_ck MX8_join 132 cX8_join_132 = true := by decide +kernel
theorem eX8_join_133 : rf_cki MX8_join 133 .ireturn = true := by decide +kernel
def cX8_join_134 : List rf_I := [(.iload_n 1, 1, 1, 0, 0, 0, 0), (.iload_n 2, 1, 2, 0, 0, 0, 0)]
theorem kX8_join_134 : rf_ck MX8_join 134 cX8_join_134 = true := by decide +kernel
theorem bX8_join_136 : rf_ckb MX8_join 136 (.if_icmp .le 7) 7 143 = true := by decide +kernel
def cX8_join_139 : List rf_I := [(.iconst 1, 1, 0, 0, 0, nI 1, 0)]
theorem kX8_join_139 : rf_ck MX8_join 139 cX8_join_139 = true := by decide +kernel
theorem bX8_join_140 : rf_ckb MX8_join 140 (.goto 4) 4 144 = true := by decide +kernel
def cX8_join_143 : List rf_I := [(.iconst 0, 1, 0, 0, 0, nI 0, 0)]
theorem kX8_join_143 : rf_ck MX8_join 143 cX8_join_143 = true := by decide +kernel
theorem eX8_join_144 : rf_cki MX8_join 144 .ireturn = true := by decide +kernel
def cX8_join_145 : List rf_I := [(.iload_n 1, 1, 1, 0, 0, 0, 0), (.iload_n 2, 1, 2, 0, 0, 0, 0), (.iadd, 1, 0, 0, 0, 0, 0)]
theorem kX8_join_145 : rf_ck MX8_join 145 cX8_join_145 = true := by decide +kernel
theorem eX8_join_148 : rf_cki MX8_join 148 .ireturn = true := by decide +kernel
def cX8_join_149 : List rf_I := [(.iload_n 1, 1, 1, 0, 0, 0, 0), (.iload_n 2, 1, 2, 0, 0, 0, 0), (.isub, 1, 0, 0, 0, 0, 0)]
theorem kX8_join_149 : rf_ck MX8_join 149 cX8_join_149 = true := by decide +kernel
theorem eX8_join_152 : rf_cki MX8_join 152 .ireturn = true := by decide +kernel
def cX8_join_153 : List rf_I := [(.iload_n 1, 1, 1, 0, 0, 0, 0), (.iload_n 2, 1, 2, 0, 0, 0, 0), (.imul, 1, 0, 0, 0, 0, 0)]
theorem kX8_join_153 : rf_ck MX8_join 153 cX8_join_153 = true := by decide +kernel
theorem eX8_join_156 : rf_cki MX8_join 156 .ireturn = true := by decide +kernel
def cX8_join_157 : List rf_I := [(.iload_n 2, 1, 2, 0, 0, 0, 0)]
theorem kX8_join_157 : rf_ck MX8_join 157 cX8_join_157 = true := by decide +kernel
theorem bX8_join_158 : rf_ckb MX8_join 158 (.ifCond .ne 7) 7 165 = true := by decide +kernel
def cX8_join_161 : List rf_I := [(.iconst 0, 1, 0, 0, 0, nI 0, 0)]
theorem kX8_join_161 : rf_ck MX8_join 161 cX8_join_161 = true := by decide +kernel
theorem bX8_join_162 : rf_ckb MX8_join 162 (.goto 6) 6 168 = true := by decide +kernel
def cX8_join_165 : List rf_I := [(.iload_n 1, 1, 1, 0, 0, 0, 0), (.iload_n 2, 1, 2, 0, 0, 0, 0), (.idiv, 1, 0, 0, 0, 0, 0)]
theorem kX8_join_165 : rf_ck MX8_join 165 cX8_join_165 = true := by decide +kernel
theorem eX8_join_168 : rf_cki MX8_join 168 .ireturn = true := by decide +kernel
def cX8_join_169 : List rf_I := [(.iload_n 2, 1, 2, 0, 0, 0, 0)]
theorem kX8_join_169 : rf_ck MX8_join 169 cX8_join_169 = true := by decide +kernel
theorem bX8_join_170 : rf_ckb MX8_join 170 (.ifCond .ne 7) 7 177 = true := by decide +kernel
def cX8_join_173 : List rf_I := [(.iconst 0, 1, 0, 0, 0, nI 0, 0)]
theorem kX8_join_173 : rf_ck MX8_join 173 cX8_join_173 = true := by decide +kernel
theorem bX8_join_174 : rf_ckb MX8_join 174 (.goto 6) 6 180 = true := by decide +kernel
def cX8_join_177 : List rf_I := [(.iload_n 1, 1, 1, 0, 0, 0, 0), (.iload_n 2, 1, 2, 0, 0, 0, 0), (.irem, 1, 0, 0, 0, 0, 0)]
theorem kX8_join_177 : rf_ck MX8_join 177 cX8_join_177 = true := by decide +kernel
theorem eX8_join_180 : rf_cki MX8_join 180 .ireturn = true := by decide +kernel
abbrev MX8_copyFrom : rf_M := (yX8_copyFrom, cX8_copyFrom, 2, none)
theorem mkX8_copyFrom : rf_mk MX8_copyFrom 0 1 830 80 828 829 = true := by decide +kernel
def cX8_copyFrom_0 : List rf_I := [(.aload_n 0, 1, 0, 0, 0, 0, 0), (.aload_n 1, 1, 1, 0, 0, 0, 0), (.getfield 9, 3, 8, 0, 313, 0, 0), (.putfield 9, 3, 8, 0, 313, 0, 0), (.aload_n 1, 1, 1, 0, 0, 0, 0), (.getfield 15, 3, 8, 1, 316, 0, 0), (.aload_n 0, 1, 0, 0, 0, 0, 0), (.getfield 15, 3, 8, 1, 316, 0, 0)]
theorem kX8_copyFrom_0 : rf_ck MX8_copyFrom 0 cX8_copyFrom_0 = true := by decide +kernel
theorem qX8_copyFrom_16 : rf_kc MX8_copyFrom 16 26 831 yX11_copyRow 1 = true := by decide +kernel
theorem eX8_copyFrom_19 : rf_cki MX8_copyFrom 19 .return_ = true := by decide +kernel
abbrev MX9_init : rf_M := (yX9_init, cX9_init, 1, none)
theorem mkX9_init : rf_mk MX9_init 2 0 420 83 419 0 = true := by decide +kernel
def cX9_init_0 : List rf_I := [(.aload_n 0, 1, 0, 0, 0, 0, 0), (.invokespecial 3, 3, 0, 0, 421, 0, 0), (.aload_n 0, 1, 0, 0, 0, 0, 0), (.iconst 0, 1, 0, 0, 0, nI 0, 0), (.putfield 9, 3, 9, 0, 422, 0, 0), (.aload_n 0, 1, 0, 0, 0, 0, 0), (.bipush 40, 2, 0, 0, 0, nI 40, 0), (.newarray .int, 2, 0, 40, 0, 0, 0), (.putfield 15, 3, 9, 1, 424, 0, 0), (.aload_n 0, 1, 0, 0, 0, 0, 0), (.iconst 0, 1, 0, 0, 0, nI 0, 0), (.putfield 19, 3, 9, 2, 426, 0, 0), (.aload_n 0, 1, 0, 0, 0, 0, 0), (.iconst 0, 1, 0, 0, 0, nI 0, 0), (.putfield 22, 3, 9, 3, 427, 0, 0), (.aload_n 0, 1, 0, 0, 0, 0, 0), (.iconst 0, 1, 0, 0, 0, nI 0, 0), (.putfield 25, 3, 9, 4, 428, 0, 0)]
theorem kX9_init_0 : rf_ck MX9_init 0 cX9_init_0 = true := by decide +kernel
theorem eX9_init_32 : rf_cki MX9_init 32 .return_ = true := by decide +kernel
abbrev MX9_hear : rf_M := (yX9_hear, cX9_hear, 5, (some (.int)))
theorem mkX9_hear : rf_mk MX9_hear 0 4 1072 83 1070 1071 = true := by decide +kernel
def cX9_hear_0 : List rf_I := [(.aload_n 0, 1, 0, 0, 0, 0, 0), (.aload_n 1, 1, 1, 0, 0, 0, 0), (.getfield 28, 3, 3, 3, 176, 0, 0), (.iload_n 2, 1, 2, 0, 0, 0, 0), (.iaload, 1, 0, 0, 0, 0, 0), (.putfield 19, 3, 9, 2, 426, 0, 0), (.aload_n 0, 1, 0, 0, 0, 0, 0), (.iload_n 2, 1, 2, 0, 0, 0, 0), (.putfield 22, 3, 9, 3, 427, 0, 0), (.aload_n 0, 1, 0, 0, 0, 0, 0), (.aload_n 1, 1, 1, 0, 0, 0, 0), (.getfield 33, 3, 3, 7, 189, 0, 0), (.iload_n 2, 1, 2, 0, 0, 0, 0), (.iaload, 1, 0, 0, 0, 0, 0), (.putfield 25, 3, 9, 4, 428, 0, 0), (.aload_n 0, 1, 0, 0, 0, 0, 0), (.iconst 0, 1, 0, 0, 0, nI 0, 0), (.putfield 9, 3, 9, 0, 422, 0, 0), (.aload_n 0, 1, 0, 0, 0, 0, 0), (.aload_n 0, 1, 0, 0, 0, 0, 0), (.getfield 19, 3, 9, 2, 426, 0, 0), (.iload_n 3, 1, 3, 0, 0, 0, 0), (.iload 4, 2, 4, 0, 0, 0, 0), (.iconst 0, 1, 0, 0, 0, nI 0, 0)]
theorem kX9_hear_0 : rf_ck MX9_hear 0 cX9_hear_0 = true := by decide +kernel
theorem qX9_hear_39 : rf_kc MX9_hear 39 36 1073 yX9_speak 0 = true := by decide +kernel
theorem eX9_hear_42 : rf_cki MX9_hear 42 .ireturn = true := by decide +kernel
abbrev MX9_speak : rf_M := (yX9_speak, cX9_speak, 7, (some (.int)))
theorem mkX9_speak : rf_mk MX9_speak 0 4 1076 83 1075 18 = true := by decide +kernel
def cX9_speak_0 : List rf_I := [(.iload_n 1, 1, 1, 0, 0, 0, 0), (.istore 5, 2, 5, 0, 0, 0, 0), (.iconst 0, 1, 0, 0, 0, nI 0, 0), (.istore 6, 2, 6, 0, 0, 0, 0)]
theorem kX9_speak_0 : rf_ck MX9_speak 0 cX9_speak_0 = true := by decide +kernel
def cX9_speak_6 : List rf_I := [(.iload 6, 2, 6, 0, 0, 0, 0), (.bipush 8, 2, 0, 0, 0, nI 8, 0)]
theorem kX9_speak_6 : rf_ck MX9_speak 6 cX9_speak_6 = true := by decide +kernel
theorem bX9_speak_10 : rf_ckb MX9_speak 10 (.if_icmp .ge 30) 30 40 = true := by decide +kernel
def cX9_speak_13 : List rf_I := [(.getstatic 40, 3, 1002, 0, 1077, 0, 0), (.iload 5, 2, 5, 0, 0, 0, 0), (.iconst 4, 1, 0, 0, 0, nI 4, 0), (.imul, 1, 0, 0, 0, 0, 0), (.iload_n 2, 1, 2, 0, 0, 0, 0), (.iadd, 1, 0, 0, 0, 0, 0), (.iaload, 1, 0, 0, 0, 0, 0)]
theorem kX9_speak_13 : rf_ck MX9_speak 13 cX9_speak_13 = true := by decide +kernel
theorem bX9_speak_23 : rf_ckb MX9_speak 23 (.ifCond .ne 17) 17 40 = true := by decide +kernel
def cX9_speak_26 : List rf_I := [(.getstatic 43, 3, 1001, 0, 1079, 0, 0), (.iload 5, 2, 5, 0, 0, 0, 0), (.iaload, 1, 0, 0, 0, 0, 0), (.istore 5, 2, 5, 0, 0, 0, 0), (.iinc 6 1, 3, 6, 0, 0, nI 1, 0)]
theorem kX9_speak_26 : rf_ck MX9_speak 26 cX9_speak_26 = true := by decide +kernel
theorem bX9_speak_37 : rf_ckb MX9_speak 37 (.goto (-31)) (-31) 6 = true := by decide +kernel
def cX9_speak_40 : List rf_I := [(.iload 4, 2, 4, 0, 0, 0, 0), (.bipush 30, 2, 0, 0, 0, nI 30, 0)]
theorem kX9_speak_40 : rf_ck MX9_speak 40 cX9_speak_40 = true := by decide +kernel
theorem bX9_speak_44 : rf_ckb MX9_speak 44 (.if_icmp .le 5) 5 49 = true := by decide +kernel
def cX9_speak_47 : List rf_I := [(.iconst 0, 1, 0, 0, 0, nI 0, 0)]
theorem kX9_speak_47 : rf_ck MX9_speak 47 cX9_speak_47 = true := by decide +kernel
theorem eX9_speak_48 : rf_cki MX9_speak 48 .ireturn = true := by decide +kernel
def cX9_speak_49 : List rf_I := [(.getstatic 40, 3, 1002, 0, 1077, 0, 0), (.iload 5, 2, 5, 0, 0, 0, 0), (.iconst 4, 1, 0, 0, 0, nI 4, 0), (.imul, 1, 0, 0, 0, 0, 0), (.iload_n 2, 1, 2, 0, 0, 0, 0), (.iadd, 1, 0, 0, 0, 0, 0), (.iaload, 1, 0, 0, 0, 0, 0), (.istore 6, 2, 6, 0, 0, 0, 0), (.aload_n 0, 1, 0, 0, 0, 0, 0), (.getfield 9, 3, 9, 0, 422, 0, 0), (.bipush 40, 2, 0, 0, 0, nI 40, 0)]
theorem kX9_speak_49 : rf_ck MX9_speak 49 cX9_speak_49 = true := by decide +kernel
theorem bX9_speak_67 : rf_ckb MX9_speak 67 (.if_icmp .ge 24) 24 91 = true := by decide +kernel
def cX9_speak_70 : List rf_I := [(.aload_n 0, 1, 0, 0, 0, 0, 0), (.getfield 15, 3, 9, 1, 424, 0, 0), (.aload_n 0, 1, 0, 0, 0, 0, 0), (.getfield 9, 3, 9, 0, 422, 0, 0), (.iload 6, 2, 6, 0, 0, 0, 0), (.iastore, 1, 0, 0, 0, 0, 0), (.aload_n 0, 1, 0, 0, 0, 0, 0), (.dup, 1, 0, 0, 0, 0, 0), (.getfield 9, 3, 9, 0, 422, 0, 0), (.iconst 1, 1, 0, 0, 0, nI 1, 0), (.iadd, 1, 0, 0, 0, 0, 0), (.putfield 9, 3, 9, 0, 422, 0, 0)]
theorem kX9_speak_70 : rf_ck MX9_speak 70 cX9_speak_70 = true := by decide +kernel
def cX9_speak_91 : List rf_I := [(.aload_n 0, 1, 0, 0, 0, 0, 0), (.iload 6, 2, 6, 0, 0, 0, 0), (.getstatic 43, 3, 1001, 0, 1079, 0, 0), (.iload 5, 2, 5, 0, 0, 0, 0), (.iaload, 1, 0, 0, 0, 0, 0), (.iload_n 3, 1, 3, 0, 0, 0, 0), (.iload 4, 2, 4, 0, 0, 0, 0), (.iconst 1, 1, 0, 0, 0, nI 1, 0), (.iadd, 1, 0, 0, 0, 0, 0)]
theorem kX9_speak_91 : rf_ck MX9_speak 91 cX9_speak_91 = true := by decide +kernel
theorem qX9_speak_105 : rf_kc MX9_speak 105 46 1080 yX9_runBody 0 = true := by decide +kernel
theorem eX9_speak_108 : rf_cki MX9_speak 108 .ireturn = true := by decide +kernel
abbrev MX9_runBody : rf_M := (yX9_runBody, cX9_runBody, 5, (some (.int)))
theorem mkX9_runBody : rf_mk MX9_runBody 0 4 1083 83 1082 19 = true := by decide +kernel
def cX9_runBody_0 : List rf_I := [(.iload_n 1, 1, 1, 0, 0, 0, 0)]
theorem kX9_runBody_0 : rf_ck MX9_runBody 0 cX9_runBody_0 = true := by decide +kernel
theorem bX9_runBody_1 : rf_ckl MX9_runBody 1 285 [(10, 107), (11, 114), (12, 129), (13, 136), (20, 162), (30, 174), (40, 197), (50, 208), (51, 220), (60, 232), (70, 247), (80, 270)] 286 = true := by decide +kernel
def cX9_runBody_108 : List rf_I := [(.iload_n 3, 1, 3, 0, 0, 0, 0), (.aload_n 0, 1, 0, 0, 0, 0, 0), (.getfield 22, 3, 9, 3, 427, 0, 0), (.iadd, 1, 0, 0, 0, 0, 0)]
theorem kX9_runBody_108 : rf_ck MX9_runBody 108 cX9_runBody_108 = true := by decide +kernel
theorem eX9_runBody_114 : rf_cki MX9_runBody 114 .ireturn = true := by decide +kernel
def cX9_runBody_115 : List rf_I := [(.aload_n 0, 1, 0, 0, 0, 0, 0), (.aload_n 0, 1, 0, 0, 0, 0, 0), (.getfield 19, 3, 9, 2, 426, 0, 0), (.iconst 0, 1, 0, 0, 0, nI 0, 0), (.iload_n 3, 1, 3, 0, 0, 0, 0), (.iload 4, 2, 4, 0, 0, 0, 0)]
theorem kX9_runBody_115 : rf_ck MX9_runBody 115 cX9_runBody_115 = true := by decide +kernel
theorem qX9_runBody_124 : rf_kc MX9_runBody 124 36 1073 yX9_speak 0 = true := by decide +kernel
def cX9_runBody_127 : List rf_I := [(.iconst 2, 1, 0, 0, 0, nI 2, 0), (.imul, 1, 0, 0, 0, 0, 0)]
theorem kX9_runBody_127 : rf_ck MX9_runBody 127 cX9_runBody_127 = true := by decide +kernel
theorem eX9_runBody_129 : rf_cki MX9_runBody 129 .ireturn = true := by decide +kernel
def cX9_runBody_130 : List rf_I := [(.iload_n 3, 1, 3, 0, 0, 0, 0), (.aload_n 0, 1, 0, 0, 0, 0, 0), (.getfield 25, 3, 9, 4, 428, 0, 0), (.isub, 1, 0, 0, 0, 0, 0)]
theorem kX9_runBody_130 : rf_ck MX9_runBody 130 cX9_runBody_130 = true := by decide +kernel
theorem eX9_runBody_136 : rf_cki MX9_runBody 136 .ireturn = true := by decide +kernel
def cX9_runBody_137 : List rf_I := [(.aload_n 0, 1, 0, 0, 0, 0, 0), (.aload_n 0, 1, 0, 0, 0, 0, 0), (.getfield 19, 3, 9, 2, 426, 0, 0), (.iconst 1, 1, 0, 0, 0, nI 1, 0), (.iload_n 3, 1, 3, 0, 0, 0, 0), (.iload 4, 2, 4, 0, 0, 0, 0)]
theorem kX9_runBody_137 : rf_ck MX9_runBody 137 cX9_runBody_137 = true := by decide +kernel
theorem qX9_runBody_146 : rf_kc MX9_runBody 146 36 1073 yX9_speak 0 = true := by decide +kernel
def cX9_runBody_149 : List rf_I := [(.aload_n 0, 1, 0, 0, 0, 0, 0), (.aload_n 0, 1, 0, 0, 0, 0, 0), (.getfield 19, 3, 9, 2, 426, 0, 0), (.iconst 2, 1, 0, 0, 0, nI 2, 0), (.iload_n 3, 1, 3, 0, 0, 0, 0), (.iload 4, 2, 4, 0, 0, 0, 0)]
theorem kX9_runBody_149 : rf_ck MX9_runBody 149 cX9_runBody_149 = true := by decide +kernel
theorem qX9_runBody_158 : rf_kc MX9_runBody 158 36 1073 yX9_speak 0 = true := by decide +kernel
def cX9_runBody_161 : List rf_I := [(.ixor, 1, 0, 0, 0, 0, 0)]
theorem kX9_runBody_161 : rf_ck MX9_runBody 161 cX9_runBody_161 = true := by decide +kernel
theorem eX9_runBody_162 : rf_cki MX9_runBody 162 .ireturn = true := by decide +kernel
def cX9_runBody_163 : List rf_I := [(.aload_n 0, 1, 0, 0, 0, 0, 0), (.iload_n 2, 1, 2, 0, 0, 0, 0), (.iconst 3, 1, 0, 0, 0, nI 3, 0), (.iload_n 3, 1, 3, 0, 0, 0, 0), (.iload 4, 2, 4, 0, 0, 0, 0)]
theorem kX9_runBody_163 : rf_ck MX9_runBody 163 cX9_runBody_163 = true := by decide +kernel
theorem qX9_runBody_169 : rf_kc MX9_runBody 169 36 1073 yX9_speak 0 = true := by decide +kernel
def cX9_runBody_172 : List rf_I := [(.iconst 1, 1, 0, 0, 0, nI 1, 0), (.iadd, 1, 0, 0, 0, 0, 0)]
theorem kX9_runBody_172 : rf_ck MX9_runBody 172 cX9_runBody_172 = true := by decide +kernel
theorem eX9_runBody_174 : rf_cki MX9_runBody 174 .ireturn = true := by decide +kernel
def cX9_runBody_175 : List rf_I := [(.aload_n 0, 1, 0, 0, 0, 0, 0), (.iload_n 2, 1, 2, 0, 0, 0, 0), (.iconst 1, 1, 0, 0, 0, nI 1, 0), (.iload_n 3, 1, 3, 0, 0, 0, 0), (.iload 4, 2, 4, 0, 0, 0, 0)]
theorem kX9_runBody_175 : rf_ck MX9_runBody 175 cX9_runBody_175 = true := by decide +kernel
theorem qX9_runBody_181 : rf_kc MX9_runBody 181 36 1073 yX9_speak 0 = true := by decide +kernel
def cX9_runBody_184 : List rf_I := [(.aload_n 0, 1, 0, 0, 0, 0, 0), (.aload_n 0, 1, 0, 0, 0, 0, 0), (.getfield 19, 3, 9, 2, 426, 0, 0), (.iconst 2, 1, 0, 0, 0, nI 2, 0), (.iconst 1, 1, 0, 0, 0, nI 1, 0), (.iload 4, 2, 4, 0, 0, 0, 0)]
theorem kX9_runBody_184 : rf_ck MX9_runBody 184 cX9_runBody_184 = true := by decide +kernel
theorem qX9_runBody_193 : rf_kc MX9_runBody 193 36 1073 yX9_speak 0 = true := by decide +kernel
def cX9_runBody_196 : List rf_I := [(.isub, 1, 0, 0, 0, 0, 0)]
theorem kX9_runBody_196 : rf_ck MX9_runBody 196 cX9_runBody_196 = true := by decide +kernel
theorem eX9_runBody_197 : rf_cki MX9_runBody 197 .ireturn = true := by decide +kernel
def cX9_runBody_198 : List rf_I := [(.aload_n 0, 1, 0, 0, 0, 0, 0), (.iload_n 2, 1, 2, 0, 0, 0, 0), (.iconst 2, 1, 0, 0, 0, nI 2, 0), (.iload_n 3, 1, 3, 0, 0, 0, 0), (.iload 4, 2, 4, 0, 0, 0, 0)]
theorem kX9_runBody_198 : rf_ck MX9_runBody 198 cX9_runBody_198 = true := by decide +kernel
theorem qX9_runBody_204 : rf_kc MX9_runBody 204 36 1073 yX9_speak 0 = true := by decide +kernel
def cX9_runBody_207 : List rf_I := [(.ineg, 1, 0, 0, 0, 0, 0)]
theorem kX9_runBody_207 : rf_ck MX9_runBody 207 cX9_runBody_207 = true := by decide +kernel
theorem eX9_runBody_208 : rf_cki MX9_runBody 208 .ireturn = true := by decide +kernel
def cX9_runBody_209 : List rf_I := [(.aload_n 0, 1, 0, 0, 0, 0, 0), (.iload_n 2, 1, 2, 0, 0, 0, 0), (.iconst 0, 1, 0, 0, 0, nI 0, 0), (.iload_n 3, 1, 3, 0, 0, 0, 0), (.iload 4, 2, 4, 0, 0, 0, 0)]
theorem kX9_runBody_209 : rf_ck MX9_runBody 209 cX9_runBody_209 = true := by decide +kernel
theorem qX9_runBody_215 : rf_kc MX9_runBody 215 36 1073 yX9_speak 0 = true := by decide +kernel
def cX9_runBody_218 : List rf_I := [(.iconst 3, 1, 0, 0, 0, nI 3, 0), (.imul, 1, 0, 0, 0, 0, 0)]
theorem kX9_runBody_218 : rf_ck MX9_runBody 218 cX9_runBody_218 = true := by decide +kernel
theorem eX9_runBody_220 : rf_cki MX9_runBody 220 .ireturn = true := by decide +kernel
def cX9_runBody_221 : List rf_I := [(.aload_n 0, 1, 0, 0, 0, 0, 0), (.iload_n 2, 1, 2, 0, 0, 0, 0), (.iconst 1, 1, 0, 0, 0, nI 1, 0), (.iload_n 3, 1, 3, 0, 0, 0, 0), (.iconst 1, 1, 0, 0, 0, nI 1, 0), (.iadd, 1, 0, 0, 0, 0, 0), (.iload 4, 2, 4, 0, 0, 0, 0)]
theorem kX9_runBody_221 : rf_ck MX9_runBody 221 cX9_runBody_221 = true := by decide +kernel
theorem qX9_runBody_229 : rf_kc MX9_runBody 229 36 1073 yX9_speak 0 = true := by decide +kernel
theorem eX9_runBody_232 : rf_cki MX9_runBody 232 .ireturn = true := by decide +kernel
def cX9_runBody_233 : List rf_I := [(.aload_n 0, 1, 0, 0, 0, 0, 0), (.iload_n 2, 1, 2, 0, 0, 0, 0), (.iconst 0, 1, 0, 0, 0, nI 0, 0), (.iload_n 3, 1, 3, 0, 0, 0, 0), (.iload 4, 2, 4, 0, 0, 0, 0)]
theorem kX9_runBody_233 : rf_ck MX9_runBody 233 cX9_runBody_233 = true := by decide +kernel
theorem qX9_runBody_239 : rf_kc MX9_runBody 239 36 1073 yX9_speak 0 = true := by decide +kernel
def cX9_runBody_242 : List rf_I := [(.aload_n 0, 1, 0, 0, 0, 0, 0), (.getfield 25, 3, 9, 4, 428, 0, 0), (.ixor, 1, 0, 0, 0, 0, 0)]
theorem kX9_runBody_242 : rf_ck MX9_runBody 242 cX9_runBody_242 = true := by decide +kernel
theorem eX9_runBody_247 : rf_cki MX9_runBody 247 .ireturn = true := by decide +kernel
def cX9_runBody_248 : List rf_I := [(.aload_n 0, 1, 0, 0, 0, 0, 0), (.aload_n 0, 1, 0, 0, 0, 0, 0), (.getfield 19, 3, 9, 2, 426, 0, 0), (.iconst 0, 1, 0, 0, 0, nI 0, 0), (.iconst 2, 1, 0, 0, 0, nI 2, 0), (.iload 4, 2, 4, 0, 0, 0, 0)]
theorem kX9_runBody_248 : rf_ck MX9_runBody 248 cX9_runBody_248 = true := by decide +kernel
theorem qX9_runBody_257 : rf_kc MX9_runBody 257 36 1073 yX9_speak 0 = true := by decide +kernel
def cX9_runBody_260 : List rf_I := [(.aload_n 0, 1, 0, 0, 0, 0, 0), (.iload_n 2, 1, 2, 0, 0, 0, 0), (.iconst 3, 1, 0, 0, 0, nI 3, 0), (.iload_n 3, 1, 3, 0, 0, 0, 0), (.iload 4, 2, 4, 0, 0, 0, 0)]
theorem kX9_runBody_260 : rf_ck MX9_runBody 260 cX9_runBody_260 = true := by decide +kernel
theorem qX9_runBody_266 : rf_kc MX9_runBody 266 36 1073 yX9_speak 0 = true := by decide +kernel
def cX9_runBody_269 : List rf_I := [(.isub, 1, 0, 0, 0, 0, 0)]
theorem kX9_runBody_269 : rf_ck MX9_runBody 269 cX9_runBody_269 = true := by decide +kernel
theorem eX9_runBody_270 : rf_cki MX9_runBody 270 .ireturn = true := by decide +kernel
def cX9_runBody_271 : List rf_I := [(.aload_n 0, 1, 0, 0, 0, 0, 0), (.iload_n 2, 1, 2, 0, 0, 0, 0), (.iconst 0, 1, 0, 0, 0, nI 0, 0), (.iload_n 3, 1, 3, 0, 0, 0, 0), (.iload 4, 2, 4, 0, 0, 0, 0)]
theorem kX9_runBody_271 : rf_ck MX9_runBody 271 cX9_runBody_271 = true := by decide +kernel
theorem qX9_runBody_277 : rf_kc MX9_runBody 277 36 1073 yX9_speak 0 = true := by decide +kernel
def cX9_runBody_280 : List rf_I := [(.aload_n 0, 1, 0, 0, 0, 0, 0), (.getfield 22, 3, 9, 3, 427, 0, 0), (.iadd, 1, 0, 0, 0, 0, 0)]
theorem kX9_runBody_280 : rf_ck MX9_runBody 280 cX9_runBody_280 = true := by decide +kernel
theorem eX9_runBody_285 : rf_cki MX9_runBody 285 .ireturn = true := by decide +kernel
def cX9_runBody_286 : List rf_I := [(.aload_n 0, 1, 0, 0, 0, 0, 0), (.iload_n 2, 1, 2, 0, 0, 0, 0), (.iconst 2, 1, 0, 0, 0, nI 2, 0), (.iload_n 3, 1, 3, 0, 0, 0, 0), (.iload 4, 2, 4, 0, 0, 0, 0)]
theorem kX9_runBody_286 : rf_ck MX9_runBody 286 cX9_runBody_286 = true := by decide +kernel
theorem qX9_runBody_292 : rf_kc MX9_runBody 292 36 1073 yX9_speak 0 = true := by decide +kernel
def cX9_runBody_295 : List rf_I := [(.iconst 5, 1, 0, 0, 0, nI 5, 0), (.imul, 1, 0, 0, 0, 0, 0)]
theorem kX9_runBody_295 : rf_ck MX9_runBody 295 cX9_runBody_295 = true := by decide +kernel
theorem eX9_runBody_297 : rf_cki MX9_runBody 297 .ireturn = true := by decide +kernel
abbrev MX10_init : rf_M := (yX10_init, cX10_init, 1, none)
theorem mkX10_init : rf_mk MX10_init 2 0 105 73 104 0 = true := by decide +kernel
def cX10_init_0 : List rf_I := [(.aload_n 0, 1, 0, 0, 0, 0, 0), (.invokespecial 3, 3, 0, 0, 106, 0, 0), (.aload_n 0, 1, 0, 0, 0, 0, 0), (.new 9, 3, 4, 0, 107, 0, 0), (.dup, 1, 0, 0, 0, 0, 0)]
theorem kX10_init_0 : rf_ck MX10_init 0 cX10_init_0 = true := by decide +kernel
theorem qX10_init_9 : rf_kc MX10_init 9 11 109 yX4_init 2 = true := by decide +kernel
def cX10_init_12 : List rf_I := [(.putfield 12, 3, 10, 0, 325, 0, 0), (.aload_n 0, 1, 0, 0, 0, 0, 0), (.new 18, 3, 3, 0, 158, 0, 0), (.dup, 1, 0, 0, 0, 0, 0)]
theorem kX10_init_12 : rf_ck MX10_init 12 cX10_init_12 = true := by decide +kernel
theorem qX10_init_20 : rf_kc MX10_init 20 20 160 yX3_init 2 = true := by decide +kernel
def cX10_init_23 : List rf_I := [(.putfield 21, 3, 10, 1, 328, 0, 0), (.aload_n 0, 1, 0, 0, 0, 0, 0), (.new 25, 3, 7, 0, 223, 0, 0), (.dup, 1, 0, 0, 0, 0, 0)]
theorem kX10_init_23 : rf_ck MX10_init 23 cX10_init_23 = true := by decide +kernel
theorem qX10_init_31 : rf_kc MX10_init 31 27 225 yX7_init 2 = true := by decide +kernel
def cX10_init_34 : List rf_I := [(.putfield 28, 3, 10, 2, 331, 0, 0), (.aload_n 0, 1, 0, 0, 0, 0, 0), (.new 32, 3, 1, 0, 246, 0, 0), (.dup, 1, 0, 0, 0, 0, 0)]
theorem kX10_init_34 : rf_ck MX10_init 34 cX10_init_34 = true := by decide +kernel
theorem qX10_init_42 : rf_kc MX10_init 42 34 248 yX1_init 2 = true := by decide +kernel
def cX10_init_45 : List rf_I := [(.putfield 35, 3, 10, 3, 334, 0, 0), (.aload_n 0, 1, 0, 0, 0, 0, 0), (.new 39, 3, 0, 0, 283, 0, 0), (.dup, 1, 0, 0, 0, 0, 0)]
theorem kX10_init_45 : rf_ck MX10_init 45 cX10_init_45 = true := by decide +kernel
theorem qX10_init_53 : rf_kc MX10_init 53 41 285 yX0_init 2 = true := by decide +kernel
def cX10_init_56 : List rf_I := [(.putfield 42, 3, 10, 4, 336, 0, 0), (.aload_n 0, 1, 0, 0, 0, 0, 0), (.new 46, 3, 8, 0, 307, 0, 0), (.dup, 1, 0, 0, 0, 0, 0)]
theorem kX10_init_56 : rf_ck MX10_init 56 cX10_init_56 = true := by decide +kernel
theorem qX10_init_64 : rf_kc MX10_init 64 48 309 yX8_init 2 = true := by decide +kernel
def cX10_init_67 : List rf_I := [(.putfield 49, 3, 10, 5, 338, 0, 0), (.aload_n 0, 1, 0, 0, 0, 0, 0), (.new 46, 3, 8, 0, 307, 0, 0), (.dup, 1, 0, 0, 0, 0, 0)]
theorem kX10_init_67 : rf_ck MX10_init 67 cX10_init_67 = true := by decide +kernel
theorem qX10_init_75 : rf_kc MX10_init 75 48 309 yX8_init 2 = true := by decide +kernel
def cX10_init_78 : List rf_I := [(.putfield 53, 3, 10, 6, 339, 0, 0), (.aload_n 0, 1, 0, 0, 0, 0, 0), (.iconst 5, 1, 0, 0, 0, nI 5, 0), (.newarray .int, 2, 0, 5, 0, 0, 0), (.putfield 56, 3, 10, 7, 340, 0, 0), (.aload_n 0, 1, 0, 0, 0, 0, 0), (.bipush 12, 2, 0, 0, 0, nI 12, 0), (.newarray .int, 2, 0, 12, 0, 0, 0), (.putfield 60, 3, 10, 8, 341, 0, 0), (.aload_n 0, 1, 0, 0, 0, 0, 0), (.bipush 16, 2, 0, 0, 0, nI 16, 0), (.newarray .boolean, 2, 1, 16, 0, 0, 0), (.putfield 63, 3, 10, 9, 342, 0, 0)]
theorem kX10_init_78 : rf_ck MX10_init 78 cX10_init_78 = true := by decide +kernel
theorem eX10_init_104 : rf_cki MX10_init 104 .return_ = true := by decide +kernel
abbrev MX10_copyFrom : rf_M := (yX10_copyFrom, cX10_copyFrom, 2, none)
theorem mkX10_copyFrom : rf_mk MX10_copyFrom 0 1 1124 73 1122 1123 = true := by decide +kernel
def cX10_copyFrom_0 : List rf_I := [(.aload_n 0, 1, 0, 0, 0, 0, 0), (.getfield 12, 3, 10, 0, 325, 0, 0), (.aload_n 1, 1, 1, 0, 0, 0, 0), (.getfield 12, 3, 10, 0, 325, 0, 0)]
theorem kX10_copyFrom_0 : rf_ck MX10_copyFrom 0 cX10_copyFrom_0 = true := by decide +kernel
theorem qX10_copyFrom_8 : rf_kc MX10_copyFrom 8 67 1125 yX4_copyFrom 0 = true := by decide +kernel
def cX10_copyFrom_11 : List rf_I := [(.aload_n 0, 1, 0, 0, 0, 0, 0), (.getfield 21, 3, 10, 1, 328, 0, 0), (.aload_n 1, 1, 1, 0, 0, 0, 0), (.getfield 21, 3, 10, 1, 328, 0, 0)]
theorem kX10_copyFrom_11 : rf_ck MX10_copyFrom 11 cX10_copyFrom_11 = true := by decide +kernel
theorem qX10_copyFrom_19 : rf_kc MX10_copyFrom 19 71 1130 yX3_copyFrom 0 = true := by decide +kernel
def cX10_copyFrom_22 : List rf_I := [(.aload_n 0, 1, 0, 0, 0, 0, 0), (.getfield 28, 3, 10, 2, 331, 0, 0), (.aload_n 1, 1, 1, 0, 0, 0, 0), (.getfield 28, 3, 10, 2, 331, 0, 0)]
theorem kX10_copyFrom_22 : rf_ck MX10_copyFrom 22 cX10_copyFrom_22 = true := by decide +kernel
theorem qX10_copyFrom_30 : rf_kc MX10_copyFrom 30 74 1135 yX7_copyFrom 0 = true := by decide +kernel
def cX10_copyFrom_33 : List rf_I := [(.aload_n 0, 1, 0, 0, 0, 0, 0), (.getfield 35, 3, 10, 3, 334, 0, 0), (.aload_n 1, 1, 1, 0, 0, 0, 0), (.getfield 35, 3, 10, 3, 334, 0, 0)]
theorem kX10_copyFrom_33 : rf_ck MX10_copyFrom 33 cX10_copyFrom_33 = true := by decide +kernel
theorem qX10_copyFrom_41 : rf_kc MX10_copyFrom 41 77 1139 yX1_copyFrom 0 = true := by decide +kernel
def cX10_copyFrom_44 : List rf_I := [(.aload_n 0, 1, 0, 0, 0, 0, 0), (.getfield 42, 3, 10, 4, 336, 0, 0), (.aload_n 1, 1, 1, 0, 0, 0, 0), (.getfield 42, 3, 10, 4, 336, 0, 0)]
theorem kX10_copyFrom_44 : rf_ck MX10_copyFrom 44 cX10_copyFrom_44 = true := by decide +kernel
theorem qX10_copyFrom_52 : rf_kc MX10_copyFrom 52 80 1144 yX0_copyFrom 0 = true := by decide +kernel
def cX10_copyFrom_55 : List rf_I := [(.aload_n 0, 1, 0, 0, 0, 0, 0), (.getfield 49, 3, 10, 5, 338, 0, 0), (.aload_n 1, 1, 1, 0, 0, 0, 0), (.getfield 49, 3, 10, 5, 338, 0, 0)]
theorem kX10_copyFrom_55 : rf_ck MX10_copyFrom 55 cX10_copyFrom_55 = true := by decide +kernel
theorem qX10_copyFrom_63 : rf_kc MX10_copyFrom 63 83 1149 yX8_copyFrom 0 = true := by decide +kernel
def cX10_copyFrom_66 : List rf_I := [(.aload_n 0, 1, 0, 0, 0, 0, 0), (.getfield 53, 3, 10, 6, 339, 0, 0), (.aload_n 1, 1, 1, 0, 0, 0, 0), (.getfield 53, 3, 10, 6, 339, 0, 0)]
theorem kX10_copyFrom_66 : rf_ck MX10_copyFrom 66 cX10_copyFrom_66 = true := by decide +kernel
theorem qX10_copyFrom_74 : rf_kc MX10_copyFrom 74 83 1149 yX8_copyFrom 0 = true := by decide +kernel
theorem eX10_copyFrom_77 : rf_cki MX10_copyFrom 77 .return_ = true := by decide +kernel
abbrev MX10_textOf : rf_M := (yX10_textOf, cX10_textOf, 2, (some (.object "CoatsByLot$Text")))
theorem mkX10_textOf : rf_mk MX10_textOf 0 1 826 73 824 825 = true := by decide +kernel
def cX10_textOf_0 : List rf_I := [(.iload_n 1, 1, 1, 0, 0, 0, 0)]
theorem kX10_textOf_0 : rf_ck MX10_textOf 0 cX10_textOf_0 = true := by decide +kernel
theorem bX10_textOf_1 : rf_ckb MX10_textOf 1 (.ifCond .ne 10) 10 11 = true := by decide +kernel
def cX10_textOf_4 : List rf_I := [(.aload_n 0, 1, 0, 0, 0, 0, 0), (.getfield 49, 3, 10, 5, 338, 0, 0)]
theorem kX10_textOf_4 : rf_ck MX10_textOf 4 cX10_textOf_4 = true := by decide +kernel
theorem bX10_textOf_8 : rf_ckb MX10_textOf 8 (.goto 7) 7 15 = true := by decide +kernel
def cX10_textOf_11 : List rf_I := [(.aload_n 0, 1, 0, 0, 0, 0, 0), (.getfield 53, 3, 10, 6, 339, 0, 0)]
theorem kX10_textOf_11 : rf_ck MX10_textOf 11 cX10_textOf_11 = true := by decide +kernel
theorem eX10_textOf_15 : rf_cki MX10_textOf 15 .areturn = true := by decide +kernel
abbrev MX10_weigh : rf_M := (yX10_weigh, cX10_weigh, 6, (some (.int)))
theorem mkX10_weigh : rf_mk MX10_weigh 0 5 665 73 663 664 = true := by decide +kernel
def cX10_weigh_0 : List rf_I := [(.aload_n 0, 1, 0, 0, 0, 0, 0), (.getfield 49, 3, 10, 5, 338, 0, 0), (.getfield 86, 3, 8, 0, 315, 0, 0)]
theorem kX10_weigh_0 : rf_ck MX10_weigh 0 cX10_weigh_0 = true := by decide +kernel
theorem bX10_weigh_7 : rf_ckb MX10_weigh 7 (.ifCond .ne 19) 19 26 = true := by decide +kernel
def cX10_weigh_10 : List rf_I := [(.iload_n 1, 1, 1, 0, 0, 0, 0), (.iload 4, 2, 4, 0, 0, 0, 0), (.imul, 1, 0, 0, 0, 0, 0), (.iload_n 2, 1, 2, 0, 0, 0, 0), (.iload_n 3, 1, 3, 0, 0, 0, 0), (.imul, 1, 0, 0, 0, 0, 0)]
theorem kX10_weigh_10 : rf_ck MX10_weigh 10 cX10_weigh_10 = true := by decide +kernel
theorem bX10_weigh_17 : rf_ckb MX10_weigh 17 (.if_icmp .gt 7) 7 24 = true := by decide +kernel
def cX10_weigh_20 : List rf_I := [(.iconst 1, 1, 0, 0, 0, nI 1, 0)]
theorem kX10_weigh_20 : rf_ck MX10_weigh 20 cX10_weigh_20 = true := by decide +kernel
theorem bX10_weigh_21 : rf_ckb MX10_weigh 21 (.goto 4) 4 25 = true := by decide +kernel
def cX10_weigh_24 : List rf_I := [(.iconst 0, 1, 0, 0, 0, nI 0, 0)]
theorem kX10_weigh_24 : rf_ck MX10_weigh 24 cX10_weigh_24 = true := by decide +kernel
theorem eX10_weigh_25 : rf_cki MX10_weigh 25 .ireturn = true := by decide +kernel
def cX10_weigh_26 : List rf_I := [(.aload_n 0, 1, 0, 0, 0, 0, 0), (.getfield 56, 3, 10, 7, 340, 0, 0), (.iconst 0, 1, 0, 0, 0, nI 0, 0), (.iload_n 1, 1, 1, 0, 0, 0, 0), (.iastore, 1, 0, 0, 0, 0, 0), (.aload_n 0, 1, 0, 0, 0, 0, 0), (.getfield 56, 3, 10, 7, 340, 0, 0), (.iconst 1, 1, 0, 0, 0, nI 1, 0), (.iload_n 2, 1, 2, 0, 0, 0, 0), (.iastore, 1, 0, 0, 0, 0, 0), (.aload_n 0, 1, 0, 0, 0, 0, 0), (.getfield 56, 3, 10, 7, 340, 0, 0), (.iconst 2, 1, 0, 0, 0, nI 2, 0), (.iload_n 3, 1, 3, 0, 0, 0, 0), (.iastore, 1, 0, 0, 0, 0, 0), (.aload_n 0, 1, 0, 0, 0, 0, 0), (.getfield 56, 3, 10, 7, 340, 0, 0), (.iconst 3, 1, 0, 0, 0, nI 3, 0), (.iload 4, 2, 4, 0, 0, 0, 0), (.iastore, 1, 0, 0, 0, 0, 0), (.aload_n 0, 1, 0, 0, 0, 0, 0), (.getfield 56, 3, 10, 7, 340, 0, 0), (.iconst 4, 1, 0, 0, 0, nI 4, 0), (.iload 5, 2, 5, 0, 0, 0, 0), (.iastore, 1, 0, 0, 0, 0, 0), (.aload_n 0, 1, 0, 0, 0, 0, 0), (.getfield 49, 3, 10, 5, 338, 0, 0), (.aload_n 0, 1, 0, 0, 0, 0, 0), (.getfield 56, 3, 10, 7, 340, 0, 0)]
theorem kX10_weigh_26 : rf_ck MX10_weigh 26 cX10_weigh_26 = true := by decide +kernel
theorem qX10_weigh_71 : rf_kc MX10_weigh 71 90 666 yX8_workOut 0 = true := by decide +kernel
theorem eX10_weigh_74 : rf_cki MX10_weigh 74 .ireturn = true := by decide +kernel
abbrev MX10_rule : rf_M := (yX10_rule, cX10_rule, 5, (some (.int)))
theorem mkX10_rule : rf_mk MX10_rule 0 4 846 73 844 845 = true := by decide +kernel
def cX10_rule_0 : List rf_I := [(.aload_n 0, 1, 0, 0, 0, 0, 0), (.getfield 53, 3, 10, 6, 339, 0, 0), (.getfield 86, 3, 8, 0, 315, 0, 0)]
theorem kX10_rule_0 : rf_ck MX10_rule 0 cX10_rule_0 = true := by decide +kernel
theorem bX10_rule_7 : rf_ckb MX10_rule 7 (.ifCond .ne 5) 5 12 = true := by decide +kernel
def cX10_rule_10 : List rf_I := [(.iconst 1, 1, 0, 0, 0, nI 1, 0)]
theorem kX10_rule_10 : rf_ck MX10_rule 10 cX10_rule_10 = true := by decide +kernel
theorem eX10_rule_11 : rf_cki MX10_rule 11 .ireturn = true := by decide +kernel
def cX10_rule_12 : List rf_I := [(.aload_n 0, 1, 0, 0, 0, 0, 0), (.getfield 56, 3, 10, 7, 340, 0, 0), (.iconst 0, 1, 0, 0, 0, nI 0, 0), (.iload_n 1, 1, 1, 0, 0, 0, 0), (.iastore, 1, 0, 0, 0, 0, 0), (.aload_n 0, 1, 0, 0, 0, 0, 0), (.getfield 56, 3, 10, 7, 340, 0, 0), (.iconst 1, 1, 0, 0, 0, nI 1, 0), (.iload_n 2, 1, 2, 0, 0, 0, 0), (.iastore, 1, 0, 0, 0, 0, 0), (.aload_n 0, 1, 0, 0, 0, 0, 0), (.getfield 56, 3, 10, 7, 340, 0, 0), (.iconst 2, 1, 0, 0, 0, nI 2, 0), (.iload_n 3, 1, 3, 0, 0, 0, 0), (.iastore, 1, 0, 0, 0, 0, 0), (.aload_n 0, 1, 0, 0, 0, 0, 0), (.getfield 56, 3, 10, 7, 340, 0, 0), (.iconst 3, 1, 0, 0, 0, nI 3, 0), (.iload 4, 2, 4, 0, 0, 0, 0), (.iastore, 1, 0, 0, 0, 0, 0), (.aload_n 0, 1, 0, 0, 0, 0, 0), (.getfield 56, 3, 10, 7, 340, 0, 0), (.iconst 4, 1, 0, 0, 0, nI 4, 0), (.iconst 0, 1, 0, 0, 0, nI 0, 0), (.iastore, 1, 0, 0, 0, 0, 0), (.aload_n 0, 1, 0, 0, 0, 0, 0), (.getfield 53, 3, 10, 6, 339, 0, 0), (.aload_n 0, 1, 0, 0, 0, 0, 0), (.getfield 56, 3, 10, 7, 340, 0, 0)]
theorem kX10_rule_12 : rf_ck MX10_rule 12 cX10_rule_12 = true := by decide +kernel
theorem qX10_rule_56 : rf_kc MX10_rule 56 90 666 yX8_workOut 0 = true := by decide +kernel
theorem eX10_rule_59 : rf_cki MX10_rule 59 .ireturn = true := by decide +kernel
abbrev MX10_whyNotWalked : rf_M := (yX10_whyNotWalked, cX10_whyNotWalked, 7, (some (.int)))
theorem mkX10_whyNotWalked : rf_mk MX10_whyNotWalked 0 1 858 73 856 857 = true := by decide +kernel
def cX10_whyNotWalked_0 : List rf_I := [(.aload_n 0, 1, 0, 0, 0, 0, 0), (.getfield 12, 3, 10, 0, 325, 0, 0), (.iload_n 1, 1, 1, 0, 0, 0, 0), (.aload_n 0, 1, 0, 0, 0, 0, 0), (.getfield 60, 3, 10, 8, 341, 0, 0)]
theorem kX10_whyNotWalked_0 : rf_ck MX10_whyNotWalked 0 cX10_whyNotWalked_0 = true := by decide +kernel
theorem qX10_whyNotWalked_9 : rf_kc MX10_whyNotWalked 9 94 859 yX4_sortByStart 0 = true := by decide +kernel
def cX10_whyNotWalked_12 : List rf_I := [(.istore_n 2, 1, 2, 0, 0, 0, 0), (.iconst 0, 1, 0, 0, 0, nI 0, 0), (.istore_n 3, 1, 3, 0, 0, 0, 0), (.iconst 1, 1, 0, 0, 0, nI 1, 0), (.istore 4, 2, 4, 0, 0, 0, 0)]
theorem kX10_whyNotWalked_12 : rf_ck MX10_whyNotWalked 12 cX10_whyNotWalked_12 = true := by decide +kernel
def cX10_whyNotWalked_18 : List rf_I := [(.iload 4, 2, 4, 0, 0, 0, 0), (.iload_n 2, 1, 2, 0, 0, 0, 0)]
theorem kX10_whyNotWalked_18 : rf_ck MX10_whyNotWalked 18 cX10_whyNotWalked_18 = true := by decide +kernel
theorem bX10_whyNotWalked_21 : rf_ckb MX10_whyNotWalked 21 (.if_icmp .ge 104) 104 125 = true := by decide +kernel
def cX10_whyNotWalked_24 : List rf_I := [(.aload_n 0, 1, 0, 0, 0, 0, 0), (.getfield 12, 3, 10, 0, 325, 0, 0), (.aload_n 0, 1, 0, 0, 0, 0, 0), (.getfield 12, 3, 10, 0, 325, 0, 0), (.aload_n 0, 1, 0, 0, 0, 0, 0), (.getfield 60, 3, 10, 8, 341, 0, 0), (.iload 4, 2, 4, 0, 0, 0, 0), (.iconst 1, 1, 0, 0, 0, nI 1, 0), (.isub, 1, 0, 0, 0, 0, 0), (.iaload, 1, 0, 0, 0, 0, 0)]
theorem kX10_whyNotWalked_24 : rf_ck MX10_whyNotWalked 24 cX10_whyNotWalked_24 = true := by decide +kernel
theorem qX10_whyNotWalked_41 : rf_kc MX10_whyNotWalked 41 98 864 yX4_lastStation 0 = true := by decide +kernel
def cX10_whyNotWalked_44 : List rf_I := [(.aload_n 0, 1, 0, 0, 0, 0, 0), (.getfield 12, 3, 10, 0, 325, 0, 0), (.aload_n 0, 1, 0, 0, 0, 0, 0), (.getfield 60, 3, 10, 8, 341, 0, 0), (.iload 4, 2, 4, 0, 0, 0, 0), (.iaload, 1, 0, 0, 0, 0, 0), (.iconst 0, 1, 0, 0, 0, nI 0, 0)]
theorem kX10_whyNotWalked_44 : rf_ck MX10_whyNotWalked 44 cX10_whyNotWalked_44 = true := by decide +kernel
theorem qX10_whyNotWalked_56 : rf_kc MX10_whyNotWalked 56 102 865 yX4_stationAt 0 = true := by decide +kernel
theorem qX10_whyNotWalked_59 : rf_kc MX10_whyNotWalked 59 106 866 yX4_walkFrom 0 = true := by decide +kernel
def cX10_whyNotWalked_62 : List rf_I := [(.istore 5, 2, 5, 0, 0, 0, 0), (.aload_n 0, 1, 0, 0, 0, 0, 0), (.getfield 12, 3, 10, 0, 325, 0, 0), (.getfield 109, 3, 4, 8, 132, 0, 0), (.aload_n 0, 1, 0, 0, 0, 0, 0), (.getfield 60, 3, 10, 8, 341, 0, 0), (.iload 4, 2, 4, 0, 0, 0, 0), (.iaload, 1, 0, 0, 0, 0, 0), (.iaload, 1, 0, 0, 0, 0, 0), (.aload_n 0, 1, 0, 0, 0, 0, 0), (.getfield 12, 3, 10, 0, 325, 0, 0), (.aload_n 0, 1, 0, 0, 0, 0, 0), (.getfield 60, 3, 10, 8, 341, 0, 0), (.iload 4, 2, 4, 0, 0, 0, 0), (.iconst 1, 1, 0, 0, 0, nI 1, 0), (.isub, 1, 0, 0, 0, 0, 0), (.iaload, 1, 0, 0, 0, 0, 0)]
theorem kX10_whyNotWalked_62 : rf_ck MX10_whyNotWalked 62 cX10_whyNotWalked_62 = true := by decide +kernel
theorem qX10_whyNotWalked_92 : rf_kc MX10_whyNotWalked 92 112 867 yX4_endOf 0 = true := by decide +kernel
def cX10_whyNotWalked_95 : List rf_I := [(.isub, 1, 0, 0, 0, 0, 0), (.istore 6, 2, 6, 0, 0, 0, 0), (.iload 5, 2, 5, 0, 0, 0, 0)]
theorem kX10_whyNotWalked_95 : rf_ck MX10_whyNotWalked 95 cX10_whyNotWalked_95 = true := by decide +kernel
theorem bX10_whyNotWalked_100 : rf_ckb MX10_whyNotWalked 100 (.ifCond .lt 10) 10 110 = true := by decide +kernel
def cX10_whyNotWalked_103 : List rf_I := [(.iload 5, 2, 5, 0, 0, 0, 0), (.iload 6, 2, 6, 0, 0, 0, 0)]
theorem kX10_whyNotWalked_103 : rf_ck MX10_whyNotWalked 103 cX10_whyNotWalked_103 = true := by decide +kernel
theorem bX10_whyNotWalked_107 : rf_ckb MX10_whyNotWalked 107 (.if_icmp .le 5) 5 112 = true := by decide +kernel
def cX10_whyNotWalked_110 : List rf_I := [(.iconst 1, 1, 0, 0, 0, nI 1, 0)]
theorem kX10_whyNotWalked_110 : rf_ck MX10_whyNotWalked 110 cX10_whyNotWalked_110 = true := by decide +kernel
theorem eX10_whyNotWalked_111 : rf_cki MX10_whyNotWalked 111 .ireturn = true := by decide +kernel
def cX10_whyNotWalked_112 : List rf_I := [(.iload_n 3, 1, 3, 0, 0, 0, 0), (.iload 6, 2, 6, 0, 0, 0, 0), (.invokestatic 115, 3, 0, 0, 868, 0, 0), (.istore_n 3, 1, 3, 0, 0, 0, 0), (.iinc 4 1, 3, 4, 0, 0, nI 1, 0)]
theorem kX10_whyNotWalked_112 : rf_ck MX10_whyNotWalked 112 cX10_whyNotWalked_112 = true := by decide +kernel
theorem bX10_whyNotWalked_122 : rf_ckb MX10_whyNotWalked 122 (.goto (-104)) (-104) 18 = true := by decide +kernel
def cX10_whyNotWalked_125 : List rf_I := [(.iload_n 2, 1, 2, 0, 0, 0, 0)]
theorem kX10_whyNotWalked_125 : rf_ck MX10_whyNotWalked 125 cX10_whyNotWalked_125 = true := by decide +kernel
theorem bX10_whyNotWalked_126 : rf_ckb MX10_whyNotWalked 126 (.ifCond .ne 5) 5 131 = true := by decide +kernel
def cX10_whyNotWalked_129 : List rf_I := [(.iconst 1, 1, 0, 0, 0, nI 1, 0)]
theorem kX10_whyNotWalked_129 : rf_ck MX10_whyNotWalked 129 cX10_whyNotWalked_129 = true := by decide +kernel
theorem eX10_whyNotWalked_130 : rf_cki MX10_whyNotWalked 130 .ireturn = true := by decide +kernel
def cX10_whyNotWalked_131 : List rf_I := [(.aload_n 0, 1, 0, 0, 0, 0, 0), (.getfield 12, 3, 10, 0, 325, 0, 0), (.getfield 109, 3, 4, 8, 132, 0, 0), (.aload_n 0, 1, 0, 0, 0, 0, 0), (.getfield 60, 3, 10, 8, 341, 0, 0), (.iconst 0, 1, 0, 0, 0, nI 0, 0), (.iaload, 1, 0, 0, 0, 0, 0), (.iaload, 1, 0, 0, 0, 0, 0), (.istore 4, 2, 4, 0, 0, 0, 0), (.aload_n 0, 1, 0, 0, 0, 0, 0), (.getfield 12, 3, 10, 0, 325, 0, 0), (.aload_n 0, 1, 0, 0, 0, 0, 0), (.getfield 60, 3, 10, 8, 341, 0, 0), (.iload_n 2, 1, 2, 0, 0, 0, 0), (.iconst 1, 1, 0, 0, 0, nI 1, 0), (.isub, 1, 0, 0, 0, 0, 0), (.iaload, 1, 0, 0, 0, 0, 0)]
theorem kX10_whyNotWalked_131 : rf_ck MX10_whyNotWalked 131 cX10_whyNotWalked_131 = true := by decide +kernel
theorem qX10_whyNotWalked_159 : rf_kc MX10_whyNotWalked 159 112 867 yX4_endOf 0 = true := by decide +kernel
def cX10_whyNotWalked_162 : List rf_I := [(.iload 4, 2, 4, 0, 0, 0, 0), (.isub, 1, 0, 0, 0, 0, 0), (.istore 5, 2, 5, 0, 0, 0, 0), (.aload_n 0, 1, 0, 0, 0, 0, 0), (.iload_n 2, 1, 2, 0, 0, 0, 0), (.iload 5, 2, 5, 0, 0, 0, 0), (.iload_n 3, 1, 3, 0, 0, 0, 0), (.iload 4, 2, 4, 0, 0, 0, 0)]
theorem kX10_whyNotWalked_162 : rf_ck MX10_whyNotWalked 162 cX10_whyNotWalked_162 = true := by decide +kernel
theorem qX10_whyNotWalked_174 : rf_kc MX10_whyNotWalked 174 120 869 yX10_rule 0 = true := by decide +kernel
theorem bX10_whyNotWalked_177 : rf_ckb MX10_whyNotWalked 177 (.ifCond .ne 7) 7 184 = true := by decide +kernel
def cX10_whyNotWalked_180 : List rf_I := [(.iconst 2, 1, 0, 0, 0, nI 2, 0)]
theorem kX10_whyNotWalked_180 : rf_ck MX10_whyNotWalked 180 cX10_whyNotWalked_180 = true := by decide +kernel
theorem bX10_whyNotWalked_181 : rf_ckb MX10_whyNotWalked 181 (.goto 4) 4 185 = true := by decide +kernel
def cX10_whyNotWalked_184 : List rf_I := [(.iconst 0, 1, 0, 0, 0, nI 0, 0)]
theorem kX10_whyNotWalked_184 : rf_ck MX10_whyNotWalked 184 cX10_whyNotWalked_184 = true := by decide +kernel
theorem eX10_whyNotWalked_185 : rf_cki MX10_whyNotWalked 185 .ireturn = true := by decide +kernel
abbrev MX10_pays : rf_M := (yX10_pays, cX10_pays, 7, (some (.boolean)))
theorem mkX10_pays : rf_mk MX10_pays 0 4 652 73 650 651 = true := by decide +kernel
def cX10_pays_0 : List rf_I := [(.aload_n 0, 1, 0, 0, 0, 0, 0), (.getfield 21, 3, 10, 1, 328, 0, 0), (.iload_n 1, 1, 1, 0, 0, 0, 0)]
theorem kX10_pays_0 : rf_ck MX10_pays 0 cX10_pays_0 = true := by decide +kernel
theorem qX10_pays_5 : rf_kc MX10_pays 5 124 653 yX3_fareWeighed 0 = true := by decide +kernel
def cX10_pays_8 : List rf_I := [(.istore 5, 2, 5, 0, 0, 0, 0), (.aload_n 0, 1, 0, 0, 0, 0, 0), (.getfield 21, 3, 10, 1, 328, 0, 0), (.iload_n 1, 1, 1, 0, 0, 0, 0)]
theorem kX10_pays_8 : rf_ck MX10_pays 8 cX10_pays_8 = true := by decide +kernel
theorem qX10_pays_15 : rf_kc MX10_pays 15 127 661 yX3_stopsGone 0 = true := by decide +kernel
def cX10_pays_18 : List rf_I := [(.istore 6, 2, 6, 0, 0, 0, 0), (.aload_n 0, 1, 0, 0, 0, 0, 0), (.getfield 21, 3, 10, 1, 328, 0, 0), (.getfield 130, 3, 3, 3, 177, 0, 0), (.iload_n 1, 1, 1, 0, 0, 0, 0), (.iaload, 1, 0, 0, 0, 0, 0)]
theorem kX10_pays_18 : rf_ck MX10_pays 18 cX10_pays_18 = true := by decide +kernel
theorem bX10_pays_29 : rf_ckt MX10_pays 29 184 1 7 [43, 45, 81, 45, 102, 127, 156] [72, 74, 110, 74, 131, 156, 185] 213 = true := by decide +kernel
def cX10_pays_72 : List rf_I := [(.iconst 1, 1, 0, 0, 0, nI 1, 0)]
theorem kX10_pays_72 : rf_ck MX10_pays 72 cX10_pays_72 = true := by decide +kernel
theorem eX10_pays_73 : rf_cki MX10_pays 73 .ireturn = true := by decide +kernel
def cX10_pays_74 : List rf_I := [(.aload_n 0, 1, 0, 0, 0, 0, 0), (.iload 5, 2, 5, 0, 0, 0, 0), (.iload_n 2, 1, 2, 0, 0, 0, 0), (.aload_n 0, 1, 0, 0, 0, 0, 0), (.getfield 21, 3, 10, 1, 328, 0, 0), (.getfield 133, 3, 3, 8, 194, 0, 0), (.iload_n 1, 1, 1, 0, 0, 0, 0), (.iaload, 1, 0, 0, 0, 0, 0), (.aload_n 0, 1, 0, 0, 0, 0, 0), (.getfield 21, 3, 10, 1, 328, 0, 0), (.getfield 136, 3, 3, 9, 196, 0, 0), (.iload_n 1, 1, 1, 0, 0, 0, 0), (.iaload, 1, 0, 0, 0, 0, 0), (.iload 6, 2, 6, 0, 0, 0, 0)]
theorem kX10_pays_74 : rf_ck MX10_pays 74 cX10_pays_74 = true := by decide +kernel
theorem qX10_pays_98 : rf_kc MX10_pays 98 139 662 yX10_weigh 0 = true := by decide +kernel
theorem bX10_pays_101 : rf_ckb MX10_pays 101 (.ifCond .eq 7) 7 108 = true := by decide +kernel
def cX10_pays_104 : List rf_I := [(.iconst 1, 1, 0, 0, 0, nI 1, 0)]
theorem kX10_pays_104 : rf_ck MX10_pays 104 cX10_pays_104 = true := by decide +kernel
theorem bX10_pays_105 : rf_ckb MX10_pays 105 (.goto 4) 4 109 = true := by decide +kernel
def cX10_pays_108 : List rf_I := [(.iconst 0, 1, 0, 0, 0, nI 0, 0)]
theorem kX10_pays_108 : rf_ck MX10_pays 108 cX10_pays_108 = true := by decide +kernel
theorem eX10_pays_109 : rf_cki MX10_pays 109 .ireturn = true := by decide +kernel
def cX10_pays_110 : List rf_I := [(.aload_n 0, 1, 0, 0, 0, 0, 0), (.iload 5, 2, 5, 0, 0, 0, 0), (.iload_n 2, 1, 2, 0, 0, 0, 0), (.iload_n 3, 1, 3, 0, 0, 0, 0), (.iload 4, 2, 4, 0, 0, 0, 0), (.iload 6, 2, 6, 0, 0, 0, 0)]
theorem kX10_pays_110 : rf_ck MX10_pays 110 cX10_pays_110 = true := by decide +kernel
theorem qX10_pays_119 : rf_kc MX10_pays 119 139 662 yX10_weigh 0 = true := by decide +kernel
theorem bX10_pays_122 : rf_ckb MX10_pays 122 (.ifCond .eq 7) 7 129 = true := by decide +kernel
def cX10_pays_125 : List rf_I := [(.iconst 1, 1, 0, 0, 0, nI 1, 0)]
theorem kX10_pays_125 : rf_ck MX10_pays 125 cX10_pays_125 = true := by decide +kernel
theorem bX10_pays_126 : rf_ckb MX10_pays 126 (.goto 4) 4 130 = true := by decide +kernel
def cX10_pays_129 : List rf_I := [(.iconst 0, 1, 0, 0, 0, nI 0, 0)]
theorem kX10_pays_129 : rf_ck MX10_pays 129 cX10_pays_129 = true := by decide +kernel
theorem eX10_pays_130 : rf_cki MX10_pays 130 .ireturn = true := by decide +kernel
def cX10_pays_131 : List rf_I := [(.aload_n 0, 1, 0, 0, 0, 0, 0), (.getfield 35, 3, 10, 3, 334, 0, 0), (.getfield 143, 3, 1, 0, 253, 0, 0), (.aload_n 0, 1, 0, 0, 0, 0, 0), (.getfield 21, 3, 10, 1, 328, 0, 0), (.getfield 146, 3, 3, 10, 198, 0, 0), (.iload_n 1, 1, 1, 0, 0, 0, 0), (.iaload, 1, 0, 0, 0, 0, 0)]
theorem kX10_pays_131 : rf_ck MX10_pays 131 cX10_pays_131 = true := by decide +kernel
theorem bX10_pays_147 : rf_ckb MX10_pays 147 (.if_icmp .ge 7) 7 154 = true := by decide +kernel
def cX10_pays_150 : List rf_I := [(.iconst 1, 1, 0, 0, 0, nI 1, 0)]
theorem kX10_pays_150 : rf_ck MX10_pays 150 cX10_pays_150 = true := by decide +kernel
theorem bX10_pays_151 : rf_ckb MX10_pays 151 (.goto 4) 4 155 = true := by decide +kernel
def cX10_pays_154 : List rf_I := [(.iconst 0, 1, 0, 0, 0, nI 0, 0)]
theorem kX10_pays_154 : rf_ck MX10_pays 154 cX10_pays_154 = true := by decide +kernel
theorem eX10_pays_155 : rf_cki MX10_pays 155 .ireturn = true := by decide +kernel
def cX10_pays_156 : List rf_I := [(.aload_n 0, 1, 0, 0, 0, 0, 0), (.getfield 12, 3, 10, 0, 325, 0, 0), (.getfield 109, 3, 4, 8, 132, 0, 0), (.aload_n 0, 1, 0, 0, 0, 0, 0), (.getfield 21, 3, 10, 1, 328, 0, 0), (.getfield 149, 3, 3, 4, 181, 0, 0), (.iload_n 1, 1, 1, 0, 0, 0, 0), (.iaload, 1, 0, 0, 0, 0, 0), (.iaload, 1, 0, 0, 0, 0, 0), (.sipush 1100, 3, 0, 0, 0, nI 1100, 0)]
theorem kX10_pays_156 : rf_ck MX10_pays 156 cX10_pays_156 = true := by decide +kernel
theorem bX10_pays_176 : rf_ckb MX10_pays 176 (.if_icmp .ge 7) 7 183 = true := by decide +kernel
def cX10_pays_179 : List rf_I := [(.iconst 1, 1, 0, 0, 0, nI 1, 0)]
theorem kX10_pays_179 : rf_ck MX10_pays 179 cX10_pays_179 = true := by decide +kernel
theorem bX10_pays_180 : rf_ckb MX10_pays 180 (.goto 4) 4 184 = true := by decide +kernel
def cX10_pays_183 : List rf_I := [(.iconst 0, 1, 0, 0, 0, nI 0, 0)]
theorem kX10_pays_183 : rf_ck MX10_pays 183 cX10_pays_183 = true := by decide +kernel
theorem eX10_pays_184 : rf_cki MX10_pays 184 .ireturn = true := by decide +kernel
def cX10_pays_185 : List rf_I := [(.aload_n 0, 1, 0, 0, 0, 0, 0), (.getfield 35, 3, 10, 3, 334, 0, 0), (.getfield 143, 3, 1, 0, 253, 0, 0), (.bipush 10, 2, 0, 0, 0, nI 10, 0), (.iadd, 1, 0, 0, 0, 0, 0), (.aload_n 0, 1, 0, 0, 0, 0, 0), (.getfield 21, 3, 10, 1, 328, 0, 0), (.getfield 146, 3, 3, 10, 198, 0, 0), (.iload_n 1, 1, 1, 0, 0, 0, 0), (.iaload, 1, 0, 0, 0, 0, 0)]
theorem kX10_pays_185 : rf_ck MX10_pays 185 cX10_pays_185 = true := by decide +kernel
theorem bX10_pays_204 : rf_ckb MX10_pays 204 (.if_icmp .ge 7) 7 211 = true := by decide +kernel
def cX10_pays_207 : List rf_I := [(.iconst 1, 1, 0, 0, 0, nI 1, 0)]
theorem kX10_pays_207 : rf_ck MX10_pays 207 cX10_pays_207 = true := by decide +kernel
theorem bX10_pays_208 : rf_ckb MX10_pays 208 (.goto 4) 4 212 = true := by decide +kernel
def cX10_pays_211 : List rf_I := [(.iconst 0, 1, 0, 0, 0, nI 0, 0)]
theorem kX10_pays_211 : rf_ck MX10_pays 211 cX10_pays_211 = true := by decide +kernel
theorem eX10_pays_212 : rf_cki MX10_pays 212 .ireturn = true := by decide +kernel
def cX10_pays_213 : List rf_I := [(.iconst 0, 1, 0, 0, 0, nI 0, 0)]
theorem kX10_pays_213 : rf_ck MX10_pays 213 cX10_pays_213 = true := by decide +kernel
theorem eX10_pays_214 : rf_cki MX10_pays 214 .ireturn = true := by decide +kernel
abbrev MX10_paysNow : rf_M := (yX10_paysNow, cX10_paysNow, 2, (some (.boolean)))
theorem mkX10_paysNow : rf_mk MX10_paysNow 0 1 636 73 634 635 = true := by decide +kernel
def cX10_paysNow_0 : List rf_I := [(.aload_n 0, 1, 0, 0, 0, 0, 0), (.iload_n 1, 1, 1, 0, 0, 0, 0), (.aload_n 0, 1, 0, 0, 0, 0, 0), (.getfield 21, 3, 10, 1, 328, 0, 0), (.getfield 152, 3, 3, 2, 173, 0, 0), (.aload_n 0, 1, 0, 0, 0, 0, 0), (.getfield 28, 3, 10, 2, 331, 0, 0), (.aload_n 0, 1, 0, 0, 0, 0, 0), (.getfield 21, 3, 10, 1, 328, 0, 0), (.getfield 149, 3, 3, 4, 181, 0, 0), (.iload_n 1, 1, 1, 0, 0, 0, 0), (.iaload, 1, 0, 0, 0, 0, 0)]
theorem kX10_paysNow_0 : rf_ck MX10_paysNow 0 cX10_paysNow_0 = true := by decide +kernel
theorem qX10_paysNow_22 : rf_kc MX10_paysNow 22 155 637 yX7_lotsWith 0 = true := by decide +kernel
def cX10_paysNow_25 : List rf_I := [(.aload_n 0, 1, 0, 0, 0, 0, 0), (.getfield 28, 3, 10, 2, 331, 0, 0)]
theorem kX10_paysNow_25 : rf_ck MX10_paysNow 25 cX10_paysNow_25 = true := by decide +kernel
theorem qX10_paysNow_29 : rf_kc MX10_paysNow 29 158 638 yX7_below 0 = true := by decide +kernel
theorem qX10_paysNow_32 : rf_kc MX10_paysNow 32 162 649 yX10_pays 0 = true := by decide +kernel
theorem eX10_paysNow_35 : rf_cki MX10_paysNow 35 .ireturn = true := by decide +kernel
abbrev MX10_sumUnpaid : rf_M := (yX10_sumUnpaid, cX10_sumUnpaid, 5, (some (.int)))
theorem mkX10_sumUnpaid : rf_mk MX10_sumUnpaid 0 1 910 73 908 909 = true := by decide +kernel
def cX10_sumUnpaid_0 : List rf_I := [(.iconst 0, 1, 0, 0, 0, nI 0, 0), (.istore_n 2, 1, 2, 0, 0, 0, 0), (.iconst 0, 1, 0, 0, 0, nI 0, 0), (.istore_n 3, 1, 3, 0, 0, 0, 0)]
theorem kX10_sumUnpaid_0 : rf_ck MX10_sumUnpaid 0 cX10_sumUnpaid_0 = true := by decide +kernel
def cX10_sumUnpaid_4 : List rf_I := [(.iload_n 3, 1, 3, 0, 0, 0, 0), (.aload_n 0, 1, 0, 0, 0, 0, 0), (.getfield 21, 3, 10, 1, 328, 0, 0), (.getfield 166, 3, 3, 0, 166, 0, 0)]
theorem kX10_sumUnpaid_4 : rf_ck MX10_sumUnpaid 4 cX10_sumUnpaid_4 = true := by decide +kernel
theorem bX10_sumUnpaid_12 : rf_ckb MX10_sumUnpaid 12 (.if_icmp .ge 70) 70 82 = true := by decide +kernel
def cX10_sumUnpaid_15 : List rf_I := [(.aload_n 0, 1, 0, 0, 0, 0, 0), (.getfield 21, 3, 10, 1, 328, 0, 0), (.getfield 130, 3, 3, 3, 177, 0, 0), (.iload_n 3, 1, 3, 0, 0, 0, 0), (.iaload, 1, 0, 0, 0, 0, 0), (.iconst 3, 1, 0, 0, 0, nI 3, 0)]
theorem kX10_sumUnpaid_15 : rf_ck MX10_sumUnpaid 15 cX10_sumUnpaid_15 = true := by decide +kernel
theorem bX10_sumUnpaid_25 : rf_ckb MX10_sumUnpaid 25 (.if_icmp .ne 23) 23 48 = true := by decide +kernel
def cX10_sumUnpaid_28 : List rf_I := [(.iload_n 1, 1, 1, 0, 0, 0, 0), (.aload_n 0, 1, 0, 0, 0, 0, 0), (.getfield 21, 3, 10, 1, 328, 0, 0), (.getfield 149, 3, 3, 4, 181, 0, 0), (.iload_n 3, 1, 3, 0, 0, 0, 0), (.iaload, 1, 0, 0, 0, 0, 0)]
theorem kX10_sumUnpaid_28 : rf_ck MX10_sumUnpaid 28 cX10_sumUnpaid_28 = true := by decide +kernel
theorem qX10_sumUnpaid_38 : rf_kc MX10_sumUnpaid 38 169 911 yX11_has 1 = true := by decide +kernel
theorem bX10_sumUnpaid_41 : rf_ckb MX10_sumUnpaid 41 (.ifCond .eq 7) 7 48 = true := by decide +kernel
def cX10_sumUnpaid_44 : List rf_I := [(.iconst 1, 1, 0, 0, 0, nI 1, 0)]
theorem kX10_sumUnpaid_44 : rf_ck MX10_sumUnpaid 44 cX10_sumUnpaid_44 = true := by decide +kernel
theorem bX10_sumUnpaid_45 : rf_ckb MX10_sumUnpaid 45 (.goto 4) 4 49 = true := by decide +kernel
def cX10_sumUnpaid_48 : List rf_I := [(.iconst 0, 1, 0, 0, 0, nI 0, 0)]
theorem kX10_sumUnpaid_48 : rf_ck MX10_sumUnpaid 48 cX10_sumUnpaid_48 = true := by decide +kernel
def cX10_sumUnpaid_49 : List rf_I := [(.istore 4, 2, 4, 0, 0, 0, 0), (.iload 4, 2, 4, 0, 0, 0, 0)]
theorem kX10_sumUnpaid_49 : rf_ck MX10_sumUnpaid 49 cX10_sumUnpaid_49 = true := by decide +kernel
theorem bX10_sumUnpaid_53 : rf_ckb MX10_sumUnpaid 53 (.ifCond .ne 23) 23 76 = true := by decide +kernel
def cX10_sumUnpaid_56 : List rf_I := [(.aload_n 0, 1, 0, 0, 0, 0, 0), (.iload_n 3, 1, 3, 0, 0, 0, 0)]
theorem kX10_sumUnpaid_56 : rf_ck MX10_sumUnpaid 56 cX10_sumUnpaid_56 = true := by decide +kernel
theorem qX10_sumUnpaid_58 : rf_kc MX10_sumUnpaid 58 173 912 yX10_paysNow 0 = true := by decide +kernel
theorem bX10_sumUnpaid_61 : rf_ckb MX10_sumUnpaid 61 (.ifCond .ne 15) 15 76 = true := by decide +kernel
def cX10_sumUnpaid_64 : List rf_I := [(.iload_n 2, 1, 2, 0, 0, 0, 0), (.aload_n 0, 1, 0, 0, 0, 0, 0), (.getfield 21, 3, 10, 1, 328, 0, 0), (.getfield 177, 3, 3, 7, 191, 0, 0), (.iload_n 3, 1, 3, 0, 0, 0, 0), (.iaload, 1, 0, 0, 0, 0, 0), (.iadd, 1, 0, 0, 0, 0, 0), (.istore_n 2, 1, 2, 0, 0, 0, 0)]
theorem kX10_sumUnpaid_64 : rf_ck MX10_sumUnpaid 64 cX10_sumUnpaid_64 = true := by decide +kernel
def cX10_sumUnpaid_76 : List rf_I := [(.iinc 3 1, 3, 3, 0, 0, nI 1, 0)]
theorem kX10_sumUnpaid_76 : rf_ck MX10_sumUnpaid 76 cX10_sumUnpaid_76 = true := by decide +kernel
theorem bX10_sumUnpaid_79 : rf_ckb MX10_sumUnpaid 79 (.goto (-75)) (-75) 4 = true := by decide +kernel
def cX10_sumUnpaid_82 : List rf_I := [(.iload_n 2, 1, 2, 0, 0, 0, 0)]
theorem kX10_sumUnpaid_82 : rf_ck MX10_sumUnpaid 82 cX10_sumUnpaid_82 = true := by decide +kernel
theorem eX10_sumUnpaid_83 : rf_cki MX10_sumUnpaid 83 .ireturn = true := by decide +kernel
abbrev MX10_coinAbove : rf_M := (yX10_coinAbove, cX10_coinAbove, 8, (some (.long)))
theorem mkX10_coinAbove : rf_mk MX10_coinAbove 0 0 920 73 918 919 = true := by decide +kernel
def cX10_coinAbove_0 : List rf_I := [(.aload_n 0, 1, 0, 0, 0, 0, 0), (.getfield 28, 3, 10, 2, 331, 0, 0)]
theorem kX10_coinAbove_0 : rf_ck MX10_coinAbove 0 cX10_coinAbove_0 = true := by decide +kernel
theorem qX10_coinAbove_4 : rf_kc MX10_coinAbove 4 158 638 yX7_below 0 = true := by decide +kernel
def cX10_coinAbove_7 : List rf_I := [(.i2l, 1, 0, 0, 0, 0, 0), (.lstore_n 1, 1, 1, 0, 0, 0, 0), (.lconst 0, 1, 0, 0, 0, 0, lN 0), (.lstore_n 3, 1, 3, 0, 0, 0, 0), (.iconst 0, 1, 0, 0, 0, nI 0, 0), (.istore 5, 2, 5, 0, 0, 0, 0)]
theorem kX10_coinAbove_7 : rf_ck MX10_coinAbove 7 cX10_coinAbove_7 = true := by decide +kernel
def cX10_coinAbove_14 : List rf_I := [(.iload 5, 2, 5, 0, 0, 0, 0), (.aload_n 0, 1, 0, 0, 0, 0, 0), (.getfield 21, 3, 10, 1, 328, 0, 0), (.getfield 166, 3, 3, 0, 166, 0, 0)]
theorem kX10_coinAbove_14 : rf_ck MX10_coinAbove 14 cX10_coinAbove_14 = true := by decide +kernel
theorem bX10_coinAbove_23 : rf_ckb MX10_coinAbove 23 (.if_icmp .ge 77) 77 100 = true := by decide +kernel
def cX10_coinAbove_26 : List rf_I := [(.aload_n 0, 1, 0, 0, 0, 0, 0), (.iload 5, 2, 5, 0, 0, 0, 0)]
theorem kX10_coinAbove_26 : rf_ck MX10_coinAbove 26 cX10_coinAbove_26 = true := by decide +kernel
theorem qX10_coinAbove_29 : rf_kc MX10_coinAbove 29 173 912 yX10_paysNow 0 = true := by decide +kernel
theorem bX10_coinAbove_32 : rf_ckb MX10_coinAbove 32 (.ifCond .eq 16) 16 48 = true := by decide +kernel
def cX10_coinAbove_35 : List rf_I := [(.aload_n 0, 1, 0, 0, 0, 0, 0), (.getfield 21, 3, 10, 1, 328, 0, 0), (.getfield 180, 3, 3, 1, 169, 0, 0), (.i2l, 1, 0, 0, 0, 0, 0), (.lload_n 1, 1, 1, 0, 0, 0, 0), (.lmul, 1, 0, 0, 0, 0, 0)]
theorem kX10_coinAbove_35 : rf_ck MX10_coinAbove 35 cX10_coinAbove_35 = true := by decide +kernel
theorem bX10_coinAbove_45 : rf_ckb MX10_coinAbove 45 (.goto 30) 30 75 = true := by decide +kernel
def cX10_coinAbove_48 : List rf_I := [(.aload_n 0, 1, 0, 0, 0, 0, 0), (.getfield 21, 3, 10, 1, 328, 0, 0), (.getfield 152, 3, 3, 2, 173, 0, 0), (.i2l, 1, 0, 0, 0, 0, 0), (.aload_n 0, 1, 0, 0, 0, 0, 0), (.getfield 28, 3, 10, 2, 331, 0, 0), (.aload_n 0, 1, 0, 0, 0, 0, 0), (.getfield 21, 3, 10, 1, 328, 0, 0), (.getfield 149, 3, 3, 4, 181, 0, 0), (.iload 5, 2, 5, 0, 0, 0, 0), (.iaload, 1, 0, 0, 0, 0, 0)]
theorem kX10_coinAbove_48 : rf_ck MX10_coinAbove 48 cX10_coinAbove_48 = true := by decide +kernel
theorem qX10_coinAbove_70 : rf_kc MX10_coinAbove 70 155 637 yX7_lotsWith 0 = true := by decide +kernel
def cX10_coinAbove_73 : List rf_I := [(.i2l, 1, 0, 0, 0, 0, 0), (.lmul, 1, 0, 0, 0, 0, 0)]
theorem kX10_coinAbove_73 : rf_ck MX10_coinAbove 73 cX10_coinAbove_73 = true := by decide +kernel
def cX10_coinAbove_75 : List rf_I := [(.lstore 6, 2, 6, 0, 0, 0, 0), (.lload_n 3, 1, 3, 0, 0, 0, 0), (.lload 6, 2, 6, 0, 0, 0, 0), (.aload_n 0, 1, 0, 0, 0, 0, 0), (.getfield 21, 3, 10, 1, 328, 0, 0), (.getfield 177, 3, 3, 7, 191, 0, 0), (.iload 5, 2, 5, 0, 0, 0, 0), (.iaload, 1, 0, 0, 0, 0, 0), (.i2l, 1, 0, 0, 0, 0, 0), (.lmul, 1, 0, 0, 0, 0, 0), (.ladd, 1, 0, 0, 0, 0, 0), (.lstore_n 3, 1, 3, 0, 0, 0, 0), (.iinc 5 1, 3, 5, 0, 0, nI 1, 0)]
theorem kX10_coinAbove_75 : rf_ck MX10_coinAbove 75 cX10_coinAbove_75 = true := by decide +kernel
theorem bX10_coinAbove_97 : rf_ckb MX10_coinAbove 97 (.goto (-83)) (-83) 14 = true := by decide +kernel
def cX10_coinAbove_100 : List rf_I := [(.lload_n 3, 1, 3, 0, 0, 0, 0)]
theorem kX10_coinAbove_100 : rf_ck MX10_coinAbove 100 cX10_coinAbove_100 = true := by decide +kernel
theorem eX10_coinAbove_101 : rf_cki MX10_coinAbove 101 .lreturn = true := by decide +kernel
abbrev MX10_passDay : rf_M := (yX10_passDay, cX10_passDay, 5, (some (.int)))
theorem mkX10_passDay : rf_mk MX10_passDay 0 0 967 73 965 966 = true := by decide +kernel
def cX10_passDay_0 : List rf_I := [(.iconst 0, 1, 0, 0, 0, nI 0, 0), (.istore_n 1, 1, 1, 0, 0, 0, 0)]
theorem kX10_passDay_0 : rf_ck MX10_passDay 0 cX10_passDay_0 = true := by decide +kernel
def cX10_passDay_2 : List rf_I := [(.iload_n 1, 1, 1, 0, 0, 0, 0), (.aload_n 0, 1, 0, 0, 0, 0, 0), (.getfield 21, 3, 10, 1, 328, 0, 0), (.getfield 166, 3, 3, 0, 166, 0, 0)]
theorem kX10_passDay_2 : rf_ck MX10_passDay 2 cX10_passDay_2 = true := by decide +kernel
theorem bX10_passDay_10 : rf_ckb MX10_passDay 10 (.if_icmp .ge 20) 20 30 = true := by decide +kernel
def cX10_passDay_13 : List rf_I := [(.aload_n 0, 1, 0, 0, 0, 0, 0), (.getfield 63, 3, 10, 9, 342, 0, 0), (.iload_n 1, 1, 1, 0, 0, 0, 0), (.aload_n 0, 1, 0, 0, 0, 0, 0), (.iload_n 1, 1, 1, 0, 0, 0, 0)]
theorem kX10_passDay_13 : rf_ck MX10_passDay 13 cX10_passDay_13 = true := by decide +kernel
theorem qX10_passDay_20 : rf_kc MX10_passDay 20 173 912 yX10_paysNow 0 = true := by decide +kernel
def cX10_passDay_23 : List rf_I := [(.bastore, 1, 0, 0, 0, 0, 0), (.iinc 1 1, 3, 1, 0, 0, nI 1, 0)]
theorem kX10_passDay_23 : rf_ck MX10_passDay 23 cX10_passDay_23 = true := by decide +kernel
theorem bX10_passDay_27 : rf_ckb MX10_passDay 27 (.goto (-25)) (-25) 2 = true := by decide +kernel
def cX10_passDay_30 : List rf_I := [(.aload_n 0, 1, 0, 0, 0, 0, 0), (.getfield 28, 3, 10, 2, 331, 0, 0)]
theorem kX10_passDay_30 : rf_ck MX10_passDay 30 cX10_passDay_30 = true := by decide +kernel
theorem qX10_passDay_34 : rf_kc MX10_passDay 34 158 638 yX7_below 0 = true := by decide +kernel
def cX10_passDay_37 : List rf_I := [(.istore_n 1, 1, 1, 0, 0, 0, 0), (.aload_n 0, 1, 0, 0, 0, 0, 0), (.getfield 28, 3, 10, 2, 331, 0, 0), (.aload_n 0, 1, 0, 0, 0, 0, 0), (.getfield 35, 3, 10, 3, 334, 0, 0)]
theorem kX10_passDay_37 : rf_ck MX10_passDay 37 cX10_passDay_37 = true := by decide +kernel
theorem qX10_passDay_46 : rf_kc MX10_passDay 46 183 968 yX1_draw 0 = true := by decide +kernel
def cX10_passDay_49 : List rf_I := [(.iload_n 1, 1, 1, 0, 0, 0, 0), (.irem, 1, 0, 0, 0, 0, 0)]
theorem kX10_passDay_49 : rf_ck MX10_passDay 49 cX10_passDay_49 = true := by decide +kernel
theorem qX10_passDay_51 : rf_kc MX10_passDay 51 186 973 yX7_shiftOf 0 = true := by decide +kernel
def cX10_passDay_54 : List rf_I := [(.istore_n 2, 1, 2, 0, 0, 0, 0), (.iconst 0, 1, 0, 0, 0, nI 0, 0), (.istore_n 3, 1, 3, 0, 0, 0, 0), (.iconst 0, 1, 0, 0, 0, nI 0, 0), (.istore 4, 2, 4, 0, 0, 0, 0)]
theorem kX10_passDay_54 : rf_ck MX10_passDay 54 cX10_passDay_54 = true := by decide +kernel
def cX10_passDay_60 : List rf_I := [(.iload 4, 2, 4, 0, 0, 0, 0), (.aload_n 0, 1, 0, 0, 0, 0, 0), (.getfield 21, 3, 10, 1, 328, 0, 0), (.getfield 166, 3, 3, 0, 166, 0, 0)]
theorem kX10_passDay_60 : rf_ck MX10_passDay 60 cX10_passDay_60 = true := by decide +kernel
theorem bX10_passDay_69 : rf_ckb MX10_passDay 69 (.if_icmp .ge 73) 73 142 = true := by decide +kernel
def cX10_passDay_72 : List rf_I := [(.aload_n 0, 1, 0, 0, 0, 0, 0), (.getfield 63, 3, 10, 9, 342, 0, 0), (.iload 4, 2, 4, 0, 0, 0, 0), (.baload, 1, 0, 0, 0, 0, 0)]
theorem kX10_passDay_72 : rf_ck MX10_passDay 72 cX10_passDay_72 = true := by decide +kernel
theorem bX10_passDay_79 : rf_ckb MX10_passDay 79 (.ifCond .ne 57) 57 136 = true := by decide +kernel
def cX10_passDay_82 : List rf_I := [(.aload_n 0, 1, 0, 0, 0, 0, 0), (.getfield 28, 3, 10, 2, 331, 0, 0), (.getfield 189, 3, 7, 1, 234, 0, 0), (.iload_n 2, 1, 2, 0, 0, 0, 0), (.iaload, 1, 0, 0, 0, 0, 0), (.aload_n 0, 1, 0, 0, 0, 0, 0), (.getfield 21, 3, 10, 1, 328, 0, 0), (.getfield 149, 3, 3, 4, 181, 0, 0), (.iload 4, 2, 4, 0, 0, 0, 0), (.iaload, 1, 0, 0, 0, 0, 0)]
theorem kX10_passDay_82 : rf_ck MX10_passDay 82 cX10_passDay_82 = true := by decide +kernel
theorem qX10_passDay_101 : rf_kc MX10_passDay 101 169 911 yX11_has 1 = true := by decide +kernel
theorem bX10_passDay_104 : rf_ckb MX10_passDay 104 (.ifCond .eq 32) 32 136 = true := by decide +kernel
def cX10_passDay_107 : List rf_I := [(.iload_n 3, 1, 3, 0, 0, 0, 0), (.aload_n 0, 1, 0, 0, 0, 0, 0), (.getfield 21, 3, 10, 1, 328, 0, 0), (.getfield 177, 3, 3, 7, 191, 0, 0), (.iload 4, 2, 4, 0, 0, 0, 0), (.iaload, 1, 0, 0, 0, 0, 0), (.iadd, 1, 0, 0, 0, 0, 0), (.istore_n 3, 1, 3, 0, 0, 0, 0), (.aload_n 0, 1, 0, 0, 0, 0, 0), (.getfield 21, 3, 10, 1, 328, 0, 0), (.iload 4, 2, 4, 0, 0, 0, 0), (.aload_n 0, 1, 0, 0, 0, 0, 0), (.getfield 35, 3, 10, 3, 334, 0, 0), (.getfield 143, 3, 1, 0, 253, 0, 0)]
theorem kX10_passDay_107 : rf_ck MX10_passDay 107 cX10_passDay_107 = true := by decide +kernel
theorem qX10_passDay_133 : rf_kc MX10_passDay 133 192 977 yX3_beFound 0 = true := by decide +kernel
def cX10_passDay_136 : List rf_I := [(.iinc 4 1, 3, 4, 0, 0, nI 1, 0)]
theorem kX10_passDay_136 : rf_ck MX10_passDay 136 cX10_passDay_136 = true := by decide +kernel
theorem bX10_passDay_139 : rf_ckb MX10_passDay 139 (.goto (-79)) (-79) 60 = true := by decide +kernel
def cX10_passDay_142 : List rf_I := [(.aload_n 0, 1, 0, 0, 0, 0, 0), (.getfield 35, 3, 10, 3, 334, 0, 0), (.iload_n 2, 1, 2, 0, 0, 0, 0), (.iload_n 3, 1, 3, 0, 0, 0, 0), (.iload_n 3, 1, 3, 0, 0, 0, 0), (.iload_n 1, 1, 1, 0, 0, 0, 0), (.imul, 1, 0, 0, 0, 0, 0), (.aload_n 0, 1, 0, 0, 0, 0, 0), (.getfield 28, 3, 10, 2, 331, 0, 0), (.getfield 196, 3, 7, 2, 237, 0, 0), (.iload_n 2, 1, 2, 0, 0, 0, 0), (.iaload, 1, 0, 0, 0, 0, 0), (.iconst 1, 1, 0, 0, 0, nI 1, 0), (.invokestatic 115, 3, 0, 0, 868, 0, 0), (.idiv, 1, 0, 0, 0, 0, 0)]
theorem kX10_passDay_142 : rf_ck MX10_passDay 142 cX10_passDay_142 = true := by decide +kernel
theorem qX10_passDay_165 : rf_kc MX10_passDay 165 199 982 yX1_keepFind 0 = true := by decide +kernel
def cX10_passDay_168 : List rf_I := [(.aload_n 0, 1, 0, 0, 0, 0, 0), (.getfield 35, 3, 10, 3, 334, 0, 0), (.aload_n 0, 1, 0, 0, 0, 0, 0), (.getfield 35, 3, 10, 3, 334, 0, 0), (.getfield 203, 3, 1, 1, 256, 0, 0), (.aload_n 0, 1, 0, 0, 0, 0, 0), (.getfield 21, 3, 10, 1, 328, 0, 0), (.getfield 152, 3, 3, 2, 173, 0, 0), (.iload_n 3, 1, 3, 0, 0, 0, 0), (.imul, 1, 0, 0, 0, 0, 0), (.iadd, 1, 0, 0, 0, 0, 0), (.ldc 206, 2, 0, 0, 986, nI 1999999999, 0), (.invokestatic 207, 3, 1, 0, 987, 0, 0), (.putfield 203, 3, 1, 1, 256, 0, 0), (.aload_n 0, 1, 0, 0, 0, 0, 0), (.getfield 35, 3, 10, 3, 334, 0, 0), (.dup, 1, 0, 0, 0, 0, 0), (.getfield 143, 3, 1, 0, 253, 0, 0), (.iconst 1, 1, 0, 0, 0, nI 1, 0), (.iadd, 1, 0, 0, 0, 0, 0), (.putfield 143, 3, 1, 0, 253, 0, 0), (.iload_n 3, 1, 3, 0, 0, 0, 0)]
theorem kX10_passDay_168 : rf_ck MX10_passDay 168 cX10_passDay_168 = true := by decide +kernel
theorem eX10_passDay_211 : rf_cki MX10_passDay 211 .ireturn = true := by decide +kernel
abbrev MX10_leastFine : rf_M := (yX10_leastFine, cX10_leastFine, 4, (some (.int)))
theorem mkX10_leastFine : rf_mk MX10_leastFine 0 1 1018 73 1016 1017 = true := by decide +kernel
def cX10_leastFine_0 : List rf_I := [(.iconst 0, 1, 0, 0, 0, nI 0, 0), (.istore_n 2, 1, 2, 0, 0, 0, 0), (.iconst 0, 1, 0, 0, 0, nI 0, 0), (.istore_n 3, 1, 3, 0, 0, 0, 0)]
theorem kX10_leastFine_0 : rf_ck MX10_leastFine 0 cX10_leastFine_0 = true := by decide +kernel
def cX10_leastFine_4 : List rf_I := [(.iload_n 3, 1, 3, 0, 0, 0, 0), (.aload_n 0, 1, 0, 0, 0, 0, 0), (.getfield 21, 3, 10, 1, 328, 0, 0), (.getfield 166, 3, 3, 0, 166, 0, 0)]
theorem kX10_leastFine_4 : rf_ck MX10_leastFine 4 cX10_leastFine_4 = true := by decide +kernel
theorem bX10_leastFine_12 : rf_ckb MX10_leastFine 12 (.if_icmp .ge 45) 45 57 = true := by decide +kernel
def cX10_leastFine_15 : List rf_I := [(.aload_n 0, 1, 0, 0, 0, 0, 0), (.getfield 21, 3, 10, 1, 328, 0, 0), (.getfield 130, 3, 3, 3, 177, 0, 0), (.iload_n 3, 1, 3, 0, 0, 0, 0), (.iaload, 1, 0, 0, 0, 0, 0), (.iconst 2, 1, 0, 0, 0, nI 2, 0)]
theorem kX10_leastFine_15 : rf_ck MX10_leastFine 15 cX10_leastFine_15 = true := by decide +kernel
theorem qX10_leastFine_25 : rf_kc MX10_leastFine 25 210 1019 yX11_isUnder 1 = true := by decide +kernel
theorem bX10_leastFine_28 : rf_ckb MX10_leastFine 28 (.ifCond .ne 23) 23 51 = true := by decide +kernel
def cX10_leastFine_31 : List rf_I := [(.aload_n 0, 1, 0, 0, 0, 0, 0), (.iload_n 3, 1, 3, 0, 0, 0, 0)]
theorem kX10_leastFine_31 : rf_ck MX10_leastFine 31 cX10_leastFine_31 = true := by decide +kernel
theorem qX10_leastFine_33 : rf_kc MX10_leastFine 33 173 912 yX10_paysNow 0 = true := by decide +kernel
theorem bX10_leastFine_36 : rf_ckb MX10_leastFine 36 (.ifCond .ne 15) 15 51 = true := by decide +kernel
def cX10_leastFine_39 : List rf_I := [(.iload_n 2, 1, 2, 0, 0, 0, 0), (.aload_n 0, 1, 0, 0, 0, 0, 0), (.getfield 21, 3, 10, 1, 328, 0, 0), (.getfield 177, 3, 3, 7, 191, 0, 0), (.iload_n 3, 1, 3, 0, 0, 0, 0), (.iaload, 1, 0, 0, 0, 0, 0), (.iadd, 1, 0, 0, 0, 0, 0), (.istore_n 2, 1, 2, 0, 0, 0, 0)]
theorem kX10_leastFine_39 : rf_ck MX10_leastFine 39 cX10_leastFine_39 = true := by decide +kernel
def cX10_leastFine_51 : List rf_I := [(.iinc 3 1, 3, 3, 0, 0, nI 1, 0)]
theorem kX10_leastFine_51 : rf_ck MX10_leastFine 51 cX10_leastFine_51 = true := by decide +kernel
theorem bX10_leastFine_54 : rf_ckb MX10_leastFine 54 (.goto (-50)) (-50) 4 = true := by decide +kernel
def cX10_leastFine_57 : List rf_I := [(.iconst 0, 1, 0, 0, 0, nI 0, 0), (.istore_n 3, 1, 3, 0, 0, 0, 0)]
theorem kX10_leastFine_57 : rf_ck MX10_leastFine 57 cX10_leastFine_57 = true := by decide +kernel
def cX10_leastFine_59 : List rf_I := [(.iload_n 3, 1, 3, 0, 0, 0, 0), (.sipush 999, 3, 0, 0, 0, nI 999, 0)]
theorem kX10_leastFine_59 : rf_ck MX10_leastFine 59 cX10_leastFine_59 = true := by decide +kernel
theorem bX10_leastFine_63 : rf_ckb MX10_leastFine 63 (.if_icmp .gt 27) 27 90 = true := by decide +kernel
def cX10_leastFine_66 : List rf_I := [(.iload_n 2, 1, 2, 0, 0, 0, 0), (.iload_n 1, 1, 1, 0, 0, 0, 0)]
theorem kX10_leastFine_66 : rf_ck MX10_leastFine 66 cX10_leastFine_66 = true := by decide +kernel
theorem bX10_leastFine_68 : rf_ckb MX10_leastFine 68 (.if_icmp .gt 22) 22 90 = true := by decide +kernel
def cX10_leastFine_71 : List rf_I := [(.aload_n 0, 1, 0, 0, 0, 0, 0), (.iload_n 3, 1, 3, 0, 0, 0, 0), (.iload_n 1, 1, 1, 0, 0, 0, 0), (.iload_n 2, 1, 2, 0, 0, 0, 0), (.isub, 1, 0, 0, 0, 0, 0)]
theorem kX10_leastFine_71 : rf_ck MX10_leastFine 71 cX10_leastFine_71 = true := by decide +kernel
theorem qX10_leastFine_76 : rf_kc MX10_leastFine 76 213 1020 yX10_isTurned 0 = true := by decide +kernel
theorem bX10_leastFine_79 : rf_ckb MX10_leastFine 79 (.ifCond .eq 5) 5 84 = true := by decide +kernel
def cX10_leastFine_82 : List rf_I := [(.iload_n 3, 1, 3, 0, 0, 0, 0)]
theorem kX10_leastFine_82 : rf_ck MX10_leastFine 82 cX10_leastFine_82 = true := by decide +kernel
theorem eX10_leastFine_83 : rf_cki MX10_leastFine 83 .ireturn = true := by decide +kernel
def cX10_leastFine_84 : List rf_I := [(.iinc 3 1, 3, 3, 0, 0, nI 1, 0)]
theorem kX10_leastFine_84 : rf_ck MX10_leastFine 84 cX10_leastFine_84 = true := by decide +kernel
theorem bX10_leastFine_87 : rf_ckb MX10_leastFine 87 (.goto (-28)) (-28) 59 = true := by decide +kernel
def cX10_leastFine_90 : List rf_I := [(.iconst (-1), 1, 0, 0, 0, (-1), 0)]
theorem kX10_leastFine_90 : rf_ck MX10_leastFine 90 cX10_leastFine_90 = true := by decide +kernel
theorem eX10_leastFine_91 : rf_cki MX10_leastFine 91 .ireturn = true := by decide +kernel
abbrev MX10_isTurned : rf_M := (yX10_isTurned, cX10_isTurned, 6, (some (.boolean)))
theorem mkX10_isTurned : rf_mk MX10_isTurned 0 2 1023 73 1022 17 = true := by decide +kernel
def cX10_isTurned_0 : List rf_I := [(.aload_n 0, 1, 0, 0, 0, 0, 0), (.getfield 28, 3, 10, 2, 331, 0, 0)]
theorem kX10_isTurned_0 : rf_ck MX10_isTurned 0 cX10_isTurned_0 = true := by decide +kernel
theorem qX10_isTurned_4 : rf_kc MX10_isTurned 4 158 638 yX7_below 0 = true := by decide +kernel
def cX10_isTurned_7 : List rf_I := [(.istore_n 3, 1, 3, 0, 0, 0, 0), (.iconst 0, 1, 0, 0, 0, nI 0, 0), (.istore 4, 2, 4, 0, 0, 0, 0), (.iconst 0, 1, 0, 0, 0, nI 0, 0), (.istore 5, 2, 5, 0, 0, 0, 0)]
theorem kX10_isTurned_7 : rf_ck MX10_isTurned 7 cX10_isTurned_7 = true := by decide +kernel
def cX10_isTurned_14 : List rf_I := [(.iload 5, 2, 5, 0, 0, 0, 0), (.aload_n 0, 1, 0, 0, 0, 0, 0), (.getfield 21, 3, 10, 1, 328, 0, 0), (.getfield 166, 3, 3, 0, 166, 0, 0)]
theorem kX10_isTurned_14 : rf_ck MX10_isTurned 14 cX10_isTurned_14 = true := by decide +kernel
theorem bX10_isTurned_23 : rf_ckb MX10_isTurned 23 (.if_icmp .ge 75) 75 98 = true := by decide +kernel
def cX10_isTurned_26 : List rf_I := [(.iload 4, 2, 4, 0, 0, 0, 0), (.iload_n 2, 1, 2, 0, 0, 0, 0)]
theorem kX10_isTurned_26 : rf_ck MX10_isTurned 26 cX10_isTurned_26 = true := by decide +kernel
theorem bX10_isTurned_29 : rf_ckb MX10_isTurned 29 (.if_icmp .gt 69) 69 98 = true := by decide +kernel
def cX10_isTurned_32 : List rf_I := [(.aload_n 0, 1, 0, 0, 0, 0, 0), (.getfield 21, 3, 10, 1, 328, 0, 0), (.getfield 130, 3, 3, 3, 177, 0, 0), (.iload 5, 2, 5, 0, 0, 0, 0), (.iaload, 1, 0, 0, 0, 0, 0), (.iconst 2, 1, 0, 0, 0, nI 2, 0)]
theorem kX10_isTurned_32 : rf_ck MX10_isTurned 32 cX10_isTurned_32 = true := by decide +kernel
theorem qX10_isTurned_43 : rf_kc MX10_isTurned 43 210 1019 yX11_isUnder 1 = true := by decide +kernel
theorem bX10_isTurned_46 : rf_ckb MX10_isTurned 46 (.ifCond .eq 46) 46 92 = true := by decide +kernel
def cX10_isTurned_49 : List rf_I := [(.aload_n 0, 1, 0, 0, 0, 0, 0), (.iload 5, 2, 5, 0, 0, 0, 0), (.iload_n 1, 1, 1, 0, 0, 0, 0), (.aload_n 0, 1, 0, 0, 0, 0, 0), (.getfield 28, 3, 10, 2, 331, 0, 0), (.aload_n 0, 1, 0, 0, 0, 0, 0), (.getfield 21, 3, 10, 1, 328, 0, 0), (.getfield 149, 3, 3, 4, 181, 0, 0), (.iload 5, 2, 5, 0, 0, 0, 0), (.iaload, 1, 0, 0, 0, 0, 0)]
theorem kX10_isTurned_49 : rf_ck MX10_isTurned 49 cX10_isTurned_49 = true := by decide +kernel
theorem qX10_isTurned_67 : rf_kc MX10_isTurned 67 155 637 yX7_lotsWith 0 = true := by decide +kernel
def cX10_isTurned_70 : List rf_I := [(.iload_n 3, 1, 3, 0, 0, 0, 0)]
theorem kX10_isTurned_70 : rf_ck MX10_isTurned 70 cX10_isTurned_70 = true := by decide +kernel
theorem qX10_isTurned_71 : rf_kc MX10_isTurned 71 162 649 yX10_pays 0 = true := by decide +kernel
theorem bX10_isTurned_74 : rf_ckb MX10_isTurned 74 (.ifCond .ne 18) 18 92 = true := by decide +kernel
def cX10_isTurned_77 : List rf_I := [(.iload 4, 2, 4, 0, 0, 0, 0), (.aload_n 0, 1, 0, 0, 0, 0, 0), (.getfield 21, 3, 10, 1, 328, 0, 0), (.getfield 177, 3, 3, 7, 191, 0, 0), (.iload 5, 2, 5, 0, 0, 0, 0), (.iaload, 1, 0, 0, 0, 0, 0), (.iadd, 1, 0, 0, 0, 0, 0), (.istore 4, 2, 4, 0, 0, 0, 0)]
theorem kX10_isTurned_77 : rf_ck MX10_isTurned 77 cX10_isTurned_77 = true := by decide +kernel
def cX10_isTurned_92 : List rf_I := [(.iinc 5 1, 3, 5, 0, 0, nI 1, 0)]
theorem kX10_isTurned_92 : rf_ck MX10_isTurned 92 cX10_isTurned_92 = true := by decide +kernel
theorem bX10_isTurned_95 : rf_ckb MX10_isTurned 95 (.goto (-81)) (-81) 14 = true := by decide +kernel
def cX10_isTurned_98 : List rf_I := [(.iload 4, 2, 4, 0, 0, 0, 0), (.iload_n 2, 1, 2, 0, 0, 0, 0)]
theorem kX10_isTurned_98 : rf_ck MX10_isTurned 98 cX10_isTurned_98 = true := by decide +kernel
theorem bX10_isTurned_101 : rf_ckb MX10_isTurned 101 (.if_icmp .gt 7) 7 108 = true := by decide +kernel
def cX10_isTurned_104 : List rf_I := [(.iconst 1, 1, 0, 0, 0, nI 1, 0)]
theorem kX10_isTurned_104 : rf_ck MX10_isTurned 104 cX10_isTurned_104 = true := by decide +kernel
theorem bX10_isTurned_105 : rf_ckb MX10_isTurned 105 (.goto 4) 4 109 = true := by decide +kernel
def cX10_isTurned_108 : List rf_I := [(.iconst 0, 1, 0, 0, 0, nI 0, 0)]
theorem kX10_isTurned_108 : rf_ck MX10_isTurned 108 cX10_isTurned_108 = true := by decide +kernel
theorem eX10_isTurned_109 : rf_cki MX10_isTurned 109 .ireturn = true := by decide +kernel
abbrev MX10_fareMissedAt : rf_M := (yX10_fareMissedAt, cX10_fareMissedAt, 6, (some (.int)))
theorem mkX10_fareMissedAt : rf_mk MX10_fareMissedAt 0 1 1031 73 1029 1030 = true := by decide +kernel
def cX10_fareMissedAt_0 : List rf_I := [(.iconst 0, 1, 0, 0, 0, nI 0, 0), (.istore_n 2, 1, 2, 0, 0, 0, 0), (.iconst 0, 1, 0, 0, 0, nI 0, 0), (.istore_n 3, 1, 3, 0, 0, 0, 0)]
theorem kX10_fareMissedAt_0 : rf_ck MX10_fareMissedAt 0 cX10_fareMissedAt_0 = true := by decide +kernel
def cX10_fareMissedAt_4 : List rf_I := [(.iload_n 3, 1, 3, 0, 0, 0, 0), (.aload_n 0, 1, 0, 0, 0, 0, 0), (.getfield 21, 3, 10, 1, 328, 0, 0), (.getfield 166, 3, 3, 0, 166, 0, 0)]
theorem kX10_fareMissedAt_4 : rf_ck MX10_fareMissedAt 4 cX10_fareMissedAt_4 = true := by decide +kernel
theorem bX10_fareMissedAt_12 : rf_ckb MX10_fareMissedAt 12 (.if_icmp .ge 80) 80 92 = true := by decide +kernel
def cX10_fareMissedAt_15 : List rf_I := [(.aload_n 0, 1, 0, 0, 0, 0, 0), (.getfield 21, 3, 10, 1, 328, 0, 0), (.getfield 149, 3, 3, 4, 181, 0, 0), (.iload_n 3, 1, 3, 0, 0, 0, 0), (.iaload, 1, 0, 0, 0, 0, 0), (.istore 4, 2, 4, 0, 0, 0, 0), (.aload_n 0, 1, 0, 0, 0, 0, 0), (.getfield 21, 3, 10, 1, 328, 0, 0), (.getfield 216, 3, 3, 5, 185, 0, 0), (.iload_n 3, 1, 3, 0, 0, 0, 0), (.iaload, 1, 0, 0, 0, 0, 0), (.istore 5, 2, 5, 0, 0, 0, 0), (.iload 5, 2, 5, 0, 0, 0, 0), (.aload_n 0, 1, 0, 0, 0, 0, 0), (.getfield 12, 3, 10, 0, 325, 0, 0), (.iload 4, 2, 4, 0, 0, 0, 0)]
theorem kX10_fareMissedAt_15 : rf_ck MX10_fareMissedAt 15 cX10_fareMissedAt_15 = true := by decide +kernel
theorem qX10_fareMissedAt_45 : rf_kc MX10_fareMissedAt 45 219 1032 yX4_stopsOf 0 = true := by decide +kernel
theorem bX10_fareMissedAt_48 : rf_ckb MX10_fareMissedAt 48 (.if_icmp .ge 38) 38 86 = true := by decide +kernel
def cX10_fareMissedAt_51 : List rf_I := [(.aload_n 0, 1, 0, 0, 0, 0, 0), (.getfield 12, 3, 10, 0, 325, 0, 0), (.iload 4, 2, 4, 0, 0, 0, 0), (.iload 5, 2, 5, 0, 0, 0, 0)]
theorem kX10_fareMissedAt_51 : rf_ck MX10_fareMissedAt 51 cX10_fareMissedAt_51 = true := by decide +kernel
theorem qX10_fareMissedAt_59 : rf_kc MX10_fareMissedAt 59 102 865 yX4_stationAt 0 = true := by decide +kernel
def cX10_fareMissedAt_62 : List rf_I := [(.iload_n 1, 1, 1, 0, 0, 0, 0)]
theorem kX10_fareMissedAt_62 : rf_ck MX10_fareMissedAt 62 cX10_fareMissedAt_62 = true := by decide +kernel
theorem bX10_fareMissedAt_63 : rf_ckb MX10_fareMissedAt 63 (.if_icmp .ne 23) 23 86 = true := by decide +kernel
def cX10_fareMissedAt_66 : List rf_I := [(.aload_n 0, 1, 0, 0, 0, 0, 0), (.iload_n 3, 1, 3, 0, 0, 0, 0)]
theorem kX10_fareMissedAt_66 : rf_ck MX10_fareMissedAt 66 cX10_fareMissedAt_66 = true := by decide +kernel
theorem qX10_fareMissedAt_68 : rf_kc MX10_fareMissedAt 68 173 912 yX10_paysNow 0 = true := by decide +kernel
theorem bX10_fareMissedAt_71 : rf_ckb MX10_fareMissedAt 71 (.ifCond .ne 15) 15 86 = true := by decide +kernel
def cX10_fareMissedAt_74 : List rf_I := [(.iload_n 2, 1, 2, 0, 0, 0, 0), (.aload_n 0, 1, 0, 0, 0, 0, 0), (.getfield 21, 3, 10, 1, 328, 0, 0), (.getfield 177, 3, 3, 7, 191, 0, 0), (.iload_n 3, 1, 3, 0, 0, 0, 0), (.iaload, 1, 0, 0, 0, 0, 0), (.iadd, 1, 0, 0, 0, 0, 0), (.istore_n 2, 1, 2, 0, 0, 0, 0)]
theorem kX10_fareMissedAt_74 : rf_ck MX10_fareMissedAt 74 cX10_fareMissedAt_74 = true := by decide +kernel
def cX10_fareMissedAt_86 : List rf_I := [(.iinc 3 1, 3, 3, 0, 0, nI 1, 0)]
theorem kX10_fareMissedAt_86 : rf_ck MX10_fareMissedAt 86 cX10_fareMissedAt_86 = true := by decide +kernel
theorem bX10_fareMissedAt_89 : rf_ckb MX10_fareMissedAt 89 (.goto (-85)) (-85) 4 = true := by decide +kernel
def cX10_fareMissedAt_92 : List rf_I := [(.aload_n 0, 1, 0, 0, 0, 0, 0), (.getfield 21, 3, 10, 1, 328, 0, 0), (.getfield 180, 3, 3, 1, 169, 0, 0), (.iload_n 2, 1, 2, 0, 0, 0, 0), (.imul, 1, 0, 0, 0, 0, 0)]
theorem kX10_fareMissedAt_92 : rf_ck MX10_fareMissedAt 92 cX10_fareMissedAt_92 = true := by decide +kernel
theorem eX10_fareMissedAt_101 : rf_cki MX10_fareMissedAt 101 .ireturn = true := by decide +kernel
abbrev MX10_payersLookedAt : rf_M := (yX10_payersLookedAt, cX10_payersLookedAt, 3, (some (.int)))
theorem mkX10_payersLookedAt : rf_mk MX10_payersLookedAt 0 0 1040 73 1038 1039 = true := by decide +kernel
def cX10_payersLookedAt_0 : List rf_I := [(.iconst 0, 1, 0, 0, 0, nI 0, 0), (.istore_n 1, 1, 1, 0, 0, 0, 0), (.iconst 0, 1, 0, 0, 0, nI 0, 0), (.istore_n 2, 1, 2, 0, 0, 0, 0)]
theorem kX10_payersLookedAt_0 : rf_ck MX10_payersLookedAt 0 cX10_payersLookedAt_0 = true := by decide +kernel
def cX10_payersLookedAt_4 : List rf_I := [(.iload_n 2, 1, 2, 0, 0, 0, 0), (.aload_n 0, 1, 0, 0, 0, 0, 0), (.getfield 21, 3, 10, 1, 328, 0, 0), (.getfield 166, 3, 3, 0, 166, 0, 0)]
theorem kX10_payersLookedAt_4 : rf_ck MX10_payersLookedAt 4 cX10_payersLookedAt_4 = true := by decide +kernel
theorem bX10_payersLookedAt_12 : rf_ckb MX10_payersLookedAt 12 (.if_icmp .ge 46) 46 58 = true := by decide +kernel
def cX10_payersLookedAt_15 : List rf_I := [(.aload_n 0, 1, 0, 0, 0, 0, 0), (.iload_n 2, 1, 2, 0, 0, 0, 0)]
theorem kX10_payersLookedAt_15 : rf_ck MX10_payersLookedAt 15 cX10_payersLookedAt_15 = true := by decide +kernel
theorem qX10_payersLookedAt_17 : rf_kc MX10_payersLookedAt 17 173 912 yX10_paysNow 0 = true := by decide +kernel
theorem bX10_payersLookedAt_20 : rf_ckb MX10_payersLookedAt 20 (.ifCond .eq 32) 32 52 = true := by decide +kernel
def cX10_payersLookedAt_23 : List rf_I := [(.iload_n 1, 1, 1, 0, 0, 0, 0), (.aload_n 0, 1, 0, 0, 0, 0, 0), (.getfield 21, 3, 10, 1, 328, 0, 0), (.getfield 177, 3, 3, 7, 191, 0, 0), (.iload_n 2, 1, 2, 0, 0, 0, 0), (.iaload, 1, 0, 0, 0, 0, 0), (.aload_n 0, 1, 0, 0, 0, 0, 0), (.getfield 28, 3, 10, 2, 331, 0, 0), (.aload_n 0, 1, 0, 0, 0, 0, 0), (.getfield 21, 3, 10, 1, 328, 0, 0), (.getfield 149, 3, 3, 4, 181, 0, 0), (.iload_n 2, 1, 2, 0, 0, 0, 0), (.iaload, 1, 0, 0, 0, 0, 0)]
theorem kX10_payersLookedAt_23 : rf_ck MX10_payersLookedAt 23 cX10_payersLookedAt_23 = true := by decide +kernel
theorem qX10_payersLookedAt_46 : rf_kc MX10_payersLookedAt 46 155 637 yX7_lotsWith 0 = true := by decide +kernel
def cX10_payersLookedAt_49 : List rf_I := [(.imul, 1, 0, 0, 0, 0, 0), (.iadd, 1, 0, 0, 0, 0, 0), (.istore_n 1, 1, 1, 0, 0, 0, 0)]
theorem kX10_payersLookedAt_49 : rf_ck MX10_payersLookedAt 49 cX10_payersLookedAt_49 = true := by decide +kernel
def cX10_payersLookedAt_52 : List rf_I := [(.iinc 2 1, 3, 2, 0, 0, nI 1, 0)]
theorem kX10_payersLookedAt_52 : rf_ck MX10_payersLookedAt 52 cX10_payersLookedAt_52 = true := by decide +kernel
theorem bX10_payersLookedAt_55 : rf_ckb MX10_payersLookedAt 55 (.goto (-51)) (-51) 4 = true := by decide +kernel
def cX10_payersLookedAt_58 : List rf_I := [(.iload_n 1, 1, 1, 0, 0, 0, 0)]
theorem kX10_payersLookedAt_58 : rf_ck MX10_payersLookedAt 58 cX10_payersLookedAt_58 = true := by decide +kernel
theorem eX10_payersLookedAt_59 : rf_cki MX10_payersLookedAt 59 .ireturn = true := by decide +kernel
abbrev MX10_unpaidOfHundred : rf_M := (yX10_unpaidOfHundred, cX10_unpaidOfHundred, 5, (some (.int)))
theorem mkX10_unpaidOfHundred : rf_mk MX10_unpaidOfHundred 0 1 1060 73 1058 1059 = true := by decide +kernel
def cX10_unpaidOfHundred_0 : List rf_I := [(.iconst 0, 1, 0, 0, 0, nI 0, 0), (.istore_n 2, 1, 2, 0, 0, 0, 0), (.iconst 0, 1, 0, 0, 0, nI 0, 0), (.istore_n 3, 1, 3, 0, 0, 0, 0), (.iconst 0, 1, 0, 0, 0, nI 0, 0), (.istore 4, 2, 4, 0, 0, 0, 0)]
theorem kX10_unpaidOfHundred_0 : rf_ck MX10_unpaidOfHundred 0 cX10_unpaidOfHundred_0 = true := by decide +kernel
def cX10_unpaidOfHundred_7 : List rf_I := [(.iload 4, 2, 4, 0, 0, 0, 0), (.aload_n 0, 1, 0, 0, 0, 0, 0), (.getfield 21, 3, 10, 1, 328, 0, 0), (.getfield 166, 3, 3, 0, 166, 0, 0)]
theorem kX10_unpaidOfHundred_7 : rf_ck MX10_unpaidOfHundred 7 cX10_unpaidOfHundred_7 = true := by decide +kernel
theorem bX10_unpaidOfHundred_16 : rf_ckb MX10_unpaidOfHundred 16 (.if_icmp .ge 70) 70 86 = true := by decide +kernel
def cX10_unpaidOfHundred_19 : List rf_I := [(.aload_n 0, 1, 0, 0, 0, 0, 0), (.getfield 12, 3, 10, 0, 325, 0, 0), (.getfield 222, 3, 4, 7, 130, 0, 0), (.aload_n 0, 1, 0, 0, 0, 0, 0), (.getfield 21, 3, 10, 1, 328, 0, 0), (.getfield 149, 3, 3, 4, 181, 0, 0), (.iload 4, 2, 4, 0, 0, 0, 0), (.iaload, 1, 0, 0, 0, 0, 0), (.iaload, 1, 0, 0, 0, 0, 0), (.iload_n 1, 1, 1, 0, 0, 0, 0)]
theorem kX10_unpaidOfHundred_19 : rf_ck MX10_unpaidOfHundred 19 cX10_unpaidOfHundred_19 = true := by decide +kernel
theorem bX10_unpaidOfHundred_38 : rf_ckb MX10_unpaidOfHundred 38 (.if_icmp .ne 42) 42 80 = true := by decide +kernel
def cX10_unpaidOfHundred_41 : List rf_I := [(.iload_n 2, 1, 2, 0, 0, 0, 0), (.aload_n 0, 1, 0, 0, 0, 0, 0), (.getfield 21, 3, 10, 1, 328, 0, 0), (.getfield 177, 3, 3, 7, 191, 0, 0), (.iload 4, 2, 4, 0, 0, 0, 0), (.iaload, 1, 0, 0, 0, 0, 0), (.iadd, 1, 0, 0, 0, 0, 0), (.istore_n 2, 1, 2, 0, 0, 0, 0), (.iload_n 3, 1, 3, 0, 0, 0, 0), (.aload_n 0, 1, 0, 0, 0, 0, 0), (.iload 4, 2, 4, 0, 0, 0, 0)]
theorem kX10_unpaidOfHundred_41 : rf_ck MX10_unpaidOfHundred 41 cX10_unpaidOfHundred_41 = true := by decide +kernel
theorem qX10_unpaidOfHundred_58 : rf_kc MX10_unpaidOfHundred 58 173 912 yX10_paysNow 0 = true := by decide +kernel
theorem bX10_unpaidOfHundred_61 : rf_ckb MX10_unpaidOfHundred 61 (.ifCond .eq 7) 7 68 = true := by decide +kernel
def cX10_unpaidOfHundred_64 : List rf_I := [(.iconst 0, 1, 0, 0, 0, nI 0, 0)]
theorem kX10_unpaidOfHundred_64 : rf_ck MX10_unpaidOfHundred 64 cX10_unpaidOfHundred_64 = true := by decide +kernel
theorem bX10_unpaidOfHundred_65 : rf_ckb MX10_unpaidOfHundred 65 (.goto 13) 13 78 = true := by decide +kernel
def cX10_unpaidOfHundred_68 : List rf_I := [(.aload_n 0, 1, 0, 0, 0, 0, 0), (.getfield 21, 3, 10, 1, 328, 0, 0), (.getfield 177, 3, 3, 7, 191, 0, 0), (.iload 4, 2, 4, 0, 0, 0, 0), (.iaload, 1, 0, 0, 0, 0, 0)]
theorem kX10_unpaidOfHundred_68 : rf_ck MX10_unpaidOfHundred 68 cX10_unpaidOfHundred_68 = true := by decide +kernel
def cX10_unpaidOfHundred_78 : List rf_I := [(.iadd, 1, 0, 0, 0, 0, 0), (.istore_n 3, 1, 3, 0, 0, 0, 0)]
theorem kX10_unpaidOfHundred_78 : rf_ck MX10_unpaidOfHundred 78 cX10_unpaidOfHundred_78 = true := by decide +kernel
def cX10_unpaidOfHundred_80 : List rf_I := [(.iinc 4 1, 3, 4, 0, 0, nI 1, 0)]
theorem kX10_unpaidOfHundred_80 : rf_ck MX10_unpaidOfHundred 80 cX10_unpaidOfHundred_80 = true := by decide +kernel
theorem bX10_unpaidOfHundred_83 : rf_ckb MX10_unpaidOfHundred 83 (.goto (-76)) (-76) 7 = true := by decide +kernel
def cX10_unpaidOfHundred_86 : List rf_I := [(.iload_n 2, 1, 2, 0, 0, 0, 0)]
theorem kX10_unpaidOfHundred_86 : rf_ck MX10_unpaidOfHundred 86 cX10_unpaidOfHundred_86 = true := by decide +kernel
theorem bX10_unpaidOfHundred_87 : rf_ckb MX10_unpaidOfHundred 87 (.ifCond .ne 7) 7 94 = true := by decide +kernel
def cX10_unpaidOfHundred_90 : List rf_I := [(.iconst (-1), 1, 0, 0, 0, (-1), 0)]
theorem kX10_unpaidOfHundred_90 : rf_ck MX10_unpaidOfHundred 90 cX10_unpaidOfHundred_90 = true := by decide +kernel
theorem bX10_unpaidOfHundred_91 : rf_ckb MX10_unpaidOfHundred 91 (.goto 9) 9 100 = true := by decide +kernel
def cX10_unpaidOfHundred_94 : List rf_I := [(.iload_n 3, 1, 3, 0, 0, 0, 0), (.bipush 100, 2, 0, 0, 0, nI 100, 0), (.imul, 1, 0, 0, 0, 0, 0), (.iload_n 2, 1, 2, 0, 0, 0, 0), (.idiv, 1, 0, 0, 0, 0, 0)]
theorem kX10_unpaidOfHundred_94 : rf_ck MX10_unpaidOfHundred 94 cX10_unpaidOfHundred_94 = true := by decide +kernel
theorem eX10_unpaidOfHundred_100 : rf_cki MX10_unpaidOfHundred 100 .ireturn = true := by decide +kernel
abbrev MX10_checkOrder : rf_M := (yX10_checkOrder, cX10_checkOrder, 5, (some (.int)))
theorem mkX10_checkOrder : rf_mk MX10_checkOrder 0 2 1169 73 1167 1168 = true := by decide +kernel
def cX10_checkOrder_0 : List rf_I := [(.aload_n 0, 1, 0, 0, 0, 0, 0), (.getfield 12, 3, 10, 0, 325, 0, 0), (.aload_n 0, 1, 0, 0, 0, 0, 0), (.getfield 28, 3, 10, 2, 331, 0, 0), (.getfield 189, 3, 7, 1, 234, 0, 0), (.iload_n 1, 1, 1, 0, 0, 0, 0), (.iaload, 1, 0, 0, 0, 0, 0), (.aload_n 0, 1, 0, 0, 0, 0, 0), (.getfield 60, 3, 10, 8, 341, 0, 0)]
theorem kX10_checkOrder_0 : rf_ck MX10_checkOrder 0 cX10_checkOrder_0 = true := by decide +kernel
theorem qX10_checkOrder_17 : rf_kc MX10_checkOrder 17 94 859 yX4_sortByStart 0 = true := by decide +kernel
def cX10_checkOrder_20 : List rf_I := [(.istore_n 3, 1, 3, 0, 0, 0, 0), (.iconst 0, 1, 0, 0, 0, nI 0, 0), (.istore 4, 2, 4, 0, 0, 0, 0)]
theorem kX10_checkOrder_20 : rf_ck MX10_checkOrder 20 cX10_checkOrder_20 = true := by decide +kernel
def cX10_checkOrder_24 : List rf_I := [(.iload 4, 2, 4, 0, 0, 0, 0), (.iload_n 3, 1, 3, 0, 0, 0, 0)]
theorem kX10_checkOrder_24 : rf_ck MX10_checkOrder 24 cX10_checkOrder_24 = true := by decide +kernel
theorem bX10_checkOrder_27 : rf_ckb MX10_checkOrder 27 (.if_icmp .ge 35) 35 62 = true := by decide +kernel
def cX10_checkOrder_30 : List rf_I := [(.iload 4, 2, 4, 0, 0, 0, 0), (.iload_n 2, 1, 2, 0, 0, 0, 0)]
theorem kX10_checkOrder_30 : rf_ck MX10_checkOrder 30 cX10_checkOrder_30 = true := by decide +kernel
theorem bX10_checkOrder_33 : rf_ckb MX10_checkOrder 33 (.if_icmp .ge 29) 29 62 = true := by decide +kernel
def cX10_checkOrder_36 : List rf_I := [(.aload_n 0, 1, 0, 0, 0, 0, 0), (.getfield 42, 3, 10, 4, 336, 0, 0), (.getfield 225, 3, 0, 3, 297, 0, 0), (.iload 4, 2, 4, 0, 0, 0, 0), (.iaload, 1, 0, 0, 0, 0, 0), (.aload_n 0, 1, 0, 0, 0, 0, 0), (.getfield 60, 3, 10, 8, 341, 0, 0), (.iload 4, 2, 4, 0, 0, 0, 0), (.iaload, 1, 0, 0, 0, 0, 0)]
theorem kX10_checkOrder_36 : rf_ck MX10_checkOrder 36 cX10_checkOrder_36 = true := by decide +kernel
theorem bX10_checkOrder_53 : rf_ckb MX10_checkOrder 53 (.if_icmp .ne 9) 9 62 = true := by decide +kernel
def cX10_checkOrder_56 : List rf_I := [(.iinc 4 1, 3, 4, 0, 0, nI 1, 0)]
theorem kX10_checkOrder_56 : rf_ck MX10_checkOrder 56 cX10_checkOrder_56 = true := by decide +kernel
theorem bX10_checkOrder_59 : rf_ckb MX10_checkOrder 59 (.goto (-35)) (-35) 24 = true := by decide +kernel
def cX10_checkOrder_62 : List rf_I := [(.iload 4, 2, 4, 0, 0, 0, 0), (.iload_n 3, 1, 3, 0, 0, 0, 0)]
theorem kX10_checkOrder_62 : rf_ck MX10_checkOrder 62 cX10_checkOrder_62 = true := by decide +kernel
theorem bX10_checkOrder_65 : rf_ckb MX10_checkOrder 65 (.if_icmp .ne 13) 13 78 = true := by decide +kernel
def cX10_checkOrder_68 : List rf_I := [(.iload 4, 2, 4, 0, 0, 0, 0), (.iload_n 2, 1, 2, 0, 0, 0, 0)]
theorem kX10_checkOrder_68 : rf_ck MX10_checkOrder 68 cX10_checkOrder_68 = true := by decide +kernel
theorem bX10_checkOrder_71 : rf_ckb MX10_checkOrder 71 (.if_icmp .ne 7) 7 78 = true := by decide +kernel
def cX10_checkOrder_74 : List rf_I := [(.iconst 0, 1, 0, 0, 0, nI 0, 0)]
theorem kX10_checkOrder_74 : rf_ck MX10_checkOrder 74 cX10_checkOrder_74 = true := by decide +kernel
theorem bX10_checkOrder_75 : rf_ckb MX10_checkOrder 75 (.goto 7) 7 82 = true := by decide +kernel
def cX10_checkOrder_78 : List rf_I := [(.iconst 1, 1, 0, 0, 0, nI 1, 0), (.iload 4, 2, 4, 0, 0, 0, 0), (.iadd, 1, 0, 0, 0, 0, 0)]
theorem kX10_checkOrder_78 : rf_ck MX10_checkOrder 78 cX10_checkOrder_78 = true := by decide +kernel
theorem eX10_checkOrder_82 : rf_cki MX10_checkOrder 82 .ireturn = true := by decide +kernel
