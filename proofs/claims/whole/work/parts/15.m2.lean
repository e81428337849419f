abbrev MX11_init : rf_M := (yX11_init, cX11_init, 1, none)
theorem mkX11_init : rf_mk MX11_init 2 0 97 72 96 0 = true := by decide +kernel
def cX11_init_0 : List rf_I := [(.aload_n 0, 1, 0, 0, 0, 0, 0), (.invokespecial 3, 3, 0, 0, 98, 0, 0), (.aload_n 0, 1, 0, 0, 0, 0, 0), (.new 9, 3, 10, 0, 101, 0, 0), (.dup, 1, 0, 0, 0, 0, 0)]
theorem kX11_init_0 : rf_ck MX11_init 0 cX11_init_0 = true := by decide +kernel
theorem qX11_init_9 : rf_kc MX11_init 9 11 103 yX10_init 2 = true := by decide +kernel
def cX11_init_12 : List rf_I := [(.putfield 12, 3, 11, 0, 461, 0, 0), (.aload_n 0, 1, 0, 0, 0, 0, 0), (.new 9, 3, 10, 0, 101, 0, 0), (.dup, 1, 0, 0, 0, 0, 0)]
theorem kX11_init_12 : rf_ck MX11_init 12 cX11_init_12 = true := by decide +kernel
theorem qX11_init_20 : rf_kc MX11_init 20 11 103 yX10_init 2 = true := by decide +kernel
def cX11_init_23 : List rf_I := [(.putfield 16, 3, 11, 1, 462, 0, 0), (.aload_n 0, 1, 0, 0, 0, 0, 0), (.new 19, 3, 2, 0, 365, 0, 0), (.dup, 1, 0, 0, 0, 0, 0)]
theorem kX11_init_23 : rf_ck MX11_init 23 cX11_init_23 = true := by decide +kernel
theorem qX11_init_31 : rf_kc MX11_init 31 21 367 yX2_init 2 = true := by decide +kernel
def cX11_init_34 : List rf_I := [(.putfield 22, 3, 11, 2, 463, 0, 0), (.aload_n 0, 1, 0, 0, 0, 0, 0), (.new 26, 3, 5, 0, 389, 0, 0), (.dup, 1, 0, 0, 0, 0, 0)]
theorem kX11_init_34 : rf_ck MX11_init 34 cX11_init_34 = true := by decide +kernel
theorem qX11_init_42 : rf_kc MX11_init 42 28 391 yX5_init 2 = true := by decide +kernel
def cX11_init_45 : List rf_I := [(.putfield 29, 3, 11, 3, 464, 0, 0), (.aload_n 0, 1, 0, 0, 0, 0, 0), (.new 33, 3, 9, 0, 416, 0, 0), (.dup, 1, 0, 0, 0, 0, 0)]
theorem kX11_init_45 : rf_ck MX11_init 45 cX11_init_45 = true := by decide +kernel
theorem qX11_init_53 : rf_kc MX11_init 53 35 418 yX9_init 2 = true := by decide +kernel
def cX11_init_56 : List rf_I := [(.putfield 36, 3, 11, 4, 465, 0, 0), (.aload_n 0, 1, 0, 0, 0, 0, 0), (.new 40, 3, 6, 0, 440, 0, 0), (.dup, 1, 0, 0, 0, 0, 0)]
theorem kX11_init_56 : rf_ck MX11_init 56 cX11_init_56 = true := by decide +kernel
theorem qX11_init_64 : rf_kc MX11_init 64 42 442 yX6_init 2 = true := by decide +kernel
def cX11_init_67 : List rf_I := [(.putfield 43, 3, 11, 5, 466, 0, 0), (.aload_n 0, 1, 0, 0, 0, 0, 0), (.bipush 6, 2, 0, 0, 0, nI 6, 0), (.newarray .int, 2, 0, 6, 0, 0, 0), (.putfield 47, 3, 11, 6, 467, 0, 0), (.aload_n 0, 1, 0, 0, 0, 0, 0), (.iconst 0, 1, 0, 0, 0, nI 0, 0), (.putfield 51, 3, 11, 7, 468, 0, 0)]
theorem kX11_init_67 : rf_ck MX11_init 67 cX11_init_67 = true := by decide +kernel
theorem eX11_init_83 : rf_cki MX11_init 83 .return_ = true := by decide +kernel
abbrev MX11_station : rf_M := (yX11_station, cX11_station, 1, (some (.int)))
theorem mkX11_station : rf_mk MX11_station 0 0 489 72 487 488 = true := by decide +kernel
def cX11_station_0 : List rf_I := [(.aload_n 0, 1, 0, 0, 0, 0, 0), (.getfield 12, 3, 11, 0, 461, 0, 0), (.getfield 55, 3, 10, 0, 326, 0, 0), (.getfield 59, 3, 4, 0, 117, 0, 0), (.bipush 8, 2, 0, 0, 0, nI 8, 0)]
theorem kX11_station_0 : rf_ck MX11_station 0 cX11_station_0 = true := by decide +kernel
theorem bX11_station_12 : rf_ckb MX11_station 12 (.if_icmp .lt 10) 10 22 = true := by decide +kernel
def cX11_station_15 : List rf_I := [(.aload_n 0, 1, 0, 0, 0, 0, 0), (.ldc 64, 2, 0, 0, 490, (-1000000004), 0)]
theorem kX11_station_15 : rf_ck MX11_station 15 cX11_station_15 = true := by decide +kernel
theorem qX11_station_18 : rf_kc MX11_station 18 65 491 yX11_error 0 = true := by decide +kernel
theorem eX11_station_21 : rf_cki MX11_station 21 .ireturn = true := by decide +kernel
def cX11_station_22 : List rf_I := [(.aload_n 0, 1, 0, 0, 0, 0, 0), (.getfield 12, 3, 11, 0, 461, 0, 0), (.getfield 55, 3, 10, 0, 326, 0, 0)]
theorem kX11_station_22 : rf_ck MX11_station 22 cX11_station_22 = true := by decide +kernel
theorem qX11_station_29 : rf_kc MX11_station 29 69 499 yX4_addStation 0 = true := by decide +kernel
theorem eX11_station_32 : rf_cki MX11_station 32 .ireturn = true := by decide +kernel
abbrev MX11_walk : rf_M := (yX11_walk, cX11_walk, 4, (some (.int)))
theorem mkX11_walk : rf_mk MX11_walk 0 3 506 72 504 505 = true := by decide +kernel
def cX11_walk_0 : List rf_I := [(.aload_n 0, 1, 0, 0, 0, 0, 0), (.iload_n 1, 1, 1, 0, 0, 0, 0)]
theorem kX11_walk_0 : rf_ck MX11_walk 0 cX11_walk_0 = true := by decide +kernel
theorem qX11_walk_2 : rf_kc MX11_walk 2 73 507 yX11_isStation 0 = true := by decide +kernel
theorem bX11_walk_5 : rf_ckb MX11_walk 5 (.ifCond .eq 26) 26 31 = true := by decide +kernel
def cX11_walk_8 : List rf_I := [(.aload_n 0, 1, 0, 0, 0, 0, 0), (.iload_n 2, 1, 2, 0, 0, 0, 0)]
theorem kX11_walk_8 : rf_ck MX11_walk 8 cX11_walk_8 = true := by decide +kernel
theorem qX11_walk_10 : rf_kc MX11_walk 10 73 507 yX11_isStation 0 = true := by decide +kernel
theorem bX11_walk_13 : rf_ckb MX11_walk 13 (.ifCond .eq 18) 18 31 = true := by decide +kernel
def cX11_walk_16 : List rf_I := [(.iload_n 1, 1, 1, 0, 0, 0, 0), (.iload_n 2, 1, 2, 0, 0, 0, 0)]
theorem kX11_walk_16 : rf_ck MX11_walk 16 cX11_walk_16 = true := by decide +kernel
theorem bX11_walk_18 : rf_ckb MX11_walk 18 (.if_icmp .eq 13) 13 31 = true := by decide +kernel
def cX11_walk_21 : List rf_I := [(.iload_n 3, 1, 3, 0, 0, 0, 0), (.iconst (-1), 1, 0, 0, 0, (-1), 0), (.bipush 60, 2, 0, 0, 0, nI 60, 0)]
theorem kX11_walk_21 : rf_ck MX11_walk 21 cX11_walk_21 = true := by decide +kernel
theorem qX11_walk_25 : rf_kc MX11_walk 25 77 496 yX11_within 1 = true := by decide +kernel
theorem bX11_walk_28 : rf_ckb MX11_walk 28 (.ifCond .ne 10) 10 38 = true := by decide +kernel
def cX11_walk_31 : List rf_I := [(.aload_n 0, 1, 0, 0, 0, 0, 0), (.ldc 81, 2, 0, 0, 511, (-1000000001), 0)]
theorem kX11_walk_31 : rf_ck MX11_walk 31 cX11_walk_31 = true := by decide +kernel
theorem qX11_walk_34 : rf_kc MX11_walk 34 65 491 yX11_error 0 = true := by decide +kernel
theorem eX11_walk_37 : rf_cki MX11_walk 37 .ireturn = true := by decide +kernel
def cX11_walk_38 : List rf_I := [(.aload_n 0, 1, 0, 0, 0, 0, 0), (.getfield 12, 3, 11, 0, 461, 0, 0), (.getfield 55, 3, 10, 0, 326, 0, 0), (.iload_n 1, 1, 1, 0, 0, 0, 0), (.iload_n 2, 1, 2, 0, 0, 0, 0), (.iload_n 3, 1, 3, 0, 0, 0, 0)]
theorem kX11_walk_38 : rf_ck MX11_walk 38 cX11_walk_38 = true := by decide +kernel
theorem qX11_walk_48 : rf_kc MX11_walk 48 82 512 yX4_setWalk 0 = true := by decide +kernel
theorem eX11_walk_51 : rf_cki MX11_walk 51 .ireturn = true := by decide +kernel
abbrev MX11_line : rf_M := (yX11_line, cX11_line, 4, (some (.int)))
theorem mkX11_line : rf_mk MX11_line 0 3 523 72 521 522 = true := by decide +kernel
def cX11_line_0 : List rf_I := [(.aload_n 0, 1, 0, 0, 0, 0, 0), (.iload_n 1, 1, 1, 0, 0, 0, 0)]
theorem kX11_line_0 : rf_ck MX11_line 0 cX11_line_0 = true := by decide +kernel
theorem qX11_line_2 : rf_kc MX11_line 2 73 507 yX11_isStation 0 = true := by decide +kernel
theorem bX11_line_5 : rf_ckb MX11_line 5 (.ifCond .eq 26) 26 31 = true := by decide +kernel
def cX11_line_8 : List rf_I := [(.aload_n 0, 1, 0, 0, 0, 0, 0), (.iload_n 2, 1, 2, 0, 0, 0, 0)]
theorem kX11_line_8 : rf_ck MX11_line 8 cX11_line_8 = true := by decide +kernel
theorem qX11_line_10 : rf_kc MX11_line 10 73 507 yX11_isStation 0 = true := by decide +kernel
theorem bX11_line_13 : rf_ckb MX11_line 13 (.ifCond .eq 18) 18 31 = true := by decide +kernel
def cX11_line_16 : List rf_I := [(.iload_n 1, 1, 1, 0, 0, 0, 0), (.iload_n 2, 1, 2, 0, 0, 0, 0)]
theorem kX11_line_16 : rf_ck MX11_line 16 cX11_line_16 = true := by decide +kernel
theorem bX11_line_18 : rf_ckb MX11_line 18 (.if_icmp .eq 13) 13 31 = true := by decide +kernel
def cX11_line_21 : List rf_I := [(.iload_n 3, 1, 3, 0, 0, 0, 0), (.iconst 1, 1, 0, 0, 0, nI 1, 0), (.bipush 30, 2, 0, 0, 0, nI 30, 0)]
theorem kX11_line_21 : rf_ck MX11_line 21 cX11_line_21 = true := by decide +kernel
theorem qX11_line_25 : rf_kc MX11_line 25 77 496 yX11_within 1 = true := by decide +kernel
theorem bX11_line_28 : rf_ckb MX11_line 28 (.ifCond .ne 10) 10 38 = true := by decide +kernel
def cX11_line_31 : List rf_I := [(.aload_n 0, 1, 0, 0, 0, 0, 0), (.ldc 81, 2, 0, 0, 511, (-1000000001), 0)]
theorem kX11_line_31 : rf_ck MX11_line 31 cX11_line_31 = true := by decide +kernel
theorem qX11_line_34 : rf_kc MX11_line 34 65 491 yX11_error 0 = true := by decide +kernel
theorem eX11_line_37 : rf_cki MX11_line 37 .ireturn = true := by decide +kernel
def cX11_line_38 : List rf_I := [(.aload_n 0, 1, 0, 0, 0, 0, 0), (.getfield 12, 3, 11, 0, 461, 0, 0), (.getfield 55, 3, 10, 0, 326, 0, 0), (.getfield 86, 3, 4, 1, 119, 0, 0), (.iconst 4, 1, 0, 0, 0, nI 4, 0)]
theorem kX11_line_38 : rf_ck MX11_line 38 cX11_line_38 = true := by decide +kernel
theorem bX11_line_49 : rf_ckb MX11_line 49 (.if_icmp .lt 10) 10 59 = true := by decide +kernel
def cX11_line_52 : List rf_I := [(.aload_n 0, 1, 0, 0, 0, 0, 0), (.ldc 64, 2, 0, 0, 490, (-1000000004), 0)]
theorem kX11_line_52 : rf_ck MX11_line 52 cX11_line_52 = true := by decide +kernel
theorem qX11_line_55 : rf_kc MX11_line 55 65 491 yX11_error 0 = true := by decide +kernel
theorem eX11_line_58 : rf_cki MX11_line 58 .ireturn = true := by decide +kernel
def cX11_line_59 : List rf_I := [(.aload_n 0, 1, 0, 0, 0, 0, 0), (.getfield 12, 3, 11, 0, 461, 0, 0), (.getfield 55, 3, 10, 0, 326, 0, 0), (.iload_n 1, 1, 1, 0, 0, 0, 0), (.iload_n 2, 1, 2, 0, 0, 0, 0), (.iload_n 3, 1, 3, 0, 0, 0, 0)]
theorem kX11_line_59 : rf_ck MX11_line 59 cX11_line_59 = true := by decide +kernel
theorem qX11_line_69 : rf_kc MX11_line 69 89 524 yX4_addLine 0 = true := by decide +kernel
theorem eX11_line_72 : rf_cki MX11_line 72 .ireturn = true := by decide +kernel
abbrev MX11_extend : rf_M := (yX11_extend, cX11_extend, 5, (some (.int)))
theorem mkX11_extend : rf_mk MX11_extend 0 3 535 72 533 534 = true := by decide +kernel
def cX11_extend_0 : List rf_I := [(.aload_n 0, 1, 0, 0, 0, 0, 0), (.iload_n 1, 1, 1, 0, 0, 0, 0)]
theorem kX11_extend_0 : rf_ck MX11_extend 0 cX11_extend_0 = true := by decide +kernel
theorem qX11_extend_2 : rf_kc MX11_extend 2 92 536 yX11_isLine 0 = true := by decide +kernel
theorem bX11_extend_5 : rf_ckb MX11_extend 5 (.ifCond .eq 21) 21 26 = true := by decide +kernel
def cX11_extend_8 : List rf_I := [(.aload_n 0, 1, 0, 0, 0, 0, 0), (.iload_n 2, 1, 2, 0, 0, 0, 0)]
theorem kX11_extend_8 : rf_ck MX11_extend 8 cX11_extend_8 = true := by decide +kernel
theorem qX11_extend_10 : rf_kc MX11_extend 10 73 507 yX11_isStation 0 = true := by decide +kernel
theorem bX11_extend_13 : rf_ckb MX11_extend 13 (.ifCond .eq 13) 13 26 = true := by decide +kernel
def cX11_extend_16 : List rf_I := [(.iload_n 3, 1, 3, 0, 0, 0, 0), (.iconst 1, 1, 0, 0, 0, nI 1, 0), (.bipush 30, 2, 0, 0, 0, nI 30, 0)]
theorem kX11_extend_16 : rf_ck MX11_extend 16 cX11_extend_16 = true := by decide +kernel
theorem qX11_extend_20 : rf_kc MX11_extend 20 77 496 yX11_within 1 = true := by decide +kernel
theorem bX11_extend_23 : rf_ckb MX11_extend 23 (.ifCond .ne 10) 10 33 = true := by decide +kernel
def cX11_extend_26 : List rf_I := [(.aload_n 0, 1, 0, 0, 0, 0, 0), (.ldc 81, 2, 0, 0, 511, (-1000000001), 0)]
theorem kX11_extend_26 : rf_ck MX11_extend 26 cX11_extend_26 = true := by decide +kernel
theorem qX11_extend_29 : rf_kc MX11_extend 29 65 491 yX11_error 0 = true := by decide +kernel
theorem eX11_extend_32 : rf_cki MX11_extend 32 .ireturn = true := by decide +kernel
def cX11_extend_33 : List rf_I := [(.aload_n 0, 1, 0, 0, 0, 0, 0), (.getfield 12, 3, 11, 0, 461, 0, 0), (.getfield 55, 3, 10, 0, 326, 0, 0), (.getfield 95, 3, 4, 4, 125, 0, 0), (.iload_n 1, 1, 1, 0, 0, 0, 0), (.iaload, 1, 0, 0, 0, 0, 0), (.istore 4, 2, 4, 0, 0, 0, 0), (.aload_n 0, 1, 0, 0, 0, 0, 0), (.getfield 12, 3, 11, 0, 461, 0, 0), (.getfield 55, 3, 10, 0, 326, 0, 0), (.iload_n 1, 1, 1, 0, 0, 0, 0), (.iload 4, 2, 4, 0, 0, 0, 0), (.iconst 1, 1, 0, 0, 0, nI 1, 0), (.isub, 1, 0, 0, 0, 0, 0)]
theorem kX11_extend_33 : rf_ck MX11_extend 33 cX11_extend_33 = true := by decide +kernel
theorem qX11_extend_59 : rf_kc MX11_extend 59 98 540 yX4_ofRow 0 = true := by decide +kernel
def cX11_extend_62 : List rf_I := [(.iload_n 2, 1, 2, 0, 0, 0, 0)]
theorem kX11_extend_62 : rf_ck MX11_extend 62 cX11_extend_62 = true := by decide +kernel
theorem bX11_extend_63 : rf_ckb MX11_extend 63 (.if_icmp .ne 10) 10 73 = true := by decide +kernel
def cX11_extend_66 : List rf_I := [(.aload_n 0, 1, 0, 0, 0, 0, 0), (.ldc 81, 2, 0, 0, 511, (-1000000001), 0)]
theorem kX11_extend_66 : rf_ck MX11_extend 66 cX11_extend_66 = true := by decide +kernel
theorem qX11_extend_69 : rf_kc MX11_extend 69 65 491 yX11_error 0 = true := by decide +kernel
theorem eX11_extend_72 : rf_cki MX11_extend 72 .ireturn = true := by decide +kernel
def cX11_extend_73 : List rf_I := [(.iload 4, 2, 4, 0, 0, 0, 0), (.bipush 6, 2, 0, 0, 0, nI 6, 0)]
theorem kX11_extend_73 : rf_ck MX11_extend 73 cX11_extend_73 = true := by decide +kernel
theorem bX11_extend_77 : rf_ckb MX11_extend 77 (.if_icmp .lt 10) 10 87 = true := by decide +kernel
def cX11_extend_80 : List rf_I := [(.aload_n 0, 1, 0, 0, 0, 0, 0), (.ldc 64, 2, 0, 0, 490, (-1000000004), 0)]
theorem kX11_extend_80 : rf_ck MX11_extend 80 cX11_extend_80 = true := by decide +kernel
theorem qX11_extend_83 : rf_kc MX11_extend 83 65 491 yX11_error 0 = true := by decide +kernel
theorem eX11_extend_86 : rf_cki MX11_extend 86 .ireturn = true := by decide +kernel
def cX11_extend_87 : List rf_I := [(.aload_n 0, 1, 0, 0, 0, 0, 0), (.getfield 12, 3, 11, 0, 461, 0, 0), (.getfield 55, 3, 10, 0, 326, 0, 0), (.iload_n 1, 1, 1, 0, 0, 0, 0), (.iload_n 2, 1, 2, 0, 0, 0, 0), (.iload_n 3, 1, 3, 0, 0, 0, 0)]
theorem kX11_extend_87 : rf_ck MX11_extend 87 cX11_extend_87 = true := by decide +kernel
theorem qX11_extend_97 : rf_kc MX11_extend 97 102 544 yX4_lengthen 0 = true := by decide +kernel
theorem eX11_extend_100 : rf_cki MX11_extend 100 .ireturn = true := by decide +kernel
abbrev MX11_ofLine : rf_M := (yX11_ofLine, cX11_ofLine, 3, (some (.int)))
theorem mkX11_ofLine : rf_mk MX11_ofLine 0 2 548 72 546 547 = true := by decide +kernel
def cX11_ofLine_0 : List rf_I := [(.aload_n 0, 1, 0, 0, 0, 0, 0), (.iload_n 1, 1, 1, 0, 0, 0, 0)]
theorem kX11_ofLine_0 : rf_ck MX11_ofLine 0 cX11_ofLine_0 = true := by decide +kernel
theorem qX11_ofLine_2 : rf_kc MX11_ofLine 2 92 536 yX11_isLine 0 = true := by decide +kernel
theorem bX11_ofLine_5 : rf_ckb MX11_ofLine 5 (.ifCond .eq 8) 8 13 = true := by decide +kernel
def cX11_ofLine_8 : List rf_I := [(.iload_n 2, 1, 2, 0, 0, 0, 0), (.iconst (-1), 1, 0, 0, 0, (-1), 0)]
theorem kX11_ofLine_8 : rf_ck MX11_ofLine 8 cX11_ofLine_8 = true := by decide +kernel
theorem bX11_ofLine_10 : rf_ckb MX11_ofLine 10 (.if_icmp .ge 10) 10 20 = true := by decide +kernel
def cX11_ofLine_13 : List rf_I := [(.aload_n 0, 1, 0, 0, 0, 0, 0), (.ldc 81, 2, 0, 0, 511, (-1000000001), 0)]
theorem kX11_ofLine_13 : rf_ck MX11_ofLine 13 cX11_ofLine_13 = true := by decide +kernel
theorem qX11_ofLine_16 : rf_kc MX11_ofLine 16 65 491 yX11_error 0 = true := by decide +kernel
theorem eX11_ofLine_19 : rf_cki MX11_ofLine 19 .ireturn = true := by decide +kernel
def cX11_ofLine_20 : List rf_I := [(.iload_n 2, 1, 2, 0, 0, 0, 0), (.iconst (-1), 1, 0, 0, 0, (-1), 0)]
theorem kX11_ofLine_20 : rf_ck MX11_ofLine 20 cX11_ofLine_20 = true := by decide +kernel
theorem bX11_ofLine_22 : rf_ckb MX11_ofLine 22 (.if_icmp .ne 16) 16 38 = true := by decide +kernel
def cX11_ofLine_25 : List rf_I := [(.aload_n 0, 1, 0, 0, 0, 0, 0), (.getfield 12, 3, 11, 0, 461, 0, 0), (.getfield 55, 3, 10, 0, 326, 0, 0), (.getfield 95, 3, 4, 4, 125, 0, 0), (.iload_n 1, 1, 1, 0, 0, 0, 0), (.iaload, 1, 0, 0, 0, 0, 0)]
theorem kX11_ofLine_25 : rf_ck MX11_ofLine 25 cX11_ofLine_25 = true := by decide +kernel
theorem eX11_ofLine_37 : rf_cki MX11_ofLine 37 .ireturn = true := by decide +kernel
def cX11_ofLine_38 : List rf_I := [(.iload_n 2, 1, 2, 0, 0, 0, 0), (.aload_n 0, 1, 0, 0, 0, 0, 0), (.getfield 12, 3, 11, 0, 461, 0, 0), (.getfield 55, 3, 10, 0, 326, 0, 0), (.getfield 95, 3, 4, 4, 125, 0, 0), (.iload_n 1, 1, 1, 0, 0, 0, 0), (.iaload, 1, 0, 0, 0, 0, 0)]
theorem kX11_ofLine_38 : rf_ck MX11_ofLine 38 cX11_ofLine_38 = true := by decide +kernel
theorem bX11_ofLine_51 : rf_ckb MX11_ofLine 51 (.if_icmp .lt 10) 10 61 = true := by decide +kernel
def cX11_ofLine_54 : List rf_I := [(.aload_n 0, 1, 0, 0, 0, 0, 0), (.ldc 105, 2, 0, 0, 549, (-1000000002), 0)]
theorem kX11_ofLine_54 : rf_ck MX11_ofLine 54 cX11_ofLine_54 = true := by decide +kernel
theorem qX11_ofLine_57 : rf_kc MX11_ofLine 57 65 491 yX11_error 0 = true := by decide +kernel
theorem eX11_ofLine_60 : rf_cki MX11_ofLine 60 .ireturn = true := by decide +kernel
def cX11_ofLine_61 : List rf_I := [(.aload_n 0, 1, 0, 0, 0, 0, 0), (.getfield 12, 3, 11, 0, 461, 0, 0), (.getfield 55, 3, 10, 0, 326, 0, 0), (.iload_n 1, 1, 1, 0, 0, 0, 0), (.iload_n 2, 1, 2, 0, 0, 0, 0)]
theorem kX11_ofLine_61 : rf_ck MX11_ofLine 61 cX11_ofLine_61 = true := by decide +kernel
theorem qX11_ofLine_70 : rf_kc MX11_ofLine 70 98 540 yX4_ofRow 0 = true := by decide +kernel
theorem eX11_ofLine_73 : rf_cki MX11_ofLine 73 .ireturn = true := by decide +kernel
abbrev MX11_train : rf_M := (yX11_train, cX11_train, 4, (some (.int)))
theorem mkX11_train : rf_mk MX11_train 0 3 553 72 551 552 = true := by decide +kernel
def cX11_train_0 : List rf_I := [(.aload_n 0, 1, 0, 0, 0, 0, 0), (.iload_n 1, 1, 1, 0, 0, 0, 0)]
theorem kX11_train_0 : rf_ck MX11_train 0 cX11_train_0 = true := by decide +kernel
theorem qX11_train_2 : rf_kc MX11_train 2 92 536 yX11_isLine 0 = true := by decide +kernel
theorem bX11_train_5 : rf_ckb MX11_train 5 (.ifCond .eq 23) 23 28 = true := by decide +kernel
def cX11_train_8 : List rf_I := [(.iload_n 2, 1, 2, 0, 0, 0, 0), (.iconst 0, 1, 0, 0, 0, nI 0, 0), (.sipush 1199, 3, 0, 0, 0, nI 1199, 0)]
theorem kX11_train_8 : rf_ck MX11_train 8 cX11_train_8 = true := by decide +kernel
theorem qX11_train_13 : rf_kc MX11_train 13 77 496 yX11_within 1 = true := by decide +kernel
theorem bX11_train_16 : rf_ckb MX11_train 16 (.ifCond .eq 12) 12 28 = true := by decide +kernel
def cX11_train_19 : List rf_I := [(.iload_n 3, 1, 3, 0, 0, 0, 0), (.iconst 0, 1, 0, 0, 0, nI 0, 0), (.iconst 1, 1, 0, 0, 0, nI 1, 0)]
theorem kX11_train_19 : rf_ck MX11_train 19 cX11_train_19 = true := by decide +kernel
theorem qX11_train_22 : rf_kc MX11_train 22 77 496 yX11_within 1 = true := by decide +kernel
theorem bX11_train_25 : rf_ckb MX11_train 25 (.ifCond .ne 10) 10 35 = true := by decide +kernel
def cX11_train_28 : List rf_I := [(.aload_n 0, 1, 0, 0, 0, 0, 0), (.ldc 81, 2, 0, 0, 511, (-1000000001), 0)]
theorem kX11_train_28 : rf_ck MX11_train 28 cX11_train_28 = true := by decide +kernel
theorem qX11_train_31 : rf_kc MX11_train 31 65 491 yX11_error 0 = true := by decide +kernel
theorem eX11_train_34 : rf_cki MX11_train 34 .ireturn = true := by decide +kernel
def cX11_train_35 : List rf_I := [(.aload_n 0, 1, 0, 0, 0, 0, 0), (.getfield 12, 3, 11, 0, 461, 0, 0), (.getfield 55, 3, 10, 0, 326, 0, 0), (.getfield 106, 3, 4, 2, 122, 0, 0), (.bipush 12, 2, 0, 0, 0, nI 12, 0)]
theorem kX11_train_35 : rf_ck MX11_train 35 cX11_train_35 = true := by decide +kernel
theorem bX11_train_47 : rf_ckb MX11_train 47 (.if_icmp .lt 10) 10 57 = true := by decide +kernel
def cX11_train_50 : List rf_I := [(.aload_n 0, 1, 0, 0, 0, 0, 0), (.ldc 64, 2, 0, 0, 490, (-1000000004), 0)]
theorem kX11_train_50 : rf_ck MX11_train 50 cX11_train_50 = true := by decide +kernel
theorem qX11_train_53 : rf_kc MX11_train 53 65 491 yX11_error 0 = true := by decide +kernel
theorem eX11_train_56 : rf_cki MX11_train 56 .ireturn = true := by decide +kernel
def cX11_train_57 : List rf_I := [(.aload_n 0, 1, 0, 0, 0, 0, 0), (.getfield 12, 3, 11, 0, 461, 0, 0), (.getfield 55, 3, 10, 0, 326, 0, 0), (.iload_n 1, 1, 1, 0, 0, 0, 0), (.iload_n 2, 1, 2, 0, 0, 0, 0), (.iload_n 3, 1, 3, 0, 0, 0, 0)]
theorem kX11_train_57 : rf_ck MX11_train 57 cX11_train_57 = true := by decide +kernel
theorem qX11_train_67 : rf_kc MX11_train 67 109 554 yX4_addTrain 0 = true := by decide +kernel
theorem eX11_train_70 : rf_cki MX11_train 70 .ireturn = true := by decide +kernel
abbrev MX11_ofTrain : rf_M := (yX11_ofTrain, cX11_ofTrain, 3, (some (.int)))
theorem mkX11_ofTrain : rf_mk MX11_ofTrain 0 2 561 72 559 560 = true := by decide +kernel
def cX11_ofTrain_0 : List rf_I := [(.aload_n 0, 1, 0, 0, 0, 0, 0), (.iload_n 1, 1, 1, 0, 0, 0, 0)]
theorem kX11_ofTrain_0 : rf_ck MX11_ofTrain 0 cX11_ofTrain_0 = true := by decide +kernel
theorem qX11_ofTrain_2 : rf_kc MX11_ofTrain 2 112 562 yX11_isTrain 0 = true := by decide +kernel
theorem bX11_ofTrain_5 : rf_ckb MX11_ofTrain 5 (.ifCond .ne 10) 10 15 = true := by decide +kernel
def cX11_ofTrain_8 : List rf_I := [(.aload_n 0, 1, 0, 0, 0, 0, 0), (.ldc 81, 2, 0, 0, 511, (-1000000001), 0)]
theorem kX11_ofTrain_8 : rf_ck MX11_ofTrain 8 cX11_ofTrain_8 = true := by decide +kernel
theorem qX11_ofTrain_11 : rf_kc MX11_ofTrain 11 65 491 yX11_error 0 = true := by decide +kernel
theorem eX11_ofTrain_14 : rf_cki MX11_ofTrain 14 .ireturn = true := by decide +kernel
def cX11_ofTrain_15 : List rf_I := [(.iload_n 2, 1, 2, 0, 0, 0, 0)]
theorem kX11_ofTrain_15 : rf_ck MX11_ofTrain 15 cX11_ofTrain_15 = true := by decide +kernel
theorem bX11_ofTrain_16 : rf_ckt MX11_ofTrain 16 132 0 6 [44, 57, 70, 83, 95, 108, 120] [60, 73, 86, 99, 111, 124, 136] 148 = true := by decide +kernel
def cX11_ofTrain_60 : List rf_I := [(.aload_n 0, 1, 0, 0, 0, 0, 0), (.getfield 12, 3, 11, 0, 461, 0, 0), (.getfield 55, 3, 10, 0, 326, 0, 0), (.getfield 115, 3, 4, 7, 129, 0, 0), (.iload_n 1, 1, 1, 0, 0, 0, 0), (.iaload, 1, 0, 0, 0, 0, 0)]
theorem kX11_ofTrain_60 : rf_ck MX11_ofTrain 60 cX11_ofTrain_60 = true := by decide +kernel
theorem eX11_ofTrain_72 : rf_cki MX11_ofTrain 72 .ireturn = true := by decide +kernel
def cX11_ofTrain_73 : List rf_I := [(.aload_n 0, 1, 0, 0, 0, 0, 0), (.getfield 12, 3, 11, 0, 461, 0, 0), (.getfield 55, 3, 10, 0, 326, 0, 0), (.getfield 118, 3, 4, 8, 133, 0, 0), (.iload_n 1, 1, 1, 0, 0, 0, 0), (.iaload, 1, 0, 0, 0, 0, 0)]
theorem kX11_ofTrain_73 : rf_ck MX11_ofTrain 73 cX11_ofTrain_73 = true := by decide +kernel
theorem eX11_ofTrain_85 : rf_cki MX11_ofTrain 85 .ireturn = true := by decide +kernel
def cX11_ofTrain_86 : List rf_I := [(.aload_n 0, 1, 0, 0, 0, 0, 0), (.getfield 12, 3, 11, 0, 461, 0, 0), (.getfield 55, 3, 10, 0, 326, 0, 0), (.getfield 121, 3, 4, 9, 135, 0, 0), (.iload_n 1, 1, 1, 0, 0, 0, 0), (.iaload, 1, 0, 0, 0, 0, 0)]
theorem kX11_ofTrain_86 : rf_ck MX11_ofTrain 86 cX11_ofTrain_86 = true := by decide +kernel
theorem eX11_ofTrain_98 : rf_cki MX11_ofTrain 98 .ireturn = true := by decide +kernel
def cX11_ofTrain_99 : List rf_I := [(.aload_n 0, 1, 0, 0, 0, 0, 0), (.getfield 12, 3, 11, 0, 461, 0, 0), (.getfield 55, 3, 10, 0, 326, 0, 0), (.iload_n 1, 1, 1, 0, 0, 0, 0)]
theorem kX11_ofTrain_99 : rf_ck MX11_ofTrain 99 cX11_ofTrain_99 = true := by decide +kernel
theorem qX11_ofTrain_107 : rf_kc MX11_ofTrain 107 124 566 yX4_endOf 0 = true := by decide +kernel
theorem eX11_ofTrain_110 : rf_cki MX11_ofTrain 110 .ireturn = true := by decide +kernel
def cX11_ofTrain_111 : List rf_I := [(.aload_n 0, 1, 0, 0, 0, 0, 0), (.getfield 12, 3, 11, 0, 461, 0, 0), (.getfield 55, 3, 10, 0, 326, 0, 0), (.iload_n 1, 1, 1, 0, 0, 0, 0), (.iconst 0, 1, 0, 0, 0, nI 0, 0)]
theorem kX11_ofTrain_111 : rf_ck MX11_ofTrain 111 cX11_ofTrain_111 = true := by decide +kernel
theorem qX11_ofTrain_120 : rf_kc MX11_ofTrain 120 127 578 yX4_stationAt 0 = true := by decide +kernel
theorem eX11_ofTrain_123 : rf_cki MX11_ofTrain 123 .ireturn = true := by decide +kernel
def cX11_ofTrain_124 : List rf_I := [(.aload_n 0, 1, 0, 0, 0, 0, 0), (.getfield 12, 3, 11, 0, 461, 0, 0), (.getfield 55, 3, 10, 0, 326, 0, 0), (.iload_n 1, 1, 1, 0, 0, 0, 0)]
theorem kX11_ofTrain_124 : rf_ck MX11_ofTrain 124 cX11_ofTrain_124 = true := by decide +kernel
theorem qX11_ofTrain_132 : rf_kc MX11_ofTrain 132 130 583 yX4_lastStation 0 = true := by decide +kernel
theorem eX11_ofTrain_135 : rf_cki MX11_ofTrain 135 .ireturn = true := by decide +kernel
def cX11_ofTrain_136 : List rf_I := [(.aload_n 0, 1, 0, 0, 0, 0, 0), (.getfield 12, 3, 11, 0, 461, 0, 0), (.getfield 133, 3, 10, 2, 333, 0, 0), (.iload_n 1, 1, 1, 0, 0, 0, 0)]
theorem kX11_ofTrain_136 : rf_ck MX11_ofTrain 136 cX11_ofTrain_136 = true := by decide +kernel
theorem qX11_ofTrain_144 : rf_kc MX11_ofTrain 144 137 588 yX7_lotsWith 0 = true := by decide +kernel
theorem eX11_ofTrain_147 : rf_cki MX11_ofTrain 147 .ireturn = true := by decide +kernel
def cX11_ofTrain_148 : List rf_I := [(.aload_n 0, 1, 0, 0, 0, 0, 0), (.ldc 81, 2, 0, 0, 511, (-1000000001), 0)]
theorem kX11_ofTrain_148 : rf_ck MX11_ofTrain 148 cX11_ofTrain_148 = true := by decide +kernel
theorem qX11_ofTrain_151 : rf_kc MX11_ofTrain 151 65 491 yX11_error 0 = true := by decide +kernel
theorem eX11_ofTrain_154 : rf_cki MX11_ofTrain 154 .ireturn = true := by decide +kernel
abbrev MX11_stop : rf_M := (yX11_stop, cX11_stop, 4, (some (.int)))
theorem mkX11_stop : rf_mk MX11_stop 0 3 598 72 596 597 = true := by decide +kernel
def cX11_stop_0 : List rf_I := [(.aload_n 0, 1, 0, 0, 0, 0, 0), (.iload_n 1, 1, 1, 0, 0, 0, 0)]
theorem kX11_stop_0 : rf_ck MX11_stop 0 cX11_stop_0 = true := by decide +kernel
theorem qX11_stop_2 : rf_kc MX11_stop 2 112 562 yX11_isTrain 0 = true := by decide +kernel
theorem bX11_stop_5 : rf_ckb MX11_stop 5 (.ifCond .eq 16) 16 21 = true := by decide +kernel
def cX11_stop_8 : List rf_I := [(.iload_n 3, 1, 3, 0, 0, 0, 0), (.iconst 0, 1, 0, 0, 0, nI 0, 0), (.iconst 1, 1, 0, 0, 0, nI 1, 0)]
theorem kX11_stop_8 : rf_ck MX11_stop 8 cX11_stop_8 = true := by decide +kernel
theorem qX11_stop_11 : rf_kc MX11_stop 11 77 496 yX11_within 1 = true := by decide +kernel
theorem bX11_stop_14 : rf_ckb MX11_stop 14 (.ifCond .eq 7) 7 21 = true := by decide +kernel
def cX11_stop_17 : List rf_I := [(.iload_n 2, 1, 2, 0, 0, 0, 0)]
theorem kX11_stop_17 : rf_ck MX11_stop 17 cX11_stop_17 = true := by decide +kernel
theorem bX11_stop_18 : rf_ckb MX11_stop 18 (.ifCond .ge 10) 10 28 = true := by decide +kernel
def cX11_stop_21 : List rf_I := [(.aload_n 0, 1, 0, 0, 0, 0, 0), (.ldc 81, 2, 0, 0, 511, (-1000000001), 0)]
theorem kX11_stop_21 : rf_ck MX11_stop 21 cX11_stop_21 = true := by decide +kernel
theorem qX11_stop_24 : rf_kc MX11_stop 24 65 491 yX11_error 0 = true := by decide +kernel
theorem eX11_stop_27 : rf_cki MX11_stop 27 .ireturn = true := by decide +kernel
def cX11_stop_28 : List rf_I := [(.iload_n 2, 1, 2, 0, 0, 0, 0), (.aload_n 0, 1, 0, 0, 0, 0, 0), (.getfield 12, 3, 11, 0, 461, 0, 0), (.getfield 55, 3, 10, 0, 326, 0, 0), (.iload_n 1, 1, 1, 0, 0, 0, 0)]
theorem kX11_stop_28 : rf_ck MX11_stop 28 cX11_stop_28 = true := by decide +kernel
theorem qX11_stop_37 : rf_kc MX11_stop 37 142 599 yX4_stopsOf 0 = true := by decide +kernel
theorem bX11_stop_40 : rf_ckb MX11_stop 40 (.if_icmp .lt 10) 10 50 = true := by decide +kernel
def cX11_stop_43 : List rf_I := [(.aload_n 0, 1, 0, 0, 0, 0, 0), (.ldc 105, 2, 0, 0, 549, (-1000000002), 0)]
theorem kX11_stop_43 : rf_ck MX11_stop 43 cX11_stop_43 = true := by decide +kernel
theorem qX11_stop_46 : rf_kc MX11_stop 46 65 491 yX11_error 0 = true := by decide +kernel
theorem eX11_stop_49 : rf_cki MX11_stop 49 .ireturn = true := by decide +kernel
def cX11_stop_50 : List rf_I := [(.iload_n 3, 1, 3, 0, 0, 0, 0)]
theorem kX11_stop_50 : rf_ck MX11_stop 50 cX11_stop_50 = true := by decide +kernel
theorem bX11_stop_51 : rf_ckb MX11_stop 51 (.ifCond .ne 18) 18 69 = true := by decide +kernel
def cX11_stop_54 : List rf_I := [(.aload_n 0, 1, 0, 0, 0, 0, 0), (.getfield 12, 3, 11, 0, 461, 0, 0), (.getfield 55, 3, 10, 0, 326, 0, 0), (.iload_n 1, 1, 1, 0, 0, 0, 0), (.iload_n 2, 1, 2, 0, 0, 0, 0)]
theorem kX11_stop_54 : rf_ck MX11_stop 54 cX11_stop_54 = true := by decide +kernel
theorem qX11_stop_63 : rf_kc MX11_stop 63 127 578 yX4_stationAt 0 = true := by decide +kernel
theorem bX11_stop_66 : rf_ckb MX11_stop 66 (.goto 15) 15 81 = true := by decide +kernel
def cX11_stop_69 : List rf_I := [(.aload_n 0, 1, 0, 0, 0, 0, 0), (.getfield 12, 3, 11, 0, 461, 0, 0), (.getfield 55, 3, 10, 0, 326, 0, 0), (.iload_n 1, 1, 1, 0, 0, 0, 0), (.iload_n 2, 1, 2, 0, 0, 0, 0)]
theorem kX11_stop_69 : rf_ck MX11_stop 69 cX11_stop_69 = true := by decide +kernel
theorem qX11_stop_78 : rf_kc MX11_stop 78 145 600 yX4_minuteAt 0 = true := by decide +kernel
theorem eX11_stop_81 : rf_cki MX11_stop 81 .ireturn = true := by decide +kernel
abbrev MX11_group : rf_M := (yX11_group, cX11_group, 5, (some (.int)))
theorem mkX11_group : rf_mk MX11_group 0 4 604 72 602 603 = true := by decide +kernel
def cX11_group_0 : List rf_I := [(.aload_n 0, 1, 0, 0, 0, 0, 0), (.iload_n 1, 1, 1, 0, 0, 0, 0), (.iload_n 2, 1, 2, 0, 0, 0, 0), (.iload_n 3, 1, 3, 0, 0, 0, 0), (.iload 4, 2, 4, 0, 0, 0, 0)]
theorem kX11_group_0 : rf_ck MX11_group 0 cX11_group_0 = true := by decide +kernel
theorem qX11_group_6 : rf_kc MX11_group 6 148 605 yX11_isGroupTold 0 = true := by decide +kernel
theorem bX11_group_9 : rf_ckb MX11_group 9 (.ifCond .ne 10) 10 19 = true := by decide +kernel
def cX11_group_12 : List rf_I := [(.aload_n 0, 1, 0, 0, 0, 0, 0), (.ldc 81, 2, 0, 0, 511, (-1000000001), 0)]
theorem kX11_group_12 : rf_ck MX11_group 12 cX11_group_12 = true := by decide +kernel
theorem qX11_group_15 : rf_kc MX11_group 15 65 491 yX11_error 0 = true := by decide +kernel
theorem eX11_group_18 : rf_cki MX11_group 18 .ireturn = true := by decide +kernel
def cX11_group_19 : List rf_I := [(.aload_n 0, 1, 0, 0, 0, 0, 0), (.getfield 12, 3, 11, 0, 461, 0, 0), (.getfield 152, 3, 10, 1, 330, 0, 0), (.getfield 156, 3, 3, 0, 167, 0, 0), (.bipush 16, 2, 0, 0, 0, nI 16, 0)]
theorem kX11_group_19 : rf_ck MX11_group 19 cX11_group_19 = true := by decide +kernel
theorem bX11_group_31 : rf_ckb MX11_group 31 (.if_icmp .lt 10) 10 41 = true := by decide +kernel
def cX11_group_34 : List rf_I := [(.aload_n 0, 1, 0, 0, 0, 0, 0), (.ldc 64, 2, 0, 0, 490, (-1000000004), 0)]
theorem kX11_group_34 : rf_ck MX11_group 34 cX11_group_34 = true := by decide +kernel
theorem qX11_group_37 : rf_kc MX11_group 37 65 491 yX11_error 0 = true := by decide +kernel
theorem eX11_group_40 : rf_cki MX11_group 40 .ireturn = true := by decide +kernel
def cX11_group_41 : List rf_I := [(.aload_n 0, 1, 0, 0, 0, 0, 0), (.getfield 12, 3, 11, 0, 461, 0, 0), (.getfield 152, 3, 10, 1, 330, 0, 0), (.iload_n 1, 1, 1, 0, 0, 0, 0), (.iload_n 2, 1, 2, 0, 0, 0, 0), (.iload_n 3, 1, 3, 0, 0, 0, 0), (.iload 4, 2, 4, 0, 0, 0, 0)]
theorem kX11_group_41 : rf_ck MX11_group 41 cX11_group_41 = true := by decide +kernel
theorem qX11_group_53 : rf_kc MX11_group 53 161 612 yX3_addGroup 0 = true := by decide +kernel
theorem eX11_group_56 : rf_cki MX11_group 56 .ireturn = true := by decide +kernel
abbrev MX11_ofGroup : rf_M := (yX11_ofGroup, cX11_ofGroup, 3, (some (.int)))
theorem mkX11_ofGroup : rf_mk MX11_ofGroup 0 2 627 72 625 626 = true := by decide +kernel
def cX11_ofGroup_0 : List rf_I := [(.aload_n 0, 1, 0, 0, 0, 0, 0), (.iload_n 1, 1, 1, 0, 0, 0, 0)]
theorem kX11_ofGroup_0 : rf_ck MX11_ofGroup 0 cX11_ofGroup_0 = true := by decide +kernel
theorem qX11_ofGroup_2 : rf_kc MX11_ofGroup 2 165 628 yX11_isGroup 0 = true := by decide +kernel
theorem bX11_ofGroup_5 : rf_ckb MX11_ofGroup 5 (.ifCond .ne 10) 10 15 = true := by decide +kernel
def cX11_ofGroup_8 : List rf_I := [(.aload_n 0, 1, 0, 0, 0, 0, 0), (.ldc 81, 2, 0, 0, 511, (-1000000001), 0)]
theorem kX11_ofGroup_8 : rf_ck MX11_ofGroup 8 cX11_ofGroup_8 = true := by decide +kernel
theorem qX11_ofGroup_11 : rf_kc MX11_ofGroup 11 65 491 yX11_error 0 = true := by decide +kernel
theorem eX11_ofGroup_14 : rf_cki MX11_ofGroup 14 .ireturn = true := by decide +kernel
def cX11_ofGroup_15 : List rf_I := [(.iload_n 2, 1, 2, 0, 0, 0, 0)]
theorem kX11_ofGroup_15 : rf_ck MX11_ofGroup 15 cX11_ofGroup_15 = true := by decide +kernel
theorem bX11_ofGroup_16 : rf_ckt MX11_ofGroup 16 155 0 7 [48, 61, 74, 87, 100, 113, 125, 138] [64, 77, 90, 103, 116, 129, 141, 154] 171 = true := by decide +kernel
def cX11_ofGroup_64 : List rf_I := [(.aload_n 0, 1, 0, 0, 0, 0, 0), (.getfield 12, 3, 11, 0, 461, 0, 0), (.getfield 152, 3, 10, 1, 330, 0, 0), (.getfield 168, 3, 3, 3, 178, 0, 0), (.iload_n 1, 1, 1, 0, 0, 0, 0), (.iaload, 1, 0, 0, 0, 0, 0)]
theorem kX11_ofGroup_64 : rf_ck MX11_ofGroup 64 cX11_ofGroup_64 = true := by decide +kernel
theorem eX11_ofGroup_76 : rf_cki MX11_ofGroup 76 .ireturn = true := by decide +kernel
def cX11_ofGroup_77 : List rf_I := [(.aload_n 0, 1, 0, 0, 0, 0, 0), (.getfield 12, 3, 11, 0, 461, 0, 0), (.getfield 152, 3, 10, 1, 330, 0, 0), (.getfield 171, 3, 3, 4, 182, 0, 0), (.iload_n 1, 1, 1, 0, 0, 0, 0), (.iaload, 1, 0, 0, 0, 0, 0)]
theorem kX11_ofGroup_77 : rf_ck MX11_ofGroup 77 cX11_ofGroup_77 = true := by decide +kernel
theorem eX11_ofGroup_89 : rf_cki MX11_ofGroup 89 .ireturn = true := by decide +kernel
def cX11_ofGroup_90 : List rf_I := [(.aload_n 0, 1, 0, 0, 0, 0, 0), (.getfield 12, 3, 11, 0, 461, 0, 0), (.getfield 152, 3, 10, 1, 330, 0, 0), (.getfield 174, 3, 3, 5, 184, 0, 0), (.iload_n 1, 1, 1, 0, 0, 0, 0), (.iaload, 1, 0, 0, 0, 0, 0)]
theorem kX11_ofGroup_90 : rf_ck MX11_ofGroup 90 cX11_ofGroup_90 = true := by decide +kernel
theorem eX11_ofGroup_102 : rf_cki MX11_ofGroup 102 .ireturn = true := by decide +kernel
def cX11_ofGroup_103 : List rf_I := [(.aload_n 0, 1, 0, 0, 0, 0, 0), (.getfield 12, 3, 11, 0, 461, 0, 0), (.getfield 152, 3, 10, 1, 330, 0, 0), (.getfield 177, 3, 3, 6, 187, 0, 0), (.iload_n 1, 1, 1, 0, 0, 0, 0), (.iaload, 1, 0, 0, 0, 0, 0)]
theorem kX11_ofGroup_103 : rf_ck MX11_ofGroup 103 cX11_ofGroup_103 = true := by decide +kernel
theorem eX11_ofGroup_115 : rf_cki MX11_ofGroup 115 .ireturn = true := by decide +kernel
def cX11_ofGroup_116 : List rf_I := [(.aload_n 0, 1, 0, 0, 0, 0, 0), (.getfield 12, 3, 11, 0, 461, 0, 0), (.getfield 152, 3, 10, 1, 330, 0, 0), (.getfield 180, 3, 3, 7, 192, 0, 0), (.iload_n 1, 1, 1, 0, 0, 0, 0), (.iaload, 1, 0, 0, 0, 0, 0)]
theorem kX11_ofGroup_116 : rf_ck MX11_ofGroup 116 cX11_ofGroup_116 = true := by decide +kernel
theorem eX11_ofGroup_128 : rf_cki MX11_ofGroup 128 .ireturn = true := by decide +kernel
def cX11_ofGroup_129 : List rf_I := [(.aload_n 0, 1, 0, 0, 0, 0, 0), (.getfield 12, 3, 11, 0, 461, 0, 0), (.getfield 152, 3, 10, 1, 330, 0, 0), (.iload_n 1, 1, 1, 0, 0, 0, 0)]
theorem kX11_ofGroup_129 : rf_ck MX11_ofGroup 129 cX11_ofGroup_129 = true := by decide +kernel
theorem qX11_ofGroup_137 : rf_kc MX11_ofGroup 137 183 632 yX3_beliefOf 0 = true := by decide +kernel
theorem eX11_ofGroup_140 : rf_cki MX11_ofGroup 140 .ireturn = true := by decide +kernel
def cX11_ofGroup_141 : List rf_I := [(.aload_n 0, 1, 0, 0, 0, 0, 0), (.getfield 12, 3, 11, 0, 461, 0, 0), (.getfield 152, 3, 10, 1, 330, 0, 0), (.getfield 186, 3, 3, 10, 199, 0, 0), (.iload_n 1, 1, 1, 0, 0, 0, 0), (.iaload, 1, 0, 0, 0, 0, 0)]
theorem kX11_ofGroup_141 : rf_ck MX11_ofGroup 141 cX11_ofGroup_141 = true := by decide +kernel
theorem eX11_ofGroup_153 : rf_cki MX11_ofGroup 153 .ireturn = true := by decide +kernel
def cX11_ofGroup_154 : List rf_I := [(.aload_n 0, 1, 0, 0, 0, 0, 0), (.getfield 12, 3, 11, 0, 461, 0, 0), (.iload_n 1, 1, 1, 0, 0, 0, 0)]
theorem kX11_ofGroup_154 : rf_ck MX11_ofGroup 154 cX11_ofGroup_154 = true := by decide +kernel
theorem qX11_ofGroup_159 : rf_kc MX11_ofGroup 159 189 633 yX10_paysNow 0 = true := by decide +kernel
theorem bX11_ofGroup_162 : rf_ckb MX11_ofGroup 162 (.ifCond .eq 7) 7 169 = true := by decide +kernel
def cX11_ofGroup_165 : List rf_I := [(.iconst 1, 1, 0, 0, 0, nI 1, 0)]
theorem kX11_ofGroup_165 : rf_ck MX11_ofGroup 165 cX11_ofGroup_165 = true := by decide +kernel
theorem bX11_ofGroup_166 : rf_ckb MX11_ofGroup 166 (.goto 4) 4 170 = true := by decide +kernel
def cX11_ofGroup_169 : List rf_I := [(.iconst 0, 1, 0, 0, 0, nI 0, 0)]
theorem kX11_ofGroup_169 : rf_ck MX11_ofGroup 169 cX11_ofGroup_169 = true := by decide +kernel
theorem eX11_ofGroup_170 : rf_cki MX11_ofGroup 170 .ireturn = true := by decide +kernel
def cX11_ofGroup_171 : List rf_I := [(.aload_n 0, 1, 0, 0, 0, 0, 0), (.ldc 81, 2, 0, 0, 511, (-1000000001), 0)]
theorem kX11_ofGroup_171 : rf_ck MX11_ofGroup 171 cX11_ofGroup_171 = true := by decide +kernel
theorem qX11_ofGroup_174 : rf_kc MX11_ofGroup 174 65 491 yX11_error 0 = true := by decide +kernel
theorem eX11_ofGroup_177 : rf_cki MX11_ofGroup 177 .ireturn = true := by decide +kernel
abbrev MX11_as : rf_M := (yX11_as, cX11_as, 3, (some (.int)))
theorem mkX11_as : rf_mk MX11_as 0 2 676 72 674 675 = true := by decide +kernel
def cX11_as_0 : List rf_I := [(.aload_n 0, 1, 0, 0, 0, 0, 0), (.iload_n 1, 1, 1, 0, 0, 0, 0)]
theorem kX11_as_0 : rf_ck MX11_as 0 cX11_as_0 = true := by decide +kernel
theorem qX11_as_2 : rf_kc MX11_as 2 165 628 yX11_isGroup 0 = true := by decide +kernel
theorem bX11_as_5 : rf_ckb MX11_as 5 (.ifCond .eq 13) 13 18 = true := by decide +kernel
def cX11_as_8 : List rf_I := [(.iload_n 2, 1, 2, 0, 0, 0, 0), (.iconst 0, 1, 0, 0, 0, nI 0, 0), (.bipush 7, 2, 0, 0, 0, nI 7, 0)]
theorem kX11_as_8 : rf_ck MX11_as 8 cX11_as_8 = true := by decide +kernel
theorem qX11_as_12 : rf_kc MX11_as 12 77 496 yX11_within 1 = true := by decide +kernel
theorem bX11_as_15 : rf_ckb MX11_as 15 (.ifCond .ne 10) 10 25 = true := by decide +kernel
def cX11_as_18 : List rf_I := [(.aload_n 0, 1, 0, 0, 0, 0, 0), (.ldc 81, 2, 0, 0, 511, (-1000000001), 0)]
theorem kX11_as_18 : rf_ck MX11_as 18 cX11_as_18 = true := by decide +kernel
theorem qX11_as_21 : rf_kc MX11_as 21 65 491 yX11_error 0 = true := by decide +kernel
theorem eX11_as_24 : rf_cki MX11_as 24 .ireturn = true := by decide +kernel
def cX11_as_25 : List rf_I := [(.aload_n 0, 1, 0, 0, 0, 0, 0), (.getfield 12, 3, 11, 0, 461, 0, 0), (.getfield 152, 3, 10, 1, 330, 0, 0), (.getfield 168, 3, 3, 3, 178, 0, 0), (.iload_n 1, 1, 1, 0, 0, 0, 0), (.iaload, 1, 0, 0, 0, 0, 0), (.iload_n 2, 1, 2, 0, 0, 0, 0)]
theorem kX11_as_25 : rf_ck MX11_as 25 cX11_as_25 = true := by decide +kernel
theorem qX11_as_38 : rf_kc MX11_as 38 192 677 yX11_isUnder 1 = true := by decide +kernel
theorem bX11_as_41 : rf_ckb MX11_as 41 (.ifCond .ne 10) 10 51 = true := by decide +kernel
def cX11_as_44 : List rf_I := [(.aload_n 0, 1, 0, 0, 0, 0, 0), (.ldc 196, 2, 0, 0, 682, (-1000000005), 0)]
theorem kX11_as_44 : rf_ck MX11_as 44 cX11_as_44 = true := by decide +kernel
theorem qX11_as_47 : rf_kc MX11_as 47 65 491 yX11_error 0 = true := by decide +kernel
theorem eX11_as_50 : rf_cki MX11_as 50 .ireturn = true := by decide +kernel
def cX11_as_51 : List rf_I := [(.aload_n 0, 1, 0, 0, 0, 0, 0), (.getfield 12, 3, 11, 0, 461, 0, 0), (.getfield 152, 3, 10, 1, 330, 0, 0), (.getfield 180, 3, 3, 7, 192, 0, 0), (.iload_n 1, 1, 1, 0, 0, 0, 0), (.iaload, 1, 0, 0, 0, 0, 0)]
theorem kX11_as_51 : rf_ck MX11_as 51 cX11_as_51 = true := by decide +kernel
theorem eX11_as_63 : rf_cki MX11_as 63 .ireturn = true := by decide +kernel
abbrev MX11_believe : rf_M := (yX11_believe, cX11_believe, 3, (some (.int)))
theorem mkX11_believe : rf_mk MX11_believe 0 2 686 72 684 685 = true := by decide +kernel
def cX11_believe_0 : List rf_I := [(.aload_n 0, 1, 0, 0, 0, 0, 0), (.iload_n 1, 1, 1, 0, 0, 0, 0)]
theorem kX11_believe_0 : rf_ck MX11_believe 0 cX11_believe_0 = true := by decide +kernel
theorem qX11_believe_2 : rf_kc MX11_believe 2 165 628 yX11_isGroup 0 = true := by decide +kernel
theorem bX11_believe_5 : rf_ckb MX11_believe 5 (.ifCond .eq 10) 10 15 = true := by decide +kernel
def cX11_believe_8 : List rf_I := [(.iload_n 2, 1, 2, 0, 0, 0, 0)]
theorem kX11_believe_8 : rf_ck MX11_believe 8 cX11_believe_8 = true := by decide +kernel
theorem qX11_believe_9 : rf_kc MX11_believe 9 197 609 yX11_isBelief 1 = true := by decide +kernel
theorem bX11_believe_12 : rf_ckb MX11_believe 12 (.ifCond .ne 10) 10 22 = true := by decide +kernel
def cX11_believe_15 : List rf_I := [(.aload_n 0, 1, 0, 0, 0, 0, 0), (.ldc 81, 2, 0, 0, 511, (-1000000001), 0)]
theorem kX11_believe_15 : rf_ck MX11_believe 15 cX11_believe_15 = true := by decide +kernel
theorem qX11_believe_18 : rf_kc MX11_believe 18 65 491 yX11_error 0 = true := by decide +kernel
theorem eX11_believe_21 : rf_cki MX11_believe 21 .ireturn = true := by decide +kernel
def cX11_believe_22 : List rf_I := [(.aload_n 0, 1, 0, 0, 0, 0, 0), (.getfield 12, 3, 11, 0, 461, 0, 0), (.getfield 152, 3, 10, 1, 330, 0, 0), (.iload_n 1, 1, 1, 0, 0, 0, 0), (.iload_n 2, 1, 2, 0, 0, 0, 0)]
theorem kX11_believe_22 : rf_ck MX11_believe 22 cX11_believe_22 = true := by decide +kernel
theorem qX11_believe_31 : rf_kc MX11_believe 31 200 687 yX3_setBelief 0 = true := by decide +kernel
theorem eX11_believe_34 : rf_cki MX11_believe 34 .ireturn = true := by decide +kernel
abbrev MX11_price : rf_M := (yX11_price, cX11_price, 4, (some (.int)))
theorem mkX11_price : rf_mk MX11_price 0 2 691 72 689 690 = true := by decide +kernel
def cX11_price_0 : List rf_I := [(.iload_n 1, 1, 1, 0, 0, 0, 0)]
theorem kX11_price_0 : rf_ck MX11_price 0 cX11_price_0 = true := by decide +kernel
theorem bX11_price_1 : rf_ckb MX11_price 1 (.ifCond .ne 37) 37 38 = true := by decide +kernel
def cX11_price_4 : List rf_I := [(.iload_n 2, 1, 2, 0, 0, 0, 0), (.iconst 1, 1, 0, 0, 0, nI 1, 0), (.bipush 99, 2, 0, 0, 0, nI 99, 0)]
theorem kX11_price_4 : rf_ck MX11_price 4 cX11_price_4 = true := by decide +kernel
theorem qX11_price_8 : rf_kc MX11_price 8 77 496 yX11_within 1 = true := by decide +kernel
theorem bX11_price_11 : rf_ckb MX11_price 11 (.ifCond .eq 27) 27 38 = true := by decide +kernel
def cX11_price_14 : List rf_I := [(.aload_n 0, 1, 0, 0, 0, 0, 0), (.getfield 12, 3, 11, 0, 461, 0, 0), (.getfield 152, 3, 10, 1, 330, 0, 0), (.getfield 203, 3, 3, 1, 170, 0, 0), (.istore_n 3, 1, 3, 0, 0, 0, 0), (.aload_n 0, 1, 0, 0, 0, 0, 0), (.getfield 12, 3, 11, 0, 461, 0, 0), (.getfield 152, 3, 10, 1, 330, 0, 0), (.iload_n 2, 1, 2, 0, 0, 0, 0), (.putfield 203, 3, 3, 1, 170, 0, 0), (.iload_n 3, 1, 3, 0, 0, 0, 0)]
theorem kX11_price_14 : rf_ck MX11_price 14 cX11_price_14 = true := by decide +kernel
theorem eX11_price_37 : rf_cki MX11_price 37 .ireturn = true := by decide +kernel
def cX11_price_38 : List rf_I := [(.iload_n 1, 1, 1, 0, 0, 0, 0), (.iconst 1, 1, 0, 0, 0, nI 1, 0)]
theorem kX11_price_38 : rf_ck MX11_price 38 cX11_price_38 = true := by decide +kernel
theorem bX11_price_40 : rf_ckb MX11_price 40 (.if_icmp .ne 38) 38 78 = true := by decide +kernel
def cX11_price_43 : List rf_I := [(.iload_n 2, 1, 2, 0, 0, 0, 0), (.iconst 0, 1, 0, 0, 0, nI 0, 0), (.sipush 999, 3, 0, 0, 0, nI 999, 0)]
theorem kX11_price_43 : rf_ck MX11_price 43 cX11_price_43 = true := by decide +kernel
theorem qX11_price_48 : rf_kc MX11_price 48 77 496 yX11_within 1 = true := by decide +kernel
theorem bX11_price_51 : rf_ckb MX11_price 51 (.ifCond .eq 27) 27 78 = true := by decide +kernel
def cX11_price_54 : List rf_I := [(.aload_n 0, 1, 0, 0, 0, 0, 0), (.getfield 12, 3, 11, 0, 461, 0, 0), (.getfield 152, 3, 10, 1, 330, 0, 0), (.getfield 206, 3, 3, 2, 174, 0, 0), (.istore_n 3, 1, 3, 0, 0, 0, 0), (.aload_n 0, 1, 0, 0, 0, 0, 0), (.getfield 12, 3, 11, 0, 461, 0, 0), (.getfield 152, 3, 10, 1, 330, 0, 0), (.iload_n 2, 1, 2, 0, 0, 0, 0), (.putfield 206, 3, 3, 2, 174, 0, 0), (.iload_n 3, 1, 3, 0, 0, 0, 0)]
theorem kX11_price_54 : rf_ck MX11_price 54 cX11_price_54 = true := by decide +kernel
theorem eX11_price_77 : rf_cki MX11_price 77 .ireturn = true := by decide +kernel
def cX11_price_78 : List rf_I := [(.aload_n 0, 1, 0, 0, 0, 0, 0), (.ldc 81, 2, 0, 0, 511, (-1000000001), 0)]
theorem kX11_price_78 : rf_ck MX11_price 78 cX11_price_78 = true := by decide +kernel
theorem qX11_price_81 : rf_kc MX11_price 81 65 491 yX11_error 0 = true := by decide +kernel
theorem eX11_price_84 : rf_cki MX11_price 84 .ireturn = true := by decide +kernel
abbrev MX11_feed : rf_M := (yX11_feed, cX11_feed, 4, (some (.int)))
theorem mkX11_feed : rf_mk MX11_feed 0 2 695 72 693 694 = true := by decide +kernel
def cX11_feed_0 : List rf_I := [(.iload_n 3, 1, 3, 0, 0, 0, 0), (.iconst 1, 1, 0, 0, 0, nI 1, 0), (.bipush 8, 2, 0, 0, 0, nI 8, 0)]
theorem kX11_feed_0 : rf_ck MX11_feed 0 cX11_feed_0 = true := by decide +kernel
theorem qX11_feed_4 : rf_kc MX11_feed 4 77 496 yX11_within 1 = true := by decide +kernel
theorem bX11_feed_7 : rf_ckb MX11_feed 7 (.ifCond .ne 10) 10 17 = true := by decide +kernel
def cX11_feed_10 : List rf_I := [(.aload_n 0, 1, 0, 0, 0, 0, 0), (.ldc 81, 2, 0, 0, 511, (-1000000001), 0)]
theorem kX11_feed_10 : rf_ck MX11_feed 10 cX11_feed_10 = true := by decide +kernel
theorem qX11_feed_13 : rf_kc MX11_feed 13 65 491 yX11_error 0 = true := by decide +kernel
theorem eX11_feed_16 : rf_cki MX11_feed 16 .ireturn = true := by decide +kernel
def cX11_feed_17 : List rf_I := [(.aload_n 0, 1, 0, 0, 0, 0, 0), (.getfield 12, 3, 11, 0, 461, 0, 0), (.getfield 209, 3, 10, 4, 337, 0, 0), (.getfield 213, 3, 0, 0, 291, 0, 0), (.iload_n 3, 1, 3, 0, 0, 0, 0), (.iadd, 1, 0, 0, 0, 0, 0), (.bipush 50, 2, 0, 0, 0, nI 50, 0)]
theorem kX11_feed_17 : rf_ck MX11_feed 17 cX11_feed_17 = true := by decide +kernel
theorem bX11_feed_31 : rf_ckb MX11_feed 31 (.if_icmp .le 10) 10 41 = true := by decide +kernel
def cX11_feed_34 : List rf_I := [(.aload_n 0, 1, 0, 0, 0, 0, 0), (.ldc 64, 2, 0, 0, 490, (-1000000004), 0)]
theorem kX11_feed_34 : rf_ck MX11_feed 34 cX11_feed_34 = true := by decide +kernel
theorem qX11_feed_37 : rf_kc MX11_feed 37 65 491 yX11_error 0 = true := by decide +kernel
theorem eX11_feed_40 : rf_cki MX11_feed 40 .ireturn = true := by decide +kernel
def cX11_feed_41 : List rf_I := [(.aload_n 0, 1, 0, 0, 0, 0, 0), (.getfield 12, 3, 11, 0, 461, 0, 0), (.getfield 209, 3, 10, 4, 337, 0, 0), (.lload_n 1, 1, 1, 0, 0, 0, 0), (.iload_n 3, 1, 3, 0, 0, 0, 0)]
theorem kX11_feed_41 : rf_ck MX11_feed 41 cX11_feed_41 = true := by decide +kernel
theorem qX11_feed_50 : rf_kc MX11_feed 50 218 696 yX0_addBytes 0 = true := by decide +kernel
theorem eX11_feed_53 : rf_cki MX11_feed 53 .ireturn = true := by decide +kernel
abbrev MX11_text : rf_M := (yX11_text, cX11_text, 3, (some (.int)))
theorem mkX11_text : rf_mk MX11_text 0 1 703 72 701 702 = true := by decide +kernel
def cX11_text_0 : List rf_I := [(.iload_n 1, 1, 1, 0, 0, 0, 0), (.iconst 0, 1, 0, 0, 0, nI 0, 0), (.iconst 1, 1, 0, 0, 0, nI 1, 0)]
theorem kX11_text_0 : rf_ck MX11_text 0 cX11_text_0 = true := by decide +kernel
theorem qX11_text_3 : rf_kc MX11_text 3 77 496 yX11_within 1 = true := by decide +kernel
theorem bX11_text_6 : rf_ckb MX11_text 6 (.ifCond .ne 10) 10 16 = true := by decide +kernel
def cX11_text_9 : List rf_I := [(.aload_n 0, 1, 0, 0, 0, 0, 0), (.ldc 81, 2, 0, 0, 511, (-1000000001), 0)]
theorem kX11_text_9 : rf_ck MX11_text 9 cX11_text_9 = true := by decide +kernel
theorem qX11_text_12 : rf_kc MX11_text 12 65 491 yX11_error 0 = true := by decide +kernel
theorem eX11_text_15 : rf_cki MX11_text 15 .ireturn = true := by decide +kernel
def cX11_text_16 : List rf_I := [(.aload_n 0, 1, 0, 0, 0, 0, 0), (.getfield 22, 3, 11, 2, 463, 0, 0), (.aload_n 0, 1, 0, 0, 0, 0, 0), (.getfield 12, 3, 11, 0, 461, 0, 0), (.getfield 209, 3, 10, 4, 337, 0, 0), (.iload_n 1, 1, 1, 0, 0, 0, 0)]
theorem kX11_text_16 : rf_ck MX11_text 16 cX11_text_16 = true := by decide +kernel
theorem qX11_text_28 : rf_kc MX11_text 28 222 704 yX2_read 0 = true := by decide +kernel
def cX11_text_31 : List rf_I := [(.istore_n 2, 1, 2, 0, 0, 0, 0), (.aload_n 0, 1, 0, 0, 0, 0, 0), (.getfield 12, 3, 11, 0, 461, 0, 0), (.getfield 209, 3, 10, 4, 337, 0, 0), (.iconst 0, 1, 0, 0, 0, nI 0, 0), (.putfield 213, 3, 0, 0, 291, 0, 0), (.iload_n 2, 1, 2, 0, 0, 0, 0)]
theorem kX11_text_31 : rf_ck MX11_text 31 cX11_text_31 = true := by decide +kernel
theorem bX11_text_44 : rf_ckb MX11_text 44 (.ifCond .lt 8) 8 52 = true := by decide +kernel
def cX11_text_47 : List rf_I := [(.bipush (-10), 2, 0, 0, 0, (-10), 0), (.iload_n 2, 1, 2, 0, 0, 0, 0), (.isub, 1, 0, 0, 0, 0, 0)]
theorem kX11_text_47 : rf_ck MX11_text 47 cX11_text_47 = true := by decide +kernel
theorem eX11_text_51 : rf_cki MX11_text 51 .ireturn = true := by decide +kernel
def cX11_text_52 : List rf_I := [(.aload_n 0, 1, 0, 0, 0, 0, 0), (.getfield 12, 3, 11, 0, 461, 0, 0), (.iload_n 1, 1, 1, 0, 0, 0, 0)]
theorem kX11_text_52 : rf_ck MX11_text 52 cX11_text_52 = true := by decide +kernel
theorem qX11_text_57 : rf_kc MX11_text 57 226 823 yX10_textOf 0 = true := by decide +kernel
def cX11_text_60 : List rf_I := [(.aload_n 0, 1, 0, 0, 0, 0, 0), (.getfield 22, 3, 11, 2, 463, 0, 0), (.getfield 230, 3, 2, 0, 375, 0, 0)]
theorem kX11_text_60 : rf_ck MX11_text 60 cX11_text_60 = true := by decide +kernel
theorem qX11_text_67 : rf_kc MX11_text 67 234 827 yX8_copyFrom 0 = true := by decide +kernel
def cX11_text_70 : List rf_I := [(.iconst 1, 1, 0, 0, 0, nI 1, 0)]
theorem kX11_text_70 : rf_ck MX11_text 70 cX11_text_70 = true := by decide +kernel
theorem eX11_text_71 : rf_cki MX11_text 71 .ireturn = true := by decide +kernel
abbrev MX11_law : rf_M := (yX11_law, cX11_law, 6, (some (.int)))
theorem mkX11_law : rf_mk MX11_law 0 5 841 72 839 840 = true := by decide +kernel
def cX11_law_0 : List rf_I := [(.iload_n 1, 1, 1, 0, 0, 0, 0), (.iconst 0, 1, 0, 0, 0, nI 0, 0), (.iconst 1, 1, 0, 0, 0, nI 1, 0)]
theorem kX11_law_0 : rf_ck MX11_law 0 cX11_law_0 = true := by decide +kernel
theorem qX11_law_3 : rf_kc MX11_law 3 77 496 yX11_within 1 = true := by decide +kernel
theorem bX11_law_6 : rf_ckb MX11_law 6 (.ifCond .ne 10) 10 16 = true := by decide +kernel
def cX11_law_9 : List rf_I := [(.aload_n 0, 1, 0, 0, 0, 0, 0), (.ldc 81, 2, 0, 0, 511, (-1000000001), 0)]
theorem kX11_law_9 : rf_ck MX11_law 9 cX11_law_9 = true := by decide +kernel
theorem qX11_law_12 : rf_kc MX11_law 12 65 491 yX11_error 0 = true := by decide +kernel
theorem eX11_law_15 : rf_cki MX11_law 15 .ireturn = true := by decide +kernel
def cX11_law_16 : List rf_I := [(.iload_n 1, 1, 1, 0, 0, 0, 0)]
theorem kX11_law_16 : rf_ck MX11_law 16 cX11_law_16 = true := by decide +kernel
theorem bX11_law_17 : rf_ckb MX11_law 17 (.ifCond .ne 20) 20 37 = true := by decide +kernel
def cX11_law_20 : List rf_I := [(.aload_n 0, 1, 0, 0, 0, 0, 0), (.getfield 12, 3, 11, 0, 461, 0, 0), (.iload_n 2, 1, 2, 0, 0, 0, 0), (.iload_n 3, 1, 3, 0, 0, 0, 0), (.iload 4, 2, 4, 0, 0, 0, 0), (.iload 5, 2, 5, 0, 0, 0, 0), (.iconst 0, 1, 0, 0, 0, nI 0, 0)]
theorem kX11_law_20 : rf_ck MX11_law 20 cX11_law_20 = true := by decide +kernel
theorem qX11_law_31 : rf_kc MX11_law 31 240 842 yX10_weigh 0 = true := by decide +kernel
theorem bX11_law_34 : rf_ckb MX11_law 34 (.goto 16) 16 50 = true := by decide +kernel
def cX11_law_37 : List rf_I := [(.aload_n 0, 1, 0, 0, 0, 0, 0), (.getfield 12, 3, 11, 0, 461, 0, 0), (.iload_n 2, 1, 2, 0, 0, 0, 0), (.iload_n 3, 1, 3, 0, 0, 0, 0), (.iload 4, 2, 4, 0, 0, 0, 0), (.iload 5, 2, 5, 0, 0, 0, 0)]
theorem kX11_law_37 : rf_ck MX11_law 37 cX11_law_37 = true := by decide +kernel
theorem qX11_law_47 : rf_kc MX11_law 47 244 843 yX10_rule 0 = true := by decide +kernel
theorem eX11_law_50 : rf_cki MX11_law 50 .ireturn = true := by decide +kernel
abbrev MX11_walked : rf_M := (yX11_walked, cX11_walked, 2, (some (.int)))
theorem mkX11_walked : rf_mk MX11_walked 0 1 850 72 848 849 = true := by decide +kernel
def cX11_walked_0 : List rf_I := [(.aload_n 0, 1, 0, 0, 0, 0, 0), (.iload_n 1, 1, 1, 0, 0, 0, 0)]
theorem kX11_walked_0 : rf_ck MX11_walked 0 cX11_walked_0 = true := by decide +kernel
theorem qX11_walked_2 : rf_kc MX11_walked 2 247 851 yX11_isSetOfTrains 0 = true := by decide +kernel
theorem bX11_walked_5 : rf_ckb MX11_walked 5 (.ifCond .ne 10) 10 15 = true := by decide +kernel
def cX11_walked_8 : List rf_I := [(.aload_n 0, 1, 0, 0, 0, 0, 0), (.ldc 81, 2, 0, 0, 511, (-1000000001), 0)]
theorem kX11_walked_8 : rf_ck MX11_walked 8 cX11_walked_8 = true := by decide +kernel
theorem qX11_walked_11 : rf_kc MX11_walked 11 65 491 yX11_error 0 = true := by decide +kernel
theorem eX11_walked_14 : rf_cki MX11_walked 14 .ireturn = true := by decide +kernel
def cX11_walked_15 : List rf_I := [(.aload_n 0, 1, 0, 0, 0, 0, 0), (.getfield 12, 3, 11, 0, 461, 0, 0), (.iload_n 1, 1, 1, 0, 0, 0, 0)]
theorem kX11_walked_15 : rf_ck MX11_walked 15 cX11_walked_15 = true := by decide +kernel
theorem qX11_walked_20 : rf_kc MX11_walked 20 250 855 yX10_whyNotWalked 0 = true := by decide +kernel
theorem eX11_walked_23 : rf_cki MX11_walked 23 .ireturn = true := by decide +kernel
abbrev MX11_shift : rf_M := (yX11_shift, cX11_shift, 2, (some (.int)))
theorem mkX11_shift : rf_mk MX11_shift 0 1 873 72 871 872 = true := by decide +kernel
def cX11_shift_0 : List rf_I := [(.aload_n 0, 1, 0, 0, 0, 0, 0), (.iload_n 1, 1, 1, 0, 0, 0, 0)]
theorem kX11_shift_0 : rf_ck MX11_shift 0 cX11_shift_0 = true := by decide +kernel
theorem qX11_shift_2 : rf_kc MX11_shift 2 247 851 yX11_isSetOfTrains 0 = true := by decide +kernel
theorem bX11_shift_5 : rf_ckb MX11_shift 5 (.ifCond .ne 10) 10 15 = true := by decide +kernel
def cX11_shift_8 : List rf_I := [(.aload_n 0, 1, 0, 0, 0, 0, 0), (.ldc 81, 2, 0, 0, 511, (-1000000001), 0)]
theorem kX11_shift_8 : rf_ck MX11_shift 8 cX11_shift_8 = true := by decide +kernel
theorem qX11_shift_11 : rf_kc MX11_shift 11 65 491 yX11_error 0 = true := by decide +kernel
theorem eX11_shift_14 : rf_cki MX11_shift 14 .ireturn = true := by decide +kernel
def cX11_shift_15 : List rf_I := [(.aload_n 0, 1, 0, 0, 0, 0, 0), (.getfield 12, 3, 11, 0, 461, 0, 0), (.iload_n 1, 1, 1, 0, 0, 0, 0)]
theorem kX11_shift_15 : rf_ck MX11_shift 15 cX11_shift_15 = true := by decide +kernel
theorem qX11_shift_20 : rf_kc MX11_shift 20 250 855 yX10_whyNotWalked 0 = true := by decide +kernel
theorem bX11_shift_23 : rf_ckb MX11_shift 23 (.ifCond .eq 10) 10 33 = true := by decide +kernel
def cX11_shift_26 : List rf_I := [(.aload_n 0, 1, 0, 0, 0, 0, 0), (.ldc 253, 2, 0, 0, 874, (-1000000003), 0)]
theorem kX11_shift_26 : rf_ck MX11_shift 26 cX11_shift_26 = true := by decide +kernel
theorem qX11_shift_29 : rf_kc MX11_shift 29 65 491 yX11_error 0 = true := by decide +kernel
theorem eX11_shift_32 : rf_cki MX11_shift 32 .ireturn = true := by decide +kernel
def cX11_shift_33 : List rf_I := [(.aload_n 0, 1, 0, 0, 0, 0, 0), (.getfield 12, 3, 11, 0, 461, 0, 0), (.getfield 133, 3, 10, 2, 333, 0, 0), (.getfield 254, 3, 7, 0, 231, 0, 0), (.bipush 8, 2, 0, 0, 0, nI 8, 0)]
theorem kX11_shift_33 : rf_ck MX11_shift 33 cX11_shift_33 = true := by decide +kernel
theorem bX11_shift_45 : rf_ckb MX11_shift 45 (.if_icmp .lt 10) 10 55 = true := by decide +kernel
def cX11_shift_48 : List rf_I := [(.aload_n 0, 1, 0, 0, 0, 0, 0), (.ldc 64, 2, 0, 0, 490, (-1000000004), 0)]
theorem kX11_shift_48 : rf_ck MX11_shift 48 cX11_shift_48 = true := by decide +kernel
theorem qX11_shift_51 : rf_kc MX11_shift 51 65 491 yX11_error 0 = true := by decide +kernel
theorem eX11_shift_54 : rf_cki MX11_shift 54 .ireturn = true := by decide +kernel
def cX11_shift_55 : List rf_I := [(.aload_n 0, 1, 0, 0, 0, 0, 0), (.getfield 12, 3, 11, 0, 461, 0, 0), (.getfield 133, 3, 10, 2, 333, 0, 0), (.iload_n 1, 1, 1, 0, 0, 0, 0)]
theorem kX11_shift_55 : rf_ck MX11_shift 55 cX11_shift_55 = true := by decide +kernel
theorem qX11_shift_63 : rf_kc MX11_shift 63 256 875 yX7_addShift 0 = true := by decide +kernel
theorem eX11_shift_66 : rf_cki MX11_shift 66 .ireturn = true := by decide +kernel
abbrev MX11_lots : rf_M := (yX11_lots, cX11_lots, 4, (some (.int)))
theorem mkX11_lots : rf_mk MX11_lots 0 2 882 72 880 881 = true := by decide +kernel
def cX11_lots_0 : List rf_I := [(.aload_n 0, 1, 0, 0, 0, 0, 0), (.iload_n 1, 1, 1, 0, 0, 0, 0)]
theorem kX11_lots_0 : rf_ck MX11_lots 0 cX11_lots_0 = true := by decide +kernel
theorem qX11_lots_2 : rf_kc MX11_lots 2 259 883 yX11_isShift 0 = true := by decide +kernel
theorem bX11_lots_5 : rf_ckb MX11_lots 5 (.ifCond .eq 13) 13 18 = true := by decide +kernel
def cX11_lots_8 : List rf_I := [(.iload_n 2, 1, 2, 0, 0, 0, 0), (.iconst 0, 1, 0, 0, 0, nI 0, 0), (.bipush 9, 2, 0, 0, 0, nI 9, 0)]
theorem kX11_lots_8 : rf_ck MX11_lots 8 cX11_lots_8 = true := by decide +kernel
theorem qX11_lots_12 : rf_kc MX11_lots 12 77 496 yX11_within 1 = true := by decide +kernel
theorem bX11_lots_15 : rf_ckb MX11_lots 15 (.ifCond .ne 10) 10 25 = true := by decide +kernel
def cX11_lots_18 : List rf_I := [(.aload_n 0, 1, 0, 0, 0, 0, 0), (.ldc 81, 2, 0, 0, 511, (-1000000001), 0)]
theorem kX11_lots_18 : rf_ck MX11_lots 18 cX11_lots_18 = true := by decide +kernel
theorem qX11_lots_21 : rf_kc MX11_lots 21 65 491 yX11_error 0 = true := by decide +kernel
theorem eX11_lots_24 : rf_cki MX11_lots 24 .ireturn = true := by decide +kernel
def cX11_lots_25 : List rf_I := [(.aload_n 0, 1, 0, 0, 0, 0, 0), (.getfield 12, 3, 11, 0, 461, 0, 0), (.getfield 133, 3, 10, 2, 333, 0, 0), (.getfield 262, 3, 7, 2, 238, 0, 0), (.iload_n 1, 1, 1, 0, 0, 0, 0), (.iaload, 1, 0, 0, 0, 0, 0), (.istore_n 3, 1, 3, 0, 0, 0, 0), (.aload_n 0, 1, 0, 0, 0, 0, 0), (.getfield 12, 3, 11, 0, 461, 0, 0), (.getfield 133, 3, 10, 2, 333, 0, 0), (.getfield 262, 3, 7, 2, 238, 0, 0), (.iload_n 1, 1, 1, 0, 0, 0, 0), (.iload_n 2, 1, 2, 0, 0, 0, 0), (.iastore, 1, 0, 0, 0, 0, 0), (.iload_n 3, 1, 3, 0, 0, 0, 0)]
theorem kX11_lots_25 : rf_ck MX11_lots 25 cX11_lots_25 = true := by decide +kernel
theorem eX11_lots_52 : rf_cki MX11_lots 52 .ireturn = true := by decide +kernel
abbrev MX11_ofShift : rf_M := (yX11_ofShift, cX11_ofShift, 3, (some (.int)))
theorem mkX11_ofShift : rf_mk MX11_ofShift 0 2 890 72 888 889 = true := by decide +kernel
def cX11_ofShift_0 : List rf_I := [(.aload_n 0, 1, 0, 0, 0, 0, 0), (.iload_n 1, 1, 1, 0, 0, 0, 0)]
theorem kX11_ofShift_0 : rf_ck MX11_ofShift 0 cX11_ofShift_0 = true := by decide +kernel
theorem qX11_ofShift_2 : rf_kc MX11_ofShift 2 259 883 yX11_isShift 0 = true := by decide +kernel
theorem bX11_ofShift_5 : rf_ckb MX11_ofShift 5 (.ifCond .ne 10) 10 15 = true := by decide +kernel
def cX11_ofShift_8 : List rf_I := [(.aload_n 0, 1, 0, 0, 0, 0, 0), (.ldc 81, 2, 0, 0, 511, (-1000000001), 0)]
theorem kX11_ofShift_8 : rf_ck MX11_ofShift 8 cX11_ofShift_8 = true := by decide +kernel
theorem qX11_ofShift_11 : rf_kc MX11_ofShift 11 65 491 yX11_error 0 = true := by decide +kernel
theorem eX11_ofShift_14 : rf_cki MX11_ofShift 14 .ireturn = true := by decide +kernel
def cX11_ofShift_15 : List rf_I := [(.iload_n 2, 1, 2, 0, 0, 0, 0)]
theorem kX11_ofShift_15 : rf_ck MX11_ofShift 15 cX11_ofShift_15 = true := by decide +kernel
theorem bX11_ofShift_16 : rf_ckt MX11_ofShift 16 66 0 2 [28, 41, 54] [44, 57, 70] 82 = true := by decide +kernel
def cX11_ofShift_44 : List rf_I := [(.aload_n 0, 1, 0, 0, 0, 0, 0), (.getfield 12, 3, 11, 0, 461, 0, 0), (.getfield 133, 3, 10, 2, 333, 0, 0), (.getfield 265, 3, 7, 1, 235, 0, 0), (.iload_n 1, 1, 1, 0, 0, 0, 0), (.iaload, 1, 0, 0, 0, 0, 0)]
theorem kX11_ofShift_44 : rf_ck MX11_ofShift 44 cX11_ofShift_44 = true := by decide +kernel
theorem eX11_ofShift_56 : rf_cki MX11_ofShift 56 .ireturn = true := by decide +kernel
def cX11_ofShift_57 : List rf_I := [(.aload_n 0, 1, 0, 0, 0, 0, 0), (.getfield 12, 3, 11, 0, 461, 0, 0), (.getfield 133, 3, 10, 2, 333, 0, 0), (.getfield 262, 3, 7, 2, 238, 0, 0), (.iload_n 1, 1, 1, 0, 0, 0, 0), (.iaload, 1, 0, 0, 0, 0, 0)]
theorem kX11_ofShift_57 : rf_ck MX11_ofShift 57 cX11_ofShift_57 = true := by decide +kernel
theorem eX11_ofShift_69 : rf_cki MX11_ofShift 69 .ireturn = true := by decide +kernel
def cX11_ofShift_70 : List rf_I := [(.aload_n 0, 1, 0, 0, 0, 0, 0), (.getfield 12, 3, 11, 0, 461, 0, 0), (.getfield 268, 3, 10, 3, 335, 0, 0), (.iload_n 1, 1, 1, 0, 0, 0, 0)]
theorem kX11_ofShift_70 : rf_ck MX11_ofShift 70 cX11_ofShift_70 = true := by decide +kernel
theorem qX11_ofShift_78 : rf_kc MX11_ofShift 78 272 891 yX1_findsOf 0 = true := by decide +kernel
theorem eX11_ofShift_81 : rf_cki MX11_ofShift 81 .ireturn = true := by decide +kernel
def cX11_ofShift_82 : List rf_I := [(.aload_n 0, 1, 0, 0, 0, 0, 0), (.ldc 81, 2, 0, 0, 511, (-1000000001), 0)]
theorem kX11_ofShift_82 : rf_ck MX11_ofShift 82 cX11_ofShift_82 = true := by decide +kernel
theorem qX11_ofShift_85 : rf_kc MX11_ofShift 85 65 491 yX11_error 0 = true := by decide +kernel
theorem eX11_ofShift_88 : rf_cki MX11_ofShift 88 .ireturn = true := by decide +kernel
abbrev MX11_odds : rf_M := (yX11_odds, cX11_odds, 3, (some (.int)))
theorem mkX11_odds : rf_mk MX11_odds 0 2 898 72 896 897 = true := by decide +kernel
def cX11_odds_0 : List rf_I := [(.aload_n 0, 1, 0, 0, 0, 0, 0), (.iload_n 1, 1, 1, 0, 0, 0, 0)]
theorem kX11_odds_0 : rf_ck MX11_odds 0 cX11_odds_0 = true := by decide +kernel
theorem qX11_odds_2 : rf_kc MX11_odds 2 112 562 yX11_isTrain 0 = true := by decide +kernel
theorem bX11_odds_5 : rf_ckb MX11_odds 5 (.ifCond .eq 12) 12 17 = true := by decide +kernel
def cX11_odds_8 : List rf_I := [(.iload_n 2, 1, 2, 0, 0, 0, 0), (.iconst 0, 1, 0, 0, 0, nI 0, 0), (.iconst 1, 1, 0, 0, 0, nI 1, 0)]
theorem kX11_odds_8 : rf_ck MX11_odds 8 cX11_odds_8 = true := by decide +kernel
theorem qX11_odds_11 : rf_kc MX11_odds 11 77 496 yX11_within 1 = true := by decide +kernel
theorem bX11_odds_14 : rf_ckb MX11_odds 14 (.ifCond .ne 10) 10 24 = true := by decide +kernel
def cX11_odds_17 : List rf_I := [(.aload_n 0, 1, 0, 0, 0, 0, 0), (.ldc 81, 2, 0, 0, 511, (-1000000001), 0)]
theorem kX11_odds_17 : rf_ck MX11_odds 17 cX11_odds_17 = true := by decide +kernel
theorem qX11_odds_20 : rf_kc MX11_odds 20 65 491 yX11_error 0 = true := by decide +kernel
theorem eX11_odds_23 : rf_cki MX11_odds 23 .ireturn = true := by decide +kernel
def cX11_odds_24 : List rf_I := [(.aload_n 0, 1, 0, 0, 0, 0, 0), (.getfield 12, 3, 11, 0, 461, 0, 0), (.getfield 133, 3, 10, 2, 333, 0, 0), (.iload_n 1, 1, 1, 0, 0, 0, 0)]
theorem kX11_odds_24 : rf_ck MX11_odds 24 cX11_odds_24 = true := by decide +kernel
theorem qX11_odds_32 : rf_kc MX11_odds 32 137 588 yX7_lotsWith 0 = true := by decide +kernel
def cX11_odds_35 : List rf_I := [(.i2l, 1, 0, 0, 0, 0, 0), (.aload_n 0, 1, 0, 0, 0, 0, 0), (.getfield 12, 3, 11, 0, 461, 0, 0), (.getfield 133, 3, 10, 2, 333, 0, 0)]
theorem kX11_odds_35 : rf_ck MX11_odds 35 cX11_odds_35 = true := by decide +kernel
theorem qX11_odds_43 : rf_kc MX11_odds 43 277 899 yX7_below 0 = true := by decide +kernel
def cX11_odds_46 : List rf_I := [(.i2l, 1, 0, 0, 0, 0, 0), (.iload_n 2, 1, 2, 0, 0, 0, 0)]
theorem kX11_odds_46 : rf_ck MX11_odds 46 cX11_odds_46 = true := by decide +kernel
theorem qX11_odds_48 : rf_kc MX11_odds 48 280 900 yX11_lowest 1 = true := by decide +kernel
def cX11_odds_51 : List rf_I := [(.l2i, 1, 0, 0, 0, 0, 0)]
theorem kX11_odds_51 : rf_ck MX11_odds 51 cX11_odds_51 = true := by decide +kernel
theorem eX11_odds_52 : rf_cki MX11_odds 52 .ireturn = true := by decide +kernel
abbrev MX11_unpaid : rf_M := (yX11_unpaid, cX11_unpaid, 1, (some (.int)))
theorem mkX11_unpaid : rf_mk MX11_unpaid 0 0 906 72 904 905 = true := by decide +kernel
def cX11_unpaid_0 : List rf_I := [(.aload_n 0, 1, 0, 0, 0, 0, 0), (.getfield 12, 3, 11, 0, 461, 0, 0), (.iconst 0, 1, 0, 0, 0, nI 0, 0)]
theorem kX11_unpaid_0 : rf_ck MX11_unpaid 0 cX11_unpaid_0 = true := by decide +kernel
theorem qX11_unpaid_5 : rf_kc MX11_unpaid 5 284 907 yX10_sumUnpaid 0 = true := by decide +kernel
theorem eX11_unpaid_8 : rf_cki MX11_unpaid 8 .ireturn = true := by decide +kernel
abbrev MX11_coin : rf_M := (yX11_coin, cX11_coin, 2, (some (.long)))
theorem mkX11_coin : rf_mk MX11_coin 0 1 916 72 914 915 = true := by decide +kernel
def cX11_coin_0 : List rf_I := [(.iload_n 1, 1, 1, 0, 0, 0, 0), (.iconst 0, 1, 0, 0, 0, nI 0, 0), (.iconst 1, 1, 0, 0, 0, nI 1, 0)]
theorem kX11_coin_0 : rf_ck MX11_coin 0 cX11_coin_0 = true := by decide +kernel
theorem qX11_coin_3 : rf_kc MX11_coin 3 77 496 yX11_within 1 = true := by decide +kernel
theorem bX11_coin_6 : rf_ckb MX11_coin 6 (.ifCond .ne 11) 11 17 = true := by decide +kernel
def cX11_coin_9 : List rf_I := [(.aload_n 0, 1, 0, 0, 0, 0, 0), (.ldc 81, 2, 0, 0, 511, (-1000000001), 0)]
theorem kX11_coin_9 : rf_ck MX11_coin 9 cX11_coin_9 = true := by decide +kernel
theorem qX11_coin_12 : rf_kc MX11_coin 12 65 491 yX11_error 0 = true := by decide +kernel
def cX11_coin_15 : List rf_I := [(.i2l, 1, 0, 0, 0, 0, 0)]
theorem kX11_coin_15 : rf_ck MX11_coin 15 cX11_coin_15 = true := by decide +kernel
theorem eX11_coin_16 : rf_cki MX11_coin 16 .lreturn = true := by decide +kernel
def cX11_coin_17 : List rf_I := [(.aload_n 0, 1, 0, 0, 0, 0, 0), (.getfield 12, 3, 11, 0, 461, 0, 0)]
theorem kX11_coin_17 : rf_ck MX11_coin 17 cX11_coin_17 = true := by decide +kernel
theorem qX11_coin_21 : rf_kc MX11_coin 21 287 917 yX10_coinAbove 0 = true := by decide +kernel
def cX11_coin_24 : List rf_I := [(.aload_n 0, 1, 0, 0, 0, 0, 0), (.getfield 12, 3, 11, 0, 461, 0, 0), (.getfield 133, 3, 10, 2, 333, 0, 0)]
theorem kX11_coin_24 : rf_ck MX11_coin 24 cX11_coin_24 = true := by decide +kernel
theorem qX11_coin_31 : rf_kc MX11_coin 31 277 899 yX7_below 0 = true := by decide +kernel
def cX11_coin_34 : List rf_I := [(.i2l, 1, 0, 0, 0, 0, 0), (.iload_n 1, 1, 1, 0, 0, 0, 0)]
theorem kX11_coin_34 : rf_ck MX11_coin 34 cX11_coin_34 = true := by decide +kernel
theorem qX11_coin_36 : rf_kc MX11_coin 36 280 900 yX11_lowest 1 = true := by decide +kernel
theorem eX11_coin_39 : rf_cki MX11_coin 39 .lreturn = true := by decide +kernel
abbrev MX11_best : rf_M := (yX11_best, cX11_best, 3, (some (.int)))
theorem mkX11_best : rf_mk MX11_best 0 2 924 72 922 923 = true := by decide +kernel
def cX11_best_0 : List rf_I := [(.iload_n 1, 1, 1, 0, 0, 0, 0), (.iconst 1, 1, 0, 0, 0, nI 1, 0), (.iconst 5, 1, 0, 0, 0, nI 5, 0)]
theorem kX11_best_0 : rf_ck MX11_best 0 cX11_best_0 = true := by decide +kernel
theorem qX11_best_3 : rf_kc MX11_best 3 77 496 yX11_within 1 = true := by decide +kernel
theorem bX11_best_6 : rf_ckb MX11_best 6 (.ifCond .eq 8) 8 14 = true := by decide +kernel
def cX11_best_9 : List rf_I := [(.iload_n 2, 1, 2, 0, 0, 0, 0), (.iconst (-1), 1, 0, 0, 0, (-1), 0)]
theorem kX11_best_9 : rf_ck MX11_best 9 cX11_best_9 = true := by decide +kernel
theorem bX11_best_11 : rf_ckb MX11_best 11 (.if_icmp .ge 10) 10 21 = true := by decide +kernel
def cX11_best_14 : List rf_I := [(.aload_n 0, 1, 0, 0, 0, 0, 0), (.ldc 81, 2, 0, 0, 511, (-1000000001), 0)]
theorem kX11_best_14 : rf_ck MX11_best 14 cX11_best_14 = true := by decide +kernel
theorem qX11_best_17 : rf_kc MX11_best 17 65 491 yX11_error 0 = true := by decide +kernel
theorem eX11_best_20 : rf_cki MX11_best 20 .ireturn = true := by decide +kernel
def cX11_best_21 : List rf_I := [(.aload_n 0, 1, 0, 0, 0, 0, 0), (.getfield 12, 3, 11, 0, 461, 0, 0), (.getfield 133, 3, 10, 2, 333, 0, 0), (.getfield 254, 3, 7, 0, 231, 0, 0)]
theorem kX11_best_21 : rf_ck MX11_best 21 cX11_best_21 = true := by decide +kernel
theorem bX11_best_31 : rf_ckb MX11_best 31 (.ifCond .eq 17) 17 48 = true := by decide +kernel
def cX11_best_34 : List rf_I := [(.iload_n 2, 1, 2, 0, 0, 0, 0), (.aload_n 0, 1, 0, 0, 0, 0, 0), (.getfield 12, 3, 11, 0, 461, 0, 0), (.getfield 133, 3, 10, 2, 333, 0, 0), (.getfield 254, 3, 7, 0, 231, 0, 0)]
theorem kX11_best_34 : rf_ck MX11_best 34 cX11_best_34 = true := by decide +kernel
theorem bX11_best_45 : rf_ckb MX11_best 45 (.if_icmp .lt 10) 10 55 = true := by decide +kernel
def cX11_best_48 : List rf_I := [(.aload_n 0, 1, 0, 0, 0, 0, 0), (.ldc 105, 2, 0, 0, 549, (-1000000002), 0)]
theorem kX11_best_48 : rf_ck MX11_best 48 cX11_best_48 = true := by decide +kernel
theorem qX11_best_51 : rf_kc MX11_best 51 65 491 yX11_error 0 = true := by decide +kernel
theorem eX11_best_54 : rf_cki MX11_best 54 .ireturn = true := by decide +kernel
def cX11_best_55 : List rf_I := [(.aload_n 0, 1, 0, 0, 0, 0, 0), (.getfield 29, 3, 11, 3, 464, 0, 0), (.aload_n 0, 1, 0, 0, 0, 0, 0), (.getfield 12, 3, 11, 0, 461, 0, 0), (.iload_n 1, 1, 1, 0, 0, 0, 0)]
theorem kX11_best_55 : rf_ck MX11_best 55 cX11_best_55 = true := by decide +kernel
theorem qX11_best_64 : rf_kc MX11_best 64 291 925 yX5_run 0 = true := by decide +kernel
def cX11_best_67 : List rf_I := [(.iload_n 2, 1, 2, 0, 0, 0, 0), (.iconst (-1), 1, 0, 0, 0, (-1), 0)]
theorem kX11_best_67 : rf_ck MX11_best 67 cX11_best_67 = true := by decide +kernel
theorem bX11_best_69 : rf_ckb MX11_best 69 (.if_icmp .ne 13) 13 82 = true := by decide +kernel
def cX11_best_72 : List rf_I := [(.aload_n 0, 1, 0, 0, 0, 0, 0), (.getfield 29, 3, 11, 3, 464, 0, 0), (.getfield 295, 3, 5, 0, 396, 0, 0)]
theorem kX11_best_72 : rf_ck MX11_best 72 cX11_best_72 = true := by decide +kernel
theorem bX11_best_79 : rf_ckb MX11_best 79 (.goto 12) 12 91 = true := by decide +kernel
def cX11_best_82 : List rf_I := [(.aload_n 0, 1, 0, 0, 0, 0, 0), (.getfield 29, 3, 11, 3, 464, 0, 0), (.getfield 298, 3, 5, 1, 398, 0, 0), (.iload_n 2, 1, 2, 0, 0, 0, 0), (.iaload, 1, 0, 0, 0, 0, 0)]
theorem kX11_best_82 : rf_ck MX11_best 82 cX11_best_82 = true := by decide +kernel
theorem eX11_best_91 : rf_cki MX11_best 91 .ireturn = true := by decide +kernel
abbrev MX11_plan : rf_M := (yX11_plan, cX11_plan, 2, (some (.int)))
theorem mkX11_plan : rf_mk MX11_plan 0 1 953 72 951 952 = true := by decide +kernel
def cX11_plan_0 : List rf_I := [(.iload_n 1, 1, 1, 0, 0, 0, 0), (.iconst 1, 1, 0, 0, 0, nI 1, 0), (.iconst 5, 1, 0, 0, 0, nI 5, 0)]
theorem kX11_plan_0 : rf_ck MX11_plan 0 cX11_plan_0 = true := by decide +kernel
theorem qX11_plan_3 : rf_kc MX11_plan 3 77 496 yX11_within 1 = true := by decide +kernel
theorem bX11_plan_6 : rf_ckb MX11_plan 6 (.ifCond .ne 10) 10 16 = true := by decide +kernel
def cX11_plan_9 : List rf_I := [(.aload_n 0, 1, 0, 0, 0, 0, 0), (.ldc 81, 2, 0, 0, 511, (-1000000001), 0)]
theorem kX11_plan_9 : rf_ck MX11_plan 9 cX11_plan_9 = true := by decide +kernel
theorem qX11_plan_12 : rf_kc MX11_plan 12 65 491 yX11_error 0 = true := by decide +kernel
theorem eX11_plan_15 : rf_cki MX11_plan 15 .ireturn = true := by decide +kernel
def cX11_plan_16 : List rf_I := [(.aload_n 0, 1, 0, 0, 0, 0, 0), (.getfield 12, 3, 11, 0, 461, 0, 0), (.getfield 133, 3, 10, 2, 333, 0, 0), (.getfield 254, 3, 7, 0, 231, 0, 0)]
theorem kX11_plan_16 : rf_ck MX11_plan 16 cX11_plan_16 = true := by decide +kernel
theorem bX11_plan_26 : rf_ckb MX11_plan 26 (.ifCond .ne 10) 10 36 = true := by decide +kernel
def cX11_plan_29 : List rf_I := [(.aload_n 0, 1, 0, 0, 0, 0, 0), (.ldc 105, 2, 0, 0, 549, (-1000000002), 0)]
theorem kX11_plan_29 : rf_ck MX11_plan 29 cX11_plan_29 = true := by decide +kernel
theorem qX11_plan_32 : rf_kc MX11_plan 32 65 491 yX11_error 0 = true := by decide +kernel
theorem eX11_plan_35 : rf_cki MX11_plan 35 .ireturn = true := by decide +kernel
def cX11_plan_36 : List rf_I := [(.aload_n 0, 1, 0, 0, 0, 0, 0), (.getfield 29, 3, 11, 3, 464, 0, 0), (.aload_n 0, 1, 0, 0, 0, 0, 0), (.getfield 12, 3, 11, 0, 461, 0, 0), (.iload_n 1, 1, 1, 0, 0, 0, 0)]
theorem kX11_plan_36 : rf_ck MX11_plan 36 cX11_plan_36 = true := by decide +kernel
theorem qX11_plan_45 : rf_kc MX11_plan 45 291 925 yX5_run 0 = true := by decide +kernel
def cX11_plan_48 : List rf_I := [(.aload_n 0, 1, 0, 0, 0, 0, 0), (.getfield 12, 3, 11, 0, 461, 0, 0), (.getfield 133, 3, 10, 2, 333, 0, 0), (.aload_n 0, 1, 0, 0, 0, 0, 0), (.getfield 29, 3, 11, 3, 464, 0, 0), (.getfield 298, 3, 5, 1, 398, 0, 0)]
theorem kX11_plan_48 : rf_ck MX11_plan 48 cX11_plan_48 = true := by decide +kernel
theorem qX11_plan_62 : rf_kc MX11_plan 62 301 954 yX7_take 0 = true := by decide +kernel
def cX11_plan_65 : List rf_I := [(.aload_n 0, 1, 0, 0, 0, 0, 0), (.getfield 29, 3, 11, 3, 464, 0, 0), (.getfield 295, 3, 5, 0, 396, 0, 0)]
theorem kX11_plan_65 : rf_ck MX11_plan 65 cX11_plan_65 = true := by decide +kernel
theorem eX11_plan_72 : rf_cki MX11_plan 72 .ireturn = true := by decide +kernel
abbrev MX11_days : rf_M := (yX11_days, cX11_days, 4, (some (.int)))
theorem mkX11_days : rf_mk MX11_days 0 1 962 72 960 961 = true := by decide +kernel
def cX11_days_0 : List rf_I := [(.iload_n 1, 1, 1, 0, 0, 0, 0), (.iconst 1, 1, 0, 0, 0, nI 1, 0), (.bipush 50, 2, 0, 0, 0, nI 50, 0)]
theorem kX11_days_0 : rf_ck MX11_days 0 cX11_days_0 = true := by decide +kernel
theorem qX11_days_4 : rf_kc MX11_days 4 77 496 yX11_within 1 = true := by decide +kernel
theorem bX11_days_7 : rf_ckb MX11_days 7 (.ifCond .ne 10) 10 17 = true := by decide +kernel
def cX11_days_10 : List rf_I := [(.aload_n 0, 1, 0, 0, 0, 0, 0), (.ldc 81, 2, 0, 0, 511, (-1000000001), 0)]
theorem kX11_days_10 : rf_ck MX11_days 10 cX11_days_10 = true := by decide +kernel
theorem qX11_days_13 : rf_kc MX11_days 13 65 491 yX11_error 0 = true := by decide +kernel
theorem eX11_days_16 : rf_cki MX11_days 16 .ireturn = true := by decide +kernel
def cX11_days_17 : List rf_I := [(.aload_n 0, 1, 0, 0, 0, 0, 0), (.getfield 12, 3, 11, 0, 461, 0, 0), (.getfield 268, 3, 10, 3, 335, 0, 0), (.getfield 305, 3, 1, 0, 254, 0, 0), (.iload_n 1, 1, 1, 0, 0, 0, 0), (.iadd, 1, 0, 0, 0, 0, 0), (.sipush 399, 3, 0, 0, 0, nI 399, 0)]
theorem kX11_days_17 : rf_ck MX11_days 17 cX11_days_17 = true := by decide +kernel
theorem bX11_days_32 : rf_ckb MX11_days 32 (.if_icmp .gt 16) 16 48 = true := by decide +kernel
def cX11_days_35 : List rf_I := [(.aload_n 0, 1, 0, 0, 0, 0, 0), (.getfield 12, 3, 11, 0, 461, 0, 0), (.getfield 133, 3, 10, 2, 333, 0, 0)]
theorem kX11_days_35 : rf_ck MX11_days 35 cX11_days_35 = true := by decide +kernel
theorem qX11_days_42 : rf_kc MX11_days 42 308 963 yX7_all 0 = true := by decide +kernel
theorem bX11_days_45 : rf_ckb MX11_days 45 (.ifCond .ne 10) 10 55 = true := by decide +kernel
def cX11_days_48 : List rf_I := [(.aload_n 0, 1, 0, 0, 0, 0, 0), (.ldc 253, 2, 0, 0, 874, (-1000000003), 0)]
theorem kX11_days_48 : rf_ck MX11_days 48 cX11_days_48 = true := by decide +kernel
theorem qX11_days_51 : rf_kc MX11_days 51 65 491 yX11_error 0 = true := by decide +kernel
theorem eX11_days_54 : rf_cki MX11_days 54 .ireturn = true := by decide +kernel
def cX11_days_55 : List rf_I := [(.iconst 0, 1, 0, 0, 0, nI 0, 0), (.istore_n 2, 1, 2, 0, 0, 0, 0), (.iconst 0, 1, 0, 0, 0, nI 0, 0), (.istore_n 3, 1, 3, 0, 0, 0, 0)]
theorem kX11_days_55 : rf_ck MX11_days 55 cX11_days_55 = true := by decide +kernel
def cX11_days_59 : List rf_I := [(.iload_n 3, 1, 3, 0, 0, 0, 0), (.iload_n 1, 1, 1, 0, 0, 0, 0)]
theorem kX11_days_59 : rf_ck MX11_days 59 cX11_days_59 = true := by decide +kernel
theorem bX11_days_61 : rf_ckb MX11_days 61 (.if_icmp .ge 19) 19 80 = true := by decide +kernel
def cX11_days_64 : List rf_I := [(.iload_n 2, 1, 2, 0, 0, 0, 0), (.aload_n 0, 1, 0, 0, 0, 0, 0), (.getfield 12, 3, 11, 0, 461, 0, 0)]
theorem kX11_days_64 : rf_ck MX11_days 64 cX11_days_64 = true := by decide +kernel
theorem qX11_days_69 : rf_kc MX11_days 69 311 964 yX10_passDay 0 = true := by decide +kernel
def cX11_days_72 : List rf_I := [(.iadd, 1, 0, 0, 0, 0, 0), (.istore_n 2, 1, 2, 0, 0, 0, 0), (.iinc 3 1, 3, 3, 0, 0, nI 1, 0)]
theorem kX11_days_72 : rf_ck MX11_days 72 cX11_days_72 = true := by decide +kernel
theorem bX11_days_77 : rf_ckb MX11_days 77 (.goto (-18)) (-18) 59 = true := by decide +kernel
def cX11_days_80 : List rf_I := [(.iload_n 2, 1, 2, 0, 0, 0, 0)]
theorem kX11_days_80 : rf_ck MX11_days 80 cX11_days_80 = true := by decide +kernel
theorem eX11_days_81 : rf_cki MX11_days 81 .ireturn = true := by decide +kernel
abbrev MX11_find : rf_M := (yX11_find, cX11_find, 3, (some (.int)))
theorem mkX11_find : rf_mk MX11_find 0 2 991 72 989 990 = true := by decide +kernel
def cX11_find_0 : List rf_I := [(.iload_n 2, 1, 2, 0, 0, 0, 0), (.iconst 0, 1, 0, 0, 0, nI 0, 0), (.iconst 2, 1, 0, 0, 0, nI 2, 0)]
theorem kX11_find_0 : rf_ck MX11_find 0 cX11_find_0 = true := by decide +kernel
theorem qX11_find_3 : rf_kc MX11_find 3 77 496 yX11_within 1 = true := by decide +kernel
theorem bX11_find_6 : rf_ckb MX11_find 6 (.ifCond .eq 7) 7 13 = true := by decide +kernel
def cX11_find_9 : List rf_I := [(.iload_n 1, 1, 1, 0, 0, 0, 0)]
theorem kX11_find_9 : rf_ck MX11_find 9 cX11_find_9 = true := by decide +kernel
theorem bX11_find_10 : rf_ckb MX11_find 10 (.ifCond .ge 10) 10 20 = true := by decide +kernel
def cX11_find_13 : List rf_I := [(.aload_n 0, 1, 0, 0, 0, 0, 0), (.ldc 81, 2, 0, 0, 511, (-1000000001), 0)]
theorem kX11_find_13 : rf_ck MX11_find 13 cX11_find_13 = true := by decide +kernel
theorem qX11_find_16 : rf_kc MX11_find 16 65 491 yX11_error 0 = true := by decide +kernel
theorem eX11_find_19 : rf_cki MX11_find 19 .ireturn = true := by decide +kernel
def cX11_find_20 : List rf_I := [(.iload_n 1, 1, 1, 0, 0, 0, 0), (.aload_n 0, 1, 0, 0, 0, 0, 0), (.getfield 12, 3, 11, 0, 461, 0, 0), (.getfield 268, 3, 10, 3, 335, 0, 0), (.getfield 314, 3, 1, 3, 261, 0, 0)]
theorem kX11_find_20 : rf_ck MX11_find 20 cX11_find_20 = true := by decide +kernel
theorem bX11_find_31 : rf_ckb MX11_find 31 (.if_icmp .lt 10) 10 41 = true := by decide +kernel
def cX11_find_34 : List rf_I := [(.aload_n 0, 1, 0, 0, 0, 0, 0), (.ldc 105, 2, 0, 0, 549, (-1000000002), 0)]
theorem kX11_find_34 : rf_ck MX11_find 34 cX11_find_34 = true := by decide +kernel
theorem qX11_find_37 : rf_kc MX11_find 37 65 491 yX11_error 0 = true := by decide +kernel
theorem eX11_find_40 : rf_cki MX11_find 40 .ireturn = true := by decide +kernel
def cX11_find_41 : List rf_I := [(.iload_n 2, 1, 2, 0, 0, 0, 0)]
theorem kX11_find_41 : rf_ck MX11_find 41 cX11_find_41 = true := by decide +kernel
theorem bX11_find_42 : rf_ckb MX11_find 42 (.ifCond .ne 16) 16 58 = true := by decide +kernel
def cX11_find_45 : List rf_I := [(.aload_n 0, 1, 0, 0, 0, 0, 0), (.getfield 12, 3, 11, 0, 461, 0, 0), (.getfield 268, 3, 10, 3, 335, 0, 0), (.getfield 317, 3, 1, 4, 263, 0, 0), (.iload_n 1, 1, 1, 0, 0, 0, 0), (.iaload, 1, 0, 0, 0, 0, 0)]
theorem kX11_find_45 : rf_ck MX11_find 45 cX11_find_45 = true := by decide +kernel
theorem eX11_find_57 : rf_cki MX11_find 57 .ireturn = true := by decide +kernel
def cX11_find_58 : List rf_I := [(.iload_n 2, 1, 2, 0, 0, 0, 0), (.iconst 1, 1, 0, 0, 0, nI 1, 0)]
theorem kX11_find_58 : rf_ck MX11_find 58 cX11_find_58 = true := by decide +kernel
theorem bX11_find_60 : rf_ckb MX11_find 60 (.if_icmp .ne 18) 18 78 = true := by decide +kernel
def cX11_find_63 : List rf_I := [(.aload_n 0, 1, 0, 0, 0, 0, 0), (.getfield 12, 3, 11, 0, 461, 0, 0), (.getfield 268, 3, 10, 3, 335, 0, 0), (.getfield 320, 3, 1, 5, 265, 0, 0), (.iload_n 1, 1, 1, 0, 0, 0, 0), (.iaload, 1, 0, 0, 0, 0, 0)]
theorem kX11_find_63 : rf_ck MX11_find 63 cX11_find_63 = true := by decide +kernel
theorem bX11_find_75 : rf_ckb MX11_find 75 (.goto 15) 15 90 = true := by decide +kernel
def cX11_find_78 : List rf_I := [(.aload_n 0, 1, 0, 0, 0, 0, 0), (.getfield 12, 3, 11, 0, 461, 0, 0), (.getfield 268, 3, 10, 3, 335, 0, 0), (.getfield 323, 3, 1, 6, 267, 0, 0), (.iload_n 1, 1, 1, 0, 0, 0, 0), (.iaload, 1, 0, 0, 0, 0, 0)]
theorem kX11_find_78 : rf_ck MX11_find 78 cX11_find_78 = true := by decide +kernel
theorem eX11_find_90 : rf_cki MX11_find 90 .ireturn = true := by decide +kernel
abbrev MX11_average : rf_M := (yX11_average, cX11_average, 1, (some (.int)))
theorem mkX11_average : rf_mk MX11_average 0 0 995 72 993 994 = true := by decide +kernel
def cX11_average_0 : List rf_I := [(.aload_n 0, 1, 0, 0, 0, 0, 0), (.getfield 12, 3, 11, 0, 461, 0, 0), (.getfield 268, 3, 10, 3, 335, 0, 0), (.getfield 314, 3, 1, 3, 261, 0, 0)]
theorem kX11_average_0 : rf_ck MX11_average 0 cX11_average_0 = true := by decide +kernel
theorem bX11_average_10 : rf_ckb MX11_average 10 (.ifCond .ne 10) 10 20 = true := by decide +kernel
def cX11_average_13 : List rf_I := [(.aload_n 0, 1, 0, 0, 0, 0, 0), (.ldc 105, 2, 0, 0, 549, (-1000000002), 0)]
theorem kX11_average_13 : rf_ck MX11_average 13 cX11_average_13 = true := by decide +kernel
theorem qX11_average_16 : rf_kc MX11_average 16 65 491 yX11_error 0 = true := by decide +kernel
theorem eX11_average_19 : rf_cki MX11_average 19 .ireturn = true := by decide +kernel
def cX11_average_20 : List rf_I := [(.aload_n 0, 1, 0, 0, 0, 0, 0), (.getfield 12, 3, 11, 0, 461, 0, 0), (.getfield 268, 3, 10, 3, 335, 0, 0)]
theorem kX11_average_20 : rf_ck MX11_average 20 cX11_average_20 = true := by decide +kernel
theorem qX11_average_27 : rf_kc MX11_average 27 326 996 yX1_meanRight 0 = true := by decide +kernel
theorem eX11_average_30 : rf_cki MX11_average 30 .ireturn = true := by decide +kernel
abbrev MX11_telling : rf_M := (yX11_telling, cX11_telling, 6, (some (.int)))
theorem mkX11_telling : rf_mk MX11_telling 0 4 1004 72 1002 1003 = true := by decide +kernel
def cX11_telling_0 : List rf_I := [(.aload_n 0, 1, 0, 0, 0, 0, 0), (.iload_n 1, 1, 1, 0, 0, 0, 0)]
theorem kX11_telling_0 : rf_ck MX11_telling 0 cX11_telling_0 = true := by decide +kernel
theorem qX11_telling_2 : rf_kc MX11_telling 2 112 562 yX11_isTrain 0 = true := by decide +kernel
theorem bX11_telling_5 : rf_ckb MX11_telling 5 (.ifCond .eq 35) 35 40 = true := by decide +kernel
def cX11_telling_8 : List rf_I := [(.iload_n 2, 1, 2, 0, 0, 0, 0), (.iconst 0, 1, 0, 0, 0, nI 0, 0), (.sipush 600, 3, 0, 0, 0, nI 600, 0)]
theorem kX11_telling_8 : rf_ck MX11_telling 8 cX11_telling_8 = true := by decide +kernel
theorem qX11_telling_13 : rf_kc MX11_telling 13 77 496 yX11_within 1 = true := by decide +kernel
theorem bX11_telling_16 : rf_ckb MX11_telling 16 (.ifCond .eq 24) 24 40 = true := by decide +kernel
def cX11_telling_19 : List rf_I := [(.iload_n 3, 1, 3, 0, 0, 0, 0), (.iload_n 2, 1, 2, 0, 0, 0, 0), (.sipush 600, 3, 0, 0, 0, nI 600, 0)]
theorem kX11_telling_19 : rf_ck MX11_telling 19 cX11_telling_19 = true := by decide +kernel
theorem qX11_telling_24 : rf_kc MX11_telling 24 77 496 yX11_within 1 = true := by decide +kernel
theorem bX11_telling_27 : rf_ckb MX11_telling 27 (.ifCond .eq 13) 13 40 = true := by decide +kernel
def cX11_telling_30 : List rf_I := [(.iload 4, 2, 4, 0, 0, 0, 0), (.iconst 0, 1, 0, 0, 0, nI 0, 0), (.iconst 1, 1, 0, 0, 0, nI 1, 0)]
theorem kX11_telling_30 : rf_ck MX11_telling 30 cX11_telling_30 = true := by decide +kernel
theorem qX11_telling_34 : rf_kc MX11_telling 34 77 496 yX11_within 1 = true := by decide +kernel
theorem bX11_telling_37 : rf_ckb MX11_telling 37 (.ifCond .ne 10) 10 47 = true := by decide +kernel
def cX11_telling_40 : List rf_I := [(.aload_n 0, 1, 0, 0, 0, 0, 0), (.ldc 81, 2, 0, 0, 511, (-1000000001), 0)]
theorem kX11_telling_40 : rf_ck MX11_telling 40 cX11_telling_40 = true := by decide +kernel
theorem qX11_telling_43 : rf_kc MX11_telling 43 65 491 yX11_error 0 = true := by decide +kernel
theorem eX11_telling_46 : rf_cki MX11_telling 46 .ireturn = true := by decide +kernel
def cX11_telling_47 : List rf_I := [(.aload_n 0, 1, 0, 0, 0, 0, 0), (.getfield 12, 3, 11, 0, 461, 0, 0), (.getfield 55, 3, 10, 0, 326, 0, 0), (.iload_n 1, 1, 1, 0, 0, 0, 0), (.iload_n 2, 1, 2, 0, 0, 0, 0), (.iload_n 3, 1, 3, 0, 0, 0, 0)]
theorem kX11_telling_47 : rf_ck MX11_telling 47 cX11_telling_47 = true := by decide +kernel
theorem qX11_telling_57 : rf_kc MX11_telling 57 329 1005 yX4_trainsBehind 0 = true := by decide +kernel
def cX11_telling_60 : List rf_I := [(.istore 5, 2, 5, 0, 0, 0, 0), (.iload 4, 2, 4, 0, 0, 0, 0)]
theorem kX11_telling_60 : rf_ck MX11_telling 60 cX11_telling_60 = true := by decide +kernel
theorem bX11_telling_64 : rf_ckb MX11_telling 64 (.ifCond .ne 8) 8 72 = true := by decide +kernel
def cX11_telling_67 : List rf_I := [(.iload 5, 2, 5, 0, 0, 0, 0)]
theorem kX11_telling_67 : rf_ck MX11_telling 67 cX11_telling_67 = true := by decide +kernel
theorem bX11_telling_69 : rf_ckb MX11_telling 69 (.goto 12) 12 81 = true := by decide +kernel
def cX11_telling_72 : List rf_I := [(.aload_n 0, 1, 0, 0, 0, 0, 0), (.getfield 12, 3, 11, 0, 461, 0, 0), (.iload 5, 2, 5, 0, 0, 0, 0)]
theorem kX11_telling_72 : rf_ck MX11_telling 72 cX11_telling_72 = true := by decide +kernel
theorem qX11_telling_78 : rf_kc MX11_telling 78 284 907 yX10_sumUnpaid 0 = true := by decide +kernel
theorem eX11_telling_81 : rf_cki MX11_telling 81 .ireturn = true := by decide +kernel
abbrev MX11_turn : rf_M := (yX11_turn, cX11_turn, 3, (some (.int)))
theorem mkX11_turn : rf_mk MX11_turn 0 1 1013 72 1011 1012 = true := by decide +kernel
def cX11_turn_0 : List rf_I := [(.iload_n 1, 1, 1, 0, 0, 0, 0), (.iconst 0, 1, 0, 0, 0, nI 0, 0), (.ldc_w 332, 3, 0, 0, 1014, nI 99999, 0)]
theorem kX11_turn_0 : rf_ck MX11_turn 0 cX11_turn_0 = true := by decide +kernel
theorem qX11_turn_5 : rf_kc MX11_turn 5 77 496 yX11_within 1 = true := by decide +kernel
theorem bX11_turn_8 : rf_ckb MX11_turn 8 (.ifCond .ne 10) 10 18 = true := by decide +kernel
def cX11_turn_11 : List rf_I := [(.aload_n 0, 1, 0, 0, 0, 0, 0), (.ldc 81, 2, 0, 0, 511, (-1000000001), 0)]
theorem kX11_turn_11 : rf_ck MX11_turn 11 cX11_turn_11 = true := by decide +kernel
theorem qX11_turn_14 : rf_kc MX11_turn 14 65 491 yX11_error 0 = true := by decide +kernel
theorem eX11_turn_17 : rf_cki MX11_turn 17 .ireturn = true := by decide +kernel
def cX11_turn_18 : List rf_I := [(.aload_n 0, 1, 0, 0, 0, 0, 0), (.getfield 12, 3, 11, 0, 461, 0, 0), (.iload_n 1, 1, 1, 0, 0, 0, 0)]
theorem kX11_turn_18 : rf_ck MX11_turn 18 cX11_turn_18 = true := by decide +kernel
theorem qX11_turn_23 : rf_kc MX11_turn 23 333 1015 yX10_leastFine 0 = true := by decide +kernel
def cX11_turn_26 : List rf_I := [(.istore_n 2, 1, 2, 0, 0, 0, 0), (.iload_n 2, 1, 2, 0, 0, 0, 0)]
theorem kX11_turn_26 : rf_ck MX11_turn 26 cX11_turn_26 = true := by decide +kernel
theorem bX11_turn_28 : rf_ckb MX11_turn 28 (.ifCond .ge 12) 12 40 = true := by decide +kernel
def cX11_turn_31 : List rf_I := [(.aload_n 0, 1, 0, 0, 0, 0, 0), (.ldc 105, 2, 0, 0, 549, (-1000000002), 0)]
theorem kX11_turn_31 : rf_ck MX11_turn 31 cX11_turn_31 = true := by decide +kernel
theorem qX11_turn_34 : rf_kc MX11_turn 34 65 491 yX11_error 0 = true := by decide +kernel
theorem bX11_turn_37 : rf_ckb MX11_turn 37 (.goto 4) 4 41 = true := by decide +kernel
def cX11_turn_40 : List rf_I := [(.iload_n 2, 1, 2, 0, 0, 0, 0)]
theorem kX11_turn_40 : rf_ck MX11_turn 40 cX11_turn_40 = true := by decide +kernel
theorem eX11_turn_41 : rf_cki MX11_turn 41 .ireturn = true := by decide +kernel
abbrev MX11_gate : rf_M := (yX11_gate, cX11_gate, 3, (some (.int)))
theorem mkX11_gate : rf_mk MX11_gate 0 2 1027 72 1025 1026 = true := by decide +kernel
def cX11_gate_0 : List rf_I := [(.aload_n 0, 1, 0, 0, 0, 0, 0), (.iload_n 1, 1, 1, 0, 0, 0, 0)]
theorem kX11_gate_0 : rf_ck MX11_gate 0 cX11_gate_0 = true := by decide +kernel
theorem qX11_gate_2 : rf_kc MX11_gate 2 73 507 yX11_isStation 0 = true := by decide +kernel
theorem bX11_gate_5 : rf_ckb MX11_gate 5 (.ifCond .eq 14) 14 19 = true := by decide +kernel
def cX11_gate_8 : List rf_I := [(.iload_n 2, 1, 2, 0, 0, 0, 0), (.iconst 0, 1, 0, 0, 0, nI 0, 0), (.ldc_w 332, 3, 0, 0, 1014, nI 99999, 0)]
theorem kX11_gate_8 : rf_ck MX11_gate 8 cX11_gate_8 = true := by decide +kernel
theorem qX11_gate_13 : rf_kc MX11_gate 13 77 496 yX11_within 1 = true := by decide +kernel
theorem bX11_gate_16 : rf_ckb MX11_gate 16 (.ifCond .ne 10) 10 26 = true := by decide +kernel
def cX11_gate_19 : List rf_I := [(.aload_n 0, 1, 0, 0, 0, 0, 0), (.ldc 81, 2, 0, 0, 511, (-1000000001), 0)]
theorem kX11_gate_19 : rf_ck MX11_gate 19 cX11_gate_19 = true := by decide +kernel
theorem qX11_gate_22 : rf_kc MX11_gate 22 65 491 yX11_error 0 = true := by decide +kernel
theorem eX11_gate_25 : rf_cki MX11_gate 25 .ireturn = true := by decide +kernel
def cX11_gate_26 : List rf_I := [(.aload_n 0, 1, 0, 0, 0, 0, 0), (.getfield 12, 3, 11, 0, 461, 0, 0), (.iload_n 1, 1, 1, 0, 0, 0, 0)]
theorem kX11_gate_26 : rf_ck MX11_gate 26 cX11_gate_26 = true := by decide +kernel
theorem qX11_gate_31 : rf_kc MX11_gate 31 336 1028 yX10_fareMissedAt 0 = true := by decide +kernel
def cX11_gate_34 : List rf_I := [(.iload_n 2, 1, 2, 0, 0, 0, 0), (.isub, 1, 0, 0, 0, 0, 0)]
theorem kX11_gate_34 : rf_ck MX11_gate 34 cX11_gate_34 = true := by decide +kernel
theorem eX11_gate_36 : rf_cki MX11_gate 36 .ireturn = true := by decide +kernel
abbrev MX11_wrong : rf_M := (yX11_wrong, cX11_wrong, 3, (some (.long)))
theorem mkX11_wrong : rf_mk MX11_wrong 0 2 1036 72 1034 1035 = true := by decide +kernel
def cX11_wrong_0 : List rf_I := [(.iload_n 1, 1, 1, 0, 0, 0, 0), (.iconst 0, 1, 0, 0, 0, nI 0, 0), (.sipush 1000, 3, 0, 0, 0, nI 1000, 0)]
theorem kX11_wrong_0 : rf_ck MX11_wrong 0 cX11_wrong_0 = true := by decide +kernel
theorem qX11_wrong_5 : rf_kc MX11_wrong 5 77 496 yX11_within 1 = true := by decide +kernel
theorem bX11_wrong_8 : rf_ckb MX11_wrong 8 (.ifCond .eq 12) 12 20 = true := by decide +kernel
def cX11_wrong_11 : List rf_I := [(.iload_n 2, 1, 2, 0, 0, 0, 0), (.iconst 0, 1, 0, 0, 0, nI 0, 0), (.iconst 1, 1, 0, 0, 0, nI 1, 0)]
theorem kX11_wrong_11 : rf_ck MX11_wrong 11 cX11_wrong_11 = true := by decide +kernel
theorem qX11_wrong_14 : rf_kc MX11_wrong 14 77 496 yX11_within 1 = true := by decide +kernel
theorem bX11_wrong_17 : rf_ckb MX11_wrong 17 (.ifCond .ne 11) 11 28 = true := by decide +kernel
def cX11_wrong_20 : List rf_I := [(.aload_n 0, 1, 0, 0, 0, 0, 0), (.ldc 81, 2, 0, 0, 511, (-1000000001), 0)]
theorem kX11_wrong_20 : rf_ck MX11_wrong 20 cX11_wrong_20 = true := by decide +kernel
theorem qX11_wrong_23 : rf_kc MX11_wrong 23 65 491 yX11_error 0 = true := by decide +kernel
def cX11_wrong_26 : List rf_I := [(.i2l, 1, 0, 0, 0, 0, 0)]
theorem kX11_wrong_26 : rf_ck MX11_wrong 26 cX11_wrong_26 = true := by decide +kernel
theorem eX11_wrong_27 : rf_cki MX11_wrong 27 .lreturn = true := by decide +kernel
def cX11_wrong_28 : List rf_I := [(.iload_n 1, 1, 1, 0, 0, 0, 0), (.i2l, 1, 0, 0, 0, 0, 0), (.aload_n 0, 1, 0, 0, 0, 0, 0), (.getfield 12, 3, 11, 0, 461, 0, 0)]
theorem kX11_wrong_28 : rf_ck MX11_wrong 28 cX11_wrong_28 = true := by decide +kernel
theorem qX11_wrong_34 : rf_kc MX11_wrong 34 339 1037 yX10_payersLookedAt 0 = true := by decide +kernel
def cX11_wrong_37 : List rf_I := [(.i2l, 1, 0, 0, 0, 0, 0), (.lmul, 1, 0, 0, 0, 0, 0), (.ldc2_w 342, 3, 0, 0, 1041, 0, lN 1000), (.aload_n 0, 1, 0, 0, 0, 0, 0), (.getfield 12, 3, 11, 0, 461, 0, 0), (.getfield 133, 3, 10, 2, 333, 0, 0)]
theorem kX11_wrong_37 : rf_ck MX11_wrong 37 cX11_wrong_37 = true := by decide +kernel
theorem qX11_wrong_49 : rf_kc MX11_wrong 49 277 899 yX7_below 0 = true := by decide +kernel
def cX11_wrong_52 : List rf_I := [(.i2l, 1, 0, 0, 0, 0, 0), (.lmul, 1, 0, 0, 0, 0, 0), (.iload_n 2, 1, 2, 0, 0, 0, 0)]
theorem kX11_wrong_52 : rf_ck MX11_wrong 52 cX11_wrong_52 = true := by decide +kernel
theorem qX11_wrong_55 : rf_kc MX11_wrong 55 280 900 yX11_lowest 1 = true := by decide +kernel
theorem eX11_wrong_58 : rf_cki MX11_wrong 58 .lreturn = true := by decide +kernel
abbrev MX11_seen : rf_M := (yX11_seen, cX11_seen, 4, (some (.int)))
theorem mkX11_seen : rf_mk MX11_seen 0 2 1045 72 1043 1044 = true := by decide +kernel
def cX11_seen_0 : List rf_I := [(.aload_n 0, 1, 0, 0, 0, 0, 0), (.iload_n 1, 1, 1, 0, 0, 0, 0)]
theorem kX11_seen_0 : rf_ck MX11_seen 0 cX11_seen_0 = true := by decide +kernel
theorem qX11_seen_2 : rf_kc MX11_seen 2 112 562 yX11_isTrain 0 = true := by decide +kernel
theorem bX11_seen_5 : rf_ckb MX11_seen 5 (.ifCond .eq 13) 13 18 = true := by decide +kernel
def cX11_seen_8 : List rf_I := [(.iload_n 2, 1, 2, 0, 0, 0, 0), (.iconst 0, 1, 0, 0, 0, nI 0, 0), (.bipush 100, 2, 0, 0, 0, nI 100, 0)]
theorem kX11_seen_8 : rf_ck MX11_seen 8 cX11_seen_8 = true := by decide +kernel
theorem qX11_seen_12 : rf_kc MX11_seen 12 77 496 yX11_within 1 = true := by decide +kernel
theorem bX11_seen_15 : rf_ckb MX11_seen 15 (.ifCond .ne 10) 10 25 = true := by decide +kernel
def cX11_seen_18 : List rf_I := [(.aload_n 0, 1, 0, 0, 0, 0, 0), (.ldc 81, 2, 0, 0, 511, (-1000000001), 0)]
theorem kX11_seen_18 : rf_ck MX11_seen 18 cX11_seen_18 = true := by decide +kernel
theorem qX11_seen_21 : rf_kc MX11_seen 21 65 491 yX11_error 0 = true := by decide +kernel
theorem eX11_seen_24 : rf_cki MX11_seen 24 .ireturn = true := by decide +kernel
def cX11_seen_25 : List rf_I := [(.aload_n 0, 1, 0, 0, 0, 0, 0), (.getfield 12, 3, 11, 0, 461, 0, 0), (.getfield 133, 3, 10, 2, 333, 0, 0), (.iload_n 1, 1, 1, 0, 0, 0, 0), (.iload_n 2, 1, 2, 0, 0, 0, 0)]
theorem kX11_seen_25 : rf_ck MX11_seen 25 cX11_seen_25 = true := by decide +kernel
theorem qX11_seen_34 : rf_kc MX11_seen 34 344 1046 yX7_daysTillSeen 0 = true := by decide +kernel
def cX11_seen_37 : List rf_I := [(.istore_n 3, 1, 3, 0, 0, 0, 0), (.iload_n 3, 1, 3, 0, 0, 0, 0)]
theorem kX11_seen_37 : rf_ck MX11_seen 37 cX11_seen_37 = true := by decide +kernel
theorem bX11_seen_39 : rf_ckb MX11_seen 39 (.ifCond .ge 12) 12 51 = true := by decide +kernel
def cX11_seen_42 : List rf_I := [(.aload_n 0, 1, 0, 0, 0, 0, 0), (.ldc 105, 2, 0, 0, 549, (-1000000002), 0)]
theorem kX11_seen_42 : rf_ck MX11_seen 42 cX11_seen_42 = true := by decide +kernel
theorem qX11_seen_45 : rf_kc MX11_seen 45 65 491 yX11_error 0 = true := by decide +kernel
theorem bX11_seen_48 : rf_ckb MX11_seen 48 (.goto 4) 4 52 = true := by decide +kernel
def cX11_seen_51 : List rf_I := [(.iload_n 3, 1, 3, 0, 0, 0, 0)]
theorem kX11_seen_51 : rf_ck MX11_seen 51 cX11_seen_51 = true := by decide +kernel
theorem eX11_seen_52 : rf_cki MX11_seen 52 .ireturn = true := by decide +kernel
abbrev MX11_fair : rf_M := (yX11_fair, cX11_fair, 6, (some (.int)))
theorem mkX11_fair : rf_mk MX11_fair 0 1 1056 72 1054 1055 = true := by decide +kernel
def cX11_fair_0 : List rf_I := [(.iload_n 1, 1, 1, 0, 0, 0, 0), (.iconst 0, 1, 0, 0, 0, nI 0, 0), (.iconst 1, 1, 0, 0, 0, nI 1, 0)]
theorem kX11_fair_0 : rf_ck MX11_fair 0 cX11_fair_0 = true := by decide +kernel
theorem qX11_fair_3 : rf_kc MX11_fair 3 77 496 yX11_within 1 = true := by decide +kernel
theorem bX11_fair_6 : rf_ckb MX11_fair 6 (.ifCond .ne 10) 10 16 = true := by decide +kernel
def cX11_fair_9 : List rf_I := [(.aload_n 0, 1, 0, 0, 0, 0, 0), (.ldc 81, 2, 0, 0, 511, (-1000000001), 0)]
theorem kX11_fair_9 : rf_ck MX11_fair 9 cX11_fair_9 = true := by decide +kernel
theorem qX11_fair_12 : rf_kc MX11_fair 12 65 491 yX11_error 0 = true := by decide +kernel
theorem eX11_fair_15 : rf_cki MX11_fair 15 .ireturn = true := by decide +kernel
def cX11_fair_16 : List rf_I := [(.iconst (-1), 1, 0, 0, 0, (-1), 0), (.istore_n 2, 1, 2, 0, 0, 0, 0), (.iconst (-1), 1, 0, 0, 0, (-1), 0), (.istore_n 3, 1, 3, 0, 0, 0, 0), (.iconst 0, 1, 0, 0, 0, nI 0, 0), (.istore 4, 2, 4, 0, 0, 0, 0)]
theorem kX11_fair_16 : rf_ck MX11_fair 16 cX11_fair_16 = true := by decide +kernel
def cX11_fair_23 : List rf_I := [(.iload 4, 2, 4, 0, 0, 0, 0), (.aload_n 0, 1, 0, 0, 0, 0, 0), (.getfield 12, 3, 11, 0, 461, 0, 0), (.getfield 55, 3, 10, 0, 326, 0, 0), (.getfield 86, 3, 4, 1, 119, 0, 0)]
theorem kX11_fair_23 : rf_ck MX11_fair 23 cX11_fair_23 = true := by decide +kernel
theorem bX11_fair_35 : rf_ckb MX11_fair 35 (.if_icmp .ge 32) 32 67 = true := by decide +kernel
def cX11_fair_38 : List rf_I := [(.aload_n 0, 1, 0, 0, 0, 0, 0), (.getfield 12, 3, 11, 0, 461, 0, 0), (.iload 4, 2, 4, 0, 0, 0, 0)]
theorem kX11_fair_38 : rf_ck MX11_fair 38 cX11_fair_38 = true := by decide +kernel
theorem qX11_fair_44 : rf_kc MX11_fair 44 347 1057 yX10_unpaidOfHundred 0 = true := by decide +kernel
def cX11_fair_47 : List rf_I := [(.istore 5, 2, 5, 0, 0, 0, 0), (.iload 5, 2, 5, 0, 0, 0, 0), (.iload_n 3, 1, 3, 0, 0, 0, 0)]
theorem kX11_fair_47 : rf_ck MX11_fair 47 cX11_fair_47 = true := by decide +kernel
theorem bX11_fair_52 : rf_ckb MX11_fair 52 (.if_icmp .le 9) 9 61 = true := by decide +kernel
def cX11_fair_55 : List rf_I := [(.iload 4, 2, 4, 0, 0, 0, 0), (.istore_n 2, 1, 2, 0, 0, 0, 0), (.iload 5, 2, 5, 0, 0, 0, 0), (.istore_n 3, 1, 3, 0, 0, 0, 0)]
theorem kX11_fair_55 : rf_ck MX11_fair 55 cX11_fair_55 = true := by decide +kernel
def cX11_fair_61 : List rf_I := [(.iinc 4 1, 3, 4, 0, 0, nI 1, 0)]
theorem kX11_fair_61 : rf_ck MX11_fair 61 cX11_fair_61 = true := by decide +kernel
theorem bX11_fair_64 : rf_ckb MX11_fair 64 (.goto (-41)) (-41) 23 = true := by decide +kernel
def cX11_fair_67 : List rf_I := [(.iload_n 2, 1, 2, 0, 0, 0, 0)]
theorem kX11_fair_67 : rf_ck MX11_fair 67 cX11_fair_67 = true := by decide +kernel
theorem bX11_fair_68 : rf_ckb MX11_fair 68 (.ifCond .ge 10) 10 78 = true := by decide +kernel
def cX11_fair_71 : List rf_I := [(.aload_n 0, 1, 0, 0, 0, 0, 0), (.ldc 105, 2, 0, 0, 549, (-1000000002), 0)]
theorem kX11_fair_71 : rf_ck MX11_fair 71 cX11_fair_71 = true := by decide +kernel
theorem qX11_fair_74 : rf_kc MX11_fair 74 65 491 yX11_error 0 = true := by decide +kernel
theorem eX11_fair_77 : rf_cki MX11_fair 77 .ireturn = true := by decide +kernel
def cX11_fair_78 : List rf_I := [(.iload_n 1, 1, 1, 0, 0, 0, 0)]
theorem kX11_fair_78 : rf_ck MX11_fair 78 cX11_fair_78 = true := by decide +kernel
theorem bX11_fair_79 : rf_ckb MX11_fair 79 (.ifCond .ne 7) 7 86 = true := by decide +kernel
def cX11_fair_82 : List rf_I := [(.iload_n 2, 1, 2, 0, 0, 0, 0)]
theorem kX11_fair_82 : rf_ck MX11_fair 82 cX11_fair_82 = true := by decide +kernel
theorem bX11_fair_83 : rf_ckb MX11_fair 83 (.goto 4) 4 87 = true := by decide +kernel
def cX11_fair_86 : List rf_I := [(.iload_n 3, 1, 3, 0, 0, 0, 0)]
theorem kX11_fair_86 : rf_ck MX11_fair 86 cX11_fair_86 = true := by decide +kernel
theorem eX11_fair_87 : rf_cki MX11_fair 87 .ireturn = true := by decide +kernel
abbrev MX11_seed : rf_M := (yX11_seed, cX11_seed, 3, (some (.int)))
theorem mkX11_seed : rf_mk MX11_seed 0 1 1064 72 1062 1063 = true := by decide +kernel
def cX11_seed_0 : List rf_I := [(.aload_n 0, 1, 0, 0, 0, 0, 0), (.getfield 12, 3, 11, 0, 461, 0, 0), (.getfield 268, 3, 10, 3, 335, 0, 0), (.getfield 350, 3, 1, 2, 259, 0, 0), (.istore_n 2, 1, 2, 0, 0, 0, 0), (.aload_n 0, 1, 0, 0, 0, 0, 0), (.getfield 12, 3, 11, 0, 461, 0, 0), (.getfield 268, 3, 10, 3, 335, 0, 0), (.iload_n 1, 1, 1, 0, 0, 0, 0), (.putfield 350, 3, 1, 2, 259, 0, 0), (.iload_n 2, 1, 2, 0, 0, 0, 0)]
theorem kX11_seed_0 : rf_ck MX11_seed 0 cX11_seed_0 = true := by decide +kernel
theorem eX11_seed_23 : rf_cki MX11_seed 23 .ireturn = true := by decide +kernel
abbrev MX11_voice : rf_M := (yX11_voice, cX11_voice, 4, (some (.int)))
theorem mkX11_voice : rf_mk MX11_voice 0 3 1068 72 1066 1067 = true := by decide +kernel
def cX11_voice_0 : List rf_I := [(.aload_n 0, 1, 0, 0, 0, 0, 0), (.iload_n 1, 1, 1, 0, 0, 0, 0)]
theorem kX11_voice_0 : rf_ck MX11_voice 0 cX11_voice_0 = true := by decide +kernel
theorem qX11_voice_2 : rf_kc MX11_voice 2 165 628 yX11_isGroup 0 = true := by decide +kernel
theorem bX11_voice_5 : rf_ckb MX11_voice 5 (.ifCond .eq 12) 12 17 = true := by decide +kernel
def cX11_voice_8 : List rf_I := [(.iload_n 2, 1, 2, 0, 0, 0, 0), (.iconst 0, 1, 0, 0, 0, nI 0, 0), (.iconst 3, 1, 0, 0, 0, nI 3, 0)]
theorem kX11_voice_8 : rf_ck MX11_voice 8 cX11_voice_8 = true := by decide +kernel
theorem qX11_voice_11 : rf_kc MX11_voice 11 77 496 yX11_within 1 = true := by decide +kernel
theorem bX11_voice_14 : rf_ckb MX11_voice 14 (.ifCond .ne 10) 10 24 = true := by decide +kernel
def cX11_voice_17 : List rf_I := [(.aload_n 0, 1, 0, 0, 0, 0, 0), (.ldc 81, 2, 0, 0, 511, (-1000000001), 0)]
theorem kX11_voice_17 : rf_ck MX11_voice 17 cX11_voice_17 = true := by decide +kernel
theorem qX11_voice_20 : rf_kc MX11_voice 20 65 491 yX11_error 0 = true := by decide +kernel
theorem eX11_voice_23 : rf_cki MX11_voice 23 .ireturn = true := by decide +kernel
def cX11_voice_24 : List rf_I := [(.aload_n 0, 1, 0, 0, 0, 0, 0), (.getfield 36, 3, 11, 4, 465, 0, 0), (.aload_n 0, 1, 0, 0, 0, 0, 0), (.getfield 12, 3, 11, 0, 461, 0, 0), (.getfield 152, 3, 10, 1, 330, 0, 0), (.iload_n 1, 1, 1, 0, 0, 0, 0), (.iload_n 2, 1, 2, 0, 0, 0, 0), (.iload_n 3, 1, 3, 0, 0, 0, 0)]
theorem kX11_voice_24 : rf_ck MX11_voice 24 cX11_voice_24 = true := by decide +kernel
theorem qX11_voice_38 : rf_kc MX11_voice 38 353 1069 yX9_hear 0 = true := by decide +kernel
theorem eX11_voice_41 : rf_cki MX11_voice 41 .ireturn = true := by decide +kernel
abbrev MX11_trace : rf_M := (yX11_trace, cX11_trace, 2, (some (.int)))
theorem mkX11_trace : rf_mk MX11_trace 0 1 1087 72 1085 1086 = true := by decide +kernel
def cX11_trace_0 : List rf_I := [(.iload_n 1, 1, 1, 0, 0, 0, 0), (.iconst 0, 1, 0, 0, 0, nI 0, 0), (.aload_n 0, 1, 0, 0, 0, 0, 0), (.getfield 36, 3, 11, 4, 465, 0, 0), (.getfield 357, 3, 9, 0, 423, 0, 0), (.iconst 1, 1, 0, 0, 0, nI 1, 0), (.isub, 1, 0, 0, 0, 0, 0)]
theorem kX11_trace_0 : rf_ck MX11_trace 0 cX11_trace_0 = true := by decide +kernel
theorem qX11_trace_11 : rf_kc MX11_trace 11 77 496 yX11_within 1 = true := by decide +kernel
theorem bX11_trace_14 : rf_ckb MX11_trace 14 (.ifCond .ne 10) 10 24 = true := by decide +kernel
def cX11_trace_17 : List rf_I := [(.aload_n 0, 1, 0, 0, 0, 0, 0), (.ldc 105, 2, 0, 0, 549, (-1000000002), 0)]
theorem kX11_trace_17 : rf_ck MX11_trace 17 cX11_trace_17 = true := by decide +kernel
theorem qX11_trace_20 : rf_kc MX11_trace 20 65 491 yX11_error 0 = true := by decide +kernel
theorem eX11_trace_23 : rf_cki MX11_trace 23 .ireturn = true := by decide +kernel
def cX11_trace_24 : List rf_I := [(.aload_n 0, 1, 0, 0, 0, 0, 0), (.getfield 36, 3, 11, 4, 465, 0, 0), (.getfield 360, 3, 9, 1, 425, 0, 0), (.iload_n 1, 1, 1, 0, 0, 0, 0), (.iaload, 1, 0, 0, 0, 0, 0)]
theorem kX11_trace_24 : rf_ck MX11_trace 24 cX11_trace_24 = true := by decide +kernel
theorem eX11_trace_33 : rf_cki MX11_trace 33 .ireturn = true := by decide +kernel
abbrev MX11_sheet : rf_M := (yX11_sheet, cX11_sheet, 4, (some (.int)))
theorem mkX11_sheet : rf_mk MX11_sheet 0 3 1091 72 1089 1090 = true := by decide +kernel
def cX11_sheet_0 : List rf_I := [(.aload_n 0, 1, 0, 0, 0, 0, 0), (.iload_n 1, 1, 1, 0, 0, 0, 0)]
theorem kX11_sheet_0 : rf_ck MX11_sheet 0 cX11_sheet_0 = true := by decide +kernel
theorem qX11_sheet_2 : rf_kc MX11_sheet 2 363 1092 yX11_isSheet 0 = true := by decide +kernel
theorem bX11_sheet_5 : rf_ckb MX11_sheet 5 (.ifCond .eq 25) 25 30 = true := by decide +kernel
def cX11_sheet_8 : List rf_I := [(.iload_n 2, 1, 2, 0, 0, 0, 0)]
theorem kX11_sheet_8 : rf_ck MX11_sheet 8 cX11_sheet_8 = true := by decide +kernel
theorem bX11_sheet_9 : rf_ckb MX11_sheet 9 (.ifCond .eq 28) 28 37 = true := by decide +kernel
def cX11_sheet_12 : List rf_I := [(.iload_n 2, 1, 2, 0, 0, 0, 0), (.bipush 8, 2, 0, 0, 0, nI 8, 0)]
theorem kX11_sheet_12 : rf_ck MX11_sheet 12 cX11_sheet_12 = true := by decide +kernel
theorem bX11_sheet_15 : rf_ckb MX11_sheet 15 (.if_icmp .eq 22) 22 37 = true := by decide +kernel
def cX11_sheet_18 : List rf_I := [(.iload_n 2, 1, 2, 0, 0, 0, 0), (.bipush 16, 2, 0, 0, 0, nI 16, 0)]
theorem kX11_sheet_18 : rf_ck MX11_sheet 18 cX11_sheet_18 = true := by decide +kernel
theorem bX11_sheet_21 : rf_ckb MX11_sheet 21 (.if_icmp .eq 16) 16 37 = true := by decide +kernel
def cX11_sheet_24 : List rf_I := [(.iload_n 2, 1, 2, 0, 0, 0, 0), (.bipush 32, 2, 0, 0, 0, nI 32, 0)]
theorem kX11_sheet_24 : rf_ck MX11_sheet 24 cX11_sheet_24 = true := by decide +kernel
theorem bX11_sheet_27 : rf_ckb MX11_sheet 27 (.if_icmp .eq 10) 10 37 = true := by decide +kernel
def cX11_sheet_30 : List rf_I := [(.aload_n 0, 1, 0, 0, 0, 0, 0), (.ldc 81, 2, 0, 0, 511, (-1000000001), 0)]
theorem kX11_sheet_30 : rf_ck MX11_sheet 30 cX11_sheet_30 = true := by decide +kernel
theorem qX11_sheet_33 : rf_kc MX11_sheet 33 65 491 yX11_error 0 = true := by decide +kernel
theorem eX11_sheet_36 : rf_cki MX11_sheet 36 .ireturn = true := by decide +kernel
def cX11_sheet_37 : List rf_I := [(.iload_n 2, 1, 2, 0, 0, 0, 0)]
theorem kX11_sheet_37 : rf_ck MX11_sheet 37 cX11_sheet_37 = true := by decide +kernel
theorem bX11_sheet_38 : rf_ckb MX11_sheet 38 (.ifCond .ne 14) 14 52 = true := by decide +kernel
def cX11_sheet_41 : List rf_I := [(.aload_n 0, 1, 0, 0, 0, 0, 0), (.getfield 43, 3, 11, 5, 466, 0, 0), (.iload_n 1, 1, 1, 0, 0, 0, 0), (.iconst 0, 1, 0, 0, 0, nI 0, 0), (.iconst 0, 1, 0, 0, 0, nI 0, 0)]
theorem kX11_sheet_41 : rf_ck MX11_sheet 41 cX11_sheet_41 = true := by decide +kernel
theorem qX11_sheet_48 : rf_kc MX11_sheet 48 366 1096 yX6_clear 0 = true := by decide +kernel
theorem eX11_sheet_51 : rf_cki MX11_sheet 51 .ireturn = true := by decide +kernel
def cX11_sheet_52 : List rf_I := [(.iload_n 3, 1, 3, 0, 0, 0, 0)]
theorem kX11_sheet_52 : rf_ck MX11_sheet 52 cX11_sheet_52 = true := by decide +kernel
theorem bX11_sheet_53 : rf_ckb MX11_sheet 53 (.ifCond .ge 10) 10 63 = true := by decide +kernel
def cX11_sheet_56 : List rf_I := [(.aload_n 0, 1, 0, 0, 0, 0, 0), (.ldc 253, 2, 0, 0, 874, (-1000000003), 0)]
theorem kX11_sheet_56 : rf_ck MX11_sheet 56 cX11_sheet_56 = true := by decide +kernel
theorem qX11_sheet_59 : rf_kc MX11_sheet 59 65 491 yX11_error 0 = true := by decide +kernel
theorem eX11_sheet_62 : rf_cki MX11_sheet 62 .ireturn = true := by decide +kernel
def cX11_sheet_63 : List rf_I := [(.iload_n 3, 1, 3, 0, 0, 0, 0), (.bipush 40, 2, 0, 0, 0, nI 40, 0)]
theorem kX11_sheet_63 : rf_ck MX11_sheet 63 cX11_sheet_63 = true := by decide +kernel
theorem bX11_sheet_66 : rf_ckb MX11_sheet 66 (.if_icmp .le 10) 10 76 = true := by decide +kernel
def cX11_sheet_69 : List rf_I := [(.aload_n 0, 1, 0, 0, 0, 0, 0), (.ldc 81, 2, 0, 0, 511, (-1000000001), 0)]
theorem kX11_sheet_69 : rf_ck MX11_sheet 69 cX11_sheet_69 = true := by decide +kernel
theorem qX11_sheet_72 : rf_kc MX11_sheet 72 65 491 yX11_error 0 = true := by decide +kernel
theorem eX11_sheet_75 : rf_cki MX11_sheet 75 .ireturn = true := by decide +kernel
def cX11_sheet_76 : List rf_I := [(.aload_n 0, 1, 0, 0, 0, 0, 0), (.getfield 43, 3, 11, 5, 466, 0, 0), (.iload_n 1, 1, 1, 0, 0, 0, 0), (.iload_n 2, 1, 2, 0, 0, 0, 0), (.iload_n 3, 1, 3, 0, 0, 0, 0)]
theorem kX11_sheet_76 : rf_ck MX11_sheet 76 cX11_sheet_76 = true := by decide +kernel
theorem qX11_sheet_83 : rf_kc MX11_sheet 83 366 1096 yX6_clear 0 = true := by decide +kernel
theorem eX11_sheet_86 : rf_cki MX11_sheet 86 .ireturn = true := by decide +kernel
abbrev MX11_put : rf_M := (yX11_put, cX11_put, 4, (some (.int)))
theorem mkX11_put : rf_mk MX11_put 0 3 1104 72 1102 1103 = true := by decide +kernel
def cX11_put_0 : List rf_I := [(.aload_n 0, 1, 0, 0, 0, 0, 0), (.iload_n 1, 1, 1, 0, 0, 0, 0)]
theorem kX11_put_0 : rf_ck MX11_put 0 cX11_put_0 = true := by decide +kernel
theorem qX11_put_2 : rf_kc MX11_put 2 363 1092 yX11_isSheet 0 = true := by decide +kernel
theorem bX11_put_5 : rf_ckb MX11_put 5 (.ifCond .ne 10) 10 15 = true := by decide +kernel
def cX11_put_8 : List rf_I := [(.aload_n 0, 1, 0, 0, 0, 0, 0), (.ldc 81, 2, 0, 0, 511, (-1000000001), 0)]
theorem kX11_put_8 : rf_ck MX11_put 8 cX11_put_8 = true := by decide +kernel
theorem qX11_put_11 : rf_kc MX11_put 11 65 491 yX11_error 0 = true := by decide +kernel
theorem eX11_put_14 : rf_cki MX11_put 14 .ireturn = true := by decide +kernel
def cX11_put_15 : List rf_I := [(.aload_n 0, 1, 0, 0, 0, 0, 0), (.getfield 43, 3, 11, 5, 466, 0, 0), (.getfield 369, 3, 6, 0, 449, 0, 0), (.iload_n 1, 1, 1, 0, 0, 0, 0), (.iaload, 1, 0, 0, 0, 0, 0)]
theorem kX11_put_15 : rf_ck MX11_put 15 cX11_put_15 = true := by decide +kernel
theorem bX11_put_24 : rf_ckb MX11_put 24 (.ifCond .ne 10) 10 34 = true := by decide +kernel
def cX11_put_27 : List rf_I := [(.aload_n 0, 1, 0, 0, 0, 0, 0), (.ldc 105, 2, 0, 0, 549, (-1000000002), 0)]
theorem kX11_put_27 : rf_ck MX11_put 27 cX11_put_27 = true := by decide +kernel
theorem qX11_put_30 : rf_kc MX11_put 30 65 491 yX11_error 0 = true := by decide +kernel
theorem eX11_put_33 : rf_cki MX11_put 33 .ireturn = true := by decide +kernel
def cX11_put_34 : List rf_I := [(.iload_n 2, 1, 2, 0, 0, 0, 0), (.iconst 0, 1, 0, 0, 0, nI 0, 0), (.aload_n 0, 1, 0, 0, 0, 0, 0), (.getfield 43, 3, 11, 5, 466, 0, 0), (.getfield 372, 3, 6, 1, 451, 0, 0), (.iload_n 1, 1, 1, 0, 0, 0, 0), (.iaload, 1, 0, 0, 0, 0, 0), (.iconst 1, 1, 0, 0, 0, nI 1, 0), (.isub, 1, 0, 0, 0, 0, 0)]
theorem kX11_put_34 : rf_ck MX11_put 34 cX11_put_34 = true := by decide +kernel
theorem qX11_put_47 : rf_kc MX11_put 47 77 496 yX11_within 1 = true := by decide +kernel
theorem bX11_put_50 : rf_ckb MX11_put 50 (.ifCond .ne 10) 10 60 = true := by decide +kernel
def cX11_put_53 : List rf_I := [(.aload_n 0, 1, 0, 0, 0, 0, 0), (.ldc 81, 2, 0, 0, 511, (-1000000001), 0)]
theorem kX11_put_53 : rf_ck MX11_put 53 cX11_put_53 = true := by decide +kernel
theorem qX11_put_56 : rf_kc MX11_put 56 65 491 yX11_error 0 = true := by decide +kernel
theorem eX11_put_59 : rf_cki MX11_put 59 .ireturn = true := by decide +kernel
def cX11_put_60 : List rf_I := [(.aload_n 0, 1, 0, 0, 0, 0, 0), (.getfield 43, 3, 11, 5, 466, 0, 0), (.getfield 373, 3, 6, 2, 453, 0, 0), (.iload_n 1, 1, 1, 0, 0, 0, 0), (.aaload, 1, 0, 0, 0, 0, 0), (.iload_n 2, 1, 2, 0, 0, 0, 0), (.aload_n 0, 1, 0, 0, 0, 0, 0), (.getfield 43, 3, 11, 5, 466, 0, 0), (.iload_n 1, 1, 1, 0, 0, 0, 0), (.iload_n 3, 1, 3, 0, 0, 0, 0)]
theorem kX11_put_60 : rf_ck MX11_put 60 cX11_put_60 = true := by decide +kernel
theorem qX11_put_76 : rf_kc MX11_put 76 377 1105 yX6_cut 0 = true := by decide +kernel
def cX11_put_79 : List rf_I := [(.iastore, 1, 0, 0, 0, 0, 0), (.iconst 1, 1, 0, 0, 0, nI 1, 0)]
theorem kX11_put_79 : rf_ck MX11_put 79 cX11_put_79 = true := by decide +kernel
theorem eX11_put_81 : rf_cki MX11_put 81 .ireturn = true := by decide +kernel
abbrev MX11_move : rf_M := (yX11_move, cX11_move, 6, (some (.int)))
theorem mkX11_move : rf_mk MX11_move 0 5 1112 72 1110 1111 = true := by decide +kernel
def cX11_move_0 : List rf_I := [(.aload_n 0, 1, 0, 0, 0, 0, 0), (.iload_n 1, 1, 1, 0, 0, 0, 0)]
theorem kX11_move_0 : rf_ck MX11_move 0 cX11_move_0 = true := by decide +kernel
theorem qX11_move_2 : rf_kc MX11_move 2 363 1092 yX11_isSheet 0 = true := by decide +kernel
theorem bX11_move_5 : rf_ckb MX11_move 5 (.ifCond .eq 11) 11 16 = true := by decide +kernel
def cX11_move_8 : List rf_I := [(.aload_n 0, 1, 0, 0, 0, 0, 0), (.iload_n 3, 1, 3, 0, 0, 0, 0)]
theorem kX11_move_8 : rf_ck MX11_move 8 cX11_move_8 = true := by decide +kernel
theorem qX11_move_10 : rf_kc MX11_move 10 363 1092 yX11_isSheet 0 = true := by decide +kernel
theorem bX11_move_13 : rf_ckb MX11_move 13 (.ifCond .ne 10) 10 23 = true := by decide +kernel
def cX11_move_16 : List rf_I := [(.aload_n 0, 1, 0, 0, 0, 0, 0), (.ldc 81, 2, 0, 0, 511, (-1000000001), 0)]
theorem kX11_move_16 : rf_ck MX11_move 16 cX11_move_16 = true := by decide +kernel
theorem qX11_move_19 : rf_kc MX11_move 19 65 491 yX11_error 0 = true := by decide +kernel
theorem eX11_move_22 : rf_cki MX11_move 22 .ireturn = true := by decide +kernel
def cX11_move_23 : List rf_I := [(.aload_n 0, 1, 0, 0, 0, 0, 0), (.getfield 43, 3, 11, 5, 466, 0, 0), (.getfield 369, 3, 6, 0, 449, 0, 0), (.iload_n 1, 1, 1, 0, 0, 0, 0), (.iaload, 1, 0, 0, 0, 0, 0)]
theorem kX11_move_23 : rf_ck MX11_move 23 cX11_move_23 = true := by decide +kernel
theorem bX11_move_32 : rf_ckb MX11_move 32 (.ifCond .eq 15) 15 47 = true := by decide +kernel
def cX11_move_35 : List rf_I := [(.aload_n 0, 1, 0, 0, 0, 0, 0), (.getfield 43, 3, 11, 5, 466, 0, 0), (.getfield 369, 3, 6, 0, 449, 0, 0), (.iload_n 3, 1, 3, 0, 0, 0, 0), (.iaload, 1, 0, 0, 0, 0, 0)]
theorem kX11_move_35 : rf_ck MX11_move 35 cX11_move_35 = true := by decide +kernel
theorem bX11_move_44 : rf_ckb MX11_move 44 (.ifCond .ne 10) 10 54 = true := by decide +kernel
def cX11_move_47 : List rf_I := [(.aload_n 0, 1, 0, 0, 0, 0, 0), (.ldc 105, 2, 0, 0, 549, (-1000000002), 0)]
theorem kX11_move_47 : rf_ck MX11_move 47 cX11_move_47 = true := by decide +kernel
theorem qX11_move_50 : rf_kc MX11_move 50 65 491 yX11_error 0 = true := by decide +kernel
theorem eX11_move_53 : rf_cki MX11_move 53 .ireturn = true := by decide +kernel
def cX11_move_54 : List rf_I := [(.aload_n 0, 1, 0, 0, 0, 0, 0), (.getfield 43, 3, 11, 5, 466, 0, 0), (.getfield 369, 3, 6, 0, 449, 0, 0), (.iload_n 1, 1, 1, 0, 0, 0, 0), (.iaload, 1, 0, 0, 0, 0, 0), (.aload_n 0, 1, 0, 0, 0, 0, 0), (.getfield 43, 3, 11, 5, 466, 0, 0), (.getfield 369, 3, 6, 0, 449, 0, 0), (.iload_n 3, 1, 3, 0, 0, 0, 0), (.iaload, 1, 0, 0, 0, 0, 0)]
theorem kX11_move_54 : rf_ck MX11_move 54 cX11_move_54 = true := by decide +kernel
theorem bX11_move_72 : rf_ckb MX11_move 72 (.if_icmp .eq 10) 10 82 = true := by decide +kernel
def cX11_move_75 : List rf_I := [(.aload_n 0, 1, 0, 0, 0, 0, 0), (.ldc 196, 2, 0, 0, 682, (-1000000005), 0)]
theorem kX11_move_75 : rf_ck MX11_move 75 cX11_move_75 = true := by decide +kernel
theorem qX11_move_78 : rf_kc MX11_move 78 65 491 yX11_error 0 = true := by decide +kernel
theorem eX11_move_81 : rf_cki MX11_move 81 .ireturn = true := by decide +kernel
def cX11_move_82 : List rf_I := [(.iload 5, 2, 5, 0, 0, 0, 0)]
theorem kX11_move_82 : rf_ck MX11_move 82 cX11_move_82 = true := by decide +kernel
theorem bX11_move_84 : rf_ckb MX11_move 84 (.ifCond .lt 44) 44 128 = true := by decide +kernel
def cX11_move_87 : List rf_I := [(.iload_n 2, 1, 2, 0, 0, 0, 0), (.iconst 0, 1, 0, 0, 0, nI 0, 0), (.aload_n 0, 1, 0, 0, 0, 0, 0), (.getfield 43, 3, 11, 5, 466, 0, 0), (.getfield 372, 3, 6, 1, 451, 0, 0), (.iload_n 1, 1, 1, 0, 0, 0, 0), (.iaload, 1, 0, 0, 0, 0, 0), (.iload 5, 2, 5, 0, 0, 0, 0), (.isub, 1, 0, 0, 0, 0, 0)]
theorem kX11_move_87 : rf_ck MX11_move 87 cX11_move_87 = true := by decide +kernel
theorem qX11_move_101 : rf_kc MX11_move 101 77 496 yX11_within 1 = true := by decide +kernel
theorem bX11_move_104 : rf_ckb MX11_move 104 (.ifCond .eq 24) 24 128 = true := by decide +kernel
def cX11_move_107 : List rf_I := [(.iload 4, 2, 4, 0, 0, 0, 0), (.iconst 0, 1, 0, 0, 0, nI 0, 0), (.aload_n 0, 1, 0, 0, 0, 0, 0), (.getfield 43, 3, 11, 5, 466, 0, 0), (.getfield 372, 3, 6, 1, 451, 0, 0), (.iload_n 3, 1, 3, 0, 0, 0, 0), (.iaload, 1, 0, 0, 0, 0, 0), (.iload 5, 2, 5, 0, 0, 0, 0), (.isub, 1, 0, 0, 0, 0, 0)]
theorem kX11_move_107 : rf_ck MX11_move 107 cX11_move_107 = true := by decide +kernel
theorem qX11_move_122 : rf_kc MX11_move 122 77 496 yX11_within 1 = true := by decide +kernel
theorem bX11_move_125 : rf_ckb MX11_move 125 (.ifCond .ne 10) 10 135 = true := by decide +kernel
def cX11_move_128 : List rf_I := [(.aload_n 0, 1, 0, 0, 0, 0, 0), (.ldc 81, 2, 0, 0, 511, (-1000000001), 0)]
theorem kX11_move_128 : rf_ck MX11_move 128 cX11_move_128 = true := by decide +kernel
theorem qX11_move_131 : rf_kc MX11_move 131 65 491 yX11_error 0 = true := by decide +kernel
theorem eX11_move_134 : rf_cki MX11_move 134 .ireturn = true := by decide +kernel
def cX11_move_135 : List rf_I := [(.aload_n 0, 1, 0, 0, 0, 0, 0), (.getfield 43, 3, 11, 5, 466, 0, 0), (.getfield 373, 3, 6, 2, 453, 0, 0), (.iload_n 1, 1, 1, 0, 0, 0, 0), (.aaload, 1, 0, 0, 0, 0, 0), (.iload_n 2, 1, 2, 0, 0, 0, 0), (.aload_n 0, 1, 0, 0, 0, 0, 0), (.getfield 43, 3, 11, 5, 466, 0, 0), (.getfield 373, 3, 6, 2, 453, 0, 0), (.iload_n 3, 1, 3, 0, 0, 0, 0), (.aaload, 1, 0, 0, 0, 0, 0), (.iload 4, 2, 4, 0, 0, 0, 0), (.iload 5, 2, 5, 0, 0, 0, 0), (.invokestatic 380, 3, 2, 0, 835, 0, 0), (.iload 5, 2, 5, 0, 0, 0, 0)]
theorem kX11_move_135 : rf_ck MX11_move 135 cX11_move_135 = true := by decide +kernel
theorem eX11_move_163 : rf_cki MX11_move 163 .ireturn = true := by decide +kernel
abbrev MX11_groups : rf_M := (yX11_groups, cX11_groups, 5, (some (.int)))
theorem mkX11_groups : rf_mk MX11_groups 0 1 1116 72 1114 1115 = true := by decide +kernel
def cX11_groups_0 : List rf_I := [(.aload_n 0, 1, 0, 0, 0, 0, 0), (.iload_n 1, 1, 1, 0, 0, 0, 0)]
theorem kX11_groups_0 : rf_ck MX11_groups 0 cX11_groups_0 = true := by decide +kernel
theorem qX11_groups_2 : rf_kc MX11_groups 2 363 1092 yX11_isSheet 0 = true := by decide +kernel
theorem bX11_groups_5 : rf_ckb MX11_groups 5 (.ifCond .ne 10) 10 15 = true := by decide +kernel
def cX11_groups_8 : List rf_I := [(.aload_n 0, 1, 0, 0, 0, 0, 0), (.ldc 81, 2, 0, 0, 511, (-1000000001), 0)]
theorem kX11_groups_8 : rf_ck MX11_groups 8 cX11_groups_8 = true := by decide +kernel
theorem qX11_groups_11 : rf_kc MX11_groups 11 65 491 yX11_error 0 = true := by decide +kernel
theorem eX11_groups_14 : rf_cki MX11_groups 14 .ireturn = true := by decide +kernel
def cX11_groups_15 : List rf_I := [(.aload_n 0, 1, 0, 0, 0, 0, 0), (.getfield 43, 3, 11, 5, 466, 0, 0), (.getfield 369, 3, 6, 0, 449, 0, 0), (.iload_n 1, 1, 1, 0, 0, 0, 0), (.iaload, 1, 0, 0, 0, 0, 0)]
theorem kX11_groups_15 : rf_ck MX11_groups 15 cX11_groups_15 = true := by decide +kernel
theorem bX11_groups_24 : rf_ckb MX11_groups 24 (.ifCond .ne 10) 10 34 = true := by decide +kernel
def cX11_groups_27 : List rf_I := [(.aload_n 0, 1, 0, 0, 0, 0, 0), (.ldc 105, 2, 0, 0, 549, (-1000000002), 0)]
theorem kX11_groups_27 : rf_ck MX11_groups 27 cX11_groups_27 = true := by decide +kernel
theorem qX11_groups_30 : rf_kc MX11_groups 30 65 491 yX11_error 0 = true := by decide +kernel
theorem eX11_groups_33 : rf_cki MX11_groups 33 .ireturn = true := by decide +kernel
def cX11_groups_34 : List rf_I := [(.aload_n 0, 1, 0, 0, 0, 0, 0), (.getfield 43, 3, 11, 5, 466, 0, 0), (.getfield 373, 3, 6, 2, 453, 0, 0), (.iload_n 1, 1, 1, 0, 0, 0, 0), (.aaload, 1, 0, 0, 0, 0, 0), (.astore_n 2, 1, 2, 0, 0, 0, 0), (.iconst 0, 1, 0, 0, 0, nI 0, 0), (.istore_n 3, 1, 3, 0, 0, 0, 0), (.iconst 0, 1, 0, 0, 0, nI 0, 0), (.istore 4, 2, 4, 0, 0, 0, 0)]
theorem kX11_groups_34 : rf_ck MX11_groups 34 cX11_groups_34 = true := by decide +kernel
def cX11_groups_49 : List rf_I := [(.iload 4, 2, 4, 0, 0, 0, 0), (.iconst 4, 1, 0, 0, 0, nI 4, 0), (.iadd, 1, 0, 0, 0, 0, 0), (.aload_n 0, 1, 0, 0, 0, 0, 0), (.getfield 43, 3, 11, 5, 466, 0, 0), (.getfield 372, 3, 6, 1, 451, 0, 0), (.iload_n 1, 1, 1, 0, 0, 0, 0), (.iaload, 1, 0, 0, 0, 0, 0)]
theorem kX11_groups_49 : rf_ck MX11_groups 49 cX11_groups_49 = true := by decide +kernel
theorem bX11_groups_62 : rf_ckb MX11_groups 62 (.if_icmp .gt 92) 92 154 = true := by decide +kernel
def cX11_groups_65 : List rf_I := [(.aload_n 0, 1, 0, 0, 0, 0, 0), (.getfield 12, 3, 11, 0, 461, 0, 0), (.getfield 152, 3, 10, 1, 330, 0, 0), (.getfield 156, 3, 3, 0, 167, 0, 0), (.bipush 16, 2, 0, 0, 0, nI 16, 0)]
theorem kX11_groups_65 : rf_ck MX11_groups 65 cX11_groups_65 = true := by decide +kernel
theorem bX11_groups_77 : rf_ckb MX11_groups 77 (.if_icmp .ge 77) 77 154 = true := by decide +kernel
def cX11_groups_80 : List rf_I := [(.aload_n 0, 1, 0, 0, 0, 0, 0), (.aload_n 2, 1, 2, 0, 0, 0, 0), (.iload 4, 2, 4, 0, 0, 0, 0), (.iaload, 1, 0, 0, 0, 0, 0), (.aload_n 2, 1, 2, 0, 0, 0, 0), (.iload 4, 2, 4, 0, 0, 0, 0), (.iconst 1, 1, 0, 0, 0, nI 1, 0), (.iadd, 1, 0, 0, 0, 0, 0), (.iaload, 1, 0, 0, 0, 0, 0), (.aload_n 2, 1, 2, 0, 0, 0, 0), (.iload 4, 2, 4, 0, 0, 0, 0), (.iconst 2, 1, 0, 0, 0, nI 2, 0), (.iadd, 1, 0, 0, 0, 0, 0), (.iaload, 1, 0, 0, 0, 0, 0), (.aload_n 2, 1, 2, 0, 0, 0, 0), (.iload 4, 2, 4, 0, 0, 0, 0), (.iconst 3, 1, 0, 0, 0, nI 3, 0), (.iadd, 1, 0, 0, 0, 0, 0), (.iaload, 1, 0, 0, 0, 0, 0)]
theorem kX11_groups_80 : rf_ck MX11_groups 80 cX11_groups_80 = true := by decide +kernel
theorem qX11_groups_103 : rf_kc MX11_groups 103 148 605 yX11_isGroupTold 0 = true := by decide +kernel
theorem bX11_groups_106 : rf_ckb MX11_groups 106 (.ifCond .ne 6) 6 112 = true := by decide +kernel
theorem bX11_groups_109 : rf_ckb MX11_groups 109 (.goto 45) 45 154 = true := by decide +kernel
def cX11_groups_112 : List rf_I := [(.aload_n 0, 1, 0, 0, 0, 0, 0), (.getfield 12, 3, 11, 0, 461, 0, 0), (.getfield 152, 3, 10, 1, 330, 0, 0), (.aload_n 2, 1, 2, 0, 0, 0, 0), (.iload 4, 2, 4, 0, 0, 0, 0), (.iaload, 1, 0, 0, 0, 0, 0), (.aload_n 2, 1, 2, 0, 0, 0, 0), (.iload 4, 2, 4, 0, 0, 0, 0), (.iconst 1, 1, 0, 0, 0, nI 1, 0), (.iadd, 1, 0, 0, 0, 0, 0), (.iaload, 1, 0, 0, 0, 0, 0), (.aload_n 2, 1, 2, 0, 0, 0, 0), (.iload 4, 2, 4, 0, 0, 0, 0), (.iconst 2, 1, 0, 0, 0, nI 2, 0), (.iadd, 1, 0, 0, 0, 0, 0), (.iaload, 1, 0, 0, 0, 0, 0), (.aload_n 2, 1, 2, 0, 0, 0, 0), (.iload 4, 2, 4, 0, 0, 0, 0), (.iconst 3, 1, 0, 0, 0, nI 3, 0), (.iadd, 1, 0, 0, 0, 0, 0), (.iaload, 1, 0, 0, 0, 0, 0)]
theorem kX11_groups_112 : rf_ck MX11_groups 112 cX11_groups_112 = true := by decide +kernel
theorem qX11_groups_141 : rf_kc MX11_groups 141 161 612 yX3_addGroup 0 = true := by decide +kernel
def cX11_groups_144 : List rf_I := [(.pop, 1, 0, 0, 0, 0, 0), (.iinc 3 1, 3, 3, 0, 0, nI 1, 0), (.iinc 4 4, 3, 4, 0, 0, nI 4, 0)]
theorem kX11_groups_144 : rf_ck MX11_groups 144 cX11_groups_144 = true := by decide +kernel
theorem bX11_groups_151 : rf_ckb MX11_groups 151 (.goto (-102)) (-102) 49 = true := by decide +kernel
def cX11_groups_154 : List rf_I := [(.iload_n 3, 1, 3, 0, 0, 0, 0)]
theorem kX11_groups_154 : rf_ck MX11_groups 154 cX11_groups_154 = true := by decide +kernel
theorem eX11_groups_155 : rf_cki MX11_groups 155 .ireturn = true := by decide +kernel
abbrev MX11_image : rf_M := (yX11_image, cX11_image, 1, (some (.int)))
theorem mkX11_image : rf_mk MX11_image 0 0 1120 72 1118 1119 = true := by decide +kernel
def cX11_image_0 : List rf_I := [(.aload_n 0, 1, 0, 0, 0, 0, 0), (.getfield 16, 3, 11, 1, 462, 0, 0), (.aload_n 0, 1, 0, 0, 0, 0, 0), (.getfield 12, 3, 11, 0, 461, 0, 0)]
theorem kX11_image_0 : rf_ck MX11_image 0 cX11_image_0 = true := by decide +kernel
theorem qX11_image_8 : rf_kc MX11_image 8 386 1121 yX10_copyFrom 0 = true := by decide +kernel
def cX11_image_11 : List rf_I := [(.aload_n 0, 1, 0, 0, 0, 0, 0), (.dup, 1, 0, 0, 0, 0, 0), (.getfield 51, 3, 11, 7, 468, 0, 0), (.iconst 1, 1, 0, 0, 0, nI 1, 0), (.iadd, 1, 0, 0, 0, 0, 0), (.putfield 51, 3, 11, 7, 468, 0, 0), (.aload_n 0, 1, 0, 0, 0, 0, 0), (.getfield 51, 3, 11, 7, 468, 0, 0)]
theorem kX11_image_11 : rf_ck MX11_image 11 cX11_image_11 = true := by decide +kernel
theorem eX11_image_25 : rf_cki MX11_image 25 .ireturn = true := by decide +kernel
abbrev MX11_restore : rf_M := (yX11_restore, cX11_restore, 1, (some (.int)))
theorem mkX11_restore : rf_mk MX11_restore 0 0 1153 72 1151 1152 = true := by decide +kernel
def cX11_restore_0 : List rf_I := [(.aload_n 0, 1, 0, 0, 0, 0, 0), (.getfield 51, 3, 11, 7, 468, 0, 0)]
theorem kX11_restore_0 : rf_ck MX11_restore 0 cX11_restore_0 = true := by decide +kernel
theorem bX11_restore_4 : rf_ckb MX11_restore 4 (.ifCond .ne 10) 10 14 = true := by decide +kernel
def cX11_restore_7 : List rf_I := [(.aload_n 0, 1, 0, 0, 0, 0, 0), (.ldc 105, 2, 0, 0, 549, (-1000000002), 0)]
theorem kX11_restore_7 : rf_ck MX11_restore 7 cX11_restore_7 = true := by decide +kernel
theorem qX11_restore_10 : rf_kc MX11_restore 10 65 491 yX11_error 0 = true := by decide +kernel
theorem eX11_restore_13 : rf_cki MX11_restore 13 .ireturn = true := by decide +kernel
def cX11_restore_14 : List rf_I := [(.aload_n 0, 1, 0, 0, 0, 0, 0), (.getfield 12, 3, 11, 0, 461, 0, 0), (.aload_n 0, 1, 0, 0, 0, 0, 0), (.getfield 16, 3, 11, 1, 462, 0, 0)]
theorem kX11_restore_14 : rf_ck MX11_restore 14 cX11_restore_14 = true := by decide +kernel
theorem qX11_restore_22 : rf_kc MX11_restore 22 386 1121 yX10_copyFrom 0 = true := by decide +kernel
def cX11_restore_25 : List rf_I := [(.aload_n 0, 1, 0, 0, 0, 0, 0), (.getfield 12, 3, 11, 0, 461, 0, 0), (.getfield 268, 3, 10, 3, 335, 0, 0), (.getfield 305, 3, 1, 0, 254, 0, 0)]
theorem kX11_restore_25 : rf_ck MX11_restore 25 cX11_restore_25 = true := by decide +kernel
theorem eX11_restore_35 : rf_cki MX11_restore 35 .ireturn = true := by decide +kernel
abbrev MX11_tell : rf_M := (yX11_tell, cX11_tell, 2, (some (.int)))
theorem mkX11_tell : rf_mk MX11_tell 0 1 1157 72 1155 1156 = true := by decide +kernel
def cX11_tell_0 : List rf_I := [(.aload_n 0, 1, 0, 0, 0, 0, 0), (.getfield 12, 3, 11, 0, 461, 0, 0), (.getfield 209, 3, 10, 4, 337, 0, 0), (.getfield 389, 3, 0, 1, 293, 0, 0), (.bipush 20, 2, 0, 0, 0, nI 20, 0)]
theorem kX11_tell_0 : rf_ck MX11_tell 0 cX11_tell_0 = true := by decide +kernel
theorem bX11_tell_12 : rf_ckb MX11_tell 12 (.if_icmp .lt 10) 10 22 = true := by decide +kernel
def cX11_tell_15 : List rf_I := [(.aload_n 0, 1, 0, 0, 0, 0, 0), (.ldc 64, 2, 0, 0, 490, (-1000000004), 0)]
theorem kX11_tell_15 : rf_ck MX11_tell 15 cX11_tell_15 = true := by decide +kernel
theorem qX11_tell_18 : rf_kc MX11_tell 18 65 491 yX11_error 0 = true := by decide +kernel
theorem eX11_tell_21 : rf_cki MX11_tell 21 .ireturn = true := by decide +kernel
def cX11_tell_22 : List rf_I := [(.aload_n 0, 1, 0, 0, 0, 0, 0), (.getfield 12, 3, 11, 0, 461, 0, 0), (.getfield 209, 3, 10, 4, 337, 0, 0), (.iload_n 1, 1, 1, 0, 0, 0, 0)]
theorem kX11_tell_22 : rf_ck MX11_tell 22 cX11_tell_22 = true := by decide +kernel
theorem qX11_tell_30 : rf_kc MX11_tell 30 392 1158 yX0_addNumber 0 = true := by decide +kernel
theorem eX11_tell_33 : rf_cki MX11_tell 33 .ireturn = true := by decide +kernel
abbrev MX11_check : rf_M := (yX11_check, cX11_check, 3, (some (.int)))
theorem mkX11_check : rf_mk MX11_check 0 1 1165 72 1163 1164 = true := by decide +kernel
def cX11_check_0 : List rf_I := [(.aload_n 0, 1, 0, 0, 0, 0, 0), (.getfield 12, 3, 11, 0, 461, 0, 0), (.getfield 209, 3, 10, 4, 337, 0, 0), (.getfield 389, 3, 0, 1, 293, 0, 0), (.istore_n 2, 1, 2, 0, 0, 0, 0), (.aload_n 0, 1, 0, 0, 0, 0, 0), (.getfield 12, 3, 11, 0, 461, 0, 0), (.getfield 209, 3, 10, 4, 337, 0, 0), (.iconst 0, 1, 0, 0, 0, nI 0, 0), (.putfield 389, 3, 0, 1, 293, 0, 0), (.aload_n 0, 1, 0, 0, 0, 0, 0), (.iload_n 1, 1, 1, 0, 0, 0, 0)]
theorem kX11_check_0 : rf_ck MX11_check 0 cX11_check_0 = true := by decide +kernel
theorem qX11_check_24 : rf_kc MX11_check 24 259 883 yX11_isShift 0 = true := by decide +kernel
theorem bX11_check_27 : rf_ckb MX11_check 27 (.ifCond .ne 10) 10 37 = true := by decide +kernel
def cX11_check_30 : List rf_I := [(.aload_n 0, 1, 0, 0, 0, 0, 0), (.ldc 81, 2, 0, 0, 511, (-1000000001), 0)]
theorem kX11_check_30 : rf_ck MX11_check 30 cX11_check_30 = true := by decide +kernel
theorem qX11_check_33 : rf_kc MX11_check 33 65 491 yX11_error 0 = true := by decide +kernel
theorem eX11_check_36 : rf_cki MX11_check 36 .ireturn = true := by decide +kernel
def cX11_check_37 : List rf_I := [(.aload_n 0, 1, 0, 0, 0, 0, 0), (.getfield 12, 3, 11, 0, 461, 0, 0), (.iload_n 1, 1, 1, 0, 0, 0, 0), (.iload_n 2, 1, 2, 0, 0, 0, 0)]
theorem kX11_check_37 : rf_ck MX11_check 37 cX11_check_37 = true := by decide +kernel
theorem qX11_check_43 : rf_kc MX11_check 43 395 1166 yX10_checkOrder 0 = true := by decide +kernel
theorem eX11_check_46 : rf_cki MX11_check 46 .ireturn = true := by decide +kernel
abbrev MX11_count : rf_M := (yX11_count, cX11_count, 2, (some (.int)))
theorem mkX11_count : rf_mk MX11_count 0 1 1173 72 1171 1172 = true := by decide +kernel
def cX11_count_0 : List rf_I := [(.iload_n 1, 1, 1, 0, 0, 0, 0)]
theorem kX11_count_0 : rf_ck MX11_count 0 cX11_count_0 = true := by decide +kernel
theorem bX11_count_1 : rf_ckt MX11_count 1 207 0 12 [67, 78, 89, 100, 111, 122, 133, 144, 155, 166, 177, 188, 196] [68, 79, 90, 101, 112, 123, 134, 145, 156, 167, 178, 189, 197] 208 = true := by decide +kernel
def cX11_count_68 : List rf_I := [(.aload_n 0, 1, 0, 0, 0, 0, 0), (.getfield 12, 3, 11, 0, 461, 0, 0), (.getfield 268, 3, 10, 3, 335, 0, 0), (.getfield 305, 3, 1, 0, 254, 0, 0)]
theorem kX11_count_68 : rf_ck MX11_count 68 cX11_count_68 = true := by decide +kernel
theorem eX11_count_78 : rf_cki MX11_count 78 .ireturn = true := by decide +kernel
def cX11_count_79 : List rf_I := [(.aload_n 0, 1, 0, 0, 0, 0, 0), (.getfield 12, 3, 11, 0, 461, 0, 0), (.getfield 55, 3, 10, 0, 326, 0, 0), (.getfield 59, 3, 4, 0, 117, 0, 0)]
theorem kX11_count_79 : rf_ck MX11_count 79 cX11_count_79 = true := by decide +kernel
theorem eX11_count_89 : rf_cki MX11_count 89 .ireturn = true := by decide +kernel
def cX11_count_90 : List rf_I := [(.aload_n 0, 1, 0, 0, 0, 0, 0), (.getfield 12, 3, 11, 0, 461, 0, 0), (.getfield 55, 3, 10, 0, 326, 0, 0), (.getfield 86, 3, 4, 1, 119, 0, 0)]
theorem kX11_count_90 : rf_ck MX11_count 90 cX11_count_90 = true := by decide +kernel
theorem eX11_count_100 : rf_cki MX11_count 100 .ireturn = true := by decide +kernel
def cX11_count_101 : List rf_I := [(.aload_n 0, 1, 0, 0, 0, 0, 0), (.getfield 12, 3, 11, 0, 461, 0, 0), (.getfield 55, 3, 10, 0, 326, 0, 0), (.getfield 106, 3, 4, 2, 122, 0, 0)]
theorem kX11_count_101 : rf_ck MX11_count 101 cX11_count_101 = true := by decide +kernel
theorem eX11_count_111 : rf_cki MX11_count 111 .ireturn = true := by decide +kernel
def cX11_count_112 : List rf_I := [(.aload_n 0, 1, 0, 0, 0, 0, 0), (.getfield 12, 3, 11, 0, 461, 0, 0), (.getfield 152, 3, 10, 1, 330, 0, 0), (.getfield 156, 3, 3, 0, 167, 0, 0)]
theorem kX11_count_112 : rf_ck MX11_count 112 cX11_count_112 = true := by decide +kernel
theorem eX11_count_122 : rf_cki MX11_count 122 .ireturn = true := by decide +kernel
def cX11_count_123 : List rf_I := [(.aload_n 0, 1, 0, 0, 0, 0, 0), (.getfield 12, 3, 11, 0, 461, 0, 0), (.getfield 133, 3, 10, 2, 333, 0, 0), (.getfield 254, 3, 7, 0, 231, 0, 0)]
theorem kX11_count_123 : rf_ck MX11_count 123 cX11_count_123 = true := by decide +kernel
theorem eX11_count_133 : rf_cki MX11_count 133 .ireturn = true := by decide +kernel
def cX11_count_134 : List rf_I := [(.aload_n 0, 1, 0, 0, 0, 0, 0), (.getfield 12, 3, 11, 0, 461, 0, 0), (.getfield 268, 3, 10, 3, 335, 0, 0), (.getfield 314, 3, 1, 3, 261, 0, 0)]
theorem kX11_count_134 : rf_ck MX11_count 134 cX11_count_134 = true := by decide +kernel
theorem eX11_count_144 : rf_cki MX11_count 144 .ireturn = true := by decide +kernel
def cX11_count_145 : List rf_I := [(.aload_n 0, 1, 0, 0, 0, 0, 0), (.getfield 12, 3, 11, 0, 461, 0, 0), (.getfield 268, 3, 10, 3, 335, 0, 0), (.getfield 398, 3, 1, 1, 257, 0, 0)]
theorem kX11_count_145 : rf_ck MX11_count 145 cX11_count_145 = true := by decide +kernel
theorem eX11_count_155 : rf_cki MX11_count 155 .ireturn = true := by decide +kernel
def cX11_count_156 : List rf_I := [(.aload_n 0, 1, 0, 0, 0, 0, 0), (.getfield 12, 3, 11, 0, 461, 0, 0), (.getfield 133, 3, 10, 2, 333, 0, 0)]
theorem kX11_count_156 : rf_ck MX11_count 156 cX11_count_156 = true := by decide +kernel
theorem qX11_count_163 : rf_kc MX11_count 163 308 963 yX7_all 0 = true := by decide +kernel
theorem eX11_count_166 : rf_cki MX11_count 166 .ireturn = true := by decide +kernel
def cX11_count_167 : List rf_I := [(.aload_n 0, 1, 0, 0, 0, 0, 0), (.getfield 12, 3, 11, 0, 461, 0, 0), (.getfield 209, 3, 10, 4, 337, 0, 0), (.getfield 213, 3, 0, 0, 291, 0, 0)]
theorem kX11_count_167 : rf_ck MX11_count 167 cX11_count_167 = true := by decide +kernel
theorem eX11_count_177 : rf_cki MX11_count 177 .ireturn = true := by decide +kernel
def cX11_count_178 : List rf_I := [(.aload_n 0, 1, 0, 0, 0, 0, 0), (.getfield 12, 3, 11, 0, 461, 0, 0), (.getfield 209, 3, 10, 4, 337, 0, 0), (.getfield 389, 3, 0, 1, 293, 0, 0)]
theorem kX11_count_178 : rf_ck MX11_count 178 cX11_count_178 = true := by decide +kernel
theorem eX11_count_188 : rf_cki MX11_count 188 .ireturn = true := by decide +kernel
def cX11_count_189 : List rf_I := [(.aload_n 0, 1, 0, 0, 0, 0, 0), (.getfield 36, 3, 11, 4, 465, 0, 0), (.getfield 357, 3, 9, 0, 423, 0, 0)]
theorem kX11_count_189 : rf_ck MX11_count 189 cX11_count_189 = true := by decide +kernel
theorem eX11_count_196 : rf_cki MX11_count 196 .ireturn = true := by decide +kernel
def cX11_count_197 : List rf_I := [(.aload_n 0, 1, 0, 0, 0, 0, 0), (.getfield 12, 3, 11, 0, 461, 0, 0), (.getfield 268, 3, 10, 3, 335, 0, 0), (.getfield 350, 3, 1, 2, 259, 0, 0)]
theorem kX11_count_197 : rf_ck MX11_count 197 cX11_count_197 = true := by decide +kernel
theorem eX11_count_207 : rf_cki MX11_count 207 .ireturn = true := by decide +kernel
def cX11_count_208 : List rf_I := [(.aload_n 0, 1, 0, 0, 0, 0, 0), (.ldc 81, 2, 0, 0, 511, (-1000000001), 0)]
theorem kX11_count_208 : rf_ck MX11_count 208 cX11_count_208 = true := by decide +kernel
theorem qX11_count_211 : rf_kc MX11_count 211 65 491 yX11_error 0 = true := by decide +kernel
theorem eX11_count_214 : rf_cki MX11_count 214 .ireturn = true := by decide +kernel
abbrev MX11_told : rf_M := (yX11_told, cX11_told, 2, (some (.int)))
theorem mkX11_told : rf_mk MX11_told 0 1 1177 72 1175 1176 = true := by decide +kernel
def cX11_told_0 : List rf_I := [(.iload_n 1, 1, 1, 0, 0, 0, 0), (.iconst 1, 1, 0, 0, 0, nI 1, 0), (.iconst 5, 1, 0, 0, 0, nI 5, 0)]
theorem kX11_told_0 : rf_ck MX11_told 0 cX11_told_0 = true := by decide +kernel
theorem qX11_told_3 : rf_kc MX11_told 3 77 496 yX11_within 1 = true := by decide +kernel
theorem bX11_told_6 : rf_ckb MX11_told 6 (.ifCond .ne 10) 10 16 = true := by decide +kernel
def cX11_told_9 : List rf_I := [(.aload_n 0, 1, 0, 0, 0, 0, 0), (.ldc 81, 2, 0, 0, 511, (-1000000001), 0)]
theorem kX11_told_9 : rf_ck MX11_told 9 cX11_told_9 = true := by decide +kernel
theorem qX11_told_12 : rf_kc MX11_told 12 65 491 yX11_error 0 = true := by decide +kernel
theorem eX11_told_15 : rf_cki MX11_told 15 .ireturn = true := by decide +kernel
def cX11_told_16 : List rf_I := [(.aload_n 0, 1, 0, 0, 0, 0, 0), (.getfield 47, 3, 11, 6, 467, 0, 0), (.iload_n 1, 1, 1, 0, 0, 0, 0), (.iaload, 1, 0, 0, 0, 0, 0)]
theorem kX11_told_16 : rf_ck MX11_told 16 cX11_told_16 = true := by decide +kernel
theorem eX11_told_22 : rf_cki MX11_told 22 .ireturn = true := by decide +kernel
abbrev MX11_error : rf_M := (yX11_error, cX11_error, 3, (some (.int)))
theorem mkX11_error : rf_mk MX11_error 0 1 494 72 493 0 = true := by decide +kernel
def cX11_error_0 : List rf_I := [(.ldc_w 401, 3, 0, 0, 495, (-1000000000), 0), (.iload_n 1, 1, 1, 0, 0, 0, 0), (.isub, 1, 0, 0, 0, 0, 0), (.istore_n 2, 1, 2, 0, 0, 0, 0), (.iload_n 2, 1, 2, 0, 0, 0, 0), (.iconst 1, 1, 0, 0, 0, nI 1, 0), (.iconst 5, 1, 0, 0, 0, nI 5, 0)]
theorem kX11_error_0 : rf_ck MX11_error 0 cX11_error_0 = true := by decide +kernel
theorem qX11_error_9 : rf_kc MX11_error 9 77 496 yX11_within 1 = true := by decide +kernel
theorem bX11_error_12 : rf_ckb MX11_error 12 (.ifCond .eq 13) 13 25 = true := by decide +kernel
def cX11_error_15 : List rf_I := [(.aload_n 0, 1, 0, 0, 0, 0, 0), (.getfield 47, 3, 11, 6, 467, 0, 0), (.iload_n 2, 1, 2, 0, 0, 0, 0), (.dup2, 1, 0, 0, 0, 0, 0), (.iaload, 1, 0, 0, 0, 0, 0), (.iconst 1, 1, 0, 0, 0, nI 1, 0), (.iadd, 1, 0, 0, 0, 0, 0), (.iastore, 1, 0, 0, 0, 0, 0)]
theorem kX11_error_15 : rf_ck MX11_error 15 cX11_error_15 = true := by decide +kernel
def cX11_error_25 : List rf_I := [(.iload_n 1, 1, 1, 0, 0, 0, 0)]
theorem kX11_error_25 : rf_ck MX11_error 25 cX11_error_25 = true := by decide +kernel
theorem eX11_error_26 : rf_cki MX11_error 26 .ireturn = true := by decide +kernel
abbrev MX11_isStation : rf_M := (yX11_isStation, cX11_isStation, 2, (some (.boolean)))
theorem mkX11_isStation : rf_mk MX11_isStation 0 1 510 72 509 1 = true := by decide +kernel
def cX11_isStation_0 : List rf_I := [(.iload_n 1, 1, 1, 0, 0, 0, 0), (.iconst 0, 1, 0, 0, 0, nI 0, 0), (.aload_n 0, 1, 0, 0, 0, 0, 0), (.getfield 12, 3, 11, 0, 461, 0, 0), (.getfield 55, 3, 10, 0, 326, 0, 0), (.getfield 59, 3, 4, 0, 117, 0, 0), (.iconst 1, 1, 0, 0, 0, nI 1, 0), (.isub, 1, 0, 0, 0, 0, 0)]
theorem kX11_isStation_0 : rf_ck MX11_isStation 0 cX11_isStation_0 = true := by decide +kernel
theorem qX11_isStation_14 : rf_kc MX11_isStation 14 77 496 yX11_within 1 = true := by decide +kernel
theorem eX11_isStation_17 : rf_cki MX11_isStation 17 .ireturn = true := by decide +kernel
abbrev MX11_isLine : rf_M := (yX11_isLine, cX11_isLine, 2, (some (.boolean)))
theorem mkX11_isLine : rf_mk MX11_isLine 0 1 539 72 538 2 = true := by decide +kernel
def cX11_isLine_0 : List rf_I := [(.iload_n 1, 1, 1, 0, 0, 0, 0), (.iconst 0, 1, 0, 0, 0, nI 0, 0), (.aload_n 0, 1, 0, 0, 0, 0, 0), (.getfield 12, 3, 11, 0, 461, 0, 0), (.getfield 55, 3, 10, 0, 326, 0, 0), (.getfield 86, 3, 4, 1, 119, 0, 0), (.iconst 1, 1, 0, 0, 0, nI 1, 0), (.isub, 1, 0, 0, 0, 0, 0)]
theorem kX11_isLine_0 : rf_ck MX11_isLine 0 cX11_isLine_0 = true := by decide +kernel
theorem qX11_isLine_14 : rf_kc MX11_isLine 14 77 496 yX11_within 1 = true := by decide +kernel
theorem eX11_isLine_17 : rf_cki MX11_isLine 17 .ireturn = true := by decide +kernel
abbrev MX11_isTrain : rf_M := (yX11_isTrain, cX11_isTrain, 2, (some (.boolean)))
theorem mkX11_isTrain : rf_mk MX11_isTrain 0 1 565 72 564 3 = true := by decide +kernel
def cX11_isTrain_0 : List rf_I := [(.iload_n 1, 1, 1, 0, 0, 0, 0), (.iconst 0, 1, 0, 0, 0, nI 0, 0), (.aload_n 0, 1, 0, 0, 0, 0, 0), (.getfield 12, 3, 11, 0, 461, 0, 0), (.getfield 55, 3, 10, 0, 326, 0, 0), (.getfield 106, 3, 4, 2, 122, 0, 0), (.iconst 1, 1, 0, 0, 0, nI 1, 0), (.isub, 1, 0, 0, 0, 0, 0)]
theorem kX11_isTrain_0 : rf_ck MX11_isTrain 0 cX11_isTrain_0 = true := by decide +kernel
theorem qX11_isTrain_14 : rf_kc MX11_isTrain 14 77 496 yX11_within 1 = true := by decide +kernel
theorem eX11_isTrain_17 : rf_cki MX11_isTrain 17 .ireturn = true := by decide +kernel
abbrev MX11_isGroup : rf_M := (yX11_isGroup, cX11_isGroup, 2, (some (.boolean)))
theorem mkX11_isGroup : rf_mk MX11_isGroup 0 1 631 72 630 5 = true := by decide +kernel
def cX11_isGroup_0 : List rf_I := [(.iload_n 1, 1, 1, 0, 0, 0, 0), (.iconst 0, 1, 0, 0, 0, nI 0, 0), (.aload_n 0, 1, 0, 0, 0, 0, 0), (.getfield 12, 3, 11, 0, 461, 0, 0), (.getfield 152, 3, 10, 1, 330, 0, 0), (.getfield 156, 3, 3, 0, 167, 0, 0), (.iconst 1, 1, 0, 0, 0, nI 1, 0), (.isub, 1, 0, 0, 0, 0, 0)]
theorem kX11_isGroup_0 : rf_ck MX11_isGroup 0 cX11_isGroup_0 = true := by decide +kernel
theorem qX11_isGroup_14 : rf_kc MX11_isGroup 14 77 496 yX11_within 1 = true := by decide +kernel
theorem eX11_isGroup_17 : rf_cki MX11_isGroup 17 .ireturn = true := by decide +kernel
abbrev MX11_isShift : rf_M := (yX11_isShift, cX11_isShift, 2, (some (.boolean)))
theorem mkX11_isShift : rf_mk MX11_isShift 0 1 886 72 885 12 = true := by decide +kernel
def cX11_isShift_0 : List rf_I := [(.iload_n 1, 1, 1, 0, 0, 0, 0), (.iconst 0, 1, 0, 0, 0, nI 0, 0), (.aload_n 0, 1, 0, 0, 0, 0, 0), (.getfield 12, 3, 11, 0, 461, 0, 0), (.getfield 133, 3, 10, 2, 333, 0, 0), (.getfield 254, 3, 7, 0, 231, 0, 0), (.iconst 1, 1, 0, 0, 0, nI 1, 0), (.isub, 1, 0, 0, 0, 0, 0)]
theorem kX11_isShift_0 : rf_ck MX11_isShift 0 cX11_isShift_0 = true := by decide +kernel
theorem qX11_isShift_14 : rf_kc MX11_isShift 14 77 496 yX11_within 1 = true := by decide +kernel
theorem eX11_isShift_17 : rf_cki MX11_isShift 17 .ireturn = true := by decide +kernel
abbrev MX11_isSheet : rf_M := (yX11_isSheet, cX11_isSheet, 2, (some (.boolean)))
theorem mkX11_isSheet : rf_mk MX11_isSheet 0 1 1095 72 1094 20 = true := by decide +kernel
def cX11_isSheet_0 : List rf_I := [(.iload_n 1, 1, 1, 0, 0, 0, 0), (.iconst 0, 1, 0, 0, 0, nI 0, 0), (.iconst 3, 1, 0, 0, 0, nI 3, 0)]
theorem kX11_isSheet_0 : rf_ck MX11_isSheet 0 cX11_isSheet_0 = true := by decide +kernel
theorem qX11_isSheet_3 : rf_kc MX11_isSheet 3 77 496 yX11_within 1 = true := by decide +kernel
theorem eX11_isSheet_6 : rf_cki MX11_isSheet 6 .ireturn = true := by decide +kernel
abbrev MX11_isSetOfTrains : rf_M := (yX11_isSetOfTrains, cX11_isSetOfTrains, 2, (some (.boolean)))
theorem mkX11_isSetOfTrains : rf_mk MX11_isSetOfTrains 0 1 854 72 853 11 = true := by decide +kernel
def cX11_isSetOfTrains_0 : List rf_I := [(.iload_n 1, 1, 1, 0, 0, 0, 0), (.iconst 1, 1, 0, 0, 0, nI 1, 0), (.iconst 1, 1, 0, 0, 0, nI 1, 0), (.aload_n 0, 1, 0, 0, 0, 0, 0), (.getfield 12, 3, 11, 0, 461, 0, 0), (.getfield 55, 3, 10, 0, 326, 0, 0), (.getfield 106, 3, 4, 2, 122, 0, 0), (.ishl, 1, 0, 0, 0, 0, 0), (.iconst 1, 1, 0, 0, 0, nI 1, 0), (.isub, 1, 0, 0, 0, 0, 0)]
theorem kX11_isSetOfTrains_0 : rf_ck MX11_isSetOfTrains 0 cX11_isSetOfTrains_0 = true := by decide +kernel
theorem qX11_isSetOfTrains_16 : rf_kc MX11_isSetOfTrains 16 77 496 yX11_within 1 = true := by decide +kernel
theorem eX11_isSetOfTrains_19 : rf_cki MX11_isSetOfTrains 19 .ireturn = true := by decide +kernel
abbrev MX11_isGroupTold : rf_M := (yX11_isGroupTold, cX11_isGroupTold, 6, (some (.boolean)))
theorem mkX11_isGroupTold : rf_mk MX11_isGroupTold 0 4 608 72 607 4 = true := by decide +kernel
def cX11_isGroupTold_0 : List rf_I := [(.iload_n 1, 1, 1, 0, 0, 0, 0), (.iconst 0, 1, 0, 0, 0, nI 0, 0), (.sipush 799, 3, 0, 0, 0, nI 799, 0)]
theorem kX11_isGroupTold_0 : rf_ck MX11_isGroupTold 0 cX11_isGroupTold_0 = true := by decide +kernel
theorem qX11_isGroupTold_5 : rf_kc MX11_isGroupTold 5 77 496 yX11_within 1 = true := by decide +kernel
theorem bX11_isGroupTold_8 : rf_ckb MX11_isGroupTold 8 (.ifCond .eq 14) 14 22 = true := by decide +kernel
def cX11_isGroupTold_11 : List rf_I := [(.aload_n 0, 1, 0, 0, 0, 0, 0), (.iload_n 1, 1, 1, 0, 0, 0, 0), (.bipush 100, 2, 0, 0, 0, nI 100, 0), (.irem, 1, 0, 0, 0, 0, 0)]
theorem kX11_isGroupTold_11 : rf_ck MX11_isGroupTold 11 cX11_isGroupTold_11 = true := by decide +kernel
theorem qX11_isGroupTold_16 : rf_kc MX11_isGroupTold 16 112 562 yX11_isTrain 0 = true := by decide +kernel
theorem bX11_isGroupTold_19 : rf_ckb MX11_isGroupTold 19 (.ifCond .ne 5) 5 24 = true := by decide +kernel
def cX11_isGroupTold_22 : List rf_I := [(.iconst 0, 1, 0, 0, 0, nI 0, 0)]
theorem kX11_isGroupTold_22 : rf_ck MX11_isGroupTold 22 cX11_isGroupTold_22 = true := by decide +kernel
theorem eX11_isGroupTold_23 : rf_cki MX11_isGroupTold 23 .ireturn = true := by decide +kernel
def cX11_isGroupTold_24 : List rf_I := [(.iload_n 2, 1, 2, 0, 0, 0, 0), (.bipush 10, 2, 0, 0, 0, nI 10, 0), (.irem, 1, 0, 0, 0, 0, 0), (.istore 5, 2, 5, 0, 0, 0, 0), (.iload_n 2, 1, 2, 0, 0, 0, 0)]
theorem kX11_isGroupTold_24 : rf_ck MX11_isGroupTold 24 cX11_isGroupTold_24 = true := by decide +kernel
theorem bX11_isGroupTold_31 : rf_ckb MX11_isGroupTold 31 (.ifCond .lt 19) 19 50 = true := by decide +kernel
def cX11_isGroupTold_34 : List rf_I := [(.iload 5, 2, 5, 0, 0, 0, 0), (.bipush 6, 2, 0, 0, 0, nI 6, 0)]
theorem kX11_isGroupTold_34 : rf_ck MX11_isGroupTold 34 cX11_isGroupTold_34 = true := by decide +kernel
theorem bX11_isGroupTold_38 : rf_ckb MX11_isGroupTold 38 (.if_icmp .ge 12) 12 50 = true := by decide +kernel
def cX11_isGroupTold_41 : List rf_I := [(.iload_n 2, 1, 2, 0, 0, 0, 0), (.bipush 10, 2, 0, 0, 0, nI 10, 0), (.idiv, 1, 0, 0, 0, 0, 0), (.iload 5, 2, 5, 0, 0, 0, 0)]
theorem kX11_isGroupTold_41 : rf_ck MX11_isGroupTold 41 cX11_isGroupTold_41 = true := by decide +kernel
theorem bX11_isGroupTold_47 : rf_ckb MX11_isGroupTold 47 (.if_icmp .lt 5) 5 52 = true := by decide +kernel
def cX11_isGroupTold_50 : List rf_I := [(.iconst 0, 1, 0, 0, 0, nI 0, 0)]
theorem kX11_isGroupTold_50 : rf_ck MX11_isGroupTold 50 cX11_isGroupTold_50 = true := by decide +kernel
theorem eX11_isGroupTold_51 : rf_cki MX11_isGroupTold 51 .ireturn = true := by decide +kernel
def cX11_isGroupTold_52 : List rf_I := [(.iload_n 3, 1, 3, 0, 0, 0, 0), (.iconst 1, 1, 0, 0, 0, nI 1, 0), (.sipush 999, 3, 0, 0, 0, nI 999, 0)]
theorem kX11_isGroupTold_52 : rf_ck MX11_isGroupTold 52 cX11_isGroupTold_52 = true := by decide +kernel
theorem qX11_isGroupTold_57 : rf_kc MX11_isGroupTold 57 77 496 yX11_within 1 = true := by decide +kernel
theorem bX11_isGroupTold_60 : rf_ckb MX11_isGroupTold 60 (.ifCond .eq 15) 15 75 = true := by decide +kernel
def cX11_isGroupTold_63 : List rf_I := [(.iload 4, 2, 4, 0, 0, 0, 0)]
theorem kX11_isGroupTold_63 : rf_ck MX11_isGroupTold 63 cX11_isGroupTold_63 = true := by decide +kernel
theorem qX11_isGroupTold_65 : rf_kc MX11_isGroupTold 65 197 609 yX11_isBelief 1 = true := by decide +kernel
theorem bX11_isGroupTold_68 : rf_ckb MX11_isGroupTold 68 (.ifCond .eq 7) 7 75 = true := by decide +kernel
def cX11_isGroupTold_71 : List rf_I := [(.iconst 1, 1, 0, 0, 0, nI 1, 0)]
theorem kX11_isGroupTold_71 : rf_ck MX11_isGroupTold 71 cX11_isGroupTold_71 = true := by decide +kernel
theorem bX11_isGroupTold_72 : rf_ckb MX11_isGroupTold 72 (.goto 4) 4 76 = true := by decide +kernel
def cX11_isGroupTold_75 : List rf_I := [(.iconst 0, 1, 0, 0, 0, nI 0, 0)]
theorem kX11_isGroupTold_75 : rf_ck MX11_isGroupTold 75 cX11_isGroupTold_75 = true := by decide +kernel
theorem eX11_isGroupTold_76 : rf_cki MX11_isGroupTold 76 .ireturn = true := by decide +kernel
abbrev MX11_isBelief : rf_M := (yX11_isBelief, cX11_isBelief, 1, (some (.boolean)))
theorem mkX11_isBelief : rf_mk MX11_isBelief 1 1 611 72 610 0 = true := by decide +kernel
def cX11_isBelief_0 : List rf_I := [(.iload_n 0, 1, 0, 0, 0, 0, 0)]
theorem kX11_isBelief_0 : rf_ck MX11_isBelief 0 cX11_isBelief_0 = true := by decide +kernel
theorem bX11_isBelief_1 : rf_ckb MX11_isBelief 1 (.ifCond .lt 26) 26 27 = true := by decide +kernel
def cX11_isBelief_4 : List rf_I := [(.iload_n 0, 1, 0, 0, 0, 0, 0), (.bipush 10, 2, 0, 0, 0, nI 10, 0), (.irem, 1, 0, 0, 0, 0, 0), (.iconst 1, 1, 0, 0, 0, nI 1, 0)]
theorem kX11_isBelief_4 : rf_ck MX11_isBelief 4 cX11_isBelief_4 = true := by decide +kernel
theorem bX11_isBelief_9 : rf_ckb MX11_isBelief 9 (.if_icmp .lt 18) 18 27 = true := by decide +kernel
def cX11_isBelief_12 : List rf_I := [(.iload_n 0, 1, 0, 0, 0, 0, 0), (.bipush 10, 2, 0, 0, 0, nI 10, 0), (.idiv, 1, 0, 0, 0, 0, 0), (.iload_n 0, 1, 0, 0, 0, 0, 0), (.bipush 10, 2, 0, 0, 0, nI 10, 0), (.irem, 1, 0, 0, 0, 0, 0)]
theorem kX11_isBelief_12 : rf_ck MX11_isBelief 12 cX11_isBelief_12 = true := by decide +kernel
theorem bX11_isBelief_20 : rf_ckb MX11_isBelief 20 (.if_icmp .gt 7) 7 27 = true := by decide +kernel
def cX11_isBelief_23 : List rf_I := [(.iconst 1, 1, 0, 0, 0, nI 1, 0)]
theorem kX11_isBelief_23 : rf_ck MX11_isBelief 23 cX11_isBelief_23 = true := by decide +kernel
theorem bX11_isBelief_24 : rf_ckb MX11_isBelief 24 (.goto 4) 4 28 = true := by decide +kernel
def cX11_isBelief_27 : List rf_I := [(.iconst 0, 1, 0, 0, 0, nI 0, 0)]
theorem kX11_isBelief_27 : rf_ck MX11_isBelief 27 cX11_isBelief_27 = true := by decide +kernel
theorem eX11_isBelief_28 : rf_cki MX11_isBelief 28 .ireturn = true := by decide +kernel
abbrev MX11_isUnder : rf_M := (yX11_isUnder, cX11_isUnder, 4, (some (.boolean)))
theorem mkX11_isUnder : rf_mk MX11_isUnder 1 2 679 72 678 0 = true := by decide +kernel
def cX11_isUnder_0 : List rf_I := [(.iload_n 0, 1, 0, 0, 0, 0, 0), (.istore_n 2, 1, 2, 0, 0, 0, 0), (.iconst 0, 1, 0, 0, 0, nI 0, 0), (.istore_n 3, 1, 3, 0, 0, 0, 0)]
theorem kX11_isUnder_0 : rf_ck MX11_isUnder 0 cX11_isUnder_0 = true := by decide +kernel
def cX11_isUnder_4 : List rf_I := [(.iload_n 3, 1, 3, 0, 0, 0, 0), (.bipush 8, 2, 0, 0, 0, nI 8, 0)]
theorem kX11_isUnder_4 : rf_ck MX11_isUnder 4 cX11_isUnder_4 = true := by decide +kernel
theorem bX11_isUnder_7 : rf_ckb MX11_isUnder 7 (.if_icmp .ge 24) 24 31 = true := by decide +kernel
def cX11_isUnder_10 : List rf_I := [(.iload_n 2, 1, 2, 0, 0, 0, 0), (.iload_n 1, 1, 1, 0, 0, 0, 0)]
theorem kX11_isUnder_10 : rf_ck MX11_isUnder 10 cX11_isUnder_10 = true := by decide +kernel
theorem bX11_isUnder_12 : rf_ckb MX11_isUnder 12 (.if_icmp .eq 19) 19 31 = true := by decide +kernel
def cX11_isUnder_15 : List rf_I := [(.iload_n 2, 1, 2, 0, 0, 0, 0)]
theorem kX11_isUnder_15 : rf_ck MX11_isUnder 15 cX11_isUnder_15 = true := by decide +kernel
theorem bX11_isUnder_16 : rf_ckb MX11_isUnder 16 (.ifCond .eq 15) 15 31 = true := by decide +kernel
def cX11_isUnder_19 : List rf_I := [(.getstatic 402, 3, 1001, 0, 680, 0, 0), (.iload_n 2, 1, 2, 0, 0, 0, 0), (.iaload, 1, 0, 0, 0, 0, 0), (.istore_n 2, 1, 2, 0, 0, 0, 0), (.iinc 3 1, 3, 3, 0, 0, nI 1, 0)]
theorem kX11_isUnder_19 : rf_ck MX11_isUnder 19 cX11_isUnder_19 = true := by decide +kernel
theorem bX11_isUnder_28 : rf_ckb MX11_isUnder 28 (.goto (-24)) (-24) 4 = true := by decide +kernel
def cX11_isUnder_31 : List rf_I := [(.iload_n 2, 1, 2, 0, 0, 0, 0), (.iload_n 1, 1, 1, 0, 0, 0, 0)]
theorem kX11_isUnder_31 : rf_ck MX11_isUnder 31 cX11_isUnder_31 = true := by decide +kernel
theorem bX11_isUnder_33 : rf_ckb MX11_isUnder 33 (.if_icmp .ne 7) 7 40 = true := by decide +kernel
def cX11_isUnder_36 : List rf_I := [(.iconst 1, 1, 0, 0, 0, nI 1, 0)]
theorem kX11_isUnder_36 : rf_ck MX11_isUnder 36 cX11_isUnder_36 = true := by decide +kernel
theorem bX11_isUnder_37 : rf_ckb MX11_isUnder 37 (.goto 4) 4 41 = true := by decide +kernel
def cX11_isUnder_40 : List rf_I := [(.iconst 0, 1, 0, 0, 0, nI 0, 0)]
theorem kX11_isUnder_40 : rf_ck MX11_isUnder 40 cX11_isUnder_40 = true := by decide +kernel
theorem eX11_isUnder_41 : rf_cki MX11_isUnder 41 .ireturn = true := by decide +kernel
abbrev MX11_within : rf_M := (yX11_within, cX11_within, 3, (some (.boolean)))
theorem mkX11_within : rf_mk MX11_within 1 3 498 72 497 0 = true := by decide +kernel
def cX11_within_0 : List rf_I := [(.iload_n 0, 1, 0, 0, 0, 0, 0), (.iload_n 1, 1, 1, 0, 0, 0, 0)]
theorem kX11_within_0 : rf_ck MX11_within 0 cX11_within_0 = true := by decide +kernel
theorem bX11_within_2 : rf_ckb MX11_within 2 (.if_icmp .lt 12) 12 14 = true := by decide +kernel
def cX11_within_5 : List rf_I := [(.iload_n 0, 1, 0, 0, 0, 0, 0), (.iload_n 2, 1, 2, 0, 0, 0, 0)]
theorem kX11_within_5 : rf_ck MX11_within 5 cX11_within_5 = true := by decide +kernel
theorem bX11_within_7 : rf_ckb MX11_within 7 (.if_icmp .gt 7) 7 14 = true := by decide +kernel
def cX11_within_10 : List rf_I := [(.iconst 1, 1, 0, 0, 0, nI 1, 0)]
theorem kX11_within_10 : rf_ck MX11_within 10 cX11_within_10 = true := by decide +kernel
theorem bX11_within_11 : rf_ckb MX11_within 11 (.goto 4) 4 15 = true := by decide +kernel
def cX11_within_14 : List rf_I := [(.iconst 0, 1, 0, 0, 0, nI 0, 0)]
theorem kX11_within_14 : rf_ck MX11_within 14 cX11_within_14 = true := by decide +kernel
theorem eX11_within_15 : rf_cki MX11_within 15 .ireturn = true := by decide +kernel
abbrev MX11_has : rf_M := (yX11_has, cX11_has, 2, (some (.boolean)))
theorem mkX11_has : rf_mk MX11_has 1 2 594 72 593 0 = true := by decide +kernel
def cX11_has_0 : List rf_I := [(.iload_n 0, 1, 0, 0, 0, 0, 0), (.iload_n 1, 1, 1, 0, 0, 0, 0), (.ishr, 1, 0, 0, 0, 0, 0), (.iconst 1, 1, 0, 0, 0, nI 1, 0), (.iand, 1, 0, 0, 0, 0, 0), (.iconst 1, 1, 0, 0, 0, nI 1, 0)]
theorem kX11_has_0 : rf_ck MX11_has 0 cX11_has_0 = true := by decide +kernel
theorem bX11_has_6 : rf_ckb MX11_has 6 (.if_icmp .ne 7) 7 13 = true := by decide +kernel
def cX11_has_9 : List rf_I := [(.iconst 1, 1, 0, 0, 0, nI 1, 0)]
theorem kX11_has_9 : rf_ck MX11_has 9 cX11_has_9 = true := by decide +kernel
theorem bX11_has_10 : rf_ckb MX11_has 10 (.goto 4) 4 14 = true := by decide +kernel
def cX11_has_13 : List rf_I := [(.iconst 0, 1, 0, 0, 0, nI 0, 0)]
theorem kX11_has_13 : rf_ck MX11_has 13 cX11_has_13 = true := by decide +kernel
theorem eX11_has_14 : rf_cki MX11_has 14 .ireturn = true := by decide +kernel
abbrev MX11_lowest : rf_M := (yX11_lowest, cX11_lowest, 12, (some (.long)))
theorem mkX11_lowest : rf_mk MX11_lowest 1 3 902 72 901 0 = true := by decide +kernel
def cX11_lowest_0 : List rf_I := [(.lload_n 0, 1, 0, 0, 0, 0, 0), (.lstore 5, 2, 5, 0, 0, 0, 0), (.lload_n 2, 1, 2, 0, 0, 0, 0), (.lstore 7, 2, 7, 0, 0, 0, 0), (.iconst 0, 1, 0, 0, 0, nI 0, 0), (.istore 9, 2, 9, 0, 0, 0, 0)]
theorem kX11_lowest_0 : rf_ck MX11_lowest 0 cX11_lowest_0 = true := by decide +kernel
def cX11_lowest_9 : List rf_I := [(.iload 9, 2, 9, 0, 0, 0, 0), (.bipush 100, 2, 0, 0, 0, nI 100, 0)]
theorem kX11_lowest_9 : rf_ck MX11_lowest 9 cX11_lowest_9 = true := by decide +kernel
theorem bX11_lowest_13 : rf_ckb MX11_lowest 13 (.if_icmp .ge 31) 31 44 = true := by decide +kernel
def cX11_lowest_16 : List rf_I := [(.lload 7, 2, 7, 0, 0, 0, 0), (.lconst 0, 1, 0, 0, 0, 0, lN 0), (.lcmp, 1, 0, 0, 0, 0, 0)]
theorem kX11_lowest_16 : rf_ck MX11_lowest 16 cX11_lowest_16 = true := by decide +kernel
theorem bX11_lowest_20 : rf_ckb MX11_lowest 20 (.ifCond .eq 24) 24 44 = true := by decide +kernel
def cX11_lowest_23 : List rf_I := [(.lload 5, 2, 5, 0, 0, 0, 0), (.lload 7, 2, 7, 0, 0, 0, 0), (.lrem, 1, 0, 0, 0, 0, 0), (.lstore 10, 2, 10, 0, 0, 0, 0), (.lload 7, 2, 7, 0, 0, 0, 0), (.lstore 5, 2, 5, 0, 0, 0, 0), (.lload 10, 2, 10, 0, 0, 0, 0), (.lstore 7, 2, 7, 0, 0, 0, 0), (.iinc 9 1, 3, 9, 0, 0, nI 1, 0)]
theorem kX11_lowest_23 : rf_ck MX11_lowest 23 cX11_lowest_23 = true := by decide +kernel
theorem bX11_lowest_41 : rf_ckb MX11_lowest 41 (.goto (-32)) (-32) 9 = true := by decide +kernel
def cX11_lowest_44 : List rf_I := [(.iload 4, 2, 4, 0, 0, 0, 0)]
theorem kX11_lowest_44 : rf_ck MX11_lowest 44 cX11_lowest_44 = true := by decide +kernel
theorem bX11_lowest_46 : rf_ckb MX11_lowest 46 (.ifCond .ne 7) 7 53 = true := by decide +kernel
def cX11_lowest_49 : List rf_I := [(.lload_n 0, 1, 0, 0, 0, 0, 0)]
theorem kX11_lowest_49 : rf_ck MX11_lowest 49 cX11_lowest_49 = true := by decide +kernel
theorem bX11_lowest_50 : rf_ckb MX11_lowest 50 (.goto 4) 4 54 = true := by decide +kernel
def cX11_lowest_53 : List rf_I := [(.lload_n 2, 1, 2, 0, 0, 0, 0)]
theorem kX11_lowest_53 : rf_ck MX11_lowest 53 cX11_lowest_53 = true := by decide +kernel
def cX11_lowest_54 : List rf_I := [(.lstore 9, 2, 9, 0, 0, 0, 0), (.lload 5, 2, 5, 0, 0, 0, 0), (.lconst 0, 1, 0, 0, 0, 0, lN 0), (.lcmp, 1, 0, 0, 0, 0, 0)]
theorem kX11_lowest_54 : rf_ck MX11_lowest 54 cX11_lowest_54 = true := by decide +kernel
theorem bX11_lowest_60 : rf_ckb MX11_lowest 60 (.ifCond .ne 8) 8 68 = true := by decide +kernel
def cX11_lowest_63 : List rf_I := [(.lload 9, 2, 9, 0, 0, 0, 0)]
theorem kX11_lowest_63 : rf_ck MX11_lowest 63 cX11_lowest_63 = true := by decide +kernel
theorem bX11_lowest_65 : rf_ckb MX11_lowest 65 (.goto 8) 8 73 = true := by decide +kernel
def cX11_lowest_68 : List rf_I := [(.lload 9, 2, 9, 0, 0, 0, 0), (.lload 5, 2, 5, 0, 0, 0, 0), (.ldiv, 1, 0, 0, 0, 0, 0)]
theorem kX11_lowest_68 : rf_ck MX11_lowest 68 cX11_lowest_68 = true := by decide +kernel
theorem eX11_lowest_73 : rf_cki MX11_lowest 73 .lreturn = true := by decide +kernel
abbrev MX11_copyRow : rf_M := (yX11_copyRow, cX11_copyRow, 2, none)
theorem mkX11_copyRow : rf_mk MX11_copyRow 1 2 833 72 832 0 = true := by decide +kernel
def cX11_copyRow_0 : List rf_I := [(.aload_n 0, 1, 0, 0, 0, 0, 0), (.iconst 0, 1, 0, 0, 0, nI 0, 0), (.aload_n 1, 1, 1, 0, 0, 0, 0), (.iconst 0, 1, 0, 0, 0, nI 0, 0), (.aload_n 0, 1, 0, 0, 0, 0, 0), (.arraylength, 1, 0, 0, 0, 0, 0), (.aload_n 1, 1, 1, 0, 0, 0, 0), (.arraylength, 1, 0, 0, 0, 0, 0), (.invokestatic 405, 3, 1, 0, 834, 0, 0), (.invokestatic 380, 3, 2, 0, 835, 0, 0)]
theorem kX11_copyRow_0 : rf_ck MX11_copyRow 0 cX11_copyRow_0 = true := by decide +kernel
theorem eX11_copyRow_14 : rf_cki MX11_copyRow 14 .return_ = true := by decide +kernel
