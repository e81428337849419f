-- ===== PART A: goes FIRST, ahead of the names: the tables' words, and 'selects' of the private methods out of them =====
/-- a private method of a class that the tables say can be made, by its rows of tables_1 -/
def lw_okq (q : MethodName × Nat) : Prop := (q.1.cls ≠ "java/lang/invoke/MethodHandle" ∧ q.1.cls ≠ "java/lang/invoke/VarHandle") ∧ Cond.instantiable q.1.cls q.2 ∈ tables_1 ∧ Cond.privateMethod q.1 ∈ tables_1 ∧ Cond.instanceMethod q.1 ∈ tables_1
theorem lw_p0 : lw_okq (⟨"CoatsByLot", "error", "(I)I"⟩, 8) := ⟨⟨by decide +kernel, by decide +kernel⟩, List.mem_of_getElem? (i := 23) (by decide +kernel), List.mem_of_getElem? (i := 421) (by decide +kernel), List.mem_of_getElem? (i := 422) (by decide +kernel)⟩
theorem lw_p1 : lw_okq (⟨"CoatsByLot", "isStation", "(I)Z"⟩, 8) := ⟨⟨by decide +kernel, by decide +kernel⟩, List.mem_of_getElem? (i := 23) (by decide +kernel), List.mem_of_getElem? (i := 437) (by decide +kernel), List.mem_of_getElem? (i := 438) (by decide +kernel)⟩
theorem lw_p2 : lw_okq (⟨"CoatsByLot", "isLine", "(I)Z"⟩, 8) := ⟨⟨by decide +kernel, by decide +kernel⟩, List.mem_of_getElem? (i := 23) (by decide +kernel), List.mem_of_getElem? (i := 466) (by decide +kernel), List.mem_of_getElem? (i := 467) (by decide +kernel)⟩
theorem lw_p3 : lw_okq (⟨"CoatsByLot", "isTrain", "(I)Z"⟩, 8) := ⟨⟨by decide +kernel, by decide +kernel⟩, List.mem_of_getElem? (i := 23) (by decide +kernel), List.mem_of_getElem? (i := 492) (by decide +kernel), List.mem_of_getElem? (i := 493) (by decide +kernel)⟩
theorem lw_p4 : lw_okq (⟨"CoatsByLot", "isGroupTold", "(IIII)Z"⟩, 8) := ⟨⟨by decide +kernel, by decide +kernel⟩, List.mem_of_getElem? (i := 23) (by decide +kernel), List.mem_of_getElem? (i := 535) (by decide +kernel), List.mem_of_getElem? (i := 536) (by decide +kernel)⟩
theorem lw_p5 : lw_okq (⟨"CoatsByLot", "isGroup", "(I)Z"⟩, 8) := ⟨⟨by decide +kernel, by decide +kernel⟩, List.mem_of_getElem? (i := 23) (by decide +kernel), List.mem_of_getElem? (i := 558) (by decide +kernel), List.mem_of_getElem? (i := 559) (by decide +kernel)⟩
theorem lw_p6 : lw_okq (⟨"CoatsByLot$Reader", "readLevel", "(II)Z"⟩, 4) := ⟨⟨by decide +kernel, by decide +kernel⟩, List.mem_of_getElem? (i := 295) (by decide +kernel), List.mem_of_getElem? (i := 639) (by decide +kernel), List.mem_of_getElem? (i := 640) (by decide +kernel)⟩
theorem lw_p7 : lw_okq (⟨"CoatsByLot$Reader", "readFactor", "(I)Z"⟩, 4) := ⟨⟨by decide +kernel, by decide +kernel⟩, List.mem_of_getElem? (i := 295) (by decide +kernel), List.mem_of_getElem? (i := 643) (by decide +kernel), List.mem_of_getElem? (i := 644) (by decide +kernel)⟩
theorem lw_p8 : lw_okq (⟨"CoatsByLot$Reader", "next", "()I"⟩, 4) := ⟨⟨by decide +kernel, by decide +kernel⟩, List.mem_of_getElem? (i := 295) (by decide +kernel), List.mem_of_getElem? (i := 647) (by decide +kernel), List.mem_of_getElem? (i := 648) (by decide +kernel)⟩
theorem lw_p9 : lw_okq (⟨"CoatsByLot$Reader", "readOpened", "(II)Z"⟩, 4) := ⟨⟨by decide +kernel, by decide +kernel⟩, List.mem_of_getElem? (i := 295) (by decide +kernel), List.mem_of_getElem? (i := 651) (by decide +kernel), List.mem_of_getElem? (i := 652) (by decide +kernel)⟩
theorem lw_p10 : lw_okq (⟨"CoatsByLot$Reader", "readNumber", "()V"⟩, 4) := ⟨⟨by decide +kernel, by decide +kernel⟩, List.mem_of_getElem? (i := 295) (by decide +kernel), List.mem_of_getElem? (i := 662) (by decide +kernel), List.mem_of_getElem? (i := 663) (by decide +kernel)⟩
theorem lw_p11 : lw_okq (⟨"CoatsByLot", "isSetOfTrains", "(I)Z"⟩, 8) := ⟨⟨by decide +kernel, by decide +kernel⟩, List.mem_of_getElem? (i := 23) (by decide +kernel), List.mem_of_getElem? (i := 781) (by decide +kernel), List.mem_of_getElem? (i := 782) (by decide +kernel)⟩
theorem lw_p12 : lw_okq (⟨"CoatsByLot", "isShift", "(I)Z"⟩, 8) := ⟨⟨by decide +kernel, by decide +kernel⟩, List.mem_of_getElem? (i := 23) (by decide +kernel), List.mem_of_getElem? (i := 813) (by decide +kernel), List.mem_of_getElem? (i := 814) (by decide +kernel)⟩
theorem lw_p13 : lw_okq (⟨"CoatsByLot$Search", "fillUnpaid", "(LCoatsByLot$World;I)V"⟩, 6) := ⟨⟨by decide +kernel, by decide +kernel⟩, List.mem_of_getElem? (i := 319) (by decide +kernel), List.mem_of_getElem? (i := 860) (by decide +kernel), List.mem_of_getElem? (i := 861) (by decide +kernel)⟩
theorem lw_p14 : lw_okq (⟨"CoatsByLot$Search", "tryRows", "(LCoatsByLot$World;II)V"⟩, 6) := ⟨⟨by decide +kernel, by decide +kernel⟩, List.mem_of_getElem? (i := 319) (by decide +kernel), List.mem_of_getElem? (i := 865) (by decide +kernel), List.mem_of_getElem? (i := 866) (by decide +kernel)⟩
theorem lw_p15 : lw_okq (⟨"CoatsByLot$Search", "compareRow", "(LCoatsByLot$World;)V"⟩, 6) := ⟨⟨by decide +kernel, by decide +kernel⟩, List.mem_of_getElem? (i := 319) (by decide +kernel), List.mem_of_getElem? (i := 869) (by decide +kernel), List.mem_of_getElem? (i := 870) (by decide +kernel)⟩
def lw_privs_1 : List (MethodName × Nat) := [(⟨"CoatsByLot", "error", "(I)I"⟩, 8), (⟨"CoatsByLot", "isStation", "(I)Z"⟩, 8), (⟨"CoatsByLot", "isLine", "(I)Z"⟩, 8), (⟨"CoatsByLot", "isTrain", "(I)Z"⟩, 8), (⟨"CoatsByLot", "isGroupTold", "(IIII)Z"⟩, 8), (⟨"CoatsByLot", "isGroup", "(I)Z"⟩, 8), (⟨"CoatsByLot$Reader", "readLevel", "(II)Z"⟩, 4), (⟨"CoatsByLot$Reader", "readFactor", "(I)Z"⟩, 4), (⟨"CoatsByLot$Reader", "next", "()I"⟩, 4), (⟨"CoatsByLot$Reader", "readOpened", "(II)Z"⟩, 4), (⟨"CoatsByLot$Reader", "readNumber", "()V"⟩, 4), (⟨"CoatsByLot", "isSetOfTrains", "(I)Z"⟩, 8), (⟨"CoatsByLot", "isShift", "(I)Z"⟩, 8), (⟨"CoatsByLot$Search", "fillUnpaid", "(LCoatsByLot$World;I)V"⟩, 6), (⟨"CoatsByLot$Search", "tryRows", "(LCoatsByLot$World;II)V"⟩, 6), (⟨"CoatsByLot$Search", "compareRow", "(LCoatsByLot$World;)V"⟩, 6)]
theorem lw_r1 : ∀ q ∈ lw_privs_1, lw_okq q := List.forall_mem_cons.mpr ⟨lw_p0, List.forall_mem_cons.mpr ⟨lw_p1, List.forall_mem_cons.mpr ⟨lw_p2, List.forall_mem_cons.mpr ⟨lw_p3, List.forall_mem_cons.mpr ⟨lw_p4, List.forall_mem_cons.mpr ⟨lw_p5, List.forall_mem_cons.mpr ⟨lw_p6, List.forall_mem_cons.mpr ⟨lw_p7, List.forall_mem_cons.mpr ⟨lw_p8, List.forall_mem_cons.mpr ⟨lw_p9, List.forall_mem_cons.mpr ⟨lw_p10, List.forall_mem_cons.mpr ⟨lw_p11, List.forall_mem_cons.mpr ⟨lw_p12, List.forall_mem_cons.mpr ⟨lw_p13, List.forall_mem_cons.mpr ⟨lw_p14, List.forall_mem_cons.mpr ⟨lw_p15, fun _ h => absurd h List.not_mem_nil⟩⟩⟩⟩⟩⟩⟩⟩⟩⟩⟩⟩⟩⟩⟩⟩
theorem lw_p16 : lw_okq (⟨"CoatsByLot$Search", "lotsInRow", "(LCoatsByLot$Shifts;I)I"⟩, 6) := ⟨⟨by decide +kernel, by decide +kernel⟩, List.mem_of_getElem? (i := 319) (by decide +kernel), List.mem_of_getElem? (i := 873) (by decide +kernel), List.mem_of_getElem? (i := 874) (by decide +kernel)⟩
theorem lw_p17 : lw_okq (⟨"CoatsByLot$World", "isTurned", "(II)Z"⟩, 10) := ⟨⟨by decide +kernel, by decide +kernel⟩, List.mem_of_getElem? (i := 31) (by decide +kernel), List.mem_of_getElem? (i := 950) (by decide +kernel), List.mem_of_getElem? (i := 951) (by decide +kernel)⟩
theorem lw_p18 : lw_okq (⟨"CoatsByLot$Voices", "speak", "(IIII)I"⟩, 5) := ⟨⟨by decide +kernel, by decide +kernel⟩, List.mem_of_getElem? (i := 346) (by decide +kernel), List.mem_of_getElem? (i := 1003) (by decide +kernel), List.mem_of_getElem? (i := 1004) (by decide +kernel)⟩
theorem lw_p19 : lw_okq (⟨"CoatsByLot$Voices", "runBody", "(IIII)I"⟩, 5) := ⟨⟨by decide +kernel, by decide +kernel⟩, List.mem_of_getElem? (i := 346) (by decide +kernel), List.mem_of_getElem? (i := 1010) (by decide +kernel), List.mem_of_getElem? (i := 1011) (by decide +kernel)⟩
theorem lw_p20 : lw_okq (⟨"CoatsByLot", "isSheet", "(I)Z"⟩, 8) := ⟨⟨by decide +kernel, by decide +kernel⟩, List.mem_of_getElem? (i := 23) (by decide +kernel), List.mem_of_getElem? (i := 1022) (by decide +kernel), List.mem_of_getElem? (i := 1023) (by decide +kernel)⟩
theorem lw_p21 : lw_okq (⟨"CoatsByLotModel", "finds", "(I)I"⟩, 24) := ⟨⟨by decide +kernel, by decide +kernel⟩, List.mem_of_getElem? (i := 1108) (by decide +kernel), List.mem_of_getElem? (i := 1191) (by decide +kernel), List.mem_of_getElem? (i := 1192) (by decide +kernel)⟩
theorem lw_p22 : lw_okq (⟨"CoatsByLotModel", "areTwo", "(II)Z"⟩, 24) := ⟨⟨by decide +kernel, by decide +kernel⟩, List.mem_of_getElem? (i := 1108) (by decide +kernel), List.mem_of_getElem? (i := 1200) (by decide +kernel), List.mem_of_getElem? (i := 1201) (by decide +kernel)⟩
theorem lw_p23 : lw_okq (⟨"CoatsByLotModel", "isStation", "(I)Z"⟩, 24) := ⟨⟨by decide +kernel, by decide +kernel⟩, List.mem_of_getElem? (i := 1108) (by decide +kernel), List.mem_of_getElem? (i := 1204) (by decide +kernel), List.mem_of_getElem? (i := 1205) (by decide +kernel)⟩
theorem lw_p24 : lw_okq (⟨"CoatsByLotModel", "isLine", "(I)Z"⟩, 24) := ⟨⟨by decide +kernel, by decide +kernel⟩, List.mem_of_getElem? (i := 1108) (by decide +kernel), List.mem_of_getElem? (i := 1222) (by decide +kernel), List.mem_of_getElem? (i := 1223) (by decide +kernel)⟩
theorem lw_p25 : lw_okq (⟨"CoatsByLotModel", "isTrain", "(I)Z"⟩, 24) := ⟨⟨by decide +kernel, by decide +kernel⟩, List.mem_of_getElem? (i := 1108) (by decide +kernel), List.mem_of_getElem? (i := 1239) (by decide +kernel), List.mem_of_getElem? (i := 1240) (by decide +kernel)⟩
theorem lw_p26 : lw_okq (⟨"CoatsByLotModel", "lineOf", "(I)I"⟩, 24) := ⟨⟨by decide +kernel, by decide +kernel⟩, List.mem_of_getElem? (i := 1108) (by decide +kernel), List.mem_of_getElem? (i := 1243) (by decide +kernel), List.mem_of_getElem? (i := 1244) (by decide +kernel)⟩
theorem lw_p27 : lw_okq (⟨"CoatsByLotModel", "startOf", "(I)I"⟩, 24) := ⟨⟨by decide +kernel, by decide +kernel⟩, List.mem_of_getElem? (i := 1108) (by decide +kernel), List.mem_of_getElem? (i := 1247) (by decide +kernel), List.mem_of_getElem? (i := 1248) (by decide +kernel)⟩
theorem lw_p28 : lw_okq (⟨"CoatsByLotModel", "endOf", "(I)I"⟩, 24) := ⟨⟨by decide +kernel, by decide +kernel⟩, List.mem_of_getElem? (i := 1108) (by decide +kernel), List.mem_of_getElem? (i := 1251) (by decide +kernel), List.mem_of_getElem? (i := 1252) (by decide +kernel)⟩
theorem lw_p29 : lw_okq (⟨"CoatsByLotModel", "stopsOf", "(I)I"⟩, 24) := ⟨⟨by decide +kernel, by decide +kernel⟩, List.mem_of_getElem? (i := 1108) (by decide +kernel), List.mem_of_getElem? (i := 1255) (by decide +kernel), List.mem_of_getElem? (i := 1256) (by decide +kernel)⟩
theorem lw_p30 : lw_okq (⟨"CoatsByLotModel", "minuteAt", "(II)I"⟩, 24) := ⟨⟨by decide +kernel, by decide +kernel⟩, List.mem_of_getElem? (i := 1108) (by decide +kernel), List.mem_of_getElem? (i := 1259) (by decide +kernel), List.mem_of_getElem? (i := 1260) (by decide +kernel)⟩
theorem lw_p31 : lw_okq (⟨"CoatsByLotModel", "stationAt", "(II)I"⟩, 24) := ⟨⟨by decide +kernel, by decide +kernel⟩, List.mem_of_getElem? (i := 1108) (by decide +kernel), List.mem_of_getElem? (i := 1263) (by decide +kernel), List.mem_of_getElem? (i := 1264) (by decide +kernel)⟩
def lw_privs_2 : List (MethodName × Nat) := [(⟨"CoatsByLot$Search", "lotsInRow", "(LCoatsByLot$Shifts;I)I"⟩, 6), (⟨"CoatsByLot$World", "isTurned", "(II)Z"⟩, 10), (⟨"CoatsByLot$Voices", "speak", "(IIII)I"⟩, 5), (⟨"CoatsByLot$Voices", "runBody", "(IIII)I"⟩, 5), (⟨"CoatsByLot", "isSheet", "(I)Z"⟩, 8), (⟨"CoatsByLotModel", "finds", "(I)I"⟩, 24), (⟨"CoatsByLotModel", "areTwo", "(II)Z"⟩, 24), (⟨"CoatsByLotModel", "isStation", "(I)Z"⟩, 24), (⟨"CoatsByLotModel", "isLine", "(I)Z"⟩, 24), (⟨"CoatsByLotModel", "isTrain", "(I)Z"⟩, 24), (⟨"CoatsByLotModel", "lineOf", "(I)I"⟩, 24), (⟨"CoatsByLotModel", "startOf", "(I)I"⟩, 24), (⟨"CoatsByLotModel", "endOf", "(I)I"⟩, 24), (⟨"CoatsByLotModel", "stopsOf", "(I)I"⟩, 24), (⟨"CoatsByLotModel", "minuteAt", "(II)I"⟩, 24), (⟨"CoatsByLotModel", "stationAt", "(II)I"⟩, 24)]
theorem lw_r2 : ∀ q ∈ lw_privs_2, lw_okq q := List.forall_mem_cons.mpr ⟨lw_p16, List.forall_mem_cons.mpr ⟨lw_p17, List.forall_mem_cons.mpr ⟨lw_p18, List.forall_mem_cons.mpr ⟨lw_p19, List.forall_mem_cons.mpr ⟨lw_p20, List.forall_mem_cons.mpr ⟨lw_p21, List.forall_mem_cons.mpr ⟨lw_p22, List.forall_mem_cons.mpr ⟨lw_p23, List.forall_mem_cons.mpr ⟨lw_p24, List.forall_mem_cons.mpr ⟨lw_p25, List.forall_mem_cons.mpr ⟨lw_p26, List.forall_mem_cons.mpr ⟨lw_p27, List.forall_mem_cons.mpr ⟨lw_p28, List.forall_mem_cons.mpr ⟨lw_p29, List.forall_mem_cons.mpr ⟨lw_p30, List.forall_mem_cons.mpr ⟨lw_p31, fun _ h => absurd h List.not_mem_nil⟩⟩⟩⟩⟩⟩⟩⟩⟩⟩⟩⟩⟩⟩⟩⟩
theorem lw_p32 : lw_okq (⟨"CoatsByLotModel", "lotsWith", "(I)I"⟩, 24) := ⟨⟨by decide +kernel, by decide +kernel⟩, List.mem_of_getElem? (i := 1108) (by decide +kernel), List.mem_of_getElem? (i := 1267) (by decide +kernel), List.mem_of_getElem? (i := 1268) (by decide +kernel)⟩
theorem lw_p33 : lw_okq (⟨"CoatsByLotModel", "worked", "(III)I"⟩, 24) := ⟨⟨by decide +kernel, by decide +kernel⟩, List.mem_of_getElem? (i := 1108) (by decide +kernel), List.mem_of_getElem? (i := 1285) (by decide +kernel), List.mem_of_getElem? (i := 1286) (by decide +kernel)⟩
theorem lw_p34 : lw_okq (⟨"CoatsByLotModel", "either", "()I"⟩, 24) := ⟨⟨by decide +kernel, by decide +kernel⟩, List.mem_of_getElem? (i := 1108) (by decide +kernel), List.mem_of_getElem? (i := 1289) (by decide +kernel), List.mem_of_getElem? (i := 1290) (by decide +kernel)⟩
theorem lw_p35 : lw_okq (⟨"CoatsByLotModel", "both", "()I"⟩, 24) := ⟨⟨by decide +kernel, by decide +kernel⟩, List.mem_of_getElem? (i := 1108) (by decide +kernel), List.mem_of_getElem? (i := 1293) (by decide +kernel), List.mem_of_getElem? (i := 1294) (by decide +kernel)⟩
theorem lw_p36 : lw_okq (⟨"CoatsByLotModel", "compared", "()I"⟩, 24) := ⟨⟨by decide +kernel, by decide +kernel⟩, List.mem_of_getElem? (i := 1108) (by decide +kernel), List.mem_of_getElem? (i := 1297) (by decide +kernel), List.mem_of_getElem? (i := 1298) (by decide +kernel)⟩
theorem lw_p37 : lw_okq (⟨"CoatsByLotModel", "sum", "()I"⟩, 24) := ⟨⟨by decide +kernel, by decide +kernel⟩, List.mem_of_getElem? (i := 1108) (by decide +kernel), List.mem_of_getElem? (i := 1301) (by decide +kernel), List.mem_of_getElem? (i := 1302) (by decide +kernel)⟩
theorem lw_p38 : lw_okq (⟨"CoatsByLotModel", "product", "()I"⟩, 24) := ⟨⟨by decide +kernel, by decide +kernel⟩, List.mem_of_getElem? (i := 1108) (by decide +kernel), List.mem_of_getElem? (i := 1305) (by decide +kernel), List.mem_of_getElem? (i := 1306) (by decide +kernel)⟩
theorem lw_p39 : lw_okq (⟨"CoatsByLotModel", "unit", "()I"⟩, 24) := ⟨⟨by decide +kernel, by decide +kernel⟩, List.mem_of_getElem? (i := 1108) (by decide +kernel), List.mem_of_getElem? (i := 1309) (by decide +kernel), List.mem_of_getElem? (i := 1310) (by decide +kernel)⟩
theorem lw_p40 : lw_okq (⟨"CoatsByLotModel", "here", "()I"⟩, 24) := ⟨⟨by decide +kernel, by decide +kernel⟩, List.mem_of_getElem? (i := 1108) (by decide +kernel), List.mem_of_getElem? (i := 1313) (by decide +kernel), List.mem_of_getElem? (i := 1314) (by decide +kernel)⟩
theorem lw_p41 : lw_okq (⟨"CoatsByLotModel", "wrong", "()I"⟩, 24) := ⟨⟨by decide +kernel, by decide +kernel⟩, List.mem_of_getElem? (i := 1108) (by decide +kernel), List.mem_of_getElem? (i := 1317) (by decide +kernel), List.mem_of_getElem? (i := 1318) (by decide +kernel)⟩
theorem lw_p42 : lw_okq (⟨"CoatsByLotModel", "takes", "(I)Z"⟩, 24) := ⟨⟨by decide +kernel, by decide +kernel⟩, List.mem_of_getElem? (i := 1108) (by decide +kernel), List.mem_of_getElem? (i := 1321) (by decide +kernel), List.mem_of_getElem? (i := 1322) (by decide +kernel)⟩
theorem lw_p43 : lw_okq (⟨"CoatsByLotModel", "nameOf", "(I)I"⟩, 24) := ⟨⟨by decide +kernel, by decide +kernel⟩, List.mem_of_getElem? (i := 1108) (by decide +kernel), List.mem_of_getElem? (i := 1325) (by decide +kernel), List.mem_of_getElem? (i := 1326) (by decide +kernel)⟩
theorem lw_p44 : lw_okq (⟨"CoatsByLotModel", "gives", "(I)I"⟩, 24) := ⟨⟨by decide +kernel, by decide +kernel⟩, List.mem_of_getElem? (i := 1108) (by decide +kernel), List.mem_of_getElem? (i := 1335) (by decide +kernel), List.mem_of_getElem? (i := 1336) (by decide +kernel)⟩
theorem lw_p45 : lw_okq (⟨"CoatsByLotModel", "areRight", "(IIII)Z"⟩, 24) := ⟨⟨by decide +kernel, by decide +kernel⟩, List.mem_of_getElem? (i := 1108) (by decide +kernel), List.mem_of_getElem? (i := 1343) (by decide +kernel), List.mem_of_getElem? (i := 1344) (by decide +kernel)⟩
theorem lw_p46 : lw_okq (⟨"CoatsByLotModel", "comes", "(IIII)V"⟩, 24) := ⟨⟨by decide +kernel, by decide +kernel⟩, List.mem_of_getElem? (i := 1108) (by decide +kernel), List.mem_of_getElem? (i := 1352) (by decide +kernel), List.mem_of_getElem? (i := 1353) (by decide +kernel)⟩
theorem lw_p47 : lw_okq (⟨"CoatsByLotModel", "isGroup", "(I)Z"⟩, 24) := ⟨⟨by decide +kernel, by decide +kernel⟩, List.mem_of_getElem? (i := 1108) (by decide +kernel), List.mem_of_getElem? (i := 1360) (by decide +kernel), List.mem_of_getElem? (i := 1361) (by decide +kernel)⟩
def lw_privs_3 : List (MethodName × Nat) := [(⟨"CoatsByLotModel", "lotsWith", "(I)I"⟩, 24), (⟨"CoatsByLotModel", "worked", "(III)I"⟩, 24), (⟨"CoatsByLotModel", "either", "()I"⟩, 24), (⟨"CoatsByLotModel", "both", "()I"⟩, 24), (⟨"CoatsByLotModel", "compared", "()I"⟩, 24), (⟨"CoatsByLotModel", "sum", "()I"⟩, 24), (⟨"CoatsByLotModel", "product", "()I"⟩, 24), (⟨"CoatsByLotModel", "unit", "()I"⟩, 24), (⟨"CoatsByLotModel", "here", "()I"⟩, 24), (⟨"CoatsByLotModel", "wrong", "()I"⟩, 24), (⟨"CoatsByLotModel", "takes", "(I)Z"⟩, 24), (⟨"CoatsByLotModel", "nameOf", "(I)I"⟩, 24), (⟨"CoatsByLotModel", "gives", "(I)I"⟩, 24), (⟨"CoatsByLotModel", "areRight", "(IIII)Z"⟩, 24), (⟨"CoatsByLotModel", "comes", "(IIII)V"⟩, 24), (⟨"CoatsByLotModel", "isGroup", "(I)Z"⟩, 24)]
theorem lw_r3 : ∀ q ∈ lw_privs_3, lw_okq q := List.forall_mem_cons.mpr ⟨lw_p32, List.forall_mem_cons.mpr ⟨lw_p33, List.forall_mem_cons.mpr ⟨lw_p34, List.forall_mem_cons.mpr ⟨lw_p35, List.forall_mem_cons.mpr ⟨lw_p36, List.forall_mem_cons.mpr ⟨lw_p37, List.forall_mem_cons.mpr ⟨lw_p38, List.forall_mem_cons.mpr ⟨lw_p39, List.forall_mem_cons.mpr ⟨lw_p40, List.forall_mem_cons.mpr ⟨lw_p41, List.forall_mem_cons.mpr ⟨lw_p42, List.forall_mem_cons.mpr ⟨lw_p43, List.forall_mem_cons.mpr ⟨lw_p44, List.forall_mem_cons.mpr ⟨lw_p45, List.forall_mem_cons.mpr ⟨lw_p46, List.forall_mem_cons.mpr ⟨lw_p47, fun _ h => absurd h List.not_mem_nil⟩⟩⟩⟩⟩⟩⟩⟩⟩⟩⟩⟩⟩⟩⟩⟩
theorem lw_p48 : lw_okq (⟨"CoatsByLotModel", "gr", "(II)I"⟩, 24) := ⟨⟨by decide +kernel, by decide +kernel⟩, List.mem_of_getElem? (i := 1108) (by decide +kernel), List.mem_of_getElem? (i := 1365) (by decide +kernel), List.mem_of_getElem? (i := 1366) (by decide +kernel)⟩
theorem lw_p49 : lw_okq (⟨"CoatsByLotModel", "pays", "(I)Z"⟩, 24) := ⟨⟨by decide +kernel, by decide +kernel⟩, List.mem_of_getElem? (i := 1108) (by decide +kernel), List.mem_of_getElem? (i := 1369) (by decide +kernel), List.mem_of_getElem? (i := 1370) (by decide +kernel)⟩
theorem lw_p50 : lw_okq (⟨"CoatsByLotModel", "allLots", "()I"⟩, 24) := ⟨⟨by decide +kernel, by decide +kernel⟩, List.mem_of_getElem? (i := 1108) (by decide +kernel), List.mem_of_getElem? (i := 1373) (by decide +kernel), List.mem_of_getElem? (i := 1374) (by decide +kernel)⟩
theorem lw_p51 : lw_okq (⟨"CoatsByLotModel", "paysBy", "(IIII)Z"⟩, 24) := ⟨⟨by decide +kernel, by decide +kernel⟩, List.mem_of_getElem? (i := 1108) (by decide +kernel), List.mem_of_getElem? (i := 1377) (by decide +kernel), List.mem_of_getElem? (i := 1378) (by decide +kernel)⟩
theorem lw_p52 : lw_okq (⟨"CoatsByLotModel", "weighs", "(IIII)Z"⟩, 24) := ⟨⟨by decide +kernel, by decide +kernel⟩, List.mem_of_getElem? (i := 1108) (by decide +kernel), List.mem_of_getElem? (i := 1381) (by decide +kernel), List.mem_of_getElem? (i := 1382) (by decide +kernel)⟩
theorem lw_p53 : lw_okq (⟨"CoatsByLotModel", "isSet", "(I)Z"⟩, 24) := ⟨⟨by decide +kernel, by decide +kernel⟩, List.mem_of_getElem? (i := 1108) (by decide +kernel), List.mem_of_getElem? (i := 1405) (by decide +kernel), List.mem_of_getElem? (i := 1406) (by decide +kernel)⟩
theorem lw_p54 : lw_okq (⟨"CoatsByLotModel", "whyNot", "(I)I"⟩, 24) := ⟨⟨by decide +kernel, by decide +kernel⟩, List.mem_of_getElem? (i := 1108) (by decide +kernel), List.mem_of_getElem? (i := 1409) (by decide +kernel), List.mem_of_getElem? (i := 1410) (by decide +kernel)⟩
theorem lw_p55 : lw_okq (⟨"CoatsByLotModel", "findRow", "(I)V"⟩, 24) := ⟨⟨by decide +kernel, by decide +kernel⟩, List.mem_of_getElem? (i := 1108) (by decide +kernel), List.mem_of_getElem? (i := 1413) (by decide +kernel), List.mem_of_getElem? (i := 1414) (by decide +kernel)⟩
theorem lw_p56 : lw_okq (⟨"CoatsByLotModel", "isShift", "(I)Z"⟩, 24) := ⟨⟨by decide +kernel, by decide +kernel⟩, List.mem_of_getElem? (i := 1108) (by decide +kernel), List.mem_of_getElem? (i := 1425) (by decide +kernel), List.mem_of_getElem? (i := 1426) (by decide +kernel)⟩
theorem lw_p57 : lw_okq (⟨"CoatsByLotModel", "findsOf", "(I)I"⟩, 24) := ⟨⟨by decide +kernel, by decide +kernel⟩, List.mem_of_getElem? (i := 1108) (by decide +kernel), List.mem_of_getElem? (i := 1434) (by decide +kernel), List.mem_of_getElem? (i := 1435) (by decide +kernel)⟩
theorem lw_p58 : lw_okq (⟨"CoatsByLotModel", "unpaidBy", "(I)I"⟩, 24) := ⟨⟨by decide +kernel, by decide +kernel⟩, List.mem_of_getElem? (i := 1108) (by decide +kernel), List.mem_of_getElem? (i := 1452) (by decide +kernel), List.mem_of_getElem? (i := 1453) (by decide +kernel)⟩
theorem lw_p59 : lw_okq (⟨"CoatsByLotModel", "coinUp", "()J"⟩, 24) := ⟨⟨by decide +kernel, by decide +kernel⟩, List.mem_of_getElem? (i := 1108) (by decide +kernel), List.mem_of_getElem? (i := 1460) (by decide +kernel), List.mem_of_getElem? (i := 1461) (by decide +kernel)⟩
theorem lw_p60 : lw_okq (⟨"CoatsByLotModel", "findBest", "(I)V"⟩, 24) := ⟨⟨by decide +kernel, by decide +kernel⟩, List.mem_of_getElem? (i := 1108) (by decide +kernel), List.mem_of_getElem? (i := 1469) (by decide +kernel), List.mem_of_getElem? (i := 1470) (by decide +kernel)⟩
theorem lw_p61 : lw_okq (⟨"CoatsByLotModel", "isNext", "(I)Z"⟩, 24) := ⟨⟨by decide +kernel, by decide +kernel⟩, List.mem_of_getElem? (i := 1108) (by decide +kernel), List.mem_of_getElem? (i := 1473) (by decide +kernel), List.mem_of_getElem? (i := 1474) (by decide +kernel)⟩
theorem lw_p62 : lw_okq (⟨"CoatsByLotModel", "aDay", "()I"⟩, 24) := ⟨⟨by decide +kernel, by decide +kernel⟩, List.mem_of_getElem? (i := 1108) (by decide +kernel), List.mem_of_getElem? (i := 1486) (by decide +kernel), List.mem_of_getElem? (i := 1487) (by decide +kernel)⟩
theorem lw_p63 : lw_okq (⟨"CoatsByLotModel", "drawn", "()I"⟩, 24) := ⟨⟨by decide +kernel, by decide +kernel⟩, List.mem_of_getElem? (i := 1108) (by decide +kernel), List.mem_of_getElem? (i := 1490) (by decide +kernel), List.mem_of_getElem? (i := 1491) (by decide +kernel)⟩
def lw_privs_4 : List (MethodName × Nat) := [(⟨"CoatsByLotModel", "gr", "(II)I"⟩, 24), (⟨"CoatsByLotModel", "pays", "(I)Z"⟩, 24), (⟨"CoatsByLotModel", "allLots", "()I"⟩, 24), (⟨"CoatsByLotModel", "paysBy", "(IIII)Z"⟩, 24), (⟨"CoatsByLotModel", "weighs", "(IIII)Z"⟩, 24), (⟨"CoatsByLotModel", "isSet", "(I)Z"⟩, 24), (⟨"CoatsByLotModel", "whyNot", "(I)I"⟩, 24), (⟨"CoatsByLotModel", "findRow", "(I)V"⟩, 24), (⟨"CoatsByLotModel", "isShift", "(I)Z"⟩, 24), (⟨"CoatsByLotModel", "findsOf", "(I)I"⟩, 24), (⟨"CoatsByLotModel", "unpaidBy", "(I)I"⟩, 24), (⟨"CoatsByLotModel", "coinUp", "()J"⟩, 24), (⟨"CoatsByLotModel", "findBest", "(I)V"⟩, 24), (⟨"CoatsByLotModel", "isNext", "(I)Z"⟩, 24), (⟨"CoatsByLotModel", "aDay", "()I"⟩, 24), (⟨"CoatsByLotModel", "drawn", "()I"⟩, 24)]
theorem lw_r4 : ∀ q ∈ lw_privs_4, lw_okq q := List.forall_mem_cons.mpr ⟨lw_p48, List.forall_mem_cons.mpr ⟨lw_p49, List.forall_mem_cons.mpr ⟨lw_p50, List.forall_mem_cons.mpr ⟨lw_p51, List.forall_mem_cons.mpr ⟨lw_p52, List.forall_mem_cons.mpr ⟨lw_p53, List.forall_mem_cons.mpr ⟨lw_p54, List.forall_mem_cons.mpr ⟨lw_p55, List.forall_mem_cons.mpr ⟨lw_p56, List.forall_mem_cons.mpr ⟨lw_p57, List.forall_mem_cons.mpr ⟨lw_p58, List.forall_mem_cons.mpr ⟨lw_p59, List.forall_mem_cons.mpr ⟨lw_p60, List.forall_mem_cons.mpr ⟨lw_p61, List.forall_mem_cons.mpr ⟨lw_p62, List.forall_mem_cons.mpr ⟨lw_p63, fun _ h => absurd h List.not_mem_nil⟩⟩⟩⟩⟩⟩⟩⟩⟩⟩⟩⟩⟩⟩⟩⟩
theorem lw_p64 : lw_okq (⟨"CoatsByLotModel", "isCaught", "(I)V"⟩, 24) := ⟨⟨by decide +kernel, by decide +kernel⟩, List.mem_of_getElem? (i := 1108) (by decide +kernel), List.mem_of_getElem? (i := 1495) (by decide +kernel), List.mem_of_getElem? (i := 1496) (by decide +kernel)⟩
theorem lw_p65 : lw_okq (⟨"CoatsByLotModel", "own", "()I"⟩, 24) := ⟨⟨by decide +kernel, by decide +kernel⟩, List.mem_of_getElem? (i := 1108) (by decide +kernel), List.mem_of_getElem? (i := 1546) (by decide +kernel), List.mem_of_getElem? (i := 1547) (by decide +kernel)⟩
theorem lw_p66 : lw_okq (⟨"CoatsByLotModel", "goes", "(II)I"⟩, 24) := ⟨⟨by decide +kernel, by decide +kernel⟩, List.mem_of_getElem? (i := 1108) (by decide +kernel), List.mem_of_getElem? (i := 1550) (by decide +kernel), List.mem_of_getElem? (i := 1551) (by decide +kernel)⟩
theorem lw_p67 : lw_okq (⟨"CoatsByLotModel", "ran", "(I)V"⟩, 24) := ⟨⟨by decide +kernel, by decide +kernel⟩, List.mem_of_getElem? (i := 1108) (by decide +kernel), List.mem_of_getElem? (i := 1554) (by decide +kernel), List.mem_of_getElem? (i := 1555) (by decide +kernel)⟩
theorem lw_p68 : lw_okq (⟨"CoatsByLotModel", "weighsOf", "(II)I"⟩, 24) := ⟨⟨by decide +kernel, by decide +kernel⟩, List.mem_of_getElem? (i := 1108) (by decide +kernel), List.mem_of_getElem? (i := 1561) (by decide +kernel), List.mem_of_getElem? (i := 1562) (by decide +kernel)⟩
theorem lw_p69 : lw_okq (⟨"CoatsByLotModel", "tellsOf", "(II)I"⟩, 24) := ⟨⟨by decide +kernel, by decide +kernel⟩, List.mem_of_getElem? (i := 1108) (by decide +kernel), List.mem_of_getElem? (i := 1565) (by decide +kernel), List.mem_of_getElem? (i := 1566) (by decide +kernel)⟩
theorem lw_p70 : lw_okq (⟨"CoatsByLotModel", "paysOf", "(II)I"⟩, 24) := ⟨⟨by decide +kernel, by decide +kernel⟩, List.mem_of_getElem? (i := 1108) (by decide +kernel), List.mem_of_getElem? (i := 1569) (by decide +kernel), List.mem_of_getElem? (i := 1570) (by decide +kernel)⟩
def lw_privs_5 : List (MethodName × Nat) := [(⟨"CoatsByLotModel", "isCaught", "(I)V"⟩, 24), (⟨"CoatsByLotModel", "own", "()I"⟩, 24), (⟨"CoatsByLotModel", "goes", "(II)I"⟩, 24), (⟨"CoatsByLotModel", "ran", "(I)V"⟩, 24), (⟨"CoatsByLotModel", "weighsOf", "(II)I"⟩, 24), (⟨"CoatsByLotModel", "tellsOf", "(II)I"⟩, 24), (⟨"CoatsByLotModel", "paysOf", "(II)I"⟩, 24)]
theorem lw_r5 : ∀ q ∈ lw_privs_5, lw_okq q := List.forall_mem_cons.mpr ⟨lw_p64, List.forall_mem_cons.mpr ⟨lw_p65, List.forall_mem_cons.mpr ⟨lw_p66, List.forall_mem_cons.mpr ⟨lw_p67, List.forall_mem_cons.mpr ⟨lw_p68, List.forall_mem_cons.mpr ⟨lw_p69, List.forall_mem_cons.mpr ⟨lw_p70, fun _ h => absurd h List.not_mem_nil⟩⟩⟩⟩⟩⟩⟩
def lw_privs : List (MethodName × Nat) := lw_privs_1 ++ (lw_privs_2 ++ (lw_privs_3 ++ (lw_privs_4 ++ (lw_privs_5))))
def lw_tbl : List Cond := k2_sels lw_privs ++ tables_1
theorem lw_privs_ok : ∀ q ∈ lw_privs, lw_okq q := by
  show ∀ q ∈ lw_privs_1 ++ (lw_privs_2 ++ (lw_privs_3 ++ (lw_privs_4 ++ (lw_privs_5)))), lw_okq q
  exact List.forall_mem_append.mpr ⟨lw_r1, List.forall_mem_append.mpr ⟨lw_r2, List.forall_mem_append.mpr ⟨lw_r3, List.forall_mem_append.mpr ⟨lw_r4, lw_r5⟩⟩⟩⟩
-- ===== end of PART A; then your names; then what follows =====
/-! ===== BEGIN words of one list among another's, by their places ===== -/
theorem goodIn_r {big : List Cond} (ws : List Cond) (ps : List Nat) (hp : ws = ps.filterMap (fun i => big[i]?)) (h : ws.all goodWord = true) : GoodIn big ws := by
  intro w hw
  have h1 := List.all_eq_true.mp h w hw
  rw [hp] at hw
  obtain ⟨i, -, hi⟩ := List.mem_filterMap.mp hw
  have hm : w ∈ big := by first | exact List.mem_of_getElem? hi | exact List.getElem?_mem hi
  exact ⟨hm, good_of_word h1⟩
theorem goodIn_app {big a b : List Cond} (ha : GoodIn big a) (hb : GoodIn big b) : GoodIn big (a ++ b) := fun w h => (List.mem_append.mp h).elim (ha w) (hb w)
theorem goodIn_ca {big a b : List Cond} {c : Cond} (ha : GoodIn big (c :: a)) (hb : GoodIn big b) : GoodIn big (c :: (a ++ b)) := fun w h => (List.mem_cons.mp h).elim (fun e => ha w (List.mem_cons.mpr (Or.inl e))) (fun h => (List.mem_append.mp h).elim (fun h => ha w (List.mem_cons.mpr (Or.inr h))) (hb w))
theorem goodIn_sub {big ws : List Cond} (hm : ∀ w ∈ ws, w ∈ big) (h : ws.all goodWord = true) : GoodIn big ws := fun w hw => ⟨hm w hw, good_of_word (List.all_eq_true.mp h w hw)⟩
/-! ===== END ===== -/

def va_AOA (ty : FieldType) (U : State) : Prop := (Cond.arrayOver (.array ty)).before #[] U = true
theorem va_AOA.of {ty : FieldType} {A : Array Value} {U : State} (h : (Cond.arrayOver (.array ty)).before A U = true) : va_AOA ty U := h
theorem va_AOA.use {ty : FieldType} {A : Array Value} {U : State} (h : va_AOA ty U) : (Cond.arrayOver (.array ty)).before A U = true := h
/-! ===== BEGIN new T[n][m]: the outer array a place, the inner ones among the pooled ===== -/
/-- f, but v at every address of l -/
def vr_up {α : Type} (f : Nat → α) (l : List Nat) (v : α) : Nat → α := fun a => if a ∈ l then v else f a
theorem vr_up_in {α : Type} {f : Nat → α} {l : List Nat} {v : α} {a : Nat} (h : a ∈ l) : vr_up f l v a = v := if_pos h
theorem vr_up_ne {α : Type} {f : Nat → α} {l : List Nat} {v : α} {a : Nat} (h : a ∉ l) : vr_up f l v a = f a := if_neg h
theorem vr_rows {L l : List Nat} {f : Nat → va_E} {e : va_E} (h : ∀ a, a ∈ l → a ∉ L) : va_pl L f ++ l.map (fun a => (a, e)) = va_pl (L ++ l) (vr_up f l e) := by
  unfold va_pl
  rw [List.map_append]
  congr 1
  · apply List.map_congr_left
    intro a ha
    rw [vr_up_ne (fun q => h a q ha)]
  · apply List.map_congr_left
    intro a ha
    rw [vr_up_in ha]
theorem vr_lay {X rows : va_W} {x : Nat × va_E} {pl : va_W} {D : va_G} {cl : List vw_C} {H : Heap} (hP : va_P D cl (((X ++ pl) ++ [x]) ++ rows) H) : va_P D cl ((X ++ [x]) ++ (pl ++ rows)) H := by
  rw [List.append_assoc (X ++ pl)] at hP
  have h := va_P.swap hP
  rw [← List.append_assoc X] at h
  have h2 := va_P.swap h
  rw [List.append_assoc (X ++ [x])] at h2
  exact h2
theorem vr_layD {X rows : va_W} {x : Nat × va_E} {pl : va_W} {A : Nat → Prop} (hD : va_D A (((X ++ pl) ++ [x]) ++ rows)) : va_D A ((X ++ [x]) ++ (pl ++ rows)) := by
  rw [List.append_assoc (X ++ pl)] at hD
  have h := va_D.swap hD
  rw [← List.append_assoc X] at h
  have h2 := va_D.swap h
  rw [List.append_assoc (X ++ [x])] at h2
  exact h2
theorem vr_outer (c : ClassId) (N h0 : Nat) : ∀ i : Nat, Jvm.Free.Multi.outerC c N h0 i = arrV c N (fun j => va_rf (if j < i then some (h0 + 1 + j) else none))
  | 0 => by
    show ({ cls := c, slots := Array.replicate N .null, vm := .none } : Cell) = _
    rw [arrV_new]
    refine congrArg (arrV c N) (funext fun j => ?_)
    simp [va_rf]
  | i + 1 => by
    show (Jvm.Free.Multi.outerC c N h0 i).setSlot i (.ref (h0 + 1 + i)) = _
    rw [vr_outer c N h0 i, arrV_store]
    refine congrArg (arrV c N) (funext fun j => ?_)
    by_cases e : j = i
    · subst e
      simp [updV, va_rf]
    · by_cases h : j < i
      · simp [updV, e, h, Nat.lt_succ_of_lt h]
      · simp [updV, e, h, show ¬ j < i + 1 by omega]
section VGM
variable {p : Program} {l : Launch} {e : Env} {R : Room} {s : State} {m : MethodId} {args : Array Value} {below : List Frame} {meth : Method} {c : Code} {H : Heap} {locs : List Loc} {cells slots : Nat} {Q : State → Prop}
variable {cc : ByteArray} {pc : Nat} {ls : Array Slot} {rest : List Value} {D : va_G} {cl : List vw_C} {A : Nat → Prop} {a : Nat} {tys : List (ClassId × FieldType)} {ws : va_W} {H0 : Heap}
theorem va_mna {X : va_W} {L : List Nat} {f : Nat → va_E} {cc : ByteArray} (hexec : p.tables.exec = Jvm.exec) (hb : c.code = cc) {own : String} {index : Nat} {ty : FieldType} {cy : ClassId} (hown : s.vm.findClass own = some m.cls) (hclink : (Cond.classLink own index ("[" ++ (FieldType.array ty).toString)).before args s = true) (hover : va_AOA ty s) (harr : (Cond.arrayClass ty).before args s = true) (hcy : s.vm.findClass (FieldType.array ty).toString = some cy)
    (hK : va_K D cl tys s) (hP : va_P D cl (X ++ va_pl L f) H) (hD : va_D A (X ++ va_pl L f)) (hS : va_S A H0 H locs) (hA : ∀ q, H0.size ≤ q → A q) {n k : Int32} {N' K' : Nat} {z : vp_A} (hn : ¬ n < 0) (hk : ¬ k < 0) (hN : n.toNatClampNeg = N') (hM : k.toNatClampNeg = K')
    (hb1 : N' * 4 ≤ 536870912) (hb2 : K' * componentBytes ty ≤ 536870912) (hb3 : K' ≤ 536870912) (hdf : fits ty (defaultValue ty) = true) (hdd : (defaultValue ty).isDefault = true) (hcells : cells + (1 + N') ≤ R.cells) (hslots : slots + (N' + N' * K') ≤ R.slots) (hz : ∀ c : ClassId, Jvm.Free.Multi.innerC c K' (defaultValue ty) = vp_cell c z) (hdg : decode cc pc = .ok (.multianewarray index 2, 4))
    (kk : ∀ (q : Nat) (r : Nat → Nat) (cA : ClassId) (H1 : Heap), (∀ i j : Nat, i < N' → j < N' → r i = r j → i = j) → (∀ i : Nat, i < N' → r i ∉ L) → va_K D cl (tys ++ [(cA, .array ty)]) s →
      va_P D cl ((X ++ [(q, .inl (cA, N', .inr (.inr (.inr (.inr (fun i => if i < N' then some (r i) else none))))))]) ++ va_pl (L ++ (List.range N').map r) (vr_up f ((List.range N').map r) (.inl (cy, z)))) H1 → va_D A ((X ++ [(q, .inl (cA, N', .inr (.inr (.inr (.inr (fun i => if i < N' then some (r i) else none))))))]) ++ va_pl (L ++ (List.range N').map r) (vr_up f ((List.range N').map r) (.inl (cy, z)))) → va_S A H0 H1 locs →
      W p l e R s m args below meth c H1 locs (cells + 1 + N') (slots + N' + N' * K') Q (F0 m (pc + 4) ls (.ref q :: rest))) : W p l e R s m args below meth c H locs cells slots Q (F0 m pc ls (.int k :: .int n :: rest)) := by
  subst hN
  subst hM
  intro T hT Xs
  obtain ⟨vm₁, cA, comp, -, fA, fC, hO, -, X', step⟩ := Xs.multianewarray2F hexec hown hclink (va_AOA.use hover) harr (g := F0 m pc ls (.int k :: .int n :: rest)) rfl (by rw [hb]; exact hdg) rfl hn hk hb1 hb2 hb3 hdf hdd hcells hslots
  have ec : some cy = some comp := hcy.symm.trans fC
  cases ec
  generalize hF : Jvm.Free.Multi.fill (T.setVm vm₁) cA cy n.toNatClampNeg k.toNatClampNeg (defaultValue ty) n.toNatClampNeg = F at X' step
  have hTh : (T.setVm vm₁).heap = H := hT
  obtain ⟨f1, f2, -, -⟩ := Jvm.Free.Multi.fill_facts (T.setVm vm₁) cA cy n.toNatClampNeg k.toNatClampNeg (defaultValue ty) n.toNatClampNeg
  rw [hF, hTh] at f1 f2
  have hold : ∀ x : Nat, x < H.size → F.heap[x]? = H[x]? := fun x hx => by
    have := Jvm.Free.Multi.fill_old (T.setVm vm₁) cA cy n.toNatClampNeg k.toNatClampNeg (defaultValue ty) (a := x) (by rw [hTh]; exact hx) n.toNatClampNeg
    rw [hF, hTh] at this
    exact this
  have hrow : ∀ j : Nat, j < n.toNatClampNeg → F.heap[H.size + 1 + j]? = some (vp_cell cy z) := fun j hj => by
    have := Jvm.Free.Multi.fill_inner (T.setVm vm₁) cA cy n.toNatClampNeg k.toNatClampNeg (defaultValue ty) n.toNatClampNeg j hj
    rw [hF, hTh, hz] at this
    exact this
  have hout : Jvm.Free.Multi.outerC cA n.toNatClampNeg H.size n.toNatClampNeg = vp_cell cA (n.toNatClampNeg, .inr (.inr (.inr (.inr (fun i => if i < n.toNatClampNeg then some (H.size + 1 + i) else none))))) := by
    rw [vp_cell_q]
    exact vr_outer cA n.toNatClampNeg H.size n.toNatClampNeg
  rw [hout] at f2
  have hlt : ∀ a, a ∈ L → a < H.size := fun a ha => by
    obtain ⟨k9, hk9⟩ := va_pl_get (X := X) (f := f) ha
    exact (hP k9 _ hk9).lt
  have hnl : ∀ i : Nat, i < n.toNatClampNeg → H.size + 1 + i ∉ L := fun i _ h => by
    have := hlt _ h
    omega
  have hnm : ∀ a, a ∈ (List.range n.toNatClampNeg).map (fun i => H.size + 1 + i) → a ∉ L := fun a ha h => by
    obtain ⟨i, -, rfl⟩ := List.mem_map.mp ha
    have := hlt _ h
    omega
  have hP0 : va_P D cl (X ++ va_pl L f) F.heap := hP.kept (fun k9 x hx => hold x.1 ((hP k9 x hx).lt))
  have hP1 : va_P D cl ((X ++ va_pl L f) ++ [(H.size, .inl (cA, n.toNatClampNeg, .inr (.inr (.inr (.inr (fun i => if i < n.toNatClampNeg then some (H.size + 1 + i) else none))))))]) F.heap := hP0.app (fun k9 x hx => by
    have h0 : k9 < 1 := (List.getElem?_eq_some_iff.mp hx).1
    rw [show k9 = 0 by omega] at hx
    cases hx
    exact f2)
  have hP2 : va_P D cl (((X ++ va_pl L f) ++ [(H.size, .inl (cA, n.toNatClampNeg, .inr (.inr (.inr (.inr (fun i => if i < n.toNatClampNeg then some (H.size + 1 + i) else none))))))]) ++ ((List.range n.toNatClampNeg).map (fun i => H.size + 1 + i)).map (fun a => (a, .inl (cy, z)))) F.heap := hP1.app (fun k9 x hx => by
    obtain ⟨a, ha, rfl⟩ := List.mem_map.mp (List.mem_of_getElem? hx)
    obtain ⟨i, hi, rfl⟩ := List.mem_map.mp ha
    exact hrow i (List.mem_range.mp hi))
  have hD2 : va_D A (((X ++ va_pl L f) ++ [(H.size, .inl (cA, n.toNatClampNeg, .inr (.inr (.inr (.inr (fun i => if i < n.toNatClampNeg then some (H.size + 1 + i) else none))))))]) ++ ((List.range n.toNatClampNeg).map (fun i => H.size + 1 + i)).map (fun a => (a, .inl (cy, z)))) := by
    have hD1 := hD.push (e := .inl (cA, n.toNatClampNeg, .inr (.inr (.inr (.inr (fun i => if i < n.toNatClampNeg then some (H.size + 1 + i) else none)))))) hP rfl (hA _ hS.1)
    generalize hW1 : (X ++ va_pl L f) ++ [(H.size, .inl (cA, n.toNatClampNeg, .inr (.inr (.inr (.inr (fun i => if i < n.toNatClampNeg then some (H.size + 1 + i) else none))))))] = W1 at hD1 hP1 ⊢
    have hle : ∀ (k9 : Nat) (x : Nat × va_E), W1[k9]? = some x → x.1 ≤ H.size := fun k9 x hx => by
      rw [← hW1] at hx
      by_cases hl : k9 < (X ++ va_pl L f).length
      · rw [List.getElem?_append_left hl] at hx
        exact Nat.le_of_lt ((hP k9 x hx).lt)
      · rw [List.getElem?_append_right (by omega)] at hx
        have h0 : k9 - (X ++ va_pl L f).length < 1 := (List.getElem?_eq_some_iff.mp hx).1
        rw [show k9 - (X ++ va_pl L f).length = 0 by omega] at hx
        cases hx
        exact Nat.le_refl _
    have hr : ∀ (k9 : Nat) (x : Nat × va_E), (((List.range n.toNatClampNeg).map (fun i => H.size + 1 + i)).map (fun a => ((a, .inl (cy, z)) : Nat × va_E)))[k9]? = some x → x.1 = H.size + 1 + k9 := fun k9 x hx => by
      rw [List.getElem?_map, List.getElem?_map] at hx
      by_cases h9 : k9 < n.toNatClampNeg
      · rw [List.getElem?_range h9] at hx
        cases hx
        rfl
      · have hn0 : (List.range n.toNatClampNeg)[k9]? = none := List.getElem?_eq_none (by rw [List.length_range]; omega)
        rw [hn0] at hx
        cases hx
    refine ⟨fun i j x y hi hj hxy => ?_, fun k9 x hx => ?_⟩
    · by_cases h1 : i < W1.length <;> by_cases h2 : j < W1.length
      · rw [List.getElem?_append_left h1] at hi
        rw [List.getElem?_append_left h2] at hj
        exact hD1.1 i j x y hi hj hxy
      · rw [List.getElem?_append_left h1] at hi
        rw [List.getElem?_append_right (by omega)] at hj
        have := hle _ _ hi
        have := hr _ _ hj
        omega
      · rw [List.getElem?_append_right (by omega)] at hi
        rw [List.getElem?_append_left h2] at hj
        have := hle _ _ hj
        have := hr _ _ hi
        omega
      · rw [List.getElem?_append_right (by omega)] at hi hj
        have := hr _ _ hi
        have := hr _ _ hj
        omega
    · by_cases h1 : k9 < W1.length
      · rw [List.getElem?_append_left h1] at hx
        exact hD1.2 k9 x hx
      · rw [List.getElem?_append_right (by omega)] at hx
        have := hr _ _ hx
        exact hA _ (by have := hS.1; omega)
  have hAr : ArrOfT s cA (.array ty) := fun N9 z9 => by
    obtain ⟨-, k9, hk9, cm9, hkk9⟩ := (hO 0 0 0).1
    exact ⟨(fun q hq => by cases hq), k9, hk9, cm9, hkk9⟩
  have hK2 : va_K D cl (tys ++ [(cA, .array ty)]) s := ⟨hK.1, fun k9 x hx => by
    by_cases hl : k9 < tys.length
    · rw [List.getElem?_append_left hl] at hx
      exact hK.2 k9 x hx
    · rw [List.getElem?_append_right (by omega)] at hx
      have h0 : k9 - tys.length < 1 := (List.getElem?_eq_some_iff.mp hx).1
      rw [show k9 - tys.length = 0 by omega] at hx
      cases hx
      exact ⟨hAr, fA⟩⟩
  obtain ⟨t, a1, b1⟩ := kk H.size (fun i => H.size + 1 + i) cA F.heap (fun i j _ _ h => by have h9 : H.size + 1 + i = H.size + 1 + j := h; omega) hnl hK2 (by rw [← vr_rows hnm]; exact vr_lay hP2) (by rw [← vr_rows hnm]; exact vr_layD hD2) ⟨by rw [f1]; have := hS.1; omega, fun x h1 h2 => (hold x (Nat.lt_of_lt_of_le h1 hS.1)).trans (hS.2.1 x h1 h2), hS.2.2⟩ F rfl X'
  refine ⟨t, step t ?_, b1⟩
  have e : T.heap.size = H.size := by rw [hT]
  rw [e]
  exact a1
end VGM
/-! ===== END ===== -/

/-! ===== BEGIN printed: names, fields, word lists, decode rows ===== -/
def RX0 : String := "CoatsByLot$Desk"
def TX0 : u_T := fun k => match k with
  | 0 => ("CoatsByLot$Desk", "bytes", "I", false)
  | 1 => ("CoatsByLot$Desk", "waiting", "I", false)
  | 2 => ("CoatsByLot$Desk", "tape", "[I", true)
  | _ => ("CoatsByLot$Desk", "numbers", "[I", true)
def tyX0 : Nat → FieldType := fun k => match k with
  | 0 => .int
  | 1 => .int
  | 2 => .array .int
  | _ => .array .int
abbrev wsX00 : List Cond := u_ws RX0 TX0 4
theorem nmX0 : ∀ a, a < 4 → ∀ b, b < 4 → a ≠ b → (TX0 a).2.1 ≠ (TX0 b).2.1 := by decide +kernel
theorem tyX0_ok : ∀ k, k < 4 → parseFieldDescriptor (TX0 k).2.2.1 = some (tyX0 k) := by decide +kernel
abbrev cX0_init : ByteArray := prog_2_method_1_code
def yX0_init : MethodName := ⟨RX0, "<init>", "()V"⟩
abbrev cX0_addBytes : ByteArray := prog_2_method_2_code
def yX0_addBytes : MethodName := ⟨RX0, "addBytes", "(JI)I"⟩
abbrev cX0_addNumber : ByteArray := prog_2_method_3_code
def yX0_addNumber : MethodName := ⟨RX0, "addNumber", "(I)I"⟩
abbrev cX0_copyFrom : ByteArray := prog_2_method_4_code
def yX0_copyFrom : MethodName := ⟨RX0, "copyFrom", "(LCoatsByLot$Desk;)V"⟩
def RX1 : String := "CoatsByLot$Diary"
def TX1 : u_T := fun k => match k with
  | 0 => ("CoatsByLot$Diary", "today", "I", false)
  | 1 => ("CoatsByLot$Diary", "purse", "I", false)
  | 2 => ("CoatsByLot$Diary", "z", "I", false)
  | 3 => ("CoatsByLot$Diary", "finds", "I", false)
  | 4 => ("CoatsByLot$Diary", "findShifts", "[I", true)
  | 5 => ("CoatsByLot$Diary", "findManys", "[I", true)
  | _ => ("CoatsByLot$Diary", "findRights", "[I", true)
def tyX1 : Nat → FieldType := fun k => match k with
  | 0 => .int
  | 1 => .int
  | 2 => .int
  | 3 => .int
  | 4 => .array .int
  | 5 => .array .int
  | _ => .array .int
abbrev wsX10 : List Cond := u_ws RX1 TX1 7
theorem nmX1 : ∀ a, a < 7 → ∀ b, b < 7 → a ≠ b → (TX1 a).2.1 ≠ (TX1 b).2.1 := by decide +kernel
theorem tyX1_ok : ∀ k, k < 7 → parseFieldDescriptor (TX1 k).2.2.1 = some (tyX1 k) := by decide +kernel
abbrev cX1_init : ByteArray := prog_3_method_1_code
def yX1_init : MethodName := ⟨RX1, "<init>", "()V"⟩
abbrev cX1_draw : ByteArray := prog_3_method_2_code
def yX1_draw : MethodName := ⟨RX1, "draw", "()I"⟩
abbrev cX1_keepFind : ByteArray := prog_3_method_3_code
def yX1_keepFind : MethodName := ⟨RX1, "keepFind", "(III)V"⟩
abbrev cX1_findsOf : ByteArray := prog_3_method_4_code
def yX1_findsOf : MethodName := ⟨RX1, "findsOf", "(I)I"⟩
abbrev cX1_meanRight : ByteArray := prog_3_method_5_code
def yX1_meanRight : MethodName := ⟨RX1, "meanRight", "()I"⟩
abbrev cX1_copyFrom : ByteArray := prog_3_method_6_code
def yX1_copyFrom : MethodName := ⟨RX1, "copyFrom", "(LCoatsByLot$Diary;)V"⟩
def RX2 : String := "CoatsByLot$Reader"
def TX2 : u_T := fun k => match k with
  | 0 => ("CoatsByLot$Reader", "made", "LCoatsByLot$Text;", true)
  | 1 => ("CoatsByLot$Reader", "desk", "LCoatsByLot$Desk;", false)
  | 2 => ("CoatsByLot$Reader", "names", "Ljava/lang/String;", false)
  | _ => ("CoatsByLot$Reader", "at", "I", false)
def tyX2 : Nat → FieldType := fun k => match k with
  | 0 => .object "CoatsByLot$Text"
  | 1 => .object "CoatsByLot$Desk"
  | 2 => .object "java/lang/String"
  | _ => .int
abbrev wsX20 : List Cond := u_ws RX2 TX2 4
theorem nmX2 : ∀ a, a < 4 → ∀ b, b < 4 → a ≠ b → (TX2 a).2.1 ≠ (TX2 b).2.1 := by decide +kernel
theorem tyX2_ok : ∀ k, k < 4 → parseFieldDescriptor (TX2 k).2.2.1 = some (tyX2 k) := by decide +kernel
abbrev cX2_init : ByteArray := prog_4_method_1_code
def yX2_init : MethodName := ⟨RX2, "<init>", "()V"⟩
abbrev cX2_read : ByteArray := prog_4_method_2_code
def yX2_read : MethodName := ⟨RX2, "read", "(LCoatsByLot$Desk;I)I"⟩
abbrev cX2_next : ByteArray := prog_4_method_3_code
def yX2_next : MethodName := ⟨RX2, "next", "()I"⟩
abbrev cX2_readLevel : ByteArray := prog_4_method_4_code
def yX2_readLevel : MethodName := ⟨RX2, "readLevel", "(II)Z"⟩
abbrev cX2_readFactor : ByteArray := prog_4_method_5_code
def yX2_readFactor : MethodName := ⟨RX2, "readFactor", "(I)Z"⟩
abbrev cX2_readOpened : ByteArray := prog_4_method_6_code
def yX2_readOpened : MethodName := ⟨RX2, "readOpened", "(II)Z"⟩
abbrev cX2_readNumber : ByteArray := prog_4_method_7_code
def yX2_readNumber : MethodName := ⟨RX2, "readNumber", "()V"⟩
abbrev cX2_isDigit : ByteArray := prog_4_method_8_code
def yX2_isDigit : MethodName := ⟨RX2, "isDigit", "(I)Z"⟩
abbrev cX2_levelOf : ByteArray := prog_4_method_9_code
def yX2_levelOf : MethodName := ⟨RX2, "levelOf", "(I)I"⟩
def RX3 : String := "CoatsByLot$Riders"
def TX3 : u_T := fun k => match k with
  | 0 => ("CoatsByLot$Riders", "groups", "I", false)
  | 1 => ("CoatsByLot$Riders", "fare", "I", false)
  | 2 => ("CoatsByLot$Riders", "fine", "I", false)
  | 3 => ("CoatsByLot$Riders", "kinds", "[I", true)
  | 4 => ("CoatsByLot$Riders", "trainOf", "[I", true)
  | 5 => ("CoatsByLot$Riders", "froms", "[I", true)
  | 6 => ("CoatsByLot$Riders", "tos", "[I", true)
  | 7 => ("CoatsByLot$Riders", "manys", "[I", true)
  | 8 => ("CoatsByLot$Riders", "ps", "[I", true)
  | 9 => ("CoatsByLot$Riders", "qs", "[I", true)
  | _ => ("CoatsByLot$Riders", "untils", "[I", true)
def tyX3 : Nat → FieldType := fun k => match k with
  | 0 => .int
  | 1 => .int
  | 2 => .int
  | 3 => .array .int
  | 4 => .array .int
  | 5 => .array .int
  | 6 => .array .int
  | 7 => .array .int
  | 8 => .array .int
  | 9 => .array .int
  | _ => .array .int
abbrev wsX30 : List Cond := u_ws RX3 TX3 11
theorem nmX3 : ∀ a, a < 11 → ∀ b, b < 11 → a ≠ b → (TX3 a).2.1 ≠ (TX3 b).2.1 := by decide +kernel
theorem tyX3_ok : ∀ k, k < 11 → parseFieldDescriptor (TX3 k).2.2.1 = some (tyX3 k) := by decide +kernel
abbrev cX3_init : ByteArray := prog_5_method_1_code
def yX3_init : MethodName := ⟨RX3, "<init>", "()V"⟩
abbrev cX3_addGroup : ByteArray := prog_5_method_2_code
def yX3_addGroup : MethodName := ⟨RX3, "addGroup", "(IIII)I"⟩
abbrev cX3_beliefOf : ByteArray := prog_5_method_3_code
def yX3_beliefOf : MethodName := ⟨RX3, "beliefOf", "(I)I"⟩
abbrev cX3_setBelief : ByteArray := prog_5_method_4_code
def yX3_setBelief : MethodName := ⟨RX3, "setBelief", "(II)I"⟩
abbrev cX3_stopsGone : ByteArray := prog_5_method_5_code
def yX3_stopsGone : MethodName := ⟨RX3, "stopsGone", "(I)I"⟩
abbrev cX3_fareWeighed : ByteArray := prog_5_method_6_code
def yX3_fareWeighed : MethodName := ⟨RX3, "fareWeighed", "(I)I"⟩
abbrev cX3_beFound : ByteArray := prog_5_method_7_code
def yX3_beFound : MethodName := ⟨RX3, "beFound", "(II)V"⟩
abbrev cX3_copyFrom : ByteArray := prog_5_method_8_code
def yX3_copyFrom : MethodName := ⟨RX3, "copyFrom", "(LCoatsByLot$Riders;)V"⟩
def RX4 : String := "CoatsByLot$Roads"
def TX4 : u_T := fun k => match k with
  | 0 => ("CoatsByLot$Roads", "stations", "I", false)
  | 1 => ("CoatsByLot$Roads", "lines", "I", false)
  | 2 => ("CoatsByLot$Roads", "trains", "I", false)
  | 3 => ("CoatsByLot$Roads", "walks", "[I", true)
  | 4 => ("CoatsByLot$Roads", "sizes", "[I", true)
  | 5 => ("CoatsByLot$Roads", "rows", "[I", true)
  | 6 => ("CoatsByLot$Roads", "legs", "[I", true)
  | 7 => ("CoatsByLot$Roads", "lineOf", "[I", true)
  | 8 => ("CoatsByLot$Roads", "starts", "[I", true)
  | _ => ("CoatsByLot$Roads", "backs", "[I", true)
def tyX4 : Nat → FieldType := fun k => match k with
  | 0 => .int
  | 1 => .int
  | 2 => .int
  | 3 => .array .int
  | 4 => .array .int
  | 5 => .array .int
  | 6 => .array .int
  | 7 => .array .int
  | 8 => .array .int
  | _ => .array .int
abbrev wsX40 : List Cond := u_ws RX4 TX4 10
theorem nmX4 : ∀ a, a < 10 → ∀ b, b < 10 → a ≠ b → (TX4 a).2.1 ≠ (TX4 b).2.1 := by decide +kernel
theorem tyX4_ok : ∀ k, k < 10 → parseFieldDescriptor (TX4 k).2.2.1 = some (tyX4 k) := by decide +kernel
abbrev cX4_init : ByteArray := prog_6_method_1_code
def yX4_init : MethodName := ⟨RX4, "<init>", "()V"⟩
abbrev cX4_addStation : ByteArray := prog_6_method_2_code
def yX4_addStation : MethodName := ⟨RX4, "addStation", "()I"⟩
abbrev cX4_walkFrom : ByteArray := prog_6_method_3_code
def yX4_walkFrom : MethodName := ⟨RX4, "walkFrom", "(II)I"⟩
abbrev cX4_setWalk : ByteArray := prog_6_method_4_code
def yX4_setWalk : MethodName := ⟨RX4, "setWalk", "(III)I"⟩
abbrev cX4_addLine : ByteArray := prog_6_method_5_code
def yX4_addLine : MethodName := ⟨RX4, "addLine", "(III)I"⟩
abbrev cX4_lengthen : ByteArray := prog_6_method_6_code
def yX4_lengthen : MethodName := ⟨RX4, "lengthen", "(III)I"⟩
abbrev cX4_ofRow : ByteArray := prog_6_method_7_code
def yX4_ofRow : MethodName := ⟨RX4, "ofRow", "(II)I"⟩
abbrev cX4_addTrain : ByteArray := prog_6_method_8_code
def yX4_addTrain : MethodName := ⟨RX4, "addTrain", "(III)I"⟩
abbrev cX4_stopsOf : ByteArray := prog_6_method_9_code
def yX4_stopsOf : MethodName := ⟨RX4, "stopsOf", "(I)I"⟩
abbrev cX4_stationAt : ByteArray := prog_6_method_10_code
def yX4_stationAt : MethodName := ⟨RX4, "stationAt", "(II)I"⟩
abbrev cX4_lastStation : ByteArray := prog_6_method_11_code
def yX4_lastStation : MethodName := ⟨RX4, "lastStation", "(I)I"⟩
abbrev cX4_minuteAt : ByteArray := prog_6_method_12_code
def yX4_minuteAt : MethodName := ⟨RX4, "minuteAt", "(II)I"⟩
abbrev cX4_endOf : ByteArray := prog_6_method_13_code
def yX4_endOf : MethodName := ⟨RX4, "endOf", "(I)I"⟩
abbrev cX4_trainsBehind : ByteArray := prog_6_method_14_code
def yX4_trainsBehind : MethodName := ⟨RX4, "trainsBehind", "(III)I"⟩
abbrev cX4_sortByStart : ByteArray := prog_6_method_15_code
def yX4_sortByStart : MethodName := ⟨RX4, "sortByStart", "(I[I)I"⟩
abbrev cX4_copyFrom : ByteArray := prog_6_method_16_code
def yX4_copyFrom : MethodName := ⟨RX4, "copyFrom", "(LCoatsByLot$Roads;)V"⟩
def RX5 : String := "CoatsByLot$Search"
def TX5 : u_T := fun k => match k with
  | 0 => ("CoatsByLot$Search", "leastUnpaid", "I", false)
  | 1 => ("CoatsByLot$Search", "winner", "[I", true)
  | 2 => ("CoatsByLot$Search", "mostFines", "J", false)
  | 3 => ("CoatsByLot$Search", "isFirst", "Z", false)
  | 4 => ("CoatsByLot$Search", "row", "[I", true)
  | _ => ("CoatsByLot$Search", "unpaidBy", "[I", true)
def tyX5 : Nat → FieldType := fun k => match k with
  | 0 => .int
  | 1 => .array .int
  | 2 => .long
  | 3 => .boolean
  | 4 => .array .int
  | _ => .array .int
abbrev wsX50 : List Cond := u_ws RX5 TX5 6
theorem nmX5 : ∀ a, a < 6 → ∀ b, b < 6 → a ≠ b → (TX5 a).2.1 ≠ (TX5 b).2.1 := by decide +kernel
theorem tyX5_ok : ∀ k, k < 6 → parseFieldDescriptor (TX5 k).2.2.1 = some (tyX5 k) := by decide +kernel
abbrev cX5_init : ByteArray := prog_7_method_1_code
def yX5_init : MethodName := ⟨RX5, "<init>", "()V"⟩
abbrev cX5_run : ByteArray := prog_7_method_2_code
def yX5_run : MethodName := ⟨RX5, "run", "(LCoatsByLot$World;I)V"⟩
abbrev cX5_fillUnpaid : ByteArray := prog_7_method_3_code
def yX5_fillUnpaid : MethodName := ⟨RX5, "fillUnpaid", "(LCoatsByLot$World;I)V"⟩
abbrev cX5_tryRows : ByteArray := prog_7_method_4_code
def yX5_tryRows : MethodName := ⟨RX5, "tryRows", "(LCoatsByLot$World;II)V"⟩
abbrev cX5_compareRow : ByteArray := prog_7_method_5_code
def yX5_compareRow : MethodName := ⟨RX5, "compareRow", "(LCoatsByLot$World;)V"⟩
abbrev cX5_lotsInRow : ByteArray := prog_7_method_6_code
def yX5_lotsInRow : MethodName := ⟨RX5, "lotsInRow", "(LCoatsByLot$Shifts;I)I"⟩
def RX6 : String := "CoatsByLot$Sheets"
def TX6 : u_T := fun k => match k with
  | 0 => ("CoatsByLot$Sheets", "bits", "[I", true)
  | 1 => ("CoatsByLot$Sheets", "sizes", "[I", true)
  | _ => ("CoatsByLot$Sheets", "numbers", "[[I", true)
def tyX6 : Nat → FieldType := fun k => match k with
  | 0 => .array .int
  | 1 => .array .int
  | _ => .array (.array .int)
abbrev wsX60 : List Cond := u_ws RX6 TX6 3
theorem nmX6 : ∀ a, a < 3 → ∀ b, b < 3 → a ≠ b → (TX6 a).2.1 ≠ (TX6 b).2.1 := by decide +kernel
theorem tyX6_ok : ∀ k, k < 3 → parseFieldDescriptor (TX6 k).2.2.1 = some (tyX6 k) := by decide +kernel
abbrev cX6_init : ByteArray := prog_8_method_1_code
def yX6_init : MethodName := ⟨RX6, "<init>", "()V"⟩
abbrev cX6_clear : ByteArray := prog_8_method_2_code
def yX6_clear : MethodName := ⟨RX6, "clear", "(III)I"⟩
abbrev cX6_cut : ByteArray := prog_8_method_3_code
def yX6_cut : MethodName := ⟨RX6, "cut", "(II)I"⟩
def RX7 : String := "CoatsByLot$Shifts"
def TX7 : u_T := fun k => match k with
  | 0 => ("CoatsByLot$Shifts", "shifts", "I", false)
  | 1 => ("CoatsByLot$Shifts", "sets", "[I", true)
  | _ => ("CoatsByLot$Shifts", "lotsOf", "[I", true)
def tyX7 : Nat → FieldType := fun k => match k with
  | 0 => .int
  | 1 => .array .int
  | _ => .array .int
abbrev wsX70 : List Cond := u_ws RX7 TX7 3
theorem nmX7 : ∀ a, a < 3 → ∀ b, b < 3 → a ≠ b → (TX7 a).2.1 ≠ (TX7 b).2.1 := by decide +kernel
theorem tyX7_ok : ∀ k, k < 3 → parseFieldDescriptor (TX7 k).2.2.1 = some (tyX7 k) := by decide +kernel
abbrev cX7_init : ByteArray := prog_9_method_1_code
def yX7_init : MethodName := ⟨RX7, "<init>", "()V"⟩
abbrev cX7_addShift : ByteArray := prog_9_method_2_code
def yX7_addShift : MethodName := ⟨RX7, "addShift", "(I)I"⟩
abbrev cX7_all : ByteArray := prog_9_method_3_code
def yX7_all : MethodName := ⟨RX7, "all", "()I"⟩
abbrev cX7_below : ByteArray := prog_9_method_4_code
def yX7_below : MethodName := ⟨RX7, "below", "()I"⟩
abbrev cX7_lotsWith : ByteArray := prog_9_method_5_code
def yX7_lotsWith : MethodName := ⟨RX7, "lotsWith", "(I)I"⟩
abbrev cX7_shiftOf : ByteArray := prog_9_method_6_code
def yX7_shiftOf : MethodName := ⟨RX7, "shiftOf", "(I)I"⟩
abbrev cX7_daysTillSeen : ByteArray := prog_9_method_7_code
def yX7_daysTillSeen : MethodName := ⟨RX7, "daysTillSeen", "(II)I"⟩
abbrev cX7_take : ByteArray := prog_9_method_8_code
def yX7_take : MethodName := ⟨RX7, "take", "([I)V"⟩
abbrev cX7_copyFrom : ByteArray := prog_9_method_9_code
def yX7_copyFrom : MethodName := ⟨RX7, "copyFrom", "(LCoatsByLot$Shifts;)V"⟩
def RX8 : String := "CoatsByLot$Text"
def TX8 : u_T := fun k => match k with
  | 0 => ("CoatsByLot$Text", "steps", "I", false)
  | 1 => ("CoatsByLot$Text", "code", "[I", true)
  | _ => ("CoatsByLot$Text", "stack", "[I", true)
def tyX8 : Nat → FieldType := fun k => match k with
  | 0 => .int
  | 1 => .array .int
  | _ => .array .int
abbrev wsX80 : List Cond := u_ws RX8 TX8 3
theorem nmX8 : ∀ a, a < 3 → ∀ b, b < 3 → a ≠ b → (TX8 a).2.1 ≠ (TX8 b).2.1 := by decide +kernel
theorem tyX8_ok : ∀ k, k < 3 → parseFieldDescriptor (TX8 k).2.2.1 = some (tyX8 k) := by decide +kernel
abbrev cX8_init : ByteArray := prog_10_method_1_code
def yX8_init : MethodName := ⟨RX8, "<init>", "()V"⟩
abbrev cX8_add : ByteArray := prog_10_method_2_code
def yX8_add : MethodName := ⟨RX8, "add", "(I)V"⟩
abbrev cX8_workOut : ByteArray := prog_10_method_3_code
def yX8_workOut : MethodName := ⟨RX8, "workOut", "([I)I"⟩
abbrev cX8_join : ByteArray := prog_10_method_4_code
def yX8_join : MethodName := ⟨RX8, "join", "(III)I"⟩
abbrev cX8_copyFrom : ByteArray := prog_10_method_5_code
def yX8_copyFrom : MethodName := ⟨RX8, "copyFrom", "(LCoatsByLot$Text;)V"⟩
def RX9 : String := "CoatsByLot$Voices"
def TX9 : u_T := fun k => match k with
  | 0 => ("CoatsByLot$Voices", "begun", "I", false)
  | 1 => ("CoatsByLot$Voices", "bodies", "[I", true)
  | 2 => ("CoatsByLot$Voices", "kind", "I", false)
  | 3 => ("CoatsByLot$Voices", "number", "I", false)
  | _ => ("CoatsByLot$Voices", "many", "I", false)
def tyX9 : Nat → FieldType := fun k => match k with
  | 0 => .int
  | 1 => .array .int
  | 2 => .int
  | 3 => .int
  | _ => .int
abbrev wsX90 : List Cond := u_ws RX9 TX9 5
theorem nmX9 : ∀ a, a < 5 → ∀ b, b < 5 → a ≠ b → (TX9 a).2.1 ≠ (TX9 b).2.1 := by decide +kernel
theorem tyX9_ok : ∀ k, k < 5 → parseFieldDescriptor (TX9 k).2.2.1 = some (tyX9 k) := by decide +kernel
abbrev cX9_init : ByteArray := prog_11_method_1_code
def yX9_init : MethodName := ⟨RX9, "<init>", "()V"⟩
abbrev cX9_hear : ByteArray := prog_11_method_2_code
def yX9_hear : MethodName := ⟨RX9, "hear", "(LCoatsByLot$Riders;III)I"⟩
abbrev cX9_speak : ByteArray := prog_11_method_3_code
def yX9_speak : MethodName := ⟨RX9, "speak", "(IIII)I"⟩
abbrev cX9_runBody : ByteArray := prog_11_method_4_code
def yX9_runBody : MethodName := ⟨RX9, "runBody", "(IIII)I"⟩
def RX10 : String := "CoatsByLot$World"
def TX10 : u_T := fun k => match k with
  | 0 => ("CoatsByLot$World", "roads", "LCoatsByLot$Roads;", true)
  | 1 => ("CoatsByLot$World", "riders", "LCoatsByLot$Riders;", true)
  | 2 => ("CoatsByLot$World", "shifts", "LCoatsByLot$Shifts;", true)
  | 3 => ("CoatsByLot$World", "diary", "LCoatsByLot$Diary;", true)
  | 4 => ("CoatsByLot$World", "desk", "LCoatsByLot$Desk;", true)
  | 5 => ("CoatsByLot$World", "weighText", "LCoatsByLot$Text;", true)
  | 6 => ("CoatsByLot$World", "ruleText", "LCoatsByLot$Text;", true)
  | 7 => ("CoatsByLot$World", "names", "[I", true)
  | 8 => ("CoatsByLot$World", "order", "[I", true)
  | _ => ("CoatsByLot$World", "paid", "[Z", true)
def tyX10 : Nat → FieldType := fun k => match k with
  | 0 => .object "CoatsByLot$Roads"
  | 1 => .object "CoatsByLot$Riders"
  | 2 => .object "CoatsByLot$Shifts"
  | 3 => .object "CoatsByLot$Diary"
  | 4 => .object "CoatsByLot$Desk"
  | 5 => .object "CoatsByLot$Text"
  | 6 => .object "CoatsByLot$Text"
  | 7 => .array .int
  | 8 => .array .int
  | _ => .array .boolean
abbrev wsX100 : List Cond := u_ws RX10 TX10 10
theorem nmX10 : ∀ a, a < 10 → ∀ b, b < 10 → a ≠ b → (TX10 a).2.1 ≠ (TX10 b).2.1 := by decide +kernel
theorem tyX10_ok : ∀ k, k < 10 → parseFieldDescriptor (TX10 k).2.2.1 = some (tyX10 k) := by decide +kernel
abbrev cX10_init : ByteArray := prog_12_method_1_code
def yX10_init : MethodName := ⟨RX10, "<init>", "()V"⟩
abbrev cX10_copyFrom : ByteArray := prog_12_method_2_code
def yX10_copyFrom : MethodName := ⟨RX10, "copyFrom", "(LCoatsByLot$World;)V"⟩
abbrev cX10_textOf : ByteArray := prog_12_method_3_code
def yX10_textOf : MethodName := ⟨RX10, "textOf", "(I)LCoatsByLot$Text;"⟩
abbrev cX10_weigh : ByteArray := prog_12_method_4_code
def yX10_weigh : MethodName := ⟨RX10, "weigh", "(IIIII)I"⟩
abbrev cX10_rule : ByteArray := prog_12_method_5_code
def yX10_rule : MethodName := ⟨RX10, "rule", "(IIII)I"⟩
abbrev cX10_whyNotWalked : ByteArray := prog_12_method_6_code
def yX10_whyNotWalked : MethodName := ⟨RX10, "whyNotWalked", "(I)I"⟩
abbrev cX10_pays : ByteArray := prog_12_method_7_code
def yX10_pays : MethodName := ⟨RX10, "pays", "(IIII)Z"⟩
abbrev cX10_paysNow : ByteArray := prog_12_method_8_code
def yX10_paysNow : MethodName := ⟨RX10, "paysNow", "(I)Z"⟩
abbrev cX10_sumUnpaid : ByteArray := prog_12_method_9_code
def yX10_sumUnpaid : MethodName := ⟨RX10, "sumUnpaid", "(I)I"⟩
abbrev cX10_coinAbove : ByteArray := prog_12_method_10_code
def yX10_coinAbove : MethodName := ⟨RX10, "coinAbove", "()J"⟩
abbrev cX10_passDay : ByteArray := prog_12_method_11_code
def yX10_passDay : MethodName := ⟨RX10, "passDay", "()I"⟩
abbrev cX10_leastFine : ByteArray := prog_12_method_12_code
def yX10_leastFine : MethodName := ⟨RX10, "leastFine", "(I)I"⟩
abbrev cX10_isTurned : ByteArray := prog_12_method_13_code
def yX10_isTurned : MethodName := ⟨RX10, "isTurned", "(II)Z"⟩
abbrev cX10_fareMissedAt : ByteArray := prog_12_method_14_code
def yX10_fareMissedAt : MethodName := ⟨RX10, "fareMissedAt", "(I)I"⟩
abbrev cX10_payersLookedAt : ByteArray := prog_12_method_15_code
def yX10_payersLookedAt : MethodName := ⟨RX10, "payersLookedAt", "()I"⟩
abbrev cX10_unpaidOfHundred : ByteArray := prog_12_method_16_code
def yX10_unpaidOfHundred : MethodName := ⟨RX10, "unpaidOfHundred", "(I)I"⟩
abbrev cX10_checkOrder : ByteArray := prog_12_method_17_code
def yX10_checkOrder : MethodName := ⟨RX10, "checkOrder", "(II)I"⟩
def RX11 : String := "CoatsByLot"
def TX11 : u_T := fun k => match k with
  | 0 => ("CoatsByLot", "now", "LCoatsByLot$World;", true)
  | 1 => ("CoatsByLot", "kept", "LCoatsByLot$World;", true)
  | 2 => ("CoatsByLot", "reader", "LCoatsByLot$Reader;", true)
  | 3 => ("CoatsByLot", "search", "LCoatsByLot$Search;", true)
  | 4 => ("CoatsByLot", "voices", "LCoatsByLot$Voices;", true)
  | 5 => ("CoatsByLot", "sheets", "LCoatsByLot$Sheets;", true)
  | 6 => ("CoatsByLot", "errors", "[I", true)
  | _ => ("CoatsByLot", "images", "I", false)
def tyX11 : Nat → FieldType := fun k => match k with
  | 0 => .object "CoatsByLot$World"
  | 1 => .object "CoatsByLot$World"
  | 2 => .object "CoatsByLot$Reader"
  | 3 => .object "CoatsByLot$Search"
  | 4 => .object "CoatsByLot$Voices"
  | 5 => .object "CoatsByLot$Sheets"
  | 6 => .array .int
  | _ => .int
abbrev wsX110 : List Cond := u_ws RX11 TX11 8
theorem nmX11 : ∀ a, a < 8 → ∀ b, b < 8 → a ≠ b → (TX11 a).2.1 ≠ (TX11 b).2.1 := by decide +kernel
theorem tyX11_ok : ∀ k, k < 8 → parseFieldDescriptor (TX11 k).2.2.1 = some (tyX11 k) := by decide +kernel
abbrev cX11_init : ByteArray := prog_1_method_1_code
def yX11_init : MethodName := ⟨RX11, "<init>", "()V"⟩
abbrev cX11_station : ByteArray := prog_1_method_2_code
def yX11_station : MethodName := ⟨RX11, "station", "()I"⟩
abbrev cX11_walk : ByteArray := prog_1_method_3_code
def yX11_walk : MethodName := ⟨RX11, "walk", "(III)I"⟩
abbrev cX11_line : ByteArray := prog_1_method_4_code
def yX11_line : MethodName := ⟨RX11, "line", "(III)I"⟩
abbrev cX11_extend : ByteArray := prog_1_method_5_code
def yX11_extend : MethodName := ⟨RX11, "extend", "(III)I"⟩
abbrev cX11_ofLine : ByteArray := prog_1_method_6_code
def yX11_ofLine : MethodName := ⟨RX11, "ofLine", "(II)I"⟩
abbrev cX11_train : ByteArray := prog_1_method_7_code
def yX11_train : MethodName := ⟨RX11, "train", "(III)I"⟩
abbrev cX11_ofTrain : ByteArray := prog_1_method_8_code
def yX11_ofTrain : MethodName := ⟨RX11, "ofTrain", "(II)I"⟩
abbrev cX11_stop : ByteArray := prog_1_method_9_code
def yX11_stop : MethodName := ⟨RX11, "stop", "(III)I"⟩
abbrev cX11_group : ByteArray := prog_1_method_10_code
def yX11_group : MethodName := ⟨RX11, "group", "(IIII)I"⟩
abbrev cX11_ofGroup : ByteArray := prog_1_method_11_code
def yX11_ofGroup : MethodName := ⟨RX11, "ofGroup", "(II)I"⟩
abbrev cX11_as : ByteArray := prog_1_method_12_code
def yX11_as : MethodName := ⟨RX11, "as", "(II)I"⟩
abbrev cX11_believe : ByteArray := prog_1_method_13_code
def yX11_believe : MethodName := ⟨RX11, "believe", "(II)I"⟩
abbrev cX11_price : ByteArray := prog_1_method_14_code
def yX11_price : MethodName := ⟨RX11, "price", "(II)I"⟩
abbrev cX11_feed : ByteArray := prog_1_method_15_code
def yX11_feed : MethodName := ⟨RX11, "feed", "(JI)I"⟩
abbrev cX11_text : ByteArray := prog_1_method_16_code
def yX11_text : MethodName := ⟨RX11, "text", "(I)I"⟩
abbrev cX11_law : ByteArray := prog_1_method_17_code
def yX11_law : MethodName := ⟨RX11, "law", "(IIIII)I"⟩
abbrev cX11_walked : ByteArray := prog_1_method_18_code
def yX11_walked : MethodName := ⟨RX11, "walked", "(I)I"⟩
abbrev cX11_shift : ByteArray := prog_1_method_19_code
def yX11_shift : MethodName := ⟨RX11, "shift", "(I)I"⟩
abbrev cX11_lots : ByteArray := prog_1_method_20_code
def yX11_lots : MethodName := ⟨RX11, "lots", "(II)I"⟩
abbrev cX11_ofShift : ByteArray := prog_1_method_21_code
def yX11_ofShift : MethodName := ⟨RX11, "ofShift", "(II)I"⟩
abbrev cX11_odds : ByteArray := prog_1_method_22_code
def yX11_odds : MethodName := ⟨RX11, "odds", "(II)I"⟩
abbrev cX11_unpaid : ByteArray := prog_1_method_23_code
def yX11_unpaid : MethodName := ⟨RX11, "unpaid", "()I"⟩
abbrev cX11_coin : ByteArray := prog_1_method_24_code
def yX11_coin : MethodName := ⟨RX11, "coin", "(I)J"⟩
abbrev cX11_best : ByteArray := prog_1_method_25_code
def yX11_best : MethodName := ⟨RX11, "best", "(II)I"⟩
abbrev cX11_plan : ByteArray := prog_1_method_26_code
def yX11_plan : MethodName := ⟨RX11, "plan", "(I)I"⟩
abbrev cX11_days : ByteArray := prog_1_method_27_code
def yX11_days : MethodName := ⟨RX11, "days", "(I)I"⟩
abbrev cX11_find : ByteArray := prog_1_method_28_code
def yX11_find : MethodName := ⟨RX11, "find", "(II)I"⟩
abbrev cX11_average : ByteArray := prog_1_method_29_code
def yX11_average : MethodName := ⟨RX11, "average", "()I"⟩
abbrev cX11_telling : ByteArray := prog_1_method_30_code
def yX11_telling : MethodName := ⟨RX11, "telling", "(IIII)I"⟩
abbrev cX11_turn : ByteArray := prog_1_method_31_code
def yX11_turn : MethodName := ⟨RX11, "turn", "(I)I"⟩
abbrev cX11_gate : ByteArray := prog_1_method_32_code
def yX11_gate : MethodName := ⟨RX11, "gate", "(II)I"⟩
abbrev cX11_wrong : ByteArray := prog_1_method_33_code
def yX11_wrong : MethodName := ⟨RX11, "wrong", "(II)J"⟩
abbrev cX11_seen : ByteArray := prog_1_method_34_code
def yX11_seen : MethodName := ⟨RX11, "seen", "(II)I"⟩
abbrev cX11_fair : ByteArray := prog_1_method_35_code
def yX11_fair : MethodName := ⟨RX11, "fair", "(I)I"⟩
abbrev cX11_seed : ByteArray := prog_1_method_36_code
def yX11_seed : MethodName := ⟨RX11, "seed", "(I)I"⟩
abbrev cX11_voice : ByteArray := prog_1_method_37_code
def yX11_voice : MethodName := ⟨RX11, "voice", "(III)I"⟩
abbrev cX11_trace : ByteArray := prog_1_method_38_code
def yX11_trace : MethodName := ⟨RX11, "trace", "(I)I"⟩
abbrev cX11_sheet : ByteArray := prog_1_method_39_code
def yX11_sheet : MethodName := ⟨RX11, "sheet", "(III)I"⟩
abbrev cX11_put : ByteArray := prog_1_method_40_code
def yX11_put : MethodName := ⟨RX11, "put", "(III)I"⟩
abbrev cX11_move : ByteArray := prog_1_method_41_code
def yX11_move : MethodName := ⟨RX11, "move", "(IIIII)I"⟩
abbrev cX11_groups : ByteArray := prog_1_method_42_code
def yX11_groups : MethodName := ⟨RX11, "groups", "(I)I"⟩
abbrev cX11_image : ByteArray := prog_1_method_43_code
def yX11_image : MethodName := ⟨RX11, "image", "()I"⟩
abbrev cX11_restore : ByteArray := prog_1_method_44_code
def yX11_restore : MethodName := ⟨RX11, "restore", "()I"⟩
abbrev cX11_tell : ByteArray := prog_1_method_45_code
def yX11_tell : MethodName := ⟨RX11, "tell", "(I)I"⟩
abbrev cX11_check : ByteArray := prog_1_method_46_code
def yX11_check : MethodName := ⟨RX11, "check", "(I)I"⟩
abbrev cX11_count : ByteArray := prog_1_method_47_code
def yX11_count : MethodName := ⟨RX11, "count", "(I)I"⟩
abbrev cX11_told : ByteArray := prog_1_method_48_code
def yX11_told : MethodName := ⟨RX11, "told", "(I)I"⟩
abbrev cX11_error : ByteArray := prog_1_method_49_code
def yX11_error : MethodName := ⟨RX11, "error", "(I)I"⟩
abbrev cX11_isStation : ByteArray := prog_1_method_50_code
def yX11_isStation : MethodName := ⟨RX11, "isStation", "(I)Z"⟩
abbrev cX11_isLine : ByteArray := prog_1_method_51_code
def yX11_isLine : MethodName := ⟨RX11, "isLine", "(I)Z"⟩
abbrev cX11_isTrain : ByteArray := prog_1_method_52_code
def yX11_isTrain : MethodName := ⟨RX11, "isTrain", "(I)Z"⟩
abbrev cX11_isGroup : ByteArray := prog_1_method_53_code
def yX11_isGroup : MethodName := ⟨RX11, "isGroup", "(I)Z"⟩
abbrev cX11_isShift : ByteArray := prog_1_method_54_code
def yX11_isShift : MethodName := ⟨RX11, "isShift", "(I)Z"⟩
abbrev cX11_isSheet : ByteArray := prog_1_method_55_code
def yX11_isSheet : MethodName := ⟨RX11, "isSheet", "(I)Z"⟩
abbrev cX11_isSetOfTrains : ByteArray := prog_1_method_56_code
def yX11_isSetOfTrains : MethodName := ⟨RX11, "isSetOfTrains", "(I)Z"⟩
abbrev cX11_isGroupTold : ByteArray := prog_1_method_57_code
def yX11_isGroupTold : MethodName := ⟨RX11, "isGroupTold", "(IIII)Z"⟩
abbrev cX11_isBelief : ByteArray := prog_1_method_58_code
def yX11_isBelief : MethodName := ⟨RX11, "isBelief", "(I)Z"⟩
abbrev cX11_isUnder : ByteArray := prog_1_method_59_code
def yX11_isUnder : MethodName := ⟨RX11, "isUnder", "(II)Z"⟩
abbrev cX11_within : ByteArray := prog_1_method_60_code
def yX11_within : MethodName := ⟨RX11, "within", "(III)Z"⟩
abbrev cX11_has : ByteArray := prog_1_method_61_code
def yX11_has : MethodName := ⟨RX11, "has", "(II)Z"⟩
abbrev cX11_lowest : ByteArray := prog_1_method_62_code
def yX11_lowest : MethodName := ⟨RX11, "lowest", "(JJI)J"⟩
abbrev cX11_copyRow : ByteArray := prog_1_method_63_code
def yX11_copyRow : MethodName := ⟨RX11, "copyRow", "([I[I)V"⟩
def RX12 : String := "CoatsByLotModel"
def TX12 : u_T := fun k => match k with
  | 0 => ("CoatsByLotModel", "d", "[I", true)
  | 1 => ("CoatsByLotModel", "kept", "[I", true)
  | 2 => ("CoatsByLotModel", "images", "I", false)
  | 3 => ("CoatsByLotModel", "found", "[I", true)
  | 4 => ("CoatsByLotModel", "base", "I", false)
  | 5 => ("CoatsByLotModel", "at", "I", false)
  | 6 => ("CoatsByLotModel", "size", "I", false)
  | 7 => ("CoatsByLotModel", "fault", "I", false)
  | 8 => ("CoatsByLotModel", "opened", "I", false)
  | 9 => ("CoatsByLotModel", "isRule", "Z", false)
  | 10 => ("CoatsByLotModel", "names", "[I", true)
  | 11 => ("CoatsByLotModel", "row", "[I", true)
  | 12 => ("CoatsByLotModel", "rowMany", "I", false)
  | 13 => ("CoatsByLotModel", "bestLots", "[I", true)
  | 14 => ("CoatsByLotModel", "keptLots", "[I", true)
  | 15 => ("CoatsByLotModel", "bestUnpaid", "I", false)
  | 16 => ("CoatsByLotModel", "isFound", "[Z", true)
  | 17 => ("CoatsByLotModel", "traced", "[I", true)
  | 18 => ("CoatsByLotModel", "traceMany", "I", false)
  | 19 => ("CoatsByLotModel", "runs", "I", false)
  | 20 => ("CoatsByLotModel", "bitsOf", "[I", true)
  | 21 => ("CoatsByLotModel", "sizeOf", "[I", true)
  | 22 => ("CoatsByLotModel", "number", "[I", true)
  | _ => ("CoatsByLotModel", "lifted", "[I", true)
def tyX12 : Nat → FieldType := fun k => match k with
  | 0 => .array .int
  | 1 => .array .int
  | 2 => .int
  | 3 => .array .int
  | 4 => .int
  | 5 => .int
  | 6 => .int
  | 7 => .int
  | 8 => .int
  | 9 => .boolean
  | 10 => .array .int
  | 11 => .array .int
  | 12 => .int
  | 13 => .array .int
  | 14 => .array .int
  | 15 => .int
  | 16 => .array .boolean
  | 17 => .array .int
  | 18 => .int
  | 19 => .int
  | 20 => .array .int
  | 21 => .array .int
  | 22 => .array .int
  | _ => .array .int
abbrev wsX120 : List Cond := u_ws RX12 TX12 24
theorem nmX12 : ∀ a, a < 24 → ∀ b, b < 24 → a ≠ b → (TX12 a).2.1 ≠ (TX12 b).2.1 := by decide +kernel
theorem tyX12_ok : ∀ k, k < 24 → parseFieldDescriptor (TX12 k).2.2.1 = some (tyX12 k) := by decide +kernel
abbrev cX12_init : ByteArray := prog_14_method_1_code
def yX12_init : MethodName := ⟨RX12, "<init>", "()V"⟩
abbrev cX12_finds : ByteArray := prog_14_method_3_code
def yX12_finds : MethodName := ⟨RX12, "finds", "(I)I"⟩
abbrev cX12_in : ByteArray := prog_14_method_4_code
def yX12_in : MethodName := ⟨RX12, "in", "(JJJ)Z"⟩
abbrev cX12_isStation : ByteArray := prog_14_method_5_code
def yX12_isStation : MethodName := ⟨RX12, "isStation", "(I)Z"⟩
abbrev cX12_areTwo : ByteArray := prog_14_method_6_code
def yX12_areTwo : MethodName := ⟨RX12, "areTwo", "(II)Z"⟩
abbrev cX12_isLine : ByteArray := prog_14_method_7_code
def yX12_isLine : MethodName := ⟨RX12, "isLine", "(I)Z"⟩
abbrev cX12_isTrain : ByteArray := prog_14_method_8_code
def yX12_isTrain : MethodName := ⟨RX12, "isTrain", "(I)Z"⟩
abbrev cX12_isGroup : ByteArray := prog_14_method_9_code
def yX12_isGroup : MethodName := ⟨RX12, "isGroup", "(I)Z"⟩
abbrev cX12_isShift : ByteArray := prog_14_method_10_code
def yX12_isShift : MethodName := ⟨RX12, "isShift", "(I)Z"⟩
abbrev cX12_gr : ByteArray := prog_14_method_11_code
def yX12_gr : MethodName := ⟨RX12, "gr", "(II)I"⟩
abbrev cX12_station : ByteArray := prog_14_method_12_code
def yX12_station : MethodName := ⟨RX12, "station", "()I"⟩
abbrev cX12_walk : ByteArray := prog_14_method_13_code
def yX12_walk : MethodName := ⟨RX12, "walk", "(III)I"⟩
abbrev cX12_line : ByteArray := prog_14_method_14_code
def yX12_line : MethodName := ⟨RX12, "line", "(III)I"⟩
abbrev cX12_extend : ByteArray := prog_14_method_15_code
def yX12_extend : MethodName := ⟨RX12, "extend", "(III)I"⟩
abbrev cX12_ofLine : ByteArray := prog_14_method_16_code
def yX12_ofLine : MethodName := ⟨RX12, "ofLine", "(II)I"⟩
abbrev cX12_train : ByteArray := prog_14_method_17_code
def yX12_train : MethodName := ⟨RX12, "train", "(III)I"⟩
abbrev cX12_lineOf : ByteArray := prog_14_method_18_code
def yX12_lineOf : MethodName := ⟨RX12, "lineOf", "(I)I"⟩
abbrev cX12_startOf : ByteArray := prog_14_method_19_code
def yX12_startOf : MethodName := ⟨RX12, "startOf", "(I)I"⟩
abbrev cX12_stopsOf : ByteArray := prog_14_method_20_code
def yX12_stopsOf : MethodName := ⟨RX12, "stopsOf", "(I)I"⟩
abbrev cX12_stationAt : ByteArray := prog_14_method_21_code
def yX12_stationAt : MethodName := ⟨RX12, "stationAt", "(II)I"⟩
abbrev cX12_minuteAt : ByteArray := prog_14_method_22_code
def yX12_minuteAt : MethodName := ⟨RX12, "minuteAt", "(II)I"⟩
abbrev cX12_endOf : ByteArray := prog_14_method_23_code
def yX12_endOf : MethodName := ⟨RX12, "endOf", "(I)I"⟩
abbrev cX12_lotsWith : ByteArray := prog_14_method_24_code
def yX12_lotsWith : MethodName := ⟨RX12, "lotsWith", "(I)I"⟩
abbrev cX12_allLots : ByteArray := prog_14_method_25_code
def yX12_allLots : MethodName := ⟨RX12, "allLots", "()I"⟩
abbrev cX12_ofTrain : ByteArray := prog_14_method_26_code
def yX12_ofTrain : MethodName := ⟨RX12, "ofTrain", "(II)I"⟩
abbrev cX12_stop : ByteArray := prog_14_method_27_code
def yX12_stop : MethodName := ⟨RX12, "stop", "(III)I"⟩
abbrev cX12_here : ByteArray := prog_14_method_28_code
def yX12_here : MethodName := ⟨RX12, "here", "()I"⟩
abbrev cX12_wrong : ByteArray := prog_14_method_29_code
def yX12_wrong : MethodName := ⟨RX12, "wrong", "()I"⟩
abbrev cX12_takes : ByteArray := prog_14_method_30_code
def yX12_takes : MethodName := ⟨RX12, "takes", "(I)Z"⟩
abbrev cX12_nameOf : ByteArray := prog_14_method_31_code
def yX12_nameOf : MethodName := ⟨RX12, "nameOf", "(I)I"⟩
abbrev cX12_either : ByteArray := prog_14_method_32_code
def yX12_either : MethodName := ⟨RX12, "either", "()I"⟩
abbrev cX12_both : ByteArray := prog_14_method_33_code
def yX12_both : MethodName := ⟨RX12, "both", "()I"⟩
abbrev cX12_compared : ByteArray := prog_14_method_34_code
def yX12_compared : MethodName := ⟨RX12, "compared", "()I"⟩
abbrev cX12_sum : ByteArray := prog_14_method_35_code
def yX12_sum : MethodName := ⟨RX12, "sum", "()I"⟩
abbrev cX12_product : ByteArray := prog_14_method_36_code
def yX12_product : MethodName := ⟨RX12, "product", "()I"⟩
abbrev cX12_unit : ByteArray := prog_14_method_37_code
def yX12_unit : MethodName := ⟨RX12, "unit", "()I"⟩
abbrev cX12_worked : ByteArray := prog_14_method_38_code
def yX12_worked : MethodName := ⟨RX12, "worked", "(III)I"⟩
abbrev cX12_feed : ByteArray := prog_14_method_39_code
def yX12_feed : MethodName := ⟨RX12, "feed", "(JI)I"⟩
abbrev cX12_text : ByteArray := prog_14_method_40_code
def yX12_text : MethodName := ⟨RX12, "text", "(I)I"⟩
abbrev cX12_gives : ByteArray := prog_14_method_41_code
def yX12_gives : MethodName := ⟨RX12, "gives", "(I)I"⟩
abbrev cX12_law : ByteArray := prog_14_method_42_code
def yX12_law : MethodName := ⟨RX12, "law", "(IIIII)I"⟩
abbrev cX12_isPart : ByteArray := prog_14_method_43_code
def yX12_isPart : MethodName := ⟨RX12, "isPart", "(I)Z"⟩
abbrev cX12_areRight : ByteArray := prog_14_method_44_code
def yX12_areRight : MethodName := ⟨RX12, "areRight", "(IIII)Z"⟩
abbrev cX12_comes : ByteArray := prog_14_method_45_code
def yX12_comes : MethodName := ⟨RX12, "comes", "(IIII)V"⟩
abbrev cX12_group : ByteArray := prog_14_method_46_code
def yX12_group : MethodName := ⟨RX12, "group", "(IIII)I"⟩
abbrev cX12_weighs : ByteArray := prog_14_method_47_code
def yX12_weighs : MethodName := ⟨RX12, "weighs", "(IIII)Z"⟩
abbrev cX12_paysBy : ByteArray := prog_14_method_48_code
def yX12_paysBy : MethodName := ⟨RX12, "paysBy", "(IIII)Z"⟩
abbrev cX12_pays : ByteArray := prog_14_method_49_code
def yX12_pays : MethodName := ⟨RX12, "pays", "(I)Z"⟩
abbrev cX12_ofGroup : ByteArray := prog_14_method_50_code
def yX12_ofGroup : MethodName := ⟨RX12, "ofGroup", "(II)I"⟩
abbrev cX12_isOf : ByteArray := prog_14_method_51_code
def yX12_isOf : MethodName := ⟨RX12, "isOf", "(II)Z"⟩
abbrev cX12_as : ByteArray := prog_14_method_52_code
def yX12_as : MethodName := ⟨RX12, "as", "(II)I"⟩
abbrev cX12_believe : ByteArray := prog_14_method_53_code
def yX12_believe : MethodName := ⟨RX12, "believe", "(II)I"⟩
abbrev cX12_price : ByteArray := prog_14_method_54_code
def yX12_price : MethodName := ⟨RX12, "price", "(II)I"⟩
abbrev cX12_findRow : ByteArray := prog_14_method_55_code
def yX12_findRow : MethodName := ⟨RX12, "findRow", "(I)V"⟩
abbrev cX12_whyNot : ByteArray := prog_14_method_56_code
def yX12_whyNot : MethodName := ⟨RX12, "whyNot", "(I)I"⟩
abbrev cX12_isSet : ByteArray := prog_14_method_57_code
def yX12_isSet : MethodName := ⟨RX12, "isSet", "(I)Z"⟩
abbrev cX12_walked : ByteArray := prog_14_method_58_code
def yX12_walked : MethodName := ⟨RX12, "walked", "(I)I"⟩
abbrev cX12_shift : ByteArray := prog_14_method_59_code
def yX12_shift : MethodName := ⟨RX12, "shift", "(I)I"⟩
abbrev cX12_lots : ByteArray := prog_14_method_60_code
def yX12_lots : MethodName := ⟨RX12, "lots", "(II)I"⟩
abbrev cX12_findsOf : ByteArray := prog_14_method_61_code
def yX12_findsOf : MethodName := ⟨RX12, "findsOf", "(I)I"⟩
abbrev cX12_ofShift : ByteArray := prog_14_method_62_code
def yX12_ofShift : MethodName := ⟨RX12, "ofShift", "(II)I"⟩
abbrev cX12_common : ByteArray := prog_14_method_63_code
def yX12_common : MethodName := ⟨RX12, "common", "(JJ)J"⟩
abbrev cX12_part : ByteArray := prog_14_method_64_code
def yX12_part : MethodName := ⟨RX12, "part", "(JJI)J"⟩
abbrev cX12_odds : ByteArray := prog_14_method_65_code
def yX12_odds : MethodName := ⟨RX12, "odds", "(II)I"⟩
abbrev cX12_unpaidBy : ByteArray := prog_14_method_66_code
def yX12_unpaidBy : MethodName := ⟨RX12, "unpaidBy", "(I)I"⟩
abbrev cX12_unpaid : ByteArray := prog_14_method_67_code
def yX12_unpaid : MethodName := ⟨RX12, "unpaid", "()I"⟩
abbrev cX12_coinUp : ByteArray := prog_14_method_68_code
def yX12_coinUp : MethodName := ⟨RX12, "coinUp", "()J"⟩
abbrev cX12_coin : ByteArray := prog_14_method_69_code
def yX12_coin : MethodName := ⟨RX12, "coin", "(I)J"⟩
abbrev cX12_isNext : ByteArray := prog_14_method_70_code
def yX12_isNext : MethodName := ⟨RX12, "isNext", "(I)Z"⟩
abbrev cX12_findBest : ByteArray := prog_14_method_71_code
def yX12_findBest : MethodName := ⟨RX12, "findBest", "(I)V"⟩
abbrev cX12_best : ByteArray := prog_14_method_72_code
def yX12_best : MethodName := ⟨RX12, "best", "(II)I"⟩
abbrev cX12_plan : ByteArray := prog_14_method_73_code
def yX12_plan : MethodName := ⟨RX12, "plan", "(I)I"⟩
abbrev cX12_drawn : ByteArray := prog_14_method_74_code
def yX12_drawn : MethodName := ⟨RX12, "drawn", "()I"⟩
abbrev cX12_isCaught : ByteArray := prog_14_method_75_code
def yX12_isCaught : MethodName := ⟨RX12, "isCaught", "(I)V"⟩
abbrev cX12_aDay : ByteArray := prog_14_method_76_code
def yX12_aDay : MethodName := ⟨RX12, "aDay", "()I"⟩
abbrev cX12_days : ByteArray := prog_14_method_77_code
def yX12_days : MethodName := ⟨RX12, "days", "(I)I"⟩
abbrev cX12_find : ByteArray := prog_14_method_78_code
def yX12_find : MethodName := ⟨RX12, "find", "(II)I"⟩
abbrev cX12_average : ByteArray := prog_14_method_79_code
def yX12_average : MethodName := ⟨RX12, "average", "()I"⟩
abbrev cX12_telling : ByteArray := prog_14_method_80_code
def yX12_telling : MethodName := ⟨RX12, "telling", "(IIII)I"⟩
abbrev cX12_turn : ByteArray := prog_14_method_81_code
def yX12_turn : MethodName := ⟨RX12, "turn", "(I)I"⟩
abbrev cX12_gate : ByteArray := prog_14_method_82_code
def yX12_gate : MethodName := ⟨RX12, "gate", "(II)I"⟩
abbrev cX12_wrong_ : ByteArray := prog_14_method_83_code
def yX12_wrong_ : MethodName := ⟨RX12, "wrong", "(II)J"⟩
abbrev cX12_seen : ByteArray := prog_14_method_84_code
def yX12_seen : MethodName := ⟨RX12, "seen", "(II)I"⟩
abbrev cX12_fair : ByteArray := prog_14_method_85_code
def yX12_fair : MethodName := ⟨RX12, "fair", "(I)I"⟩
abbrev cX12_seed : ByteArray := prog_14_method_86_code
def yX12_seed : MethodName := ⟨RX12, "seed", "(I)I"⟩
abbrev cX12_ran : ByteArray := prog_14_method_87_code
def yX12_ran : MethodName := ⟨RX12, "ran", "(I)V"⟩
abbrev cX12_above : ByteArray := prog_14_method_88_code
def yX12_above : MethodName := ⟨RX12, "above", "(I)I"⟩
abbrev cX12_own : ByteArray := prog_14_method_89_code
def yX12_own : MethodName := ⟨RX12, "own", "()I"⟩
abbrev cX12_goes : ByteArray := prog_14_method_90_code
def yX12_goes : MethodName := ⟨RX12, "goes", "(II)I"⟩
abbrev cX12_weighsOf : ByteArray := prog_14_method_91_code
def yX12_weighsOf : MethodName := ⟨RX12, "weighsOf", "(II)I"⟩
abbrev cX12_tellsOf : ByteArray := prog_14_method_92_code
def yX12_tellsOf : MethodName := ⟨RX12, "tellsOf", "(II)I"⟩
abbrev cX12_paysOf : ByteArray := prog_14_method_93_code
def yX12_paysOf : MethodName := ⟨RX12, "paysOf", "(II)I"⟩
abbrev cX12_voice : ByteArray := prog_14_method_94_code
def yX12_voice : MethodName := ⟨RX12, "voice", "(III)I"⟩
abbrev cX12_trace : ByteArray := prog_14_method_95_code
def yX12_trace : MethodName := ⟨RX12, "trace", "(I)I"⟩
abbrev cX12_isSheet : ByteArray := prog_14_method_96_code
def yX12_isSheet : MethodName := ⟨RX12, "isSheet", "(I)Z"⟩
abbrev cX12_sheet : ByteArray := prog_14_method_97_code
def yX12_sheet : MethodName := ⟨RX12, "sheet", "(III)I"⟩
abbrev cX12_put : ByteArray := prog_14_method_98_code
def yX12_put : MethodName := ⟨RX12, "put", "(III)I"⟩
abbrev cX12_move : ByteArray := prog_14_method_99_code
def yX12_move : MethodName := ⟨RX12, "move", "(IIIII)I"⟩
abbrev cX12_groups : ByteArray := prog_14_method_100_code
def yX12_groups : MethodName := ⟨RX12, "groups", "(I)I"⟩
abbrev cX12_image : ByteArray := prog_14_method_101_code
def yX12_image : MethodName := ⟨RX12, "image", "()I"⟩
abbrev cX12_restore : ByteArray := prog_14_method_102_code
def yX12_restore : MethodName := ⟨RX12, "restore", "()I"⟩
abbrev cX12_tell : ByteArray := prog_14_method_103_code
def yX12_tell : MethodName := ⟨RX12, "tell", "(I)I"⟩
abbrev cX12_check : ByteArray := prog_14_method_104_code
def yX12_check : MethodName := ⟨RX12, "check", "(I)I"⟩
abbrev cX12_count : ByteArray := prog_14_method_105_code
def yX12_count : MethodName := ⟨RX12, "count", "(I)I"⟩
abbrev cX12_told : ByteArray := prog_14_method_106_code
def yX12_told : MethodName := ⟨RX12, "told", "(I)I"⟩
def RJx145de : String := "java/io/Serializable"
def TJx145de : u_T := fun k => match k with
  | _ => ("", "", "", false)
def tyJx145de : Nat → FieldType := fun k => match k with
  | _ => .int
abbrev wsJx145de0 : List Cond := u_ws RJx145de TJx145de 0
theorem nmJx145de : ∀ a, a < 0 → ∀ b, b < 0 → a ≠ b → (TJx145de a).2.1 ≠ (TJx145de b).2.1 := by decide +kernel
theorem tyJx145de_ok : ∀ k, k < 0 → parseFieldDescriptor (TJx145de k).2.2.1 = some (tyJx145de k) := by decide +kernel
def RJx9f9b0 : String := "java/lang/CharSequence"
def TJx9f9b0 : u_T := fun k => match k with
  | _ => ("", "", "", false)
def tyJx9f9b0 : Nat → FieldType := fun k => match k with
  | _ => .int
abbrev wsJx9f9b00 : List Cond := u_ws RJx9f9b0 TJx9f9b0 0
theorem nmJx9f9b0 : ∀ a, a < 0 → ∀ b, b < 0 → a ≠ b → (TJx9f9b0 a).2.1 ≠ (TJx9f9b0 b).2.1 := by decide +kernel
theorem tyJx9f9b0_ok : ∀ k, k < 0 → parseFieldDescriptor (TJx9f9b0 k).2.2.1 = some (tyJx9f9b0 k) := by decide +kernel
def RJ11 : String := "java/lang/Character"
def TJ11 : u_T := fun k => match k with
  | _ => ("", "", "", false)
def tyJ11 : Nat → FieldType := fun k => match k with
  | _ => .int
abbrev wsJ110 : List Cond := u_ws RJ11 TJ11 0
theorem nmJ11 : ∀ a, a < 0 → ∀ b, b < 0 → a ≠ b → (TJ11 a).2.1 ≠ (TJ11 b).2.1 := by decide +kernel
theorem tyJ11_ok : ∀ k, k < 0 → parseFieldDescriptor (TJ11 k).2.2.1 = some (tyJ11 k) := by decide +kernel
abbrev cJ11_isValidCodePoint_9a6ad : ByteArray := prog_15_method_11_code
def yJ11_isValidCodePoint_9a6ad : MethodName := ⟨RJ11, "isValidCodePoint", "(I)Z"⟩
abbrev cJ11_highSurrogate_5068e : ByteArray := prog_15_method_28_code
def yJ11_highSurrogate_5068e : MethodName := ⟨RJ11, "highSurrogate", "(I)C"⟩
abbrev cJ11_lowSurrogate_5068e : ByteArray := prog_15_method_29_code
def yJ11_lowSurrogate_5068e : MethodName := ⟨RJ11, "lowSurrogate", "(I)C"⟩
def RJxb160c : String := "java/lang/Comparable"
def TJxb160c : u_T := fun k => match k with
  | _ => ("", "", "", false)
def tyJxb160c : Nat → FieldType := fun k => match k with
  | _ => .int
abbrev wsJxb160c0 : List Cond := u_ws RJxb160c TJxb160c 0
theorem nmJxb160c : ∀ a, a < 0 → ∀ b, b < 0 → a ≠ b → (TJxb160c a).2.1 ≠ (TJxb160c b).2.1 := by decide +kernel
theorem tyJxb160c_ok : ∀ k, k < 0 → parseFieldDescriptor (TJxb160c k).2.2.1 = some (tyJxb160c k) := by decide +kernel
def RJ9 : String := "java/lang/Math"
def TJ9 : u_T := fun k => match k with
  | _ => ("", "", "", false)
def tyJ9 : Nat → FieldType := fun k => match k with
  | _ => .int
abbrev wsJ90 : List Cond := u_ws RJ9 TJ9 0
theorem nmJ9 : ∀ a, a < 0 → ∀ b, b < 0 → a ≠ b → (TJ9 a).2.1 ≠ (TJ9 b).2.1 := by decide +kernel
theorem tyJ9_ok : ∀ k, k < 0 → parseFieldDescriptor (TJ9 k).2.2.1 = some (tyJ9 k) := by decide +kernel
abbrev cJ9_max_7cf53 : ByteArray := prog_16_method_65_code
def yJ9_max_7cf53 : MethodName := ⟨RJ9, "max", "(II)I"⟩
abbrev cJ9_min_7cf53 : ByteArray := prog_16_method_69_code
def yJ9_min_7cf53 : MethodName := ⟨RJ9, "min", "(II)I"⟩
def RJ0 : String := "java/lang/String"
def TJ0 : u_T := fun k => match k with
  | _ => ("", "", "", false)
def tyJ0 : Nat → FieldType := fun k => match k with
  | _ => .int
abbrev wsJ00 : List Cond := u_ws RJ0 TJ0 0
theorem nmJ0 : ∀ a, a < 0 → ∀ b, b < 0 → a ≠ b → (TJ0 a).2.1 ≠ (TJ0 b).2.1 := by decide +kernel
theorem tyJ0_ok : ∀ k, k < 0 → parseFieldDescriptor (TJ0 k).2.2.1 = some (tyJ0 k) := by decide +kernel
abbrev cJ0_length_8abf5 : ByteArray := prog_17_method_54_code
def yJ0_length_8abf5 : MethodName := ⟨RJ0, "length", "()I"⟩
abbrev cJ0_indexOf_0f7a4 : ByteArray := prog_17_method_79_code
def yJ0_indexOf_0f7a4 : MethodName := ⟨RJ0, "indexOf", "(I)I"⟩
abbrev cJ0_indexOf_7cf53 : ByteArray := prog_17_method_80_code
def yJ0_indexOf_7cf53 : MethodName := ⟨RJ0, "indexOf", "(II)I"⟩
abbrev cJ0_coder_7d493 : ByteArray := prog_17_method_152_code
def yJ0_coder_7d493 : MethodName := ⟨RJ0, "coder", "()B"⟩
abbrev cJ0_isLatin1_aae02 : ByteArray := prog_17_method_154_code
def yJ0_isLatin1_aae02 : MethodName := ⟨RJ0, "isLatin1", "()Z"⟩
abbrev cJ0_checkBoundsBeginEnd_23922 : ByteArray := prog_17_method_158_code
def yJ0_checkBoundsBeginEnd_23922 : MethodName := ⟨RJ0, "checkBoundsBeginEnd", "(III)V"⟩
def RJ1 : String := "java/lang/StringLatin1"
def TJ1 : u_T := fun k => match k with
  | _ => ("", "", "", false)
def tyJ1 : Nat → FieldType := fun k => match k with
  | _ => .int
abbrev wsJ10 : List Cond := u_ws RJ1 TJ1 0
theorem nmJ1 : ∀ a, a < 0 → ∀ b, b < 0 → a ≠ b → (TJ1 a).2.1 ≠ (TJ1 b).2.1 := by decide +kernel
theorem tyJ1_ok : ∀ k, k < 0 → parseFieldDescriptor (TJ1 k).2.2.1 = some (tyJ1 k) := by decide +kernel
abbrev cJ1_canEncode_9a6ad : ByteArray := prog_18_method_4_code
def yJ1_canEncode_9a6ad : MethodName := ⟨RJ1, "canEncode", "(I)Z"⟩
abbrev cJ1_indexOf_4cfef : ByteArray := prog_18_method_22_code
def yJ1_indexOf_4cfef : MethodName := ⟨RJ1, "indexOf", "([BIII)I"⟩
abbrev cJ1_indexOfChar_4cfef : ByteArray := prog_18_method_23_code
def yJ1_indexOfChar_4cfef : MethodName := ⟨RJ1, "indexOfChar", "([BIII)I"⟩
def RJ2 : String := "java/lang/StringUTF16"
def TJ2 : u_T := fun k => match k with
  | _ => ("", "", "", false)
def tyJ2 : Nat → FieldType := fun k => match k with
  | _ => .int
abbrev wsJ20 : List Cond := u_ws RJ2 TJ2 0
theorem nmJ2 : ∀ a, a < 0 → ∀ b, b < 0 → a ≠ b → (TJ2 a).2.1 ≠ (TJ2 b).2.1 := by decide +kernel
theorem tyJ2_ok : ∀ k, k < 0 → parseFieldDescriptor (TJ2 k).2.2.1 = some (tyJ2 k) := by decide +kernel
abbrev cJ2_getChar_3b067 : ByteArray := prog_19_method_5_code
def yJ2_getChar_3b067 : MethodName := ⟨RJ2, "getChar", "([BI)C"⟩
abbrev cJ2_length_9d52b : ByteArray := prog_19_method_6_code
def yJ2_length_9d52b : MethodName := ⟨RJ2, "length", "([B)I"⟩
abbrev cJ2_indexOf_4cfef : ByteArray := prog_19_method_40_code
def yJ2_indexOf_4cfef : MethodName := ⟨RJ2, "indexOf", "([BIII)I"⟩
abbrev cJ2_indexOfChar_4cfef : ByteArray := prog_19_method_47_code
def yJ2_indexOfChar_4cfef : MethodName := ⟨RJ2, "indexOfChar", "([BIII)I"⟩
abbrev cJ2_indexOfCharUnsafe_4cfef : ByteArray := prog_19_method_48_code
def yJ2_indexOfCharUnsafe_4cfef : MethodName := ⟨RJ2, "indexOfCharUnsafe", "([BIII)I"⟩
abbrev cJ2_indexOfSupplementary_4cfef : ByteArray := prog_19_method_49_code
def yJ2_indexOfSupplementary_4cfef : MethodName := ⟨RJ2, "indexOfSupplementary", "([BIII)I"⟩
abbrev cJ2_checkBoundsBeginEnd_d044e : ByteArray := prog_19_method_93_code
def yJ2_checkBoundsBeginEnd_d044e : MethodName := ⟨RJ2, "checkBoundsBeginEnd", "(II[B)V"⟩
def RJ10 : String := "java/lang/System"
def TJ10 : u_T := fun k => match k with
  | _ => ("", "", "", false)
def tyJ10 : Nat → FieldType := fun k => match k with
  | _ => .int
abbrev wsJ100 : List Cond := u_ws RJ10 TJ10 0
theorem nmJ10 : ∀ a, a < 0 → ∀ b, b < 0 → a ≠ b → (TJ10 a).2.1 ≠ (TJ10 b).2.1 := by decide +kernel
theorem tyJ10_ok : ∀ k, k < 0 → parseFieldDescriptor (TJ10 k).2.2.1 = some (tyJ10 k) := by decide +kernel
def RJxfd54e : String := "java/lang/constant/Constable"
def TJxfd54e : u_T := fun k => match k with
  | _ => ("", "", "", false)
def tyJxfd54e : Nat → FieldType := fun k => match k with
  | _ => .int
abbrev wsJxfd54e0 : List Cond := u_ws RJxfd54e TJxfd54e 0
theorem nmJxfd54e : ∀ a, a < 0 → ∀ b, b < 0 → a ≠ b → (TJxfd54e a).2.1 ≠ (TJxfd54e b).2.1 := by decide +kernel
theorem tyJxfd54e_ok : ∀ k, k < 0 → parseFieldDescriptor (TJxfd54e k).2.2.1 = some (tyJxfd54e k) := by decide +kernel
def RJx3cf43 : String := "java/lang/constant/ConstantDesc"
def TJx3cf43 : u_T := fun k => match k with
  | _ => ("", "", "", false)
def tyJx3cf43 : Nat → FieldType := fun k => match k with
  | _ => .int
abbrev wsJx3cf430 : List Cond := u_ws RJx3cf43 TJx3cf43 0
theorem nmJx3cf43 : ∀ a, a < 0 → ∀ b, b < 0 → a ≠ b → (TJx3cf43 a).2.1 ≠ (TJx3cf43 b).2.1 := by decide +kernel
theorem tyJx3cf43_ok : ∀ k, k < 0 → parseFieldDescriptor (TJx3cf43 k).2.2.1 = some (tyJx3cf43 k) := by decide +kernel
def RJ7 : String := "java/util/Arrays"
def TJ7 : u_T := fun k => match k with
  | _ => ("", "", "", false)
def tyJ7 : Nat → FieldType := fun k => match k with
  | _ => .int
abbrev wsJ70 : List Cond := u_ws RJ7 TJ7 0
theorem nmJ7 : ∀ a, a < 0 → ∀ b, b < 0 → a ≠ b → (TJ7 a).2.1 ≠ (TJ7 b).2.1 := by decide +kernel
theorem tyJ7_ok : ∀ k, k < 0 → parseFieldDescriptor (TJ7 k).2.2.1 = some (tyJ7 k) := by decide +kernel
abbrev cJ7_fill_53178 : ByteArray := prog_21_method_103_code
def yJ7_fill_53178 : MethodName := ⟨RJ7, "fill", "([II)V"⟩
def RJ3 : String := "jdk/internal/util/Preconditions"
def TJ3 : u_T := fun k => match k with
  | _ => ("", "", "", false)
def tyJ3 : Nat → FieldType := fun k => match k with
  | _ => .int
abbrev wsJ30 : List Cond := u_ws RJ3 TJ3 0
theorem nmJ3 : ∀ a, a < 0 → ∀ b, b < 0 → a ≠ b → (TJ3 a).2.1 ≠ (TJ3 b).2.1 := by decide +kernel
theorem tyJ3_ok : ∀ k, k < 0 → parseFieldDescriptor (TJ3 k).2.2.1 = some (tyJ3 k) := by decide +kernel
abbrev cJ3_checkFromToIndex_8c36e : ByteArray := prog_22_method_12_code
def yJ3_checkFromToIndex_8c36e : MethodName := ⟨RJ3, "checkFromToIndex", "(IIILjava/util/function/BiFunction;)I"⟩
def RL : String := "CoatsByLotLaw"
abbrev cL_law : ByteArray := code
def yL_law : MethodName := ⟨RL, "law", "([I)Z"⟩
abbrev vwCl : List vw_C := [(RX0, TX0, 4), (RX1, TX1, 7), (RX2, TX2, 4), (RX3, TX3, 11), (RX4, TX4, 10), (RX5, TX5, 6), (RX6, TX6, 3), (RX7, TX7, 3), (RX8, TX8, 3), (RX9, TX9, 5), (RX10, TX10, 10), (RX11, TX11, 8), (RX12, TX12, 24)]
