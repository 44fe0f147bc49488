-- ===== PART A: goes FIRST, ahead of the names: the tables' words, and 'selects' of the private methods out of them =====
/-- a private method of a class that the tables say can be made, by its rows of tables_1 -/
def lw_okq (q : MethodName × Nat) : Prop := (q.1.cls ≠ "java/lang/invoke/MethodHandle" ∧ q.1.cls ≠ "java/lang/invoke/VarHandle") ∧ Cond.instantiable q.1.cls q.2 ∈ tables_1 ∧ Cond.privateMethod q.1 ∈ tables_1 ∧ Cond.instanceMethod q.1 ∈ tables_1
theorem lw_p0 : lw_okq (⟨"LaytimeDesk", "refused", "(I)Z"⟩, 6) := ⟨⟨by decide +kernel, by decide +kernel⟩, List.mem_of_getElem? (i := 15) (by decide +kernel), List.mem_of_getElem? (i := 395) (by decide +kernel), List.mem_of_getElem? (i := 396) (by decide +kernel)⟩
theorem lw_p1 : lw_okq (⟨"LaytimeDesk", "placeReason", "(II)I"⟩, 6) := ⟨⟨by decide +kernel, by decide +kernel⟩, List.mem_of_getElem? (i := 15) (by decide +kernel), List.mem_of_getElem? (i := 409) (by decide +kernel), List.mem_of_getElem? (i := 410) (by decide +kernel)⟩
theorem lw_p2 : lw_okq (⟨"LaytimeDesk", "contractReason", "(I)I"⟩, 6) := ⟨⟨by decide +kernel, by decide +kernel⟩, List.mem_of_getElem? (i := 15) (by decide +kernel), List.mem_of_getElem? (i := 413) (by decide +kernel), List.mem_of_getElem? (i := 414) (by decide +kernel)⟩
theorem lw_p3 : lw_okq (⟨"LaytimeDesk", "termReason", "(II)I"⟩, 6) := ⟨⟨by decide +kernel, by decide +kernel⟩, List.mem_of_getElem? (i := 15) (by decide +kernel), List.mem_of_getElem? (i := 445) (by decide +kernel), List.mem_of_getElem? (i := 446) (by decide +kernel)⟩
theorem lw_p4 : lw_okq (⟨"LaytimeDesk", "thingReason", "(II)I"⟩, 6) := ⟨⟨by decide +kernel, by decide +kernel⟩, List.mem_of_getElem? (i := 15) (by decide +kernel), List.mem_of_getElem? (i := 449) (by decide +kernel), List.mem_of_getElem? (i := 450) (by decide +kernel)⟩
theorem lw_p5 : lw_okq (⟨"LaytimeDesk", "leave", "(I)V"⟩, 6) := ⟨⟨by decide +kernel, by decide +kernel⟩, List.mem_of_getElem? (i := 15) (by decide +kernel), List.mem_of_getElem? (i := 483) (by decide +kernel), List.mem_of_getElem? (i := 484) (by decide +kernel)⟩
theorem lw_p6 : lw_okq (⟨"LaytimeDesk", "portReason", "(I)I"⟩, 6) := ⟨⟨by decide +kernel, by decide +kernel⟩, List.mem_of_getElem? (i := 15) (by decide +kernel), List.mem_of_getElem? (i := 519) (by decide +kernel), List.mem_of_getElem? (i := 520) (by decide +kernel)⟩
theorem lw_p7 : lw_okq (⟨"LaytimeDesk", "minuteReason", "(II)I"⟩, 6) := ⟨⟨by decide +kernel, by decide +kernel⟩, List.mem_of_getElem? (i := 15) (by decide +kernel), List.mem_of_getElem? (i := 531) (by decide +kernel), List.mem_of_getElem? (i := 532) (by decide +kernel)⟩
theorem lw_p8 : lw_okq (⟨"LaytimeDesk", "dayReason", "(II)I"⟩, 6) := ⟨⟨by decide +kernel, by decide +kernel⟩, List.mem_of_getElem? (i := 15) (by decide +kernel), List.mem_of_getElem? (i := 554) (by decide +kernel), List.mem_of_getElem? (i := 555) (by decide +kernel)⟩
theorem lw_p9 : lw_okq (⟨"LaytimeDesk", "thereReason", "(II)I"⟩, 6) := ⟨⟨by decide +kernel, by decide +kernel⟩, List.mem_of_getElem? (i := 15) (by decide +kernel), List.mem_of_getElem? (i := 562) (by decide +kernel), List.mem_of_getElem? (i := 563) (by decide +kernel)⟩
theorem lw_p10 : lw_okq (⟨"LaytimeDesk", "daysThatFit", "(IIIII)I"⟩, 6) := ⟨⟨by decide +kernel, by decide +kernel⟩, List.mem_of_getElem? (i := 15) (by decide +kernel), List.mem_of_getElem? (i := 570) (by decide +kernel), List.mem_of_getElem? (i := 571) (by decide +kernel)⟩
theorem lw_p11 : lw_okq (⟨"LaytimeDeskModel", "no", "(I)I"⟩, 67) := ⟨⟨by decide +kernel, by decide +kernel⟩, List.mem_of_getElem? (i := 927) (by decide +kernel), List.mem_of_getElem? (i := 1143) (by decide +kernel), List.mem_of_getElem? (i := 1144) (by decide +kernel)⟩
theorem lw_p12 : lw_okq (⟨"LaytimeDeskModel", "placeWhy", "(II)I"⟩, 67) := ⟨⟨by decide +kernel, by decide +kernel⟩, List.mem_of_getElem? (i := 927) (by decide +kernel), List.mem_of_getElem? (i := 1151) (by decide +kernel), List.mem_of_getElem? (i := 1152) (by decide +kernel)⟩
theorem lw_p13 : lw_okq (⟨"LaytimeDeskModel", "contractWhy", "(I)I"⟩, 67) := ⟨⟨by decide +kernel, by decide +kernel⟩, List.mem_of_getElem? (i := 927) (by decide +kernel), List.mem_of_getElem? (i := 1155) (by decide +kernel), List.mem_of_getElem? (i := 1156) (by decide +kernel)⟩
theorem lw_p14 : lw_okq (⟨"LaytimeDeskModel", "termWhy", "(II)I"⟩, 67) := ⟨⟨by decide +kernel, by decide +kernel⟩, List.mem_of_getElem? (i := 927) (by decide +kernel), List.mem_of_getElem? (i := 1164) (by decide +kernel), List.mem_of_getElem? (i := 1165) (by decide +kernel)⟩
theorem lw_p15 : lw_okq (⟨"LaytimeDeskModel", "clear", "(III)I"⟩, 67) := ⟨⟨by decide +kernel, by decide +kernel⟩, List.mem_of_getElem? (i := 927) (by decide +kernel), List.mem_of_getElem? (i := 1198) (by decide +kernel), List.mem_of_getElem? (i := 1199) (by decide +kernel)⟩
def lw_privs_1 : List (MethodName × Nat) := [(⟨"LaytimeDesk", "refused", "(I)Z"⟩, 6), (⟨"LaytimeDesk", "placeReason", "(II)I"⟩, 6), (⟨"LaytimeDesk", "contractReason", "(I)I"⟩, 6), (⟨"LaytimeDesk", "termReason", "(II)I"⟩, 6), (⟨"LaytimeDesk", "thingReason", "(II)I"⟩, 6), (⟨"LaytimeDesk", "leave", "(I)V"⟩, 6), (⟨"LaytimeDesk", "portReason", "(I)I"⟩, 6), (⟨"LaytimeDesk", "minuteReason", "(II)I"⟩, 6), (⟨"LaytimeDesk", "dayReason", "(II)I"⟩, 6), (⟨"LaytimeDesk", "thereReason", "(II)I"⟩, 6), (⟨"LaytimeDesk", "daysThatFit", "(IIIII)I"⟩, 6), (⟨"LaytimeDeskModel", "no", "(I)I"⟩, 67), (⟨"LaytimeDeskModel", "placeWhy", "(II)I"⟩, 67), (⟨"LaytimeDeskModel", "contractWhy", "(I)I"⟩, 67), (⟨"LaytimeDeskModel", "termWhy", "(II)I"⟩, 67), (⟨"LaytimeDeskModel", "clear", "(III)I"⟩, 67)]
theorem lw_r1 : ∀ q ∈ lw_privs_1, lw_okq q := List.forall_mem_cons.mpr ⟨lw_p0, List.forall_mem_cons.mpr ⟨lw_p1, List.forall_mem_cons.mpr ⟨lw_p2, List.forall_mem_cons.mpr ⟨lw_p3, List.forall_mem_cons.mpr ⟨lw_p4, List.forall_mem_cons.mpr ⟨lw_p5, List.forall_mem_cons.mpr ⟨lw_p6, List.forall_mem_cons.mpr ⟨lw_p7, List.forall_mem_cons.mpr ⟨lw_p8, List.forall_mem_cons.mpr ⟨lw_p9, List.forall_mem_cons.mpr ⟨lw_p10, List.forall_mem_cons.mpr ⟨lw_p11, List.forall_mem_cons.mpr ⟨lw_p12, List.forall_mem_cons.mpr ⟨lw_p13, List.forall_mem_cons.mpr ⟨lw_p14, List.forall_mem_cons.mpr ⟨lw_p15, fun _ h => absurd h List.not_mem_nil⟩⟩⟩⟩⟩⟩⟩⟩⟩⟩⟩⟩⟩⟩⟩⟩
theorem lw_p16 : lw_okq (⟨"LaytimeDeskModel", "part", "(I)V"⟩, 67) := ⟨⟨by decide +kernel, by decide +kernel⟩, List.mem_of_getElem? (i := 927) (by decide +kernel), List.mem_of_getElem? (i := 1203) (by decide +kernel), List.mem_of_getElem? (i := 1204) (by decide +kernel)⟩
theorem lw_p17 : lw_okq (⟨"LaytimeDeskModel", "portWhy", "(I)I"⟩, 67) := ⟨⟨by decide +kernel, by decide +kernel⟩, List.mem_of_getElem? (i := 927) (by decide +kernel), List.mem_of_getElem? (i := 1212) (by decide +kernel), List.mem_of_getElem? (i := 1213) (by decide +kernel)⟩
theorem lw_p18 : lw_okq (⟨"LaytimeDeskModel", "isOpen", "(I)Z"⟩, 67) := ⟨⟨by decide +kernel, by decide +kernel⟩, List.mem_of_getElem? (i := 927) (by decide +kernel), List.mem_of_getElem? (i := 1216) (by decide +kernel), List.mem_of_getElem? (i := 1217) (by decide +kernel)⟩
theorem lw_p19 : lw_okq (⟨"LaytimeDeskModel", "minuteWhy", "(II)I"⟩, 67) := ⟨⟨by decide +kernel, by decide +kernel⟩, List.mem_of_getElem? (i := 927) (by decide +kernel), List.mem_of_getElem? (i := 1224) (by decide +kernel), List.mem_of_getElem? (i := 1225) (by decide +kernel)⟩
theorem lw_p20 : lw_okq (⟨"LaytimeDeskModel", "of", "(II)I"⟩, 67) := ⟨⟨by decide +kernel, by decide +kernel⟩, List.mem_of_getElem? (i := 927) (by decide +kernel), List.mem_of_getElem? (i := 1228) (by decide +kernel), List.mem_of_getElem? (i := 1229) (by decide +kernel)⟩
theorem lw_p21 : lw_okq (⟨"LaytimeDeskModel", "isKnown", "(II)Z"⟩, 67) := ⟨⟨by decide +kernel, by decide +kernel⟩, List.mem_of_getElem? (i := 927) (by decide +kernel), List.mem_of_getElem? (i := 1232) (by decide +kernel), List.mem_of_getElem? (i := 1233) (by decide +kernel)⟩
theorem lw_p22 : lw_okq (⟨"LaytimeDeskModel", "insert", "(III)V"⟩, 67) := ⟨⟨by decide +kernel, by decide +kernel⟩, List.mem_of_getElem? (i := 927) (by decide +kernel), List.mem_of_getElem? (i := 1236) (by decide +kernel), List.mem_of_getElem? (i := 1237) (by decide +kernel)⟩
theorem lw_p23 : lw_okq (⟨"LaytimeDeskModel", "dayWhy", "(II)I"⟩, 67) := ⟨⟨by decide +kernel, by decide +kernel⟩, List.mem_of_getElem? (i := 927) (by decide +kernel), List.mem_of_getElem? (i := 1244) (by decide +kernel), List.mem_of_getElem? (i := 1245) (by decide +kernel)⟩
theorem lw_p24 : lw_okq (⟨"LaytimeDeskModel", "lesser", "(II)I"⟩, 67) := ⟨⟨by decide +kernel, by decide +kernel⟩, List.mem_of_getElem? (i := 927) (by decide +kernel), List.mem_of_getElem? (i := 1256) (by decide +kernel), List.mem_of_getElem? (i := 1257) (by decide +kernel)⟩
theorem lw_p25 : lw_okq (⟨"LaytimeDeskModel", "put", "(IIJJ)Z"⟩, 67) := ⟨⟨by decide +kernel, by decide +kernel⟩, List.mem_of_getElem? (i := 927) (by decide +kernel), List.mem_of_getElem? (i := 1269) (by decide +kernel), List.mem_of_getElem? (i := 1270) (by decide +kernel)⟩
theorem lw_p26 : lw_okq (⟨"LaytimeDeskModel", "good", "(I)I"⟩, 67) := ⟨⟨by decide +kernel, by decide +kernel⟩, List.mem_of_getElem? (i := 927) (by decide +kernel), List.mem_of_getElem? (i := 1296) (by decide +kernel), List.mem_of_getElem? (i := 1297) (by decide +kernel)⟩
theorem lw_p27 : lw_okq (⟨"LaytimeDeskModel", "first", "(III)I"⟩, 67) := ⟨⟨by decide +kernel, by decide +kernel⟩, List.mem_of_getElem? (i := 927) (by decide +kernel), List.mem_of_getElem? (i := 1300) (by decide +kernel), List.mem_of_getElem? (i := 1301) (by decide +kernel)⟩
theorem lw_p28 : lw_okq (⟨"LaytimeDeskModel", "length", "(I)I"⟩, 67) := ⟨⟨by decide +kernel, by decide +kernel⟩, List.mem_of_getElem? (i := 927) (by decide +kernel), List.mem_of_getElem? (i := 1304) (by decide +kernel), List.mem_of_getElem? (i := 1305) (by decide +kernel)⟩
theorem lw_p29 : lw_okq (⟨"LaytimeDeskModel", "begin", "(I)I"⟩, 67) := ⟨⟨by decide +kernel, by decide +kernel⟩, List.mem_of_getElem? (i := 927) (by decide +kernel), List.mem_of_getElem? (i := 1308) (by decide +kernel), List.mem_of_getElem? (i := 1309) (by decide +kernel)⟩
theorem lw_p30 : lw_okq (⟨"LaytimeDeskModel", "doesCount", "(I)Z"⟩, 67) := ⟨⟨by decide +kernel, by decide +kernel⟩, List.mem_of_getElem? (i := 927) (by decide +kernel), List.mem_of_getElem? (i := 1312) (by decide +kernel), List.mem_of_getElem? (i := 1313) (by decide +kernel)⟩
theorem lw_p31 : lw_okq (⟨"LaytimeDeskModel", "end", "(I)I"⟩, 67) := ⟨⟨by decide +kernel, by decide +kernel⟩, List.mem_of_getElem? (i := 927) (by decide +kernel), List.mem_of_getElem? (i := 1316) (by decide +kernel), List.mem_of_getElem? (i := 1317) (by decide +kernel)⟩
def lw_privs_2 : List (MethodName × Nat) := [(⟨"LaytimeDeskModel", "part", "(I)V"⟩, 67), (⟨"LaytimeDeskModel", "portWhy", "(I)I"⟩, 67), (⟨"LaytimeDeskModel", "isOpen", "(I)Z"⟩, 67), (⟨"LaytimeDeskModel", "minuteWhy", "(II)I"⟩, 67), (⟨"LaytimeDeskModel", "of", "(II)I"⟩, 67), (⟨"LaytimeDeskModel", "isKnown", "(II)Z"⟩, 67), (⟨"LaytimeDeskModel", "insert", "(III)V"⟩, 67), (⟨"LaytimeDeskModel", "dayWhy", "(II)I"⟩, 67), (⟨"LaytimeDeskModel", "lesser", "(II)I"⟩, 67), (⟨"LaytimeDeskModel", "put", "(IIJJ)Z"⟩, 67), (⟨"LaytimeDeskModel", "good", "(I)I"⟩, 67), (⟨"LaytimeDeskModel", "first", "(III)I"⟩, 67), (⟨"LaytimeDeskModel", "length", "(I)I"⟩, 67), (⟨"LaytimeDeskModel", "begin", "(I)I"⟩, 67), (⟨"LaytimeDeskModel", "doesCount", "(I)Z"⟩, 67), (⟨"LaytimeDeskModel", "end", "(I)I"⟩, 67)]
theorem lw_r2 : ∀ q ∈ lw_privs_2, lw_okq q := List.forall_mem_cons.mpr ⟨lw_p16, List.forall_mem_cons.mpr ⟨lw_p17, List.forall_mem_cons.mpr ⟨lw_p18, List.forall_mem_cons.mpr ⟨lw_p19, List.forall_mem_cons.mpr ⟨lw_p20, List.forall_mem_cons.mpr ⟨lw_p21, List.forall_mem_cons.mpr ⟨lw_p22, List.forall_mem_cons.mpr ⟨lw_p23, List.forall_mem_cons.mpr ⟨lw_p24, List.forall_mem_cons.mpr ⟨lw_p25, List.forall_mem_cons.mpr ⟨lw_p26, List.forall_mem_cons.mpr ⟨lw_p27, List.forall_mem_cons.mpr ⟨lw_p28, List.forall_mem_cons.mpr ⟨lw_p29, List.forall_mem_cons.mpr ⟨lw_p30, List.forall_mem_cons.mpr ⟨lw_p31, fun _ h => absurd h List.not_mem_nil⟩⟩⟩⟩⟩⟩⟩⟩⟩⟩⟩⟩⟩⟩⟩⟩
theorem lw_p32 : lw_okq (⟨"LaytimeDeskModel", "allowed", "(IIII)J"⟩, 67) := ⟨⟨by decide +kernel, by decide +kernel⟩, List.mem_of_getElem? (i := 927) (by decide +kernel), List.mem_of_getElem? (i := 1320) (by decide +kernel), List.mem_of_getElem? (i := 1321) (by decide +kernel)⟩
theorem lw_p33 : lw_okq (⟨"LaytimeDeskModel", "many", "(I)I"⟩, 67) := ⟨⟨by decide +kernel, by decide +kernel⟩, List.mem_of_getElem? (i := 927) (by decide +kernel), List.mem_of_getElem? (i := 1326) (by decide +kernel), List.mem_of_getElem? (i := 1327) (by decide +kernel)⟩
theorem lw_p34 : lw_okq (⟨"LaytimeDeskModel", "unknown", "(I)I"⟩, 67) := ⟨⟨by decide +kernel, by decide +kernel⟩, List.mem_of_getElem? (i := 927) (by decide +kernel), List.mem_of_getElem? (i := 1330) (by decide +kernel), List.mem_of_getElem? (i := 1331) (by decide +kernel)⟩
theorem lw_p35 : lw_okq (⟨"LaytimeDeskModel", "seek", "(IIIII)V"⟩, 67) := ⟨⟨by decide +kernel, by decide +kernel⟩, List.mem_of_getElem? (i := 927) (by decide +kernel), List.mem_of_getElem? (i := 1347) (by decide +kernel), List.mem_of_getElem? (i := 1348) (by decide +kernel)⟩
theorem lw_p36 : lw_okq (⟨"LaytimeDeskModel", "walk", "(IZIII)V"⟩, 67) := ⟨⟨by decide +kernel, by decide +kernel⟩, List.mem_of_getElem? (i := 927) (by decide +kernel), List.mem_of_getElem? (i := 1351) (by decide +kernel), List.mem_of_getElem? (i := 1352) (by decide +kernel)⟩
theorem lw_p37 : lw_okq (⟨"LaytimeDeskModel", "step", "(IIJZIII)V"⟩, 67) := ⟨⟨by decide +kernel, by decide +kernel⟩, List.mem_of_getElem? (i := 927) (by decide +kernel), List.mem_of_getElem? (i := 1357) (by decide +kernel), List.mem_of_getElem? (i := 1358) (by decide +kernel)⟩
theorem lw_p38 : lw_okq (⟨"LaytimeDeskModel", "teller", "(IIIZIII)I"⟩, 67) := ⟨⟨by decide +kernel, by decide +kernel⟩, List.mem_of_getElem? (i := 927) (by decide +kernel), List.mem_of_getElem? (i := 1361) (by decide +kernel), List.mem_of_getElem? (i := 1362) (by decide +kernel)⟩
theorem lw_p39 : lw_okq (⟨"LaytimeDeskModel", "isAsked", "(IIIIIZ)Z"⟩, 67) := ⟨⟨by decide +kernel, by decide +kernel⟩, List.mem_of_getElem? (i := 927) (by decide +kernel), List.mem_of_getElem? (i := 1365) (by decide +kernel), List.mem_of_getElem? (i := 1366) (by decide +kernel)⟩
theorem lw_p40 : lw_okq (⟨"LaytimeDeskModel", "hasMinute", "(IIII)Z"⟩, 67) := ⟨⟨by decide +kernel, by decide +kernel⟩, List.mem_of_getElem? (i := 927) (by decide +kernel), List.mem_of_getElem? (i := 1369) (by decide +kernel), List.mem_of_getElem? (i := 1370) (by decide +kernel)⟩
theorem lw_p41 : lw_okq (⟨"LaytimeDeskModel", "adds", "(II)I"⟩, 67) := ⟨⟨by decide +kernel, by decide +kernel⟩, List.mem_of_getElem? (i := 927) (by decide +kernel), List.mem_of_getElem? (i := 1373) (by decide +kernel), List.mem_of_getElem? (i := 1374) (by decide +kernel)⟩
theorem lw_p42 : lw_okq (⟨"LaytimeDeskModel", "leastPort", "(I)I"⟩, 67) := ⟨⟨by decide +kernel, by decide +kernel⟩, List.mem_of_getElem? (i := 927) (by decide +kernel), List.mem_of_getElem? (i := 1393) (by decide +kernel), List.mem_of_getElem? (i := 1394) (by decide +kernel)⟩
theorem lw_p43 : lw_okq (⟨"LaytimeDeskModel", "owed", "()J"⟩, 67) := ⟨⟨by decide +kernel, by decide +kernel⟩, List.mem_of_getElem? (i := 927) (by decide +kernel), List.mem_of_getElem? (i := 1397) (by decide +kernel), List.mem_of_getElem? (i := 1398) (by decide +kernel)⟩
theorem lw_p44 : lw_okq (⟨"LaytimeDeskModel", "saved", "(I)J"⟩, 67) := ⟨⟨by decide +kernel, by decide +kernel⟩, List.mem_of_getElem? (i := 927) (by decide +kernel), List.mem_of_getElem? (i := 1401) (by decide +kernel), List.mem_of_getElem? (i := 1402) (by decide +kernel)⟩
theorem lw_p45 : lw_okq (⟨"LaytimeDeskModel", "isEnded", "(I)Z"⟩, 67) := ⟨⟨by decide +kernel, by decide +kernel⟩, List.mem_of_getElem? (i := 927) (by decide +kernel), List.mem_of_getElem? (i := 1405) (by decide +kernel), List.mem_of_getElem? (i := 1406) (by decide +kernel)⟩
theorem lw_p46 : lw_okq (⟨"LaytimeDeskModel", "hasEnd", "(I)Z"⟩, 67) := ⟨⟨by decide +kernel, by decide +kernel⟩, List.mem_of_getElem? (i := 927) (by decide +kernel), List.mem_of_getElem? (i := 1409) (by decide +kernel), List.mem_of_getElem? (i := 1410) (by decide +kernel)⟩
def lw_privs_3 : List (MethodName × Nat) := [(⟨"LaytimeDeskModel", "allowed", "(IIII)J"⟩, 67), (⟨"LaytimeDeskModel", "many", "(I)I"⟩, 67), (⟨"LaytimeDeskModel", "unknown", "(I)I"⟩, 67), (⟨"LaytimeDeskModel", "seek", "(IIIII)V"⟩, 67), (⟨"LaytimeDeskModel", "walk", "(IZIII)V"⟩, 67), (⟨"LaytimeDeskModel", "step", "(IIJZIII)V"⟩, 67), (⟨"LaytimeDeskModel", "teller", "(IIIZIII)I"⟩, 67), (⟨"LaytimeDeskModel", "isAsked", "(IIIIIZ)Z"⟩, 67), (⟨"LaytimeDeskModel", "hasMinute", "(IIII)Z"⟩, 67), (⟨"LaytimeDeskModel", "adds", "(II)I"⟩, 67), (⟨"LaytimeDeskModel", "leastPort", "(I)I"⟩, 67), (⟨"LaytimeDeskModel", "owed", "()J"⟩, 67), (⟨"LaytimeDeskModel", "saved", "(I)J"⟩, 67), (⟨"LaytimeDeskModel", "isEnded", "(I)Z"⟩, 67), (⟨"LaytimeDeskModel", "hasEnd", "(I)Z"⟩, 67)]
theorem lw_r3 : ∀ q ∈ lw_privs_3, lw_okq q := List.forall_mem_cons.mpr ⟨lw_p32, List.forall_mem_cons.mpr ⟨lw_p33, List.forall_mem_cons.mpr ⟨lw_p34, List.forall_mem_cons.mpr ⟨lw_p35, List.forall_mem_cons.mpr ⟨lw_p36, List.forall_mem_cons.mpr ⟨lw_p37, List.forall_mem_cons.mpr ⟨lw_p38, List.forall_mem_cons.mpr ⟨lw_p39, List.forall_mem_cons.mpr ⟨lw_p40, List.forall_mem_cons.mpr ⟨lw_p41, List.forall_mem_cons.mpr ⟨lw_p42, List.forall_mem_cons.mpr ⟨lw_p43, List.forall_mem_cons.mpr ⟨lw_p44, List.forall_mem_cons.mpr ⟨lw_p45, List.forall_mem_cons.mpr ⟨lw_p46, fun _ h => absurd h List.not_mem_nil⟩⟩⟩⟩⟩⟩⟩⟩⟩⟩⟩⟩⟩⟩⟩
def lw_privs : List (MethodName × Nat) := lw_privs_1 ++ (lw_privs_2 ++ (lw_privs_3))
def lw_tbl : List Cond := k2_sels lw_privs ++ tables_1
theorem lw_privs_ok : ∀ q ∈ lw_privs, lw_okq q := by
  show ∀ q ∈ lw_privs_1 ++ (lw_privs_2 ++ (lw_privs_3)), lw_okq q
  exact List.forall_mem_append.mpr ⟨lw_r1, List.forall_mem_append.mpr ⟨lw_r2, lw_r3⟩⟩
theorem goodIn_r {big : List Cond} (ws : List Cond) (ps : List Nat) (hp : ws = ps.filterMap (fun i => big[i]?)) (h : ws.all goodWord = true) : GoodIn big ws := by
  intro w hw
  have h1 := List.all_eq_true.mp h w hw
  rw [hp] at hw
  obtain ⟨i, -, hi⟩ := List.mem_filterMap.mp hw
  have hm : w ∈ big := by first | exact List.mem_of_getElem? hi | exact List.getElem?_mem hi
  exact ⟨hm, good_of_word h1⟩
theorem goodIn_app {big a b : List Cond} (ha : GoodIn big a) (hb : GoodIn big b) : GoodIn big (a ++ b) := fun w h => (List.mem_append.mp h).elim (ha w) (hb w)
theorem goodIn_ca {big a b : List Cond} {c : Cond} (ha : GoodIn big (c :: a)) (hb : GoodIn big b) : GoodIn big (c :: (a ++ b)) := fun w h => (List.mem_cons.mp h).elim (fun e => ha w (List.mem_cons.mpr (Or.inl e))) (fun h => (List.mem_append.mp h).elim (fun h => ha w (List.mem_cons.mpr (Or.inr h))) (hb w))
theorem goodIn_sub {big ws : List Cond} (hm : ∀ w ∈ ws, w ∈ big) (h : ws.all goodWord = true) : GoodIn big ws := fun w hw => ⟨hm w hw, good_of_word (List.all_eq_true.mp h w hw)⟩
def RX0 : String := "LaytimeDesk$Book"
def TX0 : u_T := fun k => match k with
  | 0 => ("LaytimeDesk$Book", "terms", "LLaytimeDesk$Terms;", true)
  | 1 => ("LaytimeDesk$Book", "events", "LLaytimeDesk$Events;", true)
  | 2 => ("LaytimeDesk$Book", "claimed", "LLaytimeDesk$Claimed;", true)
  | 3 => ("LaytimeDesk$Book", "ports", "[LLaytimeDesk$Port;", true)
  | 4 => ("LaytimeDesk$Book", "nowhere", "LLaytimeDesk$Port;", true)
  | _ => ("LaytimeDesk$Book", "grouped", "I", false)
def tyX0 : Nat → FieldType := fun k => match k with
  | 0 => .object "LaytimeDesk$Terms"
  | 1 => .object "LaytimeDesk$Events"
  | 2 => .object "LaytimeDesk$Claimed"
  | 3 => .array (.object "LaytimeDesk$Port")
  | 4 => .object "LaytimeDesk$Port"
  | _ => .int
abbrev wsX00 : List Cond := u_ws RX0 TX0 6
theorem nmX0 : ∀ a, a < 6 → ∀ b, b < 6 → a ≠ b → (TX0 a).2.1 ≠ (TX0 b).2.1 := by decide +kernel
theorem tyX0_ok : ∀ k, k < 6 → parseFieldDescriptor (TX0 k).2.2.1 = some (tyX0 k) := by decide +kernel
abbrev cX0_init : ByteArray := prog_2_method_1_code
def yX0_init : MethodName := ⟨RX0, "<init>", "()V"⟩
abbrev cX0_portAt : ByteArray := prog_2_method_2_code
def yX0_portAt : MethodName := ⟨RX0, "portAt", "(I)LLaytimeDesk$Port;"⟩
abbrev cX0_groupOf : ByteArray := prog_2_method_3_code
def yX0_groupOf : MethodName := ⟨RX0, "groupOf", "(I)I"⟩
abbrev cX0_take : ByteArray := prog_2_method_4_code
def yX0_take : MethodName := ⟨RX0, "take", "(LLaytimeDesk$Book;)V"⟩
def RX1 : String := "LaytimeDesk$Claimed"
def TX1 : u_T := fun k => match k with
  | 0 => ("LaytimeDesk$Claimed", "lengths", "[I", true)
  | 1 => ("LaytimeDesk$Claimed", "whys", "[I", true)
  | 2 => ("LaytimeDesk$Claimed", "rows", "I", false)
  | _ => ("LaytimeDesk$Claimed", "portNumber", "I", false)
def tyX1 : Nat → FieldType := fun k => match k with
  | 0 => .array .int
  | 1 => .array .int
  | 2 => .int
  | _ => .int
abbrev wsX10 : List Cond := u_ws RX1 TX1 4
theorem nmX1 : ∀ a, a < 4 → ∀ b, b < 4 → a ≠ b → (TX1 a).2.1 ≠ (TX1 b).2.1 := by decide +kernel
theorem tyX1_ok : ∀ k, k < 4 → parseFieldDescriptor (TX1 k).2.2.1 = some (tyX1 k) := by decide +kernel
abbrev cX1_init : ByteArray := prog_3_method_1_code
def yX1_init : MethodName := ⟨RX1, "<init>", "()V"⟩
abbrev cX1_begin : ByteArray := prog_3_method_2_code
def yX1_begin : MethodName := ⟨RX1, "begin", "(I)V"⟩
abbrev cX1_add : ByteArray := prog_3_method_3_code
def yX1_add : MethodName := ⟨RX1, "add", "(II)V"⟩
abbrev cX1_take : ByteArray := prog_3_method_4_code
def yX1_take : MethodName := ⟨RX1, "take", "(LLaytimeDesk$Claimed;)V"⟩
def RX2 : String := "LaytimeDesk$Events"
def TX2 : u_T := fun k => match k with
  | 0 => ("LaytimeDesk$Events", "keys", "[I", true)
  | 1 => ("LaytimeDesk$Events", "spare", "[I", true)
  | _ => ("LaytimeDesk$Events", "many", "I", false)
def tyX2 : Nat → FieldType := fun k => match k with
  | 0 => .array .int
  | 1 => .array .int
  | _ => .int
abbrev wsX20 : List Cond := u_ws RX2 TX2 3
theorem nmX2 : ∀ a, a < 3 → ∀ b, b < 3 → a ≠ b → (TX2 a).2.1 ≠ (TX2 b).2.1 := by decide +kernel
theorem tyX2_ok : ∀ k, k < 3 → parseFieldDescriptor (TX2 k).2.2.1 = some (tyX2 k) := by decide +kernel
abbrev cX2_init : ByteArray := prog_4_method_1_code
def yX2_init : MethodName := ⟨RX2, "<init>", "()V"⟩
abbrev cX2_keyOf : ByteArray := prog_4_method_2_code
def yX2_keyOf : MethodName := ⟨RX2, "keyOf", "(III)I"⟩
abbrev cX2_minuteAt : ByteArray := prog_4_method_3_code
def yX2_minuteAt : MethodName := ⟨RX2, "minuteAt", "(I)I"⟩
abbrev cX2_kindAt : ByteArray := prog_4_method_4_code
def yX2_kindAt : MethodName := ⟨RX2, "kindAt", "(I)I"⟩
abbrev cX2_indexOf : ByteArray := prog_4_method_5_code
def yX2_indexOf : MethodName := ⟨RX2, "indexOf", "(II)I"⟩
abbrev cX2_manyIn : ByteArray := prog_4_method_6_code
def yX2_manyIn : MethodName := ⟨RX2, "manyIn", "(III)I"⟩
abbrev cX2_add : ByteArray := prog_4_method_7_code
def yX2_add : MethodName := ⟨RX2, "add", "(III)V"⟩
abbrev cX2_remove : ByteArray := prog_4_method_8_code
def yX2_remove : MethodName := ⟨RX2, "remove", "(III)I"⟩
abbrev cX2_copyRange : ByteArray := prog_4_method_9_code
def yX2_copyRange : MethodName := ⟨RX2, "copyRange", "(IIIII)V"⟩
abbrev cX2_firstOf : ByteArray := prog_4_method_10_code
def yX2_firstOf : MethodName := ⟨RX2, "firstOf", "(III)I"⟩
abbrev cX2_stateAt : ByteArray := prog_4_method_11_code
def yX2_stateAt : MethodName := ⟨RX2, "stateAt", "(II)I"⟩
abbrev cX2_take : ByteArray := prog_4_method_12_code
def yX2_take : MethodName := ⟨RX2, "take", "(LLaytimeDesk$Events;)V"⟩
def RX3 : String := "LaytimeDesk$Group"
def TX3 : u_T := fun k => match k with
  | 0 => ("LaytimeDesk$Group", "book", "LLaytimeDesk$Book;", true)
  | 1 => ("LaytimeDesk$Group", "walks", "[LLaytimeDesk$Walk;", true)
  | 2 => ("LaytimeDesk$Group", "stays", "[LLaytimeDesk$Stay;", true)
  | 3 => ("LaytimeDesk$Group", "noWalk", "LLaytimeDesk$Walk;", true)
  | 4 => ("LaytimeDesk$Group", "noStay", "LLaytimeDesk$Stay;", true)
  | 5 => ("LaytimeDesk$Group", "members", "I", false)
  | 6 => ("LaytimeDesk$Group", "high", "Z", false)
  | 7 => ("LaytimeDesk$Group", "counting", "I", false)
  | 8 => ("LaytimeDesk$Group", "allEnded", "Z", false)
  | 9 => ("LaytimeDesk$Group", "limit", "J", false)
  | 10 => ("LaytimeDesk$Group", "notOver", "J", false)
  | 11 => ("LaytimeDesk$Group", "halves", "J", false)
  | 12 => ("LaytimeDesk$Group", "reached", "Z", false)
  | 13 => ("LaytimeDesk$Group", "once", "I", false)
  | 14 => ("LaytimeDesk$Group", "oncePort", "I", false)
  | _ => ("LaytimeDesk$Group", "running", "I", false)
def tyX3 : Nat → FieldType := fun k => match k with
  | 0 => .object "LaytimeDesk$Book"
  | 1 => .array (.object "LaytimeDesk$Walk")
  | 2 => .array (.object "LaytimeDesk$Stay")
  | 3 => .object "LaytimeDesk$Walk"
  | 4 => .object "LaytimeDesk$Stay"
  | 5 => .int
  | 6 => .boolean
  | 7 => .int
  | 8 => .boolean
  | 9 => .long
  | 10 => .long
  | 11 => .long
  | 12 => .boolean
  | 13 => .int
  | 14 => .int
  | _ => .int
abbrev wsX30 : List Cond := u_ws RX3 TX3 16
theorem nmX3 : ∀ a, a < 16 → ∀ b, b < 16 → a ≠ b → (TX3 a).2.1 ≠ (TX3 b).2.1 := by decide +kernel
theorem tyX3_ok : ∀ k, k < 16 → parseFieldDescriptor (TX3 k).2.2.1 = some (tyX3 k) := by decide +kernel
abbrev cX3_init : ByteArray := prog_5_method_1_code
def yX3_init : MethodName := ⟨RX3, "<init>", "(LLaytimeDesk$Book;)V"⟩
abbrev cX3_walkAt : ByteArray := prog_5_method_2_code
def yX3_walkAt : MethodName := ⟨RX3, "walkAt", "(I)LLaytimeDesk$Walk;"⟩
abbrev cX3_stayAt : ByteArray := prog_5_method_3_code
def yX3_stayAt : MethodName := ⟨RX3, "stayAt", "(I)LLaytimeDesk$Stay;"⟩
abbrev cX3_isMember : ByteArray := prog_5_method_4_code
def yX3_isMember : MethodName := ⟨RX3, "isMember", "(I)Z"⟩
abbrev cX3_isRunning : ByteArray := prog_5_method_5_code
def yX3_isRunning : MethodName := ⟨RX3, "isRunning", "(I)Z"⟩
abbrev cX3_read : ByteArray := prog_5_method_6_code
def yX3_read : MethodName := ⟨RX3, "read", "(IZ)V"⟩
abbrev cX3_findOnce : ByteArray := prog_5_method_7_code
def yX3_findOnce : MethodName := ⟨RX3, "findOnce", "()V"⟩
abbrev cX3_reach : ByteArray := prog_5_method_8_code
def yX3_reach : MethodName := ⟨RX3, "reach", "(II)V"⟩
abbrev cX3_startAll : ByteArray := prog_5_method_9_code
def yX3_startAll : MethodName := ⟨RX3, "startAll", "()I"⟩
abbrev cX3_stepAll : ByteArray := prog_5_method_10_code
def yX3_stepAll : MethodName := ⟨RX3, "stepAll", "(I)V"⟩
abbrev cX3_nextChange : ByteArray := prog_5_method_11_code
def yX3_nextChange : MethodName := ⟨RX3, "nextChange", "(I)I"⟩
abbrev cX3_hasMinuteAt : ByteArray := prog_5_method_12_code
def yX3_hasMinuteAt : MethodName := ⟨RX3, "hasMinuteAt", "(II)Z"⟩
abbrev cX3_halvesAt : ByteArray := prog_5_method_13_code
def yX3_halvesAt : MethodName := ⟨RX3, "halvesAt", "(I)J"⟩
abbrev cX3_reachAt : ByteArray := prog_5_method_14_code
def yX3_reachAt : MethodName := ⟨RX3, "reachAt", "(I)V"⟩
abbrev cX3_overFrom : ByteArray := prog_5_method_15_code
def yX3_overFrom : MethodName := ⟨RX3, "overFrom", "(I)I"⟩
abbrev cX3_walkIn : ByteArray := prog_5_method_16_code
def yX3_walkIn : MethodName := ⟨RX3, "walkIn", "(III)LLaytimeDesk$Walk;"⟩
abbrev cX3_halvesOf : ByteArray := prog_5_method_17_code
def yX3_halvesOf : MethodName := ⟨RX3, "halvesOf", "(III)I"⟩
abbrev cX3_minutesBy : ByteArray := prog_5_method_18_code
def yX3_minutesBy : MethodName := ⟨RX3, "minutesBy", "(II)I"⟩
abbrev cX3_firstWrong : ByteArray := prog_5_method_19_code
def yX3_firstWrong : MethodName := ⟨RX3, "firstWrong", "(LLaytimeDesk$Claimed;)I"⟩
abbrev cX3_settle : ByteArray := prog_5_method_20_code
def yX3_settle : MethodName := ⟨RX3, "settle", "()V"⟩
abbrev cX3_minutes : ByteArray := prog_5_method_21_code
def yX3_minutes : MethodName := ⟨RX3, "minutes", "()I"⟩
abbrev cX3_owed : ByteArray := prog_5_method_22_code
def yX3_owed : MethodName := ⟨RX3, "owed", "()J"⟩
abbrev cX3_saved : ByteArray := prog_5_method_23_code
def yX3_saved : MethodName := ⟨RX3, "saved", "()J"⟩
abbrev cX3_money : ByteArray := prog_5_method_24_code
def yX3_money : MethodName := ⟨RX3, "money", "()J"⟩
abbrev cX3_leastPort : ByteArray := prog_5_method_25_code
def yX3_leastPort : MethodName := ⟨RX3, "leastPort", "()I"⟩
def RX4 : String := "LaytimeDesk$Port"
def TX4 : u_T := fun k => match k with
  | 0 => ("LaytimeDesk$Port", "known", "[I", true)
  | 1 => ("LaytimeDesk$Port", "free", "[I", true)
  | 2 => ("LaytimeDesk$Port", "days", "I", false)
  | 3 => ("LaytimeDesk$Port", "contractNumber", "I", false)
  | 4 => ("LaytimeDesk$Port", "officeFrom", "I", false)
  | 5 => ("LaytimeDesk$Port", "officeTo", "I", false)
  | 6 => ("LaytimeDesk$Port", "graceLong", "I", false)
  | 7 => ("LaytimeDesk$Port", "shift", "I", false)
  | 8 => ("LaytimeDesk$Port", "thousandths", "J", false)
  | 9 => ("LaytimeDesk$Port", "owedRate", "J", false)
  | _ => ("LaytimeDesk$Port", "savedRate", "J", false)
def tyX4 : Nat → FieldType := fun k => match k with
  | 0 => .array .int
  | 1 => .array .int
  | 2 => .int
  | 3 => .int
  | 4 => .int
  | 5 => .int
  | 6 => .int
  | 7 => .int
  | 8 => .long
  | 9 => .long
  | _ => .long
abbrev wsX40 : List Cond := u_ws RX4 TX4 11
theorem nmX4 : ∀ a, a < 11 → ∀ b, b < 11 → a ≠ b → (TX4 a).2.1 ≠ (TX4 b).2.1 := by decide +kernel
theorem tyX4_ok : ∀ k, k < 11 → parseFieldDescriptor (TX4 k).2.2.1 = some (tyX4 k) := by decide +kernel
abbrev cX4_init : ByteArray := prog_6_method_1_code
def yX4_init : MethodName := ⟨RX4, "<init>", "()V"⟩
abbrev cX4_open : ByteArray := prog_6_method_2_code
def yX4_open : MethodName := ⟨RX4, "open", "(II)V"⟩
abbrev cX4_shut : ByteArray := prog_6_method_3_code
def yX4_shut : MethodName := ⟨RX4, "shut", "()V"⟩
abbrev cX4_logLong : ByteArray := prog_6_method_4_code
def yX4_logLong : MethodName := ⟨RX4, "logLong", "()I"⟩
abbrev cX4_knows : ByteArray := prog_6_method_5_code
def yX4_knows : MethodName := ⟨RX4, "knows", "(I)Z"⟩
abbrev cX4_unknownMinutes : ByteArray := prog_6_method_6_code
def yX4_unknownMinutes : MethodName := ⟨RX4, "unknownMinutes", "()I"⟩
abbrev cX4_firstOffice : ByteArray := prog_6_method_7_code
def yX4_firstOffice : MethodName := ⟨RX4, "firstOffice", "(I)I"⟩
abbrev cX4_take : ByteArray := prog_6_method_8_code
def yX4_take : MethodName := ⟨RX4, "take", "(LLaytimeDesk$Port;)V"⟩
def RX5 : String := "LaytimeDesk$Stay"
def TX5 : u_T := fun k => match k with
  | 0 => ("LaytimeDesk$Stay", "good", "I", false)
  | 1 => ("LaytimeDesk$Stay", "begin", "I", false)
  | 2 => ("LaytimeDesk$Stay", "first", "I", false)
  | 3 => ("LaytimeDesk$Stay", "end", "I", false)
  | 4 => ("LaytimeDesk$Stay", "allowed", "J", false)
  | 5 => ("LaytimeDesk$Stay", "counted", "Z", false)
  | _ => ("LaytimeDesk$Stay", "ended", "Z", false)
def tyX5 : Nat → FieldType := fun k => match k with
  | 0 => .int
  | 1 => .int
  | 2 => .int
  | 3 => .int
  | 4 => .long
  | 5 => .boolean
  | _ => .boolean
abbrev wsX50 : List Cond := u_ws RX5 TX5 7
theorem nmX5 : ∀ a, a < 7 → ∀ b, b < 7 → a ≠ b → (TX5 a).2.1 ≠ (TX5 b).2.1 := by decide +kernel
theorem tyX5_ok : ∀ k, k < 7 → parseFieldDescriptor (TX5 k).2.2.1 = some (tyX5 k) := by decide +kernel
abbrev cX5_init : ByteArray := prog_7_method_1_code
def yX5_init : MethodName := ⟨RX5, "<init>", "()V"⟩
abbrev cX5_read : ByteArray := prog_7_method_2_code
def yX5_read : MethodName := ⟨RX5, "read", "(LLaytimeDesk$Book;I)V"⟩
def RX6 : String := "LaytimeDesk$Terms"
def TX6 : u_T := fun k => match k with
  | 0 => ("LaytimeDesk$Terms", "kinds", "[I", true)
  | 1 => ("LaytimeDesk$Terms", "sorts", "[I", true)
  | 2 => ("LaytimeDesk$Terms", "firsts", "[I", true)
  | 3 => ("LaytimeDesk$Terms", "seconds", "[I", true)
  | 4 => ("LaytimeDesk$Terms", "yielding", "[I", true)
  | 5 => ("LaytimeDesk$Terms", "amounts", "[I", true)
  | _ => ("LaytimeDesk$Terms", "contracts", "I", false)
def tyX6 : Nat → FieldType := fun k => match k with
  | 0 => .array .int
  | 1 => .array .int
  | 2 => .array .int
  | 3 => .array .int
  | 4 => .array .int
  | 5 => .array .int
  | _ => .int
abbrev wsX60 : List Cond := u_ws RX6 TX6 7
theorem nmX6 : ∀ a, a < 7 → ∀ b, b < 7 → a ≠ b → (TX6 a).2.1 ≠ (TX6 b).2.1 := by decide +kernel
theorem tyX6_ok : ∀ k, k < 7 → parseFieldDescriptor (TX6 k).2.2.1 = some (tyX6 k) := by decide +kernel
abbrev cX6_init : ByteArray := prog_8_method_1_code
def yX6_init : MethodName := ⟨RX6, "<init>", "()V"⟩
abbrev cX6_write : ByteArray := prog_8_method_2_code
def yX6_write : MethodName := ⟨RX6, "write", "(IIIII)V"⟩
abbrev cX6_copyRow : ByteArray := prog_8_method_3_code
def yX6_copyRow : MethodName := ⟨RX6, "copyRow", "(II)V"⟩
abbrev cX6_allowedBy : ByteArray := prog_8_method_4_code
def yX6_allowedBy : MethodName := ⟨RX6, "allowedBy", "(IJ)J"⟩
abbrev cX6_take : ByteArray := prog_8_method_5_code
def yX6_take : MethodName := ⟨RX6, "take", "(LLaytimeDesk$Terms;)V"⟩
def RX7 : String := "LaytimeDesk$Walk"
def TX7 : u_T := fun k => match k with
  | 0 => ("LaytimeDesk$Walk", "book", "LLaytimeDesk$Book;", true)
  | 1 => ("LaytimeDesk$Walk", "rows", "[I", true)
  | 2 => ("LaytimeDesk$Walk", "asked", "[I", true)
  | 3 => ("LaytimeDesk$Walk", "rowsMany", "I", false)
  | 4 => ("LaytimeDesk$Walk", "askedMany", "I", false)
  | 5 => ("LaytimeDesk$Walk", "some", "I", false)
  | 6 => ("LaytimeDesk$Walk", "several", "I", false)
  | 7 => ("LaytimeDesk$Walk", "port", "LLaytimeDesk$Port;", false)
  | 8 => ("LaytimeDesk$Walk", "here", "I", false)
  | 9 => ("LaytimeDesk$Walk", "until", "I", false)
  | 10 => ("LaytimeDesk$Walk", "end", "I", false)
  | 11 => ("LaytimeDesk$Walk", "overFrom", "I", false)
  | 12 => ("LaytimeDesk$Walk", "high", "Z", false)
  | 13 => ("LaytimeDesk$Walk", "nextEvent", "I", false)
  | 14 => ("LaytimeDesk$Walk", "endEvent", "I", false)
  | 15 => ("LaytimeDesk$Walk", "state", "I", false)
  | 16 => ("LaytimeDesk$Walk", "halves", "I", false)
  | _ => ("LaytimeDesk$Walk", "why", "I", false)
def tyX7 : Nat → FieldType := fun k => match k with
  | 0 => .object "LaytimeDesk$Book"
  | 1 => .array .int
  | 2 => .array .int
  | 3 => .int
  | 4 => .int
  | 5 => .int
  | 6 => .int
  | 7 => .object "LaytimeDesk$Port"
  | 8 => .int
  | 9 => .int
  | 10 => .int
  | 11 => .int
  | 12 => .boolean
  | 13 => .int
  | 14 => .int
  | 15 => .int
  | 16 => .int
  | _ => .int
abbrev wsX70 : List Cond := u_ws RX7 TX7 18
theorem nmX7 : ∀ a, a < 18 → ∀ b, b < 18 → a ≠ b → (TX7 a).2.1 ≠ (TX7 b).2.1 := by decide +kernel
theorem tyX7_ok : ∀ k, k < 18 → parseFieldDescriptor (TX7 k).2.2.1 = some (tyX7 k) := by decide +kernel
abbrev cX7_init : ByteArray := prog_9_method_1_code
def yX7_init : MethodName := ⟨RX7, "<init>", "(LLaytimeDesk$Book;)V"⟩
abbrev cX7_start : ByteArray := prog_9_method_2_code
def yX7_start : MethodName := ⟨RX7, "start", "(IIIIZ)V"⟩
abbrev cX7_step : ByteArray := prog_9_method_3_code
def yX7_step : MethodName := ⟨RX7, "step", "()Z"⟩
abbrev cX7_forgetAsked : ByteArray := prog_9_method_4_code
def yX7_forgetAsked : MethodName := ⟨RX7, "forgetAsked", "()V"⟩
abbrev cX7_addAsked : ByteArray := prog_9_method_5_code
def yX7_addAsked : MethodName := ⟨RX7, "addAsked", "(I)V"⟩
abbrev cX7_breakAt : ByteArray := prog_9_method_6_code
def yX7_breakAt : MethodName := ⟨RX7, "breakAt", "(I)V"⟩
abbrev cX7_readEvents : ByteArray := prog_9_method_7_code
def yX7_readEvents : MethodName := ⟨RX7, "readEvents", "()V"⟩
abbrev cX7_spans : ByteArray := prog_9_method_8_code
def yX7_spans : MethodName := ⟨RX7, "spans", "(I)Z"⟩
abbrev cX7_choose : ByteArray := prog_9_method_9_code
def yX7_choose : MethodName := ⟨RX7, "choose", "()V"⟩
abbrev cX7_halvesBy : ByteArray := prog_9_method_10_code
def yX7_halvesBy : MethodName := ⟨RX7, "halvesBy", "(II)I"⟩
def RX8 : String := "LaytimeDesk"
def TX8 : u_T := fun k => match k with
  | 0 => ("LaytimeDesk", "now", "LLaytimeDesk$Book;", true)
  | 1 => ("LaytimeDesk", "kept", "LLaytimeDesk$Book;", true)
  | 2 => ("LaytimeDesk", "group", "LLaytimeDesk$Group;", true)
  | 3 => ("LaytimeDesk", "refusals", "[I", true)
  | 4 => ("LaytimeDesk", "imaged", "Z", false)
  | _ => ("LaytimeDesk", "reason", "I", false)
def tyX8 : Nat → FieldType := fun k => match k with
  | 0 => .object "LaytimeDesk$Book"
  | 1 => .object "LaytimeDesk$Book"
  | 2 => .object "LaytimeDesk$Group"
  | 3 => .array .int
  | 4 => .boolean
  | _ => .int
abbrev wsX80 : List Cond := u_ws RX8 TX8 6
theorem nmX8 : ∀ a, a < 6 → ∀ b, b < 6 → a ≠ b → (TX8 a).2.1 ≠ (TX8 b).2.1 := by decide +kernel
theorem tyX8_ok : ∀ k, k < 6 → parseFieldDescriptor (TX8 k).2.2.1 = some (tyX8 k) := by decide +kernel
abbrev cX8_init : ByteArray := prog_1_method_1_code
def yX8_init : MethodName := ⟨RX8, "<init>", "()V"⟩
abbrev cX8_contract : ByteArray := prog_1_method_2_code
def yX8_contract : MethodName := ⟨RX8, "contract", "()I"⟩
abbrev cX8_term : ByteArray := prog_1_method_3_code
def yX8_term : MethodName := ⟨RX8, "term", "(IIIIII)Z"⟩
abbrev cX8_yields : ByteArray := prog_1_method_4_code
def yX8_yields : MethodName := ⟨RX8, "yields", "(III)I"⟩
abbrev cX8_amount : ByteArray := prog_1_method_5_code
def yX8_amount : MethodName := ⟨RX8, "amount", "(III)Z"⟩
abbrev cX8_heading : ByteArray := prog_1_method_6_code
def yX8_heading : MethodName := ⟨RX8, "heading", "(III)Z"⟩
abbrev cX8_strike : ByteArray := prog_1_method_7_code
def yX8_strike : MethodName := ⟨RX8, "strike", "(II)Z"⟩
abbrev cX8_kind : ByteArray := prog_1_method_8_code
def yX8_kind : MethodName := ⟨RX8, "kind", "(II)I"⟩
abbrev cX8_headed : ByteArray := prog_1_method_9_code
def yX8_headed : MethodName := ⟨RX8, "headed", "(II)I"⟩
abbrev cX8_span : ByteArray := prog_1_method_10_code
def yX8_span : MethodName := ⟨RX8, "span", "(III)I"⟩
abbrev cX8_port : ByteArray := prog_1_method_11_code
def yX8_port : MethodName := ⟨RX8, "port", "(III)Z"⟩
abbrev cX8_close : ByteArray := prog_1_method_12_code
def yX8_close : MethodName := ⟨RX8, "close", "(I)Z"⟩
abbrev cX8_event : ByteArray := prog_1_method_13_code
def yX8_event : MethodName := ⟨RX8, "event", "(III)Z"⟩
abbrev cX8_day : ByteArray := prog_1_method_14_code
def yX8_day : MethodName := ⟨RX8, "day", "(IIZ)Z"⟩
abbrev cX8_tear : ByteArray := prog_1_method_15_code
def yX8_tear : MethodName := ⟨RX8, "tear", "(III)I"⟩
abbrev cX8_copy : ByteArray := prog_1_method_16_code
def yX8_copy : MethodName := ⟨RX8, "copy", "(IIIII)I"⟩
abbrev cX8_free : ByteArray := prog_1_method_17_code
def yX8_free : MethodName := ⟨RX8, "free", "(IIZ)Z"⟩
abbrev cX8_tons : ByteArray := prog_1_method_18_code
def yX8_tons : MethodName := ⟨RX8, "tons", "(IJ)Z"⟩
abbrev cX8_office : ByteArray := prog_1_method_19_code
def yX8_office : MethodName := ⟨RX8, "office", "(IIII)Z"⟩
abbrev cX8_offset : ByteArray := prog_1_method_20_code
def yX8_offset : MethodName := ⟨RX8, "offset", "(II)Z"⟩
abbrev cX8_rate : ByteArray := prog_1_method_21_code
def yX8_rate : MethodName := ⟨RX8, "rate", "(IJJ)Z"⟩
abbrev cX8_together : ByteArray := prog_1_method_22_code
def yX8_together : MethodName := ⟨RX8, "together", "(I)Z"⟩
abbrev cX8_told : ByteArray := prog_1_method_23_code
def yX8_told : MethodName := ⟨RX8, "told", "(II)I"⟩
abbrev cX8_weight : ByteArray := prog_1_method_24_code
def yX8_weight : MethodName := ⟨RX8, "weight", "(II)J"⟩
abbrev cX8_state : ByteArray := prog_1_method_25_code
def yX8_state : MethodName := ⟨RX8, "state", "(II)I"⟩
abbrev cX8_minute : ByteArray := prog_1_method_26_code
def yX8_minute : MethodName := ⟨RX8, "minute", "(IIZ)I"⟩
abbrev cX8_why : ByteArray := prog_1_method_27_code
def yX8_why : MethodName := ⟨RX8, "why", "(IIZ)I"⟩
abbrev cX8_counts : ByteArray := prog_1_method_28_code
def yX8_counts : MethodName := ⟨RX8, "counts", "(IIIZ)I"⟩
abbrev cX8_by : ByteArray := prog_1_method_29_code
def yX8_by : MethodName := ⟨RX8, "by", "(IIZ)I"⟩
abbrev cX8_sum : ByteArray := prog_1_method_30_code
def yX8_sum : MethodName := ⟨RX8, "sum", "(IIZ)J"⟩
abbrev cX8_as : ByteArray := prog_1_method_31_code
def yX8_as : MethodName := ⟨RX8, "as", "(IIIZ)J"⟩
abbrev cX8_claim : ByteArray := prog_1_method_32_code
def yX8_claim : MethodName := ⟨RX8, "claim", "(I)Z"⟩
abbrev cX8_tell : ByteArray := prog_1_method_33_code
def yX8_tell : MethodName := ⟨RX8, "tell", "(II)I"⟩
abbrev cX8_check : ByteArray := prog_1_method_34_code
def yX8_check : MethodName := ⟨RX8, "check", "(IZ)I"⟩
abbrev cX8_image : ByteArray := prog_1_method_35_code
def yX8_image : MethodName := ⟨RX8, "image", "()Z"⟩
abbrev cX8_back : ByteArray := prog_1_method_36_code
def yX8_back : MethodName := ⟨RX8, "back", "()Z"⟩
abbrev cX8_status : ByteArray := prog_1_method_37_code
def yX8_status : MethodName := ⟨RX8, "status", "(I)I"⟩
abbrev cX8_refused : ByteArray := prog_1_method_38_code
def yX8_refused : MethodName := ⟨RX8, "refused", "(I)Z"⟩
abbrev cX8_least : ByteArray := prog_1_method_39_code
def yX8_least : MethodName := ⟨RX8, "least", "(II)I"⟩
abbrev cX8_number : ByteArray := prog_1_method_40_code
def yX8_number : MethodName := ⟨RX8, "number", "(Z)I"⟩
abbrev cX8_contractReason : ByteArray := prog_1_method_41_code
def yX8_contractReason : MethodName := ⟨RX8, "contractReason", "(I)I"⟩
abbrev cX8_placeReason : ByteArray := prog_1_method_42_code
def yX8_placeReason : MethodName := ⟨RX8, "placeReason", "(II)I"⟩
abbrev cX8_thingReason : ByteArray := prog_1_method_43_code
def yX8_thingReason : MethodName := ⟨RX8, "thingReason", "(II)I"⟩
abbrev cX8_termReason : ByteArray := prog_1_method_44_code
def yX8_termReason : MethodName := ⟨RX8, "termReason", "(II)I"⟩
abbrev cX8_portReason : ByteArray := prog_1_method_45_code
def yX8_portReason : MethodName := ⟨RX8, "portReason", "(I)I"⟩
abbrev cX8_dayReason : ByteArray := prog_1_method_46_code
def yX8_dayReason : MethodName := ⟨RX8, "dayReason", "(II)I"⟩
abbrev cX8_thereReason : ByteArray := prog_1_method_47_code
def yX8_thereReason : MethodName := ⟨RX8, "thereReason", "(II)I"⟩
abbrev cX8_minuteReason : ByteArray := prog_1_method_48_code
def yX8_minuteReason : MethodName := ⟨RX8, "minuteReason", "(II)I"⟩
abbrev cX8_isTerm : ByteArray := prog_1_method_49_code
def yX8_isTerm : MethodName := ⟨RX8, "isTerm", "(IIII)Z"⟩
abbrev cX8_isWhy : ByteArray := prog_1_method_50_code
def yX8_isWhy : MethodName := ⟨RX8, "isWhy", "(I)Z"⟩
abbrev cX8_leave : ByteArray := prog_1_method_51_code
def yX8_leave : MethodName := ⟨RX8, "leave", "(I)V"⟩
abbrev cX8_daysThatFit : ByteArray := prog_1_method_52_code
def yX8_daysThatFit : MethodName := ⟨RX8, "daysThatFit", "(IIIII)I"⟩
abbrev cX8_rowOf : ByteArray := prog_1_method_53_code
def yX8_rowOf : MethodName := ⟨RX8, "rowOf", "(II)I"⟩
abbrev cX8_within : ByteArray := prog_1_method_54_code
def yX8_within : MethodName := ⟨RX8, "within", "(III)Z"⟩
abbrev cX8_at : ByteArray := prog_1_method_55_code
def yX8_at : MethodName := ⟨RX8, "at", "([II)I"⟩
abbrev cX8_put : ByteArray := prog_1_method_56_code
def yX8_put : MethodName := ⟨RX8, "put", "([III)V"⟩
abbrev cX8_slide : ByteArray := prog_1_method_57_code
def yX8_slide : MethodName := ⟨RX8, "slide", "([II[III)V"⟩
abbrev cX8_copyAll : ByteArray := prog_1_method_58_code
def yX8_copyAll : MethodName := ⟨RX8, "copyAll", "([I[I)V"⟩
def RX9 : String := "LaytimeDeskModel"
def TX9 : u_T := fun k => match k with
  | 0 => ("LaytimeDeskModel", "contracts", "I", false)
  | 1 => ("LaytimeDeskModel", "events", "I", false)
  | 2 => ("LaytimeDeskModel", "rows", "I", false)
  | 3 => ("LaytimeDeskModel", "claimed", "I", false)
  | 4 => ("LaytimeDeskModel", "holds", "[B", true)
  | 5 => ("LaytimeDeskModel", "kinds", "[B", true)
  | 6 => ("LaytimeDeskModel", "sorts", "[B", true)
  | 7 => ("LaytimeDeskModel", "firsts", "[I", true)
  | 8 => ("LaytimeDeskModel", "seconds", "[I", true)
  | 9 => ("LaytimeDeskModel", "bits", "[B", true)
  | 10 => ("LaytimeDeskModel", "amounts", "[I", true)
  | 11 => ("LaytimeDeskModel", "ports", "[J", true)
  | 12 => ("LaytimeDeskModel", "known", "[S", true)
  | 13 => ("LaytimeDeskModel", "gone", "[Z", true)
  | 14 => ("LaytimeDeskModel", "frees", "[Z", true)
  | 15 => ("LaytimeDeskModel", "eventPort", "[B", true)
  | 16 => ("LaytimeDeskModel", "eventMinute", "[I", true)
  | 17 => ("LaytimeDeskModel", "eventKind", "[B", true)
  | 18 => ("LaytimeDeskModel", "rowMany", "[I", true)
  | 19 => ("LaytimeDeskModel", "rowWhy", "[B", true)
  | 20 => ("LaytimeDeskModel", "hasImage", "Z", false)
  | 21 => ("LaytimeDeskModel", "kept", "[I", true)
  | 22 => ("LaytimeDeskModel", "keptHolds", "[B", true)
  | 23 => ("LaytimeDeskModel", "keptKinds", "[B", true)
  | 24 => ("LaytimeDeskModel", "keptSorts", "[B", true)
  | 25 => ("LaytimeDeskModel", "keptFirsts", "[I", true)
  | 26 => ("LaytimeDeskModel", "keptSeconds", "[I", true)
  | 27 => ("LaytimeDeskModel", "keptBits", "[B", true)
  | 28 => ("LaytimeDeskModel", "keptAmounts", "[I", true)
  | 29 => ("LaytimeDeskModel", "keptPorts", "[J", true)
  | 30 => ("LaytimeDeskModel", "keptKnown", "[S", true)
  | 31 => ("LaytimeDeskModel", "keptGone", "[Z", true)
  | 32 => ("LaytimeDeskModel", "keptFrees", "[Z", true)
  | 33 => ("LaytimeDeskModel", "keptEventPort", "[B", true)
  | 34 => ("LaytimeDeskModel", "keptEventMinute", "[I", true)
  | 35 => ("LaytimeDeskModel", "keptEventKind", "[B", true)
  | 36 => ("LaytimeDeskModel", "keptRowMany", "[I", true)
  | 37 => ("LaytimeDeskModel", "keptRowWhy", "[B", true)
  | 38 => ("LaytimeDeskModel", "reason", "I", false)
  | 39 => ("LaytimeDeskModel", "refused", "[I", true)
  | 40 => ("LaytimeDeskModel", "copyMinute", "[I", true)
  | 41 => ("LaytimeDeskModel", "copyKind", "[B", true)
  | 42 => ("LaytimeDeskModel", "copyKnown", "[S", true)
  | 43 => ("LaytimeDeskModel", "copyGone", "[Z", true)
  | 44 => ("LaytimeDeskModel", "froms", "[I", true)
  | 45 => ("LaytimeDeskModel", "tos", "[I", true)
  | 46 => ("LaytimeDeskModel", "next", "[I", true)
  | 47 => ("LaytimeDeskModel", "states", "[I", true)
  | 48 => ("LaytimeDeskModel", "nextEvent", "[I", true)
  | 49 => ("LaytimeDeskModel", "seekPort", "I", false)
  | 50 => ("LaytimeDeskModel", "seekMinute", "I", false)
  | 51 => ("LaytimeDeskModel", "seekFrom", "I", false)
  | 52 => ("LaytimeDeskModel", "seekTo", "I", false)
  | 53 => ("LaytimeDeskModel", "seekPlace", "I", false)
  | 54 => ("LaytimeDeskModel", "foundWhy", "I", false)
  | 55 => ("LaytimeDeskModel", "foundHalves", "I", false)
  | 56 => ("LaytimeDeskModel", "spanHalves", "J", false)
  | 57 => ("LaytimeDeskModel", "byMany", "I", false)
  | 58 => ("LaytimeDeskModel", "halves", "J", false)
  | 59 => ("LaytimeDeskModel", "limit", "J", false)
  | 60 => ("LaytimeDeskModel", "minutes", "J", false)
  | 61 => ("LaytimeDeskModel", "once", "J", false)
  | 62 => ("LaytimeDeskModel", "counting", "I", false)
  | 63 => ("LaytimeDeskModel", "row", "I", false)
  | 64 => ("LaytimeDeskModel", "inRow", "I", false)
  | 65 => ("LaytimeDeskModel", "wrongAt", "I", false)
  | _ => ("LaytimeDeskModel", "portHalves", "J", false)
def tyX9 : Nat → FieldType := fun k => match k with
  | 0 => .int
  | 1 => .int
  | 2 => .int
  | 3 => .int
  | 4 => .array .byte
  | 5 => .array .byte
  | 6 => .array .byte
  | 7 => .array .int
  | 8 => .array .int
  | 9 => .array .byte
  | 10 => .array .int
  | 11 => .array .long
  | 12 => .array .short
  | 13 => .array .boolean
  | 14 => .array .boolean
  | 15 => .array .byte
  | 16 => .array .int
  | 17 => .array .byte
  | 18 => .array .int
  | 19 => .array .byte
  | 20 => .boolean
  | 21 => .array .int
  | 22 => .array .byte
  | 23 => .array .byte
  | 24 => .array .byte
  | 25 => .array .int
  | 26 => .array .int
  | 27 => .array .byte
  | 28 => .array .int
  | 29 => .array .long
  | 30 => .array .short
  | 31 => .array .boolean
  | 32 => .array .boolean
  | 33 => .array .byte
  | 34 => .array .int
  | 35 => .array .byte
  | 36 => .array .int
  | 37 => .array .byte
  | 38 => .int
  | 39 => .array .int
  | 40 => .array .int
  | 41 => .array .byte
  | 42 => .array .short
  | 43 => .array .boolean
  | 44 => .array .int
  | 45 => .array .int
  | 46 => .array .int
  | 47 => .array .int
  | 48 => .array .int
  | 49 => .int
  | 50 => .int
  | 51 => .int
  | 52 => .int
  | 53 => .int
  | 54 => .int
  | 55 => .int
  | 56 => .long
  | 57 => .int
  | 58 => .long
  | 59 => .long
  | 60 => .long
  | 61 => .long
  | 62 => .int
  | 63 => .int
  | 64 => .int
  | 65 => .int
  | _ => .long
abbrev wsX90 : List Cond := u_ws RX9 TX9 67
theorem nmX9 : ∀ a, a < 67 → ∀ b, b < 67 → a ≠ b → (TX9 a).2.1 ≠ (TX9 b).2.1 := by decide +kernel
theorem tyX9_ok : ∀ k, k < 67 → parseFieldDescriptor (TX9 k).2.2.1 = some (tyX9 k) := by decide +kernel
abbrev cX9_init : ByteArray := prog_11_method_1_code
def yX9_init : MethodName := ⟨RX9, "<init>", "()V"⟩
abbrev cX9_no : ByteArray := prog_11_method_2_code
def yX9_no : MethodName := ⟨RX9, "no", "(I)I"⟩
abbrev cX9_lesser : ByteArray := prog_11_method_3_code
def yX9_lesser : MethodName := ⟨RX9, "lesser", "(II)I"⟩
abbrev cX9_contractWhy : ByteArray := prog_11_method_4_code
def yX9_contractWhy : MethodName := ⟨RX9, "contractWhy", "(I)I"⟩
abbrev cX9_placeWhy : ByteArray := prog_11_method_5_code
def yX9_placeWhy : MethodName := ⟨RX9, "placeWhy", "(II)I"⟩
abbrev cX9_isOpen : ByteArray := prog_11_method_6_code
def yX9_isOpen : MethodName := ⟨RX9, "isOpen", "(I)Z"⟩
abbrev cX9_portWhy : ByteArray := prog_11_method_7_code
def yX9_portWhy : MethodName := ⟨RX9, "portWhy", "(I)I"⟩
abbrev cX9_of : ByteArray := prog_11_method_8_code
def yX9_of : MethodName := ⟨RX9, "of", "(II)I"⟩
abbrev cX9_dayWhy : ByteArray := prog_11_method_9_code
def yX9_dayWhy : MethodName := ⟨RX9, "dayWhy", "(II)I"⟩
abbrev cX9_minuteWhy : ByteArray := prog_11_method_10_code
def yX9_minuteWhy : MethodName := ⟨RX9, "minuteWhy", "(II)I"⟩
abbrev cX9_contract : ByteArray := prog_11_method_11_code
def yX9_contract : MethodName := ⟨RX9, "contract", "()I"⟩
abbrev cX9_term : ByteArray := prog_11_method_12_code
def yX9_term : MethodName := ⟨RX9, "term", "(IIIIII)Z"⟩
abbrev cX9_termWhy : ByteArray := prog_11_method_13_code
def yX9_termWhy : MethodName := ⟨RX9, "termWhy", "(II)I"⟩
abbrev cX9_yields : ByteArray := prog_11_method_14_code
def yX9_yields : MethodName := ⟨RX9, "yields", "(III)I"⟩
abbrev cX9_amount : ByteArray := prog_11_method_15_code
def yX9_amount : MethodName := ⟨RX9, "amount", "(III)Z"⟩
abbrev cX9_heading : ByteArray := prog_11_method_16_code
def yX9_heading : MethodName := ⟨RX9, "heading", "(III)Z"⟩
abbrev cX9_strike : ByteArray := prog_11_method_17_code
def yX9_strike : MethodName := ⟨RX9, "strike", "(II)Z"⟩
abbrev cX9_kind : ByteArray := prog_11_method_18_code
def yX9_kind : MethodName := ⟨RX9, "kind", "(II)I"⟩
abbrev cX9_headed : ByteArray := prog_11_method_19_code
def yX9_headed : MethodName := ⟨RX9, "headed", "(II)I"⟩
abbrev cX9_span : ByteArray := prog_11_method_20_code
def yX9_span : MethodName := ⟨RX9, "span", "(III)I"⟩
abbrev cX9_clear : ByteArray := prog_11_method_21_code
def yX9_clear : MethodName := ⟨RX9, "clear", "(III)I"⟩
abbrev cX9_insert : ByteArray := prog_11_method_22_code
def yX9_insert : MethodName := ⟨RX9, "insert", "(III)V"⟩
abbrev cX9_port : ByteArray := prog_11_method_23_code
def yX9_port : MethodName := ⟨RX9, "port", "(III)Z"⟩
abbrev cX9_part : ByteArray := prog_11_method_24_code
def yX9_part : MethodName := ⟨RX9, "part", "(I)V"⟩
abbrev cX9_close : ByteArray := prog_11_method_25_code
def yX9_close : MethodName := ⟨RX9, "close", "(I)Z"⟩
abbrev cX9_isKnown : ByteArray := prog_11_method_26_code
def yX9_isKnown : MethodName := ⟨RX9, "isKnown", "(II)Z"⟩
abbrev cX9_event : ByteArray := prog_11_method_27_code
def yX9_event : MethodName := ⟨RX9, "event", "(III)Z"⟩
abbrev cX9_day : ByteArray := prog_11_method_28_code
def yX9_day : MethodName := ⟨RX9, "day", "(IIZ)Z"⟩
abbrev cX9_tear : ByteArray := prog_11_method_29_code
def yX9_tear : MethodName := ⟨RX9, "tear", "(III)I"⟩
abbrev cX9_copy : ByteArray := prog_11_method_30_code
def yX9_copy : MethodName := ⟨RX9, "copy", "(IIIII)I"⟩
abbrev cX9_free : ByteArray := prog_11_method_31_code
def yX9_free : MethodName := ⟨RX9, "free", "(IIZ)Z"⟩
abbrev cX9_put : ByteArray := prog_11_method_32_code
def yX9_put : MethodName := ⟨RX9, "put", "(IIJJ)Z"⟩
abbrev cX9_tons : ByteArray := prog_11_method_33_code
def yX9_tons : MethodName := ⟨RX9, "tons", "(IJ)Z"⟩
abbrev cX9_office : ByteArray := prog_11_method_34_code
def yX9_office : MethodName := ⟨RX9, "office", "(IIII)Z"⟩
abbrev cX9_offset : ByteArray := prog_11_method_35_code
def yX9_offset : MethodName := ⟨RX9, "offset", "(II)Z"⟩
abbrev cX9_rate : ByteArray := prog_11_method_36_code
def yX9_rate : MethodName := ⟨RX9, "rate", "(IJJ)Z"⟩
abbrev cX9_together : ByteArray := prog_11_method_37_code
def yX9_together : MethodName := ⟨RX9, "together", "(I)Z"⟩
abbrev cX9_first : ByteArray := prog_11_method_38_code
def yX9_first : MethodName := ⟨RX9, "first", "(III)I"⟩
abbrev cX9_length : ByteArray := prog_11_method_39_code
def yX9_length : MethodName := ⟨RX9, "length", "(I)I"⟩
abbrev cX9_good : ByteArray := prog_11_method_40_code
def yX9_good : MethodName := ⟨RX9, "good", "(I)I"⟩
abbrev cX9_begin : ByteArray := prog_11_method_41_code
def yX9_begin : MethodName := ⟨RX9, "begin", "(I)I"⟩
abbrev cX9_doesCount : ByteArray := prog_11_method_42_code
def yX9_doesCount : MethodName := ⟨RX9, "doesCount", "(I)Z"⟩
abbrev cX9_hasEnd : ByteArray := prog_11_method_43_code
def yX9_hasEnd : MethodName := ⟨RX9, "hasEnd", "(I)Z"⟩
abbrev cX9_end : ByteArray := prog_11_method_44_code
def yX9_end : MethodName := ⟨RX9, "end", "(I)I"⟩
abbrev cX9_allowed : ByteArray := prog_11_method_45_code
def yX9_allowed : MethodName := ⟨RX9, "allowed", "(IIII)J"⟩
abbrev cX9_hasMinute : ByteArray := prog_11_method_46_code
def yX9_hasMinute : MethodName := ⟨RX9, "hasMinute", "(IIII)Z"⟩
abbrev cX9_teller : ByteArray := prog_11_method_47_code
def yX9_teller : MethodName := ⟨RX9, "teller", "(IIIZIII)I"⟩
abbrev cX9_isAsked : ByteArray := prog_11_method_48_code
def yX9_isAsked : MethodName := ⟨RX9, "isAsked", "(IIIIIZ)Z"⟩
abbrev cX9_adds : ByteArray := prog_11_method_49_code
def yX9_adds : MethodName := ⟨RX9, "adds", "(II)I"⟩
abbrev cX9_walk : ByteArray := prog_11_method_50_code
def yX9_walk : MethodName := ⟨RX9, "walk", "(IZIII)V"⟩
abbrev cX9_step : ByteArray := prog_11_method_51_code
def yX9_step : MethodName := ⟨RX9, "step", "(IIJZIII)V"⟩
abbrev cX9_seek : ByteArray := prog_11_method_52_code
def yX9_seek : MethodName := ⟨RX9, "seek", "(IIIII)V"⟩
abbrev cX9_leastPort : ByteArray := prog_11_method_53_code
def yX9_leastPort : MethodName := ⟨RX9, "leastPort", "(I)I"⟩
abbrev cX9_told : ByteArray := prog_11_method_54_code
def yX9_told : MethodName := ⟨RX9, "told", "(II)I"⟩
abbrev cX9_many : ByteArray := prog_11_method_55_code
def yX9_many : MethodName := ⟨RX9, "many", "(I)I"⟩
abbrev cX9_unknown : ByteArray := prog_11_method_56_code
def yX9_unknown : MethodName := ⟨RX9, "unknown", "(I)I"⟩
abbrev cX9_weight : ByteArray := prog_11_method_57_code
def yX9_weight : MethodName := ⟨RX9, "weight", "(II)J"⟩
abbrev cX9_state : ByteArray := prog_11_method_58_code
def yX9_state : MethodName := ⟨RX9, "state", "(II)I"⟩
abbrev cX9_minute : ByteArray := prog_11_method_59_code
def yX9_minute : MethodName := ⟨RX9, "minute", "(IIZ)I"⟩
abbrev cX9_why : ByteArray := prog_11_method_60_code
def yX9_why : MethodName := ⟨RX9, "why", "(IIZ)I"⟩
abbrev cX9_counts : ByteArray := prog_11_method_61_code
def yX9_counts : MethodName := ⟨RX9, "counts", "(IIIZ)I"⟩
abbrev cX9_by : ByteArray := prog_11_method_62_code
def yX9_by : MethodName := ⟨RX9, "by", "(IIZ)I"⟩
abbrev cX9_isEnded : ByteArray := prog_11_method_63_code
def yX9_isEnded : MethodName := ⟨RX9, "isEnded", "(I)Z"⟩
abbrev cX9_owed : ByteArray := prog_11_method_64_code
def yX9_owed : MethodName := ⟨RX9, "owed", "()J"⟩
abbrev cX9_saved : ByteArray := prog_11_method_65_code
def yX9_saved : MethodName := ⟨RX9, "saved", "(I)J"⟩
abbrev cX9_sum : ByteArray := prog_11_method_66_code
def yX9_sum : MethodName := ⟨RX9, "sum", "(IIZ)J"⟩
abbrev cX9_as : ByteArray := prog_11_method_67_code
def yX9_as : MethodName := ⟨RX9, "as", "(IIIZ)J"⟩
abbrev cX9_claim : ByteArray := prog_11_method_68_code
def yX9_claim : MethodName := ⟨RX9, "claim", "(I)Z"⟩
abbrev cX9_tell : ByteArray := prog_11_method_69_code
def yX9_tell : MethodName := ⟨RX9, "tell", "(II)I"⟩
abbrev cX9_check : ByteArray := prog_11_method_70_code
def yX9_check : MethodName := ⟨RX9, "check", "(IZ)I"⟩
abbrev cX9_image : ByteArray := prog_11_method_71_code
def yX9_image : MethodName := ⟨RX9, "image", "()Z"⟩
abbrev cX9_back : ByteArray := prog_11_method_72_code
def yX9_back : MethodName := ⟨RX9, "back", "()Z"⟩
abbrev cX9_status : ByteArray := prog_11_method_73_code
def yX9_status : MethodName := ⟨RX9, "status", "(I)I"⟩
def RJ9 : String := "java/lang/Math"
def TJ9 : u_T := fun k => match k with
  | _ => ("", "", "", false)
def tyJ9 : Nat → FieldType := fun k => match k with
  | _ => .int
abbrev wsJ90 : List Cond := u_ws RJ9 TJ9 0
theorem nmJ9 : ∀ a, a < 0 → ∀ b, b < 0 → a ≠ b → (TJ9 a).2.1 ≠ (TJ9 b).2.1 := by decide +kernel
theorem tyJ9_ok : ∀ k, k < 0 → parseFieldDescriptor (TJ9 k).2.2.1 = some (tyJ9 k) := by decide +kernel
abbrev cJ9_max_7cf53 : ByteArray := prog_12_method_65_code
def yJ9_max_7cf53 : MethodName := ⟨RJ9, "max", "(II)I"⟩
abbrev cJ9_max_f86c9 : ByteArray := prog_12_method_66_code
def yJ9_max_f86c9 : MethodName := ⟨RJ9, "max", "(JJ)J"⟩
abbrev cJ9_min_7cf53 : ByteArray := prog_12_method_69_code
def yJ9_min_7cf53 : MethodName := ⟨RJ9, "min", "(II)I"⟩
def RJ10 : String := "java/lang/System"
def TJ10 : u_T := fun k => match k with
  | _ => ("", "", "", false)
def tyJ10 : Nat → FieldType := fun k => match k with
  | _ => .int
abbrev wsJ100 : List Cond := u_ws RJ10 TJ10 0
theorem nmJ10 : ∀ a, a < 0 → ∀ b, b < 0 → a ≠ b → (TJ10 a).2.1 ≠ (TJ10 b).2.1 := by decide +kernel
theorem tyJ10_ok : ∀ k, k < 0 → parseFieldDescriptor (TJ10 k).2.2.1 = some (tyJ10 k) := by decide +kernel
def RJ7 : String := "java/util/Arrays"
def TJ7 : u_T := fun k => match k with
  | _ => ("", "", "", false)
def tyJ7 : Nat → FieldType := fun k => match k with
  | _ => .int
abbrev wsJ70 : List Cond := u_ws RJ7 TJ7 0
theorem nmJ7 : ∀ a, a < 0 → ∀ b, b < 0 → a ≠ b → (TJ7 a).2.1 ≠ (TJ7 b).2.1 := by decide +kernel
theorem tyJ7_ok : ∀ k, k < 0 → parseFieldDescriptor (TJ7 k).2.2.1 = some (tyJ7 k) := by decide +kernel
abbrev cJ7_fill_53178 : ByteArray := prog_14_method_103_code
def yJ7_fill_53178 : MethodName := ⟨RJ7, "fill", "([II)V"⟩
def RL : String := "LaytimeDeskLaw"
abbrev cL_law : ByteArray := code
def yL_law : MethodName := ⟨RL, "law", "([I)Z"⟩
/-- the words that outlive a call -/
def wsT : List Cond := lw_tbl.filter goodWord
theorem wsT_of {w : Cond} (h : w ∈ lw_tbl) (g : goodWord w = true) : w ∈ wsT := List.mem_filter.mpr ⟨h, g⟩
