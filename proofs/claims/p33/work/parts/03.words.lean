/-! every word of the law, by its place in the tables -/
theorem mC1 {w : Cond} (h : w ∈ tables_1_1) : w ∈ lw_tbl := List.mem_append_right (k2_sels lw_privs) (show w ∈ tables_1 from List.mem_append_left _ h)
theorem mC2 {w : Cond} (h : w ∈ tables_1_2) : w ∈ lw_tbl := List.mem_append_right (k2_sels lw_privs) (show w ∈ tables_1 from List.mem_append_right _ (List.mem_append_left _ h))
theorem mC3 {w : Cond} (h : w ∈ tables_1_3) : w ∈ lw_tbl := List.mem_append_right (k2_sels lw_privs) (show w ∈ tables_1 from List.mem_append_right _ (List.mem_append_right _ (List.mem_append_left _ h)))
theorem mC4 {w : Cond} (h : w ∈ tables_1_4) : w ∈ lw_tbl := List.mem_append_right (k2_sels lw_privs) (show w ∈ tables_1 from List.mem_append_right _ (List.mem_append_right _ (List.mem_append_right _ (List.mem_append_left _ h))))
theorem mC5 {w : Cond} (h : w ∈ tables_1_5) : w ∈ lw_tbl := List.mem_append_right (k2_sels lw_privs) (show w ∈ tables_1 from List.mem_append_right _ (List.mem_append_right _ (List.mem_append_right _ (List.mem_append_right _ (List.mem_append_left _ h)))))
theorem mC6 {w : Cond} (h : w ∈ tables_1_6) : w ∈ lw_tbl := List.mem_append_right (k2_sels lw_privs) (show w ∈ tables_1 from List.mem_append_right _ (List.mem_append_right _ (List.mem_append_right _ (List.mem_append_right _ (List.mem_append_right _ (List.mem_append_left _ h))))))
theorem mC7 {w : Cond} (h : w ∈ tables_1_7) : w ∈ lw_tbl := List.mem_append_right (k2_sels lw_privs) (show w ∈ tables_1 from List.mem_append_right _ (List.mem_append_right _ (List.mem_append_right _ (List.mem_append_right _ (List.mem_append_right _ (List.mem_append_right _ (h)))))))
set_option maxRecDepth 20000 in
theorem inlX0 : ∀ w ∈ u_ws RX0 TX0 6, w ∈ wsT := fun w h => wsT_of (goodIn_r (big := lw_tbl) _ [238, 240, 242, 244, 246, 248] (by decide +kernel) (by decide +kernel) w h).1 (List.all_eq_true.mp (show (u_ws RX0 TX0 6).all goodWord = true by decide +kernel) w h)
set_option maxRecDepth 20000 in
theorem inlX1 : ∀ w ∈ u_ws RX1 TX1 4, w ∈ wsT := fun w h => wsT_of (goodIn_r (big := lw_tbl) _ [153, 155, 157, 159] (by decide +kernel) (by decide +kernel) w h).1 (List.all_eq_true.mp (show (u_ws RX1 TX1 4).all goodWord = true by decide +kernel) w h)
set_option maxRecDepth 20000 in
theorem inlX2 : ∀ w ∈ u_ws RX2 TX2 3, w ∈ wsT := fun w h => wsT_of (goodIn_r (big := lw_tbl) _ [130, 132, 134] (by decide +kernel) (by decide +kernel) w h).1 (List.all_eq_true.mp (show (u_ws RX2 TX2 3).all goodWord = true by decide +kernel) w h)
set_option maxRecDepth 20000 in
theorem inlX3 : ∀ w ∈ u_ws RX3 TX3 16, w ∈ wsT := fun w h => wsT_of (goodIn_r (big := lw_tbl) _ [385, 387, 389, 391, 393, 395, 397, 399, 401, 403, 405, 407, 409, 411, 413, 415] (by decide +kernel) (by decide +kernel) w h).1 (List.all_eq_true.mp (show (u_ws RX3 TX3 16).all goodWord = true by decide +kernel) w h)
set_option maxRecDepth 20000 in
theorem inlX4 : ∀ w ∈ u_ws RX4 TX4 11, w ∈ wsT := fun w h => wsT_of (goodIn_r (big := lw_tbl) _ [200, 202, 204, 206, 208, 210, 212, 214, 216, 218, 220] (by decide +kernel) (by decide +kernel) w h).1 (List.all_eq_true.mp (show (u_ws RX4 TX4 11).all goodWord = true by decide +kernel) w h)
set_option maxRecDepth 20000 in
theorem inlX5 : ∀ w ∈ u_ws RX5 TX5 7, w ∈ wsT := fun w h => wsT_of (goodIn_r (big := lw_tbl) _ [349, 351, 353, 355, 357, 359, 361] (by decide +kernel) (by decide +kernel) w h).1 (List.all_eq_true.mp (show (u_ws RX5 TX5 7).all goodWord = true by decide +kernel) w h)
set_option maxRecDepth 20000 in
theorem inlX6 : ∀ w ∈ u_ws RX6 TX6 7, w ∈ wsT := fun w h => wsT_of (goodIn_r (big := lw_tbl) _ [104, 106, 108, 110, 112, 114, 116] (by decide +kernel) (by decide +kernel) w h).1 (List.all_eq_true.mp (show (u_ws RX6 TX6 7).all goodWord = true by decide +kernel) w h)
set_option maxRecDepth 20000 in
theorem inlX7 : ∀ w ∈ u_ws RX7 TX7 18, w ∈ wsT := fun w h => wsT_of (goodIn_r (big := lw_tbl) _ [290, 292, 294, 296, 298, 300, 302, 304, 306, 308, 310, 312, 314, 316, 318, 320, 322, 324] (by decide +kernel) (by decide +kernel) w h).1 (List.all_eq_true.mp (show (u_ws RX7 TX7 18).all goodWord = true by decide +kernel) w h)
set_option maxRecDepth 20000 in
theorem inlX8 : ∀ w ∈ u_ws RX8 TX8 6, w ∈ wsT := fun w h => wsT_of (goodIn_r (big := lw_tbl) _ [424, 426, 428, 430, 432, 434] (by decide +kernel) (by decide +kernel) w h).1 (List.all_eq_true.mp (show (u_ws RX8 TX8 6).all goodWord = true by decide +kernel) w h)
set_option maxRecDepth 20000 in
theorem inlX9 : ∀ w ∈ u_ws RX9 TX9 67, w ∈ wsT := fun w h => wsT_of (goodIn_r (big := lw_tbl) _ [1046, 1048, 1050, 1052, 1054, 1056, 1058, 1060, 1062, 1064, 1066, 1068, 1070, 1072, 1074, 1076, 1078, 1080, 1082, 1084, 1086, 1088, 1090, 1092, 1094, 1096, 1098, 1100, 1102, 1104, 1106, 1108, 1110, 1112, 1114, 1116, 1118, 1120, 1122, 1124, 1126, 1128, 1130, 1132, 1134, 1136, 1138, 1140, 1142, 1144, 1146, 1148, 1150, 1152, 1154, 1156, 1158, 1160, 1162, 1164, 1166, 1168, 1170, 1172, 1174, 1176, 1178] (by decide +kernel) (by decide +kernel) w h).1 (List.all_eq_true.mp (show (u_ws RX9 TX9 67).all goodWord = true by decide +kernel) w h)
theorem mW0 : Cond.classLink RL 7 RX8 ∈ wsT := wsT_of (mC1 (List.mem_of_getElem? (i := 14) rfl)) rfl
theorem mW1 : Cond.instantiable RX8 6 ∈ wsT := wsT_of (mC1 (List.mem_of_getElem? (i := 15) rfl)) rfl
theorem mW2 : Cond.initialized RX8 ∈ wsT := wsT_of (mC1 (List.mem_of_getElem? (i := 1) rfl)) rfl
theorem mW3 : Cond.classLink RL 10 RX9 ∈ wsT := wsT_of (mC4 (List.mem_of_getElem? (i := 206) rfl)) rfl
theorem mW4 : Cond.instantiable RX9 67 ∈ wsT := wsT_of (mC4 (List.mem_of_getElem? (i := 207) rfl)) rfl
theorem mW5 : Cond.initialized RX9 ∈ wsT := wsT_of (mC1 (List.mem_of_getElem? (i := 11) rfl)) rfl
theorem mW6 : Cond.constantLong RL 86 (4294967295) ∈ wsT := wsT_of (mC7 (List.mem_of_getElem? (i := 1) rfl)) rfl
theorem mW7 : Cond.methodLink RL 9 yX8_init ∈ wsT := wsT_of (mC1 (List.mem_of_getElem? (i := 16) rfl)) rfl
theorem mW8 : Cond.instanceMethod yX8_init ∈ wsT := wsT_of (mC1 (List.mem_of_getElem? (i := 17) rfl)) rfl
theorem mW9 : Cond.code yX8_init cX8_init 1 none ∈ wsT := wsT_of (mC1 (List.mem_of_getElem? (i := 18) rfl)) rfl
theorem mW10 : Cond.methodLink RX8 3 objectInit ∈ wsT := wsT_of (mC1 (List.mem_of_getElem? (i := 19) rfl)) rfl
theorem mW11 : Cond.instanceMethod objectInit ∈ wsT := wsT_of (mC1 (List.mem_of_getElem? (i := 20) rfl)) rfl
theorem mW12 : Cond.code objectInit ⟨#[0xb1]⟩ 1 none ∈ wsT := wsT_of (mC1 (List.mem_of_getElem? (i := 21) rfl)) rfl
theorem mW13 : Cond.classLink RX8 9 RX0 ∈ wsT := wsT_of (mC1 (List.mem_of_getElem? (i := 22) rfl)) rfl
theorem mW14 : Cond.instantiable RX0 6 ∈ wsT := wsT_of (mC1 (List.mem_of_getElem? (i := 23) rfl)) rfl
theorem mW15 : Cond.initialized RX0 ∈ wsT := wsT_of (mC1 (List.mem_of_getElem? (i := 2) rfl)) rfl
theorem mW16 : Cond.fieldLink RX8 12 "LaytimeDesk" "now" "LLaytimeDesk$Book;" ∈ wsT := wsT_of (mC2 (List.mem_of_getElem? (i := 131) rfl)) rfl
theorem mW17 : Cond.fieldLink RX8 16 "LaytimeDesk" "kept" "LLaytimeDesk$Book;" ∈ wsT := wsT_of (mC2 (List.mem_of_getElem? (i := 132) rfl)) rfl
theorem mW18 : Cond.classLink RX8 19 RX3 ∈ wsT := wsT_of (mC1 (List.mem_of_getElem? (i := 204) rfl)) rfl
theorem mW19 : Cond.instantiable RX3 16 ∈ wsT := wsT_of (mC1 (List.mem_of_getElem? (i := 205) rfl)) rfl
theorem mW20 : Cond.initialized RX3 ∈ wsT := wsT_of (mC1 (List.mem_of_getElem? (i := 8) rfl)) rfl
theorem mW21 : Cond.fieldLink RX8 24 "LaytimeDesk" "group" "LLaytimeDesk$Group;" ∈ wsT := wsT_of (mC2 (List.mem_of_getElem? (i := 133) rfl)) rfl
theorem mW22 : Cond.arrayClass .int ∈ wsT := wsT_of (mC1 (List.mem_of_getElem? (i := 72) rfl)) rfl
theorem mW23 : Cond.fieldLink RX8 28 "LaytimeDesk" "refusals" "[I" ∈ wsT := wsT_of (mC2 (List.mem_of_getElem? (i := 134) rfl)) rfl
theorem mW24 : Cond.methodLink RX8 11 yX0_init ∈ wsT := wsT_of (mC1 (List.mem_of_getElem? (i := 24) rfl)) rfl
theorem mW25 : Cond.instanceMethod yX0_init ∈ wsT := wsT_of (mC1 (List.mem_of_getElem? (i := 25) rfl)) rfl
theorem mW26 : Cond.code yX0_init cX0_init 2 none ∈ wsT := wsT_of (mC1 (List.mem_of_getElem? (i := 26) rfl)) rfl
theorem mW27 : Cond.methodLink RX0 3 objectInit ∈ wsT := wsT_of (mC1 (List.mem_of_getElem? (i := 27) rfl)) rfl
theorem mW28 : Cond.classLink RX0 9 RX6 ∈ wsT := wsT_of (mC1 (List.mem_of_getElem? (i := 28) rfl)) rfl
theorem mW29 : Cond.instantiable RX6 7 ∈ wsT := wsT_of (mC1 (List.mem_of_getElem? (i := 29) rfl)) rfl
theorem mW30 : Cond.initialized RX6 ∈ wsT := wsT_of (mC1 (List.mem_of_getElem? (i := 3) rfl)) rfl
theorem mW31 : Cond.fieldLink RX0 12 "LaytimeDesk$Book" "terms" "LLaytimeDesk$Terms;" ∈ wsT := wsT_of (mC1 (List.mem_of_getElem? (i := 176) rfl)) rfl
theorem mW32 : Cond.classLink RX0 18 RX2 ∈ wsT := wsT_of (mC1 (List.mem_of_getElem? (i := 73) rfl)) rfl
theorem mW33 : Cond.instantiable RX2 3 ∈ wsT := wsT_of (mC1 (List.mem_of_getElem? (i := 74) rfl)) rfl
theorem mW34 : Cond.initialized RX2 ∈ wsT := wsT_of (mC1 (List.mem_of_getElem? (i := 5) rfl)) rfl
theorem mW35 : Cond.fieldLink RX0 21 "LaytimeDesk$Book" "events" "LLaytimeDesk$Events;" ∈ wsT := wsT_of (mC1 (List.mem_of_getElem? (i := 180) rfl)) rfl
theorem mW36 : Cond.classLink RX0 25 RX1 ∈ wsT := wsT_of (mC1 (List.mem_of_getElem? (i := 90) rfl)) rfl
theorem mW37 : Cond.instantiable RX1 4 ∈ wsT := wsT_of (mC1 (List.mem_of_getElem? (i := 91) rfl)) rfl
theorem mW38 : Cond.initialized RX1 ∈ wsT := wsT_of (mC1 (List.mem_of_getElem? (i := 6) rfl)) rfl
theorem mW39 : Cond.fieldLink RX0 28 "LaytimeDesk$Book" "claimed" "LLaytimeDesk$Claimed;" ∈ wsT := wsT_of (mC1 (List.mem_of_getElem? (i := 184) rfl)) rfl
theorem mW40 : Cond.classLink RX0 32 RX4 ∈ wsT := wsT_of (mC1 (List.mem_of_getElem? (i := 115) rfl)) rfl
theorem mW41 : Cond.fieldLink RX0 34 "LaytimeDesk$Book" "ports" "[LLaytimeDesk$Port;" ∈ wsT := wsT_of (mC1 (List.mem_of_getElem? (i := 186) rfl)) rfl
theorem mW42 : Cond.instantiable RX4 11 ∈ wsT := wsT_of (mC1 (List.mem_of_getElem? (i := 117) rfl)) rfl
theorem mW43 : Cond.initialized RX4 ∈ wsT := wsT_of (mC1 (List.mem_of_getElem? (i := 7) rfl)) rfl
theorem mW44 : Cond.fieldLink RX0 39 "LaytimeDesk$Book" "nowhere" "LLaytimeDesk$Port;" ∈ wsT := wsT_of (mC1 (List.mem_of_getElem? (i := 188) rfl)) rfl
theorem mW45 : Cond.methodLink RX0 11 yX6_init ∈ wsT := wsT_of (mC1 (List.mem_of_getElem? (i := 30) rfl)) rfl
theorem mW46 : Cond.instanceMethod yX6_init ∈ wsT := wsT_of (mC1 (List.mem_of_getElem? (i := 31) rfl)) rfl
theorem mW47 : Cond.code yX6_init cX6_init 1 none ∈ wsT := wsT_of (mC1 (List.mem_of_getElem? (i := 32) rfl)) rfl
theorem mW48 : Cond.methodLink RX6 5 objectInit ∈ wsT := wsT_of (mC1 (List.mem_of_getElem? (i := 33) rfl)) rfl
theorem mW49 : Cond.fieldLink RX6 11 "LaytimeDesk$Terms" "kinds" "[I" ∈ wsT := wsT_of (mC1 (List.mem_of_getElem? (i := 37) rfl)) rfl
theorem mW50 : Cond.fieldLink RX6 15 "LaytimeDesk$Terms" "sorts" "[I" ∈ wsT := wsT_of (mC1 (List.mem_of_getElem? (i := 40) rfl)) rfl
theorem mW51 : Cond.fieldLink RX6 18 "LaytimeDesk$Terms" "firsts" "[I" ∈ wsT := wsT_of (mC1 (List.mem_of_getElem? (i := 43) rfl)) rfl
theorem mW52 : Cond.fieldLink RX6 21 "LaytimeDesk$Terms" "seconds" "[I" ∈ wsT := wsT_of (mC1 (List.mem_of_getElem? (i := 46) rfl)) rfl
theorem mW53 : Cond.fieldLink RX6 24 "LaytimeDesk$Terms" "yielding" "[I" ∈ wsT := wsT_of (mC1 (List.mem_of_getElem? (i := 49) rfl)) rfl
theorem mW54 : Cond.fieldLink RX6 27 "LaytimeDesk$Terms" "amounts" "[I" ∈ wsT := wsT_of (mC1 (List.mem_of_getElem? (i := 52) rfl)) rfl
theorem mW55 : Cond.methodLink RX6 30 yJ7_fill_53178 ∈ wsT := wsT_of (mC1 (List.mem_of_getElem? (i := 34) rfl)) rfl
theorem mW56 : Cond.static yJ7_fill_53178 ∈ wsT := wsT_of (mC1 (List.mem_of_getElem? (i := 35) rfl)) rfl
theorem mW57 : Cond.initialized RJ7 ∈ wsT := wsT_of (mC1 (List.mem_of_getElem? (i := 4) rfl)) rfl
theorem mW58 : Cond.code yJ7_fill_53178 cJ7_fill_53178 4 none ∈ wsT := wsT_of (mC1 (List.mem_of_getElem? (i := 36) rfl)) rfl
theorem mW59 : Cond.instanceMethod yX2_init ∈ wsT := wsT_of (mC1 (List.mem_of_getElem? (i := 76) rfl)) rfl
theorem mW60 : Cond.code yX2_init cX2_init 1 none ∈ wsT := wsT_of (mC1 (List.mem_of_getElem? (i := 77) rfl)) rfl
theorem mW61 : Cond.methodLink RX2 3 objectInit ∈ wsT := wsT_of (mC1 (List.mem_of_getElem? (i := 78) rfl)) rfl
theorem mW62 : Cond.fieldLink RX2 9 "LaytimeDesk$Events" "keys" "[I" ∈ wsT := wsT_of (mC1 (List.mem_of_getElem? (i := 79) rfl)) rfl
theorem mW63 : Cond.fieldLink RX2 15 "LaytimeDesk$Events" "spare" "[I" ∈ wsT := wsT_of (mC1 (List.mem_of_getElem? (i := 80) rfl)) rfl
theorem mW64 : Cond.instanceMethod yX1_init ∈ wsT := wsT_of (mC1 (List.mem_of_getElem? (i := 93) rfl)) rfl
theorem mW65 : Cond.code yX1_init cX1_init 1 none ∈ wsT := wsT_of (mC1 (List.mem_of_getElem? (i := 94) rfl)) rfl
theorem mW66 : Cond.methodLink RX1 3 objectInit ∈ wsT := wsT_of (mC1 (List.mem_of_getElem? (i := 95) rfl)) rfl
theorem mW67 : Cond.fieldLink RX1 9 "LaytimeDesk$Claimed" "lengths" "[I" ∈ wsT := wsT_of (mC1 (List.mem_of_getElem? (i := 96) rfl)) rfl
theorem mW68 : Cond.fieldLink RX1 15 "LaytimeDesk$Claimed" "whys" "[I" ∈ wsT := wsT_of (mC1 (List.mem_of_getElem? (i := 98) rfl)) rfl
theorem mW69 : Cond.fieldLink RX1 18 "LaytimeDesk$Claimed" "portNumber" "I" ∈ wsT := wsT_of (mC1 (List.mem_of_getElem? (i := 103) rfl)) rfl
theorem mW70 : Cond.instanceMethod yX4_init ∈ wsT := wsT_of (mC1 (List.mem_of_getElem? (i := 119) rfl)) rfl
theorem mW71 : Cond.code yX4_init cX4_init 1 none ∈ wsT := wsT_of (mC1 (List.mem_of_getElem? (i := 120) rfl)) rfl
theorem mW72 : Cond.methodLink RX4 3 objectInit ∈ wsT := wsT_of (mC1 (List.mem_of_getElem? (i := 121) rfl)) rfl
theorem mW73 : Cond.fieldLink RX4 9 "LaytimeDesk$Port" "known" "[I" ∈ wsT := wsT_of (mC1 (List.mem_of_getElem? (i := 122) rfl)) rfl
theorem mW74 : Cond.fieldLink RX4 15 "LaytimeDesk$Port" "free" "[I" ∈ wsT := wsT_of (mC1 (List.mem_of_getElem? (i := 125) rfl)) rfl
theorem mW75 : Cond.methodLink RX8 21 yX3_init ∈ wsT := wsT_of (mC1 (List.mem_of_getElem? (i := 206) rfl)) rfl
theorem mW76 : Cond.instanceMethod yX3_init ∈ wsT := wsT_of (mC1 (List.mem_of_getElem? (i := 207) rfl)) rfl
theorem mW77 : Cond.code yX3_init cX3_init 3 none ∈ wsT := wsT_of (mC1 (List.mem_of_getElem? (i := 208) rfl)) rfl
theorem mW78 : Cond.methodLink RX3 3 objectInit ∈ wsT := wsT_of (mC1 (List.mem_of_getElem? (i := 209) rfl)) rfl
theorem mW79 : Cond.classLink RX3 9 RX7 ∈ wsT := wsT_of (mC1 (List.mem_of_getElem? (i := 210) rfl)) rfl
theorem mW80 : Cond.fieldLink RX3 11 "LaytimeDesk$Group" "walks" "[LLaytimeDesk$Walk;" ∈ wsT := wsT_of (mC2 (List.mem_of_getElem? (i := 78) rfl)) rfl
theorem mW81 : Cond.classLink RX3 17 RX5 ∈ wsT := wsT_of (mC1 (List.mem_of_getElem? (i := 212) rfl)) rfl
theorem mW82 : Cond.fieldLink RX3 19 "LaytimeDesk$Group" "stays" "[LLaytimeDesk$Stay;" ∈ wsT := wsT_of (mC2 (List.mem_of_getElem? (i := 79) rfl)) rfl
theorem mW83 : Cond.fieldLink RX3 23 "LaytimeDesk$Group" "book" "LLaytimeDesk$Book;" ∈ wsT := wsT_of (mC2 (List.mem_of_getElem? (i := 77) rfl)) rfl
theorem mW84 : Cond.instantiable RX7 18 ∈ wsT := wsT_of (mC1 (List.mem_of_getElem? (i := 214) rfl)) rfl
theorem mW85 : Cond.initialized RX7 ∈ wsT := wsT_of (mC1 (List.mem_of_getElem? (i := 9) rfl)) rfl
theorem mW86 : Cond.fieldLink RX3 30 "LaytimeDesk$Group" "noWalk" "LLaytimeDesk$Walk;" ∈ wsT := wsT_of (mC2 (List.mem_of_getElem? (i := 80) rfl)) rfl
theorem mW87 : Cond.instantiable RX5 7 ∈ wsT := wsT_of (mC2 (List.mem_of_getElem? (i := 40) rfl)) rfl
theorem mW88 : Cond.initialized RX5 ∈ wsT := wsT_of (mC1 (List.mem_of_getElem? (i := 10) rfl)) rfl
theorem mW89 : Cond.fieldLink RX3 35 "LaytimeDesk$Group" "noStay" "LLaytimeDesk$Stay;" ∈ wsT := wsT_of (mC2 (List.mem_of_getElem? (i := 81) rfl)) rfl
theorem mW90 : Cond.methodLink RX3 27 yX7_init ∈ wsT := wsT_of (mC1 (List.mem_of_getElem? (i := 215) rfl)) rfl
theorem mW91 : Cond.instanceMethod yX7_init ∈ wsT := wsT_of (mC1 (List.mem_of_getElem? (i := 216) rfl)) rfl
theorem mW92 : Cond.code yX7_init cX7_init 2 none ∈ wsT := wsT_of (mC1 (List.mem_of_getElem? (i := 217) rfl)) rfl
theorem mW93 : Cond.methodLink RX7 3 objectInit ∈ wsT := wsT_of (mC1 (List.mem_of_getElem? (i := 218) rfl)) rfl
theorem mW94 : Cond.fieldLink RX7 9 "LaytimeDesk$Walk" "rows" "[I" ∈ wsT := wsT_of (mC1 (List.mem_of_getElem? (i := 220) rfl)) rfl
theorem mW95 : Cond.fieldLink RX7 15 "LaytimeDesk$Walk" "asked" "[I" ∈ wsT := wsT_of (mC1 (List.mem_of_getElem? (i := 221) rfl)) rfl
theorem mW96 : Cond.fieldLink RX7 18 "LaytimeDesk$Walk" "book" "LLaytimeDesk$Book;" ∈ wsT := wsT_of (mC1 (List.mem_of_getElem? (i := 219) rfl)) rfl
theorem mW97 : Cond.fieldLink RX7 22 "LaytimeDesk$Book" "nowhere" "LLaytimeDesk$Port;" ∈ wsT := wsT_of (mC1 (List.mem_of_getElem? (i := 187) rfl)) rfl
theorem mW98 : Cond.fieldLink RX7 28 "LaytimeDesk$Walk" "port" "LLaytimeDesk$Port;" ∈ wsT := wsT_of (mC1 (List.mem_of_getElem? (i := 226) rfl)) rfl
theorem mW99 : Cond.instanceMethod yX5_init ∈ wsT := wsT_of (mC2 (List.mem_of_getElem? (i := 42) rfl)) rfl
theorem mW100 : Cond.code yX5_init cX5_init 1 none ∈ wsT := wsT_of (mC2 (List.mem_of_getElem? (i := 43) rfl)) rfl
theorem mW101 : Cond.methodLink RX5 3 objectInit ∈ wsT := wsT_of (mC2 (List.mem_of_getElem? (i := 44) rfl)) rfl
theorem mW102 : Cond.methodLink RL 12 yX9_init ∈ wsT := wsT_of (mC4 (List.mem_of_getElem? (i := 208) rfl)) rfl
theorem mW103 : Cond.instanceMethod yX9_init ∈ wsT := wsT_of (mC4 (List.mem_of_getElem? (i := 209) rfl)) rfl
theorem mW104 : Cond.code yX9_init cX9_init 1 none ∈ wsT := wsT_of (mC4 (List.mem_of_getElem? (i := 210) rfl)) rfl
theorem mW105 : Cond.methodLink RX9 1 objectInit ∈ wsT := wsT_of (mC4 (List.mem_of_getElem? (i := 211) rfl)) rfl
theorem mW106 : Cond.fieldLink RX9 7 "LaytimeDeskModel" "claimed" "I" ∈ wsT := wsT_of (mC4 (List.mem_of_getElem? (i := 215) rfl)) rfl
theorem mW107 : Cond.arrayClass .byte ∈ wsT := wsT_of (mC5 (List.mem_of_getElem? (i := 174) rfl)) rfl
theorem mW108 : Cond.fieldLink RX9 13 "LaytimeDeskModel" "holds" "[B" ∈ wsT := wsT_of (mC4 (List.mem_of_getElem? (i := 216) rfl)) rfl
theorem mW109 : Cond.fieldLink RX9 17 "LaytimeDeskModel" "kinds" "[B" ∈ wsT := wsT_of (mC4 (List.mem_of_getElem? (i := 217) rfl)) rfl
theorem mW110 : Cond.fieldLink RX9 20 "LaytimeDeskModel" "sorts" "[B" ∈ wsT := wsT_of (mC4 (List.mem_of_getElem? (i := 218) rfl)) rfl
theorem mW111 : Cond.fieldLink RX9 23 "LaytimeDeskModel" "firsts" "[I" ∈ wsT := wsT_of (mC4 (List.mem_of_getElem? (i := 219) rfl)) rfl
theorem mW112 : Cond.fieldLink RX9 27 "LaytimeDeskModel" "seconds" "[I" ∈ wsT := wsT_of (mC4 (List.mem_of_getElem? (i := 220) rfl)) rfl
theorem mW113 : Cond.fieldLink RX9 30 "LaytimeDeskModel" "bits" "[B" ∈ wsT := wsT_of (mC4 (List.mem_of_getElem? (i := 221) rfl)) rfl
theorem mW114 : Cond.fieldLink RX9 33 "LaytimeDeskModel" "amounts" "[I" ∈ wsT := wsT_of (mC4 (List.mem_of_getElem? (i := 222) rfl)) rfl
theorem mW115 : Cond.arrayClass .long ∈ wsT := wsT_of (mC5 (List.mem_of_getElem? (i := 175) rfl)) rfl
theorem mW116 : Cond.fieldLink RX9 36 "LaytimeDeskModel" "ports" "[J" ∈ wsT := wsT_of (mC4 (List.mem_of_getElem? (i := 223) rfl)) rfl
theorem mW117 : Cond.arrayClass .short ∈ wsT := wsT_of (mC5 (List.mem_of_getElem? (i := 176) rfl)) rfl
theorem mW118 : Cond.fieldLink RX9 40 "LaytimeDeskModel" "known" "[S" ∈ wsT := wsT_of (mC4 (List.mem_of_getElem? (i := 224) rfl)) rfl
theorem mW119 : Cond.arrayClass .boolean ∈ wsT := wsT_of (mC5 (List.mem_of_getElem? (i := 177) rfl)) rfl
theorem mW120 : Cond.fieldLink RX9 44 "LaytimeDeskModel" "gone" "[Z" ∈ wsT := wsT_of (mC4 (List.mem_of_getElem? (i := 225) rfl)) rfl
theorem mW121 : Cond.fieldLink RX9 48 "LaytimeDeskModel" "frees" "[Z" ∈ wsT := wsT_of (mC4 (List.mem_of_getElem? (i := 226) rfl)) rfl
theorem mW122 : Cond.fieldLink RX9 51 "LaytimeDeskModel" "eventPort" "[B" ∈ wsT := wsT_of (mC4 (List.mem_of_getElem? (i := 227) rfl)) rfl
theorem mW123 : Cond.fieldLink RX9 54 "LaytimeDeskModel" "eventMinute" "[I" ∈ wsT := wsT_of (mC4 (List.mem_of_getElem? (i := 228) rfl)) rfl
theorem mW124 : Cond.fieldLink RX9 57 "LaytimeDeskModel" "eventKind" "[B" ∈ wsT := wsT_of (mC4 (List.mem_of_getElem? (i := 229) rfl)) rfl
theorem mW125 : Cond.fieldLink RX9 60 "LaytimeDeskModel" "rowMany" "[I" ∈ wsT := wsT_of (mC4 (List.mem_of_getElem? (i := 230) rfl)) rfl
theorem mW126 : Cond.fieldLink RX9 63 "LaytimeDeskModel" "rowWhy" "[B" ∈ wsT := wsT_of (mC4 (List.mem_of_getElem? (i := 231) rfl)) rfl
theorem mW127 : Cond.fieldLink RX9 66 "LaytimeDeskModel" "kept" "[I" ∈ wsT := wsT_of (mC4 (List.mem_of_getElem? (i := 233) rfl)) rfl
theorem mW128 : Cond.fieldLink RX9 69 "LaytimeDeskModel" "keptHolds" "[B" ∈ wsT := wsT_of (mC4 (List.mem_of_getElem? (i := 234) rfl)) rfl
theorem mW129 : Cond.fieldLink RX9 72 "LaytimeDeskModel" "keptKinds" "[B" ∈ wsT := wsT_of (mC4 (List.mem_of_getElem? (i := 235) rfl)) rfl
theorem mW130 : Cond.fieldLink RX9 75 "LaytimeDeskModel" "keptSorts" "[B" ∈ wsT := wsT_of (mC4 (List.mem_of_getElem? (i := 236) rfl)) rfl
theorem mW131 : Cond.fieldLink RX9 78 "LaytimeDeskModel" "keptFirsts" "[I" ∈ wsT := wsT_of (mC4 (List.mem_of_getElem? (i := 237) rfl)) rfl
theorem mW132 : Cond.fieldLink RX9 81 "LaytimeDeskModel" "keptSeconds" "[I" ∈ wsT := wsT_of (mC4 (List.mem_of_getElem? (i := 238) rfl)) rfl
theorem mW133 : Cond.fieldLink RX9 84 "LaytimeDeskModel" "keptBits" "[B" ∈ wsT := wsT_of (mC4 (List.mem_of_getElem? (i := 239) rfl)) rfl
theorem mW134 : Cond.fieldLink RX9 87 "LaytimeDeskModel" "keptAmounts" "[I" ∈ wsT := wsT_of (mC5 (List.mem_of_getElem? (i := 0) rfl)) rfl
theorem mW135 : Cond.fieldLink RX9 90 "LaytimeDeskModel" "keptPorts" "[J" ∈ wsT := wsT_of (mC5 (List.mem_of_getElem? (i := 1) rfl)) rfl
theorem mW136 : Cond.fieldLink RX9 93 "LaytimeDeskModel" "keptKnown" "[S" ∈ wsT := wsT_of (mC5 (List.mem_of_getElem? (i := 2) rfl)) rfl
theorem mW137 : Cond.fieldLink RX9 96 "LaytimeDeskModel" "keptGone" "[Z" ∈ wsT := wsT_of (mC5 (List.mem_of_getElem? (i := 3) rfl)) rfl
theorem mW138 : Cond.fieldLink RX9 99 "LaytimeDeskModel" "keptFrees" "[Z" ∈ wsT := wsT_of (mC5 (List.mem_of_getElem? (i := 4) rfl)) rfl
theorem mW139 : Cond.fieldLink RX9 102 "LaytimeDeskModel" "keptEventPort" "[B" ∈ wsT := wsT_of (mC5 (List.mem_of_getElem? (i := 5) rfl)) rfl
theorem mW140 : Cond.fieldLink RX9 105 "LaytimeDeskModel" "keptEventMinute" "[I" ∈ wsT := wsT_of (mC5 (List.mem_of_getElem? (i := 6) rfl)) rfl
theorem mW141 : Cond.fieldLink RX9 108 "LaytimeDeskModel" "keptEventKind" "[B" ∈ wsT := wsT_of (mC5 (List.mem_of_getElem? (i := 7) rfl)) rfl
theorem mW142 : Cond.fieldLink RX9 111 "LaytimeDeskModel" "keptRowMany" "[I" ∈ wsT := wsT_of (mC5 (List.mem_of_getElem? (i := 8) rfl)) rfl
theorem mW143 : Cond.fieldLink RX9 114 "LaytimeDeskModel" "keptRowWhy" "[B" ∈ wsT := wsT_of (mC5 (List.mem_of_getElem? (i := 9) rfl)) rfl
theorem mW144 : Cond.fieldLink RX9 117 "LaytimeDeskModel" "refused" "[I" ∈ wsT := wsT_of (mC5 (List.mem_of_getElem? (i := 11) rfl)) rfl
theorem mW145 : Cond.fieldLink RX9 120 "LaytimeDeskModel" "copyMinute" "[I" ∈ wsT := wsT_of (mC5 (List.mem_of_getElem? (i := 12) rfl)) rfl
theorem mW146 : Cond.fieldLink RX9 123 "LaytimeDeskModel" "copyKind" "[B" ∈ wsT := wsT_of (mC5 (List.mem_of_getElem? (i := 13) rfl)) rfl
theorem mW147 : Cond.fieldLink RX9 126 "LaytimeDeskModel" "copyKnown" "[S" ∈ wsT := wsT_of (mC5 (List.mem_of_getElem? (i := 14) rfl)) rfl
theorem mW148 : Cond.fieldLink RX9 129 "LaytimeDeskModel" "copyGone" "[Z" ∈ wsT := wsT_of (mC5 (List.mem_of_getElem? (i := 15) rfl)) rfl
theorem mW149 : Cond.fieldLink RX9 132 "LaytimeDeskModel" "froms" "[I" ∈ wsT := wsT_of (mC5 (List.mem_of_getElem? (i := 16) rfl)) rfl
theorem mW150 : Cond.fieldLink RX9 135 "LaytimeDeskModel" "tos" "[I" ∈ wsT := wsT_of (mC5 (List.mem_of_getElem? (i := 17) rfl)) rfl
theorem mW151 : Cond.fieldLink RX9 138 "LaytimeDeskModel" "next" "[I" ∈ wsT := wsT_of (mC5 (List.mem_of_getElem? (i := 18) rfl)) rfl
theorem mW152 : Cond.fieldLink RX9 141 "LaytimeDeskModel" "states" "[I" ∈ wsT := wsT_of (mC5 (List.mem_of_getElem? (i := 19) rfl)) rfl
theorem mW153 : Cond.fieldLink RX9 144 "LaytimeDeskModel" "nextEvent" "[I" ∈ wsT := wsT_of (mC5 (List.mem_of_getElem? (i := 20) rfl)) rfl
theorem mW154 : Cond.methodLink RL 13 yX8_contract ∈ wsT := wsT_of (mC2 (List.mem_of_getElem? (i := 150) rfl)) rfl
theorem mW155 : Cond.instanceMethod yX8_contract ∈ wsT := wsT_of (mC2 (List.mem_of_getElem? (i := 151) rfl)) rfl
theorem mW156 : Cond.selects RX8 yX8_contract yX8_contract ∈ wsT := wsT_of (mC2 (List.mem_of_getElem? (i := 152) rfl)) rfl
theorem mW157 : Cond.code yX8_contract cX8_contract 1 (some .int) ∈ wsT := wsT_of (mC2 (List.mem_of_getElem? (i := 153) rfl)) rfl
theorem mW158 : Cond.fieldLink RX8 32 "LaytimeDesk$Book" "terms" "LLaytimeDesk$Terms;" ∈ wsT := wsT_of (mC1 (List.mem_of_getElem? (i := 177) rfl)) rfl
theorem mW159 : Cond.fieldLink RX8 36 "LaytimeDesk$Terms" "contracts" "I" ∈ wsT := wsT_of (mC1 (List.mem_of_getElem? (i := 55) rfl)) rfl
theorem mW160 : Cond.methodLink RX8 42 yX8_refused ∈ wsT := wsT_of (mC2 (List.mem_of_getElem? (i := 154) rfl)) rfl
theorem mW161 : Cond.instanceMethod yX8_refused ∈ wsT := wsT_of (mC2 (List.mem_of_getElem? (i := 156) rfl)) rfl
theorem mW162 : Cond.selects RX8 yX8_refused yX8_refused ∈ wsT := wsT_of (List.mem_of_getElem? (l := lw_tbl) (i := 0) (by decide +kernel)) rfl
theorem mW163 : Cond.code yX8_refused cX8_refused 2 (some .boolean) ∈ wsT := wsT_of (mC2 (List.mem_of_getElem? (i := 157) rfl)) rfl
theorem mW164 : Cond.fieldLink RX8 351 "LaytimeDesk" "reason" "I" ∈ wsT := wsT_of (mC2 (List.mem_of_getElem? (i := 136) rfl)) rfl
theorem mW165 : Cond.methodLink RX8 78 yX8_at ∈ wsT := wsT_of (mC2 (List.mem_of_getElem? (i := 158) rfl)) rfl
theorem mW166 : Cond.static yX8_at ∈ wsT := wsT_of (mC2 (List.mem_of_getElem? (i := 159) rfl)) rfl
theorem mW167 : Cond.code yX8_at cX8_at 2 (some .int) ∈ wsT := wsT_of (mC2 (List.mem_of_getElem? (i := 160) rfl)) rfl
theorem mW168 : Cond.methodLink RX8 82 yX8_put ∈ wsT := wsT_of (mC2 (List.mem_of_getElem? (i := 161) rfl)) rfl
theorem mW169 : Cond.static yX8_put ∈ wsT := wsT_of (mC2 (List.mem_of_getElem? (i := 162) rfl)) rfl
theorem mW170 : Cond.code yX8_put cX8_put 3 none ∈ wsT := wsT_of (mC2 (List.mem_of_getElem? (i := 163) rfl)) rfl
theorem mW171 : Cond.methodLink RL 17 yX9_contract ∈ wsT := wsT_of (mC5 (List.mem_of_getElem? (i := 178) rfl)) rfl
theorem mW172 : Cond.instanceMethod yX9_contract ∈ wsT := wsT_of (mC5 (List.mem_of_getElem? (i := 179) rfl)) rfl
theorem mW173 : Cond.selects RX9 yX9_contract yX9_contract ∈ wsT := wsT_of (mC5 (List.mem_of_getElem? (i := 180) rfl)) rfl
theorem mW174 : Cond.code yX9_contract cX9_contract 2 (some .int) ∈ wsT := wsT_of (mC5 (List.mem_of_getElem? (i := 181) rfl)) rfl
theorem mW175 : Cond.fieldLink RX9 147 "LaytimeDeskModel" "reason" "I" ∈ wsT := wsT_of (mC5 (List.mem_of_getElem? (i := 10) rfl)) rfl
theorem mW176 : Cond.fieldLink RX9 150 "LaytimeDeskModel" "contracts" "I" ∈ wsT := wsT_of (mC4 (List.mem_of_getElem? (i := 212) rfl)) rfl
theorem mW177 : Cond.methodLink RX9 168 yX9_no ∈ wsT := wsT_of (mC5 (List.mem_of_getElem? (i := 182) rfl)) rfl
theorem mW178 : Cond.instanceMethod yX9_no ∈ wsT := wsT_of (mC5 (List.mem_of_getElem? (i := 184) rfl)) rfl
theorem mW179 : Cond.selects RX9 yX9_no yX9_no ∈ wsT := wsT_of (List.mem_of_getElem? (l := lw_tbl) (i := 11) (by decide +kernel)) rfl
theorem mW180 : Cond.code yX9_no cX9_no 2 (some .int) ∈ wsT := wsT_of (mC5 (List.mem_of_getElem? (i := 185) rfl)) rfl
theorem mW181 : Cond.methodLink RL 18 yX8_term ∈ wsT := wsT_of (mC2 (List.mem_of_getElem? (i := 164) rfl)) rfl
theorem mW182 : Cond.instanceMethod yX8_term ∈ wsT := wsT_of (mC2 (List.mem_of_getElem? (i := 165) rfl)) rfl
theorem mW183 : Cond.selects RX8 yX8_term yX8_term ∈ wsT := wsT_of (mC2 (List.mem_of_getElem? (i := 166) rfl)) rfl
theorem mW184 : Cond.code yX8_term cX8_term 7 (some .boolean) ∈ wsT := wsT_of (mC2 (List.mem_of_getElem? (i := 167) rfl)) rfl
theorem mW185 : Cond.methodLink RX8 46 yX8_placeReason ∈ wsT := wsT_of (mC2 (List.mem_of_getElem? (i := 168) rfl)) rfl
theorem mW186 : Cond.instanceMethod yX8_placeReason ∈ wsT := wsT_of (mC2 (List.mem_of_getElem? (i := 170) rfl)) rfl
theorem mW187 : Cond.selects RX8 yX8_placeReason yX8_placeReason ∈ wsT := wsT_of (List.mem_of_getElem? (l := lw_tbl) (i := 1) (by decide +kernel)) rfl
theorem mW188 : Cond.code yX8_placeReason cX8_placeReason 3 (some .int) ∈ wsT := wsT_of (mC2 (List.mem_of_getElem? (i := 171) rfl)) rfl
theorem mW189 : Cond.methodLink RX8 106 yX8_contractReason ∈ wsT := wsT_of (mC2 (List.mem_of_getElem? (i := 172) rfl)) rfl
theorem mW190 : Cond.instanceMethod yX8_contractReason ∈ wsT := wsT_of (mC2 (List.mem_of_getElem? (i := 174) rfl)) rfl
theorem mW191 : Cond.selects RX8 yX8_contractReason yX8_contractReason ∈ wsT := wsT_of (List.mem_of_getElem? (l := lw_tbl) (i := 2) (by decide +kernel)) rfl
theorem mW192 : Cond.code yX8_contractReason cX8_contractReason 2 (some .int) ∈ wsT := wsT_of (mC2 (List.mem_of_getElem? (i := 175) rfl)) rfl
theorem mW193 : Cond.methodLink RX8 71 yX8_within ∈ wsT := wsT_of (mC2 (List.mem_of_getElem? (i := 176) rfl)) rfl
theorem mW194 : Cond.static yX8_within ∈ wsT := wsT_of (mC2 (List.mem_of_getElem? (i := 177) rfl)) rfl
theorem mW195 : Cond.code yX8_within cX8_within 3 (some .boolean) ∈ wsT := wsT_of (mC2 (List.mem_of_getElem? (i := 178) rfl)) rfl
theorem mW196 : Cond.methodLink RX8 54 yX8_number ∈ wsT := wsT_of (mC2 (List.mem_of_getElem? (i := 179) rfl)) rfl
theorem mW197 : Cond.static yX8_number ∈ wsT := wsT_of (mC2 (List.mem_of_getElem? (i := 180) rfl)) rfl
theorem mW198 : Cond.code yX8_number cX8_number 1 (some .int) ∈ wsT := wsT_of (mC2 (List.mem_of_getElem? (i := 181) rfl)) rfl
theorem mW199 : Cond.methodLink RX8 58 yX8_least ∈ wsT := wsT_of (mC2 (List.mem_of_getElem? (i := 182) rfl)) rfl
theorem mW200 : Cond.static yX8_least ∈ wsT := wsT_of (mC2 (List.mem_of_getElem? (i := 183) rfl)) rfl
theorem mW201 : Cond.code yX8_least cX8_least 2 (some .int) ∈ wsT := wsT_of (mC2 (List.mem_of_getElem? (i := 184) rfl)) rfl
theorem mW202 : Cond.methodLink RX8 162 Lib.Math.min.name ∈ wsT := wsT_of (mC2 (List.mem_of_getElem? (i := 185) rfl)) rfl
theorem mW203 : Cond.static Lib.Math.min.name ∈ wsT := wsT_of (mC2 (List.mem_of_getElem? (i := 186) rfl)) rfl
theorem mW204 : Cond.initialized "java/lang/Math" ∈ wsT := wsT_of (mC1 (List.mem_of_getElem? (i := 12) rfl)) rfl
theorem mW205 : Cond.code Lib.Math.min.name Lib.Math.min.code 2 (some .int) ∈ wsT := wsT_of (mC2 (List.mem_of_getElem? (i := 187) rfl)) rfl
theorem mW206 : Cond.methodLink RX8 50 yX8_isTerm ∈ wsT := wsT_of (mC2 (List.mem_of_getElem? (i := 188) rfl)) rfl
theorem mW207 : Cond.static yX8_isTerm ∈ wsT := wsT_of (mC2 (List.mem_of_getElem? (i := 189) rfl)) rfl
theorem mW208 : Cond.code yX8_isTerm cX8_isTerm 4 (some .boolean) ∈ wsT := wsT_of (mC2 (List.mem_of_getElem? (i := 190) rfl)) rfl
theorem mW209 : Cond.constant RX8 240 (129600) ∈ wsT := wsT_of (mC2 (List.mem_of_getElem? (i := 191) rfl)) rfl
theorem mW210 : Cond.methodLink RX8 61 yX8_rowOf ∈ wsT := wsT_of (mC2 (List.mem_of_getElem? (i := 192) rfl)) rfl
theorem mW211 : Cond.static yX8_rowOf ∈ wsT := wsT_of (mC2 (List.mem_of_getElem? (i := 193) rfl)) rfl
theorem mW212 : Cond.code yX8_rowOf cX8_rowOf 2 (some .int) ∈ wsT := wsT_of (mC2 (List.mem_of_getElem? (i := 194) rfl)) rfl
theorem mW213 : Cond.methodLink RX8 64 yX6_write ∈ wsT := wsT_of (mC2 (List.mem_of_getElem? (i := 195) rfl)) rfl
theorem mW214 : Cond.instanceMethod yX6_write ∈ wsT := wsT_of (mC2 (List.mem_of_getElem? (i := 196) rfl)) rfl
theorem mW215 : Cond.selects RX6 yX6_write yX6_write ∈ wsT := wsT_of (mC2 (List.mem_of_getElem? (i := 197) rfl)) rfl
theorem mW216 : Cond.code yX6_write cX6_write 6 none ∈ wsT := wsT_of (mC2 (List.mem_of_getElem? (i := 198) rfl)) rfl
theorem mW217 : Cond.methodLink RL 22 yX9_term ∈ wsT := wsT_of (mC5 (List.mem_of_getElem? (i := 186) rfl)) rfl
theorem mW218 : Cond.instanceMethod yX9_term ∈ wsT := wsT_of (mC5 (List.mem_of_getElem? (i := 187) rfl)) rfl
theorem mW219 : Cond.selects RX9 yX9_term yX9_term ∈ wsT := wsT_of (mC5 (List.mem_of_getElem? (i := 188) rfl)) rfl
theorem mW220 : Cond.code yX9_term cX9_term 10 (some .boolean) ∈ wsT := wsT_of (mC5 (List.mem_of_getElem? (i := 189) rfl)) rfl
theorem mW221 : Cond.constant RX9 174 (129600) ∈ wsT := wsT_of (mC5 (List.mem_of_getElem? (i := 198) rfl)) rfl
theorem mW222 : Cond.methodLink RX9 171 yX9_placeWhy ∈ wsT := wsT_of (mC5 (List.mem_of_getElem? (i := 190) rfl)) rfl
theorem mW223 : Cond.instanceMethod yX9_placeWhy ∈ wsT := wsT_of (mC5 (List.mem_of_getElem? (i := 192) rfl)) rfl
theorem mW224 : Cond.selects RX9 yX9_placeWhy yX9_placeWhy ∈ wsT := wsT_of (List.mem_of_getElem? (l := lw_tbl) (i := 12) (by decide +kernel)) rfl
theorem mW225 : Cond.code yX9_placeWhy cX9_placeWhy 3 (some .int) ∈ wsT := wsT_of (mC5 (List.mem_of_getElem? (i := 193) rfl)) rfl
theorem mW226 : Cond.methodLink RX9 153 yX9_contractWhy ∈ wsT := wsT_of (mC5 (List.mem_of_getElem? (i := 194) rfl)) rfl
theorem mW227 : Cond.instanceMethod yX9_contractWhy ∈ wsT := wsT_of (mC5 (List.mem_of_getElem? (i := 196) rfl)) rfl
theorem mW228 : Cond.selects RX9 yX9_contractWhy yX9_contractWhy ∈ wsT := wsT_of (List.mem_of_getElem? (l := lw_tbl) (i := 13) (by decide +kernel)) rfl
theorem mW229 : Cond.code yX9_contractWhy cX9_contractWhy 2 (some .int) ∈ wsT := wsT_of (mC5 (List.mem_of_getElem? (i := 197) rfl)) rfl
theorem mW230 : Cond.methodLink RL 23 yX8_yields ∈ wsT := wsT_of (mC2 (List.mem_of_getElem? (i := 200) rfl)) rfl
theorem mW231 : Cond.instanceMethod yX8_yields ∈ wsT := wsT_of (mC2 (List.mem_of_getElem? (i := 201) rfl)) rfl
theorem mW232 : Cond.selects RX8 yX8_yields yX8_yields ∈ wsT := wsT_of (mC2 (List.mem_of_getElem? (i := 202) rfl)) rfl
theorem mW233 : Cond.code yX8_yields cX8_yields 5 (some .int) ∈ wsT := wsT_of (mC2 (List.mem_of_getElem? (i := 203) rfl)) rfl
theorem mW234 : Cond.fieldLink RX8 75 "LaytimeDesk$Terms" "yielding" "[I" ∈ wsT := wsT_of (mC1 (List.mem_of_getElem? (i := 50) rfl)) rfl
theorem mW235 : Cond.methodLink RX8 68 yX8_termReason ∈ wsT := wsT_of (mC2 (List.mem_of_getElem? (i := 204) rfl)) rfl
theorem mW236 : Cond.instanceMethod yX8_termReason ∈ wsT := wsT_of (mC2 (List.mem_of_getElem? (i := 206) rfl)) rfl
theorem mW237 : Cond.selects RX8 yX8_termReason yX8_termReason ∈ wsT := wsT_of (List.mem_of_getElem? (l := lw_tbl) (i := 3) (by decide +kernel)) rfl
theorem mW238 : Cond.code yX8_termReason cX8_termReason 4 (some .int) ∈ wsT := wsT_of (mC2 (List.mem_of_getElem? (i := 207) rfl)) rfl
theorem mW239 : Cond.fieldLink RX8 94 "LaytimeDesk$Terms" "kinds" "[I" ∈ wsT := wsT_of (mC1 (List.mem_of_getElem? (i := 39) rfl)) rfl
theorem mW240 : Cond.methodLink RX8 91 yX8_thingReason ∈ wsT := wsT_of (mC2 (List.mem_of_getElem? (i := 208) rfl)) rfl
theorem mW241 : Cond.instanceMethod yX8_thingReason ∈ wsT := wsT_of (mC2 (List.mem_of_getElem? (i := 210) rfl)) rfl
theorem mW242 : Cond.selects RX8 yX8_thingReason yX8_thingReason ∈ wsT := wsT_of (List.mem_of_getElem? (l := lw_tbl) (i := 4) (by decide +kernel)) rfl
theorem mW243 : Cond.code yX8_thingReason cX8_thingReason 4 (some .int) ∈ wsT := wsT_of (mC2 (List.mem_of_getElem? (i := 211) rfl)) rfl
theorem mW244 : Cond.methodLink RL 27 yX9_yields ∈ wsT := wsT_of (mC5 (List.mem_of_getElem? (i := 199) rfl)) rfl
theorem mW245 : Cond.instanceMethod yX9_yields ∈ wsT := wsT_of (mC5 (List.mem_of_getElem? (i := 200) rfl)) rfl
theorem mW246 : Cond.selects RX9 yX9_yields yX9_yields ∈ wsT := wsT_of (mC5 (List.mem_of_getElem? (i := 201) rfl)) rfl
theorem mW247 : Cond.code yX9_yields cX9_yields 6 (some .int) ∈ wsT := wsT_of (mC5 (List.mem_of_getElem? (i := 202) rfl)) rfl
theorem mW248 : Cond.methodLink RX9 175 yX9_termWhy ∈ wsT := wsT_of (mC5 (List.mem_of_getElem? (i := 203) rfl)) rfl
theorem mW249 : Cond.instanceMethod yX9_termWhy ∈ wsT := wsT_of (mC5 (List.mem_of_getElem? (i := 205) rfl)) rfl
theorem mW250 : Cond.selects RX9 yX9_termWhy yX9_termWhy ∈ wsT := wsT_of (List.mem_of_getElem? (l := lw_tbl) (i := 14) (by decide +kernel)) rfl
theorem mW251 : Cond.code yX9_termWhy cX9_termWhy 4 (some .int) ∈ wsT := wsT_of (mC5 (List.mem_of_getElem? (i := 206) rfl)) rfl
theorem mW252 : Cond.methodLink RL 28 yX8_amount ∈ wsT := wsT_of (mC2 (List.mem_of_getElem? (i := 212) rfl)) rfl
theorem mW253 : Cond.instanceMethod yX8_amount ∈ wsT := wsT_of (mC2 (List.mem_of_getElem? (i := 213) rfl)) rfl
theorem mW254 : Cond.selects RX8 yX8_amount yX8_amount ∈ wsT := wsT_of (mC2 (List.mem_of_getElem? (i := 214) rfl)) rfl
theorem mW255 : Cond.code yX8_amount cX8_amount 4 (some .boolean) ∈ wsT := wsT_of (mC2 (List.mem_of_getElem? (i := 215) rfl)) rfl
theorem mW256 : Cond.constant RX8 86 (-1000000) ∈ wsT := wsT_of (mC2 (List.mem_of_getElem? (i := 216) rfl)) rfl
theorem mW257 : Cond.constant RX8 87 (1000000) ∈ wsT := wsT_of (mC2 (List.mem_of_getElem? (i := 217) rfl)) rfl
theorem mW258 : Cond.fieldLink RX8 88 "LaytimeDesk$Terms" "amounts" "[I" ∈ wsT := wsT_of (mC1 (List.mem_of_getElem? (i := 53) rfl)) rfl
theorem mW259 : Cond.methodLink RL 32 yX9_amount ∈ wsT := wsT_of (mC5 (List.mem_of_getElem? (i := 207) rfl)) rfl
theorem mW260 : Cond.instanceMethod yX9_amount ∈ wsT := wsT_of (mC5 (List.mem_of_getElem? (i := 208) rfl)) rfl
theorem mW261 : Cond.selects RX9 yX9_amount yX9_amount ∈ wsT := wsT_of (mC5 (List.mem_of_getElem? (i := 209) rfl)) rfl
theorem mW262 : Cond.code yX9_amount cX9_amount 5 (some .boolean) ∈ wsT := wsT_of (mC5 (List.mem_of_getElem? (i := 210) rfl)) rfl
theorem mW263 : Cond.constant RX9 178 (-1000000) ∈ wsT := wsT_of (mC5 (List.mem_of_getElem? (i := 211) rfl)) rfl
theorem mW264 : Cond.constant RX9 179 (1000000) ∈ wsT := wsT_of (mC5 (List.mem_of_getElem? (i := 212) rfl)) rfl
theorem mW265 : Cond.methodLink RL 33 yX8_heading ∈ wsT := wsT_of (mC2 (List.mem_of_getElem? (i := 218) rfl)) rfl
theorem mW266 : Cond.instanceMethod yX8_heading ∈ wsT := wsT_of (mC2 (List.mem_of_getElem? (i := 219) rfl)) rfl
theorem mW267 : Cond.selects RX8 yX8_heading yX8_heading ∈ wsT := wsT_of (mC2 (List.mem_of_getElem? (i := 220) rfl)) rfl
theorem mW268 : Cond.code yX8_heading cX8_heading 4 (some .boolean) ∈ wsT := wsT_of (mC2 (List.mem_of_getElem? (i := 221) rfl)) rfl
theorem mW269 : Cond.methodLink RL 36 yX9_heading ∈ wsT := wsT_of (mC5 (List.mem_of_getElem? (i := 213) rfl)) rfl
theorem mW270 : Cond.instanceMethod yX9_heading ∈ wsT := wsT_of (mC5 (List.mem_of_getElem? (i := 214) rfl)) rfl
theorem mW271 : Cond.selects RX9 yX9_heading yX9_heading ∈ wsT := wsT_of (mC5 (List.mem_of_getElem? (i := 215) rfl)) rfl
theorem mW272 : Cond.code yX9_heading cX9_heading 5 (some .boolean) ∈ wsT := wsT_of (mC5 (List.mem_of_getElem? (i := 216) rfl)) rfl
theorem mW273 : Cond.methodLink RL 37 yX8_strike ∈ wsT := wsT_of (mC2 (List.mem_of_getElem? (i := 222) rfl)) rfl
theorem mW274 : Cond.instanceMethod yX8_strike ∈ wsT := wsT_of (mC2 (List.mem_of_getElem? (i := 223) rfl)) rfl
theorem mW275 : Cond.selects RX8 yX8_strike yX8_strike ∈ wsT := wsT_of (mC2 (List.mem_of_getElem? (i := 224) rfl)) rfl
theorem mW276 : Cond.code yX8_strike cX8_strike 3 (some .boolean) ∈ wsT := wsT_of (mC2 (List.mem_of_getElem? (i := 225) rfl)) rfl
theorem mW277 : Cond.methodLink RL 41 yX9_strike ∈ wsT := wsT_of (mC5 (List.mem_of_getElem? (i := 217) rfl)) rfl
theorem mW278 : Cond.instanceMethod yX9_strike ∈ wsT := wsT_of (mC5 (List.mem_of_getElem? (i := 218) rfl)) rfl
theorem mW279 : Cond.selects RX9 yX9_strike yX9_strike ∈ wsT := wsT_of (mC5 (List.mem_of_getElem? (i := 219) rfl)) rfl
theorem mW280 : Cond.code yX9_strike cX9_strike 4 (some .boolean) ∈ wsT := wsT_of (mC5 (List.mem_of_getElem? (i := 220) rfl)) rfl
theorem mW281 : Cond.methodLink RL 42 yX8_kind ∈ wsT := wsT_of (mC2 (List.mem_of_getElem? (i := 226) rfl)) rfl
theorem mW282 : Cond.instanceMethod yX8_kind ∈ wsT := wsT_of (mC2 (List.mem_of_getElem? (i := 227) rfl)) rfl
theorem mW283 : Cond.selects RX8 yX8_kind yX8_kind ∈ wsT := wsT_of (mC2 (List.mem_of_getElem? (i := 228) rfl)) rfl
theorem mW284 : Cond.code yX8_kind cX8_kind 3 (some .int) ∈ wsT := wsT_of (mC2 (List.mem_of_getElem? (i := 229) rfl)) rfl
theorem mW285 : Cond.methodLink RL 46 yX9_kind ∈ wsT := wsT_of (mC5 (List.mem_of_getElem? (i := 221) rfl)) rfl
theorem mW286 : Cond.instanceMethod yX9_kind ∈ wsT := wsT_of (mC5 (List.mem_of_getElem? (i := 222) rfl)) rfl
theorem mW287 : Cond.selects RX9 yX9_kind yX9_kind ∈ wsT := wsT_of (mC5 (List.mem_of_getElem? (i := 223) rfl)) rfl
theorem mW288 : Cond.code yX9_kind cX9_kind 5 (some .int) ∈ wsT := wsT_of (mC5 (List.mem_of_getElem? (i := 224) rfl)) rfl
theorem mW289 : Cond.methodLink RL 47 yX8_headed ∈ wsT := wsT_of (mC2 (List.mem_of_getElem? (i := 230) rfl)) rfl
theorem mW290 : Cond.instanceMethod yX8_headed ∈ wsT := wsT_of (mC2 (List.mem_of_getElem? (i := 231) rfl)) rfl
theorem mW291 : Cond.selects RX8 yX8_headed yX8_headed ∈ wsT := wsT_of (mC2 (List.mem_of_getElem? (i := 232) rfl)) rfl
theorem mW292 : Cond.code yX8_headed cX8_headed 4 (some .int) ∈ wsT := wsT_of (mC2 (List.mem_of_getElem? (i := 233) rfl)) rfl
theorem mW293 : Cond.fieldLink RX8 97 "LaytimeDesk$Terms" "firsts" "[I" ∈ wsT := wsT_of (mC1 (List.mem_of_getElem? (i := 45) rfl)) rfl
theorem mW294 : Cond.methodLink RL 50 yX9_headed ∈ wsT := wsT_of (mC5 (List.mem_of_getElem? (i := 225) rfl)) rfl
theorem mW295 : Cond.instanceMethod yX9_headed ∈ wsT := wsT_of (mC5 (List.mem_of_getElem? (i := 226) rfl)) rfl
theorem mW296 : Cond.selects RX9 yX9_headed yX9_headed ∈ wsT := wsT_of (mC5 (List.mem_of_getElem? (i := 227) rfl)) rfl
theorem mW297 : Cond.code yX9_headed cX9_headed 4 (some .int) ∈ wsT := wsT_of (mC5 (List.mem_of_getElem? (i := 228) rfl)) rfl
theorem mW298 : Cond.methodLink RL 51 yX8_span ∈ wsT := wsT_of (mC2 (List.mem_of_getElem? (i := 234) rfl)) rfl
theorem mW299 : Cond.instanceMethod yX8_span ∈ wsT := wsT_of (mC2 (List.mem_of_getElem? (i := 235) rfl)) rfl
theorem mW300 : Cond.selects RX8 yX8_span yX8_span ∈ wsT := wsT_of (mC2 (List.mem_of_getElem? (i := 236) rfl)) rfl
theorem mW301 : Cond.code yX8_span cX8_span 5 (some .int) ∈ wsT := wsT_of (mC2 (List.mem_of_getElem? (i := 237) rfl)) rfl
theorem mW302 : Cond.fieldLink RX8 100 "LaytimeDesk$Terms" "sorts" "[I" ∈ wsT := wsT_of (mC1 (List.mem_of_getElem? (i := 42) rfl)) rfl
theorem mW303 : Cond.fieldLink RX8 103 "LaytimeDesk$Terms" "seconds" "[I" ∈ wsT := wsT_of (mC1 (List.mem_of_getElem? (i := 48) rfl)) rfl
theorem mW304 : Cond.methodLink RL 54 yX9_span ∈ wsT := wsT_of (mC5 (List.mem_of_getElem? (i := 229) rfl)) rfl
theorem mW305 : Cond.instanceMethod yX9_span ∈ wsT := wsT_of (mC5 (List.mem_of_getElem? (i := 230) rfl)) rfl
theorem mW306 : Cond.selects RX9 yX9_span yX9_span ∈ wsT := wsT_of (mC5 (List.mem_of_getElem? (i := 231) rfl)) rfl
theorem mW307 : Cond.code yX9_span cX9_span 6 (some .int) ∈ wsT := wsT_of (mC5 (List.mem_of_getElem? (i := 232) rfl)) rfl
theorem mW308 : Cond.methodLink RL 55 yX8_port ∈ wsT := wsT_of (mC2 (List.mem_of_getElem? (i := 238) rfl)) rfl
theorem mW309 : Cond.instanceMethod yX8_port ∈ wsT := wsT_of (mC2 (List.mem_of_getElem? (i := 239) rfl)) rfl
theorem mW310 : Cond.selects RX8 yX8_port yX8_port ∈ wsT := wsT_of (mC3 (List.mem_of_getElem? (i := 0) rfl)) rfl
theorem mW311 : Cond.code yX8_port cX8_port 5 (some .boolean) ∈ wsT := wsT_of (mC3 (List.mem_of_getElem? (i := 1) rfl)) rfl
theorem mW312 : Cond.methodLink RX8 110 yX8_leave ∈ wsT := wsT_of (mC3 (List.mem_of_getElem? (i := 2) rfl)) rfl
theorem mW313 : Cond.instanceMethod yX8_leave ∈ wsT := wsT_of (mC3 (List.mem_of_getElem? (i := 4) rfl)) rfl
theorem mW314 : Cond.selects RX8 yX8_leave yX8_leave ∈ wsT := wsT_of (List.mem_of_getElem? (l := lw_tbl) (i := 5) (by decide +kernel)) rfl
theorem mW315 : Cond.code yX8_leave cX8_leave 2 none ∈ wsT := wsT_of (mC3 (List.mem_of_getElem? (i := 5) rfl)) rfl
theorem mW316 : Cond.fieldLink RX8 136 "LaytimeDesk$Book" "events" "LLaytimeDesk$Events;" ∈ wsT := wsT_of (mC1 (List.mem_of_getElem? (i := 183) rfl)) rfl
theorem mW317 : Cond.fieldLink RX8 211 "LaytimeDesk$Book" "grouped" "I" ∈ wsT := wsT_of (mC1 (List.mem_of_getElem? (i := 190) rfl)) rfl
theorem mW318 : Cond.methodLink RX8 155 yX2_remove ∈ wsT := wsT_of (mC3 (List.mem_of_getElem? (i := 6) rfl)) rfl
theorem mW319 : Cond.instanceMethod yX2_remove ∈ wsT := wsT_of (mC3 (List.mem_of_getElem? (i := 7) rfl)) rfl
theorem mW320 : Cond.selects RX2 yX2_remove yX2_remove ∈ wsT := wsT_of (mC3 (List.mem_of_getElem? (i := 8) rfl)) rfl
theorem mW321 : Cond.code yX2_remove cX2_remove 6 (some .int) ∈ wsT := wsT_of (mC3 (List.mem_of_getElem? (i := 9) rfl)) rfl
theorem mW322 : Cond.fieldLink RX2 27 "LaytimeDesk$Events" "many" "I" ∈ wsT := wsT_of (mC1 (List.mem_of_getElem? (i := 81) rfl)) rfl
theorem mW323 : Cond.methodLink RX2 31 yX2_indexOf ∈ wsT := wsT_of (mC3 (List.mem_of_getElem? (i := 10) rfl)) rfl
theorem mW324 : Cond.instanceMethod yX2_indexOf ∈ wsT := wsT_of (mC3 (List.mem_of_getElem? (i := 11) rfl)) rfl
theorem mW325 : Cond.selects RX2 yX2_indexOf yX2_indexOf ∈ wsT := wsT_of (mC3 (List.mem_of_getElem? (i := 12) rfl)) rfl
theorem mW326 : Cond.code yX2_indexOf cX2_indexOf 8 (some .int) ∈ wsT := wsT_of (mC3 (List.mem_of_getElem? (i := 13) rfl)) rfl
theorem mW327 : Cond.methodLink RX2 23 yX2_keyOf ∈ wsT := wsT_of (mC3 (List.mem_of_getElem? (i := 14) rfl)) rfl
theorem mW328 : Cond.static yX2_keyOf ∈ wsT := wsT_of (mC3 (List.mem_of_getElem? (i := 15) rfl)) rfl
theorem mW329 : Cond.code yX2_keyOf cX2_keyOf 3 (some .int) ∈ wsT := wsT_of (mC3 (List.mem_of_getElem? (i := 16) rfl)) rfl
theorem mW330 : Cond.constant RX2 18 (129600) ∈ wsT := wsT_of (mC3 (List.mem_of_getElem? (i := 17) rfl)) rfl
theorem mW331 : Cond.static yX8_slide ∈ wsT := wsT_of (mC3 (List.mem_of_getElem? (i := 20) rfl)) rfl
theorem mW332 : Cond.code yX8_slide cX8_slide 5 none ∈ wsT := wsT_of (mC3 (List.mem_of_getElem? (i := 21) rfl)) rfl
theorem mW333 : Cond.methodLink RX8 358 arraycopyName ∈ wsT := wsT_of (mC3 (List.mem_of_getElem? (i := 22) rfl)) rfl
theorem mW334 : Cond.native arraycopyName ∈ wsT := wsT_of (mC3 (List.mem_of_getElem? (i := 24) rfl)) rfl
theorem mW335 : Cond.static arraycopyName ∈ wsT := wsT_of (mC3 (List.mem_of_getElem? (i := 23) rfl)) rfl
theorem mW336 : Cond.initialized "java/lang/System" ∈ wsT := wsT_of (mC1 (List.mem_of_getElem? (i := 13) rfl)) rfl
theorem mW337 : Cond.methodLink RX8 114 yX0_portAt ∈ wsT := wsT_of (mC3 (List.mem_of_getElem? (i := 25) rfl)) rfl
theorem mW338 : Cond.instanceMethod yX0_portAt ∈ wsT := wsT_of (mC3 (List.mem_of_getElem? (i := 26) rfl)) rfl
theorem mW339 : Cond.selects RX0 yX0_portAt yX0_portAt ∈ wsT := wsT_of (mC3 (List.mem_of_getElem? (i := 27) rfl)) rfl
theorem mW340 : Cond.code yX0_portAt cX0_portAt 2 (some (.object "LaytimeDesk$Port")) ∈ wsT := wsT_of (mC3 (List.mem_of_getElem? (i := 28) rfl)) rfl
theorem mW341 : Cond.methodLink RX8 118 yX4_open ∈ wsT := wsT_of (mC3 (List.mem_of_getElem? (i := 29) rfl)) rfl
theorem mW342 : Cond.instanceMethod yX4_open ∈ wsT := wsT_of (mC3 (List.mem_of_getElem? (i := 30) rfl)) rfl
theorem mW343 : Cond.selects RX4 yX4_open yX4_open ∈ wsT := wsT_of (mC3 (List.mem_of_getElem? (i := 31) rfl)) rfl
theorem mW344 : Cond.code yX4_open cX4_open 3 none ∈ wsT := wsT_of (mC3 (List.mem_of_getElem? (i := 32) rfl)) rfl
theorem mW345 : Cond.fieldLink RX4 24 "LaytimeDesk$Port" "days" "I" ∈ wsT := wsT_of (mC1 (List.mem_of_getElem? (i := 128) rfl)) rfl
theorem mW346 : Cond.fieldLink RX4 28 "LaytimeDesk$Port" "contractNumber" "I" ∈ wsT := wsT_of (mC1 (List.mem_of_getElem? (i := 130) rfl)) rfl
theorem mW347 : Cond.fieldLink RX4 31 "LaytimeDesk$Port" "officeFrom" "I" ∈ wsT := wsT_of (mC1 (List.mem_of_getElem? (i := 134) rfl)) rfl
theorem mW348 : Cond.fieldLink RX4 34 "LaytimeDesk$Port" "officeTo" "I" ∈ wsT := wsT_of (mC1 (List.mem_of_getElem? (i := 136) rfl)) rfl
theorem mW349 : Cond.fieldLink RX4 37 "LaytimeDesk$Port" "graceLong" "I" ∈ wsT := wsT_of (mC1 (List.mem_of_getElem? (i := 138) rfl)) rfl
theorem mW350 : Cond.fieldLink RX4 40 "LaytimeDesk$Port" "shift" "I" ∈ wsT := wsT_of (mC1 (List.mem_of_getElem? (i := 141) rfl)) rfl
theorem mW351 : Cond.fieldLink RX4 43 "LaytimeDesk$Port" "thousandths" "J" ∈ wsT := wsT_of (mC1 (List.mem_of_getElem? (i := 144) rfl)) rfl
theorem mW352 : Cond.fieldLink RX4 47 "LaytimeDesk$Port" "owedRate" "J" ∈ wsT := wsT_of (mC1 (List.mem_of_getElem? (i := 147) rfl)) rfl
theorem mW353 : Cond.fieldLink RX4 50 "LaytimeDesk$Port" "savedRate" "J" ∈ wsT := wsT_of (mC1 (List.mem_of_getElem? (i := 150) rfl)) rfl
theorem mW354 : Cond.methodLink RX4 18 yJ7_fill_53178 ∈ wsT := wsT_of (mC3 (List.mem_of_getElem? (i := 33) rfl)) rfl
theorem mW355 : Cond.methodLink RL 58 yX9_port ∈ wsT := wsT_of (mC5 (List.mem_of_getElem? (i := 233) rfl)) rfl
theorem mW356 : Cond.instanceMethod yX9_port ∈ wsT := wsT_of (mC5 (List.mem_of_getElem? (i := 234) rfl)) rfl
theorem mW357 : Cond.selects RX9 yX9_port yX9_port ∈ wsT := wsT_of (mC5 (List.mem_of_getElem? (i := 235) rfl)) rfl
theorem mW358 : Cond.code yX9_port cX9_port 6 (some .boolean) ∈ wsT := wsT_of (mC5 (List.mem_of_getElem? (i := 236) rfl)) rfl
theorem mW359 : Cond.constantLong RX9 187 (1440) ∈ wsT := wsT_of (mC6 (List.mem_of_getElem? (i := 1) rfl)) rfl
theorem mW360 : Cond.methodLink RX9 183 yX9_clear ∈ wsT := wsT_of (mC5 (List.mem_of_getElem? (i := 237) rfl)) rfl
theorem mW361 : Cond.instanceMethod yX9_clear ∈ wsT := wsT_of (mC5 (List.mem_of_getElem? (i := 239) rfl)) rfl
theorem mW362 : Cond.selects RX9 yX9_clear yX9_clear ∈ wsT := wsT_of (List.mem_of_getElem? (l := lw_tbl) (i := 15) (by decide +kernel)) rfl
theorem mW363 : Cond.code yX9_clear cX9_clear 7 (some .int) ∈ wsT := wsT_of (mC6 (List.mem_of_getElem? (i := 0) rfl)) rfl
theorem mW364 : Cond.fieldLink RX9 180 "LaytimeDeskModel" "events" "I" ∈ wsT := wsT_of (mC4 (List.mem_of_getElem? (i := 213) rfl)) rfl
theorem mW365 : Cond.methodLink RX9 189 yX9_part ∈ wsT := wsT_of (mC6 (List.mem_of_getElem? (i := 2) rfl)) rfl
theorem mW366 : Cond.instanceMethod yX9_part ∈ wsT := wsT_of (mC6 (List.mem_of_getElem? (i := 4) rfl)) rfl
theorem mW367 : Cond.selects RX9 yX9_part yX9_part ∈ wsT := wsT_of (List.mem_of_getElem? (l := lw_tbl) (i := 16) (by decide +kernel)) rfl
theorem mW368 : Cond.code yX9_part cX9_part 3 none ∈ wsT := wsT_of (mC6 (List.mem_of_getElem? (i := 5) rfl)) rfl
theorem mW369 : Cond.constantLong RX9 193 (-1) ∈ wsT := wsT_of (mC6 (List.mem_of_getElem? (i := 6) rfl)) rfl
theorem mW370 : Cond.methodLink RL 59 yX8_close ∈ wsT := wsT_of (mC3 (List.mem_of_getElem? (i := 34) rfl)) rfl
theorem mW371 : Cond.instanceMethod yX8_close ∈ wsT := wsT_of (mC3 (List.mem_of_getElem? (i := 35) rfl)) rfl
theorem mW372 : Cond.selects RX8 yX8_close yX8_close ∈ wsT := wsT_of (mC3 (List.mem_of_getElem? (i := 36) rfl)) rfl
theorem mW373 : Cond.code yX8_close cX8_close 2 (some .boolean) ∈ wsT := wsT_of (mC3 (List.mem_of_getElem? (i := 37) rfl)) rfl
theorem mW374 : Cond.methodLink RX8 124 yX8_portReason ∈ wsT := wsT_of (mC3 (List.mem_of_getElem? (i := 38) rfl)) rfl
theorem mW375 : Cond.instanceMethod yX8_portReason ∈ wsT := wsT_of (mC3 (List.mem_of_getElem? (i := 40) rfl)) rfl
theorem mW376 : Cond.selects RX8 yX8_portReason yX8_portReason ∈ wsT := wsT_of (List.mem_of_getElem? (l := lw_tbl) (i := 6) (by decide +kernel)) rfl
theorem mW377 : Cond.code yX8_portReason cX8_portReason 2 (some .int) ∈ wsT := wsT_of (mC3 (List.mem_of_getElem? (i := 41) rfl)) rfl
theorem mW378 : Cond.fieldLink RX8 167 "LaytimeDesk$Port" "days" "I" ∈ wsT := wsT_of (mC1 (List.mem_of_getElem? (i := 129) rfl)) rfl
theorem mW379 : Cond.methodLink RX8 127 yX4_shut ∈ wsT := wsT_of (mC3 (List.mem_of_getElem? (i := 42) rfl)) rfl
theorem mW380 : Cond.instanceMethod yX4_shut ∈ wsT := wsT_of (mC3 (List.mem_of_getElem? (i := 43) rfl)) rfl
theorem mW381 : Cond.selects RX4 yX4_shut yX4_shut ∈ wsT := wsT_of (mC3 (List.mem_of_getElem? (i := 44) rfl)) rfl
theorem mW382 : Cond.code yX4_shut cX4_shut 1 none ∈ wsT := wsT_of (mC3 (List.mem_of_getElem? (i := 45) rfl)) rfl
theorem mW383 : Cond.methodLink RL 63 yX9_close ∈ wsT := wsT_of (mC6 (List.mem_of_getElem? (i := 7) rfl)) rfl
theorem mW384 : Cond.instanceMethod yX9_close ∈ wsT := wsT_of (mC6 (List.mem_of_getElem? (i := 8) rfl)) rfl
theorem mW385 : Cond.selects RX9 yX9_close yX9_close ∈ wsT := wsT_of (mC6 (List.mem_of_getElem? (i := 9) rfl)) rfl
theorem mW386 : Cond.code yX9_close cX9_close 3 (some .boolean) ∈ wsT := wsT_of (mC6 (List.mem_of_getElem? (i := 10) rfl)) rfl
theorem mW387 : Cond.methodLink RX9 165 yX9_portWhy ∈ wsT := wsT_of (mC6 (List.mem_of_getElem? (i := 11) rfl)) rfl
theorem mW388 : Cond.instanceMethod yX9_portWhy ∈ wsT := wsT_of (mC6 (List.mem_of_getElem? (i := 13) rfl)) rfl
theorem mW389 : Cond.selects RX9 yX9_portWhy yX9_portWhy ∈ wsT := wsT_of (List.mem_of_getElem? (l := lw_tbl) (i := 17) (by decide +kernel)) rfl
theorem mW390 : Cond.code yX9_portWhy cX9_portWhy 2 (some .int) ∈ wsT := wsT_of (mC6 (List.mem_of_getElem? (i := 14) rfl)) rfl
theorem mW391 : Cond.methodLink RX9 157 yX9_isOpen ∈ wsT := wsT_of (mC6 (List.mem_of_getElem? (i := 15) rfl)) rfl
theorem mW392 : Cond.instanceMethod yX9_isOpen ∈ wsT := wsT_of (mC6 (List.mem_of_getElem? (i := 17) rfl)) rfl
theorem mW393 : Cond.selects RX9 yX9_isOpen yX9_isOpen ∈ wsT := wsT_of (List.mem_of_getElem? (l := lw_tbl) (i := 18) (by decide +kernel)) rfl
theorem mW394 : Cond.code yX9_isOpen cX9_isOpen 2 (some .boolean) ∈ wsT := wsT_of (mC6 (List.mem_of_getElem? (i := 18) rfl)) rfl
theorem mW395 : Cond.methodLink RL 64 yX8_event ∈ wsT := wsT_of (mC3 (List.mem_of_getElem? (i := 46) rfl)) rfl
theorem mW396 : Cond.instanceMethod yX8_event ∈ wsT := wsT_of (mC3 (List.mem_of_getElem? (i := 47) rfl)) rfl
theorem mW397 : Cond.selects RX8 yX8_event yX8_event ∈ wsT := wsT_of (mC3 (List.mem_of_getElem? (i := 48) rfl)) rfl
theorem mW398 : Cond.code yX8_event cX8_event 5 (some .boolean) ∈ wsT := wsT_of (mC3 (List.mem_of_getElem? (i := 49) rfl)) rfl
theorem mW399 : Cond.fieldLink RX8 140 "LaytimeDesk$Events" "many" "I" ∈ wsT := wsT_of (mC1 (List.mem_of_getElem? (i := 82) rfl)) rfl
theorem mW400 : Cond.methodLink RX8 130 yX8_minuteReason ∈ wsT := wsT_of (mC3 (List.mem_of_getElem? (i := 50) rfl)) rfl
theorem mW401 : Cond.instanceMethod yX8_minuteReason ∈ wsT := wsT_of (mC3 (List.mem_of_getElem? (i := 52) rfl)) rfl
theorem mW402 : Cond.selects RX8 yX8_minuteReason yX8_minuteReason ∈ wsT := wsT_of (List.mem_of_getElem? (l := lw_tbl) (i := 7) (by decide +kernel)) rfl
theorem mW403 : Cond.code yX8_minuteReason cX8_minuteReason 4 (some .int) ∈ wsT := wsT_of (mC3 (List.mem_of_getElem? (i := 53) rfl)) rfl
theorem mW404 : Cond.constant RX8 354 (129599) ∈ wsT := wsT_of (mC3 (List.mem_of_getElem? (i := 54) rfl)) rfl
theorem mW405 : Cond.methodLink RX8 355 yX4_logLong ∈ wsT := wsT_of (mC3 (List.mem_of_getElem? (i := 55) rfl)) rfl
theorem mW406 : Cond.instanceMethod yX4_logLong ∈ wsT := wsT_of (mC3 (List.mem_of_getElem? (i := 56) rfl)) rfl
theorem mW407 : Cond.selects RX4 yX4_logLong yX4_logLong ∈ wsT := wsT_of (mC3 (List.mem_of_getElem? (i := 57) rfl)) rfl
theorem mW408 : Cond.code yX4_logLong cX4_logLong 1 (some .int) ∈ wsT := wsT_of (mC3 (List.mem_of_getElem? (i := 58) rfl)) rfl
theorem mW409 : Cond.methodLink RX8 133 yX4_knows ∈ wsT := wsT_of (mC3 (List.mem_of_getElem? (i := 59) rfl)) rfl
theorem mW410 : Cond.instanceMethod yX4_knows ∈ wsT := wsT_of (mC3 (List.mem_of_getElem? (i := 60) rfl)) rfl
theorem mW411 : Cond.selects RX4 yX4_knows yX4_knows ∈ wsT := wsT_of (mC3 (List.mem_of_getElem? (i := 61) rfl)) rfl
theorem mW412 : Cond.code yX4_knows cX4_knows 2 (some .boolean) ∈ wsT := wsT_of (mC3 (List.mem_of_getElem? (i := 62) rfl)) rfl
theorem mW413 : Cond.methodLink RX8 145 yX2_add ∈ wsT := wsT_of (mC3 (List.mem_of_getElem? (i := 64) rfl)) rfl
theorem mW414 : Cond.instanceMethod yX2_add ∈ wsT := wsT_of (mC3 (List.mem_of_getElem? (i := 65) rfl)) rfl
theorem mW415 : Cond.selects RX2 yX2_add yX2_add ∈ wsT := wsT_of (mC3 (List.mem_of_getElem? (i := 66) rfl)) rfl
theorem mW416 : Cond.code yX2_add cX2_add 5 none ∈ wsT := wsT_of (mC3 (List.mem_of_getElem? (i := 67) rfl)) rfl
theorem mW417 : Cond.methodLink RL 67 yX9_event ∈ wsT := wsT_of (mC6 (List.mem_of_getElem? (i := 19) rfl)) rfl
theorem mW418 : Cond.instanceMethod yX9_event ∈ wsT := wsT_of (mC6 (List.mem_of_getElem? (i := 20) rfl)) rfl
theorem mW419 : Cond.selects RX9 yX9_event yX9_event ∈ wsT := wsT_of (mC6 (List.mem_of_getElem? (i := 21) rfl)) rfl
theorem mW420 : Cond.code yX9_event cX9_event 5 (some .boolean) ∈ wsT := wsT_of (mC6 (List.mem_of_getElem? (i := 22) rfl)) rfl
theorem mW421 : Cond.methodLink RX9 195 yX9_minuteWhy ∈ wsT := wsT_of (mC6 (List.mem_of_getElem? (i := 23) rfl)) rfl
theorem mW422 : Cond.instanceMethod yX9_minuteWhy ∈ wsT := wsT_of (mC6 (List.mem_of_getElem? (i := 25) rfl)) rfl
theorem mW423 : Cond.selects RX9 yX9_minuteWhy yX9_minuteWhy ∈ wsT := wsT_of (List.mem_of_getElem? (l := lw_tbl) (i := 19) (by decide +kernel)) rfl
theorem mW424 : Cond.code yX9_minuteWhy cX9_minuteWhy 4 (some .int) ∈ wsT := wsT_of (mC6 (List.mem_of_getElem? (i := 26) rfl)) rfl
theorem mW425 : Cond.methodLink RX9 161 yX9_of ∈ wsT := wsT_of (mC6 (List.mem_of_getElem? (i := 27) rfl)) rfl
theorem mW426 : Cond.instanceMethod yX9_of ∈ wsT := wsT_of (mC6 (List.mem_of_getElem? (i := 29) rfl)) rfl
theorem mW427 : Cond.selects RX9 yX9_of yX9_of ∈ wsT := wsT_of (List.mem_of_getElem? (l := lw_tbl) (i := 20) (by decide +kernel)) rfl
theorem mW428 : Cond.code yX9_of cX9_of 3 (some .int) ∈ wsT := wsT_of (mC6 (List.mem_of_getElem? (i := 30) rfl)) rfl
theorem mW429 : Cond.methodLink RX9 198 yX9_isKnown ∈ wsT := wsT_of (mC6 (List.mem_of_getElem? (i := 31) rfl)) rfl
theorem mW430 : Cond.instanceMethod yX9_isKnown ∈ wsT := wsT_of (mC6 (List.mem_of_getElem? (i := 33) rfl)) rfl
theorem mW431 : Cond.selects RX9 yX9_isKnown yX9_isKnown ∈ wsT := wsT_of (List.mem_of_getElem? (l := lw_tbl) (i := 21) (by decide +kernel)) rfl
theorem mW432 : Cond.code yX9_isKnown cX9_isKnown 3 (some .boolean) ∈ wsT := wsT_of (mC6 (List.mem_of_getElem? (i := 34) rfl)) rfl
theorem mW433 : Cond.methodLink RX9 202 yX9_insert ∈ wsT := wsT_of (mC6 (List.mem_of_getElem? (i := 35) rfl)) rfl
theorem mW434 : Cond.instanceMethod yX9_insert ∈ wsT := wsT_of (mC6 (List.mem_of_getElem? (i := 37) rfl)) rfl
theorem mW435 : Cond.selects RX9 yX9_insert yX9_insert ∈ wsT := wsT_of (List.mem_of_getElem? (l := lw_tbl) (i := 22) (by decide +kernel)) rfl
theorem mW436 : Cond.code yX9_insert cX9_insert 5 none ∈ wsT := wsT_of (mC6 (List.mem_of_getElem? (i := 38) rfl)) rfl
theorem mW437 : Cond.methodLink RL 68 yX8_day ∈ wsT := wsT_of (mC3 (List.mem_of_getElem? (i := 69) rfl)) rfl
theorem mW438 : Cond.instanceMethod yX8_day ∈ wsT := wsT_of (mC3 (List.mem_of_getElem? (i := 70) rfl)) rfl
theorem mW439 : Cond.selects RX8 yX8_day yX8_day ∈ wsT := wsT_of (mC3 (List.mem_of_getElem? (i := 71) rfl)) rfl
theorem mW440 : Cond.code yX8_day cX8_day 4 (some .boolean) ∈ wsT := wsT_of (mC3 (List.mem_of_getElem? (i := 72) rfl)) rfl
theorem mW441 : Cond.fieldLink RX8 152 "LaytimeDesk$Port" "known" "[I" ∈ wsT := wsT_of (mC1 (List.mem_of_getElem? (i := 124) rfl)) rfl
theorem mW442 : Cond.methodLink RX8 149 yX8_dayReason ∈ wsT := wsT_of (mC3 (List.mem_of_getElem? (i := 73) rfl)) rfl
theorem mW443 : Cond.instanceMethod yX8_dayReason ∈ wsT := wsT_of (mC3 (List.mem_of_getElem? (i := 75) rfl)) rfl
theorem mW444 : Cond.selects RX8 yX8_dayReason yX8_dayReason ∈ wsT := wsT_of (List.mem_of_getElem? (l := lw_tbl) (i := 8) (by decide +kernel)) rfl
theorem mW445 : Cond.code yX8_dayReason cX8_dayReason 4 (some .int) ∈ wsT := wsT_of (mC3 (List.mem_of_getElem? (i := 76) rfl)) rfl
theorem mW446 : Cond.methodLink RL 72 yX9_day ∈ wsT := wsT_of (mC6 (List.mem_of_getElem? (i := 39) rfl)) rfl
theorem mW447 : Cond.instanceMethod yX9_day ∈ wsT := wsT_of (mC6 (List.mem_of_getElem? (i := 40) rfl)) rfl
theorem mW448 : Cond.selects RX9 yX9_day yX9_day ∈ wsT := wsT_of (mC6 (List.mem_of_getElem? (i := 41) rfl)) rfl
theorem mW449 : Cond.code yX9_day cX9_day 5 (some .boolean) ∈ wsT := wsT_of (mC6 (List.mem_of_getElem? (i := 42) rfl)) rfl
theorem mW450 : Cond.methodLink RX9 206 yX9_dayWhy ∈ wsT := wsT_of (mC6 (List.mem_of_getElem? (i := 43) rfl)) rfl
theorem mW451 : Cond.instanceMethod yX9_dayWhy ∈ wsT := wsT_of (mC6 (List.mem_of_getElem? (i := 45) rfl)) rfl
theorem mW452 : Cond.selects RX9 yX9_dayWhy yX9_dayWhy ∈ wsT := wsT_of (List.mem_of_getElem? (l := lw_tbl) (i := 23) (by decide +kernel)) rfl
theorem mW453 : Cond.code yX9_dayWhy cX9_dayWhy 4 (some .int) ∈ wsT := wsT_of (mC6 (List.mem_of_getElem? (i := 46) rfl)) rfl
theorem mW454 : Cond.methodLink RL 73 yX8_tear ∈ wsT := wsT_of (mC3 (List.mem_of_getElem? (i := 77) rfl)) rfl
theorem mW455 : Cond.instanceMethod yX8_tear ∈ wsT := wsT_of (mC3 (List.mem_of_getElem? (i := 78) rfl)) rfl
theorem mW456 : Cond.selects RX8 yX8_tear yX8_tear ∈ wsT := wsT_of (mC3 (List.mem_of_getElem? (i := 79) rfl)) rfl
theorem mW457 : Cond.code yX8_tear cX8_tear 6 (some .int) ∈ wsT := wsT_of (mC3 (List.mem_of_getElem? (i := 80) rfl)) rfl
theorem mW458 : Cond.methodLink RX8 159 yX8_thereReason ∈ wsT := wsT_of (mC3 (List.mem_of_getElem? (i := 81) rfl)) rfl
theorem mW459 : Cond.instanceMethod yX8_thereReason ∈ wsT := wsT_of (mC3 (List.mem_of_getElem? (i := 83) rfl)) rfl
theorem mW460 : Cond.selects RX8 yX8_thereReason yX8_thereReason ∈ wsT := wsT_of (List.mem_of_getElem? (l := lw_tbl) (i := 9) (by decide +kernel)) rfl
theorem mW461 : Cond.code yX8_thereReason cX8_thereReason 4 (some .int) ∈ wsT := wsT_of (mC3 (List.mem_of_getElem? (i := 84) rfl)) rfl
theorem mW462 : Cond.methodLink RL 76 yX9_tear ∈ wsT := wsT_of (mC6 (List.mem_of_getElem? (i := 47) rfl)) rfl
theorem mW463 : Cond.instanceMethod yX9_tear ∈ wsT := wsT_of (mC6 (List.mem_of_getElem? (i := 48) rfl)) rfl
theorem mW464 : Cond.selects RX9 yX9_tear yX9_tear ∈ wsT := wsT_of (mC6 (List.mem_of_getElem? (i := 49) rfl)) rfl
theorem mW465 : Cond.code yX9_tear cX9_tear 5 (some .int) ∈ wsT := wsT_of (mC6 (List.mem_of_getElem? (i := 50) rfl)) rfl
theorem mW466 : Cond.methodLink RL 77 yX8_copy ∈ wsT := wsT_of (mC3 (List.mem_of_getElem? (i := 85) rfl)) rfl
theorem mW467 : Cond.instanceMethod yX8_copy ∈ wsT := wsT_of (mC3 (List.mem_of_getElem? (i := 86) rfl)) rfl
theorem mW468 : Cond.selects RX8 yX8_copy yX8_copy ∈ wsT := wsT_of (mC3 (List.mem_of_getElem? (i := 87) rfl)) rfl
theorem mW469 : Cond.code yX8_copy cX8_copy 9 (some .int) ∈ wsT := wsT_of (mC3 (List.mem_of_getElem? (i := 88) rfl)) rfl
theorem mW470 : Cond.methodLink RX8 170 yX8_daysThatFit ∈ wsT := wsT_of (mC3 (List.mem_of_getElem? (i := 89) rfl)) rfl
theorem mW471 : Cond.instanceMethod yX8_daysThatFit ∈ wsT := wsT_of (mC3 (List.mem_of_getElem? (i := 91) rfl)) rfl
theorem mW472 : Cond.selects RX8 yX8_daysThatFit yX8_daysThatFit ∈ wsT := wsT_of (List.mem_of_getElem? (l := lw_tbl) (i := 10) (by decide +kernel)) rfl
theorem mW473 : Cond.code yX8_daysThatFit cX8_daysThatFit 8 (some .int) ∈ wsT := wsT_of (mC3 (List.mem_of_getElem? (i := 92) rfl)) rfl
theorem mW474 : Cond.methodLink RX8 241 yX2_manyIn ∈ wsT := wsT_of (mC3 (List.mem_of_getElem? (i := 93) rfl)) rfl
theorem mW475 : Cond.instanceMethod yX2_manyIn ∈ wsT := wsT_of (mC3 (List.mem_of_getElem? (i := 94) rfl)) rfl
theorem mW476 : Cond.selects RX2 yX2_manyIn yX2_manyIn ∈ wsT := wsT_of (mC3 (List.mem_of_getElem? (i := 95) rfl)) rfl
theorem mW477 : Cond.code yX2_manyIn cX2_manyIn 4 (some .int) ∈ wsT := wsT_of (mC3 (List.mem_of_getElem? (i := 96) rfl)) rfl
theorem mW478 : Cond.methodLink RX8 174 yX2_copyRange ∈ wsT := wsT_of (mC3 (List.mem_of_getElem? (i := 97) rfl)) rfl
theorem mW479 : Cond.instanceMethod yX2_copyRange ∈ wsT := wsT_of (mC3 (List.mem_of_getElem? (i := 98) rfl)) rfl
theorem mW480 : Cond.selects RX2 yX2_copyRange yX2_copyRange ∈ wsT := wsT_of (mC3 (List.mem_of_getElem? (i := 99) rfl)) rfl
theorem mW481 : Cond.code yX2_copyRange cX2_copyRange 11 none ∈ wsT := wsT_of (mC3 (List.mem_of_getElem? (i := 100) rfl)) rfl
theorem mW482 : Cond.methodLink RX2 43 yX2_manyIn ∈ wsT := wsT_of (mC3 (List.mem_of_getElem? (i := 101) rfl)) rfl
theorem mW483 : Cond.methodLink RX2 46 yX2_remove ∈ wsT := wsT_of (mC3 (List.mem_of_getElem? (i := 102) rfl)) rfl
theorem mW484 : Cond.methodLink RX8 177 yX8_slide ∈ wsT := wsT_of (mC3 (List.mem_of_getElem? (i := 103) rfl)) rfl
theorem mW485 : Cond.methodLink RL 81 yX9_copy ∈ wsT := wsT_of (mC6 (List.mem_of_getElem? (i := 51) rfl)) rfl
theorem mW486 : Cond.instanceMethod yX9_copy ∈ wsT := wsT_of (mC6 (List.mem_of_getElem? (i := 52) rfl)) rfl
theorem mW487 : Cond.selects RX9 yX9_copy yX9_copy ∈ wsT := wsT_of (mC6 (List.mem_of_getElem? (i := 53) rfl)) rfl
theorem mW488 : Cond.code yX9_copy cX9_copy 16 (some .int) ∈ wsT := wsT_of (mC6 (List.mem_of_getElem? (i := 54) rfl)) rfl
theorem mW489 : Cond.methodLink RX9 209 yX9_lesser ∈ wsT := wsT_of (mC6 (List.mem_of_getElem? (i := 55) rfl)) rfl
theorem mW490 : Cond.instanceMethod yX9_lesser ∈ wsT := wsT_of (mC6 (List.mem_of_getElem? (i := 57) rfl)) rfl
theorem mW491 : Cond.selects RX9 yX9_lesser yX9_lesser ∈ wsT := wsT_of (List.mem_of_getElem? (l := lw_tbl) (i := 24) (by decide +kernel)) rfl
theorem mW492 : Cond.code yX9_lesser cX9_lesser 3 (some .int) ∈ wsT := wsT_of (mC6 (List.mem_of_getElem? (i := 58) rfl)) rfl
theorem mW493 : Cond.methodLink RL 82 yX8_free ∈ wsT := wsT_of (mC3 (List.mem_of_getElem? (i := 104) rfl)) rfl
theorem mW494 : Cond.instanceMethod yX8_free ∈ wsT := wsT_of (mC3 (List.mem_of_getElem? (i := 105) rfl)) rfl
theorem mW495 : Cond.selects RX8 yX8_free yX8_free ∈ wsT := wsT_of (mC3 (List.mem_of_getElem? (i := 106) rfl)) rfl
theorem mW496 : Cond.code yX8_free cX8_free 5 (some .boolean) ∈ wsT := wsT_of (mC3 (List.mem_of_getElem? (i := 107) rfl)) rfl
theorem mW497 : Cond.fieldLink RX8 181 "LaytimeDesk$Port" "free" "[I" ∈ wsT := wsT_of (mC1 (List.mem_of_getElem? (i := 127) rfl)) rfl
theorem mW498 : Cond.methodLink RL 85 yX9_free ∈ wsT := wsT_of (mC6 (List.mem_of_getElem? (i := 59) rfl)) rfl
theorem mW499 : Cond.instanceMethod yX9_free ∈ wsT := wsT_of (mC6 (List.mem_of_getElem? (i := 60) rfl)) rfl
theorem mW500 : Cond.selects RX9 yX9_free yX9_free ∈ wsT := wsT_of (mC6 (List.mem_of_getElem? (i := 61) rfl)) rfl
theorem mW501 : Cond.code yX9_free cX9_free 6 (some .boolean) ∈ wsT := wsT_of (mC6 (List.mem_of_getElem? (i := 62) rfl)) rfl
theorem mW502 : Cond.methodLink RL 88 yX8_tons ∈ wsT := wsT_of (mC3 (List.mem_of_getElem? (i := 108) rfl)) rfl
theorem mW503 : Cond.instanceMethod yX8_tons ∈ wsT := wsT_of (mC3 (List.mem_of_getElem? (i := 109) rfl)) rfl
theorem mW504 : Cond.selects RX8 yX8_tons yX8_tons ∈ wsT := wsT_of (mC3 (List.mem_of_getElem? (i := 110) rfl)) rfl
theorem mW505 : Cond.code yX8_tons cX8_tons 5 (some .boolean) ∈ wsT := wsT_of (mC3 (List.mem_of_getElem? (i := 111) rfl)) rfl
theorem mW506 : Cond.constantLong RX8 184 (100000000) ∈ wsT := wsT_of (mC3 (List.mem_of_getElem? (i := 112) rfl)) rfl
theorem mW507 : Cond.fieldLink RX8 186 "LaytimeDesk$Port" "thousandths" "J" ∈ wsT := wsT_of (mC1 (List.mem_of_getElem? (i := 146) rfl)) rfl
theorem mW508 : Cond.methodLink RL 92 yX9_tons ∈ wsT := wsT_of (mC6 (List.mem_of_getElem? (i := 63) rfl)) rfl
theorem mW509 : Cond.instanceMethod yX9_tons ∈ wsT := wsT_of (mC6 (List.mem_of_getElem? (i := 64) rfl)) rfl
theorem mW510 : Cond.selects RX9 yX9_tons yX9_tons ∈ wsT := wsT_of (mC6 (List.mem_of_getElem? (i := 65) rfl)) rfl
theorem mW511 : Cond.code yX9_tons cX9_tons 4 (some .boolean) ∈ wsT := wsT_of (mC6 (List.mem_of_getElem? (i := 66) rfl)) rfl
theorem mW512 : Cond.constantLong RX9 212 (100000000) ∈ wsT := wsT_of (mC6 (List.mem_of_getElem? (i := 67) rfl)) rfl
theorem mW513 : Cond.methodLink RX9 214 yX9_put ∈ wsT := wsT_of (mC6 (List.mem_of_getElem? (i := 68) rfl)) rfl
theorem mW514 : Cond.instanceMethod yX9_put ∈ wsT := wsT_of (mC6 (List.mem_of_getElem? (i := 70) rfl)) rfl
theorem mW515 : Cond.selects RX9 yX9_put yX9_put ∈ wsT := wsT_of (List.mem_of_getElem? (l := lw_tbl) (i := 25) (by decide +kernel)) rfl
theorem mW516 : Cond.code yX9_put cX9_put 8 (some .boolean) ∈ wsT := wsT_of (mC6 (List.mem_of_getElem? (i := 71) rfl)) rfl
theorem mW517 : Cond.methodLink RL 93 yX8_office ∈ wsT := wsT_of (mC3 (List.mem_of_getElem? (i := 113) rfl)) rfl
theorem mW518 : Cond.instanceMethod yX8_office ∈ wsT := wsT_of (mC3 (List.mem_of_getElem? (i := 114) rfl)) rfl
theorem mW519 : Cond.selects RX8 yX8_office yX8_office ∈ wsT := wsT_of (mC3 (List.mem_of_getElem? (i := 115) rfl)) rfl
theorem mW520 : Cond.code yX8_office cX8_office 7 (some .boolean) ∈ wsT := wsT_of (mC3 (List.mem_of_getElem? (i := 116) rfl)) rfl
theorem mW521 : Cond.constant RX8 190 (100000) ∈ wsT := wsT_of (mC3 (List.mem_of_getElem? (i := 117) rfl)) rfl
theorem mW522 : Cond.fieldLink RX8 191 "LaytimeDesk$Port" "officeFrom" "I" ∈ wsT := wsT_of (mC1 (List.mem_of_getElem? (i := 135) rfl)) rfl
theorem mW523 : Cond.fieldLink RX8 194 "LaytimeDesk$Port" "officeTo" "I" ∈ wsT := wsT_of (mC1 (List.mem_of_getElem? (i := 137) rfl)) rfl
theorem mW524 : Cond.fieldLink RX8 197 "LaytimeDesk$Port" "graceLong" "I" ∈ wsT := wsT_of (mC1 (List.mem_of_getElem? (i := 140) rfl)) rfl
theorem mW525 : Cond.methodLink RL 97 yX9_office ∈ wsT := wsT_of (mC6 (List.mem_of_getElem? (i := 72) rfl)) rfl
theorem mW526 : Cond.instanceMethod yX9_office ∈ wsT := wsT_of (mC6 (List.mem_of_getElem? (i := 73) rfl)) rfl
theorem mW527 : Cond.selects RX9 yX9_office yX9_office ∈ wsT := wsT_of (mC6 (List.mem_of_getElem? (i := 74) rfl)) rfl
theorem mW528 : Cond.code yX9_office cX9_office 6 (some .boolean) ∈ wsT := wsT_of (mC6 (List.mem_of_getElem? (i := 75) rfl)) rfl
theorem mW529 : Cond.constant RX9 218 (100000) ∈ wsT := wsT_of (mC6 (List.mem_of_getElem? (i := 76) rfl)) rfl
theorem mW530 : Cond.methodLink RL 98 yX8_offset ∈ wsT := wsT_of (mC3 (List.mem_of_getElem? (i := 118) rfl)) rfl
theorem mW531 : Cond.instanceMethod yX8_offset ∈ wsT := wsT_of (mC3 (List.mem_of_getElem? (i := 119) rfl)) rfl
theorem mW532 : Cond.selects RX8 yX8_offset yX8_offset ∈ wsT := wsT_of (mC3 (List.mem_of_getElem? (i := 120) rfl)) rfl
theorem mW533 : Cond.code yX8_offset cX8_offset 3 (some .boolean) ∈ wsT := wsT_of (mC3 (List.mem_of_getElem? (i := 121) rfl)) rfl
theorem mW534 : Cond.fieldLink RX8 200 "LaytimeDesk$Port" "shift" "I" ∈ wsT := wsT_of (mC1 (List.mem_of_getElem? (i := 143) rfl)) rfl
theorem mW535 : Cond.methodLink RL 101 yX9_offset ∈ wsT := wsT_of (mC6 (List.mem_of_getElem? (i := 77) rfl)) rfl
theorem mW536 : Cond.instanceMethod yX9_offset ∈ wsT := wsT_of (mC6 (List.mem_of_getElem? (i := 78) rfl)) rfl
theorem mW537 : Cond.selects RX9 yX9_offset yX9_offset ∈ wsT := wsT_of (mC6 (List.mem_of_getElem? (i := 79) rfl)) rfl
theorem mW538 : Cond.code yX9_offset cX9_offset 3 (some .boolean) ∈ wsT := wsT_of (mC6 (List.mem_of_getElem? (i := 80) rfl)) rfl
theorem mW539 : Cond.constantLong RX9 219 (1000000) ∈ wsT := wsT_of (mC6 (List.mem_of_getElem? (i := 81) rfl)) rfl
theorem mW540 : Cond.methodLink RL 102 yX8_rate ∈ wsT := wsT_of (mC3 (List.mem_of_getElem? (i := 122) rfl)) rfl
theorem mW541 : Cond.instanceMethod yX8_rate ∈ wsT := wsT_of (mC3 (List.mem_of_getElem? (i := 123) rfl)) rfl
theorem mW542 : Cond.selects RX8 yX8_rate yX8_rate ∈ wsT := wsT_of (mC3 (List.mem_of_getElem? (i := 124) rfl)) rfl
theorem mW543 : Cond.code yX8_rate cX8_rate 7 (some .boolean) ∈ wsT := wsT_of (mC3 (List.mem_of_getElem? (i := 125) rfl)) rfl
theorem mW544 : Cond.constantLong RX8 203 (1000000000) ∈ wsT := wsT_of (mC3 (List.mem_of_getElem? (i := 126) rfl)) rfl
theorem mW545 : Cond.fieldLink RX8 205 "LaytimeDesk$Port" "owedRate" "J" ∈ wsT := wsT_of (mC1 (List.mem_of_getElem? (i := 148) rfl)) rfl
theorem mW546 : Cond.fieldLink RX8 208 "LaytimeDesk$Port" "savedRate" "J" ∈ wsT := wsT_of (mC1 (List.mem_of_getElem? (i := 151) rfl)) rfl
theorem mW547 : Cond.methodLink RL 106 yX9_rate ∈ wsT := wsT_of (mC6 (List.mem_of_getElem? (i := 82) rfl)) rfl
theorem mW548 : Cond.instanceMethod yX9_rate ∈ wsT := wsT_of (mC6 (List.mem_of_getElem? (i := 83) rfl)) rfl
theorem mW549 : Cond.selects RX9 yX9_rate yX9_rate ∈ wsT := wsT_of (mC6 (List.mem_of_getElem? (i := 84) rfl)) rfl
theorem mW550 : Cond.code yX9_rate cX9_rate 7 (some .boolean) ∈ wsT := wsT_of (mC6 (List.mem_of_getElem? (i := 85) rfl)) rfl
theorem mW551 : Cond.constantLong RX9 221 (1000000000) ∈ wsT := wsT_of (mC6 (List.mem_of_getElem? (i := 86) rfl)) rfl
theorem mW552 : Cond.methodLink RL 107 yX8_together ∈ wsT := wsT_of (mC3 (List.mem_of_getElem? (i := 127) rfl)) rfl
theorem mW553 : Cond.instanceMethod yX8_together ∈ wsT := wsT_of (mC3 (List.mem_of_getElem? (i := 128) rfl)) rfl
theorem mW554 : Cond.selects RX8 yX8_together yX8_together ∈ wsT := wsT_of (mC3 (List.mem_of_getElem? (i := 129) rfl)) rfl
theorem mW555 : Cond.code yX8_together cX8_together 4 (some .boolean) ∈ wsT := wsT_of (mC3 (List.mem_of_getElem? (i := 130) rfl)) rfl
theorem mW556 : Cond.methodLink RL 110 yX9_together ∈ wsT := wsT_of (mC6 (List.mem_of_getElem? (i := 87) rfl)) rfl
theorem mW557 : Cond.instanceMethod yX9_together ∈ wsT := wsT_of (mC6 (List.mem_of_getElem? (i := 88) rfl)) rfl
theorem mW558 : Cond.selects RX9 yX9_together yX9_together ∈ wsT := wsT_of (mC6 (List.mem_of_getElem? (i := 89) rfl)) rfl
theorem mW559 : Cond.code yX9_together cX9_together 4 (some .boolean) ∈ wsT := wsT_of (mC6 (List.mem_of_getElem? (i := 90) rfl)) rfl
theorem mW560 : Cond.methodLink RL 111 yX8_told ∈ wsT := wsT_of (mC3 (List.mem_of_getElem? (i := 131) rfl)) rfl
theorem mW561 : Cond.instanceMethod yX8_told ∈ wsT := wsT_of (mC3 (List.mem_of_getElem? (i := 132) rfl)) rfl
theorem mW562 : Cond.selects RX8 yX8_told yX8_told ∈ wsT := wsT_of (mC3 (List.mem_of_getElem? (i := 133) rfl)) rfl
theorem mW563 : Cond.code yX8_told cX8_told 4 (some .int) ∈ wsT := wsT_of (mC3 (List.mem_of_getElem? (i := 134) rfl)) rfl
theorem mW564 : Cond.fieldLink RX8 224 "LaytimeDesk$Stay" "good" "I" ∈ wsT := wsT_of (mC2 (List.mem_of_getElem? (i := 46) rfl)) rfl
theorem mW565 : Cond.fieldLink RX8 227 "LaytimeDesk$Stay" "begin" "I" ∈ wsT := wsT_of (mC2 (List.mem_of_getElem? (i := 48) rfl)) rfl
theorem mW566 : Cond.fieldLink RX8 230 "LaytimeDesk$Stay" "counted" "Z" ∈ wsT := wsT_of (mC2 (List.mem_of_getElem? (i := 59) rfl)) rfl
theorem mW567 : Cond.fieldLink RX8 234 "LaytimeDesk$Stay" "end" "I" ∈ wsT := wsT_of (mC2 (List.mem_of_getElem? (i := 53) rfl)) rfl
theorem mW568 : Cond.fieldLink RX8 237 "LaytimeDesk$Stay" "allowed" "J" ∈ wsT := wsT_of (mC2 (List.mem_of_getElem? (i := 56) rfl)) rfl
theorem mW569 : Cond.fieldLink RX8 248 "LaytimeDesk$Port" "contractNumber" "I" ∈ wsT := wsT_of (mC1 (List.mem_of_getElem? (i := 133) rfl)) rfl
theorem mW570 : Cond.methodLink RX8 214 yX3_stayAt ∈ wsT := wsT_of (mC3 (List.mem_of_getElem? (i := 135) rfl)) rfl
theorem mW571 : Cond.instanceMethod yX3_stayAt ∈ wsT := wsT_of (mC3 (List.mem_of_getElem? (i := 136) rfl)) rfl
theorem mW572 : Cond.selects RX3 yX3_stayAt yX3_stayAt ∈ wsT := wsT_of (mC3 (List.mem_of_getElem? (i := 137) rfl)) rfl
theorem mW573 : Cond.code yX3_stayAt cX3_stayAt 2 (some (.object "LaytimeDesk$Stay")) ∈ wsT := wsT_of (mC3 (List.mem_of_getElem? (i := 138) rfl)) rfl
theorem mW574 : Cond.methodLink RX8 218 yX5_read ∈ wsT := wsT_of (mC3 (List.mem_of_getElem? (i := 139) rfl)) rfl
theorem mW575 : Cond.instanceMethod yX5_read ∈ wsT := wsT_of (mC3 (List.mem_of_getElem? (i := 140) rfl)) rfl
theorem mW576 : Cond.selects RX5 yX5_read yX5_read ∈ wsT := wsT_of (mC3 (List.mem_of_getElem? (i := 141) rfl)) rfl
theorem mW577 : Cond.code yX5_read cX5_read 9 none ∈ wsT := wsT_of (mC3 (List.mem_of_getElem? (i := 142) rfl)) rfl
theorem mW578 : Cond.fieldLink RX5 15 "LaytimeDesk$Book" "events" "LLaytimeDesk$Events;" ∈ wsT := wsT_of (mC1 (List.mem_of_getElem? (i := 181) rfl)) rfl
theorem mW579 : Cond.methodLink RX5 25 Lib.Math.max.name ∈ wsT := wsT_of (mC3 (List.mem_of_getElem? (i := 156) rfl)) rfl
theorem mW580 : Cond.static Lib.Math.max.name ∈ wsT := wsT_of (mC3 (List.mem_of_getElem? (i := 157) rfl)) rfl
theorem mW581 : Cond.code Lib.Math.max.name Lib.Math.max.code 2 (some .int) ∈ wsT := wsT_of (mC3 (List.mem_of_getElem? (i := 158) rfl)) rfl
theorem mW582 : Cond.fieldLink RX5 37 "LaytimeDesk$Stay" "good" "I" ∈ wsT := wsT_of (mC2 (List.mem_of_getElem? (i := 45) rfl)) rfl
theorem mW583 : Cond.fieldLink RX5 43 "LaytimeDesk$Port" "graceLong" "I" ∈ wsT := wsT_of (mC1 (List.mem_of_getElem? (i := 139) rfl)) rfl
theorem mW584 : Cond.fieldLink RX5 46 "LaytimeDesk$Stay" "begin" "I" ∈ wsT := wsT_of (mC2 (List.mem_of_getElem? (i := 47) rfl)) rfl
theorem mW585 : Cond.fieldLink RX5 53 "LaytimeDesk$Stay" "counted" "Z" ∈ wsT := wsT_of (mC2 (List.mem_of_getElem? (i := 57) rfl)) rfl
theorem mW586 : Cond.fieldLink RX5 57 "LaytimeDesk$Book" "terms" "LLaytimeDesk$Terms;" ∈ wsT := wsT_of (mC1 (List.mem_of_getElem? (i := 178) rfl)) rfl
theorem mW587 : Cond.fieldLink RX5 61 "LaytimeDesk$Port" "contractNumber" "I" ∈ wsT := wsT_of (mC1 (List.mem_of_getElem? (i := 132) rfl)) rfl
theorem mW588 : Cond.fieldLink RX5 64 "LaytimeDesk$Port" "thousandths" "J" ∈ wsT := wsT_of (mC1 (List.mem_of_getElem? (i := 145) rfl)) rfl
theorem mW589 : Cond.fieldLink RX5 74 "LaytimeDesk$Stay" "allowed" "J" ∈ wsT := wsT_of (mC2 (List.mem_of_getElem? (i := 54) rfl)) rfl
theorem mW590 : Cond.fieldLink RX5 77 "LaytimeDesk$Stay" "ended" "Z" ∈ wsT := wsT_of (mC2 (List.mem_of_getElem? (i := 60) rfl)) rfl
theorem mW591 : Cond.fieldLink RX5 80 "LaytimeDesk$Stay" "first" "I" ∈ wsT := wsT_of (mC2 (List.mem_of_getElem? (i := 49) rfl)) rfl
theorem mW592 : Cond.fieldLink RX5 83 "LaytimeDesk$Stay" "end" "I" ∈ wsT := wsT_of (mC2 (List.mem_of_getElem? (i := 51) rfl)) rfl
theorem mW593 : Cond.methodLink RX5 9 yX0_portAt ∈ wsT := wsT_of (mC3 (List.mem_of_getElem? (i := 143) rfl)) rfl
theorem mW594 : Cond.methodLink RX5 19 yX2_firstOf ∈ wsT := wsT_of (mC3 (List.mem_of_getElem? (i := 144) rfl)) rfl
theorem mW595 : Cond.instanceMethod yX2_firstOf ∈ wsT := wsT_of (mC3 (List.mem_of_getElem? (i := 145) rfl)) rfl
theorem mW596 : Cond.selects RX2 yX2_firstOf yX2_firstOf ∈ wsT := wsT_of (mC3 (List.mem_of_getElem? (i := 146) rfl)) rfl
theorem mW597 : Cond.code yX2_firstOf cX2_firstOf 6 (some .int) ∈ wsT := wsT_of (mC3 (List.mem_of_getElem? (i := 147) rfl)) rfl
theorem mW598 : Cond.methodLink RX2 49 yX2_kindAt ∈ wsT := wsT_of (mC3 (List.mem_of_getElem? (i := 148) rfl)) rfl
theorem mW599 : Cond.instanceMethod yX2_kindAt ∈ wsT := wsT_of (mC3 (List.mem_of_getElem? (i := 149) rfl)) rfl
theorem mW600 : Cond.selects RX2 yX2_kindAt yX2_kindAt ∈ wsT := wsT_of (mC3 (List.mem_of_getElem? (i := 150) rfl)) rfl
theorem mW601 : Cond.code yX2_kindAt cX2_kindAt 2 (some .int) ∈ wsT := wsT_of (mC3 (List.mem_of_getElem? (i := 151) rfl)) rfl
theorem mW602 : Cond.methodLink RX2 53 yX2_minuteAt ∈ wsT := wsT_of (mC3 (List.mem_of_getElem? (i := 152) rfl)) rfl
theorem mW603 : Cond.instanceMethod yX2_minuteAt ∈ wsT := wsT_of (mC3 (List.mem_of_getElem? (i := 153) rfl)) rfl
theorem mW604 : Cond.selects RX2 yX2_minuteAt yX2_minuteAt ∈ wsT := wsT_of (mC3 (List.mem_of_getElem? (i := 154) rfl)) rfl
theorem mW605 : Cond.code yX2_minuteAt cX2_minuteAt 2 (some .int) ∈ wsT := wsT_of (mC3 (List.mem_of_getElem? (i := 155) rfl)) rfl
theorem mW606 : Cond.methodLink RX5 31 yX4_firstOffice ∈ wsT := wsT_of (mC3 (List.mem_of_getElem? (i := 159) rfl)) rfl
theorem mW607 : Cond.instanceMethod yX4_firstOffice ∈ wsT := wsT_of (mC3 (List.mem_of_getElem? (i := 160) rfl)) rfl
theorem mW608 : Cond.selects RX4 yX4_firstOffice yX4_firstOffice ∈ wsT := wsT_of (mC3 (List.mem_of_getElem? (i := 161) rfl)) rfl
theorem mW609 : Cond.code yX4_firstOffice cX4_firstOffice 4 (some .int) ∈ wsT := wsT_of (mC3 (List.mem_of_getElem? (i := 162) rfl)) rfl
theorem mW610 : Cond.methodLink RX4 57 Lib.Math.max.name ∈ wsT := wsT_of (mC3 (List.mem_of_getElem? (i := 163) rfl)) rfl
theorem mW611 : Cond.methodLink RX4 63 Lib.Math.min.name ∈ wsT := wsT_of (mC3 (List.mem_of_getElem? (i := 164) rfl)) rfl
theorem mW612 : Cond.methodLink RX5 49 yX4_logLong ∈ wsT := wsT_of (mC3 (List.mem_of_getElem? (i := 165) rfl)) rfl
theorem mW613 : Cond.methodLink RX5 68 yX6_allowedBy ∈ wsT := wsT_of (mC3 (List.mem_of_getElem? (i := 166) rfl)) rfl
theorem mW614 : Cond.instanceMethod yX6_allowedBy ∈ wsT := wsT_of (mC3 (List.mem_of_getElem? (i := 167) rfl)) rfl
theorem mW615 : Cond.selects RX6 yX6_allowedBy yX6_allowedBy ∈ wsT := wsT_of (mC3 (List.mem_of_getElem? (i := 168) rfl)) rfl
theorem mW616 : Cond.code yX6_allowedBy cX6_allowedBy 9 (some .long) ∈ wsT := wsT_of (mC3 (List.mem_of_getElem? (i := 169) rfl)) rfl
theorem mW617 : Cond.constantLong RX6 44 (60) ∈ wsT := wsT_of (mC3 (List.mem_of_getElem? (i := 171) rfl)) rfl
theorem mW618 : Cond.constantLong RX6 46 (1000) ∈ wsT := wsT_of (mC3 (List.mem_of_getElem? (i := 172) rfl)) rfl
theorem mW619 : Cond.methodLink RX8 244 yX4_unknownMinutes ∈ wsT := wsT_of (mC3 (List.mem_of_getElem? (i := 173) rfl)) rfl
theorem mW620 : Cond.instanceMethod yX4_unknownMinutes ∈ wsT := wsT_of (mC3 (List.mem_of_getElem? (i := 174) rfl)) rfl
theorem mW621 : Cond.selects RX4 yX4_unknownMinutes yX4_unknownMinutes ∈ wsT := wsT_of (mC3 (List.mem_of_getElem? (i := 175) rfl)) rfl
theorem mW622 : Cond.code yX4_unknownMinutes cX4_unknownMinutes 3 (some .int) ∈ wsT := wsT_of (mC3 (List.mem_of_getElem? (i := 176) rfl)) rfl
theorem mW623 : Cond.methodLink RL 114 yX9_told ∈ wsT := wsT_of (mC6 (List.mem_of_getElem? (i := 91) rfl)) rfl
theorem mW624 : Cond.instanceMethod yX9_told ∈ wsT := wsT_of (mC6 (List.mem_of_getElem? (i := 92) rfl)) rfl
theorem mW625 : Cond.selects RX9 yX9_told yX9_told ∈ wsT := wsT_of (mC6 (List.mem_of_getElem? (i := 93) rfl)) rfl
theorem mW626 : Cond.code yX9_told cX9_told 4 (some .int) ∈ wsT := wsT_of (mC6 (List.mem_of_getElem? (i := 94) rfl)) rfl
theorem mW627 : Cond.methodLink RX9 229 yX9_good ∈ wsT := wsT_of (mC6 (List.mem_of_getElem? (i := 95) rfl)) rfl
theorem mW628 : Cond.instanceMethod yX9_good ∈ wsT := wsT_of (mC6 (List.mem_of_getElem? (i := 97) rfl)) rfl
theorem mW629 : Cond.selects RX9 yX9_good yX9_good ∈ wsT := wsT_of (List.mem_of_getElem? (l := lw_tbl) (i := 26) (by decide +kernel)) rfl
theorem mW630 : Cond.code yX9_good cX9_good 6 (some .int) ∈ wsT := wsT_of (mC6 (List.mem_of_getElem? (i := 98) rfl)) rfl
theorem mW631 : Cond.methodLink RX9 223 yX9_first ∈ wsT := wsT_of (mC6 (List.mem_of_getElem? (i := 99) rfl)) rfl
theorem mW632 : Cond.instanceMethod yX9_first ∈ wsT := wsT_of (mC6 (List.mem_of_getElem? (i := 101) rfl)) rfl
theorem mW633 : Cond.selects RX9 yX9_first yX9_first ∈ wsT := wsT_of (List.mem_of_getElem? (l := lw_tbl) (i := 27) (by decide +kernel)) rfl
theorem mW634 : Cond.code yX9_first cX9_first 5 (some .int) ∈ wsT := wsT_of (mC6 (List.mem_of_getElem? (i := 102) rfl)) rfl
theorem mW635 : Cond.methodLink RX9 226 yX9_length ∈ wsT := wsT_of (mC6 (List.mem_of_getElem? (i := 103) rfl)) rfl
theorem mW636 : Cond.instanceMethod yX9_length ∈ wsT := wsT_of (mC6 (List.mem_of_getElem? (i := 105) rfl)) rfl
theorem mW637 : Cond.selects RX9 yX9_length yX9_length ∈ wsT := wsT_of (List.mem_of_getElem? (l := lw_tbl) (i := 28) (by decide +kernel)) rfl
theorem mW638 : Cond.code yX9_length cX9_length 2 (some .int) ∈ wsT := wsT_of (mC6 (List.mem_of_getElem? (i := 106) rfl)) rfl
theorem mW639 : Cond.methodLink RX9 232 yX9_begin ∈ wsT := wsT_of (mC6 (List.mem_of_getElem? (i := 107) rfl)) rfl
theorem mW640 : Cond.instanceMethod yX9_begin ∈ wsT := wsT_of (mC6 (List.mem_of_getElem? (i := 109) rfl)) rfl
theorem mW641 : Cond.selects RX9 yX9_begin yX9_begin ∈ wsT := wsT_of (List.mem_of_getElem? (l := lw_tbl) (i := 29) (by decide +kernel)) rfl
theorem mW642 : Cond.code yX9_begin cX9_begin 3 (some .int) ∈ wsT := wsT_of (mC6 (List.mem_of_getElem? (i := 110) rfl)) rfl
theorem mW643 : Cond.methodLink RX9 282 yX9_doesCount ∈ wsT := wsT_of (mC6 (List.mem_of_getElem? (i := 111) rfl)) rfl
theorem mW644 : Cond.instanceMethod yX9_doesCount ∈ wsT := wsT_of (mC6 (List.mem_of_getElem? (i := 113) rfl)) rfl
theorem mW645 : Cond.selects RX9 yX9_doesCount yX9_doesCount ∈ wsT := wsT_of (List.mem_of_getElem? (l := lw_tbl) (i := 30) (by decide +kernel)) rfl
theorem mW646 : Cond.code yX9_doesCount cX9_doesCount 3 (some .boolean) ∈ wsT := wsT_of (mC6 (List.mem_of_getElem? (i := 114) rfl)) rfl
theorem mW647 : Cond.methodLink RX9 291 yX9_end ∈ wsT := wsT_of (mC6 (List.mem_of_getElem? (i := 115) rfl)) rfl
theorem mW648 : Cond.instanceMethod yX9_end ∈ wsT := wsT_of (mC6 (List.mem_of_getElem? (i := 117) rfl)) rfl
theorem mW649 : Cond.selects RX9 yX9_end yX9_end ∈ wsT := wsT_of (List.mem_of_getElem? (l := lw_tbl) (i := 31) (by decide +kernel)) rfl
theorem mW650 : Cond.code yX9_end cX9_end 3 (some .int) ∈ wsT := wsT_of (mC6 (List.mem_of_getElem? (i := 118) rfl)) rfl
theorem mW651 : Cond.methodLink RX9 287 yX9_allowed ∈ wsT := wsT_of (mC6 (List.mem_of_getElem? (i := 119) rfl)) rfl
theorem mW652 : Cond.instanceMethod yX9_allowed ∈ wsT := wsT_of (mC6 (List.mem_of_getElem? (i := 121) rfl)) rfl
theorem mW653 : Cond.selects RX9 yX9_allowed yX9_allowed ∈ wsT := wsT_of (List.mem_of_getElem? (l := lw_tbl) (i := 32) (by decide +kernel)) rfl
theorem mW654 : Cond.code yX9_allowed cX9_allowed 12 (some .long) ∈ wsT := wsT_of (mC6 (List.mem_of_getElem? (i := 122) rfl)) rfl
theorem mW655 : Cond.constantLong RX9 235 (60) ∈ wsT := wsT_of (mC6 (List.mem_of_getElem? (i := 123) rfl)) rfl
theorem mW656 : Cond.constantLong RX9 237 (-1000) ∈ wsT := wsT_of (mC6 (List.mem_of_getElem? (i := 124) rfl)) rfl
theorem mW657 : Cond.methodLink RX9 332 yX9_many ∈ wsT := wsT_of (mC6 (List.mem_of_getElem? (i := 125) rfl)) rfl
theorem mW658 : Cond.instanceMethod yX9_many ∈ wsT := wsT_of (mC6 (List.mem_of_getElem? (i := 127) rfl)) rfl
theorem mW659 : Cond.selects RX9 yX9_many yX9_many ∈ wsT := wsT_of (List.mem_of_getElem? (l := lw_tbl) (i := 33) (by decide +kernel)) rfl
theorem mW660 : Cond.code yX9_many cX9_many 4 (some .int) ∈ wsT := wsT_of (mC6 (List.mem_of_getElem? (i := 128) rfl)) rfl
theorem mW661 : Cond.methodLink RX9 335 yX9_unknown ∈ wsT := wsT_of (mC6 (List.mem_of_getElem? (i := 129) rfl)) rfl
theorem mW662 : Cond.instanceMethod yX9_unknown ∈ wsT := wsT_of (mC6 (List.mem_of_getElem? (i := 131) rfl)) rfl
theorem mW663 : Cond.selects RX9 yX9_unknown yX9_unknown ∈ wsT := wsT_of (List.mem_of_getElem? (l := lw_tbl) (i := 34) (by decide +kernel)) rfl
theorem mW664 : Cond.code yX9_unknown cX9_unknown 4 (some .int) ∈ wsT := wsT_of (mC6 (List.mem_of_getElem? (i := 132) rfl)) rfl
theorem mW665 : Cond.methodLink RL 115 yX8_weight ∈ wsT := wsT_of (mC3 (List.mem_of_getElem? (i := 177) rfl)) rfl
theorem mW666 : Cond.instanceMethod yX8_weight ∈ wsT := wsT_of (mC3 (List.mem_of_getElem? (i := 178) rfl)) rfl
theorem mW667 : Cond.selects RX8 yX8_weight yX8_weight ∈ wsT := wsT_of (mC3 (List.mem_of_getElem? (i := 179) rfl)) rfl
theorem mW668 : Cond.code yX8_weight cX8_weight 5 (some .long) ∈ wsT := wsT_of (mC3 (List.mem_of_getElem? (i := 180) rfl)) rfl
theorem mW669 : Cond.constantLong RX8 251 (-1) ∈ wsT := wsT_of (mC3 (List.mem_of_getElem? (i := 181) rfl)) rfl
theorem mW670 : Cond.constantLong RX8 253 (1000) ∈ wsT := wsT_of (mC3 (List.mem_of_getElem? (i := 182) rfl)) rfl
theorem mW671 : Cond.methodLink RL 119 yX9_weight ∈ wsT := wsT_of (mC6 (List.mem_of_getElem? (i := 133) rfl)) rfl
theorem mW672 : Cond.instanceMethod yX9_weight ∈ wsT := wsT_of (mC6 (List.mem_of_getElem? (i := 134) rfl)) rfl
theorem mW673 : Cond.selects RX9 yX9_weight yX9_weight ∈ wsT := wsT_of (mC6 (List.mem_of_getElem? (i := 135) rfl)) rfl
theorem mW674 : Cond.code yX9_weight cX9_weight 4 (some .long) ∈ wsT := wsT_of (mC6 (List.mem_of_getElem? (i := 136) rfl)) rfl
theorem mW675 : Cond.constantLong RX9 338 (1000) ∈ wsT := wsT_of (mC6 (List.mem_of_getElem? (i := 137) rfl)) rfl
theorem mW676 : Cond.methodLink RL 120 yX8_state ∈ wsT := wsT_of (mC3 (List.mem_of_getElem? (i := 183) rfl)) rfl
theorem mW677 : Cond.instanceMethod yX8_state ∈ wsT := wsT_of (mC3 (List.mem_of_getElem? (i := 184) rfl)) rfl
theorem mW678 : Cond.selects RX8 yX8_state yX8_state ∈ wsT := wsT_of (mC3 (List.mem_of_getElem? (i := 185) rfl)) rfl
theorem mW679 : Cond.code yX8_state cX8_state 4 (some .int) ∈ wsT := wsT_of (mC3 (List.mem_of_getElem? (i := 186) rfl)) rfl
theorem mW680 : Cond.methodLink RX8 255 yX2_stateAt ∈ wsT := wsT_of (mC3 (List.mem_of_getElem? (i := 187) rfl)) rfl
theorem mW681 : Cond.instanceMethod yX2_stateAt ∈ wsT := wsT_of (mC3 (List.mem_of_getElem? (i := 188) rfl)) rfl
theorem mW682 : Cond.selects RX2 yX2_stateAt yX2_stateAt ∈ wsT := wsT_of (mC3 (List.mem_of_getElem? (i := 189) rfl)) rfl
theorem mW683 : Cond.code yX2_stateAt cX2_stateAt 5 (some .int) ∈ wsT := wsT_of (mC3 (List.mem_of_getElem? (i := 190) rfl)) rfl
theorem mW684 : Cond.methodLink RL 123 yX9_state ∈ wsT := wsT_of (mC6 (List.mem_of_getElem? (i := 138) rfl)) rfl
theorem mW685 : Cond.instanceMethod yX9_state ∈ wsT := wsT_of (mC6 (List.mem_of_getElem? (i := 139) rfl)) rfl
theorem mW686 : Cond.selects RX9 yX9_state yX9_state ∈ wsT := wsT_of (mC6 (List.mem_of_getElem? (i := 140) rfl)) rfl
theorem mW687 : Cond.code yX9_state cX9_state 6 (some .int) ∈ wsT := wsT_of (mC6 (List.mem_of_getElem? (i := 141) rfl)) rfl
theorem mW688 : Cond.methodLink RL 124 yX8_minute ∈ wsT := wsT_of (mC3 (List.mem_of_getElem? (i := 192) rfl)) rfl
theorem mW689 : Cond.instanceMethod yX8_minute ∈ wsT := wsT_of (mC3 (List.mem_of_getElem? (i := 193) rfl)) rfl
theorem mW690 : Cond.selects RX8 yX8_minute yX8_minute ∈ wsT := wsT_of (mC3 (List.mem_of_getElem? (i := 194) rfl)) rfl
theorem mW691 : Cond.code yX8_minute cX8_minute 5 (some .int) ∈ wsT := wsT_of (mC3 (List.mem_of_getElem? (i := 195) rfl)) rfl
theorem mW692 : Cond.fieldLink RX8 274 "LaytimeDesk$Walk" "why" "I" ∈ wsT := wsT_of (mC2 (List.mem_of_getElem? (i := 2) rfl)) rfl
theorem mW693 : Cond.fieldLink RX8 277 "LaytimeDesk$Walk" "halves" "I" ∈ wsT := wsT_of (mC1 (List.mem_of_getElem? (i := 239) rfl)) rfl
theorem mW694 : Cond.methodLink RX8 258 yX0_groupOf ∈ wsT := wsT_of (mC3 (List.mem_of_getElem? (i := 196) rfl)) rfl
theorem mW695 : Cond.instanceMethod yX0_groupOf ∈ wsT := wsT_of (mC3 (List.mem_of_getElem? (i := 197) rfl)) rfl
theorem mW696 : Cond.selects RX0 yX0_groupOf yX0_groupOf ∈ wsT := wsT_of (mC3 (List.mem_of_getElem? (i := 198) rfl)) rfl
theorem mW697 : Cond.code yX0_groupOf cX0_groupOf 2 (some .int) ∈ wsT := wsT_of (mC3 (List.mem_of_getElem? (i := 199) rfl)) rfl
theorem mW698 : Cond.fieldLink RX0 43 "LaytimeDesk$Book" "grouped" "I" ∈ wsT := wsT_of (mC1 (List.mem_of_getElem? (i := 189) rfl)) rfl
theorem mW699 : Cond.methodLink RX8 261 yX3_read ∈ wsT := wsT_of (mC3 (List.mem_of_getElem? (i := 200) rfl)) rfl
theorem mW700 : Cond.instanceMethod yX3_read ∈ wsT := wsT_of (mC3 (List.mem_of_getElem? (i := 201) rfl)) rfl
theorem mW701 : Cond.selects RX3 yX3_read yX3_read ∈ wsT := wsT_of (mC3 (List.mem_of_getElem? (i := 202) rfl)) rfl
theorem mW702 : Cond.code yX3_read cX3_read 5 none ∈ wsT := wsT_of (mC3 (List.mem_of_getElem? (i := 203) rfl)) rfl
theorem mW703 : Cond.fieldLink RX3 39 "LaytimeDesk$Group" "members" "I" ∈ wsT := wsT_of (mC2 (List.mem_of_getElem? (i := 82) rfl)) rfl
theorem mW704 : Cond.fieldLink RX3 46 "LaytimeDesk$Group" "high" "Z" ∈ wsT := wsT_of (mC2 (List.mem_of_getElem? (i := 83) rfl)) rfl
theorem mW705 : Cond.fieldLink RX3 50 "LaytimeDesk$Group" "counting" "I" ∈ wsT := wsT_of (mC2 (List.mem_of_getElem? (i := 84) rfl)) rfl
theorem mW706 : Cond.fieldLink RX3 53 "LaytimeDesk$Group" "allEnded" "Z" ∈ wsT := wsT_of (mC2 (List.mem_of_getElem? (i := 86) rfl)) rfl
theorem mW707 : Cond.fieldLink RX3 56 "LaytimeDesk$Group" "limit" "J" ∈ wsT := wsT_of (mC2 (List.mem_of_getElem? (i := 87) rfl)) rfl
theorem mW708 : Cond.fieldLink RX3 72 "LaytimeDesk$Stay" "counted" "Z" ∈ wsT := wsT_of (mC2 (List.mem_of_getElem? (i := 58) rfl)) rfl
theorem mW709 : Cond.fieldLink RX3 75 "LaytimeDesk$Stay" "ended" "Z" ∈ wsT := wsT_of (mC2 (List.mem_of_getElem? (i := 61) rfl)) rfl
theorem mW710 : Cond.constantLong RX3 78 (2) ∈ wsT := wsT_of (mC3 (List.mem_of_getElem? (i := 210) rfl)) rfl
theorem mW711 : Cond.fieldLink RX3 80 "LaytimeDesk$Stay" "allowed" "J" ∈ wsT := wsT_of (mC2 (List.mem_of_getElem? (i := 55) rfl)) rfl
theorem mW712 : Cond.methodLink RX3 60 yX3_isMember ∈ wsT := wsT_of (mC3 (List.mem_of_getElem? (i := 204) rfl)) rfl
theorem mW713 : Cond.instanceMethod yX3_isMember ∈ wsT := wsT_of (mC3 (List.mem_of_getElem? (i := 205) rfl)) rfl
theorem mW714 : Cond.selects RX3 yX3_isMember yX3_isMember ∈ wsT := wsT_of (mC3 (List.mem_of_getElem? (i := 206) rfl)) rfl
theorem mW715 : Cond.code yX3_isMember cX3_isMember 2 (some .boolean) ∈ wsT := wsT_of (mC3 (List.mem_of_getElem? (i := 207) rfl)) rfl
theorem mW716 : Cond.methodLink RX3 64 yX3_stayAt ∈ wsT := wsT_of (mC3 (List.mem_of_getElem? (i := 208) rfl)) rfl
theorem mW717 : Cond.methodLink RX3 68 yX5_read ∈ wsT := wsT_of (mC3 (List.mem_of_getElem? (i := 209) rfl)) rfl
theorem mW718 : Cond.methodLink RX3 83 yX3_findOnce ∈ wsT := wsT_of (mC3 (List.mem_of_getElem? (i := 211) rfl)) rfl
theorem mW719 : Cond.instanceMethod yX3_findOnce ∈ wsT := wsT_of (mC3 (List.mem_of_getElem? (i := 212) rfl)) rfl
theorem mW720 : Cond.selects RX3 yX3_findOnce yX3_findOnce ∈ wsT := wsT_of (mC3 (List.mem_of_getElem? (i := 213) rfl)) rfl
theorem mW721 : Cond.code yX3_findOnce cX3_findOnce 7 none ∈ wsT := wsT_of (mC3 (List.mem_of_getElem? (i := 214) rfl)) rfl
theorem mW722 : Cond.fieldLink RX3 86 "LaytimeDesk$Group" "reached" "Z" ∈ wsT := wsT_of (mC2 (List.mem_of_getElem? (i := 92) rfl)) rfl
theorem mW723 : Cond.fieldLink RX3 89 "LaytimeDesk$Group" "notOver" "J" ∈ wsT := wsT_of (mC2 (List.mem_of_getElem? (i := 89) rfl)) rfl
theorem mW724 : Cond.constant RX3 96 (2000000000) ∈ wsT := wsT_of (mC3 (List.mem_of_getElem? (i := 219) rfl)) rfl
theorem mW725 : Cond.constant RX3 101 (2000000) ∈ wsT := wsT_of (mC4 (List.mem_of_getElem? (i := 38) rfl)) rfl
theorem mW726 : Cond.fieldLink RX3 43 "LaytimeDesk$Group" "running" "I" ∈ wsT := wsT_of (mC2 (List.mem_of_getElem? (i := 97) rfl)) rfl
theorem mW727 : Cond.methodLink RX3 92 yX3_startAll ∈ wsT := wsT_of (mC3 (List.mem_of_getElem? (i := 215) rfl)) rfl
theorem mW728 : Cond.instanceMethod yX3_startAll ∈ wsT := wsT_of (mC3 (List.mem_of_getElem? (i := 216) rfl)) rfl
theorem mW729 : Cond.selects RX3 yX3_startAll yX3_startAll ∈ wsT := wsT_of (mC3 (List.mem_of_getElem? (i := 217) rfl)) rfl
theorem mW730 : Cond.code yX3_startAll cX3_startAll 4 (some .int) ∈ wsT := wsT_of (mC3 (List.mem_of_getElem? (i := 218) rfl)) rfl
theorem mW731 : Cond.fieldLink RX3 123 "LaytimeDesk$Stay" "first" "I" ∈ wsT := wsT_of (mC2 (List.mem_of_getElem? (i := 50) rfl)) rfl
theorem mW732 : Cond.fieldLink RX3 126 "LaytimeDesk$Stay" "end" "I" ∈ wsT := wsT_of (mC2 (List.mem_of_getElem? (i := 52) rfl)) rfl
theorem mW733 : Cond.fieldLink RX3 147 "LaytimeDesk$Port" "shift" "I" ∈ wsT := wsT_of (mC1 (List.mem_of_getElem? (i := 142) rfl)) rfl
theorem mW734 : Cond.methodLink RX3 152 Lib.Math.min.name ∈ wsT := wsT_of (mC4 (List.mem_of_getElem? (i := 33) rfl)) rfl
theorem mW735 : Cond.methodLink RX3 129 yX3_walkAt ∈ wsT := wsT_of (mC3 (List.mem_of_getElem? (i := 220) rfl)) rfl
theorem mW736 : Cond.instanceMethod yX3_walkAt ∈ wsT := wsT_of (mC3 (List.mem_of_getElem? (i := 221) rfl)) rfl
theorem mW737 : Cond.selects RX3 yX3_walkAt yX3_walkAt ∈ wsT := wsT_of (mC3 (List.mem_of_getElem? (i := 222) rfl)) rfl
theorem mW738 : Cond.code yX3_walkAt cX3_walkAt 2 (some (.object "LaytimeDesk$Walk")) ∈ wsT := wsT_of (mC3 (List.mem_of_getElem? (i := 223) rfl)) rfl
theorem mW739 : Cond.methodLink RX3 133 yX7_start ∈ wsT := wsT_of (mC3 (List.mem_of_getElem? (i := 224) rfl)) rfl
theorem mW740 : Cond.instanceMethod yX7_start ∈ wsT := wsT_of (mC3 (List.mem_of_getElem? (i := 225) rfl)) rfl
theorem mW741 : Cond.selects RX7 yX7_start yX7_start ∈ wsT := wsT_of (mC3 (List.mem_of_getElem? (i := 226) rfl)) rfl
theorem mW742 : Cond.code yX7_start cX7_start 8 none ∈ wsT := wsT_of (mC3 (List.mem_of_getElem? (i := 227) rfl)) rfl
theorem mW743 : Cond.fieldLink RX7 35 "LaytimeDesk$Walk" "here" "I" ∈ wsT := wsT_of (mC1 (List.mem_of_getElem? (i := 227) rfl)) rfl
theorem mW744 : Cond.fieldLink RX7 39 "LaytimeDesk$Walk" "until" "I" ∈ wsT := wsT_of (mC1 (List.mem_of_getElem? (i := 229) rfl)) rfl
theorem mW745 : Cond.fieldLink RX7 42 "LaytimeDesk$Walk" "end" "I" ∈ wsT := wsT_of (mC1 (List.mem_of_getElem? (i := 231) rfl)) rfl
theorem mW746 : Cond.fieldLink RX7 45 "LaytimeDesk$Walk" "overFrom" "I" ∈ wsT := wsT_of (mC1 (List.mem_of_getElem? (i := 232) rfl)) rfl
theorem mW747 : Cond.fieldLink RX7 48 "LaytimeDesk$Walk" "high" "Z" ∈ wsT := wsT_of (mC1 (List.mem_of_getElem? (i := 233) rfl)) rfl
theorem mW748 : Cond.fieldLink RX7 52 "LaytimeDesk$Book" "events" "LLaytimeDesk$Events;" ∈ wsT := wsT_of (mC1 (List.mem_of_getElem? (i := 182) rfl)) rfl
theorem mW749 : Cond.fieldLink RX7 62 "LaytimeDesk$Walk" "nextEvent" "I" ∈ wsT := wsT_of (mC1 (List.mem_of_getElem? (i := 234) rfl)) rfl
theorem mW750 : Cond.constant RX7 65 (129600) ∈ wsT := wsT_of (mC3 (List.mem_of_getElem? (i := 230) rfl)) rfl
theorem mW751 : Cond.fieldLink RX7 66 "LaytimeDesk$Walk" "endEvent" "I" ∈ wsT := wsT_of (mC1 (List.mem_of_getElem? (i := 235) rfl)) rfl
theorem mW752 : Cond.fieldLink RX7 72 "LaytimeDesk$Walk" "state" "I" ∈ wsT := wsT_of (mC1 (List.mem_of_getElem? (i := 236) rfl)) rfl
theorem mW753 : Cond.fieldLink RX7 75 "LaytimeDesk$Walk" "rowsMany" "I" ∈ wsT := wsT_of (mC1 (List.mem_of_getElem? (i := 222) rfl)) rfl
theorem mW754 : Cond.fieldLink RX7 78 "LaytimeDesk$Port" "contractNumber" "I" ∈ wsT := wsT_of (mC1 (List.mem_of_getElem? (i := 131) rfl)) rfl
theorem mW755 : Cond.fieldLink RX7 86 "LaytimeDesk$Book" "terms" "LLaytimeDesk$Terms;" ∈ wsT := wsT_of (mC1 (List.mem_of_getElem? (i := 179) rfl)) rfl
theorem mW756 : Cond.fieldLink RX7 90 "LaytimeDesk$Terms" "kinds" "[I" ∈ wsT := wsT_of (mC1 (List.mem_of_getElem? (i := 38) rfl)) rfl
theorem mW757 : Cond.methodLink RX7 31 yX0_portAt ∈ wsT := wsT_of (mC3 (List.mem_of_getElem? (i := 228) rfl)) rfl
theorem mW758 : Cond.methodLink RX7 56 yX2_indexOf ∈ wsT := wsT_of (mC3 (List.mem_of_getElem? (i := 229) rfl)) rfl
theorem mW759 : Cond.methodLink RX7 69 yX2_stateAt ∈ wsT := wsT_of (mC3 (List.mem_of_getElem? (i := 231) rfl)) rfl
theorem mW760 : Cond.methodLink RX3 137 yX7_step ∈ wsT := wsT_of (mC3 (List.mem_of_getElem? (i := 236) rfl)) rfl
theorem mW761 : Cond.instanceMethod yX7_step ∈ wsT := wsT_of (mC3 (List.mem_of_getElem? (i := 237) rfl)) rfl
theorem mW762 : Cond.selects RX7 yX7_step yX7_step ∈ wsT := wsT_of (mC3 (List.mem_of_getElem? (i := 238) rfl)) rfl
theorem mW763 : Cond.code yX7_step cX7_step 6 (some .boolean) ∈ wsT := wsT_of (mC3 (List.mem_of_getElem? (i := 239) rfl)) rfl
theorem mW764 : Cond.fieldLink RX7 107 "LaytimeDesk$Port" "known" "[I" ∈ wsT := wsT_of (mC1 (List.mem_of_getElem? (i := 123) rfl)) rfl
theorem mW765 : Cond.methodLink RX7 110 Lib.Math.max.name ∈ wsT := wsT_of (mC4 (List.mem_of_getElem? (i := 0) rfl)) rfl
theorem mW766 : Cond.methodLink RX7 115 Lib.Math.min.name ∈ wsT := wsT_of (mC4 (List.mem_of_getElem? (i := 1) rfl)) rfl
theorem mW767 : Cond.fieldLink RX7 118 "LaytimeDesk$Walk" "why" "I" ∈ wsT := wsT_of (mC2 (List.mem_of_getElem? (i := 0) rfl)) rfl
theorem mW768 : Cond.fieldLink RX7 121 "LaytimeDesk$Walk" "halves" "I" ∈ wsT := wsT_of (mC1 (List.mem_of_getElem? (i := 237) rfl)) rfl
theorem mW769 : Cond.methodLink RX7 124 yX7_readEvents ∈ wsT := wsT_of (mC4 (List.mem_of_getElem? (i := 2) rfl)) rfl
theorem mW770 : Cond.instanceMethod yX7_readEvents ∈ wsT := wsT_of (mC4 (List.mem_of_getElem? (i := 3) rfl)) rfl
theorem mW771 : Cond.selects RX7 yX7_readEvents yX7_readEvents ∈ wsT := wsT_of (mC4 (List.mem_of_getElem? (i := 4) rfl)) rfl
theorem mW772 : Cond.code yX7_readEvents cX7_readEvents 3 none ∈ wsT := wsT_of (mC4 (List.mem_of_getElem? (i := 5) rfl)) rfl
theorem mW773 : Cond.methodLink RX7 153 yX2_minuteAt ∈ wsT := wsT_of (mC4 (List.mem_of_getElem? (i := 6) rfl)) rfl
theorem mW774 : Cond.methodLink RX7 127 yX7_breakAt ∈ wsT := wsT_of (mC4 (List.mem_of_getElem? (i := 7) rfl)) rfl
theorem mW775 : Cond.instanceMethod yX7_breakAt ∈ wsT := wsT_of (mC4 (List.mem_of_getElem? (i := 8) rfl)) rfl
theorem mW776 : Cond.selects RX7 yX7_breakAt yX7_breakAt ∈ wsT := wsT_of (mC4 (List.mem_of_getElem? (i := 9) rfl)) rfl
theorem mW777 : Cond.code yX7_breakAt cX7_breakAt 2 none ∈ wsT := wsT_of (mC4 (List.mem_of_getElem? (i := 10) rfl)) rfl
theorem mW778 : Cond.methodLink RX7 157 yX2_kindAt ∈ wsT := wsT_of (mC4 (List.mem_of_getElem? (i := 11) rfl)) rfl
theorem mW779 : Cond.methodLink RX7 131 yX7_forgetAsked ∈ wsT := wsT_of (mC4 (List.mem_of_getElem? (i := 12) rfl)) rfl
theorem mW780 : Cond.instanceMethod yX7_forgetAsked ∈ wsT := wsT_of (mC4 (List.mem_of_getElem? (i := 13) rfl)) rfl
theorem mW781 : Cond.selects RX7 yX7_forgetAsked yX7_forgetAsked ∈ wsT := wsT_of (mC4 (List.mem_of_getElem? (i := 14) rfl)) rfl
theorem mW782 : Cond.code yX7_forgetAsked cX7_forgetAsked 1 none ∈ wsT := wsT_of (mC4 (List.mem_of_getElem? (i := 15) rfl)) rfl
theorem mW783 : Cond.fieldLink RX7 144 "LaytimeDesk$Walk" "askedMany" "I" ∈ wsT := wsT_of (mC1 (List.mem_of_getElem? (i := 223) rfl)) rfl
theorem mW784 : Cond.fieldLink RX7 147 "LaytimeDesk$Walk" "some" "I" ∈ wsT := wsT_of (mC1 (List.mem_of_getElem? (i := 224) rfl)) rfl
theorem mW785 : Cond.fieldLink RX7 150 "LaytimeDesk$Walk" "several" "I" ∈ wsT := wsT_of (mC1 (List.mem_of_getElem? (i := 225) rfl)) rfl
theorem mW786 : Cond.methodLink RX7 134 yX7_spans ∈ wsT := wsT_of (mC4 (List.mem_of_getElem? (i := 16) rfl)) rfl
theorem mW787 : Cond.instanceMethod yX7_spans ∈ wsT := wsT_of (mC4 (List.mem_of_getElem? (i := 17) rfl)) rfl
theorem mW788 : Cond.selects RX7 yX7_spans yX7_spans ∈ wsT := wsT_of (mC4 (List.mem_of_getElem? (i := 18) rfl)) rfl
theorem mW789 : Cond.code yX7_spans cX7_spans 8 (some .boolean) ∈ wsT := wsT_of (mC4 (List.mem_of_getElem? (i := 19) rfl)) rfl
theorem mW790 : Cond.fieldLink RX7 160 "LaytimeDesk$Terms" "sorts" "[I" ∈ wsT := wsT_of (mC1 (List.mem_of_getElem? (i := 41) rfl)) rfl
theorem mW791 : Cond.fieldLink RX7 163 "LaytimeDesk$Terms" "firsts" "[I" ∈ wsT := wsT_of (mC1 (List.mem_of_getElem? (i := 44) rfl)) rfl
theorem mW792 : Cond.fieldLink RX7 166 "LaytimeDesk$Terms" "seconds" "[I" ∈ wsT := wsT_of (mC1 (List.mem_of_getElem? (i := 47) rfl)) rfl
theorem mW793 : Cond.fieldLink RX7 169 "LaytimeDesk$Port" "free" "[I" ∈ wsT := wsT_of (mC1 (List.mem_of_getElem? (i := 126) rfl)) rfl
theorem mW794 : Cond.methodLink RX7 138 yX7_addAsked ∈ wsT := wsT_of (mC4 (List.mem_of_getElem? (i := 20) rfl)) rfl
theorem mW795 : Cond.instanceMethod yX7_addAsked ∈ wsT := wsT_of (mC4 (List.mem_of_getElem? (i := 21) rfl)) rfl
theorem mW796 : Cond.selects RX7 yX7_addAsked yX7_addAsked ∈ wsT := wsT_of (mC4 (List.mem_of_getElem? (i := 22) rfl)) rfl
theorem mW797 : Cond.code yX7_addAsked cX7_addAsked 3 none ∈ wsT := wsT_of (mC4 (List.mem_of_getElem? (i := 23) rfl)) rfl
theorem mW798 : Cond.methodLink RX7 141 yX7_choose ∈ wsT := wsT_of (mC4 (List.mem_of_getElem? (i := 24) rfl)) rfl
theorem mW799 : Cond.instanceMethod yX7_choose ∈ wsT := wsT_of (mC4 (List.mem_of_getElem? (i := 25) rfl)) rfl
theorem mW800 : Cond.selects RX7 yX7_choose yX7_choose ∈ wsT := wsT_of (mC4 (List.mem_of_getElem? (i := 26) rfl)) rfl
theorem mW801 : Cond.code yX7_choose cX7_choose 6 none ∈ wsT := wsT_of (mC4 (List.mem_of_getElem? (i := 27) rfl)) rfl
theorem mW802 : Cond.fieldLink RX7 172 "LaytimeDesk$Terms" "yielding" "[I" ∈ wsT := wsT_of (mC1 (List.mem_of_getElem? (i := 51) rfl)) rfl
theorem mW803 : Cond.fieldLink RX7 175 "LaytimeDesk$Terms" "amounts" "[I" ∈ wsT := wsT_of (mC1 (List.mem_of_getElem? (i := 54) rfl)) rfl
theorem mW804 : Cond.methodLink RX7 178 yX7_halvesBy ∈ wsT := wsT_of (mC4 (List.mem_of_getElem? (i := 28) rfl)) rfl
theorem mW805 : Cond.instanceMethod yX7_halvesBy ∈ wsT := wsT_of (mC4 (List.mem_of_getElem? (i := 29) rfl)) rfl
theorem mW806 : Cond.selects RX7 yX7_halvesBy yX7_halvesBy ∈ wsT := wsT_of (mC4 (List.mem_of_getElem? (i := 30) rfl)) rfl
theorem mW807 : Cond.code yX7_halvesBy cX7_halvesBy 4 (some .int) ∈ wsT := wsT_of (mC4 (List.mem_of_getElem? (i := 31) rfl)) rfl
theorem mW808 : Cond.methodLink RX3 141 yX0_portAt ∈ wsT := wsT_of (mC4 (List.mem_of_getElem? (i := 32) rfl)) rfl
theorem mW809 : Cond.methodLink RX3 97 yX3_reach ∈ wsT := wsT_of (mC4 (List.mem_of_getElem? (i := 34) rfl)) rfl
theorem mW810 : Cond.instanceMethod yX3_reach ∈ wsT := wsT_of (mC4 (List.mem_of_getElem? (i := 35) rfl)) rfl
theorem mW811 : Cond.selects RX3 yX3_reach yX3_reach ∈ wsT := wsT_of (mC4 (List.mem_of_getElem? (i := 36) rfl)) rfl
theorem mW812 : Cond.code yX3_reach cX3_reach 3 none ∈ wsT := wsT_of (mC4 (List.mem_of_getElem? (i := 37) rfl)) rfl
theorem mW813 : Cond.fieldLink RX3 117 "LaytimeDesk$Group" "once" "I" ∈ wsT := wsT_of (mC2 (List.mem_of_getElem? (i := 94) rfl)) rfl
theorem mW814 : Cond.fieldLink RX3 120 "LaytimeDesk$Group" "oncePort" "I" ∈ wsT := wsT_of (mC2 (List.mem_of_getElem? (i := 96) rfl)) rfl
theorem mW815 : Cond.methodLink RX3 102 yX3_nextChange ∈ wsT := wsT_of (mC4 (List.mem_of_getElem? (i := 39) rfl)) rfl
theorem mW816 : Cond.instanceMethod yX3_nextChange ∈ wsT := wsT_of (mC4 (List.mem_of_getElem? (i := 40) rfl)) rfl
theorem mW817 : Cond.selects RX3 yX3_nextChange yX3_nextChange ∈ wsT := wsT_of (mC4 (List.mem_of_getElem? (i := 41) rfl)) rfl
theorem mW818 : Cond.code yX3_nextChange cX3_nextChange 6 (some .int) ∈ wsT := wsT_of (mC4 (List.mem_of_getElem? (i := 42) rfl)) rfl
theorem mW819 : Cond.fieldLink RX3 161 "LaytimeDesk$Walk" "until" "I" ∈ wsT := wsT_of (mC1 (List.mem_of_getElem? (i := 230) rfl)) rfl
theorem mW820 : Cond.fieldLink RX3 168 "LaytimeDesk$Walk" "here" "I" ∈ wsT := wsT_of (mC1 (List.mem_of_getElem? (i := 228) rfl)) rfl
theorem mW821 : Cond.methodLink RX3 158 yX3_isRunning ∈ wsT := wsT_of (mC4 (List.mem_of_getElem? (i := 43) rfl)) rfl
theorem mW822 : Cond.instanceMethod yX3_isRunning ∈ wsT := wsT_of (mC4 (List.mem_of_getElem? (i := 44) rfl)) rfl
theorem mW823 : Cond.selects RX3 yX3_isRunning yX3_isRunning ∈ wsT := wsT_of (mC4 (List.mem_of_getElem? (i := 45) rfl)) rfl
theorem mW824 : Cond.code yX3_isRunning cX3_isRunning 2 (some .boolean) ∈ wsT := wsT_of (mC4 (List.mem_of_getElem? (i := 46) rfl)) rfl
theorem mW825 : Cond.methodLink RX3 164 yX3_hasMinuteAt ∈ wsT := wsT_of (mC4 (List.mem_of_getElem? (i := 47) rfl)) rfl
theorem mW826 : Cond.instanceMethod yX3_hasMinuteAt ∈ wsT := wsT_of (mC4 (List.mem_of_getElem? (i := 48) rfl)) rfl
theorem mW827 : Cond.selects RX3 yX3_hasMinuteAt yX3_hasMinuteAt ∈ wsT := wsT_of (mC4 (List.mem_of_getElem? (i := 49) rfl)) rfl
theorem mW828 : Cond.code yX3_hasMinuteAt cX3_hasMinuteAt 3 (some .boolean) ∈ wsT := wsT_of (mC4 (List.mem_of_getElem? (i := 50) rfl)) rfl
theorem mW829 : Cond.methodLink RX3 106 yX3_halvesAt ∈ wsT := wsT_of (mC4 (List.mem_of_getElem? (i := 51) rfl)) rfl
theorem mW830 : Cond.instanceMethod yX3_halvesAt ∈ wsT := wsT_of (mC4 (List.mem_of_getElem? (i := 52) rfl)) rfl
theorem mW831 : Cond.selects RX3 yX3_halvesAt yX3_halvesAt ∈ wsT := wsT_of (mC4 (List.mem_of_getElem? (i := 53) rfl)) rfl
theorem mW832 : Cond.code yX3_halvesAt cX3_halvesAt 5 (some .long) ∈ wsT := wsT_of (mC4 (List.mem_of_getElem? (i := 54) rfl)) rfl
theorem mW833 : Cond.fieldLink RX3 171 "LaytimeDesk$Walk" "halves" "I" ∈ wsT := wsT_of (mC1 (List.mem_of_getElem? (i := 238) rfl)) rfl
theorem mW834 : Cond.methodLink RX3 110 yX3_reachAt ∈ wsT := wsT_of (mC4 (List.mem_of_getElem? (i := 55) rfl)) rfl
theorem mW835 : Cond.instanceMethod yX3_reachAt ∈ wsT := wsT_of (mC4 (List.mem_of_getElem? (i := 56) rfl)) rfl
theorem mW836 : Cond.selects RX3 yX3_reachAt yX3_reachAt ∈ wsT := wsT_of (mC4 (List.mem_of_getElem? (i := 57) rfl)) rfl
theorem mW837 : Cond.code yX3_reachAt cX3_reachAt 3 none ∈ wsT := wsT_of (mC4 (List.mem_of_getElem? (i := 58) rfl)) rfl
theorem mW838 : Cond.methodLink RX3 114 yX3_stepAll ∈ wsT := wsT_of (mC4 (List.mem_of_getElem? (i := 59) rfl)) rfl
theorem mW839 : Cond.instanceMethod yX3_stepAll ∈ wsT := wsT_of (mC4 (List.mem_of_getElem? (i := 60) rfl)) rfl
theorem mW840 : Cond.selects RX3 yX3_stepAll yX3_stepAll ∈ wsT := wsT_of (mC4 (List.mem_of_getElem? (i := 61) rfl)) rfl
theorem mW841 : Cond.code yX3_stepAll cX3_stepAll 4 none ∈ wsT := wsT_of (mC4 (List.mem_of_getElem? (i := 62) rfl)) rfl
theorem mW842 : Cond.methodLink RX8 264 yX3_walkIn ∈ wsT := wsT_of (mC4 (List.mem_of_getElem? (i := 63) rfl)) rfl
theorem mW843 : Cond.instanceMethod yX3_walkIn ∈ wsT := wsT_of (mC4 (List.mem_of_getElem? (i := 64) rfl)) rfl
theorem mW844 : Cond.selects RX3 yX3_walkIn yX3_walkIn ∈ wsT := wsT_of (mC4 (List.mem_of_getElem? (i := 65) rfl)) rfl
theorem mW845 : Cond.code yX3_walkIn cX3_walkIn 7 (some (.object "LaytimeDesk$Walk")) ∈ wsT := wsT_of (mC4 (List.mem_of_getElem? (i := 66) rfl)) rfl
theorem mW846 : Cond.methodLink RX3 174 Lib.Math.max.name ∈ wsT := wsT_of (mC4 (List.mem_of_getElem? (i := 67) rfl)) rfl
theorem mW847 : Cond.methodLink RX3 177 yX3_overFrom ∈ wsT := wsT_of (mC4 (List.mem_of_getElem? (i := 68) rfl)) rfl
theorem mW848 : Cond.instanceMethod yX3_overFrom ∈ wsT := wsT_of (mC4 (List.mem_of_getElem? (i := 69) rfl)) rfl
theorem mW849 : Cond.selects RX3 yX3_overFrom yX3_overFrom ∈ wsT := wsT_of (mC4 (List.mem_of_getElem? (i := 70) rfl)) rfl
theorem mW850 : Cond.code yX3_overFrom cX3_overFrom 2 (some .int) ∈ wsT := wsT_of (mC4 (List.mem_of_getElem? (i := 71) rfl)) rfl
theorem mW851 : Cond.methodLink RX8 268 yX7_step ∈ wsT := wsT_of (mC4 (List.mem_of_getElem? (i := 72) rfl)) rfl
theorem mW852 : Cond.methodLink RL 128 yX9_minute ∈ wsT := wsT_of (mC6 (List.mem_of_getElem? (i := 142) rfl)) rfl
theorem mW853 : Cond.instanceMethod yX9_minute ∈ wsT := wsT_of (mC6 (List.mem_of_getElem? (i := 143) rfl)) rfl
theorem mW854 : Cond.selects RX9 yX9_minute yX9_minute ∈ wsT := wsT_of (mC6 (List.mem_of_getElem? (i := 144) rfl)) rfl
theorem mW855 : Cond.code yX9_minute cX9_minute 5 (some .int) ∈ wsT := wsT_of (mC6 (List.mem_of_getElem? (i := 145) rfl)) rfl
theorem mW856 : Cond.fieldLink RX9 266 "LaytimeDeskModel" "foundHalves" "I" ∈ wsT := wsT_of (mC5 (List.mem_of_getElem? (i := 27) rfl)) rfl
theorem mW857 : Cond.methodLink RX9 340 yX9_seek ∈ wsT := wsT_of (mC6 (List.mem_of_getElem? (i := 146) rfl)) rfl
theorem mW858 : Cond.instanceMethod yX9_seek ∈ wsT := wsT_of (mC6 (List.mem_of_getElem? (i := 148) rfl)) rfl
theorem mW859 : Cond.selects RX9 yX9_seek yX9_seek ∈ wsT := wsT_of (List.mem_of_getElem? (l := lw_tbl) (i := 35) (by decide +kernel)) rfl
theorem mW860 : Cond.code yX9_seek cX9_seek 6 none ∈ wsT := wsT_of (mC6 (List.mem_of_getElem? (i := 149) rfl)) rfl
theorem mW861 : Cond.fieldLink RX9 305 "LaytimeDeskModel" "seekPort" "I" ∈ wsT := wsT_of (mC5 (List.mem_of_getElem? (i := 21) rfl)) rfl
theorem mW862 : Cond.fieldLink RX9 308 "LaytimeDeskModel" "seekMinute" "I" ∈ wsT := wsT_of (mC5 (List.mem_of_getElem? (i := 22) rfl)) rfl
theorem mW863 : Cond.fieldLink RX9 311 "LaytimeDeskModel" "seekFrom" "I" ∈ wsT := wsT_of (mC5 (List.mem_of_getElem? (i := 23) rfl)) rfl
theorem mW864 : Cond.fieldLink RX9 314 "LaytimeDeskModel" "seekTo" "I" ∈ wsT := wsT_of (mC5 (List.mem_of_getElem? (i := 24) rfl)) rfl
theorem mW865 : Cond.fieldLink RX9 317 "LaytimeDeskModel" "seekPlace" "I" ∈ wsT := wsT_of (mC5 (List.mem_of_getElem? (i := 25) rfl)) rfl
theorem mW866 : Cond.fieldLink RX9 323 "LaytimeDeskModel" "row" "I" ∈ wsT := wsT_of (mC5 (List.mem_of_getElem? (i := 35) rfl)) rfl
theorem mW867 : Cond.fieldLink RX9 329 "LaytimeDeskModel" "inRow" "I" ∈ wsT := wsT_of (mC5 (List.mem_of_getElem? (i := 36) rfl)) rfl
theorem mW868 : Cond.fieldLink RX9 320 "LaytimeDeskModel" "wrongAt" "I" ∈ wsT := wsT_of (mC5 (List.mem_of_getElem? (i := 37) rfl)) rfl
theorem mW869 : Cond.methodLink RX9 344 yX9_walk ∈ wsT := wsT_of (mC6 (List.mem_of_getElem? (i := 150) rfl)) rfl
theorem mW870 : Cond.instanceMethod yX9_walk ∈ wsT := wsT_of (mC6 (List.mem_of_getElem? (i := 152) rfl)) rfl
theorem mW871 : Cond.selects RX9 yX9_walk yX9_walk ∈ wsT := wsT_of (List.mem_of_getElem? (l := lw_tbl) (i := 36) (by decide +kernel)) rfl
theorem mW872 : Cond.code yX9_walk cX9_walk 17 none ∈ wsT := wsT_of (mC6 (List.mem_of_getElem? (i := 153) rfl)) rfl
theorem mW873 : Cond.fieldLink RX9 247 "LaytimeDeskModel" "halves" "J" ∈ wsT := wsT_of (mC5 (List.mem_of_getElem? (i := 30) rfl)) rfl
theorem mW874 : Cond.fieldLink RX9 251 "LaytimeDeskModel" "limit" "J" ∈ wsT := wsT_of (mC5 (List.mem_of_getElem? (i := 31) rfl)) rfl
theorem mW875 : Cond.fieldLink RX9 254 "LaytimeDeskModel" "minutes" "J" ∈ wsT := wsT_of (mC5 (List.mem_of_getElem? (i := 32) rfl)) rfl
theorem mW876 : Cond.fieldLink RX9 257 "LaytimeDeskModel" "once" "J" ∈ wsT := wsT_of (mC5 (List.mem_of_getElem? (i := 33) rfl)) rfl
theorem mW877 : Cond.fieldLink RX9 260 "LaytimeDeskModel" "counting" "I" ∈ wsT := wsT_of (mC5 (List.mem_of_getElem? (i := 34) rfl)) rfl
theorem mW878 : Cond.fieldLink RX9 263 "LaytimeDeskModel" "foundWhy" "I" ∈ wsT := wsT_of (mC5 (List.mem_of_getElem? (i := 26) rfl)) rfl
theorem mW879 : Cond.fieldLink RX9 269 "LaytimeDeskModel" "spanHalves" "J" ∈ wsT := wsT_of (mC5 (List.mem_of_getElem? (i := 28) rfl)) rfl
theorem mW880 : Cond.fieldLink RX9 272 "LaytimeDeskModel" "byMany" "I" ∈ wsT := wsT_of (mC5 (List.mem_of_getElem? (i := 29) rfl)) rfl
theorem mW881 : Cond.fieldLink RX9 275 "LaytimeDeskModel" "portHalves" "J" ∈ wsT := wsT_of (mC5 (List.mem_of_getElem? (i := 38) rfl)) rfl
theorem mW882 : Cond.constantLong RX9 280 (9223372036854775807) ∈ wsT := wsT_of (mC6 (List.mem_of_getElem? (i := 154) rfl)) rfl
theorem mW883 : Cond.constantLong RX9 285 (2) ∈ wsT := wsT_of (mC6 (List.mem_of_getElem? (i := 155) rfl)) rfl
theorem mW884 : Cond.methodLink RX9 294 yX9_step ∈ wsT := wsT_of (mC6 (List.mem_of_getElem? (i := 156) rfl)) rfl
theorem mW885 : Cond.instanceMethod yX9_step ∈ wsT := wsT_of (mC6 (List.mem_of_getElem? (i := 158) rfl)) rfl
theorem mW886 : Cond.selects RX9 yX9_step yX9_step ∈ wsT := wsT_of (List.mem_of_getElem? (l := lw_tbl) (i := 37) (by decide +kernel)) rfl
theorem mW887 : Cond.code yX9_step cX9_step 12 none ∈ wsT := wsT_of (mC6 (List.mem_of_getElem? (i := 159) rfl)) rfl
theorem mW888 : Cond.fieldLink RX9 326 "LaytimeDeskModel" "rows" "I" ∈ wsT := wsT_of (mC4 (List.mem_of_getElem? (i := 214) rfl)) rfl
theorem mW889 : Cond.methodLink RX9 298 yX9_teller ∈ wsT := wsT_of (mC6 (List.mem_of_getElem? (i := 160) rfl)) rfl
theorem mW890 : Cond.instanceMethod yX9_teller ∈ wsT := wsT_of (mC6 (List.mem_of_getElem? (i := 162) rfl)) rfl
theorem mW891 : Cond.selects RX9 yX9_teller yX9_teller ∈ wsT := wsT_of (List.mem_of_getElem? (l := lw_tbl) (i := 38) (by decide +kernel)) rfl
theorem mW892 : Cond.code yX9_teller cX9_teller 16 (some .int) ∈ wsT := wsT_of (mC6 (List.mem_of_getElem? (i := 163) rfl)) rfl
theorem mW893 : Cond.methodLink RX9 239 yX9_isAsked ∈ wsT := wsT_of (mC6 (List.mem_of_getElem? (i := 164) rfl)) rfl
theorem mW894 : Cond.instanceMethod yX9_isAsked ∈ wsT := wsT_of (mC6 (List.mem_of_getElem? (i := 166) rfl)) rfl
theorem mW895 : Cond.selects RX9 yX9_isAsked yX9_isAsked ∈ wsT := wsT_of (List.mem_of_getElem? (l := lw_tbl) (i := 39) (by decide +kernel)) rfl
theorem mW896 : Cond.code yX9_isAsked cX9_isAsked 7 (some .boolean) ∈ wsT := wsT_of (mC6 (List.mem_of_getElem? (i := 167) rfl)) rfl
theorem mW897 : Cond.methodLink RX9 243 yX9_hasMinute ∈ wsT := wsT_of (mC6 (List.mem_of_getElem? (i := 168) rfl)) rfl
theorem mW898 : Cond.instanceMethod yX9_hasMinute ∈ wsT := wsT_of (mC6 (List.mem_of_getElem? (i := 170) rfl)) rfl
theorem mW899 : Cond.selects RX9 yX9_hasMinute yX9_hasMinute ∈ wsT := wsT_of (List.mem_of_getElem? (l := lw_tbl) (i := 40) (by decide +kernel)) rfl
theorem mW900 : Cond.code yX9_hasMinute cX9_hasMinute 8 (some .boolean) ∈ wsT := wsT_of (mC6 (List.mem_of_getElem? (i := 171) rfl)) rfl
theorem mW901 : Cond.methodLink RX9 302 yX9_adds ∈ wsT := wsT_of (mC6 (List.mem_of_getElem? (i := 172) rfl)) rfl
theorem mW902 : Cond.instanceMethod yX9_adds ∈ wsT := wsT_of (mC6 (List.mem_of_getElem? (i := 174) rfl)) rfl
theorem mW903 : Cond.selects RX9 yX9_adds yX9_adds ∈ wsT := wsT_of (List.mem_of_getElem? (l := lw_tbl) (i := 41) (by decide +kernel)) rfl
theorem mW904 : Cond.code yX9_adds cX9_adds 3 (some .int) ∈ wsT := wsT_of (mC6 (List.mem_of_getElem? (i := 175) rfl)) rfl
theorem mW905 : Cond.methodLink RL 129 yX8_why ∈ wsT := wsT_of (mC4 (List.mem_of_getElem? (i := 73) rfl)) rfl
theorem mW906 : Cond.instanceMethod yX8_why ∈ wsT := wsT_of (mC4 (List.mem_of_getElem? (i := 74) rfl)) rfl
theorem mW907 : Cond.selects RX8 yX8_why yX8_why ∈ wsT := wsT_of (mC4 (List.mem_of_getElem? (i := 75) rfl)) rfl
theorem mW908 : Cond.code yX8_why cX8_why 5 (some .int) ∈ wsT := wsT_of (mC4 (List.mem_of_getElem? (i := 76) rfl)) rfl
theorem mW909 : Cond.methodLink RL 132 yX9_why ∈ wsT := wsT_of (mC6 (List.mem_of_getElem? (i := 176) rfl)) rfl
theorem mW910 : Cond.instanceMethod yX9_why ∈ wsT := wsT_of (mC6 (List.mem_of_getElem? (i := 177) rfl)) rfl
theorem mW911 : Cond.selects RX9 yX9_why yX9_why ∈ wsT := wsT_of (mC6 (List.mem_of_getElem? (i := 178) rfl)) rfl
theorem mW912 : Cond.code yX9_why cX9_why 5 (some .int) ∈ wsT := wsT_of (mC6 (List.mem_of_getElem? (i := 179) rfl)) rfl
theorem mW913 : Cond.methodLink RL 133 yX8_counts ∈ wsT := wsT_of (mC4 (List.mem_of_getElem? (i := 77) rfl)) rfl
theorem mW914 : Cond.instanceMethod yX8_counts ∈ wsT := wsT_of (mC4 (List.mem_of_getElem? (i := 78) rfl)) rfl
theorem mW915 : Cond.selects RX8 yX8_counts yX8_counts ∈ wsT := wsT_of (mC4 (List.mem_of_getElem? (i := 79) rfl)) rfl
theorem mW916 : Cond.code yX8_counts cX8_counts 5 (some .int) ∈ wsT := wsT_of (mC4 (List.mem_of_getElem? (i := 80) rfl)) rfl
theorem mW917 : Cond.methodLink RX8 280 yX3_halvesOf ∈ wsT := wsT_of (mC4 (List.mem_of_getElem? (i := 81) rfl)) rfl
theorem mW918 : Cond.instanceMethod yX3_halvesOf ∈ wsT := wsT_of (mC4 (List.mem_of_getElem? (i := 82) rfl)) rfl
theorem mW919 : Cond.selects RX3 yX3_halvesOf yX3_halvesOf ∈ wsT := wsT_of (mC4 (List.mem_of_getElem? (i := 83) rfl)) rfl
theorem mW920 : Cond.code yX3_halvesOf cX3_halvesOf 7 (some .int) ∈ wsT := wsT_of (mC4 (List.mem_of_getElem? (i := 84) rfl)) rfl
theorem mW921 : Cond.methodLink RX3 180 yX3_walkIn ∈ wsT := wsT_of (mC4 (List.mem_of_getElem? (i := 85) rfl)) rfl
theorem mW922 : Cond.methodLink RL 137 yX9_counts ∈ wsT := wsT_of (mC6 (List.mem_of_getElem? (i := 180) rfl)) rfl
theorem mW923 : Cond.instanceMethod yX9_counts ∈ wsT := wsT_of (mC6 (List.mem_of_getElem? (i := 181) rfl)) rfl
theorem mW924 : Cond.selects RX9 yX9_counts yX9_counts ∈ wsT := wsT_of (mC6 (List.mem_of_getElem? (i := 182) rfl)) rfl
theorem mW925 : Cond.code yX9_counts cX9_counts 6 (some .int) ∈ wsT := wsT_of (mC6 (List.mem_of_getElem? (i := 183) rfl)) rfl
theorem mW926 : Cond.methodLink RL 138 yX8_by ∈ wsT := wsT_of (mC4 (List.mem_of_getElem? (i := 86) rfl)) rfl
theorem mW927 : Cond.instanceMethod yX8_by ∈ wsT := wsT_of (mC4 (List.mem_of_getElem? (i := 87) rfl)) rfl
theorem mW928 : Cond.selects RX8 yX8_by yX8_by ∈ wsT := wsT_of (mC4 (List.mem_of_getElem? (i := 88) rfl)) rfl
theorem mW929 : Cond.code yX8_by cX8_by 4 (some .int) ∈ wsT := wsT_of (mC4 (List.mem_of_getElem? (i := 89) rfl)) rfl
theorem mW930 : Cond.methodLink RX8 283 yX8_isWhy ∈ wsT := wsT_of (mC4 (List.mem_of_getElem? (i := 90) rfl)) rfl
theorem mW931 : Cond.static yX8_isWhy ∈ wsT := wsT_of (mC4 (List.mem_of_getElem? (i := 91) rfl)) rfl
theorem mW932 : Cond.code yX8_isWhy cX8_isWhy 1 (some .boolean) ∈ wsT := wsT_of (mC4 (List.mem_of_getElem? (i := 92) rfl)) rfl
theorem mW933 : Cond.methodLink RX8 286 yX3_minutesBy ∈ wsT := wsT_of (mC4 (List.mem_of_getElem? (i := 93) rfl)) rfl
theorem mW934 : Cond.instanceMethod yX3_minutesBy ∈ wsT := wsT_of (mC4 (List.mem_of_getElem? (i := 94) rfl)) rfl
theorem mW935 : Cond.selects RX3 yX3_minutesBy yX3_minutesBy ∈ wsT := wsT_of (mC4 (List.mem_of_getElem? (i := 95) rfl)) rfl
theorem mW936 : Cond.code yX3_minutesBy cX3_minutesBy 6 (some .int) ∈ wsT := wsT_of (mC4 (List.mem_of_getElem? (i := 96) rfl)) rfl
theorem mW937 : Cond.constant RX3 184 (129600) ∈ wsT := wsT_of (mC4 (List.mem_of_getElem? (i := 97) rfl)) rfl
theorem mW938 : Cond.fieldLink RX3 185 "LaytimeDesk$Walk" "why" "I" ∈ wsT := wsT_of (mC2 (List.mem_of_getElem? (i := 1) rfl)) rfl
theorem mW939 : Cond.methodLink RL 141 yX9_by ∈ wsT := wsT_of (mC6 (List.mem_of_getElem? (i := 184) rfl)) rfl
theorem mW940 : Cond.instanceMethod yX9_by ∈ wsT := wsT_of (mC6 (List.mem_of_getElem? (i := 185) rfl)) rfl
theorem mW941 : Cond.selects RX9 yX9_by yX9_by ∈ wsT := wsT_of (mC6 (List.mem_of_getElem? (i := 186) rfl)) rfl
theorem mW942 : Cond.code yX9_by cX9_by 5 (some .int) ∈ wsT := wsT_of (mC6 (List.mem_of_getElem? (i := 187) rfl)) rfl
theorem mW943 : Cond.methodLink RL 142 yX8_sum ∈ wsT := wsT_of (mC4 (List.mem_of_getElem? (i := 98) rfl)) rfl
theorem mW944 : Cond.instanceMethod yX8_sum ∈ wsT := wsT_of (mC4 (List.mem_of_getElem? (i := 99) rfl)) rfl
theorem mW945 : Cond.selects RX8 yX8_sum yX8_sum ∈ wsT := wsT_of (mC4 (List.mem_of_getElem? (i := 100) rfl)) rfl
theorem mW946 : Cond.code yX8_sum cX8_sum 4 (some .long) ∈ wsT := wsT_of (mC4 (List.mem_of_getElem? (i := 101) rfl)) rfl
theorem mW947 : Cond.fieldLink RX8 292 "LaytimeDesk$Group" "halves" "J" ∈ wsT := wsT_of (mC2 (List.mem_of_getElem? (i := 91) rfl)) rfl
theorem mW948 : Cond.fieldLink RX8 294 "LaytimeDesk$Group" "limit" "J" ∈ wsT := wsT_of (mC2 (List.mem_of_getElem? (i := 88) rfl)) rfl
theorem mW949 : Cond.fieldLink RX8 297 "LaytimeDesk$Group" "reached" "Z" ∈ wsT := wsT_of (mC2 (List.mem_of_getElem? (i := 93) rfl)) rfl
theorem mW950 : Cond.fieldLink RX8 300 "LaytimeDesk$Group" "once" "I" ∈ wsT := wsT_of (mC2 (List.mem_of_getElem? (i := 95) rfl)) rfl
theorem mW951 : Cond.fieldLink RX8 319 "LaytimeDesk$Group" "counting" "I" ∈ wsT := wsT_of (mC2 (List.mem_of_getElem? (i := 85) rfl)) rfl
theorem mW952 : Cond.methodLink RX8 289 yX3_settle ∈ wsT := wsT_of (mC4 (List.mem_of_getElem? (i := 102) rfl)) rfl
theorem mW953 : Cond.instanceMethod yX3_settle ∈ wsT := wsT_of (mC4 (List.mem_of_getElem? (i := 103) rfl)) rfl
theorem mW954 : Cond.selects RX3 yX3_settle yX3_settle ∈ wsT := wsT_of (mC4 (List.mem_of_getElem? (i := 104) rfl)) rfl
theorem mW955 : Cond.code yX3_settle cX3_settle 2 none ∈ wsT := wsT_of (mC4 (List.mem_of_getElem? (i := 105) rfl)) rfl
theorem mW956 : Cond.fieldLink RX3 207 "LaytimeDesk$Group" "halves" "J" ∈ wsT := wsT_of (mC2 (List.mem_of_getElem? (i := 90) rfl)) rfl
theorem mW957 : Cond.methodLink RX3 209 yX3_halvesOf ∈ wsT := wsT_of (mC4 (List.mem_of_getElem? (i := 106) rfl)) rfl
theorem mW958 : Cond.methodLink RX8 303 yX3_owed ∈ wsT := wsT_of (mC4 (List.mem_of_getElem? (i := 107) rfl)) rfl
theorem mW959 : Cond.instanceMethod yX3_owed ∈ wsT := wsT_of (mC4 (List.mem_of_getElem? (i := 108) rfl)) rfl
theorem mW960 : Cond.selects RX3 yX3_owed yX3_owed ∈ wsT := wsT_of (mC4 (List.mem_of_getElem? (i := 109) rfl)) rfl
theorem mW961 : Cond.code yX3_owed cX3_owed 1 (some .long) ∈ wsT := wsT_of (mC4 (List.mem_of_getElem? (i := 110) rfl)) rfl
theorem mW962 : Cond.methodLink RX3 213 Lib.MathLoose.max_long.x ∈ wsT := wsT_of (mC4 (List.mem_of_getElem? (i := 111) rfl)) rfl
theorem mW963 : Cond.static Lib.MathLoose.max_long.x ∈ wsT := wsT_of (mC4 (List.mem_of_getElem? (i := 112) rfl)) rfl
theorem mW964 : Cond.code Lib.MathLoose.max_long.x Lib.MathLoose.max_long.code 4 (some .long) ∈ wsT := wsT_of (mC4 (List.mem_of_getElem? (i := 113) rfl)) rfl
theorem mW965 : Cond.methodLink RX8 307 yX3_saved ∈ wsT := wsT_of (mC4 (List.mem_of_getElem? (i := 114) rfl)) rfl
theorem mW966 : Cond.instanceMethod yX3_saved ∈ wsT := wsT_of (mC4 (List.mem_of_getElem? (i := 115) rfl)) rfl
theorem mW967 : Cond.selects RX3 yX3_saved yX3_saved ∈ wsT := wsT_of (mC4 (List.mem_of_getElem? (i := 116) rfl)) rfl
theorem mW968 : Cond.code yX3_saved cX3_saved 1 (some .long) ∈ wsT := wsT_of (mC4 (List.mem_of_getElem? (i := 117) rfl)) rfl
theorem mW969 : Cond.methodLink RX8 310 yX3_money ∈ wsT := wsT_of (mC4 (List.mem_of_getElem? (i := 118) rfl)) rfl
theorem mW970 : Cond.instanceMethod yX3_money ∈ wsT := wsT_of (mC4 (List.mem_of_getElem? (i := 119) rfl)) rfl
theorem mW971 : Cond.selects RX3 yX3_money yX3_money ∈ wsT := wsT_of (mC4 (List.mem_of_getElem? (i := 120) rfl)) rfl
theorem mW972 : Cond.code yX3_money cX3_money 2 (some .long) ∈ wsT := wsT_of (mC4 (List.mem_of_getElem? (i := 121) rfl)) rfl
theorem mW973 : Cond.fieldLink RX3 223 "LaytimeDesk$Port" "owedRate" "J" ∈ wsT := wsT_of (mC1 (List.mem_of_getElem? (i := 149) rfl)) rfl
theorem mW974 : Cond.constantLong RX3 226 (2880) ∈ wsT := wsT_of (mC4 (List.mem_of_getElem? (i := 127) rfl)) rfl
theorem mW975 : Cond.fieldLink RX3 231 "LaytimeDesk$Port" "savedRate" "J" ∈ wsT := wsT_of (mC1 (List.mem_of_getElem? (i := 152) rfl)) rfl
theorem mW976 : Cond.methodLink RX3 216 yX3_leastPort ∈ wsT := wsT_of (mC4 (List.mem_of_getElem? (i := 122) rfl)) rfl
theorem mW977 : Cond.instanceMethod yX3_leastPort ∈ wsT := wsT_of (mC4 (List.mem_of_getElem? (i := 123) rfl)) rfl
theorem mW978 : Cond.selects RX3 yX3_leastPort yX3_leastPort ∈ wsT := wsT_of (mC4 (List.mem_of_getElem? (i := 124) rfl)) rfl
theorem mW979 : Cond.code yX3_leastPort cX3_leastPort 2 (some .int) ∈ wsT := wsT_of (mC4 (List.mem_of_getElem? (i := 125) rfl)) rfl
theorem mW980 : Cond.methodLink RX3 219 yX3_owed ∈ wsT := wsT_of (mC4 (List.mem_of_getElem? (i := 126) rfl)) rfl
theorem mW981 : Cond.methodLink RX3 228 yX3_saved ∈ wsT := wsT_of (mC4 (List.mem_of_getElem? (i := 128) rfl)) rfl
theorem mW982 : Cond.methodLink RX8 313 yX3_minutes ∈ wsT := wsT_of (mC4 (List.mem_of_getElem? (i := 129) rfl)) rfl
theorem mW983 : Cond.instanceMethod yX3_minutes ∈ wsT := wsT_of (mC4 (List.mem_of_getElem? (i := 130) rfl)) rfl
theorem mW984 : Cond.selects RX3 yX3_minutes yX3_minutes ∈ wsT := wsT_of (mC4 (List.mem_of_getElem? (i := 131) rfl)) rfl
theorem mW985 : Cond.code yX3_minutes cX3_minutes 3 (some .int) ∈ wsT := wsT_of (mC4 (List.mem_of_getElem? (i := 132) rfl)) rfl
theorem mW986 : Cond.methodLink RX8 316 yX3_leastPort ∈ wsT := wsT_of (mC4 (List.mem_of_getElem? (i := 133) rfl)) rfl
theorem mW987 : Cond.methodLink RL 146 yX9_sum ∈ wsT := wsT_of (mC6 (List.mem_of_getElem? (i := 188) rfl)) rfl
theorem mW988 : Cond.instanceMethod yX9_sum ∈ wsT := wsT_of (mC6 (List.mem_of_getElem? (i := 189) rfl)) rfl
theorem mW989 : Cond.selects RX9 yX9_sum yX9_sum ∈ wsT := wsT_of (mC6 (List.mem_of_getElem? (i := 190) rfl)) rfl
theorem mW990 : Cond.code yX9_sum cX9_sum 6 (some .long) ∈ wsT := wsT_of (mC6 (List.mem_of_getElem? (i := 191) rfl)) rfl
theorem mW991 : Cond.constantLong RX9 365 (2880) ∈ wsT := wsT_of (mC6 (List.mem_of_getElem? (i := 212) rfl)) rfl
theorem mW992 : Cond.methodLink RX9 354 yX9_leastPort ∈ wsT := wsT_of (mC6 (List.mem_of_getElem? (i := 192) rfl)) rfl
theorem mW993 : Cond.instanceMethod yX9_leastPort ∈ wsT := wsT_of (mC6 (List.mem_of_getElem? (i := 194) rfl)) rfl
theorem mW994 : Cond.selects RX9 yX9_leastPort yX9_leastPort ∈ wsT := wsT_of (List.mem_of_getElem? (l := lw_tbl) (i := 42) (by decide +kernel)) rfl
theorem mW995 : Cond.code yX9_leastPort cX9_leastPort 3 (some .int) ∈ wsT := wsT_of (mC6 (List.mem_of_getElem? (i := 195) rfl)) rfl
theorem mW996 : Cond.methodLink RX9 357 yX9_owed ∈ wsT := wsT_of (mC6 (List.mem_of_getElem? (i := 196) rfl)) rfl
theorem mW997 : Cond.instanceMethod yX9_owed ∈ wsT := wsT_of (mC6 (List.mem_of_getElem? (i := 198) rfl)) rfl
theorem mW998 : Cond.selects RX9 yX9_owed yX9_owed ∈ wsT := wsT_of (List.mem_of_getElem? (l := lw_tbl) (i := 43) (by decide +kernel)) rfl
theorem mW999 : Cond.code yX9_owed cX9_owed 1 (some .long) ∈ wsT := wsT_of (mC6 (List.mem_of_getElem? (i := 199) rfl)) rfl
theorem mW1000 : Cond.methodLink RX9 361 yX9_saved ∈ wsT := wsT_of (mC6 (List.mem_of_getElem? (i := 200) rfl)) rfl
theorem mW1001 : Cond.instanceMethod yX9_saved ∈ wsT := wsT_of (mC6 (List.mem_of_getElem? (i := 202) rfl)) rfl
theorem mW1002 : Cond.selects RX9 yX9_saved yX9_saved ∈ wsT := wsT_of (List.mem_of_getElem? (l := lw_tbl) (i := 44) (by decide +kernel)) rfl
theorem mW1003 : Cond.code yX9_saved cX9_saved 2 (some .long) ∈ wsT := wsT_of (mC6 (List.mem_of_getElem? (i := 203) rfl)) rfl
theorem mW1004 : Cond.methodLink RX9 351 yX9_isEnded ∈ wsT := wsT_of (mC6 (List.mem_of_getElem? (i := 204) rfl)) rfl
theorem mW1005 : Cond.instanceMethod yX9_isEnded ∈ wsT := wsT_of (mC6 (List.mem_of_getElem? (i := 206) rfl)) rfl
theorem mW1006 : Cond.selects RX9 yX9_isEnded yX9_isEnded ∈ wsT := wsT_of (List.mem_of_getElem? (l := lw_tbl) (i := 45) (by decide +kernel)) rfl
theorem mW1007 : Cond.code yX9_isEnded cX9_isEnded 4 (some .boolean) ∈ wsT := wsT_of (mC6 (List.mem_of_getElem? (i := 207) rfl)) rfl
theorem mW1008 : Cond.methodLink RX9 348 yX9_hasEnd ∈ wsT := wsT_of (mC6 (List.mem_of_getElem? (i := 208) rfl)) rfl
theorem mW1009 : Cond.instanceMethod yX9_hasEnd ∈ wsT := wsT_of (mC6 (List.mem_of_getElem? (i := 210) rfl)) rfl
theorem mW1010 : Cond.selects RX9 yX9_hasEnd yX9_hasEnd ∈ wsT := wsT_of (List.mem_of_getElem? (l := lw_tbl) (i := 46) (by decide +kernel)) rfl
theorem mW1011 : Cond.code yX9_hasEnd cX9_hasEnd 2 (some .boolean) ∈ wsT := wsT_of (mC6 (List.mem_of_getElem? (i := 211) rfl)) rfl
theorem mW1012 : Cond.methodLink RL 147 yX8_as ∈ wsT := wsT_of (mC4 (List.mem_of_getElem? (i := 134) rfl)) rfl
theorem mW1013 : Cond.instanceMethod yX8_as ∈ wsT := wsT_of (mC4 (List.mem_of_getElem? (i := 135) rfl)) rfl
theorem mW1014 : Cond.selects RX8 yX8_as yX8_as ∈ wsT := wsT_of (mC4 (List.mem_of_getElem? (i := 136) rfl)) rfl
theorem mW1015 : Cond.code yX8_as cX8_as 11 (some .long) ∈ wsT := wsT_of (mC4 (List.mem_of_getElem? (i := 137) rfl)) rfl
theorem mW1016 : Cond.methodLink RX8 322 yX6_copyRow ∈ wsT := wsT_of (mC4 (List.mem_of_getElem? (i := 138) rfl)) rfl
theorem mW1017 : Cond.instanceMethod yX6_copyRow ∈ wsT := wsT_of (mC4 (List.mem_of_getElem? (i := 139) rfl)) rfl
theorem mW1018 : Cond.selects RX6 yX6_copyRow yX6_copyRow ∈ wsT := wsT_of (mC4 (List.mem_of_getElem? (i := 140) rfl)) rfl
theorem mW1019 : Cond.code yX6_copyRow cX6_copyRow 3 none ∈ wsT := wsT_of (mC4 (List.mem_of_getElem? (i := 141) rfl)) rfl
theorem mW1020 : Cond.methodLink RL 151 yX9_as ∈ wsT := wsT_of (mC6 (List.mem_of_getElem? (i := 213) rfl)) rfl
theorem mW1021 : Cond.instanceMethod yX9_as ∈ wsT := wsT_of (mC6 (List.mem_of_getElem? (i := 214) rfl)) rfl
theorem mW1022 : Cond.selects RX9 yX9_as yX9_as ∈ wsT := wsT_of (mC6 (List.mem_of_getElem? (i := 215) rfl)) rfl
theorem mW1023 : Cond.code yX9_as cX9_as 6 (some .long) ∈ wsT := wsT_of (mC6 (List.mem_of_getElem? (i := 216) rfl)) rfl
theorem mW1024 : Cond.methodLink RL 152 yX8_claim ∈ wsT := wsT_of (mC4 (List.mem_of_getElem? (i := 142) rfl)) rfl
theorem mW1025 : Cond.instanceMethod yX8_claim ∈ wsT := wsT_of (mC4 (List.mem_of_getElem? (i := 143) rfl)) rfl
theorem mW1026 : Cond.selects RX8 yX8_claim yX8_claim ∈ wsT := wsT_of (mC4 (List.mem_of_getElem? (i := 144) rfl)) rfl
theorem mW1027 : Cond.code yX8_claim cX8_claim 2 (some .boolean) ∈ wsT := wsT_of (mC4 (List.mem_of_getElem? (i := 145) rfl)) rfl
theorem mW1028 : Cond.fieldLink RX8 325 "LaytimeDesk$Book" "claimed" "LLaytimeDesk$Claimed;" ∈ wsT := wsT_of (mC1 (List.mem_of_getElem? (i := 185) rfl)) rfl
theorem mW1029 : Cond.methodLink RX8 329 yX1_begin ∈ wsT := wsT_of (mC4 (List.mem_of_getElem? (i := 146) rfl)) rfl
theorem mW1030 : Cond.instanceMethod yX1_begin ∈ wsT := wsT_of (mC4 (List.mem_of_getElem? (i := 147) rfl)) rfl
theorem mW1031 : Cond.selects RX1 yX1_begin yX1_begin ∈ wsT := wsT_of (mC4 (List.mem_of_getElem? (i := 148) rfl)) rfl
theorem mW1032 : Cond.code yX1_begin cX1_begin 2 none ∈ wsT := wsT_of (mC4 (List.mem_of_getElem? (i := 149) rfl)) rfl
theorem mW1033 : Cond.fieldLink RX1 22 "LaytimeDesk$Claimed" "rows" "I" ∈ wsT := wsT_of (mC1 (List.mem_of_getElem? (i := 100) rfl)) rfl
theorem mW1034 : Cond.methodLink RL 155 yX9_claim ∈ wsT := wsT_of (mC6 (List.mem_of_getElem? (i := 217) rfl)) rfl
theorem mW1035 : Cond.instanceMethod yX9_claim ∈ wsT := wsT_of (mC6 (List.mem_of_getElem? (i := 218) rfl)) rfl
theorem mW1036 : Cond.selects RX9 yX9_claim yX9_claim ∈ wsT := wsT_of (mC6 (List.mem_of_getElem? (i := 219) rfl)) rfl
theorem mW1037 : Cond.code yX9_claim cX9_claim 3 (some .boolean) ∈ wsT := wsT_of (mC6 (List.mem_of_getElem? (i := 220) rfl)) rfl
theorem mW1038 : Cond.methodLink RL 156 yX8_tell ∈ wsT := wsT_of (mC4 (List.mem_of_getElem? (i := 150) rfl)) rfl
theorem mW1039 : Cond.instanceMethod yX8_tell ∈ wsT := wsT_of (mC4 (List.mem_of_getElem? (i := 151) rfl)) rfl
theorem mW1040 : Cond.selects RX8 yX8_tell yX8_tell ∈ wsT := wsT_of (mC4 (List.mem_of_getElem? (i := 152) rfl)) rfl
theorem mW1041 : Cond.code yX8_tell cX8_tell 4 (some .int) ∈ wsT := wsT_of (mC4 (List.mem_of_getElem? (i := 153) rfl)) rfl
theorem mW1042 : Cond.fieldLink RX8 333 "LaytimeDesk$Claimed" "portNumber" "I" ∈ wsT := wsT_of (mC1 (List.mem_of_getElem? (i := 105) rfl)) rfl
theorem mW1043 : Cond.fieldLink RX8 336 "LaytimeDesk$Claimed" "rows" "I" ∈ wsT := wsT_of (mC1 (List.mem_of_getElem? (i := 102) rfl)) rfl
theorem mW1044 : Cond.methodLink RX8 339 yX1_add ∈ wsT := wsT_of (mC4 (List.mem_of_getElem? (i := 154) rfl)) rfl
theorem mW1045 : Cond.instanceMethod yX1_add ∈ wsT := wsT_of (mC4 (List.mem_of_getElem? (i := 155) rfl)) rfl
theorem mW1046 : Cond.selects RX1 yX1_add yX1_add ∈ wsT := wsT_of (mC4 (List.mem_of_getElem? (i := 156) rfl)) rfl
theorem mW1047 : Cond.code yX1_add cX1_add 3 none ∈ wsT := wsT_of (mC4 (List.mem_of_getElem? (i := 157) rfl)) rfl
theorem mW1048 : Cond.methodLink RL 159 yX9_tell ∈ wsT := wsT_of (mC6 (List.mem_of_getElem? (i := 221) rfl)) rfl
theorem mW1049 : Cond.instanceMethod yX9_tell ∈ wsT := wsT_of (mC6 (List.mem_of_getElem? (i := 222) rfl)) rfl
theorem mW1050 : Cond.selects RX9 yX9_tell yX9_tell ∈ wsT := wsT_of (mC6 (List.mem_of_getElem? (i := 223) rfl)) rfl
theorem mW1051 : Cond.code yX9_tell cX9_tell 4 (some .int) ∈ wsT := wsT_of (mC6 (List.mem_of_getElem? (i := 224) rfl)) rfl
theorem mW1052 : Cond.methodLink RL 160 yX8_check ∈ wsT := wsT_of (mC4 (List.mem_of_getElem? (i := 159) rfl)) rfl
theorem mW1053 : Cond.instanceMethod yX8_check ∈ wsT := wsT_of (mC4 (List.mem_of_getElem? (i := 160) rfl)) rfl
theorem mW1054 : Cond.selects RX8 yX8_check yX8_check ∈ wsT := wsT_of (mC4 (List.mem_of_getElem? (i := 161) rfl)) rfl
theorem mW1055 : Cond.code yX8_check cX8_check 5 (some .int) ∈ wsT := wsT_of (mC4 (List.mem_of_getElem? (i := 162) rfl)) rfl
theorem mW1056 : Cond.methodLink RX8 341 yX3_firstWrong ∈ wsT := wsT_of (mC4 (List.mem_of_getElem? (i := 163) rfl)) rfl
theorem mW1057 : Cond.instanceMethod yX3_firstWrong ∈ wsT := wsT_of (mC4 (List.mem_of_getElem? (i := 164) rfl)) rfl
theorem mW1058 : Cond.selects RX3 yX3_firstWrong yX3_firstWrong ∈ wsT := wsT_of (mC4 (List.mem_of_getElem? (i := 165) rfl)) rfl
theorem mW1059 : Cond.code yX3_firstWrong cX3_firstWrong 9 (some .int) ∈ wsT := wsT_of (mC4 (List.mem_of_getElem? (i := 166) rfl)) rfl
theorem mW1060 : Cond.fieldLink RX3 188 "LaytimeDesk$Claimed" "portNumber" "I" ∈ wsT := wsT_of (mC1 (List.mem_of_getElem? (i := 104) rfl)) rfl
theorem mW1061 : Cond.fieldLink RX3 193 "LaytimeDesk$Claimed" "lengths" "[I" ∈ wsT := wsT_of (mC1 (List.mem_of_getElem? (i := 97) rfl)) rfl
theorem mW1062 : Cond.fieldLink RX3 201 "LaytimeDesk$Claimed" "rows" "I" ∈ wsT := wsT_of (mC1 (List.mem_of_getElem? (i := 101) rfl)) rfl
theorem mW1063 : Cond.fieldLink RX3 204 "LaytimeDesk$Claimed" "whys" "[I" ∈ wsT := wsT_of (mC1 (List.mem_of_getElem? (i := 99) rfl)) rfl
theorem mW1064 : Cond.methodLink RL 164 yX9_check ∈ wsT := wsT_of (mC6 (List.mem_of_getElem? (i := 225) rfl)) rfl
theorem mW1065 : Cond.instanceMethod yX9_check ∈ wsT := wsT_of (mC6 (List.mem_of_getElem? (i := 226) rfl)) rfl
theorem mW1066 : Cond.selects RX9 yX9_check yX9_check ∈ wsT := wsT_of (mC6 (List.mem_of_getElem? (i := 227) rfl)) rfl
theorem mW1067 : Cond.code yX9_check cX9_check 3 (some .int) ∈ wsT := wsT_of (mC6 (List.mem_of_getElem? (i := 228) rfl)) rfl
theorem mW1068 : Cond.methodLink RL 165 yX8_image ∈ wsT := wsT_of (mC4 (List.mem_of_getElem? (i := 168) rfl)) rfl
theorem mW1069 : Cond.instanceMethod yX8_image ∈ wsT := wsT_of (mC4 (List.mem_of_getElem? (i := 169) rfl)) rfl
theorem mW1070 : Cond.selects RX8 yX8_image yX8_image ∈ wsT := wsT_of (mC4 (List.mem_of_getElem? (i := 170) rfl)) rfl
theorem mW1071 : Cond.code yX8_image cX8_image 1 (some .boolean) ∈ wsT := wsT_of (mC4 (List.mem_of_getElem? (i := 171) rfl)) rfl
theorem mW1072 : Cond.fieldLink RX8 348 "LaytimeDesk" "imaged" "Z" ∈ wsT := wsT_of (mC2 (List.mem_of_getElem? (i := 135) rfl)) rfl
theorem mW1073 : Cond.methodLink RX8 345 yX0_take ∈ wsT := wsT_of (mC4 (List.mem_of_getElem? (i := 172) rfl)) rfl
theorem mW1074 : Cond.instanceMethod yX0_take ∈ wsT := wsT_of (mC4 (List.mem_of_getElem? (i := 173) rfl)) rfl
theorem mW1075 : Cond.selects RX0 yX0_take yX0_take ∈ wsT := wsT_of (mC4 (List.mem_of_getElem? (i := 174) rfl)) rfl
theorem mW1076 : Cond.code yX0_take cX0_take 3 none ∈ wsT := wsT_of (mC4 (List.mem_of_getElem? (i := 175) rfl)) rfl
theorem mW1077 : Cond.methodLink RX0 47 yX6_take ∈ wsT := wsT_of (mC4 (List.mem_of_getElem? (i := 176) rfl)) rfl
theorem mW1078 : Cond.instanceMethod yX6_take ∈ wsT := wsT_of (mC4 (List.mem_of_getElem? (i := 177) rfl)) rfl
theorem mW1079 : Cond.selects RX6 yX6_take yX6_take ∈ wsT := wsT_of (mC4 (List.mem_of_getElem? (i := 178) rfl)) rfl
theorem mW1080 : Cond.code yX6_take cX6_take 2 none ∈ wsT := wsT_of (mC4 (List.mem_of_getElem? (i := 179) rfl)) rfl
theorem mW1081 : Cond.fieldLink RX6 52 "LaytimeDesk$Terms" "contracts" "I" ∈ wsT := wsT_of (mC1 (List.mem_of_getElem? (i := 56) rfl)) rfl
theorem mW1082 : Cond.static yX8_copyAll ∈ wsT := wsT_of (mC4 (List.mem_of_getElem? (i := 181) rfl)) rfl
theorem mW1083 : Cond.code yX8_copyAll cX8_copyAll 2 none ∈ wsT := wsT_of (mC4 (List.mem_of_getElem? (i := 182) rfl)) rfl
theorem mW1084 : Cond.methodLink RX0 51 yX2_take ∈ wsT := wsT_of (mC4 (List.mem_of_getElem? (i := 183) rfl)) rfl
theorem mW1085 : Cond.instanceMethod yX2_take ∈ wsT := wsT_of (mC4 (List.mem_of_getElem? (i := 184) rfl)) rfl
theorem mW1086 : Cond.selects RX2 yX2_take yX2_take ∈ wsT := wsT_of (mC4 (List.mem_of_getElem? (i := 185) rfl)) rfl
theorem mW1087 : Cond.code yX2_take cX2_take 2 none ∈ wsT := wsT_of (mC4 (List.mem_of_getElem? (i := 186) rfl)) rfl
theorem mW1088 : Cond.methodLink RX0 54 yX1_take ∈ wsT := wsT_of (mC4 (List.mem_of_getElem? (i := 187) rfl)) rfl
theorem mW1089 : Cond.instanceMethod yX1_take ∈ wsT := wsT_of (mC4 (List.mem_of_getElem? (i := 188) rfl)) rfl
theorem mW1090 : Cond.selects RX1 yX1_take yX1_take ∈ wsT := wsT_of (mC4 (List.mem_of_getElem? (i := 189) rfl)) rfl
theorem mW1091 : Cond.code yX1_take cX1_take 2 none ∈ wsT := wsT_of (mC4 (List.mem_of_getElem? (i := 190) rfl)) rfl
theorem mW1092 : Cond.methodLink RX0 57 yX0_portAt ∈ wsT := wsT_of (mC4 (List.mem_of_getElem? (i := 192) rfl)) rfl
theorem mW1093 : Cond.methodLink RX0 61 yX4_take ∈ wsT := wsT_of (mC4 (List.mem_of_getElem? (i := 193) rfl)) rfl
theorem mW1094 : Cond.instanceMethod yX4_take ∈ wsT := wsT_of (mC4 (List.mem_of_getElem? (i := 194) rfl)) rfl
theorem mW1095 : Cond.selects RX4 yX4_take yX4_take ∈ wsT := wsT_of (mC4 (List.mem_of_getElem? (i := 195) rfl)) rfl
theorem mW1096 : Cond.code yX4_take cX4_take 2 none ∈ wsT := wsT_of (mC4 (List.mem_of_getElem? (i := 196) rfl)) rfl
theorem mW1097 : Cond.methodLink RL 169 yX9_image ∈ wsT := wsT_of (mC6 (List.mem_of_getElem? (i := 229) rfl)) rfl
theorem mW1098 : Cond.instanceMethod yX9_image ∈ wsT := wsT_of (mC6 (List.mem_of_getElem? (i := 230) rfl)) rfl
theorem mW1099 : Cond.selects RX9 yX9_image yX9_image ∈ wsT := wsT_of (mC6 (List.mem_of_getElem? (i := 231) rfl)) rfl
theorem mW1100 : Cond.code yX9_image cX9_image 2 (some .boolean) ∈ wsT := wsT_of (mC6 (List.mem_of_getElem? (i := 232) rfl)) rfl
theorem mW1101 : Cond.fieldLink RX9 367 "LaytimeDeskModel" "hasImage" "Z" ∈ wsT := wsT_of (mC4 (List.mem_of_getElem? (i := 232) rfl)) rfl
theorem mW1102 : Cond.methodLink RL 170 yX8_back ∈ wsT := wsT_of (mC4 (List.mem_of_getElem? (i := 198) rfl)) rfl
theorem mW1103 : Cond.instanceMethod yX8_back ∈ wsT := wsT_of (mC4 (List.mem_of_getElem? (i := 199) rfl)) rfl
theorem mW1104 : Cond.selects RX8 yX8_back yX8_back ∈ wsT := wsT_of (mC4 (List.mem_of_getElem? (i := 200) rfl)) rfl
theorem mW1105 : Cond.code yX8_back cX8_back 1 (some .boolean) ∈ wsT := wsT_of (mC4 (List.mem_of_getElem? (i := 201) rfl)) rfl
theorem mW1106 : Cond.methodLink RL 173 yX9_back ∈ wsT := wsT_of (mC6 (List.mem_of_getElem? (i := 233) rfl)) rfl
theorem mW1107 : Cond.instanceMethod yX9_back ∈ wsT := wsT_of (mC6 (List.mem_of_getElem? (i := 234) rfl)) rfl
theorem mW1108 : Cond.selects RX9 yX9_back yX9_back ∈ wsT := wsT_of (mC6 (List.mem_of_getElem? (i := 235) rfl)) rfl
theorem mW1109 : Cond.code yX9_back cX9_back 2 (some .boolean) ∈ wsT := wsT_of (mC6 (List.mem_of_getElem? (i := 236) rfl)) rfl
theorem mW1110 : Cond.methodLink RL 174 yX8_status ∈ wsT := wsT_of (mC4 (List.mem_of_getElem? (i := 202) rfl)) rfl
theorem mW1111 : Cond.instanceMethod yX8_status ∈ wsT := wsT_of (mC4 (List.mem_of_getElem? (i := 203) rfl)) rfl
theorem mW1112 : Cond.selects RX8 yX8_status yX8_status ∈ wsT := wsT_of (mC4 (List.mem_of_getElem? (i := 204) rfl)) rfl
theorem mW1113 : Cond.code yX8_status cX8_status 2 (some .int) ∈ wsT := wsT_of (mC4 (List.mem_of_getElem? (i := 205) rfl)) rfl
theorem mW1114 : Cond.methodLink RL 178 yX9_status ∈ wsT := wsT_of (mC6 (List.mem_of_getElem? (i := 237) rfl)) rfl
theorem mW1115 : Cond.instanceMethod yX9_status ∈ wsT := wsT_of (mC6 (List.mem_of_getElem? (i := 238) rfl)) rfl
theorem mW1116 : Cond.selects RX9 yX9_status yX9_status ∈ wsT := wsT_of (mC6 (List.mem_of_getElem? (i := 239) rfl)) rfl
theorem mW1117 : Cond.code yX9_status cX9_status 2 (some .int) ∈ wsT := wsT_of (mC7 (List.mem_of_getElem? (i := 0) rfl)) rfl
theorem ok_J7_fill_53178 : xSok yJ7_fill_53178 cJ7_fill_53178 4 none 2 := ⟨⟨mW58, mW57, ⟨by decide +kernel, by decide +kernel, by decide +kernel⟩⟩, mW56⟩
theorem ok_X0_groupOf : xVok yX0_groupOf cX0_groupOf 2 (some .int) 1 := ⟨⟨mW697, mW15, ⟨by decide +kernel, by decide +kernel, by decide +kernel⟩⟩, mW695, mW696⟩
theorem ok_X0_init : xIok yX0_init cX0_init 2 0 := ⟨⟨mW26, mW15, ⟨by decide +kernel, by decide +kernel, by decide +kernel⟩⟩, mW25, rfl⟩
theorem ok_X0_portAt : xVok yX0_portAt cX0_portAt 2 (some (.object "LaytimeDesk$Port")) 1 := ⟨⟨mW340, mW15, ⟨by decide +kernel, by decide +kernel, by decide +kernel⟩⟩, mW338, mW339⟩
theorem ok_X0_take : xVok yX0_take cX0_take 3 none 1 := ⟨⟨mW1076, mW15, ⟨by decide +kernel, by decide +kernel, by decide +kernel⟩⟩, mW1074, mW1075⟩
theorem ok_X1_add : xVok yX1_add cX1_add 3 none 2 := ⟨⟨mW1047, mW38, ⟨by decide +kernel, by decide +kernel, by decide +kernel⟩⟩, mW1045, mW1046⟩
theorem ok_X1_begin : xVok yX1_begin cX1_begin 2 none 1 := ⟨⟨mW1032, mW38, ⟨by decide +kernel, by decide +kernel, by decide +kernel⟩⟩, mW1030, mW1031⟩
theorem ok_X1_init : xIok yX1_init cX1_init 1 0 := ⟨⟨mW65, mW38, ⟨by decide +kernel, by decide +kernel, by decide +kernel⟩⟩, mW64, rfl⟩
theorem ok_X1_take : xVok yX1_take cX1_take 2 none 1 := ⟨⟨mW1091, mW38, ⟨by decide +kernel, by decide +kernel, by decide +kernel⟩⟩, mW1089, mW1090⟩
theorem ok_X2_add : xVok yX2_add cX2_add 5 none 3 := ⟨⟨mW416, mW34, ⟨by decide +kernel, by decide +kernel, by decide +kernel⟩⟩, mW414, mW415⟩
theorem ok_X2_copyRange : xVok yX2_copyRange cX2_copyRange 11 none 5 := ⟨⟨mW481, mW34, ⟨by decide +kernel, by decide +kernel, by decide +kernel⟩⟩, mW479, mW480⟩
theorem ok_X2_firstOf : xVok yX2_firstOf cX2_firstOf 6 (some .int) 3 := ⟨⟨mW597, mW34, ⟨by decide +kernel, by decide +kernel, by decide +kernel⟩⟩, mW595, mW596⟩
theorem ok_X2_indexOf : xVok yX2_indexOf cX2_indexOf 8 (some .int) 2 := ⟨⟨mW326, mW34, ⟨by decide +kernel, by decide +kernel, by decide +kernel⟩⟩, mW324, mW325⟩
theorem ok_X2_init : xIok yX2_init cX2_init 1 0 := ⟨⟨mW60, mW34, ⟨by decide +kernel, by decide +kernel, by decide +kernel⟩⟩, mW59, rfl⟩
theorem ok_X2_keyOf : xSok yX2_keyOf cX2_keyOf 3 (some .int) 3 := ⟨⟨mW329, mW34, ⟨by decide +kernel, by decide +kernel, by decide +kernel⟩⟩, mW328⟩
theorem ok_X2_kindAt : xVok yX2_kindAt cX2_kindAt 2 (some .int) 1 := ⟨⟨mW601, mW34, ⟨by decide +kernel, by decide +kernel, by decide +kernel⟩⟩, mW599, mW600⟩
theorem ok_X2_manyIn : xVok yX2_manyIn cX2_manyIn 4 (some .int) 3 := ⟨⟨mW477, mW34, ⟨by decide +kernel, by decide +kernel, by decide +kernel⟩⟩, mW475, mW476⟩
theorem ok_X2_minuteAt : xVok yX2_minuteAt cX2_minuteAt 2 (some .int) 1 := ⟨⟨mW605, mW34, ⟨by decide +kernel, by decide +kernel, by decide +kernel⟩⟩, mW603, mW604⟩
theorem ok_X2_remove : xVok yX2_remove cX2_remove 6 (some .int) 3 := ⟨⟨mW321, mW34, ⟨by decide +kernel, by decide +kernel, by decide +kernel⟩⟩, mW319, mW320⟩
theorem ok_X2_stateAt : xVok yX2_stateAt cX2_stateAt 5 (some .int) 2 := ⟨⟨mW683, mW34, ⟨by decide +kernel, by decide +kernel, by decide +kernel⟩⟩, mW681, mW682⟩
theorem ok_X2_take : xVok yX2_take cX2_take 2 none 1 := ⟨⟨mW1087, mW34, ⟨by decide +kernel, by decide +kernel, by decide +kernel⟩⟩, mW1085, mW1086⟩
theorem ok_X3_findOnce : xVok yX3_findOnce cX3_findOnce 7 none 0 := ⟨⟨mW721, mW20, ⟨by decide +kernel, by decide +kernel, by decide +kernel⟩⟩, mW719, mW720⟩
theorem ok_X3_firstWrong : xVok yX3_firstWrong cX3_firstWrong 9 (some .int) 1 := ⟨⟨mW1059, mW20, ⟨by decide +kernel, by decide +kernel, by decide +kernel⟩⟩, mW1057, mW1058⟩
theorem ok_X3_halvesAt : xVok yX3_halvesAt cX3_halvesAt 5 (some .long) 1 := ⟨⟨mW832, mW20, ⟨by decide +kernel, by decide +kernel, by decide +kernel⟩⟩, mW830, mW831⟩
theorem ok_X3_halvesOf : xVok yX3_halvesOf cX3_halvesOf 7 (some .int) 3 := ⟨⟨mW920, mW20, ⟨by decide +kernel, by decide +kernel, by decide +kernel⟩⟩, mW918, mW919⟩
theorem ok_X3_hasMinuteAt : xVok yX3_hasMinuteAt cX3_hasMinuteAt 3 (some .boolean) 2 := ⟨⟨mW828, mW20, ⟨by decide +kernel, by decide +kernel, by decide +kernel⟩⟩, mW826, mW827⟩
theorem ok_X3_init : xIok yX3_init cX3_init 3 1 := ⟨⟨mW77, mW20, ⟨by decide +kernel, by decide +kernel, by decide +kernel⟩⟩, mW76, rfl⟩
theorem ok_X3_isMember : xVok yX3_isMember cX3_isMember 2 (some .boolean) 1 := ⟨⟨mW715, mW20, ⟨by decide +kernel, by decide +kernel, by decide +kernel⟩⟩, mW713, mW714⟩
theorem ok_X3_isRunning : xVok yX3_isRunning cX3_isRunning 2 (some .boolean) 1 := ⟨⟨mW824, mW20, ⟨by decide +kernel, by decide +kernel, by decide +kernel⟩⟩, mW822, mW823⟩
theorem ok_X3_leastPort : xVok yX3_leastPort cX3_leastPort 2 (some .int) 0 := ⟨⟨mW979, mW20, ⟨by decide +kernel, by decide +kernel, by decide +kernel⟩⟩, mW977, mW978⟩
theorem ok_X3_minutes : xVok yX3_minutes cX3_minutes 3 (some .int) 0 := ⟨⟨mW985, mW20, ⟨by decide +kernel, by decide +kernel, by decide +kernel⟩⟩, mW983, mW984⟩
theorem ok_X3_minutesBy : xVok yX3_minutesBy cX3_minutesBy 6 (some .int) 2 := ⟨⟨mW936, mW20, ⟨by decide +kernel, by decide +kernel, by decide +kernel⟩⟩, mW934, mW935⟩
theorem ok_X3_money : xVok yX3_money cX3_money 2 (some .long) 0 := ⟨⟨mW972, mW20, ⟨by decide +kernel, by decide +kernel, by decide +kernel⟩⟩, mW970, mW971⟩
theorem ok_X3_nextChange : xVok yX3_nextChange cX3_nextChange 6 (some .int) 1 := ⟨⟨mW818, mW20, ⟨by decide +kernel, by decide +kernel, by decide +kernel⟩⟩, mW816, mW817⟩
theorem ok_X3_overFrom : xVok yX3_overFrom cX3_overFrom 2 (some .int) 1 := ⟨⟨mW850, mW20, ⟨by decide +kernel, by decide +kernel, by decide +kernel⟩⟩, mW848, mW849⟩
theorem ok_X3_owed : xVok yX3_owed cX3_owed 1 (some .long) 0 := ⟨⟨mW961, mW20, ⟨by decide +kernel, by decide +kernel, by decide +kernel⟩⟩, mW959, mW960⟩
theorem ok_X3_reach : xVok yX3_reach cX3_reach 3 none 2 := ⟨⟨mW812, mW20, ⟨by decide +kernel, by decide +kernel, by decide +kernel⟩⟩, mW810, mW811⟩
theorem ok_X3_reachAt : xVok yX3_reachAt cX3_reachAt 3 none 1 := ⟨⟨mW837, mW20, ⟨by decide +kernel, by decide +kernel, by decide +kernel⟩⟩, mW835, mW836⟩
theorem ok_X3_read : xVok yX3_read cX3_read 5 none 2 := ⟨⟨mW702, mW20, ⟨by decide +kernel, by decide +kernel, by decide +kernel⟩⟩, mW700, mW701⟩
theorem ok_X3_saved : xVok yX3_saved cX3_saved 1 (some .long) 0 := ⟨⟨mW968, mW20, ⟨by decide +kernel, by decide +kernel, by decide +kernel⟩⟩, mW966, mW967⟩
theorem ok_X3_settle : xVok yX3_settle cX3_settle 2 none 0 := ⟨⟨mW955, mW20, ⟨by decide +kernel, by decide +kernel, by decide +kernel⟩⟩, mW953, mW954⟩
theorem ok_X3_startAll : xVok yX3_startAll cX3_startAll 4 (some .int) 0 := ⟨⟨mW730, mW20, ⟨by decide +kernel, by decide +kernel, by decide +kernel⟩⟩, mW728, mW729⟩
theorem ok_X3_stayAt : xVok yX3_stayAt cX3_stayAt 2 (some (.object "LaytimeDesk$Stay")) 1 := ⟨⟨mW573, mW20, ⟨by decide +kernel, by decide +kernel, by decide +kernel⟩⟩, mW571, mW572⟩
theorem ok_X3_stepAll : xVok yX3_stepAll cX3_stepAll 4 none 1 := ⟨⟨mW841, mW20, ⟨by decide +kernel, by decide +kernel, by decide +kernel⟩⟩, mW839, mW840⟩
theorem ok_X3_walkAt : xVok yX3_walkAt cX3_walkAt 2 (some (.object "LaytimeDesk$Walk")) 1 := ⟨⟨mW738, mW20, ⟨by decide +kernel, by decide +kernel, by decide +kernel⟩⟩, mW736, mW737⟩
theorem ok_X3_walkIn : xVok yX3_walkIn cX3_walkIn 7 (some (.object "LaytimeDesk$Walk")) 3 := ⟨⟨mW845, mW20, ⟨by decide +kernel, by decide +kernel, by decide +kernel⟩⟩, mW843, mW844⟩
theorem ok_X4_firstOffice : xVok yX4_firstOffice cX4_firstOffice 4 (some .int) 1 := ⟨⟨mW609, mW43, ⟨by decide +kernel, by decide +kernel, by decide +kernel⟩⟩, mW607, mW608⟩
theorem ok_X4_init : xIok yX4_init cX4_init 1 0 := ⟨⟨mW71, mW43, ⟨by decide +kernel, by decide +kernel, by decide +kernel⟩⟩, mW70, rfl⟩
theorem ok_X4_knows : xVok yX4_knows cX4_knows 2 (some .boolean) 1 := ⟨⟨mW412, mW43, ⟨by decide +kernel, by decide +kernel, by decide +kernel⟩⟩, mW410, mW411⟩
theorem ok_X4_logLong : xVok yX4_logLong cX4_logLong 1 (some .int) 0 := ⟨⟨mW408, mW43, ⟨by decide +kernel, by decide +kernel, by decide +kernel⟩⟩, mW406, mW407⟩
theorem ok_X4_open : xVok yX4_open cX4_open 3 none 2 := ⟨⟨mW344, mW43, ⟨by decide +kernel, by decide +kernel, by decide +kernel⟩⟩, mW342, mW343⟩
theorem ok_X4_shut : xVok yX4_shut cX4_shut 1 none 0 := ⟨⟨mW382, mW43, ⟨by decide +kernel, by decide +kernel, by decide +kernel⟩⟩, mW380, mW381⟩
theorem ok_X4_take : xVok yX4_take cX4_take 2 none 1 := ⟨⟨mW1096, mW43, ⟨by decide +kernel, by decide +kernel, by decide +kernel⟩⟩, mW1094, mW1095⟩
theorem ok_X4_unknownMinutes : xVok yX4_unknownMinutes cX4_unknownMinutes 3 (some .int) 0 := ⟨⟨mW622, mW43, ⟨by decide +kernel, by decide +kernel, by decide +kernel⟩⟩, mW620, mW621⟩
theorem ok_X5_init : xIok yX5_init cX5_init 1 0 := ⟨⟨mW100, mW88, ⟨by decide +kernel, by decide +kernel, by decide +kernel⟩⟩, mW99, rfl⟩
theorem ok_X5_read : xVok yX5_read cX5_read 9 none 2 := ⟨⟨mW577, mW88, ⟨by decide +kernel, by decide +kernel, by decide +kernel⟩⟩, mW575, mW576⟩
theorem ok_X6_allowedBy : xVok yX6_allowedBy cX6_allowedBy 9 (some .long) 2 := ⟨⟨mW616, mW30, ⟨by decide +kernel, by decide +kernel, by decide +kernel⟩⟩, mW614, mW615⟩
theorem ok_X6_copyRow : xVok yX6_copyRow cX6_copyRow 3 none 2 := ⟨⟨mW1019, mW30, ⟨by decide +kernel, by decide +kernel, by decide +kernel⟩⟩, mW1017, mW1018⟩
theorem ok_X6_init : xIok yX6_init cX6_init 1 0 := ⟨⟨mW47, mW30, ⟨by decide +kernel, by decide +kernel, by decide +kernel⟩⟩, mW46, rfl⟩
theorem ok_X6_take : xVok yX6_take cX6_take 2 none 1 := ⟨⟨mW1080, mW30, ⟨by decide +kernel, by decide +kernel, by decide +kernel⟩⟩, mW1078, mW1079⟩
theorem ok_X6_write : xVok yX6_write cX6_write 6 none 5 := ⟨⟨mW216, mW30, ⟨by decide +kernel, by decide +kernel, by decide +kernel⟩⟩, mW214, mW215⟩
theorem ok_X7_addAsked : xVok yX7_addAsked cX7_addAsked 3 none 1 := ⟨⟨mW797, mW85, ⟨by decide +kernel, by decide +kernel, by decide +kernel⟩⟩, mW795, mW796⟩
theorem ok_X7_breakAt : xVok yX7_breakAt cX7_breakAt 2 none 1 := ⟨⟨mW777, mW85, ⟨by decide +kernel, by decide +kernel, by decide +kernel⟩⟩, mW775, mW776⟩
theorem ok_X7_choose : xVok yX7_choose cX7_choose 6 none 0 := ⟨⟨mW801, mW85, ⟨by decide +kernel, by decide +kernel, by decide +kernel⟩⟩, mW799, mW800⟩
theorem ok_X7_forgetAsked : xVok yX7_forgetAsked cX7_forgetAsked 1 none 0 := ⟨⟨mW782, mW85, ⟨by decide +kernel, by decide +kernel, by decide +kernel⟩⟩, mW780, mW781⟩
theorem ok_X7_halvesBy : xVok yX7_halvesBy cX7_halvesBy 4 (some .int) 2 := ⟨⟨mW807, mW85, ⟨by decide +kernel, by decide +kernel, by decide +kernel⟩⟩, mW805, mW806⟩
theorem ok_X7_init : xIok yX7_init cX7_init 2 1 := ⟨⟨mW92, mW85, ⟨by decide +kernel, by decide +kernel, by decide +kernel⟩⟩, mW91, rfl⟩
theorem ok_X7_readEvents : xVok yX7_readEvents cX7_readEvents 3 none 0 := ⟨⟨mW772, mW85, ⟨by decide +kernel, by decide +kernel, by decide +kernel⟩⟩, mW770, mW771⟩
theorem ok_X7_spans : xVok yX7_spans cX7_spans 8 (some .boolean) 1 := ⟨⟨mW789, mW85, ⟨by decide +kernel, by decide +kernel, by decide +kernel⟩⟩, mW787, mW788⟩
theorem ok_X7_start : xVok yX7_start cX7_start 8 none 5 := ⟨⟨mW742, mW85, ⟨by decide +kernel, by decide +kernel, by decide +kernel⟩⟩, mW740, mW741⟩
theorem ok_X7_step : xVok yX7_step cX7_step 6 (some .boolean) 0 := ⟨⟨mW763, mW85, ⟨by decide +kernel, by decide +kernel, by decide +kernel⟩⟩, mW761, mW762⟩
theorem ok_X8_amount : xVok yX8_amount cX8_amount 4 (some .boolean) 3 := ⟨⟨mW255, mW2, ⟨by decide +kernel, by decide +kernel, by decide +kernel⟩⟩, mW253, mW254⟩
theorem ok_X8_as : xVok yX8_as cX8_as 11 (some .long) 4 := ⟨⟨mW1015, mW2, ⟨by decide +kernel, by decide +kernel, by decide +kernel⟩⟩, mW1013, mW1014⟩
theorem ok_X8_at : xSok yX8_at cX8_at 2 (some .int) 2 := ⟨⟨mW167, mW2, ⟨by decide +kernel, by decide +kernel, by decide +kernel⟩⟩, mW166⟩
theorem ok_X8_back : xVok yX8_back cX8_back 1 (some .boolean) 0 := ⟨⟨mW1105, mW2, ⟨by decide +kernel, by decide +kernel, by decide +kernel⟩⟩, mW1103, mW1104⟩
theorem ok_X8_by : xVok yX8_by cX8_by 4 (some .int) 3 := ⟨⟨mW929, mW2, ⟨by decide +kernel, by decide +kernel, by decide +kernel⟩⟩, mW927, mW928⟩
theorem ok_X8_check : xVok yX8_check cX8_check 5 (some .int) 2 := ⟨⟨mW1055, mW2, ⟨by decide +kernel, by decide +kernel, by decide +kernel⟩⟩, mW1053, mW1054⟩
theorem ok_X8_claim : xVok yX8_claim cX8_claim 2 (some .boolean) 1 := ⟨⟨mW1027, mW2, ⟨by decide +kernel, by decide +kernel, by decide +kernel⟩⟩, mW1025, mW1026⟩
theorem ok_X8_close : xVok yX8_close cX8_close 2 (some .boolean) 1 := ⟨⟨mW373, mW2, ⟨by decide +kernel, by decide +kernel, by decide +kernel⟩⟩, mW371, mW372⟩
theorem ok_X8_contract : xVok yX8_contract cX8_contract 1 (some .int) 0 := ⟨⟨mW157, mW2, ⟨by decide +kernel, by decide +kernel, by decide +kernel⟩⟩, mW155, mW156⟩
theorem ok_X8_contractReason : xVok yX8_contractReason cX8_contractReason 2 (some .int) 1 := ⟨⟨mW192, mW2, ⟨by decide +kernel, by decide +kernel, by decide +kernel⟩⟩, mW190, mW191⟩
theorem ok_X8_copy : xVok yX8_copy cX8_copy 9 (some .int) 5 := ⟨⟨mW469, mW2, ⟨by decide +kernel, by decide +kernel, by decide +kernel⟩⟩, mW467, mW468⟩
theorem ok_X8_copyAll : xSok yX8_copyAll cX8_copyAll 2 none 2 := ⟨⟨mW1083, mW2, ⟨by decide +kernel, by decide +kernel, by decide +kernel⟩⟩, mW1082⟩
theorem ok_X8_counts : xVok yX8_counts cX8_counts 5 (some .int) 4 := ⟨⟨mW916, mW2, ⟨by decide +kernel, by decide +kernel, by decide +kernel⟩⟩, mW914, mW915⟩
theorem ok_X8_day : xVok yX8_day cX8_day 4 (some .boolean) 3 := ⟨⟨mW440, mW2, ⟨by decide +kernel, by decide +kernel, by decide +kernel⟩⟩, mW438, mW439⟩
theorem ok_X8_dayReason : xVok yX8_dayReason cX8_dayReason 4 (some .int) 2 := ⟨⟨mW445, mW2, ⟨by decide +kernel, by decide +kernel, by decide +kernel⟩⟩, mW443, mW444⟩
theorem ok_X8_daysThatFit : xVok yX8_daysThatFit cX8_daysThatFit 8 (some .int) 5 := ⟨⟨mW473, mW2, ⟨by decide +kernel, by decide +kernel, by decide +kernel⟩⟩, mW471, mW472⟩
theorem ok_X8_event : xVok yX8_event cX8_event 5 (some .boolean) 3 := ⟨⟨mW398, mW2, ⟨by decide +kernel, by decide +kernel, by decide +kernel⟩⟩, mW396, mW397⟩
theorem ok_X8_free : xVok yX8_free cX8_free 5 (some .boolean) 3 := ⟨⟨mW496, mW2, ⟨by decide +kernel, by decide +kernel, by decide +kernel⟩⟩, mW494, mW495⟩
theorem ok_X8_headed : xVok yX8_headed cX8_headed 4 (some .int) 2 := ⟨⟨mW292, mW2, ⟨by decide +kernel, by decide +kernel, by decide +kernel⟩⟩, mW290, mW291⟩
theorem ok_X8_heading : xVok yX8_heading cX8_heading 4 (some .boolean) 3 := ⟨⟨mW268, mW2, ⟨by decide +kernel, by decide +kernel, by decide +kernel⟩⟩, mW266, mW267⟩
theorem ok_X8_image : xVok yX8_image cX8_image 1 (some .boolean) 0 := ⟨⟨mW1071, mW2, ⟨by decide +kernel, by decide +kernel, by decide +kernel⟩⟩, mW1069, mW1070⟩
theorem ok_X8_init : xIok yX8_init cX8_init 1 0 := ⟨⟨mW9, mW2, ⟨by decide +kernel, by decide +kernel, by decide +kernel⟩⟩, mW8, rfl⟩
theorem ok_X8_isTerm : xSok yX8_isTerm cX8_isTerm 4 (some .boolean) 4 := ⟨⟨mW208, mW2, ⟨by decide +kernel, by decide +kernel, by decide +kernel⟩⟩, mW207⟩
theorem ok_X8_isWhy : xSok yX8_isWhy cX8_isWhy 1 (some .boolean) 1 := ⟨⟨mW932, mW2, ⟨by decide +kernel, by decide +kernel, by decide +kernel⟩⟩, mW931⟩
theorem ok_X8_kind : xVok yX8_kind cX8_kind 3 (some .int) 2 := ⟨⟨mW284, mW2, ⟨by decide +kernel, by decide +kernel, by decide +kernel⟩⟩, mW282, mW283⟩
theorem ok_X8_least : xSok yX8_least cX8_least 2 (some .int) 2 := ⟨⟨mW201, mW2, ⟨by decide +kernel, by decide +kernel, by decide +kernel⟩⟩, mW200⟩
theorem ok_X8_leave : xVok yX8_leave cX8_leave 2 none 1 := ⟨⟨mW315, mW2, ⟨by decide +kernel, by decide +kernel, by decide +kernel⟩⟩, mW313, mW314⟩
theorem ok_X8_minute : xVok yX8_minute cX8_minute 5 (some .int) 3 := ⟨⟨mW691, mW2, ⟨by decide +kernel, by decide +kernel, by decide +kernel⟩⟩, mW689, mW690⟩
theorem ok_X8_minuteReason : xVok yX8_minuteReason cX8_minuteReason 4 (some .int) 2 := ⟨⟨mW403, mW2, ⟨by decide +kernel, by decide +kernel, by decide +kernel⟩⟩, mW401, mW402⟩
theorem ok_X8_number : xSok yX8_number cX8_number 1 (some .int) 1 := ⟨⟨mW198, mW2, ⟨by decide +kernel, by decide +kernel, by decide +kernel⟩⟩, mW197⟩
theorem ok_X8_office : xVok yX8_office cX8_office 7 (some .boolean) 4 := ⟨⟨mW520, mW2, ⟨by decide +kernel, by decide +kernel, by decide +kernel⟩⟩, mW518, mW519⟩
theorem ok_X8_offset : xVok yX8_offset cX8_offset 3 (some .boolean) 2 := ⟨⟨mW533, mW2, ⟨by decide +kernel, by decide +kernel, by decide +kernel⟩⟩, mW531, mW532⟩
theorem ok_X8_placeReason : xVok yX8_placeReason cX8_placeReason 3 (some .int) 2 := ⟨⟨mW188, mW2, ⟨by decide +kernel, by decide +kernel, by decide +kernel⟩⟩, mW186, mW187⟩
theorem ok_X8_port : xVok yX8_port cX8_port 5 (some .boolean) 3 := ⟨⟨mW311, mW2, ⟨by decide +kernel, by decide +kernel, by decide +kernel⟩⟩, mW309, mW310⟩
theorem ok_X8_portReason : xVok yX8_portReason cX8_portReason 2 (some .int) 1 := ⟨⟨mW377, mW2, ⟨by decide +kernel, by decide +kernel, by decide +kernel⟩⟩, mW375, mW376⟩
theorem ok_X8_put : xSok yX8_put cX8_put 3 none 3 := ⟨⟨mW170, mW2, ⟨by decide +kernel, by decide +kernel, by decide +kernel⟩⟩, mW169⟩
theorem ok_X8_rate : xVok yX8_rate cX8_rate 7 (some .boolean) 3 := ⟨⟨mW543, mW2, ⟨by decide +kernel, by decide +kernel, by decide +kernel⟩⟩, mW541, mW542⟩
theorem ok_X8_refused : xVok yX8_refused cX8_refused 2 (some .boolean) 1 := ⟨⟨mW163, mW2, ⟨by decide +kernel, by decide +kernel, by decide +kernel⟩⟩, mW161, mW162⟩
theorem ok_X8_rowOf : xSok yX8_rowOf cX8_rowOf 2 (some .int) 2 := ⟨⟨mW212, mW2, ⟨by decide +kernel, by decide +kernel, by decide +kernel⟩⟩, mW211⟩
theorem ok_X8_slide : xSok yX8_slide cX8_slide 5 none 5 := ⟨⟨mW332, mW2, ⟨by decide +kernel, by decide +kernel, by decide +kernel⟩⟩, mW331⟩
theorem ok_X8_span : xVok yX8_span cX8_span 5 (some .int) 3 := ⟨⟨mW301, mW2, ⟨by decide +kernel, by decide +kernel, by decide +kernel⟩⟩, mW299, mW300⟩
theorem ok_X8_state : xVok yX8_state cX8_state 4 (some .int) 2 := ⟨⟨mW679, mW2, ⟨by decide +kernel, by decide +kernel, by decide +kernel⟩⟩, mW677, mW678⟩
theorem ok_X8_status : xVok yX8_status cX8_status 2 (some .int) 1 := ⟨⟨mW1113, mW2, ⟨by decide +kernel, by decide +kernel, by decide +kernel⟩⟩, mW1111, mW1112⟩
theorem ok_X8_strike : xVok yX8_strike cX8_strike 3 (some .boolean) 2 := ⟨⟨mW276, mW2, ⟨by decide +kernel, by decide +kernel, by decide +kernel⟩⟩, mW274, mW275⟩
theorem ok_X8_sum : xVok yX8_sum cX8_sum 4 (some .long) 3 := ⟨⟨mW946, mW2, ⟨by decide +kernel, by decide +kernel, by decide +kernel⟩⟩, mW944, mW945⟩
theorem ok_X8_tear : xVok yX8_tear cX8_tear 6 (some .int) 3 := ⟨⟨mW457, mW2, ⟨by decide +kernel, by decide +kernel, by decide +kernel⟩⟩, mW455, mW456⟩
theorem ok_X8_tell : xVok yX8_tell cX8_tell 4 (some .int) 2 := ⟨⟨mW1041, mW2, ⟨by decide +kernel, by decide +kernel, by decide +kernel⟩⟩, mW1039, mW1040⟩
theorem ok_X8_term : xVok yX8_term cX8_term 7 (some .boolean) 6 := ⟨⟨mW184, mW2, ⟨by decide +kernel, by decide +kernel, by decide +kernel⟩⟩, mW182, mW183⟩
theorem ok_X8_termReason : xVok yX8_termReason cX8_termReason 4 (some .int) 2 := ⟨⟨mW238, mW2, ⟨by decide +kernel, by decide +kernel, by decide +kernel⟩⟩, mW236, mW237⟩
theorem ok_X8_thereReason : xVok yX8_thereReason cX8_thereReason 4 (some .int) 2 := ⟨⟨mW461, mW2, ⟨by decide +kernel, by decide +kernel, by decide +kernel⟩⟩, mW459, mW460⟩
theorem ok_X8_thingReason : xVok yX8_thingReason cX8_thingReason 4 (some .int) 2 := ⟨⟨mW243, mW2, ⟨by decide +kernel, by decide +kernel, by decide +kernel⟩⟩, mW241, mW242⟩
theorem ok_X8_together : xVok yX8_together cX8_together 4 (some .boolean) 1 := ⟨⟨mW555, mW2, ⟨by decide +kernel, by decide +kernel, by decide +kernel⟩⟩, mW553, mW554⟩
theorem ok_X8_told : xVok yX8_told cX8_told 4 (some .int) 2 := ⟨⟨mW563, mW2, ⟨by decide +kernel, by decide +kernel, by decide +kernel⟩⟩, mW561, mW562⟩
theorem ok_X8_tons : xVok yX8_tons cX8_tons 5 (some .boolean) 2 := ⟨⟨mW505, mW2, ⟨by decide +kernel, by decide +kernel, by decide +kernel⟩⟩, mW503, mW504⟩
theorem ok_X8_weight : xVok yX8_weight cX8_weight 5 (some .long) 2 := ⟨⟨mW668, mW2, ⟨by decide +kernel, by decide +kernel, by decide +kernel⟩⟩, mW666, mW667⟩
theorem ok_X8_why : xVok yX8_why cX8_why 5 (some .int) 3 := ⟨⟨mW908, mW2, ⟨by decide +kernel, by decide +kernel, by decide +kernel⟩⟩, mW906, mW907⟩
theorem ok_X8_within : xSok yX8_within cX8_within 3 (some .boolean) 3 := ⟨⟨mW195, mW2, ⟨by decide +kernel, by decide +kernel, by decide +kernel⟩⟩, mW194⟩
theorem ok_X8_yields : xVok yX8_yields cX8_yields 5 (some .int) 3 := ⟨⟨mW233, mW2, ⟨by decide +kernel, by decide +kernel, by decide +kernel⟩⟩, mW231, mW232⟩
theorem ok_X9_adds : xVok yX9_adds cX9_adds 3 (some .int) 2 := ⟨⟨mW904, mW5, ⟨by decide +kernel, by decide +kernel, by decide +kernel⟩⟩, mW902, mW903⟩
theorem ok_X9_allowed : xVok yX9_allowed cX9_allowed 12 (some .long) 4 := ⟨⟨mW654, mW5, ⟨by decide +kernel, by decide +kernel, by decide +kernel⟩⟩, mW652, mW653⟩
theorem ok_X9_amount : xVok yX9_amount cX9_amount 5 (some .boolean) 3 := ⟨⟨mW262, mW5, ⟨by decide +kernel, by decide +kernel, by decide +kernel⟩⟩, mW260, mW261⟩
theorem ok_X9_as : xVok yX9_as cX9_as 6 (some .long) 4 := ⟨⟨mW1023, mW5, ⟨by decide +kernel, by decide +kernel, by decide +kernel⟩⟩, mW1021, mW1022⟩
theorem ok_X9_back : xVok yX9_back cX9_back 2 (some .boolean) 0 := ⟨⟨mW1109, mW5, ⟨by decide +kernel, by decide +kernel, by decide +kernel⟩⟩, mW1107, mW1108⟩
theorem ok_X9_begin : xVok yX9_begin cX9_begin 3 (some .int) 1 := ⟨⟨mW642, mW5, ⟨by decide +kernel, by decide +kernel, by decide +kernel⟩⟩, mW640, mW641⟩
theorem ok_X9_by : xVok yX9_by cX9_by 5 (some .int) 3 := ⟨⟨mW942, mW5, ⟨by decide +kernel, by decide +kernel, by decide +kernel⟩⟩, mW940, mW941⟩
theorem ok_X9_check : xVok yX9_check cX9_check 3 (some .int) 2 := ⟨⟨mW1067, mW5, ⟨by decide +kernel, by decide +kernel, by decide +kernel⟩⟩, mW1065, mW1066⟩
theorem ok_X9_claim : xVok yX9_claim cX9_claim 3 (some .boolean) 1 := ⟨⟨mW1037, mW5, ⟨by decide +kernel, by decide +kernel, by decide +kernel⟩⟩, mW1035, mW1036⟩
theorem ok_X9_clear : xVok yX9_clear cX9_clear 7 (some .int) 3 := ⟨⟨mW363, mW5, ⟨by decide +kernel, by decide +kernel, by decide +kernel⟩⟩, mW361, mW362⟩
theorem ok_X9_close : xVok yX9_close cX9_close 3 (some .boolean) 1 := ⟨⟨mW386, mW5, ⟨by decide +kernel, by decide +kernel, by decide +kernel⟩⟩, mW384, mW385⟩
theorem ok_X9_contract : xVok yX9_contract cX9_contract 2 (some .int) 0 := ⟨⟨mW174, mW5, ⟨by decide +kernel, by decide +kernel, by decide +kernel⟩⟩, mW172, mW173⟩
theorem ok_X9_contractWhy : xVok yX9_contractWhy cX9_contractWhy 2 (some .int) 1 := ⟨⟨mW229, mW5, ⟨by decide +kernel, by decide +kernel, by decide +kernel⟩⟩, mW227, mW228⟩
theorem ok_X9_copy : xVok yX9_copy cX9_copy 16 (some .int) 5 := ⟨⟨mW488, mW5, ⟨by decide +kernel, by decide +kernel, by decide +kernel⟩⟩, mW486, mW487⟩
theorem ok_X9_counts : xVok yX9_counts cX9_counts 6 (some .int) 4 := ⟨⟨mW925, mW5, ⟨by decide +kernel, by decide +kernel, by decide +kernel⟩⟩, mW923, mW924⟩
theorem ok_X9_day : xVok yX9_day cX9_day 5 (some .boolean) 3 := ⟨⟨mW449, mW5, ⟨by decide +kernel, by decide +kernel, by decide +kernel⟩⟩, mW447, mW448⟩
theorem ok_X9_dayWhy : xVok yX9_dayWhy cX9_dayWhy 4 (some .int) 2 := ⟨⟨mW453, mW5, ⟨by decide +kernel, by decide +kernel, by decide +kernel⟩⟩, mW451, mW452⟩
theorem ok_X9_doesCount : xVok yX9_doesCount cX9_doesCount 3 (some .boolean) 1 := ⟨⟨mW646, mW5, ⟨by decide +kernel, by decide +kernel, by decide +kernel⟩⟩, mW644, mW645⟩
theorem ok_X9_end : xVok yX9_end cX9_end 3 (some .int) 1 := ⟨⟨mW650, mW5, ⟨by decide +kernel, by decide +kernel, by decide +kernel⟩⟩, mW648, mW649⟩
theorem ok_X9_event : xVok yX9_event cX9_event 5 (some .boolean) 3 := ⟨⟨mW420, mW5, ⟨by decide +kernel, by decide +kernel, by decide +kernel⟩⟩, mW418, mW419⟩
theorem ok_X9_first : xVok yX9_first cX9_first 5 (some .int) 3 := ⟨⟨mW634, mW5, ⟨by decide +kernel, by decide +kernel, by decide +kernel⟩⟩, mW632, mW633⟩
theorem ok_X9_free : xVok yX9_free cX9_free 6 (some .boolean) 3 := ⟨⟨mW501, mW5, ⟨by decide +kernel, by decide +kernel, by decide +kernel⟩⟩, mW499, mW500⟩
theorem ok_X9_good : xVok yX9_good cX9_good 6 (some .int) 1 := ⟨⟨mW630, mW5, ⟨by decide +kernel, by decide +kernel, by decide +kernel⟩⟩, mW628, mW629⟩
theorem ok_X9_hasEnd : xVok yX9_hasEnd cX9_hasEnd 2 (some .boolean) 1 := ⟨⟨mW1011, mW5, ⟨by decide +kernel, by decide +kernel, by decide +kernel⟩⟩, mW1009, mW1010⟩
theorem ok_X9_hasMinute : xVok yX9_hasMinute cX9_hasMinute 8 (some .boolean) 4 := ⟨⟨mW900, mW5, ⟨by decide +kernel, by decide +kernel, by decide +kernel⟩⟩, mW898, mW899⟩
theorem ok_X9_headed : xVok yX9_headed cX9_headed 4 (some .int) 2 := ⟨⟨mW297, mW5, ⟨by decide +kernel, by decide +kernel, by decide +kernel⟩⟩, mW295, mW296⟩
theorem ok_X9_heading : xVok yX9_heading cX9_heading 5 (some .boolean) 3 := ⟨⟨mW272, mW5, ⟨by decide +kernel, by decide +kernel, by decide +kernel⟩⟩, mW270, mW271⟩
theorem ok_X9_image : xVok yX9_image cX9_image 2 (some .boolean) 0 := ⟨⟨mW1100, mW5, ⟨by decide +kernel, by decide +kernel, by decide +kernel⟩⟩, mW1098, mW1099⟩
theorem ok_X9_init : xIok yX9_init cX9_init 1 0 := ⟨⟨mW104, mW5, ⟨by decide +kernel, by decide +kernel, by decide +kernel⟩⟩, mW103, rfl⟩
theorem ok_X9_insert : xVok yX9_insert cX9_insert 5 none 3 := ⟨⟨mW436, mW5, ⟨by decide +kernel, by decide +kernel, by decide +kernel⟩⟩, mW434, mW435⟩
theorem ok_X9_isAsked : xVok yX9_isAsked cX9_isAsked 7 (some .boolean) 6 := ⟨⟨mW896, mW5, ⟨by decide +kernel, by decide +kernel, by decide +kernel⟩⟩, mW894, mW895⟩
theorem ok_X9_isEnded : xVok yX9_isEnded cX9_isEnded 4 (some .boolean) 1 := ⟨⟨mW1007, mW5, ⟨by decide +kernel, by decide +kernel, by decide +kernel⟩⟩, mW1005, mW1006⟩
theorem ok_X9_isKnown : xVok yX9_isKnown cX9_isKnown 3 (some .boolean) 2 := ⟨⟨mW432, mW5, ⟨by decide +kernel, by decide +kernel, by decide +kernel⟩⟩, mW430, mW431⟩
theorem ok_X9_isOpen : xVok yX9_isOpen cX9_isOpen 2 (some .boolean) 1 := ⟨⟨mW394, mW5, ⟨by decide +kernel, by decide +kernel, by decide +kernel⟩⟩, mW392, mW393⟩
theorem ok_X9_kind : xVok yX9_kind cX9_kind 5 (some .int) 2 := ⟨⟨mW288, mW5, ⟨by decide +kernel, by decide +kernel, by decide +kernel⟩⟩, mW286, mW287⟩
theorem ok_X9_leastPort : xVok yX9_leastPort cX9_leastPort 3 (some .int) 1 := ⟨⟨mW995, mW5, ⟨by decide +kernel, by decide +kernel, by decide +kernel⟩⟩, mW993, mW994⟩
theorem ok_X9_length : xVok yX9_length cX9_length 2 (some .int) 1 := ⟨⟨mW638, mW5, ⟨by decide +kernel, by decide +kernel, by decide +kernel⟩⟩, mW636, mW637⟩
theorem ok_X9_lesser : xVok yX9_lesser cX9_lesser 3 (some .int) 2 := ⟨⟨mW492, mW5, ⟨by decide +kernel, by decide +kernel, by decide +kernel⟩⟩, mW490, mW491⟩
theorem ok_X9_many : xVok yX9_many cX9_many 4 (some .int) 1 := ⟨⟨mW660, mW5, ⟨by decide +kernel, by decide +kernel, by decide +kernel⟩⟩, mW658, mW659⟩
theorem ok_X9_minute : xVok yX9_minute cX9_minute 5 (some .int) 3 := ⟨⟨mW855, mW5, ⟨by decide +kernel, by decide +kernel, by decide +kernel⟩⟩, mW853, mW854⟩
theorem ok_X9_minuteWhy : xVok yX9_minuteWhy cX9_minuteWhy 4 (some .int) 2 := ⟨⟨mW424, mW5, ⟨by decide +kernel, by decide +kernel, by decide +kernel⟩⟩, mW422, mW423⟩
theorem ok_X9_no : xVok yX9_no cX9_no 2 (some .int) 1 := ⟨⟨mW180, mW5, ⟨by decide +kernel, by decide +kernel, by decide +kernel⟩⟩, mW178, mW179⟩
theorem ok_X9_of : xVok yX9_of cX9_of 3 (some .int) 2 := ⟨⟨mW428, mW5, ⟨by decide +kernel, by decide +kernel, by decide +kernel⟩⟩, mW426, mW427⟩
theorem ok_X9_office : xVok yX9_office cX9_office 6 (some .boolean) 4 := ⟨⟨mW528, mW5, ⟨by decide +kernel, by decide +kernel, by decide +kernel⟩⟩, mW526, mW527⟩
theorem ok_X9_offset : xVok yX9_offset cX9_offset 3 (some .boolean) 2 := ⟨⟨mW538, mW5, ⟨by decide +kernel, by decide +kernel, by decide +kernel⟩⟩, mW536, mW537⟩
theorem ok_X9_owed : xVok yX9_owed cX9_owed 1 (some .long) 0 := ⟨⟨mW999, mW5, ⟨by decide +kernel, by decide +kernel, by decide +kernel⟩⟩, mW997, mW998⟩
theorem ok_X9_part : xVok yX9_part cX9_part 3 none 1 := ⟨⟨mW368, mW5, ⟨by decide +kernel, by decide +kernel, by decide +kernel⟩⟩, mW366, mW367⟩
theorem ok_X9_placeWhy : xVok yX9_placeWhy cX9_placeWhy 3 (some .int) 2 := ⟨⟨mW225, mW5, ⟨by decide +kernel, by decide +kernel, by decide +kernel⟩⟩, mW223, mW224⟩
theorem ok_X9_port : xVok yX9_port cX9_port 6 (some .boolean) 3 := ⟨⟨mW358, mW5, ⟨by decide +kernel, by decide +kernel, by decide +kernel⟩⟩, mW356, mW357⟩
theorem ok_X9_portWhy : xVok yX9_portWhy cX9_portWhy 2 (some .int) 1 := ⟨⟨mW390, mW5, ⟨by decide +kernel, by decide +kernel, by decide +kernel⟩⟩, mW388, mW389⟩
theorem ok_X9_put : xVok yX9_put cX9_put 8 (some .boolean) 4 := ⟨⟨mW516, mW5, ⟨by decide +kernel, by decide +kernel, by decide +kernel⟩⟩, mW514, mW515⟩
theorem ok_X9_rate : xVok yX9_rate cX9_rate 7 (some .boolean) 3 := ⟨⟨mW550, mW5, ⟨by decide +kernel, by decide +kernel, by decide +kernel⟩⟩, mW548, mW549⟩
theorem ok_X9_saved : xVok yX9_saved cX9_saved 2 (some .long) 1 := ⟨⟨mW1003, mW5, ⟨by decide +kernel, by decide +kernel, by decide +kernel⟩⟩, mW1001, mW1002⟩
theorem ok_X9_seek : xVok yX9_seek cX9_seek 6 none 5 := ⟨⟨mW860, mW5, ⟨by decide +kernel, by decide +kernel, by decide +kernel⟩⟩, mW858, mW859⟩
theorem ok_X9_span : xVok yX9_span cX9_span 6 (some .int) 3 := ⟨⟨mW307, mW5, ⟨by decide +kernel, by decide +kernel, by decide +kernel⟩⟩, mW305, mW306⟩
theorem ok_X9_state : xVok yX9_state cX9_state 6 (some .int) 2 := ⟨⟨mW687, mW5, ⟨by decide +kernel, by decide +kernel, by decide +kernel⟩⟩, mW685, mW686⟩
theorem ok_X9_status : xVok yX9_status cX9_status 2 (some .int) 1 := ⟨⟨mW1117, mW5, ⟨by decide +kernel, by decide +kernel, by decide +kernel⟩⟩, mW1115, mW1116⟩
theorem ok_X9_step : xVok yX9_step cX9_step 12 none 7 := ⟨⟨mW887, mW5, ⟨by decide +kernel, by decide +kernel, by decide +kernel⟩⟩, mW885, mW886⟩
theorem ok_X9_strike : xVok yX9_strike cX9_strike 4 (some .boolean) 2 := ⟨⟨mW280, mW5, ⟨by decide +kernel, by decide +kernel, by decide +kernel⟩⟩, mW278, mW279⟩
theorem ok_X9_sum : xVok yX9_sum cX9_sum 6 (some .long) 3 := ⟨⟨mW990, mW5, ⟨by decide +kernel, by decide +kernel, by decide +kernel⟩⟩, mW988, mW989⟩
theorem ok_X9_tear : xVok yX9_tear cX9_tear 5 (some .int) 3 := ⟨⟨mW465, mW5, ⟨by decide +kernel, by decide +kernel, by decide +kernel⟩⟩, mW463, mW464⟩
theorem ok_X9_tell : xVok yX9_tell cX9_tell 4 (some .int) 2 := ⟨⟨mW1051, mW5, ⟨by decide +kernel, by decide +kernel, by decide +kernel⟩⟩, mW1049, mW1050⟩
theorem ok_X9_teller : xVok yX9_teller cX9_teller 16 (some .int) 7 := ⟨⟨mW892, mW5, ⟨by decide +kernel, by decide +kernel, by decide +kernel⟩⟩, mW890, mW891⟩
theorem ok_X9_term : xVok yX9_term cX9_term 10 (some .boolean) 6 := ⟨⟨mW220, mW5, ⟨by decide +kernel, by decide +kernel, by decide +kernel⟩⟩, mW218, mW219⟩
theorem ok_X9_termWhy : xVok yX9_termWhy cX9_termWhy 4 (some .int) 2 := ⟨⟨mW251, mW5, ⟨by decide +kernel, by decide +kernel, by decide +kernel⟩⟩, mW249, mW250⟩
theorem ok_X9_together : xVok yX9_together cX9_together 4 (some .boolean) 1 := ⟨⟨mW559, mW5, ⟨by decide +kernel, by decide +kernel, by decide +kernel⟩⟩, mW557, mW558⟩
theorem ok_X9_told : xVok yX9_told cX9_told 4 (some .int) 2 := ⟨⟨mW626, mW5, ⟨by decide +kernel, by decide +kernel, by decide +kernel⟩⟩, mW624, mW625⟩
theorem ok_X9_tons : xVok yX9_tons cX9_tons 4 (some .boolean) 2 := ⟨⟨mW511, mW5, ⟨by decide +kernel, by decide +kernel, by decide +kernel⟩⟩, mW509, mW510⟩
theorem ok_X9_unknown : xVok yX9_unknown cX9_unknown 4 (some .int) 1 := ⟨⟨mW664, mW5, ⟨by decide +kernel, by decide +kernel, by decide +kernel⟩⟩, mW662, mW663⟩
theorem ok_X9_walk : xVok yX9_walk cX9_walk 17 none 5 := ⟨⟨mW872, mW5, ⟨by decide +kernel, by decide +kernel, by decide +kernel⟩⟩, mW870, mW871⟩
theorem ok_X9_weight : xVok yX9_weight cX9_weight 4 (some .long) 2 := ⟨⟨mW674, mW5, ⟨by decide +kernel, by decide +kernel, by decide +kernel⟩⟩, mW672, mW673⟩
theorem ok_X9_why : xVok yX9_why cX9_why 5 (some .int) 3 := ⟨⟨mW912, mW5, ⟨by decide +kernel, by decide +kernel, by decide +kernel⟩⟩, mW910, mW911⟩
theorem ok_X9_yields : xVok yX9_yields cX9_yields 6 (some .int) 3 := ⟨⟨mW247, mW5, ⟨by decide +kernel, by decide +kernel, by decide +kernel⟩⟩, mW245, mW246⟩
theorem xdef_X0 : ∀ j, j < 6 → defaultValue (tyX0 j) = vp_V [.null, .null, .null, .null, .null, .int 0] j := by
  intro j hj
  match j, hj with
  | 0, _ => rfl
  | 1, _ => rfl
  | 2, _ => rfl
  | 3, _ => rfl
  | 4, _ => rfl
  | 5, _ => rfl
  | k + 6, hj => exact absurd hj (by omega)
theorem xdef_X1 : ∀ j, j < 4 → defaultValue (tyX1 j) = vp_V [.null, .null, .int 0, .int 0] j := by
  intro j hj
  match j, hj with
  | 0, _ => rfl
  | 1, _ => rfl
  | 2, _ => rfl
  | 3, _ => rfl
  | k + 4, hj => exact absurd hj (by omega)
theorem xdef_X2 : ∀ j, j < 3 → defaultValue (tyX2 j) = vp_V [.null, .null, .int 0] j := by
  intro j hj
  match j, hj with
  | 0, _ => rfl
  | 1, _ => rfl
  | 2, _ => rfl
  | k + 3, hj => exact absurd hj (by omega)
theorem xdef_X3 : ∀ j, j < 16 → defaultValue (tyX3 j) = vp_V [.null, .null, .null, .null, .null, .int 0, .int 0, .int 0, .int 0, .long 0, .long 0, .long 0, .int 0, .int 0, .int 0, .int 0] j := by
  intro j hj
  match j, hj with
  | 0, _ => rfl
  | 1, _ => rfl
  | 2, _ => rfl
  | 3, _ => rfl
  | 4, _ => rfl
  | 5, _ => rfl
  | 6, _ => rfl
  | 7, _ => rfl
  | 8, _ => rfl
  | 9, _ => rfl
  | 10, _ => rfl
  | 11, _ => rfl
  | 12, _ => rfl
  | 13, _ => rfl
  | 14, _ => rfl
  | 15, _ => rfl
  | k + 16, hj => exact absurd hj (by omega)
theorem xdef_X4 : ∀ j, j < 11 → defaultValue (tyX4 j) = vp_V [.null, .null, .int 0, .int 0, .int 0, .int 0, .int 0, .int 0, .long 0, .long 0, .long 0] j := by
  intro j hj
  match j, hj with
  | 0, _ => rfl
  | 1, _ => rfl
  | 2, _ => rfl
  | 3, _ => rfl
  | 4, _ => rfl
  | 5, _ => rfl
  | 6, _ => rfl
  | 7, _ => rfl
  | 8, _ => rfl
  | 9, _ => rfl
  | 10, _ => rfl
  | k + 11, hj => exact absurd hj (by omega)
theorem xdef_X5 : ∀ j, j < 7 → defaultValue (tyX5 j) = vp_V [.int 0, .int 0, .int 0, .int 0, .long 0, .int 0, .int 0] j := by
  intro j hj
  match j, hj with
  | 0, _ => rfl
  | 1, _ => rfl
  | 2, _ => rfl
  | 3, _ => rfl
  | 4, _ => rfl
  | 5, _ => rfl
  | 6, _ => rfl
  | k + 7, hj => exact absurd hj (by omega)
theorem xdef_X6 : ∀ j, j < 7 → defaultValue (tyX6 j) = vp_V [.null, .null, .null, .null, .null, .null, .int 0] j := by
  intro j hj
  match j, hj with
  | 0, _ => rfl
  | 1, _ => rfl
  | 2, _ => rfl
  | 3, _ => rfl
  | 4, _ => rfl
  | 5, _ => rfl
  | 6, _ => rfl
  | k + 7, hj => exact absurd hj (by omega)
theorem xdef_X7 : ∀ j, j < 18 → defaultValue (tyX7 j) = vp_V [.null, .null, .null, .int 0, .int 0, .int 0, .int 0, .null, .int 0, .int 0, .int 0, .int 0, .int 0, .int 0, .int 0, .int 0, .int 0, .int 0] j := by
  intro j hj
  match j, hj with
  | 0, _ => rfl
  | 1, _ => rfl
  | 2, _ => rfl
  | 3, _ => rfl
  | 4, _ => rfl
  | 5, _ => rfl
  | 6, _ => rfl
  | 7, _ => rfl
  | 8, _ => rfl
  | 9, _ => rfl
  | 10, _ => rfl
  | 11, _ => rfl
  | 12, _ => rfl
  | 13, _ => rfl
  | 14, _ => rfl
  | 15, _ => rfl
  | 16, _ => rfl
  | 17, _ => rfl
  | k + 18, hj => exact absurd hj (by omega)
theorem xdef_X8 : ∀ j, j < 6 → defaultValue (tyX8 j) = vp_V [.null, .null, .null, .null, .int 0, .int 0] j := by
  intro j hj
  match j, hj with
  | 0, _ => rfl
  | 1, _ => rfl
  | 2, _ => rfl
  | 3, _ => rfl
  | 4, _ => rfl
  | 5, _ => rfl
  | k + 6, hj => exact absurd hj (by omega)
theorem xdef_X9 : ∀ j, j < 67 → defaultValue (tyX9 j) = vp_V [.int 0, .int 0, .int 0, .int 0, .null, .null, .null, .null, .null, .null, .null, .null, .null, .null, .null, .null, .null, .null, .null, .null, .int 0, .null, .null, .null, .null, .null, .null, .null, .null, .null, .null, .null, .null, .null, .null, .null, .null, .null, .int 0, .null, .null, .null, .null, .null, .null, .null, .null, .null, .null, .int 0, .int 0, .int 0, .int 0, .int 0, .int 0, .int 0, .long 0, .int 0, .long 0, .long 0, .long 0, .long 0, .int 0, .int 0, .int 0, .int 0, .long 0] j := by
  intro j hj
  match j, hj with
  | 0, _ => rfl
  | 1, _ => rfl
  | 2, _ => rfl
  | 3, _ => rfl
  | 4, _ => rfl
  | 5, _ => rfl
  | 6, _ => rfl
  | 7, _ => rfl
  | 8, _ => rfl
  | 9, _ => rfl
  | 10, _ => rfl
  | 11, _ => rfl
  | 12, _ => rfl
  | 13, _ => rfl
  | 14, _ => rfl
  | 15, _ => rfl
  | 16, _ => rfl
  | 17, _ => rfl
  | 18, _ => rfl
  | 19, _ => rfl
  | 20, _ => rfl
  | 21, _ => rfl
  | 22, _ => rfl
  | 23, _ => rfl
  | 24, _ => rfl
  | 25, _ => rfl
  | 26, _ => rfl
  | 27, _ => rfl
  | 28, _ => rfl
  | 29, _ => rfl
  | 30, _ => rfl
  | 31, _ => rfl
  | 32, _ => rfl
  | 33, _ => rfl
  | 34, _ => rfl
  | 35, _ => rfl
  | 36, _ => rfl
  | 37, _ => rfl
  | 38, _ => rfl
  | 39, _ => rfl
  | 40, _ => rfl
  | 41, _ => rfl
  | 42, _ => rfl
  | 43, _ => rfl
  | 44, _ => rfl
  | 45, _ => rfl
  | 46, _ => rfl
  | 47, _ => rfl
  | 48, _ => rfl
  | 49, _ => rfl
  | 50, _ => rfl
  | 51, _ => rfl
  | 52, _ => rfl
  | 53, _ => rfl
  | 54, _ => rfl
  | 55, _ => rfl
  | 56, _ => rfl
  | 57, _ => rfl
  | 58, _ => rfl
  | 59, _ => rfl
  | 60, _ => rfl
  | 61, _ => rfl
  | 62, _ => rfl
  | 63, _ => rfl
  | 64, _ => rfl
  | 65, _ => rfl
  | 66, _ => rfl
  | k + 67, hj => exact absurd hj (by omega)
