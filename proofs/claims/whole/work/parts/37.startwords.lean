def RelInit (Rel : RelT) : Prop := Rel (0 : Int32) (0 : Int32) (fun _ => 0) (fun _ => 0) (0 : Int32) (fun _ => 0) (fun _ => 0) (0 : Int32) (0 : Int32) (-4 : Int32) (0 : Int32) (0 : Int32) (-4 : Int32) (fun _ => 0) (fun _ => 0) (0 : Int32) (fun _ => 0) (fun _ => 0) (fun _ => 0) (fun _ => 0) (fun _ => 0) (0 : Int32) (fun _ => 0) (fun _ => 0) (80 : Int32) (fun _ => 0) (8 : Int32) (0 : Int32) (fun _ => 0) (fun _ => 0) (fun _ => 0) (fun _ => 0) (fun _ => 0) (12 : Int32) (0 : Int32) (fun _ => 0) (fun _ => 0) (fun _ => 0) (fun _ => 0) (fun _ => 0) (fun _ => 0) (fun _ => 0) (fun _ => 0) (wk_fillv (fun _ => 0) (1 : Int32) 5) (fun _ => 0) (fun _ => 0) (fun _ => 0) (fun _ => 0) (fun _ => 0) (0 : Int32) (0 : Int32) (0 : Int32) (0 : Int32) (0 : Int32) (0 : Int32) (0 : Int32) (fun _ => 0) (fun _ => 0) (0 : Int32) (0 : Int32) (0 : Int32) (0 : Int32) (0 : Int32) (0 : Int32) (0 : Int32) (80 : Int32) (fun _ => 0) (fun _ => 0) (fun _ => 0) (fun _ => 0) (fun _ => 0) (fun _ => 0) (fun _ => 0) (fun _ => 0) (fun _ => 0) (fun _ => 0) (fun _ => 0) (fun _ => 0) (fun _ => 0) (fun _ => 0) (fun _ => 0) (fun _ => 0) (fun _ => 0) (fun _ => 0) (fun _ => 0) (upd (upd (upd (upd (upd (fun _ => 0) (0 : Int32).toNatClampNeg (1 : Int32)) (1 : Int32).toNatClampNeg (1 : Int32)) (2 : Int32).toNatClampNeg (1 : Int32)) (3 : Int32).toNatClampNeg (1 : Int32)) (4 : Int32).toNatClampNeg (1 : Int32)) (fun _ => 0) (fun _ => 0) (fun _ => 0) (fun _ => 0) (fun _ => 0) (fun _ => 0) (fun _ => 0)
set_option maxRecDepth 100000 in
theorem inT_X0 : ∀ w ∈ wsX00, w ∈ lw_tbl := fun w h => (goodIn_r _ [225, 227, 229, 231, 233, 235, 237, 239] (by decide +kernel) (by decide +kernel) w h).1
set_option maxRecDepth 100000 in
theorem inT_X1 : ∀ w ∈ wsX10, w ∈ lw_tbl := fun w h => (goodIn_r _ [162, 164, 166, 168, 170, 172] (by decide +kernel) (by decide +kernel) w h).1
set_option maxRecDepth 100000 in
theorem inT_X2 : ∀ w ∈ wsX20, w ∈ lw_tbl := fun w h => (goodIn_r _ [261, 263, 265, 267, 269] (by decide +kernel) (by decide +kernel) w h).1
set_option maxRecDepth 100000 in
theorem inT_X3 : ∀ w ∈ wsX30, w ∈ lw_tbl := fun w h => (goodIn_r _ [105, 107, 109] (by decide +kernel) (by decide +kernel) w h).1
set_option maxRecDepth 100000 in
theorem inT_X4 : ∀ w ∈ wsX40, w ∈ lw_tbl := fun w h => (goodIn_r _ [191, 193] (by decide +kernel) (by decide +kernel) w h).1
set_option maxRecDepth 100000 in
theorem inT_X5 : ∀ w ∈ wsX50, w ∈ lw_tbl := fun w h => (goodIn_r _ [280, 282, 284, 286, 288, 290] (by decide +kernel) (by decide +kernel) w h).1
set_option maxRecDepth 100000 in
theorem inT_X6 : ∀ w ∈ wsX60, w ∈ lw_tbl := fun w h => (goodIn_r _ [98] (by decide +kernel) (by decide +kernel) w h).1
set_option maxRecDepth 100000 in
theorem inT_X7 : ∀ w ∈ wsX70, w ∈ lw_tbl := fun w h => (goodIn_r _ [312, 314, 316, 318, 320, 322, 324] (by decide +kernel) (by decide +kernel) w h).1
set_option maxRecDepth 100000 in
theorem inT_X8 : ∀ w ∈ wsX80, w ∈ lw_tbl := fun w h => (goodIn_r _ [200, 202, 204, 206] (by decide +kernel) (by decide +kernel) w h).1
set_option maxRecDepth 100000 in
theorem inT_X9 : ∀ w ∈ wsX90, w ∈ lw_tbl := fun w h => (goodIn_r _ [129, 131, 133, 135, 137, 139, 141, 143, 145] (by decide +kernel) (by decide +kernel) w h).1
set_option maxRecDepth 100000 in
theorem inT_X10 : ∀ w ∈ wsX100, w ∈ lw_tbl := fun w h => (goodIn_r _ [337, 339, 341, 343, 345, 347, 349, 351, 353, 355] (by decide +kernel) (by decide +kernel) w h).1
set_option maxRecDepth 100000 in
theorem inT_X11 : ∀ w ∈ wsX110, w ∈ lw_tbl := fun w h => (goodIn_r _ [1130, 1132, 1134, 1136, 1138, 1140, 1142, 1144, 1146, 1148, 1150, 1152, 1154, 1156, 1158, 1160, 1162, 1164, 1166, 1168, 1170, 1172, 1174, 1176, 1178, 1180, 1182, 1184, 1186, 1188, 1190, 1192, 1194, 1196, 1198] (by decide +kernel) (by decide +kernel) w h).1
set_option maxRecDepth 100000 in
theorem tI_0 : Cond.instantiable RX0 8 ∈ lw_tbl := List.mem_of_getElem? (i := 210) (by decide +kernel)
set_option maxRecDepth 100000 in
theorem tI_1 : Cond.instantiable RX1 6 ∈ lw_tbl := List.mem_of_getElem? (i := 149) (by decide +kernel)
set_option maxRecDepth 100000 in
theorem tI_2 : Cond.instantiable RX2 5 ∈ lw_tbl := List.mem_of_getElem? (i := 249) (by decide +kernel)
set_option maxRecDepth 100000 in
theorem tI_3 : Cond.instantiable RX3 3 ∈ lw_tbl := List.mem_of_getElem? (i := 86) (by decide +kernel)
set_option maxRecDepth 100000 in
theorem tI_4 : Cond.instantiable RX4 2 ∈ lw_tbl := List.mem_of_getElem? (i := 182) (by decide +kernel)
set_option maxRecDepth 100000 in
theorem tI_5 : Cond.instantiable RX5 6 ∈ lw_tbl := List.mem_of_getElem? (i := 243) (by decide +kernel)
set_option maxRecDepth 100000 in
theorem tI_6 : Cond.instantiable RX6 1 ∈ lw_tbl := List.mem_of_getElem? (i := 92) (by decide +kernel)
set_option maxRecDepth 100000 in
theorem tI_7 : Cond.instantiable RX7 7 ∈ lw_tbl := List.mem_of_getElem? (i := 294) (by decide +kernel)
set_option maxRecDepth 100000 in
theorem tI_8 : Cond.instantiable RX8 4 ∈ lw_tbl := List.mem_of_getElem? (i := 176) (by decide +kernel)
set_option maxRecDepth 100000 in
theorem tI_9 : Cond.instantiable RX9 9 ∈ lw_tbl := List.mem_of_getElem? (i := 113) (by decide +kernel)
set_option maxRecDepth 100000 in
theorem tI_10 : Cond.instantiable RX10 10 ∈ lw_tbl := List.mem_of_getElem? (i := 78) (by decide +kernel)
set_option maxRecDepth 100000 in
theorem tI_11 : Cond.instantiable RX11 35 ∈ lw_tbl := List.mem_of_getElem? (i := 1090) (by decide +kernel)
set_option maxRecDepth 100000 in
theorem tA_int : Cond.arrayClass .int ∈ lw_tbl := List.mem_of_getElem? (i := 101) (by decide +kernel)
set_option maxRecDepth 100000 in
theorem tA_byte : Cond.arrayClass .byte ∈ lw_tbl := List.mem_of_getElem? (i := 1201) (by decide +kernel)
set_option maxRecDepth 100000 in
theorem tA_long : Cond.arrayClass .long ∈ lw_tbl := List.mem_of_getElem? (i := 1202) (by decide +kernel)
set_option maxRecDepth 100000 in
theorem tN_0 : Cond.methodLinkNest RX10 11 yX3_init RX10 ∈ lw_tbl := List.mem_of_getElem? (i := 87) (by decide +kernel)
set_option maxRecDepth 100000 in
theorem tN_1 : Cond.methodLinkNest RX10 28 yX9_init RX10 ∈ lw_tbl := List.mem_of_getElem? (i := 114) (by decide +kernel)
set_option maxRecDepth 100000 in
theorem tN_2 : Cond.methodLinkNest RX10 35 yX1_init RX10 ∈ lw_tbl := List.mem_of_getElem? (i := 150) (by decide +kernel)
set_option maxRecDepth 100000 in
theorem tN_3 : Cond.methodLinkNest RX10 51 yX0_init RX10 ∈ lw_tbl := List.mem_of_getElem? (i := 211) (by decide +kernel)
set_option maxRecDepth 100000 in
theorem tN_4 : Cond.methodLinkNest RX10 58 yX5_init RX10 ∈ lw_tbl := List.mem_of_getElem? (i := 244) (by decide +kernel)
set_option maxRecDepth 100000 in
theorem tN_5 : Cond.methodLinkNest RX0 62 yX10_winnerOf RX10 ∈ lw_tbl := List.mem_of_getElem? (i := 709) (by decide +kernel)
set_option maxRecDepth 100000 in
theorem tN_6 : Cond.methodLinkNest RX0 75 yX10_hasBit RX10 ∈ lw_tbl := List.mem_of_getElem? (i := 714) (by decide +kernel)
set_option maxRecDepth 100000 in
theorem tN_7 : Cond.methodLinkNest RX0 86 yX10_leadOf RX10 ∈ lw_tbl := List.mem_of_getElem? (i := 729) (by decide +kernel)
set_option maxRecDepth 100000 in
theorem tN_8 : Cond.methodLinkNest RX2 37 yX10_letterAt RX10 ∈ lw_tbl := List.mem_of_getElem? (i := 828) (by decide +kernel)
set_option maxRecDepth 100000 in
theorem tN_9 : Cond.methodLinkNest RX4 51 yX10_onlyBit RX10 ∈ lw_tbl := List.mem_of_getElem? (i := 483) (by decide +kernel)
set_option maxRecDepth 100000 in
theorem tN_10 : Cond.methodLinkNest RX7 76 yX10_hasBit RX10 ∈ lw_tbl := List.mem_of_getElem? (i := 988) (by decide +kernel)
set_option maxRecDepth 100000 in
theorem tN_11 : Cond.methodLinkNest RX8 11 yX4_init RX10 ∈ lw_tbl := List.mem_of_getElem? (i := 183) (by decide +kernel)
set_option maxRecDepth 100000 in
theorem tN_12 : Cond.methodLinkNest RX8 61 yX10_oneVote RX10 ∈ lw_tbl := List.mem_of_getElem? (i := 486) (by decide +kernel)
set_option maxRecDepth 100000 in
theorem tN_13 : Cond.methodLinkNest RX8 67 yX10_votesFor RX10 ∈ lw_tbl := List.mem_of_getElem? (i := 489) (by decide +kernel)
set_option maxRecDepth 100000 in
theorem tN_14 : Cond.methodLinkNest RX9 80 yX10_isCountyOrAll RX10 ∈ lw_tbl := List.mem_of_getElem? (i := 549) (by decide +kernel)
set_option maxRecDepth 100000 in
theorem tN_15 : Cond.methodLinkNest RX9 83 yX10_isHour RX10 ∈ lw_tbl := List.mem_of_getElem? (i := 552) (by decide +kernel)
set_option maxRecDepth 100000 in
theorem tC_10 : Cond.classLink RL 7 RX10 ∈ lw_tbl := List.mem_of_getElem? (i := 77) (by decide +kernel)
set_option maxRecDepth 100000 in
theorem tC_11 : Cond.classLink RL 10 RX11 ∈ lw_tbl := List.mem_of_getElem? (i := 1089) (by decide +kernel)
set_option maxRecDepth 100000 in
theorem tZ_10 : Cond.initialized RX10 ∈ lw_tbl := List.mem_of_getElem? (i := 63) (by decide +kernel)
set_option maxRecDepth 100000 in
theorem tZ_11 : Cond.initialized RX11 ∈ lw_tbl := List.mem_of_getElem? (i := 74) (by decide +kernel)
set_option maxRecDepth 100000 in
theorem tM_10 : Cond.methodLink RL 9 yX10_init ∈ lw_tbl := List.mem_of_getElem? (i := 79) (by decide +kernel)
set_option maxRecDepth 100000 in
theorem tM_11 : Cond.methodLink RL 12 yX11_init ∈ lw_tbl := List.mem_of_getElem? (i := 1091) (by decide +kernel)
set_option maxRecDepth 100000 in
theorem tY_10 : Cond.instanceMethod yX10_init ∈ lw_tbl := List.mem_of_getElem? (i := 80) (by decide +kernel)
set_option maxRecDepth 100000 in
theorem tY_11 : Cond.instanceMethod yX11_init ∈ lw_tbl := List.mem_of_getElem? (i := 1092) (by decide +kernel)
