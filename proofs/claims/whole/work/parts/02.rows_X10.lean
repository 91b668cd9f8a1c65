set_option maxRecDepth 20000 in
theorem ggX10_init_X3_init : GoodIn wsX10_init wsX3_init := goodIn_r _ [36, 37, 2, 3, 38, 39, 40, 41, 42, 43, 44, 45, 46, 47, 48, 49, 201, 148, 149, 150] (by decide +kernel) (by decide +kernel)
set_option maxRecDepth 20000 in
theorem gX10_init_X3_init_n11 : GoodIn wsX10_init (wsX3_init) := ggX10_init_X3_init
set_option maxRecDepth 20000 in
theorem ggX10_init_X9_init : GoodIn wsX10_init wsX9_init := goodIn_r _ [51, 52, 2, 3, 53, 39, 40, 54, 55, 56, 57, 58, 59, 60, 61, 62, 63, 45, 46, 47, 48, 49, 201, 161, 162, 163, 164, 165, 166, 167, 168, 169] (by decide +kernel) (by decide +kernel)
set_option maxRecDepth 20000 in
theorem gX10_init_X9_init_n28 : GoodIn wsX10_init (wsX9_init) := ggX10_init_X9_init
set_option maxRecDepth 20000 in
theorem ggX10_init_X1_init : GoodIn wsX10_init wsX1_init := goodIn_r _ [65, 66, 2, 3, 67, 39, 40, 68, 69, 70, 71, 72, 73, 74, 45, 46, 47, 48, 49, 201, 170, 171, 172, 173, 174, 175] (by decide +kernel) (by decide +kernel)
set_option maxRecDepth 20000 in
theorem gX10_init_X1_init_n35 : GoodIn wsX10_init (wsX1_init) := ggX10_init_X1_init
set_option maxRecDepth 20000 in
theorem ggX10_init_X8_init : GoodIn wsX10_init wsX8_init := goodIn_r _ [77, 78, 2, 3, 79, 80, 81, 82, 83, 84, 85, 86, 87, 88, 89, 39, 40, 90, 91, 92, 45, 46, 47, 48, 49, 202, 203, 176, 177, 178, 179, 201] (by decide +kernel) (by decide +kernel)
set_option maxRecDepth 20000 in
theorem gX10_init_X8_init : GoodIn wsX10_init (wsX8_init) := ggX10_init_X8_init
set_option maxRecDepth 20000 in
theorem ggX10_init_X0_init : GoodIn wsX10_init wsX0_init := goodIn_r _ [94, 95, 2, 3, 96, 39, 40, 97, 98, 99, 100, 101, 102, 103, 104, 105, 45, 46, 47, 48, 49, 201, 180, 181, 182, 183, 184, 185, 186, 187] (by decide +kernel) (by decide +kernel)
set_option maxRecDepth 20000 in
theorem gX10_init_X0_init_n51 : GoodIn wsX10_init (wsX0_init) := ggX10_init_X0_init
set_option maxRecDepth 20000 in
theorem ggX10_init_X5_init : GoodIn wsX10_init wsX5_init := goodIn_r _ [107, 108, 2, 3, 109, 110, 111, 112, 113, 114, 39, 40, 115, 116, 117, 118, 119, 120, 121, 122, 123, 124, 125, 126, 127, 128, 129, 45, 46, 47, 48, 49, 130, 204, 205, 206, 207, 208, 188, 189, 190, 191, 192, 193, 201] (by decide +kernel) (by decide +kernel)
set_option maxRecDepth 20000 in
theorem gX10_init_X5_init_n58 : GoodIn wsX10_init (wsX5_init) := ggX10_init_X5_init
set_option maxRecDepth 20000 in
theorem ggX10_init_X7_init : GoodIn wsX10_init wsX7_init := goodIn_r _ [133, 134, 2, 3, 135, 39, 40, 136, 137, 138, 139, 140, 141, 142, 143, 45, 46, 47, 48, 49, 144, 145, 146, 147, 201, 194, 195, 196, 197, 198, 199, 200] (by decide +kernel) (by decide +kernel)
set_option maxRecDepth 20000 in
theorem gX10_init_X7_init : GoodIn wsX10_init (wsX7_init) := ggX10_init_X7_init
theorem dX10_init_0 : decode cX10_init 0 = .ok (.aload_n 0, 1) := by decide +kernel
theorem dX10_init_1 : decode cX10_init 1 = .ok (.invokespecial 3, 3) := by decide +kernel
theorem dX10_init_4 : decode cX10_init 4 = .ok (.aload_n 0, 1) := by decide +kernel
theorem dX10_init_5 : decode cX10_init 5 = .ok (.new 9, 3) := by decide +kernel
theorem dX10_init_8 : decode cX10_init 8 = .ok (.dup, 1) := by decide +kernel
theorem dX10_init_9 : decode cX10_init 9 = .ok (.invokespecial 11, 3) := by decide +kernel
theorem dX10_init_12 : decode cX10_init 12 = .ok (.putfield 12, 3) := by decide +kernel
theorem dX10_init_15 : decode cX10_init 15 = .ok (.aload_n 0, 1) := by decide +kernel
theorem dX10_init_16 : decode cX10_init 16 = .ok (.new 9, 3) := by decide +kernel
theorem dX10_init_19 : decode cX10_init 19 = .ok (.dup, 1) := by decide +kernel
theorem dX10_init_20 : decode cX10_init 20 = .ok (.invokespecial 11, 3) := by decide +kernel
theorem dX10_init_23 : decode cX10_init 23 = .ok (.putfield 16, 3) := by decide +kernel
theorem dX10_init_26 : decode cX10_init 26 = .ok (.aload_n 0, 1) := by decide +kernel
theorem dX10_init_27 : decode cX10_init 27 = .ok (.new 9, 3) := by decide +kernel
theorem dX10_init_30 : decode cX10_init 30 = .ok (.dup, 1) := by decide +kernel
theorem dX10_init_31 : decode cX10_init 31 = .ok (.invokespecial 11, 3) := by decide +kernel
theorem dX10_init_34 : decode cX10_init 34 = .ok (.putfield 19, 3) := by decide +kernel
theorem dX10_init_37 : decode cX10_init 37 = .ok (.aload_n 0, 1) := by decide +kernel
theorem dX10_init_38 : decode cX10_init 38 = .ok (.iconst 0, 1) := by decide +kernel
theorem dX10_init_39 : decode cX10_init 39 = .ok (.putfield 22, 3) := by decide +kernel
theorem dX10_init_42 : decode cX10_init 42 = .ok (.aload_n 0, 1) := by decide +kernel
theorem dX10_init_43 : decode cX10_init 43 = .ok (.new 26, 3) := by decide +kernel
theorem dX10_init_46 : decode cX10_init 46 = .ok (.dup, 1) := by decide +kernel
theorem dX10_init_47 : decode cX10_init 47 = .ok (.invokespecial 28, 3) := by decide +kernel
theorem dX10_init_50 : decode cX10_init 50 = .ok (.putfield 29, 3) := by decide +kernel
theorem dX10_init_53 : decode cX10_init 53 = .ok (.aload_n 0, 1) := by decide +kernel
theorem dX10_init_54 : decode cX10_init 54 = .ok (.new 33, 3) := by decide +kernel
theorem dX10_init_57 : decode cX10_init 57 = .ok (.dup, 1) := by decide +kernel
theorem dX10_init_58 : decode cX10_init 58 = .ok (.invokespecial 35, 3) := by decide +kernel
theorem dX10_init_61 : decode cX10_init 61 = .ok (.putfield 36, 3) := by decide +kernel
theorem dX10_init_64 : decode cX10_init 64 = .ok (.aload_n 0, 1) := by decide +kernel
theorem dX10_init_65 : decode cX10_init 65 = .ok (.new 40, 3) := by decide +kernel
theorem dX10_init_68 : decode cX10_init 68 = .ok (.dup, 1) := by decide +kernel
theorem dX10_init_69 : decode cX10_init 69 = .ok (.aload_n 0, 1) := by decide +kernel
theorem dX10_init_70 : decode cX10_init 70 = .ok (.getfield 12, 3) := by decide +kernel
theorem dX10_init_73 : decode cX10_init 73 = .ok (.aload_n 0, 1) := by decide +kernel
theorem dX10_init_74 : decode cX10_init 74 = .ok (.getfield 36, 3) := by decide +kernel
theorem dX10_init_77 : decode cX10_init 77 = .ok (.invokespecial 42, 3) := by decide +kernel
theorem dX10_init_80 : decode cX10_init 80 = .ok (.putfield 45, 3) := by decide +kernel
theorem dX10_init_83 : decode cX10_init 83 = .ok (.aload_n 0, 1) := by decide +kernel
theorem dX10_init_84 : decode cX10_init 84 = .ok (.new 49, 3) := by decide +kernel
theorem dX10_init_87 : decode cX10_init 87 = .ok (.dup, 1) := by decide +kernel
theorem dX10_init_88 : decode cX10_init 88 = .ok (.invokespecial 51, 3) := by decide +kernel
theorem dX10_init_91 : decode cX10_init 91 = .ok (.putfield 52, 3) := by decide +kernel
theorem dX10_init_94 : decode cX10_init 94 = .ok (.aload_n 0, 1) := by decide +kernel
theorem dX10_init_95 : decode cX10_init 95 = .ok (.new 56, 3) := by decide +kernel
theorem dX10_init_98 : decode cX10_init 98 = .ok (.dup, 1) := by decide +kernel
theorem dX10_init_99 : decode cX10_init 99 = .ok (.invokespecial 58, 3) := by decide +kernel
theorem dX10_init_102 : decode cX10_init 102 = .ok (.putfield 59, 3) := by decide +kernel
theorem dX10_init_105 : decode cX10_init 105 = .ok (.aload_n 0, 1) := by decide +kernel
theorem dX10_init_106 : decode cX10_init 106 = .ok (.new 63, 3) := by decide +kernel
theorem dX10_init_109 : decode cX10_init 109 = .ok (.dup, 1) := by decide +kernel
theorem dX10_init_110 : decode cX10_init 110 = .ok (.invokespecial 65, 3) := by decide +kernel
theorem dX10_init_113 : decode cX10_init 113 = .ok (.putfield 66, 3) := by decide +kernel
theorem dX10_init_116 : decode cX10_init 116 = .ok (.return_, 1) := by decide +kernel
set_option maxRecDepth 20000 in
theorem ggX10_card_X10_isCounty : GoodIn wsX10_card wsX10_isCounty := goodIn_r _ [6] (by decide +kernel) (by decide +kernel)
set_option maxRecDepth 20000 in
theorem gX10_card_X10_isCounty : GoodIn wsX10_card (va_wsS RX10 70 yX10_isCounty wsX10_isCounty) := goodIn_app (goodIn_of _ (by decide +kernel)) ggX10_card_X10_isCounty
set_option maxRecDepth 20000 in
theorem ggX10_card_X3_add : GoodIn wsX10_card wsX3_add := goodIn_r _ [11, 12, 13, 14, 15, 16, 17, 18, 19, 20, 21, 32, 33, 34, 35] (by decide +kernel) (by decide +kernel)
set_option maxRecDepth 20000 in
theorem gX10_card_X3_add : GoodIn wsX10_card (wsV RX10 76 RX3 yX3_add wsX3_add) := goodIn_app (goodIn_of _ (by decide +kernel)) ggX10_card_X3_add
theorem dX10_card_0 : decode cX10_card 0 = .ok (.iload_n 1, 1) := by decide +kernel
theorem dX10_card_1 : decode cX10_card 1 = .ok (.invokestatic 70, 3) := by decide +kernel
theorem dX10_card_4 : decode cX10_card 4 = .ok (.ifCond .eq 17, 3) := by decide +kernel
theorem dX10_card_7 : decode cX10_card 7 = .ok (.lload_n 2, 1) := by decide +kernel
theorem dX10_card_8 : decode cX10_card 8 = .ok (.lconst 0, 1) := by decide +kernel
theorem dX10_card_9 : decode cX10_card 9 = .ok (.lcmp, 1) := by decide +kernel
theorem dX10_card_10 : decode cX10_card 10 = .ok (.ifCond .lt 11, 3) := by decide +kernel
theorem dX10_card_13 : decode cX10_card 13 = .ok (.lload_n 2, 1) := by decide +kernel
theorem dX10_card_14 : decode cX10_card 14 = .ok (.ldc2_w 74, 3) := by decide +kernel
theorem dX10_card_17 : decode cX10_card 17 = .ok (.lcmp, 1) := by decide +kernel
theorem dX10_card_18 : decode cX10_card 18 = .ok (.ifCond .lt 5, 3) := by decide +kernel
theorem dX10_card_21 : decode cX10_card 21 = .ok (.iconst (-1), 1) := by decide +kernel
theorem dX10_card_22 : decode cX10_card 22 = .ok (.ireturn, 1) := by decide +kernel
theorem dX10_card_23 : decode cX10_card 23 = .ok (.aload_n 0, 1) := by decide +kernel
theorem dX10_card_24 : decode cX10_card 24 = .ok (.getfield 12, 3) := by decide +kernel
theorem dX10_card_27 : decode cX10_card 27 = .ok (.iload_n 1, 1) := by decide +kernel
theorem dX10_card_28 : decode cX10_card 28 = .ok (.lload_n 2, 1) := by decide +kernel
theorem dX10_card_29 : decode cX10_card 29 = .ok (.invokevirtual 76, 3) := by decide +kernel
theorem dX10_card_32 : decode cX10_card 32 = .ok (.ireturn, 1) := by decide +kernel
set_option maxRecDepth 20000 in
theorem ggX10_hole_X3_has : GoodIn wsX10_hole wsX3_has := goodIn_r _ [6, 7, 36, 37, 38] (by decide +kernel) (by decide +kernel)
set_option maxRecDepth 20000 in
theorem gX10_hole_X3_has : GoodIn wsX10_hole (wsV RX10 80 RX3 yX3_has wsX3_has) := goodIn_app (goodIn_of _ (by decide +kernel)) ggX10_hole_X3_has
set_option maxRecDepth 20000 in
theorem ggX10_hole_X10_isRace : GoodIn wsX10_hole wsX10_isRace := goodIn_r _ [11] (by decide +kernel) (by decide +kernel)
set_option maxRecDepth 20000 in
theorem gX10_hole_X10_isRace : GoodIn wsX10_hole (va_wsS RX10 83 yX10_isRace wsX10_isRace) := goodIn_app (goodIn_of _ (by decide +kernel)) ggX10_hole_X10_isRace
set_option maxRecDepth 20000 in
theorem ggX10_hole_X10_isHole : GoodIn wsX10_hole wsX10_isHole := goodIn_r _ [14] (by decide +kernel) (by decide +kernel)
set_option maxRecDepth 20000 in
theorem gX10_hole_X10_isHole : GoodIn wsX10_hole (va_wsS RX10 86 yX10_isHole wsX10_isHole) := goodIn_app (goodIn_of _ (by decide +kernel)) ggX10_hole_X10_isHole
set_option maxRecDepth 20000 in
theorem ggX10_hole_X3_state : GoodIn wsX10_hole wsX3_state := goodIn_r _ [18, 19, 20, 21, 22, 23, 24, 25, 36, 37, 38, 39] (by decide +kernel) (by decide +kernel)
set_option maxRecDepth 20000 in
theorem gX10_hole_X3_state : GoodIn wsX10_hole (wsV RX10 89 RX3 yX3_state wsX3_state) := goodIn_app (goodIn_of _ (by decide +kernel)) ggX10_hole_X3_state
theorem dX10_hole_0 : decode cX10_hole 0 = .ok (.aload_n 0, 1) := by decide +kernel
theorem dX10_hole_1 : decode cX10_hole 1 = .ok (.getfield 12, 3) := by decide +kernel
theorem dX10_hole_4 : decode cX10_hole 4 = .ok (.iload_n 1, 1) := by decide +kernel
theorem dX10_hole_5 : decode cX10_hole 5 = .ok (.invokevirtual 80, 3) := by decide +kernel
theorem dX10_hole_8 : decode cX10_hole 8 = .ok (.ifCond .eq 17, 3) := by decide +kernel
theorem dX10_hole_11 : decode cX10_hole 11 = .ok (.iload_n 2, 1) := by decide +kernel
theorem dX10_hole_12 : decode cX10_hole 12 = .ok (.invokestatic 83, 3) := by decide +kernel
theorem dX10_hole_15 : decode cX10_hole 15 = .ok (.ifCond .eq 10, 3) := by decide +kernel
theorem dX10_hole_18 : decode cX10_hole 18 = .ok (.iload_n 3, 1) := by decide +kernel
theorem dX10_hole_19 : decode cX10_hole 19 = .ok (.invokestatic 86, 3) := by decide +kernel
theorem dX10_hole_22 : decode cX10_hole 22 = .ok (.ifCond .ne 5, 3) := by decide +kernel
theorem dX10_hole_25 : decode cX10_hole 25 = .ok (.iconst (-1), 1) := by decide +kernel
theorem dX10_hole_26 : decode cX10_hole 26 = .ok (.ireturn, 1) := by decide +kernel
theorem dX10_hole_27 : decode cX10_hole 27 = .ok (.aload_n 0, 1) := by decide +kernel
theorem dX10_hole_28 : decode cX10_hole 28 = .ok (.getfield 12, 3) := by decide +kernel
theorem dX10_hole_31 : decode cX10_hole 31 = .ok (.iload_n 1, 1) := by decide +kernel
theorem dX10_hole_32 : decode cX10_hole 32 = .ok (.iload_n 2, 1) := by decide +kernel
theorem dX10_hole_33 : decode cX10_hole 33 = .ok (.iload_n 3, 1) := by decide +kernel
theorem dX10_hole_34 : decode cX10_hole 34 = .ok (.invokevirtual 89, 3) := by decide +kernel
theorem dX10_hole_37 : decode cX10_hole 37 = .ok (.ireturn, 1) := by decide +kernel
set_option maxRecDepth 20000 in
theorem ggX10_handle_X3_has : GoodIn wsX10_handle wsX3_has := goodIn_r _ [6, 7, 37, 38, 39] (by decide +kernel) (by decide +kernel)
set_option maxRecDepth 20000 in
theorem gX10_handle_X3_has : GoodIn wsX10_handle (wsV RX10 80 RX3 yX3_has wsX3_has) := goodIn_app (goodIn_of _ (by decide +kernel)) ggX10_handle_X3_has
set_option maxRecDepth 20000 in
theorem ggX10_handle_X3_open : GoodIn wsX10_handle wsX3_open := goodIn_r _ [11, 12, 13, 14, 15, 16, 17, 18, 19, 20, 21, 22, 23, 24, 25, 26, 37, 38, 39, 40] (by decide +kernel) (by decide +kernel)
set_option maxRecDepth 20000 in
theorem gX10_handle_X3_open : GoodIn wsX10_handle (wsV RX10 93 RX3 yX3_open wsX3_open) := goodIn_app (goodIn_of _ (by decide +kernel)) ggX10_handle_X3_open
theorem dX10_handle_0 : decode cX10_handle 0 = .ok (.aload_n 0, 1) := by decide +kernel
theorem dX10_handle_1 : decode cX10_handle 1 = .ok (.getfield 12, 3) := by decide +kernel
theorem dX10_handle_4 : decode cX10_handle 4 = .ok (.iload_n 1, 1) := by decide +kernel
theorem dX10_handle_5 : decode cX10_handle 5 = .ok (.invokevirtual 80, 3) := by decide +kernel
theorem dX10_handle_8 : decode cX10_handle 8 = .ok (.ifCond .eq 13, 3) := by decide +kernel
theorem dX10_handle_11 : decode cX10_handle 11 = .ok (.iload_n 2, 1) := by decide +kernel
theorem dX10_handle_12 : decode cX10_handle 12 = .ok (.iconst 1, 1) := by decide +kernel
theorem dX10_handle_13 : decode cX10_handle 13 = .ok (.if_icmp .lt 8, 3) := by decide +kernel
theorem dX10_handle_16 : decode cX10_handle 16 = .ok (.iload_n 2, 1) := by decide +kernel
theorem dX10_handle_17 : decode cX10_handle 17 = .ok (.iconst 4, 1) := by decide +kernel
theorem dX10_handle_18 : decode cX10_handle 18 = .ok (.if_icmp .le 5, 3) := by decide +kernel
theorem dX10_handle_21 : decode cX10_handle 21 = .ok (.iconst (-1), 1) := by decide +kernel
theorem dX10_handle_22 : decode cX10_handle 22 = .ok (.ireturn, 1) := by decide +kernel
theorem dX10_handle_23 : decode cX10_handle 23 = .ok (.aload_n 0, 1) := by decide +kernel
theorem dX10_handle_24 : decode cX10_handle 24 = .ok (.getfield 12, 3) := by decide +kernel
theorem dX10_handle_27 : decode cX10_handle 27 = .ok (.iload_n 1, 1) := by decide +kernel
theorem dX10_handle_28 : decode cX10_handle 28 = .ok (.iload_n 2, 1) := by decide +kernel
theorem dX10_handle_29 : decode cX10_handle 29 = .ok (.invokevirtual 93, 3) := by decide +kernel
theorem dX10_handle_32 : decode cX10_handle 32 = .ok (.ireturn, 1) := by decide +kernel
set_option maxRecDepth 20000 in
theorem ggX10_run_X10_isCounty : GoodIn wsX10_run wsX10_isCounty := goodIn_r _ [6] (by decide +kernel) (by decide +kernel)
set_option maxRecDepth 20000 in
theorem gX10_run_X10_isCounty : GoodIn wsX10_run (va_wsS RX10 70 yX10_isCounty wsX10_isCounty) := goodIn_app (goodIn_of _ (by decide +kernel)) ggX10_run_X10_isCounty
set_option maxRecDepth 20000 in
theorem ggX10_run_X10_isRace : GoodIn wsX10_run wsX10_isRace := goodIn_r _ [9] (by decide +kernel) (by decide +kernel)
set_option maxRecDepth 20000 in
theorem gX10_run_X10_isRace : GoodIn wsX10_run (va_wsS RX10 83 yX10_isRace wsX10_isRace) := goodIn_app (goodIn_of _ (by decide +kernel)) ggX10_run_X10_isRace
set_option maxRecDepth 20000 in
theorem ggX10_run_X10_isHour : GoodIn wsX10_run wsX10_isHour := goodIn_r _ [12] (by decide +kernel) (by decide +kernel)
set_option maxRecDepth 20000 in
theorem gX10_run_X10_isHour : GoodIn wsX10_run (va_wsS RX10 97 yX10_isHour wsX10_isHour) := goodIn_app (goodIn_of _ (by decide +kernel)) ggX10_run_X10_isHour
set_option maxRecDepth 20000 in
theorem ggX10_run_X8_readIn : GoodIn wsX10_run wsX8_readIn := goodIn_r _ [17, 18, 19, 20, 21, 22, 23, 24, 25, 26, 27, 28, 29, 30, 31, 32, 33, 34, 35, 36, 37, 38, 39, 40, 41, 42, 43, 44, 45, 46, 47, 48, 49, 50, 51, 52, 53, 54, 55, 56, 57, 58, 59, 60, 61, 62, 138, 139, 140, 141, 142, 143, 144, 145, 146, 147, 148, 149, 150] (by decide +kernel) (by decide +kernel)
set_option maxRecDepth 20000 in
theorem gX10_run_X8_readIn : GoodIn wsX10_run (wsV RX10 100 RX8 yX8_readIn wsX8_readIn) := goodIn_app (goodIn_of _ (by decide +kernel)) ggX10_run_X8_readIn
set_option maxRecDepth 20000 in
theorem ggX10_run_X8_countingCards : GoodIn wsX10_run wsX8_countingCards := goodIn_r _ [66, 67, 68, 69, 16, 70, 71, 72, 73, 74, 75, 76, 77, 78, 79, 80, 81, 82, 83, 84, 85, 86, 87, 88, 89, 90, 91, 41, 42, 43, 44, 45, 92, 93, 94, 95, 18, 96, 97, 98, 23, 99, 26, 25, 100, 101, 102, 103, 104, 105, 106, 107, 108, 109, 110, 111, 5, 112, 113, 114, 115, 116, 138, 139, 140, 141, 151, 152, 153, 150, 142, 143] (by decide +kernel) (by decide +kernel)
set_option maxRecDepth 20000 in
theorem gX10_run_X8_countingCards : GoodIn wsX10_run (wsV RX10 104 RX8 yX8_countingCards wsX8_countingCards) := goodIn_app (goodIn_of _ (by decide +kernel)) ggX10_run_X8_countingCards
set_option maxRecDepth 20000 in
theorem ggX10_run_X3_size : GoodIn wsX10_run wsX3_size := goodIn_r _ [80, 81, 151, 152, 153] (by decide +kernel) (by decide +kernel)
set_option maxRecDepth 20000 in
theorem gX10_run_X3_size : GoodIn wsX10_run (wsV RX10 107 RX3 yX3_size wsX3_size) := goodIn_app (goodIn_of _ (by decide +kernel)) ggX10_run_X3_size
set_option maxRecDepth 20000 in
theorem ggX10_run_X3_countyOf : GoodIn wsX10_run wsX3_countyOf := goodIn_r _ [89, 90, 91, 41, 42, 43, 44, 45, 151, 152, 153, 150] (by decide +kernel) (by decide +kernel)
set_option maxRecDepth 20000 in
theorem gX10_run_X3_countyOf : GoodIn wsX10_run (wsV RX10 111 RX3 yX3_countyOf wsX3_countyOf) := goodIn_app (goodIn_of _ (by decide +kernel)) ggX10_run_X3_countyOf
set_option maxRecDepth 20000 in
theorem ggX10_run_X3_open : GoodIn wsX10_run wsX3_open := goodIn_r _ [122, 106, 123, 124, 125, 126, 91, 41, 42, 43, 44, 45, 127, 60, 61, 62, 151, 152, 153, 150] (by decide +kernel) (by decide +kernel)
set_option maxRecDepth 20000 in
theorem gX10_run_X3_open : GoodIn wsX10_run (wsV RX10 93 RX3 yX3_open wsX3_open) := goodIn_app (goodIn_of _ (by decide +kernel)) ggX10_run_X3_open
theorem dX10_run_0 : decode cX10_run 0 = .ok (.iload_n 1, 1) := by decide +kernel
theorem dX10_run_1 : decode cX10_run 1 = .ok (.invokestatic 70, 3) := by decide +kernel
theorem dX10_run_4 : decode cX10_run 4 = .ok (.ifCond .eq 17, 3) := by decide +kernel
theorem dX10_run_7 : decode cX10_run 7 = .ok (.iload_n 2, 1) := by decide +kernel
theorem dX10_run_8 : decode cX10_run 8 = .ok (.invokestatic 83, 3) := by decide +kernel
theorem dX10_run_11 : decode cX10_run 11 = .ok (.ifCond .eq 10, 3) := by decide +kernel
theorem dX10_run_14 : decode cX10_run 14 = .ok (.iload_n 3, 1) := by decide +kernel
theorem dX10_run_15 : decode cX10_run 15 = .ok (.invokestatic 97, 3) := by decide +kernel
theorem dX10_run_18 : decode cX10_run 18 = .ok (.ifCond .ne 5, 3) := by decide +kernel
theorem dX10_run_21 : decode cX10_run 21 = .ok (.iconst (-1), 1) := by decide +kernel
theorem dX10_run_22 : decode cX10_run 22 = .ok (.ireturn, 1) := by decide +kernel
theorem dX10_run_23 : decode cX10_run 23 = .ok (.aload_n 0, 1) := by decide +kernel
theorem dX10_run_24 : decode cX10_run 24 = .ok (.getfield 45, 3) := by decide +kernel
theorem dX10_run_27 : decode cX10_run 27 = .ok (.iload_n 3, 1) := by decide +kernel
theorem dX10_run_28 : decode cX10_run 28 = .ok (.iconst 1, 1) := by decide +kernel
theorem dX10_run_29 : decode cX10_run 29 = .ok (.invokevirtual 100, 3) := by decide +kernel
theorem dX10_run_32 : decode cX10_run 32 = .ok (.aload_n 0, 1) := by decide +kernel
theorem dX10_run_33 : decode cX10_run 33 = .ok (.getfield 45, 3) := by decide +kernel
theorem dX10_run_36 : decode cX10_run 36 = .ok (.iload_n 1, 1) := by decide +kernel
theorem dX10_run_37 : decode cX10_run 37 = .ok (.iload_n 2, 1) := by decide +kernel
theorem dX10_run_38 : decode cX10_run 38 = .ok (.invokevirtual 104, 3) := by decide +kernel
theorem dX10_run_41 : decode cX10_run 41 = .ok (.istore 4, 2) := by decide +kernel
theorem dX10_run_43 : decode cX10_run 43 = .ok (.iconst 0, 1) := by decide +kernel
theorem dX10_run_44 : decode cX10_run 44 = .ok (.istore 5, 2) := by decide +kernel
theorem dX10_run_46 : decode cX10_run 46 = .ok (.iload 5, 2) := by decide +kernel
theorem dX10_run_48 : decode cX10_run 48 = .ok (.aload_n 0, 1) := by decide +kernel
theorem dX10_run_49 : decode cX10_run 49 = .ok (.getfield 12, 3) := by decide +kernel
theorem dX10_run_52 : decode cX10_run 52 = .ok (.invokevirtual 107, 3) := by decide +kernel
theorem dX10_run_55 : decode cX10_run 55 = .ok (.if_icmp .ge 33, 3) := by decide +kernel
theorem dX10_run_58 : decode cX10_run 58 = .ok (.aload_n 0, 1) := by decide +kernel
theorem dX10_run_59 : decode cX10_run 59 = .ok (.getfield 12, 3) := by decide +kernel
theorem dX10_run_62 : decode cX10_run 62 = .ok (.iload 5, 2) := by decide +kernel
theorem dX10_run_64 : decode cX10_run 64 = .ok (.invokevirtual 111, 3) := by decide +kernel
theorem dX10_run_67 : decode cX10_run 67 = .ok (.iload_n 1, 1) := by decide +kernel
theorem dX10_run_68 : decode cX10_run 68 = .ok (.if_icmp .ne 14, 3) := by decide +kernel
theorem dX10_run_71 : decode cX10_run 71 = .ok (.aload_n 0, 1) := by decide +kernel
theorem dX10_run_72 : decode cX10_run 72 = .ok (.getfield 12, 3) := by decide +kernel
theorem dX10_run_75 : decode cX10_run 75 = .ok (.iload 5, 2) := by decide +kernel
theorem dX10_run_77 : decode cX10_run 77 = .ok (.iconst 1, 1) := by decide +kernel
theorem dX10_run_78 : decode cX10_run 78 = .ok (.invokevirtual 93, 3) := by decide +kernel
theorem dX10_run_81 : decode cX10_run 81 = .ok (.pop, 1) := by decide +kernel
theorem dX10_run_82 : decode cX10_run 82 = .ok (.iinc 5 1, 3) := by decide +kernel
theorem dX10_run_85 : decode cX10_run 85 = .ok (.goto (-39), 3) := by decide +kernel
theorem dX10_run_88 : decode cX10_run 88 = .ok (.iload 4, 2) := by decide +kernel
theorem dX10_run_90 : decode cX10_run 90 = .ok (.ireturn, 1) := by decide +kernel
set_option maxRecDepth 20000 in
theorem ggX10_write_X9_append : GoodIn wsX10_write wsX9_append := goodIn_r _ [6, 7, 8, 9, 10, 11, 12, 13, 14, 25, 26, 27, 28, 29, 30, 31, 32, 33, 34] (by decide +kernel) (by decide +kernel)
set_option maxRecDepth 20000 in
theorem gX10_write_X9_append : GoodIn wsX10_write (wsV RX10 115 RX9 yX9_append wsX9_append) := goodIn_app (goodIn_of _ (by decide +kernel)) ggX10_write_X9_append
theorem dX10_write_0 : decode cX10_write 0 = .ok (.iload_n 1, 1) := by decide +kernel
theorem dX10_write_1 : decode cX10_write 1 = .ok (.iconst 1, 1) := by decide +kernel
theorem dX10_write_2 : decode cX10_write 2 = .ok (.if_icmp .lt 9, 3) := by decide +kernel
theorem dX10_write_5 : decode cX10_write 5 = .ok (.iload_n 1, 1) := by decide +kernel
theorem dX10_write_6 : decode cX10_write 6 = .ok (.bipush 8, 2) := by decide +kernel
theorem dX10_write_8 : decode cX10_write 8 = .ok (.if_icmp .le 5, 3) := by decide +kernel
theorem dX10_write_11 : decode cX10_write 11 = .ok (.iconst (-1), 1) := by decide +kernel
theorem dX10_write_12 : decode cX10_write 12 = .ok (.ireturn, 1) := by decide +kernel
theorem dX10_write_13 : decode cX10_write 13 = .ok (.aload_n 0, 1) := by decide +kernel
theorem dX10_write_14 : decode cX10_write 14 = .ok (.getfield 29, 3) := by decide +kernel
theorem dX10_write_17 : decode cX10_write 17 = .ok (.iload_n 1, 1) := by decide +kernel
theorem dX10_write_18 : decode cX10_write 18 = .ok (.lload_n 2, 1) := by decide +kernel
theorem dX10_write_19 : decode cX10_write 19 = .ok (.invokevirtual 115, 3) := by decide +kernel
theorem dX10_write_22 : decode cX10_write 22 = .ok (.ireturn, 1) := by decide +kernel
set_option maxRecDepth 20000 in
theorem ggX10_wipe_X9_clear : GoodIn wsX10_wipe wsX9_clear := goodIn_r _ [6, 7, 18, 19, 20, 21, 22, 23, 24, 25, 26] (by decide +kernel) (by decide +kernel)
set_option maxRecDepth 20000 in
theorem gX10_wipe_X9_clear : GoodIn wsX10_wipe (wsV RX10 118 RX9 yX9_clear wsX9_clear) := goodIn_app (goodIn_of _ (by decide +kernel)) ggX10_wipe_X9_clear
theorem dX10_wipe_0 : decode cX10_wipe 0 = .ok (.aload_n 0, 1) := by decide +kernel
theorem dX10_wipe_1 : decode cX10_wipe 1 = .ok (.getfield 29, 3) := by decide +kernel
theorem dX10_wipe_4 : decode cX10_wipe 4 = .ok (.invokevirtual 118, 3) := by decide +kernel
theorem dX10_wipe_7 : decode cX10_wipe 7 = .ok (.ireturn, 1) := by decide +kernel
set_option maxRecDepth 20000 in
theorem ggX10_fault_X9_firstFault : GoodIn wsX10_fault wsX9_firstFault := goodIn_r _ [6, 7, 8, 9, 10, 11, 5, 12, 13, 14, 15, 16, 17, 18, 19, 20, 21, 22, 23, 24, 25, 26, 27, 28, 29, 30, 31, 32, 33, 34, 35, 36, 37, 38, 39, 40, 41, 42, 43, 44, 45, 46, 47, 48, 49, 50, 51, 52, 53, 54, 55, 56, 57, 58, 59, 60, 61, 62, 63, 64, 65, 66, 67, 68, 79, 80, 81, 82, 83, 84, 85, 86, 87, 88] (by decide +kernel) (by decide +kernel)
set_option maxRecDepth 20000 in
theorem gX10_fault_X9_firstFault : GoodIn wsX10_fault (wsV RX10 121 RX9 yX9_firstFault wsX9_firstFault) := goodIn_app (goodIn_of _ (by decide +kernel)) ggX10_fault_X9_firstFault
theorem dX10_fault_0 : decode cX10_fault 0 = .ok (.aload_n 0, 1) := by decide +kernel
theorem dX10_fault_1 : decode cX10_fault 1 = .ok (.getfield 29, 3) := by decide +kernel
theorem dX10_fault_4 : decode cX10_fault 4 = .ok (.invokevirtual 121, 3) := by decide +kernel
theorem dX10_fault_7 : decode cX10_fault 7 = .ok (.ireturn, 1) := by decide +kernel
set_option maxRecDepth 20000 in
theorem ggX10_force_X9_firstFault : GoodIn wsX10_force wsX9_firstFault := goodIn_r _ [8, 9, 10, 11, 12, 13, 7, 14, 15, 16, 17, 18, 19, 20, 21, 22, 23, 24, 25, 26, 27, 28, 29, 30, 31, 32, 33, 34, 35, 36, 37, 38, 39, 40, 41, 42, 43, 44, 45, 46, 47, 48, 49, 50, 51, 52, 53, 54, 55, 56, 57, 58, 59, 60, 61, 62, 63, 64, 65, 66, 67, 68, 69, 70, 165, 166, 167, 168, 169, 170, 171, 172, 173, 174] (by decide +kernel) (by decide +kernel)
set_option maxRecDepth 20000 in
theorem gX10_force_X9_firstFault : GoodIn wsX10_force (wsV RX10 121 RX9 yX9_firstFault wsX9_firstFault) := goodIn_app (goodIn_of _ (by decide +kernel)) ggX10_force_X9_firstFault
set_option maxRecDepth 20000 in
theorem ggX10_force_X1_take : GoodIn wsX10_force wsX1_take := goodIn_r _ [75, 76, 77, 78, 79, 7, 80, 9, 81, 12, 13, 14, 15, 10, 16, 17, 18, 19, 20, 21, 22, 23, 24, 25, 26, 27, 28, 29, 30, 31, 32, 33, 34, 35, 36, 37, 38, 39, 40, 41, 42, 43, 44, 45, 46, 47, 48, 49, 50, 51, 52, 53, 54, 55, 56, 57, 58, 59, 60, 61, 62, 63, 64, 65, 66, 67, 68, 69, 70, 82, 83, 84, 74, 85, 86, 87, 88, 89, 90, 91, 92, 93, 94, 95, 96, 97, 98, 99, 100, 101, 102, 103, 104, 105, 106, 107, 108, 109, 110, 111, 112, 113, 114, 115, 175, 176, 177, 178, 179, 180, 165, 166, 167, 168, 169, 170, 171, 172, 173, 174] (by decide +kernel) (by decide +kernel)
set_option maxRecDepth 20000 in
theorem gX10_force_X1_take : GoodIn wsX10_force (wsV RX10 124 RX1 yX1_take wsX1_take) := goodIn_app (goodIn_of _ (by decide +kernel)) ggX10_force_X1_take
set_option maxRecDepth 20000 in
theorem ggX10_force_X7_learn : GoodIn wsX10_force wsX7_learn := goodIn_r _ [120, 121, 122, 123, 124, 74, 125, 76, 86, 90, 126, 22, 23, 24, 25, 26, 127, 128, 129, 130, 131, 132, 133, 134, 89, 135, 136, 137, 138, 139, 140, 141, 142, 87, 143, 144, 145, 146, 88, 147, 148, 149, 150, 42, 43, 44, 181, 182, 183, 184, 185, 186, 187, 175, 176, 177, 178, 179, 180, 174] (by decide +kernel) (by decide +kernel)
set_option maxRecDepth 20000 in
theorem gX10_force_X7_learn : GoodIn wsX10_force (wsV RX10 128 RX7 yX7_learn wsX7_learn) := goodIn_app (goodIn_of _ (by decide +kernel)) ggX10_force_X7_learn
set_option maxRecDepth 20000 in
theorem ggX10_force_X1_size : GoodIn wsX10_force wsX1_size := goodIn_r _ [154, 76, 175, 176, 177, 178, 179, 180] (by decide +kernel) (by decide +kernel)
set_option maxRecDepth 20000 in
theorem gX10_force_X1_size : GoodIn wsX10_force (wsV RX10 132 RX1 yX1_size wsX1_size) := goodIn_app (goodIn_of _ (by decide +kernel)) ggX10_force_X1_size
theorem dX10_force_0 : decode cX10_force 0 = .ok (.aload_n 0, 1) := by decide +kernel
theorem dX10_force_1 : decode cX10_force 1 = .ok (.getfield 29, 3) := by decide +kernel
theorem dX10_force_4 : decode cX10_force 4 = .ok (.invokevirtual 121, 3) := by decide +kernel
theorem dX10_force_7 : decode cX10_force 7 = .ok (.bipush (-4), 2) := by decide +kernel
theorem dX10_force_9 : decode cX10_force 9 = .ok (.if_icmp .eq 6, 3) := by decide +kernel
theorem dX10_force_12 : decode cX10_force 12 = .ok (.bipush (-2), 2) := by decide +kernel
theorem dX10_force_14 : decode cX10_force 14 = .ok (.ireturn, 1) := by decide +kernel
theorem dX10_force_15 : decode cX10_force 15 = .ok (.aload_n 0, 1) := by decide +kernel
theorem dX10_force_16 : decode cX10_force 16 = .ok (.getfield 36, 3) := by decide +kernel
theorem dX10_force_19 : decode cX10_force 19 = .ok (.aload_n 0, 1) := by decide +kernel
theorem dX10_force_20 : decode cX10_force 20 = .ok (.getfield 29, 3) := by decide +kernel
theorem dX10_force_23 : decode cX10_force 23 = .ok (.invokevirtual 124, 3) := by decide +kernel
theorem dX10_force_26 : decode cX10_force 26 = .ok (.aload_n 0, 1) := by decide +kernel
theorem dX10_force_27 : decode cX10_force 27 = .ok (.getfield 66, 3) := by decide +kernel
theorem dX10_force_30 : decode cX10_force 30 = .ok (.aload_n 0, 1) := by decide +kernel
theorem dX10_force_31 : decode cX10_force 31 = .ok (.getfield 36, 3) := by decide +kernel
theorem dX10_force_34 : decode cX10_force 34 = .ok (.invokevirtual 128, 3) := by decide +kernel
theorem dX10_force_37 : decode cX10_force 37 = .ok (.aload_n 0, 1) := by decide +kernel
theorem dX10_force_38 : decode cX10_force 38 = .ok (.getfield 36, 3) := by decide +kernel
theorem dX10_force_41 : decode cX10_force 41 = .ok (.invokevirtual 132, 3) := by decide +kernel
theorem dX10_force_44 : decode cX10_force 44 = .ok (.ireturn, 1) := by decide +kernel
set_option maxRecDepth 20000 in
theorem ggX10_rule_X10_isWhat : GoodIn wsX10_rule wsX10_isWhat := goodIn_r _ [5] (by decide +kernel) (by decide +kernel)
set_option maxRecDepth 20000 in
theorem gX10_rule_X10_isWhat : GoodIn wsX10_rule (va_wsS RX10 133 yX10_isWhat wsX10_isWhat) := goodIn_app (goodIn_of _ (by decide +kernel)) ggX10_rule_X10_isWhat
set_option maxRecDepth 20000 in
theorem ggX10_rule_X10_isCounty : GoodIn wsX10_rule wsX10_isCounty := goodIn_r _ [8] (by decide +kernel) (by decide +kernel)
set_option maxRecDepth 20000 in
theorem gX10_rule_X10_isCounty : GoodIn wsX10_rule (va_wsS RX10 70 yX10_isCounty wsX10_isCounty) := goodIn_app (goodIn_of _ (by decide +kernel)) ggX10_rule_X10_isCounty
set_option maxRecDepth 20000 in
theorem ggX10_rule_X10_isHour : GoodIn wsX10_rule wsX10_isHour := goodIn_r _ [11] (by decide +kernel) (by decide +kernel)
set_option maxRecDepth 20000 in
theorem gX10_rule_X10_isHour : GoodIn wsX10_rule (va_wsS RX10 97 yX10_isHour wsX10_isHour) := goodIn_app (goodIn_of _ (by decide +kernel)) ggX10_rule_X10_isHour
set_option maxRecDepth 20000 in
theorem ggX10_rule_X1_valueIn : GoodIn wsX10_rule wsX1_valueIn := goodIn_r _ [16, 17, 18, 19, 20, 15, 21, 22, 23, 24, 25, 26, 27, 28, 29, 30, 31, 32, 33, 34, 35, 36, 37, 38, 39, 40, 41, 42, 43, 54, 55, 56, 57, 58, 59, 60] (by decide +kernel) (by decide +kernel)
set_option maxRecDepth 20000 in
theorem gX10_rule_X1_valueIn : GoodIn wsX10_rule (wsV RX10 137 RX1 yX1_valueIn wsX1_valueIn) := goodIn_app (goodIn_of _ (by decide +kernel)) ggX10_rule_X1_valueIn
theorem dX10_rule_0 : decode cX10_rule 0 = .ok (.iload_n 1, 1) := by decide +kernel
theorem dX10_rule_1 : decode cX10_rule 1 = .ok (.iconst 4, 1) := by decide +kernel
theorem dX10_rule_2 : decode cX10_rule 2 = .ok (.invokestatic 133, 3) := by decide +kernel
theorem dX10_rule_5 : decode cX10_rule 5 = .ok (.ifCond .eq 17, 3) := by decide +kernel
theorem dX10_rule_8 : decode cX10_rule 8 = .ok (.iload_n 2, 1) := by decide +kernel
theorem dX10_rule_9 : decode cX10_rule 9 = .ok (.invokestatic 70, 3) := by decide +kernel
theorem dX10_rule_12 : decode cX10_rule 12 = .ok (.ifCond .eq 10, 3) := by decide +kernel
theorem dX10_rule_15 : decode cX10_rule 15 = .ok (.iload_n 3, 1) := by decide +kernel
theorem dX10_rule_16 : decode cX10_rule 16 = .ok (.invokestatic 97, 3) := by decide +kernel
theorem dX10_rule_19 : decode cX10_rule 19 = .ok (.ifCond .ne 5, 3) := by decide +kernel
theorem dX10_rule_22 : decode cX10_rule 22 = .ok (.iconst (-1), 1) := by decide +kernel
theorem dX10_rule_23 : decode cX10_rule 23 = .ok (.ireturn, 1) := by decide +kernel
theorem dX10_rule_24 : decode cX10_rule 24 = .ok (.aload_n 0, 1) := by decide +kernel
theorem dX10_rule_25 : decode cX10_rule 25 = .ok (.getfield 36, 3) := by decide +kernel
theorem dX10_rule_28 : decode cX10_rule 28 = .ok (.iload_n 1, 1) := by decide +kernel
theorem dX10_rule_29 : decode cX10_rule 29 = .ok (.iload_n 2, 1) := by decide +kernel
theorem dX10_rule_30 : decode cX10_rule 30 = .ok (.iload_n 3, 1) := by decide +kernel
theorem dX10_rule_31 : decode cX10_rule 31 = .ok (.invokevirtual 137, 3) := by decide +kernel
theorem dX10_rule_34 : decode cX10_rule 34 = .ok (.ireturn, 1) := by decide +kernel
set_option maxRecDepth 20000 in
theorem ggX10_why_X10_isWhat : GoodIn wsX10_why wsX10_isWhat := goodIn_r _ [5] (by decide +kernel) (by decide +kernel)
set_option maxRecDepth 20000 in
theorem gX10_why_X10_isWhat : GoodIn wsX10_why (va_wsS RX10 133 yX10_isWhat wsX10_isWhat) := goodIn_app (goodIn_of _ (by decide +kernel)) ggX10_why_X10_isWhat
set_option maxRecDepth 20000 in
theorem ggX10_why_X10_isCounty : GoodIn wsX10_why wsX10_isCounty := goodIn_r _ [8] (by decide +kernel) (by decide +kernel)
set_option maxRecDepth 20000 in
theorem gX10_why_X10_isCounty : GoodIn wsX10_why (va_wsS RX10 70 yX10_isCounty wsX10_isCounty) := goodIn_app (goodIn_of _ (by decide +kernel)) ggX10_why_X10_isCounty
set_option maxRecDepth 20000 in
theorem ggX10_why_X10_isHour : GoodIn wsX10_why wsX10_isHour := goodIn_r _ [11] (by decide +kernel) (by decide +kernel)
set_option maxRecDepth 20000 in
theorem gX10_why_X10_isHour : GoodIn wsX10_why (va_wsS RX10 97 yX10_isHour wsX10_isHour) := goodIn_app (goodIn_of _ (by decide +kernel)) ggX10_why_X10_isHour
set_option maxRecDepth 20000 in
theorem ggX10_why_X1_holding : GoodIn wsX10_why wsX1_holding := goodIn_r _ [16, 17, 18, 19, 20, 21, 22, 23, 24, 25, 26, 27, 28, 15, 29, 30, 31, 32, 33, 34, 35, 46, 47, 48, 49, 50, 51, 52] (by decide +kernel) (by decide +kernel)
set_option maxRecDepth 20000 in
theorem gX10_why_X1_holding : GoodIn wsX10_why (wsV RX10 140 RX1 yX1_holding wsX1_holding) := goodIn_app (goodIn_of _ (by decide +kernel)) ggX10_why_X1_holding
theorem dX10_why_0 : decode cX10_why 0 = .ok (.iload_n 1, 1) := by decide +kernel
theorem dX10_why_1 : decode cX10_why 1 = .ok (.iconst 4, 1) := by decide +kernel
theorem dX10_why_2 : decode cX10_why 2 = .ok (.invokestatic 133, 3) := by decide +kernel
theorem dX10_why_5 : decode cX10_why 5 = .ok (.ifCond .eq 17, 3) := by decide +kernel
theorem dX10_why_8 : decode cX10_why 8 = .ok (.iload_n 2, 1) := by decide +kernel
theorem dX10_why_9 : decode cX10_why 9 = .ok (.invokestatic 70, 3) := by decide +kernel
theorem dX10_why_12 : decode cX10_why 12 = .ok (.ifCond .eq 10, 3) := by decide +kernel
theorem dX10_why_15 : decode cX10_why 15 = .ok (.iload_n 3, 1) := by decide +kernel
theorem dX10_why_16 : decode cX10_why 16 = .ok (.invokestatic 97, 3) := by decide +kernel
theorem dX10_why_19 : decode cX10_why 19 = .ok (.ifCond .ne 5, 3) := by decide +kernel
theorem dX10_why_22 : decode cX10_why 22 = .ok (.iconst (-1), 1) := by decide +kernel
theorem dX10_why_23 : decode cX10_why 23 = .ok (.ireturn, 1) := by decide +kernel
theorem dX10_why_24 : decode cX10_why 24 = .ok (.aload_n 0, 1) := by decide +kernel
theorem dX10_why_25 : decode cX10_why 25 = .ok (.getfield 36, 3) := by decide +kernel
theorem dX10_why_28 : decode cX10_why 28 = .ok (.iload_n 1, 1) := by decide +kernel
theorem dX10_why_29 : decode cX10_why 29 = .ok (.iload_n 2, 1) := by decide +kernel
theorem dX10_why_30 : decode cX10_why 30 = .ok (.iload_n 3, 1) := by decide +kernel
theorem dX10_why_31 : decode cX10_why 31 = .ok (.invokevirtual 140, 3) := by decide +kernel
theorem dX10_why_34 : decode cX10_why 34 = .ok (.ireturn, 1) := by decide +kernel
set_option maxRecDepth 20000 in
theorem ggX10_clash_X1_firstClash : GoodIn wsX10_clash wsX1_firstClash := goodIn_r _ [6, 7, 8, 9, 10, 5, 11, 12, 13, 14, 15, 16, 17, 18, 19, 20, 21, 22, 23, 24, 25, 26, 37, 38, 39, 40, 41, 42, 43] (by decide +kernel) (by decide +kernel)
set_option maxRecDepth 20000 in
theorem gX10_clash_X1_firstClash : GoodIn wsX10_clash (wsV RX10 143 RX1 yX1_firstClash wsX1_firstClash) := goodIn_app (goodIn_of _ (by decide +kernel)) ggX10_clash_X1_firstClash
theorem dX10_clash_0 : decode cX10_clash 0 = .ok (.aload_n 0, 1) := by decide +kernel
theorem dX10_clash_1 : decode cX10_clash 1 = .ok (.getfield 36, 3) := by decide +kernel
theorem dX10_clash_4 : decode cX10_clash 4 = .ok (.invokevirtual 143, 3) := by decide +kernel
theorem dX10_clash_7 : decode cX10_clash 7 = .ok (.ireturn, 1) := by decide +kernel
set_option maxRecDepth 20000 in
theorem ggX10_counted_X10_isCountyOrAll : GoodIn wsX10_counted wsX10_isCountyOrAll := goodIn_r _ [5, 6, 7, 4, 8] (by decide +kernel) (by decide +kernel)
set_option maxRecDepth 20000 in
theorem gX10_counted_X10_isCountyOrAll : GoodIn wsX10_counted (va_wsS RX10 146 yX10_isCountyOrAll wsX10_isCountyOrAll) := goodIn_app (goodIn_of _ (by decide +kernel)) ggX10_counted_X10_isCountyOrAll
set_option maxRecDepth 20000 in
theorem ggX10_counted_X10_isRace : GoodIn wsX10_counted wsX10_isRace := goodIn_r _ [11] (by decide +kernel) (by decide +kernel)
set_option maxRecDepth 20000 in
theorem gX10_counted_X10_isRace : GoodIn wsX10_counted (va_wsS RX10 83 yX10_isRace wsX10_isRace) := goodIn_app (goodIn_of _ (by decide +kernel)) ggX10_counted_X10_isRace
set_option maxRecDepth 20000 in
theorem ggX10_counted_X10_isHole : GoodIn wsX10_counted wsX10_isHole := goodIn_r _ [14] (by decide +kernel) (by decide +kernel)
set_option maxRecDepth 20000 in
theorem gX10_counted_X10_isHole : GoodIn wsX10_counted (va_wsS RX10 86 yX10_isHole wsX10_isHole) := goodIn_app (goodIn_of _ (by decide +kernel)) ggX10_counted_X10_isHole
set_option maxRecDepth 20000 in
theorem ggX10_counted_X10_isHour : GoodIn wsX10_counted wsX10_isHour := goodIn_r _ [17] (by decide +kernel) (by decide +kernel)
set_option maxRecDepth 20000 in
theorem gX10_counted_X10_isHour : GoodIn wsX10_counted (va_wsS RX10 97 yX10_isHour wsX10_isHour) := goodIn_app (goodIn_of _ (by decide +kernel)) ggX10_counted_X10_isHour
set_option maxRecDepth 20000 in
theorem ggX10_counted_X8_readIn : GoodIn wsX10_counted wsX8_readIn := goodIn_r _ [22, 23, 24, 25, 26, 27, 28, 29, 30, 31, 32, 33, 34, 35, 36, 37, 38, 39, 40, 41, 42, 43, 44, 45, 46, 47, 48, 49, 50, 51, 52, 53, 54, 55, 56, 57, 58, 59, 60, 61, 62, 63, 64, 65, 66, 67, 129, 130, 131, 132, 133, 134, 135, 136, 137, 138, 139, 140, 141] (by decide +kernel) (by decide +kernel)
set_option maxRecDepth 20000 in
theorem gX10_counted_X8_readIn : GoodIn wsX10_counted (wsV RX10 100 RX8 yX8_readIn wsX8_readIn) := goodIn_app (goodIn_of _ (by decide +kernel)) ggX10_counted_X8_readIn
set_option maxRecDepth 20000 in
theorem ggX10_counted_X8_sum : GoodIn wsX10_counted wsX8_sum := goodIn_r _ [71, 72, 73, 74, 21, 75, 76, 77, 78, 79, 80, 81, 82, 83, 84, 85, 86, 87, 88, 89, 90, 91, 92, 46, 47, 48, 49, 50, 93, 94, 95, 96, 23, 97, 98, 99, 28, 100, 31, 30, 101, 102, 103, 104, 105, 106, 107, 108, 109, 110, 111, 112, 4, 113, 114, 115, 129, 130, 131, 132, 142, 143, 144, 141, 133, 134] (by decide +kernel) (by decide +kernel)
set_option maxRecDepth 20000 in
theorem gX10_counted_X8_sum : GoodIn wsX10_counted (wsV RX10 149 RX8 yX8_sum wsX8_sum) := goodIn_app (goodIn_of _ (by decide +kernel)) ggX10_counted_X8_sum
set_option maxRecDepth 20000 in
theorem ggX10_counted_X10_votesFor : GoodIn wsX10_counted wsX10_votesFor := goodIn_r _ [118] (by decide +kernel) (by decide +kernel)
set_option maxRecDepth 20000 in
theorem gX10_counted_X10_votesFor : GoodIn wsX10_counted (va_wsS RX10 152 yX10_votesFor wsX10_votesFor) := goodIn_app (goodIn_of _ (by decide +kernel)) ggX10_counted_X10_votesFor
theorem dX10_counted_0 : decode cX10_counted 0 = .ok (.iload_n 1, 1) := by decide +kernel
theorem dX10_counted_1 : decode cX10_counted 1 = .ok (.invokestatic 146, 3) := by decide +kernel
theorem dX10_counted_4 : decode cX10_counted 4 = .ok (.ifCond .eq 25, 3) := by decide +kernel
theorem dX10_counted_7 : decode cX10_counted 7 = .ok (.iload_n 2, 1) := by decide +kernel
theorem dX10_counted_8 : decode cX10_counted 8 = .ok (.invokestatic 83, 3) := by decide +kernel
theorem dX10_counted_11 : decode cX10_counted 11 = .ok (.ifCond .eq 18, 3) := by decide +kernel
theorem dX10_counted_14 : decode cX10_counted 14 = .ok (.iload_n 3, 1) := by decide +kernel
theorem dX10_counted_15 : decode cX10_counted 15 = .ok (.invokestatic 86, 3) := by decide +kernel
theorem dX10_counted_18 : decode cX10_counted 18 = .ok (.ifCond .eq 11, 3) := by decide +kernel
theorem dX10_counted_21 : decode cX10_counted 21 = .ok (.iload 4, 2) := by decide +kernel
theorem dX10_counted_23 : decode cX10_counted 23 = .ok (.invokestatic 97, 3) := by decide +kernel
theorem dX10_counted_26 : decode cX10_counted 26 = .ok (.ifCond .ne 5, 3) := by decide +kernel
theorem dX10_counted_29 : decode cX10_counted 29 = .ok (.iconst (-1), 1) := by decide +kernel
theorem dX10_counted_30 : decode cX10_counted 30 = .ok (.ireturn, 1) := by decide +kernel
theorem dX10_counted_31 : decode cX10_counted 31 = .ok (.aload_n 0, 1) := by decide +kernel
theorem dX10_counted_32 : decode cX10_counted 32 = .ok (.getfield 45, 3) := by decide +kernel
theorem dX10_counted_35 : decode cX10_counted 35 = .ok (.iload 4, 2) := by decide +kernel
theorem dX10_counted_37 : decode cX10_counted 37 = .ok (.iload 5, 2) := by decide +kernel
theorem dX10_counted_39 : decode cX10_counted 39 = .ok (.invokevirtual 100, 3) := by decide +kernel
theorem dX10_counted_42 : decode cX10_counted 42 = .ok (.iload_n 3, 1) := by decide +kernel
theorem dX10_counted_43 : decode cX10_counted 43 = .ok (.aload_n 0, 1) := by decide +kernel
theorem dX10_counted_44 : decode cX10_counted 44 = .ok (.getfield 45, 3) := by decide +kernel
theorem dX10_counted_47 : decode cX10_counted 47 = .ok (.iload_n 1, 1) := by decide +kernel
theorem dX10_counted_48 : decode cX10_counted 48 = .ok (.iload_n 2, 1) := by decide +kernel
theorem dX10_counted_49 : decode cX10_counted 49 = .ok (.invokevirtual 149, 3) := by decide +kernel
theorem dX10_counted_52 : decode cX10_counted 52 = .ok (.invokestatic 152, 3) := by decide +kernel
theorem dX10_counted_55 : decode cX10_counted 55 = .ok (.ireturn, 1) := by decide +kernel
set_option maxRecDepth 20000 in
theorem ggX10_vote_X3_has : GoodIn wsX10_vote wsX3_has := goodIn_r _ [7, 8, 103, 104, 105] (by decide +kernel) (by decide +kernel)
set_option maxRecDepth 20000 in
theorem gX10_vote_X3_has : GoodIn wsX10_vote (wsV RX10 80 RX3 yX3_has wsX3_has) := goodIn_app (goodIn_of _ (by decide +kernel)) ggX10_vote_X3_has
set_option maxRecDepth 20000 in
theorem ggX10_vote_X10_isRace : GoodIn wsX10_vote wsX10_isRace := goodIn_r _ [12] (by decide +kernel) (by decide +kernel)
set_option maxRecDepth 20000 in
theorem gX10_vote_X10_isRace : GoodIn wsX10_vote (va_wsS RX10 83 yX10_isRace wsX10_isRace) := goodIn_app (goodIn_of _ (by decide +kernel)) ggX10_vote_X10_isRace
set_option maxRecDepth 20000 in
theorem ggX10_vote_X10_isHour : GoodIn wsX10_vote wsX10_isHour := goodIn_r _ [15] (by decide +kernel) (by decide +kernel)
set_option maxRecDepth 20000 in
theorem gX10_vote_X10_isHour : GoodIn wsX10_vote (va_wsS RX10 97 yX10_isHour wsX10_isHour) := goodIn_app (goodIn_of _ (by decide +kernel)) ggX10_vote_X10_isHour
set_option maxRecDepth 20000 in
theorem ggX10_vote_X8_readIn : GoodIn wsX10_vote wsX8_readIn := goodIn_r _ [20, 21, 22, 23, 24, 25, 26, 27, 28, 29, 30, 31, 32, 33, 34, 35, 36, 37, 38, 39, 40, 41, 42, 43, 44, 45, 46, 47, 48, 49, 50, 51, 52, 53, 54, 55, 56, 57, 58, 59, 60, 61, 62, 63, 64, 65, 106, 107, 108, 109, 110, 111, 112, 113, 114, 115, 116, 117, 118] (by decide +kernel) (by decide +kernel)
set_option maxRecDepth 20000 in
theorem gX10_vote_X8_readIn : GoodIn wsX10_vote (wsV RX10 100 RX8 yX8_readIn wsX8_readIn) := goodIn_app (goodIn_of _ (by decide +kernel)) ggX10_vote_X8_readIn
set_option maxRecDepth 20000 in
theorem ggX10_vote_X8_choiceOf : GoodIn wsX10_vote wsX8_choiceOf := goodIn_r _ [69, 21, 70, 71, 72, 73, 26, 74, 29, 28, 75, 76, 77, 6, 78, 79, 80, 44, 45, 46, 47, 48, 81, 82, 83, 84, 85, 86, 87, 88, 89, 90, 91, 11, 92, 106, 107, 108, 109, 110, 111, 103, 104, 105, 118] (by decide +kernel) (by decide +kernel)
set_option maxRecDepth 20000 in
theorem gX10_vote_X8_choiceOf : GoodIn wsX10_vote (wsV RX10 155 RX8 yX8_choiceOf wsX8_choiceOf) := goodIn_app (goodIn_of _ (by decide +kernel)) ggX10_vote_X8_choiceOf
theorem dX10_vote_0 : decode cX10_vote 0 = .ok (.aload_n 0, 1) := by decide +kernel
theorem dX10_vote_1 : decode cX10_vote 1 = .ok (.getfield 12, 3) := by decide +kernel
theorem dX10_vote_4 : decode cX10_vote 4 = .ok (.iload_n 1, 1) := by decide +kernel
theorem dX10_vote_5 : decode cX10_vote 5 = .ok (.invokevirtual 80, 3) := by decide +kernel
theorem dX10_vote_8 : decode cX10_vote 8 = .ok (.ifCond .eq 17, 3) := by decide +kernel
theorem dX10_vote_11 : decode cX10_vote 11 = .ok (.iload_n 2, 1) := by decide +kernel
theorem dX10_vote_12 : decode cX10_vote 12 = .ok (.invokestatic 83, 3) := by decide +kernel
theorem dX10_vote_15 : decode cX10_vote 15 = .ok (.ifCond .eq 10, 3) := by decide +kernel
theorem dX10_vote_18 : decode cX10_vote 18 = .ok (.iload_n 3, 1) := by decide +kernel
theorem dX10_vote_19 : decode cX10_vote 19 = .ok (.invokestatic 97, 3) := by decide +kernel
theorem dX10_vote_22 : decode cX10_vote 22 = .ok (.ifCond .ne 5, 3) := by decide +kernel
theorem dX10_vote_25 : decode cX10_vote 25 = .ok (.iconst (-1), 1) := by decide +kernel
theorem dX10_vote_26 : decode cX10_vote 26 = .ok (.ireturn, 1) := by decide +kernel
theorem dX10_vote_27 : decode cX10_vote 27 = .ok (.aload_n 0, 1) := by decide +kernel
theorem dX10_vote_28 : decode cX10_vote 28 = .ok (.getfield 45, 3) := by decide +kernel
theorem dX10_vote_31 : decode cX10_vote 31 = .ok (.iload_n 3, 1) := by decide +kernel
theorem dX10_vote_32 : decode cX10_vote 32 = .ok (.iload 4, 2) := by decide +kernel
theorem dX10_vote_34 : decode cX10_vote 34 = .ok (.invokevirtual 100, 3) := by decide +kernel
theorem dX10_vote_37 : decode cX10_vote 37 = .ok (.aload_n 0, 1) := by decide +kernel
theorem dX10_vote_38 : decode cX10_vote 38 = .ok (.getfield 45, 3) := by decide +kernel
theorem dX10_vote_41 : decode cX10_vote 41 = .ok (.iload_n 1, 1) := by decide +kernel
theorem dX10_vote_42 : decode cX10_vote 42 = .ok (.iload_n 2, 1) := by decide +kernel
theorem dX10_vote_43 : decode cX10_vote 43 = .ok (.invokevirtual 155, 3) := by decide +kernel
theorem dX10_vote_46 : decode cX10_vote 46 = .ok (.ireturn, 1) := by decide +kernel
set_option maxRecDepth 20000 in
theorem ggX10_winner_X10_isRace : GoodIn wsX10_winner wsX10_isRace := goodIn_r _ [5] (by decide +kernel) (by decide +kernel)
set_option maxRecDepth 20000 in
theorem gX10_winner_X10_isRace : GoodIn wsX10_winner (va_wsS RX10 83 yX10_isRace wsX10_isRace) := goodIn_app (goodIn_of _ (by decide +kernel)) ggX10_winner_X10_isRace
set_option maxRecDepth 20000 in
theorem ggX10_winner_X10_isHour : GoodIn wsX10_winner wsX10_isHour := goodIn_r _ [8] (by decide +kernel) (by decide +kernel)
set_option maxRecDepth 20000 in
theorem gX10_winner_X10_isHour : GoodIn wsX10_winner (va_wsS RX10 97 yX10_isHour wsX10_isHour) := goodIn_app (goodIn_of _ (by decide +kernel)) ggX10_winner_X10_isHour
set_option maxRecDepth 20000 in
theorem ggX10_winner_X8_readIn : GoodIn wsX10_winner wsX8_readIn := goodIn_r _ [13, 14, 15, 16, 17, 18, 19, 20, 21, 22, 23, 24, 25, 26, 27, 28, 29, 30, 31, 32, 33, 34, 35, 36, 37, 38, 39, 40, 41, 42, 43, 44, 45, 46, 47, 48, 49, 50, 51, 52, 53, 54, 55, 56, 57, 58, 130, 131, 132, 133, 134, 135, 136, 137, 138, 139, 140, 141, 142] (by decide +kernel) (by decide +kernel)
set_option maxRecDepth 20000 in
theorem gX10_winner_X8_readIn : GoodIn wsX10_winner (wsV RX10 100 RX8 yX8_readIn wsX8_readIn) := goodIn_app (goodIn_of _ (by decide +kernel)) ggX10_winner_X8_readIn
set_option maxRecDepth 20000 in
theorem ggX10_winner_X8_sum : GoodIn wsX10_winner wsX8_sum := goodIn_r _ [62, 63, 64, 65, 12, 66, 67, 68, 69, 70, 71, 72, 73, 74, 75, 76, 77, 78, 79, 80, 81, 82, 83, 37, 38, 39, 40, 41, 84, 85, 86, 87, 14, 88, 89, 90, 19, 91, 22, 21, 92, 93, 94, 95, 96, 97, 98, 99, 100, 101, 102, 103, 4, 104, 105, 106, 130, 131, 132, 133, 143, 144, 145, 142, 134, 135] (by decide +kernel) (by decide +kernel)
set_option maxRecDepth 20000 in
theorem gX10_winner_X8_sum : GoodIn wsX10_winner (wsV RX10 149 RX8 yX8_sum wsX8_sum) := goodIn_app (goodIn_of _ (by decide +kernel)) ggX10_winner_X8_sum
set_option maxRecDepth 20000 in
theorem ggX10_winner_X10_winnerOf : GoodIn wsX10_winner wsX10_winnerOf := goodIn_r _ [109, 110, 111, 4, 112, 113, 114, 115, 116, 117, 118, 119] (by decide +kernel) (by decide +kernel)
set_option maxRecDepth 20000 in
theorem gX10_winner_X10_winnerOf : GoodIn wsX10_winner (va_wsS RX10 158 yX10_winnerOf wsX10_winnerOf) := goodIn_app (goodIn_of _ (by decide +kernel)) ggX10_winner_X10_winnerOf
theorem dX10_winner_0 : decode cX10_winner 0 = .ok (.iload_n 1, 1) := by decide +kernel
theorem dX10_winner_1 : decode cX10_winner 1 = .ok (.invokestatic 83, 3) := by decide +kernel
theorem dX10_winner_4 : decode cX10_winner 4 = .ok (.ifCond .eq 10, 3) := by decide +kernel
theorem dX10_winner_7 : decode cX10_winner 7 = .ok (.iload_n 2, 1) := by decide +kernel
theorem dX10_winner_8 : decode cX10_winner 8 = .ok (.invokestatic 97, 3) := by decide +kernel
theorem dX10_winner_11 : decode cX10_winner 11 = .ok (.ifCond .ne 5, 3) := by decide +kernel
theorem dX10_winner_14 : decode cX10_winner 14 = .ok (.iconst (-1), 1) := by decide +kernel
theorem dX10_winner_15 : decode cX10_winner 15 = .ok (.ireturn, 1) := by decide +kernel
theorem dX10_winner_16 : decode cX10_winner 16 = .ok (.aload_n 0, 1) := by decide +kernel
theorem dX10_winner_17 : decode cX10_winner 17 = .ok (.getfield 45, 3) := by decide +kernel
theorem dX10_winner_20 : decode cX10_winner 20 = .ok (.iload_n 2, 1) := by decide +kernel
theorem dX10_winner_21 : decode cX10_winner 21 = .ok (.iload_n 3, 1) := by decide +kernel
theorem dX10_winner_22 : decode cX10_winner 22 = .ok (.invokevirtual 100, 3) := by decide +kernel
theorem dX10_winner_25 : decode cX10_winner 25 = .ok (.aload_n 0, 1) := by decide +kernel
theorem dX10_winner_26 : decode cX10_winner 26 = .ok (.getfield 45, 3) := by decide +kernel
theorem dX10_winner_29 : decode cX10_winner 29 = .ok (.iconst 5, 1) := by decide +kernel
theorem dX10_winner_30 : decode cX10_winner 30 = .ok (.iload_n 1, 1) := by decide +kernel
theorem dX10_winner_31 : decode cX10_winner 31 = .ok (.invokevirtual 149, 3) := by decide +kernel
theorem dX10_winner_34 : decode cX10_winner 34 = .ok (.invokestatic 158, 3) := by decide +kernel
theorem dX10_winner_37 : decode cX10_winner 37 = .ok (.ireturn, 1) := by decide +kernel
set_option maxRecDepth 20000 in
theorem ggX10_byRule_X10_isRace : GoodIn wsX10_byRule wsX10_isRace := goodIn_r _ [5] (by decide +kernel) (by decide +kernel)
set_option maxRecDepth 20000 in
theorem gX10_byRule_X10_isRace : GoodIn wsX10_byRule (va_wsS RX10 83 yX10_isRace wsX10_isRace) := goodIn_app (goodIn_of _ (by decide +kernel)) ggX10_byRule_X10_isRace
set_option maxRecDepth 20000 in
theorem ggX10_byRule_X10_isRule : GoodIn wsX10_byRule wsX10_isRule := goodIn_r _ [8] (by decide +kernel) (by decide +kernel)
set_option maxRecDepth 20000 in
theorem gX10_byRule_X10_isRule : GoodIn wsX10_byRule (va_wsS RX10 161 yX10_isRule wsX10_isRule) := goodIn_app (goodIn_of _ (by decide +kernel)) ggX10_byRule_X10_isRule
set_option maxRecDepth 20000 in
theorem ggX10_byRule_X8_readBy : GoodIn wsX10_byRule wsX8_readBy := goodIn_r _ [13, 14, 15, 16, 17, 18, 19, 20, 21, 22, 23, 24, 25, 26, 27, 102, 103, 104, 105, 106, 107, 108] (by decide +kernel) (by decide +kernel)
set_option maxRecDepth 20000 in
theorem gX10_byRule_X8_readBy : GoodIn wsX10_byRule (wsV RX10 164 RX8 yX8_readBy wsX8_readBy) := goodIn_app (goodIn_of _ (by decide +kernel)) ggX10_byRule_X8_readBy
set_option maxRecDepth 20000 in
theorem ggX10_byRule_X8_sum : GoodIn wsX10_byRule wsX8_sum := goodIn_r _ [31, 32, 33, 34, 12, 35, 36, 37, 38, 39, 40, 41, 42, 43, 44, 45, 46, 47, 48, 49, 50, 51, 52, 53, 54, 25, 55, 27, 56, 57, 58, 59, 14, 60, 61, 62, 18, 63, 21, 20, 64, 65, 66, 67, 68, 69, 70, 71, 72, 73, 74, 75, 4, 76, 77, 78, 102, 103, 104, 105, 109, 110, 111, 108, 106, 107] (by decide +kernel) (by decide +kernel)
set_option maxRecDepth 20000 in
theorem gX10_byRule_X8_sum : GoodIn wsX10_byRule (wsV RX10 149 RX8 yX8_sum wsX8_sum) := goodIn_app (goodIn_of _ (by decide +kernel)) ggX10_byRule_X8_sum
set_option maxRecDepth 20000 in
theorem ggX10_byRule_X10_winnerOf : GoodIn wsX10_byRule wsX10_winnerOf := goodIn_r _ [81, 82, 83, 4, 84, 85, 86, 87, 88, 89, 90, 91] (by decide +kernel) (by decide +kernel)
set_option maxRecDepth 20000 in
theorem gX10_byRule_X10_winnerOf : GoodIn wsX10_byRule (va_wsS RX10 158 yX10_winnerOf wsX10_winnerOf) := goodIn_app (goodIn_of _ (by decide +kernel)) ggX10_byRule_X10_winnerOf
theorem dX10_byRule_0 : decode cX10_byRule 0 = .ok (.iload_n 1, 1) := by decide +kernel
theorem dX10_byRule_1 : decode cX10_byRule 1 = .ok (.invokestatic 83, 3) := by decide +kernel
theorem dX10_byRule_4 : decode cX10_byRule 4 = .ok (.ifCond .eq 10, 3) := by decide +kernel
theorem dX10_byRule_7 : decode cX10_byRule 7 = .ok (.iload_n 2, 1) := by decide +kernel
theorem dX10_byRule_8 : decode cX10_byRule 8 = .ok (.invokestatic 161, 3) := by decide +kernel
theorem dX10_byRule_11 : decode cX10_byRule 11 = .ok (.ifCond .ne 5, 3) := by decide +kernel
theorem dX10_byRule_14 : decode cX10_byRule 14 = .ok (.iconst (-1), 1) := by decide +kernel
theorem dX10_byRule_15 : decode cX10_byRule 15 = .ok (.ireturn, 1) := by decide +kernel
theorem dX10_byRule_16 : decode cX10_byRule 16 = .ok (.aload_n 0, 1) := by decide +kernel
theorem dX10_byRule_17 : decode cX10_byRule 17 = .ok (.getfield 45, 3) := by decide +kernel
theorem dX10_byRule_20 : decode cX10_byRule 20 = .ok (.iload_n 2, 1) := by decide +kernel
theorem dX10_byRule_21 : decode cX10_byRule 21 = .ok (.invokevirtual 164, 3) := by decide +kernel
theorem dX10_byRule_24 : decode cX10_byRule 24 = .ok (.aload_n 0, 1) := by decide +kernel
theorem dX10_byRule_25 : decode cX10_byRule 25 = .ok (.getfield 45, 3) := by decide +kernel
theorem dX10_byRule_28 : decode cX10_byRule 28 = .ok (.iconst 5, 1) := by decide +kernel
theorem dX10_byRule_29 : decode cX10_byRule 29 = .ok (.iload_n 1, 1) := by decide +kernel
theorem dX10_byRule_30 : decode cX10_byRule 30 = .ok (.invokevirtual 149, 3) := by decide +kernel
theorem dX10_byRule_33 : decode cX10_byRule 33 = .ok (.invokestatic 158, 3) := by decide +kernel
theorem dX10_byRule_36 : decode cX10_byRule 36 = .ok (.ireturn, 1) := by decide +kernel
set_option maxRecDepth 20000 in
theorem ggX10_mixed_X10_isRace : GoodIn wsX10_mixed wsX10_isRace := goodIn_r _ [10] (by decide +kernel) (by decide +kernel)
set_option maxRecDepth 20000 in
theorem gX10_mixed_X10_isRace : GoodIn wsX10_mixed (va_wsS RX10 83 yX10_isRace wsX10_isRace) := goodIn_app (goodIn_of _ (by decide +kernel)) ggX10_mixed_X10_isRace
set_option maxRecDepth 20000 in
theorem ggX10_mixed_X10_isRuleSet : GoodIn wsX10_mixed wsX10_isRuleSet := goodIn_r _ [13] (by decide +kernel) (by decide +kernel)
set_option maxRecDepth 20000 in
theorem gX10_mixed_X10_isRuleSet : GoodIn wsX10_mixed (va_wsS RX10 168 yX10_isRuleSet wsX10_isRuleSet) := goodIn_app (goodIn_of _ (by decide +kernel)) ggX10_mixed_X10_isRuleSet
set_option maxRecDepth 20000 in
theorem ggX10_mixed_X0_learn : GoodIn wsX10_mixed wsX0_learn := goodIn_r _ [18, 19, 20, 21, 22, 23, 24, 25, 26, 27, 28, 29, 30, 31, 32, 33, 34, 35, 36, 37, 38, 39, 40, 17, 41, 42, 43, 44, 45, 46, 47, 48, 49, 50, 51, 52, 53, 54, 55, 56, 57, 58, 59, 60, 61, 62, 63, 64, 65, 66, 67, 68, 69, 70, 71, 72, 73, 74, 75, 76, 77, 78, 79, 80, 81, 82, 83, 84, 85, 86, 87, 88, 89, 9, 90, 91, 92, 93, 94, 95, 96, 169, 170, 171, 172, 173, 174, 175, 176, 177, 178, 179, 180, 181, 182, 183, 184, 185, 186] (by decide +kernel) (by decide +kernel)
set_option maxRecDepth 20000 in
theorem gX10_mixed_X0_learn : GoodIn wsX10_mixed (wsV RX10 171 RX0 yX0_learn wsX0_learn) := goodIn_app (goodIn_of _ (by decide +kernel)) ggX10_mixed_X0_learn
set_option maxRecDepth 20000 in
theorem ggX10_mixed_X0_tryAll : GoodIn wsX10_mixed wsX0_tryAll := goodIn_r _ [100, 101, 102, 103, 104, 105, 106, 107, 108, 109, 110, 17, 111, 19, 39, 40, 41, 112, 67, 68, 36, 69, 38, 113, 9, 114, 115, 116, 117, 3, 4, 5, 6, 118, 119, 120, 121, 122, 123, 124, 125, 126, 127, 128, 129, 130, 93, 94, 95, 96, 131, 132, 133, 134, 135, 136, 137, 138, 139, 140, 141, 142, 143, 144, 145, 146, 147, 148, 149, 150, 169, 170, 171, 172, 173, 174, 175, 176, 183] (by decide +kernel) (by decide +kernel)
set_option maxRecDepth 20000 in
theorem gX10_mixed_X0_tryAll : GoodIn wsX10_mixed (wsV RX10 179 RX0 yX0_tryAll wsX0_tryAll) := goodIn_app (goodIn_of _ (by decide +kernel)) ggX10_mixed_X0_tryAll
set_option maxRecDepth 20000 in
theorem ggX10_mixed_X0_winners : GoodIn wsX10_mixed wsX0_winners := goodIn_r _ [154, 104, 169, 170, 171, 172, 173, 174, 175, 176] (by decide +kernel) (by decide +kernel)
set_option maxRecDepth 20000 in
theorem gX10_mixed_X0_winners : GoodIn wsX10_mixed (wsV RX10 183 RX0 yX0_winners wsX0_winners) := goodIn_app (goodIn_of _ (by decide +kernel)) ggX10_mixed_X0_winners
set_option maxRecDepth 20000 in
theorem ggX10_mixed_X0_lead : GoodIn wsX10_mixed wsX0_lead := goodIn_r _ [158, 105, 169, 170, 171, 172, 173, 174, 175, 176] (by decide +kernel) (by decide +kernel)
set_option maxRecDepth 20000 in
theorem gX10_mixed_X0_lead : GoodIn wsX10_mixed (wsV RX10 186 RX0 yX0_lead wsX0_lead) := goodIn_app (goodIn_of _ (by decide +kernel)) ggX10_mixed_X0_lead
theorem dX10_mixed_0 : decode cX10_mixed 0 = .ok (.iload_n 1, 1) := by decide +kernel
theorem dX10_mixed_1 : decode cX10_mixed 1 = .ok (.invokestatic 83, 3) := by decide +kernel
theorem dX10_mixed_4 : decode cX10_mixed 4 = .ok (.ifCond .eq 20, 3) := by decide +kernel
theorem dX10_mixed_7 : decode cX10_mixed 7 = .ok (.iload_n 2, 1) := by decide +kernel
theorem dX10_mixed_8 : decode cX10_mixed 8 = .ok (.invokestatic 168, 3) := by decide +kernel
theorem dX10_mixed_11 : decode cX10_mixed 11 = .ok (.ifCond .eq 13, 3) := by decide +kernel
theorem dX10_mixed_14 : decode cX10_mixed 14 = .ok (.iload_n 3, 1) := by decide +kernel
theorem dX10_mixed_15 : decode cX10_mixed 15 = .ok (.iconst (-1), 1) := by decide +kernel
theorem dX10_mixed_16 : decode cX10_mixed 16 = .ok (.if_icmp .lt 8, 3) := by decide +kernel
theorem dX10_mixed_19 : decode cX10_mixed 19 = .ok (.iload_n 3, 1) := by decide +kernel
theorem dX10_mixed_20 : decode cX10_mixed 20 = .ok (.iconst 4, 1) := by decide +kernel
theorem dX10_mixed_21 : decode cX10_mixed 21 = .ok (.if_icmp .lt 7, 3) := by decide +kernel
theorem dX10_mixed_24 : decode cX10_mixed 24 = .ok (.sipush (-1000), 3) := by decide +kernel
theorem dX10_mixed_27 : decode cX10_mixed 27 = .ok (.ireturn, 1) := by decide +kernel
theorem dX10_mixed_28 : decode cX10_mixed 28 = .ok (.aload_n 0, 1) := by decide +kernel
theorem dX10_mixed_29 : decode cX10_mixed 29 = .ok (.getfield 52, 3) := by decide +kernel
theorem dX10_mixed_32 : decode cX10_mixed 32 = .ok (.aload_n 0, 1) := by decide +kernel
theorem dX10_mixed_33 : decode cX10_mixed 33 = .ok (.getfield 45, 3) := by decide +kernel
theorem dX10_mixed_36 : decode cX10_mixed 36 = .ok (.iload_n 1, 1) := by decide +kernel
theorem dX10_mixed_37 : decode cX10_mixed 37 = .ok (.invokevirtual 171, 3) := by decide +kernel
theorem dX10_mixed_40 : decode cX10_mixed 40 = .ok (.aload_n 0, 1) := by decide +kernel
theorem dX10_mixed_41 : decode cX10_mixed 41 = .ok (.getfield 52, 3) := by decide +kernel
theorem dX10_mixed_44 : decode cX10_mixed 44 = .ok (.iconst 0, 1) := by decide +kernel
theorem dX10_mixed_45 : decode cX10_mixed 45 = .ok (.iload_n 2, 1) := by decide +kernel
theorem dX10_mixed_46 : decode cX10_mixed 46 = .ok (.iconst 0, 1) := by decide +kernel
theorem dX10_mixed_47 : decode cX10_mixed 47 = .ok (.iload_n 3, 1) := by decide +kernel
theorem dX10_mixed_48 : decode cX10_mixed 48 = .ok (.invokestatic 174, 3) := by decide +kernel
theorem dX10_mixed_51 : decode cX10_mixed 51 = .ok (.invokevirtual 179, 3) := by decide +kernel
theorem dX10_mixed_54 : decode cX10_mixed 54 = .ok (.iload_n 3, 1) := by decide +kernel
theorem dX10_mixed_55 : decode cX10_mixed 55 = .ok (.ifCond .ge 13, 3) := by decide +kernel
theorem dX10_mixed_58 : decode cX10_mixed 58 = .ok (.aload_n 0, 1) := by decide +kernel
theorem dX10_mixed_59 : decode cX10_mixed 59 = .ok (.getfield 52, 3) := by decide +kernel
theorem dX10_mixed_62 : decode cX10_mixed 62 = .ok (.invokevirtual 183, 3) := by decide +kernel
theorem dX10_mixed_65 : decode cX10_mixed 65 = .ok (.goto 10, 3) := by decide +kernel
theorem dX10_mixed_68 : decode cX10_mixed 68 = .ok (.aload_n 0, 1) := by decide +kernel
theorem dX10_mixed_69 : decode cX10_mixed 69 = .ok (.getfield 52, 3) := by decide +kernel
theorem dX10_mixed_72 : decode cX10_mixed 72 = .ok (.invokevirtual 186, 3) := by decide +kernel
theorem dX10_mixed_75 : decode cX10_mixed 75 = .ok (.ireturn, 1) := by decide +kernel
set_option maxRecDepth 20000 in
theorem ggX10_turned_X10_isRace : GoodIn wsX10_turned wsX10_isRace := goodIn_r _ [6] (by decide +kernel) (by decide +kernel)
set_option maxRecDepth 20000 in
theorem gX10_turned_X10_isRace : GoodIn wsX10_turned (va_wsS RX10 83 yX10_isRace wsX10_isRace) := goodIn_app (goodIn_of _ (by decide +kernel)) ggX10_turned_X10_isRace
set_option maxRecDepth 20000 in
theorem ggX10_turned_X10_isRule : GoodIn wsX10_turned wsX10_isRule := goodIn_r _ [9] (by decide +kernel) (by decide +kernel)
set_option maxRecDepth 20000 in
theorem gX10_turned_X10_isRule : GoodIn wsX10_turned (va_wsS RX10 161 yX10_isRule wsX10_isRule) := goodIn_app (goodIn_of _ (by decide +kernel)) ggX10_turned_X10_isRule
set_option maxRecDepth 20000 in
theorem ggX10_turned_X10_isRuleSet : GoodIn wsX10_turned wsX10_isRuleSet := goodIn_r _ [12] (by decide +kernel) (by decide +kernel)
set_option maxRecDepth 20000 in
theorem gX10_turned_X10_isRuleSet : GoodIn wsX10_turned (va_wsS RX10 168 yX10_isRuleSet wsX10_isRuleSet) := goodIn_app (goodIn_of _ (by decide +kernel)) ggX10_turned_X10_isRuleSet
set_option maxRecDepth 20000 in
theorem ggX10_turned_X0_learn : GoodIn wsX10_turned wsX0_learn := goodIn_r _ [17, 18, 19, 20, 21, 22, 23, 24, 25, 26, 27, 28, 29, 30, 31, 32, 33, 34, 35, 36, 37, 38, 39, 16, 40, 41, 42, 43, 44, 45, 46, 47, 48, 49, 50, 51, 52, 53, 54, 55, 56, 57, 58, 59, 60, 61, 62, 63, 64, 65, 66, 67, 68, 69, 70, 71, 72, 73, 74, 75, 76, 77, 78, 79, 80, 81, 82, 83, 84, 85, 86, 87, 88, 5, 89, 90, 91, 92, 93, 94, 95, 169, 170, 171, 172, 173, 174, 175, 176, 177, 178, 179, 180, 181, 182, 183, 184, 185, 186] (by decide +kernel) (by decide +kernel)
set_option maxRecDepth 20000 in
theorem gX10_turned_X0_learn : GoodIn wsX10_turned (wsV RX10 171 RX0 yX0_learn wsX0_learn) := goodIn_app (goodIn_of _ (by decide +kernel)) ggX10_turned_X0_learn
set_option maxRecDepth 20000 in
theorem ggX10_turned_X0_winnerBy : GoodIn wsX10_turned wsX0_winnerBy := goodIn_r _ [99, 18, 38, 39, 16, 40, 100, 66, 67, 35, 68, 37, 101, 5, 102, 103, 104, 105, 106, 107, 108, 109, 110, 111, 112, 169, 170, 171, 172, 173, 174, 175, 176, 183] (by decide +kernel) (by decide +kernel)
set_option maxRecDepth 20000 in
theorem gX10_turned_X0_winnerBy : GoodIn wsX10_turned (wsV RX10 189 RX0 yX0_winnerBy wsX0_winnerBy) := goodIn_app (goodIn_of _ (by decide +kernel)) ggX10_turned_X0_winnerBy
set_option maxRecDepth 20000 in
theorem ggX10_turned_X0_tryAll : GoodIn wsX10_turned wsX0_tryAll := goodIn_r _ [116, 117, 118, 119, 120, 121, 122, 123, 124, 97, 98, 16, 99, 18, 38, 39, 40, 100, 66, 67, 35, 68, 37, 101, 5, 102, 103, 104, 105, 106, 107, 108, 109, 110, 111, 112, 125, 126, 127, 128, 129, 130, 131, 132, 133, 134, 92, 93, 94, 95, 135, 136, 137, 138, 139, 140, 141, 142, 143, 144, 145, 146, 147, 148, 149, 150, 151, 152, 153, 154, 169, 170, 171, 172, 173, 174, 175, 176, 183] (by decide +kernel) (by decide +kernel)
set_option maxRecDepth 20000 in
theorem gX10_turned_X0_tryAll : GoodIn wsX10_turned (wsV RX10 179 RX0 yX0_tryAll wsX0_tryAll) := goodIn_app (goodIn_of _ (by decide +kernel)) ggX10_turned_X0_tryAll
set_option maxRecDepth 20000 in
theorem ggX10_turned_X0_fewest : GoodIn wsX10_turned wsX0_fewest := goodIn_r _ [158, 122, 169, 170, 171, 172, 173, 174, 175, 176] (by decide +kernel) (by decide +kernel)
set_option maxRecDepth 20000 in
theorem gX10_turned_X0_fewest : GoodIn wsX10_turned (wsV RX10 192 RX0 yX0_fewest wsX0_fewest) := goodIn_app (goodIn_of _ (by decide +kernel)) ggX10_turned_X0_fewest
theorem dX10_turned_0 : decode cX10_turned 0 = .ok (.iload_n 1, 1) := by decide +kernel
theorem dX10_turned_1 : decode cX10_turned 1 = .ok (.invokestatic 83, 3) := by decide +kernel
theorem dX10_turned_4 : decode cX10_turned 4 = .ok (.ifCond .eq 17, 3) := by decide +kernel
theorem dX10_turned_7 : decode cX10_turned 7 = .ok (.iload_n 2, 1) := by decide +kernel
theorem dX10_turned_8 : decode cX10_turned 8 = .ok (.invokestatic 161, 3) := by decide +kernel
theorem dX10_turned_11 : decode cX10_turned 11 = .ok (.ifCond .eq 10, 3) := by decide +kernel
theorem dX10_turned_14 : decode cX10_turned 14 = .ok (.iload_n 3, 1) := by decide +kernel
theorem dX10_turned_15 : decode cX10_turned 15 = .ok (.invokestatic 168, 3) := by decide +kernel
theorem dX10_turned_18 : decode cX10_turned 18 = .ok (.ifCond .ne 5, 3) := by decide +kernel
theorem dX10_turned_21 : decode cX10_turned 21 = .ok (.iconst (-1), 1) := by decide +kernel
theorem dX10_turned_22 : decode cX10_turned 22 = .ok (.ireturn, 1) := by decide +kernel
theorem dX10_turned_23 : decode cX10_turned 23 = .ok (.aload_n 0, 1) := by decide +kernel
theorem dX10_turned_24 : decode cX10_turned 24 = .ok (.getfield 52, 3) := by decide +kernel
theorem dX10_turned_27 : decode cX10_turned 27 = .ok (.aload_n 0, 1) := by decide +kernel
theorem dX10_turned_28 : decode cX10_turned 28 = .ok (.getfield 45, 3) := by decide +kernel
theorem dX10_turned_31 : decode cX10_turned 31 = .ok (.iload_n 1, 1) := by decide +kernel
theorem dX10_turned_32 : decode cX10_turned 32 = .ok (.invokevirtual 171, 3) := by decide +kernel
theorem dX10_turned_35 : decode cX10_turned 35 = .ok (.aload_n 0, 1) := by decide +kernel
theorem dX10_turned_36 : decode cX10_turned 36 = .ok (.getfield 52, 3) := by decide +kernel
theorem dX10_turned_39 : decode cX10_turned 39 = .ok (.iload_n 2, 1) := by decide +kernel
theorem dX10_turned_40 : decode cX10_turned 40 = .ok (.invokevirtual 189, 3) := by decide +kernel
theorem dX10_turned_43 : decode cX10_turned 43 = .ok (.bipush (-4), 2) := by decide +kernel
theorem dX10_turned_45 : decode cX10_turned 45 = .ok (.if_icmp .ne 6, 3) := by decide +kernel
theorem dX10_turned_48 : decode cX10_turned 48 = .ok (.bipush (-2), 2) := by decide +kernel
theorem dX10_turned_50 : decode cX10_turned 50 = .ok (.ireturn, 1) := by decide +kernel
theorem dX10_turned_51 : decode cX10_turned 51 = .ok (.aload_n 0, 1) := by decide +kernel
theorem dX10_turned_52 : decode cX10_turned 52 = .ok (.getfield 52, 3) := by decide +kernel
theorem dX10_turned_55 : decode cX10_turned 55 = .ok (.iload_n 2, 1) := by decide +kernel
theorem dX10_turned_56 : decode cX10_turned 56 = .ok (.iload_n 3, 1) := by decide +kernel
theorem dX10_turned_57 : decode cX10_turned 57 = .ok (.iconst 0, 1) := by decide +kernel
theorem dX10_turned_58 : decode cX10_turned 58 = .ok (.invokevirtual 179, 3) := by decide +kernel
theorem dX10_turned_61 : decode cX10_turned 61 = .ok (.aload_n 0, 1) := by decide +kernel
theorem dX10_turned_62 : decode cX10_turned 62 = .ok (.getfield 52, 3) := by decide +kernel
theorem dX10_turned_65 : decode cX10_turned 65 = .ok (.invokevirtual 192, 3) := by decide +kernel
theorem dX10_turned_68 : decode cX10_turned 68 = .ok (.ireturn, 1) := by decide +kernel
set_option maxRecDepth 20000 in
theorem ggX10_least_X10_isRace : GoodIn wsX10_least wsX10_isRace := goodIn_r _ [5] (by decide +kernel) (by decide +kernel)
set_option maxRecDepth 20000 in
theorem gX10_least_X10_isRace : GoodIn wsX10_least (va_wsS RX10 83 yX10_isRace wsX10_isRace) := goodIn_app (goodIn_of _ (by decide +kernel)) ggX10_least_X10_isRace
set_option maxRecDepth 20000 in
theorem ggX10_least_X10_isHole : GoodIn wsX10_least wsX10_isHole := goodIn_r _ [8] (by decide +kernel) (by decide +kernel)
set_option maxRecDepth 20000 in
theorem gX10_least_X10_isHole : GoodIn wsX10_least (va_wsS RX10 86 yX10_isHole wsX10_isHole) := goodIn_app (goodIn_of _ (by decide +kernel)) ggX10_least_X10_isHole
set_option maxRecDepth 20000 in
theorem ggX10_least_X10_isHour : GoodIn wsX10_least wsX10_isHour := goodIn_r _ [11] (by decide +kernel) (by decide +kernel)
set_option maxRecDepth 20000 in
theorem gX10_least_X10_isHour : GoodIn wsX10_least (va_wsS RX10 97 yX10_isHour wsX10_isHour) := goodIn_app (goodIn_of _ (by decide +kernel)) ggX10_least_X10_isHour
set_option maxRecDepth 20000 in
theorem ggX10_least_X8_readIn : GoodIn wsX10_least wsX8_readIn := goodIn_r _ [16, 17, 18, 19, 20, 21, 22, 23, 24, 25, 26, 27, 28, 29, 30, 31, 32, 33, 34, 35, 36, 37, 38, 39, 40, 41, 42, 43, 44, 45, 46, 47, 48, 49, 50, 51, 52, 53, 54, 55, 56, 57, 58, 59, 60, 61, 134, 135, 136, 137, 138, 139, 140, 141, 142, 143, 144, 145, 146] (by decide +kernel) (by decide +kernel)
set_option maxRecDepth 20000 in
theorem gX10_least_X8_readIn : GoodIn wsX10_least (wsV RX10 100 RX8 yX8_readIn wsX8_readIn) := goodIn_app (goodIn_of _ (by decide +kernel)) ggX10_least_X8_readIn
set_option maxRecDepth 20000 in
theorem ggX10_least_X8_fewestChanged : GoodIn wsX10_least wsX8_fewestChanged := goodIn_r _ [65, 66, 67, 68, 15, 69, 70, 71, 72, 73, 74, 75, 76, 77, 78, 79, 80, 81, 82, 83, 84, 85, 86, 87, 88, 89, 90, 40, 41, 42, 43, 44, 91, 92, 93, 94, 17, 95, 96, 97, 22, 98, 25, 24, 99, 100, 101, 102, 103, 104, 105, 106, 107, 108, 109, 110, 4, 111, 112, 113, 114, 115, 116, 117, 118, 119, 120, 121, 122, 123, 134, 135, 136, 137, 147, 148, 149, 146, 138, 139] (by decide +kernel) (by decide +kernel)
set_option maxRecDepth 20000 in
theorem gX10_least_X8_fewestChanged : GoodIn wsX10_least (wsV RX10 195 RX8 yX8_fewestChanged wsX8_fewestChanged) := goodIn_app (goodIn_of _ (by decide +kernel)) ggX10_least_X8_fewestChanged
theorem dX10_least_0 : decode cX10_least 0 = .ok (.iload_n 1, 1) := by decide +kernel
theorem dX10_least_1 : decode cX10_least 1 = .ok (.invokestatic 83, 3) := by decide +kernel
theorem dX10_least_4 : decode cX10_least 4 = .ok (.ifCond .eq 17, 3) := by decide +kernel
theorem dX10_least_7 : decode cX10_least 7 = .ok (.iload_n 2, 1) := by decide +kernel
theorem dX10_least_8 : decode cX10_least 8 = .ok (.invokestatic 86, 3) := by decide +kernel
theorem dX10_least_11 : decode cX10_least 11 = .ok (.ifCond .eq 10, 3) := by decide +kernel
theorem dX10_least_14 : decode cX10_least 14 = .ok (.iload_n 3, 1) := by decide +kernel
theorem dX10_least_15 : decode cX10_least 15 = .ok (.invokestatic 97, 3) := by decide +kernel
theorem dX10_least_18 : decode cX10_least 18 = .ok (.ifCond .ne 5, 3) := by decide +kernel
theorem dX10_least_21 : decode cX10_least 21 = .ok (.iconst (-1), 1) := by decide +kernel
theorem dX10_least_22 : decode cX10_least 22 = .ok (.ireturn, 1) := by decide +kernel
theorem dX10_least_23 : decode cX10_least 23 = .ok (.aload_n 0, 1) := by decide +kernel
theorem dX10_least_24 : decode cX10_least 24 = .ok (.getfield 45, 3) := by decide +kernel
theorem dX10_least_27 : decode cX10_least 27 = .ok (.iload_n 3, 1) := by decide +kernel
theorem dX10_least_28 : decode cX10_least 28 = .ok (.iconst 0, 1) := by decide +kernel
theorem dX10_least_29 : decode cX10_least 29 = .ok (.invokevirtual 100, 3) := by decide +kernel
theorem dX10_least_32 : decode cX10_least 32 = .ok (.aload_n 0, 1) := by decide +kernel
theorem dX10_least_33 : decode cX10_least 33 = .ok (.getfield 45, 3) := by decide +kernel
theorem dX10_least_36 : decode cX10_least 36 = .ok (.iload_n 2, 1) := by decide +kernel
theorem dX10_least_37 : decode cX10_least 37 = .ok (.iload_n 1, 1) := by decide +kernel
theorem dX10_least_38 : decode cX10_least 38 = .ok (.invokevirtual 195, 3) := by decide +kernel
theorem dX10_least_41 : decode cX10_least 41 = .ok (.ireturn, 1) := by decide +kernel
set_option maxRecDepth 20000 in
theorem ggX10_meant_X3_has : GoodIn wsX10_meant wsX3_has := goodIn_r _ [6, 7, 62, 63, 64] (by decide +kernel) (by decide +kernel)
set_option maxRecDepth 20000 in
theorem gX10_meant_X3_has : GoodIn wsX10_meant (wsV RX10 80 RX3 yX3_has wsX3_has) := goodIn_app (goodIn_of _ (by decide +kernel)) ggX10_meant_X3_has
set_option maxRecDepth 20000 in
theorem ggX10_meant_X10_isRace : GoodIn wsX10_meant wsX10_isRace := goodIn_r _ [11] (by decide +kernel) (by decide +kernel)
set_option maxRecDepth 20000 in
theorem gX10_meant_X10_isRace : GoodIn wsX10_meant (va_wsS RX10 83 yX10_isRace wsX10_isRace) := goodIn_app (goodIn_of _ (by decide +kernel)) ggX10_meant_X10_isRace
set_option maxRecDepth 20000 in
theorem ggX10_meant_X10_isWhat : GoodIn wsX10_meant wsX10_isWhat := goodIn_r _ [14] (by decide +kernel) (by decide +kernel)
set_option maxRecDepth 20000 in
theorem gX10_meant_X10_isWhat : GoodIn wsX10_meant (va_wsS RX10 133 yX10_isWhat wsX10_isWhat) := goodIn_app (goodIn_of _ (by decide +kernel)) ggX10_meant_X10_isWhat
set_option maxRecDepth 20000 in
theorem ggX10_meant_X3_meantBits : GoodIn wsX10_meant wsX3_meantBits := goodIn_r _ [18, 19, 20, 21, 5, 22, 23, 24, 25, 26, 27, 28, 29, 30, 31, 32, 33, 34, 35, 36, 37, 38, 39, 40, 41, 42, 43, 44, 45, 46, 47, 48, 62, 63, 64, 65] (by decide +kernel) (by decide +kernel)
set_option maxRecDepth 20000 in
theorem gX10_meant_X3_meantBits : GoodIn wsX10_meant (wsV RX10 198 RX3 yX3_meantBits wsX3_meantBits) := goodIn_app (goodIn_of _ (by decide +kernel)) ggX10_meant_X3_meantBits
set_option maxRecDepth 20000 in
theorem ggX10_meant_X10_onlyBit : GoodIn wsX10_meant wsX10_onlyBit := goodIn_r _ [51] (by decide +kernel) (by decide +kernel)
set_option maxRecDepth 20000 in
theorem gX10_meant_X10_onlyBit : GoodIn wsX10_meant (va_wsS RX10 201 yX10_onlyBit wsX10_onlyBit) := goodIn_app (goodIn_of _ (by decide +kernel)) ggX10_meant_X10_onlyBit
theorem dX10_meant_0 : decode cX10_meant 0 = .ok (.aload_n 0, 1) := by decide +kernel
theorem dX10_meant_1 : decode cX10_meant 1 = .ok (.getfield 12, 3) := by decide +kernel
theorem dX10_meant_4 : decode cX10_meant 4 = .ok (.iload_n 1, 1) := by decide +kernel
theorem dX10_meant_5 : decode cX10_meant 5 = .ok (.invokevirtual 80, 3) := by decide +kernel
theorem dX10_meant_8 : decode cX10_meant 8 = .ok (.ifCond .eq 18, 3) := by decide +kernel
theorem dX10_meant_11 : decode cX10_meant 11 = .ok (.iload_n 2, 1) := by decide +kernel
theorem dX10_meant_12 : decode cX10_meant 12 = .ok (.invokestatic 83, 3) := by decide +kernel
theorem dX10_meant_15 : decode cX10_meant 15 = .ok (.ifCond .eq 11, 3) := by decide +kernel
theorem dX10_meant_18 : decode cX10_meant 18 = .ok (.iload_n 3, 1) := by decide +kernel
theorem dX10_meant_19 : decode cX10_meant 19 = .ok (.iconst 2, 1) := by decide +kernel
theorem dX10_meant_20 : decode cX10_meant 20 = .ok (.invokestatic 133, 3) := by decide +kernel
theorem dX10_meant_23 : decode cX10_meant 23 = .ok (.ifCond .ne 5, 3) := by decide +kernel
theorem dX10_meant_26 : decode cX10_meant 26 = .ok (.iconst (-1), 1) := by decide +kernel
theorem dX10_meant_27 : decode cX10_meant 27 = .ok (.ireturn, 1) := by decide +kernel
theorem dX10_meant_28 : decode cX10_meant 28 = .ok (.aload_n 0, 1) := by decide +kernel
theorem dX10_meant_29 : decode cX10_meant 29 = .ok (.getfield 12, 3) := by decide +kernel
theorem dX10_meant_32 : decode cX10_meant 32 = .ok (.iload_n 1, 1) := by decide +kernel
theorem dX10_meant_33 : decode cX10_meant 33 = .ok (.iload_n 2, 1) := by decide +kernel
theorem dX10_meant_34 : decode cX10_meant 34 = .ok (.invokevirtual 198, 3) := by decide +kernel
theorem dX10_meant_37 : decode cX10_meant 37 = .ok (.istore 4, 2) := by decide +kernel
theorem dX10_meant_39 : decode cX10_meant 39 = .ok (.iload_n 3, 1) := by decide +kernel
theorem dX10_meant_40 : decode cX10_meant 40 = .ok (.ifCond .ne 8, 3) := by decide +kernel
theorem dX10_meant_43 : decode cX10_meant 43 = .ok (.iload 4, 2) := by decide +kernel
theorem dX10_meant_45 : decode cX10_meant 45 = .ok (.goto 8, 3) := by decide +kernel
theorem dX10_meant_48 : decode cX10_meant 48 = .ok (.iload 4, 2) := by decide +kernel
theorem dX10_meant_50 : decode cX10_meant 50 = .ok (.invokestatic 201, 3) := by decide +kernel
theorem dX10_meant_53 : decode cX10_meant 53 = .ok (.ireturn, 1) := by decide +kernel
set_option maxRecDepth 20000 in
theorem ggX10_otherwise_X10_isCountyOrAll : GoodIn wsX10_otherwise wsX10_isCountyOrAll := goodIn_r _ [5, 6, 7, 4, 8] (by decide +kernel) (by decide +kernel)
set_option maxRecDepth 20000 in
theorem gX10_otherwise_X10_isCountyOrAll : GoodIn wsX10_otherwise (va_wsS RX10 146 yX10_isCountyOrAll wsX10_isCountyOrAll) := goodIn_app (goodIn_of _ (by decide +kernel)) ggX10_otherwise_X10_isCountyOrAll
set_option maxRecDepth 20000 in
theorem ggX10_otherwise_X10_isRace : GoodIn wsX10_otherwise wsX10_isRace := goodIn_r _ [11] (by decide +kernel) (by decide +kernel)
set_option maxRecDepth 20000 in
theorem gX10_otherwise_X10_isRace : GoodIn wsX10_otherwise (va_wsS RX10 83 yX10_isRace wsX10_isRace) := goodIn_app (goodIn_of _ (by decide +kernel)) ggX10_otherwise_X10_isRace
set_option maxRecDepth 20000 in
theorem ggX10_otherwise_X10_isHour : GoodIn wsX10_otherwise wsX10_isHour := goodIn_r _ [14] (by decide +kernel) (by decide +kernel)
set_option maxRecDepth 20000 in
theorem gX10_otherwise_X10_isHour : GoodIn wsX10_otherwise (va_wsS RX10 97 yX10_isHour wsX10_isHour) := goodIn_app (goodIn_of _ (by decide +kernel)) ggX10_otherwise_X10_isHour
set_option maxRecDepth 20000 in
theorem ggX10_otherwise_X8_changedBetween : GoodIn wsX10_otherwise wsX8_changedBetween := goodIn_r _ [19, 20, 21, 22, 23, 24, 25, 26, 27, 28, 29, 30, 31, 32, 33, 34, 35, 36, 37, 38, 39, 40, 41, 42, 43, 44, 45, 46, 47, 48, 49, 50, 51, 52, 53, 54, 55, 56, 57, 58, 59, 60, 61, 62, 63, 64, 65, 66, 67, 68, 18, 69, 70, 71, 72, 73, 74, 75, 76, 77, 78, 79, 80, 81, 82, 83, 84, 85, 86, 87, 88, 89, 90, 91, 92, 93, 94, 95, 96, 97, 98, 99, 100, 101, 102, 103, 104, 105, 106, 107, 108, 109, 110, 4, 111, 122, 123, 124, 125, 126, 127, 128, 129, 130, 131, 132, 133, 134, 135, 136, 137] (by decide +kernel) (by decide +kernel)
set_option maxRecDepth 20000 in
theorem gX10_otherwise_X8_changedBetween : GoodIn wsX10_otherwise (wsV RX10 204 RX8 yX8_changedBetween wsX8_changedBetween) := goodIn_app (goodIn_of _ (by decide +kernel)) ggX10_otherwise_X8_changedBetween
theorem dX10_otherwise_0 : decode cX10_otherwise 0 = .ok (.iload_n 1, 1) := by decide +kernel
theorem dX10_otherwise_1 : decode cX10_otherwise 1 = .ok (.invokestatic 146, 3) := by decide +kernel
theorem dX10_otherwise_4 : decode cX10_otherwise 4 = .ok (.ifCond .eq 25, 3) := by decide +kernel
theorem dX10_otherwise_7 : decode cX10_otherwise 7 = .ok (.iload_n 2, 1) := by decide +kernel
theorem dX10_otherwise_8 : decode cX10_otherwise 8 = .ok (.invokestatic 83, 3) := by decide +kernel
theorem dX10_otherwise_11 : decode cX10_otherwise 11 = .ok (.ifCond .eq 18, 3) := by decide +kernel
theorem dX10_otherwise_14 : decode cX10_otherwise 14 = .ok (.iload_n 3, 1) := by decide +kernel
theorem dX10_otherwise_15 : decode cX10_otherwise 15 = .ok (.invokestatic 97, 3) := by decide +kernel
theorem dX10_otherwise_18 : decode cX10_otherwise 18 = .ok (.ifCond .eq 11, 3) := by decide +kernel
theorem dX10_otherwise_21 : decode cX10_otherwise 21 = .ok (.iload 4, 2) := by decide +kernel
theorem dX10_otherwise_23 : decode cX10_otherwise 23 = .ok (.invokestatic 97, 3) := by decide +kernel
theorem dX10_otherwise_26 : decode cX10_otherwise 26 = .ok (.ifCond .ne 5, 3) := by decide +kernel
theorem dX10_otherwise_29 : decode cX10_otherwise 29 = .ok (.iconst (-1), 1) := by decide +kernel
theorem dX10_otherwise_30 : decode cX10_otherwise 30 = .ok (.ireturn, 1) := by decide +kernel
theorem dX10_otherwise_31 : decode cX10_otherwise 31 = .ok (.aload_n 0, 1) := by decide +kernel
theorem dX10_otherwise_32 : decode cX10_otherwise 32 = .ok (.getfield 45, 3) := by decide +kernel
theorem dX10_otherwise_35 : decode cX10_otherwise 35 = .ok (.iload_n 1, 1) := by decide +kernel
theorem dX10_otherwise_36 : decode cX10_otherwise 36 = .ok (.iload_n 2, 1) := by decide +kernel
theorem dX10_otherwise_37 : decode cX10_otherwise 37 = .ok (.iload_n 3, 1) := by decide +kernel
theorem dX10_otherwise_38 : decode cX10_otherwise 38 = .ok (.iload 4, 2) := by decide +kernel
theorem dX10_otherwise_40 : decode cX10_otherwise 40 = .ok (.invokevirtual 204, 3) := by decide +kernel
theorem dX10_otherwise_43 : decode cX10_otherwise 43 = .ok (.ireturn, 1) := by decide +kernel
set_option maxRecDepth 20000 in
theorem ggX10_listed_X10_isName : GoodIn wsX10_listed wsX10_isName := goodIn_r _ [5, 6, 7, 4, 8] (by decide +kernel) (by decide +kernel)
set_option maxRecDepth 20000 in
theorem gX10_listed_X10_isName : GoodIn wsX10_listed (va_wsS RX10 208 yX10_isName wsX10_isName) := goodIn_app (goodIn_of _ (by decide +kernel)) ggX10_listed_X10_isName
set_option maxRecDepth 20000 in
theorem ggX10_listed_X10_isDay : GoodIn wsX10_listed wsX10_isDay := goodIn_r _ [11, 12] (by decide +kernel) (by decide +kernel)
set_option maxRecDepth 20000 in
theorem gX10_listed_X10_isDay : GoodIn wsX10_listed (va_wsS RX10 212 yX10_isDay wsX10_isDay) := goodIn_app (goodIn_of _ (by decide +kernel)) ggX10_listed_X10_isDay
set_option maxRecDepth 20000 in
theorem ggX10_listed_X5_addListed : GoodIn wsX10_listed wsX5_addListed := goodIn_r _ [17, 18, 19, 20, 21, 22, 23, 24, 25, 26, 27, 28, 29, 7, 4, 8, 30, 31, 32, 33, 34, 35, 36, 37, 38, 39, 40, 41, 42, 16, 43, 44, 45, 46, 47, 48, 49, 50, 51, 52, 53, 54, 55, 56, 57, 58, 59, 60, 61, 62, 63, 64, 65, 66, 67, 68, 69, 70, 71, 72, 73, 74, 75, 76, 77, 78, 79, 80, 81, 82, 83, 84, 85, 86, 87, 88, 89, 90, 101, 102, 103, 104, 105, 106, 107, 108, 109, 110, 111, 112] (by decide +kernel) (by decide +kernel)
set_option maxRecDepth 20000 in
theorem gX10_listed_X5_addListed : GoodIn wsX10_listed (wsV RX10 215 RX5 yX5_addListed wsX5_addListed) := goodIn_app (goodIn_of _ (by decide +kernel)) ggX10_listed_X5_addListed
theorem dX10_listed_0 : decode cX10_listed 0 = .ok (.lload_n 1, 1) := by decide +kernel
theorem dX10_listed_1 : decode cX10_listed 1 = .ok (.invokestatic 208, 3) := by decide +kernel
theorem dX10_listed_4 : decode cX10_listed 4 = .ok (.ifCond .eq 10, 3) := by decide +kernel
theorem dX10_listed_7 : decode cX10_listed 7 = .ok (.iload_n 3, 1) := by decide +kernel
theorem dX10_listed_8 : decode cX10_listed 8 = .ok (.invokestatic 212, 3) := by decide +kernel
theorem dX10_listed_11 : decode cX10_listed 11 = .ok (.ifCond .ne 5, 3) := by decide +kernel
theorem dX10_listed_14 : decode cX10_listed 14 = .ok (.iconst (-1), 1) := by decide +kernel
theorem dX10_listed_15 : decode cX10_listed 15 = .ok (.ireturn, 1) := by decide +kernel
theorem dX10_listed_16 : decode cX10_listed 16 = .ok (.aload_n 0, 1) := by decide +kernel
theorem dX10_listed_17 : decode cX10_listed 17 = .ok (.getfield 59, 3) := by decide +kernel
theorem dX10_listed_20 : decode cX10_listed 20 = .ok (.lload_n 1, 1) := by decide +kernel
theorem dX10_listed_21 : decode cX10_listed 21 = .ok (.iload_n 3, 1) := by decide +kernel
theorem dX10_listed_22 : decode cX10_listed 22 = .ok (.invokevirtual 215, 3) := by decide +kernel
theorem dX10_listed_25 : decode cX10_listed 25 = .ok (.ireturn, 1) := by decide +kernel
set_option maxRecDepth 20000 in
theorem ggX10_voter_X10_isName : GoodIn wsX10_voter wsX10_isName := goodIn_r _ [5, 6, 7, 4, 8] (by decide +kernel) (by decide +kernel)
set_option maxRecDepth 20000 in
theorem gX10_voter_X10_isName : GoodIn wsX10_voter (va_wsS RX10 208 yX10_isName wsX10_isName) := goodIn_app (goodIn_of _ (by decide +kernel)) ggX10_voter_X10_isName
set_option maxRecDepth 20000 in
theorem ggX10_voter_X10_isDay : GoodIn wsX10_voter wsX10_isDay := goodIn_r _ [11, 12] (by decide +kernel) (by decide +kernel)
set_option maxRecDepth 20000 in
theorem gX10_voter_X10_isDay : GoodIn wsX10_voter (va_wsS RX10 212 yX10_isDay wsX10_isDay) := goodIn_app (goodIn_of _ (by decide +kernel)) ggX10_voter_X10_isDay
set_option maxRecDepth 20000 in
theorem ggX10_voter_X10_isCounty : GoodIn wsX10_voter wsX10_isCounty := goodIn_r _ [15] (by decide +kernel) (by decide +kernel)
set_option maxRecDepth 20000 in
theorem gX10_voter_X10_isCounty : GoodIn wsX10_voter (va_wsS RX10 70 yX10_isCounty wsX10_isCounty) := goodIn_app (goodIn_of _ (by decide +kernel)) ggX10_voter_X10_isCounty
set_option maxRecDepth 20000 in
theorem ggX10_voter_X5_addVoter : GoodIn wsX10_voter wsX5_addVoter := goodIn_r _ [20, 21, 22, 23, 24, 25, 26, 27, 28, 29, 30, 31, 32, 7, 4, 8, 33, 34, 35, 36, 37, 38, 39, 40, 41, 42, 43, 44, 45, 19, 46, 47, 48, 49, 50, 51, 52, 53, 54, 55, 56, 57, 58, 59, 60, 61, 62, 63, 64, 65, 66, 67, 68, 69, 70, 71, 72, 73, 74, 75, 76, 77, 78, 79, 80, 81, 82, 83, 84, 85, 86, 87, 88, 89, 90, 91, 92, 93, 104, 105, 106, 107, 108, 109, 110, 111, 112, 113, 114, 115] (by decide +kernel) (by decide +kernel)
set_option maxRecDepth 20000 in
theorem gX10_voter_X5_addVoter : GoodIn wsX10_voter (wsV RX10 219 RX5 yX5_addVoter wsX5_addVoter) := goodIn_app (goodIn_of _ (by decide +kernel)) ggX10_voter_X5_addVoter
theorem dX10_voter_0 : decode cX10_voter 0 = .ok (.lload_n 1, 1) := by decide +kernel
theorem dX10_voter_1 : decode cX10_voter 1 = .ok (.invokestatic 208, 3) := by decide +kernel
theorem dX10_voter_4 : decode cX10_voter 4 = .ok (.ifCond .eq 18, 3) := by decide +kernel
theorem dX10_voter_7 : decode cX10_voter 7 = .ok (.iload_n 3, 1) := by decide +kernel
theorem dX10_voter_8 : decode cX10_voter 8 = .ok (.invokestatic 212, 3) := by decide +kernel
theorem dX10_voter_11 : decode cX10_voter 11 = .ok (.ifCond .eq 11, 3) := by decide +kernel
theorem dX10_voter_14 : decode cX10_voter 14 = .ok (.iload 4, 2) := by decide +kernel
theorem dX10_voter_16 : decode cX10_voter 16 = .ok (.invokestatic 70, 3) := by decide +kernel
theorem dX10_voter_19 : decode cX10_voter 19 = .ok (.ifCond .ne 5, 3) := by decide +kernel
theorem dX10_voter_22 : decode cX10_voter 22 = .ok (.iconst (-1), 1) := by decide +kernel
theorem dX10_voter_23 : decode cX10_voter 23 = .ok (.ireturn, 1) := by decide +kernel
theorem dX10_voter_24 : decode cX10_voter 24 = .ok (.aload_n 0, 1) := by decide +kernel
theorem dX10_voter_25 : decode cX10_voter 25 = .ok (.getfield 59, 3) := by decide +kernel
theorem dX10_voter_28 : decode cX10_voter 28 = .ok (.lload_n 1, 1) := by decide +kernel
theorem dX10_voter_29 : decode cX10_voter 29 = .ok (.iload_n 3, 1) := by decide +kernel
theorem dX10_voter_30 : decode cX10_voter 30 = .ok (.iload 4, 2) := by decide +kernel
theorem dX10_voter_32 : decode cX10_voter 32 = .ok (.invokevirtual 219, 3) := by decide +kernel
theorem dX10_voter_35 : decode cX10_voter 35 = .ok (.ireturn, 1) := by decide +kernel
set_option maxRecDepth 20000 in
theorem ggX10_likeness_X5_changeThreshold : GoodIn wsX10_likeness wsX5_changeThreshold := goodIn_r _ [6, 7, 18, 19, 20, 21, 22, 23] (by decide +kernel) (by decide +kernel)
set_option maxRecDepth 20000 in
theorem gX10_likeness_X5_changeThreshold : GoodIn wsX10_likeness (wsV RX10 223 RX5 yX5_changeThreshold wsX5_changeThreshold) := goodIn_app (goodIn_of _ (by decide +kernel)) ggX10_likeness_X5_changeThreshold
theorem dX10_likeness_0 : decode cX10_likeness 0 = .ok (.iload_n 1, 1) := by decide +kernel
theorem dX10_likeness_1 : decode cX10_likeness 1 = .ok (.iconst 1, 1) := by decide +kernel
theorem dX10_likeness_2 : decode cX10_likeness 2 = .ok (.if_icmp .lt 9, 3) := by decide +kernel
theorem dX10_likeness_5 : decode cX10_likeness 5 = .ok (.iload_n 1, 1) := by decide +kernel
theorem dX10_likeness_6 : decode cX10_likeness 6 = .ok (.bipush 100, 2) := by decide +kernel
theorem dX10_likeness_8 : decode cX10_likeness 8 = .ok (.if_icmp .le 5, 3) := by decide +kernel
theorem dX10_likeness_11 : decode cX10_likeness 11 = .ok (.iconst (-1), 1) := by decide +kernel
theorem dX10_likeness_12 : decode cX10_likeness 12 = .ok (.ireturn, 1) := by decide +kernel
theorem dX10_likeness_13 : decode cX10_likeness 13 = .ok (.aload_n 0, 1) := by decide +kernel
theorem dX10_likeness_14 : decode cX10_likeness 14 = .ok (.getfield 59, 3) := by decide +kernel
theorem dX10_likeness_17 : decode cX10_likeness 17 = .ok (.iload_n 1, 1) := by decide +kernel
theorem dX10_likeness_18 : decode cX10_likeness 18 = .ok (.invokevirtual 223, 3) := by decide +kernel
theorem dX10_likeness_21 : decode cX10_likeness 21 = .ok (.ireturn, 1) := by decide +kernel
set_option maxRecDepth 20000 in
theorem ggX10_like_X5_hasVoter : GoodIn wsX10_like wsX5_hasVoter := goodIn_r _ [6, 7, 8, 9, 10, 11, 12, 13, 43, 44, 45, 46, 47, 48, 49, 50, 51, 52, 53] (by decide +kernel) (by decide +kernel)
set_option maxRecDepth 20000 in
theorem gX10_like_X5_hasVoter : GoodIn wsX10_like (wsV RX10 226 RX5 yX5_hasVoter wsX5_hasVoter) := goodIn_app (goodIn_of _ (by decide +kernel)) ggX10_like_X5_hasVoter
set_option maxRecDepth 20000 in
theorem ggX10_like_X5_hasListed : GoodIn wsX10_like wsX5_hasListed := goodIn_r _ [17, 18, 8, 9, 10, 11, 12, 13, 43, 44, 45, 46, 47, 48, 49, 50, 51, 52, 53] (by decide +kernel) (by decide +kernel)
set_option maxRecDepth 20000 in
theorem gX10_like_X5_hasListed : GoodIn wsX10_like (wsV RX10 229 RX5 yX5_hasListed wsX5_hasListed) := goodIn_app (goodIn_of _ (by decide +kernel)) ggX10_like_X5_hasListed
set_option maxRecDepth 20000 in
theorem ggX10_like_X5_alikeness : GoodIn wsX10_like wsX5_alikeness := goodIn_r _ [22, 23, 24, 25, 5, 26, 27, 28, 29, 30, 31, 32, 43, 44, 45, 46, 47, 48, 54] (by decide +kernel) (by decide +kernel)
set_option maxRecDepth 20000 in
theorem gX10_like_X5_alikeness : GoodIn wsX10_like (wsV RX10 232 RX5 yX5_alikeness wsX5_alikeness) := goodIn_app (goodIn_of _ (by decide +kernel)) ggX10_like_X5_alikeness
theorem dX10_like_0 : decode cX10_like 0 = .ok (.aload_n 0, 1) := by decide +kernel
theorem dX10_like_1 : decode cX10_like 1 = .ok (.getfield 59, 3) := by decide +kernel
theorem dX10_like_4 : decode cX10_like 4 = .ok (.iload_n 1, 1) := by decide +kernel
theorem dX10_like_5 : decode cX10_like 5 = .ok (.invokevirtual 226, 3) := by decide +kernel
theorem dX10_like_8 : decode cX10_like 8 = .ok (.ifCond .eq 14, 3) := by decide +kernel
theorem dX10_like_11 : decode cX10_like 11 = .ok (.aload_n 0, 1) := by decide +kernel
theorem dX10_like_12 : decode cX10_like 12 = .ok (.getfield 59, 3) := by decide +kernel
theorem dX10_like_15 : decode cX10_like 15 = .ok (.iload_n 2, 1) := by decide +kernel
theorem dX10_like_16 : decode cX10_like 16 = .ok (.invokevirtual 229, 3) := by decide +kernel
theorem dX10_like_19 : decode cX10_like 19 = .ok (.ifCond .ne 5, 3) := by decide +kernel
theorem dX10_like_22 : decode cX10_like 22 = .ok (.iconst (-1), 1) := by decide +kernel
theorem dX10_like_23 : decode cX10_like 23 = .ok (.ireturn, 1) := by decide +kernel
theorem dX10_like_24 : decode cX10_like 24 = .ok (.aload_n 0, 1) := by decide +kernel
theorem dX10_like_25 : decode cX10_like 25 = .ok (.getfield 59, 3) := by decide +kernel
theorem dX10_like_28 : decode cX10_like 28 = .ok (.iload_n 1, 1) := by decide +kernel
theorem dX10_like_29 : decode cX10_like 29 = .ok (.iload_n 2, 1) := by decide +kernel
theorem dX10_like_30 : decode cX10_like 30 = .ok (.invokevirtual 232, 3) := by decide +kernel
theorem dX10_like_33 : decode cX10_like 33 = .ok (.ireturn, 1) := by decide +kernel
set_option maxRecDepth 20000 in
theorem ggX10_struck_X5_hasVoter : GoodIn wsX10_struck wsX5_hasVoter := goodIn_r _ [6, 7, 8, 9, 10, 11, 12, 13, 68, 69, 70, 71, 72, 73, 74, 75, 76, 77, 78] (by decide +kernel) (by decide +kernel)
set_option maxRecDepth 20000 in
theorem gX10_struck_X5_hasVoter : GoodIn wsX10_struck (wsV RX10 226 RX5 yX5_hasVoter wsX5_hasVoter) := goodIn_app (goodIn_of _ (by decide +kernel)) ggX10_struck_X5_hasVoter
set_option maxRecDepth 20000 in
theorem ggX10_struck_X10_isWhat : GoodIn wsX10_struck wsX10_isWhat := goodIn_r _ [17] (by decide +kernel) (by decide +kernel)
set_option maxRecDepth 20000 in
theorem gX10_struck_X10_isWhat : GoodIn wsX10_struck (va_wsS RX10 133 yX10_isWhat wsX10_isWhat) := goodIn_app (goodIn_of _ (by decide +kernel)) ggX10_struck_X10_isWhat
set_option maxRecDepth 20000 in
theorem ggX10_struck_X5_struckAs : GoodIn wsX10_struck wsX5_struckAs := goodIn_r _ [21, 22, 23, 24, 25, 26, 27, 11, 28, 13, 29, 30, 5, 31, 32, 33, 34, 35, 36, 37, 68, 69, 70, 71, 72, 73, 74, 75, 76, 77, 78, 79] (by decide +kernel) (by decide +kernel)
set_option maxRecDepth 20000 in
theorem gX10_struck_X5_struckAs : GoodIn wsX10_struck (wsV RX10 235 RX5 yX5_struckAs wsX5_struckAs) := goodIn_app (goodIn_of _ (by decide +kernel)) ggX10_struck_X5_struckAs
set_option maxRecDepth 20000 in
theorem ggX10_struck_X5_rightness : GoodIn wsX10_struck wsX5_rightness := goodIn_r _ [41, 42, 19, 20, 5, 21, 22, 23, 24, 25, 26, 27, 11, 28, 13, 29, 30, 31, 32, 33, 34, 35, 36, 37, 43, 44, 45, 46, 7, 47, 48, 49, 50, 51, 52, 53, 54, 55, 56, 57, 68, 69, 70, 71, 72, 73, 74, 75, 76, 77, 78, 79] (by decide +kernel) (by decide +kernel)
set_option maxRecDepth 20000 in
theorem gX10_struck_X5_rightness : GoodIn wsX10_struck (wsV RX10 238 RX5 yX5_rightness wsX5_rightness) := goodIn_app (goodIn_of _ (by decide +kernel)) ggX10_struck_X5_rightness
theorem dX10_struck_0 : decode cX10_struck 0 = .ok (.aload_n 0, 1) := by decide +kernel
theorem dX10_struck_1 : decode cX10_struck 1 = .ok (.getfield 59, 3) := by decide +kernel
theorem dX10_struck_4 : decode cX10_struck 4 = .ok (.iload_n 1, 1) := by decide +kernel
theorem dX10_struck_5 : decode cX10_struck 5 = .ok (.invokevirtual 226, 3) := by decide +kernel
theorem dX10_struck_8 : decode cX10_struck 8 = .ok (.ifCond .eq 11, 3) := by decide +kernel
theorem dX10_struck_11 : decode cX10_struck 11 = .ok (.iload_n 2, 1) := by decide +kernel
theorem dX10_struck_12 : decode cX10_struck 12 = .ok (.iconst 2, 1) := by decide +kernel
theorem dX10_struck_13 : decode cX10_struck 13 = .ok (.invokestatic 133, 3) := by decide +kernel
theorem dX10_struck_16 : decode cX10_struck 16 = .ok (.ifCond .ne 5, 3) := by decide +kernel
theorem dX10_struck_19 : decode cX10_struck 19 = .ok (.iconst (-1), 1) := by decide +kernel
theorem dX10_struck_20 : decode cX10_struck 20 = .ok (.ireturn, 1) := by decide +kernel
theorem dX10_struck_21 : decode cX10_struck 21 = .ok (.iload_n 2, 1) := by decide +kernel
theorem dX10_struck_22 : decode cX10_struck 22 = .ok (.ifCond .ne 14, 3) := by decide +kernel
theorem dX10_struck_25 : decode cX10_struck 25 = .ok (.aload_n 0, 1) := by decide +kernel
theorem dX10_struck_26 : decode cX10_struck 26 = .ok (.getfield 59, 3) := by decide +kernel
theorem dX10_struck_29 : decode cX10_struck 29 = .ok (.iload_n 1, 1) := by decide +kernel
theorem dX10_struck_30 : decode cX10_struck 30 = .ok (.invokevirtual 235, 3) := by decide +kernel
theorem dX10_struck_33 : decode cX10_struck 33 = .ok (.goto 11, 3) := by decide +kernel
theorem dX10_struck_36 : decode cX10_struck 36 = .ok (.aload_n 0, 1) := by decide +kernel
theorem dX10_struck_37 : decode cX10_struck 37 = .ok (.getfield 59, 3) := by decide +kernel
theorem dX10_struck_40 : decode cX10_struck 40 = .ok (.iload_n 1, 1) := by decide +kernel
theorem dX10_struck_41 : decode cX10_struck 41 = .ok (.invokevirtual 238, 3) := by decide +kernel
theorem dX10_struck_44 : decode cX10_struck 44 = .ok (.ireturn, 1) := by decide +kernel
set_option maxRecDepth 20000 in
theorem ggX10_strikes_X10_isWhat : GoodIn wsX10_strikes wsX10_isWhat := goodIn_r _ [5] (by decide +kernel) (by decide +kernel)
set_option maxRecDepth 20000 in
theorem gX10_strikes_X10_isWhat : GoodIn wsX10_strikes (va_wsS RX10 133 yX10_isWhat wsX10_isWhat) := goodIn_app (goodIn_of _ (by decide +kernel)) ggX10_strikes_X10_isWhat
set_option maxRecDepth 20000 in
theorem ggX10_strikes_X5_paired : GoodIn wsX10_strikes wsX5_paired := goodIn_r _ [10, 11, 12, 13, 14, 15, 16, 17, 18, 19, 20, 21, 22, 23, 24, 25, 26, 9, 27, 28, 29, 30, 31, 32, 33, 34, 35, 36, 37, 38, 39, 40, 41, 42, 43, 44, 45, 46, 47, 48, 49, 50, 51, 52, 53, 102, 103, 104, 105, 106, 107, 108, 109, 110, 111, 112, 113] (by decide +kernel) (by decide +kernel)
set_option maxRecDepth 20000 in
theorem gX10_strikes_X5_paired : GoodIn wsX10_strikes (wsV RX10 241 RX5 yX5_paired wsX5_paired) := goodIn_app (goodIn_of _ (by decide +kernel)) ggX10_strikes_X5_paired
set_option maxRecDepth 20000 in
theorem ggX10_strikes_X10_isCountyOrAll : GoodIn wsX10_strikes wsX10_isCountyOrAll := goodIn_r _ [56, 57, 58, 4, 59] (by decide +kernel) (by decide +kernel)
set_option maxRecDepth 20000 in
theorem gX10_strikes_X10_isCountyOrAll : GoodIn wsX10_strikes (va_wsS RX10 146 yX10_isCountyOrAll wsX10_isCountyOrAll) := goodIn_app (goodIn_of _ (by decide +kernel)) ggX10_strikes_X10_isCountyOrAll
set_option maxRecDepth 20000 in
theorem ggX10_strikes_X5_struckIn : GoodIn wsX10_strikes wsX5_struckIn := goodIn_r _ [63, 11, 18, 19, 20, 21, 22, 23, 64, 65, 66, 67, 68, 69, 34, 35, 36, 37, 38, 70, 71, 72, 9, 73, 74, 75, 76, 77, 29, 13, 28, 30, 31, 32, 33, 78, 79, 80, 81, 82, 83, 84, 85, 86, 87, 88, 89, 90, 91, 102, 103, 104, 105, 106, 107, 108, 109, 110, 111, 112, 113] (by decide +kernel) (by decide +kernel)
set_option maxRecDepth 20000 in
theorem gX10_strikes_X5_struckIn : GoodIn wsX10_strikes (wsV RX10 244 RX5 yX5_struckIn wsX5_struckIn) := goodIn_app (goodIn_of _ (by decide +kernel)) ggX10_strikes_X5_struckIn
theorem dX10_strikes_0 : decode cX10_strikes 0 = .ok (.iload_n 2, 1) := by decide +kernel
theorem dX10_strikes_1 : decode cX10_strikes 1 = .ok (.iconst 3, 1) := by decide +kernel
theorem dX10_strikes_2 : decode cX10_strikes 2 = .ok (.invokestatic 133, 3) := by decide +kernel
theorem dX10_strikes_5 : decode cX10_strikes 5 = .ok (.ifCond .ne 5, 3) := by decide +kernel
theorem dX10_strikes_8 : decode cX10_strikes 8 = .ok (.iconst (-1), 1) := by decide +kernel
theorem dX10_strikes_9 : decode cX10_strikes 9 = .ok (.ireturn, 1) := by decide +kernel
theorem dX10_strikes_10 : decode cX10_strikes 10 = .ok (.iload_n 2, 1) := by decide +kernel
theorem dX10_strikes_11 : decode cX10_strikes 11 = .ok (.iconst 2, 1) := by decide +kernel
theorem dX10_strikes_12 : decode cX10_strikes 12 = .ok (.if_icmp .ne 11, 3) := by decide +kernel
theorem dX10_strikes_15 : decode cX10_strikes 15 = .ok (.aload_n 0, 1) := by decide +kernel
theorem dX10_strikes_16 : decode cX10_strikes 16 = .ok (.getfield 59, 3) := by decide +kernel
theorem dX10_strikes_19 : decode cX10_strikes 19 = .ok (.invokevirtual 241, 3) := by decide +kernel
theorem dX10_strikes_22 : decode cX10_strikes 22 = .ok (.ireturn, 1) := by decide +kernel
theorem dX10_strikes_23 : decode cX10_strikes 23 = .ok (.iload_n 1, 1) := by decide +kernel
theorem dX10_strikes_24 : decode cX10_strikes 24 = .ok (.invokestatic 146, 3) := by decide +kernel
theorem dX10_strikes_27 : decode cX10_strikes 27 = .ok (.ifCond .ne 5, 3) := by decide +kernel
theorem dX10_strikes_30 : decode cX10_strikes 30 = .ok (.iconst (-1), 1) := by decide +kernel
theorem dX10_strikes_31 : decode cX10_strikes 31 = .ok (.ireturn, 1) := by decide +kernel
theorem dX10_strikes_32 : decode cX10_strikes 32 = .ok (.aload_n 0, 1) := by decide +kernel
theorem dX10_strikes_33 : decode cX10_strikes 33 = .ok (.getfield 59, 3) := by decide +kernel
theorem dX10_strikes_36 : decode cX10_strikes 36 = .ok (.iload_n 1, 1) := by decide +kernel
theorem dX10_strikes_37 : decode cX10_strikes 37 = .ok (.iload_n 2, 1) := by decide +kernel
theorem dX10_strikes_38 : decode cX10_strikes 38 = .ok (.iconst 1, 1) := by decide +kernel
theorem dX10_strikes_39 : decode cX10_strikes 39 = .ok (.if_icmp .ne 7, 3) := by decide +kernel
theorem dX10_strikes_42 : decode cX10_strikes 42 = .ok (.iconst 1, 1) := by decide +kernel
theorem dX10_strikes_43 : decode cX10_strikes 43 = .ok (.goto 4, 3) := by decide +kernel
theorem dX10_strikes_46 : decode cX10_strikes 46 = .ok (.iconst 0, 1) := by decide +kernel
theorem dX10_strikes_47 : decode cX10_strikes 47 = .ok (.invokevirtual 244, 3) := by decide +kernel
theorem dX10_strikes_50 : decode cX10_strikes 50 = .ok (.ireturn, 1) := by decide +kernel
set_option maxRecDepth 20000 in
theorem ggX10_boxes_X10_isCounty : GoodIn wsX10_boxes wsX10_isCounty := goodIn_r _ [5] (by decide +kernel) (by decide +kernel)
set_option maxRecDepth 20000 in
theorem gX10_boxes_X10_isCounty : GoodIn wsX10_boxes (va_wsS RX10 70 yX10_isCounty wsX10_isCounty) := goodIn_app (goodIn_of _ (by decide +kernel)) ggX10_boxes_X10_isCounty
set_option maxRecDepth 20000 in
theorem ggX10_boxes_X10_isWhat : GoodIn wsX10_boxes wsX10_isWhat := goodIn_r _ [8] (by decide +kernel) (by decide +kernel)
set_option maxRecDepth 20000 in
theorem gX10_boxes_X10_isWhat : GoodIn wsX10_boxes (va_wsS RX10 133 yX10_isWhat wsX10_isWhat) := goodIn_app (goodIn_of _ (by decide +kernel)) ggX10_boxes_X10_isWhat
set_option maxRecDepth 20000 in
theorem ggX10_boxes_X7_changeHeaps : GoodIn wsX10_boxes wsX7_changeHeaps := goodIn_r _ [13, 14, 15, 16, 17, 18, 19, 20, 21, 22, 23, 24, 40, 41, 42, 43, 44, 45, 46, 47] (by decide +kernel) (by decide +kernel)
set_option maxRecDepth 20000 in
theorem gX10_boxes_X7_changeHeaps : GoodIn wsX10_boxes (wsV RX10 248 RX7 yX7_changeHeaps wsX7_changeHeaps) := goodIn_app (goodIn_of _ (by decide +kernel)) ggX10_boxes_X7_changeHeaps
set_option maxRecDepth 20000 in
theorem ggX10_boxes_X7_changeSpeed : GoodIn wsX10_boxes wsX7_changeSpeed := goodIn_r _ [28, 29, 15, 16, 17, 18, 19, 20, 21, 22, 23, 24, 40, 41, 42, 43, 44, 45, 46, 47] (by decide +kernel) (by decide +kernel)
set_option maxRecDepth 20000 in
theorem gX10_boxes_X7_changeSpeed : GoodIn wsX10_boxes (wsV RX10 251 RX7 yX7_changeSpeed wsX7_changeSpeed) := goodIn_app (goodIn_of _ (by decide +kernel)) ggX10_boxes_X7_changeSpeed
theorem dX10_boxes_0 : decode cX10_boxes 0 = .ok (.iload_n 1, 1) := by decide +kernel
theorem dX10_boxes_1 : decode cX10_boxes 1 = .ok (.invokestatic 70, 3) := by decide +kernel
theorem dX10_boxes_4 : decode cX10_boxes 4 = .ok (.ifCond .eq 11, 3) := by decide +kernel
theorem dX10_boxes_7 : decode cX10_boxes 7 = .ok (.iload_n 2, 1) := by decide +kernel
theorem dX10_boxes_8 : decode cX10_boxes 8 = .ok (.iconst 2, 1) := by decide +kernel
theorem dX10_boxes_9 : decode cX10_boxes 9 = .ok (.invokestatic 133, 3) := by decide +kernel
theorem dX10_boxes_12 : decode cX10_boxes 12 = .ok (.ifCond .ne 5, 3) := by decide +kernel
theorem dX10_boxes_15 : decode cX10_boxes 15 = .ok (.iconst (-1), 1) := by decide +kernel
theorem dX10_boxes_16 : decode cX10_boxes 16 = .ok (.ireturn, 1) := by decide +kernel
theorem dX10_boxes_17 : decode cX10_boxes 17 = .ok (.iload_n 2, 1) := by decide +kernel
theorem dX10_boxes_18 : decode cX10_boxes 18 = .ok (.ifCond .ne 28, 3) := by decide +kernel
theorem dX10_boxes_21 : decode cX10_boxes 21 = .ok (.iload_n 3, 1) := by decide +kernel
theorem dX10_boxes_22 : decode cX10_boxes 22 = .ok (.ifCond .lt 10, 3) := by decide +kernel
theorem dX10_boxes_25 : decode cX10_boxes 25 = .ok (.iload_n 3, 1) := by decide +kernel
theorem dX10_boxes_26 : decode cX10_boxes 26 = .ok (.sipush 500, 3) := by decide +kernel
theorem dX10_boxes_29 : decode cX10_boxes 29 = .ok (.if_icmp .le 7, 3) := by decide +kernel
theorem dX10_boxes_32 : decode cX10_boxes 32 = .ok (.iconst (-1), 1) := by decide +kernel
theorem dX10_boxes_33 : decode cX10_boxes 33 = .ok (.goto 12, 3) := by decide +kernel
theorem dX10_boxes_36 : decode cX10_boxes 36 = .ok (.aload_n 0, 1) := by decide +kernel
theorem dX10_boxes_37 : decode cX10_boxes 37 = .ok (.getfield 66, 3) := by decide +kernel
theorem dX10_boxes_40 : decode cX10_boxes 40 = .ok (.iload_n 1, 1) := by decide +kernel
theorem dX10_boxes_41 : decode cX10_boxes 41 = .ok (.iload_n 3, 1) := by decide +kernel
theorem dX10_boxes_42 : decode cX10_boxes 42 = .ok (.invokevirtual 248, 3) := by decide +kernel
theorem dX10_boxes_45 : decode cX10_boxes 45 = .ok (.ireturn, 1) := by decide +kernel
theorem dX10_boxes_46 : decode cX10_boxes 46 = .ok (.iload_n 3, 1) := by decide +kernel
theorem dX10_boxes_47 : decode cX10_boxes 47 = .ok (.iconst 1, 1) := by decide +kernel
theorem dX10_boxes_48 : decode cX10_boxes 48 = .ok (.if_icmp .lt 9, 3) := by decide +kernel
theorem dX10_boxes_51 : decode cX10_boxes 51 = .ok (.iload_n 3, 1) := by decide +kernel
theorem dX10_boxes_52 : decode cX10_boxes 52 = .ok (.bipush 50, 2) := by decide +kernel
theorem dX10_boxes_54 : decode cX10_boxes 54 = .ok (.if_icmp .le 7, 3) := by decide +kernel
theorem dX10_boxes_57 : decode cX10_boxes 57 = .ok (.iconst (-1), 1) := by decide +kernel
theorem dX10_boxes_58 : decode cX10_boxes 58 = .ok (.goto 12, 3) := by decide +kernel
theorem dX10_boxes_61 : decode cX10_boxes 61 = .ok (.aload_n 0, 1) := by decide +kernel
theorem dX10_boxes_62 : decode cX10_boxes 62 = .ok (.getfield 66, 3) := by decide +kernel
theorem dX10_boxes_65 : decode cX10_boxes 65 = .ok (.iload_n 1, 1) := by decide +kernel
theorem dX10_boxes_66 : decode cX10_boxes 66 = .ok (.iload_n 3, 1) := by decide +kernel
theorem dX10_boxes_67 : decode cX10_boxes 67 = .ok (.invokevirtual 251, 3) := by decide +kernel
theorem dX10_boxes_70 : decode cX10_boxes 70 = .ok (.ireturn, 1) := by decide +kernel
set_option maxRecDepth 20000 in
theorem ggX10_could_X10_isSpan : GoodIn wsX10_could wsX10_isSpan := goodIn_r _ [5, 6, 7, 4, 8] (by decide +kernel) (by decide +kernel)
set_option maxRecDepth 20000 in
theorem gX10_could_X10_isSpan : GoodIn wsX10_could (va_wsS RX10 254 yX10_isSpan wsX10_isSpan) := goodIn_app (goodIn_of _ (by decide +kernel)) ggX10_could_X10_isSpan
set_option maxRecDepth 20000 in
theorem ggX10_could_X10_isHands : GoodIn wsX10_could wsX10_isHands := goodIn_r _ [11] (by decide +kernel) (by decide +kernel)
set_option maxRecDepth 20000 in
theorem gX10_could_X10_isHands : GoodIn wsX10_could (va_wsS RX10 257 yX10_isHands wsX10_isHands) := goodIn_app (goodIn_of _ (by decide +kernel)) ggX10_could_X10_isHands
set_option maxRecDepth 20000 in
theorem ggX10_could_X7_handsNeeded : GoodIn wsX10_could wsX7_handsNeeded := goodIn_r _ [16, 17, 18, 19, 20, 21, 22, 23, 15, 24, 25, 26, 27, 28, 29, 30, 31, 32, 33, 34, 35, 36, 37, 38, 39, 40, 41, 42, 43, 44, 45, 46, 47, 48, 49, 50, 4, 51, 52, 53, 54, 55, 56, 57, 58, 59, 60, 61, 62, 63, 64, 65, 76, 77, 78, 79, 80, 81, 82, 83] (by decide +kernel) (by decide +kernel)
set_option maxRecDepth 20000 in
theorem gX10_could_X7_handsNeeded : GoodIn wsX10_could (wsV RX10 260 RX7 yX7_handsNeeded wsX7_handsNeeded) := goodIn_app (goodIn_of _ (by decide +kernel)) ggX10_could_X7_handsNeeded
theorem dX10_could_0 : decode cX10_could 0 = .ok (.iload_n 1, 1) := by decide +kernel
theorem dX10_could_1 : decode cX10_could 1 = .ok (.iload_n 2, 1) := by decide +kernel
theorem dX10_could_2 : decode cX10_could 2 = .ok (.invokestatic 254, 3) := by decide +kernel
theorem dX10_could_5 : decode cX10_could 5 = .ok (.ifCond .eq 10, 3) := by decide +kernel
theorem dX10_could_8 : decode cX10_could 8 = .ok (.iload_n 3, 1) := by decide +kernel
theorem dX10_could_9 : decode cX10_could 9 = .ok (.invokestatic 257, 3) := by decide +kernel
theorem dX10_could_12 : decode cX10_could 12 = .ok (.ifCond .ne 5, 3) := by decide +kernel
theorem dX10_could_15 : decode cX10_could 15 = .ok (.iconst (-1), 1) := by decide +kernel
theorem dX10_could_16 : decode cX10_could 16 = .ok (.ireturn, 1) := by decide +kernel
theorem dX10_could_17 : decode cX10_could 17 = .ok (.aload_n 0, 1) := by decide +kernel
theorem dX10_could_18 : decode cX10_could 18 = .ok (.getfield 66, 3) := by decide +kernel
theorem dX10_could_21 : decode cX10_could 21 = .ok (.iload_n 1, 1) := by decide +kernel
theorem dX10_could_22 : decode cX10_could 22 = .ok (.iload_n 2, 1) := by decide +kernel
theorem dX10_could_23 : decode cX10_could 23 = .ok (.invokevirtual 260, 3) := by decide +kernel
theorem dX10_could_26 : decode cX10_could 26 = .ok (.iload_n 3, 1) := by decide +kernel
theorem dX10_could_27 : decode cX10_could 27 = .ok (.if_icmp .gt 7, 3) := by decide +kernel
theorem dX10_could_30 : decode cX10_could 30 = .ok (.iconst 1, 1) := by decide +kernel
theorem dX10_could_31 : decode cX10_could 31 = .ok (.goto 4, 3) := by decide +kernel
theorem dX10_could_34 : decode cX10_could 34 = .ok (.iconst 0, 1) := by decide +kernel
theorem dX10_could_35 : decode cX10_could 35 = .ok (.ireturn, 1) := by decide +kernel
set_option maxRecDepth 20000 in
theorem ggX10_hands_X10_isSpan : GoodIn wsX10_hands wsX10_isSpan := goodIn_r _ [5, 6, 7, 4, 8] (by decide +kernel) (by decide +kernel)
set_option maxRecDepth 20000 in
theorem gX10_hands_X10_isSpan : GoodIn wsX10_hands (va_wsS RX10 254 yX10_isSpan wsX10_isSpan) := goodIn_app (goodIn_of _ (by decide +kernel)) ggX10_hands_X10_isSpan
set_option maxRecDepth 20000 in
theorem ggX10_hands_X7_handsNeeded : GoodIn wsX10_hands wsX7_handsNeeded := goodIn_r _ [13, 14, 15, 16, 17, 18, 19, 20, 12, 21, 22, 23, 24, 25, 26, 27, 28, 29, 30, 31, 32, 33, 34, 35, 36, 37, 38, 39, 40, 41, 42, 43, 44, 45, 46, 47, 4, 48, 49, 50, 51, 52, 53, 54, 55, 56, 57, 58, 59, 60, 61, 62, 73, 74, 75, 76, 77, 78, 79, 80] (by decide +kernel) (by decide +kernel)
set_option maxRecDepth 20000 in
theorem gX10_hands_X7_handsNeeded : GoodIn wsX10_hands (wsV RX10 260 RX7 yX7_handsNeeded wsX7_handsNeeded) := goodIn_app (goodIn_of _ (by decide +kernel)) ggX10_hands_X7_handsNeeded
theorem dX10_hands_0 : decode cX10_hands 0 = .ok (.iload_n 1, 1) := by decide +kernel
theorem dX10_hands_1 : decode cX10_hands 1 = .ok (.iload_n 2, 1) := by decide +kernel
theorem dX10_hands_2 : decode cX10_hands 2 = .ok (.invokestatic 254, 3) := by decide +kernel
theorem dX10_hands_5 : decode cX10_hands 5 = .ok (.ifCond .ne 5, 3) := by decide +kernel
theorem dX10_hands_8 : decode cX10_hands 8 = .ok (.iconst (-1), 1) := by decide +kernel
theorem dX10_hands_9 : decode cX10_hands 9 = .ok (.ireturn, 1) := by decide +kernel
theorem dX10_hands_10 : decode cX10_hands 10 = .ok (.aload_n 0, 1) := by decide +kernel
theorem dX10_hands_11 : decode cX10_hands 11 = .ok (.getfield 66, 3) := by decide +kernel
theorem dX10_hands_14 : decode cX10_hands 14 = .ok (.iload_n 1, 1) := by decide +kernel
theorem dX10_hands_15 : decode cX10_hands 15 = .ok (.iload_n 2, 1) := by decide +kernel
theorem dX10_hands_16 : decode cX10_hands 16 = .ok (.invokevirtual 260, 3) := by decide +kernel
theorem dX10_hands_19 : decode cX10_hands 19 = .ok (.istore_n 3, 1) := by decide +kernel
theorem dX10_hands_20 : decode cX10_hands 20 = .ok (.iload_n 3, 1) := by decide +kernel
theorem dX10_hands_21 : decode cX10_hands 21 = .ok (.bipush 20, 2) := by decide +kernel
theorem dX10_hands_23 : decode cX10_hands 23 = .ok (.if_icmp .le 8, 3) := by decide +kernel
theorem dX10_hands_26 : decode cX10_hands 26 = .ok (.bipush (-4), 2) := by decide +kernel
theorem dX10_hands_28 : decode cX10_hands 28 = .ok (.goto 4, 3) := by decide +kernel
theorem dX10_hands_31 : decode cX10_hands 31 = .ok (.iload_n 3, 1) := by decide +kernel
theorem dX10_hands_32 : decode cX10_hands 32 = .ok (.ireturn, 1) := by decide +kernel
set_option maxRecDepth 20000 in
theorem ggX10_soonest_X10_isHour : GoodIn wsX10_soonest wsX10_isHour := goodIn_r _ [5] (by decide +kernel) (by decide +kernel)
set_option maxRecDepth 20000 in
theorem gX10_soonest_X10_isHour : GoodIn wsX10_soonest (va_wsS RX10 97 yX10_isHour wsX10_isHour) := goodIn_app (goodIn_of _ (by decide +kernel)) ggX10_soonest_X10_isHour
set_option maxRecDepth 20000 in
theorem ggX10_soonest_X10_isHands : GoodIn wsX10_soonest wsX10_isHands := goodIn_r _ [8] (by decide +kernel) (by decide +kernel)
set_option maxRecDepth 20000 in
theorem gX10_soonest_X10_isHands : GoodIn wsX10_soonest (va_wsS RX10 257 yX10_isHands wsX10_isHands) := goodIn_app (goodIn_of _ (by decide +kernel)) ggX10_soonest_X10_isHands
set_option maxRecDepth 20000 in
theorem ggX10_soonest_X7_earliestEnd : GoodIn wsX10_soonest wsX7_earliestEnd := goodIn_r _ [13, 14, 15, 16, 12, 17, 18, 19, 20, 21, 22, 23, 24, 25, 26, 27, 28, 29, 30, 31, 32, 33, 34, 35, 36, 37, 38, 39, 40, 41, 42, 43, 44, 45, 46, 47, 48, 49, 50, 51, 4, 52, 53, 54, 55, 56, 57, 58, 59, 60, 61, 62, 63, 64, 65, 66, 77, 78, 79, 80, 81, 82, 83, 84] (by decide +kernel) (by decide +kernel)
set_option maxRecDepth 20000 in
theorem gX10_soonest_X7_earliestEnd : GoodIn wsX10_soonest (wsV RX10 263 RX7 yX7_earliestEnd wsX7_earliestEnd) := goodIn_app (goodIn_of _ (by decide +kernel)) ggX10_soonest_X7_earliestEnd
theorem dX10_soonest_0 : decode cX10_soonest 0 = .ok (.iload_n 1, 1) := by decide +kernel
theorem dX10_soonest_1 : decode cX10_soonest 1 = .ok (.invokestatic 97, 3) := by decide +kernel
theorem dX10_soonest_4 : decode cX10_soonest 4 = .ok (.ifCond .eq 10, 3) := by decide +kernel
theorem dX10_soonest_7 : decode cX10_soonest 7 = .ok (.iload_n 2, 1) := by decide +kernel
theorem dX10_soonest_8 : decode cX10_soonest 8 = .ok (.invokestatic 257, 3) := by decide +kernel
theorem dX10_soonest_11 : decode cX10_soonest 11 = .ok (.ifCond .ne 5, 3) := by decide +kernel
theorem dX10_soonest_14 : decode cX10_soonest 14 = .ok (.iconst (-1), 1) := by decide +kernel
theorem dX10_soonest_15 : decode cX10_soonest 15 = .ok (.ireturn, 1) := by decide +kernel
theorem dX10_soonest_16 : decode cX10_soonest 16 = .ok (.aload_n 0, 1) := by decide +kernel
theorem dX10_soonest_17 : decode cX10_soonest 17 = .ok (.getfield 66, 3) := by decide +kernel
theorem dX10_soonest_20 : decode cX10_soonest 20 = .ok (.iload_n 1, 1) := by decide +kernel
theorem dX10_soonest_21 : decode cX10_soonest 21 = .ok (.iload_n 2, 1) := by decide +kernel
theorem dX10_soonest_22 : decode cX10_soonest 22 = .ok (.invokevirtual 263, 3) := by decide +kernel
theorem dX10_soonest_25 : decode cX10_soonest 25 = .ok (.ireturn, 1) := by decide +kernel
set_option maxRecDepth 20000 in
theorem ggX10_table_X10_isSpan : GoodIn wsX10_table wsX10_isSpan := goodIn_r _ [5, 6, 7, 4, 8] (by decide +kernel) (by decide +kernel)
set_option maxRecDepth 20000 in
theorem gX10_table_X10_isSpan : GoodIn wsX10_table (va_wsS RX10 254 yX10_isSpan wsX10_isSpan) := goodIn_app (goodIn_of _ (by decide +kernel)) ggX10_table_X10_isSpan
set_option maxRecDepth 20000 in
theorem ggX10_table_X10_isHands : GoodIn wsX10_table wsX10_isHands := goodIn_r _ [11] (by decide +kernel) (by decide +kernel)
set_option maxRecDepth 20000 in
theorem gX10_table_X10_isHands : GoodIn wsX10_table (va_wsS RX10 257 yX10_isHands wsX10_isHands) := goodIn_app (goodIn_of _ (by decide +kernel)) ggX10_table_X10_isHands
set_option maxRecDepth 20000 in
theorem ggX10_table_X10_isCounty : GoodIn wsX10_table wsX10_isCounty := goodIn_r _ [14] (by decide +kernel) (by decide +kernel)
set_option maxRecDepth 20000 in
theorem gX10_table_X10_isCounty : GoodIn wsX10_table (va_wsS RX10 70 yX10_isCounty wsX10_isCounty) := goodIn_app (goodIn_of _ (by decide +kernel)) ggX10_table_X10_isCounty
set_option maxRecDepth 20000 in
theorem ggX10_table_X7_work : GoodIn wsX10_table wsX7_work := goodIn_r _ [19, 20, 21, 22, 23, 24, 18, 25, 26, 27, 28, 29, 30, 31, 32, 33, 34, 35, 36, 37, 38, 39, 40, 41, 42, 43, 44, 45, 46, 47, 48, 49, 50, 51, 4, 52, 53, 54, 55, 56, 57, 58, 59, 60, 61, 62, 63, 64, 65, 66, 67, 68, 69, 70, 71, 72, 73, 74, 75, 90, 91, 92, 93, 94, 95, 96, 97] (by decide +kernel) (by decide +kernel)
set_option maxRecDepth 20000 in
theorem gX10_table_X7_work : GoodIn wsX10_table (wsV RX10 266 RX7 yX7_work wsX7_work) := goodIn_app (goodIn_of _ (by decide +kernel)) ggX10_table_X7_work
set_option maxRecDepth 20000 in
theorem ggX10_table_X7_placedIn : GoodIn wsX10_table wsX7_placedIn := goodIn_r _ [79, 57, 28, 29, 30, 31, 32, 33, 90, 91, 92, 93, 94, 95, 96, 97] (by decide +kernel) (by decide +kernel)
set_option maxRecDepth 20000 in
theorem gX10_table_X7_placedIn : GoodIn wsX10_table (wsV RX10 270 RX7 yX7_placedIn wsX7_placedIn) := goodIn_app (goodIn_of _ (by decide +kernel)) ggX10_table_X7_placedIn
theorem dX10_table_0 : decode cX10_table 0 = .ok (.iload_n 1, 1) := by decide +kernel
theorem dX10_table_1 : decode cX10_table 1 = .ok (.iload_n 2, 1) := by decide +kernel
theorem dX10_table_2 : decode cX10_table 2 = .ok (.invokestatic 254, 3) := by decide +kernel
theorem dX10_table_5 : decode cX10_table 5 = .ok (.ifCond .eq 30, 3) := by decide +kernel
theorem dX10_table_8 : decode cX10_table 8 = .ok (.iload_n 3, 1) := by decide +kernel
theorem dX10_table_9 : decode cX10_table 9 = .ok (.invokestatic 257, 3) := by decide +kernel
theorem dX10_table_12 : decode cX10_table 12 = .ok (.ifCond .eq 23, 3) := by decide +kernel
theorem dX10_table_15 : decode cX10_table 15 = .ok (.iload 4, 2) := by decide +kernel
theorem dX10_table_17 : decode cX10_table 17 = .ok (.iload_n 1, 1) := by decide +kernel
theorem dX10_table_18 : decode cX10_table 18 = .ok (.if_icmp .lt 17, 3) := by decide +kernel
theorem dX10_table_21 : decode cX10_table 21 = .ok (.iload 4, 2) := by decide +kernel
theorem dX10_table_23 : decode cX10_table 23 = .ok (.iload_n 2, 1) := by decide +kernel
theorem dX10_table_24 : decode cX10_table 24 = .ok (.if_icmp .ge 11, 3) := by decide +kernel
theorem dX10_table_27 : decode cX10_table 27 = .ok (.iload 5, 2) := by decide +kernel
theorem dX10_table_29 : decode cX10_table 29 = .ok (.invokestatic 70, 3) := by decide +kernel
theorem dX10_table_32 : decode cX10_table 32 = .ok (.ifCond .ne 5, 3) := by decide +kernel
theorem dX10_table_35 : decode cX10_table 35 = .ok (.iconst (-1), 1) := by decide +kernel
theorem dX10_table_36 : decode cX10_table 36 = .ok (.ireturn, 1) := by decide +kernel
theorem dX10_table_37 : decode cX10_table 37 = .ok (.aload_n 0, 1) := by decide +kernel
theorem dX10_table_38 : decode cX10_table 38 = .ok (.getfield 66, 3) := by decide +kernel
theorem dX10_table_41 : decode cX10_table 41 = .ok (.iload_n 1, 1) := by decide +kernel
theorem dX10_table_42 : decode cX10_table 42 = .ok (.iload_n 2, 1) := by decide +kernel
theorem dX10_table_43 : decode cX10_table 43 = .ok (.iload_n 3, 1) := by decide +kernel
theorem dX10_table_44 : decode cX10_table 44 = .ok (.iload 4, 2) := by decide +kernel
theorem dX10_table_46 : decode cX10_table 46 = .ok (.iconst 1, 1) := by decide +kernel
theorem dX10_table_47 : decode cX10_table 47 = .ok (.iadd, 1) := by decide +kernel
theorem dX10_table_48 : decode cX10_table 48 = .ok (.invokevirtual 266, 3) := by decide +kernel
theorem dX10_table_51 : decode cX10_table 51 = .ok (.aload_n 0, 1) := by decide +kernel
theorem dX10_table_52 : decode cX10_table 52 = .ok (.getfield 66, 3) := by decide +kernel
theorem dX10_table_55 : decode cX10_table 55 = .ok (.iload 5, 2) := by decide +kernel
theorem dX10_table_57 : decode cX10_table 57 = .ok (.invokevirtual 270, 3) := by decide +kernel
theorem dX10_table_60 : decode cX10_table 60 = .ok (.ireturn, 1) := by decide +kernel
set_option maxRecDepth 20000 in
theorem ggX10_left_X10_isSpan : GoodIn wsX10_left wsX10_isSpan := goodIn_r _ [5, 6, 7, 4, 8] (by decide +kernel) (by decide +kernel)
set_option maxRecDepth 20000 in
theorem gX10_left_X10_isSpan : GoodIn wsX10_left (va_wsS RX10 254 yX10_isSpan wsX10_isSpan) := goodIn_app (goodIn_of _ (by decide +kernel)) ggX10_left_X10_isSpan
set_option maxRecDepth 20000 in
theorem ggX10_left_X10_isHands : GoodIn wsX10_left wsX10_isHands := goodIn_r _ [11] (by decide +kernel) (by decide +kernel)
set_option maxRecDepth 20000 in
theorem gX10_left_X10_isHands : GoodIn wsX10_left (va_wsS RX10 257 yX10_isHands wsX10_isHands) := goodIn_app (goodIn_of _ (by decide +kernel)) ggX10_left_X10_isHands
set_option maxRecDepth 20000 in
theorem ggX10_left_X7_work : GoodIn wsX10_left wsX7_work := goodIn_r _ [16, 17, 18, 19, 20, 21, 15, 22, 23, 24, 25, 26, 27, 28, 29, 30, 31, 32, 33, 34, 35, 36, 37, 38, 39, 40, 41, 42, 43, 44, 45, 46, 47, 48, 4, 49, 50, 51, 52, 53, 54, 55, 56, 57, 58, 59, 60, 61, 62, 63, 64, 65, 66, 67, 68, 69, 70, 71, 72, 87, 88, 89, 90, 91, 92, 93, 94] (by decide +kernel) (by decide +kernel)
set_option maxRecDepth 20000 in
theorem gX10_left_X7_work : GoodIn wsX10_left (wsV RX10 266 RX7 yX7_work wsX7_work) := goodIn_app (goodIn_of _ (by decide +kernel)) ggX10_left_X7_work
set_option maxRecDepth 20000 in
theorem ggX10_left_X7_allTodo : GoodIn wsX10_left wsX7_allTodo := goodIn_r _ [76, 17, 25, 26, 27, 28, 29, 30, 87, 88, 89, 90, 91, 92, 93, 94] (by decide +kernel) (by decide +kernel)
set_option maxRecDepth 20000 in
theorem gX10_left_X7_allTodo : GoodIn wsX10_left (wsV RX10 273 RX7 yX7_allTodo wsX7_allTodo) := goodIn_app (goodIn_of _ (by decide +kernel)) ggX10_left_X7_allTodo
theorem dX10_left_0 : decode cX10_left 0 = .ok (.iload_n 1, 1) := by decide +kernel
theorem dX10_left_1 : decode cX10_left 1 = .ok (.iload_n 2, 1) := by decide +kernel
theorem dX10_left_2 : decode cX10_left 2 = .ok (.invokestatic 254, 3) := by decide +kernel
theorem dX10_left_5 : decode cX10_left 5 = .ok (.ifCond .eq 10, 3) := by decide +kernel
theorem dX10_left_8 : decode cX10_left 8 = .ok (.iload_n 3, 1) := by decide +kernel
theorem dX10_left_9 : decode cX10_left 9 = .ok (.invokestatic 257, 3) := by decide +kernel
theorem dX10_left_12 : decode cX10_left 12 = .ok (.ifCond .ne 5, 3) := by decide +kernel
theorem dX10_left_15 : decode cX10_left 15 = .ok (.iconst (-1), 1) := by decide +kernel
theorem dX10_left_16 : decode cX10_left 16 = .ok (.ireturn, 1) := by decide +kernel
theorem dX10_left_17 : decode cX10_left 17 = .ok (.aload_n 0, 1) := by decide +kernel
theorem dX10_left_18 : decode cX10_left 18 = .ok (.getfield 66, 3) := by decide +kernel
theorem dX10_left_21 : decode cX10_left 21 = .ok (.iload_n 1, 1) := by decide +kernel
theorem dX10_left_22 : decode cX10_left 22 = .ok (.iload_n 2, 1) := by decide +kernel
theorem dX10_left_23 : decode cX10_left 23 = .ok (.iload_n 3, 1) := by decide +kernel
theorem dX10_left_24 : decode cX10_left 24 = .ok (.iload_n 2, 1) := by decide +kernel
theorem dX10_left_25 : decode cX10_left 25 = .ok (.invokevirtual 266, 3) := by decide +kernel
theorem dX10_left_28 : decode cX10_left 28 = .ok (.aload_n 0, 1) := by decide +kernel
theorem dX10_left_29 : decode cX10_left 29 = .ok (.getfield 66, 3) := by decide +kernel
theorem dX10_left_32 : decode cX10_left 32 = .ok (.invokevirtual 273, 3) := by decide +kernel
theorem dX10_left_35 : decode cX10_left 35 = .ok (.ireturn, 1) := by decide +kernel
set_option maxRecDepth 20000 in
theorem ggX10_keep_X10_keptAt : GoodIn wsX10_keep wsX10_keptAt := goodIn_r _ [7, 8, 9, 28, 29, 30, 31, 32, 33, 34, 35, 36, 37] (by decide +kernel) (by decide +kernel)
set_option maxRecDepth 20000 in
theorem gX10_keep_X10_keptAt : GoodIn wsX10_keep (wsV RX10 276 RX10 yX10_keptAt wsX10_keptAt) := goodIn_app (goodIn_of _ (by decide +kernel)) ggX10_keep_X10_keptAt
set_option maxRecDepth 20000 in
theorem ggX10_keep_X3_copy : GoodIn wsX10_keep wsX3_copy := goodIn_r _ [14, 15, 16, 17, 18, 19, 20, 21, 22, 23, 24, 25, 26, 27, 38, 39, 40, 41] (by decide +kernel) (by decide +kernel)
set_option maxRecDepth 20000 in
theorem gX10_keep_X3_copy : GoodIn wsX10_keep (wsV RX10 280 RX3 yX3_copy wsX3_copy) := goodIn_app (goodIn_of _ (by decide +kernel)) ggX10_keep_X3_copy
theorem dX10_keep_0 : decode cX10_keep 0 = .ok (.aload_n 0, 1) := by decide +kernel
theorem dX10_keep_1 : decode cX10_keep 1 = .ok (.getfield 22, 3) := by decide +kernel
theorem dX10_keep_4 : decode cX10_keep 4 = .ok (.iconst 2, 1) := by decide +kernel
theorem dX10_keep_5 : decode cX10_keep 5 = .ok (.if_icmp .lt 6, 3) := by decide +kernel
theorem dX10_keep_8 : decode cX10_keep 8 = .ok (.bipush (-3), 2) := by decide +kernel
theorem dX10_keep_10 : decode cX10_keep 10 = .ok (.ireturn, 1) := by decide +kernel
theorem dX10_keep_11 : decode cX10_keep 11 = .ok (.aload_n 0, 1) := by decide +kernel
theorem dX10_keep_12 : decode cX10_keep 12 = .ok (.aload_n 0, 1) := by decide +kernel
theorem dX10_keep_13 : decode cX10_keep 13 = .ok (.getfield 22, 3) := by decide +kernel
theorem dX10_keep_16 : decode cX10_keep 16 = .ok (.invokevirtual 276, 3) := by decide +kernel
theorem dX10_keep_19 : decode cX10_keep 19 = .ok (.aload_n 0, 1) := by decide +kernel
theorem dX10_keep_20 : decode cX10_keep 20 = .ok (.getfield 12, 3) := by decide +kernel
theorem dX10_keep_23 : decode cX10_keep 23 = .ok (.invokevirtual 280, 3) := by decide +kernel
theorem dX10_keep_26 : decode cX10_keep 26 = .ok (.aload_n 0, 1) := by decide +kernel
theorem dX10_keep_27 : decode cX10_keep 27 = .ok (.dup, 1) := by decide +kernel
theorem dX10_keep_28 : decode cX10_keep 28 = .ok (.getfield 22, 3) := by decide +kernel
theorem dX10_keep_31 : decode cX10_keep 31 = .ok (.iconst 1, 1) := by decide +kernel
theorem dX10_keep_32 : decode cX10_keep 32 = .ok (.iadd, 1) := by decide +kernel
theorem dX10_keep_33 : decode cX10_keep 33 = .ok (.putfield 22, 3) := by decide +kernel
theorem dX10_keep_36 : decode cX10_keep 36 = .ok (.aload_n 0, 1) := by decide +kernel
theorem dX10_keep_37 : decode cX10_keep 37 = .ok (.getfield 22, 3) := by decide +kernel
theorem dX10_keep_40 : decode cX10_keep 40 = .ok (.ireturn, 1) := by decide +kernel
set_option maxRecDepth 20000 in
theorem ggX10_back_X10_keptAt : GoodIn wsX10_back wsX10_keptAt := goodIn_r _ [7, 8, 9, 28, 29, 30, 31, 32, 33, 34, 35, 36, 37] (by decide +kernel) (by decide +kernel)
set_option maxRecDepth 20000 in
theorem gX10_back_X10_keptAt : GoodIn wsX10_back (wsV RX10 276 RX10 yX10_keptAt wsX10_keptAt) := goodIn_app (goodIn_of _ (by decide +kernel)) ggX10_back_X10_keptAt
set_option maxRecDepth 20000 in
theorem ggX10_back_X3_copy : GoodIn wsX10_back wsX3_copy := goodIn_r _ [14, 15, 16, 17, 18, 19, 20, 21, 22, 23, 24, 25, 26, 27, 38, 39, 40, 41] (by decide +kernel) (by decide +kernel)
set_option maxRecDepth 20000 in
theorem gX10_back_X3_copy : GoodIn wsX10_back (wsV RX10 280 RX3 yX3_copy wsX3_copy) := goodIn_app (goodIn_of _ (by decide +kernel)) ggX10_back_X3_copy
theorem dX10_back_0 : decode cX10_back 0 = .ok (.aload_n 0, 1) := by decide +kernel
theorem dX10_back_1 : decode cX10_back 1 = .ok (.getfield 22, 3) := by decide +kernel
theorem dX10_back_4 : decode cX10_back 4 = .ok (.ifCond .gt 6, 3) := by decide +kernel
theorem dX10_back_7 : decode cX10_back 7 = .ok (.bipush (-2), 2) := by decide +kernel
theorem dX10_back_9 : decode cX10_back 9 = .ok (.ireturn, 1) := by decide +kernel
theorem dX10_back_10 : decode cX10_back 10 = .ok (.aload_n 0, 1) := by decide +kernel
theorem dX10_back_11 : decode cX10_back 11 = .ok (.dup, 1) := by decide +kernel
theorem dX10_back_12 : decode cX10_back 12 = .ok (.getfield 22, 3) := by decide +kernel
theorem dX10_back_15 : decode cX10_back 15 = .ok (.iconst 1, 1) := by decide +kernel
theorem dX10_back_16 : decode cX10_back 16 = .ok (.isub, 1) := by decide +kernel
theorem dX10_back_17 : decode cX10_back 17 = .ok (.putfield 22, 3) := by decide +kernel
theorem dX10_back_20 : decode cX10_back 20 = .ok (.aload_n 0, 1) := by decide +kernel
theorem dX10_back_21 : decode cX10_back 21 = .ok (.getfield 12, 3) := by decide +kernel
theorem dX10_back_24 : decode cX10_back 24 = .ok (.aload_n 0, 1) := by decide +kernel
theorem dX10_back_25 : decode cX10_back 25 = .ok (.aload_n 0, 1) := by decide +kernel
theorem dX10_back_26 : decode cX10_back 26 = .ok (.getfield 22, 3) := by decide +kernel
theorem dX10_back_29 : decode cX10_back 29 = .ok (.invokevirtual 276, 3) := by decide +kernel
theorem dX10_back_32 : decode cX10_back 32 = .ok (.invokevirtual 280, 3) := by decide +kernel
theorem dX10_back_35 : decode cX10_back 35 = .ok (.aload_n 0, 1) := by decide +kernel
theorem dX10_back_36 : decode cX10_back 36 = .ok (.getfield 22, 3) := by decide +kernel
theorem dX10_back_39 : decode cX10_back 39 = .ok (.ireturn, 1) := by decide +kernel
set_option maxRecDepth 20000 in
theorem ggX10_count_X3_size : GoodIn wsX10_count wsX3_size := goodIn_r _ [10, 11, 62, 63, 64] (by decide +kernel) (by decide +kernel)
set_option maxRecDepth 20000 in
theorem gX10_count_X3_size : GoodIn wsX10_count (wsV RX10 107 RX3 yX3_size wsX3_size) := goodIn_app (goodIn_of _ (by decide +kernel)) ggX10_count_X3_size
set_option maxRecDepth 20000 in
theorem ggX10_count_X3_notWhole : GoodIn wsX10_count wsX3_notWhole := goodIn_r _ [15, 11, 16, 17, 18, 19, 20, 21, 22, 62, 63, 64, 65] (by decide +kernel) (by decide +kernel)
set_option maxRecDepth 20000 in
theorem gX10_count_X3_notWhole : GoodIn wsX10_count (wsV RX10 284 RX3 yX3_notWhole wsX3_notWhole) := goodIn_app (goodIn_of _ (by decide +kernel)) ggX10_count_X3_notWhole
set_option maxRecDepth 20000 in
theorem ggX10_count_X9_length : GoodIn wsX10_count wsX9_length := goodIn_r _ [27, 28, 66, 67, 68, 69, 70, 71, 72, 73, 74] (by decide +kernel) (by decide +kernel)
set_option maxRecDepth 20000 in
theorem gX10_count_X9_length : GoodIn wsX10_count (wsV RX10 287 RX9 yX9_length wsX9_length) := goodIn_app (goodIn_of _ (by decide +kernel)) ggX10_count_X9_length
set_option maxRecDepth 20000 in
theorem ggX10_count_X1_size : GoodIn wsX10_count wsX1_size := goodIn_r _ [33, 34, 75, 76, 77, 78, 79, 80] (by decide +kernel) (by decide +kernel)
set_option maxRecDepth 20000 in
theorem gX10_count_X1_size : GoodIn wsX10_count (wsV RX10 132 RX1 yX1_size wsX1_size) := goodIn_app (goodIn_of _ (by decide +kernel)) ggX10_count_X1_size
set_option maxRecDepth 20000 in
theorem ggX10_count_X5_listedSize : GoodIn wsX10_count wsX5_listedSize := goodIn_r _ [39, 40, 41, 42, 43, 44, 45, 46, 81, 82, 83, 84, 85, 86, 87, 88, 89, 90, 91] (by decide +kernel) (by decide +kernel)
set_option maxRecDepth 20000 in
theorem gX10_count_X5_listedSize : GoodIn wsX10_count (wsV RX10 290 RX5 yX5_listedSize wsX5_listedSize) := goodIn_app (goodIn_of _ (by decide +kernel)) ggX10_count_X5_listedSize
set_option maxRecDepth 20000 in
theorem ggX10_count_X5_votersSize : GoodIn wsX10_count wsX5_votersSize := goodIn_r _ [50, 51, 41, 42, 43, 44, 45, 46, 81, 82, 83, 84, 85, 86, 87, 88, 89, 90, 91] (by decide +kernel) (by decide +kernel)
set_option maxRecDepth 20000 in
theorem gX10_count_X5_votersSize : GoodIn wsX10_count (wsV RX10 293 RX5 yX5_votersSize wsX5_votersSize) := goodIn_app (goodIn_of _ (by decide +kernel)) ggX10_count_X5_votersSize
theorem dX10_count_0 : decode cX10_count 0 = .ok (.iload_n 1, 1) := by decide +kernel
theorem dX10_count_1 : decode cX10_count 1 = .ok (.tableswitch 96 0 6 #[43, 51, 59, 67, 75, 83, 91], 43) := by decide +kernel
theorem dX10_count_44 : decode cX10_count 44 = .ok (.aload_n 0, 1) := by decide +kernel
theorem dX10_count_45 : decode cX10_count 45 = .ok (.getfield 12, 3) := by decide +kernel
theorem dX10_count_48 : decode cX10_count 48 = .ok (.invokevirtual 107, 3) := by decide +kernel
theorem dX10_count_51 : decode cX10_count 51 = .ok (.ireturn, 1) := by decide +kernel
theorem dX10_count_52 : decode cX10_count 52 = .ok (.aload_n 0, 1) := by decide +kernel
theorem dX10_count_53 : decode cX10_count 53 = .ok (.getfield 12, 3) := by decide +kernel
theorem dX10_count_56 : decode cX10_count 56 = .ok (.invokevirtual 284, 3) := by decide +kernel
theorem dX10_count_59 : decode cX10_count 59 = .ok (.ireturn, 1) := by decide +kernel
theorem dX10_count_60 : decode cX10_count 60 = .ok (.aload_n 0, 1) := by decide +kernel
theorem dX10_count_61 : decode cX10_count 61 = .ok (.getfield 29, 3) := by decide +kernel
theorem dX10_count_64 : decode cX10_count 64 = .ok (.invokevirtual 287, 3) := by decide +kernel
theorem dX10_count_67 : decode cX10_count 67 = .ok (.ireturn, 1) := by decide +kernel
theorem dX10_count_68 : decode cX10_count 68 = .ok (.aload_n 0, 1) := by decide +kernel
theorem dX10_count_69 : decode cX10_count 69 = .ok (.getfield 36, 3) := by decide +kernel
theorem dX10_count_72 : decode cX10_count 72 = .ok (.invokevirtual 132, 3) := by decide +kernel
theorem dX10_count_75 : decode cX10_count 75 = .ok (.ireturn, 1) := by decide +kernel
theorem dX10_count_76 : decode cX10_count 76 = .ok (.aload_n 0, 1) := by decide +kernel
theorem dX10_count_77 : decode cX10_count 77 = .ok (.getfield 59, 3) := by decide +kernel
theorem dX10_count_80 : decode cX10_count 80 = .ok (.invokevirtual 290, 3) := by decide +kernel
theorem dX10_count_83 : decode cX10_count 83 = .ok (.ireturn, 1) := by decide +kernel
theorem dX10_count_84 : decode cX10_count 84 = .ok (.aload_n 0, 1) := by decide +kernel
theorem dX10_count_85 : decode cX10_count 85 = .ok (.getfield 59, 3) := by decide +kernel
theorem dX10_count_88 : decode cX10_count 88 = .ok (.invokevirtual 293, 3) := by decide +kernel
theorem dX10_count_91 : decode cX10_count 91 = .ok (.ireturn, 1) := by decide +kernel
theorem dX10_count_92 : decode cX10_count 92 = .ok (.aload_n 0, 1) := by decide +kernel
theorem dX10_count_93 : decode cX10_count 93 = .ok (.getfield 22, 3) := by decide +kernel
theorem dX10_count_96 : decode cX10_count 96 = .ok (.ireturn, 1) := by decide +kernel
theorem dX10_count_97 : decode cX10_count 97 = .ok (.iconst (-1), 1) := by decide +kernel
theorem dX10_count_98 : decode cX10_count 98 = .ok (.ireturn, 1) := by decide +kernel
theorem dX10_keptAt_0 : decode cX10_keptAt 0 = .ok (.iload_n 1, 1) := by decide +kernel
theorem dX10_keptAt_1 : decode cX10_keptAt 1 = .ok (.ifCond .ne 10, 3) := by decide +kernel
theorem dX10_keptAt_4 : decode cX10_keptAt 4 = .ok (.aload_n 0, 1) := by decide +kernel
theorem dX10_keptAt_5 : decode cX10_keptAt 5 = .ok (.getfield 16, 3) := by decide +kernel
theorem dX10_keptAt_8 : decode cX10_keptAt 8 = .ok (.goto 7, 3) := by decide +kernel
theorem dX10_keptAt_11 : decode cX10_keptAt 11 = .ok (.aload_n 0, 1) := by decide +kernel
theorem dX10_keptAt_12 : decode cX10_keptAt 12 = .ok (.getfield 19, 3) := by decide +kernel
theorem dX10_keptAt_15 : decode cX10_keptAt 15 = .ok (.areturn, 1) := by decide +kernel
theorem dX10_isCounty_0 : decode cX10_isCounty 0 = .ok (.iload_n 0, 1) := by decide +kernel
theorem dX10_isCounty_1 : decode cX10_isCounty 1 = .ok (.ifCond .lt 12, 3) := by decide +kernel
theorem dX10_isCounty_4 : decode cX10_isCounty 4 = .ok (.iload_n 0, 1) := by decide +kernel
theorem dX10_isCounty_5 : decode cX10_isCounty 5 = .ok (.iconst 5, 1) := by decide +kernel
theorem dX10_isCounty_6 : decode cX10_isCounty 6 = .ok (.if_icmp .ge 7, 3) := by decide +kernel
theorem dX10_isCounty_9 : decode cX10_isCounty 9 = .ok (.iconst 1, 1) := by decide +kernel
theorem dX10_isCounty_10 : decode cX10_isCounty 10 = .ok (.goto 4, 3) := by decide +kernel
theorem dX10_isCounty_13 : decode cX10_isCounty 13 = .ok (.iconst 0, 1) := by decide +kernel
theorem dX10_isCounty_14 : decode cX10_isCounty 14 = .ok (.ireturn, 1) := by decide +kernel
set_option maxRecDepth 20000 in
theorem ggX10_isCountyOrAll_X10_isCounty : GoodIn wsX10_isCountyOrAll wsX10_isCounty := goodIn_r _ [4] (by decide +kernel) (by decide +kernel)
set_option maxRecDepth 20000 in
theorem gX10_isCountyOrAll_X10_isCounty : GoodIn wsX10_isCountyOrAll (va_wsS RX10 70 yX10_isCounty wsX10_isCounty) := goodIn_app (goodIn_of _ (by decide +kernel)) ggX10_isCountyOrAll_X10_isCounty
theorem dX10_isCountyOrAll_0 : decode cX10_isCountyOrAll 0 = .ok (.iload_n 0, 1) := by decide +kernel
theorem dX10_isCountyOrAll_1 : decode cX10_isCountyOrAll 1 = .ok (.iconst 5, 1) := by decide +kernel
theorem dX10_isCountyOrAll_2 : decode cX10_isCountyOrAll 2 = .ok (.if_icmp .eq 10, 3) := by decide +kernel
theorem dX10_isCountyOrAll_5 : decode cX10_isCountyOrAll 5 = .ok (.iload_n 0, 1) := by decide +kernel
theorem dX10_isCountyOrAll_6 : decode cX10_isCountyOrAll 6 = .ok (.invokestatic 70, 3) := by decide +kernel
theorem dX10_isCountyOrAll_9 : decode cX10_isCountyOrAll 9 = .ok (.ifCond .eq 7, 3) := by decide +kernel
theorem dX10_isCountyOrAll_12 : decode cX10_isCountyOrAll 12 = .ok (.iconst 1, 1) := by decide +kernel
theorem dX10_isCountyOrAll_13 : decode cX10_isCountyOrAll 13 = .ok (.goto 4, 3) := by decide +kernel
theorem dX10_isCountyOrAll_16 : decode cX10_isCountyOrAll 16 = .ok (.iconst 0, 1) := by decide +kernel
theorem dX10_isCountyOrAll_17 : decode cX10_isCountyOrAll 17 = .ok (.ireturn, 1) := by decide +kernel
theorem dX10_isRace_0 : decode cX10_isRace 0 = .ok (.iload_n 0, 1) := by decide +kernel
theorem dX10_isRace_1 : decode cX10_isRace 1 = .ok (.ifCond .lt 12, 3) := by decide +kernel
theorem dX10_isRace_4 : decode cX10_isRace 4 = .ok (.iload_n 0, 1) := by decide +kernel
theorem dX10_isRace_5 : decode cX10_isRace 5 = .ok (.iconst 3, 1) := by decide +kernel
theorem dX10_isRace_6 : decode cX10_isRace 6 = .ok (.if_icmp .ge 7, 3) := by decide +kernel
theorem dX10_isRace_9 : decode cX10_isRace 9 = .ok (.iconst 1, 1) := by decide +kernel
theorem dX10_isRace_10 : decode cX10_isRace 10 = .ok (.goto 4, 3) := by decide +kernel
theorem dX10_isRace_13 : decode cX10_isRace 13 = .ok (.iconst 0, 1) := by decide +kernel
theorem dX10_isRace_14 : decode cX10_isRace 14 = .ok (.ireturn, 1) := by decide +kernel
theorem dX10_isHole_0 : decode cX10_isHole 0 = .ok (.iload_n 0, 1) := by decide +kernel
theorem dX10_isHole_1 : decode cX10_isHole 1 = .ok (.ifCond .lt 12, 3) := by decide +kernel
theorem dX10_isHole_4 : decode cX10_isHole 4 = .ok (.iload_n 0, 1) := by decide +kernel
theorem dX10_isHole_5 : decode cX10_isHole 5 = .ok (.iconst 4, 1) := by decide +kernel
theorem dX10_isHole_6 : decode cX10_isHole 6 = .ok (.if_icmp .ge 7, 3) := by decide +kernel
theorem dX10_isHole_9 : decode cX10_isHole 9 = .ok (.iconst 1, 1) := by decide +kernel
theorem dX10_isHole_10 : decode cX10_isHole 10 = .ok (.goto 4, 3) := by decide +kernel
theorem dX10_isHole_13 : decode cX10_isHole 13 = .ok (.iconst 0, 1) := by decide +kernel
theorem dX10_isHole_14 : decode cX10_isHole 14 = .ok (.ireturn, 1) := by decide +kernel
theorem dX10_isHour_0 : decode cX10_isHour 0 = .ok (.iload_n 0, 1) := by decide +kernel
theorem dX10_isHour_1 : decode cX10_isHour 1 = .ok (.ifCond .lt 14, 3) := by decide +kernel
theorem dX10_isHour_4 : decode cX10_isHour 4 = .ok (.iload_n 0, 1) := by decide +kernel
theorem dX10_isHour_5 : decode cX10_isHour 5 = .ok (.sipush 1000, 3) := by decide +kernel
theorem dX10_isHour_8 : decode cX10_isHour 8 = .ok (.if_icmp .ge 7, 3) := by decide +kernel
theorem dX10_isHour_11 : decode cX10_isHour 11 = .ok (.iconst 1, 1) := by decide +kernel
theorem dX10_isHour_12 : decode cX10_isHour 12 = .ok (.goto 4, 3) := by decide +kernel
theorem dX10_isHour_15 : decode cX10_isHour 15 = .ok (.iconst 0, 1) := by decide +kernel
theorem dX10_isHour_16 : decode cX10_isHour 16 = .ok (.ireturn, 1) := by decide +kernel
theorem dX10_isWhat_0 : decode cX10_isWhat 0 = .ok (.iload_n 0, 1) := by decide +kernel
theorem dX10_isWhat_1 : decode cX10_isWhat 1 = .ok (.ifCond .lt 12, 3) := by decide +kernel
theorem dX10_isWhat_4 : decode cX10_isWhat 4 = .ok (.iload_n 0, 1) := by decide +kernel
theorem dX10_isWhat_5 : decode cX10_isWhat 5 = .ok (.iload_n 1, 1) := by decide +kernel
theorem dX10_isWhat_6 : decode cX10_isWhat 6 = .ok (.if_icmp .ge 7, 3) := by decide +kernel
theorem dX10_isWhat_9 : decode cX10_isWhat 9 = .ok (.iconst 1, 1) := by decide +kernel
theorem dX10_isWhat_10 : decode cX10_isWhat 10 = .ok (.goto 4, 3) := by decide +kernel
theorem dX10_isWhat_13 : decode cX10_isWhat 13 = .ok (.iconst 0, 1) := by decide +kernel
theorem dX10_isWhat_14 : decode cX10_isWhat 14 = .ok (.ireturn, 1) := by decide +kernel
theorem dX10_isRule_0 : decode cX10_isRule 0 = .ok (.iload_n 0, 1) := by decide +kernel
theorem dX10_isRule_1 : decode cX10_isRule 1 = .ok (.iconst 1, 1) := by decide +kernel
theorem dX10_isRule_2 : decode cX10_isRule 2 = .ok (.if_icmp .lt 12, 3) := by decide +kernel
theorem dX10_isRule_5 : decode cX10_isRule 5 = .ok (.iload_n 0, 1) := by decide +kernel
theorem dX10_isRule_6 : decode cX10_isRule 6 = .ok (.iconst 5, 1) := by decide +kernel
theorem dX10_isRule_7 : decode cX10_isRule 7 = .ok (.if_icmp .gt 7, 3) := by decide +kernel
theorem dX10_isRule_10 : decode cX10_isRule 10 = .ok (.iconst 1, 1) := by decide +kernel
theorem dX10_isRule_11 : decode cX10_isRule 11 = .ok (.goto 4, 3) := by decide +kernel
theorem dX10_isRule_14 : decode cX10_isRule 14 = .ok (.iconst 0, 1) := by decide +kernel
theorem dX10_isRule_15 : decode cX10_isRule 15 = .ok (.ireturn, 1) := by decide +kernel
theorem dX10_isRuleSet_0 : decode cX10_isRuleSet 0 = .ok (.iload_n 0, 1) := by decide +kernel
theorem dX10_isRuleSet_1 : decode cX10_isRuleSet 1 = .ok (.iconst 1, 1) := by decide +kernel
theorem dX10_isRuleSet_2 : decode cX10_isRuleSet 2 = .ok (.if_icmp .lt 13, 3) := by decide +kernel
theorem dX10_isRuleSet_5 : decode cX10_isRuleSet 5 = .ok (.iload_n 0, 1) := by decide +kernel
theorem dX10_isRuleSet_6 : decode cX10_isRuleSet 6 = .ok (.bipush 32, 2) := by decide +kernel
theorem dX10_isRuleSet_8 : decode cX10_isRuleSet 8 = .ok (.if_icmp .ge 7, 3) := by decide +kernel
theorem dX10_isRuleSet_11 : decode cX10_isRuleSet 11 = .ok (.iconst 1, 1) := by decide +kernel
theorem dX10_isRuleSet_12 : decode cX10_isRuleSet 12 = .ok (.goto 4, 3) := by decide +kernel
theorem dX10_isRuleSet_15 : decode cX10_isRuleSet 15 = .ok (.iconst 0, 1) := by decide +kernel
theorem dX10_isRuleSet_16 : decode cX10_isRuleSet 16 = .ok (.ireturn, 1) := by decide +kernel
theorem dX10_isDay_0 : decode cX10_isDay 0 = .ok (.iload_n 0, 1) := by decide +kernel
theorem dX10_isDay_1 : decode cX10_isDay 1 = .ok (.iconst (-1), 1) := by decide +kernel
theorem dX10_isDay_2 : decode cX10_isDay 2 = .ok (.if_icmp .lt 14, 3) := by decide +kernel
theorem dX10_isDay_5 : decode cX10_isDay 5 = .ok (.iload_n 0, 1) := by decide +kernel
theorem dX10_isDay_6 : decode cX10_isDay 6 = .ok (.ldc_w 296, 3) := by decide +kernel
theorem dX10_isDay_9 : decode cX10_isDay 9 = .ok (.if_icmp .gt 7, 3) := by decide +kernel
theorem dX10_isDay_12 : decode cX10_isDay 12 = .ok (.iconst 1, 1) := by decide +kernel
theorem dX10_isDay_13 : decode cX10_isDay 13 = .ok (.goto 4, 3) := by decide +kernel
theorem dX10_isDay_16 : decode cX10_isDay 16 = .ok (.iconst 0, 1) := by decide +kernel
theorem dX10_isDay_17 : decode cX10_isDay 17 = .ok (.ireturn, 1) := by decide +kernel
theorem dX10_isHands_0 : decode cX10_isHands 0 = .ok (.iload_n 0, 1) := by decide +kernel
theorem dX10_isHands_1 : decode cX10_isHands 1 = .ok (.iconst 1, 1) := by decide +kernel
theorem dX10_isHands_2 : decode cX10_isHands 2 = .ok (.if_icmp .lt 13, 3) := by decide +kernel
theorem dX10_isHands_5 : decode cX10_isHands 5 = .ok (.iload_n 0, 1) := by decide +kernel
theorem dX10_isHands_6 : decode cX10_isHands 6 = .ok (.bipush 20, 2) := by decide +kernel
theorem dX10_isHands_8 : decode cX10_isHands 8 = .ok (.if_icmp .gt 7, 3) := by decide +kernel
theorem dX10_isHands_11 : decode cX10_isHands 11 = .ok (.iconst 1, 1) := by decide +kernel
theorem dX10_isHands_12 : decode cX10_isHands 12 = .ok (.goto 4, 3) := by decide +kernel
theorem dX10_isHands_15 : decode cX10_isHands 15 = .ok (.iconst 0, 1) := by decide +kernel
theorem dX10_isHands_16 : decode cX10_isHands 16 = .ok (.ireturn, 1) := by decide +kernel
set_option maxRecDepth 20000 in
theorem ggX10_isSpan_X10_isHour : GoodIn wsX10_isSpan wsX10_isHour := goodIn_r _ [4] (by decide +kernel) (by decide +kernel)
set_option maxRecDepth 20000 in
theorem gX10_isSpan_X10_isHour : GoodIn wsX10_isSpan (va_wsS RX10 97 yX10_isHour wsX10_isHour) := goodIn_app (goodIn_of _ (by decide +kernel)) ggX10_isSpan_X10_isHour
theorem dX10_isSpan_0 : decode cX10_isSpan 0 = .ok (.iload_n 0, 1) := by decide +kernel
theorem dX10_isSpan_1 : decode cX10_isSpan 1 = .ok (.invokestatic 97, 3) := by decide +kernel
theorem dX10_isSpan_4 : decode cX10_isSpan 4 = .ok (.ifCond .eq 19, 3) := by decide +kernel
theorem dX10_isSpan_7 : decode cX10_isSpan 7 = .ok (.iload_n 0, 1) := by decide +kernel
theorem dX10_isSpan_8 : decode cX10_isSpan 8 = .ok (.iload_n 1, 1) := by decide +kernel
theorem dX10_isSpan_9 : decode cX10_isSpan 9 = .ok (.if_icmp .gt 14, 3) := by decide +kernel
theorem dX10_isSpan_12 : decode cX10_isSpan 12 = .ok (.iload_n 1, 1) := by decide +kernel
theorem dX10_isSpan_13 : decode cX10_isSpan 13 = .ok (.sipush 1000, 3) := by decide +kernel
theorem dX10_isSpan_16 : decode cX10_isSpan 16 = .ok (.if_icmp .gt 7, 3) := by decide +kernel
theorem dX10_isSpan_19 : decode cX10_isSpan 19 = .ok (.iconst 1, 1) := by decide +kernel
theorem dX10_isSpan_20 : decode cX10_isSpan 20 = .ok (.goto 4, 3) := by decide +kernel
theorem dX10_isSpan_23 : decode cX10_isSpan 23 = .ok (.iconst 0, 1) := by decide +kernel
theorem dX10_isSpan_24 : decode cX10_isSpan 24 = .ok (.ireturn, 1) := by decide +kernel
set_option maxRecDepth 20000 in
theorem ggX10_isName_X10_letterAt : GoodIn wsX10_isName wsX10_letterAt := goodIn_r _ [4] (by decide +kernel) (by decide +kernel)
set_option maxRecDepth 20000 in
theorem gX10_isName_X10_letterAt : GoodIn wsX10_isName (va_wsS RX10 297 yX10_letterAt wsX10_letterAt) := goodIn_app (goodIn_of _ (by decide +kernel)) ggX10_isName_X10_letterAt
theorem dX10_isName_0 : decode cX10_isName 0 = .ok (.iconst 0, 1) := by decide +kernel
theorem dX10_isName_1 : decode cX10_isName 1 = .ok (.istore_n 2, 1) := by decide +kernel
theorem dX10_isName_2 : decode cX10_isName 2 = .ok (.iconst 0, 1) := by decide +kernel
theorem dX10_isName_3 : decode cX10_isName 3 = .ok (.istore_n 3, 1) := by decide +kernel
theorem dX10_isName_4 : decode cX10_isName 4 = .ok (.iload_n 3, 1) := by decide +kernel
theorem dX10_isName_5 : decode cX10_isName 5 = .ok (.bipush 8, 2) := by decide +kernel
theorem dX10_isName_7 : decode cX10_isName 7 = .ok (.if_icmp .ge 46, 3) := by decide +kernel
theorem dX10_isName_10 : decode cX10_isName 10 = .ok (.lload_n 0, 1) := by decide +kernel
theorem dX10_isName_11 : decode cX10_isName 11 = .ok (.iload_n 3, 1) := by decide +kernel
theorem dX10_isName_12 : decode cX10_isName 12 = .ok (.invokestatic 297, 3) := by decide +kernel
theorem dX10_isName_15 : decode cX10_isName 15 = .ok (.istore 4, 2) := by decide +kernel
theorem dX10_isName_17 : decode cX10_isName 17 = .ok (.iload 4, 2) := by decide +kernel
theorem dX10_isName_19 : decode cX10_isName 19 = .ok (.ifCond .ne 8, 3) := by decide +kernel
theorem dX10_isName_22 : decode cX10_isName 22 = .ok (.iconst 1, 1) := by decide +kernel
theorem dX10_isName_23 : decode cX10_isName 23 = .ok (.istore_n 2, 1) := by decide +kernel
theorem dX10_isName_24 : decode cX10_isName 24 = .ok (.goto 23, 3) := by decide +kernel
theorem dX10_isName_27 : decode cX10_isName 27 = .ok (.iload_n 2, 1) := by decide +kernel
theorem dX10_isName_28 : decode cX10_isName 28 = .ok (.ifCond .ne 17, 3) := by decide +kernel
theorem dX10_isName_31 : decode cX10_isName 31 = .ok (.iload 4, 2) := by decide +kernel
theorem dX10_isName_33 : decode cX10_isName 33 = .ok (.bipush 97, 2) := by decide +kernel
theorem dX10_isName_35 : decode cX10_isName 35 = .ok (.if_icmp .lt 10, 3) := by decide +kernel
theorem dX10_isName_38 : decode cX10_isName 38 = .ok (.iload 4, 2) := by decide +kernel
theorem dX10_isName_40 : decode cX10_isName 40 = .ok (.bipush 122, 2) := by decide +kernel
theorem dX10_isName_42 : decode cX10_isName 42 = .ok (.if_icmp .le 5, 3) := by decide +kernel
theorem dX10_isName_45 : decode cX10_isName 45 = .ok (.iconst 0, 1) := by decide +kernel
theorem dX10_isName_46 : decode cX10_isName 46 = .ok (.ireturn, 1) := by decide +kernel
theorem dX10_isName_47 : decode cX10_isName 47 = .ok (.iinc 3 1, 3) := by decide +kernel
theorem dX10_isName_50 : decode cX10_isName 50 = .ok (.goto (-46), 3) := by decide +kernel
theorem dX10_isName_53 : decode cX10_isName 53 = .ok (.iconst 1, 1) := by decide +kernel
theorem dX10_isName_54 : decode cX10_isName 54 = .ok (.ireturn, 1) := by decide +kernel
theorem dX10_letterAt_0 : decode cX10_letterAt 0 = .ok (.lload_n 0, 1) := by decide +kernel
theorem dX10_letterAt_1 : decode cX10_letterAt 1 = .ok (.bipush 8, 2) := by decide +kernel
theorem dX10_letterAt_3 : decode cX10_letterAt 3 = .ok (.bipush 7, 2) := by decide +kernel
theorem dX10_letterAt_5 : decode cX10_letterAt 5 = .ok (.iload_n 2, 1) := by decide +kernel
theorem dX10_letterAt_6 : decode cX10_letterAt 6 = .ok (.isub, 1) := by decide +kernel
theorem dX10_letterAt_7 : decode cX10_letterAt 7 = .ok (.imul, 1) := by decide +kernel
theorem dX10_letterAt_8 : decode cX10_letterAt 8 = .ok (.lushr, 1) := by decide +kernel
theorem dX10_letterAt_9 : decode cX10_letterAt 9 = .ok (.l2i, 1) := by decide +kernel
theorem dX10_letterAt_10 : decode cX10_letterAt 10 = .ok (.sipush 255, 3) := by decide +kernel
theorem dX10_letterAt_13 : decode cX10_letterAt 13 = .ok (.iand, 1) := by decide +kernel
theorem dX10_letterAt_14 : decode cX10_letterAt 14 = .ok (.ireturn, 1) := by decide +kernel
theorem dX10_hasBit_0 : decode cX10_hasBit 0 = .ok (.iload_n 0, 1) := by decide +kernel
theorem dX10_hasBit_1 : decode cX10_hasBit 1 = .ok (.iload_n 1, 1) := by decide +kernel
theorem dX10_hasBit_2 : decode cX10_hasBit 2 = .ok (.ishr, 1) := by decide +kernel
theorem dX10_hasBit_3 : decode cX10_hasBit 3 = .ok (.iconst 1, 1) := by decide +kernel
theorem dX10_hasBit_4 : decode cX10_hasBit 4 = .ok (.iand, 1) := by decide +kernel
theorem dX10_hasBit_5 : decode cX10_hasBit 5 = .ok (.ifCond .eq 7, 3) := by decide +kernel
theorem dX10_hasBit_8 : decode cX10_hasBit 8 = .ok (.iconst 1, 1) := by decide +kernel
theorem dX10_hasBit_9 : decode cX10_hasBit 9 = .ok (.goto 4, 3) := by decide +kernel
theorem dX10_hasBit_12 : decode cX10_hasBit 12 = .ok (.iconst 0, 1) := by decide +kernel
theorem dX10_hasBit_13 : decode cX10_hasBit 13 = .ok (.ireturn, 1) := by decide +kernel
theorem dX10_onlyBit_0 : decode cX10_onlyBit 0 = .ok (.iconst 0, 1) := by decide +kernel
theorem dX10_onlyBit_1 : decode cX10_onlyBit 1 = .ok (.istore_n 1, 1) := by decide +kernel
theorem dX10_onlyBit_2 : decode cX10_onlyBit 2 = .ok (.iload_n 1, 1) := by decide +kernel
theorem dX10_onlyBit_3 : decode cX10_onlyBit 3 = .ok (.iconst 4, 1) := by decide +kernel
theorem dX10_onlyBit_4 : decode cX10_onlyBit 4 = .ok (.if_icmp .ge 18, 3) := by decide +kernel
theorem dX10_onlyBit_7 : decode cX10_onlyBit 7 = .ok (.iload_n 0, 1) := by decide +kernel
theorem dX10_onlyBit_8 : decode cX10_onlyBit 8 = .ok (.iconst 1, 1) := by decide +kernel
theorem dX10_onlyBit_9 : decode cX10_onlyBit 9 = .ok (.iload_n 1, 1) := by decide +kernel
theorem dX10_onlyBit_10 : decode cX10_onlyBit 10 = .ok (.ishl, 1) := by decide +kernel
theorem dX10_onlyBit_11 : decode cX10_onlyBit 11 = .ok (.if_icmp .ne 5, 3) := by decide +kernel
theorem dX10_onlyBit_14 : decode cX10_onlyBit 14 = .ok (.iload_n 1, 1) := by decide +kernel
theorem dX10_onlyBit_15 : decode cX10_onlyBit 15 = .ok (.ireturn, 1) := by decide +kernel
theorem dX10_onlyBit_16 : decode cX10_onlyBit 16 = .ok (.iinc 1 1, 3) := by decide +kernel
theorem dX10_onlyBit_19 : decode cX10_onlyBit 19 = .ok (.goto (-17), 3) := by decide +kernel
theorem dX10_onlyBit_22 : decode cX10_onlyBit 22 = .ok (.bipush (-4), 2) := by decide +kernel
theorem dX10_onlyBit_24 : decode cX10_onlyBit 24 = .ok (.ireturn, 1) := by decide +kernel
theorem dX10_oneVote_0 : decode cX10_oneVote 0 = .ok (.iconst 1, 1) := by decide +kernel
theorem dX10_oneVote_1 : decode cX10_oneVote 1 = .ok (.bipush 8, 2) := by decide +kernel
theorem dX10_oneVote_3 : decode cX10_oneVote 3 = .ok (.iload_n 0, 1) := by decide +kernel
theorem dX10_oneVote_4 : decode cX10_oneVote 4 = .ok (.imul, 1) := by decide +kernel
theorem dX10_oneVote_5 : decode cX10_oneVote 5 = .ok (.ishl, 1) := by decide +kernel
theorem dX10_oneVote_6 : decode cX10_oneVote 6 = .ok (.ireturn, 1) := by decide +kernel
theorem dX10_votesFor_0 : decode cX10_votesFor 0 = .ok (.iload_n 1, 1) := by decide +kernel
theorem dX10_votesFor_1 : decode cX10_votesFor 1 = .ok (.bipush 8, 2) := by decide +kernel
theorem dX10_votesFor_3 : decode cX10_votesFor 3 = .ok (.iload_n 0, 1) := by decide +kernel
theorem dX10_votesFor_4 : decode cX10_votesFor 4 = .ok (.imul, 1) := by decide +kernel
theorem dX10_votesFor_5 : decode cX10_votesFor 5 = .ok (.ishr, 1) := by decide +kernel
theorem dX10_votesFor_6 : decode cX10_votesFor 6 = .ok (.sipush 255, 3) := by decide +kernel
theorem dX10_votesFor_9 : decode cX10_votesFor 9 = .ok (.iand, 1) := by decide +kernel
theorem dX10_votesFor_10 : decode cX10_votesFor 10 = .ok (.ireturn, 1) := by decide +kernel
set_option maxRecDepth 20000 in
theorem ggX10_leadOf_X10_votesFor : GoodIn wsX10_leadOf wsX10_votesFor := goodIn_r _ [8] (by decide +kernel) (by decide +kernel)
set_option maxRecDepth 20000 in
theorem gX10_leadOf_X10_votesFor : GoodIn wsX10_leadOf (va_wsS RX10 152 yX10_votesFor wsX10_votesFor) := goodIn_app (goodIn_of _ (by decide +kernel)) ggX10_leadOf_X10_votesFor
theorem dX10_leadOf_0 : decode cX10_leadOf 0 = .ok (.iconst 0, 1) := by decide +kernel
theorem dX10_leadOf_1 : decode cX10_leadOf 1 = .ok (.istore_n 2, 1) := by decide +kernel
theorem dX10_leadOf_2 : decode cX10_leadOf 2 = .ok (.iconst 0, 1) := by decide +kernel
theorem dX10_leadOf_3 : decode cX10_leadOf 3 = .ok (.istore_n 3, 1) := by decide +kernel
theorem dX10_leadOf_4 : decode cX10_leadOf 4 = .ok (.iload_n 3, 1) := by decide +kernel
theorem dX10_leadOf_5 : decode cX10_leadOf 5 = .ok (.iconst 4, 1) := by decide +kernel
theorem dX10_leadOf_6 : decode cX10_leadOf 6 = .ok (.if_icmp .ge 24, 3) := by decide +kernel
theorem dX10_leadOf_9 : decode cX10_leadOf 9 = .ok (.iload_n 3, 1) := by decide +kernel
theorem dX10_leadOf_10 : decode cX10_leadOf 10 = .ok (.iload_n 0, 1) := by decide +kernel
theorem dX10_leadOf_11 : decode cX10_leadOf 11 = .ok (.if_icmp .eq 13, 3) := by decide +kernel
theorem dX10_leadOf_14 : decode cX10_leadOf 14 = .ok (.iload_n 2, 1) := by decide +kernel
theorem dX10_leadOf_15 : decode cX10_leadOf 15 = .ok (.iload_n 3, 1) := by decide +kernel
theorem dX10_leadOf_16 : decode cX10_leadOf 16 = .ok (.iload_n 1, 1) := by decide +kernel
theorem dX10_leadOf_17 : decode cX10_leadOf 17 = .ok (.invokestatic 152, 3) := by decide +kernel
theorem dX10_leadOf_20 : decode cX10_leadOf 20 = .ok (.invokestatic 174, 3) := by decide +kernel
theorem dX10_leadOf_23 : decode cX10_leadOf 23 = .ok (.istore_n 2, 1) := by decide +kernel
theorem dX10_leadOf_24 : decode cX10_leadOf 24 = .ok (.iinc 3 1, 3) := by decide +kernel
theorem dX10_leadOf_27 : decode cX10_leadOf 27 = .ok (.goto (-23), 3) := by decide +kernel
theorem dX10_leadOf_30 : decode cX10_leadOf 30 = .ok (.iload_n 0, 1) := by decide +kernel
theorem dX10_leadOf_31 : decode cX10_leadOf 31 = .ok (.iload_n 1, 1) := by decide +kernel
theorem dX10_leadOf_32 : decode cX10_leadOf 32 = .ok (.invokestatic 152, 3) := by decide +kernel
theorem dX10_leadOf_35 : decode cX10_leadOf 35 = .ok (.iload_n 2, 1) := by decide +kernel
theorem dX10_leadOf_36 : decode cX10_leadOf 36 = .ok (.isub, 1) := by decide +kernel
theorem dX10_leadOf_37 : decode cX10_leadOf 37 = .ok (.ireturn, 1) := by decide +kernel
set_option maxRecDepth 20000 in
theorem ggX10_winnerOf_X10_leadOf : GoodIn wsX10_winnerOf wsX10_leadOf := goodIn_r _ [4, 5, 6, 7, 8, 9, 10, 3, 11] (by decide +kernel) (by decide +kernel)
set_option maxRecDepth 20000 in
theorem gX10_winnerOf_X10_leadOf : GoodIn wsX10_winnerOf (va_wsS RX10 300 yX10_leadOf wsX10_leadOf) := goodIn_app (goodIn_of _ (by decide +kernel)) ggX10_winnerOf_X10_leadOf
theorem dX10_winnerOf_0 : decode cX10_winnerOf 0 = .ok (.iconst 0, 1) := by decide +kernel
theorem dX10_winnerOf_1 : decode cX10_winnerOf 1 = .ok (.istore_n 1, 1) := by decide +kernel
theorem dX10_winnerOf_2 : decode cX10_winnerOf 2 = .ok (.iload_n 1, 1) := by decide +kernel
theorem dX10_winnerOf_3 : decode cX10_winnerOf 3 = .ok (.iconst 4, 1) := by decide +kernel
theorem dX10_winnerOf_4 : decode cX10_winnerOf 4 = .ok (.if_icmp .ge 19, 3) := by decide +kernel
theorem dX10_winnerOf_7 : decode cX10_winnerOf 7 = .ok (.iload_n 1, 1) := by decide +kernel
theorem dX10_winnerOf_8 : decode cX10_winnerOf 8 = .ok (.iload_n 0, 1) := by decide +kernel
theorem dX10_winnerOf_9 : decode cX10_winnerOf 9 = .ok (.invokestatic 300, 3) := by decide +kernel
theorem dX10_winnerOf_12 : decode cX10_winnerOf 12 = .ok (.ifCond .le 5, 3) := by decide +kernel
theorem dX10_winnerOf_15 : decode cX10_winnerOf 15 = .ok (.iload_n 1, 1) := by decide +kernel
theorem dX10_winnerOf_16 : decode cX10_winnerOf 16 = .ok (.ireturn, 1) := by decide +kernel
theorem dX10_winnerOf_17 : decode cX10_winnerOf 17 = .ok (.iinc 1 1, 3) := by decide +kernel
theorem dX10_winnerOf_20 : decode cX10_winnerOf 20 = .ok (.goto (-18), 3) := by decide +kernel
theorem dX10_winnerOf_23 : decode cX10_winnerOf 23 = .ok (.bipush (-4), 2) := by decide +kernel
theorem dX10_winnerOf_25 : decode cX10_winnerOf 25 = .ok (.ireturn, 1) := by decide +kernel
