set_option maxRecDepth 20000 in
theorem ggX7_init_X6_init : GoodIn wsX7_init wsX6_init := goodIn_r _ [16, 17, 2, 3, 18, 19, 24] (by decide +kernel) (by decide +kernel)
set_option maxRecDepth 20000 in
theorem gX7_init_X6_init : GoodIn wsX7_init (wsX6_init) := ggX7_init_X6_init
set_option maxRecDepth 20000 in
theorem ggX7_init_X6_fill : GoodIn wsX7_init wsX6_fill := goodIn_r _ [23, 19, 24] (by decide +kernel) (by decide +kernel)
set_option maxRecDepth 20000 in
theorem gX7_init_X6_fill : GoodIn wsX7_init (wsV RX7 38 RX6 yX6_fill wsX6_fill) := goodIn_app (goodIn_of _ (by decide +kernel)) ggX7_init_X6_fill
theorem dX7_init_0 : decode cX7_init 0 = .ok (.aload_n 0, 1) := by decide +kernel
theorem dX7_init_1 : decode cX7_init 1 = .ok (.invokespecial 3, 3) := by decide +kernel
theorem dX7_init_4 : decode cX7_init 4 = .ok (.aload_n 0, 1) := by decide +kernel
theorem dX7_init_5 : decode cX7_init 5 = .ok (.new 9, 3) := by decide +kernel
theorem dX7_init_8 : decode cX7_init 8 = .ok (.dup, 1) := by decide +kernel
theorem dX7_init_9 : decode cX7_init 9 = .ok (.iconst 5, 1) := by decide +kernel
theorem dX7_init_10 : decode cX7_init 10 = .ok (.invokespecial 11, 3) := by decide +kernel
theorem dX7_init_13 : decode cX7_init 13 = .ok (.putfield 14, 3) := by decide +kernel
theorem dX7_init_16 : decode cX7_init 16 = .ok (.aload_n 0, 1) := by decide +kernel
theorem dX7_init_17 : decode cX7_init 17 = .ok (.new 9, 3) := by decide +kernel
theorem dX7_init_20 : decode cX7_init 20 = .ok (.dup, 1) := by decide +kernel
theorem dX7_init_21 : decode cX7_init 21 = .ok (.iconst 5, 1) := by decide +kernel
theorem dX7_init_22 : decode cX7_init 22 = .ok (.invokespecial 11, 3) := by decide +kernel
theorem dX7_init_25 : decode cX7_init 25 = .ok (.putfield 20, 3) := by decide +kernel
theorem dX7_init_28 : decode cX7_init 28 = .ok (.aload_n 0, 1) := by decide +kernel
theorem dX7_init_29 : decode cX7_init 29 = .ok (.new 9, 3) := by decide +kernel
theorem dX7_init_32 : decode cX7_init 32 = .ok (.dup, 1) := by decide +kernel
theorem dX7_init_33 : decode cX7_init 33 = .ok (.sipush 1000, 3) := by decide +kernel
theorem dX7_init_36 : decode cX7_init 36 = .ok (.invokespecial 11, 3) := by decide +kernel
theorem dX7_init_39 : decode cX7_init 39 = .ok (.putfield 23, 3) := by decide +kernel
theorem dX7_init_42 : decode cX7_init 42 = .ok (.aload_n 0, 1) := by decide +kernel
theorem dX7_init_43 : decode cX7_init 43 = .ok (.new 9, 3) := by decide +kernel
theorem dX7_init_46 : decode cX7_init 46 = .ok (.dup, 1) := by decide +kernel
theorem dX7_init_47 : decode cX7_init 47 = .ok (.bipush 32, 2) := by decide +kernel
theorem dX7_init_49 : decode cX7_init 49 = .ok (.invokespecial 11, 3) := by decide +kernel
theorem dX7_init_52 : decode cX7_init 52 = .ok (.putfield 26, 3) := by decide +kernel
theorem dX7_init_55 : decode cX7_init 55 = .ok (.aload_n 0, 1) := by decide +kernel
theorem dX7_init_56 : decode cX7_init 56 = .ok (.new 9, 3) := by decide +kernel
theorem dX7_init_59 : decode cX7_init 59 = .ok (.dup, 1) := by decide +kernel
theorem dX7_init_60 : decode cX7_init 60 = .ok (.iconst 5, 1) := by decide +kernel
theorem dX7_init_61 : decode cX7_init 61 = .ok (.invokespecial 11, 3) := by decide +kernel
theorem dX7_init_64 : decode cX7_init 64 = .ok (.putfield 29, 3) := by decide +kernel
theorem dX7_init_67 : decode cX7_init 67 = .ok (.aload_n 0, 1) := by decide +kernel
theorem dX7_init_68 : decode cX7_init 68 = .ok (.new 9, 3) := by decide +kernel
theorem dX7_init_71 : decode cX7_init 71 = .ok (.dup, 1) := by decide +kernel
theorem dX7_init_72 : decode cX7_init 72 = .ok (.iconst 5, 1) := by decide +kernel
theorem dX7_init_73 : decode cX7_init 73 = .ok (.invokespecial 11, 3) := by decide +kernel
theorem dX7_init_76 : decode cX7_init 76 = .ok (.putfield 32, 3) := by decide +kernel
theorem dX7_init_79 : decode cX7_init 79 = .ok (.aload_n 0, 1) := by decide +kernel
theorem dX7_init_80 : decode cX7_init 80 = .ok (.new 9, 3) := by decide +kernel
theorem dX7_init_83 : decode cX7_init 83 = .ok (.dup, 1) := by decide +kernel
theorem dX7_init_84 : decode cX7_init 84 = .ok (.iconst 5, 1) := by decide +kernel
theorem dX7_init_85 : decode cX7_init 85 = .ok (.invokespecial 11, 3) := by decide +kernel
theorem dX7_init_88 : decode cX7_init 88 = .ok (.putfield 35, 3) := by decide +kernel
theorem dX7_init_91 : decode cX7_init 91 = .ok (.aload_n 0, 1) := by decide +kernel
theorem dX7_init_92 : decode cX7_init 92 = .ok (.getfield 20, 3) := by decide +kernel
theorem dX7_init_95 : decode cX7_init 95 = .ok (.iconst 1, 1) := by decide +kernel
theorem dX7_init_96 : decode cX7_init 96 = .ok (.invokevirtual 38, 3) := by decide +kernel
theorem dX7_init_99 : decode cX7_init 99 = .ok (.return_, 1) := by decide +kernel
set_option maxRecDepth 20000 in
theorem ggX7_learn_X1_nextOrder : GoodIn wsX7_learn wsX1_nextOrder := goodIn_r _ [6, 7, 8, 9, 10, 11, 12, 13, 14, 15, 53, 54, 55, 56, 57, 58, 59] (by decide +kernel) (by decide +kernel)
set_option maxRecDepth 20000 in
theorem gX7_learn_X1_nextOrder : GoodIn wsX7_learn (wsV RX7 41 RX1 yX1_nextOrder wsX1_nextOrder) := goodIn_app (goodIn_of _ (by decide +kernel)) ggX7_learn_X1_nextOrder
set_option maxRecDepth 20000 in
theorem ggX7_learn_X1_closedIn : GoodIn wsX7_learn wsX1_closedIn := goodIn_r _ [19, 20, 21, 22, 5, 23, 24, 25, 26, 27, 28, 7, 8, 9, 10, 11, 12, 13, 14, 15, 29, 30, 31, 32, 33, 34, 35, 36, 37, 38, 39, 40, 41, 53, 54, 55, 56, 57, 58, 59] (by decide +kernel) (by decide +kernel)
set_option maxRecDepth 20000 in
theorem gX7_learn_X1_closedIn : GoodIn wsX7_learn (wsV RX7 47 RX1 yX1_closedIn wsX1_closedIn) := goodIn_app (goodIn_of _ (by decide +kernel)) ggX7_learn_X1_closedIn
set_option maxRecDepth 20000 in
theorem ggX7_learn_X6_set : GoodIn wsX7_learn wsX6_set := goodIn_r _ [45, 15, 59] (by decide +kernel) (by decide +kernel)
set_option maxRecDepth 20000 in
theorem gX7_learn_X6_set : GoodIn wsX7_learn (wsV RX7 50 RX6 yX6_set wsX6_set) := goodIn_app (goodIn_of _ (by decide +kernel)) ggX7_learn_X6_set
theorem dX7_learn_0 : decode cX7_learn 0 = .ok (.aload_n 1, 1) := by decide +kernel
theorem dX7_learn_1 : decode cX7_learn 1 = .ok (.ifnonnull 4, 3) := by decide +kernel
theorem dX7_learn_4 : decode cX7_learn 4 = .ok (.return_, 1) := by decide +kernel
theorem dX7_learn_5 : decode cX7_learn 5 = .ok (.iconst 0, 1) := by decide +kernel
theorem dX7_learn_6 : decode cX7_learn 6 = .ok (.istore_n 2, 1) := by decide +kernel
theorem dX7_learn_7 : decode cX7_learn 7 = .ok (.iconst 0, 1) := by decide +kernel
theorem dX7_learn_8 : decode cX7_learn 8 = .ok (.istore_n 3, 1) := by decide +kernel
theorem dX7_learn_9 : decode cX7_learn 9 = .ok (.iload_n 3, 1) := by decide +kernel
theorem dX7_learn_10 : decode cX7_learn 10 = .ok (.bipush 40, 2) := by decide +kernel
theorem dX7_learn_12 : decode cX7_learn 12 = .ok (.if_icmp .gt 60, 3) := by decide +kernel
theorem dX7_learn_15 : decode cX7_learn 15 = .ok (.iload_n 2, 1) := by decide +kernel
theorem dX7_learn_16 : decode cX7_learn 16 = .ok (.sipush 1000, 3) := by decide +kernel
theorem dX7_learn_19 : decode cX7_learn 19 = .ok (.if_icmp .ge 53, 3) := by decide +kernel
theorem dX7_learn_22 : decode cX7_learn 22 = .ok (.aload_n 1, 1) := by decide +kernel
theorem dX7_learn_23 : decode cX7_learn 23 = .ok (.iload_n 2, 1) := by decide +kernel
theorem dX7_learn_24 : decode cX7_learn 24 = .ok (.invokevirtual 41, 3) := by decide +kernel
theorem dX7_learn_27 : decode cX7_learn 27 = .ok (.istore 4, 2) := by decide +kernel
theorem dX7_learn_29 : decode cX7_learn 29 = .ok (.aload_n 1, 1) := by decide +kernel
theorem dX7_learn_30 : decode cX7_learn 30 = .ok (.iload_n 2, 1) := by decide +kernel
theorem dX7_learn_31 : decode cX7_learn 31 = .ok (.invokevirtual 47, 3) := by decide +kernel
theorem dX7_learn_34 : decode cX7_learn 34 = .ok (.istore 5, 2) := by decide +kernel
theorem dX7_learn_36 : decode cX7_learn 36 = .ok (.iload_n 2, 1) := by decide +kernel
theorem dX7_learn_37 : decode cX7_learn 37 = .ok (.istore 6, 2) := by decide +kernel
theorem dX7_learn_39 : decode cX7_learn 39 = .ok (.iload 6, 2) := by decide +kernel
theorem dX7_learn_41 : decode cX7_learn 41 = .ok (.iload 4, 2) := by decide +kernel
theorem dX7_learn_43 : decode cX7_learn 43 = .ok (.if_icmp .ge 20, 3) := by decide +kernel
theorem dX7_learn_46 : decode cX7_learn 46 = .ok (.aload_n 0, 1) := by decide +kernel
theorem dX7_learn_47 : decode cX7_learn 47 = .ok (.getfield 23, 3) := by decide +kernel
theorem dX7_learn_50 : decode cX7_learn 50 = .ok (.iload 6, 2) := by decide +kernel
theorem dX7_learn_52 : decode cX7_learn 52 = .ok (.iload 5, 2) := by decide +kernel
theorem dX7_learn_54 : decode cX7_learn 54 = .ok (.invokevirtual 50, 3) := by decide +kernel
theorem dX7_learn_57 : decode cX7_learn 57 = .ok (.iinc 6 1, 3) := by decide +kernel
theorem dX7_learn_60 : decode cX7_learn 60 = .ok (.goto (-21), 3) := by decide +kernel
theorem dX7_learn_63 : decode cX7_learn 63 = .ok (.iload 4, 2) := by decide +kernel
theorem dX7_learn_65 : decode cX7_learn 65 = .ok (.istore_n 2, 1) := by decide +kernel
theorem dX7_learn_66 : decode cX7_learn 66 = .ok (.iinc 3 1, 3) := by decide +kernel
theorem dX7_learn_69 : decode cX7_learn 69 = .ok (.goto (-60), 3) := by decide +kernel
theorem dX7_learn_72 : decode cX7_learn 72 = .ok (.return_, 1) := by decide +kernel
set_option maxRecDepth 20000 in
theorem ggX7_changeHeaps_X6_get : GoodIn wsX7_changeHeaps wsX6_get := goodIn_r _ [6, 7, 19] (by decide +kernel) (by decide +kernel)
set_option maxRecDepth 20000 in
theorem gX7_changeHeaps_X6_get : GoodIn wsX7_changeHeaps (wsV RX7 54 RX6 yX6_get wsX6_get) := goodIn_app (goodIn_of _ (by decide +kernel)) ggX7_changeHeaps_X6_get
set_option maxRecDepth 20000 in
theorem ggX7_changeHeaps_X6_set : GoodIn wsX7_changeHeaps wsX6_set := goodIn_r _ [11, 7, 19] (by decide +kernel) (by decide +kernel)
set_option maxRecDepth 20000 in
theorem gX7_changeHeaps_X6_set : GoodIn wsX7_changeHeaps (wsV RX7 50 RX6 yX6_set wsX6_set) := goodIn_app (goodIn_of _ (by decide +kernel)) ggX7_changeHeaps_X6_set
theorem dX7_changeHeaps_0 : decode cX7_changeHeaps 0 = .ok (.aload_n 0, 1) := by decide +kernel
theorem dX7_changeHeaps_1 : decode cX7_changeHeaps 1 = .ok (.getfield 14, 3) := by decide +kernel
theorem dX7_changeHeaps_4 : decode cX7_changeHeaps 4 = .ok (.iload_n 1, 1) := by decide +kernel
theorem dX7_changeHeaps_5 : decode cX7_changeHeaps 5 = .ok (.invokevirtual 54, 3) := by decide +kernel
theorem dX7_changeHeaps_8 : decode cX7_changeHeaps 8 = .ok (.istore_n 3, 1) := by decide +kernel
theorem dX7_changeHeaps_9 : decode cX7_changeHeaps 9 = .ok (.aload_n 0, 1) := by decide +kernel
theorem dX7_changeHeaps_10 : decode cX7_changeHeaps 10 = .ok (.getfield 14, 3) := by decide +kernel
theorem dX7_changeHeaps_13 : decode cX7_changeHeaps 13 = .ok (.iload_n 1, 1) := by decide +kernel
theorem dX7_changeHeaps_14 : decode cX7_changeHeaps 14 = .ok (.iload_n 2, 1) := by decide +kernel
theorem dX7_changeHeaps_15 : decode cX7_changeHeaps 15 = .ok (.invokevirtual 50, 3) := by decide +kernel
theorem dX7_changeHeaps_18 : decode cX7_changeHeaps 18 = .ok (.iload_n 3, 1) := by decide +kernel
theorem dX7_changeHeaps_19 : decode cX7_changeHeaps 19 = .ok (.ireturn, 1) := by decide +kernel
set_option maxRecDepth 20000 in
theorem ggX7_changeSpeed_X6_get : GoodIn wsX7_changeSpeed wsX6_get := goodIn_r _ [6, 7, 19] (by decide +kernel) (by decide +kernel)
set_option maxRecDepth 20000 in
theorem gX7_changeSpeed_X6_get : GoodIn wsX7_changeSpeed (wsV RX7 54 RX6 yX6_get wsX6_get) := goodIn_app (goodIn_of _ (by decide +kernel)) ggX7_changeSpeed_X6_get
set_option maxRecDepth 20000 in
theorem ggX7_changeSpeed_X6_set : GoodIn wsX7_changeSpeed wsX6_set := goodIn_r _ [11, 7, 19] (by decide +kernel) (by decide +kernel)
set_option maxRecDepth 20000 in
theorem gX7_changeSpeed_X6_set : GoodIn wsX7_changeSpeed (wsV RX7 50 RX6 yX6_set wsX6_set) := goodIn_app (goodIn_of _ (by decide +kernel)) ggX7_changeSpeed_X6_set
theorem dX7_changeSpeed_0 : decode cX7_changeSpeed 0 = .ok (.aload_n 0, 1) := by decide +kernel
theorem dX7_changeSpeed_1 : decode cX7_changeSpeed 1 = .ok (.getfield 20, 3) := by decide +kernel
theorem dX7_changeSpeed_4 : decode cX7_changeSpeed 4 = .ok (.iload_n 1, 1) := by decide +kernel
theorem dX7_changeSpeed_5 : decode cX7_changeSpeed 5 = .ok (.invokevirtual 54, 3) := by decide +kernel
theorem dX7_changeSpeed_8 : decode cX7_changeSpeed 8 = .ok (.istore_n 3, 1) := by decide +kernel
theorem dX7_changeSpeed_9 : decode cX7_changeSpeed 9 = .ok (.aload_n 0, 1) := by decide +kernel
theorem dX7_changeSpeed_10 : decode cX7_changeSpeed 10 = .ok (.getfield 20, 3) := by decide +kernel
theorem dX7_changeSpeed_13 : decode cX7_changeSpeed 13 = .ok (.iload_n 1, 1) := by decide +kernel
theorem dX7_changeSpeed_14 : decode cX7_changeSpeed 14 = .ok (.iload_n 2, 1) := by decide +kernel
theorem dX7_changeSpeed_15 : decode cX7_changeSpeed 15 = .ok (.invokevirtual 50, 3) := by decide +kernel
theorem dX7_changeSpeed_18 : decode cX7_changeSpeed 18 = .ok (.iload_n 3, 1) := by decide +kernel
theorem dX7_changeSpeed_19 : decode cX7_changeSpeed 19 = .ok (.ireturn, 1) := by decide +kernel
set_option maxRecDepth 20000 in
theorem ggX7_workOf_X6_get : GoodIn wsX7_workOf wsX6_get := goodIn_r _ [7, 8, 21] (by decide +kernel) (by decide +kernel)
set_option maxRecDepth 20000 in
theorem gX7_workOf_X6_get : GoodIn wsX7_workOf (wsV RX7 54 RX6 yX6_get wsX6_get) := goodIn_app (goodIn_of _ (by decide +kernel)) ggX7_workOf_X6_get
set_option maxRecDepth 20000 in
theorem ggX7_workOf_X7_roundedUp : GoodIn wsX7_workOf wsX7_roundedUp := goodIn_r _ [12, 13] (by decide +kernel) (by decide +kernel)
set_option maxRecDepth 20000 in
theorem gX7_workOf_X7_roundedUp : GoodIn wsX7_workOf (va_wsS RX7 57 yX7_roundedUp wsX7_roundedUp) := goodIn_app (goodIn_of _ (by decide +kernel)) ggX7_workOf_X7_roundedUp
theorem dX7_workOf_0 : decode cX7_workOf 0 = .ok (.aload_n 0, 1) := by decide +kernel
theorem dX7_workOf_1 : decode cX7_workOf 1 = .ok (.getfield 14, 3) := by decide +kernel
theorem dX7_workOf_4 : decode cX7_workOf 4 = .ok (.iload_n 1, 1) := by decide +kernel
theorem dX7_workOf_5 : decode cX7_workOf 5 = .ok (.invokevirtual 54, 3) := by decide +kernel
theorem dX7_workOf_8 : decode cX7_workOf 8 = .ok (.aload_n 0, 1) := by decide +kernel
theorem dX7_workOf_9 : decode cX7_workOf 9 = .ok (.getfield 20, 3) := by decide +kernel
theorem dX7_workOf_12 : decode cX7_workOf 12 = .ok (.iload_n 1, 1) := by decide +kernel
theorem dX7_workOf_13 : decode cX7_workOf 13 = .ok (.invokevirtual 54, 3) := by decide +kernel
theorem dX7_workOf_16 : decode cX7_workOf 16 = .ok (.invokestatic 57, 3) := by decide +kernel
theorem dX7_workOf_19 : decode cX7_workOf 19 = .ok (.ireturn, 1) := by decide +kernel
theorem dX7_roundedUp_0 : decode cX7_roundedUp 0 = .ok (.iload_n 1, 1) := by decide +kernel
theorem dX7_roundedUp_1 : decode cX7_roundedUp 1 = .ok (.iconst 1, 1) := by decide +kernel
theorem dX7_roundedUp_2 : decode cX7_roundedUp 2 = .ok (.if_icmp .ge 8, 3) := by decide +kernel
theorem dX7_roundedUp_5 : decode cX7_roundedUp 5 = .ok (.ldc 61, 2) := by decide +kernel
theorem dX7_roundedUp_7 : decode cX7_roundedUp 7 = .ok (.goto 10, 3) := by decide +kernel
theorem dX7_roundedUp_10 : decode cX7_roundedUp 10 = .ok (.iload_n 0, 1) := by decide +kernel
theorem dX7_roundedUp_11 : decode cX7_roundedUp 11 = .ok (.iload_n 1, 1) := by decide +kernel
theorem dX7_roundedUp_12 : decode cX7_roundedUp 12 = .ok (.iadd, 1) := by decide +kernel
theorem dX7_roundedUp_13 : decode cX7_roundedUp 13 = .ok (.iconst 1, 1) := by decide +kernel
theorem dX7_roundedUp_14 : decode cX7_roundedUp 14 = .ok (.isub, 1) := by decide +kernel
theorem dX7_roundedUp_15 : decode cX7_roundedUp 15 = .ok (.iload_n 1, 1) := by decide +kernel
theorem dX7_roundedUp_16 : decode cX7_roundedUp 16 = .ok (.idiv, 1) := by decide +kernel
theorem dX7_roundedUp_17 : decode cX7_roundedUp 17 = .ok (.ireturn, 1) := by decide +kernel
set_option maxRecDepth 20000 in
theorem ggX7_handsNeeded_X7_sortHours : GoodIn wsX7_handsNeeded wsX7_sortHours := goodIn_r _ [9, 10, 11, 12, 13, 14, 15, 16, 17, 18, 19, 20, 21, 22, 23, 24, 25, 26, 27, 28, 29, 30, 52, 53, 54, 55, 56, 57, 58, 59] (by decide +kernel) (by decide +kernel)
set_option maxRecDepth 20000 in
theorem gX7_handsNeeded_X7_sortHours : GoodIn wsX7_handsNeeded (wsV RX7 62 RX7 yX7_sortHours wsX7_sortHours) := goodIn_app (goodIn_of _ (by decide +kernel)) ggX7_handsNeeded_X7_sortHours
set_option maxRecDepth 20000 in
theorem ggX7_handsNeeded_X7_handsFor : GoodIn wsX7_handsNeeded wsX7_handsFor := goodIn_r _ [34, 35, 36, 37, 38, 39, 40, 8, 41, 42, 43, 18, 19, 20, 15, 21, 17, 44, 45, 46, 47, 48, 49, 50, 51, 10, 52, 53, 54, 55, 56, 57, 58, 59] (by decide +kernel) (by decide +kernel)
set_option maxRecDepth 20000 in
theorem gX7_handsNeeded_X7_handsFor : GoodIn wsX7_handsNeeded (wsV RX7 65 RX7 yX7_handsFor wsX7_handsFor) := goodIn_app (goodIn_of _ (by decide +kernel)) ggX7_handsNeeded_X7_handsFor
theorem dX7_handsNeeded_0 : decode cX7_handsNeeded 0 = .ok (.aload_n 0, 1) := by decide +kernel
theorem dX7_handsNeeded_1 : decode cX7_handsNeeded 1 = .ok (.iload_n 1, 1) := by decide +kernel
theorem dX7_handsNeeded_2 : decode cX7_handsNeeded 2 = .ok (.iload_n 2, 1) := by decide +kernel
theorem dX7_handsNeeded_3 : decode cX7_handsNeeded 3 = .ok (.invokevirtual 62, 3) := by decide +kernel
theorem dX7_handsNeeded_6 : decode cX7_handsNeeded 6 = .ok (.iconst 1, 1) := by decide +kernel
theorem dX7_handsNeeded_7 : decode cX7_handsNeeded 7 = .ok (.istore_n 3, 1) := by decide +kernel
theorem dX7_handsNeeded_8 : decode cX7_handsNeeded 8 = .ok (.iconst 1, 1) := by decide +kernel
theorem dX7_handsNeeded_9 : decode cX7_handsNeeded 9 = .ok (.istore 4, 2) := by decide +kernel
theorem dX7_handsNeeded_11 : decode cX7_handsNeeded 11 = .ok (.iload 4, 2) := by decide +kernel
theorem dX7_handsNeeded_13 : decode cX7_handsNeeded 13 = .ok (.bipush 32, 2) := by decide +kernel
theorem dX7_handsNeeded_15 : decode cX7_handsNeeded 15 = .ok (.if_icmp .ge 20, 3) := by decide +kernel
theorem dX7_handsNeeded_18 : decode cX7_handsNeeded 18 = .ok (.iload_n 3, 1) := by decide +kernel
theorem dX7_handsNeeded_19 : decode cX7_handsNeeded 19 = .ok (.aload_n 0, 1) := by decide +kernel
theorem dX7_handsNeeded_20 : decode cX7_handsNeeded 20 = .ok (.iload 4, 2) := by decide +kernel
theorem dX7_handsNeeded_22 : decode cX7_handsNeeded 22 = .ok (.invokevirtual 65, 3) := by decide +kernel
theorem dX7_handsNeeded_25 : decode cX7_handsNeeded 25 = .ok (.invokestatic 68, 3) := by decide +kernel
theorem dX7_handsNeeded_28 : decode cX7_handsNeeded 28 = .ok (.istore_n 3, 1) := by decide +kernel
theorem dX7_handsNeeded_29 : decode cX7_handsNeeded 29 = .ok (.iinc 4 1, 3) := by decide +kernel
theorem dX7_handsNeeded_32 : decode cX7_handsNeeded 32 = .ok (.goto (-21), 3) := by decide +kernel
theorem dX7_handsNeeded_35 : decode cX7_handsNeeded 35 = .ok (.iload_n 3, 1) := by decide +kernel
theorem dX7_handsNeeded_36 : decode cX7_handsNeeded 36 = .ok (.ireturn, 1) := by decide +kernel
set_option maxRecDepth 20000 in
theorem ggX7_sortHours_X6_fill : GoodIn wsX7_sortHours wsX6_fill := goodIn_r _ [7, 8, 29] (by decide +kernel) (by decide +kernel)
set_option maxRecDepth 20000 in
theorem gX7_sortHours_X6_fill : GoodIn wsX7_sortHours (wsV RX7 38 RX6 yX6_fill wsX6_fill) := goodIn_app (goodIn_of _ (by decide +kernel)) ggX7_sortHours_X6_fill
set_option maxRecDepth 20000 in
theorem ggX7_sortHours_X6_get : GoodIn wsX7_sortHours wsX6_get := goodIn_r _ [12, 8, 29] (by decide +kernel) (by decide +kernel)
set_option maxRecDepth 20000 in
theorem gX7_sortHours_X6_get : GoodIn wsX7_sortHours (wsV RX7 54 RX6 yX6_get wsX6_get) := goodIn_app (goodIn_of _ (by decide +kernel)) ggX7_sortHours_X6_get
set_option maxRecDepth 20000 in
theorem ggX7_sortHours_X6_add : GoodIn wsX7_sortHours wsX6_add := goodIn_r _ [16, 17, 10, 11, 6, 12, 8, 18, 19, 20, 21, 29] (by decide +kernel) (by decide +kernel)
set_option maxRecDepth 20000 in
theorem gX7_sortHours_X6_add : GoodIn wsX7_sortHours (wsV RX7 73 RX6 yX6_add wsX6_add) := goodIn_app (goodIn_of _ (by decide +kernel)) ggX7_sortHours_X6_add
theorem dX7_sortHours_0 : decode cX7_sortHours 0 = .ok (.aload_n 0, 1) := by decide +kernel
theorem dX7_sortHours_1 : decode cX7_sortHours 1 = .ok (.getfield 26, 3) := by decide +kernel
theorem dX7_sortHours_4 : decode cX7_sortHours 4 = .ok (.iconst 0, 1) := by decide +kernel
theorem dX7_sortHours_5 : decode cX7_sortHours 5 = .ok (.invokevirtual 38, 3) := by decide +kernel
theorem dX7_sortHours_8 : decode cX7_sortHours 8 = .ok (.iload_n 1, 1) := by decide +kernel
theorem dX7_sortHours_9 : decode cX7_sortHours 9 = .ok (.istore_n 3, 1) := by decide +kernel
theorem dX7_sortHours_10 : decode cX7_sortHours 10 = .ok (.iload_n 3, 1) := by decide +kernel
theorem dX7_sortHours_11 : decode cX7_sortHours 11 = .ok (.iload_n 2, 1) := by decide +kernel
theorem dX7_sortHours_12 : decode cX7_sortHours 12 = .ok (.if_icmp .ge 28, 3) := by decide +kernel
theorem dX7_sortHours_15 : decode cX7_sortHours 15 = .ok (.aload_n 0, 1) := by decide +kernel
theorem dX7_sortHours_16 : decode cX7_sortHours 16 = .ok (.getfield 26, 3) := by decide +kernel
theorem dX7_sortHours_19 : decode cX7_sortHours 19 = .ok (.bipush 31, 2) := by decide +kernel
theorem dX7_sortHours_21 : decode cX7_sortHours 21 = .ok (.aload_n 0, 1) := by decide +kernel
theorem dX7_sortHours_22 : decode cX7_sortHours 22 = .ok (.getfield 23, 3) := by decide +kernel
theorem dX7_sortHours_25 : decode cX7_sortHours 25 = .ok (.iload_n 3, 1) := by decide +kernel
theorem dX7_sortHours_26 : decode cX7_sortHours 26 = .ok (.invokevirtual 54, 3) := by decide +kernel
theorem dX7_sortHours_29 : decode cX7_sortHours 29 = .ok (.isub, 1) := by decide +kernel
theorem dX7_sortHours_30 : decode cX7_sortHours 30 = .ok (.iconst 1, 1) := by decide +kernel
theorem dX7_sortHours_31 : decode cX7_sortHours 31 = .ok (.invokevirtual 73, 3) := by decide +kernel
theorem dX7_sortHours_34 : decode cX7_sortHours 34 = .ok (.iinc 3 1, 3) := by decide +kernel
theorem dX7_sortHours_37 : decode cX7_sortHours 37 = .ok (.goto (-27), 3) := by decide +kernel
theorem dX7_sortHours_40 : decode cX7_sortHours 40 = .ok (.return_, 1) := by decide +kernel
set_option maxRecDepth 20000 in
theorem ggX7_handsFor_X10_hasBit : GoodIn wsX7_handsFor wsX10_hasBit := goodIn_r _ [3] (by decide +kernel) (by decide +kernel)
set_option maxRecDepth 20000 in
theorem gX7_handsFor_X10_hasBit_n76 : GoodIn wsX7_handsFor (wsX10_hasBit) := ggX7_handsFor_X10_hasBit
set_option maxRecDepth 20000 in
theorem ggX7_handsFor_X7_workOf : GoodIn wsX7_handsFor wsX7_workOf := goodIn_r _ [8, 9, 10, 11, 12, 13, 14, 15, 16, 17, 18, 7, 19, 20, 26, 27, 28, 29, 30, 31, 32, 33] (by decide +kernel) (by decide +kernel)
set_option maxRecDepth 20000 in
theorem gX7_handsFor_X7_workOf : GoodIn wsX7_handsFor (wsV RX7 80 RX7 yX7_workOf wsX7_workOf) := goodIn_app (goodIn_of _ (by decide +kernel)) ggX7_handsFor_X7_workOf
set_option maxRecDepth 20000 in
theorem ggX7_handsFor_X7_hoursFor : GoodIn wsX7_handsFor wsX7_hoursFor := goodIn_r _ [24, 25, 11, 12, 13, 14, 15, 16, 26, 27, 28, 29, 30, 31, 32, 33] (by decide +kernel) (by decide +kernel)
set_option maxRecDepth 20000 in
theorem gX7_handsFor_X7_hoursFor : GoodIn wsX7_handsFor (wsV RX7 83 RX7 yX7_hoursFor wsX7_hoursFor) := goodIn_app (goodIn_of _ (by decide +kernel)) ggX7_handsFor_X7_hoursFor
set_option maxRecDepth 20000 in
theorem ggX7_handsFor_X7_roundedUp : GoodIn wsX7_handsFor wsX7_roundedUp := goodIn_r _ [19, 20] (by decide +kernel) (by decide +kernel)
set_option maxRecDepth 20000 in
theorem gX7_handsFor_X7_roundedUp : GoodIn wsX7_handsFor (va_wsS RX7 57 yX7_roundedUp wsX7_roundedUp) := goodIn_app (goodIn_of _ (by decide +kernel)) ggX7_handsFor_X7_roundedUp
theorem dX7_handsFor_0 : decode cX7_handsFor 0 = .ok (.iconst 0, 1) := by decide +kernel
theorem dX7_handsFor_1 : decode cX7_handsFor 1 = .ok (.istore_n 2, 1) := by decide +kernel
theorem dX7_handsFor_2 : decode cX7_handsFor 2 = .ok (.iconst 0, 1) := by decide +kernel
theorem dX7_handsFor_3 : decode cX7_handsFor 3 = .ok (.istore_n 3, 1) := by decide +kernel
theorem dX7_handsFor_4 : decode cX7_handsFor 4 = .ok (.iload_n 3, 1) := by decide +kernel
theorem dX7_handsFor_5 : decode cX7_handsFor 5 = .ok (.iconst 5, 1) := by decide +kernel
theorem dX7_handsFor_6 : decode cX7_handsFor 6 = .ok (.if_icmp .ge 25, 3) := by decide +kernel
theorem dX7_handsFor_9 : decode cX7_handsFor 9 = .ok (.iload_n 1, 1) := by decide +kernel
theorem dX7_handsFor_10 : decode cX7_handsFor 10 = .ok (.iload_n 3, 1) := by decide +kernel
theorem dX7_handsFor_11 : decode cX7_handsFor 11 = .ok (.invokestatic 76, 3) := by decide +kernel
theorem dX7_handsFor_14 : decode cX7_handsFor 14 = .ok (.ifCond .eq 11, 3) := by decide +kernel
theorem dX7_handsFor_17 : decode cX7_handsFor 17 = .ok (.iload_n 2, 1) := by decide +kernel
theorem dX7_handsFor_18 : decode cX7_handsFor 18 = .ok (.aload_n 0, 1) := by decide +kernel
theorem dX7_handsFor_19 : decode cX7_handsFor 19 = .ok (.iload_n 3, 1) := by decide +kernel
theorem dX7_handsFor_20 : decode cX7_handsFor 20 = .ok (.invokevirtual 80, 3) := by decide +kernel
theorem dX7_handsFor_23 : decode cX7_handsFor 23 = .ok (.iadd, 1) := by decide +kernel
theorem dX7_handsFor_24 : decode cX7_handsFor 24 = .ok (.istore_n 2, 1) := by decide +kernel
theorem dX7_handsFor_25 : decode cX7_handsFor 25 = .ok (.iinc 3 1, 3) := by decide +kernel
theorem dX7_handsFor_28 : decode cX7_handsFor 28 = .ok (.goto (-24), 3) := by decide +kernel
theorem dX7_handsFor_31 : decode cX7_handsFor 31 = .ok (.iload_n 2, 1) := by decide +kernel
theorem dX7_handsFor_32 : decode cX7_handsFor 32 = .ok (.ifCond .ne 7, 3) := by decide +kernel
theorem dX7_handsFor_35 : decode cX7_handsFor 35 = .ok (.iconst 0, 1) := by decide +kernel
theorem dX7_handsFor_36 : decode cX7_handsFor 36 = .ok (.goto 12, 3) := by decide +kernel
theorem dX7_handsFor_39 : decode cX7_handsFor 39 = .ok (.iload_n 2, 1) := by decide +kernel
theorem dX7_handsFor_40 : decode cX7_handsFor 40 = .ok (.aload_n 0, 1) := by decide +kernel
theorem dX7_handsFor_41 : decode cX7_handsFor 41 = .ok (.iload_n 1, 1) := by decide +kernel
theorem dX7_handsFor_42 : decode cX7_handsFor 42 = .ok (.invokevirtual 83, 3) := by decide +kernel
theorem dX7_handsFor_45 : decode cX7_handsFor 45 = .ok (.invokestatic 57, 3) := by decide +kernel
theorem dX7_handsFor_48 : decode cX7_handsFor 48 = .ok (.ireturn, 1) := by decide +kernel
set_option maxRecDepth 20000 in
theorem ggX7_hoursFor_X6_get : GoodIn wsX7_hoursFor wsX6_get := goodIn_r _ [6, 7, 15] (by decide +kernel) (by decide +kernel)
set_option maxRecDepth 20000 in
theorem gX7_hoursFor_X6_get : GoodIn wsX7_hoursFor (wsV RX7 54 RX6 yX6_get wsX6_get) := goodIn_app (goodIn_of _ (by decide +kernel)) ggX7_hoursFor_X6_get
theorem dX7_hoursFor_0 : decode cX7_hoursFor 0 = .ok (.iconst 0, 1) := by decide +kernel
theorem dX7_hoursFor_1 : decode cX7_hoursFor 1 = .ok (.istore_n 2, 1) := by decide +kernel
theorem dX7_hoursFor_2 : decode cX7_hoursFor 2 = .ok (.iconst 1, 1) := by decide +kernel
theorem dX7_hoursFor_3 : decode cX7_hoursFor 3 = .ok (.istore_n 3, 1) := by decide +kernel
theorem dX7_hoursFor_4 : decode cX7_hoursFor 4 = .ok (.iload_n 3, 1) := by decide +kernel
theorem dX7_hoursFor_5 : decode cX7_hoursFor 5 = .ok (.bipush 32, 2) := by decide +kernel
theorem dX7_hoursFor_7 : decode cX7_hoursFor 7 = .ok (.if_icmp .ge 26, 3) := by decide +kernel
theorem dX7_hoursFor_10 : decode cX7_hoursFor 10 = .ok (.iload_n 3, 1) := by decide +kernel
theorem dX7_hoursFor_11 : decode cX7_hoursFor 11 = .ok (.iload_n 1, 1) := by decide +kernel
theorem dX7_hoursFor_12 : decode cX7_hoursFor 12 = .ok (.iand, 1) := by decide +kernel
theorem dX7_hoursFor_13 : decode cX7_hoursFor 13 = .ok (.ifCond .eq 14, 3) := by decide +kernel
theorem dX7_hoursFor_16 : decode cX7_hoursFor 16 = .ok (.iload_n 2, 1) := by decide +kernel
theorem dX7_hoursFor_17 : decode cX7_hoursFor 17 = .ok (.aload_n 0, 1) := by decide +kernel
theorem dX7_hoursFor_18 : decode cX7_hoursFor 18 = .ok (.getfield 26, 3) := by decide +kernel
theorem dX7_hoursFor_21 : decode cX7_hoursFor 21 = .ok (.iload_n 3, 1) := by decide +kernel
theorem dX7_hoursFor_22 : decode cX7_hoursFor 22 = .ok (.invokevirtual 54, 3) := by decide +kernel
theorem dX7_hoursFor_25 : decode cX7_hoursFor 25 = .ok (.iadd, 1) := by decide +kernel
theorem dX7_hoursFor_26 : decode cX7_hoursFor 26 = .ok (.istore_n 2, 1) := by decide +kernel
theorem dX7_hoursFor_27 : decode cX7_hoursFor 27 = .ok (.iinc 3 1, 3) := by decide +kernel
theorem dX7_hoursFor_30 : decode cX7_hoursFor 30 = .ok (.goto (-26), 3) := by decide +kernel
theorem dX7_hoursFor_33 : decode cX7_hoursFor 33 = .ok (.iload_n 2, 1) := by decide +kernel
theorem dX7_hoursFor_34 : decode cX7_hoursFor 34 = .ok (.ireturn, 1) := by decide +kernel
set_option maxRecDepth 20000 in
theorem ggX7_earliestEnd_X7_handsNeeded : GoodIn wsX7_earliestEnd wsX7_handsNeeded := goodIn_r _ [5, 6, 7, 8, 9, 10, 11, 12, 4, 13, 14, 15, 16, 17, 18, 19, 20, 21, 22, 23, 24, 25, 26, 27, 28, 29, 30, 31, 32, 33, 34, 35, 36, 37, 38, 39, 40, 41, 42, 43, 44, 45, 46, 47, 48, 49, 50, 51, 52, 53, 54, 55, 56, 57, 58, 59, 60, 61, 62, 63] (by decide +kernel) (by decide +kernel)
set_option maxRecDepth 20000 in
theorem gX7_earliestEnd_X7_handsNeeded : GoodIn wsX7_earliestEnd (wsV RX7 86 RX7 yX7_handsNeeded wsX7_handsNeeded) := goodIn_app (goodIn_of _ (by decide +kernel)) ggX7_earliestEnd_X7_handsNeeded
theorem dX7_earliestEnd_0 : decode cX7_earliestEnd 0 = .ok (.aload_n 0, 1) := by decide +kernel
theorem dX7_earliestEnd_1 : decode cX7_earliestEnd 1 = .ok (.iload_n 1, 1) := by decide +kernel
theorem dX7_earliestEnd_2 : decode cX7_earliestEnd 2 = .ok (.sipush 1000, 3) := by decide +kernel
theorem dX7_earliestEnd_5 : decode cX7_earliestEnd 5 = .ok (.invokevirtual 86, 3) := by decide +kernel
theorem dX7_earliestEnd_8 : decode cX7_earliestEnd 8 = .ok (.iload_n 2, 1) := by decide +kernel
theorem dX7_earliestEnd_9 : decode cX7_earliestEnd 9 = .ok (.if_icmp .le 6, 3) := by decide +kernel
theorem dX7_earliestEnd_12 : decode cX7_earliestEnd 12 = .ok (.bipush (-4), 2) := by decide +kernel
theorem dX7_earliestEnd_14 : decode cX7_earliestEnd 14 = .ok (.ireturn, 1) := by decide +kernel
theorem dX7_earliestEnd_15 : decode cX7_earliestEnd 15 = .ok (.iload_n 1, 1) := by decide +kernel
theorem dX7_earliestEnd_16 : decode cX7_earliestEnd 16 = .ok (.istore_n 3, 1) := by decide +kernel
theorem dX7_earliestEnd_17 : decode cX7_earliestEnd 17 = .ok (.sipush 1000, 3) := by decide +kernel
theorem dX7_earliestEnd_20 : decode cX7_earliestEnd 20 = .ok (.istore 4, 2) := by decide +kernel
theorem dX7_earliestEnd_22 : decode cX7_earliestEnd 22 = .ok (.iconst 0, 1) := by decide +kernel
theorem dX7_earliestEnd_23 : decode cX7_earliestEnd 23 = .ok (.istore 5, 2) := by decide +kernel
theorem dX7_earliestEnd_25 : decode cX7_earliestEnd 25 = .ok (.iload 5, 2) := by decide +kernel
theorem dX7_earliestEnd_27 : decode cX7_earliestEnd 27 = .ok (.sipush 1000, 3) := by decide +kernel
theorem dX7_earliestEnd_30 : decode cX7_earliestEnd 30 = .ok (.if_icmp .ge 46, 3) := by decide +kernel
theorem dX7_earliestEnd_33 : decode cX7_earliestEnd 33 = .ok (.iload_n 3, 1) := by decide +kernel
theorem dX7_earliestEnd_34 : decode cX7_earliestEnd 34 = .ok (.iload 4, 2) := by decide +kernel
theorem dX7_earliestEnd_36 : decode cX7_earliestEnd 36 = .ok (.if_icmp .ge 40, 3) := by decide +kernel
theorem dX7_earliestEnd_39 : decode cX7_earliestEnd 39 = .ok (.iload_n 3, 1) := by decide +kernel
theorem dX7_earliestEnd_40 : decode cX7_earliestEnd 40 = .ok (.iload 4, 2) := by decide +kernel
theorem dX7_earliestEnd_42 : decode cX7_earliestEnd 42 = .ok (.iadd, 1) := by decide +kernel
theorem dX7_earliestEnd_43 : decode cX7_earliestEnd 43 = .ok (.iconst 2, 1) := by decide +kernel
theorem dX7_earliestEnd_44 : decode cX7_earliestEnd 44 = .ok (.idiv, 1) := by decide +kernel
theorem dX7_earliestEnd_45 : decode cX7_earliestEnd 45 = .ok (.istore 6, 2) := by decide +kernel
theorem dX7_earliestEnd_47 : decode cX7_earliestEnd 47 = .ok (.aload_n 0, 1) := by decide +kernel
theorem dX7_earliestEnd_48 : decode cX7_earliestEnd 48 = .ok (.iload_n 1, 1) := by decide +kernel
theorem dX7_earliestEnd_49 : decode cX7_earliestEnd 49 = .ok (.iload 6, 2) := by decide +kernel
theorem dX7_earliestEnd_51 : decode cX7_earliestEnd 51 = .ok (.invokevirtual 86, 3) := by decide +kernel
theorem dX7_earliestEnd_54 : decode cX7_earliestEnd 54 = .ok (.iload_n 2, 1) := by decide +kernel
theorem dX7_earliestEnd_55 : decode cX7_earliestEnd 55 = .ok (.if_icmp .le 11, 3) := by decide +kernel
theorem dX7_earliestEnd_58 : decode cX7_earliestEnd 58 = .ok (.iload 6, 2) := by decide +kernel
theorem dX7_earliestEnd_60 : decode cX7_earliestEnd 60 = .ok (.iconst 1, 1) := by decide +kernel
theorem dX7_earliestEnd_61 : decode cX7_earliestEnd 61 = .ok (.iadd, 1) := by decide +kernel
theorem dX7_earliestEnd_62 : decode cX7_earliestEnd 62 = .ok (.istore_n 3, 1) := by decide +kernel
theorem dX7_earliestEnd_63 : decode cX7_earliestEnd 63 = .ok (.goto 7, 3) := by decide +kernel
theorem dX7_earliestEnd_66 : decode cX7_earliestEnd 66 = .ok (.iload 6, 2) := by decide +kernel
theorem dX7_earliestEnd_68 : decode cX7_earliestEnd 68 = .ok (.istore 4, 2) := by decide +kernel
theorem dX7_earliestEnd_70 : decode cX7_earliestEnd 70 = .ok (.iinc 5 1, 3) := by decide +kernel
theorem dX7_earliestEnd_73 : decode cX7_earliestEnd 73 = .ok (.goto (-48), 3) := by decide +kernel
theorem dX7_earliestEnd_76 : decode cX7_earliestEnd 76 = .ok (.iload 4, 2) := by decide +kernel
theorem dX7_earliestEnd_78 : decode cX7_earliestEnd 78 = .ok (.ireturn, 1) := by decide +kernel
set_option maxRecDepth 20000 in
theorem ggX7_work_X7_workOf : GoodIn wsX7_work wsX7_workOf := goodIn_r _ [7, 8, 9, 10, 11, 12, 13, 14, 15, 16, 17, 6, 18, 19, 59, 60, 61, 62, 63, 64, 65, 66] (by decide +kernel) (by decide +kernel)
set_option maxRecDepth 20000 in
theorem gX7_work_X7_workOf : GoodIn wsX7_work (wsV RX7 80 RX7 yX7_workOf wsX7_workOf) := goodIn_app (goodIn_of _ (by decide +kernel)) ggX7_work_X7_workOf
set_option maxRecDepth 20000 in
theorem ggX7_work_X6_set : GoodIn wsX7_work wsX6_set := goodIn_r _ [23, 15, 66] (by decide +kernel) (by decide +kernel)
set_option maxRecDepth 20000 in
theorem gX7_work_X6_set : GoodIn wsX7_work (wsV RX7 50 RX6 yX6_set wsX6_set) := goodIn_app (goodIn_of _ (by decide +kernel)) ggX7_work_X6_set
set_option maxRecDepth 20000 in
theorem ggX7_work_X7_openHours : GoodIn wsX7_work wsX7_openHours := goodIn_r _ [27, 28, 29, 30, 6, 31, 32, 10, 11, 12, 13, 14, 15, 33, 34, 35, 59, 60, 61, 62, 63, 64, 65, 66] (by decide +kernel) (by decide +kernel)
set_option maxRecDepth 20000 in
theorem gX7_work_X7_openHours : GoodIn wsX7_work (wsV RX7 89 RX7 yX7_openHours wsX7_openHours) := goodIn_app (goodIn_of _ (by decide +kernel)) ggX7_work_X7_openHours
set_option maxRecDepth 20000 in
theorem ggX7_work_X7_placeHands : GoodIn wsX7_work wsX7_placeHands := goodIn_r _ [39, 40, 1, 41, 42, 43, 44, 2, 45, 46, 47, 13, 48, 15, 49, 50, 51, 6, 52, 28, 29, 30, 31, 32, 10, 11, 12, 14, 33, 34, 35, 20, 21, 22, 23, 53, 54, 55, 56, 57, 58, 59, 60, 61, 62, 63, 64, 65, 66] (by decide +kernel) (by decide +kernel)
set_option maxRecDepth 20000 in
theorem gX7_work_X7_placeHands : GoodIn wsX7_work (wsV RX7 93 RX7 yX7_placeHands wsX7_placeHands) := goodIn_app (goodIn_of _ (by decide +kernel)) ggX7_work_X7_placeHands
theorem dX7_work_0 : decode cX7_work 0 = .ok (.iconst 0, 1) := by decide +kernel
theorem dX7_work_1 : decode cX7_work 1 = .ok (.istore 5, 2) := by decide +kernel
theorem dX7_work_3 : decode cX7_work 3 = .ok (.iload 5, 2) := by decide +kernel
theorem dX7_work_5 : decode cX7_work 5 = .ok (.iconst 5, 1) := by decide +kernel
theorem dX7_work_6 : decode cX7_work 6 = .ok (.if_icmp .ge 41, 3) := by decide +kernel
theorem dX7_work_9 : decode cX7_work 9 = .ok (.aload_n 0, 1) := by decide +kernel
theorem dX7_work_10 : decode cX7_work 10 = .ok (.getfield 29, 3) := by decide +kernel
theorem dX7_work_13 : decode cX7_work 13 = .ok (.iload 5, 2) := by decide +kernel
theorem dX7_work_15 : decode cX7_work 15 = .ok (.aload_n 0, 1) := by decide +kernel
theorem dX7_work_16 : decode cX7_work 16 = .ok (.iload 5, 2) := by decide +kernel
theorem dX7_work_18 : decode cX7_work 18 = .ok (.invokevirtual 80, 3) := by decide +kernel
theorem dX7_work_21 : decode cX7_work 21 = .ok (.invokevirtual 50, 3) := by decide +kernel
theorem dX7_work_24 : decode cX7_work 24 = .ok (.aload_n 0, 1) := by decide +kernel
theorem dX7_work_25 : decode cX7_work 25 = .ok (.getfield 32, 3) := by decide +kernel
theorem dX7_work_28 : decode cX7_work 28 = .ok (.iload 5, 2) := by decide +kernel
theorem dX7_work_30 : decode cX7_work 30 = .ok (.aload_n 0, 1) := by decide +kernel
theorem dX7_work_31 : decode cX7_work 31 = .ok (.iload 5, 2) := by decide +kernel
theorem dX7_work_33 : decode cX7_work 33 = .ok (.iload_n 1, 1) := by decide +kernel
theorem dX7_work_34 : decode cX7_work 34 = .ok (.iload_n 2, 1) := by decide +kernel
theorem dX7_work_35 : decode cX7_work 35 = .ok (.invokevirtual 89, 3) := by decide +kernel
theorem dX7_work_38 : decode cX7_work 38 = .ok (.invokevirtual 50, 3) := by decide +kernel
theorem dX7_work_41 : decode cX7_work 41 = .ok (.iinc 5 1, 3) := by decide +kernel
theorem dX7_work_44 : decode cX7_work 44 = .ok (.goto (-41), 3) := by decide +kernel
theorem dX7_work_47 : decode cX7_work 47 = .ok (.iload_n 1, 1) := by decide +kernel
theorem dX7_work_48 : decode cX7_work 48 = .ok (.istore 5, 2) := by decide +kernel
theorem dX7_work_50 : decode cX7_work 50 = .ok (.iload 5, 2) := by decide +kernel
theorem dX7_work_52 : decode cX7_work 52 = .ok (.iload 4, 2) := by decide +kernel
theorem dX7_work_54 : decode cX7_work 54 = .ok (.if_icmp .ge 16, 3) := by decide +kernel
theorem dX7_work_57 : decode cX7_work 57 = .ok (.aload_n 0, 1) := by decide +kernel
theorem dX7_work_58 : decode cX7_work 58 = .ok (.iload 5, 2) := by decide +kernel
theorem dX7_work_60 : decode cX7_work 60 = .ok (.iload_n 3, 1) := by decide +kernel
theorem dX7_work_61 : decode cX7_work 61 = .ok (.invokevirtual 93, 3) := by decide +kernel
theorem dX7_work_64 : decode cX7_work 64 = .ok (.iinc 5 1, 3) := by decide +kernel
theorem dX7_work_67 : decode cX7_work 67 = .ok (.goto (-17), 3) := by decide +kernel
theorem dX7_work_70 : decode cX7_work 70 = .ok (.return_, 1) := by decide +kernel
set_option maxRecDepth 20000 in
theorem ggX7_openHours_X7_isOpen : GoodIn wsX7_openHours wsX7_isOpen := goodIn_r _ [5, 6, 7, 8, 9, 10, 11, 12, 13, 14, 15, 16, 17, 18, 19, 20, 21, 22, 23] (by decide +kernel) (by decide +kernel)
set_option maxRecDepth 20000 in
theorem gX7_openHours_X7_isOpen : GoodIn wsX7_openHours (wsV RX7 96 RX7 yX7_isOpen wsX7_isOpen) := goodIn_app (goodIn_of _ (by decide +kernel)) ggX7_openHours_X7_isOpen
theorem dX7_openHours_0 : decode cX7_openHours 0 = .ok (.iconst 0, 1) := by decide +kernel
theorem dX7_openHours_1 : decode cX7_openHours 1 = .ok (.istore 4, 2) := by decide +kernel
theorem dX7_openHours_3 : decode cX7_openHours 3 = .ok (.iload_n 2, 1) := by decide +kernel
theorem dX7_openHours_4 : decode cX7_openHours 4 = .ok (.istore 5, 2) := by decide +kernel
theorem dX7_openHours_6 : decode cX7_openHours 6 = .ok (.iload 5, 2) := by decide +kernel
theorem dX7_openHours_8 : decode cX7_openHours 8 = .ok (.iload_n 3, 1) := by decide +kernel
theorem dX7_openHours_9 : decode cX7_openHours 9 = .ok (.if_icmp .ge 22, 3) := by decide +kernel
theorem dX7_openHours_12 : decode cX7_openHours 12 = .ok (.aload_n 0, 1) := by decide +kernel
theorem dX7_openHours_13 : decode cX7_openHours 13 = .ok (.iload_n 1, 1) := by decide +kernel
theorem dX7_openHours_14 : decode cX7_openHours 14 = .ok (.iload 5, 2) := by decide +kernel
theorem dX7_openHours_16 : decode cX7_openHours 16 = .ok (.invokevirtual 96, 3) := by decide +kernel
theorem dX7_openHours_19 : decode cX7_openHours 19 = .ok (.ifCond .eq 6, 3) := by decide +kernel
theorem dX7_openHours_22 : decode cX7_openHours 22 = .ok (.iinc 4 1, 3) := by decide +kernel
theorem dX7_openHours_25 : decode cX7_openHours 25 = .ok (.iinc 5 1, 3) := by decide +kernel
theorem dX7_openHours_28 : decode cX7_openHours 28 = .ok (.goto (-22), 3) := by decide +kernel
theorem dX7_openHours_31 : decode cX7_openHours 31 = .ok (.iload 4, 2) := by decide +kernel
theorem dX7_openHours_33 : decode cX7_openHours 33 = .ok (.ireturn, 1) := by decide +kernel
set_option maxRecDepth 20000 in
theorem ggX7_isOpen_X6_get : GoodIn wsX7_isOpen wsX6_get := goodIn_r _ [6, 7, 18] (by decide +kernel) (by decide +kernel)
set_option maxRecDepth 20000 in
theorem gX7_isOpen_X6_get : GoodIn wsX7_isOpen (wsV RX7 54 RX6 yX6_get wsX6_get) := goodIn_app (goodIn_of _ (by decide +kernel)) ggX7_isOpen_X6_get
set_option maxRecDepth 20000 in
theorem ggX7_isOpen_X10_hasBit : GoodIn wsX7_isOpen wsX10_hasBit := goodIn_r _ [10] (by decide +kernel) (by decide +kernel)
set_option maxRecDepth 20000 in
theorem gX7_isOpen_X10_hasBit_n76 : GoodIn wsX7_isOpen (wsX10_hasBit) := ggX7_isOpen_X10_hasBit
theorem dX7_isOpen_0 : decode cX7_isOpen 0 = .ok (.aload_n 0, 1) := by decide +kernel
theorem dX7_isOpen_1 : decode cX7_isOpen 1 = .ok (.getfield 23, 3) := by decide +kernel
theorem dX7_isOpen_4 : decode cX7_isOpen 4 = .ok (.iload_n 2, 1) := by decide +kernel
theorem dX7_isOpen_5 : decode cX7_isOpen 5 = .ok (.invokevirtual 54, 3) := by decide +kernel
theorem dX7_isOpen_8 : decode cX7_isOpen 8 = .ok (.iload_n 1, 1) := by decide +kernel
theorem dX7_isOpen_9 : decode cX7_isOpen 9 = .ok (.invokestatic 76, 3) := by decide +kernel
theorem dX7_isOpen_12 : decode cX7_isOpen 12 = .ok (.ifCond .ne 7, 3) := by decide +kernel
theorem dX7_isOpen_15 : decode cX7_isOpen 15 = .ok (.iconst 1, 1) := by decide +kernel
theorem dX7_isOpen_16 : decode cX7_isOpen 16 = .ok (.goto 4, 3) := by decide +kernel
theorem dX7_isOpen_19 : decode cX7_isOpen 19 = .ok (.iconst 0, 1) := by decide +kernel
theorem dX7_isOpen_20 : decode cX7_isOpen 20 = .ok (.ireturn, 1) := by decide +kernel
set_option maxRecDepth 20000 in
theorem ggX7_placeHands_X6_fill : GoodIn wsX7_placeHands wsX6_fill := goodIn_r _ [12, 13, 48] (by decide +kernel) (by decide +kernel)
set_option maxRecDepth 20000 in
theorem gX7_placeHands_X6_fill : GoodIn wsX7_placeHands (wsV RX7 38 RX6 yX6_fill wsX6_fill) := goodIn_app (goodIn_of _ (by decide +kernel)) ggX7_placeHands_X6_fill
set_option maxRecDepth 20000 in
theorem ggX7_placeHands_X7_scarcest : GoodIn wsX7_placeHands wsX7_scarcest := goodIn_r _ [18, 2, 7, 19, 20, 21, 17, 22, 23, 24, 25, 26, 11, 27, 13, 28, 29, 30, 41, 42, 43, 44, 45, 46, 47, 48] (by decide +kernel) (by decide +kernel)
set_option maxRecDepth 20000 in
theorem gX7_placeHands_X7_scarcest : GoodIn wsX7_placeHands (wsV RX7 99 RX7 yX7_scarcest wsX7_scarcest) := goodIn_app (goodIn_of _ (by decide +kernel)) ggX7_placeHands_X7_scarcest
set_option maxRecDepth 20000 in
theorem ggX7_placeHands_X6_get : GoodIn wsX7_placeHands wsX6_get := goodIn_r _ [27, 13, 48] (by decide +kernel) (by decide +kernel)
set_option maxRecDepth 20000 in
theorem gX7_placeHands_X6_get : GoodIn wsX7_placeHands (wsV RX7 54 RX6 yX6_get wsX6_get) := goodIn_app (goodIn_of _ (by decide +kernel)) ggX7_placeHands_X6_get
set_option maxRecDepth 20000 in
theorem ggX7_placeHands_X6_set : GoodIn wsX7_placeHands wsX6_set := goodIn_r _ [34, 13, 48] (by decide +kernel) (by decide +kernel)
set_option maxRecDepth 20000 in
theorem gX7_placeHands_X6_set : GoodIn wsX7_placeHands (wsV RX7 50 RX6 yX6_set wsX6_set) := goodIn_app (goodIn_of _ (by decide +kernel)) ggX7_placeHands_X6_set
set_option maxRecDepth 20000 in
theorem ggX7_placeHands_X6_add : GoodIn wsX7_placeHands wsX6_add := goodIn_r _ [38, 39, 25, 26, 11, 27, 13, 40, 32, 33, 34, 48] (by decide +kernel) (by decide +kernel)
set_option maxRecDepth 20000 in
theorem gX7_placeHands_X6_add : GoodIn wsX7_placeHands (wsV RX7 73 RX6 yX6_add wsX6_add) := goodIn_app (goodIn_of _ (by decide +kernel)) ggX7_placeHands_X6_add
set_option maxRecDepth 20000 in
theorem ggX7_placeHands_X7_isOpen : GoodIn wsX7_placeHands wsX7_isOpen := goodIn_r _ [22, 23, 24, 25, 26, 11, 27, 13, 28, 29, 30, 41, 42, 43, 44, 45, 46, 47, 48] (by decide +kernel) (by decide +kernel)
set_option maxRecDepth 20000 in
theorem gX7_placeHands_X7_isOpen : GoodIn wsX7_placeHands (wsV RX7 96 RX7 yX7_isOpen wsX7_isOpen) := goodIn_app (goodIn_of _ (by decide +kernel)) ggX7_placeHands_X7_isOpen
theorem dX7_placeHands_0 : decode cX7_placeHands 0 = .ok (.aload_n 0, 1) := by decide +kernel
theorem dX7_placeHands_1 : decode cX7_placeHands 1 = .ok (.getfield 35, 3) := by decide +kernel
theorem dX7_placeHands_4 : decode cX7_placeHands 4 = .ok (.iconst 0, 1) := by decide +kernel
theorem dX7_placeHands_5 : decode cX7_placeHands 5 = .ok (.invokevirtual 38, 3) := by decide +kernel
theorem dX7_placeHands_8 : decode cX7_placeHands 8 = .ok (.iload_n 2, 1) := by decide +kernel
theorem dX7_placeHands_9 : decode cX7_placeHands 9 = .ok (.istore_n 3, 1) := by decide +kernel
theorem dX7_placeHands_10 : decode cX7_placeHands 10 = .ok (.iconst 0, 1) := by decide +kernel
theorem dX7_placeHands_11 : decode cX7_placeHands 11 = .ok (.istore 4, 2) := by decide +kernel
theorem dX7_placeHands_13 : decode cX7_placeHands 13 = .ok (.iload 4, 2) := by decide +kernel
theorem dX7_placeHands_15 : decode cX7_placeHands 15 = .ok (.iconst 5, 1) := by decide +kernel
theorem dX7_placeHands_16 : decode cX7_placeHands 16 = .ok (.if_icmp .ge 73, 3) := by decide +kernel
theorem dX7_placeHands_19 : decode cX7_placeHands 19 = .ok (.iload_n 3, 1) := by decide +kernel
theorem dX7_placeHands_20 : decode cX7_placeHands 20 = .ok (.ifCond .le 69, 3) := by decide +kernel
theorem dX7_placeHands_23 : decode cX7_placeHands 23 = .ok (.aload_n 0, 1) := by decide +kernel
theorem dX7_placeHands_24 : decode cX7_placeHands 24 = .ok (.iload_n 1, 1) := by decide +kernel
theorem dX7_placeHands_25 : decode cX7_placeHands 25 = .ok (.invokevirtual 99, 3) := by decide +kernel
theorem dX7_placeHands_28 : decode cX7_placeHands 28 = .ok (.istore 5, 2) := by decide +kernel
theorem dX7_placeHands_30 : decode cX7_placeHands 30 = .ok (.iload 5, 2) := by decide +kernel
theorem dX7_placeHands_32 : decode cX7_placeHands 32 = .ok (.bipush (-4), 2) := by decide +kernel
theorem dX7_placeHands_34 : decode cX7_placeHands 34 = .ok (.if_icmp .ne 6, 3) := by decide +kernel
theorem dX7_placeHands_37 : decode cX7_placeHands 37 = .ok (.goto 52, 3) := by decide +kernel
theorem dX7_placeHands_40 : decode cX7_placeHands 40 = .ok (.iload_n 3, 1) := by decide +kernel
theorem dX7_placeHands_41 : decode cX7_placeHands 41 = .ok (.aload_n 0, 1) := by decide +kernel
theorem dX7_placeHands_42 : decode cX7_placeHands 42 = .ok (.getfield 29, 3) := by decide +kernel
theorem dX7_placeHands_45 : decode cX7_placeHands 45 = .ok (.iload 5, 2) := by decide +kernel
theorem dX7_placeHands_47 : decode cX7_placeHands 47 = .ok (.invokevirtual 54, 3) := by decide +kernel
theorem dX7_placeHands_50 : decode cX7_placeHands 50 = .ok (.invokestatic 102, 3) := by decide +kernel
theorem dX7_placeHands_53 : decode cX7_placeHands 53 = .ok (.istore 6, 2) := by decide +kernel
theorem dX7_placeHands_55 : decode cX7_placeHands 55 = .ok (.aload_n 0, 1) := by decide +kernel
theorem dX7_placeHands_56 : decode cX7_placeHands 56 = .ok (.getfield 35, 3) := by decide +kernel
theorem dX7_placeHands_59 : decode cX7_placeHands 59 = .ok (.iload 5, 2) := by decide +kernel
theorem dX7_placeHands_61 : decode cX7_placeHands 61 = .ok (.iload 6, 2) := by decide +kernel
theorem dX7_placeHands_63 : decode cX7_placeHands 63 = .ok (.invokevirtual 50, 3) := by decide +kernel
theorem dX7_placeHands_66 : decode cX7_placeHands 66 = .ok (.aload_n 0, 1) := by decide +kernel
theorem dX7_placeHands_67 : decode cX7_placeHands 67 = .ok (.getfield 29, 3) := by decide +kernel
theorem dX7_placeHands_70 : decode cX7_placeHands 70 = .ok (.iload 5, 2) := by decide +kernel
theorem dX7_placeHands_72 : decode cX7_placeHands 72 = .ok (.iload 6, 2) := by decide +kernel
theorem dX7_placeHands_74 : decode cX7_placeHands 74 = .ok (.ineg, 1) := by decide +kernel
theorem dX7_placeHands_75 : decode cX7_placeHands 75 = .ok (.invokevirtual 73, 3) := by decide +kernel
theorem dX7_placeHands_78 : decode cX7_placeHands 78 = .ok (.iload_n 3, 1) := by decide +kernel
theorem dX7_placeHands_79 : decode cX7_placeHands 79 = .ok (.iload 6, 2) := by decide +kernel
theorem dX7_placeHands_81 : decode cX7_placeHands 81 = .ok (.isub, 1) := by decide +kernel
theorem dX7_placeHands_82 : decode cX7_placeHands 82 = .ok (.istore_n 3, 1) := by decide +kernel
theorem dX7_placeHands_83 : decode cX7_placeHands 83 = .ok (.iinc 4 1, 3) := by decide +kernel
theorem dX7_placeHands_86 : decode cX7_placeHands 86 = .ok (.goto (-73), 3) := by decide +kernel
theorem dX7_placeHands_89 : decode cX7_placeHands 89 = .ok (.iconst 0, 1) := by decide +kernel
theorem dX7_placeHands_90 : decode cX7_placeHands 90 = .ok (.istore 4, 2) := by decide +kernel
theorem dX7_placeHands_92 : decode cX7_placeHands 92 = .ok (.iload 4, 2) := by decide +kernel
theorem dX7_placeHands_94 : decode cX7_placeHands 94 = .ok (.iconst 5, 1) := by decide +kernel
theorem dX7_placeHands_95 : decode cX7_placeHands 95 = .ok (.if_icmp .ge 29, 3) := by decide +kernel
theorem dX7_placeHands_98 : decode cX7_placeHands 98 = .ok (.aload_n 0, 1) := by decide +kernel
theorem dX7_placeHands_99 : decode cX7_placeHands 99 = .ok (.iload 4, 2) := by decide +kernel
theorem dX7_placeHands_101 : decode cX7_placeHands 101 = .ok (.iload_n 1, 1) := by decide +kernel
theorem dX7_placeHands_102 : decode cX7_placeHands 102 = .ok (.invokevirtual 96, 3) := by decide +kernel
theorem dX7_placeHands_105 : decode cX7_placeHands 105 = .ok (.ifCond .eq 13, 3) := by decide +kernel
theorem dX7_placeHands_108 : decode cX7_placeHands 108 = .ok (.aload_n 0, 1) := by decide +kernel
theorem dX7_placeHands_109 : decode cX7_placeHands 109 = .ok (.getfield 32, 3) := by decide +kernel
theorem dX7_placeHands_112 : decode cX7_placeHands 112 = .ok (.iload 4, 2) := by decide +kernel
theorem dX7_placeHands_114 : decode cX7_placeHands 114 = .ok (.iconst (-1), 1) := by decide +kernel
theorem dX7_placeHands_115 : decode cX7_placeHands 115 = .ok (.invokevirtual 73, 3) := by decide +kernel
theorem dX7_placeHands_118 : decode cX7_placeHands 118 = .ok (.iinc 4 1, 3) := by decide +kernel
theorem dX7_placeHands_121 : decode cX7_placeHands 121 = .ok (.goto (-29), 3) := by decide +kernel
theorem dX7_placeHands_124 : decode cX7_placeHands 124 = .ok (.return_, 1) := by decide +kernel
set_option maxRecDepth 20000 in
theorem ggX7_scarcest_X7_isOpen : GoodIn wsX7_scarcest wsX7_isOpen := goodIn_r _ [7, 8, 9, 10, 11, 12, 13, 14, 15, 16, 17, 18, 19, 20, 21, 22, 23, 24, 25] (by decide +kernel) (by decide +kernel)
set_option maxRecDepth 20000 in
theorem gX7_scarcest_X7_isOpen : GoodIn wsX7_scarcest (wsV RX7 96 RX7 yX7_isOpen wsX7_isOpen) := goodIn_app (goodIn_of _ (by decide +kernel)) ggX7_scarcest_X7_isOpen
set_option maxRecDepth 20000 in
theorem ggX7_scarcest_X6_get : GoodIn wsX7_scarcest wsX6_get := goodIn_r _ [13, 14, 25] (by decide +kernel) (by decide +kernel)
set_option maxRecDepth 20000 in
theorem gX7_scarcest_X6_get : GoodIn wsX7_scarcest (wsV RX7 54 RX6 yX6_get wsX6_get) := goodIn_app (goodIn_of _ (by decide +kernel)) ggX7_scarcest_X6_get
theorem dX7_scarcest_0 : decode cX7_scarcest 0 = .ok (.bipush (-4), 2) := by decide +kernel
theorem dX7_scarcest_2 : decode cX7_scarcest 2 = .ok (.istore_n 2, 1) := by decide +kernel
theorem dX7_scarcest_3 : decode cX7_scarcest 3 = .ok (.iconst 0, 1) := by decide +kernel
theorem dX7_scarcest_4 : decode cX7_scarcest 4 = .ok (.istore_n 3, 1) := by decide +kernel
theorem dX7_scarcest_5 : decode cX7_scarcest 5 = .ok (.iload_n 3, 1) := by decide +kernel
theorem dX7_scarcest_6 : decode cX7_scarcest 6 = .ok (.iconst 5, 1) := by decide +kernel
theorem dX7_scarcest_7 : decode cX7_scarcest 7 = .ok (.if_icmp .ge 68, 3) := by decide +kernel
theorem dX7_scarcest_10 : decode cX7_scarcest 10 = .ok (.aload_n 0, 1) := by decide +kernel
theorem dX7_scarcest_11 : decode cX7_scarcest 11 = .ok (.iload_n 3, 1) := by decide +kernel
theorem dX7_scarcest_12 : decode cX7_scarcest 12 = .ok (.iload_n 1, 1) := by decide +kernel
theorem dX7_scarcest_13 : decode cX7_scarcest 13 = .ok (.invokevirtual 96, 3) := by decide +kernel
theorem dX7_scarcest_16 : decode cX7_scarcest 16 = .ok (.ifCond .eq 18, 3) := by decide +kernel
theorem dX7_scarcest_19 : decode cX7_scarcest 19 = .ok (.aload_n 0, 1) := by decide +kernel
theorem dX7_scarcest_20 : decode cX7_scarcest 20 = .ok (.getfield 29, 3) := by decide +kernel
theorem dX7_scarcest_23 : decode cX7_scarcest 23 = .ok (.iload_n 3, 1) := by decide +kernel
theorem dX7_scarcest_24 : decode cX7_scarcest 24 = .ok (.invokevirtual 54, 3) := by decide +kernel
theorem dX7_scarcest_27 : decode cX7_scarcest 27 = .ok (.ifCond .le 7, 3) := by decide +kernel
theorem dX7_scarcest_30 : decode cX7_scarcest 30 = .ok (.iconst 1, 1) := by decide +kernel
theorem dX7_scarcest_31 : decode cX7_scarcest 31 = .ok (.goto 4, 3) := by decide +kernel
theorem dX7_scarcest_34 : decode cX7_scarcest 34 = .ok (.iconst 0, 1) := by decide +kernel
theorem dX7_scarcest_35 : decode cX7_scarcest 35 = .ok (.istore 4, 2) := by decide +kernel
theorem dX7_scarcest_37 : decode cX7_scarcest 37 = .ok (.iload 4, 2) := by decide +kernel
theorem dX7_scarcest_39 : decode cX7_scarcest 39 = .ok (.ifCond .eq 30, 3) := by decide +kernel
theorem dX7_scarcest_42 : decode cX7_scarcest 42 = .ok (.iload_n 2, 1) := by decide +kernel
theorem dX7_scarcest_43 : decode cX7_scarcest 43 = .ok (.bipush (-4), 2) := by decide +kernel
theorem dX7_scarcest_45 : decode cX7_scarcest 45 = .ok (.if_icmp .eq 22, 3) := by decide +kernel
theorem dX7_scarcest_48 : decode cX7_scarcest 48 = .ok (.aload_n 0, 1) := by decide +kernel
theorem dX7_scarcest_49 : decode cX7_scarcest 49 = .ok (.getfield 32, 3) := by decide +kernel
theorem dX7_scarcest_52 : decode cX7_scarcest 52 = .ok (.iload_n 3, 1) := by decide +kernel
theorem dX7_scarcest_53 : decode cX7_scarcest 53 = .ok (.invokevirtual 54, 3) := by decide +kernel
theorem dX7_scarcest_56 : decode cX7_scarcest 56 = .ok (.aload_n 0, 1) := by decide +kernel
theorem dX7_scarcest_57 : decode cX7_scarcest 57 = .ok (.getfield 32, 3) := by decide +kernel
theorem dX7_scarcest_60 : decode cX7_scarcest 60 = .ok (.iload_n 2, 1) := by decide +kernel
theorem dX7_scarcest_61 : decode cX7_scarcest 61 = .ok (.invokevirtual 54, 3) := by decide +kernel
theorem dX7_scarcest_64 : decode cX7_scarcest 64 = .ok (.if_icmp .ge 5, 3) := by decide +kernel
theorem dX7_scarcest_67 : decode cX7_scarcest 67 = .ok (.iload_n 3, 1) := by decide +kernel
theorem dX7_scarcest_68 : decode cX7_scarcest 68 = .ok (.istore_n 2, 1) := by decide +kernel
theorem dX7_scarcest_69 : decode cX7_scarcest 69 = .ok (.iinc 3 1, 3) := by decide +kernel
theorem dX7_scarcest_72 : decode cX7_scarcest 72 = .ok (.goto (-67), 3) := by decide +kernel
theorem dX7_scarcest_75 : decode cX7_scarcest 75 = .ok (.iload_n 2, 1) := by decide +kernel
theorem dX7_scarcest_76 : decode cX7_scarcest 76 = .ok (.ireturn, 1) := by decide +kernel
set_option maxRecDepth 20000 in
theorem ggX7_placedIn_X6_get : GoodIn wsX7_placedIn wsX6_get := goodIn_r _ [6, 7, 15] (by decide +kernel) (by decide +kernel)
set_option maxRecDepth 20000 in
theorem gX7_placedIn_X6_get : GoodIn wsX7_placedIn (wsV RX7 54 RX6 yX6_get wsX6_get) := goodIn_app (goodIn_of _ (by decide +kernel)) ggX7_placedIn_X6_get
theorem dX7_placedIn_0 : decode cX7_placedIn 0 = .ok (.aload_n 0, 1) := by decide +kernel
theorem dX7_placedIn_1 : decode cX7_placedIn 1 = .ok (.getfield 35, 3) := by decide +kernel
theorem dX7_placedIn_4 : decode cX7_placedIn 4 = .ok (.iload_n 1, 1) := by decide +kernel
theorem dX7_placedIn_5 : decode cX7_placedIn 5 = .ok (.invokevirtual 54, 3) := by decide +kernel
theorem dX7_placedIn_8 : decode cX7_placedIn 8 = .ok (.ireturn, 1) := by decide +kernel
set_option maxRecDepth 20000 in
theorem ggX7_allTodo_X6_get : GoodIn wsX7_allTodo wsX6_get := goodIn_r _ [6, 7, 15] (by decide +kernel) (by decide +kernel)
set_option maxRecDepth 20000 in
theorem gX7_allTodo_X6_get : GoodIn wsX7_allTodo (wsV RX7 54 RX6 yX6_get wsX6_get) := goodIn_app (goodIn_of _ (by decide +kernel)) ggX7_allTodo_X6_get
theorem dX7_allTodo_0 : decode cX7_allTodo 0 = .ok (.iconst 0, 1) := by decide +kernel
theorem dX7_allTodo_1 : decode cX7_allTodo 1 = .ok (.istore_n 1, 1) := by decide +kernel
theorem dX7_allTodo_2 : decode cX7_allTodo 2 = .ok (.iconst 0, 1) := by decide +kernel
theorem dX7_allTodo_3 : decode cX7_allTodo 3 = .ok (.istore_n 2, 1) := by decide +kernel
theorem dX7_allTodo_4 : decode cX7_allTodo 4 = .ok (.iload_n 2, 1) := by decide +kernel
theorem dX7_allTodo_5 : decode cX7_allTodo 5 = .ok (.iconst 5, 1) := by decide +kernel
theorem dX7_allTodo_6 : decode cX7_allTodo 6 = .ok (.if_icmp .ge 20, 3) := by decide +kernel
theorem dX7_allTodo_9 : decode cX7_allTodo 9 = .ok (.iload_n 1, 1) := by decide +kernel
theorem dX7_allTodo_10 : decode cX7_allTodo 10 = .ok (.aload_n 0, 1) := by decide +kernel
theorem dX7_allTodo_11 : decode cX7_allTodo 11 = .ok (.getfield 29, 3) := by decide +kernel
theorem dX7_allTodo_14 : decode cX7_allTodo 14 = .ok (.iload_n 2, 1) := by decide +kernel
theorem dX7_allTodo_15 : decode cX7_allTodo 15 = .ok (.invokevirtual 54, 3) := by decide +kernel
theorem dX7_allTodo_18 : decode cX7_allTodo 18 = .ok (.iadd, 1) := by decide +kernel
theorem dX7_allTodo_19 : decode cX7_allTodo 19 = .ok (.istore_n 1, 1) := by decide +kernel
theorem dX7_allTodo_20 : decode cX7_allTodo 20 = .ok (.iinc 2 1, 3) := by decide +kernel
theorem dX7_allTodo_23 : decode cX7_allTodo 23 = .ok (.goto (-19), 3) := by decide +kernel
theorem dX7_allTodo_26 : decode cX7_allTodo 26 = .ok (.iload_n 1, 1) := by decide +kernel
theorem dX7_allTodo_27 : decode cX7_allTodo 27 = .ok (.ireturn, 1) := by decide +kernel
