theorem dX6_init_0 : decode cX6_init 0 = .ok (.aload_n 0, 1) := by decide +kernel
theorem dX6_init_1 : decode cX6_init 1 = .ok (.invokespecial 1, 3) := by decide +kernel
theorem dX6_init_4 : decode cX6_init 4 = .ok (.aload_n 0, 1) := by decide +kernel
theorem dX6_init_5 : decode cX6_init 5 = .ok (.iload_n 1, 1) := by decide +kernel
theorem dX6_init_6 : decode cX6_init 6 = .ok (.ifCond .ge 7, 3) := by decide +kernel
theorem dX6_init_9 : decode cX6_init 9 = .ok (.iconst 0, 1) := by decide +kernel
theorem dX6_init_10 : decode cX6_init 10 = .ok (.goto 4, 3) := by decide +kernel
theorem dX6_init_13 : decode cX6_init 13 = .ok (.iload_n 1, 1) := by decide +kernel
theorem dX6_init_14 : decode cX6_init 14 = .ok (.newarray .int, 2) := by decide +kernel
theorem dX6_init_16 : decode cX6_init 16 = .ok (.putfield 7, 3) := by decide +kernel
theorem dX6_init_19 : decode cX6_init 19 = .ok (.return_, 1) := by decide +kernel
theorem dX6_get_0 : decode cX6_get 0 = .ok (.iload_n 1, 1) := by decide +kernel
theorem dX6_get_1 : decode cX6_get 1 = .ok (.ifCond .lt 21, 3) := by decide +kernel
theorem dX6_get_4 : decode cX6_get 4 = .ok (.iload_n 1, 1) := by decide +kernel
theorem dX6_get_5 : decode cX6_get 5 = .ok (.aload_n 0, 1) := by decide +kernel
theorem dX6_get_6 : decode cX6_get 6 = .ok (.getfield 7, 3) := by decide +kernel
theorem dX6_get_9 : decode cX6_get 9 = .ok (.arraylength, 1) := by decide +kernel
theorem dX6_get_10 : decode cX6_get 10 = .ok (.if_icmp .ge 12, 3) := by decide +kernel
theorem dX6_get_13 : decode cX6_get 13 = .ok (.aload_n 0, 1) := by decide +kernel
theorem dX6_get_14 : decode cX6_get 14 = .ok (.getfield 7, 3) := by decide +kernel
theorem dX6_get_17 : decode cX6_get 17 = .ok (.iload_n 1, 1) := by decide +kernel
theorem dX6_get_18 : decode cX6_get 18 = .ok (.iaload, 1) := by decide +kernel
theorem dX6_get_19 : decode cX6_get 19 = .ok (.goto 4, 3) := by decide +kernel
theorem dX6_get_22 : decode cX6_get 22 = .ok (.iconst 0, 1) := by decide +kernel
theorem dX6_get_23 : decode cX6_get 23 = .ok (.ireturn, 1) := by decide +kernel
theorem dX6_set_0 : decode cX6_set 0 = .ok (.iload_n 1, 1) := by decide +kernel
theorem dX6_set_1 : decode cX6_set 1 = .ok (.ifCond .lt 19, 3) := by decide +kernel
theorem dX6_set_4 : decode cX6_set 4 = .ok (.iload_n 1, 1) := by decide +kernel
theorem dX6_set_5 : decode cX6_set 5 = .ok (.aload_n 0, 1) := by decide +kernel
theorem dX6_set_6 : decode cX6_set 6 = .ok (.getfield 7, 3) := by decide +kernel
theorem dX6_set_9 : decode cX6_set 9 = .ok (.arraylength, 1) := by decide +kernel
theorem dX6_set_10 : decode cX6_set 10 = .ok (.if_icmp .ge 10, 3) := by decide +kernel
theorem dX6_set_13 : decode cX6_set 13 = .ok (.aload_n 0, 1) := by decide +kernel
theorem dX6_set_14 : decode cX6_set 14 = .ok (.getfield 7, 3) := by decide +kernel
theorem dX6_set_17 : decode cX6_set 17 = .ok (.iload_n 1, 1) := by decide +kernel
theorem dX6_set_18 : decode cX6_set 18 = .ok (.iload_n 2, 1) := by decide +kernel
theorem dX6_set_19 : decode cX6_set 19 = .ok (.iastore, 1) := by decide +kernel
theorem dX6_set_20 : decode cX6_set 20 = .ok (.return_, 1) := by decide +kernel
set_option maxRecDepth 20000 in
theorem ggX6_add_X6_get : GoodIn wsX6_add wsX6_get := goodIn_r _ [5, 6, 11] (by decide +kernel) (by decide +kernel)
set_option maxRecDepth 20000 in
theorem gX6_add_X6_get : GoodIn wsX6_add (wsV RX6 13 RX6 yX6_get wsX6_get) := goodIn_app (goodIn_of _ (by decide +kernel)) ggX6_add_X6_get
set_option maxRecDepth 20000 in
theorem ggX6_add_X6_set : GoodIn wsX6_add wsX6_set := goodIn_r _ [10, 6, 11] (by decide +kernel) (by decide +kernel)
set_option maxRecDepth 20000 in
theorem gX6_add_X6_set : GoodIn wsX6_add (wsV RX6 17 RX6 yX6_set wsX6_set) := goodIn_app (goodIn_of _ (by decide +kernel)) ggX6_add_X6_set
theorem dX6_add_0 : decode cX6_add 0 = .ok (.aload_n 0, 1) := by decide +kernel
theorem dX6_add_1 : decode cX6_add 1 = .ok (.iload_n 1, 1) := by decide +kernel
theorem dX6_add_2 : decode cX6_add 2 = .ok (.aload_n 0, 1) := by decide +kernel
theorem dX6_add_3 : decode cX6_add 3 = .ok (.iload_n 1, 1) := by decide +kernel
theorem dX6_add_4 : decode cX6_add 4 = .ok (.invokevirtual 13, 3) := by decide +kernel
theorem dX6_add_7 : decode cX6_add 7 = .ok (.iload_n 2, 1) := by decide +kernel
theorem dX6_add_8 : decode cX6_add 8 = .ok (.iadd, 1) := by decide +kernel
theorem dX6_add_9 : decode cX6_add 9 = .ok (.invokevirtual 17, 3) := by decide +kernel
theorem dX6_add_12 : decode cX6_add 12 = .ok (.return_, 1) := by decide +kernel
theorem dX6_fill_0 : decode cX6_fill 0 = .ok (.iconst 0, 1) := by decide +kernel
theorem dX6_fill_1 : decode cX6_fill 1 = .ok (.istore_n 2, 1) := by decide +kernel
theorem dX6_fill_2 : decode cX6_fill 2 = .ok (.iload_n 2, 1) := by decide +kernel
theorem dX6_fill_3 : decode cX6_fill 3 = .ok (.aload_n 0, 1) := by decide +kernel
theorem dX6_fill_4 : decode cX6_fill 4 = .ok (.getfield 7, 3) := by decide +kernel
theorem dX6_fill_7 : decode cX6_fill 7 = .ok (.arraylength, 1) := by decide +kernel
theorem dX6_fill_8 : decode cX6_fill 8 = .ok (.if_icmp .ge 16, 3) := by decide +kernel
theorem dX6_fill_11 : decode cX6_fill 11 = .ok (.aload_n 0, 1) := by decide +kernel
theorem dX6_fill_12 : decode cX6_fill 12 = .ok (.getfield 7, 3) := by decide +kernel
theorem dX6_fill_15 : decode cX6_fill 15 = .ok (.iload_n 2, 1) := by decide +kernel
theorem dX6_fill_16 : decode cX6_fill 16 = .ok (.iload_n 1, 1) := by decide +kernel
theorem dX6_fill_17 : decode cX6_fill 17 = .ok (.iastore, 1) := by decide +kernel
theorem dX6_fill_18 : decode cX6_fill 18 = .ok (.iinc 2 1, 3) := by decide +kernel
theorem dX6_fill_21 : decode cX6_fill 21 = .ok (.goto (-19), 3) := by decide +kernel
theorem dX6_fill_24 : decode cX6_fill 24 = .ok (.return_, 1) := by decide +kernel
set_option maxRecDepth 20000 in
theorem ggX6_copy_X6_get : GoodIn wsX6_copy wsX6_get := goodIn_r _ [6, 1, 7] (by decide +kernel) (by decide +kernel)
set_option maxRecDepth 20000 in
theorem gX6_copy_X6_get : GoodIn wsX6_copy (wsV RX6 13 RX6 yX6_get wsX6_get) := goodIn_app (goodIn_of _ (by decide +kernel)) ggX6_copy_X6_get
theorem dX6_copy_0 : decode cX6_copy 0 = .ok (.aload_n 1, 1) := by decide +kernel
theorem dX6_copy_1 : decode cX6_copy 1 = .ok (.ifnonnull 4, 3) := by decide +kernel
theorem dX6_copy_4 : decode cX6_copy 4 = .ok (.return_, 1) := by decide +kernel
theorem dX6_copy_5 : decode cX6_copy 5 = .ok (.iconst 0, 1) := by decide +kernel
theorem dX6_copy_6 : decode cX6_copy 6 = .ok (.istore_n 2, 1) := by decide +kernel
theorem dX6_copy_7 : decode cX6_copy 7 = .ok (.iload_n 2, 1) := by decide +kernel
theorem dX6_copy_8 : decode cX6_copy 8 = .ok (.aload_n 0, 1) := by decide +kernel
theorem dX6_copy_9 : decode cX6_copy 9 = .ok (.getfield 7, 3) := by decide +kernel
theorem dX6_copy_12 : decode cX6_copy 12 = .ok (.arraylength, 1) := by decide +kernel
theorem dX6_copy_13 : decode cX6_copy 13 = .ok (.if_icmp .ge 20, 3) := by decide +kernel
theorem dX6_copy_16 : decode cX6_copy 16 = .ok (.aload_n 0, 1) := by decide +kernel
theorem dX6_copy_17 : decode cX6_copy 17 = .ok (.getfield 7, 3) := by decide +kernel
theorem dX6_copy_20 : decode cX6_copy 20 = .ok (.iload_n 2, 1) := by decide +kernel
theorem dX6_copy_21 : decode cX6_copy 21 = .ok (.aload_n 1, 1) := by decide +kernel
theorem dX6_copy_22 : decode cX6_copy 22 = .ok (.iload_n 2, 1) := by decide +kernel
theorem dX6_copy_23 : decode cX6_copy 23 = .ok (.invokevirtual 13, 3) := by decide +kernel
theorem dX6_copy_26 : decode cX6_copy 26 = .ok (.iastore, 1) := by decide +kernel
theorem dX6_copy_27 : decode cX6_copy 27 = .ok (.iinc 2 1, 3) := by decide +kernel
theorem dX6_copy_30 : decode cX6_copy 30 = .ok (.goto (-23), 3) := by decide +kernel
theorem dX6_copy_33 : decode cX6_copy 33 = .ok (.return_, 1) := by decide +kernel
set_option maxRecDepth 20000 in
theorem ggX7_init_X6_init : GoodIn wsX7_init wsX6_init := goodIn_r _ [16, 17, 2, 3, 18, 19, 24] (by decide +kernel) (by decide +kernel)
set_option maxRecDepth 20000 in
theorem gX7_init_X6_init : GoodIn wsX7_init (wsX6_init) := ggX7_init_X6_init
set_option maxRecDepth 20000 in
theorem ggX7_init_X6_fill : GoodIn wsX7_init wsX6_fill := goodIn_r _ [23, 19, 24] (by decide +kernel) (by decide +kernel)
set_option maxRecDepth 20000 in
theorem gX7_init_X6_fill : GoodIn wsX7_init (wsV RX7 38 RX6 yX6_fill wsX6_fill) := goodIn_app (goodIn_of _ (by decide +kernel)) ggX7_init_X6_fill
theorem dX7_init_0 : decode cX7_init 0 = .ok (.aload_n 0, 1) := by decide +kernel
theorem dX7_init_1 : decode cX7_init 1 = .ok (.invokespecial 3, 3) := by decide +kernel
theorem dX7_init_4 : decode cX7_init 4 = .ok (.aload_n 0, 1) := by decide +kernel
theorem dX7_init_5 : decode cX7_init 5 = .ok (.new 9, 3) := by decide +kernel
theorem dX7_init_8 : decode cX7_init 8 = .ok (.dup, 1) := by decide +kernel
theorem dX7_init_9 : decode cX7_init 9 = .ok (.iconst 5, 1) := by decide +kernel
theorem dX7_init_10 : decode cX7_init 10 = .ok (.invokespecial 11, 3) := by decide +kernel
theorem dX7_init_13 : decode cX7_init 13 = .ok (.putfield 14, 3) := by decide +kernel
theorem dX7_init_16 : decode cX7_init 16 = .ok (.aload_n 0, 1) := by decide +kernel
theorem dX7_init_17 : decode cX7_init 17 = .ok (.new 9, 3) := by decide +kernel
theorem dX7_init_20 : decode cX7_init 20 = .ok (.dup, 1) := by decide +kernel
theorem dX7_init_21 : decode cX7_init 21 = .ok (.iconst 5, 1) := by decide +kernel
theorem dX7_init_22 : decode cX7_init 22 = .ok (.invokespecial 11, 3) := by decide +kernel
theorem dX7_init_25 : decode cX7_init 25 = .ok (.putfield 20, 3) := by decide +kernel
theorem dX7_init_28 : decode cX7_init 28 = .ok (.aload_n 0, 1) := by decide +kernel
theorem dX7_init_29 : decode cX7_init 29 = .ok (.new 9, 3) := by decide +kernel
theorem dX7_init_32 : decode cX7_init 32 = .ok (.dup, 1) := by decide +kernel
theorem dX7_init_33 : decode cX7_init 33 = .ok (.sipush 1000, 3) := by decide +kernel
theorem dX7_init_36 : decode cX7_init 36 = .ok (.invokespecial 11, 3) := by decide +kernel
theorem dX7_init_39 : decode cX7_init 39 = .ok (.putfield 23, 3) := by decide +kernel
theorem dX7_init_42 : decode cX7_init 42 = .ok (.aload_n 0, 1) := by decide +kernel
theorem dX7_init_43 : decode cX7_init 43 = .ok (.new 9, 3) := by decide +kernel
theorem dX7_init_46 : decode cX7_init 46 = .ok (.dup, 1) := by decide +kernel
theorem dX7_init_47 : decode cX7_init 47 = .ok (.bipush 32, 2) := by decide +kernel
theorem dX7_init_49 : decode cX7_init 49 = .ok (.invokespecial 11, 3) := by decide +kernel
theorem dX7_init_52 : decode cX7_init 52 = .ok (.putfield 26, 3) := by decide +kernel
theorem dX7_init_55 : decode cX7_init 55 = .ok (.aload_n 0, 1) := by decide +kernel
theorem dX7_init_56 : decode cX7_init 56 = .ok (.new 9, 3) := by decide +kernel
theorem dX7_init_59 : decode cX7_init 59 = .ok (.dup, 1) := by decide +kernel
theorem dX7_init_60 : decode cX7_init 60 = .ok (.iconst 5, 1) := by decide +kernel
theorem dX7_init_61 : decode cX7_init 61 = .ok (.invokespecial 11, 3) := by decide +kernel
theorem dX7_init_64 : decode cX7_init 64 = .ok (.putfield 29, 3) := by decide +kernel
theorem dX7_init_67 : decode cX7_init 67 = .ok (.aload_n 0, 1) := by decide +kernel
theorem dX7_init_68 : decode cX7_init 68 = .ok (.new 9, 3) := by decide +kernel
theorem dX7_init_71 : decode cX7_init 71 = .ok (.dup, 1) := by decide +kernel
theorem dX7_init_72 : decode cX7_init 72 = .ok (.iconst 5, 1) := by decide +kernel
theorem dX7_init_73 : decode cX7_init 73 = .ok (.invokespecial 11, 3) := by decide +kernel
theorem dX7_init_76 : decode cX7_init 76 = .ok (.putfield 32, 3) := by decide +kernel
theorem dX7_init_79 : decode cX7_init 79 = .ok (.aload_n 0, 1) := by decide +kernel
theorem dX7_init_80 : decode cX7_init 80 = .ok (.new 9, 3) := by decide +kernel
theorem dX7_init_83 : decode cX7_init 83 = .ok (.dup, 1) := by decide +kernel
theorem dX7_init_84 : decode cX7_init 84 = .ok (.iconst 5, 1) := by decide +kernel
theorem dX7_init_85 : decode cX7_init 85 = .ok (.invokespecial 11, 3) := by decide +kernel
theorem dX7_init_88 : decode cX7_init 88 = .ok (.putfield 35, 3) := by decide +kernel
theorem dX7_init_91 : decode cX7_init 91 = .ok (.aload_n 0, 1) := by decide +kernel
theorem dX7_init_92 : decode cX7_init 92 = .ok (.getfield 20, 3) := by decide +kernel
theorem dX7_init_95 : decode cX7_init 95 = .ok (.iconst 1, 1) := by decide +kernel
theorem dX7_init_96 : decode cX7_init 96 = .ok (.invokevirtual 38, 3) := by decide +kernel
theorem dX7_init_99 : decode cX7_init 99 = .ok (.return_, 1) := by decide +kernel
set_option maxRecDepth 20000 in
theorem ggX7_learn_X1_nextOrder : GoodIn wsX7_learn wsX1_nextOrder := goodIn_r _ [6, 7, 8, 9, 10, 11, 12, 13, 14, 15, 53, 54, 55, 56, 57, 58, 59] (by decide +kernel) (by decide +kernel)
set_option maxRecDepth 20000 in
theorem gX7_learn_X1_nextOrder : GoodIn wsX7_learn (wsV RX7 41 RX1 yX1_nextOrder wsX1_nextOrder) := goodIn_app (goodIn_of _ (by decide +kernel)) ggX7_learn_X1_nextOrder
set_option maxRecDepth 20000 in
theorem ggX7_learn_X1_closedIn : GoodIn wsX7_learn wsX1_closedIn := goodIn_r _ [19, 20, 21, 22, 5, 23, 24, 25, 26, 27, 28, 7, 8, 9, 10, 11, 12, 13, 14, 15, 29, 30, 31, 32, 33, 34, 35, 36, 37, 38, 39, 40, 41, 53, 54, 55, 56, 57, 58, 59] (by decide +kernel) (by decide +kernel)
set_option maxRecDepth 20000 in
theorem gX7_learn_X1_closedIn : GoodIn wsX7_learn (wsV RX7 47 RX1 yX1_closedIn wsX1_closedIn) := goodIn_app (goodIn_of _ (by decide +kernel)) ggX7_learn_X1_closedIn
set_option maxRecDepth 20000 in
theorem ggX7_learn_X6_set : GoodIn wsX7_learn wsX6_set := goodIn_r _ [45, 15, 59] (by decide +kernel) (by decide +kernel)
set_option maxRecDepth 20000 in
theorem gX7_learn_X6_set : GoodIn wsX7_learn (wsV RX7 50 RX6 yX6_set wsX6_set) := goodIn_app (goodIn_of _ (by decide +kernel)) ggX7_learn_X6_set
theorem dX7_learn_0 : decode cX7_learn 0 = .ok (.aload_n 1, 1) := by decide +kernel
theorem dX7_learn_1 : decode cX7_learn 1 = .ok (.ifnonnull 4, 3) := by decide +kernel
theorem dX7_learn_4 : decode cX7_learn 4 = .ok (.return_, 1) := by decide +kernel
theorem dX7_learn_5 : decode cX7_learn 5 = .ok (.iconst 0, 1) := by decide +kernel
theorem dX7_learn_6 : decode cX7_learn 6 = .ok (.istore_n 2, 1) := by decide +kernel
theorem dX7_learn_7 : decode cX7_learn 7 = .ok (.iconst 0, 1) := by decide +kernel
theorem dX7_learn_8 : decode cX7_learn 8 = .ok (.istore_n 3, 1) := by decide +kernel
theorem dX7_learn_9 : decode cX7_learn 9 = .ok (.iload_n 3, 1) := by decide +kernel
theorem dX7_learn_10 : decode cX7_learn 10 = .ok (.bipush 40, 2) := by decide +kernel
theorem dX7_learn_12 : decode cX7_learn 12 = .ok (.if_icmp .gt 60, 3) := by decide +kernel
theorem dX7_learn_15 : decode cX7_learn 15 = .ok (.iload_n 2, 1) := by decide +kernel
theorem dX7_learn_16 : decode cX7_learn 16 = .ok (.sipush 1000, 3) := by decide +kernel
theorem dX7_learn_19 : decode cX7_learn 19 = .ok (.if_icmp .ge 53, 3) := by decide +kernel
theorem dX7_learn_22 : decode cX7_learn 22 = .ok (.aload_n 1, 1) := by decide +kernel
theorem dX7_learn_23 : decode cX7_learn 23 = .ok (.iload_n 2, 1) := by decide +kernel
theorem dX7_learn_24 : decode cX7_learn 24 = .ok (.invokevirtual 41, 3) := by decide +kernel
theorem dX7_learn_27 : decode cX7_learn 27 = .ok (.istore 4, 2) := by decide +kernel
theorem dX7_learn_29 : decode cX7_learn 29 = .ok (.aload_n 1, 1) := by decide +kernel
theorem dX7_learn_30 : decode cX7_learn 30 = .ok (.iload_n 2, 1) := by decide +kernel
theorem dX7_learn_31 : decode cX7_learn 31 = .ok (.invokevirtual 47, 3) := by decide +kernel
theorem dX7_learn_34 : decode cX7_learn 34 = .ok (.istore 5, 2) := by decide +kernel
theorem dX7_learn_36 : decode cX7_learn 36 = .ok (.iload_n 2, 1) := by decide +kernel
theorem dX7_learn_37 : decode cX7_learn 37 = .ok (.istore 6, 2) := by decide +kernel
theorem dX7_learn_39 : decode cX7_learn 39 = .ok (.iload 6, 2) := by decide +kernel
theorem dX7_learn_41 : decode cX7_learn 41 = .ok (.iload 4, 2) := by decide +kernel
theorem dX7_learn_43 : decode cX7_learn 43 = .ok (.if_icmp .ge 20, 3) := by decide +kernel
theorem dX7_learn_46 : decode cX7_learn 46 = .ok (.aload_n 0, 1) := by decide +kernel
theorem dX7_learn_47 : decode cX7_learn 47 = .ok (.getfield 23, 3) := by decide +kernel
theorem dX7_learn_50 : decode cX7_learn 50 = .ok (.iload 6, 2) := by decide +kernel
theorem dX7_learn_52 : decode cX7_learn 52 = .ok (.iload 5, 2) := by decide +kernel
theorem dX7_learn_54 : decode cX7_learn 54 = .ok (.invokevirtual 50, 3) := by decide +kernel
theorem dX7_learn_57 : decode cX7_learn 57 = .ok (.iinc 6 1, 3) := by decide +kernel
theorem dX7_learn_60 : decode cX7_learn 60 = .ok (.goto (-21), 3) := by decide +kernel
theorem dX7_learn_63 : decode cX7_learn 63 = .ok (.iload 4, 2) := by decide +kernel
theorem dX7_learn_65 : decode cX7_learn 65 = .ok (.istore_n 2, 1) := by decide +kernel
theorem dX7_learn_66 : decode cX7_learn 66 = .ok (.iinc 3 1, 3) := by decide +kernel
theorem dX7_learn_69 : decode cX7_learn 69 = .ok (.goto (-60), 3) := by decide +kernel
theorem dX7_learn_72 : decode cX7_learn 72 = .ok (.return_, 1) := by decide +kernel
set_option maxRecDepth 20000 in
theorem ggX7_changeHeaps_X6_get : GoodIn wsX7_changeHeaps wsX6_get := goodIn_r _ [6, 7, 19] (by decide +kernel) (by decide +kernel)
set_option maxRecDepth 20000 in
theorem gX7_changeHeaps_X6_get : GoodIn wsX7_changeHeaps (wsV RX7 54 RX6 yX6_get wsX6_get) := goodIn_app (goodIn_of _ (by decide +kernel)) ggX7_changeHeaps_X6_get
set_option maxRecDepth 20000 in
theorem ggX7_changeHeaps_X6_set : GoodIn wsX7_changeHeaps wsX6_set := goodIn_r _ [11, 7, 19] (by decide +kernel) (by decide +kernel)
set_option maxRecDepth 20000 in
theorem gX7_changeHeaps_X6_set : GoodIn wsX7_changeHeaps (wsV RX7 50 RX6 yX6_set wsX6_set) := goodIn_app (goodIn_of _ (by decide +kernel)) ggX7_changeHeaps_X6_set
theorem dX7_changeHeaps_0 : decode cX7_changeHeaps 0 = .ok (.aload_n 0, 1) := by decide +kernel
theorem dX7_changeHeaps_1 : decode cX7_changeHeaps 1 = .ok (.getfield 14, 3) := by decide +kernel
theorem dX7_changeHeaps_4 : decode cX7_changeHeaps 4 = .ok (.iload_n 1, 1) := by decide +kernel
theorem dX7_changeHeaps_5 : decode cX7_changeHeaps 5 = .ok (.invokevirtual 54, 3) := by decide +kernel
theorem dX7_changeHeaps_8 : decode cX7_changeHeaps 8 = .ok (.istore_n 3, 1) := by decide +kernel
theorem dX7_changeHeaps_9 : decode cX7_changeHeaps 9 = .ok (.aload_n 0, 1) := by decide +kernel
theorem dX7_changeHeaps_10 : decode cX7_changeHeaps 10 = .ok (.getfield 14, 3) := by decide +kernel
theorem dX7_changeHeaps_13 : decode cX7_changeHeaps 13 = .ok (.iload_n 1, 1) := by decide +kernel
theorem dX7_changeHeaps_14 : decode cX7_changeHeaps 14 = .ok (.iload_n 2, 1) := by decide +kernel
theorem dX7_changeHeaps_15 : decode cX7_changeHeaps 15 = .ok (.invokevirtual 50, 3) := by decide +kernel
theorem dX7_changeHeaps_18 : decode cX7_changeHeaps 18 = .ok (.iload_n 3, 1) := by decide +kernel
theorem dX7_changeHeaps_19 : decode cX7_changeHeaps 19 = .ok (.ireturn, 1) := by decide +kernel
set_option maxRecDepth 20000 in
theorem ggX7_changeSpeed_X6_get : GoodIn wsX7_changeSpeed wsX6_get := goodIn_r _ [6, 7, 19] (by decide +kernel) (by decide +kernel)
set_option maxRecDepth 20000 in
theorem gX7_changeSpeed_X6_get : GoodIn wsX7_changeSpeed (wsV RX7 54 RX6 yX6_get wsX6_get) := goodIn_app (goodIn_of _ (by decide +kernel)) ggX7_changeSpeed_X6_get
set_option maxRecDepth 20000 in
theorem ggX7_changeSpeed_X6_set : GoodIn wsX7_changeSpeed wsX6_set := goodIn_r _ [11, 7, 19] (by decide +kernel) (by decide +kernel)
set_option maxRecDepth 20000 in
theorem gX7_changeSpeed_X6_set : GoodIn wsX7_changeSpeed (wsV RX7 50 RX6 yX6_set wsX6_set) := goodIn_app (goodIn_of _ (by decide +kernel)) ggX7_changeSpeed_X6_set
theorem dX7_changeSpeed_0 : decode cX7_changeSpeed 0 = .ok (.aload_n 0, 1) := by decide +kernel
theorem dX7_changeSpeed_1 : decode cX7_changeSpeed 1 = .ok (.getfield 20, 3) := by decide +kernel
theorem dX7_changeSpeed_4 : decode cX7_changeSpeed 4 = .ok (.iload_n 1, 1) := by decide +kernel
theorem dX7_changeSpeed_5 : decode cX7_changeSpeed 5 = .ok (.invokevirtual 54, 3) := by decide +kernel
theorem dX7_changeSpeed_8 : decode cX7_changeSpeed 8 = .ok (.istore_n 3, 1) := by decide +kernel
theorem dX7_changeSpeed_9 : decode cX7_changeSpeed 9 = .ok (.aload_n 0, 1) := by decide +kernel
theorem dX7_changeSpeed_10 : decode cX7_changeSpeed 10 = .ok (.getfield 20, 3) := by decide +kernel
theorem dX7_changeSpeed_13 : decode cX7_changeSpeed 13 = .ok (.iload_n 1, 1) := by decide +kernel
theorem dX7_changeSpeed_14 : decode cX7_changeSpeed 14 = .ok (.iload_n 2, 1) := by decide +kernel
theorem dX7_changeSpeed_15 : decode cX7_changeSpeed 15 = .ok (.invokevirtual 50, 3) := by decide +kernel
theorem dX7_changeSpeed_18 : decode cX7_changeSpeed 18 = .ok (.iload_n 3, 1) := by decide +kernel
theorem dX7_changeSpeed_19 : decode cX7_changeSpeed 19 = .ok (.ireturn, 1) := by decide +kernel
set_option maxRecDepth 20000 in
theorem ggX7_workOf_X6_get : GoodIn wsX7_workOf wsX6_get := goodIn_r _ [7, 8, 21] (by decide +kernel) (by decide +kernel)
set_option maxRecDepth 20000 in
theorem gX7_workOf_X6_get : GoodIn wsX7_workOf (wsV RX7 54 RX6 yX6_get wsX6_get) := goodIn_app (goodIn_of _ (by decide +kernel)) ggX7_workOf_X6_get
set_option maxRecDepth 20000 in
theorem ggX7_workOf_X7_roundedUp : GoodIn wsX7_workOf wsX7_roundedUp := goodIn_r _ [12, 13] (by decide +kernel) (by decide +kernel)
set_option maxRecDepth 20000 in
theorem gX7_workOf_X7_roundedUp : GoodIn wsX7_workOf (va_wsS RX7 57 yX7_roundedUp wsX7_roundedUp) := goodIn_app (goodIn_of _ (by decide +kernel)) ggX7_workOf_X7_roundedUp
theorem dX7_workOf_0 : decode cX7_workOf 0 = .ok (.aload_n 0, 1) := by decide +kernel
theorem dX7_workOf_1 : decode cX7_workOf 1 = .ok (.getfield 14, 3) := by decide +kernel
theorem dX7_workOf_4 : decode cX7_workOf 4 = .ok (.iload_n 1, 1) := by decide +kernel
theorem dX7_workOf_5 : decode cX7_workOf 5 = .ok (.invokevirtual 54, 3) := by decide +kernel
theorem dX7_workOf_8 : decode cX7_workOf 8 = .ok (.aload_n 0, 1) := by decide +kernel
theorem dX7_workOf_9 : decode cX7_workOf 9 = .ok (.getfield 20, 3) := by decide +kernel
theorem dX7_workOf_12 : decode cX7_workOf 12 = .ok (.iload_n 1, 1) := by decide +kernel
theorem dX7_workOf_13 : decode cX7_workOf 13 = .ok (.invokevirtual 54, 3) := by decide +kernel
theorem dX7_workOf_16 : decode cX7_workOf 16 = .ok (.invokestatic 57, 3) := by decide +kernel
theorem dX7_workOf_19 : decode cX7_workOf 19 = .ok (.ireturn, 1) := by decide +kernel
theorem dX7_roundedUp_0 : decode cX7_roundedUp 0 = .ok (.iload_n 1, 1) := by decide +kernel
theorem dX7_roundedUp_1 : decode cX7_roundedUp 1 = .ok (.iconst 1, 1) := by decide +kernel
theorem dX7_roundedUp_2 : decode cX7_roundedUp 2 = .ok (.if_icmp .ge 8, 3) := by decide +kernel
theorem dX7_roundedUp_5 : decode cX7_roundedUp 5 = .ok (.ldc 61, 2) := by decide +kernel
theorem dX7_roundedUp_7 : decode cX7_roundedUp 7 = .ok (.goto 10, 3) := by decide +kernel
theorem dX7_roundedUp_10 : decode cX7_roundedUp 10 = .ok (.iload_n 0, 1) := by decide +kernel
theorem dX7_roundedUp_11 : decode cX7_roundedUp 11 = .ok (.iload_n 1, 1) := by decide +kernel
theorem dX7_roundedUp_12 : decode cX7_roundedUp 12 = .ok (.iadd, 1) := by decide +kernel
theorem dX7_roundedUp_13 : decode cX7_roundedUp 13 = .ok (.iconst 1, 1) := by decide +kernel
theorem dX7_roundedUp_14 : decode cX7_roundedUp 14 = .ok (.isub, 1) := by decide +kernel
theorem dX7_roundedUp_15 : decode cX7_roundedUp 15 = .ok (.iload_n 1, 1) := by decide +kernel
theorem dX7_roundedUp_16 : decode cX7_roundedUp 16 = .ok (.idiv, 1) := by decide +kernel
theorem dX7_roundedUp_17 : decode cX7_roundedUp 17 = .ok (.ireturn, 1) := by decide +kernel
set_option maxRecDepth 20000 in
theorem ggX7_handsNeeded_X7_sortHours : GoodIn wsX7_handsNeeded wsX7_sortHours := goodIn_r _ [9, 10, 11, 12, 13, 14, 15, 16, 17, 18, 19, 20, 21, 22, 23, 24, 25, 26, 27, 28, 29, 30, 52, 53, 54, 55, 56, 57, 58, 59] (by decide +kernel) (by decide +kernel)
set_option maxRecDepth 20000 in
theorem gX7_handsNeeded_X7_sortHours : GoodIn wsX7_handsNeeded (wsV RX7 62 RX7 yX7_sortHours wsX7_sortHours) := goodIn_app (goodIn_of _ (by decide +kernel)) ggX7_handsNeeded_X7_sortHours
set_option maxRecDepth 20000 in
theorem ggX7_handsNeeded_X7_handsFor : GoodIn wsX7_handsNeeded wsX7_handsFor := goodIn_r _ [34, 35, 36, 37, 38, 39, 40, 8, 41, 42, 43, 18, 19, 20, 15, 21, 17, 44, 45, 46, 47, 48, 49, 50, 51, 10, 52, 53, 54, 55, 56, 57, 58, 59] (by decide +kernel) (by decide +kernel)
set_option maxRecDepth 20000 in
theorem gX7_handsNeeded_X7_handsFor : GoodIn wsX7_handsNeeded (wsV RX7 65 RX7 yX7_handsFor wsX7_handsFor) := goodIn_app (goodIn_of _ (by decide +kernel)) ggX7_handsNeeded_X7_handsFor
theorem dX7_handsNeeded_0 : decode cX7_handsNeeded 0 = .ok (.aload_n 0, 1) := by decide +kernel
theorem dX7_handsNeeded_1 : decode cX7_handsNeeded 1 = .ok (.iload_n 1, 1) := by decide +kernel
theorem dX7_handsNeeded_2 : decode cX7_handsNeeded 2 = .ok (.iload_n 2, 1) := by decide +kernel
theorem dX7_handsNeeded_3 : decode cX7_handsNeeded 3 = .ok (.invokevirtual 62, 3) := by decide +kernel
theorem dX7_handsNeeded_6 : decode cX7_handsNeeded 6 = .ok (.iconst 1, 1) := by decide +kernel
theorem dX7_handsNeeded_7 : decode cX7_handsNeeded 7 = .ok (.istore_n 3, 1) := by decide +kernel
theorem dX7_handsNeeded_8 : decode cX7_handsNeeded 8 = .ok (.iconst 1, 1) := by decide +kernel
theorem dX7_handsNeeded_9 : decode cX7_handsNeeded 9 = .ok (.istore 4, 2) := by decide +kernel
theorem dX7_handsNeeded_11 : decode cX7_handsNeeded 11 = .ok (.iload 4, 2) := by decide +kernel
theorem dX7_handsNeeded_13 : decode cX7_handsNeeded 13 = .ok (.bipush 32, 2) := by decide +kernel
theorem dX7_handsNeeded_15 : decode cX7_handsNeeded 15 = .ok (.if_icmp .ge 20, 3) := by decide +kernel
theorem dX7_handsNeeded_18 : decode cX7_handsNeeded 18 = .ok (.iload_n 3, 1) := by decide +kernel
theorem dX7_handsNeeded_19 : decode cX7_handsNeeded 19 = .ok (.aload_n 0, 1) := by decide +kernel
theorem dX7_handsNeeded_20 : decode cX7_handsNeeded 20 = .ok (.iload 4, 2) := by decide +kernel
theorem dX7_handsNeeded_22 : decode cX7_handsNeeded 22 = .ok (.invokevirtual 65, 3) := by decide +kernel
theorem dX7_handsNeeded_25 : decode cX7_handsNeeded 25 = .ok (.invokestatic 68, 3) := by decide +kernel
theorem dX7_handsNeeded_28 : decode cX7_handsNeeded 28 = .ok (.istore_n 3, 1) := by decide +kernel
theorem dX7_handsNeeded_29 : decode cX7_handsNeeded 29 = .ok (.iinc 4 1, 3) := by decide +kernel
theorem dX7_handsNeeded_32 : decode cX7_handsNeeded 32 = .ok (.goto (-21), 3) := by decide +kernel
theorem dX7_handsNeeded_35 : decode cX7_handsNeeded 35 = .ok (.iload_n 3, 1) := by decide +kernel
theorem dX7_handsNeeded_36 : decode cX7_handsNeeded 36 = .ok (.ireturn, 1) := by decide +kernel
set_option maxRecDepth 20000 in
theorem ggX7_sortHours_X6_fill : GoodIn wsX7_sortHours wsX6_fill := goodIn_r _ [7, 8, 29] (by decide +kernel) (by decide +kernel)
set_option maxRecDepth 20000 in
theorem gX7_sortHours_X6_fill : GoodIn wsX7_sortHours (wsV RX7 38 RX6 yX6_fill wsX6_fill) := goodIn_app (goodIn_of _ (by decide +kernel)) ggX7_sortHours_X6_fill
set_option maxRecDepth 20000 in
theorem ggX7_sortHours_X6_get : GoodIn wsX7_sortHours wsX6_get := goodIn_r _ [12, 8, 29] (by decide +kernel) (by decide +kernel)
set_option maxRecDepth 20000 in
theorem gX7_sortHours_X6_get : GoodIn wsX7_sortHours (wsV RX7 54 RX6 yX6_get wsX6_get) := goodIn_app (goodIn_of _ (by decide +kernel)) ggX7_sortHours_X6_get
set_option maxRecDepth 20000 in
theorem ggX7_sortHours_X6_add : GoodIn wsX7_sortHours wsX6_add := goodIn_r _ [16, 17, 10, 11, 6, 12, 8, 18, 19, 20, 21, 29] (by decide +kernel) (by decide +kernel)
set_option maxRecDepth 20000 in
theorem gX7_sortHours_X6_add : GoodIn wsX7_sortHours (wsV RX7 73 RX6 yX6_add wsX6_add) := goodIn_app (goodIn_of _ (by decide +kernel)) ggX7_sortHours_X6_add
theorem dX7_sortHours_0 : decode cX7_sortHours 0 = .ok (.aload_n 0, 1) := by decide +kernel
theorem dX7_sortHours_1 : decode cX7_sortHours 1 = .ok (.getfield 26, 3) := by decide +kernel
theorem dX7_sortHours_4 : decode cX7_sortHours 4 = .ok (.iconst 0, 1) := by decide +kernel
theorem dX7_sortHours_5 : decode cX7_sortHours 5 = .ok (.invokevirtual 38, 3) := by decide +kernel
theorem dX7_sortHours_8 : decode cX7_sortHours 8 = .ok (.iload_n 1, 1) := by decide +kernel
theorem dX7_sortHours_9 : decode cX7_sortHours 9 = .ok (.istore_n 3, 1) := by decide +kernel
theorem dX7_sortHours_10 : decode cX7_sortHours 10 = .ok (.iload_n 3, 1) := by decide +kernel
theorem dX7_sortHours_11 : decode cX7_sortHours 11 = .ok (.iload_n 2, 1) := by decide +kernel
theorem dX7_sortHours_12 : decode cX7_sortHours 12 = .ok (.if_icmp .ge 28, 3) := by decide +kernel
theorem dX7_sortHours_15 : decode cX7_sortHours 15 = .ok (.aload_n 0, 1) := by decide +kernel
theorem dX7_sortHours_16 : decode cX7_sortHours 16 = .ok (.getfield 26, 3) := by decide +kernel
theorem dX7_sortHours_19 : decode cX7_sortHours 19 = .ok (.bipush 31, 2) := by decide +kernel
theorem dX7_sortHours_21 : decode cX7_sortHours 21 = .ok (.aload_n 0, 1) := by decide +kernel
theorem dX7_sortHours_22 : decode cX7_sortHours 22 = .ok (.getfield 23, 3) := by decide +kernel
theorem dX7_sortHours_25 : decode cX7_sortHours 25 = .ok (.iload_n 3, 1) := by decide +kernel
theorem dX7_sortHours_26 : decode cX7_sortHours 26 = .ok (.invokevirtual 54, 3) := by decide +kernel
theorem dX7_sortHours_29 : decode cX7_sortHours 29 = .ok (.isub, 1) := by decide +kernel
theorem dX7_sortHours_30 : decode cX7_sortHours 30 = .ok (.iconst 1, 1) := by decide +kernel
theorem dX7_sortHours_31 : decode cX7_sortHours 31 = .ok (.invokevirtual 73, 3) := by decide +kernel
theorem dX7_sortHours_34 : decode cX7_sortHours 34 = .ok (.iinc 3 1, 3) := by decide +kernel
theorem dX7_sortHours_37 : decode cX7_sortHours 37 = .ok (.goto (-27), 3) := by decide +kernel
theorem dX7_sortHours_40 : decode cX7_sortHours 40 = .ok (.return_, 1) := by decide +kernel
set_option maxRecDepth 20000 in
theorem ggX7_handsFor_X10_hasBit : GoodIn wsX7_handsFor wsX10_hasBit := goodIn_r _ [3] (by decide +kernel) (by decide +kernel)
set_option maxRecDepth 20000 in
theorem gX7_handsFor_X10_hasBit_n76 : GoodIn wsX7_handsFor (wsX10_hasBit) := ggX7_handsFor_X10_hasBit
set_option maxRecDepth 20000 in
theorem ggX7_handsFor_X7_workOf : GoodIn wsX7_handsFor wsX7_workOf := goodIn_r _ [8, 9, 10, 11, 12, 13, 14, 15, 16, 17, 18, 7, 19, 20, 26, 27, 28, 29, 30, 31, 32, 33] (by decide +kernel) (by decide +kernel)
set_option maxRecDepth 20000 in
theorem gX7_handsFor_X7_workOf : GoodIn wsX7_handsFor (wsV RX7 80 RX7 yX7_workOf wsX7_workOf) := goodIn_app (goodIn_of _ (by decide +kernel)) ggX7_handsFor_X7_workOf
set_option maxRecDepth 20000 in
theorem ggX7_handsFor_X7_hoursFor : GoodIn wsX7_handsFor wsX7_hoursFor := goodIn_r _ [24, 25, 11, 12, 13, 14, 15, 16, 26, 27, 28, 29, 30, 31, 32, 33] (by decide +kernel) (by decide +kernel)
set_option maxRecDepth 20000 in
theorem gX7_handsFor_X7_hoursFor : GoodIn wsX7_handsFor (wsV RX7 83 RX7 yX7_hoursFor wsX7_hoursFor) := goodIn_app (goodIn_of _ (by decide +kernel)) ggX7_handsFor_X7_hoursFor
set_option maxRecDepth 20000 in
theorem ggX7_handsFor_X7_roundedUp : GoodIn wsX7_handsFor wsX7_roundedUp := goodIn_r _ [19, 20] (by decide +kernel) (by decide +kernel)
set_option maxRecDepth 20000 in
theorem gX7_handsFor_X7_roundedUp : GoodIn wsX7_handsFor (va_wsS RX7 57 yX7_roundedUp wsX7_roundedUp) := goodIn_app (goodIn_of _ (by decide +kernel)) ggX7_handsFor_X7_roundedUp
theorem dX7_handsFor_0 : decode cX7_handsFor 0 = .ok (.iconst 0, 1) := by decide +kernel
theorem dX7_handsFor_1 : decode cX7_handsFor 1 = .ok (.istore_n 2, 1) := by decide +kernel
theorem dX7_handsFor_2 : decode cX7_handsFor 2 = .ok (.iconst 0, 1) := by decide +kernel
theorem dX7_handsFor_3 : decode cX7_handsFor 3 = .ok (.istore_n 3, 1) := by decide +kernel
theorem dX7_handsFor_4 : decode cX7_handsFor 4 = .ok (.iload_n 3, 1) := by decide +kernel
theorem dX7_handsFor_5 : decode cX7_handsFor 5 = .ok (.iconst 5, 1) := by decide +kernel
theorem dX7_handsFor_6 : decode cX7_handsFor 6 = .ok (.if_icmp .ge 25, 3) := by decide +kernel
theorem dX7_handsFor_9 : decode cX7_handsFor 9 = .ok (.iload_n 1, 1) := by decide +kernel
theorem dX7_handsFor_10 : decode cX7_handsFor 10 = .ok (.iload_n 3, 1) := by decide +kernel
theorem dX7_handsFor_11 : decode cX7_handsFor 11 = .ok (.invokestatic 76, 3) := by decide +kernel
theorem dX7_handsFor_14 : decode cX7_handsFor 14 = .ok (.ifCond .eq 11, 3) := by decide +kernel
theorem dX7_handsFor_17 : decode cX7_handsFor 17 = .ok (.iload_n 2, 1) := by decide +kernel
theorem dX7_handsFor_18 : decode cX7_handsFor 18 = .ok (.aload_n 0, 1) := by decide +kernel
theorem dX7_handsFor_19 : decode cX7_handsFor 19 = .ok (.iload_n 3, 1) := by decide +kernel
theorem dX7_handsFor_20 : decode cX7_handsFor 20 = .ok (.invokevirtual 80, 3) := by decide +kernel
theorem dX7_handsFor_23 : decode cX7_handsFor 23 = .ok (.iadd, 1) := by decide +kernel
theorem dX7_handsFor_24 : decode cX7_handsFor 24 = .ok (.istore_n 2, 1) := by decide +kernel
theorem dX7_handsFor_25 : decode cX7_handsFor 25 = .ok (.iinc 3 1, 3) := by decide +kernel
theorem dX7_handsFor_28 : decode cX7_handsFor 28 = .ok (.goto (-24), 3) := by decide +kernel
theorem dX7_handsFor_31 : decode cX7_handsFor 31 = .ok (.iload_n 2, 1) := by decide +kernel
theorem dX7_handsFor_32 : decode cX7_handsFor 32 = .ok (.ifCond .ne 7, 3) := by decide +kernel
theorem dX7_handsFor_35 : decode cX7_handsFor 35 = .ok (.iconst 0, 1) := by decide +kernel
theorem dX7_handsFor_36 : decode cX7_handsFor 36 = .ok (.goto 12, 3) := by decide +kernel
theorem dX7_handsFor_39 : decode cX7_handsFor 39 = .ok (.iload_n 2, 1) := by decide +kernel
theorem dX7_handsFor_40 : decode cX7_handsFor 40 = .ok (.aload_n 0, 1) := by decide +kernel
theorem dX7_handsFor_41 : decode cX7_handsFor 41 = .ok (.iload_n 1, 1) := by decide +kernel
theorem dX7_handsFor_42 : decode cX7_handsFor 42 = .ok (.invokevirtual 83, 3) := by decide +kernel
theorem dX7_handsFor_45 : decode cX7_handsFor 45 = .ok (.invokestatic 57, 3) := by decide +kernel
theorem dX7_handsFor_48 : decode cX7_handsFor 48 = .ok (.ireturn, 1) := by decide +kernel
set_option maxRecDepth 20000 in
theorem ggX7_hoursFor_X6_get : GoodIn wsX7_hoursFor wsX6_get := goodIn_r _ [6, 7, 15] (by decide +kernel) (by decide +kernel)
set_option maxRecDepth 20000 in
theorem gX7_hoursFor_X6_get : GoodIn wsX7_hoursFor (wsV RX7 54 RX6 yX6_get wsX6_get) := goodIn_app (goodIn_of _ (by decide +kernel)) ggX7_hoursFor_X6_get
theorem dX7_hoursFor_0 : decode cX7_hoursFor 0 = .ok (.iconst 0, 1) := by decide +kernel
theorem dX7_hoursFor_1 : decode cX7_hoursFor 1 = .ok (.istore_n 2, 1) := by decide +kernel
theorem dX7_hoursFor_2 : decode cX7_hoursFor 2 = .ok (.iconst 1, 1) := by decide +kernel
theorem dX7_hoursFor_3 : decode cX7_hoursFor 3 = .ok (.istore_n 3, 1) := by decide +kernel
theorem dX7_hoursFor_4 : decode cX7_hoursFor 4 = .ok (.iload_n 3, 1) := by decide +kernel
theorem dX7_hoursFor_5 : decode cX7_hoursFor 5 = .ok (.bipush 32, 2) := by decide +kernel
theorem dX7_hoursFor_7 : decode cX7_hoursFor 7 = .ok (.if_icmp .ge 26, 3) := by decide +kernel
theorem dX7_hoursFor_10 : decode cX7_hoursFor 10 = .ok (.iload_n 3, 1) := by decide +kernel
theorem dX7_hoursFor_11 : decode cX7_hoursFor 11 = .ok (.iload_n 1, 1) := by decide +kernel
theorem dX7_hoursFor_12 : decode cX7_hoursFor 12 = .ok (.iand, 1) := by decide +kernel
theorem dX7_hoursFor_13 : decode cX7_hoursFor 13 = .ok (.ifCond .eq 14, 3) := by decide +kernel
theorem dX7_hoursFor_16 : decode cX7_hoursFor 16 = .ok (.iload_n 2, 1) := by decide +kernel
theorem dX7_hoursFor_17 : decode cX7_hoursFor 17 = .ok (.aload_n 0, 1) := by decide +kernel
theorem dX7_hoursFor_18 : decode cX7_hoursFor 18 = .ok (.getfield 26, 3) := by decide +kernel
theorem dX7_hoursFor_21 : decode cX7_hoursFor 21 = .ok (.iload_n 3, 1) := by decide +kernel
theorem dX7_hoursFor_22 : decode cX7_hoursFor 22 = .ok (.invokevirtual 54, 3) := by decide +kernel
theorem dX7_hoursFor_25 : decode cX7_hoursFor 25 = .ok (.iadd, 1) := by decide +kernel
theorem dX7_hoursFor_26 : decode cX7_hoursFor 26 = .ok (.istore_n 2, 1) := by decide +kernel
theorem dX7_hoursFor_27 : decode cX7_hoursFor 27 = .ok (.iinc 3 1, 3) := by decide +kernel
theorem dX7_hoursFor_30 : decode cX7_hoursFor 30 = .ok (.goto (-26), 3) := by decide +kernel
theorem dX7_hoursFor_33 : decode cX7_hoursFor 33 = .ok (.iload_n 2, 1) := by decide +kernel
theorem dX7_hoursFor_34 : decode cX7_hoursFor 34 = .ok (.ireturn, 1) := by decide +kernel
set_option maxRecDepth 20000 in
theorem ggX7_earliestEnd_X7_handsNeeded : GoodIn wsX7_earliestEnd wsX7_handsNeeded := goodIn_r _ [5, 6, 7, 8, 9, 10, 11, 12, 4, 13, 14, 15, 16, 17, 18, 19, 20, 21, 22, 23, 24, 25, 26, 27, 28, 29, 30, 31, 32, 33, 34, 35, 36, 37, 38, 39, 40, 41, 42, 43, 44, 45, 46, 47, 48, 49, 50, 51, 52, 53, 54, 55, 56, 57, 58, 59, 60, 61, 62, 63] (by decide +kernel) (by decide +kernel)
set_option maxRecDepth 20000 in
theorem gX7_earliestEnd_X7_handsNeeded : GoodIn wsX7_earliestEnd (wsV RX7 86 RX7 yX7_handsNeeded wsX7_handsNeeded) := goodIn_app (goodIn_of _ (by decide +kernel)) ggX7_earliestEnd_X7_handsNeeded
theorem dX7_earliestEnd_0 : decode cX7_earliestEnd 0 = .ok (.aload_n 0, 1) := by decide +kernel
theorem dX7_earliestEnd_1 : decode cX7_earliestEnd 1 = .ok (.iload_n 1, 1) := by decide +kernel
theorem dX7_earliestEnd_2 : decode cX7_earliestEnd 2 = .ok (.sipush 1000, 3) := by decide +kernel
theorem dX7_earliestEnd_5 : decode cX7_earliestEnd 5 = .ok (.invokevirtual 86, 3) := by decide +kernel
theorem dX7_earliestEnd_8 : decode cX7_earliestEnd 8 = .ok (.iload_n 2, 1) := by decide +kernel
theorem dX7_earliestEnd_9 : decode cX7_earliestEnd 9 = .ok (.if_icmp .le 6, 3) := by decide +kernel
theorem dX7_earliestEnd_12 : decode cX7_earliestEnd 12 = .ok (.bipush (-4), 2) := by decide +kernel
theorem dX7_earliestEnd_14 : decode cX7_earliestEnd 14 = .ok (.ireturn, 1) := by decide +kernel
theorem dX7_earliestEnd_15 : decode cX7_earliestEnd 15 = .ok (.iload_n 1, 1) := by decide +kernel
theorem dX7_earliestEnd_16 : decode cX7_earliestEnd 16 = .ok (.istore_n 3, 1) := by decide +kernel
theorem dX7_earliestEnd_17 : decode cX7_earliestEnd 17 = .ok (.sipush 1000, 3) := by decide +kernel
theorem dX7_earliestEnd_20 : decode cX7_earliestEnd 20 = .ok (.istore 4, 2) := by decide +kernel
theorem dX7_earliestEnd_22 : decode cX7_earliestEnd 22 = .ok (.iconst 0, 1) := by decide +kernel
theorem dX7_earliestEnd_23 : decode cX7_earliestEnd 23 = .ok (.istore 5, 2) := by decide +kernel
theorem dX7_earliestEnd_25 : decode cX7_earliestEnd 25 = .ok (.iload 5, 2) := by decide +kernel
theorem dX7_earliestEnd_27 : decode cX7_earliestEnd 27 = .ok (.sipush 1000, 3) := by decide +kernel
theorem dX7_earliestEnd_30 : decode cX7_earliestEnd 30 = .ok (.if_icmp .ge 46, 3) := by decide +kernel
theorem dX7_earliestEnd_33 : decode cX7_earliestEnd 33 = .ok (.iload_n 3, 1) := by decide +kernel
theorem dX7_earliestEnd_34 : decode cX7_earliestEnd 34 = .ok (.iload 4, 2) := by decide +kernel
theorem dX7_earliestEnd_36 : decode cX7_earliestEnd 36 = .ok (.if_icmp .ge 40, 3) := by decide +kernel
theorem dX7_earliestEnd_39 : decode cX7_earliestEnd 39 = .ok (.iload_n 3, 1) := by decide +kernel
theorem dX7_earliestEnd_40 : decode cX7_earliestEnd 40 = .ok (.iload 4, 2) := by decide +kernel
theorem dX7_earliestEnd_42 : decode cX7_earliestEnd 42 = .ok (.iadd, 1) := by decide +kernel
theorem dX7_earliestEnd_43 : decode cX7_earliestEnd 43 = .ok (.iconst 2, 1) := by decide +kernel
theorem dX7_earliestEnd_44 : decode cX7_earliestEnd 44 = .ok (.idiv, 1) := by decide +kernel
theorem dX7_earliestEnd_45 : decode cX7_earliestEnd 45 = .ok (.istore 6, 2) := by decide +kernel
theorem dX7_earliestEnd_47 : decode cX7_earliestEnd 47 = .ok (.aload_n 0, 1) := by decide +kernel
theorem dX7_earliestEnd_48 : decode cX7_earliestEnd 48 = .ok (.iload_n 1, 1) := by decide +kernel
theorem dX7_earliestEnd_49 : decode cX7_earliestEnd 49 = .ok (.iload 6, 2) := by decide +kernel
theorem dX7_earliestEnd_51 : decode cX7_earliestEnd 51 = .ok (.invokevirtual 86, 3) := by decide +kernel
theorem dX7_earliestEnd_54 : decode cX7_earliestEnd 54 = .ok (.iload_n 2, 1) := by decide +kernel
theorem dX7_earliestEnd_55 : decode cX7_earliestEnd 55 = .ok (.if_icmp .le 11, 3) := by decide +kernel
theorem dX7_earliestEnd_58 : decode cX7_earliestEnd 58 = .ok (.iload 6, 2) := by decide +kernel
theorem dX7_earliestEnd_60 : decode cX7_earliestEnd 60 = .ok (.iconst 1, 1) := by decide +kernel
theorem dX7_earliestEnd_61 : decode cX7_earliestEnd 61 = .ok (.iadd, 1) := by decide +kernel
theorem dX7_earliestEnd_62 : decode cX7_earliestEnd 62 = .ok (.istore_n 3, 1) := by decide +kernel
theorem dX7_earliestEnd_63 : decode cX7_earliestEnd 63 = .ok (.goto 7, 3) := by decide +kernel
theorem dX7_earliestEnd_66 : decode cX7_earliestEnd 66 = .ok (.iload 6, 2) := by decide +kernel
theorem dX7_earliestEnd_68 : decode cX7_earliestEnd 68 = .ok (.istore 4, 2) := by decide +kernel
theorem dX7_earliestEnd_70 : decode cX7_earliestEnd 70 = .ok (.iinc 5 1, 3) := by decide +kernel
theorem dX7_earliestEnd_73 : decode cX7_earliestEnd 73 = .ok (.goto (-48), 3) := by decide +kernel
theorem dX7_earliestEnd_76 : decode cX7_earliestEnd 76 = .ok (.iload 4, 2) := by decide +kernel
theorem dX7_earliestEnd_78 : decode cX7_earliestEnd 78 = .ok (.ireturn, 1) := by decide +kernel
set_option maxRecDepth 20000 in
theorem ggX7_work_X7_workOf : GoodIn wsX7_work wsX7_workOf := goodIn_r _ [7, 8, 9, 10, 11, 12, 13, 14, 15, 16, 17, 6, 18, 19, 59, 60, 61, 62, 63, 64, 65, 66] (by decide +kernel) (by decide +kernel)
set_option maxRecDepth 20000 in
theorem gX7_work_X7_workOf : GoodIn wsX7_work (wsV RX7 80 RX7 yX7_workOf wsX7_workOf) := goodIn_app (goodIn_of _ (by decide +kernel)) ggX7_work_X7_workOf
set_option maxRecDepth 20000 in
theorem ggX7_work_X6_set : GoodIn wsX7_work wsX6_set := goodIn_r _ [23, 15, 66] (by decide +kernel) (by decide +kernel)
set_option maxRecDepth 20000 in
theorem gX7_work_X6_set : GoodIn wsX7_work (wsV RX7 50 RX6 yX6_set wsX6_set) := goodIn_app (goodIn_of _ (by decide +kernel)) ggX7_work_X6_set
set_option maxRecDepth 20000 in
theorem ggX7_work_X7_openHours : GoodIn wsX7_work wsX7_openHours := goodIn_r _ [27, 28, 29, 30, 6, 31, 32, 10, 11, 12, 13, 14, 15, 33, 34, 35, 59, 60, 61, 62, 63, 64, 65, 66] (by decide +kernel) (by decide +kernel)
set_option maxRecDepth 20000 in
theorem gX7_work_X7_openHours : GoodIn wsX7_work (wsV RX7 89 RX7 yX7_openHours wsX7_openHours) := goodIn_app (goodIn_of _ (by decide +kernel)) ggX7_work_X7_openHours
set_option maxRecDepth 20000 in
theorem ggX7_work_X7_placeHands : GoodIn wsX7_work wsX7_placeHands := goodIn_r _ [39, 40, 1, 41, 42, 43, 44, 2, 45, 46, 47, 13, 48, 15, 49, 50, 51, 6, 52, 28, 29, 30, 31, 32, 10, 11, 12, 14, 33, 34, 35, 20, 21, 22, 23, 53, 54, 55, 56, 57, 58, 59, 60, 61, 62, 63, 64, 65, 66] (by decide +kernel) (by decide +kernel)
set_option maxRecDepth 20000 in
theorem gX7_work_X7_placeHands : GoodIn wsX7_work (wsV RX7 93 RX7 yX7_placeHands wsX7_placeHands) := goodIn_app (goodIn_of _ (by decide +kernel)) ggX7_work_X7_placeHands
theorem dX7_work_0 : decode cX7_work 0 = .ok (.iconst 0, 1) := by decide +kernel
theorem dX7_work_1 : decode cX7_work 1 = .ok (.istore 5, 2) := by decide +kernel
theorem dX7_work_3 : decode cX7_work 3 = .ok (.iload 5, 2) := by decide +kernel
theorem dX7_work_5 : decode cX7_work 5 = .ok (.iconst 5, 1) := by decide +kernel
theorem dX7_work_6 : decode cX7_work 6 = .ok (.if_icmp .ge 41, 3) := by decide +kernel
theorem dX7_work_9 : decode cX7_work 9 = .ok (.aload_n 0, 1) := by decide +kernel
theorem dX7_work_10 : decode cX7_work 10 = .ok (.getfield 29, 3) := by decide +kernel
theorem dX7_work_13 : decode cX7_work 13 = .ok (.iload 5, 2) := by decide +kernel
theorem dX7_work_15 : decode cX7_work 15 = .ok (.aload_n 0, 1) := by decide +kernel
theorem dX7_work_16 : decode cX7_work 16 = .ok (.iload 5, 2) := by decide +kernel
theorem dX7_work_18 : decode cX7_work 18 = .ok (.invokevirtual 80, 3) := by decide +kernel
theorem dX7_work_21 : decode cX7_work 21 = .ok (.invokevirtual 50, 3) := by decide +kernel
theorem dX7_work_24 : decode cX7_work 24 = .ok (.aload_n 0, 1) := by decide +kernel
theorem dX7_work_25 : decode cX7_work 25 = .ok (.getfield 32, 3) := by decide +kernel
theorem dX7_work_28 : decode cX7_work 28 = .ok (.iload 5, 2) := by decide +kernel
theorem dX7_work_30 : decode cX7_work 30 = .ok (.aload_n 0, 1) := by decide +kernel
theorem dX7_work_31 : decode cX7_work 31 = .ok (.iload 5, 2) := by decide +kernel
theorem dX7_work_33 : decode cX7_work 33 = .ok (.iload_n 1, 1) := by decide +kernel
theorem dX7_work_34 : decode cX7_work 34 = .ok (.iload_n 2, 1) := by decide +kernel
theorem dX7_work_35 : decode cX7_work 35 = .ok (.invokevirtual 89, 3) := by decide +kernel
theorem dX7_work_38 : decode cX7_work 38 = .ok (.invokevirtual 50, 3) := by decide +kernel
theorem dX7_work_41 : decode cX7_work 41 = .ok (.iinc 5 1, 3) := by decide +kernel
theorem dX7_work_44 : decode cX7_work 44 = .ok (.goto (-41), 3) := by decide +kernel
theorem dX7_work_47 : decode cX7_work 47 = .ok (.iload_n 1, 1) := by decide +kernel
theorem dX7_work_48 : decode cX7_work 48 = .ok (.istore 5, 2) := by decide +kernel
theorem dX7_work_50 : decode cX7_work 50 = .ok (.iload 5, 2) := by decide +kernel
theorem dX7_work_52 : decode cX7_work 52 = .ok (.iload 4, 2) := by decide +kernel
theorem dX7_work_54 : decode cX7_work 54 = .ok (.if_icmp .ge 16, 3) := by decide +kernel
theorem dX7_work_57 : decode cX7_work 57 = .ok (.aload_n 0, 1) := by decide +kernel
theorem dX7_work_58 : decode cX7_work 58 = .ok (.iload 5, 2) := by decide +kernel
theorem dX7_work_60 : decode cX7_work 60 = .ok (.iload_n 3, 1) := by decide +kernel
theorem dX7_work_61 : decode cX7_work 61 = .ok (.invokevirtual 93, 3) := by decide +kernel
theorem dX7_work_64 : decode cX7_work 64 = .ok (.iinc 5 1, 3) := by decide +kernel
theorem dX7_work_67 : decode cX7_work 67 = .ok (.goto (-17), 3) := by decide +kernel
theorem dX7_work_70 : decode cX7_work 70 = .ok (.return_, 1) := by decide +kernel
set_option maxRecDepth 20000 in
theorem ggX7_openHours_X7_isOpen : GoodIn wsX7_openHours wsX7_isOpen := goodIn_r _ [5, 6, 7, 8, 9, 10, 11, 12, 13, 14, 15, 16, 17, 18, 19, 20, 21, 22, 23] (by decide +kernel) (by decide +kernel)
set_option maxRecDepth 20000 in
theorem gX7_openHours_X7_isOpen : GoodIn wsX7_openHours (wsV RX7 96 RX7 yX7_isOpen wsX7_isOpen) := goodIn_app (goodIn_of _ (by decide +kernel)) ggX7_openHours_X7_isOpen
theorem dX7_openHours_0 : decode cX7_openHours 0 = .ok (.iconst 0, 1) := by decide +kernel
theorem dX7_openHours_1 : decode cX7_openHours 1 = .ok (.istore 4, 2) := by decide +kernel
theorem dX7_openHours_3 : decode cX7_openHours 3 = .ok (.iload_n 2, 1) := by decide +kernel
theorem dX7_openHours_4 : decode cX7_openHours 4 = .ok (.istore 5, 2) := by decide +kernel
theorem dX7_openHours_6 : decode cX7_openHours 6 = .ok (.iload 5, 2) := by decide +kernel
theorem dX7_openHours_8 : decode cX7_openHours 8 = .ok (.iload_n 3, 1) := by decide +kernel
theorem dX7_openHours_9 : decode cX7_openHours 9 = .ok (.if_icmp .ge 22, 3) := by decide +kernel
theorem dX7_openHours_12 : decode cX7_openHours 12 = .ok (.aload_n 0, 1) := by decide +kernel
theorem dX7_openHours_13 : decode cX7_openHours 13 = .ok (.iload_n 1, 1) := by decide +kernel
theorem dX7_openHours_14 : decode cX7_openHours 14 = .ok (.iload 5, 2) := by decide +kernel
theorem dX7_openHours_16 : decode cX7_openHours 16 = .ok (.invokevirtual 96, 3) := by decide +kernel
theorem dX7_openHours_19 : decode cX7_openHours 19 = .ok (.ifCond .eq 6, 3) := by decide +kernel
theorem dX7_openHours_22 : decode cX7_openHours 22 = .ok (.iinc 4 1, 3) := by decide +kernel
theorem dX7_openHours_25 : decode cX7_openHours 25 = .ok (.iinc 5 1, 3) := by decide +kernel
theorem dX7_openHours_28 : decode cX7_openHours 28 = .ok (.goto (-22), 3) := by decide +kernel
theorem dX7_openHours_31 : decode cX7_openHours 31 = .ok (.iload 4, 2) := by decide +kernel
theorem dX7_openHours_33 : decode cX7_openHours 33 = .ok (.ireturn, 1) := by decide +kernel
set_option maxRecDepth 20000 in
theorem ggX7_isOpen_X6_get : GoodIn wsX7_isOpen wsX6_get := goodIn_r _ [6, 7, 18] (by decide +kernel) (by decide +kernel)
set_option maxRecDepth 20000 in
theorem gX7_isOpen_X6_get : GoodIn wsX7_isOpen (wsV RX7 54 RX6 yX6_get wsX6_get) := goodIn_app (goodIn_of _ (by decide +kernel)) ggX7_isOpen_X6_get
set_option maxRecDepth 20000 in
theorem ggX7_isOpen_X10_hasBit : GoodIn wsX7_isOpen wsX10_hasBit := goodIn_r _ [10] (by decide +kernel) (by decide +kernel)
set_option maxRecDepth 20000 in
theorem gX7_isOpen_X10_hasBit_n76 : GoodIn wsX7_isOpen (wsX10_hasBit) := ggX7_isOpen_X10_hasBit
theorem dX7_isOpen_0 : decode cX7_isOpen 0 = .ok (.aload_n 0, 1) := by decide +kernel
theorem dX7_isOpen_1 : decode cX7_isOpen 1 = .ok (.getfield 23, 3) := by decide +kernel
theorem dX7_isOpen_4 : decode cX7_isOpen 4 = .ok (.iload_n 2, 1) := by decide +kernel
theorem dX7_isOpen_5 : decode cX7_isOpen 5 = .ok (.invokevirtual 54, 3) := by decide +kernel
theorem dX7_isOpen_8 : decode cX7_isOpen 8 = .ok (.iload_n 1, 1) := by decide +kernel
theorem dX7_isOpen_9 : decode cX7_isOpen 9 = .ok (.invokestatic 76, 3) := by decide +kernel
theorem dX7_isOpen_12 : decode cX7_isOpen 12 = .ok (.ifCond .ne 7, 3) := by decide +kernel
theorem dX7_isOpen_15 : decode cX7_isOpen 15 = .ok (.iconst 1, 1) := by decide +kernel
theorem dX7_isOpen_16 : decode cX7_isOpen 16 = .ok (.goto 4, 3) := by decide +kernel
theorem dX7_isOpen_19 : decode cX7_isOpen 19 = .ok (.iconst 0, 1) := by decide +kernel
theorem dX7_isOpen_20 : decode cX7_isOpen 20 = .ok (.ireturn, 1) := by decide +kernel
set_option maxRecDepth 20000 in
theorem ggX7_placeHands_X6_fill : GoodIn wsX7_placeHands wsX6_fill := goodIn_r _ [12, 13, 48] (by decide +kernel) (by decide +kernel)
set_option maxRecDepth 20000 in
theorem gX7_placeHands_X6_fill : GoodIn wsX7_placeHands (wsV RX7 38 RX6 yX6_fill wsX6_fill) := goodIn_app (goodIn_of _ (by decide +kernel)) ggX7_placeHands_X6_fill
set_option maxRecDepth 20000 in
theorem ggX7_placeHands_X7_scarcest : GoodIn wsX7_placeHands wsX7_scarcest := goodIn_r _ [18, 2, 7, 19, 20, 21, 17, 22, 23, 24, 25, 26, 11, 27, 13, 28, 29, 30, 41, 42, 43, 44, 45, 46, 47, 48] (by decide +kernel) (by decide +kernel)
set_option maxRecDepth 20000 in
theorem gX7_placeHands_X7_scarcest : GoodIn wsX7_placeHands (wsV RX7 99 RX7 yX7_scarcest wsX7_scarcest) := goodIn_app (goodIn_of _ (by decide +kernel)) ggX7_placeHands_X7_scarcest
set_option maxRecDepth 20000 in
theorem ggX7_placeHands_X6_get : GoodIn wsX7_placeHands wsX6_get := goodIn_r _ [27, 13, 48] (by decide +kernel) (by decide +kernel)
set_option maxRecDepth 20000 in
theorem gX7_placeHands_X6_get : GoodIn wsX7_placeHands (wsV RX7 54 RX6 yX6_get wsX6_get) := goodIn_app (goodIn_of _ (by decide +kernel)) ggX7_placeHands_X6_get
set_option maxRecDepth 20000 in
theorem ggX7_placeHands_X6_set : GoodIn wsX7_placeHands wsX6_set := goodIn_r _ [34, 13, 48] (by decide +kernel) (by decide +kernel)
set_option maxRecDepth 20000 in
theorem gX7_placeHands_X6_set : GoodIn wsX7_placeHands (wsV RX7 50 RX6 yX6_set wsX6_set) := goodIn_app (goodIn_of _ (by decide +kernel)) ggX7_placeHands_X6_set
set_option maxRecDepth 20000 in
theorem ggX7_placeHands_X6_add : GoodIn wsX7_placeHands wsX6_add := goodIn_r _ [38, 39, 25, 26, 11, 27, 13, 40, 32, 33, 34, 48] (by decide +kernel) (by decide +kernel)
set_option maxRecDepth 20000 in
theorem gX7_placeHands_X6_add : GoodIn wsX7_placeHands (wsV RX7 73 RX6 yX6_add wsX6_add) := goodIn_app (goodIn_of _ (by decide +kernel)) ggX7_placeHands_X6_add
set_option maxRecDepth 20000 in
theorem ggX7_placeHands_X7_isOpen : GoodIn wsX7_placeHands wsX7_isOpen := goodIn_r _ [22, 23, 24, 25, 26, 11, 27, 13, 28, 29, 30, 41, 42, 43, 44, 45, 46, 47, 48] (by decide +kernel) (by decide +kernel)
set_option maxRecDepth 20000 in
theorem gX7_placeHands_X7_isOpen : GoodIn wsX7_placeHands (wsV RX7 96 RX7 yX7_isOpen wsX7_isOpen) := goodIn_app (goodIn_of _ (by decide +kernel)) ggX7_placeHands_X7_isOpen
theorem dX7_placeHands_0 : decode cX7_placeHands 0 = .ok (.aload_n 0, 1) := by decide +kernel
theorem dX7_placeHands_1 : decode cX7_placeHands 1 = .ok (.getfield 35, 3) := by decide +kernel
theorem dX7_placeHands_4 : decode cX7_placeHands 4 = .ok (.iconst 0, 1) := by decide +kernel
theorem dX7_placeHands_5 : decode cX7_placeHands 5 = .ok (.invokevirtual 38, 3) := by decide +kernel
theorem dX7_placeHands_8 : decode cX7_placeHands 8 = .ok (.iload_n 2, 1) := by decide +kernel
theorem dX7_placeHands_9 : decode cX7_placeHands 9 = .ok (.istore_n 3, 1) := by decide +kernel
theorem dX7_placeHands_10 : decode cX7_placeHands 10 = .ok (.iconst 0, 1) := by decide +kernel
theorem dX7_placeHands_11 : decode cX7_placeHands 11 = .ok (.istore 4, 2) := by decide +kernel
theorem dX7_placeHands_13 : decode cX7_placeHands 13 = .ok (.iload 4, 2) := by decide +kernel
theorem dX7_placeHands_15 : decode cX7_placeHands 15 = .ok (.iconst 5, 1) := by decide +kernel
theorem dX7_placeHands_16 : decode cX7_placeHands 16 = .ok (.if_icmp .ge 73, 3) := by decide +kernel
theorem dX7_placeHands_19 : decode cX7_placeHands 19 = .ok (.iload_n 3, 1) := by decide +kernel
theorem dX7_placeHands_20 : decode cX7_placeHands 20 = .ok (.ifCond .le 69, 3) := by decide +kernel
theorem dX7_placeHands_23 : decode cX7_placeHands 23 = .ok (.aload_n 0, 1) := by decide +kernel
theorem dX7_placeHands_24 : decode cX7_placeHands 24 = .ok (.iload_n 1, 1) := by decide +kernel
theorem dX7_placeHands_25 : decode cX7_placeHands 25 = .ok (.invokevirtual 99, 3) := by decide +kernel
theorem dX7_placeHands_28 : decode cX7_placeHands 28 = .ok (.istore 5, 2) := by decide +kernel
theorem dX7_placeHands_30 : decode cX7_placeHands 30 = .ok (.iload 5, 2) := by decide +kernel
theorem dX7_placeHands_32 : decode cX7_placeHands 32 = .ok (.bipush (-4), 2) := by decide +kernel
theorem dX7_placeHands_34 : decode cX7_placeHands 34 = .ok (.if_icmp .ne 6, 3) := by decide +kernel
theorem dX7_placeHands_37 : decode cX7_placeHands 37 = .ok (.goto 52, 3) := by decide +kernel
theorem dX7_placeHands_40 : decode cX7_placeHands 40 = .ok (.iload_n 3, 1) := by decide +kernel
theorem dX7_placeHands_41 : decode cX7_placeHands 41 = .ok (.aload_n 0, 1) := by decide +kernel
theorem dX7_placeHands_42 : decode cX7_placeHands 42 = .ok (.getfield 29, 3) := by decide +kernel
theorem dX7_placeHands_45 : decode cX7_placeHands 45 = .ok (.iload 5, 2) := by decide +kernel
theorem dX7_placeHands_47 : decode cX7_placeHands 47 = .ok (.invokevirtual 54, 3) := by decide +kernel
theorem dX7_placeHands_50 : decode cX7_placeHands 50 = .ok (.invokestatic 102, 3) := by decide +kernel
theorem dX7_placeHands_53 : decode cX7_placeHands 53 = .ok (.istore 6, 2) := by decide +kernel
theorem dX7_placeHands_55 : decode cX7_placeHands 55 = .ok (.aload_n 0, 1) := by decide +kernel
theorem dX7_placeHands_56 : decode cX7_placeHands 56 = .ok (.getfield 35, 3) := by decide +kernel
theorem dX7_placeHands_59 : decode cX7_placeHands 59 = .ok (.iload 5, 2) := by decide +kernel
theorem dX7_placeHands_61 : decode cX7_placeHands 61 = .ok (.iload 6, 2) := by decide +kernel
theorem dX7_placeHands_63 : decode cX7_placeHands 63 = .ok (.invokevirtual 50, 3) := by decide +kernel
theorem dX7_placeHands_66 : decode cX7_placeHands 66 = .ok (.aload_n 0, 1) := by decide +kernel
theorem dX7_placeHands_67 : decode cX7_placeHands 67 = .ok (.getfield 29, 3) := by decide +kernel
theorem dX7_placeHands_70 : decode cX7_placeHands 70 = .ok (.iload 5, 2) := by decide +kernel
theorem dX7_placeHands_72 : decode cX7_placeHands 72 = .ok (.iload 6, 2) := by decide +kernel
theorem dX7_placeHands_74 : decode cX7_placeHands 74 = .ok (.ineg, 1) := by decide +kernel
theorem dX7_placeHands_75 : decode cX7_placeHands 75 = .ok (.invokevirtual 73, 3) := by decide +kernel
theorem dX7_placeHands_78 : decode cX7_placeHands 78 = .ok (.iload_n 3, 1) := by decide +kernel
theorem dX7_placeHands_79 : decode cX7_placeHands 79 = .ok (.iload 6, 2) := by decide +kernel
theorem dX7_placeHands_81 : decode cX7_placeHands 81 = .ok (.isub, 1) := by decide +kernel
theorem dX7_placeHands_82 : decode cX7_placeHands 82 = .ok (.istore_n 3, 1) := by decide +kernel
theorem dX7_placeHands_83 : decode cX7_placeHands 83 = .ok (.iinc 4 1, 3) := by decide +kernel
theorem dX7_placeHands_86 : decode cX7_placeHands 86 = .ok (.goto (-73), 3) := by decide +kernel
theorem dX7_placeHands_89 : decode cX7_placeHands 89 = .ok (.iconst 0, 1) := by decide +kernel
theorem dX7_placeHands_90 : decode cX7_placeHands 90 = .ok (.istore 4, 2) := by decide +kernel
theorem dX7_placeHands_92 : decode cX7_placeHands 92 = .ok (.iload 4, 2) := by decide +kernel
theorem dX7_placeHands_94 : decode cX7_placeHands 94 = .ok (.iconst 5, 1) := by decide +kernel
theorem dX7_placeHands_95 : decode cX7_placeHands 95 = .ok (.if_icmp .ge 29, 3) := by decide +kernel
theorem dX7_placeHands_98 : decode cX7_placeHands 98 = .ok (.aload_n 0, 1) := by decide +kernel
theorem dX7_placeHands_99 : decode cX7_placeHands 99 = .ok (.iload 4, 2) := by decide +kernel
theorem dX7_placeHands_101 : decode cX7_placeHands 101 = .ok (.iload_n 1, 1) := by decide +kernel
theorem dX7_placeHands_102 : decode cX7_placeHands 102 = .ok (.invokevirtual 96, 3) := by decide +kernel
theorem dX7_placeHands_105 : decode cX7_placeHands 105 = .ok (.ifCond .eq 13, 3) := by decide +kernel
theorem dX7_placeHands_108 : decode cX7_placeHands 108 = .ok (.aload_n 0, 1) := by decide +kernel
theorem dX7_placeHands_109 : decode cX7_placeHands 109 = .ok (.getfield 32, 3) := by decide +kernel
theorem dX7_placeHands_112 : decode cX7_placeHands 112 = .ok (.iload 4, 2) := by decide +kernel
theorem dX7_placeHands_114 : decode cX7_placeHands 114 = .ok (.iconst (-1), 1) := by decide +kernel
theorem dX7_placeHands_115 : decode cX7_placeHands 115 = .ok (.invokevirtual 73, 3) := by decide +kernel
theorem dX7_placeHands_118 : decode cX7_placeHands 118 = .ok (.iinc 4 1, 3) := by decide +kernel
theorem dX7_placeHands_121 : decode cX7_placeHands 121 = .ok (.goto (-29), 3) := by decide +kernel
theorem dX7_placeHands_124 : decode cX7_placeHands 124 = .ok (.return_, 1) := by decide +kernel
set_option maxRecDepth 20000 in
theorem ggX7_scarcest_X7_isOpen : GoodIn wsX7_scarcest wsX7_isOpen := goodIn_r _ [7, 8, 9, 10, 11, 12, 13, 14, 15, 16, 17, 18, 19, 20, 21, 22, 23, 24, 25] (by decide +kernel) (by decide +kernel)
set_option maxRecDepth 20000 in
theorem gX7_scarcest_X7_isOpen : GoodIn wsX7_scarcest (wsV RX7 96 RX7 yX7_isOpen wsX7_isOpen) := goodIn_app (goodIn_of _ (by decide +kernel)) ggX7_scarcest_X7_isOpen
set_option maxRecDepth 20000 in
theorem ggX7_scarcest_X6_get : GoodIn wsX7_scarcest wsX6_get := goodIn_r _ [13, 14, 25] (by decide +kernel) (by decide +kernel)
set_option maxRecDepth 20000 in
theorem gX7_scarcest_X6_get : GoodIn wsX7_scarcest (wsV RX7 54 RX6 yX6_get wsX6_get) := goodIn_app (goodIn_of _ (by decide +kernel)) ggX7_scarcest_X6_get
theorem dX7_scarcest_0 : decode cX7_scarcest 0 = .ok (.bipush (-4), 2) := by decide +kernel
theorem dX7_scarcest_2 : decode cX7_scarcest 2 = .ok (.istore_n 2, 1) := by decide +kernel
theorem dX7_scarcest_3 : decode cX7_scarcest 3 = .ok (.iconst 0, 1) := by decide +kernel
theorem dX7_scarcest_4 : decode cX7_scarcest 4 = .ok (.istore_n 3, 1) := by decide +kernel
theorem dX7_scarcest_5 : decode cX7_scarcest 5 = .ok (.iload_n 3, 1) := by decide +kernel
theorem dX7_scarcest_6 : decode cX7_scarcest 6 = .ok (.iconst 5, 1) := by decide +kernel
theorem dX7_scarcest_7 : decode cX7_scarcest 7 = .ok (.if_icmp .ge 68, 3) := by decide +kernel
theorem dX7_scarcest_10 : decode cX7_scarcest 10 = .ok (.aload_n 0, 1) := by decide +kernel
theorem dX7_scarcest_11 : decode cX7_scarcest 11 = .ok (.iload_n 3, 1) := by decide +kernel
theorem dX7_scarcest_12 : decode cX7_scarcest 12 = .ok (.iload_n 1, 1) := by decide +kernel
theorem dX7_scarcest_13 : decode cX7_scarcest 13 = .ok (.invokevirtual 96, 3) := by decide +kernel
theorem dX7_scarcest_16 : decode cX7_scarcest 16 = .ok (.ifCond .eq 18, 3) := by decide +kernel
theorem dX7_scarcest_19 : decode cX7_scarcest 19 = .ok (.aload_n 0, 1) := by decide +kernel
theorem dX7_scarcest_20 : decode cX7_scarcest 20 = .ok (.getfield 29, 3) := by decide +kernel
theorem dX7_scarcest_23 : decode cX7_scarcest 23 = .ok (.iload_n 3, 1) := by decide +kernel
theorem dX7_scarcest_24 : decode cX7_scarcest 24 = .ok (.invokevirtual 54, 3) := by decide +kernel
theorem dX7_scarcest_27 : decode cX7_scarcest 27 = .ok (.ifCond .le 7, 3) := by decide +kernel
theorem dX7_scarcest_30 : decode cX7_scarcest 30 = .ok (.iconst 1, 1) := by decide +kernel
theorem dX7_scarcest_31 : decode cX7_scarcest 31 = .ok (.goto 4, 3) := by decide +kernel
theorem dX7_scarcest_34 : decode cX7_scarcest 34 = .ok (.iconst 0, 1) := by decide +kernel
theorem dX7_scarcest_35 : decode cX7_scarcest 35 = .ok (.istore 4, 2) := by decide +kernel
theorem dX7_scarcest_37 : decode cX7_scarcest 37 = .ok (.iload 4, 2) := by decide +kernel
theorem dX7_scarcest_39 : decode cX7_scarcest 39 = .ok (.ifCond .eq 30, 3) := by decide +kernel
theorem dX7_scarcest_42 : decode cX7_scarcest 42 = .ok (.iload_n 2, 1) := by decide +kernel
theorem dX7_scarcest_43 : decode cX7_scarcest 43 = .ok (.bipush (-4), 2) := by decide +kernel
theorem dX7_scarcest_45 : decode cX7_scarcest 45 = .ok (.if_icmp .eq 22, 3) := by decide +kernel
theorem dX7_scarcest_48 : decode cX7_scarcest 48 = .ok (.aload_n 0, 1) := by decide +kernel
theorem dX7_scarcest_49 : decode cX7_scarcest 49 = .ok (.getfield 32, 3) := by decide +kernel
theorem dX7_scarcest_52 : decode cX7_scarcest 52 = .ok (.iload_n 3, 1) := by decide +kernel
theorem dX7_scarcest_53 : decode cX7_scarcest 53 = .ok (.invokevirtual 54, 3) := by decide +kernel
theorem dX7_scarcest_56 : decode cX7_scarcest 56 = .ok (.aload_n 0, 1) := by decide +kernel
theorem dX7_scarcest_57 : decode cX7_scarcest 57 = .ok (.getfield 32, 3) := by decide +kernel
theorem dX7_scarcest_60 : decode cX7_scarcest 60 = .ok (.iload_n 2, 1) := by decide +kernel
theorem dX7_scarcest_61 : decode cX7_scarcest 61 = .ok (.invokevirtual 54, 3) := by decide +kernel
theorem dX7_scarcest_64 : decode cX7_scarcest 64 = .ok (.if_icmp .ge 5, 3) := by decide +kernel
theorem dX7_scarcest_67 : decode cX7_scarcest 67 = .ok (.iload_n 3, 1) := by decide +kernel
theorem dX7_scarcest_68 : decode cX7_scarcest 68 = .ok (.istore_n 2, 1) := by decide +kernel
theorem dX7_scarcest_69 : decode cX7_scarcest 69 = .ok (.iinc 3 1, 3) := by decide +kernel
theorem dX7_scarcest_72 : decode cX7_scarcest 72 = .ok (.goto (-67), 3) := by decide +kernel
theorem dX7_scarcest_75 : decode cX7_scarcest 75 = .ok (.iload_n 2, 1) := by decide +kernel
theorem dX7_scarcest_76 : decode cX7_scarcest 76 = .ok (.ireturn, 1) := by decide +kernel
set_option maxRecDepth 20000 in
theorem ggX7_placedIn_X6_get : GoodIn wsX7_placedIn wsX6_get := goodIn_r _ [6, 7, 15] (by decide +kernel) (by decide +kernel)
set_option maxRecDepth 20000 in
theorem gX7_placedIn_X6_get : GoodIn wsX7_placedIn (wsV RX7 54 RX6 yX6_get wsX6_get) := goodIn_app (goodIn_of _ (by decide +kernel)) ggX7_placedIn_X6_get
theorem dX7_placedIn_0 : decode cX7_placedIn 0 = .ok (.aload_n 0, 1) := by decide +kernel
theorem dX7_placedIn_1 : decode cX7_placedIn 1 = .ok (.getfield 35, 3) := by decide +kernel
theorem dX7_placedIn_4 : decode cX7_placedIn 4 = .ok (.iload_n 1, 1) := by decide +kernel
theorem dX7_placedIn_5 : decode cX7_placedIn 5 = .ok (.invokevirtual 54, 3) := by decide +kernel
theorem dX7_placedIn_8 : decode cX7_placedIn 8 = .ok (.ireturn, 1) := by decide +kernel
set_option maxRecDepth 20000 in
theorem ggX7_allTodo_X6_get : GoodIn wsX7_allTodo wsX6_get := goodIn_r _ [6, 7, 15] (by decide +kernel) (by decide +kernel)
set_option maxRecDepth 20000 in
theorem gX7_allTodo_X6_get : GoodIn wsX7_allTodo (wsV RX7 54 RX6 yX6_get wsX6_get) := goodIn_app (goodIn_of _ (by decide +kernel)) ggX7_allTodo_X6_get
theorem dX7_allTodo_0 : decode cX7_allTodo 0 = .ok (.iconst 0, 1) := by decide +kernel
theorem dX7_allTodo_1 : decode cX7_allTodo 1 = .ok (.istore_n 1, 1) := by decide +kernel
theorem dX7_allTodo_2 : decode cX7_allTodo 2 = .ok (.iconst 0, 1) := by decide +kernel
theorem dX7_allTodo_3 : decode cX7_allTodo 3 = .ok (.istore_n 2, 1) := by decide +kernel
theorem dX7_allTodo_4 : decode cX7_allTodo 4 = .ok (.iload_n 2, 1) := by decide +kernel
theorem dX7_allTodo_5 : decode cX7_allTodo 5 = .ok (.iconst 5, 1) := by decide +kernel
theorem dX7_allTodo_6 : decode cX7_allTodo 6 = .ok (.if_icmp .ge 20, 3) := by decide +kernel
theorem dX7_allTodo_9 : decode cX7_allTodo 9 = .ok (.iload_n 1, 1) := by decide +kernel
theorem dX7_allTodo_10 : decode cX7_allTodo 10 = .ok (.aload_n 0, 1) := by decide +kernel
theorem dX7_allTodo_11 : decode cX7_allTodo 11 = .ok (.getfield 29, 3) := by decide +kernel
theorem dX7_allTodo_14 : decode cX7_allTodo 14 = .ok (.iload_n 2, 1) := by decide +kernel
theorem dX7_allTodo_15 : decode cX7_allTodo 15 = .ok (.invokevirtual 54, 3) := by decide +kernel
theorem dX7_allTodo_18 : decode cX7_allTodo 18 = .ok (.iadd, 1) := by decide +kernel
theorem dX7_allTodo_19 : decode cX7_allTodo 19 = .ok (.istore_n 1, 1) := by decide +kernel
theorem dX7_allTodo_20 : decode cX7_allTodo 20 = .ok (.iinc 2 1, 3) := by decide +kernel
theorem dX7_allTodo_23 : decode cX7_allTodo 23 = .ok (.goto (-19), 3) := by decide +kernel
theorem dX7_allTodo_26 : decode cX7_allTodo 26 = .ok (.iload_n 1, 1) := by decide +kernel
theorem dX7_allTodo_27 : decode cX7_allTodo 27 = .ok (.ireturn, 1) := by decide +kernel
set_option maxRecDepth 20000 in
theorem ggX8_init_X4_init : GoodIn wsX8_init wsX4_init := goodIn_r _ [12, 13, 2, 3, 14, 15, 16, 17, 18, 19, 20, 21, 22, 23, 24, 31, 25, 26] (by decide +kernel) (by decide +kernel)
set_option maxRecDepth 20000 in
theorem gX8_init_X4_init_n11 : GoodIn wsX8_init (wsX4_init) := ggX8_init_X4_init
theorem dX8_init_0 : decode cX8_init 0 = .ok (.aload_n 0, 1) := by decide +kernel
theorem dX8_init_1 : decode cX8_init 1 = .ok (.invokespecial 3, 3) := by decide +kernel
theorem dX8_init_4 : decode cX8_init 4 = .ok (.aload_n 0, 1) := by decide +kernel
theorem dX8_init_5 : decode cX8_init 5 = .ok (.new 9, 3) := by decide +kernel
theorem dX8_init_8 : decode cX8_init 8 = .ok (.dup, 1) := by decide +kernel
theorem dX8_init_9 : decode cX8_init 9 = .ok (.invokespecial 11, 3) := by decide +kernel
theorem dX8_init_12 : decode cX8_init 12 = .ok (.putfield 12, 3) := by decide +kernel
theorem dX8_init_15 : decode cX8_init 15 = .ok (.aload_n 0, 1) := by decide +kernel
theorem dX8_init_16 : decode cX8_init 16 = .ok (.new 9, 3) := by decide +kernel
theorem dX8_init_19 : decode cX8_init 19 = .ok (.dup, 1) := by decide +kernel
theorem dX8_init_20 : decode cX8_init 20 = .ok (.invokespecial 11, 3) := by decide +kernel
theorem dX8_init_23 : decode cX8_init 23 = .ok (.putfield 18, 3) := by decide +kernel
theorem dX8_init_26 : decode cX8_init 26 = .ok (.aload_n 0, 1) := by decide +kernel
theorem dX8_init_27 : decode cX8_init 27 = .ok (.aload_n 1, 1) := by decide +kernel
theorem dX8_init_28 : decode cX8_init 28 = .ok (.putfield 21, 3) := by decide +kernel
theorem dX8_init_31 : decode cX8_init 31 = .ok (.aload_n 0, 1) := by decide +kernel
theorem dX8_init_32 : decode cX8_init 32 = .ok (.aload_n 2, 1) := by decide +kernel
theorem dX8_init_33 : decode cX8_init 33 = .ok (.putfield 25, 3) := by decide +kernel
theorem dX8_init_36 : decode cX8_init 36 = .ok (.return_, 1) := by decide +kernel
set_option maxRecDepth 20000 in
theorem ggX8_readIn_X4_readIn : GoodIn wsX8_readIn wsX4_readIn := goodIn_r _ [7, 8, 9, 10, 11, 12, 13, 14, 15, 16, 17, 18, 19, 20, 21, 22, 23, 24, 25, 26, 27, 28, 29, 30, 31, 32, 33, 34, 35, 36, 37, 38, 39, 40, 41, 42, 43, 44, 45, 50, 51, 52, 53, 54, 55, 56, 57, 58] (by decide +kernel) (by decide +kernel)
set_option maxRecDepth 20000 in
theorem gX8_readIn_X4_readIn : GoodIn wsX8_readIn (wsV RX8 29 RX4 yX4_readIn wsX4_readIn) := goodIn_app (goodIn_of _ (by decide +kernel)) ggX8_readIn_X4_readIn
theorem dX8_readIn_0 : decode cX8_readIn 0 = .ok (.aload_n 0, 1) := by decide +kernel
theorem dX8_readIn_1 : decode cX8_readIn 1 = .ok (.getfield 12, 3) := by decide +kernel
theorem dX8_readIn_4 : decode cX8_readIn 4 = .ok (.aload_n 0, 1) := by decide +kernel
theorem dX8_readIn_5 : decode cX8_readIn 5 = .ok (.getfield 25, 3) := by decide +kernel
theorem dX8_readIn_8 : decode cX8_readIn 8 = .ok (.iload_n 1, 1) := by decide +kernel
theorem dX8_readIn_9 : decode cX8_readIn 9 = .ok (.iload_n 2, 1) := by decide +kernel
theorem dX8_readIn_10 : decode cX8_readIn 10 = .ok (.invokevirtual 29, 3) := by decide +kernel
theorem dX8_readIn_13 : decode cX8_readIn 13 = .ok (.return_, 1) := by decide +kernel
set_option maxRecDepth 20000 in
theorem ggX8_readBy_X4_readBy : GoodIn wsX8_readBy wsX4_readBy := goodIn_r _ [6, 7, 8, 9, 10, 11, 12, 13, 14, 19, 20, 21] (by decide +kernel) (by decide +kernel)
set_option maxRecDepth 20000 in
theorem gX8_readBy_X4_readBy : GoodIn wsX8_readBy (wsV RX8 33 RX4 yX4_readBy wsX4_readBy) := goodIn_app (goodIn_of _ (by decide +kernel)) ggX8_readBy_X4_readBy
theorem dX8_readBy_0 : decode cX8_readBy 0 = .ok (.aload_n 0, 1) := by decide +kernel
theorem dX8_readBy_1 : decode cX8_readBy 1 = .ok (.getfield 12, 3) := by decide +kernel
theorem dX8_readBy_4 : decode cX8_readBy 4 = .ok (.iload_n 1, 1) := by decide +kernel
theorem dX8_readBy_5 : decode cX8_readBy 5 = .ok (.invokevirtual 33, 3) := by decide +kernel
theorem dX8_readBy_8 : decode cX8_readBy 8 = .ok (.return_, 1) := by decide +kernel
set_option maxRecDepth 20000 in
theorem ggX8_choiceOf_X4_choiceOf : GoodIn wsX8_choiceOf wsX4_choiceOf := goodIn_r _ [7, 8, 9, 10, 11, 12, 13, 14, 15, 16, 17, 18, 19, 20, 21, 22, 23, 24, 25, 26, 27, 28, 29, 30, 31, 32, 33, 34, 39, 40, 41, 42, 43, 44] (by decide +kernel) (by decide +kernel)
set_option maxRecDepth 20000 in
theorem gX8_choiceOf_X4_choiceOf : GoodIn wsX8_choiceOf (wsV RX8 37 RX4 yX4_choiceOf wsX4_choiceOf) := goodIn_app (goodIn_of _ (by decide +kernel)) ggX8_choiceOf_X4_choiceOf
theorem dX8_choiceOf_0 : decode cX8_choiceOf 0 = .ok (.aload_n 0, 1) := by decide +kernel
theorem dX8_choiceOf_1 : decode cX8_choiceOf 1 = .ok (.getfield 12, 3) := by decide +kernel
theorem dX8_choiceOf_4 : decode cX8_choiceOf 4 = .ok (.aload_n 0, 1) := by decide +kernel
theorem dX8_choiceOf_5 : decode cX8_choiceOf 5 = .ok (.getfield 21, 3) := by decide +kernel
theorem dX8_choiceOf_8 : decode cX8_choiceOf 8 = .ok (.iload_n 1, 1) := by decide +kernel
theorem dX8_choiceOf_9 : decode cX8_choiceOf 9 = .ok (.iload_n 2, 1) := by decide +kernel
theorem dX8_choiceOf_10 : decode cX8_choiceOf 10 = .ok (.invokevirtual 37, 3) := by decide +kernel
theorem dX8_choiceOf_13 : decode cX8_choiceOf 13 = .ok (.ireturn, 1) := by decide +kernel
set_option maxRecDepth 20000 in
theorem ggX8_cards_X3_size : GoodIn wsX8_cards wsX3_size := goodIn_r _ [6, 7, 12, 13, 14] (by decide +kernel) (by decide +kernel)
set_option maxRecDepth 20000 in
theorem gX8_cards_X3_size : GoodIn wsX8_cards (wsV RX8 41 RX3 yX3_size wsX3_size) := goodIn_app (goodIn_of _ (by decide +kernel)) ggX8_cards_X3_size
theorem dX8_cards_0 : decode cX8_cards 0 = .ok (.aload_n 0, 1) := by decide +kernel
theorem dX8_cards_1 : decode cX8_cards 1 = .ok (.getfield 21, 3) := by decide +kernel
theorem dX8_cards_4 : decode cX8_cards 4 = .ok (.ifnonnull 7, 3) := by decide +kernel
theorem dX8_cards_7 : decode cX8_cards 7 = .ok (.iconst 0, 1) := by decide +kernel
theorem dX8_cards_8 : decode cX8_cards 8 = .ok (.goto 10, 3) := by decide +kernel
theorem dX8_cards_11 : decode cX8_cards 11 = .ok (.aload_n 0, 1) := by decide +kernel
theorem dX8_cards_12 : decode cX8_cards 12 = .ok (.getfield 21, 3) := by decide +kernel
theorem dX8_cards_15 : decode cX8_cards 15 = .ok (.invokevirtual 41, 3) := by decide +kernel
theorem dX8_cards_18 : decode cX8_cards 18 = .ok (.ireturn, 1) := by decide +kernel
set_option maxRecDepth 20000 in
theorem ggX8_isOf_X3_countyOf : GoodIn wsX8_isOf wsX3_countyOf := goodIn_r _ [6, 7, 8, 9, 10, 11, 12, 13, 18, 19, 20, 21] (by decide +kernel) (by decide +kernel)
set_option maxRecDepth 20000 in
theorem gX8_isOf_X3_countyOf : GoodIn wsX8_isOf (wsV RX8 47 RX3 yX3_countyOf wsX3_countyOf) := goodIn_app (goodIn_of _ (by decide +kernel)) ggX8_isOf_X3_countyOf
theorem dX8_isOf_0 : decode cX8_isOf 0 = .ok (.iload_n 2, 1) := by decide +kernel
theorem dX8_isOf_1 : decode cX8_isOf 1 = .ok (.iconst 5, 1) := by decide +kernel
theorem dX8_isOf_2 : decode cX8_isOf 2 = .ok (.if_icmp .eq 22, 3) := by decide +kernel
theorem dX8_isOf_5 : decode cX8_isOf 5 = .ok (.aload_n 0, 1) := by decide +kernel
theorem dX8_isOf_6 : decode cX8_isOf 6 = .ok (.getfield 21, 3) := by decide +kernel
theorem dX8_isOf_9 : decode cX8_isOf 9 = .ok (.ifnull 19, 3) := by decide +kernel
theorem dX8_isOf_12 : decode cX8_isOf 12 = .ok (.aload_n 0, 1) := by decide +kernel
theorem dX8_isOf_13 : decode cX8_isOf 13 = .ok (.getfield 21, 3) := by decide +kernel
theorem dX8_isOf_16 : decode cX8_isOf 16 = .ok (.iload_n 1, 1) := by decide +kernel
theorem dX8_isOf_17 : decode cX8_isOf 17 = .ok (.invokevirtual 47, 3) := by decide +kernel
theorem dX8_isOf_20 : decode cX8_isOf 20 = .ok (.iload_n 2, 1) := by decide +kernel
theorem dX8_isOf_21 : decode cX8_isOf 21 = .ok (.if_icmp .ne 7, 3) := by decide +kernel
theorem dX8_isOf_24 : decode cX8_isOf 24 = .ok (.iconst 1, 1) := by decide +kernel
theorem dX8_isOf_25 : decode cX8_isOf 25 = .ok (.goto 4, 3) := by decide +kernel
theorem dX8_isOf_28 : decode cX8_isOf 28 = .ok (.iconst 0, 1) := by decide +kernel
theorem dX8_isOf_29 : decode cX8_isOf 29 = .ok (.ireturn, 1) := by decide +kernel
set_option maxRecDepth 20000 in
theorem ggX8_sum_X8_cards : GoodIn wsX8_sum wsX8_cards := goodIn_r _ [5, 6, 7, 8, 9, 10, 11, 12, 56, 57, 58, 59, 60, 61, 62] (by decide +kernel) (by decide +kernel)
set_option maxRecDepth 20000 in
theorem gX8_sum_X8_cards : GoodIn wsX8_sum (wsV RX8 51 RX8 yX8_cards wsX8_cards) := goodIn_app (goodIn_of _ (by decide +kernel)) ggX8_sum_X8_cards
set_option maxRecDepth 20000 in
theorem ggX8_sum_X8_isOf : GoodIn wsX8_sum wsX8_isOf := goodIn_r _ [16, 6, 17, 18, 19, 10, 20, 21, 22, 23, 24, 25, 26, 27, 56, 57, 58, 59, 60, 61, 62, 63] (by decide +kernel) (by decide +kernel)
set_option maxRecDepth 20000 in
theorem gX8_sum_X8_isOf : GoodIn wsX8_sum (wsV RX8 54 RX8 yX8_isOf wsX8_isOf) := goodIn_app (goodIn_of _ (by decide +kernel)) ggX8_sum_X8_isOf
set_option maxRecDepth 20000 in
theorem ggX8_sum_X8_choiceOf : GoodIn wsX8_sum wsX8_choiceOf := goodIn_r _ [31, 32, 6, 33, 34, 35, 36, 37, 38, 39, 40, 18, 19, 10, 20, 21, 22, 23, 24, 25, 26, 27, 41, 42, 43, 44, 45, 46, 47, 48, 49, 50, 51, 52, 53, 56, 57, 58, 59, 64, 65, 60, 61, 62, 63] (by decide +kernel) (by decide +kernel)
set_option maxRecDepth 20000 in
theorem gX8_sum_X8_choiceOf : GoodIn wsX8_sum (wsV RX8 58 RX8 yX8_choiceOf wsX8_choiceOf) := goodIn_app (goodIn_of _ (by decide +kernel)) ggX8_sum_X8_choiceOf
set_option maxRecDepth 20000 in
theorem ggX8_sum_X10_oneVote : GoodIn wsX8_sum wsX10_oneVote := goodIn_r _ [55] (by decide +kernel) (by decide +kernel)
set_option maxRecDepth 20000 in
theorem gX8_sum_X10_oneVote_n61 : GoodIn wsX8_sum (wsX10_oneVote) := ggX8_sum_X10_oneVote
theorem dX8_sum_0 : decode cX8_sum 0 = .ok (.iconst 0, 1) := by decide +kernel
theorem dX8_sum_1 : decode cX8_sum 1 = .ok (.istore_n 3, 1) := by decide +kernel
theorem dX8_sum_2 : decode cX8_sum 2 = .ok (.iconst 0, 1) := by decide +kernel
theorem dX8_sum_3 : decode cX8_sum 3 = .ok (.istore 4, 2) := by decide +kernel
theorem dX8_sum_5 : decode cX8_sum 5 = .ok (.iload 4, 2) := by decide +kernel
theorem dX8_sum_7 : decode cX8_sum 7 = .ok (.aload_n 0, 1) := by decide +kernel
theorem dX8_sum_8 : decode cX8_sum 8 = .ok (.invokevirtual 51, 3) := by decide +kernel
theorem dX8_sum_11 : decode cX8_sum 11 = .ok (.if_icmp .ge 48, 3) := by decide +kernel
theorem dX8_sum_14 : decode cX8_sum 14 = .ok (.aload_n 0, 1) := by decide +kernel
theorem dX8_sum_15 : decode cX8_sum 15 = .ok (.iload 4, 2) := by decide +kernel
theorem dX8_sum_17 : decode cX8_sum 17 = .ok (.iload_n 1, 1) := by decide +kernel
theorem dX8_sum_18 : decode cX8_sum 18 = .ok (.invokevirtual 54, 3) := by decide +kernel
theorem dX8_sum_21 : decode cX8_sum 21 = .ok (.ifCond .eq 13, 3) := by decide +kernel
theorem dX8_sum_24 : decode cX8_sum 24 = .ok (.aload_n 0, 1) := by decide +kernel
theorem dX8_sum_25 : decode cX8_sum 25 = .ok (.iload 4, 2) := by decide +kernel
theorem dX8_sum_27 : decode cX8_sum 27 = .ok (.iload_n 2, 1) := by decide +kernel
theorem dX8_sum_28 : decode cX8_sum 28 = .ok (.invokevirtual 58, 3) := by decide +kernel
theorem dX8_sum_31 : decode cX8_sum 31 = .ok (.goto 5, 3) := by decide +kernel
theorem dX8_sum_34 : decode cX8_sum 34 = .ok (.bipush (-4), 2) := by decide +kernel
theorem dX8_sum_36 : decode cX8_sum 36 = .ok (.istore 5, 2) := by decide +kernel
theorem dX8_sum_38 : decode cX8_sum 38 = .ok (.iload 5, 2) := by decide +kernel
theorem dX8_sum_40 : decode cX8_sum 40 = .ok (.bipush (-4), 2) := by decide +kernel
theorem dX8_sum_42 : decode cX8_sum 42 = .ok (.if_icmp .eq 11, 3) := by decide +kernel
theorem dX8_sum_45 : decode cX8_sum 45 = .ok (.iload_n 3, 1) := by decide +kernel
theorem dX8_sum_46 : decode cX8_sum 46 = .ok (.iload 5, 2) := by decide +kernel
theorem dX8_sum_48 : decode cX8_sum 48 = .ok (.invokestatic 61, 3) := by decide +kernel
theorem dX8_sum_51 : decode cX8_sum 51 = .ok (.iadd, 1) := by decide +kernel
theorem dX8_sum_52 : decode cX8_sum 52 = .ok (.istore_n 3, 1) := by decide +kernel
theorem dX8_sum_53 : decode cX8_sum 53 = .ok (.iinc 4 1, 3) := by decide +kernel
theorem dX8_sum_56 : decode cX8_sum 56 = .ok (.goto (-51), 3) := by decide +kernel
theorem dX8_sum_59 : decode cX8_sum 59 = .ok (.iload_n 3, 1) := by decide +kernel
theorem dX8_sum_60 : decode cX8_sum 60 = .ok (.ireturn, 1) := by decide +kernel
set_option maxRecDepth 20000 in
theorem ggX8_countingCards_X8_sum : GoodIn wsX8_countingCards wsX8_sum := goodIn_r _ [5, 6, 7, 8, 4, 9, 10, 11, 12, 13, 14, 15, 16, 17, 18, 19, 20, 21, 22, 23, 24, 25, 26, 27, 28, 29, 30, 31, 32, 33, 34, 35, 36, 37, 38, 39, 40, 41, 42, 43, 44, 45, 46, 47, 48, 49, 50, 51, 52, 53, 54, 55, 56, 57, 58, 59, 62, 63, 64, 65, 66, 67, 68, 69, 70, 71] (by decide +kernel) (by decide +kernel)
set_option maxRecDepth 20000 in
theorem gX8_countingCards_X8_sum : GoodIn wsX8_countingCards (wsV RX8 64 RX8 yX8_sum wsX8_sum) := goodIn_app (goodIn_of _ (by decide +kernel)) ggX8_countingCards_X8_sum
set_option maxRecDepth 20000 in
theorem ggX8_countingCards_X10_votesFor : GoodIn wsX8_countingCards wsX10_votesFor := goodIn_r _ [61] (by decide +kernel) (by decide +kernel)
set_option maxRecDepth 20000 in
theorem gX8_countingCards_X10_votesFor_n67 : GoodIn wsX8_countingCards (wsX10_votesFor) := ggX8_countingCards_X10_votesFor
theorem dX8_countingCards_0 : decode cX8_countingCards 0 = .ok (.aload_n 0, 1) := by decide +kernel
theorem dX8_countingCards_1 : decode cX8_countingCards 1 = .ok (.iload_n 1, 1) := by decide +kernel
theorem dX8_countingCards_2 : decode cX8_countingCards 2 = .ok (.iload_n 2, 1) := by decide +kernel
theorem dX8_countingCards_3 : decode cX8_countingCards 3 = .ok (.invokevirtual 64, 3) := by decide +kernel
theorem dX8_countingCards_6 : decode cX8_countingCards 6 = .ok (.istore_n 3, 1) := by decide +kernel
theorem dX8_countingCards_7 : decode cX8_countingCards 7 = .ok (.iconst 0, 1) := by decide +kernel
theorem dX8_countingCards_8 : decode cX8_countingCards 8 = .ok (.istore 4, 2) := by decide +kernel
theorem dX8_countingCards_10 : decode cX8_countingCards 10 = .ok (.iconst 0, 1) := by decide +kernel
theorem dX8_countingCards_11 : decode cX8_countingCards 11 = .ok (.istore 5, 2) := by decide +kernel
theorem dX8_countingCards_13 : decode cX8_countingCards 13 = .ok (.iload 5, 2) := by decide +kernel
theorem dX8_countingCards_15 : decode cX8_countingCards 15 = .ok (.iconst 4, 1) := by decide +kernel
theorem dX8_countingCards_16 : decode cX8_countingCards 16 = .ok (.if_icmp .ge 20, 3) := by decide +kernel
theorem dX8_countingCards_19 : decode cX8_countingCards 19 = .ok (.iload 4, 2) := by decide +kernel
theorem dX8_countingCards_21 : decode cX8_countingCards 21 = .ok (.iload 5, 2) := by decide +kernel
theorem dX8_countingCards_23 : decode cX8_countingCards 23 = .ok (.iload_n 3, 1) := by decide +kernel
theorem dX8_countingCards_24 : decode cX8_countingCards 24 = .ok (.invokestatic 67, 3) := by decide +kernel
theorem dX8_countingCards_27 : decode cX8_countingCards 27 = .ok (.iadd, 1) := by decide +kernel
theorem dX8_countingCards_28 : decode cX8_countingCards 28 = .ok (.istore 4, 2) := by decide +kernel
theorem dX8_countingCards_30 : decode cX8_countingCards 30 = .ok (.iinc 5 1, 3) := by decide +kernel
theorem dX8_countingCards_33 : decode cX8_countingCards 33 = .ok (.goto (-20), 3) := by decide +kernel
theorem dX8_countingCards_36 : decode cX8_countingCards 36 = .ok (.iload 4, 2) := by decide +kernel
theorem dX8_countingCards_38 : decode cX8_countingCards 38 = .ok (.ireturn, 1) := by decide +kernel
set_option maxRecDepth 20000 in
theorem ggX8_fewestChanged_X8_sum : GoodIn wsX8_fewestChanged wsX8_sum := goodIn_r _ [5, 6, 7, 8, 4, 9, 10, 11, 12, 13, 14, 15, 16, 17, 18, 19, 20, 21, 22, 23, 24, 25, 26, 27, 28, 29, 30, 31, 32, 33, 34, 35, 36, 37, 38, 39, 40, 41, 42, 43, 44, 45, 46, 47, 48, 49, 50, 51, 52, 53, 54, 55, 56, 57, 58, 59, 70, 71, 72, 73, 74, 75, 76, 77, 78, 79] (by decide +kernel) (by decide +kernel)
set_option maxRecDepth 20000 in
theorem gX8_fewestChanged_X8_sum : GoodIn wsX8_fewestChanged (wsV RX8 64 RX8 yX8_sum wsX8_sum) := goodIn_app (goodIn_of _ (by decide +kernel)) ggX8_fewestChanged_X8_sum
set_option maxRecDepth 20000 in
theorem ggX8_fewestChanged_X8_cards : GoodIn wsX8_fewestChanged wsX8_cards := goodIn_r _ [9, 10, 11, 12, 13, 14, 15, 16, 70, 71, 72, 73, 74, 75, 76] (by decide +kernel) (by decide +kernel)
set_option maxRecDepth 20000 in
theorem gX8_fewestChanged_X8_cards : GoodIn wsX8_fewestChanged (wsV RX8 51 RX8 yX8_cards wsX8_cards) := goodIn_app (goodIn_of _ (by decide +kernel)) ggX8_fewestChanged_X8_cards
set_option maxRecDepth 20000 in
theorem ggX8_fewestChanged_X8_winsWith : GoodIn wsX8_fewestChanged wsX8_winsWith := goodIn_r _ [63, 64, 65, 66, 67, 68, 56, 69, 6, 7, 8, 4, 9, 10, 11, 12, 13, 14, 15, 16, 70, 71, 72, 73, 74, 75, 76] (by decide +kernel) (by decide +kernel)
set_option maxRecDepth 20000 in
theorem gX8_fewestChanged_X8_winsWith : GoodIn wsX8_fewestChanged (wsV RX8 70 RX8 yX8_winsWith wsX8_winsWith) := goodIn_app (goodIn_of _ (by decide +kernel)) ggX8_fewestChanged_X8_winsWith
theorem dX8_fewestChanged_0 : decode cX8_fewestChanged 0 = .ok (.aload_n 0, 1) := by decide +kernel
theorem dX8_fewestChanged_1 : decode cX8_fewestChanged 1 = .ok (.iconst 5, 1) := by decide +kernel
theorem dX8_fewestChanged_2 : decode cX8_fewestChanged 2 = .ok (.iload_n 2, 1) := by decide +kernel
theorem dX8_fewestChanged_3 : decode cX8_fewestChanged 3 = .ok (.invokevirtual 64, 3) := by decide +kernel
theorem dX8_fewestChanged_6 : decode cX8_fewestChanged 6 = .ok (.istore_n 3, 1) := by decide +kernel
theorem dX8_fewestChanged_7 : decode cX8_fewestChanged 7 = .ok (.iconst 0, 1) := by decide +kernel
theorem dX8_fewestChanged_8 : decode cX8_fewestChanged 8 = .ok (.istore 4, 2) := by decide +kernel
theorem dX8_fewestChanged_10 : decode cX8_fewestChanged 10 = .ok (.iload 4, 2) := by decide +kernel
theorem dX8_fewestChanged_12 : decode cX8_fewestChanged 12 = .ok (.aload_n 0, 1) := by decide +kernel
theorem dX8_fewestChanged_13 : decode cX8_fewestChanged 13 = .ok (.invokevirtual 51, 3) := by decide +kernel
theorem dX8_fewestChanged_16 : decode cX8_fewestChanged 16 = .ok (.if_icmp .gt 23, 3) := by decide +kernel
theorem dX8_fewestChanged_19 : decode cX8_fewestChanged 19 = .ok (.aload_n 0, 1) := by decide +kernel
theorem dX8_fewestChanged_20 : decode cX8_fewestChanged 20 = .ok (.iload_n 1, 1) := by decide +kernel
theorem dX8_fewestChanged_21 : decode cX8_fewestChanged 21 = .ok (.iload_n 3, 1) := by decide +kernel
theorem dX8_fewestChanged_22 : decode cX8_fewestChanged 22 = .ok (.iload 4, 2) := by decide +kernel
theorem dX8_fewestChanged_24 : decode cX8_fewestChanged 24 = .ok (.invokevirtual 70, 3) := by decide +kernel
theorem dX8_fewestChanged_27 : decode cX8_fewestChanged 27 = .ok (.ifCond .eq 6, 3) := by decide +kernel
theorem dX8_fewestChanged_30 : decode cX8_fewestChanged 30 = .ok (.iload 4, 2) := by decide +kernel
theorem dX8_fewestChanged_32 : decode cX8_fewestChanged 32 = .ok (.ireturn, 1) := by decide +kernel
theorem dX8_fewestChanged_33 : decode cX8_fewestChanged 33 = .ok (.iinc 4 1, 3) := by decide +kernel
theorem dX8_fewestChanged_36 : decode cX8_fewestChanged 36 = .ok (.goto (-26), 3) := by decide +kernel
theorem dX8_fewestChanged_39 : decode cX8_fewestChanged 39 = .ok (.bipush (-4), 2) := by decide +kernel
theorem dX8_fewestChanged_41 : decode cX8_fewestChanged 41 = .ok (.ireturn, 1) := by decide +kernel
set_option maxRecDepth 20000 in
theorem ggX8_winsWith_X10_votesFor : GoodIn wsX8_winsWith wsX10_votesFor := goodIn_r _ [7] (by decide +kernel) (by decide +kernel)
set_option maxRecDepth 20000 in
theorem gX8_winsWith_X10_votesFor_n67 : GoodIn wsX8_winsWith (wsX10_votesFor) := ggX8_winsWith_X10_votesFor
set_option maxRecDepth 20000 in
theorem ggX8_winsWith_X8_cards : GoodIn wsX8_winsWith wsX8_cards := goodIn_r _ [12, 13, 14, 15, 16, 17, 18, 19, 20, 21, 22, 23, 24, 25, 26] (by decide +kernel) (by decide +kernel)
set_option maxRecDepth 20000 in
theorem gX8_winsWith_X8_cards : GoodIn wsX8_winsWith (wsV RX8 51 RX8 yX8_cards wsX8_cards) := goodIn_app (goodIn_of _ (by decide +kernel)) ggX8_winsWith_X8_cards
theorem dX8_winsWith_0 : decode cX8_winsWith 0 = .ok (.iload_n 1, 1) := by decide +kernel
theorem dX8_winsWith_1 : decode cX8_winsWith 1 = .ok (.iload_n 2, 1) := by decide +kernel
theorem dX8_winsWith_2 : decode cX8_winsWith 2 = .ok (.invokestatic 67, 3) := by decide +kernel
theorem dX8_winsWith_5 : decode cX8_winsWith 5 = .ok (.iload_n 3, 1) := by decide +kernel
theorem dX8_winsWith_6 : decode cX8_winsWith 6 = .ok (.iadd, 1) := by decide +kernel
theorem dX8_winsWith_7 : decode cX8_winsWith 7 = .ok (.istore 4, 2) := by decide +kernel
theorem dX8_winsWith_9 : decode cX8_winsWith 9 = .ok (.iload 4, 2) := by decide +kernel
theorem dX8_winsWith_11 : decode cX8_winsWith 11 = .ok (.iconst 1, 1) := by decide +kernel
theorem dX8_winsWith_12 : decode cX8_winsWith 12 = .ok (.if_icmp .lt 12, 3) := by decide +kernel
theorem dX8_winsWith_15 : decode cX8_winsWith 15 = .ok (.iload 4, 2) := by decide +kernel
theorem dX8_winsWith_17 : decode cX8_winsWith 17 = .ok (.aload_n 0, 1) := by decide +kernel
theorem dX8_winsWith_18 : decode cX8_winsWith 18 = .ok (.invokevirtual 51, 3) := by decide +kernel
theorem dX8_winsWith_21 : decode cX8_winsWith 21 = .ok (.if_icmp .le 5, 3) := by decide +kernel
theorem dX8_winsWith_24 : decode cX8_winsWith 24 = .ok (.iconst 0, 1) := by decide +kernel
theorem dX8_winsWith_25 : decode cX8_winsWith 25 = .ok (.ireturn, 1) := by decide +kernel
theorem dX8_winsWith_26 : decode cX8_winsWith 26 = .ok (.iconst 0, 1) := by decide +kernel
theorem dX8_winsWith_27 : decode cX8_winsWith 27 = .ok (.istore 5, 2) := by decide +kernel
theorem dX8_winsWith_29 : decode cX8_winsWith 29 = .ok (.iconst 0, 1) := by decide +kernel
theorem dX8_winsWith_30 : decode cX8_winsWith 30 = .ok (.istore 6, 2) := by decide +kernel
theorem dX8_winsWith_32 : decode cX8_winsWith 32 = .ok (.iload 6, 2) := by decide +kernel
theorem dX8_winsWith_34 : decode cX8_winsWith 34 = .ok (.iconst 4, 1) := by decide +kernel
theorem dX8_winsWith_35 : decode cX8_winsWith 35 = .ok (.if_icmp .ge 35, 3) := by decide +kernel
theorem dX8_winsWith_38 : decode cX8_winsWith 38 = .ok (.iload 6, 2) := by decide +kernel
theorem dX8_winsWith_40 : decode cX8_winsWith 40 = .ok (.iload_n 1, 1) := by decide +kernel
theorem dX8_winsWith_41 : decode cX8_winsWith 41 = .ok (.if_icmp .eq 23, 3) := by decide +kernel
theorem dX8_winsWith_44 : decode cX8_winsWith 44 = .ok (.iload 5, 2) := by decide +kernel
theorem dX8_winsWith_46 : decode cX8_winsWith 46 = .ok (.iconst 0, 1) := by decide +kernel
theorem dX8_winsWith_47 : decode cX8_winsWith 47 = .ok (.iload 6, 2) := by decide +kernel
theorem dX8_winsWith_49 : decode cX8_winsWith 49 = .ok (.iload_n 2, 1) := by decide +kernel
theorem dX8_winsWith_50 : decode cX8_winsWith 50 = .ok (.invokestatic 67, 3) := by decide +kernel
theorem dX8_winsWith_53 : decode cX8_winsWith 53 = .ok (.iload 4, 2) := by decide +kernel
theorem dX8_winsWith_55 : decode cX8_winsWith 55 = .ok (.iconst 1, 1) := by decide +kernel
theorem dX8_winsWith_56 : decode cX8_winsWith 56 = .ok (.isub, 1) := by decide +kernel
theorem dX8_winsWith_57 : decode cX8_winsWith 57 = .ok (.isub, 1) := by decide +kernel
theorem dX8_winsWith_58 : decode cX8_winsWith 58 = .ok (.invokestatic 74, 3) := by decide +kernel
theorem dX8_winsWith_61 : decode cX8_winsWith 61 = .ok (.iadd, 1) := by decide +kernel
theorem dX8_winsWith_62 : decode cX8_winsWith 62 = .ok (.istore 5, 2) := by decide +kernel
theorem dX8_winsWith_64 : decode cX8_winsWith 64 = .ok (.iinc 6 1, 3) := by decide +kernel
theorem dX8_winsWith_67 : decode cX8_winsWith 67 = .ok (.goto (-35), 3) := by decide +kernel
theorem dX8_winsWith_70 : decode cX8_winsWith 70 = .ok (.iload 5, 2) := by decide +kernel
theorem dX8_winsWith_72 : decode cX8_winsWith 72 = .ok (.iload_n 3, 1) := by decide +kernel
theorem dX8_winsWith_73 : decode cX8_winsWith 73 = .ok (.if_icmp .gt 7, 3) := by decide +kernel
theorem dX8_winsWith_76 : decode cX8_winsWith 76 = .ok (.iconst 1, 1) := by decide +kernel
theorem dX8_winsWith_77 : decode cX8_winsWith 77 = .ok (.goto 4, 3) := by decide +kernel
theorem dX8_winsWith_80 : decode cX8_winsWith 80 = .ok (.iconst 0, 1) := by decide +kernel
theorem dX8_winsWith_81 : decode cX8_winsWith 81 = .ok (.ireturn, 1) := by decide +kernel
set_option maxRecDepth 20000 in
theorem ggX8_changedBetween_X4_readIn : GoodIn wsX8_changedBetween wsX4_readIn := goodIn_r _ [8, 9, 10, 11, 12, 13, 14, 15, 16, 17, 18, 19, 20, 21, 22, 23, 24, 25, 26, 27, 28, 29, 30, 31, 32, 33, 34, 35, 36, 37, 38, 39, 40, 41, 42, 43, 44, 45, 46, 99, 100, 101, 102, 103, 104, 105, 106, 107] (by decide +kernel) (by decide +kernel)
set_option maxRecDepth 20000 in
theorem gX8_changedBetween_X4_readIn : GoodIn wsX8_changedBetween (wsV RX8 29 RX4 yX4_readIn wsX4_readIn) := goodIn_app (goodIn_of _ (by decide +kernel)) ggX8_changedBetween_X4_readIn
set_option maxRecDepth 20000 in
theorem ggX8_changedBetween_X8_cards : GoodIn wsX8_changedBetween wsX8_cards := goodIn_r _ [51, 52, 53, 54, 55, 56, 57, 58, 95, 96, 97, 98, 108, 109, 110] (by decide +kernel) (by decide +kernel)
set_option maxRecDepth 20000 in
theorem gX8_changedBetween_X8_cards : GoodIn wsX8_changedBetween (wsV RX8 51 RX8 yX8_cards wsX8_cards) := goodIn_app (goodIn_of _ (by decide +kernel)) ggX8_changedBetween_X8_cards
set_option maxRecDepth 20000 in
theorem ggX8_changedBetween_X8_isOf : GoodIn wsX8_changedBetween wsX8_isOf := goodIn_r _ [62, 52, 63, 64, 65, 56, 66, 67, 68, 25, 26, 27, 28, 29, 95, 96, 97, 98, 108, 109, 110, 107] (by decide +kernel) (by decide +kernel)
set_option maxRecDepth 20000 in
theorem gX8_changedBetween_X8_isOf : GoodIn wsX8_changedBetween (wsV RX8 54 RX8 yX8_isOf wsX8_isOf) := goodIn_app (goodIn_of _ (by decide +kernel)) ggX8_changedBetween_X8_isOf
set_option maxRecDepth 20000 in
theorem ggX8_changedBetween_X8_isUnlikeLater : GoodIn wsX8_changedBetween wsX8_isUnlikeLater := goodIn_r _ [72, 3, 52, 73, 74, 75, 50, 76, 1, 77, 78, 79, 7, 80, 10, 9, 81, 64, 65, 56, 66, 67, 68, 25, 26, 27, 28, 29, 82, 83, 84, 85, 86, 87, 88, 89, 90, 91, 92, 93, 94, 95, 96, 97, 98, 99, 100, 108, 109, 110, 107] (by decide +kernel) (by decide +kernel)
set_option maxRecDepth 20000 in
theorem gX8_changedBetween_X8_isUnlikeLater : GoodIn wsX8_changedBetween (wsV RX8 79 RX8 yX8_isUnlikeLater wsX8_isUnlikeLater) := goodIn_app (goodIn_of _ (by decide +kernel)) ggX8_changedBetween_X8_isUnlikeLater
theorem dX8_changedBetween_0 : decode cX8_changedBetween 0 = .ok (.aload_n 0, 1) := by decide +kernel
theorem dX8_changedBetween_1 : decode cX8_changedBetween 1 = .ok (.getfield 12, 3) := by decide +kernel
theorem dX8_changedBetween_4 : decode cX8_changedBetween 4 = .ok (.aload_n 0, 1) := by decide +kernel
theorem dX8_changedBetween_5 : decode cX8_changedBetween 5 = .ok (.getfield 25, 3) := by decide +kernel
theorem dX8_changedBetween_8 : decode cX8_changedBetween 8 = .ok (.iload_n 3, 1) := by decide +kernel
theorem dX8_changedBetween_9 : decode cX8_changedBetween 9 = .ok (.iconst 0, 1) := by decide +kernel
theorem dX8_changedBetween_10 : decode cX8_changedBetween 10 = .ok (.invokevirtual 29, 3) := by decide +kernel
theorem dX8_changedBetween_13 : decode cX8_changedBetween 13 = .ok (.aload_n 0, 1) := by decide +kernel
theorem dX8_changedBetween_14 : decode cX8_changedBetween 14 = .ok (.getfield 18, 3) := by decide +kernel
theorem dX8_changedBetween_17 : decode cX8_changedBetween 17 = .ok (.aload_n 0, 1) := by decide +kernel
theorem dX8_changedBetween_18 : decode cX8_changedBetween 18 = .ok (.getfield 25, 3) := by decide +kernel
theorem dX8_changedBetween_21 : decode cX8_changedBetween 21 = .ok (.iload 4, 2) := by decide +kernel
theorem dX8_changedBetween_23 : decode cX8_changedBetween 23 = .ok (.iconst 0, 1) := by decide +kernel
theorem dX8_changedBetween_24 : decode cX8_changedBetween 24 = .ok (.invokevirtual 29, 3) := by decide +kernel
theorem dX8_changedBetween_27 : decode cX8_changedBetween 27 = .ok (.iconst 0, 1) := by decide +kernel
theorem dX8_changedBetween_28 : decode cX8_changedBetween 28 = .ok (.istore 5, 2) := by decide +kernel
theorem dX8_changedBetween_30 : decode cX8_changedBetween 30 = .ok (.iconst 0, 1) := by decide +kernel
theorem dX8_changedBetween_31 : decode cX8_changedBetween 31 = .ok (.istore 6, 2) := by decide +kernel
theorem dX8_changedBetween_33 : decode cX8_changedBetween 33 = .ok (.iload 6, 2) := by decide +kernel
theorem dX8_changedBetween_35 : decode cX8_changedBetween 35 = .ok (.aload_n 0, 1) := by decide +kernel
theorem dX8_changedBetween_36 : decode cX8_changedBetween 36 = .ok (.invokevirtual 51, 3) := by decide +kernel
theorem dX8_changedBetween_39 : decode cX8_changedBetween 39 = .ok (.if_icmp .ge 32, 3) := by decide +kernel
theorem dX8_changedBetween_42 : decode cX8_changedBetween 42 = .ok (.aload_n 0, 1) := by decide +kernel
theorem dX8_changedBetween_43 : decode cX8_changedBetween 43 = .ok (.iload 6, 2) := by decide +kernel
theorem dX8_changedBetween_45 : decode cX8_changedBetween 45 = .ok (.iload_n 1, 1) := by decide +kernel
theorem dX8_changedBetween_46 : decode cX8_changedBetween 46 = .ok (.invokevirtual 54, 3) := by decide +kernel
theorem dX8_changedBetween_49 : decode cX8_changedBetween 49 = .ok (.ifCond .eq 16, 3) := by decide +kernel
theorem dX8_changedBetween_52 : decode cX8_changedBetween 52 = .ok (.aload_n 0, 1) := by decide +kernel
theorem dX8_changedBetween_53 : decode cX8_changedBetween 53 = .ok (.iload 6, 2) := by decide +kernel
theorem dX8_changedBetween_55 : decode cX8_changedBetween 55 = .ok (.iload_n 2, 1) := by decide +kernel
theorem dX8_changedBetween_56 : decode cX8_changedBetween 56 = .ok (.invokevirtual 79, 3) := by decide +kernel
theorem dX8_changedBetween_59 : decode cX8_changedBetween 59 = .ok (.ifCond .eq 6, 3) := by decide +kernel
theorem dX8_changedBetween_62 : decode cX8_changedBetween 62 = .ok (.iinc 5 1, 3) := by decide +kernel
theorem dX8_changedBetween_65 : decode cX8_changedBetween 65 = .ok (.iinc 6 1, 3) := by decide +kernel
theorem dX8_changedBetween_68 : decode cX8_changedBetween 68 = .ok (.goto (-35), 3) := by decide +kernel
theorem dX8_changedBetween_71 : decode cX8_changedBetween 71 = .ok (.iload 5, 2) := by decide +kernel
theorem dX8_changedBetween_73 : decode cX8_changedBetween 73 = .ok (.ireturn, 1) := by decide +kernel
set_option maxRecDepth 20000 in
theorem ggX8_isUnlikeLater_X8_choiceOf : GoodIn wsX8_isUnlikeLater wsX8_choiceOf := goodIn_r _ [7, 8, 2, 9, 10, 11, 12, 13, 14, 15, 16, 17, 18, 19, 20, 21, 22, 23, 24, 25, 26, 27, 28, 29, 30, 31, 32, 33, 34, 35, 36, 37, 38, 39, 40, 41, 42, 43, 44, 45, 46, 47, 48, 49, 50] (by decide +kernel) (by decide +kernel)
set_option maxRecDepth 20000 in
theorem gX8_isUnlikeLater_X8_choiceOf : GoodIn wsX8_isUnlikeLater (wsV RX8 58 RX8 yX8_choiceOf wsX8_choiceOf) := goodIn_app (goodIn_of _ (by decide +kernel)) ggX8_isUnlikeLater_X8_choiceOf
set_option maxRecDepth 20000 in
theorem ggX8_isUnlikeLater_X4_choiceOf : GoodIn wsX8_isUnlikeLater wsX4_choiceOf := goodIn_r _ [13, 14, 15, 16, 17, 18, 19, 20, 21, 22, 23, 24, 25, 26, 27, 28, 29, 30, 31, 32, 33, 34, 35, 36, 37, 38, 39, 40, 45, 46, 47, 48, 49, 50] (by decide +kernel) (by decide +kernel)
set_option maxRecDepth 20000 in
theorem gX8_isUnlikeLater_X4_choiceOf : GoodIn wsX8_isUnlikeLater (wsV RX8 37 RX4 yX4_choiceOf wsX4_choiceOf) := goodIn_app (goodIn_of _ (by decide +kernel)) ggX8_isUnlikeLater_X4_choiceOf
theorem dX8_isUnlikeLater_0 : decode cX8_isUnlikeLater 0 = .ok (.aload_n 0, 1) := by decide +kernel
theorem dX8_isUnlikeLater_1 : decode cX8_isUnlikeLater 1 = .ok (.iload_n 1, 1) := by decide +kernel
theorem dX8_isUnlikeLater_2 : decode cX8_isUnlikeLater 2 = .ok (.iload_n 2, 1) := by decide +kernel
theorem dX8_isUnlikeLater_3 : decode cX8_isUnlikeLater 3 = .ok (.invokevirtual 58, 3) := by decide +kernel
theorem dX8_isUnlikeLater_6 : decode cX8_isUnlikeLater 6 = .ok (.aload_n 0, 1) := by decide +kernel
theorem dX8_isUnlikeLater_7 : decode cX8_isUnlikeLater 7 = .ok (.getfield 18, 3) := by decide +kernel
theorem dX8_isUnlikeLater_10 : decode cX8_isUnlikeLater 10 = .ok (.aload_n 0, 1) := by decide +kernel
theorem dX8_isUnlikeLater_11 : decode cX8_isUnlikeLater 11 = .ok (.getfield 21, 3) := by decide +kernel
theorem dX8_isUnlikeLater_14 : decode cX8_isUnlikeLater 14 = .ok (.iload_n 1, 1) := by decide +kernel
theorem dX8_isUnlikeLater_15 : decode cX8_isUnlikeLater 15 = .ok (.iload_n 2, 1) := by decide +kernel
theorem dX8_isUnlikeLater_16 : decode cX8_isUnlikeLater 16 = .ok (.invokevirtual 37, 3) := by decide +kernel
theorem dX8_isUnlikeLater_19 : decode cX8_isUnlikeLater 19 = .ok (.if_icmp .eq 7, 3) := by decide +kernel
theorem dX8_isUnlikeLater_22 : decode cX8_isUnlikeLater 22 = .ok (.iconst 1, 1) := by decide +kernel
theorem dX8_isUnlikeLater_23 : decode cX8_isUnlikeLater 23 = .ok (.goto 4, 3) := by decide +kernel
theorem dX8_isUnlikeLater_26 : decode cX8_isUnlikeLater 26 = .ok (.iconst 0, 1) := by decide +kernel
theorem dX8_isUnlikeLater_27 : decode cX8_isUnlikeLater 27 = .ok (.ireturn, 1) := by decide +kernel
set_option maxRecDepth 20000 in
theorem ggX9_init_X6_init : GoodIn wsX9_init wsX6_init := goodIn_r _ [18, 19, 2, 3, 20, 21, 22] (by decide +kernel) (by decide +kernel)
set_option maxRecDepth 20000 in
theorem gX9_init_X6_init : GoodIn wsX9_init (wsX6_init) := ggX9_init_X6_init
theorem dX9_init_0 : decode cX9_init 0 = .ok (.aload_n 0, 1) := by decide +kernel
theorem dX9_init_1 : decode cX9_init 1 = .ok (.invokespecial 3, 3) := by decide +kernel
theorem dX9_init_4 : decode cX9_init 4 = .ok (.aload_n 0, 1) := by decide +kernel
theorem dX9_init_5 : decode cX9_init 5 = .ok (.new 9, 3) := by decide +kernel
theorem dX9_init_8 : decode cX9_init 8 = .ok (.dup, 1) := by decide +kernel
theorem dX9_init_9 : decode cX9_init 9 = .ok (.sipush 200, 3) := by decide +kernel
theorem dX9_init_12 : decode cX9_init 12 = .ok (.invokespecial 11, 3) := by decide +kernel
theorem dX9_init_15 : decode cX9_init 15 = .ok (.putfield 14, 3) := by decide +kernel
theorem dX9_init_18 : decode cX9_init 18 = .ok (.aload_n 0, 1) := by decide +kernel
theorem dX9_init_19 : decode cX9_init 19 = .ok (.iconst 0, 1) := by decide +kernel
theorem dX9_init_20 : decode cX9_init 20 = .ok (.putfield 20, 3) := by decide +kernel
theorem dX9_init_23 : decode cX9_init 23 = .ok (.aload_n 0, 1) := by decide +kernel
theorem dX9_init_24 : decode cX9_init 24 = .ok (.new 9, 3) := by decide +kernel
theorem dX9_init_27 : decode cX9_init 27 = .ok (.dup, 1) := by decide +kernel
theorem dX9_init_28 : decode cX9_init 28 = .ok (.iconst 4, 1) := by decide +kernel
theorem dX9_init_29 : decode cX9_init 29 = .ok (.invokespecial 11, 3) := by decide +kernel
theorem dX9_init_32 : decode cX9_init 32 = .ok (.putfield 24, 3) := by decide +kernel
theorem dX9_init_35 : decode cX9_init 35 = .ok (.aload_n 0, 1) := by decide +kernel
theorem dX9_init_36 : decode cX9_init 36 = .ok (.iconst 0, 1) := by decide +kernel
theorem dX9_init_37 : decode cX9_init 37 = .ok (.putfield 27, 3) := by decide +kernel
theorem dX9_init_40 : decode cX9_init 40 = .ok (.aload_n 0, 1) := by decide +kernel
theorem dX9_init_41 : decode cX9_init 41 = .ok (.iconst 0, 1) := by decide +kernel
theorem dX9_init_42 : decode cX9_init 42 = .ok (.putfield 30, 3) := by decide +kernel
theorem dX9_init_45 : decode cX9_init 45 = .ok (.aload_n 0, 1) := by decide +kernel
theorem dX9_init_46 : decode cX9_init 46 = .ok (.iconst 0, 1) := by decide +kernel
theorem dX9_init_47 : decode cX9_init 47 = .ok (.putfield 33, 3) := by decide +kernel
theorem dX9_init_50 : decode cX9_init 50 = .ok (.aload_n 0, 1) := by decide +kernel
theorem dX9_init_51 : decode cX9_init 51 = .ok (.iconst 0, 1) := by decide +kernel
theorem dX9_init_52 : decode cX9_init 52 = .ok (.putfield 36, 3) := by decide +kernel
theorem dX9_init_55 : decode cX9_init 55 = .ok (.aload_n 0, 1) := by decide +kernel
theorem dX9_init_56 : decode cX9_init 56 = .ok (.iconst 0, 1) := by decide +kernel
theorem dX9_init_57 : decode cX9_init 57 = .ok (.putfield 39, 3) := by decide +kernel
theorem dX9_init_60 : decode cX9_init 60 = .ok (.aload_n 0, 1) := by decide +kernel
theorem dX9_init_61 : decode cX9_init 61 = .ok (.iconst 0, 1) := by decide +kernel
theorem dX9_init_62 : decode cX9_init 62 = .ok (.putfield 42, 3) := by decide +kernel
theorem dX9_init_65 : decode cX9_init 65 = .ok (.return_, 1) := by decide +kernel
theorem dX9_length_0 : decode cX9_length 0 = .ok (.aload_n 0, 1) := by decide +kernel
theorem dX9_length_1 : decode cX9_length 1 = .ok (.getfield 20, 3) := by decide +kernel
theorem dX9_length_4 : decode cX9_length 4 = .ok (.ireturn, 1) := by decide +kernel
theorem dX9_behind_0 : decode cX9_behind 0 = .ok (.aload_n 0, 1) := by decide +kernel
theorem dX9_behind_1 : decode cX9_behind 1 = .ok (.getfield 27, 3) := by decide +kernel
theorem dX9_behind_4 : decode cX9_behind 4 = .ok (.ireturn, 1) := by decide +kernel
theorem dX9_kind_0 : decode cX9_kind 0 = .ok (.aload_n 0, 1) := by decide +kernel
theorem dX9_kind_1 : decode cX9_kind 1 = .ok (.getfield 30, 3) := by decide +kernel
theorem dX9_kind_4 : decode cX9_kind 4 = .ok (.ireturn, 1) := by decide +kernel
theorem dX9_county_0 : decode cX9_county 0 = .ok (.aload_n 0, 1) := by decide +kernel
theorem dX9_county_1 : decode cX9_county 1 = .ok (.getfield 33, 3) := by decide +kernel
theorem dX9_county_4 : decode cX9_county 4 = .ok (.ireturn, 1) := by decide +kernel
theorem dX9_rank_0 : decode cX9_rank 0 = .ok (.aload_n 0, 1) := by decide +kernel
theorem dX9_rank_1 : decode cX9_rank 1 = .ok (.getfield 36, 3) := by decide +kernel
theorem dX9_rank_4 : decode cX9_rank 4 = .ok (.ireturn, 1) := by decide +kernel
theorem dX9_value_0 : decode cX9_value 0 = .ok (.aload_n 0, 1) := by decide +kernel
theorem dX9_value_1 : decode cX9_value 1 = .ok (.getfield 39, 3) := by decide +kernel
theorem dX9_value_4 : decode cX9_value 4 = .ok (.ireturn, 1) := by decide +kernel
theorem dX9_hour_0 : decode cX9_hour 0 = .ok (.aload_n 0, 1) := by decide +kernel
theorem dX9_hour_1 : decode cX9_hour 1 = .ok (.getfield 42, 3) := by decide +kernel
theorem dX9_hour_4 : decode cX9_hour 4 = .ok (.ireturn, 1) := by decide +kernel
set_option maxRecDepth 20000 in
theorem ggX9_append_X6_set : GoodIn wsX9_append wsX6_set := goodIn_r _ [7, 8, 18] (by decide +kernel) (by decide +kernel)
set_option maxRecDepth 20000 in
theorem gX9_append_X6_set : GoodIn wsX9_append (wsV RX9 45 RX6 yX6_set wsX6_set) := goodIn_app (goodIn_of _ (by decide +kernel)) ggX9_append_X6_set
theorem dX9_append_0 : decode cX9_append 0 = .ok (.aload_n 0, 1) := by decide +kernel
theorem dX9_append_1 : decode cX9_append 1 = .ok (.getfield 20, 3) := by decide +kernel
theorem dX9_append_4 : decode cX9_append 4 = .ok (.iload_n 1, 1) := by decide +kernel
theorem dX9_append_5 : decode cX9_append 5 = .ok (.iadd, 1) := by decide +kernel
theorem dX9_append_6 : decode cX9_append 6 = .ok (.sipush 200, 3) := by decide +kernel
theorem dX9_append_9 : decode cX9_append 9 = .ok (.if_icmp .le 6, 3) := by decide +kernel
theorem dX9_append_12 : decode cX9_append 12 = .ok (.bipush (-3), 2) := by decide +kernel
theorem dX9_append_14 : decode cX9_append 14 = .ok (.ireturn, 1) := by decide +kernel
theorem dX9_append_15 : decode cX9_append 15 = .ok (.iload_n 1, 1) := by decide +kernel
theorem dX9_append_16 : decode cX9_append 16 = .ok (.iconst 1, 1) := by decide +kernel
theorem dX9_append_17 : decode cX9_append 17 = .ok (.isub, 1) := by decide +kernel
theorem dX9_append_18 : decode cX9_append 18 = .ok (.istore 4, 2) := by decide +kernel
theorem dX9_append_20 : decode cX9_append 20 = .ok (.iload 4, 2) := by decide +kernel
theorem dX9_append_22 : decode cX9_append 22 = .ok (.ifCond .lt 42, 3) := by decide +kernel
theorem dX9_append_25 : decode cX9_append 25 = .ok (.aload_n 0, 1) := by decide +kernel
theorem dX9_append_26 : decode cX9_append 26 = .ok (.getfield 14, 3) := by decide +kernel
theorem dX9_append_29 : decode cX9_append 29 = .ok (.aload_n 0, 1) := by decide +kernel
theorem dX9_append_30 : decode cX9_append 30 = .ok (.getfield 20, 3) := by decide +kernel
theorem dX9_append_33 : decode cX9_append 33 = .ok (.lload_n 2, 1) := by decide +kernel
theorem dX9_append_34 : decode cX9_append 34 = .ok (.bipush 8, 2) := by decide +kernel
theorem dX9_append_36 : decode cX9_append 36 = .ok (.iload 4, 2) := by decide +kernel
theorem dX9_append_38 : decode cX9_append 38 = .ok (.imul, 1) := by decide +kernel
theorem dX9_append_39 : decode cX9_append 39 = .ok (.lushr, 1) := by decide +kernel
theorem dX9_append_40 : decode cX9_append 40 = .ok (.l2i, 1) := by decide +kernel
theorem dX9_append_41 : decode cX9_append 41 = .ok (.sipush 255, 3) := by decide +kernel
theorem dX9_append_44 : decode cX9_append 44 = .ok (.iand, 1) := by decide +kernel
theorem dX9_append_45 : decode cX9_append 45 = .ok (.invokevirtual 45, 3) := by decide +kernel
theorem dX9_append_48 : decode cX9_append 48 = .ok (.aload_n 0, 1) := by decide +kernel
theorem dX9_append_49 : decode cX9_append 49 = .ok (.dup, 1) := by decide +kernel
theorem dX9_append_50 : decode cX9_append 50 = .ok (.getfield 20, 3) := by decide +kernel
theorem dX9_append_53 : decode cX9_append 53 = .ok (.iconst 1, 1) := by decide +kernel
theorem dX9_append_54 : decode cX9_append 54 = .ok (.iadd, 1) := by decide +kernel
theorem dX9_append_55 : decode cX9_append 55 = .ok (.putfield 20, 3) := by decide +kernel
theorem dX9_append_58 : decode cX9_append 58 = .ok (.iinc 4 (-1), 3) := by decide +kernel
theorem dX9_append_61 : decode cX9_append 61 = .ok (.goto (-41), 3) := by decide +kernel
theorem dX9_append_64 : decode cX9_append 64 = .ok (.aload_n 0, 1) := by decide +kernel
theorem dX9_append_65 : decode cX9_append 65 = .ok (.getfield 20, 3) := by decide +kernel
theorem dX9_append_68 : decode cX9_append 68 = .ok (.ireturn, 1) := by decide +kernel
theorem dX9_clear_0 : decode cX9_clear 0 = .ok (.aload_n 0, 1) := by decide +kernel
theorem dX9_clear_1 : decode cX9_clear 1 = .ok (.getfield 20, 3) := by decide +kernel
theorem dX9_clear_4 : decode cX9_clear 4 = .ok (.istore_n 1, 1) := by decide +kernel
theorem dX9_clear_5 : decode cX9_clear 5 = .ok (.aload_n 0, 1) := by decide +kernel
theorem dX9_clear_6 : decode cX9_clear 6 = .ok (.iconst 0, 1) := by decide +kernel
theorem dX9_clear_7 : decode cX9_clear 7 = .ok (.putfield 20, 3) := by decide +kernel
theorem dX9_clear_10 : decode cX9_clear 10 = .ok (.iload_n 1, 1) := by decide +kernel
theorem dX9_clear_11 : decode cX9_clear 11 = .ok (.ireturn, 1) := by decide +kernel
set_option maxRecDepth 20000 in
theorem ggX9_firstFault_X9_read : GoodIn wsX9_firstFault wsX9_read := goodIn_r _ [7, 8, 2, 9, 10, 11, 6, 12, 1, 13, 14, 15, 16, 17, 18, 19, 20, 21, 22, 23, 24, 25, 26, 27, 28, 29, 30, 31, 32, 33, 34, 35, 36, 37, 38, 39, 40, 41, 42, 43, 44, 45, 46, 47, 48, 49, 50, 51, 52, 53, 54, 55, 56, 57, 58, 59, 60, 61, 62, 63, 64, 65, 66, 67, 68, 69, 70, 71, 72, 73] (by decide +kernel) (by decide +kernel)
set_option maxRecDepth 20000 in
theorem gX9_firstFault_X9_read : GoodIn wsX9_firstFault (wsV RX9 49 RX9 yX9_read wsX9_read) := goodIn_app (goodIn_of _ (by decide +kernel)) ggX9_firstFault_X9_read
theorem dX9_firstFault_0 : decode cX9_firstFault 0 = .ok (.iconst 0, 1) := by decide +kernel
theorem dX9_firstFault_1 : decode cX9_firstFault 1 = .ok (.istore_n 1, 1) := by decide +kernel
theorem dX9_firstFault_2 : decode cX9_firstFault 2 = .ok (.iconst 0, 1) := by decide +kernel
theorem dX9_firstFault_3 : decode cX9_firstFault 3 = .ok (.istore_n 2, 1) := by decide +kernel
theorem dX9_firstFault_4 : decode cX9_firstFault 4 = .ok (.iload_n 2, 1) := by decide +kernel
theorem dX9_firstFault_5 : decode cX9_firstFault 5 = .ok (.sipush 200, 3) := by decide +kernel
theorem dX9_firstFault_8 : decode cX9_firstFault 8 = .ok (.if_icmp .ge 32, 3) := by decide +kernel
theorem dX9_firstFault_11 : decode cX9_firstFault 11 = .ok (.iload_n 1, 1) := by decide +kernel
theorem dX9_firstFault_12 : decode cX9_firstFault 12 = .ok (.aload_n 0, 1) := by decide +kernel
theorem dX9_firstFault_13 : decode cX9_firstFault 13 = .ok (.getfield 20, 3) := by decide +kernel
theorem dX9_firstFault_16 : decode cX9_firstFault 16 = .ok (.if_icmp .ge 24, 3) := by decide +kernel
theorem dX9_firstFault_19 : decode cX9_firstFault 19 = .ok (.aload_n 0, 1) := by decide +kernel
theorem dX9_firstFault_20 : decode cX9_firstFault 20 = .ok (.iload_n 1, 1) := by decide +kernel
theorem dX9_firstFault_21 : decode cX9_firstFault 21 = .ok (.invokevirtual 49, 3) := by decide +kernel
theorem dX9_firstFault_24 : decode cX9_firstFault 24 = .ok (.ifCond .ne 5, 3) := by decide +kernel
theorem dX9_firstFault_27 : decode cX9_firstFault 27 = .ok (.iload_n 1, 1) := by decide +kernel
theorem dX9_firstFault_28 : decode cX9_firstFault 28 = .ok (.ireturn, 1) := by decide +kernel
theorem dX9_firstFault_29 : decode cX9_firstFault 29 = .ok (.aload_n 0, 1) := by decide +kernel
theorem dX9_firstFault_30 : decode cX9_firstFault 30 = .ok (.getfield 27, 3) := by decide +kernel
theorem dX9_firstFault_33 : decode cX9_firstFault 33 = .ok (.istore_n 1, 1) := by decide +kernel
theorem dX9_firstFault_34 : decode cX9_firstFault 34 = .ok (.iinc 2 1, 3) := by decide +kernel
theorem dX9_firstFault_37 : decode cX9_firstFault 37 = .ok (.goto (-33), 3) := by decide +kernel
theorem dX9_firstFault_40 : decode cX9_firstFault 40 = .ok (.bipush (-4), 2) := by decide +kernel
theorem dX9_firstFault_42 : decode cX9_firstFault 42 = .ok (.ireturn, 1) := by decide +kernel
set_option maxRecDepth 20000 in
theorem ggX9_read_X9_byteAt : GoodIn wsX9_read wsX9_byteAt := goodIn_r _ [7, 8, 9, 10, 11, 12, 13, 14, 15, 60, 61, 62, 63, 64, 65, 66, 67, 68, 69] (by decide +kernel) (by decide +kernel)
set_option maxRecDepth 20000 in
theorem gX9_read_X9_byteAt : GoodIn wsX9_read (wsV RX9 53 RX9 yX9_byteAt wsX9_byteAt) := goodIn_app (goodIn_of _ (by decide +kernel)) ggX9_read_X9_byteAt
set_option maxRecDepth 20000 in
theorem ggX9_read_X9_kindOf : GoodIn wsX9_read wsX9_kindOf := goodIn_r _ [18] (by decide +kernel) (by decide +kernel)
set_option maxRecDepth 20000 in
theorem gX9_read_X9_kindOf : GoodIn wsX9_read (va_wsS RX9 57 yX9_kindOf wsX9_kindOf) := goodIn_app (goodIn_of _ (by decide +kernel)) ggX9_read_X9_kindOf
set_option maxRecDepth 20000 in
theorem ggX9_read_X9_numbersOf : GoodIn wsX9_read wsX9_numbersOf := goodIn_r _ [21] (by decide +kernel) (by decide +kernel)
set_option maxRecDepth 20000 in
theorem gX9_read_X9_numbersOf : GoodIn wsX9_read (va_wsS RX9 60 yX9_numbersOf wsX9_numbersOf) := goodIn_app (goodIn_of _ (by decide +kernel)) ggX9_read_X9_numbersOf
set_option maxRecDepth 20000 in
theorem ggX9_read_X9_readNumber : GoodIn wsX9_read wsX9_readNumber := goodIn_r _ [25, 26, 3, 4, 5, 6, 7, 8, 9, 10, 11, 12, 13, 14, 15, 27, 28, 29, 30, 31, 32, 33, 60, 61, 62, 63, 64, 65, 66, 67, 68, 69] (by decide +kernel) (by decide +kernel)
set_option maxRecDepth 20000 in
theorem gX9_read_X9_readNumber : GoodIn wsX9_read (wsV RX9 63 RX9 yX9_readNumber wsX9_readNumber) := goodIn_app (goodIn_of _ (by decide +kernel)) ggX9_read_X9_readNumber
set_option maxRecDepth 20000 in
theorem ggX9_read_X9_tellNumbers : GoodIn wsX9_read wsX9_tellNumbers := goodIn_r _ [37, 1, 26, 38, 39, 40, 41, 10, 11, 12, 13, 14, 15, 19, 20, 6, 21, 60, 61, 62, 63, 64, 65, 66, 67, 68, 69] (by decide +kernel) (by decide +kernel)
set_option maxRecDepth 20000 in
theorem gX9_read_X9_tellNumbers : GoodIn wsX9_read (wsV RX9 67 RX9 yX9_tellNumbers wsX9_tellNumbers) := goodIn_app (goodIn_of _ (by decide +kernel)) ggX9_read_X9_tellNumbers
set_option maxRecDepth 20000 in
theorem ggX9_read_X9_isTold : GoodIn wsX9_read wsX9_isTold := goodIn_r _ [45, 38, 39, 41, 40, 1, 46, 47, 48, 49, 50, 51, 52, 53, 54, 55, 6, 56, 57, 58, 59, 60, 61, 62, 63, 64, 65, 66, 67, 68] (by decide +kernel) (by decide +kernel)
set_option maxRecDepth 20000 in
theorem gX9_read_X9_isTold : GoodIn wsX9_read (wsV RX9 70 RX9 yX9_isTold wsX9_isTold) := goodIn_app (goodIn_of _ (by decide +kernel)) ggX9_read_X9_isTold
theorem dX9_read_0 : decode cX9_read 0 = .ok (.aload_n 0, 1) := by decide +kernel
theorem dX9_read_1 : decode cX9_read 1 = .ok (.aload_n 0, 1) := by decide +kernel
theorem dX9_read_2 : decode cX9_read 2 = .ok (.iload_n 1, 1) := by decide +kernel
theorem dX9_read_3 : decode cX9_read 3 = .ok (.invokevirtual 53, 3) := by decide +kernel
theorem dX9_read_6 : decode cX9_read 6 = .ok (.invokestatic 57, 3) := by decide +kernel
theorem dX9_read_9 : decode cX9_read 9 = .ok (.putfield 30, 3) := by decide +kernel
theorem dX9_read_12 : decode cX9_read 12 = .ok (.aload_n 0, 1) := by decide +kernel
theorem dX9_read_13 : decode cX9_read 13 = .ok (.getfield 30, 3) := by decide +kernel
theorem dX9_read_16 : decode cX9_read 16 = .ok (.invokestatic 60, 3) := by decide +kernel
theorem dX9_read_19 : decode cX9_read 19 = .ok (.istore_n 2, 1) := by decide +kernel
theorem dX9_read_20 : decode cX9_read 20 = .ok (.iload_n 2, 1) := by decide +kernel
theorem dX9_read_21 : decode cX9_read 21 = .ok (.ifCond .ne 5, 3) := by decide +kernel
theorem dX9_read_24 : decode cX9_read 24 = .ok (.iconst 0, 1) := by decide +kernel
theorem dX9_read_25 : decode cX9_read 25 = .ok (.ireturn, 1) := by decide +kernel
theorem dX9_read_26 : decode cX9_read 26 = .ok (.iload_n 1, 1) := by decide +kernel
theorem dX9_read_27 : decode cX9_read 27 = .ok (.iconst 1, 1) := by decide +kernel
theorem dX9_read_28 : decode cX9_read 28 = .ok (.iadd, 1) := by decide +kernel
theorem dX9_read_29 : decode cX9_read 29 = .ok (.istore_n 3, 1) := by decide +kernel
theorem dX9_read_30 : decode cX9_read 30 = .ok (.iconst 0, 1) := by decide +kernel
theorem dX9_read_31 : decode cX9_read 31 = .ok (.istore 4, 2) := by decide +kernel
theorem dX9_read_33 : decode cX9_read 33 = .ok (.iload 4, 2) := by decide +kernel
theorem dX9_read_35 : decode cX9_read 35 = .ok (.iload_n 2, 1) := by decide +kernel
theorem dX9_read_36 : decode cX9_read 36 = .ok (.if_icmp .ge 60, 3) := by decide +kernel
theorem dX9_read_39 : decode cX9_read 39 = .ok (.aload_n 0, 1) := by decide +kernel
theorem dX9_read_40 : decode cX9_read 40 = .ok (.iload_n 3, 1) := by decide +kernel
theorem dX9_read_41 : decode cX9_read 41 = .ok (.iload 4, 2) := by decide +kernel
theorem dX9_read_43 : decode cX9_read 43 = .ok (.invokevirtual 63, 3) := by decide +kernel
theorem dX9_read_46 : decode cX9_read 46 = .ok (.istore 5, 2) := by decide +kernel
theorem dX9_read_48 : decode cX9_read 48 = .ok (.iload_n 3, 1) := by decide +kernel
theorem dX9_read_49 : decode cX9_read 49 = .ok (.iload 5, 2) := by decide +kernel
theorem dX9_read_51 : decode cX9_read 51 = .ok (.iadd, 1) := by decide +kernel
theorem dX9_read_52 : decode cX9_read 52 = .ok (.istore_n 3, 1) := by decide +kernel
theorem dX9_read_53 : decode cX9_read 53 = .ok (.iload 4, 2) := by decide +kernel
theorem dX9_read_55 : decode cX9_read 55 = .ok (.iconst 1, 1) := by decide +kernel
theorem dX9_read_56 : decode cX9_read 56 = .ok (.iadd, 1) := by decide +kernel
theorem dX9_read_57 : decode cX9_read 57 = .ok (.iload_n 2, 1) := by decide +kernel
theorem dX9_read_58 : decode cX9_read 58 = .ok (.if_icmp .ge 8, 3) := by decide +kernel
theorem dX9_read_61 : decode cX9_read 61 = .ok (.bipush 44, 2) := by decide +kernel
theorem dX9_read_63 : decode cX9_read 63 = .ok (.goto 5, 3) := by decide +kernel
theorem dX9_read_66 : decode cX9_read 66 = .ok (.bipush 59, 2) := by decide +kernel
theorem dX9_read_68 : decode cX9_read 68 = .ok (.istore 6, 2) := by decide +kernel
theorem dX9_read_70 : decode cX9_read 70 = .ok (.iload 5, 2) := by decide +kernel
theorem dX9_read_72 : decode cX9_read 72 = .ok (.ifCond .eq 13, 3) := by decide +kernel
theorem dX9_read_75 : decode cX9_read 75 = .ok (.aload_n 0, 1) := by decide +kernel
theorem dX9_read_76 : decode cX9_read 76 = .ok (.iload_n 3, 1) := by decide +kernel
theorem dX9_read_77 : decode cX9_read 77 = .ok (.invokevirtual 53, 3) := by decide +kernel
theorem dX9_read_80 : decode cX9_read 80 = .ok (.iload 6, 2) := by decide +kernel
theorem dX9_read_82 : decode cX9_read 82 = .ok (.if_icmp .eq 5, 3) := by decide +kernel
theorem dX9_read_85 : decode cX9_read 85 = .ok (.iconst 0, 1) := by decide +kernel
theorem dX9_read_86 : decode cX9_read 86 = .ok (.ireturn, 1) := by decide +kernel
theorem dX9_read_87 : decode cX9_read 87 = .ok (.iinc 3 1, 3) := by decide +kernel
theorem dX9_read_90 : decode cX9_read 90 = .ok (.iinc 4 1, 3) := by decide +kernel
theorem dX9_read_93 : decode cX9_read 93 = .ok (.goto (-60), 3) := by decide +kernel
theorem dX9_read_96 : decode cX9_read 96 = .ok (.aload_n 0, 1) := by decide +kernel
theorem dX9_read_97 : decode cX9_read 97 = .ok (.iload_n 3, 1) := by decide +kernel
theorem dX9_read_98 : decode cX9_read 98 = .ok (.putfield 27, 3) := by decide +kernel
theorem dX9_read_101 : decode cX9_read 101 = .ok (.aload_n 0, 1) := by decide +kernel
theorem dX9_read_102 : decode cX9_read 102 = .ok (.invokevirtual 67, 3) := by decide +kernel
theorem dX9_read_105 : decode cX9_read 105 = .ok (.aload_n 0, 1) := by decide +kernel
theorem dX9_read_106 : decode cX9_read 106 = .ok (.invokevirtual 70, 3) := by decide +kernel
theorem dX9_read_109 : decode cX9_read 109 = .ok (.ireturn, 1) := by decide +kernel
set_option maxRecDepth 20000 in
theorem ggX9_byteAt_X6_get : GoodIn wsX9_byteAt wsX6_get := goodIn_r _ [7, 8, 18] (by decide +kernel) (by decide +kernel)
set_option maxRecDepth 20000 in
theorem gX9_byteAt_X6_get : GoodIn wsX9_byteAt (wsV RX9 74 RX6 yX6_get wsX6_get) := goodIn_app (goodIn_of _ (by decide +kernel)) ggX9_byteAt_X6_get
theorem dX9_byteAt_0 : decode cX9_byteAt 0 = .ok (.iload_n 1, 1) := by decide +kernel
theorem dX9_byteAt_1 : decode cX9_byteAt 1 = .ok (.aload_n 0, 1) := by decide +kernel
theorem dX9_byteAt_2 : decode cX9_byteAt 2 = .ok (.getfield 20, 3) := by decide +kernel
theorem dX9_byteAt_5 : decode cX9_byteAt 5 = .ok (.if_icmp .ge 14, 3) := by decide +kernel
theorem dX9_byteAt_8 : decode cX9_byteAt 8 = .ok (.aload_n 0, 1) := by decide +kernel
theorem dX9_byteAt_9 : decode cX9_byteAt 9 = .ok (.getfield 14, 3) := by decide +kernel
theorem dX9_byteAt_12 : decode cX9_byteAt 12 = .ok (.iload_n 1, 1) := by decide +kernel
theorem dX9_byteAt_13 : decode cX9_byteAt 13 = .ok (.invokevirtual 74, 3) := by decide +kernel
theorem dX9_byteAt_16 : decode cX9_byteAt 16 = .ok (.goto 4, 3) := by decide +kernel
theorem dX9_byteAt_19 : decode cX9_byteAt 19 = .ok (.iconst (-1), 1) := by decide +kernel
theorem dX9_byteAt_20 : decode cX9_byteAt 20 = .ok (.ireturn, 1) := by decide +kernel
theorem dX9_kindOf_0 : decode cX9_kindOf 0 = .ok (.iload_n 0, 1) := by decide +kernel
theorem dX9_kindOf_1 : decode cX9_kindOf 1 = .ok (.lookupswitch 51 #[(100, 45), (109, 47), (111, 49), (118, 43)], 43) := by decide +kernel
theorem dX9_kindOf_44 : decode cX9_kindOf 44 = .ok (.iconst 0, 1) := by decide +kernel
theorem dX9_kindOf_45 : decode cX9_kindOf 45 = .ok (.ireturn, 1) := by decide +kernel
theorem dX9_kindOf_46 : decode cX9_kindOf 46 = .ok (.iconst 1, 1) := by decide +kernel
theorem dX9_kindOf_47 : decode cX9_kindOf 47 = .ok (.ireturn, 1) := by decide +kernel
theorem dX9_kindOf_48 : decode cX9_kindOf 48 = .ok (.iconst 2, 1) := by decide +kernel
theorem dX9_kindOf_49 : decode cX9_kindOf 49 = .ok (.ireturn, 1) := by decide +kernel
theorem dX9_kindOf_50 : decode cX9_kindOf 50 = .ok (.iconst 3, 1) := by decide +kernel
theorem dX9_kindOf_51 : decode cX9_kindOf 51 = .ok (.ireturn, 1) := by decide +kernel
theorem dX9_kindOf_52 : decode cX9_kindOf 52 = .ok (.bipush (-4), 2) := by decide +kernel
theorem dX9_kindOf_54 : decode cX9_kindOf 54 = .ok (.ireturn, 1) := by decide +kernel
theorem dX9_numbersOf_0 : decode cX9_numbersOf 0 = .ok (.iload_n 0, 1) := by decide +kernel
theorem dX9_numbersOf_1 : decode cX9_numbersOf 1 = .ok (.tableswitch 39 0 3 #[31, 33, 35, 37], 31) := by decide +kernel
theorem dX9_numbersOf_32 : decode cX9_numbersOf 32 = .ok (.iconst 3, 1) := by decide +kernel
theorem dX9_numbersOf_33 : decode cX9_numbersOf 33 = .ok (.ireturn, 1) := by decide +kernel
theorem dX9_numbersOf_34 : decode cX9_numbersOf 34 = .ok (.iconst 3, 1) := by decide +kernel
theorem dX9_numbersOf_35 : decode cX9_numbersOf 35 = .ok (.ireturn, 1) := by decide +kernel
theorem dX9_numbersOf_36 : decode cX9_numbersOf 36 = .ok (.iconst 2, 1) := by decide +kernel
theorem dX9_numbersOf_37 : decode cX9_numbersOf 37 = .ok (.ireturn, 1) := by decide +kernel
theorem dX9_numbersOf_38 : decode cX9_numbersOf 38 = .ok (.iconst 4, 1) := by decide +kernel
theorem dX9_numbersOf_39 : decode cX9_numbersOf 39 = .ok (.ireturn, 1) := by decide +kernel
theorem dX9_numbersOf_40 : decode cX9_numbersOf 40 = .ok (.iconst 0, 1) := by decide +kernel
theorem dX9_numbersOf_41 : decode cX9_numbersOf 41 = .ok (.ireturn, 1) := by decide +kernel
set_option maxRecDepth 20000 in
theorem ggX9_readNumber_X9_byteAt : GoodIn wsX9_readNumber wsX9_byteAt := goodIn_r _ [6, 7, 8, 9, 10, 11, 12, 13, 14, 22, 23, 24, 25, 26, 27, 28, 29, 30, 31] (by decide +kernel) (by decide +kernel)
set_option maxRecDepth 20000 in
theorem gX9_readNumber_X9_byteAt : GoodIn wsX9_readNumber (wsV RX9 53 RX9 yX9_byteAt wsX9_byteAt) := goodIn_app (goodIn_of _ (by decide +kernel)) ggX9_readNumber_X9_byteAt
set_option maxRecDepth 20000 in
theorem ggX9_readNumber_X9_isFigure : GoodIn wsX9_readNumber wsX9_isFigure := goodIn_r _ [17] (by decide +kernel) (by decide +kernel)
set_option maxRecDepth 20000 in
theorem gX9_readNumber_X9_isFigure : GoodIn wsX9_readNumber (va_wsS RX9 77 yX9_isFigure wsX9_isFigure) := goodIn_app (goodIn_of _ (by decide +kernel)) ggX9_readNumber_X9_isFigure
set_option maxRecDepth 20000 in
theorem ggX9_readNumber_X6_set : GoodIn wsX9_readNumber wsX6_set := goodIn_r _ [21, 14, 31] (by decide +kernel) (by decide +kernel)
set_option maxRecDepth 20000 in
theorem gX9_readNumber_X6_set : GoodIn wsX9_readNumber (wsV RX9 45 RX6 yX6_set wsX6_set) := goodIn_app (goodIn_of _ (by decide +kernel)) ggX9_readNumber_X6_set
theorem dX9_readNumber_0 : decode cX9_readNumber 0 = .ok (.iconst 0, 1) := by decide +kernel
theorem dX9_readNumber_1 : decode cX9_readNumber 1 = .ok (.istore_n 3, 1) := by decide +kernel
theorem dX9_readNumber_2 : decode cX9_readNumber 2 = .ok (.iconst 0, 1) := by decide +kernel
theorem dX9_readNumber_3 : decode cX9_readNumber 3 = .ok (.istore 4, 2) := by decide +kernel
theorem dX9_readNumber_5 : decode cX9_readNumber 5 = .ok (.iload_n 3, 1) := by decide +kernel
theorem dX9_readNumber_6 : decode cX9_readNumber 6 = .ok (.iconst 3, 1) := by decide +kernel
theorem dX9_readNumber_7 : decode cX9_readNumber 7 = .ok (.if_icmp .ge 40, 3) := by decide +kernel
theorem dX9_readNumber_10 : decode cX9_readNumber 10 = .ok (.aload_n 0, 1) := by decide +kernel
theorem dX9_readNumber_11 : decode cX9_readNumber 11 = .ok (.iload_n 1, 1) := by decide +kernel
theorem dX9_readNumber_12 : decode cX9_readNumber 12 = .ok (.iload_n 3, 1) := by decide +kernel
theorem dX9_readNumber_13 : decode cX9_readNumber 13 = .ok (.iadd, 1) := by decide +kernel
theorem dX9_readNumber_14 : decode cX9_readNumber 14 = .ok (.invokevirtual 53, 3) := by decide +kernel
theorem dX9_readNumber_17 : decode cX9_readNumber 17 = .ok (.invokestatic 77, 3) := by decide +kernel
theorem dX9_readNumber_20 : decode cX9_readNumber 20 = .ok (.ifCond .eq 27, 3) := by decide +kernel
theorem dX9_readNumber_23 : decode cX9_readNumber 23 = .ok (.iload 4, 2) := by decide +kernel
theorem dX9_readNumber_25 : decode cX9_readNumber 25 = .ok (.bipush 10, 2) := by decide +kernel
theorem dX9_readNumber_27 : decode cX9_readNumber 27 = .ok (.imul, 1) := by decide +kernel
theorem dX9_readNumber_28 : decode cX9_readNumber 28 = .ok (.aload_n 0, 1) := by decide +kernel
theorem dX9_readNumber_29 : decode cX9_readNumber 29 = .ok (.iload_n 1, 1) := by decide +kernel
theorem dX9_readNumber_30 : decode cX9_readNumber 30 = .ok (.iload_n 3, 1) := by decide +kernel
theorem dX9_readNumber_31 : decode cX9_readNumber 31 = .ok (.iadd, 1) := by decide +kernel
theorem dX9_readNumber_32 : decode cX9_readNumber 32 = .ok (.invokevirtual 53, 3) := by decide +kernel
theorem dX9_readNumber_35 : decode cX9_readNumber 35 = .ok (.iadd, 1) := by decide +kernel
theorem dX9_readNumber_36 : decode cX9_readNumber 36 = .ok (.bipush 48, 2) := by decide +kernel
theorem dX9_readNumber_38 : decode cX9_readNumber 38 = .ok (.isub, 1) := by decide +kernel
theorem dX9_readNumber_39 : decode cX9_readNumber 39 = .ok (.istore 4, 2) := by decide +kernel
theorem dX9_readNumber_41 : decode cX9_readNumber 41 = .ok (.iinc 3 1, 3) := by decide +kernel
theorem dX9_readNumber_44 : decode cX9_readNumber 44 = .ok (.goto (-39), 3) := by decide +kernel
theorem dX9_readNumber_47 : decode cX9_readNumber 47 = .ok (.aload_n 0, 1) := by decide +kernel
theorem dX9_readNumber_48 : decode cX9_readNumber 48 = .ok (.getfield 24, 3) := by decide +kernel
theorem dX9_readNumber_51 : decode cX9_readNumber 51 = .ok (.iload_n 2, 1) := by decide +kernel
theorem dX9_readNumber_52 : decode cX9_readNumber 52 = .ok (.iload 4, 2) := by decide +kernel
theorem dX9_readNumber_54 : decode cX9_readNumber 54 = .ok (.invokevirtual 45, 3) := by decide +kernel
theorem dX9_readNumber_57 : decode cX9_readNumber 57 = .ok (.iload_n 3, 1) := by decide +kernel
theorem dX9_readNumber_58 : decode cX9_readNumber 58 = .ok (.ireturn, 1) := by decide +kernel
theorem dX9_isFigure_0 : decode cX9_isFigure 0 = .ok (.iload_n 0, 1) := by decide +kernel
theorem dX9_isFigure_1 : decode cX9_isFigure 1 = .ok (.bipush 48, 2) := by decide +kernel
theorem dX9_isFigure_3 : decode cX9_isFigure 3 = .ok (.if_icmp .lt 13, 3) := by decide +kernel
theorem dX9_isFigure_6 : decode cX9_isFigure 6 = .ok (.iload_n 0, 1) := by decide +kernel
theorem dX9_isFigure_7 : decode cX9_isFigure 7 = .ok (.bipush 57, 2) := by decide +kernel
theorem dX9_isFigure_9 : decode cX9_isFigure 9 = .ok (.if_icmp .gt 7, 3) := by decide +kernel
theorem dX9_isFigure_12 : decode cX9_isFigure 12 = .ok (.iconst 1, 1) := by decide +kernel
theorem dX9_isFigure_13 : decode cX9_isFigure 13 = .ok (.goto 4, 3) := by decide +kernel
theorem dX9_isFigure_16 : decode cX9_isFigure 16 = .ok (.iconst 0, 1) := by decide +kernel
theorem dX9_isFigure_17 : decode cX9_isFigure 17 = .ok (.ireturn, 1) := by decide +kernel
set_option maxRecDepth 20000 in
theorem ggX9_tellNumbers_X6_get : GoodIn wsX9_tellNumbers wsX6_get := goodIn_r _ [11, 12, 26] (by decide +kernel) (by decide +kernel)
set_option maxRecDepth 20000 in
theorem gX9_tellNumbers_X6_get : GoodIn wsX9_tellNumbers (wsV RX9 74 RX6 yX6_get wsX6_get) := goodIn_app (goodIn_of _ (by decide +kernel)) ggX9_tellNumbers_X6_get
set_option maxRecDepth 20000 in
theorem ggX9_tellNumbers_X9_numbersOf : GoodIn wsX9_tellNumbers wsX9_numbersOf := goodIn_r _ [16] (by decide +kernel) (by decide +kernel)
set_option maxRecDepth 20000 in
theorem gX9_tellNumbers_X9_numbersOf : GoodIn wsX9_tellNumbers (va_wsS RX9 60 yX9_numbersOf wsX9_numbersOf) := goodIn_app (goodIn_of _ (by decide +kernel)) ggX9_tellNumbers_X9_numbersOf
theorem dX9_tellNumbers_0 : decode cX9_tellNumbers 0 = .ok (.aload_n 0, 1) := by decide +kernel
theorem dX9_tellNumbers_1 : decode cX9_tellNumbers 1 = .ok (.getfield 30, 3) := by decide +kernel
theorem dX9_tellNumbers_4 : decode cX9_tellNumbers 4 = .ok (.iconst 2, 1) := by decide +kernel
theorem dX9_tellNumbers_5 : decode cX9_tellNumbers 5 = .ok (.if_icmp .ne 7, 3) := by decide +kernel
theorem dX9_tellNumbers_8 : decode cX9_tellNumbers 8 = .ok (.iconst 1, 1) := by decide +kernel
theorem dX9_tellNumbers_9 : decode cX9_tellNumbers 9 = .ok (.goto 4, 3) := by decide +kernel
theorem dX9_tellNumbers_12 : decode cX9_tellNumbers 12 = .ok (.iconst 0, 1) := by decide +kernel
theorem dX9_tellNumbers_13 : decode cX9_tellNumbers 13 = .ok (.istore_n 1, 1) := by decide +kernel
theorem dX9_tellNumbers_14 : decode cX9_tellNumbers 14 = .ok (.aload_n 0, 1) := by decide +kernel
theorem dX9_tellNumbers_15 : decode cX9_tellNumbers 15 = .ok (.getfield 30, 3) := by decide +kernel
theorem dX9_tellNumbers_18 : decode cX9_tellNumbers 18 = .ok (.iconst 3, 1) := by decide +kernel
theorem dX9_tellNumbers_19 : decode cX9_tellNumbers 19 = .ok (.if_icmp .ne 7, 3) := by decide +kernel
theorem dX9_tellNumbers_22 : decode cX9_tellNumbers 22 = .ok (.iconst 1, 1) := by decide +kernel
theorem dX9_tellNumbers_23 : decode cX9_tellNumbers 23 = .ok (.goto 4, 3) := by decide +kernel
theorem dX9_tellNumbers_26 : decode cX9_tellNumbers 26 = .ok (.iconst 0, 1) := by decide +kernel
theorem dX9_tellNumbers_27 : decode cX9_tellNumbers 27 = .ok (.istore_n 2, 1) := by decide +kernel
theorem dX9_tellNumbers_28 : decode cX9_tellNumbers 28 = .ok (.aload_n 0, 1) := by decide +kernel
theorem dX9_tellNumbers_29 : decode cX9_tellNumbers 29 = .ok (.iload_n 1, 1) := by decide +kernel
theorem dX9_tellNumbers_30 : decode cX9_tellNumbers 30 = .ok (.ifCond .eq 7, 3) := by decide +kernel
theorem dX9_tellNumbers_33 : decode cX9_tellNumbers 33 = .ok (.iconst 5, 1) := by decide +kernel
theorem dX9_tellNumbers_34 : decode cX9_tellNumbers 34 = .ok (.goto 11, 3) := by decide +kernel
theorem dX9_tellNumbers_37 : decode cX9_tellNumbers 37 = .ok (.aload_n 0, 1) := by decide +kernel
theorem dX9_tellNumbers_38 : decode cX9_tellNumbers 38 = .ok (.getfield 24, 3) := by decide +kernel
theorem dX9_tellNumbers_41 : decode cX9_tellNumbers 41 = .ok (.iconst 0, 1) := by decide +kernel
theorem dX9_tellNumbers_42 : decode cX9_tellNumbers 42 = .ok (.invokevirtual 74, 3) := by decide +kernel
theorem dX9_tellNumbers_45 : decode cX9_tellNumbers 45 = .ok (.putfield 33, 3) := by decide +kernel
theorem dX9_tellNumbers_48 : decode cX9_tellNumbers 48 = .ok (.aload_n 0, 1) := by decide +kernel
theorem dX9_tellNumbers_49 : decode cX9_tellNumbers 49 = .ok (.iload_n 2, 1) := by decide +kernel
theorem dX9_tellNumbers_50 : decode cX9_tellNumbers 50 = .ok (.ifCond .eq 14, 3) := by decide +kernel
theorem dX9_tellNumbers_53 : decode cX9_tellNumbers 53 = .ok (.aload_n 0, 1) := by decide +kernel
theorem dX9_tellNumbers_54 : decode cX9_tellNumbers 54 = .ok (.getfield 24, 3) := by decide +kernel
theorem dX9_tellNumbers_57 : decode cX9_tellNumbers 57 = .ok (.iconst 1, 1) := by decide +kernel
theorem dX9_tellNumbers_58 : decode cX9_tellNumbers 58 = .ok (.invokevirtual 74, 3) := by decide +kernel
theorem dX9_tellNumbers_61 : decode cX9_tellNumbers 61 = .ok (.goto 4, 3) := by decide +kernel
theorem dX9_tellNumbers_64 : decode cX9_tellNumbers 64 = .ok (.iconst 0, 1) := by decide +kernel
theorem dX9_tellNumbers_65 : decode cX9_tellNumbers 65 = .ok (.putfield 36, 3) := by decide +kernel
theorem dX9_tellNumbers_68 : decode cX9_tellNumbers 68 = .ok (.aload_n 0, 1) := by decide +kernel
theorem dX9_tellNumbers_69 : decode cX9_tellNumbers 69 = .ok (.aload_n 0, 1) := by decide +kernel
theorem dX9_tellNumbers_70 : decode cX9_tellNumbers 70 = .ok (.getfield 24, 3) := by decide +kernel
theorem dX9_tellNumbers_73 : decode cX9_tellNumbers 73 = .ok (.iload_n 1, 1) := by decide +kernel
theorem dX9_tellNumbers_74 : decode cX9_tellNumbers 74 = .ok (.ifCond .eq 7, 3) := by decide +kernel
theorem dX9_tellNumbers_77 : decode cX9_tellNumbers 77 = .ok (.iconst 0, 1) := by decide +kernel
theorem dX9_tellNumbers_78 : decode cX9_tellNumbers 78 = .ok (.goto 12, 3) := by decide +kernel
theorem dX9_tellNumbers_81 : decode cX9_tellNumbers 81 = .ok (.iload_n 2, 1) := by decide +kernel
theorem dX9_tellNumbers_82 : decode cX9_tellNumbers 82 = .ok (.ifCond .eq 7, 3) := by decide +kernel
theorem dX9_tellNumbers_85 : decode cX9_tellNumbers 85 = .ok (.iconst 2, 1) := by decide +kernel
theorem dX9_tellNumbers_86 : decode cX9_tellNumbers 86 = .ok (.goto 4, 3) := by decide +kernel
theorem dX9_tellNumbers_89 : decode cX9_tellNumbers 89 = .ok (.iconst 1, 1) := by decide +kernel
theorem dX9_tellNumbers_90 : decode cX9_tellNumbers 90 = .ok (.invokevirtual 74, 3) := by decide +kernel
theorem dX9_tellNumbers_93 : decode cX9_tellNumbers 93 = .ok (.putfield 39, 3) := by decide +kernel
theorem dX9_tellNumbers_96 : decode cX9_tellNumbers 96 = .ok (.aload_n 0, 1) := by decide +kernel
theorem dX9_tellNumbers_97 : decode cX9_tellNumbers 97 = .ok (.aload_n 0, 1) := by decide +kernel
theorem dX9_tellNumbers_98 : decode cX9_tellNumbers 98 = .ok (.getfield 24, 3) := by decide +kernel
theorem dX9_tellNumbers_101 : decode cX9_tellNumbers 101 = .ok (.aload_n 0, 1) := by decide +kernel
theorem dX9_tellNumbers_102 : decode cX9_tellNumbers 102 = .ok (.getfield 30, 3) := by decide +kernel
theorem dX9_tellNumbers_105 : decode cX9_tellNumbers 105 = .ok (.invokestatic 60, 3) := by decide +kernel
theorem dX9_tellNumbers_108 : decode cX9_tellNumbers 108 = .ok (.iconst 1, 1) := by decide +kernel
theorem dX9_tellNumbers_109 : decode cX9_tellNumbers 109 = .ok (.isub, 1) := by decide +kernel
theorem dX9_tellNumbers_110 : decode cX9_tellNumbers 110 = .ok (.invokevirtual 74, 3) := by decide +kernel
theorem dX9_tellNumbers_113 : decode cX9_tellNumbers 113 = .ok (.putfield 42, 3) := by decide +kernel
theorem dX9_tellNumbers_116 : decode cX9_tellNumbers 116 = .ok (.return_, 1) := by decide +kernel
set_option maxRecDepth 20000 in
theorem ggX9_isTold_X10_isCountyOrAll : GoodIn wsX9_isTold wsX10_isCountyOrAll := goodIn_r _ [8, 9, 10, 7, 11] (by decide +kernel) (by decide +kernel)
set_option maxRecDepth 20000 in
theorem gX9_isTold_X10_isCountyOrAll_n80 : GoodIn wsX9_isTold (wsX10_isCountyOrAll) := ggX9_isTold_X10_isCountyOrAll
set_option maxRecDepth 20000 in
theorem ggX9_isTold_X10_isHour : GoodIn wsX9_isTold wsX10_isHour := goodIn_r _ [13] (by decide +kernel) (by decide +kernel)
set_option maxRecDepth 20000 in
theorem gX9_isTold_X10_isHour_n83 : GoodIn wsX9_isTold (wsX10_isHour) := ggX9_isTold_X10_isHour
set_option maxRecDepth 20000 in
theorem ggX9_isTold_X9_lowest : GoodIn wsX9_isTold wsX9_lowest := goodIn_r _ [17] (by decide +kernel) (by decide +kernel)
set_option maxRecDepth 20000 in
theorem gX9_isTold_X9_lowest : GoodIn wsX9_isTold (va_wsS RX9 86 yX9_lowest wsX9_lowest) := goodIn_app (goodIn_of _ (by decide +kernel)) ggX9_isTold_X9_lowest
set_option maxRecDepth 20000 in
theorem ggX9_isTold_X9_highest : GoodIn wsX9_isTold wsX9_highest := goodIn_r _ [20] (by decide +kernel) (by decide +kernel)
set_option maxRecDepth 20000 in
theorem gX9_isTold_X9_highest : GoodIn wsX9_isTold (va_wsS RX9 89 yX9_highest wsX9_highest) := goodIn_app (goodIn_of _ (by decide +kernel)) ggX9_isTold_X9_highest
theorem dX9_isTold_0 : decode cX9_isTold 0 = .ok (.aload_n 0, 1) := by decide +kernel
theorem dX9_isTold_1 : decode cX9_isTold 1 = .ok (.getfield 33, 3) := by decide +kernel
theorem dX9_isTold_4 : decode cX9_isTold 4 = .ok (.invokestatic 80, 3) := by decide +kernel
theorem dX9_isTold_7 : decode cX9_isTold 7 = .ok (.ifCond .eq 53, 3) := by decide +kernel
theorem dX9_isTold_10 : decode cX9_isTold 10 = .ok (.aload_n 0, 1) := by decide +kernel
theorem dX9_isTold_11 : decode cX9_isTold 11 = .ok (.getfield 36, 3) := by decide +kernel
theorem dX9_isTold_14 : decode cX9_isTold 14 = .ok (.iconst 4, 1) := by decide +kernel
theorem dX9_isTold_15 : decode cX9_isTold 15 = .ok (.if_icmp .ge 45, 3) := by decide +kernel
theorem dX9_isTold_18 : decode cX9_isTold 18 = .ok (.aload_n 0, 1) := by decide +kernel
theorem dX9_isTold_19 : decode cX9_isTold 19 = .ok (.getfield 42, 3) := by decide +kernel
theorem dX9_isTold_22 : decode cX9_isTold 22 = .ok (.invokestatic 83, 3) := by decide +kernel
theorem dX9_isTold_25 : decode cX9_isTold 25 = .ok (.ifCond .eq 35, 3) := by decide +kernel
theorem dX9_isTold_28 : decode cX9_isTold 28 = .ok (.aload_n 0, 1) := by decide +kernel
theorem dX9_isTold_29 : decode cX9_isTold 29 = .ok (.getfield 39, 3) := by decide +kernel
theorem dX9_isTold_32 : decode cX9_isTold 32 = .ok (.aload_n 0, 1) := by decide +kernel
theorem dX9_isTold_33 : decode cX9_isTold 33 = .ok (.getfield 30, 3) := by decide +kernel
theorem dX9_isTold_36 : decode cX9_isTold 36 = .ok (.invokestatic 86, 3) := by decide +kernel
theorem dX9_isTold_39 : decode cX9_isTold 39 = .ok (.if_icmp .lt 21, 3) := by decide +kernel
theorem dX9_isTold_42 : decode cX9_isTold 42 = .ok (.aload_n 0, 1) := by decide +kernel
theorem dX9_isTold_43 : decode cX9_isTold 43 = .ok (.getfield 39, 3) := by decide +kernel
theorem dX9_isTold_46 : decode cX9_isTold 46 = .ok (.aload_n 0, 1) := by decide +kernel
theorem dX9_isTold_47 : decode cX9_isTold 47 = .ok (.getfield 30, 3) := by decide +kernel
theorem dX9_isTold_50 : decode cX9_isTold 50 = .ok (.invokestatic 89, 3) := by decide +kernel
theorem dX9_isTold_53 : decode cX9_isTold 53 = .ok (.if_icmp .gt 7, 3) := by decide +kernel
theorem dX9_isTold_56 : decode cX9_isTold 56 = .ok (.iconst 1, 1) := by decide +kernel
theorem dX9_isTold_57 : decode cX9_isTold 57 = .ok (.goto 4, 3) := by decide +kernel
theorem dX9_isTold_60 : decode cX9_isTold 60 = .ok (.iconst 0, 1) := by decide +kernel
theorem dX9_isTold_61 : decode cX9_isTold 61 = .ok (.ireturn, 1) := by decide +kernel
theorem dX9_lowest_0 : decode cX9_lowest 0 = .ok (.iload_n 0, 1) := by decide +kernel
theorem dX9_lowest_1 : decode cX9_lowest 1 = .ok (.lookupswitch 31 #[(0, 27), (2, 29)], 27) := by decide +kernel
theorem dX9_lowest_28 : decode cX9_lowest 28 = .ok (.iconst 1, 1) := by decide +kernel
theorem dX9_lowest_29 : decode cX9_lowest 29 = .ok (.ireturn, 1) := by decide +kernel
theorem dX9_lowest_30 : decode cX9_lowest 30 = .ok (.iconst 2, 1) := by decide +kernel
theorem dX9_lowest_31 : decode cX9_lowest 31 = .ok (.ireturn, 1) := by decide +kernel
theorem dX9_lowest_32 : decode cX9_lowest 32 = .ok (.iconst 0, 1) := by decide +kernel
theorem dX9_lowest_33 : decode cX9_lowest 33 = .ok (.ireturn, 1) := by decide +kernel
theorem dX9_highest_0 : decode cX9_highest 0 = .ok (.iload_n 0, 1) := by decide +kernel
theorem dX9_highest_1 : decode cX9_highest 1 = .ok (.lookupswitch 32 #[(1, 27), (3, 30)], 27) := by decide +kernel
theorem dX9_highest_28 : decode cX9_highest 28 = .ok (.bipush 12, 2) := by decide +kernel
theorem dX9_highest_30 : decode cX9_highest 30 = .ok (.ireturn, 1) := by decide +kernel
theorem dX9_highest_31 : decode cX9_highest 31 = .ok (.iconst 1, 1) := by decide +kernel
theorem dX9_highest_32 : decode cX9_highest 32 = .ok (.ireturn, 1) := by decide +kernel
theorem dX9_highest_33 : decode cX9_highest 33 = .ok (.iconst 5, 1) := by decide +kernel
theorem dX9_highest_34 : decode cX9_highest 34 = .ok (.ireturn, 1) := by decide +kernel
