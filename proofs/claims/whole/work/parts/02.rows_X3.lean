set_option maxRecDepth 20000 in
theorem ggX3_init_X6_init : GoodIn wsX3_init wsX6_init := goodIn_r _ [12, 13, 2, 3, 14, 15, 16] (by decide +kernel) (by decide +kernel)
set_option maxRecDepth 20000 in
theorem gX3_init_X6_init : GoodIn wsX3_init (wsX6_init) := ggX3_init_X6_init
theorem dX3_init_0 : decode cX3_init 0 = .ok (.aload_n 0, 1) := by decide +kernel
theorem dX3_init_1 : decode cX3_init 1 = .ok (.invokespecial 3, 3) := by decide +kernel
theorem dX3_init_4 : decode cX3_init 4 = .ok (.aload_n 0, 1) := by decide +kernel
theorem dX3_init_5 : decode cX3_init 5 = .ok (.new 9, 3) := by decide +kernel
theorem dX3_init_8 : decode cX3_init 8 = .ok (.dup, 1) := by decide +kernel
theorem dX3_init_9 : decode cX3_init 9 = .ok (.bipush 40, 2) := by decide +kernel
theorem dX3_init_11 : decode cX3_init 11 = .ok (.invokespecial 11, 3) := by decide +kernel
theorem dX3_init_14 : decode cX3_init 14 = .ok (.putfield 14, 3) := by decide +kernel
theorem dX3_init_17 : decode cX3_init 17 = .ok (.aload_n 0, 1) := by decide +kernel
theorem dX3_init_18 : decode cX3_init 18 = .ok (.new 9, 3) := by decide +kernel
theorem dX3_init_21 : decode cX3_init 21 = .ok (.dup, 1) := by decide +kernel
theorem dX3_init_22 : decode cX3_init 22 = .ok (.sipush 480, 3) := by decide +kernel
theorem dX3_init_25 : decode cX3_init 25 = .ok (.invokespecial 11, 3) := by decide +kernel
theorem dX3_init_28 : decode cX3_init 28 = .ok (.putfield 20, 3) := by decide +kernel
theorem dX3_init_31 : decode cX3_init 31 = .ok (.aload_n 0, 1) := by decide +kernel
theorem dX3_init_32 : decode cX3_init 32 = .ok (.iconst 0, 1) := by decide +kernel
theorem dX3_init_33 : decode cX3_init 33 = .ok (.putfield 23, 3) := by decide +kernel
theorem dX3_init_36 : decode cX3_init 36 = .ok (.return_, 1) := by decide +kernel
theorem dX3_size_0 : decode cX3_size 0 = .ok (.aload_n 0, 1) := by decide +kernel
theorem dX3_size_1 : decode cX3_size 1 = .ok (.getfield 23, 3) := by decide +kernel
theorem dX3_size_4 : decode cX3_size 4 = .ok (.ireturn, 1) := by decide +kernel
theorem dX3_has_0 : decode cX3_has 0 = .ok (.iload_n 1, 1) := by decide +kernel
theorem dX3_has_1 : decode cX3_has 1 = .ok (.ifCond .lt 15, 3) := by decide +kernel
theorem dX3_has_4 : decode cX3_has 4 = .ok (.iload_n 1, 1) := by decide +kernel
theorem dX3_has_5 : decode cX3_has 5 = .ok (.aload_n 0, 1) := by decide +kernel
theorem dX3_has_6 : decode cX3_has 6 = .ok (.getfield 23, 3) := by decide +kernel
theorem dX3_has_9 : decode cX3_has 9 = .ok (.if_icmp .ge 7, 3) := by decide +kernel
theorem dX3_has_12 : decode cX3_has 12 = .ok (.iconst 1, 1) := by decide +kernel
theorem dX3_has_13 : decode cX3_has 13 = .ok (.goto 4, 3) := by decide +kernel
theorem dX3_has_16 : decode cX3_has 16 = .ok (.iconst 0, 1) := by decide +kernel
theorem dX3_has_17 : decode cX3_has 17 = .ok (.ireturn, 1) := by decide +kernel
set_option maxRecDepth 20000 in
theorem ggX3_countyOf_X6_get : GoodIn wsX3_countyOf wsX6_get := goodIn_r _ [6, 7, 11] (by decide +kernel) (by decide +kernel)
set_option maxRecDepth 20000 in
theorem gX3_countyOf_X6_get : GoodIn wsX3_countyOf (wsV RX3 27 RX6 yX6_get wsX6_get) := goodIn_app (goodIn_of _ (by decide +kernel)) ggX3_countyOf_X6_get
theorem dX3_countyOf_0 : decode cX3_countyOf 0 = .ok (.aload_n 0, 1) := by decide +kernel
theorem dX3_countyOf_1 : decode cX3_countyOf 1 = .ok (.getfield 14, 3) := by decide +kernel
theorem dX3_countyOf_4 : decode cX3_countyOf 4 = .ok (.iload_n 1, 1) := by decide +kernel
theorem dX3_countyOf_5 : decode cX3_countyOf 5 = .ok (.invokevirtual 27, 3) := by decide +kernel
theorem dX3_countyOf_8 : decode cX3_countyOf 8 = .ok (.ireturn, 1) := by decide +kernel
set_option maxRecDepth 20000 in
theorem ggX3_state_X6_get : GoodIn wsX3_state wsX6_get := goodIn_r _ [6, 7, 11] (by decide +kernel) (by decide +kernel)
set_option maxRecDepth 20000 in
theorem gX3_state_X6_get : GoodIn wsX3_state (wsV RX3 27 RX6 yX6_get wsX6_get) := goodIn_app (goodIn_of _ (by decide +kernel)) ggX3_state_X6_get
theorem dX3_state_0 : decode cX3_state 0 = .ok (.aload_n 0, 1) := by decide +kernel
theorem dX3_state_1 : decode cX3_state 1 = .ok (.getfield 20, 3) := by decide +kernel
theorem dX3_state_4 : decode cX3_state 4 = .ok (.iload_n 1, 1) := by decide +kernel
theorem dX3_state_5 : decode cX3_state 5 = .ok (.bipush 12, 2) := by decide +kernel
theorem dX3_state_7 : decode cX3_state 7 = .ok (.imul, 1) := by decide +kernel
theorem dX3_state_8 : decode cX3_state 8 = .ok (.iload_n 2, 1) := by decide +kernel
theorem dX3_state_9 : decode cX3_state 9 = .ok (.iconst 4, 1) := by decide +kernel
theorem dX3_state_10 : decode cX3_state 10 = .ok (.imul, 1) := by decide +kernel
theorem dX3_state_11 : decode cX3_state 11 = .ok (.iadd, 1) := by decide +kernel
theorem dX3_state_12 : decode cX3_state 12 = .ok (.iload_n 3, 1) := by decide +kernel
theorem dX3_state_13 : decode cX3_state 13 = .ok (.iadd, 1) := by decide +kernel
theorem dX3_state_14 : decode cX3_state 14 = .ok (.invokevirtual 27, 3) := by decide +kernel
theorem dX3_state_17 : decode cX3_state 17 = .ok (.ireturn, 1) := by decide +kernel
set_option maxRecDepth 20000 in
theorem ggX3_add_X6_set : GoodIn wsX3_add wsX6_set := goodIn_r _ [9, 10, 14] (by decide +kernel) (by decide +kernel)
set_option maxRecDepth 20000 in
theorem gX3_add_X6_set : GoodIn wsX3_add (wsV RX3 33 RX6 yX6_set wsX6_set) := goodIn_app (goodIn_of _ (by decide +kernel)) ggX3_add_X6_set
theorem dX3_add_0 : decode cX3_add 0 = .ok (.aload_n 0, 1) := by decide +kernel
theorem dX3_add_1 : decode cX3_add 1 = .ok (.getfield 23, 3) := by decide +kernel
theorem dX3_add_4 : decode cX3_add 4 = .ok (.bipush 40, 2) := by decide +kernel
theorem dX3_add_6 : decode cX3_add 6 = .ok (.if_icmp .lt 6, 3) := by decide +kernel
theorem dX3_add_9 : decode cX3_add 9 = .ok (.bipush (-3), 2) := by decide +kernel
theorem dX3_add_11 : decode cX3_add 11 = .ok (.ireturn, 1) := by decide +kernel
theorem dX3_add_12 : decode cX3_add 12 = .ok (.lload_n 2, 1) := by decide +kernel
theorem dX3_add_13 : decode cX3_add 13 = .ok (.lstore 4, 2) := by decide +kernel
theorem dX3_add_15 : decode cX3_add 15 = .ok (.bipush 11, 2) := by decide +kernel
theorem dX3_add_17 : decode cX3_add 17 = .ok (.istore 6, 2) := by decide +kernel
theorem dX3_add_19 : decode cX3_add 19 = .ok (.iload 6, 2) := by decide +kernel
theorem dX3_add_21 : decode cX3_add 21 = .ok (.ifCond .lt 41, 3) := by decide +kernel
theorem dX3_add_24 : decode cX3_add 24 = .ok (.aload_n 0, 1) := by decide +kernel
theorem dX3_add_25 : decode cX3_add 25 = .ok (.getfield 20, 3) := by decide +kernel
theorem dX3_add_28 : decode cX3_add 28 = .ok (.aload_n 0, 1) := by decide +kernel
theorem dX3_add_29 : decode cX3_add 29 = .ok (.getfield 23, 3) := by decide +kernel
theorem dX3_add_32 : decode cX3_add 32 = .ok (.bipush 12, 2) := by decide +kernel
theorem dX3_add_34 : decode cX3_add 34 = .ok (.imul, 1) := by decide +kernel
theorem dX3_add_35 : decode cX3_add 35 = .ok (.iload 6, 2) := by decide +kernel
theorem dX3_add_37 : decode cX3_add 37 = .ok (.iadd, 1) := by decide +kernel
theorem dX3_add_38 : decode cX3_add 38 = .ok (.lload 4, 2) := by decide +kernel
theorem dX3_add_40 : decode cX3_add 40 = .ok (.ldc2_w 31, 3) := by decide +kernel
theorem dX3_add_43 : decode cX3_add 43 = .ok (.lrem, 1) := by decide +kernel
theorem dX3_add_44 : decode cX3_add 44 = .ok (.l2i, 1) := by decide +kernel
theorem dX3_add_45 : decode cX3_add 45 = .ok (.invokevirtual 33, 3) := by decide +kernel
theorem dX3_add_48 : decode cX3_add 48 = .ok (.lload 4, 2) := by decide +kernel
theorem dX3_add_50 : decode cX3_add 50 = .ok (.ldc2_w 31, 3) := by decide +kernel
theorem dX3_add_53 : decode cX3_add 53 = .ok (.ldiv, 1) := by decide +kernel
theorem dX3_add_54 : decode cX3_add 54 = .ok (.lstore 4, 2) := by decide +kernel
theorem dX3_add_56 : decode cX3_add 56 = .ok (.iinc 6 (-1), 3) := by decide +kernel
theorem dX3_add_59 : decode cX3_add 59 = .ok (.goto (-40), 3) := by decide +kernel
theorem dX3_add_62 : decode cX3_add 62 = .ok (.aload_n 0, 1) := by decide +kernel
theorem dX3_add_63 : decode cX3_add 63 = .ok (.getfield 14, 3) := by decide +kernel
theorem dX3_add_66 : decode cX3_add 66 = .ok (.aload_n 0, 1) := by decide +kernel
theorem dX3_add_67 : decode cX3_add 67 = .ok (.getfield 23, 3) := by decide +kernel
theorem dX3_add_70 : decode cX3_add 70 = .ok (.iload_n 1, 1) := by decide +kernel
theorem dX3_add_71 : decode cX3_add 71 = .ok (.invokevirtual 33, 3) := by decide +kernel
theorem dX3_add_74 : decode cX3_add 74 = .ok (.aload_n 0, 1) := by decide +kernel
theorem dX3_add_75 : decode cX3_add 75 = .ok (.dup, 1) := by decide +kernel
theorem dX3_add_76 : decode cX3_add 76 = .ok (.getfield 23, 3) := by decide +kernel
theorem dX3_add_79 : decode cX3_add 79 = .ok (.iconst 1, 1) := by decide +kernel
theorem dX3_add_80 : decode cX3_add 80 = .ok (.iadd, 1) := by decide +kernel
theorem dX3_add_81 : decode cX3_add 81 = .ok (.putfield 23, 3) := by decide +kernel
theorem dX3_add_84 : decode cX3_add 84 = .ok (.aload_n 0, 1) := by decide +kernel
theorem dX3_add_85 : decode cX3_add 85 = .ok (.getfield 23, 3) := by decide +kernel
theorem dX3_add_88 : decode cX3_add 88 = .ok (.iconst 1, 1) := by decide +kernel
theorem dX3_add_89 : decode cX3_add 89 = .ok (.isub, 1) := by decide +kernel
theorem dX3_add_90 : decode cX3_add 90 = .ok (.ireturn, 1) := by decide +kernel
set_option maxRecDepth 20000 in
theorem ggX3_open_X6_get : GoodIn wsX3_open wsX6_get := goodIn_r _ [10, 11, 19] (by decide +kernel) (by decide +kernel)
set_option maxRecDepth 20000 in
theorem gX3_open_X6_get : GoodIn wsX3_open (wsV RX3 27 RX6 yX6_get wsX6_get) := goodIn_app (goodIn_of _ (by decide +kernel)) ggX3_open_X6_get
set_option maxRecDepth 20000 in
theorem ggX3_open_X6_set : GoodIn wsX3_open wsX6_set := goodIn_r _ [15, 11, 19] (by decide +kernel) (by decide +kernel)
set_option maxRecDepth 20000 in
theorem gX3_open_X6_set : GoodIn wsX3_open (wsV RX3 33 RX6 yX6_set wsX6_set) := goodIn_app (goodIn_of _ (by decide +kernel)) ggX3_open_X6_set
theorem dX3_open_0 : decode cX3_open 0 = .ok (.iconst 0, 1) := by decide +kernel
theorem dX3_open_1 : decode cX3_open 1 = .ok (.istore_n 3, 1) := by decide +kernel
theorem dX3_open_2 : decode cX3_open 2 = .ok (.iload_n 1, 1) := by decide +kernel
theorem dX3_open_3 : decode cX3_open 3 = .ok (.bipush 12, 2) := by decide +kernel
theorem dX3_open_5 : decode cX3_open 5 = .ok (.imul, 1) := by decide +kernel
theorem dX3_open_6 : decode cX3_open 6 = .ok (.istore 4, 2) := by decide +kernel
theorem dX3_open_8 : decode cX3_open 8 = .ok (.iload 4, 2) := by decide +kernel
theorem dX3_open_10 : decode cX3_open 10 = .ok (.iload_n 1, 1) := by decide +kernel
theorem dX3_open_11 : decode cX3_open 11 = .ok (.iconst 1, 1) := by decide +kernel
theorem dX3_open_12 : decode cX3_open 12 = .ok (.iadd, 1) := by decide +kernel
theorem dX3_open_13 : decode cX3_open 13 = .ok (.bipush 12, 2) := by decide +kernel
theorem dX3_open_15 : decode cX3_open 15 = .ok (.imul, 1) := by decide +kernel
theorem dX3_open_16 : decode cX3_open 16 = .ok (.if_icmp .ge 54, 3) := by decide +kernel
theorem dX3_open_19 : decode cX3_open 19 = .ok (.aload_n 0, 1) := by decide +kernel
theorem dX3_open_20 : decode cX3_open 20 = .ok (.getfield 20, 3) := by decide +kernel
theorem dX3_open_23 : decode cX3_open 23 = .ok (.iload 4, 2) := by decide +kernel
theorem dX3_open_25 : decode cX3_open 25 = .ok (.invokevirtual 27, 3) := by decide +kernel
theorem dX3_open_28 : decode cX3_open 28 = .ok (.istore 5, 2) := by decide +kernel
theorem dX3_open_30 : decode cX3_open 30 = .ok (.iload 5, 2) := by decide +kernel
theorem dX3_open_32 : decode cX3_open 32 = .ok (.iconst 1, 1) := by decide +kernel
theorem dX3_open_33 : decode cX3_open 33 = .ok (.iconst 5, 1) := by decide +kernel
theorem dX3_open_34 : decode cX3_open 34 = .ok (.iload_n 2, 1) := by decide +kernel
theorem dX3_open_35 : decode cX3_open 35 = .ok (.isub, 1) := by decide +kernel
theorem dX3_open_36 : decode cX3_open 36 = .ok (.invokestatic 37, 3) := by decide +kernel
theorem dX3_open_39 : decode cX3_open 39 = .ok (.if_icmp .lt 25, 3) := by decide +kernel
theorem dX3_open_42 : decode cX3_open 42 = .ok (.iload 5, 2) := by decide +kernel
theorem dX3_open_44 : decode cX3_open 44 = .ok (.iconst 5, 1) := by decide +kernel
theorem dX3_open_45 : decode cX3_open 45 = .ok (.if_icmp .ge 19, 3) := by decide +kernel
theorem dX3_open_48 : decode cX3_open 48 = .ok (.aload_n 0, 1) := by decide +kernel
theorem dX3_open_49 : decode cX3_open 49 = .ok (.getfield 20, 3) := by decide +kernel
theorem dX3_open_52 : decode cX3_open 52 = .ok (.iload 4, 2) := by decide +kernel
theorem dX3_open_54 : decode cX3_open 54 = .ok (.iload 5, 2) := by decide +kernel
theorem dX3_open_56 : decode cX3_open 56 = .ok (.iconst 1, 1) := by decide +kernel
theorem dX3_open_57 : decode cX3_open 57 = .ok (.iadd, 1) := by decide +kernel
theorem dX3_open_58 : decode cX3_open 58 = .ok (.invokevirtual 33, 3) := by decide +kernel
theorem dX3_open_61 : decode cX3_open 61 = .ok (.iinc 3 1, 3) := by decide +kernel
theorem dX3_open_64 : decode cX3_open 64 = .ok (.iinc 4 1, 3) := by decide +kernel
theorem dX3_open_67 : decode cX3_open 67 = .ok (.goto (-59), 3) := by decide +kernel
theorem dX3_open_70 : decode cX3_open 70 = .ok (.iload_n 3, 1) := by decide +kernel
theorem dX3_open_71 : decode cX3_open 71 = .ok (.ireturn, 1) := by decide +kernel
set_option maxRecDepth 20000 in
theorem ggX3_dimplesOf_X6_get : GoodIn wsX3_dimplesOf wsX6_get := goodIn_r _ [6, 7, 11] (by decide +kernel) (by decide +kernel)
set_option maxRecDepth 20000 in
theorem gX3_dimplesOf_X6_get : GoodIn wsX3_dimplesOf (wsV RX3 27 RX6 yX6_get wsX6_get) := goodIn_app (goodIn_of _ (by decide +kernel)) ggX3_dimplesOf_X6_get
theorem dX3_dimplesOf_0 : decode cX3_dimplesOf 0 = .ok (.iconst 0, 1) := by decide +kernel
theorem dX3_dimplesOf_1 : decode cX3_dimplesOf 1 = .ok (.istore_n 2, 1) := by decide +kernel
theorem dX3_dimplesOf_2 : decode cX3_dimplesOf 2 = .ok (.iload_n 1, 1) := by decide +kernel
theorem dX3_dimplesOf_3 : decode cX3_dimplesOf 3 = .ok (.bipush 12, 2) := by decide +kernel
theorem dX3_dimplesOf_5 : decode cX3_dimplesOf 5 = .ok (.imul, 1) := by decide +kernel
theorem dX3_dimplesOf_6 : decode cX3_dimplesOf 6 = .ok (.istore_n 3, 1) := by decide +kernel
theorem dX3_dimplesOf_7 : decode cX3_dimplesOf 7 = .ok (.iload_n 3, 1) := by decide +kernel
theorem dX3_dimplesOf_8 : decode cX3_dimplesOf 8 = .ok (.iload_n 1, 1) := by decide +kernel
theorem dX3_dimplesOf_9 : decode cX3_dimplesOf 9 = .ok (.iconst 1, 1) := by decide +kernel
theorem dX3_dimplesOf_10 : decode cX3_dimplesOf 10 = .ok (.iadd, 1) := by decide +kernel
theorem dX3_dimplesOf_11 : decode cX3_dimplesOf 11 = .ok (.bipush 12, 2) := by decide +kernel
theorem dX3_dimplesOf_13 : decode cX3_dimplesOf 13 = .ok (.imul, 1) := by decide +kernel
theorem dX3_dimplesOf_14 : decode cX3_dimplesOf 14 = .ok (.if_icmp .ge 24, 3) := by decide +kernel
theorem dX3_dimplesOf_17 : decode cX3_dimplesOf 17 = .ok (.aload_n 0, 1) := by decide +kernel
theorem dX3_dimplesOf_18 : decode cX3_dimplesOf 18 = .ok (.getfield 20, 3) := by decide +kernel
theorem dX3_dimplesOf_21 : decode cX3_dimplesOf 21 = .ok (.iload_n 3, 1) := by decide +kernel
theorem dX3_dimplesOf_22 : decode cX3_dimplesOf 22 = .ok (.invokevirtual 27, 3) := by decide +kernel
theorem dX3_dimplesOf_25 : decode cX3_dimplesOf 25 = .ok (.iconst 1, 1) := by decide +kernel
theorem dX3_dimplesOf_26 : decode cX3_dimplesOf 26 = .ok (.if_icmp .ne 6, 3) := by decide +kernel
theorem dX3_dimplesOf_29 : decode cX3_dimplesOf 29 = .ok (.iinc 2 1, 3) := by decide +kernel
theorem dX3_dimplesOf_32 : decode cX3_dimplesOf 32 = .ok (.iinc 3 1, 3) := by decide +kernel
theorem dX3_dimplesOf_35 : decode cX3_dimplesOf 35 = .ok (.goto (-28), 3) := by decide +kernel
theorem dX3_dimplesOf_38 : decode cX3_dimplesOf 38 = .ok (.iload_n 2, 1) := by decide +kernel
theorem dX3_dimplesOf_39 : decode cX3_dimplesOf 39 = .ok (.ireturn, 1) := by decide +kernel
set_option maxRecDepth 20000 in
theorem ggX3_notWhole_X6_get : GoodIn wsX3_notWhole wsX6_get := goodIn_r _ [7, 8, 12] (by decide +kernel) (by decide +kernel)
set_option maxRecDepth 20000 in
theorem gX3_notWhole_X6_get : GoodIn wsX3_notWhole (wsV RX3 27 RX6 yX6_get wsX6_get) := goodIn_app (goodIn_of _ (by decide +kernel)) ggX3_notWhole_X6_get
theorem dX3_notWhole_0 : decode cX3_notWhole 0 = .ok (.iconst 0, 1) := by decide +kernel
theorem dX3_notWhole_1 : decode cX3_notWhole 1 = .ok (.istore_n 1, 1) := by decide +kernel
theorem dX3_notWhole_2 : decode cX3_notWhole 2 = .ok (.iconst 0, 1) := by decide +kernel
theorem dX3_notWhole_3 : decode cX3_notWhole 3 = .ok (.istore_n 2, 1) := by decide +kernel
theorem dX3_notWhole_4 : decode cX3_notWhole 4 = .ok (.iload_n 2, 1) := by decide +kernel
theorem dX3_notWhole_5 : decode cX3_notWhole 5 = .ok (.aload_n 0, 1) := by decide +kernel
theorem dX3_notWhole_6 : decode cX3_notWhole 6 = .ok (.getfield 23, 3) := by decide +kernel
theorem dX3_notWhole_9 : decode cX3_notWhole 9 = .ok (.bipush 12, 2) := by decide +kernel
theorem dX3_notWhole_11 : decode cX3_notWhole 11 = .ok (.imul, 1) := by decide +kernel
theorem dX3_notWhole_12 : decode cX3_notWhole 12 = .ok (.if_icmp .ge 23, 3) := by decide +kernel
theorem dX3_notWhole_15 : decode cX3_notWhole 15 = .ok (.aload_n 0, 1) := by decide +kernel
theorem dX3_notWhole_16 : decode cX3_notWhole 16 = .ok (.getfield 20, 3) := by decide +kernel
theorem dX3_notWhole_19 : decode cX3_notWhole 19 = .ok (.iload_n 2, 1) := by decide +kernel
theorem dX3_notWhole_20 : decode cX3_notWhole 20 = .ok (.invokevirtual 27, 3) := by decide +kernel
theorem dX3_notWhole_23 : decode cX3_notWhole 23 = .ok (.ifCond .le 6, 3) := by decide +kernel
theorem dX3_notWhole_26 : decode cX3_notWhole 26 = .ok (.iinc 1 1, 3) := by decide +kernel
theorem dX3_notWhole_29 : decode cX3_notWhole 29 = .ok (.iinc 2 1, 3) := by decide +kernel
theorem dX3_notWhole_32 : decode cX3_notWhole 32 = .ok (.goto (-28), 3) := by decide +kernel
theorem dX3_notWhole_35 : decode cX3_notWhole 35 = .ok (.iload_n 1, 1) := by decide +kernel
theorem dX3_notWhole_36 : decode cX3_notWhole 36 = .ok (.ireturn, 1) := by decide +kernel
set_option maxRecDepth 20000 in
theorem ggX3_meantBits_X3_bitsFrom : GoodIn wsX3_meantBits wsX3_bitsFrom := goodIn_r _ [5, 6, 7, 8, 4, 9, 10, 11, 12, 13, 14, 15, 16, 32, 33, 34, 35] (by decide +kernel) (by decide +kernel)
set_option maxRecDepth 20000 in
theorem gX3_meantBits_X3_bitsFrom : GoodIn wsX3_meantBits (wsV RX3 43 RX3 yX3_bitsFrom wsX3_bitsFrom) := goodIn_app (goodIn_of _ (by decide +kernel)) ggX3_meantBits_X3_bitsFrom
set_option maxRecDepth 20000 in
theorem ggX3_meantBits_X3_meantElsewhere : GoodIn wsX3_meantBits wsX3_meantElsewhere := goodIn_r _ [20, 21, 22, 23, 4, 24, 1, 2, 3, 5, 6, 7, 8, 9, 10, 11, 12, 13, 14, 15, 16, 25, 26, 27, 28, 29, 30, 31, 32, 33, 34, 35] (by decide +kernel) (by decide +kernel)
set_option maxRecDepth 20000 in
theorem gX3_meantBits_X3_meantElsewhere : GoodIn wsX3_meantBits (wsV RX3 47 RX3 yX3_meantElsewhere wsX3_meantElsewhere) := goodIn_app (goodIn_of _ (by decide +kernel)) ggX3_meantBits_X3_meantElsewhere
theorem dX3_meantBits_0 : decode cX3_meantBits 0 = .ok (.aload_n 0, 1) := by decide +kernel
theorem dX3_meantBits_1 : decode cX3_meantBits 1 = .ok (.iload_n 1, 1) := by decide +kernel
theorem dX3_meantBits_2 : decode cX3_meantBits 2 = .ok (.iload_n 2, 1) := by decide +kernel
theorem dX3_meantBits_3 : decode cX3_meantBits 3 = .ok (.iconst 5, 1) := by decide +kernel
theorem dX3_meantBits_4 : decode cX3_meantBits 4 = .ok (.invokevirtual 43, 3) := by decide +kernel
theorem dX3_meantBits_7 : decode cX3_meantBits 7 = .ok (.istore_n 3, 1) := by decide +kernel
theorem dX3_meantBits_8 : decode cX3_meantBits 8 = .ok (.iload_n 3, 1) := by decide +kernel
theorem dX3_meantBits_9 : decode cX3_meantBits 9 = .ok (.ifCond .eq 5, 3) := by decide +kernel
theorem dX3_meantBits_12 : decode cX3_meantBits 12 = .ok (.iload_n 3, 1) := by decide +kernel
theorem dX3_meantBits_13 : decode cX3_meantBits 13 = .ok (.ireturn, 1) := by decide +kernel
theorem dX3_meantBits_14 : decode cX3_meantBits 14 = .ok (.aload_n 0, 1) := by decide +kernel
theorem dX3_meantBits_15 : decode cX3_meantBits 15 = .ok (.iload_n 1, 1) := by decide +kernel
theorem dX3_meantBits_16 : decode cX3_meantBits 16 = .ok (.iload_n 2, 1) := by decide +kernel
theorem dX3_meantBits_17 : decode cX3_meantBits 17 = .ok (.iconst 1, 1) := by decide +kernel
theorem dX3_meantBits_18 : decode cX3_meantBits 18 = .ok (.invokevirtual 43, 3) := by decide +kernel
theorem dX3_meantBits_21 : decode cX3_meantBits 21 = .ok (.istore 4, 2) := by decide +kernel
theorem dX3_meantBits_23 : decode cX3_meantBits 23 = .ok (.iload 4, 2) := by decide +kernel
theorem dX3_meantBits_25 : decode cX3_meantBits 25 = .ok (.ifCond .eq 8, 3) := by decide +kernel
theorem dX3_meantBits_28 : decode cX3_meantBits 28 = .ok (.iload 4, 2) := by decide +kernel
theorem dX3_meantBits_30 : decode cX3_meantBits 30 = .ok (.goto 9, 3) := by decide +kernel
theorem dX3_meantBits_33 : decode cX3_meantBits 33 = .ok (.aload_n 0, 1) := by decide +kernel
theorem dX3_meantBits_34 : decode cX3_meantBits 34 = .ok (.iload_n 1, 1) := by decide +kernel
theorem dX3_meantBits_35 : decode cX3_meantBits 35 = .ok (.iload_n 2, 1) := by decide +kernel
theorem dX3_meantBits_36 : decode cX3_meantBits 36 = .ok (.invokevirtual 47, 3) := by decide +kernel
theorem dX3_meantBits_39 : decode cX3_meantBits 39 = .ok (.ireturn, 1) := by decide +kernel
set_option maxRecDepth 20000 in
theorem ggX3_bitsFrom_X3_state : GoodIn wsX3_bitsFrom wsX3_state := goodIn_r _ [5, 6, 7, 8, 9, 10, 11, 12, 13, 14, 15, 16] (by decide +kernel) (by decide +kernel)
set_option maxRecDepth 20000 in
theorem gX3_bitsFrom_X3_state : GoodIn wsX3_bitsFrom (wsV RX3 50 RX3 yX3_state wsX3_state) := goodIn_app (goodIn_of _ (by decide +kernel)) ggX3_bitsFrom_X3_state
theorem dX3_bitsFrom_0 : decode cX3_bitsFrom 0 = .ok (.iconst 0, 1) := by decide +kernel
theorem dX3_bitsFrom_1 : decode cX3_bitsFrom 1 = .ok (.istore 4, 2) := by decide +kernel
theorem dX3_bitsFrom_3 : decode cX3_bitsFrom 3 = .ok (.iconst 0, 1) := by decide +kernel
theorem dX3_bitsFrom_4 : decode cX3_bitsFrom 4 = .ok (.istore 5, 2) := by decide +kernel
theorem dX3_bitsFrom_6 : decode cX3_bitsFrom 6 = .ok (.iload 5, 2) := by decide +kernel
theorem dX3_bitsFrom_8 : decode cX3_bitsFrom 8 = .ok (.iconst 4, 1) := by decide +kernel
theorem dX3_bitsFrom_9 : decode cX3_bitsFrom 9 = .ok (.if_icmp .ge 30, 3) := by decide +kernel
theorem dX3_bitsFrom_12 : decode cX3_bitsFrom 12 = .ok (.aload_n 0, 1) := by decide +kernel
theorem dX3_bitsFrom_13 : decode cX3_bitsFrom 13 = .ok (.iload_n 1, 1) := by decide +kernel
theorem dX3_bitsFrom_14 : decode cX3_bitsFrom 14 = .ok (.iload_n 2, 1) := by decide +kernel
theorem dX3_bitsFrom_15 : decode cX3_bitsFrom 15 = .ok (.iload 5, 2) := by decide +kernel
theorem dX3_bitsFrom_17 : decode cX3_bitsFrom 17 = .ok (.invokevirtual 50, 3) := by decide +kernel
theorem dX3_bitsFrom_20 : decode cX3_bitsFrom 20 = .ok (.iload_n 3, 1) := by decide +kernel
theorem dX3_bitsFrom_21 : decode cX3_bitsFrom 21 = .ok (.if_icmp .lt 12, 3) := by decide +kernel
theorem dX3_bitsFrom_24 : decode cX3_bitsFrom 24 = .ok (.iload 4, 2) := by decide +kernel
theorem dX3_bitsFrom_26 : decode cX3_bitsFrom 26 = .ok (.iconst 1, 1) := by decide +kernel
theorem dX3_bitsFrom_27 : decode cX3_bitsFrom 27 = .ok (.iload 5, 2) := by decide +kernel
theorem dX3_bitsFrom_29 : decode cX3_bitsFrom 29 = .ok (.ishl, 1) := by decide +kernel
theorem dX3_bitsFrom_30 : decode cX3_bitsFrom 30 = .ok (.ior, 1) := by decide +kernel
theorem dX3_bitsFrom_31 : decode cX3_bitsFrom 31 = .ok (.istore 4, 2) := by decide +kernel
theorem dX3_bitsFrom_33 : decode cX3_bitsFrom 33 = .ok (.iinc 5 1, 3) := by decide +kernel
theorem dX3_bitsFrom_36 : decode cX3_bitsFrom 36 = .ok (.goto (-30), 3) := by decide +kernel
theorem dX3_bitsFrom_39 : decode cX3_bitsFrom 39 = .ok (.iload 4, 2) := by decide +kernel
theorem dX3_bitsFrom_41 : decode cX3_bitsFrom 41 = .ok (.ireturn, 1) := by decide +kernel
set_option maxRecDepth 20000 in
theorem ggX3_meantElsewhere_X3_goneAlone : GoodIn wsX3_meantElsewhere wsX3_goneAlone := goodIn_r _ [5, 6, 7, 8, 4, 9, 10, 11, 12, 13, 14, 15, 16, 17, 18, 19, 20, 21, 22, 23, 24, 25, 26, 27, 28, 29, 30, 31] (by decide +kernel) (by decide +kernel)
set_option maxRecDepth 20000 in
theorem gX3_meantElsewhere_X3_goneAlone : GoodIn wsX3_meantElsewhere (wsV RX3 53 RX3 yX3_goneAlone wsX3_goneAlone) := goodIn_app (goodIn_of _ (by decide +kernel)) ggX3_meantElsewhere_X3_goneAlone
theorem dX3_meantElsewhere_0 : decode cX3_meantElsewhere 0 = .ok (.bipush 15, 2) := by decide +kernel
theorem dX3_meantElsewhere_2 : decode cX3_meantElsewhere 2 = .ok (.istore_n 3, 1) := by decide +kernel
theorem dX3_meantElsewhere_3 : decode cX3_meantElsewhere 3 = .ok (.iconst 0, 1) := by decide +kernel
theorem dX3_meantElsewhere_4 : decode cX3_meantElsewhere 4 = .ok (.istore 4, 2) := by decide +kernel
theorem dX3_meantElsewhere_6 : decode cX3_meantElsewhere 6 = .ok (.iload 4, 2) := by decide +kernel
theorem dX3_meantElsewhere_8 : decode cX3_meantElsewhere 8 = .ok (.iconst 3, 1) := by decide +kernel
theorem dX3_meantElsewhere_9 : decode cX3_meantElsewhere 9 = .ok (.if_icmp .ge 25, 3) := by decide +kernel
theorem dX3_meantElsewhere_12 : decode cX3_meantElsewhere 12 = .ok (.iload 4, 2) := by decide +kernel
theorem dX3_meantElsewhere_14 : decode cX3_meantElsewhere 14 = .ok (.iload_n 2, 1) := by decide +kernel
theorem dX3_meantElsewhere_15 : decode cX3_meantElsewhere 15 = .ok (.if_icmp .eq 13, 3) := by decide +kernel
theorem dX3_meantElsewhere_18 : decode cX3_meantElsewhere 18 = .ok (.iload_n 3, 1) := by decide +kernel
theorem dX3_meantElsewhere_19 : decode cX3_meantElsewhere 19 = .ok (.aload_n 0, 1) := by decide +kernel
theorem dX3_meantElsewhere_20 : decode cX3_meantElsewhere 20 = .ok (.iload_n 1, 1) := by decide +kernel
theorem dX3_meantElsewhere_21 : decode cX3_meantElsewhere 21 = .ok (.iload 4, 2) := by decide +kernel
theorem dX3_meantElsewhere_23 : decode cX3_meantElsewhere 23 = .ok (.invokevirtual 53, 3) := by decide +kernel
theorem dX3_meantElsewhere_26 : decode cX3_meantElsewhere 26 = .ok (.iand, 1) := by decide +kernel
theorem dX3_meantElsewhere_27 : decode cX3_meantElsewhere 27 = .ok (.istore_n 3, 1) := by decide +kernel
theorem dX3_meantElsewhere_28 : decode cX3_meantElsewhere 28 = .ok (.iinc 4 1, 3) := by decide +kernel
theorem dX3_meantElsewhere_31 : decode cX3_meantElsewhere 31 = .ok (.goto (-25), 3) := by decide +kernel
theorem dX3_meantElsewhere_34 : decode cX3_meantElsewhere 34 = .ok (.iload_n 3, 1) := by decide +kernel
theorem dX3_meantElsewhere_35 : decode cX3_meantElsewhere 35 = .ok (.ireturn, 1) := by decide +kernel
set_option maxRecDepth 20000 in
theorem ggX3_goneAlone_X3_bitsFrom : GoodIn wsX3_goneAlone wsX3_bitsFrom := goodIn_r _ [5, 6, 7, 8, 4, 9, 10, 11, 12, 13, 14, 15, 16, 24, 25, 26, 27] (by decide +kernel) (by decide +kernel)
set_option maxRecDepth 20000 in
theorem gX3_goneAlone_X3_bitsFrom : GoodIn wsX3_goneAlone (wsV RX3 43 RX3 yX3_bitsFrom wsX3_bitsFrom) := goodIn_app (goodIn_of _ (by decide +kernel)) ggX3_goneAlone_X3_bitsFrom
set_option maxRecDepth 20000 in
theorem ggX3_goneAlone_J6_bitCount_0f7a4 : GoodIn wsX3_goneAlone wsJ6_bitCount_0f7a4 := goodIn_r _ [20, 21, 22, 23] (by decide +kernel) (by decide +kernel)
set_option maxRecDepth 20000 in
theorem gX3_goneAlone_J6_bitCount_0f7a4 : GoodIn wsX3_goneAlone (va_wsS RX3 56 yJ6_bitCount_0f7a4 wsJ6_bitCount_0f7a4) := goodIn_app (goodIn_of _ (by decide +kernel)) ggX3_goneAlone_J6_bitCount_0f7a4
theorem dX3_goneAlone_0 : decode cX3_goneAlone 0 = .ok (.aload_n 0, 1) := by decide +kernel
theorem dX3_goneAlone_1 : decode cX3_goneAlone 1 = .ok (.iload_n 1, 1) := by decide +kernel
theorem dX3_goneAlone_2 : decode cX3_goneAlone 2 = .ok (.iload_n 2, 1) := by decide +kernel
theorem dX3_goneAlone_3 : decode cX3_goneAlone 3 = .ok (.iconst 5, 1) := by decide +kernel
theorem dX3_goneAlone_4 : decode cX3_goneAlone 4 = .ok (.invokevirtual 43, 3) := by decide +kernel
theorem dX3_goneAlone_7 : decode cX3_goneAlone 7 = .ok (.istore_n 3, 1) := by decide +kernel
theorem dX3_goneAlone_8 : decode cX3_goneAlone 8 = .ok (.iload_n 3, 1) := by decide +kernel
theorem dX3_goneAlone_9 : decode cX3_goneAlone 9 = .ok (.invokestatic 56, 3) := by decide +kernel
theorem dX3_goneAlone_12 : decode cX3_goneAlone 12 = .ok (.iconst 1, 1) := by decide +kernel
theorem dX3_goneAlone_13 : decode cX3_goneAlone 13 = .ok (.if_icmp .ne 18, 3) := by decide +kernel
theorem dX3_goneAlone_16 : decode cX3_goneAlone 16 = .ok (.aload_n 0, 1) := by decide +kernel
theorem dX3_goneAlone_17 : decode cX3_goneAlone 17 = .ok (.iload_n 1, 1) := by decide +kernel
theorem dX3_goneAlone_18 : decode cX3_goneAlone 18 = .ok (.iload_n 2, 1) := by decide +kernel
theorem dX3_goneAlone_19 : decode cX3_goneAlone 19 = .ok (.iconst 1, 1) := by decide +kernel
theorem dX3_goneAlone_20 : decode cX3_goneAlone 20 = .ok (.invokevirtual 43, 3) := by decide +kernel
theorem dX3_goneAlone_23 : decode cX3_goneAlone 23 = .ok (.iload_n 3, 1) := by decide +kernel
theorem dX3_goneAlone_24 : decode cX3_goneAlone 24 = .ok (.if_icmp .ne 7, 3) := by decide +kernel
theorem dX3_goneAlone_27 : decode cX3_goneAlone 27 = .ok (.iconst 1, 1) := by decide +kernel
theorem dX3_goneAlone_28 : decode cX3_goneAlone 28 = .ok (.goto 4, 3) := by decide +kernel
theorem dX3_goneAlone_31 : decode cX3_goneAlone 31 = .ok (.iconst 0, 1) := by decide +kernel
theorem dX3_goneAlone_32 : decode cX3_goneAlone 32 = .ok (.istore 4, 2) := by decide +kernel
theorem dX3_goneAlone_34 : decode cX3_goneAlone 34 = .ok (.iload 4, 2) := by decide +kernel
theorem dX3_goneAlone_36 : decode cX3_goneAlone 36 = .ok (.ifCond .eq 7, 3) := by decide +kernel
theorem dX3_goneAlone_39 : decode cX3_goneAlone 39 = .ok (.iload_n 3, 1) := by decide +kernel
theorem dX3_goneAlone_40 : decode cX3_goneAlone 40 = .ok (.goto 4, 3) := by decide +kernel
theorem dX3_goneAlone_43 : decode cX3_goneAlone 43 = .ok (.iconst 0, 1) := by decide +kernel
theorem dX3_goneAlone_44 : decode cX3_goneAlone 44 = .ok (.ireturn, 1) := by decide +kernel
set_option maxRecDepth 20000 in
theorem ggX3_copy_X6_copy : GoodIn wsX3_copy wsX6_copy := goodIn_r _ [8, 9, 10, 11, 12, 7, 13, 17] (by decide +kernel) (by decide +kernel)
set_option maxRecDepth 20000 in
theorem gX3_copy_X6_copy : GoodIn wsX3_copy (wsV RX3 61 RX6 yX6_copy wsX6_copy) := goodIn_app (goodIn_of _ (by decide +kernel)) ggX3_copy_X6_copy
theorem dX3_copy_0 : decode cX3_copy 0 = .ok (.aload_n 1, 1) := by decide +kernel
theorem dX3_copy_1 : decode cX3_copy 1 = .ok (.ifnonnull 4, 3) := by decide +kernel
theorem dX3_copy_4 : decode cX3_copy 4 = .ok (.return_, 1) := by decide +kernel
theorem dX3_copy_5 : decode cX3_copy 5 = .ok (.aload_n 0, 1) := by decide +kernel
theorem dX3_copy_6 : decode cX3_copy 6 = .ok (.getfield 14, 3) := by decide +kernel
theorem dX3_copy_9 : decode cX3_copy 9 = .ok (.aload_n 1, 1) := by decide +kernel
theorem dX3_copy_10 : decode cX3_copy 10 = .ok (.getfield 14, 3) := by decide +kernel
theorem dX3_copy_13 : decode cX3_copy 13 = .ok (.invokevirtual 61, 3) := by decide +kernel
theorem dX3_copy_16 : decode cX3_copy 16 = .ok (.aload_n 0, 1) := by decide +kernel
theorem dX3_copy_17 : decode cX3_copy 17 = .ok (.getfield 20, 3) := by decide +kernel
theorem dX3_copy_20 : decode cX3_copy 20 = .ok (.aload_n 1, 1) := by decide +kernel
theorem dX3_copy_21 : decode cX3_copy 21 = .ok (.getfield 20, 3) := by decide +kernel
theorem dX3_copy_24 : decode cX3_copy 24 = .ok (.invokevirtual 61, 3) := by decide +kernel
theorem dX3_copy_27 : decode cX3_copy 27 = .ok (.aload_n 0, 1) := by decide +kernel
theorem dX3_copy_28 : decode cX3_copy 28 = .ok (.aload_n 1, 1) := by decide +kernel
theorem dX3_copy_29 : decode cX3_copy 29 = .ok (.getfield 23, 3) := by decide +kernel
theorem dX3_copy_32 : decode cX3_copy 32 = .ok (.putfield 23, 3) := by decide +kernel
theorem dX3_copy_35 : decode cX3_copy 35 = .ok (.return_, 1) := by decide +kernel
