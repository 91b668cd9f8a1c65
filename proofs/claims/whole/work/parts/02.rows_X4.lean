set_option maxRecDepth 20000 in
theorem ggX4_init_X6_init : GoodIn wsX4_init wsX6_init := goodIn_r _ [11, 12, 2, 3, 13, 14, 15] (by decide +kernel) (by decide +kernel)
set_option maxRecDepth 20000 in
theorem gX4_init_X6_init : GoodIn wsX4_init (wsX6_init) := ggX4_init_X6_init
theorem dX4_init_0 : decode cX4_init 0 = .ok (.aload_n 0, 1) := by decide +kernel
theorem dX4_init_1 : decode cX4_init 1 = .ok (.invokespecial 3, 3) := by decide +kernel
theorem dX4_init_4 : decode cX4_init 4 = .ok (.aload_n 0, 1) := by decide +kernel
theorem dX4_init_5 : decode cX4_init 5 = .ok (.new 9, 3) := by decide +kernel
theorem dX4_init_8 : decode cX4_init 8 = .ok (.dup, 1) := by decide +kernel
theorem dX4_init_9 : decode cX4_init 9 = .ok (.iconst 5, 1) := by decide +kernel
theorem dX4_init_10 : decode cX4_init 10 = .ok (.invokespecial 11, 3) := by decide +kernel
theorem dX4_init_13 : decode cX4_init 13 = .ok (.putfield 14, 3) := by decide +kernel
theorem dX4_init_16 : decode cX4_init 16 = .ok (.aload_n 0, 1) := by decide +kernel
theorem dX4_init_17 : decode cX4_init 17 = .ok (.new 9, 3) := by decide +kernel
theorem dX4_init_20 : decode cX4_init 20 = .ok (.dup, 1) := by decide +kernel
theorem dX4_init_21 : decode cX4_init 21 = .ok (.iconst 5, 1) := by decide +kernel
theorem dX4_init_22 : decode cX4_init 22 = .ok (.invokespecial 11, 3) := by decide +kernel
theorem dX4_init_25 : decode cX4_init 25 = .ok (.putfield 20, 3) := by decide +kernel
theorem dX4_init_28 : decode cX4_init 28 = .ok (.return_, 1) := by decide +kernel
set_option maxRecDepth 20000 in
theorem ggX4_readIn_X1_valueIn : GoodIn wsX4_readIn wsX1_valueIn := goodIn_r _ [7, 8, 9, 10, 11, 6, 12, 13, 14, 15, 16, 17, 18, 19, 20, 21, 22, 23, 24, 25, 26, 27, 28, 29, 30, 31, 32, 33, 34, 41, 42, 43, 44, 45, 46, 47] (by decide +kernel) (by decide +kernel)
set_option maxRecDepth 20000 in
theorem gX4_readIn_X1_valueIn : GoodIn wsX4_readIn (wsV RX4 23 RX1 yX1_valueIn wsX1_valueIn) := goodIn_app (goodIn_of _ (by decide +kernel)) ggX4_readIn_X1_valueIn
set_option maxRecDepth 20000 in
theorem ggX4_readIn_X6_set : GoodIn wsX4_readIn wsX6_set := goodIn_r _ [38, 21, 47] (by decide +kernel) (by decide +kernel)
set_option maxRecDepth 20000 in
theorem gX4_readIn_X6_set : GoodIn wsX4_readIn (wsV RX4 29 RX6 yX6_set wsX6_set) := goodIn_app (goodIn_of _ (by decide +kernel)) ggX4_readIn_X6_set
theorem dX4_readIn_0 : decode cX4_readIn 0 = .ok (.aload_n 1, 1) := by decide +kernel
theorem dX4_readIn_1 : decode cX4_readIn 1 = .ok (.ifnonnull 4, 3) := by decide +kernel
theorem dX4_readIn_4 : decode cX4_readIn 4 = .ok (.return_, 1) := by decide +kernel
theorem dX4_readIn_5 : decode cX4_readIn 5 = .ok (.iconst 0, 1) := by decide +kernel
theorem dX4_readIn_6 : decode cX4_readIn 6 = .ok (.istore 4, 2) := by decide +kernel
theorem dX4_readIn_8 : decode cX4_readIn 8 = .ok (.iload 4, 2) := by decide +kernel
theorem dX4_readIn_10 : decode cX4_readIn 10 = .ok (.iconst 5, 1) := by decide +kernel
theorem dX4_readIn_11 : decode cX4_readIn 11 = .ok (.if_icmp .ge 59, 3) := by decide +kernel
theorem dX4_readIn_14 : decode cX4_readIn 14 = .ok (.aload_n 0, 1) := by decide +kernel
theorem dX4_readIn_15 : decode cX4_readIn 15 = .ok (.getfield 14, 3) := by decide +kernel
theorem dX4_readIn_18 : decode cX4_readIn 18 = .ok (.iload 4, 2) := by decide +kernel
theorem dX4_readIn_20 : decode cX4_readIn 20 = .ok (.aload_n 1, 1) := by decide +kernel
theorem dX4_readIn_21 : decode cX4_readIn 21 = .ok (.iload_n 3, 1) := by decide +kernel
theorem dX4_readIn_22 : decode cX4_readIn 22 = .ok (.ifCond .eq 7, 3) := by decide +kernel
theorem dX4_readIn_25 : decode cX4_readIn 25 = .ok (.iconst 2, 1) := by decide +kernel
theorem dX4_readIn_26 : decode cX4_readIn 26 = .ok (.goto 4, 3) := by decide +kernel
theorem dX4_readIn_29 : decode cX4_readIn 29 = .ok (.iconst 0, 1) := by decide +kernel
theorem dX4_readIn_30 : decode cX4_readIn 30 = .ok (.iload 4, 2) := by decide +kernel
theorem dX4_readIn_32 : decode cX4_readIn 32 = .ok (.iload_n 2, 1) := by decide +kernel
theorem dX4_readIn_33 : decode cX4_readIn 33 = .ok (.invokevirtual 23, 3) := by decide +kernel
theorem dX4_readIn_36 : decode cX4_readIn 36 = .ok (.invokevirtual 29, 3) := by decide +kernel
theorem dX4_readIn_39 : decode cX4_readIn 39 = .ok (.aload_n 0, 1) := by decide +kernel
theorem dX4_readIn_40 : decode cX4_readIn 40 = .ok (.getfield 20, 3) := by decide +kernel
theorem dX4_readIn_43 : decode cX4_readIn 43 = .ok (.iload 4, 2) := by decide +kernel
theorem dX4_readIn_45 : decode cX4_readIn 45 = .ok (.iload_n 3, 1) := by decide +kernel
theorem dX4_readIn_46 : decode cX4_readIn 46 = .ok (.ifCond .eq 7, 3) := by decide +kernel
theorem dX4_readIn_49 : decode cX4_readIn 49 = .ok (.iconst 0, 1) := by decide +kernel
theorem dX4_readIn_50 : decode cX4_readIn 50 = .ok (.goto 11, 3) := by decide +kernel
theorem dX4_readIn_53 : decode cX4_readIn 53 = .ok (.aload_n 1, 1) := by decide +kernel
theorem dX4_readIn_54 : decode cX4_readIn 54 = .ok (.iconst 1, 1) := by decide +kernel
theorem dX4_readIn_55 : decode cX4_readIn 55 = .ok (.iload 4, 2) := by decide +kernel
theorem dX4_readIn_57 : decode cX4_readIn 57 = .ok (.iload_n 2, 1) := by decide +kernel
theorem dX4_readIn_58 : decode cX4_readIn 58 = .ok (.invokevirtual 23, 3) := by decide +kernel
theorem dX4_readIn_61 : decode cX4_readIn 61 = .ok (.invokevirtual 29, 3) := by decide +kernel
theorem dX4_readIn_64 : decode cX4_readIn 64 = .ok (.iinc 4 1, 3) := by decide +kernel
theorem dX4_readIn_67 : decode cX4_readIn 67 = .ok (.goto (-59), 3) := by decide +kernel
theorem dX4_readIn_70 : decode cX4_readIn 70 = .ok (.return_, 1) := by decide +kernel
set_option maxRecDepth 20000 in
theorem ggX4_readBy_X6_fill : GoodIn wsX4_readBy wsX6_fill := goodIn_r _ [7, 8, 11] (by decide +kernel) (by decide +kernel)
set_option maxRecDepth 20000 in
theorem gX4_readBy_X6_fill : GoodIn wsX4_readBy (wsV RX4 33 RX6 yX6_fill wsX6_fill) := goodIn_app (goodIn_of _ (by decide +kernel)) ggX4_readBy_X6_fill
theorem dX4_readBy_0 : decode cX4_readBy 0 = .ok (.aload_n 0, 1) := by decide +kernel
theorem dX4_readBy_1 : decode cX4_readBy 1 = .ok (.getfield 14, 3) := by decide +kernel
theorem dX4_readBy_4 : decode cX4_readBy 4 = .ok (.iload_n 1, 1) := by decide +kernel
theorem dX4_readBy_5 : decode cX4_readBy 5 = .ok (.invokevirtual 33, 3) := by decide +kernel
theorem dX4_readBy_8 : decode cX4_readBy 8 = .ok (.aload_n 0, 1) := by decide +kernel
theorem dX4_readBy_9 : decode cX4_readBy 9 = .ok (.getfield 20, 3) := by decide +kernel
theorem dX4_readBy_12 : decode cX4_readBy 12 = .ok (.iconst 0, 1) := by decide +kernel
theorem dX4_readBy_13 : decode cX4_readBy 13 = .ok (.invokevirtual 33, 3) := by decide +kernel
theorem dX4_readBy_16 : decode cX4_readBy 16 = .ok (.return_, 1) := by decide +kernel
set_option maxRecDepth 20000 in
theorem ggX4_choiceOf_X3_countyOf : GoodIn wsX4_choiceOf wsX3_countyOf := goodIn_r _ [7, 8, 9, 10, 11, 12, 13, 14, 30, 31, 32, 33] (by decide +kernel) (by decide +kernel)
set_option maxRecDepth 20000 in
theorem gX4_choiceOf_X3_countyOf : GoodIn wsX4_choiceOf (wsV RX4 36 RX3 yX3_countyOf wsX3_countyOf) := goodIn_app (goodIn_of _ (by decide +kernel)) ggX4_choiceOf_X3_countyOf
set_option maxRecDepth 20000 in
theorem ggX4_choiceOf_X6_get : GoodIn wsX4_choiceOf wsX6_get := goodIn_r _ [13, 14, 33] (by decide +kernel) (by decide +kernel)
set_option maxRecDepth 20000 in
theorem gX4_choiceOf_X6_get : GoodIn wsX4_choiceOf (wsV RX4 42 RX6 yX6_get wsX6_get) := goodIn_app (goodIn_of _ (by decide +kernel)) ggX4_choiceOf_X6_get
set_option maxRecDepth 20000 in
theorem ggX4_choiceOf_X3_dimplesOf : GoodIn wsX4_choiceOf wsX3_dimplesOf := goodIn_r _ [19, 20, 9, 10, 11, 12, 13, 14, 30, 31, 32, 33] (by decide +kernel) (by decide +kernel)
set_option maxRecDepth 20000 in
theorem gX4_choiceOf_X3_dimplesOf : GoodIn wsX4_choiceOf (wsV RX4 45 RX3 yX3_dimplesOf wsX3_dimplesOf) := goodIn_app (goodIn_of _ (by decide +kernel)) ggX4_choiceOf_X3_dimplesOf
set_option maxRecDepth 20000 in
theorem ggX4_choiceOf_X3_state : GoodIn wsX4_choiceOf wsX3_state := goodIn_r _ [24, 20, 9, 10, 11, 12, 13, 14, 30, 31, 32, 33] (by decide +kernel) (by decide +kernel)
set_option maxRecDepth 20000 in
theorem gX4_choiceOf_X3_state : GoodIn wsX4_choiceOf (wsV RX4 48 RX3 yX3_state wsX3_state) := goodIn_app (goodIn_of _ (by decide +kernel)) ggX4_choiceOf_X3_state
set_option maxRecDepth 20000 in
theorem ggX4_choiceOf_X10_onlyBit : GoodIn wsX4_choiceOf wsX10_onlyBit := goodIn_r _ [27] (by decide +kernel) (by decide +kernel)
set_option maxRecDepth 20000 in
theorem gX4_choiceOf_X10_onlyBit_n51 : GoodIn wsX4_choiceOf (wsX10_onlyBit) := ggX4_choiceOf_X10_onlyBit
theorem dX4_choiceOf_0 : decode cX4_choiceOf 0 = .ok (.aload_n 1, 1) := by decide +kernel
theorem dX4_choiceOf_1 : decode cX4_choiceOf 1 = .ok (.ifnonnull 6, 3) := by decide +kernel
theorem dX4_choiceOf_4 : decode cX4_choiceOf 4 = .ok (.bipush (-4), 2) := by decide +kernel
theorem dX4_choiceOf_6 : decode cX4_choiceOf 6 = .ok (.ireturn, 1) := by decide +kernel
theorem dX4_choiceOf_7 : decode cX4_choiceOf 7 = .ok (.aload_n 1, 1) := by decide +kernel
theorem dX4_choiceOf_8 : decode cX4_choiceOf 8 = .ok (.iload_n 2, 1) := by decide +kernel
theorem dX4_choiceOf_9 : decode cX4_choiceOf 9 = .ok (.invokevirtual 36, 3) := by decide +kernel
theorem dX4_choiceOf_12 : decode cX4_choiceOf 12 = .ok (.istore 4, 2) := by decide +kernel
theorem dX4_choiceOf_14 : decode cX4_choiceOf 14 = .ok (.aload_n 0, 1) := by decide +kernel
theorem dX4_choiceOf_15 : decode cX4_choiceOf 15 = .ok (.getfield 20, 3) := by decide +kernel
theorem dX4_choiceOf_18 : decode cX4_choiceOf 18 = .ok (.iload 4, 2) := by decide +kernel
theorem dX4_choiceOf_20 : decode cX4_choiceOf 20 = .ok (.invokevirtual 42, 3) := by decide +kernel
theorem dX4_choiceOf_23 : decode cX4_choiceOf 23 = .ok (.istore 5, 2) := by decide +kernel
theorem dX4_choiceOf_25 : decode cX4_choiceOf 25 = .ok (.iload 5, 2) := by decide +kernel
theorem dX4_choiceOf_27 : decode cX4_choiceOf 27 = .ok (.ifCond .le 17, 3) := by decide +kernel
theorem dX4_choiceOf_30 : decode cX4_choiceOf 30 = .ok (.aload_n 1, 1) := by decide +kernel
theorem dX4_choiceOf_31 : decode cX4_choiceOf 31 = .ok (.iload_n 2, 1) := by decide +kernel
theorem dX4_choiceOf_32 : decode cX4_choiceOf 32 = .ok (.invokevirtual 45, 3) := by decide +kernel
theorem dX4_choiceOf_35 : decode cX4_choiceOf 35 = .ok (.iload 5, 2) := by decide +kernel
theorem dX4_choiceOf_37 : decode cX4_choiceOf 37 = .ok (.if_icmp .lt 7, 3) := by decide +kernel
theorem dX4_choiceOf_40 : decode cX4_choiceOf 40 = .ok (.iconst 1, 1) := by decide +kernel
theorem dX4_choiceOf_41 : decode cX4_choiceOf 41 = .ok (.goto 4, 3) := by decide +kernel
theorem dX4_choiceOf_44 : decode cX4_choiceOf 44 = .ok (.iconst 0, 1) := by decide +kernel
theorem dX4_choiceOf_45 : decode cX4_choiceOf 45 = .ok (.istore 6, 2) := by decide +kernel
theorem dX4_choiceOf_47 : decode cX4_choiceOf 47 = .ok (.iconst 0, 1) := by decide +kernel
theorem dX4_choiceOf_48 : decode cX4_choiceOf 48 = .ok (.istore 7, 2) := by decide +kernel
theorem dX4_choiceOf_50 : decode cX4_choiceOf 50 = .ok (.iconst 0, 1) := by decide +kernel
theorem dX4_choiceOf_51 : decode cX4_choiceOf 51 = .ok (.istore 8, 2) := by decide +kernel
theorem dX4_choiceOf_53 : decode cX4_choiceOf 53 = .ok (.iload 8, 2) := by decide +kernel
theorem dX4_choiceOf_55 : decode cX4_choiceOf 55 = .ok (.iconst 4, 1) := by decide +kernel
theorem dX4_choiceOf_56 : decode cX4_choiceOf 56 = .ok (.if_icmp .ge 53, 3) := by decide +kernel
theorem dX4_choiceOf_59 : decode cX4_choiceOf 59 = .ok (.aload_n 1, 1) := by decide +kernel
theorem dX4_choiceOf_60 : decode cX4_choiceOf 60 = .ok (.iload_n 2, 1) := by decide +kernel
theorem dX4_choiceOf_61 : decode cX4_choiceOf 61 = .ok (.iload_n 3, 1) := by decide +kernel
theorem dX4_choiceOf_62 : decode cX4_choiceOf 62 = .ok (.iload 8, 2) := by decide +kernel
theorem dX4_choiceOf_64 : decode cX4_choiceOf 64 = .ok (.invokevirtual 48, 3) := by decide +kernel
theorem dX4_choiceOf_67 : decode cX4_choiceOf 67 = .ok (.istore 9, 2) := by decide +kernel
theorem dX4_choiceOf_69 : decode cX4_choiceOf 69 = .ok (.iload 9, 2) := by decide +kernel
theorem dX4_choiceOf_71 : decode cX4_choiceOf 71 = .ok (.aload_n 0, 1) := by decide +kernel
theorem dX4_choiceOf_72 : decode cX4_choiceOf 72 = .ok (.getfield 14, 3) := by decide +kernel
theorem dX4_choiceOf_75 : decode cX4_choiceOf 75 = .ok (.iload 4, 2) := by decide +kernel
theorem dX4_choiceOf_77 : decode cX4_choiceOf 77 = .ok (.invokevirtual 42, 3) := by decide +kernel
theorem dX4_choiceOf_80 : decode cX4_choiceOf 80 = .ok (.if_icmp .ge 14, 3) := by decide +kernel
theorem dX4_choiceOf_83 : decode cX4_choiceOf 83 = .ok (.iload 6, 2) := by decide +kernel
theorem dX4_choiceOf_85 : decode cX4_choiceOf 85 = .ok (.ifCond .eq 18, 3) := by decide +kernel
theorem dX4_choiceOf_88 : decode cX4_choiceOf 88 = .ok (.iload 9, 2) := by decide +kernel
theorem dX4_choiceOf_90 : decode cX4_choiceOf 90 = .ok (.iconst 1, 1) := by decide +kernel
theorem dX4_choiceOf_91 : decode cX4_choiceOf 91 = .ok (.if_icmp .ne 12, 3) := by decide +kernel
theorem dX4_choiceOf_94 : decode cX4_choiceOf 94 = .ok (.iload 7, 2) := by decide +kernel
theorem dX4_choiceOf_96 : decode cX4_choiceOf 96 = .ok (.iconst 1, 1) := by decide +kernel
theorem dX4_choiceOf_97 : decode cX4_choiceOf 97 = .ok (.iload 8, 2) := by decide +kernel
theorem dX4_choiceOf_99 : decode cX4_choiceOf 99 = .ok (.ishl, 1) := by decide +kernel
theorem dX4_choiceOf_100 : decode cX4_choiceOf 100 = .ok (.ior, 1) := by decide +kernel
theorem dX4_choiceOf_101 : decode cX4_choiceOf 101 = .ok (.istore 7, 2) := by decide +kernel
theorem dX4_choiceOf_103 : decode cX4_choiceOf 103 = .ok (.iinc 8 1, 3) := by decide +kernel
theorem dX4_choiceOf_106 : decode cX4_choiceOf 106 = .ok (.goto (-53), 3) := by decide +kernel
theorem dX4_choiceOf_109 : decode cX4_choiceOf 109 = .ok (.iload 7, 2) := by decide +kernel
theorem dX4_choiceOf_111 : decode cX4_choiceOf 111 = .ok (.invokestatic 51, 3) := by decide +kernel
theorem dX4_choiceOf_114 : decode cX4_choiceOf 114 = .ok (.ireturn, 1) := by decide +kernel
