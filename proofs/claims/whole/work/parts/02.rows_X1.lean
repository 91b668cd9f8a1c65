set_option maxRecDepth 20000 in
theorem ggX1_init_X6_init : GoodIn wsX1_init wsX6_init := goodIn_r _ [15, 16, 2, 3, 17, 18, 19] (by decide +kernel) (by decide +kernel)
set_option maxRecDepth 20000 in
theorem gX1_init_X6_init : GoodIn wsX1_init (wsX6_init) := ggX1_init_X6_init
theorem dX1_init_0 : decode cX1_init 0 = .ok (.aload_n 0, 1) := by decide +kernel
theorem dX1_init_1 : decode cX1_init 1 = .ok (.invokespecial 3, 3) := by decide +kernel
theorem dX1_init_4 : decode cX1_init 4 = .ok (.aload_n 0, 1) := by decide +kernel
theorem dX1_init_5 : decode cX1_init 5 = .ok (.new 9, 3) := by decide +kernel
theorem dX1_init_8 : decode cX1_init 8 = .ok (.dup, 1) := by decide +kernel
theorem dX1_init_9 : decode cX1_init 9 = .ok (.bipush 40, 2) := by decide +kernel
theorem dX1_init_11 : decode cX1_init 11 = .ok (.invokespecial 11, 3) := by decide +kernel
theorem dX1_init_14 : decode cX1_init 14 = .ok (.putfield 14, 3) := by decide +kernel
theorem dX1_init_17 : decode cX1_init 17 = .ok (.aload_n 0, 1) := by decide +kernel
theorem dX1_init_18 : decode cX1_init 18 = .ok (.new 9, 3) := by decide +kernel
theorem dX1_init_21 : decode cX1_init 21 = .ok (.dup, 1) := by decide +kernel
theorem dX1_init_22 : decode cX1_init 22 = .ok (.bipush 40, 2) := by decide +kernel
theorem dX1_init_24 : decode cX1_init 24 = .ok (.invokespecial 11, 3) := by decide +kernel
theorem dX1_init_27 : decode cX1_init 27 = .ok (.putfield 20, 3) := by decide +kernel
theorem dX1_init_30 : decode cX1_init 30 = .ok (.aload_n 0, 1) := by decide +kernel
theorem dX1_init_31 : decode cX1_init 31 = .ok (.new 9, 3) := by decide +kernel
theorem dX1_init_34 : decode cX1_init 34 = .ok (.dup, 1) := by decide +kernel
theorem dX1_init_35 : decode cX1_init 35 = .ok (.bipush 40, 2) := by decide +kernel
theorem dX1_init_37 : decode cX1_init 37 = .ok (.invokespecial 11, 3) := by decide +kernel
theorem dX1_init_40 : decode cX1_init 40 = .ok (.putfield 23, 3) := by decide +kernel
theorem dX1_init_43 : decode cX1_init 43 = .ok (.aload_n 0, 1) := by decide +kernel
theorem dX1_init_44 : decode cX1_init 44 = .ok (.new 9, 3) := by decide +kernel
theorem dX1_init_47 : decode cX1_init 47 = .ok (.dup, 1) := by decide +kernel
theorem dX1_init_48 : decode cX1_init 48 = .ok (.bipush 40, 2) := by decide +kernel
theorem dX1_init_50 : decode cX1_init 50 = .ok (.invokespecial 11, 3) := by decide +kernel
theorem dX1_init_53 : decode cX1_init 53 = .ok (.putfield 26, 3) := by decide +kernel
theorem dX1_init_56 : decode cX1_init 56 = .ok (.aload_n 0, 1) := by decide +kernel
theorem dX1_init_57 : decode cX1_init 57 = .ok (.new 9, 3) := by decide +kernel
theorem dX1_init_60 : decode cX1_init 60 = .ok (.dup, 1) := by decide +kernel
theorem dX1_init_61 : decode cX1_init 61 = .ok (.bipush 40, 2) := by decide +kernel
theorem dX1_init_63 : decode cX1_init 63 = .ok (.invokespecial 11, 3) := by decide +kernel
theorem dX1_init_66 : decode cX1_init 66 = .ok (.putfield 29, 3) := by decide +kernel
theorem dX1_init_69 : decode cX1_init 69 = .ok (.aload_n 0, 1) := by decide +kernel
theorem dX1_init_70 : decode cX1_init 70 = .ok (.iconst 0, 1) := by decide +kernel
theorem dX1_init_71 : decode cX1_init 71 = .ok (.putfield 32, 3) := by decide +kernel
theorem dX1_init_74 : decode cX1_init 74 = .ok (.return_, 1) := by decide +kernel
theorem dX1_size_0 : decode cX1_size 0 = .ok (.aload_n 0, 1) := by decide +kernel
theorem dX1_size_1 : decode cX1_size 1 = .ok (.getfield 32, 3) := by decide +kernel
theorem dX1_size_4 : decode cX1_size 4 = .ok (.ireturn, 1) := by decide +kernel
set_option maxRecDepth 20000 in
theorem ggX1_take_X9_length : GoodIn wsX1_take wsX9_length := goodIn_r _ [6, 7, 110, 111, 112, 113, 114, 115, 116, 117, 118] (by decide +kernel) (by decide +kernel)
set_option maxRecDepth 20000 in
theorem gX1_take_X9_length : GoodIn wsX1_take (wsV RX1 36 RX9 yX9_length wsX9_length) := goodIn_app (goodIn_of _ (by decide +kernel)) ggX1_take_X9_length
set_option maxRecDepth 20000 in
theorem ggX1_take_X9_read : GoodIn wsX1_take wsX9_read := goodIn_r _ [11, 12, 13, 14, 15, 16, 5, 17, 7, 18, 19, 20, 21, 22, 23, 24, 25, 26, 27, 28, 29, 30, 31, 32, 33, 34, 35, 36, 37, 38, 39, 40, 41, 42, 43, 44, 45, 46, 47, 48, 49, 50, 51, 52, 53, 54, 55, 56, 57, 58, 59, 60, 61, 62, 63, 64, 65, 66, 67, 68, 110, 111, 112, 113, 114, 115, 116, 117, 118, 119] (by decide +kernel) (by decide +kernel)
set_option maxRecDepth 20000 in
theorem gX1_take_X9_read : GoodIn wsX1_take (wsV RX1 42 RX9 yX9_read wsX9_read) := goodIn_app (goodIn_of _ (by decide +kernel)) ggX1_take_X9_read
set_option maxRecDepth 20000 in
theorem ggX1_take_X1_add : GoodIn wsX1_take wsX1_add := goodIn_r _ [73, 74, 1, 75, 76, 77, 78, 79, 80, 81, 5, 82, 12, 83, 40, 41, 22, 42, 24, 84, 85, 86, 87, 47, 88, 89, 90, 91, 48, 92, 93, 94, 95, 49, 96, 97, 98, 99, 50, 104, 105, 106, 107, 108, 109, 110, 111, 112, 113, 114, 115, 116, 117, 118, 119] (by decide +kernel) (by decide +kernel)
set_option maxRecDepth 20000 in
theorem gX1_take_X1_add : GoodIn wsX1_take (wsV RX1 46 RX1 yX1_add wsX1_add) := goodIn_app (goodIn_of _ (by decide +kernel)) ggX1_take_X1_add
set_option maxRecDepth 20000 in
theorem ggX1_take_X9_behind : GoodIn wsX1_take wsX9_behind := goodIn_r _ [103, 13, 110, 111, 112, 113, 114, 115, 116, 117, 118] (by decide +kernel) (by decide +kernel)
set_option maxRecDepth 20000 in
theorem gX1_take_X9_behind : GoodIn wsX1_take (wsV RX1 50 RX9 yX9_behind wsX9_behind) := goodIn_app (goodIn_of _ (by decide +kernel)) ggX1_take_X9_behind
theorem dX1_take_0 : decode cX1_take 0 = .ok (.aload_n 1, 1) := by decide +kernel
theorem dX1_take_1 : decode cX1_take 1 = .ok (.ifnonnull 4, 3) := by decide +kernel
theorem dX1_take_4 : decode cX1_take 4 = .ok (.return_, 1) := by decide +kernel
theorem dX1_take_5 : decode cX1_take 5 = .ok (.aload_n 0, 1) := by decide +kernel
theorem dX1_take_6 : decode cX1_take 6 = .ok (.iconst 0, 1) := by decide +kernel
theorem dX1_take_7 : decode cX1_take 7 = .ok (.putfield 32, 3) := by decide +kernel
theorem dX1_take_10 : decode cX1_take 10 = .ok (.iconst 0, 1) := by decide +kernel
theorem dX1_take_11 : decode cX1_take 11 = .ok (.istore_n 2, 1) := by decide +kernel
theorem dX1_take_12 : decode cX1_take 12 = .ok (.iconst 0, 1) := by decide +kernel
theorem dX1_take_13 : decode cX1_take 13 = .ok (.istore_n 3, 1) := by decide +kernel
theorem dX1_take_14 : decode cX1_take 14 = .ok (.iload_n 3, 1) := by decide +kernel
theorem dX1_take_15 : decode cX1_take 15 = .ok (.bipush 40, 2) := by decide +kernel
theorem dX1_take_17 : decode cX1_take 17 = .ok (.if_icmp .ge 36, 3) := by decide +kernel
theorem dX1_take_20 : decode cX1_take 20 = .ok (.iload_n 2, 1) := by decide +kernel
theorem dX1_take_21 : decode cX1_take 21 = .ok (.aload_n 1, 1) := by decide +kernel
theorem dX1_take_22 : decode cX1_take 22 = .ok (.invokevirtual 36, 3) := by decide +kernel
theorem dX1_take_25 : decode cX1_take 25 = .ok (.if_icmp .ge 28, 3) := by decide +kernel
theorem dX1_take_28 : decode cX1_take 28 = .ok (.aload_n 1, 1) := by decide +kernel
theorem dX1_take_29 : decode cX1_take 29 = .ok (.iload_n 2, 1) := by decide +kernel
theorem dX1_take_30 : decode cX1_take 30 = .ok (.invokevirtual 42, 3) := by decide +kernel
theorem dX1_take_33 : decode cX1_take 33 = .ok (.ifCond .ne 4, 3) := by decide +kernel
theorem dX1_take_36 : decode cX1_take 36 = .ok (.return_, 1) := by decide +kernel
theorem dX1_take_37 : decode cX1_take 37 = .ok (.aload_n 0, 1) := by decide +kernel
theorem dX1_take_38 : decode cX1_take 38 = .ok (.aload_n 1, 1) := by decide +kernel
theorem dX1_take_39 : decode cX1_take 39 = .ok (.invokevirtual 46, 3) := by decide +kernel
theorem dX1_take_42 : decode cX1_take 42 = .ok (.aload_n 1, 1) := by decide +kernel
theorem dX1_take_43 : decode cX1_take 43 = .ok (.invokevirtual 50, 3) := by decide +kernel
theorem dX1_take_46 : decode cX1_take 46 = .ok (.istore_n 2, 1) := by decide +kernel
theorem dX1_take_47 : decode cX1_take 47 = .ok (.iinc 3 1, 3) := by decide +kernel
theorem dX1_take_50 : decode cX1_take 50 = .ok (.goto (-36), 3) := by decide +kernel
theorem dX1_take_53 : decode cX1_take 53 = .ok (.return_, 1) := by decide +kernel
set_option maxRecDepth 20000 in
theorem ggX1_add_X9_kind : GoodIn wsX1_add wsX9_kind := goodIn_r _ [11, 12, 45, 46, 47, 48, 49, 50, 51, 52, 53] (by decide +kernel) (by decide +kernel)
set_option maxRecDepth 20000 in
theorem gX1_add_X9_kind : GoodIn wsX1_add (wsV RX1 53 RX9 yX9_kind wsX9_kind) := goodIn_app (goodIn_of _ (by decide +kernel)) ggX1_add_X9_kind
set_option maxRecDepth 20000 in
theorem ggX1_add_X6_set : GoodIn wsX1_add wsX6_set := goodIn_r _ [17, 18, 54] (by decide +kernel) (by decide +kernel)
set_option maxRecDepth 20000 in
theorem gX1_add_X6_set : GoodIn wsX1_add (wsV RX1 56 RX6 yX6_set wsX6_set) := goodIn_app (goodIn_of _ (by decide +kernel)) ggX1_add_X6_set
set_option maxRecDepth 20000 in
theorem ggX1_add_X9_county : GoodIn wsX1_add wsX9_county := goodIn_r _ [22, 23, 45, 46, 47, 48, 49, 50, 51, 52, 53] (by decide +kernel) (by decide +kernel)
set_option maxRecDepth 20000 in
theorem gX1_add_X9_county : GoodIn wsX1_add (wsV RX1 60 RX9 yX9_county wsX9_county) := goodIn_app (goodIn_of _ (by decide +kernel)) ggX1_add_X9_county
set_option maxRecDepth 20000 in
theorem ggX1_add_X9_rank : GoodIn wsX1_add wsX9_rank := goodIn_r _ [27, 28, 45, 46, 47, 48, 49, 50, 51, 52, 53] (by decide +kernel) (by decide +kernel)
set_option maxRecDepth 20000 in
theorem gX1_add_X9_rank : GoodIn wsX1_add (wsV RX1 63 RX9 yX9_rank wsX9_rank) := goodIn_app (goodIn_of _ (by decide +kernel)) ggX1_add_X9_rank
set_option maxRecDepth 20000 in
theorem ggX1_add_X9_value : GoodIn wsX1_add wsX9_value := goodIn_r _ [32, 33, 45, 46, 47, 48, 49, 50, 51, 52, 53] (by decide +kernel) (by decide +kernel)
set_option maxRecDepth 20000 in
theorem gX1_add_X9_value : GoodIn wsX1_add (wsV RX1 66 RX9 yX9_value wsX9_value) := goodIn_app (goodIn_of _ (by decide +kernel)) ggX1_add_X9_value
set_option maxRecDepth 20000 in
theorem ggX1_add_X9_hour : GoodIn wsX1_add wsX9_hour := goodIn_r _ [37, 38, 45, 46, 47, 48, 49, 50, 51, 52, 53] (by decide +kernel) (by decide +kernel)
set_option maxRecDepth 20000 in
theorem gX1_add_X9_hour : GoodIn wsX1_add (wsV RX1 69 RX9 yX9_hour wsX9_hour) := goodIn_app (goodIn_of _ (by decide +kernel)) ggX1_add_X9_hour
theorem dX1_add_0 : decode cX1_add 0 = .ok (.aload_n 0, 1) := by decide +kernel
theorem dX1_add_1 : decode cX1_add 1 = .ok (.getfield 14, 3) := by decide +kernel
theorem dX1_add_4 : decode cX1_add 4 = .ok (.aload_n 0, 1) := by decide +kernel
theorem dX1_add_5 : decode cX1_add 5 = .ok (.getfield 32, 3) := by decide +kernel
theorem dX1_add_8 : decode cX1_add 8 = .ok (.aload_n 1, 1) := by decide +kernel
theorem dX1_add_9 : decode cX1_add 9 = .ok (.invokevirtual 53, 3) := by decide +kernel
theorem dX1_add_12 : decode cX1_add 12 = .ok (.invokevirtual 56, 3) := by decide +kernel
theorem dX1_add_15 : decode cX1_add 15 = .ok (.aload_n 0, 1) := by decide +kernel
theorem dX1_add_16 : decode cX1_add 16 = .ok (.getfield 20, 3) := by decide +kernel
theorem dX1_add_19 : decode cX1_add 19 = .ok (.aload_n 0, 1) := by decide +kernel
theorem dX1_add_20 : decode cX1_add 20 = .ok (.getfield 32, 3) := by decide +kernel
theorem dX1_add_23 : decode cX1_add 23 = .ok (.aload_n 1, 1) := by decide +kernel
theorem dX1_add_24 : decode cX1_add 24 = .ok (.invokevirtual 60, 3) := by decide +kernel
theorem dX1_add_27 : decode cX1_add 27 = .ok (.invokevirtual 56, 3) := by decide +kernel
theorem dX1_add_30 : decode cX1_add 30 = .ok (.aload_n 0, 1) := by decide +kernel
theorem dX1_add_31 : decode cX1_add 31 = .ok (.getfield 23, 3) := by decide +kernel
theorem dX1_add_34 : decode cX1_add 34 = .ok (.aload_n 0, 1) := by decide +kernel
theorem dX1_add_35 : decode cX1_add 35 = .ok (.getfield 32, 3) := by decide +kernel
theorem dX1_add_38 : decode cX1_add 38 = .ok (.aload_n 1, 1) := by decide +kernel
theorem dX1_add_39 : decode cX1_add 39 = .ok (.invokevirtual 63, 3) := by decide +kernel
theorem dX1_add_42 : decode cX1_add 42 = .ok (.invokevirtual 56, 3) := by decide +kernel
theorem dX1_add_45 : decode cX1_add 45 = .ok (.aload_n 0, 1) := by decide +kernel
theorem dX1_add_46 : decode cX1_add 46 = .ok (.getfield 26, 3) := by decide +kernel
theorem dX1_add_49 : decode cX1_add 49 = .ok (.aload_n 0, 1) := by decide +kernel
theorem dX1_add_50 : decode cX1_add 50 = .ok (.getfield 32, 3) := by decide +kernel
theorem dX1_add_53 : decode cX1_add 53 = .ok (.aload_n 1, 1) := by decide +kernel
theorem dX1_add_54 : decode cX1_add 54 = .ok (.invokevirtual 66, 3) := by decide +kernel
theorem dX1_add_57 : decode cX1_add 57 = .ok (.invokevirtual 56, 3) := by decide +kernel
theorem dX1_add_60 : decode cX1_add 60 = .ok (.aload_n 0, 1) := by decide +kernel
theorem dX1_add_61 : decode cX1_add 61 = .ok (.getfield 29, 3) := by decide +kernel
theorem dX1_add_64 : decode cX1_add 64 = .ok (.aload_n 0, 1) := by decide +kernel
theorem dX1_add_65 : decode cX1_add 65 = .ok (.getfield 32, 3) := by decide +kernel
theorem dX1_add_68 : decode cX1_add 68 = .ok (.aload_n 1, 1) := by decide +kernel
theorem dX1_add_69 : decode cX1_add 69 = .ok (.invokevirtual 69, 3) := by decide +kernel
theorem dX1_add_72 : decode cX1_add 72 = .ok (.invokevirtual 56, 3) := by decide +kernel
theorem dX1_add_75 : decode cX1_add 75 = .ok (.aload_n 0, 1) := by decide +kernel
theorem dX1_add_76 : decode cX1_add 76 = .ok (.dup, 1) := by decide +kernel
theorem dX1_add_77 : decode cX1_add 77 = .ok (.getfield 32, 3) := by decide +kernel
theorem dX1_add_80 : decode cX1_add 80 = .ok (.iconst 1, 1) := by decide +kernel
theorem dX1_add_81 : decode cX1_add 81 = .ok (.iadd, 1) := by decide +kernel
theorem dX1_add_82 : decode cX1_add 82 = .ok (.putfield 32, 3) := by decide +kernel
theorem dX1_add_85 : decode cX1_add 85 = .ok (.return_, 1) := by decide +kernel
set_option maxRecDepth 20000 in
theorem ggX1_valueIn_X1_holding : GoodIn wsX1_valueIn wsX1_holding := goodIn_r _ [6, 7, 8, 9, 10, 11, 12, 13, 14, 15, 16, 17, 18, 5, 19, 20, 21, 22, 23, 24, 25, 29, 30, 31, 32, 33, 34, 35] (by decide +kernel) (by decide +kernel)
set_option maxRecDepth 20000 in
theorem gX1_valueIn_X1_holding : GoodIn wsX1_valueIn (wsV RX1 72 RX1 yX1_holding wsX1_holding) := goodIn_app (goodIn_of _ (by decide +kernel)) ggX1_valueIn_X1_holding
set_option maxRecDepth 20000 in
theorem ggX1_valueIn_X1_without : GoodIn wsX1_valueIn wsX1_without := goodIn_r _ [28] (by decide +kernel) (by decide +kernel)
set_option maxRecDepth 20000 in
theorem gX1_valueIn_X1_without : GoodIn wsX1_valueIn (va_wsS RX1 76 yX1_without wsX1_without) := goodIn_app (goodIn_of _ (by decide +kernel)) ggX1_valueIn_X1_without
set_option maxRecDepth 20000 in
theorem ggX1_valueIn_X6_get : GoodIn wsX1_valueIn wsX6_get := goodIn_r _ [14, 15, 35] (by decide +kernel) (by decide +kernel)
set_option maxRecDepth 20000 in
theorem gX1_valueIn_X6_get : GoodIn wsX1_valueIn (wsV RX1 80 RX6 yX6_get wsX6_get) := goodIn_app (goodIn_of _ (by decide +kernel)) ggX1_valueIn_X6_get
theorem dX1_valueIn_0 : decode cX1_valueIn 0 = .ok (.aload_n 0, 1) := by decide +kernel
theorem dX1_valueIn_1 : decode cX1_valueIn 1 = .ok (.iload_n 1, 1) := by decide +kernel
theorem dX1_valueIn_2 : decode cX1_valueIn 2 = .ok (.iload_n 2, 1) := by decide +kernel
theorem dX1_valueIn_3 : decode cX1_valueIn 3 = .ok (.iload_n 3, 1) := by decide +kernel
theorem dX1_valueIn_4 : decode cX1_valueIn 4 = .ok (.invokevirtual 72, 3) := by decide +kernel
theorem dX1_valueIn_7 : decode cX1_valueIn 7 = .ok (.istore 4, 2) := by decide +kernel
theorem dX1_valueIn_9 : decode cX1_valueIn 9 = .ok (.iload 4, 2) := by decide +kernel
theorem dX1_valueIn_11 : decode cX1_valueIn 11 = .ok (.bipush (-4), 2) := by decide +kernel
theorem dX1_valueIn_13 : decode cX1_valueIn 13 = .ok (.if_icmp .ne 10, 3) := by decide +kernel
theorem dX1_valueIn_16 : decode cX1_valueIn 16 = .ok (.iload_n 1, 1) := by decide +kernel
theorem dX1_valueIn_17 : decode cX1_valueIn 17 = .ok (.invokestatic 76, 3) := by decide +kernel
theorem dX1_valueIn_20 : decode cX1_valueIn 20 = .ok (.goto 12, 3) := by decide +kernel
theorem dX1_valueIn_23 : decode cX1_valueIn 23 = .ok (.aload_n 0, 1) := by decide +kernel
theorem dX1_valueIn_24 : decode cX1_valueIn 24 = .ok (.getfield 26, 3) := by decide +kernel
theorem dX1_valueIn_27 : decode cX1_valueIn 27 = .ok (.iload 4, 2) := by decide +kernel
theorem dX1_valueIn_29 : decode cX1_valueIn 29 = .ok (.invokevirtual 80, 3) := by decide +kernel
theorem dX1_valueIn_32 : decode cX1_valueIn 32 = .ok (.ireturn, 1) := by decide +kernel
theorem dX1_without_0 : decode cX1_without 0 = .ok (.iload_n 0, 1) := by decide +kernel
theorem dX1_without_1 : decode cX1_without 1 = .ok (.tableswitch 33 0 2 #[27, 29, 31], 27) := by decide +kernel
theorem dX1_without_28 : decode cX1_without 28 = .ok (.iconst 5, 1) := by decide +kernel
theorem dX1_without_29 : decode cX1_without 29 = .ok (.ireturn, 1) := by decide +kernel
theorem dX1_without_30 : decode cX1_without 30 = .ok (.iconst 0, 1) := by decide +kernel
theorem dX1_without_31 : decode cX1_without 31 = .ok (.ireturn, 1) := by decide +kernel
theorem dX1_without_32 : decode cX1_without 32 = .ok (.iconst 4, 1) := by decide +kernel
theorem dX1_without_33 : decode cX1_without 33 = .ok (.ireturn, 1) := by decide +kernel
theorem dX1_without_34 : decode cX1_without 34 = .ok (.iconst 1, 1) := by decide +kernel
theorem dX1_without_35 : decode cX1_without 35 = .ok (.ireturn, 1) := by decide +kernel
set_option maxRecDepth 20000 in
theorem ggX1_holding_X6_get : GoodIn wsX1_holding wsX6_get := goodIn_r _ [8, 9, 27] (by decide +kernel) (by decide +kernel)
set_option maxRecDepth 20000 in
theorem gX1_holding_X6_get : GoodIn wsX1_holding (wsV RX1 80 RX6 yX6_get wsX6_get) := goodIn_app (goodIn_of _ (by decide +kernel)) ggX1_holding_X6_get
set_option maxRecDepth 20000 in
theorem ggX1_holding_X1_isFor : GoodIn wsX1_holding wsX1_isFor := goodIn_r _ [14, 15, 4, 5, 6, 7, 8, 9, 21, 22, 23, 24, 25, 26, 27] (by decide +kernel) (by decide +kernel)
set_option maxRecDepth 20000 in
theorem gX1_holding_X1_isFor : GoodIn wsX1_holding (wsV RX1 83 RX1 yX1_isFor wsX1_isFor) := goodIn_app (goodIn_of _ (by decide +kernel)) ggX1_holding_X1_isFor
set_option maxRecDepth 20000 in
theorem ggX1_holding_X1_yields : GoodIn wsX1_holding wsX1_yields := goodIn_r _ [19, 2, 20, 3, 4, 5, 6, 7, 8, 9, 21, 22, 23, 24, 25, 26, 27] (by decide +kernel) (by decide +kernel)
set_option maxRecDepth 20000 in
theorem gX1_holding_X1_yields : GoodIn wsX1_holding (wsV RX1 87 RX1 yX1_yields wsX1_yields) := goodIn_app (goodIn_of _ (by decide +kernel)) ggX1_holding_X1_yields
theorem dX1_holding_0 : decode cX1_holding 0 = .ok (.bipush (-4), 2) := by decide +kernel
theorem dX1_holding_2 : decode cX1_holding 2 = .ok (.istore 4, 2) := by decide +kernel
theorem dX1_holding_4 : decode cX1_holding 4 = .ok (.iconst 0, 1) := by decide +kernel
theorem dX1_holding_5 : decode cX1_holding 5 = .ok (.istore 5, 2) := by decide +kernel
theorem dX1_holding_7 : decode cX1_holding 7 = .ok (.iload 5, 2) := by decide +kernel
theorem dX1_holding_9 : decode cX1_holding 9 = .ok (.aload_n 0, 1) := by decide +kernel
theorem dX1_holding_10 : decode cX1_holding 10 = .ok (.getfield 32, 3) := by decide +kernel
theorem dX1_holding_13 : decode cX1_holding 13 = .ok (.if_icmp .ge 79, 3) := by decide +kernel
theorem dX1_holding_16 : decode cX1_holding 16 = .ok (.aload_n 0, 1) := by decide +kernel
theorem dX1_holding_17 : decode cX1_holding 17 = .ok (.getfield 14, 3) := by decide +kernel
theorem dX1_holding_20 : decode cX1_holding 20 = .ok (.iload 5, 2) := by decide +kernel
theorem dX1_holding_22 : decode cX1_holding 22 = .ok (.invokevirtual 80, 3) := by decide +kernel
theorem dX1_holding_25 : decode cX1_holding 25 = .ok (.iload_n 1, 1) := by decide +kernel
theorem dX1_holding_26 : decode cX1_holding 26 = .ok (.if_icmp .ne 30, 3) := by decide +kernel
theorem dX1_holding_29 : decode cX1_holding 29 = .ok (.aload_n 0, 1) := by decide +kernel
theorem dX1_holding_30 : decode cX1_holding 30 = .ok (.iload 5, 2) := by decide +kernel
theorem dX1_holding_32 : decode cX1_holding 32 = .ok (.iload_n 2, 1) := by decide +kernel
theorem dX1_holding_33 : decode cX1_holding 33 = .ok (.invokevirtual 83, 3) := by decide +kernel
theorem dX1_holding_36 : decode cX1_holding 36 = .ok (.ifCond .eq 20, 3) := by decide +kernel
theorem dX1_holding_39 : decode cX1_holding 39 = .ok (.aload_n 0, 1) := by decide +kernel
theorem dX1_holding_40 : decode cX1_holding 40 = .ok (.getfield 29, 3) := by decide +kernel
theorem dX1_holding_43 : decode cX1_holding 43 = .ok (.iload 5, 2) := by decide +kernel
theorem dX1_holding_45 : decode cX1_holding 45 = .ok (.invokevirtual 80, 3) := by decide +kernel
theorem dX1_holding_48 : decode cX1_holding 48 = .ok (.iload_n 3, 1) := by decide +kernel
theorem dX1_holding_49 : decode cX1_holding 49 = .ok (.if_icmp .gt 7, 3) := by decide +kernel
theorem dX1_holding_52 : decode cX1_holding 52 = .ok (.iconst 1, 1) := by decide +kernel
theorem dX1_holding_53 : decode cX1_holding 53 = .ok (.goto 4, 3) := by decide +kernel
theorem dX1_holding_56 : decode cX1_holding 56 = .ok (.iconst 0, 1) := by decide +kernel
theorem dX1_holding_57 : decode cX1_holding 57 = .ok (.istore 6, 2) := by decide +kernel
theorem dX1_holding_59 : decode cX1_holding 59 = .ok (.iload 6, 2) := by decide +kernel
theorem dX1_holding_61 : decode cX1_holding 61 = .ok (.ifCond .eq 25, 3) := by decide +kernel
theorem dX1_holding_64 : decode cX1_holding 64 = .ok (.iload 4, 2) := by decide +kernel
theorem dX1_holding_66 : decode cX1_holding 66 = .ok (.bipush (-4), 2) := by decide +kernel
theorem dX1_holding_68 : decode cX1_holding 68 = .ok (.if_icmp .eq 14, 3) := by decide +kernel
theorem dX1_holding_71 : decode cX1_holding 71 = .ok (.aload_n 0, 1) := by decide +kernel
theorem dX1_holding_72 : decode cX1_holding 72 = .ok (.iload 5, 2) := by decide +kernel
theorem dX1_holding_74 : decode cX1_holding 74 = .ok (.iload 4, 2) := by decide +kernel
theorem dX1_holding_76 : decode cX1_holding 76 = .ok (.invokevirtual 87, 3) := by decide +kernel
theorem dX1_holding_79 : decode cX1_holding 79 = .ok (.ifCond .ne 7, 3) := by decide +kernel
theorem dX1_holding_82 : decode cX1_holding 82 = .ok (.iload 5, 2) := by decide +kernel
theorem dX1_holding_84 : decode cX1_holding 84 = .ok (.istore 4, 2) := by decide +kernel
theorem dX1_holding_86 : decode cX1_holding 86 = .ok (.iinc 5 1, 3) := by decide +kernel
theorem dX1_holding_89 : decode cX1_holding 89 = .ok (.goto (-82), 3) := by decide +kernel
theorem dX1_holding_92 : decode cX1_holding 92 = .ok (.iload 4, 2) := by decide +kernel
theorem dX1_holding_94 : decode cX1_holding 94 = .ok (.ireturn, 1) := by decide +kernel
set_option maxRecDepth 20000 in
theorem ggX1_isFor_X6_get : GoodIn wsX1_isFor wsX6_get := goodIn_r _ [6, 7, 14] (by decide +kernel) (by decide +kernel)
set_option maxRecDepth 20000 in
theorem gX1_isFor_X6_get : GoodIn wsX1_isFor (wsV RX1 80 RX6 yX6_get wsX6_get) := goodIn_app (goodIn_of _ (by decide +kernel)) ggX1_isFor_X6_get
theorem dX1_isFor_0 : decode cX1_isFor 0 = .ok (.aload_n 0, 1) := by decide +kernel
theorem dX1_isFor_1 : decode cX1_isFor 1 = .ok (.getfield 20, 3) := by decide +kernel
theorem dX1_isFor_4 : decode cX1_isFor 4 = .ok (.iload_n 1, 1) := by decide +kernel
theorem dX1_isFor_5 : decode cX1_isFor 5 = .ok (.invokevirtual 80, 3) := by decide +kernel
theorem dX1_isFor_8 : decode cX1_isFor 8 = .ok (.iconst 5, 1) := by decide +kernel
theorem dX1_isFor_9 : decode cX1_isFor 9 = .ok (.if_icmp .eq 15, 3) := by decide +kernel
theorem dX1_isFor_12 : decode cX1_isFor 12 = .ok (.aload_n 0, 1) := by decide +kernel
theorem dX1_isFor_13 : decode cX1_isFor 13 = .ok (.getfield 20, 3) := by decide +kernel
theorem dX1_isFor_16 : decode cX1_isFor 16 = .ok (.iload_n 1, 1) := by decide +kernel
theorem dX1_isFor_17 : decode cX1_isFor 17 = .ok (.invokevirtual 80, 3) := by decide +kernel
theorem dX1_isFor_20 : decode cX1_isFor 20 = .ok (.iload_n 2, 1) := by decide +kernel
theorem dX1_isFor_21 : decode cX1_isFor 21 = .ok (.if_icmp .ne 7, 3) := by decide +kernel
theorem dX1_isFor_24 : decode cX1_isFor 24 = .ok (.iconst 1, 1) := by decide +kernel
theorem dX1_isFor_25 : decode cX1_isFor 25 = .ok (.goto 4, 3) := by decide +kernel
theorem dX1_isFor_28 : decode cX1_isFor 28 = .ok (.iconst 0, 1) := by decide +kernel
theorem dX1_isFor_29 : decode cX1_isFor 29 = .ok (.ireturn, 1) := by decide +kernel
set_option maxRecDepth 20000 in
theorem ggX1_yields_X6_get : GoodIn wsX1_yields wsX6_get := goodIn_r _ [8, 9, 16] (by decide +kernel) (by decide +kernel)
set_option maxRecDepth 20000 in
theorem gX1_yields_X6_get : GoodIn wsX1_yields (wsV RX1 80 RX6 yX6_get wsX6_get) := goodIn_app (goodIn_of _ (by decide +kernel)) ggX1_yields_X6_get
theorem dX1_yields_0 : decode cX1_yields 0 = .ok (.aload_n 0, 1) := by decide +kernel
theorem dX1_yields_1 : decode cX1_yields 1 = .ok (.getfield 14, 3) := by decide +kernel
theorem dX1_yields_4 : decode cX1_yields 4 = .ok (.iload_n 1, 1) := by decide +kernel
theorem dX1_yields_5 : decode cX1_yields 5 = .ok (.invokevirtual 80, 3) := by decide +kernel
theorem dX1_yields_8 : decode cX1_yields 8 = .ok (.iconst 3, 1) := by decide +kernel
theorem dX1_yields_9 : decode cX1_yields 9 = .ok (.if_icmp .eq 5, 3) := by decide +kernel
theorem dX1_yields_12 : decode cX1_yields 12 = .ok (.iconst 0, 1) := by decide +kernel
theorem dX1_yields_13 : decode cX1_yields 13 = .ok (.ireturn, 1) := by decide +kernel
theorem dX1_yields_14 : decode cX1_yields 14 = .ok (.aload_n 0, 1) := by decide +kernel
theorem dX1_yields_15 : decode cX1_yields 15 = .ok (.getfield 23, 3) := by decide +kernel
theorem dX1_yields_18 : decode cX1_yields 18 = .ok (.iload_n 1, 1) := by decide +kernel
theorem dX1_yields_19 : decode cX1_yields 19 = .ok (.invokevirtual 80, 3) := by decide +kernel
theorem dX1_yields_22 : decode cX1_yields 22 = .ok (.aload_n 0, 1) := by decide +kernel
theorem dX1_yields_23 : decode cX1_yields 23 = .ok (.getfield 23, 3) := by decide +kernel
theorem dX1_yields_26 : decode cX1_yields 26 = .ok (.iload_n 2, 1) := by decide +kernel
theorem dX1_yields_27 : decode cX1_yields 27 = .ok (.invokevirtual 80, 3) := by decide +kernel
theorem dX1_yields_30 : decode cX1_yields 30 = .ok (.if_icmp .eq 28, 3) := by decide +kernel
theorem dX1_yields_33 : decode cX1_yields 33 = .ok (.aload_n 0, 1) := by decide +kernel
theorem dX1_yields_34 : decode cX1_yields 34 = .ok (.getfield 23, 3) := by decide +kernel
theorem dX1_yields_37 : decode cX1_yields 37 = .ok (.iload_n 1, 1) := by decide +kernel
theorem dX1_yields_38 : decode cX1_yields 38 = .ok (.invokevirtual 80, 3) := by decide +kernel
theorem dX1_yields_41 : decode cX1_yields 41 = .ok (.aload_n 0, 1) := by decide +kernel
theorem dX1_yields_42 : decode cX1_yields 42 = .ok (.getfield 23, 3) := by decide +kernel
theorem dX1_yields_45 : decode cX1_yields 45 = .ok (.iload_n 2, 1) := by decide +kernel
theorem dX1_yields_46 : decode cX1_yields 46 = .ok (.invokevirtual 80, 3) := by decide +kernel
theorem dX1_yields_49 : decode cX1_yields 49 = .ok (.if_icmp .ge 7, 3) := by decide +kernel
theorem dX1_yields_52 : decode cX1_yields 52 = .ok (.iconst 1, 1) := by decide +kernel
theorem dX1_yields_53 : decode cX1_yields 53 = .ok (.goto 4, 3) := by decide +kernel
theorem dX1_yields_56 : decode cX1_yields 56 = .ok (.iconst 0, 1) := by decide +kernel
theorem dX1_yields_57 : decode cX1_yields 57 = .ok (.ireturn, 1) := by decide +kernel
theorem dX1_yields_58 : decode cX1_yields 58 = .ok (.aload_n 0, 1) := by decide +kernel
theorem dX1_yields_59 : decode cX1_yields 59 = .ok (.getfield 29, 3) := by decide +kernel
theorem dX1_yields_62 : decode cX1_yields 62 = .ok (.iload_n 1, 1) := by decide +kernel
theorem dX1_yields_63 : decode cX1_yields 63 = .ok (.invokevirtual 80, 3) := by decide +kernel
theorem dX1_yields_66 : decode cX1_yields 66 = .ok (.aload_n 0, 1) := by decide +kernel
theorem dX1_yields_67 : decode cX1_yields 67 = .ok (.getfield 29, 3) := by decide +kernel
theorem dX1_yields_70 : decode cX1_yields 70 = .ok (.iload_n 2, 1) := by decide +kernel
theorem dX1_yields_71 : decode cX1_yields 71 = .ok (.invokevirtual 80, 3) := by decide +kernel
theorem dX1_yields_74 : decode cX1_yields 74 = .ok (.if_icmp .ge 7, 3) := by decide +kernel
theorem dX1_yields_77 : decode cX1_yields 77 = .ok (.iconst 1, 1) := by decide +kernel
theorem dX1_yields_78 : decode cX1_yields 78 = .ok (.goto 4, 3) := by decide +kernel
theorem dX1_yields_81 : decode cX1_yields 81 = .ok (.iconst 0, 1) := by decide +kernel
theorem dX1_yields_82 : decode cX1_yields 82 = .ok (.ireturn, 1) := by decide +kernel
set_option maxRecDepth 20000 in
theorem ggX1_firstClash_X1_areUnlike : GoodIn wsX1_firstClash wsX1_areUnlike := goodIn_r _ [6, 7, 8, 9, 10, 11, 12, 13, 14, 15, 16, 17, 18, 19, 20, 5, 21, 22, 23, 24, 25, 26, 27, 28] (by decide +kernel) (by decide +kernel)
set_option maxRecDepth 20000 in
theorem gX1_firstClash_X1_areUnlike : GoodIn wsX1_firstClash (wsV RX1 90 RX1 yX1_areUnlike wsX1_areUnlike) := goodIn_app (goodIn_of _ (by decide +kernel)) ggX1_firstClash_X1_areUnlike
theorem dX1_firstClash_0 : decode cX1_firstClash 0 = .ok (.iconst 0, 1) := by decide +kernel
theorem dX1_firstClash_1 : decode cX1_firstClash 1 = .ok (.istore_n 1, 1) := by decide +kernel
theorem dX1_firstClash_2 : decode cX1_firstClash 2 = .ok (.iload_n 1, 1) := by decide +kernel
theorem dX1_firstClash_3 : decode cX1_firstClash 3 = .ok (.aload_n 0, 1) := by decide +kernel
theorem dX1_firstClash_4 : decode cX1_firstClash 4 = .ok (.getfield 32, 3) := by decide +kernel
theorem dX1_firstClash_7 : decode cX1_firstClash 7 = .ok (.if_icmp .ge 43, 3) := by decide +kernel
theorem dX1_firstClash_10 : decode cX1_firstClash 10 = .ok (.iload_n 1, 1) := by decide +kernel
theorem dX1_firstClash_11 : decode cX1_firstClash 11 = .ok (.iconst 1, 1) := by decide +kernel
theorem dX1_firstClash_12 : decode cX1_firstClash 12 = .ok (.iadd, 1) := by decide +kernel
theorem dX1_firstClash_13 : decode cX1_firstClash 13 = .ok (.istore_n 2, 1) := by decide +kernel
theorem dX1_firstClash_14 : decode cX1_firstClash 14 = .ok (.iload_n 2, 1) := by decide +kernel
theorem dX1_firstClash_15 : decode cX1_firstClash 15 = .ok (.aload_n 0, 1) := by decide +kernel
theorem dX1_firstClash_16 : decode cX1_firstClash 16 = .ok (.getfield 32, 3) := by decide +kernel
theorem dX1_firstClash_19 : decode cX1_firstClash 19 = .ok (.if_icmp .ge 25, 3) := by decide +kernel
theorem dX1_firstClash_22 : decode cX1_firstClash 22 = .ok (.aload_n 0, 1) := by decide +kernel
theorem dX1_firstClash_23 : decode cX1_firstClash 23 = .ok (.iload_n 1, 1) := by decide +kernel
theorem dX1_firstClash_24 : decode cX1_firstClash 24 = .ok (.iload_n 2, 1) := by decide +kernel
theorem dX1_firstClash_25 : decode cX1_firstClash 25 = .ok (.invokevirtual 90, 3) := by decide +kernel
theorem dX1_firstClash_28 : decode cX1_firstClash 28 = .ok (.ifCond .eq 10, 3) := by decide +kernel
theorem dX1_firstClash_31 : decode cX1_firstClash 31 = .ok (.bipush 100, 2) := by decide +kernel
theorem dX1_firstClash_33 : decode cX1_firstClash 33 = .ok (.iload_n 1, 1) := by decide +kernel
theorem dX1_firstClash_34 : decode cX1_firstClash 34 = .ok (.imul, 1) := by decide +kernel
theorem dX1_firstClash_35 : decode cX1_firstClash 35 = .ok (.iload_n 2, 1) := by decide +kernel
theorem dX1_firstClash_36 : decode cX1_firstClash 36 = .ok (.iadd, 1) := by decide +kernel
theorem dX1_firstClash_37 : decode cX1_firstClash 37 = .ok (.ireturn, 1) := by decide +kernel
theorem dX1_firstClash_38 : decode cX1_firstClash 38 = .ok (.iinc 2 1, 3) := by decide +kernel
theorem dX1_firstClash_41 : decode cX1_firstClash 41 = .ok (.goto (-27), 3) := by decide +kernel
theorem dX1_firstClash_44 : decode cX1_firstClash 44 = .ok (.iinc 1 1, 3) := by decide +kernel
theorem dX1_firstClash_47 : decode cX1_firstClash 47 = .ok (.goto (-45), 3) := by decide +kernel
theorem dX1_firstClash_50 : decode cX1_firstClash 50 = .ok (.bipush (-4), 2) := by decide +kernel
theorem dX1_firstClash_52 : decode cX1_firstClash 52 = .ok (.ireturn, 1) := by decide +kernel
set_option maxRecDepth 20000 in
theorem ggX1_areUnlike_X6_get : GoodIn wsX1_areUnlike wsX6_get := goodIn_r _ [10, 11, 23] (by decide +kernel) (by decide +kernel)
set_option maxRecDepth 20000 in
theorem gX1_areUnlike_X6_get : GoodIn wsX1_areUnlike (wsV RX1 80 RX6 yX6_get wsX6_get) := goodIn_app (goodIn_of _ (by decide +kernel)) ggX1_areUnlike_X6_get
set_option maxRecDepth 20000 in
theorem ggX1_areUnlike_X1_isFor : GoodIn wsX1_areUnlike wsX1_isFor := goodIn_r _ [16, 5, 6, 7, 8, 9, 10, 11, 17, 18, 19, 20, 21, 22, 23] (by decide +kernel) (by decide +kernel)
set_option maxRecDepth 20000 in
theorem gX1_areUnlike_X1_isFor : GoodIn wsX1_areUnlike (wsV RX1 83 RX1 yX1_isFor wsX1_isFor) := goodIn_app (goodIn_of _ (by decide +kernel)) ggX1_areUnlike_X1_isFor
theorem dX1_areUnlike_0 : decode cX1_areUnlike 0 = .ok (.aload_n 0, 1) := by decide +kernel
theorem dX1_areUnlike_1 : decode cX1_areUnlike 1 = .ok (.getfield 14, 3) := by decide +kernel
theorem dX1_areUnlike_4 : decode cX1_areUnlike 4 = .ok (.iload_n 1, 1) := by decide +kernel
theorem dX1_areUnlike_5 : decode cX1_areUnlike 5 = .ok (.invokevirtual 80, 3) := by decide +kernel
theorem dX1_areUnlike_8 : decode cX1_areUnlike 8 = .ok (.iconst 3, 1) := by decide +kernel
theorem dX1_areUnlike_9 : decode cX1_areUnlike 9 = .ok (.if_icmp .ne 104, 3) := by decide +kernel
theorem dX1_areUnlike_12 : decode cX1_areUnlike 12 = .ok (.aload_n 0, 1) := by decide +kernel
theorem dX1_areUnlike_13 : decode cX1_areUnlike 13 = .ok (.getfield 14, 3) := by decide +kernel
theorem dX1_areUnlike_16 : decode cX1_areUnlike 16 = .ok (.iload_n 2, 1) := by decide +kernel
theorem dX1_areUnlike_17 : decode cX1_areUnlike 17 = .ok (.invokevirtual 80, 3) := by decide +kernel
theorem dX1_areUnlike_20 : decode cX1_areUnlike 20 = .ok (.iconst 3, 1) := by decide +kernel
theorem dX1_areUnlike_21 : decode cX1_areUnlike 21 = .ok (.if_icmp .ne 92, 3) := by decide +kernel
theorem dX1_areUnlike_24 : decode cX1_areUnlike 24 = .ok (.aload_n 0, 1) := by decide +kernel
theorem dX1_areUnlike_25 : decode cX1_areUnlike 25 = .ok (.getfield 23, 3) := by decide +kernel
theorem dX1_areUnlike_28 : decode cX1_areUnlike 28 = .ok (.iload_n 1, 1) := by decide +kernel
theorem dX1_areUnlike_29 : decode cX1_areUnlike 29 = .ok (.invokevirtual 80, 3) := by decide +kernel
theorem dX1_areUnlike_32 : decode cX1_areUnlike 32 = .ok (.aload_n 0, 1) := by decide +kernel
theorem dX1_areUnlike_33 : decode cX1_areUnlike 33 = .ok (.getfield 23, 3) := by decide +kernel
theorem dX1_areUnlike_36 : decode cX1_areUnlike 36 = .ok (.iload_n 2, 1) := by decide +kernel
theorem dX1_areUnlike_37 : decode cX1_areUnlike 37 = .ok (.invokevirtual 80, 3) := by decide +kernel
theorem dX1_areUnlike_40 : decode cX1_areUnlike 40 = .ok (.if_icmp .ne 73, 3) := by decide +kernel
theorem dX1_areUnlike_43 : decode cX1_areUnlike 43 = .ok (.aload_n 0, 1) := by decide +kernel
theorem dX1_areUnlike_44 : decode cX1_areUnlike 44 = .ok (.getfield 29, 3) := by decide +kernel
theorem dX1_areUnlike_47 : decode cX1_areUnlike 47 = .ok (.iload_n 1, 1) := by decide +kernel
theorem dX1_areUnlike_48 : decode cX1_areUnlike 48 = .ok (.invokevirtual 80, 3) := by decide +kernel
theorem dX1_areUnlike_51 : decode cX1_areUnlike 51 = .ok (.aload_n 0, 1) := by decide +kernel
theorem dX1_areUnlike_52 : decode cX1_areUnlike 52 = .ok (.getfield 29, 3) := by decide +kernel
theorem dX1_areUnlike_55 : decode cX1_areUnlike 55 = .ok (.iload_n 2, 1) := by decide +kernel
theorem dX1_areUnlike_56 : decode cX1_areUnlike 56 = .ok (.invokevirtual 80, 3) := by decide +kernel
theorem dX1_areUnlike_59 : decode cX1_areUnlike 59 = .ok (.if_icmp .ne 54, 3) := by decide +kernel
theorem dX1_areUnlike_62 : decode cX1_areUnlike 62 = .ok (.aload_n 0, 1) := by decide +kernel
theorem dX1_areUnlike_63 : decode cX1_areUnlike 63 = .ok (.getfield 26, 3) := by decide +kernel
theorem dX1_areUnlike_66 : decode cX1_areUnlike 66 = .ok (.iload_n 1, 1) := by decide +kernel
theorem dX1_areUnlike_67 : decode cX1_areUnlike 67 = .ok (.invokevirtual 80, 3) := by decide +kernel
theorem dX1_areUnlike_70 : decode cX1_areUnlike 70 = .ok (.aload_n 0, 1) := by decide +kernel
theorem dX1_areUnlike_71 : decode cX1_areUnlike 71 = .ok (.getfield 26, 3) := by decide +kernel
theorem dX1_areUnlike_74 : decode cX1_areUnlike 74 = .ok (.iload_n 2, 1) := by decide +kernel
theorem dX1_areUnlike_75 : decode cX1_areUnlike 75 = .ok (.invokevirtual 80, 3) := by decide +kernel
theorem dX1_areUnlike_78 : decode cX1_areUnlike 78 = .ok (.if_icmp .eq 35, 3) := by decide +kernel
theorem dX1_areUnlike_81 : decode cX1_areUnlike 81 = .ok (.aload_n 0, 1) := by decide +kernel
theorem dX1_areUnlike_82 : decode cX1_areUnlike 82 = .ok (.iload_n 1, 1) := by decide +kernel
theorem dX1_areUnlike_83 : decode cX1_areUnlike 83 = .ok (.aload_n 0, 1) := by decide +kernel
theorem dX1_areUnlike_84 : decode cX1_areUnlike 84 = .ok (.getfield 20, 3) := by decide +kernel
theorem dX1_areUnlike_87 : decode cX1_areUnlike 87 = .ok (.iload_n 2, 1) := by decide +kernel
theorem dX1_areUnlike_88 : decode cX1_areUnlike 88 = .ok (.invokevirtual 80, 3) := by decide +kernel
theorem dX1_areUnlike_91 : decode cX1_areUnlike 91 = .ok (.invokevirtual 83, 3) := by decide +kernel
theorem dX1_areUnlike_94 : decode cX1_areUnlike 94 = .ok (.ifCond .ne 15, 3) := by decide +kernel
theorem dX1_areUnlike_97 : decode cX1_areUnlike 97 = .ok (.aload_n 0, 1) := by decide +kernel
theorem dX1_areUnlike_98 : decode cX1_areUnlike 98 = .ok (.getfield 20, 3) := by decide +kernel
theorem dX1_areUnlike_101 : decode cX1_areUnlike 101 = .ok (.iload_n 2, 1) := by decide +kernel
theorem dX1_areUnlike_102 : decode cX1_areUnlike 102 = .ok (.invokevirtual 80, 3) := by decide +kernel
theorem dX1_areUnlike_105 : decode cX1_areUnlike 105 = .ok (.iconst 5, 1) := by decide +kernel
theorem dX1_areUnlike_106 : decode cX1_areUnlike 106 = .ok (.if_icmp .ne 7, 3) := by decide +kernel
theorem dX1_areUnlike_109 : decode cX1_areUnlike 109 = .ok (.iconst 1, 1) := by decide +kernel
theorem dX1_areUnlike_110 : decode cX1_areUnlike 110 = .ok (.goto 4, 3) := by decide +kernel
theorem dX1_areUnlike_113 : decode cX1_areUnlike 113 = .ok (.iconst 0, 1) := by decide +kernel
theorem dX1_areUnlike_114 : decode cX1_areUnlike 114 = .ok (.ireturn, 1) := by decide +kernel
set_option maxRecDepth 20000 in
theorem ggX1_closedIn_X1_valueIn : GoodIn wsX1_closedIn wsX1_valueIn := goodIn_r _ [5, 6, 7, 8, 9, 4, 10, 11, 12, 13, 14, 15, 16, 17, 18, 19, 20, 21, 22, 23, 24, 25, 26, 27, 28, 29, 30, 31, 32, 33, 34, 35, 36, 37, 38, 39] (by decide +kernel) (by decide +kernel)
set_option maxRecDepth 20000 in
theorem gX1_closedIn_X1_valueIn : GoodIn wsX1_closedIn (wsV RX1 93 RX1 yX1_valueIn wsX1_valueIn) := goodIn_app (goodIn_of _ (by decide +kernel)) ggX1_closedIn_X1_valueIn
theorem dX1_closedIn_0 : decode cX1_closedIn 0 = .ok (.iconst 0, 1) := by decide +kernel
theorem dX1_closedIn_1 : decode cX1_closedIn 1 = .ok (.istore_n 2, 1) := by decide +kernel
theorem dX1_closedIn_2 : decode cX1_closedIn 2 = .ok (.iconst 0, 1) := by decide +kernel
theorem dX1_closedIn_3 : decode cX1_closedIn 3 = .ok (.istore_n 3, 1) := by decide +kernel
theorem dX1_closedIn_4 : decode cX1_closedIn 4 = .ok (.iload_n 3, 1) := by decide +kernel
theorem dX1_closedIn_5 : decode cX1_closedIn 5 = .ok (.iconst 5, 1) := by decide +kernel
theorem dX1_closedIn_6 : decode cX1_closedIn 6 = .ok (.if_icmp .ge 25, 3) := by decide +kernel
theorem dX1_closedIn_9 : decode cX1_closedIn 9 = .ok (.aload_n 0, 1) := by decide +kernel
theorem dX1_closedIn_10 : decode cX1_closedIn 10 = .ok (.iconst 3, 1) := by decide +kernel
theorem dX1_closedIn_11 : decode cX1_closedIn 11 = .ok (.iload_n 3, 1) := by decide +kernel
theorem dX1_closedIn_12 : decode cX1_closedIn 12 = .ok (.iload_n 1, 1) := by decide +kernel
theorem dX1_closedIn_13 : decode cX1_closedIn 13 = .ok (.invokevirtual 93, 3) := by decide +kernel
theorem dX1_closedIn_16 : decode cX1_closedIn 16 = .ok (.ifCond .ne 9, 3) := by decide +kernel
theorem dX1_closedIn_19 : decode cX1_closedIn 19 = .ok (.iload_n 2, 1) := by decide +kernel
theorem dX1_closedIn_20 : decode cX1_closedIn 20 = .ok (.iconst 1, 1) := by decide +kernel
theorem dX1_closedIn_21 : decode cX1_closedIn 21 = .ok (.iload_n 3, 1) := by decide +kernel
theorem dX1_closedIn_22 : decode cX1_closedIn 22 = .ok (.ishl, 1) := by decide +kernel
theorem dX1_closedIn_23 : decode cX1_closedIn 23 = .ok (.ior, 1) := by decide +kernel
theorem dX1_closedIn_24 : decode cX1_closedIn 24 = .ok (.istore_n 2, 1) := by decide +kernel
theorem dX1_closedIn_25 : decode cX1_closedIn 25 = .ok (.iinc 3 1, 3) := by decide +kernel
theorem dX1_closedIn_28 : decode cX1_closedIn 28 = .ok (.goto (-24), 3) := by decide +kernel
theorem dX1_closedIn_31 : decode cX1_closedIn 31 = .ok (.iload_n 2, 1) := by decide +kernel
theorem dX1_closedIn_32 : decode cX1_closedIn 32 = .ok (.ireturn, 1) := by decide +kernel
set_option maxRecDepth 20000 in
theorem ggX1_nextOrder_X6_get : GoodIn wsX1_nextOrder wsX6_get := goodIn_r _ [8, 9, 16] (by decide +kernel) (by decide +kernel)
set_option maxRecDepth 20000 in
theorem gX1_nextOrder_X6_get : GoodIn wsX1_nextOrder (wsV RX1 80 RX6 yX6_get wsX6_get) := goodIn_app (goodIn_of _ (by decide +kernel)) ggX1_nextOrder_X6_get
theorem dX1_nextOrder_0 : decode cX1_nextOrder 0 = .ok (.sipush 1000, 3) := by decide +kernel
theorem dX1_nextOrder_3 : decode cX1_nextOrder 3 = .ok (.istore_n 2, 1) := by decide +kernel
theorem dX1_nextOrder_4 : decode cX1_nextOrder 4 = .ok (.iconst 0, 1) := by decide +kernel
theorem dX1_nextOrder_5 : decode cX1_nextOrder 5 = .ok (.istore_n 3, 1) := by decide +kernel
theorem dX1_nextOrder_6 : decode cX1_nextOrder 6 = .ok (.iload_n 3, 1) := by decide +kernel
theorem dX1_nextOrder_7 : decode cX1_nextOrder 7 = .ok (.aload_n 0, 1) := by decide +kernel
theorem dX1_nextOrder_8 : decode cX1_nextOrder 8 = .ok (.getfield 32, 3) := by decide +kernel
theorem dX1_nextOrder_11 : decode cX1_nextOrder 11 = .ok (.if_icmp .ge 66, 3) := by decide +kernel
theorem dX1_nextOrder_14 : decode cX1_nextOrder 14 = .ok (.aload_n 0, 1) := by decide +kernel
theorem dX1_nextOrder_15 : decode cX1_nextOrder 15 = .ok (.getfield 14, 3) := by decide +kernel
theorem dX1_nextOrder_18 : decode cX1_nextOrder 18 = .ok (.iload_n 3, 1) := by decide +kernel
theorem dX1_nextOrder_19 : decode cX1_nextOrder 19 = .ok (.invokevirtual 80, 3) := by decide +kernel
theorem dX1_nextOrder_22 : decode cX1_nextOrder 22 = .ok (.iconst 3, 1) := by decide +kernel
theorem dX1_nextOrder_23 : decode cX1_nextOrder 23 = .ok (.if_icmp .ne 19, 3) := by decide +kernel
theorem dX1_nextOrder_26 : decode cX1_nextOrder 26 = .ok (.aload_n 0, 1) := by decide +kernel
theorem dX1_nextOrder_27 : decode cX1_nextOrder 27 = .ok (.getfield 29, 3) := by decide +kernel
theorem dX1_nextOrder_30 : decode cX1_nextOrder 30 = .ok (.iload_n 3, 1) := by decide +kernel
theorem dX1_nextOrder_31 : decode cX1_nextOrder 31 = .ok (.invokevirtual 80, 3) := by decide +kernel
theorem dX1_nextOrder_34 : decode cX1_nextOrder 34 = .ok (.iload_n 1, 1) := by decide +kernel
theorem dX1_nextOrder_35 : decode cX1_nextOrder 35 = .ok (.if_icmp .le 7, 3) := by decide +kernel
theorem dX1_nextOrder_38 : decode cX1_nextOrder 38 = .ok (.iconst 1, 1) := by decide +kernel
theorem dX1_nextOrder_39 : decode cX1_nextOrder 39 = .ok (.goto 4, 3) := by decide +kernel
theorem dX1_nextOrder_42 : decode cX1_nextOrder 42 = .ok (.iconst 0, 1) := by decide +kernel
theorem dX1_nextOrder_43 : decode cX1_nextOrder 43 = .ok (.istore 4, 2) := by decide +kernel
theorem dX1_nextOrder_45 : decode cX1_nextOrder 45 = .ok (.iload 4, 2) := by decide +kernel
theorem dX1_nextOrder_47 : decode cX1_nextOrder 47 = .ok (.ifCond .eq 24, 3) := by decide +kernel
theorem dX1_nextOrder_50 : decode cX1_nextOrder 50 = .ok (.aload_n 0, 1) := by decide +kernel
theorem dX1_nextOrder_51 : decode cX1_nextOrder 51 = .ok (.getfield 29, 3) := by decide +kernel
theorem dX1_nextOrder_54 : decode cX1_nextOrder 54 = .ok (.iload_n 3, 1) := by decide +kernel
theorem dX1_nextOrder_55 : decode cX1_nextOrder 55 = .ok (.invokevirtual 80, 3) := by decide +kernel
theorem dX1_nextOrder_58 : decode cX1_nextOrder 58 = .ok (.iload_n 2, 1) := by decide +kernel
theorem dX1_nextOrder_59 : decode cX1_nextOrder 59 = .ok (.if_icmp .ge 12, 3) := by decide +kernel
theorem dX1_nextOrder_62 : decode cX1_nextOrder 62 = .ok (.aload_n 0, 1) := by decide +kernel
theorem dX1_nextOrder_63 : decode cX1_nextOrder 63 = .ok (.getfield 29, 3) := by decide +kernel
theorem dX1_nextOrder_66 : decode cX1_nextOrder 66 = .ok (.iload_n 3, 1) := by decide +kernel
theorem dX1_nextOrder_67 : decode cX1_nextOrder 67 = .ok (.invokevirtual 80, 3) := by decide +kernel
theorem dX1_nextOrder_70 : decode cX1_nextOrder 70 = .ok (.istore_n 2, 1) := by decide +kernel
theorem dX1_nextOrder_71 : decode cX1_nextOrder 71 = .ok (.iinc 3 1, 3) := by decide +kernel
theorem dX1_nextOrder_74 : decode cX1_nextOrder 74 = .ok (.goto (-68), 3) := by decide +kernel
theorem dX1_nextOrder_77 : decode cX1_nextOrder 77 = .ok (.iload_n 2, 1) := by decide +kernel
theorem dX1_nextOrder_78 : decode cX1_nextOrder 78 = .ok (.ireturn, 1) := by decide +kernel
