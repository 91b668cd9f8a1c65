set_option maxRecDepth 20000 in
theorem ggX0_init_X6_init : GoodIn wsX0_init wsX6_init := goodIn_r _ [17, 18, 2, 3, 19, 20, 21] (by decide +kernel) (by decide +kernel)
set_option maxRecDepth 20000 in
theorem gX0_init_X6_init : GoodIn wsX0_init (wsX6_init) := ggX0_init_X6_init
theorem dX0_init_0 : decode cX0_init 0 = .ok (.aload_n 0, 1) := by decide +kernel
theorem dX0_init_1 : decode cX0_init 1 = .ok (.invokespecial 3, 3) := by decide +kernel
theorem dX0_init_4 : decode cX0_init 4 = .ok (.aload_n 0, 1) := by decide +kernel
theorem dX0_init_5 : decode cX0_init 5 = .ok (.new 9, 3) := by decide +kernel
theorem dX0_init_8 : decode cX0_init 8 = .ok (.dup, 1) := by decide +kernel
theorem dX0_init_9 : decode cX0_init 9 = .ok (.bipush 25, 2) := by decide +kernel
theorem dX0_init_11 : decode cX0_init 11 = .ok (.invokespecial 11, 3) := by decide +kernel
theorem dX0_init_14 : decode cX0_init 14 = .ok (.putfield 14, 3) := by decide +kernel
theorem dX0_init_17 : decode cX0_init 17 = .ok (.aload_n 0, 1) := by decide +kernel
theorem dX0_init_18 : decode cX0_init 18 = .ok (.new 9, 3) := by decide +kernel
theorem dX0_init_21 : decode cX0_init 21 = .ok (.dup, 1) := by decide +kernel
theorem dX0_init_22 : decode cX0_init 22 = .ok (.iconst 5, 1) := by decide +kernel
theorem dX0_init_23 : decode cX0_init 23 = .ok (.invokespecial 11, 3) := by decide +kernel
theorem dX0_init_26 : decode cX0_init 26 = .ok (.putfield 20, 3) := by decide +kernel
theorem dX0_init_29 : decode cX0_init 29 = .ok (.aload_n 0, 1) := by decide +kernel
theorem dX0_init_30 : decode cX0_init 30 = .ok (.iconst 0, 1) := by decide +kernel
theorem dX0_init_31 : decode cX0_init 31 = .ok (.putfield 23, 3) := by decide +kernel
theorem dX0_init_34 : decode cX0_init 34 = .ok (.aload_n 0, 1) := by decide +kernel
theorem dX0_init_35 : decode cX0_init 35 = .ok (.iconst 0, 1) := by decide +kernel
theorem dX0_init_36 : decode cX0_init 36 = .ok (.putfield 27, 3) := by decide +kernel
theorem dX0_init_39 : decode cX0_init 39 = .ok (.aload_n 0, 1) := by decide +kernel
theorem dX0_init_40 : decode cX0_init 40 = .ok (.bipush (-4), 2) := by decide +kernel
theorem dX0_init_42 : decode cX0_init 42 = .ok (.putfield 30, 3) := by decide +kernel
theorem dX0_init_45 : decode cX0_init 45 = .ok (.aload_n 0, 1) := by decide +kernel
theorem dX0_init_46 : decode cX0_init 46 = .ok (.iconst 0, 1) := by decide +kernel
theorem dX0_init_47 : decode cX0_init 47 = .ok (.putfield 33, 3) := by decide +kernel
theorem dX0_init_50 : decode cX0_init 50 = .ok (.aload_n 0, 1) := by decide +kernel
theorem dX0_init_51 : decode cX0_init 51 = .ok (.iconst 0, 1) := by decide +kernel
theorem dX0_init_52 : decode cX0_init 52 = .ok (.putfield 36, 3) := by decide +kernel
theorem dX0_init_55 : decode cX0_init 55 = .ok (.aload_n 0, 1) := by decide +kernel
theorem dX0_init_56 : decode cX0_init 56 = .ok (.bipush (-4), 2) := by decide +kernel
theorem dX0_init_58 : decode cX0_init 58 = .ok (.putfield 39, 3) := by decide +kernel
theorem dX0_init_61 : decode cX0_init 61 = .ok (.return_, 1) := by decide +kernel
set_option maxRecDepth 20000 in
theorem ggX0_learn_X8_readBy : GoodIn wsX0_learn wsX8_readBy := goodIn_r _ [6, 7, 8, 9, 10, 11, 12, 13, 14, 15, 16, 17, 18, 19, 20, 89, 90, 91, 92, 93, 94, 95] (by decide +kernel) (by decide +kernel)
set_option maxRecDepth 20000 in
theorem gX0_learn_X8_readBy : GoodIn wsX0_learn (wsV RX0 42 RX8 yX8_readBy wsX8_readBy) := goodIn_app (goodIn_of _ (by decide +kernel)) ggX0_learn_X8_readBy
set_option maxRecDepth 20000 in
theorem ggX0_learn_X0_place : GoodIn wsX0_learn wsX0_place := goodIn_r _ [24] (by decide +kernel) (by decide +kernel)
set_option maxRecDepth 20000 in
theorem gX0_learn_X0_place : GoodIn wsX0_learn (va_wsS RX0 47 yX0_place wsX0_place) := goodIn_app (goodIn_of _ (by decide +kernel)) ggX0_learn_X0_place
set_option maxRecDepth 20000 in
theorem ggX0_learn_X8_sum : GoodIn wsX0_learn wsX8_sum := goodIn_r _ [28, 29, 30, 31, 5, 32, 33, 34, 35, 36, 37, 38, 39, 40, 41, 42, 43, 44, 45, 46, 47, 48, 49, 50, 51, 18, 52, 20, 53, 54, 55, 56, 7, 57, 58, 59, 11, 60, 14, 13, 61, 62, 63, 64, 65, 66, 67, 68, 69, 70, 71, 72, 73, 74, 75, 76, 89, 90, 91, 92, 96, 97, 98, 95, 93, 94] (by decide +kernel) (by decide +kernel)
set_option maxRecDepth 20000 in
theorem gX0_learn_X8_sum : GoodIn wsX0_learn (wsV RX0 51 RX8 yX8_sum wsX8_sum) := goodIn_app (goodIn_of _ (by decide +kernel)) ggX0_learn_X8_sum
set_option maxRecDepth 20000 in
theorem ggX0_learn_X6_set : GoodIn wsX0_learn wsX6_set := goodIn_r _ [80, 20, 95] (by decide +kernel) (by decide +kernel)
set_option maxRecDepth 20000 in
theorem gX0_learn_X6_set : GoodIn wsX0_learn (wsV RX0 54 RX6 yX6_set wsX6_set) := goodIn_app (goodIn_of _ (by decide +kernel)) ggX0_learn_X6_set
theorem dX0_learn_0 : decode cX0_learn 0 = .ok (.aload_n 1, 1) := by decide +kernel
theorem dX0_learn_1 : decode cX0_learn 1 = .ok (.ifnonnull 4, 3) := by decide +kernel
theorem dX0_learn_4 : decode cX0_learn 4 = .ok (.return_, 1) := by decide +kernel
theorem dX0_learn_5 : decode cX0_learn 5 = .ok (.iconst 1, 1) := by decide +kernel
theorem dX0_learn_6 : decode cX0_learn 6 = .ok (.istore_n 3, 1) := by decide +kernel
theorem dX0_learn_7 : decode cX0_learn 7 = .ok (.iload_n 3, 1) := by decide +kernel
theorem dX0_learn_8 : decode cX0_learn 8 = .ok (.iconst 5, 1) := by decide +kernel
theorem dX0_learn_9 : decode cX0_learn 9 = .ok (.if_icmp .gt 49, 3) := by decide +kernel
theorem dX0_learn_12 : decode cX0_learn 12 = .ok (.aload_n 1, 1) := by decide +kernel
theorem dX0_learn_13 : decode cX0_learn 13 = .ok (.iload_n 3, 1) := by decide +kernel
theorem dX0_learn_14 : decode cX0_learn 14 = .ok (.invokevirtual 42, 3) := by decide +kernel
theorem dX0_learn_17 : decode cX0_learn 17 = .ok (.iconst 0, 1) := by decide +kernel
theorem dX0_learn_18 : decode cX0_learn 18 = .ok (.istore 4, 2) := by decide +kernel
theorem dX0_learn_20 : decode cX0_learn 20 = .ok (.iload 4, 2) := by decide +kernel
theorem dX0_learn_22 : decode cX0_learn 22 = .ok (.iconst 5, 1) := by decide +kernel
theorem dX0_learn_23 : decode cX0_learn 23 = .ok (.if_icmp .ge 29, 3) := by decide +kernel
theorem dX0_learn_26 : decode cX0_learn 26 = .ok (.aload_n 0, 1) := by decide +kernel
theorem dX0_learn_27 : decode cX0_learn 27 = .ok (.getfield 14, 3) := by decide +kernel
theorem dX0_learn_30 : decode cX0_learn 30 = .ok (.iload 4, 2) := by decide +kernel
theorem dX0_learn_32 : decode cX0_learn 32 = .ok (.iload_n 3, 1) := by decide +kernel
theorem dX0_learn_33 : decode cX0_learn 33 = .ok (.invokestatic 47, 3) := by decide +kernel
theorem dX0_learn_36 : decode cX0_learn 36 = .ok (.aload_n 1, 1) := by decide +kernel
theorem dX0_learn_37 : decode cX0_learn 37 = .ok (.iload 4, 2) := by decide +kernel
theorem dX0_learn_39 : decode cX0_learn 39 = .ok (.iload_n 2, 1) := by decide +kernel
theorem dX0_learn_40 : decode cX0_learn 40 = .ok (.invokevirtual 51, 3) := by decide +kernel
theorem dX0_learn_43 : decode cX0_learn 43 = .ok (.invokevirtual 54, 3) := by decide +kernel
theorem dX0_learn_46 : decode cX0_learn 46 = .ok (.iinc 4 1, 3) := by decide +kernel
theorem dX0_learn_49 : decode cX0_learn 49 = .ok (.goto (-29), 3) := by decide +kernel
theorem dX0_learn_52 : decode cX0_learn 52 = .ok (.iinc 3 1, 3) := by decide +kernel
theorem dX0_learn_55 : decode cX0_learn 55 = .ok (.goto (-48), 3) := by decide +kernel
theorem dX0_learn_58 : decode cX0_learn 58 = .ok (.return_, 1) := by decide +kernel
theorem dX0_place_0 : decode cX0_place 0 = .ok (.iload_n 0, 1) := by decide +kernel
theorem dX0_place_1 : decode cX0_place 1 = .ok (.iconst 5, 1) := by decide +kernel
theorem dX0_place_2 : decode cX0_place 2 = .ok (.imul, 1) := by decide +kernel
theorem dX0_place_3 : decode cX0_place 3 = .ok (.iload_n 1, 1) := by decide +kernel
theorem dX0_place_4 : decode cX0_place 4 = .ok (.iadd, 1) := by decide +kernel
theorem dX0_place_5 : decode cX0_place 5 = .ok (.iconst 1, 1) := by decide +kernel
theorem dX0_place_6 : decode cX0_place 6 = .ok (.isub, 1) := by decide +kernel
theorem dX0_place_7 : decode cX0_place 7 = .ok (.ireturn, 1) := by decide +kernel
theorem dX0_winners_0 : decode cX0_winners 0 = .ok (.aload_n 0, 1) := by decide +kernel
theorem dX0_winners_1 : decode cX0_winners 1 = .ok (.getfield 33, 3) := by decide +kernel
theorem dX0_winners_4 : decode cX0_winners 4 = .ok (.ireturn, 1) := by decide +kernel
theorem dX0_lead_0 : decode cX0_lead 0 = .ok (.aload_n 0, 1) := by decide +kernel
theorem dX0_lead_1 : decode cX0_lead 1 = .ok (.getfield 36, 3) := by decide +kernel
theorem dX0_lead_4 : decode cX0_lead 4 = .ok (.ireturn, 1) := by decide +kernel
theorem dX0_fewest_0 : decode cX0_fewest 0 = .ok (.aload_n 0, 1) := by decide +kernel
theorem dX0_fewest_1 : decode cX0_fewest 1 = .ok (.getfield 39, 3) := by decide +kernel
theorem dX0_fewest_4 : decode cX0_fewest 4 = .ok (.ireturn, 1) := by decide +kernel
set_option maxRecDepth 20000 in
theorem ggX0_winnerBy_X0_place : GoodIn wsX0_winnerBy wsX0_place := goodIn_r _ [5] (by decide +kernel) (by decide +kernel)
set_option maxRecDepth 20000 in
theorem gX0_winnerBy_X0_place : GoodIn wsX0_winnerBy (va_wsS RX0 47 yX0_place wsX0_place) := goodIn_app (goodIn_of _ (by decide +kernel)) ggX0_winnerBy_X0_place
set_option maxRecDepth 20000 in
theorem ggX0_winnerBy_X6_get : GoodIn wsX0_winnerBy wsX6_get := goodIn_r _ [10, 11, 33] (by decide +kernel) (by decide +kernel)
set_option maxRecDepth 20000 in
theorem gX0_winnerBy_X6_get : GoodIn wsX0_winnerBy (wsV RX0 58 RX6 yX6_get wsX6_get) := goodIn_app (goodIn_of _ (by decide +kernel)) ggX0_winnerBy_X6_get
set_option maxRecDepth 20000 in
theorem ggX0_winnerBy_X10_winnerOf : GoodIn wsX0_winnerBy wsX10_winnerOf := goodIn_r _ [14, 15, 16, 13, 17, 18, 19, 20, 21, 22, 23, 24] (by decide +kernel) (by decide +kernel)
set_option maxRecDepth 20000 in
theorem gX0_winnerBy_X10_winnerOf_n62 : GoodIn wsX0_winnerBy (wsX10_winnerOf) := ggX0_winnerBy_X10_winnerOf
theorem dX0_winnerBy_0 : decode cX0_winnerBy 0 = .ok (.iconst 0, 1) := by decide +kernel
theorem dX0_winnerBy_1 : decode cX0_winnerBy 1 = .ok (.istore_n 2, 1) := by decide +kernel
theorem dX0_winnerBy_2 : decode cX0_winnerBy 2 = .ok (.iconst 0, 1) := by decide +kernel
theorem dX0_winnerBy_3 : decode cX0_winnerBy 3 = .ok (.istore_n 3, 1) := by decide +kernel
theorem dX0_winnerBy_4 : decode cX0_winnerBy 4 = .ok (.iload_n 3, 1) := by decide +kernel
theorem dX0_winnerBy_5 : decode cX0_winnerBy 5 = .ok (.iconst 5, 1) := by decide +kernel
theorem dX0_winnerBy_6 : decode cX0_winnerBy 6 = .ok (.if_icmp .ge 24, 3) := by decide +kernel
theorem dX0_winnerBy_9 : decode cX0_winnerBy 9 = .ok (.iload_n 2, 1) := by decide +kernel
theorem dX0_winnerBy_10 : decode cX0_winnerBy 10 = .ok (.aload_n 0, 1) := by decide +kernel
theorem dX0_winnerBy_11 : decode cX0_winnerBy 11 = .ok (.getfield 14, 3) := by decide +kernel
theorem dX0_winnerBy_14 : decode cX0_winnerBy 14 = .ok (.iload_n 3, 1) := by decide +kernel
theorem dX0_winnerBy_15 : decode cX0_winnerBy 15 = .ok (.iload_n 1, 1) := by decide +kernel
theorem dX0_winnerBy_16 : decode cX0_winnerBy 16 = .ok (.invokestatic 47, 3) := by decide +kernel
theorem dX0_winnerBy_19 : decode cX0_winnerBy 19 = .ok (.invokevirtual 58, 3) := by decide +kernel
theorem dX0_winnerBy_22 : decode cX0_winnerBy 22 = .ok (.iadd, 1) := by decide +kernel
theorem dX0_winnerBy_23 : decode cX0_winnerBy 23 = .ok (.istore_n 2, 1) := by decide +kernel
theorem dX0_winnerBy_24 : decode cX0_winnerBy 24 = .ok (.iinc 3 1, 3) := by decide +kernel
theorem dX0_winnerBy_27 : decode cX0_winnerBy 27 = .ok (.goto (-23), 3) := by decide +kernel
theorem dX0_winnerBy_30 : decode cX0_winnerBy 30 = .ok (.iload_n 2, 1) := by decide +kernel
theorem dX0_winnerBy_31 : decode cX0_winnerBy 31 = .ok (.invokestatic 62, 3) := by decide +kernel
theorem dX0_winnerBy_34 : decode cX0_winnerBy 34 = .ok (.ireturn, 1) := by decide +kernel
set_option maxRecDepth 20000 in
theorem ggX0_tryAll_X0_winnerBy : GoodIn wsX0_tryAll wsX0_winnerBy := goodIn_r _ [12, 13, 14, 15, 11, 16, 17, 18, 19, 20, 21, 22, 23, 24, 25, 26, 27, 28, 29, 30, 31, 32, 33, 34, 35, 70, 71, 72, 73, 74, 75, 76, 77, 78] (by decide +kernel) (by decide +kernel)
set_option maxRecDepth 20000 in
theorem gX0_tryAll_X0_winnerBy : GoodIn wsX0_tryAll (wsV RX0 65 RX0 yX0_winnerBy wsX0_winnerBy) := goodIn_app (goodIn_of _ (by decide +kernel)) ggX0_tryAll_X0_winnerBy
set_option maxRecDepth 20000 in
theorem ggX0_tryAll_X0_unlikeChoices : GoodIn wsX0_tryAll wsX0_unlikeChoices := goodIn_r _ [39, 1, 40, 24, 41, 42, 43, 44, 11, 45, 13, 14, 15, 16, 17, 18, 19, 20, 21, 22, 70, 71, 72, 73, 74, 75, 76, 77, 78] (by decide +kernel) (by decide +kernel)
set_option maxRecDepth 20000 in
theorem gX0_tryAll_X0_unlikeChoices : GoodIn wsX0_tryAll (wsV RX0 68 RX0 yX0_unlikeChoices wsX0_unlikeChoices) := goodIn_app (goodIn_of _ (by decide +kernel)) ggX0_tryAll_X0_unlikeChoices
set_option maxRecDepth 20000 in
theorem ggX0_tryAll_X6_set : GoodIn wsX0_tryAll wsX6_set := goodIn_r _ [49, 22, 78] (by decide +kernel) (by decide +kernel)
set_option maxRecDepth 20000 in
theorem gX0_tryAll_X6_set : GoodIn wsX0_tryAll (wsV RX0 54 RX6 yX6_set wsX6_set) := goodIn_app (goodIn_of _ (by decide +kernel)) ggX0_tryAll_X6_set
set_option maxRecDepth 20000 in
theorem ggX0_tryAll_X0_mix : GoodIn wsX0_tryAll wsX0_mix := goodIn_r _ [53, 7, 1, 13, 54, 55, 56, 11, 57, 5, 3, 58, 30, 31, 32, 4, 2, 6, 27, 24, 28, 29, 33, 34, 35, 23, 25, 26, 59, 60, 61, 62, 63, 64, 65, 66, 67, 68, 69, 17, 18, 19, 20, 21, 22, 40, 41, 14, 15, 16, 50, 51, 52, 70, 71, 72, 73, 74, 75, 76, 77, 78] (by decide +kernel) (by decide +kernel)
set_option maxRecDepth 20000 in
theorem gX0_tryAll_X0_mix : GoodIn wsX0_tryAll (wsV RX0 71 RX0 yX0_mix wsX0_mix) := goodIn_app (goodIn_of _ (by decide +kernel)) ggX0_tryAll_X0_mix
theorem dX0_tryAll_0 : decode cX0_tryAll 0 = .ok (.aload_n 0, 1) := by decide +kernel
theorem dX0_tryAll_1 : decode cX0_tryAll 1 = .ok (.iload_n 1, 1) := by decide +kernel
theorem dX0_tryAll_2 : decode cX0_tryAll 2 = .ok (.putfield 23, 3) := by decide +kernel
theorem dX0_tryAll_5 : decode cX0_tryAll 5 = .ok (.aload_n 0, 1) := by decide +kernel
theorem dX0_tryAll_6 : decode cX0_tryAll 6 = .ok (.iload_n 1, 1) := by decide +kernel
theorem dX0_tryAll_7 : decode cX0_tryAll 7 = .ok (.ifCond .ne 8, 3) := by decide +kernel
theorem dX0_tryAll_10 : decode cX0_tryAll 10 = .ok (.bipush (-4), 2) := by decide +kernel
theorem dX0_tryAll_12 : decode cX0_tryAll 12 = .ok (.goto 8, 3) := by decide +kernel
theorem dX0_tryAll_15 : decode cX0_tryAll 15 = .ok (.aload_n 0, 1) := by decide +kernel
theorem dX0_tryAll_16 : decode cX0_tryAll 16 = .ok (.iload_n 1, 1) := by decide +kernel
theorem dX0_tryAll_17 : decode cX0_tryAll 17 = .ok (.invokevirtual 65, 3) := by decide +kernel
theorem dX0_tryAll_20 : decode cX0_tryAll 20 = .ok (.putfield 30, 3) := by decide +kernel
theorem dX0_tryAll_23 : decode cX0_tryAll 23 = .ok (.aload_n 0, 1) := by decide +kernel
theorem dX0_tryAll_24 : decode cX0_tryAll 24 = .ok (.iload_n 3, 1) := by decide +kernel
theorem dX0_tryAll_25 : decode cX0_tryAll 25 = .ok (.putfield 27, 3) := by decide +kernel
theorem dX0_tryAll_28 : decode cX0_tryAll 28 = .ok (.aload_n 0, 1) := by decide +kernel
theorem dX0_tryAll_29 : decode cX0_tryAll 29 = .ok (.iconst 0, 1) := by decide +kernel
theorem dX0_tryAll_30 : decode cX0_tryAll 30 = .ok (.putfield 33, 3) := by decide +kernel
theorem dX0_tryAll_33 : decode cX0_tryAll 33 = .ok (.aload_n 0, 1) := by decide +kernel
theorem dX0_tryAll_34 : decode cX0_tryAll 34 = .ok (.sipush (-1000), 3) := by decide +kernel
theorem dX0_tryAll_37 : decode cX0_tryAll 37 = .ok (.putfield 36, 3) := by decide +kernel
theorem dX0_tryAll_40 : decode cX0_tryAll 40 = .ok (.aload_n 0, 1) := by decide +kernel
theorem dX0_tryAll_41 : decode cX0_tryAll 41 = .ok (.bipush (-4), 2) := by decide +kernel
theorem dX0_tryAll_43 : decode cX0_tryAll 43 = .ok (.putfield 39, 3) := by decide +kernel
theorem dX0_tryAll_46 : decode cX0_tryAll 46 = .ok (.iconst 0, 1) := by decide +kernel
theorem dX0_tryAll_47 : decode cX0_tryAll 47 = .ok (.istore 4, 2) := by decide +kernel
theorem dX0_tryAll_49 : decode cX0_tryAll 49 = .ok (.iload 4, 2) := by decide +kernel
theorem dX0_tryAll_51 : decode cX0_tryAll 51 = .ok (.iconst 5, 1) := by decide +kernel
theorem dX0_tryAll_52 : decode cX0_tryAll 52 = .ok (.if_icmp .ge 25, 3) := by decide +kernel
theorem dX0_tryAll_55 : decode cX0_tryAll 55 = .ok (.aload_n 0, 1) := by decide +kernel
theorem dX0_tryAll_56 : decode cX0_tryAll 56 = .ok (.getfield 20, 3) := by decide +kernel
theorem dX0_tryAll_59 : decode cX0_tryAll 59 = .ok (.iload 4, 2) := by decide +kernel
theorem dX0_tryAll_61 : decode cX0_tryAll 61 = .ok (.aload_n 0, 1) := by decide +kernel
theorem dX0_tryAll_62 : decode cX0_tryAll 62 = .ok (.iload 4, 2) := by decide +kernel
theorem dX0_tryAll_64 : decode cX0_tryAll 64 = .ok (.iload_n 2, 1) := by decide +kernel
theorem dX0_tryAll_65 : decode cX0_tryAll 65 = .ok (.invokevirtual 68, 3) := by decide +kernel
theorem dX0_tryAll_68 : decode cX0_tryAll 68 = .ok (.invokevirtual 54, 3) := by decide +kernel
theorem dX0_tryAll_71 : decode cX0_tryAll 71 = .ok (.iinc 4 1, 3) := by decide +kernel
theorem dX0_tryAll_74 : decode cX0_tryAll 74 = .ok (.goto (-25), 3) := by decide +kernel
theorem dX0_tryAll_77 : decode cX0_tryAll 77 = .ok (.aload_n 0, 1) := by decide +kernel
theorem dX0_tryAll_78 : decode cX0_tryAll 78 = .ok (.iconst 0, 1) := by decide +kernel
theorem dX0_tryAll_79 : decode cX0_tryAll 79 = .ok (.iconst 0, 1) := by decide +kernel
theorem dX0_tryAll_80 : decode cX0_tryAll 80 = .ok (.iconst 0, 1) := by decide +kernel
theorem dX0_tryAll_81 : decode cX0_tryAll 81 = .ok (.invokevirtual 71, 3) := by decide +kernel
theorem dX0_tryAll_84 : decode cX0_tryAll 84 = .ok (.return_, 1) := by decide +kernel
set_option maxRecDepth 20000 in
theorem ggX0_unlikeChoices_X10_hasBit : GoodIn wsX0_unlikeChoices wsX10_hasBit := goodIn_r _ [4] (by decide +kernel) (by decide +kernel)
set_option maxRecDepth 20000 in
theorem gX0_unlikeChoices_X10_hasBit_n75 : GoodIn wsX0_unlikeChoices (wsX10_hasBit) := ggX0_unlikeChoices_X10_hasBit
set_option maxRecDepth 20000 in
theorem ggX0_unlikeChoices_X0_isCountedAlready : GoodIn wsX0_unlikeChoices wsX0_isCountedAlready := goodIn_r _ [9, 10, 11, 12, 8, 13, 14, 15, 16, 17, 18, 19, 2, 3, 4, 20, 21, 22, 23, 24, 25, 26, 27, 28] (by decide +kernel) (by decide +kernel)
set_option maxRecDepth 20000 in
theorem gX0_unlikeChoices_X0_isCountedAlready : GoodIn wsX0_unlikeChoices (wsV RX0 79 RX0 yX0_isCountedAlready wsX0_isCountedAlready) := goodIn_app (goodIn_of _ (by decide +kernel)) ggX0_unlikeChoices_X0_isCountedAlready
theorem dX0_unlikeChoices_0 : decode cX0_unlikeChoices 0 = .ok (.aload_n 0, 1) := by decide +kernel
theorem dX0_unlikeChoices_1 : decode cX0_unlikeChoices 1 = .ok (.getfield 23, 3) := by decide +kernel
theorem dX0_unlikeChoices_4 : decode cX0_unlikeChoices 4 = .ok (.ifCond .ne 7, 3) := by decide +kernel
theorem dX0_unlikeChoices_7 : decode cX0_unlikeChoices 7 = .ok (.iconst 0, 1) := by decide +kernel
theorem dX0_unlikeChoices_8 : decode cX0_unlikeChoices 8 = .ok (.goto 11, 3) := by decide +kernel
theorem dX0_unlikeChoices_11 : decode cX0_unlikeChoices 11 = .ok (.iconst 1, 1) := by decide +kernel
theorem dX0_unlikeChoices_12 : decode cX0_unlikeChoices 12 = .ok (.aload_n 0, 1) := by decide +kernel
theorem dX0_unlikeChoices_13 : decode cX0_unlikeChoices 13 = .ok (.getfield 23, 3) := by decide +kernel
theorem dX0_unlikeChoices_16 : decode cX0_unlikeChoices 16 = .ok (.iconst 1, 1) := by decide +kernel
theorem dX0_unlikeChoices_17 : decode cX0_unlikeChoices 17 = .ok (.isub, 1) := by decide +kernel
theorem dX0_unlikeChoices_18 : decode cX0_unlikeChoices 18 = .ok (.ishl, 1) := by decide +kernel
theorem dX0_unlikeChoices_19 : decode cX0_unlikeChoices 19 = .ok (.istore_n 3, 1) := by decide +kernel
theorem dX0_unlikeChoices_20 : decode cX0_unlikeChoices 20 = .ok (.iconst 1, 1) := by decide +kernel
theorem dX0_unlikeChoices_21 : decode cX0_unlikeChoices 21 = .ok (.istore 4, 2) := by decide +kernel
theorem dX0_unlikeChoices_23 : decode cX0_unlikeChoices 23 = .ok (.iload 4, 2) := by decide +kernel
theorem dX0_unlikeChoices_25 : decode cX0_unlikeChoices 25 = .ok (.iconst 5, 1) := by decide +kernel
theorem dX0_unlikeChoices_26 : decode cX0_unlikeChoices 26 = .ok (.if_icmp .gt 40, 3) := by decide +kernel
theorem dX0_unlikeChoices_29 : decode cX0_unlikeChoices 29 = .ok (.iload_n 2, 1) := by decide +kernel
theorem dX0_unlikeChoices_30 : decode cX0_unlikeChoices 30 = .ok (.iload 4, 2) := by decide +kernel
theorem dX0_unlikeChoices_32 : decode cX0_unlikeChoices 32 = .ok (.iconst 1, 1) := by decide +kernel
theorem dX0_unlikeChoices_33 : decode cX0_unlikeChoices 33 = .ok (.isub, 1) := by decide +kernel
theorem dX0_unlikeChoices_34 : decode cX0_unlikeChoices 34 = .ok (.invokestatic 75, 3) := by decide +kernel
theorem dX0_unlikeChoices_37 : decode cX0_unlikeChoices 37 = .ok (.ifCond .eq 23, 3) := by decide +kernel
theorem dX0_unlikeChoices_40 : decode cX0_unlikeChoices 40 = .ok (.aload_n 0, 1) := by decide +kernel
theorem dX0_unlikeChoices_41 : decode cX0_unlikeChoices 41 = .ok (.iload_n 1, 1) := by decide +kernel
theorem dX0_unlikeChoices_42 : decode cX0_unlikeChoices 42 = .ok (.iload 4, 2) := by decide +kernel
theorem dX0_unlikeChoices_44 : decode cX0_unlikeChoices 44 = .ok (.iload_n 3, 1) := by decide +kernel
theorem dX0_unlikeChoices_45 : decode cX0_unlikeChoices 45 = .ok (.invokevirtual 79, 3) := by decide +kernel
theorem dX0_unlikeChoices_48 : decode cX0_unlikeChoices 48 = .ok (.ifCond .ne 12, 3) := by decide +kernel
theorem dX0_unlikeChoices_51 : decode cX0_unlikeChoices 51 = .ok (.iload_n 3, 1) := by decide +kernel
theorem dX0_unlikeChoices_52 : decode cX0_unlikeChoices 52 = .ok (.iconst 1, 1) := by decide +kernel
theorem dX0_unlikeChoices_53 : decode cX0_unlikeChoices 53 = .ok (.iload 4, 2) := by decide +kernel
theorem dX0_unlikeChoices_55 : decode cX0_unlikeChoices 55 = .ok (.iconst 1, 1) := by decide +kernel
theorem dX0_unlikeChoices_56 : decode cX0_unlikeChoices 56 = .ok (.isub, 1) := by decide +kernel
theorem dX0_unlikeChoices_57 : decode cX0_unlikeChoices 57 = .ok (.ishl, 1) := by decide +kernel
theorem dX0_unlikeChoices_58 : decode cX0_unlikeChoices 58 = .ok (.ior, 1) := by decide +kernel
theorem dX0_unlikeChoices_59 : decode cX0_unlikeChoices 59 = .ok (.istore_n 3, 1) := by decide +kernel
theorem dX0_unlikeChoices_60 : decode cX0_unlikeChoices 60 = .ok (.iinc 4 1, 3) := by decide +kernel
theorem dX0_unlikeChoices_63 : decode cX0_unlikeChoices 63 = .ok (.goto (-40), 3) := by decide +kernel
theorem dX0_unlikeChoices_66 : decode cX0_unlikeChoices 66 = .ok (.iload_n 3, 1) := by decide +kernel
theorem dX0_unlikeChoices_67 : decode cX0_unlikeChoices 67 = .ok (.ireturn, 1) := by decide +kernel
set_option maxRecDepth 20000 in
theorem ggX0_isCountedAlready_X0_place : GoodIn wsX0_isCountedAlready wsX0_place := goodIn_r _ [5] (by decide +kernel) (by decide +kernel)
set_option maxRecDepth 20000 in
theorem gX0_isCountedAlready_X0_place : GoodIn wsX0_isCountedAlready (va_wsS RX0 47 yX0_place wsX0_place) := goodIn_app (goodIn_of _ (by decide +kernel)) ggX0_isCountedAlready_X0_place
set_option maxRecDepth 20000 in
theorem ggX0_isCountedAlready_X6_get : GoodIn wsX0_isCountedAlready wsX6_get := goodIn_r _ [10, 11, 23] (by decide +kernel) (by decide +kernel)
set_option maxRecDepth 20000 in
theorem gX0_isCountedAlready_X6_get : GoodIn wsX0_isCountedAlready (wsV RX0 58 RX6 yX6_get wsX6_get) := goodIn_app (goodIn_of _ (by decide +kernel)) ggX0_isCountedAlready_X6_get
set_option maxRecDepth 20000 in
theorem ggX0_isCountedAlready_X10_hasBit : GoodIn wsX0_isCountedAlready wsX10_hasBit := goodIn_r _ [14] (by decide +kernel) (by decide +kernel)
set_option maxRecDepth 20000 in
theorem gX0_isCountedAlready_X10_hasBit_n75 : GoodIn wsX0_isCountedAlready (wsX10_hasBit) := ggX0_isCountedAlready_X10_hasBit
theorem dX0_isCountedAlready_0 : decode cX0_isCountedAlready 0 = .ok (.iconst 1, 1) := by decide +kernel
theorem dX0_isCountedAlready_1 : decode cX0_isCountedAlready 1 = .ok (.istore 4, 2) := by decide +kernel
theorem dX0_isCountedAlready_3 : decode cX0_isCountedAlready 3 = .ok (.iload 4, 2) := by decide +kernel
theorem dX0_isCountedAlready_5 : decode cX0_isCountedAlready 5 = .ok (.iconst 5, 1) := by decide +kernel
theorem dX0_isCountedAlready_6 : decode cX0_isCountedAlready 6 = .ok (.if_icmp .gt 62, 3) := by decide +kernel
theorem dX0_isCountedAlready_9 : decode cX0_isCountedAlready 9 = .ok (.aload_n 0, 1) := by decide +kernel
theorem dX0_isCountedAlready_10 : decode cX0_isCountedAlready 10 = .ok (.getfield 14, 3) := by decide +kernel
theorem dX0_isCountedAlready_13 : decode cX0_isCountedAlready 13 = .ok (.iload_n 1, 1) := by decide +kernel
theorem dX0_isCountedAlready_14 : decode cX0_isCountedAlready 14 = .ok (.iload_n 2, 1) := by decide +kernel
theorem dX0_isCountedAlready_15 : decode cX0_isCountedAlready 15 = .ok (.invokestatic 47, 3) := by decide +kernel
theorem dX0_isCountedAlready_18 : decode cX0_isCountedAlready 18 = .ok (.invokevirtual 58, 3) := by decide +kernel
theorem dX0_isCountedAlready_21 : decode cX0_isCountedAlready 21 = .ok (.aload_n 0, 1) := by decide +kernel
theorem dX0_isCountedAlready_22 : decode cX0_isCountedAlready 22 = .ok (.getfield 14, 3) := by decide +kernel
theorem dX0_isCountedAlready_25 : decode cX0_isCountedAlready 25 = .ok (.iload_n 1, 1) := by decide +kernel
theorem dX0_isCountedAlready_26 : decode cX0_isCountedAlready 26 = .ok (.iload 4, 2) := by decide +kernel
theorem dX0_isCountedAlready_28 : decode cX0_isCountedAlready 28 = .ok (.invokestatic 47, 3) := by decide +kernel
theorem dX0_isCountedAlready_31 : decode cX0_isCountedAlready 31 = .ok (.invokevirtual 58, 3) := by decide +kernel
theorem dX0_isCountedAlready_34 : decode cX0_isCountedAlready 34 = .ok (.if_icmp .ne 7, 3) := by decide +kernel
theorem dX0_isCountedAlready_37 : decode cX0_isCountedAlready 37 = .ok (.iconst 1, 1) := by decide +kernel
theorem dX0_isCountedAlready_38 : decode cX0_isCountedAlready 38 = .ok (.goto 4, 3) := by decide +kernel
theorem dX0_isCountedAlready_41 : decode cX0_isCountedAlready 41 = .ok (.iconst 0, 1) := by decide +kernel
theorem dX0_isCountedAlready_42 : decode cX0_isCountedAlready 42 = .ok (.istore 5, 2) := by decide +kernel
theorem dX0_isCountedAlready_44 : decode cX0_isCountedAlready 44 = .ok (.iload 5, 2) := by decide +kernel
theorem dX0_isCountedAlready_46 : decode cX0_isCountedAlready 46 = .ok (.ifCond .eq 16, 3) := by decide +kernel
theorem dX0_isCountedAlready_49 : decode cX0_isCountedAlready 49 = .ok (.iload_n 3, 1) := by decide +kernel
theorem dX0_isCountedAlready_50 : decode cX0_isCountedAlready 50 = .ok (.iload 4, 2) := by decide +kernel
theorem dX0_isCountedAlready_52 : decode cX0_isCountedAlready 52 = .ok (.iconst 1, 1) := by decide +kernel
theorem dX0_isCountedAlready_53 : decode cX0_isCountedAlready 53 = .ok (.isub, 1) := by decide +kernel
theorem dX0_isCountedAlready_54 : decode cX0_isCountedAlready 54 = .ok (.invokestatic 75, 3) := by decide +kernel
theorem dX0_isCountedAlready_57 : decode cX0_isCountedAlready 57 = .ok (.ifCond .eq 5, 3) := by decide +kernel
theorem dX0_isCountedAlready_60 : decode cX0_isCountedAlready 60 = .ok (.iconst 1, 1) := by decide +kernel
theorem dX0_isCountedAlready_61 : decode cX0_isCountedAlready 61 = .ok (.ireturn, 1) := by decide +kernel
theorem dX0_isCountedAlready_62 : decode cX0_isCountedAlready 62 = .ok (.iinc 4 1, 3) := by decide +kernel
theorem dX0_isCountedAlready_65 : decode cX0_isCountedAlready 65 = .ok (.goto (-62), 3) := by decide +kernel
theorem dX0_isCountedAlready_68 : decode cX0_isCountedAlready 68 = .ok (.iconst 0, 1) := by decide +kernel
theorem dX0_isCountedAlready_69 : decode cX0_isCountedAlready 69 = .ok (.ireturn, 1) := by decide +kernel
set_option maxRecDepth 20000 in
theorem ggX0_mix_X0_weigh : GoodIn wsX0_mix wsX0_weigh := goodIn_r _ [8, 9, 10, 11, 12, 13, 14, 15, 16, 17, 18, 19, 20, 21, 22, 23, 24, 25, 26, 27, 28, 29, 30, 7, 31, 32, 33, 34, 35, 36, 37, 38, 53, 54, 55, 56, 57, 58, 59, 60] (by decide +kernel) (by decide +kernel)
set_option maxRecDepth 20000 in
theorem gX0_mix_X0_weigh : GoodIn wsX0_mix (wsV RX0 83 RX0 yX0_weigh wsX0_weigh) := goodIn_app (goodIn_of _ (by decide +kernel)) ggX0_mix_X0_weigh
set_option maxRecDepth 20000 in
theorem ggX0_mix_X6_get : GoodIn wsX0_mix wsX6_get := goodIn_r _ [43, 44, 61] (by decide +kernel) (by decide +kernel)
set_option maxRecDepth 20000 in
theorem gX0_mix_X6_get : GoodIn wsX0_mix (wsV RX0 58 RX6 yX6_get wsX6_get) := goodIn_app (goodIn_of _ (by decide +kernel)) ggX0_mix_X6_get
set_option maxRecDepth 20000 in
theorem ggX0_mix_X10_hasBit : GoodIn wsX0_mix wsX10_hasBit := goodIn_r _ [46] (by decide +kernel) (by decide +kernel)
set_option maxRecDepth 20000 in
theorem gX0_mix_X10_hasBit_n75 : GoodIn wsX0_mix (wsX10_hasBit) := ggX0_mix_X10_hasBit
set_option maxRecDepth 20000 in
theorem ggX0_mix_X0_place : GoodIn wsX0_mix wsX0_place := goodIn_r _ [49] (by decide +kernel) (by decide +kernel)
set_option maxRecDepth 20000 in
theorem gX0_mix_X0_place : GoodIn wsX0_mix (va_wsS RX0 47 yX0_place wsX0_place) := goodIn_app (goodIn_of _ (by decide +kernel)) ggX0_mix_X0_place
set_option maxRecDepth 20000 in
theorem ggX0_mix_X0_mix : GoodIn wsX0_mix wsX0_mix := goodIn_r _ [0, 1, 2, 3, 4, 5, 6, 7, 8, 9, 10, 11, 12, 13, 14, 15, 16, 17, 18, 19, 20, 21, 22, 23, 24, 25, 26, 27, 28, 29, 30, 31, 32, 33, 34, 35, 36, 37, 38, 39, 40, 41, 42, 43, 44, 45, 46, 47, 48, 49, 50, 51, 52, 53, 54, 55, 56, 57, 58, 59, 60, 61] (by decide +kernel) (by decide +kernel)
set_option maxRecDepth 20000 in
theorem gX0_mix_X0_mix : GoodIn wsX0_mix (wsV RX0 71 RX0 yX0_mix wsX0_mix) := goodIn_app (goodIn_of _ (by decide +kernel)) ggX0_mix_X0_mix
theorem dX0_mix_0 : decode cX0_mix 0 = .ok (.iload_n 1, 1) := by decide +kernel
theorem dX0_mix_1 : decode cX0_mix 1 = .ok (.iconst 5, 1) := by decide +kernel
theorem dX0_mix_2 : decode cX0_mix 2 = .ok (.if_icmp .lt 10, 3) := by decide +kernel
theorem dX0_mix_5 : decode cX0_mix 5 = .ok (.aload_n 0, 1) := by decide +kernel
theorem dX0_mix_6 : decode cX0_mix 6 = .ok (.iload_n 2, 1) := by decide +kernel
theorem dX0_mix_7 : decode cX0_mix 7 = .ok (.iload_n 3, 1) := by decide +kernel
theorem dX0_mix_8 : decode cX0_mix 8 = .ok (.invokevirtual 83, 3) := by decide +kernel
theorem dX0_mix_11 : decode cX0_mix 11 = .ok (.return_, 1) := by decide +kernel
theorem dX0_mix_12 : decode cX0_mix 12 = .ok (.iconst 1, 1) := by decide +kernel
theorem dX0_mix_13 : decode cX0_mix 13 = .ok (.istore 4, 2) := by decide +kernel
theorem dX0_mix_15 : decode cX0_mix 15 = .ok (.iload 4, 2) := by decide +kernel
theorem dX0_mix_17 : decode cX0_mix 17 = .ok (.iconst 5, 1) := by decide +kernel
theorem dX0_mix_18 : decode cX0_mix 18 = .ok (.if_icmp .gt 71, 3) := by decide +kernel
theorem dX0_mix_21 : decode cX0_mix 21 = .ok (.aload_n 0, 1) := by decide +kernel
theorem dX0_mix_22 : decode cX0_mix 22 = .ok (.getfield 20, 3) := by decide +kernel
theorem dX0_mix_25 : decode cX0_mix 25 = .ok (.iload_n 1, 1) := by decide +kernel
theorem dX0_mix_26 : decode cX0_mix 26 = .ok (.invokevirtual 58, 3) := by decide +kernel
theorem dX0_mix_29 : decode cX0_mix 29 = .ok (.iload 4, 2) := by decide +kernel
theorem dX0_mix_31 : decode cX0_mix 31 = .ok (.iconst 1, 1) := by decide +kernel
theorem dX0_mix_32 : decode cX0_mix 32 = .ok (.isub, 1) := by decide +kernel
theorem dX0_mix_33 : decode cX0_mix 33 = .ok (.invokestatic 75, 3) := by decide +kernel
theorem dX0_mix_36 : decode cX0_mix 36 = .ok (.ifCond .eq 47, 3) := by decide +kernel
theorem dX0_mix_39 : decode cX0_mix 39 = .ok (.iload 4, 2) := by decide +kernel
theorem dX0_mix_41 : decode cX0_mix 41 = .ok (.aload_n 0, 1) := by decide +kernel
theorem dX0_mix_42 : decode cX0_mix 42 = .ok (.getfield 23, 3) := by decide +kernel
theorem dX0_mix_45 : decode cX0_mix 45 = .ok (.if_icmp .ne 7, 3) := by decide +kernel
theorem dX0_mix_48 : decode cX0_mix 48 = .ok (.iload_n 2, 1) := by decide +kernel
theorem dX0_mix_49 : decode cX0_mix 49 = .ok (.goto 8, 3) := by decide +kernel
theorem dX0_mix_52 : decode cX0_mix 52 = .ok (.iload_n 2, 1) := by decide +kernel
theorem dX0_mix_53 : decode cX0_mix 53 = .ok (.iconst 1, 1) := by decide +kernel
theorem dX0_mix_54 : decode cX0_mix 54 = .ok (.iload_n 1, 1) := by decide +kernel
theorem dX0_mix_55 : decode cX0_mix 55 = .ok (.ishl, 1) := by decide +kernel
theorem dX0_mix_56 : decode cX0_mix 56 = .ok (.ior, 1) := by decide +kernel
theorem dX0_mix_57 : decode cX0_mix 57 = .ok (.istore 5, 2) := by decide +kernel
theorem dX0_mix_59 : decode cX0_mix 59 = .ok (.aload_n 0, 1) := by decide +kernel
theorem dX0_mix_60 : decode cX0_mix 60 = .ok (.iload_n 1, 1) := by decide +kernel
theorem dX0_mix_61 : decode cX0_mix 61 = .ok (.iconst 1, 1) := by decide +kernel
theorem dX0_mix_62 : decode cX0_mix 62 = .ok (.iadd, 1) := by decide +kernel
theorem dX0_mix_63 : decode cX0_mix 63 = .ok (.iload 5, 2) := by decide +kernel
theorem dX0_mix_65 : decode cX0_mix 65 = .ok (.iload_n 3, 1) := by decide +kernel
theorem dX0_mix_66 : decode cX0_mix 66 = .ok (.aload_n 0, 1) := by decide +kernel
theorem dX0_mix_67 : decode cX0_mix 67 = .ok (.getfield 14, 3) := by decide +kernel
theorem dX0_mix_70 : decode cX0_mix 70 = .ok (.iload_n 1, 1) := by decide +kernel
theorem dX0_mix_71 : decode cX0_mix 71 = .ok (.iload 4, 2) := by decide +kernel
theorem dX0_mix_73 : decode cX0_mix 73 = .ok (.invokestatic 47, 3) := by decide +kernel
theorem dX0_mix_76 : decode cX0_mix 76 = .ok (.invokevirtual 58, 3) := by decide +kernel
theorem dX0_mix_79 : decode cX0_mix 79 = .ok (.iadd, 1) := by decide +kernel
theorem dX0_mix_80 : decode cX0_mix 80 = .ok (.invokevirtual 71, 3) := by decide +kernel
theorem dX0_mix_83 : decode cX0_mix 83 = .ok (.iinc 4 1, 3) := by decide +kernel
theorem dX0_mix_86 : decode cX0_mix 86 = .ok (.goto (-71), 3) := by decide +kernel
theorem dX0_mix_89 : decode cX0_mix 89 = .ok (.return_, 1) := by decide +kernel
set_option maxRecDepth 20000 in
theorem ggX0_weigh_X10_leadOf : GoodIn wsX0_weigh wsX10_leadOf := goodIn_r _ [12, 13, 4, 5, 6, 14, 15, 11, 16] (by decide +kernel) (by decide +kernel)
set_option maxRecDepth 20000 in
theorem gX0_weigh_X10_leadOf_n86 : GoodIn wsX0_weigh (wsX10_leadOf) := ggX0_weigh_X10_leadOf
set_option maxRecDepth 20000 in
theorem ggX0_weigh_X10_winnerOf : GoodIn wsX0_weigh wsX10_winnerOf := goodIn_r _ [18, 19, 10, 11, 12, 13, 4, 5, 6, 14, 15, 16] (by decide +kernel) (by decide +kernel)
set_option maxRecDepth 20000 in
theorem gX0_weigh_X10_winnerOf_n62 : GoodIn wsX0_weigh (wsX10_winnerOf) := ggX0_weigh_X10_winnerOf
set_option maxRecDepth 20000 in
theorem ggX0_weigh_X0_isFewer : GoodIn wsX0_weigh wsX0_isFewer := goodIn_r _ [24, 9, 25, 26, 27, 28, 29, 30, 31, 32, 33, 34, 35, 36, 37, 38, 39] (by decide +kernel) (by decide +kernel)
set_option maxRecDepth 20000 in
theorem gX0_weigh_X0_isFewer : GoodIn wsX0_weigh (wsV RX0 94 RX0 yX0_isFewer wsX0_isFewer) := goodIn_app (goodIn_of _ (by decide +kernel)) ggX0_weigh_X0_isFewer
theorem dX0_weigh_0 : decode cX0_weigh 0 = .ok (.aload_n 0, 1) := by decide +kernel
theorem dX0_weigh_1 : decode cX0_weigh 1 = .ok (.aload_n 0, 1) := by decide +kernel
theorem dX0_weigh_2 : decode cX0_weigh 2 = .ok (.getfield 36, 3) := by decide +kernel
theorem dX0_weigh_5 : decode cX0_weigh 5 = .ok (.aload_n 0, 1) := by decide +kernel
theorem dX0_weigh_6 : decode cX0_weigh 6 = .ok (.getfield 27, 3) := by decide +kernel
theorem dX0_weigh_9 : decode cX0_weigh 9 = .ok (.iload_n 2, 1) := by decide +kernel
theorem dX0_weigh_10 : decode cX0_weigh 10 = .ok (.invokestatic 86, 3) := by decide +kernel
theorem dX0_weigh_13 : decode cX0_weigh 13 = .ok (.invokestatic 89, 3) := by decide +kernel
theorem dX0_weigh_16 : decode cX0_weigh 16 = .ok (.putfield 36, 3) := by decide +kernel
theorem dX0_weigh_19 : decode cX0_weigh 19 = .ok (.iload_n 2, 1) := by decide +kernel
theorem dX0_weigh_20 : decode cX0_weigh 20 = .ok (.invokestatic 62, 3) := by decide +kernel
theorem dX0_weigh_23 : decode cX0_weigh 23 = .ok (.istore_n 3, 1) := by decide +kernel
theorem dX0_weigh_24 : decode cX0_weigh 24 = .ok (.iload_n 3, 1) := by decide +kernel
theorem dX0_weigh_25 : decode cX0_weigh 25 = .ok (.bipush (-4), 2) := by decide +kernel
theorem dX0_weigh_27 : decode cX0_weigh 27 = .ok (.if_icmp .ne 4, 3) := by decide +kernel
theorem dX0_weigh_30 : decode cX0_weigh 30 = .ok (.return_, 1) := by decide +kernel
theorem dX0_weigh_31 : decode cX0_weigh 31 = .ok (.aload_n 0, 1) := by decide +kernel
theorem dX0_weigh_32 : decode cX0_weigh 32 = .ok (.dup, 1) := by decide +kernel
theorem dX0_weigh_33 : decode cX0_weigh 33 = .ok (.getfield 33, 3) := by decide +kernel
theorem dX0_weigh_36 : decode cX0_weigh 36 = .ok (.iconst 1, 1) := by decide +kernel
theorem dX0_weigh_37 : decode cX0_weigh 37 = .ok (.iload_n 3, 1) := by decide +kernel
theorem dX0_weigh_38 : decode cX0_weigh 38 = .ok (.ishl, 1) := by decide +kernel
theorem dX0_weigh_39 : decode cX0_weigh 39 = .ok (.ior, 1) := by decide +kernel
theorem dX0_weigh_40 : decode cX0_weigh 40 = .ok (.putfield 33, 3) := by decide +kernel
theorem dX0_weigh_43 : decode cX0_weigh 43 = .ok (.iload_n 3, 1) := by decide +kernel
theorem dX0_weigh_44 : decode cX0_weigh 44 = .ok (.aload_n 0, 1) := by decide +kernel
theorem dX0_weigh_45 : decode cX0_weigh 45 = .ok (.getfield 30, 3) := by decide +kernel
theorem dX0_weigh_48 : decode cX0_weigh 48 = .ok (.if_icmp .eq 16, 3) := by decide +kernel
theorem dX0_weigh_51 : decode cX0_weigh 51 = .ok (.aload_n 0, 1) := by decide +kernel
theorem dX0_weigh_52 : decode cX0_weigh 52 = .ok (.iload_n 1, 1) := by decide +kernel
theorem dX0_weigh_53 : decode cX0_weigh 53 = .ok (.invokevirtual 94, 3) := by decide +kernel
theorem dX0_weigh_56 : decode cX0_weigh 56 = .ok (.ifCond .eq 8, 3) := by decide +kernel
theorem dX0_weigh_59 : decode cX0_weigh 59 = .ok (.aload_n 0, 1) := by decide +kernel
theorem dX0_weigh_60 : decode cX0_weigh 60 = .ok (.iload_n 1, 1) := by decide +kernel
theorem dX0_weigh_61 : decode cX0_weigh 61 = .ok (.putfield 39, 3) := by decide +kernel
theorem dX0_weigh_64 : decode cX0_weigh 64 = .ok (.return_, 1) := by decide +kernel
set_option maxRecDepth 20000 in
theorem ggX0_isFewer_J6_bitCount_0f7a4 : GoodIn wsX0_isFewer wsJ6_bitCount_0f7a4 := goodIn_r _ [5, 6, 7, 8] (by decide +kernel) (by decide +kernel)
set_option maxRecDepth 20000 in
theorem gX0_isFewer_J6_bitCount_0f7a4 : GoodIn wsX0_isFewer (va_wsS RX0 98 yJ6_bitCount_0f7a4 wsJ6_bitCount_0f7a4) := goodIn_app (goodIn_of _ (by decide +kernel)) ggX0_isFewer_J6_bitCount_0f7a4
theorem dX0_isFewer_0 : decode cX0_isFewer 0 = .ok (.aload_n 0, 1) := by decide +kernel
theorem dX0_isFewer_1 : decode cX0_isFewer 1 = .ok (.getfield 39, 3) := by decide +kernel
theorem dX0_isFewer_4 : decode cX0_isFewer 4 = .ok (.bipush (-4), 2) := by decide +kernel
theorem dX0_isFewer_6 : decode cX0_isFewer 6 = .ok (.if_icmp .ne 5, 3) := by decide +kernel
theorem dX0_isFewer_9 : decode cX0_isFewer 9 = .ok (.iconst 1, 1) := by decide +kernel
theorem dX0_isFewer_10 : decode cX0_isFewer 10 = .ok (.ireturn, 1) := by decide +kernel
theorem dX0_isFewer_11 : decode cX0_isFewer 11 = .ok (.iload_n 1, 1) := by decide +kernel
theorem dX0_isFewer_12 : decode cX0_isFewer 12 = .ok (.invokestatic 98, 3) := by decide +kernel
theorem dX0_isFewer_15 : decode cX0_isFewer 15 = .ok (.aload_n 0, 1) := by decide +kernel
theorem dX0_isFewer_16 : decode cX0_isFewer 16 = .ok (.getfield 39, 3) := by decide +kernel
theorem dX0_isFewer_19 : decode cX0_isFewer 19 = .ok (.invokestatic 98, 3) := by decide +kernel
theorem dX0_isFewer_22 : decode cX0_isFewer 22 = .ok (.isub, 1) := by decide +kernel
theorem dX0_isFewer_23 : decode cX0_isFewer 23 = .ok (.istore_n 2, 1) := by decide +kernel
theorem dX0_isFewer_24 : decode cX0_isFewer 24 = .ok (.iload_n 2, 1) := by decide +kernel
theorem dX0_isFewer_25 : decode cX0_isFewer 25 = .ok (.ifCond .lt 15, 3) := by decide +kernel
theorem dX0_isFewer_28 : decode cX0_isFewer 28 = .ok (.iload_n 2, 1) := by decide +kernel
theorem dX0_isFewer_29 : decode cX0_isFewer 29 = .ok (.ifCond .ne 15, 3) := by decide +kernel
theorem dX0_isFewer_32 : decode cX0_isFewer 32 = .ok (.iload_n 1, 1) := by decide +kernel
theorem dX0_isFewer_33 : decode cX0_isFewer 33 = .ok (.aload_n 0, 1) := by decide +kernel
theorem dX0_isFewer_34 : decode cX0_isFewer 34 = .ok (.getfield 39, 3) := by decide +kernel
theorem dX0_isFewer_37 : decode cX0_isFewer 37 = .ok (.if_icmp .ge 7, 3) := by decide +kernel
theorem dX0_isFewer_40 : decode cX0_isFewer 40 = .ok (.iconst 1, 1) := by decide +kernel
theorem dX0_isFewer_41 : decode cX0_isFewer 41 = .ok (.goto 4, 3) := by decide +kernel
theorem dX0_isFewer_44 : decode cX0_isFewer 44 = .ok (.iconst 0, 1) := by decide +kernel
theorem dX0_isFewer_45 : decode cX0_isFewer 45 = .ok (.ireturn, 1) := by decide +kernel
