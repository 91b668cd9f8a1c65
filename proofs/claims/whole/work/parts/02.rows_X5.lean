set_option maxRecDepth 20000 in
theorem ggX5_init_X2_init : GoodIn wsX5_init wsX2_init := goodIn_r _ [18, 19, 2, 3, 20, 21, 22, 10, 11, 23, 24, 25, 26, 27, 28, 29, 30, 31, 33, 34, 35, 36, 37, 44] (by decide +kernel) (by decide +kernel)
set_option maxRecDepth 20000 in
theorem gX5_init_X2_init : GoodIn wsX5_init (wsX2_init) := ggX5_init_X2_init
set_option maxRecDepth 20000 in
theorem ggX5_init_X6_init : GoodIn wsX5_init wsX6_init := goodIn_r _ [28, 29, 2, 3, 30, 31, 44] (by decide +kernel) (by decide +kernel)
set_option maxRecDepth 20000 in
theorem gX5_init_X6_init : GoodIn wsX5_init (wsX6_init) := ggX5_init_X6_init
theorem dX5_init_0 : decode cX5_init 0 = .ok (.aload_n 0, 1) := by decide +kernel
theorem dX5_init_1 : decode cX5_init 1 = .ok (.invokespecial 3, 3) := by decide +kernel
theorem dX5_init_4 : decode cX5_init 4 = .ok (.aload_n 0, 1) := by decide +kernel
theorem dX5_init_5 : decode cX5_init 5 = .ok (.new 9, 3) := by decide +kernel
theorem dX5_init_8 : decode cX5_init 8 = .ok (.dup, 1) := by decide +kernel
theorem dX5_init_9 : decode cX5_init 9 = .ok (.bipush 8, 2) := by decide +kernel
theorem dX5_init_11 : decode cX5_init 11 = .ok (.invokespecial 11, 3) := by decide +kernel
theorem dX5_init_14 : decode cX5_init 14 = .ok (.putfield 14, 3) := by decide +kernel
theorem dX5_init_17 : decode cX5_init 17 = .ok (.aload_n 0, 1) := by decide +kernel
theorem dX5_init_18 : decode cX5_init 18 = .ok (.new 9, 3) := by decide +kernel
theorem dX5_init_21 : decode cX5_init 21 = .ok (.dup, 1) := by decide +kernel
theorem dX5_init_22 : decode cX5_init 22 = .ok (.bipush 12, 2) := by decide +kernel
theorem dX5_init_24 : decode cX5_init 24 = .ok (.invokespecial 11, 3) := by decide +kernel
theorem dX5_init_27 : decode cX5_init 27 = .ok (.putfield 20, 3) := by decide +kernel
theorem dX5_init_30 : decode cX5_init 30 = .ok (.aload_n 0, 1) := by decide +kernel
theorem dX5_init_31 : decode cX5_init 31 = .ok (.new 23, 3) := by decide +kernel
theorem dX5_init_34 : decode cX5_init 34 = .ok (.dup, 1) := by decide +kernel
theorem dX5_init_35 : decode cX5_init 35 = .ok (.bipush 96, 2) := by decide +kernel
theorem dX5_init_37 : decode cX5_init 37 = .ok (.invokespecial 25, 3) := by decide +kernel
theorem dX5_init_40 : decode cX5_init 40 = .ok (.putfield 26, 3) := by decide +kernel
theorem dX5_init_43 : decode cX5_init 43 = .ok (.aload_n 0, 1) := by decide +kernel
theorem dX5_init_44 : decode cX5_init 44 = .ok (.new 23, 3) := by decide +kernel
theorem dX5_init_47 : decode cX5_init 47 = .ok (.dup, 1) := by decide +kernel
theorem dX5_init_48 : decode cX5_init 48 = .ok (.bipush 96, 2) := by decide +kernel
theorem dX5_init_50 : decode cX5_init 50 = .ok (.invokespecial 25, 3) := by decide +kernel
theorem dX5_init_53 : decode cX5_init 53 = .ok (.putfield 30, 3) := by decide +kernel
theorem dX5_init_56 : decode cX5_init 56 = .ok (.aload_n 0, 1) := by decide +kernel
theorem dX5_init_57 : decode cX5_init 57 = .ok (.new 23, 3) := by decide +kernel
theorem dX5_init_60 : decode cX5_init 60 = .ok (.dup, 1) := by decide +kernel
theorem dX5_init_61 : decode cX5_init 61 = .ok (.bipush 12, 2) := by decide +kernel
theorem dX5_init_63 : decode cX5_init 63 = .ok (.invokespecial 25, 3) := by decide +kernel
theorem dX5_init_66 : decode cX5_init 66 = .ok (.putfield 33, 3) := by decide +kernel
theorem dX5_init_69 : decode cX5_init 69 = .ok (.aload_n 0, 1) := by decide +kernel
theorem dX5_init_70 : decode cX5_init 70 = .ok (.bipush 80, 2) := by decide +kernel
theorem dX5_init_72 : decode cX5_init 72 = .ok (.putfield 36, 3) := by decide +kernel
theorem dX5_init_75 : decode cX5_init 75 = .ok (.return_, 1) := by decide +kernel
set_option maxRecDepth 20000 in
theorem ggX5_addListed_X2_add : GoodIn wsX5_addListed wsX2_add := goodIn_r _ [7, 8, 9, 10, 11, 12, 13, 14, 15, 16, 17, 18, 19, 20, 21, 84, 85, 86, 87, 88, 89] (by decide +kernel) (by decide +kernel)
set_option maxRecDepth 20000 in
theorem gX5_addListed_X2_add : GoodIn wsX5_addListed (wsV RX5 40 RX2 yX2_add wsX2_add) := goodIn_app (goodIn_of _ (by decide +kernel)) ggX5_addListed_X2_add
set_option maxRecDepth 20000 in
theorem ggX5_addListed_X2_size : GoodIn wsX5_addListed wsX2_size := goodIn_r _ [25, 8, 84, 85, 86, 87, 88] (by decide +kernel) (by decide +kernel)
set_option maxRecDepth 20000 in
theorem gX5_addListed_X2_size : GoodIn wsX5_addListed (wsV RX5 44 RX2 yX2_size wsX2_size) := goodIn_app (goodIn_of _ (by decide +kernel)) ggX5_addListed_X2_size
set_option maxRecDepth 20000 in
theorem ggX5_addListed_X5_compare : GoodIn wsX5_addListed wsX5_compare := goodIn_r _ [30, 2, 1, 31, 32, 33, 34, 35, 36, 37, 38, 39, 29, 40, 41, 42, 43, 6, 44, 8, 45, 46, 47, 48, 49, 50, 51, 52, 53, 54, 55, 56, 10, 57, 58, 59, 19, 60, 21, 61, 62, 63, 64, 65, 66, 67, 68, 69, 70, 71, 72, 73, 11, 74, 75, 76, 77, 17, 18, 20, 78, 79, 80, 81, 82, 83, 84, 85, 86, 87, 88, 89] (by decide +kernel) (by decide +kernel)
set_option maxRecDepth 20000 in
theorem gX5_addListed_X5_compare : GoodIn wsX5_addListed (wsV RX5 48 RX5 yX5_compare wsX5_compare) := goodIn_app (goodIn_of _ (by decide +kernel)) ggX5_addListed_X5_compare
theorem dX5_addListed_0 : decode cX5_addListed 0 = .ok (.aload_n 0, 1) := by decide +kernel
theorem dX5_addListed_1 : decode cX5_addListed 1 = .ok (.getfield 14, 3) := by decide +kernel
theorem dX5_addListed_4 : decode cX5_addListed 4 = .ok (.lload_n 1, 1) := by decide +kernel
theorem dX5_addListed_5 : decode cX5_addListed 5 = .ok (.iload_n 3, 1) := by decide +kernel
theorem dX5_addListed_6 : decode cX5_addListed 6 = .ok (.iconst 5, 1) := by decide +kernel
theorem dX5_addListed_7 : decode cX5_addListed 7 = .ok (.invokevirtual 40, 3) := by decide +kernel
theorem dX5_addListed_10 : decode cX5_addListed 10 = .ok (.istore 4, 2) := by decide +kernel
theorem dX5_addListed_12 : decode cX5_addListed 12 = .ok (.iconst 0, 1) := by decide +kernel
theorem dX5_addListed_13 : decode cX5_addListed 13 = .ok (.istore 5, 2) := by decide +kernel
theorem dX5_addListed_15 : decode cX5_addListed 15 = .ok (.iload 5, 2) := by decide +kernel
theorem dX5_addListed_17 : decode cX5_addListed 17 = .ok (.aload_n 0, 1) := by decide +kernel
theorem dX5_addListed_18 : decode cX5_addListed 18 = .ok (.getfield 20, 3) := by decide +kernel
theorem dX5_addListed_21 : decode cX5_addListed 21 = .ok (.invokevirtual 44, 3) := by decide +kernel
theorem dX5_addListed_24 : decode cX5_addListed 24 = .ok (.if_icmp .ge 17, 3) := by decide +kernel
theorem dX5_addListed_27 : decode cX5_addListed 27 = .ok (.aload_n 0, 1) := by decide +kernel
theorem dX5_addListed_28 : decode cX5_addListed 28 = .ok (.iload 5, 2) := by decide +kernel
theorem dX5_addListed_30 : decode cX5_addListed 30 = .ok (.iload 4, 2) := by decide +kernel
theorem dX5_addListed_32 : decode cX5_addListed 32 = .ok (.invokevirtual 48, 3) := by decide +kernel
theorem dX5_addListed_35 : decode cX5_addListed 35 = .ok (.iinc 5 1, 3) := by decide +kernel
theorem dX5_addListed_38 : decode cX5_addListed 38 = .ok (.goto (-23), 3) := by decide +kernel
theorem dX5_addListed_41 : decode cX5_addListed 41 = .ok (.iload 4, 2) := by decide +kernel
theorem dX5_addListed_43 : decode cX5_addListed 43 = .ok (.ireturn, 1) := by decide +kernel
set_option maxRecDepth 20000 in
theorem ggX5_addVoter_X2_add : GoodIn wsX5_addVoter wsX2_add := goodIn_r _ [7, 8, 9, 10, 11, 12, 13, 14, 15, 16, 17, 18, 19, 20, 21, 84, 85, 86, 87, 88, 89] (by decide +kernel) (by decide +kernel)
set_option maxRecDepth 20000 in
theorem gX5_addVoter_X2_add : GoodIn wsX5_addVoter (wsV RX5 40 RX2 yX2_add wsX2_add) := goodIn_app (goodIn_of _ (by decide +kernel)) ggX5_addVoter_X2_add
set_option maxRecDepth 20000 in
theorem ggX5_addVoter_X2_size : GoodIn wsX5_addVoter wsX2_size := goodIn_r _ [25, 8, 84, 85, 86, 87, 88] (by decide +kernel) (by decide +kernel)
set_option maxRecDepth 20000 in
theorem gX5_addVoter_X2_size : GoodIn wsX5_addVoter (wsV RX5 44 RX2 yX2_size wsX2_size) := goodIn_app (goodIn_of _ (by decide +kernel)) ggX5_addVoter_X2_size
set_option maxRecDepth 20000 in
theorem ggX5_addVoter_X5_compare : GoodIn wsX5_addVoter wsX5_compare := goodIn_r _ [30, 1, 2, 31, 32, 33, 34, 35, 36, 37, 38, 39, 29, 40, 41, 42, 43, 6, 44, 8, 45, 46, 47, 48, 49, 50, 51, 52, 53, 54, 55, 56, 10, 57, 58, 59, 19, 60, 21, 61, 62, 63, 64, 65, 66, 67, 68, 69, 70, 71, 72, 73, 11, 74, 75, 76, 77, 17, 18, 20, 78, 79, 80, 81, 82, 83, 84, 85, 86, 87, 88, 89] (by decide +kernel) (by decide +kernel)
set_option maxRecDepth 20000 in
theorem gX5_addVoter_X5_compare : GoodIn wsX5_addVoter (wsV RX5 48 RX5 yX5_compare wsX5_compare) := goodIn_app (goodIn_of _ (by decide +kernel)) ggX5_addVoter_X5_compare
theorem dX5_addVoter_0 : decode cX5_addVoter 0 = .ok (.aload_n 0, 1) := by decide +kernel
theorem dX5_addVoter_1 : decode cX5_addVoter 1 = .ok (.getfield 20, 3) := by decide +kernel
theorem dX5_addVoter_4 : decode cX5_addVoter 4 = .ok (.lload_n 1, 1) := by decide +kernel
theorem dX5_addVoter_5 : decode cX5_addVoter 5 = .ok (.iload_n 3, 1) := by decide +kernel
theorem dX5_addVoter_6 : decode cX5_addVoter 6 = .ok (.iload 4, 2) := by decide +kernel
theorem dX5_addVoter_8 : decode cX5_addVoter 8 = .ok (.invokevirtual 40, 3) := by decide +kernel
theorem dX5_addVoter_11 : decode cX5_addVoter 11 = .ok (.istore 5, 2) := by decide +kernel
theorem dX5_addVoter_13 : decode cX5_addVoter 13 = .ok (.iconst 0, 1) := by decide +kernel
theorem dX5_addVoter_14 : decode cX5_addVoter 14 = .ok (.istore 6, 2) := by decide +kernel
theorem dX5_addVoter_16 : decode cX5_addVoter 16 = .ok (.iload 6, 2) := by decide +kernel
theorem dX5_addVoter_18 : decode cX5_addVoter 18 = .ok (.aload_n 0, 1) := by decide +kernel
theorem dX5_addVoter_19 : decode cX5_addVoter 19 = .ok (.getfield 14, 3) := by decide +kernel
theorem dX5_addVoter_22 : decode cX5_addVoter 22 = .ok (.invokevirtual 44, 3) := by decide +kernel
theorem dX5_addVoter_25 : decode cX5_addVoter 25 = .ok (.if_icmp .ge 17, 3) := by decide +kernel
theorem dX5_addVoter_28 : decode cX5_addVoter 28 = .ok (.aload_n 0, 1) := by decide +kernel
theorem dX5_addVoter_29 : decode cX5_addVoter 29 = .ok (.iload 5, 2) := by decide +kernel
theorem dX5_addVoter_31 : decode cX5_addVoter 31 = .ok (.iload 6, 2) := by decide +kernel
theorem dX5_addVoter_33 : decode cX5_addVoter 33 = .ok (.invokevirtual 48, 3) := by decide +kernel
theorem dX5_addVoter_36 : decode cX5_addVoter 36 = .ok (.iinc 6 1, 3) := by decide +kernel
theorem dX5_addVoter_39 : decode cX5_addVoter 39 = .ok (.goto (-23), 3) := by decide +kernel
theorem dX5_addVoter_42 : decode cX5_addVoter 42 = .ok (.iload 5, 2) := by decide +kernel
theorem dX5_addVoter_44 : decode cX5_addVoter 44 = .ok (.ireturn, 1) := by decide +kernel
set_option maxRecDepth 20000 in
theorem ggX5_compare_X5_hasVoter : GoodIn wsX5_compare wsX5_hasVoter := goodIn_r _ [13, 1, 14, 15, 16, 17, 18, 19, 60, 61, 62, 63, 64, 65, 66, 67, 68, 69, 70] (by decide +kernel) (by decide +kernel)
set_option maxRecDepth 20000 in
theorem gX5_compare_X5_hasVoter : GoodIn wsX5_compare (wsV RX5 52 RX5 yX5_hasVoter wsX5_hasVoter) := goodIn_app (goodIn_of _ (by decide +kernel)) ggX5_compare_X5_hasVoter
set_option maxRecDepth 20000 in
theorem ggX5_compare_X5_hasListed : GoodIn wsX5_compare wsX5_hasListed := goodIn_r _ [23, 2, 14, 15, 16, 17, 18, 19, 60, 61, 62, 63, 64, 65, 66, 67, 68, 69, 70] (by decide +kernel) (by decide +kernel)
set_option maxRecDepth 20000 in
theorem gX5_compare_X5_hasListed : GoodIn wsX5_compare (wsV RX5 56 RX5 yX5_hasListed wsX5_hasListed) := goodIn_app (goodIn_of _ (by decide +kernel)) ggX5_compare_X5_hasListed
set_option maxRecDepth 20000 in
theorem ggX5_compare_X2_nameLength : GoodIn wsX5_compare wsX2_nameLength := goodIn_r _ [27, 28, 29, 30, 17, 31, 32, 33, 34, 35, 36, 37, 38, 66, 67, 68, 69, 70, 71] (by decide +kernel) (by decide +kernel)
set_option maxRecDepth 20000 in
theorem gX5_compare_X2_nameLength : GoodIn wsX5_compare (wsV RX5 59 RX2 yX2_nameLength wsX2_nameLength) := goodIn_app (goodIn_of _ (by decide +kernel)) ggX5_compare_X2_nameLength
set_option maxRecDepth 20000 in
theorem ggX5_compare_X5_sameLetters : GoodIn wsX5_compare wsX5_sameLetters := goodIn_r _ [42, 1, 2, 43, 29, 30, 17, 31, 32, 33, 34, 35, 36, 37, 38, 60, 61, 62, 63, 64, 65, 66, 67, 68, 69, 70, 71] (by decide +kernel) (by decide +kernel)
set_option maxRecDepth 20000 in
theorem gX5_compare_X5_sameLetters : GoodIn wsX5_compare (wsV RX5 69 RX5 yX5_sameLetters wsX5_sameLetters) := goodIn_app (goodIn_of _ (by decide +kernel)) ggX5_compare_X5_sameLetters
set_option maxRecDepth 20000 in
theorem ggX5_compare_X5_isDayUntold : GoodIn wsX5_compare wsX5_isDayUntold := goodIn_r _ [47, 1, 2, 48, 49, 50, 17, 51, 52, 33, 34, 35, 36, 37, 38, 60, 61, 62, 63, 64, 65, 66, 67, 68, 69, 70, 71] (by decide +kernel) (by decide +kernel)
set_option maxRecDepth 20000 in
theorem gX5_compare_X5_isDayUntold : GoodIn wsX5_compare (wsV RX5 72 RX5 yX5_isDayUntold wsX5_isDayUntold) := goodIn_app (goodIn_of _ (by decide +kernel)) ggX5_compare_X5_isDayUntold
set_option maxRecDepth 20000 in
theorem ggX5_compare_X2_dayOf : GoodIn wsX5_compare wsX2_dayOf := goodIn_r _ [51, 52, 33, 34, 35, 36, 37, 38, 66, 67, 68, 69, 70, 71] (by decide +kernel) (by decide +kernel)
set_option maxRecDepth 20000 in
theorem gX5_compare_X2_dayOf : GoodIn wsX5_compare (wsV RX5 76 RX2 yX2_dayOf wsX2_dayOf) := goodIn_app (goodIn_of _ (by decide +kernel)) ggX5_compare_X2_dayOf
set_option maxRecDepth 20000 in
theorem ggX5_compare_X5_pair : GoodIn wsX5_compare wsX5_pair := goodIn_r _ [55] (by decide +kernel) (by decide +kernel)
set_option maxRecDepth 20000 in
theorem gX5_compare_X5_pair : GoodIn wsX5_compare (va_wsS RX5 79 yX5_pair wsX5_pair) := goodIn_app (goodIn_of _ (by decide +kernel)) ggX5_compare_X5_pair
set_option maxRecDepth 20000 in
theorem ggX5_compare_X6_set : GoodIn wsX5_compare wsX6_set := goodIn_r _ [59, 38, 71] (by decide +kernel) (by decide +kernel)
set_option maxRecDepth 20000 in
theorem gX5_compare_X6_set : GoodIn wsX5_compare (wsV RX5 82 RX6 yX6_set wsX6_set) := goodIn_app (goodIn_of _ (by decide +kernel)) ggX5_compare_X6_set
theorem dX5_compare_0 : decode cX5_compare 0 = .ok (.aload_n 0, 1) := by decide +kernel
theorem dX5_compare_1 : decode cX5_compare 1 = .ok (.iload_n 1, 1) := by decide +kernel
theorem dX5_compare_2 : decode cX5_compare 2 = .ok (.invokevirtual 52, 3) := by decide +kernel
theorem dX5_compare_5 : decode cX5_compare 5 = .ok (.ifCond .eq 11, 3) := by decide +kernel
theorem dX5_compare_8 : decode cX5_compare 8 = .ok (.aload_n 0, 1) := by decide +kernel
theorem dX5_compare_9 : decode cX5_compare 9 = .ok (.iload_n 2, 1) := by decide +kernel
theorem dX5_compare_10 : decode cX5_compare 10 = .ok (.invokevirtual 56, 3) := by decide +kernel
theorem dX5_compare_13 : decode cX5_compare 13 = .ok (.ifCond .ne 4, 3) := by decide +kernel
theorem dX5_compare_16 : decode cX5_compare 16 = .ok (.return_, 1) := by decide +kernel
theorem dX5_compare_17 : decode cX5_compare 17 = .ok (.aload_n 0, 1) := by decide +kernel
theorem dX5_compare_18 : decode cX5_compare 18 = .ok (.getfield 20, 3) := by decide +kernel
theorem dX5_compare_21 : decode cX5_compare 21 = .ok (.iload_n 1, 1) := by decide +kernel
theorem dX5_compare_22 : decode cX5_compare 22 = .ok (.invokevirtual 59, 3) := by decide +kernel
theorem dX5_compare_25 : decode cX5_compare 25 = .ok (.aload_n 0, 1) := by decide +kernel
theorem dX5_compare_26 : decode cX5_compare 26 = .ok (.getfield 14, 3) := by decide +kernel
theorem dX5_compare_29 : decode cX5_compare 29 = .ok (.iload_n 2, 1) := by decide +kernel
theorem dX5_compare_30 : decode cX5_compare 30 = .ok (.invokevirtual 59, 3) := by decide +kernel
theorem dX5_compare_33 : decode cX5_compare 33 = .ok (.invokestatic 63, 3) := by decide +kernel
theorem dX5_compare_36 : decode cX5_compare 36 = .ok (.istore_n 3, 1) := by decide +kernel
theorem dX5_compare_37 : decode cX5_compare 37 = .ok (.iload_n 3, 1) := by decide +kernel
theorem dX5_compare_38 : decode cX5_compare 38 = .ok (.iconst 1, 1) := by decide +kernel
theorem dX5_compare_39 : decode cX5_compare 39 = .ok (.if_icmp .ge 7, 3) := by decide +kernel
theorem dX5_compare_42 : decode cX5_compare 42 = .ok (.iconst 0, 1) := by decide +kernel
theorem dX5_compare_43 : decode cX5_compare 43 = .ok (.goto 14, 3) := by decide +kernel
theorem dX5_compare_46 : decode cX5_compare 46 = .ok (.bipush 100, 2) := by decide +kernel
theorem dX5_compare_48 : decode cX5_compare 48 = .ok (.aload_n 0, 1) := by decide +kernel
theorem dX5_compare_49 : decode cX5_compare 49 = .ok (.iload_n 1, 1) := by decide +kernel
theorem dX5_compare_50 : decode cX5_compare 50 = .ok (.iload_n 2, 1) := by decide +kernel
theorem dX5_compare_51 : decode cX5_compare 51 = .ok (.invokevirtual 69, 3) := by decide +kernel
theorem dX5_compare_54 : decode cX5_compare 54 = .ok (.imul, 1) := by decide +kernel
theorem dX5_compare_55 : decode cX5_compare 55 = .ok (.iload_n 3, 1) := by decide +kernel
theorem dX5_compare_56 : decode cX5_compare 56 = .ok (.idiv, 1) := by decide +kernel
theorem dX5_compare_57 : decode cX5_compare 57 = .ok (.istore 4, 2) := by decide +kernel
theorem dX5_compare_59 : decode cX5_compare 59 = .ok (.aload_n 0, 1) := by decide +kernel
theorem dX5_compare_60 : decode cX5_compare 60 = .ok (.iload_n 1, 1) := by decide +kernel
theorem dX5_compare_61 : decode cX5_compare 61 = .ok (.iload_n 2, 1) := by decide +kernel
theorem dX5_compare_62 : decode cX5_compare 62 = .ok (.invokevirtual 72, 3) := by decide +kernel
theorem dX5_compare_65 : decode cX5_compare 65 = .ok (.ifCond .ne 22, 3) := by decide +kernel
theorem dX5_compare_68 : decode cX5_compare 68 = .ok (.aload_n 0, 1) := by decide +kernel
theorem dX5_compare_69 : decode cX5_compare 69 = .ok (.getfield 20, 3) := by decide +kernel
theorem dX5_compare_72 : decode cX5_compare 72 = .ok (.iload_n 1, 1) := by decide +kernel
theorem dX5_compare_73 : decode cX5_compare 73 = .ok (.invokevirtual 76, 3) := by decide +kernel
theorem dX5_compare_76 : decode cX5_compare 76 = .ok (.aload_n 0, 1) := by decide +kernel
theorem dX5_compare_77 : decode cX5_compare 77 = .ok (.getfield 14, 3) := by decide +kernel
theorem dX5_compare_80 : decode cX5_compare 80 = .ok (.iload_n 2, 1) := by decide +kernel
theorem dX5_compare_81 : decode cX5_compare 81 = .ok (.invokevirtual 76, 3) := by decide +kernel
theorem dX5_compare_84 : decode cX5_compare 84 = .ok (.if_icmp .ne 7, 3) := by decide +kernel
theorem dX5_compare_87 : decode cX5_compare 87 = .ok (.iconst 1, 1) := by decide +kernel
theorem dX5_compare_88 : decode cX5_compare 88 = .ok (.goto 4, 3) := by decide +kernel
theorem dX5_compare_91 : decode cX5_compare 91 = .ok (.iconst 0, 1) := by decide +kernel
theorem dX5_compare_92 : decode cX5_compare 92 = .ok (.istore 5, 2) := by decide +kernel
theorem dX5_compare_94 : decode cX5_compare 94 = .ok (.aload_n 0, 1) := by decide +kernel
theorem dX5_compare_95 : decode cX5_compare 95 = .ok (.getfield 26, 3) := by decide +kernel
theorem dX5_compare_98 : decode cX5_compare 98 = .ok (.iload_n 1, 1) := by decide +kernel
theorem dX5_compare_99 : decode cX5_compare 99 = .ok (.iload_n 2, 1) := by decide +kernel
theorem dX5_compare_100 : decode cX5_compare 100 = .ok (.invokestatic 79, 3) := by decide +kernel
theorem dX5_compare_103 : decode cX5_compare 103 = .ok (.iload 4, 2) := by decide +kernel
theorem dX5_compare_105 : decode cX5_compare 105 = .ok (.invokevirtual 82, 3) := by decide +kernel
theorem dX5_compare_108 : decode cX5_compare 108 = .ok (.aload_n 0, 1) := by decide +kernel
theorem dX5_compare_109 : decode cX5_compare 109 = .ok (.getfield 30, 3) := by decide +kernel
theorem dX5_compare_112 : decode cX5_compare 112 = .ok (.iload_n 1, 1) := by decide +kernel
theorem dX5_compare_113 : decode cX5_compare 113 = .ok (.iload_n 2, 1) := by decide +kernel
theorem dX5_compare_114 : decode cX5_compare 114 = .ok (.invokestatic 79, 3) := by decide +kernel
theorem dX5_compare_117 : decode cX5_compare 117 = .ok (.iload 5, 2) := by decide +kernel
theorem dX5_compare_119 : decode cX5_compare 119 = .ok (.ifCond .eq 8, 3) := by decide +kernel
theorem dX5_compare_122 : decode cX5_compare 122 = .ok (.iload 4, 2) := by decide +kernel
theorem dX5_compare_124 : decode cX5_compare 124 = .ok (.goto 4, 3) := by decide +kernel
theorem dX5_compare_127 : decode cX5_compare 127 = .ok (.iconst 0, 1) := by decide +kernel
theorem dX5_compare_128 : decode cX5_compare 128 = .ok (.invokevirtual 82, 3) := by decide +kernel
theorem dX5_compare_131 : decode cX5_compare 131 = .ok (.return_, 1) := by decide +kernel
theorem dX5_pair_0 : decode cX5_pair 0 = .ok (.iload_n 0, 1) := by decide +kernel
theorem dX5_pair_1 : decode cX5_pair 1 = .ok (.bipush 8, 2) := by decide +kernel
theorem dX5_pair_3 : decode cX5_pair 3 = .ok (.imul, 1) := by decide +kernel
theorem dX5_pair_4 : decode cX5_pair 4 = .ok (.iload_n 1, 1) := by decide +kernel
theorem dX5_pair_5 : decode cX5_pair 5 = .ok (.iadd, 1) := by decide +kernel
theorem dX5_pair_6 : decode cX5_pair 6 = .ok (.ireturn, 1) := by decide +kernel
set_option maxRecDepth 20000 in
theorem ggX5_hasListed_X2_has : GoodIn wsX5_hasListed wsX2_has := goodIn_r _ [6, 7, 14, 15, 16, 17, 18] (by decide +kernel) (by decide +kernel)
set_option maxRecDepth 20000 in
theorem gX5_hasListed_X2_has : GoodIn wsX5_hasListed (wsV RX5 85 RX2 yX2_has wsX2_has) := goodIn_app (goodIn_of _ (by decide +kernel)) ggX5_hasListed_X2_has
theorem dX5_hasListed_0 : decode cX5_hasListed 0 = .ok (.aload_n 0, 1) := by decide +kernel
theorem dX5_hasListed_1 : decode cX5_hasListed 1 = .ok (.getfield 14, 3) := by decide +kernel
theorem dX5_hasListed_4 : decode cX5_hasListed 4 = .ok (.iload_n 1, 1) := by decide +kernel
theorem dX5_hasListed_5 : decode cX5_hasListed 5 = .ok (.invokevirtual 85, 3) := by decide +kernel
theorem dX5_hasListed_8 : decode cX5_hasListed 8 = .ok (.ireturn, 1) := by decide +kernel
set_option maxRecDepth 20000 in
theorem ggX5_hasVoter_X2_has : GoodIn wsX5_hasVoter wsX2_has := goodIn_r _ [6, 7, 14, 15, 16, 17, 18] (by decide +kernel) (by decide +kernel)
set_option maxRecDepth 20000 in
theorem gX5_hasVoter_X2_has : GoodIn wsX5_hasVoter (wsV RX5 85 RX2 yX2_has wsX2_has) := goodIn_app (goodIn_of _ (by decide +kernel)) ggX5_hasVoter_X2_has
theorem dX5_hasVoter_0 : decode cX5_hasVoter 0 = .ok (.aload_n 0, 1) := by decide +kernel
theorem dX5_hasVoter_1 : decode cX5_hasVoter 1 = .ok (.getfield 20, 3) := by decide +kernel
theorem dX5_hasVoter_4 : decode cX5_hasVoter 4 = .ok (.iload_n 1, 1) := by decide +kernel
theorem dX5_hasVoter_5 : decode cX5_hasVoter 5 = .ok (.invokevirtual 85, 3) := by decide +kernel
theorem dX5_hasVoter_8 : decode cX5_hasVoter 8 = .ok (.ireturn, 1) := by decide +kernel
set_option maxRecDepth 20000 in
theorem ggX5_listedSize_X2_size : GoodIn wsX5_listedSize wsX2_size := goodIn_r _ [6, 7, 14, 15, 16, 17, 18] (by decide +kernel) (by decide +kernel)
set_option maxRecDepth 20000 in
theorem gX5_listedSize_X2_size : GoodIn wsX5_listedSize (wsV RX5 44 RX2 yX2_size wsX2_size) := goodIn_app (goodIn_of _ (by decide +kernel)) ggX5_listedSize_X2_size
theorem dX5_listedSize_0 : decode cX5_listedSize 0 = .ok (.aload_n 0, 1) := by decide +kernel
theorem dX5_listedSize_1 : decode cX5_listedSize 1 = .ok (.getfield 14, 3) := by decide +kernel
theorem dX5_listedSize_4 : decode cX5_listedSize 4 = .ok (.invokevirtual 44, 3) := by decide +kernel
theorem dX5_listedSize_7 : decode cX5_listedSize 7 = .ok (.ireturn, 1) := by decide +kernel
set_option maxRecDepth 20000 in
theorem ggX5_votersSize_X2_size : GoodIn wsX5_votersSize wsX2_size := goodIn_r _ [6, 7, 14, 15, 16, 17, 18] (by decide +kernel) (by decide +kernel)
set_option maxRecDepth 20000 in
theorem gX5_votersSize_X2_size : GoodIn wsX5_votersSize (wsV RX5 44 RX2 yX2_size wsX2_size) := goodIn_app (goodIn_of _ (by decide +kernel)) ggX5_votersSize_X2_size
theorem dX5_votersSize_0 : decode cX5_votersSize 0 = .ok (.aload_n 0, 1) := by decide +kernel
theorem dX5_votersSize_1 : decode cX5_votersSize 1 = .ok (.getfield 20, 3) := by decide +kernel
theorem dX5_votersSize_4 : decode cX5_votersSize 4 = .ok (.invokevirtual 44, 3) := by decide +kernel
theorem dX5_votersSize_7 : decode cX5_votersSize 7 = .ok (.ireturn, 1) := by decide +kernel
theorem dX5_changeThreshold_0 : decode cX5_changeThreshold 0 = .ok (.aload_n 0, 1) := by decide +kernel
theorem dX5_changeThreshold_1 : decode cX5_changeThreshold 1 = .ok (.getfield 36, 3) := by decide +kernel
theorem dX5_changeThreshold_4 : decode cX5_changeThreshold 4 = .ok (.istore_n 2, 1) := by decide +kernel
theorem dX5_changeThreshold_5 : decode cX5_changeThreshold 5 = .ok (.aload_n 0, 1) := by decide +kernel
theorem dX5_changeThreshold_6 : decode cX5_changeThreshold 6 = .ok (.iload_n 1, 1) := by decide +kernel
theorem dX5_changeThreshold_7 : decode cX5_changeThreshold 7 = .ok (.putfield 36, 3) := by decide +kernel
theorem dX5_changeThreshold_10 : decode cX5_changeThreshold 10 = .ok (.iload_n 2, 1) := by decide +kernel
theorem dX5_changeThreshold_11 : decode cX5_changeThreshold 11 = .ok (.ireturn, 1) := by decide +kernel
set_option maxRecDepth 20000 in
theorem ggX5_alikeness_X5_pair : GoodIn wsX5_alikeness wsX5_pair := goodIn_r _ [5] (by decide +kernel) (by decide +kernel)
set_option maxRecDepth 20000 in
theorem gX5_alikeness_X5_pair : GoodIn wsX5_alikeness (va_wsS RX5 79 yX5_pair wsX5_pair) := goodIn_app (goodIn_of _ (by decide +kernel)) ggX5_alikeness_X5_pair
set_option maxRecDepth 20000 in
theorem ggX5_alikeness_X6_get : GoodIn wsX5_alikeness wsX6_get := goodIn_r _ [10, 11, 18] (by decide +kernel) (by decide +kernel)
set_option maxRecDepth 20000 in
theorem gX5_alikeness_X6_get : GoodIn wsX5_alikeness (wsV RX5 88 RX6 yX6_get wsX6_get) := goodIn_app (goodIn_of _ (by decide +kernel)) ggX5_alikeness_X6_get
theorem dX5_alikeness_0 : decode cX5_alikeness 0 = .ok (.aload_n 0, 1) := by decide +kernel
theorem dX5_alikeness_1 : decode cX5_alikeness 1 = .ok (.getfield 26, 3) := by decide +kernel
theorem dX5_alikeness_4 : decode cX5_alikeness 4 = .ok (.iload_n 1, 1) := by decide +kernel
theorem dX5_alikeness_5 : decode cX5_alikeness 5 = .ok (.iload_n 2, 1) := by decide +kernel
theorem dX5_alikeness_6 : decode cX5_alikeness 6 = .ok (.invokestatic 79, 3) := by decide +kernel
theorem dX5_alikeness_9 : decode cX5_alikeness 9 = .ok (.invokevirtual 88, 3) := by decide +kernel
theorem dX5_alikeness_12 : decode cX5_alikeness 12 = .ok (.ireturn, 1) := by decide +kernel
set_option maxRecDepth 20000 in
theorem ggX5_sameLetters_X2_letter : GoodIn wsX5_sameLetters wsX2_letter := goodIn_r _ [7, 8, 9, 10, 11, 12, 13, 14, 21, 22, 23, 24, 25, 26] (by decide +kernel) (by decide +kernel)
set_option maxRecDepth 20000 in
theorem gX5_sameLetters_X2_letter : GoodIn wsX5_sameLetters (wsV RX5 91 RX2 yX2_letter wsX2_letter) := goodIn_app (goodIn_of _ (by decide +kernel)) ggX5_sameLetters_X2_letter
theorem dX5_sameLetters_0 : decode cX5_sameLetters 0 = .ok (.iconst 0, 1) := by decide +kernel
theorem dX5_sameLetters_1 : decode cX5_sameLetters 1 = .ok (.istore_n 3, 1) := by decide +kernel
theorem dX5_sameLetters_2 : decode cX5_sameLetters 2 = .ok (.iconst 0, 1) := by decide +kernel
theorem dX5_sameLetters_3 : decode cX5_sameLetters 3 = .ok (.istore 4, 2) := by decide +kernel
theorem dX5_sameLetters_5 : decode cX5_sameLetters 5 = .ok (.iload 4, 2) := by decide +kernel
theorem dX5_sameLetters_7 : decode cX5_sameLetters 7 = .ok (.bipush 8, 2) := by decide +kernel
theorem dX5_sameLetters_9 : decode cX5_sameLetters 9 = .ok (.if_icmp .ge 44, 3) := by decide +kernel
theorem dX5_sameLetters_12 : decode cX5_sameLetters 12 = .ok (.aload_n 0, 1) := by decide +kernel
theorem dX5_sameLetters_13 : decode cX5_sameLetters 13 = .ok (.getfield 20, 3) := by decide +kernel
theorem dX5_sameLetters_16 : decode cX5_sameLetters 16 = .ok (.iload_n 1, 1) := by decide +kernel
theorem dX5_sameLetters_17 : decode cX5_sameLetters 17 = .ok (.iload 4, 2) := by decide +kernel
theorem dX5_sameLetters_19 : decode cX5_sameLetters 19 = .ok (.invokevirtual 91, 3) := by decide +kernel
theorem dX5_sameLetters_22 : decode cX5_sameLetters 22 = .ok (.istore 5, 2) := by decide +kernel
theorem dX5_sameLetters_24 : decode cX5_sameLetters 24 = .ok (.iload 5, 2) := by decide +kernel
theorem dX5_sameLetters_26 : decode cX5_sameLetters 26 = .ok (.ifCond .eq 21, 3) := by decide +kernel
theorem dX5_sameLetters_29 : decode cX5_sameLetters 29 = .ok (.iload 5, 2) := by decide +kernel
theorem dX5_sameLetters_31 : decode cX5_sameLetters 31 = .ok (.aload_n 0, 1) := by decide +kernel
theorem dX5_sameLetters_32 : decode cX5_sameLetters 32 = .ok (.getfield 14, 3) := by decide +kernel
theorem dX5_sameLetters_35 : decode cX5_sameLetters 35 = .ok (.iload_n 2, 1) := by decide +kernel
theorem dX5_sameLetters_36 : decode cX5_sameLetters 36 = .ok (.iload 4, 2) := by decide +kernel
theorem dX5_sameLetters_38 : decode cX5_sameLetters 38 = .ok (.invokevirtual 91, 3) := by decide +kernel
theorem dX5_sameLetters_41 : decode cX5_sameLetters 41 = .ok (.if_icmp .ne 6, 3) := by decide +kernel
theorem dX5_sameLetters_44 : decode cX5_sameLetters 44 = .ok (.iinc 3 1, 3) := by decide +kernel
theorem dX5_sameLetters_47 : decode cX5_sameLetters 47 = .ok (.iinc 4 1, 3) := by decide +kernel
theorem dX5_sameLetters_50 : decode cX5_sameLetters 50 = .ok (.goto (-45), 3) := by decide +kernel
theorem dX5_sameLetters_53 : decode cX5_sameLetters 53 = .ok (.iload_n 3, 1) := by decide +kernel
theorem dX5_sameLetters_54 : decode cX5_sameLetters 54 = .ok (.ireturn, 1) := by decide +kernel
set_option maxRecDepth 20000 in
theorem ggX5_isDayUntold_X2_dayOf : GoodIn wsX5_isDayUntold wsX2_dayOf := goodIn_r _ [7, 8, 9, 10, 11, 12, 13, 14, 21, 22, 23, 24, 25, 26] (by decide +kernel) (by decide +kernel)
set_option maxRecDepth 20000 in
theorem gX5_isDayUntold_X2_dayOf : GoodIn wsX5_isDayUntold (wsV RX5 76 RX2 yX2_dayOf wsX2_dayOf) := goodIn_app (goodIn_of _ (by decide +kernel)) ggX5_isDayUntold_X2_dayOf
theorem dX5_isDayUntold_0 : decode cX5_isDayUntold 0 = .ok (.aload_n 0, 1) := by decide +kernel
theorem dX5_isDayUntold_1 : decode cX5_isDayUntold 1 = .ok (.getfield 20, 3) := by decide +kernel
theorem dX5_isDayUntold_4 : decode cX5_isDayUntold 4 = .ok (.iload_n 1, 1) := by decide +kernel
theorem dX5_isDayUntold_5 : decode cX5_isDayUntold 5 = .ok (.invokevirtual 76, 3) := by decide +kernel
theorem dX5_isDayUntold_8 : decode cX5_isDayUntold 8 = .ok (.ifCond .lt 14, 3) := by decide +kernel
theorem dX5_isDayUntold_11 : decode cX5_isDayUntold 11 = .ok (.aload_n 0, 1) := by decide +kernel
theorem dX5_isDayUntold_12 : decode cX5_isDayUntold 12 = .ok (.getfield 14, 3) := by decide +kernel
theorem dX5_isDayUntold_15 : decode cX5_isDayUntold 15 = .ok (.iload_n 2, 1) := by decide +kernel
theorem dX5_isDayUntold_16 : decode cX5_isDayUntold 16 = .ok (.invokevirtual 76, 3) := by decide +kernel
theorem dX5_isDayUntold_19 : decode cX5_isDayUntold 19 = .ok (.ifCond .ge 7, 3) := by decide +kernel
theorem dX5_isDayUntold_22 : decode cX5_isDayUntold 22 = .ok (.iconst 1, 1) := by decide +kernel
theorem dX5_isDayUntold_23 : decode cX5_isDayUntold 23 = .ok (.goto 4, 3) := by decide +kernel
theorem dX5_isDayUntold_26 : decode cX5_isDayUntold 26 = .ok (.iconst 0, 1) := by decide +kernel
theorem dX5_isDayUntold_27 : decode cX5_isDayUntold 27 = .ok (.ireturn, 1) := by decide +kernel
set_option maxRecDepth 20000 in
theorem ggX5_struckAs_X2_size : GoodIn wsX5_struckAs wsX2_size := goodIn_r _ [8, 9, 26, 27, 28, 29, 30] (by decide +kernel) (by decide +kernel)
set_option maxRecDepth 20000 in
theorem gX5_struckAs_X2_size : GoodIn wsX5_struckAs (wsV RX5 44 RX2 yX2_size wsX2_size) := goodIn_app (goodIn_of _ (by decide +kernel)) ggX5_struckAs_X2_size
set_option maxRecDepth 20000 in
theorem ggX5_struckAs_X5_pair : GoodIn wsX5_struckAs wsX5_pair := goodIn_r _ [13] (by decide +kernel) (by decide +kernel)
set_option maxRecDepth 20000 in
theorem gX5_struckAs_X5_pair : GoodIn wsX5_struckAs (va_wsS RX5 79 yX5_pair wsX5_pair) := goodIn_app (goodIn_of _ (by decide +kernel)) ggX5_struckAs_X5_pair
set_option maxRecDepth 20000 in
theorem ggX5_struckAs_X6_get : GoodIn wsX5_struckAs wsX6_get := goodIn_r _ [18, 19, 31] (by decide +kernel) (by decide +kernel)
set_option maxRecDepth 20000 in
theorem gX5_struckAs_X6_get : GoodIn wsX5_struckAs (wsV RX5 88 RX6 yX6_get wsX6_get) := goodIn_app (goodIn_of _ (by decide +kernel)) ggX5_struckAs_X6_get
theorem dX5_struckAs_0 : decode cX5_struckAs 0 = .ok (.bipush (-4), 2) := by decide +kernel
theorem dX5_struckAs_2 : decode cX5_struckAs 2 = .ok (.istore_n 2, 1) := by decide +kernel
theorem dX5_struckAs_3 : decode cX5_struckAs 3 = .ok (.aload_n 0, 1) := by decide +kernel
theorem dX5_struckAs_4 : decode cX5_struckAs 4 = .ok (.getfield 36, 3) := by decide +kernel
theorem dX5_struckAs_7 : decode cX5_struckAs 7 = .ok (.iconst 1, 1) := by decide +kernel
theorem dX5_struckAs_8 : decode cX5_struckAs 8 = .ok (.isub, 1) := by decide +kernel
theorem dX5_struckAs_9 : decode cX5_struckAs 9 = .ok (.istore_n 3, 1) := by decide +kernel
theorem dX5_struckAs_10 : decode cX5_struckAs 10 = .ok (.iconst 0, 1) := by decide +kernel
theorem dX5_struckAs_11 : decode cX5_struckAs 11 = .ok (.istore 4, 2) := by decide +kernel
theorem dX5_struckAs_13 : decode cX5_struckAs 13 = .ok (.iload 4, 2) := by decide +kernel
theorem dX5_struckAs_15 : decode cX5_struckAs 15 = .ok (.aload_n 0, 1) := by decide +kernel
theorem dX5_struckAs_16 : decode cX5_struckAs 16 = .ok (.getfield 14, 3) := by decide +kernel
theorem dX5_struckAs_19 : decode cX5_struckAs 19 = .ok (.invokevirtual 44, 3) := by decide +kernel
theorem dX5_struckAs_22 : decode cX5_struckAs 22 = .ok (.if_icmp .ge 43, 3) := by decide +kernel
theorem dX5_struckAs_25 : decode cX5_struckAs 25 = .ok (.aload_n 0, 1) := by decide +kernel
theorem dX5_struckAs_26 : decode cX5_struckAs 26 = .ok (.getfield 30, 3) := by decide +kernel
theorem dX5_struckAs_29 : decode cX5_struckAs 29 = .ok (.iload_n 1, 1) := by decide +kernel
theorem dX5_struckAs_30 : decode cX5_struckAs 30 = .ok (.iload 4, 2) := by decide +kernel
theorem dX5_struckAs_32 : decode cX5_struckAs 32 = .ok (.invokestatic 79, 3) := by decide +kernel
theorem dX5_struckAs_35 : decode cX5_struckAs 35 = .ok (.invokevirtual 88, 3) := by decide +kernel
theorem dX5_struckAs_38 : decode cX5_struckAs 38 = .ok (.iload_n 3, 1) := by decide +kernel
theorem dX5_struckAs_39 : decode cX5_struckAs 39 = .ok (.if_icmp .le 20, 3) := by decide +kernel
theorem dX5_struckAs_42 : decode cX5_struckAs 42 = .ok (.iload 4, 2) := by decide +kernel
theorem dX5_struckAs_44 : decode cX5_struckAs 44 = .ok (.istore_n 2, 1) := by decide +kernel
theorem dX5_struckAs_45 : decode cX5_struckAs 45 = .ok (.aload_n 0, 1) := by decide +kernel
theorem dX5_struckAs_46 : decode cX5_struckAs 46 = .ok (.getfield 30, 3) := by decide +kernel
theorem dX5_struckAs_49 : decode cX5_struckAs 49 = .ok (.iload_n 1, 1) := by decide +kernel
theorem dX5_struckAs_50 : decode cX5_struckAs 50 = .ok (.iload 4, 2) := by decide +kernel
theorem dX5_struckAs_52 : decode cX5_struckAs 52 = .ok (.invokestatic 79, 3) := by decide +kernel
theorem dX5_struckAs_55 : decode cX5_struckAs 55 = .ok (.invokevirtual 88, 3) := by decide +kernel
theorem dX5_struckAs_58 : decode cX5_struckAs 58 = .ok (.istore_n 3, 1) := by decide +kernel
theorem dX5_struckAs_59 : decode cX5_struckAs 59 = .ok (.iinc 4 1, 3) := by decide +kernel
theorem dX5_struckAs_62 : decode cX5_struckAs 62 = .ok (.goto (-49), 3) := by decide +kernel
theorem dX5_struckAs_65 : decode cX5_struckAs 65 = .ok (.iload_n 2, 1) := by decide +kernel
theorem dX5_struckAs_66 : decode cX5_struckAs 66 = .ok (.ireturn, 1) := by decide +kernel
set_option maxRecDepth 20000 in
theorem ggX5_rightness_X5_struckAs : GoodIn wsX5_rightness wsX5_struckAs := goodIn_r _ [5, 6, 7, 8, 9, 10, 11, 12, 13, 14, 15, 16, 4, 17, 18, 19, 20, 21, 22, 23, 40, 41, 42, 43, 44, 45, 46, 47, 48, 49, 50, 51] (by decide +kernel) (by decide +kernel)
set_option maxRecDepth 20000 in
theorem gX5_rightness_X5_struckAs : GoodIn wsX5_rightness (wsV RX5 94 RX5 yX5_struckAs wsX5_struckAs) := goodIn_app (goodIn_of _ (by decide +kernel)) ggX5_rightness_X5_struckAs
set_option maxRecDepth 20000 in
theorem ggX5_rightness_X5_isDayUntold : GoodIn wsX5_rightness wsX5_isDayUntold := goodIn_r _ [27, 28, 7, 29, 30, 31, 12, 32, 33, 34, 19, 20, 21, 22, 23, 40, 41, 42, 43, 44, 45, 46, 47, 48, 49, 50, 51] (by decide +kernel) (by decide +kernel)
set_option maxRecDepth 20000 in
theorem gX5_rightness_X5_isDayUntold : GoodIn wsX5_rightness (wsV RX5 72 RX5 yX5_isDayUntold wsX5_isDayUntold) := goodIn_app (goodIn_of _ (by decide +kernel)) ggX5_rightness_X5_isDayUntold
set_option maxRecDepth 20000 in
theorem ggX5_rightness_X5_alikeness : GoodIn wsX5_rightness wsX5_alikeness := goodIn_r _ [38, 39, 15, 16, 4, 17, 18, 19, 20, 21, 22, 23, 40, 41, 42, 43, 44, 45, 51] (by decide +kernel) (by decide +kernel)
set_option maxRecDepth 20000 in
theorem gX5_rightness_X5_alikeness : GoodIn wsX5_rightness (wsV RX5 97 RX5 yX5_alikeness wsX5_alikeness) := goodIn_app (goodIn_of _ (by decide +kernel)) ggX5_rightness_X5_alikeness
theorem dX5_rightness_0 : decode cX5_rightness 0 = .ok (.aload_n 0, 1) := by decide +kernel
theorem dX5_rightness_1 : decode cX5_rightness 1 = .ok (.iload_n 1, 1) := by decide +kernel
theorem dX5_rightness_2 : decode cX5_rightness 2 = .ok (.invokevirtual 94, 3) := by decide +kernel
theorem dX5_rightness_5 : decode cX5_rightness 5 = .ok (.istore_n 2, 1) := by decide +kernel
theorem dX5_rightness_6 : decode cX5_rightness 6 = .ok (.iload_n 2, 1) := by decide +kernel
theorem dX5_rightness_7 : decode cX5_rightness 7 = .ok (.bipush (-4), 2) := by decide +kernel
theorem dX5_rightness_9 : decode cX5_rightness 9 = .ok (.if_icmp .ne 6, 3) := by decide +kernel
theorem dX5_rightness_12 : decode cX5_rightness 12 = .ok (.bipush (-4), 2) := by decide +kernel
theorem dX5_rightness_14 : decode cX5_rightness 14 = .ok (.ireturn, 1) := by decide +kernel
theorem dX5_rightness_15 : decode cX5_rightness 15 = .ok (.aload_n 0, 1) := by decide +kernel
theorem dX5_rightness_16 : decode cX5_rightness 16 = .ok (.iload_n 1, 1) := by decide +kernel
theorem dX5_rightness_17 : decode cX5_rightness 17 = .ok (.iload_n 2, 1) := by decide +kernel
theorem dX5_rightness_18 : decode cX5_rightness 18 = .ok (.invokevirtual 72, 3) := by decide +kernel
theorem dX5_rightness_21 : decode cX5_rightness 21 = .ok (.ifCond .eq 5, 3) := by decide +kernel
theorem dX5_rightness_24 : decode cX5_rightness 24 = .ok (.iconst 1, 1) := by decide +kernel
theorem dX5_rightness_25 : decode cX5_rightness 25 = .ok (.ireturn, 1) := by decide +kernel
theorem dX5_rightness_26 : decode cX5_rightness 26 = .ok (.aload_n 0, 1) := by decide +kernel
theorem dX5_rightness_27 : decode cX5_rightness 27 = .ok (.iload_n 1, 1) := by decide +kernel
theorem dX5_rightness_28 : decode cX5_rightness 28 = .ok (.iload_n 2, 1) := by decide +kernel
theorem dX5_rightness_29 : decode cX5_rightness 29 = .ok (.invokevirtual 97, 3) := by decide +kernel
theorem dX5_rightness_32 : decode cX5_rightness 32 = .ok (.bipush 100, 2) := by decide +kernel
theorem dX5_rightness_34 : decode cX5_rightness 34 = .ok (.if_icmp .ne 7, 3) := by decide +kernel
theorem dX5_rightness_37 : decode cX5_rightness 37 = .ok (.iconst 2, 1) := by decide +kernel
theorem dX5_rightness_38 : decode cX5_rightness 38 = .ok (.goto 4, 3) := by decide +kernel
theorem dX5_rightness_41 : decode cX5_rightness 41 = .ok (.iconst 0, 1) := by decide +kernel
theorem dX5_rightness_42 : decode cX5_rightness 42 = .ok (.ireturn, 1) := by decide +kernel
set_option maxRecDepth 20000 in
theorem ggX5_struckIn_X2_size : GoodIn wsX5_struckIn wsX2_size := goodIn_r _ [6, 7, 55, 56, 57, 58, 59] (by decide +kernel) (by decide +kernel)
set_option maxRecDepth 20000 in
theorem gX5_struckIn_X2_size : GoodIn wsX5_struckIn (wsV RX5 44 RX2 yX2_size wsX2_size) := goodIn_app (goodIn_of _ (by decide +kernel)) ggX5_struckIn_X2_size
set_option maxRecDepth 20000 in
theorem ggX5_struckIn_X2_isOf : GoodIn wsX5_struckIn wsX2_isOf := goodIn_r _ [11, 12, 13, 14, 15, 16, 17, 18, 55, 56, 57, 58, 59, 60] (by decide +kernel) (by decide +kernel)
set_option maxRecDepth 20000 in
theorem gX5_struckIn_X2_isOf : GoodIn wsX5_struckIn (wsV RX5 100 RX2 yX2_isOf wsX2_isOf) := goodIn_app (goodIn_of _ (by decide +kernel)) ggX5_struckIn_X2_isOf
set_option maxRecDepth 20000 in
theorem ggX5_struckIn_X5_rightness : GoodIn wsX5_struckIn wsX5_rightness := goodIn_r _ [23, 24, 25, 26, 22, 27, 28, 29, 30, 2, 3, 4, 5, 6, 7, 31, 32, 33, 34, 14, 15, 16, 17, 18, 35, 36, 37, 38, 1, 39, 40, 41, 42, 43, 13, 44, 45, 46, 47, 48, 49, 50, 51, 52, 53, 54, 55, 56, 57, 58, 59, 60] (by decide +kernel) (by decide +kernel)
set_option maxRecDepth 20000 in
theorem gX5_struckIn_X5_rightness : GoodIn wsX5_struckIn (wsV RX5 103 RX5 yX5_rightness wsX5_rightness) := goodIn_app (goodIn_of _ (by decide +kernel)) ggX5_struckIn_X5_rightness
theorem dX5_struckIn_0 : decode cX5_struckIn 0 = .ok (.iconst 0, 1) := by decide +kernel
theorem dX5_struckIn_1 : decode cX5_struckIn 1 = .ok (.istore_n 3, 1) := by decide +kernel
theorem dX5_struckIn_2 : decode cX5_struckIn 2 = .ok (.iconst 0, 1) := by decide +kernel
theorem dX5_struckIn_3 : decode cX5_struckIn 3 = .ok (.istore 4, 2) := by decide +kernel
theorem dX5_struckIn_5 : decode cX5_struckIn 5 = .ok (.iload 4, 2) := by decide +kernel
theorem dX5_struckIn_7 : decode cX5_struckIn 7 = .ok (.aload_n 0, 1) := by decide +kernel
theorem dX5_struckIn_8 : decode cX5_struckIn 8 = .ok (.getfield 20, 3) := by decide +kernel
theorem dX5_struckIn_11 : decode cX5_struckIn 11 = .ok (.invokevirtual 44, 3) := by decide +kernel
theorem dX5_struckIn_14 : decode cX5_struckIn 14 = .ok (.if_icmp .ge 54, 3) := by decide +kernel
theorem dX5_struckIn_17 : decode cX5_struckIn 17 = .ok (.aload_n 0, 1) := by decide +kernel
theorem dX5_struckIn_18 : decode cX5_struckIn 18 = .ok (.getfield 20, 3) := by decide +kernel
theorem dX5_struckIn_21 : decode cX5_struckIn 21 = .ok (.iload 4, 2) := by decide +kernel
theorem dX5_struckIn_23 : decode cX5_struckIn 23 = .ok (.iload_n 1, 1) := by decide +kernel
theorem dX5_struckIn_24 : decode cX5_struckIn 24 = .ok (.invokevirtual 100, 3) := by decide +kernel
theorem dX5_struckIn_27 : decode cX5_struckIn 27 = .ok (.ifCond .eq 12, 3) := by decide +kernel
theorem dX5_struckIn_30 : decode cX5_struckIn 30 = .ok (.aload_n 0, 1) := by decide +kernel
theorem dX5_struckIn_31 : decode cX5_struckIn 31 = .ok (.iload 4, 2) := by decide +kernel
theorem dX5_struckIn_33 : decode cX5_struckIn 33 = .ok (.invokevirtual 103, 3) := by decide +kernel
theorem dX5_struckIn_36 : decode cX5_struckIn 36 = .ok (.goto 5, 3) := by decide +kernel
theorem dX5_struckIn_39 : decode cX5_struckIn 39 = .ok (.bipush (-4), 2) := by decide +kernel
theorem dX5_struckIn_41 : decode cX5_struckIn 41 = .ok (.istore 5, 2) := by decide +kernel
theorem dX5_struckIn_43 : decode cX5_struckIn 43 = .ok (.iload 5, 2) := by decide +kernel
theorem dX5_struckIn_45 : decode cX5_struckIn 45 = .ok (.ifCond .eq 14, 3) := by decide +kernel
theorem dX5_struckIn_48 : decode cX5_struckIn 48 = .ok (.iload 5, 2) := by decide +kernel
theorem dX5_struckIn_50 : decode cX5_struckIn 50 = .ok (.bipush (-4), 2) := by decide +kernel
theorem dX5_struckIn_52 : decode cX5_struckIn 52 = .ok (.if_icmp .eq 10, 3) := by decide +kernel
theorem dX5_struckIn_55 : decode cX5_struckIn 55 = .ok (.iload_n 2, 1) := by decide +kernel
theorem dX5_struckIn_56 : decode cX5_struckIn 56 = .ok (.ifCond .ne 6, 3) := by decide +kernel
theorem dX5_struckIn_59 : decode cX5_struckIn 59 = .ok (.iinc 3 1, 3) := by decide +kernel
theorem dX5_struckIn_62 : decode cX5_struckIn 62 = .ok (.iinc 4 1, 3) := by decide +kernel
theorem dX5_struckIn_65 : decode cX5_struckIn 65 = .ok (.goto (-60), 3) := by decide +kernel
theorem dX5_struckIn_68 : decode cX5_struckIn 68 = .ok (.iload_n 3, 1) := by decide +kernel
theorem dX5_struckIn_69 : decode cX5_struckIn 69 = .ok (.ireturn, 1) := by decide +kernel
set_option maxRecDepth 20000 in
theorem ggX5_paired_X2_size : GoodIn wsX5_paired wsX2_size := goodIn_r _ [12, 13, 51, 52, 53, 54, 55] (by decide +kernel) (by decide +kernel)
set_option maxRecDepth 20000 in
theorem gX5_paired_X2_size : GoodIn wsX5_paired (wsV RX5 44 RX2 yX2_size wsX2_size) := goodIn_app (goodIn_of _ (by decide +kernel)) ggX5_paired_X2_size
set_option maxRecDepth 20000 in
theorem ggX5_paired_X5_strikersOf : GoodIn wsX5_paired wsX5_strikersOf := goodIn_r _ [18, 3, 19, 20, 8, 9, 10, 11, 12, 13, 21, 22, 17, 23, 24, 25, 26, 27, 28, 29, 45, 46, 47, 48, 49, 50, 51, 52, 53, 54, 55, 56] (by decide +kernel) (by decide +kernel)
set_option maxRecDepth 20000 in
theorem gX5_paired_X5_strikersOf : GoodIn wsX5_paired (wsV RX5 106 RX5 yX5_strikersOf wsX5_strikersOf) := goodIn_app (goodIn_of _ (by decide +kernel)) ggX5_paired_X5_strikersOf
set_option maxRecDepth 20000 in
theorem ggX5_paired_X6_set : GoodIn wsX5_paired wsX6_set := goodIn_r _ [33, 29, 56] (by decide +kernel) (by decide +kernel)
set_option maxRecDepth 20000 in
theorem gX5_paired_X6_set : GoodIn wsX5_paired (wsV RX5 82 RX6 yX6_set wsX6_set) := goodIn_app (goodIn_of _ (by decide +kernel)) ggX5_paired_X6_set
set_option maxRecDepth 20000 in
theorem ggX5_paired_J6_bitCount_0f7a4 : GoodIn wsX5_paired wsJ6_bitCount_0f7a4 := goodIn_r _ [37, 38, 39, 40] (by decide +kernel) (by decide +kernel)
set_option maxRecDepth 20000 in
theorem gX5_paired_J6_bitCount_0f7a4 : GoodIn wsX5_paired (va_wsS RX5 109 yJ6_bitCount_0f7a4 wsJ6_bitCount_0f7a4) := goodIn_app (goodIn_of _ (by decide +kernel)) ggX5_paired_J6_bitCount_0f7a4
set_option maxRecDepth 20000 in
theorem ggX5_paired_X5_struckBeside : GoodIn wsX5_paired wsX5_struckBeside := goodIn_r _ [44, 1, 2, 8, 9, 10, 11, 12, 13, 24, 25, 26, 27, 28, 29, 45, 46, 47, 48, 49, 50, 51, 52, 53, 54, 55, 56] (by decide +kernel) (by decide +kernel)
set_option maxRecDepth 20000 in
theorem gX5_paired_X5_struckBeside : GoodIn wsX5_paired (wsV RX5 114 RX5 yX5_struckBeside wsX5_struckBeside) := goodIn_app (goodIn_of _ (by decide +kernel)) ggX5_paired_X5_struckBeside
theorem dX5_paired_0 : decode cX5_paired 0 = .ok (.iconst 0, 1) := by decide +kernel
theorem dX5_paired_1 : decode cX5_paired 1 = .ok (.istore_n 1, 1) := by decide +kernel
theorem dX5_paired_2 : decode cX5_paired 2 = .ok (.iload_n 1, 1) := by decide +kernel
theorem dX5_paired_3 : decode cX5_paired 3 = .ok (.aload_n 0, 1) := by decide +kernel
theorem dX5_paired_4 : decode cX5_paired 4 = .ok (.getfield 20, 3) := by decide +kernel
theorem dX5_paired_7 : decode cX5_paired 7 = .ok (.invokevirtual 44, 3) := by decide +kernel
theorem dX5_paired_10 : decode cX5_paired 10 = .ok (.if_icmp .ge 22, 3) := by decide +kernel
theorem dX5_paired_13 : decode cX5_paired 13 = .ok (.aload_n 0, 1) := by decide +kernel
theorem dX5_paired_14 : decode cX5_paired 14 = .ok (.getfield 33, 3) := by decide +kernel
theorem dX5_paired_17 : decode cX5_paired 17 = .ok (.iload_n 1, 1) := by decide +kernel
theorem dX5_paired_18 : decode cX5_paired 18 = .ok (.aload_n 0, 1) := by decide +kernel
theorem dX5_paired_19 : decode cX5_paired 19 = .ok (.iload_n 1, 1) := by decide +kernel
theorem dX5_paired_20 : decode cX5_paired 20 = .ok (.invokevirtual 106, 3) := by decide +kernel
theorem dX5_paired_23 : decode cX5_paired 23 = .ok (.invokevirtual 82, 3) := by decide +kernel
theorem dX5_paired_26 : decode cX5_paired 26 = .ok (.iinc 1 1, 3) := by decide +kernel
theorem dX5_paired_29 : decode cX5_paired 29 = .ok (.goto (-27), 3) := by decide +kernel
theorem dX5_paired_32 : decode cX5_paired 32 = .ok (.aload_n 0, 1) := by decide +kernel
theorem dX5_paired_33 : decode cX5_paired 33 = .ok (.getfield 14, 3) := by decide +kernel
theorem dX5_paired_36 : decode cX5_paired 36 = .ok (.invokevirtual 44, 3) := by decide +kernel
theorem dX5_paired_39 : decode cX5_paired 39 = .ok (.istore_n 1, 1) := by decide +kernel
theorem dX5_paired_40 : decode cX5_paired 40 = .ok (.iconst 0, 1) := by decide +kernel
theorem dX5_paired_41 : decode cX5_paired 41 = .ok (.istore_n 2, 1) := by decide +kernel
theorem dX5_paired_42 : decode cX5_paired 42 = .ok (.iload_n 2, 1) := by decide +kernel
theorem dX5_paired_43 : decode cX5_paired 43 = .ok (.iconst 1, 1) := by decide +kernel
theorem dX5_paired_44 : decode cX5_paired 44 = .ok (.aload_n 0, 1) := by decide +kernel
theorem dX5_paired_45 : decode cX5_paired 45 = .ok (.getfield 14, 3) := by decide +kernel
theorem dX5_paired_48 : decode cX5_paired 48 = .ok (.invokevirtual 44, 3) := by decide +kernel
theorem dX5_paired_51 : decode cX5_paired 51 = .ok (.ishl, 1) := by decide +kernel
theorem dX5_paired_52 : decode cX5_paired 52 = .ok (.if_icmp .ge 24, 3) := by decide +kernel
theorem dX5_paired_55 : decode cX5_paired 55 = .ok (.iload_n 1, 1) := by decide +kernel
theorem dX5_paired_56 : decode cX5_paired 56 = .ok (.iload_n 2, 1) := by decide +kernel
theorem dX5_paired_57 : decode cX5_paired 57 = .ok (.invokestatic 109, 3) := by decide +kernel
theorem dX5_paired_60 : decode cX5_paired 60 = .ok (.aload_n 0, 1) := by decide +kernel
theorem dX5_paired_61 : decode cX5_paired 61 = .ok (.iload_n 2, 1) := by decide +kernel
theorem dX5_paired_62 : decode cX5_paired 62 = .ok (.invokevirtual 114, 3) := by decide +kernel
theorem dX5_paired_65 : decode cX5_paired 65 = .ok (.iadd, 1) := by decide +kernel
theorem dX5_paired_66 : decode cX5_paired 66 = .ok (.invokestatic 117, 3) := by decide +kernel
theorem dX5_paired_69 : decode cX5_paired 69 = .ok (.istore_n 1, 1) := by decide +kernel
theorem dX5_paired_70 : decode cX5_paired 70 = .ok (.iinc 2 1, 3) := by decide +kernel
theorem dX5_paired_73 : decode cX5_paired 73 = .ok (.goto (-31), 3) := by decide +kernel
theorem dX5_paired_76 : decode cX5_paired 76 = .ok (.iload_n 1, 1) := by decide +kernel
theorem dX5_paired_77 : decode cX5_paired 77 = .ok (.ireturn, 1) := by decide +kernel
set_option maxRecDepth 20000 in
theorem ggX5_strikersOf_X2_size : GoodIn wsX5_strikersOf wsX2_size := goodIn_r _ [8, 9, 26, 27, 28, 29, 30] (by decide +kernel) (by decide +kernel)
set_option maxRecDepth 20000 in
theorem gX5_strikersOf_X2_size : GoodIn wsX5_strikersOf (wsV RX5 44 RX2 yX2_size wsX2_size) := goodIn_app (goodIn_of _ (by decide +kernel)) ggX5_strikersOf_X2_size
set_option maxRecDepth 20000 in
theorem ggX5_strikersOf_X5_pair : GoodIn wsX5_strikersOf wsX5_pair := goodIn_r _ [13] (by decide +kernel) (by decide +kernel)
set_option maxRecDepth 20000 in
theorem gX5_strikersOf_X5_pair : GoodIn wsX5_strikersOf (va_wsS RX5 79 yX5_pair wsX5_pair) := goodIn_app (goodIn_of _ (by decide +kernel)) ggX5_strikersOf_X5_pair
set_option maxRecDepth 20000 in
theorem ggX5_strikersOf_X6_get : GoodIn wsX5_strikersOf wsX6_get := goodIn_r _ [18, 19, 31] (by decide +kernel) (by decide +kernel)
set_option maxRecDepth 20000 in
theorem gX5_strikersOf_X6_get : GoodIn wsX5_strikersOf (wsV RX5 88 RX6 yX6_get wsX6_get) := goodIn_app (goodIn_of _ (by decide +kernel)) ggX5_strikersOf_X6_get
theorem dX5_strikersOf_0 : decode cX5_strikersOf 0 = .ok (.iconst 0, 1) := by decide +kernel
theorem dX5_strikersOf_1 : decode cX5_strikersOf 1 = .ok (.istore_n 2, 1) := by decide +kernel
theorem dX5_strikersOf_2 : decode cX5_strikersOf 2 = .ok (.iconst 0, 1) := by decide +kernel
theorem dX5_strikersOf_3 : decode cX5_strikersOf 3 = .ok (.istore_n 3, 1) := by decide +kernel
theorem dX5_strikersOf_4 : decode cX5_strikersOf 4 = .ok (.iload_n 3, 1) := by decide +kernel
theorem dX5_strikersOf_5 : decode cX5_strikersOf 5 = .ok (.aload_n 0, 1) := by decide +kernel
theorem dX5_strikersOf_6 : decode cX5_strikersOf 6 = .ok (.getfield 14, 3) := by decide +kernel
theorem dX5_strikersOf_9 : decode cX5_strikersOf 9 = .ok (.invokevirtual 44, 3) := by decide +kernel
theorem dX5_strikersOf_12 : decode cX5_strikersOf 12 = .ok (.if_icmp .ge 34, 3) := by decide +kernel
theorem dX5_strikersOf_15 : decode cX5_strikersOf 15 = .ok (.aload_n 0, 1) := by decide +kernel
theorem dX5_strikersOf_16 : decode cX5_strikersOf 16 = .ok (.getfield 30, 3) := by decide +kernel
theorem dX5_strikersOf_19 : decode cX5_strikersOf 19 = .ok (.iload_n 1, 1) := by decide +kernel
theorem dX5_strikersOf_20 : decode cX5_strikersOf 20 = .ok (.iload_n 3, 1) := by decide +kernel
theorem dX5_strikersOf_21 : decode cX5_strikersOf 21 = .ok (.invokestatic 79, 3) := by decide +kernel
theorem dX5_strikersOf_24 : decode cX5_strikersOf 24 = .ok (.invokevirtual 88, 3) := by decide +kernel
theorem dX5_strikersOf_27 : decode cX5_strikersOf 27 = .ok (.aload_n 0, 1) := by decide +kernel
theorem dX5_strikersOf_28 : decode cX5_strikersOf 28 = .ok (.getfield 36, 3) := by decide +kernel
theorem dX5_strikersOf_31 : decode cX5_strikersOf 31 = .ok (.if_icmp .lt 9, 3) := by decide +kernel
theorem dX5_strikersOf_34 : decode cX5_strikersOf 34 = .ok (.iload_n 2, 1) := by decide +kernel
theorem dX5_strikersOf_35 : decode cX5_strikersOf 35 = .ok (.iconst 1, 1) := by decide +kernel
theorem dX5_strikersOf_36 : decode cX5_strikersOf 36 = .ok (.iload_n 3, 1) := by decide +kernel
theorem dX5_strikersOf_37 : decode cX5_strikersOf 37 = .ok (.ishl, 1) := by decide +kernel
theorem dX5_strikersOf_38 : decode cX5_strikersOf 38 = .ok (.ior, 1) := by decide +kernel
theorem dX5_strikersOf_39 : decode cX5_strikersOf 39 = .ok (.istore_n 2, 1) := by decide +kernel
theorem dX5_strikersOf_40 : decode cX5_strikersOf 40 = .ok (.iinc 3 1, 3) := by decide +kernel
theorem dX5_strikersOf_43 : decode cX5_strikersOf 43 = .ok (.goto (-39), 3) := by decide +kernel
theorem dX5_strikersOf_46 : decode cX5_strikersOf 46 = .ok (.iload_n 2, 1) := by decide +kernel
theorem dX5_strikersOf_47 : decode cX5_strikersOf 47 = .ok (.ireturn, 1) := by decide +kernel
set_option maxRecDepth 20000 in
theorem ggX5_struckBeside_X2_size : GoodIn wsX5_struckBeside wsX2_size := goodIn_r _ [7, 8, 21, 22, 23, 24, 25] (by decide +kernel) (by decide +kernel)
set_option maxRecDepth 20000 in
theorem gX5_struckBeside_X2_size : GoodIn wsX5_struckBeside (wsV RX5 44 RX2 yX2_size wsX2_size) := goodIn_app (goodIn_of _ (by decide +kernel)) ggX5_struckBeside_X2_size
set_option maxRecDepth 20000 in
theorem ggX5_struckBeside_X6_get : GoodIn wsX5_struckBeside wsX6_get := goodIn_r _ [13, 14, 26] (by decide +kernel) (by decide +kernel)
set_option maxRecDepth 20000 in
theorem gX5_struckBeside_X6_get : GoodIn wsX5_struckBeside (wsV RX5 88 RX6 yX6_get wsX6_get) := goodIn_app (goodIn_of _ (by decide +kernel)) ggX5_struckBeside_X6_get
theorem dX5_struckBeside_0 : decode cX5_struckBeside 0 = .ok (.iconst 0, 1) := by decide +kernel
theorem dX5_struckBeside_1 : decode cX5_struckBeside 1 = .ok (.istore_n 2, 1) := by decide +kernel
theorem dX5_struckBeside_2 : decode cX5_struckBeside 2 = .ok (.iconst 0, 1) := by decide +kernel
theorem dX5_struckBeside_3 : decode cX5_struckBeside 3 = .ok (.istore_n 3, 1) := by decide +kernel
theorem dX5_struckBeside_4 : decode cX5_struckBeside 4 = .ok (.iload_n 3, 1) := by decide +kernel
theorem dX5_struckBeside_5 : decode cX5_struckBeside 5 = .ok (.aload_n 0, 1) := by decide +kernel
theorem dX5_struckBeside_6 : decode cX5_struckBeside 6 = .ok (.getfield 20, 3) := by decide +kernel
theorem dX5_struckBeside_9 : decode cX5_struckBeside 9 = .ok (.invokevirtual 44, 3) := by decide +kernel
theorem dX5_struckBeside_12 : decode cX5_struckBeside 12 = .ok (.if_icmp .ge 27, 3) := by decide +kernel
theorem dX5_struckBeside_15 : decode cX5_struckBeside 15 = .ok (.aload_n 0, 1) := by decide +kernel
theorem dX5_struckBeside_16 : decode cX5_struckBeside 16 = .ok (.getfield 33, 3) := by decide +kernel
theorem dX5_struckBeside_19 : decode cX5_struckBeside 19 = .ok (.iload_n 3, 1) := by decide +kernel
theorem dX5_struckBeside_20 : decode cX5_struckBeside 20 = .ok (.invokevirtual 88, 3) := by decide +kernel
theorem dX5_struckBeside_23 : decode cX5_struckBeside 23 = .ok (.iload_n 1, 1) := by decide +kernel
theorem dX5_struckBeside_24 : decode cX5_struckBeside 24 = .ok (.iconst (-1), 1) := by decide +kernel
theorem dX5_struckBeside_25 : decode cX5_struckBeside 25 = .ok (.ixor, 1) := by decide +kernel
theorem dX5_struckBeside_26 : decode cX5_struckBeside 26 = .ok (.iand, 1) := by decide +kernel
theorem dX5_struckBeside_27 : decode cX5_struckBeside 27 = .ok (.ifCond .eq 6, 3) := by decide +kernel
theorem dX5_struckBeside_30 : decode cX5_struckBeside 30 = .ok (.iinc 2 1, 3) := by decide +kernel
theorem dX5_struckBeside_33 : decode cX5_struckBeside 33 = .ok (.iinc 3 1, 3) := by decide +kernel
theorem dX5_struckBeside_36 : decode cX5_struckBeside 36 = .ok (.goto (-32), 3) := by decide +kernel
theorem dX5_struckBeside_39 : decode cX5_struckBeside 39 = .ok (.iload_n 2, 1) := by decide +kernel
theorem dX5_struckBeside_40 : decode cX5_struckBeside 40 = .ok (.ireturn, 1) := by decide +kernel
