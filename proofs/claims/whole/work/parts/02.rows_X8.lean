set_option maxRecDepth 20000 in
theorem ggX8_init_X4_init : GoodIn wsX8_init wsX4_init := goodIn_r _ [12, 13, 2, 3, 14, 15, 16, 17, 18, 19, 20, 21, 22, 23, 24, 31, 25, 26] (by decide +kernel) (by decide +kernel)
set_option maxRecDepth 20000 in
theorem gX8_init_X4_init_n11 : GoodIn wsX8_init (wsX4_init) := ggX8_init_X4_init
theorem dX8_init_0 : decode cX8_init 0 = .ok (.aload_n 0, 1) := by decide +kernel
theorem dX8_init_1 : decode cX8_init 1 = .ok (.invokespecial 3, 3) := by decide +kernel
theorem dX8_init_4 : decode cX8_init 4 = .ok (.aload_n 0, 1) := by decide +kernel
theorem dX8_init_5 : decode cX8_init 5 = .ok (.new 9, 3) := by decide +kernel
theorem dX8_init_8 : decode cX8_init 8 = .ok (.dup, 1) := by decide +kernel
theorem dX8_init_9 : decode cX8_init 9 = .ok (.invokespecial 11, 3) := by decide +kernel
theorem dX8_init_12 : decode cX8_init 12 = .ok (.putfield 12, 3) := by decide +kernel
theorem dX8_init_15 : decode cX8_init 15 = .ok (.aload_n 0, 1) := by decide +kernel
theorem dX8_init_16 : decode cX8_init 16 = .ok (.new 9, 3) := by decide +kernel
theorem dX8_init_19 : decode cX8_init 19 = .ok (.dup, 1) := by decide +kernel
theorem dX8_init_20 : decode cX8_init 20 = .ok (.invokespecial 11, 3) := by decide +kernel
theorem dX8_init_23 : decode cX8_init 23 = .ok (.putfield 18, 3) := by decide +kernel
theorem dX8_init_26 : decode cX8_init 26 = .ok (.aload_n 0, 1) := by decide +kernel
theorem dX8_init_27 : decode cX8_init 27 = .ok (.aload_n 1, 1) := by decide +kernel
theorem dX8_init_28 : decode cX8_init 28 = .ok (.putfield 21, 3) := by decide +kernel
theorem dX8_init_31 : decode cX8_init 31 = .ok (.aload_n 0, 1) := by decide +kernel
theorem dX8_init_32 : decode cX8_init 32 = .ok (.aload_n 2, 1) := by decide +kernel
theorem dX8_init_33 : decode cX8_init 33 = .ok (.putfield 25, 3) := by decide +kernel
theorem dX8_init_36 : decode cX8_init 36 = .ok (.return_, 1) := by decide +kernel
set_option maxRecDepth 20000 in
theorem ggX8_readIn_X4_readIn : GoodIn wsX8_readIn wsX4_readIn := goodIn_r _ [7, 8, 9, 10, 11, 12, 13, 14, 15, 16, 17, 18, 19, 20, 21, 22, 23, 24, 25, 26, 27, 28, 29, 30, 31, 32, 33, 34, 35, 36, 37, 38, 39, 40, 41, 42, 43, 44, 45, 50, 51, 52, 53, 54, 55, 56, 57, 58] (by decide +kernel) (by decide +kernel)
set_option maxRecDepth 20000 in
theorem gX8_readIn_X4_readIn : GoodIn wsX8_readIn (wsV RX8 29 RX4 yX4_readIn wsX4_readIn) := goodIn_app (goodIn_of _ (by decide +kernel)) ggX8_readIn_X4_readIn
theorem dX8_readIn_0 : decode cX8_readIn 0 = .ok (.aload_n 0, 1) := by decide +kernel
theorem dX8_readIn_1 : decode cX8_readIn 1 = .ok (.getfield 12, 3) := by decide +kernel
theorem dX8_readIn_4 : decode cX8_readIn 4 = .ok (.aload_n 0, 1) := by decide +kernel
theorem dX8_readIn_5 : decode cX8_readIn 5 = .ok (.getfield 25, 3) := by decide +kernel
theorem dX8_readIn_8 : decode cX8_readIn 8 = .ok (.iload_n 1, 1) := by decide +kernel
theorem dX8_readIn_9 : decode cX8_readIn 9 = .ok (.iload_n 2, 1) := by decide +kernel
theorem dX8_readIn_10 : decode cX8_readIn 10 = .ok (.invokevirtual 29, 3) := by decide +kernel
theorem dX8_readIn_13 : decode cX8_readIn 13 = .ok (.return_, 1) := by decide +kernel
set_option maxRecDepth 20000 in
theorem ggX8_readBy_X4_readBy : GoodIn wsX8_readBy wsX4_readBy := goodIn_r _ [6, 7, 8, 9, 10, 11, 12, 13, 14, 19, 20, 21] (by decide +kernel) (by decide +kernel)
set_option maxRecDepth 20000 in
theorem gX8_readBy_X4_readBy : GoodIn wsX8_readBy (wsV RX8 33 RX4 yX4_readBy wsX4_readBy) := goodIn_app (goodIn_of _ (by decide +kernel)) ggX8_readBy_X4_readBy
theorem dX8_readBy_0 : decode cX8_readBy 0 = .ok (.aload_n 0, 1) := by decide +kernel
theorem dX8_readBy_1 : decode cX8_readBy 1 = .ok (.getfield 12, 3) := by decide +kernel
theorem dX8_readBy_4 : decode cX8_readBy 4 = .ok (.iload_n 1, 1) := by decide +kernel
theorem dX8_readBy_5 : decode cX8_readBy 5 = .ok (.invokevirtual 33, 3) := by decide +kernel
theorem dX8_readBy_8 : decode cX8_readBy 8 = .ok (.return_, 1) := by decide +kernel
set_option maxRecDepth 20000 in
theorem ggX8_choiceOf_X4_choiceOf : GoodIn wsX8_choiceOf wsX4_choiceOf := goodIn_r _ [7, 8, 9, 10, 11, 12, 13, 14, 15, 16, 17, 18, 19, 20, 21, 22, 23, 24, 25, 26, 27, 28, 29, 30, 31, 32, 33, 34, 39, 40, 41, 42, 43, 44] (by decide +kernel) (by decide +kernel)
set_option maxRecDepth 20000 in
theorem gX8_choiceOf_X4_choiceOf : GoodIn wsX8_choiceOf (wsV RX8 37 RX4 yX4_choiceOf wsX4_choiceOf) := goodIn_app (goodIn_of _ (by decide +kernel)) ggX8_choiceOf_X4_choiceOf
theorem dX8_choiceOf_0 : decode cX8_choiceOf 0 = .ok (.aload_n 0, 1) := by decide +kernel
theorem dX8_choiceOf_1 : decode cX8_choiceOf 1 = .ok (.getfield 12, 3) := by decide +kernel
theorem dX8_choiceOf_4 : decode cX8_choiceOf 4 = .ok (.aload_n 0, 1) := by decide +kernel
theorem dX8_choiceOf_5 : decode cX8_choiceOf 5 = .ok (.getfield 21, 3) := by decide +kernel
theorem dX8_choiceOf_8 : decode cX8_choiceOf 8 = .ok (.iload_n 1, 1) := by decide +kernel
theorem dX8_choiceOf_9 : decode cX8_choiceOf 9 = .ok (.iload_n 2, 1) := by decide +kernel
theorem dX8_choiceOf_10 : decode cX8_choiceOf 10 = .ok (.invokevirtual 37, 3) := by decide +kernel
theorem dX8_choiceOf_13 : decode cX8_choiceOf 13 = .ok (.ireturn, 1) := by decide +kernel
set_option maxRecDepth 20000 in
theorem ggX8_cards_X3_size : GoodIn wsX8_cards wsX3_size := goodIn_r _ [6, 7, 12, 13, 14] (by decide +kernel) (by decide +kernel)
set_option maxRecDepth 20000 in
theorem gX8_cards_X3_size : GoodIn wsX8_cards (wsV RX8 41 RX3 yX3_size wsX3_size) := goodIn_app (goodIn_of _ (by decide +kernel)) ggX8_cards_X3_size
theorem dX8_cards_0 : decode cX8_cards 0 = .ok (.aload_n 0, 1) := by decide +kernel
theorem dX8_cards_1 : decode cX8_cards 1 = .ok (.getfield 21, 3) := by decide +kernel
theorem dX8_cards_4 : decode cX8_cards 4 = .ok (.ifnonnull 7, 3) := by decide +kernel
theorem dX8_cards_7 : decode cX8_cards 7 = .ok (.iconst 0, 1) := by decide +kernel
theorem dX8_cards_8 : decode cX8_cards 8 = .ok (.goto 10, 3) := by decide +kernel
theorem dX8_cards_11 : decode cX8_cards 11 = .ok (.aload_n 0, 1) := by decide +kernel
theorem dX8_cards_12 : decode cX8_cards 12 = .ok (.getfield 21, 3) := by decide +kernel
theorem dX8_cards_15 : decode cX8_cards 15 = .ok (.invokevirtual 41, 3) := by decide +kernel
theorem dX8_cards_18 : decode cX8_cards 18 = .ok (.ireturn, 1) := by decide +kernel
set_option maxRecDepth 20000 in
theorem ggX8_isOf_X3_countyOf : GoodIn wsX8_isOf wsX3_countyOf := goodIn_r _ [6, 7, 8, 9, 10, 11, 12, 13, 18, 19, 20, 21] (by decide +kernel) (by decide +kernel)
set_option maxRecDepth 20000 in
theorem gX8_isOf_X3_countyOf : GoodIn wsX8_isOf (wsV RX8 47 RX3 yX3_countyOf wsX3_countyOf) := goodIn_app (goodIn_of _ (by decide +kernel)) ggX8_isOf_X3_countyOf
theorem dX8_isOf_0 : decode cX8_isOf 0 = .ok (.iload_n 2, 1) := by decide +kernel
theorem dX8_isOf_1 : decode cX8_isOf 1 = .ok (.iconst 5, 1) := by decide +kernel
theorem dX8_isOf_2 : decode cX8_isOf 2 = .ok (.if_icmp .eq 22, 3) := by decide +kernel
theorem dX8_isOf_5 : decode cX8_isOf 5 = .ok (.aload_n 0, 1) := by decide +kernel
theorem dX8_isOf_6 : decode cX8_isOf 6 = .ok (.getfield 21, 3) := by decide +kernel
theorem dX8_isOf_9 : decode cX8_isOf 9 = .ok (.ifnull 19, 3) := by decide +kernel
theorem dX8_isOf_12 : decode cX8_isOf 12 = .ok (.aload_n 0, 1) := by decide +kernel
theorem dX8_isOf_13 : decode cX8_isOf 13 = .ok (.getfield 21, 3) := by decide +kernel
theorem dX8_isOf_16 : decode cX8_isOf 16 = .ok (.iload_n 1, 1) := by decide +kernel
theorem dX8_isOf_17 : decode cX8_isOf 17 = .ok (.invokevirtual 47, 3) := by decide +kernel
theorem dX8_isOf_20 : decode cX8_isOf 20 = .ok (.iload_n 2, 1) := by decide +kernel
theorem dX8_isOf_21 : decode cX8_isOf 21 = .ok (.if_icmp .ne 7, 3) := by decide +kernel
theorem dX8_isOf_24 : decode cX8_isOf 24 = .ok (.iconst 1, 1) := by decide +kernel
theorem dX8_isOf_25 : decode cX8_isOf 25 = .ok (.goto 4, 3) := by decide +kernel
theorem dX8_isOf_28 : decode cX8_isOf 28 = .ok (.iconst 0, 1) := by decide +kernel
theorem dX8_isOf_29 : decode cX8_isOf 29 = .ok (.ireturn, 1) := by decide +kernel
set_option maxRecDepth 20000 in
theorem ggX8_sum_X8_cards : GoodIn wsX8_sum wsX8_cards := goodIn_r _ [5, 6, 7, 8, 9, 10, 11, 12, 56, 57, 58, 59, 60, 61, 62] (by decide +kernel) (by decide +kernel)
set_option maxRecDepth 20000 in
theorem gX8_sum_X8_cards : GoodIn wsX8_sum (wsV RX8 51 RX8 yX8_cards wsX8_cards) := goodIn_app (goodIn_of _ (by decide +kernel)) ggX8_sum_X8_cards
set_option maxRecDepth 20000 in
theorem ggX8_sum_X8_isOf : GoodIn wsX8_sum wsX8_isOf := goodIn_r _ [16, 6, 17, 18, 19, 10, 20, 21, 22, 23, 24, 25, 26, 27, 56, 57, 58, 59, 60, 61, 62, 63] (by decide +kernel) (by decide +kernel)
set_option maxRecDepth 20000 in
theorem gX8_sum_X8_isOf : GoodIn wsX8_sum (wsV RX8 54 RX8 yX8_isOf wsX8_isOf) := goodIn_app (goodIn_of _ (by decide +kernel)) ggX8_sum_X8_isOf
set_option maxRecDepth 20000 in
theorem ggX8_sum_X8_choiceOf : GoodIn wsX8_sum wsX8_choiceOf := goodIn_r _ [31, 32, 6, 33, 34, 35, 36, 37, 38, 39, 40, 18, 19, 10, 20, 21, 22, 23, 24, 25, 26, 27, 41, 42, 43, 44, 45, 46, 47, 48, 49, 50, 51, 52, 53, 56, 57, 58, 59, 64, 65, 60, 61, 62, 63] (by decide +kernel) (by decide +kernel)
set_option maxRecDepth 20000 in
theorem gX8_sum_X8_choiceOf : GoodIn wsX8_sum (wsV RX8 58 RX8 yX8_choiceOf wsX8_choiceOf) := goodIn_app (goodIn_of _ (by decide +kernel)) ggX8_sum_X8_choiceOf
set_option maxRecDepth 20000 in
theorem ggX8_sum_X10_oneVote : GoodIn wsX8_sum wsX10_oneVote := goodIn_r _ [55] (by decide +kernel) (by decide +kernel)
set_option maxRecDepth 20000 in
theorem gX8_sum_X10_oneVote_n61 : GoodIn wsX8_sum (wsX10_oneVote) := ggX8_sum_X10_oneVote
theorem dX8_sum_0 : decode cX8_sum 0 = .ok (.iconst 0, 1) := by decide +kernel
theorem dX8_sum_1 : decode cX8_sum 1 = .ok (.istore_n 3, 1) := by decide +kernel
theorem dX8_sum_2 : decode cX8_sum 2 = .ok (.iconst 0, 1) := by decide +kernel
theorem dX8_sum_3 : decode cX8_sum 3 = .ok (.istore 4, 2) := by decide +kernel
theorem dX8_sum_5 : decode cX8_sum 5 = .ok (.iload 4, 2) := by decide +kernel
theorem dX8_sum_7 : decode cX8_sum 7 = .ok (.aload_n 0, 1) := by decide +kernel
theorem dX8_sum_8 : decode cX8_sum 8 = .ok (.invokevirtual 51, 3) := by decide +kernel
theorem dX8_sum_11 : decode cX8_sum 11 = .ok (.if_icmp .ge 48, 3) := by decide +kernel
theorem dX8_sum_14 : decode cX8_sum 14 = .ok (.aload_n 0, 1) := by decide +kernel
theorem dX8_sum_15 : decode cX8_sum 15 = .ok (.iload 4, 2) := by decide +kernel
theorem dX8_sum_17 : decode cX8_sum 17 = .ok (.iload_n 1, 1) := by decide +kernel
theorem dX8_sum_18 : decode cX8_sum 18 = .ok (.invokevirtual 54, 3) := by decide +kernel
theorem dX8_sum_21 : decode cX8_sum 21 = .ok (.ifCond .eq 13, 3) := by decide +kernel
theorem dX8_sum_24 : decode cX8_sum 24 = .ok (.aload_n 0, 1) := by decide +kernel
theorem dX8_sum_25 : decode cX8_sum 25 = .ok (.iload 4, 2) := by decide +kernel
theorem dX8_sum_27 : decode cX8_sum 27 = .ok (.iload_n 2, 1) := by decide +kernel
theorem dX8_sum_28 : decode cX8_sum 28 = .ok (.invokevirtual 58, 3) := by decide +kernel
theorem dX8_sum_31 : decode cX8_sum 31 = .ok (.goto 5, 3) := by decide +kernel
theorem dX8_sum_34 : decode cX8_sum 34 = .ok (.bipush (-4), 2) := by decide +kernel
theorem dX8_sum_36 : decode cX8_sum 36 = .ok (.istore 5, 2) := by decide +kernel
theorem dX8_sum_38 : decode cX8_sum 38 = .ok (.iload 5, 2) := by decide +kernel
theorem dX8_sum_40 : decode cX8_sum 40 = .ok (.bipush (-4), 2) := by decide +kernel
theorem dX8_sum_42 : decode cX8_sum 42 = .ok (.if_icmp .eq 11, 3) := by decide +kernel
theorem dX8_sum_45 : decode cX8_sum 45 = .ok (.iload_n 3, 1) := by decide +kernel
theorem dX8_sum_46 : decode cX8_sum 46 = .ok (.iload 5, 2) := by decide +kernel
theorem dX8_sum_48 : decode cX8_sum 48 = .ok (.invokestatic 61, 3) := by decide +kernel
theorem dX8_sum_51 : decode cX8_sum 51 = .ok (.iadd, 1) := by decide +kernel
theorem dX8_sum_52 : decode cX8_sum 52 = .ok (.istore_n 3, 1) := by decide +kernel
theorem dX8_sum_53 : decode cX8_sum 53 = .ok (.iinc 4 1, 3) := by decide +kernel
theorem dX8_sum_56 : decode cX8_sum 56 = .ok (.goto (-51), 3) := by decide +kernel
theorem dX8_sum_59 : decode cX8_sum 59 = .ok (.iload_n 3, 1) := by decide +kernel
theorem dX8_sum_60 : decode cX8_sum 60 = .ok (.ireturn, 1) := by decide +kernel
set_option maxRecDepth 20000 in
theorem ggX8_countingCards_X8_sum : GoodIn wsX8_countingCards wsX8_sum := goodIn_r _ [5, 6, 7, 8, 4, 9, 10, 11, 12, 13, 14, 15, 16, 17, 18, 19, 20, 21, 22, 23, 24, 25, 26, 27, 28, 29, 30, 31, 32, 33, 34, 35, 36, 37, 38, 39, 40, 41, 42, 43, 44, 45, 46, 47, 48, 49, 50, 51, 52, 53, 54, 55, 56, 57, 58, 59, 62, 63, 64, 65, 66, 67, 68, 69, 70, 71] (by decide +kernel) (by decide +kernel)
set_option maxRecDepth 20000 in
theorem gX8_countingCards_X8_sum : GoodIn wsX8_countingCards (wsV RX8 64 RX8 yX8_sum wsX8_sum) := goodIn_app (goodIn_of _ (by decide +kernel)) ggX8_countingCards_X8_sum
set_option maxRecDepth 20000 in
theorem ggX8_countingCards_X10_votesFor : GoodIn wsX8_countingCards wsX10_votesFor := goodIn_r _ [61] (by decide +kernel) (by decide +kernel)
set_option maxRecDepth 20000 in
theorem gX8_countingCards_X10_votesFor_n67 : GoodIn wsX8_countingCards (wsX10_votesFor) := ggX8_countingCards_X10_votesFor
theorem dX8_countingCards_0 : decode cX8_countingCards 0 = .ok (.aload_n 0, 1) := by decide +kernel
theorem dX8_countingCards_1 : decode cX8_countingCards 1 = .ok (.iload_n 1, 1) := by decide +kernel
theorem dX8_countingCards_2 : decode cX8_countingCards 2 = .ok (.iload_n 2, 1) := by decide +kernel
theorem dX8_countingCards_3 : decode cX8_countingCards 3 = .ok (.invokevirtual 64, 3) := by decide +kernel
theorem dX8_countingCards_6 : decode cX8_countingCards 6 = .ok (.istore_n 3, 1) := by decide +kernel
theorem dX8_countingCards_7 : decode cX8_countingCards 7 = .ok (.iconst 0, 1) := by decide +kernel
theorem dX8_countingCards_8 : decode cX8_countingCards 8 = .ok (.istore 4, 2) := by decide +kernel
theorem dX8_countingCards_10 : decode cX8_countingCards 10 = .ok (.iconst 0, 1) := by decide +kernel
theorem dX8_countingCards_11 : decode cX8_countingCards 11 = .ok (.istore 5, 2) := by decide +kernel
theorem dX8_countingCards_13 : decode cX8_countingCards 13 = .ok (.iload 5, 2) := by decide +kernel
theorem dX8_countingCards_15 : decode cX8_countingCards 15 = .ok (.iconst 4, 1) := by decide +kernel
theorem dX8_countingCards_16 : decode cX8_countingCards 16 = .ok (.if_icmp .ge 20, 3) := by decide +kernel
theorem dX8_countingCards_19 : decode cX8_countingCards 19 = .ok (.iload 4, 2) := by decide +kernel
theorem dX8_countingCards_21 : decode cX8_countingCards 21 = .ok (.iload 5, 2) := by decide +kernel
theorem dX8_countingCards_23 : decode cX8_countingCards 23 = .ok (.iload_n 3, 1) := by decide +kernel
theorem dX8_countingCards_24 : decode cX8_countingCards 24 = .ok (.invokestatic 67, 3) := by decide +kernel
theorem dX8_countingCards_27 : decode cX8_countingCards 27 = .ok (.iadd, 1) := by decide +kernel
theorem dX8_countingCards_28 : decode cX8_countingCards 28 = .ok (.istore 4, 2) := by decide +kernel
theorem dX8_countingCards_30 : decode cX8_countingCards 30 = .ok (.iinc 5 1, 3) := by decide +kernel
theorem dX8_countingCards_33 : decode cX8_countingCards 33 = .ok (.goto (-20), 3) := by decide +kernel
theorem dX8_countingCards_36 : decode cX8_countingCards 36 = .ok (.iload 4, 2) := by decide +kernel
theorem dX8_countingCards_38 : decode cX8_countingCards 38 = .ok (.ireturn, 1) := by decide +kernel
set_option maxRecDepth 20000 in
theorem ggX8_fewestChanged_X8_sum : GoodIn wsX8_fewestChanged wsX8_sum := goodIn_r _ [5, 6, 7, 8, 4, 9, 10, 11, 12, 13, 14, 15, 16, 17, 18, 19, 20, 21, 22, 23, 24, 25, 26, 27, 28, 29, 30, 31, 32, 33, 34, 35, 36, 37, 38, 39, 40, 41, 42, 43, 44, 45, 46, 47, 48, 49, 50, 51, 52, 53, 54, 55, 56, 57, 58, 59, 70, 71, 72, 73, 74, 75, 76, 77, 78, 79] (by decide +kernel) (by decide +kernel)
set_option maxRecDepth 20000 in
theorem gX8_fewestChanged_X8_sum : GoodIn wsX8_fewestChanged (wsV RX8 64 RX8 yX8_sum wsX8_sum) := goodIn_app (goodIn_of _ (by decide +kernel)) ggX8_fewestChanged_X8_sum
set_option maxRecDepth 20000 in
theorem ggX8_fewestChanged_X8_cards : GoodIn wsX8_fewestChanged wsX8_cards := goodIn_r _ [9, 10, 11, 12, 13, 14, 15, 16, 70, 71, 72, 73, 74, 75, 76] (by decide +kernel) (by decide +kernel)
set_option maxRecDepth 20000 in
theorem gX8_fewestChanged_X8_cards : GoodIn wsX8_fewestChanged (wsV RX8 51 RX8 yX8_cards wsX8_cards) := goodIn_app (goodIn_of _ (by decide +kernel)) ggX8_fewestChanged_X8_cards
set_option maxRecDepth 20000 in
theorem ggX8_fewestChanged_X8_winsWith : GoodIn wsX8_fewestChanged wsX8_winsWith := goodIn_r _ [63, 64, 65, 66, 67, 68, 56, 69, 6, 7, 8, 4, 9, 10, 11, 12, 13, 14, 15, 16, 70, 71, 72, 73, 74, 75, 76] (by decide +kernel) (by decide +kernel)
set_option maxRecDepth 20000 in
theorem gX8_fewestChanged_X8_winsWith : GoodIn wsX8_fewestChanged (wsV RX8 70 RX8 yX8_winsWith wsX8_winsWith) := goodIn_app (goodIn_of _ (by decide +kernel)) ggX8_fewestChanged_X8_winsWith
theorem dX8_fewestChanged_0 : decode cX8_fewestChanged 0 = .ok (.aload_n 0, 1) := by decide +kernel
theorem dX8_fewestChanged_1 : decode cX8_fewestChanged 1 = .ok (.iconst 5, 1) := by decide +kernel
theorem dX8_fewestChanged_2 : decode cX8_fewestChanged 2 = .ok (.iload_n 2, 1) := by decide +kernel
theorem dX8_fewestChanged_3 : decode cX8_fewestChanged 3 = .ok (.invokevirtual 64, 3) := by decide +kernel
theorem dX8_fewestChanged_6 : decode cX8_fewestChanged 6 = .ok (.istore_n 3, 1) := by decide +kernel
theorem dX8_fewestChanged_7 : decode cX8_fewestChanged 7 = .ok (.iconst 0, 1) := by decide +kernel
theorem dX8_fewestChanged_8 : decode cX8_fewestChanged 8 = .ok (.istore 4, 2) := by decide +kernel
theorem dX8_fewestChanged_10 : decode cX8_fewestChanged 10 = .ok (.iload 4, 2) := by decide +kernel
theorem dX8_fewestChanged_12 : decode cX8_fewestChanged 12 = .ok (.aload_n 0, 1) := by decide +kernel
theorem dX8_fewestChanged_13 : decode cX8_fewestChanged 13 = .ok (.invokevirtual 51, 3) := by decide +kernel
theorem dX8_fewestChanged_16 : decode cX8_fewestChanged 16 = .ok (.if_icmp .gt 23, 3) := by decide +kernel
theorem dX8_fewestChanged_19 : decode cX8_fewestChanged 19 = .ok (.aload_n 0, 1) := by decide +kernel
theorem dX8_fewestChanged_20 : decode cX8_fewestChanged 20 = .ok (.iload_n 1, 1) := by decide +kernel
theorem dX8_fewestChanged_21 : decode cX8_fewestChanged 21 = .ok (.iload_n 3, 1) := by decide +kernel
theorem dX8_fewestChanged_22 : decode cX8_fewestChanged 22 = .ok (.iload 4, 2) := by decide +kernel
theorem dX8_fewestChanged_24 : decode cX8_fewestChanged 24 = .ok (.invokevirtual 70, 3) := by decide +kernel
theorem dX8_fewestChanged_27 : decode cX8_fewestChanged 27 = .ok (.ifCond .eq 6, 3) := by decide +kernel
theorem dX8_fewestChanged_30 : decode cX8_fewestChanged 30 = .ok (.iload 4, 2) := by decide +kernel
theorem dX8_fewestChanged_32 : decode cX8_fewestChanged 32 = .ok (.ireturn, 1) := by decide +kernel
theorem dX8_fewestChanged_33 : decode cX8_fewestChanged 33 = .ok (.iinc 4 1, 3) := by decide +kernel
theorem dX8_fewestChanged_36 : decode cX8_fewestChanged 36 = .ok (.goto (-26), 3) := by decide +kernel
theorem dX8_fewestChanged_39 : decode cX8_fewestChanged 39 = .ok (.bipush (-4), 2) := by decide +kernel
theorem dX8_fewestChanged_41 : decode cX8_fewestChanged 41 = .ok (.ireturn, 1) := by decide +kernel
set_option maxRecDepth 20000 in
theorem ggX8_winsWith_X10_votesFor : GoodIn wsX8_winsWith wsX10_votesFor := goodIn_r _ [7] (by decide +kernel) (by decide +kernel)
set_option maxRecDepth 20000 in
theorem gX8_winsWith_X10_votesFor_n67 : GoodIn wsX8_winsWith (wsX10_votesFor) := ggX8_winsWith_X10_votesFor
set_option maxRecDepth 20000 in
theorem ggX8_winsWith_X8_cards : GoodIn wsX8_winsWith wsX8_cards := goodIn_r _ [12, 13, 14, 15, 16, 17, 18, 19, 20, 21, 22, 23, 24, 25, 26] (by decide +kernel) (by decide +kernel)
set_option maxRecDepth 20000 in
theorem gX8_winsWith_X8_cards : GoodIn wsX8_winsWith (wsV RX8 51 RX8 yX8_cards wsX8_cards) := goodIn_app (goodIn_of _ (by decide +kernel)) ggX8_winsWith_X8_cards
theorem dX8_winsWith_0 : decode cX8_winsWith 0 = .ok (.iload_n 1, 1) := by decide +kernel
theorem dX8_winsWith_1 : decode cX8_winsWith 1 = .ok (.iload_n 2, 1) := by decide +kernel
theorem dX8_winsWith_2 : decode cX8_winsWith 2 = .ok (.invokestatic 67, 3) := by decide +kernel
theorem dX8_winsWith_5 : decode cX8_winsWith 5 = .ok (.iload_n 3, 1) := by decide +kernel
theorem dX8_winsWith_6 : decode cX8_winsWith 6 = .ok (.iadd, 1) := by decide +kernel
theorem dX8_winsWith_7 : decode cX8_winsWith 7 = .ok (.istore 4, 2) := by decide +kernel
theorem dX8_winsWith_9 : decode cX8_winsWith 9 = .ok (.iload 4, 2) := by decide +kernel
theorem dX8_winsWith_11 : decode cX8_winsWith 11 = .ok (.iconst 1, 1) := by decide +kernel
theorem dX8_winsWith_12 : decode cX8_winsWith 12 = .ok (.if_icmp .lt 12, 3) := by decide +kernel
theorem dX8_winsWith_15 : decode cX8_winsWith 15 = .ok (.iload 4, 2) := by decide +kernel
theorem dX8_winsWith_17 : decode cX8_winsWith 17 = .ok (.aload_n 0, 1) := by decide +kernel
theorem dX8_winsWith_18 : decode cX8_winsWith 18 = .ok (.invokevirtual 51, 3) := by decide +kernel
theorem dX8_winsWith_21 : decode cX8_winsWith 21 = .ok (.if_icmp .le 5, 3) := by decide +kernel
theorem dX8_winsWith_24 : decode cX8_winsWith 24 = .ok (.iconst 0, 1) := by decide +kernel
theorem dX8_winsWith_25 : decode cX8_winsWith 25 = .ok (.ireturn, 1) := by decide +kernel
theorem dX8_winsWith_26 : decode cX8_winsWith 26 = .ok (.iconst 0, 1) := by decide +kernel
theorem dX8_winsWith_27 : decode cX8_winsWith 27 = .ok (.istore 5, 2) := by decide +kernel
theorem dX8_winsWith_29 : decode cX8_winsWith 29 = .ok (.iconst 0, 1) := by decide +kernel
theorem dX8_winsWith_30 : decode cX8_winsWith 30 = .ok (.istore 6, 2) := by decide +kernel
theorem dX8_winsWith_32 : decode cX8_winsWith 32 = .ok (.iload 6, 2) := by decide +kernel
theorem dX8_winsWith_34 : decode cX8_winsWith 34 = .ok (.iconst 4, 1) := by decide +kernel
theorem dX8_winsWith_35 : decode cX8_winsWith 35 = .ok (.if_icmp .ge 35, 3) := by decide +kernel
theorem dX8_winsWith_38 : decode cX8_winsWith 38 = .ok (.iload 6, 2) := by decide +kernel
theorem dX8_winsWith_40 : decode cX8_winsWith 40 = .ok (.iload_n 1, 1) := by decide +kernel
theorem dX8_winsWith_41 : decode cX8_winsWith 41 = .ok (.if_icmp .eq 23, 3) := by decide +kernel
theorem dX8_winsWith_44 : decode cX8_winsWith 44 = .ok (.iload 5, 2) := by decide +kernel
theorem dX8_winsWith_46 : decode cX8_winsWith 46 = .ok (.iconst 0, 1) := by decide +kernel
theorem dX8_winsWith_47 : decode cX8_winsWith 47 = .ok (.iload 6, 2) := by decide +kernel
theorem dX8_winsWith_49 : decode cX8_winsWith 49 = .ok (.iload_n 2, 1) := by decide +kernel
theorem dX8_winsWith_50 : decode cX8_winsWith 50 = .ok (.invokestatic 67, 3) := by decide +kernel
theorem dX8_winsWith_53 : decode cX8_winsWith 53 = .ok (.iload 4, 2) := by decide +kernel
theorem dX8_winsWith_55 : decode cX8_winsWith 55 = .ok (.iconst 1, 1) := by decide +kernel
theorem dX8_winsWith_56 : decode cX8_winsWith 56 = .ok (.isub, 1) := by decide +kernel
theorem dX8_winsWith_57 : decode cX8_winsWith 57 = .ok (.isub, 1) := by decide +kernel
theorem dX8_winsWith_58 : decode cX8_winsWith 58 = .ok (.invokestatic 74, 3) := by decide +kernel
theorem dX8_winsWith_61 : decode cX8_winsWith 61 = .ok (.iadd, 1) := by decide +kernel
theorem dX8_winsWith_62 : decode cX8_winsWith 62 = .ok (.istore 5, 2) := by decide +kernel
theorem dX8_winsWith_64 : decode cX8_winsWith 64 = .ok (.iinc 6 1, 3) := by decide +kernel
theorem dX8_winsWith_67 : decode cX8_winsWith 67 = .ok (.goto (-35), 3) := by decide +kernel
theorem dX8_winsWith_70 : decode cX8_winsWith 70 = .ok (.iload 5, 2) := by decide +kernel
theorem dX8_winsWith_72 : decode cX8_winsWith 72 = .ok (.iload_n 3, 1) := by decide +kernel
theorem dX8_winsWith_73 : decode cX8_winsWith 73 = .ok (.if_icmp .gt 7, 3) := by decide +kernel
theorem dX8_winsWith_76 : decode cX8_winsWith 76 = .ok (.iconst 1, 1) := by decide +kernel
theorem dX8_winsWith_77 : decode cX8_winsWith 77 = .ok (.goto 4, 3) := by decide +kernel
theorem dX8_winsWith_80 : decode cX8_winsWith 80 = .ok (.iconst 0, 1) := by decide +kernel
theorem dX8_winsWith_81 : decode cX8_winsWith 81 = .ok (.ireturn, 1) := by decide +kernel
set_option maxRecDepth 20000 in
theorem ggX8_changedBetween_X4_readIn : GoodIn wsX8_changedBetween wsX4_readIn := goodIn_r _ [8, 9, 10, 11, 12, 13, 14, 15, 16, 17, 18, 19, 20, 21, 22, 23, 24, 25, 26, 27, 28, 29, 30, 31, 32, 33, 34, 35, 36, 37, 38, 39, 40, 41, 42, 43, 44, 45, 46, 99, 100, 101, 102, 103, 104, 105, 106, 107] (by decide +kernel) (by decide +kernel)
set_option maxRecDepth 20000 in
theorem gX8_changedBetween_X4_readIn : GoodIn wsX8_changedBetween (wsV RX8 29 RX4 yX4_readIn wsX4_readIn) := goodIn_app (goodIn_of _ (by decide +kernel)) ggX8_changedBetween_X4_readIn
set_option maxRecDepth 20000 in
theorem ggX8_changedBetween_X8_cards : GoodIn wsX8_changedBetween wsX8_cards := goodIn_r _ [51, 52, 53, 54, 55, 56, 57, 58, 95, 96, 97, 98, 108, 109, 110] (by decide +kernel) (by decide +kernel)
set_option maxRecDepth 20000 in
theorem gX8_changedBetween_X8_cards : GoodIn wsX8_changedBetween (wsV RX8 51 RX8 yX8_cards wsX8_cards) := goodIn_app (goodIn_of _ (by decide +kernel)) ggX8_changedBetween_X8_cards
set_option maxRecDepth 20000 in
theorem ggX8_changedBetween_X8_isOf : GoodIn wsX8_changedBetween wsX8_isOf := goodIn_r _ [62, 52, 63, 64, 65, 56, 66, 67, 68, 25, 26, 27, 28, 29, 95, 96, 97, 98, 108, 109, 110, 107] (by decide +kernel) (by decide +kernel)
set_option maxRecDepth 20000 in
theorem gX8_changedBetween_X8_isOf : GoodIn wsX8_changedBetween (wsV RX8 54 RX8 yX8_isOf wsX8_isOf) := goodIn_app (goodIn_of _ (by decide +kernel)) ggX8_changedBetween_X8_isOf
set_option maxRecDepth 20000 in
theorem ggX8_changedBetween_X8_isUnlikeLater : GoodIn wsX8_changedBetween wsX8_isUnlikeLater := goodIn_r _ [72, 3, 52, 73, 74, 75, 50, 76, 1, 77, 78, 79, 7, 80, 10, 9, 81, 64, 65, 56, 66, 67, 68, 25, 26, 27, 28, 29, 82, 83, 84, 85, 86, 87, 88, 89, 90, 91, 92, 93, 94, 95, 96, 97, 98, 99, 100, 108, 109, 110, 107] (by decide +kernel) (by decide +kernel)
set_option maxRecDepth 20000 in
theorem gX8_changedBetween_X8_isUnlikeLater : GoodIn wsX8_changedBetween (wsV RX8 79 RX8 yX8_isUnlikeLater wsX8_isUnlikeLater) := goodIn_app (goodIn_of _ (by decide +kernel)) ggX8_changedBetween_X8_isUnlikeLater
theorem dX8_changedBetween_0 : decode cX8_changedBetween 0 = .ok (.aload_n 0, 1) := by decide +kernel
theorem dX8_changedBetween_1 : decode cX8_changedBetween 1 = .ok (.getfield 12, 3) := by decide +kernel
theorem dX8_changedBetween_4 : decode cX8_changedBetween 4 = .ok (.aload_n 0, 1) := by decide +kernel
theorem dX8_changedBetween_5 : decode cX8_changedBetween 5 = .ok (.getfield 25, 3) := by decide +kernel
theorem dX8_changedBetween_8 : decode cX8_changedBetween 8 = .ok (.iload_n 3, 1) := by decide +kernel
theorem dX8_changedBetween_9 : decode cX8_changedBetween 9 = .ok (.iconst 0, 1) := by decide +kernel
theorem dX8_changedBetween_10 : decode cX8_changedBetween 10 = .ok (.invokevirtual 29, 3) := by decide +kernel
theorem dX8_changedBetween_13 : decode cX8_changedBetween 13 = .ok (.aload_n 0, 1) := by decide +kernel
theorem dX8_changedBetween_14 : decode cX8_changedBetween 14 = .ok (.getfield 18, 3) := by decide +kernel
theorem dX8_changedBetween_17 : decode cX8_changedBetween 17 = .ok (.aload_n 0, 1) := by decide +kernel
theorem dX8_changedBetween_18 : decode cX8_changedBetween 18 = .ok (.getfield 25, 3) := by decide +kernel
theorem dX8_changedBetween_21 : decode cX8_changedBetween 21 = .ok (.iload 4, 2) := by decide +kernel
theorem dX8_changedBetween_23 : decode cX8_changedBetween 23 = .ok (.iconst 0, 1) := by decide +kernel
theorem dX8_changedBetween_24 : decode cX8_changedBetween 24 = .ok (.invokevirtual 29, 3) := by decide +kernel
theorem dX8_changedBetween_27 : decode cX8_changedBetween 27 = .ok (.iconst 0, 1) := by decide +kernel
theorem dX8_changedBetween_28 : decode cX8_changedBetween 28 = .ok (.istore 5, 2) := by decide +kernel
theorem dX8_changedBetween_30 : decode cX8_changedBetween 30 = .ok (.iconst 0, 1) := by decide +kernel
theorem dX8_changedBetween_31 : decode cX8_changedBetween 31 = .ok (.istore 6, 2) := by decide +kernel
theorem dX8_changedBetween_33 : decode cX8_changedBetween 33 = .ok (.iload 6, 2) := by decide +kernel
theorem dX8_changedBetween_35 : decode cX8_changedBetween 35 = .ok (.aload_n 0, 1) := by decide +kernel
theorem dX8_changedBetween_36 : decode cX8_changedBetween 36 = .ok (.invokevirtual 51, 3) := by decide +kernel
theorem dX8_changedBetween_39 : decode cX8_changedBetween 39 = .ok (.if_icmp .ge 32, 3) := by decide +kernel
theorem dX8_changedBetween_42 : decode cX8_changedBetween 42 = .ok (.aload_n 0, 1) := by decide +kernel
theorem dX8_changedBetween_43 : decode cX8_changedBetween 43 = .ok (.iload 6, 2) := by decide +kernel
theorem dX8_changedBetween_45 : decode cX8_changedBetween 45 = .ok (.iload_n 1, 1) := by decide +kernel
theorem dX8_changedBetween_46 : decode cX8_changedBetween 46 = .ok (.invokevirtual 54, 3) := by decide +kernel
theorem dX8_changedBetween_49 : decode cX8_changedBetween 49 = .ok (.ifCond .eq 16, 3) := by decide +kernel
theorem dX8_changedBetween_52 : decode cX8_changedBetween 52 = .ok (.aload_n 0, 1) := by decide +kernel
theorem dX8_changedBetween_53 : decode cX8_changedBetween 53 = .ok (.iload 6, 2) := by decide +kernel
theorem dX8_changedBetween_55 : decode cX8_changedBetween 55 = .ok (.iload_n 2, 1) := by decide +kernel
theorem dX8_changedBetween_56 : decode cX8_changedBetween 56 = .ok (.invokevirtual 79, 3) := by decide +kernel
theorem dX8_changedBetween_59 : decode cX8_changedBetween 59 = .ok (.ifCond .eq 6, 3) := by decide +kernel
theorem dX8_changedBetween_62 : decode cX8_changedBetween 62 = .ok (.iinc 5 1, 3) := by decide +kernel
theorem dX8_changedBetween_65 : decode cX8_changedBetween 65 = .ok (.iinc 6 1, 3) := by decide +kernel
theorem dX8_changedBetween_68 : decode cX8_changedBetween 68 = .ok (.goto (-35), 3) := by decide +kernel
theorem dX8_changedBetween_71 : decode cX8_changedBetween 71 = .ok (.iload 5, 2) := by decide +kernel
theorem dX8_changedBetween_73 : decode cX8_changedBetween 73 = .ok (.ireturn, 1) := by decide +kernel
set_option maxRecDepth 20000 in
theorem ggX8_isUnlikeLater_X8_choiceOf : GoodIn wsX8_isUnlikeLater wsX8_choiceOf := goodIn_r _ [7, 8, 2, 9, 10, 11, 12, 13, 14, 15, 16, 17, 18, 19, 20, 21, 22, 23, 24, 25, 26, 27, 28, 29, 30, 31, 32, 33, 34, 35, 36, 37, 38, 39, 40, 41, 42, 43, 44, 45, 46, 47, 48, 49, 50] (by decide +kernel) (by decide +kernel)
set_option maxRecDepth 20000 in
theorem gX8_isUnlikeLater_X8_choiceOf : GoodIn wsX8_isUnlikeLater (wsV RX8 58 RX8 yX8_choiceOf wsX8_choiceOf) := goodIn_app (goodIn_of _ (by decide +kernel)) ggX8_isUnlikeLater_X8_choiceOf
set_option maxRecDepth 20000 in
theorem ggX8_isUnlikeLater_X4_choiceOf : GoodIn wsX8_isUnlikeLater wsX4_choiceOf := goodIn_r _ [13, 14, 15, 16, 17, 18, 19, 20, 21, 22, 23, 24, 25, 26, 27, 28, 29, 30, 31, 32, 33, 34, 35, 36, 37, 38, 39, 40, 45, 46, 47, 48, 49, 50] (by decide +kernel) (by decide +kernel)
set_option maxRecDepth 20000 in
theorem gX8_isUnlikeLater_X4_choiceOf : GoodIn wsX8_isUnlikeLater (wsV RX8 37 RX4 yX4_choiceOf wsX4_choiceOf) := goodIn_app (goodIn_of _ (by decide +kernel)) ggX8_isUnlikeLater_X4_choiceOf
theorem dX8_isUnlikeLater_0 : decode cX8_isUnlikeLater 0 = .ok (.aload_n 0, 1) := by decide +kernel
theorem dX8_isUnlikeLater_1 : decode cX8_isUnlikeLater 1 = .ok (.iload_n 1, 1) := by decide +kernel
theorem dX8_isUnlikeLater_2 : decode cX8_isUnlikeLater 2 = .ok (.iload_n 2, 1) := by decide +kernel
theorem dX8_isUnlikeLater_3 : decode cX8_isUnlikeLater 3 = .ok (.invokevirtual 58, 3) := by decide +kernel
theorem dX8_isUnlikeLater_6 : decode cX8_isUnlikeLater 6 = .ok (.aload_n 0, 1) := by decide +kernel
theorem dX8_isUnlikeLater_7 : decode cX8_isUnlikeLater 7 = .ok (.getfield 18, 3) := by decide +kernel
theorem dX8_isUnlikeLater_10 : decode cX8_isUnlikeLater 10 = .ok (.aload_n 0, 1) := by decide +kernel
theorem dX8_isUnlikeLater_11 : decode cX8_isUnlikeLater 11 = .ok (.getfield 21, 3) := by decide +kernel
theorem dX8_isUnlikeLater_14 : decode cX8_isUnlikeLater 14 = .ok (.iload_n 1, 1) := by decide +kernel
theorem dX8_isUnlikeLater_15 : decode cX8_isUnlikeLater 15 = .ok (.iload_n 2, 1) := by decide +kernel
theorem dX8_isUnlikeLater_16 : decode cX8_isUnlikeLater 16 = .ok (.invokevirtual 37, 3) := by decide +kernel
theorem dX8_isUnlikeLater_19 : decode cX8_isUnlikeLater 19 = .ok (.if_icmp .eq 7, 3) := by decide +kernel
theorem dX8_isUnlikeLater_22 : decode cX8_isUnlikeLater 22 = .ok (.iconst 1, 1) := by decide +kernel
theorem dX8_isUnlikeLater_23 : decode cX8_isUnlikeLater 23 = .ok (.goto 4, 3) := by decide +kernel
theorem dX8_isUnlikeLater_26 : decode cX8_isUnlikeLater 26 = .ok (.iconst 0, 1) := by decide +kernel
theorem dX8_isUnlikeLater_27 : decode cX8_isUnlikeLater 27 = .ok (.ireturn, 1) := by decide +kernel
