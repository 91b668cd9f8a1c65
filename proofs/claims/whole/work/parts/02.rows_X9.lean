set_option maxRecDepth 20000 in
theorem ggX9_init_X6_init : GoodIn wsX9_init wsX6_init := goodIn_r _ [18, 19, 2, 3, 20, 21, 22] (by decide +kernel) (by decide +kernel)
set_option maxRecDepth 20000 in
theorem gX9_init_X6_init : GoodIn wsX9_init (wsX6_init) := ggX9_init_X6_init
theorem dX9_init_0 : decode cX9_init 0 = .ok (.aload_n 0, 1) := by decide +kernel
theorem dX9_init_1 : decode cX9_init 1 = .ok (.invokespecial 3, 3) := by decide +kernel
theorem dX9_init_4 : decode cX9_init 4 = .ok (.aload_n 0, 1) := by decide +kernel
theorem dX9_init_5 : decode cX9_init 5 = .ok (.new 9, 3) := by decide +kernel
theorem dX9_init_8 : decode cX9_init 8 = .ok (.dup, 1) := by decide +kernel
theorem dX9_init_9 : decode cX9_init 9 = .ok (.sipush 200, 3) := by decide +kernel
theorem dX9_init_12 : decode cX9_init 12 = .ok (.invokespecial 11, 3) := by decide +kernel
theorem dX9_init_15 : decode cX9_init 15 = .ok (.putfield 14, 3) := by decide +kernel
theorem dX9_init_18 : decode cX9_init 18 = .ok (.aload_n 0, 1) := by decide +kernel
theorem dX9_init_19 : decode cX9_init 19 = .ok (.iconst 0, 1) := by decide +kernel
theorem dX9_init_20 : decode cX9_init 20 = .ok (.putfield 20, 3) := by decide +kernel
theorem dX9_init_23 : decode cX9_init 23 = .ok (.aload_n 0, 1) := by decide +kernel
theorem dX9_init_24 : decode cX9_init 24 = .ok (.new 9, 3) := by decide +kernel
theorem dX9_init_27 : decode cX9_init 27 = .ok (.dup, 1) := by decide +kernel
theorem dX9_init_28 : decode cX9_init 28 = .ok (.iconst 4, 1) := by decide +kernel
theorem dX9_init_29 : decode cX9_init 29 = .ok (.invokespecial 11, 3) := by decide +kernel
theorem dX9_init_32 : decode cX9_init 32 = .ok (.putfield 24, 3) := by decide +kernel
theorem dX9_init_35 : decode cX9_init 35 = .ok (.aload_n 0, 1) := by decide +kernel
theorem dX9_init_36 : decode cX9_init 36 = .ok (.iconst 0, 1) := by decide +kernel
theorem dX9_init_37 : decode cX9_init 37 = .ok (.putfield 27, 3) := by decide +kernel
theorem dX9_init_40 : decode cX9_init 40 = .ok (.aload_n 0, 1) := by decide +kernel
theorem dX9_init_41 : decode cX9_init 41 = .ok (.iconst 0, 1) := by decide +kernel
theorem dX9_init_42 : decode cX9_init 42 = .ok (.putfield 30, 3) := by decide +kernel
theorem dX9_init_45 : decode cX9_init 45 = .ok (.aload_n 0, 1) := by decide +kernel
theorem dX9_init_46 : decode cX9_init 46 = .ok (.iconst 0, 1) := by decide +kernel
theorem dX9_init_47 : decode cX9_init 47 = .ok (.putfield 33, 3) := by decide +kernel
theorem dX9_init_50 : decode cX9_init 50 = .ok (.aload_n 0, 1) := by decide +kernel
theorem dX9_init_51 : decode cX9_init 51 = .ok (.iconst 0, 1) := by decide +kernel
theorem dX9_init_52 : decode cX9_init 52 = .ok (.putfield 36, 3) := by decide +kernel
theorem dX9_init_55 : decode cX9_init 55 = .ok (.aload_n 0, 1) := by decide +kernel
theorem dX9_init_56 : decode cX9_init 56 = .ok (.iconst 0, 1) := by decide +kernel
theorem dX9_init_57 : decode cX9_init 57 = .ok (.putfield 39, 3) := by decide +kernel
theorem dX9_init_60 : decode cX9_init 60 = .ok (.aload_n 0, 1) := by decide +kernel
theorem dX9_init_61 : decode cX9_init 61 = .ok (.iconst 0, 1) := by decide +kernel
theorem dX9_init_62 : decode cX9_init 62 = .ok (.putfield 42, 3) := by decide +kernel
theorem dX9_init_65 : decode cX9_init 65 = .ok (.return_, 1) := by decide +kernel
theorem dX9_length_0 : decode cX9_length 0 = .ok (.aload_n 0, 1) := by decide +kernel
theorem dX9_length_1 : decode cX9_length 1 = .ok (.getfield 20, 3) := by decide +kernel
theorem dX9_length_4 : decode cX9_length 4 = .ok (.ireturn, 1) := by decide +kernel
theorem dX9_behind_0 : decode cX9_behind 0 = .ok (.aload_n 0, 1) := by decide +kernel
theorem dX9_behind_1 : decode cX9_behind 1 = .ok (.getfield 27, 3) := by decide +kernel
theorem dX9_behind_4 : decode cX9_behind 4 = .ok (.ireturn, 1) := by decide +kernel
theorem dX9_kind_0 : decode cX9_kind 0 = .ok (.aload_n 0, 1) := by decide +kernel
theorem dX9_kind_1 : decode cX9_kind 1 = .ok (.getfield 30, 3) := by decide +kernel
theorem dX9_kind_4 : decode cX9_kind 4 = .ok (.ireturn, 1) := by decide +kernel
theorem dX9_county_0 : decode cX9_county 0 = .ok (.aload_n 0, 1) := by decide +kernel
theorem dX9_county_1 : decode cX9_county 1 = .ok (.getfield 33, 3) := by decide +kernel
theorem dX9_county_4 : decode cX9_county 4 = .ok (.ireturn, 1) := by decide +kernel
theorem dX9_rank_0 : decode cX9_rank 0 = .ok (.aload_n 0, 1) := by decide +kernel
theorem dX9_rank_1 : decode cX9_rank 1 = .ok (.getfield 36, 3) := by decide +kernel
theorem dX9_rank_4 : decode cX9_rank 4 = .ok (.ireturn, 1) := by decide +kernel
theorem dX9_value_0 : decode cX9_value 0 = .ok (.aload_n 0, 1) := by decide +kernel
theorem dX9_value_1 : decode cX9_value 1 = .ok (.getfield 39, 3) := by decide +kernel
theorem dX9_value_4 : decode cX9_value 4 = .ok (.ireturn, 1) := by decide +kernel
theorem dX9_hour_0 : decode cX9_hour 0 = .ok (.aload_n 0, 1) := by decide +kernel
theorem dX9_hour_1 : decode cX9_hour 1 = .ok (.getfield 42, 3) := by decide +kernel
theorem dX9_hour_4 : decode cX9_hour 4 = .ok (.ireturn, 1) := by decide +kernel
set_option maxRecDepth 20000 in
theorem ggX9_append_X6_set : GoodIn wsX9_append wsX6_set := goodIn_r _ [7, 8, 18] (by decide +kernel) (by decide +kernel)
set_option maxRecDepth 20000 in
theorem gX9_append_X6_set : GoodIn wsX9_append (wsV RX9 45 RX6 yX6_set wsX6_set) := goodIn_app (goodIn_of _ (by decide +kernel)) ggX9_append_X6_set
theorem dX9_append_0 : decode cX9_append 0 = .ok (.aload_n 0, 1) := by decide +kernel
theorem dX9_append_1 : decode cX9_append 1 = .ok (.getfield 20, 3) := by decide +kernel
theorem dX9_append_4 : decode cX9_append 4 = .ok (.iload_n 1, 1) := by decide +kernel
theorem dX9_append_5 : decode cX9_append 5 = .ok (.iadd, 1) := by decide +kernel
theorem dX9_append_6 : decode cX9_append 6 = .ok (.sipush 200, 3) := by decide +kernel
theorem dX9_append_9 : decode cX9_append 9 = .ok (.if_icmp .le 6, 3) := by decide +kernel
theorem dX9_append_12 : decode cX9_append 12 = .ok (.bipush (-3), 2) := by decide +kernel
theorem dX9_append_14 : decode cX9_append 14 = .ok (.ireturn, 1) := by decide +kernel
theorem dX9_append_15 : decode cX9_append 15 = .ok (.iload_n 1, 1) := by decide +kernel
theorem dX9_append_16 : decode cX9_append 16 = .ok (.iconst 1, 1) := by decide +kernel
theorem dX9_append_17 : decode cX9_append 17 = .ok (.isub, 1) := by decide +kernel
theorem dX9_append_18 : decode cX9_append 18 = .ok (.istore 4, 2) := by decide +kernel
theorem dX9_append_20 : decode cX9_append 20 = .ok (.iload 4, 2) := by decide +kernel
theorem dX9_append_22 : decode cX9_append 22 = .ok (.ifCond .lt 42, 3) := by decide +kernel
theorem dX9_append_25 : decode cX9_append 25 = .ok (.aload_n 0, 1) := by decide +kernel
theorem dX9_append_26 : decode cX9_append 26 = .ok (.getfield 14, 3) := by decide +kernel
theorem dX9_append_29 : decode cX9_append 29 = .ok (.aload_n 0, 1) := by decide +kernel
theorem dX9_append_30 : decode cX9_append 30 = .ok (.getfield 20, 3) := by decide +kernel
theorem dX9_append_33 : decode cX9_append 33 = .ok (.lload_n 2, 1) := by decide +kernel
theorem dX9_append_34 : decode cX9_append 34 = .ok (.bipush 8, 2) := by decide +kernel
theorem dX9_append_36 : decode cX9_append 36 = .ok (.iload 4, 2) := by decide +kernel
theorem dX9_append_38 : decode cX9_append 38 = .ok (.imul, 1) := by decide +kernel
theorem dX9_append_39 : decode cX9_append 39 = .ok (.lushr, 1) := by decide +kernel
theorem dX9_append_40 : decode cX9_append 40 = .ok (.l2i, 1) := by decide +kernel
theorem dX9_append_41 : decode cX9_append 41 = .ok (.sipush 255, 3) := by decide +kernel
theorem dX9_append_44 : decode cX9_append 44 = .ok (.iand, 1) := by decide +kernel
theorem dX9_append_45 : decode cX9_append 45 = .ok (.invokevirtual 45, 3) := by decide +kernel
theorem dX9_append_48 : decode cX9_append 48 = .ok (.aload_n 0, 1) := by decide +kernel
theorem dX9_append_49 : decode cX9_append 49 = .ok (.dup, 1) := by decide +kernel
theorem dX9_append_50 : decode cX9_append 50 = .ok (.getfield 20, 3) := by decide +kernel
theorem dX9_append_53 : decode cX9_append 53 = .ok (.iconst 1, 1) := by decide +kernel
theorem dX9_append_54 : decode cX9_append 54 = .ok (.iadd, 1) := by decide +kernel
theorem dX9_append_55 : decode cX9_append 55 = .ok (.putfield 20, 3) := by decide +kernel
theorem dX9_append_58 : decode cX9_append 58 = .ok (.iinc 4 (-1), 3) := by decide +kernel
theorem dX9_append_61 : decode cX9_append 61 = .ok (.goto (-41), 3) := by decide +kernel
theorem dX9_append_64 : decode cX9_append 64 = .ok (.aload_n 0, 1) := by decide +kernel
theorem dX9_append_65 : decode cX9_append 65 = .ok (.getfield 20, 3) := by decide +kernel
theorem dX9_append_68 : decode cX9_append 68 = .ok (.ireturn, 1) := by decide +kernel
theorem dX9_clear_0 : decode cX9_clear 0 = .ok (.aload_n 0, 1) := by decide +kernel
theorem dX9_clear_1 : decode cX9_clear 1 = .ok (.getfield 20, 3) := by decide +kernel
theorem dX9_clear_4 : decode cX9_clear 4 = .ok (.istore_n 1, 1) := by decide +kernel
theorem dX9_clear_5 : decode cX9_clear 5 = .ok (.aload_n 0, 1) := by decide +kernel
theorem dX9_clear_6 : decode cX9_clear 6 = .ok (.iconst 0, 1) := by decide +kernel
theorem dX9_clear_7 : decode cX9_clear 7 = .ok (.putfield 20, 3) := by decide +kernel
theorem dX9_clear_10 : decode cX9_clear 10 = .ok (.iload_n 1, 1) := by decide +kernel
theorem dX9_clear_11 : decode cX9_clear 11 = .ok (.ireturn, 1) := by decide +kernel
set_option maxRecDepth 20000 in
theorem ggX9_firstFault_X9_read : GoodIn wsX9_firstFault wsX9_read := goodIn_r _ [7, 8, 2, 9, 10, 11, 6, 12, 1, 13, 14, 15, 16, 17, 18, 19, 20, 21, 22, 23, 24, 25, 26, 27, 28, 29, 30, 31, 32, 33, 34, 35, 36, 37, 38, 39, 40, 41, 42, 43, 44, 45, 46, 47, 48, 49, 50, 51, 52, 53, 54, 55, 56, 57, 58, 59, 60, 61, 62, 63, 64, 65, 66, 67, 68, 69, 70, 71, 72, 73] (by decide +kernel) (by decide +kernel)
set_option maxRecDepth 20000 in
theorem gX9_firstFault_X9_read : GoodIn wsX9_firstFault (wsV RX9 49 RX9 yX9_read wsX9_read) := goodIn_app (goodIn_of _ (by decide +kernel)) ggX9_firstFault_X9_read
theorem dX9_firstFault_0 : decode cX9_firstFault 0 = .ok (.iconst 0, 1) := by decide +kernel
theorem dX9_firstFault_1 : decode cX9_firstFault 1 = .ok (.istore_n 1, 1) := by decide +kernel
theorem dX9_firstFault_2 : decode cX9_firstFault 2 = .ok (.iconst 0, 1) := by decide +kernel
theorem dX9_firstFault_3 : decode cX9_firstFault 3 = .ok (.istore_n 2, 1) := by decide +kernel
theorem dX9_firstFault_4 : decode cX9_firstFault 4 = .ok (.iload_n 2, 1) := by decide +kernel
theorem dX9_firstFault_5 : decode cX9_firstFault 5 = .ok (.sipush 200, 3) := by decide +kernel
theorem dX9_firstFault_8 : decode cX9_firstFault 8 = .ok (.if_icmp .ge 32, 3) := by decide +kernel
theorem dX9_firstFault_11 : decode cX9_firstFault 11 = .ok (.iload_n 1, 1) := by decide +kernel
theorem dX9_firstFault_12 : decode cX9_firstFault 12 = .ok (.aload_n 0, 1) := by decide +kernel
theorem dX9_firstFault_13 : decode cX9_firstFault 13 = .ok (.getfield 20, 3) := by decide +kernel
theorem dX9_firstFault_16 : decode cX9_firstFault 16 = .ok (.if_icmp .ge 24, 3) := by decide +kernel
theorem dX9_firstFault_19 : decode cX9_firstFault 19 = .ok (.aload_n 0, 1) := by decide +kernel
theorem dX9_firstFault_20 : decode cX9_firstFault 20 = .ok (.iload_n 1, 1) := by decide +kernel
theorem dX9_firstFault_21 : decode cX9_firstFault 21 = .ok (.invokevirtual 49, 3) := by decide +kernel
theorem dX9_firstFault_24 : decode cX9_firstFault 24 = .ok (.ifCond .ne 5, 3) := by decide +kernel
theorem dX9_firstFault_27 : decode cX9_firstFault 27 = .ok (.iload_n 1, 1) := by decide +kernel
theorem dX9_firstFault_28 : decode cX9_firstFault 28 = .ok (.ireturn, 1) := by decide +kernel
theorem dX9_firstFault_29 : decode cX9_firstFault 29 = .ok (.aload_n 0, 1) := by decide +kernel
theorem dX9_firstFault_30 : decode cX9_firstFault 30 = .ok (.getfield 27, 3) := by decide +kernel
theorem dX9_firstFault_33 : decode cX9_firstFault 33 = .ok (.istore_n 1, 1) := by decide +kernel
theorem dX9_firstFault_34 : decode cX9_firstFault 34 = .ok (.iinc 2 1, 3) := by decide +kernel
theorem dX9_firstFault_37 : decode cX9_firstFault 37 = .ok (.goto (-33), 3) := by decide +kernel
theorem dX9_firstFault_40 : decode cX9_firstFault 40 = .ok (.bipush (-4), 2) := by decide +kernel
theorem dX9_firstFault_42 : decode cX9_firstFault 42 = .ok (.ireturn, 1) := by decide +kernel
set_option maxRecDepth 20000 in
theorem ggX9_read_X9_byteAt : GoodIn wsX9_read wsX9_byteAt := goodIn_r _ [7, 8, 9, 10, 11, 12, 13, 14, 15, 60, 61, 62, 63, 64, 65, 66, 67, 68, 69] (by decide +kernel) (by decide +kernel)
set_option maxRecDepth 20000 in
theorem gX9_read_X9_byteAt : GoodIn wsX9_read (wsV RX9 53 RX9 yX9_byteAt wsX9_byteAt) := goodIn_app (goodIn_of _ (by decide +kernel)) ggX9_read_X9_byteAt
set_option maxRecDepth 20000 in
theorem ggX9_read_X9_kindOf : GoodIn wsX9_read wsX9_kindOf := goodIn_r _ [18] (by decide +kernel) (by decide +kernel)
set_option maxRecDepth 20000 in
theorem gX9_read_X9_kindOf : GoodIn wsX9_read (va_wsS RX9 57 yX9_kindOf wsX9_kindOf) := goodIn_app (goodIn_of _ (by decide +kernel)) ggX9_read_X9_kindOf
set_option maxRecDepth 20000 in
theorem ggX9_read_X9_numbersOf : GoodIn wsX9_read wsX9_numbersOf := goodIn_r _ [21] (by decide +kernel) (by decide +kernel)
set_option maxRecDepth 20000 in
theorem gX9_read_X9_numbersOf : GoodIn wsX9_read (va_wsS RX9 60 yX9_numbersOf wsX9_numbersOf) := goodIn_app (goodIn_of _ (by decide +kernel)) ggX9_read_X9_numbersOf
set_option maxRecDepth 20000 in
theorem ggX9_read_X9_readNumber : GoodIn wsX9_read wsX9_readNumber := goodIn_r _ [25, 26, 3, 4, 5, 6, 7, 8, 9, 10, 11, 12, 13, 14, 15, 27, 28, 29, 30, 31, 32, 33, 60, 61, 62, 63, 64, 65, 66, 67, 68, 69] (by decide +kernel) (by decide +kernel)
set_option maxRecDepth 20000 in
theorem gX9_read_X9_readNumber : GoodIn wsX9_read (wsV RX9 63 RX9 yX9_readNumber wsX9_readNumber) := goodIn_app (goodIn_of _ (by decide +kernel)) ggX9_read_X9_readNumber
set_option maxRecDepth 20000 in
theorem ggX9_read_X9_tellNumbers : GoodIn wsX9_read wsX9_tellNumbers := goodIn_r _ [37, 1, 26, 38, 39, 40, 41, 10, 11, 12, 13, 14, 15, 19, 20, 6, 21, 60, 61, 62, 63, 64, 65, 66, 67, 68, 69] (by decide +kernel) (by decide +kernel)
set_option maxRecDepth 20000 in
theorem gX9_read_X9_tellNumbers : GoodIn wsX9_read (wsV RX9 67 RX9 yX9_tellNumbers wsX9_tellNumbers) := goodIn_app (goodIn_of _ (by decide +kernel)) ggX9_read_X9_tellNumbers
set_option maxRecDepth 20000 in
theorem ggX9_read_X9_isTold : GoodIn wsX9_read wsX9_isTold := goodIn_r _ [45, 38, 39, 41, 40, 1, 46, 47, 48, 49, 50, 51, 52, 53, 54, 55, 6, 56, 57, 58, 59, 60, 61, 62, 63, 64, 65, 66, 67, 68] (by decide +kernel) (by decide +kernel)
set_option maxRecDepth 20000 in
theorem gX9_read_X9_isTold : GoodIn wsX9_read (wsV RX9 70 RX9 yX9_isTold wsX9_isTold) := goodIn_app (goodIn_of _ (by decide +kernel)) ggX9_read_X9_isTold
theorem dX9_read_0 : decode cX9_read 0 = .ok (.aload_n 0, 1) := by decide +kernel
theorem dX9_read_1 : decode cX9_read 1 = .ok (.aload_n 0, 1) := by decide +kernel
theorem dX9_read_2 : decode cX9_read 2 = .ok (.iload_n 1, 1) := by decide +kernel
theorem dX9_read_3 : decode cX9_read 3 = .ok (.invokevirtual 53, 3) := by decide +kernel
theorem dX9_read_6 : decode cX9_read 6 = .ok (.invokestatic 57, 3) := by decide +kernel
theorem dX9_read_9 : decode cX9_read 9 = .ok (.putfield 30, 3) := by decide +kernel
theorem dX9_read_12 : decode cX9_read 12 = .ok (.aload_n 0, 1) := by decide +kernel
theorem dX9_read_13 : decode cX9_read 13 = .ok (.getfield 30, 3) := by decide +kernel
theorem dX9_read_16 : decode cX9_read 16 = .ok (.invokestatic 60, 3) := by decide +kernel
theorem dX9_read_19 : decode cX9_read 19 = .ok (.istore_n 2, 1) := by decide +kernel
theorem dX9_read_20 : decode cX9_read 20 = .ok (.iload_n 2, 1) := by decide +kernel
theorem dX9_read_21 : decode cX9_read 21 = .ok (.ifCond .ne 5, 3) := by decide +kernel
theorem dX9_read_24 : decode cX9_read 24 = .ok (.iconst 0, 1) := by decide +kernel
theorem dX9_read_25 : decode cX9_read 25 = .ok (.ireturn, 1) := by decide +kernel
theorem dX9_read_26 : decode cX9_read 26 = .ok (.iload_n 1, 1) := by decide +kernel
theorem dX9_read_27 : decode cX9_read 27 = .ok (.iconst 1, 1) := by decide +kernel
theorem dX9_read_28 : decode cX9_read 28 = .ok (.iadd, 1) := by decide +kernel
theorem dX9_read_29 : decode cX9_read 29 = .ok (.istore_n 3, 1) := by decide +kernel
theorem dX9_read_30 : decode cX9_read 30 = .ok (.iconst 0, 1) := by decide +kernel
theorem dX9_read_31 : decode cX9_read 31 = .ok (.istore 4, 2) := by decide +kernel
theorem dX9_read_33 : decode cX9_read 33 = .ok (.iload 4, 2) := by decide +kernel
theorem dX9_read_35 : decode cX9_read 35 = .ok (.iload_n 2, 1) := by decide +kernel
theorem dX9_read_36 : decode cX9_read 36 = .ok (.if_icmp .ge 60, 3) := by decide +kernel
theorem dX9_read_39 : decode cX9_read 39 = .ok (.aload_n 0, 1) := by decide +kernel
theorem dX9_read_40 : decode cX9_read 40 = .ok (.iload_n 3, 1) := by decide +kernel
theorem dX9_read_41 : decode cX9_read 41 = .ok (.iload 4, 2) := by decide +kernel
theorem dX9_read_43 : decode cX9_read 43 = .ok (.invokevirtual 63, 3) := by decide +kernel
theorem dX9_read_46 : decode cX9_read 46 = .ok (.istore 5, 2) := by decide +kernel
theorem dX9_read_48 : decode cX9_read 48 = .ok (.iload_n 3, 1) := by decide +kernel
theorem dX9_read_49 : decode cX9_read 49 = .ok (.iload 5, 2) := by decide +kernel
theorem dX9_read_51 : decode cX9_read 51 = .ok (.iadd, 1) := by decide +kernel
theorem dX9_read_52 : decode cX9_read 52 = .ok (.istore_n 3, 1) := by decide +kernel
theorem dX9_read_53 : decode cX9_read 53 = .ok (.iload 4, 2) := by decide +kernel
theorem dX9_read_55 : decode cX9_read 55 = .ok (.iconst 1, 1) := by decide +kernel
theorem dX9_read_56 : decode cX9_read 56 = .ok (.iadd, 1) := by decide +kernel
theorem dX9_read_57 : decode cX9_read 57 = .ok (.iload_n 2, 1) := by decide +kernel
theorem dX9_read_58 : decode cX9_read 58 = .ok (.if_icmp .ge 8, 3) := by decide +kernel
theorem dX9_read_61 : decode cX9_read 61 = .ok (.bipush 44, 2) := by decide +kernel
theorem dX9_read_63 : decode cX9_read 63 = .ok (.goto 5, 3) := by decide +kernel
theorem dX9_read_66 : decode cX9_read 66 = .ok (.bipush 59, 2) := by decide +kernel
theorem dX9_read_68 : decode cX9_read 68 = .ok (.istore 6, 2) := by decide +kernel
theorem dX9_read_70 : decode cX9_read 70 = .ok (.iload 5, 2) := by decide +kernel
theorem dX9_read_72 : decode cX9_read 72 = .ok (.ifCond .eq 13, 3) := by decide +kernel
theorem dX9_read_75 : decode cX9_read 75 = .ok (.aload_n 0, 1) := by decide +kernel
theorem dX9_read_76 : decode cX9_read 76 = .ok (.iload_n 3, 1) := by decide +kernel
theorem dX9_read_77 : decode cX9_read 77 = .ok (.invokevirtual 53, 3) := by decide +kernel
theorem dX9_read_80 : decode cX9_read 80 = .ok (.iload 6, 2) := by decide +kernel
theorem dX9_read_82 : decode cX9_read 82 = .ok (.if_icmp .eq 5, 3) := by decide +kernel
theorem dX9_read_85 : decode cX9_read 85 = .ok (.iconst 0, 1) := by decide +kernel
theorem dX9_read_86 : decode cX9_read 86 = .ok (.ireturn, 1) := by decide +kernel
theorem dX9_read_87 : decode cX9_read 87 = .ok (.iinc 3 1, 3) := by decide +kernel
theorem dX9_read_90 : decode cX9_read 90 = .ok (.iinc 4 1, 3) := by decide +kernel
theorem dX9_read_93 : decode cX9_read 93 = .ok (.goto (-60), 3) := by decide +kernel
theorem dX9_read_96 : decode cX9_read 96 = .ok (.aload_n 0, 1) := by decide +kernel
theorem dX9_read_97 : decode cX9_read 97 = .ok (.iload_n 3, 1) := by decide +kernel
theorem dX9_read_98 : decode cX9_read 98 = .ok (.putfield 27, 3) := by decide +kernel
theorem dX9_read_101 : decode cX9_read 101 = .ok (.aload_n 0, 1) := by decide +kernel
theorem dX9_read_102 : decode cX9_read 102 = .ok (.invokevirtual 67, 3) := by decide +kernel
theorem dX9_read_105 : decode cX9_read 105 = .ok (.aload_n 0, 1) := by decide +kernel
theorem dX9_read_106 : decode cX9_read 106 = .ok (.invokevirtual 70, 3) := by decide +kernel
theorem dX9_read_109 : decode cX9_read 109 = .ok (.ireturn, 1) := by decide +kernel
set_option maxRecDepth 20000 in
theorem ggX9_byteAt_X6_get : GoodIn wsX9_byteAt wsX6_get := goodIn_r _ [7, 8, 18] (by decide +kernel) (by decide +kernel)
set_option maxRecDepth 20000 in
theorem gX9_byteAt_X6_get : GoodIn wsX9_byteAt (wsV RX9 74 RX6 yX6_get wsX6_get) := goodIn_app (goodIn_of _ (by decide +kernel)) ggX9_byteAt_X6_get
theorem dX9_byteAt_0 : decode cX9_byteAt 0 = .ok (.iload_n 1, 1) := by decide +kernel
theorem dX9_byteAt_1 : decode cX9_byteAt 1 = .ok (.aload_n 0, 1) := by decide +kernel
theorem dX9_byteAt_2 : decode cX9_byteAt 2 = .ok (.getfield 20, 3) := by decide +kernel
theorem dX9_byteAt_5 : decode cX9_byteAt 5 = .ok (.if_icmp .ge 14, 3) := by decide +kernel
theorem dX9_byteAt_8 : decode cX9_byteAt 8 = .ok (.aload_n 0, 1) := by decide +kernel
theorem dX9_byteAt_9 : decode cX9_byteAt 9 = .ok (.getfield 14, 3) := by decide +kernel
theorem dX9_byteAt_12 : decode cX9_byteAt 12 = .ok (.iload_n 1, 1) := by decide +kernel
theorem dX9_byteAt_13 : decode cX9_byteAt 13 = .ok (.invokevirtual 74, 3) := by decide +kernel
theorem dX9_byteAt_16 : decode cX9_byteAt 16 = .ok (.goto 4, 3) := by decide +kernel
theorem dX9_byteAt_19 : decode cX9_byteAt 19 = .ok (.iconst (-1), 1) := by decide +kernel
theorem dX9_byteAt_20 : decode cX9_byteAt 20 = .ok (.ireturn, 1) := by decide +kernel
theorem dX9_kindOf_0 : decode cX9_kindOf 0 = .ok (.iload_n 0, 1) := by decide +kernel
theorem dX9_kindOf_1 : decode cX9_kindOf 1 = .ok (.lookupswitch 51 #[(100, 45), (109, 47), (111, 49), (118, 43)], 43) := by decide +kernel
theorem dX9_kindOf_44 : decode cX9_kindOf 44 = .ok (.iconst 0, 1) := by decide +kernel
theorem dX9_kindOf_45 : decode cX9_kindOf 45 = .ok (.ireturn, 1) := by decide +kernel
theorem dX9_kindOf_46 : decode cX9_kindOf 46 = .ok (.iconst 1, 1) := by decide +kernel
theorem dX9_kindOf_47 : decode cX9_kindOf 47 = .ok (.ireturn, 1) := by decide +kernel
theorem dX9_kindOf_48 : decode cX9_kindOf 48 = .ok (.iconst 2, 1) := by decide +kernel
theorem dX9_kindOf_49 : decode cX9_kindOf 49 = .ok (.ireturn, 1) := by decide +kernel
theorem dX9_kindOf_50 : decode cX9_kindOf 50 = .ok (.iconst 3, 1) := by decide +kernel
theorem dX9_kindOf_51 : decode cX9_kindOf 51 = .ok (.ireturn, 1) := by decide +kernel
theorem dX9_kindOf_52 : decode cX9_kindOf 52 = .ok (.bipush (-4), 2) := by decide +kernel
theorem dX9_kindOf_54 : decode cX9_kindOf 54 = .ok (.ireturn, 1) := by decide +kernel
theorem dX9_numbersOf_0 : decode cX9_numbersOf 0 = .ok (.iload_n 0, 1) := by decide +kernel
theorem dX9_numbersOf_1 : decode cX9_numbersOf 1 = .ok (.tableswitch 39 0 3 #[31, 33, 35, 37], 31) := by decide +kernel
theorem dX9_numbersOf_32 : decode cX9_numbersOf 32 = .ok (.iconst 3, 1) := by decide +kernel
theorem dX9_numbersOf_33 : decode cX9_numbersOf 33 = .ok (.ireturn, 1) := by decide +kernel
theorem dX9_numbersOf_34 : decode cX9_numbersOf 34 = .ok (.iconst 3, 1) := by decide +kernel
theorem dX9_numbersOf_35 : decode cX9_numbersOf 35 = .ok (.ireturn, 1) := by decide +kernel
theorem dX9_numbersOf_36 : decode cX9_numbersOf 36 = .ok (.iconst 2, 1) := by decide +kernel
theorem dX9_numbersOf_37 : decode cX9_numbersOf 37 = .ok (.ireturn, 1) := by decide +kernel
theorem dX9_numbersOf_38 : decode cX9_numbersOf 38 = .ok (.iconst 4, 1) := by decide +kernel
theorem dX9_numbersOf_39 : decode cX9_numbersOf 39 = .ok (.ireturn, 1) := by decide +kernel
theorem dX9_numbersOf_40 : decode cX9_numbersOf 40 = .ok (.iconst 0, 1) := by decide +kernel
theorem dX9_numbersOf_41 : decode cX9_numbersOf 41 = .ok (.ireturn, 1) := by decide +kernel
set_option maxRecDepth 20000 in
theorem ggX9_readNumber_X9_byteAt : GoodIn wsX9_readNumber wsX9_byteAt := goodIn_r _ [6, 7, 8, 9, 10, 11, 12, 13, 14, 22, 23, 24, 25, 26, 27, 28, 29, 30, 31] (by decide +kernel) (by decide +kernel)
set_option maxRecDepth 20000 in
theorem gX9_readNumber_X9_byteAt : GoodIn wsX9_readNumber (wsV RX9 53 RX9 yX9_byteAt wsX9_byteAt) := goodIn_app (goodIn_of _ (by decide +kernel)) ggX9_readNumber_X9_byteAt
set_option maxRecDepth 20000 in
theorem ggX9_readNumber_X9_isFigure : GoodIn wsX9_readNumber wsX9_isFigure := goodIn_r _ [17] (by decide +kernel) (by decide +kernel)
set_option maxRecDepth 20000 in
theorem gX9_readNumber_X9_isFigure : GoodIn wsX9_readNumber (va_wsS RX9 77 yX9_isFigure wsX9_isFigure) := goodIn_app (goodIn_of _ (by decide +kernel)) ggX9_readNumber_X9_isFigure
set_option maxRecDepth 20000 in
theorem ggX9_readNumber_X6_set : GoodIn wsX9_readNumber wsX6_set := goodIn_r _ [21, 14, 31] (by decide +kernel) (by decide +kernel)
set_option maxRecDepth 20000 in
theorem gX9_readNumber_X6_set : GoodIn wsX9_readNumber (wsV RX9 45 RX6 yX6_set wsX6_set) := goodIn_app (goodIn_of _ (by decide +kernel)) ggX9_readNumber_X6_set
theorem dX9_readNumber_0 : decode cX9_readNumber 0 = .ok (.iconst 0, 1) := by decide +kernel
theorem dX9_readNumber_1 : decode cX9_readNumber 1 = .ok (.istore_n 3, 1) := by decide +kernel
theorem dX9_readNumber_2 : decode cX9_readNumber 2 = .ok (.iconst 0, 1) := by decide +kernel
theorem dX9_readNumber_3 : decode cX9_readNumber 3 = .ok (.istore 4, 2) := by decide +kernel
theorem dX9_readNumber_5 : decode cX9_readNumber 5 = .ok (.iload_n 3, 1) := by decide +kernel
theorem dX9_readNumber_6 : decode cX9_readNumber 6 = .ok (.iconst 3, 1) := by decide +kernel
theorem dX9_readNumber_7 : decode cX9_readNumber 7 = .ok (.if_icmp .ge 40, 3) := by decide +kernel
theorem dX9_readNumber_10 : decode cX9_readNumber 10 = .ok (.aload_n 0, 1) := by decide +kernel
theorem dX9_readNumber_11 : decode cX9_readNumber 11 = .ok (.iload_n 1, 1) := by decide +kernel
theorem dX9_readNumber_12 : decode cX9_readNumber 12 = .ok (.iload_n 3, 1) := by decide +kernel
theorem dX9_readNumber_13 : decode cX9_readNumber 13 = .ok (.iadd, 1) := by decide +kernel
theorem dX9_readNumber_14 : decode cX9_readNumber 14 = .ok (.invokevirtual 53, 3) := by decide +kernel
theorem dX9_readNumber_17 : decode cX9_readNumber 17 = .ok (.invokestatic 77, 3) := by decide +kernel
theorem dX9_readNumber_20 : decode cX9_readNumber 20 = .ok (.ifCond .eq 27, 3) := by decide +kernel
theorem dX9_readNumber_23 : decode cX9_readNumber 23 = .ok (.iload 4, 2) := by decide +kernel
theorem dX9_readNumber_25 : decode cX9_readNumber 25 = .ok (.bipush 10, 2) := by decide +kernel
theorem dX9_readNumber_27 : decode cX9_readNumber 27 = .ok (.imul, 1) := by decide +kernel
theorem dX9_readNumber_28 : decode cX9_readNumber 28 = .ok (.aload_n 0, 1) := by decide +kernel
theorem dX9_readNumber_29 : decode cX9_readNumber 29 = .ok (.iload_n 1, 1) := by decide +kernel
theorem dX9_readNumber_30 : decode cX9_readNumber 30 = .ok (.iload_n 3, 1) := by decide +kernel
theorem dX9_readNumber_31 : decode cX9_readNumber 31 = .ok (.iadd, 1) := by decide +kernel
theorem dX9_readNumber_32 : decode cX9_readNumber 32 = .ok (.invokevirtual 53, 3) := by decide +kernel
theorem dX9_readNumber_35 : decode cX9_readNumber 35 = .ok (.iadd, 1) := by decide +kernel
theorem dX9_readNumber_36 : decode cX9_readNumber 36 = .ok (.bipush 48, 2) := by decide +kernel
theorem dX9_readNumber_38 : decode cX9_readNumber 38 = .ok (.isub, 1) := by decide +kernel
theorem dX9_readNumber_39 : decode cX9_readNumber 39 = .ok (.istore 4, 2) := by decide +kernel
theorem dX9_readNumber_41 : decode cX9_readNumber 41 = .ok (.iinc 3 1, 3) := by decide +kernel
theorem dX9_readNumber_44 : decode cX9_readNumber 44 = .ok (.goto (-39), 3) := by decide +kernel
theorem dX9_readNumber_47 : decode cX9_readNumber 47 = .ok (.aload_n 0, 1) := by decide +kernel
theorem dX9_readNumber_48 : decode cX9_readNumber 48 = .ok (.getfield 24, 3) := by decide +kernel
theorem dX9_readNumber_51 : decode cX9_readNumber 51 = .ok (.iload_n 2, 1) := by decide +kernel
theorem dX9_readNumber_52 : decode cX9_readNumber 52 = .ok (.iload 4, 2) := by decide +kernel
theorem dX9_readNumber_54 : decode cX9_readNumber 54 = .ok (.invokevirtual 45, 3) := by decide +kernel
theorem dX9_readNumber_57 : decode cX9_readNumber 57 = .ok (.iload_n 3, 1) := by decide +kernel
theorem dX9_readNumber_58 : decode cX9_readNumber 58 = .ok (.ireturn, 1) := by decide +kernel
theorem dX9_isFigure_0 : decode cX9_isFigure 0 = .ok (.iload_n 0, 1) := by decide +kernel
theorem dX9_isFigure_1 : decode cX9_isFigure 1 = .ok (.bipush 48, 2) := by decide +kernel
theorem dX9_isFigure_3 : decode cX9_isFigure 3 = .ok (.if_icmp .lt 13, 3) := by decide +kernel
theorem dX9_isFigure_6 : decode cX9_isFigure 6 = .ok (.iload_n 0, 1) := by decide +kernel
theorem dX9_isFigure_7 : decode cX9_isFigure 7 = .ok (.bipush 57, 2) := by decide +kernel
theorem dX9_isFigure_9 : decode cX9_isFigure 9 = .ok (.if_icmp .gt 7, 3) := by decide +kernel
theorem dX9_isFigure_12 : decode cX9_isFigure 12 = .ok (.iconst 1, 1) := by decide +kernel
theorem dX9_isFigure_13 : decode cX9_isFigure 13 = .ok (.goto 4, 3) := by decide +kernel
theorem dX9_isFigure_16 : decode cX9_isFigure 16 = .ok (.iconst 0, 1) := by decide +kernel
theorem dX9_isFigure_17 : decode cX9_isFigure 17 = .ok (.ireturn, 1) := by decide +kernel
set_option maxRecDepth 20000 in
theorem ggX9_tellNumbers_X6_get : GoodIn wsX9_tellNumbers wsX6_get := goodIn_r _ [11, 12, 26] (by decide +kernel) (by decide +kernel)
set_option maxRecDepth 20000 in
theorem gX9_tellNumbers_X6_get : GoodIn wsX9_tellNumbers (wsV RX9 74 RX6 yX6_get wsX6_get) := goodIn_app (goodIn_of _ (by decide +kernel)) ggX9_tellNumbers_X6_get
set_option maxRecDepth 20000 in
theorem ggX9_tellNumbers_X9_numbersOf : GoodIn wsX9_tellNumbers wsX9_numbersOf := goodIn_r _ [16] (by decide +kernel) (by decide +kernel)
set_option maxRecDepth 20000 in
theorem gX9_tellNumbers_X9_numbersOf : GoodIn wsX9_tellNumbers (va_wsS RX9 60 yX9_numbersOf wsX9_numbersOf) := goodIn_app (goodIn_of _ (by decide +kernel)) ggX9_tellNumbers_X9_numbersOf
theorem dX9_tellNumbers_0 : decode cX9_tellNumbers 0 = .ok (.aload_n 0, 1) := by decide +kernel
theorem dX9_tellNumbers_1 : decode cX9_tellNumbers 1 = .ok (.getfield 30, 3) := by decide +kernel
theorem dX9_tellNumbers_4 : decode cX9_tellNumbers 4 = .ok (.iconst 2, 1) := by decide +kernel
theorem dX9_tellNumbers_5 : decode cX9_tellNumbers 5 = .ok (.if_icmp .ne 7, 3) := by decide +kernel
theorem dX9_tellNumbers_8 : decode cX9_tellNumbers 8 = .ok (.iconst 1, 1) := by decide +kernel
theorem dX9_tellNumbers_9 : decode cX9_tellNumbers 9 = .ok (.goto 4, 3) := by decide +kernel
theorem dX9_tellNumbers_12 : decode cX9_tellNumbers 12 = .ok (.iconst 0, 1) := by decide +kernel
theorem dX9_tellNumbers_13 : decode cX9_tellNumbers 13 = .ok (.istore_n 1, 1) := by decide +kernel
theorem dX9_tellNumbers_14 : decode cX9_tellNumbers 14 = .ok (.aload_n 0, 1) := by decide +kernel
theorem dX9_tellNumbers_15 : decode cX9_tellNumbers 15 = .ok (.getfield 30, 3) := by decide +kernel
theorem dX9_tellNumbers_18 : decode cX9_tellNumbers 18 = .ok (.iconst 3, 1) := by decide +kernel
theorem dX9_tellNumbers_19 : decode cX9_tellNumbers 19 = .ok (.if_icmp .ne 7, 3) := by decide +kernel
theorem dX9_tellNumbers_22 : decode cX9_tellNumbers 22 = .ok (.iconst 1, 1) := by decide +kernel
theorem dX9_tellNumbers_23 : decode cX9_tellNumbers 23 = .ok (.goto 4, 3) := by decide +kernel
theorem dX9_tellNumbers_26 : decode cX9_tellNumbers 26 = .ok (.iconst 0, 1) := by decide +kernel
theorem dX9_tellNumbers_27 : decode cX9_tellNumbers 27 = .ok (.istore_n 2, 1) := by decide +kernel
theorem dX9_tellNumbers_28 : decode cX9_tellNumbers 28 = .ok (.aload_n 0, 1) := by decide +kernel
theorem dX9_tellNumbers_29 : decode cX9_tellNumbers 29 = .ok (.iload_n 1, 1) := by decide +kernel
theorem dX9_tellNumbers_30 : decode cX9_tellNumbers 30 = .ok (.ifCond .eq 7, 3) := by decide +kernel
theorem dX9_tellNumbers_33 : decode cX9_tellNumbers 33 = .ok (.iconst 5, 1) := by decide +kernel
theorem dX9_tellNumbers_34 : decode cX9_tellNumbers 34 = .ok (.goto 11, 3) := by decide +kernel
theorem dX9_tellNumbers_37 : decode cX9_tellNumbers 37 = .ok (.aload_n 0, 1) := by decide +kernel
theorem dX9_tellNumbers_38 : decode cX9_tellNumbers 38 = .ok (.getfield 24, 3) := by decide +kernel
theorem dX9_tellNumbers_41 : decode cX9_tellNumbers 41 = .ok (.iconst 0, 1) := by decide +kernel
theorem dX9_tellNumbers_42 : decode cX9_tellNumbers 42 = .ok (.invokevirtual 74, 3) := by decide +kernel
theorem dX9_tellNumbers_45 : decode cX9_tellNumbers 45 = .ok (.putfield 33, 3) := by decide +kernel
theorem dX9_tellNumbers_48 : decode cX9_tellNumbers 48 = .ok (.aload_n 0, 1) := by decide +kernel
theorem dX9_tellNumbers_49 : decode cX9_tellNumbers 49 = .ok (.iload_n 2, 1) := by decide +kernel
theorem dX9_tellNumbers_50 : decode cX9_tellNumbers 50 = .ok (.ifCond .eq 14, 3) := by decide +kernel
theorem dX9_tellNumbers_53 : decode cX9_tellNumbers 53 = .ok (.aload_n 0, 1) := by decide +kernel
theorem dX9_tellNumbers_54 : decode cX9_tellNumbers 54 = .ok (.getfield 24, 3) := by decide +kernel
theorem dX9_tellNumbers_57 : decode cX9_tellNumbers 57 = .ok (.iconst 1, 1) := by decide +kernel
theorem dX9_tellNumbers_58 : decode cX9_tellNumbers 58 = .ok (.invokevirtual 74, 3) := by decide +kernel
theorem dX9_tellNumbers_61 : decode cX9_tellNumbers 61 = .ok (.goto 4, 3) := by decide +kernel
theorem dX9_tellNumbers_64 : decode cX9_tellNumbers 64 = .ok (.iconst 0, 1) := by decide +kernel
theorem dX9_tellNumbers_65 : decode cX9_tellNumbers 65 = .ok (.putfield 36, 3) := by decide +kernel
theorem dX9_tellNumbers_68 : decode cX9_tellNumbers 68 = .ok (.aload_n 0, 1) := by decide +kernel
theorem dX9_tellNumbers_69 : decode cX9_tellNumbers 69 = .ok (.aload_n 0, 1) := by decide +kernel
theorem dX9_tellNumbers_70 : decode cX9_tellNumbers 70 = .ok (.getfield 24, 3) := by decide +kernel
theorem dX9_tellNumbers_73 : decode cX9_tellNumbers 73 = .ok (.iload_n 1, 1) := by decide +kernel
theorem dX9_tellNumbers_74 : decode cX9_tellNumbers 74 = .ok (.ifCond .eq 7, 3) := by decide +kernel
theorem dX9_tellNumbers_77 : decode cX9_tellNumbers 77 = .ok (.iconst 0, 1) := by decide +kernel
theorem dX9_tellNumbers_78 : decode cX9_tellNumbers 78 = .ok (.goto 12, 3) := by decide +kernel
theorem dX9_tellNumbers_81 : decode cX9_tellNumbers 81 = .ok (.iload_n 2, 1) := by decide +kernel
theorem dX9_tellNumbers_82 : decode cX9_tellNumbers 82 = .ok (.ifCond .eq 7, 3) := by decide +kernel
theorem dX9_tellNumbers_85 : decode cX9_tellNumbers 85 = .ok (.iconst 2, 1) := by decide +kernel
theorem dX9_tellNumbers_86 : decode cX9_tellNumbers 86 = .ok (.goto 4, 3) := by decide +kernel
theorem dX9_tellNumbers_89 : decode cX9_tellNumbers 89 = .ok (.iconst 1, 1) := by decide +kernel
theorem dX9_tellNumbers_90 : decode cX9_tellNumbers 90 = .ok (.invokevirtual 74, 3) := by decide +kernel
theorem dX9_tellNumbers_93 : decode cX9_tellNumbers 93 = .ok (.putfield 39, 3) := by decide +kernel
theorem dX9_tellNumbers_96 : decode cX9_tellNumbers 96 = .ok (.aload_n 0, 1) := by decide +kernel
theorem dX9_tellNumbers_97 : decode cX9_tellNumbers 97 = .ok (.aload_n 0, 1) := by decide +kernel
theorem dX9_tellNumbers_98 : decode cX9_tellNumbers 98 = .ok (.getfield 24, 3) := by decide +kernel
theorem dX9_tellNumbers_101 : decode cX9_tellNumbers 101 = .ok (.aload_n 0, 1) := by decide +kernel
theorem dX9_tellNumbers_102 : decode cX9_tellNumbers 102 = .ok (.getfield 30, 3) := by decide +kernel
theorem dX9_tellNumbers_105 : decode cX9_tellNumbers 105 = .ok (.invokestatic 60, 3) := by decide +kernel
theorem dX9_tellNumbers_108 : decode cX9_tellNumbers 108 = .ok (.iconst 1, 1) := by decide +kernel
theorem dX9_tellNumbers_109 : decode cX9_tellNumbers 109 = .ok (.isub, 1) := by decide +kernel
theorem dX9_tellNumbers_110 : decode cX9_tellNumbers 110 = .ok (.invokevirtual 74, 3) := by decide +kernel
theorem dX9_tellNumbers_113 : decode cX9_tellNumbers 113 = .ok (.putfield 42, 3) := by decide +kernel
theorem dX9_tellNumbers_116 : decode cX9_tellNumbers 116 = .ok (.return_, 1) := by decide +kernel
set_option maxRecDepth 20000 in
theorem ggX9_isTold_X10_isCountyOrAll : GoodIn wsX9_isTold wsX10_isCountyOrAll := goodIn_r _ [8, 9, 10, 7, 11] (by decide +kernel) (by decide +kernel)
set_option maxRecDepth 20000 in
theorem gX9_isTold_X10_isCountyOrAll_n80 : GoodIn wsX9_isTold (wsX10_isCountyOrAll) := ggX9_isTold_X10_isCountyOrAll
set_option maxRecDepth 20000 in
theorem ggX9_isTold_X10_isHour : GoodIn wsX9_isTold wsX10_isHour := goodIn_r _ [13] (by decide +kernel) (by decide +kernel)
set_option maxRecDepth 20000 in
theorem gX9_isTold_X10_isHour_n83 : GoodIn wsX9_isTold (wsX10_isHour) := ggX9_isTold_X10_isHour
set_option maxRecDepth 20000 in
theorem ggX9_isTold_X9_lowest : GoodIn wsX9_isTold wsX9_lowest := goodIn_r _ [17] (by decide +kernel) (by decide +kernel)
set_option maxRecDepth 20000 in
theorem gX9_isTold_X9_lowest : GoodIn wsX9_isTold (va_wsS RX9 86 yX9_lowest wsX9_lowest) := goodIn_app (goodIn_of _ (by decide +kernel)) ggX9_isTold_X9_lowest
set_option maxRecDepth 20000 in
theorem ggX9_isTold_X9_highest : GoodIn wsX9_isTold wsX9_highest := goodIn_r _ [20] (by decide +kernel) (by decide +kernel)
set_option maxRecDepth 20000 in
theorem gX9_isTold_X9_highest : GoodIn wsX9_isTold (va_wsS RX9 89 yX9_highest wsX9_highest) := goodIn_app (goodIn_of _ (by decide +kernel)) ggX9_isTold_X9_highest
theorem dX9_isTold_0 : decode cX9_isTold 0 = .ok (.aload_n 0, 1) := by decide +kernel
theorem dX9_isTold_1 : decode cX9_isTold 1 = .ok (.getfield 33, 3) := by decide +kernel
theorem dX9_isTold_4 : decode cX9_isTold 4 = .ok (.invokestatic 80, 3) := by decide +kernel
theorem dX9_isTold_7 : decode cX9_isTold 7 = .ok (.ifCond .eq 53, 3) := by decide +kernel
theorem dX9_isTold_10 : decode cX9_isTold 10 = .ok (.aload_n 0, 1) := by decide +kernel
theorem dX9_isTold_11 : decode cX9_isTold 11 = .ok (.getfield 36, 3) := by decide +kernel
theorem dX9_isTold_14 : decode cX9_isTold 14 = .ok (.iconst 4, 1) := by decide +kernel
theorem dX9_isTold_15 : decode cX9_isTold 15 = .ok (.if_icmp .ge 45, 3) := by decide +kernel
theorem dX9_isTold_18 : decode cX9_isTold 18 = .ok (.aload_n 0, 1) := by decide +kernel
theorem dX9_isTold_19 : decode cX9_isTold 19 = .ok (.getfield 42, 3) := by decide +kernel
theorem dX9_isTold_22 : decode cX9_isTold 22 = .ok (.invokestatic 83, 3) := by decide +kernel
theorem dX9_isTold_25 : decode cX9_isTold 25 = .ok (.ifCond .eq 35, 3) := by decide +kernel
theorem dX9_isTold_28 : decode cX9_isTold 28 = .ok (.aload_n 0, 1) := by decide +kernel
theorem dX9_isTold_29 : decode cX9_isTold 29 = .ok (.getfield 39, 3) := by decide +kernel
theorem dX9_isTold_32 : decode cX9_isTold 32 = .ok (.aload_n 0, 1) := by decide +kernel
theorem dX9_isTold_33 : decode cX9_isTold 33 = .ok (.getfield 30, 3) := by decide +kernel
theorem dX9_isTold_36 : decode cX9_isTold 36 = .ok (.invokestatic 86, 3) := by decide +kernel
theorem dX9_isTold_39 : decode cX9_isTold 39 = .ok (.if_icmp .lt 21, 3) := by decide +kernel
theorem dX9_isTold_42 : decode cX9_isTold 42 = .ok (.aload_n 0, 1) := by decide +kernel
theorem dX9_isTold_43 : decode cX9_isTold 43 = .ok (.getfield 39, 3) := by decide +kernel
theorem dX9_isTold_46 : decode cX9_isTold 46 = .ok (.aload_n 0, 1) := by decide +kernel
theorem dX9_isTold_47 : decode cX9_isTold 47 = .ok (.getfield 30, 3) := by decide +kernel
theorem dX9_isTold_50 : decode cX9_isTold 50 = .ok (.invokestatic 89, 3) := by decide +kernel
theorem dX9_isTold_53 : decode cX9_isTold 53 = .ok (.if_icmp .gt 7, 3) := by decide +kernel
theorem dX9_isTold_56 : decode cX9_isTold 56 = .ok (.iconst 1, 1) := by decide +kernel
theorem dX9_isTold_57 : decode cX9_isTold 57 = .ok (.goto 4, 3) := by decide +kernel
theorem dX9_isTold_60 : decode cX9_isTold 60 = .ok (.iconst 0, 1) := by decide +kernel
theorem dX9_isTold_61 : decode cX9_isTold 61 = .ok (.ireturn, 1) := by decide +kernel
theorem dX9_lowest_0 : decode cX9_lowest 0 = .ok (.iload_n 0, 1) := by decide +kernel
theorem dX9_lowest_1 : decode cX9_lowest 1 = .ok (.lookupswitch 31 #[(0, 27), (2, 29)], 27) := by decide +kernel
theorem dX9_lowest_28 : decode cX9_lowest 28 = .ok (.iconst 1, 1) := by decide +kernel
theorem dX9_lowest_29 : decode cX9_lowest 29 = .ok (.ireturn, 1) := by decide +kernel
theorem dX9_lowest_30 : decode cX9_lowest 30 = .ok (.iconst 2, 1) := by decide +kernel
theorem dX9_lowest_31 : decode cX9_lowest 31 = .ok (.ireturn, 1) := by decide +kernel
theorem dX9_lowest_32 : decode cX9_lowest 32 = .ok (.iconst 0, 1) := by decide +kernel
theorem dX9_lowest_33 : decode cX9_lowest 33 = .ok (.ireturn, 1) := by decide +kernel
theorem dX9_highest_0 : decode cX9_highest 0 = .ok (.iload_n 0, 1) := by decide +kernel
theorem dX9_highest_1 : decode cX9_highest 1 = .ok (.lookupswitch 32 #[(1, 27), (3, 30)], 27) := by decide +kernel
theorem dX9_highest_28 : decode cX9_highest 28 = .ok (.bipush 12, 2) := by decide +kernel
theorem dX9_highest_30 : decode cX9_highest 30 = .ok (.ireturn, 1) := by decide +kernel
theorem dX9_highest_31 : decode cX9_highest 31 = .ok (.iconst 1, 1) := by decide +kernel
theorem dX9_highest_32 : decode cX9_highest 32 = .ok (.ireturn, 1) := by decide +kernel
theorem dX9_highest_33 : decode cX9_highest 33 = .ok (.iconst 5, 1) := by decide +kernel
theorem dX9_highest_34 : decode cX9_highest 34 = .ok (.ireturn, 1) := by decide +kernel
