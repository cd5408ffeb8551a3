set_option maxRecDepth 20000 in
theorem ggX0_count_X3_boxesHaving : GoodIn wsX0_count wsX3_boxesHaving := goodIn_r _ [4, 5, 6, 3, 7, 8, 9, 10, 11, 12, 13, 14, 15, 16, 17] (by decide +kernel) (by decide +kernel)
set_option maxRecDepth 20000 in
theorem gX0_count_X3_boxesHaving : GoodIn wsX0_count (va_wsS RX0 9 yX3_boxesHaving wsX3_boxesHaving) := goodIn_app (goodIn_of _ (by decide +kernel)) ggX0_count_X3_boxesHaving
set_option maxRecDepth 20000 in
theorem ggX0_count_X3_has : GoodIn wsX0_count wsX3_has := goodIn_r _ [20] (by decide +kernel) (by decide +kernel)
set_option maxRecDepth 20000 in
theorem gX0_count_X3_has : GoodIn wsX0_count (va_wsS RX0 15 yX3_has wsX3_has) := goodIn_app (goodIn_of _ (by decide +kernel)) ggX0_count_X3_has
set_option maxRecDepth 20000 in
theorem ggX0_count_X0_around : GoodIn wsX0_count wsX0_around := goodIn_r _ [24, 1, 2, 3, 4, 5, 6, 7, 8, 9, 10, 11, 12, 13, 14, 15, 16, 17, 25, 26, 23, 27, 28, 29, 30, 31, 32, 33, 34, 35, 36, 18, 19, 20, 37, 38, 39] (by decide +kernel) (by decide +kernel)
set_option maxRecDepth 20000 in
theorem gX0_count_X0_around : GoodIn wsX0_count (va_wsS RX0 19 yX0_around wsX0_around) := goodIn_app (goodIn_of _ (by decide +kernel)) ggX0_count_X0_around
set_option maxRecDepth 20000 in
theorem ggX0_count_X0_kindOf : GoodIn wsX0_count wsX0_kindOf := goodIn_r _ [42, 43, 12, 13, 14, 15, 16, 17, 44, 45, 23, 46, 28, 29, 3, 30, 31, 32, 33, 34, 35, 36, 37, 38, 39, 18, 19, 20] (by decide +kernel) (by decide +kernel)
set_option maxRecDepth 20000 in
theorem gX0_count_X0_kindOf : GoodIn wsX0_count (va_wsS RX0 24 yX0_kindOf wsX0_kindOf) := goodIn_app (goodIn_of _ (by decide +kernel)) ggX0_count_X0_kindOf
theorem dX0_count_0 : decode cX0_count 0 = .ok (.iload_n 0, 1) := by decide +kernel
theorem dX0_count_1 : decode cX0_count 1 = .ok (.iconst 2, 1) := by decide +kernel
theorem dX0_count_2 : decode cX0_count 2 = .ok (.invokestatic 9, 3) := by decide +kernel
theorem dX0_count_5 : decode cX0_count 5 = .ok (.istore_n 2, 1) := by decide +kernel
theorem dX0_count_6 : decode cX0_count 6 = .ok (.iconst 0, 1) := by decide +kernel
theorem dX0_count_7 : decode cX0_count 7 = .ok (.istore_n 3, 1) := by decide +kernel
theorem dX0_count_8 : decode cX0_count 8 = .ok (.iconst 0, 1) := by decide +kernel
theorem dX0_count_9 : decode cX0_count 9 = .ok (.istore 4, 2) := by decide +kernel
theorem dX0_count_11 : decode cX0_count 11 = .ok (.iconst 0, 1) := by decide +kernel
theorem dX0_count_12 : decode cX0_count 12 = .ok (.istore 5, 2) := by decide +kernel
theorem dX0_count_14 : decode cX0_count 14 = .ok (.iload 5, 2) := by decide +kernel
theorem dX0_count_16 : decode cX0_count 16 = .ok (.bipush 12, 2) := by decide +kernel
theorem dX0_count_18 : decode cX0_count 18 = .ok (.if_icmp .ge 53, 3) := by decide +kernel
theorem dX0_count_21 : decode cX0_count 21 = .ok (.iload_n 2, 1) := by decide +kernel
theorem dX0_count_22 : decode cX0_count 22 = .ok (.iload 5, 2) := by decide +kernel
theorem dX0_count_24 : decode cX0_count 24 = .ok (.invokestatic 15, 3) := by decide +kernel
theorem dX0_count_27 : decode cX0_count 27 = .ok (.ifCond .eq 38, 3) := by decide +kernel
theorem dX0_count_30 : decode cX0_count 30 = .ok (.iload_n 3, 1) := by decide +kernel
theorem dX0_count_31 : decode cX0_count 31 = .ok (.iload 5, 2) := by decide +kernel
theorem dX0_count_33 : decode cX0_count 33 = .ok (.invokestatic 15, 3) := by decide +kernel
theorem dX0_count_36 : decode cX0_count 36 = .ok (.ifCond .ne 29, 3) := by decide +kernel
theorem dX0_count_39 : decode cX0_count 39 = .ok (.iload_n 0, 1) := by decide +kernel
theorem dX0_count_40 : decode cX0_count 40 = .ok (.iload 5, 2) := by decide +kernel
theorem dX0_count_42 : decode cX0_count 42 = .ok (.invokestatic 19, 3) := by decide +kernel
theorem dX0_count_45 : decode cX0_count 45 = .ok (.istore 6, 2) := by decide +kernel
theorem dX0_count_47 : decode cX0_count 47 = .ok (.iload_n 3, 1) := by decide +kernel
theorem dX0_count_48 : decode cX0_count 48 = .ok (.iload 6, 2) := by decide +kernel
theorem dX0_count_50 : decode cX0_count 50 = .ok (.ior, 1) := by decide +kernel
theorem dX0_count_51 : decode cX0_count 51 = .ok (.istore_n 3, 1) := by decide +kernel
theorem dX0_count_52 : decode cX0_count 52 = .ok (.iload_n 0, 1) := by decide +kernel
theorem dX0_count_53 : decode cX0_count 53 = .ok (.iload 6, 2) := by decide +kernel
theorem dX0_count_55 : decode cX0_count 55 = .ok (.invokestatic 24, 3) := by decide +kernel
theorem dX0_count_58 : decode cX0_count 58 = .ok (.iload_n 1, 1) := by decide +kernel
theorem dX0_count_59 : decode cX0_count 59 = .ok (.if_icmp .ne 6, 3) := by decide +kernel
theorem dX0_count_62 : decode cX0_count 62 = .ok (.iinc 4 1, 3) := by decide +kernel
theorem dX0_count_65 : decode cX0_count 65 = .ok (.iinc 5 1, 3) := by decide +kernel
theorem dX0_count_68 : decode cX0_count 68 = .ok (.goto (-54), 3) := by decide +kernel
theorem dX0_count_71 : decode cX0_count 71 = .ok (.iload 4, 2) := by decide +kernel
theorem dX0_count_73 : decode cX0_count 73 = .ok (.ireturn, 1) := by decide +kernel
set_option maxRecDepth 20000 in
theorem ggX0_around_X3_boxesHaving : GoodIn wsX0_around wsX3_boxesHaving := goodIn_r _ [4, 5, 6, 3, 7, 8, 9, 10, 11, 12, 13, 14, 15, 16, 17] (by decide +kernel) (by decide +kernel)
set_option maxRecDepth 20000 in
theorem gX0_around_X3_boxesHaving : GoodIn wsX0_around (va_wsS RX0 9 yX3_boxesHaving wsX3_boxesHaving) := goodIn_app (goodIn_of _ (by decide +kernel)) ggX0_around_X3_boxesHaving
set_option maxRecDepth 20000 in
theorem ggX0_around_X0_grown : GoodIn wsX0_around wsX0_grown := goodIn_r _ [21, 22, 23, 3, 24, 25, 26, 27, 28, 29, 30, 31, 32, 33, 34, 35, 36] (by decide +kernel) (by decide +kernel)
set_option maxRecDepth 20000 in
theorem gX0_around_X0_grown : GoodIn wsX0_around (va_wsS RX0 27 yX0_grown wsX0_grown) := goodIn_app (goodIn_of _ (by decide +kernel)) ggX0_around_X0_grown
theorem dX0_around_0 : decode cX0_around 0 = .ok (.iload_n 0, 1) := by decide +kernel
theorem dX0_around_1 : decode cX0_around 1 = .ok (.iconst 2, 1) := by decide +kernel
theorem dX0_around_2 : decode cX0_around 2 = .ok (.invokestatic 9, 3) := by decide +kernel
theorem dX0_around_5 : decode cX0_around 5 = .ok (.istore_n 2, 1) := by decide +kernel
theorem dX0_around_6 : decode cX0_around 6 = .ok (.iconst 1, 1) := by decide +kernel
theorem dX0_around_7 : decode cX0_around 7 = .ok (.iload_n 1, 1) := by decide +kernel
theorem dX0_around_8 : decode cX0_around 8 = .ok (.ishl, 1) := by decide +kernel
theorem dX0_around_9 : decode cX0_around 9 = .ok (.istore_n 3, 1) := by decide +kernel
theorem dX0_around_10 : decode cX0_around 10 = .ok (.iconst 0, 1) := by decide +kernel
theorem dX0_around_11 : decode cX0_around 11 = .ok (.istore 4, 2) := by decide +kernel
theorem dX0_around_13 : decode cX0_around 13 = .ok (.iload 4, 2) := by decide +kernel
theorem dX0_around_15 : decode cX0_around 15 = .ok (.bipush 12, 2) := by decide +kernel
theorem dX0_around_17 : decode cX0_around 17 = .ok (.if_icmp .ge 29, 3) := by decide +kernel
theorem dX0_around_20 : decode cX0_around 20 = .ok (.iload_n 3, 1) := by decide +kernel
theorem dX0_around_21 : decode cX0_around 21 = .ok (.istore 5, 2) := by decide +kernel
theorem dX0_around_23 : decode cX0_around 23 = .ok (.iload_n 0, 1) := by decide +kernel
theorem dX0_around_24 : decode cX0_around 24 = .ok (.iload_n 2, 1) := by decide +kernel
theorem dX0_around_25 : decode cX0_around 25 = .ok (.iload 5, 2) := by decide +kernel
theorem dX0_around_27 : decode cX0_around 27 = .ok (.invokestatic 27, 3) := by decide +kernel
theorem dX0_around_30 : decode cX0_around 30 = .ok (.istore_n 3, 1) := by decide +kernel
theorem dX0_around_31 : decode cX0_around 31 = .ok (.iload_n 3, 1) := by decide +kernel
theorem dX0_around_32 : decode cX0_around 32 = .ok (.iload 5, 2) := by decide +kernel
theorem dX0_around_34 : decode cX0_around 34 = .ok (.if_icmp .ne 6, 3) := by decide +kernel
theorem dX0_around_37 : decode cX0_around 37 = .ok (.goto 9, 3) := by decide +kernel
theorem dX0_around_40 : decode cX0_around 40 = .ok (.iinc 4 1, 3) := by decide +kernel
theorem dX0_around_43 : decode cX0_around 43 = .ok (.goto (-30), 3) := by decide +kernel
theorem dX0_around_46 : decode cX0_around 46 = .ok (.iload_n 3, 1) := by decide +kernel
theorem dX0_around_47 : decode cX0_around 47 = .ok (.ireturn, 1) := by decide +kernel
set_option maxRecDepth 20000 in
theorem ggX0_grown_X3_boxesBeside : GoodIn wsX0_grown wsX3_boxesBeside := goodIn_r _ [4, 5, 6, 3, 7, 8, 9, 10] (by decide +kernel) (by decide +kernel)
set_option maxRecDepth 20000 in
theorem gX0_grown_X3_boxesBeside : GoodIn wsX0_grown (va_wsS RX0 31 yX3_boxesBeside wsX3_boxesBeside) := goodIn_app (goodIn_of _ (by decide +kernel)) ggX0_grown_X3_boxesBeside
set_option maxRecDepth 20000 in
theorem ggX0_grown_X3_has : GoodIn wsX0_grown wsX3_has := goodIn_r _ [13] (by decide +kernel) (by decide +kernel)
set_option maxRecDepth 20000 in
theorem gX0_grown_X3_has : GoodIn wsX0_grown (va_wsS RX0 15 yX3_has wsX3_has) := goodIn_app (goodIn_of _ (by decide +kernel)) ggX0_grown_X3_has
set_option maxRecDepth 20000 in
theorem ggX0_grown_X3_isWithin : GoodIn wsX0_grown wsX3_isWithin := goodIn_r _ [16] (by decide +kernel) (by decide +kernel)
set_option maxRecDepth 20000 in
theorem gX0_grown_X3_isWithin : GoodIn wsX0_grown (va_wsS RX0 35 yX3_isWithin wsX3_isWithin) := goodIn_app (goodIn_of _ (by decide +kernel)) ggX0_grown_X3_isWithin
theorem dX0_grown_0 : decode cX0_grown 0 = .ok (.iload_n 2, 1) := by decide +kernel
theorem dX0_grown_1 : decode cX0_grown 1 = .ok (.istore_n 3, 1) := by decide +kernel
theorem dX0_grown_2 : decode cX0_grown 2 = .ok (.iconst 0, 1) := by decide +kernel
theorem dX0_grown_3 : decode cX0_grown 3 = .ok (.istore 4, 2) := by decide +kernel
theorem dX0_grown_5 : decode cX0_grown 5 = .ok (.iload 4, 2) := by decide +kernel
theorem dX0_grown_7 : decode cX0_grown 7 = .ok (.bipush 31, 2) := by decide +kernel
theorem dX0_grown_9 : decode cX0_grown 9 = .ok (.if_icmp .ge 46, 3) := by decide +kernel
theorem dX0_grown_12 : decode cX0_grown 12 = .ok (.iload 4, 2) := by decide +kernel
theorem dX0_grown_14 : decode cX0_grown 14 = .ok (.invokestatic 31, 3) := by decide +kernel
theorem dX0_grown_17 : decode cX0_grown 17 = .ok (.istore 5, 2) := by decide +kernel
theorem dX0_grown_19 : decode cX0_grown 19 = .ok (.iload_n 0, 1) := by decide +kernel
theorem dX0_grown_20 : decode cX0_grown 20 = .ok (.iload 4, 2) := by decide +kernel
theorem dX0_grown_22 : decode cX0_grown 22 = .ok (.invokestatic 15, 3) := by decide +kernel
theorem dX0_grown_25 : decode cX0_grown 25 = .ok (.ifCond .ne 24, 3) := by decide +kernel
theorem dX0_grown_28 : decode cX0_grown 28 = .ok (.iload 5, 2) := by decide +kernel
theorem dX0_grown_30 : decode cX0_grown 30 = .ok (.iload_n 3, 1) := by decide +kernel
theorem dX0_grown_31 : decode cX0_grown 31 = .ok (.iand, 1) := by decide +kernel
theorem dX0_grown_32 : decode cX0_grown 32 = .ok (.ifCond .eq 17, 3) := by decide +kernel
theorem dX0_grown_35 : decode cX0_grown 35 = .ok (.iload 5, 2) := by decide +kernel
theorem dX0_grown_37 : decode cX0_grown 37 = .ok (.iload_n 1, 1) := by decide +kernel
theorem dX0_grown_38 : decode cX0_grown 38 = .ok (.invokestatic 35, 3) := by decide +kernel
theorem dX0_grown_41 : decode cX0_grown 41 = .ok (.ifCond .eq 8, 3) := by decide +kernel
theorem dX0_grown_44 : decode cX0_grown 44 = .ok (.iload_n 3, 1) := by decide +kernel
theorem dX0_grown_45 : decode cX0_grown 45 = .ok (.iload 5, 2) := by decide +kernel
theorem dX0_grown_47 : decode cX0_grown 47 = .ok (.ior, 1) := by decide +kernel
theorem dX0_grown_48 : decode cX0_grown 48 = .ok (.istore_n 3, 1) := by decide +kernel
theorem dX0_grown_49 : decode cX0_grown 49 = .ok (.iinc 4 1, 3) := by decide +kernel
theorem dX0_grown_52 : decode cX0_grown 52 = .ok (.goto (-47), 3) := by decide +kernel
theorem dX0_grown_55 : decode cX0_grown 55 = .ok (.iload_n 3, 1) := by decide +kernel
theorem dX0_grown_56 : decode cX0_grown 56 = .ok (.ireturn, 1) := by decide +kernel
set_option maxRecDepth 20000 in
theorem ggX0_kindOf_J6_bitCount_0f7a4 : GoodIn wsX0_kindOf wsJ6_bitCount_0f7a4 := goodIn_r _ [4, 5, 6, 7] (by decide +kernel) (by decide +kernel)
set_option maxRecDepth 20000 in
theorem gX0_kindOf_J6_bitCount_0f7a4 : GoodIn wsX0_kindOf (va_wsS RX0 38 yJ6_bitCount_0f7a4 wsJ6_bitCount_0f7a4) := goodIn_app (goodIn_of _ (by decide +kernel)) ggX0_kindOf_J6_bitCount_0f7a4
set_option maxRecDepth 20000 in
theorem ggX0_kindOf_X0_isClosedUpon : GoodIn wsX0_kindOf wsX0_isClosedUpon := goodIn_r _ [11, 12, 13, 14, 15, 16, 17, 18, 19, 20, 21, 1, 2, 3, 4, 5, 6, 7, 22, 23, 24, 25, 26, 27] (by decide +kernel) (by decide +kernel)
set_option maxRecDepth 20000 in
theorem gX0_kindOf_X0_isClosedUpon : GoodIn wsX0_kindOf (va_wsS RX0 43 yX0_isClosedUpon wsX0_isClosedUpon) := goodIn_app (goodIn_of _ (by decide +kernel)) ggX0_kindOf_X0_isClosedUpon
theorem dX0_kindOf_0 : decode cX0_kindOf 0 = .ok (.iload_n 1, 1) := by decide +kernel
theorem dX0_kindOf_1 : decode cX0_kindOf 1 = .ok (.invokestatic 38, 3) := by decide +kernel
theorem dX0_kindOf_4 : decode cX0_kindOf 4 = .ok (.istore_n 2, 1) := by decide +kernel
theorem dX0_kindOf_5 : decode cX0_kindOf 5 = .ok (.iload_n 2, 1) := by decide +kernel
theorem dX0_kindOf_6 : decode cX0_kindOf 6 = .ok (.iconst 4, 1) := by decide +kernel
theorem dX0_kindOf_7 : decode cX0_kindOf 7 = .ok (.if_icmp .lt 13, 3) := by decide +kernel
theorem dX0_kindOf_10 : decode cX0_kindOf 10 = .ok (.iload_n 0, 1) := by decide +kernel
theorem dX0_kindOf_11 : decode cX0_kindOf 11 = .ok (.iload_n 1, 1) := by decide +kernel
theorem dX0_kindOf_12 : decode cX0_kindOf 12 = .ok (.invokestatic 43, 3) := by decide +kernel
theorem dX0_kindOf_15 : decode cX0_kindOf 15 = .ok (.ifCond .eq 5, 3) := by decide +kernel
theorem dX0_kindOf_18 : decode cX0_kindOf 18 = .ok (.iconst 2, 1) := by decide +kernel
theorem dX0_kindOf_19 : decode cX0_kindOf 19 = .ok (.ireturn, 1) := by decide +kernel
theorem dX0_kindOf_20 : decode cX0_kindOf 20 = .ok (.iload_n 2, 1) := by decide +kernel
theorem dX0_kindOf_21 : decode cX0_kindOf 21 = .ok (.iconst 3, 1) := by decide +kernel
theorem dX0_kindOf_22 : decode cX0_kindOf 22 = .ok (.if_icmp .lt 7, 3) := by decide +kernel
theorem dX0_kindOf_25 : decode cX0_kindOf 25 = .ok (.iconst 1, 1) := by decide +kernel
theorem dX0_kindOf_26 : decode cX0_kindOf 26 = .ok (.goto 4, 3) := by decide +kernel
theorem dX0_kindOf_29 : decode cX0_kindOf 29 = .ok (.iconst 0, 1) := by decide +kernel
theorem dX0_kindOf_30 : decode cX0_kindOf 30 = .ok (.ireturn, 1) := by decide +kernel
set_option maxRecDepth 20000 in
theorem ggX0_isClosedUpon_X3_boxesBeside : GoodIn wsX0_isClosedUpon wsX3_boxesBeside := goodIn_r _ [4, 5, 6, 3, 7, 8, 9, 10] (by decide +kernel) (by decide +kernel)
set_option maxRecDepth 20000 in
theorem gX0_isClosedUpon_X3_boxesBeside : GoodIn wsX0_isClosedUpon (va_wsS RX0 31 yX3_boxesBeside wsX3_boxesBeside) := goodIn_app (goodIn_of _ (by decide +kernel)) ggX0_isClosedUpon_X3_boxesBeside
set_option maxRecDepth 20000 in
theorem ggX0_isClosedUpon_J6_bitCount_0f7a4 : GoodIn wsX0_isClosedUpon wsJ6_bitCount_0f7a4 := goodIn_r _ [14, 15, 16, 17] (by decide +kernel) (by decide +kernel)
set_option maxRecDepth 20000 in
theorem gX0_isClosedUpon_J6_bitCount_0f7a4 : GoodIn wsX0_isClosedUpon (va_wsS RX0 38 yJ6_bitCount_0f7a4 wsJ6_bitCount_0f7a4) := goodIn_app (goodIn_of _ (by decide +kernel)) ggX0_isClosedUpon_J6_bitCount_0f7a4
set_option maxRecDepth 20000 in
theorem ggX0_isClosedUpon_X3_isWithin : GoodIn wsX0_isClosedUpon wsX3_isWithin := goodIn_r _ [20] (by decide +kernel) (by decide +kernel)
set_option maxRecDepth 20000 in
theorem gX0_isClosedUpon_X3_isWithin : GoodIn wsX0_isClosedUpon (va_wsS RX0 35 yX3_isWithin wsX3_isWithin) := goodIn_app (goodIn_of _ (by decide +kernel)) ggX0_isClosedUpon_X3_isWithin
set_option maxRecDepth 20000 in
theorem ggX0_isClosedUpon_X3_has : GoodIn wsX0_isClosedUpon wsX3_has := goodIn_r _ [23] (by decide +kernel) (by decide +kernel)
set_option maxRecDepth 20000 in
theorem gX0_isClosedUpon_X3_has : GoodIn wsX0_isClosedUpon (va_wsS RX0 15 yX3_has wsX3_has) := goodIn_app (goodIn_of _ (by decide +kernel)) ggX0_isClosedUpon_X3_has
theorem dX0_isClosedUpon_0 : decode cX0_isClosedUpon 0 = .ok (.iconst 0, 1) := by decide +kernel
theorem dX0_isClosedUpon_1 : decode cX0_isClosedUpon 1 = .ok (.istore_n 2, 1) := by decide +kernel
theorem dX0_isClosedUpon_2 : decode cX0_isClosedUpon 2 = .ok (.iload_n 2, 1) := by decide +kernel
theorem dX0_isClosedUpon_3 : decode cX0_isClosedUpon 3 = .ok (.bipush 31, 2) := by decide +kernel
theorem dX0_isClosedUpon_5 : decode cX0_isClosedUpon 5 = .ok (.if_icmp .ge 58, 3) := by decide +kernel
theorem dX0_isClosedUpon_8 : decode cX0_isClosedUpon 8 = .ok (.iload_n 2, 1) := by decide +kernel
theorem dX0_isClosedUpon_9 : decode cX0_isClosedUpon 9 = .ok (.invokestatic 31, 3) := by decide +kernel
theorem dX0_isClosedUpon_12 : decode cX0_isClosedUpon 12 = .ok (.istore_n 3, 1) := by decide +kernel
theorem dX0_isClosedUpon_13 : decode cX0_isClosedUpon 13 = .ok (.iload_n 3, 1) := by decide +kernel
theorem dX0_isClosedUpon_14 : decode cX0_isClosedUpon 14 = .ok (.invokestatic 38, 3) := by decide +kernel
theorem dX0_isClosedUpon_17 : decode cX0_isClosedUpon 17 = .ok (.iconst 2, 1) := by decide +kernel
theorem dX0_isClosedUpon_18 : decode cX0_isClosedUpon 18 = .ok (.if_icmp .lt 11, 3) := by decide +kernel
theorem dX0_isClosedUpon_21 : decode cX0_isClosedUpon 21 = .ok (.iload_n 3, 1) := by decide +kernel
theorem dX0_isClosedUpon_22 : decode cX0_isClosedUpon 22 = .ok (.iload_n 1, 1) := by decide +kernel
theorem dX0_isClosedUpon_23 : decode cX0_isClosedUpon 23 = .ok (.invokestatic 35, 3) := by decide +kernel
theorem dX0_isClosedUpon_26 : decode cX0_isClosedUpon 26 = .ok (.ifCond .ne 7, 3) := by decide +kernel
theorem dX0_isClosedUpon_29 : decode cX0_isClosedUpon 29 = .ok (.iconst 1, 1) := by decide +kernel
theorem dX0_isClosedUpon_30 : decode cX0_isClosedUpon 30 = .ok (.goto 4, 3) := by decide +kernel
theorem dX0_isClosedUpon_33 : decode cX0_isClosedUpon 33 = .ok (.iconst 0, 1) := by decide +kernel
theorem dX0_isClosedUpon_34 : decode cX0_isClosedUpon 34 = .ok (.istore 4, 2) := by decide +kernel
theorem dX0_isClosedUpon_36 : decode cX0_isClosedUpon 36 = .ok (.iload_n 0, 1) := by decide +kernel
theorem dX0_isClosedUpon_37 : decode cX0_isClosedUpon 37 = .ok (.iload_n 2, 1) := by decide +kernel
theorem dX0_isClosedUpon_38 : decode cX0_isClosedUpon 38 = .ok (.invokestatic 15, 3) := by decide +kernel
theorem dX0_isClosedUpon_41 : decode cX0_isClosedUpon 41 = .ok (.ifCond .ne 16, 3) := by decide +kernel
theorem dX0_isClosedUpon_44 : decode cX0_isClosedUpon 44 = .ok (.iload_n 3, 1) := by decide +kernel
theorem dX0_isClosedUpon_45 : decode cX0_isClosedUpon 45 = .ok (.iload_n 1, 1) := by decide +kernel
theorem dX0_isClosedUpon_46 : decode cX0_isClosedUpon 46 = .ok (.iand, 1) := by decide +kernel
theorem dX0_isClosedUpon_47 : decode cX0_isClosedUpon 47 = .ok (.ifCond .eq 10, 3) := by decide +kernel
theorem dX0_isClosedUpon_50 : decode cX0_isClosedUpon 50 = .ok (.iload 4, 2) := by decide +kernel
theorem dX0_isClosedUpon_52 : decode cX0_isClosedUpon 52 = .ok (.ifCond .eq 5, 3) := by decide +kernel
theorem dX0_isClosedUpon_55 : decode cX0_isClosedUpon 55 = .ok (.iconst 0, 1) := by decide +kernel
theorem dX0_isClosedUpon_56 : decode cX0_isClosedUpon 56 = .ok (.ireturn, 1) := by decide +kernel
theorem dX0_isClosedUpon_57 : decode cX0_isClosedUpon 57 = .ok (.iinc 2 1, 3) := by decide +kernel
theorem dX0_isClosedUpon_60 : decode cX0_isClosedUpon 60 = .ok (.goto (-58), 3) := by decide +kernel
theorem dX0_isClosedUpon_63 : decode cX0_isClosedUpon 63 = .ok (.iconst 1, 1) := by decide +kernel
theorem dX0_isClosedUpon_64 : decode cX0_isClosedUpon 64 = .ok (.ireturn, 1) := by decide +kernel
theorem dX1_init_0 : decode cX1_init 0 = .ok (.aload_n 0, 1) := by decide +kernel
theorem dX1_init_1 : decode cX1_init 1 = .ok (.invokespecial 3, 3) := by decide +kernel
theorem dX1_init_4 : decode cX1_init 4 = .ok (.aload_n 0, 1) := by decide +kernel
theorem dX1_init_5 : decode cX1_init 5 = .ok (.bipush 8, 2) := by decide +kernel
theorem dX1_init_7 : decode cX1_init 7 = .ok (.newarray .int, 2) := by decide +kernel
theorem dX1_init_9 : decode cX1_init 9 = .ok (.putfield 9, 3) := by decide +kernel
theorem dX1_init_12 : decode cX1_init 12 = .ok (.aload_n 0, 1) := by decide +kernel
theorem dX1_init_13 : decode cX1_init 13 = .ok (.sipush 256, 3) := by decide +kernel
theorem dX1_init_16 : decode cX1_init 16 = .ok (.newarray .int, 2) := by decide +kernel
theorem dX1_init_18 : decode cX1_init 18 = .ok (.putfield 15, 3) := by decide +kernel
theorem dX1_init_21 : decode cX1_init 21 = .ok (.return_, 1) := by decide +kernel
set_option maxRecDepth 20000 in
theorem ggX1_isNear_J6_bitCount_0f7a4 : GoodIn wsX1_isNear wsJ6_bitCount_0f7a4 := goodIn_r _ [4, 5, 6, 7] (by decide +kernel) (by decide +kernel)
set_option maxRecDepth 20000 in
theorem gX1_isNear_J6_bitCount_0f7a4 : GoodIn wsX1_isNear (va_wsS RX1 18 yJ6_bitCount_0f7a4 wsJ6_bitCount_0f7a4) := goodIn_app (goodIn_of _ (by decide +kernel)) ggX1_isNear_J6_bitCount_0f7a4
theorem dX1_isNear_0 : decode cX1_isNear 0 = .ok (.bipush 31, 2) := by decide +kernel
theorem dX1_isNear_2 : decode cX1_isNear 2 = .ok (.iload_n 0, 1) := by decide +kernel
theorem dX1_isNear_3 : decode cX1_isNear 3 = .ok (.invokestatic 18, 3) := by decide +kernel
theorem dX1_isNear_6 : decode cX1_isNear 6 = .ok (.isub, 1) := by decide +kernel
theorem dX1_isNear_7 : decode cX1_isNear 7 = .ok (.bipush 8, 2) := by decide +kernel
theorem dX1_isNear_9 : decode cX1_isNear 9 = .ok (.if_icmp .gt 7, 3) := by decide +kernel
theorem dX1_isNear_12 : decode cX1_isNear 12 = .ok (.iconst 1, 1) := by decide +kernel
theorem dX1_isNear_13 : decode cX1_isNear 13 = .ok (.goto 4, 3) := by decide +kernel
theorem dX1_isNear_16 : decode cX1_isNear 16 = .ok (.iconst 0, 1) := by decide +kernel
theorem dX1_isNear_17 : decode cX1_isNear 17 = .ok (.ireturn, 1) := by decide +kernel
set_option maxRecDepth 20000 in
theorem ggX1_workOut_X3_has : GoodIn wsX1_workOut wsX3_has := goodIn_r _ [7] (by decide +kernel) (by decide +kernel)
set_option maxRecDepth 20000 in
theorem gX1_workOut_X3_has : GoodIn wsX1_workOut (va_wsS RX1 28 yX3_has wsX3_has) := goodIn_app (goodIn_of _ (by decide +kernel)) ggX1_workOut_X3_has
set_option maxRecDepth 20000 in
theorem ggX1_workOut_X1_bestOf : GoodIn wsX1_workOut wsX1_bestOf := goodIn_r _ [12, 1, 13, 14, 15, 16, 17, 18, 19, 11, 20, 21, 2, 4, 5, 6, 7, 22, 23, 24, 25, 3, 26, 27, 28, 29, 30, 31, 32, 33, 34, 35, 36, 37, 38, 39, 40, 41, 42, 43, 44, 45, 46, 47, 48, 49, 50, 51, 52, 53] (by decide +kernel) (by decide +kernel)
set_option maxRecDepth 20000 in
theorem gX1_workOut_X1_bestOf : GoodIn wsX1_workOut (wsV RX1 34 RX1 yX1_bestOf wsX1_bestOf) := goodIn_app (goodIn_of _ (by decide +kernel)) ggX1_workOut_X1_bestOf
theorem dX1_workOut_0 : decode cX1_workOut 0 = .ok (.aload_n 0, 1) := by decide +kernel
theorem dX1_workOut_1 : decode cX1_workOut 1 = .ok (.iconst 0, 1) := by decide +kernel
theorem dX1_workOut_2 : decode cX1_workOut 2 = .ok (.putfield 24, 3) := by decide +kernel
theorem dX1_workOut_5 : decode cX1_workOut 5 = .ok (.iconst 0, 1) := by decide +kernel
theorem dX1_workOut_6 : decode cX1_workOut 6 = .ok (.istore_n 2, 1) := by decide +kernel
theorem dX1_workOut_7 : decode cX1_workOut 7 = .ok (.iload_n 2, 1) := by decide +kernel
theorem dX1_workOut_8 : decode cX1_workOut 8 = .ok (.bipush 31, 2) := by decide +kernel
theorem dX1_workOut_10 : decode cX1_workOut 10 = .ok (.if_icmp .ge 46, 3) := by decide +kernel
theorem dX1_workOut_13 : decode cX1_workOut 13 = .ok (.iload_n 1, 1) := by decide +kernel
theorem dX1_workOut_14 : decode cX1_workOut 14 = .ok (.iload_n 2, 1) := by decide +kernel
theorem dX1_workOut_15 : decode cX1_workOut 15 = .ok (.invokestatic 28, 3) := by decide +kernel
theorem dX1_workOut_18 : decode cX1_workOut 18 = .ok (.ifCond .ne 32, 3) := by decide +kernel
theorem dX1_workOut_21 : decode cX1_workOut 21 = .ok (.aload_n 0, 1) := by decide +kernel
theorem dX1_workOut_22 : decode cX1_workOut 22 = .ok (.getfield 24, 3) := by decide +kernel
theorem dX1_workOut_25 : decode cX1_workOut 25 = .ok (.bipush 8, 2) := by decide +kernel
theorem dX1_workOut_27 : decode cX1_workOut 27 = .ok (.if_icmp .ge 23, 3) := by decide +kernel
theorem dX1_workOut_30 : decode cX1_workOut 30 = .ok (.aload_n 0, 1) := by decide +kernel
theorem dX1_workOut_31 : decode cX1_workOut 31 = .ok (.getfield 9, 3) := by decide +kernel
theorem dX1_workOut_34 : decode cX1_workOut 34 = .ok (.aload_n 0, 1) := by decide +kernel
theorem dX1_workOut_35 : decode cX1_workOut 35 = .ok (.getfield 24, 3) := by decide +kernel
theorem dX1_workOut_38 : decode cX1_workOut 38 = .ok (.iload_n 2, 1) := by decide +kernel
theorem dX1_workOut_39 : decode cX1_workOut 39 = .ok (.iastore, 1) := by decide +kernel
theorem dX1_workOut_40 : decode cX1_workOut 40 = .ok (.aload_n 0, 1) := by decide +kernel
theorem dX1_workOut_41 : decode cX1_workOut 41 = .ok (.dup, 1) := by decide +kernel
theorem dX1_workOut_42 : decode cX1_workOut 42 = .ok (.getfield 24, 3) := by decide +kernel
theorem dX1_workOut_45 : decode cX1_workOut 45 = .ok (.iconst 1, 1) := by decide +kernel
theorem dX1_workOut_46 : decode cX1_workOut 46 = .ok (.iadd, 1) := by decide +kernel
theorem dX1_workOut_47 : decode cX1_workOut 47 = .ok (.putfield 24, 3) := by decide +kernel
theorem dX1_workOut_50 : decode cX1_workOut 50 = .ok (.iinc 2 1, 3) := by decide +kernel
theorem dX1_workOut_53 : decode cX1_workOut 53 = .ok (.goto (-46), 3) := by decide +kernel
theorem dX1_workOut_56 : decode cX1_workOut 56 = .ok (.iconst 0, 1) := by decide +kernel
theorem dX1_workOut_57 : decode cX1_workOut 57 = .ok (.istore_n 2, 1) := by decide +kernel
theorem dX1_workOut_58 : decode cX1_workOut 58 = .ok (.iload_n 2, 1) := by decide +kernel
theorem dX1_workOut_59 : decode cX1_workOut 59 = .ok (.iconst 1, 1) := by decide +kernel
theorem dX1_workOut_60 : decode cX1_workOut 60 = .ok (.aload_n 0, 1) := by decide +kernel
theorem dX1_workOut_61 : decode cX1_workOut 61 = .ok (.getfield 24, 3) := by decide +kernel
theorem dX1_workOut_64 : decode cX1_workOut 64 = .ok (.ishl, 1) := by decide +kernel
theorem dX1_workOut_65 : decode cX1_workOut 65 = .ok (.if_icmp .ge 20, 3) := by decide +kernel
theorem dX1_workOut_68 : decode cX1_workOut 68 = .ok (.aload_n 0, 1) := by decide +kernel
theorem dX1_workOut_69 : decode cX1_workOut 69 = .ok (.getfield 15, 3) := by decide +kernel
theorem dX1_workOut_72 : decode cX1_workOut 72 = .ok (.iload_n 2, 1) := by decide +kernel
theorem dX1_workOut_73 : decode cX1_workOut 73 = .ok (.aload_n 0, 1) := by decide +kernel
theorem dX1_workOut_74 : decode cX1_workOut 74 = .ok (.iload_n 2, 1) := by decide +kernel
theorem dX1_workOut_75 : decode cX1_workOut 75 = .ok (.invokevirtual 34, 3) := by decide +kernel
theorem dX1_workOut_78 : decode cX1_workOut 78 = .ok (.iastore, 1) := by decide +kernel
theorem dX1_workOut_79 : decode cX1_workOut 79 = .ok (.iinc 2 1, 3) := by decide +kernel
theorem dX1_workOut_82 : decode cX1_workOut 82 = .ok (.goto (-24), 3) := by decide +kernel
theorem dX1_workOut_85 : decode cX1_workOut 85 = .ok (.return_, 1) := by decide +kernel
theorem dX1_difference_0 : decode cX1_difference 0 = .ok (.aload_n 0, 1) := by decide +kernel
theorem dX1_difference_1 : decode cX1_difference 1 = .ok (.getfield 15, 3) := by decide +kernel
theorem dX1_difference_4 : decode cX1_difference 4 = .ok (.iconst 1, 1) := by decide +kernel
theorem dX1_difference_5 : decode cX1_difference 5 = .ok (.aload_n 0, 1) := by decide +kernel
theorem dX1_difference_6 : decode cX1_difference 6 = .ok (.getfield 24, 3) := by decide +kernel
theorem dX1_difference_9 : decode cX1_difference 9 = .ok (.ishl, 1) := by decide +kernel
theorem dX1_difference_10 : decode cX1_difference 10 = .ok (.iconst 1, 1) := by decide +kernel
theorem dX1_difference_11 : decode cX1_difference 11 = .ok (.isub, 1) := by decide +kernel
theorem dX1_difference_12 : decode cX1_difference 12 = .ok (.iaload, 1) := by decide +kernel
theorem dX1_difference_13 : decode cX1_difference 13 = .ok (.ireturn, 1) := by decide +kernel
set_option maxRecDepth 20000 in
theorem ggX1_lowestBest_X1_drawnBut : GoodIn wsX1_lowestBest wsX1_drawnBut := goodIn_r _ [8, 9, 1, 3, 10, 11, 12, 13, 43, 44, 45] (by decide +kernel) (by decide +kernel)
set_option maxRecDepth 20000 in
theorem gX1_lowestBest_X1_drawnBut : GoodIn wsX1_lowestBest (wsV RX1 37 RX1 yX1_drawnBut wsX1_drawnBut) := goodIn_app (goodIn_of _ (by decide +kernel)) ggX1_lowestBest_X1_drawnBut
set_option maxRecDepth 20000 in
theorem ggX1_lowestBest_X1_reachedBy : GoodIn wsX1_lowestBest wsX1_reachedBy := goodIn_r _ [17, 3, 2, 18, 19, 12, 20, 21, 22, 23, 24, 25, 26, 27, 28, 29, 30, 31, 32, 33, 34, 35, 36, 37, 38, 39, 40, 41, 42, 43, 44, 45] (by decide +kernel) (by decide +kernel)
set_option maxRecDepth 20000 in
theorem gX1_lowestBest_X1_reachedBy : GoodIn wsX1_lowestBest (wsV RX1 40 RX1 yX1_reachedBy wsX1_reachedBy) := goodIn_app (goodIn_of _ (by decide +kernel)) ggX1_lowestBest_X1_reachedBy
theorem dX1_lowestBest_0 : decode cX1_lowestBest 0 = .ok (.iconst 1, 1) := by decide +kernel
theorem dX1_lowestBest_1 : decode cX1_lowestBest 1 = .ok (.aload_n 0, 1) := by decide +kernel
theorem dX1_lowestBest_2 : decode cX1_lowestBest 2 = .ok (.getfield 24, 3) := by decide +kernel
theorem dX1_lowestBest_5 : decode cX1_lowestBest 5 = .ok (.ishl, 1) := by decide +kernel
theorem dX1_lowestBest_6 : decode cX1_lowestBest 6 = .ok (.iconst 1, 1) := by decide +kernel
theorem dX1_lowestBest_7 : decode cX1_lowestBest 7 = .ok (.isub, 1) := by decide +kernel
theorem dX1_lowestBest_8 : decode cX1_lowestBest 8 = .ok (.istore_n 1, 1) := by decide +kernel
theorem dX1_lowestBest_9 : decode cX1_lowestBest 9 = .ok (.aload_n 0, 1) := by decide +kernel
theorem dX1_lowestBest_10 : decode cX1_lowestBest 10 = .ok (.iload_n 1, 1) := by decide +kernel
theorem dX1_lowestBest_11 : decode cX1_lowestBest 11 = .ok (.invokevirtual 37, 3) := by decide +kernel
theorem dX1_lowestBest_14 : decode cX1_lowestBest 14 = .ok (.istore_n 2, 1) := by decide +kernel
theorem dX1_lowestBest_15 : decode cX1_lowestBest 15 = .ok (.iconst 0, 1) := by decide +kernel
theorem dX1_lowestBest_16 : decode cX1_lowestBest 16 = .ok (.istore_n 3, 1) := by decide +kernel
theorem dX1_lowestBest_17 : decode cX1_lowestBest 17 = .ok (.iload_n 3, 1) := by decide +kernel
theorem dX1_lowestBest_18 : decode cX1_lowestBest 18 = .ok (.aload_n 0, 1) := by decide +kernel
theorem dX1_lowestBest_19 : decode cX1_lowestBest 19 = .ok (.getfield 24, 3) := by decide +kernel
theorem dX1_lowestBest_22 : decode cX1_lowestBest 22 = .ok (.if_icmp .ge 32, 3) := by decide +kernel
theorem dX1_lowestBest_25 : decode cX1_lowestBest 25 = .ok (.aload_n 0, 1) := by decide +kernel
theorem dX1_lowestBest_26 : decode cX1_lowestBest 26 = .ok (.iload_n 1, 1) := by decide +kernel
theorem dX1_lowestBest_27 : decode cX1_lowestBest 27 = .ok (.iload_n 2, 1) := by decide +kernel
theorem dX1_lowestBest_28 : decode cX1_lowestBest 28 = .ok (.iload_n 3, 1) := by decide +kernel
theorem dX1_lowestBest_29 : decode cX1_lowestBest 29 = .ok (.invokevirtual 40, 3) := by decide +kernel
theorem dX1_lowestBest_32 : decode cX1_lowestBest 32 = .ok (.aload_n 0, 1) := by decide +kernel
theorem dX1_lowestBest_33 : decode cX1_lowestBest 33 = .ok (.getfield 15, 3) := by decide +kernel
theorem dX1_lowestBest_36 : decode cX1_lowestBest 36 = .ok (.iload_n 1, 1) := by decide +kernel
theorem dX1_lowestBest_37 : decode cX1_lowestBest 37 = .ok (.iaload, 1) := by decide +kernel
theorem dX1_lowestBest_38 : decode cX1_lowestBest 38 = .ok (.if_icmp .ne 10, 3) := by decide +kernel
theorem dX1_lowestBest_41 : decode cX1_lowestBest 41 = .ok (.aload_n 0, 1) := by decide +kernel
theorem dX1_lowestBest_42 : decode cX1_lowestBest 42 = .ok (.getfield 9, 3) := by decide +kernel
theorem dX1_lowestBest_45 : decode cX1_lowestBest 45 = .ok (.iload_n 3, 1) := by decide +kernel
theorem dX1_lowestBest_46 : decode cX1_lowestBest 46 = .ok (.iaload, 1) := by decide +kernel
theorem dX1_lowestBest_47 : decode cX1_lowestBest 47 = .ok (.ireturn, 1) := by decide +kernel
theorem dX1_lowestBest_48 : decode cX1_lowestBest 48 = .ok (.iinc 3 1, 3) := by decide +kernel
theorem dX1_lowestBest_51 : decode cX1_lowestBest 51 = .ok (.goto (-34), 3) := by decide +kernel
theorem dX1_lowestBest_54 : decode cX1_lowestBest 54 = .ok (.iconst (-1), 1) := by decide +kernel
theorem dX1_lowestBest_55 : decode cX1_lowestBest 55 = .ok (.ireturn, 1) := by decide +kernel
set_option maxRecDepth 20000 in
theorem ggX1_bestOf_X1_drawnBut : GoodIn wsX1_bestOf wsX1_drawnBut := goodIn_r _ [10, 11, 1, 12, 13, 14, 15, 16, 47, 48, 49] (by decide +kernel) (by decide +kernel)
set_option maxRecDepth 20000 in
theorem gX1_bestOf_X1_drawnBut : GoodIn wsX1_bestOf (wsV RX1 37 RX1 yX1_drawnBut wsX1_drawnBut) := goodIn_app (goodIn_of _ (by decide +kernel)) ggX1_bestOf_X1_drawnBut
set_option maxRecDepth 20000 in
theorem ggX1_bestOf_X3_has : GoodIn wsX1_bestOf wsX3_has := goodIn_r _ [16] (by decide +kernel) (by decide +kernel)
set_option maxRecDepth 20000 in
theorem gX1_bestOf_X3_has : GoodIn wsX1_bestOf (va_wsS RX1 28 yX3_has wsX3_has) := goodIn_app (goodIn_of _ (by decide +kernel)) ggX1_bestOf_X3_has
set_option maxRecDepth 20000 in
theorem ggX1_bestOf_X1_reachedBy : GoodIn wsX1_bestOf wsX1_reachedBy := goodIn_r _ [20, 12, 21, 22, 23, 15, 24, 25, 26, 27, 28, 29, 30, 31, 32, 33, 34, 35, 36, 37, 38, 39, 40, 41, 42, 43, 44, 45, 46, 47, 48, 49] (by decide +kernel) (by decide +kernel)
set_option maxRecDepth 20000 in
theorem gX1_bestOf_X1_reachedBy : GoodIn wsX1_bestOf (wsV RX1 40 RX1 yX1_reachedBy wsX1_reachedBy) := goodIn_app (goodIn_of _ (by decide +kernel)) ggX1_bestOf_X1_reachedBy
theorem dX1_bestOf_0 : decode cX1_bestOf 0 = .ok (.aload_n 0, 1) := by decide +kernel
theorem dX1_bestOf_1 : decode cX1_bestOf 1 = .ok (.iload_n 1, 1) := by decide +kernel
theorem dX1_bestOf_2 : decode cX1_bestOf 2 = .ok (.invokevirtual 37, 3) := by decide +kernel
theorem dX1_bestOf_5 : decode cX1_bestOf 5 = .ok (.istore_n 2, 1) := by decide +kernel
theorem dX1_bestOf_6 : decode cX1_bestOf 6 = .ok (.iload_n 1, 1) := by decide +kernel
theorem dX1_bestOf_7 : decode cX1_bestOf 7 = .ok (.ifCond .ne 7, 3) := by decide +kernel
theorem dX1_bestOf_10 : decode cX1_bestOf 10 = .ok (.iconst 0, 1) := by decide +kernel
theorem dX1_bestOf_11 : decode cX1_bestOf 11 = .ok (.goto 5, 3) := by decide +kernel
theorem dX1_bestOf_14 : decode cX1_bestOf 14 = .ok (.bipush (-12), 2) := by decide +kernel
theorem dX1_bestOf_16 : decode cX1_bestOf 16 = .ok (.istore_n 3, 1) := by decide +kernel
theorem dX1_bestOf_17 : decode cX1_bestOf 17 = .ok (.iconst 0, 1) := by decide +kernel
theorem dX1_bestOf_18 : decode cX1_bestOf 18 = .ok (.istore 4, 2) := by decide +kernel
theorem dX1_bestOf_20 : decode cX1_bestOf 20 = .ok (.iload 4, 2) := by decide +kernel
theorem dX1_bestOf_22 : decode cX1_bestOf 22 = .ok (.aload_n 0, 1) := by decide +kernel
theorem dX1_bestOf_23 : decode cX1_bestOf 23 = .ok (.getfield 24, 3) := by decide +kernel
theorem dX1_bestOf_26 : decode cX1_bestOf 26 = .ok (.if_icmp .ge 31, 3) := by decide +kernel
theorem dX1_bestOf_29 : decode cX1_bestOf 29 = .ok (.iload_n 1, 1) := by decide +kernel
theorem dX1_bestOf_30 : decode cX1_bestOf 30 = .ok (.iload 4, 2) := by decide +kernel
theorem dX1_bestOf_32 : decode cX1_bestOf 32 = .ok (.invokestatic 28, 3) := by decide +kernel
theorem dX1_bestOf_35 : decode cX1_bestOf 35 = .ok (.ifCond .eq 16, 3) := by decide +kernel
theorem dX1_bestOf_38 : decode cX1_bestOf 38 = .ok (.iload_n 3, 1) := by decide +kernel
theorem dX1_bestOf_39 : decode cX1_bestOf 39 = .ok (.aload_n 0, 1) := by decide +kernel
theorem dX1_bestOf_40 : decode cX1_bestOf 40 = .ok (.iload_n 1, 1) := by decide +kernel
theorem dX1_bestOf_41 : decode cX1_bestOf 41 = .ok (.iload_n 2, 1) := by decide +kernel
theorem dX1_bestOf_42 : decode cX1_bestOf 42 = .ok (.iload 4, 2) := by decide +kernel
theorem dX1_bestOf_44 : decode cX1_bestOf 44 = .ok (.invokevirtual 40, 3) := by decide +kernel
theorem dX1_bestOf_47 : decode cX1_bestOf 47 = .ok (.invokestatic 44, 3) := by decide +kernel
theorem dX1_bestOf_50 : decode cX1_bestOf 50 = .ok (.istore_n 3, 1) := by decide +kernel
theorem dX1_bestOf_51 : decode cX1_bestOf 51 = .ok (.iinc 4 1, 3) := by decide +kernel
theorem dX1_bestOf_54 : decode cX1_bestOf 54 = .ok (.goto (-34), 3) := by decide +kernel
theorem dX1_bestOf_57 : decode cX1_bestOf 57 = .ok (.iload_n 3, 1) := by decide +kernel
theorem dX1_bestOf_58 : decode cX1_bestOf 58 = .ok (.ireturn, 1) := by decide +kernel
set_option maxRecDepth 20000 in
theorem ggX1_reachedBy_X3_closedWith : GoodIn wsX1_reachedBy wsX3_closedWith := goodIn_r _ [6, 7, 8, 5, 9, 10, 11, 12, 13, 14, 15, 16, 17, 18, 19, 20, 21] (by decide +kernel) (by decide +kernel)
set_option maxRecDepth 20000 in
theorem gX1_reachedBy_X3_closedWith : GoodIn wsX1_reachedBy (va_wsS RX1 50 yX3_closedWith wsX3_closedWith) := goodIn_app (goodIn_of _ (by decide +kernel)) ggX1_reachedBy_X3_closedWith
set_option maxRecDepth 20000 in
theorem ggX1_reachedBy_J6_bitCount_0f7a4 : GoodIn wsX1_reachedBy wsJ6_bitCount_0f7a4 := goodIn_r _ [25, 26, 27, 28] (by decide +kernel) (by decide +kernel)
set_option maxRecDepth 20000 in
theorem gX1_reachedBy_J6_bitCount_0f7a4 : GoodIn wsX1_reachedBy (va_wsS RX1 18 yJ6_bitCount_0f7a4 wsJ6_bitCount_0f7a4) := goodIn_app (goodIn_of _ (by decide +kernel)) ggX1_reachedBy_J6_bitCount_0f7a4
theorem dX1_reachedBy_0 : decode cX1_reachedBy 0 = .ok (.iload_n 2, 1) := by decide +kernel
theorem dX1_reachedBy_1 : decode cX1_reachedBy 1 = .ok (.iconst 1, 1) := by decide +kernel
theorem dX1_reachedBy_2 : decode cX1_reachedBy 2 = .ok (.aload_n 0, 1) := by decide +kernel
theorem dX1_reachedBy_3 : decode cX1_reachedBy 3 = .ok (.getfield 9, 3) := by decide +kernel
theorem dX1_reachedBy_6 : decode cX1_reachedBy 6 = .ok (.iload_n 3, 1) := by decide +kernel
theorem dX1_reachedBy_7 : decode cX1_reachedBy 7 = .ok (.iaload, 1) := by decide +kernel
theorem dX1_reachedBy_8 : decode cX1_reachedBy 8 = .ok (.ishl, 1) := by decide +kernel
theorem dX1_reachedBy_9 : decode cX1_reachedBy 9 = .ok (.ior, 1) := by decide +kernel
theorem dX1_reachedBy_10 : decode cX1_reachedBy 10 = .ok (.aload_n 0, 1) := by decide +kernel
theorem dX1_reachedBy_11 : decode cX1_reachedBy 11 = .ok (.getfield 9, 3) := by decide +kernel
theorem dX1_reachedBy_14 : decode cX1_reachedBy 14 = .ok (.iload_n 3, 1) := by decide +kernel
theorem dX1_reachedBy_15 : decode cX1_reachedBy 15 = .ok (.iaload, 1) := by decide +kernel
theorem dX1_reachedBy_16 : decode cX1_reachedBy 16 = .ok (.invokestatic 50, 3) := by decide +kernel
theorem dX1_reachedBy_19 : decode cX1_reachedBy 19 = .ok (.invokestatic 18, 3) := by decide +kernel
theorem dX1_reachedBy_22 : decode cX1_reachedBy 22 = .ok (.istore 4, 2) := by decide +kernel
theorem dX1_reachedBy_24 : decode cX1_reachedBy 24 = .ok (.aload_n 0, 1) := by decide +kernel
theorem dX1_reachedBy_25 : decode cX1_reachedBy 25 = .ok (.getfield 15, 3) := by decide +kernel
theorem dX1_reachedBy_28 : decode cX1_reachedBy 28 = .ok (.iload_n 1, 1) := by decide +kernel
theorem dX1_reachedBy_29 : decode cX1_reachedBy 29 = .ok (.iconst 1, 1) := by decide +kernel
theorem dX1_reachedBy_30 : decode cX1_reachedBy 30 = .ok (.iload_n 3, 1) := by decide +kernel
theorem dX1_reachedBy_31 : decode cX1_reachedBy 31 = .ok (.ishl, 1) := by decide +kernel
theorem dX1_reachedBy_32 : decode cX1_reachedBy 32 = .ok (.iconst (-1), 1) := by decide +kernel
theorem dX1_reachedBy_33 : decode cX1_reachedBy 33 = .ok (.ixor, 1) := by decide +kernel
theorem dX1_reachedBy_34 : decode cX1_reachedBy 34 = .ok (.iand, 1) := by decide +kernel
theorem dX1_reachedBy_35 : decode cX1_reachedBy 35 = .ok (.iaload, 1) := by decide +kernel
theorem dX1_reachedBy_36 : decode cX1_reachedBy 36 = .ok (.istore 5, 2) := by decide +kernel
theorem dX1_reachedBy_38 : decode cX1_reachedBy 38 = .ok (.iload 4, 2) := by decide +kernel
theorem dX1_reachedBy_40 : decode cX1_reachedBy 40 = .ok (.ifCond .le 11, 3) := by decide +kernel
theorem dX1_reachedBy_43 : decode cX1_reachedBy 43 = .ok (.iload 4, 2) := by decide +kernel
theorem dX1_reachedBy_45 : decode cX1_reachedBy 45 = .ok (.iload 5, 2) := by decide +kernel
theorem dX1_reachedBy_47 : decode cX1_reachedBy 47 = .ok (.iadd, 1) := by decide +kernel
theorem dX1_reachedBy_48 : decode cX1_reachedBy 48 = .ok (.goto 6, 3) := by decide +kernel
theorem dX1_reachedBy_51 : decode cX1_reachedBy 51 = .ok (.iload 5, 2) := by decide +kernel
theorem dX1_reachedBy_53 : decode cX1_reachedBy 53 = .ok (.ineg, 1) := by decide +kernel
theorem dX1_reachedBy_54 : decode cX1_reachedBy 54 = .ok (.ireturn, 1) := by decide +kernel
set_option maxRecDepth 20000 in
theorem ggX1_drawnBut_X3_has : GoodIn wsX1_drawnBut wsX3_has := goodIn_r _ [7] (by decide +kernel) (by decide +kernel)
set_option maxRecDepth 20000 in
theorem gX1_drawnBut_X3_has : GoodIn wsX1_drawnBut (va_wsS RX1 28 yX3_has wsX3_has) := goodIn_app (goodIn_of _ (by decide +kernel)) ggX1_drawnBut_X3_has
theorem dX1_drawnBut_0 : decode cX1_drawnBut 0 = .ok (.ldc 53, 2) := by decide +kernel
theorem dX1_drawnBut_2 : decode cX1_drawnBut 2 = .ok (.istore_n 2, 1) := by decide +kernel
theorem dX1_drawnBut_3 : decode cX1_drawnBut 3 = .ok (.iconst 0, 1) := by decide +kernel
theorem dX1_drawnBut_4 : decode cX1_drawnBut 4 = .ok (.istore_n 3, 1) := by decide +kernel
theorem dX1_drawnBut_5 : decode cX1_drawnBut 5 = .ok (.iload_n 3, 1) := by decide +kernel
theorem dX1_drawnBut_6 : decode cX1_drawnBut 6 = .ok (.aload_n 0, 1) := by decide +kernel
theorem dX1_drawnBut_7 : decode cX1_drawnBut 7 = .ok (.getfield 24, 3) := by decide +kernel
theorem dX1_drawnBut_10 : decode cX1_drawnBut 10 = .ok (.if_icmp .ge 30, 3) := by decide +kernel
theorem dX1_drawnBut_13 : decode cX1_drawnBut 13 = .ok (.iload_n 1, 1) := by decide +kernel
theorem dX1_drawnBut_14 : decode cX1_drawnBut 14 = .ok (.iload_n 3, 1) := by decide +kernel
theorem dX1_drawnBut_15 : decode cX1_drawnBut 15 = .ok (.invokestatic 28, 3) := by decide +kernel
theorem dX1_drawnBut_18 : decode cX1_drawnBut 18 = .ok (.ifCond .eq 16, 3) := by decide +kernel
theorem dX1_drawnBut_21 : decode cX1_drawnBut 21 = .ok (.iload_n 2, 1) := by decide +kernel
theorem dX1_drawnBut_22 : decode cX1_drawnBut 22 = .ok (.iconst 1, 1) := by decide +kernel
theorem dX1_drawnBut_23 : decode cX1_drawnBut 23 = .ok (.aload_n 0, 1) := by decide +kernel
theorem dX1_drawnBut_24 : decode cX1_drawnBut 24 = .ok (.getfield 9, 3) := by decide +kernel
theorem dX1_drawnBut_27 : decode cX1_drawnBut 27 = .ok (.iload_n 3, 1) := by decide +kernel
theorem dX1_drawnBut_28 : decode cX1_drawnBut 28 = .ok (.iaload, 1) := by decide +kernel
theorem dX1_drawnBut_29 : decode cX1_drawnBut 29 = .ok (.ishl, 1) := by decide +kernel
theorem dX1_drawnBut_30 : decode cX1_drawnBut 30 = .ok (.iconst (-1), 1) := by decide +kernel
theorem dX1_drawnBut_31 : decode cX1_drawnBut 31 = .ok (.ixor, 1) := by decide +kernel
theorem dX1_drawnBut_32 : decode cX1_drawnBut 32 = .ok (.iand, 1) := by decide +kernel
theorem dX1_drawnBut_33 : decode cX1_drawnBut 33 = .ok (.istore_n 2, 1) := by decide +kernel
theorem dX1_drawnBut_34 : decode cX1_drawnBut 34 = .ok (.iinc 3 1, 3) := by decide +kernel
theorem dX1_drawnBut_37 : decode cX1_drawnBut 37 = .ok (.goto (-32), 3) := by decide +kernel
theorem dX1_drawnBut_40 : decode cX1_drawnBut 40 = .ok (.iload_n 2, 1) := by decide +kernel
theorem dX1_drawnBut_41 : decode cX1_drawnBut 41 = .ok (.ireturn, 1) := by decide +kernel
set_option maxRecDepth 20000 in
theorem ggX1_byTrying_X3_boxesHaving : GoodIn wsX1_byTrying wsX3_boxesHaving := goodIn_r _ [4, 5, 6, 3, 7, 8, 9, 10, 11, 12, 13, 14, 15, 16, 17] (by decide +kernel) (by decide +kernel)
set_option maxRecDepth 20000 in
theorem gX1_byTrying_X3_boxesHaving : GoodIn wsX1_byTrying (va_wsS RX1 54 yX3_boxesHaving wsX3_boxesHaving) := goodIn_app (goodIn_of _ (by decide +kernel)) ggX1_byTrying_X3_boxesHaving
set_option maxRecDepth 20000 in
theorem ggX1_byTrying_J6_bitCount_0f7a4 : GoodIn wsX1_byTrying wsJ6_bitCount_0f7a4 := goodIn_r _ [14, 15, 16, 17] (by decide +kernel) (by decide +kernel)
set_option maxRecDepth 20000 in
theorem gX1_byTrying_J6_bitCount_0f7a4 : GoodIn wsX1_byTrying (va_wsS RX1 18 yJ6_bitCount_0f7a4 wsJ6_bitCount_0f7a4) := goodIn_app (goodIn_of _ (by decide +kernel)) ggX1_byTrying_J6_bitCount_0f7a4
set_option maxRecDepth 20000 in
theorem ggX1_byTrying_X1_tryOut : GoodIn wsX1_byTrying wsX1_tryOut := goodIn_r _ [22, 23, 24, 25, 26, 27, 28, 29, 30, 31, 32, 3, 33, 34, 35, 36, 37, 38, 39, 40, 41, 42, 43, 44, 45, 8, 9, 10, 46, 47, 48, 18, 12, 13, 14, 15, 16, 17, 19, 20, 21] (by decide +kernel) (by decide +kernel)
set_option maxRecDepth 20000 in
theorem gX1_byTrying_X1_tryOut : GoodIn wsX1_byTrying (va_wsS RX1 57 yX1_tryOut wsX1_tryOut) := goodIn_app (goodIn_of _ (by decide +kernel)) ggX1_byTrying_X1_tryOut
theorem dX1_byTrying_0 : decode cX1_byTrying 0 = .ok (.bipush 12, 2) := by decide +kernel
theorem dX1_byTrying_2 : decode cX1_byTrying 2 = .ok (.iload_n 0, 1) := by decide +kernel
theorem dX1_byTrying_3 : decode cX1_byTrying 3 = .ok (.iconst 4, 1) := by decide +kernel
theorem dX1_byTrying_4 : decode cX1_byTrying 4 = .ok (.invokestatic 54, 3) := by decide +kernel
theorem dX1_byTrying_7 : decode cX1_byTrying 7 = .ok (.invokestatic 18, 3) := by decide +kernel
theorem dX1_byTrying_10 : decode cX1_byTrying 10 = .ok (.isub, 1) := by decide +kernel
theorem dX1_byTrying_11 : decode cX1_byTrying 11 = .ok (.istore_n 1, 1) := by decide +kernel
theorem dX1_byTrying_12 : decode cX1_byTrying 12 = .ok (.iload_n 0, 1) := by decide +kernel
theorem dX1_byTrying_13 : decode cX1_byTrying 13 = .ok (.iload_n 1, 1) := by decide +kernel
theorem dX1_byTrying_14 : decode cX1_byTrying 14 = .ok (.iload_n 1, 1) := by decide +kernel
theorem dX1_byTrying_15 : decode cX1_byTrying 15 = .ok (.ineg, 1) := by decide +kernel
theorem dX1_byTrying_16 : decode cX1_byTrying 16 = .ok (.iload_n 1, 1) := by decide +kernel
theorem dX1_byTrying_17 : decode cX1_byTrying 17 = .ok (.iconst 0, 1) := by decide +kernel
theorem dX1_byTrying_18 : decode cX1_byTrying 18 = .ok (.invokestatic 57, 3) := by decide +kernel
theorem dX1_byTrying_21 : decode cX1_byTrying 21 = .ok (.ireturn, 1) := by decide +kernel
set_option maxRecDepth 20000 in
theorem ggX1_tryOut_X3_has : GoodIn wsX1_tryOut wsX3_has := goodIn_r _ [12] (by decide +kernel) (by decide +kernel)
set_option maxRecDepth 20000 in
theorem gX1_tryOut_X3_has : GoodIn wsX1_tryOut (va_wsS RX1 28 yX3_has wsX3_has) := goodIn_app (goodIn_of _ (by decide +kernel)) ggX1_tryOut_X3_has
set_option maxRecDepth 20000 in
theorem ggX1_tryOut_X3_closedWith : GoodIn wsX1_tryOut wsX3_closedWith := goodIn_r _ [15, 16, 17, 11, 18, 19, 20, 21, 22, 23, 24, 25, 26, 27, 28, 29, 30] (by decide +kernel) (by decide +kernel)
set_option maxRecDepth 20000 in
theorem gX1_tryOut_X3_closedWith : GoodIn wsX1_tryOut (va_wsS RX1 50 yX3_closedWith wsX3_closedWith) := goodIn_app (goodIn_of _ (by decide +kernel)) ggX1_tryOut_X3_closedWith
set_option maxRecDepth 20000 in
theorem ggX1_tryOut_J6_bitCount_0f7a4 : GoodIn wsX1_tryOut wsJ6_bitCount_0f7a4 := goodIn_r _ [34, 35, 36, 37] (by decide +kernel) (by decide +kernel)
set_option maxRecDepth 20000 in
theorem gX1_tryOut_J6_bitCount_0f7a4 : GoodIn wsX1_tryOut (va_wsS RX1 18 yJ6_bitCount_0f7a4 wsJ6_bitCount_0f7a4) := goodIn_app (goodIn_of _ (by decide +kernel)) ggX1_tryOut_J6_bitCount_0f7a4
set_option maxRecDepth 20000 in
theorem ggX1_tryOut_X1_tryOut : GoodIn wsX1_tryOut wsX1_tryOut := goodIn_r _ [0, 1, 2, 3, 4, 5, 6, 7, 8, 9, 10, 11, 12, 13, 14, 15, 16, 17, 18, 19, 20, 21, 22, 23, 24, 25, 26, 27, 28, 29, 30, 31, 32, 33, 34, 35, 36, 37, 38, 39, 40] (by decide +kernel) (by decide +kernel)
set_option maxRecDepth 20000 in
theorem gX1_tryOut_X1_tryOut : GoodIn wsX1_tryOut (va_wsS RX1 57 yX1_tryOut wsX1_tryOut) := goodIn_app (goodIn_of _ (by decide +kernel)) ggX1_tryOut_X1_tryOut
theorem dX1_tryOut_0 : decode cX1_tryOut 0 = .ok (.iload_n 0, 1) := by decide +kernel
theorem dX1_tryOut_1 : decode cX1_tryOut 1 = .ok (.ldc 53, 2) := by decide +kernel
theorem dX1_tryOut_3 : decode cX1_tryOut 3 = .ok (.if_icmp .eq 10, 3) := by decide +kernel
theorem dX1_tryOut_6 : decode cX1_tryOut 6 = .ok (.iload 4, 2) := by decide +kernel
theorem dX1_tryOut_8 : decode cX1_tryOut 8 = .ok (.bipush 8, 2) := by decide +kernel
theorem dX1_tryOut_10 : decode cX1_tryOut 10 = .ok (.if_icmp .lt 5, 3) := by decide +kernel
theorem dX1_tryOut_13 : decode cX1_tryOut 13 = .ok (.iconst 0, 1) := by decide +kernel
theorem dX1_tryOut_14 : decode cX1_tryOut 14 = .ok (.ireturn, 1) := by decide +kernel
theorem dX1_tryOut_15 : decode cX1_tryOut 15 = .ok (.iload_n 1, 1) := by decide +kernel
theorem dX1_tryOut_16 : decode cX1_tryOut 16 = .ok (.iload_n 2, 1) := by decide +kernel
theorem dX1_tryOut_17 : decode cX1_tryOut 17 = .ok (.if_icmp .gt 5, 3) := by decide +kernel
theorem dX1_tryOut_20 : decode cX1_tryOut 20 = .ok (.iload_n 1, 1) := by decide +kernel
theorem dX1_tryOut_21 : decode cX1_tryOut 21 = .ok (.ireturn, 1) := by decide +kernel
theorem dX1_tryOut_22 : decode cX1_tryOut 22 = .ok (.iload_n 1, 1) := by decide +kernel
theorem dX1_tryOut_23 : decode cX1_tryOut 23 = .ok (.ineg, 1) := by decide +kernel
theorem dX1_tryOut_24 : decode cX1_tryOut 24 = .ok (.istore 5, 2) := by decide +kernel
theorem dX1_tryOut_26 : decode cX1_tryOut 26 = .ok (.iload_n 1, 1) := by decide +kernel
theorem dX1_tryOut_27 : decode cX1_tryOut 27 = .ok (.iload_n 3, 1) := by decide +kernel
theorem dX1_tryOut_28 : decode cX1_tryOut 28 = .ok (.invokestatic 61, 3) := by decide +kernel
theorem dX1_tryOut_31 : decode cX1_tryOut 31 = .ok (.istore 6, 2) := by decide +kernel
theorem dX1_tryOut_33 : decode cX1_tryOut 33 = .ok (.iconst 0, 1) := by decide +kernel
theorem dX1_tryOut_34 : decode cX1_tryOut 34 = .ok (.istore 7, 2) := by decide +kernel
theorem dX1_tryOut_36 : decode cX1_tryOut 36 = .ok (.iload 7, 2) := by decide +kernel
theorem dX1_tryOut_38 : decode cX1_tryOut 38 = .ok (.bipush 31, 2) := by decide +kernel
theorem dX1_tryOut_40 : decode cX1_tryOut 40 = .ok (.if_icmp .ge 115, 3) := by decide +kernel
theorem dX1_tryOut_43 : decode cX1_tryOut 43 = .ok (.iload 5, 2) := by decide +kernel
theorem dX1_tryOut_45 : decode cX1_tryOut 45 = .ok (.iload 6, 2) := by decide +kernel
theorem dX1_tryOut_47 : decode cX1_tryOut 47 = .ok (.if_icmp .ge 108, 3) := by decide +kernel
theorem dX1_tryOut_50 : decode cX1_tryOut 50 = .ok (.iload_n 0, 1) := by decide +kernel
theorem dX1_tryOut_51 : decode cX1_tryOut 51 = .ok (.iload 7, 2) := by decide +kernel
theorem dX1_tryOut_53 : decode cX1_tryOut 53 = .ok (.invokestatic 28, 3) := by decide +kernel
theorem dX1_tryOut_56 : decode cX1_tryOut 56 = .ok (.ifCond .ne 93, 3) := by decide +kernel
theorem dX1_tryOut_59 : decode cX1_tryOut 59 = .ok (.iload_n 0, 1) := by decide +kernel
theorem dX1_tryOut_60 : decode cX1_tryOut 60 = .ok (.iconst 1, 1) := by decide +kernel
theorem dX1_tryOut_61 : decode cX1_tryOut 61 = .ok (.iload 7, 2) := by decide +kernel
theorem dX1_tryOut_63 : decode cX1_tryOut 63 = .ok (.ishl, 1) := by decide +kernel
theorem dX1_tryOut_64 : decode cX1_tryOut 64 = .ok (.ior, 1) := by decide +kernel
theorem dX1_tryOut_65 : decode cX1_tryOut 65 = .ok (.istore 8, 2) := by decide +kernel
theorem dX1_tryOut_67 : decode cX1_tryOut 67 = .ok (.iload 8, 2) := by decide +kernel
theorem dX1_tryOut_69 : decode cX1_tryOut 69 = .ok (.iload 7, 2) := by decide +kernel
theorem dX1_tryOut_71 : decode cX1_tryOut 71 = .ok (.invokestatic 50, 3) := by decide +kernel
theorem dX1_tryOut_74 : decode cX1_tryOut 74 = .ok (.invokestatic 18, 3) := by decide +kernel
theorem dX1_tryOut_77 : decode cX1_tryOut 77 = .ok (.istore 9, 2) := by decide +kernel
theorem dX1_tryOut_79 : decode cX1_tryOut 79 = .ok (.iload 5, 2) := by decide +kernel
theorem dX1_tryOut_81 : decode cX1_tryOut 81 = .ok (.iload_n 2, 1) := by decide +kernel
theorem dX1_tryOut_82 : decode cX1_tryOut 82 = .ok (.invokestatic 44, 3) := by decide +kernel
theorem dX1_tryOut_85 : decode cX1_tryOut 85 = .ok (.istore 10, 2) := by decide +kernel
theorem dX1_tryOut_87 : decode cX1_tryOut 87 = .ok (.iload 9, 2) := by decide +kernel
theorem dX1_tryOut_89 : decode cX1_tryOut 89 = .ok (.ifCond .le 32, 3) := by decide +kernel
theorem dX1_tryOut_92 : decode cX1_tryOut 92 = .ok (.iload 9, 2) := by decide +kernel
theorem dX1_tryOut_94 : decode cX1_tryOut 94 = .ok (.iload 8, 2) := by decide +kernel
theorem dX1_tryOut_96 : decode cX1_tryOut 96 = .ok (.iload_n 1, 1) := by decide +kernel
theorem dX1_tryOut_97 : decode cX1_tryOut 97 = .ok (.iload 9, 2) := by decide +kernel
theorem dX1_tryOut_99 : decode cX1_tryOut 99 = .ok (.isub, 1) := by decide +kernel
theorem dX1_tryOut_100 : decode cX1_tryOut 100 = .ok (.iload 10, 2) := by decide +kernel
theorem dX1_tryOut_102 : decode cX1_tryOut 102 = .ok (.iload 9, 2) := by decide +kernel
theorem dX1_tryOut_104 : decode cX1_tryOut 104 = .ok (.isub, 1) := by decide +kernel
theorem dX1_tryOut_105 : decode cX1_tryOut 105 = .ok (.iload 6, 2) := by decide +kernel
theorem dX1_tryOut_107 : decode cX1_tryOut 107 = .ok (.iload 9, 2) := by decide +kernel
theorem dX1_tryOut_109 : decode cX1_tryOut 109 = .ok (.isub, 1) := by decide +kernel
theorem dX1_tryOut_110 : decode cX1_tryOut 110 = .ok (.iload 4, 2) := by decide +kernel
theorem dX1_tryOut_112 : decode cX1_tryOut 112 = .ok (.iconst 1, 1) := by decide +kernel
theorem dX1_tryOut_113 : decode cX1_tryOut 113 = .ok (.iadd, 1) := by decide +kernel
theorem dX1_tryOut_114 : decode cX1_tryOut 114 = .ok (.invokestatic 57, 3) := by decide +kernel
theorem dX1_tryOut_117 : decode cX1_tryOut 117 = .ok (.iadd, 1) := by decide +kernel
theorem dX1_tryOut_118 : decode cX1_tryOut 118 = .ok (.goto 20, 3) := by decide +kernel
theorem dX1_tryOut_121 : decode cX1_tryOut 121 = .ok (.iload 8, 2) := by decide +kernel
theorem dX1_tryOut_123 : decode cX1_tryOut 123 = .ok (.iload_n 1, 1) := by decide +kernel
theorem dX1_tryOut_124 : decode cX1_tryOut 124 = .ok (.iload 6, 2) := by decide +kernel
theorem dX1_tryOut_126 : decode cX1_tryOut 126 = .ok (.ineg, 1) := by decide +kernel
theorem dX1_tryOut_127 : decode cX1_tryOut 127 = .ok (.iload 10, 2) := by decide +kernel
theorem dX1_tryOut_129 : decode cX1_tryOut 129 = .ok (.ineg, 1) := by decide +kernel
theorem dX1_tryOut_130 : decode cX1_tryOut 130 = .ok (.iload 4, 2) := by decide +kernel
theorem dX1_tryOut_132 : decode cX1_tryOut 132 = .ok (.iconst 1, 1) := by decide +kernel
theorem dX1_tryOut_133 : decode cX1_tryOut 133 = .ok (.iadd, 1) := by decide +kernel
theorem dX1_tryOut_134 : decode cX1_tryOut 134 = .ok (.invokestatic 57, 3) := by decide +kernel
theorem dX1_tryOut_137 : decode cX1_tryOut 137 = .ok (.ineg, 1) := by decide +kernel
theorem dX1_tryOut_138 : decode cX1_tryOut 138 = .ok (.istore 11, 2) := by decide +kernel
theorem dX1_tryOut_140 : decode cX1_tryOut 140 = .ok (.iload 5, 2) := by decide +kernel
theorem dX1_tryOut_142 : decode cX1_tryOut 142 = .ok (.iload 11, 2) := by decide +kernel
theorem dX1_tryOut_144 : decode cX1_tryOut 144 = .ok (.invokestatic 44, 3) := by decide +kernel
theorem dX1_tryOut_147 : decode cX1_tryOut 147 = .ok (.istore 5, 2) := by decide +kernel
theorem dX1_tryOut_149 : decode cX1_tryOut 149 = .ok (.iinc 7 1, 3) := by decide +kernel
theorem dX1_tryOut_152 : decode cX1_tryOut 152 = .ok (.goto (-116), 3) := by decide +kernel
theorem dX1_tryOut_155 : decode cX1_tryOut 155 = .ok (.iload 5, 2) := by decide +kernel
theorem dX1_tryOut_157 : decode cX1_tryOut 157 = .ok (.ireturn, 1) := by decide +kernel
theorem dX2_init_0 : decode cX2_init 0 = .ok (.aload_n 0, 1) := by decide +kernel
theorem dX2_init_1 : decode cX2_init 1 = .ok (.invokespecial 3, 3) := by decide +kernel
theorem dX2_init_4 : decode cX2_init 4 = .ok (.return_, 1) := by decide +kernel
theorem dX2_copyFrom_0 : decode cX2_copyFrom 0 = .ok (.aload_n 0, 1) := by decide +kernel
theorem dX2_copyFrom_1 : decode cX2_copyFrom 1 = .ok (.aload_n 1, 1) := by decide +kernel
theorem dX2_copyFrom_2 : decode cX2_copyFrom 2 = .ok (.getfield 9, 3) := by decide +kernel
theorem dX2_copyFrom_5 : decode cX2_copyFrom 5 = .ok (.putfield 9, 3) := by decide +kernel
theorem dX2_copyFrom_8 : decode cX2_copyFrom 8 = .ok (.aload_n 0, 1) := by decide +kernel
theorem dX2_copyFrom_9 : decode cX2_copyFrom 9 = .ok (.aload_n 1, 1) := by decide +kernel
theorem dX2_copyFrom_10 : decode cX2_copyFrom 10 = .ok (.getfield 15, 3) := by decide +kernel
theorem dX2_copyFrom_13 : decode cX2_copyFrom 13 = .ok (.putfield 15, 3) := by decide +kernel
theorem dX2_copyFrom_16 : decode cX2_copyFrom 16 = .ok (.aload_n 0, 1) := by decide +kernel
theorem dX2_copyFrom_17 : decode cX2_copyFrom 17 = .ok (.aload_n 1, 1) := by decide +kernel
theorem dX2_copyFrom_18 : decode cX2_copyFrom 18 = .ok (.getfield 18, 3) := by decide +kernel
theorem dX2_copyFrom_21 : decode cX2_copyFrom 21 = .ok (.putfield 18, 3) := by decide +kernel
theorem dX2_copyFrom_24 : decode cX2_copyFrom 24 = .ok (.aload_n 0, 1) := by decide +kernel
theorem dX2_copyFrom_25 : decode cX2_copyFrom 25 = .ok (.aload_n 1, 1) := by decide +kernel
theorem dX2_copyFrom_26 : decode cX2_copyFrom 26 = .ok (.getfield 21, 3) := by decide +kernel
theorem dX2_copyFrom_29 : decode cX2_copyFrom 29 = .ok (.putfield 21, 3) := by decide +kernel
theorem dX2_copyFrom_32 : decode cX2_copyFrom 32 = .ok (.aload_n 0, 1) := by decide +kernel
theorem dX2_copyFrom_33 : decode cX2_copyFrom 33 = .ok (.aload_n 1, 1) := by decide +kernel
theorem dX2_copyFrom_34 : decode cX2_copyFrom 34 = .ok (.getfield 24, 3) := by decide +kernel
theorem dX2_copyFrom_37 : decode cX2_copyFrom 37 = .ok (.putfield 24, 3) := by decide +kernel
theorem dX2_copyFrom_40 : decode cX2_copyFrom 40 = .ok (.aload_n 0, 1) := by decide +kernel
theorem dX2_copyFrom_41 : decode cX2_copyFrom 41 = .ok (.aload_n 1, 1) := by decide +kernel
theorem dX2_copyFrom_42 : decode cX2_copyFrom 42 = .ok (.getfield 27, 3) := by decide +kernel
theorem dX2_copyFrom_45 : decode cX2_copyFrom 45 = .ok (.putfield 27, 3) := by decide +kernel
theorem dX2_copyFrom_48 : decode cX2_copyFrom 48 = .ok (.aload_n 0, 1) := by decide +kernel
theorem dX2_copyFrom_49 : decode cX2_copyFrom 49 = .ok (.aload_n 1, 1) := by decide +kernel
theorem dX2_copyFrom_50 : decode cX2_copyFrom 50 = .ok (.getfield 30, 3) := by decide +kernel
theorem dX2_copyFrom_53 : decode cX2_copyFrom 53 = .ok (.putfield 30, 3) := by decide +kernel
theorem dX2_copyFrom_56 : decode cX2_copyFrom 56 = .ok (.aload_n 0, 1) := by decide +kernel
theorem dX2_copyFrom_57 : decode cX2_copyFrom 57 = .ok (.aload_n 1, 1) := by decide +kernel
theorem dX2_copyFrom_58 : decode cX2_copyFrom 58 = .ok (.getfield 33, 3) := by decide +kernel
theorem dX2_copyFrom_61 : decode cX2_copyFrom 61 = .ok (.putfield 33, 3) := by decide +kernel
theorem dX2_copyFrom_64 : decode cX2_copyFrom 64 = .ok (.return_, 1) := by decide +kernel
theorem dX2_begin_0 : decode cX2_begin 0 = .ok (.aload_n 0, 1) := by decide +kernel
theorem dX2_begin_1 : decode cX2_begin 1 = .ok (.iconst 0, 1) := by decide +kernel
theorem dX2_begin_2 : decode cX2_begin 2 = .ok (.putfield 9, 3) := by decide +kernel
theorem dX2_begin_5 : decode cX2_begin 5 = .ok (.aload_n 0, 1) := by decide +kernel
theorem dX2_begin_6 : decode cX2_begin 6 = .ok (.iconst 0, 1) := by decide +kernel
theorem dX2_begin_7 : decode cX2_begin 7 = .ok (.putfield 15, 3) := by decide +kernel
theorem dX2_begin_10 : decode cX2_begin 10 = .ok (.aload_n 0, 1) := by decide +kernel
theorem dX2_begin_11 : decode cX2_begin 11 = .ok (.iconst 0, 1) := by decide +kernel
theorem dX2_begin_12 : decode cX2_begin 12 = .ok (.putfield 18, 3) := by decide +kernel
theorem dX2_begin_15 : decode cX2_begin 15 = .ok (.aload_n 0, 1) := by decide +kernel
theorem dX2_begin_16 : decode cX2_begin 16 = .ok (.iconst 0, 1) := by decide +kernel
theorem dX2_begin_17 : decode cX2_begin 17 = .ok (.putfield 21, 3) := by decide +kernel
theorem dX2_begin_20 : decode cX2_begin 20 = .ok (.return_, 1) := by decide +kernel
set_option maxRecDepth 20000 in
theorem ggX2_countFences_J6_bitCount_0f7a4 : GoodIn wsX2_countFences wsJ6_bitCount_0f7a4 := goodIn_r _ [5, 6, 7, 8] (by decide +kernel) (by decide +kernel)
set_option maxRecDepth 20000 in
theorem gX2_countFences_J6_bitCount_0f7a4 : GoodIn wsX2_countFences (va_wsS RX2 36 yJ6_bitCount_0f7a4 wsJ6_bitCount_0f7a4) := goodIn_app (goodIn_of _ (by decide +kernel)) ggX2_countFences_J6_bitCount_0f7a4
theorem dX2_countFences_0 : decode cX2_countFences 0 = .ok (.aload_n 0, 1) := by decide +kernel
theorem dX2_countFences_1 : decode cX2_countFences 1 = .ok (.getfield 9, 3) := by decide +kernel
theorem dX2_countFences_4 : decode cX2_countFences 4 = .ok (.invokestatic 36, 3) := by decide +kernel
theorem dX2_countFences_7 : decode cX2_countFences 7 = .ok (.ireturn, 1) := by decide +kernel
theorem dX2_closedBy_0 : decode cX2_closedBy 0 = .ok (.iload_n 1, 1) := by decide +kernel
theorem dX2_closedBy_1 : decode cX2_closedBy 1 = .ok (.ifCond .ne 10, 3) := by decide +kernel
theorem dX2_closedBy_4 : decode cX2_closedBy 4 = .ok (.aload_n 0, 1) := by decide +kernel
theorem dX2_closedBy_5 : decode cX2_closedBy 5 = .ok (.getfield 15, 3) := by decide +kernel
theorem dX2_closedBy_8 : decode cX2_closedBy 8 = .ok (.goto 7, 3) := by decide +kernel
theorem dX2_closedBy_11 : decode cX2_closedBy 11 = .ok (.aload_n 0, 1) := by decide +kernel
theorem dX2_closedBy_12 : decode cX2_closedBy 12 = .ok (.getfield 18, 3) := by decide +kernel
theorem dX2_closedBy_15 : decode cX2_closedBy 15 = .ok (.ireturn, 1) := by decide +kernel
theorem dX2_hasEnded_0 : decode cX2_hasEnded 0 = .ok (.aload_n 0, 1) := by decide +kernel
theorem dX2_hasEnded_1 : decode cX2_hasEnded 1 = .ok (.getfield 9, 3) := by decide +kernel
theorem dX2_hasEnded_4 : decode cX2_hasEnded 4 = .ok (.ldc 42, 2) := by decide +kernel
theorem dX2_hasEnded_6 : decode cX2_hasEnded 6 = .ok (.if_icmp .ne 7, 3) := by decide +kernel
theorem dX2_hasEnded_9 : decode cX2_hasEnded 9 = .ok (.iconst 1, 1) := by decide +kernel
theorem dX2_hasEnded_10 : decode cX2_hasEnded 10 = .ok (.goto 4, 3) := by decide +kernel
theorem dX2_hasEnded_13 : decode cX2_hasEnded 13 = .ok (.iconst 0, 1) := by decide +kernel
theorem dX2_hasEnded_14 : decode cX2_hasEnded 14 = .ok (.ireturn, 1) := by decide +kernel
set_option maxRecDepth 20000 in
theorem ggX2_refusal_X2_hasEnded : GoodIn wsX2_refusal wsX2_hasEnded := goodIn_r _ [6, 1, 7, 12, 13, 14, 15, 16, 17, 18, 19] (by decide +kernel) (by decide +kernel)
set_option maxRecDepth 20000 in
theorem gX2_refusal_X2_hasEnded : GoodIn wsX2_refusal (wsV RX2 43 RX2 yX2_hasEnded wsX2_hasEnded) := goodIn_app (goodIn_of _ (by decide +kernel)) ggX2_refusal_X2_hasEnded
set_option maxRecDepth 20000 in
theorem ggX2_refusal_X3_has : GoodIn wsX2_refusal wsX3_has := goodIn_r _ [11] (by decide +kernel) (by decide +kernel)
set_option maxRecDepth 20000 in
theorem gX2_refusal_X3_has : GoodIn wsX2_refusal (va_wsS RX2 47 yX3_has wsX3_has) := goodIn_app (goodIn_of _ (by decide +kernel)) ggX2_refusal_X3_has
theorem dX2_refusal_0 : decode cX2_refusal 0 = .ok (.aload_n 0, 1) := by decide +kernel
theorem dX2_refusal_1 : decode cX2_refusal 1 = .ok (.invokevirtual 43, 3) := by decide +kernel
theorem dX2_refusal_4 : decode cX2_refusal 4 = .ok (.ifCond .eq 5, 3) := by decide +kernel
theorem dX2_refusal_7 : decode cX2_refusal 7 = .ok (.iconst 1, 1) := by decide +kernel
theorem dX2_refusal_8 : decode cX2_refusal 8 = .ok (.ireturn, 1) := by decide +kernel
theorem dX2_refusal_9 : decode cX2_refusal 9 = .ok (.aload_n 0, 1) := by decide +kernel
theorem dX2_refusal_10 : decode cX2_refusal 10 = .ok (.getfield 9, 3) := by decide +kernel
theorem dX2_refusal_13 : decode cX2_refusal 13 = .ok (.iload_n 1, 1) := by decide +kernel
theorem dX2_refusal_14 : decode cX2_refusal 14 = .ok (.invokestatic 47, 3) := by decide +kernel
theorem dX2_refusal_17 : decode cX2_refusal 17 = .ok (.ifCond .eq 7, 3) := by decide +kernel
theorem dX2_refusal_20 : decode cX2_refusal 20 = .ok (.iconst 2, 1) := by decide +kernel
theorem dX2_refusal_21 : decode cX2_refusal 21 = .ok (.goto 4, 3) := by decide +kernel
theorem dX2_refusal_24 : decode cX2_refusal 24 = .ok (.iconst 0, 1) := by decide +kernel
theorem dX2_refusal_25 : decode cX2_refusal 25 = .ok (.ireturn, 1) := by decide +kernel
set_option maxRecDepth 20000 in
theorem ggX2_put_X3_closedWith : GoodIn wsX2_put wsX3_closedWith := goodIn_r _ [9, 10, 11, 8, 12, 13, 14, 15, 16, 17, 18, 19, 20, 21, 22, 23, 24] (by decide +kernel) (by decide +kernel)
set_option maxRecDepth 20000 in
theorem gX2_put_X3_closedWith : GoodIn wsX2_put (va_wsS RX2 53 yX3_closedWith wsX3_closedWith) := goodIn_app (goodIn_of _ (by decide +kernel)) ggX2_put_X3_closedWith
set_option maxRecDepth 20000 in
theorem ggX2_put_J6_bitCount_0f7a4 : GoodIn wsX2_put wsJ6_bitCount_0f7a4 := goodIn_r _ [28, 29, 30, 31] (by decide +kernel) (by decide +kernel)
set_option maxRecDepth 20000 in
theorem gX2_put_J6_bitCount_0f7a4 : GoodIn wsX2_put (va_wsS RX2 36 yJ6_bitCount_0f7a4 wsJ6_bitCount_0f7a4) := goodIn_app (goodIn_of _ (by decide +kernel)) ggX2_put_J6_bitCount_0f7a4
set_option maxRecDepth 20000 in
theorem ggX2_put_X2_hasEnded : GoodIn wsX2_put wsX2_hasEnded := goodIn_r _ [36, 1, 37, 45, 46, 47, 48, 49, 50, 51, 52] (by decide +kernel) (by decide +kernel)
set_option maxRecDepth 20000 in
theorem gX2_put_X2_hasEnded : GoodIn wsX2_put (wsV RX2 43 RX2 yX2_hasEnded wsX2_hasEnded) := goodIn_app (goodIn_of _ (by decide +kernel)) ggX2_put_X2_hasEnded
set_option maxRecDepth 20000 in
theorem ggX2_put_X2_settle : GoodIn wsX2_put wsX2_settle := goodIn_r _ [41, 3, 4, 42, 43, 44, 25, 26, 27, 28, 29, 30, 31, 45, 46, 47, 48, 49, 50, 51, 52] (by decide +kernel) (by decide +kernel)
set_option maxRecDepth 20000 in
theorem gX2_put_X2_settle : GoodIn wsX2_put (wsV RX2 57 RX2 yX2_settle wsX2_settle) := goodIn_app (goodIn_of _ (by decide +kernel)) ggX2_put_X2_settle
theorem dX2_put_0 : decode cX2_put 0 = .ok (.aload_n 0, 1) := by decide +kernel
theorem dX2_put_1 : decode cX2_put 1 = .ok (.dup, 1) := by decide +kernel
theorem dX2_put_2 : decode cX2_put 2 = .ok (.getfield 9, 3) := by decide +kernel
theorem dX2_put_5 : decode cX2_put 5 = .ok (.iconst 1, 1) := by decide +kernel
theorem dX2_put_6 : decode cX2_put 6 = .ok (.iload_n 1, 1) := by decide +kernel
theorem dX2_put_7 : decode cX2_put 7 = .ok (.ishl, 1) := by decide +kernel
theorem dX2_put_8 : decode cX2_put 8 = .ok (.ior, 1) := by decide +kernel
theorem dX2_put_9 : decode cX2_put 9 = .ok (.putfield 9, 3) := by decide +kernel
theorem dX2_put_12 : decode cX2_put 12 = .ok (.aload_n 0, 1) := by decide +kernel
theorem dX2_put_13 : decode cX2_put 13 = .ok (.getfield 9, 3) := by decide +kernel
theorem dX2_put_16 : decode cX2_put 16 = .ok (.iload_n 1, 1) := by decide +kernel
theorem dX2_put_17 : decode cX2_put 17 = .ok (.invokestatic 53, 3) := by decide +kernel
theorem dX2_put_20 : decode cX2_put 20 = .ok (.istore_n 2, 1) := by decide +kernel
theorem dX2_put_21 : decode cX2_put 21 = .ok (.iload_n 2, 1) := by decide +kernel
theorem dX2_put_22 : decode cX2_put 22 = .ok (.invokestatic 36, 3) := by decide +kernel
theorem dX2_put_25 : decode cX2_put 25 = .ok (.istore_n 3, 1) := by decide +kernel
theorem dX2_put_26 : decode cX2_put 26 = .ok (.aload_n 0, 1) := by decide +kernel
theorem dX2_put_27 : decode cX2_put 27 = .ok (.getfield 21, 3) := by decide +kernel
theorem dX2_put_30 : decode cX2_put 30 = .ok (.ifCond .ne 16, 3) := by decide +kernel
theorem dX2_put_33 : decode cX2_put 33 = .ok (.aload_n 0, 1) := by decide +kernel
theorem dX2_put_34 : decode cX2_put 34 = .ok (.dup, 1) := by decide +kernel
theorem dX2_put_35 : decode cX2_put 35 = .ok (.getfield 15, 3) := by decide +kernel
theorem dX2_put_38 : decode cX2_put 38 = .ok (.iload_n 2, 1) := by decide +kernel
theorem dX2_put_39 : decode cX2_put 39 = .ok (.ior, 1) := by decide +kernel
theorem dX2_put_40 : decode cX2_put 40 = .ok (.putfield 15, 3) := by decide +kernel
theorem dX2_put_43 : decode cX2_put 43 = .ok (.goto 13, 3) := by decide +kernel
theorem dX2_put_46 : decode cX2_put 46 = .ok (.aload_n 0, 1) := by decide +kernel
theorem dX2_put_47 : decode cX2_put 47 = .ok (.dup, 1) := by decide +kernel
theorem dX2_put_48 : decode cX2_put 48 = .ok (.getfield 18, 3) := by decide +kernel
theorem dX2_put_51 : decode cX2_put 51 = .ok (.iload_n 2, 1) := by decide +kernel
theorem dX2_put_52 : decode cX2_put 52 = .ok (.ior, 1) := by decide +kernel
theorem dX2_put_53 : decode cX2_put 53 = .ok (.putfield 18, 3) := by decide +kernel
theorem dX2_put_56 : decode cX2_put 56 = .ok (.iload_n 3, 1) := by decide +kernel
theorem dX2_put_57 : decode cX2_put 57 = .ok (.iconst 2, 1) := by decide +kernel
theorem dX2_put_58 : decode cX2_put 58 = .ok (.if_icmp .ne 13, 3) := by decide +kernel
theorem dX2_put_61 : decode cX2_put 61 = .ok (.aload_n 0, 1) := by decide +kernel
theorem dX2_put_62 : decode cX2_put 62 = .ok (.dup, 1) := by decide +kernel
theorem dX2_put_63 : decode cX2_put 63 = .ok (.getfield 33, 3) := by decide +kernel
theorem dX2_put_66 : decode cX2_put 66 = .ok (.iconst 1, 1) := by decide +kernel
theorem dX2_put_67 : decode cX2_put 67 = .ok (.iadd, 1) := by decide +kernel
theorem dX2_put_68 : decode cX2_put 68 = .ok (.putfield 33, 3) := by decide +kernel
theorem dX2_put_71 : decode cX2_put 71 = .ok (.iload_n 3, 1) := by decide +kernel
theorem dX2_put_72 : decode cX2_put 72 = .ok (.ifCond .ne 13, 3) := by decide +kernel
theorem dX2_put_75 : decode cX2_put 75 = .ok (.aload_n 0, 1) := by decide +kernel
theorem dX2_put_76 : decode cX2_put 76 = .ok (.iconst 1, 1) := by decide +kernel
theorem dX2_put_77 : decode cX2_put 77 = .ok (.aload_n 0, 1) := by decide +kernel
theorem dX2_put_78 : decode cX2_put 78 = .ok (.getfield 21, 3) := by decide +kernel
theorem dX2_put_81 : decode cX2_put 81 = .ok (.isub, 1) := by decide +kernel
theorem dX2_put_82 : decode cX2_put 82 = .ok (.putfield 21, 3) := by decide +kernel
theorem dX2_put_85 : decode cX2_put 85 = .ok (.aload_n 0, 1) := by decide +kernel
theorem dX2_put_86 : decode cX2_put 86 = .ok (.invokevirtual 43, 3) := by decide +kernel
theorem dX2_put_89 : decode cX2_put 89 = .ok (.ifCond .eq 7, 3) := by decide +kernel
theorem dX2_put_92 : decode cX2_put 92 = .ok (.aload_n 0, 1) := by decide +kernel
theorem dX2_put_93 : decode cX2_put 93 = .ok (.invokevirtual 57, 3) := by decide +kernel
theorem dX2_put_96 : decode cX2_put 96 = .ok (.iload_n 3, 1) := by decide +kernel
theorem dX2_put_97 : decode cX2_put 97 = .ok (.ireturn, 1) := by decide +kernel
set_option maxRecDepth 20000 in
theorem ggX2_settle_J6_bitCount_0f7a4 : GoodIn wsX2_settle wsJ6_bitCount_0f7a4 := goodIn_r _ [9, 10, 11, 12] (by decide +kernel) (by decide +kernel)
set_option maxRecDepth 20000 in
theorem gX2_settle_J6_bitCount_0f7a4 : GoodIn wsX2_settle (va_wsS RX2 36 yJ6_bitCount_0f7a4 wsJ6_bitCount_0f7a4) := goodIn_app (goodIn_of _ (by decide +kernel)) ggX2_settle_J6_bitCount_0f7a4
theorem dX2_settle_0 : decode cX2_settle 0 = .ok (.aload_n 0, 1) := by decide +kernel
theorem dX2_settle_1 : decode cX2_settle 1 = .ok (.getfield 15, 3) := by decide +kernel
theorem dX2_settle_4 : decode cX2_settle 4 = .ok (.invokestatic 36, 3) := by decide +kernel
theorem dX2_settle_7 : decode cX2_settle 7 = .ok (.istore_n 1, 1) := by decide +kernel
theorem dX2_settle_8 : decode cX2_settle 8 = .ok (.aload_n 0, 1) := by decide +kernel
theorem dX2_settle_9 : decode cX2_settle 9 = .ok (.getfield 18, 3) := by decide +kernel
theorem dX2_settle_12 : decode cX2_settle 12 = .ok (.invokestatic 36, 3) := by decide +kernel
theorem dX2_settle_15 : decode cX2_settle 15 = .ok (.istore_n 2, 1) := by decide +kernel
theorem dX2_settle_16 : decode cX2_settle 16 = .ok (.iload_n 1, 1) := by decide +kernel
theorem dX2_settle_17 : decode cX2_settle 17 = .ok (.iload_n 2, 1) := by decide +kernel
theorem dX2_settle_18 : decode cX2_settle 18 = .ok (.if_icmp .le 16, 3) := by decide +kernel
theorem dX2_settle_21 : decode cX2_settle 21 = .ok (.aload_n 0, 1) := by decide +kernel
theorem dX2_settle_22 : decode cX2_settle 22 = .ok (.dup, 1) := by decide +kernel
theorem dX2_settle_23 : decode cX2_settle 23 = .ok (.getfield 24, 3) := by decide +kernel
theorem dX2_settle_26 : decode cX2_settle 26 = .ok (.iconst 1, 1) := by decide +kernel
theorem dX2_settle_27 : decode cX2_settle 27 = .ok (.iadd, 1) := by decide +kernel
theorem dX2_settle_28 : decode cX2_settle 28 = .ok (.putfield 24, 3) := by decide +kernel
theorem dX2_settle_31 : decode cX2_settle 31 = .ok (.goto 31, 3) := by decide +kernel
theorem dX2_settle_34 : decode cX2_settle 34 = .ok (.iload_n 2, 1) := by decide +kernel
theorem dX2_settle_35 : decode cX2_settle 35 = .ok (.iload_n 1, 1) := by decide +kernel
theorem dX2_settle_36 : decode cX2_settle 36 = .ok (.if_icmp .le 16, 3) := by decide +kernel
theorem dX2_settle_39 : decode cX2_settle 39 = .ok (.aload_n 0, 1) := by decide +kernel
theorem dX2_settle_40 : decode cX2_settle 40 = .ok (.dup, 1) := by decide +kernel
theorem dX2_settle_41 : decode cX2_settle 41 = .ok (.getfield 27, 3) := by decide +kernel
theorem dX2_settle_44 : decode cX2_settle 44 = .ok (.iconst 1, 1) := by decide +kernel
theorem dX2_settle_45 : decode cX2_settle 45 = .ok (.iadd, 1) := by decide +kernel
theorem dX2_settle_46 : decode cX2_settle 46 = .ok (.putfield 27, 3) := by decide +kernel
theorem dX2_settle_49 : decode cX2_settle 49 = .ok (.goto 13, 3) := by decide +kernel
theorem dX2_settle_52 : decode cX2_settle 52 = .ok (.aload_n 0, 1) := by decide +kernel
theorem dX2_settle_53 : decode cX2_settle 53 = .ok (.dup, 1) := by decide +kernel
theorem dX2_settle_54 : decode cX2_settle 54 = .ok (.getfield 30, 3) := by decide +kernel
theorem dX2_settle_57 : decode cX2_settle 57 = .ok (.iconst 1, 1) := by decide +kernel
theorem dX2_settle_58 : decode cX2_settle 58 = .ok (.iadd, 1) := by decide +kernel
theorem dX2_settle_59 : decode cX2_settle 59 = .ok (.putfield 30, 3) := by decide +kernel
theorem dX2_settle_62 : decode cX2_settle 62 = .ok (.return_, 1) := by decide +kernel
theorem dX3_has_0 : decode cX3_has 0 = .ok (.iload_n 0, 1) := by decide +kernel
theorem dX3_has_1 : decode cX3_has 1 = .ok (.iload_n 1, 1) := by decide +kernel
theorem dX3_has_2 : decode cX3_has 2 = .ok (.ishr, 1) := by decide +kernel
theorem dX3_has_3 : decode cX3_has 3 = .ok (.iconst 1, 1) := by decide +kernel
theorem dX3_has_4 : decode cX3_has 4 = .ok (.iand, 1) := by decide +kernel
theorem dX3_has_5 : decode cX3_has 5 = .ok (.iconst 1, 1) := by decide +kernel
theorem dX3_has_6 : decode cX3_has 6 = .ok (.if_icmp .ne 7, 3) := by decide +kernel
theorem dX3_has_9 : decode cX3_has 9 = .ok (.iconst 1, 1) := by decide +kernel
theorem dX3_has_10 : decode cX3_has 10 = .ok (.goto 4, 3) := by decide +kernel
theorem dX3_has_13 : decode cX3_has 13 = .ok (.iconst 0, 1) := by decide +kernel
theorem dX3_has_14 : decode cX3_has 14 = .ok (.ireturn, 1) := by decide +kernel
theorem dX3_isWithin_0 : decode cX3_isWithin 0 = .ok (.iload_n 0, 1) := by decide +kernel
theorem dX3_isWithin_1 : decode cX3_isWithin 1 = .ok (.iload_n 1, 1) := by decide +kernel
theorem dX3_isWithin_2 : decode cX3_isWithin 2 = .ok (.iconst (-1), 1) := by decide +kernel
theorem dX3_isWithin_3 : decode cX3_isWithin 3 = .ok (.ixor, 1) := by decide +kernel
theorem dX3_isWithin_4 : decode cX3_isWithin 4 = .ok (.iand, 1) := by decide +kernel
theorem dX3_isWithin_5 : decode cX3_isWithin 5 = .ok (.ifCond .ne 7, 3) := by decide +kernel
theorem dX3_isWithin_8 : decode cX3_isWithin 8 = .ok (.iconst 1, 1) := by decide +kernel
theorem dX3_isWithin_9 : decode cX3_isWithin 9 = .ok (.goto 4, 3) := by decide +kernel
theorem dX3_isWithin_12 : decode cX3_isWithin 12 = .ok (.iconst 0, 1) := by decide +kernel
theorem dX3_isWithin_13 : decode cX3_isWithin 13 = .ok (.ireturn, 1) := by decide +kernel
theorem dX3_sides_0 : decode cX3_sides 0 = .ok (.bipush 16, 2) := by decide +kernel
theorem dX3_sides_2 : decode cX3_sides 2 = .ok (.iconst 5, 1) := by decide +kernel
theorem dX3_sides_3 : decode cX3_sides 3 = .ok (.iload_n 0, 1) := by decide +kernel
theorem dX3_sides_4 : decode cX3_sides 4 = .ok (.iconst 4, 1) := by decide +kernel
theorem dX3_sides_5 : decode cX3_sides 5 = .ok (.idiv, 1) := by decide +kernel
theorem dX3_sides_6 : decode cX3_sides 6 = .ok (.imul, 1) := by decide +kernel
theorem dX3_sides_7 : decode cX3_sides 7 = .ok (.iadd, 1) := by decide +kernel
theorem dX3_sides_8 : decode cX3_sides 8 = .ok (.iload_n 0, 1) := by decide +kernel
theorem dX3_sides_9 : decode cX3_sides 9 = .ok (.iconst 4, 1) := by decide +kernel
theorem dX3_sides_10 : decode cX3_sides 10 = .ok (.irem, 1) := by decide +kernel
theorem dX3_sides_11 : decode cX3_sides 11 = .ok (.iadd, 1) := by decide +kernel
theorem dX3_sides_12 : decode cX3_sides 12 = .ok (.istore_n 1, 1) := by decide +kernel
theorem dX3_sides_13 : decode cX3_sides 13 = .ok (.iconst 1, 1) := by decide +kernel
theorem dX3_sides_14 : decode cX3_sides 14 = .ok (.iload_n 0, 1) := by decide +kernel
theorem dX3_sides_15 : decode cX3_sides 15 = .ok (.ishl, 1) := by decide +kernel
theorem dX3_sides_16 : decode cX3_sides 16 = .ok (.iconst 1, 1) := by decide +kernel
theorem dX3_sides_17 : decode cX3_sides 17 = .ok (.iload_n 0, 1) := by decide +kernel
theorem dX3_sides_18 : decode cX3_sides 18 = .ok (.iconst 4, 1) := by decide +kernel
theorem dX3_sides_19 : decode cX3_sides 19 = .ok (.iadd, 1) := by decide +kernel
theorem dX3_sides_20 : decode cX3_sides 20 = .ok (.ishl, 1) := by decide +kernel
theorem dX3_sides_21 : decode cX3_sides 21 = .ok (.ior, 1) := by decide +kernel
theorem dX3_sides_22 : decode cX3_sides 22 = .ok (.iconst 3, 1) := by decide +kernel
theorem dX3_sides_23 : decode cX3_sides 23 = .ok (.iload_n 1, 1) := by decide +kernel
theorem dX3_sides_24 : decode cX3_sides 24 = .ok (.ishl, 1) := by decide +kernel
theorem dX3_sides_25 : decode cX3_sides 25 = .ok (.ior, 1) := by decide +kernel
theorem dX3_sides_26 : decode cX3_sides 26 = .ok (.ireturn, 1) := by decide +kernel
theorem dX3_boxAhead_0 : decode cX3_boxAhead 0 = .ok (.iload_n 0, 1) := by decide +kernel
theorem dX3_boxAhead_1 : decode cX3_boxAhead 1 = .ok (.bipush 16, 2) := by decide +kernel
theorem dX3_boxAhead_3 : decode cX3_boxAhead 3 = .ok (.if_icmp .ge 16, 3) := by decide +kernel
theorem dX3_boxAhead_6 : decode cX3_boxAhead 6 = .ok (.iload_n 0, 1) := by decide +kernel
theorem dX3_boxAhead_7 : decode cX3_boxAhead 7 = .ok (.iconst 4, 1) := by decide +kernel
theorem dX3_boxAhead_8 : decode cX3_boxAhead 8 = .ok (.if_icmp .lt 9, 3) := by decide +kernel
theorem dX3_boxAhead_11 : decode cX3_boxAhead 11 = .ok (.iload_n 0, 1) := by decide +kernel
theorem dX3_boxAhead_12 : decode cX3_boxAhead 12 = .ok (.iconst 4, 1) := by decide +kernel
theorem dX3_boxAhead_13 : decode cX3_boxAhead 13 = .ok (.isub, 1) := by decide +kernel
theorem dX3_boxAhead_14 : decode cX3_boxAhead 14 = .ok (.goto 4, 3) := by decide +kernel
theorem dX3_boxAhead_17 : decode cX3_boxAhead 17 = .ok (.iconst (-1), 1) := by decide +kernel
theorem dX3_boxAhead_18 : decode cX3_boxAhead 18 = .ok (.ireturn, 1) := by decide +kernel
theorem dX3_boxAhead_19 : decode cX3_boxAhead 19 = .ok (.iload_n 0, 1) := by decide +kernel
theorem dX3_boxAhead_20 : decode cX3_boxAhead 20 = .ok (.bipush 16, 2) := by decide +kernel
theorem dX3_boxAhead_22 : decode cX3_boxAhead 22 = .ok (.isub, 1) := by decide +kernel
theorem dX3_boxAhead_23 : decode cX3_boxAhead 23 = .ok (.iconst 5, 1) := by decide +kernel
theorem dX3_boxAhead_24 : decode cX3_boxAhead 24 = .ok (.idiv, 1) := by decide +kernel
theorem dX3_boxAhead_25 : decode cX3_boxAhead 25 = .ok (.istore_n 1, 1) := by decide +kernel
theorem dX3_boxAhead_26 : decode cX3_boxAhead 26 = .ok (.iload_n 0, 1) := by decide +kernel
theorem dX3_boxAhead_27 : decode cX3_boxAhead 27 = .ok (.bipush 16, 2) := by decide +kernel
theorem dX3_boxAhead_29 : decode cX3_boxAhead 29 = .ok (.isub, 1) := by decide +kernel
theorem dX3_boxAhead_30 : decode cX3_boxAhead 30 = .ok (.iconst 5, 1) := by decide +kernel
theorem dX3_boxAhead_31 : decode cX3_boxAhead 31 = .ok (.irem, 1) := by decide +kernel
theorem dX3_boxAhead_32 : decode cX3_boxAhead 32 = .ok (.istore_n 2, 1) := by decide +kernel
theorem dX3_boxAhead_33 : decode cX3_boxAhead 33 = .ok (.iload_n 2, 1) := by decide +kernel
theorem dX3_boxAhead_34 : decode cX3_boxAhead 34 = .ok (.ifCond .le 13, 3) := by decide +kernel
theorem dX3_boxAhead_37 : decode cX3_boxAhead 37 = .ok (.iconst 4, 1) := by decide +kernel
theorem dX3_boxAhead_38 : decode cX3_boxAhead 38 = .ok (.iload_n 1, 1) := by decide +kernel
theorem dX3_boxAhead_39 : decode cX3_boxAhead 39 = .ok (.imul, 1) := by decide +kernel
theorem dX3_boxAhead_40 : decode cX3_boxAhead 40 = .ok (.iload_n 2, 1) := by decide +kernel
theorem dX3_boxAhead_41 : decode cX3_boxAhead 41 = .ok (.iadd, 1) := by decide +kernel
theorem dX3_boxAhead_42 : decode cX3_boxAhead 42 = .ok (.iconst 1, 1) := by decide +kernel
theorem dX3_boxAhead_43 : decode cX3_boxAhead 43 = .ok (.isub, 1) := by decide +kernel
theorem dX3_boxAhead_44 : decode cX3_boxAhead 44 = .ok (.goto 4, 3) := by decide +kernel
theorem dX3_boxAhead_47 : decode cX3_boxAhead 47 = .ok (.iconst (-1), 1) := by decide +kernel
theorem dX3_boxAhead_48 : decode cX3_boxAhead 48 = .ok (.ireturn, 1) := by decide +kernel
theorem dX3_boxBehind_0 : decode cX3_boxBehind 0 = .ok (.iload_n 0, 1) := by decide +kernel
theorem dX3_boxBehind_1 : decode cX3_boxBehind 1 = .ok (.bipush 16, 2) := by decide +kernel
theorem dX3_boxBehind_3 : decode cX3_boxBehind 3 = .ok (.if_icmp .ge 15, 3) := by decide +kernel
theorem dX3_boxBehind_6 : decode cX3_boxBehind 6 = .ok (.iload_n 0, 1) := by decide +kernel
theorem dX3_boxBehind_7 : decode cX3_boxBehind 7 = .ok (.bipush 12, 2) := by decide +kernel
theorem dX3_boxBehind_9 : decode cX3_boxBehind 9 = .ok (.if_icmp .ge 7, 3) := by decide +kernel
theorem dX3_boxBehind_12 : decode cX3_boxBehind 12 = .ok (.iload_n 0, 1) := by decide +kernel
theorem dX3_boxBehind_13 : decode cX3_boxBehind 13 = .ok (.goto 4, 3) := by decide +kernel
theorem dX3_boxBehind_16 : decode cX3_boxBehind 16 = .ok (.iconst (-1), 1) := by decide +kernel
theorem dX3_boxBehind_17 : decode cX3_boxBehind 17 = .ok (.ireturn, 1) := by decide +kernel
theorem dX3_boxBehind_18 : decode cX3_boxBehind 18 = .ok (.iload_n 0, 1) := by decide +kernel
theorem dX3_boxBehind_19 : decode cX3_boxBehind 19 = .ok (.bipush 16, 2) := by decide +kernel
theorem dX3_boxBehind_21 : decode cX3_boxBehind 21 = .ok (.isub, 1) := by decide +kernel
theorem dX3_boxBehind_22 : decode cX3_boxBehind 22 = .ok (.iconst 5, 1) := by decide +kernel
theorem dX3_boxBehind_23 : decode cX3_boxBehind 23 = .ok (.idiv, 1) := by decide +kernel
theorem dX3_boxBehind_24 : decode cX3_boxBehind 24 = .ok (.istore_n 1, 1) := by decide +kernel
theorem dX3_boxBehind_25 : decode cX3_boxBehind 25 = .ok (.iload_n 0, 1) := by decide +kernel
theorem dX3_boxBehind_26 : decode cX3_boxBehind 26 = .ok (.bipush 16, 2) := by decide +kernel
theorem dX3_boxBehind_28 : decode cX3_boxBehind 28 = .ok (.isub, 1) := by decide +kernel
theorem dX3_boxBehind_29 : decode cX3_boxBehind 29 = .ok (.iconst 5, 1) := by decide +kernel
theorem dX3_boxBehind_30 : decode cX3_boxBehind 30 = .ok (.irem, 1) := by decide +kernel
theorem dX3_boxBehind_31 : decode cX3_boxBehind 31 = .ok (.istore_n 2, 1) := by decide +kernel
theorem dX3_boxBehind_32 : decode cX3_boxBehind 32 = .ok (.iload_n 2, 1) := by decide +kernel
theorem dX3_boxBehind_33 : decode cX3_boxBehind 33 = .ok (.iconst 4, 1) := by decide +kernel
theorem dX3_boxBehind_34 : decode cX3_boxBehind 34 = .ok (.if_icmp .ge 11, 3) := by decide +kernel
theorem dX3_boxBehind_37 : decode cX3_boxBehind 37 = .ok (.iconst 4, 1) := by decide +kernel
theorem dX3_boxBehind_38 : decode cX3_boxBehind 38 = .ok (.iload_n 1, 1) := by decide +kernel
theorem dX3_boxBehind_39 : decode cX3_boxBehind 39 = .ok (.imul, 1) := by decide +kernel
theorem dX3_boxBehind_40 : decode cX3_boxBehind 40 = .ok (.iload_n 2, 1) := by decide +kernel
theorem dX3_boxBehind_41 : decode cX3_boxBehind 41 = .ok (.iadd, 1) := by decide +kernel
theorem dX3_boxBehind_42 : decode cX3_boxBehind 42 = .ok (.goto 4, 3) := by decide +kernel
theorem dX3_boxBehind_45 : decode cX3_boxBehind 45 = .ok (.iconst (-1), 1) := by decide +kernel
theorem dX3_boxBehind_46 : decode cX3_boxBehind 46 = .ok (.ireturn, 1) := by decide +kernel
set_option maxRecDepth 20000 in
theorem ggX3_boxesBeside_X3_boxAhead : GoodIn wsX3_boxesBeside wsX3_boxAhead := goodIn_r _ [4] (by decide +kernel) (by decide +kernel)
set_option maxRecDepth 20000 in
theorem gX3_boxesBeside_X3_boxAhead : GoodIn wsX3_boxesBeside (va_wsS RX3 9 yX3_boxAhead wsX3_boxAhead) := goodIn_app (goodIn_of _ (by decide +kernel)) ggX3_boxesBeside_X3_boxAhead
set_option maxRecDepth 20000 in
theorem ggX3_boxesBeside_X3_boxBehind : GoodIn wsX3_boxesBeside wsX3_boxBehind := goodIn_r _ [7] (by decide +kernel) (by decide +kernel)
set_option maxRecDepth 20000 in
theorem gX3_boxesBeside_X3_boxBehind : GoodIn wsX3_boxesBeside (va_wsS RX3 15 yX3_boxBehind wsX3_boxBehind) := goodIn_app (goodIn_of _ (by decide +kernel)) ggX3_boxesBeside_X3_boxBehind
theorem dX3_boxesBeside_0 : decode cX3_boxesBeside 0 = .ok (.iload_n 0, 1) := by decide +kernel
theorem dX3_boxesBeside_1 : decode cX3_boxesBeside 1 = .ok (.invokestatic 9, 3) := by decide +kernel
theorem dX3_boxesBeside_4 : decode cX3_boxesBeside 4 = .ok (.istore_n 1, 1) := by decide +kernel
theorem dX3_boxesBeside_5 : decode cX3_boxesBeside 5 = .ok (.iload_n 0, 1) := by decide +kernel
theorem dX3_boxesBeside_6 : decode cX3_boxesBeside 6 = .ok (.invokestatic 15, 3) := by decide +kernel
theorem dX3_boxesBeside_9 : decode cX3_boxesBeside 9 = .ok (.istore_n 2, 1) := by decide +kernel
theorem dX3_boxesBeside_10 : decode cX3_boxesBeside 10 = .ok (.iload_n 1, 1) := by decide +kernel
theorem dX3_boxesBeside_11 : decode cX3_boxesBeside 11 = .ok (.iconst (-1), 1) := by decide +kernel
theorem dX3_boxesBeside_12 : decode cX3_boxesBeside 12 = .ok (.if_icmp .ne 7, 3) := by decide +kernel
theorem dX3_boxesBeside_15 : decode cX3_boxesBeside 15 = .ok (.iconst 0, 1) := by decide +kernel
theorem dX3_boxesBeside_16 : decode cX3_boxesBeside 16 = .ok (.goto 6, 3) := by decide +kernel
theorem dX3_boxesBeside_19 : decode cX3_boxesBeside 19 = .ok (.iconst 1, 1) := by decide +kernel
theorem dX3_boxesBeside_20 : decode cX3_boxesBeside 20 = .ok (.iload_n 1, 1) := by decide +kernel
theorem dX3_boxesBeside_21 : decode cX3_boxesBeside 21 = .ok (.ishl, 1) := by decide +kernel
theorem dX3_boxesBeside_22 : decode cX3_boxesBeside 22 = .ok (.istore_n 3, 1) := by decide +kernel
theorem dX3_boxesBeside_23 : decode cX3_boxesBeside 23 = .ok (.iload_n 2, 1) := by decide +kernel
theorem dX3_boxesBeside_24 : decode cX3_boxesBeside 24 = .ok (.iconst (-1), 1) := by decide +kernel
theorem dX3_boxesBeside_25 : decode cX3_boxesBeside 25 = .ok (.if_icmp .ne 7, 3) := by decide +kernel
theorem dX3_boxesBeside_28 : decode cX3_boxesBeside 28 = .ok (.iload_n 3, 1) := by decide +kernel
theorem dX3_boxesBeside_29 : decode cX3_boxesBeside 29 = .ok (.goto 8, 3) := by decide +kernel
theorem dX3_boxesBeside_32 : decode cX3_boxesBeside 32 = .ok (.iload_n 3, 1) := by decide +kernel
theorem dX3_boxesBeside_33 : decode cX3_boxesBeside 33 = .ok (.iconst 1, 1) := by decide +kernel
theorem dX3_boxesBeside_34 : decode cX3_boxesBeside 34 = .ok (.iload_n 2, 1) := by decide +kernel
theorem dX3_boxesBeside_35 : decode cX3_boxesBeside 35 = .ok (.ishl, 1) := by decide +kernel
theorem dX3_boxesBeside_36 : decode cX3_boxesBeside 36 = .ok (.ior, 1) := by decide +kernel
theorem dX3_boxesBeside_37 : decode cX3_boxesBeside 37 = .ok (.ireturn, 1) := by decide +kernel
set_option maxRecDepth 20000 in
theorem ggX3_countSides_X3_sides : GoodIn wsX3_countSides wsX3_sides := goodIn_r _ [4] (by decide +kernel) (by decide +kernel)
set_option maxRecDepth 20000 in
theorem gX3_countSides_X3_sides : GoodIn wsX3_countSides (va_wsS RX3 18 yX3_sides wsX3_sides) := goodIn_app (goodIn_of _ (by decide +kernel)) ggX3_countSides_X3_sides
set_option maxRecDepth 20000 in
theorem ggX3_countSides_J6_bitCount_0f7a4 : GoodIn wsX3_countSides wsJ6_bitCount_0f7a4 := goodIn_r _ [8, 9, 10, 11] (by decide +kernel) (by decide +kernel)
set_option maxRecDepth 20000 in
theorem gX3_countSides_J6_bitCount_0f7a4 : GoodIn wsX3_countSides (va_wsS RX3 21 yJ6_bitCount_0f7a4 wsJ6_bitCount_0f7a4) := goodIn_app (goodIn_of _ (by decide +kernel)) ggX3_countSides_J6_bitCount_0f7a4
theorem dX3_countSides_0 : decode cX3_countSides 0 = .ok (.iload_n 0, 1) := by decide +kernel
theorem dX3_countSides_1 : decode cX3_countSides 1 = .ok (.iload_n 1, 1) := by decide +kernel
theorem dX3_countSides_2 : decode cX3_countSides 2 = .ok (.invokestatic 18, 3) := by decide +kernel
theorem dX3_countSides_5 : decode cX3_countSides 5 = .ok (.iand, 1) := by decide +kernel
theorem dX3_countSides_6 : decode cX3_countSides 6 = .ok (.invokestatic 21, 3) := by decide +kernel
theorem dX3_countSides_9 : decode cX3_countSides 9 = .ok (.ireturn, 1) := by decide +kernel
set_option maxRecDepth 20000 in
theorem ggX3_isClosed_X3_sides : GoodIn wsX3_isClosed wsX3_sides := goodIn_r _ [4] (by decide +kernel) (by decide +kernel)
set_option maxRecDepth 20000 in
theorem gX3_isClosed_X3_sides : GoodIn wsX3_isClosed (va_wsS RX3 18 yX3_sides wsX3_sides) := goodIn_app (goodIn_of _ (by decide +kernel)) ggX3_isClosed_X3_sides
set_option maxRecDepth 20000 in
theorem ggX3_isClosed_X3_isWithin : GoodIn wsX3_isClosed wsX3_isWithin := goodIn_r _ [7] (by decide +kernel) (by decide +kernel)
set_option maxRecDepth 20000 in
theorem gX3_isClosed_X3_isWithin : GoodIn wsX3_isClosed (va_wsS RX3 26 yX3_isWithin wsX3_isWithin) := goodIn_app (goodIn_of _ (by decide +kernel)) ggX3_isClosed_X3_isWithin
theorem dX3_isClosed_0 : decode cX3_isClosed 0 = .ok (.iload_n 1, 1) := by decide +kernel
theorem dX3_isClosed_1 : decode cX3_isClosed 1 = .ok (.iconst (-1), 1) := by decide +kernel
theorem dX3_isClosed_2 : decode cX3_isClosed 2 = .ok (.if_icmp .eq 18, 3) := by decide +kernel
theorem dX3_isClosed_5 : decode cX3_isClosed 5 = .ok (.iload_n 1, 1) := by decide +kernel
theorem dX3_isClosed_6 : decode cX3_isClosed 6 = .ok (.invokestatic 18, 3) := by decide +kernel
theorem dX3_isClosed_9 : decode cX3_isClosed 9 = .ok (.iload_n 0, 1) := by decide +kernel
theorem dX3_isClosed_10 : decode cX3_isClosed 10 = .ok (.invokestatic 26, 3) := by decide +kernel
theorem dX3_isClosed_13 : decode cX3_isClosed 13 = .ok (.ifCond .eq 7, 3) := by decide +kernel
theorem dX3_isClosed_16 : decode cX3_isClosed 16 = .ok (.iconst 1, 1) := by decide +kernel
theorem dX3_isClosed_17 : decode cX3_isClosed 17 = .ok (.goto 4, 3) := by decide +kernel
theorem dX3_isClosed_20 : decode cX3_isClosed 20 = .ok (.iconst 0, 1) := by decide +kernel
theorem dX3_isClosed_21 : decode cX3_isClosed 21 = .ok (.ireturn, 1) := by decide +kernel
set_option maxRecDepth 20000 in
theorem ggX3_boxesHaving_X3_countSides : GoodIn wsX3_boxesHaving wsX3_countSides := goodIn_r _ [4, 5, 6, 3, 7, 8, 9, 10, 11, 12, 13, 14] (by decide +kernel) (by decide +kernel)
set_option maxRecDepth 20000 in
theorem gX3_boxesHaving_X3_countSides : GoodIn wsX3_boxesHaving (va_wsS RX3 30 yX3_countSides wsX3_countSides) := goodIn_app (goodIn_of _ (by decide +kernel)) ggX3_boxesHaving_X3_countSides
theorem dX3_boxesHaving_0 : decode cX3_boxesHaving 0 = .ok (.iconst 0, 1) := by decide +kernel
theorem dX3_boxesHaving_1 : decode cX3_boxesHaving 1 = .ok (.istore_n 2, 1) := by decide +kernel
theorem dX3_boxesHaving_2 : decode cX3_boxesHaving 2 = .ok (.iconst 0, 1) := by decide +kernel
theorem dX3_boxesHaving_3 : decode cX3_boxesHaving 3 = .ok (.istore_n 3, 1) := by decide +kernel
theorem dX3_boxesHaving_4 : decode cX3_boxesHaving 4 = .ok (.iload_n 3, 1) := by decide +kernel
theorem dX3_boxesHaving_5 : decode cX3_boxesHaving 5 = .ok (.bipush 12, 2) := by decide +kernel
theorem dX3_boxesHaving_7 : decode cX3_boxesHaving 7 = .ok (.if_icmp .ge 24, 3) := by decide +kernel
theorem dX3_boxesHaving_10 : decode cX3_boxesHaving 10 = .ok (.iload_n 0, 1) := by decide +kernel
theorem dX3_boxesHaving_11 : decode cX3_boxesHaving 11 = .ok (.iload_n 3, 1) := by decide +kernel
theorem dX3_boxesHaving_12 : decode cX3_boxesHaving 12 = .ok (.invokestatic 30, 3) := by decide +kernel
theorem dX3_boxesHaving_15 : decode cX3_boxesHaving 15 = .ok (.iload_n 1, 1) := by decide +kernel
theorem dX3_boxesHaving_16 : decode cX3_boxesHaving 16 = .ok (.if_icmp .ne 9, 3) := by decide +kernel
theorem dX3_boxesHaving_19 : decode cX3_boxesHaving 19 = .ok (.iload_n 2, 1) := by decide +kernel
theorem dX3_boxesHaving_20 : decode cX3_boxesHaving 20 = .ok (.iconst 1, 1) := by decide +kernel
theorem dX3_boxesHaving_21 : decode cX3_boxesHaving 21 = .ok (.iload_n 3, 1) := by decide +kernel
theorem dX3_boxesHaving_22 : decode cX3_boxesHaving 22 = .ok (.ishl, 1) := by decide +kernel
theorem dX3_boxesHaving_23 : decode cX3_boxesHaving 23 = .ok (.ior, 1) := by decide +kernel
theorem dX3_boxesHaving_24 : decode cX3_boxesHaving 24 = .ok (.istore_n 2, 1) := by decide +kernel
theorem dX3_boxesHaving_25 : decode cX3_boxesHaving 25 = .ok (.iinc 3 1, 3) := by decide +kernel
theorem dX3_boxesHaving_28 : decode cX3_boxesHaving 28 = .ok (.goto (-24), 3) := by decide +kernel
theorem dX3_boxesHaving_31 : decode cX3_boxesHaving 31 = .ok (.iload_n 2, 1) := by decide +kernel
theorem dX3_boxesHaving_32 : decode cX3_boxesHaving 32 = .ok (.ireturn, 1) := by decide +kernel
set_option maxRecDepth 20000 in
theorem ggX3_closedWith_X3_boxAhead : GoodIn wsX3_closedWith wsX3_boxAhead := goodIn_r _ [4] (by decide +kernel) (by decide +kernel)
set_option maxRecDepth 20000 in
theorem gX3_closedWith_X3_boxAhead : GoodIn wsX3_closedWith (va_wsS RX3 9 yX3_boxAhead wsX3_boxAhead) := goodIn_app (goodIn_of _ (by decide +kernel)) ggX3_closedWith_X3_boxAhead
set_option maxRecDepth 20000 in
theorem ggX3_closedWith_X3_boxBehind : GoodIn wsX3_closedWith wsX3_boxBehind := goodIn_r _ [7] (by decide +kernel) (by decide +kernel)
set_option maxRecDepth 20000 in
theorem gX3_closedWith_X3_boxBehind : GoodIn wsX3_closedWith (va_wsS RX3 15 yX3_boxBehind wsX3_boxBehind) := goodIn_app (goodIn_of _ (by decide +kernel)) ggX3_closedWith_X3_boxBehind
set_option maxRecDepth 20000 in
theorem ggX3_closedWith_X3_isClosed : GoodIn wsX3_closedWith wsX3_isClosed := goodIn_r _ [10, 11, 12, 3, 13, 14, 15, 16] (by decide +kernel) (by decide +kernel)
set_option maxRecDepth 20000 in
theorem gX3_closedWith_X3_isClosed : GoodIn wsX3_closedWith (va_wsS RX3 34 yX3_isClosed wsX3_isClosed) := goodIn_app (goodIn_of _ (by decide +kernel)) ggX3_closedWith_X3_isClosed
theorem dX3_closedWith_0 : decode cX3_closedWith 0 = .ok (.iload_n 1, 1) := by decide +kernel
theorem dX3_closedWith_1 : decode cX3_closedWith 1 = .ok (.invokestatic 9, 3) := by decide +kernel
theorem dX3_closedWith_4 : decode cX3_closedWith 4 = .ok (.istore_n 2, 1) := by decide +kernel
theorem dX3_closedWith_5 : decode cX3_closedWith 5 = .ok (.iload_n 1, 1) := by decide +kernel
theorem dX3_closedWith_6 : decode cX3_closedWith 6 = .ok (.invokestatic 15, 3) := by decide +kernel
theorem dX3_closedWith_9 : decode cX3_closedWith 9 = .ok (.istore_n 3, 1) := by decide +kernel
theorem dX3_closedWith_10 : decode cX3_closedWith 10 = .ok (.iload_n 0, 1) := by decide +kernel
theorem dX3_closedWith_11 : decode cX3_closedWith 11 = .ok (.iload_n 2, 1) := by decide +kernel
theorem dX3_closedWith_12 : decode cX3_closedWith 12 = .ok (.invokestatic 34, 3) := by decide +kernel
theorem dX3_closedWith_15 : decode cX3_closedWith 15 = .ok (.ifCond .eq 9, 3) := by decide +kernel
theorem dX3_closedWith_18 : decode cX3_closedWith 18 = .ok (.iconst 1, 1) := by decide +kernel
theorem dX3_closedWith_19 : decode cX3_closedWith 19 = .ok (.iload_n 2, 1) := by decide +kernel
theorem dX3_closedWith_20 : decode cX3_closedWith 20 = .ok (.ishl, 1) := by decide +kernel
theorem dX3_closedWith_21 : decode cX3_closedWith 21 = .ok (.goto 4, 3) := by decide +kernel
theorem dX3_closedWith_24 : decode cX3_closedWith 24 = .ok (.iconst 0, 1) := by decide +kernel
theorem dX3_closedWith_25 : decode cX3_closedWith 25 = .ok (.istore 4, 2) := by decide +kernel
theorem dX3_closedWith_27 : decode cX3_closedWith 27 = .ok (.iload_n 0, 1) := by decide +kernel
theorem dX3_closedWith_28 : decode cX3_closedWith 28 = .ok (.iload_n 3, 1) := by decide +kernel
theorem dX3_closedWith_29 : decode cX3_closedWith 29 = .ok (.invokestatic 34, 3) := by decide +kernel
theorem dX3_closedWith_32 : decode cX3_closedWith 32 = .ok (.ifCond .eq 12, 3) := by decide +kernel
theorem dX3_closedWith_35 : decode cX3_closedWith 35 = .ok (.iload 4, 2) := by decide +kernel
theorem dX3_closedWith_37 : decode cX3_closedWith 37 = .ok (.iconst 1, 1) := by decide +kernel
theorem dX3_closedWith_38 : decode cX3_closedWith 38 = .ok (.iload_n 3, 1) := by decide +kernel
theorem dX3_closedWith_39 : decode cX3_closedWith 39 = .ok (.ishl, 1) := by decide +kernel
theorem dX3_closedWith_40 : decode cX3_closedWith 40 = .ok (.ior, 1) := by decide +kernel
theorem dX3_closedWith_41 : decode cX3_closedWith 41 = .ok (.goto 5, 3) := by decide +kernel
theorem dX3_closedWith_44 : decode cX3_closedWith 44 = .ok (.iload 4, 2) := by decide +kernel
theorem dX3_closedWith_46 : decode cX3_closedWith 46 = .ok (.ireturn, 1) := by decide +kernel
set_option maxRecDepth 20000 in
theorem ggX3_lowestFence_X3_has : GoodIn wsX3_lowestFence wsX3_has := goodIn_r _ [4] (by decide +kernel) (by decide +kernel)
set_option maxRecDepth 20000 in
theorem gX3_lowestFence_X3_has : GoodIn wsX3_lowestFence (va_wsS RX3 37 yX3_has wsX3_has) := goodIn_app (goodIn_of _ (by decide +kernel)) ggX3_lowestFence_X3_has
theorem dX3_lowestFence_0 : decode cX3_lowestFence 0 = .ok (.iconst 0, 1) := by decide +kernel
theorem dX3_lowestFence_1 : decode cX3_lowestFence 1 = .ok (.istore_n 1, 1) := by decide +kernel
theorem dX3_lowestFence_2 : decode cX3_lowestFence 2 = .ok (.iload_n 1, 1) := by decide +kernel
theorem dX3_lowestFence_3 : decode cX3_lowestFence 3 = .ok (.bipush 31, 2) := by decide +kernel
theorem dX3_lowestFence_5 : decode cX3_lowestFence 5 = .ok (.if_icmp .ge 19, 3) := by decide +kernel
theorem dX3_lowestFence_8 : decode cX3_lowestFence 8 = .ok (.iload_n 0, 1) := by decide +kernel
theorem dX3_lowestFence_9 : decode cX3_lowestFence 9 = .ok (.iload_n 1, 1) := by decide +kernel
theorem dX3_lowestFence_10 : decode cX3_lowestFence 10 = .ok (.invokestatic 37, 3) := by decide +kernel
theorem dX3_lowestFence_13 : decode cX3_lowestFence 13 = .ok (.ifCond .eq 5, 3) := by decide +kernel
theorem dX3_lowestFence_16 : decode cX3_lowestFence 16 = .ok (.iload_n 1, 1) := by decide +kernel
theorem dX3_lowestFence_17 : decode cX3_lowestFence 17 = .ok (.ireturn, 1) := by decide +kernel
theorem dX3_lowestFence_18 : decode cX3_lowestFence 18 = .ok (.iinc 1 1, 3) := by decide +kernel
theorem dX3_lowestFence_21 : decode cX3_lowestFence 21 = .ok (.goto (-19), 3) := by decide +kernel
theorem dX3_lowestFence_24 : decode cX3_lowestFence 24 = .ok (.iconst (-1), 1) := by decide +kernel
theorem dX3_lowestFence_25 : decode cX3_lowestFence 25 = .ok (.ireturn, 1) := by decide +kernel
set_option maxRecDepth 20000 in
theorem ggX4_init_X2_init : GoodIn wsX4_init wsX2_init := goodIn_r _ [9, 10, 2, 3] (by decide +kernel) (by decide +kernel)
set_option maxRecDepth 20000 in
theorem gX4_init_X2_init_n17 : GoodIn wsX4_init (wsX2_init) := ggX4_init_X2_init
theorem dX4_init_0 : decode cX4_init 0 = .ok (.aload_n 0, 1) := by decide +kernel
theorem dX4_init_1 : decode cX4_init 1 = .ok (.invokespecial 3, 3) := by decide +kernel
theorem dX4_init_4 : decode cX4_init 4 = .ok (.aload_n 0, 1) := by decide +kernel
theorem dX4_init_5 : decode cX4_init 5 = .ok (.iconst 4, 1) := by decide +kernel
theorem dX4_init_6 : decode cX4_init 6 = .ok (.anewarray 9, 3) := by decide +kernel
theorem dX4_init_9 : decode cX4_init 9 = .ok (.putfield 11, 3) := by decide +kernel
theorem dX4_init_12 : decode cX4_init 12 = .ok (.iconst 0, 1) := by decide +kernel
theorem dX4_init_13 : decode cX4_init 13 = .ok (.istore_n 1, 1) := by decide +kernel
theorem dX4_init_14 : decode cX4_init 14 = .ok (.iload_n 1, 1) := by decide +kernel
theorem dX4_init_15 : decode cX4_init 15 = .ok (.iconst 4, 1) := by decide +kernel
theorem dX4_init_16 : decode cX4_init 16 = .ok (.if_icmp .ge 22, 3) := by decide +kernel
theorem dX4_init_19 : decode cX4_init 19 = .ok (.aload_n 0, 1) := by decide +kernel
theorem dX4_init_20 : decode cX4_init 20 = .ok (.getfield 11, 3) := by decide +kernel
theorem dX4_init_23 : decode cX4_init 23 = .ok (.iload_n 1, 1) := by decide +kernel
theorem dX4_init_24 : decode cX4_init 24 = .ok (.new 9, 3) := by decide +kernel
theorem dX4_init_27 : decode cX4_init 27 = .ok (.dup, 1) := by decide +kernel
theorem dX4_init_28 : decode cX4_init 28 = .ok (.invokespecial 17, 3) := by decide +kernel
theorem dX4_init_31 : decode cX4_init 31 = .ok (.aastore, 1) := by decide +kernel
theorem dX4_init_32 : decode cX4_init 32 = .ok (.iinc 1 1, 3) := by decide +kernel
theorem dX4_init_35 : decode cX4_init 35 = .ok (.goto (-21), 3) := by decide +kernel
theorem dX4_init_38 : decode cX4_init 38 = .ok (.return_, 1) := by decide +kernel
set_option maxRecDepth 20000 in
theorem ggX4_record_X4_dropOldest : GoodIn wsX4_record wsX4_dropOldest := goodIn_r _ [7, 2, 1, 21, 22] (by decide +kernel) (by decide +kernel)
set_option maxRecDepth 20000 in
theorem gX4_record_X4_dropOldest : GoodIn wsX4_record (wsV RX4 22 RX4 yX4_dropOldest wsX4_dropOldest) := goodIn_app (goodIn_of _ (by decide +kernel)) ggX4_record_X4_dropOldest
set_option maxRecDepth 20000 in
theorem ggX4_record_X2_copyFrom : GoodIn wsX4_record wsX2_copyFrom := goodIn_r _ [12, 13, 14, 15, 16, 17, 18, 19, 20, 23, 24, 25, 26, 27, 28, 29, 30] (by decide +kernel) (by decide +kernel)
set_option maxRecDepth 20000 in
theorem gX4_record_X2_copyFrom : GoodIn wsX4_record (wsV RX4 25 RX2 yX2_copyFrom wsX2_copyFrom) := goodIn_app (goodIn_of _ (by decide +kernel)) ggX4_record_X2_copyFrom
theorem dX4_record_0 : decode cX4_record 0 = .ok (.aload_n 0, 1) := by decide +kernel
theorem dX4_record_1 : decode cX4_record 1 = .ok (.getfield 18, 3) := by decide +kernel
theorem dX4_record_4 : decode cX4_record 4 = .ok (.iconst 4, 1) := by decide +kernel
theorem dX4_record_5 : decode cX4_record 5 = .ok (.if_icmp .ne 7, 3) := by decide +kernel
theorem dX4_record_8 : decode cX4_record 8 = .ok (.aload_n 0, 1) := by decide +kernel
theorem dX4_record_9 : decode cX4_record 9 = .ok (.invokevirtual 22, 3) := by decide +kernel
theorem dX4_record_12 : decode cX4_record 12 = .ok (.aload_n 0, 1) := by decide +kernel
theorem dX4_record_13 : decode cX4_record 13 = .ok (.getfield 11, 3) := by decide +kernel
theorem dX4_record_16 : decode cX4_record 16 = .ok (.aload_n 0, 1) := by decide +kernel
theorem dX4_record_17 : decode cX4_record 17 = .ok (.getfield 18, 3) := by decide +kernel
theorem dX4_record_20 : decode cX4_record 20 = .ok (.aaload, 1) := by decide +kernel
theorem dX4_record_21 : decode cX4_record 21 = .ok (.aload_n 1, 1) := by decide +kernel
theorem dX4_record_22 : decode cX4_record 22 = .ok (.invokevirtual 25, 3) := by decide +kernel
theorem dX4_record_25 : decode cX4_record 25 = .ok (.aload_n 0, 1) := by decide +kernel
theorem dX4_record_26 : decode cX4_record 26 = .ok (.dup, 1) := by decide +kernel
theorem dX4_record_27 : decode cX4_record 27 = .ok (.getfield 18, 3) := by decide +kernel
theorem dX4_record_30 : decode cX4_record 30 = .ok (.iconst 1, 1) := by decide +kernel
theorem dX4_record_31 : decode cX4_record 31 = .ok (.iadd, 1) := by decide +kernel
theorem dX4_record_32 : decode cX4_record 32 = .ok (.putfield 18, 3) := by decide +kernel
theorem dX4_record_35 : decode cX4_record 35 = .ok (.return_, 1) := by decide +kernel
theorem dX4_dropOldest_0 : decode cX4_dropOldest 0 = .ok (.aload_n 0, 1) := by decide +kernel
theorem dX4_dropOldest_1 : decode cX4_dropOldest 1 = .ok (.getfield 11, 3) := by decide +kernel
theorem dX4_dropOldest_4 : decode cX4_dropOldest 4 = .ok (.iconst 0, 1) := by decide +kernel
theorem dX4_dropOldest_5 : decode cX4_dropOldest 5 = .ok (.aaload, 1) := by decide +kernel
theorem dX4_dropOldest_6 : decode cX4_dropOldest 6 = .ok (.astore_n 1, 1) := by decide +kernel
theorem dX4_dropOldest_7 : decode cX4_dropOldest 7 = .ok (.iconst 1, 1) := by decide +kernel
theorem dX4_dropOldest_8 : decode cX4_dropOldest 8 = .ok (.istore_n 2, 1) := by decide +kernel
theorem dX4_dropOldest_9 : decode cX4_dropOldest 9 = .ok (.iload_n 2, 1) := by decide +kernel
theorem dX4_dropOldest_10 : decode cX4_dropOldest 10 = .ok (.iconst 4, 1) := by decide +kernel
theorem dX4_dropOldest_11 : decode cX4_dropOldest 11 = .ok (.if_icmp .ge 23, 3) := by decide +kernel
theorem dX4_dropOldest_14 : decode cX4_dropOldest 14 = .ok (.aload_n 0, 1) := by decide +kernel
theorem dX4_dropOldest_15 : decode cX4_dropOldest 15 = .ok (.getfield 11, 3) := by decide +kernel
theorem dX4_dropOldest_18 : decode cX4_dropOldest 18 = .ok (.iload_n 2, 1) := by decide +kernel
theorem dX4_dropOldest_19 : decode cX4_dropOldest 19 = .ok (.iconst 1, 1) := by decide +kernel
theorem dX4_dropOldest_20 : decode cX4_dropOldest 20 = .ok (.isub, 1) := by decide +kernel
theorem dX4_dropOldest_21 : decode cX4_dropOldest 21 = .ok (.aload_n 0, 1) := by decide +kernel
theorem dX4_dropOldest_22 : decode cX4_dropOldest 22 = .ok (.getfield 11, 3) := by decide +kernel
theorem dX4_dropOldest_25 : decode cX4_dropOldest 25 = .ok (.iload_n 2, 1) := by decide +kernel
theorem dX4_dropOldest_26 : decode cX4_dropOldest 26 = .ok (.aaload, 1) := by decide +kernel
theorem dX4_dropOldest_27 : decode cX4_dropOldest 27 = .ok (.aastore, 1) := by decide +kernel
theorem dX4_dropOldest_28 : decode cX4_dropOldest 28 = .ok (.iinc 2 1, 3) := by decide +kernel
theorem dX4_dropOldest_31 : decode cX4_dropOldest 31 = .ok (.goto (-22), 3) := by decide +kernel
theorem dX4_dropOldest_34 : decode cX4_dropOldest 34 = .ok (.aload_n 0, 1) := by decide +kernel
theorem dX4_dropOldest_35 : decode cX4_dropOldest 35 = .ok (.getfield 11, 3) := by decide +kernel
theorem dX4_dropOldest_38 : decode cX4_dropOldest 38 = .ok (.iconst 3, 1) := by decide +kernel
theorem dX4_dropOldest_39 : decode cX4_dropOldest 39 = .ok (.aload_n 1, 1) := by decide +kernel
theorem dX4_dropOldest_40 : decode cX4_dropOldest 40 = .ok (.aastore, 1) := by decide +kernel
theorem dX4_dropOldest_41 : decode cX4_dropOldest 41 = .ok (.aload_n 0, 1) := by decide +kernel
theorem dX4_dropOldest_42 : decode cX4_dropOldest 42 = .ok (.dup, 1) := by decide +kernel
theorem dX4_dropOldest_43 : decode cX4_dropOldest 43 = .ok (.getfield 18, 3) := by decide +kernel
theorem dX4_dropOldest_46 : decode cX4_dropOldest 46 = .ok (.iconst 1, 1) := by decide +kernel
theorem dX4_dropOldest_47 : decode cX4_dropOldest 47 = .ok (.isub, 1) := by decide +kernel
theorem dX4_dropOldest_48 : decode cX4_dropOldest 48 = .ok (.putfield 18, 3) := by decide +kernel
theorem dX4_dropOldest_51 : decode cX4_dropOldest 51 = .ok (.return_, 1) := by decide +kernel
set_option maxRecDepth 20000 in
theorem ggX5_init_X2_init : GoodIn wsX5_init wsX2_init := goodIn_r _ [11, 12, 2, 3] (by decide +kernel) (by decide +kernel)
set_option maxRecDepth 20000 in
theorem gX5_init_X2_init_n17 : GoodIn wsX5_init (wsX2_init) := ggX5_init_X2_init
theorem dX5_init_0 : decode cX5_init 0 = .ok (.aload_n 0, 1) := by decide +kernel
theorem dX5_init_1 : decode cX5_init 1 = .ok (.invokespecial 3, 3) := by decide +kernel
theorem dX5_init_4 : decode cX5_init 4 = .ok (.aload_n 0, 1) := by decide +kernel
theorem dX5_init_5 : decode cX5_init 5 = .ok (.bipush 60, 2) := by decide +kernel
theorem dX5_init_7 : decode cX5_init 7 = .ok (.newarray .char, 2) := by decide +kernel
theorem dX5_init_9 : decode cX5_init 9 = .ok (.putfield 9, 3) := by decide +kernel
theorem dX5_init_12 : decode cX5_init 12 = .ok (.aload_n 0, 1) := by decide +kernel
theorem dX5_init_13 : decode cX5_init 13 = .ok (.new 15, 3) := by decide +kernel
theorem dX5_init_16 : decode cX5_init 16 = .ok (.dup, 1) := by decide +kernel
theorem dX5_init_17 : decode cX5_init 17 = .ok (.invokespecial 17, 3) := by decide +kernel
theorem dX5_init_20 : decode cX5_init 20 = .ok (.putfield 18, 3) := by decide +kernel
theorem dX5_init_23 : decode cX5_init 23 = .ok (.return_, 1) := by decide +kernel
set_option maxRecDepth 20000 in
theorem ggX6_lastFences_X3_countSides : GoodIn wsX6_lastFences wsX3_countSides := goodIn_r _ [4, 5, 6, 3, 7, 8, 9, 10, 11, 12, 13, 14] (by decide +kernel) (by decide +kernel)
set_option maxRecDepth 20000 in
theorem gX6_lastFences_X3_countSides : GoodIn wsX6_lastFences (va_wsS RX6 9 yX3_countSides wsX3_countSides) := goodIn_app (goodIn_of _ (by decide +kernel)) ggX6_lastFences_X3_countSides
set_option maxRecDepth 20000 in
theorem ggX6_lastFences_X3_sides : GoodIn wsX6_lastFences wsX3_sides := goodIn_r _ [7] (by decide +kernel) (by decide +kernel)
set_option maxRecDepth 20000 in
theorem gX6_lastFences_X3_sides : GoodIn wsX6_lastFences (va_wsS RX6 15 yX3_sides wsX3_sides) := goodIn_app (goodIn_of _ (by decide +kernel)) ggX6_lastFences_X3_sides
theorem dX6_lastFences_0 : decode cX6_lastFences 0 = .ok (.iconst 0, 1) := by decide +kernel
theorem dX6_lastFences_1 : decode cX6_lastFences 1 = .ok (.istore_n 1, 1) := by decide +kernel
theorem dX6_lastFences_2 : decode cX6_lastFences 2 = .ok (.iconst 0, 1) := by decide +kernel
theorem dX6_lastFences_3 : decode cX6_lastFences 3 = .ok (.istore_n 2, 1) := by decide +kernel
theorem dX6_lastFences_4 : decode cX6_lastFences 4 = .ok (.iload_n 2, 1) := by decide +kernel
theorem dX6_lastFences_5 : decode cX6_lastFences 5 = .ok (.bipush 12, 2) := by decide +kernel
theorem dX6_lastFences_7 : decode cX6_lastFences 7 = .ok (.if_icmp .ge 29, 3) := by decide +kernel
theorem dX6_lastFences_10 : decode cX6_lastFences 10 = .ok (.iload_n 0, 1) := by decide +kernel
theorem dX6_lastFences_11 : decode cX6_lastFences 11 = .ok (.iload_n 2, 1) := by decide +kernel
theorem dX6_lastFences_12 : decode cX6_lastFences 12 = .ok (.invokestatic 9, 3) := by decide +kernel
theorem dX6_lastFences_15 : decode cX6_lastFences 15 = .ok (.iconst 3, 1) := by decide +kernel
theorem dX6_lastFences_16 : decode cX6_lastFences 16 = .ok (.if_icmp .ne 14, 3) := by decide +kernel
theorem dX6_lastFences_19 : decode cX6_lastFences 19 = .ok (.iload_n 1, 1) := by decide +kernel
theorem dX6_lastFences_20 : decode cX6_lastFences 20 = .ok (.iload_n 2, 1) := by decide +kernel
theorem dX6_lastFences_21 : decode cX6_lastFences 21 = .ok (.invokestatic 15, 3) := by decide +kernel
theorem dX6_lastFences_24 : decode cX6_lastFences 24 = .ok (.iload_n 0, 1) := by decide +kernel
theorem dX6_lastFences_25 : decode cX6_lastFences 25 = .ok (.iconst (-1), 1) := by decide +kernel
theorem dX6_lastFences_26 : decode cX6_lastFences 26 = .ok (.ixor, 1) := by decide +kernel
theorem dX6_lastFences_27 : decode cX6_lastFences 27 = .ok (.iand, 1) := by decide +kernel
theorem dX6_lastFences_28 : decode cX6_lastFences 28 = .ok (.ior, 1) := by decide +kernel
theorem dX6_lastFences_29 : decode cX6_lastFences 29 = .ok (.istore_n 1, 1) := by decide +kernel
theorem dX6_lastFences_30 : decode cX6_lastFences 30 = .ok (.iinc 2 1, 3) := by decide +kernel
theorem dX6_lastFences_33 : decode cX6_lastFences 33 = .ok (.goto (-29), 3) := by decide +kernel
theorem dX6_lastFences_36 : decode cX6_lastFences 36 = .ok (.iload_n 1, 1) := by decide +kernel
theorem dX6_lastFences_37 : decode cX6_lastFences 37 = .ok (.ireturn, 1) := by decide +kernel
set_option maxRecDepth 20000 in
theorem ggX6_oneByOne_X6_lastFences : GoodIn wsX6_oneByOne wsX6_lastFences := goodIn_r _ [4, 5, 6, 7, 8, 9, 10, 11, 12, 13, 14, 15, 16, 17, 18, 19] (by decide +kernel) (by decide +kernel)
set_option maxRecDepth 20000 in
theorem gX6_oneByOne_X6_lastFences : GoodIn wsX6_oneByOne (va_wsS RX6 19 yX6_lastFences wsX6_lastFences) := goodIn_app (goodIn_of _ (by decide +kernel)) ggX6_oneByOne_X6_lastFences
set_option maxRecDepth 20000 in
theorem ggX6_oneByOne_X3_lowestFence : GoodIn wsX6_oneByOne wsX3_lowestFence := goodIn_r _ [22, 23, 24, 7, 25] (by decide +kernel) (by decide +kernel)
set_option maxRecDepth 20000 in
theorem gX6_oneByOne_X3_lowestFence : GoodIn wsX6_oneByOne (va_wsS RX6 24 yX3_lowestFence wsX3_lowestFence) := goodIn_app (goodIn_of _ (by decide +kernel)) ggX6_oneByOne_X3_lowestFence
set_option maxRecDepth 20000 in
theorem ggX6_oneByOne_X3_closedWith : GoodIn wsX6_oneByOne wsX3_closedWith := goodIn_r _ [28, 29, 30, 7, 31, 32, 33, 34, 35, 36, 37, 9, 10, 11, 38, 39, 40] (by decide +kernel) (by decide +kernel)
set_option maxRecDepth 20000 in
theorem gX6_oneByOne_X3_closedWith : GoodIn wsX6_oneByOne (va_wsS RX6 27 yX3_closedWith wsX3_closedWith) := goodIn_app (goodIn_of _ (by decide +kernel)) ggX6_oneByOne_X3_closedWith
set_option maxRecDepth 20000 in
theorem ggX6_oneByOne_J6_bitCount_0f7a4 : GoodIn wsX6_oneByOne wsJ6_bitCount_0f7a4 := goodIn_r _ [15, 16, 17, 18] (by decide +kernel) (by decide +kernel)
set_option maxRecDepth 20000 in
theorem gX6_oneByOne_J6_bitCount_0f7a4 : GoodIn wsX6_oneByOne (va_wsS RX6 30 yJ6_bitCount_0f7a4 wsJ6_bitCount_0f7a4) := goodIn_app (goodIn_of _ (by decide +kernel)) ggX6_oneByOne_J6_bitCount_0f7a4
theorem dX6_oneByOne_0 : decode cX6_oneByOne 0 = .ok (.iload_n 0, 1) := by decide +kernel
theorem dX6_oneByOne_1 : decode cX6_oneByOne 1 = .ok (.istore_n 1, 1) := by decide +kernel
theorem dX6_oneByOne_2 : decode cX6_oneByOne 2 = .ok (.iconst 0, 1) := by decide +kernel
theorem dX6_oneByOne_3 : decode cX6_oneByOne 3 = .ok (.istore_n 2, 1) := by decide +kernel
theorem dX6_oneByOne_4 : decode cX6_oneByOne 4 = .ok (.iconst 0, 1) := by decide +kernel
theorem dX6_oneByOne_5 : decode cX6_oneByOne 5 = .ok (.istore_n 3, 1) := by decide +kernel
theorem dX6_oneByOne_6 : decode cX6_oneByOne 6 = .ok (.iload_n 3, 1) := by decide +kernel
theorem dX6_oneByOne_7 : decode cX6_oneByOne 7 = .ok (.bipush 31, 2) := by decide +kernel
theorem dX6_oneByOne_9 : decode cX6_oneByOne 9 = .ok (.if_icmp .ge 45, 3) := by decide +kernel
theorem dX6_oneByOne_12 : decode cX6_oneByOne 12 = .ok (.iload_n 1, 1) := by decide +kernel
theorem dX6_oneByOne_13 : decode cX6_oneByOne 13 = .ok (.invokestatic 19, 3) := by decide +kernel
theorem dX6_oneByOne_16 : decode cX6_oneByOne 16 = .ok (.invokestatic 24, 3) := by decide +kernel
theorem dX6_oneByOne_19 : decode cX6_oneByOne 19 = .ok (.istore 4, 2) := by decide +kernel
theorem dX6_oneByOne_21 : decode cX6_oneByOne 21 = .ok (.iload 4, 2) := by decide +kernel
theorem dX6_oneByOne_23 : decode cX6_oneByOne 23 = .ok (.iconst (-1), 1) := by decide +kernel
theorem dX6_oneByOne_24 : decode cX6_oneByOne 24 = .ok (.if_icmp .ne 5, 3) := by decide +kernel
theorem dX6_oneByOne_27 : decode cX6_oneByOne 27 = .ok (.iload_n 2, 1) := by decide +kernel
theorem dX6_oneByOne_28 : decode cX6_oneByOne 28 = .ok (.ireturn, 1) := by decide +kernel
theorem dX6_oneByOne_29 : decode cX6_oneByOne 29 = .ok (.iload_n 1, 1) := by decide +kernel
theorem dX6_oneByOne_30 : decode cX6_oneByOne 30 = .ok (.iconst 1, 1) := by decide +kernel
theorem dX6_oneByOne_31 : decode cX6_oneByOne 31 = .ok (.iload 4, 2) := by decide +kernel
theorem dX6_oneByOne_33 : decode cX6_oneByOne 33 = .ok (.ishl, 1) := by decide +kernel
theorem dX6_oneByOne_34 : decode cX6_oneByOne 34 = .ok (.ior, 1) := by decide +kernel
theorem dX6_oneByOne_35 : decode cX6_oneByOne 35 = .ok (.istore_n 1, 1) := by decide +kernel
theorem dX6_oneByOne_36 : decode cX6_oneByOne 36 = .ok (.iload_n 2, 1) := by decide +kernel
theorem dX6_oneByOne_37 : decode cX6_oneByOne 37 = .ok (.iload_n 1, 1) := by decide +kernel
theorem dX6_oneByOne_38 : decode cX6_oneByOne 38 = .ok (.iload 4, 2) := by decide +kernel
theorem dX6_oneByOne_40 : decode cX6_oneByOne 40 = .ok (.invokestatic 27, 3) := by decide +kernel
theorem dX6_oneByOne_43 : decode cX6_oneByOne 43 = .ok (.invokestatic 30, 3) := by decide +kernel
theorem dX6_oneByOne_46 : decode cX6_oneByOne 46 = .ok (.iadd, 1) := by decide +kernel
theorem dX6_oneByOne_47 : decode cX6_oneByOne 47 = .ok (.istore_n 2, 1) := by decide +kernel
theorem dX6_oneByOne_48 : decode cX6_oneByOne 48 = .ok (.iinc 3 1, 3) := by decide +kernel
theorem dX6_oneByOne_51 : decode cX6_oneByOne 51 = .ok (.goto (-45), 3) := by decide +kernel
theorem dX6_oneByOne_54 : decode cX6_oneByOne 54 = .ok (.iload_n 2, 1) := by decide +kernel
theorem dX6_oneByOne_55 : decode cX6_oneByOne 55 = .ok (.ireturn, 1) := by decide +kernel
set_option maxRecDepth 20000 in
theorem ggX6_byRounds_X3_boxesHaving : GoodIn wsX6_byRounds wsX3_boxesHaving := goodIn_r _ [4, 5, 6, 3, 7, 8, 9, 10, 11, 12, 13, 14, 15, 16, 17] (by decide +kernel) (by decide +kernel)
set_option maxRecDepth 20000 in
theorem gX6_byRounds_X3_boxesHaving : GoodIn wsX6_byRounds (va_wsS RX6 35 yX3_boxesHaving wsX3_boxesHaving) := goodIn_app (goodIn_of _ (by decide +kernel)) ggX6_byRounds_X3_boxesHaving
set_option maxRecDepth 20000 in
theorem ggX6_byRounds_J6_bitCount_0f7a4 : GoodIn wsX6_byRounds wsJ6_bitCount_0f7a4 := goodIn_r _ [14, 15, 16, 17] (by decide +kernel) (by decide +kernel)
set_option maxRecDepth 20000 in
theorem gX6_byRounds_J6_bitCount_0f7a4 : GoodIn wsX6_byRounds (va_wsS RX6 30 yJ6_bitCount_0f7a4 wsJ6_bitCount_0f7a4) := goodIn_app (goodIn_of _ (by decide +kernel)) ggX6_byRounds_J6_bitCount_0f7a4
set_option maxRecDepth 20000 in
theorem ggX6_byRounds_X6_lastFences : GoodIn wsX6_byRounds wsX6_lastFences := goodIn_r _ [22, 23, 6, 3, 7, 8, 9, 10, 11, 12, 13, 14, 15, 16, 17, 24] (by decide +kernel) (by decide +kernel)
set_option maxRecDepth 20000 in
theorem gX6_byRounds_X6_lastFences : GoodIn wsX6_byRounds (va_wsS RX6 19 yX6_lastFences wsX6_lastFences) := goodIn_app (goodIn_of _ (by decide +kernel)) ggX6_byRounds_X6_lastFences
theorem dX6_byRounds_0 : decode cX6_byRounds 0 = .ok (.iload_n 0, 1) := by decide +kernel
theorem dX6_byRounds_1 : decode cX6_byRounds 1 = .ok (.istore_n 1, 1) := by decide +kernel
theorem dX6_byRounds_2 : decode cX6_byRounds 2 = .ok (.iload_n 0, 1) := by decide +kernel
theorem dX6_byRounds_3 : decode cX6_byRounds 3 = .ok (.iconst 4, 1) := by decide +kernel
theorem dX6_byRounds_4 : decode cX6_byRounds 4 = .ok (.invokestatic 35, 3) := by decide +kernel
theorem dX6_byRounds_7 : decode cX6_byRounds 7 = .ok (.invokestatic 30, 3) := by decide +kernel
theorem dX6_byRounds_10 : decode cX6_byRounds 10 = .ok (.istore_n 2, 1) := by decide +kernel
theorem dX6_byRounds_11 : decode cX6_byRounds 11 = .ok (.iconst 0, 1) := by decide +kernel
theorem dX6_byRounds_12 : decode cX6_byRounds 12 = .ok (.istore_n 3, 1) := by decide +kernel
theorem dX6_byRounds_13 : decode cX6_byRounds 13 = .ok (.iload_n 3, 1) := by decide +kernel
theorem dX6_byRounds_14 : decode cX6_byRounds 14 = .ok (.bipush 31, 2) := by decide +kernel
theorem dX6_byRounds_16 : decode cX6_byRounds 16 = .ok (.if_icmp .ge 28, 3) := by decide +kernel
theorem dX6_byRounds_19 : decode cX6_byRounds 19 = .ok (.iload_n 1, 1) := by decide +kernel
theorem dX6_byRounds_20 : decode cX6_byRounds 20 = .ok (.invokestatic 19, 3) := by decide +kernel
theorem dX6_byRounds_23 : decode cX6_byRounds 23 = .ok (.istore 4, 2) := by decide +kernel
theorem dX6_byRounds_25 : decode cX6_byRounds 25 = .ok (.iload 4, 2) := by decide +kernel
theorem dX6_byRounds_27 : decode cX6_byRounds 27 = .ok (.ifCond .ne 6, 3) := by decide +kernel
theorem dX6_byRounds_30 : decode cX6_byRounds 30 = .ok (.goto 14, 3) := by decide +kernel
theorem dX6_byRounds_33 : decode cX6_byRounds 33 = .ok (.iload_n 1, 1) := by decide +kernel
theorem dX6_byRounds_34 : decode cX6_byRounds 34 = .ok (.iload 4, 2) := by decide +kernel
theorem dX6_byRounds_36 : decode cX6_byRounds 36 = .ok (.ior, 1) := by decide +kernel
theorem dX6_byRounds_37 : decode cX6_byRounds 37 = .ok (.istore_n 1, 1) := by decide +kernel
theorem dX6_byRounds_38 : decode cX6_byRounds 38 = .ok (.iinc 3 1, 3) := by decide +kernel
theorem dX6_byRounds_41 : decode cX6_byRounds 41 = .ok (.goto (-28), 3) := by decide +kernel
theorem dX6_byRounds_44 : decode cX6_byRounds 44 = .ok (.iload_n 1, 1) := by decide +kernel
theorem dX6_byRounds_45 : decode cX6_byRounds 45 = .ok (.iconst 4, 1) := by decide +kernel
theorem dX6_byRounds_46 : decode cX6_byRounds 46 = .ok (.invokestatic 35, 3) := by decide +kernel
theorem dX6_byRounds_49 : decode cX6_byRounds 49 = .ok (.invokestatic 30, 3) := by decide +kernel
theorem dX6_byRounds_52 : decode cX6_byRounds 52 = .ok (.iload_n 2, 1) := by decide +kernel
theorem dX6_byRounds_53 : decode cX6_byRounds 53 = .ok (.isub, 1) := by decide +kernel
theorem dX6_byRounds_54 : decode cX6_byRounds 54 = .ok (.ireturn, 1) := by decide +kernel
set_option maxRecDepth 20000 in
theorem ggX6_safe_X3_boxesHaving : GoodIn wsX6_safe wsX3_boxesHaving := goodIn_r _ [4, 5, 6, 3, 7, 8, 9, 10, 11, 12, 13, 14, 15, 16, 17] (by decide +kernel) (by decide +kernel)
set_option maxRecDepth 20000 in
theorem gX6_safe_X3_boxesHaving : GoodIn wsX6_safe (va_wsS RX6 35 yX3_boxesHaving wsX3_boxesHaving) := goodIn_app (goodIn_of _ (by decide +kernel)) ggX6_safe_X3_boxesHaving
set_option maxRecDepth 20000 in
theorem ggX6_safe_X3_has : GoodIn wsX6_safe wsX3_has := goodIn_r _ [20] (by decide +kernel) (by decide +kernel)
set_option maxRecDepth 20000 in
theorem gX6_safe_X3_has : GoodIn wsX6_safe (va_wsS RX6 38 yX3_has wsX3_has) := goodIn_app (goodIn_of _ (by decide +kernel)) ggX6_safe_X3_has
set_option maxRecDepth 20000 in
theorem ggX6_safe_X3_boxesBeside : GoodIn wsX6_safe wsX3_boxesBeside := goodIn_r _ [23, 24, 25, 3, 26, 27, 28, 29] (by decide +kernel) (by decide +kernel)
set_option maxRecDepth 20000 in
theorem gX6_safe_X3_boxesBeside : GoodIn wsX6_safe (va_wsS RX6 42 yX3_boxesBeside wsX3_boxesBeside) := goodIn_app (goodIn_of _ (by decide +kernel)) ggX6_safe_X3_boxesBeside
theorem dX6_safe_0 : decode cX6_safe 0 = .ok (.iload_n 0, 1) := by decide +kernel
theorem dX6_safe_1 : decode cX6_safe 1 = .ok (.iconst 2, 1) := by decide +kernel
theorem dX6_safe_2 : decode cX6_safe 2 = .ok (.invokestatic 35, 3) := by decide +kernel
theorem dX6_safe_5 : decode cX6_safe 5 = .ok (.iload_n 0, 1) := by decide +kernel
theorem dX6_safe_6 : decode cX6_safe 6 = .ok (.iconst 3, 1) := by decide +kernel
theorem dX6_safe_7 : decode cX6_safe 7 = .ok (.invokestatic 35, 3) := by decide +kernel
theorem dX6_safe_10 : decode cX6_safe 10 = .ok (.ior, 1) := by decide +kernel
theorem dX6_safe_11 : decode cX6_safe 11 = .ok (.istore_n 1, 1) := by decide +kernel
theorem dX6_safe_12 : decode cX6_safe 12 = .ok (.iconst 0, 1) := by decide +kernel
theorem dX6_safe_13 : decode cX6_safe 13 = .ok (.istore_n 2, 1) := by decide +kernel
theorem dX6_safe_14 : decode cX6_safe 14 = .ok (.iconst 0, 1) := by decide +kernel
theorem dX6_safe_15 : decode cX6_safe 15 = .ok (.istore_n 3, 1) := by decide +kernel
theorem dX6_safe_16 : decode cX6_safe 16 = .ok (.iload_n 3, 1) := by decide +kernel
theorem dX6_safe_17 : decode cX6_safe 17 = .ok (.bipush 31, 2) := by decide +kernel
theorem dX6_safe_19 : decode cX6_safe 19 = .ok (.if_icmp .ge 32, 3) := by decide +kernel
theorem dX6_safe_22 : decode cX6_safe 22 = .ok (.iload_n 0, 1) := by decide +kernel
theorem dX6_safe_23 : decode cX6_safe 23 = .ok (.iload_n 3, 1) := by decide +kernel
theorem dX6_safe_24 : decode cX6_safe 24 = .ok (.invokestatic 38, 3) := by decide +kernel
theorem dX6_safe_27 : decode cX6_safe 27 = .ok (.ifCond .ne 18, 3) := by decide +kernel
theorem dX6_safe_30 : decode cX6_safe 30 = .ok (.iload_n 3, 1) := by decide +kernel
theorem dX6_safe_31 : decode cX6_safe 31 = .ok (.invokestatic 42, 3) := by decide +kernel
theorem dX6_safe_34 : decode cX6_safe 34 = .ok (.iload_n 1, 1) := by decide +kernel
theorem dX6_safe_35 : decode cX6_safe 35 = .ok (.iand, 1) := by decide +kernel
theorem dX6_safe_36 : decode cX6_safe 36 = .ok (.ifCond .ne 9, 3) := by decide +kernel
theorem dX6_safe_39 : decode cX6_safe 39 = .ok (.iload_n 2, 1) := by decide +kernel
theorem dX6_safe_40 : decode cX6_safe 40 = .ok (.iconst 1, 1) := by decide +kernel
theorem dX6_safe_41 : decode cX6_safe 41 = .ok (.iload_n 3, 1) := by decide +kernel
theorem dX6_safe_42 : decode cX6_safe 42 = .ok (.ishl, 1) := by decide +kernel
theorem dX6_safe_43 : decode cX6_safe 43 = .ok (.ior, 1) := by decide +kernel
theorem dX6_safe_44 : decode cX6_safe 44 = .ok (.istore_n 2, 1) := by decide +kernel
theorem dX6_safe_45 : decode cX6_safe 45 = .ok (.iinc 3 1, 3) := by decide +kernel
theorem dX6_safe_48 : decode cX6_safe 48 = .ok (.goto (-32), 3) := by decide +kernel
theorem dX6_safe_51 : decode cX6_safe 51 = .ok (.iload_n 2, 1) := by decide +kernel
theorem dX6_safe_52 : decode cX6_safe 52 = .ok (.ireturn, 1) := by decide +kernel
set_option maxRecDepth 20000 in
theorem ggX6_safeOneByOne_X6_safe : GoodIn wsX6_safeOneByOne wsX6_safe := goodIn_r _ [4, 5, 6, 7, 8, 9, 10, 11, 12, 13, 14, 15, 16, 17, 18, 19, 20, 21, 22, 23, 24, 25, 26, 27, 28, 29, 30, 31, 32, 33] (by decide +kernel) (by decide +kernel)
set_option maxRecDepth 20000 in
theorem gX6_safeOneByOne_X6_safe : GoodIn wsX6_safeOneByOne (va_wsS RX6 45 yX6_safe wsX6_safe) := goodIn_app (goodIn_of _ (by decide +kernel)) ggX6_safeOneByOne_X6_safe
set_option maxRecDepth 20000 in
theorem ggX6_safeOneByOne_X3_lowestFence : GoodIn wsX6_safeOneByOne wsX3_lowestFence := goodIn_r _ [36, 37, 23, 7, 24] (by decide +kernel) (by decide +kernel)
set_option maxRecDepth 20000 in
theorem gX6_safeOneByOne_X3_lowestFence : GoodIn wsX6_safeOneByOne (va_wsS RX6 24 yX3_lowestFence wsX3_lowestFence) := goodIn_app (goodIn_of _ (by decide +kernel)) ggX6_safeOneByOne_X3_lowestFence
theorem dX6_safeOneByOne_0 : decode cX6_safeOneByOne 0 = .ok (.iload_n 0, 1) := by decide +kernel
theorem dX6_safeOneByOne_1 : decode cX6_safeOneByOne 1 = .ok (.istore_n 1, 1) := by decide +kernel
theorem dX6_safeOneByOne_2 : decode cX6_safeOneByOne 2 = .ok (.iconst 0, 1) := by decide +kernel
theorem dX6_safeOneByOne_3 : decode cX6_safeOneByOne 3 = .ok (.istore_n 2, 1) := by decide +kernel
theorem dX6_safeOneByOne_4 : decode cX6_safeOneByOne 4 = .ok (.iload_n 2, 1) := by decide +kernel
theorem dX6_safeOneByOne_5 : decode cX6_safeOneByOne 5 = .ok (.bipush 31, 2) := by decide +kernel
theorem dX6_safeOneByOne_7 : decode cX6_safeOneByOne 7 = .ok (.if_icmp .ge 30, 3) := by decide +kernel
theorem dX6_safeOneByOne_10 : decode cX6_safeOneByOne 10 = .ok (.iload_n 1, 1) := by decide +kernel
theorem dX6_safeOneByOne_11 : decode cX6_safeOneByOne 11 = .ok (.invokestatic 45, 3) := by decide +kernel
theorem dX6_safeOneByOne_14 : decode cX6_safeOneByOne 14 = .ok (.invokestatic 24, 3) := by decide +kernel
theorem dX6_safeOneByOne_17 : decode cX6_safeOneByOne 17 = .ok (.istore_n 3, 1) := by decide +kernel
theorem dX6_safeOneByOne_18 : decode cX6_safeOneByOne 18 = .ok (.iload_n 3, 1) := by decide +kernel
theorem dX6_safeOneByOne_19 : decode cX6_safeOneByOne 19 = .ok (.iconst (-1), 1) := by decide +kernel
theorem dX6_safeOneByOne_20 : decode cX6_safeOneByOne 20 = .ok (.if_icmp .ne 5, 3) := by decide +kernel
theorem dX6_safeOneByOne_23 : decode cX6_safeOneByOne 23 = .ok (.iload_n 2, 1) := by decide +kernel
theorem dX6_safeOneByOne_24 : decode cX6_safeOneByOne 24 = .ok (.ireturn, 1) := by decide +kernel
theorem dX6_safeOneByOne_25 : decode cX6_safeOneByOne 25 = .ok (.iload_n 1, 1) := by decide +kernel
theorem dX6_safeOneByOne_26 : decode cX6_safeOneByOne 26 = .ok (.iconst 1, 1) := by decide +kernel
theorem dX6_safeOneByOne_27 : decode cX6_safeOneByOne 27 = .ok (.iload_n 3, 1) := by decide +kernel
theorem dX6_safeOneByOne_28 : decode cX6_safeOneByOne 28 = .ok (.ishl, 1) := by decide +kernel
theorem dX6_safeOneByOne_29 : decode cX6_safeOneByOne 29 = .ok (.ior, 1) := by decide +kernel
theorem dX6_safeOneByOne_30 : decode cX6_safeOneByOne 30 = .ok (.istore_n 1, 1) := by decide +kernel
theorem dX6_safeOneByOne_31 : decode cX6_safeOneByOne 31 = .ok (.iinc 2 1, 3) := by decide +kernel
theorem dX6_safeOneByOne_34 : decode cX6_safeOneByOne 34 = .ok (.goto (-30), 3) := by decide +kernel
theorem dX6_safeOneByOne_37 : decode cX6_safeOneByOne 37 = .ok (.bipush 31, 2) := by decide +kernel
theorem dX6_safeOneByOne_39 : decode cX6_safeOneByOne 39 = .ok (.ireturn, 1) := by decide +kernel
set_option maxRecDepth 20000 in
theorem ggX6_givenBy_X6_oneByOne : GoodIn wsX6_givenBy wsX6_oneByOne := goodIn_r _ [4, 5, 6, 3, 7, 8, 9, 10, 11, 12, 13, 14, 15, 16, 17, 18, 19, 20, 21, 22, 23, 24, 25, 26, 27, 28, 29, 30, 31, 32, 33, 34, 35, 36, 37, 38, 39, 40, 41, 42, 43, 44] (by decide +kernel) (by decide +kernel)
set_option maxRecDepth 20000 in
theorem gX6_givenBy_X6_oneByOne : GoodIn wsX6_givenBy (va_wsS RX6 48 yX6_oneByOne wsX6_oneByOne) := goodIn_app (goodIn_of _ (by decide +kernel)) ggX6_givenBy_X6_oneByOne
theorem dX6_givenBy_0 : decode cX6_givenBy 0 = .ok (.iload_n 0, 1) := by decide +kernel
theorem dX6_givenBy_1 : decode cX6_givenBy 1 = .ok (.iconst 1, 1) := by decide +kernel
theorem dX6_givenBy_2 : decode cX6_givenBy 2 = .ok (.iload_n 1, 1) := by decide +kernel
theorem dX6_givenBy_3 : decode cX6_givenBy 3 = .ok (.ishl, 1) := by decide +kernel
theorem dX6_givenBy_4 : decode cX6_givenBy 4 = .ok (.ior, 1) := by decide +kernel
theorem dX6_givenBy_5 : decode cX6_givenBy 5 = .ok (.invokestatic 48, 3) := by decide +kernel
theorem dX6_givenBy_8 : decode cX6_givenBy 8 = .ok (.ireturn, 1) := by decide +kernel
set_option maxRecDepth 20000 in
theorem ggX6_leastGiving_X3_has : GoodIn wsX6_leastGiving wsX3_has := goodIn_r _ [4] (by decide +kernel) (by decide +kernel)
set_option maxRecDepth 20000 in
theorem gX6_leastGiving_X3_has : GoodIn wsX6_leastGiving (va_wsS RX6 38 yX3_has wsX3_has) := goodIn_app (goodIn_of _ (by decide +kernel)) ggX6_leastGiving_X3_has
set_option maxRecDepth 20000 in
theorem ggX6_leastGiving_X6_givenBy : GoodIn wsX6_leastGiving wsX6_givenBy := goodIn_r _ [8, 9, 10, 7, 11, 12, 13, 14, 15, 16, 3, 17, 18, 19, 20, 21, 22, 23, 24, 25, 26, 27, 28, 29, 30, 31, 32, 2, 4, 33, 34, 35, 36, 37, 38, 39, 40, 41, 42, 43, 44, 45, 46, 47, 48] (by decide +kernel) (by decide +kernel)
set_option maxRecDepth 20000 in
theorem gX6_leastGiving_X6_givenBy : GoodIn wsX6_leastGiving (va_wsS RX6 51 yX6_givenBy wsX6_givenBy) := goodIn_app (goodIn_of _ (by decide +kernel)) ggX6_leastGiving_X6_givenBy
theorem dX6_leastGiving_0 : decode cX6_leastGiving 0 = .ok (.bipush 13, 2) := by decide +kernel
theorem dX6_leastGiving_2 : decode cX6_leastGiving 2 = .ok (.istore_n 1, 1) := by decide +kernel
theorem dX6_leastGiving_3 : decode cX6_leastGiving 3 = .ok (.iconst (-1), 1) := by decide +kernel
theorem dX6_leastGiving_4 : decode cX6_leastGiving 4 = .ok (.istore_n 2, 1) := by decide +kernel
theorem dX6_leastGiving_5 : decode cX6_leastGiving 5 = .ok (.iconst 0, 1) := by decide +kernel
theorem dX6_leastGiving_6 : decode cX6_leastGiving 6 = .ok (.istore_n 3, 1) := by decide +kernel
theorem dX6_leastGiving_7 : decode cX6_leastGiving 7 = .ok (.iload_n 3, 1) := by decide +kernel
theorem dX6_leastGiving_8 : decode cX6_leastGiving 8 = .ok (.bipush 31, 2) := by decide +kernel
theorem dX6_leastGiving_10 : decode cX6_leastGiving 10 = .ok (.if_icmp .ge 35, 3) := by decide +kernel
theorem dX6_leastGiving_13 : decode cX6_leastGiving 13 = .ok (.iload_n 0, 1) := by decide +kernel
theorem dX6_leastGiving_14 : decode cX6_leastGiving 14 = .ok (.iload_n 3, 1) := by decide +kernel
theorem dX6_leastGiving_15 : decode cX6_leastGiving 15 = .ok (.invokestatic 38, 3) := by decide +kernel
theorem dX6_leastGiving_18 : decode cX6_leastGiving 18 = .ok (.ifCond .ne 21, 3) := by decide +kernel
theorem dX6_leastGiving_21 : decode cX6_leastGiving 21 = .ok (.iload_n 0, 1) := by decide +kernel
theorem dX6_leastGiving_22 : decode cX6_leastGiving 22 = .ok (.iload_n 3, 1) := by decide +kernel
theorem dX6_leastGiving_23 : decode cX6_leastGiving 23 = .ok (.invokestatic 51, 3) := by decide +kernel
theorem dX6_leastGiving_26 : decode cX6_leastGiving 26 = .ok (.istore 4, 2) := by decide +kernel
theorem dX6_leastGiving_28 : decode cX6_leastGiving 28 = .ok (.iload 4, 2) := by decide +kernel
theorem dX6_leastGiving_30 : decode cX6_leastGiving 30 = .ok (.iload_n 1, 1) := by decide +kernel
theorem dX6_leastGiving_31 : decode cX6_leastGiving 31 = .ok (.if_icmp .ge 8, 3) := by decide +kernel
theorem dX6_leastGiving_34 : decode cX6_leastGiving 34 = .ok (.iload 4, 2) := by decide +kernel
theorem dX6_leastGiving_36 : decode cX6_leastGiving 36 = .ok (.istore_n 1, 1) := by decide +kernel
theorem dX6_leastGiving_37 : decode cX6_leastGiving 37 = .ok (.iload_n 3, 1) := by decide +kernel
theorem dX6_leastGiving_38 : decode cX6_leastGiving 38 = .ok (.istore_n 2, 1) := by decide +kernel
theorem dX6_leastGiving_39 : decode cX6_leastGiving 39 = .ok (.iinc 3 1, 3) := by decide +kernel
theorem dX6_leastGiving_42 : decode cX6_leastGiving 42 = .ok (.goto (-35), 3) := by decide +kernel
theorem dX6_leastGiving_45 : decode cX6_leastGiving 45 = .ok (.iload_n 2, 1) := by decide +kernel
theorem dX6_leastGiving_46 : decode cX6_leastGiving 46 = .ok (.ireturn, 1) := by decide +kernel
set_option maxRecDepth 20000 in
theorem ggX7_init_X2_init : GoodIn wsX7_init wsX2_init := goodIn_r _ [23, 24, 2, 3] (by decide +kernel) (by decide +kernel)
set_option maxRecDepth 20000 in
theorem gX7_init_X2_init_n9 : GoodIn wsX7_init (wsX2_init) := ggX7_init_X2_init
set_option maxRecDepth 20000 in
theorem ggX7_init_X4_init : GoodIn wsX7_init wsX4_init := goodIn_r _ [27, 28, 2, 3, 29, 30, 5, 6, 22, 23, 24, 58, 59, 44, 45, 46, 47, 48, 49, 50, 51] (by decide +kernel) (by decide +kernel)
set_option maxRecDepth 20000 in
theorem gX7_init_X4_init : GoodIn wsX7_init (wsX4_init) := ggX7_init_X4_init
set_option maxRecDepth 20000 in
theorem ggX7_init_X5_init : GoodIn wsX7_init wsX5_init := goodIn_r _ [32, 33, 2, 3, 34, 35, 36, 5, 6, 37, 22, 23, 24, 60, 61, 62, 63, 64, 65, 66, 44, 45, 46, 47, 48, 49, 50, 51] (by decide +kernel) (by decide +kernel)
set_option maxRecDepth 20000 in
theorem gX7_init_X5_init_n28 : GoodIn wsX7_init (wsX5_init) := ggX7_init_X5_init
set_option maxRecDepth 20000 in
theorem ggX7_init_X1_init : GoodIn wsX7_init wsX1_init := goodIn_r _ [39, 40, 2, 3, 41, 42, 43, 67, 68, 69] (by decide +kernel) (by decide +kernel)
set_option maxRecDepth 20000 in
theorem gX7_init_X1_init_n35 : GoodIn wsX7_init (wsX1_init) := ggX7_init_X1_init
theorem dX7_init_0 : decode cX7_init 0 = .ok (.aload_n 0, 1) := by decide +kernel
theorem dX7_init_1 : decode cX7_init 1 = .ok (.invokespecial 1, 3) := by decide +kernel
theorem dX7_init_4 : decode cX7_init 4 = .ok (.aload_n 0, 1) := by decide +kernel
theorem dX7_init_5 : decode cX7_init 5 = .ok (.new 7, 3) := by decide +kernel
theorem dX7_init_8 : decode cX7_init 8 = .ok (.dup, 1) := by decide +kernel
theorem dX7_init_9 : decode cX7_init 9 = .ok (.invokespecial 9, 3) := by decide +kernel
theorem dX7_init_12 : decode cX7_init 12 = .ok (.putfield 10, 3) := by decide +kernel
theorem dX7_init_15 : decode cX7_init 15 = .ok (.aload_n 0, 1) := by decide +kernel
theorem dX7_init_16 : decode cX7_init 16 = .ok (.new 7, 3) := by decide +kernel
theorem dX7_init_19 : decode cX7_init 19 = .ok (.dup, 1) := by decide +kernel
theorem dX7_init_20 : decode cX7_init 20 = .ok (.invokespecial 9, 3) := by decide +kernel
theorem dX7_init_23 : decode cX7_init 23 = .ok (.putfield 16, 3) := by decide +kernel
theorem dX7_init_26 : decode cX7_init 26 = .ok (.aload_n 0, 1) := by decide +kernel
theorem dX7_init_27 : decode cX7_init 27 = .ok (.new 19, 3) := by decide +kernel
theorem dX7_init_30 : decode cX7_init 30 = .ok (.dup, 1) := by decide +kernel
theorem dX7_init_31 : decode cX7_init 31 = .ok (.invokespecial 21, 3) := by decide +kernel
theorem dX7_init_34 : decode cX7_init 34 = .ok (.putfield 22, 3) := by decide +kernel
theorem dX7_init_37 : decode cX7_init 37 = .ok (.aload_n 0, 1) := by decide +kernel
theorem dX7_init_38 : decode cX7_init 38 = .ok (.new 26, 3) := by decide +kernel
theorem dX7_init_41 : decode cX7_init 41 = .ok (.dup, 1) := by decide +kernel
theorem dX7_init_42 : decode cX7_init 42 = .ok (.invokespecial 28, 3) := by decide +kernel
theorem dX7_init_45 : decode cX7_init 45 = .ok (.putfield 29, 3) := by decide +kernel
theorem dX7_init_48 : decode cX7_init 48 = .ok (.aload_n 0, 1) := by decide +kernel
theorem dX7_init_49 : decode cX7_init 49 = .ok (.new 33, 3) := by decide +kernel
theorem dX7_init_52 : decode cX7_init 52 = .ok (.dup, 1) := by decide +kernel
theorem dX7_init_53 : decode cX7_init 53 = .ok (.invokespecial 35, 3) := by decide +kernel
theorem dX7_init_56 : decode cX7_init 56 = .ok (.putfield 36, 3) := by decide +kernel
theorem dX7_init_59 : decode cX7_init 59 = .ok (.aload_n 0, 1) := by decide +kernel
theorem dX7_init_60 : decode cX7_init 60 = .ok (.iconst 0, 1) := by decide +kernel
theorem dX7_init_61 : decode cX7_init 61 = .ok (.putfield 40, 3) := by decide +kernel
theorem dX7_init_64 : decode cX7_init 64 = .ok (.return_, 1) := by decide +kernel
set_option maxRecDepth 20000 in
theorem ggX7_draw_X7_isFence : GoodIn wsX7_draw wsX7_isFence := goodIn_r _ [10] (by decide +kernel) (by decide +kernel)
set_option maxRecDepth 20000 in
theorem gX7_draw_X7_isFence : GoodIn wsX7_draw (va_wsS RX7 44 yX7_isFence wsX7_isFence) := goodIn_app (goodIn_of _ (by decide +kernel)) ggX7_draw_X7_isFence
set_option maxRecDepth 20000 in
theorem ggX7_draw_X2_refusal : GoodIn wsX7_draw wsX2_refusal := goodIn_r _ [15, 16, 17, 18, 19, 14, 20, 21, 22, 23, 24, 25, 87, 88, 89, 90, 91, 92, 93, 94] (by decide +kernel) (by decide +kernel)
set_option maxRecDepth 20000 in
theorem gX7_draw_X2_refusal : GoodIn wsX7_draw (wsV RX7 55 RX2 yX2_refusal wsX2_refusal) := goodIn_app (goodIn_of _ (by decide +kernel)) ggX7_draw_X2_refusal
set_option maxRecDepth 20000 in
theorem ggX7_draw_X4_record : GoodIn wsX7_draw wsX4_record := goodIn_r _ [30, 31, 32, 33, 34, 35, 29, 36, 37, 38, 39, 14, 40, 16, 41, 42, 43, 44, 45, 46, 47, 95, 96, 87, 88, 89, 90, 91, 92, 93, 94] (by decide +kernel) (by decide +kernel)
set_option maxRecDepth 20000 in
theorem gX7_draw_X4_record : GoodIn wsX7_draw (wsV RX7 64 RX4 yX4_record wsX4_record) := goodIn_app (goodIn_of _ (by decide +kernel)) ggX7_draw_X4_record
set_option maxRecDepth 20000 in
theorem ggX7_draw_X2_put : GoodIn wsX7_draw wsX2_put := goodIn_r _ [51, 16, 43, 41, 42, 47, 52, 53, 24, 54, 55, 56, 57, 58, 59, 60, 61, 62, 63, 64, 65, 66, 67, 68, 69, 70, 71, 72, 73, 74, 75, 76, 17, 18, 19, 14, 20, 21, 77, 78, 79, 80, 44, 45, 46, 87, 88, 89, 90, 91, 92, 93, 94] (by decide +kernel) (by decide +kernel)
set_option maxRecDepth 20000 in
theorem gX7_draw_X2_put : GoodIn wsX7_draw (wsV RX7 68 RX2 yX2_put wsX2_put) := goodIn_app (goodIn_of _ (by decide +kernel)) ggX7_draw_X2_put
theorem dX7_draw_0 : decode cX7_draw 0 = .ok (.iload_n 1, 1) := by decide +kernel
theorem dX7_draw_1 : decode cX7_draw 1 = .ok (.invokestatic 44, 3) := by decide +kernel
theorem dX7_draw_4 : decode cX7_draw 4 = .ok (.ifCond .ne 13, 3) := by decide +kernel
theorem dX7_draw_7 : decode cX7_draw 7 = .ok (.new 48, 3) := by decide +kernel
theorem dX7_draw_10 : decode cX7_draw 10 = .ok (.dup, 1) := by decide +kernel
theorem dX7_draw_11 : decode cX7_draw 11 = .ok (.ldc 50, 2) := by decide +kernel
theorem dX7_draw_13 : decode cX7_draw 13 = .ok (.invokespecial 52, 3) := by decide +kernel
theorem dX7_draw_16 : decode cX7_draw 16 = .ok (.athrow, 1) := by decide +kernel
theorem dX7_draw_17 : decode cX7_draw 17 = .ok (.aload_n 0, 1) := by decide +kernel
theorem dX7_draw_18 : decode cX7_draw 18 = .ok (.getfield 10, 3) := by decide +kernel
theorem dX7_draw_21 : decode cX7_draw 21 = .ok (.iload_n 1, 1) := by decide +kernel
theorem dX7_draw_22 : decode cX7_draw 22 = .ok (.invokevirtual 55, 3) := by decide +kernel
theorem dX7_draw_25 : decode cX7_draw 25 = .ok (.ifCond .eq 13, 3) := by decide +kernel
theorem dX7_draw_28 : decode cX7_draw 28 = .ok (.new 59, 3) := by decide +kernel
theorem dX7_draw_31 : decode cX7_draw 31 = .ok (.dup, 1) := by decide +kernel
theorem dX7_draw_32 : decode cX7_draw 32 = .ok (.ldc 61, 2) := by decide +kernel
theorem dX7_draw_34 : decode cX7_draw 34 = .ok (.invokespecial 63, 3) := by decide +kernel
theorem dX7_draw_37 : decode cX7_draw 37 = .ok (.athrow, 1) := by decide +kernel
theorem dX7_draw_38 : decode cX7_draw 38 = .ok (.aload_n 0, 1) := by decide +kernel
theorem dX7_draw_39 : decode cX7_draw 39 = .ok (.getfield 22, 3) := by decide +kernel
theorem dX7_draw_42 : decode cX7_draw 42 = .ok (.aload_n 0, 1) := by decide +kernel
theorem dX7_draw_43 : decode cX7_draw 43 = .ok (.getfield 10, 3) := by decide +kernel
theorem dX7_draw_46 : decode cX7_draw 46 = .ok (.invokevirtual 64, 3) := by decide +kernel
theorem dX7_draw_49 : decode cX7_draw 49 = .ok (.aload_n 0, 1) := by decide +kernel
theorem dX7_draw_50 : decode cX7_draw 50 = .ok (.getfield 10, 3) := by decide +kernel
theorem dX7_draw_53 : decode cX7_draw 53 = .ok (.iload_n 1, 1) := by decide +kernel
theorem dX7_draw_54 : decode cX7_draw 54 = .ok (.invokevirtual 68, 3) := by decide +kernel
theorem dX7_draw_57 : decode cX7_draw 57 = .ok (.ireturn, 1) := by decide +kernel
set_option maxRecDepth 20000 in
theorem ggX7_newGame_X2_countFences : GoodIn wsX7_newGame wsX2_countFences := goodIn_r _ [7, 8, 9, 10, 11, 12, 13, 14, 15, 48, 49, 50, 51, 52, 53, 54, 55] (by decide +kernel) (by decide +kernel)
set_option maxRecDepth 20000 in
theorem gX7_newGame_X2_countFences : GoodIn wsX7_newGame (wsV RX7 71 RX2 yX2_countFences wsX2_countFences) := goodIn_app (goodIn_of _ (by decide +kernel)) ggX7_newGame_X2_countFences
set_option maxRecDepth 20000 in
theorem ggX7_newGame_X4_record : GoodIn wsX7_newGame wsX4_record := goodIn_r _ [20, 21, 22, 23, 24, 25, 19, 26, 27, 28, 29, 6, 30, 8, 31, 32, 33, 34, 35, 36, 37, 56, 57, 48, 49, 50, 51, 52, 53, 54, 55] (by decide +kernel) (by decide +kernel)
set_option maxRecDepth 20000 in
theorem gX7_newGame_X4_record : GoodIn wsX7_newGame (wsV RX7 64 RX4 yX4_record wsX4_record) := goodIn_app (goodIn_of _ (by decide +kernel)) ggX7_newGame_X4_record
set_option maxRecDepth 20000 in
theorem ggX7_newGame_X2_begin : GoodIn wsX7_newGame wsX2_begin := goodIn_r _ [41, 8, 31, 32, 33, 48, 49, 50, 51, 52, 53, 54, 55] (by decide +kernel) (by decide +kernel)
set_option maxRecDepth 20000 in
theorem gX7_newGame_X2_begin : GoodIn wsX7_newGame (wsV RX7 75 RX2 yX2_begin wsX2_begin) := goodIn_app (goodIn_of _ (by decide +kernel)) ggX7_newGame_X2_begin
theorem dX7_newGame_0 : decode cX7_newGame 0 = .ok (.aload_n 0, 1) := by decide +kernel
theorem dX7_newGame_1 : decode cX7_newGame 1 = .ok (.getfield 10, 3) := by decide +kernel
theorem dX7_newGame_4 : decode cX7_newGame 4 = .ok (.invokevirtual 71, 3) := by decide +kernel
theorem dX7_newGame_7 : decode cX7_newGame 7 = .ok (.istore_n 1, 1) := by decide +kernel
theorem dX7_newGame_8 : decode cX7_newGame 8 = .ok (.aload_n 0, 1) := by decide +kernel
theorem dX7_newGame_9 : decode cX7_newGame 9 = .ok (.getfield 22, 3) := by decide +kernel
theorem dX7_newGame_12 : decode cX7_newGame 12 = .ok (.aload_n 0, 1) := by decide +kernel
theorem dX7_newGame_13 : decode cX7_newGame 13 = .ok (.getfield 10, 3) := by decide +kernel
theorem dX7_newGame_16 : decode cX7_newGame 16 = .ok (.invokevirtual 64, 3) := by decide +kernel
theorem dX7_newGame_19 : decode cX7_newGame 19 = .ok (.aload_n 0, 1) := by decide +kernel
theorem dX7_newGame_20 : decode cX7_newGame 20 = .ok (.getfield 10, 3) := by decide +kernel
theorem dX7_newGame_23 : decode cX7_newGame 23 = .ok (.invokevirtual 75, 3) := by decide +kernel
theorem dX7_newGame_26 : decode cX7_newGame 26 = .ok (.iload_n 1, 1) := by decide +kernel
theorem dX7_newGame_27 : decode cX7_newGame 27 = .ok (.ireturn, 1) := by decide +kernel
set_option maxRecDepth 20000 in
theorem ggX7_isDrawn_X7_isFence : GoodIn wsX7_isDrawn wsX7_isFence := goodIn_r _ [7] (by decide +kernel) (by decide +kernel)
set_option maxRecDepth 20000 in
theorem gX7_isDrawn_X7_isFence : GoodIn wsX7_isDrawn (va_wsS RX7 44 yX7_isFence wsX7_isFence) := goodIn_app (goodIn_of _ (by decide +kernel)) ggX7_isDrawn_X7_isFence
set_option maxRecDepth 20000 in
theorem ggX7_isDrawn_X3_has : GoodIn wsX7_isDrawn wsX3_has := goodIn_r _ [11] (by decide +kernel) (by decide +kernel)
set_option maxRecDepth 20000 in
theorem gX7_isDrawn_X3_has : GoodIn wsX7_isDrawn (va_wsS RX7 82 yX3_has wsX3_has) := goodIn_app (goodIn_of _ (by decide +kernel)) ggX7_isDrawn_X3_has
theorem dX7_isDrawn_0 : decode cX7_isDrawn 0 = .ok (.iload_n 1, 1) := by decide +kernel
theorem dX7_isDrawn_1 : decode cX7_isDrawn 1 = .ok (.invokestatic 44, 3) := by decide +kernel
theorem dX7_isDrawn_4 : decode cX7_isDrawn 4 = .ok (.ifCond .ne 13, 3) := by decide +kernel
theorem dX7_isDrawn_7 : decode cX7_isDrawn 7 = .ok (.new 48, 3) := by decide +kernel
theorem dX7_isDrawn_10 : decode cX7_isDrawn 10 = .ok (.dup, 1) := by decide +kernel
theorem dX7_isDrawn_11 : decode cX7_isDrawn 11 = .ok (.ldc 50, 2) := by decide +kernel
theorem dX7_isDrawn_13 : decode cX7_isDrawn 13 = .ok (.invokespecial 52, 3) := by decide +kernel
theorem dX7_isDrawn_16 : decode cX7_isDrawn 16 = .ok (.athrow, 1) := by decide +kernel
theorem dX7_isDrawn_17 : decode cX7_isDrawn 17 = .ok (.aload_n 0, 1) := by decide +kernel
theorem dX7_isDrawn_18 : decode cX7_isDrawn 18 = .ok (.getfield 10, 3) := by decide +kernel
theorem dX7_isDrawn_21 : decode cX7_isDrawn 21 = .ok (.getfield 78, 3) := by decide +kernel
theorem dX7_isDrawn_24 : decode cX7_isDrawn 24 = .ok (.iload_n 1, 1) := by decide +kernel
theorem dX7_isDrawn_25 : decode cX7_isDrawn 25 = .ok (.invokestatic 82, 3) := by decide +kernel
theorem dX7_isDrawn_28 : decode cX7_isDrawn 28 = .ok (.ireturn, 1) := by decide +kernel
set_option maxRecDepth 20000 in
theorem ggX7_drawn_X2_countFences : GoodIn wsX7_drawn wsX2_countFences := goodIn_r _ [6, 7, 8, 9, 10, 11, 12, 13, 14, 21, 22, 23, 24, 25, 26, 27, 28] (by decide +kernel) (by decide +kernel)
set_option maxRecDepth 20000 in
theorem gX7_drawn_X2_countFences : GoodIn wsX7_drawn (wsV RX7 71 RX2 yX2_countFences wsX2_countFences) := goodIn_app (goodIn_of _ (by decide +kernel)) ggX7_drawn_X2_countFences
theorem dX7_drawn_0 : decode cX7_drawn 0 = .ok (.aload_n 0, 1) := by decide +kernel
theorem dX7_drawn_1 : decode cX7_drawn 1 = .ok (.getfield 10, 3) := by decide +kernel
theorem dX7_drawn_4 : decode cX7_drawn 4 = .ok (.invokevirtual 71, 3) := by decide +kernel
theorem dX7_drawn_7 : decode cX7_drawn 7 = .ok (.ireturn, 1) := by decide +kernel
set_option maxRecDepth 20000 in
theorem ggX7_fencesOf_X7_isBox : GoodIn wsX7_fencesOf wsX7_isBox := goodIn_r _ [7] (by decide +kernel) (by decide +kernel)
set_option maxRecDepth 20000 in
theorem gX7_fencesOf_X7_isBox : GoodIn wsX7_fencesOf (va_wsS RX7 88 yX7_isBox wsX7_isBox) := goodIn_app (goodIn_of _ (by decide +kernel)) ggX7_fencesOf_X7_isBox
set_option maxRecDepth 20000 in
theorem ggX7_fencesOf_X3_countSides : GoodIn wsX7_fencesOf wsX3_countSides := goodIn_r _ [11, 12, 13, 10, 14, 15, 16, 17, 18, 19, 20, 21] (by decide +kernel) (by decide +kernel)
set_option maxRecDepth 20000 in
theorem gX7_fencesOf_X3_countSides : GoodIn wsX7_fencesOf (va_wsS RX7 93 yX3_countSides wsX3_countSides) := goodIn_app (goodIn_of _ (by decide +kernel)) ggX7_fencesOf_X3_countSides
theorem dX7_fencesOf_0 : decode cX7_fencesOf 0 = .ok (.iload_n 1, 1) := by decide +kernel
theorem dX7_fencesOf_1 : decode cX7_fencesOf 1 = .ok (.invokestatic 88, 3) := by decide +kernel
theorem dX7_fencesOf_4 : decode cX7_fencesOf 4 = .ok (.ifCond .ne 13, 3) := by decide +kernel
theorem dX7_fencesOf_7 : decode cX7_fencesOf 7 = .ok (.new 48, 3) := by decide +kernel
theorem dX7_fencesOf_10 : decode cX7_fencesOf 10 = .ok (.dup, 1) := by decide +kernel
theorem dX7_fencesOf_11 : decode cX7_fencesOf 11 = .ok (.ldc 91, 2) := by decide +kernel
theorem dX7_fencesOf_13 : decode cX7_fencesOf 13 = .ok (.invokespecial 52, 3) := by decide +kernel
theorem dX7_fencesOf_16 : decode cX7_fencesOf 16 = .ok (.athrow, 1) := by decide +kernel
theorem dX7_fencesOf_17 : decode cX7_fencesOf 17 = .ok (.aload_n 0, 1) := by decide +kernel
theorem dX7_fencesOf_18 : decode cX7_fencesOf 18 = .ok (.getfield 10, 3) := by decide +kernel
theorem dX7_fencesOf_21 : decode cX7_fencesOf 21 = .ok (.getfield 78, 3) := by decide +kernel
theorem dX7_fencesOf_24 : decode cX7_fencesOf 24 = .ok (.iload_n 1, 1) := by decide +kernel
theorem dX7_fencesOf_25 : decode cX7_fencesOf 25 = .ok (.invokestatic 93, 3) := by decide +kernel
theorem dX7_fencesOf_28 : decode cX7_fencesOf 28 = .ok (.ireturn, 1) := by decide +kernel
set_option maxRecDepth 20000 in
theorem ggX7_ownerOf_X7_isBox : GoodIn wsX7_ownerOf wsX7_isBox := goodIn_r _ [9] (by decide +kernel) (by decide +kernel)
set_option maxRecDepth 20000 in
theorem gX7_ownerOf_X7_isBox : GoodIn wsX7_ownerOf (va_wsS RX7 88 yX7_isBox wsX7_isBox) := goodIn_app (goodIn_of _ (by decide +kernel)) ggX7_ownerOf_X7_isBox
set_option maxRecDepth 20000 in
theorem ggX7_ownerOf_X3_countSides : GoodIn wsX7_ownerOf wsX3_countSides := goodIn_r _ [13, 14, 15, 12, 16, 17, 18, 19, 20, 21, 22, 23] (by decide +kernel) (by decide +kernel)
set_option maxRecDepth 20000 in
theorem gX7_ownerOf_X3_countSides : GoodIn wsX7_ownerOf (va_wsS RX7 93 yX3_countSides wsX3_countSides) := goodIn_app (goodIn_of _ (by decide +kernel)) ggX7_ownerOf_X3_countSides
set_option maxRecDepth 20000 in
theorem ggX7_ownerOf_X2_closedBy : GoodIn wsX7_ownerOf wsX2_closedBy := goodIn_r _ [28, 29, 30, 40, 41, 42, 43, 44, 45, 46, 47] (by decide +kernel) (by decide +kernel)
set_option maxRecDepth 20000 in
theorem gX7_ownerOf_X2_closedBy : GoodIn wsX7_ownerOf (wsV RX7 102 RX2 yX2_closedBy wsX2_closedBy) := goodIn_app (goodIn_of _ (by decide +kernel)) ggX7_ownerOf_X2_closedBy
set_option maxRecDepth 20000 in
theorem ggX7_ownerOf_X3_has : GoodIn wsX7_ownerOf wsX3_has := goodIn_r _ [33] (by decide +kernel) (by decide +kernel)
set_option maxRecDepth 20000 in
theorem gX7_ownerOf_X3_has : GoodIn wsX7_ownerOf (va_wsS RX7 82 yX3_has wsX3_has) := goodIn_app (goodIn_of _ (by decide +kernel)) ggX7_ownerOf_X3_has
theorem dX7_ownerOf_0 : decode cX7_ownerOf 0 = .ok (.iload_n 1, 1) := by decide +kernel
theorem dX7_ownerOf_1 : decode cX7_ownerOf 1 = .ok (.invokestatic 88, 3) := by decide +kernel
theorem dX7_ownerOf_4 : decode cX7_ownerOf 4 = .ok (.ifCond .ne 13, 3) := by decide +kernel
theorem dX7_ownerOf_7 : decode cX7_ownerOf 7 = .ok (.new 48, 3) := by decide +kernel
theorem dX7_ownerOf_10 : decode cX7_ownerOf 10 = .ok (.dup, 1) := by decide +kernel
theorem dX7_ownerOf_11 : decode cX7_ownerOf 11 = .ok (.ldc 91, 2) := by decide +kernel
theorem dX7_ownerOf_13 : decode cX7_ownerOf 13 = .ok (.invokespecial 52, 3) := by decide +kernel
theorem dX7_ownerOf_16 : decode cX7_ownerOf 16 = .ok (.athrow, 1) := by decide +kernel
theorem dX7_ownerOf_17 : decode cX7_ownerOf 17 = .ok (.aload_n 0, 1) := by decide +kernel
theorem dX7_ownerOf_18 : decode cX7_ownerOf 18 = .ok (.getfield 10, 3) := by decide +kernel
theorem dX7_ownerOf_21 : decode cX7_ownerOf 21 = .ok (.getfield 78, 3) := by decide +kernel
theorem dX7_ownerOf_24 : decode cX7_ownerOf 24 = .ok (.iload_n 1, 1) := by decide +kernel
theorem dX7_ownerOf_25 : decode cX7_ownerOf 25 = .ok (.invokestatic 93, 3) := by decide +kernel
theorem dX7_ownerOf_28 : decode cX7_ownerOf 28 = .ok (.iconst 4, 1) := by decide +kernel
theorem dX7_ownerOf_29 : decode cX7_ownerOf 29 = .ok (.if_icmp .ge 13, 3) := by decide +kernel
theorem dX7_ownerOf_32 : decode cX7_ownerOf 32 = .ok (.new 97, 3) := by decide +kernel
theorem dX7_ownerOf_35 : decode cX7_ownerOf 35 = .ok (.dup, 1) := by decide +kernel
theorem dX7_ownerOf_36 : decode cX7_ownerOf 36 = .ok (.ldc 99, 2) := by decide +kernel
theorem dX7_ownerOf_38 : decode cX7_ownerOf 38 = .ok (.invokespecial 101, 3) := by decide +kernel
theorem dX7_ownerOf_41 : decode cX7_ownerOf 41 = .ok (.athrow, 1) := by decide +kernel
theorem dX7_ownerOf_42 : decode cX7_ownerOf 42 = .ok (.aload_n 0, 1) := by decide +kernel
theorem dX7_ownerOf_43 : decode cX7_ownerOf 43 = .ok (.getfield 10, 3) := by decide +kernel
theorem dX7_ownerOf_46 : decode cX7_ownerOf 46 = .ok (.iconst 0, 1) := by decide +kernel
theorem dX7_ownerOf_47 : decode cX7_ownerOf 47 = .ok (.invokevirtual 102, 3) := by decide +kernel
theorem dX7_ownerOf_50 : decode cX7_ownerOf 50 = .ok (.iload_n 1, 1) := by decide +kernel
theorem dX7_ownerOf_51 : decode cX7_ownerOf 51 = .ok (.invokestatic 82, 3) := by decide +kernel
theorem dX7_ownerOf_54 : decode cX7_ownerOf 54 = .ok (.ifCond .eq 7, 3) := by decide +kernel
theorem dX7_ownerOf_57 : decode cX7_ownerOf 57 = .ok (.iconst 0, 1) := by decide +kernel
theorem dX7_ownerOf_58 : decode cX7_ownerOf 58 = .ok (.goto 4, 3) := by decide +kernel
theorem dX7_ownerOf_61 : decode cX7_ownerOf 61 = .ok (.iconst 1, 1) := by decide +kernel
theorem dX7_ownerOf_62 : decode cX7_ownerOf 62 = .ok (.ireturn, 1) := by decide +kernel
set_option maxRecDepth 20000 in
theorem ggX7_boxesOf_X7_isPlayer : GoodIn wsX7_boxesOf wsX7_isPlayer := goodIn_r _ [7] (by decide +kernel) (by decide +kernel)
set_option maxRecDepth 20000 in
theorem gX7_boxesOf_X7_isPlayer : GoodIn wsX7_boxesOf (va_wsS RX7 105 yX7_isPlayer wsX7_isPlayer) := goodIn_app (goodIn_of _ (by decide +kernel)) ggX7_boxesOf_X7_isPlayer
set_option maxRecDepth 20000 in
theorem ggX7_boxesOf_X2_closedBy : GoodIn wsX7_boxesOf wsX2_closedBy := goodIn_r _ [12, 13, 14, 28, 29, 30, 31, 32, 33, 34, 35] (by decide +kernel) (by decide +kernel)
set_option maxRecDepth 20000 in
theorem gX7_boxesOf_X2_closedBy : GoodIn wsX7_boxesOf (wsV RX7 102 RX2 yX2_closedBy wsX2_closedBy) := goodIn_app (goodIn_of _ (by decide +kernel)) ggX7_boxesOf_X2_closedBy
set_option maxRecDepth 20000 in
theorem ggX7_boxesOf_J6_bitCount_0f7a4 : GoodIn wsX7_boxesOf wsJ6_bitCount_0f7a4 := goodIn_r _ [18, 19, 20, 21] (by decide +kernel) (by decide +kernel)
set_option maxRecDepth 20000 in
theorem gX7_boxesOf_J6_bitCount_0f7a4 : GoodIn wsX7_boxesOf (va_wsS RX7 110 yJ6_bitCount_0f7a4 wsJ6_bitCount_0f7a4) := goodIn_app (goodIn_of _ (by decide +kernel)) ggX7_boxesOf_J6_bitCount_0f7a4
theorem dX7_boxesOf_0 : decode cX7_boxesOf 0 = .ok (.iload_n 1, 1) := by decide +kernel
theorem dX7_boxesOf_1 : decode cX7_boxesOf 1 = .ok (.invokestatic 105, 3) := by decide +kernel
theorem dX7_boxesOf_4 : decode cX7_boxesOf 4 = .ok (.ifCond .ne 13, 3) := by decide +kernel
theorem dX7_boxesOf_7 : decode cX7_boxesOf 7 = .ok (.new 48, 3) := by decide +kernel
theorem dX7_boxesOf_10 : decode cX7_boxesOf 10 = .ok (.dup, 1) := by decide +kernel
theorem dX7_boxesOf_11 : decode cX7_boxesOf 11 = .ok (.ldc 108, 2) := by decide +kernel
theorem dX7_boxesOf_13 : decode cX7_boxesOf 13 = .ok (.invokespecial 52, 3) := by decide +kernel
theorem dX7_boxesOf_16 : decode cX7_boxesOf 16 = .ok (.athrow, 1) := by decide +kernel
theorem dX7_boxesOf_17 : decode cX7_boxesOf 17 = .ok (.aload_n 0, 1) := by decide +kernel
theorem dX7_boxesOf_18 : decode cX7_boxesOf 18 = .ok (.getfield 10, 3) := by decide +kernel
theorem dX7_boxesOf_21 : decode cX7_boxesOf 21 = .ok (.iload_n 1, 1) := by decide +kernel
theorem dX7_boxesOf_22 : decode cX7_boxesOf 22 = .ok (.invokevirtual 102, 3) := by decide +kernel
theorem dX7_boxesOf_25 : decode cX7_boxesOf 25 = .ok (.invokestatic 110, 3) := by decide +kernel
theorem dX7_boxesOf_28 : decode cX7_boxesOf 28 = .ok (.ireturn, 1) := by decide +kernel
set_option maxRecDepth 20000 in
theorem ggX7_boxesWith_X3_boxesHaving : GoodIn wsX7_boxesWith wsX3_boxesHaving := goodIn_r _ [7, 8, 9, 6, 10, 11, 12, 13, 14, 15, 16, 17, 18, 19, 20] (by decide +kernel) (by decide +kernel)
set_option maxRecDepth 20000 in
theorem gX7_boxesWith_X3_boxesHaving : GoodIn wsX7_boxesWith (va_wsS RX7 117 yX3_boxesHaving wsX3_boxesHaving) := goodIn_app (goodIn_of _ (by decide +kernel)) ggX7_boxesWith_X3_boxesHaving
set_option maxRecDepth 20000 in
theorem ggX7_boxesWith_J6_bitCount_0f7a4 : GoodIn wsX7_boxesWith wsJ6_bitCount_0f7a4 := goodIn_r _ [17, 18, 19, 20] (by decide +kernel) (by decide +kernel)
set_option maxRecDepth 20000 in
theorem gX7_boxesWith_J6_bitCount_0f7a4 : GoodIn wsX7_boxesWith (va_wsS RX7 110 yJ6_bitCount_0f7a4 wsJ6_bitCount_0f7a4) := goodIn_app (goodIn_of _ (by decide +kernel)) ggX7_boxesWith_J6_bitCount_0f7a4
theorem dX7_boxesWith_0 : decode cX7_boxesWith 0 = .ok (.iload_n 1, 1) := by decide +kernel
theorem dX7_boxesWith_1 : decode cX7_boxesWith 1 = .ok (.ifCond .lt 8, 3) := by decide +kernel
theorem dX7_boxesWith_4 : decode cX7_boxesWith 4 = .ok (.iload_n 1, 1) := by decide +kernel
theorem dX7_boxesWith_5 : decode cX7_boxesWith 5 = .ok (.iconst 4, 1) := by decide +kernel
theorem dX7_boxesWith_6 : decode cX7_boxesWith 6 = .ok (.if_icmp .le 13, 3) := by decide +kernel
theorem dX7_boxesWith_9 : decode cX7_boxesWith 9 = .ok (.new 48, 3) := by decide +kernel
theorem dX7_boxesWith_12 : decode cX7_boxesWith 12 = .ok (.dup, 1) := by decide +kernel
theorem dX7_boxesWith_13 : decode cX7_boxesWith 13 = .ok (.ldc 115, 2) := by decide +kernel
theorem dX7_boxesWith_15 : decode cX7_boxesWith 15 = .ok (.invokespecial 52, 3) := by decide +kernel
theorem dX7_boxesWith_18 : decode cX7_boxesWith 18 = .ok (.athrow, 1) := by decide +kernel
theorem dX7_boxesWith_19 : decode cX7_boxesWith 19 = .ok (.aload_n 0, 1) := by decide +kernel
theorem dX7_boxesWith_20 : decode cX7_boxesWith 20 = .ok (.getfield 10, 3) := by decide +kernel
theorem dX7_boxesWith_23 : decode cX7_boxesWith 23 = .ok (.getfield 78, 3) := by decide +kernel
theorem dX7_boxesWith_26 : decode cX7_boxesWith 26 = .ok (.iload_n 1, 1) := by decide +kernel
theorem dX7_boxesWith_27 : decode cX7_boxesWith 27 = .ok (.invokestatic 117, 3) := by decide +kernel
theorem dX7_boxesWith_30 : decode cX7_boxesWith 30 = .ok (.invokestatic 110, 3) := by decide +kernel
theorem dX7_boxesWith_33 : decode cX7_boxesWith 33 = .ok (.ireturn, 1) := by decide +kernel
theorem dX7_turn_0 : decode cX7_turn 0 = .ok (.aload_n 0, 1) := by decide +kernel
theorem dX7_turn_1 : decode cX7_turn 1 = .ok (.getfield 10, 3) := by decide +kernel
theorem dX7_turn_4 : decode cX7_turn 4 = .ok (.getfield 120, 3) := by decide +kernel
theorem dX7_turn_7 : decode cX7_turn 7 = .ok (.ireturn, 1) := by decide +kernel
set_option maxRecDepth 20000 in
theorem ggX7_whyNot_X7_isFence : GoodIn wsX7_whyNot wsX7_isFence := goodIn_r _ [7] (by decide +kernel) (by decide +kernel)
set_option maxRecDepth 20000 in
theorem gX7_whyNot_X7_isFence : GoodIn wsX7_whyNot (va_wsS RX7 44 yX7_isFence wsX7_isFence) := goodIn_app (goodIn_of _ (by decide +kernel)) ggX7_whyNot_X7_isFence
set_option maxRecDepth 20000 in
theorem ggX7_whyNot_X2_refusal : GoodIn wsX7_whyNot wsX2_refusal := goodIn_r _ [12, 13, 14, 15, 16, 11, 17, 18, 19, 20, 21, 22, 29, 30, 31, 32, 33, 34, 35, 36] (by decide +kernel) (by decide +kernel)
set_option maxRecDepth 20000 in
theorem gX7_whyNot_X2_refusal : GoodIn wsX7_whyNot (wsV RX7 55 RX2 yX2_refusal wsX2_refusal) := goodIn_app (goodIn_of _ (by decide +kernel)) ggX7_whyNot_X2_refusal
theorem dX7_whyNot_0 : decode cX7_whyNot 0 = .ok (.iload_n 1, 1) := by decide +kernel
theorem dX7_whyNot_1 : decode cX7_whyNot 1 = .ok (.invokestatic 44, 3) := by decide +kernel
theorem dX7_whyNot_4 : decode cX7_whyNot 4 = .ok (.ifCond .ne 13, 3) := by decide +kernel
theorem dX7_whyNot_7 : decode cX7_whyNot 7 = .ok (.new 48, 3) := by decide +kernel
theorem dX7_whyNot_10 : decode cX7_whyNot 10 = .ok (.dup, 1) := by decide +kernel
theorem dX7_whyNot_11 : decode cX7_whyNot 11 = .ok (.ldc 50, 2) := by decide +kernel
theorem dX7_whyNot_13 : decode cX7_whyNot 13 = .ok (.invokespecial 52, 3) := by decide +kernel
theorem dX7_whyNot_16 : decode cX7_whyNot 16 = .ok (.athrow, 1) := by decide +kernel
theorem dX7_whyNot_17 : decode cX7_whyNot 17 = .ok (.aload_n 0, 1) := by decide +kernel
theorem dX7_whyNot_18 : decode cX7_whyNot 18 = .ok (.getfield 10, 3) := by decide +kernel
theorem dX7_whyNot_21 : decode cX7_whyNot 21 = .ok (.iload_n 1, 1) := by decide +kernel
theorem dX7_whyNot_22 : decode cX7_whyNot 22 = .ok (.invokevirtual 55, 3) := by decide +kernel
theorem dX7_whyNot_25 : decode cX7_whyNot 25 = .ok (.ireturn, 1) := by decide +kernel
set_option maxRecDepth 20000 in
theorem ggX7_isOver_X2_hasEnded : GoodIn wsX7_isOver wsX2_hasEnded := goodIn_r _ [6, 7, 8, 15, 16, 17, 18, 19, 20, 21, 22] (by decide +kernel) (by decide +kernel)
set_option maxRecDepth 20000 in
theorem gX7_isOver_X2_hasEnded : GoodIn wsX7_isOver (wsV RX7 123 RX2 yX2_hasEnded wsX2_hasEnded) := goodIn_app (goodIn_of _ (by decide +kernel)) ggX7_isOver_X2_hasEnded
theorem dX7_isOver_0 : decode cX7_isOver 0 = .ok (.aload_n 0, 1) := by decide +kernel
theorem dX7_isOver_1 : decode cX7_isOver 1 = .ok (.getfield 10, 3) := by decide +kernel
theorem dX7_isOver_4 : decode cX7_isOver 4 = .ok (.invokevirtual 123, 3) := by decide +kernel
theorem dX7_isOver_7 : decode cX7_isOver 7 = .ok (.ireturn, 1) := by decide +kernel
set_option maxRecDepth 20000 in
theorem ggX7_canTake_X6_oneByOne : GoodIn wsX7_canTake wsX6_oneByOne := goodIn_r _ [5, 6, 7, 4, 8, 9, 10, 11, 12, 13, 14, 15, 16, 17, 18, 19, 20, 21, 22, 23, 24, 25, 26, 27, 28, 29, 30, 31, 32, 33, 34, 35, 36, 37, 38, 39, 40, 41, 42, 43, 44, 45] (by decide +kernel) (by decide +kernel)
set_option maxRecDepth 20000 in
theorem gX7_canTake_X6_oneByOne : GoodIn wsX7_canTake (va_wsS RX7 127 yX6_oneByOne wsX6_oneByOne) := goodIn_app (goodIn_of _ (by decide +kernel)) ggX7_canTake_X6_oneByOne
theorem dX7_canTake_0 : decode cX7_canTake 0 = .ok (.aload_n 0, 1) := by decide +kernel
theorem dX7_canTake_1 : decode cX7_canTake 1 = .ok (.getfield 10, 3) := by decide +kernel
theorem dX7_canTake_4 : decode cX7_canTake 4 = .ok (.getfield 78, 3) := by decide +kernel
theorem dX7_canTake_7 : decode cX7_canTake 7 = .ok (.invokestatic 127, 3) := by decide +kernel
theorem dX7_canTake_10 : decode cX7_canTake 10 = .ok (.ireturn, 1) := by decide +kernel
set_option maxRecDepth 20000 in
theorem ggX7_canTakeByRounds_X6_byRounds : GoodIn wsX7_canTakeByRounds wsX6_byRounds := goodIn_r _ [5, 6, 7, 8, 9, 10, 11, 12, 13, 14, 15, 16, 17, 18, 19, 20, 21, 22, 23, 24, 25, 4, 26, 27, 28] (by decide +kernel) (by decide +kernel)
set_option maxRecDepth 20000 in
theorem gX7_canTakeByRounds_X6_byRounds : GoodIn wsX7_canTakeByRounds (va_wsS RX7 132 yX6_byRounds wsX6_byRounds) := goodIn_app (goodIn_of _ (by decide +kernel)) ggX7_canTakeByRounds_X6_byRounds
theorem dX7_canTakeByRounds_0 : decode cX7_canTakeByRounds 0 = .ok (.aload_n 0, 1) := by decide +kernel
theorem dX7_canTakeByRounds_1 : decode cX7_canTakeByRounds 1 = .ok (.getfield 10, 3) := by decide +kernel
theorem dX7_canTakeByRounds_4 : decode cX7_canTakeByRounds 4 = .ok (.getfield 78, 3) := by decide +kernel
theorem dX7_canTakeByRounds_7 : decode cX7_canTakeByRounds 7 = .ok (.invokestatic 132, 3) := by decide +kernel
theorem dX7_canTakeByRounds_10 : decode cX7_canTakeByRounds 10 = .ok (.ireturn, 1) := by decide +kernel
set_option maxRecDepth 20000 in
theorem ggX7_takingFence_X6_lastFences : GoodIn wsX7_takingFence wsX6_lastFences := goodIn_r _ [7, 8, 9, 10, 11, 12, 13, 14, 15, 16, 17, 18, 19, 20, 21, 22] (by decide +kernel) (by decide +kernel)
set_option maxRecDepth 20000 in
theorem gX7_takingFence_X6_lastFences : GoodIn wsX7_takingFence (va_wsS RX7 135 yX6_lastFences wsX6_lastFences) := goodIn_app (goodIn_of _ (by decide +kernel)) ggX7_takingFence_X6_lastFences
set_option maxRecDepth 20000 in
theorem ggX7_takingFence_X3_lowestFence : GoodIn wsX7_takingFence wsX3_lowestFence := goodIn_r _ [25, 26, 27, 10, 28] (by decide +kernel) (by decide +kernel)
set_option maxRecDepth 20000 in
theorem gX7_takingFence_X3_lowestFence : GoodIn wsX7_takingFence (va_wsS RX7 138 yX3_lowestFence wsX3_lowestFence) := goodIn_app (goodIn_of _ (by decide +kernel)) ggX7_takingFence_X3_lowestFence
theorem dX7_takingFence_0 : decode cX7_takingFence 0 = .ok (.aload_n 0, 1) := by decide +kernel
theorem dX7_takingFence_1 : decode cX7_takingFence 1 = .ok (.getfield 10, 3) := by decide +kernel
theorem dX7_takingFence_4 : decode cX7_takingFence 4 = .ok (.getfield 78, 3) := by decide +kernel
theorem dX7_takingFence_7 : decode cX7_takingFence 7 = .ok (.invokestatic 135, 3) := by decide +kernel
theorem dX7_takingFence_10 : decode cX7_takingFence 10 = .ok (.invokestatic 138, 3) := by decide +kernel
theorem dX7_takingFence_13 : decode cX7_takingFence 13 = .ok (.istore_n 1, 1) := by decide +kernel
theorem dX7_takingFence_14 : decode cX7_takingFence 14 = .ok (.iload_n 1, 1) := by decide +kernel
theorem dX7_takingFence_15 : decode cX7_takingFence 15 = .ok (.iconst (-1), 1) := by decide +kernel
theorem dX7_takingFence_16 : decode cX7_takingFence 16 = .ok (.if_icmp .ne 13, 3) := by decide +kernel
theorem dX7_takingFence_19 : decode cX7_takingFence 19 = .ok (.new 97, 3) := by decide +kernel
theorem dX7_takingFence_22 : decode cX7_takingFence 22 = .ok (.dup, 1) := by decide +kernel
theorem dX7_takingFence_23 : decode cX7_takingFence 23 = .ok (.ldc 141, 2) := by decide +kernel
theorem dX7_takingFence_25 : decode cX7_takingFence 25 = .ok (.invokespecial 101, 3) := by decide +kernel
theorem dX7_takingFence_28 : decode cX7_takingFence 28 = .ok (.athrow, 1) := by decide +kernel
theorem dX7_takingFence_29 : decode cX7_takingFence 29 = .ok (.iload_n 1, 1) := by decide +kernel
theorem dX7_takingFence_30 : decode cX7_takingFence 30 = .ok (.ireturn, 1) := by decide +kernel
set_option maxRecDepth 20000 in
theorem ggX7_isSafe_X7_isFence : GoodIn wsX7_isSafe wsX7_isFence := goodIn_r _ [7] (by decide +kernel) (by decide +kernel)
set_option maxRecDepth 20000 in
theorem gX7_isSafe_X7_isFence : GoodIn wsX7_isSafe (va_wsS RX7 44 yX7_isFence wsX7_isFence) := goodIn_app (goodIn_of _ (by decide +kernel)) ggX7_isSafe_X7_isFence
set_option maxRecDepth 20000 in
theorem ggX7_isSafe_X6_safe : GoodIn wsX7_isSafe wsX6_safe := goodIn_r _ [11, 12, 13, 14, 15, 16, 17, 18, 19, 20, 21, 22, 23, 24, 25, 26, 27, 28, 29, 30, 31, 32, 33, 34, 35, 36, 37, 38, 39, 40] (by decide +kernel) (by decide +kernel)
set_option maxRecDepth 20000 in
theorem gX7_isSafe_X6_safe : GoodIn wsX7_isSafe (va_wsS RX7 143 yX6_safe wsX6_safe) := goodIn_app (goodIn_of _ (by decide +kernel)) ggX7_isSafe_X6_safe
set_option maxRecDepth 20000 in
theorem ggX7_isSafe_X3_has : GoodIn wsX7_isSafe wsX3_has := goodIn_r _ [31] (by decide +kernel) (by decide +kernel)
set_option maxRecDepth 20000 in
theorem gX7_isSafe_X3_has : GoodIn wsX7_isSafe (va_wsS RX7 82 yX3_has wsX3_has) := goodIn_app (goodIn_of _ (by decide +kernel)) ggX7_isSafe_X3_has
theorem dX7_isSafe_0 : decode cX7_isSafe 0 = .ok (.iload_n 1, 1) := by decide +kernel
theorem dX7_isSafe_1 : decode cX7_isSafe 1 = .ok (.invokestatic 44, 3) := by decide +kernel
theorem dX7_isSafe_4 : decode cX7_isSafe 4 = .ok (.ifCond .ne 13, 3) := by decide +kernel
theorem dX7_isSafe_7 : decode cX7_isSafe 7 = .ok (.new 48, 3) := by decide +kernel
theorem dX7_isSafe_10 : decode cX7_isSafe 10 = .ok (.dup, 1) := by decide +kernel
theorem dX7_isSafe_11 : decode cX7_isSafe 11 = .ok (.ldc 50, 2) := by decide +kernel
theorem dX7_isSafe_13 : decode cX7_isSafe 13 = .ok (.invokespecial 52, 3) := by decide +kernel
theorem dX7_isSafe_16 : decode cX7_isSafe 16 = .ok (.athrow, 1) := by decide +kernel
theorem dX7_isSafe_17 : decode cX7_isSafe 17 = .ok (.aload_n 0, 1) := by decide +kernel
theorem dX7_isSafe_18 : decode cX7_isSafe 18 = .ok (.getfield 10, 3) := by decide +kernel
theorem dX7_isSafe_21 : decode cX7_isSafe 21 = .ok (.getfield 78, 3) := by decide +kernel
theorem dX7_isSafe_24 : decode cX7_isSafe 24 = .ok (.invokestatic 143, 3) := by decide +kernel
theorem dX7_isSafe_27 : decode cX7_isSafe 27 = .ok (.iload_n 1, 1) := by decide +kernel
theorem dX7_isSafe_28 : decode cX7_isSafe 28 = .ok (.invokestatic 82, 3) := by decide +kernel
theorem dX7_isSafe_31 : decode cX7_isSafe 31 = .ok (.ireturn, 1) := by decide +kernel
set_option maxRecDepth 20000 in
theorem ggX7_safeFences_X6_safe : GoodIn wsX7_safeFences wsX6_safe := goodIn_r _ [5, 6, 7, 8, 9, 10, 11, 12, 13, 14, 15, 16, 17, 18, 19, 20, 21, 22, 23, 24, 25, 26, 27, 28, 29, 30, 31, 32, 33, 34] (by decide +kernel) (by decide +kernel)
set_option maxRecDepth 20000 in
theorem gX7_safeFences_X6_safe : GoodIn wsX7_safeFences (va_wsS RX7 143 yX6_safe wsX6_safe) := goodIn_app (goodIn_of _ (by decide +kernel)) ggX7_safeFences_X6_safe
set_option maxRecDepth 20000 in
theorem ggX7_safeFences_J6_bitCount_0f7a4 : GoodIn wsX7_safeFences wsJ6_bitCount_0f7a4 := goodIn_r _ [19, 20, 21, 22] (by decide +kernel) (by decide +kernel)
set_option maxRecDepth 20000 in
theorem gX7_safeFences_J6_bitCount_0f7a4 : GoodIn wsX7_safeFences (va_wsS RX7 110 yJ6_bitCount_0f7a4 wsJ6_bitCount_0f7a4) := goodIn_app (goodIn_of _ (by decide +kernel)) ggX7_safeFences_J6_bitCount_0f7a4
theorem dX7_safeFences_0 : decode cX7_safeFences 0 = .ok (.aload_n 0, 1) := by decide +kernel
theorem dX7_safeFences_1 : decode cX7_safeFences 1 = .ok (.getfield 10, 3) := by decide +kernel
theorem dX7_safeFences_4 : decode cX7_safeFences 4 = .ok (.getfield 78, 3) := by decide +kernel
theorem dX7_safeFences_7 : decode cX7_safeFences 7 = .ok (.invokestatic 143, 3) := by decide +kernel
theorem dX7_safeFences_10 : decode cX7_safeFences 10 = .ok (.invokestatic 110, 3) := by decide +kernel
theorem dX7_safeFences_13 : decode cX7_safeFences 13 = .ok (.ireturn, 1) := by decide +kernel
set_option maxRecDepth 20000 in
theorem ggX7_safeInRow_X6_safeOneByOne : GoodIn wsX7_safeInRow wsX6_safeOneByOne := goodIn_r _ [5, 6, 7, 4, 8, 9, 10, 11, 12, 13, 14, 15, 16, 17, 18, 19, 20, 21, 22, 23, 24, 25, 26, 27, 28, 29, 30, 31, 32, 33, 34, 35, 36, 37, 38, 39, 40, 41] (by decide +kernel) (by decide +kernel)
set_option maxRecDepth 20000 in
theorem gX7_safeInRow_X6_safeOneByOne : GoodIn wsX7_safeInRow (va_wsS RX7 146 yX6_safeOneByOne wsX6_safeOneByOne) := goodIn_app (goodIn_of _ (by decide +kernel)) ggX7_safeInRow_X6_safeOneByOne
theorem dX7_safeInRow_0 : decode cX7_safeInRow 0 = .ok (.aload_n 0, 1) := by decide +kernel
theorem dX7_safeInRow_1 : decode cX7_safeInRow 1 = .ok (.getfield 10, 3) := by decide +kernel
theorem dX7_safeInRow_4 : decode cX7_safeInRow 4 = .ok (.getfield 78, 3) := by decide +kernel
theorem dX7_safeInRow_7 : decode cX7_safeInRow 7 = .ok (.invokestatic 146, 3) := by decide +kernel
theorem dX7_safeInRow_10 : decode cX7_safeInRow 10 = .ok (.ireturn, 1) := by decide +kernel
set_option maxRecDepth 20000 in
theorem ggX7_gives_X7_isFence : GoodIn wsX7_gives wsX7_isFence := goodIn_r _ [9] (by decide +kernel) (by decide +kernel)
set_option maxRecDepth 20000 in
theorem gX7_gives_X7_isFence : GoodIn wsX7_gives (va_wsS RX7 44 yX7_isFence wsX7_isFence) := goodIn_app (goodIn_of _ (by decide +kernel)) ggX7_gives_X7_isFence
set_option maxRecDepth 20000 in
theorem ggX7_gives_X3_has : GoodIn wsX7_gives wsX3_has := goodIn_r _ [13] (by decide +kernel) (by decide +kernel)
set_option maxRecDepth 20000 in
theorem gX7_gives_X3_has : GoodIn wsX7_gives (va_wsS RX7 82 yX3_has wsX3_has) := goodIn_app (goodIn_of _ (by decide +kernel)) ggX7_gives_X3_has
set_option maxRecDepth 20000 in
theorem ggX7_gives_X6_givenBy : GoodIn wsX7_gives wsX6_givenBy := goodIn_r _ [17, 18, 19, 16, 20, 21, 22, 23, 24, 25, 12, 26, 27, 28, 29, 30, 31, 32, 33, 34, 35, 36, 37, 38, 39, 40, 41, 11, 13, 42, 43, 44, 45, 46, 47, 48, 49, 50, 51, 52, 53, 54, 55, 56, 57] (by decide +kernel) (by decide +kernel)
set_option maxRecDepth 20000 in
theorem gX7_gives_X6_givenBy : GoodIn wsX7_gives (va_wsS RX7 151 yX6_givenBy wsX6_givenBy) := goodIn_app (goodIn_of _ (by decide +kernel)) ggX7_gives_X6_givenBy
theorem dX7_gives_0 : decode cX7_gives 0 = .ok (.iload_n 1, 1) := by decide +kernel
theorem dX7_gives_1 : decode cX7_gives 1 = .ok (.invokestatic 44, 3) := by decide +kernel
theorem dX7_gives_4 : decode cX7_gives 4 = .ok (.ifCond .ne 13, 3) := by decide +kernel
theorem dX7_gives_7 : decode cX7_gives 7 = .ok (.new 48, 3) := by decide +kernel
theorem dX7_gives_10 : decode cX7_gives 10 = .ok (.dup, 1) := by decide +kernel
theorem dX7_gives_11 : decode cX7_gives 11 = .ok (.ldc 50, 2) := by decide +kernel
theorem dX7_gives_13 : decode cX7_gives 13 = .ok (.invokespecial 52, 3) := by decide +kernel
theorem dX7_gives_16 : decode cX7_gives 16 = .ok (.athrow, 1) := by decide +kernel
theorem dX7_gives_17 : decode cX7_gives 17 = .ok (.aload_n 0, 1) := by decide +kernel
theorem dX7_gives_18 : decode cX7_gives 18 = .ok (.getfield 10, 3) := by decide +kernel
theorem dX7_gives_21 : decode cX7_gives 21 = .ok (.getfield 78, 3) := by decide +kernel
theorem dX7_gives_24 : decode cX7_gives 24 = .ok (.iload_n 1, 1) := by decide +kernel
theorem dX7_gives_25 : decode cX7_gives 25 = .ok (.invokestatic 82, 3) := by decide +kernel
theorem dX7_gives_28 : decode cX7_gives 28 = .ok (.ifCond .eq 13, 3) := by decide +kernel
theorem dX7_gives_31 : decode cX7_gives 31 = .ok (.new 59, 3) := by decide +kernel
theorem dX7_gives_34 : decode cX7_gives 34 = .ok (.dup, 1) := by decide +kernel
theorem dX7_gives_35 : decode cX7_gives 35 = .ok (.ldc 149, 2) := by decide +kernel
theorem dX7_gives_37 : decode cX7_gives 37 = .ok (.invokespecial 63, 3) := by decide +kernel
theorem dX7_gives_40 : decode cX7_gives 40 = .ok (.athrow, 1) := by decide +kernel
theorem dX7_gives_41 : decode cX7_gives 41 = .ok (.aload_n 0, 1) := by decide +kernel
theorem dX7_gives_42 : decode cX7_gives 42 = .ok (.getfield 10, 3) := by decide +kernel
theorem dX7_gives_45 : decode cX7_gives 45 = .ok (.getfield 78, 3) := by decide +kernel
theorem dX7_gives_48 : decode cX7_gives 48 = .ok (.iload_n 1, 1) := by decide +kernel
theorem dX7_gives_49 : decode cX7_gives 49 = .ok (.invokestatic 151, 3) := by decide +kernel
theorem dX7_gives_52 : decode cX7_gives 52 = .ok (.ireturn, 1) := by decide +kernel
set_option maxRecDepth 20000 in
theorem ggX7_leastSacrifice_X6_leastGiving : GoodIn wsX7_leastSacrifice wsX6_leastGiving := goodIn_r _ [7, 8, 9, 10, 11, 12, 13, 6, 14, 15, 16, 17, 18, 19, 20, 21, 22, 23, 24, 25, 26, 27, 28, 29, 30, 31, 32, 33, 34, 35, 36, 37, 38, 39, 40, 41, 42, 43, 44, 45, 46, 47, 48, 49, 50, 51, 52, 53, 54] (by decide +kernel) (by decide +kernel)
set_option maxRecDepth 20000 in
theorem gX7_leastSacrifice_X6_leastGiving : GoodIn wsX7_leastSacrifice (va_wsS RX7 154 yX6_leastGiving wsX6_leastGiving) := goodIn_app (goodIn_of _ (by decide +kernel)) ggX7_leastSacrifice_X6_leastGiving
theorem dX7_leastSacrifice_0 : decode cX7_leastSacrifice 0 = .ok (.aload_n 0, 1) := by decide +kernel
theorem dX7_leastSacrifice_1 : decode cX7_leastSacrifice 1 = .ok (.getfield 10, 3) := by decide +kernel
theorem dX7_leastSacrifice_4 : decode cX7_leastSacrifice 4 = .ok (.getfield 78, 3) := by decide +kernel
theorem dX7_leastSacrifice_7 : decode cX7_leastSacrifice 7 = .ok (.invokestatic 154, 3) := by decide +kernel
theorem dX7_leastSacrifice_10 : decode cX7_leastSacrifice 10 = .ok (.istore_n 1, 1) := by decide +kernel
theorem dX7_leastSacrifice_11 : decode cX7_leastSacrifice 11 = .ok (.iload_n 1, 1) := by decide +kernel
theorem dX7_leastSacrifice_12 : decode cX7_leastSacrifice 12 = .ok (.iconst (-1), 1) := by decide +kernel
theorem dX7_leastSacrifice_13 : decode cX7_leastSacrifice 13 = .ok (.if_icmp .ne 13, 3) := by decide +kernel
theorem dX7_leastSacrifice_16 : decode cX7_leastSacrifice 16 = .ok (.new 97, 3) := by decide +kernel
theorem dX7_leastSacrifice_19 : decode cX7_leastSacrifice 19 = .ok (.dup, 1) := by decide +kernel
theorem dX7_leastSacrifice_20 : decode cX7_leastSacrifice 20 = .ok (.ldc 157, 2) := by decide +kernel
theorem dX7_leastSacrifice_22 : decode cX7_leastSacrifice 22 = .ok (.invokespecial 101, 3) := by decide +kernel
theorem dX7_leastSacrifice_25 : decode cX7_leastSacrifice 25 = .ok (.athrow, 1) := by decide +kernel
theorem dX7_leastSacrifice_26 : decode cX7_leastSacrifice 26 = .ok (.iload_n 1, 1) := by decide +kernel
theorem dX7_leastSacrifice_27 : decode cX7_leastSacrifice 27 = .ok (.ireturn, 1) := by decide +kernel
set_option maxRecDepth 20000 in
theorem ggX7_chains_X0_count : GoodIn wsX7_chains wsX0_count := goodIn_r _ [5, 6, 7, 8, 9, 10, 11, 12, 13, 14, 15, 16, 17, 18, 19, 20, 21, 22, 23, 24, 25, 26, 27, 4, 28, 29, 30, 31, 32, 33, 34, 35, 36, 37, 38, 39, 40, 41, 42, 43, 44, 45, 46, 47, 48, 49, 50] (by decide +kernel) (by decide +kernel)
set_option maxRecDepth 20000 in
theorem gX7_chains_X0_count : GoodIn wsX7_chains (va_wsS RX7 159 yX0_count wsX0_count) := goodIn_app (goodIn_of _ (by decide +kernel)) ggX7_chains_X0_count
theorem dX7_chains_0 : decode cX7_chains 0 = .ok (.aload_n 0, 1) := by decide +kernel
theorem dX7_chains_1 : decode cX7_chains 1 = .ok (.getfield 10, 3) := by decide +kernel
theorem dX7_chains_4 : decode cX7_chains 4 = .ok (.getfield 78, 3) := by decide +kernel
theorem dX7_chains_7 : decode cX7_chains 7 = .ok (.iconst 0, 1) := by decide +kernel
theorem dX7_chains_8 : decode cX7_chains 8 = .ok (.invokestatic 159, 3) := by decide +kernel
theorem dX7_chains_11 : decode cX7_chains 11 = .ok (.aload_n 0, 1) := by decide +kernel
theorem dX7_chains_12 : decode cX7_chains 12 = .ok (.getfield 10, 3) := by decide +kernel
theorem dX7_chains_15 : decode cX7_chains 15 = .ok (.getfield 78, 3) := by decide +kernel
theorem dX7_chains_18 : decode cX7_chains 18 = .ok (.iconst 1, 1) := by decide +kernel
theorem dX7_chains_19 : decode cX7_chains 19 = .ok (.invokestatic 159, 3) := by decide +kernel
theorem dX7_chains_22 : decode cX7_chains 22 = .ok (.iadd, 1) := by decide +kernel
theorem dX7_chains_23 : decode cX7_chains 23 = .ok (.aload_n 0, 1) := by decide +kernel
theorem dX7_chains_24 : decode cX7_chains 24 = .ok (.getfield 10, 3) := by decide +kernel
theorem dX7_chains_27 : decode cX7_chains 27 = .ok (.getfield 78, 3) := by decide +kernel
theorem dX7_chains_30 : decode cX7_chains 30 = .ok (.iconst 2, 1) := by decide +kernel
theorem dX7_chains_31 : decode cX7_chains 31 = .ok (.invokestatic 159, 3) := by decide +kernel
theorem dX7_chains_34 : decode cX7_chains 34 = .ok (.iadd, 1) := by decide +kernel
theorem dX7_chains_35 : decode cX7_chains 35 = .ok (.ireturn, 1) := by decide +kernel
set_option maxRecDepth 20000 in
theorem ggX7_chainOf_X7_isBox : GoodIn wsX7_chainOf wsX7_isBox := goodIn_r _ [9] (by decide +kernel) (by decide +kernel)
set_option maxRecDepth 20000 in
theorem gX7_chainOf_X7_isBox : GoodIn wsX7_chainOf (va_wsS RX7 88 yX7_isBox wsX7_isBox) := goodIn_app (goodIn_of _ (by decide +kernel)) ggX7_chainOf_X7_isBox
set_option maxRecDepth 20000 in
theorem ggX7_chainOf_X3_countSides : GoodIn wsX7_chainOf wsX3_countSides := goodIn_r _ [13, 14, 15, 12, 16, 17, 18, 19, 20, 21, 22, 23] (by decide +kernel) (by decide +kernel)
set_option maxRecDepth 20000 in
theorem gX7_chainOf_X3_countSides : GoodIn wsX7_chainOf (va_wsS RX7 93 yX3_countSides wsX3_countSides) := goodIn_app (goodIn_of _ (by decide +kernel)) ggX7_chainOf_X3_countSides
set_option maxRecDepth 20000 in
theorem ggX7_chainOf_X0_around : GoodIn wsX7_chainOf wsX0_around := goodIn_r _ [27, 28, 29, 12, 30, 31, 11, 13, 14, 15, 16, 17, 18, 19, 20, 21, 22, 23, 32, 33, 26, 34, 35, 36, 37, 38, 39, 40, 41, 42, 43, 44, 45, 46, 47, 48, 49] (by decide +kernel) (by decide +kernel)
set_option maxRecDepth 20000 in
theorem gX7_chainOf_X0_around : GoodIn wsX7_chainOf (va_wsS RX7 166 yX0_around wsX0_around) := goodIn_app (goodIn_of _ (by decide +kernel)) ggX7_chainOf_X0_around
set_option maxRecDepth 20000 in
theorem ggX7_chainOf_J6_bitCount_0f7a4 : GoodIn wsX7_chainOf wsJ6_bitCount_0f7a4 := goodIn_r _ [20, 21, 22, 23] (by decide +kernel) (by decide +kernel)
set_option maxRecDepth 20000 in
theorem gX7_chainOf_J6_bitCount_0f7a4 : GoodIn wsX7_chainOf (va_wsS RX7 110 yJ6_bitCount_0f7a4 wsJ6_bitCount_0f7a4) := goodIn_app (goodIn_of _ (by decide +kernel)) ggX7_chainOf_J6_bitCount_0f7a4
theorem dX7_chainOf_0 : decode cX7_chainOf 0 = .ok (.iload_n 1, 1) := by decide +kernel
theorem dX7_chainOf_1 : decode cX7_chainOf 1 = .ok (.invokestatic 88, 3) := by decide +kernel
theorem dX7_chainOf_4 : decode cX7_chainOf 4 = .ok (.ifCond .ne 13, 3) := by decide +kernel
theorem dX7_chainOf_7 : decode cX7_chainOf 7 = .ok (.new 48, 3) := by decide +kernel
theorem dX7_chainOf_10 : decode cX7_chainOf 10 = .ok (.dup, 1) := by decide +kernel
theorem dX7_chainOf_11 : decode cX7_chainOf 11 = .ok (.ldc 91, 2) := by decide +kernel
theorem dX7_chainOf_13 : decode cX7_chainOf 13 = .ok (.invokespecial 52, 3) := by decide +kernel
theorem dX7_chainOf_16 : decode cX7_chainOf 16 = .ok (.athrow, 1) := by decide +kernel
theorem dX7_chainOf_17 : decode cX7_chainOf 17 = .ok (.aload_n 0, 1) := by decide +kernel
theorem dX7_chainOf_18 : decode cX7_chainOf 18 = .ok (.getfield 10, 3) := by decide +kernel
theorem dX7_chainOf_21 : decode cX7_chainOf 21 = .ok (.getfield 78, 3) := by decide +kernel
theorem dX7_chainOf_24 : decode cX7_chainOf 24 = .ok (.iload_n 1, 1) := by decide +kernel
theorem dX7_chainOf_25 : decode cX7_chainOf 25 = .ok (.invokestatic 93, 3) := by decide +kernel
theorem dX7_chainOf_28 : decode cX7_chainOf 28 = .ok (.iconst 2, 1) := by decide +kernel
theorem dX7_chainOf_29 : decode cX7_chainOf 29 = .ok (.if_icmp .eq 13, 3) := by decide +kernel
theorem dX7_chainOf_32 : decode cX7_chainOf 32 = .ok (.new 97, 3) := by decide +kernel
theorem dX7_chainOf_35 : decode cX7_chainOf 35 = .ok (.dup, 1) := by decide +kernel
theorem dX7_chainOf_36 : decode cX7_chainOf 36 = .ok (.ldc 164, 2) := by decide +kernel
theorem dX7_chainOf_38 : decode cX7_chainOf 38 = .ok (.invokespecial 101, 3) := by decide +kernel
theorem dX7_chainOf_41 : decode cX7_chainOf 41 = .ok (.athrow, 1) := by decide +kernel
theorem dX7_chainOf_42 : decode cX7_chainOf 42 = .ok (.aload_n 0, 1) := by decide +kernel
theorem dX7_chainOf_43 : decode cX7_chainOf 43 = .ok (.getfield 10, 3) := by decide +kernel
theorem dX7_chainOf_46 : decode cX7_chainOf 46 = .ok (.getfield 78, 3) := by decide +kernel
theorem dX7_chainOf_49 : decode cX7_chainOf 49 = .ok (.iload_n 1, 1) := by decide +kernel
theorem dX7_chainOf_50 : decode cX7_chainOf 50 = .ok (.invokestatic 166, 3) := by decide +kernel
theorem dX7_chainOf_53 : decode cX7_chainOf 53 = .ok (.invokestatic 110, 3) := by decide +kernel
theorem dX7_chainOf_56 : decode cX7_chainOf 56 = .ok (.ireturn, 1) := by decide +kernel
set_option maxRecDepth 20000 in
theorem ggX7_rings_X0_count : GoodIn wsX7_rings wsX0_count := goodIn_r _ [5, 6, 7, 8, 9, 10, 11, 12, 13, 14, 15, 16, 17, 18, 19, 20, 21, 22, 23, 24, 25, 26, 27, 4, 28, 29, 30, 31, 32, 33, 34, 35, 36, 37, 38, 39, 40, 41, 42, 43, 44, 45, 46, 47, 48, 49, 50] (by decide +kernel) (by decide +kernel)
set_option maxRecDepth 20000 in
theorem gX7_rings_X0_count : GoodIn wsX7_rings (va_wsS RX7 159 yX0_count wsX0_count) := goodIn_app (goodIn_of _ (by decide +kernel)) ggX7_rings_X0_count
theorem dX7_rings_0 : decode cX7_rings 0 = .ok (.aload_n 0, 1) := by decide +kernel
theorem dX7_rings_1 : decode cX7_rings 1 = .ok (.getfield 10, 3) := by decide +kernel
theorem dX7_rings_4 : decode cX7_rings 4 = .ok (.getfield 78, 3) := by decide +kernel
theorem dX7_rings_7 : decode cX7_rings 7 = .ok (.iconst 2, 1) := by decide +kernel
theorem dX7_rings_8 : decode cX7_rings 8 = .ok (.invokestatic 159, 3) := by decide +kernel
theorem dX7_rings_11 : decode cX7_rings 11 = .ok (.ireturn, 1) := by decide +kernel
set_option maxRecDepth 20000 in
theorem ggX7_longChains_X0_count : GoodIn wsX7_longChains wsX0_count := goodIn_r _ [5, 6, 7, 8, 9, 10, 11, 12, 13, 14, 15, 16, 17, 18, 19, 20, 21, 22, 23, 24, 25, 26, 27, 4, 28, 29, 30, 31, 32, 33, 34, 35, 36, 37, 38, 39, 40, 41, 42, 43, 44, 45, 46, 47, 48, 49, 50] (by decide +kernel) (by decide +kernel)
set_option maxRecDepth 20000 in
theorem gX7_longChains_X0_count : GoodIn wsX7_longChains (va_wsS RX7 159 yX0_count wsX0_count) := goodIn_app (goodIn_of _ (by decide +kernel)) ggX7_longChains_X0_count
theorem dX7_longChains_0 : decode cX7_longChains 0 = .ok (.aload_n 0, 1) := by decide +kernel
theorem dX7_longChains_1 : decode cX7_longChains 1 = .ok (.getfield 10, 3) := by decide +kernel
theorem dX7_longChains_4 : decode cX7_longChains 4 = .ok (.getfield 78, 3) := by decide +kernel
theorem dX7_longChains_7 : decode cX7_longChains 7 = .ok (.iconst 1, 1) := by decide +kernel
theorem dX7_longChains_8 : decode cX7_longChains 8 = .ok (.invokestatic 159, 3) := by decide +kernel
theorem dX7_longChains_11 : decode cX7_longChains 11 = .ok (.ireturn, 1) := by decide +kernel
set_option maxRecDepth 20000 in
theorem ggX7_ruleHoldsFor_X0_count : GoodIn wsX7_ruleHoldsFor wsX0_count := goodIn_r _ [5, 6, 7, 8, 9, 10, 11, 12, 13, 14, 15, 16, 17, 18, 19, 20, 21, 22, 23, 24, 25, 26, 27, 4, 28, 29, 30, 31, 32, 33, 34, 35, 36, 37, 38, 39, 40, 41, 42, 43, 44, 45, 46, 47, 48, 49, 50] (by decide +kernel) (by decide +kernel)
set_option maxRecDepth 20000 in
theorem gX7_ruleHoldsFor_X0_count : GoodIn wsX7_ruleHoldsFor (va_wsS RX7 159 yX0_count wsX0_count) := goodIn_app (goodIn_of _ (by decide +kernel)) ggX7_ruleHoldsFor_X0_count
theorem dX7_ruleHoldsFor_0 : decode cX7_ruleHoldsFor 0 = .ok (.aload_n 0, 1) := by decide +kernel
theorem dX7_ruleHoldsFor_1 : decode cX7_ruleHoldsFor 1 = .ok (.getfield 10, 3) := by decide +kernel
theorem dX7_ruleHoldsFor_4 : decode cX7_ruleHoldsFor 4 = .ok (.getfield 78, 3) := by decide +kernel
theorem dX7_ruleHoldsFor_7 : decode cX7_ruleHoldsFor 7 = .ok (.iconst 1, 1) := by decide +kernel
theorem dX7_ruleHoldsFor_8 : decode cX7_ruleHoldsFor 8 = .ok (.invokestatic 159, 3) := by decide +kernel
theorem dX7_ruleHoldsFor_11 : decode cX7_ruleHoldsFor 11 = .ok (.iconst 1, 1) := by decide +kernel
theorem dX7_ruleHoldsFor_12 : decode cX7_ruleHoldsFor 12 = .ok (.iand, 1) := by decide +kernel
theorem dX7_ruleHoldsFor_13 : decode cX7_ruleHoldsFor 13 = .ok (.ireturn, 1) := by decide +kernel
set_option maxRecDepth 20000 in
theorem ggX7_endDifference_X1_isNear : GoodIn wsX7_endDifference wsX1_isNear := goodIn_r _ [8, 9, 10, 11, 12, 13, 14, 15] (by decide +kernel) (by decide +kernel)
set_option maxRecDepth 20000 in
theorem gX7_endDifference_X1_isNear : GoodIn wsX7_endDifference (va_wsS RX7 169 yX1_isNear wsX1_isNear) := goodIn_app (goodIn_of _ (by decide +kernel)) ggX7_endDifference_X1_isNear
set_option maxRecDepth 20000 in
theorem ggX7_endDifference_X1_workOut : GoodIn wsX7_endDifference wsX1_workOut := goodIn_r _ [19, 20, 21, 22, 23, 24, 25, 26, 27, 28, 29, 7, 30, 31, 32, 33, 34, 35, 36, 37, 38, 39, 40, 41, 42, 43, 44, 45, 46, 47, 48, 49, 50, 51, 52, 53, 54, 55, 56, 57, 58, 59, 60, 61, 9, 10, 11, 12, 13, 14, 15, 80, 81, 82] (by decide +kernel) (by decide +kernel)
set_option maxRecDepth 20000 in
theorem gX7_endDifference_X1_workOut : GoodIn wsX7_endDifference (wsV RX7 174 RX1 yX1_workOut wsX1_workOut) := goodIn_app (goodIn_of _ (by decide +kernel)) ggX7_endDifference_X1_workOut
set_option maxRecDepth 20000 in
theorem ggX7_endDifference_X1_difference : GoodIn wsX7_endDifference wsX1_difference := goodIn_r _ [65, 22, 20, 80, 81, 82] (by decide +kernel) (by decide +kernel)
set_option maxRecDepth 20000 in
theorem gX7_endDifference_X1_difference : GoodIn wsX7_endDifference (wsV RX7 178 RX1 yX1_difference wsX1_difference) := goodIn_app (goodIn_of _ (by decide +kernel)) ggX7_endDifference_X1_difference
theorem dX7_endDifference_0 : decode cX7_endDifference 0 = .ok (.aload_n 0, 1) := by decide +kernel
theorem dX7_endDifference_1 : decode cX7_endDifference 1 = .ok (.getfield 10, 3) := by decide +kernel
theorem dX7_endDifference_4 : decode cX7_endDifference 4 = .ok (.getfield 78, 3) := by decide +kernel
theorem dX7_endDifference_7 : decode cX7_endDifference 7 = .ok (.invokestatic 169, 3) := by decide +kernel
theorem dX7_endDifference_10 : decode cX7_endDifference 10 = .ok (.ifCond .ne 13, 3) := by decide +kernel
theorem dX7_endDifference_13 : decode cX7_endDifference 13 = .ok (.new 97, 3) := by decide +kernel
theorem dX7_endDifference_16 : decode cX7_endDifference 16 = .ok (.dup, 1) := by decide +kernel
theorem dX7_endDifference_17 : decode cX7_endDifference 17 = .ok (.ldc 172, 2) := by decide +kernel
theorem dX7_endDifference_19 : decode cX7_endDifference 19 = .ok (.invokespecial 101, 3) := by decide +kernel
theorem dX7_endDifference_22 : decode cX7_endDifference 22 = .ok (.athrow, 1) := by decide +kernel
theorem dX7_endDifference_23 : decode cX7_endDifference 23 = .ok (.aload_n 0, 1) := by decide +kernel
theorem dX7_endDifference_24 : decode cX7_endDifference 24 = .ok (.getfield 36, 3) := by decide +kernel
theorem dX7_endDifference_27 : decode cX7_endDifference 27 = .ok (.aload_n 0, 1) := by decide +kernel
theorem dX7_endDifference_28 : decode cX7_endDifference 28 = .ok (.getfield 10, 3) := by decide +kernel
theorem dX7_endDifference_31 : decode cX7_endDifference 31 = .ok (.getfield 78, 3) := by decide +kernel
theorem dX7_endDifference_34 : decode cX7_endDifference 34 = .ok (.invokevirtual 174, 3) := by decide +kernel
theorem dX7_endDifference_37 : decode cX7_endDifference 37 = .ok (.aload_n 0, 1) := by decide +kernel
theorem dX7_endDifference_38 : decode cX7_endDifference 38 = .ok (.getfield 36, 3) := by decide +kernel
theorem dX7_endDifference_41 : decode cX7_endDifference 41 = .ok (.invokevirtual 178, 3) := by decide +kernel
theorem dX7_endDifference_44 : decode cX7_endDifference 44 = .ok (.ireturn, 1) := by decide +kernel
set_option maxRecDepth 20000 in
theorem ggX7_endByTrying_X1_isNear : GoodIn wsX7_endByTrying wsX1_isNear := goodIn_r _ [7, 8, 9, 10, 11, 12, 13, 14] (by decide +kernel) (by decide +kernel)
set_option maxRecDepth 20000 in
theorem gX7_endByTrying_X1_isNear : GoodIn wsX7_endByTrying (va_wsS RX7 169 yX1_isNear wsX1_isNear) := goodIn_app (goodIn_of _ (by decide +kernel)) ggX7_endByTrying_X1_isNear
set_option maxRecDepth 20000 in
theorem ggX7_endByTrying_X1_byTrying : GoodIn wsX7_endByTrying wsX1_byTrying := goodIn_r _ [17, 18, 19, 20, 21, 22, 23, 24, 25, 26, 27, 28, 9, 10, 11, 12, 13, 14, 8, 29, 30, 6, 31, 32, 33, 34, 35, 36, 37, 38, 39, 40, 41, 42, 43, 44, 45, 46, 47, 48, 49, 50, 51, 52, 53, 54, 55, 56, 57] (by decide +kernel) (by decide +kernel)
set_option maxRecDepth 20000 in
theorem gX7_endByTrying_X1_byTrying : GoodIn wsX7_endByTrying (va_wsS RX7 181 yX1_byTrying wsX1_byTrying) := goodIn_app (goodIn_of _ (by decide +kernel)) ggX7_endByTrying_X1_byTrying
theorem dX7_endByTrying_0 : decode cX7_endByTrying 0 = .ok (.aload_n 0, 1) := by decide +kernel
theorem dX7_endByTrying_1 : decode cX7_endByTrying 1 = .ok (.getfield 10, 3) := by decide +kernel
theorem dX7_endByTrying_4 : decode cX7_endByTrying 4 = .ok (.getfield 78, 3) := by decide +kernel
theorem dX7_endByTrying_7 : decode cX7_endByTrying 7 = .ok (.invokestatic 169, 3) := by decide +kernel
theorem dX7_endByTrying_10 : decode cX7_endByTrying 10 = .ok (.ifCond .ne 13, 3) := by decide +kernel
theorem dX7_endByTrying_13 : decode cX7_endByTrying 13 = .ok (.new 97, 3) := by decide +kernel
theorem dX7_endByTrying_16 : decode cX7_endByTrying 16 = .ok (.dup, 1) := by decide +kernel
theorem dX7_endByTrying_17 : decode cX7_endByTrying 17 = .ok (.ldc 172, 2) := by decide +kernel
theorem dX7_endByTrying_19 : decode cX7_endByTrying 19 = .ok (.invokespecial 101, 3) := by decide +kernel
theorem dX7_endByTrying_22 : decode cX7_endByTrying 22 = .ok (.athrow, 1) := by decide +kernel
theorem dX7_endByTrying_23 : decode cX7_endByTrying 23 = .ok (.aload_n 0, 1) := by decide +kernel
theorem dX7_endByTrying_24 : decode cX7_endByTrying 24 = .ok (.getfield 10, 3) := by decide +kernel
theorem dX7_endByTrying_27 : decode cX7_endByTrying 27 = .ok (.getfield 78, 3) := by decide +kernel
theorem dX7_endByTrying_30 : decode cX7_endByTrying 30 = .ok (.invokestatic 181, 3) := by decide +kernel
theorem dX7_endByTrying_33 : decode cX7_endByTrying 33 = .ok (.ireturn, 1) := by decide +kernel
set_option maxRecDepth 20000 in
theorem ggX7_bestFence_X1_isNear : GoodIn wsX7_bestFence wsX1_isNear := goodIn_r _ [8, 9, 10, 11, 12, 13, 14, 15] (by decide +kernel) (by decide +kernel)
set_option maxRecDepth 20000 in
theorem gX7_bestFence_X1_isNear : GoodIn wsX7_bestFence (va_wsS RX7 169 yX1_isNear wsX1_isNear) := goodIn_app (goodIn_of _ (by decide +kernel)) ggX7_bestFence_X1_isNear
set_option maxRecDepth 20000 in
theorem ggX7_bestFence_X2_hasEnded : GoodIn wsX7_bestFence wsX2_hasEnded := goodIn_r _ [20, 21, 22, 79, 80, 81, 82, 83, 84, 85, 86] (by decide +kernel) (by decide +kernel)
set_option maxRecDepth 20000 in
theorem gX7_bestFence_X2_hasEnded : GoodIn wsX7_bestFence (wsV RX7 123 RX2 yX2_hasEnded wsX2_hasEnded) := goodIn_app (goodIn_of _ (by decide +kernel)) ggX7_bestFence_X2_hasEnded
set_option maxRecDepth 20000 in
theorem ggX7_bestFence_X1_workOut : GoodIn wsX7_bestFence wsX1_workOut := goodIn_r _ [26, 27, 28, 29, 30, 31, 32, 33, 34, 35, 36, 7, 37, 38, 39, 40, 41, 42, 43, 44, 45, 46, 47, 48, 49, 50, 51, 52, 53, 54, 55, 56, 57, 58, 59, 60, 61, 62, 63, 64, 65, 66, 67, 68, 9, 10, 11, 12, 13, 14, 15, 87, 88, 89] (by decide +kernel) (by decide +kernel)
set_option maxRecDepth 20000 in
theorem gX7_bestFence_X1_workOut : GoodIn wsX7_bestFence (wsV RX7 174 RX1 yX1_workOut wsX1_workOut) := goodIn_app (goodIn_of _ (by decide +kernel)) ggX7_bestFence_X1_workOut
set_option maxRecDepth 20000 in
theorem ggX7_bestFence_X1_lowestBest : GoodIn wsX7_bestFence wsX1_lowestBest := goodIn_r _ [72, 27, 29, 28, 42, 43, 44, 7, 45, 46, 30, 31, 32, 33, 47, 48, 49, 50, 51, 52, 53, 54, 55, 56, 57, 58, 59, 60, 61, 62, 63, 64, 65, 66, 67, 68, 9, 10, 11, 12, 13, 14, 15, 87, 88, 89] (by decide +kernel) (by decide +kernel)
set_option maxRecDepth 20000 in
theorem gX7_bestFence_X1_lowestBest : GoodIn wsX7_bestFence (wsV RX7 186 RX1 yX1_lowestBest wsX1_lowestBest) := goodIn_app (goodIn_of _ (by decide +kernel)) ggX7_bestFence_X1_lowestBest
theorem dX7_bestFence_0 : decode cX7_bestFence 0 = .ok (.aload_n 0, 1) := by decide +kernel
theorem dX7_bestFence_1 : decode cX7_bestFence 1 = .ok (.getfield 10, 3) := by decide +kernel
theorem dX7_bestFence_4 : decode cX7_bestFence 4 = .ok (.getfield 78, 3) := by decide +kernel
theorem dX7_bestFence_7 : decode cX7_bestFence 7 = .ok (.invokestatic 169, 3) := by decide +kernel
theorem dX7_bestFence_10 : decode cX7_bestFence 10 = .ok (.ifCond .eq 13, 3) := by decide +kernel
theorem dX7_bestFence_13 : decode cX7_bestFence 13 = .ok (.aload_n 0, 1) := by decide +kernel
theorem dX7_bestFence_14 : decode cX7_bestFence 14 = .ok (.getfield 10, 3) := by decide +kernel
theorem dX7_bestFence_17 : decode cX7_bestFence 17 = .ok (.invokevirtual 123, 3) := by decide +kernel
theorem dX7_bestFence_20 : decode cX7_bestFence 20 = .ok (.ifCond .eq 13, 3) := by decide +kernel
theorem dX7_bestFence_23 : decode cX7_bestFence 23 = .ok (.new 97, 3) := by decide +kernel
theorem dX7_bestFence_26 : decode cX7_bestFence 26 = .ok (.dup, 1) := by decide +kernel
theorem dX7_bestFence_27 : decode cX7_bestFence 27 = .ok (.ldc 184, 2) := by decide +kernel
theorem dX7_bestFence_29 : decode cX7_bestFence 29 = .ok (.invokespecial 101, 3) := by decide +kernel
theorem dX7_bestFence_32 : decode cX7_bestFence 32 = .ok (.athrow, 1) := by decide +kernel
theorem dX7_bestFence_33 : decode cX7_bestFence 33 = .ok (.aload_n 0, 1) := by decide +kernel
theorem dX7_bestFence_34 : decode cX7_bestFence 34 = .ok (.getfield 36, 3) := by decide +kernel
theorem dX7_bestFence_37 : decode cX7_bestFence 37 = .ok (.aload_n 0, 1) := by decide +kernel
theorem dX7_bestFence_38 : decode cX7_bestFence 38 = .ok (.getfield 10, 3) := by decide +kernel
theorem dX7_bestFence_41 : decode cX7_bestFence 41 = .ok (.getfield 78, 3) := by decide +kernel
theorem dX7_bestFence_44 : decode cX7_bestFence 44 = .ok (.invokevirtual 174, 3) := by decide +kernel
theorem dX7_bestFence_47 : decode cX7_bestFence 47 = .ok (.aload_n 0, 1) := by decide +kernel
theorem dX7_bestFence_48 : decode cX7_bestFence 48 = .ok (.getfield 36, 3) := by decide +kernel
theorem dX7_bestFence_51 : decode cX7_bestFence 51 = .ok (.invokevirtual 186, 3) := by decide +kernel
theorem dX7_bestFence_54 : decode cX7_bestFence 54 = .ok (.ireturn, 1) := by decide +kernel
set_option maxRecDepth 20000 in
theorem ggX7_won_X7_isPlayer : GoodIn wsX7_won wsX7_isPlayer := goodIn_r _ [7] (by decide +kernel) (by decide +kernel)
set_option maxRecDepth 20000 in
theorem gX7_won_X7_isPlayer : GoodIn wsX7_won (va_wsS RX7 105 yX7_isPlayer wsX7_isPlayer) := goodIn_app (goodIn_of _ (by decide +kernel)) ggX7_won_X7_isPlayer
theorem dX7_won_0 : decode cX7_won 0 = .ok (.iload_n 1, 1) := by decide +kernel
theorem dX7_won_1 : decode cX7_won 1 = .ok (.invokestatic 105, 3) := by decide +kernel
theorem dX7_won_4 : decode cX7_won 4 = .ok (.ifCond .ne 13, 3) := by decide +kernel
theorem dX7_won_7 : decode cX7_won 7 = .ok (.new 48, 3) := by decide +kernel
theorem dX7_won_10 : decode cX7_won 10 = .ok (.dup, 1) := by decide +kernel
theorem dX7_won_11 : decode cX7_won 11 = .ok (.ldc 108, 2) := by decide +kernel
theorem dX7_won_13 : decode cX7_won 13 = .ok (.invokespecial 52, 3) := by decide +kernel
theorem dX7_won_16 : decode cX7_won 16 = .ok (.athrow, 1) := by decide +kernel
theorem dX7_won_17 : decode cX7_won 17 = .ok (.iload_n 1, 1) := by decide +kernel
theorem dX7_won_18 : decode cX7_won 18 = .ok (.ifCond .ne 13, 3) := by decide +kernel
theorem dX7_won_21 : decode cX7_won 21 = .ok (.aload_n 0, 1) := by decide +kernel
theorem dX7_won_22 : decode cX7_won 22 = .ok (.getfield 10, 3) := by decide +kernel
theorem dX7_won_25 : decode cX7_won 25 = .ok (.getfield 189, 3) := by decide +kernel
theorem dX7_won_28 : decode cX7_won 28 = .ok (.goto 10, 3) := by decide +kernel
theorem dX7_won_31 : decode cX7_won 31 = .ok (.aload_n 0, 1) := by decide +kernel
theorem dX7_won_32 : decode cX7_won 32 = .ok (.getfield 10, 3) := by decide +kernel
theorem dX7_won_35 : decode cX7_won 35 = .ok (.getfield 192, 3) := by decide +kernel
theorem dX7_won_38 : decode cX7_won 38 = .ok (.ireturn, 1) := by decide +kernel
theorem dX7_evenGames_0 : decode cX7_evenGames 0 = .ok (.aload_n 0, 1) := by decide +kernel
theorem dX7_evenGames_1 : decode cX7_evenGames 1 = .ok (.getfield 10, 3) := by decide +kernel
theorem dX7_evenGames_4 : decode cX7_evenGames 4 = .ok (.getfield 195, 3) := by decide +kernel
theorem dX7_evenGames_7 : decode cX7_evenGames 7 = .ok (.ireturn, 1) := by decide +kernel
theorem dX7_doubleDeals_0 : decode cX7_doubleDeals 0 = .ok (.aload_n 0, 1) := by decide +kernel
theorem dX7_doubleDeals_1 : decode cX7_doubleDeals 1 = .ok (.getfield 10, 3) := by decide +kernel
theorem dX7_doubleDeals_4 : decode cX7_doubleDeals 4 = .ok (.getfield 198, 3) := by decide +kernel
theorem dX7_doubleDeals_7 : decode cX7_doubleDeals 7 = .ok (.ireturn, 1) := by decide +kernel
set_option maxRecDepth 20000 in
theorem ggX7_share_X3_boxesHaving : GoodIn wsX7_share wsX3_boxesHaving := goodIn_r _ [6, 7, 8, 5, 9, 10, 11, 12, 13, 14, 15, 16, 17, 18, 19] (by decide +kernel) (by decide +kernel)
set_option maxRecDepth 20000 in
theorem gX7_share_X3_boxesHaving : GoodIn wsX7_share (va_wsS RX7 117 yX3_boxesHaving wsX3_boxesHaving) := goodIn_app (goodIn_of _ (by decide +kernel)) ggX7_share_X3_boxesHaving
set_option maxRecDepth 20000 in
theorem ggX7_share_J6_bitCount_0f7a4 : GoodIn wsX7_share wsJ6_bitCount_0f7a4 := goodIn_r _ [16, 17, 18, 19] (by decide +kernel) (by decide +kernel)
set_option maxRecDepth 20000 in
theorem gX7_share_J6_bitCount_0f7a4 : GoodIn wsX7_share (va_wsS RX7 110 yJ6_bitCount_0f7a4 wsJ6_bitCount_0f7a4) := goodIn_app (goodIn_of _ (by decide +kernel)) ggX7_share_J6_bitCount_0f7a4
theorem dX7_share_0 : decode cX7_share 0 = .ok (.aload_n 0, 1) := by decide +kernel
theorem dX7_share_1 : decode cX7_share 1 = .ok (.getfield 10, 3) := by decide +kernel
theorem dX7_share_4 : decode cX7_share 4 = .ok (.getfield 78, 3) := by decide +kernel
theorem dX7_share_7 : decode cX7_share 7 = .ok (.iconst 4, 1) := by decide +kernel
theorem dX7_share_8 : decode cX7_share 8 = .ok (.invokestatic 117, 3) := by decide +kernel
theorem dX7_share_11 : decode cX7_share 11 = .ok (.invokestatic 110, 3) := by decide +kernel
theorem dX7_share_14 : decode cX7_share 14 = .ok (.istore_n 1, 1) := by decide +kernel
theorem dX7_share_15 : decode cX7_share 15 = .ok (.iload_n 1, 1) := by decide +kernel
theorem dX7_share_16 : decode cX7_share 16 = .ok (.i2f, 1) := by decide +kernel
theorem dX7_share_17 : decode cX7_share 17 = .ok (.ldc 201, 2) := by decide +kernel
theorem dX7_share_19 : decode cX7_share 19 = .ok (.fdiv, 1) := by decide +kernel
theorem dX7_share_20 : decode cX7_share 20 = .ok (.freturn, 1) := by decide +kernel
theorem dX7_isFence_0 : decode cX7_isFence 0 = .ok (.iload_n 0, 1) := by decide +kernel
theorem dX7_isFence_1 : decode cX7_isFence 1 = .ok (.ifCond .lt 13, 3) := by decide +kernel
theorem dX7_isFence_4 : decode cX7_isFence 4 = .ok (.iload_n 0, 1) := by decide +kernel
theorem dX7_isFence_5 : decode cX7_isFence 5 = .ok (.bipush 31, 2) := by decide +kernel
theorem dX7_isFence_7 : decode cX7_isFence 7 = .ok (.if_icmp .ge 7, 3) := by decide +kernel
theorem dX7_isFence_10 : decode cX7_isFence 10 = .ok (.iconst 1, 1) := by decide +kernel
theorem dX7_isFence_11 : decode cX7_isFence 11 = .ok (.goto 4, 3) := by decide +kernel
theorem dX7_isFence_14 : decode cX7_isFence 14 = .ok (.iconst 0, 1) := by decide +kernel
theorem dX7_isFence_15 : decode cX7_isFence 15 = .ok (.ireturn, 1) := by decide +kernel
theorem dX7_isBox_0 : decode cX7_isBox 0 = .ok (.iload_n 0, 1) := by decide +kernel
theorem dX7_isBox_1 : decode cX7_isBox 1 = .ok (.ifCond .lt 13, 3) := by decide +kernel
theorem dX7_isBox_4 : decode cX7_isBox 4 = .ok (.iload_n 0, 1) := by decide +kernel
theorem dX7_isBox_5 : decode cX7_isBox 5 = .ok (.bipush 12, 2) := by decide +kernel
theorem dX7_isBox_7 : decode cX7_isBox 7 = .ok (.if_icmp .ge 7, 3) := by decide +kernel
theorem dX7_isBox_10 : decode cX7_isBox 10 = .ok (.iconst 1, 1) := by decide +kernel
theorem dX7_isBox_11 : decode cX7_isBox 11 = .ok (.goto 4, 3) := by decide +kernel
theorem dX7_isBox_14 : decode cX7_isBox 14 = .ok (.iconst 0, 1) := by decide +kernel
theorem dX7_isBox_15 : decode cX7_isBox 15 = .ok (.ireturn, 1) := by decide +kernel
theorem dX7_isPlayer_0 : decode cX7_isPlayer 0 = .ok (.iload_n 0, 1) := by decide +kernel
theorem dX7_isPlayer_1 : decode cX7_isPlayer 1 = .ok (.ifCond .eq 8, 3) := by decide +kernel
theorem dX7_isPlayer_4 : decode cX7_isPlayer 4 = .ok (.iload_n 0, 1) := by decide +kernel
theorem dX7_isPlayer_5 : decode cX7_isPlayer 5 = .ok (.iconst 1, 1) := by decide +kernel
theorem dX7_isPlayer_6 : decode cX7_isPlayer 6 = .ok (.if_icmp .ne 7, 3) := by decide +kernel
theorem dX7_isPlayer_9 : decode cX7_isPlayer 9 = .ok (.iconst 1, 1) := by decide +kernel
theorem dX7_isPlayer_10 : decode cX7_isPlayer 10 = .ok (.goto 4, 3) := by decide +kernel
theorem dX7_isPlayer_13 : decode cX7_isPlayer 13 = .ok (.iconst 0, 1) := by decide +kernel
theorem dX7_isPlayer_14 : decode cX7_isPlayer 14 = .ok (.ireturn, 1) := by decide +kernel
theorem dJ6_bitCount_0f7a4_0 : decode cJ6_bitCount_0f7a4 0 = .ok (.iload_n 0, 1) := by decide +kernel
theorem dJ6_bitCount_0f7a4_1 : decode cJ6_bitCount_0f7a4 1 = .ok (.iload_n 0, 1) := by decide +kernel
theorem dJ6_bitCount_0f7a4_2 : decode cJ6_bitCount_0f7a4 2 = .ok (.iconst 1, 1) := by decide +kernel
theorem dJ6_bitCount_0f7a4_3 : decode cJ6_bitCount_0f7a4 3 = .ok (.iushr, 1) := by decide +kernel
theorem dJ6_bitCount_0f7a4_4 : decode cJ6_bitCount_0f7a4 4 = .ok (.ldc_w 265, 3) := by decide +kernel
theorem dJ6_bitCount_0f7a4_7 : decode cJ6_bitCount_0f7a4 7 = .ok (.iand, 1) := by decide +kernel
theorem dJ6_bitCount_0f7a4_8 : decode cJ6_bitCount_0f7a4 8 = .ok (.isub, 1) := by decide +kernel
theorem dJ6_bitCount_0f7a4_9 : decode cJ6_bitCount_0f7a4 9 = .ok (.istore_n 0, 1) := by decide +kernel
theorem dJ6_bitCount_0f7a4_10 : decode cJ6_bitCount_0f7a4 10 = .ok (.iload_n 0, 1) := by decide +kernel
theorem dJ6_bitCount_0f7a4_11 : decode cJ6_bitCount_0f7a4 11 = .ok (.ldc_w 266, 3) := by decide +kernel
theorem dJ6_bitCount_0f7a4_14 : decode cJ6_bitCount_0f7a4 14 = .ok (.iand, 1) := by decide +kernel
theorem dJ6_bitCount_0f7a4_15 : decode cJ6_bitCount_0f7a4 15 = .ok (.iload_n 0, 1) := by decide +kernel
theorem dJ6_bitCount_0f7a4_16 : decode cJ6_bitCount_0f7a4 16 = .ok (.iconst 2, 1) := by decide +kernel
theorem dJ6_bitCount_0f7a4_17 : decode cJ6_bitCount_0f7a4 17 = .ok (.iushr, 1) := by decide +kernel
theorem dJ6_bitCount_0f7a4_18 : decode cJ6_bitCount_0f7a4 18 = .ok (.ldc_w 266, 3) := by decide +kernel
theorem dJ6_bitCount_0f7a4_21 : decode cJ6_bitCount_0f7a4 21 = .ok (.iand, 1) := by decide +kernel
theorem dJ6_bitCount_0f7a4_22 : decode cJ6_bitCount_0f7a4 22 = .ok (.iadd, 1) := by decide +kernel
theorem dJ6_bitCount_0f7a4_23 : decode cJ6_bitCount_0f7a4 23 = .ok (.istore_n 0, 1) := by decide +kernel
theorem dJ6_bitCount_0f7a4_24 : decode cJ6_bitCount_0f7a4 24 = .ok (.iload_n 0, 1) := by decide +kernel
theorem dJ6_bitCount_0f7a4_25 : decode cJ6_bitCount_0f7a4 25 = .ok (.iload_n 0, 1) := by decide +kernel
theorem dJ6_bitCount_0f7a4_26 : decode cJ6_bitCount_0f7a4 26 = .ok (.iconst 4, 1) := by decide +kernel
theorem dJ6_bitCount_0f7a4_27 : decode cJ6_bitCount_0f7a4 27 = .ok (.iushr, 1) := by decide +kernel
theorem dJ6_bitCount_0f7a4_28 : decode cJ6_bitCount_0f7a4 28 = .ok (.iadd, 1) := by decide +kernel
theorem dJ6_bitCount_0f7a4_29 : decode cJ6_bitCount_0f7a4 29 = .ok (.ldc_w 267, 3) := by decide +kernel
theorem dJ6_bitCount_0f7a4_32 : decode cJ6_bitCount_0f7a4 32 = .ok (.iand, 1) := by decide +kernel
theorem dJ6_bitCount_0f7a4_33 : decode cJ6_bitCount_0f7a4 33 = .ok (.istore_n 0, 1) := by decide +kernel
theorem dJ6_bitCount_0f7a4_34 : decode cJ6_bitCount_0f7a4 34 = .ok (.iload_n 0, 1) := by decide +kernel
theorem dJ6_bitCount_0f7a4_35 : decode cJ6_bitCount_0f7a4 35 = .ok (.iload_n 0, 1) := by decide +kernel
theorem dJ6_bitCount_0f7a4_36 : decode cJ6_bitCount_0f7a4 36 = .ok (.bipush 8, 2) := by decide +kernel
theorem dJ6_bitCount_0f7a4_38 : decode cJ6_bitCount_0f7a4 38 = .ok (.iushr, 1) := by decide +kernel
theorem dJ6_bitCount_0f7a4_39 : decode cJ6_bitCount_0f7a4 39 = .ok (.iadd, 1) := by decide +kernel
theorem dJ6_bitCount_0f7a4_40 : decode cJ6_bitCount_0f7a4 40 = .ok (.istore_n 0, 1) := by decide +kernel
theorem dJ6_bitCount_0f7a4_41 : decode cJ6_bitCount_0f7a4 41 = .ok (.iload_n 0, 1) := by decide +kernel
theorem dJ6_bitCount_0f7a4_42 : decode cJ6_bitCount_0f7a4 42 = .ok (.iload_n 0, 1) := by decide +kernel
theorem dJ6_bitCount_0f7a4_43 : decode cJ6_bitCount_0f7a4 43 = .ok (.bipush 16, 2) := by decide +kernel
theorem dJ6_bitCount_0f7a4_45 : decode cJ6_bitCount_0f7a4 45 = .ok (.iushr, 1) := by decide +kernel
theorem dJ6_bitCount_0f7a4_46 : decode cJ6_bitCount_0f7a4 46 = .ok (.iadd, 1) := by decide +kernel
theorem dJ6_bitCount_0f7a4_47 : decode cJ6_bitCount_0f7a4 47 = .ok (.istore_n 0, 1) := by decide +kernel
theorem dJ6_bitCount_0f7a4_48 : decode cJ6_bitCount_0f7a4 48 = .ok (.iload_n 0, 1) := by decide +kernel
theorem dJ6_bitCount_0f7a4_49 : decode cJ6_bitCount_0f7a4 49 = .ok (.bipush 63, 2) := by decide +kernel
theorem dJ6_bitCount_0f7a4_51 : decode cJ6_bitCount_0f7a4 51 = .ok (.iand, 1) := by decide +kernel
theorem dJ6_bitCount_0f7a4_52 : decode cJ6_bitCount_0f7a4 52 = .ok (.ireturn, 1) := by decide +kernel
theorem dJ9_max_7cf53_0 : decode cJ9_max_7cf53 0 = .ok (.iload_n 0, 1) := by decide +kernel
theorem dJ9_max_7cf53_1 : decode cJ9_max_7cf53 1 = .ok (.iload_n 1, 1) := by decide +kernel
theorem dJ9_max_7cf53_2 : decode cJ9_max_7cf53 2 = .ok (.if_icmp .lt 7, 3) := by decide +kernel
theorem dJ9_max_7cf53_5 : decode cJ9_max_7cf53 5 = .ok (.iload_n 0, 1) := by decide +kernel
theorem dJ9_max_7cf53_6 : decode cJ9_max_7cf53 6 = .ok (.goto 4, 3) := by decide +kernel
theorem dJ9_max_7cf53_9 : decode cJ9_max_7cf53 9 = .ok (.iload_n 1, 1) := by decide +kernel
theorem dJ9_max_7cf53_10 : decode cJ9_max_7cf53 10 = .ok (.ireturn, 1) := by decide +kernel
theorem dJ9_min_7cf53_0 : decode cJ9_min_7cf53 0 = .ok (.iload_n 0, 1) := by decide +kernel
theorem dJ9_min_7cf53_1 : decode cJ9_min_7cf53 1 = .ok (.iload_n 1, 1) := by decide +kernel
theorem dJ9_min_7cf53_2 : decode cJ9_min_7cf53 2 = .ok (.if_icmp .gt 7, 3) := by decide +kernel
theorem dJ9_min_7cf53_5 : decode cJ9_min_7cf53 5 = .ok (.iload_n 0, 1) := by decide +kernel
theorem dJ9_min_7cf53_6 : decode cJ9_min_7cf53 6 = .ok (.goto 4, 3) := by decide +kernel
theorem dJ9_min_7cf53_9 : decode cJ9_min_7cf53 9 = .ok (.iload_n 1, 1) := by decide +kernel
theorem dJ9_min_7cf53_10 : decode cJ9_min_7cf53 10 = .ok (.ireturn, 1) := by decide +kernel
