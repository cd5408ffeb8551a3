theorem dX8_init_0 : decode cX8_init 0 = .ok (.aload_n 0, 1) := by decide +kernel
theorem dX8_init_1 : decode cX8_init 1 = .ok (.invokespecial 1, 3) := by decide +kernel
theorem dX8_init_4 : decode cX8_init 4 = .ok (.aload_n 0, 1) := by decide +kernel
theorem dX8_init_5 : decode cX8_init 5 = .ok (.bipush 19, 2) := by decide +kernel
theorem dX8_init_7 : decode cX8_init 7 = .ok (.newarray .int, 2) := by decide +kernel
theorem dX8_init_9 : decode cX8_init 9 = .ok (.putfield 7, 3) := by decide +kernel
theorem dX8_init_12 : decode cX8_init 12 = .ok (.aload_n 0, 1) := by decide +kernel
theorem dX8_init_13 : decode cX8_init 13 = .ok (.bipush 76, 2) := by decide +kernel
theorem dX8_init_15 : decode cX8_init 15 = .ok (.newarray .int, 2) := by decide +kernel
theorem dX8_init_17 : decode cX8_init 17 = .ok (.putfield 13, 3) := by decide +kernel
theorem dX8_init_20 : decode cX8_init 20 = .ok (.aload_n 0, 1) := by decide +kernel
theorem dX8_init_21 : decode cX8_init 21 = .ok (.bipush 19, 2) := by decide +kernel
theorem dX8_init_23 : decode cX8_init 23 = .ok (.newarray .int, 2) := by decide +kernel
theorem dX8_init_25 : decode cX8_init 25 = .ok (.putfield 16, 3) := by decide +kernel
theorem dX8_init_28 : decode cX8_init 28 = .ok (.aload_n 0, 1) := by decide +kernel
theorem dX8_init_29 : decode cX8_init 29 = .ok (.bipush 19, 2) := by decide +kernel
theorem dX8_init_31 : decode cX8_init 31 = .ok (.newarray .int, 2) := by decide +kernel
theorem dX8_init_33 : decode cX8_init 33 = .ok (.putfield 19, 3) := by decide +kernel
theorem dX8_init_36 : decode cX8_init 36 = .ok (.aload_n 0, 1) := by decide +kernel
theorem dX8_init_37 : decode cX8_init 37 = .ok (.bipush 31, 2) := by decide +kernel
theorem dX8_init_39 : decode cX8_init 39 = .ok (.newarray .int, 2) := by decide +kernel
theorem dX8_init_41 : decode cX8_init 41 = .ok (.putfield 22, 3) := by decide +kernel
theorem dX8_init_44 : decode cX8_init 44 = .ok (.aload_n 0, 1) := by decide +kernel
theorem dX8_init_45 : decode cX8_init 45 = .ok (.sipush 256, 3) := by decide +kernel
theorem dX8_init_48 : decode cX8_init 48 = .ok (.newarray .int, 2) := by decide +kernel
theorem dX8_init_50 : decode cX8_init 50 = .ok (.putfield 25, 3) := by decide +kernel
theorem dX8_init_53 : decode cX8_init 53 = .ok (.aload_n 0, 1) := by decide +kernel
theorem dX8_init_54 : decode cX8_init 54 = .ok (.bipush 12, 2) := by decide +kernel
theorem dX8_init_56 : decode cX8_init 56 = .ok (.newarray .int, 2) := by decide +kernel
theorem dX8_init_58 : decode cX8_init 58 = .ok (.putfield 28, 3) := by decide +kernel
theorem dX8_init_61 : decode cX8_init 61 = .ok (.aload_n 0, 1) := by decide +kernel
theorem dX8_init_62 : decode cX8_init 62 = .ok (.bipush 60, 2) := by decide +kernel
theorem dX8_init_64 : decode cX8_init 64 = .ok (.newarray .int, 2) := by decide +kernel
theorem dX8_init_66 : decode cX8_init 66 = .ok (.putfield 31, 3) := by decide +kernel
theorem dX8_init_69 : decode cX8_init 69 = .ok (.aload_n 0, 1) := by decide +kernel
theorem dX8_init_70 : decode cX8_init 70 = .ok (.iconst 2, 1) := by decide +kernel
theorem dX8_init_71 : decode cX8_init 71 = .ok (.newarray .int, 2) := by decide +kernel
theorem dX8_init_73 : decode cX8_init 73 = .ok (.putfield 34, 3) := by decide +kernel
theorem dX8_init_76 : decode cX8_init 76 = .ok (.aload_n 0, 1) := by decide +kernel
theorem dX8_init_77 : decode cX8_init 77 = .ok (.getfield 7, 3) := by decide +kernel
theorem dX8_init_80 : decode cX8_init 80 = .ok (.iconst 0, 1) := by decide +kernel
theorem dX8_init_81 : decode cX8_init 81 = .ok (.iconst 0, 1) := by decide +kernel
theorem dX8_init_82 : decode cX8_init 82 = .ok (.iastore, 1) := by decide +kernel
theorem dX8_init_83 : decode cX8_init 83 = .ok (.return_, 1) := by decide +kernel
theorem dX8_thrown_0 : decode cX8_thrown 0 = .ok (.aload_n 0, 1) := by decide +kernel
theorem dX8_thrown_1 : decode cX8_thrown 1 = .ok (.getfield 37, 3) := by decide +kernel
theorem dX8_thrown_4 : decode cX8_thrown 4 = .ok (.ireturn, 1) := by decide +kernel
theorem dX8_in_0 : decode cX8_in 0 = .ok (.iload_n 0, 1) := by decide +kernel
theorem dX8_in_1 : decode cX8_in 1 = .ok (.iload_n 1, 1) := by decide +kernel
theorem dX8_in_2 : decode cX8_in 2 = .ok (.if_icmp .lt 12, 3) := by decide +kernel
theorem dX8_in_5 : decode cX8_in 5 = .ok (.iload_n 0, 1) := by decide +kernel
theorem dX8_in_6 : decode cX8_in 6 = .ok (.iload_n 2, 1) := by decide +kernel
theorem dX8_in_7 : decode cX8_in 7 = .ok (.if_icmp .gt 7, 3) := by decide +kernel
theorem dX8_in_10 : decode cX8_in 10 = .ok (.iconst 1, 1) := by decide +kernel
theorem dX8_in_11 : decode cX8_in 11 = .ok (.goto 4, 3) := by decide +kernel
theorem dX8_in_14 : decode cX8_in 14 = .ok (.iconst 0, 1) := by decide +kernel
theorem dX8_in_15 : decode cX8_in 15 = .ok (.ireturn, 1) := by decide +kernel
theorem dX8_fails_0 : decode cX8_fails 0 = .ok (.aload_n 0, 1) := by decide +kernel
theorem dX8_fails_1 : decode cX8_fails 1 = .ok (.iload_n 1, 1) := by decide +kernel
theorem dX8_fails_2 : decode cX8_fails 2 = .ok (.putfield 37, 3) := by decide +kernel
theorem dX8_fails_5 : decode cX8_fails 5 = .ok (.iconst 0, 1) := by decide +kernel
theorem dX8_fails_6 : decode cX8_fails 6 = .ok (.ireturn, 1) := by decide +kernel
theorem dX8_copies_0 : decode cX8_copies 0 = .ok (.iconst 0, 1) := by decide +kernel
theorem dX8_copies_1 : decode cX8_copies 1 = .ok (.istore_n 2, 1) := by decide +kernel
theorem dX8_copies_2 : decode cX8_copies 2 = .ok (.iload_n 2, 1) := by decide +kernel
theorem dX8_copies_3 : decode cX8_copies 3 = .ok (.bipush 19, 2) := by decide +kernel
theorem dX8_copies_5 : decode cX8_copies 5 = .ok (.if_icmp .ge 15, 3) := by decide +kernel
theorem dX8_copies_8 : decode cX8_copies 8 = .ok (.aload_n 1, 1) := by decide +kernel
theorem dX8_copies_9 : decode cX8_copies 9 = .ok (.iload_n 2, 1) := by decide +kernel
theorem dX8_copies_10 : decode cX8_copies 10 = .ok (.aload_n 0, 1) := by decide +kernel
theorem dX8_copies_11 : decode cX8_copies 11 = .ok (.iload_n 2, 1) := by decide +kernel
theorem dX8_copies_12 : decode cX8_copies 12 = .ok (.iaload, 1) := by decide +kernel
theorem dX8_copies_13 : decode cX8_copies 13 = .ok (.iastore, 1) := by decide +kernel
theorem dX8_copies_14 : decode cX8_copies 14 = .ok (.iinc 2 1, 3) := by decide +kernel
theorem dX8_copies_17 : decode cX8_copies 17 = .ok (.goto (-15), 3) := by decide +kernel
theorem dX8_copies_20 : decode cX8_copies 20 = .ok (.return_, 1) := by decide +kernel
theorem dX8_changes_0 : decode cX8_changes 0 = .ok (.aload_n 0, 1) := by decide +kernel
theorem dX8_changes_1 : decode cX8_changes 1 = .ok (.getfield 41, 3) := by decide +kernel
theorem dX8_changes_4 : decode cX8_changes 4 = .ok (.ifCond .eq 4, 3) := by decide +kernel
theorem dX8_changes_7 : decode cX8_changes 7 = .ok (.return_, 1) := by decide +kernel
theorem dX8_changes_8 : decode cX8_changes 8 = .ok (.aload_n 0, 1) := by decide +kernel
theorem dX8_changes_9 : decode cX8_changes 9 = .ok (.getfield 45, 3) := by decide +kernel
theorem dX8_changes_12 : decode cX8_changes 12 = .ok (.iconst 4, 1) := by decide +kernel
theorem dX8_changes_13 : decode cX8_changes 13 = .ok (.if_icmp .ne 42, 3) := by decide +kernel
theorem dX8_changes_16 : decode cX8_changes 16 = .ok (.iconst 0, 1) := by decide +kernel
theorem dX8_changes_17 : decode cX8_changes 17 = .ok (.istore_n 1, 1) := by decide +kernel
theorem dX8_changes_18 : decode cX8_changes 18 = .ok (.iload_n 1, 1) := by decide +kernel
theorem dX8_changes_19 : decode cX8_changes 19 = .ok (.bipush 57, 2) := by decide +kernel
theorem dX8_changes_21 : decode cX8_changes 21 = .ok (.if_icmp .ge 24, 3) := by decide +kernel
theorem dX8_changes_24 : decode cX8_changes 24 = .ok (.aload_n 0, 1) := by decide +kernel
theorem dX8_changes_25 : decode cX8_changes 25 = .ok (.getfield 13, 3) := by decide +kernel
theorem dX8_changes_28 : decode cX8_changes 28 = .ok (.iload_n 1, 1) := by decide +kernel
theorem dX8_changes_29 : decode cX8_changes 29 = .ok (.aload_n 0, 1) := by decide +kernel
theorem dX8_changes_30 : decode cX8_changes 30 = .ok (.getfield 13, 3) := by decide +kernel
theorem dX8_changes_33 : decode cX8_changes 33 = .ok (.iload_n 1, 1) := by decide +kernel
theorem dX8_changes_34 : decode cX8_changes 34 = .ok (.bipush 19, 2) := by decide +kernel
theorem dX8_changes_36 : decode cX8_changes 36 = .ok (.iadd, 1) := by decide +kernel
theorem dX8_changes_37 : decode cX8_changes 37 = .ok (.iaload, 1) := by decide +kernel
theorem dX8_changes_38 : decode cX8_changes 38 = .ok (.iastore, 1) := by decide +kernel
theorem dX8_changes_39 : decode cX8_changes 39 = .ok (.iinc 1 1, 3) := by decide +kernel
theorem dX8_changes_42 : decode cX8_changes 42 = .ok (.goto (-24), 3) := by decide +kernel
theorem dX8_changes_45 : decode cX8_changes 45 = .ok (.aload_n 0, 1) := by decide +kernel
theorem dX8_changes_46 : decode cX8_changes 46 = .ok (.dup, 1) := by decide +kernel
theorem dX8_changes_47 : decode cX8_changes 47 = .ok (.getfield 45, 3) := by decide +kernel
theorem dX8_changes_50 : decode cX8_changes 50 = .ok (.iconst 1, 1) := by decide +kernel
theorem dX8_changes_51 : decode cX8_changes 51 = .ok (.isub, 1) := by decide +kernel
theorem dX8_changes_52 : decode cX8_changes 52 = .ok (.putfield 45, 3) := by decide +kernel
theorem dX8_changes_55 : decode cX8_changes 55 = .ok (.iconst 0, 1) := by decide +kernel
theorem dX8_changes_56 : decode cX8_changes 56 = .ok (.istore_n 1, 1) := by decide +kernel
theorem dX8_changes_57 : decode cX8_changes 57 = .ok (.iload_n 1, 1) := by decide +kernel
theorem dX8_changes_58 : decode cX8_changes 58 = .ok (.bipush 19, 2) := by decide +kernel
theorem dX8_changes_60 : decode cX8_changes 60 = .ok (.if_icmp .ge 29, 3) := by decide +kernel
theorem dX8_changes_63 : decode cX8_changes 63 = .ok (.aload_n 0, 1) := by decide +kernel
theorem dX8_changes_64 : decode cX8_changes 64 = .ok (.getfield 13, 3) := by decide +kernel
theorem dX8_changes_67 : decode cX8_changes 67 = .ok (.bipush 19, 2) := by decide +kernel
theorem dX8_changes_69 : decode cX8_changes 69 = .ok (.aload_n 0, 1) := by decide +kernel
theorem dX8_changes_70 : decode cX8_changes 70 = .ok (.getfield 45, 3) := by decide +kernel
theorem dX8_changes_73 : decode cX8_changes 73 = .ok (.imul, 1) := by decide +kernel
theorem dX8_changes_74 : decode cX8_changes 74 = .ok (.iload_n 1, 1) := by decide +kernel
theorem dX8_changes_75 : decode cX8_changes 75 = .ok (.iadd, 1) := by decide +kernel
theorem dX8_changes_76 : decode cX8_changes 76 = .ok (.aload_n 0, 1) := by decide +kernel
theorem dX8_changes_77 : decode cX8_changes 77 = .ok (.getfield 7, 3) := by decide +kernel
theorem dX8_changes_80 : decode cX8_changes 80 = .ok (.iload_n 1, 1) := by decide +kernel
theorem dX8_changes_81 : decode cX8_changes 81 = .ok (.iaload, 1) := by decide +kernel
theorem dX8_changes_82 : decode cX8_changes 82 = .ok (.iastore, 1) := by decide +kernel
theorem dX8_changes_83 : decode cX8_changes 83 = .ok (.iinc 1 1, 3) := by decide +kernel
theorem dX8_changes_86 : decode cX8_changes 86 = .ok (.goto (-29), 3) := by decide +kernel
theorem dX8_changes_89 : decode cX8_changes 89 = .ok (.aload_n 0, 1) := by decide +kernel
theorem dX8_changes_90 : decode cX8_changes 90 = .ok (.dup, 1) := by decide +kernel
theorem dX8_changes_91 : decode cX8_changes 91 = .ok (.getfield 45, 3) := by decide +kernel
theorem dX8_changes_94 : decode cX8_changes 94 = .ok (.iconst 1, 1) := by decide +kernel
theorem dX8_changes_95 : decode cX8_changes 95 = .ok (.iadd, 1) := by decide +kernel
theorem dX8_changes_96 : decode cX8_changes 96 = .ok (.putfield 45, 3) := by decide +kernel
theorem dX8_changes_99 : decode cX8_changes 99 = .ok (.return_, 1) := by decide +kernel
set_option maxRecDepth 20000 in
theorem ggX8_isFence_X8_in : GoodIn wsX8_isFence wsX8_in := goodIn_r _ [4] (by decide +kernel) (by decide +kernel)
set_option maxRecDepth 20000 in
theorem gX8_isFence_X8_in : GoodIn wsX8_isFence (va_wsS RX8 48 yX8_in wsX8_in) := goodIn_app (goodIn_of _ (by decide +kernel)) ggX8_isFence_X8_in
theorem dX8_isFence_0 : decode cX8_isFence 0 = .ok (.iload_n 0, 1) := by decide +kernel
theorem dX8_isFence_1 : decode cX8_isFence 1 = .ok (.iconst 0, 1) := by decide +kernel
theorem dX8_isFence_2 : decode cX8_isFence 2 = .ok (.bipush 30, 2) := by decide +kernel
theorem dX8_isFence_4 : decode cX8_isFence 4 = .ok (.invokestatic 48, 3) := by decide +kernel
theorem dX8_isFence_7 : decode cX8_isFence 7 = .ok (.ireturn, 1) := by decide +kernel
set_option maxRecDepth 20000 in
theorem ggX8_isBox_X8_in : GoodIn wsX8_isBox wsX8_in := goodIn_r _ [4] (by decide +kernel) (by decide +kernel)
set_option maxRecDepth 20000 in
theorem gX8_isBox_X8_in : GoodIn wsX8_isBox (va_wsS RX8 48 yX8_in wsX8_in) := goodIn_app (goodIn_of _ (by decide +kernel)) ggX8_isBox_X8_in
theorem dX8_isBox_0 : decode cX8_isBox 0 = .ok (.iload_n 0, 1) := by decide +kernel
theorem dX8_isBox_1 : decode cX8_isBox 1 = .ok (.iconst 0, 1) := by decide +kernel
theorem dX8_isBox_2 : decode cX8_isBox 2 = .ok (.bipush 11, 2) := by decide +kernel
theorem dX8_isBox_4 : decode cX8_isBox 4 = .ok (.invokestatic 48, 3) := by decide +kernel
theorem dX8_isBox_7 : decode cX8_isBox 7 = .ok (.ireturn, 1) := by decide +kernel
theorem dX8_isIn_0 : decode cX8_isIn 0 = .ok (.iload_n 0, 1) := by decide +kernel
theorem dX8_isIn_1 : decode cX8_isIn 1 = .ok (.iload_n 1, 1) := by decide +kernel
theorem dX8_isIn_2 : decode cX8_isIn 2 = .ok (.ishr, 1) := by decide +kernel
theorem dX8_isIn_3 : decode cX8_isIn 3 = .ok (.iconst 1, 1) := by decide +kernel
theorem dX8_isIn_4 : decode cX8_isIn 4 = .ok (.iand, 1) := by decide +kernel
theorem dX8_isIn_5 : decode cX8_isIn 5 = .ok (.iconst 1, 1) := by decide +kernel
theorem dX8_isIn_6 : decode cX8_isIn 6 = .ok (.if_icmp .ne 7, 3) := by decide +kernel
theorem dX8_isIn_9 : decode cX8_isIn 9 = .ok (.iconst 1, 1) := by decide +kernel
theorem dX8_isIn_10 : decode cX8_isIn 10 = .ok (.goto 4, 3) := by decide +kernel
theorem dX8_isIn_13 : decode cX8_isIn 13 = .ok (.iconst 0, 1) := by decide +kernel
theorem dX8_isIn_14 : decode cX8_isIn 14 = .ok (.ireturn, 1) := by decide +kernel
theorem dX8_around_0 : decode cX8_around 0 = .ok (.bipush 16, 2) := by decide +kernel
theorem dX8_around_2 : decode cX8_around 2 = .ok (.iconst 5, 1) := by decide +kernel
theorem dX8_around_3 : decode cX8_around 3 = .ok (.iload_n 0, 1) := by decide +kernel
theorem dX8_around_4 : decode cX8_around 4 = .ok (.iconst 4, 1) := by decide +kernel
theorem dX8_around_5 : decode cX8_around 5 = .ok (.idiv, 1) := by decide +kernel
theorem dX8_around_6 : decode cX8_around 6 = .ok (.imul, 1) := by decide +kernel
theorem dX8_around_7 : decode cX8_around 7 = .ok (.iadd, 1) := by decide +kernel
theorem dX8_around_8 : decode cX8_around 8 = .ok (.iload_n 0, 1) := by decide +kernel
theorem dX8_around_9 : decode cX8_around 9 = .ok (.iconst 4, 1) := by decide +kernel
theorem dX8_around_10 : decode cX8_around 10 = .ok (.irem, 1) := by decide +kernel
theorem dX8_around_11 : decode cX8_around 11 = .ok (.iadd, 1) := by decide +kernel
theorem dX8_around_12 : decode cX8_around 12 = .ok (.istore_n 1, 1) := by decide +kernel
theorem dX8_around_13 : decode cX8_around 13 = .ok (.iconst 1, 1) := by decide +kernel
theorem dX8_around_14 : decode cX8_around 14 = .ok (.iload_n 0, 1) := by decide +kernel
theorem dX8_around_15 : decode cX8_around 15 = .ok (.ishl, 1) := by decide +kernel
theorem dX8_around_16 : decode cX8_around 16 = .ok (.iconst 1, 1) := by decide +kernel
theorem dX8_around_17 : decode cX8_around 17 = .ok (.iload_n 0, 1) := by decide +kernel
theorem dX8_around_18 : decode cX8_around 18 = .ok (.iconst 4, 1) := by decide +kernel
theorem dX8_around_19 : decode cX8_around 19 = .ok (.iadd, 1) := by decide +kernel
theorem dX8_around_20 : decode cX8_around 20 = .ok (.ishl, 1) := by decide +kernel
theorem dX8_around_21 : decode cX8_around 21 = .ok (.ior, 1) := by decide +kernel
theorem dX8_around_22 : decode cX8_around 22 = .ok (.iconst 1, 1) := by decide +kernel
theorem dX8_around_23 : decode cX8_around 23 = .ok (.iload_n 1, 1) := by decide +kernel
theorem dX8_around_24 : decode cX8_around 24 = .ok (.ishl, 1) := by decide +kernel
theorem dX8_around_25 : decode cX8_around 25 = .ok (.ior, 1) := by decide +kernel
theorem dX8_around_26 : decode cX8_around 26 = .ok (.iconst 1, 1) := by decide +kernel
theorem dX8_around_27 : decode cX8_around 27 = .ok (.iload_n 1, 1) := by decide +kernel
theorem dX8_around_28 : decode cX8_around 28 = .ok (.iconst 1, 1) := by decide +kernel
theorem dX8_around_29 : decode cX8_around 29 = .ok (.iadd, 1) := by decide +kernel
theorem dX8_around_30 : decode cX8_around 30 = .ok (.ishl, 1) := by decide +kernel
theorem dX8_around_31 : decode cX8_around 31 = .ok (.ior, 1) := by decide +kernel
theorem dX8_around_32 : decode cX8_around 32 = .ok (.ireturn, 1) := by decide +kernel
theorem dX8_count_0 : decode cX8_count 0 = .ok (.iconst 0, 1) := by decide +kernel
theorem dX8_count_1 : decode cX8_count 1 = .ok (.istore_n 1, 1) := by decide +kernel
theorem dX8_count_2 : decode cX8_count 2 = .ok (.iconst 0, 1) := by decide +kernel
theorem dX8_count_3 : decode cX8_count 3 = .ok (.istore_n 2, 1) := by decide +kernel
theorem dX8_count_4 : decode cX8_count 4 = .ok (.iload_n 2, 1) := by decide +kernel
theorem dX8_count_5 : decode cX8_count 5 = .ok (.bipush 31, 2) := by decide +kernel
theorem dX8_count_7 : decode cX8_count 7 = .ok (.if_icmp .ge 17, 3) := by decide +kernel
theorem dX8_count_10 : decode cX8_count 10 = .ok (.iload_n 1, 1) := by decide +kernel
theorem dX8_count_11 : decode cX8_count 11 = .ok (.iload_n 0, 1) := by decide +kernel
theorem dX8_count_12 : decode cX8_count 12 = .ok (.iload_n 2, 1) := by decide +kernel
theorem dX8_count_13 : decode cX8_count 13 = .ok (.ishr, 1) := by decide +kernel
theorem dX8_count_14 : decode cX8_count 14 = .ok (.iconst 1, 1) := by decide +kernel
theorem dX8_count_15 : decode cX8_count 15 = .ok (.iand, 1) := by decide +kernel
theorem dX8_count_16 : decode cX8_count 16 = .ok (.iadd, 1) := by decide +kernel
theorem dX8_count_17 : decode cX8_count 17 = .ok (.istore_n 1, 1) := by decide +kernel
theorem dX8_count_18 : decode cX8_count 18 = .ok (.iinc 2 1, 3) := by decide +kernel
theorem dX8_count_21 : decode cX8_count 21 = .ok (.goto (-17), 3) := by decide +kernel
theorem dX8_count_24 : decode cX8_count 24 = .ok (.iload_n 1, 1) := by decide +kernel
theorem dX8_count_25 : decode cX8_count 25 = .ok (.ireturn, 1) := by decide +kernel
set_option maxRecDepth 20000 in
theorem ggX8_has_X8_around : GoodIn wsX8_has wsX8_around := goodIn_r _ [4] (by decide +kernel) (by decide +kernel)
set_option maxRecDepth 20000 in
theorem gX8_has_X8_around : GoodIn wsX8_has (va_wsS RX8 52 yX8_around wsX8_around) := goodIn_app (goodIn_of _ (by decide +kernel)) ggX8_has_X8_around
set_option maxRecDepth 20000 in
theorem ggX8_has_X8_count : GoodIn wsX8_has wsX8_count := goodIn_r _ [7] (by decide +kernel) (by decide +kernel)
set_option maxRecDepth 20000 in
theorem gX8_has_X8_count : GoodIn wsX8_has (va_wsS RX8 56 yX8_count wsX8_count) := goodIn_app (goodIn_of _ (by decide +kernel)) ggX8_has_X8_count
theorem dX8_has_0 : decode cX8_has 0 = .ok (.iload_n 0, 1) := by decide +kernel
theorem dX8_has_1 : decode cX8_has 1 = .ok (.iload_n 1, 1) := by decide +kernel
theorem dX8_has_2 : decode cX8_has 2 = .ok (.invokestatic 52, 3) := by decide +kernel
theorem dX8_has_5 : decode cX8_has 5 = .ok (.iand, 1) := by decide +kernel
theorem dX8_has_6 : decode cX8_has 6 = .ok (.invokestatic 56, 3) := by decide +kernel
theorem dX8_has_9 : decode cX8_has 9 = .ok (.ireturn, 1) := by decide +kernel
set_option maxRecDepth 20000 in
theorem ggX8_isBeside_X8_around : GoodIn wsX8_isBeside wsX8_around := goodIn_r _ [4] (by decide +kernel) (by decide +kernel)
set_option maxRecDepth 20000 in
theorem gX8_isBeside_X8_around : GoodIn wsX8_isBeside (va_wsS RX8 52 yX8_around wsX8_around) := goodIn_app (goodIn_of _ (by decide +kernel)) ggX8_isBeside_X8_around
set_option maxRecDepth 20000 in
theorem ggX8_isBeside_X8_isIn : GoodIn wsX8_isBeside wsX8_isIn := goodIn_r _ [7] (by decide +kernel) (by decide +kernel)
set_option maxRecDepth 20000 in
theorem gX8_isBeside_X8_isIn : GoodIn wsX8_isBeside (va_wsS RX8 59 yX8_isIn wsX8_isIn) := goodIn_app (goodIn_of _ (by decide +kernel)) ggX8_isBeside_X8_isIn
theorem dX8_isBeside_0 : decode cX8_isBeside 0 = .ok (.iload_n 1, 1) := by decide +kernel
theorem dX8_isBeside_1 : decode cX8_isBeside 1 = .ok (.invokestatic 52, 3) := by decide +kernel
theorem dX8_isBeside_4 : decode cX8_isBeside 4 = .ok (.iload_n 0, 1) := by decide +kernel
theorem dX8_isBeside_5 : decode cX8_isBeside 5 = .ok (.invokestatic 59, 3) := by decide +kernel
theorem dX8_isBeside_8 : decode cX8_isBeside 8 = .ok (.ireturn, 1) := by decide +kernel
set_option maxRecDepth 20000 in
theorem ggX8_closes_X8_isBeside : GoodIn wsX8_closes wsX8_isBeside := goodIn_r _ [4, 5, 6, 3, 7, 8, 9, 10] (by decide +kernel) (by decide +kernel)
set_option maxRecDepth 20000 in
theorem gX8_closes_X8_isBeside : GoodIn wsX8_closes (va_wsS RX8 63 yX8_isBeside wsX8_isBeside) := goodIn_app (goodIn_of _ (by decide +kernel)) ggX8_closes_X8_isBeside
set_option maxRecDepth 20000 in
theorem ggX8_closes_X8_has : GoodIn wsX8_closes wsX8_has := goodIn_r _ [13, 5, 6, 3, 7, 14, 15, 16] (by decide +kernel) (by decide +kernel)
set_option maxRecDepth 20000 in
theorem gX8_closes_X8_has : GoodIn wsX8_closes (va_wsS RX8 66 yX8_has wsX8_has) := goodIn_app (goodIn_of _ (by decide +kernel)) ggX8_closes_X8_has
theorem dX8_closes_0 : decode cX8_closes 0 = .ok (.iconst 0, 1) := by decide +kernel
theorem dX8_closes_1 : decode cX8_closes 1 = .ok (.istore_n 2, 1) := by decide +kernel
theorem dX8_closes_2 : decode cX8_closes 2 = .ok (.iconst 0, 1) := by decide +kernel
theorem dX8_closes_3 : decode cX8_closes 3 = .ok (.istore_n 3, 1) := by decide +kernel
theorem dX8_closes_4 : decode cX8_closes 4 = .ok (.iload_n 3, 1) := by decide +kernel
theorem dX8_closes_5 : decode cX8_closes 5 = .ok (.bipush 12, 2) := by decide +kernel
theorem dX8_closes_7 : decode cX8_closes 7 = .ok (.if_icmp .ge 34, 3) := by decide +kernel
theorem dX8_closes_10 : decode cX8_closes 10 = .ok (.iload_n 2, 1) := by decide +kernel
theorem dX8_closes_11 : decode cX8_closes 11 = .ok (.iload_n 1, 1) := by decide +kernel
theorem dX8_closes_12 : decode cX8_closes 12 = .ok (.iload_n 3, 1) := by decide +kernel
theorem dX8_closes_13 : decode cX8_closes 13 = .ok (.invokestatic 63, 3) := by decide +kernel
theorem dX8_closes_16 : decode cX8_closes 16 = .ok (.ifCond .eq 16, 3) := by decide +kernel
theorem dX8_closes_19 : decode cX8_closes 19 = .ok (.iload_n 0, 1) := by decide +kernel
theorem dX8_closes_20 : decode cX8_closes 20 = .ok (.iload_n 3, 1) := by decide +kernel
theorem dX8_closes_21 : decode cX8_closes 21 = .ok (.invokestatic 66, 3) := by decide +kernel
theorem dX8_closes_24 : decode cX8_closes 24 = .ok (.iconst 3, 1) := by decide +kernel
theorem dX8_closes_25 : decode cX8_closes 25 = .ok (.if_icmp .ne 7, 3) := by decide +kernel
theorem dX8_closes_28 : decode cX8_closes 28 = .ok (.iconst 1, 1) := by decide +kernel
theorem dX8_closes_29 : decode cX8_closes 29 = .ok (.goto 4, 3) := by decide +kernel
theorem dX8_closes_32 : decode cX8_closes 32 = .ok (.iconst 0, 1) := by decide +kernel
theorem dX8_closes_33 : decode cX8_closes 33 = .ok (.iadd, 1) := by decide +kernel
theorem dX8_closes_34 : decode cX8_closes 34 = .ok (.istore_n 2, 1) := by decide +kernel
theorem dX8_closes_35 : decode cX8_closes 35 = .ok (.iinc 3 1, 3) := by decide +kernel
theorem dX8_closes_38 : decode cX8_closes 38 = .ok (.goto (-34), 3) := by decide +kernel
theorem dX8_closes_41 : decode cX8_closes 41 = .ok (.iload_n 2, 1) := by decide +kernel
theorem dX8_closes_42 : decode cX8_closes 42 = .ok (.ireturn, 1) := by decide +kernel
set_option maxRecDepth 20000 in
theorem ggX8_taking_X8_isIn : GoodIn wsX8_taking wsX8_isIn := goodIn_r _ [4] (by decide +kernel) (by decide +kernel)
set_option maxRecDepth 20000 in
theorem gX8_taking_X8_isIn : GoodIn wsX8_taking (va_wsS RX8 59 yX8_isIn wsX8_isIn) := goodIn_app (goodIn_of _ (by decide +kernel)) ggX8_taking_X8_isIn
set_option maxRecDepth 20000 in
theorem ggX8_taking_X8_closes : GoodIn wsX8_taking wsX8_closes := goodIn_r _ [7, 8, 9, 3, 10, 11, 12, 13, 1, 2, 4, 14, 15, 16, 17, 18, 19] (by decide +kernel) (by decide +kernel)
set_option maxRecDepth 20000 in
theorem gX8_taking_X8_closes : GoodIn wsX8_taking (va_wsS RX8 70 yX8_closes wsX8_closes) := goodIn_app (goodIn_of _ (by decide +kernel)) ggX8_taking_X8_closes
theorem dX8_taking_0 : decode cX8_taking 0 = .ok (.iconst 0, 1) := by decide +kernel
theorem dX8_taking_1 : decode cX8_taking 1 = .ok (.istore_n 1, 1) := by decide +kernel
theorem dX8_taking_2 : decode cX8_taking 2 = .ok (.iload_n 1, 1) := by decide +kernel
theorem dX8_taking_3 : decode cX8_taking 3 = .ok (.bipush 31, 2) := by decide +kernel
theorem dX8_taking_5 : decode cX8_taking 5 = .ok (.if_icmp .ge 27, 3) := by decide +kernel
theorem dX8_taking_8 : decode cX8_taking 8 = .ok (.iload_n 0, 1) := by decide +kernel
theorem dX8_taking_9 : decode cX8_taking 9 = .ok (.iload_n 1, 1) := by decide +kernel
theorem dX8_taking_10 : decode cX8_taking 10 = .ok (.invokestatic 59, 3) := by decide +kernel
theorem dX8_taking_13 : decode cX8_taking 13 = .ok (.ifCond .ne 13, 3) := by decide +kernel
theorem dX8_taking_16 : decode cX8_taking 16 = .ok (.iload_n 0, 1) := by decide +kernel
theorem dX8_taking_17 : decode cX8_taking 17 = .ok (.iload_n 1, 1) := by decide +kernel
theorem dX8_taking_18 : decode cX8_taking 18 = .ok (.invokestatic 70, 3) := by decide +kernel
theorem dX8_taking_21 : decode cX8_taking 21 = .ok (.ifCond .le 5, 3) := by decide +kernel
theorem dX8_taking_24 : decode cX8_taking 24 = .ok (.iload_n 1, 1) := by decide +kernel
theorem dX8_taking_25 : decode cX8_taking 25 = .ok (.ireturn, 1) := by decide +kernel
theorem dX8_taking_26 : decode cX8_taking 26 = .ok (.iinc 1 1, 3) := by decide +kernel
theorem dX8_taking_29 : decode cX8_taking 29 = .ok (.goto (-27), 3) := by decide +kernel
theorem dX8_taking_32 : decode cX8_taking 32 = .ok (.iconst (-1), 1) := by decide +kernel
theorem dX8_taking_33 : decode cX8_taking 33 = .ok (.ireturn, 1) := by decide +kernel
set_option maxRecDepth 20000 in
theorem ggX8_takes_X8_taking : GoodIn wsX8_takes wsX8_taking := goodIn_r _ [4, 5, 6, 3, 7, 8, 9, 10, 11, 12, 13, 14, 15, 16, 17, 18, 19, 20, 21, 22] (by decide +kernel) (by decide +kernel)
set_option maxRecDepth 20000 in
theorem gX8_takes_X8_taking : GoodIn wsX8_takes (va_wsS RX8 73 yX8_taking wsX8_taking) := goodIn_app (goodIn_of _ (by decide +kernel)) ggX8_takes_X8_taking
set_option maxRecDepth 20000 in
theorem ggX8_takes_X8_closes : GoodIn wsX8_takes wsX8_closes := goodIn_r _ [10, 11, 12, 3, 13, 14, 15, 16, 5, 6, 7, 17, 18, 19, 20, 21, 22] (by decide +kernel) (by decide +kernel)
set_option maxRecDepth 20000 in
theorem gX8_takes_X8_closes : GoodIn wsX8_takes (va_wsS RX8 70 yX8_closes wsX8_closes) := goodIn_app (goodIn_of _ (by decide +kernel)) ggX8_takes_X8_closes
theorem dX8_takes_0 : decode cX8_takes 0 = .ok (.iload_n 0, 1) := by decide +kernel
theorem dX8_takes_1 : decode cX8_takes 1 = .ok (.istore_n 1, 1) := by decide +kernel
theorem dX8_takes_2 : decode cX8_takes 2 = .ok (.iconst 0, 1) := by decide +kernel
theorem dX8_takes_3 : decode cX8_takes 3 = .ok (.istore_n 2, 1) := by decide +kernel
theorem dX8_takes_4 : decode cX8_takes 4 = .ok (.iload_n 1, 1) := by decide +kernel
theorem dX8_takes_5 : decode cX8_takes 5 = .ok (.invokestatic 73, 3) := by decide +kernel
theorem dX8_takes_8 : decode cX8_takes 8 = .ok (.istore_n 3, 1) := by decide +kernel
theorem dX8_takes_9 : decode cX8_takes 9 = .ok (.iload_n 3, 1) := by decide +kernel
theorem dX8_takes_10 : decode cX8_takes 10 = .ok (.ifCond .lt 25, 3) := by decide +kernel
theorem dX8_takes_13 : decode cX8_takes 13 = .ok (.iload_n 2, 1) := by decide +kernel
theorem dX8_takes_14 : decode cX8_takes 14 = .ok (.iload_n 1, 1) := by decide +kernel
theorem dX8_takes_15 : decode cX8_takes 15 = .ok (.iload_n 3, 1) := by decide +kernel
theorem dX8_takes_16 : decode cX8_takes 16 = .ok (.invokestatic 70, 3) := by decide +kernel
theorem dX8_takes_19 : decode cX8_takes 19 = .ok (.iadd, 1) := by decide +kernel
theorem dX8_takes_20 : decode cX8_takes 20 = .ok (.istore_n 2, 1) := by decide +kernel
theorem dX8_takes_21 : decode cX8_takes 21 = .ok (.iload_n 1, 1) := by decide +kernel
theorem dX8_takes_22 : decode cX8_takes 22 = .ok (.iconst 1, 1) := by decide +kernel
theorem dX8_takes_23 : decode cX8_takes 23 = .ok (.iload_n 3, 1) := by decide +kernel
theorem dX8_takes_24 : decode cX8_takes 24 = .ok (.ishl, 1) := by decide +kernel
theorem dX8_takes_25 : decode cX8_takes 25 = .ok (.ior, 1) := by decide +kernel
theorem dX8_takes_26 : decode cX8_takes 26 = .ok (.istore_n 1, 1) := by decide +kernel
theorem dX8_takes_27 : decode cX8_takes 27 = .ok (.iload_n 1, 1) := by decide +kernel
theorem dX8_takes_28 : decode cX8_takes 28 = .ok (.invokestatic 73, 3) := by decide +kernel
theorem dX8_takes_31 : decode cX8_takes 31 = .ok (.istore_n 3, 1) := by decide +kernel
theorem dX8_takes_32 : decode cX8_takes 32 = .ok (.goto (-23), 3) := by decide +kernel
theorem dX8_takes_35 : decode cX8_takes 35 = .ok (.iload_n 2, 1) := by decide +kernel
theorem dX8_takes_36 : decode cX8_takes 36 = .ok (.ireturn, 1) := by decide +kernel
set_option maxRecDepth 20000 in
theorem ggX8_safe_X8_isIn : GoodIn wsX8_safe wsX8_isIn := goodIn_r _ [4] (by decide +kernel) (by decide +kernel)
set_option maxRecDepth 20000 in
theorem gX8_safe_X8_isIn : GoodIn wsX8_safe (va_wsS RX8 59 yX8_isIn wsX8_isIn) := goodIn_app (goodIn_of _ (by decide +kernel)) ggX8_safe_X8_isIn
set_option maxRecDepth 20000 in
theorem ggX8_safe_X8_isBeside : GoodIn wsX8_safe wsX8_isBeside := goodIn_r _ [7, 8, 9, 3, 10, 1, 2, 4] (by decide +kernel) (by decide +kernel)
set_option maxRecDepth 20000 in
theorem gX8_safe_X8_isBeside : GoodIn wsX8_safe (va_wsS RX8 63 yX8_isBeside wsX8_isBeside) := goodIn_app (goodIn_of _ (by decide +kernel)) ggX8_safe_X8_isBeside
set_option maxRecDepth 20000 in
theorem ggX8_safe_X8_has : GoodIn wsX8_safe wsX8_has := goodIn_r _ [13, 8, 9, 3, 10, 14, 15, 16] (by decide +kernel) (by decide +kernel)
set_option maxRecDepth 20000 in
theorem gX8_safe_X8_has : GoodIn wsX8_safe (va_wsS RX8 66 yX8_has wsX8_has) := goodIn_app (goodIn_of _ (by decide +kernel)) ggX8_safe_X8_has
theorem dX8_safe_0 : decode cX8_safe 0 = .ok (.iload_n 0, 1) := by decide +kernel
theorem dX8_safe_1 : decode cX8_safe 1 = .ok (.iload_n 1, 1) := by decide +kernel
theorem dX8_safe_2 : decode cX8_safe 2 = .ok (.invokestatic 59, 3) := by decide +kernel
theorem dX8_safe_5 : decode cX8_safe 5 = .ok (.ifCond .ne 7, 3) := by decide +kernel
theorem dX8_safe_8 : decode cX8_safe 8 = .ok (.iconst 1, 1) := by decide +kernel
theorem dX8_safe_9 : decode cX8_safe 9 = .ok (.goto 4, 3) := by decide +kernel
theorem dX8_safe_12 : decode cX8_safe 12 = .ok (.iconst 0, 1) := by decide +kernel
theorem dX8_safe_13 : decode cX8_safe 13 = .ok (.istore_n 2, 1) := by decide +kernel
theorem dX8_safe_14 : decode cX8_safe 14 = .ok (.iconst 0, 1) := by decide +kernel
theorem dX8_safe_15 : decode cX8_safe 15 = .ok (.istore_n 3, 1) := by decide +kernel
theorem dX8_safe_16 : decode cX8_safe 16 = .ok (.iload_n 3, 1) := by decide +kernel
theorem dX8_safe_17 : decode cX8_safe 17 = .ok (.bipush 12, 2) := by decide +kernel
theorem dX8_safe_19 : decode cX8_safe 19 = .ok (.if_icmp .ge 36, 3) := by decide +kernel
theorem dX8_safe_22 : decode cX8_safe 22 = .ok (.iload_n 2, 1) := by decide +kernel
theorem dX8_safe_23 : decode cX8_safe 23 = .ok (.ifCond .eq 24, 3) := by decide +kernel
theorem dX8_safe_26 : decode cX8_safe 26 = .ok (.iload_n 1, 1) := by decide +kernel
theorem dX8_safe_27 : decode cX8_safe 27 = .ok (.iload_n 3, 1) := by decide +kernel
theorem dX8_safe_28 : decode cX8_safe 28 = .ok (.invokestatic 63, 3) := by decide +kernel
theorem dX8_safe_31 : decode cX8_safe 31 = .ok (.ifCond .eq 12, 3) := by decide +kernel
theorem dX8_safe_34 : decode cX8_safe 34 = .ok (.iload_n 0, 1) := by decide +kernel
theorem dX8_safe_35 : decode cX8_safe 35 = .ok (.iload_n 3, 1) := by decide +kernel
theorem dX8_safe_36 : decode cX8_safe 36 = .ok (.invokestatic 66, 3) := by decide +kernel
theorem dX8_safe_39 : decode cX8_safe 39 = .ok (.iconst 2, 1) := by decide +kernel
theorem dX8_safe_40 : decode cX8_safe 40 = .ok (.if_icmp .ge 7, 3) := by decide +kernel
theorem dX8_safe_43 : decode cX8_safe 43 = .ok (.iconst 1, 1) := by decide +kernel
theorem dX8_safe_44 : decode cX8_safe 44 = .ok (.goto 4, 3) := by decide +kernel
theorem dX8_safe_47 : decode cX8_safe 47 = .ok (.iconst 0, 1) := by decide +kernel
theorem dX8_safe_48 : decode cX8_safe 48 = .ok (.istore_n 2, 1) := by decide +kernel
theorem dX8_safe_49 : decode cX8_safe 49 = .ok (.iinc 3 1, 3) := by decide +kernel
theorem dX8_safe_52 : decode cX8_safe 52 = .ok (.goto (-36), 3) := by decide +kernel
theorem dX8_safe_55 : decode cX8_safe 55 = .ok (.iload_n 2, 1) := by decide +kernel
theorem dX8_safe_56 : decode cX8_safe 56 = .ok (.ireturn, 1) := by decide +kernel
set_option maxRecDepth 20000 in
theorem ggX8_firstSafe_X8_safe : GoodIn wsX8_firstSafe wsX8_safe := goodIn_r _ [4, 5, 6, 3, 7, 8, 9, 10, 11, 12, 13, 14, 15, 16, 17, 18, 19] (by decide +kernel) (by decide +kernel)
set_option maxRecDepth 20000 in
theorem gX8_firstSafe_X8_safe : GoodIn wsX8_firstSafe (va_wsS RX8 76 yX8_safe wsX8_safe) := goodIn_app (goodIn_of _ (by decide +kernel)) ggX8_firstSafe_X8_safe
theorem dX8_firstSafe_0 : decode cX8_firstSafe 0 = .ok (.iconst 0, 1) := by decide +kernel
theorem dX8_firstSafe_1 : decode cX8_firstSafe 1 = .ok (.istore_n 1, 1) := by decide +kernel
theorem dX8_firstSafe_2 : decode cX8_firstSafe 2 = .ok (.iload_n 1, 1) := by decide +kernel
theorem dX8_firstSafe_3 : decode cX8_firstSafe 3 = .ok (.bipush 31, 2) := by decide +kernel
theorem dX8_firstSafe_5 : decode cX8_firstSafe 5 = .ok (.if_icmp .ge 19, 3) := by decide +kernel
theorem dX8_firstSafe_8 : decode cX8_firstSafe 8 = .ok (.iload_n 0, 1) := by decide +kernel
theorem dX8_firstSafe_9 : decode cX8_firstSafe 9 = .ok (.iload_n 1, 1) := by decide +kernel
theorem dX8_firstSafe_10 : decode cX8_firstSafe 10 = .ok (.invokestatic 76, 3) := by decide +kernel
theorem dX8_firstSafe_13 : decode cX8_firstSafe 13 = .ok (.ifCond .eq 5, 3) := by decide +kernel
theorem dX8_firstSafe_16 : decode cX8_firstSafe 16 = .ok (.iload_n 1, 1) := by decide +kernel
theorem dX8_firstSafe_17 : decode cX8_firstSafe 17 = .ok (.ireturn, 1) := by decide +kernel
theorem dX8_firstSafe_18 : decode cX8_firstSafe 18 = .ok (.iinc 1 1, 3) := by decide +kernel
theorem dX8_firstSafe_21 : decode cX8_firstSafe 21 = .ok (.goto (-19), 3) := by decide +kernel
theorem dX8_firstSafe_24 : decode cX8_firstSafe 24 = .ok (.iconst (-1), 1) := by decide +kernel
theorem dX8_firstSafe_25 : decode cX8_firstSafe 25 = .ok (.ireturn, 1) := by decide +kernel
set_option maxRecDepth 20000 in
theorem ggX8_reason_X8_isIn : GoodIn wsX8_reason wsX8_isIn := goodIn_r _ [5] (by decide +kernel) (by decide +kernel)
set_option maxRecDepth 20000 in
theorem gX8_reason_X8_isIn : GoodIn wsX8_reason (va_wsS RX8 59 yX8_isIn wsX8_isIn) := goodIn_app (goodIn_of _ (by decide +kernel)) ggX8_reason_X8_isIn
theorem dX8_reason_0 : decode cX8_reason 0 = .ok (.aload_n 0, 1) := by decide +kernel
theorem dX8_reason_1 : decode cX8_reason 1 = .ok (.getfield 7, 3) := by decide +kernel
theorem dX8_reason_4 : decode cX8_reason 4 = .ok (.bipush 18, 2) := by decide +kernel
theorem dX8_reason_6 : decode cX8_reason 6 = .ok (.iaload, 1) := by decide +kernel
theorem dX8_reason_7 : decode cX8_reason 7 = .ok (.bipush 31, 2) := by decide +kernel
theorem dX8_reason_9 : decode cX8_reason 9 = .ok (.if_icmp .ne 7, 3) := by decide +kernel
theorem dX8_reason_12 : decode cX8_reason 12 = .ok (.iconst 1, 1) := by decide +kernel
theorem dX8_reason_13 : decode cX8_reason 13 = .ok (.goto 21, 3) := by decide +kernel
theorem dX8_reason_16 : decode cX8_reason 16 = .ok (.aload_n 0, 1) := by decide +kernel
theorem dX8_reason_17 : decode cX8_reason 17 = .ok (.getfield 7, 3) := by decide +kernel
theorem dX8_reason_20 : decode cX8_reason 20 = .ok (.iconst 0, 1) := by decide +kernel
theorem dX8_reason_21 : decode cX8_reason 21 = .ok (.iaload, 1) := by decide +kernel
theorem dX8_reason_22 : decode cX8_reason 22 = .ok (.iload_n 1, 1) := by decide +kernel
theorem dX8_reason_23 : decode cX8_reason 23 = .ok (.invokestatic 59, 3) := by decide +kernel
theorem dX8_reason_26 : decode cX8_reason 26 = .ok (.ifCond .eq 7, 3) := by decide +kernel
theorem dX8_reason_29 : decode cX8_reason 29 = .ok (.iconst 2, 1) := by decide +kernel
theorem dX8_reason_30 : decode cX8_reason 30 = .ok (.goto 4, 3) := by decide +kernel
theorem dX8_reason_33 : decode cX8_reason 33 = .ok (.iconst 0, 1) := by decide +kernel
theorem dX8_reason_34 : decode cX8_reason 34 = .ok (.ireturn, 1) := by decide +kernel
theorem dX8_boxes_0 : decode cX8_boxes 0 = .ok (.iconst 0, 1) := by decide +kernel
theorem dX8_boxes_1 : decode cX8_boxes 1 = .ok (.istore_n 2, 1) := by decide +kernel
theorem dX8_boxes_2 : decode cX8_boxes 2 = .ok (.iconst 0, 1) := by decide +kernel
theorem dX8_boxes_3 : decode cX8_boxes 3 = .ok (.istore_n 3, 1) := by decide +kernel
theorem dX8_boxes_4 : decode cX8_boxes 4 = .ok (.iload_n 3, 1) := by decide +kernel
theorem dX8_boxes_5 : decode cX8_boxes 5 = .ok (.bipush 12, 2) := by decide +kernel
theorem dX8_boxes_7 : decode cX8_boxes 7 = .ok (.if_icmp .ge 31, 3) := by decide +kernel
theorem dX8_boxes_10 : decode cX8_boxes 10 = .ok (.iload_n 2, 1) := by decide +kernel
theorem dX8_boxes_11 : decode cX8_boxes 11 = .ok (.aload_n 0, 1) := by decide +kernel
theorem dX8_boxes_12 : decode cX8_boxes 12 = .ok (.getfield 7, 3) := by decide +kernel
theorem dX8_boxes_15 : decode cX8_boxes 15 = .ok (.iconst 1, 1) := by decide +kernel
theorem dX8_boxes_16 : decode cX8_boxes 16 = .ok (.iload_n 3, 1) := by decide +kernel
theorem dX8_boxes_17 : decode cX8_boxes 17 = .ok (.iadd, 1) := by decide +kernel
theorem dX8_boxes_18 : decode cX8_boxes 18 = .ok (.iaload, 1) := by decide +kernel
theorem dX8_boxes_19 : decode cX8_boxes 19 = .ok (.iload_n 1, 1) := by decide +kernel
theorem dX8_boxes_20 : decode cX8_boxes 20 = .ok (.iconst 1, 1) := by decide +kernel
theorem dX8_boxes_21 : decode cX8_boxes 21 = .ok (.iadd, 1) := by decide +kernel
theorem dX8_boxes_22 : decode cX8_boxes 22 = .ok (.if_icmp .ne 7, 3) := by decide +kernel
theorem dX8_boxes_25 : decode cX8_boxes 25 = .ok (.iconst 1, 1) := by decide +kernel
theorem dX8_boxes_26 : decode cX8_boxes 26 = .ok (.goto 4, 3) := by decide +kernel
theorem dX8_boxes_29 : decode cX8_boxes 29 = .ok (.iconst 0, 1) := by decide +kernel
theorem dX8_boxes_30 : decode cX8_boxes 30 = .ok (.iadd, 1) := by decide +kernel
theorem dX8_boxes_31 : decode cX8_boxes 31 = .ok (.istore_n 2, 1) := by decide +kernel
theorem dX8_boxes_32 : decode cX8_boxes 32 = .ok (.iinc 3 1, 3) := by decide +kernel
theorem dX8_boxes_35 : decode cX8_boxes 35 = .ok (.goto (-31), 3) := by decide +kernel
theorem dX8_boxes_38 : decode cX8_boxes 38 = .ok (.iload_n 2, 1) := by decide +kernel
theorem dX8_boxes_39 : decode cX8_boxes 39 = .ok (.ireturn, 1) := by decide +kernel
set_option maxRecDepth 20000 in
theorem ggX8_ends_X8_boxes : GoodIn wsX8_ends wsX8_boxes := goodIn_r _ [6, 1, 7, 8, 9, 10, 11, 12, 13, 14, 15, 16, 17, 18, 19, 20, 21, 22, 23, 24, 25, 26, 27] (by decide +kernel) (by decide +kernel)
set_option maxRecDepth 20000 in
theorem gX8_ends_X8_boxes : GoodIn wsX8_ends (wsV RX8 79 RX8 yX8_boxes wsX8_boxes) := goodIn_app (goodIn_of _ (by decide +kernel)) ggX8_ends_X8_boxes
theorem dX8_ends_0 : decode cX8_ends 0 = .ok (.aload_n 0, 1) := by decide +kernel
theorem dX8_ends_1 : decode cX8_ends 1 = .ok (.iconst 0, 1) := by decide +kernel
theorem dX8_ends_2 : decode cX8_ends 2 = .ok (.invokevirtual 79, 3) := by decide +kernel
theorem dX8_ends_5 : decode cX8_ends 5 = .ok (.aload_n 0, 1) := by decide +kernel
theorem dX8_ends_6 : decode cX8_ends 6 = .ok (.iconst 1, 1) := by decide +kernel
theorem dX8_ends_7 : decode cX8_ends 7 = .ok (.invokevirtual 79, 3) := by decide +kernel
theorem dX8_ends_10 : decode cX8_ends 10 = .ok (.isub, 1) := by decide +kernel
theorem dX8_ends_11 : decode cX8_ends 11 = .ok (.istore_n 1, 1) := by decide +kernel
theorem dX8_ends_12 : decode cX8_ends 12 = .ok (.iload_n 1, 1) := by decide +kernel
theorem dX8_ends_13 : decode cX8_ends 13 = .ok (.ifCond .ne 17, 3) := by decide +kernel
theorem dX8_ends_16 : decode cX8_ends 16 = .ok (.aload_n 0, 1) := by decide +kernel
theorem dX8_ends_17 : decode cX8_ends 17 = .ok (.getfield 7, 3) := by decide +kernel
theorem dX8_ends_20 : decode cX8_ends 20 = .ok (.bipush 16, 2) := by decide +kernel
theorem dX8_ends_22 : decode cX8_ends 22 = .ok (.dup2, 1) := by decide +kernel
theorem dX8_ends_23 : decode cX8_ends 23 = .ok (.iaload, 1) := by decide +kernel
theorem dX8_ends_24 : decode cX8_ends 24 = .ok (.iconst 1, 1) := by decide +kernel
theorem dX8_ends_25 : decode cX8_ends 25 = .ok (.iadd, 1) := by decide +kernel
theorem dX8_ends_26 : decode cX8_ends 26 = .ok (.iastore, 1) := by decide +kernel
theorem dX8_ends_27 : decode cX8_ends 27 = .ok (.goto 24, 3) := by decide +kernel
theorem dX8_ends_30 : decode cX8_ends 30 = .ok (.aload_n 0, 1) := by decide +kernel
theorem dX8_ends_31 : decode cX8_ends 31 = .ok (.getfield 7, 3) := by decide +kernel
theorem dX8_ends_34 : decode cX8_ends 34 = .ok (.bipush 14, 2) := by decide +kernel
theorem dX8_ends_36 : decode cX8_ends 36 = .ok (.iload_n 1, 1) := by decide +kernel
theorem dX8_ends_37 : decode cX8_ends 37 = .ok (.ifCond .le 7, 3) := by decide +kernel
theorem dX8_ends_40 : decode cX8_ends 40 = .ok (.iconst 0, 1) := by decide +kernel
theorem dX8_ends_41 : decode cX8_ends 41 = .ok (.goto 4, 3) := by decide +kernel
theorem dX8_ends_44 : decode cX8_ends 44 = .ok (.iconst 1, 1) := by decide +kernel
theorem dX8_ends_45 : decode cX8_ends 45 = .ok (.iadd, 1) := by decide +kernel
theorem dX8_ends_46 : decode cX8_ends 46 = .ok (.dup2, 1) := by decide +kernel
theorem dX8_ends_47 : decode cX8_ends 47 = .ok (.iaload, 1) := by decide +kernel
theorem dX8_ends_48 : decode cX8_ends 48 = .ok (.iconst 1, 1) := by decide +kernel
theorem dX8_ends_49 : decode cX8_ends 49 = .ok (.iadd, 1) := by decide +kernel
theorem dX8_ends_50 : decode cX8_ends 50 = .ok (.iastore, 1) := by decide +kernel
theorem dX8_ends_51 : decode cX8_ends 51 = .ok (.return_, 1) := by decide +kernel
set_option maxRecDepth 20000 in
theorem ggX8_draw_X8_isFence : GoodIn wsX8_draw wsX8_isFence := goodIn_r _ [6, 7, 8, 5, 9] (by decide +kernel) (by decide +kernel)
set_option maxRecDepth 20000 in
theorem gX8_draw_X8_isFence : GoodIn wsX8_draw (va_wsS RX8 82 yX8_isFence wsX8_isFence) := goodIn_app (goodIn_of _ (by decide +kernel)) ggX8_draw_X8_isFence
set_option maxRecDepth 20000 in
theorem ggX8_draw_X8_fails : GoodIn wsX8_draw wsX8_fails := goodIn_r _ [13, 1, 51, 52, 53, 54, 55, 56, 57, 58, 59, 60, 61, 62, 63, 64, 65, 66, 67, 68, 69, 70, 71] (by decide +kernel) (by decide +kernel)
set_option maxRecDepth 20000 in
theorem gX8_draw_X8_fails : GoodIn wsX8_draw (wsV RX8 86 RX8 yX8_fails wsX8_fails) := goodIn_app (goodIn_of _ (by decide +kernel)) ggX8_draw_X8_fails
set_option maxRecDepth 20000 in
theorem ggX8_draw_X8_reason : GoodIn wsX8_draw wsX8_reason := goodIn_r _ [17, 2, 18, 19, 5, 20, 51, 52, 53, 54, 55, 56, 57, 58, 59, 60, 61, 62, 63, 64, 65, 66, 67, 68, 69, 70, 71] (by decide +kernel) (by decide +kernel)
set_option maxRecDepth 20000 in
theorem gX8_draw_X8_reason : GoodIn wsX8_draw (wsV RX8 89 RX8 yX8_reason wsX8_reason) := goodIn_app (goodIn_of _ (by decide +kernel)) ggX8_draw_X8_reason
set_option maxRecDepth 20000 in
theorem ggX8_draw_X8_changes : GoodIn wsX8_draw wsX8_changes := goodIn_r _ [24, 25, 26, 27, 2, 51, 52, 53, 54, 55, 56, 57, 58, 59, 60, 61, 62, 63, 64, 65, 66, 67, 68, 69, 70, 71] (by decide +kernel) (by decide +kernel)
set_option maxRecDepth 20000 in
theorem gX8_draw_X8_changes : GoodIn wsX8_draw (wsV RX8 92 RX8 yX8_changes wsX8_changes) := goodIn_app (goodIn_of _ (by decide +kernel)) ggX8_draw_X8_changes
set_option maxRecDepth 20000 in
theorem ggX8_draw_X8_closes : GoodIn wsX8_draw wsX8_closes := goodIn_r _ [30, 31, 32, 5, 33, 34, 35, 36, 18, 19, 20, 37, 38, 39, 40, 41, 42] (by decide +kernel) (by decide +kernel)
set_option maxRecDepth 20000 in
theorem gX8_draw_X8_closes : GoodIn wsX8_draw (va_wsS RX8 70 yX8_closes wsX8_closes) := goodIn_app (goodIn_of _ (by decide +kernel)) ggX8_draw_X8_closes
set_option maxRecDepth 20000 in
theorem ggX8_draw_X8_isBeside : GoodIn wsX8_draw wsX8_isBeside := goodIn_r _ [33, 34, 35, 5, 36, 18, 19, 20] (by decide +kernel) (by decide +kernel)
set_option maxRecDepth 20000 in
theorem gX8_draw_X8_isBeside : GoodIn wsX8_draw (va_wsS RX8 63 yX8_isBeside wsX8_isBeside) := goodIn_app (goodIn_of _ (by decide +kernel)) ggX8_draw_X8_isBeside
set_option maxRecDepth 20000 in
theorem ggX8_draw_X8_has : GoodIn wsX8_draw wsX8_has := goodIn_r _ [39, 34, 35, 5, 36, 40, 41, 42] (by decide +kernel) (by decide +kernel)
set_option maxRecDepth 20000 in
theorem gX8_draw_X8_has : GoodIn wsX8_draw (va_wsS RX8 66 yX8_has wsX8_has) := goodIn_app (goodIn_of _ (by decide +kernel)) ggX8_draw_X8_has
set_option maxRecDepth 20000 in
theorem ggX8_draw_X8_ends : GoodIn wsX8_draw wsX8_ends := goodIn_r _ [46, 2, 47, 48, 49, 5, 50, 51, 52, 53, 54, 55, 56, 57, 58, 59, 60, 61, 62, 63, 64, 65, 66, 67, 68, 69, 70, 71] (by decide +kernel) (by decide +kernel)
set_option maxRecDepth 20000 in
theorem gX8_draw_X8_ends : GoodIn wsX8_draw (wsV RX8 95 RX8 yX8_ends wsX8_ends) := goodIn_app (goodIn_of _ (by decide +kernel)) ggX8_draw_X8_ends
theorem dX8_draw_0 : decode cX8_draw 0 = .ok (.aload_n 0, 1) := by decide +kernel
theorem dX8_draw_1 : decode cX8_draw 1 = .ok (.iconst 0, 1) := by decide +kernel
theorem dX8_draw_2 : decode cX8_draw 2 = .ok (.putfield 37, 3) := by decide +kernel
theorem dX8_draw_5 : decode cX8_draw 5 = .ok (.iload_n 1, 1) := by decide +kernel
theorem dX8_draw_6 : decode cX8_draw 6 = .ok (.invokestatic 82, 3) := by decide +kernel
theorem dX8_draw_9 : decode cX8_draw 9 = .ok (.ifCond .ne 9, 3) := by decide +kernel
theorem dX8_draw_12 : decode cX8_draw 12 = .ok (.aload_n 0, 1) := by decide +kernel
theorem dX8_draw_13 : decode cX8_draw 13 = .ok (.iconst 1, 1) := by decide +kernel
theorem dX8_draw_14 : decode cX8_draw 14 = .ok (.invokevirtual 86, 3) := by decide +kernel
theorem dX8_draw_17 : decode cX8_draw 17 = .ok (.ireturn, 1) := by decide +kernel
theorem dX8_draw_18 : decode cX8_draw 18 = .ok (.aload_n 0, 1) := by decide +kernel
theorem dX8_draw_19 : decode cX8_draw 19 = .ok (.iload_n 1, 1) := by decide +kernel
theorem dX8_draw_20 : decode cX8_draw 20 = .ok (.invokevirtual 89, 3) := by decide +kernel
theorem dX8_draw_23 : decode cX8_draw 23 = .ok (.ifCond .le 9, 3) := by decide +kernel
theorem dX8_draw_26 : decode cX8_draw 26 = .ok (.aload_n 0, 1) := by decide +kernel
theorem dX8_draw_27 : decode cX8_draw 27 = .ok (.iconst 2, 1) := by decide +kernel
theorem dX8_draw_28 : decode cX8_draw 28 = .ok (.invokevirtual 86, 3) := by decide +kernel
theorem dX8_draw_31 : decode cX8_draw 31 = .ok (.ireturn, 1) := by decide +kernel
theorem dX8_draw_32 : decode cX8_draw 32 = .ok (.aload_n 0, 1) := by decide +kernel
theorem dX8_draw_33 : decode cX8_draw 33 = .ok (.invokevirtual 92, 3) := by decide +kernel
theorem dX8_draw_36 : decode cX8_draw 36 = .ok (.aload_n 0, 1) := by decide +kernel
theorem dX8_draw_37 : decode cX8_draw 37 = .ok (.getfield 7, 3) := by decide +kernel
theorem dX8_draw_40 : decode cX8_draw 40 = .ok (.iconst 0, 1) := by decide +kernel
theorem dX8_draw_41 : decode cX8_draw 41 = .ok (.iaload, 1) := by decide +kernel
theorem dX8_draw_42 : decode cX8_draw 42 = .ok (.iload_n 1, 1) := by decide +kernel
theorem dX8_draw_43 : decode cX8_draw 43 = .ok (.invokestatic 70, 3) := by decide +kernel
theorem dX8_draw_46 : decode cX8_draw 46 = .ok (.istore_n 2, 1) := by decide +kernel
theorem dX8_draw_47 : decode cX8_draw 47 = .ok (.iconst 0, 1) := by decide +kernel
theorem dX8_draw_48 : decode cX8_draw 48 = .ok (.istore_n 3, 1) := by decide +kernel
theorem dX8_draw_49 : decode cX8_draw 49 = .ok (.iload_n 3, 1) := by decide +kernel
theorem dX8_draw_50 : decode cX8_draw 50 = .ok (.bipush 12, 2) := by decide +kernel
theorem dX8_draw_52 : decode cX8_draw 52 = .ok (.if_icmp .ge 48, 3) := by decide +kernel
theorem dX8_draw_55 : decode cX8_draw 55 = .ok (.iload_n 1, 1) := by decide +kernel
theorem dX8_draw_56 : decode cX8_draw 56 = .ok (.iload_n 3, 1) := by decide +kernel
theorem dX8_draw_57 : decode cX8_draw 57 = .ok (.invokestatic 63, 3) := by decide +kernel
theorem dX8_draw_60 : decode cX8_draw 60 = .ok (.ifCond .eq 34, 3) := by decide +kernel
theorem dX8_draw_63 : decode cX8_draw 63 = .ok (.aload_n 0, 1) := by decide +kernel
theorem dX8_draw_64 : decode cX8_draw 64 = .ok (.getfield 7, 3) := by decide +kernel
theorem dX8_draw_67 : decode cX8_draw 67 = .ok (.iconst 0, 1) := by decide +kernel
theorem dX8_draw_68 : decode cX8_draw 68 = .ok (.iaload, 1) := by decide +kernel
theorem dX8_draw_69 : decode cX8_draw 69 = .ok (.iload_n 3, 1) := by decide +kernel
theorem dX8_draw_70 : decode cX8_draw 70 = .ok (.invokestatic 66, 3) := by decide +kernel
theorem dX8_draw_73 : decode cX8_draw 73 = .ok (.iconst 3, 1) := by decide +kernel
theorem dX8_draw_74 : decode cX8_draw 74 = .ok (.if_icmp .ne 20, 3) := by decide +kernel
theorem dX8_draw_77 : decode cX8_draw 77 = .ok (.aload_n 0, 1) := by decide +kernel
theorem dX8_draw_78 : decode cX8_draw 78 = .ok (.getfield 7, 3) := by decide +kernel
theorem dX8_draw_81 : decode cX8_draw 81 = .ok (.iconst 1, 1) := by decide +kernel
theorem dX8_draw_82 : decode cX8_draw 82 = .ok (.iload_n 3, 1) := by decide +kernel
theorem dX8_draw_83 : decode cX8_draw 83 = .ok (.iadd, 1) := by decide +kernel
theorem dX8_draw_84 : decode cX8_draw 84 = .ok (.aload_n 0, 1) := by decide +kernel
theorem dX8_draw_85 : decode cX8_draw 85 = .ok (.getfield 7, 3) := by decide +kernel
theorem dX8_draw_88 : decode cX8_draw 88 = .ok (.bipush 13, 2) := by decide +kernel
theorem dX8_draw_90 : decode cX8_draw 90 = .ok (.iaload, 1) := by decide +kernel
theorem dX8_draw_91 : decode cX8_draw 91 = .ok (.iconst 1, 1) := by decide +kernel
theorem dX8_draw_92 : decode cX8_draw 92 = .ok (.iadd, 1) := by decide +kernel
theorem dX8_draw_93 : decode cX8_draw 93 = .ok (.iastore, 1) := by decide +kernel
theorem dX8_draw_94 : decode cX8_draw 94 = .ok (.iinc 3 1, 3) := by decide +kernel
theorem dX8_draw_97 : decode cX8_draw 97 = .ok (.goto (-48), 3) := by decide +kernel
theorem dX8_draw_100 : decode cX8_draw 100 = .ok (.aload_n 0, 1) := by decide +kernel
theorem dX8_draw_101 : decode cX8_draw 101 = .ok (.getfield 7, 3) := by decide +kernel
theorem dX8_draw_104 : decode cX8_draw 104 = .ok (.iconst 0, 1) := by decide +kernel
theorem dX8_draw_105 : decode cX8_draw 105 = .ok (.dup2, 1) := by decide +kernel
theorem dX8_draw_106 : decode cX8_draw 106 = .ok (.iaload, 1) := by decide +kernel
theorem dX8_draw_107 : decode cX8_draw 107 = .ok (.iconst 1, 1) := by decide +kernel
theorem dX8_draw_108 : decode cX8_draw 108 = .ok (.iload_n 1, 1) := by decide +kernel
theorem dX8_draw_109 : decode cX8_draw 109 = .ok (.ishl, 1) := by decide +kernel
theorem dX8_draw_110 : decode cX8_draw 110 = .ok (.ior, 1) := by decide +kernel
theorem dX8_draw_111 : decode cX8_draw 111 = .ok (.iastore, 1) := by decide +kernel
theorem dX8_draw_112 : decode cX8_draw 112 = .ok (.aload_n 0, 1) := by decide +kernel
theorem dX8_draw_113 : decode cX8_draw 113 = .ok (.getfield 7, 3) := by decide +kernel
theorem dX8_draw_116 : decode cX8_draw 116 = .ok (.bipush 18, 2) := by decide +kernel
theorem dX8_draw_118 : decode cX8_draw 118 = .ok (.dup2, 1) := by decide +kernel
theorem dX8_draw_119 : decode cX8_draw 119 = .ok (.iaload, 1) := by decide +kernel
theorem dX8_draw_120 : decode cX8_draw 120 = .ok (.iconst 1, 1) := by decide +kernel
theorem dX8_draw_121 : decode cX8_draw 121 = .ok (.iadd, 1) := by decide +kernel
theorem dX8_draw_122 : decode cX8_draw 122 = .ok (.iastore, 1) := by decide +kernel
theorem dX8_draw_123 : decode cX8_draw 123 = .ok (.aload_n 0, 1) := by decide +kernel
theorem dX8_draw_124 : decode cX8_draw 124 = .ok (.getfield 7, 3) := by decide +kernel
theorem dX8_draw_127 : decode cX8_draw 127 = .ok (.bipush 17, 2) := by decide +kernel
theorem dX8_draw_129 : decode cX8_draw 129 = .ok (.dup2, 1) := by decide +kernel
theorem dX8_draw_130 : decode cX8_draw 130 = .ok (.iaload, 1) := by decide +kernel
theorem dX8_draw_131 : decode cX8_draw 131 = .ok (.iload_n 2, 1) := by decide +kernel
theorem dX8_draw_132 : decode cX8_draw 132 = .ok (.iconst 2, 1) := by decide +kernel
theorem dX8_draw_133 : decode cX8_draw 133 = .ok (.if_icmp .ne 7, 3) := by decide +kernel
theorem dX8_draw_136 : decode cX8_draw 136 = .ok (.iconst 1, 1) := by decide +kernel
theorem dX8_draw_137 : decode cX8_draw 137 = .ok (.goto 4, 3) := by decide +kernel
theorem dX8_draw_140 : decode cX8_draw 140 = .ok (.iconst 0, 1) := by decide +kernel
theorem dX8_draw_141 : decode cX8_draw 141 = .ok (.iadd, 1) := by decide +kernel
theorem dX8_draw_142 : decode cX8_draw 142 = .ok (.iastore, 1) := by decide +kernel
theorem dX8_draw_143 : decode cX8_draw 143 = .ok (.aload_n 0, 1) := by decide +kernel
theorem dX8_draw_144 : decode cX8_draw 144 = .ok (.getfield 7, 3) := by decide +kernel
theorem dX8_draw_147 : decode cX8_draw 147 = .ok (.bipush 13, 2) := by decide +kernel
theorem dX8_draw_149 : decode cX8_draw 149 = .ok (.iload_n 2, 1) := by decide +kernel
theorem dX8_draw_150 : decode cX8_draw 150 = .ok (.ifCond .ne 15, 3) := by decide +kernel
theorem dX8_draw_153 : decode cX8_draw 153 = .ok (.iconst 1, 1) := by decide +kernel
theorem dX8_draw_154 : decode cX8_draw 154 = .ok (.aload_n 0, 1) := by decide +kernel
theorem dX8_draw_155 : decode cX8_draw 155 = .ok (.getfield 7, 3) := by decide +kernel
theorem dX8_draw_158 : decode cX8_draw 158 = .ok (.bipush 13, 2) := by decide +kernel
theorem dX8_draw_160 : decode cX8_draw 160 = .ok (.iaload, 1) := by decide +kernel
theorem dX8_draw_161 : decode cX8_draw 161 = .ok (.isub, 1) := by decide +kernel
theorem dX8_draw_162 : decode cX8_draw 162 = .ok (.goto 10, 3) := by decide +kernel
theorem dX8_draw_165 : decode cX8_draw 165 = .ok (.aload_n 0, 1) := by decide +kernel
theorem dX8_draw_166 : decode cX8_draw 166 = .ok (.getfield 7, 3) := by decide +kernel
theorem dX8_draw_169 : decode cX8_draw 169 = .ok (.bipush 13, 2) := by decide +kernel
theorem dX8_draw_171 : decode cX8_draw 171 = .ok (.iaload, 1) := by decide +kernel
theorem dX8_draw_172 : decode cX8_draw 172 = .ok (.iastore, 1) := by decide +kernel
theorem dX8_draw_173 : decode cX8_draw 173 = .ok (.aload_n 0, 1) := by decide +kernel
theorem dX8_draw_174 : decode cX8_draw 174 = .ok (.getfield 7, 3) := by decide +kernel
theorem dX8_draw_177 : decode cX8_draw 177 = .ok (.bipush 18, 2) := by decide +kernel
theorem dX8_draw_179 : decode cX8_draw 179 = .ok (.iaload, 1) := by decide +kernel
theorem dX8_draw_180 : decode cX8_draw 180 = .ok (.bipush 31, 2) := by decide +kernel
theorem dX8_draw_182 : decode cX8_draw 182 = .ok (.if_icmp .ne 7, 3) := by decide +kernel
theorem dX8_draw_185 : decode cX8_draw 185 = .ok (.aload_n 0, 1) := by decide +kernel
theorem dX8_draw_186 : decode cX8_draw 186 = .ok (.invokevirtual 95, 3) := by decide +kernel
theorem dX8_draw_189 : decode cX8_draw 189 = .ok (.iload_n 2, 1) := by decide +kernel
theorem dX8_draw_190 : decode cX8_draw 190 = .ok (.ireturn, 1) := by decide +kernel
set_option maxRecDepth 20000 in
theorem ggX8_newGame_X8_changes : GoodIn wsX8_newGame wsX8_changes := goodIn_r _ [7, 8, 9, 10, 2, 11, 12, 13, 14, 15, 16, 17, 18, 19, 20, 21, 22, 23, 24, 25, 26, 27, 28, 29, 30, 31] (by decide +kernel) (by decide +kernel)
set_option maxRecDepth 20000 in
theorem gX8_newGame_X8_changes : GoodIn wsX8_newGame (wsV RX8 92 RX8 yX8_changes wsX8_changes) := goodIn_app (goodIn_of _ (by decide +kernel)) ggX8_newGame_X8_changes
theorem dX8_newGame_0 : decode cX8_newGame 0 = .ok (.aload_n 0, 1) := by decide +kernel
theorem dX8_newGame_1 : decode cX8_newGame 1 = .ok (.iconst 0, 1) := by decide +kernel
theorem dX8_newGame_2 : decode cX8_newGame 2 = .ok (.putfield 37, 3) := by decide +kernel
theorem dX8_newGame_5 : decode cX8_newGame 5 = .ok (.aload_n 0, 1) := by decide +kernel
theorem dX8_newGame_6 : decode cX8_newGame 6 = .ok (.invokevirtual 92, 3) := by decide +kernel
theorem dX8_newGame_9 : decode cX8_newGame 9 = .ok (.aload_n 0, 1) := by decide +kernel
theorem dX8_newGame_10 : decode cX8_newGame 10 = .ok (.getfield 7, 3) := by decide +kernel
theorem dX8_newGame_13 : decode cX8_newGame 13 = .ok (.bipush 18, 2) := by decide +kernel
theorem dX8_newGame_15 : decode cX8_newGame 15 = .ok (.iaload, 1) := by decide +kernel
theorem dX8_newGame_16 : decode cX8_newGame 16 = .ok (.istore_n 1, 1) := by decide +kernel
theorem dX8_newGame_17 : decode cX8_newGame 17 = .ok (.aload_n 0, 1) := by decide +kernel
theorem dX8_newGame_18 : decode cX8_newGame 18 = .ok (.getfield 7, 3) := by decide +kernel
theorem dX8_newGame_21 : decode cX8_newGame 21 = .ok (.iconst 0, 1) := by decide +kernel
theorem dX8_newGame_22 : decode cX8_newGame 22 = .ok (.iconst 0, 1) := by decide +kernel
theorem dX8_newGame_23 : decode cX8_newGame 23 = .ok (.iastore, 1) := by decide +kernel
theorem dX8_newGame_24 : decode cX8_newGame 24 = .ok (.aload_n 0, 1) := by decide +kernel
theorem dX8_newGame_25 : decode cX8_newGame 25 = .ok (.getfield 7, 3) := by decide +kernel
theorem dX8_newGame_28 : decode cX8_newGame 28 = .ok (.bipush 18, 2) := by decide +kernel
theorem dX8_newGame_30 : decode cX8_newGame 30 = .ok (.iconst 0, 1) := by decide +kernel
theorem dX8_newGame_31 : decode cX8_newGame 31 = .ok (.iastore, 1) := by decide +kernel
theorem dX8_newGame_32 : decode cX8_newGame 32 = .ok (.aload_n 0, 1) := by decide +kernel
theorem dX8_newGame_33 : decode cX8_newGame 33 = .ok (.getfield 7, 3) := by decide +kernel
theorem dX8_newGame_36 : decode cX8_newGame 36 = .ok (.bipush 13, 2) := by decide +kernel
theorem dX8_newGame_38 : decode cX8_newGame 38 = .ok (.iconst 0, 1) := by decide +kernel
theorem dX8_newGame_39 : decode cX8_newGame 39 = .ok (.iastore, 1) := by decide +kernel
theorem dX8_newGame_40 : decode cX8_newGame 40 = .ok (.iconst 0, 1) := by decide +kernel
theorem dX8_newGame_41 : decode cX8_newGame 41 = .ok (.istore_n 2, 1) := by decide +kernel
theorem dX8_newGame_42 : decode cX8_newGame 42 = .ok (.iload_n 2, 1) := by decide +kernel
theorem dX8_newGame_43 : decode cX8_newGame 43 = .ok (.bipush 12, 2) := by decide +kernel
theorem dX8_newGame_45 : decode cX8_newGame 45 = .ok (.if_icmp .ge 18, 3) := by decide +kernel
theorem dX8_newGame_48 : decode cX8_newGame 48 = .ok (.aload_n 0, 1) := by decide +kernel
theorem dX8_newGame_49 : decode cX8_newGame 49 = .ok (.getfield 7, 3) := by decide +kernel
theorem dX8_newGame_52 : decode cX8_newGame 52 = .ok (.iconst 1, 1) := by decide +kernel
theorem dX8_newGame_53 : decode cX8_newGame 53 = .ok (.iload_n 2, 1) := by decide +kernel
theorem dX8_newGame_54 : decode cX8_newGame 54 = .ok (.iadd, 1) := by decide +kernel
theorem dX8_newGame_55 : decode cX8_newGame 55 = .ok (.iconst 0, 1) := by decide +kernel
theorem dX8_newGame_56 : decode cX8_newGame 56 = .ok (.iastore, 1) := by decide +kernel
theorem dX8_newGame_57 : decode cX8_newGame 57 = .ok (.iinc 2 1, 3) := by decide +kernel
theorem dX8_newGame_60 : decode cX8_newGame 60 = .ok (.goto (-18), 3) := by decide +kernel
theorem dX8_newGame_63 : decode cX8_newGame 63 = .ok (.iload_n 1, 1) := by decide +kernel
theorem dX8_newGame_64 : decode cX8_newGame 64 = .ok (.ireturn, 1) := by decide +kernel
theorem dX8_told_0 : decode cX8_told 0 = .ok (.aload_n 0, 1) := by decide +kernel
theorem dX8_told_1 : decode cX8_told 1 = .ok (.iconst 0, 1) := by decide +kernel
theorem dX8_told_2 : decode cX8_told 2 = .ok (.putfield 37, 3) := by decide +kernel
theorem dX8_told_5 : decode cX8_told 5 = .ok (.aload_n 0, 1) := by decide +kernel
theorem dX8_told_6 : decode cX8_told 6 = .ok (.getfield 7, 3) := by decide +kernel
theorem dX8_told_9 : decode cX8_told 9 = .ok (.iload_n 1, 1) := by decide +kernel
theorem dX8_told_10 : decode cX8_told 10 = .ok (.iaload, 1) := by decide +kernel
theorem dX8_told_11 : decode cX8_told 11 = .ok (.ireturn, 1) := by decide +kernel
set_option maxRecDepth 20000 in
theorem ggX8_isDrawn_X8_isFence : GoodIn wsX8_isDrawn wsX8_isFence := goodIn_r _ [6, 7, 8, 5, 9] (by decide +kernel) (by decide +kernel)
set_option maxRecDepth 20000 in
theorem gX8_isDrawn_X8_isFence : GoodIn wsX8_isDrawn (va_wsS RX8 82 yX8_isFence wsX8_isFence) := goodIn_app (goodIn_of _ (by decide +kernel)) ggX8_isDrawn_X8_isFence
set_option maxRecDepth 20000 in
theorem ggX8_isDrawn_X8_isIn : GoodIn wsX8_isDrawn wsX8_isIn := goodIn_r _ [12] (by decide +kernel) (by decide +kernel)
set_option maxRecDepth 20000 in
theorem gX8_isDrawn_X8_isIn : GoodIn wsX8_isDrawn (va_wsS RX8 59 yX8_isIn wsX8_isIn) := goodIn_app (goodIn_of _ (by decide +kernel)) ggX8_isDrawn_X8_isIn
theorem dX8_isDrawn_0 : decode cX8_isDrawn 0 = .ok (.aload_n 0, 1) := by decide +kernel
theorem dX8_isDrawn_1 : decode cX8_isDrawn 1 = .ok (.iload_n 1, 1) := by decide +kernel
theorem dX8_isDrawn_2 : decode cX8_isDrawn 2 = .ok (.invokestatic 82, 3) := by decide +kernel
theorem dX8_isDrawn_5 : decode cX8_isDrawn 5 = .ok (.ifCond .eq 7, 3) := by decide +kernel
theorem dX8_isDrawn_8 : decode cX8_isDrawn 8 = .ok (.iconst 0, 1) := by decide +kernel
theorem dX8_isDrawn_9 : decode cX8_isDrawn 9 = .ok (.goto 4, 3) := by decide +kernel
theorem dX8_isDrawn_12 : decode cX8_isDrawn 12 = .ok (.iconst 1, 1) := by decide +kernel
theorem dX8_isDrawn_13 : decode cX8_isDrawn 13 = .ok (.putfield 37, 3) := by decide +kernel
theorem dX8_isDrawn_16 : decode cX8_isDrawn 16 = .ok (.aload_n 0, 1) := by decide +kernel
theorem dX8_isDrawn_17 : decode cX8_isDrawn 17 = .ok (.getfield 37, 3) := by decide +kernel
theorem dX8_isDrawn_20 : decode cX8_isDrawn 20 = .ok (.ifCond .ne 20, 3) := by decide +kernel
theorem dX8_isDrawn_23 : decode cX8_isDrawn 23 = .ok (.aload_n 0, 1) := by decide +kernel
theorem dX8_isDrawn_24 : decode cX8_isDrawn 24 = .ok (.getfield 7, 3) := by decide +kernel
theorem dX8_isDrawn_27 : decode cX8_isDrawn 27 = .ok (.iconst 0, 1) := by decide +kernel
theorem dX8_isDrawn_28 : decode cX8_isDrawn 28 = .ok (.iaload, 1) := by decide +kernel
theorem dX8_isDrawn_29 : decode cX8_isDrawn 29 = .ok (.iload_n 1, 1) := by decide +kernel
theorem dX8_isDrawn_30 : decode cX8_isDrawn 30 = .ok (.invokestatic 59, 3) := by decide +kernel
theorem dX8_isDrawn_33 : decode cX8_isDrawn 33 = .ok (.ifCond .eq 7, 3) := by decide +kernel
theorem dX8_isDrawn_36 : decode cX8_isDrawn 36 = .ok (.iconst 1, 1) := by decide +kernel
theorem dX8_isDrawn_37 : decode cX8_isDrawn 37 = .ok (.goto 4, 3) := by decide +kernel
theorem dX8_isDrawn_40 : decode cX8_isDrawn 40 = .ok (.iconst 0, 1) := by decide +kernel
theorem dX8_isDrawn_41 : decode cX8_isDrawn 41 = .ok (.ireturn, 1) := by decide +kernel
set_option maxRecDepth 20000 in
theorem ggX8_drawn_X8_told : GoodIn wsX8_drawn wsX8_told := goodIn_r _ [5, 6, 7, 8, 9, 10, 11, 12, 13, 14, 15, 16, 17, 18, 19, 20, 21, 22, 23, 24, 25, 26, 27, 28] (by decide +kernel) (by decide +kernel)
set_option maxRecDepth 20000 in
theorem gX8_drawn_X8_told : GoodIn wsX8_drawn (wsV RX8 98 RX8 yX8_told wsX8_told) := goodIn_app (goodIn_of _ (by decide +kernel)) ggX8_drawn_X8_told
theorem dX8_drawn_0 : decode cX8_drawn 0 = .ok (.aload_n 0, 1) := by decide +kernel
theorem dX8_drawn_1 : decode cX8_drawn 1 = .ok (.bipush 18, 2) := by decide +kernel
theorem dX8_drawn_3 : decode cX8_drawn 3 = .ok (.invokevirtual 98, 3) := by decide +kernel
theorem dX8_drawn_6 : decode cX8_drawn 6 = .ok (.ireturn, 1) := by decide +kernel
set_option maxRecDepth 20000 in
theorem ggX8_fencesOf_X8_isBox : GoodIn wsX8_fencesOf wsX8_isBox := goodIn_r _ [6, 7, 8, 5, 9] (by decide +kernel) (by decide +kernel)
set_option maxRecDepth 20000 in
theorem gX8_fencesOf_X8_isBox : GoodIn wsX8_fencesOf (va_wsS RX8 101 yX8_isBox wsX8_isBox) := goodIn_app (goodIn_of _ (by decide +kernel)) ggX8_fencesOf_X8_isBox
set_option maxRecDepth 20000 in
theorem ggX8_fencesOf_X8_has : GoodIn wsX8_fencesOf wsX8_has := goodIn_r _ [12, 13, 14, 5, 15, 16, 17, 18] (by decide +kernel) (by decide +kernel)
set_option maxRecDepth 20000 in
theorem gX8_fencesOf_X8_has : GoodIn wsX8_fencesOf (va_wsS RX8 66 yX8_has wsX8_has) := goodIn_app (goodIn_of _ (by decide +kernel)) ggX8_fencesOf_X8_has
theorem dX8_fencesOf_0 : decode cX8_fencesOf 0 = .ok (.aload_n 0, 1) := by decide +kernel
theorem dX8_fencesOf_1 : decode cX8_fencesOf 1 = .ok (.iload_n 1, 1) := by decide +kernel
theorem dX8_fencesOf_2 : decode cX8_fencesOf 2 = .ok (.invokestatic 101, 3) := by decide +kernel
theorem dX8_fencesOf_5 : decode cX8_fencesOf 5 = .ok (.ifCond .eq 7, 3) := by decide +kernel
theorem dX8_fencesOf_8 : decode cX8_fencesOf 8 = .ok (.iconst 0, 1) := by decide +kernel
theorem dX8_fencesOf_9 : decode cX8_fencesOf 9 = .ok (.goto 4, 3) := by decide +kernel
theorem dX8_fencesOf_12 : decode cX8_fencesOf 12 = .ok (.iconst 1, 1) := by decide +kernel
theorem dX8_fencesOf_13 : decode cX8_fencesOf 13 = .ok (.putfield 37, 3) := by decide +kernel
theorem dX8_fencesOf_16 : decode cX8_fencesOf 16 = .ok (.aload_n 0, 1) := by decide +kernel
theorem dX8_fencesOf_17 : decode cX8_fencesOf 17 = .ok (.getfield 37, 3) := by decide +kernel
theorem dX8_fencesOf_20 : decode cX8_fencesOf 20 = .ok (.ifCond .ne 16, 3) := by decide +kernel
theorem dX8_fencesOf_23 : decode cX8_fencesOf 23 = .ok (.aload_n 0, 1) := by decide +kernel
theorem dX8_fencesOf_24 : decode cX8_fencesOf 24 = .ok (.getfield 7, 3) := by decide +kernel
theorem dX8_fencesOf_27 : decode cX8_fencesOf 27 = .ok (.iconst 0, 1) := by decide +kernel
theorem dX8_fencesOf_28 : decode cX8_fencesOf 28 = .ok (.iaload, 1) := by decide +kernel
theorem dX8_fencesOf_29 : decode cX8_fencesOf 29 = .ok (.iload_n 1, 1) := by decide +kernel
theorem dX8_fencesOf_30 : decode cX8_fencesOf 30 = .ok (.invokestatic 66, 3) := by decide +kernel
theorem dX8_fencesOf_33 : decode cX8_fencesOf 33 = .ok (.goto 4, 3) := by decide +kernel
theorem dX8_fencesOf_36 : decode cX8_fencesOf 36 = .ok (.iconst 0, 1) := by decide +kernel
theorem dX8_fencesOf_37 : decode cX8_fencesOf 37 = .ok (.ireturn, 1) := by decide +kernel
set_option maxRecDepth 20000 in
theorem ggX8_ownerOf_X8_isBox : GoodIn wsX8_ownerOf wsX8_isBox := goodIn_r _ [6, 7, 8, 5, 9] (by decide +kernel) (by decide +kernel)
set_option maxRecDepth 20000 in
theorem gX8_ownerOf_X8_isBox : GoodIn wsX8_ownerOf (va_wsS RX8 101 yX8_isBox wsX8_isBox) := goodIn_app (goodIn_of _ (by decide +kernel)) ggX8_ownerOf_X8_isBox
theorem dX8_ownerOf_0 : decode cX8_ownerOf 0 = .ok (.aload_n 0, 1) := by decide +kernel
theorem dX8_ownerOf_1 : decode cX8_ownerOf 1 = .ok (.iload_n 1, 1) := by decide +kernel
theorem dX8_ownerOf_2 : decode cX8_ownerOf 2 = .ok (.invokestatic 101, 3) := by decide +kernel
theorem dX8_ownerOf_5 : decode cX8_ownerOf 5 = .ok (.ifCond .ne 7, 3) := by decide +kernel
theorem dX8_ownerOf_8 : decode cX8_ownerOf 8 = .ok (.iconst 1, 1) := by decide +kernel
theorem dX8_ownerOf_9 : decode cX8_ownerOf 9 = .ok (.goto 19, 3) := by decide +kernel
theorem dX8_ownerOf_12 : decode cX8_ownerOf 12 = .ok (.aload_n 0, 1) := by decide +kernel
theorem dX8_ownerOf_13 : decode cX8_ownerOf 13 = .ok (.getfield 7, 3) := by decide +kernel
theorem dX8_ownerOf_16 : decode cX8_ownerOf 16 = .ok (.iconst 1, 1) := by decide +kernel
theorem dX8_ownerOf_17 : decode cX8_ownerOf 17 = .ok (.iload_n 1, 1) := by decide +kernel
theorem dX8_ownerOf_18 : decode cX8_ownerOf 18 = .ok (.iadd, 1) := by decide +kernel
theorem dX8_ownerOf_19 : decode cX8_ownerOf 19 = .ok (.iaload, 1) := by decide +kernel
theorem dX8_ownerOf_20 : decode cX8_ownerOf 20 = .ok (.ifCond .ne 7, 3) := by decide +kernel
theorem dX8_ownerOf_23 : decode cX8_ownerOf 23 = .ok (.iconst 2, 1) := by decide +kernel
theorem dX8_ownerOf_24 : decode cX8_ownerOf 24 = .ok (.goto 4, 3) := by decide +kernel
theorem dX8_ownerOf_27 : decode cX8_ownerOf 27 = .ok (.iconst 0, 1) := by decide +kernel
theorem dX8_ownerOf_28 : decode cX8_ownerOf 28 = .ok (.putfield 37, 3) := by decide +kernel
theorem dX8_ownerOf_31 : decode cX8_ownerOf 31 = .ok (.aload_n 0, 1) := by decide +kernel
theorem dX8_ownerOf_32 : decode cX8_ownerOf 32 = .ok (.getfield 37, 3) := by decide +kernel
theorem dX8_ownerOf_35 : decode cX8_ownerOf 35 = .ok (.ifCond .ne 16, 3) := by decide +kernel
theorem dX8_ownerOf_38 : decode cX8_ownerOf 38 = .ok (.aload_n 0, 1) := by decide +kernel
theorem dX8_ownerOf_39 : decode cX8_ownerOf 39 = .ok (.getfield 7, 3) := by decide +kernel
theorem dX8_ownerOf_42 : decode cX8_ownerOf 42 = .ok (.iconst 1, 1) := by decide +kernel
theorem dX8_ownerOf_43 : decode cX8_ownerOf 43 = .ok (.iload_n 1, 1) := by decide +kernel
theorem dX8_ownerOf_44 : decode cX8_ownerOf 44 = .ok (.iadd, 1) := by decide +kernel
theorem dX8_ownerOf_45 : decode cX8_ownerOf 45 = .ok (.iaload, 1) := by decide +kernel
theorem dX8_ownerOf_46 : decode cX8_ownerOf 46 = .ok (.iconst 1, 1) := by decide +kernel
theorem dX8_ownerOf_47 : decode cX8_ownerOf 47 = .ok (.isub, 1) := by decide +kernel
theorem dX8_ownerOf_48 : decode cX8_ownerOf 48 = .ok (.goto 4, 3) := by decide +kernel
theorem dX8_ownerOf_51 : decode cX8_ownerOf 51 = .ok (.iconst 0, 1) := by decide +kernel
theorem dX8_ownerOf_52 : decode cX8_ownerOf 52 = .ok (.ireturn, 1) := by decide +kernel
set_option maxRecDepth 20000 in
theorem ggX8_boxesOf_X8_in : GoodIn wsX8_boxesOf wsX8_in := goodIn_r _ [5] (by decide +kernel) (by decide +kernel)
set_option maxRecDepth 20000 in
theorem gX8_boxesOf_X8_in : GoodIn wsX8_boxesOf (va_wsS RX8 48 yX8_in wsX8_in) := goodIn_app (goodIn_of _ (by decide +kernel)) ggX8_boxesOf_X8_in
set_option maxRecDepth 20000 in
theorem ggX8_boxesOf_X8_boxes : GoodIn wsX8_boxesOf wsX8_boxes := goodIn_r _ [9, 10, 11, 12, 13, 14, 15, 16, 17, 18, 19, 20, 21, 22, 23, 24, 25, 26, 27, 28, 29, 30, 31] (by decide +kernel) (by decide +kernel)
set_option maxRecDepth 20000 in
theorem gX8_boxesOf_X8_boxes : GoodIn wsX8_boxesOf (wsV RX8 79 RX8 yX8_boxes wsX8_boxes) := goodIn_app (goodIn_of _ (by decide +kernel)) ggX8_boxesOf_X8_boxes
theorem dX8_boxesOf_0 : decode cX8_boxesOf 0 = .ok (.aload_n 0, 1) := by decide +kernel
theorem dX8_boxesOf_1 : decode cX8_boxesOf 1 = .ok (.iload_n 1, 1) := by decide +kernel
theorem dX8_boxesOf_2 : decode cX8_boxesOf 2 = .ok (.iconst 0, 1) := by decide +kernel
theorem dX8_boxesOf_3 : decode cX8_boxesOf 3 = .ok (.iconst 1, 1) := by decide +kernel
theorem dX8_boxesOf_4 : decode cX8_boxesOf 4 = .ok (.invokestatic 48, 3) := by decide +kernel
theorem dX8_boxesOf_7 : decode cX8_boxesOf 7 = .ok (.ifCond .eq 7, 3) := by decide +kernel
theorem dX8_boxesOf_10 : decode cX8_boxesOf 10 = .ok (.iconst 0, 1) := by decide +kernel
theorem dX8_boxesOf_11 : decode cX8_boxesOf 11 = .ok (.goto 4, 3) := by decide +kernel
theorem dX8_boxesOf_14 : decode cX8_boxesOf 14 = .ok (.iconst 1, 1) := by decide +kernel
theorem dX8_boxesOf_15 : decode cX8_boxesOf 15 = .ok (.putfield 37, 3) := by decide +kernel
theorem dX8_boxesOf_18 : decode cX8_boxesOf 18 = .ok (.aload_n 0, 1) := by decide +kernel
theorem dX8_boxesOf_19 : decode cX8_boxesOf 19 = .ok (.getfield 37, 3) := by decide +kernel
theorem dX8_boxesOf_22 : decode cX8_boxesOf 22 = .ok (.ifCond .ne 11, 3) := by decide +kernel
theorem dX8_boxesOf_25 : decode cX8_boxesOf 25 = .ok (.aload_n 0, 1) := by decide +kernel
theorem dX8_boxesOf_26 : decode cX8_boxesOf 26 = .ok (.iload_n 1, 1) := by decide +kernel
theorem dX8_boxesOf_27 : decode cX8_boxesOf 27 = .ok (.invokevirtual 79, 3) := by decide +kernel
theorem dX8_boxesOf_30 : decode cX8_boxesOf 30 = .ok (.goto 4, 3) := by decide +kernel
theorem dX8_boxesOf_33 : decode cX8_boxesOf 33 = .ok (.iconst 0, 1) := by decide +kernel
theorem dX8_boxesOf_34 : decode cX8_boxesOf 34 = .ok (.ireturn, 1) := by decide +kernel
set_option maxRecDepth 20000 in
theorem ggX8_boxesWith_X8_in : GoodIn wsX8_boxesWith wsX8_in := goodIn_r _ [6] (by decide +kernel) (by decide +kernel)
set_option maxRecDepth 20000 in
theorem gX8_boxesWith_X8_in : GoodIn wsX8_boxesWith (va_wsS RX8 48 yX8_in wsX8_in) := goodIn_app (goodIn_of _ (by decide +kernel)) ggX8_boxesWith_X8_in
set_option maxRecDepth 20000 in
theorem ggX8_boxesWith_X8_has : GoodIn wsX8_boxesWith wsX8_has := goodIn_r _ [9, 10, 11, 5, 12, 13, 14, 15] (by decide +kernel) (by decide +kernel)
set_option maxRecDepth 20000 in
theorem gX8_boxesWith_X8_has : GoodIn wsX8_boxesWith (va_wsS RX8 66 yX8_has wsX8_has) := goodIn_app (goodIn_of _ (by decide +kernel)) ggX8_boxesWith_X8_has
theorem dX8_boxesWith_0 : decode cX8_boxesWith 0 = .ok (.aload_n 0, 1) := by decide +kernel
theorem dX8_boxesWith_1 : decode cX8_boxesWith 1 = .ok (.iload_n 1, 1) := by decide +kernel
theorem dX8_boxesWith_2 : decode cX8_boxesWith 2 = .ok (.iconst 0, 1) := by decide +kernel
theorem dX8_boxesWith_3 : decode cX8_boxesWith 3 = .ok (.iconst 4, 1) := by decide +kernel
theorem dX8_boxesWith_4 : decode cX8_boxesWith 4 = .ok (.invokestatic 48, 3) := by decide +kernel
theorem dX8_boxesWith_7 : decode cX8_boxesWith 7 = .ok (.ifCond .eq 7, 3) := by decide +kernel
theorem dX8_boxesWith_10 : decode cX8_boxesWith 10 = .ok (.iconst 0, 1) := by decide +kernel
theorem dX8_boxesWith_11 : decode cX8_boxesWith 11 = .ok (.goto 4, 3) := by decide +kernel
theorem dX8_boxesWith_14 : decode cX8_boxesWith 14 = .ok (.iconst 1, 1) := by decide +kernel
theorem dX8_boxesWith_15 : decode cX8_boxesWith 15 = .ok (.putfield 37, 3) := by decide +kernel
theorem dX8_boxesWith_18 : decode cX8_boxesWith 18 = .ok (.iconst 0, 1) := by decide +kernel
theorem dX8_boxesWith_19 : decode cX8_boxesWith 19 = .ok (.istore_n 2, 1) := by decide +kernel
theorem dX8_boxesWith_20 : decode cX8_boxesWith 20 = .ok (.iconst 0, 1) := by decide +kernel
theorem dX8_boxesWith_21 : decode cX8_boxesWith 21 = .ok (.istore_n 3, 1) := by decide +kernel
theorem dX8_boxesWith_22 : decode cX8_boxesWith 22 = .ok (.iload_n 3, 1) := by decide +kernel
theorem dX8_boxesWith_23 : decode cX8_boxesWith 23 = .ok (.bipush 12, 2) := by decide +kernel
theorem dX8_boxesWith_25 : decode cX8_boxesWith 25 = .ok (.if_icmp .ge 38, 3) := by decide +kernel
theorem dX8_boxesWith_28 : decode cX8_boxesWith 28 = .ok (.aload_n 0, 1) := by decide +kernel
theorem dX8_boxesWith_29 : decode cX8_boxesWith 29 = .ok (.getfield 37, 3) := by decide +kernel
theorem dX8_boxesWith_32 : decode cX8_boxesWith 32 = .ok (.ifCond .ne 31, 3) := by decide +kernel
theorem dX8_boxesWith_35 : decode cX8_boxesWith 35 = .ok (.iload_n 2, 1) := by decide +kernel
theorem dX8_boxesWith_36 : decode cX8_boxesWith 36 = .ok (.aload_n 0, 1) := by decide +kernel
theorem dX8_boxesWith_37 : decode cX8_boxesWith 37 = .ok (.getfield 7, 3) := by decide +kernel
theorem dX8_boxesWith_40 : decode cX8_boxesWith 40 = .ok (.iconst 0, 1) := by decide +kernel
theorem dX8_boxesWith_41 : decode cX8_boxesWith 41 = .ok (.iaload, 1) := by decide +kernel
theorem dX8_boxesWith_42 : decode cX8_boxesWith 42 = .ok (.iload_n 3, 1) := by decide +kernel
theorem dX8_boxesWith_43 : decode cX8_boxesWith 43 = .ok (.invokestatic 66, 3) := by decide +kernel
theorem dX8_boxesWith_46 : decode cX8_boxesWith 46 = .ok (.iload_n 1, 1) := by decide +kernel
theorem dX8_boxesWith_47 : decode cX8_boxesWith 47 = .ok (.if_icmp .ne 7, 3) := by decide +kernel
theorem dX8_boxesWith_50 : decode cX8_boxesWith 50 = .ok (.iconst 1, 1) := by decide +kernel
theorem dX8_boxesWith_51 : decode cX8_boxesWith 51 = .ok (.goto 4, 3) := by decide +kernel
theorem dX8_boxesWith_54 : decode cX8_boxesWith 54 = .ok (.iconst 0, 1) := by decide +kernel
theorem dX8_boxesWith_55 : decode cX8_boxesWith 55 = .ok (.iadd, 1) := by decide +kernel
theorem dX8_boxesWith_56 : decode cX8_boxesWith 56 = .ok (.istore_n 2, 1) := by decide +kernel
theorem dX8_boxesWith_57 : decode cX8_boxesWith 57 = .ok (.iinc 3 1, 3) := by decide +kernel
theorem dX8_boxesWith_60 : decode cX8_boxesWith 60 = .ok (.goto (-38), 3) := by decide +kernel
theorem dX8_boxesWith_63 : decode cX8_boxesWith 63 = .ok (.iload_n 2, 1) := by decide +kernel
theorem dX8_boxesWith_64 : decode cX8_boxesWith 64 = .ok (.ireturn, 1) := by decide +kernel
set_option maxRecDepth 20000 in
theorem ggX8_turn_X8_told : GoodIn wsX8_turn wsX8_told := goodIn_r _ [5, 6, 7, 8, 9, 10, 11, 12, 13, 14, 15, 16, 17, 18, 19, 20, 21, 22, 23, 24, 25, 26, 27, 28] (by decide +kernel) (by decide +kernel)
set_option maxRecDepth 20000 in
theorem gX8_turn_X8_told : GoodIn wsX8_turn (wsV RX8 98 RX8 yX8_told wsX8_told) := goodIn_app (goodIn_of _ (by decide +kernel)) ggX8_turn_X8_told
theorem dX8_turn_0 : decode cX8_turn 0 = .ok (.aload_n 0, 1) := by decide +kernel
theorem dX8_turn_1 : decode cX8_turn 1 = .ok (.bipush 13, 2) := by decide +kernel
theorem dX8_turn_3 : decode cX8_turn 3 = .ok (.invokevirtual 98, 3) := by decide +kernel
theorem dX8_turn_6 : decode cX8_turn 6 = .ok (.ireturn, 1) := by decide +kernel
set_option maxRecDepth 20000 in
theorem ggX8_whyNot_X8_isFence : GoodIn wsX8_whyNot wsX8_isFence := goodIn_r _ [5, 6, 7, 4, 8] (by decide +kernel) (by decide +kernel)
set_option maxRecDepth 20000 in
theorem gX8_whyNot_X8_isFence : GoodIn wsX8_whyNot (va_wsS RX8 82 yX8_isFence wsX8_isFence) := goodIn_app (goodIn_of _ (by decide +kernel)) ggX8_whyNot_X8_isFence
set_option maxRecDepth 20000 in
theorem ggX8_whyNot_X8_reason : GoodIn wsX8_whyNot wsX8_reason := goodIn_r _ [12, 13, 14, 15, 4, 16, 17, 18, 19, 20, 21, 22, 23, 24, 25, 26, 27, 28, 29, 30, 31, 32, 33, 34, 35, 36, 37] (by decide +kernel) (by decide +kernel)
set_option maxRecDepth 20000 in
theorem gX8_whyNot_X8_reason : GoodIn wsX8_whyNot (wsV RX8 89 RX8 yX8_reason wsX8_reason) := goodIn_app (goodIn_of _ (by decide +kernel)) ggX8_whyNot_X8_reason
theorem dX8_whyNot_0 : decode cX8_whyNot 0 = .ok (.aload_n 0, 1) := by decide +kernel
theorem dX8_whyNot_1 : decode cX8_whyNot 1 = .ok (.iload_n 1, 1) := by decide +kernel
theorem dX8_whyNot_2 : decode cX8_whyNot 2 = .ok (.invokestatic 82, 3) := by decide +kernel
theorem dX8_whyNot_5 : decode cX8_whyNot 5 = .ok (.ifCond .eq 7, 3) := by decide +kernel
theorem dX8_whyNot_8 : decode cX8_whyNot 8 = .ok (.iconst 0, 1) := by decide +kernel
theorem dX8_whyNot_9 : decode cX8_whyNot 9 = .ok (.goto 4, 3) := by decide +kernel
theorem dX8_whyNot_12 : decode cX8_whyNot 12 = .ok (.iconst 1, 1) := by decide +kernel
theorem dX8_whyNot_13 : decode cX8_whyNot 13 = .ok (.putfield 37, 3) := by decide +kernel
theorem dX8_whyNot_16 : decode cX8_whyNot 16 = .ok (.aload_n 0, 1) := by decide +kernel
theorem dX8_whyNot_17 : decode cX8_whyNot 17 = .ok (.getfield 37, 3) := by decide +kernel
theorem dX8_whyNot_20 : decode cX8_whyNot 20 = .ok (.ifCond .ne 11, 3) := by decide +kernel
theorem dX8_whyNot_23 : decode cX8_whyNot 23 = .ok (.aload_n 0, 1) := by decide +kernel
theorem dX8_whyNot_24 : decode cX8_whyNot 24 = .ok (.iload_n 1, 1) := by decide +kernel
theorem dX8_whyNot_25 : decode cX8_whyNot 25 = .ok (.invokevirtual 89, 3) := by decide +kernel
theorem dX8_whyNot_28 : decode cX8_whyNot 28 = .ok (.goto 4, 3) := by decide +kernel
theorem dX8_whyNot_31 : decode cX8_whyNot 31 = .ok (.iconst 0, 1) := by decide +kernel
theorem dX8_whyNot_32 : decode cX8_whyNot 32 = .ok (.ireturn, 1) := by decide +kernel
set_option maxRecDepth 20000 in
theorem ggX8_isOver_X8_told : GoodIn wsX8_isOver wsX8_told := goodIn_r _ [5, 6, 7, 8, 9, 10, 11, 12, 13, 14, 15, 16, 17, 18, 19, 20, 21, 22, 23, 24, 25, 26, 27, 28] (by decide +kernel) (by decide +kernel)
set_option maxRecDepth 20000 in
theorem gX8_isOver_X8_told : GoodIn wsX8_isOver (wsV RX8 98 RX8 yX8_told wsX8_told) := goodIn_app (goodIn_of _ (by decide +kernel)) ggX8_isOver_X8_told
theorem dX8_isOver_0 : decode cX8_isOver 0 = .ok (.aload_n 0, 1) := by decide +kernel
theorem dX8_isOver_1 : decode cX8_isOver 1 = .ok (.bipush 18, 2) := by decide +kernel
theorem dX8_isOver_3 : decode cX8_isOver 3 = .ok (.invokevirtual 98, 3) := by decide +kernel
theorem dX8_isOver_6 : decode cX8_isOver 6 = .ok (.bipush 31, 2) := by decide +kernel
theorem dX8_isOver_8 : decode cX8_isOver 8 = .ok (.if_icmp .ne 7, 3) := by decide +kernel
theorem dX8_isOver_11 : decode cX8_isOver 11 = .ok (.iconst 1, 1) := by decide +kernel
theorem dX8_isOver_12 : decode cX8_isOver 12 = .ok (.goto 4, 3) := by decide +kernel
theorem dX8_isOver_15 : decode cX8_isOver 15 = .ok (.iconst 0, 1) := by decide +kernel
theorem dX8_isOver_16 : decode cX8_isOver 16 = .ok (.ireturn, 1) := by decide +kernel
set_option maxRecDepth 20000 in
theorem ggX8_canTakeNow_X8_takes : GoodIn wsX8_canTakeNow wsX8_takes := goodIn_r _ [6, 7, 8, 5, 9, 10, 11, 12, 13, 14, 15, 16, 17, 18, 19, 20, 21, 22, 23, 24, 25, 26, 27] (by decide +kernel) (by decide +kernel)
set_option maxRecDepth 20000 in
theorem gX8_canTakeNow_X8_takes : GoodIn wsX8_canTakeNow (va_wsS RX8 104 yX8_takes wsX8_takes) := goodIn_app (goodIn_of _ (by decide +kernel)) ggX8_canTakeNow_X8_takes
theorem dX8_canTakeNow_0 : decode cX8_canTakeNow 0 = .ok (.aload_n 0, 1) := by decide +kernel
theorem dX8_canTakeNow_1 : decode cX8_canTakeNow 1 = .ok (.iconst 0, 1) := by decide +kernel
theorem dX8_canTakeNow_2 : decode cX8_canTakeNow 2 = .ok (.putfield 37, 3) := by decide +kernel
theorem dX8_canTakeNow_5 : decode cX8_canTakeNow 5 = .ok (.aload_n 0, 1) := by decide +kernel
theorem dX8_canTakeNow_6 : decode cX8_canTakeNow 6 = .ok (.getfield 7, 3) := by decide +kernel
theorem dX8_canTakeNow_9 : decode cX8_canTakeNow 9 = .ok (.iconst 0, 1) := by decide +kernel
theorem dX8_canTakeNow_10 : decode cX8_canTakeNow 10 = .ok (.iaload, 1) := by decide +kernel
theorem dX8_canTakeNow_11 : decode cX8_canTakeNow 11 = .ok (.invokestatic 104, 3) := by decide +kernel
theorem dX8_canTakeNow_14 : decode cX8_canTakeNow 14 = .ok (.ireturn, 1) := by decide +kernel
set_option maxRecDepth 20000 in
theorem ggX8_canTake_X8_canTakeNow : GoodIn wsX8_canTake wsX8_canTakeNow := goodIn_r _ [5, 6, 7, 8, 9, 4, 10, 11, 12, 13, 14, 15, 16, 17, 18, 19, 20, 21, 22, 23, 24, 25, 26, 27, 28, 29, 30, 31, 32, 33, 34, 35, 36, 37, 38, 39, 40, 41, 42, 43, 44, 45, 46, 47, 48, 49, 50, 51, 52] (by decide +kernel) (by decide +kernel)
set_option maxRecDepth 20000 in
theorem gX8_canTake_X8_canTakeNow : GoodIn wsX8_canTake (wsV RX8 107 RX8 yX8_canTakeNow wsX8_canTakeNow) := goodIn_app (goodIn_of _ (by decide +kernel)) ggX8_canTake_X8_canTakeNow
theorem dX8_canTake_0 : decode cX8_canTake 0 = .ok (.aload_n 0, 1) := by decide +kernel
theorem dX8_canTake_1 : decode cX8_canTake 1 = .ok (.invokevirtual 107, 3) := by decide +kernel
theorem dX8_canTake_4 : decode cX8_canTake 4 = .ok (.ireturn, 1) := by decide +kernel
set_option maxRecDepth 20000 in
theorem ggX8_canTakeByRounds_X8_canTakeNow : GoodIn wsX8_canTakeByRounds wsX8_canTakeNow := goodIn_r _ [5, 6, 7, 8, 9, 4, 10, 11, 12, 13, 14, 15, 16, 17, 18, 19, 20, 21, 22, 23, 24, 25, 26, 27, 28, 29, 30, 31, 32, 33, 34, 35, 36, 37, 38, 39, 40, 41, 42, 43, 44, 45, 46, 47, 48, 49, 50, 51, 52] (by decide +kernel) (by decide +kernel)
set_option maxRecDepth 20000 in
theorem gX8_canTakeByRounds_X8_canTakeNow : GoodIn wsX8_canTakeByRounds (wsV RX8 107 RX8 yX8_canTakeNow wsX8_canTakeNow) := goodIn_app (goodIn_of _ (by decide +kernel)) ggX8_canTakeByRounds_X8_canTakeNow
theorem dX8_canTakeByRounds_0 : decode cX8_canTakeByRounds 0 = .ok (.aload_n 0, 1) := by decide +kernel
theorem dX8_canTakeByRounds_1 : decode cX8_canTakeByRounds 1 = .ok (.invokevirtual 107, 3) := by decide +kernel
theorem dX8_canTakeByRounds_4 : decode cX8_canTakeByRounds 4 = .ok (.ireturn, 1) := by decide +kernel
set_option maxRecDepth 20000 in
theorem ggX8_takingFence_X8_taking : GoodIn wsX8_takingFence wsX8_taking := goodIn_r _ [6, 7, 8, 5, 9, 10, 11, 12, 13, 14, 15, 16, 17, 18, 19, 20, 21, 22, 23, 24] (by decide +kernel) (by decide +kernel)
set_option maxRecDepth 20000 in
theorem gX8_takingFence_X8_taking : GoodIn wsX8_takingFence (va_wsS RX8 73 yX8_taking wsX8_taking) := goodIn_app (goodIn_of _ (by decide +kernel)) ggX8_takingFence_X8_taking
theorem dX8_takingFence_0 : decode cX8_takingFence 0 = .ok (.aload_n 0, 1) := by decide +kernel
theorem dX8_takingFence_1 : decode cX8_takingFence 1 = .ok (.getfield 7, 3) := by decide +kernel
theorem dX8_takingFence_4 : decode cX8_takingFence 4 = .ok (.iconst 0, 1) := by decide +kernel
theorem dX8_takingFence_5 : decode cX8_takingFence 5 = .ok (.iaload, 1) := by decide +kernel
theorem dX8_takingFence_6 : decode cX8_takingFence 6 = .ok (.invokestatic 73, 3) := by decide +kernel
theorem dX8_takingFence_9 : decode cX8_takingFence 9 = .ok (.istore_n 1, 1) := by decide +kernel
theorem dX8_takingFence_10 : decode cX8_takingFence 10 = .ok (.aload_n 0, 1) := by decide +kernel
theorem dX8_takingFence_11 : decode cX8_takingFence 11 = .ok (.iload_n 1, 1) := by decide +kernel
theorem dX8_takingFence_12 : decode cX8_takingFence 12 = .ok (.ifCond .ge 7, 3) := by decide +kernel
theorem dX8_takingFence_15 : decode cX8_takingFence 15 = .ok (.iconst 1, 1) := by decide +kernel
theorem dX8_takingFence_16 : decode cX8_takingFence 16 = .ok (.goto 4, 3) := by decide +kernel
theorem dX8_takingFence_19 : decode cX8_takingFence 19 = .ok (.iconst 0, 1) := by decide +kernel
theorem dX8_takingFence_20 : decode cX8_takingFence 20 = .ok (.putfield 37, 3) := by decide +kernel
theorem dX8_takingFence_23 : decode cX8_takingFence 23 = .ok (.iload_n 1, 1) := by decide +kernel
theorem dX8_takingFence_24 : decode cX8_takingFence 24 = .ok (.ifCond .ge 7, 3) := by decide +kernel
theorem dX8_takingFence_27 : decode cX8_takingFence 27 = .ok (.iconst 0, 1) := by decide +kernel
theorem dX8_takingFence_28 : decode cX8_takingFence 28 = .ok (.goto 4, 3) := by decide +kernel
theorem dX8_takingFence_31 : decode cX8_takingFence 31 = .ok (.iload_n 1, 1) := by decide +kernel
theorem dX8_takingFence_32 : decode cX8_takingFence 32 = .ok (.ireturn, 1) := by decide +kernel
set_option maxRecDepth 20000 in
theorem ggX8_isSafe_X8_isFence : GoodIn wsX8_isSafe wsX8_isFence := goodIn_r _ [6, 7, 8, 5, 9] (by decide +kernel) (by decide +kernel)
set_option maxRecDepth 20000 in
theorem gX8_isSafe_X8_isFence : GoodIn wsX8_isSafe (va_wsS RX8 82 yX8_isFence wsX8_isFence) := goodIn_app (goodIn_of _ (by decide +kernel)) ggX8_isSafe_X8_isFence
set_option maxRecDepth 20000 in
theorem ggX8_isSafe_X8_safe : GoodIn wsX8_isSafe wsX8_safe := goodIn_r _ [12, 13, 14, 5, 15, 16, 17, 18, 19, 20, 21, 22, 23, 24, 25, 26, 27] (by decide +kernel) (by decide +kernel)
set_option maxRecDepth 20000 in
theorem gX8_isSafe_X8_safe : GoodIn wsX8_isSafe (va_wsS RX8 76 yX8_safe wsX8_safe) := goodIn_app (goodIn_of _ (by decide +kernel)) ggX8_isSafe_X8_safe
theorem dX8_isSafe_0 : decode cX8_isSafe 0 = .ok (.aload_n 0, 1) := by decide +kernel
theorem dX8_isSafe_1 : decode cX8_isSafe 1 = .ok (.iload_n 1, 1) := by decide +kernel
theorem dX8_isSafe_2 : decode cX8_isSafe 2 = .ok (.invokestatic 82, 3) := by decide +kernel
theorem dX8_isSafe_5 : decode cX8_isSafe 5 = .ok (.ifCond .eq 7, 3) := by decide +kernel
theorem dX8_isSafe_8 : decode cX8_isSafe 8 = .ok (.iconst 0, 1) := by decide +kernel
theorem dX8_isSafe_9 : decode cX8_isSafe 9 = .ok (.goto 4, 3) := by decide +kernel
theorem dX8_isSafe_12 : decode cX8_isSafe 12 = .ok (.iconst 1, 1) := by decide +kernel
theorem dX8_isSafe_13 : decode cX8_isSafe 13 = .ok (.putfield 37, 3) := by decide +kernel
theorem dX8_isSafe_16 : decode cX8_isSafe 16 = .ok (.aload_n 0, 1) := by decide +kernel
theorem dX8_isSafe_17 : decode cX8_isSafe 17 = .ok (.getfield 37, 3) := by decide +kernel
theorem dX8_isSafe_20 : decode cX8_isSafe 20 = .ok (.ifCond .ne 20, 3) := by decide +kernel
theorem dX8_isSafe_23 : decode cX8_isSafe 23 = .ok (.aload_n 0, 1) := by decide +kernel
theorem dX8_isSafe_24 : decode cX8_isSafe 24 = .ok (.getfield 7, 3) := by decide +kernel
theorem dX8_isSafe_27 : decode cX8_isSafe 27 = .ok (.iconst 0, 1) := by decide +kernel
theorem dX8_isSafe_28 : decode cX8_isSafe 28 = .ok (.iaload, 1) := by decide +kernel
theorem dX8_isSafe_29 : decode cX8_isSafe 29 = .ok (.iload_n 1, 1) := by decide +kernel
theorem dX8_isSafe_30 : decode cX8_isSafe 30 = .ok (.invokestatic 76, 3) := by decide +kernel
theorem dX8_isSafe_33 : decode cX8_isSafe 33 = .ok (.ifCond .eq 7, 3) := by decide +kernel
theorem dX8_isSafe_36 : decode cX8_isSafe 36 = .ok (.iconst 1, 1) := by decide +kernel
theorem dX8_isSafe_37 : decode cX8_isSafe 37 = .ok (.goto 4, 3) := by decide +kernel
theorem dX8_isSafe_40 : decode cX8_isSafe 40 = .ok (.iconst 0, 1) := by decide +kernel
theorem dX8_isSafe_41 : decode cX8_isSafe 41 = .ok (.ireturn, 1) := by decide +kernel
set_option maxRecDepth 20000 in
theorem ggX8_safeFences_X8_safe : GoodIn wsX8_safeFences wsX8_safe := goodIn_r _ [6, 7, 8, 5, 9, 10, 11, 12, 13, 14, 15, 16, 17, 18, 19, 20, 21] (by decide +kernel) (by decide +kernel)
set_option maxRecDepth 20000 in
theorem gX8_safeFences_X8_safe : GoodIn wsX8_safeFences (va_wsS RX8 76 yX8_safe wsX8_safe) := goodIn_app (goodIn_of _ (by decide +kernel)) ggX8_safeFences_X8_safe
theorem dX8_safeFences_0 : decode cX8_safeFences 0 = .ok (.aload_n 0, 1) := by decide +kernel
theorem dX8_safeFences_1 : decode cX8_safeFences 1 = .ok (.iconst 0, 1) := by decide +kernel
theorem dX8_safeFences_2 : decode cX8_safeFences 2 = .ok (.putfield 37, 3) := by decide +kernel
theorem dX8_safeFences_5 : decode cX8_safeFences 5 = .ok (.iconst 0, 1) := by decide +kernel
theorem dX8_safeFences_6 : decode cX8_safeFences 6 = .ok (.istore_n 1, 1) := by decide +kernel
theorem dX8_safeFences_7 : decode cX8_safeFences 7 = .ok (.iconst 0, 1) := by decide +kernel
theorem dX8_safeFences_8 : decode cX8_safeFences 8 = .ok (.istore_n 2, 1) := by decide +kernel
theorem dX8_safeFences_9 : decode cX8_safeFences 9 = .ok (.iload_n 2, 1) := by decide +kernel
theorem dX8_safeFences_10 : decode cX8_safeFences 10 = .ok (.bipush 31, 2) := by decide +kernel
theorem dX8_safeFences_12 : decode cX8_safeFences 12 = .ok (.if_icmp .ge 30, 3) := by decide +kernel
theorem dX8_safeFences_15 : decode cX8_safeFences 15 = .ok (.iload_n 1, 1) := by decide +kernel
theorem dX8_safeFences_16 : decode cX8_safeFences 16 = .ok (.aload_n 0, 1) := by decide +kernel
theorem dX8_safeFences_17 : decode cX8_safeFences 17 = .ok (.getfield 7, 3) := by decide +kernel
theorem dX8_safeFences_20 : decode cX8_safeFences 20 = .ok (.iconst 0, 1) := by decide +kernel
theorem dX8_safeFences_21 : decode cX8_safeFences 21 = .ok (.iaload, 1) := by decide +kernel
theorem dX8_safeFences_22 : decode cX8_safeFences 22 = .ok (.iload_n 2, 1) := by decide +kernel
theorem dX8_safeFences_23 : decode cX8_safeFences 23 = .ok (.invokestatic 76, 3) := by decide +kernel
theorem dX8_safeFences_26 : decode cX8_safeFences 26 = .ok (.ifCond .eq 7, 3) := by decide +kernel
theorem dX8_safeFences_29 : decode cX8_safeFences 29 = .ok (.iconst 1, 1) := by decide +kernel
theorem dX8_safeFences_30 : decode cX8_safeFences 30 = .ok (.goto 4, 3) := by decide +kernel
theorem dX8_safeFences_33 : decode cX8_safeFences 33 = .ok (.iconst 0, 1) := by decide +kernel
theorem dX8_safeFences_34 : decode cX8_safeFences 34 = .ok (.iadd, 1) := by decide +kernel
theorem dX8_safeFences_35 : decode cX8_safeFences 35 = .ok (.istore_n 1, 1) := by decide +kernel
theorem dX8_safeFences_36 : decode cX8_safeFences 36 = .ok (.iinc 2 1, 3) := by decide +kernel
theorem dX8_safeFences_39 : decode cX8_safeFences 39 = .ok (.goto (-30), 3) := by decide +kernel
theorem dX8_safeFences_42 : decode cX8_safeFences 42 = .ok (.iload_n 1, 1) := by decide +kernel
theorem dX8_safeFences_43 : decode cX8_safeFences 43 = .ok (.ireturn, 1) := by decide +kernel
set_option maxRecDepth 20000 in
theorem ggX8_safeInRow_X8_firstSafe : GoodIn wsX8_safeInRow wsX8_firstSafe := goodIn_r _ [6, 7, 8, 5, 9, 10, 11, 12, 13, 14, 15, 16, 17, 18, 19, 20, 21, 22, 23, 24] (by decide +kernel) (by decide +kernel)
set_option maxRecDepth 20000 in
theorem gX8_safeInRow_X8_firstSafe : GoodIn wsX8_safeInRow (va_wsS RX8 111 yX8_firstSafe wsX8_firstSafe) := goodIn_app (goodIn_of _ (by decide +kernel)) ggX8_safeInRow_X8_firstSafe
theorem dX8_safeInRow_0 : decode cX8_safeInRow 0 = .ok (.aload_n 0, 1) := by decide +kernel
theorem dX8_safeInRow_1 : decode cX8_safeInRow 1 = .ok (.iconst 0, 1) := by decide +kernel
theorem dX8_safeInRow_2 : decode cX8_safeInRow 2 = .ok (.putfield 37, 3) := by decide +kernel
theorem dX8_safeInRow_5 : decode cX8_safeInRow 5 = .ok (.aload_n 0, 1) := by decide +kernel
theorem dX8_safeInRow_6 : decode cX8_safeInRow 6 = .ok (.getfield 7, 3) := by decide +kernel
theorem dX8_safeInRow_9 : decode cX8_safeInRow 9 = .ok (.iconst 0, 1) := by decide +kernel
theorem dX8_safeInRow_10 : decode cX8_safeInRow 10 = .ok (.iaload, 1) := by decide +kernel
theorem dX8_safeInRow_11 : decode cX8_safeInRow 11 = .ok (.istore_n 1, 1) := by decide +kernel
theorem dX8_safeInRow_12 : decode cX8_safeInRow 12 = .ok (.iconst 0, 1) := by decide +kernel
theorem dX8_safeInRow_13 : decode cX8_safeInRow 13 = .ok (.istore_n 2, 1) := by decide +kernel
theorem dX8_safeInRow_14 : decode cX8_safeInRow 14 = .ok (.iload_n 1, 1) := by decide +kernel
theorem dX8_safeInRow_15 : decode cX8_safeInRow 15 = .ok (.invokestatic 111, 3) := by decide +kernel
theorem dX8_safeInRow_18 : decode cX8_safeInRow 18 = .ok (.istore_n 3, 1) := by decide +kernel
theorem dX8_safeInRow_19 : decode cX8_safeInRow 19 = .ok (.iload_n 3, 1) := by decide +kernel
theorem dX8_safeInRow_20 : decode cX8_safeInRow 20 = .ok (.ifCond .lt 20, 3) := by decide +kernel
theorem dX8_safeInRow_23 : decode cX8_safeInRow 23 = .ok (.iload_n 1, 1) := by decide +kernel
theorem dX8_safeInRow_24 : decode cX8_safeInRow 24 = .ok (.iconst 1, 1) := by decide +kernel
theorem dX8_safeInRow_25 : decode cX8_safeInRow 25 = .ok (.iload_n 3, 1) := by decide +kernel
theorem dX8_safeInRow_26 : decode cX8_safeInRow 26 = .ok (.ishl, 1) := by decide +kernel
theorem dX8_safeInRow_27 : decode cX8_safeInRow 27 = .ok (.ior, 1) := by decide +kernel
theorem dX8_safeInRow_28 : decode cX8_safeInRow 28 = .ok (.istore_n 1, 1) := by decide +kernel
theorem dX8_safeInRow_29 : decode cX8_safeInRow 29 = .ok (.iinc 2 1, 3) := by decide +kernel
theorem dX8_safeInRow_32 : decode cX8_safeInRow 32 = .ok (.iload_n 1, 1) := by decide +kernel
theorem dX8_safeInRow_33 : decode cX8_safeInRow 33 = .ok (.invokestatic 111, 3) := by decide +kernel
theorem dX8_safeInRow_36 : decode cX8_safeInRow 36 = .ok (.istore_n 3, 1) := by decide +kernel
theorem dX8_safeInRow_37 : decode cX8_safeInRow 37 = .ok (.goto (-18), 3) := by decide +kernel
theorem dX8_safeInRow_40 : decode cX8_safeInRow 40 = .ok (.iload_n 2, 1) := by decide +kernel
theorem dX8_safeInRow_41 : decode cX8_safeInRow 41 = .ok (.ireturn, 1) := by decide +kernel
set_option maxRecDepth 20000 in
theorem ggX8_gives_X8_isFence : GoodIn wsX8_gives wsX8_isFence := goodIn_r _ [6, 7, 8, 5, 9] (by decide +kernel) (by decide +kernel)
set_option maxRecDepth 20000 in
theorem gX8_gives_X8_isFence : GoodIn wsX8_gives (va_wsS RX8 82 yX8_isFence wsX8_isFence) := goodIn_app (goodIn_of _ (by decide +kernel)) ggX8_gives_X8_isFence
set_option maxRecDepth 20000 in
theorem ggX8_gives_X8_isIn : GoodIn wsX8_gives wsX8_isIn := goodIn_r _ [12] (by decide +kernel) (by decide +kernel)
set_option maxRecDepth 20000 in
theorem gX8_gives_X8_isIn : GoodIn wsX8_gives (va_wsS RX8 59 yX8_isIn wsX8_isIn) := goodIn_app (goodIn_of _ (by decide +kernel)) ggX8_gives_X8_isIn
set_option maxRecDepth 20000 in
theorem ggX8_gives_X8_takes : GoodIn wsX8_gives wsX8_takes := goodIn_r _ [15, 16, 17, 5, 18, 10, 11, 12, 19, 20, 21, 22, 23, 24, 25, 26, 27, 28, 29, 30, 31, 32, 33] (by decide +kernel) (by decide +kernel)
set_option maxRecDepth 20000 in
theorem gX8_gives_X8_takes : GoodIn wsX8_gives (va_wsS RX8 104 yX8_takes wsX8_takes) := goodIn_app (goodIn_of _ (by decide +kernel)) ggX8_gives_X8_takes
theorem dX8_gives_0 : decode cX8_gives 0 = .ok (.aload_n 0, 1) := by decide +kernel
theorem dX8_gives_1 : decode cX8_gives 1 = .ok (.iload_n 1, 1) := by decide +kernel
theorem dX8_gives_2 : decode cX8_gives 2 = .ok (.invokestatic 82, 3) := by decide +kernel
theorem dX8_gives_5 : decode cX8_gives 5 = .ok (.ifCond .ne 7, 3) := by decide +kernel
theorem dX8_gives_8 : decode cX8_gives 8 = .ok (.iconst 1, 1) := by decide +kernel
theorem dX8_gives_9 : decode cX8_gives 9 = .ok (.goto 21, 3) := by decide +kernel
theorem dX8_gives_12 : decode cX8_gives 12 = .ok (.aload_n 0, 1) := by decide +kernel
theorem dX8_gives_13 : decode cX8_gives 13 = .ok (.getfield 7, 3) := by decide +kernel
theorem dX8_gives_16 : decode cX8_gives 16 = .ok (.iconst 0, 1) := by decide +kernel
theorem dX8_gives_17 : decode cX8_gives 17 = .ok (.iaload, 1) := by decide +kernel
theorem dX8_gives_18 : decode cX8_gives 18 = .ok (.iload_n 1, 1) := by decide +kernel
theorem dX8_gives_19 : decode cX8_gives 19 = .ok (.invokestatic 59, 3) := by decide +kernel
theorem dX8_gives_22 : decode cX8_gives 22 = .ok (.ifCond .eq 7, 3) := by decide +kernel
theorem dX8_gives_25 : decode cX8_gives 25 = .ok (.iconst 2, 1) := by decide +kernel
theorem dX8_gives_26 : decode cX8_gives 26 = .ok (.goto 4, 3) := by decide +kernel
theorem dX8_gives_29 : decode cX8_gives 29 = .ok (.iconst 0, 1) := by decide +kernel
theorem dX8_gives_30 : decode cX8_gives 30 = .ok (.putfield 37, 3) := by decide +kernel
theorem dX8_gives_33 : decode cX8_gives 33 = .ok (.aload_n 0, 1) := by decide +kernel
theorem dX8_gives_34 : decode cX8_gives 34 = .ok (.getfield 37, 3) := by decide +kernel
theorem dX8_gives_37 : decode cX8_gives 37 = .ok (.ifCond .ne 19, 3) := by decide +kernel
theorem dX8_gives_40 : decode cX8_gives 40 = .ok (.aload_n 0, 1) := by decide +kernel
theorem dX8_gives_41 : decode cX8_gives 41 = .ok (.getfield 7, 3) := by decide +kernel
theorem dX8_gives_44 : decode cX8_gives 44 = .ok (.iconst 0, 1) := by decide +kernel
theorem dX8_gives_45 : decode cX8_gives 45 = .ok (.iaload, 1) := by decide +kernel
theorem dX8_gives_46 : decode cX8_gives 46 = .ok (.iconst 1, 1) := by decide +kernel
theorem dX8_gives_47 : decode cX8_gives 47 = .ok (.iload_n 1, 1) := by decide +kernel
theorem dX8_gives_48 : decode cX8_gives 48 = .ok (.ishl, 1) := by decide +kernel
theorem dX8_gives_49 : decode cX8_gives 49 = .ok (.ior, 1) := by decide +kernel
theorem dX8_gives_50 : decode cX8_gives 50 = .ok (.invokestatic 104, 3) := by decide +kernel
theorem dX8_gives_53 : decode cX8_gives 53 = .ok (.goto 4, 3) := by decide +kernel
theorem dX8_gives_56 : decode cX8_gives 56 = .ok (.iconst 0, 1) := by decide +kernel
theorem dX8_gives_57 : decode cX8_gives 57 = .ok (.ireturn, 1) := by decide +kernel
set_option maxRecDepth 20000 in
theorem ggX8_leastSacrifice_X8_isIn : GoodIn wsX8_leastSacrifice wsX8_isIn := goodIn_r _ [6] (by decide +kernel) (by decide +kernel)
set_option maxRecDepth 20000 in
theorem gX8_leastSacrifice_X8_isIn : GoodIn wsX8_leastSacrifice (va_wsS RX8 59 yX8_isIn wsX8_isIn) := goodIn_app (goodIn_of _ (by decide +kernel)) ggX8_leastSacrifice_X8_isIn
set_option maxRecDepth 20000 in
theorem ggX8_leastSacrifice_X8_takes : GoodIn wsX8_leastSacrifice wsX8_takes := goodIn_r _ [9, 10, 11, 5, 12, 3, 4, 6, 13, 14, 15, 16, 17, 18, 19, 20, 21, 22, 23, 24, 25, 26, 27] (by decide +kernel) (by decide +kernel)
set_option maxRecDepth 20000 in
theorem gX8_leastSacrifice_X8_takes : GoodIn wsX8_leastSacrifice (va_wsS RX8 104 yX8_takes wsX8_takes) := goodIn_app (goodIn_of _ (by decide +kernel)) ggX8_leastSacrifice_X8_takes
theorem dX8_leastSacrifice_0 : decode cX8_leastSacrifice 0 = .ok (.iconst (-1), 1) := by decide +kernel
theorem dX8_leastSacrifice_1 : decode cX8_leastSacrifice 1 = .ok (.istore_n 1, 1) := by decide +kernel
theorem dX8_leastSacrifice_2 : decode cX8_leastSacrifice 2 = .ok (.bipush 99, 2) := by decide +kernel
theorem dX8_leastSacrifice_4 : decode cX8_leastSacrifice 4 = .ok (.istore_n 2, 1) := by decide +kernel
theorem dX8_leastSacrifice_5 : decode cX8_leastSacrifice 5 = .ok (.iconst 0, 1) := by decide +kernel
theorem dX8_leastSacrifice_6 : decode cX8_leastSacrifice 6 = .ok (.istore_n 3, 1) := by decide +kernel
theorem dX8_leastSacrifice_7 : decode cX8_leastSacrifice 7 = .ok (.iload_n 3, 1) := by decide +kernel
theorem dX8_leastSacrifice_8 : decode cX8_leastSacrifice 8 = .ok (.bipush 31, 2) := by decide +kernel
theorem dX8_leastSacrifice_10 : decode cX8_leastSacrifice 10 = .ok (.if_icmp .ge 67, 3) := by decide +kernel
theorem dX8_leastSacrifice_13 : decode cX8_leastSacrifice 13 = .ok (.aload_n 0, 1) := by decide +kernel
theorem dX8_leastSacrifice_14 : decode cX8_leastSacrifice 14 = .ok (.getfield 7, 3) := by decide +kernel
theorem dX8_leastSacrifice_17 : decode cX8_leastSacrifice 17 = .ok (.iconst 0, 1) := by decide +kernel
theorem dX8_leastSacrifice_18 : decode cX8_leastSacrifice 18 = .ok (.iaload, 1) := by decide +kernel
theorem dX8_leastSacrifice_19 : decode cX8_leastSacrifice 19 = .ok (.iload_n 3, 1) := by decide +kernel
theorem dX8_leastSacrifice_20 : decode cX8_leastSacrifice 20 = .ok (.invokestatic 59, 3) := by decide +kernel
theorem dX8_leastSacrifice_23 : decode cX8_leastSacrifice 23 = .ok (.ifCond .eq 8, 3) := by decide +kernel
theorem dX8_leastSacrifice_26 : decode cX8_leastSacrifice 26 = .ok (.bipush 99, 2) := by decide +kernel
theorem dX8_leastSacrifice_28 : decode cX8_leastSacrifice 28 = .ok (.goto 16, 3) := by decide +kernel
theorem dX8_leastSacrifice_31 : decode cX8_leastSacrifice 31 = .ok (.aload_n 0, 1) := by decide +kernel
theorem dX8_leastSacrifice_32 : decode cX8_leastSacrifice 32 = .ok (.getfield 7, 3) := by decide +kernel
theorem dX8_leastSacrifice_35 : decode cX8_leastSacrifice 35 = .ok (.iconst 0, 1) := by decide +kernel
theorem dX8_leastSacrifice_36 : decode cX8_leastSacrifice 36 = .ok (.iaload, 1) := by decide +kernel
theorem dX8_leastSacrifice_37 : decode cX8_leastSacrifice 37 = .ok (.iconst 1, 1) := by decide +kernel
theorem dX8_leastSacrifice_38 : decode cX8_leastSacrifice 38 = .ok (.iload_n 3, 1) := by decide +kernel
theorem dX8_leastSacrifice_39 : decode cX8_leastSacrifice 39 = .ok (.ishl, 1) := by decide +kernel
theorem dX8_leastSacrifice_40 : decode cX8_leastSacrifice 40 = .ok (.ior, 1) := by decide +kernel
theorem dX8_leastSacrifice_41 : decode cX8_leastSacrifice 41 = .ok (.invokestatic 104, 3) := by decide +kernel
theorem dX8_leastSacrifice_44 : decode cX8_leastSacrifice 44 = .ok (.istore 4, 2) := by decide +kernel
theorem dX8_leastSacrifice_46 : decode cX8_leastSacrifice 46 = .ok (.iload 4, 2) := by decide +kernel
theorem dX8_leastSacrifice_48 : decode cX8_leastSacrifice 48 = .ok (.iload_n 2, 1) := by decide +kernel
theorem dX8_leastSacrifice_49 : decode cX8_leastSacrifice 49 = .ok (.if_icmp .ge 7, 3) := by decide +kernel
theorem dX8_leastSacrifice_52 : decode cX8_leastSacrifice 52 = .ok (.iload_n 3, 1) := by decide +kernel
theorem dX8_leastSacrifice_53 : decode cX8_leastSacrifice 53 = .ok (.goto 4, 3) := by decide +kernel
theorem dX8_leastSacrifice_56 : decode cX8_leastSacrifice 56 = .ok (.iload_n 1, 1) := by decide +kernel
theorem dX8_leastSacrifice_57 : decode cX8_leastSacrifice 57 = .ok (.istore_n 1, 1) := by decide +kernel
theorem dX8_leastSacrifice_58 : decode cX8_leastSacrifice 58 = .ok (.iload 4, 2) := by decide +kernel
theorem dX8_leastSacrifice_60 : decode cX8_leastSacrifice 60 = .ok (.iload_n 2, 1) := by decide +kernel
theorem dX8_leastSacrifice_61 : decode cX8_leastSacrifice 61 = .ok (.if_icmp .ge 8, 3) := by decide +kernel
theorem dX8_leastSacrifice_64 : decode cX8_leastSacrifice 64 = .ok (.iload 4, 2) := by decide +kernel
theorem dX8_leastSacrifice_66 : decode cX8_leastSacrifice 66 = .ok (.goto 4, 3) := by decide +kernel
theorem dX8_leastSacrifice_69 : decode cX8_leastSacrifice 69 = .ok (.iload_n 2, 1) := by decide +kernel
theorem dX8_leastSacrifice_70 : decode cX8_leastSacrifice 70 = .ok (.istore_n 2, 1) := by decide +kernel
theorem dX8_leastSacrifice_71 : decode cX8_leastSacrifice 71 = .ok (.iinc 3 1, 3) := by decide +kernel
theorem dX8_leastSacrifice_74 : decode cX8_leastSacrifice 74 = .ok (.goto (-67), 3) := by decide +kernel
theorem dX8_leastSacrifice_77 : decode cX8_leastSacrifice 77 = .ok (.aload_n 0, 1) := by decide +kernel
theorem dX8_leastSacrifice_78 : decode cX8_leastSacrifice 78 = .ok (.iload_n 1, 1) := by decide +kernel
theorem dX8_leastSacrifice_79 : decode cX8_leastSacrifice 79 = .ok (.ifCond .ge 7, 3) := by decide +kernel
theorem dX8_leastSacrifice_82 : decode cX8_leastSacrifice 82 = .ok (.iconst 1, 1) := by decide +kernel
theorem dX8_leastSacrifice_83 : decode cX8_leastSacrifice 83 = .ok (.goto 4, 3) := by decide +kernel
theorem dX8_leastSacrifice_86 : decode cX8_leastSacrifice 86 = .ok (.iconst 0, 1) := by decide +kernel
theorem dX8_leastSacrifice_87 : decode cX8_leastSacrifice 87 = .ok (.putfield 37, 3) := by decide +kernel
theorem dX8_leastSacrifice_90 : decode cX8_leastSacrifice 90 = .ok (.iload_n 1, 1) := by decide +kernel
theorem dX8_leastSacrifice_91 : decode cX8_leastSacrifice 91 = .ok (.ifCond .ge 7, 3) := by decide +kernel
theorem dX8_leastSacrifice_94 : decode cX8_leastSacrifice 94 = .ok (.iconst 0, 1) := by decide +kernel
theorem dX8_leastSacrifice_95 : decode cX8_leastSacrifice 95 = .ok (.goto 4, 3) := by decide +kernel
theorem dX8_leastSacrifice_98 : decode cX8_leastSacrifice 98 = .ok (.iload_n 1, 1) := by decide +kernel
theorem dX8_leastSacrifice_99 : decode cX8_leastSacrifice 99 = .ok (.ireturn, 1) := by decide +kernel
set_option maxRecDepth 20000 in
theorem ggX8_between_X8_around : GoodIn wsX8_between wsX8_around := goodIn_r _ [4] (by decide +kernel) (by decide +kernel)
set_option maxRecDepth 20000 in
theorem gX8_between_X8_around : GoodIn wsX8_between (va_wsS RX8 52 yX8_around wsX8_around) := goodIn_app (goodIn_of _ (by decide +kernel)) ggX8_between_X8_around
set_option maxRecDepth 20000 in
theorem ggX8_between_X8_isIn : GoodIn wsX8_between wsX8_isIn := goodIn_r _ [7] (by decide +kernel) (by decide +kernel)
set_option maxRecDepth 20000 in
theorem gX8_between_X8_isIn : GoodIn wsX8_between (va_wsS RX8 59 yX8_isIn wsX8_isIn) := goodIn_app (goodIn_of _ (by decide +kernel)) ggX8_between_X8_isIn
theorem dX8_between_0 : decode cX8_between 0 = .ok (.iload_n 0, 1) := by decide +kernel
theorem dX8_between_1 : decode cX8_between 1 = .ok (.invokestatic 52, 3) := by decide +kernel
theorem dX8_between_4 : decode cX8_between 4 = .ok (.iload_n 1, 1) := by decide +kernel
theorem dX8_between_5 : decode cX8_between 5 = .ok (.invokestatic 52, 3) := by decide +kernel
theorem dX8_between_8 : decode cX8_between 8 = .ok (.iand, 1) := by decide +kernel
theorem dX8_between_9 : decode cX8_between 9 = .ok (.istore_n 2, 1) := by decide +kernel
theorem dX8_between_10 : decode cX8_between 10 = .ok (.iconst (-1), 1) := by decide +kernel
theorem dX8_between_11 : decode cX8_between 11 = .ok (.istore_n 3, 1) := by decide +kernel
theorem dX8_between_12 : decode cX8_between 12 = .ok (.iconst 0, 1) := by decide +kernel
theorem dX8_between_13 : decode cX8_between 13 = .ok (.istore 4, 2) := by decide +kernel
theorem dX8_between_15 : decode cX8_between 15 = .ok (.iload 4, 2) := by decide +kernel
theorem dX8_between_17 : decode cX8_between 17 = .ok (.bipush 31, 2) := by decide +kernel
theorem dX8_between_19 : decode cX8_between 19 = .ok (.if_icmp .ge 30, 3) := by decide +kernel
theorem dX8_between_22 : decode cX8_between 22 = .ok (.iload_n 0, 1) := by decide +kernel
theorem dX8_between_23 : decode cX8_between 23 = .ok (.iload_n 1, 1) := by decide +kernel
theorem dX8_between_24 : decode cX8_between 24 = .ok (.if_icmp .eq 25, 3) := by decide +kernel
theorem dX8_between_27 : decode cX8_between 27 = .ok (.iload_n 2, 1) := by decide +kernel
theorem dX8_between_28 : decode cX8_between 28 = .ok (.iload 4, 2) := by decide +kernel
theorem dX8_between_30 : decode cX8_between 30 = .ok (.invokestatic 59, 3) := by decide +kernel
theorem dX8_between_33 : decode cX8_between 33 = .ok (.ifCond .eq 8, 3) := by decide +kernel
theorem dX8_between_36 : decode cX8_between 36 = .ok (.iload 4, 2) := by decide +kernel
theorem dX8_between_38 : decode cX8_between 38 = .ok (.goto 4, 3) := by decide +kernel
theorem dX8_between_41 : decode cX8_between 41 = .ok (.iload_n 3, 1) := by decide +kernel
theorem dX8_between_42 : decode cX8_between 42 = .ok (.istore_n 3, 1) := by decide +kernel
theorem dX8_between_43 : decode cX8_between 43 = .ok (.iinc 4 1, 3) := by decide +kernel
theorem dX8_between_46 : decode cX8_between 46 = .ok (.goto (-31), 3) := by decide +kernel
theorem dX8_between_49 : decode cX8_between 49 = .ok (.iload_n 3, 1) := by decide +kernel
theorem dX8_between_50 : decode cX8_between 50 = .ok (.ireturn, 1) := by decide +kernel
set_option maxRecDepth 20000 in
theorem ggX8_joins_X8_between : GoodIn wsX8_joins wsX8_between := goodIn_r _ [5, 6, 7, 4, 8, 9, 10, 11] (by decide +kernel) (by decide +kernel)
set_option maxRecDepth 20000 in
theorem gX8_joins_X8_between : GoodIn wsX8_joins (va_wsS RX8 114 yX8_between wsX8_between) := goodIn_app (goodIn_of _ (by decide +kernel)) ggX8_joins_X8_between
set_option maxRecDepth 20000 in
theorem ggX8_joins_X8_isIn : GoodIn wsX8_joins wsX8_isIn := goodIn_r _ [11] (by decide +kernel) (by decide +kernel)
set_option maxRecDepth 20000 in
theorem gX8_joins_X8_isIn : GoodIn wsX8_joins (va_wsS RX8 59 yX8_isIn wsX8_isIn) := goodIn_app (goodIn_of _ (by decide +kernel)) ggX8_joins_X8_isIn
set_option maxRecDepth 20000 in
theorem ggX8_joins_X8_has : GoodIn wsX8_joins wsX8_has := goodIn_r _ [14, 6, 7, 4, 8, 15, 16, 17] (by decide +kernel) (by decide +kernel)
set_option maxRecDepth 20000 in
theorem gX8_joins_X8_has : GoodIn wsX8_joins (va_wsS RX8 66 yX8_has wsX8_has) := goodIn_app (goodIn_of _ (by decide +kernel)) ggX8_joins_X8_has
theorem dX8_joins_0 : decode cX8_joins 0 = .ok (.iload_n 1, 1) := by decide +kernel
theorem dX8_joins_1 : decode cX8_joins 1 = .ok (.iload_n 2, 1) := by decide +kernel
theorem dX8_joins_2 : decode cX8_joins 2 = .ok (.invokestatic 114, 3) := by decide +kernel
theorem dX8_joins_5 : decode cX8_joins 5 = .ok (.istore_n 3, 1) := by decide +kernel
theorem dX8_joins_6 : decode cX8_joins 6 = .ok (.iload_n 3, 1) := by decide +kernel
theorem dX8_joins_7 : decode cX8_joins 7 = .ok (.ifCond .lt 48, 3) := by decide +kernel
theorem dX8_joins_10 : decode cX8_joins 10 = .ok (.aload_n 0, 1) := by decide +kernel
theorem dX8_joins_11 : decode cX8_joins 11 = .ok (.getfield 7, 3) := by decide +kernel
theorem dX8_joins_14 : decode cX8_joins 14 = .ok (.iconst 0, 1) := by decide +kernel
theorem dX8_joins_15 : decode cX8_joins 15 = .ok (.iaload, 1) := by decide +kernel
theorem dX8_joins_16 : decode cX8_joins 16 = .ok (.iload_n 3, 1) := by decide +kernel
theorem dX8_joins_17 : decode cX8_joins 17 = .ok (.invokestatic 59, 3) := by decide +kernel
theorem dX8_joins_20 : decode cX8_joins 20 = .ok (.ifCond .ne 35, 3) := by decide +kernel
theorem dX8_joins_23 : decode cX8_joins 23 = .ok (.aload_n 0, 1) := by decide +kernel
theorem dX8_joins_24 : decode cX8_joins 24 = .ok (.getfield 7, 3) := by decide +kernel
theorem dX8_joins_27 : decode cX8_joins 27 = .ok (.iconst 0, 1) := by decide +kernel
theorem dX8_joins_28 : decode cX8_joins 28 = .ok (.iaload, 1) := by decide +kernel
theorem dX8_joins_29 : decode cX8_joins 29 = .ok (.iload_n 1, 1) := by decide +kernel
theorem dX8_joins_30 : decode cX8_joins 30 = .ok (.invokestatic 66, 3) := by decide +kernel
theorem dX8_joins_33 : decode cX8_joins 33 = .ok (.iconst 2, 1) := by decide +kernel
theorem dX8_joins_34 : decode cX8_joins 34 = .ok (.if_icmp .ne 21, 3) := by decide +kernel
theorem dX8_joins_37 : decode cX8_joins 37 = .ok (.aload_n 0, 1) := by decide +kernel
theorem dX8_joins_38 : decode cX8_joins 38 = .ok (.getfield 7, 3) := by decide +kernel
theorem dX8_joins_41 : decode cX8_joins 41 = .ok (.iconst 0, 1) := by decide +kernel
theorem dX8_joins_42 : decode cX8_joins 42 = .ok (.iaload, 1) := by decide +kernel
theorem dX8_joins_43 : decode cX8_joins 43 = .ok (.iload_n 2, 1) := by decide +kernel
theorem dX8_joins_44 : decode cX8_joins 44 = .ok (.invokestatic 66, 3) := by decide +kernel
theorem dX8_joins_47 : decode cX8_joins 47 = .ok (.iconst 2, 1) := by decide +kernel
theorem dX8_joins_48 : decode cX8_joins 48 = .ok (.if_icmp .ne 7, 3) := by decide +kernel
theorem dX8_joins_51 : decode cX8_joins 51 = .ok (.iconst 1, 1) := by decide +kernel
theorem dX8_joins_52 : decode cX8_joins 52 = .ok (.goto 4, 3) := by decide +kernel
theorem dX8_joins_55 : decode cX8_joins 55 = .ok (.iconst 0, 1) := by decide +kernel
theorem dX8_joins_56 : decode cX8_joins 56 = .ok (.ireturn, 1) := by decide +kernel
set_option maxRecDepth 20000 in
theorem ggX8_finds_X8_has : GoodIn wsX8_finds wsX8_has := goodIn_r _ [6, 7, 8, 5, 9, 10, 11, 12] (by decide +kernel) (by decide +kernel)
set_option maxRecDepth 20000 in
theorem gX8_finds_X8_has : GoodIn wsX8_finds (va_wsS RX8 66 yX8_has wsX8_has) := goodIn_app (goodIn_of _ (by decide +kernel)) ggX8_finds_X8_has
set_option maxRecDepth 20000 in
theorem ggX8_finds_X8_joins : GoodIn wsX8_finds wsX8_joins := goodIn_r _ [16, 2, 17, 18, 5, 19, 7, 8, 9, 20, 21, 22, 3, 4, 6, 10, 11, 12, 23, 24, 25, 26, 27, 28, 29, 30, 31, 32, 33, 34, 35, 36, 37, 38, 39, 40, 41, 42, 43] (by decide +kernel) (by decide +kernel)
set_option maxRecDepth 20000 in
theorem gX8_finds_X8_joins : GoodIn wsX8_finds (wsV RX8 117 RX8 yX8_joins wsX8_joins) := goodIn_app (goodIn_of _ (by decide +kernel)) ggX8_finds_X8_joins
theorem dX8_finds_0 : decode cX8_finds 0 = .ok (.iconst 0, 1) := by decide +kernel
theorem dX8_finds_1 : decode cX8_finds 1 = .ok (.istore_n 1, 1) := by decide +kernel
theorem dX8_finds_2 : decode cX8_finds 2 = .ok (.iload_n 1, 1) := by decide +kernel
theorem dX8_finds_3 : decode cX8_finds 3 = .ok (.bipush 12, 2) := by decide +kernel
theorem dX8_finds_5 : decode cX8_finds 5 = .ok (.if_icmp .ge 34, 3) := by decide +kernel
theorem dX8_finds_8 : decode cX8_finds 8 = .ok (.aload_n 0, 1) := by decide +kernel
theorem dX8_finds_9 : decode cX8_finds 9 = .ok (.getfield 28, 3) := by decide +kernel
theorem dX8_finds_12 : decode cX8_finds 12 = .ok (.iload_n 1, 1) := by decide +kernel
theorem dX8_finds_13 : decode cX8_finds 13 = .ok (.aload_n 0, 1) := by decide +kernel
theorem dX8_finds_14 : decode cX8_finds 14 = .ok (.getfield 7, 3) := by decide +kernel
theorem dX8_finds_17 : decode cX8_finds 17 = .ok (.iconst 0, 1) := by decide +kernel
theorem dX8_finds_18 : decode cX8_finds 18 = .ok (.iaload, 1) := by decide +kernel
theorem dX8_finds_19 : decode cX8_finds 19 = .ok (.iload_n 1, 1) := by decide +kernel
theorem dX8_finds_20 : decode cX8_finds 20 = .ok (.invokestatic 66, 3) := by decide +kernel
theorem dX8_finds_23 : decode cX8_finds 23 = .ok (.iconst 2, 1) := by decide +kernel
theorem dX8_finds_24 : decode cX8_finds 24 = .ok (.if_icmp .ne 7, 3) := by decide +kernel
theorem dX8_finds_27 : decode cX8_finds 27 = .ok (.iload_n 1, 1) := by decide +kernel
theorem dX8_finds_28 : decode cX8_finds 28 = .ok (.goto 4, 3) := by decide +kernel
theorem dX8_finds_31 : decode cX8_finds 31 = .ok (.iconst (-1), 1) := by decide +kernel
theorem dX8_finds_32 : decode cX8_finds 32 = .ok (.iastore, 1) := by decide +kernel
theorem dX8_finds_33 : decode cX8_finds 33 = .ok (.iinc 1 1, 3) := by decide +kernel
theorem dX8_finds_36 : decode cX8_finds 36 = .ok (.goto (-34), 3) := by decide +kernel
theorem dX8_finds_39 : decode cX8_finds 39 = .ok (.iconst 0, 1) := by decide +kernel
theorem dX8_finds_40 : decode cX8_finds 40 = .ok (.istore_n 1, 1) := by decide +kernel
theorem dX8_finds_41 : decode cX8_finds 41 = .ok (.iload_n 1, 1) := by decide +kernel
theorem dX8_finds_42 : decode cX8_finds 42 = .ok (.bipush 12, 2) := by decide +kernel
theorem dX8_finds_44 : decode cX8_finds 44 = .ok (.if_icmp .ge 74, 3) := by decide +kernel
theorem dX8_finds_47 : decode cX8_finds 47 = .ok (.iconst 0, 1) := by decide +kernel
theorem dX8_finds_48 : decode cX8_finds 48 = .ok (.istore_n 2, 1) := by decide +kernel
theorem dX8_finds_49 : decode cX8_finds 49 = .ok (.iload_n 2, 1) := by decide +kernel
theorem dX8_finds_50 : decode cX8_finds 50 = .ok (.sipush 144, 3) := by decide +kernel
theorem dX8_finds_53 : decode cX8_finds 53 = .ok (.if_icmp .ge 59, 3) := by decide +kernel
theorem dX8_finds_56 : decode cX8_finds 56 = .ok (.iload_n 2, 1) := by decide +kernel
theorem dX8_finds_57 : decode cX8_finds 57 = .ok (.bipush 12, 2) := by decide +kernel
theorem dX8_finds_59 : decode cX8_finds 59 = .ok (.idiv, 1) := by decide +kernel
theorem dX8_finds_60 : decode cX8_finds 60 = .ok (.istore_n 3, 1) := by decide +kernel
theorem dX8_finds_61 : decode cX8_finds 61 = .ok (.iload_n 2, 1) := by decide +kernel
theorem dX8_finds_62 : decode cX8_finds 62 = .ok (.bipush 12, 2) := by decide +kernel
theorem dX8_finds_64 : decode cX8_finds 64 = .ok (.irem, 1) := by decide +kernel
theorem dX8_finds_65 : decode cX8_finds 65 = .ok (.istore 4, 2) := by decide +kernel
theorem dX8_finds_67 : decode cX8_finds 67 = .ok (.aload_n 0, 1) := by decide +kernel
theorem dX8_finds_68 : decode cX8_finds 68 = .ok (.iload_n 3, 1) := by decide +kernel
theorem dX8_finds_69 : decode cX8_finds 69 = .ok (.iload 4, 2) := by decide +kernel
theorem dX8_finds_71 : decode cX8_finds 71 = .ok (.invokevirtual 117, 3) := by decide +kernel
theorem dX8_finds_74 : decode cX8_finds 74 = .ok (.ifCond .eq 32, 3) := by decide +kernel
theorem dX8_finds_77 : decode cX8_finds 77 = .ok (.aload_n 0, 1) := by decide +kernel
theorem dX8_finds_78 : decode cX8_finds 78 = .ok (.getfield 28, 3) := by decide +kernel
theorem dX8_finds_81 : decode cX8_finds 81 = .ok (.iload 4, 2) := by decide +kernel
theorem dX8_finds_83 : decode cX8_finds 83 = .ok (.iaload, 1) := by decide +kernel
theorem dX8_finds_84 : decode cX8_finds 84 = .ok (.aload_n 0, 1) := by decide +kernel
theorem dX8_finds_85 : decode cX8_finds 85 = .ok (.getfield 28, 3) := by decide +kernel
theorem dX8_finds_88 : decode cX8_finds 88 = .ok (.iload_n 3, 1) := by decide +kernel
theorem dX8_finds_89 : decode cX8_finds 89 = .ok (.iaload, 1) := by decide +kernel
theorem dX8_finds_90 : decode cX8_finds 90 = .ok (.if_icmp .ge 16, 3) := by decide +kernel
theorem dX8_finds_93 : decode cX8_finds 93 = .ok (.aload_n 0, 1) := by decide +kernel
theorem dX8_finds_94 : decode cX8_finds 94 = .ok (.getfield 28, 3) := by decide +kernel
theorem dX8_finds_97 : decode cX8_finds 97 = .ok (.iload_n 3, 1) := by decide +kernel
theorem dX8_finds_98 : decode cX8_finds 98 = .ok (.aload_n 0, 1) := by decide +kernel
theorem dX8_finds_99 : decode cX8_finds 99 = .ok (.getfield 28, 3) := by decide +kernel
theorem dX8_finds_102 : decode cX8_finds 102 = .ok (.iload 4, 2) := by decide +kernel
theorem dX8_finds_104 : decode cX8_finds 104 = .ok (.iaload, 1) := by decide +kernel
theorem dX8_finds_105 : decode cX8_finds 105 = .ok (.iastore, 1) := by decide +kernel
theorem dX8_finds_106 : decode cX8_finds 106 = .ok (.iinc 2 1, 3) := by decide +kernel
theorem dX8_finds_109 : decode cX8_finds 109 = .ok (.goto (-60), 3) := by decide +kernel
theorem dX8_finds_112 : decode cX8_finds 112 = .ok (.iinc 1 1, 3) := by decide +kernel
theorem dX8_finds_115 : decode cX8_finds 115 = .ok (.goto (-74), 3) := by decide +kernel
theorem dX8_finds_118 : decode cX8_finds 118 = .ok (.return_, 1) := by decide +kernel
theorem dX8_great_0 : decode cX8_great 0 = .ok (.iconst 0, 1) := by decide +kernel
theorem dX8_great_1 : decode cX8_great 1 = .ok (.istore_n 2, 1) := by decide +kernel
theorem dX8_great_2 : decode cX8_great 2 = .ok (.iconst 0, 1) := by decide +kernel
theorem dX8_great_3 : decode cX8_great 3 = .ok (.istore_n 3, 1) := by decide +kernel
theorem dX8_great_4 : decode cX8_great 4 = .ok (.iload_n 3, 1) := by decide +kernel
theorem dX8_great_5 : decode cX8_great 5 = .ok (.bipush 12, 2) := by decide +kernel
theorem dX8_great_7 : decode cX8_great 7 = .ok (.if_icmp .ge 27, 3) := by decide +kernel
theorem dX8_great_10 : decode cX8_great 10 = .ok (.iload_n 2, 1) := by decide +kernel
theorem dX8_great_11 : decode cX8_great 11 = .ok (.aload_n 0, 1) := by decide +kernel
theorem dX8_great_12 : decode cX8_great 12 = .ok (.getfield 28, 3) := by decide +kernel
theorem dX8_great_15 : decode cX8_great 15 = .ok (.iload_n 3, 1) := by decide +kernel
theorem dX8_great_16 : decode cX8_great 16 = .ok (.iaload, 1) := by decide +kernel
theorem dX8_great_17 : decode cX8_great 17 = .ok (.iload_n 1, 1) := by decide +kernel
theorem dX8_great_18 : decode cX8_great 18 = .ok (.if_icmp .ne 7, 3) := by decide +kernel
theorem dX8_great_21 : decode cX8_great 21 = .ok (.iconst 1, 1) := by decide +kernel
theorem dX8_great_22 : decode cX8_great 22 = .ok (.goto 4, 3) := by decide +kernel
theorem dX8_great_25 : decode cX8_great 25 = .ok (.iconst 0, 1) := by decide +kernel
theorem dX8_great_26 : decode cX8_great 26 = .ok (.iadd, 1) := by decide +kernel
theorem dX8_great_27 : decode cX8_great 27 = .ok (.istore_n 2, 1) := by decide +kernel
theorem dX8_great_28 : decode cX8_great 28 = .ok (.iinc 3 1, 3) := by decide +kernel
theorem dX8_great_31 : decode cX8_great 31 = .ok (.goto (-27), 3) := by decide +kernel
theorem dX8_great_34 : decode cX8_great 34 = .ok (.iload_n 2, 1) := by decide +kernel
theorem dX8_great_35 : decode cX8_great 35 = .ok (.ireturn, 1) := by decide +kernel
set_option maxRecDepth 20000 in
theorem ggX8_isRing_X8_great : GoodIn wsX8_isRing wsX8_great := goodIn_r _ [6, 1, 27, 28, 29, 30, 31, 32, 33, 34, 35, 36, 37, 38, 39, 40, 41, 42, 43, 44, 45, 46, 47] (by decide +kernel) (by decide +kernel)
set_option maxRecDepth 20000 in
theorem gX8_isRing_X8_great : GoodIn wsX8_isRing (wsV RX8 120 RX8 yX8_great wsX8_great) := goodIn_app (goodIn_of _ (by decide +kernel)) ggX8_isRing_X8_great
set_option maxRecDepth 20000 in
theorem ggX8_isRing_X8_joins : GoodIn wsX8_isRing wsX8_joins := goodIn_r _ [10, 11, 12, 13, 5, 14, 15, 16, 17, 18, 19, 20, 21, 22, 23, 24, 25, 26, 27, 28, 29, 30, 31, 32, 33, 34, 35, 36, 37, 38, 39, 40, 41, 42, 43, 44, 45, 46, 47] (by decide +kernel) (by decide +kernel)
set_option maxRecDepth 20000 in
theorem gX8_isRing_X8_joins : GoodIn wsX8_isRing (wsV RX8 117 RX8 yX8_joins wsX8_joins) := goodIn_app (goodIn_of _ (by decide +kernel)) ggX8_isRing_X8_joins
theorem dX8_isRing_0 : decode cX8_isRing 0 = .ok (.aload_n 0, 1) := by decide +kernel
theorem dX8_isRing_1 : decode cX8_isRing 1 = .ok (.iload_n 1, 1) := by decide +kernel
theorem dX8_isRing_2 : decode cX8_isRing 2 = .ok (.invokevirtual 120, 3) := by decide +kernel
theorem dX8_isRing_5 : decode cX8_isRing 5 = .ok (.iconst 4, 1) := by decide +kernel
theorem dX8_isRing_6 : decode cX8_isRing 6 = .ok (.if_icmp .lt 7, 3) := by decide +kernel
theorem dX8_isRing_9 : decode cX8_isRing 9 = .ok (.iconst 1, 1) := by decide +kernel
theorem dX8_isRing_10 : decode cX8_isRing 10 = .ok (.goto 4, 3) := by decide +kernel
theorem dX8_isRing_13 : decode cX8_isRing 13 = .ok (.iconst 0, 1) := by decide +kernel
theorem dX8_isRing_14 : decode cX8_isRing 14 = .ok (.istore_n 2, 1) := by decide +kernel
theorem dX8_isRing_15 : decode cX8_isRing 15 = .ok (.iconst 0, 1) := by decide +kernel
theorem dX8_isRing_16 : decode cX8_isRing 16 = .ok (.istore_n 3, 1) := by decide +kernel
theorem dX8_isRing_17 : decode cX8_isRing 17 = .ok (.iload_n 3, 1) := by decide +kernel
theorem dX8_isRing_18 : decode cX8_isRing 18 = .ok (.bipush 12, 2) := by decide +kernel
theorem dX8_isRing_20 : decode cX8_isRing 20 = .ok (.if_icmp .ge 74, 3) := by decide +kernel
theorem dX8_isRing_23 : decode cX8_isRing 23 = .ok (.iconst 0, 1) := by decide +kernel
theorem dX8_isRing_24 : decode cX8_isRing 24 = .ok (.istore 4, 2) := by decide +kernel
theorem dX8_isRing_26 : decode cX8_isRing 26 = .ok (.iconst 0, 1) := by decide +kernel
theorem dX8_isRing_27 : decode cX8_isRing 27 = .ok (.istore 5, 2) := by decide +kernel
theorem dX8_isRing_29 : decode cX8_isRing 29 = .ok (.iload 5, 2) := by decide +kernel
theorem dX8_isRing_31 : decode cX8_isRing 31 = .ok (.bipush 12, 2) := by decide +kernel
theorem dX8_isRing_33 : decode cX8_isRing 33 = .ok (.if_icmp .ge 29, 3) := by decide +kernel
theorem dX8_isRing_36 : decode cX8_isRing 36 = .ok (.iload 4, 2) := by decide +kernel
theorem dX8_isRing_38 : decode cX8_isRing 38 = .ok (.aload_n 0, 1) := by decide +kernel
theorem dX8_isRing_39 : decode cX8_isRing 39 = .ok (.iload_n 3, 1) := by decide +kernel
theorem dX8_isRing_40 : decode cX8_isRing 40 = .ok (.iload 5, 2) := by decide +kernel
theorem dX8_isRing_42 : decode cX8_isRing 42 = .ok (.invokevirtual 117, 3) := by decide +kernel
theorem dX8_isRing_45 : decode cX8_isRing 45 = .ok (.ifCond .eq 7, 3) := by decide +kernel
theorem dX8_isRing_48 : decode cX8_isRing 48 = .ok (.iconst 1, 1) := by decide +kernel
theorem dX8_isRing_49 : decode cX8_isRing 49 = .ok (.goto 4, 3) := by decide +kernel
theorem dX8_isRing_52 : decode cX8_isRing 52 = .ok (.iconst 0, 1) := by decide +kernel
theorem dX8_isRing_53 : decode cX8_isRing 53 = .ok (.iadd, 1) := by decide +kernel
theorem dX8_isRing_54 : decode cX8_isRing 54 = .ok (.istore 4, 2) := by decide +kernel
theorem dX8_isRing_56 : decode cX8_isRing 56 = .ok (.iinc 5 1, 3) := by decide +kernel
theorem dX8_isRing_59 : decode cX8_isRing 59 = .ok (.goto (-30), 3) := by decide +kernel
theorem dX8_isRing_62 : decode cX8_isRing 62 = .ok (.iload_n 2, 1) := by decide +kernel
theorem dX8_isRing_63 : decode cX8_isRing 63 = .ok (.ifCond .eq 23, 3) := by decide +kernel
theorem dX8_isRing_66 : decode cX8_isRing 66 = .ok (.aload_n 0, 1) := by decide +kernel
theorem dX8_isRing_67 : decode cX8_isRing 67 = .ok (.getfield 28, 3) := by decide +kernel
theorem dX8_isRing_70 : decode cX8_isRing 70 = .ok (.iload_n 3, 1) := by decide +kernel
theorem dX8_isRing_71 : decode cX8_isRing 71 = .ok (.iaload, 1) := by decide +kernel
theorem dX8_isRing_72 : decode cX8_isRing 72 = .ok (.iload_n 1, 1) := by decide +kernel
theorem dX8_isRing_73 : decode cX8_isRing 73 = .ok (.if_icmp .ne 9, 3) := by decide +kernel
theorem dX8_isRing_76 : decode cX8_isRing 76 = .ok (.iload 4, 2) := by decide +kernel
theorem dX8_isRing_78 : decode cX8_isRing 78 = .ok (.iconst 2, 1) := by decide +kernel
theorem dX8_isRing_79 : decode cX8_isRing 79 = .ok (.if_icmp .ne 7, 3) := by decide +kernel
theorem dX8_isRing_82 : decode cX8_isRing 82 = .ok (.iconst 1, 1) := by decide +kernel
theorem dX8_isRing_83 : decode cX8_isRing 83 = .ok (.goto 4, 3) := by decide +kernel
theorem dX8_isRing_86 : decode cX8_isRing 86 = .ok (.iconst 0, 1) := by decide +kernel
theorem dX8_isRing_87 : decode cX8_isRing 87 = .ok (.istore_n 2, 1) := by decide +kernel
theorem dX8_isRing_88 : decode cX8_isRing 88 = .ok (.iinc 3 1, 3) := by decide +kernel
theorem dX8_isRing_91 : decode cX8_isRing 91 = .ok (.goto (-74), 3) := by decide +kernel
theorem dX8_isRing_94 : decode cX8_isRing 94 = .ok (.iload_n 2, 1) := by decide +kernel
theorem dX8_isRing_95 : decode cX8_isRing 95 = .ok (.ireturn, 1) := by decide +kernel
set_option maxRecDepth 20000 in
theorem ggX8_chainsOf_X8_finds : GoodIn wsX8_chainsOf wsX8_finds := goodIn_r _ [7, 2, 8, 9, 10, 6, 11, 12, 13, 14, 15, 16, 17, 18, 19, 20, 21, 22, 23, 24, 25, 26, 27, 36, 37, 38, 39, 40, 41, 42, 43, 44, 45, 46, 47, 48, 49, 50, 51, 52, 53, 54, 55, 56] (by decide +kernel) (by decide +kernel)
set_option maxRecDepth 20000 in
theorem gX8_chainsOf_X8_finds : GoodIn wsX8_chainsOf (wsV RX8 123 RX8 yX8_finds wsX8_finds) := goodIn_app (goodIn_of _ (by decide +kernel)) ggX8_chainsOf_X8_finds
set_option maxRecDepth 20000 in
theorem ggX8_chainsOf_X8_isRing : GoodIn wsX8_chainsOf wsX8_isRing := goodIn_r _ [31, 2, 32, 33, 34, 6, 35, 18, 19, 20, 21, 8, 22, 23, 24, 12, 13, 14, 25, 26, 27, 9, 10, 11, 15, 16, 17, 36, 37, 38, 39, 40, 41, 42, 43, 44, 45, 46, 47, 48, 49, 50, 51, 52, 53, 54, 55, 56] (by decide +kernel) (by decide +kernel)
set_option maxRecDepth 20000 in
theorem gX8_chainsOf_X8_isRing : GoodIn wsX8_chainsOf (wsV RX8 126 RX8 yX8_isRing wsX8_isRing) := goodIn_app (goodIn_of _ (by decide +kernel)) ggX8_chainsOf_X8_isRing
set_option maxRecDepth 20000 in
theorem ggX8_chainsOf_X8_great : GoodIn wsX8_chainsOf wsX8_great := goodIn_r _ [35, 2, 36, 37, 38, 39, 40, 41, 42, 43, 44, 45, 46, 47, 48, 49, 50, 51, 52, 53, 54, 55, 56] (by decide +kernel) (by decide +kernel)
set_option maxRecDepth 20000 in
theorem gX8_chainsOf_X8_great : GoodIn wsX8_chainsOf (wsV RX8 120 RX8 yX8_great wsX8_great) := goodIn_app (goodIn_of _ (by decide +kernel)) ggX8_chainsOf_X8_great
theorem dX8_chainsOf_0 : decode cX8_chainsOf 0 = .ok (.aload_n 0, 1) := by decide +kernel
theorem dX8_chainsOf_1 : decode cX8_chainsOf 1 = .ok (.iconst 0, 1) := by decide +kernel
theorem dX8_chainsOf_2 : decode cX8_chainsOf 2 = .ok (.putfield 37, 3) := by decide +kernel
theorem dX8_chainsOf_5 : decode cX8_chainsOf 5 = .ok (.aload_n 0, 1) := by decide +kernel
theorem dX8_chainsOf_6 : decode cX8_chainsOf 6 = .ok (.invokevirtual 123, 3) := by decide +kernel
theorem dX8_chainsOf_9 : decode cX8_chainsOf 9 = .ok (.iconst 0, 1) := by decide +kernel
theorem dX8_chainsOf_10 : decode cX8_chainsOf 10 = .ok (.istore_n 2, 1) := by decide +kernel
theorem dX8_chainsOf_11 : decode cX8_chainsOf 11 = .ok (.iconst 0, 1) := by decide +kernel
theorem dX8_chainsOf_12 : decode cX8_chainsOf 12 = .ok (.istore_n 3, 1) := by decide +kernel
theorem dX8_chainsOf_13 : decode cX8_chainsOf 13 = .ok (.iload_n 3, 1) := by decide +kernel
theorem dX8_chainsOf_14 : decode cX8_chainsOf 14 = .ok (.bipush 12, 2) := by decide +kernel
theorem dX8_chainsOf_16 : decode cX8_chainsOf 16 = .ok (.if_icmp .ge 67, 3) := by decide +kernel
theorem dX8_chainsOf_19 : decode cX8_chainsOf 19 = .ok (.aload_n 0, 1) := by decide +kernel
theorem dX8_chainsOf_20 : decode cX8_chainsOf 20 = .ok (.getfield 28, 3) := by decide +kernel
theorem dX8_chainsOf_23 : decode cX8_chainsOf 23 = .ok (.iload_n 3, 1) := by decide +kernel
theorem dX8_chainsOf_24 : decode cX8_chainsOf 24 = .ok (.iaload, 1) := by decide +kernel
theorem dX8_chainsOf_25 : decode cX8_chainsOf 25 = .ok (.iload_n 3, 1) := by decide +kernel
theorem dX8_chainsOf_26 : decode cX8_chainsOf 26 = .ok (.if_icmp .ne 51, 3) := by decide +kernel
theorem dX8_chainsOf_29 : decode cX8_chainsOf 29 = .ok (.aload_n 0, 1) := by decide +kernel
theorem dX8_chainsOf_30 : decode cX8_chainsOf 30 = .ok (.iload_n 3, 1) := by decide +kernel
theorem dX8_chainsOf_31 : decode cX8_chainsOf 31 = .ok (.invokevirtual 126, 3) := by decide +kernel
theorem dX8_chainsOf_34 : decode cX8_chainsOf 34 = .ok (.istore 4, 2) := by decide +kernel
theorem dX8_chainsOf_36 : decode cX8_chainsOf 36 = .ok (.iload_n 2, 1) := by decide +kernel
theorem dX8_chainsOf_37 : decode cX8_chainsOf 37 = .ok (.iload_n 1, 1) := by decide +kernel
theorem dX8_chainsOf_38 : decode cX8_chainsOf 38 = .ok (.ifCond .eq 32, 3) := by decide +kernel
theorem dX8_chainsOf_41 : decode cX8_chainsOf 41 = .ok (.iload_n 1, 1) := by decide +kernel
theorem dX8_chainsOf_42 : decode cX8_chainsOf 42 = .ok (.iconst 1, 1) := by decide +kernel
theorem dX8_chainsOf_43 : decode cX8_chainsOf 43 = .ok (.if_icmp .ne 8, 3) := by decide +kernel
theorem dX8_chainsOf_46 : decode cX8_chainsOf 46 = .ok (.iload 4, 2) := by decide +kernel
theorem dX8_chainsOf_48 : decode cX8_chainsOf 48 = .ok (.ifCond .ne 22, 3) := by decide +kernel
theorem dX8_chainsOf_51 : decode cX8_chainsOf 51 = .ok (.iload_n 1, 1) := by decide +kernel
theorem dX8_chainsOf_52 : decode cX8_chainsOf 52 = .ok (.iconst 2, 1) := by decide +kernel
theorem dX8_chainsOf_53 : decode cX8_chainsOf 53 = .ok (.if_icmp .ne 21, 3) := by decide +kernel
theorem dX8_chainsOf_56 : decode cX8_chainsOf 56 = .ok (.iload 4, 2) := by decide +kernel
theorem dX8_chainsOf_58 : decode cX8_chainsOf 58 = .ok (.ifCond .ne 16, 3) := by decide +kernel
theorem dX8_chainsOf_61 : decode cX8_chainsOf 61 = .ok (.aload_n 0, 1) := by decide +kernel
theorem dX8_chainsOf_62 : decode cX8_chainsOf 62 = .ok (.iload_n 3, 1) := by decide +kernel
theorem dX8_chainsOf_63 : decode cX8_chainsOf 63 = .ok (.invokevirtual 120, 3) := by decide +kernel
theorem dX8_chainsOf_66 : decode cX8_chainsOf 66 = .ok (.iconst 3, 1) := by decide +kernel
theorem dX8_chainsOf_67 : decode cX8_chainsOf 67 = .ok (.if_icmp .lt 7, 3) := by decide +kernel
theorem dX8_chainsOf_70 : decode cX8_chainsOf 70 = .ok (.iconst 1, 1) := by decide +kernel
theorem dX8_chainsOf_71 : decode cX8_chainsOf 71 = .ok (.goto 4, 3) := by decide +kernel
theorem dX8_chainsOf_74 : decode cX8_chainsOf 74 = .ok (.iconst 0, 1) := by decide +kernel
theorem dX8_chainsOf_75 : decode cX8_chainsOf 75 = .ok (.iadd, 1) := by decide +kernel
theorem dX8_chainsOf_76 : decode cX8_chainsOf 76 = .ok (.istore_n 2, 1) := by decide +kernel
theorem dX8_chainsOf_77 : decode cX8_chainsOf 77 = .ok (.iinc 3 1, 3) := by decide +kernel
theorem dX8_chainsOf_80 : decode cX8_chainsOf 80 = .ok (.goto (-67), 3) := by decide +kernel
theorem dX8_chainsOf_83 : decode cX8_chainsOf 83 = .ok (.iload_n 2, 1) := by decide +kernel
theorem dX8_chainsOf_84 : decode cX8_chainsOf 84 = .ok (.ireturn, 1) := by decide +kernel
set_option maxRecDepth 20000 in
theorem ggX8_chains_X8_chainsOf : GoodIn wsX8_chains wsX8_chainsOf := goodIn_r _ [5, 6, 7, 8, 9, 10, 4, 11, 12, 13, 14, 15, 16, 17, 18, 19, 20, 21, 22, 23, 24, 25, 26, 27, 28, 29, 30, 31, 32, 33, 34, 35, 36, 37, 38, 39, 40, 41, 42, 43, 44, 45, 46, 47, 48, 49, 50, 51, 52, 53, 54, 55, 56, 57, 58, 59, 60] (by decide +kernel) (by decide +kernel)
set_option maxRecDepth 20000 in
theorem gX8_chains_X8_chainsOf : GoodIn wsX8_chains (wsV RX8 129 RX8 yX8_chainsOf wsX8_chainsOf) := goodIn_app (goodIn_of _ (by decide +kernel)) ggX8_chains_X8_chainsOf
theorem dX8_chains_0 : decode cX8_chains 0 = .ok (.aload_n 0, 1) := by decide +kernel
theorem dX8_chains_1 : decode cX8_chains 1 = .ok (.iconst 0, 1) := by decide +kernel
theorem dX8_chains_2 : decode cX8_chains 2 = .ok (.invokevirtual 129, 3) := by decide +kernel
theorem dX8_chains_5 : decode cX8_chains 5 = .ok (.ireturn, 1) := by decide +kernel
set_option maxRecDepth 20000 in
theorem ggX8_chainOf_X8_isBox : GoodIn wsX8_chainOf wsX8_isBox := goodIn_r _ [7, 8, 9, 6, 10] (by decide +kernel) (by decide +kernel)
set_option maxRecDepth 20000 in
theorem gX8_chainOf_X8_isBox : GoodIn wsX8_chainOf (va_wsS RX8 101 yX8_isBox wsX8_isBox) := goodIn_app (goodIn_of _ (by decide +kernel)) ggX8_chainOf_X8_isBox
set_option maxRecDepth 20000 in
theorem ggX8_chainOf_X8_has : GoodIn wsX8_chainOf wsX8_has := goodIn_r _ [13, 14, 15, 6, 16, 17, 18, 19] (by decide +kernel) (by decide +kernel)
set_option maxRecDepth 20000 in
theorem gX8_chainOf_X8_has : GoodIn wsX8_chainOf (va_wsS RX8 66 yX8_has wsX8_has) := goodIn_app (goodIn_of _ (by decide +kernel)) ggX8_chainOf_X8_has
set_option maxRecDepth 20000 in
theorem ggX8_chainOf_X8_finds : GoodIn wsX8_chainOf wsX8_finds := goodIn_r _ [23, 3, 1, 11, 12, 6, 13, 14, 15, 16, 17, 18, 19, 24, 25, 26, 27, 28, 29, 30, 31, 32, 33, 38, 39, 40, 41, 42, 43, 44, 45, 46, 47, 48, 49, 50, 51, 52, 53, 54, 55, 56, 57, 58] (by decide +kernel) (by decide +kernel)
set_option maxRecDepth 20000 in
theorem gX8_chainOf_X8_finds : GoodIn wsX8_chainOf (wsV RX8 123 RX8 yX8_finds wsX8_finds) := goodIn_app (goodIn_of _ (by decide +kernel)) ggX8_chainOf_X8_finds
set_option maxRecDepth 20000 in
theorem ggX8_chainOf_X8_great : GoodIn wsX8_chainOf wsX8_great := goodIn_r _ [37, 3, 38, 39, 40, 41, 42, 43, 44, 45, 46, 47, 48, 49, 50, 51, 52, 53, 54, 55, 56, 57, 58] (by decide +kernel) (by decide +kernel)
set_option maxRecDepth 20000 in
theorem gX8_chainOf_X8_great : GoodIn wsX8_chainOf (wsV RX8 120 RX8 yX8_great wsX8_great) := goodIn_app (goodIn_of _ (by decide +kernel)) ggX8_chainOf_X8_great
theorem dX8_chainOf_0 : decode cX8_chainOf 0 = .ok (.aload_n 0, 1) := by decide +kernel
theorem dX8_chainOf_1 : decode cX8_chainOf 1 = .ok (.iload_n 1, 1) := by decide +kernel
theorem dX8_chainOf_2 : decode cX8_chainOf 2 = .ok (.invokestatic 101, 3) := by decide +kernel
theorem dX8_chainOf_5 : decode cX8_chainOf 5 = .ok (.ifCond .ne 7, 3) := by decide +kernel
theorem dX8_chainOf_8 : decode cX8_chainOf 8 = .ok (.iconst 1, 1) := by decide +kernel
theorem dX8_chainOf_9 : decode cX8_chainOf 9 = .ok (.goto 22, 3) := by decide +kernel
theorem dX8_chainOf_12 : decode cX8_chainOf 12 = .ok (.aload_n 0, 1) := by decide +kernel
theorem dX8_chainOf_13 : decode cX8_chainOf 13 = .ok (.getfield 7, 3) := by decide +kernel
theorem dX8_chainOf_16 : decode cX8_chainOf 16 = .ok (.iconst 0, 1) := by decide +kernel
theorem dX8_chainOf_17 : decode cX8_chainOf 17 = .ok (.iaload, 1) := by decide +kernel
theorem dX8_chainOf_18 : decode cX8_chainOf 18 = .ok (.iload_n 1, 1) := by decide +kernel
theorem dX8_chainOf_19 : decode cX8_chainOf 19 = .ok (.invokestatic 66, 3) := by decide +kernel
theorem dX8_chainOf_22 : decode cX8_chainOf 22 = .ok (.iconst 2, 1) := by decide +kernel
theorem dX8_chainOf_23 : decode cX8_chainOf 23 = .ok (.if_icmp .ne 7, 3) := by decide +kernel
theorem dX8_chainOf_26 : decode cX8_chainOf 26 = .ok (.iconst 0, 1) := by decide +kernel
theorem dX8_chainOf_27 : decode cX8_chainOf 27 = .ok (.goto 4, 3) := by decide +kernel
theorem dX8_chainOf_30 : decode cX8_chainOf 30 = .ok (.iconst 2, 1) := by decide +kernel
theorem dX8_chainOf_31 : decode cX8_chainOf 31 = .ok (.putfield 37, 3) := by decide +kernel
theorem dX8_chainOf_34 : decode cX8_chainOf 34 = .ok (.aload_n 0, 1) := by decide +kernel
theorem dX8_chainOf_35 : decode cX8_chainOf 35 = .ok (.getfield 37, 3) := by decide +kernel
theorem dX8_chainOf_38 : decode cX8_chainOf 38 = .ok (.ifCond .le 5, 3) := by decide +kernel
theorem dX8_chainOf_41 : decode cX8_chainOf 41 = .ok (.iconst 0, 1) := by decide +kernel
theorem dX8_chainOf_42 : decode cX8_chainOf 42 = .ok (.ireturn, 1) := by decide +kernel
theorem dX8_chainOf_43 : decode cX8_chainOf 43 = .ok (.aload_n 0, 1) := by decide +kernel
theorem dX8_chainOf_44 : decode cX8_chainOf 44 = .ok (.invokevirtual 123, 3) := by decide +kernel
theorem dX8_chainOf_47 : decode cX8_chainOf 47 = .ok (.aload_n 0, 1) := by decide +kernel
theorem dX8_chainOf_48 : decode cX8_chainOf 48 = .ok (.aload_n 0, 1) := by decide +kernel
theorem dX8_chainOf_49 : decode cX8_chainOf 49 = .ok (.getfield 28, 3) := by decide +kernel
theorem dX8_chainOf_52 : decode cX8_chainOf 52 = .ok (.iload_n 1, 1) := by decide +kernel
theorem dX8_chainOf_53 : decode cX8_chainOf 53 = .ok (.iaload, 1) := by decide +kernel
theorem dX8_chainOf_54 : decode cX8_chainOf 54 = .ok (.invokevirtual 120, 3) := by decide +kernel
theorem dX8_chainOf_57 : decode cX8_chainOf 57 = .ok (.ireturn, 1) := by decide +kernel
set_option maxRecDepth 20000 in
theorem ggX8_rings_X8_chainsOf : GoodIn wsX8_rings wsX8_chainsOf := goodIn_r _ [5, 6, 7, 8, 9, 10, 4, 11, 12, 13, 14, 15, 16, 17, 18, 19, 20, 21, 22, 23, 24, 25, 26, 27, 28, 29, 30, 31, 32, 33, 34, 35, 36, 37, 38, 39, 40, 41, 42, 43, 44, 45, 46, 47, 48, 49, 50, 51, 52, 53, 54, 55, 56, 57, 58, 59, 60] (by decide +kernel) (by decide +kernel)
set_option maxRecDepth 20000 in
theorem gX8_rings_X8_chainsOf : GoodIn wsX8_rings (wsV RX8 129 RX8 yX8_chainsOf wsX8_chainsOf) := goodIn_app (goodIn_of _ (by decide +kernel)) ggX8_rings_X8_chainsOf
theorem dX8_rings_0 : decode cX8_rings 0 = .ok (.aload_n 0, 1) := by decide +kernel
theorem dX8_rings_1 : decode cX8_rings 1 = .ok (.iconst 1, 1) := by decide +kernel
theorem dX8_rings_2 : decode cX8_rings 2 = .ok (.invokevirtual 129, 3) := by decide +kernel
theorem dX8_rings_5 : decode cX8_rings 5 = .ok (.ireturn, 1) := by decide +kernel
set_option maxRecDepth 20000 in
theorem ggX8_longChains_X8_chainsOf : GoodIn wsX8_longChains wsX8_chainsOf := goodIn_r _ [5, 6, 7, 8, 9, 10, 4, 11, 12, 13, 14, 15, 16, 17, 18, 19, 20, 21, 22, 23, 24, 25, 26, 27, 28, 29, 30, 31, 32, 33, 34, 35, 36, 37, 38, 39, 40, 41, 42, 43, 44, 45, 46, 47, 48, 49, 50, 51, 52, 53, 54, 55, 56, 57, 58, 59, 60] (by decide +kernel) (by decide +kernel)
set_option maxRecDepth 20000 in
theorem gX8_longChains_X8_chainsOf : GoodIn wsX8_longChains (wsV RX8 129 RX8 yX8_chainsOf wsX8_chainsOf) := goodIn_app (goodIn_of _ (by decide +kernel)) ggX8_longChains_X8_chainsOf
theorem dX8_longChains_0 : decode cX8_longChains 0 = .ok (.aload_n 0, 1) := by decide +kernel
theorem dX8_longChains_1 : decode cX8_longChains 1 = .ok (.iconst 2, 1) := by decide +kernel
theorem dX8_longChains_2 : decode cX8_longChains 2 = .ok (.invokevirtual 129, 3) := by decide +kernel
theorem dX8_longChains_5 : decode cX8_longChains 5 = .ok (.ireturn, 1) := by decide +kernel
set_option maxRecDepth 20000 in
theorem ggX8_ruleHoldsFor_X8_chainsOf : GoodIn wsX8_ruleHoldsFor wsX8_chainsOf := goodIn_r _ [5, 6, 7, 8, 9, 10, 4, 11, 12, 13, 14, 15, 16, 17, 18, 19, 20, 21, 22, 23, 24, 25, 26, 27, 28, 29, 30, 31, 32, 33, 34, 35, 36, 37, 38, 39, 40, 41, 42, 43, 44, 45, 46, 47, 48, 49, 50, 51, 52, 53, 54, 55, 56, 57, 58, 59, 60] (by decide +kernel) (by decide +kernel)
set_option maxRecDepth 20000 in
theorem gX8_ruleHoldsFor_X8_chainsOf : GoodIn wsX8_ruleHoldsFor (wsV RX8 129 RX8 yX8_chainsOf wsX8_chainsOf) := goodIn_app (goodIn_of _ (by decide +kernel)) ggX8_ruleHoldsFor_X8_chainsOf
theorem dX8_ruleHoldsFor_0 : decode cX8_ruleHoldsFor 0 = .ok (.aload_n 0, 1) := by decide +kernel
theorem dX8_ruleHoldsFor_1 : decode cX8_ruleHoldsFor 1 = .ok (.iconst 2, 1) := by decide +kernel
theorem dX8_ruleHoldsFor_2 : decode cX8_ruleHoldsFor 2 = .ok (.invokevirtual 129, 3) := by decide +kernel
theorem dX8_ruleHoldsFor_5 : decode cX8_ruleHoldsFor 5 = .ok (.iconst 2, 1) := by decide +kernel
theorem dX8_ruleHoldsFor_6 : decode cX8_ruleHoldsFor 6 = .ok (.irem, 1) := by decide +kernel
theorem dX8_ruleHoldsFor_7 : decode cX8_ruleHoldsFor 7 = .ok (.ireturn, 1) := by decide +kernel
set_option maxRecDepth 20000 in
theorem ggX8_with_X8_isIn : GoodIn wsX8_with wsX8_isIn := goodIn_r _ [7] (by decide +kernel) (by decide +kernel)
set_option maxRecDepth 20000 in
theorem gX8_with_X8_isIn : GoodIn wsX8_with (va_wsS RX8 59 yX8_isIn wsX8_isIn) := goodIn_app (goodIn_of _ (by decide +kernel)) ggX8_with_X8_isIn
theorem dX8_with_0 : decode cX8_with 0 = .ok (.aload_n 0, 1) := by decide +kernel
theorem dX8_with_1 : decode cX8_with 1 = .ok (.getfield 7, 3) := by decide +kernel
theorem dX8_with_4 : decode cX8_with 4 = .ok (.iconst 0, 1) := by decide +kernel
theorem dX8_with_5 : decode cX8_with 5 = .ok (.iaload, 1) := by decide +kernel
theorem dX8_with_6 : decode cX8_with 6 = .ok (.istore_n 2, 1) := by decide +kernel
theorem dX8_with_7 : decode cX8_with 7 = .ok (.iconst 0, 1) := by decide +kernel
theorem dX8_with_8 : decode cX8_with 8 = .ok (.istore_n 3, 1) := by decide +kernel
theorem dX8_with_9 : decode cX8_with 9 = .ok (.iload_n 3, 1) := by decide +kernel
theorem dX8_with_10 : decode cX8_with 10 = .ok (.aload_n 0, 1) := by decide +kernel
theorem dX8_with_11 : decode cX8_with 11 = .ok (.getfield 132, 3) := by decide +kernel
theorem dX8_with_14 : decode cX8_with 14 = .ok (.if_icmp .ge 32, 3) := by decide +kernel
theorem dX8_with_17 : decode cX8_with 17 = .ok (.iload_n 2, 1) := by decide +kernel
theorem dX8_with_18 : decode cX8_with 18 = .ok (.iload_n 1, 1) := by decide +kernel
theorem dX8_with_19 : decode cX8_with 19 = .ok (.iload_n 3, 1) := by decide +kernel
theorem dX8_with_20 : decode cX8_with 20 = .ok (.invokestatic 59, 3) := by decide +kernel
theorem dX8_with_23 : decode cX8_with 23 = .ok (.ifCond .eq 14, 3) := by decide +kernel
theorem dX8_with_26 : decode cX8_with 26 = .ok (.iconst 1, 1) := by decide +kernel
theorem dX8_with_27 : decode cX8_with 27 = .ok (.aload_n 0, 1) := by decide +kernel
theorem dX8_with_28 : decode cX8_with 28 = .ok (.getfield 22, 3) := by decide +kernel
theorem dX8_with_31 : decode cX8_with 31 = .ok (.iload_n 3, 1) := by decide +kernel
theorem dX8_with_32 : decode cX8_with 32 = .ok (.iaload, 1) := by decide +kernel
theorem dX8_with_33 : decode cX8_with 33 = .ok (.ishl, 1) := by decide +kernel
theorem dX8_with_34 : decode cX8_with 34 = .ok (.goto 4, 3) := by decide +kernel
theorem dX8_with_37 : decode cX8_with 37 = .ok (.iconst 0, 1) := by decide +kernel
theorem dX8_with_38 : decode cX8_with 38 = .ok (.ior, 1) := by decide +kernel
theorem dX8_with_39 : decode cX8_with 39 = .ok (.istore_n 2, 1) := by decide +kernel
theorem dX8_with_40 : decode cX8_with 40 = .ok (.iinc 3 1, 3) := by decide +kernel
theorem dX8_with_43 : decode cX8_with 43 = .ok (.goto (-34), 3) := by decide +kernel
theorem dX8_with_46 : decode cX8_with 46 = .ok (.iload_n 2, 1) := by decide +kernel
theorem dX8_with_47 : decode cX8_with 47 = .ok (.ireturn, 1) := by decide +kernel
set_option maxRecDepth 20000 in
theorem ggX8_by_X8_with : GoodIn wsX8_by wsX8_with := goodIn_r _ [7, 8, 9, 1, 10, 11, 6, 12, 28, 29, 30, 31, 32, 33, 34, 35, 36, 37, 38, 39, 40, 41, 42, 43, 44, 45, 46, 47, 48] (by decide +kernel) (by decide +kernel)
set_option maxRecDepth 20000 in
theorem gX8_by_X8_with : GoodIn wsX8_by (wsV RX8 135 RX8 yX8_with wsX8_with) := goodIn_app (goodIn_of _ (by decide +kernel)) ggX8_by_X8_with
set_option maxRecDepth 20000 in
theorem ggX8_by_X8_closes : GoodIn wsX8_by wsX8_closes := goodIn_r _ [15, 16, 17, 6, 18, 19, 20, 21, 10, 11, 12, 22, 23, 24, 25, 26, 27] (by decide +kernel) (by decide +kernel)
set_option maxRecDepth 20000 in
theorem gX8_by_X8_closes : GoodIn wsX8_by (va_wsS RX8 70 yX8_closes wsX8_closes) := goodIn_app (goodIn_of _ (by decide +kernel)) ggX8_by_X8_closes
theorem dX8_by_0 : decode cX8_by 0 = .ok (.aload_n 0, 1) := by decide +kernel
theorem dX8_by_1 : decode cX8_by 1 = .ok (.iload_n 1, 1) := by decide +kernel
theorem dX8_by_2 : decode cX8_by 2 = .ok (.invokevirtual 135, 3) := by decide +kernel
theorem dX8_by_5 : decode cX8_by 5 = .ok (.aload_n 0, 1) := by decide +kernel
theorem dX8_by_6 : decode cX8_by 6 = .ok (.getfield 22, 3) := by decide +kernel
theorem dX8_by_9 : decode cX8_by 9 = .ok (.iload_n 2, 1) := by decide +kernel
theorem dX8_by_10 : decode cX8_by 10 = .ok (.iaload, 1) := by decide +kernel
theorem dX8_by_11 : decode cX8_by 11 = .ok (.invokestatic 70, 3) := by decide +kernel
theorem dX8_by_14 : decode cX8_by 14 = .ok (.istore_n 3, 1) := by decide +kernel
theorem dX8_by_15 : decode cX8_by 15 = .ok (.aload_n 0, 1) := by decide +kernel
theorem dX8_by_16 : decode cX8_by 16 = .ok (.getfield 25, 3) := by decide +kernel
theorem dX8_by_19 : decode cX8_by 19 = .ok (.iload_n 1, 1) := by decide +kernel
theorem dX8_by_20 : decode cX8_by 20 = .ok (.iconst 1, 1) := by decide +kernel
theorem dX8_by_21 : decode cX8_by 21 = .ok (.iload_n 2, 1) := by decide +kernel
theorem dX8_by_22 : decode cX8_by 22 = .ok (.ishl, 1) := by decide +kernel
theorem dX8_by_23 : decode cX8_by 23 = .ok (.ior, 1) := by decide +kernel
theorem dX8_by_24 : decode cX8_by 24 = .ok (.iaload, 1) := by decide +kernel
theorem dX8_by_25 : decode cX8_by 25 = .ok (.istore 4, 2) := by decide +kernel
theorem dX8_by_27 : decode cX8_by 27 = .ok (.iload_n 3, 1) := by decide +kernel
theorem dX8_by_28 : decode cX8_by 28 = .ok (.ifCond .le 10, 3) := by decide +kernel
theorem dX8_by_31 : decode cX8_by 31 = .ok (.iload_n 3, 1) := by decide +kernel
theorem dX8_by_32 : decode cX8_by 32 = .ok (.iload 4, 2) := by decide +kernel
theorem dX8_by_34 : decode cX8_by 34 = .ok (.iadd, 1) := by decide +kernel
theorem dX8_by_35 : decode cX8_by 35 = .ok (.goto 6, 3) := by decide +kernel
theorem dX8_by_38 : decode cX8_by 38 = .ok (.iload 4, 2) := by decide +kernel
theorem dX8_by_40 : decode cX8_by 40 = .ok (.ineg, 1) := by decide +kernel
theorem dX8_by_41 : decode cX8_by 41 = .ok (.ireturn, 1) := by decide +kernel
set_option maxRecDepth 20000 in
theorem ggX8_works_X8_isIn : GoodIn wsX8_works wsX8_isIn := goodIn_r _ [8] (by decide +kernel) (by decide +kernel)
set_option maxRecDepth 20000 in
theorem gX8_works_X8_isIn : GoodIn wsX8_works (va_wsS RX8 59 yX8_isIn wsX8_isIn) := goodIn_app (goodIn_of _ (by decide +kernel)) ggX8_works_X8_isIn
set_option maxRecDepth 20000 in
theorem ggX8_works_X8_by : GoodIn wsX8_works wsX8_by := goodIn_r _ [12, 3, 4, 13, 14, 15, 7, 16, 2, 1, 5, 6, 8, 17, 18, 19, 20, 21, 22, 23, 24, 25, 26, 27, 28, 29, 30, 31, 32, 33, 34, 35, 36, 37, 38, 39, 40, 41, 42, 43, 44, 45, 46, 47, 48, 49, 50, 51, 52] (by decide +kernel) (by decide +kernel)
set_option maxRecDepth 20000 in
theorem gX8_works_X8_by : GoodIn wsX8_works (wsV RX8 138 RX8 yX8_by wsX8_by) := goodIn_app (goodIn_of _ (by decide +kernel)) ggX8_works_X8_by
theorem dX8_works_0 : decode cX8_works 0 = .ok (.aload_n 0, 1) := by decide +kernel
theorem dX8_works_1 : decode cX8_works 1 = .ok (.iconst 0, 1) := by decide +kernel
theorem dX8_works_2 : decode cX8_works 2 = .ok (.putfield 132, 3) := by decide +kernel
theorem dX8_works_5 : decode cX8_works 5 = .ok (.aload_n 0, 1) := by decide +kernel
theorem dX8_works_6 : decode cX8_works 6 = .ok (.getfield 7, 3) := by decide +kernel
theorem dX8_works_9 : decode cX8_works 9 = .ok (.bipush 18, 2) := by decide +kernel
theorem dX8_works_11 : decode cX8_works 11 = .ok (.iaload, 1) := by decide +kernel
theorem dX8_works_12 : decode cX8_works 12 = .ok (.bipush 23, 2) := by decide +kernel
theorem dX8_works_14 : decode cX8_works 14 = .ok (.if_icmp .ge 5, 3) := by decide +kernel
theorem dX8_works_17 : decode cX8_works 17 = .ok (.iconst 0, 1) := by decide +kernel
theorem dX8_works_18 : decode cX8_works 18 = .ok (.ireturn, 1) := by decide +kernel
theorem dX8_works_19 : decode cX8_works 19 = .ok (.iconst 0, 1) := by decide +kernel
theorem dX8_works_20 : decode cX8_works 20 = .ok (.istore_n 1, 1) := by decide +kernel
theorem dX8_works_21 : decode cX8_works 21 = .ok (.iload_n 1, 1) := by decide +kernel
theorem dX8_works_22 : decode cX8_works 22 = .ok (.bipush 31, 2) := by decide +kernel
theorem dX8_works_24 : decode cX8_works 24 = .ok (.if_icmp .ge 42, 3) := by decide +kernel
theorem dX8_works_27 : decode cX8_works 27 = .ok (.aload_n 0, 1) := by decide +kernel
theorem dX8_works_28 : decode cX8_works 28 = .ok (.getfield 7, 3) := by decide +kernel
theorem dX8_works_31 : decode cX8_works 31 = .ok (.iconst 0, 1) := by decide +kernel
theorem dX8_works_32 : decode cX8_works 32 = .ok (.iaload, 1) := by decide +kernel
theorem dX8_works_33 : decode cX8_works 33 = .ok (.iload_n 1, 1) := by decide +kernel
theorem dX8_works_34 : decode cX8_works 34 = .ok (.invokestatic 59, 3) := by decide +kernel
theorem dX8_works_37 : decode cX8_works 37 = .ok (.ifCond .ne 23, 3) := by decide +kernel
theorem dX8_works_40 : decode cX8_works 40 = .ok (.aload_n 0, 1) := by decide +kernel
theorem dX8_works_41 : decode cX8_works 41 = .ok (.getfield 22, 3) := by decide +kernel
theorem dX8_works_44 : decode cX8_works 44 = .ok (.aload_n 0, 1) := by decide +kernel
theorem dX8_works_45 : decode cX8_works 45 = .ok (.getfield 132, 3) := by decide +kernel
theorem dX8_works_48 : decode cX8_works 48 = .ok (.iload_n 1, 1) := by decide +kernel
theorem dX8_works_49 : decode cX8_works 49 = .ok (.iastore, 1) := by decide +kernel
theorem dX8_works_50 : decode cX8_works 50 = .ok (.aload_n 0, 1) := by decide +kernel
theorem dX8_works_51 : decode cX8_works 51 = .ok (.dup, 1) := by decide +kernel
theorem dX8_works_52 : decode cX8_works 52 = .ok (.getfield 132, 3) := by decide +kernel
theorem dX8_works_55 : decode cX8_works 55 = .ok (.iconst 1, 1) := by decide +kernel
theorem dX8_works_56 : decode cX8_works 56 = .ok (.iadd, 1) := by decide +kernel
theorem dX8_works_57 : decode cX8_works 57 = .ok (.putfield 132, 3) := by decide +kernel
theorem dX8_works_60 : decode cX8_works 60 = .ok (.iinc 1 1, 3) := by decide +kernel
theorem dX8_works_63 : decode cX8_works 63 = .ok (.goto (-42), 3) := by decide +kernel
theorem dX8_works_66 : decode cX8_works 66 = .ok (.iconst 1, 1) := by decide +kernel
theorem dX8_works_67 : decode cX8_works 67 = .ok (.aload_n 0, 1) := by decide +kernel
theorem dX8_works_68 : decode cX8_works 68 = .ok (.getfield 132, 3) := by decide +kernel
theorem dX8_works_71 : decode cX8_works 71 = .ok (.ishl, 1) := by decide +kernel
theorem dX8_works_72 : decode cX8_works 72 = .ok (.iconst 1, 1) := by decide +kernel
theorem dX8_works_73 : decode cX8_works 73 = .ok (.isub, 1) := by decide +kernel
theorem dX8_works_74 : decode cX8_works 74 = .ok (.istore_n 1, 1) := by decide +kernel
theorem dX8_works_75 : decode cX8_works 75 = .ok (.aload_n 0, 1) := by decide +kernel
theorem dX8_works_76 : decode cX8_works 76 = .ok (.getfield 25, 3) := by decide +kernel
theorem dX8_works_79 : decode cX8_works 79 = .ok (.iload_n 1, 1) := by decide +kernel
theorem dX8_works_80 : decode cX8_works 80 = .ok (.iconst 0, 1) := by decide +kernel
theorem dX8_works_81 : decode cX8_works 81 = .ok (.iastore, 1) := by decide +kernel
theorem dX8_works_82 : decode cX8_works 82 = .ok (.iload_n 1, 1) := by decide +kernel
theorem dX8_works_83 : decode cX8_works 83 = .ok (.iconst 1, 1) := by decide +kernel
theorem dX8_works_84 : decode cX8_works 84 = .ok (.isub, 1) := by decide +kernel
theorem dX8_works_85 : decode cX8_works 85 = .ok (.istore_n 2, 1) := by decide +kernel
theorem dX8_works_86 : decode cX8_works 86 = .ok (.iload_n 2, 1) := by decide +kernel
theorem dX8_works_87 : decode cX8_works 87 = .ok (.ifCond .lt 73, 3) := by decide +kernel
theorem dX8_works_90 : decode cX8_works 90 = .ok (.bipush (-99), 2) := by decide +kernel
theorem dX8_works_92 : decode cX8_works 92 = .ok (.istore_n 3, 1) := by decide +kernel
theorem dX8_works_93 : decode cX8_works 93 = .ok (.iconst 0, 1) := by decide +kernel
theorem dX8_works_94 : decode cX8_works 94 = .ok (.istore 4, 2) := by decide +kernel
theorem dX8_works_96 : decode cX8_works 96 = .ok (.iload 4, 2) := by decide +kernel
theorem dX8_works_98 : decode cX8_works 98 = .ok (.aload_n 0, 1) := by decide +kernel
theorem dX8_works_99 : decode cX8_works 99 = .ok (.getfield 132, 3) := by decide +kernel
theorem dX8_works_102 : decode cX8_works 102 = .ok (.if_icmp .ge 45, 3) := by decide +kernel
theorem dX8_works_105 : decode cX8_works 105 = .ok (.iload_n 2, 1) := by decide +kernel
theorem dX8_works_106 : decode cX8_works 106 = .ok (.iload 4, 2) := by decide +kernel
theorem dX8_works_108 : decode cX8_works 108 = .ok (.invokestatic 59, 3) := by decide +kernel
theorem dX8_works_111 : decode cX8_works 111 = .ok (.ifCond .eq 8, 3) := by decide +kernel
theorem dX8_works_114 : decode cX8_works 114 = .ok (.bipush (-99), 2) := by decide +kernel
theorem dX8_works_116 : decode cX8_works 116 = .ok (.goto 10, 3) := by decide +kernel
theorem dX8_works_119 : decode cX8_works 119 = .ok (.aload_n 0, 1) := by decide +kernel
theorem dX8_works_120 : decode cX8_works 120 = .ok (.iload_n 2, 1) := by decide +kernel
theorem dX8_works_121 : decode cX8_works 121 = .ok (.iload 4, 2) := by decide +kernel
theorem dX8_works_123 : decode cX8_works 123 = .ok (.invokevirtual 138, 3) := by decide +kernel
theorem dX8_works_126 : decode cX8_works 126 = .ok (.istore 5, 2) := by decide +kernel
theorem dX8_works_128 : decode cX8_works 128 = .ok (.iload 5, 2) := by decide +kernel
theorem dX8_works_130 : decode cX8_works 130 = .ok (.iload_n 3, 1) := by decide +kernel
theorem dX8_works_131 : decode cX8_works 131 = .ok (.if_icmp .le 8, 3) := by decide +kernel
theorem dX8_works_134 : decode cX8_works 134 = .ok (.iload 5, 2) := by decide +kernel
theorem dX8_works_136 : decode cX8_works 136 = .ok (.goto 4, 3) := by decide +kernel
theorem dX8_works_139 : decode cX8_works 139 = .ok (.iload_n 3, 1) := by decide +kernel
theorem dX8_works_140 : decode cX8_works 140 = .ok (.istore_n 3, 1) := by decide +kernel
theorem dX8_works_141 : decode cX8_works 141 = .ok (.iinc 4 1, 3) := by decide +kernel
theorem dX8_works_144 : decode cX8_works 144 = .ok (.goto (-48), 3) := by decide +kernel
theorem dX8_works_147 : decode cX8_works 147 = .ok (.aload_n 0, 1) := by decide +kernel
theorem dX8_works_148 : decode cX8_works 148 = .ok (.getfield 25, 3) := by decide +kernel
theorem dX8_works_151 : decode cX8_works 151 = .ok (.iload_n 2, 1) := by decide +kernel
theorem dX8_works_152 : decode cX8_works 152 = .ok (.iload_n 3, 1) := by decide +kernel
theorem dX8_works_153 : decode cX8_works 153 = .ok (.iastore, 1) := by decide +kernel
theorem dX8_works_154 : decode cX8_works 154 = .ok (.iinc 2 (-1), 3) := by decide +kernel
theorem dX8_works_157 : decode cX8_works 157 = .ok (.goto (-71), 3) := by decide +kernel
theorem dX8_works_160 : decode cX8_works 160 = .ok (.iconst 1, 1) := by decide +kernel
theorem dX8_works_161 : decode cX8_works 161 = .ok (.ireturn, 1) := by decide +kernel
set_option maxRecDepth 20000 in
theorem ggX8_end_X8_works : GoodIn wsX8_end wsX8_works := goodIn_r _ [7, 8, 9, 10, 2, 11, 12, 6, 13, 14, 15, 16, 17, 18, 19, 20, 21, 22, 23, 24, 25, 26, 27, 28, 29, 30, 31, 32, 33, 34, 35, 36, 37, 38, 39, 40, 41, 42, 43, 44, 45, 46, 47, 48, 49, 50, 51, 52, 53, 54, 55, 56, 57] (by decide +kernel) (by decide +kernel)
set_option maxRecDepth 20000 in
theorem gX8_end_X8_works : GoodIn wsX8_end (wsV RX8 141 RX8 yX8_works wsX8_works) := goodIn_app (goodIn_of _ (by decide +kernel)) ggX8_end_X8_works
theorem dX8_end_0 : decode cX8_end 0 = .ok (.aload_n 0, 1) := by decide +kernel
theorem dX8_end_1 : decode cX8_end 1 = .ok (.aload_n 0, 1) := by decide +kernel
theorem dX8_end_2 : decode cX8_end 2 = .ok (.invokevirtual 141, 3) := by decide +kernel
theorem dX8_end_5 : decode cX8_end 5 = .ok (.ifCond .eq 7, 3) := by decide +kernel
theorem dX8_end_8 : decode cX8_end 8 = .ok (.iconst 0, 1) := by decide +kernel
theorem dX8_end_9 : decode cX8_end 9 = .ok (.goto 4, 3) := by decide +kernel
theorem dX8_end_12 : decode cX8_end 12 = .ok (.iconst 1, 1) := by decide +kernel
theorem dX8_end_13 : decode cX8_end 13 = .ok (.putfield 37, 3) := by decide +kernel
theorem dX8_end_16 : decode cX8_end 16 = .ok (.aload_n 0, 1) := by decide +kernel
theorem dX8_end_17 : decode cX8_end 17 = .ok (.getfield 37, 3) := by decide +kernel
theorem dX8_end_20 : decode cX8_end 20 = .ok (.ifCond .ne 12, 3) := by decide +kernel
theorem dX8_end_23 : decode cX8_end 23 = .ok (.aload_n 0, 1) := by decide +kernel
theorem dX8_end_24 : decode cX8_end 24 = .ok (.getfield 25, 3) := by decide +kernel
theorem dX8_end_27 : decode cX8_end 27 = .ok (.iconst 0, 1) := by decide +kernel
theorem dX8_end_28 : decode cX8_end 28 = .ok (.iaload, 1) := by decide +kernel
theorem dX8_end_29 : decode cX8_end 29 = .ok (.goto 4, 3) := by decide +kernel
theorem dX8_end_32 : decode cX8_end 32 = .ok (.iconst 0, 1) := by decide +kernel
theorem dX8_end_33 : decode cX8_end 33 = .ok (.ireturn, 1) := by decide +kernel
set_option maxRecDepth 20000 in
theorem ggX8_endDifference_X8_end : GoodIn wsX8_endDifference wsX8_end := goodIn_r _ [5, 6, 7, 8, 9, 10, 4, 11, 12, 13, 14, 15, 16, 17, 18, 19, 20, 21, 22, 23, 24, 25, 26, 27, 28, 29, 30, 31, 32, 33, 34, 35, 36, 37, 38, 39, 40, 41, 42, 43, 44, 45, 46, 47, 48, 49, 50, 51, 52, 53, 54, 55, 56, 57, 58, 59, 60, 61] (by decide +kernel) (by decide +kernel)
set_option maxRecDepth 20000 in
theorem gX8_endDifference_X8_end : GoodIn wsX8_endDifference (wsV RX8 145 RX8 yX8_end wsX8_end) := goodIn_app (goodIn_of _ (by decide +kernel)) ggX8_endDifference_X8_end
theorem dX8_endDifference_0 : decode cX8_endDifference 0 = .ok (.aload_n 0, 1) := by decide +kernel
theorem dX8_endDifference_1 : decode cX8_endDifference 1 = .ok (.invokevirtual 145, 3) := by decide +kernel
theorem dX8_endDifference_4 : decode cX8_endDifference 4 = .ok (.ireturn, 1) := by decide +kernel
set_option maxRecDepth 20000 in
theorem ggX8_endByTrying_X8_end : GoodIn wsX8_endByTrying wsX8_end := goodIn_r _ [5, 6, 7, 8, 9, 10, 4, 11, 12, 13, 14, 15, 16, 17, 18, 19, 20, 21, 22, 23, 24, 25, 26, 27, 28, 29, 30, 31, 32, 33, 34, 35, 36, 37, 38, 39, 40, 41, 42, 43, 44, 45, 46, 47, 48, 49, 50, 51, 52, 53, 54, 55, 56, 57, 58, 59, 60, 61] (by decide +kernel) (by decide +kernel)
set_option maxRecDepth 20000 in
theorem gX8_endByTrying_X8_end : GoodIn wsX8_endByTrying (wsV RX8 145 RX8 yX8_end wsX8_end) := goodIn_app (goodIn_of _ (by decide +kernel)) ggX8_endByTrying_X8_end
theorem dX8_endByTrying_0 : decode cX8_endByTrying 0 = .ok (.aload_n 0, 1) := by decide +kernel
theorem dX8_endByTrying_1 : decode cX8_endByTrying 1 = .ok (.invokevirtual 145, 3) := by decide +kernel
theorem dX8_endByTrying_4 : decode cX8_endByTrying 4 = .ok (.ireturn, 1) := by decide +kernel
set_option maxRecDepth 20000 in
theorem ggX8_bestFence_X8_works : GoodIn wsX8_bestFence wsX8_works := goodIn_r _ [9, 1, 10, 4, 3, 11, 12, 8, 13, 14, 15, 16, 17, 18, 19, 20, 21, 22, 23, 24, 25, 26, 27, 28, 29, 30, 31, 32, 33, 34, 35, 36, 37, 38, 39, 40, 41, 42, 43, 44, 45, 46, 47, 48, 49, 50, 51, 52, 53, 54, 55, 56, 57] (by decide +kernel) (by decide +kernel)
set_option maxRecDepth 20000 in
theorem gX8_bestFence_X8_works : GoodIn wsX8_bestFence (wsV RX8 141 RX8 yX8_works wsX8_works) := goodIn_app (goodIn_of _ (by decide +kernel)) ggX8_bestFence_X8_works
set_option maxRecDepth 20000 in
theorem ggX8_bestFence_X8_by : GoodIn wsX8_bestFence wsX8_by := goodIn_r _ [17, 4, 3, 18, 19, 20, 8, 21, 10, 1, 11, 12, 13, 22, 23, 24, 25, 26, 27, 28, 29, 30, 31, 32, 33, 34, 35, 36, 37, 38, 39, 40, 41, 42, 43, 44, 45, 46, 47, 48, 49, 50, 51, 52, 53, 54, 55, 56, 57] (by decide +kernel) (by decide +kernel)
set_option maxRecDepth 20000 in
theorem gX8_bestFence_X8_by : GoodIn wsX8_bestFence (wsV RX8 138 RX8 yX8_by wsX8_by) := goodIn_app (goodIn_of _ (by decide +kernel)) ggX8_bestFence_X8_by
theorem dX8_bestFence_0 : decode cX8_bestFence 0 = .ok (.aload_n 0, 1) := by decide +kernel
theorem dX8_bestFence_1 : decode cX8_bestFence 1 = .ok (.aload_n 0, 1) := by decide +kernel
theorem dX8_bestFence_2 : decode cX8_bestFence 2 = .ok (.invokevirtual 141, 3) := by decide +kernel
theorem dX8_bestFence_5 : decode cX8_bestFence 5 = .ok (.ifCond .eq 14, 3) := by decide +kernel
theorem dX8_bestFence_8 : decode cX8_bestFence 8 = .ok (.aload_n 0, 1) := by decide +kernel
theorem dX8_bestFence_9 : decode cX8_bestFence 9 = .ok (.getfield 132, 3) := by decide +kernel
theorem dX8_bestFence_12 : decode cX8_bestFence 12 = .ok (.ifCond .le 7, 3) := by decide +kernel
theorem dX8_bestFence_15 : decode cX8_bestFence 15 = .ok (.iconst 0, 1) := by decide +kernel
theorem dX8_bestFence_16 : decode cX8_bestFence 16 = .ok (.goto 4, 3) := by decide +kernel
theorem dX8_bestFence_19 : decode cX8_bestFence 19 = .ok (.iconst 1, 1) := by decide +kernel
theorem dX8_bestFence_20 : decode cX8_bestFence 20 = .ok (.putfield 37, 3) := by decide +kernel
theorem dX8_bestFence_23 : decode cX8_bestFence 23 = .ok (.iconst 0, 1) := by decide +kernel
theorem dX8_bestFence_24 : decode cX8_bestFence 24 = .ok (.istore_n 1, 1) := by decide +kernel
theorem dX8_bestFence_25 : decode cX8_bestFence 25 = .ok (.iload_n 1, 1) := by decide +kernel
theorem dX8_bestFence_26 : decode cX8_bestFence 26 = .ok (.aload_n 0, 1) := by decide +kernel
theorem dX8_bestFence_27 : decode cX8_bestFence 27 = .ok (.getfield 132, 3) := by decide +kernel
theorem dX8_bestFence_30 : decode cX8_bestFence 30 = .ok (.if_icmp .ge 38, 3) := by decide +kernel
theorem dX8_bestFence_33 : decode cX8_bestFence 33 = .ok (.aload_n 0, 1) := by decide +kernel
theorem dX8_bestFence_34 : decode cX8_bestFence 34 = .ok (.getfield 37, 3) := by decide +kernel
theorem dX8_bestFence_37 : decode cX8_bestFence 37 = .ok (.ifCond .ne 31, 3) := by decide +kernel
theorem dX8_bestFence_40 : decode cX8_bestFence 40 = .ok (.aload_n 0, 1) := by decide +kernel
theorem dX8_bestFence_41 : decode cX8_bestFence 41 = .ok (.iconst 0, 1) := by decide +kernel
theorem dX8_bestFence_42 : decode cX8_bestFence 42 = .ok (.iload_n 1, 1) := by decide +kernel
theorem dX8_bestFence_43 : decode cX8_bestFence 43 = .ok (.invokevirtual 138, 3) := by decide +kernel
theorem dX8_bestFence_46 : decode cX8_bestFence 46 = .ok (.aload_n 0, 1) := by decide +kernel
theorem dX8_bestFence_47 : decode cX8_bestFence 47 = .ok (.getfield 25, 3) := by decide +kernel
theorem dX8_bestFence_50 : decode cX8_bestFence 50 = .ok (.iconst 0, 1) := by decide +kernel
theorem dX8_bestFence_51 : decode cX8_bestFence 51 = .ok (.iaload, 1) := by decide +kernel
theorem dX8_bestFence_52 : decode cX8_bestFence 52 = .ok (.if_icmp .ne 10, 3) := by decide +kernel
theorem dX8_bestFence_55 : decode cX8_bestFence 55 = .ok (.aload_n 0, 1) := by decide +kernel
theorem dX8_bestFence_56 : decode cX8_bestFence 56 = .ok (.getfield 22, 3) := by decide +kernel
theorem dX8_bestFence_59 : decode cX8_bestFence 59 = .ok (.iload_n 1, 1) := by decide +kernel
theorem dX8_bestFence_60 : decode cX8_bestFence 60 = .ok (.iaload, 1) := by decide +kernel
theorem dX8_bestFence_61 : decode cX8_bestFence 61 = .ok (.ireturn, 1) := by decide +kernel
theorem dX8_bestFence_62 : decode cX8_bestFence 62 = .ok (.iinc 1 1, 3) := by decide +kernel
theorem dX8_bestFence_65 : decode cX8_bestFence 65 = .ok (.goto (-40), 3) := by decide +kernel
theorem dX8_bestFence_68 : decode cX8_bestFence 68 = .ok (.iconst 0, 1) := by decide +kernel
theorem dX8_bestFence_69 : decode cX8_bestFence 69 = .ok (.ireturn, 1) := by decide +kernel
set_option maxRecDepth 20000 in
theorem ggX8_won_X8_in : GoodIn wsX8_won wsX8_in := goodIn_r _ [6] (by decide +kernel) (by decide +kernel)
set_option maxRecDepth 20000 in
theorem gX8_won_X8_in : GoodIn wsX8_won (va_wsS RX8 48 yX8_in wsX8_in) := goodIn_app (goodIn_of _ (by decide +kernel)) ggX8_won_X8_in
theorem dX8_won_0 : decode cX8_won 0 = .ok (.aload_n 0, 1) := by decide +kernel
theorem dX8_won_1 : decode cX8_won 1 = .ok (.iload_n 1, 1) := by decide +kernel
theorem dX8_won_2 : decode cX8_won 2 = .ok (.iconst 0, 1) := by decide +kernel
theorem dX8_won_3 : decode cX8_won 3 = .ok (.iconst 1, 1) := by decide +kernel
theorem dX8_won_4 : decode cX8_won 4 = .ok (.invokestatic 48, 3) := by decide +kernel
theorem dX8_won_7 : decode cX8_won 7 = .ok (.ifCond .eq 7, 3) := by decide +kernel
theorem dX8_won_10 : decode cX8_won 10 = .ok (.iconst 0, 1) := by decide +kernel
theorem dX8_won_11 : decode cX8_won 11 = .ok (.goto 4, 3) := by decide +kernel
theorem dX8_won_14 : decode cX8_won 14 = .ok (.iconst 1, 1) := by decide +kernel
theorem dX8_won_15 : decode cX8_won 15 = .ok (.putfield 37, 3) := by decide +kernel
theorem dX8_won_18 : decode cX8_won 18 = .ok (.aload_n 0, 1) := by decide +kernel
theorem dX8_won_19 : decode cX8_won 19 = .ok (.getfield 37, 3) := by decide +kernel
theorem dX8_won_22 : decode cX8_won 22 = .ok (.ifCond .ne 15, 3) := by decide +kernel
theorem dX8_won_25 : decode cX8_won 25 = .ok (.aload_n 0, 1) := by decide +kernel
theorem dX8_won_26 : decode cX8_won 26 = .ok (.getfield 7, 3) := by decide +kernel
theorem dX8_won_29 : decode cX8_won 29 = .ok (.bipush 14, 2) := by decide +kernel
theorem dX8_won_31 : decode cX8_won 31 = .ok (.iload_n 1, 1) := by decide +kernel
theorem dX8_won_32 : decode cX8_won 32 = .ok (.iadd, 1) := by decide +kernel
theorem dX8_won_33 : decode cX8_won 33 = .ok (.iaload, 1) := by decide +kernel
theorem dX8_won_34 : decode cX8_won 34 = .ok (.goto 4, 3) := by decide +kernel
theorem dX8_won_37 : decode cX8_won 37 = .ok (.iconst 0, 1) := by decide +kernel
theorem dX8_won_38 : decode cX8_won 38 = .ok (.ireturn, 1) := by decide +kernel
set_option maxRecDepth 20000 in
theorem ggX8_evenGames_X8_told : GoodIn wsX8_evenGames wsX8_told := goodIn_r _ [5, 6, 7, 8, 9, 10, 11, 12, 13, 14, 15, 16, 17, 18, 19, 20, 21, 22, 23, 24, 25, 26, 27, 28] (by decide +kernel) (by decide +kernel)
set_option maxRecDepth 20000 in
theorem gX8_evenGames_X8_told : GoodIn wsX8_evenGames (wsV RX8 98 RX8 yX8_told wsX8_told) := goodIn_app (goodIn_of _ (by decide +kernel)) ggX8_evenGames_X8_told
theorem dX8_evenGames_0 : decode cX8_evenGames 0 = .ok (.aload_n 0, 1) := by decide +kernel
theorem dX8_evenGames_1 : decode cX8_evenGames 1 = .ok (.bipush 16, 2) := by decide +kernel
theorem dX8_evenGames_3 : decode cX8_evenGames 3 = .ok (.invokevirtual 98, 3) := by decide +kernel
theorem dX8_evenGames_6 : decode cX8_evenGames 6 = .ok (.ireturn, 1) := by decide +kernel
set_option maxRecDepth 20000 in
theorem ggX8_doubleDeals_X8_told : GoodIn wsX8_doubleDeals wsX8_told := goodIn_r _ [5, 6, 7, 8, 9, 10, 11, 12, 13, 14, 15, 16, 17, 18, 19, 20, 21, 22, 23, 24, 25, 26, 27, 28] (by decide +kernel) (by decide +kernel)
set_option maxRecDepth 20000 in
theorem gX8_doubleDeals_X8_told : GoodIn wsX8_doubleDeals (wsV RX8 98 RX8 yX8_told wsX8_told) := goodIn_app (goodIn_of _ (by decide +kernel)) ggX8_doubleDeals_X8_told
theorem dX8_doubleDeals_0 : decode cX8_doubleDeals 0 = .ok (.aload_n 0, 1) := by decide +kernel
theorem dX8_doubleDeals_1 : decode cX8_doubleDeals 1 = .ok (.bipush 17, 2) := by decide +kernel
theorem dX8_doubleDeals_3 : decode cX8_doubleDeals 3 = .ok (.invokevirtual 98, 3) := by decide +kernel
theorem dX8_doubleDeals_6 : decode cX8_doubleDeals 6 = .ok (.ireturn, 1) := by decide +kernel
set_option maxRecDepth 20000 in
theorem ggX8_share_X8_boxes : GoodIn wsX8_share wsX8_boxes := goodIn_r _ [7, 8, 9, 10, 11, 12, 13, 14, 15, 16, 17, 18, 19, 20, 21, 22, 23, 24, 25, 26, 27, 28, 29] (by decide +kernel) (by decide +kernel)
set_option maxRecDepth 20000 in
theorem gX8_share_X8_boxes : GoodIn wsX8_share (wsV RX8 79 RX8 yX8_boxes wsX8_boxes) := goodIn_app (goodIn_of _ (by decide +kernel)) ggX8_share_X8_boxes
theorem dX8_share_0 : decode cX8_share 0 = .ok (.aload_n 0, 1) := by decide +kernel
theorem dX8_share_1 : decode cX8_share 1 = .ok (.iconst 0, 1) := by decide +kernel
theorem dX8_share_2 : decode cX8_share 2 = .ok (.putfield 37, 3) := by decide +kernel
theorem dX8_share_5 : decode cX8_share 5 = .ok (.aload_n 0, 1) := by decide +kernel
theorem dX8_share_6 : decode cX8_share 6 = .ok (.iconst 0, 1) := by decide +kernel
theorem dX8_share_7 : decode cX8_share 7 = .ok (.invokevirtual 79, 3) := by decide +kernel
theorem dX8_share_10 : decode cX8_share 10 = .ok (.aload_n 0, 1) := by decide +kernel
theorem dX8_share_11 : decode cX8_share 11 = .ok (.iconst 1, 1) := by decide +kernel
theorem dX8_share_12 : decode cX8_share 12 = .ok (.invokevirtual 79, 3) := by decide +kernel
theorem dX8_share_15 : decode cX8_share 15 = .ok (.iadd, 1) := by decide +kernel
theorem dX8_share_16 : decode cX8_share 16 = .ok (.i2f, 1) := by decide +kernel
theorem dX8_share_17 : decode cX8_share 17 = .ok (.fstore_n 1, 1) := by decide +kernel
theorem dX8_share_18 : decode cX8_share 18 = .ok (.ldc 148, 2) := by decide +kernel
theorem dX8_share_20 : decode cX8_share 20 = .ok (.fstore_n 2, 1) := by decide +kernel
theorem dX8_share_21 : decode cX8_share 21 = .ok (.fload_n 1, 1) := by decide +kernel
theorem dX8_share_22 : decode cX8_share 22 = .ok (.fload_n 2, 1) := by decide +kernel
theorem dX8_share_23 : decode cX8_share 23 = .ok (.fdiv, 1) := by decide +kernel
theorem dX8_share_24 : decode cX8_share 24 = .ok (.freturn, 1) := by decide +kernel
set_option maxRecDepth 20000 in
theorem ggX8_keep_X8_copies : GoodIn wsX8_keep wsX8_copies := goodIn_r _ [8] (by decide +kernel) (by decide +kernel)
set_option maxRecDepth 20000 in
theorem gX8_keep_X8_copies : GoodIn wsX8_keep (va_wsS RX8 152 yX8_copies wsX8_copies) := goodIn_app (goodIn_of _ (by decide +kernel)) ggX8_keep_X8_copies
theorem dX8_keep_0 : decode cX8_keep 0 = .ok (.aload_n 0, 1) := by decide +kernel
theorem dX8_keep_1 : decode cX8_keep 1 = .ok (.iconst 0, 1) := by decide +kernel
theorem dX8_keep_2 : decode cX8_keep 2 = .ok (.putfield 37, 3) := by decide +kernel
theorem dX8_keep_5 : decode cX8_keep 5 = .ok (.aload_n 0, 1) := by decide +kernel
theorem dX8_keep_6 : decode cX8_keep 6 = .ok (.iconst 1, 1) := by decide +kernel
theorem dX8_keep_7 : decode cX8_keep 7 = .ok (.putfield 149, 3) := by decide +kernel
theorem dX8_keep_10 : decode cX8_keep 10 = .ok (.aload_n 0, 1) := by decide +kernel
theorem dX8_keep_11 : decode cX8_keep 11 = .ok (.getfield 7, 3) := by decide +kernel
theorem dX8_keep_14 : decode cX8_keep 14 = .ok (.aload_n 0, 1) := by decide +kernel
theorem dX8_keep_15 : decode cX8_keep 15 = .ok (.getfield 16, 3) := by decide +kernel
theorem dX8_keep_18 : decode cX8_keep 18 = .ok (.invokestatic 152, 3) := by decide +kernel
theorem dX8_keep_21 : decode cX8_keep 21 = .ok (.aload_n 0, 1) := by decide +kernel
theorem dX8_keep_22 : decode cX8_keep 22 = .ok (.getfield 7, 3) := by decide +kernel
theorem dX8_keep_25 : decode cX8_keep 25 = .ok (.bipush 18, 2) := by decide +kernel
theorem dX8_keep_27 : decode cX8_keep 27 = .ok (.iaload, 1) := by decide +kernel
theorem dX8_keep_28 : decode cX8_keep 28 = .ok (.ireturn, 1) := by decide +kernel
set_option maxRecDepth 20000 in
theorem ggX8_goBack_X8_fails : GoodIn wsX8_goBack wsX8_fails := goodIn_r _ [9, 1, 20, 21, 22, 23, 24, 25, 26, 27, 28, 29, 30, 31, 32, 33, 34, 35, 36, 37, 38, 39, 40] (by decide +kernel) (by decide +kernel)
set_option maxRecDepth 20000 in
theorem gX8_goBack_X8_fails : GoodIn wsX8_goBack (wsV RX8 86 RX8 yX8_fails wsX8_fails) := goodIn_app (goodIn_of _ (by decide +kernel)) ggX8_goBack_X8_fails
set_option maxRecDepth 20000 in
theorem ggX8_goBack_X8_changes : GoodIn wsX8_goBack wsX8_changes := goodIn_r _ [13, 14, 15, 16, 4, 20, 21, 22, 23, 24, 25, 26, 27, 28, 29, 30, 31, 32, 33, 34, 35, 36, 37, 38, 39, 40] (by decide +kernel) (by decide +kernel)
set_option maxRecDepth 20000 in
theorem gX8_goBack_X8_changes : GoodIn wsX8_goBack (wsV RX8 92 RX8 yX8_changes wsX8_changes) := goodIn_app (goodIn_of _ (by decide +kernel)) ggX8_goBack_X8_changes
set_option maxRecDepth 20000 in
theorem ggX8_goBack_X8_copies : GoodIn wsX8_goBack wsX8_copies := goodIn_r _ [19] (by decide +kernel) (by decide +kernel)
set_option maxRecDepth 20000 in
theorem gX8_goBack_X8_copies : GoodIn wsX8_goBack (va_wsS RX8 152 yX8_copies wsX8_copies) := goodIn_app (goodIn_of _ (by decide +kernel)) ggX8_goBack_X8_copies
theorem dX8_goBack_0 : decode cX8_goBack 0 = .ok (.aload_n 0, 1) := by decide +kernel
theorem dX8_goBack_1 : decode cX8_goBack 1 = .ok (.iconst 0, 1) := by decide +kernel
theorem dX8_goBack_2 : decode cX8_goBack 2 = .ok (.putfield 37, 3) := by decide +kernel
theorem dX8_goBack_5 : decode cX8_goBack 5 = .ok (.aload_n 0, 1) := by decide +kernel
theorem dX8_goBack_6 : decode cX8_goBack 6 = .ok (.getfield 149, 3) := by decide +kernel
theorem dX8_goBack_9 : decode cX8_goBack 9 = .ok (.ifCond .ne 9, 3) := by decide +kernel
theorem dX8_goBack_12 : decode cX8_goBack 12 = .ok (.aload_n 0, 1) := by decide +kernel
theorem dX8_goBack_13 : decode cX8_goBack 13 = .ok (.iconst 1, 1) := by decide +kernel
theorem dX8_goBack_14 : decode cX8_goBack 14 = .ok (.invokevirtual 86, 3) := by decide +kernel
theorem dX8_goBack_17 : decode cX8_goBack 17 = .ok (.ireturn, 1) := by decide +kernel
theorem dX8_goBack_18 : decode cX8_goBack 18 = .ok (.aload_n 0, 1) := by decide +kernel
theorem dX8_goBack_19 : decode cX8_goBack 19 = .ok (.invokevirtual 92, 3) := by decide +kernel
theorem dX8_goBack_22 : decode cX8_goBack 22 = .ok (.aload_n 0, 1) := by decide +kernel
theorem dX8_goBack_23 : decode cX8_goBack 23 = .ok (.getfield 16, 3) := by decide +kernel
theorem dX8_goBack_26 : decode cX8_goBack 26 = .ok (.aload_n 0, 1) := by decide +kernel
theorem dX8_goBack_27 : decode cX8_goBack 27 = .ok (.getfield 7, 3) := by decide +kernel
theorem dX8_goBack_30 : decode cX8_goBack 30 = .ok (.invokestatic 152, 3) := by decide +kernel
theorem dX8_goBack_33 : decode cX8_goBack 33 = .ok (.aload_n 0, 1) := by decide +kernel
theorem dX8_goBack_34 : decode cX8_goBack 34 = .ok (.getfield 7, 3) := by decide +kernel
theorem dX8_goBack_37 : decode cX8_goBack 37 = .ok (.bipush 18, 2) := by decide +kernel
theorem dX8_goBack_39 : decode cX8_goBack 39 = .ok (.iaload, 1) := by decide +kernel
theorem dX8_goBack_40 : decode cX8_goBack 40 = .ok (.ireturn, 1) := by decide +kernel
theorem dX8_states_0 : decode cX8_states 0 = .ok (.aload_n 0, 1) := by decide +kernel
theorem dX8_states_1 : decode cX8_states 1 = .ok (.iconst 0, 1) := by decide +kernel
theorem dX8_states_2 : decode cX8_states 2 = .ok (.putfield 37, 3) := by decide +kernel
theorem dX8_states_5 : decode cX8_states 5 = .ok (.aload_n 0, 1) := by decide +kernel
theorem dX8_states_6 : decode cX8_states 6 = .ok (.getfield 45, 3) := by decide +kernel
theorem dX8_states_9 : decode cX8_states 9 = .ok (.ireturn, 1) := by decide +kernel
set_option maxRecDepth 20000 in
theorem ggX8_undo_X8_fails : GoodIn wsX8_undo wsX8_fails := goodIn_r _ [9, 1, 10, 11, 12, 13, 14, 15, 16, 17, 18, 19, 20, 21, 22, 23, 24, 25, 26, 27, 28, 29, 30] (by decide +kernel) (by decide +kernel)
set_option maxRecDepth 20000 in
theorem gX8_undo_X8_fails : GoodIn wsX8_undo (wsV RX8 86 RX8 yX8_fails wsX8_fails) := goodIn_app (goodIn_of _ (by decide +kernel)) ggX8_undo_X8_fails
theorem dX8_undo_0 : decode cX8_undo 0 = .ok (.aload_n 0, 1) := by decide +kernel
theorem dX8_undo_1 : decode cX8_undo 1 = .ok (.iconst 0, 1) := by decide +kernel
theorem dX8_undo_2 : decode cX8_undo 2 = .ok (.putfield 37, 3) := by decide +kernel
theorem dX8_undo_5 : decode cX8_undo 5 = .ok (.aload_n 0, 1) := by decide +kernel
theorem dX8_undo_6 : decode cX8_undo 6 = .ok (.getfield 45, 3) := by decide +kernel
theorem dX8_undo_9 : decode cX8_undo 9 = .ok (.ifCond .ne 9, 3) := by decide +kernel
theorem dX8_undo_12 : decode cX8_undo 12 = .ok (.aload_n 0, 1) := by decide +kernel
theorem dX8_undo_13 : decode cX8_undo 13 = .ok (.iconst 1, 1) := by decide +kernel
theorem dX8_undo_14 : decode cX8_undo 14 = .ok (.invokevirtual 86, 3) := by decide +kernel
theorem dX8_undo_17 : decode cX8_undo 17 = .ok (.ireturn, 1) := by decide +kernel
theorem dX8_undo_18 : decode cX8_undo 18 = .ok (.aload_n 0, 1) := by decide +kernel
theorem dX8_undo_19 : decode cX8_undo 19 = .ok (.dup, 1) := by decide +kernel
theorem dX8_undo_20 : decode cX8_undo 20 = .ok (.getfield 45, 3) := by decide +kernel
theorem dX8_undo_23 : decode cX8_undo 23 = .ok (.iconst 1, 1) := by decide +kernel
theorem dX8_undo_24 : decode cX8_undo 24 = .ok (.isub, 1) := by decide +kernel
theorem dX8_undo_25 : decode cX8_undo 25 = .ok (.putfield 45, 3) := by decide +kernel
theorem dX8_undo_28 : decode cX8_undo 28 = .ok (.iconst 0, 1) := by decide +kernel
theorem dX8_undo_29 : decode cX8_undo 29 = .ok (.istore_n 1, 1) := by decide +kernel
theorem dX8_undo_30 : decode cX8_undo 30 = .ok (.iload_n 1, 1) := by decide +kernel
theorem dX8_undo_31 : decode cX8_undo 31 = .ok (.bipush 19, 2) := by decide +kernel
theorem dX8_undo_33 : decode cX8_undo 33 = .ok (.if_icmp .ge 29, 3) := by decide +kernel
theorem dX8_undo_36 : decode cX8_undo 36 = .ok (.aload_n 0, 1) := by decide +kernel
theorem dX8_undo_37 : decode cX8_undo 37 = .ok (.getfield 7, 3) := by decide +kernel
theorem dX8_undo_40 : decode cX8_undo 40 = .ok (.iload_n 1, 1) := by decide +kernel
theorem dX8_undo_41 : decode cX8_undo 41 = .ok (.aload_n 0, 1) := by decide +kernel
theorem dX8_undo_42 : decode cX8_undo 42 = .ok (.getfield 13, 3) := by decide +kernel
theorem dX8_undo_45 : decode cX8_undo 45 = .ok (.bipush 19, 2) := by decide +kernel
theorem dX8_undo_47 : decode cX8_undo 47 = .ok (.aload_n 0, 1) := by decide +kernel
theorem dX8_undo_48 : decode cX8_undo 48 = .ok (.getfield 45, 3) := by decide +kernel
theorem dX8_undo_51 : decode cX8_undo 51 = .ok (.imul, 1) := by decide +kernel
theorem dX8_undo_52 : decode cX8_undo 52 = .ok (.iload_n 1, 1) := by decide +kernel
theorem dX8_undo_53 : decode cX8_undo 53 = .ok (.iadd, 1) := by decide +kernel
theorem dX8_undo_54 : decode cX8_undo 54 = .ok (.iaload, 1) := by decide +kernel
theorem dX8_undo_55 : decode cX8_undo 55 = .ok (.iastore, 1) := by decide +kernel
theorem dX8_undo_56 : decode cX8_undo 56 = .ok (.iinc 1 1, 3) := by decide +kernel
theorem dX8_undo_59 : decode cX8_undo 59 = .ok (.goto (-29), 3) := by decide +kernel
theorem dX8_undo_62 : decode cX8_undo 62 = .ok (.aload_n 0, 1) := by decide +kernel
theorem dX8_undo_63 : decode cX8_undo 63 = .ok (.getfield 45, 3) := by decide +kernel
theorem dX8_undo_66 : decode cX8_undo 66 = .ok (.ireturn, 1) := by decide +kernel
set_option maxRecDepth 20000 in
theorem ggX8_type_X8_in : GoodIn wsX8_type wsX8_in := goodIn_r _ [7] (by decide +kernel) (by decide +kernel)
set_option maxRecDepth 20000 in
theorem gX8_type_X8_in : GoodIn wsX8_type (va_wsS RX8 48 yX8_in wsX8_in) := goodIn_app (goodIn_of _ (by decide +kernel)) ggX8_type_X8_in
set_option maxRecDepth 20000 in
theorem ggX8_type_X8_fails : GoodIn wsX8_type wsX8_fails := goodIn_r _ [11, 1, 12, 13, 14, 15, 16, 17, 18, 19, 20, 21, 22, 23, 24, 25, 26, 27, 28, 29, 30, 31, 32] (by decide +kernel) (by decide +kernel)
set_option maxRecDepth 20000 in
theorem gX8_type_X8_fails : GoodIn wsX8_type (wsV RX8 86 RX8 yX8_fails wsX8_fails) := goodIn_app (goodIn_of _ (by decide +kernel)) ggX8_type_X8_fails
theorem dX8_type_0 : decode cX8_type 0 = .ok (.aload_n 0, 1) := by decide +kernel
theorem dX8_type_1 : decode cX8_type 1 = .ok (.iconst 0, 1) := by decide +kernel
theorem dX8_type_2 : decode cX8_type 2 = .ok (.putfield 37, 3) := by decide +kernel
theorem dX8_type_5 : decode cX8_type 5 = .ok (.iload_n 1, 1) := by decide +kernel
theorem dX8_type_6 : decode cX8_type 6 = .ok (.bipush 32, 2) := by decide +kernel
theorem dX8_type_8 : decode cX8_type 8 = .ok (.bipush 126, 2) := by decide +kernel
theorem dX8_type_10 : decode cX8_type 10 = .ok (.invokestatic 48, 3) := by decide +kernel
theorem dX8_type_13 : decode cX8_type 13 = .ok (.ifCond .ne 9, 3) := by decide +kernel
theorem dX8_type_16 : decode cX8_type 16 = .ok (.aload_n 0, 1) := by decide +kernel
theorem dX8_type_17 : decode cX8_type 17 = .ok (.iconst 1, 1) := by decide +kernel
theorem dX8_type_18 : decode cX8_type 18 = .ok (.invokevirtual 86, 3) := by decide +kernel
theorem dX8_type_21 : decode cX8_type 21 = .ok (.ireturn, 1) := by decide +kernel
theorem dX8_type_22 : decode cX8_type 22 = .ok (.aload_n 0, 1) := by decide +kernel
theorem dX8_type_23 : decode cX8_type 23 = .ok (.getfield 156, 3) := by decide +kernel
theorem dX8_type_26 : decode cX8_type 26 = .ok (.bipush 60, 2) := by decide +kernel
theorem dX8_type_28 : decode cX8_type 28 = .ok (.if_icmp .ne 9, 3) := by decide +kernel
theorem dX8_type_31 : decode cX8_type 31 = .ok (.aload_n 0, 1) := by decide +kernel
theorem dX8_type_32 : decode cX8_type 32 = .ok (.iconst 2, 1) := by decide +kernel
theorem dX8_type_33 : decode cX8_type 33 = .ok (.invokevirtual 86, 3) := by decide +kernel
theorem dX8_type_36 : decode cX8_type 36 = .ok (.ireturn, 1) := by decide +kernel
theorem dX8_type_37 : decode cX8_type 37 = .ok (.aload_n 0, 1) := by decide +kernel
theorem dX8_type_38 : decode cX8_type 38 = .ok (.getfield 31, 3) := by decide +kernel
theorem dX8_type_41 : decode cX8_type 41 = .ok (.aload_n 0, 1) := by decide +kernel
theorem dX8_type_42 : decode cX8_type 42 = .ok (.getfield 156, 3) := by decide +kernel
theorem dX8_type_45 : decode cX8_type 45 = .ok (.iload_n 1, 1) := by decide +kernel
theorem dX8_type_46 : decode cX8_type 46 = .ok (.iastore, 1) := by decide +kernel
theorem dX8_type_47 : decode cX8_type 47 = .ok (.aload_n 0, 1) := by decide +kernel
theorem dX8_type_48 : decode cX8_type 48 = .ok (.dup, 1) := by decide +kernel
theorem dX8_type_49 : decode cX8_type 49 = .ok (.getfield 156, 3) := by decide +kernel
theorem dX8_type_52 : decode cX8_type 52 = .ok (.iconst 1, 1) := by decide +kernel
theorem dX8_type_53 : decode cX8_type 53 = .ok (.iadd, 1) := by decide +kernel
theorem dX8_type_54 : decode cX8_type 54 = .ok (.putfield 156, 3) := by decide +kernel
theorem dX8_type_57 : decode cX8_type 57 = .ok (.aload_n 0, 1) := by decide +kernel
theorem dX8_type_58 : decode cX8_type 58 = .ok (.getfield 156, 3) := by decide +kernel
theorem dX8_type_61 : decode cX8_type 61 = .ok (.ireturn, 1) := by decide +kernel
theorem dX8_clearText_0 : decode cX8_clearText 0 = .ok (.aload_n 0, 1) := by decide +kernel
theorem dX8_clearText_1 : decode cX8_clearText 1 = .ok (.iconst 0, 1) := by decide +kernel
theorem dX8_clearText_2 : decode cX8_clearText 2 = .ok (.putfield 37, 3) := by decide +kernel
theorem dX8_clearText_5 : decode cX8_clearText 5 = .ok (.aload_n 0, 1) := by decide +kernel
theorem dX8_clearText_6 : decode cX8_clearText 6 = .ok (.getfield 156, 3) := by decide +kernel
theorem dX8_clearText_9 : decode cX8_clearText 9 = .ok (.istore_n 1, 1) := by decide +kernel
theorem dX8_clearText_10 : decode cX8_clearText 10 = .ok (.aload_n 0, 1) := by decide +kernel
theorem dX8_clearText_11 : decode cX8_clearText 11 = .ok (.iconst 0, 1) := by decide +kernel
theorem dX8_clearText_12 : decode cX8_clearText 12 = .ok (.putfield 156, 3) := by decide +kernel
theorem dX8_clearText_15 : decode cX8_clearText 15 = .ok (.iload_n 1, 1) := by decide +kernel
theorem dX8_clearText_16 : decode cX8_clearText 16 = .ok (.ireturn, 1) := by decide +kernel
set_option maxRecDepth 20000 in
theorem ggX8_isAt_X8_in : GoodIn wsX8_isAt wsX8_in := goodIn_r _ [7] (by decide +kernel) (by decide +kernel)
set_option maxRecDepth 20000 in
theorem gX8_isAt_X8_in : GoodIn wsX8_isAt (va_wsS RX8 48 yX8_in wsX8_in) := goodIn_app (goodIn_of _ (by decide +kernel)) ggX8_isAt_X8_in
theorem dX8_isAt_0 : decode cX8_isAt 0 = .ok (.aload_n 0, 1) := by decide +kernel
theorem dX8_isAt_1 : decode cX8_isAt 1 = .ok (.getfield 159, 3) := by decide +kernel
theorem dX8_isAt_4 : decode cX8_isAt 4 = .ok (.aload_n 0, 1) := by decide +kernel
theorem dX8_isAt_5 : decode cX8_isAt 5 = .ok (.getfield 156, 3) := by decide +kernel
theorem dX8_isAt_8 : decode cX8_isAt 8 = .ok (.if_icmp .ge 24, 3) := by decide +kernel
theorem dX8_isAt_11 : decode cX8_isAt 11 = .ok (.aload_n 0, 1) := by decide +kernel
theorem dX8_isAt_12 : decode cX8_isAt 12 = .ok (.getfield 31, 3) := by decide +kernel
theorem dX8_isAt_15 : decode cX8_isAt 15 = .ok (.aload_n 0, 1) := by decide +kernel
theorem dX8_isAt_16 : decode cX8_isAt 16 = .ok (.getfield 159, 3) := by decide +kernel
theorem dX8_isAt_19 : decode cX8_isAt 19 = .ok (.iaload, 1) := by decide +kernel
theorem dX8_isAt_20 : decode cX8_isAt 20 = .ok (.iload_n 1, 1) := by decide +kernel
theorem dX8_isAt_21 : decode cX8_isAt 21 = .ok (.iload_n 2, 1) := by decide +kernel
theorem dX8_isAt_22 : decode cX8_isAt 22 = .ok (.invokestatic 48, 3) := by decide +kernel
theorem dX8_isAt_25 : decode cX8_isAt 25 = .ok (.ifCond .eq 7, 3) := by decide +kernel
theorem dX8_isAt_28 : decode cX8_isAt 28 = .ok (.iconst 1, 1) := by decide +kernel
theorem dX8_isAt_29 : decode cX8_isAt 29 = .ok (.goto 4, 3) := by decide +kernel
theorem dX8_isAt_32 : decode cX8_isAt 32 = .ok (.iconst 0, 1) := by decide +kernel
theorem dX8_isAt_33 : decode cX8_isAt 33 = .ok (.ireturn, 1) := by decide +kernel
set_option maxRecDepth 20000 in
theorem ggX8_sign_X8_isAt : GoodIn wsX8_sign wsX8_isAt := goodIn_r _ [6, 1, 7, 8, 9, 10, 5, 11, 12, 13, 14, 15, 16, 17, 18, 19, 20, 21, 22, 23, 24, 25, 26, 27, 28, 29, 30, 31, 32] (by decide +kernel) (by decide +kernel)
set_option maxRecDepth 20000 in
theorem gX8_sign_X8_isAt : GoodIn wsX8_sign (wsV RX8 162 RX8 yX8_isAt wsX8_isAt) := goodIn_app (goodIn_of _ (by decide +kernel)) ggX8_sign_X8_isAt
theorem dX8_sign_0 : decode cX8_sign 0 = .ok (.aload_n 0, 1) := by decide +kernel
theorem dX8_sign_1 : decode cX8_sign 1 = .ok (.iload_n 1, 1) := by decide +kernel
theorem dX8_sign_2 : decode cX8_sign 2 = .ok (.iload_n 1, 1) := by decide +kernel
theorem dX8_sign_3 : decode cX8_sign 3 = .ok (.invokevirtual 162, 3) := by decide +kernel
theorem dX8_sign_6 : decode cX8_sign 6 = .ok (.istore_n 2, 1) := by decide +kernel
theorem dX8_sign_7 : decode cX8_sign 7 = .ok (.aload_n 0, 1) := by decide +kernel
theorem dX8_sign_8 : decode cX8_sign 8 = .ok (.dup, 1) := by decide +kernel
theorem dX8_sign_9 : decode cX8_sign 9 = .ok (.getfield 159, 3) := by decide +kernel
theorem dX8_sign_12 : decode cX8_sign 12 = .ok (.iload_n 2, 1) := by decide +kernel
theorem dX8_sign_13 : decode cX8_sign 13 = .ok (.ifCond .eq 7, 3) := by decide +kernel
theorem dX8_sign_16 : decode cX8_sign 16 = .ok (.iconst 1, 1) := by decide +kernel
theorem dX8_sign_17 : decode cX8_sign 17 = .ok (.goto 4, 3) := by decide +kernel
theorem dX8_sign_20 : decode cX8_sign 20 = .ok (.iconst 0, 1) := by decide +kernel
theorem dX8_sign_21 : decode cX8_sign 21 = .ok (.iadd, 1) := by decide +kernel
theorem dX8_sign_22 : decode cX8_sign 22 = .ok (.putfield 159, 3) := by decide +kernel
theorem dX8_sign_25 : decode cX8_sign 25 = .ok (.iload_n 2, 1) := by decide +kernel
theorem dX8_sign_26 : decode cX8_sign 26 = .ok (.ireturn, 1) := by decide +kernel
set_option maxRecDepth 20000 in
theorem ggX8_numbered_X8_isAt : GoodIn wsX8_numbered wsX8_isAt := goodIn_r _ [8, 1, 9, 3, 10, 11, 7, 12, 13, 14, 15, 16, 17, 18, 19, 20, 21, 22, 23, 24, 25, 26, 27, 28, 29, 30, 31, 32, 33] (by decide +kernel) (by decide +kernel)
set_option maxRecDepth 20000 in
theorem gX8_numbered_X8_isAt : GoodIn wsX8_numbered (wsV RX8 162 RX8 yX8_isAt wsX8_isAt) := goodIn_app (goodIn_of _ (by decide +kernel)) ggX8_numbered_X8_isAt
theorem dX8_numbered_0 : decode cX8_numbered 0 = .ok (.aload_n 0, 1) := by decide +kernel
theorem dX8_numbered_1 : decode cX8_numbered 1 = .ok (.getfield 159, 3) := by decide +kernel
theorem dX8_numbered_4 : decode cX8_numbered 4 = .ok (.istore_n 2, 1) := by decide +kernel
theorem dX8_numbered_5 : decode cX8_numbered 5 = .ok (.aload_n 0, 1) := by decide +kernel
theorem dX8_numbered_6 : decode cX8_numbered 6 = .ok (.getfield 34, 3) := by decide +kernel
theorem dX8_numbered_9 : decode cX8_numbered 9 = .ok (.iload_n 1, 1) := by decide +kernel
theorem dX8_numbered_10 : decode cX8_numbered 10 = .ok (.iconst 0, 1) := by decide +kernel
theorem dX8_numbered_11 : decode cX8_numbered 11 = .ok (.iastore, 1) := by decide +kernel
theorem dX8_numbered_12 : decode cX8_numbered 12 = .ok (.aload_n 0, 1) := by decide +kernel
theorem dX8_numbered_13 : decode cX8_numbered 13 = .ok (.bipush 48, 2) := by decide +kernel
theorem dX8_numbered_15 : decode cX8_numbered 15 = .ok (.bipush 57, 2) := by decide +kernel
theorem dX8_numbered_17 : decode cX8_numbered 17 = .ok (.invokevirtual 162, 3) := by decide +kernel
theorem dX8_numbered_20 : decode cX8_numbered 20 = .ok (.ifCond .eq 54, 3) := by decide +kernel
theorem dX8_numbered_23 : decode cX8_numbered 23 = .ok (.aload_n 0, 1) := by decide +kernel
theorem dX8_numbered_24 : decode cX8_numbered 24 = .ok (.getfield 159, 3) := by decide +kernel
theorem dX8_numbered_27 : decode cX8_numbered 27 = .ok (.iload_n 2, 1) := by decide +kernel
theorem dX8_numbered_28 : decode cX8_numbered 28 = .ok (.isub, 1) := by decide +kernel
theorem dX8_numbered_29 : decode cX8_numbered 29 = .ok (.iconst 2, 1) := by decide +kernel
theorem dX8_numbered_30 : decode cX8_numbered 30 = .ok (.if_icmp .ge 44, 3) := by decide +kernel
theorem dX8_numbered_33 : decode cX8_numbered 33 = .ok (.aload_n 0, 1) := by decide +kernel
theorem dX8_numbered_34 : decode cX8_numbered 34 = .ok (.getfield 34, 3) := by decide +kernel
theorem dX8_numbered_37 : decode cX8_numbered 37 = .ok (.iload_n 1, 1) := by decide +kernel
theorem dX8_numbered_38 : decode cX8_numbered 38 = .ok (.bipush 10, 2) := by decide +kernel
theorem dX8_numbered_40 : decode cX8_numbered 40 = .ok (.aload_n 0, 1) := by decide +kernel
theorem dX8_numbered_41 : decode cX8_numbered 41 = .ok (.getfield 34, 3) := by decide +kernel
theorem dX8_numbered_44 : decode cX8_numbered 44 = .ok (.iload_n 1, 1) := by decide +kernel
theorem dX8_numbered_45 : decode cX8_numbered 45 = .ok (.iaload, 1) := by decide +kernel
theorem dX8_numbered_46 : decode cX8_numbered 46 = .ok (.imul, 1) := by decide +kernel
theorem dX8_numbered_47 : decode cX8_numbered 47 = .ok (.aload_n 0, 1) := by decide +kernel
theorem dX8_numbered_48 : decode cX8_numbered 48 = .ok (.getfield 31, 3) := by decide +kernel
theorem dX8_numbered_51 : decode cX8_numbered 51 = .ok (.aload_n 0, 1) := by decide +kernel
theorem dX8_numbered_52 : decode cX8_numbered 52 = .ok (.getfield 159, 3) := by decide +kernel
theorem dX8_numbered_55 : decode cX8_numbered 55 = .ok (.iaload, 1) := by decide +kernel
theorem dX8_numbered_56 : decode cX8_numbered 56 = .ok (.iadd, 1) := by decide +kernel
theorem dX8_numbered_57 : decode cX8_numbered 57 = .ok (.bipush 48, 2) := by decide +kernel
theorem dX8_numbered_59 : decode cX8_numbered 59 = .ok (.isub, 1) := by decide +kernel
theorem dX8_numbered_60 : decode cX8_numbered 60 = .ok (.iastore, 1) := by decide +kernel
theorem dX8_numbered_61 : decode cX8_numbered 61 = .ok (.aload_n 0, 1) := by decide +kernel
theorem dX8_numbered_62 : decode cX8_numbered 62 = .ok (.dup, 1) := by decide +kernel
theorem dX8_numbered_63 : decode cX8_numbered 63 = .ok (.getfield 159, 3) := by decide +kernel
theorem dX8_numbered_66 : decode cX8_numbered 66 = .ok (.iconst 1, 1) := by decide +kernel
theorem dX8_numbered_67 : decode cX8_numbered 67 = .ok (.iadd, 1) := by decide +kernel
theorem dX8_numbered_68 : decode cX8_numbered 68 = .ok (.putfield 159, 3) := by decide +kernel
theorem dX8_numbered_71 : decode cX8_numbered 71 = .ok (.goto (-59), 3) := by decide +kernel
theorem dX8_numbered_74 : decode cX8_numbered 74 = .ok (.aload_n 0, 1) := by decide +kernel
theorem dX8_numbered_75 : decode cX8_numbered 75 = .ok (.getfield 159, 3) := by decide +kernel
theorem dX8_numbered_78 : decode cX8_numbered 78 = .ok (.iload_n 2, 1) := by decide +kernel
theorem dX8_numbered_79 : decode cX8_numbered 79 = .ok (.if_icmp .le 7, 3) := by decide +kernel
theorem dX8_numbered_82 : decode cX8_numbered 82 = .ok (.iconst 1, 1) := by decide +kernel
theorem dX8_numbered_83 : decode cX8_numbered 83 = .ok (.goto 4, 3) := by decide +kernel
theorem dX8_numbered_86 : decode cX8_numbered 86 = .ok (.iconst 0, 1) := by decide +kernel
theorem dX8_numbered_87 : decode cX8_numbered 87 = .ok (.ireturn, 1) := by decide +kernel
set_option maxRecDepth 20000 in
theorem ggX8_parses_X8_isAt : GoodIn wsX8_parses wsX8_isAt := goodIn_r _ [8, 2, 9, 1, 10, 11, 7, 12, 22, 23, 24, 25, 26, 27, 28, 29, 30, 31, 32, 33, 34, 35, 36, 37, 38, 39, 40, 41, 42] (by decide +kernel) (by decide +kernel)
set_option maxRecDepth 20000 in
theorem gX8_parses_X8_isAt : GoodIn wsX8_parses (wsV RX8 162 RX8 yX8_isAt wsX8_isAt) := goodIn_app (goodIn_of _ (by decide +kernel)) ggX8_parses_X8_isAt
set_option maxRecDepth 20000 in
theorem ggX8_parses_X8_sign : GoodIn wsX8_parses wsX8_sign := goodIn_r _ [16, 2, 4, 5, 6, 7, 8, 9, 1, 10, 11, 12, 22, 23, 24, 25, 26, 27, 28, 29, 30, 31, 32, 33, 34, 35, 36, 37, 38, 39, 40, 41, 42] (by decide +kernel) (by decide +kernel)
set_option maxRecDepth 20000 in
theorem gX8_parses_X8_sign : GoodIn wsX8_parses (wsV RX8 168 RX8 yX8_sign wsX8_sign) := goodIn_app (goodIn_of _ (by decide +kernel)) ggX8_parses_X8_sign
set_option maxRecDepth 20000 in
theorem ggX8_parses_X8_numbered : GoodIn wsX8_parses wsX8_numbered := goodIn_r _ [20, 2, 21, 1, 4, 5, 6, 7, 8, 9, 10, 11, 12, 22, 23, 24, 25, 26, 27, 28, 29, 30, 31, 32, 33, 34, 35, 36, 37, 38, 39, 40, 41, 42] (by decide +kernel) (by decide +kernel)
set_option maxRecDepth 20000 in
theorem gX8_parses_X8_numbered : GoodIn wsX8_parses (wsV RX8 171 RX8 yX8_numbered wsX8_numbered) := goodIn_app (goodIn_of _ (by decide +kernel)) ggX8_parses_X8_numbered
theorem dX8_parses_0 : decode cX8_parses 0 = .ok (.aload_n 0, 1) := by decide +kernel
theorem dX8_parses_1 : decode cX8_parses 1 = .ok (.aload_n 0, 1) := by decide +kernel
theorem dX8_parses_2 : decode cX8_parses 2 = .ok (.bipush 33, 2) := by decide +kernel
theorem dX8_parses_4 : decode cX8_parses 4 = .ok (.bipush 126, 2) := by decide +kernel
theorem dX8_parses_6 : decode cX8_parses 6 = .ok (.invokevirtual 162, 3) := by decide +kernel
theorem dX8_parses_9 : decode cX8_parses 9 = .ok (.ifCond .eq 15, 3) := by decide +kernel
theorem dX8_parses_12 : decode cX8_parses 12 = .ok (.aload_n 0, 1) := by decide +kernel
theorem dX8_parses_13 : decode cX8_parses 13 = .ok (.getfield 31, 3) := by decide +kernel
theorem dX8_parses_16 : decode cX8_parses 16 = .ok (.aload_n 0, 1) := by decide +kernel
theorem dX8_parses_17 : decode cX8_parses 17 = .ok (.getfield 159, 3) := by decide +kernel
theorem dX8_parses_20 : decode cX8_parses 20 = .ok (.iaload, 1) := by decide +kernel
theorem dX8_parses_21 : decode cX8_parses 21 = .ok (.goto 4, 3) := by decide +kernel
theorem dX8_parses_24 : decode cX8_parses 24 = .ok (.iconst 0, 1) := by decide +kernel
theorem dX8_parses_25 : decode cX8_parses 25 = .ok (.putfield 165, 3) := by decide +kernel
theorem dX8_parses_28 : decode cX8_parses 28 = .ok (.aload_n 0, 1) := by decide +kernel
theorem dX8_parses_29 : decode cX8_parses 29 = .ok (.getfield 165, 3) := by decide +kernel
theorem dX8_parses_32 : decode cX8_parses 32 = .ok (.lookupswitch 78 #[(102, 45), (110, 28)], 28) := by decide +kernel
theorem dX8_parses_60 : decode cX8_parses 60 = .ok (.aload_n 0, 1) := by decide +kernel
theorem dX8_parses_61 : decode cX8_parses 61 = .ok (.dup, 1) := by decide +kernel
theorem dX8_parses_62 : decode cX8_parses 62 = .ok (.getfield 159, 3) := by decide +kernel
theorem dX8_parses_65 : decode cX8_parses 65 = .ok (.iconst 1, 1) := by decide +kernel
theorem dX8_parses_66 : decode cX8_parses 66 = .ok (.iadd, 1) := by decide +kernel
theorem dX8_parses_67 : decode cX8_parses 67 = .ok (.putfield 159, 3) := by decide +kernel
theorem dX8_parses_70 : decode cX8_parses 70 = .ok (.aload_n 0, 1) := by decide +kernel
theorem dX8_parses_71 : decode cX8_parses 71 = .ok (.bipush 59, 2) := by decide +kernel
theorem dX8_parses_73 : decode cX8_parses 73 = .ok (.invokevirtual 168, 3) := by decide +kernel
theorem dX8_parses_76 : decode cX8_parses 76 = .ok (.ireturn, 1) := by decide +kernel
theorem dX8_parses_77 : decode cX8_parses 77 = .ok (.aload_n 0, 1) := by decide +kernel
theorem dX8_parses_78 : decode cX8_parses 78 = .ok (.dup, 1) := by decide +kernel
theorem dX8_parses_79 : decode cX8_parses 79 = .ok (.getfield 159, 3) := by decide +kernel
theorem dX8_parses_82 : decode cX8_parses 82 = .ok (.iconst 1, 1) := by decide +kernel
theorem dX8_parses_83 : decode cX8_parses 83 = .ok (.iadd, 1) := by decide +kernel
theorem dX8_parses_84 : decode cX8_parses 84 = .ok (.putfield 159, 3) := by decide +kernel
theorem dX8_parses_87 : decode cX8_parses 87 = .ok (.aload_n 0, 1) := by decide +kernel
theorem dX8_parses_88 : decode cX8_parses 88 = .ok (.iconst 0, 1) := by decide +kernel
theorem dX8_parses_89 : decode cX8_parses 89 = .ok (.invokevirtual 171, 3) := by decide +kernel
theorem dX8_parses_92 : decode cX8_parses 92 = .ok (.ifCond .eq 16, 3) := by decide +kernel
theorem dX8_parses_95 : decode cX8_parses 95 = .ok (.aload_n 0, 1) := by decide +kernel
theorem dX8_parses_96 : decode cX8_parses 96 = .ok (.bipush 59, 2) := by decide +kernel
theorem dX8_parses_98 : decode cX8_parses 98 = .ok (.invokevirtual 168, 3) := by decide +kernel
theorem dX8_parses_101 : decode cX8_parses 101 = .ok (.ifCond .eq 7, 3) := by decide +kernel
theorem dX8_parses_104 : decode cX8_parses 104 = .ok (.iconst 1, 1) := by decide +kernel
theorem dX8_parses_105 : decode cX8_parses 105 = .ok (.goto 4, 3) := by decide +kernel
theorem dX8_parses_108 : decode cX8_parses 108 = .ok (.iconst 0, 1) := by decide +kernel
theorem dX8_parses_109 : decode cX8_parses 109 = .ok (.ireturn, 1) := by decide +kernel
theorem dX8_parses_110 : decode cX8_parses 110 = .ok (.iconst 0, 1) := by decide +kernel
theorem dX8_parses_111 : decode cX8_parses 111 = .ok (.ireturn, 1) := by decide +kernel
set_option maxRecDepth 20000 in
theorem ggX8_does_X8_newGame : GoodIn wsX8_does wsX8_newGame := goodIn_r _ [8, 3, 9, 10, 11, 12, 7, 13, 14, 15, 16, 61, 62, 63, 64, 65, 66, 67, 68, 69, 70, 71, 72, 73, 74, 75, 76, 77, 78, 79, 80, 81] (by decide +kernel) (by decide +kernel)
set_option maxRecDepth 20000 in
theorem gX8_does_X8_newGame : GoodIn wsX8_does (wsV RX8 174 RX8 yX8_newGame wsX8_newGame) := goodIn_app (goodIn_of _ (by decide +kernel)) ggX8_does_X8_newGame
set_option maxRecDepth 20000 in
theorem ggX8_does_X8_draw : GoodIn wsX8_does wsX8_draw := goodIn_r _ [20, 3, 9, 21, 22, 7, 23, 24, 25, 26, 27, 28, 29, 30, 31, 32, 33, 34, 35, 36, 37, 10, 11, 12, 13, 14, 15, 16, 38, 39, 40, 41, 42, 43, 44, 45, 46, 47, 48, 49, 50, 51, 52, 53, 54, 55, 56, 57, 58, 59, 60, 61, 62, 63, 64, 65, 66, 67, 68, 69, 70, 71, 72, 73, 74, 75, 76, 77, 78, 79, 80, 81] (by decide +kernel) (by decide +kernel)
set_option maxRecDepth 20000 in
theorem gX8_does_X8_draw : GoodIn wsX8_does (wsV RX8 177 RX8 yX8_draw wsX8_draw) := goodIn_app (goodIn_of _ (by decide +kernel)) ggX8_does_X8_draw
theorem dX8_does_0 : decode cX8_does 0 = .ok (.aload_n 0, 1) := by decide +kernel
theorem dX8_does_1 : decode cX8_does 1 = .ok (.getfield 165, 3) := by decide +kernel
theorem dX8_does_4 : decode cX8_does 4 = .ok (.bipush 110, 2) := by decide +kernel
theorem dX8_does_6 : decode cX8_does 6 = .ok (.if_icmp .ne 10, 3) := by decide +kernel
theorem dX8_does_9 : decode cX8_does 9 = .ok (.aload_n 0, 1) := by decide +kernel
theorem dX8_does_10 : decode cX8_does 10 = .ok (.invokevirtual 174, 3) := by decide +kernel
theorem dX8_does_13 : decode cX8_does 13 = .ok (.goto 13, 3) := by decide +kernel
theorem dX8_does_16 : decode cX8_does 16 = .ok (.aload_n 0, 1) := by decide +kernel
theorem dX8_does_17 : decode cX8_does 17 = .ok (.aload_n 0, 1) := by decide +kernel
theorem dX8_does_18 : decode cX8_does 18 = .ok (.getfield 34, 3) := by decide +kernel
theorem dX8_does_21 : decode cX8_does 21 = .ok (.iconst 0, 1) := by decide +kernel
theorem dX8_does_22 : decode cX8_does 22 = .ok (.iaload, 1) := by decide +kernel
theorem dX8_does_23 : decode cX8_does 23 = .ok (.invokevirtual 177, 3) := by decide +kernel
theorem dX8_does_26 : decode cX8_does 26 = .ok (.istore_n 1, 1) := by decide +kernel
theorem dX8_does_27 : decode cX8_does 27 = .ok (.iload_n 1, 1) := by decide +kernel
theorem dX8_does_28 : decode cX8_does 28 = .ok (.ifCond .ge 7, 3) := by decide +kernel
theorem dX8_does_31 : decode cX8_does 31 = .ok (.iconst 2, 1) := by decide +kernel
theorem dX8_does_32 : decode cX8_does 32 = .ok (.goto 7, 3) := by decide +kernel
theorem dX8_does_35 : decode cX8_does 35 = .ok (.aload_n 0, 1) := by decide +kernel
theorem dX8_does_36 : decode cX8_does 36 = .ok (.getfield 37, 3) := by decide +kernel
theorem dX8_does_39 : decode cX8_does 39 = .ok (.ireturn, 1) := by decide +kernel
set_option maxRecDepth 20000 in
theorem ggX8_plays_X8_parses : GoodIn wsX8_plays wsX8_parses := goodIn_r _ [13, 14, 2, 15, 16, 17, 18, 12, 19, 5, 20, 21, 22, 23, 24, 25, 26, 27, 28, 29, 30, 31, 88, 89, 90, 91, 92, 93, 94, 95, 96, 97, 98, 99, 100, 101, 102, 103, 104, 105, 106, 107, 108] (by decide +kernel) (by decide +kernel)
set_option maxRecDepth 20000 in
theorem gX8_plays_X8_parses : GoodIn wsX8_plays (wsV RX8 186 RX8 yX8_parses wsX8_parses) := goodIn_app (goodIn_of _ (by decide +kernel)) ggX8_plays_X8_parses
set_option maxRecDepth 20000 in
theorem ggX8_plays_X8_does : GoodIn wsX8_plays wsX8_does := goodIn_r _ [35, 15, 31, 8, 36, 37, 38, 12, 39, 40, 41, 42, 43, 44, 1, 45, 46, 47, 48, 49, 50, 51, 52, 53, 20, 21, 22, 54, 55, 56, 57, 58, 59, 60, 61, 62, 63, 64, 65, 66, 67, 68, 69, 70, 71, 72, 73, 74, 75, 76, 77, 78, 79, 80, 81, 82, 83, 84, 85, 86, 87, 88, 89, 90, 91, 92, 93, 94, 95, 96, 97, 98, 99, 100, 101, 102, 103, 104, 105, 106, 107, 108] (by decide +kernel) (by decide +kernel)
set_option maxRecDepth 20000 in
theorem gX8_plays_X8_does : GoodIn wsX8_plays (wsV RX8 189 RX8 yX8_does wsX8_does) := goodIn_app (goodIn_of _ (by decide +kernel)) ggX8_plays_X8_does
theorem dX8_plays_0 : decode cX8_plays 0 = .ok (.aload_n 0, 1) := by decide +kernel
theorem dX8_plays_1 : decode cX8_plays 1 = .ok (.iconst 1, 1) := by decide +kernel
theorem dX8_plays_2 : decode cX8_plays 2 = .ok (.putfield 41, 3) := by decide +kernel
theorem dX8_plays_5 : decode cX8_plays 5 = .ok (.aload_n 0, 1) := by decide +kernel
theorem dX8_plays_6 : decode cX8_plays 6 = .ok (.iconst 0, 1) := by decide +kernel
theorem dX8_plays_7 : decode cX8_plays 7 = .ok (.putfield 159, 3) := by decide +kernel
theorem dX8_plays_10 : decode cX8_plays 10 = .ok (.aload_n 0, 1) := by decide +kernel
theorem dX8_plays_11 : decode cX8_plays 11 = .ok (.iconst 0, 1) := by decide +kernel
theorem dX8_plays_12 : decode cX8_plays 12 = .ok (.putfield 180, 3) := by decide +kernel
theorem dX8_plays_15 : decode cX8_plays 15 = .ok (.aload_n 0, 1) := by decide +kernel
theorem dX8_plays_16 : decode cX8_plays 16 = .ok (.iconst 0, 1) := by decide +kernel
theorem dX8_plays_17 : decode cX8_plays 17 = .ok (.putfield 183, 3) := by decide +kernel
theorem dX8_plays_20 : decode cX8_plays 20 = .ok (.iconst 1, 1) := by decide +kernel
theorem dX8_plays_21 : decode cX8_plays 21 = .ok (.istore_n 1, 1) := by decide +kernel
theorem dX8_plays_22 : decode cX8_plays 22 = .ok (.aload_n 0, 1) := by decide +kernel
theorem dX8_plays_23 : decode cX8_plays 23 = .ok (.getfield 159, 3) := by decide +kernel
theorem dX8_plays_26 : decode cX8_plays 26 = .ok (.aload_n 0, 1) := by decide +kernel
theorem dX8_plays_27 : decode cX8_plays 27 = .ok (.getfield 156, 3) := by decide +kernel
theorem dX8_plays_30 : decode cX8_plays 30 = .ok (.if_icmp .ge 94, 3) := by decide +kernel
theorem dX8_plays_33 : decode cX8_plays 33 = .ok (.iload_n 1, 1) := by decide +kernel
theorem dX8_plays_34 : decode cX8_plays 34 = .ok (.ifCond .eq 90, 3) := by decide +kernel
theorem dX8_plays_37 : decode cX8_plays 37 = .ok (.aload_n 0, 1) := by decide +kernel
theorem dX8_plays_38 : decode cX8_plays 38 = .ok (.aload_n 0, 1) := by decide +kernel
theorem dX8_plays_39 : decode cX8_plays 39 = .ok (.getfield 159, 3) := by decide +kernel
theorem dX8_plays_42 : decode cX8_plays 42 = .ok (.putfield 180, 3) := by decide +kernel
theorem dX8_plays_45 : decode cX8_plays 45 = .ok (.aload_n 0, 1) := by decide +kernel
theorem dX8_plays_46 : decode cX8_plays 46 = .ok (.invokevirtual 186, 3) := by decide +kernel
theorem dX8_plays_49 : decode cX8_plays 49 = .ok (.istore_n 2, 1) := by decide +kernel
theorem dX8_plays_50 : decode cX8_plays 50 = .ok (.iload_n 2, 1) := by decide +kernel
theorem dX8_plays_51 : decode cX8_plays 51 = .ok (.ifCond .eq 10, 3) := by decide +kernel
theorem dX8_plays_54 : decode cX8_plays 54 = .ok (.aload_n 0, 1) := by decide +kernel
theorem dX8_plays_55 : decode cX8_plays 55 = .ok (.invokevirtual 189, 3) := by decide +kernel
theorem dX8_plays_58 : decode cX8_plays 58 = .ok (.goto 4, 3) := by decide +kernel
theorem dX8_plays_61 : decode cX8_plays 61 = .ok (.iconst 0, 1) := by decide +kernel
theorem dX8_plays_62 : decode cX8_plays 62 = .ok (.istore_n 3, 1) := by decide +kernel
theorem dX8_plays_63 : decode cX8_plays 63 = .ok (.iload_n 2, 1) := by decide +kernel
theorem dX8_plays_64 : decode cX8_plays 64 = .ok (.ifCond .eq 11, 3) := by decide +kernel
theorem dX8_plays_67 : decode cX8_plays 67 = .ok (.iload_n 3, 1) := by decide +kernel
theorem dX8_plays_68 : decode cX8_plays 68 = .ok (.ifCond .ne 7, 3) := by decide +kernel
theorem dX8_plays_71 : decode cX8_plays 71 = .ok (.iconst 1, 1) := by decide +kernel
theorem dX8_plays_72 : decode cX8_plays 72 = .ok (.goto 4, 3) := by decide +kernel
theorem dX8_plays_75 : decode cX8_plays 75 = .ok (.iconst 0, 1) := by decide +kernel
theorem dX8_plays_76 : decode cX8_plays 76 = .ok (.istore_n 1, 1) := by decide +kernel
theorem dX8_plays_77 : decode cX8_plays 77 = .ok (.aload_n 0, 1) := by decide +kernel
theorem dX8_plays_78 : decode cX8_plays 78 = .ok (.iload_n 2, 1) := by decide +kernel
theorem dX8_plays_79 : decode cX8_plays 79 = .ok (.ifCond .eq 7, 3) := by decide +kernel
theorem dX8_plays_82 : decode cX8_plays 82 = .ok (.iconst 2, 1) := by decide +kernel
theorem dX8_plays_83 : decode cX8_plays 83 = .ok (.goto 4, 3) := by decide +kernel
theorem dX8_plays_86 : decode cX8_plays 86 = .ok (.iconst 1, 1) := by decide +kernel
theorem dX8_plays_87 : decode cX8_plays 87 = .ok (.putfield 192, 3) := by decide +kernel
theorem dX8_plays_90 : decode cX8_plays 90 = .ok (.aload_n 0, 1) := by decide +kernel
theorem dX8_plays_91 : decode cX8_plays 91 = .ok (.iload_n 2, 1) := by decide +kernel
theorem dX8_plays_92 : decode cX8_plays 92 = .ok (.ifCond .eq 7, 3) := by decide +kernel
theorem dX8_plays_95 : decode cX8_plays 95 = .ok (.iload_n 3, 1) := by decide +kernel
theorem dX8_plays_96 : decode cX8_plays 96 = .ok (.goto 12, 3) := by decide +kernel
theorem dX8_plays_99 : decode cX8_plays 99 = .ok (.aload_n 0, 1) := by decide +kernel
theorem dX8_plays_100 : decode cX8_plays 100 = .ok (.getfield 159, 3) := by decide +kernel
theorem dX8_plays_103 : decode cX8_plays 103 = .ok (.aload_n 0, 1) := by decide +kernel
theorem dX8_plays_104 : decode cX8_plays 104 = .ok (.getfield 180, 3) := by decide +kernel
theorem dX8_plays_107 : decode cX8_plays 107 = .ok (.isub, 1) := by decide +kernel
theorem dX8_plays_108 : decode cX8_plays 108 = .ok (.putfield 194, 3) := by decide +kernel
theorem dX8_plays_111 : decode cX8_plays 111 = .ok (.aload_n 0, 1) := by decide +kernel
theorem dX8_plays_112 : decode cX8_plays 112 = .ok (.dup, 1) := by decide +kernel
theorem dX8_plays_113 : decode cX8_plays 113 = .ok (.getfield 183, 3) := by decide +kernel
theorem dX8_plays_116 : decode cX8_plays 116 = .ok (.iconst 1, 1) := by decide +kernel
theorem dX8_plays_117 : decode cX8_plays 117 = .ok (.iadd, 1) := by decide +kernel
theorem dX8_plays_118 : decode cX8_plays 118 = .ok (.putfield 183, 3) := by decide +kernel
theorem dX8_plays_121 : decode cX8_plays 121 = .ok (.goto (-99), 3) := by decide +kernel
theorem dX8_plays_124 : decode cX8_plays 124 = .ok (.aload_n 0, 1) := by decide +kernel
theorem dX8_plays_125 : decode cX8_plays 125 = .ok (.iconst 0, 1) := by decide +kernel
theorem dX8_plays_126 : decode cX8_plays 126 = .ok (.putfield 41, 3) := by decide +kernel
theorem dX8_plays_129 : decode cX8_plays 129 = .ok (.aload_n 0, 1) := by decide +kernel
theorem dX8_plays_130 : decode cX8_plays 130 = .ok (.iconst 0, 1) := by decide +kernel
theorem dX8_plays_131 : decode cX8_plays 131 = .ok (.putfield 37, 3) := by decide +kernel
theorem dX8_plays_134 : decode cX8_plays 134 = .ok (.iload_n 1, 1) := by decide +kernel
theorem dX8_plays_135 : decode cX8_plays 135 = .ok (.ireturn, 1) := by decide +kernel
set_option maxRecDepth 20000 in
theorem ggX8_fault_X8_copies : GoodIn wsX8_fault wsX8_copies := goodIn_r _ [9] (by decide +kernel) (by decide +kernel)
set_option maxRecDepth 20000 in
theorem gX8_fault_X8_copies : GoodIn wsX8_fault (va_wsS RX8 152 yX8_copies wsX8_copies) := goodIn_app (goodIn_of _ (by decide +kernel)) ggX8_fault_X8_copies
set_option maxRecDepth 20000 in
theorem ggX8_fault_X8_plays : GoodIn wsX8_fault wsX8_plays := goodIn_r _ [13, 14, 15, 3, 16, 17, 4, 5, 18, 19, 20, 21, 8, 22, 23, 24, 25, 26, 27, 28, 29, 30, 31, 32, 33, 34, 35, 36, 37, 38, 39, 40, 41, 42, 43, 44, 45, 46, 47, 48, 1, 49, 50, 51, 52, 53, 54, 55, 56, 57, 58, 59, 60, 61, 62, 63, 64, 65, 66, 67, 68, 69, 70, 71, 72, 73, 74, 75, 76, 77, 78, 79, 80, 81, 82, 83, 84, 85, 86, 87, 88, 89, 90, 91, 92, 93, 94, 95, 96, 97, 98, 99, 100, 101, 102, 103, 104, 105, 106, 107, 108, 109, 110, 111, 112, 113, 114, 115, 116] (by decide +kernel) (by decide +kernel)
set_option maxRecDepth 20000 in
theorem gX8_fault_X8_plays : GoodIn wsX8_fault (wsV RX8 197 RX8 yX8_plays wsX8_plays) := goodIn_app (goodIn_of _ (by decide +kernel)) ggX8_fault_X8_plays
set_option maxRecDepth 20000 in
theorem ggX8_fault_X8_fails : GoodIn wsX8_fault wsX8_fails := goodIn_r _ [65, 18, 96, 97, 98, 99, 100, 101, 102, 103, 104, 105, 106, 107, 108, 109, 110, 111, 112, 113, 114, 115, 116] (by decide +kernel) (by decide +kernel)
set_option maxRecDepth 20000 in
theorem gX8_fault_X8_fails : GoodIn wsX8_fault (wsV RX8 86 RX8 yX8_fails wsX8_fails) := goodIn_app (goodIn_of _ (by decide +kernel)) ggX8_fault_X8_fails
theorem dX8_fault_0 : decode cX8_fault 0 = .ok (.aload_n 0, 1) := by decide +kernel
theorem dX8_fault_1 : decode cX8_fault 1 = .ok (.getfield 7, 3) := by decide +kernel
theorem dX8_fault_4 : decode cX8_fault 4 = .ok (.aload_n 0, 1) := by decide +kernel
theorem dX8_fault_5 : decode cX8_fault 5 = .ok (.getfield 19, 3) := by decide +kernel
theorem dX8_fault_8 : decode cX8_fault 8 = .ok (.invokestatic 152, 3) := by decide +kernel
theorem dX8_fault_11 : decode cX8_fault 11 = .ok (.aload_n 0, 1) := by decide +kernel
theorem dX8_fault_12 : decode cX8_fault 12 = .ok (.invokevirtual 197, 3) := by decide +kernel
theorem dX8_fault_15 : decode cX8_fault 15 = .ok (.istore_n 2, 1) := by decide +kernel
theorem dX8_fault_16 : decode cX8_fault 16 = .ok (.aload_n 0, 1) := by decide +kernel
theorem dX8_fault_17 : decode cX8_fault 17 = .ok (.getfield 19, 3) := by decide +kernel
theorem dX8_fault_20 : decode cX8_fault 20 = .ok (.aload_n 0, 1) := by decide +kernel
theorem dX8_fault_21 : decode cX8_fault 21 = .ok (.getfield 7, 3) := by decide +kernel
theorem dX8_fault_24 : decode cX8_fault 24 = .ok (.invokestatic 152, 3) := by decide +kernel
theorem dX8_fault_27 : decode cX8_fault 27 = .ok (.iload_n 2, 1) := by decide +kernel
theorem dX8_fault_28 : decode cX8_fault 28 = .ok (.ifCond .eq 11, 3) := by decide +kernel
theorem dX8_fault_31 : decode cX8_fault 31 = .ok (.aload_n 0, 1) := by decide +kernel
theorem dX8_fault_32 : decode cX8_fault 32 = .ok (.iconst 1, 1) := by decide +kernel
theorem dX8_fault_33 : decode cX8_fault 33 = .ok (.invokevirtual 86, 3) := by decide +kernel
theorem dX8_fault_36 : decode cX8_fault 36 = .ok (.goto 30, 3) := by decide +kernel
theorem dX8_fault_39 : decode cX8_fault 39 = .ok (.iload_n 1, 1) := by decide +kernel
theorem dX8_fault_40 : decode cX8_fault 40 = .ok (.ifCond .ne 10, 3) := by decide +kernel
theorem dX8_fault_43 : decode cX8_fault 43 = .ok (.aload_n 0, 1) := by decide +kernel
theorem dX8_fault_44 : decode cX8_fault 44 = .ok (.getfield 180, 3) := by decide +kernel
theorem dX8_fault_47 : decode cX8_fault 47 = .ok (.goto 19, 3) := by decide +kernel
theorem dX8_fault_50 : decode cX8_fault 50 = .ok (.iload_n 1, 1) := by decide +kernel
theorem dX8_fault_51 : decode cX8_fault 51 = .ok (.iconst 1, 1) := by decide +kernel
theorem dX8_fault_52 : decode cX8_fault 52 = .ok (.if_icmp .ne 10, 3) := by decide +kernel
theorem dX8_fault_55 : decode cX8_fault 55 = .ok (.aload_n 0, 1) := by decide +kernel
theorem dX8_fault_56 : decode cX8_fault 56 = .ok (.getfield 192, 3) := by decide +kernel
theorem dX8_fault_59 : decode cX8_fault 59 = .ok (.goto 7, 3) := by decide +kernel
theorem dX8_fault_62 : decode cX8_fault 62 = .ok (.aload_n 0, 1) := by decide +kernel
theorem dX8_fault_63 : decode cX8_fault 63 = .ok (.getfield 194, 3) := by decide +kernel
theorem dX8_fault_66 : decode cX8_fault 66 = .ok (.ireturn, 1) := by decide +kernel
set_option maxRecDepth 20000 in
theorem ggX8_faultPosition_X8_fault : GoodIn wsX8_faultPosition wsX8_fault := goodIn_r _ [5, 6, 7, 8, 9, 10, 11, 12, 4, 13, 14, 15, 16, 17, 18, 19, 20, 21, 22, 23, 24, 25, 26, 27, 28, 29, 30, 31, 32, 33, 34, 35, 36, 37, 38, 39, 40, 41, 42, 43, 44, 45, 46, 47, 48, 49, 50, 51, 52, 53, 54, 55, 56, 57, 58, 59, 60, 61, 62, 63, 64, 65, 66, 67, 68, 69, 70, 71, 72, 73, 74, 75, 76, 77, 78, 79, 80, 81, 82, 83, 84, 85, 86, 87, 88, 89, 90, 91, 92, 93, 94, 95, 96, 97, 98, 99, 100, 101, 102, 103, 104, 105, 106, 107, 108, 109, 110, 111, 112, 113, 114, 115, 116, 117, 118, 119, 120] (by decide +kernel) (by decide +kernel)
set_option maxRecDepth 20000 in
theorem gX8_faultPosition_X8_fault : GoodIn wsX8_faultPosition (wsV RX8 200 RX8 yX8_fault wsX8_fault) := goodIn_app (goodIn_of _ (by decide +kernel)) ggX8_faultPosition_X8_fault
theorem dX8_faultPosition_0 : decode cX8_faultPosition 0 = .ok (.aload_n 0, 1) := by decide +kernel
theorem dX8_faultPosition_1 : decode cX8_faultPosition 1 = .ok (.iconst 0, 1) := by decide +kernel
theorem dX8_faultPosition_2 : decode cX8_faultPosition 2 = .ok (.invokevirtual 200, 3) := by decide +kernel
theorem dX8_faultPosition_5 : decode cX8_faultPosition 5 = .ok (.ireturn, 1) := by decide +kernel
set_option maxRecDepth 20000 in
theorem ggX8_faultReason_X8_fault : GoodIn wsX8_faultReason wsX8_fault := goodIn_r _ [5, 6, 7, 8, 9, 10, 11, 12, 4, 13, 14, 15, 16, 17, 18, 19, 20, 21, 22, 23, 24, 25, 26, 27, 28, 29, 30, 31, 32, 33, 34, 35, 36, 37, 38, 39, 40, 41, 42, 43, 44, 45, 46, 47, 48, 49, 50, 51, 52, 53, 54, 55, 56, 57, 58, 59, 60, 61, 62, 63, 64, 65, 66, 67, 68, 69, 70, 71, 72, 73, 74, 75, 76, 77, 78, 79, 80, 81, 82, 83, 84, 85, 86, 87, 88, 89, 90, 91, 92, 93, 94, 95, 96, 97, 98, 99, 100, 101, 102, 103, 104, 105, 106, 107, 108, 109, 110, 111, 112, 113, 114, 115, 116, 117, 118, 119, 120] (by decide +kernel) (by decide +kernel)
set_option maxRecDepth 20000 in
theorem gX8_faultReason_X8_fault : GoodIn wsX8_faultReason (wsV RX8 200 RX8 yX8_fault wsX8_fault) := goodIn_app (goodIn_of _ (by decide +kernel)) ggX8_faultReason_X8_fault
theorem dX8_faultReason_0 : decode cX8_faultReason 0 = .ok (.aload_n 0, 1) := by decide +kernel
theorem dX8_faultReason_1 : decode cX8_faultReason 1 = .ok (.iconst 1, 1) := by decide +kernel
theorem dX8_faultReason_2 : decode cX8_faultReason 2 = .ok (.invokevirtual 200, 3) := by decide +kernel
theorem dX8_faultReason_5 : decode cX8_faultReason 5 = .ok (.ireturn, 1) := by decide +kernel
set_option maxRecDepth 20000 in
theorem ggX8_faultCause_X8_fault : GoodIn wsX8_faultCause wsX8_fault := goodIn_r _ [5, 6, 7, 8, 9, 10, 11, 12, 4, 13, 14, 15, 16, 17, 18, 19, 20, 21, 22, 23, 24, 25, 26, 27, 28, 29, 30, 31, 32, 33, 34, 35, 36, 37, 38, 39, 40, 41, 42, 43, 44, 45, 46, 47, 48, 49, 50, 51, 52, 53, 54, 55, 56, 57, 58, 59, 60, 61, 62, 63, 64, 65, 66, 67, 68, 69, 70, 71, 72, 73, 74, 75, 76, 77, 78, 79, 80, 81, 82, 83, 84, 85, 86, 87, 88, 89, 90, 91, 92, 93, 94, 95, 96, 97, 98, 99, 100, 101, 102, 103, 104, 105, 106, 107, 108, 109, 110, 111, 112, 113, 114, 115, 116, 117, 118, 119, 120] (by decide +kernel) (by decide +kernel)
set_option maxRecDepth 20000 in
theorem gX8_faultCause_X8_fault : GoodIn wsX8_faultCause (wsV RX8 200 RX8 yX8_fault wsX8_fault) := goodIn_app (goodIn_of _ (by decide +kernel)) ggX8_faultCause_X8_fault
theorem dX8_faultCause_0 : decode cX8_faultCause 0 = .ok (.aload_n 0, 1) := by decide +kernel
theorem dX8_faultCause_1 : decode cX8_faultCause 1 = .ok (.iconst 2, 1) := by decide +kernel
theorem dX8_faultCause_2 : decode cX8_faultCause 2 = .ok (.invokevirtual 200, 3) := by decide +kernel
theorem dX8_faultCause_5 : decode cX8_faultCause 5 = .ok (.ireturn, 1) := by decide +kernel
set_option maxRecDepth 20000 in
theorem ggX8_play_X8_copies : GoodIn wsX8_play wsX8_copies := goodIn_r _ [7] (by decide +kernel) (by decide +kernel)
set_option maxRecDepth 20000 in
theorem gX8_play_X8_copies : GoodIn wsX8_play (va_wsS RX8 152 yX8_copies wsX8_copies) := goodIn_app (goodIn_of _ (by decide +kernel)) ggX8_play_X8_copies
set_option maxRecDepth 20000 in
theorem ggX8_play_X8_plays : GoodIn wsX8_play wsX8_plays := goodIn_r _ [11, 12, 13, 14, 3, 15, 16, 17, 18, 19, 20, 21, 6, 22, 23, 24, 25, 26, 27, 28, 29, 30, 31, 32, 33, 34, 35, 36, 37, 38, 39, 40, 41, 42, 43, 44, 45, 46, 47, 48, 1, 49, 50, 51, 52, 53, 54, 55, 56, 57, 58, 59, 60, 61, 62, 63, 64, 65, 66, 67, 68, 69, 70, 71, 72, 73, 74, 75, 76, 77, 78, 79, 80, 81, 82, 83, 84, 85, 86, 87, 88, 89, 90, 91, 92, 93, 94, 95, 96, 97, 98, 99, 100, 101, 102, 103, 104, 105, 106, 107, 108, 109, 110, 111, 112, 113, 114, 115, 116] (by decide +kernel) (by decide +kernel)
set_option maxRecDepth 20000 in
theorem gX8_play_X8_plays : GoodIn wsX8_play (wsV RX8 197 RX8 yX8_plays wsX8_plays) := goodIn_app (goodIn_of _ (by decide +kernel)) ggX8_play_X8_plays
set_option maxRecDepth 20000 in
theorem ggX8_play_X8_fails : GoodIn wsX8_play wsX8_fails := goodIn_r _ [65, 18, 96, 97, 98, 99, 100, 101, 102, 103, 104, 105, 106, 107, 108, 109, 110, 111, 112, 113, 114, 115, 116] (by decide +kernel) (by decide +kernel)
set_option maxRecDepth 20000 in
theorem gX8_play_X8_fails : GoodIn wsX8_play (wsV RX8 86 RX8 yX8_fails wsX8_fails) := goodIn_app (goodIn_of _ (by decide +kernel)) ggX8_play_X8_fails
set_option maxRecDepth 20000 in
theorem ggX8_play_X8_changes : GoodIn wsX8_play wsX8_changes := goodIn_r _ [52, 12, 53, 54, 1, 96, 97, 98, 99, 100, 101, 102, 103, 104, 105, 106, 107, 108, 109, 110, 111, 112, 113, 114, 115, 116] (by decide +kernel) (by decide +kernel)
set_option maxRecDepth 20000 in
theorem gX8_play_X8_changes : GoodIn wsX8_play (wsV RX8 92 RX8 yX8_changes wsX8_changes) := goodIn_app (goodIn_of _ (by decide +kernel)) ggX8_play_X8_changes
theorem dX8_play_0 : decode cX8_play 0 = .ok (.aload_n 0, 1) := by decide +kernel
theorem dX8_play_1 : decode cX8_play 1 = .ok (.getfield 7, 3) := by decide +kernel
theorem dX8_play_4 : decode cX8_play 4 = .ok (.aload_n 0, 1) := by decide +kernel
theorem dX8_play_5 : decode cX8_play 5 = .ok (.getfield 19, 3) := by decide +kernel
theorem dX8_play_8 : decode cX8_play 8 = .ok (.invokestatic 152, 3) := by decide +kernel
theorem dX8_play_11 : decode cX8_play 11 = .ok (.aload_n 0, 1) := by decide +kernel
theorem dX8_play_12 : decode cX8_play 12 = .ok (.invokevirtual 197, 3) := by decide +kernel
theorem dX8_play_15 : decode cX8_play 15 = .ok (.istore_n 1, 1) := by decide +kernel
theorem dX8_play_16 : decode cX8_play 16 = .ok (.aload_n 0, 1) := by decide +kernel
theorem dX8_play_17 : decode cX8_play 17 = .ok (.getfield 19, 3) := by decide +kernel
theorem dX8_play_20 : decode cX8_play 20 = .ok (.aload_n 0, 1) := by decide +kernel
theorem dX8_play_21 : decode cX8_play 21 = .ok (.getfield 7, 3) := by decide +kernel
theorem dX8_play_24 : decode cX8_play 24 = .ok (.invokestatic 152, 3) := by decide +kernel
theorem dX8_play_27 : decode cX8_play 27 = .ok (.iload_n 1, 1) := by decide +kernel
theorem dX8_play_28 : decode cX8_play 28 = .ok (.ifCond .ne 9, 3) := by decide +kernel
theorem dX8_play_31 : decode cX8_play 31 = .ok (.aload_n 0, 1) := by decide +kernel
theorem dX8_play_32 : decode cX8_play 32 = .ok (.iconst 1, 1) := by decide +kernel
theorem dX8_play_33 : decode cX8_play 33 = .ok (.invokevirtual 86, 3) := by decide +kernel
theorem dX8_play_36 : decode cX8_play 36 = .ok (.ireturn, 1) := by decide +kernel
theorem dX8_play_37 : decode cX8_play 37 = .ok (.aload_n 0, 1) := by decide +kernel
theorem dX8_play_38 : decode cX8_play 38 = .ok (.invokevirtual 92, 3) := by decide +kernel
theorem dX8_play_41 : decode cX8_play 41 = .ok (.aload_n 0, 1) := by decide +kernel
theorem dX8_play_42 : decode cX8_play 42 = .ok (.invokevirtual 197, 3) := by decide +kernel
theorem dX8_play_45 : decode cX8_play 45 = .ok (.ifCond .eq 10, 3) := by decide +kernel
theorem dX8_play_48 : decode cX8_play 48 = .ok (.aload_n 0, 1) := by decide +kernel
theorem dX8_play_49 : decode cX8_play 49 = .ok (.getfield 183, 3) := by decide +kernel
theorem dX8_play_52 : decode cX8_play 52 = .ok (.goto 4, 3) := by decide +kernel
theorem dX8_play_55 : decode cX8_play 55 = .ok (.iconst 0, 1) := by decide +kernel
theorem dX8_play_56 : decode cX8_play 56 = .ok (.ireturn, 1) := by decide +kernel
theorem dJ6_bitCount_0f7a4_0 : decode cJ6_bitCount_0f7a4 0 = .ok (.iload_n 0, 1) := by decide +kernel
theorem dJ6_bitCount_0f7a4_1 : decode cJ6_bitCount_0f7a4 1 = .ok (.iload_n 0, 1) := by decide +kernel
theorem dJ6_bitCount_0f7a4_2 : decode cJ6_bitCount_0f7a4 2 = .ok (.iconst 1, 1) := by decide +kernel
theorem dJ6_bitCount_0f7a4_3 : decode cJ6_bitCount_0f7a4 3 = .ok (.iushr, 1) := by decide +kernel
theorem dJ6_bitCount_0f7a4_4 : decode cJ6_bitCount_0f7a4 4 = .ok (.ldc_w 265, 3) := by decide +kernel
theorem dJ6_bitCount_0f7a4_7 : decode cJ6_bitCount_0f7a4 7 = .ok (.iand, 1) := by decide +kernel
theorem dJ6_bitCount_0f7a4_8 : decode cJ6_bitCount_0f7a4 8 = .ok (.isub, 1) := by decide +kernel
theorem dJ6_bitCount_0f7a4_9 : decode cJ6_bitCount_0f7a4 9 = .ok (.istore_n 0, 1) := by decide +kernel
theorem dJ6_bitCount_0f7a4_10 : decode cJ6_bitCount_0f7a4 10 = .ok (.iload_n 0, 1) := by decide +kernel
theorem dJ6_bitCount_0f7a4_11 : decode cJ6_bitCount_0f7a4 11 = .ok (.ldc_w 266, 3) := by decide +kernel
theorem dJ6_bitCount_0f7a4_14 : decode cJ6_bitCount_0f7a4 14 = .ok (.iand, 1) := by decide +kernel
theorem dJ6_bitCount_0f7a4_15 : decode cJ6_bitCount_0f7a4 15 = .ok (.iload_n 0, 1) := by decide +kernel
theorem dJ6_bitCount_0f7a4_16 : decode cJ6_bitCount_0f7a4 16 = .ok (.iconst 2, 1) := by decide +kernel
theorem dJ6_bitCount_0f7a4_17 : decode cJ6_bitCount_0f7a4 17 = .ok (.iushr, 1) := by decide +kernel
theorem dJ6_bitCount_0f7a4_18 : decode cJ6_bitCount_0f7a4 18 = .ok (.ldc_w 266, 3) := by decide +kernel
theorem dJ6_bitCount_0f7a4_21 : decode cJ6_bitCount_0f7a4 21 = .ok (.iand, 1) := by decide +kernel
theorem dJ6_bitCount_0f7a4_22 : decode cJ6_bitCount_0f7a4 22 = .ok (.iadd, 1) := by decide +kernel
theorem dJ6_bitCount_0f7a4_23 : decode cJ6_bitCount_0f7a4 23 = .ok (.istore_n 0, 1) := by decide +kernel
theorem dJ6_bitCount_0f7a4_24 : decode cJ6_bitCount_0f7a4 24 = .ok (.iload_n 0, 1) := by decide +kernel
theorem dJ6_bitCount_0f7a4_25 : decode cJ6_bitCount_0f7a4 25 = .ok (.iload_n 0, 1) := by decide +kernel
theorem dJ6_bitCount_0f7a4_26 : decode cJ6_bitCount_0f7a4 26 = .ok (.iconst 4, 1) := by decide +kernel
theorem dJ6_bitCount_0f7a4_27 : decode cJ6_bitCount_0f7a4 27 = .ok (.iushr, 1) := by decide +kernel
theorem dJ6_bitCount_0f7a4_28 : decode cJ6_bitCount_0f7a4 28 = .ok (.iadd, 1) := by decide +kernel
theorem dJ6_bitCount_0f7a4_29 : decode cJ6_bitCount_0f7a4 29 = .ok (.ldc_w 267, 3) := by decide +kernel
theorem dJ6_bitCount_0f7a4_32 : decode cJ6_bitCount_0f7a4 32 = .ok (.iand, 1) := by decide +kernel
theorem dJ6_bitCount_0f7a4_33 : decode cJ6_bitCount_0f7a4 33 = .ok (.istore_n 0, 1) := by decide +kernel
theorem dJ6_bitCount_0f7a4_34 : decode cJ6_bitCount_0f7a4 34 = .ok (.iload_n 0, 1) := by decide +kernel
theorem dJ6_bitCount_0f7a4_35 : decode cJ6_bitCount_0f7a4 35 = .ok (.iload_n 0, 1) := by decide +kernel
theorem dJ6_bitCount_0f7a4_36 : decode cJ6_bitCount_0f7a4 36 = .ok (.bipush 8, 2) := by decide +kernel
theorem dJ6_bitCount_0f7a4_38 : decode cJ6_bitCount_0f7a4 38 = .ok (.iushr, 1) := by decide +kernel
theorem dJ6_bitCount_0f7a4_39 : decode cJ6_bitCount_0f7a4 39 = .ok (.iadd, 1) := by decide +kernel
theorem dJ6_bitCount_0f7a4_40 : decode cJ6_bitCount_0f7a4 40 = .ok (.istore_n 0, 1) := by decide +kernel
theorem dJ6_bitCount_0f7a4_41 : decode cJ6_bitCount_0f7a4 41 = .ok (.iload_n 0, 1) := by decide +kernel
theorem dJ6_bitCount_0f7a4_42 : decode cJ6_bitCount_0f7a4 42 = .ok (.iload_n 0, 1) := by decide +kernel
theorem dJ6_bitCount_0f7a4_43 : decode cJ6_bitCount_0f7a4 43 = .ok (.bipush 16, 2) := by decide +kernel
theorem dJ6_bitCount_0f7a4_45 : decode cJ6_bitCount_0f7a4 45 = .ok (.iushr, 1) := by decide +kernel
theorem dJ6_bitCount_0f7a4_46 : decode cJ6_bitCount_0f7a4 46 = .ok (.iadd, 1) := by decide +kernel
theorem dJ6_bitCount_0f7a4_47 : decode cJ6_bitCount_0f7a4 47 = .ok (.istore_n 0, 1) := by decide +kernel
theorem dJ6_bitCount_0f7a4_48 : decode cJ6_bitCount_0f7a4 48 = .ok (.iload_n 0, 1) := by decide +kernel
theorem dJ6_bitCount_0f7a4_49 : decode cJ6_bitCount_0f7a4 49 = .ok (.bipush 63, 2) := by decide +kernel
theorem dJ6_bitCount_0f7a4_51 : decode cJ6_bitCount_0f7a4 51 = .ok (.iand, 1) := by decide +kernel
theorem dJ6_bitCount_0f7a4_52 : decode cJ6_bitCount_0f7a4 52 = .ok (.ireturn, 1) := by decide +kernel
theorem dJ9_max_7cf53_0 : decode cJ9_max_7cf53 0 = .ok (.iload_n 0, 1) := by decide +kernel
theorem dJ9_max_7cf53_1 : decode cJ9_max_7cf53 1 = .ok (.iload_n 1, 1) := by decide +kernel
theorem dJ9_max_7cf53_2 : decode cJ9_max_7cf53 2 = .ok (.if_icmp .lt 7, 3) := by decide +kernel
theorem dJ9_max_7cf53_5 : decode cJ9_max_7cf53 5 = .ok (.iload_n 0, 1) := by decide +kernel
theorem dJ9_max_7cf53_6 : decode cJ9_max_7cf53 6 = .ok (.goto 4, 3) := by decide +kernel
theorem dJ9_max_7cf53_9 : decode cJ9_max_7cf53 9 = .ok (.iload_n 1, 1) := by decide +kernel
theorem dJ9_max_7cf53_10 : decode cJ9_max_7cf53 10 = .ok (.ireturn, 1) := by decide +kernel
theorem dJ9_min_7cf53_0 : decode cJ9_min_7cf53 0 = .ok (.iload_n 0, 1) := by decide +kernel
theorem dJ9_min_7cf53_1 : decode cJ9_min_7cf53 1 = .ok (.iload_n 1, 1) := by decide +kernel
theorem dJ9_min_7cf53_2 : decode cJ9_min_7cf53 2 = .ok (.if_icmp .gt 7, 3) := by decide +kernel
theorem dJ9_min_7cf53_5 : decode cJ9_min_7cf53 5 = .ok (.iload_n 0, 1) := by decide +kernel
theorem dJ9_min_7cf53_6 : decode cJ9_min_7cf53 6 = .ok (.goto 4, 3) := by decide +kernel
theorem dJ9_min_7cf53_9 : decode cJ9_min_7cf53 9 = .ok (.iload_n 1, 1) := by decide +kernel
theorem dJ9_min_7cf53_10 : decode cJ9_min_7cf53 10 = .ok (.ireturn, 1) := by decide +kernel
