theorem dL_take_75 : decode cL_take 75 = .ok (.istore_n 1, 1) := by decide +kernel
theorem dL_take_76 : decode cL_take 76 = .ok (.goto (-72), 3) := by decide +kernel
theorem dL_take_79 : decode cL_take 79 = .ok (.iconst 0, 1) := by decide +kernel
theorem dL_take_80 : decode cL_take 80 = .ok (.istore_n 3, 1) := by decide +kernel
theorem dL_take_81 : decode cL_take 81 = .ok (.iconst 0, 1) := by decide +kernel
theorem dL_take_82 : decode cL_take 82 = .ok (.istore 4, 2) := by decide +kernel
theorem dL_take_84 : decode cL_take 84 = .ok (.iload 4, 2) := by decide +kernel
theorem dL_take_86 : decode cL_take 86 = .ok (.bipush 12, 2) := by decide +kernel
theorem dL_take_88 : decode cL_take 88 = .ok (.if_icmp .ge 37, 3) := by decide +kernel
theorem dL_take_91 : decode cL_take 91 = .ok (.iload_n 3, 1) := by decide +kernel
theorem dL_take_92 : decode cL_take 92 = .ok (.iload_n 1, 1) := by decide +kernel
theorem dL_take_93 : decode cL_take 93 = .ok (.iload 4, 2) := by decide +kernel
theorem dL_take_95 : decode cL_take 95 = .ok (.invokestatic 77, 3) := by decide +kernel
theorem dL_take_98 : decode cL_take 98 = .ok (.iconst 4, 1) := by decide +kernel
theorem dL_take_99 : decode cL_take 99 = .ok (.if_icmp .ne 17, 3) := by decide +kernel
theorem dL_take_102 : decode cL_take 102 = .ok (.iload_n 0, 1) := by decide +kernel
theorem dL_take_103 : decode cL_take 103 = .ok (.iload 4, 2) := by decide +kernel
theorem dL_take_105 : decode cL_take 105 = .ok (.invokestatic 77, 3) := by decide +kernel
theorem dL_take_108 : decode cL_take 108 = .ok (.iconst 4, 1) := by decide +kernel
theorem dL_take_109 : decode cL_take 109 = .ok (.if_icmp .ge 7, 3) := by decide +kernel
theorem dL_take_112 : decode cL_take 112 = .ok (.iconst 1, 1) := by decide +kernel
theorem dL_take_113 : decode cL_take 113 = .ok (.goto 4, 3) := by decide +kernel
theorem dL_take_116 : decode cL_take 116 = .ok (.iconst 0, 1) := by decide +kernel
theorem dL_take_117 : decode cL_take 117 = .ok (.iadd, 1) := by decide +kernel
theorem dL_take_118 : decode cL_take 118 = .ok (.istore_n 3, 1) := by decide +kernel
theorem dL_take_119 : decode cL_take 119 = .ok (.iinc 4 1, 3) := by decide +kernel
theorem dL_take_122 : decode cL_take 122 = .ok (.goto (-38), 3) := by decide +kernel
theorem dL_take_125 : decode cL_take 125 = .ok (.iload_n 3, 1) := by decide +kernel
theorem dL_take_126 : decode cL_take 126 = .ok (.ireturn, 1) := by decide +kernel
set_option maxRecDepth 20000 in
theorem ggL_safe_L_beside : GoodIn wsL_safe wsL_beside := goodIn_r _ [4] (by decide +kernel) (by decide +kernel)
set_option maxRecDepth 20000 in
theorem gL_safe_L_beside : GoodIn wsL_safe (va_wsS RL 74 yL_beside wsL_beside) := goodIn_app (goodIn_of _ (by decide +kernel)) ggL_safe_L_beside
set_option maxRecDepth 20000 in
theorem ggL_safe_L_has : GoodIn wsL_safe wsL_has := goodIn_r _ [7, 8, 9, 3, 10] (by decide +kernel) (by decide +kernel)
set_option maxRecDepth 20000 in
theorem gL_safe_L_has : GoodIn wsL_safe (va_wsS RL 77 yL_has wsL_has) := goodIn_app (goodIn_of _ (by decide +kernel)) ggL_safe_L_has
theorem dL_safe_0 : decode cL_safe 0 = .ok (.iload_n 0, 1) := by decide +kernel
theorem dL_safe_1 : decode cL_safe 1 = .ok (.iload_n 1, 1) := by decide +kernel
theorem dL_safe_2 : decode cL_safe 2 = .ok (.ishr, 1) := by decide +kernel
theorem dL_safe_3 : decode cL_safe 3 = .ok (.iconst 1, 1) := by decide +kernel
theorem dL_safe_4 : decode cL_safe 4 = .ok (.iand, 1) := by decide +kernel
theorem dL_safe_5 : decode cL_safe 5 = .ok (.ifCond .ne 7, 3) := by decide +kernel
theorem dL_safe_8 : decode cL_safe 8 = .ok (.iconst 1, 1) := by decide +kernel
theorem dL_safe_9 : decode cL_safe 9 = .ok (.goto 4, 3) := by decide +kernel
theorem dL_safe_12 : decode cL_safe 12 = .ok (.iconst 0, 1) := by decide +kernel
theorem dL_safe_13 : decode cL_safe 13 = .ok (.istore_n 2, 1) := by decide +kernel
theorem dL_safe_14 : decode cL_safe 14 = .ok (.iconst 0, 1) := by decide +kernel
theorem dL_safe_15 : decode cL_safe 15 = .ok (.istore_n 3, 1) := by decide +kernel
theorem dL_safe_16 : decode cL_safe 16 = .ok (.iload_n 3, 1) := by decide +kernel
theorem dL_safe_17 : decode cL_safe 17 = .ok (.iconst 2, 1) := by decide +kernel
theorem dL_safe_18 : decode cL_safe 18 = .ok (.if_icmp .ge 41, 3) := by decide +kernel
theorem dL_safe_21 : decode cL_safe 21 = .ok (.iload_n 1, 1) := by decide +kernel
theorem dL_safe_22 : decode cL_safe 22 = .ok (.iload_n 3, 1) := by decide +kernel
theorem dL_safe_23 : decode cL_safe 23 = .ok (.invokestatic 74, 3) := by decide +kernel
theorem dL_safe_26 : decode cL_safe 26 = .ok (.istore 4, 2) := by decide +kernel
theorem dL_safe_28 : decode cL_safe 28 = .ok (.iload_n 2, 1) := by decide +kernel
theorem dL_safe_29 : decode cL_safe 29 = .ok (.ifCond .eq 22, 3) := by decide +kernel
theorem dL_safe_32 : decode cL_safe 32 = .ok (.iload 4, 2) := by decide +kernel
theorem dL_safe_34 : decode cL_safe 34 = .ok (.ifCond .lt 13, 3) := by decide +kernel
theorem dL_safe_37 : decode cL_safe 37 = .ok (.iload_n 0, 1) := by decide +kernel
theorem dL_safe_38 : decode cL_safe 38 = .ok (.iload 4, 2) := by decide +kernel
theorem dL_safe_40 : decode cL_safe 40 = .ok (.invokestatic 77, 3) := by decide +kernel
theorem dL_safe_43 : decode cL_safe 43 = .ok (.iconst 2, 1) := by decide +kernel
theorem dL_safe_44 : decode cL_safe 44 = .ok (.if_icmp .ge 7, 3) := by decide +kernel
theorem dL_safe_47 : decode cL_safe 47 = .ok (.iconst 1, 1) := by decide +kernel
theorem dL_safe_48 : decode cL_safe 48 = .ok (.goto 4, 3) := by decide +kernel
theorem dL_safe_51 : decode cL_safe 51 = .ok (.iconst 0, 1) := by decide +kernel
theorem dL_safe_52 : decode cL_safe 52 = .ok (.istore_n 2, 1) := by decide +kernel
theorem dL_safe_53 : decode cL_safe 53 = .ok (.iinc 3 1, 3) := by decide +kernel
theorem dL_safe_56 : decode cL_safe 56 = .ok (.goto (-40), 3) := by decide +kernel
theorem dL_safe_59 : decode cL_safe 59 = .ok (.iload_n 2, 1) := by decide +kernel
theorem dL_safe_60 : decode cL_safe 60 = .ok (.ireturn, 1) := by decide +kernel
set_option maxRecDepth 20000 in
theorem ggL_areFences_L_isDrawnOf : GoodIn wsL_areFences wsL_isDrawnOf := goodIn_ca (goodIn_r _ [6, 7, 8, 9, 10, 11, 12, 13, 14, 15, 16, 17, 18, 19, 20, 21, 22, 281, 282, 283, 284, 285, 286, 287, 288, 289, 290, 291, 292, 293, 294] (by decide +kernel) (by decide +kernel)) (goodIn_sub (fun _ h => List.mem_cons_of_mem _ (List.mem_append_left _ (List.mem_append_left _ (List.mem_append_right _ h)))) (by decide +kernel))
set_option maxRecDepth 20000 in
theorem gL_areFences_L_isDrawnOf : GoodIn wsL_areFences (va_wsS RL 80 yL_isDrawnOf wsL_isDrawnOf) := goodIn_app (goodIn_of _ (by decide +kernel)) ggL_areFences_L_isDrawnOf
set_option maxRecDepth 20000 in
theorem ggL_areFences_L_fencesOfOf : GoodIn wsL_areFences wsL_fencesOfOf := goodIn_ca (goodIn_r _ [25, 7, 26, 27, 28, 11, 29, 13, 14, 15, 30, 31, 32, 33, 34, 21, 35, 36, 37, 38, 39, 40, 41, 42, 43, 44, 45, 281, 282, 283, 284, 285, 286, 287, 288, 289, 290, 291, 292, 293, 294] (by decide +kernel) (by decide +kernel)) (goodIn_sub (fun _ h => List.mem_cons_of_mem _ (List.mem_append_left _ (List.mem_append_left _ (List.mem_append_right _ h)))) (by decide +kernel))
set_option maxRecDepth 20000 in
theorem gL_areFences_L_fencesOfOf : GoodIn wsL_areFences (va_wsS RL 84 yL_fencesOfOf wsL_fencesOfOf) := goodIn_app (goodIn_of _ (by decide +kernel)) ggL_areFences_L_fencesOfOf
set_option maxRecDepth 20000 in
theorem ggL_areFences_L_ownerOfOf : GoodIn wsL_areFences wsL_ownerOfOf := goodIn_ca (goodIn_ca (goodIn_r _ [48, 7, 49, 50, 51, 52, 11, 53, 13, 14, 54, 55, 15, 30, 31, 32, 33, 34, 21, 35, 36, 37, 38, 39, 40, 41, 42, 43, 44, 45, 56, 57, 58, 59, 60, 61, 62, 19, 20, 22, 281, 282, 283, 284, 285, 286, 287, 288, 289, 290, 291, 292, 293, 294] (by decide +kernel) (by decide +kernel)) (goodIn_sub (fun _ h => List.mem_cons_of_mem _ (List.mem_append_left _ (List.mem_append_left _ (List.mem_append_right _ h)))) (by decide +kernel))) (goodIn_sub (fun _ h => List.mem_cons_of_mem _ (List.mem_append_left _ (List.mem_append_right _ h))) (by decide +kernel))
set_option maxRecDepth 20000 in
theorem gL_areFences_L_ownerOfOf : GoodIn wsL_areFences (va_wsS RL 87 yL_ownerOfOf wsL_ownerOfOf) := goodIn_app (goodIn_of _ (by decide +kernel)) ggL_areFences_L_ownerOfOf
set_option maxRecDepth 20000 in
theorem ggL_areFences_L_boxesOfOf : GoodIn wsL_areFences wsL_boxesOfOf := goodIn_ca (goodIn_r _ [65, 7, 66, 67, 68, 11, 69, 13, 14, 15, 70, 71, 72, 56, 57, 58, 59, 60, 61, 62, 73, 40, 41, 42, 43, 44, 45, 281, 282, 283, 284, 285, 286, 287, 288, 289, 290, 291, 292, 293, 294] (by decide +kernel) (by decide +kernel)) (goodIn_sub (fun _ h => List.mem_cons_of_mem _ (List.mem_append_left _ (List.mem_append_left _ (List.mem_append_right _ h)))) (by decide +kernel))
set_option maxRecDepth 20000 in
theorem gL_areFences_L_boxesOfOf : GoodIn wsL_areFences (va_wsS RL 90 yL_boxesOfOf wsL_boxesOfOf) := goodIn_app (goodIn_of _ (by decide +kernel)) ggL_areFences_L_boxesOfOf
set_option maxRecDepth 20000 in
theorem ggL_areFences_L_boxesWithOf : GoodIn wsL_areFences wsL_boxesWithOf := goodIn_ca (goodIn_r _ [76, 7, 77, 78, 79, 11, 80, 13, 14, 15, 81, 82, 21, 83, 84, 34, 35, 36, 37, 38, 39, 40, 41, 42, 43, 44, 45, 73, 281, 282, 283, 284, 285, 286, 287, 288, 289, 290, 291, 292, 293, 294] (by decide +kernel) (by decide +kernel)) (goodIn_sub (fun _ h => List.mem_cons_of_mem _ (List.mem_append_left _ (List.mem_append_left _ (List.mem_append_right _ h)))) (by decide +kernel))
set_option maxRecDepth 20000 in
theorem gL_areFences_L_boxesWithOf : GoodIn wsL_areFences (va_wsS RL 93 yL_boxesWithOf wsL_boxesWithOf) := goodIn_app (goodIn_of _ (by decide +kernel)) ggL_areFences_L_boxesWithOf
set_option maxRecDepth 20000 in
theorem ggL_areFences_L_whyNotOf : GoodIn wsL_areFences wsL_whyNotOf := goodIn_ca (goodIn_r _ [87, 7, 88, 89, 90, 11, 91, 13, 14, 15, 16, 17, 18, 92, 93, 94, 59, 95, 96, 97, 98, 99, 100, 101, 102, 20, 21, 22, 281, 282, 283, 284, 285, 286, 287, 288, 289, 290, 291, 292, 293, 294] (by decide +kernel) (by decide +kernel)) (goodIn_sub (fun _ h => List.mem_cons_of_mem _ (List.mem_append_left _ (List.mem_append_left _ (List.mem_append_right _ h)))) (by decide +kernel))
set_option maxRecDepth 20000 in
theorem gL_areFences_L_whyNotOf : GoodIn wsL_areFences (va_wsS RL 96 yL_whyNotOf wsL_whyNotOf) := goodIn_app (goodIn_of _ (by decide +kernel)) ggL_areFences_L_whyNotOf
set_option maxRecDepth 20000 in
theorem ggL_areFences_L_isSafeOf : GoodIn wsL_areFences wsL_isSafeOf := goodIn_ca (goodIn_r _ [105, 7, 106, 107, 108, 11, 109, 13, 14, 15, 16, 17, 18, 110, 111, 112, 113, 114, 82, 21, 83, 84, 34, 35, 36, 37, 38, 39, 40, 41, 42, 43, 44, 45, 115, 20, 22, 116, 117, 118, 119, 120, 121, 122, 123, 124, 19, 281, 282, 283, 284, 285, 286, 287, 288, 289, 290, 291, 292, 293, 294] (by decide +kernel) (by decide +kernel)) (goodIn_sub (fun _ h => List.mem_cons_of_mem _ (List.mem_append_left _ (List.mem_append_left _ (List.mem_append_right _ h)))) (by decide +kernel))
set_option maxRecDepth 20000 in
theorem gL_areFences_L_isSafeOf : GoodIn wsL_areFences (va_wsS RL 99 yL_isSafeOf wsL_isSafeOf) := goodIn_app (goodIn_of _ (by decide +kernel)) ggL_areFences_L_isSafeOf
set_option maxRecDepth 20000 in
theorem ggL_areFences_L_givesOf : GoodIn wsL_areFences wsL_givesOf := goodIn_ca (goodIn_ca (goodIn_r _ [127, 7, 128, 129, 130, 131, 11, 132, 13, 14, 133, 134, 15, 16, 17, 18, 19, 20, 21, 22, 135, 136, 112, 137, 138, 139, 140, 141, 142, 143, 144, 34, 35, 36, 37, 38, 39, 40, 41, 42, 43, 44, 45, 145, 146, 147, 148, 149, 150, 151, 152, 119, 120, 121, 122, 123, 124, 153, 154, 155, 156, 157, 158, 159, 281, 282, 283, 284, 285, 286, 287, 288, 289, 290, 291, 292, 293, 294] (by decide +kernel) (by decide +kernel)) (goodIn_sub (fun _ h => List.mem_cons_of_mem _ (List.mem_append_left _ (List.mem_append_left _ (List.mem_append_right _ h)))) (by decide +kernel))) (goodIn_sub (fun _ h => List.mem_cons_of_mem _ (List.mem_append_right _ h)) (by decide +kernel))
set_option maxRecDepth 20000 in
theorem gL_areFences_L_givesOf : GoodIn wsL_areFences (va_wsS RL 102 yL_givesOf wsL_givesOf) := goodIn_app (goodIn_of _ (by decide +kernel)) ggL_areFences_L_givesOf
set_option maxRecDepth 20000 in
theorem ggL_areFences_L_chainOfOf : GoodIn wsL_areFences wsL_chainOfOf := goodIn_ca (goodIn_ca (goodIn_r _ [162, 7, 49, 163, 164, 165, 11, 166, 13, 14, 54, 55, 15, 30, 31, 32, 33, 34, 21, 35, 36, 37, 38, 39, 40, 41, 42, 43, 44, 45, 167, 168, 169, 170, 171, 82, 83, 84, 172, 173, 174, 175, 117, 118, 119, 120, 121, 122, 123, 124, 176, 20, 22, 177, 157, 158, 73, 281, 282, 283, 284, 285, 286, 287, 288, 289, 290, 291, 292, 293, 294] (by decide +kernel) (by decide +kernel)) (goodIn_sub (fun _ h => List.mem_cons_of_mem _ (List.mem_append_left _ (List.mem_append_left _ (List.mem_append_right _ h)))) (by decide +kernel))) (goodIn_sub (fun _ h => List.mem_cons_of_mem _ (List.mem_append_left _ (List.mem_append_right _ h))) (by decide +kernel))
set_option maxRecDepth 20000 in
theorem gL_areFences_L_chainOfOf : GoodIn wsL_areFences (va_wsS RL 105 yL_chainOfOf wsL_chainOfOf) := goodIn_app (goodIn_of _ (by decide +kernel)) ggL_areFences_L_chainOfOf
set_option maxRecDepth 20000 in
theorem ggL_areFences_L_wonOf : GoodIn wsL_areFences wsL_wonOf := goodIn_ca (goodIn_r _ [180, 7, 181, 182, 183, 11, 184, 13, 14, 15, 70, 71, 72, 281, 282, 283, 284, 285, 286, 287, 288, 289, 290, 291, 292, 293, 294] (by decide +kernel) (by decide +kernel)) (goodIn_sub (fun _ h => List.mem_cons_of_mem _ (List.mem_append_left _ (List.mem_append_left _ (List.mem_append_right _ h)))) (by decide +kernel))
set_option maxRecDepth 20000 in
theorem gL_areFences_L_wonOf : GoodIn wsL_areFences (va_wsS RL 108 yL_wonOf wsL_wonOf) := goodIn_app (goodIn_of _ (by decide +kernel)) ggL_areFences_L_wonOf
set_option maxRecDepth 20000 in
theorem ggL_areFences_L_has : GoodIn wsL_areFences wsL_has := goodIn_r _ [187, 188, 189, 5, 190] (by decide +kernel) (by decide +kernel)
set_option maxRecDepth 20000 in
theorem gL_areFences_L_has : GoodIn wsL_areFences (va_wsS RL 77 yL_has wsL_has) := goodIn_app (goodIn_of _ (by decide +kernel)) ggL_areFences_L_has
set_option maxRecDepth 20000 in
theorem ggL_areFences_L_close : GoodIn wsL_areFences wsL_close := goodIn_r _ [193, 194, 195, 5, 196, 185, 186, 187, 188, 189, 190] (by decide +kernel) (by decide +kernel)
set_option maxRecDepth 20000 in
theorem gL_areFences_L_close : GoodIn wsL_areFences (va_wsS RL 111 yL_close wsL_close) := goodIn_app (goodIn_of _ (by decide +kernel)) ggL_areFences_L_close
set_option maxRecDepth 20000 in
theorem ggL_areFences_L_safe : GoodIn wsL_areFences wsL_safe := goodIn_r _ [199, 194, 195, 5, 196, 185, 186, 187, 188, 189, 190] (by decide +kernel) (by decide +kernel)
set_option maxRecDepth 20000 in
theorem gL_areFences_L_safe : GoodIn wsL_areFences (va_wsS RL 114 yL_safe wsL_safe) := goodIn_app (goodIn_of _ (by decide +kernel)) ggL_areFences_L_safe
set_option maxRecDepth 20000 in
theorem ggL_areFences_L_take : GoodIn wsL_areFences wsL_take := goodIn_r _ [202, 185, 186, 5, 187, 188, 189, 190] (by decide +kernel) (by decide +kernel)
set_option maxRecDepth 20000 in
theorem gL_areFences_L_take : GoodIn wsL_areFences (va_wsS RL 118 yL_take wsL_take) := goodIn_app (goodIn_of _ (by decide +kernel)) ggL_areFences_L_take
set_option maxRecDepth 20000 in
theorem ggL_areFences_L_count : GoodIn wsL_areFences wsL_count := goodIn_r _ [205] (by decide +kernel) (by decide +kernel)
set_option maxRecDepth 20000 in
theorem gL_areFences_L_count : GoodIn wsL_areFences (va_wsS RL 121 yL_count wsL_count) := goodIn_app (goodIn_of _ (by decide +kernel)) ggL_areFences_L_count
set_option maxRecDepth 20000 in
theorem ggL_areFences_X7_drawn : GoodIn wsL_areFences wsX7_drawn := goodIn_r _ [209, 15, 210, 211, 212, 59, 213, 96, 214, 40, 41, 42, 43, 44, 45, 281, 282, 283, 284, 285, 286, 287, 288, 289, 290, 291, 292, 293, 294] (by decide +kernel) (by decide +kernel)
set_option maxRecDepth 20000 in
theorem gL_areFences_X7_drawn : GoodIn wsL_areFences (wsV RL 124 RX7 yX7_drawn wsX7_drawn) := goodIn_app (goodIn_of _ (by decide +kernel)) ggL_areFences_X7_drawn
set_option maxRecDepth 20000 in
theorem ggL_areFences_X7_isOver : GoodIn wsL_areFences wsX7_isOver := goodIn_r _ [218, 15, 219, 98, 99, 59, 100, 96, 101, 281, 282, 283, 284, 285, 286, 287, 288, 289, 290, 291, 292, 293, 294] (by decide +kernel) (by decide +kernel)
set_option maxRecDepth 20000 in
theorem gL_areFences_X7_isOver : GoodIn wsL_areFences (wsV RL 127 RX7 yX7_isOver wsX7_isOver) := goodIn_app (goodIn_of _ (by decide +kernel)) ggL_areFences_X7_isOver
set_option maxRecDepth 20000 in
theorem ggL_areFences_X7_turn : GoodIn wsL_areFences wsX7_turn := goodIn_r _ [223, 15, 281, 282, 283, 284, 285, 286, 287, 288, 289, 290, 291, 292, 293, 294] (by decide +kernel) (by decide +kernel)
set_option maxRecDepth 20000 in
theorem gL_areFences_X7_turn : GoodIn wsL_areFences (wsV RL 131 RX7 yX7_turn wsX7_turn) := goodIn_app (goodIn_of _ (by decide +kernel)) ggL_areFences_X7_turn
set_option maxRecDepth 20000 in
theorem ggL_areFences_X7_evenGames : GoodIn wsL_areFences wsX7_evenGames := goodIn_r _ [227, 15, 281, 282, 283, 284, 285, 286, 287, 288, 289, 290, 291, 292, 293, 294] (by decide +kernel) (by decide +kernel)
set_option maxRecDepth 20000 in
theorem gL_areFences_X7_evenGames : GoodIn wsL_areFences (wsV RL 134 RX7 yX7_evenGames wsX7_evenGames) := goodIn_app (goodIn_of _ (by decide +kernel)) ggL_areFences_X7_evenGames
set_option maxRecDepth 20000 in
theorem ggL_areFences_X7_doubleDeals : GoodIn wsL_areFences wsX7_doubleDeals := goodIn_r _ [231, 15, 281, 282, 283, 284, 285, 286, 287, 288, 289, 290, 291, 292, 293, 294] (by decide +kernel) (by decide +kernel)
set_option maxRecDepth 20000 in
theorem gL_areFences_X7_doubleDeals : GoodIn wsL_areFences (wsV RL 137 RX7 yX7_doubleDeals wsX7_doubleDeals) := goodIn_app (goodIn_of _ (by decide +kernel)) ggL_areFences_X7_doubleDeals
set_option maxRecDepth 20000 in
theorem ggL_areFences_X7_share : GoodIn wsL_areFences wsX7_share := goodIn_r _ [235, 15, 236, 81, 82, 21, 83, 84, 34, 35, 36, 37, 38, 39, 40, 41, 42, 43, 44, 45, 73, 281, 282, 283, 284, 285, 286, 287, 288, 289, 290, 291, 292, 293, 294] (by decide +kernel) (by decide +kernel)
set_option maxRecDepth 20000 in
theorem gL_areFences_X7_share : GoodIn wsL_areFences (wsV RL 140 RX7 yX7_share wsX7_share) := goodIn_app (goodIn_of _ (by decide +kernel)) ggL_areFences_X7_share
set_option maxRecDepth 20000 in
theorem ggL_areFences_X7_canTake : GoodIn wsL_areFences wsX7_canTake := goodIn_r _ [240, 15, 241, 139, 112, 140, 141, 142, 143, 144, 34, 21, 35, 36, 37, 38, 39, 40, 41, 42, 43, 44, 45, 145, 146, 147, 148, 149, 20, 22, 150, 151, 152, 119, 120, 121, 122, 123, 124, 153, 154, 155, 156, 157, 158, 159, 281, 282, 283, 284, 285, 286, 287, 288, 289, 290, 291, 292, 293, 294] (by decide +kernel) (by decide +kernel)
set_option maxRecDepth 20000 in
theorem gL_areFences_X7_canTake : GoodIn wsL_areFences (wsV RL 145 RX7 yX7_canTake wsX7_canTake) := goodIn_app (goodIn_of _ (by decide +kernel)) ggL_areFences_X7_canTake
set_option maxRecDepth 20000 in
theorem ggL_areFences_X7_canTakeByRounds : GoodIn wsL_areFences wsX7_canTakeByRounds := goodIn_r _ [245, 15, 246, 247, 112, 248, 114, 82, 21, 83, 84, 34, 35, 36, 37, 38, 39, 40, 41, 42, 43, 44, 45, 159, 141, 142, 143, 144, 145, 281, 282, 283, 284, 285, 286, 287, 288, 289, 290, 291, 292, 293, 294] (by decide +kernel) (by decide +kernel)
set_option maxRecDepth 20000 in
theorem gL_areFences_X7_canTakeByRounds : GoodIn wsL_areFences (wsV RL 148 RX7 yX7_canTakeByRounds wsX7_canTakeByRounds) := goodIn_app (goodIn_of _ (by decide +kernel)) ggL_areFences_X7_canTakeByRounds
set_option maxRecDepth 20000 in
theorem ggL_areFences_L_takingFenceOf : GoodIn wsL_areFences wsL_takingFenceOf := goodIn_ca (goodIn_r _ [251, 49, 252, 253, 254, 11, 255, 54, 55, 15, 256, 142, 112, 143, 144, 34, 21, 35, 36, 37, 38, 39, 40, 41, 42, 43, 44, 45, 145, 257, 147, 148, 149, 20, 22, 281, 282, 283, 284, 285, 286, 287, 288, 289, 290, 291, 292, 293, 294] (by decide +kernel) (by decide +kernel)) (goodIn_sub (fun _ h => List.mem_cons_of_mem _ (List.mem_append_left _ (List.mem_append_right _ h))) (by decide +kernel))
set_option maxRecDepth 20000 in
theorem gL_areFences_L_takingFenceOf : GoodIn wsL_areFences (va_wsS RL 151 yL_takingFenceOf wsL_takingFenceOf) := goodIn_app (goodIn_of _ (by decide +kernel)) ggL_areFences_L_takingFenceOf
set_option maxRecDepth 20000 in
theorem ggL_areFences_X7_safeFences : GoodIn wsL_areFences wsX7_safeFences := goodIn_r _ [261, 15, 110, 111, 112, 113, 114, 82, 21, 83, 84, 34, 35, 36, 37, 38, 39, 40, 41, 42, 43, 44, 45, 115, 20, 22, 116, 117, 118, 119, 120, 121, 122, 123, 124, 73, 281, 282, 283, 284, 285, 286, 287, 288, 289, 290, 291, 292, 293, 294] (by decide +kernel) (by decide +kernel)
set_option maxRecDepth 20000 in
theorem gL_areFences_X7_safeFences : GoodIn wsL_areFences (wsV RL 155 RX7 yX7_safeFences wsX7_safeFences) := goodIn_app (goodIn_of _ (by decide +kernel)) ggL_areFences_X7_safeFences
set_option maxRecDepth 20000 in
theorem ggL_areFences_X7_safeInRow : GoodIn wsL_areFences wsX7_safeInRow := goodIn_r _ [265, 15, 266, 267, 112, 268, 269, 111, 113, 114, 82, 21, 83, 84, 34, 35, 36, 37, 38, 39, 40, 41, 42, 43, 44, 45, 115, 20, 22, 116, 117, 118, 119, 120, 121, 122, 123, 124, 146, 147, 148, 149, 281, 282, 283, 284, 285, 286, 287, 288, 289, 290, 291, 292, 293, 294] (by decide +kernel) (by decide +kernel)
set_option maxRecDepth 20000 in
theorem gL_areFences_X7_safeInRow : GoodIn wsL_areFences (wsV RL 158 RX7 yX7_safeInRow wsX7_safeInRow) := goodIn_app (goodIn_of _ (by decide +kernel)) ggL_areFences_X7_safeInRow
set_option maxRecDepth 20000 in
theorem ggL_areFences_L_leastSacrificeOf : GoodIn wsL_areFences wsL_leastSacrificeOf := goodIn_ca (goodIn_r _ [272, 49, 273, 274, 275, 11, 276, 54, 55, 15, 277, 278, 112, 279, 115, 20, 21, 22, 280, 136, 137, 138, 139, 140, 141, 142, 143, 144, 34, 35, 36, 37, 38, 39, 40, 41, 42, 43, 44, 45, 145, 146, 147, 148, 149, 150, 151, 152, 119, 120, 121, 122, 123, 124, 153, 154, 155, 156, 157, 158, 159, 281, 282, 283, 284, 285, 286, 287, 288, 289, 290, 291, 292, 293, 294] (by decide +kernel) (by decide +kernel)) (goodIn_sub (fun _ h => List.mem_cons_of_mem _ (List.mem_append_left _ (List.mem_append_right _ h))) (by decide +kernel))
set_option maxRecDepth 20000 in
theorem gL_areFences_L_leastSacrificeOf : GoodIn wsL_areFences (va_wsS RL 161 yL_leastSacrificeOf wsL_leastSacrificeOf) := goodIn_app (goodIn_of _ (by decide +kernel)) ggL_areFences_L_leastSacrificeOf
theorem dL_areFences_0 : decode cL_areFences 0 = .ok (.aload_n 0, 1) := by decide +kernel
theorem dL_areFences_1 : decode cL_areFences 1 = .ok (.bipush 31, 2) := by decide +kernel
theorem dL_areFences_3 : decode cL_areFences 3 = .ok (.invokestatic 80, 3) := by decide +kernel
theorem dL_areFences_6 : decode cL_areFences 6 = .ok (.bipush (-101), 2) := by decide +kernel
theorem dL_areFences_8 : decode cL_areFences 8 = .ok (.if_icmp .ne 101, 3) := by decide +kernel
theorem dL_areFences_11 : decode cL_areFences 11 = .ok (.aload_n 0, 1) := by decide +kernel
theorem dL_areFences_12 : decode cL_areFences 12 = .ok (.bipush 12, 2) := by decide +kernel
theorem dL_areFences_14 : decode cL_areFences 14 = .ok (.invokestatic 84, 3) := by decide +kernel
theorem dL_areFences_17 : decode cL_areFences 17 = .ok (.bipush (-101), 2) := by decide +kernel
theorem dL_areFences_19 : decode cL_areFences 19 = .ok (.if_icmp .ne 90, 3) := by decide +kernel
theorem dL_areFences_22 : decode cL_areFences 22 = .ok (.aload_n 0, 1) := by decide +kernel
theorem dL_areFences_23 : decode cL_areFences 23 = .ok (.iconst (-1), 1) := by decide +kernel
theorem dL_areFences_24 : decode cL_areFences 24 = .ok (.invokestatic 87, 3) := by decide +kernel
theorem dL_areFences_27 : decode cL_areFences 27 = .ok (.bipush (-101), 2) := by decide +kernel
theorem dL_areFences_29 : decode cL_areFences 29 = .ok (.if_icmp .ne 80, 3) := by decide +kernel
theorem dL_areFences_32 : decode cL_areFences 32 = .ok (.aload_n 0, 1) := by decide +kernel
theorem dL_areFences_33 : decode cL_areFences 33 = .ok (.iconst 2, 1) := by decide +kernel
theorem dL_areFences_34 : decode cL_areFences 34 = .ok (.invokestatic 90, 3) := by decide +kernel
theorem dL_areFences_37 : decode cL_areFences 37 = .ok (.bipush (-101), 2) := by decide +kernel
theorem dL_areFences_39 : decode cL_areFences 39 = .ok (.if_icmp .ne 70, 3) := by decide +kernel
theorem dL_areFences_42 : decode cL_areFences 42 = .ok (.aload_n 0, 1) := by decide +kernel
theorem dL_areFences_43 : decode cL_areFences 43 = .ok (.iconst 5, 1) := by decide +kernel
theorem dL_areFences_44 : decode cL_areFences 44 = .ok (.invokestatic 93, 3) := by decide +kernel
theorem dL_areFences_47 : decode cL_areFences 47 = .ok (.bipush (-101), 2) := by decide +kernel
theorem dL_areFences_49 : decode cL_areFences 49 = .ok (.if_icmp .ne 60, 3) := by decide +kernel
theorem dL_areFences_52 : decode cL_areFences 52 = .ok (.aload_n 0, 1) := by decide +kernel
theorem dL_areFences_53 : decode cL_areFences 53 = .ok (.bipush 31, 2) := by decide +kernel
theorem dL_areFences_55 : decode cL_areFences 55 = .ok (.invokestatic 96, 3) := by decide +kernel
theorem dL_areFences_58 : decode cL_areFences 58 = .ok (.bipush (-101), 2) := by decide +kernel
theorem dL_areFences_60 : decode cL_areFences 60 = .ok (.if_icmp .ne 49, 3) := by decide +kernel
theorem dL_areFences_63 : decode cL_areFences 63 = .ok (.aload_n 0, 1) := by decide +kernel
theorem dL_areFences_64 : decode cL_areFences 64 = .ok (.iconst (-1), 1) := by decide +kernel
theorem dL_areFences_65 : decode cL_areFences 65 = .ok (.invokestatic 99, 3) := by decide +kernel
theorem dL_areFences_68 : decode cL_areFences 68 = .ok (.bipush (-101), 2) := by decide +kernel
theorem dL_areFences_70 : decode cL_areFences 70 = .ok (.if_icmp .ne 39, 3) := by decide +kernel
theorem dL_areFences_73 : decode cL_areFences 73 = .ok (.aload_n 0, 1) := by decide +kernel
theorem dL_areFences_74 : decode cL_areFences 74 = .ok (.bipush 31, 2) := by decide +kernel
theorem dL_areFences_76 : decode cL_areFences 76 = .ok (.invokestatic 102, 3) := by decide +kernel
theorem dL_areFences_79 : decode cL_areFences 79 = .ok (.bipush (-101), 2) := by decide +kernel
theorem dL_areFences_81 : decode cL_areFences 81 = .ok (.if_icmp .ne 28, 3) := by decide +kernel
theorem dL_areFences_84 : decode cL_areFences 84 = .ok (.aload_n 0, 1) := by decide +kernel
theorem dL_areFences_85 : decode cL_areFences 85 = .ok (.bipush 12, 2) := by decide +kernel
theorem dL_areFences_87 : decode cL_areFences 87 = .ok (.invokestatic 105, 3) := by decide +kernel
theorem dL_areFences_90 : decode cL_areFences 90 = .ok (.bipush (-101), 2) := by decide +kernel
theorem dL_areFences_92 : decode cL_areFences 92 = .ok (.if_icmp .ne 17, 3) := by decide +kernel
theorem dL_areFences_95 : decode cL_areFences 95 = .ok (.aload_n 0, 1) := by decide +kernel
theorem dL_areFences_96 : decode cL_areFences 96 = .ok (.iconst 2, 1) := by decide +kernel
theorem dL_areFences_97 : decode cL_areFences 97 = .ok (.invokestatic 108, 3) := by decide +kernel
theorem dL_areFences_100 : decode cL_areFences 100 = .ok (.bipush (-101), 2) := by decide +kernel
theorem dL_areFences_102 : decode cL_areFences 102 = .ok (.if_icmp .ne 7, 3) := by decide +kernel
theorem dL_areFences_105 : decode cL_areFences 105 = .ok (.iconst 1, 1) := by decide +kernel
theorem dL_areFences_106 : decode cL_areFences 106 = .ok (.goto 4, 3) := by decide +kernel
theorem dL_areFences_109 : decode cL_areFences 109 = .ok (.iconst 0, 1) := by decide +kernel
theorem dL_areFences_110 : decode cL_areFences 110 = .ok (.istore 4, 2) := by decide +kernel
theorem dL_areFences_112 : decode cL_areFences 112 = .ok (.iconst 5, 1) := by decide +kernel
theorem dL_areFences_113 : decode cL_areFences 113 = .ok (.newarray .int, 2) := by decide +kernel
theorem dL_areFences_115 : decode cL_areFences 115 = .ok (.astore 5, 2) := by decide +kernel
theorem dL_areFences_117 : decode cL_areFences 117 = .ok (.iconst 3, 1) := by decide +kernel
theorem dL_areFences_118 : decode cL_areFences 118 = .ok (.newarray .int, 2) := by decide +kernel
theorem dL_areFences_120 : decode cL_areFences 120 = .ok (.astore 6, 2) := by decide +kernel
theorem dL_areFences_122 : decode cL_areFences 122 = .ok (.bipush (-101), 2) := by decide +kernel
theorem dL_areFences_124 : decode cL_areFences 124 = .ok (.istore 7, 2) := by decide +kernel
theorem dL_areFences_126 : decode cL_areFences 126 = .ok (.iconst 0, 1) := by decide +kernel
theorem dL_areFences_127 : decode cL_areFences 127 = .ok (.istore 8, 2) := by decide +kernel
theorem dL_areFences_129 : decode cL_areFences 129 = .ok (.iconst 0, 1) := by decide +kernel
theorem dL_areFences_130 : decode cL_areFences 130 = .ok (.istore 9, 2) := by decide +kernel
theorem dL_areFences_132 : decode cL_areFences 132 = .ok (.iload_n 1, 1) := by decide +kernel
theorem dL_areFences_133 : decode cL_areFences 133 = .ok (.istore 10, 2) := by decide +kernel
theorem dL_areFences_135 : decode cL_areFences 135 = .ok (.bipush (-101), 2) := by decide +kernel
theorem dL_areFences_137 : decode cL_areFences 137 = .ok (.istore 11, 2) := by decide +kernel
theorem dL_areFences_139 : decode cL_areFences 139 = .ok (.bipush 99, 2) := by decide +kernel
theorem dL_areFences_141 : decode cL_areFences 141 = .ok (.istore 12, 2) := by decide +kernel
theorem dL_areFences_143 : decode cL_areFences 143 = .ok (.iconst 0, 1) := by decide +kernel
theorem dL_areFences_144 : decode cL_areFences 144 = .ok (.istore 13, 2) := by decide +kernel
theorem dL_areFences_146 : decode cL_areFences 146 = .ok (.iload 13, 2) := by decide +kernel
theorem dL_areFences_148 : decode cL_areFences 148 = .ok (.bipush 12, 2) := by decide +kernel
theorem dL_areFences_150 : decode cL_areFences 150 = .ok (.if_icmp .ge 87, 3) := by decide +kernel
theorem dL_areFences_153 : decode cL_areFences 153 = .ok (.iload 4, 2) := by decide +kernel
theorem dL_areFences_155 : decode cL_areFences 155 = .ok (.ifCond .eq 82, 3) := by decide +kernel
theorem dL_areFences_158 : decode cL_areFences 158 = .ok (.aload 5, 2) := by decide +kernel
theorem dL_areFences_160 : decode cL_areFences 160 = .ok (.iload_n 1, 1) := by decide +kernel
theorem dL_areFences_161 : decode cL_areFences 161 = .ok (.iload 13, 2) := by decide +kernel
theorem dL_areFences_163 : decode cL_areFences 163 = .ok (.invokestatic 77, 3) := by decide +kernel
theorem dL_areFences_166 : decode cL_areFences 166 = .ok (.dup2, 1) := by decide +kernel
theorem dL_areFences_167 : decode cL_areFences 167 = .ok (.iaload, 1) := by decide +kernel
theorem dL_areFences_168 : decode cL_areFences 168 = .ok (.iconst 1, 1) := by decide +kernel
theorem dL_areFences_169 : decode cL_areFences 169 = .ok (.iadd, 1) := by decide +kernel
theorem dL_areFences_170 : decode cL_areFences 170 = .ok (.iastore, 1) := by decide +kernel
theorem dL_areFences_171 : decode cL_areFences 171 = .ok (.aload 6, 2) := by decide +kernel
theorem dL_areFences_173 : decode cL_areFences 173 = .ok (.aload_n 2, 1) := by decide +kernel
theorem dL_areFences_174 : decode cL_areFences 174 = .ok (.iload 13, 2) := by decide +kernel
theorem dL_areFences_176 : decode cL_areFences 176 = .ok (.iaload, 1) := by decide +kernel
theorem dL_areFences_177 : decode cL_areFences 177 = .ok (.iconst 1, 1) := by decide +kernel
theorem dL_areFences_178 : decode cL_areFences 178 = .ok (.iadd, 1) := by decide +kernel
theorem dL_areFences_179 : decode cL_areFences 179 = .ok (.dup2, 1) := by decide +kernel
theorem dL_areFences_180 : decode cL_areFences 180 = .ok (.iaload, 1) := by decide +kernel
theorem dL_areFences_181 : decode cL_areFences 181 = .ok (.iconst 1, 1) := by decide +kernel
theorem dL_areFences_182 : decode cL_areFences 182 = .ok (.iadd, 1) := by decide +kernel
theorem dL_areFences_183 : decode cL_areFences 183 = .ok (.iastore, 1) := by decide +kernel
theorem dL_areFences_184 : decode cL_areFences 184 = .ok (.aload_n 0, 1) := by decide +kernel
theorem dL_areFences_185 : decode cL_areFences 185 = .ok (.iload 13, 2) := by decide +kernel
theorem dL_areFences_187 : decode cL_areFences 187 = .ok (.invokestatic 84, 3) := by decide +kernel
theorem dL_areFences_190 : decode cL_areFences 190 = .ok (.iload_n 1, 1) := by decide +kernel
theorem dL_areFences_191 : decode cL_areFences 191 = .ok (.iload 13, 2) := by decide +kernel
theorem dL_areFences_193 : decode cL_areFences 193 = .ok (.invokestatic 77, 3) := by decide +kernel
theorem dL_areFences_196 : decode cL_areFences 196 = .ok (.if_icmp .ne 32, 3) := by decide +kernel
theorem dL_areFences_199 : decode cL_areFences 199 = .ok (.aload_n 0, 1) := by decide +kernel
theorem dL_areFences_200 : decode cL_areFences 200 = .ok (.iload 13, 2) := by decide +kernel
theorem dL_areFences_202 : decode cL_areFences 202 = .ok (.invokestatic 87, 3) := by decide +kernel
theorem dL_areFences_205 : decode cL_areFences 205 = .ok (.aload_n 2, 1) := by decide +kernel
theorem dL_areFences_206 : decode cL_areFences 206 = .ok (.iload 13, 2) := by decide +kernel
theorem dL_areFences_208 : decode cL_areFences 208 = .ok (.iaload, 1) := by decide +kernel
theorem dL_areFences_209 : decode cL_areFences 209 = .ok (.ifCond .ge 8, 3) := by decide +kernel
theorem dL_areFences_212 : decode cL_areFences 212 = .ok (.bipush (-102), 2) := by decide +kernel
theorem dL_areFences_214 : decode cL_areFences 214 = .ok (.goto 7, 3) := by decide +kernel
theorem dL_areFences_217 : decode cL_areFences 217 = .ok (.aload_n 2, 1) := by decide +kernel
theorem dL_areFences_218 : decode cL_areFences 218 = .ok (.iload 13, 2) := by decide +kernel
theorem dL_areFences_220 : decode cL_areFences 220 = .ok (.iaload, 1) := by decide +kernel
theorem dL_areFences_221 : decode cL_areFences 221 = .ok (.if_icmp .ne 7, 3) := by decide +kernel
theorem dL_areFences_224 : decode cL_areFences 224 = .ok (.iconst 1, 1) := by decide +kernel
theorem dL_areFences_225 : decode cL_areFences 225 = .ok (.goto 4, 3) := by decide +kernel
theorem dL_areFences_228 : decode cL_areFences 228 = .ok (.iconst 0, 1) := by decide +kernel
theorem dL_areFences_229 : decode cL_areFences 229 = .ok (.istore 4, 2) := by decide +kernel
theorem dL_areFences_231 : decode cL_areFences 231 = .ok (.iinc 13 1, 3) := by decide +kernel
theorem dL_areFences_234 : decode cL_areFences 234 = .ok (.goto (-88), 3) := by decide +kernel
theorem dL_areFences_237 : decode cL_areFences 237 = .ok (.iconst 0, 1) := by decide +kernel
theorem dL_areFences_238 : decode cL_areFences 238 = .ok (.istore 13, 2) := by decide +kernel
theorem dL_areFences_240 : decode cL_areFences 240 = .ok (.iload 13, 2) := by decide +kernel
theorem dL_areFences_242 : decode cL_areFences 242 = .ok (.bipush 31, 2) := by decide +kernel
theorem dL_areFences_244 : decode cL_areFences 244 = .ok (.if_icmp .ge 255, 3) := by decide +kernel
theorem dL_areFences_247 : decode cL_areFences 247 = .ok (.iload 4, 2) := by decide +kernel
theorem dL_areFences_249 : decode cL_areFences 249 = .ok (.ifCond .eq 250, 3) := by decide +kernel
theorem dL_areFences_252 : decode cL_areFences 252 = .ok (.iload_n 1, 1) := by decide +kernel
theorem dL_areFences_253 : decode cL_areFences 253 = .ok (.iload 13, 2) := by decide +kernel
theorem dL_areFences_255 : decode cL_areFences 255 = .ok (.ishr, 1) := by decide +kernel
theorem dL_areFences_256 : decode cL_areFences 256 = .ok (.iconst 1, 1) := by decide +kernel
theorem dL_areFences_257 : decode cL_areFences 257 = .ok (.iand, 1) := by decide +kernel
theorem dL_areFences_258 : decode cL_areFences 258 = .ok (.iconst 1, 1) := by decide +kernel
theorem dL_areFences_259 : decode cL_areFences 259 = .ok (.if_icmp .ne 7, 3) := by decide +kernel
theorem dL_areFences_262 : decode cL_areFences 262 = .ok (.iconst 1, 1) := by decide +kernel
theorem dL_areFences_263 : decode cL_areFences 263 = .ok (.goto 4, 3) := by decide +kernel
theorem dL_areFences_266 : decode cL_areFences 266 = .ok (.iconst 0, 1) := by decide +kernel
theorem dL_areFences_267 : decode cL_areFences 267 = .ok (.istore 14, 2) := by decide +kernel
theorem dL_areFences_269 : decode cL_areFences 269 = .ok (.iload 7, 2) := by decide +kernel
theorem dL_areFences_271 : decode cL_areFences 271 = .ok (.ifCond .ge 22, 3) := by decide +kernel
theorem dL_areFences_274 : decode cL_areFences 274 = .ok (.iload 14, 2) := by decide +kernel
theorem dL_areFences_276 : decode cL_areFences 276 = .ok (.ifCond .ne 17, 3) := by decide +kernel
theorem dL_areFences_279 : decode cL_areFences 279 = .ok (.iload_n 1, 1) := by decide +kernel
theorem dL_areFences_280 : decode cL_areFences 280 = .ok (.iload 13, 2) := by decide +kernel
theorem dL_areFences_282 : decode cL_areFences 282 = .ok (.invokestatic 111, 3) := by decide +kernel
theorem dL_areFences_285 : decode cL_areFences 285 = .ok (.ifCond .le 8, 3) := by decide +kernel
theorem dL_areFences_288 : decode cL_areFences 288 = .ok (.iload 13, 2) := by decide +kernel
theorem dL_areFences_290 : decode cL_areFences 290 = .ok (.goto 5, 3) := by decide +kernel
theorem dL_areFences_293 : decode cL_areFences 293 = .ok (.iload 7, 2) := by decide +kernel
theorem dL_areFences_295 : decode cL_areFences 295 = .ok (.istore 7, 2) := by decide +kernel
theorem dL_areFences_297 : decode cL_areFences 297 = .ok (.iload 8, 2) := by decide +kernel
theorem dL_areFences_299 : decode cL_areFences 299 = .ok (.iload_n 1, 1) := by decide +kernel
theorem dL_areFences_300 : decode cL_areFences 300 = .ok (.iload 13, 2) := by decide +kernel
theorem dL_areFences_302 : decode cL_areFences 302 = .ok (.invokestatic 114, 3) := by decide +kernel
theorem dL_areFences_305 : decode cL_areFences 305 = .ok (.ifCond .eq 7, 3) := by decide +kernel
theorem dL_areFences_308 : decode cL_areFences 308 = .ok (.iconst 1, 1) := by decide +kernel
theorem dL_areFences_309 : decode cL_areFences 309 = .ok (.goto 4, 3) := by decide +kernel
theorem dL_areFences_312 : decode cL_areFences 312 = .ok (.iconst 0, 1) := by decide +kernel
theorem dL_areFences_313 : decode cL_areFences 313 = .ok (.iadd, 1) := by decide +kernel
theorem dL_areFences_314 : decode cL_areFences 314 = .ok (.istore 8, 2) := by decide +kernel
theorem dL_areFences_316 : decode cL_areFences 316 = .ok (.iload 10, 2) := by decide +kernel
theorem dL_areFences_318 : decode cL_areFences 318 = .ok (.iload 13, 2) := by decide +kernel
theorem dL_areFences_320 : decode cL_areFences 320 = .ok (.invokestatic 114, 3) := by decide +kernel
theorem dL_areFences_323 : decode cL_areFences 323 = .ok (.ifCond .eq 15, 3) := by decide +kernel
theorem dL_areFences_326 : decode cL_areFences 326 = .ok (.iload 10, 2) := by decide +kernel
theorem dL_areFences_328 : decode cL_areFences 328 = .ok (.iconst 1, 1) := by decide +kernel
theorem dL_areFences_329 : decode cL_areFences 329 = .ok (.iload 13, 2) := by decide +kernel
theorem dL_areFences_331 : decode cL_areFences 331 = .ok (.ishl, 1) := by decide +kernel
theorem dL_areFences_332 : decode cL_areFences 332 = .ok (.ior, 1) := by decide +kernel
theorem dL_areFences_333 : decode cL_areFences 333 = .ok (.istore 10, 2) := by decide +kernel
theorem dL_areFences_335 : decode cL_areFences 335 = .ok (.iinc 9 1, 3) := by decide +kernel
theorem dL_areFences_338 : decode cL_areFences 338 = .ok (.iload 14, 2) := by decide +kernel
theorem dL_areFences_340 : decode cL_areFences 340 = .ok (.ifCond .eq 8, 3) := by decide +kernel
theorem dL_areFences_343 : decode cL_areFences 343 = .ok (.bipush (-102), 2) := by decide +kernel
theorem dL_areFences_345 : decode cL_areFences 345 = .ok (.goto 12, 3) := by decide +kernel
theorem dL_areFences_348 : decode cL_areFences 348 = .ok (.iload_n 1, 1) := by decide +kernel
theorem dL_areFences_349 : decode cL_areFences 349 = .ok (.iconst 1, 1) := by decide +kernel
theorem dL_areFences_350 : decode cL_areFences 350 = .ok (.iload 13, 2) := by decide +kernel
theorem dL_areFences_352 : decode cL_areFences 352 = .ok (.ishl, 1) := by decide +kernel
theorem dL_areFences_353 : decode cL_areFences 353 = .ok (.ior, 1) := by decide +kernel
theorem dL_areFences_354 : decode cL_areFences 354 = .ok (.invokestatic 118, 3) := by decide +kernel
theorem dL_areFences_357 : decode cL_areFences 357 = .ok (.istore 15, 2) := by decide +kernel
theorem dL_areFences_359 : decode cL_areFences 359 = .ok (.iload 14, 2) := by decide +kernel
theorem dL_areFences_361 : decode cL_areFences 361 = .ok (.ifCond .ne 15, 3) := by decide +kernel
theorem dL_areFences_364 : decode cL_areFences 364 = .ok (.iload 15, 2) := by decide +kernel
theorem dL_areFences_366 : decode cL_areFences 366 = .ok (.iload 12, 2) := by decide +kernel
theorem dL_areFences_368 : decode cL_areFences 368 = .ok (.if_icmp .ge 8, 3) := by decide +kernel
theorem dL_areFences_371 : decode cL_areFences 371 = .ok (.iload 13, 2) := by decide +kernel
theorem dL_areFences_373 : decode cL_areFences 373 = .ok (.goto 5, 3) := by decide +kernel
theorem dL_areFences_376 : decode cL_areFences 376 = .ok (.iload 11, 2) := by decide +kernel
theorem dL_areFences_378 : decode cL_areFences 378 = .ok (.istore 11, 2) := by decide +kernel
theorem dL_areFences_380 : decode cL_areFences 380 = .ok (.iload 14, 2) := by decide +kernel
theorem dL_areFences_382 : decode cL_areFences 382 = .ok (.ifCond .ne 15, 3) := by decide +kernel
theorem dL_areFences_385 : decode cL_areFences 385 = .ok (.iload 15, 2) := by decide +kernel
theorem dL_areFences_387 : decode cL_areFences 387 = .ok (.iload 12, 2) := by decide +kernel
theorem dL_areFences_389 : decode cL_areFences 389 = .ok (.if_icmp .ge 8, 3) := by decide +kernel
theorem dL_areFences_392 : decode cL_areFences 392 = .ok (.iload 15, 2) := by decide +kernel
theorem dL_areFences_394 : decode cL_areFences 394 = .ok (.goto 5, 3) := by decide +kernel
theorem dL_areFences_397 : decode cL_areFences 397 = .ok (.iload 12, 2) := by decide +kernel
theorem dL_areFences_399 : decode cL_areFences 399 = .ok (.istore 12, 2) := by decide +kernel
theorem dL_areFences_401 : decode cL_areFences 401 = .ok (.aload_n 0, 1) := by decide +kernel
theorem dL_areFences_402 : decode cL_areFences 402 = .ok (.iload 13, 2) := by decide +kernel
theorem dL_areFences_404 : decode cL_areFences 404 = .ok (.invokestatic 80, 3) := by decide +kernel
theorem dL_areFences_407 : decode cL_areFences 407 = .ok (.iload 14, 2) := by decide +kernel
theorem dL_areFences_409 : decode cL_areFences 409 = .ok (.ifCond .eq 7, 3) := by decide +kernel
theorem dL_areFences_412 : decode cL_areFences 412 = .ok (.iconst 1, 1) := by decide +kernel
theorem dL_areFences_413 : decode cL_areFences 413 = .ok (.goto 4, 3) := by decide +kernel
theorem dL_areFences_416 : decode cL_areFences 416 = .ok (.iconst 0, 1) := by decide +kernel
theorem dL_areFences_417 : decode cL_areFences 417 = .ok (.if_icmp .ne 73, 3) := by decide +kernel
theorem dL_areFences_420 : decode cL_areFences 420 = .ok (.aload_n 0, 1) := by decide +kernel
theorem dL_areFences_421 : decode cL_areFences 421 = .ok (.iload 13, 2) := by decide +kernel
theorem dL_areFences_423 : decode cL_areFences 423 = .ok (.invokestatic 96, 3) := by decide +kernel
theorem dL_areFences_426 : decode cL_areFences 426 = .ok (.iload_n 1, 1) := by decide +kernel
theorem dL_areFences_427 : decode cL_areFences 427 = .ok (.invokestatic 121, 3) := by decide +kernel
theorem dL_areFences_430 : decode cL_areFences 430 = .ok (.bipush 31, 2) := by decide +kernel
theorem dL_areFences_432 : decode cL_areFences 432 = .ok (.if_icmp .ne 7, 3) := by decide +kernel
theorem dL_areFences_435 : decode cL_areFences 435 = .ok (.iconst 1, 1) := by decide +kernel
theorem dL_areFences_436 : decode cL_areFences 436 = .ok (.goto 13, 3) := by decide +kernel
theorem dL_areFences_439 : decode cL_areFences 439 = .ok (.iload 14, 2) := by decide +kernel
theorem dL_areFences_441 : decode cL_areFences 441 = .ok (.ifCond .eq 7, 3) := by decide +kernel
theorem dL_areFences_444 : decode cL_areFences 444 = .ok (.iconst 2, 1) := by decide +kernel
theorem dL_areFences_445 : decode cL_areFences 445 = .ok (.goto 4, 3) := by decide +kernel
theorem dL_areFences_448 : decode cL_areFences 448 = .ok (.iconst 0, 1) := by decide +kernel
theorem dL_areFences_449 : decode cL_areFences 449 = .ok (.if_icmp .ne 41, 3) := by decide +kernel
theorem dL_areFences_452 : decode cL_areFences 452 = .ok (.aload_n 0, 1) := by decide +kernel
theorem dL_areFences_453 : decode cL_areFences 453 = .ok (.iload 13, 2) := by decide +kernel
theorem dL_areFences_455 : decode cL_areFences 455 = .ok (.invokestatic 99, 3) := by decide +kernel
theorem dL_areFences_458 : decode cL_areFences 458 = .ok (.iload_n 1, 1) := by decide +kernel
theorem dL_areFences_459 : decode cL_areFences 459 = .ok (.iload 13, 2) := by decide +kernel
theorem dL_areFences_461 : decode cL_areFences 461 = .ok (.invokestatic 114, 3) := by decide +kernel
theorem dL_areFences_464 : decode cL_areFences 464 = .ok (.ifCond .eq 7, 3) := by decide +kernel
theorem dL_areFences_467 : decode cL_areFences 467 = .ok (.iconst 1, 1) := by decide +kernel
theorem dL_areFences_468 : decode cL_areFences 468 = .ok (.goto 4, 3) := by decide +kernel
theorem dL_areFences_471 : decode cL_areFences 471 = .ok (.iconst 0, 1) := by decide +kernel
