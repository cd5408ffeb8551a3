theorem dL_cell_0 : decode cL_cell 0 = .ok (.iload_n 1, 1) := by decide +kernel
theorem dL_cell_1 : decode cL_cell 1 = .ok (.aload_n 0, 1) := by decide +kernel
theorem dL_cell_2 : decode cL_cell 2 = .ok (.arraylength, 1) := by decide +kernel
theorem dL_cell_3 : decode cL_cell 3 = .ok (.if_icmp .ge 9, 3) := by decide +kernel
theorem dL_cell_6 : decode cL_cell 6 = .ok (.aload_n 0, 1) := by decide +kernel
theorem dL_cell_7 : decode cL_cell 7 = .ok (.iload_n 1, 1) := by decide +kernel
theorem dL_cell_8 : decode cL_cell 8 = .ok (.iaload, 1) := by decide +kernel
theorem dL_cell_9 : decode cL_cell 9 = .ok (.goto 9, 3) := by decide +kernel
theorem dL_cell_12 : decode cL_cell 12 = .ok (.ldc 7, 2) := by decide +kernel
theorem dL_cell_14 : decode cL_cell 14 = .ok (.iload_n 1, 1) := by decide +kernel
theorem dL_cell_15 : decode cL_cell 15 = .ok (.iconst 3, 1) := by decide +kernel
theorem dL_cell_16 : decode cL_cell 16 = .ok (.iadd, 1) := by decide +kernel
theorem dL_cell_17 : decode cL_cell 17 = .ok (.imul, 1) := by decide +kernel
theorem dL_cell_18 : decode cL_cell 18 = .ok (.ireturn, 1) := by decide +kernel
set_option maxRecDepth 20000 in
theorem ggL_drawOf_X7_draw : GoodIn wsL_drawOf wsX7_draw := goodIn_ca (goodIn_ca (goodIn_r _ [7, 8, 9, 10, 11, 12, 13, 14, 15, 6, 16, 17, 18, 19, 20, 21, 22, 23, 24, 25, 26, 27, 28, 29, 30, 31, 32, 33, 34, 35, 36, 37, 38, 39, 40, 41, 42, 43, 44, 45, 46, 47, 48, 49, 50, 51, 52, 53, 54, 55, 56, 57, 58, 59, 60, 61, 62, 63, 64, 65, 66, 67, 68, 69, 70, 71, 72, 73, 74, 75, 76, 77, 78, 79, 80, 81, 82, 83, 84, 85, 86, 87, 88, 89, 90, 91, 92, 93, 94, 95, 96, 97, 98, 99, 100, 101, 102] (by decide +kernel) (by decide +kernel)) (goodIn_sub (fun _ h => List.mem_cons_of_mem _ (List.mem_append_left _ (List.mem_append_right _ h))) (by decide +kernel))) (goodIn_sub (fun _ h => List.mem_cons_of_mem _ (List.mem_append_right _ h)) (by decide +kernel))
set_option maxRecDepth 20000 in
theorem gL_drawOf_X7_draw : GoodIn wsL_drawOf (wsV RL 9 RX7 yX7_draw wsX7_draw) := goodIn_app (goodIn_of _ (by decide +kernel)) ggL_drawOf_X7_draw
theorem dL_drawOf_0 : decode cL_drawOf 0 = .ok (.aload_n 0, 1) := by decide +kernel
theorem dL_drawOf_1 : decode cL_drawOf 1 = .ok (.iload_n 1, 1) := by decide +kernel
theorem dL_drawOf_2 : decode cL_drawOf 2 = .ok (.invokevirtual 9, 3) := by decide +kernel
theorem dL_drawOf_5 : decode cL_drawOf 5 = .ok (.ireturn, 1) := by decide +kernel
theorem dL_drawOf_6 : decode cL_drawOf 6 = .ok (.astore_n 2, 1) := by decide +kernel
theorem dL_drawOf_7 : decode cL_drawOf 7 = .ok (.bipush (-101), 2) := by decide +kernel
theorem dL_drawOf_9 : decode cL_drawOf 9 = .ok (.ireturn, 1) := by decide +kernel
theorem dL_drawOf_10 : decode cL_drawOf 10 = .ok (.astore_n 2, 1) := by decide +kernel
theorem dL_drawOf_11 : decode cL_drawOf 11 = .ok (.bipush (-102), 2) := by decide +kernel
theorem dL_drawOf_13 : decode cL_drawOf 13 = .ok (.ireturn, 1) := by decide +kernel
set_option maxRecDepth 20000 in
theorem ggL_isDrawnOf_X7_isDrawn : GoodIn wsL_isDrawnOf wsX7_isDrawn := goodIn_ca (goodIn_r _ [6, 7, 8, 9, 10, 11, 5, 12, 13, 14, 15, 16, 17, 18, 19, 20, 21, 22, 23, 24, 25, 26, 27, 28, 29, 30] (by decide +kernel) (by decide +kernel)) (goodIn_sub (fun _ h => List.mem_cons_of_mem _ (List.mem_append_right _ h)) (by decide +kernel))
set_option maxRecDepth 20000 in
theorem gL_isDrawnOf_X7_isDrawn : GoodIn wsL_isDrawnOf (wsV RL 19 RX7 yX7_isDrawn wsX7_isDrawn) := goodIn_app (goodIn_of _ (by decide +kernel)) ggL_isDrawnOf_X7_isDrawn
theorem dL_isDrawnOf_0 : decode cL_isDrawnOf 0 = .ok (.aload_n 0, 1) := by decide +kernel
theorem dL_isDrawnOf_1 : decode cL_isDrawnOf 1 = .ok (.iload_n 1, 1) := by decide +kernel
theorem dL_isDrawnOf_2 : decode cL_isDrawnOf 2 = .ok (.invokevirtual 19, 3) := by decide +kernel
theorem dL_isDrawnOf_5 : decode cL_isDrawnOf 5 = .ok (.ifCond .eq 7, 3) := by decide +kernel
theorem dL_isDrawnOf_8 : decode cL_isDrawnOf 8 = .ok (.iconst 1, 1) := by decide +kernel
theorem dL_isDrawnOf_9 : decode cL_isDrawnOf 9 = .ok (.goto 4, 3) := by decide +kernel
theorem dL_isDrawnOf_12 : decode cL_isDrawnOf 12 = .ok (.iconst 0, 1) := by decide +kernel
theorem dL_isDrawnOf_13 : decode cL_isDrawnOf 13 = .ok (.ireturn, 1) := by decide +kernel
theorem dL_isDrawnOf_14 : decode cL_isDrawnOf 14 = .ok (.astore_n 2, 1) := by decide +kernel
theorem dL_isDrawnOf_15 : decode cL_isDrawnOf 15 = .ok (.bipush (-101), 2) := by decide +kernel
theorem dL_isDrawnOf_17 : decode cL_isDrawnOf 17 = .ok (.ireturn, 1) := by decide +kernel
set_option maxRecDepth 20000 in
theorem ggL_fencesOfOf_X7_fencesOf : GoodIn wsL_fencesOfOf wsX7_fencesOf := goodIn_ca (goodIn_r _ [6, 7, 8, 9, 10, 11, 5, 12, 13, 14, 15, 16, 17, 18, 19, 20, 21, 22, 23, 24, 25, 26, 27, 28, 29, 30, 31, 32, 33, 34, 35, 36, 37, 38, 39, 40] (by decide +kernel) (by decide +kernel)) (goodIn_sub (fun _ h => List.mem_cons_of_mem _ (List.mem_append_right _ h)) (by decide +kernel))
set_option maxRecDepth 20000 in
theorem gL_fencesOfOf_X7_fencesOf : GoodIn wsL_fencesOfOf (wsV RL 23 RX7 yX7_fencesOf wsX7_fencesOf) := goodIn_app (goodIn_of _ (by decide +kernel)) ggL_fencesOfOf_X7_fencesOf
theorem dL_fencesOfOf_0 : decode cL_fencesOfOf 0 = .ok (.aload_n 0, 1) := by decide +kernel
theorem dL_fencesOfOf_1 : decode cL_fencesOfOf 1 = .ok (.iload_n 1, 1) := by decide +kernel
theorem dL_fencesOfOf_2 : decode cL_fencesOfOf 2 = .ok (.invokevirtual 23, 3) := by decide +kernel
theorem dL_fencesOfOf_5 : decode cL_fencesOfOf 5 = .ok (.ireturn, 1) := by decide +kernel
theorem dL_fencesOfOf_6 : decode cL_fencesOfOf 6 = .ok (.astore_n 2, 1) := by decide +kernel
theorem dL_fencesOfOf_7 : decode cL_fencesOfOf 7 = .ok (.bipush (-101), 2) := by decide +kernel
theorem dL_fencesOfOf_9 : decode cL_fencesOfOf 9 = .ok (.ireturn, 1) := by decide +kernel
set_option maxRecDepth 20000 in
theorem ggL_ownerOfOf_X7_ownerOf : GoodIn wsL_ownerOfOf wsX7_ownerOf := goodIn_ca (goodIn_ca (goodIn_r _ [7, 8, 9, 10, 11, 12, 13, 14, 6, 15, 16, 17, 18, 19, 20, 21, 22, 23, 24, 25, 26, 27, 28, 29, 30, 31, 32, 33, 34, 35, 36, 37, 38, 39, 40, 41, 42, 43, 44, 45, 46, 47, 48, 49, 50, 51, 52, 53] (by decide +kernel) (by decide +kernel)) (goodIn_sub (fun _ h => List.mem_cons_of_mem _ (List.mem_append_left _ (List.mem_append_right _ h))) (by decide +kernel))) (goodIn_sub (fun _ h => List.mem_cons_of_mem _ (List.mem_append_right _ h)) (by decide +kernel))
set_option maxRecDepth 20000 in
theorem gL_ownerOfOf_X7_ownerOf : GoodIn wsL_ownerOfOf (wsV RL 26 RX7 yX7_ownerOf wsX7_ownerOf) := goodIn_app (goodIn_of _ (by decide +kernel)) ggL_ownerOfOf_X7_ownerOf
theorem dL_ownerOfOf_0 : decode cL_ownerOfOf 0 = .ok (.aload_n 0, 1) := by decide +kernel
theorem dL_ownerOfOf_1 : decode cL_ownerOfOf 1 = .ok (.iload_n 1, 1) := by decide +kernel
theorem dL_ownerOfOf_2 : decode cL_ownerOfOf 2 = .ok (.invokevirtual 26, 3) := by decide +kernel
theorem dL_ownerOfOf_5 : decode cL_ownerOfOf 5 = .ok (.ireturn, 1) := by decide +kernel
theorem dL_ownerOfOf_6 : decode cL_ownerOfOf 6 = .ok (.astore_n 2, 1) := by decide +kernel
theorem dL_ownerOfOf_7 : decode cL_ownerOfOf 7 = .ok (.bipush (-101), 2) := by decide +kernel
theorem dL_ownerOfOf_9 : decode cL_ownerOfOf 9 = .ok (.ireturn, 1) := by decide +kernel
theorem dL_ownerOfOf_10 : decode cL_ownerOfOf 10 = .ok (.astore_n 2, 1) := by decide +kernel
theorem dL_ownerOfOf_11 : decode cL_ownerOfOf 11 = .ok (.bipush (-102), 2) := by decide +kernel
theorem dL_ownerOfOf_13 : decode cL_ownerOfOf 13 = .ok (.ireturn, 1) := by decide +kernel
set_option maxRecDepth 20000 in
theorem ggL_boxesOfOf_X7_boxesOf : GoodIn wsL_boxesOfOf wsX7_boxesOf := goodIn_ca (goodIn_r _ [6, 7, 8, 9, 10, 11, 5, 12, 13, 14, 15, 16, 17, 18, 19, 20, 21, 22, 23, 24, 25, 26, 27, 28, 29, 30, 31, 32, 33, 34, 35, 36, 37, 38, 39, 40] (by decide +kernel) (by decide +kernel)) (goodIn_sub (fun _ h => List.mem_cons_of_mem _ (List.mem_append_right _ h)) (by decide +kernel))
set_option maxRecDepth 20000 in
theorem gL_boxesOfOf_X7_boxesOf : GoodIn wsL_boxesOfOf (wsV RL 31 RX7 yX7_boxesOf wsX7_boxesOf) := goodIn_app (goodIn_of _ (by decide +kernel)) ggL_boxesOfOf_X7_boxesOf
theorem dL_boxesOfOf_0 : decode cL_boxesOfOf 0 = .ok (.aload_n 0, 1) := by decide +kernel
theorem dL_boxesOfOf_1 : decode cL_boxesOfOf 1 = .ok (.iload_n 1, 1) := by decide +kernel
theorem dL_boxesOfOf_2 : decode cL_boxesOfOf 2 = .ok (.invokevirtual 31, 3) := by decide +kernel
theorem dL_boxesOfOf_5 : decode cL_boxesOfOf 5 = .ok (.ireturn, 1) := by decide +kernel
theorem dL_boxesOfOf_6 : decode cL_boxesOfOf 6 = .ok (.astore_n 2, 1) := by decide +kernel
theorem dL_boxesOfOf_7 : decode cL_boxesOfOf 7 = .ok (.bipush (-101), 2) := by decide +kernel
theorem dL_boxesOfOf_9 : decode cL_boxesOfOf 9 = .ok (.ireturn, 1) := by decide +kernel
set_option maxRecDepth 20000 in
theorem ggL_boxesWithOf_X7_boxesWith : GoodIn wsL_boxesWithOf wsX7_boxesWith := goodIn_ca (goodIn_r _ [6, 7, 8, 9, 10, 11, 12, 13, 14, 15, 16, 17, 18, 19, 20, 21, 22, 23, 24, 25, 26, 27, 28, 29, 30, 31, 32, 33, 34, 35, 36, 37, 38, 39, 40, 41] (by decide +kernel) (by decide +kernel)) (goodIn_sub (fun _ h => List.mem_cons_of_mem _ (List.mem_append_right _ h)) (by decide +kernel))
set_option maxRecDepth 20000 in
theorem gL_boxesWithOf_X7_boxesWith : GoodIn wsL_boxesWithOf (wsV RL 34 RX7 yX7_boxesWith wsX7_boxesWith) := goodIn_app (goodIn_of _ (by decide +kernel)) ggL_boxesWithOf_X7_boxesWith
theorem dL_boxesWithOf_0 : decode cL_boxesWithOf 0 = .ok (.aload_n 0, 1) := by decide +kernel
theorem dL_boxesWithOf_1 : decode cL_boxesWithOf 1 = .ok (.iload_n 1, 1) := by decide +kernel
theorem dL_boxesWithOf_2 : decode cL_boxesWithOf 2 = .ok (.invokevirtual 34, 3) := by decide +kernel
theorem dL_boxesWithOf_5 : decode cL_boxesWithOf 5 = .ok (.ireturn, 1) := by decide +kernel
theorem dL_boxesWithOf_6 : decode cL_boxesWithOf 6 = .ok (.astore_n 2, 1) := by decide +kernel
theorem dL_boxesWithOf_7 : decode cL_boxesWithOf 7 = .ok (.bipush (-101), 2) := by decide +kernel
theorem dL_boxesWithOf_9 : decode cL_boxesWithOf 9 = .ok (.ireturn, 1) := by decide +kernel
set_option maxRecDepth 20000 in
theorem ggL_whyNotOf_X7_whyNot : GoodIn wsL_whyNotOf wsX7_whyNot := goodIn_ca (goodIn_r _ [6, 7, 8, 9, 10, 11, 5, 12, 13, 14, 15, 16, 17, 18, 19, 20, 21, 22, 23, 24, 25, 26, 27, 28, 29, 30, 31, 32, 33, 34, 35, 36, 37, 38, 39, 40, 41] (by decide +kernel) (by decide +kernel)) (goodIn_sub (fun _ h => List.mem_cons_of_mem _ (List.mem_append_right _ h)) (by decide +kernel))
set_option maxRecDepth 20000 in
theorem gL_whyNotOf_X7_whyNot : GoodIn wsL_whyNotOf (wsV RL 37 RX7 yX7_whyNot wsX7_whyNot) := goodIn_app (goodIn_of _ (by decide +kernel)) ggL_whyNotOf_X7_whyNot
theorem dL_whyNotOf_0 : decode cL_whyNotOf 0 = .ok (.aload_n 0, 1) := by decide +kernel
theorem dL_whyNotOf_1 : decode cL_whyNotOf 1 = .ok (.iload_n 1, 1) := by decide +kernel
theorem dL_whyNotOf_2 : decode cL_whyNotOf 2 = .ok (.invokevirtual 37, 3) := by decide +kernel
theorem dL_whyNotOf_5 : decode cL_whyNotOf 5 = .ok (.ireturn, 1) := by decide +kernel
theorem dL_whyNotOf_6 : decode cL_whyNotOf 6 = .ok (.astore_n 2, 1) := by decide +kernel
theorem dL_whyNotOf_7 : decode cL_whyNotOf 7 = .ok (.bipush (-101), 2) := by decide +kernel
theorem dL_whyNotOf_9 : decode cL_whyNotOf 9 = .ok (.ireturn, 1) := by decide +kernel
set_option maxRecDepth 20000 in
theorem ggL_takingFenceOf_X7_takingFence : GoodIn wsL_takingFenceOf wsX7_takingFence := goodIn_ca (goodIn_r _ [6, 7, 8, 9, 10, 11, 12, 13, 14, 15, 16, 17, 18, 19, 20, 21, 22, 23, 24, 25, 26, 27, 28, 29, 30, 31, 32, 33, 34, 35, 36, 37, 38, 39, 40, 41, 42, 43, 44, 45, 46, 47, 48] (by decide +kernel) (by decide +kernel)) (goodIn_sub (fun _ h => List.mem_cons_of_mem _ (List.mem_append_right _ h)) (by decide +kernel))
set_option maxRecDepth 20000 in
theorem gL_takingFenceOf_X7_takingFence : GoodIn wsL_takingFenceOf (wsV RL 40 RX7 yX7_takingFence wsX7_takingFence) := goodIn_app (goodIn_of _ (by decide +kernel)) ggL_takingFenceOf_X7_takingFence
theorem dL_takingFenceOf_0 : decode cL_takingFenceOf 0 = .ok (.aload_n 0, 1) := by decide +kernel
theorem dL_takingFenceOf_1 : decode cL_takingFenceOf 1 = .ok (.invokevirtual 40, 3) := by decide +kernel
theorem dL_takingFenceOf_4 : decode cL_takingFenceOf 4 = .ok (.ireturn, 1) := by decide +kernel
theorem dL_takingFenceOf_5 : decode cL_takingFenceOf 5 = .ok (.astore_n 1, 1) := by decide +kernel
theorem dL_takingFenceOf_6 : decode cL_takingFenceOf 6 = .ok (.bipush (-101), 2) := by decide +kernel
theorem dL_takingFenceOf_8 : decode cL_takingFenceOf 8 = .ok (.ireturn, 1) := by decide +kernel
set_option maxRecDepth 20000 in
theorem ggL_isSafeOf_X7_isSafe : GoodIn wsL_isSafeOf wsX7_isSafe := goodIn_ca (goodIn_r _ [6, 7, 8, 9, 10, 11, 5, 12, 13, 14, 15, 16, 17, 18, 19, 20, 21, 22, 23, 24, 25, 26, 27, 28, 29, 30, 31, 32, 33, 34, 35, 36, 37, 38, 39, 40, 41, 42, 43, 44, 45, 46, 47, 48, 49, 50, 51, 52, 53, 54, 55, 56, 57, 58, 59, 60] (by decide +kernel) (by decide +kernel)) (goodIn_sub (fun _ h => List.mem_cons_of_mem _ (List.mem_append_right _ h)) (by decide +kernel))
set_option maxRecDepth 20000 in
theorem gL_isSafeOf_X7_isSafe : GoodIn wsL_isSafeOf (wsV RL 44 RX7 yX7_isSafe wsX7_isSafe) := goodIn_app (goodIn_of _ (by decide +kernel)) ggL_isSafeOf_X7_isSafe
theorem dL_isSafeOf_0 : decode cL_isSafeOf 0 = .ok (.aload_n 0, 1) := by decide +kernel
theorem dL_isSafeOf_1 : decode cL_isSafeOf 1 = .ok (.iload_n 1, 1) := by decide +kernel
theorem dL_isSafeOf_2 : decode cL_isSafeOf 2 = .ok (.invokevirtual 44, 3) := by decide +kernel
theorem dL_isSafeOf_5 : decode cL_isSafeOf 5 = .ok (.ifCond .eq 7, 3) := by decide +kernel
theorem dL_isSafeOf_8 : decode cL_isSafeOf 8 = .ok (.iconst 1, 1) := by decide +kernel
theorem dL_isSafeOf_9 : decode cL_isSafeOf 9 = .ok (.goto 4, 3) := by decide +kernel
theorem dL_isSafeOf_12 : decode cL_isSafeOf 12 = .ok (.iconst 0, 1) := by decide +kernel
theorem dL_isSafeOf_13 : decode cL_isSafeOf 13 = .ok (.ireturn, 1) := by decide +kernel
theorem dL_isSafeOf_14 : decode cL_isSafeOf 14 = .ok (.astore_n 2, 1) := by decide +kernel
theorem dL_isSafeOf_15 : decode cL_isSafeOf 15 = .ok (.bipush (-101), 2) := by decide +kernel
theorem dL_isSafeOf_17 : decode cL_isSafeOf 17 = .ok (.ireturn, 1) := by decide +kernel
set_option maxRecDepth 20000 in
theorem ggL_givesOf_X7_gives : GoodIn wsL_givesOf wsX7_gives := goodIn_ca (goodIn_ca (goodIn_r _ [7, 8, 9, 10, 11, 12, 13, 14, 6, 15, 16, 17, 18, 19, 20, 21, 22, 23, 24, 25, 26, 27, 28, 29, 30, 31, 32, 33, 34, 35, 36, 37, 38, 39, 40, 41, 42, 43, 44, 45, 46, 47, 48, 49, 50, 51, 52, 53, 54, 55, 56, 57, 58, 59, 60, 61, 62, 63, 64, 65, 66, 67, 68, 69, 70, 71, 72, 73, 74, 75, 76, 77] (by decide +kernel) (by decide +kernel)) (goodIn_sub (fun _ h => List.mem_cons_of_mem _ (List.mem_append_left _ (List.mem_append_right _ h))) (by decide +kernel))) (goodIn_sub (fun _ h => List.mem_cons_of_mem _ (List.mem_append_right _ h)) (by decide +kernel))
set_option maxRecDepth 20000 in
theorem gL_givesOf_X7_gives : GoodIn wsL_givesOf (wsV RL 47 RX7 yX7_gives wsX7_gives) := goodIn_app (goodIn_of _ (by decide +kernel)) ggL_givesOf_X7_gives
theorem dL_givesOf_0 : decode cL_givesOf 0 = .ok (.aload_n 0, 1) := by decide +kernel
theorem dL_givesOf_1 : decode cL_givesOf 1 = .ok (.iload_n 1, 1) := by decide +kernel
theorem dL_givesOf_2 : decode cL_givesOf 2 = .ok (.invokevirtual 47, 3) := by decide +kernel
theorem dL_givesOf_5 : decode cL_givesOf 5 = .ok (.ireturn, 1) := by decide +kernel
theorem dL_givesOf_6 : decode cL_givesOf 6 = .ok (.astore_n 2, 1) := by decide +kernel
theorem dL_givesOf_7 : decode cL_givesOf 7 = .ok (.bipush (-101), 2) := by decide +kernel
theorem dL_givesOf_9 : decode cL_givesOf 9 = .ok (.ireturn, 1) := by decide +kernel
theorem dL_givesOf_10 : decode cL_givesOf 10 = .ok (.astore_n 2, 1) := by decide +kernel
theorem dL_givesOf_11 : decode cL_givesOf 11 = .ok (.bipush (-102), 2) := by decide +kernel
theorem dL_givesOf_13 : decode cL_givesOf 13 = .ok (.ireturn, 1) := by decide +kernel
set_option maxRecDepth 20000 in
theorem ggL_leastSacrificeOf_X7_leastSacrifice : GoodIn wsL_leastSacrificeOf wsX7_leastSacrifice := goodIn_ca (goodIn_r _ [6, 7, 8, 9, 10, 11, 12, 13, 14, 15, 16, 17, 18, 19, 20, 21, 22, 23, 24, 25, 26, 27, 28, 29, 30, 31, 32, 33, 34, 35, 36, 37, 38, 39, 40, 41, 42, 43, 44, 45, 46, 47, 48, 49, 50, 51, 52, 53, 54, 55, 56, 57, 58, 59, 60, 61, 62, 63, 64, 65, 66, 67, 68, 69, 70, 71, 72, 73, 74] (by decide +kernel) (by decide +kernel)) (goodIn_sub (fun _ h => List.mem_cons_of_mem _ (List.mem_append_right _ h)) (by decide +kernel))
set_option maxRecDepth 20000 in
theorem gL_leastSacrificeOf_X7_leastSacrifice : GoodIn wsL_leastSacrificeOf (wsV RL 50 RX7 yX7_leastSacrifice wsX7_leastSacrifice) := goodIn_app (goodIn_of _ (by decide +kernel)) ggL_leastSacrificeOf_X7_leastSacrifice
theorem dL_leastSacrificeOf_0 : decode cL_leastSacrificeOf 0 = .ok (.aload_n 0, 1) := by decide +kernel
theorem dL_leastSacrificeOf_1 : decode cL_leastSacrificeOf 1 = .ok (.invokevirtual 50, 3) := by decide +kernel
theorem dL_leastSacrificeOf_4 : decode cL_leastSacrificeOf 4 = .ok (.ireturn, 1) := by decide +kernel
theorem dL_leastSacrificeOf_5 : decode cL_leastSacrificeOf 5 = .ok (.astore_n 1, 1) := by decide +kernel
theorem dL_leastSacrificeOf_6 : decode cL_leastSacrificeOf 6 = .ok (.bipush (-101), 2) := by decide +kernel
theorem dL_leastSacrificeOf_8 : decode cL_leastSacrificeOf 8 = .ok (.ireturn, 1) := by decide +kernel
set_option maxRecDepth 20000 in
theorem ggL_chainOfOf_X7_chainOf : GoodIn wsL_chainOfOf wsX7_chainOf := goodIn_ca (goodIn_ca (goodIn_r _ [7, 8, 9, 10, 11, 12, 13, 14, 6, 15, 16, 17, 18, 19, 20, 21, 22, 23, 24, 25, 26, 27, 28, 29, 30, 31, 32, 33, 34, 35, 36, 37, 38, 39, 40, 41, 42, 43, 44, 45, 46, 47, 48, 49, 50, 51, 52, 53, 54, 55, 56, 57, 58, 59, 60, 61, 62, 63, 64, 65, 66, 67, 68, 69, 70] (by decide +kernel) (by decide +kernel)) (goodIn_sub (fun _ h => List.mem_cons_of_mem _ (List.mem_append_left _ (List.mem_append_right _ h))) (by decide +kernel))) (goodIn_sub (fun _ h => List.mem_cons_of_mem _ (List.mem_append_right _ h)) (by decide +kernel))
set_option maxRecDepth 20000 in
theorem gL_chainOfOf_X7_chainOf : GoodIn wsL_chainOfOf (wsV RL 53 RX7 yX7_chainOf wsX7_chainOf) := goodIn_app (goodIn_of _ (by decide +kernel)) ggL_chainOfOf_X7_chainOf
theorem dL_chainOfOf_0 : decode cL_chainOfOf 0 = .ok (.aload_n 0, 1) := by decide +kernel
theorem dL_chainOfOf_1 : decode cL_chainOfOf 1 = .ok (.iload_n 1, 1) := by decide +kernel
theorem dL_chainOfOf_2 : decode cL_chainOfOf 2 = .ok (.invokevirtual 53, 3) := by decide +kernel
theorem dL_chainOfOf_5 : decode cL_chainOfOf 5 = .ok (.ireturn, 1) := by decide +kernel
theorem dL_chainOfOf_6 : decode cL_chainOfOf 6 = .ok (.astore_n 2, 1) := by decide +kernel
theorem dL_chainOfOf_7 : decode cL_chainOfOf 7 = .ok (.bipush (-101), 2) := by decide +kernel
theorem dL_chainOfOf_9 : decode cL_chainOfOf 9 = .ok (.ireturn, 1) := by decide +kernel
theorem dL_chainOfOf_10 : decode cL_chainOfOf 10 = .ok (.astore_n 2, 1) := by decide +kernel
theorem dL_chainOfOf_11 : decode cL_chainOfOf 11 = .ok (.bipush (-102), 2) := by decide +kernel
theorem dL_chainOfOf_13 : decode cL_chainOfOf 13 = .ok (.ireturn, 1) := by decide +kernel
set_option maxRecDepth 20000 in
theorem ggL_endDifferenceOf_X7_endDifference : GoodIn wsL_endDifferenceOf wsX7_endDifference := goodIn_ca (goodIn_r _ [6, 7, 8, 9, 10, 11, 12, 13, 14, 15, 16, 17, 18, 19, 20, 21, 22, 23, 24, 25, 26, 27, 28, 29, 30, 31, 32, 33, 34, 35, 36, 37, 38, 39, 40, 41, 42, 43, 44, 45, 46, 47, 48, 49, 50, 51, 52, 53, 54, 55, 56, 57, 58, 59, 60, 61, 62, 63, 64, 65, 66, 67, 68, 69, 70, 71, 72, 73, 74, 75, 76, 77, 78, 79, 80, 81, 82, 83, 84, 85, 86, 87, 88] (by decide +kernel) (by decide +kernel)) (goodIn_sub (fun _ h => List.mem_cons_of_mem _ (List.mem_append_right _ h)) (by decide +kernel))
set_option maxRecDepth 20000 in
theorem gL_endDifferenceOf_X7_endDifference : GoodIn wsL_endDifferenceOf (wsV RL 56 RX7 yX7_endDifference wsX7_endDifference) := goodIn_app (goodIn_of _ (by decide +kernel)) ggL_endDifferenceOf_X7_endDifference
theorem dL_endDifferenceOf_0 : decode cL_endDifferenceOf 0 = .ok (.aload_n 0, 1) := by decide +kernel
theorem dL_endDifferenceOf_1 : decode cL_endDifferenceOf 1 = .ok (.invokevirtual 56, 3) := by decide +kernel
theorem dL_endDifferenceOf_4 : decode cL_endDifferenceOf 4 = .ok (.ireturn, 1) := by decide +kernel
theorem dL_endDifferenceOf_5 : decode cL_endDifferenceOf 5 = .ok (.astore_n 1, 1) := by decide +kernel
theorem dL_endDifferenceOf_6 : decode cL_endDifferenceOf 6 = .ok (.bipush (-101), 2) := by decide +kernel
theorem dL_endDifferenceOf_8 : decode cL_endDifferenceOf 8 = .ok (.ireturn, 1) := by decide +kernel
set_option maxRecDepth 20000 in
theorem ggL_endByTryingOf_X7_endByTrying : GoodIn wsL_endByTryingOf wsX7_endByTrying := goodIn_ca (goodIn_r _ [6, 7, 8, 9, 10, 11, 12, 13, 14, 15, 16, 17, 18, 19, 20, 21, 22, 23, 24, 25, 26, 27, 28, 29, 30, 31, 32, 33, 34, 35, 36, 37, 38, 39, 40, 41, 42, 43, 44, 45, 46, 47, 48, 49, 50, 51, 52, 53, 54, 55, 56, 57, 58, 59, 60, 61, 62, 63, 64, 65, 66, 67, 68, 69, 70, 71, 72, 73, 74, 75, 76, 77] (by decide +kernel) (by decide +kernel)) (goodIn_sub (fun _ h => List.mem_cons_of_mem _ (List.mem_append_right _ h)) (by decide +kernel))
set_option maxRecDepth 20000 in
theorem gL_endByTryingOf_X7_endByTrying : GoodIn wsL_endByTryingOf (wsV RL 59 RX7 yX7_endByTrying wsX7_endByTrying) := goodIn_app (goodIn_of _ (by decide +kernel)) ggL_endByTryingOf_X7_endByTrying
theorem dL_endByTryingOf_0 : decode cL_endByTryingOf 0 = .ok (.aload_n 0, 1) := by decide +kernel
theorem dL_endByTryingOf_1 : decode cL_endByTryingOf 1 = .ok (.invokevirtual 59, 3) := by decide +kernel
theorem dL_endByTryingOf_4 : decode cL_endByTryingOf 4 = .ok (.ireturn, 1) := by decide +kernel
theorem dL_endByTryingOf_5 : decode cL_endByTryingOf 5 = .ok (.astore_n 1, 1) := by decide +kernel
theorem dL_endByTryingOf_6 : decode cL_endByTryingOf 6 = .ok (.bipush (-101), 2) := by decide +kernel
theorem dL_endByTryingOf_8 : decode cL_endByTryingOf 8 = .ok (.ireturn, 1) := by decide +kernel
set_option maxRecDepth 20000 in
theorem ggL_bestFenceOf_X7_bestFence : GoodIn wsL_bestFenceOf wsX7_bestFence := goodIn_ca (goodIn_r _ [6, 7, 8, 9, 10, 11, 12, 13, 14, 15, 16, 17, 18, 19, 20, 21, 22, 23, 24, 25, 26, 27, 28, 29, 30, 31, 32, 33, 34, 35, 36, 37, 38, 39, 40, 41, 42, 43, 44, 45, 46, 47, 48, 49, 50, 51, 52, 53, 54, 55, 56, 57, 58, 59, 60, 61, 62, 63, 64, 65, 66, 67, 68, 69, 70, 71, 72, 73, 74, 75, 76, 77, 78, 79, 80, 81, 82, 83, 84, 85, 86, 87, 88, 89, 90, 91, 92, 93, 94, 95] (by decide +kernel) (by decide +kernel)) (goodIn_sub (fun _ h => List.mem_cons_of_mem _ (List.mem_append_right _ h)) (by decide +kernel))
set_option maxRecDepth 20000 in
theorem gL_bestFenceOf_X7_bestFence : GoodIn wsL_bestFenceOf (wsV RL 62 RX7 yX7_bestFence wsX7_bestFence) := goodIn_app (goodIn_of _ (by decide +kernel)) ggL_bestFenceOf_X7_bestFence
theorem dL_bestFenceOf_0 : decode cL_bestFenceOf 0 = .ok (.aload_n 0, 1) := by decide +kernel
theorem dL_bestFenceOf_1 : decode cL_bestFenceOf 1 = .ok (.invokevirtual 62, 3) := by decide +kernel
theorem dL_bestFenceOf_4 : decode cL_bestFenceOf 4 = .ok (.ireturn, 1) := by decide +kernel
theorem dL_bestFenceOf_5 : decode cL_bestFenceOf 5 = .ok (.astore_n 1, 1) := by decide +kernel
theorem dL_bestFenceOf_6 : decode cL_bestFenceOf 6 = .ok (.bipush (-101), 2) := by decide +kernel
theorem dL_bestFenceOf_8 : decode cL_bestFenceOf 8 = .ok (.ireturn, 1) := by decide +kernel
set_option maxRecDepth 20000 in
theorem ggL_wonOf_X7_won : GoodIn wsL_wonOf wsX7_won := goodIn_ca (goodIn_r _ [6, 7, 8, 9, 10, 11, 5, 12, 13, 14, 15, 16, 17, 18, 19, 20, 21, 22, 23, 24, 25, 26] (by decide +kernel) (by decide +kernel)) (goodIn_sub (fun _ h => List.mem_cons_of_mem _ (List.mem_append_right _ h)) (by decide +kernel))
set_option maxRecDepth 20000 in
theorem gL_wonOf_X7_won : GoodIn wsL_wonOf (wsV RL 65 RX7 yX7_won wsX7_won) := goodIn_app (goodIn_of _ (by decide +kernel)) ggL_wonOf_X7_won
theorem dL_wonOf_0 : decode cL_wonOf 0 = .ok (.aload_n 0, 1) := by decide +kernel
theorem dL_wonOf_1 : decode cL_wonOf 1 = .ok (.iload_n 1, 1) := by decide +kernel
theorem dL_wonOf_2 : decode cL_wonOf 2 = .ok (.invokevirtual 65, 3) := by decide +kernel
theorem dL_wonOf_5 : decode cL_wonOf 5 = .ok (.ireturn, 1) := by decide +kernel
theorem dL_wonOf_6 : decode cL_wonOf 6 = .ok (.astore_n 2, 1) := by decide +kernel
theorem dL_wonOf_7 : decode cL_wonOf 7 = .ok (.bipush (-101), 2) := by decide +kernel
theorem dL_wonOf_9 : decode cL_wonOf 9 = .ok (.ireturn, 1) := by decide +kernel
theorem dL_side_0 : decode cL_side 0 = .ok (.iload_n 1, 1) := by decide +kernel
theorem dL_side_1 : decode cL_side 1 = .ok (.ifCond .ne 7, 3) := by decide +kernel
theorem dL_side_4 : decode cL_side 4 = .ok (.iload_n 0, 1) := by decide +kernel
theorem dL_side_5 : decode cL_side 5 = .ok (.goto 30, 3) := by decide +kernel
theorem dL_side_8 : decode cL_side 8 = .ok (.iload_n 1, 1) := by decide +kernel
theorem dL_side_9 : decode cL_side 9 = .ok (.iconst 1, 1) := by decide +kernel
theorem dL_side_10 : decode cL_side 10 = .ok (.if_icmp .ne 9, 3) := by decide +kernel
theorem dL_side_13 : decode cL_side 13 = .ok (.iload_n 0, 1) := by decide +kernel
theorem dL_side_14 : decode cL_side 14 = .ok (.iconst 4, 1) := by decide +kernel
theorem dL_side_15 : decode cL_side 15 = .ok (.iadd, 1) := by decide +kernel
theorem dL_side_16 : decode cL_side 16 = .ok (.goto 19, 3) := by decide +kernel
theorem dL_side_19 : decode cL_side 19 = .ok (.bipush 16, 2) := by decide +kernel
theorem dL_side_21 : decode cL_side 21 = .ok (.iconst 5, 1) := by decide +kernel
theorem dL_side_22 : decode cL_side 22 = .ok (.iload_n 0, 1) := by decide +kernel
theorem dL_side_23 : decode cL_side 23 = .ok (.iconst 4, 1) := by decide +kernel
theorem dL_side_24 : decode cL_side 24 = .ok (.idiv, 1) := by decide +kernel
theorem dL_side_25 : decode cL_side 25 = .ok (.imul, 1) := by decide +kernel
theorem dL_side_26 : decode cL_side 26 = .ok (.iadd, 1) := by decide +kernel
theorem dL_side_27 : decode cL_side 27 = .ok (.iload_n 0, 1) := by decide +kernel
theorem dL_side_28 : decode cL_side 28 = .ok (.iconst 4, 1) := by decide +kernel
theorem dL_side_29 : decode cL_side 29 = .ok (.irem, 1) := by decide +kernel
theorem dL_side_30 : decode cL_side 30 = .ok (.iadd, 1) := by decide +kernel
theorem dL_side_31 : decode cL_side 31 = .ok (.iload_n 1, 1) := by decide +kernel
theorem dL_side_32 : decode cL_side 32 = .ok (.iadd, 1) := by decide +kernel
theorem dL_side_33 : decode cL_side 33 = .ok (.iconst 2, 1) := by decide +kernel
theorem dL_side_34 : decode cL_side 34 = .ok (.isub, 1) := by decide +kernel
theorem dL_side_35 : decode cL_side 35 = .ok (.ireturn, 1) := by decide +kernel
set_option maxRecDepth 20000 in
theorem ggL_has_L_side : GoodIn wsL_has wsL_side := goodIn_r _ [4] (by decide +kernel) (by decide +kernel)
set_option maxRecDepth 20000 in
theorem gL_has_L_side : GoodIn wsL_has (va_wsS RL 68 yL_side wsL_side) := goodIn_app (goodIn_of _ (by decide +kernel)) ggL_has_L_side
theorem dL_has_0 : decode cL_has 0 = .ok (.iload_n 0, 1) := by decide +kernel
theorem dL_has_1 : decode cL_has 1 = .ok (.iload_n 1, 1) := by decide +kernel
theorem dL_has_2 : decode cL_has 2 = .ok (.iconst 0, 1) := by decide +kernel
theorem dL_has_3 : decode cL_has 3 = .ok (.invokestatic 68, 3) := by decide +kernel
theorem dL_has_6 : decode cL_has 6 = .ok (.ishr, 1) := by decide +kernel
theorem dL_has_7 : decode cL_has 7 = .ok (.iconst 1, 1) := by decide +kernel
theorem dL_has_8 : decode cL_has 8 = .ok (.iand, 1) := by decide +kernel
theorem dL_has_9 : decode cL_has 9 = .ok (.iload_n 0, 1) := by decide +kernel
theorem dL_has_10 : decode cL_has 10 = .ok (.iload_n 1, 1) := by decide +kernel
theorem dL_has_11 : decode cL_has 11 = .ok (.iconst 1, 1) := by decide +kernel
theorem dL_has_12 : decode cL_has 12 = .ok (.invokestatic 68, 3) := by decide +kernel
theorem dL_has_15 : decode cL_has 15 = .ok (.ishr, 1) := by decide +kernel
theorem dL_has_16 : decode cL_has 16 = .ok (.iconst 1, 1) := by decide +kernel
theorem dL_has_17 : decode cL_has 17 = .ok (.iand, 1) := by decide +kernel
theorem dL_has_18 : decode cL_has 18 = .ok (.iadd, 1) := by decide +kernel
theorem dL_has_19 : decode cL_has 19 = .ok (.iload_n 0, 1) := by decide +kernel
theorem dL_has_20 : decode cL_has 20 = .ok (.iload_n 1, 1) := by decide +kernel
theorem dL_has_21 : decode cL_has 21 = .ok (.iconst 2, 1) := by decide +kernel
theorem dL_has_22 : decode cL_has 22 = .ok (.invokestatic 68, 3) := by decide +kernel
theorem dL_has_25 : decode cL_has 25 = .ok (.ishr, 1) := by decide +kernel
theorem dL_has_26 : decode cL_has 26 = .ok (.iconst 1, 1) := by decide +kernel
theorem dL_has_27 : decode cL_has 27 = .ok (.iand, 1) := by decide +kernel
theorem dL_has_28 : decode cL_has 28 = .ok (.iadd, 1) := by decide +kernel
theorem dL_has_29 : decode cL_has 29 = .ok (.iload_n 0, 1) := by decide +kernel
theorem dL_has_30 : decode cL_has 30 = .ok (.iload_n 1, 1) := by decide +kernel
theorem dL_has_31 : decode cL_has 31 = .ok (.iconst 3, 1) := by decide +kernel
theorem dL_has_32 : decode cL_has 32 = .ok (.invokestatic 68, 3) := by decide +kernel
theorem dL_has_35 : decode cL_has 35 = .ok (.ishr, 1) := by decide +kernel
theorem dL_has_36 : decode cL_has 36 = .ok (.iconst 1, 1) := by decide +kernel
theorem dL_has_37 : decode cL_has 37 = .ok (.iand, 1) := by decide +kernel
theorem dL_has_38 : decode cL_has 38 = .ok (.iadd, 1) := by decide +kernel
theorem dL_has_39 : decode cL_has 39 = .ok (.ireturn, 1) := by decide +kernel
theorem dL_beside_0 : decode cL_beside 0 = .ok (.iload_n 0, 1) := by decide +kernel
theorem dL_beside_1 : decode cL_beside 1 = .ok (.bipush 16, 2) := by decide +kernel
theorem dL_beside_3 : decode cL_beside 3 = .ok (.if_icmp .ge 31, 3) := by decide +kernel
theorem dL_beside_6 : decode cL_beside 6 = .ok (.iload_n 1, 1) := by decide +kernel
theorem dL_beside_7 : decode cL_beside 7 = .ok (.ifCond .ne 9, 3) := by decide +kernel
theorem dL_beside_10 : decode cL_beside 10 = .ok (.iload_n 0, 1) := by decide +kernel
theorem dL_beside_11 : decode cL_beside 11 = .ok (.iconst 4, 1) := by decide +kernel
theorem dL_beside_12 : decode cL_beside 12 = .ok (.isub, 1) := by decide +kernel
theorem dL_beside_13 : decode cL_beside 13 = .ok (.goto 4, 3) := by decide +kernel
theorem dL_beside_16 : decode cL_beside 16 = .ok (.iload_n 0, 1) := by decide +kernel
theorem dL_beside_17 : decode cL_beside 17 = .ok (.istore_n 2, 1) := by decide +kernel
theorem dL_beside_18 : decode cL_beside 18 = .ok (.iload_n 2, 1) := by decide +kernel
theorem dL_beside_19 : decode cL_beside 19 = .ok (.ifCond .lt 9, 3) := by decide +kernel
theorem dL_beside_22 : decode cL_beside 22 = .ok (.iload_n 2, 1) := by decide +kernel
theorem dL_beside_23 : decode cL_beside 23 = .ok (.bipush 11, 2) := by decide +kernel
theorem dL_beside_25 : decode cL_beside 25 = .ok (.if_icmp .le 7, 3) := by decide +kernel
theorem dL_beside_28 : decode cL_beside 28 = .ok (.iconst (-1), 1) := by decide +kernel
theorem dL_beside_29 : decode cL_beside 29 = .ok (.goto 4, 3) := by decide +kernel
theorem dL_beside_32 : decode cL_beside 32 = .ok (.iload_n 2, 1) := by decide +kernel
theorem dL_beside_33 : decode cL_beside 33 = .ok (.ireturn, 1) := by decide +kernel
theorem dL_beside_34 : decode cL_beside 34 = .ok (.iload_n 0, 1) := by decide +kernel
theorem dL_beside_35 : decode cL_beside 35 = .ok (.bipush 16, 2) := by decide +kernel
theorem dL_beside_37 : decode cL_beside 37 = .ok (.isub, 1) := by decide +kernel
theorem dL_beside_38 : decode cL_beside 38 = .ok (.iconst 5, 1) := by decide +kernel
theorem dL_beside_39 : decode cL_beside 39 = .ok (.irem, 1) := by decide +kernel
theorem dL_beside_40 : decode cL_beside 40 = .ok (.iload_n 1, 1) := by decide +kernel
theorem dL_beside_41 : decode cL_beside 41 = .ok (.ifCond .ne 7, 3) := by decide +kernel
theorem dL_beside_44 : decode cL_beside 44 = .ok (.iconst 1, 1) := by decide +kernel
theorem dL_beside_45 : decode cL_beside 45 = .ok (.goto 4, 3) := by decide +kernel
theorem dL_beside_48 : decode cL_beside 48 = .ok (.iconst 0, 1) := by decide +kernel
theorem dL_beside_49 : decode cL_beside 49 = .ok (.isub, 1) := by decide +kernel
theorem dL_beside_50 : decode cL_beside 50 = .ok (.istore_n 2, 1) := by decide +kernel
theorem dL_beside_51 : decode cL_beside 51 = .ok (.iload_n 2, 1) := by decide +kernel
theorem dL_beside_52 : decode cL_beside 52 = .ok (.ifCond .lt 8, 3) := by decide +kernel
theorem dL_beside_55 : decode cL_beside 55 = .ok (.iload_n 2, 1) := by decide +kernel
theorem dL_beside_56 : decode cL_beside 56 = .ok (.iconst 3, 1) := by decide +kernel
theorem dL_beside_57 : decode cL_beside 57 = .ok (.if_icmp .le 7, 3) := by decide +kernel
theorem dL_beside_60 : decode cL_beside 60 = .ok (.iconst (-1), 1) := by decide +kernel
theorem dL_beside_61 : decode cL_beside 61 = .ok (.goto 13, 3) := by decide +kernel
theorem dL_beside_64 : decode cL_beside 64 = .ok (.iconst 4, 1) := by decide +kernel
theorem dL_beside_65 : decode cL_beside 65 = .ok (.iload_n 0, 1) := by decide +kernel
theorem dL_beside_66 : decode cL_beside 66 = .ok (.bipush 16, 2) := by decide +kernel
theorem dL_beside_68 : decode cL_beside 68 = .ok (.isub, 1) := by decide +kernel
theorem dL_beside_69 : decode cL_beside 69 = .ok (.iconst 5, 1) := by decide +kernel
theorem dL_beside_70 : decode cL_beside 70 = .ok (.idiv, 1) := by decide +kernel
theorem dL_beside_71 : decode cL_beside 71 = .ok (.imul, 1) := by decide +kernel
theorem dL_beside_72 : decode cL_beside 72 = .ok (.iload_n 2, 1) := by decide +kernel
theorem dL_beside_73 : decode cL_beside 73 = .ok (.iadd, 1) := by decide +kernel
theorem dL_beside_74 : decode cL_beside 74 = .ok (.ireturn, 1) := by decide +kernel
theorem dL_count_0 : decode cL_count 0 = .ok (.iconst 0, 1) := by decide +kernel
theorem dL_count_1 : decode cL_count 1 = .ok (.istore_n 1, 1) := by decide +kernel
theorem dL_count_2 : decode cL_count 2 = .ok (.iload_n 0, 1) := by decide +kernel
theorem dL_count_3 : decode cL_count 3 = .ok (.istore_n 2, 1) := by decide +kernel
theorem dL_count_4 : decode cL_count 4 = .ok (.iload_n 2, 1) := by decide +kernel
theorem dL_count_5 : decode cL_count 5 = .ok (.ifCond .eq 15, 3) := by decide +kernel
theorem dL_count_8 : decode cL_count 8 = .ok (.iinc 1 1, 3) := by decide +kernel
theorem dL_count_11 : decode cL_count 11 = .ok (.iload_n 2, 1) := by decide +kernel
theorem dL_count_12 : decode cL_count 12 = .ok (.iload_n 2, 1) := by decide +kernel
theorem dL_count_13 : decode cL_count 13 = .ok (.iconst 1, 1) := by decide +kernel
theorem dL_count_14 : decode cL_count 14 = .ok (.isub, 1) := by decide +kernel
theorem dL_count_15 : decode cL_count 15 = .ok (.iand, 1) := by decide +kernel
theorem dL_count_16 : decode cL_count 16 = .ok (.istore_n 2, 1) := by decide +kernel
theorem dL_count_17 : decode cL_count 17 = .ok (.goto (-13), 3) := by decide +kernel
theorem dL_count_20 : decode cL_count 20 = .ok (.iload_n 1, 1) := by decide +kernel
theorem dL_count_21 : decode cL_count 21 = .ok (.ireturn, 1) := by decide +kernel
set_option maxRecDepth 20000 in
theorem ggL_close_L_beside : GoodIn wsL_close wsL_beside := goodIn_r _ [4] (by decide +kernel) (by decide +kernel)
set_option maxRecDepth 20000 in
theorem gL_close_L_beside : GoodIn wsL_close (va_wsS RL 74 yL_beside wsL_beside) := goodIn_app (goodIn_of _ (by decide +kernel)) ggL_close_L_beside
set_option maxRecDepth 20000 in
theorem ggL_close_L_has : GoodIn wsL_close wsL_has := goodIn_r _ [7, 8, 9, 3, 10] (by decide +kernel) (by decide +kernel)
set_option maxRecDepth 20000 in
theorem gL_close_L_has : GoodIn wsL_close (va_wsS RL 77 yL_has wsL_has) := goodIn_app (goodIn_of _ (by decide +kernel)) ggL_close_L_has
theorem dL_close_0 : decode cL_close 0 = .ok (.iconst 0, 1) := by decide +kernel
theorem dL_close_1 : decode cL_close 1 = .ok (.istore_n 2, 1) := by decide +kernel
theorem dL_close_2 : decode cL_close 2 = .ok (.iconst 0, 1) := by decide +kernel
theorem dL_close_3 : decode cL_close 3 = .ok (.istore_n 3, 1) := by decide +kernel
theorem dL_close_4 : decode cL_close 4 = .ok (.iload_n 3, 1) := by decide +kernel
theorem dL_close_5 : decode cL_close 5 = .ok (.iconst 2, 1) := by decide +kernel
theorem dL_close_6 : decode cL_close 6 = .ok (.if_icmp .ge 39, 3) := by decide +kernel
theorem dL_close_9 : decode cL_close 9 = .ok (.iload_n 1, 1) := by decide +kernel
theorem dL_close_10 : decode cL_close 10 = .ok (.iload_n 3, 1) := by decide +kernel
theorem dL_close_11 : decode cL_close 11 = .ok (.invokestatic 74, 3) := by decide +kernel
theorem dL_close_14 : decode cL_close 14 = .ok (.istore 4, 2) := by decide +kernel
theorem dL_close_16 : decode cL_close 16 = .ok (.iload_n 2, 1) := by decide +kernel
theorem dL_close_17 : decode cL_close 17 = .ok (.iload 4, 2) := by decide +kernel
theorem dL_close_19 : decode cL_close 19 = .ok (.ifCond .lt 17, 3) := by decide +kernel
theorem dL_close_22 : decode cL_close 22 = .ok (.iload_n 0, 1) := by decide +kernel
theorem dL_close_23 : decode cL_close 23 = .ok (.iload 4, 2) := by decide +kernel
theorem dL_close_25 : decode cL_close 25 = .ok (.invokestatic 77, 3) := by decide +kernel
theorem dL_close_28 : decode cL_close 28 = .ok (.iconst 3, 1) := by decide +kernel
theorem dL_close_29 : decode cL_close 29 = .ok (.if_icmp .ne 7, 3) := by decide +kernel
theorem dL_close_32 : decode cL_close 32 = .ok (.iconst 1, 1) := by decide +kernel
theorem dL_close_33 : decode cL_close 33 = .ok (.goto 4, 3) := by decide +kernel
theorem dL_close_36 : decode cL_close 36 = .ok (.iconst 0, 1) := by decide +kernel
theorem dL_close_37 : decode cL_close 37 = .ok (.iadd, 1) := by decide +kernel
theorem dL_close_38 : decode cL_close 38 = .ok (.istore_n 2, 1) := by decide +kernel
theorem dL_close_39 : decode cL_close 39 = .ok (.iinc 3 1, 3) := by decide +kernel
theorem dL_close_42 : decode cL_close 42 = .ok (.goto (-38), 3) := by decide +kernel
theorem dL_close_45 : decode cL_close 45 = .ok (.iload_n 2, 1) := by decide +kernel
theorem dL_close_46 : decode cL_close 46 = .ok (.ireturn, 1) := by decide +kernel
set_option maxRecDepth 20000 in
theorem ggL_take_L_has : GoodIn wsL_take wsL_has := goodIn_r _ [4, 5, 6, 3, 7] (by decide +kernel) (by decide +kernel)
set_option maxRecDepth 20000 in
theorem gL_take_L_has : GoodIn wsL_take (va_wsS RL 77 yL_has wsL_has) := goodIn_app (goodIn_of _ (by decide +kernel)) ggL_take_L_has
set_option maxRecDepth 20000 in
theorem ggL_take_L_side : GoodIn wsL_take wsL_side := goodIn_r _ [7] (by decide +kernel) (by decide +kernel)
set_option maxRecDepth 20000 in
theorem gL_take_L_side : GoodIn wsL_take (va_wsS RL 68 yL_side wsL_side) := goodIn_app (goodIn_of _ (by decide +kernel)) ggL_take_L_side
theorem dL_take_0 : decode cL_take 0 = .ok (.iload_n 0, 1) := by decide +kernel
theorem dL_take_1 : decode cL_take 1 = .ok (.istore_n 1, 1) := by decide +kernel
theorem dL_take_2 : decode cL_take 2 = .ok (.iconst 1, 1) := by decide +kernel
theorem dL_take_3 : decode cL_take 3 = .ok (.istore_n 2, 1) := by decide +kernel
theorem dL_take_4 : decode cL_take 4 = .ok (.iload_n 2, 1) := by decide +kernel
theorem dL_take_5 : decode cL_take 5 = .ok (.ifCond .le 74, 3) := by decide +kernel
theorem dL_take_8 : decode cL_take 8 = .ok (.iload_n 1, 1) := by decide +kernel
theorem dL_take_9 : decode cL_take 9 = .ok (.istore_n 3, 1) := by decide +kernel
theorem dL_take_10 : decode cL_take 10 = .ok (.iconst 0, 1) := by decide +kernel
theorem dL_take_11 : decode cL_take 11 = .ok (.istore 4, 2) := by decide +kernel
theorem dL_take_13 : decode cL_take 13 = .ok (.iload 4, 2) := by decide +kernel
theorem dL_take_15 : decode cL_take 15 = .ok (.bipush 12, 2) := by decide +kernel
theorem dL_take_17 : decode cL_take 17 = .ok (.if_icmp .ge 46, 3) := by decide +kernel
theorem dL_take_20 : decode cL_take 20 = .ok (.iconst 0, 1) := by decide +kernel
theorem dL_take_21 : decode cL_take 21 = .ok (.istore 5, 2) := by decide +kernel
theorem dL_take_23 : decode cL_take 23 = .ok (.iload 5, 2) := by decide +kernel
theorem dL_take_25 : decode cL_take 25 = .ok (.iconst 4, 1) := by decide +kernel
theorem dL_take_26 : decode cL_take 26 = .ok (.if_icmp .ge 31, 3) := by decide +kernel
theorem dL_take_29 : decode cL_take 29 = .ok (.iload_n 1, 1) := by decide +kernel
theorem dL_take_30 : decode cL_take 30 = .ok (.iload 4, 2) := by decide +kernel
theorem dL_take_32 : decode cL_take 32 = .ok (.invokestatic 77, 3) := by decide +kernel
theorem dL_take_35 : decode cL_take 35 = .ok (.iconst 3, 1) := by decide +kernel
theorem dL_take_36 : decode cL_take 36 = .ok (.if_icmp .ne 21, 3) := by decide +kernel
theorem dL_take_39 : decode cL_take 39 = .ok (.iload_n 3, 1) := by decide +kernel
theorem dL_take_40 : decode cL_take 40 = .ok (.iconst 1, 1) := by decide +kernel
theorem dL_take_41 : decode cL_take 41 = .ok (.iload 4, 2) := by decide +kernel
theorem dL_take_43 : decode cL_take 43 = .ok (.iload 5, 2) := by decide +kernel
theorem dL_take_45 : decode cL_take 45 = .ok (.invokestatic 68, 3) := by decide +kernel
theorem dL_take_48 : decode cL_take 48 = .ok (.ishl, 1) := by decide +kernel
theorem dL_take_49 : decode cL_take 49 = .ok (.ior, 1) := by decide +kernel
theorem dL_take_50 : decode cL_take 50 = .ok (.istore_n 3, 1) := by decide +kernel
theorem dL_take_51 : decode cL_take 51 = .ok (.iinc 5 1, 3) := by decide +kernel
theorem dL_take_54 : decode cL_take 54 = .ok (.goto (-31), 3) := by decide +kernel
theorem dL_take_57 : decode cL_take 57 = .ok (.iinc 4 1, 3) := by decide +kernel
theorem dL_take_60 : decode cL_take 60 = .ok (.goto (-47), 3) := by decide +kernel
theorem dL_take_63 : decode cL_take 63 = .ok (.iload_n 3, 1) := by decide +kernel
theorem dL_take_64 : decode cL_take 64 = .ok (.iload_n 1, 1) := by decide +kernel
theorem dL_take_65 : decode cL_take 65 = .ok (.if_icmp .ne 7, 3) := by decide +kernel
theorem dL_take_68 : decode cL_take 68 = .ok (.iconst 0, 1) := by decide +kernel
theorem dL_take_69 : decode cL_take 69 = .ok (.goto 4, 3) := by decide +kernel
theorem dL_take_72 : decode cL_take 72 = .ok (.iconst 1, 1) := by decide +kernel
theorem dL_take_73 : decode cL_take 73 = .ok (.istore_n 2, 1) := by decide +kernel
theorem dL_take_74 : decode cL_take 74 = .ok (.iload_n 3, 1) := by decide +kernel
