def wsL_law0_r7_0 : List Cond := [Cond.static yX3_sides, Cond.code yX3_sides cX3_sides 2 (some .int), Cond.methodLink RX3 26 yX3_isWithin, Cond.static yX3_isWithin, Cond.code yX3_isWithin cX3_isWithin 2 (some .boolean), Cond.methodLink RX2 57 yX2_settle, Cond.instanceMethod yX2_settle, Cond.selects RX2 yX2_settle yX2_settle, Cond.code yX2_settle cX2_settle 3 none, Cond.methodLink RL 111 yL_close, Cond.static yL_close, Cond.code yL_close cL_close 5 (some .int), Cond.methodLink RL 74 yL_beside, Cond.static yL_beside, Cond.code yL_beside cL_beside 3 (some .int), Cond.methodLink RL 77 yL_has, Cond.static yL_has, Cond.code yL_has cL_has 2 (some .int), Cond.methodLink RL 68 yL_side, Cond.static yL_side, Cond.code yL_side cL_side 2 (some .int), Cond.methodLink RL 208 yL_areFences, Cond.static yL_areFences]
set_option maxRecDepth 20000 in
theorem wsL_law0_r7_0_in : ∀ w ∈ wsL_law0_r7_0, w ∈ lw_tbl := fun w h => (goodIn_p wsL_law0_r7_0 [306, 309, 313, 328, 322, 316, 319] (by decide +kernel) (by decide +kernel) w h).1
set_option maxRecDepth 20000 in
theorem wsL_law0_r7_1_in : Cond.code yL_areFences cL_areFences 16 (some .boolean) ∈ lw_tbl := List.mem_of_getElem? (i := 331) rfl
theorem wsL_law0_r7_in : ∀ w ∈ wsL_law0_r7, w ∈ lw_tbl := (k_cat2 wsL_law0_r7_0_in (k_one1 wsL_law0_r7_1_in))
set_option maxRecDepth 20000 in
theorem wsL_law0_r8_in : ∀ w ∈ wsL_law0_r8, w ∈ lw_tbl := fun w h => (goodIn_p wsL_law0_r8 [338, 346, 349, 353] (by decide +kernel) (by decide +kernel) w h).1
set_option maxRecDepth 20000 in
theorem wsL_law0_r9_in : ∀ w ∈ wsL_law0_r9, w ∈ lw_tbl := fun w h => (goodIn_p wsL_law0_r9 [362, 382, 389, 392] (by decide +kernel) (by decide +kernel) w h).1
