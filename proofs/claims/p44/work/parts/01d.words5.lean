def wsL_law0_r16_0 : List Cond := [Cond.methodLink RX7 146 yX6_safeOneByOne, Cond.static yX6_safeOneByOne, Cond.code yX6_safeOneByOne cX6_safeOneByOne 4 (some .int), Cond.methodLink RX6 45 yX6_safe, Cond.methodLink RL 161 yL_leastSacrificeOf, Cond.static yL_leastSacrificeOf, Cond.codeWith yL_leastSacrificeOf cL_leastSacrificeOf 2 (some .int) [(0, 4, 5, 29)], Cond.methodLink RL 50 yX7_leastSacrifice, Cond.instanceMethod yX7_leastSacrifice, Cond.selects RX7 yX7_leastSacrifice yX7_leastSacrifice, Cond.code yX7_leastSacrifice cX7_leastSacrifice 2 (some .int), Cond.methodLink RX7 154 yX6_leastGiving, Cond.static yX6_leastGiving, Cond.code yX6_leastGiving cX6_leastGiving 5 (some .int), Cond.methodLink RX6 51 yX6_givenBy, Cond.methodLink RL 212 yL_areChains, Cond.static yL_areChains]
set_option maxRecDepth 20000 in
theorem wsL_law0_r16_0_in : ∀ w ∈ wsL_law0_r16_0, w ∈ lw_tbl := fun w h => (goodIn_p wsL_law0_r16_0 [544, 552, 555] (by decide +kernel) (by decide +kernel) w h).1
set_option maxRecDepth 20000 in
theorem wsL_law0_r16_1_in : Cond.code yL_areChains cL_areChains 10 (some .boolean) ∈ lw_tbl := List.mem_of_getElem? (i := 560) rfl
def wsL_law0_r16_2 : List Cond := [Cond.methodLink RL 164 yL_chain, Cond.static yL_chain, Cond.code yL_chain cL_chain 8 (some .int), Cond.methodLink RL 167 yL_isRing, Cond.static yL_isRing, Cond.code yL_isRing cL_isRing 8 (some .boolean)]
set_option maxRecDepth 20000 in
theorem wsL_law0_r16_2_in : ∀ w ∈ wsL_law0_r16_2, w ∈ lw_tbl := fun w h => (goodIn_p wsL_law0_r16_2 [563, 566] (by decide +kernel) (by decide +kernel) w h).1
theorem wsL_law0_r16_in : ∀ w ∈ wsL_law0_r16, w ∈ lw_tbl := (k_cat2 wsL_law0_r16_0_in (k_cat2 (k_one1 wsL_law0_r16_1_in) wsL_law0_r16_2_in))
set_option maxRecDepth 20000 in
theorem wsL_law0_r17_in : ∀ w ∈ wsL_law0_r17, w ∈ lw_tbl := fun w h => (goodIn_p wsL_law0_r17 [570, 573, 577, 581, 585, 589] (by decide +kernel) (by decide +kernel) w h).1
def wsL_law0_r18_0 : List Cond := [Cond.instanceMethod yX7_ruleHoldsFor, Cond.selects RX7 yX7_ruleHoldsFor yX7_ruleHoldsFor, Cond.code yX7_ruleHoldsFor cX7_ruleHoldsFor 1 (some .int), Cond.methodLink RL 216 yL_isEnd, Cond.static yL_isEnd]
set_option maxRecDepth 20000 in
theorem wsL_law0_r18_0_in : ∀ w ∈ wsL_law0_r18_0, w ∈ lw_tbl := fun w h => (goodIn_p wsL_law0_r18_0 [593] (by decide +kernel) (by decide +kernel) w h).1
set_option maxRecDepth 20000 in
theorem wsL_law0_r18_1_in : Cond.code yL_isEnd cL_isEnd 13 (some .boolean) ∈ lw_tbl := List.mem_of_getElem? (i := 596) rfl
def wsL_law0_r18_2 : List Cond := [Cond.arrayClass .long, Cond.methodLink RL 184 yL_endDifferenceOf, Cond.static yL_endDifferenceOf, Cond.codeWith yL_endDifferenceOf cL_endDifferenceOf 2 (some .int) [(0, 4, 5, 29)], Cond.methodLink RL 56 yX7_endDifference, Cond.instanceMethod yX7_endDifference, Cond.selects RX7 yX7_endDifference yX7_endDifference, Cond.code yX7_endDifference cX7_endDifference 1 (some .int), Cond.methodLink RX7 169 yX1_isNear, Cond.static yX1_isNear, Cond.code yX1_isNear cX1_isNear 1 (some .boolean), Cond.methodLink RX1 18 yJ6_bitCount_0f7a4, Cond.methodLink RX7 174 yX1_workOut, Cond.instanceMethod yX1_workOut, Cond.selects RX1 yX1_workOut yX1_workOut, Cond.code yX1_workOut cX1_workOut 3 none, Cond.fieldLink RX1 24 "FencedBoxes$Ends" "size" "I", Cond.methodLink RX1 28 yX3_has]
set_option maxRecDepth 20000 in
theorem wsL_law0_r18_2_in : ∀ w ∈ wsL_law0_r18_2, w ∈ lw_tbl := fun w h => (goodIn_p wsL_law0_r18_2 [603, 606, 612] (by decide +kernel) (by decide +kernel) w h).1
theorem wsL_law0_r18_in : ∀ w ∈ wsL_law0_r18, w ∈ lw_tbl := (k_cat2 wsL_law0_r18_0_in (k_cat2 (k_one1 wsL_law0_r18_1_in) wsL_law0_r18_2_in))
