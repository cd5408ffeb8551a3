/-! The law's 'areFences' holds. -/
theorem a_fp : ∀ n, n < 13 → (FP.fdiv (FP.i2f (nI n)) 1094713344 &&& 2147483647 ≤ 2139095040) ∧ Op.cmpValue (FP.fcmp (FP.fdiv (FP.i2f (nI n)) 1094713344) (FP.fdiv (FP.i2f (nI n)) 1094713344)) .l = 0 := by decide +kernel
theorem a_12 : ∀ n, n ≤ 12 → (12 : Int32) - nI n = nI (12 - n) := by decide +kernel
theorem a_drawn (g : k_G8) : f_X7_drawn g = some (nI (q_n g.1)) := by
  unfold f_X7_drawn f_X2_countFences
  exact (k_bs ((k_bs (q_bitCount g.1)).trans rfl)).trans rfl
theorem a_over {g : k_G8} (h31 : bt g.1 31 = false) : f_X7_isOver g = some (if c31 g.1 = 31 then 1 else 0) := by
  unfold f_X7_isOver
  refine (k_bs (q_hasEnded h31)).trans ?_
  by_cases c : c31 g.1 = 31
  · rw [if_pos c]; rfl
  · rw [if_neg c]; rfl
theorem a_take (g : k_G8) : f_X7_canTake g = some (nI (tT g.1)) := (k_bs (q_oneByOne g.1)).trans rfl
theorem a_rounds (g : k_G8) : f_X7_canTakeByRounds g = some (nI (tT g.1)) := (k_bs (q_byRounds g.1)).trans rfl
theorem a_safes (g : k_G8) : f_X7_safeFences g = some (nI (fb_ct (sf g.1) 31)) := by
  unfold f_X7_safeFences
  refine (k_bs (q_safe g.1)).trans ?_
  refine (k_bs (q_bitCount _)).trans ?_
  rw [q_nbld (by omega)]
theorem a_row (g : k_G8) : f_X7_safeInRow g = some (nI (fN g.1)) := (k_bs (q_safeOneByOne g.1)).trans rfl
theorem a_tk (g : k_G8) : f_L_takingFenceOf g = some (TK g.1 31) := (o_takingFence g).trans (by unfold TK; rfl)
theorem a_ls (g : k_G8) : f_L_leastSacrificeOf g = some (BS g.1 31) := (o_least g).trans (by unfold BS; rfl)
theorem a_areFences {g : k_G8} {f : Int32} {c t : Nat → Int32} (h : Rel g f c t) : f_L_areFences f g c t = some 1 := by
  have l1 := a_boxes (b7 := -101) (b8 := 0) (b9 := 0) (b10 := f) (b11 := -101) (b12 := 99) h
  obtain ⟨rfl, h31, hc, ho0, ho1, hhi, hcn, -, e0, e1, e2, e3, e4⟩ := h
  have l2 := a_fences h31
  have hx : ∀ k, k < 12 → (decide (cx c k = 0) = !decide (cn g.1 k = 4)) ∧ (decide (cx c k = 1) = bt g.2.1 k) ∧ (decide (cx c k = 2) = bt g.2.2.1 k) := by
    intro k hk
    rw [ho0 k hk, ho1 k hk]
    unfold cx
    have hq := hcn k hk
    rcases hc k hk with e | e | e
    · have : ¬ cn g.1 k = 4 := hq.mp e
      rw [e, decide_eq_false this]; decide
    · have : cn g.1 k = 4 := Classical.byContradiction fun q => by have := hq.mpr q; rw [e] at this; exact absurd this (by decide)
      rw [e, decide_eq_true this]; decide
    · have : cn g.1 k = 4 := Classical.byContradiction fun q => by have := hq.mpr q; rw [e] at this; exact absurd this (by decide)
      rw [e, decide_eq_true this]; decide
  have n0 : fb_ct (fun k => decide (cx c k = 0)) 12 = 12 - cb g.1 ∧ cb g.1 ≤ 12 := by
    have := fb_ct_not (fun k => decide (cn g.1 k = 4)) 12
    rw [fb_ct_cong fun k hk => (hx k hk).1]
    unfold cb
    omega
  have n1 : q_n g.2.1 = fb_ct (fun k => decide (cx c k = 1)) 12 := by
    rw [q_n12 fun k hk hb => by
      rcases Nat.lt_or_ge k 12 with d | d
      · exact d
      · rw [(hhi k d hk).1] at hb; cases hb]
    exact (fb_ct_cong fun k hk => (hx k hk).2.1).symm
  have n2 : q_n g.2.2.1 = fb_ct (fun k => decide (cx c k = 2)) 12 := by
    rw [q_n12 fun k hk hb => by
      rcases Nat.lt_or_ge k 12 with d | d
      · exact d
      · rw [(hhi k d hk).2] at hb; cases hb]
    exact (fb_ct_cong fun k hk => (hx k hk).2.2).symm
  obtain ⟨fp1, fp2⟩ := a_fp (cb g.1) (by omega)
  have hown : (12 : Int32) - nI (fb_ct (fun k => decide (cx c k = 0)) 12) = nI (cb g.1) := by
    rw [n0.1, a_12 _ (by omega)]
    congr 1; omega
  have hc31 := c31_le g.1
  obtain ⟨z, hz⟩ : ∃ z : Int32, z = if c31 g.1 = 31 then 1 else 0 := ⟨_, rfl⟩
  have ov : f_X7_isOver g = some z := by rw [hz]; exact a_over h31
  have s1 : ¬ ¬ (FP.fdiv (FP.i2f ((12 : Int32) - nI (fb_ct (fun k => decide (cx c k = 0)) 12))) 1094713344 &&& 2147483647 ≤ 2139095040) := by rw [hown]; exact fun q => q fp1
  have s2 : Op.cmpValue (FP.fcmp (FP.fdiv (FP.i2f (nI (cb g.1))) 1094713344) (FP.fdiv (FP.i2f ((12 : Int32) - nI (fb_ct (fun k => decide (cx c k = 0)) 12))) 1094713344)) .l = 0 := by rw [hown]; exact fp2
  have pc : f_L_count g.1 = some (nI (c31 g.1)) := by rw [p_count, q_n31 h31]
  unfold f_L_areFences
  refine (k_bs (o_isDrawnN g)).trans ?_
  refine (k_bs (a := 1) ?_).trans ?_
  · rw [if_pos rfl, o_fencesOfN, Option.bind_some, if_pos rfl, o_ownerOfN, Option.bind_some, if_pos rfl, o_boxesOfN, Option.bind_some, if_pos rfl, o_boxesWithN, Option.bind_some, if_pos rfl, o_whyNotN, Option.bind_some, if_pos rfl, o_isSafeN, Option.bind_some, if_pos rfl, o_givesN, Option.bind_some, if_pos rfl, o_chainOfN, Option.bind_some, if_pos rfl, o_wonN, Option.bind_some, if_pos rfl]
  refine (k_bs l1).trans ?_
  refine (k_bs l2).trans ?_
  refine (k_bs (a_counts rfl)).trans ?_
  refine (k_bs (a := 1) ?_).trans (if_pos (Or.inr rfl))
  dsimp only
  rw [if_neg (show ¬ (1 : Int32) = 0 by decide)]
  refine (k_bs (o_boxesOf0 g)).trans ?_
  rw [if_pos (by rw [n1])]
  refine (k_bs (o_boxesOf1 g)).trans ?_
  rw [if_pos (by rw [n2])]
  refine (k_bs (a_drawn g)).trans ?_
  refine (k_bs (p_count _)).trans ?_
  rw [if_pos rfl]
  refine (k_bs ov).trans ?_
  refine (k_bs pc).trans ?_
  refine (k_bs (a := z) ?_).trans ?_
  · rw [hz]
    by_cases d : c31 g.1 = 31
    · rw [if_pos (c31_31.mpr d), if_pos d]
    · rw [if_neg fun q => d (c31_31.mp q), if_neg d]
  rw [if_pos rfl]
  refine (k_bs (show f_X7_turn g = some g.2.2.2.1 from rfl)).trans ?_
  rw [if_pos e0]
  refine (k_bs (o_won0 g)).trans ?_
  rw [if_pos e1]
  refine (k_bs (o_won1 g)).trans ?_
  rw [if_pos e2]
  refine (k_bs (show f_X7_evenGames g = some g.2.2.2.2.2.2.1 from rfl)).trans ?_
  rw [if_pos e3]
  refine (k_bs (show f_X7_doubleDeals g = some g.2.2.2.2.2.2.2 from rfl)).trans ?_
  rw [if_pos e4]
  refine (k_bs (q_share7 g)).trans ?_
  refine (if_neg s1).trans ?_
  refine (if_pos s2).trans ?_
  refine (k_bs (a_take g)).trans ?_
  refine (k_bs (p_take _)).trans ?_
  rw [if_pos rfl]
  refine (k_bs (a_rounds g)).trans ?_
  refine (k_bs (p_take _)).trans ?_
  rw [if_pos rfl]
  refine (k_bs (a_tk g)).trans ?_
  rw [if_pos rfl]
  refine (k_bs (a_safes g)).trans ?_
  rw [if_pos rfl]
  refine (k_bs (a_row g)).trans ?_
  refine (if_pos (by rw [gw_row])).trans ?_
  refine (k_bs (a_ls g)).trans ?_
  rw [if_pos rfl]
