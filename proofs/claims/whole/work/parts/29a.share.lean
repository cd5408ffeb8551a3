/-! The share of closed boxes. -/
theorem q_fp : ∀ n, n < 13 → (FP.fdiv (FP.i2f (nI n)) 1094713344 &&& 2147483647 ≤ 2139095040) ∧ (FP.f2d (FP.fdiv (FP.i2f (nI n)) 1094713344) &&& 0x7fffffffffffffff ≤ 0x7ff0000000000000) ∧ Op.cmpValue (FP.dcmp (FP.f2d (FP.fdiv (FP.i2f (nI n)) 1094713344)) (FP.f2d (FP.fdiv (FP.i2f (nI n)) 1094713344))) .l = 0 := by decide +kernel
theorem q_owned {g : k_G8} {s : Nat → Int32} (h : rg8 g s) : q_n g.2.1 + q_n g.2.2.1 = cb g.1 := by
  obtain ⟨-, -, -, -, a5, a6, a7, a8, -⟩ := h
  rw [q_n12 a5, q_n12 a6, ← fb_ct_or]
  · exact fb_ct_cong fun k hk => a7 k hk
  · intro k hk hh
    have := a8 k hk
    rw [hh.1, hh.2] at this; cases this
theorem q_cb13 (x : Int32) : cb x < 13 := by
  have := fb_ct_le (fun k => decide (cn x k = 4)) 12
  unfold cb
  omega
theorem q_share7 (g : k_G8) : f_X7_share g = some (FP.fdiv (FP.i2f (nI (cb g.1))) 1094713344) := by
  have h1 := (q_fp _ (q_cb13 g.1)).1
  have h4 : f_X3_boxesHaving g.1 4 = some (bld (fun k => decide (cn g.1 k = 4)) 12) := q_boxesHaving (c := 4) (by decide)
  have hn : q_n (bld (fun k => decide (cn g.1 k = 4)) 12) = cb g.1 := q_nbld (by omega)
  unfold f_X7_share
  simp only [h4, Option.bind_some, q_bitCount, hn, if_pos h1]
theorem q_share8 {g : k_G8} {s : Nat → Int32} (h : rg8 g s) (la : Int32) : f_X8_share la s = some (FP.fdiv (FP.i2f (nI (cb g.1))) 1094713344, 0) := by
  have h1 := (q_fp _ (q_cb13 g.1)).1
  have hb0 : f_X8_boxes 0 s = some (nI (q_n g.2.1)) := q_boxes h (p := 0) (by decide)
  have hb1 : f_X8_boxes 1 s = some (nI (q_n g.2.2.1)) := q_boxes h (p := 1) (by decide)
  have hs : nI (q_n g.2.1) + nI (q_n g.2.2.1) = nI (cb g.1) := by rw [nI_add, q_owned h]
  unfold f_X8_share
  simp only [hb0, hb1, Option.bind_some, hs, if_pos h1]
theorem q_case30 {g : k_G8} {s : Nat → Int32} (h : rg8 g s) (a la : Int32) : f_case30 a g la s = some 0 := by
  obtain ⟨-, f2, f3⟩ := q_fp _ (q_cb13 g.1)
  unfold f_case30
  simp only [q_share7, q_share8 h, Option.bind_some, if_pos f2, if_pos f3]
