/-! The share of closed boxes. -/
theorem q_fp : ∀ n, n < 13 → (FP.fdiv (FP.i2f (nI n)) 1094713344 &&& 2147483647 ≤ 2139095040) ∧ (FP.f2d (FP.fdiv (FP.i2f (nI n)) 1094713344) &&& 0x7fffffffffffffff ≤ 0x7ff0000000000000) ∧ Op.cmpValue (FP.dcmp (FP.f2d (FP.fdiv (FP.i2f (nI n)) 1094713344)) (FP.f2d (FP.fdiv (FP.i2f (nI n)) 1094713344))) .l = 0 := by decide +kernel
theorem q_cb13 (x : Int32) : cb x < 13 := by
  have := fb_ct_le (fun k => decide (cn x k = 4)) 12
  unfold cb
  omega
theorem q_share7 (g : k_G8) : f_X7_share g = some (FP.fdiv (FP.i2f (nI (cb g.1))) 1094713344) := by
  have h1 := (q_fp _ (q_cb13 g.1)).1
  have h4 : f_X3_boxesHaving g.1 4 = some (bld (fun k => decide (cn g.1 k = 4)) 12) := q_boxesHaving (c := 4) (by decide)
  have hn : q_n (bld (fun k => decide (cn g.1 k = 4)) 12) = cb g.1 := q_nbld (by omega)
  unfold f_X7_share
  simp only [h4, Option.bind_some, q_bitCount, hn, if_pos h1]
