/-! The end by trying. -/
theorem q_byTrying {x : Int32} (h31 : bt x 31 = false) (hn : 31 - c31 x ≤ 8) : ∃ r : Int32, f_X1_byTrying x = some r ∧ r.toInt = VV x := by
  have hcb := cb_le x
  have h4 : f_X3_boxesHaving x 4 = some (bld (fun k => decide (cn x k = 4)) 12) := q_boxesHaving (c := 4) (by decide)
  have hq : f_J6_bitCount_0f7a4 (bld (fun k => decide (cn x k = 4)) 12) = some (nI (cb x)) := by
    rw [q_bitCount, q_nbld (by omega)]; rfl
  have hl : ((12 : Int32) - nI (cb x)).toInt = 12 - (cb x : Int) := q_sI (x := 12) (by decide) (by decide) (by omega)
  have hneg : (-((12 : Int32) - nI (cb x))).toInt = -(12 - (cb x : Int)) := by rw [fb_negI (by omega), hl]
  obtain ⟨r, r1, r2, r3, r4⟩ := q_tryOut 10 x ((12 : Int32) - nI (cb x)) (-((12 : Int32) - nI (cb x))) ((12 : Int32) - nI (cb x)) 0 h31 (by omega) (by omega) hl (by omega) (by omega) (by omega) (by omega) (by omega)
  refine ⟨r, ?_, ?_⟩
  · unfold f_X1_byTrying k_let
    refine (k_bs h4).trans ?_
    refine (k_bs hq).trans ?_
    exact (k_bs r1).trans rfl
  · have hV := VV_b x
    rw [hl, hneg] at r2
    unfold win at r2
    omega
theorem q_isNear {x : Int32} (h31 : bt x 31 = false) : f_X1_isNear x = some (if 23 ≤ c31 x then 1 else 0) := by
  have hc := c31_le x
  have hq : f_J6_bitCount_0f7a4 x = some (nI (c31 x)) := by rw [q_bitCount, q_n31 h31]
  have hs : (31 : Int32) - nI (c31 x) = nI (31 - c31 x) := by
    rw [Int32.sub_eq_iff_eq_add, nI_add, Nat.sub_add_cancel hc]; rfl
  unfold f_X1_isNear
  refine (k_bs hq).trans ?_
  rw [hs]
  by_cases c : 23 ≤ c31 x
  · rw [if_neg (show ¬ (8 : Int32) < nI (31 - c31 x) from nI_nlt (a := 8) (by omega) (by decide)), if_pos c]
  · rw [if_pos (show (8 : Int32) < nI (31 - c31 x) from nI_lt (a := 8) (by omega) (by omega)), if_neg c]
