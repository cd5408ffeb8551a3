/-! The cases of the law: ends. -/
theorem q_end0 {g : k_G8} {s : Nat → Int32} (h : rg8 g s) (hn : ¬ 23 ≤ c31 g.1) (mOp : Int32) (rO rW : Nat → Int32) : f_X8_works mOp s rO rW = some (0, 0, rO, rW) := by
  have hc : ¬ (23 : Int32) ≤ s 18 := by rw [h.2.2.1]; exact nI_ge (b := 23) (by omega) (by decide)
  unfold f_X8_works
  rw [if_neg hc]
theorem q_endD {g : k_G8} {s : Nat → Int32} (h : rg8 g s) (hn : 23 ≤ c31 g.1) (mOp la : Int32) (rO rW : Nat → Int32) : ∃ (w q : Int32) (O W : Nat → Int32), f_X8_end mOp la s rO rW = some (w, q, 0, O, W) ∧ w.toInt = VV g.1 := by
  have hun := un_all g.1
  have h8 : un g.1 31 ≤ 8 := by omega
  obtain ⟨O, W, w1, w2, w3⟩ := q_works h mOp rO rW hn
  refine ⟨W 0, nI (un g.1 31), O, W, ?_, ?_⟩
  · unfold f_X8_end
    refine (k_bs w1).trans ?_
    dsimp only
    rw [if_neg (by decide), if_pos rfl]
  · rw [w3 0 (Nat.le_refl _) (pw_pos _ h8), tb_none h.2.1]
theorem q_endN {g : k_G8} {s : Nat → Int32} (h : rg8 g s) (hn : ¬ 23 ≤ c31 g.1) (mOp la : Int32) (rO rW : Nat → Int32) : f_X8_end mOp la s rO rW = some (0, 0, 1, rO, rW) := by
  unfold f_X8_end
  refine (k_bs (q_end0 h hn mOp rO rW)).trans ?_
  dsimp only
  rw [if_pos rfl, if_neg (by decide)]
theorem q_case24 {g : k_G8} {s : Nat → Int32} (h : rg8 g s) (a es : Int32) (op fo : Nat → Int32) (mOp la : Int32) (rO rW : Nat → Int32) (out : Nat → Int64) : ∃ e o f m y O W u, f_case24 a g es op fo mOp la s rO rW out = some (e, o, f, m, y, O, W, u) := by
  have hne := q_isNear h.2.1
  have hun := un_all g.1
  by_cases hn : 23 ≤ c31 g.1
  · have h8 : un g.1 31 ≤ 8 := by omega
    rw [if_pos hn] at hne
    obtain ⟨O, F, w1, w2, w3⟩ := q_workOut hn es op fo
    obtain ⟨v, v1, v2⟩ := q_difference h.2.1 h8 w3
    obtain ⟨w, q, O2, W2, m1, m2⟩ := q_endD h hn mOp la rO rW
    have hvw : w = v := (fa_eq _ _).mpr (by rw [m2, v2])
    subst hvw
    have h7 : f_X7_endDifference g es op fo = some (.inl (w, nI (un g.1 31), O, F)) := by
      unfold f_X7_endDifference
      refine (k_bs hne).trans ?_
      rw [if_neg (by decide)]
      refine (k_bs w1).trans ?_
      dsimp only
      exact (k_bs v1).trans rfl
    have hL : f_L_endDifference g es op fo out = some (0, nI (un g.1 31), O, F, vp_updL out 0 w.toInt64) := (k_bs h7).trans rfl
    have h8 : f_X8_endDifference mOp la s rO rW = some (w, q, 0, O2, W2) := (k_bs m1).trans rfl
    exact ⟨_, _, _, _, _, _, _, _, (k_bs hL).trans ((k_bs h8).trans ((k_bs (k_th _)).trans (cs_ok (o := out))))⟩
  · rw [if_neg hn] at hne
    have h7 : f_X7_endDifference g es op fo = some (.inr ("java/util/NoSuchElementException", es, op, fo)) := by
      unfold f_X7_endDifference
      refine (k_bs hne).trans ?_
      rw [if_pos rfl]
    have hL : f_L_endDifference g es op fo out = some (1, es, op, fo, out) := (k_bs h7).trans (se_r.trans (if_pos rfl))
    have h8 : f_X8_endDifference mOp la s rO rW = some (0, 0, 1, rO, rW) := (k_bs (q_endN h hn mOp la rO rW)).trans rfl
    exact ⟨_, _, _, _, _, _, _, _, (k_bs hL).trans ((k_bs h8).trans ((k_bs (k_th _)).trans (cs_no dz1)))⟩
theorem q_case25 {g : k_G8} {s : Nat → Int32} (h : rg8 g s) (a mOp la : Int32) (rO rW : Nat → Int32) (out : Nat → Int64) : ∃ m y O W u, f_case25 a g mOp la s rO rW out = some (m, y, O, W, u) := by
  have hne := q_isNear h.2.1
  by_cases hn : 23 ≤ c31 g.1
  · rw [if_pos hn] at hne
    obtain ⟨v, v1, v2⟩ := q_byTrying h.2.1 (by omega)
    obtain ⟨w, q, O2, W2, m1, m2⟩ := q_endD h hn mOp la rO rW
    have hvw : w = v := (fa_eq _ _).mpr (by rw [m2, v2])
    subst hvw
    have h7 : f_X7_endByTrying g = some (.inl w) := by
      unfold f_X7_endByTrying
      refine (k_bs hne).trans ?_
      rw [if_neg (by decide)]
      exact (k_bs v1).trans rfl
    have hL : f_L_endByTrying g out = some (0, vp_updL out 0 w.toInt64) := (k_bs h7).trans rfl
    have h8 : f_X8_endByTrying mOp la s rO rW = some (w, q, 0, O2, W2) := (k_bs m1).trans rfl
    exact ⟨_, _, _, _, _, (k_bs hL).trans ((k_bs h8).trans ((k_bs (k_th _)).trans (cs_ok (o := out))))⟩
  · rw [if_neg hn] at hne
    have h7 : f_X7_endByTrying g = some (.inr "java/util/NoSuchElementException") := by
      unfold f_X7_endByTrying
      refine (k_bs hne).trans ?_
      rw [if_pos rfl]
    have hL : f_L_endByTrying g out = some (1, out) := (k_bs h7).trans (se_r.trans (if_pos rfl))
    have h8 : f_X8_endByTrying mOp la s rO rW = some (0, 0, 1, rO, rW) := (k_bs (q_endN h hn mOp la rO rW)).trans rfl
    exact ⟨_, _, _, _, _, (k_bs hL).trans ((k_bs h8).trans ((k_bs (k_th _)).trans (cs_no dz1)))⟩
theorem q_noBest {z : Int32} (hz : z ≤ 0) (la : Int32) (s O W : Nat → Int32) : k_loop (t_X8_bestFence_25 z la s O W) 1000 0 = some (.inl 0) := by
  refine k_loopR ?_
  unfold t_X8_bestFence_25
  rw [if_pos hz]
theorem q_case26 {g : k_G8} {s : Nat → Int32} (h : rg8 g s) (a es : Int32) (op fo : Nat → Int32) (mOp la : Int32) (rO rW : Nat → Int32) (out : Nat → Int64) : ∃ e o f m y O W u, f_case26 a g es op fo mOp la s rO rW out = some (e, o, f, m, y, O, W, u) := by
  have hne := q_isNear h.2.1
  have hun := un_all g.1
  have hle := c31_le g.1
  have hen := q_hasEnded h.2.1
  by_cases hn : 23 ≤ c31 g.1
  · have h8 : un g.1 31 ≤ 8 := by omega
    rw [if_pos hn] at hne
    obtain ⟨O2, W2, m1, m2, m3⟩ := q_works h mOp rO rW hn
    by_cases hf : c31 g.1 = 31
    · rw [if_pos hf] at hen
      have hu0 : un g.1 31 = 0 := by omega
      have hz : nI (un g.1 31) ≤ 0 := by rw [hu0]; decide
      have h7 : f_X7_bestFence g es op fo = some (.inr ("java/util/NoSuchElementException", es, op, fo)) := by
        unfold f_X7_bestFence
        refine (k_bs hne).trans ?_
        rw [if_neg (by decide)]
        refine (k_bs hen).trans ?_
        rw [if_neg (by decide)]
      have hL : f_L_bestFence g es op fo out = some (1, es, op, fo, out) := (k_bs h7).trans (se_r.trans (if_pos rfl))
      have h8 : f_X8_bestFence mOp la s rO rW = some (0, nI (un g.1 31), 1, O2, W2) := by
        unfold f_X8_bestFence
        refine (k_bs m1).trans ?_
        dsimp only
        rw [if_neg (by decide), if_pos hz]
        exact (k_bs (q_noBest hz 1 s O2 W2)).trans rfl
      exact ⟨_, _, _, _, _, _, _, _, (k_bs hL).trans ((k_bs h8).trans ((k_bs (k_th _)).trans (cs_no dz1)))⟩
    · rw [if_neg hf] at hen
      obtain ⟨O, F, w1, w2, w3⟩ := q_workOut hn es op fo
      have hlb := q_lowestBest h.2.1 h8 (by omega) w2 w3
      have hz : ¬ nI (un g.1 31) ≤ 0 := nI_nle (by omega) (by omega)
      have hmb : k_loop (t_X8_bestFence_25 (nI (un g.1 31)) 0 s O2 W2) 1000 0 = some (.inr (nI (fbest g.1))) := by
        have := q_mbest (rS := s) (O := O2) (W := W2) (by rw [h.1]; exact h.2.1) (by rw [h.1]; exact h8) (by rw [h.1]; omega) (by rw [h.1]; exact m2) (by rw [h.1]; exact m3)
        rw [h.1] at this
        exact this
      have h7 : f_X7_bestFence g es op fo = some (.inl (nI (fbest g.1), nI (un g.1 31), O, F)) := by
        unfold f_X7_bestFence
        refine (k_bs hne).trans ?_
        rw [if_neg (by decide)]
        refine (k_bs hen).trans ?_
        rw [if_pos rfl]
        refine (k_bs w1).trans ?_
        dsimp only
        exact (k_bs hlb).trans rfl
      have hL : f_L_bestFence g es op fo out = some (0, nI (un g.1 31), O, F, vp_updL out 0 (nI (fbest g.1)).toInt64) := (k_bs h7).trans rfl
      have h8 : f_X8_bestFence mOp la s rO rW = some (nI (fbest g.1), nI (un g.1 31), 0, O2, W2) := by
        unfold f_X8_bestFence
        refine (k_bs m1).trans ?_
        dsimp only
        rw [if_neg (by decide), if_neg hz]
        exact (k_bs hmb).trans rfl
      exact ⟨_, _, _, _, _, _, _, _, (k_bs hL).trans ((k_bs h8).trans ((k_bs (k_th _)).trans (cs_ok (o := out))))⟩
  · rw [if_neg hn] at hne
    have h7 : f_X7_bestFence g es op fo = some (.inr ("java/util/NoSuchElementException", es, op, fo)) := by
      unfold f_X7_bestFence
      refine (k_bs hne).trans ?_
      rw [if_pos rfl]
    have hL : f_L_bestFence g es op fo out = some (1, es, op, fo, out) := (k_bs h7).trans (se_r.trans (if_pos rfl))
    have h8 : f_X8_bestFence mOp la s rO rW = some (0, 0, 1, rO, rW) := by
      unfold f_X8_bestFence
      refine (k_bs (q_end0 h hn mOp rO rW)).trans ?_
      dsimp only
      rw [if_pos rfl]
      exact (k_bs (q_noBest (by decide) 1 s rO rW)).trans rfl
    exact ⟨_, _, _, _, _, _, _, _, (k_bs hL).trans ((k_bs h8).trans ((k_bs (k_th _)).trans (cs_no dz1)))⟩
