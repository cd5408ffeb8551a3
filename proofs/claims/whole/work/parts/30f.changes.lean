/-! The cases of the law: changes. -/
theorem q_case0 {g : k_G8} {s : Nat → Int32} (h : rg8 g s) {n : Nat} (hn : n ≤ 4) {k0 k1 k2 k3 : k_G8} {rP : Nat → Int32} (hh : hist n k0 k1 k2 k3 rP) (a : Int32) (qs : k_Q4) (la : Int32) (out : Nat → Int64) : ∃ (g' : k_G8) (n' : Nat) (qs' : k_Q4) (a0 a1 a2 a3 : k_G8) (y : Int32) (s' P' : Nat → Int32) (u : Nat → Int64), f_case0 a g (nI n) qs k0 k1 k2 k3 (nI n) 0 la s rP out = some (g', nI n', qs', a0, a1, a2, a3, nI n', y, s', P', u) ∧ rg8 g' s' ∧ n' ≤ 4 ∧ hist n' a0 a1 a2 a3 P' := by
  rcases q_fence a with ⟨f, hf, rfl, x7, x8⟩ | ⟨x7, x8⟩
  · have hrf := q_refusal h.2.1 hf
    have hre := q_reason h hf
    by_cases bad : c31 g.1 = 31 ∨ bt g.1 f = true
    · obtain ⟨w, hw, hw1, hw2⟩ : ∃ w : Int32, ¬ w ≤ 0 ∧ f_X2_refusal (nI f) g = some w ∧ f_X8_reason (nI f) s = some w := by
        by_cases c : c31 g.1 = 31
        · rw [if_pos c] at hrf hre
          exact ⟨1, by decide, hrf, hre⟩
        · rw [if_neg c, if_pos (bad.resolve_left c)] at hrf hre
          exact ⟨2, by decide, hrf, hre⟩
      have hw0 : ¬ w = 0 := fun q => hw (by rw [q]; decide)
      have h7 : f_X7_draw (nI f) g (nI n) qs k0 k1 k2 k3 = some (.inr ("java/lang/IllegalStateException", g, nI n, qs, k0, k1, k2, k3)) := by
        unfold f_X7_draw
        refine (k_bs x7).trans ?_
        rw [if_neg (by decide)]
        refine (k_bs hw1).trans ?_
        rw [if_neg hw0]
      have hL : f_L_draw (nI f) g (nI n) qs k0 k1 k2 k3 out = some (2, g, nI n, qs, k0, k1, k2, k3, out) := (k_bs h7).trans (se_r.trans ((if_neg ne_is).trans (if_pos rfl)))
      have h8 : f_X8_draw (nI f) (nI n) 0 la s rP = some (0, nI n, 2, s, rP) := by
        unfold f_X8_draw
        refine (k_bs x8).trans ?_
        rw [if_neg (by decide)]
        refine (k_bs hw2).trans ?_
        rw [if_neg hw]
        rfl
      exact ⟨g, n, qs, k0, k1, k2, k3, 2, s, rP, out, (k_bs hL).trans ((k_bs h8).trans ((k_bs (k_th _)).trans (cs_no dz2))), h, hn, hh⟩
    · have hfull : ¬ c31 g.1 = 31 := fun q => bad (Or.inl q)
      have hb : bt g.1 f = false := by
        cases q : bt g.1 f
        · rfl
        · exact absurd (Or.inr q) bad
      rw [if_neg hfull, hb, if_neg Bool.false_ne_true] at hrf
      obtain ⟨n', qs', a0, a1, a2, a3, P', b1, b2, b3, b4⟩ := q_record hn qs hh h
      obtain ⟨g1, s1, p1, p2, p3⟩ := q_mdraw h hf hfull hb
      have h7 : f_X7_draw (nI f) g (nI n) qs k0 k1 k2 k3 = some (.inl (nI (cl g.1 f), g1, nI n', qs', a0, a1, a2, a3)) := by
        unfold f_X7_draw
        refine (k_bs x7).trans ?_
        rw [if_neg (by decide)]
        refine (k_bs hrf).trans ?_
        rw [if_pos rfl]
        refine (k_bs b2).trans ?_
        exact (k_bs p1).trans rfl
      have hL : f_L_draw (nI f) g (nI n) qs k0 k1 k2 k3 out = some (0, g1, nI n', qs', a0, a1, a2, a3, vp_updL out 0 (nI (cl g.1 f)).toInt64) := (k_bs h7).trans rfl
      have h8 : f_X8_draw (nI f) (nI n) 0 la s rP = some (nI (cl g.1 f), nI n', 0, s1, P') := p3 (nI n) 0 la rP (nI n', P') b3
      exact ⟨g1, n', qs', a0, a1, a2, a3, 0, s1, P', _, (k_bs hL).trans ((k_bs h8).trans ((k_bs (k_th _)).trans (cs_ok (o := out)))), p2, b1, b4⟩
  · have h7 : f_X7_draw a g (nI n) qs k0 k1 k2 k3 = some (.inr ("java/lang/IllegalArgumentException", g, nI n, qs, k0, k1, k2, k3)) := by
      unfold f_X7_draw
      refine (k_bs x7).trans ?_
      rw [if_pos rfl]
    have hL : f_L_draw a g (nI n) qs k0 k1 k2 k3 out = some (1, g, nI n, qs, k0, k1, k2, k3, out) := (k_bs h7).trans (se_r.trans (if_pos rfl))
    have h8 : f_X8_draw a (nI n) 0 la s rP = some (0, nI n, 1, s, rP) := by
      unfold f_X8_draw
      refine (k_bs x8).trans ?_
      rw [if_pos rfl]
      rfl
    exact ⟨g, n, qs, k0, k1, k2, k3, 1, s, rP, out, (k_bs hL).trans ((k_bs h8).trans ((k_bs (k_th _)).trans (cs_no dz1))), h, hn, hh⟩
theorem q_case1 {g : k_G8} {s : Nat → Int32} (h : rg8 g s) {n : Nat} (hn : n ≤ 4) {k0 k1 k2 k3 : k_G8} {rP : Nat → Int32} (hh : hist n k0 k1 k2 k3 rP) (a : Int32) (qs : k_Q4) (la : Int32) : ∃ (g' : k_G8) (n' : Nat) (qs' : k_Q4) (a0 a1 a2 a3 : k_G8) (y : Int32) (s' P' : Nat → Int32), f_case1 a g (nI n) qs k0 k1 k2 k3 (nI n) 0 la s rP = some (g', nI n', qs', a0, a1, a2, a3, nI n', y, s', P') ∧ rg8 g' s' ∧ n' ≤ 4 ∧ hist n' a0 a1 a2 a3 P' := by
  obtain ⟨n', qs', a0, a1, a2, a3, P', b1, b2, b3, b4⟩ := q_record hn qs hh h
  obtain ⟨n1, n2⟩ := q_mnew h
  have h7 : f_X7_newGame g (nI n) qs k0 k1 k2 k3 = some (s 18, beG g, nI n', qs', a0, a1, a2, a3) := by
    unfold f_X7_newGame
    refine (k_bs (q_countFences h)).trans ?_
    refine (k_bs b2).trans ?_
    exact (k_bs (q_begin (g := g))).trans rfl
  have h8 : f_X8_newGame (nI n) 0 la s rP = some (s 18, nI n', 0, brow s 12, P') := n2 (nI n) 0 la rP (nI n', P') b3
  exact ⟨_, n', _, _, _, _, _, _, _, _, (k_bs h7).trans ((k_bs h8).trans (if_pos rfl)), n1, b1, b4⟩
theorem q_case31 {g : k_G8} {s : Nat → Int32} (h : rg8 g s) (a : Int32) (sn : k_G8) (has ik la : Int32) (rK : Nat → Int32) : ∃ K, f_case31 a g sn has ik la s rK = some (g, 1, 1, 0, K) ∧ rg8 g K := by
  obtain ⟨r, r1, r2⟩ := q_copies s rK
  have h7 : f_X7_keep g sn has = some (s 18, g, 1) := by
    unfold f_X7_keep
    refine (k_bs (show f_X2_copyFrom sn g = some g from rfl)).trans ?_
    exact (k_bs (q_countFences h)).trans rfl
  have h8 : f_X8_keep ik la s rK = some (s 18, 1, 0, r) := (k_bs r1).trans rfl
  exact ⟨r, (k_bs h7).trans ((k_bs h8).trans (if_pos rfl)), rg8_cong h fun j hj => by rw [r2, if_pos hj]⟩
theorem q_case32 {g sn : k_G8} {s rK : Nat → Int32} (h : rg8 g s) {n : Nat} (hn : n ≤ 4) {k0 k1 k2 k3 : k_G8} {rP : Nat → Int32} (hh : hist n k0 k1 k2 k3 rP) {ik : Int32} (hk : ik = 0 ∨ rg8 sn rK) (a : Int32) (qs : k_Q4) (la : Int32) (out : Nat → Int64) : ∃ (g' : k_G8) (n' : Nat) (qs' : k_Q4) (a0 a1 a2 a3 : k_G8) (y : Int32) (s' P' : Nat → Int32) (u : Nat → Int64), f_case32 a g sn (nI n) qs k0 k1 k2 k3 ik ik (nI n) 0 la s rP rK out = some (g', nI n', qs', a0, a1, a2, a3, nI n', y, s', P', u) ∧ rg8 g' s' ∧ n' ≤ 4 ∧ hist n' a0 a1 a2 a3 P' := by
  by_cases z : ik = 0
  · subst z
    have h7 : f_X7_goBack g sn (nI n) qs k0 k1 k2 k3 0 = some (.inr ("java/lang/IllegalStateException", g, nI n, qs, k0, k1, k2, k3)) := if_pos rfl
    have hL : f_L_goBack g sn (nI n) qs k0 k1 k2 k3 0 out = some (1, g, nI n, qs, k0, k1, k2, k3, out) := (k_bs h7).trans (se_r.trans (if_pos rfl))
    have h8 : f_X8_goBack 0 (nI n) 0 la s rP rK = some (0, nI n, 1, s, rP) := (if_pos rfl : _ = (f_X8_fails 1 0).bind _)
    exact ⟨g, n, qs, k0, k1, k2, k3, 1, s, rP, out, (k_bs hL).trans ((k_bs h8).trans ((k_bs (k_th _)).trans (cs_no dz1))), h, hn, hh⟩
  · have hs := hk.resolve_left z
    obtain ⟨n', qs', a0, a1, a2, a3, P', b1, b2, b3, b4⟩ := q_record hn qs hh h
    obtain ⟨r, r1, r2⟩ := q_copies rK s
    have h18 : r 18 = rK 18 := by rw [r2, if_pos (by omega)]
    have h7 : f_X7_goBack g sn (nI n) qs k0 k1 k2 k3 ik = some (.inl (rK 18, sn, nI n', qs', a0, a1, a2, a3)) := by
      unfold f_X7_goBack
      rw [if_neg z]
      refine (k_bs b2).trans ?_
      refine (k_bs (show f_X2_copyFrom g sn = some sn from rfl)).trans ?_
      exact (k_bs (q_countFences hs)).trans rfl
    have hL : f_L_goBack g sn (nI n) qs k0 k1 k2 k3 ik out = some (0, sn, nI n', qs', a0, a1, a2, a3, vp_updL out 0 (rK 18).toInt64) := (k_bs h7).trans rfl
    have h8 : f_X8_goBack ik (nI n) 0 la s rP rK = some (rK 18, nI n', 0, r, P') := by
      unfold f_X8_goBack
      rw [if_neg z]
      refine (k_bs b3).trans ?_
      refine (k_bs r1).trans ?_
      rw [h18]
    exact ⟨sn, n', qs', a0, a1, a2, a3, 0, r, P', _, (k_bs hL).trans ((k_bs h8).trans ((k_bs (k_th _)).trans (cs_ok (o := out)))), rg8_cong hs fun j hj => by rw [r2, if_pos hj], b1, b4⟩
theorem q_case34 {g : k_G8} {s : Nat → Int32} (h : rg8 g s) {n : Nat} (hn : n ≤ 4) {k0 k1 k2 k3 : k_G8} {rP : Nat → Int32} (hh : hist n k0 k1 k2 k3 rP) (a : Int32) (la : Int32) (out : Nat → Int64) : ∃ (g' : k_G8) (n' : Nat) (y : Int32) (s' : Nat → Int32) (u : Nat → Int64), f_case34 a g (nI n) k0 k1 k2 k3 (nI n) la s rP out = some (g', nI n', nI n', y, s', u) ∧ rg8 g' s' ∧ n' ≤ 4 ∧ hist n' k0 k1 k2 k3 rP := by
  cases n with
  | zero =>
    have h7 : f_X7_undo g (nI 0) k0 k1 k2 k3 = some (.inr ("java/lang/IllegalStateException", g, nI 0)) := if_pos rfl
    have hL : f_L_undo g (nI 0) k0 k1 k2 k3 out = some (1, g, nI 0, out) := (k_bs h7).trans (se_r.trans (if_pos rfl))
    have h8 : f_X8_undo (nI 0) la s rP = some (0, nI 0, 1, s) := (if_pos rfl : _ = (f_X8_fails 1 0).bind _)
    exact ⟨g, 0, 1, s, out, (k_bs hL).trans ((k_bs h8).trans ((k_bs (k_th _)).trans (cs_no dz1))), h, hn, hh⟩
  | succ m =>
    obtain ⟨s', u1, u2, u3⟩ := q_undo (g := g) (s := s) (h := m) (by omega) hh la
    have h7 : f_X7_undo g (nI (m + 1)) k0 k1 k2 k3 = some (.inl (nI m, kk k0 k1 k2 k3 m, nI m)) := by
      unfold f_X7_undo
      rw [if_neg (show ¬ nI (m + 1) = (0 : Int32) from nI_ne0 (by omega) (by omega))]
      exact (k_bs u1).trans rfl
    have hL : f_L_undo g (nI (m + 1)) k0 k1 k2 k3 out = some (0, kk k0 k1 k2 k3 m, nI m, vp_updL out 0 (nI m).toInt64) := (k_bs h7).trans rfl
    exact ⟨kk k0 k1 k2 k3 m, m, 0, s', _, (k_bs hL).trans ((k_bs u2).trans ((k_bs (k_th _)).trans (cs_ok (o := out)))), u3, by omega, fun i hi => hh i (by omega)⟩
