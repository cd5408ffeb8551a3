/-! The cases of the law: taking, giving, one chain, games won. -/
theorem q_case13 {g : k_G8} {s : Nat → Int32} (h : rg8 g s) (a la : Int32) (out : Nat → Int64) : ∃ y o, f_case13 a g la s out = some (y, o) := by
  obtain ⟨y, hy, hyb⟩ := q_last (x := g.1)
  have hf : ff (bt y) 31 = ff (tk g.1) 31 := ff_cong fun j hj => hyb j (by omega)
  have hlow : f_X3_lowestFence y = some (fr (ff (tk g.1) 31)) := by rw [← hf]; exact q_lowest
  have htk : f_X8_taking (s 0) = some (fr (ff (tk g.1) 31)) := by rw [h.1]; exact q_taking
  have hle := ff_le (tk g.1) 31
  generalize ff (tk g.1) 31 = n at hlow htk hle
  by_cases z : n = 31
  · have hfr := q_fr hle
    have h1 : fr n = -1 := hfr.1.mpr z
    rw [h1] at hlow htk
    have h7 : f_X7_takingFence g = some (.inr "java/util/NoSuchElementException") := by
      unfold f_X7_takingFence
      refine (k_bs hy).trans ((k_bs hlow).trans ?_)
      rw [if_pos rfl]
    have hL : f_L_takingFence g out = some (1, out) := (k_bs h7).trans (se_r.trans (if_pos rfl))
    have h8 : f_X8_takingFence la s = some (0, 1) := by
      unfold f_X8_takingFence
      refine (k_bs htk).trans ?_
      rw [if_neg (by decide), if_neg (by decide)]
    exact ⟨_, _, (k_bs hL).trans ((k_bs h8).trans ((k_bs (k_th _)).trans (cs_no dz1)))⟩
  · have h1 : fr n = nI n := q_fr1 (by omega)
    have hne : ¬ nI n = (-1 : Int32) := by rw [← h1]; exact fun q => z ((q_fr hle).1.mp q)
    have h0 : (0 : Int32) ≤ nI n := nI_pos' (by omega)
    rw [h1] at hlow htk
    have h7 : f_X7_takingFence g = some (.inl (nI n)) := by
      unfold f_X7_takingFence
      refine (k_bs hy).trans ((k_bs hlow).trans ?_)
      rw [if_neg hne]
    have hL : f_L_takingFence g out = some (0, vp_updL out 0 (nI n).toInt64) := (k_bs h7).trans rfl
    have h8 : f_X8_takingFence la s = some (nI n, 0) := by
      unfold f_X8_takingFence
      refine (k_bs htk).trans ?_
      rw [if_pos h0, if_pos h0]
    exact ⟨_, _, (k_bs hL).trans ((k_bs h8).trans ((k_bs (k_th _)).trans (cs_ok (o := out))))⟩
theorem q_case14 {g : k_G8} {s : Nat → Int32} (h : rg8 g s) (a la : Int32) (out : Nat → Int64) : ∃ y o, f_case14 a g la s out = some (y, o) := by
  rcases q_fence a with ⟨f, hf, rfl, x7, x8⟩ | ⟨x7, x8⟩
  · have hbl : bt (bld (sf g.1) 31) f = sf g.1 f := by rw [q_bld _ 31 (by omega) f (by omega)]; simp [hf]
    cases hb : sf g.1 f
    · have hh : f_X3_has (bld (sf g.1) 31) (nI f) = some 0 := by rw [q_has (by omega), hbl, hb]; rfl
      have hi : f_X8_safe (s 0) (nI f) = some 0 := by rw [h.1, q_msafe hf, hb]; rfl
      have h7 : f_X7_isSafe (nI f) g = some (.inl 0) := by
        unfold f_X7_isSafe
        refine (k_bs x7).trans ?_
        rw [if_neg (by decide)]
        refine (k_bs (q_safe g.1)).trans ?_
        refine (k_bs hh).trans ?_
        rw [if_pos (Or.inl rfl)]
      have hL : f_L_isSafe (nI f) g out = some (0, vp_updL out 0 0) := (k_bs h7).trans (se_l.trans (if_pos rfl))
      have h8 : f_X8_isSafe (nI f) la s = some (0, 0) := by
        unfold f_X8_isSafe
        refine (k_bs x8).trans ?_
        rw [if_neg (by decide), if_pos rfl]
        refine (k_bs hi).trans ?_
        rw [if_pos rfl]
      exact ⟨_, _, (k_bs hL).trans ((k_bs h8).trans ((k_bs (k_th _)).trans (cs_b0 (o := out))))⟩
    · have hh : f_X3_has (bld (sf g.1) 31) (nI f) = some 1 := by rw [q_has (by omega), hbl, hb]; rfl
      have hi : f_X8_safe (s 0) (nI f) = some 1 := by rw [h.1, q_msafe hf, hb]; rfl
      have h7 : f_X7_isSafe (nI f) g = some (.inl 1) := by
        unfold f_X7_isSafe
        refine (k_bs x7).trans ?_
        rw [if_neg (by decide)]
        refine (k_bs (q_safe g.1)).trans ?_
        refine (k_bs hh).trans ?_
        rw [if_pos (Or.inr rfl)]
      have hL : f_L_isSafe (nI f) g out = some (0, vp_updL out 0 1) := (k_bs h7).trans (se_l.trans (if_neg (by decide)))
      have h8 : f_X8_isSafe (nI f) la s = some (1, 0) := by
        unfold f_X8_isSafe
        refine (k_bs x8).trans ?_
        rw [if_neg (by decide), if_pos rfl]
        refine (k_bs hi).trans ?_
        rw [if_neg (by decide)]
      exact ⟨_, _, (k_bs hL).trans ((k_bs h8).trans ((k_bs (k_th _)).trans (cs_b1 (o := out))))⟩
  · have h7 : f_X7_isSafe a g = some (.inr "java/lang/IllegalArgumentException") := by
      unfold f_X7_isSafe
      refine (k_bs x7).trans ?_
      rw [if_pos rfl]
    have hL : f_L_isSafe a g out = some (1, out) := (k_bs h7).trans (se_r.trans (if_pos rfl))
    have h8 : f_X8_isSafe a la s = some (0, 1) := by
      unfold f_X8_isSafe
      refine (k_bs x8).trans ?_
      rw [if_pos rfl, if_neg (by decide)]
    exact ⟨_, _, (k_bs hL).trans ((k_bs h8).trans ((k_bs (k_th _)).trans (cs_bn dz1)))⟩
theorem q_case17 {g : k_G8} {s : Nat → Int32} (h : rg8 g s) (a la : Int32) (out : Nat → Int64) : ∃ y o, f_case17 a g la s out = some (y, o) := by
  rcases q_fence a with ⟨f, hf, rfl, x7, x8⟩ | ⟨x7, x8⟩
  · cases hb : bt g.1 f
    · have hh : f_X3_has g.1 (nI f) = some 0 := by rw [q_has (by omega), hb]; rfl
      have hi : f_X8_isIn (s 0) (nI f) = some 0 := by rw [h.1, q_isIn (by omega), hb]; rfl
      have ht : f_X8_takes ((s 0) ||| ((1 : Int32) <<< (nI f &&& 31))) = some (nI (tT (st g.1 f))) := by rw [h.1]; exact q_takes (st g.1 f)
      have h7 : f_X7_gives (nI f) g = some (.inl (nI (tT (st g.1 f)))) := by
        unfold f_X7_gives
        refine (k_bs x7).trans ?_
        rw [if_neg (by decide)]
        refine (k_bs hh).trans ?_
        rw [if_pos rfl]
        refine (k_bs (show f_X6_givenBy g.1 (nI f) = some (nI (tT (st g.1 f))) from (k_bs (q_oneByOne (st g.1 f))).trans rfl)).trans rfl
      have hL : f_L_gives (nI f) g out = some (0, vp_updL out 0 (nI (tT (st g.1 f))).toInt64) := (k_bs h7).trans rfl
      have h8 : f_X8_gives (nI f) la s = some (nI (tT (st g.1 f)), 0) := by
        unfold f_X8_gives
        refine (k_bs x8).trans ?_
        rw [if_neg (by decide)]
        refine (k_bs hi).trans ?_
        rw [if_pos rfl, if_pos rfl]
        exact (k_bs ht).trans rfl
      exact ⟨_, _, (k_bs hL).trans ((k_bs h8).trans ((k_bs (k_th _)).trans (cs_ok (o := out))))⟩
    · have hh : f_X3_has g.1 (nI f) = some 1 := by rw [q_has (by omega), hb]; rfl
      have hi : f_X8_isIn (s 0) (nI f) = some 1 := by rw [h.1, q_isIn (by omega), hb]; rfl
      have h7 : f_X7_gives (nI f) g = some (.inr "java/lang/IllegalStateException") := by
        unfold f_X7_gives
        refine (k_bs x7).trans ?_
        rw [if_neg (by decide)]
        refine (k_bs hh).trans ?_
        rw [if_neg (by decide)]
      have hL : f_L_gives (nI f) g out = some (2, out) := (k_bs h7).trans (se_r.trans ((if_neg ne_is).trans (if_pos rfl)))
      have h8 : f_X8_gives (nI f) la s = some (0, 2) := by
        unfold f_X8_gives
        refine (k_bs x8).trans ?_
        rw [if_neg (by decide)]
        refine (k_bs hi).trans ?_
        rw [if_neg (by decide), if_neg (by decide)]
      exact ⟨_, _, (k_bs hL).trans ((k_bs h8).trans ((k_bs (k_th _)).trans (cs_no dz2)))⟩
  · have h7 : f_X7_gives a g = some (.inr "java/lang/IllegalArgumentException") := by
      unfold f_X7_gives
      refine (k_bs x7).trans ?_
      rw [if_pos rfl]
    have hL : f_L_gives a g out = some (1, out) := (k_bs h7).trans (se_r.trans (if_pos rfl))
    have h8 : f_X8_gives a la s = some (0, 1) := by
      unfold f_X8_gives
      refine (k_bs x8).trans ?_
      rw [if_pos rfl, if_neg (by decide)]
    exact ⟨_, _, (k_bs hL).trans ((k_bs h8).trans ((k_bs (k_th _)).trans (cs_no dz1)))⟩
theorem q_case18 {g : k_G8} {s : Nat → Int32} (h : rg8 g s) (a la : Int32) (out : Nat → Int64) : ∃ y o, f_case18 a g la s out = some (y, o) := by
  have hl := q_leastGiving g.1
  have hm := q_leastSacrifice (l := la) (rS := s)
  rw [h.1] at hm
  have hle : (lg g.1 31).2 ≤ 31 := by rcases lg_ok g.1 31 (by omega) with q | q <;> omega
  generalize (lg g.1 31).2 = n at hl hm hle
  by_cases z : n < 31
  · have h1 : fr n = nI n := q_fr1 z
    have hne : ¬ nI n = (-1 : Int32) := by rw [← h1]; exact fun q => by have := (q_fr hle).1.mp q; omega
    rw [h1] at hl
    rw [if_pos z] at hm
    have h7 : f_X7_leastSacrifice g = some (.inl (nI n)) := by
      unfold f_X7_leastSacrifice
      refine (k_bs hl).trans ?_
      rw [if_neg hne]
    have hL : f_L_leastSacrifice g out = some (0, vp_updL out 0 (nI n).toInt64) := (k_bs h7).trans rfl
    exact ⟨_, _, (k_bs hL).trans ((k_bs hm).trans ((k_bs (k_th _)).trans (cs_ok (o := out))))⟩
  · have h1 : fr n = -1 := (q_fr hle).1.mpr (by omega)
    rw [h1] at hl
    rw [if_neg z] at hm
    have h7 : f_X7_leastSacrifice g = some (.inr "java/util/NoSuchElementException") := by
      unfold f_X7_leastSacrifice
      refine (k_bs hl).trans ?_
      rw [if_pos rfl]
    have hL : f_L_leastSacrifice g out = some (1, out) := (k_bs h7).trans (se_r.trans (if_pos rfl))
    exact ⟨_, _, (k_bs hL).trans ((k_bs hm).trans ((k_bs (k_th _)).trans (cs_no dz1)))⟩
theorem q_case20 {g : k_G8} {s : Nat → Int32} (h : rg8 g s) (a la : Int32) (rC : Nat → Int32) (out : Nat → Int64) : ∃ y C o, f_case20 a g la s rC out = some (y, C, o) := by
  rcases q_box a with ⟨k, hk, rfl, x7, x8⟩ | ⟨x7, x8⟩
  · have hcn := q_cn4 g.1 k
    have hmh : f_X8_has (s 0) (nI k) = some (nI (cn g.1 k)) := by rw [h.1]; exact q_mhas hk
    by_cases c2 : cn g.1 k = 2
    · have ht : tw g.1 k = true := decide_eq_true c2
      have h2 : nI (cn g.1 k) = (2 : Int32) := by rw [c2]; rfl
      obtain ⟨R, r1, r2⟩ := q_around (x := g.1) hk
      have hR := R_bld hk r2 ht
      have hn : q_n R = gt g.1 (lb g.1 k) := by rw [hR]; exact q_nbld (by omega)
      obtain ⟨l1, l2, l3⟩ := lb_tw hk ht
      have hfi : f_X8_finds s rC = some (lab g.1 rC (lb g.1)) := by have := q_finds (rS := s) (rC := rC); rw [h.1] at this; exact this
      have hla : lab g.1 rC (lb g.1) (nI k).toNatClampNeg = nI (lb g.1 k) := by
        rw [nI_clamp (by omega)]
        unfold lab
        rw [if_pos hk, if_pos ht]
      have hgr : f_X8_great (nI (lb g.1 k)) (lab g.1 rC (lb g.1)) = some (nI (gt g.1 (lb g.1 k))) := q_great l1
      have h7 : f_X7_chainOf (nI k) g = some (.inl (nI (gt g.1 (lb g.1 k)))) := by
        unfold f_X7_chainOf
        refine (k_bs x7).trans ?_
        rw [if_neg (by decide)]
        refine (k_bs (q_countSides hk)).trans ?_
        rw [if_pos h2]
        refine (k_bs r1).trans ?_
        refine (k_bs (q_bitCount R)).trans ?_
        rw [hn]
      have hL : f_L_chainOf (nI k) g out = some (0, vp_updL out 0 (nI (gt g.1 (lb g.1 k))).toInt64) := (k_bs h7).trans rfl
      have h8 : f_X8_chainOf (nI k) la s rC = some (nI (gt g.1 (lb g.1 k)), 0, lab g.1 rC (lb g.1)) := by
        unfold f_X8_chainOf
        refine (k_bs x8).trans ?_
        rw [if_neg (by decide)]
        refine (k_bs hmh).trans ?_
        rw [if_pos h2, if_pos (by decide)]
        refine (k_bs hfi).trans ?_
        rw [if_neg (nI_in (c := k) (N := 12) hk (by decide)), hla]
        exact (k_bs hgr).trans rfl
      exact ⟨_, _, _, (k_bs hL).trans ((k_bs h8).trans ((k_bs (k_th _)).trans (cs_ok (o := out))))⟩
    · have h2 : ¬ nI (cn g.1 k) = (2 : Int32) := fun q => c2 ((nI_eq (b := 2) (by omega) (by decide)).mp q)
      have h7 : f_X7_chainOf (nI k) g = some (.inr "java/util/NoSuchElementException") := by
        unfold f_X7_chainOf
        refine (k_bs x7).trans ?_
        rw [if_neg (by decide)]
        refine (k_bs (q_countSides hk)).trans ?_
        rw [if_neg h2]
      have hL : f_L_chainOf (nI k) g out = some (2, out) := (k_bs h7).trans (se_r.trans ((if_neg ne_ns).trans (if_pos rfl)))
      have h8 : f_X8_chainOf (nI k) la s rC = some (0, 2, rC) := by
        unfold f_X8_chainOf
        refine (k_bs x8).trans ?_
        rw [if_neg (by decide)]
        refine (k_bs hmh).trans ?_
        rw [if_neg h2, if_neg (by decide)]
      exact ⟨_, _, _, (k_bs hL).trans ((k_bs h8).trans ((k_bs (k_th _)).trans (cs_no dz2)))⟩
  · have h7 : f_X7_chainOf a g = some (.inr "java/lang/IllegalArgumentException") := by
      unfold f_X7_chainOf
      refine (k_bs x7).trans ?_
      rw [if_pos rfl]
    have hL : f_L_chainOf a g out = some (1, out) := (k_bs h7).trans (se_r.trans (if_pos rfl))
    have h8 : f_X8_chainOf a la s rC = some (0, 1, rC) := by
      unfold f_X8_chainOf
      refine (k_bs x8).trans ?_
      rw [if_pos rfl, if_neg (by decide)]
    exact ⟨_, _, _, (k_bs hL).trans ((k_bs h8).trans ((k_bs (k_th _)).trans (cs_no dz1)))⟩
theorem q_case27 {g : k_G8} {s : Nat → Int32} (h : rg8 g s) (a la : Int32) (out : Nat → Int64) : ∃ y o, f_case27 a g la s out = some (y, o) := by
  rcases q_player a with ⟨p, hp, rfl, x7, x8⟩ | ⟨x7, x8⟩
  · have e1 : (14 : Int32) + nI p = nI (14 + p) := nI_add 14 p
    have hg := nI_in (c := 14 + p) (N := 19) (by omega) (by decide)
    have h14 := h.2.2.2.2.2.2.2.2.2.2.1
    have h15 := h.2.2.2.2.2.2.2.2.2.2.2.1
    have hv : ∃ w, s (nI (14 + p)).toNatClampNeg = w ∧ f_X7_won (nI p) g = some (.inl w) := by
      rcases (show p = 0 ∨ p = 1 by omega) with rfl | rfl
      · refine ⟨g.2.2.2.2.1, by rw [nI_clamp (by omega)]; exact h14, ?_⟩
        unfold f_X7_won
        refine (k_bs x7).trans ?_
        rw [if_neg (by decide), if_pos (show nI 0 = (0 : Int32) from rfl)]
      · refine ⟨g.2.2.2.2.2.1, by rw [nI_clamp (by omega)]; exact h15, ?_⟩
        unfold f_X7_won
        refine (k_bs x7).trans ?_
        rw [if_neg (by decide), if_neg (show ¬ nI 1 = (0 : Int32) by decide)]
    obtain ⟨w, hv, h7⟩ := hv
    have hL : f_L_won (nI p) g out = some (0, vp_updL out 0 w.toInt64) := (k_bs h7).trans rfl
    have h8 : f_X8_won (nI p) la s = some (w, 0) := by
      unfold f_X8_won
      refine (k_bs x8).trans ?_
      rw [if_neg (by decide), if_pos rfl, e1, if_neg hg, hv]
    exact ⟨_, _, (k_bs hL).trans ((k_bs h8).trans ((k_bs (k_th _)).trans (cs_ok (o := out))))⟩
  · have h7 : f_X7_won a g = some (.inr "java/lang/IllegalArgumentException") := by
      unfold f_X7_won
      refine (k_bs x7).trans ?_
      rw [if_pos rfl]
    have hL : f_L_won a g out = some (1, out) := (k_bs h7).trans (se_r.trans (if_pos rfl))
    have h8 : f_X8_won a la s = some (0, 1) := by
      unfold f_X8_won
      refine (k_bs x8).trans ?_
      rw [if_pos rfl, if_neg (by decide)]
    exact ⟨_, _, (k_bs hL).trans ((k_bs h8).trans ((k_bs (k_th _)).trans (cs_no dz1)))⟩
