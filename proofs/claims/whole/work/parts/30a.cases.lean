/-! The cases of the law: calls without an argument that change nothing. -/
theorem updL0 {o : Nat → Int64} {y : Int64} : vp_updL o 0 y 0 = y := if_pos rfl
theorem lg_same (y : Int64) : lg_cmp y y = 0 := (lg_cmp_eq y y).mpr rfl
theorem q_told {rS : Nat → Int32} {k : Nat} (hk : k < 19) (l : Int32) : f_X8_told (nI k) l rS = some (rS k, 0) := by
  unfold f_X8_told
  rw [if_neg (nI_in (c := k) (N := 19) hk (by decide)), nI_clamp (by omega)]
theorem q_case3 {g : k_G8} {s : Nat → Int32} (h : rg8 g s) (a la : Int32) : f_case3 a g la s = some 0 := by
  have h1 : f_X7_drawn g = some (s 18) := (k_bs (q_countFences h)).trans rfl
  have h2 : f_X8_drawn la s = some (s 18, 0) := (k_bs (q_told (k := 18) (by omega) la)).trans rfl
  unfold f_case3
  refine (k_bs h1).trans ((k_bs h2).trans ?_)
  exact if_pos rfl
theorem q_case8 {g : k_G8} {s : Nat → Int32} (h : rg8 g s) (a la : Int32) : f_case8 a g la s = some 0 := by
  have h2 : f_X8_turn la s = some (s 13, 0) := (k_bs (q_told (k := 13) (by omega) la)).trans rfl
  unfold f_case8
  refine (k_bs (show f_X7_turn g = some g.2.2.2.1 from rfl)).trans ((k_bs h2).trans ?_)
  exact if_pos h.2.2.2.2.2.2.2.2.1.symm
theorem q_case10 {g : k_G8} {s : Nat → Int32} (h : rg8 g s) (a la : Int32) : f_case10 a g la s = some 0 := by
  have h1 : f_X7_isOver g = some (if c31 g.1 = 31 then 1 else 0) := by
    unfold f_X7_isOver
    refine (k_bs (q_hasEnded h.2.1)).trans ?_
    by_cases c : c31 g.1 = 31
    · rw [if_pos c]; rfl
    · rw [if_neg c]; rfl
  have h2 : f_X8_isOver la s = some (if c31 g.1 = 31 then 1 else 0, 0) := by
    unfold f_X8_isOver
    refine (k_bs (q_told (k := 18) (by omega) la)).trans ?_
    dsimp only
    rw [h.2.2.1]
    by_cases c : c31 g.1 = 31
    · rw [if_pos (c31_31.mpr c), if_pos c]
    · rw [if_neg (fun q => c (c31_31.mp q)), if_neg c]
  unfold f_case10
  refine (k_bs h1).trans ((k_bs h2).trans ?_)
  exact if_pos rfl
theorem q_now {g : k_G8} {s : Nat → Int32} (h : rg8 g s) (la : Int32) : f_X8_canTakeNow la s = some (nI (tT g.1), 0) := by
  unfold f_X8_canTakeNow
  rw [h.1]
  exact (k_bs (q_takes g.1)).trans rfl
theorem q_case11 {g : k_G8} {s : Nat → Int32} (h : rg8 g s) (a la : Int32) : f_case11 a g la s = some 0 := by
  have h1 : f_X7_canTake g = some (nI (tT g.1)) := (k_bs (q_oneByOne g.1)).trans rfl
  have h2 : f_X8_canTake la s = some (nI (tT g.1), 0) := (k_bs (q_now h la)).trans rfl
  unfold f_case11
  refine (k_bs h1).trans ((k_bs h2).trans ?_)
  exact if_pos rfl
theorem q_case12 {g : k_G8} {s : Nat → Int32} (h : rg8 g s) (a la : Int32) : f_case12 a g la s = some 0 := by
  have h1 : f_X7_canTakeByRounds g = some (nI (tT g.1)) := (k_bs (q_byRounds g.1)).trans rfl
  have h2 : f_X8_canTakeByRounds la s = some (nI (tT g.1), 0) := (k_bs (q_now h la)).trans rfl
  unfold f_case12
  refine (k_bs h1).trans ((k_bs h2).trans ?_)
  exact if_pos rfl
theorem q_case15 {g : k_G8} {s : Nat → Int32} (h : rg8 g s) (a la : Int32) : f_case15 a g la s = some 0 := by
  have hq : f_J6_bitCount_0f7a4 (bld (sf g.1) 31) = some (nI (fb_ct (sf g.1) 31)) := by rw [q_bitCount, q_nbld (by omega)]
  have h1 : f_X7_safeFences g = some (nI (fb_ct (sf g.1) 31)) := (k_bs (q_safe g.1)).trans ((k_bs hq).trans rfl)
  have hk := k_for (step := t_X8_safeFences_9 s) (fun i => (nI (fb_ct (sf g.1) i), nI i)) 31 (nI (fb_ct (sf g.1) 31), nI 31) ?_ ?_ 1000 (by decide)
  · have h2 : f_X8_safeFences la s = some (nI (fb_ct (sf g.1) 31), 0) := (k_bs hk).trans rfl
    unfold f_case15
    refine (k_bs h1).trans ((k_bs h2).trans ?_)
    exact if_pos rfl
  · intro i hi
    have z0 : nI (fb_ct (sf g.1) i) + 0 = nI (fb_ct (sf g.1) i + 0) := nI_add _ 0
    have z1 : nI (fb_ct (sf g.1) i) + 1 = nI (fb_ct (sf g.1) i + 1) := nI_add _ 1
    unfold t_X8_safeFences_9 k_let
    dsimp only
    rw [if_neg (show ¬ (31 : Int32) ≤ nI i from nI_ge (b := 31) hi (by decide)), h.1]
    refine (k_bs (q_msafe hi)).trans ?_
    rw [z0, z1, nI_1 i, fb_ct_succ]
    cases sf g.1 i
    · rfl
    · rfl
  · rfl
theorem q_case16 {g : k_G8} {s : Nat → Int32} (h : rg8 g s) (a la : Int32) : f_case16 a g la s = some 0 := by
  have h1 : f_X7_safeInRow g = some (nI (fN g.1)) := (k_bs (q_safeOneByOne g.1)).trans rfl
  have h2 : f_X8_safeInRow la s = some (nI (fN g.1), 0) := by rw [q_safeInRow, h.1]
  unfold f_case16
  refine (k_bs h1).trans ((k_bs h2).trans ?_)
  exact if_pos rfl
theorem q_case28 {g : k_G8} {s : Nat → Int32} (h : rg8 g s) (a la : Int32) : f_case28 a g la s = some 0 := by
  have h2 : f_X8_evenGames la s = some (s 16, 0) := (k_bs (q_told (k := 16) (by omega) la)).trans rfl
  unfold f_case28
  refine (k_bs (show f_X7_evenGames g = some g.2.2.2.2.2.2.1 from rfl)).trans ((k_bs h2).trans ?_)
  exact if_pos h.2.2.2.2.2.2.2.2.2.2.2.2.1.symm
theorem q_case29 {g : k_G8} {s : Nat → Int32} (h : rg8 g s) (a la : Int32) : f_case29 a g la s = some 0 := by
  have h2 : f_X8_doubleDeals la s = some (s 17, 0) := (k_bs (q_told (k := 17) (by omega) la)).trans rfl
  unfold f_case29
  refine (k_bs (show f_X7_doubleDeals g = some g.2.2.2.2.2.2.2 from rfl)).trans ((k_bs h2).trans ?_)
  exact if_pos h.2.2.2.2.2.2.2.2.2.2.2.2.2.symm
theorem q_case33 {hs : Int32} (a la : Int32) : f_case33 a hs hs la = some 0 := if_pos rfl
theorem q_case36 {o : k_O5} {ty : Int32} (a la : Int32) (h : o.1 = ty) : f_case36 a o la ty = some ((0, o.2.1, o.2.2.1, o.2.2.2.1, o.2.2.2.2), 0, 0) := if_pos h
