/-! What the law asks of the class: each question's answer, caught. -/
theorem o_fence : ∀ f, f < 31 → f_X7_isFence (nI f) = some 1 := by decide +kernel
theorem o_box : ∀ f, f < 12 → f_X7_isBox (nI f) = some 1 := by decide +kernel
theorem o_pl : f_X7_isPlayer 0 = some 1 ∧ f_X7_isPlayer 1 = some 1 ∧ f_X7_isPlayer 2 = some 0 := by decide +kernel
theorem o_nofence : f_X7_isFence 31 = some 0 ∧ f_X7_isFence (-1) = some 0 := by decide +kernel
theorem o_nobox : f_X7_isBox 12 = some 0 ∧ f_X7_isBox (-1) = some 0 := by decide +kernel
theorem o_isDrawn {g : k_G8} {f : Nat} (hf : f < 31) : f_L_isDrawnOf (nI f) g = some (if bt g.1 f then 1 else 0) := by
  unfold f_L_isDrawnOf
  refine (k_bs (a := Sum.inl (if bt g.1 f then 1 else 0)) ?_).trans ?_
  · unfold f_X7_isDrawn
    refine (k_bs (o_fence f hf)).trans ?_
    rw [if_neg (by decide)]
    refine (k_bs (q_has (by omega))).trans ?_
    rw [if_pos (p_b01 _)]
  · cases bt g.1 f <;> rfl
theorem o_isDrawnN (g : k_G8) : f_L_isDrawnOf 31 g = some (-101) := by
  unfold f_L_isDrawnOf f_X7_isDrawn
  exact (k_bs (a := Sum.inr "java/lang/IllegalArgumentException") ((k_bs o_nofence.1).trans (if_pos rfl))).trans (by simp)
theorem o_fencesOf {g : k_G8} {b : Nat} (hb : b < 12) : f_L_fencesOfOf (nI b) g = some (nI (cn g.1 b)) := by
  unfold f_L_fencesOfOf
  refine (k_bs (a := Sum.inl (nI (cn g.1 b))) ?_).trans rfl
  unfold f_X7_fencesOf
  refine (k_bs (o_box b hb)).trans ?_
  rw [if_neg (by decide)]
  exact k_bs (q_countSides hb)
theorem o_fencesOfN (g : k_G8) : f_L_fencesOfOf 12 g = some (-101) := by
  unfold f_L_fencesOfOf f_X7_fencesOf
  exact (k_bs (a := Sum.inr "java/lang/IllegalArgumentException") ((k_bs o_nobox.1).trans (if_pos rfl))).trans (by simp)
theorem o_closed0 (g : k_G8) : f_X2_closedBy 0 g = some g.2.1 := rfl
theorem o_closed1 (g : k_G8) : f_X2_closedBy 1 g = some g.2.2.1 := rfl
theorem o_ownerOf {g : k_G8} {b : Nat} (hb : b < 12) : f_L_ownerOfOf (nI b) g = some (if cn g.1 b = 4 then (if bt g.2.1 b then 0 else 1) else -102) := by
  have hc := q_cn4 g.1 b
  unfold f_L_ownerOfOf
  by_cases c : cn g.1 b = 4
  · rw [if_pos c]
    refine (k_bs (a := Sum.inl (if bt g.2.1 b then 0 else 1)) ?_).trans rfl
    unfold f_X7_ownerOf
    refine (k_bs (o_box b hb)).trans ?_
    rw [if_neg (by decide)]
    refine (k_bs (q_countSides hb)).trans ?_
    rw [if_pos (show (4 : Int32) ≤ nI (cn g.1 b) from nI_le (a := 4) (by omega) (by omega))]
    refine (k_bs (o_closed0 g)).trans ?_
    refine (k_bs (q_has (by omega))).trans ?_
    cases bt g.2.1 b <;> rfl
  · rw [if_neg c]
    refine (k_bs (a := Sum.inr "java/util/NoSuchElementException") ?_).trans (by simp)
    unfold f_X7_ownerOf
    refine (k_bs (o_box b hb)).trans ?_
    rw [if_neg (by decide)]
    refine (k_bs (q_countSides hb)).trans ?_
    rw [if_neg (show ¬ (4 : Int32) ≤ nI (cn g.1 b) from nI_ge (b := 4) (by omega) (by decide))]
theorem o_ownerOfN (g : k_G8) : f_L_ownerOfOf (-1) g = some (-101) := by
  unfold f_L_ownerOfOf f_X7_ownerOf
  exact (k_bs (a := Sum.inr "java/lang/IllegalArgumentException") ((k_bs o_nobox.2).trans (if_pos rfl))).trans (by simp)
theorem o_boxesOf0 (g : k_G8) : f_L_boxesOfOf 0 g = some (nI (q_n g.2.1)) := by
  unfold f_L_boxesOfOf
  refine (k_bs (a := Sum.inl (nI (q_n g.2.1))) ?_).trans rfl
  unfold f_X7_boxesOf
  refine (k_bs o_pl.1).trans ?_
  rw [if_neg (by decide)]
  refine (k_bs (o_closed0 g)).trans ?_
  exact k_bs (q_bitCount _)
theorem o_boxesOf1 (g : k_G8) : f_L_boxesOfOf 1 g = some (nI (q_n g.2.2.1)) := by
  unfold f_L_boxesOfOf
  refine (k_bs (a := Sum.inl (nI (q_n g.2.2.1))) ?_).trans rfl
  unfold f_X7_boxesOf
  refine (k_bs o_pl.2.1).trans ?_
  rw [if_neg (by decide)]
  refine (k_bs (o_closed1 g)).trans ?_
  exact k_bs (q_bitCount _)
theorem o_boxesOfN (g : k_G8) : f_L_boxesOfOf 2 g = some (-101) := by
  unfold f_L_boxesOfOf f_X7_boxesOf
  exact (k_bs (a := Sum.inr "java/lang/IllegalArgumentException") ((k_bs o_pl.2.2).trans (if_pos rfl))).trans (by simp)
theorem o_boxesWith {g : k_G8} {c : Nat} (hc : c < 5) : f_L_boxesWithOf (nI c) g = some (nI (fb_ct (fun k => decide (cn g.1 k = c)) 12)) := by
  unfold f_L_boxesWithOf
  refine (k_bs (a := Sum.inl (nI (fb_ct (fun k => decide (cn g.1 k = c)) 12))) ?_).trans rfl
  unfold f_X7_boxesWith
  rw [if_neg (nI_pos (by omega)), if_pos (show nI c ≤ 4 from nI_le (b := 4) (by omega) (by decide))]
  refine (k_bs (q_boxesHaving (by omega))).trans ?_
  refine (k_bs (q_bitCount _)).trans ?_
  rw [q_nbld (by omega)]
theorem o_boxesWithN (g : k_G8) : f_L_boxesWithOf 5 g = some (-101) := by
  unfold f_L_boxesWithOf f_X7_boxesWith
  exact (k_bs (a := Sum.inr "java/lang/IllegalArgumentException") ((if_neg (by decide)).trans (if_neg (by decide)))).trans (by simp)
theorem o_whyNot {g : k_G8} {f : Nat} (h31 : bt g.1 31 = false) (hf : f < 31) : f_L_whyNotOf (nI f) g = some (if c31 g.1 = 31 then 1 else if bt g.1 f then 2 else 0) := by
  unfold f_L_whyNotOf
  refine (k_bs (a := Sum.inl (if c31 g.1 = 31 then 1 else if bt g.1 f then 2 else 0)) ?_).trans rfl
  unfold f_X7_whyNot
  refine (k_bs (o_fence f hf)).trans ?_
  rw [if_neg (by decide)]
  exact k_bs (q_refusal h31 hf)
theorem o_whyNotN (g : k_G8) : f_L_whyNotOf 31 g = some (-101) := by
  unfold f_L_whyNotOf f_X7_whyNot
  exact (k_bs (a := Sum.inr "java/lang/IllegalArgumentException") ((k_bs o_nofence.1).trans (if_pos rfl))).trans (by simp)
theorem o_takingFence (g : k_G8) : f_L_takingFenceOf g = some (if ff (tk g.1) 31 < 31 then nI (ff (tk g.1) 31) else -101) := by
  obtain ⟨y, h1, h2⟩ := q_last (x := g.1)
  have hl := ff_le (tk g.1) 31
  have e : ff (bt y) 31 = ff (tk g.1) 31 := ff_cong fun j hj => h2 j (by omega)
  have hx : (f_X6_lastFences g.1).bind (fun v1 => (f_X3_lowestFence v1).bind fun v2 => if v2 = (-1) then some (Sum.inr "java/util/NoSuchElementException") else some (Sum.inl v2)) = if fr (ff (tk g.1) 31) = -1 then some (Sum.inr "java/util/NoSuchElementException") else some (Sum.inl (fr (ff (tk g.1) 31))) := by
    refine (k_bs h1).trans ?_
    refine (k_bs q_lowest).trans ?_
    rw [e]
  unfold f_L_takingFenceOf f_X7_takingFence
  by_cases c : ff (tk g.1) 31 < 31
  · rw [if_pos c]
    refine (k_bs (a := Sum.inl (nI (ff (tk g.1) 31))) ?_).trans rfl
    refine hx.trans ?_
    rw [if_neg fun q => by have := (q_fr hl).1.mp q; omega, q_fr1 c]
  · rw [if_neg c]
    refine (k_bs (a := Sum.inr "java/util/NoSuchElementException") ?_).trans (by simp)
    refine hx.trans ?_
    rw [if_pos ((q_fr hl).1.mpr (by omega))]
theorem o_isSafe {g : k_G8} {f : Nat} (hf : f < 31) : f_L_isSafeOf (nI f) g = some (if sf g.1 f then 1 else 0) := by
  unfold f_L_isSafeOf
  refine (k_bs (a := Sum.inl (if sf g.1 f then 1 else 0)) ?_).trans ?_
  · unfold f_X7_isSafe
    refine (k_bs (o_fence f hf)).trans ?_
    rw [if_neg (by decide)]
    refine (k_bs (q_safe g.1)).trans ?_
    refine (k_bs (q_has (by omega))).trans ?_
    rw [if_pos (p_b01 _), q_bld _ 31 (by omega) f (by omega)]
    simp [hf]
  · cases sf g.1 f <;> rfl
theorem o_isSafeN (g : k_G8) : f_L_isSafeOf (-1) g = some (-101) := by
  unfold f_L_isSafeOf f_X7_isSafe
  exact (k_bs (a := Sum.inr "java/lang/IllegalArgumentException") ((k_bs o_nofence.2).trans (if_pos rfl))).trans (by simp)
theorem o_givenBy {x : Int32} {f : Nat} : f_X6_givenBy x (nI f) = some (nI (tT (st x f))) := by
  unfold f_X6_givenBy
  exact (k_bs (q_oneByOne (st x f))).trans rfl
theorem o_gives {g : k_G8} {f : Nat} (hf : f < 31) : f_L_givesOf (nI f) g = some (if bt g.1 f then -102 else nI (tT (st g.1 f))) := by
  unfold f_L_givesOf
  cases c : bt g.1 f
  · refine (k_bs (a := Sum.inl (nI (tT (st g.1 f)))) ?_).trans rfl
    unfold f_X7_gives
    refine (k_bs (o_fence f hf)).trans ?_
    rw [if_neg (by decide)]
    refine (k_bs (q_has (by omega))).trans ?_
    rw [c, if_pos (by decide)]
    exact k_bs o_givenBy
  · refine (k_bs (a := Sum.inr "java/lang/IllegalStateException") ?_).trans (by simp)
    unfold f_X7_gives
    refine (k_bs (o_fence f hf)).trans ?_
    rw [if_neg (by decide)]
    refine (k_bs (q_has (by omega))).trans ?_
    rw [c, if_neg (by decide)]
theorem o_givesN (g : k_G8) : f_L_givesOf 31 g = some (-101) := by
  unfold f_L_givesOf f_X7_gives
  exact (k_bs (a := Sum.inr "java/lang/IllegalArgumentException") ((k_bs o_nofence.1).trans (if_pos rfl))).trans (by simp)
theorem o_least (g : k_G8) : f_L_leastSacrificeOf g = some (if (lg g.1 31).2 < 31 then nI (lg g.1 31).2 else -101) := by
  have hl : (lg g.1 31).2 ≤ 31 := by
    rcases lg_ok g.1 31 (Nat.le_refl _) with h | h
    · rw [h.1]; omega
    · omega
  unfold f_L_leastSacrificeOf f_X7_leastSacrifice
  by_cases c : (lg g.1 31).2 < 31
  · rw [if_pos c]
    refine (k_bs (a := Sum.inl (nI (lg g.1 31).2)) ?_).trans rfl
    refine (k_bs (q_leastGiving g.1)).trans ?_
    rw [if_neg fun q => by have := (q_fr hl).1.mp q; omega, q_fr1 c]
  · rw [if_neg c]
    refine (k_bs (a := Sum.inr "java/util/NoSuchElementException") ?_).trans (by simp)
    refine (k_bs (q_leastGiving g.1)).trans ?_
    rw [if_pos ((q_fr hl).1.mpr (by omega))]
theorem o_chainOf {g : k_G8} {b : Nat} (hb : b < 12) : f_L_chainOfOf (nI b) g = some (if tw g.1 b then nI (gt g.1 (lb g.1 b)) else -102) := by
  have hc := q_cn4 g.1 b
  unfold f_L_chainOfOf f_X7_chainOf
  by_cases c : cn g.1 b = 2
  · have t : tw g.1 b = true := by unfold tw; simp [c]
    rw [if_pos t]
    obtain ⟨R, h1, h2⟩ := q_around (x := g.1) hb
    have e : R = cs g.1 b := R_bld hb h2 t
    refine (k_bs (a := Sum.inl (nI (gt g.1 (lb g.1 b)))) ?_).trans rfl
    refine (k_bs (o_box b hb)).trans ?_
    rw [if_neg (by decide)]
    refine (k_bs (q_countSides hb)).trans ?_
    rw [if_pos (show _ = (2 : Int32) from (nI_eq (b := 2) (by omega) (by decide)).mpr c)]
    refine (k_bs h1).trans ?_
    refine (k_bs (q_bitCount R)).trans ?_
    rw [e, cs_n]
  · have t : tw g.1 b = false := by unfold tw; simp [c]
    rw [t]
    refine (k_bs (a := Sum.inr "java/util/NoSuchElementException") ?_).trans (by simp)
    refine (k_bs (o_box b hb)).trans ?_
    rw [if_neg (by decide)]
    refine (k_bs (q_countSides hb)).trans ?_
    rw [if_neg (show ¬ _ = (2 : Int32) from fun q => c ((nI_eq (b := 2) (by omega) (by decide)).mp q))]
theorem o_chainOfN (g : k_G8) : f_L_chainOfOf 12 g = some (-101) := by
  unfold f_L_chainOfOf f_X7_chainOf
  exact (k_bs (a := Sum.inr "java/lang/IllegalArgumentException") ((k_bs o_nobox.1).trans (if_pos rfl))).trans (by simp)
theorem o_won0 (g : k_G8) : f_L_wonOf 0 g = some g.2.2.2.2.1 := by
  unfold f_L_wonOf f_X7_won
  exact (k_bs (a := Sum.inl g.2.2.2.2.1) ((k_bs o_pl.1).trans ((if_neg (by decide)).trans (if_pos rfl)))).trans rfl
theorem o_won1 (g : k_G8) : f_L_wonOf 1 g = some g.2.2.2.2.2.1 := by
  unfold f_L_wonOf f_X7_won
  exact (k_bs (a := Sum.inl g.2.2.2.2.2.1) ((k_bs o_pl.2.1).trans ((if_neg (by decide)).trans (if_neg (by decide))))).trans rfl
theorem o_wonN (g : k_G8) : f_L_wonOf 2 g = some (-101) := by
  unfold f_L_wonOf f_X7_won
  exact (k_bs (a := Sum.inr "java/lang/IllegalArgumentException") ((k_bs o_pl.2.2).trans (if_pos rfl))).trans (by simp)
theorem o_chains (g : k_G8) : f_X7_chains g = some (nI (cAll g.1)) := by
  unfold f_X7_chains
  refine (k_bs (q_chcount (c := 0) (by omega))).trans ?_
  refine (k_bs (q_chcount (c := 1) (by omega))).trans ?_
  refine (k_bs (q_chcount (c := 2) (by omega))).trans ?_
  show some ((nI _ + nI _) + nI _) = _
  rw [nI_add, nI_add, q_kinds]; rfl
theorem o_rings (g : k_G8) : f_X7_rings g = some (nI (cK g.1 2)) := (k_bs (q_chcount (c := 2) (by omega))).trans rfl
theorem o_long (g : k_G8) : f_X7_longChains g = some (nI (cK g.1 1)) := (k_bs (q_chcount (c := 1) (by omega))).trans rfl
theorem o_rule (g : k_G8) : f_X7_ruleHoldsFor g = some (nI (cK g.1 1) &&& 1) := (k_bs (q_chcount (c := 1) (by omega))).trans rfl
