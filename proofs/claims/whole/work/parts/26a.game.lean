/-! A game of the class and a row of the model. -/
def own (a b : Bool) : Int32 := if a then 1 else if b then 2 else 0
def rg8 (g : k_G8) (s : Nat → Int32) : Prop :=
  s 0 = g.1 ∧ bt g.1 31 = false ∧ s 18 = nI (c31 g.1) ∧ (∀ k, k < 12 → s (k + 1) = own (bt g.2.1 k) (bt g.2.2.1 k)) ∧ (∀ k, k < 32 → bt g.2.1 k = true → k < 12) ∧ (∀ k, k < 32 → bt g.2.2.1 k = true → k < 12) ∧ (∀ k, k < 12 → (bt g.2.1 k || bt g.2.2.1 k) = decide (cn g.1 k = 4)) ∧ (∀ k, k < 12 → (bt g.2.1 k && bt g.2.2.1 k) = false) ∧ s 13 = g.2.2.2.1 ∧ (g.2.2.2.1 = 0 ∨ g.2.2.2.1 = 1) ∧ s 14 = g.2.2.2.2.1 ∧ s 15 = g.2.2.2.2.2.1 ∧ s 16 = g.2.2.2.2.2.2.1 ∧ s 17 = g.2.2.2.2.2.2.2
theorem q_n31 {x : Int32} (h : bt x 31 = false) : q_n x = c31 x := by
  show fb_ct (bt x) 31 + (if bt x 31 = true then 1 else 0) = _
  rw [h]; rfl
theorem c31_le (x : Int32) : c31 x ≤ 31 := fb_ct_le _ 31
theorem q_full {x : Int32} (h : bt x 31 = false) : x = 2147483647 ↔ c31 x = 31 := by
  have hb : ∀ i, i < 32 → bt 2147483647 i = decide (i < 31) := by decide +kernel
  constructor
  · intro e
    exact fb_ct_all.mpr fun k hk => by rw [e, hb k (by omega)]; simp [hk]
  · intro e
    have ha := fb_ct_all.mp e
    refine b_ext fun i hi => ?_
    rw [hb i hi]
    by_cases c : i < 31
    · rw [ha i c]; simp [c]
    · have : i = 31 := by omega
      subst this
      rw [h]; rfl
theorem q_n12 {c : Int32} (h : ∀ k, k < 32 → bt c k = true → k < 12) : q_n c = fb_ct (bt c) 12 := by
  have e : c = bld (bt c) 12 := b_ext fun i hi => by
    rw [q_bld _ 12 (by omega) i hi]
    cases hb : bt c i
    · simp
    · simp [h i hi hb]
  have := q_nbld (p := bt c) (n := 12) (by omega)
  rw [← e] at this
  exact this
theorem one_nI (k : Nat) : (1 : Int32) + nI k = nI (k + 1) := by
  have := nI_add 1 k
  rw [Nat.add_comm 1 k] at this
  exact this
theorem q_boxes {g : k_G8} {s : Nat → Int32} (h : rg8 g s) {p : Nat} (hp : p < 2) : f_X8_boxes (nI p) s = some (nI (q_n (if p = 0 then g.2.1 else g.2.2.1))) := by
  obtain ⟨-, -, -, ho, h1, h2, -, hd, -⟩ := h
  have hq : q_n (if p = 0 then g.2.1 else g.2.2.1) = fb_ct (bt (if p = 0 then g.2.1 else g.2.2.1)) 12 := by
    by_cases c : p = 0
    · rw [if_pos c]; exact q_n12 h1
    · rw [if_neg c]; exact q_n12 h2
  rw [hq]
  generalize hq2 : bt (if p = 0 then g.2.1 else g.2.2.1) = q
  unfold f_X8_boxes
  rw [show ((0, 0) : Int32 × Int32) = (nI (fb_ct q 0), nI 0) from rfl, k_for (fun i => (nI (fb_ct q i), nI i)) 12 (nI (fb_ct q 12), nI 12) ?_ ?_ 1000 (by decide)]
  · rfl
  · intro i hi
    unfold t_X8_boxes_4 k_let
    dsimp only
    rw [if_neg (show ¬ (12 : Int32) ≤ nI i from nI_ge (b := 12) hi (by decide)), one_nI i, nI_1 i, if_neg (nI_in (c := i + 1) (N := 19) (by omega) (by decide)), nI_clamp (by omega), ho i hi, fb_ct_succ]
    have hc : (own (bt g.2.1 i) (bt g.2.2.1 i) = nI p + 1) ↔ q i = true := by
      have hqi : q i = if p = 0 then bt g.2.1 i else bt g.2.2.1 i := by
        rw [← hq2]
        by_cases c : p = 0
        · rw [if_pos c, if_pos c]
        · rw [if_neg c, if_neg c]
      rw [hqi]
      have hdi := hd i hi
      rcases (show p = 0 ∨ p = 1 by omega) with rfl | rfl
      · rw [if_pos rfl]
        cases ha : bt g.2.1 i <;> cases hb : bt g.2.2.1 i <;> simp only [own] <;> decide
      · rw [if_neg (by decide)]
        cases ha : bt g.2.1 i <;> cases hb : bt g.2.2.1 i <;> simp only [own]
        · decide
        · decide
        · decide
        · rw [ha, hb] at hdi; cases hdi
    have z0 : nI (fb_ct q i) + 0 = nI (fb_ct q i + 0) := nI_add _ 0
    have z1 : nI (fb_ct q i) + 1 = nI (fb_ct q i + 1) := nI_add _ 1
    by_cases c : q i = true
    · rw [if_pos (hc.mpr c), if_pos c, z1]
    · rw [if_neg (fun z => c (hc.mp z)), if_neg c, z0]
  · rfl
theorem q_countFences {g : k_G8} {s : Nat → Int32} (h : rg8 g s) : f_X2_countFences g = some (s 18) := by
  unfold f_X2_countFences
  rw [q_bitCount, q_n31 h.2.1, h.2.2.1]
  rfl
theorem q_hasEnded {g : k_G8} (h : bt g.1 31 = false) : f_X2_hasEnded g = some (if c31 g.1 = 31 then 1 else 0) := by
  unfold f_X2_hasEnded
  by_cases c : c31 g.1 = 31
  · rw [if_pos ((q_full h).mpr c), if_pos c]
  · rw [if_neg (fun q => c ((q_full h).mp q)), if_neg c]
theorem q_refusal {g : k_G8} {f : Nat} (h : bt g.1 31 = false) (hf : f < 31) : f_X2_refusal (nI f) g = some (if c31 g.1 = 31 then 1 else if bt g.1 f then 2 else 0) := by
  unfold f_X2_refusal
  rw [q_hasEnded h]
  simp only [Option.bind_some]
  by_cases c : c31 g.1 = 31
  · rw [if_pos c, if_neg (by decide), if_pos c]
  · rw [if_neg c, if_pos rfl, if_neg c, q_has (by omega)]
    simp only [Option.bind_some]
    cases bt g.1 f
    · rw [if_neg (c := false = true) Bool.false_ne_true, if_pos rfl, if_neg (c := false = true) Bool.false_ne_true]
    · rw [if_pos (c := true = true) rfl, if_neg (by decide), if_pos (c := true = true) rfl]
theorem c31_31 {x : Int32} : nI (c31 x) = 31 ↔ c31 x = 31 := nI_eq (b := 31) (by have := c31_le x; omega) (by decide)
theorem q_reason {g : k_G8} {s : Nat → Int32} {f : Nat} (h : rg8 g s) (hf : f < 31) : f_X8_reason (nI f) s = some (if c31 g.1 = 31 then 1 else if bt g.1 f then 2 else 0) := by
  unfold f_X8_reason
  rw [h.2.2.1, h.1]
  by_cases c : c31 g.1 = 31
  · rw [if_pos (c31_31.mpr c), if_pos c]
  · rw [if_neg (fun q => c (c31_31.mp q)), if_neg c, q_isIn (by omega)]
    simp only [Option.bind_some]
    cases bt g.1 f
    · rw [if_neg (c := false = true) Bool.false_ne_true, if_pos rfl, if_neg (c := false = true) Bool.false_ne_true]
    · rw [if_pos (c := true = true) rfl, if_neg (by decide), if_pos (c := true = true) rfl]
/-- the end of a game: class -/
def seG (g : k_G8) : k_G8 := if q_n g.2.1 ≤ q_n g.2.2.1 then (if q_n g.2.2.1 ≤ q_n g.2.1 then (g.1, g.2.1, g.2.2.1, g.2.2.2.1, g.2.2.2.2.1, g.2.2.2.2.2.1, g.2.2.2.2.2.2.1 + 1, g.2.2.2.2.2.2.2) else (g.1, g.2.1, g.2.2.1, g.2.2.2.1, g.2.2.2.2.1, g.2.2.2.2.2.1 + 1, g.2.2.2.2.2.2.1, g.2.2.2.2.2.2.2)) else (g.1, g.2.1, g.2.2.1, g.2.2.2.1, g.2.2.2.2.1 + 1, g.2.2.2.2.2.1, g.2.2.2.2.2.2.1, g.2.2.2.2.2.2.2)
theorem q_settle (g : k_G8) : f_X2_settle g = some (seG g) := by
  unfold f_X2_settle k_let seG
  rw [q_bitCount, q_bitCount]
  simp only [Option.bind_some]
  have h1 := q_n32 g.2.1
  have h2 := q_n32 g.2.2.1
  by_cases c : q_n g.2.1 ≤ q_n g.2.2.1
  · rw [if_pos (nI_le c (by omega)), if_pos c]
    by_cases d : q_n g.2.2.1 ≤ q_n g.2.1
    · rw [if_pos (nI_le d (by omega)), if_pos d]
    · rw [if_neg (nI_ge (by omega) (by omega)), if_neg d]
  · rw [if_neg (nI_ge (by omega) (by omega)), if_neg c]
/-- the end of a game: model -/
theorem q_ends {g : k_G8} {s : Nat → Int32} (h : rg8 g s) : ∃ s', f_X8_ends s = some s' ∧ rg8 (seG g) s' := by
  unfold f_X8_ends k_let
  have hb0 := q_boxes h (p := 0) (by decide)
  have hb1 := q_boxes h (p := 1) (by decide)
  rw [if_pos rfl] at hb0
  rw [if_neg (by decide)] at hb1
  rw [show f_X8_boxes 0 s = some (nI (q_n g.2.1)) from hb0, show f_X8_boxes 1 s = some (nI (q_n g.2.2.1)) from hb1]
  simp only [Option.bind_some]
  have h1 := q_n32 g.2.1
  have h2 := q_n32 g.2.2.1
  have hsub : (nI (q_n g.2.1) - nI (q_n g.2.2.1)).toInt = (q_n g.2.1 : Int) - (q_n g.2.2.1 : Int) := by
    rw [fb_subI, nI_toInt (by omega), nI_toInt (by omega)] <;> rw [nI_toInt (by omega), nI_toInt (by omega)] <;> omega
  have e0 : (nI (q_n g.2.1) - nI (q_n g.2.2.1) = 0) ↔ q_n g.2.1 = q_n g.2.2.1 := by
    rw [fa_eq, hsub, show (0 : Int32).toInt = 0 from rfl]; omega
  have el : (nI (q_n g.2.1) - nI (q_n g.2.2.1) ≤ 0) ↔ q_n g.2.1 ≤ q_n g.2.2.1 := by
    rw [fa_le, hsub, show (0 : Int32).toInt = 0 from rfl]; omega
  have c14 : ((14 : Int32) + 0).toNatClampNeg = 14 ∧ ((14 : Int32) + 1).toNatClampNeg = 15 ∧ ¬ ((14 : Int32) + 0 < 0) ∧ ¬ ((14 : Int32) + 1 < 0) := by decide +kernel
  have key : ∀ (i : Nat) (v : Int32), 14 ≤ i → i ≤ 16 → ∀ g' : k_G8, g'.1 = g.1 → g'.2.1 = g.2.1 → g'.2.2.1 = g.2.2.1 → g'.2.2.2.1 = g.2.2.2.1 → g'.2.2.2.2.1 = (if 14 = i then v else s 14) → g'.2.2.2.2.2.1 = (if 15 = i then v else s 15) → g'.2.2.2.2.2.2.1 = (if 16 = i then v else s 16) → g'.2.2.2.2.2.2.2 = s 17 → rg8 g' (upd s i v) := by
    intro i v hi1 hi2 g' e1 e2 e3 e4 e5 e6 e7 e8
    obtain ⟨a1, a2, a3, a4, a5, a6, a7, a8, a9, a10, a11, a12, a13, a14⟩ := h
    unfold rg8 upd
    rw [e1, e2, e3, e4, e5, e6, e7, e8, if_neg (show ¬ 0 = i by omega), if_neg (show ¬ 18 = i by omega), if_neg (show ¬ 13 = i by omega), if_neg (show ¬ 17 = i by omega)]
    exact ⟨a1, a2, a3, fun k hk => by rw [if_neg (show ¬ k + 1 = i by omega)]; exact a4 k hk, a5, a6, a7, a8, a9, a10, rfl, rfl, rfl, rfl⟩
  obtain ⟨a1, a2, a3, a4, a5, a6, a7, a8, a9, a10, a11, a12, a13, a14⟩ := id h
  by_cases ce : q_n g.2.1 = q_n g.2.2.1
  · rw [if_pos (e0.mpr ce)]
    refine ⟨_, rfl, ?_⟩
    unfold seG
    rw [if_pos (by omega), if_pos (by omega)]
    refine key 16 _ (by omega) (by omega) _ rfl rfl rfl rfl ?_ ?_ ?_ ?_
    · rw [if_neg (by decide)]; exact a11.symm
    · rw [if_neg (by decide)]; exact a12.symm
    · rw [if_pos rfl, a13]
    · exact a14.symm
  · rw [if_neg (fun q => ce (e0.mp q))]
    by_cases cl : q_n g.2.1 ≤ q_n g.2.2.1
    · rw [if_pos (el.mpr cl), if_neg (by rw [c14.2.1]; exact fun q => q.elim c14.2.2.2 (by omega)), if_neg (by rw [c14.2.1]; exact fun q => q.elim c14.2.2.2 (by omega)), c14.2.1]
      refine ⟨_, rfl, ?_⟩
      unfold seG
      rw [if_pos cl, if_neg (by omega)]
      refine key 15 _ (by omega) (by omega) _ rfl rfl rfl rfl ?_ ?_ ?_ ?_
      · rw [if_neg (by decide)]; exact a11.symm
      · rw [if_pos rfl, a12]
      · rw [if_neg (by decide)]; exact a13.symm
      · exact a14.symm
    · rw [if_neg (fun q => cl (el.mp q)), if_neg (by rw [c14.1]; exact fun q => q.elim c14.2.2.1 (by omega)), if_neg (by rw [c14.1]; exact fun q => q.elim c14.2.2.1 (by omega)), c14.1]
      refine ⟨_, rfl, ?_⟩
      unfold seG
      rw [if_neg cl]
      refine key 14 _ (by omega) (by omega) _ rfl rfl rfl rfl ?_ ?_ ?_ ?_
      · rw [if_pos rfl, a11]
      · rw [if_neg (by decide)]; exact a12.symm
      · rw [if_neg (by decide)]; exact a13.symm
      · exact a14.symm
