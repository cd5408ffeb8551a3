/-! A game of the class and a row of the model. -/
def own (a b : Bool) : Int32 := if a then 1 else if b then 2 else 0
theorem q_n31 {x : Int32} (h : bt x 31 = false) : q_n x = c31 x := by
  show fb_ct (bt x) 31 + (if bt x 31 = true then 1 else 0) = _
  rw [h]; rfl
theorem c31_le (x : Int32) : c31 x ≤ 31 := fb_ct_le _ 31
theorem q_full {x : Int32} (h : bt x 31 = false) : x = 2147483647 ↔ c31 x = 31 := by
  have hb : ∀ i, i < 32 → bt 2147483647 i = decide (i < 31) := by decide +kernel
  constructor
  · intro e
    exact fb_ct_all.mpr fun k hk => by rw [e, hb k (by omega)]; simp [hk]
  · intro e
    have ha := fb_ct_all.mp e
    refine b_ext fun i hi => ?_
    rw [hb i hi]
    by_cases c : i < 31
    · rw [ha i c]; simp [c]
    · have : i = 31 := by omega
      subst this
      rw [h]; rfl
theorem q_n12 {c : Int32} (h : ∀ k, k < 32 → bt c k = true → k < 12) : q_n c = fb_ct (bt c) 12 := by
  have e : c = bld (bt c) 12 := b_ext fun i hi => by
    rw [q_bld _ 12 (by omega) i hi]
    cases hb : bt c i
    · simp
    · simp [h i hi hb]
  have := q_nbld (p := bt c) (n := 12) (by omega)
  rw [← e] at this
  exact this
theorem one_nI (k : Nat) : (1 : Int32) + nI k = nI (k + 1) := by
  have := nI_add 1 k
  rw [Nat.add_comm 1 k] at this
  exact this
theorem q_hasEnded {g : k_G8} (h : bt g.1 31 = false) : f_X2_hasEnded g = some (if c31 g.1 = 31 then 1 else 0) := by
  unfold f_X2_hasEnded
  by_cases c : c31 g.1 = 31
  · rw [if_pos ((q_full h).mpr c), if_pos c]
  · rw [if_neg (fun q => c ((q_full h).mp q)), if_neg c]
theorem q_refusal {g : k_G8} {f : Nat} (h : bt g.1 31 = false) (hf : f < 31) : f_X2_refusal (nI f) g = some (if c31 g.1 = 31 then 1 else if bt g.1 f then 2 else 0) := by
  unfold f_X2_refusal
  rw [q_hasEnded h]
  simp only [Option.bind_some]
  by_cases c : c31 g.1 = 31
  · rw [if_pos c, if_neg (by decide), if_pos c]
  · rw [if_neg c, if_pos rfl, if_neg c, q_has (by omega)]
    simp only [Option.bind_some]
    cases bt g.1 f
    · rw [if_neg (c := false = true) Bool.false_ne_true, if_pos rfl, if_neg (c := false = true) Bool.false_ne_true]
    · rw [if_pos (c := true = true) rfl, if_neg (by decide), if_pos (c := true = true) rfl]
theorem c31_31 {x : Int32} : nI (c31 x) = 31 ↔ c31 x = 31 := nI_eq (b := 31) (by have := c31_le x; omega) (by decide)
/-- the end of a game: class -/
def seG (g : k_G8) : k_G8 := if q_n g.2.1 ≤ q_n g.2.2.1 then (if q_n g.2.2.1 ≤ q_n g.2.1 then (g.1, g.2.1, g.2.2.1, g.2.2.2.1, g.2.2.2.2.1, g.2.2.2.2.2.1, g.2.2.2.2.2.2.1 + 1, g.2.2.2.2.2.2.2) else (g.1, g.2.1, g.2.2.1, g.2.2.2.1, g.2.2.2.2.1, g.2.2.2.2.2.1 + 1, g.2.2.2.2.2.2.1, g.2.2.2.2.2.2.2)) else (g.1, g.2.1, g.2.2.1, g.2.2.2.1, g.2.2.2.2.1 + 1, g.2.2.2.2.2.1, g.2.2.2.2.2.2.1, g.2.2.2.2.2.2.2)
theorem q_settle (g : k_G8) : f_X2_settle g = some (seG g) := by
  unfold f_X2_settle k_let seG
  rw [q_bitCount, q_bitCount]
  simp only [Option.bind_some]
  have h1 := q_n32 g.2.1
  have h2 := q_n32 g.2.2.1
  by_cases c : q_n g.2.1 ≤ q_n g.2.2.1
  · rw [if_pos (nI_le c (by omega)), if_pos c]
    by_cases d : q_n g.2.2.1 ≤ q_n g.2.1
    · rw [if_pos (nI_le d (by omega)), if_pos d]
    · rw [if_neg (nI_ge (by omega) (by omega)), if_neg d]
  · rw [if_neg (nI_ge (by omega) (by omega)), if_neg c]
