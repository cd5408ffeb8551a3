/-! Safe fences; the fence that gives least. -/
/-- how many boxes beside f have two fences or more -/
def ri (x : Int32) (f : Nat) : Nat := fb_ct (fun k => bes f k && decide (2 ≤ cn x k)) 12
def sf (x : Int32) (f : Nat) : Bool := !bt x f && decide (ri x f = 0)
theorem sf_no {x : Int32} {f : Nat} (h : sf x f = true) : bt x f = false := by
  unfold sf at h
  cases hb : bt x f
  · rfl
  · rw [hb] at h; cases h
theorem q_risky {x : Int32} {f : Nat} {r : Int32} (hf : f < 31) (hb : bt x f = false) (hr : ∀ i, i < 32 → bt r i = (decide (i < 12) && (decide (cn x i = 2) || decide (cn x i = 3)))) : (bbI f &&& r) = 0 ↔ ri x f = 0 := by
  rw [q_zero]
  unfold ri
  rw [fb_ct_zero]
  constructor
  · intro h k hk
    have h1 := h k (by omega)
    rw [b_and, q_bbb f hf k (by omega), hr k (by omega)] at h1
    cases hbs : bes f k
    · rfl
    · rw [hbs] at h1
      have h4 := q_cn4 x k
      have hnc : cn x k ≠ 4 := by
        intro e
        have := (q_cnc hk).mp e f (by omega) hbs
        rw [hb] at this; cases this
      simp [hk] at h1
      simp; omega
  · intro h i hi
    rw [b_and, q_bbb f hf i hi, hr i hi]
    by_cases hk : i < 12
    · have h1 := h i hk
      cases hbs : bes f i
      · simp
      · rw [hbs] at h1
        simp at h1
        simp [hk]; omega
    · simp [hk]
theorem q_safe (x : Int32) : f_X6_safe x = some (bld (sf x) 31) := by
  unfold f_X6_safe k_let
  rw [show (2 : Int32) = nI 2 from rfl, show (3 : Int32) = nI 3 from rfl, q_boxesHaving (by decide), q_boxesHaving (by decide)]
  simp only [Option.bind_some]
  generalize hr : (bld (fun k => decide (cn x k = 2)) 12 ||| bld (fun k => decide (cn x k = 3)) 12) = r
  have hrb : ∀ i, i < 32 → bt r i = (decide (i < 12) && (decide (cn x i = 2) || decide (cn x i = 3))) := by
    intro i hi
    rw [← hr, b_or, q_bld _ 12 (by omega) i hi, q_bld _ 12 (by omega) i hi]
    cases decide (i < 12) <;> rfl
  rw [show ((0, 0) : Int32 × Int32) = (bld (sf x) 0, nI 0) from rfl, k_for (fun i => (bld (sf x) i, nI i)) 31 (bld (sf x) 31, nI 31) ?_ ?_ 1000 (by decide)]
  · rfl
  · intro i hi
    unfold t_X6_safe_16 k_let
    dsimp only
    rw [if_neg (show ¬ (31 : Int32) ≤ nI i from nI_ge (b := 31) hi (by decide)), q_has (by omega), nI_1, bld_succ]
    simp only [Option.bind_some]
    cases hb : bt x i
    · simp only [Bool.false_eq_true, if_false, if_true]
      rw [q_beside i hi]
      simp only [Option.bind_some]
      by_cases c : ri x i = 0
      · rw [if_pos ((q_risky hi hb hrb).mpr c), if_pos (by unfold sf; rw [hb]; simp [c])]
        rfl
      · rw [if_neg (fun q => c ((q_risky hi hb hrb).mp q)), if_neg (by unfold sf; rw [hb]; simp [c])]
    · rw [if_neg (by simp), if_neg (by unfold sf; rw [hb]; simp)]
  · rfl
/-- drawing the lowest safe fence again and again -/
def fq (x : Int32) : Nat → Int32
  | 0 => x
  | n + 1 => st (fq x n) (ff (sf (fq x n)) 31)
def fn (x : Int32) (i : Nat) : Nat := ff (sf (fq x i)) 31
theorem fq_succ (x : Int32) (n : Nat) : fq x (n + 1) = st (fq x n) (fn x n) := rfl
def fN (x : Int32) : Nat := ff (fun i => decide (31 ≤ fn x i)) 32
theorem fn_le (x : Int32) (i : Nat) : fn x i ≤ 31 := ff_le _ 31
theorem fn_lt {x : Int32} {i : Nat} (h : i < fN x) : fn x i < 31 := by
  have := ff_not _ _ _ h
  simpa using this
theorem fn_sf {x : Int32} {i : Nat} (h : fn x i < 31) : sf (fq x i) (fn x i) = true := ff_is _ _ h
theorem fq_c {x : Int32} : ∀ n, (∀ i, i < n → fn x i < 31) → c31 (fq x n) = c31 x + n
  | 0, _ => rfl
  | n + 1, h => by
    have ih := fq_c n (fun i hi => h i (by omega))
    have h1 := h n (by omega)
    rw [fq_succ, q_c31 h1 (sf_no (fn_sf h1)), ih]; omega
theorem fN_lt (x : Int32) : fN x ≤ 31 ∧ fn x (fN x) = 31 := by
  have hl := ff_le (fun i => decide (31 ≤ fn x i)) 32
  have h : fN x < 32 := by
    refine Nat.lt_of_le_of_ne hl fun e => ?_
    have h1 : ∀ i, i < 32 → fn x i < 31 := fun i hi => fn_lt (by rw [e]; exact hi)
    have := fq_c 32 h1
    have := fb_ct_le (bt (fq x 32)) 31
    unfold c31 at *
    omega
  have h2 := ff_is _ _ h
  have h3 := fn_le x (fN x)
  have h4 : 31 ≤ fn x (fN x) := by simpa [fN] using h2
  exact ⟨by omega, by omega⟩
theorem q_safeOneByOne (x : Int32) : f_X6_safeOneByOne x = some (nI (fN x)) := by
  unfold f_X6_safeOneByOne
  have hN := fN_lt x
  have stp : ∀ i, i < 31 → t_X6_safeOneByOne_4 (fq x i, nI i) = if fn x i < 31 then some (.inl (fq x (i + 1), nI (i + 1))) else some (.inr (.inr (nI i))) := by
    intro i hi
    unfold t_X6_safeOneByOne_4 k_let
    dsimp only
    rw [if_neg (show ¬ (31 : Int32) ≤ nI i from nI_ge (b := 31) hi (by decide)), q_safe]
    simp only [Option.bind_some]
    rw [q_lowest]
    simp only [Option.bind_some]
    have hff : ff (bt (bld (sf (fq x i)) 31)) 31 = fn x i := ff_cong fun j hj => by rw [q_bld _ 31 (by omega) j (by omega)]; simp [hj]
    rw [hff, nI_1]
    have hle := fn_le x i
    by_cases c : fn x i < 31
    · have e1 : ¬ nI (fn x i) = -1 := by rw [← q_fr1 c]; exact fun q => by have := (q_fr hle).1.mp q; omega
      rw [q_fr1 c, if_neg e1, if_pos c, fq_succ]
      rfl
    · rw [(q_fr hle).1.mpr (by omega), if_pos rfl, if_neg c]
  by_cases e : fN x = 31
  · rw [show ((x, 0) : Int32 × Int32) = (fq x 0, nI 0) from rfl, k_for (fun i => (fq x i, nI i)) 31 (.inl (fq x 31, nI 31)) ?_ ?_ 1000 (by decide)]
    · rw [e]; rfl
    · intro i hi
      rw [stp i hi, if_pos (fn_lt (by omega))]
    · rfl
  · rw [show ((x, 0) : Int32 × Int32) = (fq x 0, nI 0) from rfl, k_for (fun i => (fq x i, nI i)) (fN x) (.inr (nI (fN x))) ?_ ?_ 1000 (by omega)]
    · rfl
    · intro i hi
      rw [stp i (by omega), if_pos (fn_lt hi)]
    · rw [stp _ (by omega), if_neg (by omega)]
theorem tT_le (x : Int32) : tT x ≤ 12 := by
  have h := q_cbsum (x := x) (tN x) (fun i hi => tn_lt hi)
  have h2 : cb (sq x (tN x)) ≤ 12 := fb_ct_le _ 12
  unfold tT; omega
/-- the least so far, and the lowest that gives it -/
def lg (x : Int32) : Nat → Nat × Nat
  | 0 => (13, 31)
  | n + 1 => if bt x n = false ∧ tT (st x n) < (lg x n).1 then (tT (st x n), n) else lg x n
theorem lg_succ (x : Int32) (n : Nat) : lg x (n + 1) = if bt x n = false ∧ tT (st x n) < (lg x n).1 then (tT (st x n), n) else lg x n := rfl
theorem lg_ok (x : Int32) : ∀ n, n ≤ 31 → ((lg x n).2 = 31 ∧ (lg x n).1 = 13 ∧ (∀ j, j < n → bt x j = true)) ∨ ((lg x n).2 < 31 ∧ (lg x n).1 ≤ 12)
  | 0, _ => Or.inl ⟨rfl, rfl, fun _ h => absurd h (Nat.not_lt_zero _)⟩
  | n + 1, hn => by
    rw [lg_succ]
    have ih := lg_ok x n (by omega)
    have ht := tT_le (st x n)
    by_cases c : bt x n = false ∧ tT (st x n) < (lg x n).1
    · rw [if_pos c]
      refine Or.inr ?_
      dsimp only
      exact ⟨by omega, ht⟩
    · rw [if_neg c]
      rcases ih with ⟨h1, h2, h3⟩ | h
      · refine Or.inl ⟨h1, h2, fun j hj => ?_⟩
        by_cases e : j = n
        · subst e
          cases hb : bt x j
          · exact absurd ⟨hb, by omega⟩ c
          · rfl
        · exact h3 j (by omega)
      · exact Or.inr h
theorem q_leastGiving (x : Int32) : f_X6_leastGiving x = some (fr (lg x 31).2) := by
  unfold f_X6_leastGiving
  rw [show ((13, -1, 0) : Int32 × Int32 × Int32) = (nI (lg x 0).1, fr (lg x 0).2, nI 0) from rfl, k_for (fun i => (nI (lg x i).1, fr (lg x i).2, nI i)) 31 (nI (lg x 31).1, fr (lg x 31).2, nI 31) ?_ ?_ 1000 (by decide)]
  · rfl
  · intro i hi
    unfold t_X6_leastGiving_7
    dsimp only
    rw [if_neg (show ¬ (31 : Int32) ≤ nI i from nI_ge (b := 31) hi (by decide)), q_has (by omega), nI_1, lg_succ]
    simp only [Option.bind_some]
    cases hb : bt x i
    · simp only [Bool.false_eq_true, if_false, if_true]
      unfold f_X6_givenBy
      show (((f_X6_oneByOne (st x i)).bind fun v1 => some v1).bind _) = _
      rw [q_oneByOne]
      simp only [Option.bind_some]
      have ht := tT_le (st x i)
      have h13 : (lg x i).1 ≤ 13 := by rcases lg_ok x i (by omega) with h | h <;> omega
      by_cases c : tT (st x i) < (lg x i).1
      · rw [if_neg (nI_ge c (by omega)), if_pos ⟨trivial, c⟩, q_fr1 hi]
      · rw [if_pos (nI_le (by omega) (by omega)), if_neg (fun q => c q.2)]
    · rw [if_neg (by simp), if_neg (by simp)]
  · rfl
