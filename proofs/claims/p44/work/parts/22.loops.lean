/-! Loops of the grid and of taking, both sides. -/
/-- the set of those below n that have p -/
def bld (p : Nat → Bool) : Nat → Int32
  | 0 => 0
  | n + 1 => if p n then st (bld p n) n else bld p n
theorem bld_succ (p : Nat → Bool) (n : Nat) : bld p (n + 1) = if p n then st (bld p n) n else bld p n := rfl
theorem q_bld (p : Nat → Bool) : ∀ n, n ≤ 32 → ∀ i, i < 32 → bt (bld p n) i = (decide (i < n) && p i)
  | 0, _, i, _ => by simp [bld, b_0]
  | n + 1, hn, i, hi => by
    unfold bld
    have ih := q_bld p n (by omega) i hi
    by_cases hp : p n = true
    · rw [if_pos hp, q_st (by omega) hi, ih]
      by_cases e : i = n
      · subst e; simp [hp]
      · have h2 : decide (i < n + 1) = decide (i < n) := by simp; omega
        rw [h2]; simp [e]
    · rw [if_neg hp, ih]
      by_cases e : i = n
      · subst e; simp [hp]
      · have h2 : decide (i < n + 1) = decide (i < n) := by simp; omega
        rw [h2]
/-- the least below n that has p, or n -/
def ff (p : Nat → Bool) : Nat → Nat
  | 0 => 0
  | n + 1 => if ff p n < n then ff p n else if p n then n else n + 1
theorem ff_le (p : Nat → Bool) : ∀ n, ff p n ≤ n
  | 0 => Nat.le_refl _
  | n + 1 => by
    unfold ff
    have := ff_le p n
    split
    · omega
    · split <;> omega
theorem ff_not (p : Nat → Bool) : ∀ n j, j < ff p n → p j = false
  | 0, j, h => absurd h (Nat.not_lt_zero j)
  | n + 1, j, h => by
    unfold ff at h
    have ih := ff_not p n
    have hl := ff_le p n
    by_cases c : ff p n < n
    · rw [if_pos c] at h; exact ih j h
    · rw [if_neg c] at h
      by_cases d : p n = true
      · rw [if_pos d] at h; exact ih j (by omega)
      · rw [if_neg d] at h
        by_cases e : j = n
        · subst e; simpa using d
        · exact ih j (by omega)
theorem ff_is (p : Nat → Bool) : ∀ n, ff p n < n → p (ff p n) = true
  | 0, h => absurd h (Nat.not_lt_zero _)
  | n + 1, h => by
    have ih := ff_is p n
    by_cases c : ff p n < n
    · have e : ff p (n + 1) = ff p n := by show (if ff p n < n then _ else _) = _; rw [if_pos c]
      rw [e]; exact ih c
    · by_cases d : p n = true
      · have e : ff p (n + 1) = n := by show (if ff p n < n then _ else _) = _; rw [if_neg c, if_pos d]
        rw [e]; exact d
      · have e : ff p (n + 1) = n + 1 := by show (if ff p n < n then _ else _) = _; rw [if_neg c, if_neg d]
        omega
theorem ff_none {p : Nat → Bool} {n : Nat} : ff p n = n ↔ ∀ j, j < n → p j = false := by
  constructor
  · intro h j hj; exact ff_not p n j (by omega)
  · intro h
    have := ff_le p n
    by_cases c : ff p n < n
    · have := ff_is p n c
      rw [h _ c] at this; cases this
    · omega
theorem ff_lt {p : Nat → Bool} {n j : Nat} (hj : j < n) (h : p j = true) : ff p n ≤ j := by
  refine Nat.not_lt.mp fun q => ?_
  have := ff_not p n j q
  rw [h] at this; cases this
theorem ff_cong {p q : Nat → Bool} : ∀ {n : Nat}, (∀ j, j < n → p j = q j) → ff p n = ff q n
  | 0, _ => rfl
  | n + 1, h => by
    unfold ff
    rw [ff_cong (n := n) (fun j hj => h j (by omega)), h n (by omega)]
/-- the answer of a search -/
def fr (n : Nat) : Int32 := if n < 31 then nI n else -1
theorem q_boxesHaving {x : Int32} {c : Nat} (hc : c < 2 ^ 31) : f_X3_boxesHaving x (nI c) = some (bld (fun k => decide (cn x k = c)) 12) := by
  unfold f_X3_boxesHaving
  rw [show ((0, 0) : Int32 × Int32) = (bld (fun k => decide (cn x k = c)) 0, nI 0) from rfl]
  rw [k_for (fun i => (bld (fun k => decide (cn x k = c)) i, nI i)) 12 (bld (fun k => decide (cn x k = c)) 12, nI 12) ?_ ?_ 1000 (by decide)]
  · rfl
  · intro i hi
    unfold t_X3_boxesHaving_4 k_let
    dsimp only
    rw [if_neg (show ¬ (12 : Int32) ≤ nI i from nI_ge hi (by decide)), q_countSides hi]
    simp only [Option.bind_some]
    have h4 := q_cn4 x i
    rw [nI_1]
    by_cases h : cn x i = c
    · rw [if_pos (by rw [h]), bld_succ, if_pos (decide_eq_true h)]
      rfl
    · rw [if_neg (fun q => h ((nI_eq (by omega) hc).mp q)), bld_succ, if_neg (by simpa using h)]
  · rfl
theorem q_lowest {y : Int32} : f_X3_lowestFence y = some (fr (ff (bt y) 31)) := by
  unfold f_X3_lowestFence
  have hle := ff_le (bt y) 31
  by_cases h : ff (bt y) 31 < 31
  · rw [show (0 : Int32) = nI 0 from rfl, k_for (fun i => nI i) (ff (bt y) 31) (Sum.inr (nI (ff (bt y) 31))) ?_ ?_ 1000 (by omega)]
    · simp only [Option.bind_some, Sum.elim_inr, fr, if_pos h]
    · intro i hi
      unfold t_X3_lowestFence_2
      rw [if_neg (show ¬ (31 : Int32) ≤ nI i from nI_ge (b := 31) (by omega) (by decide)), q_has (by omega), ff_not (bt y) 31 i hi]
      simp only [Option.bind_some]
      rw [nI_1]; rfl
    · unfold t_X3_lowestFence_2
      rw [if_neg (show ¬ (31 : Int32) ≤ nI _ from nI_ge h (by decide)), q_has (by omega), ff_is _ _ h]
      rfl
  · have e : ff (bt y) 31 = 31 := by omega
    rw [show (0 : Int32) = nI 0 from rfl, k_for (fun i => nI i) 31 (Sum.inl (nI 31)) ?_ ?_ 1000 (by omega)]
    · simp only [Option.bind_some, Sum.elim_inl, fr, if_neg h]
    · intro i hi
      unfold t_X3_lowestFence_2
      rw [if_neg (show ¬ (31 : Int32) ≤ nI i from nI_ge (b := 31) (by omega) (by decide)), q_has (by omega), ff_not (bt y) 31 i (by omega)]
      simp only [Option.bind_some]
      rw [nI_1]; rfl
    · rfl
/-- how many boxes fence f closes -/
def cl (x : Int32) (f : Nat) : Nat := fb_ct (fun k => bes f k && decide (cn x k = 3)) 12
/-- f takes -/
def tk (x : Int32) (f : Nat) : Bool := !bt x f && decide (0 < cl x f)
theorem q_last {x : Int32} : ∃ y, f_X6_lastFences x = some y ∧ ∀ i, i < 32 → bt y i = tk x i := by
  let acc : Nat → Int32 := fun n => Nat.rec (motive := fun _ => Int32) 0 (fun k z => if cn x k = 3 then z ||| (sdI k &&& (x ^^^ (-1))) else z) n
  have hs : ∀ k, acc (k + 1) = if cn x k = 3 then acc k ||| (sdI k &&& (x ^^^ (-1))) else acc k := fun _ => rfl
  have hb : ∀ n, n ≤ 12 → ∀ i, i < 32 → bt (acc n) i = (!bt x i && decide (0 < fb_ct (fun k => bes i k && decide (cn x k = 3)) n)) := by
    intro n
    induction n with
    | zero => intro _ i _; show bt 0 i = _; rw [b_0]; simp [fb_ct]
    | succ n ih =>
      intro hn i hi
      rw [hs, fb_ct_succ]
      have ih := ih (by omega) i hi
      by_cases h : cn x n = 3
      · rw [if_pos h, b_or, b_and, q_not hi, ih, q_sdb n (by omega) i hi]
        cases bt x i <;> cases hbs : bes i n <;> simp [h]
      · rw [if_neg h, ih]
        cases bt x i <;> cases hbs : bes i n <;> simp [h]
  refine ⟨acc 12, ?_, fun i hi => hb 12 (Nat.le_refl _) i hi⟩
  unfold f_X6_lastFences
  rw [show ((0, 0) : Int32 × Int32) = (acc 0, nI 0) from rfl]
  rw [k_for (fun i => (acc i, nI i)) 12 (acc 12, nI 12) ?_ ?_ 1000 (by decide)]
  · rfl
  · intro i hi
    unfold t_X6_lastFences_4 k_let
    dsimp only
    rw [if_neg (show ¬ (12 : Int32) ≤ nI i from nI_ge hi (by decide)), q_countSides hi]
    simp only [Option.bind_some]
    have h4 := q_cn4 x i
    rw [nI_1, hs]
    by_cases h : cn x i = 3
    · rw [if_pos (by rw [h]; rfl), q_sides i hi, if_pos h]
      rfl
    · rw [if_neg (show ¬ nI (cn x i) = (3 : Int32) from fun q => h ((nI_eq (a := cn x i) (b := 3) (by omega) (by decide)).mp q)), if_neg h]
  · rfl
theorem q_cl12 (x : Int32) (f : Nat) : cl x f ≤ 12 := fb_ct_le _ 12
