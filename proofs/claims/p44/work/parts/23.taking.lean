/-! Taking one by one, and by rounds. -/
theorem q_cnst {x : Int32} {f k : Nat} (hk : k < 12) (hf : f < 31) (h : bt x f = false) : cn (st x f) k = cn x k + (bes f k).toNat := by
  have v := q_vl k hk
  unfold cn
  rw [q_st (by omega) (by omega), q_st (by omega) (by omega), q_st (by omega) (by omega), q_st (by omega) (by omega)]
  unfold bes
  by_cases e1 : f = k
  · subst e1
    rw [h, decide_eq_true rfl, decide_eq_false (show ¬ f + 4 = f by omega), decide_eq_false (show ¬ vl f = f by omega), decide_eq_false (show ¬ vl f + 1 = f by omega)]
    simp; omega
  · by_cases e2 : f = k + 4
    · subst e2
      rw [h, decide_eq_true rfl, decide_eq_false (show ¬ k = k + 4 by omega), decide_eq_false (show ¬ vl k = k + 4 by omega), decide_eq_false (show ¬ vl k + 1 = k + 4 by omega)]
      simp; omega
    · by_cases e3 : f = vl k
      · subst e3
        rw [h, decide_eq_true rfl, decide_eq_false (show ¬ k = vl k by omega), decide_eq_false (show ¬ k + 4 = vl k by omega), decide_eq_false (show ¬ vl k + 1 = vl k by omega)]
        simp; omega
      · by_cases e4 : f = vl k + 1
        · subst e4
          rw [h, decide_eq_true rfl, decide_eq_false (show ¬ k = vl k + 1 by omega), decide_eq_false (show ¬ k + 4 = vl k + 1 by omega), decide_eq_false (show ¬ vl k = vl k + 1 by omega)]
          simp
        · rw [decide_eq_false (show ¬ k = f from fun q => e1 q.symm), decide_eq_false (show ¬ k + 4 = f from fun q => e2 q.symm), decide_eq_false (show ¬ vl k = f from fun q => e3 q.symm), decide_eq_false (show ¬ vl k + 1 = f from fun q => e4 q.symm)]
          rw [beq_false_of_ne e1, beq_false_of_ne e2, beq_false_of_ne e3, beq_false_of_ne e4]
          simp
theorem q_nbld {p : Nat → Bool} {n : Nat} (hn : n ≤ 32) : q_n (bld p n) = fb_ct p n := by
  unfold q_n
  rw [show (32 : Nat) = n + (32 - n) by omega, fb_ct_split]
  have h1 : fb_ct (bt (bld p n)) n = fb_ct p n := fb_ct_cong fun k hk => by rw [q_bld p n hn k (by omega)]; simp [hk]
  have h2 : fb_ct (fun k => bt (bld p n) (n + k)) (32 - n) = 0 := fb_ct_zero.mpr fun k hk => by rw [q_bld p n hn _ (by omega), decide_eq_false (by omega)]; rfl
  rw [h1, h2, Nat.add_zero]
/-- a fence is drawn: what it closes, as a set -/
theorem q_gain {x : Int32} {f : Nat} (hf : f < 31) (h : bt x f = false) : ∃ c, f_X3_closedWith (st x f) (nI f) = some c ∧ f_J6_bitCount_0f7a4 c = some (nI (cl x f)) ∧ ∀ i, i < 32 → bt c i = (decide (i < 12) && (bes f i && decide (cn x i = 3))) := by
  obtain ⟨c, h1, h2⟩ := q_closedWith (x := st x f) hf
  have h3 : ∀ i, i < 32 → bt c i = (decide (i < 12) && (bes f i && decide (cn x i = 3))) := by
    intro i hi
    rw [h2 i hi]
    by_cases hi2 : i < 12
    · rw [q_cnst hi2 hf h]
      cases hb : bes f i
      · simp
      · simp
    · simp [hi2]
  refine ⟨c, h1, ?_, h3⟩
  rw [q_bitCount]
  congr 2
  have hc : c = bld (fun i => bes f i && decide (cn x i = 3)) 12 := b_ext fun i hi => by rw [h3 i hi, q_bld _ 12 (by omega) i hi]
  rw [hc, q_nbld (by omega)]
  rfl
/-- how many fences are drawn -/
def c31 (x : Int32) : Nat := fb_ct (bt x) 31
theorem q_c31 {x : Int32} {f : Nat} (hf : f < 31) (h : bt x f = false) : c31 (st x f) = c31 x + 1 := by
  unfold c31
  have e : fb_ct (bt (st x f)) 31 = fb_ct (fun k => if k = f then true else bt x k) 31 := fb_ct_cong fun k hk => by
    rw [q_st (by omega) (by omega)]
    by_cases q : k = f <;> simp [q]
  have u := fb_ct_upd (bt x) true hf
  rw [h] at u
  rw [e]
  simpa using u
theorem q_fr {n : Nat} (hn : n ≤ 31) : (fr n = -1 ↔ n = 31) ∧ (fr n < 0 ↔ n = 31) := by
  have h : ∀ n, n ≤ 31 → ((fr n = -1 ↔ n = 31) ∧ (fr n < 0 ↔ n = 31)) := by
    intro n hn
    rcases Nat.lt_or_ge n 31 with q | q
    · exact (by decide +kernel : ∀ n, n < 31 → ((fr n = -1 ↔ n = 31) ∧ (fr n < 0 ↔ n = 31))) n q
    · have : n = 31 := by omega
      subst this; decide +kernel
  exact h n hn
theorem q_fr1 {n : Nat} (hn : n < 31) : fr n = nI n := if_pos hn
def sq (x : Int32) : Nat → Int32
  | 0 => x
  | n + 1 => st (sq x n) (ff (tk (sq x n)) 31)
/-- the next fence that takes -/
def tn (x : Int32) (i : Nat) : Nat := ff (tk (sq x i)) 31
theorem sq_succ (x : Int32) (n : Nat) : sq x (n + 1) = st (sq x n) (tn x n) := rfl
def tsum (x : Int32) (n : Nat) : Nat := fb_sm (fun i => cl (sq x i) (tn x i)) n
/-- how many fences are drawn, taking -/
def tN (x : Int32) : Nat := ff (fun i => decide (31 ≤ tn x i)) 32
/-- how many boxes are taken -/
def tT (x : Int32) : Nat := tsum x (tN x)
theorem tn_le (x : Int32) (i : Nat) : tn x i ≤ 31 := ff_le _ 31
theorem tn_lt {x : Int32} {i : Nat} (h : i < tN x) : tn x i < 31 := by
  have := ff_not _ _ _ h
  simpa using this
theorem tn_tk {x : Int32} {i : Nat} (h : tn x i < 31) : tk (sq x i) (tn x i) = true := ff_is _ _ h
theorem tk_no {x : Int32} {f : Nat} (h : tk x f = true) : bt x f = false := by
  unfold tk at h
  cases hb : bt x f
  · rfl
  · rw [hb] at h; cases h
theorem sq_c {x : Int32} : ∀ n, (∀ i, i < n → tn x i < 31) → c31 (sq x n) = c31 x + n
  | 0, _ => rfl
  | n + 1, h => by
    have ih := sq_c n (fun i hi => h i (by omega))
    have h1 := h n (by omega)
    rw [sq_succ, q_c31 h1 (tk_no (tn_tk h1)), ih]; omega
theorem tN_lt (x : Int32) : tN x ≤ 31 ∧ tn x (tN x) = 31 := by
  have hl := ff_le (fun i => decide (31 ≤ tn x i)) 32
  have h : tN x < 32 := by
    refine Nat.lt_of_le_of_ne hl fun e => ?_
    have h1 : ∀ i, i < 32 → tn x i < 31 := fun i hi => tn_lt (by rw [e]; exact hi)
    have := sq_c 32 h1
    have := fb_ct_le (bt (sq x 32)) 31
    unfold c31 at *
    omega
  have h2 := ff_is _ _ h
  have h3 := tn_le x (tN x)
  have h4 : 31 ≤ tn x (tN x) := by simpa [tN] using h2
  exact ⟨by omega, by omega⟩
theorem tsum_succ (x : Int32) (n : Nat) : tsum x (n + 1) = tsum x n + cl (sq x n) (tn x n) := rfl
theorem q_oneByOne (x : Int32) : f_X6_oneByOne x = some (nI (tT x)) := by
  unfold f_X6_oneByOne
  have hN := tN_lt x
  have stp : ∀ i, i < 31 → t_X6_oneByOne_6 (sq x i, nI (tsum x i), nI i) = if tn x i < 31 then some (.inl (sq x (i + 1), nI (tsum x (i + 1)), nI (i + 1))) else some (.inr (.inr (nI (tsum x i)))) := by
    intro i hi
    unfold t_X6_oneByOne_6 k_let
    dsimp only
    rw [if_neg (show ¬ (31 : Int32) ≤ nI i from nI_ge (b := 31) hi (by decide))]
    obtain ⟨y, h1, h2⟩ := q_last (x := sq x i)
    rw [h1]
    simp only [Option.bind_some]
    rw [q_lowest, ff_cong (fun j hj => h2 j (by omega))]
    simp only [Option.bind_some]
    have hle := tn_le x i
    by_cases c : tn x i < 31
    · have e : fr (ff (tk (sq x i)) 31) = nI (tn x i) := q_fr1 c
      have e1 : ¬ nI (tn x i) = -1 := by rw [← e]; exact fun q => by have := (q_fr hle).1.mp q; omega
      rw [e, if_neg e1, if_pos c]
      obtain ⟨cc, g1, g2, -⟩ := q_gain c (tk_no (tn_tk c))
      show ((f_X3_closedWith (st (sq x i) (tn x i)) (nI (tn x i))).bind _) = _
      rw [g1]
      simp only [Option.bind_some]
      rw [g2]
      simp only [Option.bind_some]
      rw [nI_add (tsum x i) (cl (sq x i) (tn x i)), nI_1 i, sq_succ, tsum_succ]
      rfl
    · have e : fr (ff (tk (sq x i)) 31) = -1 := (q_fr hle).1.mpr (by omega)
      rw [e, if_pos rfl, if_neg c]
  by_cases e : tN x = 31
  · rw [show ((x, 0, 0) : Int32 × Int32 × Int32) = (sq x 0, nI (tsum x 0), nI 0) from rfl, k_for (fun i => (sq x i, nI (tsum x i), nI i)) 31 (.inl (sq x 31, nI (tsum x 31), nI 31)) ?_ ?_ 1000 (by decide)]
    · unfold tT; rw [e]; rfl
    · intro i hi
      rw [stp i hi, if_pos (tn_lt (by omega))]
    · rfl
  · rw [show ((x, 0, 0) : Int32 × Int32 × Int32) = (sq x 0, nI (tsum x 0), nI 0) from rfl, k_for (fun i => (sq x i, nI (tsum x i), nI i)) (tN x) (.inr (nI (tsum x (tN x)))) ?_ ?_ 1000 (by omega)]
    · rfl
    · intro i hi
      rw [stp i (by omega), if_pos (tn_lt hi)]
    · rw [stp _ (by omega), if_neg (by omega)]
/-- closed boxes -/
def cb (x : Int32) : Nat := fb_ct (fun k => decide (cn x k = 4)) 12
theorem q_cb {x : Int32} {f : Nat} (hf : f < 31) (h : bt x f = false) : cb (st x f) = cb x + cl x f := by
  unfold cb cl
  rw [← fb_ct_or]
  · refine fb_ct_cong fun k hk => ?_
    rw [q_cnst hk hf h]
    have h4 := q_cn4 x k
    have hnc : bes f k = true → cn x k ≠ 4 := by
      intro hb e
      have := (q_cnc hk).mp e f (by omega) hb
      rw [h] at this; cases this
    cases hb : bes f k
    · simp
    · have := hnc hb
      simp [this]
  · intro k hk hh
    simp at hh
    omega
theorem q_cbsum {x : Int32} : ∀ n, (∀ i, i < n → tn x i < 31) → cb (sq x n) = cb x + tsum x n
  | 0, _ => rfl
  | n + 1, h => by
    have h1 := h n (by omega)
    have ih := q_cbsum n (fun i hi => h i (by omega))
    rw [sq_succ]
    rw [q_cb h1 (tk_no (tn_tk h1)), ih, tsum_succ]; omega
def sb (x y : Int32) : Prop := ∀ i, i < 31 → bt x i = true → bt y i = true
theorem q_cnmono {x y : Int32} (h : sb x y) {k : Nat} (hk : k < 12) : cn x k ≤ cn y k := by
  have v := q_vl k hk
  have t : ∀ a b : Bool, (a = true → b = true) → a.toNat ≤ b.toNat := by decide
  have := t _ _ (h k (by omega))
  have := t _ _ (h (k + 4) (by omega))
  have := t _ _ (h (vl k) (by omega))
  have := t _ _ (h (vl k + 1) (by omega))
  unfold cn
  omega
theorem q_tkmono {x y : Int32} (h : sb x y) {f : Nat} (hf : f < 31) (ht : tk x f = true) : bt y f = true ∨ tk y f = true := by
  cases hy : bt y f
  · refine Or.inr ?_
    unfold tk at ht ⊢
    rw [hy]
    simp only [Bool.and_eq_true, decide_eq_true_eq] at ht
    obtain ⟨k, hk, hp⟩ := fb_ct_pos.mp ht.2
    simp only [Bool.and_eq_true, decide_eq_true_eq] at hp
    have h1 := q_cnmono h hk
    have h2 : cn y k ≠ 4 := by
      intro e
      have := (q_cnc hk).mp e f (by omega) hp.1
      rw [hy] at this; cases this
    have h4 := q_cn4 y k
    have : 0 < cl y f := fb_ct_pos.mpr ⟨k, hk, by simp only [Bool.and_eq_true, decide_eq_true_eq]; exact ⟨hp.1, by omega⟩⟩
    simp [this]
  · exact Or.inl rfl
def shut (y : Int32) : Prop := ∀ f, f < 31 → tk y f = false
theorem sq_sub {x y : Int32} (h : sb x y) (hy : shut y) : ∀ n, (∀ i, i < n → tn x i < 31) → sb (sq x n) y
  | 0, _ => h
  | n + 1, hn => by
    have ih := sq_sub h hy n (fun i hi => hn i (by omega))
    have h1 := hn n (by omega)
    intro i hi hb
    rw [sq_succ, q_st (by have := tn_le x n; omega) (by omega)] at hb
    rcases Bool.or_eq_true _ _ ▸ hb with q | q
    · exact ih i hi q
    · have e : i = tn x n := of_decide_eq_true q
      rw [e]
      rcases q_tkmono ih h1 (tn_tk h1) with z | z
      · exact z
      · rw [hy _ h1] at z; cases z
theorem sq_up {x : Int32} : ∀ n, sb x (sq x n)
  | 0 => fun _ _ h => h
  | n + 1 => fun i hi h => by
    rw [sq_succ, q_st (by have := tn_le x n; omega) (by omega), sq_up n i hi h]; rfl
def lastI (x : Int32) : Int32 := (f_X6_lastFences x).getD 0
theorem q_lastI (x : Int32) : f_X6_lastFences x = some (lastI x) ∧ ∀ i, i < 32 → bt (lastI x) i = tk x i := by
  obtain ⟨y, h1, h2⟩ := q_last (x := x)
  have e : lastI x = y := by unfold lastI; rw [h1]; rfl
  rw [e]; exact ⟨h1, h2⟩
def rq (x : Int32) : Nat → Int32
  | 0 => x
  | n + 1 => rq x n ||| lastI (rq x n)
theorem rq_succ (x : Int32) (n : Nat) : rq x (n + 1) = rq x n ||| lastI (rq x n) := rfl
theorem rq_sub {x y : Int32} (h : sb x y) (hy : shut y) : ∀ n, sb (rq x n) y
  | 0 => h
  | n + 1 => by
    have ih := rq_sub h hy n
    intro i hi hb
    rw [rq_succ, b_or, (q_lastI _).2 i (by omega)] at hb
    rcases Bool.or_eq_true _ _ ▸ hb with q | q
    · exact ih i hi q
    · rcases q_tkmono ih hi q with z | z
      · exact z
      · rw [hy _ hi] at z; cases z
theorem rq_up {x : Int32} : ∀ n, sb x (rq x n)
  | 0 => fun _ _ h => h
  | n + 1 => fun i hi h => by rw [rq_succ, b_or, rq_up n i hi h]; rfl
def rM (x : Int32) : Nat := ff (fun i => decide (lastI (rq x i) = 0)) 31
theorem tk31 (x : Int32) : tk x 31 = false := by
  have h : ∀ k, k < 12 → bes 31 k = false := by decide +kernel
  have : cl x 31 = 0 := fb_ct_zero.mpr fun k hk => by rw [h k hk]; rfl
  unfold tk; rw [this]; simp
theorem last_shut {x : Int32} : lastI x = 0 ↔ shut x := by
  rw [q_zero]
  constructor
  · intro h f hf; rw [← (q_lastI x).2 f (by omega)]; exact h f (by omega)
  · intro h i hi
    rw [(q_lastI x).2 i hi]
    by_cases e : i = 31
    · subst e; exact tk31 x
    · exact h i (by omega)
theorem rq_grow {x : Int32} (n : Nat) (h : lastI (rq x n) ≠ 0) : c31 (rq x n) + 1 ≤ c31 (rq x (n + 1)) := by
  have h1 : ∃ f, f < 31 ∧ tk (rq x n) f = true := by
    refine Classical.byContradiction fun q => h (last_shut.mpr fun f hf => ?_)
    cases ht : tk (rq x n) f
    · rfl
    · exact absurd ⟨f, hf, ht⟩ q
  obtain ⟨f, hf, ht⟩ := h1
  rw [← q_c31 hf (tk_no ht)]
  unfold c31
  refine fb_ct_sub fun k hk hb => ?_
  rw [q_st (by omega) (by omega)] at hb
  rw [rq_succ, b_or, (q_lastI _).2 k (by omega)]
  rcases Bool.or_eq_true _ _ ▸ hb with q | q
  · rw [q]; rfl
  · have e : k = f := of_decide_eq_true q
    rw [e, ht]; simp
theorem rM_shut (x : Int32) : rM x ≤ 31 ∧ shut (rq x (rM x)) := by
  have hl := ff_le (fun i => decide (lastI (rq x i) = 0)) 31
  refine ⟨hl, ?_⟩
  by_cases c : rM x < 31
  · have := ff_is _ _ c
    exact last_shut.mp (by simpa [rM] using this)
  · have e : rM x = 31 := by unfold rM at *; omega
    have hg : ∀ n, n ≤ 31 → n ≤ c31 (rq x n) := by
      intro n
      induction n with
      | zero => intro _; omega
      | succ n ih =>
        intro hn
        have h1 : lastI (rq x n) ≠ 0 := by
          have := ff_not (fun i => decide (lastI (rq x i) = 0)) 31 n (by unfold rM at e; omega)
          simpa using this
        have := rq_grow n h1
        have := ih (by omega)
        omega
    rw [e]
    have h31 := hg 31 (Nat.le_refl _)
    have hle := fb_ct_le (bt (rq x 31)) 31
    have hall := fb_ct_all.mp (show fb_ct (bt (rq x 31)) 31 = 31 by unfold c31 at h31; omega)
    intro f hf
    unfold tk
    rw [hall f hf]; rfl
theorem sq_shut (x : Int32) : shut (sq x (tN x)) := fun f hf => ff_none.mp (tN_lt x).2 f hf
theorem q_cnext {x y : Int32} (h : ∀ i, i < 31 → bt x i = bt y i) {k : Nat} (hk : k < 12) : cn x k = cn y k := by
  have v := q_vl k hk
  unfold cn
  rw [h k (by omega), h (k + 4) (by omega), h (vl k) (by omega), h (vl k + 1) (by omega)]
theorem q_same (x : Int32) : cb (rq x (rM x)) = cb x + tT x := by
  have h1 := sq_sub (rq_up (x := x) (rM x)) (rM_shut x).2 (tN x) (fun i hi => tn_lt hi)
  have h2 := rq_sub (sq_up (x := x) (tN x)) (sq_shut x) (rM x)
  have e : ∀ i, i < 31 → bt (rq x (rM x)) i = bt (sq x (tN x)) i := fun i hi => by
    cases ha : bt (rq x (rM x)) i
    · cases hb : bt (sq x (tN x)) i
      · rfl
      · rw [h1 i hi hb] at ha; cases ha
    · exact (h2 i hi ha).symm
  rw [show cb (rq x (rM x)) = cb (sq x (tN x)) from fb_ct_cong fun k hk => by rw [q_cnext e hk]]
  exact q_cbsum _ (fun i hi => tn_lt hi)
theorem q_four {x : Int32} : ((f_X3_boxesHaving x 4).bind fun v => f_J6_bitCount_0f7a4 v) = some (nI (cb x)) := by
  rw [show (4 : Int32) = nI 4 from rfl, q_boxesHaving (by decide)]
  simp only [Option.bind_some]
  rw [q_bitCount, q_nbld (by omega)]
  rfl
theorem q_byRounds (x : Int32) : f_X6_byRounds x = some (nI (tT x)) := by
  unfold f_X6_byRounds
  have hM := rM_shut x
  rw [show (4 : Int32) = nI 4 from rfl, q_boxesHaving (by decide)]
  simp only [Option.bind_some]
  rw [q_bitCount, q_nbld (by omega)]
  simp only [Option.bind_some]
  have stp : ∀ b i, i < 31 → t_X6_byRounds_13 b (rq x i, nI i) = if lastI (rq x i) = 0 then some (.inr (rq x i, nI i)) else some (.inl (rq x (i + 1), nI (i + 1))) := by
    intro b i hi
    unfold t_X6_byRounds_13 k_let
    dsimp only
    rw [if_neg (show ¬ (31 : Int32) ≤ nI i from nI_ge (b := 31) hi (by decide)), (q_lastI _).1]
    simp only [Option.bind_some]
    rw [nI_1]; rfl
  rw [show ((x, 0) : Int32 × Int32) = (rq x 0, nI 0) from rfl, k_for (fun i => (rq x i, nI i)) (rM x) (rq x (rM x), nI (rM x)) ?_ ?_ 1000 (by omega)]
  · simp only [Option.bind_some]
    rw [q_boxesHaving (by decide)]
    simp only [Option.bind_some]
    rw [q_bitCount, q_nbld (by omega)]
    simp only [Option.bind_some]
    have := q_same x
    have e : nI (cb (rq x (rM x))) - nI (cb x) = nI (tT x) := by
      rw [this, Int32.sub_eq_iff_eq_add, nI_add (tT x) (cb x), Nat.add_comm]
    exact congrArg some e
  · intro i hi
    have h1 := ff_not (fun i => decide (lastI (rq x i) = 0)) 31 i hi
    rw [stp _ i (by omega), if_neg (by simpa using h1)]
  · by_cases c : rM x < 31
    · rw [stp _ _ c, if_pos (last_shut.mpr hM.2)]
    · have e : rM x = 31 := by omega
      rw [e]; rfl
