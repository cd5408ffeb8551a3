/-! The law's 'take', by rounds. -/
def tkb (y : Int32) (b : Nat) (t : Int32) : Int32 := if cn y b = 3 then st (st (st (st t (sd b 0)) (sd b 1)) (sd b 2)) (sd b 3) else t
theorem p_t23 {x y : Int32} {b : Nat} (hb : b < 12) (t : Int32) : k_loop (t_L_take_23 x y (nI b)) 1000 (t, 0) = some (tkb y b t, if cn y b = 3 then nI 4 else nI 0) := by
  have hc := q_cn4 y b
  unfold tkb
  by_cases d : cn y b = 3
  · rw [if_pos d, if_pos d]
    have step : ∀ (k : Nat) (u : Int32), k < 4 → t_L_take_23 x y (nI b) (u, nI k) = some (.inl (st u (sd b k), nI (k + 1))) := by
      intro k u hk
      unfold t_L_take_23 k_let
      rw [if_neg (show ¬ (4 : Int32) ≤ nI k from nI_ge (b := 4) hk (by decide))]
      refine (k_bs (p_has hb)).trans ?_
      rw [if_pos (show _ = (3 : Int32) from (nI_eq (b := 3) (by omega) (by decide)).mpr d)]
      refine (k_bs (p_side b hb k hk)).trans ?_
      rw [nI_1]; rfl
    refine k_for (fun i => ((if i = 0 then t else if i = 1 then st t (sd b 0) else if i = 2 then st (st t (sd b 0)) (sd b 1) else if i = 3 then st (st (st t (sd b 0)) (sd b 1)) (sd b 2) else st (st (st (st t (sd b 0)) (sd b 1)) (sd b 2)) (sd b 3)), nI i)) 4 _ ?_ ?_ 1000 (by decide)
    · intro i hi
      match i, hi with
      | 0, _ => exact step 0 t (by omega)
      | 1, _ => exact step 1 _ (by omega)
      | 2, _ => exact step 2 _ (by omega)
      | 3, _ => exact step 3 _ (by omega)
    · unfold t_L_take_23
      rw [if_pos (show (4 : Int32) ≤ nI 4 by decide)]
      rfl
  · rw [if_neg d, if_neg d]
    show (t_L_take_23 x y (nI b) (t, 0)).bind _ = _
    refine (k_bs (a := Sum.inr (t, nI 0)) ?_).trans rfl
    unfold t_L_take_23
    rw [if_neg (show ¬ (4 : Int32) ≤ 0 by decide)]
    refine (k_bs (p_has hb)).trans ?_
    rw [if_neg (show ¬ _ = (3 : Int32) from fun e => d ((nI_eq (b := 3) (by omega) (by decide)).mp e))]
    rfl
theorem tkb_bt {y t : Int32} {b i : Nat} (hb : b < 12) (hi : i < 32) : bt (tkb y b t) i = (bt t i || (bes i b && decide (cn y b = 3))) := by
  unfold tkb
  by_cases d : cn y b = 3
  · rw [if_pos d, q_st (by have := (p_sd b hb 3 (by omega)).1; omega) hi, q_st (by have := (p_sd b hb 2 (by omega)).1; omega) hi, q_st (by have := (p_sd b hb 1 (by omega)).1; omega) hi, q_st (by have := (p_sd b hb 0 (by omega)).1; omega) hi, p_sdb b hb i hi]
    have e : ∀ a c : Nat, (a == c) = decide (a = c) := fun a c => rfl
    simp only [e, d, decide_true, Bool.and_true]
    cases bt t i <;> cases decide (i = sd b 0) <;> cases decide (i = sd b 1) <;> cases decide (i = sd b 2) <;> cases decide (i = sd b 3) <;> rfl
  · rw [if_neg d]; simp [d]
def tka (y : Int32) : Nat → Int32
  | 0 => y
  | n + 1 => tkb y n (tka y n)
theorem p_t13 (x y : Int32) : k_loop (t_L_take_13 x y) 1000 (y, 0) = some (tka y 12, nI 12) := by
  refine k_for (fun i => (tka y i, nI i)) 12 _ ?_ ?_ 1000 (by decide)
  · intro i hi
    unfold t_L_take_13
    rw [if_neg (show ¬ (12 : Int32) ≤ nI i from nI_ge (b := 12) hi (by decide))]
    refine (k_bs (p_t23 (x := x) (y := y) hi (tka y i))).trans ?_
    rw [nI_1]; rfl
  · unfold t_L_take_13
    rw [if_pos (show (12 : Int32) ≤ nI 12 by decide)]
theorem tka_bt {y : Int32} {i : Nat} (hi : i < 32) : ∀ n, n ≤ 12 → bt (tka y n) i = (bt y i || decide (0 < fb_ct (fun b => bes i b && decide (cn y b = 3)) n))
  | 0, _ => by show bt y i = _; simp [fb_ct]
  | n + 1, hn => by
    show bt (tkb y n (tka y n)) i = _
    rw [tkb_bt (by omega) hi, tka_bt hi n (by omega), fb_ct_succ]
    by_cases c : (bes i n && decide (cn y n = 3)) = true
    · rw [c]; simp
    · have c2 : (bes i n && decide (cn y n = 3)) = false := by simpa using c
      rw [c2]; simp
theorem tka_rq (y : Int32) : tka y 12 = y ||| lastI y := by
  refine b_ext fun i hi => ?_
  rw [tka_bt hi 12 (by omega), b_or, (q_lastI y).2 i hi]
  show (bt y i || decide (0 < cl y i)) = (bt y i || (!bt y i && decide (0 < cl y i)))
  cases bt y i <;> simp
theorem p_t4 (x : Int32) : k_loop (t_L_take_4 x) 1000 (x, 1) = some (rq x (rM x), 0) := by
  obtain ⟨hM, hs⟩ := rM_shut x
  have step : ∀ i, t_L_take_4 x (rq x i, 1) = some (.inl (rq x (i + 1), if rq x (i + 1) = rq x i then 0 else 1)) := by
    intro i
    unfold t_L_take_4
    rw [if_neg (show ¬ (1 : Int32) ≤ 0 by decide)]
    refine (k_bs (p_t13 x (rq x i))).trans ?_
    rw [tka_rq, ← rq_succ]
    refine (k_bs (a := if rq x (i + 1) = rq x i then 0 else 1) ?_).trans rfl
    by_cases e : rq x (i + 1) = rq x i
    · rw [if_pos e, if_pos e]
    · rw [if_neg e, if_neg e]
  have h := k_for (step := t_L_take_4 x) (fun i => (if i ≤ rM x then (rq x i, (1 : Int32)) else (rq x (rM x), 0))) (rM x + 1) (rq x (rM x), (0 : Int32)) ?_ ?_ 1000 (by omega)
  · rw [if_pos (Nat.zero_le _)] at h
    exact h
  · intro i hi
    rw [if_pos (show i ≤ rM x by omega), step i]
    by_cases e : i = rM x
    · have hz : lastI (rq x (rM x)) = 0 := last_shut.mpr hs
      have e2 : rq x (i + 1) = rq x i := by
        rw [rq_succ, e, hz]
        exact b_ext fun j hj => by rw [b_or, b_0, Bool.or_false]
      rw [if_pos e2, if_neg (show ¬ i + 1 ≤ rM x by omega), e2, e]
    · have hlt : i < rM x := by omega
      have hne : lastI (rq x i) ≠ 0 := by
        have := ff_not _ 31 i hlt
        simpa using this
      have hg := rq_grow i hne
      have e2 : ¬ rq x (i + 1) = rq x i := fun q => by rw [q] at hg; omega
      rw [if_neg e2, if_pos (show i + 1 ≤ rM x by omega)]
  · rw [if_neg (show ¬ rM x + 1 ≤ rM x by omega)]
    unfold t_L_take_4
    rw [if_pos (show (0 : Int32) ≤ 0 by decide)]
theorem p_t84 (x y : Int32) : k_loop (t_L_take_84 x y) 1000 (0, 0) = some (nI (fb_ct (fun b => decide (cn y b = 4) && decide (cn x b < 4)) 12), nI 12) := by
  refine k_for (fun i => (nI (fb_ct (fun b => decide (cn y b = 4) && decide (cn x b < 4)) i), nI i)) 12 _ ?_ ?_ 1000 (by decide)
  · intro i hi
    unfold t_L_take_84 k_let
    have hy := q_cn4 y i
    have hx := q_cn4 x i
    rw [if_neg (show ¬ (12 : Int32) ≤ nI i from nI_ge (b := 12) hi (by decide)), fb_ct_succ]
    refine (k_bs (p_has hi)).trans ?_
    refine (k_bs (a := nI (if (decide (cn y i = 4) && decide (cn x i < 4)) = true then 1 else 0)) ?_).trans ?_
    · by_cases c : cn y i = 4
      · rw [if_pos (show _ = (4 : Int32) from (nI_eq (b := 4) (by omega) (by decide)).mpr c)]
        refine (k_bs (p_has hi)).trans ?_
        by_cases d : 4 ≤ cn x i
        · rw [if_pos (show (4 : Int32) ≤ nI (cn x i) from nI_le (a := 4) d (by omega))]
          have : ¬ cn x i < 4 := by omega
          simp [c, this]; rfl
        · rw [if_neg (show ¬ (4 : Int32) ≤ nI (cn x i) from nI_ge (b := 4) (by omega) (by decide))]
          have : cn x i < 4 := by omega
          simp [c, this]; rfl
      · rw [if_neg (show ¬ _ = (4 : Int32) from fun e => c ((nI_eq (b := 4) (by omega) (by decide)).mp e))]
        simp [c]; rfl
    · show some (Sum.inl (nI _ + nI _, nI i + 1)) = _
      rw [nI_add, nI_1]
  · unfold t_L_take_84
    rw [if_pos (show (12 : Int32) ≤ nI 12 by decide)]
theorem p_more (x : Int32) : fb_ct (fun b => decide (cn (rq x (rM x)) b = 4) && decide (cn x b < 4)) 12 = tT x := by
  have h := q_same x
  have hs : cb (rq x (rM x)) = fb_ct (fun b => decide (cn (rq x (rM x)) b = 4) && decide (cn x b < 4)) 12 + cb x := by
    unfold cb
    rw [← fb_ct_or fun k hk => by
      rintro ⟨a, b⟩
      simp at a b
      omega]
    refine fb_ct_cong fun k hk => ?_
    have hm : cn x k ≤ cn (rq x (rM x)) k := q_cnmono (rq_up _) hk
    have h4 := q_cn4 (rq x (rM x)) k
    by_cases c : cn x k = 4
    · have : cn (rq x (rM x)) k = 4 := by omega
      simp [c, this]
    · have : cn x k < 4 := by have := q_cn4 x k; omega
      simp [c, this]
  omega
theorem p_take (x : Int32) : f_L_take x = some (nI (tT x)) := by
  unfold f_L_take
  refine (k_bs (p_t4 x)).trans ?_
  dsimp only
  rw [p_t84 x (rq x (rM x)), p_more]
  rfl
