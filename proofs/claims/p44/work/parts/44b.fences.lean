/-! The law's 'areFences': fences. -/
/-- fences drawn in their order, each if it is safe then -/
def gw (x : Int32) : Nat → Nat × Int32
  | 0 => (0, x)
  | i + 1 => if sf (gw x i).2 i then ((gw x i).1 + 1, st (gw x i).2 i) else gw x i
theorem gw_succ (x : Int32) (i : Nat) : gw x (i + 1) = if sf (gw x i).2 i then ((gw x i).1 + 1, st (gw x i).2 i) else gw x i := rfl
theorem gw_le (x : Int32) : ∀ i, (gw x i).1 ≤ i
  | 0 => Nat.le_refl _
  | i + 1 => by
    have := gw_le x i
    rw [gw_succ]
    split
    · show (gw x i).1 + 1 ≤ _; omega
    · omega
theorem sf_mono {x : Int32} {f k : Nat} (hf : f < 31) (hk : k < 31) (hx : bt x f = false) (h : sf x k = false) : sf (st x f) k = false := by
  cases c : sf (st x f) k
  · rfl
  · exfalso
    unfold sf at c h
    simp only [Bool.and_eq_true, Bool.not_eq_true', decide_eq_true_eq] at c
    obtain ⟨c1, c2⟩ := c
    have b : bt x k = false := by
      rw [q_st (by omega) (by omega)] at c1
      simp only [Bool.or_eq_false_iff] at c1
      exact c1.1
    rw [b] at h
    have hr : ¬ ri x k = 0 := by simpa using h
    obtain ⟨w, w1, w2⟩ := fb_ct_pos.mp (Nat.pos_of_ne_zero hr)
    simp only [Bool.and_eq_true, decide_eq_true_eq] at w2
    have := fb_ct_zero.mp c2 w w1
    rw [w2.1, q_cnst w1 hf hx] at this
    have h2 : 2 ≤ cn x w + (bes f w).toNat := by omega
    simp [h2] at this
theorem sf_st {x : Int32} {f : Nat} (hf : f < 31) : sf (st x f) f = false := by
  unfold sf
  rw [q_st (by omega) (by omega)]
  simp
theorem ff_eq {p : Nat → Bool} {n r : Nat} (hr : r < n) (h1 : p r = true) (h2 : ∀ j, j < r → p j = false) : ff p n = r := by
  have a := ff_lt hr h1
  rcases Nat.lt_or_ge (ff p n) r with c | c
  · have b := ff_is p n (by omega)
    rw [h2 _ c] at b; cases b
  · omega
theorem gw_inv (x : Int32) : ∀ i, i ≤ 31 → (gw x i).2 = fq x (gw x i).1 ∧ (∀ j, j < (gw x i).1 → fn x j < 31) ∧ ∀ j, j < i → sf (gw x i).2 j = false
  | 0, _ => ⟨rfl, fun j h => absurd h (Nat.not_lt_zero j), fun j h => absurd h (Nat.not_lt_zero j)⟩
  | i + 1, hi => by
    obtain ⟨h1, h2, h3⟩ := gw_inv x i (by omega)
    rw [gw_succ]
    by_cases c : sf (gw x i).2 i = true
    · rw [if_pos c]
      have hfn : fn x (gw x i).1 = i := by
        show ff (sf (fq x (gw x i).1)) 31 = i
        rw [← h1]
        exact ff_eq (by omega) c h3
      refine ⟨?_, fun j hj => ?_, fun j hj => ?_⟩
      · show st (gw x i).2 i = fq x ((gw x i).1 + 1)
        rw [fq_succ, hfn, h1]
      · have hj : j < (gw x i).1 + 1 := hj
        by_cases e : j = (gw x i).1
        · rw [e, hfn]; omega
        · exact h2 j (by omega)
      · by_cases e : j = i
        · subst e; exact sf_st (by omega)
        · exact sf_mono (by omega) (by omega) (sf_no c) (h3 j (by omega))
    · rw [if_neg c]
      refine ⟨h1, h2, fun j hj => ?_⟩
      by_cases e : j = i
      · subst e; simpa using c
      · exact h3 j (by omega)
theorem gw_row (x : Int32) : (gw x 31).1 = fN x := by
  obtain ⟨h1, h2, h3⟩ := gw_inv x 31 (Nat.le_refl _)
  have hle := gw_le x 31
  have e : fn x (gw x 31).1 = 31 := by
    show ff (sf (fq x (gw x 31).1)) 31 = 31
    rw [← h1]
    exact ff_none.mpr h3
  have : fN x = (gw x 31).1 := ff_eq (by omega) (by rw [e]; rfl) fun j hj => by
    have := h2 j hj
    have : ¬ 31 ≤ fn x j := by omega
    simp [this]
  exact this.symm
def TK (x : Int32) (i : Nat) : Int32 := if ff (tk x) i < i then nI (ff (tk x) i) else -101
def BS (x : Int32) (i : Nat) : Int32 := if (lg x i).2 < 31 then nI (lg x i).2 else -101
def LSv (x : Int32) (i : Nat) : Int32 := if (lg x i).2 < 31 then nI (lg x i).1 else 99
theorem TK_succ {x : Int32} {i : Nat} (hi : i < 31) : TK x (i + 1) = if 0 ≤ TK x i then TK x i else if tk x i then nI i else TK x i := by
  have hl := ff_le (tk x) i
  have e : ff (tk x) (i + 1) = if ff (tk x) i < i then ff (tk x) i else if tk x i then i else i + 1 := rfl
  unfold TK
  rw [e]
  by_cases c : ff (tk x) i < i
  · rw [if_pos c, if_pos c, if_pos (by omega), if_pos (nI_pos' (by omega))]
  · rw [if_neg c, if_neg c, if_neg (show ¬ (0 : Int32) ≤ -101 by decide)]
    cases tk x i
    · rw [if_neg (c := false = true) (by decide), if_neg (show ¬ i + 1 < i + 1 by omega)]; rfl
    · rw [if_pos (c := true = true) rfl, if_pos (show i < i + 1 by omega)]; rfl
theorem lg_b {x : Int32} {i : Nat} (hi : i ≤ 31) : (lg x i).1 ≤ 13 ∧ (lg x i).2 ≤ 31 := by
  rcases lg_ok x i hi with h | h
  · omega
  · omega
theorem BL_succ {x : Int32} {i : Nat} (hi : i < 31) (hx : bt x i = false) : BS x (i + 1) = (if LSv x i ≤ nI (tT (st x i)) then BS x i else nI i) ∧ LSv x (i + 1) = (if LSv x i ≤ nI (tT (st x i)) then LSv x i else nI (tT (st x i))) := by
  have ht := tT_le (st x i)
  obtain ⟨b1, b2⟩ := lg_b (x := x) (i := i) (by omega)
  unfold BS LSv
  by_cases c : (lg x i).2 < 31
  · by_cases d : tT (st x i) < (lg x i).1
    · have e1 : lg x (i + 1) = (tT (st x i), i) := (lg_succ x i).trans (if_pos ⟨hx, d⟩)
      rw [e1, if_pos c, if_neg (nI_ge d (by omega)), if_neg (nI_ge d (by omega))]
      dsimp only
      rw [if_pos hi, if_pos hi]
      exact ⟨rfl, rfl⟩
    · have e1 : lg x (i + 1) = lg x i := (lg_succ x i).trans (if_neg fun q => d q.2)
      rw [e1, if_pos c, if_pos c, if_pos (nI_le (by omega) (by omega)), if_pos (nI_le (by omega) (by omega))]
      exact ⟨rfl, rfl⟩
  · have e : (lg x i).1 = 13 := by
      rcases lg_ok x i (by omega) with h | h
      · exact h.2.1
      · omega
    have g : ¬ (99 : Int32) ≤ nI (tT (st x i)) := nI_ge (b := 99) (by omega) (by decide)
    have e1 : lg x (i + 1) = (tT (st x i), i) := (lg_succ x i).trans (if_pos ⟨hx, by omega⟩)
    rw [e1, if_neg c, if_neg g, if_neg g]
    dsimp only
    rw [if_pos hi, if_pos hi]
    exact ⟨rfl, rfl⟩
theorem BL_skip {x : Int32} {i : Nat} (hx : bt x i = true) : BS x (i + 1) = BS x i ∧ LSv x (i + 1) = LSv x i := by
  have e1 : lg x (i + 1) = lg x i := (lg_succ x i).trans (if_neg fun q => by rw [hx] at q; cases q.1)
  unfold BS LSv
  rw [e1]
  exact ⟨rfl, rfl⟩
theorem a_fstep {g : k_G8} {i : Nat} (h31 : bt g.1 31 = false) (hi : i < 31) : t_L_areFences_240 g.1 g (1, TK g.1 i, nI (fb_ct (sf g.1) i), nI (gw g.1 i).1, (gw g.1 i).2, BS g.1 i, LSv g.1 i, nI i) = some (.inl (1, TK g.1 (i + 1), nI (fb_ct (sf g.1) (i + 1)), nI (gw g.1 (i + 1)).1, (gw g.1 (i + 1)).2, BS g.1 (i + 1), LSv g.1 (i + 1), nI (i + 1))) := by
  have hcl := q_cl12 g.1 i
  have hc31 := c31_le g.1
  unfold t_L_areFences_240 k_let
  dsimp only
  rw [if_neg (show ¬ (31 : Int32) ≤ nI i from nI_ge (b := 31) hi (by decide)), if_neg (show ¬ (1 : Int32) = 0 by decide), q_bit1 (by omega)]
  refine (k_bs (a := if bt g.1 i then 1 else 0) ?_).trans ?_
  · cases bt g.1 i <;> rfl
  refine (k_bs (a := TK g.1 (i + 1)) ?_).trans ?_
  · rw [TK_succ hi]
    by_cases c : (0 : Int32) ≤ TK g.1 i
    · rw [if_pos c, if_pos c]
    · rw [if_neg c, if_neg c]
      unfold tk
      cases hb : bt g.1 i
      · rw [if_pos (by decide)]
        refine (k_bs (p_close hi)).trans ?_
        by_cases d : cl g.1 i = 0
        · rw [d, if_pos (show nI 0 ≤ (0 : Int32) by decide)]; rfl
        · rw [if_neg (nI_nle (by omega) (by omega)), decide_eq_true (show 0 < cl g.1 i by omega)]; rfl
      · rw [if_neg (by decide)]; rfl
  refine (k_bs (p_safe hi)).trans ?_
  refine (k_bs (a := nI (if sf g.1 i then 1 else 0)) ?_).trans ?_
  · cases sf g.1 i <;> rfl
  rw [nI_add, ← fb_ct_succ]
  refine (k_bs (p_safe hi)).trans ?_
  refine (k_bs (a := (nI (gw g.1 (i + 1)).1, (gw g.1 (i + 1)).2)) ?_).trans ?_
  · rw [gw_succ]
    cases sf (gw g.1 i).2 i
    · rfl
    · rw [if_neg (by decide), if_pos rfl, nI_1]; rfl
  refine (k_bs (a := if bt g.1 i then -102 else nI (tT (st g.1 i))) ?_).trans ?_
  · cases bt g.1 i
    · rw [if_pos (by decide)]
      exact (k_bs (p_take (st g.1 i))).trans rfl
    · rw [if_neg (by decide)]; rfl
  refine (k_bs (a := BS g.1 (i + 1)) ?_).trans ?_
  · cases hb : bt g.1 i
    · rw [if_pos (by decide), (BL_succ hi hb).1, if_neg (c := false = true) (by decide)]
      split <;> rfl
    · rw [if_neg (by decide), (BL_skip hb).1]
  refine (k_bs (a := LSv g.1 (i + 1)) ?_).trans ?_
  · cases hb : bt g.1 i
    · rw [if_pos (by decide), (BL_succ hi hb).2, if_neg (c := false = true) (by decide)]
      split <;> rfl
    · rw [if_neg (by decide), (BL_skip hb).2]
  refine (k_bs (o_isDrawn hi)).trans ?_
  refine (k_bs (a := if bt g.1 i then 1 else 0) ?_).trans ?_
  · cases bt g.1 i <;> rfl
  refine (k_bs (a := 1) ?_).trans (by rw [nI_1])
  rw [if_pos rfl]
  refine (k_bs (o_whyNot h31 hi)).trans ?_
  refine (k_bs (p_count _)).trans ?_
  rw [q_n31 h31]
  refine (k_bs (a := if c31 g.1 = 31 then 1 else if bt g.1 i then 2 else 0) ?_).trans ?_
  · by_cases c : c31 g.1 = 31
    · rw [if_pos (c31_31.mpr c), if_pos c]
    · rw [if_neg fun q => c (c31_31.mp q), if_neg c]
      cases bt g.1 i <;> rfl
  rw [if_pos rfl]
  refine (k_bs (o_isSafe hi)).trans ?_
  refine (k_bs (p_safe hi)).trans ?_
  refine (k_bs (a := if sf g.1 i then 1 else 0) ?_).trans ?_
  · cases sf g.1 i <;> rfl
  rw [if_pos rfl]
  refine (k_bs (o_gives hi)).trans ?_
  rw [if_pos rfl]
theorem a_fences {g : k_G8} (h31 : bt g.1 31 = false) : k_loop (t_L_areFences_240 g.1 g) 70 (1, -101, 0, 0, g.1, -101, 99, 0) = some (1, TK g.1 31, nI (fb_ct (sf g.1) 31), nI (gw g.1 31).1, (gw g.1 31).2, BS g.1 31, LSv g.1 31, nI 31) := by
  have h := k_for (step := t_L_areFences_240 g.1 g) (fun i => ((1 : Int32), TK g.1 i, nI (fb_ct (sf g.1) i), nI (gw g.1 i).1, (gw g.1 i).2, BS g.1 i, LSv g.1 i, nI i)) 31 (1, TK g.1 31, nI (fb_ct (sf g.1) 31), nI (gw g.1 31).1, (gw g.1 31).2, BS g.1 31, LSv g.1 31, nI 31) (fun i hi => a_fstep h31 hi) ?_ 70 (by decide)
  · exact h
  · unfold t_L_areFences_240
    rw [if_pos (show (31 : Int32) ≤ nI 31 by decide)]
