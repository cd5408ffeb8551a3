/-! Counting by taking the lowest member away. -/
theorem p_low : ∀ (v : Nat), 0 < v → ∃ j, v.testBit j = true ∧ ∀ i, (v &&& (v - 1)).testBit i = (v.testBit i && !decide (i = j)) := by
  intro v
  induction v using Nat.strongRecOn with
  | _ v ih =>
    intro hv
    by_cases c : v % 2 = 1
    · refine ⟨0, ?_, fun i => ?_⟩
      · rw [Nat.testBit_zero]; simp [c]
      · rw [Nat.testBit_and]
        cases i with
        | zero => rw [Nat.testBit_zero, Nat.testBit_zero]; have : (v - 1) % 2 = 0 := by omega
                  simp [c, this]
        | succ i => rw [Nat.testBit_succ, Nat.testBit_succ, show (v - 1) / 2 = v / 2 by omega]; simp
    · obtain ⟨j, h1, h2⟩ := ih (v / 2) (by omega) (by omega)
      refine ⟨j + 1, by rw [Nat.testBit_succ]; exact h1, fun i => ?_⟩
      rw [Nat.testBit_and]
      cases i with
      | zero => rw [Nat.testBit_zero]; have : v % 2 = 0 := by omega
                simp [this]
      | succ i =>
        have := h2 i
        rw [Nat.testBit_and] at this
        rw [Nat.testBit_succ, Nat.testBit_succ, show (v - 1) / 2 = v / 2 - 1 by omega, this]
        simp
theorem p_pop {x : Int32} (h : ¬ x = 0) : ∃ j, j < 32 ∧ bt x j = true ∧ ∀ i, i < 32 → bt (x &&& (x - 1)) i = (bt x i && !decide (i = j)) := by
  obtain ⟨v, hv, rfl⟩ := q_of x
  have hp : 0 < v := by
    rcases Nat.eq_zero_or_pos v with e | e
    · subst e; exact (h rfl).elim
    · exact e
  obtain ⟨j, h1, h2⟩ := p_low v hp
  have hj : j < 32 := by
    rcases Nat.lt_or_ge j 32 with e | e
    · exact e
    · have := Nat.testBit_lt_two_pow (Nat.lt_of_lt_of_le hv (Nat.pow_le_pow_right (by decide) e))
      rw [this] at h1; cases h1
  obtain ⟨w, rfl⟩ : ∃ w, v = w + 1 := ⟨v - 1, by omega⟩
  refine ⟨j, hj, by rw [q_bt hj]; exact h1, fun i hi => ?_⟩
  rw [nI_pred, fa_and, q_bt hi, q_bt hi]
  exact h2 i
theorem p_popn {x : Int32} (h : ¬ x = 0) : q_n (x &&& (x - 1)) + 1 = q_n x := by
  obtain ⟨j, hj, h1, h2⟩ := p_pop h
  have := fb_ct_upd (bt x) false hj
  unfold q_n
  rw [fb_ct_cong (q := fun k => if k = j then false else bt x k) fun k hk => by rw [h2 k hk]; by_cases e : k = j <;> simp [e]]
  rw [h1] at this
  simpa using this
theorem p_cloop : ∀ (n : Nat) (x : Int32) (c N : Nat), q_n x = n → n < N → k_loop t_L_count_4 N (nI c, x) = some (nI (c + n), 0) := by
  intro n
  induction n with
  | zero =>
    intro x c N h hN
    obtain ⟨N, rfl⟩ : ∃ M, N = M + 1 := ⟨N - 1, by omega⟩
    have hx : x = 0 := q_zero.mpr fun i hi => fb_ct_zero.mp h i hi
    show (t_L_count_4 (nI c, x)).bind _ = _
    refine (k_bs (a := Sum.inr (nI c, x)) (if_pos hx)).trans ?_
    rw [hx]; rfl
  | succ n ih =>
    intro x c N h hN
    obtain ⟨N, rfl⟩ : ∃ M, N = M + 1 := ⟨N - 1, by omega⟩
    have hx : ¬ x = 0 := fun e => by
      have : q_n x = 0 := fb_ct_zero.mpr fun i _ => by rw [e]; exact b_0 i
      omega
    show (t_L_count_4 (nI c, x)).bind _ = _
    refine (k_bs (a := Sum.inl (nI c + 1, x &&& (x - 1))) (if_neg hx)).trans ?_
    show k_loop t_L_count_4 N (nI c + 1, x &&& (x - 1)) = _
    rw [nI_1, ih _ (c + 1) N (by have := p_popn hx; omega) (by omega)]
    congr 3; omega
theorem p_count (x : Int32) : f_L_count x = some (nI (q_n x)) := by
  unfold f_L_count
  have h : q_n x ≤ 32 := fb_ct_le _ 32
  refine (k_bs (p_cloop (q_n x) x 0 1000 rfl (by omega))).trans ?_
  show some (nI (0 + q_n x)) = _
  rw [Nat.zero_add]
