/-! The law's 'areChains' holds. -/
theorem r_low : ∀ i, i < 12 → ∀ j, j < 32 → bt (((1 : Int32) <<< (nI i &&& 31)) - 1) j = decide (j < i) := by decide +kernel
theorem r_cs0 {x : Int32} {i : Nat} (hi : i < 12) (t : tw x i = true) : ¬ cs x i = 0 := fun e => by
  have h := cs_bt (x := x) (a := i) (i := i) (by omega)
  rw [e, b_0] at h
  simp [hi, t] at h
theorem r_isL {x : Int32} {i : Nat} (hi : i < 12) (t : tw x i = true) : (cs x i &&& (((1 : Int32) <<< (nI i &&& 31)) - 1)) = 0 ↔ lb x i = i := by
  obtain ⟨l1, -, -⟩ := lb_spec (x := x) hi
  obtain ⟨t1, t2, t3⟩ := lb_tw (x := x) hi t
  rw [q_zero]
  constructor
  · intro h
    refine Classical.byContradiction fun c => ?_
    have hlt : lb x i < i := by omega
    have := h (lb x i) (by omega)
    rw [b_and, r_low i hi _ (by omega), cs_bt (by omega), t2, t3] at this
    simp [hlt, t1] at this
  · intro h j hj
    rw [b_and, r_low i hi j hj, cs_bt hj]
    by_cases c : j < i
    · have hl : lb x j ≤ j := (lb_spec (x := x) (show j < 12 by omega)).1
      have : ¬ lb x j = lb x i := by omega
      simp [this]
    · simp [c]
theorem r_step {g : k_G8} {i A B C : Nat} (hi : i < 12) (hA : A < 100) (hB : B < 100) (hC : C < 100) : t_L_areChains_13 g.1 g (nI A, nI B, nI C, 1, nI i) = some (.inl (nI (A + (isL g.1 i).toNat), nI (B + (isL g.1 i && decide (kd g.1 i = 2)).toNat), nI (C + (isL g.1 i && decide (kd g.1 i = 1)).toNat), 1, nI (i + 1))) := by
  obtain ⟨k1, k2⟩ := q_kd1 g.1 i
  rw [k1, k2]
  have hg : gt g.1 i ≤ 12 := fb_ct_le _ 12
  have hgl : gt g.1 (lb g.1 i) ≤ 12 := fb_ct_le _ 12
  unfold t_L_areChains_13 k_let
  rw [if_neg (show ¬ (12 : Int32) ≤ nI i from nI_ge (b := 12) hi (by decide))]
  refine (k_bs (p_chain hi)).trans ?_
  refine (k_bs (a := if isL g.1 i then 1 else 0) ?_).trans ?_
  · unfold isL
    cases t : tw g.1 i
    · rw [if_pos (by rfl)]; rfl
    · rw [if_pos rfl, if_neg (r_cs0 hi t)]
      by_cases c : lb g.1 i = i
      · rw [if_pos ((r_isL hi t).mpr c)]; simp [c]
      · rw [if_neg fun q => c ((r_isL hi t).mp q)]; simp [c]
  refine (k_bs (a := if isL g.1 i && rg g.1 i then 1 else 0) ?_).trans ?_
  · cases l : isL g.1 i
    · rfl
    · have l2 := l
      unfold isL at l2
      simp only [Bool.and_eq_true, decide_eq_true_eq] at l2
      rw [if_neg (by decide), if_pos l2.1]
      refine (k_bs (p_isRing hi l2.1 l2.2)).trans ?_
      cases rg g.1 i <;> rfl
  refine (k_bs (a := nI (isL g.1 i).toNat) ?_).trans ?_
  · cases isL g.1 i <;> rfl
  refine (k_bs (a := nI (isL g.1 i && rg g.1 i).toNat) ?_).trans ?_
  · cases isL g.1 i && rg g.1 i <;> rfl
  refine (k_bs (a := nI (isL g.1 i && (!rg g.1 i && decide (3 ≤ gt g.1 i))).toNat) ?_).trans ?_
  · cases l : isL g.1 i
    · rfl
    · have l2 := l
      unfold isL at l2
      simp only [Bool.and_eq_true, decide_eq_true_eq] at l2
      rw [if_neg (by decide), if_pos l2.1]
      cases rg g.1 i
      · rw [if_pos (by decide)]
        refine (k_bs (p_count _)).trans ?_
        rw [cs_n, l2.2]
        by_cases c : gt g.1 i ≤ 2
        · rw [if_pos (show nI (gt g.1 i) ≤ (2 : Int32) from nI_le (b := 2) c (by decide))]
          have : ¬ 3 ≤ gt g.1 i := by omega
          rw [decide_eq_false this]; rfl
        · rw [if_neg (show ¬ nI (gt g.1 i) ≤ (2 : Int32) from nI_ge (a := 2) (by omega) (by omega))]
          have : 3 ≤ gt g.1 i := by omega
          rw [decide_eq_true this]; rfl
      · rw [if_neg (by decide)]; rfl
  refine (k_bs (a := 1) ?_).trans ?_
  · rw [if_neg (show ¬ (1 : Int32) = 0 by decide)]
    refine (k_bs (o_chainOf hi)).trans ?_
    cases t : tw g.1 i
    · exact (k_bs (a := (-102 : Int32)) (if_pos rfl)).trans (if_pos rfl)
    · rw [if_pos rfl, if_pos rfl]
      refine (k_bs (a := nI (gt g.1 (lb g.1 i))) ?_).trans (if_pos rfl)
      rw [if_neg (r_cs0 hi t)]
      refine (k_bs (p_count _)).trans ?_
      rw [cs_n]
  · show some (Sum.inl (nI A + nI _, nI B + nI _, nI C + nI _, 1, nI i + 1)) = _
    rw [nI_add, nI_add, nI_add, nI_1]
theorem r_loop (g : k_G8) : k_loop (t_L_areChains_13 g.1 g) 70 (0, 0, 0, 1, 0) = some (nI (cAll g.1), nI (cK g.1 2), nI (cK g.1 1), 1, nI 12) := by
  have hb : ∀ (p : Nat → Bool) (i : Nat), i ≤ 12 → fb_ct p i < 100 := fun p i hi => by have := fb_ct_le p i; omega
  refine k_for (fun i => (nI (fb_ct (isL g.1) i), nI (fb_ct (fun k => isL g.1 k && decide (kd g.1 k = 2)) i), nI (fb_ct (fun k => isL g.1 k && decide (kd g.1 k = 1)) i), (1 : Int32), nI i)) 12 _ ?_ ?_ 70 (by decide)
  · intro i hi
    rw [r_step hi (hb _ i (by omega)) (hb _ i (by omega)) (hb _ i (by omega)), fb_ct_succ, fb_ct_succ, fb_ct_succ, p_tn, p_tn, p_tn]
  · unfold t_L_areChains_13
    rw [if_pos (show (12 : Int32) ≤ nI 12 by decide)]
    rfl
theorem r_areChains (g : k_G8) : f_L_areChains g.1 g = some 1 := by
  have h := r_loop g
  have hk : cK g.1 1 < 13 := by
    have : cK g.1 1 ≤ 12 := fb_ct_le _ 12
    omega
  unfold f_L_areChains
  refine (k_bs h).trans ?_
  refine (k_bs (a := 1) ?_).trans (if_pos (Or.inr rfl))
  dsimp only
  rw [if_neg (show ¬ (1 : Int32) = 0 by decide)]
  refine (k_bs (o_chains g)).trans ?_
  rw [if_pos rfl]
  refine (k_bs (o_rings g)).trans ?_
  rw [if_pos rfl]
  refine (k_bs (o_long g)).trans ?_
  rw [if_pos rfl]
  refine (k_bs (o_rule g)).trans ?_
  rw [if_pos (q_odd _ hk)]
