/-! The cases of the law: chains. -/
def cAll (x : Int32) : Nat := fb_ct (isL x) 12
def cK (x : Int32) (c : Nat) : Nat := fb_ct (fun k => isL x k && decide (kd x k = c)) 12
theorem q_cof0 {g : k_G8} {s : Nat → Int32} (h : rg8 g s) (la : Int32) (rC : Nat → Int32) : ∃ C, f_X8_chainsOf 0 la s rC = some (nI (cAll g.1), 0, C) := by
  have e := q_chainsOf (c := 0) (l := la) (rS := s) (rC := rC) (by omega)
  rw [h.1] at e
  refine ⟨lab g.1 rC (lb g.1), (show f_X8_chainsOf 0 la s rC = _ from e).trans (congrArg (fun n => some (nI n, (0 : Int32), lab g.1 rC (lb g.1))) ?_)⟩
  exact fb_ct_cong (q := isL g.1) fun k _ => by simp
theorem q_cof1 {g : k_G8} {s : Nat → Int32} (h : rg8 g s) (la : Int32) (rC : Nat → Int32) : ∃ C, f_X8_chainsOf 1 la s rC = some (nI (cK g.1 2), 0, C) := by
  have e := q_chainsOf (c := 1) (l := la) (rS := s) (rC := rC) (by omega)
  rw [h.1] at e
  refine ⟨lab g.1 rC (lb g.1), (show f_X8_chainsOf 1 la s rC = _ from e).trans (congrArg (fun n => some (nI n, (0 : Int32), lab g.1 rC (lb g.1))) ?_)⟩
  refine fb_ct_cong (q := fun k => isL g.1 k && decide (kd g.1 k = 2)) fun k _ => ?_
  rw [(q_kd1 g.1 k).2]; simp
theorem q_cof2 {g : k_G8} {s : Nat → Int32} (h : rg8 g s) (la : Int32) (rC : Nat → Int32) : ∃ C, f_X8_chainsOf 2 la s rC = some (nI (cK g.1 1), 0, C) := by
  have e := q_chainsOf (c := 2) (l := la) (rS := s) (rC := rC) (by omega)
  rw [h.1] at e
  refine ⟨lab g.1 rC (lb g.1), (show f_X8_chainsOf 2 la s rC = _ from e).trans (congrArg (fun n => some (nI n, (0 : Int32), lab g.1 rC (lb g.1))) ?_)⟩
  refine fb_ct_cong (q := fun k => isL g.1 k && decide (kd g.1 k = 1)) fun k _ => ?_
  rw [(q_kd1 g.1 k).1]; simp
theorem q_case19 {g : k_G8} {s : Nat → Int32} (h : rg8 g s) (a la : Int32) (rC : Nat → Int32) : ∃ C, f_case19 a g la s rC = some (0, C) := by
  obtain ⟨C, hC⟩ := q_cof0 h la rC
  have h0 : f_X0_count g.1 0 = some (nI (cK g.1 0)) := q_chcount (c := 0) (by omega)
  have h1 : f_X0_count g.1 1 = some (nI (cK g.1 1)) := q_chcount (c := 1) (by omega)
  have h2 : f_X0_count g.1 2 = some (nI (cK g.1 2)) := q_chcount (c := 2) (by omega)
  have hs : nI (cK g.1 0) + nI (cK g.1 1) + nI (cK g.1 2) = nI (cAll g.1) := by
    rw [nI_add, nI_add]
    exact congrArg nI (q_kinds g.1)
  have hf : f_X7_chains g = some (nI (cAll g.1)) := (k_bs h0).trans ((k_bs h1).trans ((k_bs h2).trans (congrArg some hs)))
  have hm : f_X8_chains la s rC = some (nI (cAll g.1), 0, C) := (k_bs hC).trans rfl
  refine ⟨C, ?_⟩
  unfold f_case19
  refine (k_bs hf).trans ((k_bs hm).trans ?_)
  exact if_pos rfl
theorem q_case21 {g : k_G8} {s : Nat → Int32} (h : rg8 g s) (a la : Int32) (rC : Nat → Int32) : ∃ C, f_case21 a g la s rC = some (0, C) := by
  obtain ⟨C, hC⟩ := q_cof1 h la rC
  have h2 : f_X0_count g.1 2 = some (nI (cK g.1 2)) := q_chcount (c := 2) (by omega)
  have hf : f_X7_rings g = some (nI (cK g.1 2)) := (k_bs h2).trans rfl
  have hm : f_X8_rings la s rC = some (nI (cK g.1 2), 0, C) := (k_bs hC).trans rfl
  refine ⟨C, ?_⟩
  unfold f_case21
  refine (k_bs hf).trans ((k_bs hm).trans ?_)
  exact if_pos rfl
theorem q_case22 {g : k_G8} {s : Nat → Int32} (h : rg8 g s) (a la : Int32) (rC : Nat → Int32) : ∃ C, f_case22 a g la s rC = some (0, C) := by
  obtain ⟨C, hC⟩ := q_cof2 h la rC
  have h2 : f_X0_count g.1 1 = some (nI (cK g.1 1)) := q_chcount (c := 1) (by omega)
  have hf : f_X7_longChains g = some (nI (cK g.1 1)) := (k_bs h2).trans rfl
  have hm : f_X8_longChains la s rC = some (nI (cK g.1 1), 0, C) := (k_bs hC).trans rfl
  refine ⟨C, ?_⟩
  unfold f_case22
  refine (k_bs hf).trans ((k_bs hm).trans ?_)
  exact if_pos rfl
theorem q_odd : ∀ n, n < 13 → (nI n &&& 1) = nI n - nI n / 2 * 2 := by decide +kernel
theorem q_case23 {g : k_G8} {s : Nat → Int32} (h : rg8 g s) (a la : Int32) (rC : Nat → Int32) : ∃ C, f_case23 a g la s rC = some (0, C) := by
  obtain ⟨C, hC⟩ := q_cof2 h la rC
  have h2 : f_X0_count g.1 1 = some (nI (cK g.1 1)) := q_chcount (c := 1) (by omega)
  have hle : cK g.1 1 < 13 := Nat.lt_succ_of_le (fb_ct_le _ 12)
  have hf : f_X7_ruleHoldsFor g = some (nI (cK g.1 1) &&& 1) := (k_bs h2).trans rfl
  have hm : f_X8_ruleHoldsFor la s rC = some (nI (cK g.1 1) - nI (cK g.1 1) / 2 * 2, 0, C) := (k_bs hC).trans rfl
  refine ⟨C, ?_⟩
  unfold f_case23
  refine (k_bs hf).trans ((k_bs hm).trans ?_)
  exact if_pos (q_odd _ hle)
