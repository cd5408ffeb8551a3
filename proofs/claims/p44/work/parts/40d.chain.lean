/-! The law's 'chain': the same rounds as the class's, until nothing is added. -/
theorem p_or0 (x : Int32) : x ||| 0 = x := b_ext fun i _ => by rw [b_or, b_0, Bool.or_false]
theorem p_bbt {f i : Nat} (hf : f < 31) (hi : i < 32) : bt (bbI f) i = (decide (i < 12) && (decide (i = ah f) || decide (i = bh f))) := by
  rw [q_bbb f hf i hi]
  by_cases c : i < 12
  · rw [p_bes f hf i c]; rfl
  · simp [c]
theorem p_meet {R : Int32} {f : Nat} (hf : f < 31) : ¬ (bbI f &&& R) = 0 ↔ (ah f < 12 ∧ bt R (ah f) = true) ∨ (bh f < 12 ∧ bt R (bh f) = true) := by
  constructor
  · intro h
    refine Classical.byContradiction fun q => h (q_zero.mpr fun i hi => ?_)
    rw [b_and, p_bbt hf hi]
    by_cases c : i < 12
    · by_cases a : i = ah f
      · have : bt R i = false := by
          cases hb : bt R i
          · rfl
          · exact (q (Or.inl ⟨by omega, by rw [← a]; exact hb⟩)).elim
        rw [this, Bool.and_false]
      · by_cases b : i = bh f
        · have : bt R i = false := by
            cases hb : bt R i
            · rfl
            · exact (q (Or.inr ⟨by omega, by rw [← b]; exact hb⟩)).elim
          rw [this, Bool.and_false]
        · simp [a, b]
    · simp [c]
  · intro h z
    rcases h with ⟨a, b⟩ | ⟨a, b⟩
    · have := q_zero.mp z (ah f) (by omega)
      rw [b_and, p_bbt hf (by omega), b] at this
      simp [a] at this
    · have := q_zero.mp z (bh f) (by omega)
      rw [b_and, p_bbt hf (by omega), b] at this
      simp [a] at this
theorem p_two2 {x : Int32} {f : Nat} (hf : f < 31) : wi (bbI f) (tws x) = true ↔ (ah f < 12 → tw x (ah f) = true) ∧ (bh f < 12 → tw x (bh f) = true) := by
  rw [q_wi]
  constructor
  · intro h
    refine ⟨fun a => ?_, fun a => ?_⟩
    · have := h (ah f) (by omega) (by rw [p_bbt hf (by omega)]; simp [a])
      rw [tws_bt (by omega)] at this
      simpa [a] using this
    · have := h (bh f) (by omega) (by rw [p_bbt hf (by omega)]; simp [a])
      rw [tws_bt (by omega)] at this
      simpa [a] using this
  · intro ⟨h1, h2⟩ i hi hb
    rw [p_bbt hf hi] at hb
    simp at hb
    rw [tws_bt hi]
    rcases hb.2 with e | e
    · have := h1 (by omega); rw [e, this]; simp; omega
    · have := h2 (by omega); rw [e, this]; simp; omega
def jo (x : Int32) (k : Nat) : Bool := !bt x k && (decide (ah k < 12) && (decide (bh k < 12) && (tw x (ah k) && tw x (bh k))))
def js (x R : Int32) (k : Nat) : Int32 := if jo x k then (if bt R (ah k) then st (st R (bh k)) (ah k) else if bt R (bh k) then st R (ah k) else R) else R
theorem js_gs {x R : Int32} {k : Nat} (hk : k < 31) : js x R k = gs x R k := by
  have hm := p_meet (R := R) hk
  have ht := p_two2 (x := x) hk
  unfold js gs
  by_cases d : bt x k = true
  · have j : jo x k = false := by unfold jo; rw [d]; rfl
    rw [j, if_neg (by simp), if_neg (fun q => by rw [d] at q; cases q.1)]
  have d : bt x k = false := by simpa using d
  by_cases hw : wi (bbI k) (tws x) = true
  · have hw2 := ht.mp hw
    by_cases a : ah k < 12
    · by_cases b : bh k < 12
      · have j : jo x k = true := by unfold jo; simp [d, a, b, hw2.1 a, hw2.2 b]
        rw [if_pos j]
        by_cases r : bt R (ah k) = true
        · rw [if_pos r, if_pos ⟨d, hm.mpr (Or.inl ⟨a, r⟩), hw⟩]
          refine b_ext fun i hi => ?_
          rw [q_st (by omega) hi, q_st (by omega) hi, b_or, p_bbt hk hi]
          by_cases e1 : i = ah k <;> by_cases e2 : i = bh k <;> by_cases e3 : i < 12 <;> simp [e1, e2, e3, a, b] <;> omega
        · by_cases r2 : bt R (bh k) = true
          · rw [if_neg r, if_pos r2, if_pos ⟨d, hm.mpr (Or.inr ⟨b, r2⟩), hw⟩]
            refine b_ext fun i hi => ?_
            rw [q_st (by omega) hi, b_or, p_bbt hk hi]
            by_cases e1 : i = ah k
            · simp [e1, a]
            · by_cases e2 : i = bh k
              · rw [e2, r2]; simp
              · simp [e1, e2]
          · rw [if_neg r, if_neg r2, if_neg]
            intro q
            rcases hm.mp q.2.1 with z | z
            · exact r z.2
            · exact r2 z.2
      · have j : jo x k = false := by unfold jo; simp [b]
        rw [j, if_neg (by simp)]
        by_cases q : ¬ (bbI k &&& R) = 0
        · rw [if_pos ⟨d, q, hw⟩]
          have r : bt R (ah k) = true := by
            rcases hm.mp q with z | z
            · exact z.2
            · exact (b z.1).elim
          refine b_ext fun i hi => ?_
          rw [b_or, p_bbt hk hi]
          by_cases e1 : i = ah k
          · rw [e1, r]; rfl
          · have : ¬ (i < 12 ∧ i = bh k) := fun z => by omega
            by_cases e3 : i < 12
            · have e2 : ¬ i = bh k := fun z => this ⟨e3, z⟩
              simp [e1, e2]
            · simp [e3]
        · rw [if_neg fun z => q z.2.1]
    · have j : jo x k = false := by unfold jo; simp [a]
      rw [j, if_neg (by simp)]
      by_cases q : ¬ (bbI k &&& R) = 0
      · rw [if_pos ⟨d, q, hw⟩]
        have hb2 : bh k < 12 ∧ bt R (bh k) = true := by
          rcases hm.mp q with z | z
          · exact (a z.1).elim
          · exact z
        refine b_ext fun i hi => ?_
        rw [b_or, p_bbt hk hi]
        by_cases e2 : i = bh k
        · rw [e2, hb2.2]; rfl
        · by_cases e3 : i < 12
          · have e1 : ¬ i = ah k := fun z => by omega
            simp [e1, e2]
          · simp [e3]
      · rw [if_neg fun z => q z.2.1]
  · have j : jo x k = false := by
      cases jj : jo x k
      · rfl
      · unfold jo at jj
        simp only [Bool.and_eq_true, decide_eq_true_eq] at jj
        exact (hw (ht.mpr ⟨fun _ => jj.2.2.2.1, fun _ => jj.2.2.2.2⟩)).elim
    rw [j, if_neg (by simp), if_neg fun z => hw z.2.2]
theorem p_t27 {x R : Int32} (r : Int32) {k : Nat} (hk : k < 31) : t_L_chain_27 x r (R, nI k) = some (.inl (gs x R k, nI (k + 1))) := by
  obtain ⟨h0, h1, la, lb, -⟩ := p_ab k hk
  rw [← js_gs hk]
  unfold t_L_chain_27 k_let
  rw [if_neg (show ¬ (31 : Int32) ≤ nI k from nI_ge (b := 31) hk (by decide))]
  refine (k_bs h0).trans ?_
  refine (k_bs h1).trans ?_
  refine (k_bs (a := if jo x k then 1 else 0) ?_).trans ?_
  · rw [q_bit1 (by omega)]
    unfold jo
    cases d : bt x k
    · rw [if_pos (by decide)]
      by_cases a : ah k < 12
      · rw [(p_bxp a).1, if_neg (p_bxp a).2]
        by_cases b : bh k < 12
        · rw [(p_bxp b).1, if_neg (p_bxp b).2]
          have ca := q_cn4 x (ah k)
          have cb := q_cn4 x (bh k)
          refine (k_bs (p_has a)).trans ?_
          by_cases ta : cn x (ah k) = 2
          · rw [if_pos (show _ = (2 : Int32) from (nI_eq (b := 2) (by omega) (by decide)).mpr ta)]
            refine (k_bs (p_has b)).trans ?_
            by_cases tb : cn x (bh k) = 2
            · rw [if_pos (show _ = (2 : Int32) from (nI_eq (b := 2) (by omega) (by decide)).mpr tb)]
              simp [a, b, tw, ta, tb]
            · rw [if_neg (show ¬ _ = (2 : Int32) from fun e => tb ((nI_eq (b := 2) (by omega) (by decide)).mp e))]
              simp [tw, tb]
          · rw [if_neg (show ¬ _ = (2 : Int32) from fun e => ta ((nI_eq (b := 2) (by omega) (by decide)).mp e))]
            simp [tw, ta]
        · rw [if_pos (p_bxn _ (by omega))]; simp [b]
      · rw [if_pos (p_bxn _ (by omega))]; simp [a]
    · rw [if_neg (by decide)]; rfl
  unfold js
  cases jj : jo x k
  · rw [nI_1]
    show some (Sum.inl ((R ||| 0) ||| 0, nI (k + 1))) = _
    rw [p_or0, p_or0]; rfl
  · have ab : ah k < 12 ∧ bh k < 12 := by
      unfold jo at jj
      simp only [Bool.and_eq_true, decide_eq_true_eq] at jj
      exact ⟨jj.2.1, jj.2.2.1⟩
    rw [(p_bxp ab.1).1, (p_bxp ab.2).1, nI_1]
    rw [if_neg (show ¬ (if true = true then (1 : Int32) else 0) = 0 by decide)]
    simp only [if_true]
    by_cases r1 : bt R (ah k) = true
    · refine (k_bs (a := (1 : Int32) <<< (nI (bh k) &&& 31)) ?_).trans ?_
      · rw [q_bit1 (by omega), r1]; rfl
      · refine (k_bs (a := (1 : Int32) <<< (nI (ah k) &&& 31)) ?_).trans ?_
        · show (if ((st R (bh k)) >>> _ &&& 1) = 1 then _ else _) = _
          rw [q_bit1 (by omega), q_st (by omega) (by omega)]
          simp
        · rw [if_pos r1]; rfl
    · have r1 : bt R (ah k) = false := by simpa using r1
      refine (k_bs (a := 0) ?_).trans ?_
      · rw [q_bit1 (by omega), r1]; rfl
      · rw [p_or0]
        by_cases r2 : bt R (bh k) = true
        · refine (k_bs (a := (1 : Int32) <<< (nI (ah k) &&& 31)) ?_).trans ?_
          · rw [q_bit1 (by omega), r2]; rfl
          · rw [r1, r2]; rfl
        · have r2 : bt R (bh k) = false := by simpa using r2
          refine (k_bs (a := 0) ?_).trans ?_
          · rw [q_bit1 (by omega), r2]; rfl
          · rw [r1, r2, p_or0]; rfl
theorem p_chin (x r R : Int32) : k_loop (t_L_chain_27 x r) 1000 (R, 0) = some (gr x R 31, nI 31) := by
  refine k_for (fun i => (gr x R i, nI i)) 31 _ ?_ ?_ 1000 (by decide)
  · intro i hi
    rw [p_t27 r hi]; rfl
  · unfold t_L_chain_27
    rw [if_pos (show (31 : Int32) ≤ nI 31 by decide)]
theorem aq_bits {x : Int32} {k : Nat} (hk : k < 12) : ∀ i, i < 32 → (bt (aq x k (aN x k)) i = true ↔ i < 12 ∧ Rch x k i) := by
  obtain ⟨hlt, hfix⟩ := aN_lt (x := x) hk
  generalize hN : aN x k = N at hlt hfix
  refine fun i hi => ⟨fun h => aq_in hk _ i hi h, fun ⟨hi12, hr⟩ => ?_⟩
  have := hr (fun i => i < 12 ∧ bt (aq x k N) i = true) ⟨hk, aq_k hk _⟩ (fun a b ha hb hp hj => ⟨hb, gr_fix (fun i _ => by rw [← aq_succ, hfix]) ha hb hp.2 hj⟩)
  exact this.2
/-- the boxes of the chain of b -/
def cs (x : Int32) (b : Nat) : Int32 := bld (fun i => tw x i && decide (lb x i = lb x b)) 12
theorem p_chl {x : Int32} (q : Nat → Int32) (hq : ∀ n, gr x (q n) 31 = q (n + 1)) (N : Nat) (hN : N < 12) (hfix : q (N + 1) = q N) (hne : ∀ i, i < N → ¬ q (i + 1) = q i) (h0 : ¬ q 0 = 0) : k_loop (t_L_chain_17 x) 1000 (q 0, 0) = some (q N, q N) := by
  have h := k_for (step := t_L_chain_17 x) (fun i => (q i, if i = 0 then (0 : Int32) else q (i - 1))) (N + 1) (q N, q N) ?_ ?_ 1000 (by omega)
  · exact h
  · intro i hi
    have hne : ¬ q i = if i = 0 then (0 : Int32) else q (i - 1) := by
      by_cases e : i = 0
      · subst e; exact h0
      · rw [if_neg e]
        have := hne (i - 1) (by omega)
        rw [show i - 1 + 1 = i by omega] at this
        exact this
    generalize (if i = 0 then (0 : Int32) else q (i - 1)) = w at hne ⊢
    rw [if_neg (show ¬ i + 1 = 0 by omega), show i + 1 - 1 = i by omega]
    unfold t_L_chain_17
    rw [if_neg hne]
    dsimp only
    rw [p_chin x, hq]
    rfl
  · rw [if_neg (show ¬ N + 1 = 0 by omega), show N + 1 - 1 = N by omega, hfix]
    unfold t_L_chain_17
    rw [if_pos rfl]
theorem p_chl2 {x : Int32} {b : Nat} (hb : b < 12) : k_loop (t_L_chain_17 x) 1000 (aq x b 0, 0) = some (aq x b (aN x b), aq x b (aN x b)) := by
  obtain ⟨hlt, hfix⟩ := aN_lt (x := x) hb
  refine p_chl (aq x b) (fun n => (aq_succ x b n).symm) (aN x b) hlt hfix (fun i hi => ?_) (fun q => ?_)
  · have := ff_not _ 12 i (show i < aN x b by omega)
    simpa using this
  · have := aq_k (x := x) hb 0
    rw [q, b_0] at this
    cases this
theorem p_aqcs {x : Int32} {b : Nat} (hb : b < 12) (tt : tw x b = true) : aq x b (aN x b) = cs x b := R_bld hb (aq_bits hb) tt
theorem p_chain {x : Int32} {b : Nat} (hb : b < 12) : f_L_chain x (nI b) = some (if tw x b then cs x b else 0) := by
  have hc := q_cn4 x b
  have h := p_chl2 (x := x) hb
  have e0 : aq x b 0 = (1 : Int32) <<< (nI b &&& 31) := rfl
  rw [e0] at h
  unfold f_L_chain k_let
  refine (k_bs (p_has hb)).trans ?_
  by_cases t : cn x b = 2
  · have tt : tw x b = true := by unfold tw; simp [t]
    rw [if_pos (show _ = (2 : Int32) from (nI_eq (b := 2) (by omega) (by decide)).mpr t), if_pos tt]
    rw [p_aqcs hb tt] at h
    dsimp only
    rw [h]
    rfl
  · have tt : tw x b = false := by unfold tw; simp [t]
    rw [if_neg (show ¬ _ = (2 : Int32) from fun e => t ((nI_eq (b := 2) (by omega) (by decide)).mp e)), tt]
    rfl
