/-! The law's 'isRing'. -/
def ot (b k : Nat) : Nat := if k = 0 then (if 4 ≤ b then b - 4 else 12) else if k = 1 then (if b + 4 < 12 then b + 4 else 12) else if k = 2 then (if b % 4 ≠ 0 then b - 1 else 12) else (if b % 4 ≠ 3 then b + 1 else 12)
theorem p_ot : ∀ b, b < 12 → ∀ k, k < 4 → (if bx (ah (sd b k)) = nI b then bx (bh (sd b k)) else bx (ah (sd b k))) = bx (ot b k) ∧ ot b k ≤ 12 ∧ (ot b k < 12 → btw b (ot b k) = sd b k) := by decide +kernel
theorem cs_bt {x : Int32} {a i : Nat} (hi : i < 32) : bt (cs x a) i = (decide (i < 12) && (tw x i && decide (lb x i = lb x a))) := q_bld _ 12 (by omega) i hi
theorem cs_n {x : Int32} {a : Nat} : q_n (cs x a) = gt x (lb x a) := q_nbld (by omega)
def en (x S : Int32) (b k : Nat) : Bool := !bt x (sd b k) && (decide (ot b k < 12) && bt S (ot b k))
theorem p_r28 {x S u : Int32} {b n k : Nat} (hb : b < 12) (hk : k < 4) (hS : bt S b = true) : t_L_isRing_28 x S u (nI b) (nI n, nI k) = some (.inl (nI (n + (en x S b k).toNat), nI (k + 1))) := by
  obtain ⟨o1, o2, -⟩ := p_ot b hb k hk
  have hs := (p_sd b hb k hk).1
  obtain ⟨h0, h1, -, -, -⟩ := p_ab (sd b k) hs
  unfold t_L_isRing_28 k_let
  rw [if_neg (show ¬ (4 : Int32) ≤ nI k from nI_ge (b := 4) hk (by decide)), q_bit1 (by omega), hS]
  rw [if_pos (show (if true = true then (1 : Int32) else 0) = 1 by decide)]
  refine (k_bs (p_side b hb k hk)).trans ?_
  refine (k_bs h0).trans ?_
  refine (k_bs (a := bx (ot b k)) ?_).trans ?_
  · rw [← o1]
    by_cases e : bx (ah (sd b k)) = nI b
    · rw [if_pos e, if_pos e]; exact k_bs h1
    · rw [if_neg e, if_neg e]; exact k_bs h0
  · refine (k_bs (a := nI (en x S b k).toNat) ?_).trans ?_
    · rw [q_bit1 (by omega)]
      unfold en
      cases bt x (sd b k)
      · rw [if_pos (by decide)]
        by_cases c : ot b k < 12
        · rw [(p_bxp c).1, if_neg (p_bxp c).2, q_bit1 (by omega)]
          cases hb2 : bt S (ot b k) <;> simp [c] <;> rfl
        · rw [if_pos (p_bxn _ (by omega))]; simp [c]; rfl
      · rw [if_neg (by decide)]; rfl
    · show some (Sum.inl (nI n + nI _, nI k + 1)) = _
      rw [nI_add, nI_1]
theorem p_rin {x S u : Int32} {b : Nat} (hb : b < 12) (hS : bt S b = true) : k_loop (t_L_isRing_28 x S u (nI b)) 1000 (0, 0) = some (nI ((en x S b 0).toNat + (en x S b 1).toNat + (en x S b 2).toNat + (en x S b 3).toNat), nI 4) := by
  refine k_for (fun i => (nI (if i = 0 then 0 else if i = 1 then (en x S b 0).toNat else if i = 2 then (en x S b 0).toNat + (en x S b 1).toNat else if i = 3 then (en x S b 0).toNat + (en x S b 1).toNat + (en x S b 2).toNat else (en x S b 0).toNat + (en x S b 1).toNat + (en x S b 2).toNat + (en x S b 3).toNat), nI i)) 4 _ ?_ ?_ 1000 (by decide)
  · intro i hi
    match i, hi with
    | 0, _ => rw [p_r28 hb (k := 0) (by omega) hS]; simp
    | 1, _ => exact p_r28 hb (k := 1) (by omega) hS
    | 2, _ => exact p_r28 hb (k := 2) (by omega) hS
    | 3, _ => exact p_r28 hb (k := 3) (by omega) hS
  · unfold t_L_isRing_28
    rw [if_pos (show (4 : Int32) ≤ nI 4 by decide)]
    rfl
theorem p_rout {x S u : Int32} {b : Nat} (hb : b < 12) (hS : bt S b = false) : k_loop (t_L_isRing_28 x S u (nI b)) 1000 (0, 0) = some (0, 0) := by
  show (t_L_isRing_28 x S u (nI b) (0, 0)).bind _ = _
  refine (k_bs (a := Sum.inr (0, 0)) ?_).trans rfl
  unfold t_L_isRing_28
  rw [if_neg (show ¬ (4 : Int32) ≤ 0 by decide), q_bit1 (by omega), hS]
  rfl
theorem p_en {x : Int32} {a b k : Nat} (ha : a < 12) (hb : b < 12) (hk : k < 4) (hS : bt (cs x a) b = true) : en x (cs x a) b k = (!bt x (sd b k) && (decide (ot b k < 12) && tw x (ot b k))) := by
  obtain ⟨-, -, o3⟩ := p_ot b hb k hk
  rw [cs_bt (by omega)] at hS
  simp only [Bool.and_eq_true, decide_eq_true_eq] at hS
  obtain ⟨-, tb, lbb⟩ := hS
  unfold en
  by_cases c : ot b k < 12
  · rw [cs_bt (by omega)]
    cases d : bt x (sd b k)
    · cases t : tw x (ot b k)
      · simp
      · have hj : jn x b (ot b k) = true := by
          have hs := (p_sd b hb k hk).1
          unfold jn
          rw [o3 c, d, tb, t]
          simp [hs]
        have := (lb_same hb c).mpr (Rch.edge hb c hj)
        simp [c, ← this, lbb]
    · rfl
  · simp [c]
theorem p_dg {x : Int32} {a b : Nat} (ha : a < 12) (hb : b < 12) (hS : bt (cs x a) b = true) : (en x (cs x a) b 0).toNat + (en x (cs x a) b 1).toNat + (en x (cs x a) b 2).toNat + (en x (cs x a) b 3).toNat = dg x b := by
  have tb : tw x b = true := by
    rw [cs_bt (by omega)] at hS
    simp only [Bool.and_eq_true, decide_eq_true_eq] at hS
    exact hS.2.1
  rw [p_en ha hb (by omega) hS, p_en ha hb (by omega) hS, p_en ha hb (by omega) hS, p_en ha hb (by omega) hS, dg_val hb tb]
  have e0 : (decide (ot b 0 < 12) && tw x (ot b 0)) = eT x b := by
    unfold eT ot
    by_cases c : 4 ≤ b
    · have : b - 4 < 12 := by omega
      simp [c, this]
    · simp [c]
  have e1 : (decide (ot b 1 < 12) && tw x (ot b 1)) = eB x b := by
    unfold eB ot
    by_cases c : b + 4 < 12
    · simp [c]
    · simp [c]
  have e2 : (decide (ot b 2 < 12) && tw x (ot b 2)) = eL x b := by
    unfold eL ot
    by_cases c : b % 4 = 0
    · simp [c]
    · have : b - 1 < 12 := by omega
      simp [c, this]
  have e3 : (decide (ot b 3 < 12) && tw x (ot b 3)) = eR x b := by
    unfold eR ot
    by_cases c : b % 4 = 3
    · simp [c]
    · have : b + 1 < 12 := by omega
      simp [c, this]
  rw [e0, e1, e2, e3]
  rfl
theorem p_isRing {x : Int32} {a : Nat} (ha : a < 12) (ta : tw x a = true) (hl : lb x a = a) : f_L_isRing x (cs x a) = some (if rg x a then 1 else 0) := by
  have hg : gt x a ≤ 12 := fb_ct_le _ 12
  unfold f_L_isRing
  refine (k_bs (p_count _)).trans ?_
  rw [cs_n, hl]
  refine (k_bs (a := if decide (4 ≤ gt x a) then 1 else 0) ?_).trans ?_
  · by_cases c : gt x a ≤ 3
    · rw [if_pos (show nI (gt x a) ≤ 3 from nI_le (b := 3) c (by decide))]
      have : ¬ 4 ≤ gt x a := by omega
      simp [this]
    · rw [if_neg (show ¬ nI (gt x a) ≤ 3 from nI_ge (a := 3) (by omega) (by omega))]
      have : 4 ≤ gt x a := by omega
      simp [this]
  · have h := k_for (step := t_L_isRing_16 x (cs x a)) (fun i => ((if decide (4 ≤ gt x a) && decide (od x a i = 0) then (1 : Int32) else 0), nI i)) 12 ((if rg x a then 1 else 0), nI 12) ?_ ?_ 1000 (by decide)
    · have e : ((if decide (4 ≤ gt x a) && decide (od x a 0 = 0) then (1 : Int32) else 0), nI 0) = ((if decide (4 ≤ gt x a) then 1 else 0), 0) := by
        have : od x a 0 = 0 := rfl
        rw [this]; simp; rfl
      rw [e] at h
      refine (k_bs h).trans ?_
      rw [if_pos (p_b01 _)]
    · intro i hi
      unfold t_L_isRing_16
      rw [if_neg (show ¬ (12 : Int32) ≤ nI i from nI_ge (b := 12) hi (by decide))]
      have ho : od x a (i + 1) = od x a i + (if ((tw x i && decide (lb x i = a)) && !decide (dg x i = 2)) = true then 1 else 0) := rfl
      have hc := cs_bt (x := x) (a := a) (i := i) (by omega)
      rw [hl] at hc
      have hd : dg x i ≤ 12 := fb_ct_le _ 12
      cases hS : bt (cs x a) i
      · have hz : (tw x i && decide (lb x i = a)) = false := by
          rw [hc] at hS
          simpa [hi] using hS
        refine (k_bs (p_rout hi hS)).trans ?_
        rw [ho, hz]
        refine (k_bs (a := if decide (4 ≤ gt x a) && decide (od x a i = 0) then 1 else 0) ?_).trans (by rw [nI_1]; rfl)
        cases decide (4 ≤ gt x a) && decide (od x a i = 0)
        · rfl
        · rw [if_neg (show ¬ (if true = true then (1 : Int32) else 0) = 0 by decide), q_bit1 (by omega), hS]
          rfl
      · have hz : (tw x i && decide (lb x i = a)) = true := by
          rw [hc] at hS
          simpa [hi] using hS
        refine (k_bs (p_rin hi hS)).trans ?_
        rw [p_dg ha hi hS, ho, hz]
        refine (k_bs (a := if decide (4 ≤ gt x a) && decide (od x a i + (if (true && !decide (dg x i = 2)) = true then 1 else 0) = 0) then 1 else 0) ?_).trans (by rw [nI_1])
        by_cases c : decide (4 ≤ gt x a) = true ∧ od x a i = 0
        · rw [if_neg (by rw [c.1, c.2]; show ¬ (1 : Int32) = 0; decide), q_bit1 (by omega), hS, if_neg (by decide), c.1, c.2]
          by_cases d : dg x i = 2
          · rw [if_pos (show _ = (2 : Int32) from (nI_eq (b := 2) (by omega) (by decide)).mpr d)]; simp [d]
          · rw [if_neg (show ¬ _ = (2 : Int32) from fun e => d ((nI_eq (b := 2) (by omega) (by decide)).mp e))]; simp [d]
        · have e1 : (decide (4 ≤ gt x a) && decide (od x a i = 0)) = false := by
            cases q : (decide (4 ≤ gt x a) && decide (od x a i = 0))
            · rfl
            · simp only [Bool.and_eq_true, decide_eq_true_eq] at q
              exact (c ⟨by simpa using q.1, q.2⟩).elim
          have e2 : (decide (4 ≤ gt x a) && decide (od x a i + (if (true && !decide (dg x i = 2)) = true then 1 else 0) = 0)) = false := by
            cases q : (decide (4 ≤ gt x a) && decide (od x a i + (if (true && !decide (dg x i = 2)) = true then 1 else 0) = 0))
            · rfl
            · simp only [Bool.and_eq_true, decide_eq_true_eq] at q
              exact (c ⟨by simpa using q.1, by omega⟩).elim
          rw [e1, e2]; rfl
    · unfold t_L_isRing_16
      rw [if_pos (show (12 : Int32) ≤ nI 12 by decide)]
      rfl
