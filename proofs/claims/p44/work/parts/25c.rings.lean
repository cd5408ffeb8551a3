/-! How many chains, rings, long ones: both sides. -/
theorem rch_lb {x : Int32} {a i : Nat} (ha : a < 12) (hi : i < 12) (ht : tw x a = true) : Rch x a i ↔ (tw x i = true ∧ lb x i = lb x a) := by
  constructor
  · intro h; exact ⟨Rch.two ht h, ((lb_same ha hi).mpr h).symm⟩
  · intro h; exact (lb_same ha hi).mp h.2.symm
theorem lb_tw {x : Int32} {a : Nat} (ha : a < 12) (ht : tw x a = true) : lb x a < 12 ∧ tw x (lb x a) = true ∧ lb x (lb x a) = lb x a := by
  have h := lb_spec (x := x) ha
  have hl : lb x a < 12 := by omega
  exact ⟨hl, Rch.two ht h.2.1, ((lb_same ha hl).mpr h.2.1).symm⟩
/-- how many boxes have the label a -/
def gt (x : Int32) (a : Nat) : Nat := fb_ct (fun i => tw x i && decide (lb x i = a)) 12
theorem lab_eq {x : Int32} {rC : Nat → Int32} {i a : Nat} (hi : i < 12) (ha : a < 12) : lab x rC (lb x) i = nI a ↔ (tw x i && decide (lb x i = a)) = true := by
  unfold lab
  rw [if_pos hi]
  have h := lb_spec (x := x) hi
  cases ht : tw x i
  · rw [if_neg Bool.false_ne_true]
    have h1 : ∀ a, a < 12 → (-1 : Int32) ≠ nI a := by decide +kernel
    simp [h1 a ha]
  · rw [if_pos rfl, nI_eq (by omega) (by omega)]; simp
/-- how many boxes are joined to one -/
def dg (x : Int32) (k : Nat) : Nat := fb_ct (jn x k) 12
/-- some box labelled a has not just two beside it -/
def od (x : Int32) (a : Nat) : Nat → Nat := fb_ct (fun k => (tw x k && decide (lb x k = a)) && !decide (dg x k = 2))
def rg (x : Int32) (a : Nat) : Bool := decide (4 ≤ gt x a) && decide (od x a 12 = 0)
/-- the four boxes beside a box -/
theorem btw_val : ∀ i, i < 12 → ∀ j, j < 12 → btw i j = if j + 4 = i then i else if j = i + 4 then i + 4 else if j + 1 = i ∧ i % 4 ≠ 0 then vl i else if j = i + 1 ∧ i % 4 ≠ 3 then vl i + 1 else 31 := by decide +kernel
def eT (x : Int32) (i : Nat) : Bool := decide (4 ≤ i) && tw x (i - 4)
def eB (x : Int32) (i : Nat) : Bool := decide (i + 4 < 12) && tw x (i + 4)
def eL (x : Int32) (i : Nat) : Bool := decide (i % 4 ≠ 0) && tw x (i - 1)
def eR (x : Int32) (i : Nat) : Bool := decide (i % 4 ≠ 3) && tw x (i + 1)
theorem jn_val {x : Int32} {i j : Nat} (hi : i < 12) (hj : j < 12) (ht : tw x i = true) : jn x i j = (((((!bt x i && eT x i) && j == i - 4) || ((!bt x (i + 4) && eB x i) && j == i + 4)) || ((!bt x (vl i) && eL x i) && j == i - 1)) || ((!bt x (vl i + 1) && eR x i) && j == i + 1)) := by
  have v := q_vl i hi
  unfold jn eT eB eL eR
  rw [btw_val i hi j hj, ht]
  by_cases c1 : j + 4 = i
  · have e1 : j = i - 4 := by omega
    rw [if_pos c1, decide_eq_true (show i < 31 by omega), decide_eq_true (show 4 ≤ i by omega), ← e1, beq_self_eq_true, beq_false_of_ne (show j ≠ i + 4 by omega), beq_false_of_ne (show j ≠ i - 1 by omega), beq_false_of_ne (show j ≠ i + 1 by omega)]
    simp
  · rw [if_neg c1]
    have n1 : (j == i - 4 && decide (4 ≤ i)) = false := by
      by_cases h : j = i - 4
      · simp; intro _; omega
      · simp [h]
    have f1 : ((!bt x i && (decide (4 ≤ i) && tw x (i - 4))) && j == i - 4) = false := by
      cases h1 : (j == i - 4) <;> cases h2 : decide (4 ≤ i) <;> simp_all
    rw [f1, Bool.false_or]
    by_cases c2 : j = i + 4
    · rw [if_pos c2, decide_eq_true (show i + 4 < 31 by omega), decide_eq_true (show i + 4 < 12 by omega), c2, beq_self_eq_true, beq_false_of_ne (show i + 4 ≠ i - 1 by omega), beq_false_of_ne (show i + 4 ≠ i + 1 by omega)]
      simp
    · rw [if_neg c2, beq_false_of_ne c2, Bool.and_false, Bool.false_or]
      by_cases c3 : j + 1 = i ∧ i % 4 ≠ 0
      · have e3 : j = i - 1 := by omega
        rw [if_pos c3, decide_eq_true (show vl i < 31 by omega), decide_eq_true c3.2, ← e3, beq_self_eq_true, beq_false_of_ne (show j ≠ i + 1 by omega)]
        simp
      · rw [if_neg c3]
        have f3 : ((!bt x (vl i) && (decide (i % 4 ≠ 0) && tw x (i - 1))) && j == i - 1) = false := by
          by_cases h : j = i - 1
          · have : ¬ i % 4 ≠ 0 := fun q => c3 ⟨by omega, q⟩
            rw [decide_eq_false this]; simp
          · rw [beq_false_of_ne h]; simp
        rw [f3, Bool.false_or]
        by_cases c4 : j = i + 1 ∧ i % 4 ≠ 3
        · rw [if_pos c4, decide_eq_true (show vl i + 1 < 31 by omega), decide_eq_true c4.2, c4.1, beq_self_eq_true]
          simp
        · rw [if_neg c4]
          have f4 : ((!bt x (vl i + 1) && (decide (i % 4 ≠ 3) && tw x (i + 1))) && j == i + 1) = false := by
            by_cases h : j = i + 1
            · have : ¬ i % 4 ≠ 3 := fun q => c4 ⟨h, q⟩
              rw [decide_eq_false this]; simp
            · rw [beq_false_of_ne h]; simp
          rw [f4]; simp
theorem q_ctc (c : Bool) (a : Nat) {n : Nat} : fb_ct (fun i => c && i == a) n = if a < n then c.toNat else 0 := q_ct1 (fun _ => c) a n
theorem dg_val {x : Int32} {i : Nat} (hi : i < 12) (ht : tw x i = true) : dg x i = (!bt x i && eT x i).toNat + (!bt x (i + 4) && eB x i).toNat + (!bt x (vl i) && eL x i).toNat + (!bt x (vl i + 1) && eR x i).toNat := by
  unfold dg
  rw [fb_ct_cong (fun j hj => jn_val hi hj ht), fb_ct_or, fb_ct_or, fb_ct_or, q_ctc, q_ctc, q_ctc, q_ctc, if_pos (show i - 4 < 12 by omega), if_pos (show i - 1 < 12 by omega)]
  · have h2 : (if i + 4 < 12 then (!bt x (i + 4) && eB x i).toNat else 0) = (!bt x (i + 4) && eB x i).toNat := by
      by_cases c : i + 4 < 12
      · rw [if_pos c]
      · rw [if_neg c]; unfold eB; rw [decide_eq_false c]; simp
    have h4 : (if i + 1 < 12 then (!bt x (vl i + 1) && eR x i).toNat else 0) = (!bt x (vl i + 1) && eR x i).toNat := by
      by_cases c : i + 1 < 12
      · rw [if_pos c]
      · rw [if_neg c]; unfold eR; rw [decide_eq_false (show ¬ i % 4 ≠ 3 by omega)]; simp
    rw [h2, h4]
  · intro k _ h
    have h1 : (eT x i && k == i - 4) = true ∧ k = i + 4 := by
      simp only [Bool.and_eq_true, beq_iff_eq] at h ⊢
      exact ⟨⟨h.1.1.2, h.1.2⟩, h.2.2⟩
    simp only [eT, Bool.and_eq_true, beq_iff_eq, decide_eq_true_eq] at h1
    omega
  · intro k _ h
    simp only [eT, eL, Bool.and_eq_true, Bool.or_eq_true, beq_iff_eq, decide_eq_true_eq, ne_eq] at h
    rcases h with ⟨(h | h), h2⟩ <;> omega
  · intro k _ h
    simp only [eT, eL, eB, eR, Bool.and_eq_true, Bool.or_eq_true, beq_iff_eq, decide_eq_true_eq, ne_eq] at h
    rcases h with ⟨((h | h) | h), h2⟩ <;> omega
theorem dg_two {x : Int32} {i : Nat} (hi : i < 12) (ht : tw x i = true) : dg x i = 2 ↔ ((bt x i = false → eT x i = true) ∧ (bt x (i + 4) = false → eB x i = true) ∧ (bt x (vl i) = false → eL x i = true) ∧ (bt x (vl i + 1) = false → eR x i = true)) := by
  rw [dg_val hi ht]
  have h2 : cn x i = 2 := of_decide_eq_true ht
  unfold cn at h2
  exact (by decide : ∀ a b c d e f g h : Bool, a.toNat + b.toNat + c.toNat + d.toNat = 2 → ((!a && e).toNat + (!b && f).toNat + (!c && g).toNat + (!d && h).toNat = 2 ↔ ((a = false → e = true) ∧ (b = false → f = true) ∧ (c = false → g = true) ∧ (d = false → h = true)))) _ _ _ _ _ _ _ _ h2
