/-! The relation goes on: a new game, a fence. -/
theorem rel_new {g : k_G8} {f : Int32} {c t : Nat → Int32} (h : Rel g f c t) : Rel (beG g) 0 (clr c 12) (upd t 0 0) := by
  obtain ⟨-, -, -, -, -, -, -, -, -, e1, e2, e3, e4⟩ := h
  have hc : ∀ k, k < 12 → clr c 12 k = -1 := fun k hk => if_pos hk
  refine ⟨rfl, b_0 31, fun k hk => Or.inl (hc k hk), fun k hk => ?_, fun k hk => ?_, fun k _ _ => ⟨b_0 k, b_0 k⟩, fun k hk => ?_, Or.inl upd_eq, upd_eq.symm, e1, e2, e3, e4⟩
  · rw [hc k hk]; exact b_0 k
  · rw [hc k hk]; exact b_0 k
  · rw [hc k hk, cn_0]; exact ⟨fun _ => by omega, fun _ => rfl⟩
theorem ow_at {c : Nat → Int32} {y v : Int32} {b k : Nat} (hk : k < 12) : ow1 c y b v k = if k = b ∧ cn y k = 4 then v else c k := by
  unfold ow1
  by_cases h : b < 12 ∧ cn y b = 4
  · rw [if_pos h]
    by_cases e : k = b
    · subst e; rw [upd_eq, if_pos ⟨rfl, h.2⟩]
    · rw [upd_ne e, if_neg fun q => e q.1]
  · rw [if_neg h, if_neg]
    rintro ⟨rfl, q⟩
    exact h ⟨hk, q⟩
/-- the owners behind the fence f -/
def oc (x : Int32) (f : Nat) (t c : Nat → Int32) : Nat → Int32 := if cl x f = 0 then c else ow1 (ow1 c (st x f) (ah f) (t 0)) (st x f) (bh f) (t 0)
theorem oc_at {x : Int32} {f k : Nat} {t c : Nat → Int32} (hf : f < 31) (hx : bt x f = false) (hk : k < 12) : oc x f t c k = if bes f k = true ∧ cn x k = 3 then t 0 else c k := by
  unfold oc
  have hcn := q_cnst hk hf hx
  by_cases z : cl x f = 0
  · rw [if_pos z, if_neg]
    rintro ⟨a, b⟩
    have := fb_ct_zero.mp z k hk
    rw [a, b] at this
    simp at this
  · rw [if_neg z, ow_at hk, ow_at hk]
    have hb := p_bes f hf k hk
    by_cases e1 : k = bh f
    · have hbb : bes f k = true := by rw [hb]; simp [e1]
      rw [hbb] at hcn
      by_cases q : cn x k = 3
      · rw [if_pos ⟨e1, by rw [hcn, q]; rfl⟩, if_pos ⟨hbb, q⟩]
      · have q4 : ¬ cn (st x f) k = 4 := fun r => q (by rw [hcn] at r; simpa using r)
        rw [if_neg fun r => q4 r.2, if_neg fun r => q4 r.2, if_neg fun r => q r.2]
    · rw [if_neg fun r => e1 r.1]
      by_cases e2 : k = ah f
      · have hbb : bes f k = true := by rw [hb]; simp [e2]
        rw [hbb] at hcn
        by_cases q : cn x k = 3
        · rw [if_pos ⟨e2, by rw [hcn, q]; rfl⟩, if_pos ⟨hbb, q⟩]
        · have q4 : ¬ cn (st x f) k = 4 := fun r => q (by rw [hcn] at r; simpa using r)
          rw [if_neg fun r => q4 r.2, if_neg fun r => q r.2]
      · have hbb : bes f k = false := by rw [hb]; simp [e1, e2]
        rw [if_neg fun r => e2 r.1, if_neg fun r => by rw [hbb] at r; cases r.1]
def t1 (x : Int32) (f : Nat) (t : Nat → Int32) : Nat → Int32 := upd (upd t 0 (if cl x f = 0 then 1 - t 0 else t 0)) 4 (upd t 0 (if cl x f = 0 then 1 - t 0 else t 0) 4 + (if cl x f = 2 then 1 else 0))
theorem t1_at (x : Int32) (f : Nat) (t : Nat → Int32) : t1 x f t 0 = (if cl x f = 0 then 1 - t 0 else t 0) ∧ t1 x f t 1 = t 1 ∧ t1 x f t 2 = t 2 ∧ t1 x f t 3 = t 3 ∧ t1 x f t 4 = t 4 + (if cl x f = 2 then 1 else 0) := by
  unfold t1
  refine ⟨?_, ?_, ?_, ?_, ?_⟩
  · rw [upd_ne (by decide), upd_eq]
  · rw [upd_ne (by decide), upd_ne (by decide)]
  · rw [upd_ne (by decide), upd_ne (by decide)]
  · rw [upd_ne (by decide), upd_ne (by decide)]
  · rw [upd_eq, upd_ne (by decide)]
theorem rel_put {g : k_G8} {x cc : Int32} {f : Nat} {c t : Nat → Int32} (h : Rel g x c t) (hf : f < 31) (hx : bt x f = false) (hcc : ∀ i, i < 32 → bt cc i = (decide (i < 12) && (bes f i && decide (cn x i = 3)))) : Rel (puG g f cc) (st x f) (oc x f t c) (t1 x f t) := by
  obtain ⟨rfl, h31, hc, ho0, ho1, hhi, hcn, ht, e0, e1, e2, e3, e4⟩ := h
  obtain ⟨u0, u1, u2, u3, u4⟩ := t1_at g.1 f t
  have hoc := fun (k : Nat) (hk : k < 12) => oc_at (x := g.1) (f := f) (k := k) (t := t) (c := c) hf hx hk
  have hst := fun (k : Nat) (hk : k < 12) => q_cnst (x := g.1) (f := f) (k := k) hk hf hx
  have hc3 : ∀ k, k < 12 → cn g.1 k = 3 → c k = -1 := fun k hk q => (hcn k hk).mpr (by omega)
  refine ⟨rfl, ?_, fun k hk => ?_, fun k hk => ?_, fun k hk => ?_, fun k h1 h2 => ?_, fun k hk => ?_, ?_, ?_, ?_, ?_, ?_, ?_⟩
  · rw [q_st (by omega) (by omega), h31]
    have : ¬ 31 = f := by omega
    simp [this]
  · rw [hoc k hk]
    split
    · exact Or.inr ht
    · exact hc k hk
  · show bt (if g.2.2.2.1 = 0 then g.2.1 ||| cc else g.2.1) k = _
    rw [hoc k hk, e0]
    by_cases m : t 0 = 0
    · rw [if_pos m, b_or, ho0 k hk, hcc k (by omega)]
      by_cases q : bes f k = true ∧ cn g.1 k = 3
      · rw [if_pos q, m, q.1, q.2]; simp [hk]
      · rw [if_neg q]
        have : (bes f k && decide (cn g.1 k = 3)) = false := by
          cases r : (bes f k && decide (cn g.1 k = 3))
          · rfl
          · simp only [Bool.and_eq_true, decide_eq_true_eq] at r; exact (q r).elim
        rw [this]; simp
    · rw [if_neg m, ho0 k hk]
      by_cases q : bes f k = true ∧ cn g.1 k = 3
      · rw [if_pos q, hc3 k hk q.2]
        simp [m]
      · rw [if_neg q]
  · show bt (if g.2.2.2.1 = 0 then g.2.2.1 else g.2.2.1 ||| cc) k = _
    rw [hoc k hk, e0]
    by_cases m : t 0 = 0
    · rw [if_pos m, ho1 k hk]
      by_cases q : bes f k = true ∧ cn g.1 k = 3
      · rw [if_pos q, hc3 k hk q.2, m]; decide
      · rw [if_neg q]
    · have m1 : t 0 = 1 := ht.resolve_left m
      rw [if_neg m, b_or, ho1 k hk, hcc k (by omega)]
      by_cases q : bes f k = true ∧ cn g.1 k = 3
      · rw [if_pos q, m1, q.1, q.2]; simp [hk]
      · rw [if_neg q]
        have : (bes f k && decide (cn g.1 k = 3)) = false := by
          cases r : (bes f k && decide (cn g.1 k = 3))
          · rfl
          · simp only [Bool.and_eq_true, decide_eq_true_eq] at r; exact (q r).elim
        rw [this]; simp
  · have hz : bt cc k = false := by rw [hcc k h2]; have : ¬ k < 12 := by omega
                                    simp [this]
    obtain ⟨a, b⟩ := hhi k h1 h2
    constructor
    · show bt (if g.2.2.2.1 = 0 then g.2.1 ||| cc else g.2.1) k = false
      split
      · rw [b_or, a, hz]; rfl
      · exact a
    · show bt (if g.2.2.2.1 = 0 then g.2.2.1 else g.2.2.1 ||| cc) k = false
      split
      · exact b
      · rw [b_or, b, hz]; rfl
  · rw [hoc k hk, hst k hk]
    by_cases q : bes f k = true ∧ cn g.1 k = 3
    · rw [if_pos q, q.1, q.2]
      constructor
      · intro r
        rcases ht with s | s <;> rw [s] at r <;> exact absurd r (by decide)
      · intro r; exact (r rfl).elim
    · rw [if_neg q, hcn k hk]
      have h4 := q_cn4 (st g.1 f) k
      rw [hst k hk] at h4
      cases hb : bes f k
      · simp
      · rw [hb] at h4 q
        have : ¬ cn g.1 k = 3 := fun r => q ⟨rfl, r⟩
        have h41 : (true : Bool).toNat = 1 := rfl
        rw [h41] at h4 ⊢
        constructor
        · intro _; omega
        · intro _; omega
  · rw [u0]
    rcases ht with s | s <;> rw [s] <;> split <;> simp
  · show (if cl g.1 f = 0 then 1 - g.2.2.2.1 else g.2.2.2.1) = _
    rw [u0, e0]
  · show g.2.2.2.2.1 = _
    rw [u1, e1]
  · show g.2.2.2.2.2.1 = _
    rw [u2, e2]
  · show g.2.2.2.2.2.2.1 = _
    rw [u3, e3]
  · show (if cl g.1 f = 2 then g.2.2.2.2.2.2.2 + 1 else g.2.2.2.2.2.2.2) = _
    rw [u4, e4]
    split
    · rfl
    · exact (Int32.add_zero _).symm
def wi3 (m : Int32) : Nat := if m ≤ 0 then (if 0 ≤ m then 3 else 2) else 1
theorem rel_end {g : k_G8} {x : Int32} {c t : Nat → Int32} (h : Rel g x c t) (hfull : c31 x = 31) : Rel (seG g) x c (upd t (wi3 (mr c 12)) (t (wi3 (mr c 12)) + 1)) := by
  obtain ⟨rfl, h31, hc, ho0, ho1, hhi, hcn, ht, e0, e1, e2, e3, e4⟩ := h
  have hall : ∀ k, k < 12 → cn g.1 k = 4 := fun k hk => by
    have hb := fb_ct_all.mp hfull
    have hv := q_vl k hk
    unfold cn
    rw [hb k (by omega), hb (k + 4) (by omega), hb (vl k) (by omega), hb (vl k + 1) (by omega)]
    rfl
  have n1 : q_n g.2.1 = fb_ct (fun k => decide (c k = 0)) 12 := by
    rw [q_n12 fun k hk hb => by
      rcases Nat.lt_or_ge k 12 with d | d
      · exact d
      · rw [(hhi k d hk).1] at hb; cases hb]
    exact fb_ct_cong fun k hk => ho0 k hk
  have n2 : q_n g.2.2.1 = fb_ct (fun k => !decide (c k = 0)) 12 := by
    rw [q_n12 fun k hk hb => by
      rcases Nat.lt_or_ge k 12 with d | d
      · exact d
      · rw [(hhi k d hk).2] at hb; cases hb]
    refine fb_ct_cong fun k hk => ?_
    rw [ho1 k hk]
    rcases hc k hk with e | e | e
    · exact ((hcn k hk).mp e (hall k hk)).elim
    · rw [e]; rfl
    · rw [e]; rfl
  have hs := fb_ct_not (fun k => decide (c k = 0)) 12
  have hm := mr_t c 12 (Nat.le_refl _)
  rw [← n1] at hm hs
  rw [← n2] at hs
  have z0 : ((0 : Int32)).toInt = 0 := rfl
  by_cases a : q_n g.2.1 ≤ q_n g.2.2.1
  · have m1 : mr c 12 ≤ 0 := (fa_le _ _).mpr (by rw [hm, z0]; omega)
    by_cases b : q_n g.2.2.1 ≤ q_n g.2.1
    · have m2 : (0 : Int32) ≤ mr c 12 := (fa_le _ _).mpr (by rw [hm, z0]; omega)
      have w : wi3 (mr c 12) = 3 := by unfold wi3; rw [if_pos m1, if_pos m2]
      have s : seG g = (g.1, g.2.1, g.2.2.1, g.2.2.2.1, g.2.2.2.2.1, g.2.2.2.2.2.1, g.2.2.2.2.2.2.1 + 1, g.2.2.2.2.2.2.2) := by unfold seG; rw [if_pos a, if_pos b]
      rw [w, s]
      exact ⟨rfl, h31, hc, ho0, ho1, hhi, hcn, by rw [upd_ne (by decide)]; exact ht, by rw [upd_ne (by decide)]; exact e0, by rw [upd_ne (by decide)]; exact e1, by rw [upd_ne (by decide)]; exact e2, by rw [upd_eq, ← e3], by rw [upd_ne (by decide)]; exact e4⟩
    · have m2 : ¬ (0 : Int32) ≤ mr c 12 := fun q => by have := (fa_le _ _).mp q; rw [hm, z0] at this; omega
      have w : wi3 (mr c 12) = 2 := by unfold wi3; rw [if_pos m1, if_neg m2]
      have s : seG g = (g.1, g.2.1, g.2.2.1, g.2.2.2.1, g.2.2.2.2.1, g.2.2.2.2.2.1 + 1, g.2.2.2.2.2.2.1, g.2.2.2.2.2.2.2) := by unfold seG; rw [if_pos a, if_neg b]
      rw [w, s]
      exact ⟨rfl, h31, hc, ho0, ho1, hhi, hcn, by rw [upd_ne (by decide)]; exact ht, by rw [upd_ne (by decide)]; exact e0, by rw [upd_ne (by decide)]; exact e1, by rw [upd_eq, ← e2], by rw [upd_ne (by decide)]; exact e3, by rw [upd_ne (by decide)]; exact e4⟩
  · have m1 : ¬ mr c 12 ≤ 0 := fun q => by have := (fa_le _ _).mp q; rw [hm, z0] at this; omega
    have w : wi3 (mr c 12) = 1 := by unfold wi3; rw [if_neg m1]
    have s : seG g = (g.1, g.2.1, g.2.2.1, g.2.2.2.1, g.2.2.2.2.1 + 1, g.2.2.2.2.2.1, g.2.2.2.2.2.2.1, g.2.2.2.2.2.2.2) := by unfold seG; rw [if_neg a]
    rw [w, s]
    exact ⟨rfl, h31, hc, ho0, ho1, hhi, hcn, by rw [upd_ne (by decide)]; exact ht, by rw [upd_ne (by decide)]; exact e0, by rw [upd_eq, ← e1], by rw [upd_ne (by decide)]; exact e2, by rw [upd_ne (by decide)]; exact e3, by rw [upd_ne (by decide)]; exact e4⟩
