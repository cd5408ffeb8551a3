/-! Chains: boxes joined, and the labels that the rounds give. -/
def btw (k j : Nat) : Nat := ff (fun f => bes f k && bes f j && k != j) 31
theorem btw_sym : ∀ k, k < 12 → ∀ j, j < 12 → btw k j = btw j k := by decide +kernel
def tw (x : Int32) (k : Nat) : Bool := decide (cn x k = 2)
/-- two boxes are joined -/
def jn (x : Int32) (k j : Nat) : Bool := decide (btw k j < 31) && (!bt x (btw k j) && (tw x k && tw x j))
theorem jn_sym {x : Int32} {k j : Nat} (hk : k < 12) (hj : j < 12) : jn x k j = jn x j k := by
  unfold jn
  rw [btw_sym k hk j hj, Bool.and_comm (tw x k)]
theorem jn_tw {x : Int32} {k j : Nat} (h : jn x k j = true) : tw x k = true ∧ tw x j = true := by
  unfold jn at h
  simp only [Bool.and_eq_true] at h
  exact h.2.2
/-- box j is reached from box k -/
def Rch (x : Int32) (k j : Nat) : Prop := ∀ P : Nat → Prop, P k → (∀ a b, a < 12 → b < 12 → P a → jn x a b = true → P b) → P j
theorem Rch.rf {x : Int32} {k : Nat} : Rch x k k := fun _ h _ => h
theorem Rch.tr {x : Int32} {a b c : Nat} (h1 : Rch x a b) (h2 : Rch x b c) : Rch x a c := fun P h hc => h2 P (h1 P h hc) hc
theorem Rch.edge {x : Int32} {a b : Nat} (ha : a < 12) (hb : b < 12) (h : jn x a b = true) : Rch x a b := fun _ hp hc => hc a b ha hb hp h
theorem Rch.lt {x : Int32} {a b : Nat} (ha : a < 12) (h : Rch x a b) : b < 12 := h (fun i => i < 12) ha (fun _ _ _ hb _ _ => hb)
theorem Rch.sym {x : Int32} {a b : Nat} (ha : a < 12) (h : Rch x a b) : Rch x b a := by
  have := h (fun i => i < 12 ∧ Rch x i a) ⟨ha, Rch.rf⟩ (fun c d hc hd hp hj => ⟨hd, Rch.tr (Rch.edge hd hc (by rw [jn_sym hd hc]; exact hj)) hp.2⟩)
  exact this.2
theorem Rch.two {x : Int32} {a b : Nat} (ht : tw x a = true) (h : Rch x a b) : tw x b = true := h (fun i => tw x i = true) ht (fun _ _ _ _ _ hj => (jn_tw hj).2)
theorem Rch.none {x : Int32} {a b : Nat} (ht : tw x a = false) (h : Rch x a b) : b = a := h (fun i => i = a) rfl (fun c d _ _ hp hj => by
  have := (jn_tw hj).1
  rw [hp, ht] at this; cases this)
/-- labels: one pair looked at, a whole round, some rounds -/
def sl (x : Int32) (la : Nat → Nat) (m : Nat) : Nat → Nat := if jn x (m / 12) (m % 12) = true ∧ la (m % 12) < la (m / 12) then fun k => if k = m / 12 then la (m % 12) else la k else la
def rl (x : Int32) (la : Nat → Nat) : Nat → Nat → Nat
  | 0 => la
  | m + 1 => sl x (rl x la m) m
def rd (x : Int32) : Nat → Nat → Nat
  | 0 => fun k => k
  | r + 1 => rl x (rd x r) 144
theorem rl_succ (x : Int32) (la : Nat → Nat) (m : Nat) : rl x la (m + 1) = sl x (rl x la m) m := rfl
theorem sl_le (x : Int32) (la : Nat → Nat) (m k : Nat) : sl x la m k ≤ la k := by
  unfold sl
  by_cases c : jn x (m / 12) (m % 12) = true ∧ la (m % 12) < la (m / 12)
  · rw [if_pos c]
    by_cases e : k = m / 12
    · subst e; simp only [if_true]; omega
    · simp only [if_neg e]; omega
  · rw [if_neg c]; exact Nat.le_refl _
theorem rl_le (x : Int32) (la : Nat → Nat) : ∀ m k, rl x la m k ≤ la k
  | 0, _ => Nat.le_refl _
  | m + 1, k => by rw [rl_succ]; exact Nat.le_trans (sl_le x _ m k) (rl_le x la m k)
theorem rl_mono (x : Int32) (la : Nat → Nat) (m : Nat) : ∀ d k, rl x la (m + d) k ≤ rl x la m k
  | 0, _ => Nat.le_refl _
  | d + 1, k => by
    rw [← Nat.add_assoc, rl_succ]
    exact Nat.le_trans (sl_le x _ _ k) (rl_mono x la m d k)
/-- a label lies in the chain -/
def lok (x : Int32) (la : Nat → Nat) : Prop := ∀ k, k < 12 → la k ≤ k ∧ Rch x k (la k)
theorem sl_ok {x : Int32} {la : Nat → Nat} {m : Nat} (hm : m < 144) (h : lok x la) : lok x (sl x la m) := by
  intro k hk
  refine ⟨Nat.le_trans (sl_le x la m k) (h k hk).1, ?_⟩
  unfold sl
  by_cases c : jn x (m / 12) (m % 12) = true ∧ la (m % 12) < la (m / 12)
  · rw [if_pos c]
    by_cases e : k = m / 12
    · subst e
      simp only [if_true]
      exact Rch.tr (Rch.edge hk (by omega) c.1) (h _ (by omega)).2
    · simp only [if_neg e]; exact (h k hk).2
  · rw [if_neg c]; exact (h k hk).2
theorem rl_ok {x : Int32} {la : Nat → Nat} (h : lok x la) : ∀ m, m ≤ 144 → lok x (rl x la m)
  | 0, _ => h
  | m + 1, hm => by rw [rl_succ]; exact sl_ok (by omega) (rl_ok h m (by omega))
theorem rd_ok (x : Int32) : ∀ r, lok x (rd x r)
  | 0 => fun k _ => ⟨Nat.le_refl _, Rch.rf⟩
  | r + 1 => rl_ok (rd_ok x r) 144 (Nat.le_refl _)
/-- a label is the least of its chain -/
def sett (x : Int32) (la : Nat → Nat) (k : Nat) : Prop := ∀ j, j < 12 → Rch x k j → la k ≤ j
theorem sett_round {x : Int32} {la : Nat → Nat} {k : Nat} (h : sett x la k) : sett x (rl x la 144) k := fun j hj hr => Nat.le_trans (rl_le x la 144 k) (h j hj hr)
theorem sett_next {x : Int32} {la : Nat → Nat} {k j : Nat} (hk : k < 12) (hj : j < 12) (h : sett x la j) (he : jn x k j = true) : sett x (rl x la 144) k := by
  intro i hi hr
  have h1 : rl x la (12 * k + j + 1) k ≤ rl x la (12 * k + j) j := by
    rw [rl_succ]
    unfold sl
    have e1 : (12 * k + j) / 12 = k := by omega
    have e2 : (12 * k + j) % 12 = j := by omega
    rw [e1, e2]
    by_cases c : rl x la (12 * k + j) j < rl x la (12 * k + j) k
    · rw [if_pos ⟨he, c⟩]; simp
    · rw [if_neg (fun q => c q.2)]; omega
  have h2 := rl_mono x la (12 * k + j + 1) (144 - (12 * k + j + 1)) k
  rw [show 12 * k + j + 1 + (144 - (12 * k + j + 1)) = 144 by omega] at h2
  have h3 := rl_le x la (12 * k + j) j
  have h4 := h i hi (Rch.tr (Rch.sym hk (Rch.edge hk hj he)) hr)
  omega
theorem sett_cross {x : Int32} {la : Nat → Nat} (hl : lok x la) {k : Nat} (hk : k < 12) (h : ¬ sett x la k) : ∃ a b, a < 12 ∧ b < 12 ∧ jn x a b = true ∧ ¬ sett x la a ∧ sett x la b := by
  refine Classical.byContradiction fun hx => ?_
  have hcl : ∀ a b, a < 12 → b < 12 → sett x la a → jn x a b = true → sett x la b := fun a b ha hb hs hj => Classical.byContradiction fun q => hx ⟨b, a, hb, ha, by rw [jn_sym hb ha]; exact hj, q, hs⟩
  have hmin : ∃ m, m < 12 ∧ Rch x k m ∧ ∀ j, j < 12 → Rch x k j → m ≤ j := by
    have aux : ∀ n, n ≤ 12 → (∃ i, i < n ∧ Rch x k i) → ∃ m, m < 12 ∧ Rch x k m ∧ ∀ j, j < 12 → Rch x k j → m ≤ j := by
      intro n
      induction n with
      | zero => intro _ ⟨i, hi, _⟩; exact absurd hi (Nat.not_lt_zero i)
      | succ n ih =>
        intro hn ⟨i, hi, hr⟩
        by_cases c : ∃ i, i < n ∧ Rch x k i
        · exact ih (by omega) c
        · refine ⟨i, by omega, hr, fun j hj hrj => ?_⟩
          refine Nat.not_lt.mp fun q => c ⟨j, by omega, hrj⟩
    exact aux 12 (Nat.le_refl _) ⟨k, hk, Rch.rf⟩
  obtain ⟨m, hm, hr, hle⟩ := hmin
  have hsm : sett x la m := fun j hj hrj => Nat.le_trans (hl m hm).1 (hle j hj (Rch.tr hr hrj))
  exact h (Rch.sym hk hr (fun i => sett x la i) hsm (fun a b ha hb hp hj => hcl a b ha hb hp hj))
theorem q_dc {p : Prop} : (@decide p (Classical.propDecidable p)) = true ↔ p := @decide_eq_true_iff p (Classical.propDecidable p)
theorem sett_all (x : Int32) : ∀ k, k < 12 → sett x (rd x 12) k := by
  let c : Nat → Nat := fun r => fb_ct (fun k => @decide (sett x (rd x r) k) (Classical.propDecidable _)) 12
  have hgrow : ∀ r, r ≤ 12 → (∀ k, k < 12 → sett x (rd x r) k) ∨ r + 1 ≤ c r := by
    intro r
    induction r with
    | zero =>
      intro _
      refine Or.inr ?_
      have : 0 < c 0 := fb_ct_pos.mpr ⟨0, by omega, by
        rw [q_dc]
        exact fun j _ _ => Nat.le_trans (rd_ok x 0 0 (by omega)).1 (Nat.zero_le j)⟩
      omega
    | succ r ih =>
      intro hr
      by_cases all : ∀ k, k < 12 → sett x (rd x r) k
      · exact Or.inl fun k hk => sett_round (all k hk)
      · rcases ih (by omega) with h | h
        · exact absurd h all
        · have hx : ∃ k, k < 12 ∧ ¬ sett x (rd x r) k := Classical.byContradiction fun q => all fun k hk => Classical.byContradiction fun q2 => q ⟨k, hk, q2⟩
          obtain ⟨k, hk, hns⟩ := hx
          obtain ⟨a, b, ha, hb, hj, hna, hsb⟩ := sett_cross (rd_ok x r) hk hns
          refine Or.inr ?_
          have h2 : c r + 1 ≤ c (r + 1) := by
            have u := fb_ct_upd (fun k => @decide (sett x (rd x r) k) (Classical.propDecidable _)) true ha
            have e0 : (@decide (sett x (rd x r) a) (Classical.propDecidable _)) = false := @decide_eq_false _ (Classical.propDecidable _) hna
            rw [e0] at u
            have s := fb_ct_sub (n := 12) (p := fun k => if k = a then true else @decide (sett x (rd x r) k) (Classical.propDecidable _)) (q := fun k => @decide (sett x (rd x (r + 1)) k) (Classical.propDecidable _)) (fun k hk hp => by
              rw [q_dc]
              by_cases e : k = a
              · subst e; exact sett_next ha hb hsb hj
              · rw [if_neg e, q_dc] at hp
                exact sett_round hp)
            simp only [Bool.false_eq_true, if_false, if_true] at u
            show fb_ct _ 12 + 1 ≤ fb_ct _ 12
            omega
          omega
  rcases hgrow 12 (Nat.le_refl _) with h | h
  · exact h
  · have := fb_ct_le (fun k => @decide (sett x (rd x 12) k) (Classical.propDecidable _)) 12
    exact absurd h (by show ¬ 12 + 1 ≤ fb_ct _ 12; omega)
/-- the label that a box gets -/
def lb (x : Int32) (k : Nat) : Nat := rd x 12 k
theorem lb_spec {x : Int32} {k : Nat} (hk : k < 12) : lb x k ≤ k ∧ Rch x k (lb x k) ∧ ∀ j, j < 12 → Rch x k j → lb x k ≤ j := ⟨(rd_ok x 12 k hk).1, (rd_ok x 12 k hk).2, sett_all x k hk⟩
theorem lb_same {x : Int32} {k j : Nat} (hk : k < 12) (hj : j < 12) : lb x k = lb x j ↔ Rch x k j := by
  have a := lb_spec (x := x) hk
  have b := lb_spec (x := x) hj
  constructor
  · intro e
    rw [e] at a
    exact Rch.tr a.2.1 (Rch.sym hj b.2.1)
  · intro h
    have h1 := a.2.2 _ (by omega) (Rch.tr h b.2.1)
    have h2 := b.2.2 _ (by omega) (Rch.tr (Rch.sym hk h) a.2.1)
    omega
/-- the model's row -/
def lab (x : Int32) (rC : Nat → Int32) (la : Nat → Nat) : Nat → Int32 := fun k => if k < 12 then (if tw x k then nI (la k) else -1) else rC k
