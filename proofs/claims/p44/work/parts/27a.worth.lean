/-! The worth of an end. -/
def vmx (p : Nat → Bool) (v : Nat → Int) : Nat → Int
  | 0 => -99
  | n + 1 => if p n = true ∧ vmx p v n < v n then v n else vmx p v n
theorem vmx_succ (p : Nat → Bool) (v : Nat → Int) (n : Nat) : vmx p v (n + 1) = if p n = true ∧ vmx p v n < v n then v n else vmx p v n := rfl
theorem vmx_ge {p : Nat → Bool} {v : Nat → Int} : ∀ {n f : Nat}, f < n → p f = true → v f ≤ vmx p v n
  | 0, _, h, _ => absurd h (Nat.not_lt_zero _)
  | n + 1, f, h, hp => by
    rw [vmx_succ]
    by_cases e : f = n
    · subst e
      by_cases c : p f = true ∧ vmx p v f < v f
      · rw [if_pos c]; exact Int.le_refl _
      · rw [if_neg c]; exact Int.not_lt.mp fun q => c ⟨hp, q⟩
    · have ih := vmx_ge (p := p) (v := v) (n := n) (f := f) (by omega) hp
      by_cases c : p n = true ∧ vmx p v n < v n
      · rw [if_pos c]; omega
      · rw [if_neg c]; exact ih
theorem vmx_is {p : Nat → Bool} {v : Nat → Int} : ∀ n, (∃ f, f < n ∧ p f = true ∧ vmx p v n = v f) ∨ vmx p v n = -99
  | 0 => Or.inr rfl
  | n + 1 => by
    rw [vmx_succ]
    by_cases c : p n = true ∧ vmx p v n < v n
    · rw [if_pos c]; exact Or.inl ⟨n, by omega, c.1, rfl⟩
    · rw [if_neg c]
      rcases vmx_is (p := p) (v := v) n with ⟨f, h1, h2, h3⟩ | h
      · exact Or.inl ⟨f, by omega, h2, h3⟩
      · exact Or.inr h
theorem vmx_cong {p q : Nat → Bool} {v w : Nat → Int} : ∀ {n : Nat}, (∀ f, f < n → p f = q f ∧ (p f = true → v f = w f)) → vmx p v n = vmx q w n
  | 0, _ => rfl
  | n + 1, h => by
    have ih := vmx_cong (n := n) (fun f hf => h f (by omega))
    have hn := h n (by omega)
    rw [vmx_succ, vmx_succ, ih, ← hn.1]
    by_cases c : p n = true
    · rw [hn.2 c]
    · rw [if_neg (fun q => c q.1), if_neg (fun q => c q.1)]
def val : Nat → Int32 → Int
  | 0, _ => 0
  | n + 1, y => vmx (fun f => !bt y f) (fun f => if 0 < cl y f then (cl y f : Int) + val n (st y f) else - val n (st y f)) 31
/-- what the mover gets above the other, from a set of drawn fences on -/
def VV (y : Int32) : Int := val (31 - c31 y) y
/-- by one fence -/
def mv (y : Int32) (f : Nat) : Int := if 0 < cl y f then (cl y f : Int) + VV (st y f) else - VV (st y f)
theorem VV_full {y : Int32} (h : c31 y = 31) : VV y = 0 := by unfold VV; rw [h]; rfl
theorem VV_step {y : Int32} (h : c31 y < 31) : VV y = vmx (fun f => !bt y f) (mv y) 31 := by
  unfold VV
  obtain ⟨n, hn⟩ : ∃ n, 31 - c31 y = n + 1 := ⟨30 - c31 y, by omega⟩
  rw [hn]
  show vmx _ _ 31 = _
  refine vmx_cong fun f hf => ⟨rfl, fun hb => ?_⟩
  have hb2 : bt y f = false := by simpa using hb
  have hv : VV (st y f) = val n (st y f) := by
    unfold VV
    rw [q_c31 hf hb2, show 31 - (c31 y + 1) = n by omega]
  unfold mv
  rw [hv]
theorem cb_le (x : Int32) : cb x ≤ 12 := fb_ct_le _ 12
theorem VV_some {y : Int32} (h : c31 y < 31) : ∃ f, f < 31 ∧ bt y f = false := by
  refine Classical.byContradiction fun q => ?_
  have : c31 y = 31 := fb_ct_all.mpr fun k hk => by
    cases hb : bt y k
    · exact absurd ⟨k, hk, hb⟩ q
    · rfl
  omega
theorem VV_bound : ∀ (n : Nat) (y : Int32), 31 - c31 y ≤ n → -(12 - (cb y : Int)) ≤ VV y ∧ VV y ≤ 12 - (cb y : Int)
  | 0, y, h => by
    have h31 := c31_le y
    have := cb_le y
    rw [VV_full (by omega)]
    omega
  | n + 1, y, h => by
    have h31 := c31_le y
    have hcb := cb_le y
    by_cases c : c31 y = 31
    · rw [VV_full c]; omega
    · have hm : ∀ f, f < 31 → bt y f = false → -(12 - (cb y : Int)) ≤ mv y f ∧ mv y f ≤ 12 - (cb y : Int) := by
        intro f hf hb
        have ih := VV_bound n (st y f) (by rw [q_c31 hf hb]; omega)
        rw [q_cb hf hb] at ih
        have := cb_le (st y f)
        rw [q_cb hf hb] at this
        unfold mv
        by_cases z : 0 < cl y f
        · rw [if_pos z]; omega
        · rw [if_neg z]; omega
      obtain ⟨f0, hf0, hb0⟩ := VV_some (y := y) (by omega)
      rw [VV_step (by omega)]
      have h1 := vmx_ge (p := fun f => !bt y f) (v := mv y) hf0 (by rw [hb0]; rfl)
      have h2 := hm f0 hf0 hb0
      rcases vmx_is (p := fun f => !bt y f) (v := mv y) 31 with ⟨f, a1, a2, a3⟩ | h3
      · have := hm f a1 (by simpa using a2)
        rw [a3]; exact this
      · omega
theorem VV_b (y : Int32) : -(12 - (cb y : Int)) ≤ VV y ∧ VV y ≤ 12 - (cb y : Int) := VV_bound _ y (Nat.le_refl _)
theorem mv_b {y : Int32} {f : Nat} (hf : f < 31) (hb : bt y f = false) : -(12 - (cb y : Int)) ≤ mv y f ∧ mv y f ≤ 12 - (cb y : Int) := by
  have ih := VV_b (st y f)
  rw [q_cb hf hb] at ih
  have := cb_le (st y f)
  rw [q_cb hf hb] at this
  unfold mv
  by_cases z : 0 < cl y f
  · rw [if_pos z]; omega
  · rw [if_neg z]; omega
theorem VV_ge {y : Int32} {f : Nat} (hf : f < 31) (hb : bt y f = false) : mv y f ≤ VV y := by
  have h : c31 y < 31 := by
    have h31 := c31_le y
    refine Nat.lt_of_le_of_ne h31 fun e => ?_
    have := fb_ct_all.mp e f hf
    rw [hb] at this; cases this
  rw [VV_step h]
  exact vmx_ge (p := fun f => !bt y f) hf (by rw [hb]; rfl)
theorem VV_ex {y : Int32} (h : c31 y < 31) : ∃ f, f < 31 ∧ bt y f = false ∧ VV y = mv y f := by
  obtain ⟨f0, hf0, hb0⟩ := VV_some h
  have h1 := mv_b hf0 hb0
  have h2 := VV_ge hf0 hb0
  have h3 := cb_le y
  rcases vmx_is (p := fun f => !bt y f) (v := mv y) 31 with ⟨f, a1, a2, a3⟩ | h4
  · exact ⟨f, a1, by simpa using a2, by rw [VV_step h]; exact a3⟩
  · rw [VV_step h] at h2; omega
