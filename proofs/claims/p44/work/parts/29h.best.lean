/-! The model's best of a mask. -/
/-- the best so far, over the places below n -/
def bsf (x y : Int32) (n : Nat) (b : Int) : Prop := (∀ f, f < 31 → bt y f = false → bt x f = false → un x f < n → mv y f ≤ b) ∧ (b = -99 ∨ ∃ f, f < 31 ∧ bt y f = false ∧ b = mv y f)
theorem bsf_end {x y : Int32} {b : Int} (hxy : ∀ f, f < 31 → bt y f = false → bt x f = false) (hfull : c31 y < 31) (h : bsf x y (un x 31) b) : b = VV y := by
  obtain ⟨f, hf, hb, e⟩ := VV_ex hfull
  have h1 := h.1 f hf hb (hxy f hf hb) (un_lt hf (hxy f hf hb))
  have h2 := mv_b hf hb
  have h3 := cb_le y
  rcases h.2 with q | ⟨g, hg, hgb, q⟩
  · omega
  · have := VV_ge hg hgb
    omega
theorem bsf_skip {x y : Int32} {n : Nat} {b : Int} (h : bsf x y n b) (hs : ∀ f, f < 31 → bt x f = false → un x f = n → bt y f = true) : bsf x y (n + 1) b := by
  refine ⟨fun f hf hb hx hu => ?_, h.2⟩
  by_cases e : un x f = n
  · have := hs f hf hx e
    rw [hb] at this; cases this
  · exact h.1 f hf hb hx (by omega)
theorem bsf_take {x y : Int32} {n : Nat} {b : Int} {f : Nat} (h : bsf x y n b) (hf : f < 31) (hb : bt y f = false) (hx : bt x f = false) (hu : un x f = n) : bsf x y (n + 1) (if b < mv y f then mv y f else b) := by
  have same : ∀ g, bt x g = false → un x g = n → g = f := fun g hg e => un_inj hg hx (by omega)
  by_cases c : b < mv y f
  · rw [if_pos c]
    refine ⟨fun g hg hgb hgx hgu => ?_, Or.inr ⟨f, hf, hb, rfl⟩⟩
    by_cases e : un x g = n
    · rw [same g hgx e]; exact Int.le_refl _
    · have := h.1 g hg hgb hgx (by omega)
      omega
  · rw [if_neg c]
    refine ⟨fun g hg hgb hgx hgu => ?_, h.2⟩
    by_cases e : un x g = n
    · rw [same g hgx e]; omega
    · exact h.1 g hg hgb hgx (by omega)
