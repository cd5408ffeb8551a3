/-! The model's worth of all masks. -/
theorem pos_full {x : Int32} {P : Nat → Bool} (h : ∀ i, i < un x 31 → P i = true) : c31 (posP x P) = 31 := fb_ct_all.mpr fun f hf => by
  rw [pos_bt (by omega)]
  cases hb : bt x f
  · rw [h _ (un_lt hf hb)]; simp [hf]
  · simp [hf]
theorem tb_all : ∀ n, n ≤ 8 → ∀ i, i < n → (2 ^ n - 1).testBit i = true := by decide +kernel
theorem tb_some : ∀ n, n ≤ 8 → ∀ m, m < 2 ^ n - 1 → ∃ i, i < n ∧ m.testBit i = false := by
  have h : ∀ n, n ≤ 8 → ∀ m, m < 2 ^ n - 1 → ∃ i : Fin n, m.testBit i.val = false := by decide +kernel
  intro n hn m hm
  obtain ⟨i, hi⟩ := h n hn m hm
  exact ⟨i.val, i.isLt, hi⟩
theorem sh_one : ∀ n, n ≤ 8 → ((1 : Int32) <<< (nI n &&& 31)) - 1 = nI (2 ^ n - 1) ∧ (1 : Int32) <<< (nI n &&& 31) = nI (2 ^ n) := by decide +kernel
theorem pw_pos : ∀ n, n ≤ 8 → 0 < 2 ^ n := by decide
