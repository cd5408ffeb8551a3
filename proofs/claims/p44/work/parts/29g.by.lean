/-! The model's worth, from the last fence back. -/
theorem c31_pos {x : Int32} {P : Nat → Bool} {f : Nat} (hf : f < 31) (hb : bt x f = false) (hP : P (un x f) = false) : c31 (posP x P) < 31 := by
  have h := c31_le (posP x P)
  refine Nat.lt_of_le_of_ne h fun e => ?_
  have := fb_ct_all.mp e f hf
  rw [pos_bt (by omega), hb, hP] at this
  simp at this
theorem pos_un {x : Int32} {P : Nat → Bool} {f : Nat} (hf : f < 31) (hb : bt (posP x P) f = false) : bt x f = false ∧ P (un x f) = false := by
  rw [pos_bt (by omega)] at hb
  simp only [Bool.and_eq_false_iff, decide_eq_false_iff_not, Bool.or_eq_false_iff] at hb
  rcases hb with h | h
  · exact absurd hf h
  · exact h
theorem pos_bt0 {x : Int32} {P : Nat → Bool} {f : Nat} (hf : f < 31) (hb : bt x f = false) (hP : P (un x f) = false) : bt (posP x P) f = false := by
  rw [pos_bt (by omega), hb, hP]; simp
/-- the model's row tells the worth of all masks above j -/
def wok (x : Int32) (W : Nat → Int32) (j : Nat) : Prop := ∀ m, j ≤ m → m < 2 ^ un x 31 → (W m).toInt = VV (posP x m.testBit)
theorem pw8 : ∀ n, n ≤ 8 → 2 ^ n ≤ 256 := by decide
theorem or_lt {m k n : Nat} (hm : m < 2 ^ n) (hk : k < n) : m ||| 2 ^ k < 2 ^ n := Nat.or_lt_two_pow hm (Nat.pow_lt_pow_right (by decide) hk)
