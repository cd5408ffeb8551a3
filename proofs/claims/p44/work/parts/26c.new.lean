/-! The model's draw; new games; the row copied. -/
theorem upd_ne {f : Nat → Int32} {k j : Nat} {x : Int32} (h : j ≠ k) : upd f k x j = f j := if_neg h
theorem upd_eq {f : Nat → Int32} {k : Nat} {x : Int32} : upd f k x k = x := if_pos rfl
def beG (g : k_G8) : k_G8 := (0, 0, 0, 0, g.2.2.2.2.1, g.2.2.2.2.2.1, g.2.2.2.2.2.2.1, g.2.2.2.2.2.2.2)
theorem cn_0 (k : Nat) : cn 0 k = 0 := by unfold cn; rw [b_0, b_0, b_0, b_0]; rfl
theorem q_begin {g : k_G8} : f_X2_begin g = some (beG g) := rfl
def brow (s : Nat → Int32) (n : Nat) : Nat → Int32 := fun j => if 1 ≤ j ∧ j ≤ n then 0 else if j = 0 ∨ j = 18 ∨ j = 13 then 0 else s j
