/-! The cases of the law: chains. -/
def cAll (x : Int32) : Nat := fb_ct (isL x) 12
def cK (x : Int32) (c : Nat) : Nat := fb_ct (fun k => isL x k && decide (kd x k = c)) 12
theorem q_odd : ∀ n, n < 13 → (nI n &&& 1) = nI n - nI n / 2 * 2 := by decide +kernel
