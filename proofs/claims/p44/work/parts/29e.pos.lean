/-! Positions from a set of places on: both sides. -/
def posP (x : Int32) (P : Nat → Bool) : Int32 := bld (fun f => bt x f || P (un x f)) 31
theorem pos_bt {x : Int32} {P : Nat → Bool} {f : Nat} (hf : f < 32) : bt (posP x P) f = (decide (f < 31) && (bt x f || P (un x f))) := q_bld _ 31 (by omega) f hf
theorem pos_31 {x : Int32} {P : Nat → Bool} : bt (posP x P) 31 = false := by rw [pos_bt (by omega)]; rfl
theorem pos_cong {x : Int32} {P Q : Nat → Bool} (h : ∀ i, i < un x 31 → P i = Q i) : posP x P = posP x Q := by
  refine b_ext fun f hf => ?_
  rw [pos_bt hf, pos_bt hf]
  by_cases c : f < 31
  · cases hb : bt x f
    · rw [h _ (un_lt c hb)]
    · simp
  · simp [c]
theorem pos_none {x : Int32} (h31 : bt x 31 = false) {P : Nat → Bool} (h : ∀ i, i < un x 31 → P i = false) : posP x P = x := by
  refine b_ext fun f hf => ?_
  rw [pos_bt hf]
  by_cases c : f < 31
  · cases hb : bt x f
    · rw [h _ (un_lt c hb)]; simp
    · simp [c]
  · have : f = 31 := by omega
    subst this
    rw [h31]; rfl
theorem pos_st {x : Int32} {P : Nat → Bool} {f : Nat} (hf : f < 31) (hb : bt x f = false) : st (posP x P) f = posP x (fun i => P i || decide (i = un x f)) := by
  refine b_ext fun g hg => ?_
  rw [q_st (by omega) hg, pos_bt hg, pos_bt hg]
  by_cases c : g < 31
  · by_cases e : g = f
    · subst e; simp [c]
    · cases hbg : bt x g
      · have : ¬ un x g = un x f := fun q => e (un_inj hbg hb q)
        simp [c, e, this]
      · simp [c]
  · simp [c]; omega
