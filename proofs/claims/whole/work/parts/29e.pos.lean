/-! Positions from a set of places on: both sides. -/
def posP (x : Int32) (P : Nat → Bool) : Int32 := bld (fun f => bt x f || P (un x f)) 31
theorem pos_bt {x : Int32} {P : Nat → Bool} {f : Nat} (hf : f < 32) : bt (posP x P) f = (decide (f < 31) && (bt x f || P (un x f))) := q_bld _ 31 (by omega) f hf
theorem pos_31 {x : Int32} {P : Nat → Bool} : bt (posP x P) 31 = false := by rw [pos_bt (by omega)]; rfl
theorem pos_cong {x : Int32} {P Q : Nat → Bool} (h : ∀ i, i < un x 31 → P i = Q i) : posP x P = posP x Q := by
  refine b_ext fun f hf => ?_
  rw [pos_bt hf, pos_bt hf]
  by_cases c : f < 31
  · cases hb : bt x f
    · rw [h _ (un_lt c hb)]
    · simp
  · simp [c]
theorem pos_none {x : Int32} (h31 : bt x 31 = false) {P : Nat → Bool} (h : ∀ i, i < un x 31 → P i = false) : posP x P = x := by
  refine b_ext fun f hf => ?_
  rw [pos_bt hf]
  by_cases c : f < 31
  · cases hb : bt x f
    · rw [h _ (un_lt c hb)]; simp
    · simp [c]
  · have : f = 31 := by omega
    subst this
    rw [h31]; rfl
theorem pos_st {x : Int32} {P : Nat → Bool} {f : Nat} (hf : f < 31) (hb : bt x f = false) : st (posP x P) f = posP x (fun i => P i || decide (i = un x f)) := by
  refine b_ext fun g hg => ?_
  rw [q_st (by omega) hg, pos_bt hg, pos_bt hg]
  by_cases c : g < 31
  · by_cases e : g = f
    · subst e; simp [c]
    · cases hbg : bt x g
      · have : ¬ un x g = un x f := fun q => e (un_inj hbg hb q)
        simp [c, e, this]
      · simp [c]
  · simp [c]; omega
theorem q_with {m : Nat} (hm : m < 256) {rS rO : Nat → Int32} (h31 : bt (rS 0) 31 = false) (h8 : un (rS 0) 31 ≤ 8) (ho : opn (rS 0) rO) : f_X8_with (nI m) (nI (un (rS 0) 31)) rS rO = some (posP (rS 0) m.testBit) := by
  generalize hx : rS 0 = x at *
  let acc : Nat → Int32 := fun n => posP x (fun i => decide (i < n) && m.testBit i)
  have e0 : acc 0 = x := pos_none h31 (fun i _ => by simp)
  have hk := k_for (step := t_X8_with_9 (nI m) (nI (un x 31)) rO) (fun i => (acc i, nI i)) (un x 31) (acc (un x 31), nI (un x 31)) ?_ ?_ 1000 (by omega)
  · unfold f_X8_with k_let
    rw [hx]
    have e1 : acc (un x 31) = posP x m.testBit := pos_cong fun i hi => by simp [hi]
    rw [e0] at hk
    refine (k_bs hk).trans ?_
    rw [e1]
  · intro i hi
    obtain ⟨f, hf, hb, hu⟩ := un_kth hi
    have h1 : ¬ nI (un x 31) ≤ nI i := nI_ge hi (by omega)
    have e1 : nI i + 1 = nI (i + 1) := nI_1 i
    have hcl : (nI i).toNatClampNeg = i := nI_clamp (by omega)
    have hg := nI_in (c := i) (N := 31) (by omega) (by decide)
    have hr : rO i = nI f := by rw [← hu]; exact ho f hf hb
    have hsucc : acc (i + 1) = if m.testBit i then st (acc i) f else acc i := by
      cases ht : m.testBit i
      · rw [if_neg Bool.false_ne_true]
        refine pos_cong fun j _ => ?_
        by_cases e : j = i
        · subst e; simp [ht]
        · have : decide (j < i + 1) = decide (j < i) := by simp; omega
          rw [this]
      · rw [if_pos rfl]
        show _ = st (posP x _) f
        rw [pos_st hf hb, hu]
        refine pos_cong fun j _ => ?_
        by_cases e : j = i
        · subst e; simp [ht]
        · have : decide (j < i + 1) = decide (j < i) := by simp; omega
          rw [this]; simp [e]
    unfold t_X8_with_9 k_let
    dsimp only
    rw [if_neg h1, q_isIn (by omega), q_bt (by omega)]
    simp only [Option.bind_some]
    rw [hsucc, e1]
    cases ht : m.testBit i
    · rw [if_neg (c := false = true) Bool.false_ne_true, if_pos rfl, if_neg (c := false = true) Bool.false_ne_true, Int32.or_zero]
    · rw [if_pos (c := true = true) rfl, if_neg (by decide), if_neg hg, hcl, hr, if_pos (c := true = true) rfl]
      rfl
  · unfold t_X8_with_9
    dsimp only
    rw [if_pos (nI_le (Nat.le_refl _) (by omega))]
