/-! The model's worth, from the last fence back. -/
theorem c31_pos {x : Int32} {P : Nat → Bool} {f : Nat} (hf : f < 31) (hb : bt x f = false) (hP : P (un x f) = false) : c31 (posP x P) < 31 := by
  have h := c31_le (posP x P)
  refine Nat.lt_of_le_of_ne h fun e => ?_
  have := fb_ct_all.mp e f hf
  rw [pos_bt (by omega), hb, hP] at this
  simp at this
theorem pos_un {x : Int32} {P : Nat → Bool} {f : Nat} (hf : f < 31) (hb : bt (posP x P) f = false) : bt x f = false ∧ P (un x f) = false := by
  rw [pos_bt (by omega)] at hb
  simp only [Bool.and_eq_false_iff, decide_eq_false_iff_not, Bool.or_eq_false_iff] at hb
  rcases hb with h | h
  · exact absurd hf h
  · exact h
theorem pos_bt0 {x : Int32} {P : Nat → Bool} {f : Nat} (hf : f < 31) (hb : bt x f = false) (hP : P (un x f) = false) : bt (posP x P) f = false := by
  rw [pos_bt (by omega), hb, hP]; simp
/-- the model's row tells the worth of all masks above j -/
def wok (x : Int32) (W : Nat → Int32) (j : Nat) : Prop := ∀ m, j ≤ m → m < 2 ^ un x 31 → (W m).toInt = VV (posP x m.testBit)
theorem pw8 : ∀ n, n ≤ 8 → 2 ^ n ≤ 256 := by decide
theorem or_lt {m k n : Nat} (hm : m < 2 ^ n) (hk : k < n) : m ||| 2 ^ k < 2 ^ n := Nat.or_lt_two_pow hm (Nat.pow_lt_pow_right (by decide) hk)
theorem q_by {m k : Nat} {rS rO rW : Nat → Int32} (h31 : bt (rS 0) 31 = false) (h8 : un (rS 0) 31 ≤ 8) (ho : opn (rS 0) rO) (hm : m < 2 ^ un (rS 0) 31) {f : Nat} (hf : f < 31) (hb : bt (rS 0) f = false) (hu : un (rS 0) f = k) (ht : m.testBit k = false) (hw : wok (rS 0) rW (m + 1)) : ∃ r : Int32, f_X8_by (nI m) (nI k) (nI (un (rS 0) 31)) rS rO rW = some r ∧ r.toInt = mv (posP (rS 0) m.testBit) f := by
  have hk : k < un (rS 0) 31 := by rw [← hu]; exact un_lt hf hb
  have h256 := pw8 _ h8
  obtain ⟨o1, o2, o3⟩ := tb_or m (by omega) k (by omega)
  have hwith := q_with (m := m) (by omega) h31 h8 ho
  have hcl := q_cl12 (posP (rS 0) m.testBit) f
  have hr : rO k = nI f := by rw [← hu]; exact ho f hf hb
  have hW : (rW (m ||| 2 ^ k)).toInt = VV (st (posP (rS 0) m.testBit) f) := by
    rw [hw _ (by have := o3 ht; omega) (or_lt hm hk), pos_st hf hb, hu]
    congr 1
    exact pos_cong fun i _ => tb_or2 m k i
  have hB := VV_b (st (posP (rS 0) m.testBit) f)
  have hcb := cb_le (st (posP (rS 0) m.testBit) f)
  have hclo : f_X8_closes (posP (rS 0) m.testBit) (nI f) = some (nI (cl (posP (rS 0) m.testBit) f)) := q_closes (by omega)
  have hk31 := nI_in (c := k) (N := 31) (by omega) (by decide)
  have hkc : (nI k).toNatClampNeg = k := nI_clamp (by omega)
  have hmk := nI_in (c := m ||| 2 ^ k) (N := 256) o2 (by decide)
  have hmc : (nI (m ||| 2 ^ k)).toNatClampNeg = m ||| 2 ^ k := nI_clamp (by omega)
  generalize posP (rS 0) m.testBit = y at *
  generalize hcf : cl y f = n at *
  refine ⟨if n = 0 then -(rW (m ||| 2 ^ k)) else nI n + rW (m ||| 2 ^ k), ?_, ?_⟩
  · unfold f_X8_by k_let
    refine (k_bs hwith).trans ?_
    rw [if_neg hk31, hkc, hr]
    refine (k_bs hclo).trans ?_
    rw [o1, if_neg hmk, hmc]
    dsimp only
    by_cases z : n = 0
    · rw [if_pos (show nI n ≤ (0 : Int32) by rw [z]; decide), if_pos z]
    · rw [if_neg (show ¬ nI n ≤ (0 : Int32) from nI_ge (a := 0) (by omega) (by omega)), if_neg z]
  · unfold mv
    rw [hcf]
    by_cases z : n = 0
    · rw [if_pos z, if_neg (by omega), fb_negI (by omega), hW]
    · rw [if_neg z, if_pos (by omega), q_aI (by omega) (by omega) (by omega), hW]
