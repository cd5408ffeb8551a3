/-! Texts: the model's reading. -/
theorem q_isAt {t : Nat} {c : Nat → Nat} {r : Nat → Int32} (h : tx t c r) {p a b : Nat} (hp : p < 1000) (ha : a < 1000) (hb : b < 998) : f_X8_isAt (nI a) (nI b) (nI t) (nI p) r = some (if decide (a ≤ at' t c p) && decide (at' t c p ≤ b) then 1 else 0) := by
  have ht := h.1
  unfold f_X8_isAt f_X8_in at'
  by_cases q : p < t
  · have hc := h.2 p q
    rw [if_neg (nI_ge q (by omega)), if_neg (nI_in (c := p) (N := 60) (by omega) (by decide)), nI_clamp (by omega), hc.1]
    simp only [if_pos q]
    by_cases d : c p < a
    · rw [if_pos (nI_lt d (by omega)), decide_eq_false (by omega)]; rfl
    · rw [if_neg (nI_nlt (by omega) (by omega)), decide_eq_true (by omega)]
      by_cases e : b < c p
      · rw [if_pos (nI_lt e (by omega)), decide_eq_false (by omega)]; rfl
      · rw [if_neg (nI_nlt (by omega) (by omega)), decide_eq_true (by omega)]; rfl
  · rw [if_pos (nI_le (by omega) (by omega))]
    simp only [if_neg q]
    rw [decide_eq_false (show ¬ 999 ≤ b by omega), Bool.and_false]; rfl
theorem q_sign {t : Nat} {c : Nat → Nat} {r : Nat → Int32} (h : tx t c r) {p : Nat} (hp : p < 1000) : f_X8_sign 59 (nI t) (nI p) r = some (if at' t c p = 59 then 1 else 0, nI (p + if at' t c p = 59 then 1 else 0)) := by
  unfold f_X8_sign k_let
  have hi : f_X8_isAt 59 59 (nI t) (nI p) r = some (if decide (59 ≤ at' t c p) && decide (at' t c p ≤ 59) then 1 else 0) := q_isAt h (a := 59) (b := 59) hp (by omega) (by omega)
  rw [hi]
  simp only [Option.bind_some]
  have e : (decide (59 ≤ at' t c p) && decide (at' t c p ≤ 59)) = decide (at' t c p = 59) := by
    by_cases q : at' t c p = 59
    · rw [q]; rfl
    · rw [decide_eq_false q]
      by_cases z : 59 ≤ at' t c p
      · rw [decide_eq_false (show ¬ at' t c p ≤ 59 by omega), Bool.and_false]
      · rw [decide_eq_false z, Bool.false_and]
  rw [e]
  have z0 : nI p + 0 = nI (p + 0) := nI_add p 0
  have z1 : nI p + 1 = nI (p + 1) := nI_add p 1
  rw [z0, z1]
  by_cases q : at' t c p = 59
  · rw [decide_eq_true q, if_pos q, if_pos q, if_pos (c := true = true) rfl, if_neg (by decide), if_pos (Or.inr rfl)]
  · rw [decide_eq_false q, if_neg q, if_neg q, if_neg (c := false = true) Bool.false_ne_true, if_pos rfl, if_pos (Or.inl rfl)]
def accN (c : Nat → Nat) (q i : Nat) : Nat := if i = 0 then 0 else if i = 1 then c q - 48 else 10 * (c q - 48) + (c (q + 1) - 48)
theorem q_numbered {t : Nat} {c : Nat → Nat} {r : Nat → Int32} (h : tx t c r) {q : Nat} (hq : q < 800) (rN : Nat → Int32) : ∃ rN', f_X8_numbered 0 (nI t) (nI q) r rN = some (if dgs t c q = 0 then 0 else 1, nI (q + dgs t c q), rN') ∧ rN' 0 = nI (accN c q (dgs t c q)) := by
  have ht := h.1
  have hd := dgs_le t c q
  let row : Nat → Nat → Int32 := fun i j => if j = 0 then nI (accN c q i) else rN j
  have hdig : ∀ p, p < 1000 → f_X8_isAt 48 57 (nI t) (nI p) r = some (if dgb t c p then 1 else 0) := fun p hp => q_isAt h (a := 48) (b := 57) hp (by omega) (by omega)
  have h0 : (0 : Int32).toNatClampNeg = 0 := by decide
  have hg0 : ¬ ((0 : Int32) < 0 ∨ 2 ≤ (0 : Int32).toNatClampNeg) := by decide
  have hall : ∀ i, i < dgs t c q → dgb t c (q + i) = true := by
    intro i hi
    obtain ⟨_, b1, b2⟩ := dgs_c (t := t) (c := c) (p := q) (by omega)
    rcases (show i = 0 ∨ i = 1 by omega) with rfl | rfl
    · exact b1
    · exact b2 (by omega)
  have hstop : dgs t c q = 2 ∨ dgb t c (q + dgs t c q) = false := by
    unfold dgs
    cases ha : dgb t c q
    · exact Or.inr (by simpa using ha)
    · cases hb : dgb t c (q + 1)
      · exact Or.inr (by simpa using hb)
      · exact Or.inl (by simp)
  have hsub : ∀ i, i ≤ 2 → ((2 : Int32) ≤ nI (q + i) - nI q ↔ 2 ≤ i) := by
    intro i hi
    have e : nI (q + i) - nI q = nI i := by rw [Int32.sub_eq_iff_eq_add, nI_add, Nat.add_comm]
    rw [e]
    exact q_le (a := 2) (by decide) (by omega)
  have hk := k_for (step := t_X8_numbered_12 0 (nI q) (nI t) r) (fun i => (nI (q + i), row i)) (dgs t c q) (nI (q + dgs t c q), row (dgs t c q)) ?_ ?_ 1000 (by omega)
  · refine ⟨row (dgs t c q), ?_, if_pos rfl⟩
    unfold f_X8_numbered k_let
    have e0 : upd rN (0 : Int32).toNatClampNeg 0 = row 0 := by
      rw [h0]
      funext j
      rfl
    rw [if_neg hg0, e0]
    show ((k_loop (t_X8_numbered_12 0 (nI q) (nI t) r) 1000 (nI (q + 0), row 0)).bind _) = _
    rw [hk]
    simp only [Option.bind_some]
    by_cases z : dgs t c q = 0
    · rw [if_pos z, if_pos (nI_le (by omega) (by omega))]
    · rw [if_neg z, if_neg (nI_ge (by omega) (by omega))]
  · intro i hi
    have hb := hall i hi
    have hc := dgb_c hb
    unfold t_X8_numbered_12 k_let
    dsimp only
    rw [hdig _ (by omega), hb]
    simp only [Option.bind_some]
    rw [if_pos trivial, if_neg (by decide), if_neg (fun z => by have := (hsub i (by omega)).mp z; omega), if_neg hg0, if_neg (nI_in (c := q + i) (N := 60) (by omega) (by decide)), if_neg hg0, nI_1 (q + i), h0, nI_clamp (by omega), (h.2 _ hc.1).1]
    have hr0 : row i 0 = nI (accN c q i) := if_pos rfl
    rw [hr0, q_num1 hc.2.1]
    have hacc : 10 * accN c q i + (c (q + i) - 48) = accN c q (i + 1) := by
      rcases (show i = 0 ∨ i = 1 by omega) with rfl | rfl
      · show 10 * 0 + (c (q + 0) - 48) = c q - 48
        rw [Nat.add_zero]; omega
      · rfl
    have hrow : upd (row i) 0 (nI (10 * accN c q i + (c (q + i) - 48))) = row (i + 1) := by
      rw [hacc]
      funext j
      unfold upd
      by_cases e : j = 0
      · rw [if_pos e]; show _ = if j = 0 then _ else _; rw [if_pos e]
      · rw [if_neg e]; show (if j = 0 then _ else _) = if j = 0 then _ else _; rw [if_neg e, if_neg e]
    rw [hrow]; rfl
  · unfold t_X8_numbered_12
    dsimp only
    rw [hdig _ (by omega)]
    simp only [Option.bind_some]
    rcases hstop with e | e
    · have h2 := (hsub (dgs t c q) (by omega)).mpr (by omega)
      cases dgb t c (q + dgs t c q)
      · rw [if_neg (c := false = true) Bool.false_ne_true, if_pos rfl]
      · rw [if_pos (c := true = true) rfl, if_neg (by decide), if_pos h2]
    · rw [e, if_neg (c := false = true) Bool.false_ne_true, if_pos rfl]
/-- an order is of its form -/
def fmd (t : Nat) (c : Nat → Nat) (p : Nat) : Bool := (decide (at' t c p = 110) && decide (at' t c (p + 1) = 59)) || (decide (at' t c p = 102) && (!decide (dgs t c (p + 1) = 0) && decide (at' t c (p + 1 + dgs t c (p + 1)) = 59)))
theorem q_parses {t : Nat} {c : Nat → Nat} {r : Nat → Int32} (h : tx t c r) {p : Nat} (hp : p < t) (le : Int32) (rN : Nat → Int32) : ∃ le' rN', f_X8_parses (nI t) (nI p) le r rN = some (if fmd t c p then 1 else 0, nI (p + fitN t c p), le', rN') ∧ (fmd t c p = true → le' = nI (c p) ∧ (c p = 102 → rN' 0 = nI (numN c (p + 1) (dgs t c (p + 1))))) := by
  have ht := h.1
  have hc := h.2 p hp
  have hat : at' t c p = c p := if_pos hp
  have hd := dgs_le t c (p + 1)
  have hi : f_X8_isAt 33 126 (nI t) (nI p) r = some (if decide (33 ≤ at' t c p) && decide (at' t c p ≤ 126) then 1 else 0) := q_isAt h (a := 33) (b := 126) (by omega) (by omega) (by omega)
  unfold f_X8_parses k_let
  rw [hi, hat, decide_eq_true hc.2.2, Bool.and_true]
  simp only [Option.bind_some]
  unfold fmd fitN
  rw [hat]
  by_cases q : 33 ≤ c p
  · rw [decide_eq_true q, if_pos (c := true = true) rfl, if_neg (by decide), if_neg (nI_in (c := p) (N := 60) (by omega) (by decide)), nI_clamp (by omega), hc.1, nI_1 p]
    have e102 : (nI (c p) = (102 : Int32)) ↔ c p = 102 := nI_eq (b := 102) (by omega) (by omega)
    have e110 : (nI (c p) = (110 : Int32)) ↔ c p = 110 := nI_eq (b := 110) (by omega) (by omega)
    by_cases a : c p = 102
    · rw [if_pos (e102.mpr a), a, decide_eq_false (show ¬ 102 = 110 by omega), decide_eq_true (show 102 = 102 from rfl), if_neg (show ¬ 102 = 110 by omega), if_pos (show 102 = 102 from rfl)]
      simp only [Bool.false_and, Bool.false_or, Bool.true_and]
      obtain ⟨rN', e1, e2⟩ := q_numbered h (q := p + 1) (by omega) rN
      rw [e1]
      simp only [Option.bind_some]
      by_cases d : dgs t c (p + 1) = 0
      · rw [if_pos d, if_pos rfl, if_pos d, decide_eq_true d]
        refine ⟨nI 102, rN', ?_, fun z => by simp at z⟩
        rw [d]; rfl
      · rw [if_neg d, if_neg (by decide), q_sign h (by omega), if_neg d, decide_eq_false d]
        simp only [Option.bind_some]
        have hacc : accN c (p + 1) (dgs t c (p + 1)) = numN c (p + 1) (dgs t c (p + 1)) := by
          unfold accN numN; rw [if_neg d]
        by_cases z : at' t c (p + 1 + dgs t c (p + 1)) = 59
        · rw [if_pos z, if_pos z, if_neg (by decide), if_pos z, decide_eq_true z]
          refine ⟨nI 102, rN', ?_, fun _ => ⟨rfl, fun _ => by rw [e2, hacc]⟩⟩
          rw [show p + 1 + dgs t c (p + 1) + 1 = p + (dgs t c (p + 1) + 2) by omega]
          rfl
        · rw [if_neg z, if_neg z, if_pos rfl, if_neg z, decide_eq_false z]
          refine ⟨nI 102, rN', ?_, fun z => by simp at z⟩
          rw [show p + 1 + dgs t c (p + 1) + 0 = p + (dgs t c (p + 1) + 1) by omega]
          rfl
    · rw [if_neg (fun z => a (e102.mp z)), decide_eq_false a]
      by_cases b : c p = 110
      · rw [if_pos (e110.mpr b), b, decide_eq_true (show 110 = 110 from rfl), if_pos (show 110 = 110 from rfl), q_sign h (by omega)]
        simp only [Option.bind_some]
        by_cases z : at' t c (p + 1) = 59
        · rw [if_pos z, if_pos z, if_pos (Or.inr rfl), if_pos z, decide_eq_true z]
          exact ⟨nI 110, rN, rfl, fun _ => ⟨rfl, fun z => by omega⟩⟩
        · rw [if_neg z, if_neg z, if_pos (Or.inl rfl), if_neg z, decide_eq_false z]
          exact ⟨nI 110, rN, rfl, fun z => by simp at z⟩
      · rw [if_neg (fun z => b (e110.mp z)), decide_eq_false b, if_neg b, if_neg a]
        exact ⟨_, _, rfl, fun z => by simp at z⟩
  · have h32 : c p = 32 := by omega
    rw [decide_eq_false q, if_neg (c := false = true) Bool.false_ne_true, if_pos rfl, h32]
    exact ⟨0, rN, rfl, fun z => by simp at z⟩
