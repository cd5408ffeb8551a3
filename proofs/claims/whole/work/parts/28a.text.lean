/-! Texts: what stands at a place, and how far an order fits: class. -/
def tx (t : Nat) (c : Nat → Nat) (r : Nat → Int32) : Prop := t ≤ 60 ∧ ∀ i, i < t → r i = nI (c i) ∧ 32 ≤ c i ∧ c i ≤ 126
def at' (t : Nat) (c : Nat → Nat) (p : Nat) : Nat := if p < t then c p else 999
def atI (t : Nat) (c : Nat → Nat) (p : Nat) : Int32 := if p < t then nI (c p) else -1
theorem atI_is {t : Nat} {c : Nat → Nat} {r : Nat → Int32} (h : tx t c r) (p : Nat) {k : Nat} (hk : k < 127) : atI t c p = nI k ↔ at' t c p = k := by
  unfold atI at'
  by_cases q : p < t
  · rw [if_pos q, if_pos q, nI_eq (by have := h.2 p q; omega) (by omega)]
  · rw [if_neg q, if_neg q]
    have hl : ∀ k, k < 127 → (-1 : Int32) ≠ nI k := by decide +kernel
    exact ⟨fun e => absurd e (hl k hk), fun e => by omega⟩
theorem q_at {t : Nat} {c : Nat → Nat} {ch : Nat → Int32} (h : tx t c ch) {p : Nat} (hp : p < 1000) {o : k_O5} (ho : o.1 = nI t) : f_X5_at (nI p) ch o = some (atI t c p) := by
  have ht := h.1
  unfold f_X5_at atI
  rw [if_neg (nI_pos (n := p) (by omega)), ho]
  by_cases q : p < t
  · rw [if_neg (nI_ge q (by omega)), if_neg (show ¬ (60 : Int32) ≤ nI p from nI_ge (b := 60) (by omega) (by decide)), if_neg (nI_in (c := p) (N := 60) (by omega) (by decide)), nI_clamp (by omega), if_pos q, (h.2 p q).1]
  · rw [if_pos (nI_le (by omega) (by omega)), if_neg q]
def dgb (t : Nat) (c : Nat → Nat) (p : Nat) : Bool := decide (48 ≤ at' t c p) && decide (at' t c p ≤ 57)
theorem q_isDigit {t : Nat} {c : Nat → Nat} {r : Nat → Int32} (h : tx t c r) (p : Nat) : f_X5_isDigit (atI t c p) = some (if dgb t c p then 1 else 0) := by
  unfold f_X5_isDigit atI dgb at'
  by_cases q : p < t
  · have hc := h.2 p q
    simp only [if_pos q]
    by_cases d : c p < 48
    · rw [if_pos (show nI (c p) < (48 : Int32) from nI_lt (b := 48) d (by decide)), decide_eq_false (by omega)]; rfl
    · rw [if_neg (show ¬ nI (c p) < (48 : Int32) from nI_nlt (b := 48) (by omega) (by omega)), decide_eq_true (by omega)]
      by_cases e : 57 < c p
      · rw [if_pos (show (57 : Int32) < nI (c p) from nI_lt (a := 57) e (by omega)), decide_eq_false (by omega)]; rfl
      · rw [if_neg (show ¬ (57 : Int32) < nI (c p) from nI_nlt (a := 57) (by omega) (by decide)), decide_eq_true (by omega)]; rfl
  · simp only [if_neg q]
    decide
def dgs (t : Nat) (c : Nat → Nat) (p : Nat) : Nat := if dgb t c p then (if dgb t c (p + 1) then 2 else 1) else 0
theorem q_digitsAt {t : Nat} {c : Nat → Nat} {ch : Nat → Int32} (h : tx t c ch) {p : Nat} (hp : p < 900) {o : k_O5} (ho : o.1 = nI t) : f_X5_digitsAt (nI p) ch o = some (nI (dgs t c p)) := by
  unfold f_X5_digitsAt dgs
  rw [q_at h (by omega) ho, nI_1, q_at h (by omega) ho]
  simp only [Option.bind_some]
  rw [q_isDigit h, q_isDigit h]
  simp only [Option.bind_some]
  cases dgb t c p
  · rfl
  · cases dgb t c (p + 1) <;> rfl
def fitN (t : Nat) (c : Nat → Nat) (p : Nat) : Nat := if at' t c p = 110 then (if at' t c (p + 1) = 59 then 2 else 1) else if at' t c p = 102 then (if dgs t c (p + 1) = 0 then 1 else if at' t c (p + 1 + dgs t c (p + 1)) = 59 then dgs t c (p + 1) + 2 else dgs t c (p + 1) + 1) else 0
theorem dgs_le (t : Nat) (c : Nat → Nat) (p : Nat) : dgs t c p ≤ 2 := by unfold dgs; split <;> (try split) <;> omega
theorem q_fittingAt {t : Nat} {c : Nat → Nat} {ch : Nat → Int32} (h : tx t c ch) {p : Nat} (hp : p < 800) {o : k_O5} (ho : o.1 = nI t) : f_X5_fittingAt (nI p) ch o = some (nI (fitN t c p)) := by
  unfold f_X5_fittingAt fitN
  have hd := dgs_le t c (p + 1)
  have e102 : (atI t c p = (102 : Int32)) ↔ at' t c p = 102 := atI_is h p (k := 102) (by omega)
  have e110 : (atI t c p = (110 : Int32)) ↔ at' t c p = 110 := atI_is h p (k := 110) (by omega)
  have e59 : ∀ q, (atI t c q = (59 : Int32)) ↔ at' t c q = 59 := fun q => atI_is h q (k := 59) (by omega)
  have z0 : nI (p + 1) + 0 = nI (p + 1) := nI_add (p + 1) 0
  have z2 : nI (dgs t c (p + 1)) + 2 = nI (dgs t c (p + 1) + 2) := nI_add _ 2
  have z1 : nI (dgs t c (p + 1)) + 1 = nI (dgs t c (p + 1) + 1) := nI_add _ 1
  rw [q_at h (by omega) ho]
  simp only [Option.bind_some, nI_1 p, q_digitsAt h (show p + 1 < 900 by omega) ho, z0, nI_add (p + 1) (dgs t c (p + 1)), q_at h (show p + 1 + dgs t c (p + 1) < 1000 by omega) ho, q_at h (show p + 1 < 1000 by omega) ho, z1, z2]
  by_cases a : at' t c p = 102
  · rw [if_pos (e102.mpr a), if_neg (fun q => by have := e110.mp q; omega), if_neg (show ¬ at' t c p = 110 by omega), if_pos a]
    by_cases d : dgs t c (p + 1) = 0
    · rw [if_pos (show nI (dgs t c (p + 1)) = (0 : Int32) by rw [d]; rfl), if_pos (e102.mpr a), if_pos d]; rfl
    · rw [if_neg (show ¬ nI (dgs t c (p + 1)) = (0 : Int32) from fun q => d ((nI_eq (b := 0) (by omega) (by decide)).mp q)), if_neg d]
      by_cases b : at' t c (p + 1 + dgs t c (p + 1)) = 59
      · rw [if_pos ((e59 _).mpr b), if_pos b]
      · rw [if_neg (fun q => b ((e59 _).mp q)), if_neg b]
  · rw [if_neg (fun q => a (e102.mp q))]
    by_cases b : at' t c p = 110
    · rw [if_pos (e110.mpr b), if_pos b]
      by_cases d : at' t c (p + 1) = 59
      · rw [if_pos ((e59 _).mpr d), if_pos d]; rfl
      · rw [if_neg (fun q => d ((e59 _).mp q)), if_neg d]; rfl
    · rw [if_neg (fun q => b (e110.mp q)), if_pos trivial, if_neg (fun q => a (e102.mp q)), if_neg b, if_neg a]; rfl
/-- the number of an order -/
def numN (c : Nat → Nat) (p d : Nat) : Nat := if d = 1 then c p - 48 else 10 * (c p - 48) + (c (p + 1) - 48)
theorem dgb_c {t : Nat} {c : Nat → Nat} {p : Nat} (h : dgb t c p = true) : p < t ∧ 48 ≤ c p ∧ c p ≤ 57 := by
  unfold dgb at' at h
  simp only [Bool.and_eq_true, decide_eq_true_eq] at h
  by_cases q : p < t
  · rw [if_pos q] at h; exact ⟨q, h⟩
  · rw [if_neg q] at h; omega
theorem dgs_c {t : Nat} {c : Nat → Nat} {p : Nat} (h : dgs t c p ≠ 0) : (dgs t c p = 1 ∨ dgs t c p = 2) ∧ dgb t c p = true ∧ (dgs t c p = 2 → dgb t c (p + 1) = true) := by
  unfold dgs at h ⊢
  cases ha : dgb t c p
  · rw [ha] at h; exact absurd rfl h
  · cases hb : dgb t c (p + 1) <;> simp
theorem q_num1 {k v : Nat} (hk : 48 ≤ k) : ((10 : Int32) * nI v + nI k) - 48 = nI (10 * v + (k - 48)) := by
  have e : (10 : Int32) * nI v = nI (10 * v) := (Int32.ofNat_mul 10 v).symm
  rw [e, nI_add, Int32.sub_eq_iff_eq_add]
  have e2 : nI (10 * v + (k - 48)) + 48 = nI (10 * v + (k - 48) + 48) := nI_add _ 48
  rw [e2]
  congr 1
  omega
theorem q_numberAt {t : Nat} {c : Nat → Nat} {ch : Nat → Int32} (h : tx t c ch) {p : Nat} (hp : p < 800) {o : k_O5} (ho : o.1 = nI t) (hd : dgs t c p ≠ 0) : f_X5_numberAt (nI p) (nI (dgs t c p)) ch o = some (nI (numN c p (dgs t c p))) := by
  obtain ⟨h12, hb1, hb2⟩ := dgs_c hd
  have c1 := dgb_c hb1
  unfold f_X5_numberAt
  let acc : Nat → Nat := fun i => if i = 0 then 0 else if i = 1 then c p - 48 else 10 * (c p - 48) + (c (p + 1) - 48)
  have hacc : numN c p (dgs t c p) = acc (dgs t c p) := by
    unfold numN
    rcases h12 with e | e <;> rw [e] <;> rfl
  rw [hacc, show ((0, 0) : Int32 × Int32) = (nI (acc 0), nI 0) from rfl, k_for (fun i => (nI (acc i), nI i)) (dgs t c p) (nI (acc (dgs t c p)), nI (dgs t c p)) ?_ ?_ 1000 (by omega)]
  · rfl
  · intro i hi
    have hi2 : i = 0 ∨ (i = 1 ∧ dgs t c p = 2) := by omega
    have hin : p + i < t ∧ 48 ≤ c (p + i) := by
      rcases hi2 with rfl | ⟨rfl, e⟩
      · exact ⟨c1.1, c1.2.1⟩
      · have := dgb_c (hb2 e)
        exact ⟨this.1, this.2.1⟩
    unfold t_X5_numberAt_5 k_let
    dsimp only
    rw [if_neg (nI_ge hi (by omega)), nI_add p i, q_at h (by omega) ho, nI_1 i]
    simp only [Option.bind_some]
    have ha : atI t c (p + i) = nI (c (p + i)) := if_pos hin.1
    rw [ha, q_num1 hin.2]
    have : 10 * acc i + (c (p + i) - 48) = acc (i + 1) := by
      rcases hi2 with rfl | ⟨rfl, e⟩
      · show 10 * 0 + (c (p + 0) - 48) = c p - 48
        rw [Nat.add_zero]; omega
      · rfl
    rw [this]
  · unfold t_X5_numberAt_5
    dsimp only
    rw [if_pos (nI_le (Nat.le_refl _) (by omega))]
