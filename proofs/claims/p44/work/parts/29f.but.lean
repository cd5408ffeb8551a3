/-! Positions: the class. -/
theorem pos_all (x : Int32) {P : Nat → Bool} (h : ∀ i, i < un x 31 → P i = true) : posP x P = 2147483647 := by
  have hb : ∀ i, i < 32 → bt 2147483647 i = decide (i < 31) := by decide +kernel
  refine b_ext fun f hf => ?_
  rw [pos_bt hf, hb f hf]
  by_cases c : f < 31
  · cases hbf : bt x f
    · rw [h _ (un_lt c hbf)]; simp
    · simp
  · simp [c]
theorem pos_clear {x : Int32} {P : Nat → Bool} {f : Nat} (hf : f < 31) (hb : bt x f = false) : (posP x P &&& (((1 : Int32) <<< (nI f &&& 31)) ^^^ (-1))) = posP x (fun i => P i && !decide (i = un x f)) := by
  refine b_ext fun g hg => ?_
  rw [b_and, q_not hg, q_one (by omega) hg, pos_bt hg, pos_bt hg]
  by_cases c : g < 31
  · by_cases e : g = f
    · subst e; simp [hb]
    · cases hbg : bt x g
      · have : ¬ un x g = un x f := fun q => e (un_inj hbg hb q)
        simp [c, e, this]
      · simp [c, e]
  · simp [c]
theorem q_drawnBut {m : Nat} (hm : m < 256) {x : Int32} {op : Nat → Int32} (h8 : un x 31 ≤ 8) (ho : opn x op) : f_X1_drawnBut (nI m) (nI (un x 31)) op = some (posP x (fun i => !m.testBit i)) := by
  let acc : Nat → Int32 := fun n => posP x (fun i => !(decide (i < n) && m.testBit i))
  have e0 : acc 0 = 2147483647 := pos_all x (fun i _ => by simp)
  have hk := k_for (step := t_X1_drawnBut_5 (nI m) (nI (un x 31)) op) (fun i => (acc i, nI i)) (un x 31) (acc (un x 31), nI (un x 31)) ?_ ?_ 1000 (by omega)
  · unfold f_X1_drawnBut
    have e1 : acc (un x 31) = posP x (fun i => !m.testBit i) := pos_cong fun i hi => by simp [hi]
    rw [e0] at hk
    refine (k_bs hk).trans ?_
    rw [e1]
  · intro i hi
    obtain ⟨f, hf, hb, hu⟩ := un_kth hi
    have h1 : ¬ nI (un x 31) ≤ nI i := nI_ge hi (by omega)
    have e1 : nI i + 1 = nI (i + 1) := nI_1 i
    have hcl : (nI i).toNatClampNeg = i := nI_clamp (by omega)
    have hg := nI_in (c := i) (N := 8) (by omega) (by decide)
    have hr : op i = nI f := by rw [← hu]; exact ho f hf hb
    have hsucc : acc (i + 1) = if m.testBit i then (acc i &&& (((1 : Int32) <<< (nI f &&& 31)) ^^^ (-1))) else acc i := by
      cases ht : m.testBit i
      · rw [if_neg Bool.false_ne_true]
        refine pos_cong fun j _ => ?_
        by_cases e : j = i
        · subst e; simp [ht]
        · have : decide (j < i + 1) = decide (j < i) := by simp; omega
          rw [this]
      · rw [if_pos rfl]
        show _ = (posP x _ &&& _)
        rw [pos_clear hf hb, hu]
        refine pos_cong fun j _ => ?_
        by_cases e : j = i
        · subst e; simp [ht]
        · have : decide (j < i + 1) = decide (j < i) := by simp; omega
          rw [this]; simp [e]
    unfold t_X1_drawnBut_5 k_let
    dsimp only
    rw [if_neg h1, q_has (by omega), q_bt (by omega)]
    simp only [Option.bind_some]
    rw [hsucc, e1]
    cases ht : m.testBit i
    · rw [if_neg (c := false = true) Bool.false_ne_true, if_pos rfl, if_neg (c := false = true) Bool.false_ne_true]
    · rw [if_pos (c := true = true) rfl, if_neg (by decide), if_neg hg, hcl, hr, if_pos (c := true = true) rfl]
  · unfold t_X1_drawnBut_5
    dsimp only
    rw [if_pos (nI_le (Nat.le_refl _) (by omega))]
/-- bits of small numbers -/
theorem tb_or : ∀ m, m < 256 → ∀ k, k < 8 → nI m ||| ((1 : Int32) <<< (nI k &&& 31)) = nI (m ||| 2 ^ k) ∧ m ||| 2 ^ k < 256 ∧ (m.testBit k = false → m < m ||| 2 ^ k) := by decide +kernel
theorem tb_cl : ∀ m, m < 256 → ∀ k, k < 8 → nI m &&& (((1 : Int32) <<< (nI k &&& 31)) ^^^ (-1)) = nI (m - if m.testBit k then 2 ^ k else 0) ∧ (m.testBit k = true → m - 2 ^ k < m ∧ 2 ^ k ≤ m) := by decide +kernel
theorem tb_or2 (m k i : Nat) : (m ||| 2 ^ k).testBit i = (m.testBit i || decide (i = k)) := by
  rw [Nat.testBit_or, Nat.testBit_two_pow]
  congr 1
  by_cases e : i = k
  · simp [e]
  · simp [e, show ¬ k = i from fun q => e q.symm]
theorem tb_cl2 : ∀ m, m < 256 → ∀ k, k < 8 → m.testBit k = true → ∀ i, i < 8 → (m - 2 ^ k).testBit i = (m.testBit i && !decide (i = k)) := by decide +kernel
