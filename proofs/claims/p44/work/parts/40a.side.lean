/-! The law's own boxes and fences: sides, what lies beside, fences round a box, closing, safe. -/
def sd (b k : Nat) : Nat := if k = 0 then b else if k = 1 then b + 4 else if k = 2 then vl b else vl b + 1
theorem p_side : ∀ b, b < 12 → ∀ k, k < 4 → f_L_side (nI b) (nI k) = some (nI (sd b k)) := by decide +kernel
theorem p_sd : ∀ b, b < 12 → ∀ k, k < 4 → sd b k < 31 ∧ bes (sd b k) b = true := by decide +kernel
theorem p_sdb : ∀ b, b < 12 → ∀ i, i < 32 → bes i b = (i == sd b 0 || i == sd b 1 || i == sd b 2 || i == sd b 3) := by decide +kernel
theorem p_has {x : Int32} {b : Nat} (hb : b < 12) : f_L_has x (nI b) = some (nI (cn x b)) := by
  have h := q_vl b hb
  unfold f_L_has k_let
  refine (k_bs (p_side b hb 0 (by omega))).trans ?_
  refine (k_bs (p_side b hb 1 (by omega))).trans ?_
  refine (k_bs (p_side b hb 2 (by omega))).trans ?_
  refine (k_bs (p_side b hb 3 (by omega))).trans ?_
  have e0 : sd b 0 = b := rfl
  have e1 : sd b 1 = b + 4 := rfl
  have e2 : sd b 2 = vl b := rfl
  have e3 : sd b 3 = vl b + 1 := rfl
  rw [e0, e1, e2, e3]
  simp only [q_bit1 (x := x) (m := b) (by omega), q_bit1 (x := x) (m := b + 4) (by omega), q_bit1 (x := x) (m := vl b) (by omega), q_bit1 (x := x) (m := vl b + 1) (by omega)]
  unfold cn
  cases bt x b <;> cases bt x (b + 4) <;> cases bt x (vl b) <;> cases bt x (vl b + 1) <;> rfl
def ah (f : Nat) : Nat := if f < 16 then (if 4 ≤ f then f - 4 else 12) else if 0 < (f - 16) % 5 then 4 * ((f - 16) / 5) + (f - 16) % 5 - 1 else 12
def bh (f : Nat) : Nat := if f < 16 then (if f < 12 then f else 12) else if (f - 16) % 5 < 4 then 4 * ((f - 16) / 5) + (f - 16) % 5 else 12
def bx (b : Nat) : Int32 := if b < 12 then nI b else -1
theorem p_ab : ∀ f, f < 31 → f_L_beside (nI f) (nI 0) = some (bx (ah f)) ∧ f_L_beside (nI f) (nI 1) = some (bx (bh f)) ∧ ah f ≤ 12 ∧ bh f ≤ 12 ∧ (ah f = bh f → 12 ≤ ah f) := by decide +kernel
theorem p_bes : ∀ f, f < 31 → ∀ k, k < 12 → bes f k = (k == ah f || k == bh f) := by decide +kernel
theorem p_bxn : ∀ b, 12 ≤ b → bx b < 0 := fun b h => by unfold bx; rw [if_neg (by omega)]; decide
theorem p_bxp {b : Nat} (h : b < 12) : bx b = nI b ∧ ¬ nI b < 0 := ⟨if_pos h, nI_pos (by omega)⟩
theorem p_tn (b : Bool) : (if b = true then 1 else 0) = b.toNat := by cases b <;> rfl
theorem p_two (g : Nat → Bool) {a b : Nat} : ∀ n, (a = b → n ≤ a) → fb_ct (fun k => (k == a || k == b) && g k) n = (if a < n then (g a).toNat else 0) + (if b < n then (g b).toNat else 0)
  | 0, _ => rfl
  | n + 1, h => by
    have ih := p_two g n (fun e => by have := h e; omega)
    rw [fb_ct_succ, p_tn, ih]
    by_cases e1 : n = a
    · by_cases e2 : n = b
      · have := h (by omega); omega
      · have s1 : ((n == a || n == b) && g n) = g a := by subst e1; simp
        rw [s1]
        generalize (g a).toNat = A
        generalize (g b).toNat = B
        subst e1
        (repeat' split) <;> omega
    · by_cases e2 : n = b
      · have s1 : ((n == a || n == b) && g n) = g b := by subst e2; simp
        rw [s1]
        generalize (g a).toNat = A
        generalize (g b).toNat = B
        subst e2
        (repeat' split) <;> omega
      · have s1 : ((n == a || n == b) && g n) = false := by simp [e1, e2]
        rw [s1]
        generalize (g a).toNat = A
        generalize (g b).toNat = B
        show _ + 0 = _
        (repeat' split) <;> omega
theorem p_sum {f : Nat} (hf : f < 31) (g : Nat → Bool) : fb_ct (fun k => bes f k && g k) 12 = (if ah f < 12 then (g (ah f)).toNat else 0) + (if bh f < 12 then (g (bh f)).toNat else 0) := by
  rw [← p_two g 12 (p_ab f hf).2.2.2.2]
  exact fb_ct_cong fun k hk => by rw [p_bes f hf k hk]
theorem p_cstep {x : Int32} {f w b n : Nat} (hw : w < 2) (hn : n < 100) (h : f_L_beside (nI f) (nI w) = some (bx b)) : t_L_close_4 x (nI f) (nI n, nI w) = some (.inl (nI (n + if b < 12 then (decide (cn x b = 3)).toNat else 0), nI (w + 1))) := by
  unfold t_L_close_4 k_let
  rw [if_neg (show ¬ (2 : Int32) ≤ nI w from nI_ge (b := 2) hw (by decide))]
  refine (k_bs h).trans ?_
  by_cases c : b < 12
  · have hc := q_cn4 x b
    rw [if_pos c, (p_bxp c).1, if_neg (p_bxp c).2]
    refine (k_bs (a := nI (decide (cn x b = 3)).toNat) ?_).trans ?_
    · refine (k_bs (p_has c)).trans ?_
      by_cases d : cn x b = 3
      · rw [if_pos (show _ = (3 : Int32) from (nI_eq (b := 3) (by omega) (by decide)).mpr d), decide_eq_true d]; rfl
      · rw [if_neg (show ¬ _ = (3 : Int32) from fun e => d ((nI_eq (b := 3) (by omega) (by decide)).mp e)), decide_eq_false d]; rfl
    · show some (Sum.inl (nI n + nI _, nI w + 1)) = _
      rw [nI_add, nI_1]
  · rw [if_neg c, if_pos (p_bxn b (by omega))]
    show some (Sum.inl (nI n + 0, nI w + 1)) = _
    rw [nI_1]; simp
theorem p_close {x : Int32} {f : Nat} (hf : f < 31) : f_L_close x (nI f) = some (nI (cl x f)) := by
  obtain ⟨h0, h1, -, -, -⟩ := p_ab f hf
  unfold f_L_close
  have e : cl x f = _ := p_sum hf (fun k => decide (cn x k = 3))
  have k : k_loop (t_L_close_4 x (nI f)) 1000 (0, 0) = some (nI (cl x f), nI 2) := by
    rw [e]
    generalize hA : (if ah f < 12 then (decide (cn x (ah f) = 3)).toNat else 0) = A
    generalize hB : (if bh f < 12 then (decide (cn x (bh f) = 3)).toNat else 0) = B
    have hA1 : A ≤ 1 := by rw [← hA]; split <;> first | exact Bool.toNat_le _ | omega
    refine k_for (fun i => (nI (if i = 0 then 0 else if i = 1 then A else A + B), nI i)) 2 _ ?_ ?_ 1000 (by decide)
    · intro i hi
      match i, hi with
      | 0, _ => show t_L_close_4 x (nI f) (nI 0, nI 0) = some (Sum.inl (nI A, nI 1)); rw [p_cstep (x := x) (n := 0) (w := 0) (by omega) (by omega) h0, hA, Nat.zero_add]
      | 1, _ => show t_L_close_4 x (nI f) (nI A, nI 1) = _; rw [p_cstep (x := x) (n := A) (w := 1) (by omega) (by omega) h1, hB]; rfl
    · unfold t_L_close_4
      rw [if_pos (show (2 : Int32) ≤ nI 2 by decide)]
      rfl
  rw [k]; rfl
theorem p_rsum {x : Int32} {f : Nat} (hf : f < 31) : ri x f = 0 ↔ (ah f < 12 → cn x (ah f) < 2) ∧ (bh f < 12 → cn x (bh f) < 2) := by
  unfold ri
  rw [p_sum hf (fun k => decide (2 ≤ cn x k))]
  by_cases a : ah f < 12 <;> by_cases b : bh f < 12 <;> by_cases c : 2 ≤ cn x (ah f) <;> by_cases d : 2 ≤ cn x (bh f) <;> simp [a, b, c, d] <;> omega
theorem p_sstep {x : Int32} {f w b : Nat} (u : Bool) (hw : w < 2) (h : f_L_beside (nI f) (nI w) = some (bx b)) : t_L_safe_16 x (nI f) ((if u then 1 else 0), nI w) = some (.inl ((if u && decide (b < 12 → cn x b < 2) then 1 else 0), nI (w + 1))) := by
  unfold t_L_safe_16
  rw [if_neg (show ¬ (2 : Int32) ≤ nI w from nI_ge (b := 2) hw (by decide))]
  refine (k_bs h).trans ?_
  refine (k_bs (a := if u && decide (b < 12 → cn x b < 2) then 1 else 0) ?_).trans (by rw [nI_1])
  cases u
  · rfl
  · rw [if_neg (show ¬ (if true = true then (1 : Int32) else 0) = 0 by decide)]
    by_cases c : b < 12
    · have hc := q_cn4 x b
      rw [(p_bxp c).1, if_neg (p_bxp c).2]
      refine (k_bs (p_has c)).trans ?_
      by_cases d : 2 ≤ cn x b
      · rw [if_pos (show (2 : Int32) ≤ nI (cn x b) from nI_le (a := 2) d (by omega))]
        have : ¬ (b < 12 → cn x b < 2) := fun q => by have := q c; omega
        rw [decide_eq_false this]; rfl
      · rw [if_neg (show ¬ (2 : Int32) ≤ nI (cn x b) from nI_ge (b := 2) (by omega) (by decide))]
        have : (b < 12 → cn x b < 2) := fun q => by omega
        rw [decide_eq_true this]; rfl
    · rw [if_pos (p_bxn b (by omega))]
      have : (b < 12 → cn x b < 2) := fun q => absurd q c
      rw [decide_eq_true this]; rfl
theorem p_b01 (u : Bool) : (if u then (1 : Int32) else 0) = 0 ∨ (if u then (1 : Int32) else 0) = 1 := by cases u <;> simp
theorem p_safe {x : Int32} {f : Nat} (hf : f < 31) : f_L_safe x (nI f) = some (if sf x f then 1 else 0) := by
  obtain ⟨h0, h1, -, -, -⟩ := p_ab f hf
  have e : sf x f = ((!bt x f && decide (ah f < 12 → cn x (ah f) < 2)) && decide (bh f < 12 → cn x (bh f) < 2)) := by
    have h : decide (ri x f = 0) = (decide (ah f < 12 → cn x (ah f) < 2) && decide (bh f < 12 → cn x (bh f) < 2)) := by
      rw [← Bool.decide_and]; exact decide_eq_decide.mpr (p_rsum hf)
    unfold sf
    rw [h, Bool.and_assoc]
  unfold f_L_safe
  refine (k_bs (a := if !bt x f then 1 else 0) ?_).trans ?_
  · rw [q_bit1 (by omega)]; cases bt x f <;> rfl
  · have k : k_loop (t_L_safe_16 x (nI f)) 1000 ((if !bt x f then 1 else 0), 0) = some ((if sf x f then 1 else 0), nI 2) := by
      rw [e]
      refine k_for (fun i => ((if (if i = 0 then !bt x f else if i = 1 then (!bt x f && decide (ah f < 12 → cn x (ah f) < 2)) else ((!bt x f && decide (ah f < 12 → cn x (ah f) < 2)) && decide (bh f < 12 → cn x (bh f) < 2))) then 1 else 0), nI i)) 2 _ ?_ ?_ 1000 (by decide)
      · intro i hi
        match i, hi with
        | 0, _ => exact p_sstep (x := x) (w := 0) _ (by omega) h0
        | 1, _ => exact p_sstep (x := x) (w := 1) _ (by omega) h1
      · unfold t_L_safe_16
        rw [if_pos (show (2 : Int32) ≤ nI 2 by decide)]
        rfl
    refine (k_bs k).trans ?_
    rw [if_pos (p_b01 _)]
