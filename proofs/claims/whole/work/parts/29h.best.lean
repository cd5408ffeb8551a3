/-! The model's best of a mask. -/
/-- the best so far, over the places below n -/
def bsf (x y : Int32) (n : Nat) (b : Int) : Prop := (∀ f, f < 31 → bt y f = false → bt x f = false → un x f < n → mv y f ≤ b) ∧ (b = -99 ∨ ∃ f, f < 31 ∧ bt y f = false ∧ b = mv y f)
theorem bsf_end {x y : Int32} {b : Int} (hxy : ∀ f, f < 31 → bt y f = false → bt x f = false) (hfull : c31 y < 31) (h : bsf x y (un x 31) b) : b = VV y := by
  obtain ⟨f, hf, hb, e⟩ := VV_ex hfull
  have h1 := h.1 f hf hb (hxy f hf hb) (un_lt hf (hxy f hf hb))
  have h2 := mv_b hf hb
  have h3 := cb_le y
  rcases h.2 with q | ⟨g, hg, hgb, q⟩
  · omega
  · have := VV_ge hg hgb
    omega
theorem bsf_skip {x y : Int32} {n : Nat} {b : Int} (h : bsf x y n b) (hs : ∀ f, f < 31 → bt x f = false → un x f = n → bt y f = true) : bsf x y (n + 1) b := by
  refine ⟨fun f hf hb hx hu => ?_, h.2⟩
  by_cases e : un x f = n
  · have := hs f hf hx e
    rw [hb] at this; cases this
  · exact h.1 f hf hb hx (by omega)
theorem bsf_take {x y : Int32} {n : Nat} {b : Int} {f : Nat} (h : bsf x y n b) (hf : f < 31) (hb : bt y f = false) (hx : bt x f = false) (hu : un x f = n) : bsf x y (n + 1) (if b < mv y f then mv y f else b) := by
  have same : ∀ g, bt x g = false → un x g = n → g = f := fun g hg e => un_inj hg hx (by omega)
  by_cases c : b < mv y f
  · rw [if_pos c]
    refine ⟨fun g hg hgb hgx hgu => ?_, Or.inr ⟨f, hf, hb, rfl⟩⟩
    by_cases e : un x g = n
    · rw [same g hgx e]; exact Int.le_refl _
    · have := h.1 g hg hgb hgx (by omega)
      omega
  · rw [if_neg c]
    refine ⟨fun g hg hgb hgx hgu => ?_, h.2⟩
    by_cases e : un x g = n
    · rw [same g hgx e]; omega
    · exact h.1 g hg hgb hgx (by omega)
theorem q_best {m : Nat} {rS rO rW : Nat → Int32} (h31 : bt (rS 0) 31 = false) (h8 : un (rS 0) 31 ≤ 8) (ho : opn (rS 0) rO) (hm : m < 2 ^ un (rS 0) 31) (hfull : c31 (posP (rS 0) m.testBit) < 31) (hw : wok (rS 0) rW (m + 1)) : ∃ b : Int32, k_loop (t_X8_works_96 (nI m) (nI (un (rS 0) 31)) rS rO rW) 1000 (-99, 0) = some (b, nI (un (rS 0) 31)) ∧ b.toInt = VV (posP (rS 0) m.testBit) := by
  have hxy : ∀ f, f < 31 → bt (posP (rS 0) m.testBit) f = false → bt (rS 0) f = false := fun f hf hb => (pos_un hf hb).1
  have key : ∀ (d n : Nat) (b : Int32), d + n = un (rS 0) 31 → -99 ≤ b.toInt → bsf (rS 0) (posP (rS 0) m.testBit) n b.toInt → ∃ b2 : Int32, (∀ N, d < N → k_loop (t_X8_works_96 (nI m) (nI (un (rS 0) 31)) rS rO rW) N (b, nI n) = some (b2, nI (un (rS 0) 31))) ∧ b2.toInt = VV (posP (rS 0) m.testBit) := by
    intro d
    induction d with
    | zero =>
      intro n b hn hb hs
      have e : n = un (rS 0) 31 := by omega
      subst e
      refine ⟨b, ?_, bsf_end hxy hfull hs⟩
      intro N hN
      obtain ⟨N, rfl⟩ : ∃ z, N = z + 1 := ⟨N - 1, by omega⟩
      refine k_loopR ?_
      unfold t_X8_works_96
      dsimp only
      rw [if_pos (nI_le (Nat.le_refl _) (by omega))]
    | succ d ih =>
      intro n b hn hb hs
      obtain ⟨f, hf, hbf, hu⟩ := un_kth (x := rS 0) (i := n) (by omega)
      have h1 : ¬ nI (un (rS 0) 31) ≤ nI n := nI_ge (by omega) (by omega)
      have e1 : nI n + 1 = nI (n + 1) := nI_1 n
      have hin : f_X8_isIn (nI m) (nI n) = some (if m.testBit n then 1 else 0) := by rw [q_isIn (by omega), q_bt (by omega)]
      cases ht : m.testBit n
      · rw [ht] at hin
        obtain ⟨r, r1, r2⟩ := q_by h31 h8 ho hm hf hbf hu ht hw
        have hby : bt (posP (rS 0) m.testBit) f = false := pos_bt0 hf hbf (by rw [hu]; exact ht)
        have hmb := mv_b hf hby
        have hcb := cb_le (posP (rS 0) m.testBit)
        have hstep : t_X8_works_96 (nI m) (nI (un (rS 0) 31)) rS rO rW (b, nI n) = some (.inl ((if r ≤ b then b else r), nI (n + 1))) := by
          unfold t_X8_works_96
          dsimp only
          rw [if_neg h1]
          refine (k_bs hin).trans ?_
          rw [if_neg (c := false = true) Bool.false_ne_true, if_pos rfl]
          refine (k_bs r1).trans ?_
          rw [e1]
          by_cases z : r ≤ b
          · rw [if_pos z, if_pos z]
          · rw [if_neg z, if_neg z]
        have hnb : (if r ≤ b then b else r).toInt = if b.toInt < mv (posP (rS 0) m.testBit) f then mv (posP (rS 0) m.testBit) f else b.toInt := by
          rw [← r2]
          by_cases z : r ≤ b
          · have := (fa_le _ _).mp z
            rw [if_pos z, if_neg (by omega)]
          · have : ¬ r.toInt ≤ b.toInt := fun q => z ((fa_le _ _).mpr q)
            rw [if_neg z, if_pos (by omega)]
        obtain ⟨b2, k1, k2⟩ := ih (n + 1) (if r ≤ b then b else r) (by omega) (by rw [hnb]; split <;> omega) (by rw [hnb]; exact bsf_take hs hf hby hbf hu)
        refine ⟨b2, ?_, k2⟩
        intro N hN
        obtain ⟨N, rfl⟩ : ∃ z, N = z + 1 := ⟨N - 1, by omega⟩
        rw [k_loopS hstep]; exact k1 N (by omega)
      · rw [ht] at hin
        have h99 : (-99 : Int32) ≤ b := (fa_le _ _).mpr hb
        have hstep : t_X8_works_96 (nI m) (nI (un (rS 0) 31)) rS rO rW (b, nI n) = some (.inl (b, nI (n + 1))) := by
          unfold t_X8_works_96
          dsimp only
          rw [if_neg h1]
          refine (k_bs hin).trans ?_
          rw [if_pos (c := true = true) rfl, if_neg (by decide), if_pos h99, e1]
        obtain ⟨b2, k1, k2⟩ := ih (n + 1) b (by omega) hb (bsf_skip hs fun g hg hgx hgu => by
          rw [pos_bt (by omega), hgu, ht]; simp [hg])
        refine ⟨b2, ?_, k2⟩
        intro N hN
        obtain ⟨N, rfl⟩ : ∃ z, N = z + 1 := ⟨N - 1, by omega⟩
        rw [k_loopS hstep]; exact k1 N (by omega)
  obtain ⟨b, k1, k2⟩ := key (un (rS 0) 31) 0 (-99) rfl (by decide) ⟨fun f _ _ _ h => absurd h (Nat.not_lt_zero _), Or.inl rfl⟩
  exact ⟨b, k1 1000 (by omega), k2⟩
