/-! The model's worth of all masks. -/
theorem pos_full {x : Int32} {P : Nat → Bool} (h : ∀ i, i < un x 31 → P i = true) : c31 (posP x P) = 31 := fb_ct_all.mpr fun f hf => by
  rw [pos_bt (by omega)]
  cases hb : bt x f
  · rw [h _ (un_lt hf hb)]; simp [hf]
  · simp [hf]
theorem tb_all : ∀ n, n ≤ 8 → ∀ i, i < n → (2 ^ n - 1).testBit i = true := by decide +kernel
theorem tb_some : ∀ n, n ≤ 8 → ∀ m, m < 2 ^ n - 1 → ∃ i, i < n ∧ m.testBit i = false := by
  have h : ∀ n, n ≤ 8 → ∀ m, m < 2 ^ n - 1 → ∃ i : Fin n, m.testBit i.val = false := by decide +kernel
  intro n hn m hm
  obtain ⟨i, hi⟩ := h n hn m hm
  exact ⟨i.val, i.isLt, hi⟩
theorem q_down {rS rO : Nat → Int32} (h31 : bt (rS 0) 31 = false) (h8 : un (rS 0) 31 ≤ 8) (ho : opn (rS 0) rO) : ∀ (j : Nat) (W : Nat → Int32), j < 2 ^ un (rS 0) 31 → wok (rS 0) W j → ∃ (W2 : Nat → Int32) (z : Int32), (∀ N, j < N → k_loop (t_X8_works_86 (nI (un (rS 0) 31)) rS rO) N (nI j - 1, W) = some (z, W2)) ∧ wok (rS 0) W2 0 := by
  have h256 := pw8 _ h8
  intro j
  induction j with
  | zero =>
    intro W _ hw
    refine ⟨W, nI 0 - 1, ?_, hw⟩
    intro N hN
    obtain ⟨N, rfl⟩ : ∃ z, N = z + 1 := ⟨N - 1, by omega⟩
    refine k_loopR ?_
    unfold t_X8_works_86
    dsimp only
    rw [if_pos (by decide)]
  | succ j ih =>
    intro W hj hw
    have e : nI (j + 1) - 1 = nI j := nI_pred j
    have hfull : c31 (posP (rS 0) j.testBit) < 31 := by
      obtain ⟨i, hi, ht⟩ := tb_some _ h8 j (by omega)
      obtain ⟨f, hf, hb, hu⟩ := un_kth hi
      exact c31_pos hf hb (by rw [hu]; exact ht)
    obtain ⟨b, k1, k2⟩ := q_best h31 h8 ho (by omega) hfull hw
    have hg := nI_in (c := j) (N := 256) (by omega) (by decide)
    have hcl : (nI j).toNatClampNeg = j := nI_clamp (by omega)
    have hm1 : nI j + (-1) = nI j - 1 := (Int32.sub_eq_add_neg _ _).symm
    have hstep : t_X8_works_86 (nI (un (rS 0) 31)) rS rO (nI (j + 1) - 1, W) = some (.inl (nI j - 1, upd W j b)) := by
      unfold t_X8_works_86 k_let
      dsimp only
      rw [e, if_neg (nI_pos (by omega))]
      refine (k_bs k1).trans ?_
      dsimp only
      rw [if_neg hg, hcl, hm1]
    have hw2 : wok (rS 0) (upd W j b) j := by
      intro m h1 h2
      by_cases z : m = j
      · subst z; rw [upd_eq, k2]
      · rw [upd_ne z]; exact hw m (by omega) h2
    obtain ⟨W2, z, a1, a2⟩ := ih (upd W j b) (by omega) hw2
    refine ⟨W2, z, ?_, a2⟩
    intro N hN
    obtain ⟨N, rfl⟩ : ∃ z, N = z + 1 := ⟨N - 1, by omega⟩
    rw [k_loopS hstep]; exact a1 N (by omega)
theorem sh_one : ∀ n, n ≤ 8 → ((1 : Int32) <<< (nI n &&& 31)) - 1 = nI (2 ^ n - 1) ∧ (1 : Int32) <<< (nI n &&& 31) = nI (2 ^ n) := by decide +kernel
theorem pw_pos : ∀ n, n ≤ 8 → 0 < 2 ^ n := by decide
theorem q_works {g : k_G8} {rS : Nat → Int32} (h : rg8 g rS) (mOp : Int32) (rO rW : Nat → Int32) (hn : 23 ≤ c31 g.1) : ∃ (O W : Nat → Int32), f_X8_works mOp rS rO rW = some (1, nI (un g.1 31), O, W) ∧ opn g.1 O ∧ wok g.1 W 0 := by
  have hx : rS 0 = g.1 := h.1
  have hun := un_all g.1
  have h8 : un (rS 0) 31 ≤ 8 := by rw [hx]; omega
  have h256 := pw8 _ h8
  have hpos := pw_pos _ h8
  have h31 : bt (rS 0) 31 = false := by rw [hx]; exact h.2.1
  obtain ⟨s1, s2⟩ := sh_one _ h8
  have ho := ro_opn (rS 0) rO
  have hg := nI_in (c := 2 ^ un (rS 0) 31 - 1) (N := 256) (by omega) (by decide)
  have hcl : (nI (2 ^ un (rS 0) 31 - 1)).toNatClampNeg = 2 ^ un (rS 0) 31 - 1 := nI_clamp (by omega)
  have hw0 : wok (rS 0) (upd rW (2 ^ un (rS 0) 31 - 1) 0) (2 ^ un (rS 0) 31 - 1) := by
    intro m h1 h2
    have e : m = 2 ^ un (rS 0) 31 - 1 := by omega
    rw [e, upd_eq, VV_full (pos_full fun i hi => tb_all _ h8 i hi)]
    rfl
  obtain ⟨W2, z, a1, a2⟩ := q_down h31 h8 ho (2 ^ un (rS 0) 31 - 1) _ (by omega) hw0
  refine ⟨ro (rS 0) rO 31, W2, ?_, by rw [← hx]; exact ho, by rw [← hx]; exact a2⟩
  unfold f_X8_works k_let
  have hc : (23 : Int32) ≤ rS 18 := by rw [h.2.2.1]; exact nI_le (a := 23) hn (by have := c31_le g.1; omega)
  rw [if_pos hc]
  refine (k_bs q_opensM).trans ?_
  dsimp only
  rw [s1, if_neg hg, hcl]
  refine (k_bs (a1 1000 (by omega))).trans ?_
  rw [hx]
