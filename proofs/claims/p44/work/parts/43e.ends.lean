/-! The law's 'isEnd': all sets, from all fences down to none; the class's answers. -/
def FI (x : Int32) : Int32 := if un x 31 = 0 then -101 else nI (fbest x)
theorem e_full {x : Int32} {m : Nat} (h8 : un x 31 ≤ 8) (hm : m < 2 ^ un x 31) (h : c31 (posP x m.testBit) = 31) : m = 2 ^ un x 31 - 1 := by
  refine Classical.byContradiction fun c => ?_
  obtain ⟨i, hi, hb⟩ := tb_some (un x 31) h8 m (by have := Nat.two_pow_pos (un x 31); omega)
  obtain ⟨f, hf, hx, hu⟩ := un_kth hi
  have := c31_pos (P := m.testBit) hf hx (by rw [hu]; exact hb)
  omega
theorem e_done {x y : Int32} {m : Nat} {b0 fi be : Int32} (hyd : y = posP x m.testBit) (h8 : un x 31 ≤ 8) (hm : m < 2 ^ un x 31) (hb0 : b0 = if m = 2 ^ un x 31 - 1 then 0 else -99) (h : tinv x y m b0 0 fi be) : be.toInt = VV y := by
  obtain ⟨h1, h2⟩ := h
  have hyx : ∀ f, f < 31 → bt y f = false → bt x f = false := fun f hf hy => by
    rw [hyd] at hy; exact (pos_un hf hy).1
  by_cases c : c31 y = 31
  · have hmm := e_full h8 hm (by rw [← hyd]; exact c)
    rcases h2 with ⟨a, -, -⟩ | ⟨f, a1, a2, -⟩
    · rw [a, hb0, if_pos hmm, VV_full c]; decide
    · have := fb_ct_all.mp c f a1
      rw [a2] at this; cases this
  · have hlt : c31 y < 31 := by have := c31_le y; omega
    obtain ⟨f, f1, f2, f3⟩ := VV_ex hlt
    have hle := h1 f f1 f2 (hyx f f1 f2) (Nat.zero_le _)
    rcases h2 with ⟨-, -, a⟩ | ⟨g, a1, a2, a3, a4, a5, -⟩
    · have := a f f1 f2 (hyx f f1 f2); omega
    · have := VV_ge a1 a2; omega
theorem e_first {x : Int32} {b0 fi be : Int32} (h31 : bt x 31 = false) (h : tinv x x 0 b0 0 fi be) (hbe : be.toInt = VV x) : fi = FI x := by
  obtain ⟨h1, h2⟩ := h
  have hall := un_all x
  unfold FI
  rcases h2 with ⟨-, b, a⟩ | ⟨f, a1, a2, a3, a4, a5, a6, a7⟩
  · have : un x 31 = 0 := by
      refine Classical.byContradiction fun c => ?_
      obtain ⟨f, f1, f2, -⟩ := un_kth (x := x) (i := 0) (by omega)
      have := a f f1 f2 f2
      omega
    rw [if_pos this, b]
  · have hlt := un_lt (n := 31) a1 a3
    have hc : c31 x < 31 := by omega
    obtain ⟨q1, q2, q3, q4⟩ := fbest_ok hc
    have hff : f = fbest x := by
      generalize fbest x = w at *
      rcases Nat.lt_trichotomy f w with c | c | c
      · exact (q4 f c a2 (by omega)).elim
      · exact c
      · have := a7 w c q2 q2 (Nat.zero_le _)
        omega
    rw [if_neg (by omega), a6, if_pos rfl, hff]
theorem e_out {x : Int32} {u : Nat → Int32} (h31 : bt x 31 = false) (h8 : un x 31 ≤ 8) (ho : opn x u) : ∀ (j : Nat) (L : Nat → Nat) (fi : Int32), j ≤ 2 ^ un x 31 → (∀ i, L i < 200) → (∀ k, j ≤ k → k < 2 ^ un x 31 → L k = (VV (posP x k.testBit) + 100).toNat) → (∀ k, k < j → L k = 0) → (fi = if j = 0 then FI x else -101) → ∀ N, j < N → ∃ L2 : Nat → Nat, k_loop (t_L_isEnd_101 x (nI (un x 31)) u) N (fi, nI j - 1, vr L) = some (FI x, nI 0 - 1, vr L2) ∧ (∀ i, L2 i < 200) ∧ L2 0 = (VV x + 100).toNat := by
  intro j
  induction j with
  | zero =>
    intro L fi _ hL hv _ hfi N hN
    obtain ⟨N, rfl⟩ : ∃ M, N = M + 1 := ⟨N - 1, by omega⟩
    rw [if_pos rfl] at hfi
    refine ⟨L, k_loopR ?_, hL, ?_⟩
    · unfold t_L_isEnd_101
      rw [if_pos (show nI 0 - 1 < (0 : Int32) by decide), hfi]
    · have := hv 0 (Nat.le_refl _) (Nat.two_pow_pos _)
      rw [tb_none h31] at this
      exact this
  | succ m ih =>
    intro L fi hj hL hv hz hfi N hN
    obtain ⟨N, rfl⟩ : ∃ M, N = M + 1 := ⟨N - 1, by omega⟩
    have hp8 := pw8 _ h8
    have hm : m < 2 ^ un x 31 := by omega
    rw [if_neg (by omega)] at hfi
    obtain ⟨e1, e2⟩ := v_ix m (by omega)
    obtain ⟨s1, -⟩ := sh_one (un x 31) h8
    obtain ⟨y, hyd⟩ : ∃ y, y = posP x m.testBit := ⟨_, rfl⟩
    obtain ⟨b0, hb0⟩ : ∃ b : Int32, b = if m = 2 ^ un x 31 - 1 then 0 else -99 := ⟨_, rfl⟩
    have hbd : b0 = -99 ∨ ∀ f, f < 31 → bt y f = true := by
      by_cases c : m = 2 ^ un x 31 - 1
      · refine Or.inr fun f hf => ?_
        have := pos_full (x := x) (P := m.testBit) fun i hi => by rw [c]; exact tb_all _ h8 i hi
        rw [← hyd] at this
        exact fb_ct_all.mp this f hf
      · rw [if_neg c] at hb0; exact Or.inl hb0
    have h0 : tinv x y m b0 (un x 31) (-101) b0 := ⟨fun f hf _ hx hu => by have := un_lt (n := 31) hf hx; omega, Or.inl ⟨rfl, rfl, fun f hf _ hx => un_lt hf hx⟩⟩
    obtain ⟨fi1, be1, t1, t2⟩ := e_try (L := L) hyd h31 h8 ho hL hm (fun k h1 h2 => hv k (by omega) h2) hbd (un x 31) (-101) b0 (Nat.le_refl _) h0 1000 (by omega)
    have hbe := e_done hyd h8 hm hb0 t2
    have hVb := VV_b y
    have hcb := cb_le y
    obtain ⟨B, hB⟩ : ∃ B : Nat, B = (VV y + 100).toNat := ⟨_, rfl⟩
    have hBe : be1 + 100 = nI B := by
      have h2 : ((100 : Int32)).toInt = 100 := by decide
      rw [fa_eq, fb_addI (by omega) (by omega), h2, hbe, nI_toInt (by omega), hB]
      omega
    have step : t_L_isEnd_101 x (nI (un x 31)) u (fi, nI (m + 1) - 1, vr L) = some (.inl (fi1, nI m - 1, vr (fun i => if i = m then B else L i))) := by
      rw [nI_pred]
      unfold t_L_isEnd_101 k_let
      dsimp only
      rw [if_neg (nI_pos (by omega)), s1]
      refine (k_bs (a := b0) ?_).trans ?_
      · by_cases c : m = 2 ^ un x 31 - 1
        · rw [if_pos ((nI_eq (by omega) (by omega)).mpr c), hb0, if_pos c]
        · rw [if_neg fun q => c ((nI_eq (by omega) (by omega)).mp q), hb0, if_neg c]
      · refine (k_bs (e_set h31 h8 ho)).trans ?_
        rw [← hyd, hfi]
        refine (k_bs t1).trans ?_
        dsimp only
        rw [e2, e1, hBe, nI_clamp (by omega), v_set (by omega) (by omega) (hz m (by omega))]
        have hg : ¬ (nI (m / 4) < 0 ∨ 64 ≤ m / 4) := fun q => q.elim (nI_pos (by omega)) (by omega)
        rw [if_neg hg, if_neg hg, (Int32.sub_eq_add_neg _ _).symm]
    rw [k_loopS step]
    refine ih _ fi1 (by omega) (fun i => ?_) (fun k h1 h2 => ?_) (fun k h1 => ?_) ?_ N (by omega)
    · by_cases c : i = m
      · rw [if_pos c]; omega
      · rw [if_neg c]; exact hL i
    · by_cases c : k = m
      · rw [if_pos c, hB, hyd, c]
      · rw [if_neg c]; exact hv k (by omega) h2
    · rw [if_neg (by omega)]; exact hz k (by omega)
    · by_cases c : m = 0
      · rw [if_pos c]
        subst c
        have hyx : y = x := by rw [hyd]; exact tb_none h31
        rw [hyx] at t2 hbe
        exact e_first h31 t2 hbe
      · rw [if_neg c]
        rcases t2.2 with ⟨-, b, -⟩ | ⟨f, -, -, -, -, -, a6, -⟩
        · exact b
        · rw [a6, if_neg c]
theorem e_zero : vr (fun _ => 0) = fun _ => 0 := by
  funext q
  show lN (0 + 0 * 65536 + 0 * 4294967296 + 0 * 281474976710656) = 0
  simp only [Nat.zero_mul, Nat.add_zero]
  rfl
theorem e_endD {g : k_G8} (h31 : bt g.1 31 = false) (hn : 23 ≤ c31 g.1) (es : Int32) (op fo : Nat → Int32) : ∃ (v e : Int32) (O F : Nat → Int32), f_L_endDifferenceOf g es op fo = some (v, e, O, F) ∧ v.toInt = VV g.1 := by
  have hu := un_all g.1
  obtain ⟨O, F, h1, h2, h3⟩ := q_workOut hn es op fo
  obtain ⟨v, h4, h5⟩ := q_difference h31 (by omega) h3
  refine ⟨v, nI (un g.1 31), O, F, ?_, h5⟩
  unfold f_L_endDifferenceOf f_X7_endDifference
  refine (k_bs (a := Sum.inl (v, nI (un g.1 31), O, F)) ?_).trans rfl
  refine (k_bs (q_isNear h31)).trans ?_
  rw [if_pos hn, if_neg (by decide)]
  refine (k_bs h1).trans ?_
  exact (k_bs h4).trans rfl
theorem e_endDN {g : k_G8} (h31 : bt g.1 31 = false) (hn : ¬ 23 ≤ c31 g.1) (es : Int32) (op fo : Nat → Int32) : f_L_endDifferenceOf g es op fo = some (-101, es, op, fo) := by
  unfold f_L_endDifferenceOf f_X7_endDifference
  refine (k_bs (a := Sum.inr ("java/util/NoSuchElementException", es, op, fo)) ?_).trans (by simp)
  refine (k_bs (q_isNear h31)).trans ?_
  rw [if_neg hn, if_pos (by decide)]
theorem e_endT {g : k_G8} (h31 : bt g.1 31 = false) (hn : 23 ≤ c31 g.1) : ∃ v : Int32, f_L_endByTryingOf g = some v ∧ v.toInt = VV g.1 := by
  obtain ⟨v, h1, h2⟩ := q_byTrying h31 (by omega)
  refine ⟨v, ?_, h2⟩
  unfold f_L_endByTryingOf f_X7_endByTrying
  refine (k_bs (a := Sum.inl v) ?_).trans rfl
  refine (k_bs (q_isNear h31)).trans ?_
  rw [if_pos hn, if_neg (by decide)]
  exact (k_bs h1).trans rfl
theorem e_endTN {g : k_G8} (h31 : bt g.1 31 = false) (hn : ¬ 23 ≤ c31 g.1) : f_L_endByTryingOf g = some (-101) := by
  unfold f_L_endByTryingOf f_X7_endByTrying
  refine (k_bs (a := Sum.inr "java/util/NoSuchElementException") ?_).trans (by simp)
  refine (k_bs (q_isNear h31)).trans ?_
  rw [if_neg hn, if_pos (by decide)]
theorem e_best {g : k_G8} (h31 : bt g.1 31 = false) (hn : 23 ≤ c31 g.1) (es : Int32) (op fo : Nat → Int32) : ∃ (e : Int32) (O F : Nat → Int32), f_L_bestFenceOf g es op fo = some (FI g.1, e, O, F) := by
  have hu := un_all g.1
  unfold f_L_bestFenceOf f_X7_bestFence FI
  by_cases c : c31 g.1 = 31
  · refine ⟨es, op, fo, ?_⟩
    rw [if_pos (by omega)]
    refine (k_bs (a := Sum.inr ("java/util/NoSuchElementException", es, op, fo)) ?_).trans (by simp)
    refine (k_bs (q_isNear h31)).trans ?_
    rw [if_pos hn, if_neg (by decide)]
    refine (k_bs (q_hasEnded h31)).trans ?_
    rw [if_pos c, if_neg (by decide)]
  · obtain ⟨O, F, h1, h2, h3⟩ := q_workOut hn es op fo
    have hc : c31 g.1 < 31 := by have := c31_le g.1; omega
    refine ⟨nI (un g.1 31), O, F, ?_⟩
    rw [if_neg (by omega)]
    refine (k_bs (a := Sum.inl (nI (fbest g.1), nI (un g.1 31), O, F)) ?_).trans rfl
    refine (k_bs (q_isNear h31)).trans ?_
    rw [if_pos hn, if_neg (by decide)]
    refine (k_bs (q_hasEnded h31)).trans ?_
    rw [if_neg c, if_pos (by decide)]
    refine (k_bs h1).trans ?_
    exact (k_bs (q_lowestBest h31 (by omega) hc h2 h3)).trans rfl
theorem e_bestN {g : k_G8} (h31 : bt g.1 31 = false) (hn : ¬ 23 ≤ c31 g.1) (es : Int32) (op fo : Nat → Int32) : f_L_bestFenceOf g es op fo = some (-101, es, op, fo) := by
  unfold f_L_bestFenceOf f_X7_bestFence
  refine (k_bs (a := Sum.inr ("java/util/NoSuchElementException", es, op, fo)) ?_).trans (by simp)
  refine (k_bs (q_isNear h31)).trans ?_
  rw [if_neg hn, if_pos (by decide)]
theorem e_isEnd {g : k_G8} (h31 : bt g.1 31 = false) (es : Int32) (op fo : Nat → Int32) : ∃ (e : Int32) (O F : Nat → Int32), f_L_isEnd g.1 g es op fo = some (1, e, O, F) := by
  have hu := un_all g.1
  have hc31 := c31_le g.1
  unfold f_L_isEnd k_let
  rw [p_count, q_n31 h31]
  by_cases hn : 23 ≤ c31 g.1
  · obtain ⟨s1, s2⟩ := sh_one (un g.1 31) (by omega)
    obtain ⟨L2, l1, l2, l3⟩ := e_out h31 (by omega) (ro_opn g.1 (fun _ => 0)) (2 ^ un g.1 31) (fun _ => 0) (-101) (Nat.le_refl _) (fun _ => by omega) (fun k h1 h2 => by omega) (fun _ _ => rfl) (by rw [if_neg (by have := Nat.two_pow_pos (un g.1 31); omega)]) 1000 (by have := pw8 (un g.1 31) (by omega); omega)
    obtain ⟨v, e, O, F, d1, d2⟩ := e_endD h31 hn es op fo
    obtain ⟨w, w1, w2⟩ := e_endT h31 hn
    obtain ⟨e3, O3, F3, b1⟩ := e_best h31 hn e O F
    have hVb := VV_b g.1
    have hcb := cb_le g.1
    have hval : f_L_value 0 (vr L2) = some (nI (L2 0) - 100) := v_value l2 (m := 0) (by omega)
    have hvi : (nI (L2 0) - 100).toInt = VV g.1 := by
      have h1 := nI_toInt (n := L2 0) (by have := l2 0; omega)
      have h2 : ((100 : Int32)).toInt = 100 := by decide
      have := l2 0
      rw [fb_subI (by omega) (by omega), h1, h2, l3]
      omega
    refine ⟨e3, O3, F3, ?_⟩
    refine (k_bs rfl).trans ?_
    rw [if_pos (show (23 : Int32) ≤ nI (c31 g.1) from nI_le (a := 23) hn (by omega))]
    refine (k_bs (e_opens (by omega))).trans ?_
    dsimp only
    rw [s2, ← e_zero, l1]
    refine (k_bs rfl).trans ?_
    refine (k_bs d1).trans ?_
    dsimp only
    refine (k_bs hval).trans ?_
    refine (k_bs (a := ((1 : Int32), e3, O3, F3)) ?_).trans (if_pos (Or.inr rfl))
    rw [if_pos ((fa_eq _ _).mpr (by rw [d2, hvi]))]
    refine (k_bs w1).trans ?_
    refine (k_bs hval).trans ?_
    rw [if_pos ((fa_eq _ _).mpr (by rw [w2, hvi]))]
    refine (k_bs b1).trans ?_
    rw [if_pos rfl]
  · refine ⟨es, op, fo, ?_⟩
    refine (k_bs rfl).trans ?_
    rw [if_neg (show ¬ (23 : Int32) ≤ nI (c31 g.1) from nI_ge (b := 23) (by omega) (by decide))]
    refine (k_bs (e_endDN h31 hn es op fo)).trans ?_
    refine (k_bs (a := ((1 : Int32), es, op, fo)) ?_).trans (if_pos (Or.inr rfl))
    dsimp only
    rw [if_pos rfl]
    refine (k_bs (e_endTN h31 hn)).trans ?_
    rw [if_pos rfl]
    refine (k_bs (e_bestN h31 hn es op fo)).trans ?_
    rw [if_pos rfl]
