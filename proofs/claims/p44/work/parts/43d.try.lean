/-! The law's 'isEnd': one set of open fences tried. -/
def tinv (x y : Int32) (m : Nat) (b0 : Int32) (j : Nat) (fi be : Int32) : Prop := (∀ f, f < 31 → bt y f = false → bt x f = false → j ≤ un x f → mv y f ≤ be.toInt) ∧ ((be = b0 ∧ fi = -101 ∧ ∀ f, f < 31 → bt y f = false → bt x f = false → un x f < j) ∨ ∃ f, f < 31 ∧ bt y f = false ∧ bt x f = false ∧ j ≤ un x f ∧ be.toInt = mv y f ∧ fi = (if m = 0 then nI f else -101) ∧ ∀ g, g < f → bt y g = false → bt x g = false → j ≤ un x g → mv y g < be.toInt)
/-- what is got by the fence f, as the machine has it -/
theorem e_its {y w : Int32} {f : Nat} (hw : w.toInt = VV (st y f)) : ∃ t : Int32, (if nI (cl y f) ≤ 0 then some (-w) else some (nI (cl y f) + w)) = some t ∧ t.toInt = mv y f := by
  have hc := q_cl12 y f
  have hb := VV_b (st y f)
  unfold mv
  by_cases c : cl y f = 0
  · rw [c, if_pos (show nI 0 ≤ (0 : Int32) by decide), if_neg (by omega)]
    refine ⟨_, rfl, ?_⟩
    rw [fb_negI (by omega), hw]
  · rw [if_neg (show ¬ nI (cl y f) ≤ (0 : Int32) from nI_nle (by omega) (by omega)), if_pos (by omega)]
    refine ⟨_, rfl, ?_⟩
    have hn := nI_toInt (n := cl y f) (by omega)
    rw [fb_addI (by omega) (by omega), hn, hw]
theorem tinv_skip {x y b0 fi be : Int32} {m j f : Nat} (hf : f < 31) (hx : bt x f = false) (hu : un x f = j) (hy : bt y f = true) (h : tinv x y m b0 (j + 1) fi be) : tinv x y m b0 j fi be := by
  obtain ⟨h1, h2⟩ := h
  have hne : ∀ g, g < 31 → bt y g = false → bt x g = false → j ≤ un x g → j + 1 ≤ un x g := fun g hg gy gx hj => by
    rcases Nat.lt_or_ge j (un x g) with c | c
    · omega
    · have : g = f := un_inj gx hx (by omega)
      rw [this, hy] at gy; cases gy
  refine ⟨fun g hg gy gx hj => h1 g hg gy gx (hne g hg gy gx hj), ?_⟩
  rcases h2 with ⟨a, b, c⟩ | ⟨g, a1, a2, a3, a4, a5, a6, a7⟩
  · refine Or.inl ⟨a, b, fun g hg gy gx => ?_⟩
    have := c g hg gy gx
    rcases Nat.lt_or_ge (un x g) j with d | d
    · exact d
    · have := hne g hg gy gx d; omega
  · exact Or.inr ⟨g, a1, a2, a3, by omega, a5, a6, fun k hk ky kx hj => a7 k hk ky kx (hne k (by omega) ky kx hj)⟩
theorem tinv_take {x y b0 fi be t : Int32} {m j f : Nat} (hf : f < 31) (hx : bt x f = false) (hu : un x f = j) (hy : bt y f = false) (ht : t.toInt = mv y f) (hb0 : b0 = -99) (h : tinv x y m b0 (j + 1) fi be) : tinv x y m b0 j (if m = 0 then (if t < be then fi else nI f) else fi) (if t ≤ be then be else t) := by
  obtain ⟨h1, h2⟩ := h
  have hmv := mv_b hf hy
  have hcb := cb_le y
  have hsp : ∀ g, g < 31 → bt y g = false → bt x g = false → j ≤ un x g → g = f ∨ j + 1 ≤ un x g := fun g hg gy gx hj => by
    rcases Nat.lt_or_ge j (un x g) with c | c
    · exact Or.inr (by omega)
    · exact Or.inl (un_inj gx hx (by omega))
  by_cases c : t < be
  · have c' : t.toInt < be.toInt := (fa_lt t be).mp c
    have c2 : t ≤ be := (fa_le t be).mpr (by omega)
    rw [if_pos c, if_pos c2]
    have hfi : (if m = 0 then fi else fi) = fi := by split <;> rfl
    rw [hfi]
    refine ⟨fun g hg gy gx hj => ?_, ?_⟩
    · rcases hsp g hg gy gx hj with e | e
      · rw [e]; omega
      · exact h1 g hg gy gx e
    · rcases h2 with ⟨a, b, d⟩ | ⟨g, a1, a2, a3, a4, a5, a6, a7⟩
      · exfalso
        rw [a, hb0] at c'
        have : ((-99 : Int32)).toInt = -99 := by decide
        omega
      · refine Or.inr ⟨g, a1, a2, a3, by omega, a5, a6, fun k hk ky kx hj => ?_⟩
        rcases hsp k (by omega) ky kx hj with e | e
        · rw [e]; omega
        · exact a7 k hk ky kx e
  · have c' : be.toInt ≤ t.toInt := Int.not_lt.mp fun q => c ((fa_lt t be).mpr q)
    have hbe : (if t ≤ be then be else t).toInt = mv y f := by
      by_cases d : t ≤ be
      · have := (fa_le t be).mp d
        rw [if_pos d]; omega
      · rw [if_neg d, ht]
    have hfi : (if m = 0 then (if t < be then fi else nI f) else fi) = if m = 0 then nI f else -101 := by
      rw [if_neg c]
      by_cases d : m = 0
      · rw [if_pos d, if_pos d]
      · rw [if_neg d, if_neg d]
        rcases h2 with ⟨-, b, -⟩ | ⟨g, -, -, -, -, -, a6, -⟩
        · exact b
        · rw [a6, if_neg d]
    rw [hfi]
    generalize hB : (if t ≤ be then be else t) = B at hbe ⊢
    refine ⟨fun g hg gy gx hj => ?_, Or.inr ⟨f, hf, hy, hx, by omega, hbe, rfl, fun g hg gy gx hj => ?_⟩⟩
    · rcases hsp g hg gy gx hj with e | e
      · rw [e]; omega
      · have := h1 g hg gy gx e; omega
    · have := un_lt (n := f) hg gx
      omega
theorem e_tstep {x y : Int32} {u : Nat → Int32} {L : Nat → Nat} {m j : Nat} {fi be b0 : Int32} (hyd : y = posP x m.testBit) (h31 : bt x 31 = false) (h8 : un x 31 ≤ 8) (ho : opn x u) (hL : ∀ i, L i < 200) (hm : m < 2 ^ un x 31) (hv : ∀ k, m < k → k < 2 ^ un x 31 → L k = (VV (posP x k.testBit) + 100).toNat) (hb0 : b0 = -99 ∨ ∀ f, f < 31 → bt y f = true) (hj : j < un x 31) (h : tinv x y m b0 (j + 1) fi be) : ∃ fi' be' : Int32, t_L_isEnd_167 x (nI (un x 31)) (nI m) y u (vr L) (fi, be, nI (j + 1) - 1) = some (.inl (fi', be', nI j - 1)) ∧ tinv x y m b0 j fi' be' := by
  obtain ⟨f, hf, hb, hu⟩ := un_kth hj
  have e := ho f hf hb
  rw [hu] at e
  have hp8 := pw8 _ h8
  have hbf : bt y f = m.testBit j := by rw [hyd, pos_bt (by omega), hb, hu]; simp [hf]
  have hz : nI j + (-1) = nI j - 1 := (Int32.sub_eq_add_neg _ _).symm
  rw [nI_pred]
  unfold t_L_isEnd_167
  dsimp only
  rw [if_neg (nI_pos (by omega)), q_bit1 (by omega), q_bt (by omega), hz]
  cases ht : m.testBit j
  · rw [if_pos (by decide)]
    rw [ht] at hbf
    have hb9 : b0 = -99 := by
      rcases hb0 with q | q
      · exact q
      · rw [q f hf] at hbf; cases hbf
    obtain ⟨o1, o2, o3⟩ := tb_or m (by omega) j (by omega)
    have hor : m ||| 2 ^ j < 2 ^ un x 31 := or_lt hm hj
    have hpos : posP x (m ||| 2 ^ j).testBit = st y f := by
      rw [hyd, pos_st hf hb, hu]
      exact congrArg (posP x) (funext fun i => tb_or2 m j i)
    have hVb := VV_b (st y f)
    have hcb := cb_le (st y f)
    have hLk := hv _ (o3 ht) hor
    rw [hpos] at hLk
    have hw : (nI (L (m ||| 2 ^ j)) - 100).toInt = VV (st y f) := by
      have h1 := nI_toInt (n := L (m ||| 2 ^ j)) (by have := hL (m ||| 2 ^ j); omega)
      have h2 : ((100 : Int32)).toInt = 100 := by decide
      rw [fb_subI (by omega) (by omega), h1, h2, hLk]
      omega
    obtain ⟨t, t1, t2⟩ := e_its hw
    refine ⟨if m = 0 then (if t < be then fi else nI f) else fi, if t ≤ be then be else t, ?_, tinv_take hf hb hu hbf t2 hb9 h⟩
    refine (k_bs (a := (if m = 0 then (if t < be then fi else nI f) else fi, if t ≤ be then be else t)) ?_).trans rfl
    rw [o1]
    refine (k_bs (v_value hL o2)).trans ?_
    rw [if_neg (nI_in (show j < 8 by omega) (by decide)), nI_clamp (by omega), e]
    refine (k_bs (p_close hf)).trans ?_
    refine (k_bs t1).trans ?_
    refine (k_bs (a := if m = 0 then (if t < be then fi else nI f) else fi) ?_).trans ?_
    · by_cases c : m = 0
      · rw [if_pos (show nI m = 0 by rw [c]; rfl), if_pos c]
        by_cases d : t < be
        · rw [if_pos d, if_pos d]
        · rw [if_neg d, if_neg (show ¬ (nI j < 0 ∨ 8 ≤ j) from fun q => q.elim (nI_pos (by omega)) (by omega)), if_neg d]
      · rw [if_neg (show ¬ nI m = 0 from nI_ne0 (by omega) (by omega)), if_neg c]
    · refine (k_bs (a := if t ≤ be then be else t) ?_).trans rfl
      by_cases d : t ≤ be
      · rw [if_pos d, if_pos d]
      · rw [if_neg d, if_neg d]
  · rw [if_neg (by decide)]
    rw [ht] at hbf
    exact ⟨fi, be, rfl, tinv_skip hf hb hu hbf h⟩
theorem e_try {x y : Int32} {u : Nat → Int32} {L : Nat → Nat} {m : Nat} {b0 : Int32} (hyd : y = posP x m.testBit) (h31 : bt x 31 = false) (h8 : un x 31 ≤ 8) (ho : opn x u) (hL : ∀ i, L i < 200) (hm : m < 2 ^ un x 31) (hv : ∀ k, m < k → k < 2 ^ un x 31 → L k = (VV (posP x k.testBit) + 100).toNat) (hb0 : b0 = -99 ∨ ∀ f, f < 31 → bt y f = true) : ∀ (j : Nat) (fi be : Int32), j ≤ un x 31 → tinv x y m b0 j fi be → ∀ N, j < N → ∃ fi' be' : Int32, k_loop (t_L_isEnd_167 x (nI (un x 31)) (nI m) y u (vr L)) N (fi, be, nI j - 1) = some (fi', be', nI 0 - 1) ∧ tinv x y m b0 0 fi' be' := by
  intro j
  induction j with
  | zero =>
    intro fi be _ h N hN
    obtain ⟨N, rfl⟩ : ∃ M, N = M + 1 := ⟨N - 1, by omega⟩
    refine ⟨fi, be, k_loopR ?_, h⟩
    unfold t_L_isEnd_167
    rw [if_pos (show nI 0 - 1 < (0 : Int32) by decide)]
  | succ j ih =>
    intro fi be hj h N hN
    obtain ⟨N, rfl⟩ : ∃ M, N = M + 1 := ⟨N - 1, by omega⟩
    obtain ⟨fi1, be1, s1, s2⟩ := e_tstep hyd h31 h8 ho hL hm hv hb0 (by omega) h
    rw [k_loopS s1]
    exact ih fi1 be1 (by omega) s2 N (by omega)
