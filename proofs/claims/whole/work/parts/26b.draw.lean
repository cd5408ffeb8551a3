/-! A fence is drawn: class and model. -/
theorem q_fence (n : Int32) : (∃ f, f < 31 ∧ n = nI f ∧ f_X7_isFence n = some 1 ∧ f_X8_isFence n = some 1) ∨ (f_X7_isFence n = some 0 ∧ f_X8_isFence n = some 0) := by
  unfold f_X7_isFence f_X8_isFence f_X8_in
  by_cases c : n < 0
  · refine Or.inr ⟨by rw [if_pos c], ?_⟩
    rw [if_pos c]; rfl
  · obtain ⟨f, hf, rfl⟩ := nI_of c
    by_cases d : f < 31
    · refine Or.inl ⟨f, d, rfl, ?_, ?_⟩
      · rw [if_neg c, if_neg (show ¬ (31 : Int32) ≤ nI f from nI_ge (b := 31) d (by decide))]
      · rw [if_neg c, if_neg (show ¬ (30 : Int32) < nI f from nI_nlt (a := 30) (by omega) (by omega))]; rfl
    · refine Or.inr ⟨?_, ?_⟩
      · rw [if_neg c, if_pos (show (31 : Int32) ≤ nI f from nI_le (a := 31) (by omega) hf)]
      · rw [if_neg c, if_pos (show (30 : Int32) < nI f from nI_lt (a := 30) (by omega) hf)]; rfl
theorem q_box (n : Int32) : (∃ f, f < 12 ∧ n = nI f ∧ f_X7_isBox n = some 1 ∧ f_X8_isBox n = some 1) ∨ (f_X7_isBox n = some 0 ∧ f_X8_isBox n = some 0) := by
  unfold f_X7_isBox f_X8_isBox f_X8_in
  by_cases c : n < 0
  · refine Or.inr ⟨by rw [if_pos c], ?_⟩
    rw [if_pos c]; rfl
  · obtain ⟨f, hf, rfl⟩ := nI_of c
    by_cases d : f < 12
    · refine Or.inl ⟨f, d, rfl, ?_, ?_⟩
      · rw [if_neg c, if_neg (show ¬ (12 : Int32) ≤ nI f from nI_ge (b := 12) d (by decide))]
      · rw [if_neg c, if_neg (show ¬ (11 : Int32) < nI f from nI_nlt (a := 11) (by omega) (by omega))]; rfl
    · refine Or.inr ⟨?_, ?_⟩
      · rw [if_neg c, if_pos (show (12 : Int32) ≤ nI f from nI_le (a := 12) (by omega) hf)]
      · rw [if_neg c, if_pos (show (11 : Int32) < nI f from nI_lt (a := 11) (by omega) hf)]; rfl
theorem q_player (n : Int32) : (∃ f, f < 2 ∧ n = nI f ∧ f_X7_isPlayer n = some 1 ∧ f_X8_in n 0 1 = some 1) ∨ (f_X7_isPlayer n = some 0 ∧ f_X8_in n 0 1 = some 0) := by
  unfold f_X7_isPlayer f_X8_in
  by_cases c : n < 0
  · refine Or.inr ⟨?_, by rw [if_pos c]⟩
    rw [if_neg (fun e => by rw [e] at c; exact absurd c (by decide)), if_neg (fun e => by rw [e] at c; exact absurd c (by decide))]
  · obtain ⟨f, hf, rfl⟩ := nI_of c
    by_cases d : f < 2
    · refine Or.inl ⟨f, d, rfl, ?_, ?_⟩
      · rcases (show f = 0 ∨ f = 1 by omega) with rfl | rfl <;> decide
      · rw [if_neg c, if_neg (show ¬ (1 : Int32) < nI f from nI_nlt (a := 1) (by omega) (by omega))]
    · refine Or.inr ⟨?_, ?_⟩
      · rw [if_neg (show ¬ nI f = (0 : Int32) from fun e => by have := (nI_eq (b := 0) hf (by decide)).mp e; omega), if_neg (show ¬ nI f = (1 : Int32) from fun e => by have := (nI_eq (b := 1) hf (by decide)).mp e; omega)]
      · rw [if_neg c, if_pos (show (1 : Int32) < nI f from nI_lt (a := 1) (by omega) hf)]
/-- the class's game behind a fence that closes the boxes c, before the end is settled -/
def puG (g : k_G8) (f : Nat) (c : Int32) : k_G8 := (st g.1 f, (if g.2.2.2.1 = 0 then g.2.1 ||| c else g.2.1), (if g.2.2.2.1 = 0 then g.2.2.1 else g.2.2.1 ||| c), (if cl g.1 f = 0 then 1 - g.2.2.2.1 else g.2.2.2.1), g.2.2.2.2.1, g.2.2.2.2.2.1, g.2.2.2.2.2.2.1, (if cl g.1 f = 2 then g.2.2.2.2.2.2.2 + 1 else g.2.2.2.2.2.2.2))
theorem q_put {g : k_G8} {f : Nat} {c : Int32} (h31 : bt g.1 31 = false) (hf : f < 31) (h1 : f_X3_closedWith (st g.1 f) (nI f) = some c) (h2 : f_J6_bitCount_0f7a4 c = some (nI (cl g.1 f))) : f_X2_put (nI f) g = some (nI (cl g.1 f), if c31 (st g.1 f) = 31 then seG (puG g f c) else puG g f c) := by
  have hst : bt (st g.1 f) 31 = false := by
    rw [q_st (by omega) (by omega), h31]; simp; omega
  have hcl := q_cl12 g.1 f
  unfold f_X2_put k_let
  show ((f_X3_closedWith (st g.1 f) (nI f)).bind _) = _
  rw [h1]
  simp only [Option.bind_some]
  rw [h2]
  simp only [Option.bind_some]
  have e2 : (nI (cl g.1 f) = (2 : Int32)) ↔ cl g.1 f = 2 := nI_eq (b := 2) (by omega) (by decide)
  have e0 : (nI (cl g.1 f) = (0 : Int32)) ↔ cl g.1 f = 0 := nI_eq (b := 0) (by omega) (by decide)
  have fin : ∀ G : k_G8, G.1 = st g.1 f → ((f_X2_hasEnded G).bind fun v => if v = 0 then some (nI (cl g.1 f), G) else (f_X2_settle G).bind fun v42 => some (nI (cl g.1 f), v42)) = some (nI (cl g.1 f), if c31 (st g.1 f) = 31 then seG G else G) := by
    intro G hG
    rw [q_hasEnded (g := G) (by rw [hG]; exact hst), q_settle, hG]
    simp only [Option.bind_some]
    by_cases z : c31 (st g.1 f) = 31
    · rw [if_pos z, if_neg (by decide), if_pos z]
    · rw [if_neg z, if_pos rfl, if_neg z]
  unfold puG
  by_cases m : g.2.2.2.1 = 0
  · rw [if_pos m, if_pos m, if_pos m]
    by_cases c2 : cl g.1 f = 2
    · rw [if_pos (e2.mpr c2), if_pos c2, if_neg (fun q => by have := e0.mp q; omega), if_neg (show ¬ cl g.1 f = 0 by omega)]
      exact fin _ rfl
    · rw [if_neg (fun q => c2 (e2.mp q)), if_neg c2]
      by_cases c0 : cl g.1 f = 0
      · rw [if_pos (e0.mpr c0), if_pos c0]
        exact fin _ rfl
      · rw [if_neg (fun q => c0 (e0.mp q)), if_neg c0]
        exact fin _ rfl
  · rw [if_neg m, if_neg m, if_neg m]
    by_cases c2 : cl g.1 f = 2
    · rw [if_pos (e2.mpr c2), if_pos c2, if_neg (fun q => by have := e0.mp q; omega), if_neg (show ¬ cl g.1 f = 0 by omega)]
      exact fin _ rfl
    · rw [if_neg (fun q => c2 (e2.mp q)), if_neg c2]
      by_cases c0 : cl g.1 f = 0
      · rw [if_pos (e0.mpr c0), if_pos c0]
        exact fin _ rfl
      · rw [if_neg (fun q => c0 (e0.mp q)), if_neg c0]
        exact fin _ rfl
/-- the model's row: the owners first -/
def ow (s : Nat → Int32) (f n : Nat) : Nat → Int32 := fun j => if (1 ≤ j ∧ j ≤ n) ∧ bes f (j - 1) = true ∧ cn (s 0) (j - 1) = 3 then s 13 + 1 else s j
theorem q_owners {s : Nat → Int32} {f : Nat} {b : Int32} (hf : f < 31) : k_loop (t_X8_draw_49 (nI f) b) 1000 (0, s) = some (nI 12, ow s f 12) := by
  have e0 : ow s f 0 = s := by funext j; unfold ow; rw [if_neg (by omega)]
  have h := k_for (step := t_X8_draw_49 (nI f) b) (fun i => (nI i, ow s f i)) 12 (nI 12, ow s f 12) ?_ ?_ 1000 (by decide)
  · rw [e0] at h; exact h
  · intro i hi
    have o0 : ow s f i 0 = s 0 := by unfold ow; rw [if_neg (by omega)]
    have o13 : ow s f i 13 = s 13 := by unfold ow; rw [if_neg (by omega)]
    have hsucc : ow s f (i + 1) = if bes f i = true ∧ cn (s 0) i = 3 then upd (ow s f i) (i + 1) (s 13 + 1) else ow s f i := by
      funext j
      by_cases c : bes f i = true ∧ cn (s 0) i = 3
      · rw [if_pos c]
        unfold upd
        by_cases e : j = i + 1
        · subst e
          rw [if_pos rfl]
          show (if _ then _ else _) = _
          rw [if_pos ⟨⟨by omega, Nat.le_refl _⟩, by simpa using c⟩]
        · rw [if_neg e]
          show (if _ then _ else _) = (if _ then _ else _)
          have hiff : ((1 ≤ j ∧ j ≤ i + 1) ∧ bes f (j - 1) = true ∧ cn (s 0) (j - 1) = 3) ↔ ((1 ≤ j ∧ j ≤ i) ∧ bes f (j - 1) = true ∧ cn (s 0) (j - 1) = 3) := ⟨fun h => ⟨⟨h.1.1, by omega⟩, h.2⟩, fun h => ⟨⟨h.1.1, by omega⟩, h.2⟩⟩
          by_cases d : (1 ≤ j ∧ j ≤ i) ∧ bes f (j - 1) = true ∧ cn (s 0) (j - 1) = 3
          · rw [if_pos d, if_pos (hiff.mpr d)]
          · rw [if_neg d, if_neg (fun q => d (hiff.mp q))]
      · rw [if_neg c]
        show (if _ then _ else _) = (if _ then _ else _)
        by_cases d : (1 ≤ j ∧ j ≤ i) ∧ bes f (j - 1) = true ∧ cn (s 0) (j - 1) = 3
        · rw [if_pos d, if_pos ⟨⟨d.1.1, by omega⟩, d.2⟩]
        · rw [if_neg d, if_neg (fun q => by
            by_cases e : j = i + 1
            · subst e; exact c (by simpa using q.2)
            · exact d ⟨⟨q.1.1, by omega⟩, q.2⟩)]
    unfold t_X8_draw_49 k_let
    dsimp only
    simp only [if_neg (show ¬ (12 : Int32) ≤ nI i from nI_ge (b := 12) hi (by decide)), one_nI i, nI_1 i, q_isBeside (show f < 32 by omega) hi, Option.bind_some, o0, o13, q_mhas hi, hsucc]
    have h4 := q_cn4 (s 0) i
    cases hb : bes f i
    · rw [if_neg (c := false = true) Bool.false_ne_true, if_pos rfl, if_neg (fun q => by cases q.1)]
    · rw [if_pos (c := true = true) rfl, if_neg (by decide)]
      by_cases c : cn (s 0) i = 3
      · rw [if_pos (by rw [c]; rfl), if_neg (nI_in (c := i + 1) (N := 19) (by omega) (by decide)), nI_clamp (by omega), if_pos ⟨rfl, c⟩]
      · rw [if_neg (show ¬ nI (cn (s 0) i) = (3 : Int32) from fun q => c ((nI_eq (a := cn (s 0) i) (b := 3) (by omega) (by decide)).mp q)), if_neg (fun q => c q.2)]
  · rfl
def drow (s : Nat → Int32) (f n : Nat) : Nat → Int32 := upd (upd (upd (upd (ow s f 12) 0 (st (s 0) f)) 18 (s 18 + 1)) 17 (if n = 2 then s 17 + 1 else s 17 + 0)) 13 (if n = 0 then 1 - s 13 else s 13)
theorem drow_at {s : Nat → Int32} {f n : Nat} : drow s f n 0 = st (s 0) f ∧ drow s f n 18 = s 18 + 1 ∧ drow s f n 17 = (if n = 2 then s 17 + 1 else s 17 + 0) ∧ drow s f n 13 = (if n = 0 then 1 - s 13 else s 13) ∧ drow s f n 14 = s 14 ∧ drow s f n 15 = s 15 ∧ drow s f n 16 = s 16 ∧ ∀ k, k < 12 → drow s f n (k + 1) = if bes f k = true ∧ cn (s 0) k = 3 then s 13 + 1 else s (k + 1) := by
  have ho : ∀ j, 12 < j → ow s f 12 j = s j := fun j hj => by unfold ow; rw [if_neg (by omega)]
  have u : ∀ (r : Nat → Int32) (i : Nat) (v : Int32) (j : Nat), upd r i v j = if j = i then v else r j := fun _ _ _ _ => rfl
  unfold drow
  refine ⟨?_, ?_, ?_, ?_, ?_, ?_, ?_, fun k hk => ?_⟩
  · simp [u]
  · simp [u]
  · simp [u]
  · simp [u]
  · simp [u, ho]
  · simp [u, ho]
  · simp [u, ho]
  · rw [u, u, u, u, if_neg (by omega), if_neg (by omega), if_neg (by omega), if_neg (by omega)]
    unfold ow
    by_cases c : bes f k = true ∧ cn (s 0) k = 3
    · rw [if_pos c, if_pos ⟨by omega, by simpa using c⟩]
    · rw [if_neg c, if_neg (fun q => c (by simpa using q.2))]
theorem q_drel {g : k_G8} {s : Nat → Int32} {f : Nat} {c : Int32} (h : rg8 g s) (hf : f < 31) (hx : bt g.1 f = false) (hc : ∀ i, i < 32 → bt c i = (decide (i < 12) && (bes f i && decide (cn g.1 i = 3)))) : rg8 (puG g f c) (drow s f (cl g.1 f)) := by
  obtain ⟨a1, a2, a3, a4, a5, a6, a7, a8, a9, a10, a11, a12, a13, a14⟩ := h
  obtain ⟨d0, d18, d17, d13, d14, d15, d16, dk⟩ := drow_at (s := s) (f := f) (n := cl g.1 f)
  unfold rg8 puG
  dsimp only
  have hnc : ∀ k, k < 12 → bes f k = true → cn g.1 k ≠ 4 := by
    intro k hk hb e
    have := (q_cnc hk).mp e f (by omega) hb
    rw [hx] at this; cases this
  refine ⟨by rw [d0, a1], ?_, ?_, ?_, ?_, ?_, ?_, ?_, ?_, ?_, ?_, ?_, ?_, ?_⟩
  · rw [q_st (by omega) (by omega), a2]; simp; omega
  · rw [d18, a3, q_c31 hf hx]; exact nI_1 _
  · intro k hk
    rw [dk k hk, a1, a9, a4 k hk]
    have hck := hc k (by omega)
    have h7 := a7 k hk
    by_cases m : g.2.2.2.1 = 0
    · rw [if_pos m, if_pos m, b_or, hck, m]
      by_cases z : bes f k = true ∧ cn g.1 k = 3
      · rw [if_pos z, z.1, z.2]; simp [hk, own]
      · rw [if_neg z]
        have : (decide (k < 12) && (bes f k && decide (cn g.1 k = 3))) = false := by
          cases hb : bes f k
          · simp
          · simp [hk]; exact fun q => z ⟨hb, q⟩
        rw [this, Bool.or_false]
    · have m1 : g.2.2.2.1 = 1 := a10.resolve_left m
      rw [if_neg m, if_neg m, b_or, hck, m1]
      by_cases z : bes f k = true ∧ cn g.1 k = 3
      · rw [if_pos z, z.1, z.2]
        have : (bt g.2.1 k || bt g.2.2.1 k) = false := by rw [h7, z.2]; rfl
        have hf1 : bt g.2.1 k = false := by
          cases q : bt g.2.1 k
          · rfl
          · rw [q] at this; cases this
        rw [hf1]; simp [hk, own]
      · rw [if_neg z]
        have : (decide (k < 12) && (bes f k && decide (cn g.1 k = 3))) = false := by
          cases hb : bes f k
          · simp
          · simp [hk]; exact fun q => z ⟨hb, q⟩
        rw [this, Bool.or_false]
  · intro k hk hb
    by_cases m : g.2.2.2.1 = 0
    · rw [if_pos m, b_or] at hb
      rcases Bool.or_eq_true _ _ ▸ hb with q | q
      · exact a5 k hk q
      · rw [hc k hk] at q; simp only [Bool.and_eq_true, decide_eq_true_eq] at q; exact q.1
    · rw [if_neg m] at hb; exact a5 k hk hb
  · intro k hk hb
    by_cases m : g.2.2.2.1 = 0
    · rw [if_pos m] at hb; exact a6 k hk hb
    · rw [if_neg m, b_or] at hb
      rcases Bool.or_eq_true _ _ ▸ hb with q | q
      · exact a6 k hk q
      · rw [hc k hk] at q; simp only [Bool.and_eq_true, decide_eq_true_eq] at q; exact q.1
  · intro k hk
    have hck := hc k (by omega)
    have h7 := a7 k hk
    have hn := hnc k hk
    rw [q_cnst hk hf hx]
    have e : ∀ p q : Bool, (if g.2.2.2.1 = 0 then g.2.1 ||| c else g.2.1) = (if g.2.2.2.1 = 0 then g.2.1 ||| c else g.2.1) := fun _ _ => rfl
    have hor : (bt (if g.2.2.2.1 = 0 then g.2.1 ||| c else g.2.1) k || bt (if g.2.2.2.1 = 0 then g.2.2.1 else g.2.2.1 ||| c) k) = ((bt g.2.1 k || bt g.2.2.1 k) || bt c k) := by
      by_cases m : g.2.2.2.1 = 0
      · rw [if_pos m, if_pos m, b_or]
        cases bt g.2.1 k <;> cases bt g.2.2.1 k <;> cases bt c k <;> rfl
      · rw [if_neg m, if_neg m, b_or]
        cases bt g.2.1 k <;> cases bt g.2.2.1 k <;> cases bt c k <;> rfl
    rw [hor, h7, hck]
    cases hb : bes f k
    · simp
    · have := hn hb
      simp [hk, this]
  · intro k hk
    have hck := hc k (by omega)
    have h7 := a7 k hk
    have h8 := a8 k hk
    have hcc : bt c k = true → (bt g.2.1 k || bt g.2.2.1 k) = false := by
      intro q
      rw [hck] at q
      simp only [Bool.and_eq_true, decide_eq_true_eq] at q
      rw [h7, q.2.2]; rfl
    by_cases m : g.2.2.2.1 = 0
    · rw [if_pos m, if_pos m, b_or]
      cases hA : bt g.2.1 k <;> cases hB : bt g.2.2.1 k <;> cases hC : bt c k <;> simp_all
    · rw [if_neg m, if_neg m, b_or]
      cases hA : bt g.2.1 k <;> cases hB : bt g.2.2.1 k <;> cases hC : bt c k <;> simp_all
  · rw [d13, a9]
  · by_cases z : cl g.1 f = 0
    · rw [if_pos z]
      rcases a10 with q | q <;> rw [q]
      · exact Or.inr rfl
      · exact Or.inl rfl
    · rw [if_neg z]; exact a10
  · rw [d14, a11]
  · rw [d15, a12]
  · rw [d16, a13]
  · rw [d17, a14]
    by_cases z : cl g.1 f = 2
    · rw [if_pos z, if_pos z]
    · rw [if_neg z, if_neg z, Int32.add_zero]
