/-! The model's draw; new games; the row copied. -/
theorem upd_ne {f : Nat → Int32} {k j : Nat} {x : Int32} (h : j ≠ k) : upd f k x j = f j := if_neg h
theorem upd_eq {f : Nat → Int32} {k : Nat} {x : Int32} : upd f k x k = x := if_pos rfl
theorem q_mdraw {g : k_G8} {s : Nat → Int32} {f : Nat} (h : rg8 g s) (hf : f < 31) (hn : ¬ c31 g.1 = 31) (hx : bt g.1 f = false) : ∃ g1 s1, f_X2_put (nI f) g = some (nI (cl g.1 f), g1) ∧ rg8 g1 s1 ∧ ∀ (pa ru la : Int32) (rP : Nat → Int32) (v : Int32 × (Nat → Int32)), f_X8_changes pa ru s rP = some v → f_X8_draw (nI f) pa ru la s rP = some (nI (cl g.1 f), v.1, 0, s1, v.2) := by
  obtain ⟨c, h1, h2, hc⟩ := q_gain hf hx
  have hput := q_put h.2.1 hf h1 h2
  have hrel := q_drel h hf hx hc
  have hdr := drow_at (s := s) (f := f) (n := cl g.1 f)
  have hcl := q_cl12 g.1 f
  have hfe : f_X8_isFence (nI f) = some 1 := by
    rcases q_fence (nI f) with ⟨f2, hf2, e, _, r⟩ | ⟨r1, r2⟩
    · exact r
    · have hl : ∀ f, f < 31 → f_X7_isFence (nI f) = some 1 := by decide +kernel
      rw [hl f hf] at r1
      exact absurd (Option.some.inj r1) (by decide)
  have hc31 : c31 (st g.1 f) = c31 g.1 + 1 := q_c31 hf hx
  have hle := c31_le (st g.1 f)
  have h18 : (drow s f (cl g.1 f) 18 = 31) ↔ c31 (st g.1 f) = 31 := by
    rw [hdr.2.1, h.2.2.1, hc31, nI_1]
    exact nI_eq (b := 31) (by omega) (by decide)
  have hs : ∃ s1, rg8 (if c31 (st g.1 f) = 31 then seG (puG g f c) else puG g f c) s1 ∧ (if drow s f (cl g.1 f) 18 = 31 then f_X8_ends (drow s f (cl g.1 f)) else some (drow s f (cl g.1 f))) = some s1 := by
    by_cases z : c31 (st g.1 f) = 31
    · obtain ⟨s', e1, e2⟩ := q_ends hrel
      exact ⟨s', by rw [if_pos z]; exact e2, by rw [if_pos (h18.mpr z)]; exact e1⟩
    · exact ⟨_, by rw [if_neg z]; exact hrel, by rw [if_neg (fun q => z (h18.mp q))]⟩
  obtain ⟨s1, hs1, hs2⟩ := hs
  refine ⟨_, s1, hput, hs1, ?_⟩
  intro pa ru la rP v hv
  have o0 : ow s f 12 0 = s 0 := by unfold ow; rw [if_neg (by omega)]
  have ho : ∀ j, 12 < j → ow s f 12 j = s j := fun j hj => by unfold ow; rw [if_neg (by omega)]
  unfold f_X8_draw k_let
  rw [hfe, q_reason h hf, if_neg hn, hx, hv, q_closes (by omega), h.1]
  simp only [Option.bind_some, Bool.false_eq_true, if_false]
  rw [if_neg (by decide), if_pos (by decide), q_owners hf]
  simp only [Option.bind_some]
  have e2 : (nI (cl g.1 f) = (2 : Int32)) ↔ cl g.1 f = 2 := nI_eq (b := 2) (by omega) (by decide)
  have e0 : (nI (cl g.1 f) = (0 : Int32)) ↔ cl g.1 f = 0 := nI_eq (b := 0) (by omega) (by decide)
  have fin : ∀ r : Nat → Int32, r = drow s f (cl g.1 f) → (if r 18 = 31 then (f_X8_ends r).bind fun v33 => some (nI (cl g.1 f), v.1, (0 : Int32), v33, v.2) else some (nI (cl g.1 f), v.1, 0, r, v.2)) = some (nI (cl g.1 f), v.1, 0, s1, v.2) := by
    intro r hr
    subst hr
    by_cases z : drow s f (cl g.1 f) 18 = 31
    · rw [if_pos z] at hs2 ⊢
      rw [hs2]; rfl
    · rw [if_neg z] at hs2 ⊢
      rw [Option.some.inj hs2]
  have hst : ow s f 12 0 ||| ((1 : Int32) <<< (nI f &&& 31)) = st (s 0) f := by rw [o0]; rfl
  have u18 : upd (ow s f 12) 0 (st (s 0) f) 18 = s 18 := by rw [upd_ne (by decide), ho 18 (by omega)]
  have u17 : upd (upd (ow s f 12) 0 (st (s 0) f)) 18 (s 18 + 1) 17 = s 17 := by rw [upd_ne (by decide), upd_ne (by decide), ho 17 (by omega)]
  have u13 : ∀ y, upd (upd (upd (ow s f 12) 0 (st (s 0) f)) 18 (s 18 + 1)) 17 y 13 = s 13 := fun y => by rw [upd_ne (by decide), upd_ne (by decide), upd_ne (by decide), ho 13 (by omega)]
  rw [hst, u18, u17]
  simp only [u13]
  by_cases c2 : cl g.1 f = 2
  · rw [if_pos (e2.mpr c2), if_neg (fun q => by have := e0.mp q; omega)]
    exact fin _ (by unfold drow; rw [if_pos c2, if_neg (by omega)])
  · rw [if_neg (fun q => c2 (e2.mp q))]
    by_cases c0 : cl g.1 f = 0
    · rw [if_pos (e0.mpr c0)]
      exact fin _ (by unfold drow; rw [if_neg c2, if_pos c0])
    · rw [if_neg (fun q => c0 (e0.mp q))]
      exact fin _ (by unfold drow; rw [if_neg c2, if_neg c0])
def beG (g : k_G8) : k_G8 := (0, 0, 0, 0, g.2.2.2.2.1, g.2.2.2.2.2.1, g.2.2.2.2.2.2.1, g.2.2.2.2.2.2.2)
theorem cn_0 (k : Nat) : cn 0 k = 0 := by unfold cn; rw [b_0, b_0, b_0, b_0]; rfl
theorem q_begin {g : k_G8} : f_X2_begin g = some (beG g) := rfl
def brow (s : Nat → Int32) (n : Nat) : Nat → Int32 := fun j => if 1 ≤ j ∧ j ≤ n then 0 else if j = 0 ∨ j = 18 ∨ j = 13 then 0 else s j
theorem q_mnew {g : k_G8} {s : Nat → Int32} (h : rg8 g s) : rg8 (beG g) (brow s 12) ∧ ∀ (pa ru la : Int32) (rP : Nat → Int32) (v : Int32 × (Nat → Int32)), f_X8_changes pa ru s rP = some v → f_X8_newGame pa ru la s rP = some (s 18, v.1, 0, brow s 12, v.2) := by
  constructor
  · obtain ⟨a1, a2, a3, a4, a5, a6, a7, a8, a9, a10, a11, a12, a13, a14⟩ := h
    have hz : c31 0 = 0 := fb_ct_zero.mpr fun k _ => b_0 k
    unfold rg8 beG brow
    dsimp only
    refine ⟨rfl, b_0 31, ?_, ?_, ?_, ?_, ?_, ?_, rfl, Or.inl rfl, ?_, ?_, ?_, ?_⟩
    · rw [hz]; rfl
    · intro k hk; rw [if_pos (by omega), b_0]; rfl
    · intro k _ q; rw [b_0] at q; cases q
    · intro k _ q; rw [b_0] at q; cases q
    · intro k _; rw [b_0, cn_0]; rfl
    · intro k _; rw [b_0]; rfl
    · rw [if_neg (by decide), if_neg (by decide)]; exact a11
    · rw [if_neg (by decide), if_neg (by decide)]; exact a12
    · rw [if_neg (by decide), if_neg (by decide)]; exact a13
    · rw [if_neg (by decide), if_neg (by decide)]; exact a14
  · intro pa ru la rP v hv
    unfold f_X8_newGame k_let
    rw [hv]
    simp only [Option.bind_some]
    have e0 : upd (upd (upd s 0 0) 18 0) 13 0 = brow s 0 := by
      funext j
      unfold upd brow
      rw [if_neg (show ¬ (1 ≤ j ∧ j ≤ 0) by omega)]
      by_cases c1 : j = 13
      · rw [if_pos c1, if_pos (by omega)]
      · rw [if_neg c1]
        by_cases c2 : j = 18
        · rw [if_pos c2, if_pos (by omega)]
        · rw [if_neg c2]
          by_cases c3 : j = 0
          · rw [if_pos c3, if_pos (by omega)]
          · rw [if_neg c3, if_neg (by omega)]
    rw [e0]
    have hk := k_for (step := t_X8_newGame_42 (s 18)) (fun i => (nI i, brow s i)) 12 (nI 12, brow s 12) ?_ ?_ 1000 (by decide)
    · show ((k_loop (t_X8_newGame_42 (s 18)) 1000 (nI 0, brow s 0)).bind _) = _
      rw [hk]; rfl
    · intro i hi
      unfold t_X8_newGame_42 k_let
      dsimp only
      have hb : upd (brow s i) (i + 1) 0 = brow s (i + 1) := by
        funext j
        unfold upd brow
        by_cases c : j = i + 1
        · rw [if_pos c, if_pos (by omega)]
        · rw [if_neg c]
          by_cases d : 1 ≤ j ∧ j ≤ i
          · rw [if_pos d, if_pos (by omega)]
          · rw [if_neg d, if_neg (show ¬ (1 ≤ j ∧ j ≤ i + 1) by omega)]
      rw [if_neg (show ¬ (12 : Int32) ≤ nI i from nI_ge (b := 12) hi (by decide)), one_nI i, nI_1 i, if_neg (nI_in (c := i + 1) (N := 19) (by omega) (by decide)), nI_clamp (by omega), hb]
    · rfl
/-- only what stands below 19 counts -/
theorem rg8_cong {g : k_G8} {s t : Nat → Int32} (h : rg8 g s) (e : ∀ j, j < 19 → t j = s j) : rg8 g t := by
  obtain ⟨a1, a2, a3, a4, a5, a6, a7, a8, a9, a10, a11, a12, a13, a14⟩ := h
  exact ⟨by rw [e 0 (by omega)]; exact a1, a2, by rw [e 18 (by omega)]; exact a3, fun k hk => by rw [e (k + 1) (by omega)]; exact a4 k hk, a5, a6, a7, a8, by rw [e 13 (by omega)]; exact a9, a10, by rw [e 14 (by omega)]; exact a11, by rw [e 15 (by omega)]; exact a12, by rw [e 16 (by omega)]; exact a13, by rw [e 17 (by omega)]; exact a14⟩
theorem q_copies (r0 r1 : Nat → Int32) : ∃ r, f_X8_copies r0 r1 = some r ∧ ∀ j, r j = if j < 19 then r0 j else r1 j := by
  refine ⟨fun j => if j < 19 then r0 j else r1 j, ?_, fun _ => rfl⟩
  unfold f_X8_copies
  have hk := k_for (step := t_X8_copies_2 r0) (fun i => (nI i, fun j => if j < i then r0 j else r1 j)) 19 (nI 19, fun j => if j < 19 then r0 j else r1 j) ?_ ?_ 1000 (by decide)
  · have e0 : (fun j => if j < 0 then r0 j else r1 j) = r1 := by funext j; rw [if_neg (by omega)]
    rw [e0] at hk
    show ((k_loop (t_X8_copies_2 r0) 1000 (nI 0, r1)).bind _) = _
    rw [hk]; rfl
  · intro i hi
    unfold t_X8_copies_2 k_let
    dsimp only
    have hb : upd (fun j => if j < i then r0 j else r1 j) i (r0 i) = fun j => if j < i + 1 then r0 j else r1 j := by
      funext j
      unfold upd
      by_cases c : j = i
      · subst c; rw [if_pos rfl, if_pos (by omega)]
      · rw [if_neg c]
        dsimp only
        by_cases d : j < i
        · rw [if_pos d, if_pos (show j < i + 1 by omega)]
        · rw [if_neg d, if_neg (show ¬ j < i + 1 by omega)]
    rw [if_neg (show ¬ (19 : Int32) ≤ nI i from nI_ge (b := 19) hi (by decide)), nI_1 i, if_neg (nI_in (c := i) (N := 19) hi (by decide)), if_neg (nI_in (c := i) (N := 19) hi (by decide)), nI_clamp (by omega), hb]
  · rfl
