/-! The class's remembered ends. -/
def bsg (x y : Int32) (n : Nat) (b : Int) : Prop := (∀ f, f < 31 → bt y f = false → bt x f = false → un x f < n → mv y f ≤ b) ∧ (b = -12 ∨ ∃ f, f < 31 ∧ bt y f = false ∧ b = mv y f)
theorem bsg_end {x y : Int32} {b : Int} (hxy : ∀ f, f < 31 → bt y f = false → bt x f = false) (hfull : c31 y < 31) (h : bsg x y (un x 31) b) : b = VV y := by
  obtain ⟨f, hf, hb, e⟩ := VV_ex hfull
  have h1 := h.1 f hf hb (hxy f hf hb) (un_lt hf (hxy f hf hb))
  have h2 := mv_b hf hb
  have h3 := cb_le y
  rcases h.2 with q | ⟨g, hg, hgb, q⟩
  · omega
  · have := VV_ge hg hgb
    omega
theorem bsg_skip {x y : Int32} {n : Nat} {b : Int} (h : bsg x y n b) (hs : ∀ f, f < 31 → bt x f = false → un x f = n → bt y f = true) : bsg x y (n + 1) b := by
  refine ⟨fun f hf hb hx hu => ?_, h.2⟩
  by_cases e : un x f = n
  · have := hs f hf hx e
    rw [hb] at this; cases this
  · exact h.1 f hf hb hx (by omega)
theorem bsg_take {x y : Int32} {n : Nat} {b : Int} {f : Nat} (h : bsg x y n b) (hf : f < 31) (hb : bt y f = false) (hx : bt x f = false) (hu : un x f = n) : bsg x y (n + 1) (if b < mv y f then mv y f else b) := by
  have same : ∀ g, bt x g = false → un x g = n → g = f := fun g hg e => un_inj hg hx (by omega)
  by_cases c : b < mv y f
  · rw [if_pos c]
    refine ⟨fun g hg hgb hgx hgu => ?_, Or.inr ⟨f, hf, hb, rfl⟩⟩
    by_cases e : un x g = n
    · rw [same g hgx e]; exact Int.le_refl _
    · have := h.1 g hg hgb hgx (by omega)
      omega
  · rw [if_neg c]
    refine ⟨fun g hg hgb hgx hgu => ?_, h.2⟩
    by_cases e : un x g = n
    · rw [same g hgx e]; omega
    · exact h.1 g hg hgb hgx (by omega)
abbrev cm (m : Nat) : Nat → Bool := fun i => !m.testBit i
def fok (x : Int32) (F : Nat → Int32) (j : Nat) : Prop := ∀ m, m < j → (F m).toInt = VV (posP x (cm m))
theorem q_reached {m k : Nat} {x : Int32} {op F : Nat → Int32} (h8 : un x 31 ≤ 8) (ho : opn x op) (hm : m < 2 ^ un x 31) {f : Nat} (hf : f < 31) (hb : bt x f = false) (hu : un x f = k) (ht : m.testBit k = true) (hw : fok x F m) : ∃ r : Int32, f_X1_reachedBy (nI m) (posP x (cm m)) (nI k) op F = some r ∧ r.toInt = mv (posP x (cm m)) f := by
  have hk : k < un x 31 := by rw [← hu]; exact un_lt hf hb
  have h256 := pw8 _ h8
  obtain ⟨o1, o2⟩ := tb_cl m (by omega) k (by omega)
  have o3 := o2 ht
  rw [ht, if_pos rfl] at o1
  have hby : bt (posP x (cm m)) f = false := pos_bt0 hf hb (by show (!m.testBit _) = false; rw [hu, ht]; rfl)
  have hcl := q_cl12 (posP x (cm m)) f
  have hr : op k = nI f := by rw [← hu]; exact ho f hf hb
  have hW : (F (m - 2 ^ k)).toInt = VV (st (posP x (cm m)) f) := by
    rw [hw _ o3.1, pos_st hf hb, hu]
    congr 1
    refine pos_cong fun i hi => ?_
    show (!(m - 2 ^ k).testBit i) = (!m.testBit i || decide (i = k))
    rw [tb_cl2 m (by omega) k (by omega) ht i (by omega)]
    cases m.testBit i <;> cases decide (i = k) <;> rfl
  have hB := VV_b (st (posP x (cm m)) f)
  have hcb := cb_le (st (posP x (cm m)) f)
  obtain ⟨c, g1, g2, -⟩ := q_gain hf hby
  have hk8 := nI_in (c := k) (N := 8) (by omega) (by decide)
  have hkc : (nI k).toNatClampNeg = k := nI_clamp (by omega)
  have hmk := nI_in (c := m - 2 ^ k) (N := 256) (by omega) (by decide)
  have hmc : (nI (m - 2 ^ k)).toNatClampNeg = m - 2 ^ k := nI_clamp (by omega)
  generalize posP x (cm m) = y at *
  generalize hcf : cl y f = n at *
  refine ⟨if n = 0 then -(F (m - 2 ^ k)) else nI n + F (m - 2 ^ k), ?_, ?_⟩
  · unfold f_X1_reachedBy k_let
    rw [if_neg hk8, if_neg hk8, hkc, hr]
    refine (k_bs (show f_X3_closedWith (y ||| ((1 : Int32) <<< (nI f &&& 31))) (nI f) = some c from g1)).trans ?_
    refine (k_bs g2).trans ?_
    rw [o1, if_neg hmk, hmc]
    dsimp only
    by_cases z : n = 0
    · rw [if_pos (show nI n ≤ (0 : Int32) by rw [z]; decide), if_pos z]
    · rw [if_neg (show ¬ nI n ≤ (0 : Int32) from nI_ge (a := 0) (by omega) (by omega)), if_neg z]
  · unfold mv
    rw [hcf]
    by_cases z : n = 0
    · rw [if_pos z, if_neg (by omega), fb_negI (by omega), hW]
    · rw [if_neg z, if_pos (by omega), q_aI (by omega) (by omega) (by omega), hW]
