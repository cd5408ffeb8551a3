/-! The lowest best fence: both sides. -/
def fbest (x : Int32) : Nat := ff (fun f => !bt x f && decide (mv x f = VV x)) 31
theorem fbest_ok {x : Int32} (h : c31 x < 31) : fbest x < 31 ∧ bt x (fbest x) = false ∧ mv x (fbest x) = VV x ∧ ∀ f, f < fbest x → bt x f = false → mv x f ≠ VV x := by
  obtain ⟨f, hf, hb, e⟩ := VV_ex h
  have hle : fbest x ≤ f := ff_lt hf (by simp [hb, e])
  have hlt : fbest x < 31 := by omega
  have his := ff_is _ _ hlt
  simp only [Bool.and_eq_true, Bool.not_eq_true', decide_eq_true_eq] at his
  refine ⟨hlt, his.1, his.2, fun g hg hgb q => ?_⟩
  have := ff_not _ _ _ hg
  simp [hgb, q] at this
theorem un_back {x : Int32} {f g : Nat} (hf : bt x f = false) (hg : bt x g = false) (h : un x f < un x g) : f < g := by
  rcases Nat.lt_trichotomy f g with q | q | q
  · exact q
  · subst q; omega
  · have := un_lt q hg; omega
theorem q_lowestBest {x : Int32} (h31 : bt x 31 = false) (h8 : un x 31 ≤ 8) (hc : c31 x < 31) {op F : Nat → Int32} (ho : opn x op) (hF : fok x F (2 ^ un x 31)) : f_X1_lowestBest (nI (un x 31)) op F = some (nI (fbest x)) := by
  obtain ⟨b1, b2, b3, b4⟩ := fbest_ok hc
  have h256 := pw8 _ h8
  have hpos := pw_pos _ h8
  obtain ⟨s1, -⟩ := sh_one _ h8
  have hx := cm_all h31 h8
  have hd := q_drawnBut (m := 2 ^ un x 31 - 1) (x := x) (op := op) (by omega) h8 ho
  have hd : f_X1_drawnBut (nI (2 ^ un x 31 - 1)) (nI (un x 31)) op = some (posP x (cm (2 ^ un x 31 - 1))) := hd
  rw [hx] at hd
  have hF2 : fok x F (2 ^ un x 31 - 1) := fun m hm => hF m (by omega)
  have hV : (F (2 ^ un x 31 - 1)).toInt = VV x := by rw [hF _ (by omega), hx]
  have hun := un_lt b1 b2
  have hg := nI_in (c := 2 ^ un x 31 - 1) (N := 256) (by omega) (by decide)
  have hcl : (nI (2 ^ un x 31 - 1)).toNatClampNeg = 2 ^ un x 31 - 1 := nI_clamp (by omega)
  have hr : ∀ f, f < 31 → bt x f = false → ∃ r : Int32, f_X1_reachedBy (nI (2 ^ un x 31 - 1)) x (nI (un x f)) op F = some r ∧ r.toInt = mv x f := by
    intro f hf hb
    obtain ⟨r, r1, r2⟩ := q_reached (m := 2 ^ un x 31 - 1) h8 ho (by omega) hf hb rfl (tb_all _ h8 _ (un_lt hf hb)) hF2
    rw [hx] at r1 r2
    exact ⟨r, r1, r2⟩
  have hk := k_for (step := t_X1_lowestBest_17 (nI (2 ^ un x 31 - 1)) x (nI (un x 31)) op F) (fun i => nI i) (un x (fbest x)) (.inr (nI (fbest x))) ?_ ?_ 1000 (by omega)
  · unfold f_X1_lowestBest k_let
    rw [s1]
    refine (k_bs hd).trans ?_
    exact (k_bs hk).trans rfl
  · intro i hi
    obtain ⟨f, hf, hb, hu⟩ := un_kth (x := x) (i := i) (by omega)
    obtain ⟨r, r1, r2⟩ := hr f hf hb
    rw [hu] at r1
    have hne : ¬ r = F (2 ^ un x 31 - 1) := fun q => b4 f (un_back hb b2 (by omega)) hb (by rw [← r2, ← hV, q])
    unfold t_X1_lowestBest_17
    rw [if_neg (nI_ge (by omega) (by omega))]
    refine (k_bs r1).trans ?_
    rw [if_neg hg, hcl, if_neg hne, nI_1 i]
  · obtain ⟨r, r1, r2⟩ := hr _ b1 b2
    have he : r = F (2 ^ un x 31 - 1) := (fa_eq _ _).mpr (by rw [r2, hV, b3])
    have hg8 := nI_in (c := un x (fbest x)) (N := 8) (by omega) (by decide)
    unfold t_X1_lowestBest_17
    rw [if_neg (nI_ge (by omega) (by omega))]
    refine (k_bs r1).trans ?_
    rw [if_neg hg, hcl, if_pos he, if_neg hg8, nI_clamp (by omega), ho _ b1 b2]
