/-! The law's own notes and the class's game: what holds between them. The law's 'areFences': boxes. -/
def Rel (g : k_G8) (f : Int32) (c t : Nat → Int32) : Prop :=
  g.1 = f ∧ bt f 31 = false ∧ (∀ k, k < 12 → c k = -1 ∨ c k = 0 ∨ c k = 1) ∧ (∀ k, k < 12 → bt g.2.1 k = decide (c k = 0)) ∧ (∀ k, k < 12 → bt g.2.2.1 k = decide (c k = 1)) ∧ (∀ k, 12 ≤ k → k < 32 → bt g.2.1 k = false ∧ bt g.2.2.1 k = false) ∧ (∀ k, k < 12 → (c k = -1 ↔ ¬ cn f k = 4)) ∧ (t 0 = 0 ∨ t 0 = 1) ∧ g.2.2.2.1 = t 0 ∧ g.2.2.2.2.1 = t 1 ∧ g.2.2.2.2.2.1 = t 2 ∧ g.2.2.2.2.2.2.1 = t 3 ∧ g.2.2.2.2.2.2.2 = t 4
def cx (c : Nat → Int32) (k : Nat) : Nat := if c k = -1 then 0 else if c k = 0 then 1 else 2
theorem cx_i {c : Nat → Int32} {k : Nat} (h : c k = -1 ∨ c k = 0 ∨ c k = 1) : c k + 1 = nI (cx c k) ∧ cx c k < 3 := by
  unfold cx
  rcases h with e | e | e <;> rw [e] <;> decide
theorem upd_row {p : Nat → Nat} {i : Nat} : upd (fun j => nI (fb_ct (fun k => decide (p k = j)) i)) (p i) (nI (fb_ct (fun k => decide (p k = p i)) i) + 1) = fun j => nI (fb_ct (fun k => decide (p k = j)) (i + 1)) := by
  funext j
  by_cases e : j = p i
  · subst e
    rw [upd_eq, fb_ct_succ, if_pos (by simp), nI_1]
  · rw [upd_ne e, fb_ct_succ, if_neg (by simp; exact fun q => e q.symm)]; rfl
theorem a_boxes {g : k_G8} {f : Int32} {c t : Nat → Int32} {b7 b8 b9 b10 b11 b12 : Int32} (h : Rel g f c t) : k_loop (t_L_areFences_146 f b7 b8 b9 b10 b11 b12 g c) 70 (1, 0, (fun _ => 0), (fun _ => 0)) = some (1, nI 12, (fun j => nI (fb_ct (fun k => decide (cn f k = j)) 12)), fun j => nI (fb_ct (fun k => decide (cx c k = j)) 12)) := by
  obtain ⟨rfl, h31, hc, ho0, ho1, hhi, hcn, -⟩ := h
  refine k_for (fun i => ((1 : Int32), nI i, (fun j => nI (fb_ct (fun k => decide (cn g.1 k = j)) i)), fun j => nI (fb_ct (fun k => decide (cx c k = j)) i))) 12 _ ?_ ?_ 70 (by decide)
  · intro i hi
    obtain ⟨x1, x2⟩ := cx_i (hc i hi)
    have h4 := q_cn4 g.1 i
    unfold t_L_areFences_146 k_let
    dsimp only
    rw [if_neg (show ¬ (12 : Int32) ≤ nI i from nI_ge (b := 12) hi (by decide)), if_neg (show ¬ (1 : Int32) = 0 by decide)]
    refine (k_bs (p_has hi)).trans ?_
    have g1 : ¬ (nI (cn g.1 i) < 0 ∨ 5 ≤ (nI (cn g.1 i)).toNatClampNeg) := nI_in (by omega) (by decide)
    have g2 : ¬ (nI i < 0 ∨ 12 ≤ (nI i).toNatClampNeg) := nI_in (by omega) (by decide)
    have g3 : ¬ (nI (cx c i) < 0 ∨ 3 ≤ (nI (cx c i)).toNatClampNeg) := nI_in (by omega) (by decide)
    have c1 : (nI i).toNatClampNeg = i := nI_clamp (by omega)
    rw [if_neg g1, if_neg g1, if_neg g2]
    rw [c1] at g2 ⊢
    rw [x1, if_neg g3, if_neg g3, nI_clamp (show cn g.1 i < 2 ^ 31 by omega), nI_clamp (show cx c i < 2 ^ 31 by omega), upd_row (p := fun k => cn g.1 k) (i := i), upd_row (p := fun k => cx c k) (i := i)]
    refine (k_bs (o_fencesOf hi)).trans ?_
    refine (k_bs (p_has hi)).trans ?_
    refine (k_bs (a := 1) ?_).trans ?_
    · rw [if_pos rfl]
      refine (k_bs (o_ownerOf hi)).trans ?_
      rw [if_neg g2]
      refine (k_bs (a := if cn g.1 i = 4 then (if bt g.2.1 i then 0 else 1) else -102) ?_).trans (if_pos rfl)
      by_cases q : cn g.1 i = 4
      · have hne : ¬ c i = -1 := fun e => (hcn i hi).mp e q
        rw [if_pos q, ho0 i hi]
        rcases hc i hi with e | e | e
        · exact (hne e).elim
        · rw [e, if_pos (show (0 : Int32) ≤ 0 by decide), if_neg g2]; rfl
        · rw [e, if_pos (show (0 : Int32) ≤ 1 by decide), if_neg g2]; rfl
      · have e : c i = -1 := (hcn i hi).mpr q
        rw [if_neg q, e]; rfl
    · rw [nI_1]
  · unfold t_L_areFences_146
    rw [if_pos (show (12 : Int32) ≤ nI 12 by decide)]
theorem a_counts {g : k_G8} {f : Int32} {b7 b8 b9 b11 : Int32} (e : g.1 = f) : k_loop (t_L_areFences_502 f b7 b8 b9 b11 g (fun j => nI (fb_ct (fun k => decide (cn f k = j)) 12))) 70 (1, 0) = some (1, nI 5) := by
  subst e
  refine k_for (fun i => ((1 : Int32), nI i)) 5 _ ?_ ?_ 70 (by decide)
  · intro i hi
    unfold t_L_areFences_502
    dsimp only
    rw [if_neg (show ¬ (5 : Int32) ≤ nI i from nI_ge (b := 5) hi (by decide))]
    refine (k_bs (a := 1) ?_).trans (by rw [nI_1])
    rw [if_neg (show ¬ (1 : Int32) = 0 by decide)]
    refine (k_bs (o_boxesWith hi)).trans ?_
    have g1 : ¬ (nI i < 0 ∨ 5 ≤ (nI i).toNatClampNeg) := nI_in (by omega) (by decide)
    rw [if_neg g1, nI_clamp (show i < 2 ^ 31 by omega), if_pos rfl]
  · unfold t_L_areFences_502
    rw [if_pos (show (5 : Int32) ≤ nI 5 by decide)]
