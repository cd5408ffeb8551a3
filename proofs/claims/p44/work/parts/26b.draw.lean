/-- the class's game behind a fence that closes the boxes c, before the end is settled -/
def puG (g : k_G8) (f : Nat) (c : Int32) : k_G8 := (st g.1 f, (if g.2.2.2.1 = 0 then g.2.1 ||| c else g.2.1), (if g.2.2.2.1 = 0 then g.2.2.1 else g.2.2.1 ||| c), (if cl g.1 f = 0 then 1 - g.2.2.2.1 else g.2.2.2.1), g.2.2.2.2.1, g.2.2.2.2.2.1, g.2.2.2.2.2.2.1, (if cl g.1 f = 2 then g.2.2.2.2.2.2.2 + 1 else g.2.2.2.2.2.2.2))
theorem q_put {g : k_G8} {f : Nat} {c : Int32} (h31 : bt g.1 31 = false) (hf : f < 31) (h1 : f_X3_closedWith (st g.1 f) (nI f) = some c) (h2 : f_J6_bitCount_0f7a4 c = some (nI (cl g.1 f))) : f_X2_put (nI f) g = some (nI (cl g.1 f), if c31 (st g.1 f) = 31 then seG (puG g f c) else puG g f c) := by
  have hst : bt (st g.1 f) 31 = false := by
    rw [q_st (by omega) (by omega), h31]; simp; omega
  have hcl := q_cl12 g.1 f
  unfold f_X2_put k_let
  show ((f_X3_closedWith (st g.1 f) (nI f)).bind _) = _
  rw [h1]
  simp only [Option.bind_some]
  rw [h2]
  simp only [Option.bind_some]
  have e2 : (nI (cl g.1 f) = (2 : Int32)) ↔ cl g.1 f = 2 := nI_eq (b := 2) (by omega) (by decide)
  have e0 : (nI (cl g.1 f) = (0 : Int32)) ↔ cl g.1 f = 0 := nI_eq (b := 0) (by omega) (by decide)
  have fin : ∀ G : k_G8, G.1 = st g.1 f → ((f_X2_hasEnded G).bind fun v => if v = 0 then some (nI (cl g.1 f), G) else (f_X2_settle G).bind fun v42 => some (nI (cl g.1 f), v42)) = some (nI (cl g.1 f), if c31 (st g.1 f) = 31 then seG G else G) := by
    intro G hG
    rw [q_hasEnded (g := G) (by rw [hG]; exact hst), q_settle, hG]
    simp only [Option.bind_some]
    by_cases z : c31 (st g.1 f) = 31
    · rw [if_pos z, if_neg (by decide), if_pos z]
    · rw [if_neg z, if_pos rfl, if_neg z]
  unfold puG
  by_cases m : g.2.2.2.1 = 0
  · rw [if_pos m, if_pos m, if_pos m]
    by_cases c2 : cl g.1 f = 2
    · rw [if_pos (e2.mpr c2), if_pos c2, if_neg (fun q => by have := e0.mp q; omega), if_neg (show ¬ cl g.1 f = 0 by omega)]
      exact fin _ rfl
    · rw [if_neg (fun q => c2 (e2.mp q)), if_neg c2]
      by_cases c0 : cl g.1 f = 0
      · rw [if_pos (e0.mpr c0), if_pos c0]
        exact fin _ rfl
      · rw [if_neg (fun q => c0 (e0.mp q)), if_neg c0]
        exact fin _ rfl
  · rw [if_neg m, if_neg m, if_neg m]
    by_cases c2 : cl g.1 f = 2
    · rw [if_pos (e2.mpr c2), if_pos c2, if_neg (fun q => by have := e0.mp q; omega), if_neg (show ¬ cl g.1 f = 0 by omega)]
      exact fin _ rfl
    · rw [if_neg (fun q => c2 (e2.mp q)), if_neg c2]
      by_cases c0 : cl g.1 f = 0
      · rw [if_pos (e0.mpr c0), if_pos c0]
        exact fin _ rfl
      · rw [if_neg (fun q => c0 (e0.mp q)), if_neg c0]
        exact fin _ rfl
/-- the model's row: the owners first -/
def ow (s : Nat → Int32) (f n : Nat) : Nat → Int32 := fun j => if (1 ≤ j ∧ j ≤ n) ∧ bes f (j - 1) = true ∧ cn (s 0) (j - 1) = 3 then s 13 + 1 else s j
def drow (s : Nat → Int32) (f n : Nat) : Nat → Int32 := upd (upd (upd (upd (ow s f 12) 0 (st (s 0) f)) 18 (s 18 + 1)) 17 (if n = 2 then s 17 + 1 else s 17 + 0)) 13 (if n = 0 then 1 - s 13 else s 13)
theorem drow_at {s : Nat → Int32} {f n : Nat} : drow s f n 0 = st (s 0) f ∧ drow s f n 18 = s 18 + 1 ∧ drow s f n 17 = (if n = 2 then s 17 + 1 else s 17 + 0) ∧ drow s f n 13 = (if n = 0 then 1 - s 13 else s 13) ∧ drow s f n 14 = s 14 ∧ drow s f n 15 = s 15 ∧ drow s f n 16 = s 16 ∧ ∀ k, k < 12 → drow s f n (k + 1) = if bes f k = true ∧ cn (s 0) k = 3 then s 13 + 1 else s (k + 1) := by
  have ho : ∀ j, 12 < j → ow s f 12 j = s j := fun j hj => by unfold ow; rw [if_neg (by omega)]
  have u : ∀ (r : Nat → Int32) (i : Nat) (v : Int32) (j : Nat), upd r i v j = if j = i then v else r j := fun _ _ _ _ => rfl
  unfold drow
  refine ⟨?_, ?_, ?_, ?_, ?_, ?_, ?_, fun k hk => ?_⟩
  · simp [u]
  · simp [u]
  · simp [u]
  · simp [u]
  · simp [u, ho]
  · simp [u, ho]
  · simp [u, ho]
  · rw [u, u, u, u, if_neg (by omega), if_neg (by omega), if_neg (by omega), if_neg (by omega)]
    unfold ow
    by_cases c : bes f k = true ∧ cn (s 0) k = 3
    · rw [if_pos c, if_pos ⟨by omega, by simpa using c⟩]
    · rw [if_neg c, if_neg (fun q => c (by simpa using q.2))]
