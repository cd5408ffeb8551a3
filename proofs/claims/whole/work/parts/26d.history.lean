/-! The history: both sides. -/
def kk (k0 k1 k2 k3 : k_G8) (i : Nat) : k_G8 := if i = 0 then k0 else if i = 1 then k1 else if i = 2 then k2 else k3
def hist (h : Nat) (k0 k1 k2 k3 : k_G8) (rP : Nat → Int32) : Prop := ∀ i, i < h → rg8 (kk k0 k1 k2 k3 i) (fun j => rP (19 * i + j))
theorem n19 : ∀ p, p < 4 → (19 : Int32) * nI p = nI (19 * p) := by decide +kernel
def wr (s R : Nat → Int32) (p i : Nat) : Nat → Int32 := fun j => if 19 * p ≤ j ∧ j < 19 * p + i then s (j - 19 * p) else R j
theorem q_wr {s R : Nat → Int32} {p : Nat} (hp : p < 4) : k_loop (t_X8_changes_57 (nI p) s) 1000 (0, R) = some (nI 19, wr s R p 19) := by
  have e0 : wr s R p 0 = R := by funext j; unfold wr; rw [if_neg (by omega)]
  have hk := k_for (step := t_X8_changes_57 (nI p) s) (fun i => (nI i, wr s R p i)) 19 (nI 19, wr s R p 19) ?_ ?_ 1000 (by decide)
  · rw [e0] at hk; exact hk
  · intro i hi
    unfold t_X8_changes_57 k_let
    dsimp only
    have hb : upd (wr s R p i) (19 * p + i) (s i) = wr s R p (i + 1) := by
      funext j
      unfold upd wr
      by_cases c : j = 19 * p + i
      · rw [if_pos c, if_pos (by omega), show j - 19 * p = i by omega]
      · rw [if_neg c]
        by_cases d : 19 * p ≤ j ∧ j < 19 * p + i
        · rw [if_pos d, if_pos (by omega)]
        · rw [if_neg d, if_neg (show ¬ (19 * p ≤ j ∧ j < 19 * p + (i + 1)) by omega)]
    rw [if_neg (show ¬ (19 : Int32) ≤ nI i from nI_ge (b := 19) hi (by decide)), nI_1 i, if_neg (nI_in (c := i) (N := 19) hi (by decide)), n19 p hp, nI_add (19 * p) i, if_neg (nI_in (c := 19 * p + i) (N := 76) (by omega) (by decide)), nI_clamp (by omega), nI_clamp (by omega), hb]
  · rfl
def sh (R : Nat → Int32) (i : Nat) : Nat → Int32 := fun j => if j < i then R (j + 19) else R j
theorem q_sh {R : Nat → Int32} : k_loop t_X8_changes_18 1000 (0, R) = some (nI 57, sh R 57) := by
  have e0 : sh R 0 = R := by funext j; unfold sh; rw [if_neg (by omega)]
  have hk := k_for (step := t_X8_changes_18) (fun i => (nI i, sh R i)) 57 (nI 57, sh R 57) ?_ ?_ 1000 (by decide)
  · rw [e0] at hk; exact hk
  · intro i hi
    unfold t_X8_changes_18 k_let
    dsimp only
    have hb : upd (sh R i) i (sh R i (i + 19)) = sh R (i + 1) := by
      funext j
      unfold upd sh
      by_cases c : j = i
      · rw [if_pos c, if_neg (by omega), if_pos (by omega), c]
      · rw [if_neg c]
        by_cases d : j < i
        · rw [if_pos d, if_pos (by omega)]
        · rw [if_neg d, if_neg (show ¬ j < i + 1 by omega)]
    have h19 : nI i + 19 = nI (i + 19) := nI_add i 19
    rw [if_neg (show ¬ (57 : Int32) ≤ nI i from nI_ge (b := 57) hi (by decide)), nI_1 i, h19, if_neg (nI_in (c := i + 19) (N := 76) (by omega) (by decide)), if_neg (nI_in (c := i) (N := 76) (by omega) (by decide)), nI_clamp (by omega), nI_clamp (by omega), hb]
  · rfl
theorem q_record {h : Nat} (hh : h ≤ 4) {k0 k1 k2 k3 g : k_G8} {s rP : Nat → Int32} (qs : k_Q4) (hi : hist h k0 k1 k2 k3 rP) (hg : rg8 g s) : ∃ (h' : Nat) (qs' : k_Q4) (k0' k1' k2' k3' : k_G8) (rP' : Nat → Int32), h' ≤ 4 ∧ f_X4_record (nI h) qs k0 k1 k2 k3 g = some (nI h', qs', k0', k1', k2', k3') ∧ f_X8_changes (nI h) 0 s rP = some (nI h', rP') ∧ hist h' k0' k1' k2' k3' rP' := by
  have hlow : ∀ p, p < 4 → ∀ k0' k1' k2' k3' : k_G8, ∀ R : Nat → Int32, (∀ i, i < p → rg8 (kk k0' k1' k2' k3' i) (fun j => R (19 * i + j))) → kk k0' k1' k2' k3' p = g → hist (p + 1) k0' k1' k2' k3' (wr s R p 19) := by
    intro p hp a b c d R hR hkp i hi
    by_cases e : i = p
    · subst e
      rw [hkp]
      refine rg8_cong hg fun j hj => ?_
      unfold wr
      rw [if_pos (by omega), Nat.add_sub_cancel_left]
    · refine rg8_cong (hR i (by omega)) fun j hj => ?_
      unfold wr
      rw [if_neg (by omega)]
  have hch : ∀ p, p < 4 → p ≠ 4 → f_X8_changes (nI p) 0 s rP = some (nI (p + 1), wr s rP p 19) := by
    intro p hp _
    unfold f_X8_changes k_let
    rw [if_pos rfl, if_neg (show ¬ nI p = (4 : Int32) from fun q => by have := (nI_eq (b := 4) (by omega) (by decide)).mp q; omega), q_wr hp]
    simp only [Option.bind_some]
    rw [nI_1]
  rcases (show h = 0 ∨ h = 1 ∨ h = 2 ∨ h = 3 ∨ h = 4 by omega) with rfl | rfl | rfl | rfl | rfl
  · exact ⟨1, qs, g, k1, k2, k3, _, by omega, rfl, hch 0 (by omega) (by omega), hlow 0 (by omega) _ _ _ _ _ (fun i hi => absurd hi (Nat.not_lt_zero i)) rfl⟩
  · refine ⟨2, qs, k0, g, k2, k3, _, by omega, rfl, hch 1 (by omega) (by omega), hlow 1 (by omega) _ _ _ _ _ (fun i h1 => ?_) rfl⟩
    have : i = 0 := by omega
    subst this
    exact hi 0 (by omega)
  · refine ⟨3, qs, k0, k1, g, k3, _, by omega, rfl, hch 2 (by omega) (by omega), hlow 2 (by omega) _ _ _ _ _ (fun i h1 => ?_) rfl⟩
    rcases (show i = 0 ∨ i = 1 by omega) with rfl | rfl
    · exact hi 0 (by omega)
    · exact hi 1 (by omega)
  · refine ⟨4, qs, k0, k1, k2, g, _, by omega, rfl, hch 3 (by omega) (by omega), hlow 3 (by omega) _ _ _ _ _ (fun i h1 => ?_) rfl⟩
    rcases (show i = 0 ∨ i = 1 ∨ i = 2 by omega) with rfl | rfl | rfl
    · exact hi 0 (by omega)
    · exact hi 1 (by omega)
    · exact hi 2 (by omega)
  · refine ⟨4, (qs.2.1, qs.2.2.1, qs.2.2.2, qs.1), k1, k2, k3, g, wr s (sh rP 57) 3 19, by omega, rfl, ?_, ?_⟩
    · unfold f_X8_changes k_let
      rw [if_pos rfl, if_pos (show nI 4 = (4 : Int32) from rfl), q_sh]
      simp only [Option.bind_some]
      have e3 : nI 4 - 1 = nI 3 := nI_pred 3
      rw [e3, q_wr (by omega)]
      rfl
    · refine hlow 3 (by omega) _ _ _ _ _ (fun i h1 => ?_) rfl
      have hs : ∀ i, i < 3 → ∀ j, j < 19 → sh rP 57 (19 * i + j) = rP (19 * (i + 1) + j) := fun i hi j hj => by
        unfold sh
        rw [if_pos (by omega), show 19 * i + j + 19 = 19 * (i + 1) + j by omega]
      rcases (show i = 0 ∨ i = 1 ∨ i = 2 by omega) with rfl | rfl | rfl
      · exact rg8_cong (hi 1 (by omega)) (hs 0 (by omega))
      · exact rg8_cong (hi 2 (by omega)) (hs 1 (by omega))
      · exact rg8_cong (hi 3 (by omega)) (hs 2 (by omega))
theorem q_undo {h : Nat} (hh : h < 4) {k0 k1 k2 k3 g : k_G8} {s rP : Nat → Int32} (hi : hist (h + 1) k0 k1 k2 k3 rP) (la : Int32) : ∃ s', f_X4_restoreTo (nI (h + 1)) k0 k1 k2 k3 g = some (nI h, kk k0 k1 k2 k3 h) ∧ f_X8_undo (nI (h + 1)) la s rP = some (nI h, nI h, 0, s') ∧ rg8 (kk k0 k1 k2 k3 h) s' := by
  let w : Nat → Nat → Int32 := fun i j => if j < i then rP (19 * h + j) else s j
  refine ⟨w 19, ?_, ?_, rg8_cong (hi h (by omega)) fun j hj => if_pos hj⟩
  · rcases (show h = 0 ∨ h = 1 ∨ h = 2 ∨ h = 3 by omega) with rfl | rfl | rfl | rfl <;> rfl
  · unfold f_X8_undo k_let
    have e : nI (h + 1) - 1 = nI h := nI_pred h
    rw [if_neg (show ¬ nI (h + 1) = (0 : Int32) from fun q => by have := (nI_eq (b := 0) (by omega) (by decide)).mp q; omega), e]
    have hk := k_for (step := t_X8_undo_30 (nI h) rP) (fun i => (nI i, w i)) 19 (nI 19, w 19) ?_ ?_ 1000 (by decide)
    · have e0 : w 0 = s := by funext j; exact if_neg (by omega)
      rw [e0] at hk
      show ((k_loop (t_X8_undo_30 (nI h) rP) 1000 (nI 0, s)).bind _) = _
      rw [hk]; rfl
    · intro i hi
      unfold t_X8_undo_30 k_let
      dsimp only
      have hb : upd (w i) i (rP (19 * h + i)) = w (i + 1) := by
        funext j
        unfold upd
        show _ = if j < i + 1 then rP (19 * h + j) else s j
        by_cases c : j = i
        · subst c; rw [if_pos rfl, if_pos (by omega)]
        · rw [if_neg c]
          show (if j < i then rP (19 * h + j) else s j) = _
          by_cases d : j < i
          · rw [if_pos d, if_pos (show j < i + 1 by omega)]
          · rw [if_neg d, if_neg (show ¬ j < i + 1 by omega)]
      rw [if_neg (show ¬ (19 : Int32) ≤ nI i from nI_ge (b := 19) hi (by decide)), nI_1 i, n19 h hh, nI_add (19 * h) i, if_neg (nI_in (c := 19 * h + i) (N := 76) (by omega) (by decide)), if_neg (nI_in (c := i) (N := 19) hi (by decide)), nI_clamp (by omega), nI_clamp (by omega), hb]
    · rfl
