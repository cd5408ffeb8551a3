/-! Texts: one order. -/
theorem fmd_iff {t : Nat} {c : Nat → Nat} {r : Nat → Int32} (h : tx t c r) {p : Nat} (hp : p < t) : fmd t c p = true ↔ (fitN t c p ≠ 0 ∧ at' t c (p + fitN t c p - 1) = 59) := by
  have hat : at' t c p = c p := if_pos hp
  unfold fmd fitN
  rw [hat]
  by_cases a : c p = 110
  · rw [if_pos a, a, decide_eq_true (show 110 = 110 from rfl), decide_eq_false (show ¬ 110 = 102 by omega)]
    simp only [Bool.true_and, Bool.false_and, Bool.or_false, decide_eq_true_eq]
    by_cases b : at' t c (p + 1) = 59
    · rw [if_pos b]
      exact ⟨fun _ => ⟨by omega, b⟩, fun _ => b⟩
    · rw [if_neg b]
      exact ⟨fun q => absurd q b, fun q => by have := q.2; rw [Nat.add_sub_cancel, hat, a] at this; omega⟩
  · rw [if_neg a, decide_eq_false a]
    simp only [Bool.false_and, Bool.false_or]
    by_cases b : c p = 102
    · rw [if_pos b, decide_eq_true b]
      simp only [Bool.true_and, Bool.and_eq_true, Bool.not_eq_true', decide_eq_false_iff_not, decide_eq_true_eq]
      by_cases d : dgs t c (p + 1) = 0
      · rw [if_pos d]
        exact ⟨fun q => absurd d q.1, fun q => by have := q.2; rw [Nat.add_sub_cancel, hat, b] at this; omega⟩
      · rw [if_neg d]
        by_cases e : at' t c (p + 1 + dgs t c (p + 1)) = 59
        · rw [if_pos e]
          refine ⟨fun _ => ⟨by omega, ?_⟩, fun _ => ⟨d, e⟩⟩
          rw [show p + (dgs t c (p + 1) + 2) - 1 = p + 1 + dgs t c (p + 1) by omega]; exact e
        · rw [if_neg e]
          refine ⟨fun q => absurd q.2 e, fun q => ?_⟩
          have h2 := q.2
          have h12 := dgs_c d
          have hb1 := dgb_c h12.2.1
          have hdig : ∃ x, p + (dgs t c (p + 1) + 1) - 1 = x ∧ x < t ∧ c x ≤ 57 := by
            rcases h12.1 with z | z
            · exact ⟨p + 1, by omega, hb1.1, hb1.2.2⟩
            · have hb2 := dgb_c (h12.2.2 z)
              exact ⟨p + 1 + 1, by omega, hb2.1, hb2.2.2⟩
          obtain ⟨x, hx, hxt, hx57⟩ := hdig
          rw [hx] at h2
          unfold at' at h2
          rw [if_pos hxt] at h2
          omega
    · rw [if_neg b, decide_eq_false b]
      exact ⟨fun q => (by simp at q), fun q => absurd rfl q.1⟩
theorem fit_le {t : Nat} {c : Nat → Nat} {r : Nat → Int32} (h : tx t c r) {p : Nat} (hp : p < t) (hf : fmd t c p = true) : 2 ≤ fitN t c p ∧ p + fitN t c p ≤ t := by
  have h1 := (fmd_iff h hp).mp hf
  have h2 := h1.2
  have hlt : p + fitN t c p - 1 < t := by
    refine Nat.lt_of_not_le fun q => ?_
    unfold at' at h2
    rw [if_neg (by omega)] at h2
    omega
  refine ⟨?_, by omega⟩
  refine Nat.lt_of_not_le fun q => ?_
  have e : fitN t c p = 1 := by omega
  rw [e, Nat.add_sub_cancel] at h2
  have hat : at' t c p = c p := if_pos hp
  unfold fitN at e
  rw [hat] at e h2
  rw [h2] at e
  simp at e
theorem q_fit10 (t : Nat) (c : Nat → Nat) (p : Nat) : fitN t c p ≤ 4 := by
  have := dgs_le t c (p + 1)
  unfold fitN
  split
  · split <;> omega
  · split
    · split
      · omega
      · split <;> omega
    · omega
theorem q_chg {pa : Int32} {s rP : Nat → Int32} : f_X8_changes pa 1 s rP = some (pa, rP) := by
  unfold f_X8_changes
  rw [if_neg (by decide)]
theorem q_order {t : Nat} {c : Nat → Nat} {ch : Nat → Int32} (h : tx t c ch) {p : Nat} (hp : p < t) (hf : fmd t c p = true) {o : k_O5} (ho : o.1 = nI t) (ho2 : o.2.1 = nI p) {tr : k_G8} {s : Nat → Int32} (hr : rg8 tr s) {le : Int32} {rN : Nat → Int32} (hle : le = nI (c p)) (hrn : c p = 102 → rN 0 = nI (numN c (p + 1) (dgs t c (p + 1)))) : ∃ (w : Nat) (tr' : k_G8) (s' : Nat → Int32), w < 3 ∧ f_X5_doOrder (nI (fitN t c p)) ch o tr = some (nI w, tr') ∧ rg8 tr' s' ∧ ∀ (pa la : Int32) (rP : Nat → Int32), ∃ la', f_X8_does pa 1 la le s rP rN = some (nI w, pa, la', s', rP) := by
  have ht := h.1
  have hat : at' t c p = c p := if_pos hp
  have hc := h.2 p hp
  have ha : atI t c p = nI (c p) := if_pos hp
  have e110 : (nI (c p) = (110 : Int32)) ↔ c p = 110 := nI_eq (b := 110) (by omega) (by omega)
  have hz : ∀ n : Nat, n < 2 ^ 31 → (0 : Int32) ≤ nI n := fun n hn => nI_le (a := 0) (Nat.zero_le n) hn
  have h31 := c31_le tr.1
  unfold f_X5_doOrder
  rw [ho2, q_at h (by omega) ho, ha]
  simp only [Option.bind_some]
  by_cases a : c p = 110
  · rw [if_pos (e110.mpr a), q_begin]
    obtain ⟨n1, n2⟩ := q_mnew hr
    refine ⟨0, beG tr, brow s 12, by omega, rfl, n1, fun pa la rP => ⟨0, ?_⟩⟩
    unfold f_X8_does
    rw [hle, if_pos (e110.mpr a), n2 pa 1 la rP (pa, rP) q_chg]
    simp only [Option.bind_some]
    rw [if_pos (by rw [hr.2.2.1]; exact hz _ (by omega))]
    rfl
  · rw [if_neg (fun q => a (e110.mp q))]
    have hf2 := hf
    unfold fmd at hf2
    rw [hat, decide_eq_false a] at hf2
    simp only [Bool.false_and, Bool.false_or, Bool.and_eq_true, Bool.not_eq_true', decide_eq_false_iff_not, decide_eq_true_eq] at hf2
    obtain ⟨b, d, e⟩ := hf2
    have hfit : fitN t c p = dgs t c (p + 1) + 2 := by
      unfold fitN
      rw [hat, if_neg a, if_pos b, if_neg d, if_pos e]
    have hsub : nI (fitN t c p) - 2 = nI (dgs t c (p + 1)) := by
      rw [hfit, Int32.sub_eq_iff_eq_add]
      exact (nI_add _ 2).symm
    rw [nI_1 p, hsub, q_numberAt h (by omega) ho d]
    simp only [Option.bind_some]
    have hdd := dgs_c d
    have hnum : numN c (p + 1) (dgs t c (p + 1)) < 100 := by
      unfold numN
      have h1 := dgb_c hdd.2.1
      rcases hdd.1 with z | z
      · rw [if_pos z]; omega
      · rw [if_neg (by omega)]
        have h2 := dgb_c (hdd.2.2 z)
        omega
    have hrn0 := hrn b
    generalize numN c (p + 1) (dgs t c (p + 1)) = f at hnum hrn0 ⊢
    have hdoes : ∀ (pa la : Int32) (rP : Nat → Int32), f_X8_does pa 1 la le s rP rN = (f_X8_draw (nI f) pa 1 la s rP).bind fun v2 => if 0 ≤ v2.1 then some (v2.2.2.1, v2.2.1, v2.2.2.1, v2.2.2.2.1, v2.2.2.2.2) else some (2, v2.2.1, v2.2.2.1, v2.2.2.2.1, v2.2.2.2.2) := by
      intro pa la rP
      unfold f_X8_does
      rw [hle, if_neg (fun q => a (e110.mp q)), hrn0]
    rcases q_fence (nI f) with ⟨f2, hf2, ef, x7, x8⟩ | ⟨x7, x8⟩
    · have hff : f = f2 := (nI_eq (by omega) (by omega)).mp ef
      subst hff
      rw [x7]
      simp only [Option.bind_some]
      rw [if_neg (by decide), q_refusal hr.2.1 hf2]
      simp only [Option.bind_some]
      by_cases hfull : c31 tr.1 = 31
      · rw [if_pos hfull, if_neg (by decide)]
        refine ⟨2, tr, s, by omega, rfl, hr, fun pa la rP => ⟨2, ?_⟩⟩
        rw [hdoes]
        unfold f_X8_draw
        rw [x8, q_reason hr hf2, if_pos hfull]
        simp only [Option.bind_some]
        rw [if_neg (by decide), if_neg (by decide)]
        rfl
      · rw [if_neg hfull]
        cases hb : bt tr.1 f
        · rw [if_neg (c := false = true) Bool.false_ne_true, if_pos rfl]
          obtain ⟨g1, s1, p1, p2, p3⟩ := q_mdraw hr hf2 hfull hb
          rw [p1]
          have hcl := q_cl12 tr.1 f
          refine ⟨0, g1, s1, by omega, rfl, p2, fun pa la rP => ⟨0, ?_⟩⟩
          rw [hdoes, p3 pa 1 la rP (pa, rP) q_chg]
          simp only [Option.bind_some]
          rw [if_pos (hz _ (by omega))]
          rfl
        · rw [if_pos (c := true = true) rfl, if_neg (by decide)]
          refine ⟨2, tr, s, by omega, rfl, hr, fun pa la rP => ⟨2, ?_⟩⟩
          rw [hdoes]
          unfold f_X8_draw
          rw [x8, q_reason hr hf2, if_neg hfull, hb]
          simp only [Option.bind_some]
          rw [if_neg (by decide), if_pos trivial, if_neg (by decide)]
          rfl
    · rw [x7]
      simp only [Option.bind_some]
      rw [if_pos trivial]
      refine ⟨1, tr, s, by omega, rfl, hr, fun pa la rP => ⟨1, ?_⟩⟩
      rw [hdoes]
      unfold f_X8_draw
      rw [x8]
      rfl
