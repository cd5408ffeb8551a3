/-! Texts: all orders. -/
theorem k_loopS {S R : Type} {step : S → Option (S ⊕ R)} {s s' : S} {n : Nat} (h : step s = some (.inl s')) : k_loop step (n + 1) s = k_loop step n s' := by
  show (step s).bind _ = _
  rw [h]; rfl
theorem k_loopR {S R : Type} {step : S → Option (S ⊕ R)} {s : S} {r : R} {n : Nat} (h : step s = some (.inr r)) : k_loop step (n + 1) s = some r := by
  show (step s).bind _ = _
  rw [h]; rfl
theorem pl_step0 {ru ty p pa la fr re ca od le sp le' : Int32} {rT s rP rN rN' : Nat → Int32} (h : ¬ ty ≤ p) (hp : f_X8_parses ty p le rT rN = some (0, sp, le', rN')) : t_X8_plays_22 ru ty rT (1, pa, la, p, fr, re, ca, od, le, s, rP, rN) = some (.inl (0, pa, la, sp, p, 1, sp - p, od + 1, le', s, rP, rN')) := by
  unfold t_X8_plays_22
  dsimp only
  rw [if_neg h, if_neg (by decide), hp]
  rfl
theorem pl_step1 {ru ty p pa la fr re ca od le sp le' w pa' la' : Int32} {rT s rP rN rN' s' rP' : Nat → Int32} (h : ¬ ty ≤ p) (hp : f_X8_parses ty p le rT rN = some (1, sp, le', rN')) (hd : f_X8_does pa ru la le' s rP rN' = some (w, pa', la', s', rP')) : t_X8_plays_22 ru ty rT (1, pa, la, p, fr, re, ca, od, le, s, rP, rN) = some (.inl (if w = 0 then 1 else 0, pa', la', sp, p, 2, w, od + 1, le', s', rP', rN')) := by
  unfold t_X8_plays_22 k_let
  dsimp only
  rw [if_neg h, if_neg (by decide), hp]
  simp only [Option.bind_some]
  rw [if_neg (by decide), hd]
  simp only [Option.bind_some]
  have e : ¬ (1 : Int32) = 0 := by decide
  by_cases z : w = 0
  · simp only [if_neg e, if_pos z]
  · simp only [if_neg e, if_neg z]
theorem pl_exit {ru ty p pa la fr re ca od le : Int32} {rT s rP rN : Nat → Int32} {is : Int32} (h : ty ≤ p ∨ is = 0) : t_X8_plays_22 ru ty rT (is, pa, la, p, fr, re, ca, od, le, s, rP, rN) = some (.inr (is, pa, la, p, fr, re, ca, od, le, s, rP, rN)) := by
  unfold t_X8_plays_22
  dsimp only
  by_cases q : ty ≤ p
  · rw [if_pos q]
  · rw [if_neg q, if_pos (h.resolve_left q)]
/-- the two loops side by side, from a place on -/
theorem q_both {t : Nat} {c : Nat → Nat} {ch rT : Nat → Int32} (h : tx t c ch) (hT : tx t c rT) : ∀ (n p : Nat), t - p ≤ n → p ≤ t → ∀ (i d : Nat) (re ca : Int32) (tr : k_G8) (s : Nat → Int32), 2 * i ≤ p → rg8 tr s → ∀ (pa la fr mre mca le : Int32) (rP rN : Nat → Int32),
    (∃ (i' d' : Nat) (re' ca' : Int32) (tr' : k_G8) (s' : Nat → Int32) (la' sp' fr' mre' mca' le' : Int32) (rN' : Nat → Int32), rg8 tr' s' ∧ (∀ N, n < N → k_loop (t_X5_haveFault_20 ch) N (nI i, (nI t, nI p, re, ca, nI d), tr) = some (.inl (nI i', (nI t, nI t, re', ca', nI d'), tr'))) ∧ ∀ N, n + 1 < N → k_loop (t_X8_plays_22 1 (nI t) rT) N (1, pa, la, nI p, fr, mre, mca, nI d, le, s, rP, rN) = some (1, pa, la', sp', fr', mre', mca', nI d', le', s', rP, rN')) ∨
    (∃ (p' re' ca' d' : Int32) (tr' : k_G8) (s' : Nat → Int32) (la' sp' od' le' : Int32) (rN' : Nat → Int32), (∀ N, n < N → k_loop (t_X5_haveFault_20 ch) N (nI i, (nI t, nI p, re, ca, nI d), tr) = some (.inr (1, (nI t, p', re', ca', d'), tr'))) ∧ ∀ N, n + 1 < N → k_loop (t_X8_plays_22 1 (nI t) rT) N (1, pa, la, nI p, fr, mre, mca, nI d, le, s, rP, rN) = some (0, pa, la', sp', p', re', ca', od', le', s', rP, rN')) := by
  have ht := h.1
  intro n
  induction n with
  | zero =>
    intro p hn hp i d re ca tr s hi hr pa la fr mre mca le rP rN
    have e : p = t := by omega
    subst e
    refine Or.inl ⟨i, d, re, ca, tr, s, la, nI p, fr, mre, mca, le, rN, hr, ?_, ?_⟩
    · intro N hN
      obtain ⟨N, rfl⟩ : ∃ z, N = z + 1 := ⟨N - 1, by omega⟩
      refine k_loopR ?_
      unfold t_X5_haveFault_20
      dsimp only
      rw [if_neg (show ¬ (60 : Int32) ≤ nI i from nI_ge (b := 60) (by omega) (by decide)), if_pos (nI_le (Nat.le_refl _) (by omega))]
    · intro N hN
      obtain ⟨N, rfl⟩ : ∃ z, N = z + 1 := ⟨N - 1, by omega⟩
      exact k_loopR (pl_exit (Or.inl (nI_le (Nat.le_refl _) (by omega))))
  | succ n ih =>
    intro p hn hp i d re ca tr s hi hr pa la fr mre mca le rP rN
    by_cases hpt : p < t
    · obtain ⟨le', rN', hpar, hfm⟩ := q_parses hT hpt le rN
      have hi60 : ¬ (60 : Int32) ≤ nI i := nI_ge (b := 60) (by omega) (by decide)
      have hlt : ¬ nI t ≤ nI p := nI_ge hpt (by omega)
      have hfit := q_fittingAt h (p := p) (by omega) (o := (nI t, nI p, re, ca, nI d)) rfl
      have hf10 := q_fit10 t c p
      cases hfd : fmd t c p
      · rw [hfd, if_neg Bool.false_ne_true] at hpar
        refine Or.inr ⟨nI p, 1, nI (fitN t c p), nI d, tr, s, la, nI (p + fitN t c p), nI d + 1, le', rN', ?_, ?_⟩
        · intro N hN
          obtain ⟨N, rfl⟩ : ∃ z, N = z + 1 := ⟨N - 1, by omega⟩
          refine k_loopR ?_
          unfold t_X5_haveFault_20
          dsimp only
          rw [if_neg hi60, if_neg hlt, hfit]
          simp only [Option.bind_some]
          by_cases z : fitN t c p = 0
          · rw [if_pos (by rw [z]; rfl)]
          · rw [if_neg (show ¬ nI (fitN t c p) = (0 : Int32) from fun q => z ((nI_eq (b := 0) (by omega) (by decide)).mp q))]
            have e1 : (nI p + nI (fitN t c p)) - 1 = nI (p + fitN t c p - 1) := by
              rw [nI_add]
              obtain ⟨m, hm⟩ : ∃ m, p + fitN t c p = m + 1 := ⟨p + fitN t c p - 1, by omega⟩
              rw [hm, Nat.add_sub_cancel]
              exact nI_pred m
            rw [e1, q_at h (by omega) rfl]
            simp only [Option.bind_some]
            have e59 : ¬ atI t c (p + fitN t c p - 1) = (59 : Int32) := fun q => by
              have := (atI_is h _ (k := 59) (by omega)).mp q
              have := (fmd_iff h hpt).mpr ⟨z, this⟩
              rw [hfd] at this; cases this
            rw [if_neg e59]
        · intro N hN
          obtain ⟨N, rfl⟩ : ∃ z, N = z + 1 + 1 := ⟨N - 2, by omega⟩
          rw [k_loopS (pl_step0 hlt hpar), k_loopR (pl_exit (Or.inr rfl))]
          have e2 : nI (p + fitN t c p) - nI p = nI (fitN t c p) := by
            rw [Int32.sub_eq_iff_eq_add, nI_add, Nat.add_comm]
          rw [e2]
      · rw [hfd, if_pos rfl] at hpar
        obtain ⟨hle, hrn⟩ := hfm hfd
        obtain ⟨w, tr', s', hw, ho, hrel, hdo⟩ := q_order (ch := ch) h hpt hfd (o := (nI t, nI p, re, ca, nI d)) rfl rfl hr hle hrn
        obtain ⟨la', hdo⟩ := hdo pa la rP
        have hfl := fit_le h hpt hfd
        have h59 := ((fmd_iff h hpt).mp hfd)
        have hcla : t_X5_haveFault_20 ch (nI i, (nI t, nI p, re, ca, nI d), tr) = if nI w = 0 then some (.inl (nI (i + 1), (nI t, nI (p + fitN t c p), re, nI w, nI (d + 1)), tr')) else some (.inr (.inr (1, (nI t, nI p, 2, nI w, nI d), tr'))) := by
          unfold t_X5_haveFault_20 k_let
          dsimp only
          rw [if_neg hi60, if_neg hlt, hfit]
          simp only [Option.bind_some]
          rw [if_neg (show ¬ nI (fitN t c p) = (0 : Int32) from fun q => h59.1 ((nI_eq (b := 0) (by omega) (by decide)).mp q))]
          have e1 : (nI p + nI (fitN t c p)) - 1 = nI (p + fitN t c p - 1) := by
            rw [nI_add]
            obtain ⟨m, hm⟩ : ∃ m, p + fitN t c p = m + 1 := ⟨p + fitN t c p - 1, by omega⟩
            rw [hm, Nat.add_sub_cancel]
            exact nI_pred m
          rw [e1, q_at h (by omega) rfl]
          simp only [Option.bind_some]
          rw [if_pos (show atI t c (p + fitN t c p - 1) = (59 : Int32) from (atI_is h _ (k := 59) (by omega)).mpr h59.2), ho]
          simp only [Option.bind_some]
          rw [nI_1 i, nI_1 d, nI_add p]
        by_cases z : w = 0
        · subst z
          have hm := pl_step1 (ru := 1) (fr := fr) (re := mre) (ca := mca) (od := nI d) hlt hpar hdo
          rw [if_pos (show nI 0 = (0 : Int32) from rfl)] at hm hcla
          rw [nI_1 d] at hm
          rcases ih (p + fitN t c p) (by omega) (by omega) (i + 1) (d + 1) re (nI 0) tr' s' (by omega) hrel pa la' (nI p) 2 (nI 0) le' rP rN' with ⟨i2, d2, re2, ca2, tr2, s2, la2, sp2, fr2, mre2, mca2, le2, rN2, a1, a2, a3⟩ | ⟨p2, re2, ca2, d2, tr2, s2, la2, sp2, od2, le2, rN2, a2, a3⟩
          · refine Or.inl ⟨i2, d2, re2, ca2, tr2, s2, la2, sp2, fr2, mre2, mca2, le2, rN2, a1, ?_, ?_⟩
            · intro N hN
              obtain ⟨N, rfl⟩ : ∃ z, N = z + 1 := ⟨N - 1, by omega⟩
              rw [k_loopS hcla]; exact a2 N (by omega)
            · intro N hN
              obtain ⟨N, rfl⟩ : ∃ z, N = z + 1 := ⟨N - 1, by omega⟩
              rw [k_loopS hm]; exact a3 N (by omega)
          · refine Or.inr ⟨p2, re2, ca2, d2, tr2, s2, la2, sp2, od2, le2, rN2, ?_, ?_⟩
            · intro N hN
              obtain ⟨N, rfl⟩ : ∃ z, N = z + 1 := ⟨N - 1, by omega⟩
              rw [k_loopS hcla]; exact a2 N (by omega)
            · intro N hN
              obtain ⟨N, rfl⟩ : ∃ z, N = z + 1 := ⟨N - 1, by omega⟩
              rw [k_loopS hm]; exact a3 N (by omega)
        · have hw0 : ¬ nI w = (0 : Int32) := fun q => z ((nI_eq (b := 0) (by omega) (by decide)).mp q)
          have hm := pl_step1 (ru := 1) (fr := fr) (re := mre) (ca := mca) (od := nI d) hlt hpar hdo
          rw [if_neg hw0] at hm hcla
          refine Or.inr ⟨nI p, 2, nI w, nI d, tr', s', la', nI (p + fitN t c p), nI d + 1, le', rN', ?_, ?_⟩
          · intro N hN
            obtain ⟨N, rfl⟩ : ∃ z, N = z + 1 := ⟨N - 1, by omega⟩
            exact k_loopR hcla
          · intro N hN
            obtain ⟨N, rfl⟩ : ∃ z, N = z + 1 + 1 := ⟨N - 2, by omega⟩
            rw [k_loopS hm, k_loopR (pl_exit (Or.inr rfl))]
    · have e : p = t := by omega
      subst e
      refine Or.inl ⟨i, d, re, ca, tr, s, la, nI p, fr, mre, mca, le, rN, hr, ?_, ?_⟩
      · intro N hN
        obtain ⟨N, rfl⟩ : ∃ z, N = z + 1 := ⟨N - 1, by omega⟩
        refine k_loopR ?_
        unfold t_X5_haveFault_20
        dsimp only
        rw [if_neg (show ¬ (60 : Int32) ≤ nI i from nI_ge (b := 60) (by omega) (by decide)), if_pos (nI_le (Nat.le_refl _) (by omega))]
      · intro N hN
        obtain ⟨N, rfl⟩ : ∃ z, N = z + 1 := ⟨N - 1, by omega⟩
        exact k_loopR (pl_exit (Or.inl (nI_le (Nat.le_refl _) (by omega))))
