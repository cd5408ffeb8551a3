/-! What changes: the class's draw and newGame, caught; the law's loops over its notes. -/
theorem m_record {h : Nat} (hh : h ≤ 4) (qs : k_Q4) (k0 k1 k2 k3 g : k_G8) : ∃ (h' : Nat) (qs' : k_Q4) (a b c d : k_G8), h' ≤ 4 ∧ f_X4_record (nI h) qs k0 k1 k2 k3 g = some (nI h', qs', a, b, c, d) := by
  rcases (show h = 0 ∨ h = 1 ∨ h = 2 ∨ h = 3 ∨ h = 4 by omega) with rfl | rfl | rfl | rfl | rfl
  · exact ⟨1, qs, g, k1, k2, k3, by omega, rfl⟩
  · exact ⟨2, qs, k0, g, k2, k3, by omega, rfl⟩
  · exact ⟨3, qs, k0, k1, g, k3, by omega, rfl⟩
  · exact ⟨4, qs, k0, k1, k2, g, by omega, rfl⟩
  · exact ⟨4, (qs.2.1, qs.2.2.1, qs.2.2.2, qs.1), k1, k2, k3, g, by omega, rfl⟩
theorem m_refuse {g : k_G8} {f : Nat} (h31 : bt g.1 31 = false) (hf : f < 31) (hx : bt g.1 f = true) (hs : Int32) (qs : k_Q4) (k0 k1 k2 k3 : k_G8) : f_L_drawOf (nI f) g hs qs k0 k1 k2 k3 = some (-102, g, hs, qs, k0, k1, k2, k3) := by
  unfold f_L_drawOf f_X7_draw
  refine (k_bs (a := Sum.inr ("java/lang/IllegalStateException", g, hs, qs, k0, k1, k2, k3)) ?_).trans (by simp)
  refine (k_bs (o_fence f hf)).trans ?_
  rw [if_neg (by decide)]
  refine (k_bs (q_refusal h31 hf)).trans ?_
  by_cases c : c31 g.1 = 31
  · rw [if_pos c]; rfl
  · rw [if_neg c, hx]; rfl
theorem m_none (g : k_G8) (hs : Int32) (qs : k_Q4) (k0 k1 k2 k3 : k_G8) : f_L_drawOf 31 g hs qs k0 k1 k2 k3 = some (-101, g, hs, qs, k0, k1, k2, k3) := by
  unfold f_L_drawOf f_X7_draw
  refine (k_bs (a := Sum.inr ("java/lang/IllegalArgumentException", g, hs, qs, k0, k1, k2, k3)) ?_).trans (by simp)
  exact (k_bs o_nofence.1).trans (if_pos rfl)
/-- the game behind a fence -/
def drG (g : k_G8) (f : Nat) (c : Int32) : k_G8 := if c31 (st g.1 f) = 31 then seG (puG g f c) else puG g f c
theorem m_draw {g : k_G8} {f h : Nat} (h31 : bt g.1 31 = false) (hf : f < 31) (hx : bt g.1 f = false) (hh : h ≤ 4) (qs : k_Q4) (k0 k1 k2 k3 : k_G8) : ∃ (cc : Int32) (h' : Nat) (qs' : k_Q4) (a b c d : k_G8), h' ≤ 4 ∧ f_L_drawOf (nI f) g (nI h) qs k0 k1 k2 k3 = some (nI (cl g.1 f), drG g f cc, nI h', qs', a, b, c, d) ∧ ∀ i, i < 32 → bt cc i = (decide (i < 12) && (bes f i && decide (cn g.1 i = 3))) := by
  obtain ⟨cc, c1, c2, c3⟩ := q_gain hf hx
  obtain ⟨h', qs', a, b, c, d, hh', hr⟩ := m_record hh qs k0 k1 k2 k3 g
  have hn : ¬ c31 g.1 = 31 := fun e => by
    have := fb_ct_all.mp e f hf
    rw [hx] at this; cases this
  refine ⟨cc, h', qs', a, b, c, d, hh', ?_, c3⟩
  unfold f_L_drawOf f_X7_draw
  refine (k_bs (a := Sum.inl (nI (cl g.1 f), drG g f cc, nI h', qs', a, b, c, d)) ?_).trans rfl
  refine (k_bs (o_fence f hf)).trans ?_
  rw [if_neg (by decide)]
  refine (k_bs (q_refusal h31 hf)).trans ?_
  rw [if_neg hn, hx]
  refine (if_pos (by decide)).trans ?_
  refine (k_bs hr).trans ?_
  exact (k_bs (q_put h31 hf c1 c2)).trans rfl
theorem m_newGame {g : k_G8} {h : Nat} (hh : h ≤ 4) (qs : k_Q4) (k0 k1 k2 k3 : k_G8) : ∃ (h' : Nat) (qs' : k_Q4) (a b c d : k_G8), h' ≤ 4 ∧ f_X7_newGame g (nI h) qs k0 k1 k2 k3 = some (nI (q_n g.1), beG g, nI h', qs', a, b, c, d) := by
  obtain ⟨h', qs', a, b, c, d, hh', hr⟩ := m_record hh qs k0 k1 k2 k3 g
  refine ⟨h', qs', a, b, c, d, hh', ?_⟩
  unfold f_X7_newGame f_X2_countFences
  refine (k_bs ((k_bs (q_bitCount g.1)).trans rfl)).trans ?_
  refine (k_bs hr).trans ?_
  exact (k_bs q_begin).trans rfl
theorem m_cell {xs : Nat → Int32} {L i : Nat} (hL : L ≤ 260) (hi : i < 64) : ∃ v : Int32, f_L_cell xs L (nI i) = some v := by
  unfold f_L_cell
  by_cases c : L ≤ i
  · rw [if_pos (show Int32.ofNat L ≤ nI i from nI_le c (by omega))]
    exact ⟨_, rfl⟩
  · rw [if_neg (show ¬ Int32.ofNat L ≤ nI i from nI_ge (by omega) (by omega)), if_neg (nI_in (by omega) (by omega))]
    exact ⟨_, rfl⟩
def clr (c : Nat → Int32) (i : Nat) : Nat → Int32 := fun k => if k < i then -1 else c k
theorem clr_succ (c : Nat → Int32) (i : Nat) : upd (clr c i) i (-1) = clr c (i + 1) := by
  funext k
  unfold clr upd
  by_cases e : k = i
  · subst e; rw [if_pos rfl, if_pos (by omega)]
  · rw [if_neg e]
    dsimp only
    by_cases d : k < i
    · rw [if_pos d, if_pos (by omega)]
    · rw [if_neg d, if_neg (by omega)]
theorem clr_0 (c : Nat → Int32) : clr c 0 = c := funext fun k => if_neg (Nat.not_lt_zero k)
theorem m_clear0 {xs : Nat → Int32} {L : Nat} {b : Int32} (c : Nat → Int32) : k_loop (t_L_law_23 xs L b) 1000 (0, c) = some (nI 12, clr c 12) := by
  have h := k_for (step := t_L_law_23 xs L b) (fun i => (nI i, clr c i)) 12 (nI 12, clr c 12) ?_ ?_ 1000 (by decide)
  · rw [clr_0] at h; exact h
  · intro i hi
    unfold t_L_law_23 k_let
    dsimp only
    rw [if_neg (show ¬ (12 : Int32) ≤ nI i from nI_ge (b := 12) hi (by decide)), if_neg (nI_in hi (by decide)), nI_clamp (by omega), clr_succ, nI_1]
  · unfold t_L_law_23
    rw [if_pos (show (12 : Int32) ≤ nI 12 by decide)]
theorem m_clear {xs : Nat → Int32} {L : Nat} {b4 b5 : Int32} (c : Nat → Int32) : k_loop (t_L_law_173 xs L b4 b5) 1000 (0, c) = some (nI 12, clr c 12) := by
  have h := k_for (step := t_L_law_173 xs L b4 b5) (fun i => (nI i, clr c i)) 12 (nI 12, clr c 12) ?_ ?_ 1000 (by decide)
  · rw [clr_0] at h; exact h
  · intro i hi
    unfold t_L_law_173 k_let
    dsimp only
    rw [if_neg (show ¬ (12 : Int32) ≤ nI i from nI_ge (b := 12) hi (by decide)), if_neg (nI_in hi (by decide)), nI_clamp (by omega), clr_succ, nI_1]
  · unfold t_L_law_173
    rw [if_pos (show (12 : Int32) ≤ nI 12 by decide)]
theorem m_seven : ∀ f, f < 31 → (nI f + 7) - (nI f + 7) / 31 * 31 = nI ((f + 7) % 31) := by decide +kernel
theorem m_pick {xs : Nat → Int32} {L : Nat} {x b5 z : Int32} : ∀ (d k f : Nat), k + d = 31 → f < 31 → ∀ N, d < N → ∃ (f' : Nat) (k' : Int32), f' < 31 ∧ k_loop (t_L_law_72 xs L x b5 z) N (nI f, nI k) = some (nI f', k') := by
  intro d
  induction d with
  | zero =>
    intro k f hk hf N hN
    obtain ⟨N, rfl⟩ : ∃ M, N = M + 1 := ⟨N - 1, by omega⟩
    refine ⟨f, nI k, hf, k_loopR ?_⟩
    unfold t_L_law_72
    rw [if_pos (show (31 : Int32) ≤ nI k from nI_le (a := 31) (by omega) (by omega))]
  | succ d ih =>
    intro k f hk hf N hN
    obtain ⟨N, rfl⟩ : ∃ M, N = M + 1 := ⟨N - 1, by omega⟩
    have h1 : ¬ (31 : Int32) ≤ nI k := nI_ge (b := 31) (by omega) (by decide)
    by_cases c : (z - z / 5 * 5) ≤ 0
    · refine ⟨f, nI k, hf, k_loopR ?_⟩
      unfold t_L_law_72
      rw [if_neg h1, if_pos c]
    · by_cases e : (31 : Int32) ≤ nI (q_n x)
      · refine ⟨f, nI k, hf, k_loopR ?_⟩
        unfold t_L_law_72
        rw [if_neg h1, if_neg c]
        refine (k_bs (p_count x)).trans ?_
        rw [if_pos e]
      · by_cases b : bt x f = true
        · obtain ⟨f', k', g1, g2⟩ := ih (k + 1) ((f + 7) % 31) (by omega) (by omega) N (by omega)
          refine ⟨f', k', g1, ?_⟩
          rw [← g2]
          refine k_loopS ?_
          unfold t_L_law_72 k_let
          rw [if_neg h1, if_neg c]
          refine (k_bs (p_count x)).trans ?_
          rw [if_neg e]
          dsimp only
          rw [q_bit1 (by omega), b, if_pos (by decide), m_seven f hf, nI_1]
        · have b : bt x f = false := by simpa using b
          refine ⟨f, nI k, hf, k_loopR ?_⟩
          unfold t_L_law_72
          rw [if_neg h1, if_neg c]
          refine (k_bs (p_count x)).trans ?_
          rw [if_neg e]
          dsimp only
          rw [q_bit1 (by omega), b, if_neg (by decide)]
def mr (c : Nat → Int32) : Nat → Int32
  | 0 => 0
  | i + 1 => mr c i + (if c i = 0 then 1 else -1)
theorem mr_t (c : Nat → Int32) : ∀ i, i ≤ 12 → (mr c i).toInt = 2 * (fb_ct (fun k => decide (c k = 0)) i : Int) - (i : Int)
  | 0, _ => rfl
  | i + 1, hi => by
    have ih := mr_t c i (by omega)
    have hl := fb_ct_le (fun k => decide (c k = 0)) i
    show (mr c i + _).toInt = _
    rw [fb_ct_succ]
    have o1 : ((1 : Int32)).toInt = 1 := by decide
    have o2 : ((-1 : Int32)).toInt = -1 := by decide
    by_cases e : c i = 0
    · rw [if_pos e, if_pos (by simp [e]), fb_addI (by omega) (by omega), o1, ih]; omega
    · rw [if_neg e, if_neg (by simp [e]), fb_addI (by omega) (by omega), o2, ih]; omega
theorem m_more {xs : Nat → Int32} {L : Nat} {b4 b5 b7 b8 : Int32} (c : Nat → Int32) : k_loop (t_L_law_341 xs L b4 b5 b7 b8 c) 1000 (0, 0) = some (mr c 12, nI 12) := by
  refine k_for (fun i => (mr c i, nI i)) 12 _ ?_ ?_ 1000 (by decide)
  · intro i hi
    unfold t_L_law_341 k_let
    dsimp only
    rw [if_neg (show ¬ (12 : Int32) ≤ nI i from nI_ge (b := 12) hi (by decide)), if_neg (nI_in hi (by decide)), nI_clamp (by omega)]
    refine (k_bs (a := if c i = 0 then 1 else -1) ?_).trans (by rw [nI_1]; rfl)
    by_cases e : c i = 0
    · rw [if_pos e, if_pos e]
    · rw [if_neg e, if_neg e]
  · unfold t_L_law_341
    rw [if_pos (show (12 : Int32) ≤ nI 12 by decide)]
/-- the notes of owners behind a fence -/
def ow1 (c : Nat → Int32) (y : Int32) (b : Nat) (v : Int32) : Nat → Int32 := if b < 12 ∧ cn y b = 4 then upd c b v else c
theorem m_own {xs : Nat → Int32} {L : Nat} {y b5 : Int32} {f n : Nat} (hf : f < 31) (hn : n < 13) (t c : Nat → Int32) : ∃ k' : Int32, k_loop (t_L_law_250 xs L y b5 (nI f) (nI n) t) 1000 (0, c) = some (k', if n = 0 then c else ow1 (ow1 c y (ah f) (t 0)) y (bh f) (t 0)) := by
  obtain ⟨h0, h1, -, -, -⟩ := p_ab f hf
  by_cases z : n = 0
  · refine ⟨0, ?_⟩
    rw [if_pos z]
    show k_loop _ (999 + 1) _ = _
    refine k_loopR ?_
    unfold t_L_law_250
    rw [if_neg (show ¬ (2 : Int32) ≤ 0 by decide), if_pos (by rw [z]; decide)]
  · have step : ∀ (w b : Nat) (c : Nat → Int32), w < 2 → f_L_beside (nI f) (nI w) = some (bx b) → t_L_law_250 xs L y b5 (nI f) (nI n) t (nI w, c) = some (.inl (nI (w + 1), ow1 c y b (t 0))) := by
      intro w b c hw hb
      unfold t_L_law_250 k_let
      rw [if_neg (show ¬ (2 : Int32) ≤ nI w from nI_ge (b := 2) hw (by decide)), if_neg (nI_nle (by omega) (by omega))]
      refine (k_bs hb).trans ?_
      refine (k_bs (a := ow1 c y b (t 0)) ?_).trans (by rw [nI_1])
      unfold ow1
      by_cases d : b < 12
      · have h4 := q_cn4 y b
        rw [(p_bxp d).1, if_neg (p_bxp d).2]
        refine (k_bs (p_has d)).trans ?_
        by_cases e : cn y b = 4
        · rw [if_pos (show _ = (4 : Int32) from (nI_eq (b := 4) (by omega) (by decide)).mpr e), if_neg (nI_in d (by decide)), nI_clamp (by omega), if_pos ⟨d, e⟩]
        · rw [if_neg (show ¬ _ = (4 : Int32) from fun q => e ((nI_eq (b := 4) (by omega) (by decide)).mp q)), if_neg fun q => e q.2]
      · rw [if_pos (p_bxn b (by omega)), if_neg fun q => d q.1]
    refine ⟨nI 2, ?_⟩
    rw [if_neg z]
    show k_loop _ (997 + 1 + 1 + 1) (nI 0, c) = _
    rw [k_loopS (step 0 _ c (by omega) h0), k_loopS (step 1 _ _ (by omega) h1)]
    refine k_loopR ?_
    unfold t_L_law_250
    rw [if_pos (show (2 : Int32) ≤ nI (1 + 1) by decide)]
