/-! The class's best of a set, and all sets. -/
theorem q_bestOf {m : Nat} {x : Int32} {op F : Nat → Int32} (h8 : un x 31 ≤ 8) (ho : opn x op) (hm : m < 2 ^ un x 31) (hw : fok x F m) : ∃ b : Int32, f_X1_bestOf (nI m) (nI (un x 31)) op F = some b ∧ b.toInt = VV (posP x (cm m)) := by
  have h256 := pw8 _ h8
  have hxy : ∀ f, f < 31 → bt (posP x (cm m)) f = false → bt x f = false := fun f hf hb => (pos_un hf hb).1
  have hd := q_drawnBut (m := m) (by omega) h8 ho
  have key : ∀ (d n : Nat) (b : Int32) (P : Int → Nat → Prop), (∀ (n : Nat) (b : Int), P b n → (∀ f, f < 31 → bt x f = false → un x f = n → bt (posP x (cm m)) f = true) → P b (n + 1)) → (∀ (n : Nat) (b : Int) (f : Nat), P b n → f < 31 → bt (posP x (cm m)) f = false → bt x f = false → un x f = n → P (if b < mv (posP x (cm m)) f then mv (posP x (cm m)) f else b) (n + 1)) → d + n = un x 31 → P b.toInt n → ∃ b2 : Int32, (∀ N, d < N → k_loop (t_X1_bestOf_20 (nI m) (posP x (cm m)) (nI (un x 31)) op F) N (b, nI n) = some (b2, nI (un x 31))) ∧ P b2.toInt (un x 31) := by
    intro d
    induction d with
    | zero =>
      intro n b P _ _ hn hs
      have e : n = un x 31 := by omega
      subst e
      refine ⟨b, ?_, hs⟩
      intro N hN
      obtain ⟨N, rfl⟩ : ∃ z, N = z + 1 := ⟨N - 1, by omega⟩
      refine k_loopR ?_
      unfold t_X1_bestOf_20
      dsimp only
      rw [if_pos (nI_le (Nat.le_refl _) (by omega))]
    | succ d ih =>
      intro n b P hskip htake hn hs
      obtain ⟨f, hf, hbf, hu⟩ := un_kth (x := x) (i := n) (by omega)
      have h1 : ¬ nI (un x 31) ≤ nI n := nI_ge (by omega) (by omega)
      have e1 : nI n + 1 = nI (n + 1) := nI_1 n
      have hin : f_X3_has (nI m) (nI n) = some (if m.testBit n then 1 else 0) := by rw [q_has (by omega), q_bt (by omega)]
      cases ht : m.testBit n
      · rw [ht] at hin
        have hstep : t_X1_bestOf_20 (nI m) (posP x (cm m)) (nI (un x 31)) op F (b, nI n) = some (.inl (b, nI (n + 1))) := by
          unfold t_X1_bestOf_20
          dsimp only
          rw [if_neg h1]
          refine (k_bs hin).trans ?_
          rw [if_neg (c := false = true) Bool.false_ne_true, if_pos rfl, e1]
        obtain ⟨b2, k1, k2⟩ := ih (n + 1) b P hskip htake (by omega) (hskip n _ hs fun g hg hgx hgu => by
          rw [pos_bt (by omega)]
          show (decide (g < 31) && (bt x g || !m.testBit (un x g))) = true
          rw [hgu, ht]; simp [hg])
        refine ⟨b2, ?_, k2⟩
        intro N hN
        obtain ⟨N, rfl⟩ : ∃ z, N = z + 1 := ⟨N - 1, by omega⟩
        rw [k_loopS hstep]; exact k1 N (by omega)
      · rw [ht] at hin
        obtain ⟨r, r1, r2⟩ := q_reached h8 ho hm hf hbf hu ht hw
        have hby : bt (posP x (cm m)) f = false := pos_bt0 hf hbf (by show (!m.testBit _) = false; rw [hu, ht]; rfl)
        have hstep : t_X1_bestOf_20 (nI m) (posP x (cm m)) (nI (un x 31)) op F (b, nI n) = some (.inl ((if b < r then r else b), nI (n + 1))) := by
          unfold t_X1_bestOf_20 k_let
          dsimp only
          rw [if_neg h1]
          refine (k_bs hin).trans ?_
          rw [if_pos (c := true = true) rfl, if_neg (by decide)]
          refine (k_bs r1).trans ?_
          rw [e1]
        have hnb : (if b < r then r else b).toInt = if b.toInt < mv (posP x (cm m)) f then mv (posP x (cm m)) f else b.toInt := by
          rw [fa_max, r2]
        obtain ⟨b2, k1, k2⟩ := ih (n + 1) (if b < r then r else b) P hskip htake (by omega) (by rw [hnb]; exact htake n _ f hs hf hby hbf hu)
        refine ⟨b2, ?_, k2⟩
        intro N hN
        obtain ⟨N, rfl⟩ : ∃ z, N = z + 1 := ⟨N - 1, by omega⟩
        rw [k_loopS hstep]; exact k1 N (by omega)
  unfold f_X1_bestOf
  rw [k_bs hd]
  by_cases z : m = 0
  · subst z
    have hfull : c31 (posP x (cm 0)) = 31 := pos_full fun i _ => by show (!(0 : Nat).testBit i) = true; simp
    obtain ⟨b2, k1, k2⟩ := key (un x 31) 0 0 (fun b _ => b = 0) (fun _ _ h _ => h) (fun n b f _ hf hb _ _ => by
      have := fb_ct_all.mp hfull f hf
      rw [hb] at this; cases this) rfl rfl
    refine ⟨b2, ?_, by rw [VV_full hfull]; exact k2⟩
    rw [if_pos (show nI 0 = (0 : Int32) from rfl)]
    exact (k_bs (k1 1000 (by omega))).trans rfl
  · have hfull : c31 (posP x (cm m)) < 31 := by
      have hex : ∃ i, i < un x 31 ∧ m.testBit i = true := by
        refine Classical.byContradiction fun q => z ?_
        refine Nat.eq_of_testBit_eq fun i => ?_
        rw [Nat.zero_testBit]
        by_cases c : i < un x 31
        · cases ht : m.testBit i
          · rfl
          · exact absurd ⟨i, c, ht⟩ q
        · exact Nat.testBit_lt_two_pow (Nat.lt_of_lt_of_le hm (Nat.pow_le_pow_right (by decide) (by omega)))
      obtain ⟨i, hi, ht⟩ := hex
      obtain ⟨f, hf, hb, hu⟩ := un_kth hi
      exact c31_pos hf hb (by show (!m.testBit _) = false; rw [hu, ht]; rfl)
    obtain ⟨b2, k1, k2⟩ := key (un x 31) 0 (-12) (fun b n => bsg x (posP x (cm m)) n b) (fun n b h hs => bsg_skip h hs) (fun n b f h hf hb hx hu => bsg_take h hf hb hx hu) rfl ⟨fun f _ _ _ h => absurd h (Nat.not_lt_zero _), Or.inl rfl⟩
    refine ⟨b2, ?_, bsg_end hxy hfull k2⟩
    rw [if_neg (show ¬ nI m = (0 : Int32) from fun q => z ((nI_eq (b := 0) (by omega) (by decide)).mp q))]
    exact (k_bs (k1 1000 (by omega))).trans rfl
theorem q_up {x : Int32} {op : Nat → Int32} (h8 : un x 31 ≤ 8) (ho : opn x op) : ∀ (d j : Nat) (F : Nat → Int32), d + j = 2 ^ un x 31 → fok x F j → ∃ (F2 : Nat → Int32), (∀ N, d < N → k_loop (t_X1_workOut_58 (nI (un x 31)) op) N (nI j, F) = some (nI (2 ^ un x 31), F2)) ∧ fok x F2 (2 ^ un x 31) := by
  have h256 := pw8 _ h8
  obtain ⟨-, s2⟩ := sh_one _ h8
  intro d
  induction d with
  | zero =>
    intro j F hj hw
    have e : j = 2 ^ un x 31 := by omega
    subst e
    refine ⟨F, ?_, hw⟩
    intro N hN
    obtain ⟨N, rfl⟩ : ∃ z, N = z + 1 := ⟨N - 1, by omega⟩
    refine k_loopR ?_
    unfold t_X1_workOut_58
    dsimp only
    rw [s2, if_pos (nI_le (Nat.le_refl _) (by omega))]
  | succ d ih =>
    intro j F hj hw
    obtain ⟨b, b1, b2⟩ := q_bestOf h8 ho (m := j) (by omega) hw
    have hg := nI_in (c := j) (N := 256) (by omega) (by decide)
    have hcl : (nI j).toNatClampNeg = j := nI_clamp (by omega)
    have h1 : ¬ nI (2 ^ un x 31) ≤ nI j := nI_ge (by omega) (by omega)
    have e1 : nI j + 1 = nI (j + 1) := nI_1 j
    have hstep : t_X1_workOut_58 (nI (un x 31)) op (nI j, F) = some (.inl (nI (j + 1), upd F j b)) := by
      unfold t_X1_workOut_58 k_let
      dsimp only
      rw [s2, if_neg h1]
      refine (k_bs b1).trans ?_
      rw [if_neg hg, hcl, e1]
    have hw2 : fok x (upd F j b) (j + 1) := by
      intro m hm
      by_cases z : m = j
      · subst z; rw [upd_eq, b2]
      · rw [upd_ne z]; exact hw m (by omega)
    obtain ⟨F2, a1, a2⟩ := ih (j + 1) (upd F j b) (by omega) hw2
    refine ⟨F2, ?_, a2⟩
    intro N hN
    obtain ⟨N, rfl⟩ : ∃ z, N = z + 1 := ⟨N - 1, by omega⟩
    rw [k_loopS hstep]; exact a1 N (by omega)
theorem q_workOut {x : Int32} (hn : 23 ≤ c31 x) (es : Int32) (op fo : Nat → Int32) : ∃ (O F : Nat → Int32), f_X1_workOut x es op fo = some (nI (un x 31), O, F) ∧ opn x O ∧ fok x F (2 ^ un x 31) := by
  have hun := un_all x
  have h8 : un x 31 ≤ 8 := by omega
  have h256 := pw8 _ h8
  have ho := ro_opn x op
  obtain ⟨F2, a1, a2⟩ := q_up h8 ho (2 ^ un x 31) 0 fo (by omega) (fun m hm => absurd hm (Nat.not_lt_zero _))
  refine ⟨ro x op 31, F2, ?_, ho, a2⟩
  unfold f_X1_workOut
  refine (k_bs (q_opensF h8)).trans ?_
  exact (k_bs (a1 1000 (by omega))).trans rfl
