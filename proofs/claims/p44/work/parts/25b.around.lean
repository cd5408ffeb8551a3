/-! The chain of a box, grown until a round adds none. -/
theorem btw_one : ∀ f, f < 31 → ∀ a, a < 12 → ∀ i, i < 12 → (bes f a && bes f i && a != i) = true → btw a i = f := by decide +kernel
theorem btw_bes : ∀ a, a < 12 → ∀ i, i < 12 → btw a i < 31 → bes (btw a i) a = true ∧ bes (btw a i) i = true := by decide +kernel
def tws (x : Int32) : Int32 := bld (tw x) 12
theorem tws_bt {x : Int32} {i : Nat} (hi : i < 32) : bt (tws x) i = (decide (i < 12) && tw x i) := q_bld _ 12 (by omega) i hi
def gs (x R : Int32) (f : Nat) : Int32 := if bt x f = false ∧ ¬ (bbI f &&& R) = 0 ∧ wi (bbI f) (tws x) = true then R ||| bbI f else R
def gr (x R : Int32) : Nat → Int32
  | 0 => R
  | f + 1 => gs x (gr x R f) f
theorem gr_succ (x R : Int32) (f : Nat) : gr x R (f + 1) = gs x (gr x R f) f := rfl
theorem gs_up {x R : Int32} {f i : Nat} (h : bt R i = true) : bt (gs x R f) i = true := by
  unfold gs
  split
  · rw [b_or, h]; rfl
  · exact h
theorem gr_up {x R : Int32} {i : Nat} (h : bt R i = true) : ∀ f, bt (gr x R f) i = true
  | 0 => h
  | f + 1 => gs_up (gr_up h f)
theorem gr_more {x R : Int32} {i f : Nat} : ∀ d, bt (gr x R f) i = true → bt (gr x R (f + d)) i = true
  | 0, h => h
  | d + 1, h => by rw [← Nat.add_assoc]; exact gs_up (gr_more d h)
/-- all in it are boxes reached from k -/
def inR (x R : Int32) (k : Nat) : Prop := ∀ i, i < 32 → bt R i = true → i < 12 ∧ Rch x k i
theorem gs_in {x R : Int32} {k f : Nat} (hf : f < 31) (h : inR x R k) : inR x (gs x R f) k := by
  intro i hi hb
  unfold gs at hb
  by_cases c : bt x f = false ∧ ¬ (bbI f &&& R) = 0 ∧ wi (bbI f) (tws x) = true
  · rw [if_pos c, b_or] at hb
    rcases Bool.or_eq_true _ _ ▸ hb with q | q
    · exact h i hi q
    · have hex : ∃ a, a < 32 ∧ bt (bbI f &&& R) a = true := Classical.byContradiction fun z => c.2.1 (q_zero.mpr fun a ha => by
        cases hh : bt (bbI f &&& R) a
        · rfl
        · exact absurd ⟨a, ha, hh⟩ z)
      obtain ⟨a, ha, hab⟩ := hex
      rw [b_and, Bool.and_eq_true] at hab
      obtain ⟨ha12, hra⟩ := h a ha hab.2
      have hw := q_wi.mp c.2.2
      have t1 := hw a ha hab.1
      have t2 := hw i hi q
      rw [tws_bt ha] at t1
      rw [tws_bt hi] at t2
      rw [q_bbb f hf i hi] at q
      have q1 := hab.1
      rw [q_bbb f hf a ha] at q1
      simp only [Bool.and_eq_true, decide_eq_true_eq] at t1 t2 q q1
      refine ⟨t2.1, ?_⟩
      by_cases e : a = i
      · subst e; exact hra
      · refine Rch.tr hra (Rch.edge ha12 t2.1 ?_)
        have hbw := btw_one f hf a ha12 i t2.1 (by rw [q1.2, q.2]; simpa using e)
        unfold jn
        rw [hbw, c.1, t1.2, t2.2]
        simp [hf]
  · rw [if_neg c] at hb; exact h i hi hb
theorem gr_in {x R : Int32} {k : Nat} (h : inR x R k) : ∀ f, f ≤ 31 → inR x (gr x R f) k
  | 0, _ => h
  | f + 1, hf => gs_in (by omega) (gr_in h f (by omega))
theorem gr_fix {x R : Int32} (h : ∀ i, i < 32 → bt (gr x R 31) i = bt R i) {a i : Nat} (ha : a < 12) (hi : i < 12) (hb : bt R a = true) (hj : jn x a i = true) : bt R i = true := by
  have ht := jn_tw hj
  unfold jn at hj
  simp only [Bool.and_eq_true, decide_eq_true_eq, Bool.not_eq_true'] at hj
  obtain ⟨hf, hd, -⟩ := hj
  obtain ⟨b1, b2⟩ := btw_bes a ha i hi hf
  generalize hff : btw a i = f at *
  rw [← h i (by omega)]
  have : bt (gr x R (f + 1)) i = true := by
    rw [gr_succ]
    unfold gs
    have hA := gr_up (x := x) hb f
    have c : bt x f = false ∧ ¬ (bbI f &&& gr x R f) = 0 ∧ wi (bbI f) (tws x) = true := by
      refine ⟨hd, fun z => ?_, ?_⟩
      · have := q_zero.mp z a (by omega)
        rw [b_and, hA, q_bbb f hf a (by omega), b1] at this
        simp [ha] at this
      · rw [q_wi]
        intro j hj hbj
        rw [q_bbb f hf j hj] at hbj
        simp only [Bool.and_eq_true, decide_eq_true_eq] at hbj
        rw [tws_bt hj]
        have : j = a ∨ j = i := by
          refine Classical.byContradiction fun q => ?_
          have e1 : ¬ a = j := fun z => q (Or.inl z.symm)
          have e2 : ¬ i = j := fun z => q (Or.inr z.symm)
          have e3 : ¬ a = i := by
            intro z
            subst z
            have := (by decide +kernel : ∀ a, a < 12 → btw a a = 31) a ha
            omega
          have k1 := q_bes f hf a ha
          have k2 := q_bes f hf i hi
          have k3 := q_bes f hf j hbj.1
          rw [b1] at k1
          rw [b2] at k2
          rw [hbj.2] at k3
          have inj : ∀ u v, u < 12 → v < 12 → nI u = nI v → u = v := fun u v hu hv e => (nI_eq (by omega) (by omega)).mp e
          rcases Bool.or_eq_true _ _ ▸ k1.symm with z1 | z1 <;> rcases Bool.or_eq_true _ _ ▸ k2.symm with z2 | z2 <;> rcases Bool.or_eq_true _ _ ▸ k3.symm with z3 | z3 <;> simp only [beq_iff_eq] at z1 z2 z3
          · exact e3 (inj _ _ ha hi (z1.symm.trans z2))
          · exact e3 (inj _ _ ha hi (z1.symm.trans z2))
          · exact e1 (inj _ _ ha hbj.1 (z1.symm.trans z3))
          · exact e2 (inj _ _ hi hbj.1 (z2.symm.trans z3))
          · exact e2 (inj _ _ hi hbj.1 (z2.symm.trans z3))
          · exact e1 (inj _ _ ha hbj.1 (z1.symm.trans z3))
          · exact e3 (inj _ _ ha hi (z1.symm.trans z2))
          · exact e3 (inj _ _ ha hi (z1.symm.trans z2))
        rcases this with rfl | rfl
        · simp [hbj.1, ht.1]
        · simp [hbj.1, ht.2]
    rw [if_pos c, b_or, q_bbb f hf i (by omega), b2]
    simp [hi]
  have h2 := gr_more (x := x) (R := R) (i := i) (f := f + 1) (31 - (f + 1)) this
  rw [show f + 1 + (31 - (f + 1)) = 31 by omega] at h2
  exact h2
theorem q_grown {x R : Int32} : f_X0_grown x (tws x) R = some (gr x R 31) := by
  unfold f_X0_grown
  rw [show ((R, 0) : Int32 × Int32) = (gr x R 0, nI 0) from rfl, k_for (fun i => (gr x R i, nI i)) 31 (gr x R 31, nI 31) ?_ ?_ 1000 (by decide)]
  · rfl
  · intro i hi
    unfold t_X0_grown_5 k_let
    dsimp only
    rw [if_neg (show ¬ (31 : Int32) ≤ nI i from nI_ge (b := 31) hi (by decide)), q_beside i hi]
    simp only [Option.bind_some, nI_1]
    rw [q_has (by omega), gr_succ]
    simp only [Option.bind_some]
    unfold gs
    cases hb : bt x i
    · simp only [Bool.false_eq_true, if_false, if_true]
      by_cases c : (bbI i &&& gr x R i) = 0
      · rw [if_pos c, if_neg (fun q => q.2.1 c)]
      · rw [if_neg c, q_isWithin]
        simp only [Option.bind_some]
        cases hw : wi (bbI i) (tws x)
        · rw [if_neg (c := false = true) Bool.false_ne_true, if_pos rfl, if_neg (fun q => by cases q.2.2)]
        · rw [if_pos (c := true = true) rfl, if_neg (by decide), if_pos ⟨trivial, c, rfl⟩]
    · rw [if_pos (c := true = true) rfl, if_neg (by decide), if_neg (fun q => by cases q.1)]
  · rfl
def aq (x : Int32) (k : Nat) : Nat → Int32
  | 0 => (1 : Int32) <<< (nI k &&& 31)
  | n + 1 => gr x (aq x k n) 31
theorem aq_succ (x : Int32) (k n : Nat) : aq x k (n + 1) = gr x (aq x k n) 31 := rfl
theorem aq_in {x : Int32} {k : Nat} (hk : k < 12) : ∀ n, inR x (aq x k n) k
  | 0 => fun i hi hb => by
    have : aq x k 0 = (1 : Int32) <<< (nI k &&& 31) := rfl
    rw [this, q_one (by omega) hi] at hb
    have e : i = k := of_decide_eq_true hb
    subst e
    exact ⟨hk, Rch.rf⟩
  | n + 1 => gr_in (aq_in hk n) 31 (Nat.le_refl _)
theorem aq_k {x : Int32} {k : Nat} (hk : k < 12) : ∀ n, bt (aq x k n) k = true
  | 0 => by
    have : aq x k 0 = (1 : Int32) <<< (nI k &&& 31) := rfl
    rw [this, q_one (by omega) (by omega)]; simp
  | n + 1 => gr_up (aq_k hk n) 31
def aN (x : Int32) (k : Nat) : Nat := ff (fun n => decide (aq x k (n + 1) = aq x k n)) 12
theorem aq_grow {x : Int32} {k n : Nat} (hk : k < 12) (h : aq x k (n + 1) ≠ aq x k n) : fb_ct (bt (aq x k n)) 12 + 1 ≤ fb_ct (bt (aq x k (n + 1))) 12 := by
  have hex : ∃ i, i < 32 ∧ bt (aq x k (n + 1)) i = true ∧ bt (aq x k n) i = false := by
    refine Classical.byContradiction fun q => h (b_ext fun i hi => ?_)
    cases h1 : bt (aq x k n) i
    · cases h2 : bt (aq x k (n + 1)) i
      · rfl
      · exact absurd ⟨i, hi, h2, h1⟩ q
    · exact gr_up h1 31
  obtain ⟨i, hi, h1, h2⟩ := hex
  have hi12 := (aq_in hk (n + 1) i hi h1).1
  have u := fb_ct_upd (bt (aq x k n)) true hi12
  rw [h2] at u
  have s := fb_ct_sub (n := 12) (p := fun j => if j = i then true else bt (aq x k n) j) (q := bt (aq x k (n + 1))) (fun j _ hp => by
    by_cases e : j = i
    · subst e; exact h1
    · rw [if_neg e] at hp; exact gr_up hp 31)
  simp only [Bool.false_eq_true, if_false, if_true] at u
  omega
theorem aN_lt {x : Int32} {k : Nat} (hk : k < 12) : aN x k < 12 ∧ aq x k (aN x k + 1) = aq x k (aN x k) := by
  have hl := ff_le (fun n => decide (aq x k (n + 1) = aq x k n)) 12
  have hlt : aN x k < 12 := by
    refine Nat.lt_of_le_of_ne hl fun e => ?_
    have hg : ∀ n, n ≤ 12 → n + 1 ≤ fb_ct (bt (aq x k n)) 12 := by
      intro n
      induction n with
      | zero =>
        intro _
        have : 0 < fb_ct (bt (aq x k 0)) 12 := fb_ct_pos.mpr ⟨k, hk, aq_k hk 0⟩
        omega
      | succ n ih =>
        intro hn
        have h1 := ff_not (fun n => decide (aq x k (n + 1) = aq x k n)) 12 n (by unfold aN at e; omega)
        have := aq_grow hk (n := n) (by simpa using h1)
        have := ih (by omega)
        omega
    have := hg 12 (Nat.le_refl _)
    have := fb_ct_le (bt (aq x k 12)) 12
    omega
  refine ⟨hlt, ?_⟩
  have := ff_is _ _ hlt
  simpa [aN] using this
theorem q_aroundL {x : Int32} {k N : Nat} (hN : aN x k = N) (hlt : N < 12) (hfix : aq x k (N + 1) = aq x k N) : k_loop (t_X0_around_13 x (tws x)) 1000 (aq x k 0, nI 0) = some (aq x k N, nI N) := by
  refine k_for (fun n => (aq x k n, nI n)) N (aq x k N, nI N) ?_ ?_ 1000 (by omega)
  · intro n hn
    unfold t_X0_around_13
    dsimp only
    rw [if_neg (show ¬ (12 : Int32) ≤ nI n from nI_ge (b := 12) (by omega) (by decide)), q_grown]
    simp only [Option.bind_some, nI_1]
    have h1 := ff_not (fun n => decide (aq x k (n + 1) = aq x k n)) 12 n (by unfold aN at hN; omega)
    rw [← aq_succ, if_neg (by simpa using h1)]
  · unfold t_X0_around_13
    dsimp only
    rw [if_neg (show ¬ (12 : Int32) ≤ nI _ from nI_ge (b := 12) hlt (by decide)), q_grown]
    simp only [Option.bind_some]
    rw [← aq_succ, if_pos hfix, hfix]
theorem q_around {x : Int32} {k : Nat} (hk : k < 12) : ∃ R, f_X0_around x (nI k) = some R ∧ ∀ i, i < 32 → (bt R i = true ↔ i < 12 ∧ Rch x k i) := by
  obtain ⟨hlt, hfix⟩ := aN_lt (x := x) hk
  generalize hN : aN x k = N at hlt hfix
  refine ⟨aq x k N, ?_, fun i hi => ⟨fun h => aq_in hk _ i hi h, fun ⟨hi12, hr⟩ => ?_⟩⟩
  · unfold f_X0_around k_let
    rw [show (2 : Int32) = nI 2 from rfl, q_boxesHaving (by decide)]
    simp only [Option.bind_some]
    have e : bld (fun k => decide (cn x k = 2)) 12 = tws x := rfl
    rw [e]
    have h := q_aroundL hN hlt hfix
    show ((k_loop (t_X0_around_13 x (tws x)) 1000 (aq x k 0, nI 0)).bind _) = _
    rw [h]
    simp only [Option.bind_some]
  · have := hr (fun i => i < 12 ∧ bt (aq x k N) i = true) ⟨hk, aq_k hk _⟩ (fun a b ha hb hp hj => ⟨hb, gr_fix (fun i _ => by rw [← aq_succ, hfix]) ha hb hp.2 hj⟩)
    exact this.2
