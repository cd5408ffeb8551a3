/-! Closed upon itself; the kinds; the counts. -/
def bd (x R : Int32) (f : Nat) : Bool := !bt x f && (!decide ((bbI f &&& R) = 0) && (decide (q_n (bbI f) < 2) || !wi (bbI f) R))
theorem q_nb : ∀ f, f < 31 → ∀ i, i < 12 → bes f i = true → (q_n (bbI f) < 2 ↔ fb_ct (fun j => bes f j && j != i) 12 = 0) := by decide +kernel
theorem q_n32 (x : Int32) : q_n x ≤ 32 := fb_ct_le _ 32
theorem cu_pure {α : Type} {A B : α} {t w : Bool} {n2 u0 : Prop} [Decidable n2] [Decidable u0] : (if n2 then if (if t = true then (1 : Int32) else 0) = 0 then if u0 then A else if (1 : Int32) = 0 then A else B else A else if (if w = true then (1 : Int32) else 0) = 0 then if (if t = true then (1 : Int32) else 0) = 0 then if u0 then A else if (1 : Int32) = 0 then A else B else A else if (if t = true then (1 : Int32) else 0) = 0 then if u0 then A else if (0 : Int32) = 0 then A else B else A) = if (!t && (!decide u0 && (decide n2 || !w))) = true then B else A := by
  have e10 : ¬ (1 : Int32) = 0 := by decide
  have e00 : (0 : Int32) = 0 := rfl
  have e1 : ∀ b : Bool, ((if b = true then (1 : Int32) else 0) = 0) = (b = false) := fun b => by
    cases b
    · exact eq_true rfl ▸ (eq_true (rfl : false = false)).symm
    · exact propext ⟨fun q => absurd q e10, fun q => by cases q⟩
  rw [if_neg e10, if_pos e00]
  simp only [e1]
  by_cases hn : n2 <;> by_cases hu : u0 <;> cases t <;> cases w <;> simp [hn, hu]
theorem cu_step {x R : Int32} {i : Nat} (hi : i < 31) : t_X0_isClosedUpon_2 x R (nI i) = if bd x R i then some (.inr (.inr 0)) else some (.inl (nI (i + 1))) := by
  have hn := q_n32 (bbI i)
  have l2 : (nI (q_n (bbI i)) < (2 : Int32)) = (q_n (bbI i) < 2) := propext (q_lt (b := 2) (by omega) (by omega))
  unfold t_X0_isClosedUpon_2
  simp only [if_neg (show ¬ (31 : Int32) ≤ nI i from nI_ge (b := 31) hi (by decide)), q_beside i hi, Option.bind_some, q_bitCount, q_isWithin, q_has (show i < 32 by omega), nI_1 i, l2]
  exact cu_pure
theorem q_closedUpon {x R : Int32} : f_X0_isClosedUpon x R = some (if ff (bd x R) 31 < 31 then 0 else 1) := by
  unfold f_X0_isClosedUpon
  have hle := ff_le (bd x R) 31
  have stp : ∀ i, i < 31 → t_X0_isClosedUpon_2 x R (nI i) = if bd x R i then some (.inr (.inr 0)) else some (.inl (nI (i + 1))) := fun i hi => cu_step hi
  by_cases h : ff (bd x R) 31 < 31
  · have hk : k_loop (t_X0_isClosedUpon_2 x R) 1000 0 = some (Sum.inr 0) := k_for (fun i => nI i) (ff (bd x R) 31) (Sum.inr 0) (fun i hi => by rw [stp i (by omega), ff_not (bd x R) 31 i hi, if_neg (c := false = true) Bool.false_ne_true]) (by rw [stp _ h, ff_is _ _ h, if_pos (c := true = true) rfl]) 1000 (by omega)
    rw [hk, if_pos h]
    simp only [Option.bind_some, Sum.elim_inr]
    rw [if_pos (Or.inl trivial)]
  · have e : ff (bd x R) 31 = 31 := by omega
    have hk : k_loop (t_X0_isClosedUpon_2 x R) 1000 0 = some (Sum.inl (nI 31)) := k_for (fun i => nI i) 31 (Sum.inl (nI 31)) (fun i hi => by rw [stp i hi, ff_not (bd x R) 31 i (by omega), if_neg (c := false = true) Bool.false_ne_true]) rfl 1000 (by omega)
    rw [hk, if_neg h]
    simp only [Option.bind_some, Sum.elim_inl]
theorem sideT : ∀ i, i < 12 → ∀ j, j < 12 → (bes i j && j != i) = (decide (4 ≤ i) && j == i - 4) := by decide +kernel
theorem sideB : ∀ i, i < 12 → ∀ j, j < 12 → (bes (i + 4) j && j != i) = (decide (i + 4 < 12) && j == i + 4) := by decide +kernel
theorem sideL : ∀ i, i < 12 → ∀ j, j < 12 → (bes (vl i) j && j != i) = (decide (i % 4 ≠ 0) && j == i - 1) := by decide +kernel
theorem sideR : ∀ i, i < 12 → ∀ j, j < 12 → (bes (vl i + 1) j && j != i) = (decide (i % 4 ≠ 3) && j == i + 1) := by decide +kernel
/-- one side of a box of the chain R -/
theorem cu_side {x R : Int32} {a i f n : Nat} {ex : Bool} (hR : ∀ i, i < 32 → (bt R i = true ↔ i < 12 ∧ Rch x a i)) (hta : tw x a = true) (hi : i < 12) (hra : Rch x a i) (hf : f < 31) (hbi : bes f i = true) (hs : ∀ j, j < 12 → (bes f j && j != i) = (ex && j == n)) (hn : ex = true → n < 12) (hfx : bt x f = false) : bd x R f = false ↔ (ex && tw x n) = true := by
  have hti : tw x i = true := Rch.two hta hra
  have hne : ¬ (bbI f &&& R) = 0 := by
    intro z
    have := q_zero.mp z i (by omega)
    rw [b_and, q_bbb f hf i (by omega), hbi, (hR i (by omega)).mpr ⟨hi, hra⟩] at this
    simp [hi] at this
  unfold bd
  rw [hfx, decide_eq_false hne]
  simp only [Bool.not_false, Bool.true_and, Bool.or_eq_false_iff, decide_eq_false_iff_not, Bool.not_eq_false']
  rw [q_nb f hf i hi hbi]
  have hct : fb_ct (fun j => bes f j && j != i) 12 = if n < 12 then ex.toNat else 0 := by rw [fb_ct_cong hs, q_ctc]
  rw [hct]
  cases hex : ex
  · simp
  · rw [hex] at hs hn
    have hn12 := hn rfl
    rw [if_pos hn12]
    have hbn : bes f n = true ∧ n ≠ i := by
      have := hs n hn12
      simpa using this
    constructor
    · intro h
      have hw := q_wi.mp h.2 n (by omega) (by rw [q_bbb f hf n (by omega), hbn.1]; simp [hn12])
      have := ((hR n (by omega)).mp hw).2
      simp [Rch.two hta this]
    · intro h
      refine ⟨by simp, ?_⟩
      have htn : tw x n = true := by simpa using h
      have hjn : jn x i n = true := by
        have hb := btw_one f hf i hi n hn12 (by rw [hbi, hbn.1]; simpa using fun z => hbn.2 z.symm)
        unfold jn
        rw [hb, hfx, hti, htn]
        simp [hf]
      have hrn := Rch.tr hra (Rch.edge hi hn12 hjn)
      rw [q_wi]
      intro j hj hbj
      rw [q_bbb f hf j hj] at hbj
      simp only [Bool.and_eq_true, decide_eq_true_eq] at hbj
      rw [hR j hj]
      refine ⟨hbj.1, ?_⟩
      by_cases e : j = i
      · subst e; exact hra
      · have := hs j hbj.1
        rw [hbj.2, show (j != i) = true by simpa using e] at this
        have e2 : j = n := by simpa using this.symm
        subst e2; exact hrn
theorem cu_iff {x R : Int32} {a : Nat} (hR : ∀ i, i < 32 → (bt R i = true ↔ i < 12 ∧ Rch x a i)) (hta : tw x a = true) : (∀ f, f < 31 → bd x R f = false) ↔ ∀ i, i < 12 → Rch x a i → dg x i = 2 := by
  have T := fun i (hi : i < 12) (hr : Rch x a i) (h : bt x i = false) => cu_side (n := i - 4) (ex := decide (4 ≤ i)) hR hta hi hr (by omega) (show bes i i = true by simp [bes]) (fun j hj => sideT i hi j hj) (fun _ => by omega) h
  have B := fun i (hi : i < 12) (hr : Rch x a i) (h : bt x (i + 4) = false) => cu_side (n := i + 4) (ex := decide (i + 4 < 12)) hR hta hi hr (by omega) (show bes (i + 4) i = true by simp [bes]) (fun j hj => sideB i hi j hj) (fun h => of_decide_eq_true h) h
  have L := fun i (hi : i < 12) (hr : Rch x a i) (h : bt x (vl i) = false) => cu_side (n := i - 1) (ex := decide (i % 4 ≠ 0)) hR hta hi hr (by have := q_vl i hi; omega) (show bes (vl i) i = true by simp [bes]) (fun j hj => sideL i hi j hj) (fun _ => by omega) h
  have Rr := fun i (hi : i < 12) (hr : Rch x a i) (h : bt x (vl i + 1) = false) => cu_side (n := i + 1) (ex := decide (i % 4 ≠ 3)) hR hta hi hr (by have := q_vl i hi; omega) (show bes (vl i + 1) i = true by simp [bes]) (fun j hj => sideR i hi j hj) (fun h => by have := of_decide_eq_true h; omega) h
  constructor
  · intro h i hi hr
    have v := q_vl i hi
    rw [dg_two hi (Rch.two hta hr)]
    exact ⟨fun z => (T i hi hr z).mp (h _ (by omega)), fun z => (B i hi hr z).mp (h _ (by omega)), fun z => (L i hi hr z).mp (h _ (by omega)), fun z => (Rr i hi hr z).mp (h _ (by omega))⟩
  · intro h f hf
    cases hb : bd x R f
    · rfl
    · have hb2 := hb
      unfold bd at hb2
      simp only [Bool.and_eq_true, Bool.not_eq_true', decide_eq_false_iff_not] at hb2
      have hex : ∃ i, i < 32 ∧ bt (bbI f &&& R) i = true := Classical.byContradiction fun z => hb2.2.1 (q_zero.mpr fun i hi => by
        cases hh : bt (bbI f &&& R) i
        · rfl
        · exact absurd ⟨i, hi, hh⟩ z)
      obtain ⟨i, hi32, hbi⟩ := hex
      rw [b_and, Bool.and_eq_true, q_bbb f hf i hi32] at hbi
      obtain ⟨hi, hr⟩ := (hR i hi32).mp hbi.2
      have hbes : bes f i = true := by have := hbi.1; simp only [Bool.and_eq_true] at this; exact this.2
      have hd := (dg_two hi (Rch.two hta hr)).mp (h i hi hr)
      have hs := hbes
      unfold bes at hs
      simp only [Bool.or_eq_true, beq_iff_eq] at hs
      rcases hs with ((rfl | rfl) | rfl) | rfl
      · rw [(T _ hi hr hb2.1).mpr (hd.1 hb2.1)] at hb; cases hb
      · rw [(B _ hi hr hb2.1).mpr (hd.2.1 hb2.1)] at hb; cases hb
      · rw [(L _ hi hr hb2.1).mpr (hd.2.2.1 hb2.1)] at hb; cases hb
      · rw [(Rr _ hi hr hb2.1).mpr (hd.2.2.2 hb2.1)] at hb; cases hb
theorem R_bld {x R : Int32} {a : Nat} (ha : a < 12) (hR : ∀ i, i < 32 → (bt R i = true ↔ i < 12 ∧ Rch x a i)) (hta : tw x a = true) : R = bld (fun i => tw x i && decide (lb x i = lb x a)) 12 := by
  refine b_ext fun i hi => ?_
  rw [q_bld _ 12 (by omega) i hi]
  have h := hR i hi
  by_cases c : i < 12
  · have h2 := rch_lb ha c hta
    cases hb : bt R i
    · cases hp : (tw x i && decide (lb x i = lb x a))
      · simp
      · have := h.mpr ⟨c, h2.mpr (by simpa using hp)⟩
        rw [hb] at this; cases this
    · have := h2.mp (h.mp hb).2
      simp [c, this.1, this.2]
  · cases hb : bt R i
    · simp [c]
    · exact absurd (h.mp hb).1 c
/-- the kind of a chain by its label -/
def kd (x : Int32) (a : Nat) : Nat := if rg x a then 2 else if 3 ≤ gt x a then 1 else 0
theorem q_kindOf {x R : Int32} {a : Nat} (ha : a < 12) (hR : ∀ i, i < 32 → (bt R i = true ↔ i < 12 ∧ Rch x a i)) (hta : tw x a = true) (hl : lb x a = a) : f_X0_kindOf x R = some (nI (kd x a)) := by
  have hn : q_n R = gt x a := by rw [R_bld ha hR hta, q_nbld (by omega), hl]; rfl
  unfold f_X0_kindOf
  rw [q_bitCount, hn, q_closedUpon]
  simp only [Option.bind_some]
  have hgt : gt x a ≤ 12 := fb_ct_le _ 12
  have hcu := cu_iff hR hta
  have hod : od x a 12 = 0 ↔ ∀ i, i < 12 → Rch x a i → dg x i = 2 := by
    unfold od
    rw [fb_ct_zero]
    constructor
    · intro h i hi hr
      have := h i hi
      have h2 := (rch_lb ha hi hta).mp hr
      rw [hl] at h2
      simpa [h2.1, h2.2] using this
    · intro h i hi
      cases hp : (tw x i && decide (lb x i = a))
      · simp
      · have := h i hi ((rch_lb ha hi hta).mpr (by rw [hl]; simpa using hp))
        simp [this]
  have hff : ff (bd x R) 31 < 31 ↔ ¬ od x a 12 = 0 := by
    have hle := ff_le (bd x R) 31
    constructor
    · intro h q
      have := hcu.mpr (hod.mp q) _ h
      rw [ff_is _ _ h] at this; cases this
    · intro h
      refine Nat.lt_of_le_of_ne hle fun e => h (hod.mpr (hcu.mp (ff_none.mp e)))
  unfold kd rg
  have l3 : (nI (gt x a) < (3 : Int32)) ↔ ¬ 3 ≤ gt x a := by rw [show (3 : Int32) = nI 3 from rfl, q_lt (by omega) (by omega)]; omega
  by_cases c : gt x a < 4
  · rw [if_pos (show nI (gt x a) < (4 : Int32) from nI_lt (b := 4) c (by decide)), decide_eq_false (show ¬ 4 ≤ gt x a by omega)]
    by_cases d : 3 ≤ gt x a
    · rw [if_neg (fun q => l3.mp q d)]; simp [d]; rfl
    · rw [if_pos (l3.mpr d)]; simp [d]; rfl
  · rw [if_neg (show ¬ nI (gt x a) < (4 : Int32) from nI_nlt (b := 4) (by omega) (by omega)), decide_eq_true (show 4 ≤ gt x a by omega)]
    by_cases d : od x a 12 = 0
    · rw [if_neg (fun q => hff.mp q d), if_neg (by decide)]; simp [d]; rfl
    · rw [if_pos (hff.mpr d), if_pos rfl, if_neg (fun q => l3.mp q (by omega))]
      simp [d]; rw [if_pos (by omega)]; rfl
/-- the least box of a chain -/
def isL (x : Int32) (k : Nat) : Bool := tw x k && decide (lb x k = k)
def sn (x : Int32) (n : Nat) : Int32 := bld (fun i => tw x i && decide (lb x i < n)) 12
theorem sn_bt {x : Int32} {n i : Nat} (hi : i < 32) : bt (sn x n) i = (decide (i < 12) && (tw x i && decide (lb x i < n))) := q_bld _ 12 (by omega) i hi
theorem q_chcount {x : Int32} {c : Nat} (hc : c < 3) : f_X0_count x (nI c) = some (nI (fb_ct (fun k => isL x k && decide (kd x k = c)) 12)) := by
  unfold f_X0_count
  rw [show (2 : Int32) = nI 2 from rfl, q_boxesHaving (by decide)]
  simp only [Option.bind_some]
  have e : bld (fun k => decide (cn x k = 2)) 12 = tws x := rfl
  rw [e]
  generalize hp : (fun k => isL x k && decide (kd x k = c)) = p
  have e0 : sn x 0 = 0 := b_ext fun i hi => by rw [sn_bt hi, b_0]; simp
  rw [show ((0, 0, 0) : Int32 × Int32 × Int32) = (sn x 0, nI (fb_ct p 0), nI 0) from by rw [e0]; rfl, k_for (fun n => (sn x n, nI (fb_ct p n), nI n)) 12 (sn x 12, nI (fb_ct p 12), nI 12) ?_ ?_ 1000 (by decide)]
  · rfl
  · intro i hi
    unfold t_X0_count_14 k_let
    dsimp only
    have hpi : p i = (isL x i && decide (kd x i = c)) := by rw [← hp]
    have hlb := lb_spec (x := x) hi
    rw [if_neg (show ¬ (12 : Int32) ≤ nI i from nI_ge (b := 12) hi (by decide)), q_has (by omega), q_has (by omega), tws_bt (by omega), sn_bt (by omega), nI_1 i, fb_ct_succ]
    simp only [Option.bind_some, decide_eq_true hi, Bool.true_and]
    cases ht : tw x i
    · have h1 : p i = false := by rw [hpi]; simp [isL, ht]
      have h2 : sn x (i + 1) = sn x i := b_ext fun j hj => by
        rw [sn_bt hj, sn_bt hj]
        by_cases h12 : j < 12
        · have hj2 := lb_spec (x := x) h12
          cases htj : tw x j
          · simp
          · have : lb x j ≠ i := fun z => by
              have := (lb_tw h12 htj).2.1
              rw [z, ht] at this; cases this
            have h3 : decide (lb x j < i + 1) = decide (lb x j < i) := by simp; omega
            rw [h3]
        · simp [h12]
      rw [h1, h2]; simp
    · rw [if_pos (c := true = true) rfl, if_neg (by decide)]
      simp only [Bool.true_and]
      by_cases d : lb x i < i
      · have h1 : p i = false := by rw [hpi]; simp [isL]; intro _ z; omega
        have h2 : sn x (i + 1) = sn x i := b_ext fun j hj => by
          rw [sn_bt hj, sn_bt hj]
          by_cases h12 : j < 12
          · cases htj : tw x j
            · simp
            · have : lb x j ≠ i := fun z => by
                have := (lb_tw h12 htj).2.2
                rw [z] at this; omega
              have h3 : decide (lb x j < i + 1) = decide (lb x j < i) := by simp; omega
              rw [h3]
          · simp [h12]
        rw [h1, h2, decide_eq_true d]; simp
      · have hl : lb x i = i := by omega
        rw [decide_eq_false d, if_neg (c := false = true) Bool.false_ne_true, if_pos rfl]
        obtain ⟨R, hR1, hR2⟩ := q_around (x := x) hi
        rw [hR1]
        simp only [Option.bind_some]
        rw [q_kindOf hi hR2 ht hl]
        simp only [Option.bind_some]
        have h2 : sn x i ||| R = sn x (i + 1) := b_ext fun j hj => by
          rw [b_or, R_bld hi hR2 ht, q_bld _ 12 (by omega) j hj, sn_bt hj, sn_bt hj, hl]
          by_cases h12 : j < 12
          · cases htj : tw x j
            · simp
            · simp only [decide_eq_true h12, Bool.true_and]
              by_cases z1 : lb x j < i
              · simp [z1]; omega
              · by_cases z2 : lb x j = i
                · simp [z2]
                · simp [z1, z2]; omega
          · simp [h12]
        rw [h2]
        have hkd : kd x i < 3 := by unfold kd; split <;> (try split) <;> omega
        have hisL : isL x i = true := by simp [isL, ht, hl]
        by_cases z : kd x i = c
        · rw [if_pos (by rw [z]), if_pos (by rw [hpi, hisL]; simp [z]), show (1 : Int32) = nI 1 from rfl, nI_add]
        · rw [if_neg (fun q => z ((nI_eq (by omega) (by omega)).mp q)), if_neg (by rw [hpi, hisL]; simp [z])]
          rfl
  · rfl
theorem q_kinds (x : Int32) : fb_ct (fun k => isL x k && decide (kd x k = 0)) 12 + fb_ct (fun k => isL x k && decide (kd x k = 1)) 12 + fb_ct (fun k => isL x k && decide (kd x k = 2)) 12 = fb_ct (isL x) 12 := by
  rw [← fb_ct_or, ← fb_ct_or]
  · refine fb_ct_cong fun k _ => ?_
    have hkd : kd x k < 3 := by unfold kd; split <;> (try split) <;> omega
    rcases (show kd x k = 0 ∨ kd x k = 1 ∨ kd x k = 2 by omega) with e | e | e <;> rw [e] <;> simp
  · intro k _ h
    simp only [Bool.and_eq_true, Bool.or_eq_true, decide_eq_true_eq] at h
    omega
  · intro k _ h
    simp only [Bool.and_eq_true, decide_eq_true_eq] at h
    omega
theorem q_kd1 (x : Int32) (k : Nat) : decide (kd x k = 1) = (!rg x k && decide (3 ≤ gt x k)) ∧ decide (kd x k = 2) = rg x k := by
  unfold kd
  cases rg x k
  · by_cases c : 3 ≤ gt x k <;> simp [c]
  · simp
