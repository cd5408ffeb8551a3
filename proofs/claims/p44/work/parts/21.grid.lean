/-! The grid: sets as ints, boxes and their fences, in plain numbers. -/
theorem k_for {S R : Type} {step : S → Option (S ⊕ R)} (inv : Nat → S) (N : Nat) (r : R) (hs : ∀ i, i < N → step (inv i) = some (.inl (inv (i + 1)))) (he : step (inv N) = some (.inr r)) (n : Nat) (hn : N < n) : k_loop step n (inv 0) = some r := by
  have h : ∀ d i n, i + d = N → d < n → k_loop step n (inv i) = some r := by
    intro d
    induction d with
    | zero =>
      intro i n hi hn
      obtain ⟨n, rfl⟩ : ∃ z, n = z + 1 := ⟨n - 1, by omega⟩
      have e : i = N := by omega
      subst e
      show (step (inv i)).bind _ = _
      rw [he]; rfl
    | succ d ih =>
      intro i n hi hn
      obtain ⟨n, rfl⟩ : ∃ z, n = z + 1 := ⟨n - 1, by omega⟩
      show (step (inv i)).bind _ = _
      rw [hs i (by omega)]
      exact ih (i + 1) n (by omega) (by omega)
  exact h N 0 n (by omega) hn
theorem q_1 : ∀ i, i < 32 → bt 1 i = decide (i = 0) := by decide +kernel
theorem q_bit1 {x : Int32} {m : Nat} (hm : m < 32) : ((x >>> (nI m &&& 31)) &&& 1) = if bt x m then 1 else 0 := by
  apply b_ext
  intro i hi
  rw [b_and, q_1 i hi]
  by_cases h : i = 0
  · subst h
    rw [b_sshr m hm x hi, if_pos (by omega)]
    cases hb : bt x m <;> simp [hb] <;> rfl
  · simp only [h, decide_false, Bool.and_false]
    split
    · rw [q_1 i hi]; simp [h]
    · exact (b_0 i).symm
theorem q_has {x : Int32} {m : Nat} (hm : m < 32) : f_X3_has x (nI m) = some (if bt x m then 1 else 0) := by
  unfold f_X3_has
  rw [q_bit1 hm]
  cases bt x m <;> simp
theorem q_one {m i : Nat} (hm : m < 32) (hi : i < 32) : bt ((1 : Int32) <<< (nI m &&& 31)) i = decide (i = m) := by
  rw [b_shl m hm 1 hi, q_1 _ (by omega)]
  by_cases h : i = m
  · subst h; simp
  · simp only [h, decide_false]
    by_cases h2 : m ≤ i
    · simp only [h2, decide_true, Bool.true_and, decide_eq_false_iff_not]; omega
    · simp [h2]
/-- a set with one more -/
def st (x : Int32) (f : Nat) : Int32 := x ||| ((1 : Int32) <<< (nI f &&& 31))
theorem q_st {x : Int32} {f i : Nat} (hf : f < 32) (hi : i < 32) : bt (st x f) i = (bt x i || decide (i = f)) := by
  unfold st; rw [b_or, q_one hf hi]
theorem q_not {x : Int32} {i : Nat} (hi : i < 32) : bt (x ^^^ (-1)) i = !bt x i := by
  rw [b_xor, b_m1 i hi]; simp
theorem q_zero {x : Int32} : x = 0 ↔ ∀ i, i < 32 → bt x i = false := by
  constructor
  · intro h i _; rw [h]; exact b_0 i
  · intro h; exact b_ext fun i hi => by rw [h i hi, b_0]
def vl (k : Nat) : Nat := 16 + 5 * (k / 4) + k % 4
/-- fence f stands at box k -/
def bes (f k : Nat) : Bool := f == k || f == k + 4 || f == vl k || f == vl k + 1
/-- how many fences of a set stand at box k -/
def cn (x : Int32) (k : Nat) : Nat := (bt x k).toNat + (bt x (k + 4)).toNat + (bt x (vl k)).toNat + (bt x (vl k + 1)).toNat
def sdI (k : Nat) : Int32 := (f_X3_sides (nI k)).getD 0
theorem q_sides : ∀ k, k < 12 → f_X3_sides (nI k) = some (sdI k) := by decide +kernel
theorem q_sdb : ∀ k, k < 12 → ∀ i, i < 32 → bt (sdI k) i = bes i k := by decide +kernel
def bbI (f : Nat) : Int32 := (f_X3_boxesBeside (nI f)).getD 0
def ahI (f : Nat) : Int32 := (f_X3_boxAhead (nI f)).getD 0
def bhI (f : Nat) : Int32 := (f_X3_boxBehind (nI f)).getD 0
theorem q_beside : ∀ f, f < 31 → f_X3_boxesBeside (nI f) = some (bbI f) := by decide +kernel
theorem q_bbb : ∀ f, f < 31 → ∀ i, i < 32 → bt (bbI f) i = (decide (i < 12) && bes f i) := by decide +kernel
theorem q_ahead : ∀ f, f < 31 → f_X3_boxAhead (nI f) = some (ahI f) := by decide +kernel
theorem q_behind : ∀ f, f < 31 → f_X3_boxBehind (nI f) = some (bhI f) := by decide +kernel
theorem q_ahn : ∀ f, f < 31 → ahI f = -1 ∨ ∃ a, a < 12 ∧ ahI f = nI a := by
  have h : ∀ f, f < 31 → ahI f = -1 ∨ ∃ a : Fin 12, ahI f = nI a.val := by decide +kernel
  intro f hf
  rcases h f hf with h | ⟨a, h⟩
  · exact Or.inl h
  · exact Or.inr ⟨a.val, a.isLt, h⟩
theorem q_bhn : ∀ f, f < 31 → bhI f = -1 ∨ ∃ a, a < 12 ∧ bhI f = nI a := by
  have h : ∀ f, f < 31 → bhI f = -1 ∨ ∃ a : Fin 12, bhI f = nI a.val := by decide +kernel
  intro f hf
  rcases h f hf with h | ⟨a, h⟩
  · exact Or.inl h
  · exact Or.inr ⟨a.val, a.isLt, h⟩
theorem q_bes : ∀ f, f < 31 → ∀ k, k < 12 → bes f k = (ahI f == nI k || bhI f == nI k) := by decide +kernel
theorem q_vl : ∀ k, k < 12 → k < k + 4 ∧ k + 4 < 16 ∧ 16 ≤ vl k ∧ vl k + 1 < 31 := by decide +kernel
theorem q_ct1 (p : Nat → Bool) (a : Nat) : ∀ n, fb_ct (fun i => p i && i == a) n = if a < n then (p a).toNat else 0
  | 0 => rfl
  | n + 1 => by
    rw [fb_ct_succ, q_ct1 p a n]
    by_cases h : a < n
    · have e : (n == a) = false := beq_false_of_ne (by omega)
      have h3 : a < n + 1 := by omega
      rw [e]; simp [h, h3]
    · by_cases h2 : a = n
      · subst h2
        cases p a <;> simp
      · have e : (n == a) = false := beq_false_of_ne (by omega)
        have h3 : ¬ a < n + 1 := by omega
        rw [e]; simp [h, h3]
theorem q_ct4 (p : Nat → Bool) {a b c d n : Nat} (ha : a < b) (hb : b < c) (hc : c < d) (hd : d < n) : fb_ct (fun i => p i && (i == a || i == b || i == c || i == d)) n = (p a).toNat + (p b).toNat + (p c).toNat + (p d).toNat := by
  have e : (fun i => p i && (i == a || i == b || i == c || i == d)) = fun i => (((p i && i == a) || (p i && i == b)) || (p i && i == c)) || (p i && i == d) := by
    funext i
    cases p i <;> simp
  rw [e, fb_ct_or, fb_ct_or, fb_ct_or, q_ct1, q_ct1, q_ct1, q_ct1, if_pos (by omega), if_pos (by omega), if_pos (by omega), if_pos hd]
  · intro k _ h; simp at h; omega
  · intro k _ h; simp at h; omega
  · intro k _ h; simp at h; omega
theorem q_ctk {x : Int32} {k n : Nat} (hk : k < 12) (hn : 31 ≤ n) : fb_ct (fun i => bt x i && bes i k) n = cn x k := by
  have h := q_vl k hk
  unfold bes cn
  exact q_ct4 (bt x) (by omega) (by omega) (by omega) (by omega)
theorem q_countSides {x : Int32} {k : Nat} (hk : k < 12) : f_X3_countSides x (nI k) = some (nI (cn x k)) := by
  unfold f_X3_countSides
  rw [q_sides k hk]
  simp only [Option.bind_some]
  rw [q_bitCount]
  simp only [Option.bind_some]
  congr 2
  rw [← q_ctk hk (Nat.le_succ 31)]
  exact fb_ct_cong fun i hi => by rw [b_and, q_sdb k hk i hi]
theorem q_cn4 (x : Int32) (k : Nat) : cn x k ≤ 4 := by
  unfold cn
  have h : ∀ b : Bool, b.toNat ≤ 1 := by decide
  have := h (bt x k); have := h (bt x (k + 4)); have := h (bt x (vl k)); have := h (bt x (vl k + 1))
  omega
theorem q_cnc {x : Int32} {k : Nat} (hk : k < 12) : cn x k = 4 ↔ ∀ i, i < 32 → bes i k = true → bt x i = true := by
  have h := q_vl k hk
  constructor
  · intro e i hi hb
    unfold cn at e
    have t : ∀ b : Bool, b.toNat ≤ 1 ∧ (b.toNat = 1 → b = true) := by decide
    have t1 := t (bt x k); have t2 := t (bt x (k + 4)); have t3 := t (bt x (vl k)); have t4 := t (bt x (vl k + 1))
    unfold bes at hb
    simp only [Bool.or_eq_true, beq_iff_eq] at hb
    rcases hb with ((rfl | rfl) | rfl) | rfl
    · exact t1.2 (by omega)
    · exact t2.2 (by omega)
    · exact t3.2 (by omega)
    · exact t4.2 (by omega)
  · intro e
    unfold cn
    rw [e k (by omega) (by simp [bes]), e (k + 4) (by omega) (by simp [bes]), e (vl k) (by omega) (by simp [bes]), e (vl k + 1) (by omega) (by simp [bes])]
    rfl
def wi (x y : Int32) : Bool := decide ((x &&& (y ^^^ (-1))) = 0)
theorem q_wi {x y : Int32} : wi x y = true ↔ ∀ i, i < 32 → bt x i = true → bt y i = true := by
  unfold wi
  rw [decide_eq_true_iff, q_zero]
  constructor
  · intro h i hi hx
    have := h i hi
    rw [b_and, q_not hi, hx] at this
    simpa using this
  · intro h i hi
    rw [b_and, q_not hi]
    have := h i hi
    cases hx : bt x i
    · rfl
    · rw [this hx]; rfl
theorem q_isWithin {x y : Int32} : f_X3_isWithin x y = some (if wi x y then 1 else 0) := by
  unfold f_X3_isWithin wi
  by_cases hc : (x &&& (y ^^^ (-1))) = 0
  · rw [if_pos hc, decide_eq_true hc]; rfl
  · rw [if_neg hc, decide_eq_false hc]; rfl
theorem q_isClosed {x : Int32} {k : Nat} (hk : k < 12) : f_X3_isClosed x (nI k) = some (if cn x k = 4 then 1 else 0) := by
  unfold f_X3_isClosed
  have h1 : ∀ k, k < 12 → nI k ≠ -1 := by decide +kernel
  rw [if_neg (h1 k hk), q_sides k hk]
  simp only [Option.bind_some]
  rw [q_isWithin]
  simp only [Option.bind_some]
  have h : wi (sdI k) x = true ↔ cn x k = 4 := by
    rw [q_wi, q_cnc hk]
    constructor
    · intro h i hi hb
      exact h i hi (by rw [q_sdb k hk i hi]; exact hb)
    · intro h i hi hb
      exact h i hi (by rw [← q_sdb k hk i hi]; exact hb)
  by_cases hc : cn x k = 4
  · rw [if_pos (h.mpr hc), if_pos hc]; rfl
  · rw [if_neg (fun q => hc (h.mp q)), if_neg hc]; rfl
theorem q_isClosed1 {x : Int32} : f_X3_isClosed x (-1) = some 0 := by
  unfold f_X3_isClosed; rw [if_pos rfl]
/-- which boxes a fence of the set has closed -/
theorem q_closedWith {x : Int32} {f : Nat} (hf : f < 31) : ∃ c, f_X3_closedWith x (nI f) = some c ∧ ∀ i, i < 32 → bt c i = (decide (i < 12) && (bes f i && decide (cn x i = 4))) := by
  unfold f_X3_closedWith k_let
  rw [q_ahead f hf, q_behind f hf]
  simp only [Option.bind_some]
  have inj : ∀ a b, a < 12 → b < 12 → (nI a == nI b) = decide (a = b) := fun a b ha hb => (by decide +kernel : ∀ a, a < 12 → ∀ b, b < 12 → (nI a == nI b) = decide (a = b)) a ha b hb
  have neg : ∀ a, a < 12 → ((-1 : Int32) == nI a) = false := by decide +kernel
  have big : ∀ i, ¬ i < 12 → ∀ a, a < 12 → decide (i = a) = false := fun i h a ha => decide_eq_false (by omega)
  have hb := q_bes f hf
  have z0 : (0 : Int32) = 0 := rfl
  rcases q_ahn f hf with ha | ⟨a, ha12, ha⟩
  · rw [ha] at hb ⊢
    rw [q_isClosed1]
    simp only [Option.bind_some, if_true]
    rcases q_bhn f hf with hh | ⟨b, hb12, hh⟩
    · rw [hh] at hb ⊢
      rw [q_isClosed1]
      simp only [Option.bind_some, if_true]
      refine ⟨0, rfl, fun i hi => ?_⟩
      rw [b_0]
      by_cases h : i < 12
      · rw [hb i h, neg i h]; simp
      · simp [h]
    · rw [hh] at hb ⊢
      rw [q_isClosed hb12]
      simp only [Option.bind_some]
      by_cases hc : cn x b = 4
      · rw [if_pos hc, if_neg (by decide)]
        refine ⟨_, rfl, fun i hi => ?_⟩
        rw [b_or, b_0, Bool.false_or, q_one (by omega) hi]
        by_cases h : i < 12
        · rw [hb i h, neg i h, inj b i hb12 h]
          by_cases e : i = b
          · subst e; simp [h, hc]
          · simp [e, show ¬ b = i from fun q => e q.symm]
        · simp [h]; omega
      · rw [if_neg hc, if_pos rfl]
        refine ⟨0, rfl, fun i hi => ?_⟩
        rw [b_0]
        by_cases h : i < 12
        · rw [hb i h, neg i h, inj b i hb12 h]
          by_cases e : b = i
          · subst e; simp [hc]
          · simp [e]
        · simp [h]
  · rw [ha] at hb ⊢
    rw [q_isClosed ha12]
    simp only [Option.bind_some]
    by_cases hca : cn x a = 4
    · rw [if_pos hca, if_neg (by decide)]
      rcases q_bhn f hf with hh | ⟨b, hb12, hh⟩
      · rw [hh] at hb ⊢
        rw [q_isClosed1]
        simp only [Option.bind_some, if_true]
        refine ⟨_, rfl, fun i hi => ?_⟩
        rw [q_one (by omega) hi]
        by_cases h : i < 12
        · rw [hb i h, neg i h, inj a i ha12 h]
          by_cases e : i = a
          · subst e; simp [h, hca]
          · simp [e, show ¬ a = i from fun q => e q.symm]
        · simp [h]; omega
      · rw [hh] at hb ⊢
        rw [q_isClosed hb12]
        simp only [Option.bind_some]
        by_cases hcb : cn x b = 4
        · rw [if_pos hcb, if_neg (by decide)]
          refine ⟨_, rfl, fun i hi => ?_⟩
          rw [b_or, q_one (by omega) hi, q_one (by omega) hi]
          by_cases h : i < 12
          · rw [hb i h, inj a i ha12 h, inj b i hb12 h]
            by_cases e : i = a
            · subst e; simp [h, hca]
            · by_cases e2 : i = b
              · subst e2; simp [h, hcb]
              · simp [e, e2, show ¬ a = i from fun q => e q.symm, show ¬ b = i from fun q => e2 q.symm]
          · simp [h]; omega
        · rw [if_neg hcb, if_pos rfl]
          refine ⟨_, rfl, fun i hi => ?_⟩
          rw [q_one (by omega) hi]
          by_cases h : i < 12
          · rw [hb i h, inj a i ha12 h, inj b i hb12 h]
            by_cases e : i = a
            · subst e; simp [h, hca]
            · by_cases e2 : i = b
              · subst e2; simp [hcb, e, show ¬ a = i from fun q => e q.symm]
              · simp [e, show ¬ a = i from fun q => e q.symm, show ¬ b = i from fun q => e2 q.symm]
          · simp [h]; omega
    · rw [if_neg hca, if_pos rfl]
      rcases q_bhn f hf with hh | ⟨b, hb12, hh⟩
      · rw [hh] at hb ⊢
        rw [q_isClosed1]
        simp only [Option.bind_some, if_true]
        refine ⟨0, rfl, fun i hi => ?_⟩
        rw [b_0]
        by_cases h : i < 12
        · rw [hb i h, neg i h, inj a i ha12 h]
          by_cases e : a = i
          · subst e; simp [hca]
          · simp [e]
        · simp [h]
      · rw [hh] at hb ⊢
        rw [q_isClosed hb12]
        simp only [Option.bind_some]
        by_cases hcb : cn x b = 4
        · rw [if_pos hcb, if_neg (by decide)]
          refine ⟨_, rfl, fun i hi => ?_⟩
          rw [b_or, b_0, Bool.false_or, q_one (by omega) hi]
          by_cases h : i < 12
          · rw [hb i h, inj a i ha12 h, inj b i hb12 h]
            by_cases e2 : i = b
            · subst e2; simp [h, hcb]
            · by_cases e : i = a
              · subst e; simp [hca, e2]
              · simp [e2, show ¬ a = i from fun q => e q.symm, show ¬ b = i from fun q => e2 q.symm]
          · simp [h]; omega
        · rw [if_neg hcb, if_pos rfl]
          refine ⟨0, rfl, fun i hi => ?_⟩
          rw [b_0]
          by_cases h : i < 12
          · rw [hb i h, inj a i ha12 h, inj b i hb12 h]
            by_cases e : a = i
            · subst e; simp [hca]
            · by_cases e2 : b = i
              · subst e2; simp [hcb]
              · simp [e, e2]
          · simp [h]
