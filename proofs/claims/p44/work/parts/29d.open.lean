/-! The fences that are not drawn, in their order: both rows. -/
def un (x : Int32) (n : Nat) : Nat := fb_ct (fun j => !bt x j) n
theorem un_succ (x : Int32) (n : Nat) : un x (n + 1) = un x n + (if (!bt x n) = true then 1 else 0) := rfl
theorem un_all (x : Int32) : c31 x + un x 31 = 31 := fb_ct_not (bt x) 31
theorem un_lt {x : Int32} {f n : Nat} (hf : f < n) (hb : bt x f = false) : un x f < un x n := by
  have h1 : un x (f + 1) = un x f + 1 := by rw [un_succ, hb]; rfl
  have h2 : un x (f + 1) ≤ un x n := fb_ct_mono _ (by omega)
  omega
theorem un_inj {x : Int32} {f g : Nat} (hf : bt x f = false) (hg : bt x g = false) (e : un x f = un x g) : f = g := by
  rcases Nat.lt_trichotomy f g with q | q | q
  · have := un_lt q hf; omega
  · exact q
  · have := un_lt q hg; omega
theorem un_kth {x : Int32} {i : Nat} (hi : i < un x 31) : ∃ f, f < 31 ∧ bt x f = false ∧ un x f = i := by
  obtain ⟨f, h1, h2, h3⟩ := fb_ct_kth hi
  exact ⟨f, h1, by simpa using h2, h3⟩
/-- a row that holds the open fences -/
def opn (x : Int32) (R : Nat → Int32) : Prop := ∀ f, f < 31 → bt x f = false → R (un x f) = nI f
def ro (x : Int32) (R : Nat → Int32) : Nat → Nat → Int32
  | 0 => R
  | n + 1 => if bt x n then ro x R n else upd (ro x R n) (un x n) (nI n)
theorem ro_succ (x : Int32) (R : Nat → Int32) (n : Nat) : ro x R (n + 1) = if bt x n then ro x R n else upd (ro x R n) (un x n) (nI n) := rfl
theorem ro_ok {x : Int32} {R : Nat → Int32} : ∀ n f, f < n → bt x f = false → ro x R n (un x f) = nI f
  | 0, _, h, _ => absurd h (Nat.not_lt_zero _)
  | n + 1, f, h, hb => by
    rw [ro_succ]
    by_cases e : f = n
    · subst e
      rw [hb, if_neg Bool.false_ne_true, upd_eq]
    · have ih := ro_ok (x := x) (R := R) n f (by omega) hb
      cases hn : bt x n
      · rw [if_neg Bool.false_ne_true, upd_ne (fun q => e (un_inj hb hn q))]; exact ih
      · rw [if_pos rfl]; exact ih
theorem ro_opn (x : Int32) (R : Nat → Int32) : opn x (ro x R 31) := fun f hf hb => ro_ok 31 f hf hb
theorem q_opensF {x : Int32} {op : Nat → Int32} (h8 : un x 31 ≤ 8) : k_loop (t_X1_workOut_7 x) 1000 (0, 0, op) = some (nI 31, nI (un x 31), ro x op 31) := by
  refine k_for (fun i => (nI i, nI (un x i), ro x op i)) 31 (nI 31, nI (un x 31), ro x op 31) ?_ ?_ 1000 (by decide)
  · intro i hi
    have hle : un x i ≤ un x 31 := fb_ct_mono _ (by omega)
    have h1 : ¬ (31 : Int32) ≤ nI i := nI_ge (b := 31) hi (by decide)
    have e1 : nI i + 1 = nI (i + 1) := nI_1 i
    have e2 : nI (un x i) + 1 = nI (un x i + 1) := nI_1 _
    have hcl : (nI (un x i)).toNatClampNeg = un x i := nI_clamp (by omega)
    rw [ro_succ, un_succ]
    unfold t_X1_workOut_7 k_let
    dsimp only
    rw [if_neg h1, q_has (by omega)]
    simp only [Option.bind_some]
    cases hb : bt x i
    · have hlt := un_lt hi hb
      have hg := nI_in (c := un x i) (N := 8) (by omega) (by decide)
      have h2 : ¬ (8 : Int32) ≤ nI (un x i) := nI_ge (b := 8) (by omega) (by decide)
      rw [if_neg (c := false = true) Bool.false_ne_true, if_pos rfl, if_neg h2, if_neg hg, hcl, e1, e2]
      rfl
    · rw [if_pos (c := true = true) rfl, if_neg (by decide), e1]
      rfl
  · rfl
