/-! The law's 'isEnd': the open fences and the sets of them. -/
theorem e_opens {x : Int32} (h8 : un x 31 ≤ 8) : k_loop (t_L_isEnd_58 x) 1000 (0, 0, fun _ => 0) = some (nI (un x 31), nI 31, ro x (fun _ => 0) 31) := by
  refine k_for (fun i => (nI (un x i), nI i, ro x (fun _ => 0) i)) 31 _ ?_ ?_ 1000 (by decide)
  · intro i hi
    have hle : un x i ≤ un x 31 := fb_ct_mono _ (by omega)
    rw [ro_succ, un_succ]
    unfold t_L_isEnd_58 k_let
    dsimp only
    rw [if_neg (show ¬ (31 : Int32) ≤ nI i from nI_ge (b := 31) hi (by decide)), q_bit1 (by omega)]
    cases hb : bt x i
    · have hlt := un_lt hi hb
      refine (k_bs (a := (nI (un x i + 1), upd (ro x (fun _ => 0) i) (un x i) (nI i))) ?_).trans ?_
      · rw [if_pos (by decide), if_neg (nI_in (by omega) (by decide)), nI_clamp (by omega), nI_1]
      · rw [nI_1]; rfl
    · refine (k_bs (a := (nI (un x i), ro x (fun _ => 0) i)) ?_).trans ?_
      · rw [if_neg (by decide)]
      · rw [nI_1]; rfl
  · rfl
theorem e_sh0 : ∀ f, f < 31 → (0 : Int32) <<< (nI f &&& 31) = 0 := by decide +kernel
theorem e_sstep {x : Int32} {u : Nat → Int32} {m i : Nat} {a b : Int32} (h8 : un x 31 ≤ 8) (ho : opn x u) (hi : i < un x 31) : t_L_isEnd_131 x (nI (un x 31)) a (nI m) b u (posP x (fun j => m.testBit j && decide (j < i)), nI i) = some (.inl (posP x (fun j => m.testBit j && decide (j < i + 1)), nI (i + 1))) := by
  obtain ⟨f, hf, hb, hu⟩ := un_kth hi
  have e := ho f hf hb
  rw [hu] at e
  have hq : posP x (fun j => m.testBit j && decide (j < i)) ||| ((if bt (nI m) i then (1 : Int32) else 0) <<< (nI f &&& 31)) = posP x (fun j => m.testBit j && decide (j < i + 1)) := by
    rw [q_bt (by omega)]
    cases ht : m.testBit i
    · rw [if_neg (by decide), e_sh0 f hf, p_or0]
      refine congrArg (posP x) (funext fun j => ?_)
      by_cases c : j = i
      · subst c; simp [ht]
      · have : decide (j < i + 1) = decide (j < i) := by simp; omega
        rw [this]
    · rw [if_pos rfl]
      show st (posP x _) f = _
      rw [pos_st hf hb, hu]
      refine congrArg (posP x) (funext fun j => ?_)
      by_cases c : j = i
      · subst c; simp [ht]
      · have : decide (j < i + 1) = decide (j < i) := by simp; omega
        rw [this]; simp [c]
  unfold t_L_isEnd_131 k_let
  dsimp only
  rw [if_neg (show ¬ nI (un x 31) ≤ nI i from nI_ge hi (by omega)), if_neg (nI_in (show i < 8 by omega) (by decide)), nI_clamp (by omega), e, q_bit1 (by omega), hq, nI_1]
theorem e_set {x : Int32} {u : Nat → Int32} {m : Nat} {a b : Int32} (h31 : bt x 31 = false) (h8 : un x 31 ≤ 8) (ho : opn x u) : k_loop (t_L_isEnd_131 x (nI (un x 31)) a (nI m) b u) 1000 (x, 0) = some (posP x m.testBit, nI (un x 31)) := by
  have h := k_for (step := t_L_isEnd_131 x (nI (un x 31)) a (nI m) b u) (fun i => (posP x (fun j => m.testBit j && decide (j < i)), nI i)) (un x 31) (posP x m.testBit, nI (un x 31)) (fun i hi => e_sstep h8 ho hi) ?_ 1000 (by omega)
  · have e0 : posP x (fun j => m.testBit j && decide (j < 0)) = x := pos_none h31 fun i _ => by simp
    rw [e0] at h
    exact h
  · have en : posP x (fun j => m.testBit j && decide (j < un x 31)) = posP x m.testBit := pos_cong fun i hi => by simp [hi]
    rw [en]
    unfold t_L_isEnd_131
    rw [if_pos (show nI (un x 31) ≤ nI (un x 31) from nI_le (Nat.le_refl _) (by omega))]
