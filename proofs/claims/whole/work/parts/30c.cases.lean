/-! The cases of the law: calls with an argument that change nothing. -/
theorem cs_ok {α : Type} {r : α} {y : Int64} {o : Nat → Int64} : (if (0 : Int32) = 0 then if (0 : Int32) = 0 then if lg_cmp (vp_updL o 0 y 0) y = 0 then some r else none else some r else none) = some r := by
  rw [if_pos rfl, if_pos rfl, updL0, if_pos (lg_same y)]
theorem cs_no {α : Type} {r : α} {k : Int32} {p : Prop} [Decidable p] (hk : ¬ k = 0) : (if k = k then if k = 0 then if p then some r else none else some r else none) = some r := by
  rw [if_pos rfl, if_neg hk]
theorem cs_b0 {α : Type} {r : α} {o : Nat → Int64} : (if (0 : Int32) = 0 then if (0 : Int32) = 0 then if (0 : Int32) = 0 then if lg_cmp (vp_updL o 0 0 0) (0 : Int64) = 0 then some r else none else if lg_cmp (vp_updL o 0 0 0) (1 : Int64) = 0 then some r else none else some r else none) = some r := by
  rw [if_pos rfl, if_pos rfl, if_pos rfl, updL0, if_pos (lg_same _)]
theorem cs_b1 {α : Type} {r : α} {o : Nat → Int64} : (if (0 : Int32) = 0 then if (0 : Int32) = 0 then if (1 : Int32) = 0 then if lg_cmp (vp_updL o 0 1 0) (0 : Int64) = 0 then some r else none else if lg_cmp (vp_updL o 0 1 0) (1 : Int64) = 0 then some r else none else some r else none) = some r := by
  rw [if_pos rfl, if_pos rfl, if_neg (by decide), updL0, if_pos (lg_same _)]
theorem cs_bn {α : Type} {r : α} {k b : Int32} {p q : Prop} [Decidable p] [Decidable q] (hk : ¬ k = 0) : (if k = k then if k = 0 then if b = 0 then if p then some r else none else if q then some r else none else some r else none) = some r := by
  rw [if_pos rfl, if_neg hk]
theorem se_l {α β γ : Type} {f : α → γ} {g : β → γ} {x : α} : Sum.elim f g (.inl x) = f x := rfl
theorem se_r {α β γ : Type} {f : α → γ} {g : β → γ} {x : β} : Sum.elim f g (.inr x) = g x := rfl
theorem dz1 : ¬ (1 : Int32) = 0 := by decide
theorem dz2 : ¬ (2 : Int32) = 0 := by decide
theorem k_th (y : Int32) : f_X8_thrown y = some y := rfl
theorem ne_is : ¬ "java/lang/IllegalStateException" = "java/lang/IllegalArgumentException" := by decide
theorem ne_ns : ¬ "java/util/NoSuchElementException" = "java/lang/IllegalArgumentException" := by decide
theorem q_case2 {g : k_G8} {s : Nat → Int32} (h : rg8 g s) (a la : Int32) (out : Nat → Int64) : ∃ y o, f_case2 a g la s out = some (y, o) := by
  rcases q_fence a with ⟨f, hf, rfl, x7, x8⟩ | ⟨x7, x8⟩
  · cases hb : bt g.1 f
    · have hh : f_X3_has g.1 (nI f) = some 0 := by rw [q_has (by omega), hb]; rfl
      have hi : f_X8_isIn (s 0) (nI f) = some 0 := by rw [h.1, q_isIn (by omega), hb]; rfl
      have h7 : f_X7_isDrawn (nI f) g = some (.inl 0) := by
        unfold f_X7_isDrawn
        refine (k_bs x7).trans ?_
        rw [if_neg (by decide)]
        refine (k_bs hh).trans ?_
        rw [if_pos (Or.inl rfl)]
      have hL : f_L_isDrawn (nI f) g out = some (0, vp_updL out 0 0) := (k_bs h7).trans (se_l.trans (if_pos rfl))
      have h8 : f_X8_isDrawn (nI f) la s = some (0, 0) := by
        unfold f_X8_isDrawn
        refine (k_bs x8).trans ?_
        rw [if_neg (by decide), if_pos rfl]
        refine (k_bs hi).trans ?_
        rw [if_pos rfl]
      exact ⟨_, _, (k_bs hL).trans ((k_bs h8).trans ((k_bs (k_th _)).trans (cs_b0 (o := out))))⟩
    · have hh : f_X3_has g.1 (nI f) = some 1 := by rw [q_has (by omega), hb]; rfl
      have hi : f_X8_isIn (s 0) (nI f) = some 1 := by rw [h.1, q_isIn (by omega), hb]; rfl
      have h7 : f_X7_isDrawn (nI f) g = some (.inl 1) := by
        unfold f_X7_isDrawn
        refine (k_bs x7).trans ?_
        rw [if_neg (by decide)]
        refine (k_bs hh).trans ?_
        rw [if_pos (Or.inr rfl)]
      have hL : f_L_isDrawn (nI f) g out = some (0, vp_updL out 0 1) := (k_bs h7).trans (se_l.trans (if_neg (by decide)))
      have h8 : f_X8_isDrawn (nI f) la s = some (1, 0) := by
        unfold f_X8_isDrawn
        refine (k_bs x8).trans ?_
        rw [if_neg (by decide), if_pos rfl]
        refine (k_bs hi).trans ?_
        rw [if_neg (by decide)]
      exact ⟨_, _, (k_bs hL).trans ((k_bs h8).trans ((k_bs (k_th _)).trans (cs_b1 (o := out))))⟩
  · have h7 : f_X7_isDrawn a g = some (.inr "java/lang/IllegalArgumentException") := by
      unfold f_X7_isDrawn
      refine (k_bs x7).trans ?_
      rw [if_pos rfl]
    have hL : f_L_isDrawn a g out = some (1, out) := (k_bs h7).trans (se_r.trans (if_pos rfl))
    have h8 : f_X8_isDrawn a la s = some (0, 1) := by
      unfold f_X8_isDrawn
      refine (k_bs x8).trans ?_
      rw [if_pos rfl, if_neg (by decide)]
    exact ⟨_, _, (k_bs hL).trans ((k_bs h8).trans ((k_bs (k_th _)).trans (cs_bn dz1)))⟩
theorem q_case4 {g : k_G8} {s : Nat → Int32} (h : rg8 g s) (a la : Int32) (out : Nat → Int64) : ∃ y o, f_case4 a g la s out = some (y, o) := by
  rcases q_box a with ⟨k, hk, rfl, x7, x8⟩ | ⟨x7, x8⟩
  · have h7 : f_X7_fencesOf (nI k) g = some (.inl (nI (cn g.1 k))) := by
      unfold f_X7_fencesOf
      refine (k_bs x7).trans ?_
      rw [if_neg (by decide)]
      exact (k_bs (q_countSides hk)).trans rfl
    have hL : f_L_fencesOf (nI k) g out = some (0, vp_updL out 0 (nI (cn g.1 k)).toInt64) := (k_bs h7).trans rfl
    have h8 : f_X8_fencesOf (nI k) la s = some (nI (cn g.1 k), 0) := by
      unfold f_X8_fencesOf
      refine (k_bs x8).trans ?_
      rw [if_neg (by decide), if_pos rfl, h.1]
      exact (k_bs (q_mhas hk)).trans rfl
    exact ⟨_, _, (k_bs hL).trans ((k_bs h8).trans ((k_bs (k_th _)).trans (cs_ok (o := out))))⟩
  · have h7 : f_X7_fencesOf a g = some (.inr "java/lang/IllegalArgumentException") := by
      unfold f_X7_fencesOf
      refine (k_bs x7).trans ?_
      rw [if_pos rfl]
    have hL : f_L_fencesOf a g out = some (1, out) := (k_bs h7).trans (se_r.trans (if_pos rfl))
    have h8 : f_X8_fencesOf a la s = some (0, 1) := by
      unfold f_X8_fencesOf
      refine (k_bs x8).trans ?_
      rw [if_pos rfl, if_neg (by decide)]
    exact ⟨_, _, (k_bs hL).trans ((k_bs h8).trans ((k_bs (k_th _)).trans (cs_no dz1)))⟩
theorem q_case5 {g : k_G8} {s : Nat → Int32} (h : rg8 g s) (a la : Int32) (out : Nat → Int64) : ∃ y o, f_case5 a g la s out = some (y, o) := by
  rcases q_box a with ⟨k, hk, rfl, x7, x8⟩ | ⟨x7, x8⟩
  · have hcn := q_cn4 g.1 k
    have hs := h.2.2.2.1 k hk
    have ho := h.2.2.2.2.2.2.1 k hk
    have e1 : (1 : Int32) + nI k = nI (k + 1) := one_nI k
    have hg := nI_in (c := k + 1) (N := 19) (by omega) (by decide)
    have hcl : (nI (k + 1)).toNatClampNeg = k + 1 := nI_clamp (by omega)
    by_cases c4 : cn g.1 k = 4
    · have h4 : (4 : Int32) ≤ nI (cn g.1 k) := nI_le (a := 4) (by omega) (by omega)
      have hor : (bt g.2.1 k || bt g.2.2.1 k) = true := by rw [ho]; exact decide_eq_true c4
      cases hb : bt g.2.1 k
      · have hb2 : bt g.2.2.1 k = true := by rw [hb] at hor; exact hor
        have hv : s (nI (k + 1)).toNatClampNeg = 2 := by rw [hcl, hs, hb, hb2]; rfl
        have h7 : f_X7_ownerOf (nI k) g = some (.inl 1) := by
          unfold f_X7_ownerOf
          refine (k_bs x7).trans ?_
          rw [if_neg (by decide)]
          refine (k_bs (q_countSides hk)).trans ?_
          rw [if_pos h4]
          refine (k_bs (show f_X2_closedBy 0 g = some g.2.1 from if_pos rfl)).trans ?_
          refine (k_bs (show f_X3_has g.2.1 (nI k) = some 0 by rw [q_has (by omega), hb]; rfl)).trans ?_
          rw [if_pos rfl]
        have hL : f_L_ownerOf (nI k) g out = some (0, vp_updL out 0 (1 : Int32).toInt64) := (k_bs h7).trans rfl
        have h8 : f_X8_ownerOf (nI k) la s = some (1, 0) := by
          unfold f_X8_ownerOf
          refine (k_bs x8).trans ?_
          rw [if_neg (by decide), e1, if_neg hg, hv, if_neg (by decide), if_pos rfl, if_neg hg]
          rfl
        exact ⟨_, _, (k_bs hL).trans ((k_bs h8).trans ((k_bs (k_th _)).trans (cs_ok (o := out))))⟩
      · have hv : s (nI (k + 1)).toNatClampNeg = 1 := by rw [hcl, hs, hb]; rfl
        have h7 : f_X7_ownerOf (nI k) g = some (.inl 0) := by
          unfold f_X7_ownerOf
          refine (k_bs x7).trans ?_
          rw [if_neg (by decide)]
          refine (k_bs (q_countSides hk)).trans ?_
          rw [if_pos h4]
          refine (k_bs (show f_X2_closedBy 0 g = some g.2.1 from if_pos rfl)).trans ?_
          refine (k_bs (show f_X3_has g.2.1 (nI k) = some 1 by rw [q_has (by omega), hb]; rfl)).trans ?_
          rw [if_neg (by decide)]
        have hL : f_L_ownerOf (nI k) g out = some (0, vp_updL out 0 (0 : Int32).toInt64) := (k_bs h7).trans rfl
        have h8 : f_X8_ownerOf (nI k) la s = some (0, 0) := by
          unfold f_X8_ownerOf
          refine (k_bs x8).trans ?_
          rw [if_neg (by decide), e1, if_neg hg, hv, if_neg (by decide), if_pos rfl, if_neg hg]
          rfl
        exact ⟨_, _, (k_bs hL).trans ((k_bs h8).trans ((k_bs (k_th _)).trans (cs_ok (o := out))))⟩
    · have h4 : ¬ (4 : Int32) ≤ nI (cn g.1 k) := nI_ge (b := 4) (by omega) (by decide)
      have hor : (bt g.2.1 k || bt g.2.2.1 k) = false := by rw [ho]; exact decide_eq_false c4
      obtain ⟨hb, hb2⟩ : bt g.2.1 k = false ∧ bt g.2.2.1 k = false := by
        cases q1 : bt g.2.1 k <;> cases q2 : bt g.2.2.1 k <;> simp [q1, q2] at hor ⊢
      have hv : s (nI (k + 1)).toNatClampNeg = 0 := by rw [hcl, hs, hb, hb2]; rfl
      have h7 : f_X7_ownerOf (nI k) g = some (.inr "java/util/NoSuchElementException") := by
        unfold f_X7_ownerOf
        refine (k_bs x7).trans ?_
        rw [if_neg (by decide)]
        refine (k_bs (q_countSides hk)).trans ?_
        rw [if_neg h4]
      have hL : f_L_ownerOf (nI k) g out = some (2, out) := (k_bs h7).trans (se_r.trans ((if_neg ne_ns).trans (if_pos rfl)))
      have h8 : f_X8_ownerOf (nI k) la s = some (0, 2) := by
        unfold f_X8_ownerOf
        refine (k_bs x8).trans ?_
        rw [if_neg (by decide), e1, if_neg hg, hv, if_pos rfl, if_neg (by decide)]
      exact ⟨_, _, (k_bs hL).trans ((k_bs h8).trans ((k_bs (k_th _)).trans (cs_no dz2)))⟩
  · have h7 : f_X7_ownerOf a g = some (.inr "java/lang/IllegalArgumentException") := by
      unfold f_X7_ownerOf
      refine (k_bs x7).trans ?_
      rw [if_pos rfl]
    have hL : f_L_ownerOf a g out = some (1, out) := (k_bs h7).trans (se_r.trans (if_pos rfl))
    have h8 : f_X8_ownerOf a la s = some (0, 1) := by
      unfold f_X8_ownerOf
      refine (k_bs x8).trans ?_
      rw [if_pos rfl, if_neg (by decide)]
    exact ⟨_, _, (k_bs hL).trans ((k_bs h8).trans ((k_bs (k_th _)).trans (cs_no dz1)))⟩
theorem q_case6 {g : k_G8} {s : Nat → Int32} (h : rg8 g s) (a la : Int32) (out : Nat → Int64) : ∃ y o, f_case6 a g la s out = some (y, o) := by
  rcases q_player a with ⟨p, hp, rfl, x7, x8⟩ | ⟨x7, x8⟩
  · have hc : f_X2_closedBy (nI p) g = some (if p = 0 then g.2.1 else g.2.2.1) := by
      unfold f_X2_closedBy
      by_cases z : p = 0
      · rw [if_pos (show nI p = (0 : Int32) by rw [z]; rfl), if_pos z]
      · rw [if_neg (show ¬ nI p = (0 : Int32) from fun q => z ((nI_eq (b := 0) (by omega) (by decide)).mp q)), if_neg z]
    have hm := q_boxes h hp
    generalize (if p = 0 then g.2.1 else g.2.2.1) = w at hc hm
    have h7 : f_X7_boxesOf (nI p) g = some (.inl (nI (q_n w))) := by
      unfold f_X7_boxesOf
      refine (k_bs x7).trans ?_
      rw [if_neg (by decide)]
      exact (k_bs hc).trans ((k_bs (q_bitCount w)).trans rfl)
    have hL : f_L_boxesOf (nI p) g out = some (0, vp_updL out 0 (nI (q_n w)).toInt64) := (k_bs h7).trans rfl
    have h8 : f_X8_boxesOf (nI p) la s = some (nI (q_n w), 0) := by
      unfold f_X8_boxesOf
      refine (k_bs x8).trans ?_
      rw [if_neg (by decide), if_pos rfl]
      exact (k_bs hm).trans rfl
    exact ⟨_, _, (k_bs hL).trans ((k_bs h8).trans ((k_bs (k_th _)).trans (cs_ok (o := out))))⟩
  · have h7 : f_X7_boxesOf a g = some (.inr "java/lang/IllegalArgumentException") := by
      unfold f_X7_boxesOf
      refine (k_bs x7).trans ?_
      rw [if_pos rfl]
    have hL : f_L_boxesOf a g out = some (1, out) := (k_bs h7).trans (se_r.trans (if_pos rfl))
    have h8 : f_X8_boxesOf a la s = some (0, 1) := by
      unfold f_X8_boxesOf
      refine (k_bs x8).trans ?_
      rw [if_pos rfl, if_neg (by decide)]
    exact ⟨_, _, (k_bs hL).trans ((k_bs h8).trans ((k_bs (k_th _)).trans (cs_no dz1)))⟩
theorem q_withM {s : Nat → Int32} {c : Nat} (hc : c < 5) (la : Int32) : f_X8_boxesWith (nI c) la s = some (nI (fb_ct (fun k => decide (cn (s 0) k = c)) 12), 0) := by
  have x8 : f_X8_in (nI c) 0 4 = some 1 := by
    have hl : ∀ c, c < 5 → f_X8_in (nI c) 0 4 = some 1 := by decide +kernel
    exact hl c hc
  have hk := k_for (step := t_X8_boxesWith_22 (nI c) 0 s) (fun i => (nI (fb_ct (fun k => decide (cn (s 0) k = c)) i), nI i)) 12 (nI (fb_ct (fun k => decide (cn (s 0) k = c)) 12), nI 12) ?_ ?_ 1000 (by decide)
  · unfold f_X8_boxesWith
    refine (k_bs x8).trans ?_
    rw [if_neg (by decide)]
    exact (k_bs hk).trans rfl
  · intro i hi
    have z0 : nI (fb_ct (fun k => decide (cn (s 0) k = c)) i) + 0 = nI (fb_ct (fun k => decide (cn (s 0) k = c)) i + 0) := nI_add _ 0
    have z1 : nI (fb_ct (fun k => decide (cn (s 0) k = c)) i) + 1 = nI (fb_ct (fun k => decide (cn (s 0) k = c)) i + 1) := nI_add _ 1
    have h4 := q_cn4 (s 0) i
    unfold t_X8_boxesWith_22 k_let
    dsimp only
    rw [if_neg (show ¬ (12 : Int32) ≤ nI i from nI_ge (b := 12) hi (by decide)), if_pos rfl]
    refine (k_bs (q_mhas hi)).trans ?_
    rw [z0, z1, nI_1 i, fb_ct_succ]
    by_cases q : cn (s 0) i = c
    · rw [if_pos (by rw [q]), if_pos (decide_eq_true q)]
    · rw [if_neg (fun e => q ((nI_eq (by omega) (by omega)).mp e)), if_neg (by rw [decide_eq_false q]; exact Bool.false_ne_true)]
  · rfl
theorem q_case7 {g : k_G8} {s : Nat → Int32} (h : rg8 g s) (a la : Int32) (out : Nat → Int64) : ∃ y o, f_case7 a g la s out = some (y, o) := by
  have hbad : (f_X7_boxesWith a g = some (.inr "java/lang/IllegalArgumentException")) → f_X8_in a 0 4 = some 0 → ∃ y o, f_case7 a g la s out = some (y, o) := by
    intro h7 x8
    have hL : f_L_boxesWith a g out = some (1, out) := (k_bs h7).trans (se_r.trans (if_pos rfl))
    have hk : k_loop (t_X8_boxesWith_22 a 1 s) 1000 (0, 0) = some (0, 0) := by
      refine k_loopR ?_
      unfold t_X8_boxesWith_22
      dsimp only
      rw [if_neg (by decide), if_neg (by decide)]
    have h8 : f_X8_boxesWith a la s = some (0, 1) := by
      unfold f_X8_boxesWith
      refine (k_bs x8).trans ?_
      rw [if_pos rfl]
      exact (k_bs hk).trans rfl
    exact ⟨_, _, (k_bs hL).trans ((k_bs h8).trans ((k_bs (k_th _)).trans (cs_no dz1)))⟩
  by_cases n : a < 0
  · refine hbad ?_ ?_
    · unfold f_X7_boxesWith; rw [if_pos n]
    · unfold f_X8_in; rw [if_pos n]
  · obtain ⟨c, hc, rfl⟩ := nI_of n
    by_cases d : c < 5
    · have hn : q_n (bld (fun k => decide (cn g.1 k = c)) 12) = fb_ct (fun k => decide (cn g.1 k = c)) 12 := q_nbld (by omega)
      have h7 : f_X7_boxesWith (nI c) g = some (.inl (nI (fb_ct (fun k => decide (cn g.1 k = c)) 12))) := by
        unfold f_X7_boxesWith
        rw [if_neg n, if_pos (show nI c ≤ (4 : Int32) from nI_le (b := 4) (by omega) (by decide))]
        refine (k_bs (q_boxesHaving hc)).trans ?_
        refine (k_bs (q_bitCount _)).trans ?_
        rw [hn]
      have hL : f_L_boxesWith (nI c) g out = some (0, vp_updL out 0 (nI (fb_ct (fun k => decide (cn g.1 k = c)) 12)).toInt64) := (k_bs h7).trans rfl
      have h8 := q_withM (s := s) d la
      rw [h.1] at h8
      exact ⟨_, _, (k_bs hL).trans ((k_bs h8).trans ((k_bs (k_th _)).trans (cs_ok (o := out))))⟩
    · refine hbad ?_ ?_
      · unfold f_X7_boxesWith
        rw [if_neg n, if_neg (show ¬ nI c ≤ (4 : Int32) from nI_ge (a := 4) (by omega) hc)]
      · unfold f_X8_in
        rw [if_neg n, if_pos (show (4 : Int32) < nI c from nI_lt (a := 4) (by omega) hc)]
theorem q_case9 {g : k_G8} {s : Nat → Int32} (h : rg8 g s) (a la : Int32) (out : Nat → Int64) : ∃ y o, f_case9 a g la s out = some (y, o) := by
  rcases q_fence a with ⟨f, hf, rfl, x7, x8⟩ | ⟨x7, x8⟩
  · have hm := q_reason h hf
    have hc := q_refusal h.2.1 hf
    generalize (if c31 g.1 = 31 then (1 : Int32) else if bt g.1 f = true then 2 else 0) = w at hc hm
    have h7 : f_X7_whyNot (nI f) g = some (.inl w) := by
      unfold f_X7_whyNot
      refine (k_bs x7).trans ?_
      rw [if_neg (by decide)]
      exact (k_bs hc).trans rfl
    have hL : f_L_whyNot (nI f) g out = some (0, vp_updL out 0 w.toInt64) := (k_bs h7).trans rfl
    have h8 : f_X8_whyNot (nI f) la s = some (w, 0) := by
      unfold f_X8_whyNot
      refine (k_bs x8).trans ?_
      rw [if_neg (by decide), if_pos rfl]
      exact (k_bs hm).trans rfl
    exact ⟨_, _, (k_bs hL).trans ((k_bs h8).trans ((k_bs (k_th _)).trans (cs_ok (o := out))))⟩
  · have h7 : f_X7_whyNot a g = some (.inr "java/lang/IllegalArgumentException") := by
      unfold f_X7_whyNot
      refine (k_bs x7).trans ?_
      rw [if_pos rfl]
    have hL : f_L_whyNot a g out = some (1, out) := (k_bs h7).trans (se_r.trans (if_pos rfl))
    have h8 : f_X8_whyNot a la s = some (0, 1) := by
      unfold f_X8_whyNot
      refine (k_bs x8).trans ?_
      rw [if_pos rfl, if_neg (by decide)]
    exact ⟨_, _, (k_bs hL).trans ((k_bs h8).trans ((k_bs (k_th _)).trans (cs_no dz1)))⟩
