/-! The cases of the law: texts. -/
theorem tx_add {t v : Nat} {c : Nat → Nat} {r : Nat → Int32} (h : tx t c r) (ht : t < 60) (h1 : 32 ≤ v) (h2 : v ≤ 126) : tx (t + 1) (fun i => if i = t then v else c i) (upd r t (nI v)) := by
  refine ⟨by omega, fun i hi => ?_⟩
  unfold upd
  by_cases e : i = t
  · simp only [if_pos e]
    exact ⟨trivial, h1, h2⟩
  · simp only [if_neg e]
    exact h.2 i (by omega)
theorem nar_c : ∀ v, v < 127 → vp_nar .char (((nI v).toUInt32 % 65536).toInt32) = nI v := by decide +kernel
theorem q_case35 {t : Nat} {c : Nat → Nat} {ch rT : Nat → Int32} (h : tx t c ch) (hT : tx t c rT) {o : k_O5} {ty : Int32} (ho : o.1 = nI t) (hty : ty = nI t) (a la : Int32) (out : Nat → Int64) : ∃ (ch' : Nat → Int32) (o' : k_O5) (y ty' : Int32) (rT' : Nat → Int32) (u : Nat → Int64) (t' : Nat) (c' : Nat → Nat), f_case35 a ch o la ty rT out = some (ch', o', y, ty', rT', u) ∧ o'.1 = nI t' ∧ ty' = nI t' ∧ tx t' c' ch' ∧ tx t' c' rT' := by
  have h60 := h.1
  have hbad : f_X7_type a ch o = some (.inr ("java/lang/IllegalArgumentException", ch, o)) → f_X8_in a 32 126 = some 0 → ∃ (ch' : Nat → Int32) (o' : k_O5) (y ty' : Int32) (rT' : Nat → Int32) (u : Nat → Int64) (t' : Nat) (c' : Nat → Nat), f_case35 a ch o la ty rT out = some (ch', o', y, ty', rT', u) ∧ o'.1 = nI t' ∧ ty' = nI t' ∧ tx t' c' ch' ∧ tx t' c' rT' := by
    intro h7 x8
    have hL : f_L_type a ch o out = some (1, ch, o, out) := (k_bs h7).trans (se_r.trans (if_pos rfl))
    have h8 : f_X8_type a la ty rT = some (0, 1, ty, rT) := by
      unfold f_X8_type
      refine (k_bs x8).trans ?_
      rw [if_pos rfl]
      rfl
    exact ⟨ch, o, 1, ty, rT, out, t, c, (k_bs hL).trans ((k_bs h8).trans ((k_bs (k_th _)).trans (cs_no dz1))), ho, hty, h, hT⟩
  by_cases n : a < 0
  · have n32 : a < 32 := fa_trans n (by decide)
    refine hbad ?_ ?_
    · unfold f_X7_type; rw [if_pos n32]
    · unfold f_X8_in; rw [if_pos n32]
  · obtain ⟨v, hv, rfl⟩ := nI_of n
    by_cases d : v < 32
    · have n32 : nI v < (32 : Int32) := nI_lt (b := 32) d (by decide)
      refine hbad ?_ ?_
      · unfold f_X7_type; rw [if_pos n32]
      · unfold f_X8_in; rw [if_pos n32]
    · have n32 : ¬ nI v < (32 : Int32) := nI_nlt (b := 32) (by omega) hv
      by_cases e : v ≤ 126
      · have n126 : nI v ≤ (126 : Int32) := nI_le (b := 126) e (by decide)
        have m126 : ¬ (126 : Int32) < nI v := nI_nlt (a := 126) e (by decide)
        have x8 : f_X8_in (nI v) 32 126 = some 1 := by
          unfold f_X8_in
          rw [if_neg n32, if_neg m126]
        by_cases z : t < 60
        · have hfull : f_X5_isFull o = some 0 := by
            unfold f_X5_isFull
            rw [ho, if_pos (show nI t < (60 : Int32) from nI_lt (b := 60) z (by decide))]
          have hg := nI_in (c := t) (N := 60) z (by decide)
          have hcl : (nI t).toNatClampNeg = t := nI_clamp (by omega)
          have hap : f_X5_append (nI v) ch o = some (upd ch t (nI v), (nI (t + 1), o.2.1, o.2.2.1, o.2.2.2.1, o.2.2.2.2)) := by
            unfold f_X5_append k_let
            refine (k_bs hfull).trans ?_
            rw [if_pos rfl, ho, if_neg hg, hcl, nar_c v (by omega), nI_1]
          have h7 : f_X7_type (nI v) ch o = some (.inl (nI (t + 1), upd ch t (nI v), (nI (t + 1), o.2.1, o.2.2.1, o.2.2.2.1, o.2.2.2.2))) := by
            unfold f_X7_type
            rw [if_neg n32, if_pos n126]
            refine (k_bs hfull).trans ?_
            rw [if_pos rfl]
            exact (k_bs hap).trans rfl
          have hL : f_L_type (nI v) ch o out = some (0, upd ch t (nI v), (nI (t + 1), o.2.1, o.2.2.1, o.2.2.2.1, o.2.2.2.2), vp_updL out 0 (nI (t + 1)).toInt64) := (k_bs h7).trans rfl
          have h8 : f_X8_type (nI v) la ty rT = some (nI (t + 1), 0, nI (t + 1), upd rT t (nI v)) := by
            unfold f_X8_type k_let
            refine (k_bs x8).trans ?_
            rw [if_neg (by decide), hty, if_neg (show ¬ nI t = (60 : Int32) from fun q => by have := (nI_eq (b := 60) (by omega) (by decide)).mp q; omega), if_neg hg, hcl, nI_1]
          exact ⟨_, _, _, _, _, _, t + 1, _, (k_bs hL).trans ((k_bs h8).trans ((k_bs (k_th _)).trans (cs_ok (o := out)))), rfl, rfl, tx_add h z (by omega) e, tx_add hT z (by omega) e⟩
        · have t60 : t = 60 := by omega
          have hfull : f_X5_isFull o = some 1 := by
            unfold f_X5_isFull
            rw [ho, if_neg (show ¬ nI t < (60 : Int32) from nI_nlt (b := 60) (by omega) (by omega))]
          have h7 : f_X7_type (nI v) ch o = some (.inr ("java/lang/IllegalStateException", ch, o)) := by
            unfold f_X7_type
            rw [if_neg n32, if_pos n126]
            refine (k_bs hfull).trans ?_
            rw [if_neg (by decide)]
          have hL : f_L_type (nI v) ch o out = some (2, ch, o, out) := (k_bs h7).trans (se_r.trans ((if_neg ne_is).trans (if_pos rfl)))
          have h8 : f_X8_type (nI v) la ty rT = some (0, 2, ty, rT) := by
            unfold f_X8_type
            refine (k_bs x8).trans ?_
            rw [if_neg (by decide), if_pos (show ty = 60 by rw [hty, t60]; rfl)]
            rfl
          exact ⟨ch, o, 2, ty, rT, out, t, c, (k_bs hL).trans ((k_bs h8).trans ((k_bs (k_th _)).trans (cs_no dz2))), ho, hty, h, hT⟩
      · have n126 : ¬ nI v ≤ (126 : Int32) := nI_ge (a := 126) (by omega) hv
        have m126 : (126 : Int32) < nI v := nI_lt (a := 126) (by omega) hv
        refine hbad ?_ ?_
        · unfold f_X7_type; rw [if_neg n32, if_neg n126]
        · unfold f_X8_in; rw [if_neg n32, if_pos m126]
/-- both readings of the text, from the game on -/
theorem q_play1 {t : Nat} {c : Nat → Nat} {ch rT : Nat → Int32} (h : tx t c ch) (hT : tx t c rT) {g : k_G8} {s : Nat → Int32} (hr : rg8 g s) {o : k_O5} (ho : o.1 = nI t) (tr : k_G8) (pa ru la sp fr mre mca od le : Int32) (rP rN : Nat → Int32) :
    (∃ (d : Nat) (re ca : Int32) (tr' : k_G8) (s' : Nat → Int32) (sp' fr' mre' mca' le' : Int32) (rN' : Nat → Int32), rg8 tr' s' ∧ f_X5_haveFault ch o tr g = some (0, (nI t, nI t, re, ca, nI d), tr') ∧ f_X8_plays pa ru la (nI t) sp fr mre mca od le s rP rT rN = some (1, pa, 0, 0, sp', fr', mre', mca', nI d, le', s', rP, rN')) ∨
    (∃ (p re ca d : Int32) (tr' : k_G8) (s' : Nat → Int32) (sp' od' le' : Int32) (rN' : Nat → Int32), f_X5_haveFault ch o tr g = some (1, (nI t, p, re, ca, d), tr') ∧ f_X8_plays pa ru la (nI t) sp fr mre mca od le s rP rT rN = some (0, pa, 0, 0, sp', p, re, ca, od', le', s', rP, rN')) := by
  have ht := h.1
  rcases q_both h hT 60 0 (by omega) (by omega) 0 0 o.2.2.1 o.2.2.2.1 g s (by omega) hr pa la 0 mre mca le rP rN with ⟨i', d', re', ca', tr', s', la', sp', fr', mre', mca', le', rN', a1, a2, a3⟩ | ⟨p', re', ca', d', tr', s', la', sp', od', le', rN', a2, a3⟩
  · have b2 := a2 1000 (by omega)
    have b3 := a3 1000 (by omega)
    refine Or.inl ⟨d', re', ca', tr', s', sp', fr', mre', mca', le', rN', a1, ?_, ?_⟩
    · unfold f_X5_haveFault
      refine (k_bs (show f_X2_copyFrom tr g = some g from rfl)).trans ?_
      rw [ho]
      exact (k_bs b2).trans rfl
    · unfold f_X8_plays
      exact (k_bs b3).trans (if_pos (Or.inr rfl))
  · have b2 := a2 1000 (by omega)
    have b3 := a3 1000 (by omega)
    refine Or.inr ⟨p', re', ca', d', tr', s', sp', od', le', rN', ?_, ?_⟩
    · unfold f_X5_haveFault
      refine (k_bs (show f_X2_copyFrom tr g = some g from rfl)).trans ?_
      rw [ho]
      exact (k_bs b2).trans (se_r.trans (if_pos (Or.inr rfl)))
    · unfold f_X8_plays
      exact (k_bs b3).trans (if_pos (Or.inl rfl))
