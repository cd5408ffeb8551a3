/-! The cases of the law: faults of texts, and play. -/
theorem q_fault {t : Nat} {c : Nat → Nat} {ch rT : Nat → Int32} (h : tx t c ch) (hT : tx t c rT) {g : k_G8} {s : Nat → Int32} (hr : rg8 g s) {o : k_O5} (ho : o.1 = nI t) (tr : k_G8) (n1 pa ru la sp fr mre mca od le : Int32) (rP rA rN : Nat → Int32) :
    (∃ (o' : k_O5) (tr' : k_G8) (sp' fr' mre' mca' od' le' : Int32) (v3 v1 rN' : Nat → Int32), o'.1 = nI t ∧ rg8 g v3 ∧ f_X5_haveFault ch o tr g = some (0, o', tr') ∧ f_X8_fault n1 pa ru la (nI t) sp fr mre mca od le s rP rA rT rN = some (0, pa, 0, 1, sp', fr', mre', mca', od', le', v3, rP, v1, rN')) ∨
    (∃ (p re ca d : Int32) (tr' : k_G8) (sp' od' le' : Int32) (v3 v1 rN' : Nat → Int32), rg8 g v3 ∧ f_X5_haveFault ch o tr g = some (1, (nI t, p, re, ca, d), tr') ∧ f_X8_fault n1 pa ru la (nI t) sp fr mre mca od le s rP rA rT rN = some (if n1 = 0 then p else if n1 = 1 then re else ca, pa, 0, 0, sp', p, re, ca, od', le', v3, rP, v1, rN')) := by
  obtain ⟨v1, u1, u2⟩ := q_copies s rA
  rcases q_play1 h hT hr ho tr pa ru la sp fr mre mca od le rP rN with ⟨d, re, ca, tr', s', sp', fr', mre', mca', le', rN', a1, a2, a3⟩ | ⟨p, re, ca, d, tr', s', sp', od', le', rN', a2, a3⟩
  · obtain ⟨v3, w1, w2⟩ := q_copies v1 s'
    refine Or.inl ⟨_, tr', sp', fr', mre', mca', nI d, le', v3, v1, rN', rfl, rg8_cong hr fun j hj => by rw [w2, if_pos hj, u2, if_pos hj], a2, ?_⟩
    unfold f_X8_fault
    refine (k_bs u1).trans ?_
    refine (k_bs a3).trans ?_
    refine (k_bs w1).trans ?_
    dsimp only
    rw [if_neg (by decide)]
    rfl
  · obtain ⟨v3, w1, w2⟩ := q_copies v1 s'
    refine Or.inr ⟨p, re, ca, d, tr', sp', od', le', v3, v1, rN', rg8_cong hr fun j hj => by rw [w2, if_pos hj, u2, if_pos hj], a2, ?_⟩
    unfold f_X8_fault
    refine (k_bs u1).trans ?_
    refine (k_bs a3).trans ?_
    refine (k_bs w1).trans ?_
    dsimp only
    rw [if_pos rfl]
    by_cases z0 : n1 = 0
    · rw [if_pos z0, if_pos z0]
    · rw [if_neg z0, if_neg z0]
      by_cases z1 : n1 = 1
      · rw [if_pos z1, if_pos z1]
      · rw [if_neg z1, if_neg z1]
theorem q_case37 {t : Nat} {c : Nat → Nat} {ch rT : Nat → Int32} (h : tx t c ch) (hT : tx t c rT) {g : k_G8} {s : Nat → Int32} (hr : rg8 g s) {o : k_O5} (ho : o.1 = nI t) (tr : k_G8) (a pa ru la sp fr mre mca od le : Int32) (rP rA rN : Nat → Int32) (out : Nat → Int64) : ∃ (o' : k_O5) (tr' : k_G8) (y sp' fr' mre' mca' od' le' : Int32) (s' A' N' : Nat → Int32) (u : Nat → Int64), f_case37 a g ch o tr pa ru la (nI t) sp fr mre mca od le s rP rA rT rN out = some (o', tr', pa, 0, y, sp', fr', mre', mca', od', le', s', rP, A', N', u) ∧ o'.1 = nI t ∧ rg8 g s' := by
  rcases q_fault h hT hr ho tr 0 pa ru la sp fr mre mca od le rP rA rN with ⟨o', tr', sp', fr', mre', mca', od', le', v3, v1, rN', a0, a1, a2, a3⟩ | ⟨p, re, ca, d, tr', sp', od', le', v3, v1, rN', a1, a2, a3⟩
  · have h7 : f_X7_faultPosition g ch o tr = some (.inr ("java/util/NoSuchElementException", o', tr')) := by
      unfold f_X7_faultPosition
      exact (k_bs a2).trans (if_pos rfl)
    have hL : f_L_faultPosition g ch o tr out = some (1, o', tr', out) := (k_bs h7).trans (se_r.trans (if_pos rfl))
    have h8 : f_X8_faultPosition pa ru la (nI t) sp fr mre mca od le s rP rA rT rN = some (0, pa, 0, 1, sp', fr', mre', mca', od', le', v3, rP, v1, rN') := (k_bs a3).trans rfl
    exact ⟨o', tr', 1, sp', fr', mre', mca', od', le', v3, v1, rN', out, (k_bs hL).trans ((k_bs h8).trans ((k_bs (k_th _)).trans (cs_no dz1))), a0, a1⟩
  · have hsel : (if (0 : Int32) = 0 then p else if (0 : Int32) = 1 then re else ca) = p := if_pos rfl
    rw [hsel] at a3
    have h7 : f_X7_faultPosition g ch o tr = some (.inl (p, (nI t, p, re, ca, d), tr')) := by
      unfold f_X7_faultPosition
      exact (k_bs a2).trans (if_neg dz1)
    have hL : f_L_faultPosition g ch o tr out = some (0, (nI t, p, re, ca, d), tr', vp_updL out 0 p.toInt64) := (k_bs h7).trans rfl
    have h8 : f_X8_faultPosition pa ru la (nI t) sp fr mre mca od le s rP rA rT rN = some (p, pa, 0, 0, sp', p, re, ca, od', le', v3, rP, v1, rN') := (k_bs a3).trans rfl
    exact ⟨(nI t, p, re, ca, d), tr', 0, sp', p, re, ca, od', le', v3, v1, rN', _, (k_bs hL).trans ((k_bs h8).trans ((k_bs (k_th _)).trans (cs_ok (o := out)))), rfl, a1⟩
theorem q_case38 {t : Nat} {c : Nat → Nat} {ch rT : Nat → Int32} (h : tx t c ch) (hT : tx t c rT) {g : k_G8} {s : Nat → Int32} (hr : rg8 g s) {o : k_O5} (ho : o.1 = nI t) (tr : k_G8) (a pa ru la sp fr mre mca od le : Int32) (rP rA rN : Nat → Int32) (out : Nat → Int64) : ∃ (o' : k_O5) (tr' : k_G8) (y sp' fr' mre' mca' od' le' : Int32) (s' A' N' : Nat → Int32) (u : Nat → Int64), f_case38 a g ch o tr pa ru la (nI t) sp fr mre mca od le s rP rA rT rN out = some (o', tr', pa, 0, y, sp', fr', mre', mca', od', le', s', rP, A', N', u) ∧ o'.1 = nI t ∧ rg8 g s' := by
  rcases q_fault h hT hr ho tr 1 pa ru la sp fr mre mca od le rP rA rN with ⟨o', tr', sp', fr', mre', mca', od', le', v3, v1, rN', a0, a1, a2, a3⟩ | ⟨p, re, ca, d, tr', sp', od', le', v3, v1, rN', a1, a2, a3⟩
  · have h7 : f_X7_faultReason g ch o tr = some (.inr ("java/util/NoSuchElementException", o', tr')) := by
      unfold f_X7_faultReason
      exact (k_bs a2).trans (if_pos rfl)
    have hL : f_L_faultReason g ch o tr out = some (1, o', tr', out) := (k_bs h7).trans (se_r.trans (if_pos rfl))
    have h8 : f_X8_faultReason pa ru la (nI t) sp fr mre mca od le s rP rA rT rN = some (0, pa, 0, 1, sp', fr', mre', mca', od', le', v3, rP, v1, rN') := (k_bs a3).trans rfl
    exact ⟨o', tr', 1, sp', fr', mre', mca', od', le', v3, v1, rN', out, (k_bs hL).trans ((k_bs h8).trans ((k_bs (k_th _)).trans (cs_no dz1))), a0, a1⟩
  · have hsel : (if (1 : Int32) = 0 then p else if (1 : Int32) = 1 then re else ca) = re := (if_neg (by decide)).trans (if_pos rfl)
    rw [hsel] at a3
    have h7 : f_X7_faultReason g ch o tr = some (.inl (re, (nI t, p, re, ca, d), tr')) := by
      unfold f_X7_faultReason
      exact (k_bs a2).trans (if_neg dz1)
    have hL : f_L_faultReason g ch o tr out = some (0, (nI t, p, re, ca, d), tr', vp_updL out 0 re.toInt64) := (k_bs h7).trans rfl
    have h8 : f_X8_faultReason pa ru la (nI t) sp fr mre mca od le s rP rA rT rN = some (re, pa, 0, 0, sp', p, re, ca, od', le', v3, rP, v1, rN') := (k_bs a3).trans rfl
    exact ⟨(nI t, p, re, ca, d), tr', 0, sp', p, re, ca, od', le', v3, v1, rN', _, (k_bs hL).trans ((k_bs h8).trans ((k_bs (k_th _)).trans (cs_ok (o := out)))), rfl, a1⟩
theorem q_case39 {t : Nat} {c : Nat → Nat} {ch rT : Nat → Int32} (h : tx t c ch) (hT : tx t c rT) {g : k_G8} {s : Nat → Int32} (hr : rg8 g s) {o : k_O5} (ho : o.1 = nI t) (tr : k_G8) (a pa ru la sp fr mre mca od le : Int32) (rP rA rN : Nat → Int32) (out : Nat → Int64) : ∃ (o' : k_O5) (tr' : k_G8) (y sp' fr' mre' mca' od' le' : Int32) (s' A' N' : Nat → Int32) (u : Nat → Int64), f_case39 a g ch o tr pa ru la (nI t) sp fr mre mca od le s rP rA rT rN out = some (o', tr', pa, 0, y, sp', fr', mre', mca', od', le', s', rP, A', N', u) ∧ o'.1 = nI t ∧ rg8 g s' := by
  rcases q_fault h hT hr ho tr 2 pa ru la sp fr mre mca od le rP rA rN with ⟨o', tr', sp', fr', mre', mca', od', le', v3, v1, rN', a0, a1, a2, a3⟩ | ⟨p, re, ca, d, tr', sp', od', le', v3, v1, rN', a1, a2, a3⟩
  · have h7 : f_X7_faultCause g ch o tr = some (.inr ("java/util/NoSuchElementException", o', tr')) := by
      unfold f_X7_faultCause
      exact (k_bs a2).trans (if_pos rfl)
    have hL : f_L_faultCause g ch o tr out = some (1, o', tr', out) := (k_bs h7).trans (se_r.trans (if_pos rfl))
    have h8 : f_X8_faultCause pa ru la (nI t) sp fr mre mca od le s rP rA rT rN = some (0, pa, 0, 1, sp', fr', mre', mca', od', le', v3, rP, v1, rN') := (k_bs a3).trans rfl
    exact ⟨o', tr', 1, sp', fr', mre', mca', od', le', v3, v1, rN', out, (k_bs hL).trans ((k_bs h8).trans ((k_bs (k_th _)).trans (cs_no dz1))), a0, a1⟩
  · have hsel : (if (2 : Int32) = 0 then p else if (2 : Int32) = 1 then re else ca) = ca := (if_neg (by decide)).trans (if_neg (by decide))
    rw [hsel] at a3
    have h7 : f_X7_faultCause g ch o tr = some (.inl (ca, (nI t, p, re, ca, d), tr')) := by
      unfold f_X7_faultCause
      exact (k_bs a2).trans (if_neg dz1)
    have hL : f_L_faultCause g ch o tr out = some (0, (nI t, p, re, ca, d), tr', vp_updL out 0 ca.toInt64) := (k_bs h7).trans rfl
    have h8 : f_X8_faultCause pa ru la (nI t) sp fr mre mca od le s rP rA rT rN = some (ca, pa, 0, 0, sp', p, re, ca, od', le', v3, rP, v1, rN') := (k_bs a3).trans rfl
    exact ⟨(nI t, p, re, ca, d), tr', 0, sp', p, re, ca, od', le', v3, v1, rN', _, (k_bs hL).trans ((k_bs h8).trans ((k_bs (k_th _)).trans (cs_ok (o := out)))), rfl, a1⟩
theorem q_case40 {t : Nat} {c : Nat → Nat} {ch rT : Nat → Int32} (h : tx t c ch) (hT : tx t c rT) {g : k_G8} {s : Nat → Int32} (hr : rg8 g s) {o : k_O5} (ho : o.1 = nI t) {n : Nat} (hn : n ≤ 4) {k0 k1 k2 k3 : k_G8} {rP : Nat → Int32} (hh : hist n k0 k1 k2 k3 rP) (tr : k_G8) (a : Int32) (qs : k_Q4) (ru la sp fr mre mca od le : Int32) (rA rN : Nat → Int32) (out : Nat → Int64) : ∃ (g' : k_G8) (n' : Nat) (qs' : k_Q4) (a0 a1 a2 a3 : k_G8) (o' : k_O5) (tr' : k_G8) (y sp' fr' mre' mca' od' le' : Int32) (s' P' A' N' : Nat → Int32) (u : Nat → Int64), f_case40 a g (nI n) qs k0 k1 k2 k3 ch o tr (nI n) ru la (nI t) sp fr mre mca od le s rP rA rT rN out = some (g', nI n', qs', a0, a1, a2, a3, o', tr', nI n', 0, y, sp', fr', mre', mca', od', le', s', P', A', N', u) ∧ rg8 g' s' ∧ n' ≤ 4 ∧ hist n' a0 a1 a2 a3 P' ∧ o'.1 = nI t := by
  obtain ⟨v1, u1, u2⟩ := q_copies s rA
  rcases q_play1 h hT hr ho tr (nI n) ru la sp fr mre mca od le rP rN with ⟨d, re, ca, tr', s', sp', fr', mre', mca', le', rN', x1, x2, x3⟩ | ⟨p, re, ca, d, tr', s', sp', od', le', rN', x2, x3⟩
  · obtain ⟨v3, w1, w2⟩ := q_copies v1 s'
    have hr3 : rg8 g v3 := rg8_cong hr fun j hj => by rw [w2, if_pos hj, u2, if_pos hj]
    obtain ⟨n', qs', a0, a1, a2, a3, P', b1, b2, b3, b4⟩ := q_record hn qs hh hr3
    rcases q_play1 h hT hr3 ho tr (nI n') 0 0 sp' fr' mre' mca' (nI d) le' P' rN' with ⟨d2, re2, ca2, tr2, s2, sp2, fr2, mre2, mca2, le2, rN2, y1, y2, y3⟩ | ⟨p2, re2, ca2, d2, tr2, s2, sp2, od2, le2, rN2, y2, y3⟩
    · have hq : some ((0 : Int32), (nI t, nI t, re, ca, nI d), tr') = some (0, (nI t, nI t, re2, ca2, nI d2), tr2) := x2.symm.trans y2
      have hq := Option.some.inj hq
      have htr : tr' = tr2 := congrArg (fun z => z.2.2) hq
      have hd : nI d = nI d2 := congrArg (fun z => z.2.1.2.2.2.2) hq
      subst htr
      rw [← hd] at y3
      have h7 : f_X7_play g (nI n) qs k0 k1 k2 k3 ch o tr = some (.inl (nI d, tr', nI n', qs', a0, a1, a2, a3, (nI t, nI t, re, ca, nI d), tr')) := by
        unfold f_X7_play
        refine (k_bs x2).trans ?_
        dsimp only
        rw [if_pos rfl]
        refine (k_bs b2).trans ?_
        exact (k_bs (show f_X2_copyFrom g tr' = some tr' from rfl)).trans rfl
      have hL : f_L_play g (nI n) qs k0 k1 k2 k3 ch o tr out = some (0, tr', nI n', qs', a0, a1, a2, a3, (nI t, nI t, re, ca, nI d), tr', vp_updL out 0 (nI d).toInt64) := (k_bs h7).trans rfl
      have h8 : f_X8_play (nI n) ru la (nI t) sp fr mre mca od le s rP rA rT rN = some (nI d, nI n', 0, 0, sp2, fr2, mre2, mca2, nI d, le2, s2, P', v1, rN2) := by
        unfold f_X8_play
        refine (k_bs u1).trans ?_
        refine (k_bs x3).trans ?_
        refine (k_bs w1).trans ?_
        dsimp only
        rw [if_neg (by decide)]
        refine (k_bs b3).trans ?_
        dsimp only
        refine (k_bs y3).trans ?_
        dsimp only
        rw [if_neg (by decide)]
      exact ⟨tr', n', qs', a0, a1, a2, a3, _, tr', 0, sp2, fr2, mre2, mca2, nI d, le2, s2, P', v1, rN2, _, (k_bs hL).trans ((k_bs h8).trans ((k_bs (k_th _)).trans (cs_ok (o := out)))), y1, b1, b4, rfl⟩
    · have hq : some ((0 : Int32), (nI t, nI t, re, ca, nI d), tr') = some (1, (nI t, p2, re2, ca2, d2), tr2) := x2.symm.trans y2
      exact absurd (show (0 : Int32) = 1 from congrArg (fun z => z.1) (Option.some.inj hq)) (by decide)
  · obtain ⟨v3, w1, w2⟩ := q_copies v1 s'
    have hr3 : rg8 g v3 := rg8_cong hr fun j hj => by rw [w2, if_pos hj, u2, if_pos hj]
    have h7 : f_X7_play g (nI n) qs k0 k1 k2 k3 ch o tr = some (.inr ("java/lang/IllegalStateException", g, nI n, qs, k0, k1, k2, k3, (nI t, p, re, ca, d), tr')) := by
      unfold f_X7_play
      refine (k_bs x2).trans ?_
      dsimp only
      rw [if_neg (by decide)]
    have hL : f_L_play g (nI n) qs k0 k1 k2 k3 ch o tr out = some (1, g, nI n, qs, k0, k1, k2, k3, (nI t, p, re, ca, d), tr', out) := (k_bs h7).trans (se_r.trans (if_pos rfl))
    have h8 : f_X8_play (nI n) ru la (nI t) sp fr mre mca od le s rP rA rT rN = some (0, nI n, 0, 1, sp', p, re, ca, od', le', v3, rP, v1, rN') := by
      unfold f_X8_play
      refine (k_bs u1).trans ?_
      refine (k_bs x3).trans ?_
      refine (k_bs w1).trans ?_
      dsimp only
      rw [if_pos rfl]
      rfl
    exact ⟨g, n, qs, k0, k1, k2, k3, _, tr', 1, sp', p, re, ca, od', le', v3, rP, v1, rN', out, (k_bs hL).trans ((k_bs h8).trans ((k_bs (k_th _)).trans (cs_no dz1))), hr3, hn, hh, rfl⟩
