/-! The whole run. -/
theorem q_step {S : k_St} (h : kInv S) (x a : Int32) : ∃ S', f_step x a S = some S' ∧ kInv S' := by
  obtain ⟨⟨gm, sn, hs, qs, k0, k1, k2, k3, ch, o, tr, es, op, fo, has⟩, ⟨mOp, ik, pa, ru, la, ty, sp, fr, mre, mca, od, le, rS, rP, rK, rA, rO, rW, rC, rT, rN⟩, out⟩ := S
  have h : InvP gm sn hs k0 k1 k2 k3 ch o has ik pa ru ty rS rP rK rT := h
  unfold f_step
  by_cases e : x = 0
  · rw [if_pos e]; exact s_0 h a
  rw [if_neg e]; clear e
  by_cases e : x = 1
  · rw [if_pos e]; exact s_1 h a
  rw [if_neg e]; clear e
  by_cases e : x = 2
  · rw [if_pos e]; exact s_2 h a
  rw [if_neg e]; clear e
  by_cases e : x = 3
  · rw [if_pos e]; exact s_3 h a
  rw [if_neg e]; clear e
  by_cases e : x = 4
  · rw [if_pos e]; exact s_4 h a
  rw [if_neg e]; clear e
  by_cases e : x = 5
  · rw [if_pos e]; exact s_5 h a
  rw [if_neg e]; clear e
  by_cases e : x = 6
  · rw [if_pos e]; exact s_6 h a
  rw [if_neg e]; clear e
  by_cases e : x = 7
  · rw [if_pos e]; exact s_7 h a
  rw [if_neg e]; clear e
  by_cases e : x = 8
  · rw [if_pos e]; exact s_8 h a
  rw [if_neg e]; clear e
  by_cases e : x = 9
  · rw [if_pos e]; exact s_9 h a
  rw [if_neg e]; clear e
  by_cases e : x = 10
  · rw [if_pos e]; exact s_10 h a
  rw [if_neg e]; clear e
  by_cases e : x = 11
  · rw [if_pos e]; exact s_11 h a
  rw [if_neg e]; clear e
  by_cases e : x = 12
  · rw [if_pos e]; exact s_12 h a
  rw [if_neg e]; clear e
  by_cases e : x = 13
  · rw [if_pos e]; exact s_13 h a
  rw [if_neg e]; clear e
  by_cases e : x = 14
  · rw [if_pos e]; exact s_14 h a
  rw [if_neg e]; clear e
  by_cases e : x = 15
  · rw [if_pos e]; exact s_15 h a
  rw [if_neg e]; clear e
  by_cases e : x = 16
  · rw [if_pos e]; exact s_16 h a
  rw [if_neg e]; clear e
  by_cases e : x = 17
  · rw [if_pos e]; exact s_17 h a
  rw [if_neg e]; clear e
  by_cases e : x = 18
  · rw [if_pos e]; exact s_18 h a
  rw [if_neg e]; clear e
  by_cases e : x = 19
  · rw [if_pos e]; exact s_19 h a
  rw [if_neg e]; clear e
  by_cases e : x = 20
  · rw [if_pos e]; exact s_20 h a
  rw [if_neg e]; clear e
  by_cases e : x = 21
  · rw [if_pos e]; exact s_21 h a
  rw [if_neg e]; clear e
  by_cases e : x = 22
  · rw [if_pos e]; exact s_22 h a
  rw [if_neg e]; clear e
  by_cases e : x = 23
  · rw [if_pos e]; exact s_23 h a
  rw [if_neg e]; clear e
  by_cases e : x = 24
  · rw [if_pos e]; exact s_24 h a
  rw [if_neg e]; clear e
  by_cases e : x = 25
  · rw [if_pos e]; exact s_25 h a
  rw [if_neg e]; clear e
  by_cases e : x = 26
  · rw [if_pos e]; exact s_26 h a
  rw [if_neg e]; clear e
  by_cases e : x = 27
  · rw [if_pos e]; exact s_27 h a
  rw [if_neg e]; clear e
  by_cases e : x = 28
  · rw [if_pos e]; exact s_28 h a
  rw [if_neg e]; clear e
  by_cases e : x = 29
  · rw [if_pos e]; exact s_29 h a
  rw [if_neg e]; clear e
  by_cases e : x = 30
  · rw [if_pos e]; exact s_30 h a
  rw [if_neg e]; clear e
  by_cases e : x = 31
  · rw [if_pos e]; exact s_31 h a
  rw [if_neg e]; clear e
  by_cases e : x = 32
  · rw [if_pos e]; exact s_32 h a
  rw [if_neg e]; clear e
  by_cases e : x = 33
  · rw [if_pos e]; exact s_33 h a
  rw [if_neg e]; clear e
  by_cases e : x = 34
  · rw [if_pos e]; exact s_34 h a
  rw [if_neg e]; clear e
  by_cases e : x = 35
  · rw [if_pos e]; exact s_35 h a
  rw [if_neg e]; clear e
  by_cases e : x = 36
  · rw [if_pos e]; exact s_36 h a
  rw [if_neg e]; clear e
  by_cases e : x = 37
  · rw [if_pos e]; exact s_37 h a
  rw [if_neg e]; clear e
  by_cases e : x = 38
  · rw [if_pos e]; exact s_38 h a
  rw [if_neg e]; clear e
  by_cases e : x = 39
  · rw [if_pos e]; exact s_39 h a
  rw [if_neg e]; clear e
  by_cases e : x = 40
  · rw [if_pos e]; exact s_40 h a
  rw [if_neg e]; clear e
  exact ⟨_, rfl, h⟩
theorem q_run (xs : Nat → Int32) (L : Nat) : ∀ (n j : Nat) (S : k_St), kInv S → L < j + 2 + 2 * n → ∃ r : k_St, f_run xs L (n + 1) j S = some r := by
  intro n
  induction n with
  | zero =>
    intro j S _ hL
    exact ⟨S, if_pos (by omega)⟩
  | succ n ih =>
    intro j S h hL
    by_cases c : L < j + 2
    · exact ⟨S, if_pos c⟩
    · obtain ⟨S1, e1, h1⟩ := q_step h (xs j &&& 63) (xs (j + 1))
      obtain ⟨r, hr⟩ := ih (j + 2) S1 h1 (by omega)
      exact ⟨r, (if_neg c).trans ((k_bs e1).trans hr)⟩
theorem q_start (qs : k_Q4) : kInv (k_S0 qs) := by
  have hz : c31 0 = 0 := fb_ct_zero.mpr fun k _ => b_0 k
  refine ⟨⟨rfl, b_0 31, ?_, fun k _ => ?_, fun k _ q => ?_, fun k _ q => ?_, fun k _ => ?_, fun k _ => ?_, rfl, Or.inl rfl, rfl, rfl, rfl, rfl⟩, ⟨rfl, Or.inl rfl⟩, ⟨0, by omega, rfl, rfl, fun i hi => absurd hi (Nat.not_lt_zero i)⟩, ⟨0, fun _ => 0, rfl, rfl, ⟨by omega, fun i hi => absurd hi (Nat.not_lt_zero i)⟩, ⟨by omega, fun i hi => absurd hi (Nat.not_lt_zero i)⟩⟩, rfl⟩
  · show (0 : Int32) = nI (c31 0)
    rw [hz]; rfl
  · show (0 : Int32) = own (bt 0 k) (bt 0 k)
    rw [b_0]; rfl
  · have q : bt 0 k = true := q
    rw [b_0] at q; cases q
  · have q : bt 0 k = true := q
    rw [b_0] at q; cases q
  · show (bt 0 k || bt 0 k) = decide (cn 0 k = 4)
    rw [b_0, cn_0]; rfl
  · show (bt 0 k && bt 0 k) = false
    rw [b_0]; rfl
theorem q_all (xs : Nat → Int32) {L : Nat} (hL : L ≤ 1024) (qs : k_Q4) : ∃ r : k_St, f_run xs L 600 0 (k_S0 qs) = some r := q_run xs L 599 0 (k_S0 qs) (q_start qs) (by omega)
/-- from the entry, for every script of at most 1024 ints, the law comes to its end with true -/
theorem whole_start {p : Program} {e : Env} {s : State} {m : MethodId} {below : List Frame} {meth : Method} {c : Code} (l : Launch) (hflags : l.flags = flags0) {b L : Nat} {xs : Nat → Int32} (hL : L ≤ 1024) (C0 : lw_At p s m meth c b L xs) : W p l e room_1 s m #[Value.ref b] below meth c s.heap [] 0 0 (lw_Z below #[Value.ref b] s) (entryFrame m ([Value.ref b] : List Value).toArray 9) := k_whole l hflags hL (fun qs => q_all xs hL qs) C0
