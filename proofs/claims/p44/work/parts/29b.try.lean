/-! Trying out, between two bounds. -/
def win (r lo hi v : Int) : Prop := (v ≤ lo ∧ v ≤ r ∧ r ≤ lo) ∨ (lo < v ∧ v < hi ∧ r = v) ∨ (hi ≤ v ∧ hi ≤ r ∧ r ≤ v)
theorem win_eq (lo hi v : Int) : win v lo hi v := by unfold win; omega
/-- the most of the fences below n, and no less than what all others got -/
def mx0 (y : Int32) : Nat → Int
  | 0 => -(12 - (cb y : Int))
  | n + 1 => if bt y n = false ∧ mx0 y n < mv y n then mv y n else mx0 y n
theorem mx0_succ (y : Int32) (n : Nat) : mx0 y (n + 1) = if bt y n = false ∧ mx0 y n < mv y n then mv y n else mx0 y n := rfl
theorem mx0_le (y : Int32) : ∀ n, n ≤ 31 → -(12 - (cb y : Int)) ≤ mx0 y n ∧ mx0 y n ≤ VV y
  | 0, _ => ⟨Int.le_refl _, (VV_b y).1⟩
  | n + 1, hn => by
    have ih := mx0_le y n (by omega)
    rw [mx0_succ]
    by_cases c : bt y n = false ∧ mx0 y n < mv y n
    · rw [if_pos c]
      have := VV_ge (y := y) (f := n) (by omega) c.1
      omega
    · rw [if_neg c]; exact ih
theorem mx0_ge {y : Int32} : ∀ {n f : Nat}, f < n → bt y f = false → mv y f ≤ mx0 y n
  | 0, _, h, _ => absurd h (Nat.not_lt_zero _)
  | n + 1, f, h, hb => by
    rw [mx0_succ]
    by_cases e : f = n
    · subst e
      by_cases c : bt y f = false ∧ mx0 y f < mv y f
      · rw [if_pos c]; exact Int.le_refl _
      · rw [if_neg c]; exact Int.not_lt.mp fun q => c ⟨hb, q⟩
    · have ih := mx0_ge (y := y) (n := n) (f := f) (by omega) hb
      by_cases c : bt y n = false ∧ mx0 y n < mv y n
      · rw [if_pos c]; omega
      · rw [if_neg c]; exact ih
theorem mx0_all {y : Int32} (h : c31 y < 31) : mx0 y 31 = VV y := by
  obtain ⟨f, hf, hb, e⟩ := VV_ex h
  have h1 := mx0_ge (y := y) (n := 31) hf hb
  have h2 := (mx0_le y 31 (Nat.le_refl _)).2
  omega
theorem fa_max (a b : Int32) : (if a < b then b else a).toInt = if a.toInt < b.toInt then b.toInt else a.toInt := by
  by_cases c : a < b
  · rw [if_pos c, if_pos ((fa_lt a b).mp c)]
  · rw [if_neg c, if_neg (fun q => c ((fa_lt a b).mpr q))]
theorem q_sI {x : Int32} {n : Nat} (h1 : -1000 ≤ x.toInt) (h2 : x.toInt ≤ 1000) (hn : n ≤ 1000) : (x - nI n).toInt = x.toInt - (n : Int) := by
  have e : (nI n).toInt = (n : Int) := nI_toInt (by omega)
  rw [fb_subI (by rw [e]; omega) (by rw [e]; omega), e]
theorem q_aI {x : Int32} {n : Nat} (h1 : -1000 ≤ x.toInt) (h2 : x.toInt ≤ 1000) (hn : n ≤ 1000) : (nI n + x).toInt = (n : Int) + x.toInt := by
  have e : (nI n).toInt = (n : Int) := nI_toInt (by omega)
  rw [fb_addI (by rw [e]; omega) (by rw [e]; omega), e]
theorem k_bs {α β : Type} {o : Option α} {a : α} {F : α → Option β} (h : o = some a) : o.bind F = F a := by rw [h]; rfl
theorem try_C {rec : Int32 → Int32 → Int32 → Int32 → Int32 → Option Int32} {y left lo en best fm c r : Int32} {d n k : Nat} (hk : k ≤ 12) (hn : n < 31) (stop : ¬ en ≤ best) (hb : bt y n = false) (g1 : f_X3_closedWith (st y n) (nI n) = some c) (g2 : f_J6_bitCount_0f7a4 c = some (nI k)) (hfr : (if best < lo then lo else best) = fm) (z : 0 < k) (r1 : rec (st y n) (left - nI k) (fm - nI k) (en - nI k) (nI (d + 1)) = some r) : t_X1_tryOut_36 rec y left lo (nI d) en (best, nI n) = some (.inl ((if best < nI k + r then nI k + r else best), nI (n + 1))) := by
  have h1 : ¬ (31 : Int32) ≤ nI n := nI_ge (b := 31) hn (by decide)
  have h2 : ¬ nI k ≤ (0 : Int32) := nI_ge (a := 0) z (by omega)
  have g1' : f_X3_closedWith (y ||| ((1 : Int32) <<< (nI n &&& 31))) (nI n) = some c := g1
  have r1' : rec (y ||| ((1 : Int32) <<< (nI n &&& 31))) (left - nI k) (fm - nI k) (en - nI k) (nI (d + 1)) = some r := r1
  have e1 : nI d + 1 = nI (d + 1) := nI_1 d
  have e2 : nI n + 1 = nI (n + 1) := nI_1 n
  unfold t_X1_tryOut_36 k_let
  simp only [if_neg h1, if_neg stop, q_has (show n < 32 by omega), hb, Option.bind_some, Bool.false_eq_true, if_false, if_true]
  refine (k_bs g1').trans ?_
  refine (k_bs g2).trans ?_
  simp only [hfr, if_neg h2, e1, e2, r1', Option.bind_some]
theorem try_N {rec : Int32 → Int32 → Int32 → Int32 → Int32 → Option Int32} {y left lo en best fm c r : Int32} {d n k : Nat} (hk : k ≤ 12) (hn : n < 31) (stop : ¬ en ≤ best) (hb : bt y n = false) (g1 : f_X3_closedWith (st y n) (nI n) = some c) (g2 : f_J6_bitCount_0f7a4 c = some (nI k)) (hfr : (if best < lo then lo else best) = fm) (z : k = 0) (r1 : rec (st y n) left (-en) (-fm) (nI (d + 1)) = some r) : t_X1_tryOut_36 rec y left lo (nI d) en (best, nI n) = some (.inl ((if best < -r then -r else best), nI (n + 1))) := by
  have h1 : ¬ (31 : Int32) ≤ nI n := nI_ge (b := 31) hn (by decide)
  have h2 : nI k ≤ (0 : Int32) := by rw [z]; decide
  have g1' : f_X3_closedWith (y ||| ((1 : Int32) <<< (nI n &&& 31))) (nI n) = some c := g1
  have r1' : rec (y ||| ((1 : Int32) <<< (nI n &&& 31))) left (-en) (-fm) (nI (d + 1)) = some r := r1
  have e1 : nI d + 1 = nI (d + 1) := nI_1 d
  have e2 : nI n + 1 = nI (n + 1) := nI_1 n
  unfold t_X1_tryOut_36 k_let
  simp only [if_neg h1, if_neg stop, q_has (show n < 32 by omega), hb, Option.bind_some, Bool.false_eq_true, if_false, if_true]
  refine (k_bs g1').trans ?_
  refine (k_bs g2).trans ?_
  simp only [hfr, if_pos h2, e1, e2, r1', Option.bind_some]
theorem try_S {rec : Int32 → Int32 → Int32 → Int32 → Int32 → Option Int32} {y left lo en best : Int32} {d n : Nat} (hn : n < 31) (stop : ¬ en ≤ best) (hb : bt y n = true) : t_X1_tryOut_36 rec y left lo (nI d) en (best, nI n) = some (.inl (best, nI (n + 1))) := by
  have h1 : ¬ (31 : Int32) ≤ nI n := nI_ge (b := 31) hn (by decide)
  have e2 : nI n + 1 = nI (n + 1) := nI_1 n
  have e3 : ¬ (1 : Int32) = 0 := by decide
  unfold t_X1_tryOut_36 k_let
  simp only [if_neg h1, if_neg stop, q_has (show n < 32 by omega), hb, Option.bind_some, if_true, if_neg e3, e2]
theorem try_E {rec : Int32 → Int32 → Int32 → Int32 → Int32 → Option Int32} {y left lo en best : Int32} {d n : Nat} (hn : n < 31) (stop : en ≤ best) : t_X1_tryOut_36 rec y left lo (nI d) en (best, nI n) = some (.inr (best, nI n)) := by
  have h1 : ¬ (31 : Int32) ≤ nI n := nI_ge (b := 31) hn (by decide)
  unfold t_X1_tryOut_36 k_let
  simp only [if_neg h1, if_pos stop]
theorem try_31 {rec : Int32 → Int32 → Int32 → Int32 → Int32 → Option Int32} {y left lo en best : Int32} {d : Nat} : t_X1_tryOut_36 rec y left lo (nI d) en (best, nI 31) = some (.inr (best, nI 31)) := by
  have h1 : (31 : Int32) ≤ nI 31 := by decide
  unfold t_X1_tryOut_36 k_let
  simp only [if_pos h1]
theorem q_tryOut : ∀ (nn : Nat) (y left lo hi : Int32) (d : Nat), bt y 31 = false → 31 - c31 y < nn → (31 - c31 y) + d ≤ 8 → left.toInt = 12 - (cb y : Int) → -30 ≤ lo.toInt → lo.toInt ≤ 30 → -30 ≤ hi.toInt → hi.toInt ≤ 30 → (lo.toInt < hi.toInt ∨ left.toInt ≤ lo.toInt) → ∃ r : Int32, f_X1_tryOut nn y left lo hi (nI d) = some r ∧ win r.toInt lo.toInt hi.toInt (VV y) ∧ -(12 - (cb y : Int)) ≤ r.toInt ∧ r.toInt ≤ 12 - (cb y : Int) := by
  intro nn
  induction nn with
  | zero => intro y left lo hi d _ h; omega
  | succ nn ih =>
    intro y left lo hi d h31 hnn hd hL hlo1 hlo2 hhi1 hhi2 hlh
    have hcb := cb_le y
    have hc31 := c31_le y
    have hV := VV_b y
    show ∃ r : Int32, g_X1_tryOut (f_X1_tryOut nn) y left lo hi (nI d) = some r ∧ _
    unfold g_X1_tryOut
    by_cases full : c31 y = 31
    · refine ⟨0, by rw [if_pos ((q_full h31).mpr full)], ?_, ?_⟩
      · rw [VV_full full]; exact win_eq _ _ 0
      · rw [show (0 : Int32).toInt = 0 from rfl]; omega
    · rw [if_neg (fun q => full ((q_full h31).mp q)), if_pos (show nI d < (8 : Int32) from nI_lt (b := 8) (by omega) (by decide))]
      by_cases ll : lo < left
      · rw [if_pos ll]
        have ll2 := (fa_lt _ _).mp ll
        have hlohi : lo.toInt < hi.toInt := by omega
        unfold k_let
        have hneg : (-left).toInt = -(12 - (cb y : Int)) := by rw [fb_negI (by omega), hL]
        have hen : (if hi < left then hi else left).toInt = if hi.toInt < left.toInt then hi.toInt else left.toInt := by
          by_cases c : hi < left
          · rw [if_pos c, if_pos ((fa_lt _ _).mp c)]
          · rw [if_neg c, if_neg (fun q => c ((fa_lt _ _).mpr q))]
        generalize (if hi < left then hi else left) = en at hen ⊢
        have hen2 : en.toInt ≤ 12 ∧ lo.toInt < en.toInt ∧ (en.toInt = hi.toInt ∨ en.toInt = left.toInt) ∧ en.toInt ≤ hi.toInt ∧ en.toInt ≤ left.toInt := by
          by_cases c : hi.toInt < left.toInt
          · rw [if_pos c] at hen; omega
          · rw [if_neg c] at hen; omega
        -- the loop, from a fence on
        have key : ∀ (m n : Nat) (best : Int32), m + n = 31 → win best.toInt lo.toInt en.toInt (mx0 y n) → -(12 - (cb y : Int)) ≤ best.toInt → best.toInt ≤ 12 - (cb y : Int) → ∃ (b2 z2 : Int32), (∀ N, m < N → k_loop (t_X1_tryOut_36 (f_X1_tryOut nn) y left lo (nI d) en) N (best, nI n) = some (b2, z2)) ∧ win b2.toInt lo.toInt hi.toInt (VV y) ∧ -(12 - (cb y : Int)) ≤ b2.toInt ∧ b2.toInt ≤ 12 - (cb y : Int) := by
          intro m
          induction m with
          | zero =>
            intro n best hn hw hb1 hb2
            have e : n = 31 := by omega
            subst e
            rw [mx0_all (by omega)] at hw
            refine ⟨best, nI 31, ?_, ?_, hb1, hb2⟩
            · intro N hN
              obtain ⟨N, rfl⟩ : ∃ z, N = z + 1 := ⟨N - 1, by omega⟩
              exact k_loopR try_31
            · unfold win at hw ⊢; omega
          | succ m ihm =>
            intro n best hn hw hb1 hb2
            have hn31 : n < 31 := by omega
            have hle := mx0_le y n (by omega)
            by_cases stop : en ≤ best
            · have st2 := (fa_le _ _).mp stop
              refine ⟨best, nI n, ?_, ?_, hb1, hb2⟩
              · intro N hN
                obtain ⟨N, rfl⟩ : ∃ z, N = z + 1 := ⟨N - 1, by omega⟩
                exact k_loopR (try_E hn31 stop)
              · unfold win at hw ⊢; omega
            · have st2 : best.toInt < en.toInt := by
                refine Int.not_le.mp fun q => stop ((fa_le _ _).mpr q)
              cases hb : bt y n
              · -- an open fence
                obtain ⟨c, g1, g2, -⟩ := q_gain hn31 hb
                have hcl := q_cl12 y n
                have hc1 := q_c31 hn31 hb
                have hcb1 := q_cb hn31 hb
                have hcb1' := cb_le (st y n)
                have h31' : bt (st y n) 31 = false := by rw [q_st (by omega) (by omega), h31]; simp; omega
                have hmx := mx0_succ y n
                have hfrom := fa_max best lo
                generalize hfr : (if best < lo then lo else best) = fm at hfrom
                have hfm : -12 ≤ fm.toInt ∧ fm.toInt < en.toInt ∧ lo.toInt ≤ fm.toInt ∧ best.toInt ≤ fm.toInt ∧ (fm.toInt = lo.toInt ∨ fm.toInt = best.toInt) := by
                  by_cases z : best.toInt < lo.toInt
                  · rw [if_pos z] at hfrom; omega
                  · rw [if_neg z] at hfrom; omega
                have e1 : nI d + 1 = nI (d + 1) := nI_1 d
                have hrch : ∃ R : Int32, win R.toInt fm.toInt en.toInt (mv y n) ∧ -(12 - (cb y : Int)) ≤ R.toInt ∧ R.toInt ≤ 12 - (cb y : Int) ∧ t_X1_tryOut_36 (f_X1_tryOut nn) y left lo (nI d) en (best, nI n) = some (.inl ((if best < R then R else best), nI (n + 1))) := by
                  by_cases z : 0 < cl y n
                  · have t1 : (left - nI (cl y n)).toInt = 12 - (cb (st y n) : Int) := by rw [q_sI (by omega) (by omega) (by omega)]; omega
                    have t2 : (fm - nI (cl y n)).toInt = fm.toInt - (cl y n : Int) := q_sI (by omega) (by omega) (by omega)
                    have t3 : (en - nI (cl y n)).toInt = en.toInt - (cl y n : Int) := q_sI (by omega) (by omega) (by omega)
                    obtain ⟨r, r1, r2, r3, r4⟩ := ih (st y n) (left - nI (cl y n)) (fm - nI (cl y n)) (en - nI (cl y n)) (d + 1) h31' (by omega) (by omega) t1 (by omega) (by omega) (by omega) (by omega) (Or.inl (by omega))
                    have t4 : (nI (cl y n) + r).toInt = (cl y n : Int) + r.toInt := q_aI (by omega) (by omega) (by omega)
                    have hmv : mv y n = (cl y n : Int) + VV (st y n) := by unfold mv; rw [if_pos z]
                    refine ⟨nI (cl y n) + r, ?_, by omega, by omega, ?_⟩
                    · rw [t4, hmv]; rw [t2, t3] at r2; unfold win at r2 ⊢; omega
                    · exact try_C hcl hn31 stop hb g1 g2 hfr z r1
                  · have z0 : cl y n = 0 := by omega
                    have t1 : left.toInt = 12 - (cb (st y n) : Int) := by omega
                    have t2 : (-en).toInt = -en.toInt := fb_negI (by omega)
                    have t3 : (-fm).toInt = -fm.toInt := fb_negI (by omega)
                    obtain ⟨r, r1, r2, r3, r4⟩ := ih (st y n) left (-en) (-fm) (d + 1) h31' (by omega) (by omega) t1 (by omega) (by omega) (by omega) (by omega) (Or.inl (by omega))
                    have t4 : (-r).toInt = -r.toInt := fb_negI (by omega)
                    have hmv : mv y n = - VV (st y n) := by unfold mv; rw [if_neg z]
                    refine ⟨-r, ?_, by omega, by omega, ?_⟩
                    · rw [t4, hmv]; rw [t2, t3] at r2; unfold win at r2 ⊢; omega
                    · exact try_N hcl hn31 stop hb g1 g2 hfr z0 r1
                obtain ⟨R, R1, R2, R3, R4⟩ := hrch
                have hnb := fa_max best R
                generalize (if best < R then R else best) = nb at hnb R4
                have hmx2 : mx0 y (n + 1) = if mx0 y n < mv y n then mv y n else mx0 y n := by
                  rw [hmx]
                  by_cases w : mx0 y n < mv y n
                  · rw [if_pos ⟨hb, w⟩, if_pos w]
                  · rw [if_neg (fun q => w q.2), if_neg w]
                have hwn : win nb.toInt lo.toInt en.toInt (mx0 y (n + 1)) ∧ -(12 - (cb y : Int)) ≤ nb.toInt ∧ nb.toInt ≤ 12 - (cb y : Int) := by
                  rw [hmx2]
                  unfold win at hw R1 ⊢
                  by_cases w : mx0 y n < mv y n
                  · rw [if_pos w]
                    by_cases w2 : best.toInt < R.toInt
                    · rw [if_pos w2] at hnb; omega
                    · rw [if_neg w2] at hnb; omega
                  · rw [if_neg w]
                    by_cases w2 : best.toInt < R.toInt
                    · rw [if_pos w2] at hnb; omega
                    · rw [if_neg w2] at hnb; omega
                obtain ⟨b2, z2, k1, k2, k3, k4⟩ := ihm (n + 1) nb (by omega) hwn.1 hwn.2.1 hwn.2.2
                refine ⟨b2, z2, ?_, k2, k3, k4⟩
                intro N hN
                obtain ⟨N, rfl⟩ : ∃ z, N = z + 1 := ⟨N - 1, by omega⟩
                rw [k_loopS R4]; exact k1 N (by omega)
              · have hmx : mx0 y (n + 1) = mx0 y n := by rw [mx0_succ, if_neg (fun q => by rw [hb] at q; cases q.1)]
                obtain ⟨b2, z2, k1, k2, k3, k4⟩ := ihm (n + 1) best (by omega) (by rw [hmx]; exact hw) hb1 hb2
                refine ⟨b2, z2, ?_, k2, k3, k4⟩
                intro N hN
                obtain ⟨N, rfl⟩ : ∃ z, N = z + 1 := ⟨N - 1, by omega⟩
                have hs : t_X1_tryOut_36 (f_X1_tryOut nn) y left lo (nI d) en (best, nI n) = some (.inl (best, nI (n + 1))) := try_S hn31 stop hb
                rw [k_loopS hs]; exact k1 N (by omega)
        obtain ⟨b2, z2, k1, k2, k3, k4⟩ := key 31 0 (-left) rfl (by rw [hneg]; exact win_eq _ _ _) (by omega) (by omega)
        refine ⟨b2, ?_, k2, k3, k4⟩
        show ((k_loop (t_X1_tryOut_36 (f_X1_tryOut nn) y left lo (nI d) en) 1000 (-left, nI 0)).bind _) = _
        rw [k1 1000 (by omega)]
        rfl
      · rw [if_neg ll]
        have ll2 : left.toInt ≤ lo.toInt := Int.not_lt.mp fun q => ll ((fa_lt _ _).mpr q)
        exact ⟨left, rfl, by unfold win; omega, by omega, by omega⟩
