/-! One round keeps the relation. -/
def JInv (J : k_J) : Prop := Rel J.2.1 J.1 J.2.2.2.2.2.2.2.2.1 J.2.2.2.2.2.2.2.2.2 ∧ ∃ h : Nat, h ≤ 4 ∧ J.2.2.1 = nI h
theorem n_new {g : k_G8} {f : Int32} {rc rt : Nat → Int32} {h : Nat} (hR : Rel g f rc rt) (hh : h ≤ 4) (xs : Nat → Int32) (L : Nat) (e : Int32) (qs : k_Q4) (k0 k1 k2 k3 : k_G8) : ∃ J, q_new xs L f e g (nI h) qs k0 k1 k2 k3 rc rt = some J ∧ JInv J := by
  obtain ⟨h', qs', a, b, c, d, hh', hn⟩ := m_newGame (g := g) hh qs k0 k1 k2 k3
  refine ⟨(0, beG g, nI h', qs', a, b, c, d, clr rc 12, upd rt 0 0), ?_, rel_new hR, h', hh', rfl⟩
  unfold q_new k_let
  refine (k_bs hn).trans ?_
  refine (k_bs (p_count f)).trans ?_
  refine (if_pos (by rw [hR.1])).trans ?_
  exact (k_bs (m_clear rc)).trans rfl
theorem n_ref {g : k_G8} {f : Int32} {rc rt : Nat → Int32} {h k : Nat} (hR : Rel g f rc rt) (hh : h ≤ 4) (hk : k < 31) (hx : bt f k = true) (qs : k_Q4) (k0 k1 k2 k3 : k_G8) : ∃ J, q_ref f (nI k) g (nI h) qs k0 k1 k2 k3 rc rt = some J ∧ JInv J := by
  have e := hR.1
  refine ⟨(f, g, nI h, qs, k0, k1, k2, k3, rc, rt), ?_, hR, h, hh, rfl⟩
  unfold q_ref
  refine (k_bs (m_refuse (by rw [e]; exact hR.2.1) hk (by rw [e]; exact hx) (nI h) qs k0 k1 k2 k3)).trans ?_
  refine (if_pos rfl).trans ?_
  refine (k_bs (m_none g (nI h) qs k0 k1 k2 k3)).trans ?_
  exact if_pos rfl
theorem n_drw {g : k_G8} {f : Int32} {rc rt : Nat → Int32} {h k : Nat} (hR : Rel g f rc rt) (hh : h ≤ 4) (hk : k < 31) (hx : bt f k = false) (xs : Nat → Int32) (L : Nat) (e : Int32) (qs : k_Q4) (k0 k1 k2 k3 : k_G8) : ∃ J, q_drw xs L f e (nI k) g (nI h) qs k0 k1 k2 k3 rc rt = some J ∧ JInv J := by
  have eg := hR.1
  have h31 := hR.2.1
  have hcl := q_cl12 f k
  obtain ⟨cc, h', qs', a, b, c, d, hh', hd, hcc⟩ := m_draw (g := g) (f := k) (by rw [eg]; exact h31) hk (by rw [eg]; exact hx) hh qs k0 k1 k2 k3
  rw [eg] at hd hcc
  have rp := rel_put hR hk hx hcc
  obtain ⟨kk, hown⟩ := m_own (xs := xs) (L := L) (y := st f k) (b5 := e) (f := k) (n := cl f k) hk (by omega) rt rc
  have hown : k_loop (t_L_law_250 xs L (st f k) e (nI k) (nI (cl f k)) rt) 1000 (0, rc) = some (kk, oc f k rt rc) := hown
  have h31' : bt (st f k) 31 = false := by
    rw [q_st (by omega) (by omega), h31]
    have : ¬ 31 = k := by omega
    simp [this]
  have hcnt : f_L_count (st f k) = some (nI (c31 (st f k))) := by rw [p_count, q_n31 h31']
  have hdr : drG g k cc = if c31 (st f k) = 31 then seG (puG g k cc) else puG g k cc := by unfold drG; rw [eg]
  obtain ⟨M, hM⟩ : ∃ M, M = mr (oc f k rt rc) 12 := ⟨_, rfl⟩
  have hmore := m_more (xs := xs) (L := L) (b4 := st f k) (b5 := e) (b7 := nI k) (b8 := nI (cl f k)) (oc f k rt rc)
  rw [← hM] at hmore
  have hw : wi3 M < 5 ∧ (if M ≤ 0 then (if 0 ≤ M then some (3 : Int32) else some 2) else some 1) = some (nI (wi3 M)) := by
    unfold wi3
    by_cases p : M ≤ 0
    · rw [if_pos p, if_pos p]
      by_cases q : 0 ≤ M
      · rw [if_pos q, if_pos q]; exact ⟨by omega, rfl⟩
      · rw [if_neg q, if_neg q]; exact ⟨by omega, rfl⟩
    · rw [if_neg p, if_neg p]; exact ⟨by omega, rfl⟩
  obtain ⟨T, hT⟩ : ∃ T : Nat → Int32, T = if c31 (st f k) = 31 then upd (t1 f k rt) (wi3 M) (t1 f k rt (wi3 M) + 1) else t1 f k rt := ⟨_, rfl⟩
  refine ⟨(st f k, drG g k cc, nI h', qs', a, b, c, d, oc f k rt rc, T), ?_, ?_, h', hh', rfl⟩
  · unfold q_drw k_let
    refine (k_bs (p_close hk)).trans ?_
    refine (k_bs hown).trans ?_
    refine (k_bs (a := if cl f k = 0 then 1 - rt 0 else rt 0) ?_).trans ?_
    · by_cases p : cl f k = 0
      · rw [if_pos p, if_pos (show nI (cl f k) = 0 by rw [p]; rfl)]
      · rw [if_neg p, if_neg (nI_ne0 (by omega) (by omega))]
    refine (k_bs (a := if cl f k = 2 then 1 else 0) ?_).trans ?_
    · by_cases p : cl f k = 2
      · rw [if_pos p, if_pos (show nI (cl f k) = 2 by rw [p]; rfl)]
      · rw [if_neg p, if_neg (show ¬ nI (cl f k) = 2 from fun q => p ((nI_eq (b := 2) (by omega) (by decide)).mp q))]
    refine (k_bs hmore).trans ?_
    refine (k_bs hcnt).trans ?_
    refine (k_bs (a := T) ?_).trans ?_
    · rw [hT]
      by_cases p : c31 (st f k) = 31
      · refine (if_pos (c31_31.mpr p)).trans ?_
        rw [if_pos p]
        refine (k_bs hw.2).trans ?_
        have g1 : ¬ (nI (wi3 M) < 0 ∨ 5 ≤ (nI (wi3 M)).toNatClampNeg) := nI_in hw.1 (by decide)
        refine (if_neg g1).trans ((if_neg g1).trans ?_)
        rw [nI_clamp (show wi3 M < 2 ^ 31 by omega)]
        rfl
      · refine (if_neg fun q => p (c31_31.mp q)).trans ?_
        rw [if_neg p]
        rfl
    refine (k_bs hd).trans ?_
    exact if_pos rfl
  · show Rel (drG g k cc) (st f k) (oc f k rt rc) T
    rw [hdr, hT]
    by_cases p : c31 (st f k) = 31
    · rw [if_pos p, if_pos p, hM]
      exact rel_end rp p
    · rw [if_neg p, if_neg p]
      exact rp
theorem n_two {g : k_G8} {f : Int32} {rc rt : Nat → Int32} {h k : Nat} (hR : Rel g f rc rt) (hh : h ≤ 4) (hk : k < 31) (xs : Nat → Int32) (L : Nat) (z e : Int32) (qs : k_Q4) (k0 k1 k2 k3 : k_G8) : ∃ J, q_two xs L z f e (nI k) g (nI h) qs k0 k1 k2 k3 rc rt = some J ∧ JInv J := by
  unfold q_two
  by_cases c : (z - z / 97 * 97) = 5
  · rw [if_pos c]; exact n_new hR hh xs L e qs k0 k1 k2 k3
  · rw [if_neg c, q_bit1 (by omega)]
    cases hx : bt f k
    · rw [if_neg (by decide)]; exact n_drw hR hh hk hx xs L e qs k0 k1 k2 k3
    · rw [if_pos (by decide)]; exact n_ref hR hh hk hx qs k0 k1 k2 k3
theorem n_mid {g : k_G8} {f v : Int32} {rc rt : Nat → Int32} {h k : Nat} (hR : Rel g f rc rt) (hh : h ≤ 4) (hk : k < 31) (xs : Nat → Int32) (L : Nat) (z e : Int32) (qs : k_Q4) (k0 k1 k2 k3 : k_G8) : ∃ J, q_mid xs L z f e (nI k) v g (nI h) qs k0 k1 k2 k3 rc rt = some J ∧ JInv J := by
  unfold q_mid
  by_cases a : v = 31
  · rw [if_pos a]
    by_cases b : 0 < (z - z / 3 * 3)
    · rw [if_pos b]; exact n_new hR hh xs L e qs k0 k1 k2 k3
    · rw [if_neg b]; exact n_two hR hh hk xs L z e qs k0 k1 k2 k3
  · rw [if_neg a]; exact n_two hR hh hk xs L z e qs k0 k1 k2 k3
/-- what holds of the law's state ahead of round i -/
def SInv (i : Nat) (S : k_S) : Prop := S.2.1 = nI i ∧ Rel S.2.2.1 S.1 S.2.2.2.2.2.2.2.2.2.2.2.2.1 S.2.2.2.2.2.2.2.2.2.2.2.2.2 ∧ ∃ h : Nat, h ≤ 4 ∧ S.2.2.2.1 = nI h
theorem n_chk {J : k_J} {i : Nat} (hJ : JInv J) (es : Int32) (op fo : Nat → Int32) : ∃ S : k_S, q_chk (nI i) es op fo J = some (.inl S) ∧ SInv (i + 1) S := by
  obtain ⟨f, g, hs, qs, k0, k1, k2, k3, rc, rt⟩ := J
  obtain ⟨hR, hH⟩ := hJ
  have hR : Rel g f rc rt := hR
  have hA : f_L_areFences f g rc rt = some 1 := a_areFences hR
  have eg := hR.1
  have hC : f_L_areChains f g = some 1 := by rw [← eg]; exact r_areChains g
  obtain ⟨e2, O, F, hE⟩ := e_isEnd (g := g) (by rw [eg]; exact hR.2.1) es op fo
  rw [eg] at hE
  have h3 : ∃ (r : Int32 × (Nat → Int32) × (Nat → Int32)), (if (nI i - nI i / 9 * 9) = 8 then (f_L_isEnd f g es op fo).bind (fun v136 => if v136.1 = 0 then none else some (v136.2.1, v136.2.2.1, v136.2.2.2)) else (f_L_count f).bind fun v138 => if v138 ≤ 26 then some (es, op, fo) else (f_L_isEnd f g es op fo).bind fun v140 => if v140.1 = 0 then none else some (v140.2.1, v140.2.2.1, v140.2.2.2)) = some r := by
    by_cases c : (nI i - nI i / 9 * 9) = 8
    · rw [if_pos c]
      exact ⟨_, (k_bs hE).trans (if_neg (show ¬ (1 : Int32) = 0 by decide))⟩
    · rw [if_neg c]
      by_cases d : nI (q_n f) ≤ 26
      · exact ⟨_, (k_bs (p_count f)).trans (if_pos d)⟩
      · exact ⟨_, (k_bs (p_count f)).trans ((if_neg d).trans ((k_bs hE).trans (if_neg (show ¬ (1 : Int32) = 0 by decide))))⟩
  obtain ⟨r, hr⟩ := h3
  refine ⟨(f, nI (i + 1), g, hs, qs, k0, k1, k2, k3, r.1, r.2.1, r.2.2, rc, rt), ?_, rfl, hR, hH⟩
  unfold q_chk
  refine (k_bs (a := ()) ?_).trans ?_
  · by_cases c : (nI i - nI i / 4 * 4) = 1
    · refine (if_pos c).trans ((k_bs hA).trans ?_)
      exact if_neg (by decide)
    · exact if_neg c
  refine (k_bs (a := ()) ?_).trans ?_
  · by_cases c : (nI i - nI i / 5 * 5) = 2
    · refine (if_pos c).trans ((k_bs hC).trans ?_)
      exact if_neg (by decide)
    · exact if_neg c
  refine (k_bs hr).trans ?_
  rw [nI_1]
theorem n_step {S : k_S} {i : Nat} {xs : Nat → Int32} {L : Nat} (hL : L ≤ 260) (hi : i < 64) (h : SInv i S) : ∃ S' : k_S, t_L_law_44 xs L S = some (.inl S') ∧ SInv (i + 1) S' := by
  obtain ⟨f, e, g, hs, qs, k0, k1, k2, k3, es, op, fo, rc, rt⟩ := S
  obtain ⟨he, hR, h4, hh, hh2⟩ := h
  have he : e = nI i := he
  have hR : Rel g f rc rt := hR
  have hh2 : hs = nI h4 := hh2
  subst he hh2
  obtain ⟨v, hv⟩ := m_cell (xs := xs) hL hi
  obtain ⟨z, hz, ez⟩ : ∃ z : Nat, z < 2 ^ 31 ∧ v &&& 2147483647 = nI z := by
    obtain ⟨w, -, rfl⟩ := q_of v
    refine ⟨w % 2 ^ 31, Nat.mod_lt _ (by decide), ?_⟩
    exact fa_mask w 31
  have e31 : nI z - nI z / 31 * 31 = nI (z % 31) := pk_rem (d := 31) hz (by decide) (by decide)
  obtain ⟨f', k', hf', hp⟩ := m_pick (xs := xs) (L := L) (x := f) (b5 := nI i) (z := nI z) 31 0 (z % 31) (by omega) (Nat.mod_lt _ (by decide)) 1000 (by omega)
  obtain ⟨J, hJ, hJ2⟩ := n_mid (v := nI (q_n f)) hR hh hf' xs L (nI z) (nI i) qs k0 k1 k2 k3
  obtain ⟨S', hS, hS2⟩ := n_chk (i := i) hJ2 es op fo
  refine ⟨S', ?_, hS2⟩
  refine (q_44 xs L f (nI i) g (nI h4) qs k0 k1 k2 k3 es op fo rc rt).trans ?_
  refine (if_neg (show ¬ (64 : Int32) ≤ nI i from nI_ge (b := 64) hi (by decide))).trans ?_
  refine (k_bs hv).trans ?_
  rw [ez, e31]
  refine (k_bs hp).trans ?_
  refine (k_bs (p_count f)).trans ?_
  exact (k_bs hJ).trans hS
theorem n_loop {xs : Nat → Int32} {L : Nat} (hL : L ≤ 260) : ∀ (d i : Nat) (S : k_S), i + d = 64 → SInv i S → ∀ N, d < N → ∃ S' : k_S, k_loop (t_L_law_44 xs L) N S = some S' ∧ SInv 64 S' := by
  intro d
  induction d with
  | zero =>
    intro i S hi h N hN
    obtain ⟨N, rfl⟩ : ∃ M, N = M + 1 := ⟨N - 1, by omega⟩
    have : i = 64 := by omega
    subst this
    refine ⟨S, k_loopR ?_, h⟩
    obtain ⟨f, e, g, hs, qs, k0, k1, k2, k3, es, op, fo, rc, rt⟩ := S
    have he : e = nI 64 := h.1
    subst he
    exact (q_44 xs L f (nI 64) g hs qs k0 k1 k2 k3 es op fo rc rt).trans (if_pos (by decide))
  | succ d ih =>
    intro i S hi h N hN
    obtain ⟨N, rfl⟩ : ∃ M, N = M + 1 := ⟨N - 1, by omega⟩
    obtain ⟨S1, h1, h2⟩ := n_step (xs := xs) hL (by omega) h
    rw [k_loopS h1]
    exact ih (i + 1) S1 (by omega) h2 N (by omega)
theorem n_all (xs : Nat → Int32) {L : Nat} (hL : L ≤ 260) (qs : k_Q4) : f_L_law xs L (0, 0, 0, 0, 0, 0, 0, 0) 0 qs (0, 0, 0, 0, 0, 0, 0, 0) (0, 0, 0, 0, 0, 0, 0, 0) (0, 0, 0, 0, 0, 0, 0, 0) (0, 0, 0, 0, 0, 0, 0, 0) 0 (fun _ => 0) (fun _ => 0) (fun _ => 0) (fun _ => 0) = some 1 := by
  have hc : ∀ k, k < 12 → clr (fun _ => 0) 12 k = -1 := fun k hk => if_pos hk
  have h0 : SInv 0 ((0, 0, (0, 0, 0, 0, 0, 0, 0, 0), 0, qs, (0, 0, 0, 0, 0, 0, 0, 0), (0, 0, 0, 0, 0, 0, 0, 0), (0, 0, 0, 0, 0, 0, 0, 0), (0, 0, 0, 0, 0, 0, 0, 0), 0, (fun _ => 0), (fun _ => 0), clr (fun _ => 0) 12, (fun _ => 0)) : k_S) := by
    refine ⟨rfl, ⟨rfl, b_0 31, fun k hk => Or.inl (hc k hk), fun k hk => ?_, fun k hk => ?_, fun k _ _ => ⟨b_0 k, b_0 k⟩, fun k hk => ?_, Or.inl rfl, rfl, rfl, rfl, rfl, rfl⟩, 0, by omega, rfl⟩
    · show bt 0 k = decide (clr (fun _ => 0) 12 k = 0)
      rw [hc k hk]; exact b_0 k
    · show bt 0 k = decide (clr (fun _ => 0) 12 k = 1)
      rw [hc k hk]; exact b_0 k
    · show clr (fun _ => 0) 12 k = -1 ↔ ¬ cn 0 k = 4
      rw [hc k hk, cn_0]; exact ⟨fun _ => by omega, fun _ => rfl⟩
  obtain ⟨S, h1, h2⟩ := n_loop (xs := xs) hL 64 0 _ (by omega) h0 70 (by omega)
  unfold f_L_law
  refine (k_bs (m_clear0 (fun _ => 0))).trans ?_
  refine (k_bs h1).trans ?_
  exact (k_bs (a_areFences h2.2.1)).trans rfl
