/-! Four values in a long: the law's row of worths. -/
def vv (L : Nat → Nat) (q : Nat) : Nat := L (4 * q) + L (4 * q + 1) * 65536 + L (4 * q + 2) * 4294967296 + L (4 * q + 3) * 281474976710656
def vr (L : Nat → Nat) : Nat → Int64 := fun q => lN (vv L q)
theorem v_ix : ∀ m, m < 256 → nI m / 4 = nI (m / 4) ∧ (16 : Int32) * (nI m - nI m / 4 * 4) = nI (16 * (m % 4)) := by decide +kernel
theorem v_lt {L : Nat → Nat} (hL : ∀ i, L i < 200) (q : Nat) : vv L q < 2 ^ 62 := by
  have h0 := hL (4 * q)
  have h1 := hL (4 * q + 1)
  have h2 := hL (4 * q + 2)
  have h3 := hL (4 * q + 3)
  unfold vv
  generalize L (4 * q) = a at *
  generalize L (4 * q + 1) = b at *
  generalize L (4 * q + 2) = c at *
  generalize L (4 * q + 3) = d at *
  rw [show (2 : Nat) ^ 62 = 4611686018427387904 from rfl]
  omega
theorem v_lane {L : Nat → Nat} (hL : ∀ i, L i < 200) (m : Nat) : vv L (m / 4) / 2 ^ (16 * (m % 4)) % 65536 = L m := by
  have h0 := hL (4 * (m / 4))
  have h1 := hL (4 * (m / 4) + 1)
  have h2 := hL (4 * (m / 4) + 2)
  have h3 := hL (4 * (m / 4) + 3)
  have hm : L m = L (4 * (m / 4) + m % 4) := by congr 1; omega
  rw [hm]
  unfold vv
  rcases (show m % 4 = 0 ∨ m % 4 = 1 ∨ m % 4 = 2 ∨ m % 4 = 3 by omega) with e | e | e | e <;> rw [e]
  · rw [show 4 * (m / 4) + 0 = 4 * (m / 4) from rfl, show (2 : Nat) ^ (16 * 0) = 1 from rfl]
    generalize L (4 * (m / 4)) = a at *
    generalize L (4 * (m / 4) + 1) = b at *
    generalize L (4 * (m / 4) + 2) = c at *
    generalize L (4 * (m / 4) + 3) = d at *
    omega
  · rw [show (2 : Nat) ^ (16 * 1) = 65536 from rfl]
    generalize L (4 * (m / 4)) = a at *
    generalize L (4 * (m / 4) + 1) = b at *
    generalize L (4 * (m / 4) + 2) = c at *
    generalize L (4 * (m / 4) + 3) = d at *
    omega
  · rw [show (2 : Nat) ^ (16 * 2) = 4294967296 from rfl]
    generalize L (4 * (m / 4)) = a at *
    generalize L (4 * (m / 4) + 1) = b at *
    generalize L (4 * (m / 4) + 2) = c at *
    generalize L (4 * (m / 4) + 3) = d at *
    omega
  · rw [show (2 : Nat) ^ (16 * 3) = 281474976710656 from rfl]
    generalize L (4 * (m / 4)) = a at *
    generalize L (4 * (m / 4) + 1) = b at *
    generalize L (4 * (m / 4) + 2) = c at *
    generalize L (4 * (m / 4) + 3) = d at *
    omega
theorem v_sm {k : Nat} (hk : k < 64) : ((lN k).toBitVec.smod 64).toNat = k := by
  have h := wb_sm k hk
  have e : (lN k).toBitVec.smod 64 = BitVec.ofNat 64 k := h
  rw [e, BitVec.toNat_ofNat]
  omega
theorem v_value {L : Nat → Nat} (hL : ∀ i, L i < 200) {m : Nat} (hm : m < 256) : f_L_value (nI m) (vr L) = some (nI (L m) - 100) := by
  obtain ⟨e1, e2⟩ := v_ix m hm
  have h62 := v_lt hL (m / 4)
  unfold f_L_value k_let
  rw [e2, e1, if_neg (nI_in (c := m / 4) (N := 64) (by omega) (by decide)), nI_clamp (by omega)]
  show some ((((lN (vv L (m / 4))) >>> ((nI (16 * (m % 4))).toInt64 &&& 63)) &&& 65535).toInt32 - 100) = _
  have hq : vv L (m / 4) / 2 ^ (16 * (m % 4)) < 2 ^ 64 := Nat.lt_of_le_of_lt (Nat.div_le_self _ _) (Nat.lt_trans h62 (by decide))
  rw [wb_c _ (by omega), pf_shr (d := 16 * (m % 4)) (v_sm (by omega)) h62, show (65535 : Int64) = lN (2 ^ 16 - 1) from rfl, wb_mask hq (by decide), lN_i]
  rw [show (2 : Nat) ^ 16 = 65536 from rfl, v_lane hL]
theorem v_set {L : Nat → Nat} {m B : Nat} (hB : B < 200) (hm : m < 256) (hz : L m = 0) : vp_updL (vr L) (m / 4) (vr L (m / 4) + ((nI B).toInt64 <<< ((nI (16 * (m % 4))).toInt64 &&& 63))) = vr (fun i => if i = m then B else L i) := by
  funext q
  unfold vp_updL
  by_cases c : q = m / 4
  · subst c
    rw [if_pos rfl]
    show lN (vv L (m / 4)) + _ = lN (vv _ (m / 4))
    rw [nI_l (by omega), wb_shl _ (by omega), lN_add]
    congr 1
    have hm2 : L (4 * (m / 4) + m % 4) = 0 := by rw [← hz]; congr 1; omega
    unfold vv
    dsimp only
    rcases (show m % 4 = 0 ∨ m % 4 = 1 ∨ m % 4 = 2 ∨ m % 4 = 3 by omega) with e | e | e | e <;> rw [e] at hm2 ⊢
    · rw [show 4 * (m / 4) + 0 = 4 * (m / 4) from rfl] at hm2
      rw [show (2 : Nat) ^ (16 * 0) = 1 from rfl, if_pos (show 4 * (m / 4) = m by omega), if_neg (show ¬ 4 * (m / 4) + 1 = m by omega), if_neg (show ¬ 4 * (m / 4) + 2 = m by omega), if_neg (show ¬ 4 * (m / 4) + 3 = m by omega)]
      omega
    · rw [show (2 : Nat) ^ (16 * 1) = 65536 from rfl, if_neg (show ¬ 4 * (m / 4) = m by omega), if_pos (show 4 * (m / 4) + 1 = m by omega), if_neg (show ¬ 4 * (m / 4) + 2 = m by omega), if_neg (show ¬ 4 * (m / 4) + 3 = m by omega)]
      omega
    · rw [show (2 : Nat) ^ (16 * 2) = 4294967296 from rfl, if_neg (show ¬ 4 * (m / 4) = m by omega), if_neg (show ¬ 4 * (m / 4) + 1 = m by omega), if_pos (show 4 * (m / 4) + 2 = m by omega), if_neg (show ¬ 4 * (m / 4) + 3 = m by omega)]
      omega
    · rw [show (2 : Nat) ^ (16 * 3) = 281474976710656 from rfl, if_neg (show ¬ 4 * (m / 4) = m by omega), if_neg (show ¬ 4 * (m / 4) + 1 = m by omega), if_neg (show ¬ 4 * (m / 4) + 2 = m by omega), if_pos (show 4 * (m / 4) + 3 = m by omega)]
      omega
  · rw [if_neg c]
    show lN (vv L q) = lN (vv _ q)
    congr 1
    unfold vv
    dsimp only
    rw [if_neg (show ¬ 4 * q = m by omega), if_neg (show ¬ 4 * q + 1 = m by omega), if_neg (show ¬ 4 * q + 2 = m by omega), if_neg (show ¬ 4 * q + 3 = m by omega)]
