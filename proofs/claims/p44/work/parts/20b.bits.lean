/-! Bits and counts: Integer.bitCount, one bit of a set, a loop. -/
theorem q_of (x : Int32) : ∃ n, n < 2 ^ 32 ∧ x = nI n := ⟨x.toBitVec.toNat, x.toBitVec.isLt, Int32.toBitVec_inj.mp (by show _ = BitVec.ofNat 32 _; simp)⟩
theorem q_bt {n i : Nat} (hi : i < 32) : bt (nI n) i = n.testBit i := by
  unfold bt
  show (BitVec.ofNat 32 n).getLsbD i = _
  rw [BitVec.getLsbD_ofNat]
  simp [hi]
theorem q_le {a b : Nat} (ha : a < 2 ^ 31) (hb : b < 2 ^ 31) : nI a ≤ nI b ↔ a ≤ b := by
  rw [fa_le, nI_toInt ha, nI_toInt hb]; omega
theorem q_lt {a b : Nat} (ha : a < 2 ^ 31) (hb : b < 2 ^ 31) : nI a < nI b ↔ a < b := by
  rw [fa_lt, nI_toInt ha, nI_toInt hb]; omega
theorem q_ush {n k : Nat} (hn : n < 2 ^ 32) (hk : k < 32) : ((nI n).toUInt32 >>> ((nI k).toUInt32 &&& Int32.toUInt32 31)).toInt32 = nI (n / 2 ^ k) := by
  have hs : n / 2 ^ k ≤ n := Nat.div_le_self _ _
  have hc : ∀ j, j < 32 → (UInt32.ofNat j &&& Int32.toUInt32 31).toNat % 32 = j := by decide +kernel
  have e2 : UInt32.ofNat n >>> (UInt32.ofNat k &&& Int32.toUInt32 31) = UInt32.ofNat (n / 2 ^ k) := by
    apply UInt32.toNat_inj.1
    have h1 : (UInt32.ofNat n).toNat = n := Nat.mod_eq_of_lt hn
    have h2 : (UInt32.ofNat (n / 2 ^ k)).toNat = n / 2 ^ k := Nat.mod_eq_of_lt (by omega)
    rw [UInt32.toNat_shiftRight, hc k hk, h1, h2, Nat.shiftRight_eq_div_pow]
  show (UInt32.ofNat n >>> (UInt32.ofNat k &&& Int32.toUInt32 31)).toInt32 = _
  rw [e2]
  rfl
theorem q_and8 {b r c m : Nat} (hb : b < 256) (hc : c < 256) : (b + 256 * r) &&& (c + 256 * m) = (b &&& c) + 256 * (r &&& m) := by
  have hbc : b &&& c < 256 := Nat.lt_of_le_of_lt Nat.and_le_left hb
  have T : ∀ (x y i : Nat), x < 256 → (x + 256 * y).testBit i = if i < 8 then x.testBit i else y.testBit (i - 8) := by
    intro x y i hx
    have := Nat.testBit_two_pow_mul_add y (i := 8) (b := x) (by simpa using hx) i
    rw [← this, Nat.add_comm]
  apply Nat.eq_of_testBit_eq
  intro i
  rw [Nat.testBit_and, T _ _ _ hb, T _ _ _ hc, T _ _ _ hbc]
  split
  · rw [Nat.testBit_and]
  · rw [Nat.testBit_and]
def q_c (b : Nat) : Nat := b - ((b / 2) &&& 85)
def q_d (c : Nat) : Nat := (c &&& 51) + ((c / 4) &&& 51)
theorem q_b1 : ∀ b, b < 256 → ∀ e, e < 2 → (b / 2 + 128 * e) &&& 85 = (b / 2) &&& 85 := by decide +kernel
theorem q_b2 : ∀ b, b < 256 → (b / 2) &&& 85 ≤ b := by decide +kernel
theorem q_b3 : ∀ c, c < 256 → ∀ e, e < 4 → (c / 4 + 64 * e) &&& 51 = (c / 4) &&& 51 := by decide +kernel
theorem q_b4 : ∀ b, b < 256 → q_d (q_c b) % 16 ≤ 4 ∧ q_d (q_c b) / 16 ≤ 4 := by decide +kernel
theorem q_b5 : ∀ b, b < 256 → (q_d (q_c b) % 16 + q_d (q_c b) / 16) = fb_ct (fun i => b.testBit i) 8 := by decide +kernel
theorem q_b6 : ∀ x, x < 256 → x &&& 15 = x % 16 := by decide +kernel
theorem q_m1 {b0 b1 b2 b3 : Nat} (h0 : b0 < 256) (h1 : b1 < 256) (h2 : b2 < 256) (h3 : b3 < 256) : ((b0 + 256 * (b1 + 256 * (b2 + 256 * b3))) / 2) &&& 1431655765 = ((b0 / 2) &&& 85) + 256 * (((b1 / 2) &&& 85) + 256 * (((b2 / 2) &&& 85) + 256 * ((b3 / 2) &&& 85))) := by
  rw [show (b0 + 256 * (b1 + 256 * (b2 + 256 * b3))) / 2 = (b0 / 2 + 128 * (b1 % 2)) + 256 * ((b1 / 2 + 128 * (b2 % 2)) + 256 * ((b2 / 2 + 128 * (b3 % 2)) + 256 * (b3 / 2 + 128 * 0))) by omega]
  rw [show (1431655765 : Nat) = 85 + 256 * (85 + 256 * (85 + 256 * 85)) from rfl]
  rw [q_and8 (by omega) (by omega), q_and8 (by omega) (by omega), q_and8 (by omega) (by omega), q_b1 _ h0 _ (by omega), q_b1 _ h1 _ (by omega), q_b1 _ h2 _ (by omega), q_b1 _ h3 _ (by omega)]
theorem q_m2 {b0 b1 b2 b3 : Nat} (h0 : b0 < 256) (h1 : b1 < 256) (h2 : b2 < 256) (h3 : b3 < 256) : ((b0 + 256 * (b1 + 256 * (b2 + 256 * b3))) / 4) &&& 858993459 = ((b0 / 4) &&& 51) + 256 * (((b1 / 4) &&& 51) + 256 * (((b2 / 4) &&& 51) + 256 * ((b3 / 4) &&& 51))) := by
  rw [show (b0 + 256 * (b1 + 256 * (b2 + 256 * b3))) / 4 = (b0 / 4 + 64 * (b1 % 4)) + 256 * ((b1 / 4 + 64 * (b2 % 4)) + 256 * ((b2 / 4 + 64 * (b3 % 4)) + 256 * (b3 / 4 + 64 * 0))) by omega]
  rw [show (858993459 : Nat) = 51 + 256 * (51 + 256 * (51 + 256 * 51)) from rfl]
  rw [q_and8 (by omega) (by omega), q_and8 (by omega) (by omega), q_and8 (by omega) (by omega), q_b3 _ h0 _ (by omega), q_b3 _ h1 _ (by omega), q_b3 _ h2 _ (by omega), q_b3 _ h3 _ (by omega)]
theorem q_m2' {b0 b1 b2 b3 : Nat} (h0 : b0 < 256) (h1 : b1 < 256) (h2 : b2 < 256) (h3 : b3 < 256) : (b0 + 256 * (b1 + 256 * (b2 + 256 * b3))) &&& 858993459 = (b0 &&& 51) + 256 * ((b1 &&& 51) + 256 * ((b2 &&& 51) + 256 * (b3 &&& 51))) := by
  rw [show (858993459 : Nat) = 51 + 256 * (51 + 256 * (51 + 256 * 51)) from rfl]
  rw [q_and8 (by omega) (by omega), q_and8 (by omega) (by omega), q_and8 (by omega) (by omega)]
theorem q_m3 {b0 b1 b2 b3 : Nat} (h0 : b0 < 256) (h1 : b1 < 256) (h2 : b2 < 256) (h3 : b3 < 256) : (b0 + 256 * (b1 + 256 * (b2 + 256 * b3))) &&& 252645135 = (b0 % 16) + 256 * ((b1 % 16) + 256 * ((b2 % 16) + 256 * (b3 % 16))) := by
  rw [show (252645135 : Nat) = 15 + 256 * (15 + 256 * (15 + 256 * 15)) from rfl]
  rw [q_and8 (by omega) (by omega), q_and8 (by omega) (by omega), q_and8 (by omega) (by omega), q_b6 _ h0, q_b6 _ h1, q_b6 _ h2, q_b6 _ h3]
theorem q_b7 : ∀ b, b < 256 → q_c b < 256 ∧ q_d (q_c b) < 256 := by decide +kernel
theorem q_byte {b0 r : Nat} (h0 : b0 < 256) (i : Nat) : (b0 + 256 * r).testBit i = if i < 8 then b0.testBit i else r.testBit (i - 8) := by
  have := Nat.testBit_two_pow_mul_add r (i := 8) (b := b0) (by simpa using h0) i
  rw [← this, Nat.add_comm]
theorem q_ct8 {b0 r n : Nat} (h0 : b0 < 256) : fb_ct (fun i => (b0 + 256 * r).testBit i) (8 + n) = fb_ct (fun i => b0.testBit i) 8 + fb_ct (fun i => r.testBit i) n := by
  rw [fb_ct_split]
  congr 1
  · exact fb_ct_cong fun k hk => by rw [q_byte h0, if_pos hk]
  · exact fb_ct_cong fun k hk => by rw [q_byte h0, if_neg (by omega), Nat.add_sub_cancel_left]
/-- how many bits an int has -/
def q_n (x : Int32) : Nat := fb_ct (bt x) 32
theorem q_bits {b0 b1 b2 b3 : Nat} (h0 : b0 < 256) (h1 : b1 < 256) (h2 : b2 < 256) (h3 : b3 < 256) : f_J6_bitCount_0f7a4 (nI (b0 + 256 * (b1 + 256 * (b2 + 256 * b3)))) = some (nI (fb_ct (fun i => b0.testBit i) 8 + fb_ct (fun i => b1.testBit i) 8 + fb_ct (fun i => b2.testBit i) 8 + fb_ct (fun i => b3.testBit i) 8)) := by
  have c0 := q_b7 b0 h0
  have c1 := q_b7 b1 h1
  have c2 := q_b7 b2 h2
  have c3 := q_b7 b3 h3
  have d0 := q_b4 b0 h0
  have d1 := q_b4 b1 h1
  have d2 := q_b4 b2 h2
  have d3 := q_b4 b3 h3
  rw [← q_b5 b0 h0, ← q_b5 b1 h1, ← q_b5 b2 h2, ← q_b5 b3 h3]
  have s1 : nI (b0 + 256 * (b1 + 256 * (b2 + 256 * b3))) - (((nI (b0 + 256 * (b1 + 256 * (b2 + 256 * b3)))).toUInt32 >>> ((1 : Int32).toUInt32 &&& Int32.toUInt32 31)).toInt32 &&& 1431655765) = nI (q_c b0 + 256 * (q_c b1 + 256 * (q_c b2 + 256 * q_c b3))) := by
    have e := q_ush (n := b0 + 256 * (b1 + 256 * (b2 + 256 * b3))) (k := 1) (by omega) (by omega)
    rw [show (1 : Int32) = nI 1 from rfl, e, show (1431655765 : Int32) = nI 1431655765 from rfl, fa_and, show (2 : Nat) ^ 1 = 2 from rfl, q_m1 h0 h1 h2 h3]
    have a0 := q_b2 b0 h0
    have a1 := q_b2 b1 h1
    have a2 := q_b2 b2 h2
    have a3 := q_b2 b3 h3
    unfold q_c
    rw [Int32.sub_eq_iff_eq_add, nI_add]
    congr 1
    omega
  have s2 : (nI (q_c b0 + 256 * (q_c b1 + 256 * (q_c b2 + 256 * q_c b3))) &&& 858993459) + (((nI (q_c b0 + 256 * (q_c b1 + 256 * (q_c b2 + 256 * q_c b3)))).toUInt32 >>> ((2 : Int32).toUInt32 &&& Int32.toUInt32 31)).toInt32 &&& 858993459) = nI (q_d (q_c b0) + 256 * (q_d (q_c b1) + 256 * (q_d (q_c b2) + 256 * q_d (q_c b3)))) := by
    have e := q_ush (n := q_c b0 + 256 * (q_c b1 + 256 * (q_c b2 + 256 * q_c b3))) (k := 2) (by omega) (by omega)
    rw [show (2 : Int32) = nI 2 from rfl, e, show (858993459 : Int32) = nI 858993459 from rfl, fa_and, fa_and, show (2 : Nat) ^ 2 = 4 from rfl, q_m2 c0.1 c1.1 c2.1 c3.1, q_m2' c0.1 c1.1 c2.1 c3.1, nI_add]
    unfold q_d
    congr 1
    omega
  generalize q_d (q_c b0) = d0' at *
  generalize q_d (q_c b1) = d1' at *
  generalize q_d (q_c b2) = d2' at *
  generalize q_d (q_c b3) = d3' at *
  have s3 : (nI (d0' + 256 * (d1' + 256 * (d2' + 256 * d3'))) + ((nI (d0' + 256 * (d1' + 256 * (d2' + 256 * d3')))).toUInt32 >>> ((4 : Int32).toUInt32 &&& Int32.toUInt32 31)).toInt32) &&& 252645135 = nI ((d0' % 16 + d0' / 16) + 256 * ((d1' % 16 + d1' / 16) + 256 * ((d2' % 16 + d2' / 16) + 256 * (d3' % 16 + d3' / 16)))) := by
    have e := q_ush (n := d0' + 256 * (d1' + 256 * (d2' + 256 * d3'))) (k := 4) (by omega) (by omega)
    rw [show (4 : Int32) = nI 4 from rfl, e, show (252645135 : Int32) = nI 252645135 from rfl, nI_add, fa_and, show (2 : Nat) ^ 4 = 16 from rfl]
    rw [show d0' + 256 * (d1' + 256 * (d2' + 256 * d3')) + (d0' + 256 * (d1' + 256 * (d2' + 256 * d3'))) / 16 = (d0' + d0' / 16 + 16 * (d1' % 16)) + 256 * ((d1' + d1' / 16 + 16 * (d2' % 16)) + 256 * ((d2' + d2' / 16 + 16 * (d3' % 16)) + 256 * (d3' + d3' / 16))) by omega]
    rw [q_m3 (by omega) (by omega) (by omega) (by omega)]
    have z : ∀ d f : Nat, d % 16 ≤ 4 ∧ d / 16 ≤ 4 → (d + d / 16 + 16 * f) % 16 = d % 16 + d / 16 := fun d f h => by omega
    rw [z d0' _ d0, z d1' _ d1, z d2' _ d2, show d3' + d3' / 16 = d3' + d3' / 16 + 16 * 0 from rfl, z d3' _ d3]
  unfold f_J6_bitCount_0f7a4 k_let
  dsimp only
  rw [s1, s2, s3]
  have g0 : d0' % 16 + d0' / 16 ≤ 8 := by omega
  have g1 : d1' % 16 + d1' / 16 ≤ 8 := by omega
  have g2 : d2' % 16 + d2' / 16 ≤ 8 := by omega
  have g3 : d3' % 16 + d3' / 16 ≤ 8 := by omega
  clear d0 d1 d2 d3
  generalize d0' % 16 + d0' / 16 = e0 at *
  generalize d1' % 16 + d1' / 16 = e1 at *
  generalize d2' % 16 + d2' / 16 = e2 at *
  generalize d3' % 16 + d3' / 16 = e3 at *
  have f4 : nI (e0 + 256 * (e1 + 256 * (e2 + 256 * e3))) + ((nI (e0 + 256 * (e1 + 256 * (e2 + 256 * e3)))).toUInt32 >>> ((8 : Int32).toUInt32 &&& Int32.toUInt32 31)).toInt32 = nI ((e0 + e1) + 256 * ((e1 + e2) + 256 * ((e2 + e3) + 256 * e3))) := by
    have e := q_ush (n := e0 + 256 * (e1 + 256 * (e2 + 256 * e3))) (k := 8) (by omega) (by omega)
    rw [show (8 : Int32) = nI 8 from rfl, e, nI_add, show (2 : Nat) ^ 8 = 256 from rfl]
    congr 1
    omega
  have f5 : nI ((e0 + e1) + 256 * ((e1 + e2) + 256 * ((e2 + e3) + 256 * e3))) + ((nI ((e0 + e1) + 256 * ((e1 + e2) + 256 * ((e2 + e3) + 256 * e3)))).toUInt32 >>> ((16 : Int32).toUInt32 &&& Int32.toUInt32 31)).toInt32 = nI ((e0 + e1 + e2 + e3) + 256 * ((e1 + e2 + e3) + 256 * ((e2 + e3) + 256 * e3))) := by
    have e := q_ush (n := (e0 + e1) + 256 * ((e1 + e2) + 256 * ((e2 + e3) + 256 * e3))) (k := 16) (by omega) (by omega)
    rw [show (16 : Int32) = nI 16 from rfl, e, nI_add, show (2 : Nat) ^ 16 = 65536 from rfl]
    congr 1
    omega
  rw [f4, f5, show (63 : Int32) = nI (2 ^ 6 - 1) from rfl, fa_mask]
  congr 2
  omega
theorem q_bitCount (x : Int32) : f_J6_bitCount_0f7a4 x = some (nI (q_n x)) := by
  obtain ⟨n, hn, rfl⟩ := q_of x
  have e : n = n % 256 + 256 * (n / 256 % 256 + 256 * (n / 65536 % 256 + 256 * (n / 16777216))) := by omega
  have h0 : n % 256 < 256 := by omega
  have h1 : n / 256 % 256 < 256 := by omega
  have h2 : n / 65536 % 256 < 256 := by omega
  have h3 : n / 16777216 < 256 := by omega
  have hq : q_n (nI n) = fb_ct (fun i => n.testBit i) 32 := fb_ct_cong fun k hk => q_bt hk
  rw [hq]
  generalize n % 256 = b0 at *
  generalize n / 256 % 256 = b1 at *
  generalize n / 65536 % 256 = b2 at *
  generalize n / 16777216 = b3 at *
  subst e
  rw [q_bits h0 h1 h2 h3, show (32 : Nat) = 8 + (8 + (8 + 8)) from rfl, q_ct8 h0, q_ct8 h1, q_ct8 h2]
  congr 2
  omega
theorem k_loopS {S R : Type} {step : S → Option (S ⊕ R)} {s s' : S} {n : Nat} (h : step s = some (.inl s')) : k_loop step (n + 1) s = k_loop step n s' := by
  show (step s).bind _ = _
  rw [h]; rfl
theorem k_loopR {S R : Type} {step : S → Option (S ⊕ R)} {s : S} {r : R} {n : Nat} (h : step s = some (.inr r)) : k_loop step (n + 1) s = some r := by
  show (step s).bind _ = _
  rw [h]; rfl
