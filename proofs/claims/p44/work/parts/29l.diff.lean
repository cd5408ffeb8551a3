/-! The end's difference: both sides. -/
theorem cm_all {x : Int32} (h31 : bt x 31 = false) (h8 : un x 31 ≤ 8) : posP x (cm (2 ^ un x 31 - 1)) = x := pos_none h31 fun i hi => by
  show (!(2 ^ un x 31 - 1).testBit i) = false
  rw [tb_all _ h8 i hi]; rfl
theorem tb_none {x : Int32} (h31 : bt x 31 = false) : posP x (0 : Nat).testBit = x := pos_none h31 fun i _ => Nat.zero_testBit i
theorem q_difference {x : Int32} (h31 : bt x 31 = false) (h8 : un x 31 ≤ 8) {F : Nat → Int32} (hF : fok x F (2 ^ un x 31)) : ∃ v : Int32, f_X1_difference (nI (un x 31)) F = some v ∧ v.toInt = VV x := by
  have h256 := pw8 _ h8
  have hpos := pw_pos _ h8
  obtain ⟨s1, -⟩ := sh_one _ h8
  have hg := nI_in (c := 2 ^ un x 31 - 1) (N := 256) (by omega) (by decide)
  have hcl : (nI (2 ^ un x 31 - 1)).toNatClampNeg = 2 ^ un x 31 - 1 := nI_clamp (by omega)
  refine ⟨F (2 ^ un x 31 - 1), ?_, ?_⟩
  · unfold f_X1_difference
    rw [s1, if_neg hg, hcl]
  · rw [hF _ (by omega), cm_all h31 h8]
