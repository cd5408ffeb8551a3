def f_L_value (n1 : Int32) (u2 : Nat → Int64) : Option (Int32) :=
  if (n1 / 4) < 0 ∨ 64 ≤ (n1 / 4).toNatClampNeg then none else
  k_let (((((u2 (n1 / 4).toNatClampNeg) >>> (((16 : Int32) * (n1 - n1 / 4 * 4)).toInt64 &&& 63)) &&& 65535).toInt32) - 100) fun y2 =>
  some y2
abbrev rm_L_value : Room := { frames := 0, cells := 0, slots := 0, locals := 0 }
theorem hd_L_value : yL_value.cls ≠ "java/lang/invoke/MethodHandle" ∧ yL_value.cls ≠ "java/lang/invoke/VarHandle" ∧ (parseMethodDescriptor yL_value.desc).map (fun d => d.parameters.length) = some 2 := by decide +kernel
set_option maxHeartbeats 8000000 in
set_option maxRecDepth 100000 in
theorem c_L_value (l : Launch) (D : va_G) (cy : Nat → ClassId) (va : Nat) (u2 : Nat → Int64) (n1 : Int32) (r : Int32) (hf : f_L_value n1 u2 = some r) : k_HMet l yL_value wsL_value rm_L_value D (k_tys cy) [.ref va, .int n1] [wJ cy 64 va u2] (some (.int r)) [wJ cy 64 va u2] := by
  refine k_heapOf (cc := cL_value) (maxL := 2) (ret := (some .int)) (by decide) rfl (Nat.le_of_ble_eq_true rfl) ?_
  intro p e s m args below meth c ls A hx hb hr hlocks hml hown hts hl hA hK hP hD hN
  have hl : lv_has ls 2 [(0, .ref va), (1, .int n1)] := hl
  have hS : va_S A s.heap s.heap [] := va_S.rf
  unfold f_L_value at hf
  obtain ⟨H, eH⟩ : ∃ H, H = s.heap := ⟨_, rfl⟩
  obtain ⟨locs, elocs⟩ : ∃ L : List Loc, L = [] := ⟨_, rfl⟩
  have hP : va_P D vwCl [wJ cy 64 va u2] H := by rw [eH]; exact hP
  have hS : va_S A s.heap H locs := by rw [eH, elocs]; exact hS
  refine k_here eH elocs ?_
  refine lv_aload_n hx hb dL_value_0 rfl (lv_at hl 0 rfl) ?_
  refine lv_iload_n hx hb dL_value_1 rfl (lv_at hl 1 rfl) ?_
  refine lv_iconst (v := 4) hx hb dL_value_2 (by decide) ?_
  refine lv_idiv hx hb dL_value_3 (by decide) ?_
  obtain ⟨g1, hf⟩ := k_G hf
  refine va_lald hx hb hK hP 0 3 rfl rfl g1 dL_value_4 ?_
  refine lv_bipush (v := 16) hx hb dL_value_5 (by decide) ?_
  refine lv_iload_n hx hb dL_value_7 rfl (lv_at hl 1 rfl) ?_
  refine lv_iconst (v := 4) hx hb dL_value_8 (by decide) ?_
  refine lv_irem hx hb dL_value_9 (by decide) ?_
  refine lv_imul hx hb dL_value_10 ?_
  refine lv_lshr (v := (u2 (n1 / 4).toNatClampNeg) >>> (((16 : Int32) * (n1 - n1 / 4 * 4)).toInt64 &&& 63)) hx hb dL_value_11 rfl ?_
  refine lv_ldc2 (v := 65535) hx hb hown (hts (.constantLong RL 182 65535) (by decide +kernel)) dL_value_12 ?_
  refine lv_land hx hb dL_value_15 ?_
  refine lv_l2i hx hb dL_value_16 rfl ?_
  refine lv_bipush (v := 100) hx hb dL_value_17 (by decide) ?_
  refine lv_isub hx hb dL_value_19 ?_
  obtain ⟨y2, ey2, hf⟩ := k_L hf
  refine k_name ey2 ?_
  have hP := hP.sub (ws' := [wJ cy 64 va u2]) [0] rfl
  have hD := hD.sub (ws' := [wJ cy 64 va u2]) [0] rfl rfl
  obtain rfl := k_some hf
  exact k_iret hx hb hr hP hD hS dL_value_20 hlocks
