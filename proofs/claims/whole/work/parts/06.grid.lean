def f_J6_bitCount_0f7a4 (a0 : Int32) : Option Int32 :=
  k_let (a0 - (((a0.toUInt32 >>> ((1 : Int32).toUInt32 &&& Int32.toUInt32 31)).toInt32) &&& 1431655765)) fun y1 =>
  k_let ((y1 &&& 858993459) + (((y1.toUInt32 >>> ((2 : Int32).toUInt32 &&& Int32.toUInt32 31)).toInt32) &&& 858993459)) fun y2 =>
  k_let ((y2 + ((y2.toUInt32 >>> ((4 : Int32).toUInt32 &&& Int32.toUInt32 31)).toInt32)) &&& 252645135) fun y3 =>
  k_let (y3 + ((y3.toUInt32 >>> ((8 : Int32).toUInt32 &&& Int32.toUInt32 31)).toInt32)) fun y4 =>
  k_let (y4 + ((y4.toUInt32 >>> ((16 : Int32).toUInt32 &&& Int32.toUInt32 31)).toInt32)) fun y5 =>
  some (y5 &&& 63)
abbrev rm_J6_bitCount_0f7a4 : Room := { frames := 0, cells := 0, slots := 0, locals := 0 }
theorem hd_J6_bitCount_0f7a4 : yJ6_bitCount_0f7a4.cls ≠ "java/lang/invoke/MethodHandle" ∧ yJ6_bitCount_0f7a4.cls ≠ "java/lang/invoke/VarHandle" ∧ (parseMethodDescriptor yJ6_bitCount_0f7a4.desc).map (fun d => d.parameters.length) = some 1 := by decide +kernel
set_option maxHeartbeats 4000000 in
set_option maxRecDepth 100000 in
theorem c_J6_bitCount_0f7a4 (l : Launch) (a0 : Int32) (r : Int32) (hf : f_J6_bitCount_0f7a4 a0 = some r) : k_PMet l yJ6_bitCount_0f7a4 wsJ6_bitCount_0f7a4 rm_J6_bitCount_0f7a4 [.int a0] r := by
  refine k_pureOf (cc := cJ6_bitCount_0f7a4) (maxL := 1) (ret := (some .int)) (by decide) rfl (Nat.le_of_ble_eq_true rfl) ?_
  intro p e s m args below meth c ls hx hb hr hlocks hml hown hts hl
  have hl : lv_has ls 1 [(0, .int a0)] := hl
  unfold f_J6_bitCount_0f7a4 at hf
  refine lv_iload_n hx hb dJ6_bitCount_0f7a4_0 rfl (lv_at hl 0 rfl) ?_
  refine lv_iload_n hx hb dJ6_bitCount_0f7a4_1 rfl (lv_at hl 0 rfl) ?_
  refine lv_iconst (v := 1) hx hb dJ6_bitCount_0f7a4_2 (by decide) ?_
  refine lv_iushr hx hb dJ6_bitCount_0f7a4_3 rfl ?_
  refine lv_ldcw (v := 1431655765) hx hb hown (hts (.constant RJ6 265 1431655765) (by decide +kernel)) dJ6_bitCount_0f7a4_4 ?_
  refine lv_iand hx hb dJ6_bitCount_0f7a4_7 ?_
  refine lv_isub hx hb dJ6_bitCount_0f7a4_8 ?_
  obtain ⟨y1, ey1, hf⟩ := k_L hf
  refine k_name ey1 ?_
  refine lv_istore_n (lv' := [(0, .int y1)]) hx hb dJ6_bitCount_0f7a4_9 rfl hl (by decide) rfl (fun ls hl => ?_)
  refine lv_iload_n hx hb dJ6_bitCount_0f7a4_10 rfl (lv_at hl 0 rfl) ?_
  refine lv_ldcw (v := 858993459) hx hb hown (hts (.constant RJ6 266 858993459) (by decide +kernel)) dJ6_bitCount_0f7a4_11 ?_
  refine lv_iand hx hb dJ6_bitCount_0f7a4_14 ?_
  refine lv_iload_n hx hb dJ6_bitCount_0f7a4_15 rfl (lv_at hl 0 rfl) ?_
  refine lv_iconst (v := 2) hx hb dJ6_bitCount_0f7a4_16 (by decide) ?_
  refine lv_iushr hx hb dJ6_bitCount_0f7a4_17 rfl ?_
  refine lv_ldcw (v := 858993459) hx hb hown (hts (.constant RJ6 266 858993459) (by decide +kernel)) dJ6_bitCount_0f7a4_18 ?_
  refine lv_iand hx hb dJ6_bitCount_0f7a4_21 ?_
  refine lv_iadd hx hb dJ6_bitCount_0f7a4_22 ?_
  obtain ⟨y2, ey2, hf⟩ := k_L hf
  refine k_name ey2 ?_
  refine lv_istore_n (lv' := [(0, .int y2)]) hx hb dJ6_bitCount_0f7a4_23 rfl hl (by decide) rfl (fun ls hl => ?_)
  refine lv_iload_n hx hb dJ6_bitCount_0f7a4_24 rfl (lv_at hl 0 rfl) ?_
  refine lv_iload_n hx hb dJ6_bitCount_0f7a4_25 rfl (lv_at hl 0 rfl) ?_
  refine lv_iconst (v := 4) hx hb dJ6_bitCount_0f7a4_26 (by decide) ?_
  refine lv_iushr hx hb dJ6_bitCount_0f7a4_27 rfl ?_
  refine lv_iadd hx hb dJ6_bitCount_0f7a4_28 ?_
  refine lv_ldcw (v := 252645135) hx hb hown (hts (.constant RJ6 267 252645135) (by decide +kernel)) dJ6_bitCount_0f7a4_29 ?_
  refine lv_iand hx hb dJ6_bitCount_0f7a4_32 ?_
  obtain ⟨y3, ey3, hf⟩ := k_L hf
  refine k_name ey3 ?_
  refine lv_istore_n (lv' := [(0, .int y3)]) hx hb dJ6_bitCount_0f7a4_33 rfl hl (by decide) rfl (fun ls hl => ?_)
  refine lv_iload_n hx hb dJ6_bitCount_0f7a4_34 rfl (lv_at hl 0 rfl) ?_
  refine lv_iload_n hx hb dJ6_bitCount_0f7a4_35 rfl (lv_at hl 0 rfl) ?_
  refine lv_bipush (v := 8) hx hb dJ6_bitCount_0f7a4_36 (by decide) ?_
  refine lv_iushr hx hb dJ6_bitCount_0f7a4_38 rfl ?_
  refine lv_iadd hx hb dJ6_bitCount_0f7a4_39 ?_
  obtain ⟨y4, ey4, hf⟩ := k_L hf
  refine k_name ey4 ?_
  refine lv_istore_n (lv' := [(0, .int y4)]) hx hb dJ6_bitCount_0f7a4_40 rfl hl (by decide) rfl (fun ls hl => ?_)
  refine lv_iload_n hx hb dJ6_bitCount_0f7a4_41 rfl (lv_at hl 0 rfl) ?_
  refine lv_iload_n hx hb dJ6_bitCount_0f7a4_42 rfl (lv_at hl 0 rfl) ?_
  refine lv_bipush (v := 16) hx hb dJ6_bitCount_0f7a4_43 (by decide) ?_
  refine lv_iushr hx hb dJ6_bitCount_0f7a4_45 rfl ?_
  refine lv_iadd hx hb dJ6_bitCount_0f7a4_46 ?_
  obtain ⟨y5, ey5, hf⟩ := k_L hf
  refine k_name ey5 ?_
  refine lv_istore_n (lv' := [(0, .int y5)]) hx hb dJ6_bitCount_0f7a4_47 rfl hl (by decide) rfl (fun ls hl => ?_)
  refine lv_iload_n hx hb dJ6_bitCount_0f7a4_48 rfl (lv_at hl 0 rfl) ?_
  refine lv_bipush (v := 63) hx hb dJ6_bitCount_0f7a4_49 (by decide) ?_
  refine lv_iand hx hb dJ6_bitCount_0f7a4_51 ?_
  obtain rfl := k_some hf
  exact W.iret (v := y5 &&& 63) hx hb hr (fun t ht hW => ⟨rfl, ht⟩) (fun q h => absurd h List.not_mem_nil) dJ6_bitCount_0f7a4_52
def f_X3_has (a0 : Int32) (a1 : Int32) : Option Int32 :=
  if ((a0 >>> (a1 &&& 31)) &&& 1) = 1 then
    some 1
  else
    some 0
abbrev rm_X3_has : Room := { frames := 0, cells := 0, slots := 0, locals := 0 }
theorem hd_X3_has : yX3_has.cls ≠ "java/lang/invoke/MethodHandle" ∧ yX3_has.cls ≠ "java/lang/invoke/VarHandle" ∧ (parseMethodDescriptor yX3_has.desc).map (fun d => d.parameters.length) = some 2 := by decide +kernel
set_option maxHeartbeats 4000000 in
set_option maxRecDepth 100000 in
theorem c_X3_has (l : Launch) (a0 : Int32) (a1 : Int32) (r : Int32) (hf : f_X3_has a0 a1 = some r) : k_PMet l yX3_has wsX3_has rm_X3_has [.int a0, .int a1] r := by
  refine k_pureOf (cc := cX3_has) (maxL := 2) (ret := (some .boolean)) (by decide) rfl (Nat.le_of_ble_eq_true rfl) ?_
  intro p e s m args below meth c ls hx hb hr hlocks hml hown hts hl
  have hl : lv_has ls 2 [(0, .int a0), (1, .int a1)] := hl
  unfold f_X3_has at hf
  refine lv_iload_n hx hb dX3_has_0 rfl (lv_at hl 0 rfl) ?_
  refine lv_iload_n hx hb dX3_has_1 rfl (lv_at hl 1 rfl) ?_
  refine lv_ishr hx hb dX3_has_2 ?_
  refine lv_iconst (v := 1) hx hb dX3_has_3 (by decide) ?_
  refine lv_iand hx hb dX3_has_4 ?_
  refine lv_iconst (v := 1) hx hb dX3_has_5 (by decide) ?_
  refine lv_icmp_ne (tgt := 13) hx hb dX3_has_6 (by decide) (fun c1 => ?_) (fun c1 => ?_)
  · have hf := k_F c1 hf
    refine lv_iconst (v := 0) hx hb dX3_has_13 (by decide) ?_
    obtain rfl := k_some hf
    exact W.zret (v := 0) hx hb hr rfl (fun t ht hW => ⟨rfl, ht⟩) (fun q h => absurd h List.not_mem_nil) dX3_has_14
  · have hf := k_T c1 hf
    refine lv_iconst (v := 1) hx hb dX3_has_9 (by decide) ?_
    refine lv_goto (tgt := 14) hx hb dX3_has_10 (by decide) ?_
    obtain rfl := k_some hf
    exact W.zret (v := 1) hx hb hr rfl (fun t ht hW => ⟨rfl, ht⟩) (fun q h => absurd h List.not_mem_nil) dX3_has_14
def f_X3_isWithin (a0 : Int32) (a1 : Int32) : Option Int32 :=
  if (a0 &&& (a1 ^^^ (-1))) = 0 then
    some 1
  else
    some 0
abbrev rm_X3_isWithin : Room := { frames := 0, cells := 0, slots := 0, locals := 0 }
theorem hd_X3_isWithin : yX3_isWithin.cls ≠ "java/lang/invoke/MethodHandle" ∧ yX3_isWithin.cls ≠ "java/lang/invoke/VarHandle" ∧ (parseMethodDescriptor yX3_isWithin.desc).map (fun d => d.parameters.length) = some 2 := by decide +kernel
set_option maxHeartbeats 4000000 in
set_option maxRecDepth 100000 in
theorem c_X3_isWithin (l : Launch) (a0 : Int32) (a1 : Int32) (r : Int32) (hf : f_X3_isWithin a0 a1 = some r) : k_PMet l yX3_isWithin wsX3_isWithin rm_X3_isWithin [.int a0, .int a1] r := by
  refine k_pureOf (cc := cX3_isWithin) (maxL := 2) (ret := (some .boolean)) (by decide) rfl (Nat.le_of_ble_eq_true rfl) ?_
  intro p e s m args below meth c ls hx hb hr hlocks hml hown hts hl
  have hl : lv_has ls 2 [(0, .int a0), (1, .int a1)] := hl
  unfold f_X3_isWithin at hf
  refine lv_iload_n hx hb dX3_isWithin_0 rfl (lv_at hl 0 rfl) ?_
  refine lv_iload_n hx hb dX3_isWithin_1 rfl (lv_at hl 1 rfl) ?_
  refine lv_iconst (v := (-1)) hx hb dX3_isWithin_2 (by decide) ?_
  refine lv_ixor hx hb dX3_isWithin_3 ?_
  refine lv_iand hx hb dX3_isWithin_4 ?_
  refine lv_if_ne (tgt := 12) hx hb dX3_isWithin_5 (by decide) (fun c1 => ?_) (fun c1 => ?_)
  · have hf := k_F c1 hf
    refine lv_iconst (v := 0) hx hb dX3_isWithin_12 (by decide) ?_
    obtain rfl := k_some hf
    exact W.zret (v := 0) hx hb hr rfl (fun t ht hW => ⟨rfl, ht⟩) (fun q h => absurd h List.not_mem_nil) dX3_isWithin_13
  · have hf := k_T c1 hf
    refine lv_iconst (v := 1) hx hb dX3_isWithin_8 (by decide) ?_
    refine lv_goto (tgt := 13) hx hb dX3_isWithin_9 (by decide) ?_
    obtain rfl := k_some hf
    exact W.zret (v := 1) hx hb hr rfl (fun t ht hW => ⟨rfl, ht⟩) (fun q h => absurd h List.not_mem_nil) dX3_isWithin_13
def f_X3_sides (a0 : Int32) : Option Int32 :=
  k_let ((16 + (5 * (a0 / 4))) + (a0 - a0 / 4 * 4)) fun y1 =>
  some (((1 <<< (a0 &&& 31)) ||| (1 <<< ((a0 + 4) &&& 31))) ||| (3 <<< (y1 &&& 31)))
abbrev rm_X3_sides : Room := { frames := 0, cells := 0, slots := 0, locals := 0 }
theorem hd_X3_sides : yX3_sides.cls ≠ "java/lang/invoke/MethodHandle" ∧ yX3_sides.cls ≠ "java/lang/invoke/VarHandle" ∧ (parseMethodDescriptor yX3_sides.desc).map (fun d => d.parameters.length) = some 1 := by decide +kernel
set_option maxHeartbeats 4000000 in
set_option maxRecDepth 100000 in
theorem c_X3_sides (l : Launch) (a0 : Int32) (r : Int32) (hf : f_X3_sides a0 = some r) : k_PMet l yX3_sides wsX3_sides rm_X3_sides [.int a0] r := by
  refine k_pureOf (cc := cX3_sides) (maxL := 2) (ret := (some .int)) (by decide) rfl (Nat.le_of_ble_eq_true rfl) ?_
  intro p e s m args below meth c ls hx hb hr hlocks hml hown hts hl
  have hl : lv_has ls 2 [(0, .int a0)] := hl
  unfold f_X3_sides at hf
  refine lv_bipush (v := 16) hx hb dX3_sides_0 (by decide) ?_
  refine lv_iconst (v := 5) hx hb dX3_sides_2 (by decide) ?_
  refine lv_iload_n hx hb dX3_sides_3 rfl (lv_at hl 0 rfl) ?_
  refine lv_iconst (v := 4) hx hb dX3_sides_4 (by decide) ?_
  refine lv_idiv hx hb dX3_sides_5 (by decide) ?_
  refine lv_imul hx hb dX3_sides_6 ?_
  refine lv_iadd hx hb dX3_sides_7 ?_
  refine lv_iload_n hx hb dX3_sides_8 rfl (lv_at hl 0 rfl) ?_
  refine lv_iconst (v := 4) hx hb dX3_sides_9 (by decide) ?_
  refine lv_irem hx hb dX3_sides_10 (by decide) ?_
  refine lv_iadd hx hb dX3_sides_11 ?_
  obtain ⟨y1, ey1, hf⟩ := k_L hf
  refine k_name ey1 ?_
  refine lv_istore_n (lv' := [(1, .int y1), (0, .int a0)]) hx hb dX3_sides_12 rfl hl (by decide) rfl (fun ls hl => ?_)
  refine lv_iconst (v := 1) hx hb dX3_sides_13 (by decide) ?_
  refine lv_iload_n hx hb dX3_sides_14 rfl (lv_at hl 1 rfl) ?_
  refine lv_ishl hx hb dX3_sides_15 ?_
  refine lv_iconst (v := 1) hx hb dX3_sides_16 (by decide) ?_
  refine lv_iload_n hx hb dX3_sides_17 rfl (lv_at hl 1 rfl) ?_
  refine lv_iconst (v := 4) hx hb dX3_sides_18 (by decide) ?_
  refine lv_iadd hx hb dX3_sides_19 ?_
  refine lv_ishl hx hb dX3_sides_20 ?_
  refine lv_ior hx hb dX3_sides_21 ?_
  refine lv_iconst (v := 3) hx hb dX3_sides_22 (by decide) ?_
  refine lv_iload_n hx hb dX3_sides_23 rfl (lv_at hl 0 rfl) ?_
  refine lv_ishl hx hb dX3_sides_24 ?_
  refine lv_ior hx hb dX3_sides_25 ?_
  obtain rfl := k_some hf
  exact W.iret (v := ((1 <<< (a0 &&& 31)) ||| (1 <<< ((a0 + 4) &&& 31))) ||| (3 <<< (y1 &&& 31))) hx hb hr (fun t ht hW => ⟨rfl, ht⟩) (fun q h => absurd h List.not_mem_nil) dX3_sides_26
def f_X3_boxAhead (a0 : Int32) : Option Int32 :=
  if 16 ≤ a0 then
    k_let ((a0 - 16) / 5) fun y2 =>
    k_let ((a0 - 16) - (a0 - 16) / 5 * 5) fun y3 =>
    if y3 ≤ 0 then
      some (-1)
    else
      some (((4 * y2) + y3) - 1)
  else
    if a0 < 4 then
      some (-1)
    else
      some (a0 - 4)
abbrev rm_X3_boxAhead : Room := { frames := 0, cells := 0, slots := 0, locals := 0 }
theorem hd_X3_boxAhead : yX3_boxAhead.cls ≠ "java/lang/invoke/MethodHandle" ∧ yX3_boxAhead.cls ≠ "java/lang/invoke/VarHandle" ∧ (parseMethodDescriptor yX3_boxAhead.desc).map (fun d => d.parameters.length) = some 1 := by decide +kernel
set_option maxHeartbeats 4000000 in
set_option maxRecDepth 100000 in
theorem c_X3_boxAhead (l : Launch) (a0 : Int32) (r : Int32) (hf : f_X3_boxAhead a0 = some r) : k_PMet l yX3_boxAhead wsX3_boxAhead rm_X3_boxAhead [.int a0] r := by
  refine k_pureOf (cc := cX3_boxAhead) (maxL := 3) (ret := (some .int)) (by decide) rfl (Nat.le_of_ble_eq_true rfl) ?_
  intro p e s m args below meth c ls hx hb hr hlocks hml hown hts hl
  have hl : lv_has ls 3 [(0, .int a0)] := hl
  unfold f_X3_boxAhead at hf
  refine lv_iload_n hx hb dX3_boxAhead_0 rfl (lv_at hl 0 rfl) ?_
  refine lv_bipush (v := 16) hx hb dX3_boxAhead_1 (by decide) ?_
  refine lv_icmp_ge (tgt := 19) hx hb dX3_boxAhead_3 (by decide) (fun c1 => ?_) (fun c1 => ?_)
  · have hf := k_T c1 hf
    refine lv_iload_n hx hb dX3_boxAhead_19 rfl (lv_at hl 0 rfl) ?_
    refine lv_bipush (v := 16) hx hb dX3_boxAhead_20 (by decide) ?_
    refine lv_isub hx hb dX3_boxAhead_22 ?_
    refine lv_iconst (v := 5) hx hb dX3_boxAhead_23 (by decide) ?_
    refine lv_idiv hx hb dX3_boxAhead_24 (by decide) ?_
    obtain ⟨y2, ey2, hf⟩ := k_L hf
    refine k_name ey2 ?_
    refine lv_istore_n (lv' := [(1, .int y2), (0, .int a0)]) hx hb dX3_boxAhead_25 rfl hl (by decide) rfl (fun ls hl => ?_)
    refine lv_iload_n hx hb dX3_boxAhead_26 rfl (lv_at hl 1 rfl) ?_
    refine lv_bipush (v := 16) hx hb dX3_boxAhead_27 (by decide) ?_
    refine lv_isub hx hb dX3_boxAhead_29 ?_
    refine lv_iconst (v := 5) hx hb dX3_boxAhead_30 (by decide) ?_
    refine lv_irem hx hb dX3_boxAhead_31 (by decide) ?_
    obtain ⟨y3, ey3, hf⟩ := k_L hf
    refine k_name ey3 ?_
    refine lv_istore_n (lv' := [(2, .int y3), (1, .int y2), (0, .int a0)]) hx hb dX3_boxAhead_32 rfl hl (by decide) rfl (fun ls hl => ?_)
    refine lv_iload_n hx hb dX3_boxAhead_33 rfl (lv_at hl 0 rfl) ?_
    refine lv_if_le (tgt := 47) hx hb dX3_boxAhead_34 (by decide) (fun c4 => ?_) (fun c4 => ?_)
    · have hf := k_T c4 hf
      refine lv_iconst (v := (-1)) hx hb dX3_boxAhead_47 (by decide) ?_
      obtain rfl := k_some hf
      exact W.iret (v := (-1)) hx hb hr (fun t ht hW => ⟨rfl, ht⟩) (fun q h => absurd h List.not_mem_nil) dX3_boxAhead_48
    · have hf := k_F c4 hf
      refine lv_iconst (v := 4) hx hb dX3_boxAhead_37 (by decide) ?_
      refine lv_iload_n hx hb dX3_boxAhead_38 rfl (lv_at hl 1 rfl) ?_
      refine lv_imul hx hb dX3_boxAhead_39 ?_
      refine lv_iload_n hx hb dX3_boxAhead_40 rfl (lv_at hl 0 rfl) ?_
      refine lv_iadd hx hb dX3_boxAhead_41 ?_
      refine lv_iconst (v := 1) hx hb dX3_boxAhead_42 (by decide) ?_
      refine lv_isub hx hb dX3_boxAhead_43 ?_
      refine lv_goto (tgt := 48) hx hb dX3_boxAhead_44 (by decide) ?_
      obtain rfl := k_some hf
      exact W.iret (v := ((4 * y2) + y3) - 1) hx hb hr (fun t ht hW => ⟨rfl, ht⟩) (fun q h => absurd h List.not_mem_nil) dX3_boxAhead_48
  · have hf := k_F c1 hf
    refine lv_iload_n hx hb dX3_boxAhead_6 rfl (lv_at hl 0 rfl) ?_
    refine lv_iconst (v := 4) hx hb dX3_boxAhead_7 (by decide) ?_
    refine lv_icmp_lt (tgt := 17) hx hb dX3_boxAhead_8 (by decide) (fun c5 => ?_) (fun c5 => ?_)
    · have hf := k_T c5 hf
      refine lv_iconst (v := (-1)) hx hb dX3_boxAhead_17 (by decide) ?_
      obtain rfl := k_some hf
      exact W.iret (v := (-1)) hx hb hr (fun t ht hW => ⟨rfl, ht⟩) (fun q h => absurd h List.not_mem_nil) dX3_boxAhead_18
    · have hf := k_F c5 hf
      refine lv_iload_n hx hb dX3_boxAhead_11 rfl (lv_at hl 0 rfl) ?_
      refine lv_iconst (v := 4) hx hb dX3_boxAhead_12 (by decide) ?_
      refine lv_isub hx hb dX3_boxAhead_13 ?_
      refine lv_goto (tgt := 18) hx hb dX3_boxAhead_14 (by decide) ?_
      obtain rfl := k_some hf
      exact W.iret (v := a0 - 4) hx hb hr (fun t ht hW => ⟨rfl, ht⟩) (fun q h => absurd h List.not_mem_nil) dX3_boxAhead_18
def f_X3_boxBehind (a0 : Int32) : Option Int32 :=
  if 16 ≤ a0 then
    k_let ((a0 - 16) / 5) fun y2 =>
    k_let ((a0 - 16) - (a0 - 16) / 5 * 5) fun y3 =>
    if 4 ≤ y3 then
      some (-1)
    else
      some ((4 * y2) + y3)
  else
    if 12 ≤ a0 then
      some (-1)
    else
      some a0
abbrev rm_X3_boxBehind : Room := { frames := 0, cells := 0, slots := 0, locals := 0 }
theorem hd_X3_boxBehind : yX3_boxBehind.cls ≠ "java/lang/invoke/MethodHandle" ∧ yX3_boxBehind.cls ≠ "java/lang/invoke/VarHandle" ∧ (parseMethodDescriptor yX3_boxBehind.desc).map (fun d => d.parameters.length) = some 1 := by decide +kernel
set_option maxHeartbeats 4000000 in
set_option maxRecDepth 100000 in
theorem c_X3_boxBehind (l : Launch) (a0 : Int32) (r : Int32) (hf : f_X3_boxBehind a0 = some r) : k_PMet l yX3_boxBehind wsX3_boxBehind rm_X3_boxBehind [.int a0] r := by
  refine k_pureOf (cc := cX3_boxBehind) (maxL := 3) (ret := (some .int)) (by decide) rfl (Nat.le_of_ble_eq_true rfl) ?_
  intro p e s m args below meth c ls hx hb hr hlocks hml hown hts hl
  have hl : lv_has ls 3 [(0, .int a0)] := hl
  unfold f_X3_boxBehind at hf
  refine lv_iload_n hx hb dX3_boxBehind_0 rfl (lv_at hl 0 rfl) ?_
  refine lv_bipush (v := 16) hx hb dX3_boxBehind_1 (by decide) ?_
  refine lv_icmp_ge (tgt := 18) hx hb dX3_boxBehind_3 (by decide) (fun c1 => ?_) (fun c1 => ?_)
  · have hf := k_T c1 hf
    refine lv_iload_n hx hb dX3_boxBehind_18 rfl (lv_at hl 0 rfl) ?_
    refine lv_bipush (v := 16) hx hb dX3_boxBehind_19 (by decide) ?_
    refine lv_isub hx hb dX3_boxBehind_21 ?_
    refine lv_iconst (v := 5) hx hb dX3_boxBehind_22 (by decide) ?_
    refine lv_idiv hx hb dX3_boxBehind_23 (by decide) ?_
    obtain ⟨y2, ey2, hf⟩ := k_L hf
    refine k_name ey2 ?_
    refine lv_istore_n (lv' := [(1, .int y2), (0, .int a0)]) hx hb dX3_boxBehind_24 rfl hl (by decide) rfl (fun ls hl => ?_)
    refine lv_iload_n hx hb dX3_boxBehind_25 rfl (lv_at hl 1 rfl) ?_
    refine lv_bipush (v := 16) hx hb dX3_boxBehind_26 (by decide) ?_
    refine lv_isub hx hb dX3_boxBehind_28 ?_
    refine lv_iconst (v := 5) hx hb dX3_boxBehind_29 (by decide) ?_
    refine lv_irem hx hb dX3_boxBehind_30 (by decide) ?_
    obtain ⟨y3, ey3, hf⟩ := k_L hf
    refine k_name ey3 ?_
    refine lv_istore_n (lv' := [(2, .int y3), (1, .int y2), (0, .int a0)]) hx hb dX3_boxBehind_31 rfl hl (by decide) rfl (fun ls hl => ?_)
    refine lv_iload_n hx hb dX3_boxBehind_32 rfl (lv_at hl 0 rfl) ?_
    refine lv_iconst (v := 4) hx hb dX3_boxBehind_33 (by decide) ?_
    refine lv_icmp_ge (tgt := 45) hx hb dX3_boxBehind_34 (by decide) (fun c4 => ?_) (fun c4 => ?_)
    · have hf := k_T c4 hf
      refine lv_iconst (v := (-1)) hx hb dX3_boxBehind_45 (by decide) ?_
      obtain rfl := k_some hf
      exact W.iret (v := (-1)) hx hb hr (fun t ht hW => ⟨rfl, ht⟩) (fun q h => absurd h List.not_mem_nil) dX3_boxBehind_46
    · have hf := k_F c4 hf
      refine lv_iconst (v := 4) hx hb dX3_boxBehind_37 (by decide) ?_
      refine lv_iload_n hx hb dX3_boxBehind_38 rfl (lv_at hl 1 rfl) ?_
      refine lv_imul hx hb dX3_boxBehind_39 ?_
      refine lv_iload_n hx hb dX3_boxBehind_40 rfl (lv_at hl 0 rfl) ?_
      refine lv_iadd hx hb dX3_boxBehind_41 ?_
      refine lv_goto (tgt := 46) hx hb dX3_boxBehind_42 (by decide) ?_
      obtain rfl := k_some hf
      exact W.iret (v := (4 * y2) + y3) hx hb hr (fun t ht hW => ⟨rfl, ht⟩) (fun q h => absurd h List.not_mem_nil) dX3_boxBehind_46
  · have hf := k_F c1 hf
    refine lv_iload_n hx hb dX3_boxBehind_6 rfl (lv_at hl 0 rfl) ?_
    refine lv_bipush (v := 12) hx hb dX3_boxBehind_7 (by decide) ?_
    refine lv_icmp_ge (tgt := 16) hx hb dX3_boxBehind_9 (by decide) (fun c5 => ?_) (fun c5 => ?_)
    · have hf := k_T c5 hf
      refine lv_iconst (v := (-1)) hx hb dX3_boxBehind_16 (by decide) ?_
      obtain rfl := k_some hf
      exact W.iret (v := (-1)) hx hb hr (fun t ht hW => ⟨rfl, ht⟩) (fun q h => absurd h List.not_mem_nil) dX3_boxBehind_17
    · have hf := k_F c5 hf
      refine lv_iload_n hx hb dX3_boxBehind_12 rfl (lv_at hl 0 rfl) ?_
      refine lv_goto (tgt := 17) hx hb dX3_boxBehind_13 (by decide) ?_
      obtain rfl := k_some hf
      exact W.iret (v := a0) hx hb hr (fun t ht hW => ⟨rfl, ht⟩) (fun q h => absurd h List.not_mem_nil) dX3_boxBehind_17
def f_X3_boxesBeside (a0 : Int32) : Option Int32 :=
  (f_X3_boxAhead a0).bind fun v1 =>
  (f_X3_boxBehind a0).bind fun v2 =>
  if v1 = (-1) then
    if v2 = (-1) then
      some 0
    else
      some (0 ||| (1 <<< (v2 &&& 31)))
  else
    k_let (1 <<< (v1 &&& 31)) fun y4 =>
    if v2 = (-1) then
      some y4
    else
      some (y4 ||| (1 <<< (v2 &&& 31)))
abbrev rm_X3_boxesBeside : Room := { frames := 1, cells := 0, slots := 0, locals := 22 }
theorem hd_X3_boxesBeside : yX3_boxesBeside.cls ≠ "java/lang/invoke/MethodHandle" ∧ yX3_boxesBeside.cls ≠ "java/lang/invoke/VarHandle" ∧ (parseMethodDescriptor yX3_boxesBeside.desc).map (fun d => d.parameters.length) = some 1 := by decide +kernel
set_option maxHeartbeats 4000000 in
set_option maxRecDepth 100000 in
theorem c_X3_boxesBeside (l : Launch) (a0 : Int32) (r : Int32) (hf : f_X3_boxesBeside a0 = some r) : k_PMet l yX3_boxesBeside wsX3_boxesBeside rm_X3_boxesBeside [.int a0] r := by
  refine k_pureOf (cc := cX3_boxesBeside) (maxL := 4) (ret := (some .int)) (by decide) rfl (Nat.le_of_ble_eq_true rfl) ?_
  intro p e s m args below meth c ls hx hb hr hlocks hml hown hts hl
  have hl : lv_has ls 4 [(0, .int a0)] := hl
  unfold f_X3_boxesBeside at hf
  refine lv_iload_n hx hb dX3_boxesBeside_0 rfl (lv_at hl 0 rfl) ?_
  obtain ⟨v1, hv1, hf⟩ := k_B hf
  refine k_callS (As := [.int a0]) (rest := []) ⟨hx, hb, hml, hown, hts⟩ (c_X3_boxAhead l a0 v1 hv1) (va_cwS 1 hts gX3_boxesBeside_X3_boxAhead rfl rfl rfl hd_X3_boxAhead ⟨Nat.le_of_ble_eq_true rfl, Nat.le_of_ble_eq_true rfl⟩) rfl hl.1 rfl (Nat.le_of_ble_eq_true rfl) dX3_boxesBeside_1 ⟨Nat.zero_le _, Nat.zero_le _⟩ ?_
  refine lv_istore_n (lv' := [(1, .int v1), (0, .int a0)]) hx hb dX3_boxesBeside_4 rfl hl (by decide) rfl (fun ls hl => ?_)
  refine lv_iload_n hx hb dX3_boxesBeside_5 rfl (lv_at hl 1 rfl) ?_
  obtain ⟨v2, hv2, hf⟩ := k_B hf
  refine k_callS (As := [.int a0]) (rest := []) ⟨hx, hb, hml, hown, hts⟩ (c_X3_boxBehind l a0 v2 hv2) (va_cwS 1 hts gX3_boxesBeside_X3_boxBehind rfl rfl rfl hd_X3_boxBehind ⟨Nat.le_of_ble_eq_true rfl, Nat.le_of_ble_eq_true rfl⟩) rfl hl.1 rfl (Nat.le_of_ble_eq_true rfl) dX3_boxesBeside_6 ⟨Nat.zero_le _, Nat.zero_le _⟩ ?_
  refine lv_istore_n (lv' := [(2, .int v2), (1, .int v1), (0, .int a0)]) hx hb dX3_boxesBeside_9 rfl hl (by decide) rfl (fun ls hl => ?_)
  refine lv_iload_n hx hb dX3_boxesBeside_10 rfl (lv_at hl 1 rfl) ?_
  refine lv_iconst (v := (-1)) hx hb dX3_boxesBeside_11 (by decide) ?_
  refine lv_icmp_ne (tgt := 19) hx hb dX3_boxesBeside_12 (by decide) (fun c3 => ?_) (fun c3 => ?_)
  · have hf := k_F c3 hf
    refine lv_iconst (v := 1) hx hb dX3_boxesBeside_19 (by decide) ?_
    refine lv_iload_n hx hb dX3_boxesBeside_20 rfl (lv_at hl 1 rfl) ?_
    refine lv_ishl hx hb dX3_boxesBeside_21 ?_
    obtain ⟨y4, ey4, hf⟩ := k_L hf
    refine k_name ey4 ?_
    refine lv_istore_n (lv' := [(3, .int y4), (2, .int v2), (1, .int v1), (0, .int a0)]) hx hb dX3_boxesBeside_22 rfl hl (by decide) rfl (fun ls hl => ?_)
    refine lv_iload_n hx hb dX3_boxesBeside_23 rfl (lv_at hl 1 rfl) ?_
    refine lv_iconst (v := (-1)) hx hb dX3_boxesBeside_24 (by decide) ?_
    refine lv_icmp_ne (tgt := 32) hx hb dX3_boxesBeside_25 (by decide) (fun c5 => ?_) (fun c5 => ?_)
    · have hf := k_F c5 hf
      refine lv_iload_n hx hb dX3_boxesBeside_32 rfl (lv_at hl 0 rfl) ?_
      refine lv_iconst (v := 1) hx hb dX3_boxesBeside_33 (by decide) ?_
      refine lv_iload_n hx hb dX3_boxesBeside_34 rfl (lv_at hl 1 rfl) ?_
      refine lv_ishl hx hb dX3_boxesBeside_35 ?_
      refine lv_ior hx hb dX3_boxesBeside_36 ?_
      obtain rfl := k_some hf
      exact W.iret (v := y4 ||| (1 <<< (v2 &&& 31))) hx hb hr (fun t ht hW => ⟨rfl, ht⟩) (fun q h => absurd h List.not_mem_nil) dX3_boxesBeside_37
    · have hf := k_T c5 hf
      refine lv_iload_n hx hb dX3_boxesBeside_28 rfl (lv_at hl 0 rfl) ?_
      refine lv_goto (tgt := 37) hx hb dX3_boxesBeside_29 (by decide) ?_
      obtain rfl := k_some hf
      exact W.iret (v := y4) hx hb hr (fun t ht hW => ⟨rfl, ht⟩) (fun q h => absurd h List.not_mem_nil) dX3_boxesBeside_37
  · have hf := k_T c3 hf
    refine lv_iconst (v := 0) hx hb dX3_boxesBeside_15 (by decide) ?_
    refine lv_goto (tgt := 22) hx hb dX3_boxesBeside_16 (by decide) ?_
    refine lv_istore_n (lv' := [(3, .int 0), (2, .int v2), (1, .int v1), (0, .int a0)]) hx hb dX3_boxesBeside_22 rfl hl (by decide) rfl (fun ls hl => ?_)
    refine lv_iload_n hx hb dX3_boxesBeside_23 rfl (lv_at hl 1 rfl) ?_
    refine lv_iconst (v := (-1)) hx hb dX3_boxesBeside_24 (by decide) ?_
    refine lv_icmp_ne (tgt := 32) hx hb dX3_boxesBeside_25 (by decide) (fun c6 => ?_) (fun c6 => ?_)
    · have hf := k_F c6 hf
      refine lv_iload_n hx hb dX3_boxesBeside_32 rfl (lv_at hl 0 rfl) ?_
      refine lv_iconst (v := 1) hx hb dX3_boxesBeside_33 (by decide) ?_
      refine lv_iload_n hx hb dX3_boxesBeside_34 rfl (lv_at hl 1 rfl) ?_
      refine lv_ishl hx hb dX3_boxesBeside_35 ?_
      refine lv_ior hx hb dX3_boxesBeside_36 ?_
      obtain rfl := k_some hf
      exact W.iret (v := 0 ||| (1 <<< (v2 &&& 31))) hx hb hr (fun t ht hW => ⟨rfl, ht⟩) (fun q h => absurd h List.not_mem_nil) dX3_boxesBeside_37
    · have hf := k_T c6 hf
      refine lv_iload_n hx hb dX3_boxesBeside_28 rfl (lv_at hl 0 rfl) ?_
      refine lv_goto (tgt := 37) hx hb dX3_boxesBeside_29 (by decide) ?_
      obtain rfl := k_some hf
      exact W.iret (v := 0) hx hb hr (fun t ht hW => ⟨rfl, ht⟩) (fun q h => absurd h List.not_mem_nil) dX3_boxesBeside_37
def f_X3_countSides (a0 : Int32) (a1 : Int32) : Option Int32 :=
  (f_X3_sides a1).bind fun v1 =>
  (f_J6_bitCount_0f7a4 (a0 &&& v1)).bind fun v2 =>
  some v2
abbrev rm_X3_countSides : Room := { frames := 1, cells := 0, slots := 0, locals := 21 }
theorem hd_X3_countSides : yX3_countSides.cls ≠ "java/lang/invoke/MethodHandle" ∧ yX3_countSides.cls ≠ "java/lang/invoke/VarHandle" ∧ (parseMethodDescriptor yX3_countSides.desc).map (fun d => d.parameters.length) = some 2 := by decide +kernel
set_option maxHeartbeats 4000000 in
set_option maxRecDepth 100000 in
theorem c_X3_countSides (l : Launch) (a0 : Int32) (a1 : Int32) (r : Int32) (hf : f_X3_countSides a0 a1 = some r) : k_PMet l yX3_countSides wsX3_countSides rm_X3_countSides [.int a0, .int a1] r := by
  refine k_pureOf (cc := cX3_countSides) (maxL := 2) (ret := (some .int)) (by decide) rfl (Nat.le_of_ble_eq_true rfl) ?_
  intro p e s m args below meth c ls hx hb hr hlocks hml hown hts hl
  have hl : lv_has ls 2 [(0, .int a0), (1, .int a1)] := hl
  unfold f_X3_countSides at hf
  refine lv_iload_n hx hb dX3_countSides_0 rfl (lv_at hl 0 rfl) ?_
  refine lv_iload_n hx hb dX3_countSides_1 rfl (lv_at hl 1 rfl) ?_
  obtain ⟨v1, hv1, hf⟩ := k_B hf
  refine k_callS (As := [.int a1]) (rest := [.int a0]) ⟨hx, hb, hml, hown, hts⟩ (c_X3_sides l a1 v1 hv1) (va_cwS 1 hts gX3_countSides_X3_sides rfl rfl rfl hd_X3_sides ⟨Nat.le_of_ble_eq_true rfl, Nat.le_of_ble_eq_true rfl⟩) rfl hl.1 rfl (Nat.le_of_ble_eq_true rfl) dX3_countSides_2 ⟨Nat.zero_le _, Nat.zero_le _⟩ ?_
  refine lv_iand hx hb dX3_countSides_5 ?_
  obtain ⟨v2, hv2, hf⟩ := k_B hf
  refine k_callS (As := [.int (a0 &&& v1)]) (rest := []) ⟨hx, hb, hml, hown, hts⟩ (c_J6_bitCount_0f7a4 l (a0 &&& v1) v2 hv2) (va_cwS 1 hts gX3_countSides_J6_bitCount_0f7a4 rfl rfl rfl hd_J6_bitCount_0f7a4 ⟨Nat.le_of_ble_eq_true rfl, Nat.le_of_ble_eq_true rfl⟩) rfl hl.1 rfl (Nat.le_of_ble_eq_true rfl) dX3_countSides_6 ⟨Nat.zero_le _, Nat.zero_le _⟩ ?_
  obtain rfl := k_some hf
  exact W.iret (v := v2) hx hb hr (fun t ht hW => ⟨rfl, ht⟩) (fun q h => absurd h List.not_mem_nil) dX3_countSides_9
def f_X3_isClosed (a0 : Int32) (a1 : Int32) : Option Int32 :=
  if a1 = (-1) then
    some 0
  else
    (f_X3_sides a1).bind fun v2 =>
    (f_X3_isWithin v2 a0).bind fun v3 =>
    if v3 = 0 then
      some 0
    else
      some 1
abbrev rm_X3_isClosed : Room := { frames := 1, cells := 0, slots := 0, locals := 21 }
theorem hd_X3_isClosed : yX3_isClosed.cls ≠ "java/lang/invoke/MethodHandle" ∧ yX3_isClosed.cls ≠ "java/lang/invoke/VarHandle" ∧ (parseMethodDescriptor yX3_isClosed.desc).map (fun d => d.parameters.length) = some 2 := by decide +kernel
set_option maxHeartbeats 4000000 in
set_option maxRecDepth 100000 in
theorem c_X3_isClosed (l : Launch) (a0 : Int32) (a1 : Int32) (r : Int32) (hf : f_X3_isClosed a0 a1 = some r) : k_PMet l yX3_isClosed wsX3_isClosed rm_X3_isClosed [.int a0, .int a1] r := by
  refine k_pureOf (cc := cX3_isClosed) (maxL := 2) (ret := (some .boolean)) (by decide) rfl (Nat.le_of_ble_eq_true rfl) ?_
  intro p e s m args below meth c ls hx hb hr hlocks hml hown hts hl
  have hl : lv_has ls 2 [(0, .int a0), (1, .int a1)] := hl
  unfold f_X3_isClosed at hf
  refine lv_iload_n hx hb dX3_isClosed_0 rfl (lv_at hl 1 rfl) ?_
  refine lv_iconst (v := (-1)) hx hb dX3_isClosed_1 (by decide) ?_
  refine lv_icmp_eq (tgt := 20) hx hb dX3_isClosed_2 (by decide) (fun c1 => ?_) (fun c1 => ?_)
  · have hf := k_T c1 hf
    refine lv_iconst (v := 0) hx hb dX3_isClosed_20 (by decide) ?_
    obtain rfl := k_some hf
    exact W.zret (v := 0) hx hb hr rfl (fun t ht hW => ⟨rfl, ht⟩) (fun q h => absurd h List.not_mem_nil) dX3_isClosed_21
  · have hf := k_F c1 hf
    refine lv_iload_n hx hb dX3_isClosed_5 rfl (lv_at hl 1 rfl) ?_
    obtain ⟨v2, hv2, hf⟩ := k_B hf
    refine k_callS (As := [.int a1]) (rest := []) ⟨hx, hb, hml, hown, hts⟩ (c_X3_sides l a1 v2 hv2) (va_cwS 1 hts gX3_isClosed_X3_sides rfl rfl rfl hd_X3_sides ⟨Nat.le_of_ble_eq_true rfl, Nat.le_of_ble_eq_true rfl⟩) rfl hl.1 rfl (Nat.le_of_ble_eq_true rfl) dX3_isClosed_6 ⟨Nat.zero_le _, Nat.zero_le _⟩ ?_
    refine lv_iload_n hx hb dX3_isClosed_9 rfl (lv_at hl 0 rfl) ?_
    obtain ⟨v3, hv3, hf⟩ := k_B hf
    refine k_callS (As := [.int v2, .int a0]) (rest := []) ⟨hx, hb, hml, hown, hts⟩ (c_X3_isWithin l v2 a0 v3 hv3) (va_cwS 2 hts gX3_isClosed_X3_isWithin rfl rfl rfl hd_X3_isWithin ⟨Nat.le_of_ble_eq_true rfl, Nat.le_of_ble_eq_true rfl⟩) rfl hl.1 rfl (Nat.le_of_ble_eq_true rfl) dX3_isClosed_10 ⟨Nat.zero_le _, Nat.zero_le _⟩ ?_
    refine lv_if_eq (tgt := 20) hx hb dX3_isClosed_13 (by decide) (fun c4 => ?_) (fun c4 => ?_)
    · have hf := k_T c4 hf
      refine lv_iconst (v := 0) hx hb dX3_isClosed_20 (by decide) ?_
      obtain rfl := k_some hf
      exact W.zret (v := 0) hx hb hr rfl (fun t ht hW => ⟨rfl, ht⟩) (fun q h => absurd h List.not_mem_nil) dX3_isClosed_21
    · have hf := k_F c4 hf
      refine lv_iconst (v := 1) hx hb dX3_isClosed_16 (by decide) ?_
      refine lv_goto (tgt := 21) hx hb dX3_isClosed_17 (by decide) ?_
      obtain rfl := k_some hf
      exact W.zret (v := 1) hx hb hr rfl (fun t ht hW => ⟨rfl, ht⟩) (fun q h => absurd h List.not_mem_nil) dX3_isClosed_21
def t_X3_boxesHaving_4 (b0 : Int32) (b1 : Int32) (s4 : Int32 × Int32) : Option ((Int32 × Int32) ⊕ (Int32 × Int32)) :=
  if 12 ≤ s4.2 then
    some (.inr (s4.1, s4.2))
  else
    (f_X3_countSides b0 s4.2).bind fun v2 =>
    if v2 = b1 then
      k_let (s4.1 ||| (1 <<< (s4.2 &&& 31))) fun y4 =>
      some (.inl (y4, s4.2 + 1))
    else
      some (.inl (s4.1, s4.2 + 1))
def f_X3_boxesHaving (a0 : Int32) (a1 : Int32) : Option Int32 :=
  (k_loop (t_X3_boxesHaving_4 a0 a1) 1000 (0, 0)).bind fun x5 =>
  some x5.1
abbrev rm_X3_boxesHaving : Room := { frames := 2, cells := 0, slots := 0, locals := 42 }
theorem hd_X3_boxesHaving : yX3_boxesHaving.cls ≠ "java/lang/invoke/MethodHandle" ∧ yX3_boxesHaving.cls ≠ "java/lang/invoke/VarHandle" ∧ (parseMethodDescriptor yX3_boxesHaving.desc).map (fun d => d.parameters.length) = some 2 := by decide +kernel
set_option maxHeartbeats 4000000 in
set_option maxRecDepth 100000 in
theorem c_X3_boxesHaving (l : Launch) (a0 : Int32) (a1 : Int32) (r : Int32) (hf : f_X3_boxesHaving a0 a1 = some r) : k_PMet l yX3_boxesHaving wsX3_boxesHaving rm_X3_boxesHaving [.int a0, .int a1] r := by
  refine k_pureOf (cc := cX3_boxesHaving) (maxL := 4) (ret := (some .int)) (by decide) rfl (Nat.le_of_ble_eq_true rfl) ?_
  intro p e s m args below meth c ls hx hb hr hlocks hml hown hts hl
  have hl : lv_has ls 4 [(0, .int a0), (1, .int a1)] := hl
  have L4 : ∀ (Q : State → Prop) (n : Nat) (b0 : Int32) (b1 : Int32) (s4 : Int32 × Int32) (q : (Int32 × Int32)), k_loop (t_X3_boxesHaving_4 b0 b1) n s4 = some q → ∀ (ls : Array Slot), lv_has ls 4 [(0, .int b0), (1, .int b1), (2, .int s4.1), (3, .int s4.2)] → (∀ (ls : Array Slot), True → lv_has ls 4 [(2, .int q.1)] → W p l e rm_X3_boxesHaving s m args below meth c s.heap [] 0 0 Q (F0 m 31 ls [])) → W p l e rm_X3_boxesHaving s m args below meth c s.heap [] 0 0 Q (F0 m 4 ls []) := by
    intro Q n
    induction n with
    | zero =>
      intro b0 b1 s4 q hq
      exact (k_loop0 hq).elim
    | succ n ih =>
      intro b0 b1 s4 q hq ls hl kx 
      obtain ⟨x, hf, hq⟩ := k_loopE hq
      unfold t_X3_boxesHaving_4 at hf
      refine lv_iload_n hx hb dX3_boxesHaving_4 rfl (lv_at hl 3 rfl) ?_
      refine lv_bipush (v := 12) hx hb dX3_boxesHaving_5 (by decide) ?_
      refine lv_icmp_ge (tgt := 31) hx hb dX3_boxesHaving_7 (by decide) (fun c1 => ?_) (fun c1 => ?_)
      · have hf := k_T c1 hf
        obtain rfl := k_some hf
        obtain rfl := k_some (k_inr hq)
        exact kx ls trivial (lv_sub hl [2] rfl)
      · have hf := k_F c1 hf
        refine lv_iload_n hx hb dX3_boxesHaving_10 rfl (lv_at hl 0 rfl) ?_
        refine lv_iload_n hx hb dX3_boxesHaving_11 rfl (lv_at hl 3 rfl) ?_
        obtain ⟨v2, hv2, hf⟩ := k_B hf
        refine k_callS (As := [.int b0, .int s4.2]) (rest := []) ⟨hx, hb, hml, hown, hts⟩ (c_X3_countSides l b0 s4.2 v2 hv2) (va_cwS 2 hts gX3_boxesHaving_X3_countSides rfl rfl rfl hd_X3_countSides ⟨Nat.le_of_ble_eq_true rfl, Nat.le_of_ble_eq_true rfl⟩) rfl hl.1 rfl (Nat.le_of_ble_eq_true rfl) dX3_boxesHaving_12 ⟨Nat.zero_le _, Nat.zero_le _⟩ ?_
        refine lv_iload_n hx hb dX3_boxesHaving_15 rfl (lv_at hl 1 rfl) ?_
        refine lv_icmp_ne (tgt := 25) hx hb dX3_boxesHaving_16 (by decide) (fun c3 => ?_) (fun c3 => ?_)
        · have hf := k_F c3 hf
          refine lv_iinc (v := s4.2 + 1) (lv' := [(3, .int (s4.2 + 1)), (0, .int b0), (1, .int b1), (2, .int s4.1)]) hx hb dX3_boxesHaving_25 hl (k := 3) rfl rfl (by decide) rfl (fun ls hl => ?_)
          refine lv_goto (tgt := 4) hx hb dX3_boxesHaving_28 (by decide) ?_
          obtain rfl := k_some hf
          exact ih b0 b1 (s4.1, s4.2 + 1) q (k_inl hq) ls (lv_sub hl [1, 2, 3, 0] rfl) kx 
        · have hf := k_T c3 hf
          refine lv_iload_n hx hb dX3_boxesHaving_19 rfl (lv_at hl 2 rfl) ?_
          refine lv_iconst (v := 1) hx hb dX3_boxesHaving_20 (by decide) ?_
          refine lv_iload_n hx hb dX3_boxesHaving_21 rfl (lv_at hl 3 rfl) ?_
          refine lv_ishl hx hb dX3_boxesHaving_22 ?_
          refine lv_ior hx hb dX3_boxesHaving_23 ?_
          obtain ⟨y4, ey4, hf⟩ := k_L hf
          refine k_name ey4 ?_
          refine lv_istore_n (lv' := [(2, .int y4), (0, .int b0), (1, .int b1), (3, .int s4.2)]) hx hb dX3_boxesHaving_24 rfl hl (by decide) rfl (fun ls hl => ?_)
          refine lv_iinc (v := s4.2 + 1) (lv' := [(3, .int (s4.2 + 1)), (2, .int y4), (0, .int b0), (1, .int b1)]) hx hb dX3_boxesHaving_25 hl (k := 3) rfl rfl (by decide) rfl (fun ls hl => ?_)
          refine lv_goto (tgt := 4) hx hb dX3_boxesHaving_28 (by decide) ?_
          obtain rfl := k_some hf
          exact ih b0 b1 (y4, s4.2 + 1) q (k_inl hq) ls (lv_sub hl [2, 3, 1, 0] rfl) kx 
  unfold f_X3_boxesHaving at hf
  refine lv_iconst (v := 0) hx hb dX3_boxesHaving_0 (by decide) ?_
  refine lv_istore_n (lv' := [(2, .int 0), (0, .int a0), (1, .int a1)]) hx hb dX3_boxesHaving_1 rfl hl (by decide) rfl (fun ls hl => ?_)
  refine lv_iconst (v := 0) hx hb dX3_boxesHaving_2 (by decide) ?_
  refine lv_istore_n (lv' := [(3, .int 0), (2, .int 0), (0, .int a0), (1, .int a1)]) hx hb dX3_boxesHaving_3 rfl hl (by decide) rfl (fun ls hl => ?_)
  obtain ⟨x5, hx5, hf⟩ := k_B hf
  refine L4 _ 1000 a0 a1 (0, 0) x5 hx5 ls (lv_sub hl [2, 3, 1, 0] rfl) ?_
  · intro ls _ hl
    refine lv_iload_n hx hb dX3_boxesHaving_31 rfl (lv_at hl 0 rfl) ?_
    obtain rfl := k_some hf
    exact W.iret (v := x5.1) hx hb hr (fun t ht hW => ⟨rfl, ht⟩) (fun q h => absurd h List.not_mem_nil) dX3_boxesHaving_32
def f_X3_closedWith (a0 : Int32) (a1 : Int32) : Option Int32 :=
  (f_X3_boxAhead a1).bind fun v1 =>
  (f_X3_boxBehind a1).bind fun v2 =>
  (f_X3_isClosed a0 v1).bind fun v3 =>
  if v3 = 0 then
    (f_X3_isClosed a0 v2).bind fun v5 =>
    if v5 = 0 then
      some 0
    else
      some (0 ||| (1 <<< (v2 &&& 31)))
  else
    k_let (1 <<< (v1 &&& 31)) fun y7 =>
    (f_X3_isClosed a0 v2).bind fun v8 =>
    if v8 = 0 then
      some y7
    else
      some (y7 ||| (1 <<< (v2 &&& 31)))
abbrev rm_X3_closedWith : Room := { frames := 2, cells := 0, slots := 0, locals := 42 }
theorem hd_X3_closedWith : yX3_closedWith.cls ≠ "java/lang/invoke/MethodHandle" ∧ yX3_closedWith.cls ≠ "java/lang/invoke/VarHandle" ∧ (parseMethodDescriptor yX3_closedWith.desc).map (fun d => d.parameters.length) = some 2 := by decide +kernel
set_option maxHeartbeats 4000000 in
set_option maxRecDepth 100000 in
theorem c_X3_closedWith (l : Launch) (a0 : Int32) (a1 : Int32) (r : Int32) (hf : f_X3_closedWith a0 a1 = some r) : k_PMet l yX3_closedWith wsX3_closedWith rm_X3_closedWith [.int a0, .int a1] r := by
  refine k_pureOf (cc := cX3_closedWith) (maxL := 5) (ret := (some .int)) (by decide) rfl (Nat.le_of_ble_eq_true rfl) ?_
  intro p e s m args below meth c ls hx hb hr hlocks hml hown hts hl
  have hl : lv_has ls 5 [(0, .int a0), (1, .int a1)] := hl
  unfold f_X3_closedWith at hf
  refine lv_iload_n hx hb dX3_closedWith_0 rfl (lv_at hl 1 rfl) ?_
  obtain ⟨v1, hv1, hf⟩ := k_B hf
  refine k_callS (As := [.int a1]) (rest := []) ⟨hx, hb, hml, hown, hts⟩ (c_X3_boxAhead l a1 v1 hv1) (va_cwS 1 hts gX3_closedWith_X3_boxAhead rfl rfl rfl hd_X3_boxAhead ⟨Nat.le_of_ble_eq_true rfl, Nat.le_of_ble_eq_true rfl⟩) rfl hl.1 rfl (Nat.le_of_ble_eq_true rfl) dX3_closedWith_1 ⟨Nat.zero_le _, Nat.zero_le _⟩ ?_
  refine lv_istore_n (lv' := [(2, .int v1), (0, .int a0), (1, .int a1)]) hx hb dX3_closedWith_4 rfl hl (by decide) rfl (fun ls hl => ?_)
  refine lv_iload_n hx hb dX3_closedWith_5 rfl (lv_at hl 2 rfl) ?_
  obtain ⟨v2, hv2, hf⟩ := k_B hf
  refine k_callS (As := [.int a1]) (rest := []) ⟨hx, hb, hml, hown, hts⟩ (c_X3_boxBehind l a1 v2 hv2) (va_cwS 1 hts gX3_closedWith_X3_boxBehind rfl rfl rfl hd_X3_boxBehind ⟨Nat.le_of_ble_eq_true rfl, Nat.le_of_ble_eq_true rfl⟩) rfl hl.1 rfl (Nat.le_of_ble_eq_true rfl) dX3_closedWith_6 ⟨Nat.zero_le _, Nat.zero_le _⟩ ?_
  refine lv_istore_n (lv' := [(3, .int v2), (2, .int v1), (0, .int a0), (1, .int a1)]) hx hb dX3_closedWith_9 rfl hl (by decide) rfl (fun ls hl => ?_)
  refine lv_iload_n hx hb dX3_closedWith_10 rfl (lv_at hl 2 rfl) ?_
  refine lv_iload_n hx hb dX3_closedWith_11 rfl (lv_at hl 1 rfl) ?_
  obtain ⟨v3, hv3, hf⟩ := k_B hf
  refine k_callS (As := [.int a0, .int v1]) (rest := []) ⟨hx, hb, hml, hown, hts⟩ (c_X3_isClosed l a0 v1 v3 hv3) (va_cwS 2 hts gX3_closedWith_X3_isClosed rfl rfl rfl hd_X3_isClosed ⟨Nat.le_of_ble_eq_true rfl, Nat.le_of_ble_eq_true rfl⟩) rfl hl.1 rfl (Nat.le_of_ble_eq_true rfl) dX3_closedWith_12 ⟨Nat.zero_le _, Nat.zero_le _⟩ ?_
  refine lv_if_eq (tgt := 24) hx hb dX3_closedWith_15 (by decide) (fun c4 => ?_) (fun c4 => ?_)
  · have hf := k_T c4 hf
    refine lv_iconst (v := 0) hx hb dX3_closedWith_24 (by decide) ?_
    refine lv_istore (lv' := [(4, .int 0), (3, .int v2), (2, .int v1), (0, .int a0), (1, .int a1)]) hx hb dX3_closedWith_25 hl (by decide) rfl (fun ls hl => ?_)
    refine lv_iload_n hx hb dX3_closedWith_27 rfl (lv_at hl 3 rfl) ?_
    refine lv_iload_n hx hb dX3_closedWith_28 rfl (lv_at hl 1 rfl) ?_
    obtain ⟨v5, hv5, hf⟩ := k_B hf
    refine k_callS (As := [.int a0, .int v2]) (rest := []) ⟨hx, hb, hml, hown, hts⟩ (c_X3_isClosed l a0 v2 v5 hv5) (va_cwS 2 hts gX3_closedWith_X3_isClosed rfl rfl rfl hd_X3_isClosed ⟨Nat.le_of_ble_eq_true rfl, Nat.le_of_ble_eq_true rfl⟩) rfl hl.1 rfl (Nat.le_of_ble_eq_true rfl) dX3_closedWith_29 ⟨Nat.zero_le _, Nat.zero_le _⟩ ?_
    refine lv_if_eq (tgt := 44) hx hb dX3_closedWith_32 (by decide) (fun c6 => ?_) (fun c6 => ?_)
    · have hf := k_T c6 hf
      refine lv_iload hx hb dX3_closedWith_44 (lv_at hl 0 rfl) ?_
      obtain rfl := k_some hf
      exact W.iret (v := 0) hx hb hr (fun t ht hW => ⟨rfl, ht⟩) (fun q h => absurd h List.not_mem_nil) dX3_closedWith_46
    · have hf := k_F c6 hf
      refine lv_iload hx hb dX3_closedWith_35 (lv_at hl 0 rfl) ?_
      refine lv_iconst (v := 1) hx hb dX3_closedWith_37 (by decide) ?_
      refine lv_iload_n hx hb dX3_closedWith_38 rfl (lv_at hl 1 rfl) ?_
      refine lv_ishl hx hb dX3_closedWith_39 ?_
      refine lv_ior hx hb dX3_closedWith_40 ?_
      refine lv_goto (tgt := 46) hx hb dX3_closedWith_41 (by decide) ?_
      obtain rfl := k_some hf
      exact W.iret (v := 0 ||| (1 <<< (v2 &&& 31))) hx hb hr (fun t ht hW => ⟨rfl, ht⟩) (fun q h => absurd h List.not_mem_nil) dX3_closedWith_46
  · have hf := k_F c4 hf
    refine lv_iconst (v := 1) hx hb dX3_closedWith_18 (by decide) ?_
    refine lv_iload_n hx hb dX3_closedWith_19 rfl (lv_at hl 1 rfl) ?_
    refine lv_ishl hx hb dX3_closedWith_20 ?_
    refine lv_goto (tgt := 25) hx hb dX3_closedWith_21 (by decide) ?_
    obtain ⟨y7, ey7, hf⟩ := k_L hf
    refine k_name ey7 ?_
    refine lv_istore (lv' := [(4, .int y7), (3, .int v2), (2, .int v1), (0, .int a0), (1, .int a1)]) hx hb dX3_closedWith_25 hl (by decide) rfl (fun ls hl => ?_)
    refine lv_iload_n hx hb dX3_closedWith_27 rfl (lv_at hl 3 rfl) ?_
    refine lv_iload_n hx hb dX3_closedWith_28 rfl (lv_at hl 1 rfl) ?_
    obtain ⟨v8, hv8, hf⟩ := k_B hf
    refine k_callS (As := [.int a0, .int v2]) (rest := []) ⟨hx, hb, hml, hown, hts⟩ (c_X3_isClosed l a0 v2 v8 hv8) (va_cwS 2 hts gX3_closedWith_X3_isClosed rfl rfl rfl hd_X3_isClosed ⟨Nat.le_of_ble_eq_true rfl, Nat.le_of_ble_eq_true rfl⟩) rfl hl.1 rfl (Nat.le_of_ble_eq_true rfl) dX3_closedWith_29 ⟨Nat.zero_le _, Nat.zero_le _⟩ ?_
    refine lv_if_eq (tgt := 44) hx hb dX3_closedWith_32 (by decide) (fun c9 => ?_) (fun c9 => ?_)
    · have hf := k_T c9 hf
      refine lv_iload hx hb dX3_closedWith_44 (lv_at hl 0 rfl) ?_
      obtain rfl := k_some hf
      exact W.iret (v := y7) hx hb hr (fun t ht hW => ⟨rfl, ht⟩) (fun q h => absurd h List.not_mem_nil) dX3_closedWith_46
    · have hf := k_F c9 hf
      refine lv_iload hx hb dX3_closedWith_35 (lv_at hl 0 rfl) ?_
      refine lv_iconst (v := 1) hx hb dX3_closedWith_37 (by decide) ?_
      refine lv_iload_n hx hb dX3_closedWith_38 rfl (lv_at hl 1 rfl) ?_
      refine lv_ishl hx hb dX3_closedWith_39 ?_
      refine lv_ior hx hb dX3_closedWith_40 ?_
      refine lv_goto (tgt := 46) hx hb dX3_closedWith_41 (by decide) ?_
      obtain rfl := k_some hf
      exact W.iret (v := y7 ||| (1 <<< (v2 &&& 31))) hx hb hr (fun t ht hW => ⟨rfl, ht⟩) (fun q h => absurd h List.not_mem_nil) dX3_closedWith_46
def t_X3_lowestFence_2 (b0 : Int32) (s2 : Int32) : Option ((Int32) ⊕ ((Int32) ⊕ Int32)) :=
  if 31 ≤ s2 then
    some (.inr (.inl s2))
  else
    (f_X3_has b0 s2).bind fun v2 =>
    if v2 = 0 then
      some (.inl (s2 + 1))
    else
      some (.inr (.inr s2))
def f_X3_lowestFence (a0 : Int32) : Option Int32 :=
  (k_loop (t_X3_lowestFence_2 a0) 1000 0).bind fun x4 =>
  Sum.elim (fun z5 =>
    some (-1)
  ) (fun r6 => some r6) x4
abbrev rm_X3_lowestFence : Room := { frames := 1, cells := 0, slots := 0, locals := 21 }
theorem hd_X3_lowestFence : yX3_lowestFence.cls ≠ "java/lang/invoke/MethodHandle" ∧ yX3_lowestFence.cls ≠ "java/lang/invoke/VarHandle" ∧ (parseMethodDescriptor yX3_lowestFence.desc).map (fun d => d.parameters.length) = some 1 := by decide +kernel
set_option maxHeartbeats 4000000 in
set_option maxRecDepth 100000 in
theorem c_X3_lowestFence (l : Launch) (a0 : Int32) (r : Int32) (hf : f_X3_lowestFence a0 = some r) : k_PMet l yX3_lowestFence wsX3_lowestFence rm_X3_lowestFence [.int a0] r := by
  refine k_pureOf (cc := cX3_lowestFence) (maxL := 2) (ret := (some .int)) (by decide) rfl (Nat.le_of_ble_eq_true rfl) ?_
  intro p e s m args below meth c ls hx hb hr hlocks hml hown hts hl
  have hl : lv_has ls 2 [(0, .int a0)] := hl
  have L2 : ∀ (Q : State → Prop) (n : Nat) (b0 : Int32) (s2 : Int32) (q : ((Int32) ⊕ Int32)), k_loop (t_X3_lowestFence_2 b0) n s2 = some q → ∀ (ls : Array Slot), lv_has ls 2 [(0, .int b0), (1, .int s2)] → (∀ (ls : Array Slot) (x : Int32), q = .inl x → lv_has ls 2 [] → W p l e rm_X3_lowestFence s m args below meth c s.heap [] 0 0 Q (F0 m 24 ls [])) → (∀ (ls : Array Slot) (rr : Int32), q = .inr rr → ls.size = 2 → W p l e rm_X3_lowestFence s m args below meth c s.heap [] 0 0 Q (F0 m 17 ls [.int rr])) → W p l e rm_X3_lowestFence s m args below meth c s.heap [] 0 0 Q (F0 m 2 ls []) := by
    intro Q n
    induction n with
    | zero =>
      intro b0 s2 q hq
      exact (k_loop0 hq).elim
    | succ n ih =>
      intro b0 s2 q hq ls hl kx kr17
      obtain ⟨x, hf, hq⟩ := k_loopE hq
      unfold t_X3_lowestFence_2 at hf
      refine lv_iload_n hx hb dX3_lowestFence_2 rfl (lv_at hl 1 rfl) ?_
      refine lv_bipush (v := 31) hx hb dX3_lowestFence_3 (by decide) ?_
      refine lv_icmp_ge (tgt := 24) hx hb dX3_lowestFence_5 (by decide) (fun c1 => ?_) (fun c1 => ?_)
      · have hf := k_T c1 hf
        obtain rfl := k_some hf
        obtain rfl := k_some (k_inr hq)
        exact kx ls s2 rfl (lv_sub hl [] rfl)
      · have hf := k_F c1 hf
        refine lv_iload_n hx hb dX3_lowestFence_8 rfl (lv_at hl 0 rfl) ?_
        refine lv_iload_n hx hb dX3_lowestFence_9 rfl (lv_at hl 1 rfl) ?_
        obtain ⟨v2, hv2, hf⟩ := k_B hf
        refine k_callS (As := [.int b0, .int s2]) (rest := []) ⟨hx, hb, hml, hown, hts⟩ (c_X3_has l b0 s2 v2 hv2) (va_cwS 2 hts gX3_lowestFence_X3_has rfl rfl rfl hd_X3_has ⟨Nat.le_of_ble_eq_true rfl, Nat.le_of_ble_eq_true rfl⟩) rfl hl.1 rfl (Nat.le_of_ble_eq_true rfl) dX3_lowestFence_10 ⟨Nat.zero_le _, Nat.zero_le _⟩ ?_
        refine lv_if_eq (tgt := 18) hx hb dX3_lowestFence_13 (by decide) (fun c3 => ?_) (fun c3 => ?_)
        · have hf := k_T c3 hf
          refine lv_iinc (v := s2 + 1) (lv' := [(1, .int (s2 + 1)), (0, .int b0)]) hx hb dX3_lowestFence_18 hl (k := 1) rfl rfl (by decide) rfl (fun ls hl => ?_)
          refine lv_goto (tgt := 2) hx hb dX3_lowestFence_21 (by decide) ?_
          obtain rfl := k_some hf
          exact ih b0 (s2 + 1) q (k_inl hq) ls (lv_sub hl [1, 0] rfl) kx kr17
        · have hf := k_F c3 hf
          refine lv_iload_n hx hb dX3_lowestFence_16 rfl (lv_at hl 1 rfl) ?_
          obtain rfl := k_some hf
          obtain rfl := k_some (k_inr hq)
          exact kr17 ls s2 rfl hl.1
  unfold f_X3_lowestFence at hf
  refine lv_iconst (v := 0) hx hb dX3_lowestFence_0 (by decide) ?_
  refine lv_istore_n (lv' := [(1, .int 0), (0, .int a0)]) hx hb dX3_lowestFence_1 rfl hl (by decide) rfl (fun ls hl => ?_)
  obtain ⟨x4, hx4, hf⟩ := k_B hf
  refine L2 _ 1000 a0 0 x4 hx4 ls (lv_sub hl [1, 0] rfl) ?_ ?_
  · intro ls z5 ez5 hl
    subst ez5
    have hf := k_inl hf
    refine lv_iconst (v := (-1)) hx hb dX3_lowestFence_24 (by decide) ?_
    obtain rfl := k_some hf
    exact W.iret (v := (-1)) hx hb hr (fun t ht hW => ⟨rfl, ht⟩) (fun q h => absurd h List.not_mem_nil) dX3_lowestFence_25
  · intro ls r6 er6 hls
    subst er6
    have hf := k_inr hf
    obtain rfl := k_some hf
    exact W.iret (v := r6) hx hb hr (fun t ht hW => ⟨rfl, ht⟩) (fun q h => absurd h List.not_mem_nil) dX3_lowestFence_17
