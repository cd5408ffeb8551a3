def f_J6_bitCount_0f7a4 (a0 : Int32) : Option Int32 :=
  k_let (a0 - (((a0.toUInt32 >>> ((1 : Int32).toUInt32 &&& Int32.toUInt32 31)).toInt32) &&& 1431655765)) fun y1 =>
  k_let ((y1 &&& 858993459) + (((y1.toUInt32 >>> ((2 : Int32).toUInt32 &&& Int32.toUInt32 31)).toInt32) &&& 858993459)) fun y2 =>
  k_let ((y2 + ((y2.toUInt32 >>> ((4 : Int32).toUInt32 &&& Int32.toUInt32 31)).toInt32)) &&& 252645135) fun y3 =>
  k_let (y3 + ((y3.toUInt32 >>> ((8 : Int32).toUInt32 &&& Int32.toUInt32 31)).toInt32)) fun y4 =>
  k_let (y4 + ((y4.toUInt32 >>> ((16 : Int32).toUInt32 &&& Int32.toUInt32 31)).toInt32)) fun y5 =>
  some (y5 &&& 63)
abbrev rm_J6_bitCount_0f7a4 : Room := { frames := 0, cells := 0, slots := 0, locals := 0 }
theorem hd_J6_bitCount_0f7a4 : yJ6_bitCount_0f7a4.cls ≠ "java/lang/invoke/MethodHandle" ∧ yJ6_bitCount_0f7a4.cls ≠ "java/lang/invoke/VarHandle" ∧ (parseMethodDescriptor yJ6_bitCount_0f7a4.desc).map (fun d => d.parameters.length) = some 1 := by decide +kernel
set_option maxHeartbeats 4000000 in
set_option maxRecDepth 100000 in
theorem c_J6_bitCount_0f7a4 (l : Launch) (a0 : Int32) (r : Int32) (hf : f_J6_bitCount_0f7a4 a0 = some r) : k_PMet l yJ6_bitCount_0f7a4 wsJ6_bitCount_0f7a4 rm_J6_bitCount_0f7a4 [.int a0] r := by
  refine k_pureOf (cc := cJ6_bitCount_0f7a4) (maxL := 1) (ret := (some .int)) (by decide) rfl (Nat.le_of_ble_eq_true rfl) ?_
  intro p e s m args below meth c ls hx hb hr hlocks hml hown hts hl
  have hl : lv_has ls 1 [(0, .int a0)] := hl
  unfold f_J6_bitCount_0f7a4 at hf
  refine lv_iload_n hx hb dJ6_bitCount_0f7a4_0 rfl (lv_at hl 0 rfl) ?_
  refine lv_iload_n hx hb dJ6_bitCount_0f7a4_1 rfl (lv_at hl 0 rfl) ?_
  refine lv_iconst (v := 1) hx hb dJ6_bitCount_0f7a4_2 (by decide) ?_
  refine lv_iushr hx hb dJ6_bitCount_0f7a4_3 rfl ?_
  refine lv_ldcw (v := 1431655765) hx hb hown (hts (.constant RJ6 265 1431655765) (by decide +kernel)) dJ6_bitCount_0f7a4_4 ?_
  refine lv_iand hx hb dJ6_bitCount_0f7a4_7 ?_
  refine lv_isub hx hb dJ6_bitCount_0f7a4_8 ?_
  obtain ⟨y1, ey1, hf⟩ := k_L hf
  refine k_name ey1 ?_
  refine lv_istore_n (lv' := [(0, .int y1)]) hx hb dJ6_bitCount_0f7a4_9 rfl hl (by decide) rfl (fun ls hl => ?_)
  refine lv_iload_n hx hb dJ6_bitCount_0f7a4_10 rfl (lv_at hl 0 rfl) ?_
  refine lv_ldcw (v := 858993459) hx hb hown (hts (.constant RJ6 266 858993459) (by decide +kernel)) dJ6_bitCount_0f7a4_11 ?_
  refine lv_iand hx hb dJ6_bitCount_0f7a4_14 ?_
  refine lv_iload_n hx hb dJ6_bitCount_0f7a4_15 rfl (lv_at hl 0 rfl) ?_
  refine lv_iconst (v := 2) hx hb dJ6_bitCount_0f7a4_16 (by decide) ?_
  refine lv_iushr hx hb dJ6_bitCount_0f7a4_17 rfl ?_
  refine lv_ldcw (v := 858993459) hx hb hown (hts (.constant RJ6 266 858993459) (by decide +kernel)) dJ6_bitCount_0f7a4_18 ?_
  refine lv_iand hx hb dJ6_bitCount_0f7a4_21 ?_
  refine lv_iadd hx hb dJ6_bitCount_0f7a4_22 ?_
  obtain ⟨y2, ey2, hf⟩ := k_L hf
  refine k_name ey2 ?_
  refine lv_istore_n (lv' := [(0, .int y2)]) hx hb dJ6_bitCount_0f7a4_23 rfl hl (by decide) rfl (fun ls hl => ?_)
  refine lv_iload_n hx hb dJ6_bitCount_0f7a4_24 rfl (lv_at hl 0 rfl) ?_
  refine lv_iload_n hx hb dJ6_bitCount_0f7a4_25 rfl (lv_at hl 0 rfl) ?_
  refine lv_iconst (v := 4) hx hb dJ6_bitCount_0f7a4_26 (by decide) ?_
  refine lv_iushr hx hb dJ6_bitCount_0f7a4_27 rfl ?_
  refine lv_iadd hx hb dJ6_bitCount_0f7a4_28 ?_
  refine lv_ldcw (v := 252645135) hx hb hown (hts (.constant RJ6 267 252645135) (by decide +kernel)) dJ6_bitCount_0f7a4_29 ?_
  refine lv_iand hx hb dJ6_bitCount_0f7a4_32 ?_
  obtain ⟨y3, ey3, hf⟩ := k_L hf
  refine k_name ey3 ?_
  refine lv_istore_n (lv' := [(0, .int y3)]) hx hb dJ6_bitCount_0f7a4_33 rfl hl (by decide) rfl (fun ls hl => ?_)
  refine lv_iload_n hx hb dJ6_bitCount_0f7a4_34 rfl (lv_at hl 0 rfl) ?_
  refine lv_iload_n hx hb dJ6_bitCount_0f7a4_35 rfl (lv_at hl 0 rfl) ?_
  refine lv_bipush (v := 8) hx hb dJ6_bitCount_0f7a4_36 (by decide) ?_
  refine lv_iushr hx hb dJ6_bitCount_0f7a4_38 rfl ?_
  refine lv_iadd hx hb dJ6_bitCount_0f7a4_39 ?_
  obtain ⟨y4, ey4, hf⟩ := k_L hf
  refine k_name ey4 ?_
  refine lv_istore_n (lv' := [(0, .int y4)]) hx hb dJ6_bitCount_0f7a4_40 rfl hl (by decide) rfl (fun ls hl => ?_)
  refine lv_iload_n hx hb dJ6_bitCount_0f7a4_41 rfl (lv_at hl 0 rfl) ?_
  refine lv_iload_n hx hb dJ6_bitCount_0f7a4_42 rfl (lv_at hl 0 rfl) ?_
  refine lv_bipush (v := 16) hx hb dJ6_bitCount_0f7a4_43 (by decide) ?_
  refine lv_iushr hx hb dJ6_bitCount_0f7a4_45 rfl ?_
  refine lv_iadd hx hb dJ6_bitCount_0f7a4_46 ?_
  obtain ⟨y5, ey5, hf⟩ := k_L hf
  refine k_name ey5 ?_
  refine lv_istore_n (lv' := [(0, .int y5)]) hx hb dJ6_bitCount_0f7a4_47 rfl hl (by decide) rfl (fun ls hl => ?_)
  refine lv_iload_n hx hb dJ6_bitCount_0f7a4_48 rfl (lv_at hl 0 rfl) ?_
  refine lv_bipush (v := 63) hx hb dJ6_bitCount_0f7a4_49 (by decide) ?_
  refine lv_iand hx hb dJ6_bitCount_0f7a4_51 ?_
  obtain rfl := k_some hf
  exact W.iret (v := y5 &&& 63) hx hb hr (fun t ht hW => ⟨rfl, ht⟩) (fun q h => absurd h List.not_mem_nil) dJ6_bitCount_0f7a4_52
def f_X3_has (a0 : Int32) (a1 : Int32) : Option Int32 :=
  if ((a0 >>> (a1 &&& 31)) &&& 1) = 1 then
    some 1
  else
    some 0
abbrev rm_X3_has : Room := { frames := 0, cells := 0, slots := 0, locals := 0 }
theorem hd_X3_has : yX3_has.cls ≠ "java/lang/invoke/MethodHandle" ∧ yX3_has.cls ≠ "java/lang/invoke/VarHandle" ∧ (parseMethodDescriptor yX3_has.desc).map (fun d => d.parameters.length) = some 2 := by decide +kernel
set_option maxHeartbeats 4000000 in
set_option maxRecDepth 100000 in
theorem c_X3_has (l : Launch) (a0 : Int32) (a1 : Int32) (r : Int32) (hf : f_X3_has a0 a1 = some r) : k_PMet l yX3_has wsX3_has rm_X3_has [.int a0, .int a1] r := by
  refine k_pureOf (cc := cX3_has) (maxL := 2) (ret := (some .boolean)) (by decide) rfl (Nat.le_of_ble_eq_true rfl) ?_
  intro p e s m args below meth c ls hx hb hr hlocks hml hown hts hl
  have hl : lv_has ls 2 [(0, .int a0), (1, .int a1)] := hl
  unfold f_X3_has at hf
  refine lv_iload_n hx hb dX3_has_0 rfl (lv_at hl 0 rfl) ?_
  refine lv_iload_n hx hb dX3_has_1 rfl (lv_at hl 1 rfl) ?_
  refine lv_ishr hx hb dX3_has_2 ?_
  refine lv_iconst (v := 1) hx hb dX3_has_3 (by decide) ?_
  refine lv_iand hx hb dX3_has_4 ?_
  refine lv_iconst (v := 1) hx hb dX3_has_5 (by decide) ?_
  refine lv_icmp_ne (tgt := 13) hx hb dX3_has_6 (by decide) (fun c1 => ?_) (fun c1 => ?_)
  · have hf := k_F c1 hf
    refine lv_iconst (v := 0) hx hb dX3_has_13 (by decide) ?_
    obtain rfl := k_some hf
    exact W.zret (v := 0) hx hb hr rfl (fun t ht hW => ⟨rfl, ht⟩) (fun q h => absurd h List.not_mem_nil) dX3_has_14
  · have hf := k_T c1 hf
    refine lv_iconst (v := 1) hx hb dX3_has_9 (by decide) ?_
    refine lv_goto (tgt := 14) hx hb dX3_has_10 (by decide) ?_
    obtain rfl := k_some hf
    exact W.zret (v := 1) hx hb hr rfl (fun t ht hW => ⟨rfl, ht⟩) (fun q h => absurd h List.not_mem_nil) dX3_has_14
def f_X3_isWithin (a0 : Int32) (a1 : Int32) : Option Int32 :=
  if (a0 &&& (a1 ^^^ (-1))) = 0 then
    some 1
  else
    some 0
abbrev rm_X3_isWithin : Room := { frames := 0, cells := 0, slots := 0, locals := 0 }
theorem hd_X3_isWithin : yX3_isWithin.cls ≠ "java/lang/invoke/MethodHandle" ∧ yX3_isWithin.cls ≠ "java/lang/invoke/VarHandle" ∧ (parseMethodDescriptor yX3_isWithin.desc).map (fun d => d.parameters.length) = some 2 := by decide +kernel
set_option maxHeartbeats 4000000 in
set_option maxRecDepth 100000 in
theorem c_X3_isWithin (l : Launch) (a0 : Int32) (a1 : Int32) (r : Int32) (hf : f_X3_isWithin a0 a1 = some r) : k_PMet l yX3_isWithin wsX3_isWithin rm_X3_isWithin [.int a0, .int a1] r := by
  refine k_pureOf (cc := cX3_isWithin) (maxL := 2) (ret := (some .boolean)) (by decide) rfl (Nat.le_of_ble_eq_true rfl) ?_
  intro p e s m args below meth c ls hx hb hr hlocks hml hown hts hl
  have hl : lv_has ls 2 [(0, .int a0), (1, .int a1)] := hl
  unfold f_X3_isWithin at hf
  refine lv_iload_n hx hb dX3_isWithin_0 rfl (lv_at hl 0 rfl) ?_
  refine lv_iload_n hx hb dX3_isWithin_1 rfl (lv_at hl 1 rfl) ?_
  refine lv_iconst (v := (-1)) hx hb dX3_isWithin_2 (by decide) ?_
  refine lv_ixor hx hb dX3_isWithin_3 ?_
  refine lv_iand hx hb dX3_isWithin_4 ?_
  refine lv_if_ne (tgt := 12) hx hb dX3_isWithin_5 (by decide) (fun c1 => ?_) (fun c1 => ?_)
  · have hf := k_F c1 hf
    refine lv_iconst (v := 0) hx hb dX3_isWithin_12 (by decide) ?_
    obtain rfl := k_some hf
    exact W.zret (v := 0) hx hb hr rfl (fun t ht hW => ⟨rfl, ht⟩) (fun q h => absurd h List.not_mem_nil) dX3_isWithin_13
  · have hf := k_T c1 hf
    refine lv_iconst (v := 1) hx hb dX3_isWithin_8 (by decide) ?_
    refine lv_goto (tgt := 13) hx hb dX3_isWithin_9 (by decide) ?_
    obtain rfl := k_some hf
    exact W.zret (v := 1) hx hb hr rfl (fun t ht hW => ⟨rfl, ht⟩) (fun q h => absurd h List.not_mem_nil) dX3_isWithin_13
def f_X3_sides (a0 : Int32) : Option Int32 :=
  k_let (((16 : Int32) + ((5 : Int32) * (a0 / 4))) + (a0 - a0 / 4 * 4)) fun y1 =>
  some ((((1 : Int32) <<< (a0 &&& 31)) ||| ((1 : Int32) <<< ((a0 + 4) &&& 31))) ||| ((3 : Int32) <<< (y1 &&& 31)))
abbrev rm_X3_sides : Room := { frames := 0, cells := 0, slots := 0, locals := 0 }
theorem hd_X3_sides : yX3_sides.cls ≠ "java/lang/invoke/MethodHandle" ∧ yX3_sides.cls ≠ "java/lang/invoke/VarHandle" ∧ (parseMethodDescriptor yX3_sides.desc).map (fun d => d.parameters.length) = some 1 := by decide +kernel
set_option maxHeartbeats 4000000 in
set_option maxRecDepth 100000 in
theorem c_X3_sides (l : Launch) (a0 : Int32) (r : Int32) (hf : f_X3_sides a0 = some r) : k_PMet l yX3_sides wsX3_sides rm_X3_sides [.int a0] r := by
  refine k_pureOf (cc := cX3_sides) (maxL := 2) (ret := (some .int)) (by decide) rfl (Nat.le_of_ble_eq_true rfl) ?_
  intro p e s m args below meth c ls hx hb hr hlocks hml hown hts hl
  have hl : lv_has ls 2 [(0, .int a0)] := hl
  unfold f_X3_sides at hf
  refine lv_bipush (v := 16) hx hb dX3_sides_0 (by decide) ?_
  refine lv_iconst (v := 5) hx hb dX3_sides_2 (by decide) ?_
  refine lv_iload_n hx hb dX3_sides_3 rfl (lv_at hl 0 rfl) ?_
  refine lv_iconst (v := 4) hx hb dX3_sides_4 (by decide) ?_
  refine lv_idiv hx hb dX3_sides_5 (by decide) ?_
  refine lv_imul hx hb dX3_sides_6 ?_
  refine lv_iadd hx hb dX3_sides_7 ?_
  refine lv_iload_n hx hb dX3_sides_8 rfl (lv_at hl 0 rfl) ?_
  refine lv_iconst (v := 4) hx hb dX3_sides_9 (by decide) ?_
  refine lv_irem hx hb dX3_sides_10 (by decide) ?_
  refine lv_iadd hx hb dX3_sides_11 ?_
  obtain ⟨y1, ey1, hf⟩ := k_L hf
  refine k_name ey1 ?_
  refine lv_istore_n (lv' := [(1, .int y1), (0, .int a0)]) hx hb dX3_sides_12 rfl hl (by decide) rfl (fun ls hl => ?_)
  refine lv_iconst (v := 1) hx hb dX3_sides_13 (by decide) ?_
  refine lv_iload_n hx hb dX3_sides_14 rfl (lv_at hl 1 rfl) ?_
  refine lv_ishl hx hb dX3_sides_15 ?_
  refine lv_iconst (v := 1) hx hb dX3_sides_16 (by decide) ?_
  refine lv_iload_n hx hb dX3_sides_17 rfl (lv_at hl 1 rfl) ?_
  refine lv_iconst (v := 4) hx hb dX3_sides_18 (by decide) ?_
  refine lv_iadd hx hb dX3_sides_19 ?_
  refine lv_ishl hx hb dX3_sides_20 ?_
  refine lv_ior hx hb dX3_sides_21 ?_
  refine lv_iconst (v := 3) hx hb dX3_sides_22 (by decide) ?_
  refine lv_iload_n hx hb dX3_sides_23 rfl (lv_at hl 0 rfl) ?_
  refine lv_ishl hx hb dX3_sides_24 ?_
  refine lv_ior hx hb dX3_sides_25 ?_
  obtain rfl := k_some hf
  exact W.iret (v := (((1 : Int32) <<< (a0 &&& 31)) ||| ((1 : Int32) <<< ((a0 + 4) &&& 31))) ||| ((3 : Int32) <<< (y1 &&& 31))) hx hb hr (fun t ht hW => ⟨rfl, ht⟩) (fun q h => absurd h List.not_mem_nil) dX3_sides_26
def f_X3_boxAhead (a0 : Int32) : Option Int32 :=
  if 16 ≤ a0 then
    k_let ((a0 - 16) / 5) fun y2 =>
    k_let ((a0 - 16) - (a0 - 16) / 5 * 5) fun y3 =>
    if y3 ≤ 0 then
      some (-1)
    else
      some ((((4 : Int32) * y2) + y3) - 1)
  else
    if a0 < 4 then
      some (-1)
    else
      some (a0 - 4)
abbrev rm_X3_boxAhead : Room := { frames := 0, cells := 0, slots := 0, locals := 0 }
theorem hd_X3_boxAhead : yX3_boxAhead.cls ≠ "java/lang/invoke/MethodHandle" ∧ yX3_boxAhead.cls ≠ "java/lang/invoke/VarHandle" ∧ (parseMethodDescriptor yX3_boxAhead.desc).map (fun d => d.parameters.length) = some 1 := by decide +kernel
set_option maxHeartbeats 4000000 in
set_option maxRecDepth 100000 in
theorem c_X3_boxAhead (l : Launch) (a0 : Int32) (r : Int32) (hf : f_X3_boxAhead a0 = some r) : k_PMet l yX3_boxAhead wsX3_boxAhead rm_X3_boxAhead [.int a0] r := by
  refine k_pureOf (cc := cX3_boxAhead) (maxL := 3) (ret := (some .int)) (by decide) rfl (Nat.le_of_ble_eq_true rfl) ?_
  intro p e s m args below meth c ls hx hb hr hlocks hml hown hts hl
  have hl : lv_has ls 3 [(0, .int a0)] := hl
  unfold f_X3_boxAhead at hf
  refine lv_iload_n hx hb dX3_boxAhead_0 rfl (lv_at hl 0 rfl) ?_
  refine lv_bipush (v := 16) hx hb dX3_boxAhead_1 (by decide) ?_
  refine lv_icmp_ge (tgt := 19) hx hb dX3_boxAhead_3 (by decide) (fun c1 => ?_) (fun c1 => ?_)
  · have hf := k_T c1 hf
    refine lv_iload_n hx hb dX3_boxAhead_19 rfl (lv_at hl 0 rfl) ?_
    refine lv_bipush (v := 16) hx hb dX3_boxAhead_20 (by decide) ?_
    refine lv_isub hx hb dX3_boxAhead_22 ?_
    refine lv_iconst (v := 5) hx hb dX3_boxAhead_23 (by decide) ?_
    refine lv_idiv hx hb dX3_boxAhead_24 (by decide) ?_
    obtain ⟨y2, ey2, hf⟩ := k_L hf
    refine k_name ey2 ?_
    refine lv_istore_n (lv' := [(1, .int y2), (0, .int a0)]) hx hb dX3_boxAhead_25 rfl hl (by decide) rfl (fun ls hl => ?_)
    refine lv_iload_n hx hb dX3_boxAhead_26 rfl (lv_at hl 1 rfl) ?_
    refine lv_bipush (v := 16) hx hb dX3_boxAhead_27 (by decide) ?_
    refine lv_isub hx hb dX3_boxAhead_29 ?_
    refine lv_iconst (v := 5) hx hb dX3_boxAhead_30 (by decide) ?_
    refine lv_irem hx hb dX3_boxAhead_31 (by decide) ?_
    obtain ⟨y3, ey3, hf⟩ := k_L hf
    refine k_name ey3 ?_
    refine lv_istore_n (lv' := [(2, .int y3), (1, .int y2), (0, .int a0)]) hx hb dX3_boxAhead_32 rfl hl (by decide) rfl (fun ls hl => ?_)
    refine lv_iload_n hx hb dX3_boxAhead_33 rfl (lv_at hl 0 rfl) ?_
    refine lv_if_le (tgt := 47) hx hb dX3_boxAhead_34 (by decide) (fun c4 => ?_) (fun c4 => ?_)
    · have hf := k_T c4 hf
      refine lv_iconst (v := (-1)) hx hb dX3_boxAhead_47 (by decide) ?_
      obtain rfl := k_some hf
      exact W.iret (v := (-1)) hx hb hr (fun t ht hW => ⟨rfl, ht⟩) (fun q h => absurd h List.not_mem_nil) dX3_boxAhead_48
    · have hf := k_F c4 hf
      refine lv_iconst (v := 4) hx hb dX3_boxAhead_37 (by decide) ?_
      refine lv_iload_n hx hb dX3_boxAhead_38 rfl (lv_at hl 1 rfl) ?_
      refine lv_imul hx hb dX3_boxAhead_39 ?_
      refine lv_iload_n hx hb dX3_boxAhead_40 rfl (lv_at hl 0 rfl) ?_
      refine lv_iadd hx hb dX3_boxAhead_41 ?_
      refine lv_iconst (v := 1) hx hb dX3_boxAhead_42 (by decide) ?_
      refine lv_isub hx hb dX3_boxAhead_43 ?_
      refine lv_goto (tgt := 48) hx hb dX3_boxAhead_44 (by decide) ?_
      obtain rfl := k_some hf
      exact W.iret (v := (((4 : Int32) * y2) + y3) - 1) hx hb hr (fun t ht hW => ⟨rfl, ht⟩) (fun q h => absurd h List.not_mem_nil) dX3_boxAhead_48
  · have hf := k_F c1 hf
    refine lv_iload_n hx hb dX3_boxAhead_6 rfl (lv_at hl 0 rfl) ?_
    refine lv_iconst (v := 4) hx hb dX3_boxAhead_7 (by decide) ?_
    refine lv_icmp_lt (tgt := 17) hx hb dX3_boxAhead_8 (by decide) (fun c5 => ?_) (fun c5 => ?_)
    · have hf := k_T c5 hf
      refine lv_iconst (v := (-1)) hx hb dX3_boxAhead_17 (by decide) ?_
      obtain rfl := k_some hf
      exact W.iret (v := (-1)) hx hb hr (fun t ht hW => ⟨rfl, ht⟩) (fun q h => absurd h List.not_mem_nil) dX3_boxAhead_18
    · have hf := k_F c5 hf
      refine lv_iload_n hx hb dX3_boxAhead_11 rfl (lv_at hl 0 rfl) ?_
      refine lv_iconst (v := 4) hx hb dX3_boxAhead_12 (by decide) ?_
      refine lv_isub hx hb dX3_boxAhead_13 ?_
      refine lv_goto (tgt := 18) hx hb dX3_boxAhead_14 (by decide) ?_
      obtain rfl := k_some hf
      exact W.iret (v := a0 - 4) hx hb hr (fun t ht hW => ⟨rfl, ht⟩) (fun q h => absurd h List.not_mem_nil) dX3_boxAhead_18
def f_X3_boxBehind (a0 : Int32) : Option Int32 :=
  if 16 ≤ a0 then
    k_let ((a0 - 16) / 5) fun y2 =>
    k_let ((a0 - 16) - (a0 - 16) / 5 * 5) fun y3 =>
    if 4 ≤ y3 then
      some (-1)
    else
      some (((4 : Int32) * y2) + y3)
  else
    if 12 ≤ a0 then
      some (-1)
    else
      some a0
abbrev rm_X3_boxBehind : Room := { frames := 0, cells := 0, slots := 0, locals := 0 }
theorem hd_X3_boxBehind : yX3_boxBehind.cls ≠ "java/lang/invoke/MethodHandle" ∧ yX3_boxBehind.cls ≠ "java/lang/invoke/VarHandle" ∧ (parseMethodDescriptor yX3_boxBehind.desc).map (fun d => d.parameters.length) = some 1 := by decide +kernel
set_option maxHeartbeats 4000000 in
set_option maxRecDepth 100000 in
theorem c_X3_boxBehind (l : Launch) (a0 : Int32) (r : Int32) (hf : f_X3_boxBehind a0 = some r) : k_PMet l yX3_boxBehind wsX3_boxBehind rm_X3_boxBehind [.int a0] r := by
  refine k_pureOf (cc := cX3_boxBehind) (maxL := 3) (ret := (some .int)) (by decide) rfl (Nat.le_of_ble_eq_true rfl) ?_
  intro p e s m args below meth c ls hx hb hr hlocks hml hown hts hl
  have hl : lv_has ls 3 [(0, .int a0)] := hl
  unfold f_X3_boxBehind at hf
  refine lv_iload_n hx hb dX3_boxBehind_0 rfl (lv_at hl 0 rfl) ?_
  refine lv_bipush (v := 16) hx hb dX3_boxBehind_1 (by decide) ?_
  refine lv_icmp_ge (tgt := 18) hx hb dX3_boxBehind_3 (by decide) (fun c1 => ?_) (fun c1 => ?_)
  · have hf := k_T c1 hf
    refine lv_iload_n hx hb dX3_boxBehind_18 rfl (lv_at hl 0 rfl) ?_
    refine lv_bipush (v := 16) hx hb dX3_boxBehind_19 (by decide) ?_
    refine lv_isub hx hb dX3_boxBehind_21 ?_
    refine lv_iconst (v := 5) hx hb dX3_boxBehind_22 (by decide) ?_
    refine lv_idiv hx hb dX3_boxBehind_23 (by decide) ?_
    obtain ⟨y2, ey2, hf⟩ := k_L hf
    refine k_name ey2 ?_
    refine lv_istore_n (lv' := [(1, .int y2), (0, .int a0)]) hx hb dX3_boxBehind_24 rfl hl (by decide) rfl (fun ls hl => ?_)
    refine lv_iload_n hx hb dX3_boxBehind_25 rfl (lv_at hl 1 rfl) ?_
    refine lv_bipush (v := 16) hx hb dX3_boxBehind_26 (by decide) ?_
    refine lv_isub hx hb dX3_boxBehind_28 ?_
    refine lv_iconst (v := 5) hx hb dX3_boxBehind_29 (by decide) ?_
    refine lv_irem hx hb dX3_boxBehind_30 (by decide) ?_
    obtain ⟨y3, ey3, hf⟩ := k_L hf
    refine k_name ey3 ?_
    refine lv_istore_n (lv' := [(2, .int y3), (1, .int y2), (0, .int a0)]) hx hb dX3_boxBehind_31 rfl hl (by decide) rfl (fun ls hl => ?_)
    refine lv_iload_n hx hb dX3_boxBehind_32 rfl (lv_at hl 0 rfl) ?_
    refine lv_iconst (v := 4) hx hb dX3_boxBehind_33 (by decide) ?_
    refine lv_icmp_ge (tgt := 45) hx hb dX3_boxBehind_34 (by decide) (fun c4 => ?_) (fun c4 => ?_)
    · have hf := k_T c4 hf
      refine lv_iconst (v := (-1)) hx hb dX3_boxBehind_45 (by decide) ?_
      obtain rfl := k_some hf
      exact W.iret (v := (-1)) hx hb hr (fun t ht hW => ⟨rfl, ht⟩) (fun q h => absurd h List.not_mem_nil) dX3_boxBehind_46
    · have hf := k_F c4 hf
      refine lv_iconst (v := 4) hx hb dX3_boxBehind_37 (by decide) ?_
      refine lv_iload_n hx hb dX3_boxBehind_38 rfl (lv_at hl 1 rfl) ?_
      refine lv_imul hx hb dX3_boxBehind_39 ?_
      refine lv_iload_n hx hb dX3_boxBehind_40 rfl (lv_at hl 0 rfl) ?_
      refine lv_iadd hx hb dX3_boxBehind_41 ?_
      refine lv_goto (tgt := 46) hx hb dX3_boxBehind_42 (by decide) ?_
      obtain rfl := k_some hf
      exact W.iret (v := ((4 : Int32) * y2) + y3) hx hb hr (fun t ht hW => ⟨rfl, ht⟩) (fun q h => absurd h List.not_mem_nil) dX3_boxBehind_46
  · have hf := k_F c1 hf
    refine lv_iload_n hx hb dX3_boxBehind_6 rfl (lv_at hl 0 rfl) ?_
    refine lv_bipush (v := 12) hx hb dX3_boxBehind_7 (by decide) ?_
    refine lv_icmp_ge (tgt := 16) hx hb dX3_boxBehind_9 (by decide) (fun c5 => ?_) (fun c5 => ?_)
    · have hf := k_T c5 hf
      refine lv_iconst (v := (-1)) hx hb dX3_boxBehind_16 (by decide) ?_
      obtain rfl := k_some hf
      exact W.iret (v := (-1)) hx hb hr (fun t ht hW => ⟨rfl, ht⟩) (fun q h => absurd h List.not_mem_nil) dX3_boxBehind_17
    · have hf := k_F c5 hf
      refine lv_iload_n hx hb dX3_boxBehind_12 rfl (lv_at hl 0 rfl) ?_
      refine lv_goto (tgt := 17) hx hb dX3_boxBehind_13 (by decide) ?_
      obtain rfl := k_some hf
      exact W.iret (v := a0) hx hb hr (fun t ht hW => ⟨rfl, ht⟩) (fun q h => absurd h List.not_mem_nil) dX3_boxBehind_17
def f_X3_boxesBeside (a0 : Int32) : Option Int32 :=
  (f_X3_boxAhead a0).bind fun v1 =>
  (f_X3_boxBehind a0).bind fun v2 =>
  if v1 = (-1) then
    if v2 = (-1) then
      some 0
    else
      some ((0 : Int32) ||| ((1 : Int32) <<< (v2 &&& 31)))
  else
    k_let ((1 : Int32) <<< (v1 &&& 31)) fun y4 =>
    if v2 = (-1) then
      some y4
    else
      some (y4 ||| ((1 : Int32) <<< (v2 &&& 31)))
abbrev rm_X3_boxesBeside : Room := { frames := 1, cells := 0, slots := 0, locals := 22 }
theorem hd_X3_boxesBeside : yX3_boxesBeside.cls ≠ "java/lang/invoke/MethodHandle" ∧ yX3_boxesBeside.cls ≠ "java/lang/invoke/VarHandle" ∧ (parseMethodDescriptor yX3_boxesBeside.desc).map (fun d => d.parameters.length) = some 1 := by decide +kernel
set_option maxHeartbeats 4000000 in
set_option maxRecDepth 100000 in
theorem c_X3_boxesBeside (l : Launch) (a0 : Int32) (r : Int32) (hf : f_X3_boxesBeside a0 = some r) : k_PMet l yX3_boxesBeside wsX3_boxesBeside rm_X3_boxesBeside [.int a0] r := by
  refine k_pureOf (cc := cX3_boxesBeside) (maxL := 4) (ret := (some .int)) (by decide) rfl (Nat.le_of_ble_eq_true rfl) ?_
  intro p e s m args below meth c ls hx hb hr hlocks hml hown hts hl
  have hl : lv_has ls 4 [(0, .int a0)] := hl
  unfold f_X3_boxesBeside at hf
  refine lv_iload_n hx hb dX3_boxesBeside_0 rfl (lv_at hl 0 rfl) ?_
  obtain ⟨v1, hv1, hf⟩ := k_B hf
  refine k_callS (As := [.int a0]) (rest := []) ⟨hx, hb, hml, hown, hts⟩ (c_X3_boxAhead l a0 v1 hv1) (va_cwS 1 hts gX3_boxesBeside_X3_boxAhead rfl rfl rfl hd_X3_boxAhead ⟨Nat.le_of_ble_eq_true rfl, Nat.le_of_ble_eq_true rfl⟩) rfl hl.1 rfl (Nat.le_of_ble_eq_true rfl) dX3_boxesBeside_1 ⟨Nat.zero_le _, Nat.zero_le _⟩ ?_
  refine lv_istore_n (lv' := [(1, .int v1), (0, .int a0)]) hx hb dX3_boxesBeside_4 rfl hl (by decide) rfl (fun ls hl => ?_)
  refine lv_iload_n hx hb dX3_boxesBeside_5 rfl (lv_at hl 1 rfl) ?_
  obtain ⟨v2, hv2, hf⟩ := k_B hf
  refine k_callS (As := [.int a0]) (rest := []) ⟨hx, hb, hml, hown, hts⟩ (c_X3_boxBehind l a0 v2 hv2) (va_cwS 1 hts gX3_boxesBeside_X3_boxBehind rfl rfl rfl hd_X3_boxBehind ⟨Nat.le_of_ble_eq_true rfl, Nat.le_of_ble_eq_true rfl⟩) rfl hl.1 rfl (Nat.le_of_ble_eq_true rfl) dX3_boxesBeside_6 ⟨Nat.zero_le _, Nat.zero_le _⟩ ?_
  refine lv_istore_n (lv' := [(2, .int v2), (1, .int v1), (0, .int a0)]) hx hb dX3_boxesBeside_9 rfl hl (by decide) rfl (fun ls hl => ?_)
  refine lv_iload_n hx hb dX3_boxesBeside_10 rfl (lv_at hl 1 rfl) ?_
  refine lv_iconst (v := (-1)) hx hb dX3_boxesBeside_11 (by decide) ?_
  refine lv_icmp_ne (tgt := 19) hx hb dX3_boxesBeside_12 (by decide) (fun c3 => ?_) (fun c3 => ?_)
  · have hf := k_F c3 hf
    refine lv_iconst (v := 1) hx hb dX3_boxesBeside_19 (by decide) ?_
    refine lv_iload_n hx hb dX3_boxesBeside_20 rfl (lv_at hl 1 rfl) ?_
    refine lv_ishl hx hb dX3_boxesBeside_21 ?_
    obtain ⟨y4, ey4, hf⟩ := k_L hf
    refine k_name ey4 ?_
    refine lv_istore_n (lv' := [(3, .int y4), (2, .int v2), (1, .int v1), (0, .int a0)]) hx hb dX3_boxesBeside_22 rfl hl (by decide) rfl (fun ls hl => ?_)
    refine lv_iload_n hx hb dX3_boxesBeside_23 rfl (lv_at hl 1 rfl) ?_
    refine lv_iconst (v := (-1)) hx hb dX3_boxesBeside_24 (by decide) ?_
    refine lv_icmp_ne (tgt := 32) hx hb dX3_boxesBeside_25 (by decide) (fun c5 => ?_) (fun c5 => ?_)
    · have hf := k_F c5 hf
      refine lv_iload_n hx hb dX3_boxesBeside_32 rfl (lv_at hl 0 rfl) ?_
      refine lv_iconst (v := 1) hx hb dX3_boxesBeside_33 (by decide) ?_
      refine lv_iload_n hx hb dX3_boxesBeside_34 rfl (lv_at hl 1 rfl) ?_
      refine lv_ishl hx hb dX3_boxesBeside_35 ?_
      refine lv_ior hx hb dX3_boxesBeside_36 ?_
      obtain rfl := k_some hf
      exact W.iret (v := y4 ||| ((1 : Int32) <<< (v2 &&& 31))) hx hb hr (fun t ht hW => ⟨rfl, ht⟩) (fun q h => absurd h List.not_mem_nil) dX3_boxesBeside_37
    · have hf := k_T c5 hf
      refine lv_iload_n hx hb dX3_boxesBeside_28 rfl (lv_at hl 0 rfl) ?_
      refine lv_goto (tgt := 37) hx hb dX3_boxesBeside_29 (by decide) ?_
      obtain rfl := k_some hf
      exact W.iret (v := y4) hx hb hr (fun t ht hW => ⟨rfl, ht⟩) (fun q h => absurd h List.not_mem_nil) dX3_boxesBeside_37
  · have hf := k_T c3 hf
    refine lv_iconst (v := 0) hx hb dX3_boxesBeside_15 (by decide) ?_
    refine lv_goto (tgt := 22) hx hb dX3_boxesBeside_16 (by decide) ?_
    refine lv_istore_n (lv' := [(3, .int 0), (2, .int v2), (1, .int v1), (0, .int a0)]) hx hb dX3_boxesBeside_22 rfl hl (by decide) rfl (fun ls hl => ?_)
    refine lv_iload_n hx hb dX3_boxesBeside_23 rfl (lv_at hl 1 rfl) ?_
    refine lv_iconst (v := (-1)) hx hb dX3_boxesBeside_24 (by decide) ?_
    refine lv_icmp_ne (tgt := 32) hx hb dX3_boxesBeside_25 (by decide) (fun c6 => ?_) (fun c6 => ?_)
    · have hf := k_F c6 hf
      refine lv_iload_n hx hb dX3_boxesBeside_32 rfl (lv_at hl 0 rfl) ?_
      refine lv_iconst (v := 1) hx hb dX3_boxesBeside_33 (by decide) ?_
      refine lv_iload_n hx hb dX3_boxesBeside_34 rfl (lv_at hl 1 rfl) ?_
      refine lv_ishl hx hb dX3_boxesBeside_35 ?_
      refine lv_ior hx hb dX3_boxesBeside_36 ?_
      obtain rfl := k_some hf
      exact W.iret (v := (0 : Int32) ||| ((1 : Int32) <<< (v2 &&& 31))) hx hb hr (fun t ht hW => ⟨rfl, ht⟩) (fun q h => absurd h List.not_mem_nil) dX3_boxesBeside_37
    · have hf := k_T c6 hf
      refine lv_iload_n hx hb dX3_boxesBeside_28 rfl (lv_at hl 0 rfl) ?_
      refine lv_goto (tgt := 37) hx hb dX3_boxesBeside_29 (by decide) ?_
      obtain rfl := k_some hf
      exact W.iret (v := 0) hx hb hr (fun t ht hW => ⟨rfl, ht⟩) (fun q h => absurd h List.not_mem_nil) dX3_boxesBeside_37
def f_X3_countSides (a0 : Int32) (a1 : Int32) : Option Int32 :=
  (f_X3_sides a1).bind fun v1 =>
  (f_J6_bitCount_0f7a4 (a0 &&& v1)).bind fun v2 =>
  some v2
abbrev rm_X3_countSides : Room := { frames := 1, cells := 0, slots := 0, locals := 21 }
theorem hd_X3_countSides : yX3_countSides.cls ≠ "java/lang/invoke/MethodHandle" ∧ yX3_countSides.cls ≠ "java/lang/invoke/VarHandle" ∧ (parseMethodDescriptor yX3_countSides.desc).map (fun d => d.parameters.length) = some 2 := by decide +kernel
set_option maxHeartbeats 4000000 in
set_option maxRecDepth 100000 in
theorem c_X3_countSides (l : Launch) (a0 : Int32) (a1 : Int32) (r : Int32) (hf : f_X3_countSides a0 a1 = some r) : k_PMet l yX3_countSides wsX3_countSides rm_X3_countSides [.int a0, .int a1] r := by
  refine k_pureOf (cc := cX3_countSides) (maxL := 2) (ret := (some .int)) (by decide) rfl (Nat.le_of_ble_eq_true rfl) ?_
  intro p e s m args below meth c ls hx hb hr hlocks hml hown hts hl
  have hl : lv_has ls 2 [(0, .int a0), (1, .int a1)] := hl
  unfold f_X3_countSides at hf
  refine lv_iload_n hx hb dX3_countSides_0 rfl (lv_at hl 0 rfl) ?_
  refine lv_iload_n hx hb dX3_countSides_1 rfl (lv_at hl 1 rfl) ?_
  obtain ⟨v1, hv1, hf⟩ := k_B hf
  refine k_callS (As := [.int a1]) (rest := [.int a0]) ⟨hx, hb, hml, hown, hts⟩ (c_X3_sides l a1 v1 hv1) (va_cwS 1 hts gX3_countSides_X3_sides rfl rfl rfl hd_X3_sides ⟨Nat.le_of_ble_eq_true rfl, Nat.le_of_ble_eq_true rfl⟩) rfl hl.1 rfl (Nat.le_of_ble_eq_true rfl) dX3_countSides_2 ⟨Nat.zero_le _, Nat.zero_le _⟩ ?_
  refine lv_iand hx hb dX3_countSides_5 ?_
  obtain ⟨v2, hv2, hf⟩ := k_B hf
  refine k_callS (As := [.int (a0 &&& v1)]) (rest := []) ⟨hx, hb, hml, hown, hts⟩ (c_J6_bitCount_0f7a4 l (a0 &&& v1) v2 hv2) (va_cwS 1 hts gX3_countSides_J6_bitCount_0f7a4 rfl rfl rfl hd_J6_bitCount_0f7a4 ⟨Nat.le_of_ble_eq_true rfl, Nat.le_of_ble_eq_true rfl⟩) rfl hl.1 rfl (Nat.le_of_ble_eq_true rfl) dX3_countSides_6 ⟨Nat.zero_le _, Nat.zero_le _⟩ ?_
  obtain rfl := k_some hf
  exact W.iret (v := v2) hx hb hr (fun t ht hW => ⟨rfl, ht⟩) (fun q h => absurd h List.not_mem_nil) dX3_countSides_9
def f_X3_isClosed (a0 : Int32) (a1 : Int32) : Option Int32 :=
  if a1 = (-1) then
    some 0
  else
    (f_X3_sides a1).bind fun v2 =>
    (f_X3_isWithin v2 a0).bind fun v3 =>
    if v3 = 0 then
      some 0
    else
      some 1
abbrev rm_X3_isClosed : Room := { frames := 1, cells := 0, slots := 0, locals := 21 }
theorem hd_X3_isClosed : yX3_isClosed.cls ≠ "java/lang/invoke/MethodHandle" ∧ yX3_isClosed.cls ≠ "java/lang/invoke/VarHandle" ∧ (parseMethodDescriptor yX3_isClosed.desc).map (fun d => d.parameters.length) = some 2 := by decide +kernel
set_option maxHeartbeats 4000000 in
set_option maxRecDepth 100000 in
theorem c_X3_isClosed (l : Launch) (a0 : Int32) (a1 : Int32) (r : Int32) (hf : f_X3_isClosed a0 a1 = some r) : k_PMet l yX3_isClosed wsX3_isClosed rm_X3_isClosed [.int a0, .int a1] r := by
  refine k_pureOf (cc := cX3_isClosed) (maxL := 2) (ret := (some .boolean)) (by decide) rfl (Nat.le_of_ble_eq_true rfl) ?_
  intro p e s m args below meth c ls hx hb hr hlocks hml hown hts hl
  have hl : lv_has ls 2 [(0, .int a0), (1, .int a1)] := hl
  unfold f_X3_isClosed at hf
  refine lv_iload_n hx hb dX3_isClosed_0 rfl (lv_at hl 1 rfl) ?_
  refine lv_iconst (v := (-1)) hx hb dX3_isClosed_1 (by decide) ?_
  refine lv_icmp_eq (tgt := 20) hx hb dX3_isClosed_2 (by decide) (fun c1 => ?_) (fun c1 => ?_)
  · have hf := k_T c1 hf
    refine lv_iconst (v := 0) hx hb dX3_isClosed_20 (by decide) ?_
    obtain rfl := k_some hf
    exact W.zret (v := 0) hx hb hr rfl (fun t ht hW => ⟨rfl, ht⟩) (fun q h => absurd h List.not_mem_nil) dX3_isClosed_21
  · have hf := k_F c1 hf
    refine lv_iload_n hx hb dX3_isClosed_5 rfl (lv_at hl 1 rfl) ?_
    obtain ⟨v2, hv2, hf⟩ := k_B hf
    refine k_callS (As := [.int a1]) (rest := []) ⟨hx, hb, hml, hown, hts⟩ (c_X3_sides l a1 v2 hv2) (va_cwS 1 hts gX3_isClosed_X3_sides rfl rfl rfl hd_X3_sides ⟨Nat.le_of_ble_eq_true rfl, Nat.le_of_ble_eq_true rfl⟩) rfl hl.1 rfl (Nat.le_of_ble_eq_true rfl) dX3_isClosed_6 ⟨Nat.zero_le _, Nat.zero_le _⟩ ?_
    refine lv_iload_n hx hb dX3_isClosed_9 rfl (lv_at hl 0 rfl) ?_
    obtain ⟨v3, hv3, hf⟩ := k_B hf
    refine k_callS (As := [.int v2, .int a0]) (rest := []) ⟨hx, hb, hml, hown, hts⟩ (c_X3_isWithin l v2 a0 v3 hv3) (va_cwS 2 hts gX3_isClosed_X3_isWithin rfl rfl rfl hd_X3_isWithin ⟨Nat.le_of_ble_eq_true rfl, Nat.le_of_ble_eq_true rfl⟩) rfl hl.1 rfl (Nat.le_of_ble_eq_true rfl) dX3_isClosed_10 ⟨Nat.zero_le _, Nat.zero_le _⟩ ?_
    refine lv_if_eq (tgt := 20) hx hb dX3_isClosed_13 (by decide) (fun c4 => ?_) (fun c4 => ?_)
    · have hf := k_T c4 hf
      refine lv_iconst (v := 0) hx hb dX3_isClosed_20 (by decide) ?_
      obtain rfl := k_some hf
      exact W.zret (v := 0) hx hb hr rfl (fun t ht hW => ⟨rfl, ht⟩) (fun q h => absurd h List.not_mem_nil) dX3_isClosed_21
    · have hf := k_F c4 hf
      refine lv_iconst (v := 1) hx hb dX3_isClosed_16 (by decide) ?_
      refine lv_goto (tgt := 21) hx hb dX3_isClosed_17 (by decide) ?_
      obtain rfl := k_some hf
      exact W.zret (v := 1) hx hb hr rfl (fun t ht hW => ⟨rfl, ht⟩) (fun q h => absurd h List.not_mem_nil) dX3_isClosed_21
def t_X3_boxesHaving_4 (b0 : Int32) (b1 : Int32) (s4 : Int32 × Int32) : Option ((Int32 × Int32) ⊕ (Int32 × Int32)) :=
  if 12 ≤ s4.2 then
    some (.inr (s4.1, s4.2))
  else
    (f_X3_countSides b0 s4.2).bind fun v2 =>
    if v2 = b1 then
      k_let (s4.1 ||| ((1 : Int32) <<< (s4.2 &&& 31))) fun y4 =>
      some (.inl (y4, s4.2 + 1))
    else
      some (.inl (s4.1, s4.2 + 1))
def f_X3_boxesHaving (a0 : Int32) (a1 : Int32) : Option Int32 :=
  (k_loop (t_X3_boxesHaving_4 a0 a1) 1000 (0, 0)).bind fun x5 =>
  some x5.1
abbrev rm_X3_boxesHaving : Room := { frames := 2, cells := 0, slots := 0, locals := 42 }
theorem hd_X3_boxesHaving : yX3_boxesHaving.cls ≠ "java/lang/invoke/MethodHandle" ∧ yX3_boxesHaving.cls ≠ "java/lang/invoke/VarHandle" ∧ (parseMethodDescriptor yX3_boxesHaving.desc).map (fun d => d.parameters.length) = some 2 := by decide +kernel
set_option maxHeartbeats 4000000 in
set_option maxRecDepth 100000 in
theorem c_X3_boxesHaving (l : Launch) (a0 : Int32) (a1 : Int32) (r : Int32) (hf : f_X3_boxesHaving a0 a1 = some r) : k_PMet l yX3_boxesHaving wsX3_boxesHaving rm_X3_boxesHaving [.int a0, .int a1] r := by
  refine k_pureOf (cc := cX3_boxesHaving) (maxL := 4) (ret := (some .int)) (by decide) rfl (Nat.le_of_ble_eq_true rfl) ?_
  intro p e s m args below meth c ls hx hb hr hlocks hml hown hts hl
  have hl : lv_has ls 4 [(0, .int a0), (1, .int a1)] := hl
  have L4 : ∀ (Q : State → Prop) (n : Nat) (b0 : Int32) (b1 : Int32) (s4 : Int32 × Int32) (q : (Int32 × Int32)), k_loop (t_X3_boxesHaving_4 b0 b1) n s4 = some q → ∀ (ls : Array Slot), lv_has ls 4 [(0, .int b0), (1, .int b1), (2, .int s4.1), (3, .int s4.2)] → (∀ (ls : Array Slot), True → lv_has ls 4 [(2, .int q.1)] → W p l e rm_X3_boxesHaving s m args below meth c s.heap [] 0 0 Q (F0 m 31 ls [])) → W p l e rm_X3_boxesHaving s m args below meth c s.heap [] 0 0 Q (F0 m 4 ls []) := by
    intro Q n
    induction n with
    | zero =>
      intro b0 b1 s4 q hq
      exact (k_loop0 hq).elim
    | succ n ih =>
      intro b0 b1 s4 q hq ls hl kx 
      obtain ⟨x, hf, hq⟩ := k_loopE hq
      unfold t_X3_boxesHaving_4 at hf
      refine lv_iload_n hx hb dX3_boxesHaving_4 rfl (lv_at hl 3 rfl) ?_
      refine lv_bipush (v := 12) hx hb dX3_boxesHaving_5 (by decide) ?_
      refine lv_icmp_ge (tgt := 31) hx hb dX3_boxesHaving_7 (by decide) (fun c1 => ?_) (fun c1 => ?_)
      · have hf := k_T c1 hf
        obtain rfl := k_some hf
        obtain rfl := k_some (k_inr hq)
        exact kx ls trivial (lv_sub hl [2] rfl)
      · have hf := k_F c1 hf
        refine lv_iload_n hx hb dX3_boxesHaving_10 rfl (lv_at hl 0 rfl) ?_
        refine lv_iload_n hx hb dX3_boxesHaving_11 rfl (lv_at hl 3 rfl) ?_
        obtain ⟨v2, hv2, hf⟩ := k_B hf
        refine k_callS (As := [.int b0, .int s4.2]) (rest := []) ⟨hx, hb, hml, hown, hts⟩ (c_X3_countSides l b0 s4.2 v2 hv2) (va_cwS 2 hts gX3_boxesHaving_X3_countSides rfl rfl rfl hd_X3_countSides ⟨Nat.le_of_ble_eq_true rfl, Nat.le_of_ble_eq_true rfl⟩) rfl hl.1 rfl (Nat.le_of_ble_eq_true rfl) dX3_boxesHaving_12 ⟨Nat.zero_le _, Nat.zero_le _⟩ ?_
        refine lv_iload_n hx hb dX3_boxesHaving_15 rfl (lv_at hl 1 rfl) ?_
        refine lv_icmp_ne (tgt := 25) hx hb dX3_boxesHaving_16 (by decide) (fun c3 => ?_) (fun c3 => ?_)
        · have hf := k_F c3 hf
          refine lv_iinc (v := s4.2 + 1) (lv' := [(3, .int (s4.2 + 1)), (0, .int b0), (1, .int b1), (2, .int s4.1)]) hx hb dX3_boxesHaving_25 hl (k := 3) rfl rfl (by decide) rfl (fun ls hl => ?_)
          refine lv_goto (tgt := 4) hx hb dX3_boxesHaving_28 (by decide) ?_
          obtain rfl := k_some hf
          exact ih b0 b1 (s4.1, s4.2 + 1) q (k_inl hq) ls (lv_sub hl [1, 2, 3, 0] rfl) kx 
        · have hf := k_T c3 hf
          refine lv_iload_n hx hb dX3_boxesHaving_19 rfl (lv_at hl 2 rfl) ?_
          refine lv_iconst (v := 1) hx hb dX3_boxesHaving_20 (by decide) ?_
          refine lv_iload_n hx hb dX3_boxesHaving_21 rfl (lv_at hl 3 rfl) ?_
          refine lv_ishl hx hb dX3_boxesHaving_22 ?_
          refine lv_ior hx hb dX3_boxesHaving_23 ?_
          obtain ⟨y4, ey4, hf⟩ := k_L hf
          refine k_name ey4 ?_
          refine lv_istore_n (lv' := [(2, .int y4), (0, .int b0), (1, .int b1), (3, .int s4.2)]) hx hb dX3_boxesHaving_24 rfl hl (by decide) rfl (fun ls hl => ?_)
          refine lv_iinc (v := s4.2 + 1) (lv' := [(3, .int (s4.2 + 1)), (2, .int y4), (0, .int b0), (1, .int b1)]) hx hb dX3_boxesHaving_25 hl (k := 3) rfl rfl (by decide) rfl (fun ls hl => ?_)
          refine lv_goto (tgt := 4) hx hb dX3_boxesHaving_28 (by decide) ?_
          obtain rfl := k_some hf
          exact ih b0 b1 (y4, s4.2 + 1) q (k_inl hq) ls (lv_sub hl [2, 3, 1, 0] rfl) kx 
  unfold f_X3_boxesHaving at hf
  refine lv_iconst (v := 0) hx hb dX3_boxesHaving_0 (by decide) ?_
  refine lv_istore_n (lv' := [(2, .int 0), (0, .int a0), (1, .int a1)]) hx hb dX3_boxesHaving_1 rfl hl (by decide) rfl (fun ls hl => ?_)
  refine lv_iconst (v := 0) hx hb dX3_boxesHaving_2 (by decide) ?_
  refine lv_istore_n (lv' := [(3, .int 0), (2, .int 0), (0, .int a0), (1, .int a1)]) hx hb dX3_boxesHaving_3 rfl hl (by decide) rfl (fun ls hl => ?_)
  obtain ⟨x5, hx5, hf⟩ := k_B hf
  refine L4 _ 1000 a0 a1 (0, 0) x5 hx5 ls (lv_sub hl [2, 3, 1, 0] rfl) ?_
  · intro ls _ hl
    refine lv_iload_n hx hb dX3_boxesHaving_31 rfl (lv_at hl 0 rfl) ?_
    obtain rfl := k_some hf
    exact W.iret (v := x5.1) hx hb hr (fun t ht hW => ⟨rfl, ht⟩) (fun q h => absurd h List.not_mem_nil) dX3_boxesHaving_32
def f_X3_closedWith (a0 : Int32) (a1 : Int32) : Option Int32 :=
  (f_X3_boxAhead a1).bind fun v1 =>
  (f_X3_boxBehind a1).bind fun v2 =>
  (f_X3_isClosed a0 v1).bind fun v3 =>
  if v3 = 0 then
    (f_X3_isClosed a0 v2).bind fun v5 =>
    if v5 = 0 then
      some 0
    else
      some ((0 : Int32) ||| ((1 : Int32) <<< (v2 &&& 31)))
  else
    k_let ((1 : Int32) <<< (v1 &&& 31)) fun y7 =>
    (f_X3_isClosed a0 v2).bind fun v8 =>
    if v8 = 0 then
      some y7
    else
      some (y7 ||| ((1 : Int32) <<< (v2 &&& 31)))
abbrev rm_X3_closedWith : Room := { frames := 2, cells := 0, slots := 0, locals := 42 }
theorem hd_X3_closedWith : yX3_closedWith.cls ≠ "java/lang/invoke/MethodHandle" ∧ yX3_closedWith.cls ≠ "java/lang/invoke/VarHandle" ∧ (parseMethodDescriptor yX3_closedWith.desc).map (fun d => d.parameters.length) = some 2 := by decide +kernel
set_option maxHeartbeats 4000000 in
set_option maxRecDepth 100000 in
theorem c_X3_closedWith (l : Launch) (a0 : Int32) (a1 : Int32) (r : Int32) (hf : f_X3_closedWith a0 a1 = some r) : k_PMet l yX3_closedWith wsX3_closedWith rm_X3_closedWith [.int a0, .int a1] r := by
  refine k_pureOf (cc := cX3_closedWith) (maxL := 5) (ret := (some .int)) (by decide) rfl (Nat.le_of_ble_eq_true rfl) ?_
  intro p e s m args below meth c ls hx hb hr hlocks hml hown hts hl
  have hl : lv_has ls 5 [(0, .int a0), (1, .int a1)] := hl
  unfold f_X3_closedWith at hf
  refine lv_iload_n hx hb dX3_closedWith_0 rfl (lv_at hl 1 rfl) ?_
  obtain ⟨v1, hv1, hf⟩ := k_B hf
  refine k_callS (As := [.int a1]) (rest := []) ⟨hx, hb, hml, hown, hts⟩ (c_X3_boxAhead l a1 v1 hv1) (va_cwS 1 hts gX3_closedWith_X3_boxAhead rfl rfl rfl hd_X3_boxAhead ⟨Nat.le_of_ble_eq_true rfl, Nat.le_of_ble_eq_true rfl⟩) rfl hl.1 rfl (Nat.le_of_ble_eq_true rfl) dX3_closedWith_1 ⟨Nat.zero_le _, Nat.zero_le _⟩ ?_
  refine lv_istore_n (lv' := [(2, .int v1), (0, .int a0), (1, .int a1)]) hx hb dX3_closedWith_4 rfl hl (by decide) rfl (fun ls hl => ?_)
  refine lv_iload_n hx hb dX3_closedWith_5 rfl (lv_at hl 2 rfl) ?_
  obtain ⟨v2, hv2, hf⟩ := k_B hf
  refine k_callS (As := [.int a1]) (rest := []) ⟨hx, hb, hml, hown, hts⟩ (c_X3_boxBehind l a1 v2 hv2) (va_cwS 1 hts gX3_closedWith_X3_boxBehind rfl rfl rfl hd_X3_boxBehind ⟨Nat.le_of_ble_eq_true rfl, Nat.le_of_ble_eq_true rfl⟩) rfl hl.1 rfl (Nat.le_of_ble_eq_true rfl) dX3_closedWith_6 ⟨Nat.zero_le _, Nat.zero_le _⟩ ?_
  refine lv_istore_n (lv' := [(3, .int v2), (2, .int v1), (0, .int a0), (1, .int a1)]) hx hb dX3_closedWith_9 rfl hl (by decide) rfl (fun ls hl => ?_)
  refine lv_iload_n hx hb dX3_closedWith_10 rfl (lv_at hl 2 rfl) ?_
  refine lv_iload_n hx hb dX3_closedWith_11 rfl (lv_at hl 1 rfl) ?_
  obtain ⟨v3, hv3, hf⟩ := k_B hf
  refine k_callS (As := [.int a0, .int v1]) (rest := []) ⟨hx, hb, hml, hown, hts⟩ (c_X3_isClosed l a0 v1 v3 hv3) (va_cwS 2 hts gX3_closedWith_X3_isClosed rfl rfl rfl hd_X3_isClosed ⟨Nat.le_of_ble_eq_true rfl, Nat.le_of_ble_eq_true rfl⟩) rfl hl.1 rfl (Nat.le_of_ble_eq_true rfl) dX3_closedWith_12 ⟨Nat.zero_le _, Nat.zero_le _⟩ ?_
  refine lv_if_eq (tgt := 24) hx hb dX3_closedWith_15 (by decide) (fun c4 => ?_) (fun c4 => ?_)
  · have hf := k_T c4 hf
    refine lv_iconst (v := 0) hx hb dX3_closedWith_24 (by decide) ?_
    refine lv_istore (lv' := [(4, .int 0), (3, .int v2), (2, .int v1), (0, .int a0), (1, .int a1)]) hx hb dX3_closedWith_25 hl (by decide) rfl (fun ls hl => ?_)
    refine lv_iload_n hx hb dX3_closedWith_27 rfl (lv_at hl 3 rfl) ?_
    refine lv_iload_n hx hb dX3_closedWith_28 rfl (lv_at hl 1 rfl) ?_
    obtain ⟨v5, hv5, hf⟩ := k_B hf
    refine k_callS (As := [.int a0, .int v2]) (rest := []) ⟨hx, hb, hml, hown, hts⟩ (c_X3_isClosed l a0 v2 v5 hv5) (va_cwS 2 hts gX3_closedWith_X3_isClosed rfl rfl rfl hd_X3_isClosed ⟨Nat.le_of_ble_eq_true rfl, Nat.le_of_ble_eq_true rfl⟩) rfl hl.1 rfl (Nat.le_of_ble_eq_true rfl) dX3_closedWith_29 ⟨Nat.zero_le _, Nat.zero_le _⟩ ?_
    refine lv_if_eq (tgt := 44) hx hb dX3_closedWith_32 (by decide) (fun c6 => ?_) (fun c6 => ?_)
    · have hf := k_T c6 hf
      refine lv_iload hx hb dX3_closedWith_44 (lv_at hl 0 rfl) ?_
      obtain rfl := k_some hf
      exact W.iret (v := 0) hx hb hr (fun t ht hW => ⟨rfl, ht⟩) (fun q h => absurd h List.not_mem_nil) dX3_closedWith_46
    · have hf := k_F c6 hf
      refine lv_iload hx hb dX3_closedWith_35 (lv_at hl 0 rfl) ?_
      refine lv_iconst (v := 1) hx hb dX3_closedWith_37 (by decide) ?_
      refine lv_iload_n hx hb dX3_closedWith_38 rfl (lv_at hl 1 rfl) ?_
      refine lv_ishl hx hb dX3_closedWith_39 ?_
      refine lv_ior hx hb dX3_closedWith_40 ?_
      refine lv_goto (tgt := 46) hx hb dX3_closedWith_41 (by decide) ?_
      obtain rfl := k_some hf
      exact W.iret (v := (0 : Int32) ||| ((1 : Int32) <<< (v2 &&& 31))) hx hb hr (fun t ht hW => ⟨rfl, ht⟩) (fun q h => absurd h List.not_mem_nil) dX3_closedWith_46
  · have hf := k_F c4 hf
    refine lv_iconst (v := 1) hx hb dX3_closedWith_18 (by decide) ?_
    refine lv_iload_n hx hb dX3_closedWith_19 rfl (lv_at hl 1 rfl) ?_
    refine lv_ishl hx hb dX3_closedWith_20 ?_
    refine lv_goto (tgt := 25) hx hb dX3_closedWith_21 (by decide) ?_
    obtain ⟨y7, ey7, hf⟩ := k_L hf
    refine k_name ey7 ?_
    refine lv_istore (lv' := [(4, .int y7), (3, .int v2), (2, .int v1), (0, .int a0), (1, .int a1)]) hx hb dX3_closedWith_25 hl (by decide) rfl (fun ls hl => ?_)
    refine lv_iload_n hx hb dX3_closedWith_27 rfl (lv_at hl 3 rfl) ?_
    refine lv_iload_n hx hb dX3_closedWith_28 rfl (lv_at hl 1 rfl) ?_
    obtain ⟨v8, hv8, hf⟩ := k_B hf
    refine k_callS (As := [.int a0, .int v2]) (rest := []) ⟨hx, hb, hml, hown, hts⟩ (c_X3_isClosed l a0 v2 v8 hv8) (va_cwS 2 hts gX3_closedWith_X3_isClosed rfl rfl rfl hd_X3_isClosed ⟨Nat.le_of_ble_eq_true rfl, Nat.le_of_ble_eq_true rfl⟩) rfl hl.1 rfl (Nat.le_of_ble_eq_true rfl) dX3_closedWith_29 ⟨Nat.zero_le _, Nat.zero_le _⟩ ?_
    refine lv_if_eq (tgt := 44) hx hb dX3_closedWith_32 (by decide) (fun c9 => ?_) (fun c9 => ?_)
    · have hf := k_T c9 hf
      refine lv_iload hx hb dX3_closedWith_44 (lv_at hl 0 rfl) ?_
      obtain rfl := k_some hf
      exact W.iret (v := y7) hx hb hr (fun t ht hW => ⟨rfl, ht⟩) (fun q h => absurd h List.not_mem_nil) dX3_closedWith_46
    · have hf := k_F c9 hf
      refine lv_iload hx hb dX3_closedWith_35 (lv_at hl 0 rfl) ?_
      refine lv_iconst (v := 1) hx hb dX3_closedWith_37 (by decide) ?_
      refine lv_iload_n hx hb dX3_closedWith_38 rfl (lv_at hl 1 rfl) ?_
      refine lv_ishl hx hb dX3_closedWith_39 ?_
      refine lv_ior hx hb dX3_closedWith_40 ?_
      refine lv_goto (tgt := 46) hx hb dX3_closedWith_41 (by decide) ?_
      obtain rfl := k_some hf
      exact W.iret (v := y7 ||| ((1 : Int32) <<< (v2 &&& 31))) hx hb hr (fun t ht hW => ⟨rfl, ht⟩) (fun q h => absurd h List.not_mem_nil) dX3_closedWith_46
def t_X3_lowestFence_2 (b0 : Int32) (s2 : Int32) : Option ((Int32) ⊕ ((Int32) ⊕ Int32)) :=
  if 31 ≤ s2 then
    some (.inr (.inl s2))
  else
    (f_X3_has b0 s2).bind fun v2 =>
    if v2 = 0 then
      some (.inl (s2 + 1))
    else
      some (.inr (.inr s2))
def f_X3_lowestFence (a0 : Int32) : Option Int32 :=
  (k_loop (t_X3_lowestFence_2 a0) 1000 0).bind fun x4 =>
  Sum.elim (fun z5 =>
    some (-1)
  ) (fun r6 => some r6) x4
abbrev rm_X3_lowestFence : Room := { frames := 1, cells := 0, slots := 0, locals := 21 }
theorem hd_X3_lowestFence : yX3_lowestFence.cls ≠ "java/lang/invoke/MethodHandle" ∧ yX3_lowestFence.cls ≠ "java/lang/invoke/VarHandle" ∧ (parseMethodDescriptor yX3_lowestFence.desc).map (fun d => d.parameters.length) = some 1 := by decide +kernel
set_option maxHeartbeats 4000000 in
set_option maxRecDepth 100000 in
theorem c_X3_lowestFence (l : Launch) (a0 : Int32) (r : Int32) (hf : f_X3_lowestFence a0 = some r) : k_PMet l yX3_lowestFence wsX3_lowestFence rm_X3_lowestFence [.int a0] r := by
  refine k_pureOf (cc := cX3_lowestFence) (maxL := 2) (ret := (some .int)) (by decide) rfl (Nat.le_of_ble_eq_true rfl) ?_
  intro p e s m args below meth c ls hx hb hr hlocks hml hown hts hl
  have hl : lv_has ls 2 [(0, .int a0)] := hl
  have L2 : ∀ (Q : State → Prop) (n : Nat) (b0 : Int32) (s2 : Int32) (q : ((Int32) ⊕ Int32)), k_loop (t_X3_lowestFence_2 b0) n s2 = some q → ∀ (ls : Array Slot), lv_has ls 2 [(0, .int b0), (1, .int s2)] → (∀ (ls : Array Slot) (x : Int32), q = .inl x → lv_has ls 2 [] → W p l e rm_X3_lowestFence s m args below meth c s.heap [] 0 0 Q (F0 m 24 ls [])) → (∀ (ls : Array Slot) (rr : Int32), q = .inr rr → ls.size = 2 → W p l e rm_X3_lowestFence s m args below meth c s.heap [] 0 0 Q (F0 m 17 ls [.int rr])) → W p l e rm_X3_lowestFence s m args below meth c s.heap [] 0 0 Q (F0 m 2 ls []) := by
    intro Q n
    induction n with
    | zero =>
      intro b0 s2 q hq
      exact (k_loop0 hq).elim
    | succ n ih =>
      intro b0 s2 q hq ls hl kx kr17
      obtain ⟨x, hf, hq⟩ := k_loopE hq
      unfold t_X3_lowestFence_2 at hf
      refine lv_iload_n hx hb dX3_lowestFence_2 rfl (lv_at hl 1 rfl) ?_
      refine lv_bipush (v := 31) hx hb dX3_lowestFence_3 (by decide) ?_
      refine lv_icmp_ge (tgt := 24) hx hb dX3_lowestFence_5 (by decide) (fun c1 => ?_) (fun c1 => ?_)
      · have hf := k_T c1 hf
        obtain rfl := k_some hf
        obtain rfl := k_some (k_inr hq)
        exact kx ls s2 rfl (lv_sub hl [] rfl)
      · have hf := k_F c1 hf
        refine lv_iload_n hx hb dX3_lowestFence_8 rfl (lv_at hl 0 rfl) ?_
        refine lv_iload_n hx hb dX3_lowestFence_9 rfl (lv_at hl 1 rfl) ?_
        obtain ⟨v2, hv2, hf⟩ := k_B hf
        refine k_callS (As := [.int b0, .int s2]) (rest := []) ⟨hx, hb, hml, hown, hts⟩ (c_X3_has l b0 s2 v2 hv2) (va_cwS 2 hts gX3_lowestFence_X3_has rfl rfl rfl hd_X3_has ⟨Nat.le_of_ble_eq_true rfl, Nat.le_of_ble_eq_true rfl⟩) rfl hl.1 rfl (Nat.le_of_ble_eq_true rfl) dX3_lowestFence_10 ⟨Nat.zero_le _, Nat.zero_le _⟩ ?_
        refine lv_if_eq (tgt := 18) hx hb dX3_lowestFence_13 (by decide) (fun c3 => ?_) (fun c3 => ?_)
        · have hf := k_T c3 hf
          refine lv_iinc (v := s2 + 1) (lv' := [(1, .int (s2 + 1)), (0, .int b0)]) hx hb dX3_lowestFence_18 hl (k := 1) rfl rfl (by decide) rfl (fun ls hl => ?_)
          refine lv_goto (tgt := 2) hx hb dX3_lowestFence_21 (by decide) ?_
          obtain rfl := k_some hf
          exact ih b0 (s2 + 1) q (k_inl hq) ls (lv_sub hl [1, 0] rfl) kx kr17
        · have hf := k_F c3 hf
          refine lv_iload_n hx hb dX3_lowestFence_16 rfl (lv_at hl 1 rfl) ?_
          obtain rfl := k_some hf
          obtain rfl := k_some (k_inr hq)
          exact kr17 ls s2 rfl hl.1
  unfold f_X3_lowestFence at hf
  refine lv_iconst (v := 0) hx hb dX3_lowestFence_0 (by decide) ?_
  refine lv_istore_n (lv' := [(1, .int 0), (0, .int a0)]) hx hb dX3_lowestFence_1 rfl hl (by decide) rfl (fun ls hl => ?_)
  obtain ⟨x4, hx4, hf⟩ := k_B hf
  refine L2 _ 1000 a0 0 x4 hx4 ls (lv_sub hl [1, 0] rfl) ?_ ?_
  · intro ls z5 ez5 hl
    subst ez5
    have hf := k_inl hf
    refine lv_iconst (v := (-1)) hx hb dX3_lowestFence_24 (by decide) ?_
    obtain rfl := k_some hf
    exact W.iret (v := (-1)) hx hb hr (fun t ht hW => ⟨rfl, ht⟩) (fun q h => absurd h List.not_mem_nil) dX3_lowestFence_25
  · intro ls r6 er6 hls
    subst er6
    have hf := k_inr hf
    obtain rfl := k_some hf
    exact W.iret (v := r6) hx hb hr (fun t ht hW => ⟨rfl, ht⟩) (fun q h => absurd h List.not_mem_nil) dX3_lowestFence_17
def t_X6_lastFences_4 (b0 : Int32) (s4 : Int32 × Int32) : Option ((Int32 × Int32) ⊕ (Int32 × Int32)) :=
  if 12 ≤ s4.2 then
    some (.inr (s4.1, s4.2))
  else
    (f_X3_countSides b0 s4.2).bind fun v2 =>
    if v2 = 3 then
      (f_X3_sides s4.2).bind fun v4 =>
      k_let (s4.1 ||| (v4 &&& (b0 ^^^ (-1)))) fun y5 =>
      some (.inl (y5, s4.2 + 1))
    else
      some (.inl (s4.1, s4.2 + 1))
def f_X6_lastFences (a0 : Int32) : Option Int32 :=
  (k_loop (t_X6_lastFences_4 a0) 1000 (0, 0)).bind fun x6 =>
  some x6.1
abbrev rm_X6_lastFences : Room := { frames := 2, cells := 0, slots := 0, locals := 42 }
theorem hd_X6_lastFences : yX6_lastFences.cls ≠ "java/lang/invoke/MethodHandle" ∧ yX6_lastFences.cls ≠ "java/lang/invoke/VarHandle" ∧ (parseMethodDescriptor yX6_lastFences.desc).map (fun d => d.parameters.length) = some 1 := by decide +kernel
set_option maxHeartbeats 4000000 in
set_option maxRecDepth 100000 in
theorem c_X6_lastFences (l : Launch) (a0 : Int32) (r : Int32) (hf : f_X6_lastFences a0 = some r) : k_PMet l yX6_lastFences wsX6_lastFences rm_X6_lastFences [.int a0] r := by
  refine k_pureOf (cc := cX6_lastFences) (maxL := 3) (ret := (some .int)) (by decide) rfl (Nat.le_of_ble_eq_true rfl) ?_
  intro p e s m args below meth c ls hx hb hr hlocks hml hown hts hl
  have hl : lv_has ls 3 [(0, .int a0)] := hl
  have L4 : ∀ (Q : State → Prop) (n : Nat) (b0 : Int32) (s4 : Int32 × Int32) (q : (Int32 × Int32)), k_loop (t_X6_lastFences_4 b0) n s4 = some q → ∀ (ls : Array Slot), lv_has ls 3 [(0, .int b0), (1, .int s4.1), (2, .int s4.2)] → (∀ (ls : Array Slot), True → lv_has ls 3 [(1, .int q.1)] → W p l e rm_X6_lastFences s m args below meth c s.heap [] 0 0 Q (F0 m 36 ls [])) → W p l e rm_X6_lastFences s m args below meth c s.heap [] 0 0 Q (F0 m 4 ls []) := by
    intro Q n
    induction n with
    | zero =>
      intro b0 s4 q hq
      exact (k_loop0 hq).elim
    | succ n ih =>
      intro b0 s4 q hq ls hl kx 
      obtain ⟨x, hf, hq⟩ := k_loopE hq
      unfold t_X6_lastFences_4 at hf
      refine lv_iload_n hx hb dX6_lastFences_4 rfl (lv_at hl 2 rfl) ?_
      refine lv_bipush (v := 12) hx hb dX6_lastFences_5 (by decide) ?_
      refine lv_icmp_ge (tgt := 36) hx hb dX6_lastFences_7 (by decide) (fun c1 => ?_) (fun c1 => ?_)
      · have hf := k_T c1 hf
        obtain rfl := k_some hf
        obtain rfl := k_some (k_inr hq)
        exact kx ls trivial (lv_sub hl [1] rfl)
      · have hf := k_F c1 hf
        refine lv_iload_n hx hb dX6_lastFences_10 rfl (lv_at hl 0 rfl) ?_
        refine lv_iload_n hx hb dX6_lastFences_11 rfl (lv_at hl 2 rfl) ?_
        obtain ⟨v2, hv2, hf⟩ := k_B hf
        refine k_callS (As := [.int b0, .int s4.2]) (rest := []) ⟨hx, hb, hml, hown, hts⟩ (c_X3_countSides l b0 s4.2 v2 hv2) (va_cwS 2 hts gX6_lastFences_X3_countSides rfl rfl rfl hd_X3_countSides ⟨Nat.le_of_ble_eq_true rfl, Nat.le_of_ble_eq_true rfl⟩) rfl hl.1 rfl (Nat.le_of_ble_eq_true rfl) dX6_lastFences_12 ⟨Nat.zero_le _, Nat.zero_le _⟩ ?_
        refine lv_iconst (v := 3) hx hb dX6_lastFences_15 (by decide) ?_
        refine lv_icmp_ne (tgt := 30) hx hb dX6_lastFences_16 (by decide) (fun c3 => ?_) (fun c3 => ?_)
        · have hf := k_F c3 hf
          refine lv_iinc (v := s4.2 + 1) (lv' := [(2, .int (s4.2 + 1)), (0, .int b0), (1, .int s4.1)]) hx hb dX6_lastFences_30 hl (k := 2) rfl rfl (by decide) rfl (fun ls hl => ?_)
          refine lv_goto (tgt := 4) hx hb dX6_lastFences_33 (by decide) ?_
          obtain rfl := k_some hf
          exact ih b0 (s4.1, s4.2 + 1) q (k_inl hq) ls (lv_sub hl [1, 2, 0] rfl) kx 
        · have hf := k_T c3 hf
          refine lv_iload_n hx hb dX6_lastFences_19 rfl (lv_at hl 1 rfl) ?_
          refine lv_iload_n hx hb dX6_lastFences_20 rfl (lv_at hl 2 rfl) ?_
          obtain ⟨v4, hv4, hf⟩ := k_B hf
          refine k_callS (As := [.int s4.2]) (rest := [.int s4.1]) ⟨hx, hb, hml, hown, hts⟩ (c_X3_sides l s4.2 v4 hv4) (va_cwS 1 hts gX6_lastFences_X3_sides rfl rfl rfl hd_X3_sides ⟨Nat.le_of_ble_eq_true rfl, Nat.le_of_ble_eq_true rfl⟩) rfl hl.1 rfl (Nat.le_of_ble_eq_true rfl) dX6_lastFences_21 ⟨Nat.zero_le _, Nat.zero_le _⟩ ?_
          refine lv_iload_n hx hb dX6_lastFences_24 rfl (lv_at hl 0 rfl) ?_
          refine lv_iconst (v := (-1)) hx hb dX6_lastFences_25 (by decide) ?_
          refine lv_ixor hx hb dX6_lastFences_26 ?_
          refine lv_iand hx hb dX6_lastFences_27 ?_
          refine lv_ior hx hb dX6_lastFences_28 ?_
          obtain ⟨y5, ey5, hf⟩ := k_L hf
          refine k_name ey5 ?_
          refine lv_istore_n (lv' := [(1, .int y5), (0, .int b0), (2, .int s4.2)]) hx hb dX6_lastFences_29 rfl hl (by decide) rfl (fun ls hl => ?_)
          refine lv_iinc (v := s4.2 + 1) (lv' := [(2, .int (s4.2 + 1)), (1, .int y5), (0, .int b0)]) hx hb dX6_lastFences_30 hl (k := 2) rfl rfl (by decide) rfl (fun ls hl => ?_)
          refine lv_goto (tgt := 4) hx hb dX6_lastFences_33 (by decide) ?_
          obtain rfl := k_some hf
          exact ih b0 (y5, s4.2 + 1) q (k_inl hq) ls (lv_sub hl [2, 1, 0] rfl) kx 
  unfold f_X6_lastFences at hf
  refine lv_iconst (v := 0) hx hb dX6_lastFences_0 (by decide) ?_
  refine lv_istore_n (lv' := [(1, .int 0), (0, .int a0)]) hx hb dX6_lastFences_1 rfl hl (by decide) rfl (fun ls hl => ?_)
  refine lv_iconst (v := 0) hx hb dX6_lastFences_2 (by decide) ?_
  refine lv_istore_n (lv' := [(2, .int 0), (1, .int 0), (0, .int a0)]) hx hb dX6_lastFences_3 rfl hl (by decide) rfl (fun ls hl => ?_)
  obtain ⟨x6, hx6, hf⟩ := k_B hf
  refine L4 _ 1000 a0 (0, 0) x6 hx6 ls (lv_sub hl [2, 1, 0] rfl) ?_
  · intro ls _ hl
    refine lv_iload_n hx hb dX6_lastFences_36 rfl (lv_at hl 0 rfl) ?_
    obtain rfl := k_some hf
    exact W.iret (v := x6.1) hx hb hr (fun t ht hW => ⟨rfl, ht⟩) (fun q h => absurd h List.not_mem_nil) dX6_lastFences_37
def t_X6_oneByOne_6  (s6 : Int32 × Int32 × Int32) : Option ((Int32 × Int32 × Int32) ⊕ ((Int32 × Int32 × Int32) ⊕ Int32)) :=
  if 31 ≤ s6.2.2 then
    some (.inr (.inl (s6.1, s6.2.1, s6.2.2)))
  else
    (f_X6_lastFences s6.1).bind fun v2 =>
    (f_X3_lowestFence v2).bind fun v3 =>
    if v3 = (-1) then
      some (.inr (.inr s6.2.1))
    else
      k_let (s6.1 ||| ((1 : Int32) <<< (v3 &&& 31))) fun y5 =>
      (f_X3_closedWith y5 v3).bind fun v6 =>
      (f_J6_bitCount_0f7a4 v6).bind fun v7 =>
      k_let (s6.2.1 + v7) fun y8 =>
      some (.inl (y5, y8, s6.2.2 + 1))
def f_X6_oneByOne (a0 : Int32) : Option Int32 :=
  (k_loop (t_X6_oneByOne_6 ) 1000 (a0, 0, 0)).bind fun x9 =>
  Sum.elim (fun z10 =>
    some z10.2.1
  ) (fun r11 => some r11) x9
abbrev rm_X6_oneByOne : Room := { frames := 3, cells := 0, slots := 0, locals := 66 }
theorem hd_X6_oneByOne : yX6_oneByOne.cls ≠ "java/lang/invoke/MethodHandle" ∧ yX6_oneByOne.cls ≠ "java/lang/invoke/VarHandle" ∧ (parseMethodDescriptor yX6_oneByOne.desc).map (fun d => d.parameters.length) = some 1 := by decide +kernel
set_option maxHeartbeats 4000000 in
set_option maxRecDepth 100000 in
theorem c_X6_oneByOne (l : Launch) (a0 : Int32) (r : Int32) (hf : f_X6_oneByOne a0 = some r) : k_PMet l yX6_oneByOne wsX6_oneByOne rm_X6_oneByOne [.int a0] r := by
  refine k_pureOf (cc := cX6_oneByOne) (maxL := 5) (ret := (some .int)) (by decide) rfl (Nat.le_of_ble_eq_true rfl) ?_
  intro p e s m args below meth c ls hx hb hr hlocks hml hown hts hl
  have hl : lv_has ls 5 [(0, .int a0)] := hl
  have L6 : ∀ (Q : State → Prop) (n : Nat)  (s6 : Int32 × Int32 × Int32) (q : ((Int32 × Int32 × Int32) ⊕ Int32)), k_loop (t_X6_oneByOne_6 ) n s6 = some q → ∀ (ls : Array Slot), lv_has ls 5 [(1, .int s6.1), (2, .int s6.2.1), (3, .int s6.2.2)] → (∀ (ls : Array Slot) (x : Int32 × Int32 × Int32), q = .inl x → lv_has ls 5 [(2, .int x.2.1)] → W p l e rm_X6_oneByOne s m args below meth c s.heap [] 0 0 Q (F0 m 54 ls [])) → (∀ (ls : Array Slot) (rr : Int32), q = .inr rr → ls.size = 5 → W p l e rm_X6_oneByOne s m args below meth c s.heap [] 0 0 Q (F0 m 28 ls [.int rr])) → W p l e rm_X6_oneByOne s m args below meth c s.heap [] 0 0 Q (F0 m 6 ls []) := by
    intro Q n
    induction n with
    | zero =>
      intro  s6 q hq
      exact (k_loop0 hq).elim
    | succ n ih =>
      intro  s6 q hq ls hl kx kr28
      obtain ⟨x, hf, hq⟩ := k_loopE hq
      unfold t_X6_oneByOne_6 at hf
      refine lv_iload_n hx hb dX6_oneByOne_6 rfl (lv_at hl 2 rfl) ?_
      refine lv_bipush (v := 31) hx hb dX6_oneByOne_7 (by decide) ?_
      refine lv_icmp_ge (tgt := 54) hx hb dX6_oneByOne_9 (by decide) (fun c1 => ?_) (fun c1 => ?_)
      · have hf := k_T c1 hf
        obtain rfl := k_some hf
        obtain rfl := k_some (k_inr hq)
        exact kx ls (s6.1, s6.2.1, s6.2.2) rfl (lv_sub hl [1] rfl)
      · have hf := k_F c1 hf
        refine lv_iload_n hx hb dX6_oneByOne_12 rfl (lv_at hl 0 rfl) ?_
        obtain ⟨v2, hv2, hf⟩ := k_B hf
        refine k_callS (As := [.int s6.1]) (rest := []) ⟨hx, hb, hml, hown, hts⟩ (c_X6_lastFences l s6.1 v2 hv2) (va_cwS 1 hts gX6_oneByOne_X6_lastFences rfl rfl rfl hd_X6_lastFences ⟨Nat.le_of_ble_eq_true rfl, Nat.le_of_ble_eq_true rfl⟩) rfl hl.1 rfl (Nat.le_of_ble_eq_true rfl) dX6_oneByOne_13 ⟨Nat.zero_le _, Nat.zero_le _⟩ ?_
        obtain ⟨v3, hv3, hf⟩ := k_B hf
        refine k_callS (As := [.int v2]) (rest := []) ⟨hx, hb, hml, hown, hts⟩ (c_X3_lowestFence l v2 v3 hv3) (va_cwS 1 hts gX6_oneByOne_X3_lowestFence rfl rfl rfl hd_X3_lowestFence ⟨Nat.le_of_ble_eq_true rfl, Nat.le_of_ble_eq_true rfl⟩) rfl hl.1 rfl (Nat.le_of_ble_eq_true rfl) dX6_oneByOne_16 ⟨Nat.zero_le _, Nat.zero_le _⟩ ?_
        refine lv_istore (lv' := [(4, .int v3), (1, .int s6.1), (2, .int s6.2.1), (3, .int s6.2.2)]) hx hb dX6_oneByOne_19 hl (by decide) rfl (fun ls hl => ?_)
        refine lv_iload hx hb dX6_oneByOne_21 (lv_at hl 0 rfl) ?_
        refine lv_iconst (v := (-1)) hx hb dX6_oneByOne_23 (by decide) ?_
        refine lv_icmp_ne (tgt := 29) hx hb dX6_oneByOne_24 (by decide) (fun c4 => ?_) (fun c4 => ?_)
        · have hf := k_F c4 hf
          refine lv_iload_n hx hb dX6_oneByOne_29 rfl (lv_at hl 1 rfl) ?_
          refine lv_iconst (v := 1) hx hb dX6_oneByOne_30 (by decide) ?_
          refine lv_iload hx hb dX6_oneByOne_31 (lv_at hl 0 rfl) ?_
          refine lv_ishl hx hb dX6_oneByOne_33 ?_
          refine lv_ior hx hb dX6_oneByOne_34 ?_
          obtain ⟨y5, ey5, hf⟩ := k_L hf
          refine k_name ey5 ?_
          refine lv_istore_n (lv' := [(1, .int y5), (4, .int v3), (2, .int s6.2.1), (3, .int s6.2.2)]) hx hb dX6_oneByOne_35 rfl hl (by decide) rfl (fun ls hl => ?_)
          refine lv_iload_n hx hb dX6_oneByOne_36 rfl (lv_at hl 2 rfl) ?_
          refine lv_iload_n hx hb dX6_oneByOne_37 rfl (lv_at hl 0 rfl) ?_
          refine lv_iload hx hb dX6_oneByOne_38 (lv_at hl 1 rfl) ?_
          obtain ⟨v6, hv6, hf⟩ := k_B hf
          refine k_callS (As := [.int y5, .int v3]) (rest := [.int s6.2.1]) ⟨hx, hb, hml, hown, hts⟩ (c_X3_closedWith l y5 v3 v6 hv6) (va_cwS 2 hts gX6_oneByOne_X3_closedWith rfl rfl rfl hd_X3_closedWith ⟨Nat.le_of_ble_eq_true rfl, Nat.le_of_ble_eq_true rfl⟩) rfl hl.1 rfl (Nat.le_of_ble_eq_true rfl) dX6_oneByOne_40 ⟨Nat.zero_le _, Nat.zero_le _⟩ ?_
          obtain ⟨v7, hv7, hf⟩ := k_B hf
          refine k_callS (As := [.int v6]) (rest := [.int s6.2.1]) ⟨hx, hb, hml, hown, hts⟩ (c_J6_bitCount_0f7a4 l v6 v7 hv7) (va_cwS 1 hts gX6_oneByOne_J6_bitCount_0f7a4 rfl rfl rfl hd_J6_bitCount_0f7a4 ⟨Nat.le_of_ble_eq_true rfl, Nat.le_of_ble_eq_true rfl⟩) rfl hl.1 rfl (Nat.le_of_ble_eq_true rfl) dX6_oneByOne_43 ⟨Nat.zero_le _, Nat.zero_le _⟩ ?_
          refine lv_iadd hx hb dX6_oneByOne_46 ?_
          obtain ⟨y8, ey8, hf⟩ := k_L hf
          refine k_name ey8 ?_
          refine lv_istore_n (lv' := [(2, .int y8), (1, .int y5), (4, .int v3), (3, .int s6.2.2)]) hx hb dX6_oneByOne_47 rfl hl (by decide) rfl (fun ls hl => ?_)
          refine lv_iinc (v := s6.2.2 + 1) (lv' := [(3, .int (s6.2.2 + 1)), (2, .int y8), (1, .int y5), (4, .int v3)]) hx hb dX6_oneByOne_48 hl (k := 3) rfl rfl (by decide) rfl (fun ls hl => ?_)
          refine lv_goto (tgt := 6) hx hb dX6_oneByOne_51 (by decide) ?_
          obtain rfl := k_some hf
          exact ih  (y5, y8, s6.2.2 + 1) q (k_inl hq) ls (lv_sub hl [2, 1, 0] rfl) kx kr28
        · have hf := k_T c4 hf
          refine lv_iload_n hx hb dX6_oneByOne_27 rfl (lv_at hl 2 rfl) ?_
          obtain rfl := k_some hf
          obtain rfl := k_some (k_inr hq)
          exact kr28 ls s6.2.1 rfl hl.1
  unfold f_X6_oneByOne at hf
  refine lv_iload_n hx hb dX6_oneByOne_0 rfl (lv_at hl 0 rfl) ?_
  refine lv_istore_n (lv' := [(1, .int a0), (0, .int a0)]) hx hb dX6_oneByOne_1 rfl hl (by decide) rfl (fun ls hl => ?_)
  refine lv_iconst (v := 0) hx hb dX6_oneByOne_2 (by decide) ?_
  refine lv_istore_n (lv' := [(2, .int 0), (1, .int a0), (0, .int a0)]) hx hb dX6_oneByOne_3 rfl hl (by decide) rfl (fun ls hl => ?_)
  refine lv_iconst (v := 0) hx hb dX6_oneByOne_4 (by decide) ?_
  refine lv_istore_n (lv' := [(3, .int 0), (2, .int 0), (1, .int a0), (0, .int a0)]) hx hb dX6_oneByOne_5 rfl hl (by decide) rfl (fun ls hl => ?_)
  obtain ⟨x9, hx9, hf⟩ := k_B hf
  refine L6 _ 1000  (a0, 0, 0) x9 hx9 ls (lv_sub hl [2, 1, 0] rfl) ?_ ?_
  · intro ls z10 ez10 hl
    subst ez10
    have hf := k_inl hf
    refine lv_iload_n hx hb dX6_oneByOne_54 rfl (lv_at hl 0 rfl) ?_
    obtain rfl := k_some hf
    exact W.iret (v := z10.2.1) hx hb hr (fun t ht hW => ⟨rfl, ht⟩) (fun q h => absurd h List.not_mem_nil) dX6_oneByOne_55
  · intro ls r11 er11 hls
    subst er11
    have hf := k_inr hf
    obtain rfl := k_some hf
    exact W.iret (v := r11) hx hb hr (fun t ht hW => ⟨rfl, ht⟩) (fun q h => absurd h List.not_mem_nil) dX6_oneByOne_28
def t_X6_byRounds_13 (b2 : Int32) (s13 : Int32 × Int32) : Option ((Int32 × Int32) ⊕ (Int32 × Int32)) :=
  if 31 ≤ s13.2 then
    some (.inr (s13.1, s13.2))
  else
    (f_X6_lastFences s13.1).bind fun v4 =>
    if v4 = 0 then
      some (.inr (s13.1, s13.2))
    else
      k_let (s13.1 ||| v4) fun y6 =>
      some (.inl (y6, s13.2 + 1))
def f_X6_byRounds (a0 : Int32) : Option Int32 :=
  (f_X3_boxesHaving a0 4).bind fun v1 =>
  (f_J6_bitCount_0f7a4 v1).bind fun v2 =>
  (k_loop (t_X6_byRounds_13 v2) 1000 (a0, 0)).bind fun x7 =>
  (f_X3_boxesHaving x7.1 4).bind fun v8 =>
  (f_J6_bitCount_0f7a4 v8).bind fun v9 =>
  some (v9 - v2)
abbrev rm_X6_byRounds : Room := { frames := 3, cells := 0, slots := 0, locals := 65 }
theorem hd_X6_byRounds : yX6_byRounds.cls ≠ "java/lang/invoke/MethodHandle" ∧ yX6_byRounds.cls ≠ "java/lang/invoke/VarHandle" ∧ (parseMethodDescriptor yX6_byRounds.desc).map (fun d => d.parameters.length) = some 1 := by decide +kernel
set_option maxHeartbeats 4000000 in
set_option maxRecDepth 100000 in
theorem c_X6_byRounds (l : Launch) (a0 : Int32) (r : Int32) (hf : f_X6_byRounds a0 = some r) : k_PMet l yX6_byRounds wsX6_byRounds rm_X6_byRounds [.int a0] r := by
  refine k_pureOf (cc := cX6_byRounds) (maxL := 5) (ret := (some .int)) (by decide) rfl (Nat.le_of_ble_eq_true rfl) ?_
  intro p e s m args below meth c ls hx hb hr hlocks hml hown hts hl
  have hl : lv_has ls 5 [(0, .int a0)] := hl
  have L13 : ∀ (Q : State → Prop) (n : Nat) (b2 : Int32) (s13 : Int32 × Int32) (q : (Int32 × Int32)), k_loop (t_X6_byRounds_13 b2) n s13 = some q → ∀ (ls : Array Slot), lv_has ls 5 [(1, .int s13.1), (2, .int b2), (3, .int s13.2)] → (∀ (ls : Array Slot), True → lv_has ls 5 [(1, .int q.1), (2, .int b2)] → W p l e rm_X6_byRounds s m args below meth c s.heap [] 0 0 Q (F0 m 44 ls [])) → W p l e rm_X6_byRounds s m args below meth c s.heap [] 0 0 Q (F0 m 13 ls []) := by
    intro Q n
    induction n with
    | zero =>
      intro b2 s13 q hq
      exact (k_loop0 hq).elim
    | succ n ih =>
      intro b2 s13 q hq ls hl kx 
      obtain ⟨x, hf, hq⟩ := k_loopE hq
      unfold t_X6_byRounds_13 at hf
      refine lv_iload_n hx hb dX6_byRounds_13 rfl (lv_at hl 2 rfl) ?_
      refine lv_bipush (v := 31) hx hb dX6_byRounds_14 (by decide) ?_
      refine lv_icmp_ge (tgt := 44) hx hb dX6_byRounds_16 (by decide) (fun c3 => ?_) (fun c3 => ?_)
      · have hf := k_T c3 hf
        obtain rfl := k_some hf
        obtain rfl := k_some (k_inr hq)
        exact kx ls trivial (lv_sub hl [0, 1] rfl)
      · have hf := k_F c3 hf
        refine lv_iload_n hx hb dX6_byRounds_19 rfl (lv_at hl 0 rfl) ?_
        obtain ⟨v4, hv4, hf⟩ := k_B hf
        refine k_callS (As := [.int s13.1]) (rest := []) ⟨hx, hb, hml, hown, hts⟩ (c_X6_lastFences l s13.1 v4 hv4) (va_cwS 1 hts gX6_byRounds_X6_lastFences rfl rfl rfl hd_X6_lastFences ⟨Nat.le_of_ble_eq_true rfl, Nat.le_of_ble_eq_true rfl⟩) rfl hl.1 rfl (Nat.le_of_ble_eq_true rfl) dX6_byRounds_20 ⟨Nat.zero_le _, Nat.zero_le _⟩ ?_
        refine lv_istore (lv' := [(4, .int v4), (1, .int s13.1), (2, .int b2), (3, .int s13.2)]) hx hb dX6_byRounds_23 hl (by decide) rfl (fun ls hl => ?_)
        refine lv_iload hx hb dX6_byRounds_25 (lv_at hl 0 rfl) ?_
        refine lv_if_ne (tgt := 33) hx hb dX6_byRounds_27 (by decide) (fun c5 => ?_) (fun c5 => ?_)
        · have hf := k_F c5 hf
          refine lv_iload_n hx hb dX6_byRounds_33 rfl (lv_at hl 1 rfl) ?_
          refine lv_iload hx hb dX6_byRounds_34 (lv_at hl 0 rfl) ?_
          refine lv_ior hx hb dX6_byRounds_36 ?_
          obtain ⟨y6, ey6, hf⟩ := k_L hf
          refine k_name ey6 ?_
          refine lv_istore_n (lv' := [(1, .int y6), (4, .int v4), (2, .int b2), (3, .int s13.2)]) hx hb dX6_byRounds_37 rfl hl (by decide) rfl (fun ls hl => ?_)
          refine lv_iinc (v := s13.2 + 1) (lv' := [(3, .int (s13.2 + 1)), (1, .int y6), (4, .int v4), (2, .int b2)]) hx hb dX6_byRounds_38 hl (k := 3) rfl rfl (by decide) rfl (fun ls hl => ?_)
          refine lv_goto (tgt := 13) hx hb dX6_byRounds_41 (by decide) ?_
          obtain rfl := k_some hf
          exact ih b2 (y6, s13.2 + 1) q (k_inl hq) ls (lv_sub hl [1, 3, 0] rfl) kx 
        · have hf := k_T c5 hf
          refine lv_goto (tgt := 44) hx hb dX6_byRounds_30 (by decide) ?_
          obtain rfl := k_some hf
          obtain rfl := k_some (k_inr hq)
          exact kx ls trivial (lv_sub hl [1, 2] rfl)
  unfold f_X6_byRounds at hf
  refine lv_iload_n hx hb dX6_byRounds_0 rfl (lv_at hl 0 rfl) ?_
  refine lv_istore_n (lv' := [(1, .int a0), (0, .int a0)]) hx hb dX6_byRounds_1 rfl hl (by decide) rfl (fun ls hl => ?_)
  refine lv_iload_n hx hb dX6_byRounds_2 rfl (lv_at hl 1 rfl) ?_
  refine lv_iconst (v := 4) hx hb dX6_byRounds_3 (by decide) ?_
  obtain ⟨v1, hv1, hf⟩ := k_B hf
  refine k_callS (As := [.int a0, .int 4]) (rest := []) ⟨hx, hb, hml, hown, hts⟩ (c_X3_boxesHaving l a0 4 v1 hv1) (va_cwS 2 hts gX6_byRounds_X3_boxesHaving rfl rfl rfl hd_X3_boxesHaving ⟨Nat.le_of_ble_eq_true rfl, Nat.le_of_ble_eq_true rfl⟩) rfl hl.1 rfl (Nat.le_of_ble_eq_true rfl) dX6_byRounds_4 ⟨Nat.zero_le _, Nat.zero_le _⟩ ?_
  obtain ⟨v2, hv2, hf⟩ := k_B hf
  refine k_callS (As := [.int v1]) (rest := []) ⟨hx, hb, hml, hown, hts⟩ (c_J6_bitCount_0f7a4 l v1 v2 hv2) (va_cwS 1 hts gX6_byRounds_J6_bitCount_0f7a4 rfl rfl rfl hd_J6_bitCount_0f7a4 ⟨Nat.le_of_ble_eq_true rfl, Nat.le_of_ble_eq_true rfl⟩) rfl hl.1 rfl (Nat.le_of_ble_eq_true rfl) dX6_byRounds_7 ⟨Nat.zero_le _, Nat.zero_le _⟩ ?_
  refine lv_istore_n (lv' := [(2, .int v2), (1, .int a0), (0, .int a0)]) hx hb dX6_byRounds_10 rfl hl (by decide) rfl (fun ls hl => ?_)
  refine lv_iconst (v := 0) hx hb dX6_byRounds_11 (by decide) ?_
  refine lv_istore_n (lv' := [(3, .int 0), (2, .int v2), (1, .int a0), (0, .int a0)]) hx hb dX6_byRounds_12 rfl hl (by decide) rfl (fun ls hl => ?_)
  obtain ⟨x7, hx7, hf⟩ := k_B hf
  refine L13 _ 1000 v2 (a0, 0) x7 hx7 ls (lv_sub hl [2, 1, 0] rfl) ?_
  · intro ls _ hl
    refine lv_iload_n hx hb dX6_byRounds_44 rfl (lv_at hl 0 rfl) ?_
    refine lv_iconst (v := 4) hx hb dX6_byRounds_45 (by decide) ?_
    obtain ⟨v8, hv8, hf⟩ := k_B hf
    refine k_callS (As := [.int x7.1, .int 4]) (rest := []) ⟨hx, hb, hml, hown, hts⟩ (c_X3_boxesHaving l x7.1 4 v8 hv8) (va_cwS 2 hts gX6_byRounds_X3_boxesHaving rfl rfl rfl hd_X3_boxesHaving ⟨Nat.le_of_ble_eq_true rfl, Nat.le_of_ble_eq_true rfl⟩) rfl hl.1 rfl (Nat.le_of_ble_eq_true rfl) dX6_byRounds_46 ⟨Nat.zero_le _, Nat.zero_le _⟩ ?_
    obtain ⟨v9, hv9, hf⟩ := k_B hf
    refine k_callS (As := [.int v8]) (rest := []) ⟨hx, hb, hml, hown, hts⟩ (c_J6_bitCount_0f7a4 l v8 v9 hv9) (va_cwS 1 hts gX6_byRounds_J6_bitCount_0f7a4 rfl rfl rfl hd_J6_bitCount_0f7a4 ⟨Nat.le_of_ble_eq_true rfl, Nat.le_of_ble_eq_true rfl⟩) rfl hl.1 rfl (Nat.le_of_ble_eq_true rfl) dX6_byRounds_49 ⟨Nat.zero_le _, Nat.zero_le _⟩ ?_
    refine lv_iload_n hx hb dX6_byRounds_52 rfl (lv_at hl 1 rfl) ?_
    refine lv_isub hx hb dX6_byRounds_53 ?_
    obtain rfl := k_some hf
    exact W.iret (v := v9 - v2) hx hb hr (fun t ht hW => ⟨rfl, ht⟩) (fun q h => absurd h List.not_mem_nil) dX6_byRounds_54
def t_X6_safe_16 (b0 : Int32) (b1 : Int32) (s16 : Int32 × Int32) : Option ((Int32 × Int32) ⊕ (Int32 × Int32)) :=
  if 31 ≤ s16.2 then
    some (.inr (s16.1, s16.2))
  else
    (f_X3_has b0 s16.2).bind fun v5 =>
    if v5 = 0 then
      (f_X3_boxesBeside s16.2).bind fun v7 =>
      if (v7 &&& b1) = 0 then
        k_let (s16.1 ||| ((1 : Int32) <<< (s16.2 &&& 31))) fun y9 =>
        some (.inl (y9, s16.2 + 1))
      else
        some (.inl (s16.1, s16.2 + 1))
    else
      some (.inl (s16.1, s16.2 + 1))
def f_X6_safe (a0 : Int32) : Option Int32 :=
  (f_X3_boxesHaving a0 2).bind fun v1 =>
  (f_X3_boxesHaving a0 3).bind fun v2 =>
  k_let (v1 ||| v2) fun y3 =>
  (k_loop (t_X6_safe_16 a0 y3) 1000 (0, 0)).bind fun x10 =>
  some x10.1
abbrev rm_X6_safe : Room := { frames := 3, cells := 0, slots := 0, locals := 65 }
theorem hd_X6_safe : yX6_safe.cls ≠ "java/lang/invoke/MethodHandle" ∧ yX6_safe.cls ≠ "java/lang/invoke/VarHandle" ∧ (parseMethodDescriptor yX6_safe.desc).map (fun d => d.parameters.length) = some 1 := by decide +kernel
set_option maxHeartbeats 4000000 in
set_option maxRecDepth 100000 in
theorem c_X6_safe (l : Launch) (a0 : Int32) (r : Int32) (hf : f_X6_safe a0 = some r) : k_PMet l yX6_safe wsX6_safe rm_X6_safe [.int a0] r := by
  refine k_pureOf (cc := cX6_safe) (maxL := 4) (ret := (some .int)) (by decide) rfl (Nat.le_of_ble_eq_true rfl) ?_
  intro p e s m args below meth c ls hx hb hr hlocks hml hown hts hl
  have hl : lv_has ls 4 [(0, .int a0)] := hl
  have L16 : ∀ (Q : State → Prop) (n : Nat) (b0 : Int32) (b1 : Int32) (s16 : Int32 × Int32) (q : (Int32 × Int32)), k_loop (t_X6_safe_16 b0 b1) n s16 = some q → ∀ (ls : Array Slot), lv_has ls 4 [(0, .int b0), (1, .int b1), (2, .int s16.1), (3, .int s16.2)] → (∀ (ls : Array Slot), True → lv_has ls 4 [(2, .int q.1)] → W p l e rm_X6_safe s m args below meth c s.heap [] 0 0 Q (F0 m 51 ls [])) → W p l e rm_X6_safe s m args below meth c s.heap [] 0 0 Q (F0 m 16 ls []) := by
    intro Q n
    induction n with
    | zero =>
      intro b0 b1 s16 q hq
      exact (k_loop0 hq).elim
    | succ n ih =>
      intro b0 b1 s16 q hq ls hl kx 
      obtain ⟨x, hf, hq⟩ := k_loopE hq
      unfold t_X6_safe_16 at hf
      refine lv_iload_n hx hb dX6_safe_16 rfl (lv_at hl 3 rfl) ?_
      refine lv_bipush (v := 31) hx hb dX6_safe_17 (by decide) ?_
      refine lv_icmp_ge (tgt := 51) hx hb dX6_safe_19 (by decide) (fun c4 => ?_) (fun c4 => ?_)
      · have hf := k_T c4 hf
        obtain rfl := k_some hf
        obtain rfl := k_some (k_inr hq)
        exact kx ls trivial (lv_sub hl [2] rfl)
      · have hf := k_F c4 hf
        refine lv_iload_n hx hb dX6_safe_22 rfl (lv_at hl 0 rfl) ?_
        refine lv_iload_n hx hb dX6_safe_23 rfl (lv_at hl 3 rfl) ?_
        obtain ⟨v5, hv5, hf⟩ := k_B hf
        refine k_callS (As := [.int b0, .int s16.2]) (rest := []) ⟨hx, hb, hml, hown, hts⟩ (c_X3_has l b0 s16.2 v5 hv5) (va_cwS 2 hts gX6_safe_X3_has rfl rfl rfl hd_X3_has ⟨Nat.le_of_ble_eq_true rfl, Nat.le_of_ble_eq_true rfl⟩) rfl hl.1 rfl (Nat.le_of_ble_eq_true rfl) dX6_safe_24 ⟨Nat.zero_le _, Nat.zero_le _⟩ ?_
        refine lv_if_ne (tgt := 45) hx hb dX6_safe_27 (by decide) (fun c6 => ?_) (fun c6 => ?_)
        · have hf := k_F c6 hf
          refine lv_iinc (v := s16.2 + 1) (lv' := [(3, .int (s16.2 + 1)), (0, .int b0), (1, .int b1), (2, .int s16.1)]) hx hb dX6_safe_45 hl (k := 3) rfl rfl (by decide) rfl (fun ls hl => ?_)
          refine lv_goto (tgt := 16) hx hb dX6_safe_48 (by decide) ?_
          obtain rfl := k_some hf
          exact ih b0 b1 (s16.1, s16.2 + 1) q (k_inl hq) ls (lv_sub hl [1, 2, 3, 0] rfl) kx 
        · have hf := k_T c6 hf
          refine lv_iload_n hx hb dX6_safe_30 rfl (lv_at hl 3 rfl) ?_
          obtain ⟨v7, hv7, hf⟩ := k_B hf
          refine k_callS (As := [.int s16.2]) (rest := []) ⟨hx, hb, hml, hown, hts⟩ (c_X3_boxesBeside l s16.2 v7 hv7) (va_cwS 1 hts gX6_safe_X3_boxesBeside rfl rfl rfl hd_X3_boxesBeside ⟨Nat.le_of_ble_eq_true rfl, Nat.le_of_ble_eq_true rfl⟩) rfl hl.1 rfl (Nat.le_of_ble_eq_true rfl) dX6_safe_31 ⟨Nat.zero_le _, Nat.zero_le _⟩ ?_
          refine lv_iload_n hx hb dX6_safe_34 rfl (lv_at hl 1 rfl) ?_
          refine lv_iand hx hb dX6_safe_35 ?_
          refine lv_if_ne (tgt := 45) hx hb dX6_safe_36 (by decide) (fun c8 => ?_) (fun c8 => ?_)
          · have hf := k_F c8 hf
            refine lv_iinc (v := s16.2 + 1) (lv' := [(3, .int (s16.2 + 1)), (0, .int b0), (1, .int b1), (2, .int s16.1)]) hx hb dX6_safe_45 hl (k := 3) rfl rfl (by decide) rfl (fun ls hl => ?_)
            refine lv_goto (tgt := 16) hx hb dX6_safe_48 (by decide) ?_
            obtain rfl := k_some hf
            exact ih b0 b1 (s16.1, s16.2 + 1) q (k_inl hq) ls (lv_sub hl [1, 2, 3, 0] rfl) kx 
          · have hf := k_T c8 hf
            refine lv_iload_n hx hb dX6_safe_39 rfl (lv_at hl 2 rfl) ?_
            refine lv_iconst (v := 1) hx hb dX6_safe_40 (by decide) ?_
            refine lv_iload_n hx hb dX6_safe_41 rfl (lv_at hl 3 rfl) ?_
            refine lv_ishl hx hb dX6_safe_42 ?_
            refine lv_ior hx hb dX6_safe_43 ?_
            obtain ⟨y9, ey9, hf⟩ := k_L hf
            refine k_name ey9 ?_
            refine lv_istore_n (lv' := [(2, .int y9), (0, .int b0), (1, .int b1), (3, .int s16.2)]) hx hb dX6_safe_44 rfl hl (by decide) rfl (fun ls hl => ?_)
            refine lv_iinc (v := s16.2 + 1) (lv' := [(3, .int (s16.2 + 1)), (2, .int y9), (0, .int b0), (1, .int b1)]) hx hb dX6_safe_45 hl (k := 3) rfl rfl (by decide) rfl (fun ls hl => ?_)
            refine lv_goto (tgt := 16) hx hb dX6_safe_48 (by decide) ?_
            obtain rfl := k_some hf
            exact ih b0 b1 (y9, s16.2 + 1) q (k_inl hq) ls (lv_sub hl [2, 3, 1, 0] rfl) kx 
  unfold f_X6_safe at hf
  refine lv_iload_n hx hb dX6_safe_0 rfl (lv_at hl 0 rfl) ?_
  refine lv_iconst (v := 2) hx hb dX6_safe_1 (by decide) ?_
  obtain ⟨v1, hv1, hf⟩ := k_B hf
  refine k_callS (As := [.int a0, .int 2]) (rest := []) ⟨hx, hb, hml, hown, hts⟩ (c_X3_boxesHaving l a0 2 v1 hv1) (va_cwS 2 hts gX6_safe_X3_boxesHaving rfl rfl rfl hd_X3_boxesHaving ⟨Nat.le_of_ble_eq_true rfl, Nat.le_of_ble_eq_true rfl⟩) rfl hl.1 rfl (Nat.le_of_ble_eq_true rfl) dX6_safe_2 ⟨Nat.zero_le _, Nat.zero_le _⟩ ?_
  refine lv_iload_n hx hb dX6_safe_5 rfl (lv_at hl 0 rfl) ?_
  refine lv_iconst (v := 3) hx hb dX6_safe_6 (by decide) ?_
  obtain ⟨v2, hv2, hf⟩ := k_B hf
  refine k_callS (As := [.int a0, .int 3]) (rest := [.int v1]) ⟨hx, hb, hml, hown, hts⟩ (c_X3_boxesHaving l a0 3 v2 hv2) (va_cwS 2 hts gX6_safe_X3_boxesHaving rfl rfl rfl hd_X3_boxesHaving ⟨Nat.le_of_ble_eq_true rfl, Nat.le_of_ble_eq_true rfl⟩) rfl hl.1 rfl (Nat.le_of_ble_eq_true rfl) dX6_safe_7 ⟨Nat.zero_le _, Nat.zero_le _⟩ ?_
  refine lv_ior hx hb dX6_safe_10 ?_
  obtain ⟨y3, ey3, hf⟩ := k_L hf
  refine k_name ey3 ?_
  refine lv_istore_n (lv' := [(1, .int y3), (0, .int a0)]) hx hb dX6_safe_11 rfl hl (by decide) rfl (fun ls hl => ?_)
  refine lv_iconst (v := 0) hx hb dX6_safe_12 (by decide) ?_
  refine lv_istore_n (lv' := [(2, .int 0), (1, .int y3), (0, .int a0)]) hx hb dX6_safe_13 rfl hl (by decide) rfl (fun ls hl => ?_)
  refine lv_iconst (v := 0) hx hb dX6_safe_14 (by decide) ?_
  refine lv_istore_n (lv' := [(3, .int 0), (2, .int 0), (1, .int y3), (0, .int a0)]) hx hb dX6_safe_15 rfl hl (by decide) rfl (fun ls hl => ?_)
  obtain ⟨x10, hx10, hf⟩ := k_B hf
  refine L16 _ 1000 a0 y3 (0, 0) x10 hx10 ls (lv_sub hl [3, 2, 1, 0] rfl) ?_
  · intro ls _ hl
    refine lv_iload_n hx hb dX6_safe_51 rfl (lv_at hl 0 rfl) ?_
    obtain rfl := k_some hf
    exact W.iret (v := x10.1) hx hb hr (fun t ht hW => ⟨rfl, ht⟩) (fun q h => absurd h List.not_mem_nil) dX6_safe_52
def t_X6_safeOneByOne_4  (s4 : Int32 × Int32) : Option ((Int32 × Int32) ⊕ ((Int32 × Int32) ⊕ Int32)) :=
  if 31 ≤ s4.2 then
    some (.inr (.inl (s4.1, s4.2)))
  else
    (f_X6_safe s4.1).bind fun v2 =>
    (f_X3_lowestFence v2).bind fun v3 =>
    if v3 = (-1) then
      some (.inr (.inr s4.2))
    else
      k_let (s4.1 ||| ((1 : Int32) <<< (v3 &&& 31))) fun y5 =>
      some (.inl (y5, s4.2 + 1))
def f_X6_safeOneByOne (a0 : Int32) : Option Int32 :=
  (k_loop (t_X6_safeOneByOne_4 ) 1000 (a0, 0)).bind fun x6 =>
  Sum.elim (fun z7 =>
    some 31
  ) (fun r8 => some r8) x6
abbrev rm_X6_safeOneByOne : Room := { frames := 4, cells := 0, slots := 0, locals := 88 }
theorem hd_X6_safeOneByOne : yX6_safeOneByOne.cls ≠ "java/lang/invoke/MethodHandle" ∧ yX6_safeOneByOne.cls ≠ "java/lang/invoke/VarHandle" ∧ (parseMethodDescriptor yX6_safeOneByOne.desc).map (fun d => d.parameters.length) = some 1 := by decide +kernel
set_option maxHeartbeats 4000000 in
set_option maxRecDepth 100000 in
theorem c_X6_safeOneByOne (l : Launch) (a0 : Int32) (r : Int32) (hf : f_X6_safeOneByOne a0 = some r) : k_PMet l yX6_safeOneByOne wsX6_safeOneByOne rm_X6_safeOneByOne [.int a0] r := by
  refine k_pureOf (cc := cX6_safeOneByOne) (maxL := 4) (ret := (some .int)) (by decide) rfl (Nat.le_of_ble_eq_true rfl) ?_
  intro p e s m args below meth c ls hx hb hr hlocks hml hown hts hl
  have hl : lv_has ls 4 [(0, .int a0)] := hl
  have L4 : ∀ (Q : State → Prop) (n : Nat)  (s4 : Int32 × Int32) (q : ((Int32 × Int32) ⊕ Int32)), k_loop (t_X6_safeOneByOne_4 ) n s4 = some q → ∀ (ls : Array Slot), lv_has ls 4 [(1, .int s4.1), (2, .int s4.2)] → (∀ (ls : Array Slot) (x : Int32 × Int32), q = .inl x → lv_has ls 4 [] → W p l e rm_X6_safeOneByOne s m args below meth c s.heap [] 0 0 Q (F0 m 37 ls [])) → (∀ (ls : Array Slot) (rr : Int32), q = .inr rr → ls.size = 4 → W p l e rm_X6_safeOneByOne s m args below meth c s.heap [] 0 0 Q (F0 m 24 ls [.int rr])) → W p l e rm_X6_safeOneByOne s m args below meth c s.heap [] 0 0 Q (F0 m 4 ls []) := by
    intro Q n
    induction n with
    | zero =>
      intro  s4 q hq
      exact (k_loop0 hq).elim
    | succ n ih =>
      intro  s4 q hq ls hl kx kr24
      obtain ⟨x, hf, hq⟩ := k_loopE hq
      unfold t_X6_safeOneByOne_4 at hf
      refine lv_iload_n hx hb dX6_safeOneByOne_4 rfl (lv_at hl 1 rfl) ?_
      refine lv_bipush (v := 31) hx hb dX6_safeOneByOne_5 (by decide) ?_
      refine lv_icmp_ge (tgt := 37) hx hb dX6_safeOneByOne_7 (by decide) (fun c1 => ?_) (fun c1 => ?_)
      · have hf := k_T c1 hf
        obtain rfl := k_some hf
        obtain rfl := k_some (k_inr hq)
        exact kx ls (s4.1, s4.2) rfl (lv_sub hl [] rfl)
      · have hf := k_F c1 hf
        refine lv_iload_n hx hb dX6_safeOneByOne_10 rfl (lv_at hl 0 rfl) ?_
        obtain ⟨v2, hv2, hf⟩ := k_B hf
        refine k_callS (As := [.int s4.1]) (rest := []) ⟨hx, hb, hml, hown, hts⟩ (c_X6_safe l s4.1 v2 hv2) (va_cwS 1 hts gX6_safeOneByOne_X6_safe rfl rfl rfl hd_X6_safe ⟨Nat.le_of_ble_eq_true rfl, Nat.le_of_ble_eq_true rfl⟩) rfl hl.1 rfl (Nat.le_of_ble_eq_true rfl) dX6_safeOneByOne_11 ⟨Nat.zero_le _, Nat.zero_le _⟩ ?_
        obtain ⟨v3, hv3, hf⟩ := k_B hf
        refine k_callS (As := [.int v2]) (rest := []) ⟨hx, hb, hml, hown, hts⟩ (c_X3_lowestFence l v2 v3 hv3) (va_cwS 1 hts gX6_safeOneByOne_X3_lowestFence rfl rfl rfl hd_X3_lowestFence ⟨Nat.le_of_ble_eq_true rfl, Nat.le_of_ble_eq_true rfl⟩) rfl hl.1 rfl (Nat.le_of_ble_eq_true rfl) dX6_safeOneByOne_14 ⟨Nat.zero_le _, Nat.zero_le _⟩ ?_
        refine lv_istore_n (lv' := [(3, .int v3), (1, .int s4.1), (2, .int s4.2)]) hx hb dX6_safeOneByOne_17 rfl hl (by decide) rfl (fun ls hl => ?_)
        refine lv_iload_n hx hb dX6_safeOneByOne_18 rfl (lv_at hl 0 rfl) ?_
        refine lv_iconst (v := (-1)) hx hb dX6_safeOneByOne_19 (by decide) ?_
        refine lv_icmp_ne (tgt := 25) hx hb dX6_safeOneByOne_20 (by decide) (fun c4 => ?_) (fun c4 => ?_)
        · have hf := k_F c4 hf
          refine lv_iload_n hx hb dX6_safeOneByOne_25 rfl (lv_at hl 1 rfl) ?_
          refine lv_iconst (v := 1) hx hb dX6_safeOneByOne_26 (by decide) ?_
          refine lv_iload_n hx hb dX6_safeOneByOne_27 rfl (lv_at hl 0 rfl) ?_
          refine lv_ishl hx hb dX6_safeOneByOne_28 ?_
          refine lv_ior hx hb dX6_safeOneByOne_29 ?_
          obtain ⟨y5, ey5, hf⟩ := k_L hf
          refine k_name ey5 ?_
          refine lv_istore_n (lv' := [(1, .int y5), (3, .int v3), (2, .int s4.2)]) hx hb dX6_safeOneByOne_30 rfl hl (by decide) rfl (fun ls hl => ?_)
          refine lv_iinc (v := s4.2 + 1) (lv' := [(2, .int (s4.2 + 1)), (1, .int y5), (3, .int v3)]) hx hb dX6_safeOneByOne_31 hl (k := 2) rfl rfl (by decide) rfl (fun ls hl => ?_)
          refine lv_goto (tgt := 4) hx hb dX6_safeOneByOne_34 (by decide) ?_
          obtain rfl := k_some hf
          exact ih  (y5, s4.2 + 1) q (k_inl hq) ls (lv_sub hl [1, 0] rfl) kx kr24
        · have hf := k_T c4 hf
          refine lv_iload_n hx hb dX6_safeOneByOne_23 rfl (lv_at hl 2 rfl) ?_
          obtain rfl := k_some hf
          obtain rfl := k_some (k_inr hq)
          exact kr24 ls s4.2 rfl hl.1
  unfold f_X6_safeOneByOne at hf
  refine lv_iload_n hx hb dX6_safeOneByOne_0 rfl (lv_at hl 0 rfl) ?_
  refine lv_istore_n (lv' := [(1, .int a0), (0, .int a0)]) hx hb dX6_safeOneByOne_1 rfl hl (by decide) rfl (fun ls hl => ?_)
  refine lv_iconst (v := 0) hx hb dX6_safeOneByOne_2 (by decide) ?_
  refine lv_istore_n (lv' := [(2, .int 0), (1, .int a0), (0, .int a0)]) hx hb dX6_safeOneByOne_3 rfl hl (by decide) rfl (fun ls hl => ?_)
  obtain ⟨x6, hx6, hf⟩ := k_B hf
  refine L4 _ 1000  (a0, 0) x6 hx6 ls (lv_sub hl [1, 0] rfl) ?_ ?_
  · intro ls z7 ez7 hl
    subst ez7
    have hf := k_inl hf
    refine lv_bipush (v := 31) hx hb dX6_safeOneByOne_37 (by decide) ?_
    obtain rfl := k_some hf
    exact W.iret (v := 31) hx hb hr (fun t ht hW => ⟨rfl, ht⟩) (fun q h => absurd h List.not_mem_nil) dX6_safeOneByOne_39
  · intro ls r8 er8 hls
    subst er8
    have hf := k_inr hf
    obtain rfl := k_some hf
    exact W.iret (v := r8) hx hb hr (fun t ht hW => ⟨rfl, ht⟩) (fun q h => absurd h List.not_mem_nil) dX6_safeOneByOne_24
def f_X6_givenBy (a0 : Int32) (a1 : Int32) : Option Int32 :=
  (f_X6_oneByOne (a0 ||| ((1 : Int32) <<< (a1 &&& 31)))).bind fun v1 =>
  some v1
abbrev rm_X6_givenBy : Room := { frames := 4, cells := 0, slots := 0, locals := 90 }
theorem hd_X6_givenBy : yX6_givenBy.cls ≠ "java/lang/invoke/MethodHandle" ∧ yX6_givenBy.cls ≠ "java/lang/invoke/VarHandle" ∧ (parseMethodDescriptor yX6_givenBy.desc).map (fun d => d.parameters.length) = some 2 := by decide +kernel
set_option maxHeartbeats 4000000 in
set_option maxRecDepth 100000 in
theorem c_X6_givenBy (l : Launch) (a0 : Int32) (a1 : Int32) (r : Int32) (hf : f_X6_givenBy a0 a1 = some r) : k_PMet l yX6_givenBy wsX6_givenBy rm_X6_givenBy [.int a0, .int a1] r := by
  refine k_pureOf (cc := cX6_givenBy) (maxL := 2) (ret := (some .int)) (by decide) rfl (Nat.le_of_ble_eq_true rfl) ?_
  intro p e s m args below meth c ls hx hb hr hlocks hml hown hts hl
  have hl : lv_has ls 2 [(0, .int a0), (1, .int a1)] := hl
  unfold f_X6_givenBy at hf
  refine lv_iload_n hx hb dX6_givenBy_0 rfl (lv_at hl 0 rfl) ?_
  refine lv_iconst (v := 1) hx hb dX6_givenBy_1 (by decide) ?_
  refine lv_iload_n hx hb dX6_givenBy_2 rfl (lv_at hl 1 rfl) ?_
  refine lv_ishl hx hb dX6_givenBy_3 ?_
  refine lv_ior hx hb dX6_givenBy_4 ?_
  obtain ⟨v1, hv1, hf⟩ := k_B hf
  refine k_callS (As := [.int (a0 ||| ((1 : Int32) <<< (a1 &&& 31)))]) (rest := []) ⟨hx, hb, hml, hown, hts⟩ (c_X6_oneByOne l (a0 ||| ((1 : Int32) <<< (a1 &&& 31))) v1 hv1) (va_cwS 1 hts gX6_givenBy_X6_oneByOne rfl rfl rfl hd_X6_oneByOne ⟨Nat.le_of_ble_eq_true rfl, Nat.le_of_ble_eq_true rfl⟩) rfl hl.1 rfl (Nat.le_of_ble_eq_true rfl) dX6_givenBy_5 ⟨Nat.zero_le _, Nat.zero_le _⟩ ?_
  obtain rfl := k_some hf
  exact W.iret (v := v1) hx hb hr (fun t ht hW => ⟨rfl, ht⟩) (fun q h => absurd h List.not_mem_nil) dX6_givenBy_8
def t_X6_leastGiving_7 (b0 : Int32) (s7 : Int32 × Int32 × Int32) : Option ((Int32 × Int32 × Int32) ⊕ (Int32 × Int32 × Int32)) :=
  if 31 ≤ s7.2.2 then
    some (.inr (s7.1, s7.2.1, s7.2.2))
  else
    (f_X3_has b0 s7.2.2).bind fun v2 =>
    if v2 = 0 then
      (f_X6_givenBy b0 s7.2.2).bind fun v4 =>
      if s7.1 ≤ v4 then
        some (.inl (s7.1, s7.2.1, s7.2.2 + 1))
      else
        some (.inl (v4, s7.2.2, s7.2.2 + 1))
    else
      some (.inl (s7.1, s7.2.1, s7.2.2 + 1))
def f_X6_leastGiving (a0 : Int32) : Option Int32 :=
  (k_loop (t_X6_leastGiving_7 a0) 1000 (13, (-1), 0)).bind fun x6 =>
  some x6.2.1
abbrev rm_X6_leastGiving : Room := { frames := 5, cells := 0, slots := 0, locals := 111 }
theorem hd_X6_leastGiving : yX6_leastGiving.cls ≠ "java/lang/invoke/MethodHandle" ∧ yX6_leastGiving.cls ≠ "java/lang/invoke/VarHandle" ∧ (parseMethodDescriptor yX6_leastGiving.desc).map (fun d => d.parameters.length) = some 1 := by decide +kernel
set_option maxHeartbeats 4000000 in
set_option maxRecDepth 100000 in
theorem c_X6_leastGiving (l : Launch) (a0 : Int32) (r : Int32) (hf : f_X6_leastGiving a0 = some r) : k_PMet l yX6_leastGiving wsX6_leastGiving rm_X6_leastGiving [.int a0] r := by
  refine k_pureOf (cc := cX6_leastGiving) (maxL := 5) (ret := (some .int)) (by decide) rfl (Nat.le_of_ble_eq_true rfl) ?_
  intro p e s m args below meth c ls hx hb hr hlocks hml hown hts hl
  have hl : lv_has ls 5 [(0, .int a0)] := hl
  have L7 : ∀ (Q : State → Prop) (n : Nat) (b0 : Int32) (s7 : Int32 × Int32 × Int32) (q : (Int32 × Int32 × Int32)), k_loop (t_X6_leastGiving_7 b0) n s7 = some q → ∀ (ls : Array Slot), lv_has ls 5 [(0, .int b0), (1, .int s7.1), (2, .int s7.2.1), (3, .int s7.2.2)] → (∀ (ls : Array Slot), True → lv_has ls 5 [(2, .int q.2.1)] → W p l e rm_X6_leastGiving s m args below meth c s.heap [] 0 0 Q (F0 m 45 ls [])) → W p l e rm_X6_leastGiving s m args below meth c s.heap [] 0 0 Q (F0 m 7 ls []) := by
    intro Q n
    induction n with
    | zero =>
      intro b0 s7 q hq
      exact (k_loop0 hq).elim
    | succ n ih =>
      intro b0 s7 q hq ls hl kx 
      obtain ⟨x, hf, hq⟩ := k_loopE hq
      unfold t_X6_leastGiving_7 at hf
      refine lv_iload_n hx hb dX6_leastGiving_7 rfl (lv_at hl 3 rfl) ?_
      refine lv_bipush (v := 31) hx hb dX6_leastGiving_8 (by decide) ?_
      refine lv_icmp_ge (tgt := 45) hx hb dX6_leastGiving_10 (by decide) (fun c1 => ?_) (fun c1 => ?_)
      · have hf := k_T c1 hf
        obtain rfl := k_some hf
        obtain rfl := k_some (k_inr hq)
        exact kx ls trivial (lv_sub hl [2] rfl)
      · have hf := k_F c1 hf
        refine lv_iload_n hx hb dX6_leastGiving_13 rfl (lv_at hl 0 rfl) ?_
        refine lv_iload_n hx hb dX6_leastGiving_14 rfl (lv_at hl 3 rfl) ?_
        obtain ⟨v2, hv2, hf⟩ := k_B hf
        refine k_callS (As := [.int b0, .int s7.2.2]) (rest := []) ⟨hx, hb, hml, hown, hts⟩ (c_X3_has l b0 s7.2.2 v2 hv2) (va_cwS 2 hts gX6_leastGiving_X3_has rfl rfl rfl hd_X3_has ⟨Nat.le_of_ble_eq_true rfl, Nat.le_of_ble_eq_true rfl⟩) rfl hl.1 rfl (Nat.le_of_ble_eq_true rfl) dX6_leastGiving_15 ⟨Nat.zero_le _, Nat.zero_le _⟩ ?_
        refine lv_if_ne (tgt := 39) hx hb dX6_leastGiving_18 (by decide) (fun c3 => ?_) (fun c3 => ?_)
        · have hf := k_F c3 hf
          refine lv_iinc (v := s7.2.2 + 1) (lv' := [(3, .int (s7.2.2 + 1)), (0, .int b0), (1, .int s7.1), (2, .int s7.2.1)]) hx hb dX6_leastGiving_39 hl (k := 3) rfl rfl (by decide) rfl (fun ls hl => ?_)
          refine lv_goto (tgt := 7) hx hb dX6_leastGiving_42 (by decide) ?_
          obtain rfl := k_some hf
          exact ih b0 (s7.1, s7.2.1, s7.2.2 + 1) q (k_inl hq) ls (lv_sub hl [1, 2, 3, 0] rfl) kx 
        · have hf := k_T c3 hf
          refine lv_iload_n hx hb dX6_leastGiving_21 rfl (lv_at hl 0 rfl) ?_
          refine lv_iload_n hx hb dX6_leastGiving_22 rfl (lv_at hl 3 rfl) ?_
          obtain ⟨v4, hv4, hf⟩ := k_B hf
          refine k_callS (As := [.int b0, .int s7.2.2]) (rest := []) ⟨hx, hb, hml, hown, hts⟩ (c_X6_givenBy l b0 s7.2.2 v4 hv4) (va_cwS 2 hts gX6_leastGiving_X6_givenBy rfl rfl rfl hd_X6_givenBy ⟨Nat.le_of_ble_eq_true rfl, Nat.le_of_ble_eq_true rfl⟩) rfl hl.1 rfl (Nat.le_of_ble_eq_true rfl) dX6_leastGiving_23 ⟨Nat.zero_le _, Nat.zero_le _⟩ ?_
          refine lv_istore (lv' := [(4, .int v4), (0, .int b0), (1, .int s7.1), (2, .int s7.2.1), (3, .int s7.2.2)]) hx hb dX6_leastGiving_26 hl (by decide) rfl (fun ls hl => ?_)
          refine lv_iload hx hb dX6_leastGiving_28 (lv_at hl 0 rfl) ?_
          refine lv_iload_n hx hb dX6_leastGiving_30 rfl (lv_at hl 2 rfl) ?_
          refine lv_icmp_ge (tgt := 39) hx hb dX6_leastGiving_31 (by decide) (fun c5 => ?_) (fun c5 => ?_)
          · have hf := k_T c5 hf
            refine lv_iinc (v := s7.2.2 + 1) (lv' := [(3, .int (s7.2.2 + 1)), (4, .int v4), (0, .int b0), (1, .int s7.1), (2, .int s7.2.1)]) hx hb dX6_leastGiving_39 hl (k := 4) rfl rfl (by decide) rfl (fun ls hl => ?_)
            refine lv_goto (tgt := 7) hx hb dX6_leastGiving_42 (by decide) ?_
            obtain rfl := k_some hf
            exact ih b0 (s7.1, s7.2.1, s7.2.2 + 1) q (k_inl hq) ls (lv_sub hl [2, 3, 4, 0] rfl) kx 
          · have hf := k_F c5 hf
            refine lv_iload hx hb dX6_leastGiving_34 (lv_at hl 0 rfl) ?_
            refine lv_istore_n (lv' := [(1, .int v4), (4, .int v4), (0, .int b0), (2, .int s7.2.1), (3, .int s7.2.2)]) hx hb dX6_leastGiving_36 rfl hl (by decide) rfl (fun ls hl => ?_)
            refine lv_iload_n hx hb dX6_leastGiving_37 rfl (lv_at hl 4 rfl) ?_
            refine lv_istore_n (lv' := [(2, .int s7.2.2), (1, .int v4), (4, .int v4), (0, .int b0), (3, .int s7.2.2)]) hx hb dX6_leastGiving_38 rfl hl (by decide) rfl (fun ls hl => ?_)
            refine lv_iinc (v := s7.2.2 + 1) (lv' := [(3, .int (s7.2.2 + 1)), (2, .int s7.2.2), (1, .int v4), (4, .int v4), (0, .int b0)]) hx hb dX6_leastGiving_39 hl (k := 4) rfl rfl (by decide) rfl (fun ls hl => ?_)
            refine lv_goto (tgt := 7) hx hb dX6_leastGiving_42 (by decide) ?_
            obtain rfl := k_some hf
            exact ih b0 (v4, s7.2.2, s7.2.2 + 1) q (k_inl hq) ls (lv_sub hl [4, 2, 1, 0] rfl) kx 
  unfold f_X6_leastGiving at hf
  refine lv_bipush (v := 13) hx hb dX6_leastGiving_0 (by decide) ?_
  refine lv_istore_n (lv' := [(1, .int 13), (0, .int a0)]) hx hb dX6_leastGiving_2 rfl hl (by decide) rfl (fun ls hl => ?_)
  refine lv_iconst (v := (-1)) hx hb dX6_leastGiving_3 (by decide) ?_
  refine lv_istore_n (lv' := [(2, .int (-1)), (1, .int 13), (0, .int a0)]) hx hb dX6_leastGiving_4 rfl hl (by decide) rfl (fun ls hl => ?_)
  refine lv_iconst (v := 0) hx hb dX6_leastGiving_5 (by decide) ?_
  refine lv_istore_n (lv' := [(3, .int 0), (2, .int (-1)), (1, .int 13), (0, .int a0)]) hx hb dX6_leastGiving_6 rfl hl (by decide) rfl (fun ls hl => ?_)
  obtain ⟨x6, hx6, hf⟩ := k_B hf
  refine L7 _ 1000 a0 (13, (-1), 0) x6 hx6 ls (lv_sub hl [3, 2, 1, 0] rfl) ?_
  · intro ls _ hl
    refine lv_iload_n hx hb dX6_leastGiving_45 rfl (lv_at hl 0 rfl) ?_
    obtain rfl := k_some hf
    exact W.iret (v := x6.2.1) hx hb hr (fun t ht hW => ⟨rfl, ht⟩) (fun q h => absurd h List.not_mem_nil) dX6_leastGiving_46
def t_X0_grown_5 (b0 : Int32) (b1 : Int32) (s5 : Int32 × Int32) : Option ((Int32 × Int32) ⊕ (Int32 × Int32)) :=
  if 31 ≤ s5.2 then
    some (.inr (s5.1, s5.2))
  else
    (f_X3_boxesBeside s5.2).bind fun v2 =>
    (f_X3_has b0 s5.2).bind fun v3 =>
    if v3 = 0 then
      if (v2 &&& s5.1) = 0 then
        some (.inl (s5.1, s5.2 + 1))
      else
        (f_X3_isWithin v2 b1).bind fun v6 =>
        if v6 = 0 then
          some (.inl (s5.1, s5.2 + 1))
        else
          k_let (s5.1 ||| v2) fun y8 =>
          some (.inl (y8, s5.2 + 1))
    else
      some (.inl (s5.1, s5.2 + 1))
def f_X0_grown (a0 : Int32) (a1 : Int32) (a2 : Int32) : Option Int32 :=
  (k_loop (t_X0_grown_5 a0 a1) 1000 (a2, 0)).bind fun x9 =>
  some x9.1
abbrev rm_X0_grown : Room := { frames := 2, cells := 0, slots := 0, locals := 45 }
theorem hd_X0_grown : yX0_grown.cls ≠ "java/lang/invoke/MethodHandle" ∧ yX0_grown.cls ≠ "java/lang/invoke/VarHandle" ∧ (parseMethodDescriptor yX0_grown.desc).map (fun d => d.parameters.length) = some 3 := by decide +kernel
set_option maxHeartbeats 4000000 in
set_option maxRecDepth 100000 in
theorem c_X0_grown (l : Launch) (a0 : Int32) (a1 : Int32) (a2 : Int32) (r : Int32) (hf : f_X0_grown a0 a1 a2 = some r) : k_PMet l yX0_grown wsX0_grown rm_X0_grown [.int a0, .int a1, .int a2] r := by
  refine k_pureOf (cc := cX0_grown) (maxL := 6) (ret := (some .int)) (by decide) rfl (Nat.le_of_ble_eq_true rfl) ?_
  intro p e s m args below meth c ls hx hb hr hlocks hml hown hts hl
  have hl : lv_has ls 6 [(0, .int a0), (1, .int a1), (2, .int a2)] := hl
  have L5 : ∀ (Q : State → Prop) (n : Nat) (b0 : Int32) (b1 : Int32) (s5 : Int32 × Int32) (q : (Int32 × Int32)), k_loop (t_X0_grown_5 b0 b1) n s5 = some q → ∀ (ls : Array Slot), lv_has ls 6 [(0, .int b0), (1, .int b1), (3, .int s5.1), (4, .int s5.2)] → (∀ (ls : Array Slot), True → lv_has ls 6 [(3, .int q.1)] → W p l e rm_X0_grown s m args below meth c s.heap [] 0 0 Q (F0 m 55 ls [])) → W p l e rm_X0_grown s m args below meth c s.heap [] 0 0 Q (F0 m 5 ls []) := by
    intro Q n
    induction n with
    | zero =>
      intro b0 b1 s5 q hq
      exact (k_loop0 hq).elim
    | succ n ih =>
      intro b0 b1 s5 q hq ls hl kx 
      obtain ⟨x, hf, hq⟩ := k_loopE hq
      unfold t_X0_grown_5 at hf
      refine lv_iload hx hb dX0_grown_5 (lv_at hl 3 rfl) ?_
      refine lv_bipush (v := 31) hx hb dX0_grown_7 (by decide) ?_
      refine lv_icmp_ge (tgt := 55) hx hb dX0_grown_9 (by decide) (fun c1 => ?_) (fun c1 => ?_)
      · have hf := k_T c1 hf
        obtain rfl := k_some hf
        obtain rfl := k_some (k_inr hq)
        exact kx ls trivial (lv_sub hl [2] rfl)
      · have hf := k_F c1 hf
        refine lv_iload hx hb dX0_grown_12 (lv_at hl 3 rfl) ?_
        obtain ⟨v2, hv2, hf⟩ := k_B hf
        refine k_callS (As := [.int s5.2]) (rest := []) ⟨hx, hb, hml, hown, hts⟩ (c_X3_boxesBeside l s5.2 v2 hv2) (va_cwS 1 hts gX0_grown_X3_boxesBeside rfl rfl rfl hd_X3_boxesBeside ⟨Nat.le_of_ble_eq_true rfl, Nat.le_of_ble_eq_true rfl⟩) rfl hl.1 rfl (Nat.le_of_ble_eq_true rfl) dX0_grown_14 ⟨Nat.zero_le _, Nat.zero_le _⟩ ?_
        refine lv_istore (lv' := [(5, .int v2), (0, .int b0), (1, .int b1), (3, .int s5.1), (4, .int s5.2)]) hx hb dX0_grown_17 hl (by decide) rfl (fun ls hl => ?_)
        refine lv_iload_n hx hb dX0_grown_19 rfl (lv_at hl 1 rfl) ?_
        refine lv_iload hx hb dX0_grown_20 (lv_at hl 4 rfl) ?_
        obtain ⟨v3, hv3, hf⟩ := k_B hf
        refine k_callS (As := [.int b0, .int s5.2]) (rest := []) ⟨hx, hb, hml, hown, hts⟩ (c_X3_has l b0 s5.2 v3 hv3) (va_cwS 2 hts gX0_grown_X3_has rfl rfl rfl hd_X3_has ⟨Nat.le_of_ble_eq_true rfl, Nat.le_of_ble_eq_true rfl⟩) rfl hl.1 rfl (Nat.le_of_ble_eq_true rfl) dX0_grown_22 ⟨Nat.zero_le _, Nat.zero_le _⟩ ?_
        refine lv_if_ne (tgt := 49) hx hb dX0_grown_25 (by decide) (fun c4 => ?_) (fun c4 => ?_)
        · have hf := k_F c4 hf
          refine lv_iinc (v := s5.2 + 1) (lv' := [(4, .int (s5.2 + 1)), (5, .int v2), (0, .int b0), (1, .int b1), (3, .int s5.1)]) hx hb dX0_grown_49 hl (k := 4) rfl rfl (by decide) rfl (fun ls hl => ?_)
          refine lv_goto (tgt := 5) hx hb dX0_grown_52 (by decide) ?_
          obtain rfl := k_some hf
          exact ih b0 b1 (s5.1, s5.2 + 1) q (k_inl hq) ls (lv_sub hl [2, 3, 4, 0] rfl) kx 
        · have hf := k_T c4 hf
          refine lv_iload hx hb dX0_grown_28 (lv_at hl 0 rfl) ?_
          refine lv_iload_n hx hb dX0_grown_30 rfl (lv_at hl 3 rfl) ?_
          refine lv_iand hx hb dX0_grown_31 ?_
          refine lv_if_eq (tgt := 49) hx hb dX0_grown_32 (by decide) (fun c5 => ?_) (fun c5 => ?_)
          · have hf := k_T c5 hf
            refine lv_iinc (v := s5.2 + 1) (lv' := [(4, .int (s5.2 + 1)), (5, .int v2), (0, .int b0), (1, .int b1), (3, .int s5.1)]) hx hb dX0_grown_49 hl (k := 4) rfl rfl (by decide) rfl (fun ls hl => ?_)
            refine lv_goto (tgt := 5) hx hb dX0_grown_52 (by decide) ?_
            obtain rfl := k_some hf
            exact ih b0 b1 (s5.1, s5.2 + 1) q (k_inl hq) ls (lv_sub hl [2, 3, 4, 0] rfl) kx 
          · have hf := k_F c5 hf
            refine lv_iload hx hb dX0_grown_35 (lv_at hl 0 rfl) ?_
            refine lv_iload_n hx hb dX0_grown_37 rfl (lv_at hl 2 rfl) ?_
            obtain ⟨v6, hv6, hf⟩ := k_B hf
            refine k_callS (As := [.int v2, .int b1]) (rest := []) ⟨hx, hb, hml, hown, hts⟩ (c_X3_isWithin l v2 b1 v6 hv6) (va_cwS 2 hts gX0_grown_X3_isWithin rfl rfl rfl hd_X3_isWithin ⟨Nat.le_of_ble_eq_true rfl, Nat.le_of_ble_eq_true rfl⟩) rfl hl.1 rfl (Nat.le_of_ble_eq_true rfl) dX0_grown_38 ⟨Nat.zero_le _, Nat.zero_le _⟩ ?_
            refine lv_if_eq (tgt := 49) hx hb dX0_grown_41 (by decide) (fun c7 => ?_) (fun c7 => ?_)
            · have hf := k_T c7 hf
              refine lv_iinc (v := s5.2 + 1) (lv' := [(4, .int (s5.2 + 1)), (5, .int v2), (0, .int b0), (1, .int b1), (3, .int s5.1)]) hx hb dX0_grown_49 hl (k := 4) rfl rfl (by decide) rfl (fun ls hl => ?_)
              refine lv_goto (tgt := 5) hx hb dX0_grown_52 (by decide) ?_
              obtain rfl := k_some hf
              exact ih b0 b1 (s5.1, s5.2 + 1) q (k_inl hq) ls (lv_sub hl [2, 3, 4, 0] rfl) kx 
            · have hf := k_F c7 hf
              refine lv_iload_n hx hb dX0_grown_44 rfl (lv_at hl 3 rfl) ?_
              refine lv_iload hx hb dX0_grown_45 (lv_at hl 0 rfl) ?_
              refine lv_ior hx hb dX0_grown_47 ?_
              obtain ⟨y8, ey8, hf⟩ := k_L hf
              refine k_name ey8 ?_
              refine lv_istore_n (lv' := [(3, .int y8), (5, .int v2), (0, .int b0), (1, .int b1), (4, .int s5.2)]) hx hb dX0_grown_48 rfl hl (by decide) rfl (fun ls hl => ?_)
              refine lv_iinc (v := s5.2 + 1) (lv' := [(4, .int (s5.2 + 1)), (3, .int y8), (5, .int v2), (0, .int b0), (1, .int b1)]) hx hb dX0_grown_49 hl (k := 4) rfl rfl (by decide) rfl (fun ls hl => ?_)
              refine lv_goto (tgt := 5) hx hb dX0_grown_52 (by decide) ?_
              obtain rfl := k_some hf
              exact ih b0 b1 (y8, s5.2 + 1) q (k_inl hq) ls (lv_sub hl [3, 4, 1, 0] rfl) kx 
  unfold f_X0_grown at hf
  refine lv_iload_n hx hb dX0_grown_0 rfl (lv_at hl 2 rfl) ?_
  refine lv_istore_n (lv' := [(3, .int a2), (0, .int a0), (1, .int a1), (2, .int a2)]) hx hb dX0_grown_1 rfl hl (by decide) rfl (fun ls hl => ?_)
  refine lv_iconst (v := 0) hx hb dX0_grown_2 (by decide) ?_
  refine lv_istore (lv' := [(4, .int 0), (3, .int a2), (0, .int a0), (1, .int a1), (2, .int a2)]) hx hb dX0_grown_3 hl (by decide) rfl (fun ls hl => ?_)
  obtain ⟨x9, hx9, hf⟩ := k_B hf
  refine L5 _ 1000 a0 a1 (a2, 0) x9 hx9 ls (lv_sub hl [2, 3, 1, 0] rfl) ?_
  · intro ls _ hl
    refine lv_iload_n hx hb dX0_grown_55 rfl (lv_at hl 0 rfl) ?_
    obtain rfl := k_some hf
    exact W.iret (v := x9.1) hx hb hr (fun t ht hW => ⟨rfl, ht⟩) (fun q h => absurd h List.not_mem_nil) dX0_grown_56
def t_X0_around_13 (b0 : Int32) (b2 : Int32) (s13 : Int32 × Int32) : Option ((Int32 × Int32) ⊕ (Int32 × Int32)) :=
  if 12 ≤ s13.2 then
    some (.inr (s13.1, s13.2))
  else
    (f_X0_grown b0 b2 s13.1).bind fun v4 =>
    if v4 = s13.1 then
      some (.inr (v4, s13.2))
    else
      some (.inl (v4, s13.2 + 1))
def f_X0_around (a0 : Int32) (a1 : Int32) : Option Int32 :=
  (f_X3_boxesHaving a0 2).bind fun v1 =>
  k_let ((1 : Int32) <<< (a1 &&& 31)) fun y2 =>
  (k_loop (t_X0_around_13 a0 v1) 1000 (y2, 0)).bind fun x6 =>
  some x6.1
abbrev rm_X0_around : Room := { frames := 3, cells := 0, slots := 0, locals := 70 }
theorem hd_X0_around : yX0_around.cls ≠ "java/lang/invoke/MethodHandle" ∧ yX0_around.cls ≠ "java/lang/invoke/VarHandle" ∧ (parseMethodDescriptor yX0_around.desc).map (fun d => d.parameters.length) = some 2 := by decide +kernel
set_option maxHeartbeats 4000000 in
set_option maxRecDepth 100000 in
theorem c_X0_around (l : Launch) (a0 : Int32) (a1 : Int32) (r : Int32) (hf : f_X0_around a0 a1 = some r) : k_PMet l yX0_around wsX0_around rm_X0_around [.int a0, .int a1] r := by
  refine k_pureOf (cc := cX0_around) (maxL := 6) (ret := (some .int)) (by decide) rfl (Nat.le_of_ble_eq_true rfl) ?_
  intro p e s m args below meth c ls hx hb hr hlocks hml hown hts hl
  have hl : lv_has ls 6 [(0, .int a0), (1, .int a1)] := hl
  have L13 : ∀ (Q : State → Prop) (n : Nat) (b0 : Int32) (b2 : Int32) (s13 : Int32 × Int32) (q : (Int32 × Int32)), k_loop (t_X0_around_13 b0 b2) n s13 = some q → ∀ (ls : Array Slot), lv_has ls 6 [(0, .int b0), (2, .int b2), (3, .int s13.1), (4, .int s13.2)] → (∀ (ls : Array Slot), True → lv_has ls 6 [(3, .int q.1)] → W p l e rm_X0_around s m args below meth c s.heap [] 0 0 Q (F0 m 46 ls [])) → W p l e rm_X0_around s m args below meth c s.heap [] 0 0 Q (F0 m 13 ls []) := by
    intro Q n
    induction n with
    | zero =>
      intro b0 b2 s13 q hq
      exact (k_loop0 hq).elim
    | succ n ih =>
      intro b0 b2 s13 q hq ls hl kx 
      obtain ⟨x, hf, hq⟩ := k_loopE hq
      unfold t_X0_around_13 at hf
      refine lv_iload hx hb dX0_around_13 (lv_at hl 3 rfl) ?_
      refine lv_bipush (v := 12) hx hb dX0_around_15 (by decide) ?_
      refine lv_icmp_ge (tgt := 46) hx hb dX0_around_17 (by decide) (fun c3 => ?_) (fun c3 => ?_)
      · have hf := k_T c3 hf
        obtain rfl := k_some hf
        obtain rfl := k_some (k_inr hq)
        exact kx ls trivial (lv_sub hl [2] rfl)
      · have hf := k_F c3 hf
        refine lv_iload_n hx hb dX0_around_20 rfl (lv_at hl 2 rfl) ?_
        refine lv_istore (lv' := [(5, .int s13.1), (0, .int b0), (2, .int b2), (3, .int s13.1), (4, .int s13.2)]) hx hb dX0_around_21 hl (by decide) rfl (fun ls hl => ?_)
        refine lv_iload_n hx hb dX0_around_23 rfl (lv_at hl 1 rfl) ?_
        refine lv_iload_n hx hb dX0_around_24 rfl (lv_at hl 2 rfl) ?_
        refine lv_iload hx hb dX0_around_25 (lv_at hl 0 rfl) ?_
        obtain ⟨v4, hv4, hf⟩ := k_B hf
        refine k_callS (As := [.int b0, .int b2, .int s13.1]) (rest := []) ⟨hx, hb, hml, hown, hts⟩ (c_X0_grown l b0 b2 s13.1 v4 hv4) (va_cwS 3 hts gX0_around_X0_grown rfl rfl rfl hd_X0_grown ⟨Nat.le_of_ble_eq_true rfl, Nat.le_of_ble_eq_true rfl⟩) rfl hl.1 rfl (Nat.le_of_ble_eq_true rfl) dX0_around_27 ⟨Nat.zero_le _, Nat.zero_le _⟩ ?_
        refine lv_istore_n (lv' := [(3, .int v4), (5, .int s13.1), (0, .int b0), (2, .int b2), (4, .int s13.2)]) hx hb dX0_around_30 rfl hl (by decide) rfl (fun ls hl => ?_)
        refine lv_iload_n hx hb dX0_around_31 rfl (lv_at hl 0 rfl) ?_
        refine lv_iload hx hb dX0_around_32 (lv_at hl 1 rfl) ?_
        refine lv_icmp_ne (tgt := 40) hx hb dX0_around_34 (by decide) (fun c5 => ?_) (fun c5 => ?_)
        · have hf := k_F c5 hf
          refine lv_iinc (v := s13.2 + 1) (lv' := [(4, .int (s13.2 + 1)), (3, .int v4), (5, .int s13.1), (0, .int b0), (2, .int b2)]) hx hb dX0_around_40 hl (k := 4) rfl rfl (by decide) rfl (fun ls hl => ?_)
          refine lv_goto (tgt := 13) hx hb dX0_around_43 (by decide) ?_
          obtain rfl := k_some hf
          exact ih b0 b2 (v4, s13.2 + 1) q (k_inl hq) ls (lv_sub hl [3, 4, 1, 0] rfl) kx 
        · have hf := k_T c5 hf
          refine lv_goto (tgt := 46) hx hb dX0_around_37 (by decide) ?_
          obtain rfl := k_some hf
          obtain rfl := k_some (k_inr hq)
          exact kx ls trivial (lv_sub hl [0] rfl)
  unfold f_X0_around at hf
  refine lv_iload_n hx hb dX0_around_0 rfl (lv_at hl 0 rfl) ?_
  refine lv_iconst (v := 2) hx hb dX0_around_1 (by decide) ?_
  obtain ⟨v1, hv1, hf⟩ := k_B hf
  refine k_callS (As := [.int a0, .int 2]) (rest := []) ⟨hx, hb, hml, hown, hts⟩ (c_X3_boxesHaving l a0 2 v1 hv1) (va_cwS 2 hts gX0_around_X3_boxesHaving rfl rfl rfl hd_X3_boxesHaving ⟨Nat.le_of_ble_eq_true rfl, Nat.le_of_ble_eq_true rfl⟩) rfl hl.1 rfl (Nat.le_of_ble_eq_true rfl) dX0_around_2 ⟨Nat.zero_le _, Nat.zero_le _⟩ ?_
  refine lv_istore_n (lv' := [(2, .int v1), (0, .int a0), (1, .int a1)]) hx hb dX0_around_5 rfl hl (by decide) rfl (fun ls hl => ?_)
  refine lv_iconst (v := 1) hx hb dX0_around_6 (by decide) ?_
  refine lv_iload_n hx hb dX0_around_7 rfl (lv_at hl 2 rfl) ?_
  refine lv_ishl hx hb dX0_around_8 ?_
  obtain ⟨y2, ey2, hf⟩ := k_L hf
  refine k_name ey2 ?_
  refine lv_istore_n (lv' := [(3, .int y2), (2, .int v1), (0, .int a0), (1, .int a1)]) hx hb dX0_around_9 rfl hl (by decide) rfl (fun ls hl => ?_)
  refine lv_iconst (v := 0) hx hb dX0_around_10 (by decide) ?_
  refine lv_istore (lv' := [(4, .int 0), (3, .int y2), (2, .int v1), (0, .int a0), (1, .int a1)]) hx hb dX0_around_11 hl (by decide) rfl (fun ls hl => ?_)
  obtain ⟨x6, hx6, hf⟩ := k_B hf
  refine L13 _ 1000 a0 v1 (y2, 0) x6 hx6 ls (lv_sub hl [3, 2, 1, 0] rfl) ?_
  · intro ls _ hl
    refine lv_iload_n hx hb dX0_around_46 rfl (lv_at hl 0 rfl) ?_
    obtain rfl := k_some hf
    exact W.iret (v := x6.1) hx hb hr (fun t ht hW => ⟨rfl, ht⟩) (fun q h => absurd h List.not_mem_nil) dX0_around_47
def t_X0_isClosedUpon_2 (b0 : Int32) (b1 : Int32) (s2 : Int32) : Option ((Int32) ⊕ ((Int32) ⊕ Int32)) :=
  if 31 ≤ s2 then
    some (.inr (.inl s2))
  else
    (f_X3_boxesBeside s2).bind fun v2 =>
    (f_J6_bitCount_0f7a4 v2).bind fun v3 =>
    if v3 < 2 then
      (f_X3_has b0 s2).bind fun v5 =>
      if v5 = 0 then
        if (v2 &&& b1) = 0 then
          some (.inl (s2 + 1))
        else
          if (1 : Int32) = 0 then
            some (.inl (s2 + 1))
          else
            some (.inr (.inr 0))
      else
        some (.inl (s2 + 1))
    else
      (f_X3_isWithin v2 b1).bind fun v9 =>
      if v9 = 0 then
        (f_X3_has b0 s2).bind fun v15 =>
        if v15 = 0 then
          if (v2 &&& b1) = 0 then
            some (.inl (s2 + 1))
          else
            if (1 : Int32) = 0 then
              some (.inl (s2 + 1))
            else
              some (.inr (.inr 0))
        else
          some (.inl (s2 + 1))
      else
        (f_X3_has b0 s2).bind fun v11 =>
        if v11 = 0 then
          if (v2 &&& b1) = 0 then
            some (.inl (s2 + 1))
          else
            if (0 : Int32) = 0 then
              some (.inl (s2 + 1))
            else
              some (.inr (.inr 0))
        else
          some (.inl (s2 + 1))
def f_X0_isClosedUpon (a0 : Int32) (a1 : Int32) : Option Int32 :=
  (k_loop (t_X0_isClosedUpon_2 a0 a1) 1000 0).bind fun x19 =>
  Sum.elim (fun z20 =>
    some 1
  ) (fun r21 => if r21 = 0 ∨ r21 = 1 then some r21 else none) x19
abbrev rm_X0_isClosedUpon : Room := { frames := 2, cells := 0, slots := 0, locals := 45 }
theorem hd_X0_isClosedUpon : yX0_isClosedUpon.cls ≠ "java/lang/invoke/MethodHandle" ∧ yX0_isClosedUpon.cls ≠ "java/lang/invoke/VarHandle" ∧ (parseMethodDescriptor yX0_isClosedUpon.desc).map (fun d => d.parameters.length) = some 2 := by decide +kernel
set_option maxHeartbeats 4000000 in
set_option maxRecDepth 100000 in
theorem c_X0_isClosedUpon (l : Launch) (a0 : Int32) (a1 : Int32) (r : Int32) (hf : f_X0_isClosedUpon a0 a1 = some r) : k_PMet l yX0_isClosedUpon wsX0_isClosedUpon rm_X0_isClosedUpon [.int a0, .int a1] r := by
  refine k_pureOf (cc := cX0_isClosedUpon) (maxL := 5) (ret := (some .boolean)) (by decide) rfl (Nat.le_of_ble_eq_true rfl) ?_
  intro p e s m args below meth c ls hx hb hr hlocks hml hown hts hl
  have hl : lv_has ls 5 [(0, .int a0), (1, .int a1)] := hl
  have L2 : ∀ (Q : State → Prop) (n : Nat) (b0 : Int32) (b1 : Int32) (s2 : Int32) (q : ((Int32) ⊕ Int32)), k_loop (t_X0_isClosedUpon_2 b0 b1) n s2 = some q → ∀ (ls : Array Slot), lv_has ls 5 [(0, .int b0), (1, .int b1), (2, .int s2)] → (∀ (ls : Array Slot) (x : Int32), q = .inl x → lv_has ls 5 [] → W p l e rm_X0_isClosedUpon s m args below meth c s.heap [] 0 0 Q (F0 m 63 ls [])) → (∀ (ls : Array Slot) (rr : Int32), q = .inr rr → ls.size = 5 → W p l e rm_X0_isClosedUpon s m args below meth c s.heap [] 0 0 Q (F0 m 56 ls [.int rr])) → W p l e rm_X0_isClosedUpon s m args below meth c s.heap [] 0 0 Q (F0 m 2 ls []) := by
    intro Q n
    induction n with
    | zero =>
      intro b0 b1 s2 q hq
      exact (k_loop0 hq).elim
    | succ n ih =>
      intro b0 b1 s2 q hq ls hl kx kr56
      obtain ⟨x, hf, hq⟩ := k_loopE hq
      unfold t_X0_isClosedUpon_2 at hf
      refine lv_iload_n hx hb dX0_isClosedUpon_2 rfl (lv_at hl 2 rfl) ?_
      refine lv_bipush (v := 31) hx hb dX0_isClosedUpon_3 (by decide) ?_
      refine lv_icmp_ge (tgt := 63) hx hb dX0_isClosedUpon_5 (by decide) (fun c1 => ?_) (fun c1 => ?_)
      · have hf := k_T c1 hf
        obtain rfl := k_some hf
        obtain rfl := k_some (k_inr hq)
        exact kx ls s2 rfl (lv_sub hl [] rfl)
      · have hf := k_F c1 hf
        refine lv_iload_n hx hb dX0_isClosedUpon_8 rfl (lv_at hl 2 rfl) ?_
        obtain ⟨v2, hv2, hf⟩ := k_B hf
        refine k_callS (As := [.int s2]) (rest := []) ⟨hx, hb, hml, hown, hts⟩ (c_X3_boxesBeside l s2 v2 hv2) (va_cwS 1 hts gX0_isClosedUpon_X3_boxesBeside rfl rfl rfl hd_X3_boxesBeside ⟨Nat.le_of_ble_eq_true rfl, Nat.le_of_ble_eq_true rfl⟩) rfl hl.1 rfl (Nat.le_of_ble_eq_true rfl) dX0_isClosedUpon_9 ⟨Nat.zero_le _, Nat.zero_le _⟩ ?_
        refine lv_istore_n (lv' := [(3, .int v2), (0, .int b0), (1, .int b1), (2, .int s2)]) hx hb dX0_isClosedUpon_12 rfl hl (by decide) rfl (fun ls hl => ?_)
        refine lv_iload_n hx hb dX0_isClosedUpon_13 rfl (lv_at hl 0 rfl) ?_
        obtain ⟨v3, hv3, hf⟩ := k_B hf
        refine k_callS (As := [.int v2]) (rest := []) ⟨hx, hb, hml, hown, hts⟩ (c_J6_bitCount_0f7a4 l v2 v3 hv3) (va_cwS 1 hts gX0_isClosedUpon_J6_bitCount_0f7a4 rfl rfl rfl hd_J6_bitCount_0f7a4 ⟨Nat.le_of_ble_eq_true rfl, Nat.le_of_ble_eq_true rfl⟩) rfl hl.1 rfl (Nat.le_of_ble_eq_true rfl) dX0_isClosedUpon_14 ⟨Nat.zero_le _, Nat.zero_le _⟩ ?_
        refine lv_iconst (v := 2) hx hb dX0_isClosedUpon_17 (by decide) ?_
        refine lv_icmp_lt (tgt := 29) hx hb dX0_isClosedUpon_18 (by decide) (fun c4 => ?_) (fun c4 => ?_)
        · have hf := k_T c4 hf
          refine lv_iconst (v := 1) hx hb dX0_isClosedUpon_29 (by decide) ?_
          refine lv_goto (tgt := 34) hx hb dX0_isClosedUpon_30 (by decide) ?_
          refine lv_istore (lv' := [(4, .int 1), (3, .int v2), (0, .int b0), (1, .int b1), (2, .int s2)]) hx hb dX0_isClosedUpon_34 hl (by decide) rfl (fun ls hl => ?_)
          refine lv_iload_n hx hb dX0_isClosedUpon_36 rfl (lv_at hl 2 rfl) ?_
          refine lv_iload_n hx hb dX0_isClosedUpon_37 rfl (lv_at hl 4 rfl) ?_
          obtain ⟨v5, hv5, hf⟩ := k_B hf
          refine k_callS (As := [.int b0, .int s2]) (rest := []) ⟨hx, hb, hml, hown, hts⟩ (c_X3_has l b0 s2 v5 hv5) (va_cwS 2 hts gX0_isClosedUpon_X3_has rfl rfl rfl hd_X3_has ⟨Nat.le_of_ble_eq_true rfl, Nat.le_of_ble_eq_true rfl⟩) rfl hl.1 rfl (Nat.le_of_ble_eq_true rfl) dX0_isClosedUpon_38 ⟨Nat.zero_le _, Nat.zero_le _⟩ ?_
          refine lv_if_ne (tgt := 57) hx hb dX0_isClosedUpon_41 (by decide) (fun c6 => ?_) (fun c6 => ?_)
          · have hf := k_F c6 hf
            refine lv_iinc (v := s2 + 1) (lv' := [(2, .int (s2 + 1)), (4, .int 1), (3, .int v2), (0, .int b0), (1, .int b1)]) hx hb dX0_isClosedUpon_57 hl (k := 4) rfl rfl (by decide) rfl (fun ls hl => ?_)
            refine lv_goto (tgt := 2) hx hb dX0_isClosedUpon_60 (by decide) ?_
            obtain rfl := k_some hf
            exact ih b0 b1 (s2 + 1) q (k_inl hq) ls (lv_sub hl [3, 4, 0] rfl) kx kr56
          · have hf := k_T c6 hf
            refine lv_iload_n hx hb dX0_isClosedUpon_44 rfl (lv_at hl 1 rfl) ?_
            refine lv_iload_n hx hb dX0_isClosedUpon_45 rfl (lv_at hl 3 rfl) ?_
            refine lv_iand hx hb dX0_isClosedUpon_46 ?_
            refine lv_if_eq (tgt := 57) hx hb dX0_isClosedUpon_47 (by decide) (fun c7 => ?_) (fun c7 => ?_)
            · have hf := k_T c7 hf
              refine lv_iinc (v := s2 + 1) (lv' := [(2, .int (s2 + 1)), (4, .int 1), (3, .int v2), (0, .int b0), (1, .int b1)]) hx hb dX0_isClosedUpon_57 hl (k := 4) rfl rfl (by decide) rfl (fun ls hl => ?_)
              refine lv_goto (tgt := 2) hx hb dX0_isClosedUpon_60 (by decide) ?_
              obtain rfl := k_some hf
              exact ih b0 b1 (s2 + 1) q (k_inl hq) ls (lv_sub hl [3, 4, 0] rfl) kx kr56
            · have hf := k_F c7 hf
              refine lv_iload hx hb dX0_isClosedUpon_50 (lv_at hl 0 rfl) ?_
              refine lv_if_eq (tgt := 57) hx hb dX0_isClosedUpon_52 (by decide) (fun c8 => ?_) (fun c8 => ?_)
              · have hf := k_T c8 hf
                refine lv_iinc (v := s2 + 1) (lv' := [(2, .int (s2 + 1)), (4, .int 1), (3, .int v2), (0, .int b0), (1, .int b1)]) hx hb dX0_isClosedUpon_57 hl (k := 4) rfl rfl (by decide) rfl (fun ls hl => ?_)
                refine lv_goto (tgt := 2) hx hb dX0_isClosedUpon_60 (by decide) ?_
                obtain rfl := k_some hf
                exact ih b0 b1 (s2 + 1) q (k_inl hq) ls (lv_sub hl [3, 4, 0] rfl) kx kr56
              · have hf := k_F c8 hf
                refine lv_iconst (v := 0) hx hb dX0_isClosedUpon_55 (by decide) ?_
                obtain rfl := k_some hf
                obtain rfl := k_some (k_inr hq)
                exact kr56 ls 0 rfl hl.1
        · have hf := k_F c4 hf
          refine lv_iload_n hx hb dX0_isClosedUpon_21 rfl (lv_at hl 0 rfl) ?_
          refine lv_iload_n hx hb dX0_isClosedUpon_22 rfl (lv_at hl 2 rfl) ?_
          obtain ⟨v9, hv9, hf⟩ := k_B hf
          refine k_callS (As := [.int v2, .int b1]) (rest := []) ⟨hx, hb, hml, hown, hts⟩ (c_X3_isWithin l v2 b1 v9 hv9) (va_cwS 2 hts gX0_isClosedUpon_X3_isWithin rfl rfl rfl hd_X3_isWithin ⟨Nat.le_of_ble_eq_true rfl, Nat.le_of_ble_eq_true rfl⟩) rfl hl.1 rfl (Nat.le_of_ble_eq_true rfl) dX0_isClosedUpon_23 ⟨Nat.zero_le _, Nat.zero_le _⟩ ?_
          refine lv_if_ne (tgt := 33) hx hb dX0_isClosedUpon_26 (by decide) (fun c10 => ?_) (fun c10 => ?_)
          · have hf := k_F c10 hf
            refine lv_iconst (v := 0) hx hb dX0_isClosedUpon_33 (by decide) ?_
            refine lv_istore (lv' := [(4, .int 0), (3, .int v2), (0, .int b0), (1, .int b1), (2, .int s2)]) hx hb dX0_isClosedUpon_34 hl (by decide) rfl (fun ls hl => ?_)
            refine lv_iload_n hx hb dX0_isClosedUpon_36 rfl (lv_at hl 2 rfl) ?_
            refine lv_iload_n hx hb dX0_isClosedUpon_37 rfl (lv_at hl 4 rfl) ?_
            obtain ⟨v11, hv11, hf⟩ := k_B hf
            refine k_callS (As := [.int b0, .int s2]) (rest := []) ⟨hx, hb, hml, hown, hts⟩ (c_X3_has l b0 s2 v11 hv11) (va_cwS 2 hts gX0_isClosedUpon_X3_has rfl rfl rfl hd_X3_has ⟨Nat.le_of_ble_eq_true rfl, Nat.le_of_ble_eq_true rfl⟩) rfl hl.1 rfl (Nat.le_of_ble_eq_true rfl) dX0_isClosedUpon_38 ⟨Nat.zero_le _, Nat.zero_le _⟩ ?_
            refine lv_if_ne (tgt := 57) hx hb dX0_isClosedUpon_41 (by decide) (fun c12 => ?_) (fun c12 => ?_)
            · have hf := k_F c12 hf
              refine lv_iinc (v := s2 + 1) (lv' := [(2, .int (s2 + 1)), (4, .int 0), (3, .int v2), (0, .int b0), (1, .int b1)]) hx hb dX0_isClosedUpon_57 hl (k := 4) rfl rfl (by decide) rfl (fun ls hl => ?_)
              refine lv_goto (tgt := 2) hx hb dX0_isClosedUpon_60 (by decide) ?_
              obtain rfl := k_some hf
              exact ih b0 b1 (s2 + 1) q (k_inl hq) ls (lv_sub hl [3, 4, 0] rfl) kx kr56
            · have hf := k_T c12 hf
              refine lv_iload_n hx hb dX0_isClosedUpon_44 rfl (lv_at hl 1 rfl) ?_
              refine lv_iload_n hx hb dX0_isClosedUpon_45 rfl (lv_at hl 3 rfl) ?_
              refine lv_iand hx hb dX0_isClosedUpon_46 ?_
              refine lv_if_eq (tgt := 57) hx hb dX0_isClosedUpon_47 (by decide) (fun c13 => ?_) (fun c13 => ?_)
              · have hf := k_T c13 hf
                refine lv_iinc (v := s2 + 1) (lv' := [(2, .int (s2 + 1)), (4, .int 0), (3, .int v2), (0, .int b0), (1, .int b1)]) hx hb dX0_isClosedUpon_57 hl (k := 4) rfl rfl (by decide) rfl (fun ls hl => ?_)
                refine lv_goto (tgt := 2) hx hb dX0_isClosedUpon_60 (by decide) ?_
                obtain rfl := k_some hf
                exact ih b0 b1 (s2 + 1) q (k_inl hq) ls (lv_sub hl [3, 4, 0] rfl) kx kr56
              · have hf := k_F c13 hf
                refine lv_iload hx hb dX0_isClosedUpon_50 (lv_at hl 0 rfl) ?_
                refine lv_if_eq (tgt := 57) hx hb dX0_isClosedUpon_52 (by decide) (fun c14 => ?_) (fun c14 => ?_)
                · have hf := k_T c14 hf
                  refine lv_iinc (v := s2 + 1) (lv' := [(2, .int (s2 + 1)), (4, .int 0), (3, .int v2), (0, .int b0), (1, .int b1)]) hx hb dX0_isClosedUpon_57 hl (k := 4) rfl rfl (by decide) rfl (fun ls hl => ?_)
                  refine lv_goto (tgt := 2) hx hb dX0_isClosedUpon_60 (by decide) ?_
                  obtain rfl := k_some hf
                  exact ih b0 b1 (s2 + 1) q (k_inl hq) ls (lv_sub hl [3, 4, 0] rfl) kx kr56
                · have hf := k_F c14 hf
                  refine lv_iconst (v := 0) hx hb dX0_isClosedUpon_55 (by decide) ?_
                  obtain rfl := k_some hf
                  obtain rfl := k_some (k_inr hq)
                  exact kr56 ls 0 rfl hl.1
          · have hf := k_T c10 hf
            refine lv_iconst (v := 1) hx hb dX0_isClosedUpon_29 (by decide) ?_
            refine lv_goto (tgt := 34) hx hb dX0_isClosedUpon_30 (by decide) ?_
            refine lv_istore (lv' := [(4, .int 1), (3, .int v2), (0, .int b0), (1, .int b1), (2, .int s2)]) hx hb dX0_isClosedUpon_34 hl (by decide) rfl (fun ls hl => ?_)
            refine lv_iload_n hx hb dX0_isClosedUpon_36 rfl (lv_at hl 2 rfl) ?_
            refine lv_iload_n hx hb dX0_isClosedUpon_37 rfl (lv_at hl 4 rfl) ?_
            obtain ⟨v15, hv15, hf⟩ := k_B hf
            refine k_callS (As := [.int b0, .int s2]) (rest := []) ⟨hx, hb, hml, hown, hts⟩ (c_X3_has l b0 s2 v15 hv15) (va_cwS 2 hts gX0_isClosedUpon_X3_has rfl rfl rfl hd_X3_has ⟨Nat.le_of_ble_eq_true rfl, Nat.le_of_ble_eq_true rfl⟩) rfl hl.1 rfl (Nat.le_of_ble_eq_true rfl) dX0_isClosedUpon_38 ⟨Nat.zero_le _, Nat.zero_le _⟩ ?_
            refine lv_if_ne (tgt := 57) hx hb dX0_isClosedUpon_41 (by decide) (fun c16 => ?_) (fun c16 => ?_)
            · have hf := k_F c16 hf
              refine lv_iinc (v := s2 + 1) (lv' := [(2, .int (s2 + 1)), (4, .int 1), (3, .int v2), (0, .int b0), (1, .int b1)]) hx hb dX0_isClosedUpon_57 hl (k := 4) rfl rfl (by decide) rfl (fun ls hl => ?_)
              refine lv_goto (tgt := 2) hx hb dX0_isClosedUpon_60 (by decide) ?_
              obtain rfl := k_some hf
              exact ih b0 b1 (s2 + 1) q (k_inl hq) ls (lv_sub hl [3, 4, 0] rfl) kx kr56
            · have hf := k_T c16 hf
              refine lv_iload_n hx hb dX0_isClosedUpon_44 rfl (lv_at hl 1 rfl) ?_
              refine lv_iload_n hx hb dX0_isClosedUpon_45 rfl (lv_at hl 3 rfl) ?_
              refine lv_iand hx hb dX0_isClosedUpon_46 ?_
              refine lv_if_eq (tgt := 57) hx hb dX0_isClosedUpon_47 (by decide) (fun c17 => ?_) (fun c17 => ?_)
              · have hf := k_T c17 hf
                refine lv_iinc (v := s2 + 1) (lv' := [(2, .int (s2 + 1)), (4, .int 1), (3, .int v2), (0, .int b0), (1, .int b1)]) hx hb dX0_isClosedUpon_57 hl (k := 4) rfl rfl (by decide) rfl (fun ls hl => ?_)
                refine lv_goto (tgt := 2) hx hb dX0_isClosedUpon_60 (by decide) ?_
                obtain rfl := k_some hf
                exact ih b0 b1 (s2 + 1) q (k_inl hq) ls (lv_sub hl [3, 4, 0] rfl) kx kr56
              · have hf := k_F c17 hf
                refine lv_iload hx hb dX0_isClosedUpon_50 (lv_at hl 0 rfl) ?_
                refine lv_if_eq (tgt := 57) hx hb dX0_isClosedUpon_52 (by decide) (fun c18 => ?_) (fun c18 => ?_)
                · have hf := k_T c18 hf
                  refine lv_iinc (v := s2 + 1) (lv' := [(2, .int (s2 + 1)), (4, .int 1), (3, .int v2), (0, .int b0), (1, .int b1)]) hx hb dX0_isClosedUpon_57 hl (k := 4) rfl rfl (by decide) rfl (fun ls hl => ?_)
                  refine lv_goto (tgt := 2) hx hb dX0_isClosedUpon_60 (by decide) ?_
                  obtain rfl := k_some hf
                  exact ih b0 b1 (s2 + 1) q (k_inl hq) ls (lv_sub hl [3, 4, 0] rfl) kx kr56
                · have hf := k_F c18 hf
                  refine lv_iconst (v := 0) hx hb dX0_isClosedUpon_55 (by decide) ?_
                  obtain rfl := k_some hf
                  obtain rfl := k_some (k_inr hq)
                  exact kr56 ls 0 rfl hl.1
  unfold f_X0_isClosedUpon at hf
  refine lv_iconst (v := 0) hx hb dX0_isClosedUpon_0 (by decide) ?_
  refine lv_istore_n (lv' := [(2, .int 0), (0, .int a0), (1, .int a1)]) hx hb dX0_isClosedUpon_1 rfl hl (by decide) rfl (fun ls hl => ?_)
  obtain ⟨x19, hx19, hf⟩ := k_B hf
  refine L2 _ 1000 a0 a1 0 x19 hx19 ls (lv_sub hl [1, 2, 0] rfl) ?_ ?_
  · intro ls z20 ez20 hl
    subst ez20
    have hf := k_inl hf
    refine lv_iconst (v := 1) hx hb dX0_isClosedUpon_63 (by decide) ?_
    obtain rfl := k_some hf
    exact W.zret (v := 1) hx hb hr rfl (fun t ht hW => ⟨rfl, ht⟩) (fun q h => absurd h List.not_mem_nil) dX0_isClosedUpon_64
  · intro ls r21 er21 hls
    subst er21
    have hf := k_inr hf
    obtain ⟨rfl, hn⟩ := k_bool hf
    exact W.zret (v := r21) hx hb hr hn (fun t ht hW => ⟨rfl, ht⟩) (fun q h => absurd h List.not_mem_nil) dX0_isClosedUpon_56
def f_X0_kindOf (a0 : Int32) (a1 : Int32) : Option Int32 :=
  (f_J6_bitCount_0f7a4 a1).bind fun v1 =>
  if v1 < 4 then
    if v1 < 3 then
      some 0
    else
      some 1
  else
    (f_X0_isClosedUpon a0 a1).bind fun v4 =>
    if v4 = 0 then
      if v1 < 3 then
        some 0
      else
        some 1
    else
      some 2
abbrev rm_X0_kindOf : Room := { frames := 3, cells := 0, slots := 0, locals := 69 }
theorem hd_X0_kindOf : yX0_kindOf.cls ≠ "java/lang/invoke/MethodHandle" ∧ yX0_kindOf.cls ≠ "java/lang/invoke/VarHandle" ∧ (parseMethodDescriptor yX0_kindOf.desc).map (fun d => d.parameters.length) = some 2 := by decide +kernel
set_option maxHeartbeats 4000000 in
set_option maxRecDepth 100000 in
theorem c_X0_kindOf (l : Launch) (a0 : Int32) (a1 : Int32) (r : Int32) (hf : f_X0_kindOf a0 a1 = some r) : k_PMet l yX0_kindOf wsX0_kindOf rm_X0_kindOf [.int a0, .int a1] r := by
  refine k_pureOf (cc := cX0_kindOf) (maxL := 3) (ret := (some .int)) (by decide) rfl (Nat.le_of_ble_eq_true rfl) ?_
  intro p e s m args below meth c ls hx hb hr hlocks hml hown hts hl
  have hl : lv_has ls 3 [(0, .int a0), (1, .int a1)] := hl
  unfold f_X0_kindOf at hf
  refine lv_iload_n hx hb dX0_kindOf_0 rfl (lv_at hl 1 rfl) ?_
  obtain ⟨v1, hv1, hf⟩ := k_B hf
  refine k_callS (As := [.int a1]) (rest := []) ⟨hx, hb, hml, hown, hts⟩ (c_J6_bitCount_0f7a4 l a1 v1 hv1) (va_cwS 1 hts gX0_kindOf_J6_bitCount_0f7a4 rfl rfl rfl hd_J6_bitCount_0f7a4 ⟨Nat.le_of_ble_eq_true rfl, Nat.le_of_ble_eq_true rfl⟩) rfl hl.1 rfl (Nat.le_of_ble_eq_true rfl) dX0_kindOf_1 ⟨Nat.zero_le _, Nat.zero_le _⟩ ?_
  refine lv_istore_n (lv' := [(2, .int v1), (0, .int a0), (1, .int a1)]) hx hb dX0_kindOf_4 rfl hl (by decide) rfl (fun ls hl => ?_)
  refine lv_iload_n hx hb dX0_kindOf_5 rfl (lv_at hl 0 rfl) ?_
  refine lv_iconst (v := 4) hx hb dX0_kindOf_6 (by decide) ?_
  refine lv_icmp_lt (tgt := 20) hx hb dX0_kindOf_7 (by decide) (fun c2 => ?_) (fun c2 => ?_)
  · have hf := k_T c2 hf
    refine lv_iload_n hx hb dX0_kindOf_20 rfl (lv_at hl 0 rfl) ?_
    refine lv_iconst (v := 3) hx hb dX0_kindOf_21 (by decide) ?_
    refine lv_icmp_lt (tgt := 29) hx hb dX0_kindOf_22 (by decide) (fun c3 => ?_) (fun c3 => ?_)
    · have hf := k_T c3 hf
      refine lv_iconst (v := 0) hx hb dX0_kindOf_29 (by decide) ?_
      obtain rfl := k_some hf
      exact W.iret (v := 0) hx hb hr (fun t ht hW => ⟨rfl, ht⟩) (fun q h => absurd h List.not_mem_nil) dX0_kindOf_30
    · have hf := k_F c3 hf
      refine lv_iconst (v := 1) hx hb dX0_kindOf_25 (by decide) ?_
      refine lv_goto (tgt := 30) hx hb dX0_kindOf_26 (by decide) ?_
      obtain rfl := k_some hf
      exact W.iret (v := 1) hx hb hr (fun t ht hW => ⟨rfl, ht⟩) (fun q h => absurd h List.not_mem_nil) dX0_kindOf_30
  · have hf := k_F c2 hf
    refine lv_iload_n hx hb dX0_kindOf_10 rfl (lv_at hl 1 rfl) ?_
    refine lv_iload_n hx hb dX0_kindOf_11 rfl (lv_at hl 2 rfl) ?_
    obtain ⟨v4, hv4, hf⟩ := k_B hf
    refine k_callS (As := [.int a0, .int a1]) (rest := []) ⟨hx, hb, hml, hown, hts⟩ (c_X0_isClosedUpon l a0 a1 v4 hv4) (va_cwS 2 hts gX0_kindOf_X0_isClosedUpon rfl rfl rfl hd_X0_isClosedUpon ⟨Nat.le_of_ble_eq_true rfl, Nat.le_of_ble_eq_true rfl⟩) rfl hl.1 rfl (Nat.le_of_ble_eq_true rfl) dX0_kindOf_12 ⟨Nat.zero_le _, Nat.zero_le _⟩ ?_
    refine lv_if_eq (tgt := 20) hx hb dX0_kindOf_15 (by decide) (fun c5 => ?_) (fun c5 => ?_)
    · have hf := k_T c5 hf
      refine lv_iload_n hx hb dX0_kindOf_20 rfl (lv_at hl 0 rfl) ?_
      refine lv_iconst (v := 3) hx hb dX0_kindOf_21 (by decide) ?_
      refine lv_icmp_lt (tgt := 29) hx hb dX0_kindOf_22 (by decide) (fun c6 => ?_) (fun c6 => ?_)
      · have hf := k_T c6 hf
        refine lv_iconst (v := 0) hx hb dX0_kindOf_29 (by decide) ?_
        obtain rfl := k_some hf
        exact W.iret (v := 0) hx hb hr (fun t ht hW => ⟨rfl, ht⟩) (fun q h => absurd h List.not_mem_nil) dX0_kindOf_30
      · have hf := k_F c6 hf
        refine lv_iconst (v := 1) hx hb dX0_kindOf_25 (by decide) ?_
        refine lv_goto (tgt := 30) hx hb dX0_kindOf_26 (by decide) ?_
        obtain rfl := k_some hf
        exact W.iret (v := 1) hx hb hr (fun t ht hW => ⟨rfl, ht⟩) (fun q h => absurd h List.not_mem_nil) dX0_kindOf_30
    · have hf := k_F c5 hf
      refine lv_iconst (v := 2) hx hb dX0_kindOf_18 (by decide) ?_
      obtain rfl := k_some hf
      exact W.iret (v := 2) hx hb hr (fun t ht hW => ⟨rfl, ht⟩) (fun q h => absurd h List.not_mem_nil) dX0_kindOf_19
def t_X0_count_14 (b0 : Int32) (b1 : Int32) (b2 : Int32) (s14 : Int32 × Int32 × Int32) : Option ((Int32 × Int32 × Int32) ⊕ (Int32 × Int32 × Int32)) :=
  if 12 ≤ s14.2.2 then
    some (.inr (s14.1, s14.2.1, s14.2.2))
  else
    (f_X3_has b2 s14.2.2).bind fun v3 =>
    if v3 = 0 then
      some (.inl (s14.1, s14.2.1, s14.2.2 + 1))
    else
      (f_X3_has s14.1 s14.2.2).bind fun v5 =>
      if v5 = 0 then
        (f_X0_around b0 s14.2.2).bind fun v7 =>
        k_let (s14.1 ||| v7) fun y8 =>
        (f_X0_kindOf b0 v7).bind fun v9 =>
        if v9 = b1 then
          some (.inl (y8, s14.2.1 + 1, s14.2.2 + 1))
        else
          some (.inl (y8, s14.2.1, s14.2.2 + 1))
      else
        some (.inl (s14.1, s14.2.1, s14.2.2 + 1))
def f_X0_count (a0 : Int32) (a1 : Int32) : Option Int32 :=
  (f_X3_boxesHaving a0 2).bind fun v1 =>
  (k_loop (t_X0_count_14 a0 a1 v1) 1000 (0, 0, 0)).bind fun x11 =>
  some x11.2.1
abbrev rm_X0_count : Room := { frames := 4, cells := 0, slots := 0, locals := 95 }
theorem hd_X0_count : yX0_count.cls ≠ "java/lang/invoke/MethodHandle" ∧ yX0_count.cls ≠ "java/lang/invoke/VarHandle" ∧ (parseMethodDescriptor yX0_count.desc).map (fun d => d.parameters.length) = some 2 := by decide +kernel
set_option maxHeartbeats 4000000 in
set_option maxRecDepth 100000 in
theorem c_X0_count (l : Launch) (a0 : Int32) (a1 : Int32) (r : Int32) (hf : f_X0_count a0 a1 = some r) : k_PMet l yX0_count wsX0_count rm_X0_count [.int a0, .int a1] r := by
  refine k_pureOf (cc := cX0_count) (maxL := 7) (ret := (some .int)) (by decide) rfl (Nat.le_of_ble_eq_true rfl) ?_
  intro p e s m args below meth c ls hx hb hr hlocks hml hown hts hl
  have hl : lv_has ls 7 [(0, .int a0), (1, .int a1)] := hl
  have L14 : ∀ (Q : State → Prop) (n : Nat) (b0 : Int32) (b1 : Int32) (b2 : Int32) (s14 : Int32 × Int32 × Int32) (q : (Int32 × Int32 × Int32)), k_loop (t_X0_count_14 b0 b1 b2) n s14 = some q → ∀ (ls : Array Slot), lv_has ls 7 [(0, .int b0), (1, .int b1), (2, .int b2), (3, .int s14.1), (4, .int s14.2.1), (5, .int s14.2.2)] → (∀ (ls : Array Slot), True → lv_has ls 7 [(4, .int q.2.1)] → W p l e rm_X0_count s m args below meth c s.heap [] 0 0 Q (F0 m 71 ls [])) → W p l e rm_X0_count s m args below meth c s.heap [] 0 0 Q (F0 m 14 ls []) := by
    intro Q n
    induction n with
    | zero =>
      intro b0 b1 b2 s14 q hq
      exact (k_loop0 hq).elim
    | succ n ih =>
      intro b0 b1 b2 s14 q hq ls hl kx 
      obtain ⟨x, hf, hq⟩ := k_loopE hq
      unfold t_X0_count_14 at hf
      refine lv_iload hx hb dX0_count_14 (lv_at hl 5 rfl) ?_
      refine lv_bipush (v := 12) hx hb dX0_count_16 (by decide) ?_
      refine lv_icmp_ge (tgt := 71) hx hb dX0_count_18 (by decide) (fun c2 => ?_) (fun c2 => ?_)
      · have hf := k_T c2 hf
        obtain rfl := k_some hf
        obtain rfl := k_some (k_inr hq)
        exact kx ls trivial (lv_sub hl [4] rfl)
      · have hf := k_F c2 hf
        refine lv_iload_n hx hb dX0_count_21 rfl (lv_at hl 2 rfl) ?_
        refine lv_iload hx hb dX0_count_22 (lv_at hl 5 rfl) ?_
        obtain ⟨v3, hv3, hf⟩ := k_B hf
        refine k_callS (As := [.int b2, .int s14.2.2]) (rest := []) ⟨hx, hb, hml, hown, hts⟩ (c_X3_has l b2 s14.2.2 v3 hv3) (va_cwS 2 hts gX0_count_X3_has rfl rfl rfl hd_X3_has ⟨Nat.le_of_ble_eq_true rfl, Nat.le_of_ble_eq_true rfl⟩) rfl hl.1 rfl (Nat.le_of_ble_eq_true rfl) dX0_count_24 ⟨Nat.zero_le _, Nat.zero_le _⟩ ?_
        refine lv_if_eq (tgt := 65) hx hb dX0_count_27 (by decide) (fun c4 => ?_) (fun c4 => ?_)
        · have hf := k_T c4 hf
          refine lv_iinc (v := s14.2.2 + 1) (lv' := [(5, .int (s14.2.2 + 1)), (0, .int b0), (1, .int b1), (2, .int b2), (3, .int s14.1), (4, .int s14.2.1)]) hx hb dX0_count_65 hl (k := 5) rfl rfl (by decide) rfl (fun ls hl => ?_)
          refine lv_goto (tgt := 14) hx hb dX0_count_68 (by decide) ?_
          obtain rfl := k_some hf
          exact ih b0 b1 b2 (s14.1, s14.2.1, s14.2.2 + 1) q (k_inl hq) ls (lv_sub hl [1, 2, 3, 4, 5, 0] rfl) kx 
        · have hf := k_F c4 hf
          refine lv_iload_n hx hb dX0_count_30 rfl (lv_at hl 3 rfl) ?_
          refine lv_iload hx hb dX0_count_31 (lv_at hl 5 rfl) ?_
          obtain ⟨v5, hv5, hf⟩ := k_B hf
          refine k_callS (As := [.int s14.1, .int s14.2.2]) (rest := []) ⟨hx, hb, hml, hown, hts⟩ (c_X3_has l s14.1 s14.2.2 v5 hv5) (va_cwS 2 hts gX0_count_X3_has rfl rfl rfl hd_X3_has ⟨Nat.le_of_ble_eq_true rfl, Nat.le_of_ble_eq_true rfl⟩) rfl hl.1 rfl (Nat.le_of_ble_eq_true rfl) dX0_count_33 ⟨Nat.zero_le _, Nat.zero_le _⟩ ?_
          refine lv_if_ne (tgt := 65) hx hb dX0_count_36 (by decide) (fun c6 => ?_) (fun c6 => ?_)
          · have hf := k_F c6 hf
            refine lv_iinc (v := s14.2.2 + 1) (lv' := [(5, .int (s14.2.2 + 1)), (0, .int b0), (1, .int b1), (2, .int b2), (3, .int s14.1), (4, .int s14.2.1)]) hx hb dX0_count_65 hl (k := 5) rfl rfl (by decide) rfl (fun ls hl => ?_)
            refine lv_goto (tgt := 14) hx hb dX0_count_68 (by decide) ?_
            obtain rfl := k_some hf
            exact ih b0 b1 b2 (s14.1, s14.2.1, s14.2.2 + 1) q (k_inl hq) ls (lv_sub hl [1, 2, 3, 4, 5, 0] rfl) kx 
          · have hf := k_T c6 hf
            refine lv_iload_n hx hb dX0_count_39 rfl (lv_at hl 0 rfl) ?_
            refine lv_iload hx hb dX0_count_40 (lv_at hl 5 rfl) ?_
            obtain ⟨v7, hv7, hf⟩ := k_B hf
            refine k_callS (As := [.int b0, .int s14.2.2]) (rest := []) ⟨hx, hb, hml, hown, hts⟩ (c_X0_around l b0 s14.2.2 v7 hv7) (va_cwS 2 hts gX0_count_X0_around rfl rfl rfl hd_X0_around ⟨Nat.le_of_ble_eq_true rfl, Nat.le_of_ble_eq_true rfl⟩) rfl hl.1 rfl (Nat.le_of_ble_eq_true rfl) dX0_count_42 ⟨Nat.zero_le _, Nat.zero_le _⟩ ?_
            refine lv_istore (lv' := [(6, .int v7), (0, .int b0), (1, .int b1), (2, .int b2), (3, .int s14.1), (4, .int s14.2.1), (5, .int s14.2.2)]) hx hb dX0_count_45 hl (by decide) rfl (fun ls hl => ?_)
            refine lv_iload_n hx hb dX0_count_47 rfl (lv_at hl 4 rfl) ?_
            refine lv_iload hx hb dX0_count_48 (lv_at hl 0 rfl) ?_
            refine lv_ior hx hb dX0_count_50 ?_
            obtain ⟨y8, ey8, hf⟩ := k_L hf
            refine k_name ey8 ?_
            refine lv_istore_n (lv' := [(3, .int y8), (6, .int v7), (0, .int b0), (1, .int b1), (2, .int b2), (4, .int s14.2.1), (5, .int s14.2.2)]) hx hb dX0_count_51 rfl hl (by decide) rfl (fun ls hl => ?_)
            refine lv_iload_n hx hb dX0_count_52 rfl (lv_at hl 2 rfl) ?_
            refine lv_iload hx hb dX0_count_53 (lv_at hl 1 rfl) ?_
            obtain ⟨v9, hv9, hf⟩ := k_B hf
            refine k_callS (As := [.int b0, .int v7]) (rest := []) ⟨hx, hb, hml, hown, hts⟩ (c_X0_kindOf l b0 v7 v9 hv9) (va_cwS 2 hts gX0_count_X0_kindOf rfl rfl rfl hd_X0_kindOf ⟨Nat.le_of_ble_eq_true rfl, Nat.le_of_ble_eq_true rfl⟩) rfl hl.1 rfl (Nat.le_of_ble_eq_true rfl) dX0_count_55 ⟨Nat.zero_le _, Nat.zero_le _⟩ ?_
            refine lv_iload_n hx hb dX0_count_58 rfl (lv_at hl 3 rfl) ?_
            refine lv_icmp_ne (tgt := 65) hx hb dX0_count_59 (by decide) (fun c10 => ?_) (fun c10 => ?_)
            · have hf := k_F c10 hf
              refine lv_iinc (v := s14.2.2 + 1) (lv' := [(5, .int (s14.2.2 + 1)), (3, .int y8), (6, .int v7), (0, .int b0), (1, .int b1), (2, .int b2), (4, .int s14.2.1)]) hx hb dX0_count_65 hl (k := 6) rfl rfl (by decide) rfl (fun ls hl => ?_)
              refine lv_goto (tgt := 14) hx hb dX0_count_68 (by decide) ?_
              obtain rfl := k_some hf
              exact ih b0 b1 b2 (y8, s14.2.1, s14.2.2 + 1) q (k_inl hq) ls (lv_sub hl [3, 4, 5, 1, 6, 0] rfl) kx 
            · have hf := k_T c10 hf
              refine lv_iinc (v := s14.2.1 + 1) (lv' := [(4, .int (s14.2.1 + 1)), (3, .int y8), (6, .int v7), (0, .int b0), (1, .int b1), (2, .int b2), (5, .int s14.2.2)]) hx hb dX0_count_62 hl (k := 5) rfl rfl (by decide) rfl (fun ls hl => ?_)
              refine lv_iinc (v := s14.2.2 + 1) (lv' := [(5, .int (s14.2.2 + 1)), (4, .int (s14.2.1 + 1)), (3, .int y8), (6, .int v7), (0, .int b0), (1, .int b1), (2, .int b2)]) hx hb dX0_count_65 hl (k := 6) rfl rfl (by decide) rfl (fun ls hl => ?_)
              refine lv_goto (tgt := 14) hx hb dX0_count_68 (by decide) ?_
              obtain rfl := k_some hf
              exact ih b0 b1 b2 (y8, s14.2.1 + 1, s14.2.2 + 1) q (k_inl hq) ls (lv_sub hl [4, 5, 6, 2, 1, 0] rfl) kx 
  unfold f_X0_count at hf
  refine lv_iload_n hx hb dX0_count_0 rfl (lv_at hl 0 rfl) ?_
  refine lv_iconst (v := 2) hx hb dX0_count_1 (by decide) ?_
  obtain ⟨v1, hv1, hf⟩ := k_B hf
  refine k_callS (As := [.int a0, .int 2]) (rest := []) ⟨hx, hb, hml, hown, hts⟩ (c_X3_boxesHaving l a0 2 v1 hv1) (va_cwS 2 hts gX0_count_X3_boxesHaving rfl rfl rfl hd_X3_boxesHaving ⟨Nat.le_of_ble_eq_true rfl, Nat.le_of_ble_eq_true rfl⟩) rfl hl.1 rfl (Nat.le_of_ble_eq_true rfl) dX0_count_2 ⟨Nat.zero_le _, Nat.zero_le _⟩ ?_
  refine lv_istore_n (lv' := [(2, .int v1), (0, .int a0), (1, .int a1)]) hx hb dX0_count_5 rfl hl (by decide) rfl (fun ls hl => ?_)
  refine lv_iconst (v := 0) hx hb dX0_count_6 (by decide) ?_
  refine lv_istore_n (lv' := [(3, .int 0), (2, .int v1), (0, .int a0), (1, .int a1)]) hx hb dX0_count_7 rfl hl (by decide) rfl (fun ls hl => ?_)
  refine lv_iconst (v := 0) hx hb dX0_count_8 (by decide) ?_
  refine lv_istore (lv' := [(4, .int 0), (3, .int 0), (2, .int v1), (0, .int a0), (1, .int a1)]) hx hb dX0_count_9 hl (by decide) rfl (fun ls hl => ?_)
  refine lv_iconst (v := 0) hx hb dX0_count_11 (by decide) ?_
  refine lv_istore (lv' := [(5, .int 0), (4, .int 0), (3, .int 0), (2, .int v1), (0, .int a0), (1, .int a1)]) hx hb dX0_count_12 hl (by decide) rfl (fun ls hl => ?_)
  obtain ⟨x11, hx11, hf⟩ := k_B hf
  refine L14 _ 1000 a0 a1 v1 (0, 0, 0) x11 hx11 ls (lv_sub hl [4, 5, 3, 2, 1, 0] rfl) ?_
  · intro ls _ hl
    refine lv_iload hx hb dX0_count_71 (lv_at hl 0 rfl) ?_
    obtain rfl := k_some hf
    exact W.iret (v := x11.2.1) hx hb hr (fun t ht hW => ⟨rfl, ht⟩) (fun q h => absurd h List.not_mem_nil) dX0_count_73
def f_X1_isNear (a0 : Int32) : Option Int32 :=
  (f_J6_bitCount_0f7a4 a0).bind fun v1 =>
  if 8 < ((31 : Int32) - v1) then
    some 0
  else
    some 1
abbrev rm_X1_isNear : Room := { frames := 1, cells := 0, slots := 0, locals := 20 }
theorem hd_X1_isNear : yX1_isNear.cls ≠ "java/lang/invoke/MethodHandle" ∧ yX1_isNear.cls ≠ "java/lang/invoke/VarHandle" ∧ (parseMethodDescriptor yX1_isNear.desc).map (fun d => d.parameters.length) = some 1 := by decide +kernel
set_option maxHeartbeats 4000000 in
set_option maxRecDepth 100000 in
theorem c_X1_isNear (l : Launch) (a0 : Int32) (r : Int32) (hf : f_X1_isNear a0 = some r) : k_PMet l yX1_isNear wsX1_isNear rm_X1_isNear [.int a0] r := by
  refine k_pureOf (cc := cX1_isNear) (maxL := 1) (ret := (some .boolean)) (by decide) rfl (Nat.le_of_ble_eq_true rfl) ?_
  intro p e s m args below meth c ls hx hb hr hlocks hml hown hts hl
  have hl : lv_has ls 1 [(0, .int a0)] := hl
  unfold f_X1_isNear at hf
  refine lv_bipush (v := 31) hx hb dX1_isNear_0 (by decide) ?_
  refine lv_iload_n hx hb dX1_isNear_2 rfl (lv_at hl 0 rfl) ?_
  obtain ⟨v1, hv1, hf⟩ := k_B hf
  refine k_callS (As := [.int a0]) (rest := [.int 31]) ⟨hx, hb, hml, hown, hts⟩ (c_J6_bitCount_0f7a4 l a0 v1 hv1) (va_cwS 1 hts gX1_isNear_J6_bitCount_0f7a4 rfl rfl rfl hd_J6_bitCount_0f7a4 ⟨Nat.le_of_ble_eq_true rfl, Nat.le_of_ble_eq_true rfl⟩) rfl hl.1 rfl (Nat.le_of_ble_eq_true rfl) dX1_isNear_3 ⟨Nat.zero_le _, Nat.zero_le _⟩ ?_
  refine lv_isub hx hb dX1_isNear_6 ?_
  refine lv_bipush (v := 8) hx hb dX1_isNear_7 (by decide) ?_
  refine lv_icmp_gt (tgt := 16) hx hb dX1_isNear_9 (by decide) (fun c2 => ?_) (fun c2 => ?_)
  · have hf := k_T c2 hf
    refine lv_iconst (v := 0) hx hb dX1_isNear_16 (by decide) ?_
    obtain rfl := k_some hf
    exact W.zret (v := 0) hx hb hr rfl (fun t ht hW => ⟨rfl, ht⟩) (fun q h => absurd h List.not_mem_nil) dX1_isNear_17
  · have hf := k_F c2 hf
    refine lv_iconst (v := 1) hx hb dX1_isNear_12 (by decide) ?_
    refine lv_goto (tgt := 17) hx hb dX1_isNear_13 (by decide) ?_
    obtain rfl := k_some hf
    exact W.zret (v := 1) hx hb hr rfl (fun t ht hW => ⟨rfl, ht⟩) (fun q h => absurd h List.not_mem_nil) dX1_isNear_17
def f_X7_isFence (a0 : Int32) : Option Int32 :=
  if a0 < 0 then
    some 0
  else
    if 31 ≤ a0 then
      some 0
    else
      some 1
abbrev rm_X7_isFence : Room := { frames := 0, cells := 0, slots := 0, locals := 0 }
theorem hd_X7_isFence : yX7_isFence.cls ≠ "java/lang/invoke/MethodHandle" ∧ yX7_isFence.cls ≠ "java/lang/invoke/VarHandle" ∧ (parseMethodDescriptor yX7_isFence.desc).map (fun d => d.parameters.length) = some 1 := by decide +kernel
set_option maxHeartbeats 4000000 in
set_option maxRecDepth 100000 in
theorem c_X7_isFence (l : Launch) (a0 : Int32) (r : Int32) (hf : f_X7_isFence a0 = some r) : k_PMet l yX7_isFence wsX7_isFence rm_X7_isFence [.int a0] r := by
  refine k_pureOf (cc := cX7_isFence) (maxL := 1) (ret := (some .boolean)) (by decide) rfl (Nat.le_of_ble_eq_true rfl) ?_
  intro p e s m args below meth c ls hx hb hr hlocks hml hown hts hl
  have hl : lv_has ls 1 [(0, .int a0)] := hl
  unfold f_X7_isFence at hf
  refine lv_iload_n hx hb dX7_isFence_0 rfl (lv_at hl 0 rfl) ?_
  refine lv_if_lt (tgt := 14) hx hb dX7_isFence_1 (by decide) (fun c1 => ?_) (fun c1 => ?_)
  · have hf := k_T c1 hf
    refine lv_iconst (v := 0) hx hb dX7_isFence_14 (by decide) ?_
    obtain rfl := k_some hf
    exact W.zret (v := 0) hx hb hr rfl (fun t ht hW => ⟨rfl, ht⟩) (fun q h => absurd h List.not_mem_nil) dX7_isFence_15
  · have hf := k_F c1 hf
    refine lv_iload_n hx hb dX7_isFence_4 rfl (lv_at hl 0 rfl) ?_
    refine lv_bipush (v := 31) hx hb dX7_isFence_5 (by decide) ?_
    refine lv_icmp_ge (tgt := 14) hx hb dX7_isFence_7 (by decide) (fun c2 => ?_) (fun c2 => ?_)
    · have hf := k_T c2 hf
      refine lv_iconst (v := 0) hx hb dX7_isFence_14 (by decide) ?_
      obtain rfl := k_some hf
      exact W.zret (v := 0) hx hb hr rfl (fun t ht hW => ⟨rfl, ht⟩) (fun q h => absurd h List.not_mem_nil) dX7_isFence_15
    · have hf := k_F c2 hf
      refine lv_iconst (v := 1) hx hb dX7_isFence_10 (by decide) ?_
      refine lv_goto (tgt := 15) hx hb dX7_isFence_11 (by decide) ?_
      obtain rfl := k_some hf
      exact W.zret (v := 1) hx hb hr rfl (fun t ht hW => ⟨rfl, ht⟩) (fun q h => absurd h List.not_mem_nil) dX7_isFence_15
def f_X7_isBox (a0 : Int32) : Option Int32 :=
  if a0 < 0 then
    some 0
  else
    if 12 ≤ a0 then
      some 0
    else
      some 1
abbrev rm_X7_isBox : Room := { frames := 0, cells := 0, slots := 0, locals := 0 }
theorem hd_X7_isBox : yX7_isBox.cls ≠ "java/lang/invoke/MethodHandle" ∧ yX7_isBox.cls ≠ "java/lang/invoke/VarHandle" ∧ (parseMethodDescriptor yX7_isBox.desc).map (fun d => d.parameters.length) = some 1 := by decide +kernel
set_option maxHeartbeats 4000000 in
set_option maxRecDepth 100000 in
theorem c_X7_isBox (l : Launch) (a0 : Int32) (r : Int32) (hf : f_X7_isBox a0 = some r) : k_PMet l yX7_isBox wsX7_isBox rm_X7_isBox [.int a0] r := by
  refine k_pureOf (cc := cX7_isBox) (maxL := 1) (ret := (some .boolean)) (by decide) rfl (Nat.le_of_ble_eq_true rfl) ?_
  intro p e s m args below meth c ls hx hb hr hlocks hml hown hts hl
  have hl : lv_has ls 1 [(0, .int a0)] := hl
  unfold f_X7_isBox at hf
  refine lv_iload_n hx hb dX7_isBox_0 rfl (lv_at hl 0 rfl) ?_
  refine lv_if_lt (tgt := 14) hx hb dX7_isBox_1 (by decide) (fun c1 => ?_) (fun c1 => ?_)
  · have hf := k_T c1 hf
    refine lv_iconst (v := 0) hx hb dX7_isBox_14 (by decide) ?_
    obtain rfl := k_some hf
    exact W.zret (v := 0) hx hb hr rfl (fun t ht hW => ⟨rfl, ht⟩) (fun q h => absurd h List.not_mem_nil) dX7_isBox_15
  · have hf := k_F c1 hf
    refine lv_iload_n hx hb dX7_isBox_4 rfl (lv_at hl 0 rfl) ?_
    refine lv_bipush (v := 12) hx hb dX7_isBox_5 (by decide) ?_
    refine lv_icmp_ge (tgt := 14) hx hb dX7_isBox_7 (by decide) (fun c2 => ?_) (fun c2 => ?_)
    · have hf := k_T c2 hf
      refine lv_iconst (v := 0) hx hb dX7_isBox_14 (by decide) ?_
      obtain rfl := k_some hf
      exact W.zret (v := 0) hx hb hr rfl (fun t ht hW => ⟨rfl, ht⟩) (fun q h => absurd h List.not_mem_nil) dX7_isBox_15
    · have hf := k_F c2 hf
      refine lv_iconst (v := 1) hx hb dX7_isBox_10 (by decide) ?_
      refine lv_goto (tgt := 15) hx hb dX7_isBox_11 (by decide) ?_
      obtain rfl := k_some hf
      exact W.zret (v := 1) hx hb hr rfl (fun t ht hW => ⟨rfl, ht⟩) (fun q h => absurd h List.not_mem_nil) dX7_isBox_15
def f_X7_isPlayer (a0 : Int32) : Option Int32 :=
  if a0 = 0 then
    some 1
  else
    if a0 = 1 then
      some 1
    else
      some 0
abbrev rm_X7_isPlayer : Room := { frames := 0, cells := 0, slots := 0, locals := 0 }
theorem hd_X7_isPlayer : yX7_isPlayer.cls ≠ "java/lang/invoke/MethodHandle" ∧ yX7_isPlayer.cls ≠ "java/lang/invoke/VarHandle" ∧ (parseMethodDescriptor yX7_isPlayer.desc).map (fun d => d.parameters.length) = some 1 := by decide +kernel
set_option maxHeartbeats 4000000 in
set_option maxRecDepth 100000 in
theorem c_X7_isPlayer (l : Launch) (a0 : Int32) (r : Int32) (hf : f_X7_isPlayer a0 = some r) : k_PMet l yX7_isPlayer wsX7_isPlayer rm_X7_isPlayer [.int a0] r := by
  refine k_pureOf (cc := cX7_isPlayer) (maxL := 1) (ret := (some .boolean)) (by decide) rfl (Nat.le_of_ble_eq_true rfl) ?_
  intro p e s m args below meth c ls hx hb hr hlocks hml hown hts hl
  have hl : lv_has ls 1 [(0, .int a0)] := hl
  unfold f_X7_isPlayer at hf
  refine lv_iload_n hx hb dX7_isPlayer_0 rfl (lv_at hl 0 rfl) ?_
  refine lv_if_eq (tgt := 9) hx hb dX7_isPlayer_1 (by decide) (fun c1 => ?_) (fun c1 => ?_)
  · have hf := k_T c1 hf
    refine lv_iconst (v := 1) hx hb dX7_isPlayer_9 (by decide) ?_
    refine lv_goto (tgt := 14) hx hb dX7_isPlayer_10 (by decide) ?_
    obtain rfl := k_some hf
    exact W.zret (v := 1) hx hb hr rfl (fun t ht hW => ⟨rfl, ht⟩) (fun q h => absurd h List.not_mem_nil) dX7_isPlayer_14
  · have hf := k_F c1 hf
    refine lv_iload_n hx hb dX7_isPlayer_4 rfl (lv_at hl 0 rfl) ?_
    refine lv_iconst (v := 1) hx hb dX7_isPlayer_5 (by decide) ?_
    refine lv_icmp_ne (tgt := 13) hx hb dX7_isPlayer_6 (by decide) (fun c2 => ?_) (fun c2 => ?_)
    · have hf := k_F c2 hf
      refine lv_iconst (v := 0) hx hb dX7_isPlayer_13 (by decide) ?_
      obtain rfl := k_some hf
      exact W.zret (v := 0) hx hb hr rfl (fun t ht hW => ⟨rfl, ht⟩) (fun q h => absurd h List.not_mem_nil) dX7_isPlayer_14
    · have hf := k_T c2 hf
      refine lv_iconst (v := 1) hx hb dX7_isPlayer_9 (by decide) ?_
      refine lv_goto (tgt := 14) hx hb dX7_isPlayer_10 (by decide) ?_
      obtain rfl := k_some hf
      exact W.zret (v := 1) hx hb hr rfl (fun t ht hW => ⟨rfl, ht⟩) (fun q h => absurd h List.not_mem_nil) dX7_isPlayer_14
def t_X1_tryOut_36 (rec : Int32 → Int32 → Int32 → Int32 → Int32 → Option Int32) (b0 : Int32) (b1 : Int32) (b2 : Int32) (b4 : Int32) (b6 : Int32) (s36 : Int32 × Int32) : Option ((Int32 × Int32) ⊕ (Int32 × Int32)) :=
  if 31 ≤ s36.2 then
    some (.inr (s36.1, s36.2))
  else
    if b6 ≤ s36.1 then
      some (.inr (s36.1, s36.2))
    else
      (f_X3_has b0 s36.2).bind fun v8 =>
      if v8 = 0 then
        k_let (b0 ||| ((1 : Int32) <<< (s36.2 &&& 31))) fun y10 =>
        (f_X3_closedWith y10 s36.2).bind fun v11 =>
        (f_J6_bitCount_0f7a4 v11).bind fun v12 =>
        k_let (if s36.1 < b2 then b2 else s36.1) fun y13 =>
        if v12 ≤ 0 then
          (rec y10 b1 (-b6) (-y13) (b4 + 1)).bind fun v15 =>
          k_let (-v15) fun y16 =>
          k_let (if s36.1 < y16 then y16 else s36.1) fun y17 =>
          some (.inl (y17, s36.2 + 1))
        else
          (rec y10 (b1 - v12) (y13 - v12) (b6 - v12) (b4 + 1)).bind fun v18 =>
          k_let (v12 + v18) fun y19 =>
          k_let (if s36.1 < y19 then y19 else s36.1) fun y20 =>
          some (.inl (y20, s36.2 + 1))
      else
        some (.inl (s36.1, s36.2 + 1))
def g_X1_tryOut (rec : Int32 → Int32 → Int32 → Int32 → Int32 → Option Int32) (a0 : Int32) (a1 : Int32) (a2 : Int32) (a3 : Int32) (a4 : Int32) : Option Int32 :=
  if a0 = 2147483647 then
    some 0
  else
    if a4 < 8 then
      if a2 < a1 then
        k_let (-a1) fun y4 =>
        k_let (if a3 < a1 then a3 else a1) fun y5 =>
        (k_loop (t_X1_tryOut_36 rec a0 a1 a2 a4 y5) 1000 (y4, 0)).bind fun x21 =>
        some x21.1
      else
        some a1
    else
      some 0
def f_X1_tryOut : Nat → Int32 → Int32 → Int32 → Int32 → Int32 → Option Int32
  | 0 => fun _ _ _ _ _ => none
  | nn + 1 => g_X1_tryOut (f_X1_tryOut nn)
abbrev rm_X1_tryOut (n : Nat) : Room := { frames := n + 3, cells := 0, slots := 0, locals := n * 31 + 97 }
theorem hd_X1_tryOut : yX1_tryOut.cls ≠ "java/lang/invoke/MethodHandle" ∧ yX1_tryOut.cls ≠ "java/lang/invoke/VarHandle" ∧ (parseMethodDescriptor yX1_tryOut.desc).map (fun d => d.parameters.length) = some 5 := by decide +kernel
set_option maxHeartbeats 4000000 in
set_option maxRecDepth 100000 in
theorem c_X1_tryOut (l : Launch) : ∀ (nn : Nat) (a0 : Int32) (a1 : Int32) (a2 : Int32) (a3 : Int32) (a4 : Int32) (r : Int32), f_X1_tryOut nn a0 a1 a2 a3 a4 = some r → k_PMet l yX1_tryOut wsX1_tryOut (rm_X1_tryOut nn) [.int a0, .int a1, .int a2, .int a3, .int a4] r := by
  intro nn
  induction nn with
  | zero =>
    intro a0 a1 a2 a3 a4 r hf
    cases hf
  | succ nn ihn =>
    intro a0 a1 a2 a3 a4 r hf
    refine k_pureOf (cc := cX1_tryOut) (maxL := 12) (ret := (some .int)) (by decide) rfl (Nat.le_of_ble_eq_true rfl) ?_
    intro p e s m args below meth c ls hx hb hr hlocks hml hown hts hl
    have hl : lv_has ls 12 [(0, .int a0), (1, .int a1), (2, .int a2), (3, .int a3), (4, .int a4)] := hl
    have L36 : ∀ (Q : State → Prop) (n : Nat) (b0 : Int32) (b1 : Int32) (b2 : Int32) (b4 : Int32) (b6 : Int32) (s36 : Int32 × Int32) (q : (Int32 × Int32)), k_loop (t_X1_tryOut_36 (f_X1_tryOut nn) b0 b1 b2 b4 b6) n s36 = some q → ∀ (ls : Array Slot), lv_has ls 12 [(0, .int b0), (1, .int b1), (2, .int b2), (4, .int b4), (5, .int s36.1), (6, .int b6), (7, .int s36.2)] → (∀ (ls : Array Slot), True → lv_has ls 12 [(5, .int q.1)] → W p l e (rm_X1_tryOut (nn + 1)) s m args below meth c s.heap [] 0 0 Q (F0 m 155 ls [])) → W p l e (rm_X1_tryOut (nn + 1)) s m args below meth c s.heap [] 0 0 Q (F0 m 36 ls []) := by
      intro Q n
      induction n with
      | zero =>
        intro b0 b1 b2 b4 b6 s36 q hq
        exact (k_loop0 hq).elim
      | succ n ih =>
        intro b0 b1 b2 b4 b6 s36 q hq ls hl kx 
        obtain ⟨x, hf, hq⟩ := k_loopE hq
        unfold t_X1_tryOut_36 at hf
        refine lv_iload hx hb dX1_tryOut_36 (lv_at hl 6 rfl) ?_
        refine lv_bipush (v := 31) hx hb dX1_tryOut_38 (by decide) ?_
        refine lv_icmp_ge (tgt := 155) hx hb dX1_tryOut_40 (by decide) (fun c6 => ?_) (fun c6 => ?_)
        · have hf := k_T c6 hf
          obtain rfl := k_some hf
          obtain rfl := k_some (k_inr hq)
          exact kx ls trivial (lv_sub hl [4] rfl)
        · have hf := k_F c6 hf
          refine lv_iload hx hb dX1_tryOut_43 (lv_at hl 4 rfl) ?_
          refine lv_iload hx hb dX1_tryOut_45 (lv_at hl 5 rfl) ?_
          refine lv_icmp_ge (tgt := 155) hx hb dX1_tryOut_47 (by decide) (fun c7 => ?_) (fun c7 => ?_)
          · have hf := k_T c7 hf
            obtain rfl := k_some hf
            obtain rfl := k_some (k_inr hq)
            exact kx ls trivial (lv_sub hl [4] rfl)
          · have hf := k_F c7 hf
            refine lv_iload_n hx hb dX1_tryOut_50 rfl (lv_at hl 0 rfl) ?_
            refine lv_iload hx hb dX1_tryOut_51 (lv_at hl 6 rfl) ?_
            obtain ⟨v8, hv8, hf⟩ := k_B hf
            refine k_callS (As := [.int b0, .int s36.2]) (rest := []) ⟨hx, hb, hml, hown, hts⟩ (c_X3_has l b0 s36.2 v8 hv8) (va_cwS 2 hts gX1_tryOut_X3_has rfl rfl rfl hd_X3_has ⟨by dsimp only [rm_X3_has, rm_X1_tryOut]; omega, by dsimp only [rm_X3_has, rm_X1_tryOut]; omega⟩) rfl hl.1 rfl (Nat.le_of_ble_eq_true rfl) dX1_tryOut_53 ⟨Nat.zero_le _, Nat.zero_le _⟩ ?_
            refine lv_if_ne (tgt := 149) hx hb dX1_tryOut_56 (by decide) (fun c9 => ?_) (fun c9 => ?_)
            · have hf := k_F c9 hf
              refine lv_iinc (v := s36.2 + 1) (lv' := [(7, .int (s36.2 + 1)), (0, .int b0), (1, .int b1), (2, .int b2), (4, .int b4), (5, .int s36.1), (6, .int b6)]) hx hb dX1_tryOut_149 hl (k := 6) rfl rfl (by decide) rfl (fun ls hl => ?_)
              refine lv_goto (tgt := 36) hx hb dX1_tryOut_152 (by decide) ?_
              obtain rfl := k_some hf
              exact ih b0 b1 b2 b4 b6 (s36.1, s36.2 + 1) q (k_inl hq) ls (lv_sub hl [1, 2, 3, 4, 5, 6, 0] rfl) kx 
            · have hf := k_T c9 hf
              refine lv_iload_n hx hb dX1_tryOut_59 rfl (lv_at hl 0 rfl) ?_
              refine lv_iconst (v := 1) hx hb dX1_tryOut_60 (by decide) ?_
              refine lv_iload hx hb dX1_tryOut_61 (lv_at hl 6 rfl) ?_
              refine lv_ishl hx hb dX1_tryOut_63 ?_
              refine lv_ior hx hb dX1_tryOut_64 ?_
              obtain ⟨y10, ey10, hf⟩ := k_L hf
              refine k_name ey10 ?_
              refine lv_istore (lv' := [(8, .int y10), (0, .int b0), (1, .int b1), (2, .int b2), (4, .int b4), (5, .int s36.1), (6, .int b6), (7, .int s36.2)]) hx hb dX1_tryOut_65 hl (by decide) rfl (fun ls hl => ?_)
              refine lv_iload hx hb dX1_tryOut_67 (lv_at hl 0 rfl) ?_
              refine lv_iload hx hb dX1_tryOut_69 (lv_at hl 7 rfl) ?_
              obtain ⟨v11, hv11, hf⟩ := k_B hf
              refine k_callS (As := [.int y10, .int s36.2]) (rest := []) ⟨hx, hb, hml, hown, hts⟩ (c_X3_closedWith l y10 s36.2 v11 hv11) (va_cwS 2 hts gX1_tryOut_X3_closedWith rfl rfl rfl hd_X3_closedWith ⟨by dsimp only [rm_X3_closedWith, rm_X1_tryOut]; omega, by dsimp only [rm_X3_closedWith, rm_X1_tryOut]; omega⟩) rfl hl.1 rfl (Nat.le_of_ble_eq_true rfl) dX1_tryOut_71 ⟨Nat.zero_le _, Nat.zero_le _⟩ ?_
              obtain ⟨v12, hv12, hf⟩ := k_B hf
              refine k_callS (As := [.int v11]) (rest := []) ⟨hx, hb, hml, hown, hts⟩ (c_J6_bitCount_0f7a4 l v11 v12 hv12) (va_cwS 1 hts gX1_tryOut_J6_bitCount_0f7a4 rfl rfl rfl hd_J6_bitCount_0f7a4 ⟨by dsimp only [rm_J6_bitCount_0f7a4, rm_X1_tryOut]; omega, by dsimp only [rm_J6_bitCount_0f7a4, rm_X1_tryOut]; omega⟩) rfl hl.1 rfl (Nat.le_of_ble_eq_true rfl) dX1_tryOut_74 ⟨Nat.zero_le _, Nat.zero_le _⟩ ?_
              refine lv_istore (lv' := [(9, .int v12), (8, .int y10), (0, .int b0), (1, .int b1), (2, .int b2), (4, .int b4), (5, .int s36.1), (6, .int b6), (7, .int s36.2)]) hx hb dX1_tryOut_77 hl (by decide) rfl (fun ls hl => ?_)
              refine lv_iload hx hb dX1_tryOut_79 (lv_at hl 6 rfl) ?_
              refine lv_iload_n hx hb dX1_tryOut_81 rfl (lv_at hl 4 rfl) ?_
              refine va_mmax hx hb (hml.trans hl.1.symm) hown (hts _ (show (.methodLink RX1 44 Lib.Math.max.name : Cond) ∈ wsX1_tryOut by decide +kernel)) (hts _ (show (.static Lib.Math.max.name : Cond) ∈ wsX1_tryOut by decide +kernel)) (hts _ (show (.initialized "java/lang/Math" : Cond) ∈ wsX1_tryOut by decide +kernel)) (hts _ (show (.code Lib.Math.max.name Lib.Math.max.code 2 (some .int) : Cond) ∈ wsX1_tryOut by decide +kernel)) (by dsimp only [rm_X1_tryOut]; omega) (by simp [rm_X1_tryOut, Value.category] <;> omega) (Nat.zero_le _) (Nat.zero_le _) dX1_tryOut_82 ?_
              obtain ⟨y13, ey13, hf⟩ := k_L hf
              refine k_name ey13 ?_
              refine lv_istore (lv' := [(10, .int y13), (9, .int v12), (8, .int y10), (0, .int b0), (1, .int b1), (2, .int b2), (4, .int b4), (5, .int s36.1), (6, .int b6), (7, .int s36.2)]) hx hb dX1_tryOut_85 hl (by decide) rfl (fun ls hl => ?_)
              refine lv_iload hx hb dX1_tryOut_87 (lv_at hl 1 rfl) ?_
              refine lv_if_le (tgt := 121) hx hb dX1_tryOut_89 (by decide) (fun c14 => ?_) (fun c14 => ?_)
              · have hf := k_T c14 hf
                refine lv_iload hx hb dX1_tryOut_121 (lv_at hl 2 rfl) ?_
                refine lv_iload_n hx hb dX1_tryOut_123 rfl (lv_at hl 4 rfl) ?_
                refine lv_iload hx hb dX1_tryOut_124 (lv_at hl 8 rfl) ?_
                refine lv_ineg hx hb dX1_tryOut_126 ?_
                refine lv_iload hx hb dX1_tryOut_127 (lv_at hl 0 rfl) ?_
                refine lv_ineg hx hb dX1_tryOut_129 ?_
                refine lv_iload hx hb dX1_tryOut_130 (lv_at hl 6 rfl) ?_
                refine lv_iconst (v := 1) hx hb dX1_tryOut_132 (by decide) ?_
                refine lv_iadd hx hb dX1_tryOut_133 ?_
                obtain ⟨v15, hv15, hf⟩ := k_B hf
                refine k_callS (As := [.int y10, .int b1, .int (-b6), .int (-y13), .int (b4 + 1)]) (rest := []) ⟨hx, hb, hml, hown, hts⟩ (ihn y10 b1 (-b6) (-y13) (b4 + 1) v15 hv15) (va_cwS 5 hts gX1_tryOut_X1_tryOut rfl rfl rfl hd_X1_tryOut ⟨by dsimp only [rm_X1_tryOut, rm_X1_tryOut]; omega, by dsimp only [rm_X1_tryOut, rm_X1_tryOut]; omega⟩) rfl hl.1 rfl (Nat.le_of_ble_eq_true rfl) dX1_tryOut_134 ⟨Nat.zero_le _, Nat.zero_le _⟩ ?_
                refine lv_ineg hx hb dX1_tryOut_137 ?_
                obtain ⟨y16, ey16, hf⟩ := k_L hf
                refine k_name ey16 ?_
                refine lv_istore (lv' := [(11, .int y16), (10, .int y13), (9, .int v12), (8, .int y10), (0, .int b0), (1, .int b1), (2, .int b2), (4, .int b4), (5, .int s36.1), (6, .int b6), (7, .int s36.2)]) hx hb dX1_tryOut_138 hl (by decide) rfl (fun ls hl => ?_)
                refine lv_iload hx hb dX1_tryOut_140 (lv_at hl 8 rfl) ?_
                refine lv_iload hx hb dX1_tryOut_142 (lv_at hl 0 rfl) ?_
                refine va_mmax hx hb (hml.trans hl.1.symm) hown (hts _ (show (.methodLink RX1 44 Lib.Math.max.name : Cond) ∈ wsX1_tryOut by decide +kernel)) (hts _ (show (.static Lib.Math.max.name : Cond) ∈ wsX1_tryOut by decide +kernel)) (hts _ (show (.initialized "java/lang/Math" : Cond) ∈ wsX1_tryOut by decide +kernel)) (hts _ (show (.code Lib.Math.max.name Lib.Math.max.code 2 (some .int) : Cond) ∈ wsX1_tryOut by decide +kernel)) (by dsimp only [rm_X1_tryOut]; omega) (by simp [rm_X1_tryOut, Value.category] <;> omega) (Nat.zero_le _) (Nat.zero_le _) dX1_tryOut_144 ?_
                obtain ⟨y17, ey17, hf⟩ := k_L hf
                refine k_name ey17 ?_
                refine lv_istore (lv' := [(5, .int y17), (11, .int y16), (10, .int y13), (9, .int v12), (8, .int y10), (0, .int b0), (1, .int b1), (2, .int b2), (4, .int b4), (6, .int b6), (7, .int s36.2)]) hx hb dX1_tryOut_147 hl (by decide) rfl (fun ls hl => ?_)
                refine lv_iinc (v := s36.2 + 1) (lv' := [(7, .int (s36.2 + 1)), (5, .int y17), (11, .int y16), (10, .int y13), (9, .int v12), (8, .int y10), (0, .int b0), (1, .int b1), (2, .int b2), (4, .int b4), (6, .int b6)]) hx hb dX1_tryOut_149 hl (k := 10) rfl rfl (by decide) rfl (fun ls hl => ?_)
                refine lv_goto (tgt := 36) hx hb dX1_tryOut_152 (by decide) ?_
                obtain rfl := k_some hf
                exact ih b0 b1 b2 b4 b6 (y17, s36.2 + 1) q (k_inl hq) ls (lv_sub hl [6, 7, 8, 9, 1, 10, 0] rfl) kx 
              · have hf := k_F c14 hf
                refine lv_iload hx hb dX1_tryOut_92 (lv_at hl 1 rfl) ?_
                refine lv_iload hx hb dX1_tryOut_94 (lv_at hl 2 rfl) ?_
                refine lv_iload_n hx hb dX1_tryOut_96 rfl (lv_at hl 4 rfl) ?_
                refine lv_iload hx hb dX1_tryOut_97 (lv_at hl 1 rfl) ?_
                refine lv_isub hx hb dX1_tryOut_99 ?_
                refine lv_iload hx hb dX1_tryOut_100 (lv_at hl 0 rfl) ?_
                refine lv_iload hx hb dX1_tryOut_102 (lv_at hl 1 rfl) ?_
                refine lv_isub hx hb dX1_tryOut_104 ?_
                refine lv_iload hx hb dX1_tryOut_105 (lv_at hl 8 rfl) ?_
                refine lv_iload hx hb dX1_tryOut_107 (lv_at hl 1 rfl) ?_
                refine lv_isub hx hb dX1_tryOut_109 ?_
                refine lv_iload hx hb dX1_tryOut_110 (lv_at hl 6 rfl) ?_
                refine lv_iconst (v := 1) hx hb dX1_tryOut_112 (by decide) ?_
                refine lv_iadd hx hb dX1_tryOut_113 ?_
                obtain ⟨v18, hv18, hf⟩ := k_B hf
                refine k_callS (As := [.int y10, .int (b1 - v12), .int (y13 - v12), .int (b6 - v12), .int (b4 + 1)]) (rest := [.int v12]) ⟨hx, hb, hml, hown, hts⟩ (ihn y10 (b1 - v12) (y13 - v12) (b6 - v12) (b4 + 1) v18 hv18) (va_cwS 5 hts gX1_tryOut_X1_tryOut rfl rfl rfl hd_X1_tryOut ⟨by dsimp only [rm_X1_tryOut, rm_X1_tryOut]; omega, by dsimp only [rm_X1_tryOut, rm_X1_tryOut]; omega⟩) rfl hl.1 rfl (Nat.le_of_ble_eq_true rfl) dX1_tryOut_114 ⟨Nat.zero_le _, Nat.zero_le _⟩ ?_
                refine lv_iadd hx hb dX1_tryOut_117 ?_
                refine lv_goto (tgt := 138) hx hb dX1_tryOut_118 (by decide) ?_
                obtain ⟨y19, ey19, hf⟩ := k_L hf
                refine k_name ey19 ?_
                refine lv_istore (lv' := [(11, .int y19), (10, .int y13), (9, .int v12), (8, .int y10), (0, .int b0), (1, .int b1), (2, .int b2), (4, .int b4), (5, .int s36.1), (6, .int b6), (7, .int s36.2)]) hx hb dX1_tryOut_138 hl (by decide) rfl (fun ls hl => ?_)
                refine lv_iload hx hb dX1_tryOut_140 (lv_at hl 8 rfl) ?_
                refine lv_iload hx hb dX1_tryOut_142 (lv_at hl 0 rfl) ?_
                refine va_mmax hx hb (hml.trans hl.1.symm) hown (hts _ (show (.methodLink RX1 44 Lib.Math.max.name : Cond) ∈ wsX1_tryOut by decide +kernel)) (hts _ (show (.static Lib.Math.max.name : Cond) ∈ wsX1_tryOut by decide +kernel)) (hts _ (show (.initialized "java/lang/Math" : Cond) ∈ wsX1_tryOut by decide +kernel)) (hts _ (show (.code Lib.Math.max.name Lib.Math.max.code 2 (some .int) : Cond) ∈ wsX1_tryOut by decide +kernel)) (by dsimp only [rm_X1_tryOut]; omega) (by simp [rm_X1_tryOut, Value.category] <;> omega) (Nat.zero_le _) (Nat.zero_le _) dX1_tryOut_144 ?_
                obtain ⟨y20, ey20, hf⟩ := k_L hf
                refine k_name ey20 ?_
                refine lv_istore (lv' := [(5, .int y20), (11, .int y19), (10, .int y13), (9, .int v12), (8, .int y10), (0, .int b0), (1, .int b1), (2, .int b2), (4, .int b4), (6, .int b6), (7, .int s36.2)]) hx hb dX1_tryOut_147 hl (by decide) rfl (fun ls hl => ?_)
                refine lv_iinc (v := s36.2 + 1) (lv' := [(7, .int (s36.2 + 1)), (5, .int y20), (11, .int y19), (10, .int y13), (9, .int v12), (8, .int y10), (0, .int b0), (1, .int b1), (2, .int b2), (4, .int b4), (6, .int b6)]) hx hb dX1_tryOut_149 hl (k := 10) rfl rfl (by decide) rfl (fun ls hl => ?_)
                refine lv_goto (tgt := 36) hx hb dX1_tryOut_152 (by decide) ?_
                obtain rfl := k_some hf
                exact ih b0 b1 b2 b4 b6 (y20, s36.2 + 1) q (k_inl hq) ls (lv_sub hl [6, 7, 8, 9, 1, 10, 0] rfl) kx 
    have hf : g_X1_tryOut (f_X1_tryOut nn) a0 a1 a2 a3 a4 = some r := hf
    unfold g_X1_tryOut at hf
    refine lv_iload_n hx hb dX1_tryOut_0 rfl (lv_at hl 0 rfl) ?_
    refine lv_ldc (v := 2147483647) hx hb hown (hts (.constant RX1 53 2147483647) (by decide +kernel)) dX1_tryOut_1 ?_
    refine lv_icmp_eq (tgt := 13) hx hb dX1_tryOut_3 (by decide) (fun c1 => ?_) (fun c1 => ?_)
    · have hf := k_T c1 hf
      refine lv_iconst (v := 0) hx hb dX1_tryOut_13 (by decide) ?_
      obtain rfl := k_some hf
      exact W.iret (v := 0) hx hb hr (fun t ht hW => ⟨rfl, ht⟩) (fun q h => absurd h List.not_mem_nil) dX1_tryOut_14
    · have hf := k_F c1 hf
      refine lv_iload hx hb dX1_tryOut_6 (lv_at hl 4 rfl) ?_
      refine lv_bipush (v := 8) hx hb dX1_tryOut_8 (by decide) ?_
      refine lv_icmp_lt (tgt := 15) hx hb dX1_tryOut_10 (by decide) (fun c2 => ?_) (fun c2 => ?_)
      · have hf := k_T c2 hf
        refine lv_iload_n hx hb dX1_tryOut_15 rfl (lv_at hl 1 rfl) ?_
        refine lv_iload_n hx hb dX1_tryOut_16 rfl (lv_at hl 2 rfl) ?_
        refine lv_icmp_gt (tgt := 22) hx hb dX1_tryOut_17 (by decide) (fun c3 => ?_) (fun c3 => ?_)
        · have hf := k_T c3 hf
          refine lv_iload_n hx hb dX1_tryOut_22 rfl (lv_at hl 1 rfl) ?_
          refine lv_ineg hx hb dX1_tryOut_23 ?_
          obtain ⟨y4, ey4, hf⟩ := k_L hf
          refine k_name ey4 ?_
          refine lv_istore (lv' := [(5, .int y4), (0, .int a0), (1, .int a1), (2, .int a2), (3, .int a3), (4, .int a4)]) hx hb dX1_tryOut_24 hl (by decide) rfl (fun ls hl => ?_)
          refine lv_iload_n hx hb dX1_tryOut_26 rfl (lv_at hl 2 rfl) ?_
          refine lv_iload_n hx hb dX1_tryOut_27 rfl (lv_at hl 4 rfl) ?_
          refine va_mmin hx hb (hml.trans hl.1.symm) hown (hts _ (show (.methodLink RX1 61 Lib.Math.min.name : Cond) ∈ wsX1_tryOut by decide +kernel)) (hts _ (show (.static Lib.Math.min.name : Cond) ∈ wsX1_tryOut by decide +kernel)) (hts _ (show (.initialized "java/lang/Math" : Cond) ∈ wsX1_tryOut by decide +kernel)) (hts _ (show (.code Lib.Math.min.name Lib.Math.min.code 2 (some .int) : Cond) ∈ wsX1_tryOut by decide +kernel)) (by dsimp only [rm_X1_tryOut]; omega) (by simp [rm_X1_tryOut, Value.category] <;> omega) (Nat.zero_le _) (Nat.zero_le _) dX1_tryOut_28 ?_
          obtain ⟨y5, ey5, hf⟩ := k_L hf
          refine k_name ey5 ?_
          refine lv_istore (lv' := [(6, .int y5), (5, .int y4), (0, .int a0), (1, .int a1), (2, .int a2), (3, .int a3), (4, .int a4)]) hx hb dX1_tryOut_31 hl (by decide) rfl (fun ls hl => ?_)
          refine lv_iconst (v := 0) hx hb dX1_tryOut_33 (by decide) ?_
          refine lv_istore (lv' := [(7, .int 0), (6, .int y5), (5, .int y4), (0, .int a0), (1, .int a1), (2, .int a2), (3, .int a3), (4, .int a4)]) hx hb dX1_tryOut_34 hl (by decide) rfl (fun ls hl => ?_)
          obtain ⟨x21, hx21, hf⟩ := k_B hf
          refine L36 _ 1000 a0 a1 a2 a4 y5 (y4, 0) x21 hx21 ls (lv_sub hl [3, 4, 5, 7, 2, 1, 0] rfl) ?_
          · intro ls _ hl
            refine lv_iload hx hb dX1_tryOut_155 (lv_at hl 0 rfl) ?_
            obtain rfl := k_some hf
            exact W.iret (v := x21.1) hx hb hr (fun t ht hW => ⟨rfl, ht⟩) (fun q h => absurd h List.not_mem_nil) dX1_tryOut_157
        · have hf := k_F c3 hf
          refine lv_iload_n hx hb dX1_tryOut_20 rfl (lv_at hl 1 rfl) ?_
          obtain rfl := k_some hf
          exact W.iret (v := a1) hx hb hr (fun t ht hW => ⟨rfl, ht⟩) (fun q h => absurd h List.not_mem_nil) dX1_tryOut_21
      · have hf := k_F c2 hf
        refine lv_iconst (v := 0) hx hb dX1_tryOut_13 (by decide) ?_
        obtain rfl := k_some hf
        exact W.iret (v := 0) hx hb hr (fun t ht hW => ⟨rfl, ht⟩) (fun q h => absurd h List.not_mem_nil) dX1_tryOut_14
def f_X1_byTrying (a0 : Int32) : Option Int32 :=
  (f_X3_boxesHaving a0 4).bind fun v1 =>
  (f_J6_bitCount_0f7a4 v1).bind fun v2 =>
  k_let ((12 : Int32) - v2) fun y3 =>
  (f_X1_tryOut 10 a0 y3 (-y3) y3 0).bind fun v4 =>
  some v4
abbrev rm_X1_byTrying : Room := { frames := 14, cells := 0, slots := 0, locals := 438 }
theorem hd_X1_byTrying : yX1_byTrying.cls ≠ "java/lang/invoke/MethodHandle" ∧ yX1_byTrying.cls ≠ "java/lang/invoke/VarHandle" ∧ (parseMethodDescriptor yX1_byTrying.desc).map (fun d => d.parameters.length) = some 1 := by decide +kernel
set_option maxHeartbeats 4000000 in
set_option maxRecDepth 100000 in
theorem c_X1_byTrying (l : Launch) (a0 : Int32) (r : Int32) (hf : f_X1_byTrying a0 = some r) : k_PMet l yX1_byTrying wsX1_byTrying rm_X1_byTrying [.int a0] r := by
  refine k_pureOf (cc := cX1_byTrying) (maxL := 2) (ret := (some .int)) (by decide) rfl (Nat.le_of_ble_eq_true rfl) ?_
  intro p e s m args below meth c ls hx hb hr hlocks hml hown hts hl
  have hl : lv_has ls 2 [(0, .int a0)] := hl
  unfold f_X1_byTrying at hf
  refine lv_bipush (v := 12) hx hb dX1_byTrying_0 (by decide) ?_
  refine lv_iload_n hx hb dX1_byTrying_2 rfl (lv_at hl 0 rfl) ?_
  refine lv_iconst (v := 4) hx hb dX1_byTrying_3 (by decide) ?_
  obtain ⟨v1, hv1, hf⟩ := k_B hf
  refine k_callS (As := [.int a0, .int 4]) (rest := [.int 12]) ⟨hx, hb, hml, hown, hts⟩ (c_X3_boxesHaving l a0 4 v1 hv1) (va_cwS 2 hts gX1_byTrying_X3_boxesHaving rfl rfl rfl hd_X3_boxesHaving ⟨Nat.le_of_ble_eq_true rfl, Nat.le_of_ble_eq_true rfl⟩) rfl hl.1 rfl (Nat.le_of_ble_eq_true rfl) dX1_byTrying_4 ⟨Nat.zero_le _, Nat.zero_le _⟩ ?_
  obtain ⟨v2, hv2, hf⟩ := k_B hf
  refine k_callS (As := [.int v1]) (rest := [.int 12]) ⟨hx, hb, hml, hown, hts⟩ (c_J6_bitCount_0f7a4 l v1 v2 hv2) (va_cwS 1 hts gX1_byTrying_J6_bitCount_0f7a4 rfl rfl rfl hd_J6_bitCount_0f7a4 ⟨Nat.le_of_ble_eq_true rfl, Nat.le_of_ble_eq_true rfl⟩) rfl hl.1 rfl (Nat.le_of_ble_eq_true rfl) dX1_byTrying_7 ⟨Nat.zero_le _, Nat.zero_le _⟩ ?_
  refine lv_isub hx hb dX1_byTrying_10 ?_
  obtain ⟨y3, ey3, hf⟩ := k_L hf
  refine k_name ey3 ?_
  refine lv_istore_n (lv' := [(1, .int y3), (0, .int a0)]) hx hb dX1_byTrying_11 rfl hl (by decide) rfl (fun ls hl => ?_)
  refine lv_iload_n hx hb dX1_byTrying_12 rfl (lv_at hl 1 rfl) ?_
  refine lv_iload_n hx hb dX1_byTrying_13 rfl (lv_at hl 0 rfl) ?_
  refine lv_iload_n hx hb dX1_byTrying_14 rfl (lv_at hl 0 rfl) ?_
  refine lv_ineg hx hb dX1_byTrying_15 ?_
  refine lv_iload_n hx hb dX1_byTrying_16 rfl (lv_at hl 0 rfl) ?_
  refine lv_iconst (v := 0) hx hb dX1_byTrying_17 (by decide) ?_
  obtain ⟨v4, hv4, hf⟩ := k_B hf
  refine k_callS (As := [.int a0, .int y3, .int (-y3), .int y3, .int 0]) (rest := []) ⟨hx, hb, hml, hown, hts⟩ (c_X1_tryOut l 10 a0 y3 (-y3) y3 0 v4 hv4) (va_cwS 5 hts gX1_byTrying_X1_tryOut rfl rfl rfl hd_X1_tryOut ⟨Nat.le_of_ble_eq_true rfl, Nat.le_of_ble_eq_true rfl⟩) rfl hl.1 rfl (Nat.le_of_ble_eq_true rfl) dX1_byTrying_18 ⟨Nat.zero_le _, Nat.zero_le _⟩ ?_
  obtain rfl := k_some hf
  exact W.iret (v := v4) hx hb hr (fun t ht hW => ⟨rfl, ht⟩) (fun q h => absurd h List.not_mem_nil) dX1_byTrying_21
