def f_L_side (a0 : Int32) (a1 : Int32) : Option Int32 :=
  Option.bind (α := Int32) (
      if a1 = 0 then
        some a0
      else
        if a1 = 1 then
          some (a0 + 4)
        else
          k_let (((16 : Int32) + ((5 : Int32) * (a0 / 4))) + (a0 - a0 / 4 * 4)) fun y4 =>
          some ((y4 + a1) - 2)
    ) fun j1 =>
  some j1
abbrev rm_L_side : Room := { frames := 0, cells := 0, slots := 0, locals := 0 }
theorem hd_L_side : yL_side.cls ≠ "java/lang/invoke/MethodHandle" ∧ yL_side.cls ≠ "java/lang/invoke/VarHandle" ∧ (parseMethodDescriptor yL_side.desc).map (fun d => d.parameters.length) = some 2 := by decide +kernel
set_option maxHeartbeats 4000000 in
set_option maxRecDepth 100000 in
theorem c_L_side (l : Launch) (a0 : Int32) (a1 : Int32) (r : Int32) (hf : f_L_side a0 a1 = some r) : k_PMet l yL_side wsL_side rm_L_side [.int a0, .int a1] r := by
  refine k_pureOf (cc := cL_side) (maxL := 2) (ret := (some .int)) (by decide) rfl (Nat.le_of_ble_eq_true rfl) ?_
  intro p e s m args below meth c ls hx hb hr hlocks hml hown hts hl
  have hl : lv_has ls 2 [(0, .int a0), (1, .int a1)] := hl
  unfold f_L_side at hf
  refine lv_iload_n hx hb dL_side_0 rfl (lv_at hl 1 rfl) ?_
  obtain ⟨j1, hj1, hf⟩ := k_B hf
  refine k_joinP (nL := 2) (J := 35) (L := []) (stk := [.int j1]) (fun ls hl => ?_) (fun kj1 => ?_)
  · obtain rfl := k_some hf
    exact W.iret (v := j1) hx hb hr (fun t ht hW => ⟨rfl, ht⟩) (fun q h => absurd h List.not_mem_nil) dL_side_35
  · have hf := hj1
    refine lv_if_ne (tgt := 8) hx hb dL_side_1 (by decide) (fun c2 => ?_) (fun c2 => ?_)
    · have hf := k_F c2 hf
      refine lv_iload_n hx hb dL_side_8 rfl (lv_at hl 1 rfl) ?_
      refine lv_iconst (v := 1) hx hb dL_side_9 (by decide) ?_
      refine lv_icmp_ne (tgt := 19) hx hb dL_side_10 (by decide) (fun c3 => ?_) (fun c3 => ?_)
      · have hf := k_F c3 hf
        refine lv_bipush (v := 16) hx hb dL_side_19 (by decide) ?_
        refine lv_iconst (v := 5) hx hb dL_side_21 (by decide) ?_
        refine lv_iload_n hx hb dL_side_22 rfl (lv_at hl 0 rfl) ?_
        refine lv_iconst (v := 4) hx hb dL_side_23 (by decide) ?_
        refine lv_idiv hx hb dL_side_24 (by decide) ?_
        refine lv_imul hx hb dL_side_25 ?_
        refine lv_iadd hx hb dL_side_26 ?_
        refine lv_iload_n hx hb dL_side_27 rfl (lv_at hl 0 rfl) ?_
        refine lv_iconst (v := 4) hx hb dL_side_28 (by decide) ?_
        refine lv_irem hx hb dL_side_29 (by decide) ?_
        refine lv_iadd hx hb dL_side_30 ?_
        obtain ⟨y4, ey4, hf⟩ := k_L hf
        refine k_name ey4 ?_
        refine lv_iload_n hx hb dL_side_31 rfl (lv_at hl 1 rfl) ?_
        refine lv_iadd hx hb dL_side_32 ?_
        refine lv_iconst (v := 2) hx hb dL_side_33 (by decide) ?_
        refine lv_isub hx hb dL_side_34 ?_
        obtain rfl := k_some hf
        exact kj1 ls (lv_sub hl [] rfl)
      · have hf := k_T c3 hf
        refine lv_iload_n hx hb dL_side_13 rfl (lv_at hl 0 rfl) ?_
        refine lv_iconst (v := 4) hx hb dL_side_14 (by decide) ?_
        refine lv_iadd hx hb dL_side_15 ?_
        refine lv_goto (tgt := 35) hx hb dL_side_16 (by decide) ?_
        obtain rfl := k_some hf
        exact kj1 ls (lv_sub hl [] rfl)
    · have hf := k_T c2 hf
      refine lv_iload_n hx hb dL_side_4 rfl (lv_at hl 0 rfl) ?_
      refine lv_goto (tgt := 35) hx hb dL_side_5 (by decide) ?_
      obtain rfl := k_some hf
      exact kj1 ls (lv_sub hl [] rfl)
def f_L_has (a0 : Int32) (a1 : Int32) : Option Int32 :=
  (f_L_side a1 0).bind fun v1 =>
  (f_L_side a1 1).bind fun v2 =>
  (f_L_side a1 2).bind fun v3 =>
  k_let ((((a0 >>> (v1 &&& 31)) &&& 1) + ((a0 >>> (v2 &&& 31)) &&& 1)) + ((a0 >>> (v3 &&& 31)) &&& 1)) fun y4 =>
  (f_L_side a1 3).bind fun v5 =>
  some (y4 + ((a0 >>> (v5 &&& 31)) &&& 1))
abbrev rm_L_has : Room := { frames := 1, cells := 0, slots := 0, locals := 21 }
theorem hd_L_has : yL_has.cls ≠ "java/lang/invoke/MethodHandle" ∧ yL_has.cls ≠ "java/lang/invoke/VarHandle" ∧ (parseMethodDescriptor yL_has.desc).map (fun d => d.parameters.length) = some 2 := by decide +kernel
set_option maxHeartbeats 4000000 in
set_option maxRecDepth 100000 in
theorem c_L_has (l : Launch) (a0 : Int32) (a1 : Int32) (r : Int32) (hf : f_L_has a0 a1 = some r) : k_PMet l yL_has wsL_has rm_L_has [.int a0, .int a1] r := by
  refine k_pureOf (cc := cL_has) (maxL := 2) (ret := (some .int)) (by decide) rfl (Nat.le_of_ble_eq_true rfl) ?_
  intro p e s m args below meth c ls hx hb hr hlocks hml hown hts hl
  have hl : lv_has ls 2 [(0, .int a0), (1, .int a1)] := hl
  unfold f_L_has at hf
  refine lv_iload_n hx hb dL_has_0 rfl (lv_at hl 0 rfl) ?_
  refine lv_iload_n hx hb dL_has_1 rfl (lv_at hl 1 rfl) ?_
  refine lv_iconst (v := 0) hx hb dL_has_2 (by decide) ?_
  obtain ⟨v1, hv1, hf⟩ := k_B hf
  refine k_callS (As := [.int a1, .int 0]) (rest := [.int a0]) ⟨hx, hb, hml, hown, hts⟩ (c_L_side l a1 0 v1 hv1) (va_cwS 2 hts gL_has_L_side rfl rfl rfl hd_L_side ⟨Nat.le_of_ble_eq_true rfl, Nat.le_of_ble_eq_true rfl⟩) rfl hl.1 rfl (Nat.le_of_ble_eq_true rfl) dL_has_3 ⟨Nat.zero_le _, Nat.zero_le _⟩ ?_
  refine lv_ishr hx hb dL_has_6 ?_
  refine lv_iconst (v := 1) hx hb dL_has_7 (by decide) ?_
  refine lv_iand hx hb dL_has_8 ?_
  refine lv_iload_n hx hb dL_has_9 rfl (lv_at hl 0 rfl) ?_
  refine lv_iload_n hx hb dL_has_10 rfl (lv_at hl 1 rfl) ?_
  refine lv_iconst (v := 1) hx hb dL_has_11 (by decide) ?_
  obtain ⟨v2, hv2, hf⟩ := k_B hf
  refine k_callS (As := [.int a1, .int 1]) (rest := [.int a0, .int ((a0 >>> (v1 &&& 31)) &&& 1)]) ⟨hx, hb, hml, hown, hts⟩ (c_L_side l a1 1 v2 hv2) (va_cwS 2 hts gL_has_L_side rfl rfl rfl hd_L_side ⟨Nat.le_of_ble_eq_true rfl, Nat.le_of_ble_eq_true rfl⟩) rfl hl.1 rfl (Nat.le_of_ble_eq_true rfl) dL_has_12 ⟨Nat.zero_le _, Nat.zero_le _⟩ ?_
  refine lv_ishr hx hb dL_has_15 ?_
  refine lv_iconst (v := 1) hx hb dL_has_16 (by decide) ?_
  refine lv_iand hx hb dL_has_17 ?_
  refine lv_iadd hx hb dL_has_18 ?_
  refine lv_iload_n hx hb dL_has_19 rfl (lv_at hl 0 rfl) ?_
  refine lv_iload_n hx hb dL_has_20 rfl (lv_at hl 1 rfl) ?_
  refine lv_iconst (v := 2) hx hb dL_has_21 (by decide) ?_
  obtain ⟨v3, hv3, hf⟩ := k_B hf
  refine k_callS (As := [.int a1, .int 2]) (rest := [.int a0, .int (((a0 >>> (v1 &&& 31)) &&& 1) + ((a0 >>> (v2 &&& 31)) &&& 1))]) ⟨hx, hb, hml, hown, hts⟩ (c_L_side l a1 2 v3 hv3) (va_cwS 2 hts gL_has_L_side rfl rfl rfl hd_L_side ⟨Nat.le_of_ble_eq_true rfl, Nat.le_of_ble_eq_true rfl⟩) rfl hl.1 rfl (Nat.le_of_ble_eq_true rfl) dL_has_22 ⟨Nat.zero_le _, Nat.zero_le _⟩ ?_
  refine lv_ishr hx hb dL_has_25 ?_
  refine lv_iconst (v := 1) hx hb dL_has_26 (by decide) ?_
  refine lv_iand hx hb dL_has_27 ?_
  refine lv_iadd hx hb dL_has_28 ?_
  obtain ⟨y4, ey4, hf⟩ := k_L hf
  refine k_name ey4 ?_
  refine lv_iload_n hx hb dL_has_29 rfl (lv_at hl 0 rfl) ?_
  refine lv_iload_n hx hb dL_has_30 rfl (lv_at hl 1 rfl) ?_
  refine lv_iconst (v := 3) hx hb dL_has_31 (by decide) ?_
  obtain ⟨v5, hv5, hf⟩ := k_B hf
  refine k_callS (As := [.int a1, .int 3]) (rest := [.int a0, .int y4]) ⟨hx, hb, hml, hown, hts⟩ (c_L_side l a1 3 v5 hv5) (va_cwS 2 hts gL_has_L_side rfl rfl rfl hd_L_side ⟨Nat.le_of_ble_eq_true rfl, Nat.le_of_ble_eq_true rfl⟩) rfl hl.1 rfl (Nat.le_of_ble_eq_true rfl) dL_has_32 ⟨Nat.zero_le _, Nat.zero_le _⟩ ?_
  refine lv_ishr hx hb dL_has_35 ?_
  refine lv_iconst (v := 1) hx hb dL_has_36 (by decide) ?_
  refine lv_iand hx hb dL_has_37 ?_
  refine lv_iadd hx hb dL_has_38 ?_
  obtain rfl := k_some hf
  exact W.iret (v := y4 + ((a0 >>> (v5 &&& 31)) &&& 1)) hx hb hr (fun t ht hW => ⟨rfl, ht⟩) (fun q h => absurd h List.not_mem_nil) dL_has_39
def f_L_beside (a0 : Int32) (a1 : Int32) : Option Int32 :=
  if 16 ≤ a0 then
    Option.bind (α := Int32) (
        if a1 = 0 then
          some 1
        else
          some 0
      ) fun j2 =>
    k_let (((a0 - 16) - (a0 - 16) / 5 * 5) - j2) fun y4 =>
    Option.bind (α := Int32) (
        if y4 < 0 then
          some (-1)
        else
          if y4 ≤ 3 then
            some (((4 : Int32) * ((a0 - 16) / 5)) + y4)
          else
            some (-1)
      ) fun j5 =>
    some j5
  else
    Option.bind (α := Int32) (
        if a1 = 0 then
          some (a0 - 4)
        else
          some a0
      ) fun j8 =>
    Option.bind (α := Int32) (
        if j8 < 0 then
          some (-1)
        else
          if j8 ≤ 11 then
            some j8
          else
            some (-1)
      ) fun j10 =>
    some j10
abbrev rm_L_beside : Room := { frames := 0, cells := 0, slots := 0, locals := 0 }
theorem hd_L_beside : yL_beside.cls ≠ "java/lang/invoke/MethodHandle" ∧ yL_beside.cls ≠ "java/lang/invoke/VarHandle" ∧ (parseMethodDescriptor yL_beside.desc).map (fun d => d.parameters.length) = some 2 := by decide +kernel
set_option maxHeartbeats 4000000 in
set_option maxRecDepth 100000 in
theorem c_L_beside (l : Launch) (a0 : Int32) (a1 : Int32) (r : Int32) (hf : f_L_beside a0 a1 = some r) : k_PMet l yL_beside wsL_beside rm_L_beside [.int a0, .int a1] r := by
  refine k_pureOf (cc := cL_beside) (maxL := 3) (ret := (some .int)) (by decide) rfl (Nat.le_of_ble_eq_true rfl) ?_
  intro p e s m args below meth c ls hx hb hr hlocks hml hown hts hl
  have hl : lv_has ls 3 [(0, .int a0), (1, .int a1)] := hl
  unfold f_L_beside at hf
  refine lv_iload_n hx hb dL_beside_0 rfl (lv_at hl 0 rfl) ?_
  refine lv_bipush (v := 16) hx hb dL_beside_1 (by decide) ?_
  refine lv_icmp_ge (tgt := 34) hx hb dL_beside_3 (by decide) (fun c1 => ?_) (fun c1 => ?_)
  · have hf := k_T c1 hf
    refine lv_iload_n hx hb dL_beside_34 rfl (lv_at hl 0 rfl) ?_
    refine lv_bipush (v := 16) hx hb dL_beside_35 (by decide) ?_
    refine lv_isub hx hb dL_beside_37 ?_
    refine lv_iconst (v := 5) hx hb dL_beside_38 (by decide) ?_
    refine lv_irem hx hb dL_beside_39 (by decide) ?_
    refine lv_iload_n hx hb dL_beside_40 rfl (lv_at hl 1 rfl) ?_
    obtain ⟨j2, hj2, hf⟩ := k_B hf
    refine k_joinP (nL := 3) (J := 49) (L := [(0, .int a0)]) (stk := [.int j2, .int ((a0 - 16) - (a0 - 16) / 5 * 5)]) (fun ls hl => ?_) (fun kj2 => ?_)
    · refine lv_isub hx hb dL_beside_49 ?_
      obtain ⟨y4, ey4, hf⟩ := k_L hf
      refine k_name ey4 ?_
      refine lv_istore_n (lv' := [(2, .int y4), (0, .int a0)]) hx hb dL_beside_50 rfl hl (by decide) rfl (fun ls hl => ?_)
      refine lv_iload_n hx hb dL_beside_51 rfl (lv_at hl 0 rfl) ?_
      obtain ⟨j5, hj5, hf⟩ := k_B hf
      refine k_joinP (nL := 3) (J := 74) (L := []) (stk := [.int j5]) (fun ls hl => ?_) (fun kj5 => ?_)
      · obtain rfl := k_some hf
        exact W.iret (v := j5) hx hb hr (fun t ht hW => ⟨rfl, ht⟩) (fun q h => absurd h List.not_mem_nil) dL_beside_74
      · have hf := hj5
        refine lv_if_lt (tgt := 60) hx hb dL_beside_52 (by decide) (fun c6 => ?_) (fun c6 => ?_)
        · have hf := k_T c6 hf
          refine lv_iconst (v := (-1)) hx hb dL_beside_60 (by decide) ?_
          refine lv_goto (tgt := 74) hx hb dL_beside_61 (by decide) ?_
          obtain rfl := k_some hf
          exact kj5 ls (lv_sub hl [] rfl)
        · have hf := k_F c6 hf
          refine lv_iload_n hx hb dL_beside_55 rfl (lv_at hl 0 rfl) ?_
          refine lv_iconst (v := 3) hx hb dL_beside_56 (by decide) ?_
          refine lv_icmp_le (tgt := 64) hx hb dL_beside_57 (by decide) (fun c7 => ?_) (fun c7 => ?_)
          · have hf := k_T c7 hf
            refine lv_iconst (v := 4) hx hb dL_beside_64 (by decide) ?_
            refine lv_iload_n hx hb dL_beside_65 rfl (lv_at hl 1 rfl) ?_
            refine lv_bipush (v := 16) hx hb dL_beside_66 (by decide) ?_
            refine lv_isub hx hb dL_beside_68 ?_
            refine lv_iconst (v := 5) hx hb dL_beside_69 (by decide) ?_
            refine lv_idiv hx hb dL_beside_70 (by decide) ?_
            refine lv_imul hx hb dL_beside_71 ?_
            refine lv_iload_n hx hb dL_beside_72 rfl (lv_at hl 0 rfl) ?_
            refine lv_iadd hx hb dL_beside_73 ?_
            obtain rfl := k_some hf
            exact kj5 ls (lv_sub hl [] rfl)
          · have hf := k_F c7 hf
            refine lv_iconst (v := (-1)) hx hb dL_beside_60 (by decide) ?_
            refine lv_goto (tgt := 74) hx hb dL_beside_61 (by decide) ?_
            obtain rfl := k_some hf
            exact kj5 ls (lv_sub hl [] rfl)
    · have hf := hj2
      refine lv_if_ne (tgt := 48) hx hb dL_beside_41 (by decide) (fun c3 => ?_) (fun c3 => ?_)
      · have hf := k_F c3 hf
        refine lv_iconst (v := 0) hx hb dL_beside_48 (by decide) ?_
        obtain rfl := k_some hf
        exact kj2 ls (lv_sub hl [0] rfl)
      · have hf := k_T c3 hf
        refine lv_iconst (v := 1) hx hb dL_beside_44 (by decide) ?_
        refine lv_goto (tgt := 49) hx hb dL_beside_45 (by decide) ?_
        obtain rfl := k_some hf
        exact kj2 ls (lv_sub hl [0] rfl)
  · have hf := k_F c1 hf
    refine lv_iload_n hx hb dL_beside_6 rfl (lv_at hl 1 rfl) ?_
    obtain ⟨j8, hj8, hf⟩ := k_B hf
    refine k_joinP (nL := 3) (J := 17) (L := []) (stk := [.int j8]) (fun ls hl => ?_) (fun kj8 => ?_)
    · refine lv_istore_n (lv' := [(2, .int j8)]) hx hb dL_beside_17 rfl hl (by decide) rfl (fun ls hl => ?_)
      refine lv_iload_n hx hb dL_beside_18 rfl (lv_at hl 0 rfl) ?_
      obtain ⟨j10, hj10, hf⟩ := k_B hf
      refine k_joinP (nL := 3) (J := 33) (L := []) (stk := [.int j10]) (fun ls hl => ?_) (fun kj10 => ?_)
      · obtain rfl := k_some hf
        exact W.iret (v := j10) hx hb hr (fun t ht hW => ⟨rfl, ht⟩) (fun q h => absurd h List.not_mem_nil) dL_beside_33
      · have hf := hj10
        refine lv_if_lt (tgt := 28) hx hb dL_beside_19 (by decide) (fun c11 => ?_) (fun c11 => ?_)
        · have hf := k_T c11 hf
          refine lv_iconst (v := (-1)) hx hb dL_beside_28 (by decide) ?_
          refine lv_goto (tgt := 33) hx hb dL_beside_29 (by decide) ?_
          obtain rfl := k_some hf
          exact kj10 ls (lv_sub hl [] rfl)
        · have hf := k_F c11 hf
          refine lv_iload_n hx hb dL_beside_22 rfl (lv_at hl 0 rfl) ?_
          refine lv_bipush (v := 11) hx hb dL_beside_23 (by decide) ?_
          refine lv_icmp_le (tgt := 32) hx hb dL_beside_25 (by decide) (fun c12 => ?_) (fun c12 => ?_)
          · have hf := k_T c12 hf
            refine lv_iload_n hx hb dL_beside_32 rfl (lv_at hl 0 rfl) ?_
            obtain rfl := k_some hf
            exact kj10 ls (lv_sub hl [] rfl)
          · have hf := k_F c12 hf
            refine lv_iconst (v := (-1)) hx hb dL_beside_28 (by decide) ?_
            refine lv_goto (tgt := 33) hx hb dL_beside_29 (by decide) ?_
            obtain rfl := k_some hf
            exact kj10 ls (lv_sub hl [] rfl)
    · have hf := hj8
      refine lv_if_ne (tgt := 16) hx hb dL_beside_7 (by decide) (fun c9 => ?_) (fun c9 => ?_)
      · have hf := k_F c9 hf
        refine lv_iload_n hx hb dL_beside_16 rfl (lv_at hl 0 rfl) ?_
        obtain rfl := k_some hf
        exact kj8 ls (lv_sub hl [] rfl)
      · have hf := k_T c9 hf
        refine lv_iload_n hx hb dL_beside_10 rfl (lv_at hl 0 rfl) ?_
        refine lv_iconst (v := 4) hx hb dL_beside_11 (by decide) ?_
        refine lv_isub hx hb dL_beside_12 ?_
        refine lv_goto (tgt := 17) hx hb dL_beside_13 (by decide) ?_
        obtain rfl := k_some hf
        exact kj8 ls (lv_sub hl [] rfl)
def t_L_count_4  (s4 : Int32 × Int32) : Option ((Int32 × Int32) ⊕ (Int32 × Int32)) :=
  if s4.2 = 0 then
    some (.inr (s4.1, s4.2))
  else
    k_let (s4.2 &&& (s4.2 - 1)) fun y2 =>
    some (.inl (s4.1 + 1, y2))
def f_L_count (a0 : Int32) : Option Int32 :=
  (k_loop (t_L_count_4 ) 1000 (0, a0)).bind fun x3 =>
  some x3.1
abbrev rm_L_count : Room := { frames := 0, cells := 0, slots := 0, locals := 0 }
theorem hd_L_count : yL_count.cls ≠ "java/lang/invoke/MethodHandle" ∧ yL_count.cls ≠ "java/lang/invoke/VarHandle" ∧ (parseMethodDescriptor yL_count.desc).map (fun d => d.parameters.length) = some 1 := by decide +kernel
set_option maxHeartbeats 4000000 in
set_option maxRecDepth 100000 in
theorem c_L_count (l : Launch) (a0 : Int32) (r : Int32) (hf : f_L_count a0 = some r) : k_PMet l yL_count wsL_count rm_L_count [.int a0] r := by
  refine k_pureOf (cc := cL_count) (maxL := 3) (ret := (some .int)) (by decide) rfl (Nat.le_of_ble_eq_true rfl) ?_
  intro p e s m args below meth c ls hx hb hr hlocks hml hown hts hl
  have hl : lv_has ls 3 [(0, .int a0)] := hl
  have L4 : ∀ (Q : State → Prop) (n : Nat)  (s4 : Int32 × Int32) (q : (Int32 × Int32)), k_loop (t_L_count_4 ) n s4 = some q → ∀ (ls : Array Slot), lv_has ls 3 [(1, .int s4.1), (2, .int s4.2)] → (∀ (ls : Array Slot), True → lv_has ls 3 [(1, .int q.1)] → W p l e rm_L_count s m args below meth c s.heap [] 0 0 Q (F0 m 20 ls [])) → W p l e rm_L_count s m args below meth c s.heap [] 0 0 Q (F0 m 4 ls []) := by
    intro Q n
    induction n with
    | zero =>
      intro  s4 q hq
      exact (k_loop0 hq).elim
    | succ n ih =>
      intro  s4 q hq ls hl kx 
      obtain ⟨x, hf, hq⟩ := k_loopE hq
      unfold t_L_count_4 at hf
      refine lv_iload_n hx hb dL_count_4 rfl (lv_at hl 1 rfl) ?_
      refine lv_if_eq (tgt := 20) hx hb dL_count_5 (by decide) (fun c1 => ?_) (fun c1 => ?_)
      · have hf := k_T c1 hf
        obtain rfl := k_some hf
        obtain rfl := k_some (k_inr hq)
        exact kx ls trivial (lv_sub hl [0] rfl)
      · have hf := k_F c1 hf
        refine lv_iinc (v := s4.1 + 1) (lv' := [(1, .int (s4.1 + 1)), (2, .int s4.2)]) hx hb dL_count_8 hl (k := 0) rfl rfl (by decide) rfl (fun ls hl => ?_)
        refine lv_iload_n hx hb dL_count_11 rfl (lv_at hl 1 rfl) ?_
        refine lv_iload_n hx hb dL_count_12 rfl (lv_at hl 1 rfl) ?_
        refine lv_iconst (v := 1) hx hb dL_count_13 (by decide) ?_
        refine lv_isub hx hb dL_count_14 ?_
        refine lv_iand hx hb dL_count_15 ?_
        obtain ⟨y2, ey2, hf⟩ := k_L hf
        refine k_name ey2 ?_
        refine lv_istore_n (lv' := [(2, .int y2), (1, .int (s4.1 + 1))]) hx hb dL_count_16 rfl hl (by decide) rfl (fun ls hl => ?_)
        refine lv_goto (tgt := 4) hx hb dL_count_17 (by decide) ?_
        obtain rfl := k_some hf
        exact ih  (s4.1 + 1, y2) q (k_inl hq) ls (lv_sub hl [1, 0] rfl) kx 
  unfold f_L_count at hf
  refine lv_iconst (v := 0) hx hb dL_count_0 (by decide) ?_
  refine lv_istore_n (lv' := [(1, .int 0), (0, .int a0)]) hx hb dL_count_1 rfl hl (by decide) rfl (fun ls hl => ?_)
  refine lv_iload_n hx hb dL_count_2 rfl (lv_at hl 1 rfl) ?_
  refine lv_istore_n (lv' := [(2, .int a0), (1, .int 0), (0, .int a0)]) hx hb dL_count_3 rfl hl (by decide) rfl (fun ls hl => ?_)
  obtain ⟨x3, hx3, hf⟩ := k_B hf
  refine L4 _ 1000  (0, a0) x3 hx3 ls (lv_sub hl [1, 0] rfl) ?_
  · intro ls _ hl
    refine lv_iload_n hx hb dL_count_20 rfl (lv_at hl 0 rfl) ?_
    obtain rfl := k_some hf
    exact W.iret (v := x3.1) hx hb hr (fun t ht hW => ⟨rfl, ht⟩) (fun q h => absurd h List.not_mem_nil) dL_count_21
def t_L_close_4 (b0 : Int32) (b1 : Int32) (s4 : Int32 × Int32) : Option ((Int32 × Int32) ⊕ (Int32 × Int32)) :=
  if 2 ≤ s4.2 then
    some (.inr (s4.1, s4.2))
  else
    (f_L_beside b1 s4.2).bind fun v2 =>
    Option.bind (α := Int32) (
        if v2 < 0 then
          some 0
        else
          (f_L_has b0 v2).bind fun v5 =>
          if v5 = 3 then
            some 1
          else
            some 0
      ) fun j3 =>
    k_let (s4.1 + j3) fun y7 =>
    some (.inl (y7, s4.2 + 1))
def f_L_close (a0 : Int32) (a1 : Int32) : Option Int32 :=
  (k_loop (t_L_close_4 a0 a1) 1000 (0, 0)).bind fun x8 =>
  some x8.1
abbrev rm_L_close : Room := { frames := 2, cells := 0, slots := 0, locals := 42 }
theorem hd_L_close : yL_close.cls ≠ "java/lang/invoke/MethodHandle" ∧ yL_close.cls ≠ "java/lang/invoke/VarHandle" ∧ (parseMethodDescriptor yL_close.desc).map (fun d => d.parameters.length) = some 2 := by decide +kernel
set_option maxHeartbeats 4000000 in
set_option maxRecDepth 100000 in
theorem c_L_close (l : Launch) (a0 : Int32) (a1 : Int32) (r : Int32) (hf : f_L_close a0 a1 = some r) : k_PMet l yL_close wsL_close rm_L_close [.int a0, .int a1] r := by
  refine k_pureOf (cc := cL_close) (maxL := 5) (ret := (some .int)) (by decide) rfl (Nat.le_of_ble_eq_true rfl) ?_
  intro p e s m args below meth c ls hx hb hr hlocks hml hown hts hl
  have hl : lv_has ls 5 [(0, .int a0), (1, .int a1)] := hl
  have L4 : ∀ (Q : State → Prop) (n : Nat) (b0 : Int32) (b1 : Int32) (s4 : Int32 × Int32) (q : (Int32 × Int32)), k_loop (t_L_close_4 b0 b1) n s4 = some q → ∀ (ls : Array Slot), lv_has ls 5 [(0, .int b0), (1, .int b1), (2, .int s4.1), (3, .int s4.2)] → (∀ (ls : Array Slot), True → lv_has ls 5 [(2, .int q.1)] → W p l e rm_L_close s m args below meth c s.heap [] 0 0 Q (F0 m 45 ls [])) → W p l e rm_L_close s m args below meth c s.heap [] 0 0 Q (F0 m 4 ls []) := by
    intro Q n
    induction n with
    | zero =>
      intro b0 b1 s4 q hq
      exact (k_loop0 hq).elim
    | succ n ih =>
      intro b0 b1 s4 q hq ls hl kx 
      obtain ⟨x, hf, hq⟩ := k_loopE hq
      unfold t_L_close_4 at hf
      refine lv_iload_n hx hb dL_close_4 rfl (lv_at hl 3 rfl) ?_
      refine lv_iconst (v := 2) hx hb dL_close_5 (by decide) ?_
      refine lv_icmp_ge (tgt := 45) hx hb dL_close_6 (by decide) (fun c1 => ?_) (fun c1 => ?_)
      · have hf := k_T c1 hf
        obtain rfl := k_some hf
        obtain rfl := k_some (k_inr hq)
        exact kx ls trivial (lv_sub hl [2] rfl)
      · have hf := k_F c1 hf
        refine lv_iload_n hx hb dL_close_9 rfl (lv_at hl 1 rfl) ?_
        refine lv_iload_n hx hb dL_close_10 rfl (lv_at hl 3 rfl) ?_
        obtain ⟨v2, hv2, hf⟩ := k_B hf
        refine k_callS (As := [.int b1, .int s4.2]) (rest := []) ⟨hx, hb, hml, hown, hts⟩ (c_L_beside l b1 s4.2 v2 hv2) (va_cwS 2 hts gL_close_L_beside rfl rfl rfl hd_L_beside ⟨Nat.le_of_ble_eq_true rfl, Nat.le_of_ble_eq_true rfl⟩) rfl hl.1 rfl (Nat.le_of_ble_eq_true rfl) dL_close_11 ⟨Nat.zero_le _, Nat.zero_le _⟩ ?_
        refine lv_istore (lv' := [(4, .int v2), (0, .int b0), (1, .int b1), (2, .int s4.1), (3, .int s4.2)]) hx hb dL_close_14 hl (by decide) rfl (fun ls hl => ?_)
        refine lv_iload_n hx hb dL_close_16 rfl (lv_at hl 3 rfl) ?_
        refine lv_iload hx hb dL_close_17 (lv_at hl 0 rfl) ?_
        obtain ⟨j3, hj3, hf⟩ := k_B hf
        refine k_joinP (nL := 5) (J := 37) (L := [(0, .int b0), (1, .int b1), (3, .int s4.2)]) (stk := [.int j3, .int s4.1]) (fun ls hl => ?_) (fun kj3 => ?_)
        · refine lv_iadd hx hb dL_close_37 ?_
          obtain ⟨y7, ey7, hf⟩ := k_L hf
          refine k_name ey7 ?_
          refine lv_istore_n (lv' := [(2, .int y7), (0, .int b0), (1, .int b1), (3, .int s4.2)]) hx hb dL_close_38 rfl hl (by decide) rfl (fun ls hl => ?_)
          refine lv_iinc (v := s4.2 + 1) (lv' := [(3, .int (s4.2 + 1)), (2, .int y7), (0, .int b0), (1, .int b1)]) hx hb dL_close_39 hl (k := 3) rfl rfl (by decide) rfl (fun ls hl => ?_)
          refine lv_goto (tgt := 4) hx hb dL_close_42 (by decide) ?_
          obtain rfl := k_some hf
          exact ih b0 b1 (y7, s4.2 + 1) q (k_inl hq) ls (lv_sub hl [2, 3, 1, 0] rfl) kx 
        · have hf := hj3
          refine lv_if_lt (tgt := 36) hx hb dL_close_19 (by decide) (fun c4 => ?_) (fun c4 => ?_)
          · have hf := k_T c4 hf
            refine lv_iconst (v := 0) hx hb dL_close_36 (by decide) ?_
            obtain rfl := k_some hf
            exact kj3 ls (lv_sub hl [1, 2, 4] rfl)
          · have hf := k_F c4 hf
            refine lv_iload_n hx hb dL_close_22 rfl (lv_at hl 1 rfl) ?_
            refine lv_iload hx hb dL_close_23 (lv_at hl 0 rfl) ?_
            obtain ⟨v5, hv5, hf⟩ := k_B hf
            refine k_callS (As := [.int b0, .int v2]) (rest := [.int s4.1]) ⟨hx, hb, hml, hown, hts⟩ (c_L_has l b0 v2 v5 hv5) (va_cwS 2 hts gL_close_L_has rfl rfl rfl hd_L_has ⟨Nat.le_of_ble_eq_true rfl, Nat.le_of_ble_eq_true rfl⟩) rfl hl.1 rfl (Nat.le_of_ble_eq_true rfl) dL_close_25 ⟨Nat.zero_le _, Nat.zero_le _⟩ ?_
            refine lv_iconst (v := 3) hx hb dL_close_28 (by decide) ?_
            refine lv_icmp_ne (tgt := 36) hx hb dL_close_29 (by decide) (fun c6 => ?_) (fun c6 => ?_)
            · have hf := k_F c6 hf
              refine lv_iconst (v := 0) hx hb dL_close_36 (by decide) ?_
              obtain rfl := k_some hf
              exact kj3 ls (lv_sub hl [1, 2, 4] rfl)
            · have hf := k_T c6 hf
              refine lv_iconst (v := 1) hx hb dL_close_32 (by decide) ?_
              refine lv_goto (tgt := 37) hx hb dL_close_33 (by decide) ?_
              obtain rfl := k_some hf
              exact kj3 ls (lv_sub hl [1, 2, 4] rfl)
  unfold f_L_close at hf
  refine lv_iconst (v := 0) hx hb dL_close_0 (by decide) ?_
  refine lv_istore_n (lv' := [(2, .int 0), (0, .int a0), (1, .int a1)]) hx hb dL_close_1 rfl hl (by decide) rfl (fun ls hl => ?_)
  refine lv_iconst (v := 0) hx hb dL_close_2 (by decide) ?_
  refine lv_istore_n (lv' := [(3, .int 0), (2, .int 0), (0, .int a0), (1, .int a1)]) hx hb dL_close_3 rfl hl (by decide) rfl (fun ls hl => ?_)
  obtain ⟨x8, hx8, hf⟩ := k_B hf
  refine L4 _ 1000 a0 a1 (0, 0) x8 hx8 ls (lv_sub hl [2, 3, 1, 0] rfl) ?_
  · intro ls _ hl
    refine lv_iload_n hx hb dL_close_45 rfl (lv_at hl 0 rfl) ?_
    obtain rfl := k_some hf
    exact W.iret (v := x8.1) hx hb hr (fun t ht hW => ⟨rfl, ht⟩) (fun q h => absurd h List.not_mem_nil) dL_close_46
def t_L_take_23 (b0 : Int32) (b1 : Int32) (b4 : Int32) (s23 : Int32 × Int32) : Option ((Int32 × Int32) ⊕ (Int32 × Int32)) :=
  if 4 ≤ s23.2 then
    some (.inr (s23.1, s23.2))
  else
    (f_L_has b1 b4).bind fun v4 =>
    if v4 = 3 then
      (f_L_side b4 s23.2).bind fun v6 =>
      k_let (s23.1 ||| ((1 : Int32) <<< (v6 &&& 31))) fun y7 =>
      some (.inl (y7, s23.2 + 1))
    else
      some (.inr (s23.1, s23.2))
def t_L_take_13 (b0 : Int32) (b1 : Int32) (s13 : Int32 × Int32) : Option ((Int32 × Int32) ⊕ (Int32 × Int32)) :=
  if 12 ≤ s13.2 then
    some (.inr (s13.1, s13.2))
  else
    (k_loop (t_L_take_23 b0 b1 s13.2) 1000 (s13.1, 0)).bind fun x8 =>
    some (.inl (x8.1, s13.2 + 1))
def t_L_take_4 (b0 : Int32) (s4 : Int32 × Int32) : Option ((Int32 × Int32) ⊕ (Int32 × Int32)) :=
  if s4.2 ≤ 0 then
    some (.inr (s4.1, s4.2))
  else
    (k_loop (t_L_take_13 b0 s4.1) 1000 (s4.1, 0)).bind fun x9 =>
    Option.bind (α := Int32) (
        if x9.1 = s4.1 then
          some 0
        else
          some 1
      ) fun j10 =>
    some (.inl (x9.1, j10))
def t_L_take_84 (b0 : Int32) (b1 : Int32) (s84 : Int32 × Int32) : Option ((Int32 × Int32) ⊕ (Int32 × Int32)) :=
  if 12 ≤ s84.2 then
    some (.inr (s84.1, s84.2))
  else
    (f_L_has b1 s84.2).bind fun v14 =>
    Option.bind (α := Int32) (
        if v14 = 4 then
          (f_L_has b0 s84.2).bind fun v17 =>
          if 4 ≤ v17 then
            some 0
          else
            some 1
        else
          some 0
      ) fun j15 =>
    k_let (s84.1 + j15) fun y19 =>
    some (.inl (y19, s84.2 + 1))
def f_L_take (a0 : Int32) : Option Int32 :=
  (k_loop (t_L_take_4 a0) 1000 (a0, 1)).bind fun x12 =>
  (k_loop (t_L_take_84 a0 x12.1) 1000 (0, 0)).bind fun x20 =>
  some x20.1
abbrev rm_L_take : Room := { frames := 2, cells := 0, slots := 0, locals := 42 }
theorem hd_L_take : yL_take.cls ≠ "java/lang/invoke/MethodHandle" ∧ yL_take.cls ≠ "java/lang/invoke/VarHandle" ∧ (parseMethodDescriptor yL_take.desc).map (fun d => d.parameters.length) = some 1 := by decide +kernel
set_option maxHeartbeats 4000000 in
set_option maxRecDepth 100000 in
theorem c_L_take (l : Launch) (a0 : Int32) (r : Int32) (hf : f_L_take a0 = some r) : k_PMet l yL_take wsL_take rm_L_take [.int a0] r := by
  refine k_pureOf (cc := cL_take) (maxL := 6) (ret := (some .int)) (by decide) rfl (Nat.le_of_ble_eq_true rfl) ?_
  intro p e s m args below meth c ls hx hb hr hlocks hml hown hts hl
  have hl : lv_has ls 6 [(0, .int a0)] := hl
  have L23 : ∀ (Q : State → Prop) (n : Nat) (b0 : Int32) (b1 : Int32) (b4 : Int32) (s23 : Int32 × Int32) (q : (Int32 × Int32)), k_loop (t_L_take_23 b0 b1 b4) n s23 = some q → ∀ (ls : Array Slot), lv_has ls 6 [(0, .int b0), (1, .int b1), (3, .int s23.1), (4, .int b4), (5, .int s23.2)] → (∀ (ls : Array Slot), True → lv_has ls 6 [(0, .int b0), (1, .int b1), (3, .int q.1), (4, .int b4)] → W p l e rm_L_take s m args below meth c s.heap [] 0 0 Q (F0 m 57 ls [])) → W p l e rm_L_take s m args below meth c s.heap [] 0 0 Q (F0 m 23 ls []) := by
    intro Q n
    induction n with
    | zero =>
      intro b0 b1 b4 s23 q hq
      exact (k_loop0 hq).elim
    | succ n ih =>
      intro b0 b1 b4 s23 q hq ls hl kx 
      obtain ⟨x, hf, hq⟩ := k_loopE hq
      unfold t_L_take_23 at hf
      refine lv_iload hx hb dL_take_23 (lv_at hl 4 rfl) ?_
      refine lv_iconst (v := 4) hx hb dL_take_25 (by decide) ?_
      refine lv_icmp_ge (tgt := 57) hx hb dL_take_26 (by decide) (fun c3 => ?_) (fun c3 => ?_)
      · have hf := k_T c3 hf
        obtain rfl := k_some hf
        obtain rfl := k_some (k_inr hq)
        exact kx ls trivial (lv_sub hl [0, 1, 2, 3] rfl)
      · have hf := k_F c3 hf
        refine lv_iload_n hx hb dL_take_29 rfl (lv_at hl 1 rfl) ?_
        refine lv_iload hx hb dL_take_30 (lv_at hl 3 rfl) ?_
        obtain ⟨v4, hv4, hf⟩ := k_B hf
        refine k_callS (As := [.int b1, .int b4]) (rest := []) ⟨hx, hb, hml, hown, hts⟩ (c_L_has l b1 b4 v4 hv4) (va_cwS 2 hts gL_take_L_has rfl rfl rfl hd_L_has ⟨Nat.le_of_ble_eq_true rfl, Nat.le_of_ble_eq_true rfl⟩) rfl hl.1 rfl (Nat.le_of_ble_eq_true rfl) dL_take_32 ⟨Nat.zero_le _, Nat.zero_le _⟩ ?_
        refine lv_iconst (v := 3) hx hb dL_take_35 (by decide) ?_
        refine lv_icmp_ne (tgt := 57) hx hb dL_take_36 (by decide) (fun c5 => ?_) (fun c5 => ?_)
        · have hf := k_F c5 hf
          obtain rfl := k_some hf
          obtain rfl := k_some (k_inr hq)
          exact kx ls trivial (lv_sub hl [0, 1, 2, 3] rfl)
        · have hf := k_T c5 hf
          refine lv_iload_n hx hb dL_take_39 rfl (lv_at hl 2 rfl) ?_
          refine lv_iconst (v := 1) hx hb dL_take_40 (by decide) ?_
          refine lv_iload hx hb dL_take_41 (lv_at hl 3 rfl) ?_
          refine lv_iload hx hb dL_take_43 (lv_at hl 4 rfl) ?_
          obtain ⟨v6, hv6, hf⟩ := k_B hf
          refine k_callS (As := [.int b4, .int s23.2]) (rest := [.int 1, .int s23.1]) ⟨hx, hb, hml, hown, hts⟩ (c_L_side l b4 s23.2 v6 hv6) (va_cwS 2 hts gL_take_L_side rfl rfl rfl hd_L_side ⟨Nat.le_of_ble_eq_true rfl, Nat.le_of_ble_eq_true rfl⟩) rfl hl.1 rfl (Nat.le_of_ble_eq_true rfl) dL_take_45 ⟨Nat.zero_le _, Nat.zero_le _⟩ ?_
          refine lv_ishl hx hb dL_take_48 ?_
          refine lv_ior hx hb dL_take_49 ?_
          obtain ⟨y7, ey7, hf⟩ := k_L hf
          refine k_name ey7 ?_
          refine lv_istore_n (lv' := [(3, .int y7), (0, .int b0), (1, .int b1), (4, .int b4), (5, .int s23.2)]) hx hb dL_take_50 rfl hl (by decide) rfl (fun ls hl => ?_)
          refine lv_iinc (v := s23.2 + 1) (lv' := [(5, .int (s23.2 + 1)), (3, .int y7), (0, .int b0), (1, .int b1), (4, .int b4)]) hx hb dL_take_51 hl (k := 4) rfl rfl (by decide) rfl (fun ls hl => ?_)
          refine lv_goto (tgt := 23) hx hb dL_take_54 (by decide) ?_
          obtain rfl := k_some hf
          exact ih b0 b1 b4 (y7, s23.2 + 1) q (k_inl hq) ls (lv_sub hl [2, 3, 1, 4, 0] rfl) kx 
  have L13 : ∀ (Q : State → Prop) (n : Nat) (b0 : Int32) (b1 : Int32) (s13 : Int32 × Int32) (q : (Int32 × Int32)), k_loop (t_L_take_13 b0 b1) n s13 = some q → ∀ (ls : Array Slot), lv_has ls 6 [(0, .int b0), (1, .int b1), (3, .int s13.1), (4, .int s13.2)] → (∀ (ls : Array Slot), True → lv_has ls 6 [(0, .int b0), (1, .int b1), (3, .int q.1)] → W p l e rm_L_take s m args below meth c s.heap [] 0 0 Q (F0 m 63 ls [])) → W p l e rm_L_take s m args below meth c s.heap [] 0 0 Q (F0 m 13 ls []) := by
    intro Q n
    induction n with
    | zero =>
      intro b0 b1 s13 q hq
      exact (k_loop0 hq).elim
    | succ n ih =>
      intro b0 b1 s13 q hq ls hl kx 
      obtain ⟨x, hf, hq⟩ := k_loopE hq
      unfold t_L_take_13 at hf
      refine lv_iload hx hb dL_take_13 (lv_at hl 3 rfl) ?_
      refine lv_bipush (v := 12) hx hb dL_take_15 (by decide) ?_
      refine lv_icmp_ge (tgt := 63) hx hb dL_take_17 (by decide) (fun c2 => ?_) (fun c2 => ?_)
      · have hf := k_T c2 hf
        obtain rfl := k_some hf
        obtain rfl := k_some (k_inr hq)
        exact kx ls trivial (lv_sub hl [0, 1, 2] rfl)
      · have hf := k_F c2 hf
        refine lv_iconst (v := 0) hx hb dL_take_20 (by decide) ?_
        refine lv_istore (lv' := [(5, .int 0), (0, .int b0), (1, .int b1), (3, .int s13.1), (4, .int s13.2)]) hx hb dL_take_21 hl (by decide) rfl (fun ls hl => ?_)
        obtain ⟨x8, hx8, hf⟩ := k_B hf
        refine L23 _ 1000 b0 b1 s13.2 (s13.1, 0) x8 hx8 ls (lv_sub hl [1, 2, 3, 4, 0] rfl) ?_
        · intro ls _ hl
          refine lv_iinc (v := s13.2 + 1) (lv' := [(4, .int (s13.2 + 1)), (0, .int b0), (1, .int b1), (3, .int x8.1)]) hx hb dL_take_57 hl (k := 3) rfl rfl (by decide) rfl (fun ls hl => ?_)
          refine lv_goto (tgt := 13) hx hb dL_take_60 (by decide) ?_
          obtain rfl := k_some hf
          exact ih b0 b1 (x8.1, s13.2 + 1) q (k_inl hq) ls (lv_sub hl [1, 2, 3, 0] rfl) kx 
  have L4 : ∀ (Q : State → Prop) (n : Nat) (b0 : Int32) (s4 : Int32 × Int32) (q : (Int32 × Int32)), k_loop (t_L_take_4 b0) n s4 = some q → ∀ (ls : Array Slot), lv_has ls 6 [(0, .int b0), (1, .int s4.1), (2, .int s4.2)] → (∀ (ls : Array Slot), True → lv_has ls 6 [(0, .int b0), (1, .int q.1)] → W p l e rm_L_take s m args below meth c s.heap [] 0 0 Q (F0 m 79 ls [])) → W p l e rm_L_take s m args below meth c s.heap [] 0 0 Q (F0 m 4 ls []) := by
    intro Q n
    induction n with
    | zero =>
      intro b0 s4 q hq
      exact (k_loop0 hq).elim
    | succ n ih =>
      intro b0 s4 q hq ls hl kx 
      obtain ⟨x, hf, hq⟩ := k_loopE hq
      unfold t_L_take_4 at hf
      refine lv_iload_n hx hb dL_take_4 rfl (lv_at hl 2 rfl) ?_
      refine lv_if_le (tgt := 79) hx hb dL_take_5 (by decide) (fun c1 => ?_) (fun c1 => ?_)
      · have hf := k_T c1 hf
        obtain rfl := k_some hf
        obtain rfl := k_some (k_inr hq)
        exact kx ls trivial (lv_sub hl [0, 1] rfl)
      · have hf := k_F c1 hf
        refine lv_iload_n hx hb dL_take_8 rfl (lv_at hl 1 rfl) ?_
        refine lv_istore_n (lv' := [(3, .int s4.1), (0, .int b0), (1, .int s4.1), (2, .int s4.2)]) hx hb dL_take_9 rfl hl (by decide) rfl (fun ls hl => ?_)
        refine lv_iconst (v := 0) hx hb dL_take_10 (by decide) ?_
        refine lv_istore (lv' := [(4, .int 0), (3, .int s4.1), (0, .int b0), (1, .int s4.1), (2, .int s4.2)]) hx hb dL_take_11 hl (by decide) rfl (fun ls hl => ?_)
        obtain ⟨x9, hx9, hf⟩ := k_B hf
        refine L13 _ 1000 b0 s4.1 (s4.1, 0) x9 hx9 ls (lv_sub hl [2, 3, 1, 0] rfl) ?_
        · intro ls _ hl
          refine lv_iload_n hx hb dL_take_63 rfl (lv_at hl 2 rfl) ?_
          refine lv_iload_n hx hb dL_take_64 rfl (lv_at hl 1 rfl) ?_
          obtain ⟨j10, hj10, hf⟩ := k_B hf
          refine k_joinP (nL := 6) (J := 73) (L := [(0, .int b0), (3, .int x9.1)]) (stk := [.int j10]) (fun ls hl => ?_) (fun kj10 => ?_)
          · refine lv_istore_n (lv' := [(2, .int j10), (0, .int b0), (3, .int x9.1)]) hx hb dL_take_73 rfl hl (by decide) rfl (fun ls hl => ?_)
            refine lv_iload_n hx hb dL_take_74 rfl (lv_at hl 2 rfl) ?_
            refine lv_istore_n (lv' := [(1, .int x9.1), (2, .int j10), (0, .int b0), (3, .int x9.1)]) hx hb dL_take_75 rfl hl (by decide) rfl (fun ls hl => ?_)
            refine lv_goto (tgt := 4) hx hb dL_take_76 (by decide) ?_
            obtain rfl := k_some hf
            exact ih b0 (x9.1, j10) q (k_inl hq) ls (lv_sub hl [2, 0, 1] rfl) kx 
          · have hf := hj10
            refine lv_icmp_ne (tgt := 72) hx hb dL_take_65 (by decide) (fun c11 => ?_) (fun c11 => ?_)
            · have hf := k_F c11 hf
              refine lv_iconst (v := 1) hx hb dL_take_72 (by decide) ?_
              obtain rfl := k_some hf
              exact kj10 ls (lv_sub hl [0, 2] rfl)
            · have hf := k_T c11 hf
              refine lv_iconst (v := 0) hx hb dL_take_68 (by decide) ?_
              refine lv_goto (tgt := 73) hx hb dL_take_69 (by decide) ?_
              obtain rfl := k_some hf
              exact kj10 ls (lv_sub hl [0, 2] rfl)
  have L84 : ∀ (Q : State → Prop) (n : Nat) (b0 : Int32) (b1 : Int32) (s84 : Int32 × Int32) (q : (Int32 × Int32)), k_loop (t_L_take_84 b0 b1) n s84 = some q → ∀ (ls : Array Slot), lv_has ls 6 [(0, .int b0), (1, .int b1), (3, .int s84.1), (4, .int s84.2)] → (∀ (ls : Array Slot), True → lv_has ls 6 [(3, .int q.1)] → W p l e rm_L_take s m args below meth c s.heap [] 0 0 Q (F0 m 125 ls [])) → W p l e rm_L_take s m args below meth c s.heap [] 0 0 Q (F0 m 84 ls []) := by
    intro Q n
    induction n with
    | zero =>
      intro b0 b1 s84 q hq
      exact (k_loop0 hq).elim
    | succ n ih =>
      intro b0 b1 s84 q hq ls hl kx 
      obtain ⟨x, hf, hq⟩ := k_loopE hq
      unfold t_L_take_84 at hf
      refine lv_iload hx hb dL_take_84 (lv_at hl 3 rfl) ?_
      refine lv_bipush (v := 12) hx hb dL_take_86 (by decide) ?_
      refine lv_icmp_ge (tgt := 125) hx hb dL_take_88 (by decide) (fun c13 => ?_) (fun c13 => ?_)
      · have hf := k_T c13 hf
        obtain rfl := k_some hf
        obtain rfl := k_some (k_inr hq)
        exact kx ls trivial (lv_sub hl [2] rfl)
      · have hf := k_F c13 hf
        refine lv_iload_n hx hb dL_take_91 rfl (lv_at hl 2 rfl) ?_
        refine lv_iload_n hx hb dL_take_92 rfl (lv_at hl 1 rfl) ?_
        refine lv_iload hx hb dL_take_93 (lv_at hl 3 rfl) ?_
        obtain ⟨v14, hv14, hf⟩ := k_B hf
        refine k_callS (As := [.int b1, .int s84.2]) (rest := [.int s84.1]) ⟨hx, hb, hml, hown, hts⟩ (c_L_has l b1 s84.2 v14 hv14) (va_cwS 2 hts gL_take_L_has rfl rfl rfl hd_L_has ⟨Nat.le_of_ble_eq_true rfl, Nat.le_of_ble_eq_true rfl⟩) rfl hl.1 rfl (Nat.le_of_ble_eq_true rfl) dL_take_95 ⟨Nat.zero_le _, Nat.zero_le _⟩ ?_
        refine lv_iconst (v := 4) hx hb dL_take_98 (by decide) ?_
        obtain ⟨j15, hj15, hf⟩ := k_B hf
        refine k_joinP (nL := 6) (J := 117) (L := [(0, .int b0), (1, .int b1), (4, .int s84.2)]) (stk := [.int j15, .int s84.1]) (fun ls hl => ?_) (fun kj15 => ?_)
        · refine lv_iadd hx hb dL_take_117 ?_
          obtain ⟨y19, ey19, hf⟩ := k_L hf
          refine k_name ey19 ?_
          refine lv_istore_n (lv' := [(3, .int y19), (0, .int b0), (1, .int b1), (4, .int s84.2)]) hx hb dL_take_118 rfl hl (by decide) rfl (fun ls hl => ?_)
          refine lv_iinc (v := s84.2 + 1) (lv' := [(4, .int (s84.2 + 1)), (3, .int y19), (0, .int b0), (1, .int b1)]) hx hb dL_take_119 hl (k := 3) rfl rfl (by decide) rfl (fun ls hl => ?_)
          refine lv_goto (tgt := 84) hx hb dL_take_122 (by decide) ?_
          obtain rfl := k_some hf
          exact ih b0 b1 (y19, s84.2 + 1) q (k_inl hq) ls (lv_sub hl [2, 3, 1, 0] rfl) kx 
        · have hf := hj15
          refine lv_icmp_ne (tgt := 116) hx hb dL_take_99 (by decide) (fun c16 => ?_) (fun c16 => ?_)
          · have hf := k_F c16 hf
            refine lv_iconst (v := 0) hx hb dL_take_116 (by decide) ?_
            obtain rfl := k_some hf
            exact kj15 ls (lv_sub hl [0, 1, 3] rfl)
          · have hf := k_T c16 hf
            refine lv_iload_n hx hb dL_take_102 rfl (lv_at hl 0 rfl) ?_
            refine lv_iload hx hb dL_take_103 (lv_at hl 3 rfl) ?_
            obtain ⟨v17, hv17, hf⟩ := k_B hf
            refine k_callS (As := [.int b0, .int s84.2]) (rest := [.int s84.1]) ⟨hx, hb, hml, hown, hts⟩ (c_L_has l b0 s84.2 v17 hv17) (va_cwS 2 hts gL_take_L_has rfl rfl rfl hd_L_has ⟨Nat.le_of_ble_eq_true rfl, Nat.le_of_ble_eq_true rfl⟩) rfl hl.1 rfl (Nat.le_of_ble_eq_true rfl) dL_take_105 ⟨Nat.zero_le _, Nat.zero_le _⟩ ?_
            refine lv_iconst (v := 4) hx hb dL_take_108 (by decide) ?_
            refine lv_icmp_ge (tgt := 116) hx hb dL_take_109 (by decide) (fun c18 => ?_) (fun c18 => ?_)
            · have hf := k_T c18 hf
              refine lv_iconst (v := 0) hx hb dL_take_116 (by decide) ?_
              obtain rfl := k_some hf
              exact kj15 ls (lv_sub hl [0, 1, 3] rfl)
            · have hf := k_F c18 hf
              refine lv_iconst (v := 1) hx hb dL_take_112 (by decide) ?_
              refine lv_goto (tgt := 117) hx hb dL_take_113 (by decide) ?_
              obtain rfl := k_some hf
              exact kj15 ls (lv_sub hl [0, 1, 3] rfl)
  unfold f_L_take at hf
  refine lv_iload_n hx hb dL_take_0 rfl (lv_at hl 0 rfl) ?_
  refine lv_istore_n (lv' := [(1, .int a0), (0, .int a0)]) hx hb dL_take_1 rfl hl (by decide) rfl (fun ls hl => ?_)
  refine lv_iconst (v := 1) hx hb dL_take_2 (by decide) ?_
  refine lv_istore_n (lv' := [(2, .int 1), (1, .int a0), (0, .int a0)]) hx hb dL_take_3 rfl hl (by decide) rfl (fun ls hl => ?_)
  obtain ⟨x12, hx12, hf⟩ := k_B hf
  refine L4 _ 1000 a0 (a0, 1) x12 hx12 ls (lv_sub hl [2, 1, 0] rfl) ?_
  · intro ls _ hl
    refine lv_iconst (v := 0) hx hb dL_take_79 (by decide) ?_
    refine lv_istore_n (lv' := [(3, .int 0), (0, .int a0), (1, .int x12.1)]) hx hb dL_take_80 rfl hl (by decide) rfl (fun ls hl => ?_)
    refine lv_iconst (v := 0) hx hb dL_take_81 (by decide) ?_
    refine lv_istore (lv' := [(4, .int 0), (3, .int 0), (0, .int a0), (1, .int x12.1)]) hx hb dL_take_82 hl (by decide) rfl (fun ls hl => ?_)
    obtain ⟨x20, hx20, hf⟩ := k_B hf
    refine L84 _ 1000 a0 x12.1 (0, 0) x20 hx20 ls (lv_sub hl [2, 3, 1, 0] rfl) ?_
    · intro ls _ hl
      refine lv_iload_n hx hb dL_take_125 rfl (lv_at hl 0 rfl) ?_
      obtain rfl := k_some hf
      exact W.iret (v := x20.1) hx hb hr (fun t ht hW => ⟨rfl, ht⟩) (fun q h => absurd h List.not_mem_nil) dL_take_126
def t_L_safe_16 (b0 : Int32) (b1 : Int32) (s16 : Int32 × Int32) : Option ((Int32 × Int32) ⊕ (Int32 × Int32)) :=
  if 2 ≤ s16.2 then
    some (.inr (s16.1, s16.2))
  else
    (f_L_beside b1 s16.2).bind fun v4 =>
    Option.bind (α := Int32) (
        if s16.1 = 0 then
          some 0
        else
          if v4 < 0 then
            some 1
          else
            (f_L_has b0 v4).bind fun v8 =>
            if 2 ≤ v8 then
              some 0
            else
              some 1
      ) fun j5 =>
    some (.inl (j5, s16.2 + 1))
def f_L_safe (a0 : Int32) (a1 : Int32) : Option Int32 :=
  Option.bind (α := Int32) (
      if ((a0 >>> (a1 &&& 31)) &&& 1) = 0 then
        some 1
      else
        some 0
    ) fun j1 =>
  (k_loop (t_L_safe_16 a0 a1) 1000 (j1, 0)).bind fun x10 =>
  if x10.1 = 0 ∨ x10.1 = 1 then some x10.1 else none
abbrev rm_L_safe : Room := { frames := 2, cells := 0, slots := 0, locals := 42 }
theorem hd_L_safe : yL_safe.cls ≠ "java/lang/invoke/MethodHandle" ∧ yL_safe.cls ≠ "java/lang/invoke/VarHandle" ∧ (parseMethodDescriptor yL_safe.desc).map (fun d => d.parameters.length) = some 2 := by decide +kernel
set_option maxHeartbeats 4000000 in
set_option maxRecDepth 100000 in
theorem c_L_safe (l : Launch) (a0 : Int32) (a1 : Int32) (r : Int32) (hf : f_L_safe a0 a1 = some r) : k_PMet l yL_safe wsL_safe rm_L_safe [.int a0, .int a1] r := by
  refine k_pureOf (cc := cL_safe) (maxL := 5) (ret := (some .boolean)) (by decide) rfl (Nat.le_of_ble_eq_true rfl) ?_
  intro p e s m args below meth c ls hx hb hr hlocks hml hown hts hl
  have hl : lv_has ls 5 [(0, .int a0), (1, .int a1)] := hl
  have L16 : ∀ (Q : State → Prop) (n : Nat) (b0 : Int32) (b1 : Int32) (s16 : Int32 × Int32) (q : (Int32 × Int32)), k_loop (t_L_safe_16 b0 b1) n s16 = some q → ∀ (ls : Array Slot), lv_has ls 5 [(0, .int b0), (1, .int b1), (2, .int s16.1), (3, .int s16.2)] → (∀ (ls : Array Slot), True → lv_has ls 5 [(2, .int q.1)] → W p l e rm_L_safe s m args below meth c s.heap [] 0 0 Q (F0 m 59 ls [])) → W p l e rm_L_safe s m args below meth c s.heap [] 0 0 Q (F0 m 16 ls []) := by
    intro Q n
    induction n with
    | zero =>
      intro b0 b1 s16 q hq
      exact (k_loop0 hq).elim
    | succ n ih =>
      intro b0 b1 s16 q hq ls hl kx 
      obtain ⟨x, hf, hq⟩ := k_loopE hq
      unfold t_L_safe_16 at hf
      refine lv_iload_n hx hb dL_safe_16 rfl (lv_at hl 3 rfl) ?_
      refine lv_iconst (v := 2) hx hb dL_safe_17 (by decide) ?_
      refine lv_icmp_ge (tgt := 59) hx hb dL_safe_18 (by decide) (fun c3 => ?_) (fun c3 => ?_)
      · have hf := k_T c3 hf
        obtain rfl := k_some hf
        obtain rfl := k_some (k_inr hq)
        exact kx ls trivial (lv_sub hl [2] rfl)
      · have hf := k_F c3 hf
        refine lv_iload_n hx hb dL_safe_21 rfl (lv_at hl 1 rfl) ?_
        refine lv_iload_n hx hb dL_safe_22 rfl (lv_at hl 3 rfl) ?_
        obtain ⟨v4, hv4, hf⟩ := k_B hf
        refine k_callS (As := [.int b1, .int s16.2]) (rest := []) ⟨hx, hb, hml, hown, hts⟩ (c_L_beside l b1 s16.2 v4 hv4) (va_cwS 2 hts gL_safe_L_beside rfl rfl rfl hd_L_beside ⟨Nat.le_of_ble_eq_true rfl, Nat.le_of_ble_eq_true rfl⟩) rfl hl.1 rfl (Nat.le_of_ble_eq_true rfl) dL_safe_23 ⟨Nat.zero_le _, Nat.zero_le _⟩ ?_
        refine lv_istore (lv' := [(4, .int v4), (0, .int b0), (1, .int b1), (2, .int s16.1), (3, .int s16.2)]) hx hb dL_safe_26 hl (by decide) rfl (fun ls hl => ?_)
        refine lv_iload_n hx hb dL_safe_28 rfl (lv_at hl 3 rfl) ?_
        obtain ⟨j5, hj5, hf⟩ := k_B hf
        refine k_joinP (nL := 5) (J := 52) (L := [(0, .int b0), (1, .int b1), (3, .int s16.2)]) (stk := [.int j5]) (fun ls hl => ?_) (fun kj5 => ?_)
        · refine lv_istore_n (lv' := [(2, .int j5), (0, .int b0), (1, .int b1), (3, .int s16.2)]) hx hb dL_safe_52 rfl hl (by decide) rfl (fun ls hl => ?_)
          refine lv_iinc (v := s16.2 + 1) (lv' := [(3, .int (s16.2 + 1)), (2, .int j5), (0, .int b0), (1, .int b1)]) hx hb dL_safe_53 hl (k := 3) rfl rfl (by decide) rfl (fun ls hl => ?_)
          refine lv_goto (tgt := 16) hx hb dL_safe_56 (by decide) ?_
          obtain rfl := k_some hf
          exact ih b0 b1 (j5, s16.2 + 1) q (k_inl hq) ls (lv_sub hl [2, 3, 1, 0] rfl) kx 
        · have hf := hj5
          refine lv_if_eq (tgt := 51) hx hb dL_safe_29 (by decide) (fun c6 => ?_) (fun c6 => ?_)
          · have hf := k_T c6 hf
            refine lv_iconst (v := 0) hx hb dL_safe_51 (by decide) ?_
            obtain rfl := k_some hf
            exact kj5 ls (lv_sub hl [1, 2, 4] rfl)
          · have hf := k_F c6 hf
            refine lv_iload hx hb dL_safe_32 (lv_at hl 0 rfl) ?_
            refine lv_if_lt (tgt := 47) hx hb dL_safe_34 (by decide) (fun c7 => ?_) (fun c7 => ?_)
            · have hf := k_T c7 hf
              refine lv_iconst (v := 1) hx hb dL_safe_47 (by decide) ?_
              refine lv_goto (tgt := 52) hx hb dL_safe_48 (by decide) ?_
              obtain rfl := k_some hf
              exact kj5 ls (lv_sub hl [1, 2, 4] rfl)
            · have hf := k_F c7 hf
              refine lv_iload_n hx hb dL_safe_37 rfl (lv_at hl 1 rfl) ?_
              refine lv_iload hx hb dL_safe_38 (lv_at hl 0 rfl) ?_
              obtain ⟨v8, hv8, hf⟩ := k_B hf
              refine k_callS (As := [.int b0, .int v4]) (rest := []) ⟨hx, hb, hml, hown, hts⟩ (c_L_has l b0 v4 v8 hv8) (va_cwS 2 hts gL_safe_L_has rfl rfl rfl hd_L_has ⟨Nat.le_of_ble_eq_true rfl, Nat.le_of_ble_eq_true rfl⟩) rfl hl.1 rfl (Nat.le_of_ble_eq_true rfl) dL_safe_40 ⟨Nat.zero_le _, Nat.zero_le _⟩ ?_
              refine lv_iconst (v := 2) hx hb dL_safe_43 (by decide) ?_
              refine lv_icmp_ge (tgt := 51) hx hb dL_safe_44 (by decide) (fun c9 => ?_) (fun c9 => ?_)
              · have hf := k_T c9 hf
                refine lv_iconst (v := 0) hx hb dL_safe_51 (by decide) ?_
                obtain rfl := k_some hf
                exact kj5 ls (lv_sub hl [1, 2, 4] rfl)
              · have hf := k_F c9 hf
                refine lv_iconst (v := 1) hx hb dL_safe_47 (by decide) ?_
                refine lv_goto (tgt := 52) hx hb dL_safe_48 (by decide) ?_
                obtain rfl := k_some hf
                exact kj5 ls (lv_sub hl [1, 2, 4] rfl)
  unfold f_L_safe at hf
  refine lv_iload_n hx hb dL_safe_0 rfl (lv_at hl 0 rfl) ?_
  refine lv_iload_n hx hb dL_safe_1 rfl (lv_at hl 1 rfl) ?_
  refine lv_ishr hx hb dL_safe_2 ?_
  refine lv_iconst (v := 1) hx hb dL_safe_3 (by decide) ?_
  refine lv_iand hx hb dL_safe_4 ?_
  obtain ⟨j1, hj1, hf⟩ := k_B hf
  refine k_joinP (nL := 5) (J := 13) (L := [(0, .int a0), (1, .int a1)]) (stk := [.int j1]) (fun ls hl => ?_) (fun kj1 => ?_)
  · refine lv_istore_n (lv' := [(2, .int j1), (0, .int a0), (1, .int a1)]) hx hb dL_safe_13 rfl hl (by decide) rfl (fun ls hl => ?_)
    refine lv_iconst (v := 0) hx hb dL_safe_14 (by decide) ?_
    refine lv_istore_n (lv' := [(3, .int 0), (2, .int j1), (0, .int a0), (1, .int a1)]) hx hb dL_safe_15 rfl hl (by decide) rfl (fun ls hl => ?_)
    obtain ⟨x10, hx10, hf⟩ := k_B hf
    refine L16 _ 1000 a0 a1 (j1, 0) x10 hx10 ls (lv_sub hl [2, 3, 1, 0] rfl) ?_
    · intro ls _ hl
      refine lv_iload_n hx hb dL_safe_59 rfl (lv_at hl 0 rfl) ?_
      obtain ⟨rfl, hn⟩ := k_bool hf
      exact W.zret (v := x10.1) hx hb hr hn (fun t ht hW => ⟨rfl, ht⟩) (fun q h => absurd h List.not_mem_nil) dL_safe_60
  · have hf := hj1
    refine lv_if_ne (tgt := 12) hx hb dL_safe_5 (by decide) (fun c2 => ?_) (fun c2 => ?_)
    · have hf := k_F c2 hf
      refine lv_iconst (v := 0) hx hb dL_safe_12 (by decide) ?_
      obtain rfl := k_some hf
      exact kj1 ls (lv_sub hl [0, 1] rfl)
    · have hf := k_T c2 hf
      refine lv_iconst (v := 1) hx hb dL_safe_8 (by decide) ?_
      refine lv_goto (tgt := 13) hx hb dL_safe_9 (by decide) ?_
      obtain rfl := k_some hf
      exact kj1 ls (lv_sub hl [0, 1] rfl)
def t_L_chain_27 (b0 : Int32) (b3 : Int32) (s27 : Int32 × Int32) : Option ((Int32 × Int32) ⊕ (Int32 × Int32)) :=
  if 31 ≤ s27.2 then
    some (.inr (s27.1, s27.2))
  else
    (f_L_beside s27.2 0).bind fun v6 =>
    (f_L_beside s27.2 1).bind fun v7 =>
    Option.bind (α := Int32) (
        if ((b0 >>> (s27.2 &&& 31)) &&& 1) = 0 then
          if v6 < 0 then
            some 0
          else
            if v7 < 0 then
              some 0
            else
              (f_L_has b0 v6).bind fun v12 =>
              if v12 = 2 then
                (f_L_has b0 v7).bind fun v14 =>
                if v14 = 2 then
                  some 1
                else
                  some 0
              else
                some 0
        else
          some 0
      ) fun j8 =>
    Option.bind (α := Int32) (
        if j8 = 0 then
          some 0
        else
          if ((s27.1 >>> (v6 &&& 31)) &&& 1) = 1 then
            some ((1 : Int32) <<< (v7 &&& 31))
          else
            some 0
      ) fun j16 =>
    k_let (s27.1 ||| j16) fun y19 =>
    Option.bind (α := Int32) (
        if j8 = 0 then
          some 0
        else
          if ((y19 >>> (v7 &&& 31)) &&& 1) = 1 then
            some ((1 : Int32) <<< (v6 &&& 31))
          else
            some 0
      ) fun j20 =>
    k_let (y19 ||| j20) fun y23 =>
    some (.inl (y23, s27.2 + 1))
def t_L_chain_17 (b0 : Int32) (s17 : Int32 × Int32) : Option ((Int32 × Int32) ⊕ (Int32 × Int32)) :=
  if s17.1 = s17.2 then
    some (.inr (s17.1, s17.2))
  else
    (k_loop (t_L_chain_27 b0 s17.1) 1000 (s17.1, 0)).bind fun x24 =>
    some (.inl (x24.1, s17.1))
def f_L_chain (a0 : Int32) (a1 : Int32) : Option Int32 :=
  (f_L_has a0 a1).bind fun v1 =>
  if v1 = 2 then
    k_let ((1 : Int32) <<< (a1 &&& 31)) fun y3 =>
    (k_loop (t_L_chain_17 a0) 1000 (y3, 0)).bind fun x25 =>
    some x25.1
  else
    some 0
abbrev rm_L_chain : Room := { frames := 2, cells := 0, slots := 0, locals := 42 }
theorem hd_L_chain : yL_chain.cls ≠ "java/lang/invoke/MethodHandle" ∧ yL_chain.cls ≠ "java/lang/invoke/VarHandle" ∧ (parseMethodDescriptor yL_chain.desc).map (fun d => d.parameters.length) = some 2 := by decide +kernel
set_option maxHeartbeats 4000000 in
set_option maxRecDepth 100000 in
theorem c_L_chain (l : Launch) (a0 : Int32) (a1 : Int32) (r : Int32) (hf : f_L_chain a0 a1 = some r) : k_PMet l yL_chain wsL_chain rm_L_chain [.int a0, .int a1] r := by
  refine k_pureOf (cc := cL_chain) (maxL := 8) (ret := (some .int)) (by decide) rfl (Nat.le_of_ble_eq_true rfl) ?_
  intro p e s m args below meth c ls hx hb hr hlocks hml hown hts hl
  have hl : lv_has ls 8 [(0, .int a0), (1, .int a1)] := hl
  have L27 : ∀ (Q : State → Prop) (n : Nat) (b0 : Int32) (b3 : Int32) (s27 : Int32 × Int32) (q : (Int32 × Int32)), k_loop (t_L_chain_27 b0 b3) n s27 = some q → ∀ (ls : Array Slot), lv_has ls 8 [(0, .int b0), (2, .int s27.1), (3, .int b3), (4, .int s27.2)] → (∀ (ls : Array Slot), True → lv_has ls 8 [(0, .int b0), (2, .int q.1), (3, .int b3)] → W p l e rm_L_chain s m args below meth c s.heap [] 0 0 Q (F0 m 154 ls [])) → W p l e rm_L_chain s m args below meth c s.heap [] 0 0 Q (F0 m 27 ls []) := by
    intro Q n
    induction n with
    | zero =>
      intro b0 b3 s27 q hq
      exact (k_loop0 hq).elim
    | succ n ih =>
      intro b0 b3 s27 q hq ls hl kx 
      obtain ⟨x, hf, hq⟩ := k_loopE hq
      unfold t_L_chain_27 at hf
      refine lv_iload hx hb dL_chain_27 (lv_at hl 3 rfl) ?_
      refine lv_bipush (v := 31) hx hb dL_chain_29 (by decide) ?_
      refine lv_icmp_ge (tgt := 154) hx hb dL_chain_31 (by decide) (fun c5 => ?_) (fun c5 => ?_)
      · have hf := k_T c5 hf
        obtain rfl := k_some hf
        obtain rfl := k_some (k_inr hq)
        exact kx ls trivial (lv_sub hl [0, 1, 2] rfl)
      · have hf := k_F c5 hf
        refine lv_iload hx hb dL_chain_34 (lv_at hl 3 rfl) ?_
        refine lv_iconst (v := 0) hx hb dL_chain_36 (by decide) ?_
        obtain ⟨v6, hv6, hf⟩ := k_B hf
        refine k_callS (As := [.int s27.2, .int 0]) (rest := []) ⟨hx, hb, hml, hown, hts⟩ (c_L_beside l s27.2 0 v6 hv6) (va_cwS 2 hts gL_chain_L_beside rfl rfl rfl hd_L_beside ⟨Nat.le_of_ble_eq_true rfl, Nat.le_of_ble_eq_true rfl⟩) rfl hl.1 rfl (Nat.le_of_ble_eq_true rfl) dL_chain_37 ⟨Nat.zero_le _, Nat.zero_le _⟩ ?_
        refine lv_istore (lv' := [(5, .int v6), (0, .int b0), (2, .int s27.1), (3, .int b3), (4, .int s27.2)]) hx hb dL_chain_40 hl (by decide) rfl (fun ls hl => ?_)
        refine lv_iload hx hb dL_chain_42 (lv_at hl 4 rfl) ?_
        refine lv_iconst (v := 1) hx hb dL_chain_44 (by decide) ?_
        obtain ⟨v7, hv7, hf⟩ := k_B hf
        refine k_callS (As := [.int s27.2, .int 1]) (rest := []) ⟨hx, hb, hml, hown, hts⟩ (c_L_beside l s27.2 1 v7 hv7) (va_cwS 2 hts gL_chain_L_beside rfl rfl rfl hd_L_beside ⟨Nat.le_of_ble_eq_true rfl, Nat.le_of_ble_eq_true rfl⟩) rfl hl.1 rfl (Nat.le_of_ble_eq_true rfl) dL_chain_45 ⟨Nat.zero_le _, Nat.zero_le _⟩ ?_
        refine lv_istore (lv' := [(6, .int v7), (5, .int v6), (0, .int b0), (2, .int s27.1), (3, .int b3), (4, .int s27.2)]) hx hb dL_chain_48 hl (by decide) rfl (fun ls hl => ?_)
        refine lv_iload_n hx hb dL_chain_50 rfl (lv_at hl 2 rfl) ?_
        refine lv_iload hx hb dL_chain_51 (lv_at hl 5 rfl) ?_
        refine lv_ishr hx hb dL_chain_53 ?_
        refine lv_iconst (v := 1) hx hb dL_chain_54 (by decide) ?_
        refine lv_iand hx hb dL_chain_55 ?_
        obtain ⟨j8, hj8, hf⟩ := k_B hf
        refine k_joinP (nL := 8) (J := 94) (L := [(0, .int b0), (2, .int s27.1), (3, .int b3), (4, .int s27.2), (5, .int v6), (6, .int v7)]) (stk := [.int j8]) (fun ls hl => ?_) (fun kj8 => ?_)
        · refine lv_istore (lv' := [(7, .int j8), (0, .int b0), (2, .int s27.1), (3, .int b3), (4, .int s27.2), (5, .int v6), (6, .int v7)]) hx hb dL_chain_94 hl (by decide) rfl (fun ls hl => ?_)
          refine lv_iload_n hx hb dL_chain_96 rfl (lv_at hl 2 rfl) ?_
          refine lv_iload hx hb dL_chain_97 (lv_at hl 0 rfl) ?_
          obtain ⟨j16, hj16, hf⟩ := k_B hf
          refine k_joinP (nL := 8) (J := 120) (L := [(0, .int b0), (3, .int b3), (4, .int s27.2), (5, .int v6), (6, .int v7), (7, .int j8)]) (stk := [.int j16, .int s27.1]) (fun ls hl => ?_) (fun kj16 => ?_)
          · refine lv_ior hx hb dL_chain_120 ?_
            obtain ⟨y19, ey19, hf⟩ := k_L hf
            refine k_name ey19 ?_
            refine lv_istore_n (lv' := [(2, .int y19), (0, .int b0), (3, .int b3), (4, .int s27.2), (5, .int v6), (6, .int v7), (7, .int j8)]) hx hb dL_chain_121 rfl hl (by decide) rfl (fun ls hl => ?_)
            refine lv_iload_n hx hb dL_chain_122 rfl (lv_at hl 0 rfl) ?_
            refine lv_iload hx hb dL_chain_123 (lv_at hl 6 rfl) ?_
            obtain ⟨j20, hj20, hf⟩ := k_B hf
            refine k_joinP (nL := 8) (J := 146) (L := [(0, .int b0), (3, .int b3), (4, .int s27.2)]) (stk := [.int j20, .int y19]) (fun ls hl => ?_) (fun kj20 => ?_)
            · refine lv_ior hx hb dL_chain_146 ?_
              obtain ⟨y23, ey23, hf⟩ := k_L hf
              refine k_name ey23 ?_
              refine lv_istore_n (lv' := [(2, .int y23), (0, .int b0), (3, .int b3), (4, .int s27.2)]) hx hb dL_chain_147 rfl hl (by decide) rfl (fun ls hl => ?_)
              refine lv_iinc (v := s27.2 + 1) (lv' := [(4, .int (s27.2 + 1)), (2, .int y23), (0, .int b0), (3, .int b3)]) hx hb dL_chain_148 hl (k := 3) rfl rfl (by decide) rfl (fun ls hl => ?_)
              refine lv_goto (tgt := 27) hx hb dL_chain_151 (by decide) ?_
              obtain rfl := k_some hf
              exact ih b0 b3 (y23, s27.2 + 1) q (k_inl hq) ls (lv_sub hl [2, 1, 3, 0] rfl) kx 
            · have hf := hj20
              refine lv_if_eq (tgt := 145) hx hb dL_chain_125 (by decide) (fun c21 => ?_) (fun c21 => ?_)
              · have hf := k_T c21 hf
                refine lv_iconst (v := 0) hx hb dL_chain_145 (by decide) ?_
                obtain rfl := k_some hf
                exact kj20 ls (lv_sub hl [1, 2, 3] rfl)
              · have hf := k_F c21 hf
                refine lv_iload_n hx hb dL_chain_128 rfl (lv_at hl 0 rfl) ?_
                refine lv_iload hx hb dL_chain_129 (lv_at hl 5 rfl) ?_
                refine lv_ishr hx hb dL_chain_131 ?_
                refine lv_iconst (v := 1) hx hb dL_chain_132 (by decide) ?_
                refine lv_iand hx hb dL_chain_133 ?_
                refine lv_iconst (v := 1) hx hb dL_chain_134 (by decide) ?_
                refine lv_icmp_ne (tgt := 145) hx hb dL_chain_135 (by decide) (fun c22 => ?_) (fun c22 => ?_)
                · have hf := k_F c22 hf
                  refine lv_iconst (v := 0) hx hb dL_chain_145 (by decide) ?_
                  obtain rfl := k_some hf
                  exact kj20 ls (lv_sub hl [1, 2, 3] rfl)
                · have hf := k_T c22 hf
                  refine lv_iconst (v := 1) hx hb dL_chain_138 (by decide) ?_
                  refine lv_iload hx hb dL_chain_139 (lv_at hl 4 rfl) ?_
                  refine lv_ishl hx hb dL_chain_141 ?_
                  refine lv_goto (tgt := 146) hx hb dL_chain_142 (by decide) ?_
                  obtain rfl := k_some hf
                  exact kj20 ls (lv_sub hl [1, 2, 3] rfl)
          · have hf := hj16
            refine lv_if_eq (tgt := 119) hx hb dL_chain_99 (by decide) (fun c17 => ?_) (fun c17 => ?_)
            · have hf := k_T c17 hf
              refine lv_iconst (v := 0) hx hb dL_chain_119 (by decide) ?_
              obtain rfl := k_some hf
              exact kj16 ls (lv_sub hl [1, 3, 4, 5, 6, 0] rfl)
            · have hf := k_F c17 hf
              refine lv_iload_n hx hb dL_chain_102 rfl (lv_at hl 2 rfl) ?_
              refine lv_iload hx hb dL_chain_103 (lv_at hl 5 rfl) ?_
              refine lv_ishr hx hb dL_chain_105 ?_
              refine lv_iconst (v := 1) hx hb dL_chain_106 (by decide) ?_
              refine lv_iand hx hb dL_chain_107 ?_
              refine lv_iconst (v := 1) hx hb dL_chain_108 (by decide) ?_
              refine lv_icmp_ne (tgt := 119) hx hb dL_chain_109 (by decide) (fun c18 => ?_) (fun c18 => ?_)
              · have hf := k_F c18 hf
                refine lv_iconst (v := 0) hx hb dL_chain_119 (by decide) ?_
                obtain rfl := k_some hf
                exact kj16 ls (lv_sub hl [1, 3, 4, 5, 6, 0] rfl)
              · have hf := k_T c18 hf
                refine lv_iconst (v := 1) hx hb dL_chain_112 (by decide) ?_
                refine lv_iload hx hb dL_chain_113 (lv_at hl 6 rfl) ?_
                refine lv_ishl hx hb dL_chain_115 ?_
                refine lv_goto (tgt := 120) hx hb dL_chain_116 (by decide) ?_
                obtain rfl := k_some hf
                exact kj16 ls (lv_sub hl [1, 3, 4, 5, 6, 0] rfl)
        · have hf := hj8
          refine lv_if_ne (tgt := 93) hx hb dL_chain_56 (by decide) (fun c9 => ?_) (fun c9 => ?_)
          · have hf := k_F c9 hf
            refine lv_iconst (v := 0) hx hb dL_chain_93 (by decide) ?_
            obtain rfl := k_some hf
            exact kj8 ls (lv_sub hl [2, 3, 4, 5, 1, 0] rfl)
          · have hf := k_T c9 hf
            refine lv_iload hx hb dL_chain_59 (lv_at hl 1 rfl) ?_
            refine lv_if_lt (tgt := 93) hx hb dL_chain_61 (by decide) (fun c10 => ?_) (fun c10 => ?_)
            · have hf := k_T c10 hf
              refine lv_iconst (v := 0) hx hb dL_chain_93 (by decide) ?_
              obtain rfl := k_some hf
              exact kj8 ls (lv_sub hl [2, 3, 4, 5, 1, 0] rfl)
            · have hf := k_F c10 hf
              refine lv_iload hx hb dL_chain_64 (lv_at hl 0 rfl) ?_
              refine lv_if_lt (tgt := 93) hx hb dL_chain_66 (by decide) (fun c11 => ?_) (fun c11 => ?_)
              · have hf := k_T c11 hf
                refine lv_iconst (v := 0) hx hb dL_chain_93 (by decide) ?_
                obtain rfl := k_some hf
                exact kj8 ls (lv_sub hl [2, 3, 4, 5, 1, 0] rfl)
              · have hf := k_F c11 hf
                refine lv_iload_n hx hb dL_chain_69 rfl (lv_at hl 2 rfl) ?_
                refine lv_iload hx hb dL_chain_70 (lv_at hl 1 rfl) ?_
                obtain ⟨v12, hv12, hf⟩ := k_B hf
                refine k_callS (As := [.int b0, .int v6]) (rest := []) ⟨hx, hb, hml, hown, hts⟩ (c_L_has l b0 v6 v12 hv12) (va_cwS 2 hts gL_chain_L_has rfl rfl rfl hd_L_has ⟨Nat.le_of_ble_eq_true rfl, Nat.le_of_ble_eq_true rfl⟩) rfl hl.1 rfl (Nat.le_of_ble_eq_true rfl) dL_chain_72 ⟨Nat.zero_le _, Nat.zero_le _⟩ ?_
                refine lv_iconst (v := 2) hx hb dL_chain_75 (by decide) ?_
                refine lv_icmp_ne (tgt := 93) hx hb dL_chain_76 (by decide) (fun c13 => ?_) (fun c13 => ?_)
                · have hf := k_F c13 hf
                  refine lv_iconst (v := 0) hx hb dL_chain_93 (by decide) ?_
                  obtain rfl := k_some hf
                  exact kj8 ls (lv_sub hl [2, 3, 4, 5, 1, 0] rfl)
                · have hf := k_T c13 hf
                  refine lv_iload_n hx hb dL_chain_79 rfl (lv_at hl 2 rfl) ?_
                  refine lv_iload hx hb dL_chain_80 (lv_at hl 0 rfl) ?_
                  obtain ⟨v14, hv14, hf⟩ := k_B hf
                  refine k_callS (As := [.int b0, .int v7]) (rest := []) ⟨hx, hb, hml, hown, hts⟩ (c_L_has l b0 v7 v14 hv14) (va_cwS 2 hts gL_chain_L_has rfl rfl rfl hd_L_has ⟨Nat.le_of_ble_eq_true rfl, Nat.le_of_ble_eq_true rfl⟩) rfl hl.1 rfl (Nat.le_of_ble_eq_true rfl) dL_chain_82 ⟨Nat.zero_le _, Nat.zero_le _⟩ ?_
                  refine lv_iconst (v := 2) hx hb dL_chain_85 (by decide) ?_
                  refine lv_icmp_ne (tgt := 93) hx hb dL_chain_86 (by decide) (fun c15 => ?_) (fun c15 => ?_)
                  · have hf := k_F c15 hf
                    refine lv_iconst (v := 0) hx hb dL_chain_93 (by decide) ?_
                    obtain rfl := k_some hf
                    exact kj8 ls (lv_sub hl [2, 3, 4, 5, 1, 0] rfl)
                  · have hf := k_T c15 hf
                    refine lv_iconst (v := 1) hx hb dL_chain_89 (by decide) ?_
                    refine lv_goto (tgt := 94) hx hb dL_chain_90 (by decide) ?_
                    obtain rfl := k_some hf
                    exact kj8 ls (lv_sub hl [2, 3, 4, 5, 1, 0] rfl)
  have L17 : ∀ (Q : State → Prop) (n : Nat) (b0 : Int32) (s17 : Int32 × Int32) (q : (Int32 × Int32)), k_loop (t_L_chain_17 b0) n s17 = some q → ∀ (ls : Array Slot), lv_has ls 8 [(0, .int b0), (2, .int s17.1), (3, .int s17.2)] → (∀ (ls : Array Slot), True → lv_has ls 8 [(2, .int q.1)] → W p l e rm_L_chain s m args below meth c s.heap [] 0 0 Q (F0 m 157 ls [])) → W p l e rm_L_chain s m args below meth c s.heap [] 0 0 Q (F0 m 17 ls []) := by
    intro Q n
    induction n with
    | zero =>
      intro b0 s17 q hq
      exact (k_loop0 hq).elim
    | succ n ih =>
      intro b0 s17 q hq ls hl kx 
      obtain ⟨x, hf, hq⟩ := k_loopE hq
      unfold t_L_chain_17 at hf
      refine lv_iload_n hx hb dL_chain_17 rfl (lv_at hl 1 rfl) ?_
      refine lv_iload_n hx hb dL_chain_18 rfl (lv_at hl 2 rfl) ?_
      refine lv_icmp_eq (tgt := 157) hx hb dL_chain_19 (by decide) (fun c4 => ?_) (fun c4 => ?_)
      · have hf := k_T c4 hf
        obtain rfl := k_some hf
        obtain rfl := k_some (k_inr hq)
        exact kx ls trivial (lv_sub hl [1] rfl)
      · have hf := k_F c4 hf
        refine lv_iload_n hx hb dL_chain_22 rfl (lv_at hl 1 rfl) ?_
        refine lv_istore_n (lv' := [(3, .int s17.1), (0, .int b0), (2, .int s17.1)]) hx hb dL_chain_23 rfl hl (by decide) rfl (fun ls hl => ?_)
        refine lv_iconst (v := 0) hx hb dL_chain_24 (by decide) ?_
        refine lv_istore (lv' := [(4, .int 0), (3, .int s17.1), (0, .int b0), (2, .int s17.1)]) hx hb dL_chain_25 hl (by decide) rfl (fun ls hl => ?_)
        obtain ⟨x24, hx24, hf⟩ := k_B hf
        refine L27 _ 1000 b0 s17.1 (s17.1, 0) x24 hx24 ls (lv_sub hl [2, 3, 1, 0] rfl) ?_
        · intro ls _ hl
          refine lv_goto (tgt := 17) hx hb dL_chain_154 (by decide) ?_
          obtain rfl := k_some hf
          exact ih b0 (x24.1, s17.1) q (k_inl hq) ls (lv_sub hl [0, 1, 2] rfl) kx 
  unfold f_L_chain at hf
  refine lv_iload_n hx hb dL_chain_0 rfl (lv_at hl 0 rfl) ?_
  refine lv_iload_n hx hb dL_chain_1 rfl (lv_at hl 1 rfl) ?_
  obtain ⟨v1, hv1, hf⟩ := k_B hf
  refine k_callS (As := [.int a0, .int a1]) (rest := []) ⟨hx, hb, hml, hown, hts⟩ (c_L_has l a0 a1 v1 hv1) (va_cwS 2 hts gL_chain_L_has rfl rfl rfl hd_L_has ⟨Nat.le_of_ble_eq_true rfl, Nat.le_of_ble_eq_true rfl⟩) rfl hl.1 rfl (Nat.le_of_ble_eq_true rfl) dL_chain_2 ⟨Nat.zero_le _, Nat.zero_le _⟩ ?_
  refine lv_iconst (v := 2) hx hb dL_chain_5 (by decide) ?_
  refine lv_icmp_eq (tgt := 11) hx hb dL_chain_6 (by decide) (fun c2 => ?_) (fun c2 => ?_)
  · have hf := k_T c2 hf
    refine lv_iconst (v := 1) hx hb dL_chain_11 (by decide) ?_
    refine lv_iload_n hx hb dL_chain_12 rfl (lv_at hl 1 rfl) ?_
    refine lv_ishl hx hb dL_chain_13 ?_
    obtain ⟨y3, ey3, hf⟩ := k_L hf
    refine k_name ey3 ?_
    refine lv_istore_n (lv' := [(2, .int y3), (0, .int a0), (1, .int a1)]) hx hb dL_chain_14 rfl hl (by decide) rfl (fun ls hl => ?_)
    refine lv_iconst (v := 0) hx hb dL_chain_15 (by decide) ?_
    refine lv_istore_n (lv' := [(3, .int 0), (2, .int y3), (0, .int a0), (1, .int a1)]) hx hb dL_chain_16 rfl hl (by decide) rfl (fun ls hl => ?_)
    obtain ⟨x25, hx25, hf⟩ := k_B hf
    refine L17 _ 1000 a0 (y3, 0) x25 hx25 ls (lv_sub hl [2, 1, 0] rfl) ?_
    · intro ls _ hl
      refine lv_iload_n hx hb dL_chain_157 rfl (lv_at hl 0 rfl) ?_
      obtain rfl := k_some hf
      exact W.iret (v := x25.1) hx hb hr (fun t ht hW => ⟨rfl, ht⟩) (fun q h => absurd h List.not_mem_nil) dL_chain_158
  · have hf := k_F c2 hf
    refine lv_iconst (v := 0) hx hb dL_chain_9 (by decide) ?_
    obtain rfl := k_some hf
    exact W.iret (v := 0) hx hb hr (fun t ht hW => ⟨rfl, ht⟩) (fun q h => absurd h List.not_mem_nil) dL_chain_10
def t_L_isRing_28 (b0 : Int32) (b1 : Int32) (b2 : Int32) (b3 : Int32) (s28 : Int32 × Int32) : Option ((Int32 × Int32) ⊕ (Int32 × Int32)) :=
  if 4 ≤ s28.2 then
    some (.inr (s28.1, s28.2))
  else
    if ((b1 >>> (b3 &&& 31)) &&& 1) = 1 then
      (f_L_side b3 s28.2).bind fun v7 =>
      (f_L_beside v7 0).bind fun v8 =>
      Option.bind (α := Int32) (
          if v8 = b3 then
            (f_L_beside v7 1).bind fun v12 =>
            some v12
          else
            (f_L_beside v7 0).bind fun v11 =>
            some v11
        ) fun j9 =>
      Option.bind (α := Int32) (
          if ((b0 >>> (v7 &&& 31)) &&& 1) = 0 then
            if j9 < 0 then
              some 0
            else
              if ((b1 >>> (j9 &&& 31)) &&& 1) = 1 then
                some 1
              else
                some 0
          else
            some 0
        ) fun j13 =>
      k_let (s28.1 + j13) fun y17 =>
      some (.inl (y17, s28.2 + 1))
    else
      some (.inr (s28.1, s28.2))
def t_L_isRing_16 (b0 : Int32) (b1 : Int32) (s16 : Int32 × Int32) : Option ((Int32 × Int32) ⊕ (Int32 × Int32)) :=
  if 12 ≤ s16.2 then
    some (.inr (s16.1, s16.2))
  else
    (k_loop (t_L_isRing_28 b0 b1 s16.1 s16.2) 1000 (0, 0)).bind fun x18 =>
    Option.bind (α := Int32) (
        if s16.1 = 0 then
          some 0
        else
          if ((b1 >>> (s16.2 &&& 31)) &&& 1) = 0 then
            some 1
          else
            if x18.1 = 2 then
              some 1
            else
              some 0
      ) fun j19 =>
    some (.inl (j19, s16.2 + 1))
def f_L_isRing (a0 : Int32) (a1 : Int32) : Option Int32 :=
  (f_L_count a1).bind fun v1 =>
  Option.bind (α := Int32) (
      if v1 ≤ 3 then
        some 0
      else
        some 1
    ) fun j2 =>
  (k_loop (t_L_isRing_16 a0 a1) 1000 (j2, 0)).bind fun x23 =>
  if x23.1 = 0 ∨ x23.1 = 1 then some x23.1 else none
abbrev rm_L_isRing : Room := { frames := 1, cells := 0, slots := 0, locals := 22 }
theorem hd_L_isRing : yL_isRing.cls ≠ "java/lang/invoke/MethodHandle" ∧ yL_isRing.cls ≠ "java/lang/invoke/VarHandle" ∧ (parseMethodDescriptor yL_isRing.desc).map (fun d => d.parameters.length) = some 2 := by decide +kernel
set_option maxHeartbeats 4000000 in
set_option maxRecDepth 100000 in
theorem c_L_isRing (l : Launch) (a0 : Int32) (a1 : Int32) (r : Int32) (hf : f_L_isRing a0 a1 = some r) : k_PMet l yL_isRing wsL_isRing rm_L_isRing [.int a0, .int a1] r := by
  refine k_pureOf (cc := cL_isRing) (maxL := 8) (ret := (some .boolean)) (by decide) rfl (Nat.le_of_ble_eq_true rfl) ?_
  intro p e s m args below meth c ls hx hb hr hlocks hml hown hts hl
  have hl : lv_has ls 8 [(0, .int a0), (1, .int a1)] := hl
  have L28 : ∀ (Q : State → Prop) (n : Nat) (b0 : Int32) (b1 : Int32) (b2 : Int32) (b3 : Int32) (s28 : Int32 × Int32) (q : (Int32 × Int32)), k_loop (t_L_isRing_28 b0 b1 b2 b3) n s28 = some q → ∀ (ls : Array Slot), lv_has ls 8 [(0, .int b0), (1, .int b1), (2, .int b2), (3, .int b3), (4, .int s28.1), (5, .int s28.2)] → (∀ (ls : Array Slot), True → lv_has ls 8 [(0, .int b0), (1, .int b1), (2, .int b2), (3, .int b3), (4, .int q.1)] → W p l e rm_L_isRing s m args below meth c s.heap [] 0 0 Q (F0 m 118 ls [])) → W p l e rm_L_isRing s m args below meth c s.heap [] 0 0 Q (F0 m 28 ls []) := by
    intro Q n
    induction n with
    | zero =>
      intro b0 b1 b2 b3 s28 q hq
      exact (k_loop0 hq).elim
    | succ n ih =>
      intro b0 b1 b2 b3 s28 q hq ls hl kx 
      obtain ⟨x, hf, hq⟩ := k_loopE hq
      unfold t_L_isRing_28 at hf
      refine lv_iload hx hb dL_isRing_28 (lv_at hl 5 rfl) ?_
      refine lv_iconst (v := 4) hx hb dL_isRing_30 (by decide) ?_
      refine lv_icmp_ge (tgt := 118) hx hb dL_isRing_31 (by decide) (fun c5 => ?_) (fun c5 => ?_)
      · have hf := k_T c5 hf
        obtain rfl := k_some hf
        obtain rfl := k_some (k_inr hq)
        exact kx ls trivial (lv_sub hl [0, 1, 2, 3, 4] rfl)
      · have hf := k_F c5 hf
        refine lv_iload_n hx hb dL_isRing_34 rfl (lv_at hl 1 rfl) ?_
        refine lv_iload_n hx hb dL_isRing_35 rfl (lv_at hl 3 rfl) ?_
        refine lv_ishr hx hb dL_isRing_36 ?_
        refine lv_iconst (v := 1) hx hb dL_isRing_37 (by decide) ?_
        refine lv_iand hx hb dL_isRing_38 ?_
        refine lv_iconst (v := 1) hx hb dL_isRing_39 (by decide) ?_
        refine lv_icmp_ne (tgt := 118) hx hb dL_isRing_40 (by decide) (fun c6 => ?_) (fun c6 => ?_)
        · have hf := k_F c6 hf
          obtain rfl := k_some hf
          obtain rfl := k_some (k_inr hq)
          exact kx ls trivial (lv_sub hl [0, 1, 2, 3, 4] rfl)
        · have hf := k_T c6 hf
          refine lv_iload_n hx hb dL_isRing_43 rfl (lv_at hl 3 rfl) ?_
          refine lv_iload hx hb dL_isRing_44 (lv_at hl 5 rfl) ?_
          obtain ⟨v7, hv7, hf⟩ := k_B hf
          refine k_callS (As := [.int b3, .int s28.2]) (rest := []) ⟨hx, hb, hml, hown, hts⟩ (c_L_side l b3 s28.2 v7 hv7) (va_cwS 2 hts gL_isRing_L_side rfl rfl rfl hd_L_side ⟨Nat.le_of_ble_eq_true rfl, Nat.le_of_ble_eq_true rfl⟩) rfl hl.1 rfl (Nat.le_of_ble_eq_true rfl) dL_isRing_46 ⟨Nat.zero_le _, Nat.zero_le _⟩ ?_
          refine lv_istore (lv' := [(6, .int v7), (0, .int b0), (1, .int b1), (2, .int b2), (3, .int b3), (4, .int s28.1), (5, .int s28.2)]) hx hb dL_isRing_49 hl (by decide) rfl (fun ls hl => ?_)
          refine lv_iload hx hb dL_isRing_51 (lv_at hl 0 rfl) ?_
          refine lv_iconst (v := 0) hx hb dL_isRing_53 (by decide) ?_
          obtain ⟨v8, hv8, hf⟩ := k_B hf
          refine k_callS (As := [.int v7, .int 0]) (rest := []) ⟨hx, hb, hml, hown, hts⟩ (c_L_beside l v7 0 v8 hv8) (va_cwS 2 hts gL_isRing_L_beside rfl rfl rfl hd_L_beside ⟨Nat.le_of_ble_eq_true rfl, Nat.le_of_ble_eq_true rfl⟩) rfl hl.1 rfl (Nat.le_of_ble_eq_true rfl) dL_isRing_54 ⟨Nat.zero_le _, Nat.zero_le _⟩ ?_
          refine lv_iload_n hx hb dL_isRing_57 rfl (lv_at hl 4 rfl) ?_
          obtain ⟨j9, hj9, hf⟩ := k_B hf
          refine k_joinP (nL := 8) (J := 76) (L := [(0, .int b0), (1, .int b1), (2, .int b2), (3, .int b3), (4, .int s28.1), (5, .int s28.2), (6, .int v7)]) (stk := [.int j9]) (fun ls hl => ?_) (fun kj9 => ?_)
          · refine lv_istore (lv' := [(7, .int j9), (0, .int b0), (1, .int b1), (2, .int b2), (3, .int b3), (4, .int s28.1), (5, .int s28.2), (6, .int v7)]) hx hb dL_isRing_76 hl (by decide) rfl (fun ls hl => ?_)
            refine lv_iload hx hb dL_isRing_78 (lv_at hl 5 rfl) ?_
            refine lv_iload_n hx hb dL_isRing_80 rfl (lv_at hl 1 rfl) ?_
            refine lv_iload hx hb dL_isRing_81 (lv_at hl 7 rfl) ?_
            refine lv_ishr hx hb dL_isRing_83 ?_
            refine lv_iconst (v := 1) hx hb dL_isRing_84 (by decide) ?_
            refine lv_iand hx hb dL_isRing_85 ?_
            obtain ⟨j13, hj13, hf⟩ := k_B hf
            refine k_joinP (nL := 8) (J := 109) (L := [(0, .int b0), (1, .int b1), (2, .int b2), (3, .int b3), (5, .int s28.2)]) (stk := [.int j13, .int s28.1]) (fun ls hl => ?_) (fun kj13 => ?_)
            · refine lv_iadd hx hb dL_isRing_109 ?_
              obtain ⟨y17, ey17, hf⟩ := k_L hf
              refine k_name ey17 ?_
              refine lv_istore (lv' := [(4, .int y17), (0, .int b0), (1, .int b1), (2, .int b2), (3, .int b3), (5, .int s28.2)]) hx hb dL_isRing_110 hl (by decide) rfl (fun ls hl => ?_)
              refine lv_iinc (v := s28.2 + 1) (lv' := [(5, .int (s28.2 + 1)), (4, .int y17), (0, .int b0), (1, .int b1), (2, .int b2), (3, .int b3)]) hx hb dL_isRing_112 hl (k := 5) rfl rfl (by decide) rfl (fun ls hl => ?_)
              refine lv_goto (tgt := 28) hx hb dL_isRing_115 (by decide) ?_
              obtain rfl := k_some hf
              exact ih b0 b1 b2 b3 (y17, s28.2 + 1) q (k_inl hq) ls (lv_sub hl [2, 3, 4, 5, 1, 0] rfl) kx 
            · have hf := hj13
              refine lv_if_ne (tgt := 108) hx hb dL_isRing_86 (by decide) (fun c14 => ?_) (fun c14 => ?_)
              · have hf := k_F c14 hf
                refine lv_iconst (v := 0) hx hb dL_isRing_108 (by decide) ?_
                obtain rfl := k_some hf
                exact kj13 ls (lv_sub hl [1, 2, 3, 4, 6] rfl)
              · have hf := k_T c14 hf
                refine lv_iload hx hb dL_isRing_89 (lv_at hl 0 rfl) ?_
                refine lv_if_lt (tgt := 108) hx hb dL_isRing_91 (by decide) (fun c15 => ?_) (fun c15 => ?_)
                · have hf := k_T c15 hf
                  refine lv_iconst (v := 0) hx hb dL_isRing_108 (by decide) ?_
                  obtain rfl := k_some hf
                  exact kj13 ls (lv_sub hl [1, 2, 3, 4, 6] rfl)
                · have hf := k_F c15 hf
                  refine lv_iload_n hx hb dL_isRing_94 rfl (lv_at hl 2 rfl) ?_
                  refine lv_iload hx hb dL_isRing_95 (lv_at hl 0 rfl) ?_
                  refine lv_ishr hx hb dL_isRing_97 ?_
                  refine lv_iconst (v := 1) hx hb dL_isRing_98 (by decide) ?_
                  refine lv_iand hx hb dL_isRing_99 ?_
                  refine lv_iconst (v := 1) hx hb dL_isRing_100 (by decide) ?_
                  refine lv_icmp_ne (tgt := 108) hx hb dL_isRing_101 (by decide) (fun c16 => ?_) (fun c16 => ?_)
                  · have hf := k_F c16 hf
                    refine lv_iconst (v := 0) hx hb dL_isRing_108 (by decide) ?_
                    obtain rfl := k_some hf
                    exact kj13 ls (lv_sub hl [1, 2, 3, 4, 6] rfl)
                  · have hf := k_T c16 hf
                    refine lv_iconst (v := 1) hx hb dL_isRing_104 (by decide) ?_
                    refine lv_goto (tgt := 109) hx hb dL_isRing_105 (by decide) ?_
                    obtain rfl := k_some hf
                    exact kj13 ls (lv_sub hl [1, 2, 3, 4, 6] rfl)
          · have hf := hj9
            refine lv_icmp_ne (tgt := 70) hx hb dL_isRing_58 (by decide) (fun c10 => ?_) (fun c10 => ?_)
            · have hf := k_F c10 hf
              refine lv_iload hx hb dL_isRing_70 (lv_at hl 0 rfl) ?_
              refine lv_iconst (v := 0) hx hb dL_isRing_72 (by decide) ?_
              obtain ⟨v11, hv11, hf⟩ := k_B hf
              refine k_callS (As := [.int v7, .int 0]) (rest := []) ⟨hx, hb, hml, hown, hts⟩ (c_L_beside l v7 0 v11 hv11) (va_cwS 2 hts gL_isRing_L_beside rfl rfl rfl hd_L_beside ⟨Nat.le_of_ble_eq_true rfl, Nat.le_of_ble_eq_true rfl⟩) rfl hl.1 rfl (Nat.le_of_ble_eq_true rfl) dL_isRing_73 ⟨Nat.zero_le _, Nat.zero_le _⟩ ?_
              obtain rfl := k_some hf
              exact kj9 ls (lv_sub hl [1, 2, 3, 4, 5, 6, 0] rfl)
            · have hf := k_T c10 hf
              refine lv_iload hx hb dL_isRing_61 (lv_at hl 0 rfl) ?_
              refine lv_iconst (v := 1) hx hb dL_isRing_63 (by decide) ?_
              obtain ⟨v12, hv12, hf⟩ := k_B hf
              refine k_callS (As := [.int v7, .int 1]) (rest := []) ⟨hx, hb, hml, hown, hts⟩ (c_L_beside l v7 1 v12 hv12) (va_cwS 2 hts gL_isRing_L_beside rfl rfl rfl hd_L_beside ⟨Nat.le_of_ble_eq_true rfl, Nat.le_of_ble_eq_true rfl⟩) rfl hl.1 rfl (Nat.le_of_ble_eq_true rfl) dL_isRing_64 ⟨Nat.zero_le _, Nat.zero_le _⟩ ?_
              refine lv_goto (tgt := 76) hx hb dL_isRing_67 (by decide) ?_
              obtain rfl := k_some hf
              exact kj9 ls (lv_sub hl [1, 2, 3, 4, 5, 6, 0] rfl)
  have L16 : ∀ (Q : State → Prop) (n : Nat) (b0 : Int32) (b1 : Int32) (s16 : Int32 × Int32) (q : (Int32 × Int32)), k_loop (t_L_isRing_16 b0 b1) n s16 = some q → ∀ (ls : Array Slot), lv_has ls 8 [(0, .int b0), (1, .int b1), (2, .int s16.1), (3, .int s16.2)] → (∀ (ls : Array Slot), True → lv_has ls 8 [(2, .int q.1)] → W p l e rm_L_isRing s m args below meth c s.heap [] 0 0 Q (F0 m 148 ls [])) → W p l e rm_L_isRing s m args below meth c s.heap [] 0 0 Q (F0 m 16 ls []) := by
    intro Q n
    induction n with
    | zero =>
      intro b0 b1 s16 q hq
      exact (k_loop0 hq).elim
    | succ n ih =>
      intro b0 b1 s16 q hq ls hl kx 
      obtain ⟨x, hf, hq⟩ := k_loopE hq
      unfold t_L_isRing_16 at hf
      refine lv_iload_n hx hb dL_isRing_16 rfl (lv_at hl 3 rfl) ?_
      refine lv_bipush (v := 12) hx hb dL_isRing_17 (by decide) ?_
      refine lv_icmp_ge (tgt := 148) hx hb dL_isRing_19 (by decide) (fun c4 => ?_) (fun c4 => ?_)
      · have hf := k_T c4 hf
        obtain rfl := k_some hf
        obtain rfl := k_some (k_inr hq)
        exact kx ls trivial (lv_sub hl [2] rfl)
      · have hf := k_F c4 hf
        refine lv_iconst (v := 0) hx hb dL_isRing_22 (by decide) ?_
        refine lv_istore (lv' := [(4, .int 0), (0, .int b0), (1, .int b1), (2, .int s16.1), (3, .int s16.2)]) hx hb dL_isRing_23 hl (by decide) rfl (fun ls hl => ?_)
        refine lv_iconst (v := 0) hx hb dL_isRing_25 (by decide) ?_
        refine lv_istore (lv' := [(5, .int 0), (4, .int 0), (0, .int b0), (1, .int b1), (2, .int s16.1), (3, .int s16.2)]) hx hb dL_isRing_26 hl (by decide) rfl (fun ls hl => ?_)
        obtain ⟨x18, hx18, hf⟩ := k_B hf
        refine L28 _ 1000 b0 b1 s16.1 s16.2 (0, 0) x18 hx18 ls (lv_sub hl [2, 3, 4, 5, 1, 0] rfl) ?_
        · intro ls _ hl
          refine lv_iload_n hx hb dL_isRing_118 rfl (lv_at hl 2 rfl) ?_
          obtain ⟨j19, hj19, hf⟩ := k_B hf
          refine k_joinP (nL := 8) (J := 141) (L := [(0, .int b0), (1, .int b1), (3, .int s16.2)]) (stk := [.int j19]) (fun ls hl => ?_) (fun kj19 => ?_)
          · refine lv_istore_n (lv' := [(2, .int j19), (0, .int b0), (1, .int b1), (3, .int s16.2)]) hx hb dL_isRing_141 rfl hl (by decide) rfl (fun ls hl => ?_)
            refine lv_iinc (v := s16.2 + 1) (lv' := [(3, .int (s16.2 + 1)), (2, .int j19), (0, .int b0), (1, .int b1)]) hx hb dL_isRing_142 hl (k := 3) rfl rfl (by decide) rfl (fun ls hl => ?_)
            refine lv_goto (tgt := 16) hx hb dL_isRing_145 (by decide) ?_
            obtain rfl := k_some hf
            exact ih b0 b1 (j19, s16.2 + 1) q (k_inl hq) ls (lv_sub hl [2, 3, 1, 0] rfl) kx 
          · have hf := hj19
            refine lv_if_eq (tgt := 140) hx hb dL_isRing_119 (by decide) (fun c20 => ?_) (fun c20 => ?_)
            · have hf := k_T c20 hf
              refine lv_iconst (v := 0) hx hb dL_isRing_140 (by decide) ?_
              obtain rfl := k_some hf
              exact kj19 ls (lv_sub hl [0, 1, 3] rfl)
            · have hf := k_F c20 hf
              refine lv_iload_n hx hb dL_isRing_122 rfl (lv_at hl 1 rfl) ?_
              refine lv_iload_n hx hb dL_isRing_123 rfl (lv_at hl 3 rfl) ?_
              refine lv_ishr hx hb dL_isRing_124 ?_
              refine lv_iconst (v := 1) hx hb dL_isRing_125 (by decide) ?_
              refine lv_iand hx hb dL_isRing_126 ?_
              refine lv_if_eq (tgt := 136) hx hb dL_isRing_127 (by decide) (fun c21 => ?_) (fun c21 => ?_)
              · have hf := k_T c21 hf
                refine lv_iconst (v := 1) hx hb dL_isRing_136 (by decide) ?_
                refine lv_goto (tgt := 141) hx hb dL_isRing_137 (by decide) ?_
                obtain rfl := k_some hf
                exact kj19 ls (lv_sub hl [0, 1, 3] rfl)
              · have hf := k_F c21 hf
                refine lv_iload hx hb dL_isRing_130 (lv_at hl 4 rfl) ?_
                refine lv_iconst (v := 2) hx hb dL_isRing_132 (by decide) ?_
                refine lv_icmp_ne (tgt := 140) hx hb dL_isRing_133 (by decide) (fun c22 => ?_) (fun c22 => ?_)
                · have hf := k_F c22 hf
                  refine lv_iconst (v := 0) hx hb dL_isRing_140 (by decide) ?_
                  obtain rfl := k_some hf
                  exact kj19 ls (lv_sub hl [0, 1, 3] rfl)
                · have hf := k_T c22 hf
                  refine lv_iconst (v := 1) hx hb dL_isRing_136 (by decide) ?_
                  refine lv_goto (tgt := 141) hx hb dL_isRing_137 (by decide) ?_
                  obtain rfl := k_some hf
                  exact kj19 ls (lv_sub hl [0, 1, 3] rfl)
  unfold f_L_isRing at hf
  refine lv_iload_n hx hb dL_isRing_0 rfl (lv_at hl 1 rfl) ?_
  obtain ⟨v1, hv1, hf⟩ := k_B hf
  refine k_callS (As := [.int a1]) (rest := []) ⟨hx, hb, hml, hown, hts⟩ (c_L_count l a1 v1 hv1) (va_cwS 1 hts gL_isRing_L_count rfl rfl rfl hd_L_count ⟨Nat.le_of_ble_eq_true rfl, Nat.le_of_ble_eq_true rfl⟩) rfl hl.1 rfl (Nat.le_of_ble_eq_true rfl) dL_isRing_1 ⟨Nat.zero_le _, Nat.zero_le _⟩ ?_
  refine lv_iconst (v := 3) hx hb dL_isRing_4 (by decide) ?_
  obtain ⟨j2, hj2, hf⟩ := k_B hf
  refine k_joinP (nL := 8) (J := 13) (L := [(0, .int a0), (1, .int a1)]) (stk := [.int j2]) (fun ls hl => ?_) (fun kj2 => ?_)
  · refine lv_istore_n (lv' := [(2, .int j2), (0, .int a0), (1, .int a1)]) hx hb dL_isRing_13 rfl hl (by decide) rfl (fun ls hl => ?_)
    refine lv_iconst (v := 0) hx hb dL_isRing_14 (by decide) ?_
    refine lv_istore_n (lv' := [(3, .int 0), (2, .int j2), (0, .int a0), (1, .int a1)]) hx hb dL_isRing_15 rfl hl (by decide) rfl (fun ls hl => ?_)
    obtain ⟨x23, hx23, hf⟩ := k_B hf
    refine L16 _ 1000 a0 a1 (j2, 0) x23 hx23 ls (lv_sub hl [2, 3, 1, 0] rfl) ?_
    · intro ls _ hl
      refine lv_iload_n hx hb dL_isRing_148 rfl (lv_at hl 0 rfl) ?_
      obtain ⟨rfl, hn⟩ := k_bool hf
      exact W.zret (v := x23.1) hx hb hr hn (fun t ht hW => ⟨rfl, ht⟩) (fun q h => absurd h List.not_mem_nil) dL_isRing_149
  · have hf := hj2
    refine lv_icmp_le (tgt := 12) hx hb dL_isRing_5 (by decide) (fun c3 => ?_) (fun c3 => ?_)
    · have hf := k_T c3 hf
      refine lv_iconst (v := 0) hx hb dL_isRing_12 (by decide) ?_
      obtain rfl := k_some hf
      exact kj2 ls (lv_sub hl [0, 1] rfl)
    · have hf := k_F c3 hf
      refine lv_iconst (v := 1) hx hb dL_isRing_8 (by decide) ?_
      refine lv_goto (tgt := 13) hx hb dL_isRing_9 (by decide) ?_
      obtain rfl := k_some hf
      exact kj2 ls (lv_sub hl [0, 1] rfl)
