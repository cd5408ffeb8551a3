def f_X8_in (a0 : Int32) (a1 : Int32) (a2 : Int32) : Option Int32 :=
  if a0 < a1 then
    some 0
  else
    if a2 < a0 then
      some 0
    else
      some 1
abbrev rm_X8_in : Room := { frames := 0, cells := 0, slots := 0, locals := 0 }
theorem hd_X8_in : yX8_in.cls ≠ "java/lang/invoke/MethodHandle" ∧ yX8_in.cls ≠ "java/lang/invoke/VarHandle" ∧ (parseMethodDescriptor yX8_in.desc).map (fun d => d.parameters.length) = some 3 := by decide +kernel
set_option maxHeartbeats 4000000 in
set_option maxRecDepth 100000 in
theorem c_X8_in (l : Launch) (a0 : Int32) (a1 : Int32) (a2 : Int32) (r : Int32) (hf : f_X8_in a0 a1 a2 = some r) : k_PMet l yX8_in wsX8_in rm_X8_in [.int a0, .int a1, .int a2] r := by
  refine k_pureOf (cc := cX8_in) (maxL := 3) (ret := (some .boolean)) (by decide) rfl (Nat.le_of_ble_eq_true rfl) ?_
  intro p e s m args below meth c ls hx hb hr hlocks hml hown hts hl
  have hl : lv_has ls 3 [(0, .int a0), (1, .int a1), (2, .int a2)] := hl
  unfold f_X8_in at hf
  refine lv_iload_n hx hb dX8_in_0 rfl (lv_at hl 0 rfl) ?_
  refine lv_iload_n hx hb dX8_in_1 rfl (lv_at hl 1 rfl) ?_
  refine lv_icmp_lt (tgt := 14) hx hb dX8_in_2 (by decide) (fun c1 => ?_) (fun c1 => ?_)
  · have hf := k_T c1 hf
    refine lv_iconst (v := 0) hx hb dX8_in_14 (by decide) ?_
    obtain rfl := k_some hf
    exact W.zret (v := 0) hx hb hr rfl (fun t ht hW => ⟨rfl, ht⟩) (fun q h => absurd h List.not_mem_nil) dX8_in_15
  · have hf := k_F c1 hf
    refine lv_iload_n hx hb dX8_in_5 rfl (lv_at hl 0 rfl) ?_
    refine lv_iload_n hx hb dX8_in_6 rfl (lv_at hl 2 rfl) ?_
    refine lv_icmp_gt (tgt := 14) hx hb dX8_in_7 (by decide) (fun c2 => ?_) (fun c2 => ?_)
    · have hf := k_T c2 hf
      refine lv_iconst (v := 0) hx hb dX8_in_14 (by decide) ?_
      obtain rfl := k_some hf
      exact W.zret (v := 0) hx hb hr rfl (fun t ht hW => ⟨rfl, ht⟩) (fun q h => absurd h List.not_mem_nil) dX8_in_15
    · have hf := k_F c2 hf
      refine lv_iconst (v := 1) hx hb dX8_in_10 (by decide) ?_
      refine lv_goto (tgt := 15) hx hb dX8_in_11 (by decide) ?_
      obtain rfl := k_some hf
      exact W.zret (v := 1) hx hb hr rfl (fun t ht hW => ⟨rfl, ht⟩) (fun q h => absurd h List.not_mem_nil) dX8_in_15
def f_X8_isFence (a0 : Int32) : Option Int32 :=
  (f_X8_in a0 0 30).bind fun v1 =>
  if v1 = 0 ∨ v1 = 1 then some v1 else none
abbrev rm_X8_isFence : Room := { frames := 1, cells := 0, slots := 0, locals := 22 }
theorem hd_X8_isFence : yX8_isFence.cls ≠ "java/lang/invoke/MethodHandle" ∧ yX8_isFence.cls ≠ "java/lang/invoke/VarHandle" ∧ (parseMethodDescriptor yX8_isFence.desc).map (fun d => d.parameters.length) = some 1 := by decide +kernel
set_option maxHeartbeats 4000000 in
set_option maxRecDepth 100000 in
theorem c_X8_isFence (l : Launch) (a0 : Int32) (r : Int32) (hf : f_X8_isFence a0 = some r) : k_PMet l yX8_isFence wsX8_isFence rm_X8_isFence [.int a0] r := by
  refine k_pureOf (cc := cX8_isFence) (maxL := 1) (ret := (some .boolean)) (by decide) rfl (Nat.le_of_ble_eq_true rfl) ?_
  intro p e s m args below meth c ls hx hb hr hlocks hml hown hts hl
  have hl : lv_has ls 1 [(0, .int a0)] := hl
  unfold f_X8_isFence at hf
  refine lv_iload_n hx hb dX8_isFence_0 rfl (lv_at hl 0 rfl) ?_
  refine lv_iconst (v := 0) hx hb dX8_isFence_1 (by decide) ?_
  refine lv_bipush (v := 30) hx hb dX8_isFence_2 (by decide) ?_
  obtain ⟨v1, hv1, hf⟩ := k_B hf
  refine k_callS (As := [.int a0, .int 0, .int 30]) (rest := []) ⟨hx, hb, hml, hown, hts⟩ (c_X8_in l a0 0 30 v1 hv1) (va_cwS 3 hts gX8_isFence_X8_in rfl rfl rfl hd_X8_in ⟨Nat.le_of_ble_eq_true rfl, Nat.le_of_ble_eq_true rfl⟩) rfl hl.1 rfl (Nat.le_of_ble_eq_true rfl) dX8_isFence_4 ⟨Nat.zero_le _, Nat.zero_le _⟩ ?_
  obtain ⟨rfl, hn⟩ := k_bool hf
  exact W.zret (v := v1) hx hb hr hn (fun t ht hW => ⟨rfl, ht⟩) (fun q h => absurd h List.not_mem_nil) dX8_isFence_7
def f_X8_isBox (a0 : Int32) : Option Int32 :=
  (f_X8_in a0 0 11).bind fun v1 =>
  if v1 = 0 ∨ v1 = 1 then some v1 else none
abbrev rm_X8_isBox : Room := { frames := 1, cells := 0, slots := 0, locals := 22 }
theorem hd_X8_isBox : yX8_isBox.cls ≠ "java/lang/invoke/MethodHandle" ∧ yX8_isBox.cls ≠ "java/lang/invoke/VarHandle" ∧ (parseMethodDescriptor yX8_isBox.desc).map (fun d => d.parameters.length) = some 1 := by decide +kernel
set_option maxHeartbeats 4000000 in
set_option maxRecDepth 100000 in
theorem c_X8_isBox (l : Launch) (a0 : Int32) (r : Int32) (hf : f_X8_isBox a0 = some r) : k_PMet l yX8_isBox wsX8_isBox rm_X8_isBox [.int a0] r := by
  refine k_pureOf (cc := cX8_isBox) (maxL := 1) (ret := (some .boolean)) (by decide) rfl (Nat.le_of_ble_eq_true rfl) ?_
  intro p e s m args below meth c ls hx hb hr hlocks hml hown hts hl
  have hl : lv_has ls 1 [(0, .int a0)] := hl
  unfold f_X8_isBox at hf
  refine lv_iload_n hx hb dX8_isBox_0 rfl (lv_at hl 0 rfl) ?_
  refine lv_iconst (v := 0) hx hb dX8_isBox_1 (by decide) ?_
  refine lv_bipush (v := 11) hx hb dX8_isBox_2 (by decide) ?_
  obtain ⟨v1, hv1, hf⟩ := k_B hf
  refine k_callS (As := [.int a0, .int 0, .int 11]) (rest := []) ⟨hx, hb, hml, hown, hts⟩ (c_X8_in l a0 0 11 v1 hv1) (va_cwS 3 hts gX8_isBox_X8_in rfl rfl rfl hd_X8_in ⟨Nat.le_of_ble_eq_true rfl, Nat.le_of_ble_eq_true rfl⟩) rfl hl.1 rfl (Nat.le_of_ble_eq_true rfl) dX8_isBox_4 ⟨Nat.zero_le _, Nat.zero_le _⟩ ?_
  obtain ⟨rfl, hn⟩ := k_bool hf
  exact W.zret (v := v1) hx hb hr hn (fun t ht hW => ⟨rfl, ht⟩) (fun q h => absurd h List.not_mem_nil) dX8_isBox_7
def f_X8_isIn (a0 : Int32) (a1 : Int32) : Option Int32 :=
  if ((a0 >>> (a1 &&& 31)) &&& 1) = 1 then
    some 1
  else
    some 0
abbrev rm_X8_isIn : Room := { frames := 0, cells := 0, slots := 0, locals := 0 }
theorem hd_X8_isIn : yX8_isIn.cls ≠ "java/lang/invoke/MethodHandle" ∧ yX8_isIn.cls ≠ "java/lang/invoke/VarHandle" ∧ (parseMethodDescriptor yX8_isIn.desc).map (fun d => d.parameters.length) = some 2 := by decide +kernel
set_option maxHeartbeats 4000000 in
set_option maxRecDepth 100000 in
theorem c_X8_isIn (l : Launch) (a0 : Int32) (a1 : Int32) (r : Int32) (hf : f_X8_isIn a0 a1 = some r) : k_PMet l yX8_isIn wsX8_isIn rm_X8_isIn [.int a0, .int a1] r := by
  refine k_pureOf (cc := cX8_isIn) (maxL := 2) (ret := (some .boolean)) (by decide) rfl (Nat.le_of_ble_eq_true rfl) ?_
  intro p e s m args below meth c ls hx hb hr hlocks hml hown hts hl
  have hl : lv_has ls 2 [(0, .int a0), (1, .int a1)] := hl
  unfold f_X8_isIn at hf
  refine lv_iload_n hx hb dX8_isIn_0 rfl (lv_at hl 0 rfl) ?_
  refine lv_iload_n hx hb dX8_isIn_1 rfl (lv_at hl 1 rfl) ?_
  refine lv_ishr hx hb dX8_isIn_2 ?_
  refine lv_iconst (v := 1) hx hb dX8_isIn_3 (by decide) ?_
  refine lv_iand hx hb dX8_isIn_4 ?_
  refine lv_iconst (v := 1) hx hb dX8_isIn_5 (by decide) ?_
  refine lv_icmp_ne (tgt := 13) hx hb dX8_isIn_6 (by decide) (fun c1 => ?_) (fun c1 => ?_)
  · have hf := k_F c1 hf
    refine lv_iconst (v := 0) hx hb dX8_isIn_13 (by decide) ?_
    obtain rfl := k_some hf
    exact W.zret (v := 0) hx hb hr rfl (fun t ht hW => ⟨rfl, ht⟩) (fun q h => absurd h List.not_mem_nil) dX8_isIn_14
  · have hf := k_T c1 hf
    refine lv_iconst (v := 1) hx hb dX8_isIn_9 (by decide) ?_
    refine lv_goto (tgt := 14) hx hb dX8_isIn_10 (by decide) ?_
    obtain rfl := k_some hf
    exact W.zret (v := 1) hx hb hr rfl (fun t ht hW => ⟨rfl, ht⟩) (fun q h => absurd h List.not_mem_nil) dX8_isIn_14
def f_X8_around (a0 : Int32) : Option Int32 :=
  k_let (((16 : Int32) + ((5 : Int32) * (a0 / 4))) + (a0 - a0 / 4 * 4)) fun y1 =>
  some (((((1 : Int32) <<< (a0 &&& 31)) ||| ((1 : Int32) <<< ((a0 + 4) &&& 31))) ||| ((1 : Int32) <<< (y1 &&& 31))) ||| ((1 : Int32) <<< ((y1 + 1) &&& 31)))
abbrev rm_X8_around : Room := { frames := 0, cells := 0, slots := 0, locals := 0 }
theorem hd_X8_around : yX8_around.cls ≠ "java/lang/invoke/MethodHandle" ∧ yX8_around.cls ≠ "java/lang/invoke/VarHandle" ∧ (parseMethodDescriptor yX8_around.desc).map (fun d => d.parameters.length) = some 1 := by decide +kernel
set_option maxHeartbeats 4000000 in
set_option maxRecDepth 100000 in
theorem c_X8_around (l : Launch) (a0 : Int32) (r : Int32) (hf : f_X8_around a0 = some r) : k_PMet l yX8_around wsX8_around rm_X8_around [.int a0] r := by
  refine k_pureOf (cc := cX8_around) (maxL := 2) (ret := (some .int)) (by decide) rfl (Nat.le_of_ble_eq_true rfl) ?_
  intro p e s m args below meth c ls hx hb hr hlocks hml hown hts hl
  have hl : lv_has ls 2 [(0, .int a0)] := hl
  unfold f_X8_around at hf
  refine lv_bipush (v := 16) hx hb dX8_around_0 (by decide) ?_
  refine lv_iconst (v := 5) hx hb dX8_around_2 (by decide) ?_
  refine lv_iload_n hx hb dX8_around_3 rfl (lv_at hl 0 rfl) ?_
  refine lv_iconst (v := 4) hx hb dX8_around_4 (by decide) ?_
  refine lv_idiv hx hb dX8_around_5 (by decide) ?_
  refine lv_imul hx hb dX8_around_6 ?_
  refine lv_iadd hx hb dX8_around_7 ?_
  refine lv_iload_n hx hb dX8_around_8 rfl (lv_at hl 0 rfl) ?_
  refine lv_iconst (v := 4) hx hb dX8_around_9 (by decide) ?_
  refine lv_irem hx hb dX8_around_10 (by decide) ?_
  refine lv_iadd hx hb dX8_around_11 ?_
  obtain ⟨y1, ey1, hf⟩ := k_L hf
  refine k_name ey1 ?_
  refine lv_istore_n (lv' := [(1, .int y1), (0, .int a0)]) hx hb dX8_around_12 rfl hl (by decide) rfl (fun ls hl => ?_)
  refine lv_iconst (v := 1) hx hb dX8_around_13 (by decide) ?_
  refine lv_iload_n hx hb dX8_around_14 rfl (lv_at hl 1 rfl) ?_
  refine lv_ishl hx hb dX8_around_15 ?_
  refine lv_iconst (v := 1) hx hb dX8_around_16 (by decide) ?_
  refine lv_iload_n hx hb dX8_around_17 rfl (lv_at hl 1 rfl) ?_
  refine lv_iconst (v := 4) hx hb dX8_around_18 (by decide) ?_
  refine lv_iadd hx hb dX8_around_19 ?_
  refine lv_ishl hx hb dX8_around_20 ?_
  refine lv_ior hx hb dX8_around_21 ?_
  refine lv_iconst (v := 1) hx hb dX8_around_22 (by decide) ?_
  refine lv_iload_n hx hb dX8_around_23 rfl (lv_at hl 0 rfl) ?_
  refine lv_ishl hx hb dX8_around_24 ?_
  refine lv_ior hx hb dX8_around_25 ?_
  refine lv_iconst (v := 1) hx hb dX8_around_26 (by decide) ?_
  refine lv_iload_n hx hb dX8_around_27 rfl (lv_at hl 0 rfl) ?_
  refine lv_iconst (v := 1) hx hb dX8_around_28 (by decide) ?_
  refine lv_iadd hx hb dX8_around_29 ?_
  refine lv_ishl hx hb dX8_around_30 ?_
  refine lv_ior hx hb dX8_around_31 ?_
  obtain rfl := k_some hf
  exact W.iret (v := ((((1 : Int32) <<< (a0 &&& 31)) ||| ((1 : Int32) <<< ((a0 + 4) &&& 31))) ||| ((1 : Int32) <<< (y1 &&& 31))) ||| ((1 : Int32) <<< ((y1 + 1) &&& 31))) hx hb hr (fun t ht hW => ⟨rfl, ht⟩) (fun q h => absurd h List.not_mem_nil) dX8_around_32
def t_X8_count_4 (b0 : Int32) (s4 : Int32 × Int32) : Option ((Int32 × Int32) ⊕ (Int32 × Int32)) :=
  if 31 ≤ s4.2 then
    some (.inr (s4.1, s4.2))
  else
    k_let (s4.1 + ((b0 >>> (s4.2 &&& 31)) &&& 1)) fun y2 =>
    some (.inl (y2, s4.2 + 1))
def f_X8_count (a0 : Int32) : Option Int32 :=
  (k_loop (t_X8_count_4 a0) 1000 (0, 0)).bind fun x3 =>
  some x3.1
abbrev rm_X8_count : Room := { frames := 0, cells := 0, slots := 0, locals := 0 }
theorem hd_X8_count : yX8_count.cls ≠ "java/lang/invoke/MethodHandle" ∧ yX8_count.cls ≠ "java/lang/invoke/VarHandle" ∧ (parseMethodDescriptor yX8_count.desc).map (fun d => d.parameters.length) = some 1 := by decide +kernel
set_option maxHeartbeats 4000000 in
set_option maxRecDepth 100000 in
theorem c_X8_count (l : Launch) (a0 : Int32) (r : Int32) (hf : f_X8_count a0 = some r) : k_PMet l yX8_count wsX8_count rm_X8_count [.int a0] r := by
  refine k_pureOf (cc := cX8_count) (maxL := 3) (ret := (some .int)) (by decide) rfl (Nat.le_of_ble_eq_true rfl) ?_
  intro p e s m args below meth c ls hx hb hr hlocks hml hown hts hl
  have hl : lv_has ls 3 [(0, .int a0)] := hl
  have L4 : ∀ (Q : State → Prop) (n : Nat) (b0 : Int32) (s4 : Int32 × Int32) (q : (Int32 × Int32)), k_loop (t_X8_count_4 b0) n s4 = some q → ∀ (ls : Array Slot), lv_has ls 3 [(0, .int b0), (1, .int s4.1), (2, .int s4.2)] → (∀ (ls : Array Slot), True → lv_has ls 3 [(1, .int q.1)] → W p l e rm_X8_count s m args below meth c s.heap [] 0 0 Q (F0 m 24 ls [])) → W p l e rm_X8_count s m args below meth c s.heap [] 0 0 Q (F0 m 4 ls []) := by
    intro Q n
    induction n with
    | zero =>
      intro b0 s4 q hq
      exact (k_loop0 hq).elim
    | succ n ih =>
      intro b0 s4 q hq ls hl kx 
      obtain ⟨x, hf, hq⟩ := k_loopE hq
      unfold t_X8_count_4 at hf
      refine lv_iload_n hx hb dX8_count_4 rfl (lv_at hl 2 rfl) ?_
      refine lv_bipush (v := 31) hx hb dX8_count_5 (by decide) ?_
      refine lv_icmp_ge (tgt := 24) hx hb dX8_count_7 (by decide) (fun c1 => ?_) (fun c1 => ?_)
      · have hf := k_T c1 hf
        obtain rfl := k_some hf
        obtain rfl := k_some (k_inr hq)
        exact kx ls trivial (lv_sub hl [1] rfl)
      · have hf := k_F c1 hf
        refine lv_iload_n hx hb dX8_count_10 rfl (lv_at hl 1 rfl) ?_
        refine lv_iload_n hx hb dX8_count_11 rfl (lv_at hl 0 rfl) ?_
        refine lv_iload_n hx hb dX8_count_12 rfl (lv_at hl 2 rfl) ?_
        refine lv_ishr hx hb dX8_count_13 ?_
        refine lv_iconst (v := 1) hx hb dX8_count_14 (by decide) ?_
        refine lv_iand hx hb dX8_count_15 ?_
        refine lv_iadd hx hb dX8_count_16 ?_
        obtain ⟨y2, ey2, hf⟩ := k_L hf
        refine k_name ey2 ?_
        refine lv_istore_n (lv' := [(1, .int y2), (0, .int b0), (2, .int s4.2)]) hx hb dX8_count_17 rfl hl (by decide) rfl (fun ls hl => ?_)
        refine lv_iinc (v := s4.2 + 1) (lv' := [(2, .int (s4.2 + 1)), (1, .int y2), (0, .int b0)]) hx hb dX8_count_18 hl (k := 2) rfl rfl (by decide) rfl (fun ls hl => ?_)
        refine lv_goto (tgt := 4) hx hb dX8_count_21 (by decide) ?_
        obtain rfl := k_some hf
        exact ih b0 (y2, s4.2 + 1) q (k_inl hq) ls (lv_sub hl [2, 1, 0] rfl) kx 
  unfold f_X8_count at hf
  refine lv_iconst (v := 0) hx hb dX8_count_0 (by decide) ?_
  refine lv_istore_n (lv' := [(1, .int 0), (0, .int a0)]) hx hb dX8_count_1 rfl hl (by decide) rfl (fun ls hl => ?_)
  refine lv_iconst (v := 0) hx hb dX8_count_2 (by decide) ?_
  refine lv_istore_n (lv' := [(2, .int 0), (1, .int 0), (0, .int a0)]) hx hb dX8_count_3 rfl hl (by decide) rfl (fun ls hl => ?_)
  obtain ⟨x3, hx3, hf⟩ := k_B hf
  refine L4 _ 1000 a0 (0, 0) x3 hx3 ls (lv_sub hl [2, 1, 0] rfl) ?_
  · intro ls _ hl
    refine lv_iload_n hx hb dX8_count_24 rfl (lv_at hl 0 rfl) ?_
    obtain rfl := k_some hf
    exact W.iret (v := x3.1) hx hb hr (fun t ht hW => ⟨rfl, ht⟩) (fun q h => absurd h List.not_mem_nil) dX8_count_25
def f_X8_has (a0 : Int32) (a1 : Int32) : Option Int32 :=
  (f_X8_around a1).bind fun v1 =>
  (f_X8_count (a0 &&& v1)).bind fun v2 =>
  some v2
abbrev rm_X8_has : Room := { frames := 1, cells := 0, slots := 0, locals := 22 }
theorem hd_X8_has : yX8_has.cls ≠ "java/lang/invoke/MethodHandle" ∧ yX8_has.cls ≠ "java/lang/invoke/VarHandle" ∧ (parseMethodDescriptor yX8_has.desc).map (fun d => d.parameters.length) = some 2 := by decide +kernel
set_option maxHeartbeats 4000000 in
set_option maxRecDepth 100000 in
theorem c_X8_has (l : Launch) (a0 : Int32) (a1 : Int32) (r : Int32) (hf : f_X8_has a0 a1 = some r) : k_PMet l yX8_has wsX8_has rm_X8_has [.int a0, .int a1] r := by
  refine k_pureOf (cc := cX8_has) (maxL := 2) (ret := (some .int)) (by decide) rfl (Nat.le_of_ble_eq_true rfl) ?_
  intro p e s m args below meth c ls hx hb hr hlocks hml hown hts hl
  have hl : lv_has ls 2 [(0, .int a0), (1, .int a1)] := hl
  unfold f_X8_has at hf
  refine lv_iload_n hx hb dX8_has_0 rfl (lv_at hl 0 rfl) ?_
  refine lv_iload_n hx hb dX8_has_1 rfl (lv_at hl 1 rfl) ?_
  obtain ⟨v1, hv1, hf⟩ := k_B hf
  refine k_callS (As := [.int a1]) (rest := [.int a0]) ⟨hx, hb, hml, hown, hts⟩ (c_X8_around l a1 v1 hv1) (va_cwS 1 hts gX8_has_X8_around rfl rfl rfl hd_X8_around ⟨Nat.le_of_ble_eq_true rfl, Nat.le_of_ble_eq_true rfl⟩) rfl hl.1 rfl (Nat.le_of_ble_eq_true rfl) dX8_has_2 ⟨Nat.zero_le _, Nat.zero_le _⟩ ?_
  refine lv_iand hx hb dX8_has_5 ?_
  obtain ⟨v2, hv2, hf⟩ := k_B hf
  refine k_callS (As := [.int (a0 &&& v1)]) (rest := []) ⟨hx, hb, hml, hown, hts⟩ (c_X8_count l (a0 &&& v1) v2 hv2) (va_cwS 1 hts gX8_has_X8_count rfl rfl rfl hd_X8_count ⟨Nat.le_of_ble_eq_true rfl, Nat.le_of_ble_eq_true rfl⟩) rfl hl.1 rfl (Nat.le_of_ble_eq_true rfl) dX8_has_6 ⟨Nat.zero_le _, Nat.zero_le _⟩ ?_
  obtain rfl := k_some hf
  exact W.iret (v := v2) hx hb hr (fun t ht hW => ⟨rfl, ht⟩) (fun q h => absurd h List.not_mem_nil) dX8_has_9
def f_X8_isBeside (a0 : Int32) (a1 : Int32) : Option Int32 :=
  (f_X8_around a1).bind fun v1 =>
  (f_X8_isIn v1 a0).bind fun v2 =>
  if v2 = 0 ∨ v2 = 1 then some v2 else none
abbrev rm_X8_isBeside : Room := { frames := 1, cells := 0, slots := 0, locals := 21 }
theorem hd_X8_isBeside : yX8_isBeside.cls ≠ "java/lang/invoke/MethodHandle" ∧ yX8_isBeside.cls ≠ "java/lang/invoke/VarHandle" ∧ (parseMethodDescriptor yX8_isBeside.desc).map (fun d => d.parameters.length) = some 2 := by decide +kernel
set_option maxHeartbeats 4000000 in
set_option maxRecDepth 100000 in
theorem c_X8_isBeside (l : Launch) (a0 : Int32) (a1 : Int32) (r : Int32) (hf : f_X8_isBeside a0 a1 = some r) : k_PMet l yX8_isBeside wsX8_isBeside rm_X8_isBeside [.int a0, .int a1] r := by
  refine k_pureOf (cc := cX8_isBeside) (maxL := 2) (ret := (some .boolean)) (by decide) rfl (Nat.le_of_ble_eq_true rfl) ?_
  intro p e s m args below meth c ls hx hb hr hlocks hml hown hts hl
  have hl : lv_has ls 2 [(0, .int a0), (1, .int a1)] := hl
  unfold f_X8_isBeside at hf
  refine lv_iload_n hx hb dX8_isBeside_0 rfl (lv_at hl 1 rfl) ?_
  obtain ⟨v1, hv1, hf⟩ := k_B hf
  refine k_callS (As := [.int a1]) (rest := []) ⟨hx, hb, hml, hown, hts⟩ (c_X8_around l a1 v1 hv1) (va_cwS 1 hts gX8_isBeside_X8_around rfl rfl rfl hd_X8_around ⟨Nat.le_of_ble_eq_true rfl, Nat.le_of_ble_eq_true rfl⟩) rfl hl.1 rfl (Nat.le_of_ble_eq_true rfl) dX8_isBeside_1 ⟨Nat.zero_le _, Nat.zero_le _⟩ ?_
  refine lv_iload_n hx hb dX8_isBeside_4 rfl (lv_at hl 0 rfl) ?_
  obtain ⟨v2, hv2, hf⟩ := k_B hf
  refine k_callS (As := [.int v1, .int a0]) (rest := []) ⟨hx, hb, hml, hown, hts⟩ (c_X8_isIn l v1 a0 v2 hv2) (va_cwS 2 hts gX8_isBeside_X8_isIn rfl rfl rfl hd_X8_isIn ⟨Nat.le_of_ble_eq_true rfl, Nat.le_of_ble_eq_true rfl⟩) rfl hl.1 rfl (Nat.le_of_ble_eq_true rfl) dX8_isBeside_5 ⟨Nat.zero_le _, Nat.zero_le _⟩ ?_
  obtain ⟨rfl, hn⟩ := k_bool hf
  exact W.zret (v := v2) hx hb hr hn (fun t ht hW => ⟨rfl, ht⟩) (fun q h => absurd h List.not_mem_nil) dX8_isBeside_8
def t_X8_closes_4 (b0 : Int32) (b1 : Int32) (s4 : Int32 × Int32) : Option ((Int32 × Int32) ⊕ (Int32 × Int32)) :=
  if 12 ≤ s4.2 then
    some (.inr (s4.1, s4.2))
  else
    (f_X8_isBeside b1 s4.2).bind fun v2 =>
    if v2 = 0 then
      k_let (s4.1 + 0) fun y4 =>
      some (.inl (y4, s4.2 + 1))
    else
      (f_X8_has b0 s4.2).bind fun v5 =>
      if v5 = 3 then
        k_let (s4.1 + 1) fun y8 =>
        some (.inl (y8, s4.2 + 1))
      else
        k_let (s4.1 + 0) fun y7 =>
        some (.inl (y7, s4.2 + 1))
def f_X8_closes (a0 : Int32) (a1 : Int32) : Option Int32 :=
  (k_loop (t_X8_closes_4 a0 a1) 1000 (0, 0)).bind fun x9 =>
  some x9.1
abbrev rm_X8_closes : Room := { frames := 2, cells := 0, slots := 0, locals := 43 }
theorem hd_X8_closes : yX8_closes.cls ≠ "java/lang/invoke/MethodHandle" ∧ yX8_closes.cls ≠ "java/lang/invoke/VarHandle" ∧ (parseMethodDescriptor yX8_closes.desc).map (fun d => d.parameters.length) = some 2 := by decide +kernel
set_option maxHeartbeats 4000000 in
set_option maxRecDepth 100000 in
theorem c_X8_closes (l : Launch) (a0 : Int32) (a1 : Int32) (r : Int32) (hf : f_X8_closes a0 a1 = some r) : k_PMet l yX8_closes wsX8_closes rm_X8_closes [.int a0, .int a1] r := by
  refine k_pureOf (cc := cX8_closes) (maxL := 4) (ret := (some .int)) (by decide) rfl (Nat.le_of_ble_eq_true rfl) ?_
  intro p e s m args below meth c ls hx hb hr hlocks hml hown hts hl
  have hl : lv_has ls 4 [(0, .int a0), (1, .int a1)] := hl
  have L4 : ∀ (Q : State → Prop) (n : Nat) (b0 : Int32) (b1 : Int32) (s4 : Int32 × Int32) (q : (Int32 × Int32)), k_loop (t_X8_closes_4 b0 b1) n s4 = some q → ∀ (ls : Array Slot), lv_has ls 4 [(0, .int b0), (1, .int b1), (2, .int s4.1), (3, .int s4.2)] → (∀ (ls : Array Slot), True → lv_has ls 4 [(2, .int q.1)] → W p l e rm_X8_closes s m args below meth c s.heap [] 0 0 Q (F0 m 41 ls [])) → W p l e rm_X8_closes s m args below meth c s.heap [] 0 0 Q (F0 m 4 ls []) := by
    intro Q n
    induction n with
    | zero =>
      intro b0 b1 s4 q hq
      exact (k_loop0 hq).elim
    | succ n ih =>
      intro b0 b1 s4 q hq ls hl kx 
      obtain ⟨x, hf, hq⟩ := k_loopE hq
      unfold t_X8_closes_4 at hf
      refine lv_iload_n hx hb dX8_closes_4 rfl (lv_at hl 3 rfl) ?_
      refine lv_bipush (v := 12) hx hb dX8_closes_5 (by decide) ?_
      refine lv_icmp_ge (tgt := 41) hx hb dX8_closes_7 (by decide) (fun c1 => ?_) (fun c1 => ?_)
      · have hf := k_T c1 hf
        obtain rfl := k_some hf
        obtain rfl := k_some (k_inr hq)
        exact kx ls trivial (lv_sub hl [2] rfl)
      · have hf := k_F c1 hf
        refine lv_iload_n hx hb dX8_closes_10 rfl (lv_at hl 2 rfl) ?_
        refine lv_iload_n hx hb dX8_closes_11 rfl (lv_at hl 1 rfl) ?_
        refine lv_iload_n hx hb dX8_closes_12 rfl (lv_at hl 3 rfl) ?_
        obtain ⟨v2, hv2, hf⟩ := k_B hf
        refine k_callS (As := [.int b1, .int s4.2]) (rest := [.int s4.1]) ⟨hx, hb, hml, hown, hts⟩ (c_X8_isBeside l b1 s4.2 v2 hv2) (va_cwS 2 hts gX8_closes_X8_isBeside rfl rfl rfl hd_X8_isBeside ⟨Nat.le_of_ble_eq_true rfl, Nat.le_of_ble_eq_true rfl⟩) rfl hl.1 rfl (Nat.le_of_ble_eq_true rfl) dX8_closes_13 ⟨Nat.zero_le _, Nat.zero_le _⟩ ?_
        refine lv_if_eq (tgt := 32) hx hb dX8_closes_16 (by decide) (fun c3 => ?_) (fun c3 => ?_)
        · have hf := k_T c3 hf
          refine lv_iconst (v := 0) hx hb dX8_closes_32 (by decide) ?_
          refine lv_iadd hx hb dX8_closes_33 ?_
          obtain ⟨y4, ey4, hf⟩ := k_L hf
          refine k_name ey4 ?_
          refine lv_istore_n (lv' := [(2, .int y4), (0, .int b0), (1, .int b1), (3, .int s4.2)]) hx hb dX8_closes_34 rfl hl (by decide) rfl (fun ls hl => ?_)
          refine lv_iinc (v := s4.2 + 1) (lv' := [(3, .int (s4.2 + 1)), (2, .int y4), (0, .int b0), (1, .int b1)]) hx hb dX8_closes_35 hl (k := 3) rfl rfl (by decide) rfl (fun ls hl => ?_)
          refine lv_goto (tgt := 4) hx hb dX8_closes_38 (by decide) ?_
          obtain rfl := k_some hf
          exact ih b0 b1 (y4, s4.2 + 1) q (k_inl hq) ls (lv_sub hl [2, 3, 1, 0] rfl) kx 
        · have hf := k_F c3 hf
          refine lv_iload_n hx hb dX8_closes_19 rfl (lv_at hl 0 rfl) ?_
          refine lv_iload_n hx hb dX8_closes_20 rfl (lv_at hl 3 rfl) ?_
          obtain ⟨v5, hv5, hf⟩ := k_B hf
          refine k_callS (As := [.int b0, .int s4.2]) (rest := [.int s4.1]) ⟨hx, hb, hml, hown, hts⟩ (c_X8_has l b0 s4.2 v5 hv5) (va_cwS 2 hts gX8_closes_X8_has rfl rfl rfl hd_X8_has ⟨Nat.le_of_ble_eq_true rfl, Nat.le_of_ble_eq_true rfl⟩) rfl hl.1 rfl (Nat.le_of_ble_eq_true rfl) dX8_closes_21 ⟨Nat.zero_le _, Nat.zero_le _⟩ ?_
          refine lv_iconst (v := 3) hx hb dX8_closes_24 (by decide) ?_
          refine lv_icmp_ne (tgt := 32) hx hb dX8_closes_25 (by decide) (fun c6 => ?_) (fun c6 => ?_)
          · have hf := k_F c6 hf
            refine lv_iconst (v := 0) hx hb dX8_closes_32 (by decide) ?_
            refine lv_iadd hx hb dX8_closes_33 ?_
            obtain ⟨y7, ey7, hf⟩ := k_L hf
            refine k_name ey7 ?_
            refine lv_istore_n (lv' := [(2, .int y7), (0, .int b0), (1, .int b1), (3, .int s4.2)]) hx hb dX8_closes_34 rfl hl (by decide) rfl (fun ls hl => ?_)
            refine lv_iinc (v := s4.2 + 1) (lv' := [(3, .int (s4.2 + 1)), (2, .int y7), (0, .int b0), (1, .int b1)]) hx hb dX8_closes_35 hl (k := 3) rfl rfl (by decide) rfl (fun ls hl => ?_)
            refine lv_goto (tgt := 4) hx hb dX8_closes_38 (by decide) ?_
            obtain rfl := k_some hf
            exact ih b0 b1 (y7, s4.2 + 1) q (k_inl hq) ls (lv_sub hl [2, 3, 1, 0] rfl) kx 
          · have hf := k_T c6 hf
            refine lv_iconst (v := 1) hx hb dX8_closes_28 (by decide) ?_
            refine lv_goto (tgt := 33) hx hb dX8_closes_29 (by decide) ?_
            refine lv_iadd hx hb dX8_closes_33 ?_
            obtain ⟨y8, ey8, hf⟩ := k_L hf
            refine k_name ey8 ?_
            refine lv_istore_n (lv' := [(2, .int y8), (0, .int b0), (1, .int b1), (3, .int s4.2)]) hx hb dX8_closes_34 rfl hl (by decide) rfl (fun ls hl => ?_)
            refine lv_iinc (v := s4.2 + 1) (lv' := [(3, .int (s4.2 + 1)), (2, .int y8), (0, .int b0), (1, .int b1)]) hx hb dX8_closes_35 hl (k := 3) rfl rfl (by decide) rfl (fun ls hl => ?_)
            refine lv_goto (tgt := 4) hx hb dX8_closes_38 (by decide) ?_
            obtain rfl := k_some hf
            exact ih b0 b1 (y8, s4.2 + 1) q (k_inl hq) ls (lv_sub hl [2, 3, 1, 0] rfl) kx 
  unfold f_X8_closes at hf
  refine lv_iconst (v := 0) hx hb dX8_closes_0 (by decide) ?_
  refine lv_istore_n (lv' := [(2, .int 0), (0, .int a0), (1, .int a1)]) hx hb dX8_closes_1 rfl hl (by decide) rfl (fun ls hl => ?_)
  refine lv_iconst (v := 0) hx hb dX8_closes_2 (by decide) ?_
  refine lv_istore_n (lv' := [(3, .int 0), (2, .int 0), (0, .int a0), (1, .int a1)]) hx hb dX8_closes_3 rfl hl (by decide) rfl (fun ls hl => ?_)
  obtain ⟨x9, hx9, hf⟩ := k_B hf
  refine L4 _ 1000 a0 a1 (0, 0) x9 hx9 ls (lv_sub hl [2, 3, 1, 0] rfl) ?_
  · intro ls _ hl
    refine lv_iload_n hx hb dX8_closes_41 rfl (lv_at hl 0 rfl) ?_
    obtain rfl := k_some hf
    exact W.iret (v := x9.1) hx hb hr (fun t ht hW => ⟨rfl, ht⟩) (fun q h => absurd h List.not_mem_nil) dX8_closes_42
def t_X8_taking_2 (b0 : Int32) (s2 : Int32) : Option ((Int32) ⊕ ((Int32) ⊕ Int32)) :=
  if 31 ≤ s2 then
    some (.inr (.inl s2))
  else
    (f_X8_isIn b0 s2).bind fun v2 =>
    if v2 = 0 then
      (f_X8_closes b0 s2).bind fun v4 =>
      if v4 ≤ 0 then
        some (.inl (s2 + 1))
      else
        some (.inr (.inr s2))
    else
      some (.inl (s2 + 1))
def f_X8_taking (a0 : Int32) : Option Int32 :=
  (k_loop (t_X8_taking_2 a0) 1000 0).bind fun x6 =>
  Sum.elim (fun z7 =>
    some (-1)
  ) (fun r8 => some r8) x6
abbrev rm_X8_taking : Room := { frames := 3, cells := 0, slots := 0, locals := 66 }
theorem hd_X8_taking : yX8_taking.cls ≠ "java/lang/invoke/MethodHandle" ∧ yX8_taking.cls ≠ "java/lang/invoke/VarHandle" ∧ (parseMethodDescriptor yX8_taking.desc).map (fun d => d.parameters.length) = some 1 := by decide +kernel
set_option maxHeartbeats 4000000 in
set_option maxRecDepth 100000 in
theorem c_X8_taking (l : Launch) (a0 : Int32) (r : Int32) (hf : f_X8_taking a0 = some r) : k_PMet l yX8_taking wsX8_taking rm_X8_taking [.int a0] r := by
  refine k_pureOf (cc := cX8_taking) (maxL := 2) (ret := (some .int)) (by decide) rfl (Nat.le_of_ble_eq_true rfl) ?_
  intro p e s m args below meth c ls hx hb hr hlocks hml hown hts hl
  have hl : lv_has ls 2 [(0, .int a0)] := hl
  have L2 : ∀ (Q : State → Prop) (n : Nat) (b0 : Int32) (s2 : Int32) (q : ((Int32) ⊕ Int32)), k_loop (t_X8_taking_2 b0) n s2 = some q → ∀ (ls : Array Slot), lv_has ls 2 [(0, .int b0), (1, .int s2)] → (∀ (ls : Array Slot) (x : Int32), q = .inl x → lv_has ls 2 [] → W p l e rm_X8_taking s m args below meth c s.heap [] 0 0 Q (F0 m 32 ls [])) → (∀ (ls : Array Slot) (rr : Int32), q = .inr rr → ls.size = 2 → W p l e rm_X8_taking s m args below meth c s.heap [] 0 0 Q (F0 m 25 ls [.int rr])) → W p l e rm_X8_taking s m args below meth c s.heap [] 0 0 Q (F0 m 2 ls []) := by
    intro Q n
    induction n with
    | zero =>
      intro b0 s2 q hq
      exact (k_loop0 hq).elim
    | succ n ih =>
      intro b0 s2 q hq ls hl kx kr25
      obtain ⟨x, hf, hq⟩ := k_loopE hq
      unfold t_X8_taking_2 at hf
      refine lv_iload_n hx hb dX8_taking_2 rfl (lv_at hl 1 rfl) ?_
      refine lv_bipush (v := 31) hx hb dX8_taking_3 (by decide) ?_
      refine lv_icmp_ge (tgt := 32) hx hb dX8_taking_5 (by decide) (fun c1 => ?_) (fun c1 => ?_)
      · have hf := k_T c1 hf
        obtain rfl := k_some hf
        obtain rfl := k_some (k_inr hq)
        exact kx ls s2 rfl (lv_sub hl [] rfl)
      · have hf := k_F c1 hf
        refine lv_iload_n hx hb dX8_taking_8 rfl (lv_at hl 0 rfl) ?_
        refine lv_iload_n hx hb dX8_taking_9 rfl (lv_at hl 1 rfl) ?_
        obtain ⟨v2, hv2, hf⟩ := k_B hf
        refine k_callS (As := [.int b0, .int s2]) (rest := []) ⟨hx, hb, hml, hown, hts⟩ (c_X8_isIn l b0 s2 v2 hv2) (va_cwS 2 hts gX8_taking_X8_isIn rfl rfl rfl hd_X8_isIn ⟨Nat.le_of_ble_eq_true rfl, Nat.le_of_ble_eq_true rfl⟩) rfl hl.1 rfl (Nat.le_of_ble_eq_true rfl) dX8_taking_10 ⟨Nat.zero_le _, Nat.zero_le _⟩ ?_
        refine lv_if_ne (tgt := 26) hx hb dX8_taking_13 (by decide) (fun c3 => ?_) (fun c3 => ?_)
        · have hf := k_F c3 hf
          refine lv_iinc (v := s2 + 1) (lv' := [(1, .int (s2 + 1)), (0, .int b0)]) hx hb dX8_taking_26 hl (k := 1) rfl rfl (by decide) rfl (fun ls hl => ?_)
          refine lv_goto (tgt := 2) hx hb dX8_taking_29 (by decide) ?_
          obtain rfl := k_some hf
          exact ih b0 (s2 + 1) q (k_inl hq) ls (lv_sub hl [1, 0] rfl) kx kr25
        · have hf := k_T c3 hf
          refine lv_iload_n hx hb dX8_taking_16 rfl (lv_at hl 0 rfl) ?_
          refine lv_iload_n hx hb dX8_taking_17 rfl (lv_at hl 1 rfl) ?_
          obtain ⟨v4, hv4, hf⟩ := k_B hf
          refine k_callS (As := [.int b0, .int s2]) (rest := []) ⟨hx, hb, hml, hown, hts⟩ (c_X8_closes l b0 s2 v4 hv4) (va_cwS 2 hts gX8_taking_X8_closes rfl rfl rfl hd_X8_closes ⟨Nat.le_of_ble_eq_true rfl, Nat.le_of_ble_eq_true rfl⟩) rfl hl.1 rfl (Nat.le_of_ble_eq_true rfl) dX8_taking_18 ⟨Nat.zero_le _, Nat.zero_le _⟩ ?_
          refine lv_if_le (tgt := 26) hx hb dX8_taking_21 (by decide) (fun c5 => ?_) (fun c5 => ?_)
          · have hf := k_T c5 hf
            refine lv_iinc (v := s2 + 1) (lv' := [(1, .int (s2 + 1)), (0, .int b0)]) hx hb dX8_taking_26 hl (k := 1) rfl rfl (by decide) rfl (fun ls hl => ?_)
            refine lv_goto (tgt := 2) hx hb dX8_taking_29 (by decide) ?_
            obtain rfl := k_some hf
            exact ih b0 (s2 + 1) q (k_inl hq) ls (lv_sub hl [1, 0] rfl) kx kr25
          · have hf := k_F c5 hf
            refine lv_iload_n hx hb dX8_taking_24 rfl (lv_at hl 1 rfl) ?_
            obtain rfl := k_some hf
            obtain rfl := k_some (k_inr hq)
            exact kr25 ls s2 rfl hl.1
  unfold f_X8_taking at hf
  refine lv_iconst (v := 0) hx hb dX8_taking_0 (by decide) ?_
  refine lv_istore_n (lv' := [(1, .int 0), (0, .int a0)]) hx hb dX8_taking_1 rfl hl (by decide) rfl (fun ls hl => ?_)
  obtain ⟨x6, hx6, hf⟩ := k_B hf
  refine L2 _ 1000 a0 0 x6 hx6 ls (lv_sub hl [1, 0] rfl) ?_ ?_
  · intro ls z7 ez7 hl
    subst ez7
    have hf := k_inl hf
    refine lv_iconst (v := (-1)) hx hb dX8_taking_32 (by decide) ?_
    obtain rfl := k_some hf
    exact W.iret (v := (-1)) hx hb hr (fun t ht hW => ⟨rfl, ht⟩) (fun q h => absurd h List.not_mem_nil) dX8_taking_33
  · intro ls r8 er8 hls
    subst er8
    have hf := k_inr hf
    obtain rfl := k_some hf
    exact W.iret (v := r8) hx hb hr (fun t ht hW => ⟨rfl, ht⟩) (fun q h => absurd h List.not_mem_nil) dX8_taking_25
def t_X8_takes_9  (s9 : Int32 × Int32 × Int32) : Option ((Int32 × Int32 × Int32) ⊕ (Int32 × Int32 × Int32)) :=
  if s9.2.2 < 0 then
    some (.inr (s9.1, s9.2.1, s9.2.2))
  else
    (f_X8_closes s9.1 s9.2.2).bind fun v3 =>
    k_let (s9.2.1 + v3) fun y4 =>
    k_let (s9.1 ||| ((1 : Int32) <<< (s9.2.2 &&& 31))) fun y5 =>
    (f_X8_taking y5).bind fun v6 =>
    some (.inl (y5, y4, v6))
def f_X8_takes (a0 : Int32) : Option Int32 :=
  (f_X8_taking a0).bind fun v1 =>
  (k_loop (t_X8_takes_9 ) 1000 (a0, 0, v1)).bind fun x7 =>
  some x7.2.1
abbrev rm_X8_takes : Room := { frames := 4, cells := 0, slots := 0, locals := 87 }
theorem hd_X8_takes : yX8_takes.cls ≠ "java/lang/invoke/MethodHandle" ∧ yX8_takes.cls ≠ "java/lang/invoke/VarHandle" ∧ (parseMethodDescriptor yX8_takes.desc).map (fun d => d.parameters.length) = some 1 := by decide +kernel
set_option maxHeartbeats 4000000 in
set_option maxRecDepth 100000 in
theorem c_X8_takes (l : Launch) (a0 : Int32) (r : Int32) (hf : f_X8_takes a0 = some r) : k_PMet l yX8_takes wsX8_takes rm_X8_takes [.int a0] r := by
  refine k_pureOf (cc := cX8_takes) (maxL := 4) (ret := (some .int)) (by decide) rfl (Nat.le_of_ble_eq_true rfl) ?_
  intro p e s m args below meth c ls hx hb hr hlocks hml hown hts hl
  have hl : lv_has ls 4 [(0, .int a0)] := hl
  have L9 : ∀ (Q : State → Prop) (n : Nat)  (s9 : Int32 × Int32 × Int32) (q : (Int32 × Int32 × Int32)), k_loop (t_X8_takes_9 ) n s9 = some q → ∀ (ls : Array Slot), lv_has ls 4 [(1, .int s9.1), (2, .int s9.2.1), (3, .int s9.2.2)] → (∀ (ls : Array Slot), True → lv_has ls 4 [(2, .int q.2.1)] → W p l e rm_X8_takes s m args below meth c s.heap [] 0 0 Q (F0 m 35 ls [])) → W p l e rm_X8_takes s m args below meth c s.heap [] 0 0 Q (F0 m 9 ls []) := by
    intro Q n
    induction n with
    | zero =>
      intro  s9 q hq
      exact (k_loop0 hq).elim
    | succ n ih =>
      intro  s9 q hq ls hl kx 
      obtain ⟨x, hf, hq⟩ := k_loopE hq
      unfold t_X8_takes_9 at hf
      refine lv_iload_n hx hb dX8_takes_9 rfl (lv_at hl 2 rfl) ?_
      refine lv_if_lt (tgt := 35) hx hb dX8_takes_10 (by decide) (fun c2 => ?_) (fun c2 => ?_)
      · have hf := k_T c2 hf
        obtain rfl := k_some hf
        obtain rfl := k_some (k_inr hq)
        exact kx ls trivial (lv_sub hl [1] rfl)
      · have hf := k_F c2 hf
        refine lv_iload_n hx hb dX8_takes_13 rfl (lv_at hl 1 rfl) ?_
        refine lv_iload_n hx hb dX8_takes_14 rfl (lv_at hl 0 rfl) ?_
        refine lv_iload_n hx hb dX8_takes_15 rfl (lv_at hl 2 rfl) ?_
        obtain ⟨v3, hv3, hf⟩ := k_B hf
        refine k_callS (As := [.int s9.1, .int s9.2.2]) (rest := [.int s9.2.1]) ⟨hx, hb, hml, hown, hts⟩ (c_X8_closes l s9.1 s9.2.2 v3 hv3) (va_cwS 2 hts gX8_takes_X8_closes rfl rfl rfl hd_X8_closes ⟨Nat.le_of_ble_eq_true rfl, Nat.le_of_ble_eq_true rfl⟩) rfl hl.1 rfl (Nat.le_of_ble_eq_true rfl) dX8_takes_16 ⟨Nat.zero_le _, Nat.zero_le _⟩ ?_
        refine lv_iadd hx hb dX8_takes_19 ?_
        obtain ⟨y4, ey4, hf⟩ := k_L hf
        refine k_name ey4 ?_
        refine lv_istore_n (lv' := [(2, .int y4), (1, .int s9.1), (3, .int s9.2.2)]) hx hb dX8_takes_20 rfl hl (by decide) rfl (fun ls hl => ?_)
        refine lv_iload_n hx hb dX8_takes_21 rfl (lv_at hl 1 rfl) ?_
        refine lv_iconst (v := 1) hx hb dX8_takes_22 (by decide) ?_
        refine lv_iload_n hx hb dX8_takes_23 rfl (lv_at hl 2 rfl) ?_
        refine lv_ishl hx hb dX8_takes_24 ?_
        refine lv_ior hx hb dX8_takes_25 ?_
        obtain ⟨y5, ey5, hf⟩ := k_L hf
        refine k_name ey5 ?_
        refine lv_istore_n (lv' := [(1, .int y5), (2, .int y4), (3, .int s9.2.2)]) hx hb dX8_takes_26 rfl hl (by decide) rfl (fun ls hl => ?_)
        refine lv_iload_n hx hb dX8_takes_27 rfl (lv_at hl 0 rfl) ?_
        obtain ⟨v6, hv6, hf⟩ := k_B hf
        refine k_callS (As := [.int y5]) (rest := []) ⟨hx, hb, hml, hown, hts⟩ (c_X8_taking l y5 v6 hv6) (va_cwS 1 hts gX8_takes_X8_taking rfl rfl rfl hd_X8_taking ⟨Nat.le_of_ble_eq_true rfl, Nat.le_of_ble_eq_true rfl⟩) rfl hl.1 rfl (Nat.le_of_ble_eq_true rfl) dX8_takes_28 ⟨Nat.zero_le _, Nat.zero_le _⟩ ?_
        refine lv_istore_n (lv' := [(3, .int v6), (1, .int y5), (2, .int y4)]) hx hb dX8_takes_31 rfl hl (by decide) rfl (fun ls hl => ?_)
        refine lv_goto (tgt := 9) hx hb dX8_takes_32 (by decide) ?_
        obtain rfl := k_some hf
        exact ih  (y5, y4, v6) q (k_inl hq) ls (lv_sub hl [1, 2, 0] rfl) kx 
  unfold f_X8_takes at hf
  refine lv_iload_n hx hb dX8_takes_0 rfl (lv_at hl 0 rfl) ?_
  refine lv_istore_n (lv' := [(1, .int a0), (0, .int a0)]) hx hb dX8_takes_1 rfl hl (by decide) rfl (fun ls hl => ?_)
  refine lv_iconst (v := 0) hx hb dX8_takes_2 (by decide) ?_
  refine lv_istore_n (lv' := [(2, .int 0), (1, .int a0), (0, .int a0)]) hx hb dX8_takes_3 rfl hl (by decide) rfl (fun ls hl => ?_)
  refine lv_iload_n hx hb dX8_takes_4 rfl (lv_at hl 1 rfl) ?_
  obtain ⟨v1, hv1, hf⟩ := k_B hf
  refine k_callS (As := [.int a0]) (rest := []) ⟨hx, hb, hml, hown, hts⟩ (c_X8_taking l a0 v1 hv1) (va_cwS 1 hts gX8_takes_X8_taking rfl rfl rfl hd_X8_taking ⟨Nat.le_of_ble_eq_true rfl, Nat.le_of_ble_eq_true rfl⟩) rfl hl.1 rfl (Nat.le_of_ble_eq_true rfl) dX8_takes_5 ⟨Nat.zero_le _, Nat.zero_le _⟩ ?_
  refine lv_istore_n (lv' := [(3, .int v1), (2, .int 0), (1, .int a0), (0, .int a0)]) hx hb dX8_takes_8 rfl hl (by decide) rfl (fun ls hl => ?_)
  obtain ⟨x7, hx7, hf⟩ := k_B hf
  refine L9 _ 1000  (a0, 0, v1) x7 hx7 ls (lv_sub hl [2, 1, 0] rfl) ?_
  · intro ls _ hl
    refine lv_iload_n hx hb dX8_takes_35 rfl (lv_at hl 0 rfl) ?_
    obtain rfl := k_some hf
    exact W.iret (v := x7.2.1) hx hb hr (fun t ht hW => ⟨rfl, ht⟩) (fun q h => absurd h List.not_mem_nil) dX8_takes_36
def t_X8_safe_16 (b0 : Int32) (b1 : Int32) (s16 : Int32 × Int32) : Option ((Int32 × Int32) ⊕ (Int32 × Int32)) :=
  if 12 ≤ s16.2 then
    some (.inr (s16.1, s16.2))
  else
    if s16.1 = 0 then
      some (.inl (0, s16.2 + 1))
    else
      (f_X8_isBeside b1 s16.2).bind fun v5 =>
      if v5 = 0 then
        some (.inl (1, s16.2 + 1))
      else
        (f_X8_has b0 s16.2).bind fun v7 =>
        if 2 ≤ v7 then
          some (.inl (0, s16.2 + 1))
        else
          some (.inl (1, s16.2 + 1))
def f_X8_safe (a0 : Int32) (a1 : Int32) : Option Int32 :=
  (f_X8_isIn a0 a1).bind fun v1 =>
  if v1 = 0 then
    (k_loop (t_X8_safe_16 a0 a1) 1000 (1, 0)).bind fun x10 =>
    if x10.1 = 0 ∨ x10.1 = 1 then some x10.1 else none
  else
    (k_loop (t_X8_safe_16 a0 a1) 1000 (0, 0)).bind fun x9 =>
    if x9.1 = 0 ∨ x9.1 = 1 then some x9.1 else none
abbrev rm_X8_safe : Room := { frames := 2, cells := 0, slots := 0, locals := 43 }
theorem hd_X8_safe : yX8_safe.cls ≠ "java/lang/invoke/MethodHandle" ∧ yX8_safe.cls ≠ "java/lang/invoke/VarHandle" ∧ (parseMethodDescriptor yX8_safe.desc).map (fun d => d.parameters.length) = some 2 := by decide +kernel
set_option maxHeartbeats 4000000 in
set_option maxRecDepth 100000 in
theorem c_X8_safe (l : Launch) (a0 : Int32) (a1 : Int32) (r : Int32) (hf : f_X8_safe a0 a1 = some r) : k_PMet l yX8_safe wsX8_safe rm_X8_safe [.int a0, .int a1] r := by
  refine k_pureOf (cc := cX8_safe) (maxL := 4) (ret := (some .boolean)) (by decide) rfl (Nat.le_of_ble_eq_true rfl) ?_
  intro p e s m args below meth c ls hx hb hr hlocks hml hown hts hl
  have hl : lv_has ls 4 [(0, .int a0), (1, .int a1)] := hl
  have L16 : ∀ (Q : State → Prop) (n : Nat) (b0 : Int32) (b1 : Int32) (s16 : Int32 × Int32) (q : (Int32 × Int32)), k_loop (t_X8_safe_16 b0 b1) n s16 = some q → ∀ (ls : Array Slot), lv_has ls 4 [(0, .int b0), (1, .int b1), (2, .int s16.1), (3, .int s16.2)] → (∀ (ls : Array Slot), True → lv_has ls 4 [(2, .int q.1)] → W p l e rm_X8_safe s m args below meth c s.heap [] 0 0 Q (F0 m 55 ls [])) → W p l e rm_X8_safe s m args below meth c s.heap [] 0 0 Q (F0 m 16 ls []) := by
    intro Q n
    induction n with
    | zero =>
      intro b0 b1 s16 q hq
      exact (k_loop0 hq).elim
    | succ n ih =>
      intro b0 b1 s16 q hq ls hl kx 
      obtain ⟨x, hf, hq⟩ := k_loopE hq
      unfold t_X8_safe_16 at hf
      refine lv_iload_n hx hb dX8_safe_16 rfl (lv_at hl 3 rfl) ?_
      refine lv_bipush (v := 12) hx hb dX8_safe_17 (by decide) ?_
      refine lv_icmp_ge (tgt := 55) hx hb dX8_safe_19 (by decide) (fun c3 => ?_) (fun c3 => ?_)
      · have hf := k_T c3 hf
        obtain rfl := k_some hf
        obtain rfl := k_some (k_inr hq)
        exact kx ls trivial (lv_sub hl [2] rfl)
      · have hf := k_F c3 hf
        refine lv_iload_n hx hb dX8_safe_22 rfl (lv_at hl 2 rfl) ?_
        refine lv_if_eq (tgt := 47) hx hb dX8_safe_23 (by decide) (fun c4 => ?_) (fun c4 => ?_)
        · have hf := k_T c4 hf
          refine lv_iconst (v := 0) hx hb dX8_safe_47 (by decide) ?_
          refine lv_istore_n (lv' := [(2, .int 0), (0, .int b0), (1, .int b1), (3, .int s16.2)]) hx hb dX8_safe_48 rfl hl (by decide) rfl (fun ls hl => ?_)
          refine lv_iinc (v := s16.2 + 1) (lv' := [(3, .int (s16.2 + 1)), (2, .int 0), (0, .int b0), (1, .int b1)]) hx hb dX8_safe_49 hl (k := 3) rfl rfl (by decide) rfl (fun ls hl => ?_)
          refine lv_goto (tgt := 16) hx hb dX8_safe_52 (by decide) ?_
          obtain rfl := k_some hf
          exact ih b0 b1 (0, s16.2 + 1) q (k_inl hq) ls (lv_sub hl [2, 3, 1, 0] rfl) kx 
        · have hf := k_F c4 hf
          refine lv_iload_n hx hb dX8_safe_26 rfl (lv_at hl 1 rfl) ?_
          refine lv_iload_n hx hb dX8_safe_27 rfl (lv_at hl 3 rfl) ?_
          obtain ⟨v5, hv5, hf⟩ := k_B hf
          refine k_callS (As := [.int b1, .int s16.2]) (rest := []) ⟨hx, hb, hml, hown, hts⟩ (c_X8_isBeside l b1 s16.2 v5 hv5) (va_cwS 2 hts gX8_safe_X8_isBeside rfl rfl rfl hd_X8_isBeside ⟨Nat.le_of_ble_eq_true rfl, Nat.le_of_ble_eq_true rfl⟩) rfl hl.1 rfl (Nat.le_of_ble_eq_true rfl) dX8_safe_28 ⟨Nat.zero_le _, Nat.zero_le _⟩ ?_
          refine lv_if_eq (tgt := 43) hx hb dX8_safe_31 (by decide) (fun c6 => ?_) (fun c6 => ?_)
          · have hf := k_T c6 hf
            refine lv_iconst (v := 1) hx hb dX8_safe_43 (by decide) ?_
            refine lv_goto (tgt := 48) hx hb dX8_safe_44 (by decide) ?_
            refine lv_istore_n (lv' := [(2, .int 1), (0, .int b0), (1, .int b1), (3, .int s16.2)]) hx hb dX8_safe_48 rfl hl (by decide) rfl (fun ls hl => ?_)
            refine lv_iinc (v := s16.2 + 1) (lv' := [(3, .int (s16.2 + 1)), (2, .int 1), (0, .int b0), (1, .int b1)]) hx hb dX8_safe_49 hl (k := 3) rfl rfl (by decide) rfl (fun ls hl => ?_)
            refine lv_goto (tgt := 16) hx hb dX8_safe_52 (by decide) ?_
            obtain rfl := k_some hf
            exact ih b0 b1 (1, s16.2 + 1) q (k_inl hq) ls (lv_sub hl [2, 3, 1, 0] rfl) kx 
          · have hf := k_F c6 hf
            refine lv_iload_n hx hb dX8_safe_34 rfl (lv_at hl 0 rfl) ?_
            refine lv_iload_n hx hb dX8_safe_35 rfl (lv_at hl 3 rfl) ?_
            obtain ⟨v7, hv7, hf⟩ := k_B hf
            refine k_callS (As := [.int b0, .int s16.2]) (rest := []) ⟨hx, hb, hml, hown, hts⟩ (c_X8_has l b0 s16.2 v7 hv7) (va_cwS 2 hts gX8_safe_X8_has rfl rfl rfl hd_X8_has ⟨Nat.le_of_ble_eq_true rfl, Nat.le_of_ble_eq_true rfl⟩) rfl hl.1 rfl (Nat.le_of_ble_eq_true rfl) dX8_safe_36 ⟨Nat.zero_le _, Nat.zero_le _⟩ ?_
            refine lv_iconst (v := 2) hx hb dX8_safe_39 (by decide) ?_
            refine lv_icmp_ge (tgt := 47) hx hb dX8_safe_40 (by decide) (fun c8 => ?_) (fun c8 => ?_)
            · have hf := k_T c8 hf
              refine lv_iconst (v := 0) hx hb dX8_safe_47 (by decide) ?_
              refine lv_istore_n (lv' := [(2, .int 0), (0, .int b0), (1, .int b1), (3, .int s16.2)]) hx hb dX8_safe_48 rfl hl (by decide) rfl (fun ls hl => ?_)
              refine lv_iinc (v := s16.2 + 1) (lv' := [(3, .int (s16.2 + 1)), (2, .int 0), (0, .int b0), (1, .int b1)]) hx hb dX8_safe_49 hl (k := 3) rfl rfl (by decide) rfl (fun ls hl => ?_)
              refine lv_goto (tgt := 16) hx hb dX8_safe_52 (by decide) ?_
              obtain rfl := k_some hf
              exact ih b0 b1 (0, s16.2 + 1) q (k_inl hq) ls (lv_sub hl [2, 3, 1, 0] rfl) kx 
            · have hf := k_F c8 hf
              refine lv_iconst (v := 1) hx hb dX8_safe_43 (by decide) ?_
              refine lv_goto (tgt := 48) hx hb dX8_safe_44 (by decide) ?_
              refine lv_istore_n (lv' := [(2, .int 1), (0, .int b0), (1, .int b1), (3, .int s16.2)]) hx hb dX8_safe_48 rfl hl (by decide) rfl (fun ls hl => ?_)
              refine lv_iinc (v := s16.2 + 1) (lv' := [(3, .int (s16.2 + 1)), (2, .int 1), (0, .int b0), (1, .int b1)]) hx hb dX8_safe_49 hl (k := 3) rfl rfl (by decide) rfl (fun ls hl => ?_)
              refine lv_goto (tgt := 16) hx hb dX8_safe_52 (by decide) ?_
              obtain rfl := k_some hf
              exact ih b0 b1 (1, s16.2 + 1) q (k_inl hq) ls (lv_sub hl [2, 3, 1, 0] rfl) kx 
  unfold f_X8_safe at hf
  refine lv_iload_n hx hb dX8_safe_0 rfl (lv_at hl 0 rfl) ?_
  refine lv_iload_n hx hb dX8_safe_1 rfl (lv_at hl 1 rfl) ?_
  obtain ⟨v1, hv1, hf⟩ := k_B hf
  refine k_callS (As := [.int a0, .int a1]) (rest := []) ⟨hx, hb, hml, hown, hts⟩ (c_X8_isIn l a0 a1 v1 hv1) (va_cwS 2 hts gX8_safe_X8_isIn rfl rfl rfl hd_X8_isIn ⟨Nat.le_of_ble_eq_true rfl, Nat.le_of_ble_eq_true rfl⟩) rfl hl.1 rfl (Nat.le_of_ble_eq_true rfl) dX8_safe_2 ⟨Nat.zero_le _, Nat.zero_le _⟩ ?_
  refine lv_if_ne (tgt := 12) hx hb dX8_safe_5 (by decide) (fun c2 => ?_) (fun c2 => ?_)
  · have hf := k_F c2 hf
    refine lv_iconst (v := 0) hx hb dX8_safe_12 (by decide) ?_
    refine lv_istore_n (lv' := [(2, .int 0), (0, .int a0), (1, .int a1)]) hx hb dX8_safe_13 rfl hl (by decide) rfl (fun ls hl => ?_)
    refine lv_iconst (v := 0) hx hb dX8_safe_14 (by decide) ?_
    refine lv_istore_n (lv' := [(3, .int 0), (2, .int 0), (0, .int a0), (1, .int a1)]) hx hb dX8_safe_15 rfl hl (by decide) rfl (fun ls hl => ?_)
    obtain ⟨x9, hx9, hf⟩ := k_B hf
    refine L16 _ 1000 a0 a1 (0, 0) x9 hx9 ls (lv_sub hl [2, 3, 1, 0] rfl) ?_
    · intro ls _ hl
      refine lv_iload_n hx hb dX8_safe_55 rfl (lv_at hl 0 rfl) ?_
      obtain ⟨rfl, hn⟩ := k_bool hf
      exact W.zret (v := x9.1) hx hb hr hn (fun t ht hW => ⟨rfl, ht⟩) (fun q h => absurd h List.not_mem_nil) dX8_safe_56
  · have hf := k_T c2 hf
    refine lv_iconst (v := 1) hx hb dX8_safe_8 (by decide) ?_
    refine lv_goto (tgt := 13) hx hb dX8_safe_9 (by decide) ?_
    refine lv_istore_n (lv' := [(2, .int 1), (0, .int a0), (1, .int a1)]) hx hb dX8_safe_13 rfl hl (by decide) rfl (fun ls hl => ?_)
    refine lv_iconst (v := 0) hx hb dX8_safe_14 (by decide) ?_
    refine lv_istore_n (lv' := [(3, .int 0), (2, .int 1), (0, .int a0), (1, .int a1)]) hx hb dX8_safe_15 rfl hl (by decide) rfl (fun ls hl => ?_)
    obtain ⟨x10, hx10, hf⟩ := k_B hf
    refine L16 _ 1000 a0 a1 (1, 0) x10 hx10 ls (lv_sub hl [2, 3, 1, 0] rfl) ?_
    · intro ls _ hl
      refine lv_iload_n hx hb dX8_safe_55 rfl (lv_at hl 0 rfl) ?_
      obtain ⟨rfl, hn⟩ := k_bool hf
      exact W.zret (v := x10.1) hx hb hr hn (fun t ht hW => ⟨rfl, ht⟩) (fun q h => absurd h List.not_mem_nil) dX8_safe_56
def t_X8_firstSafe_2 (b0 : Int32) (s2 : Int32) : Option ((Int32) ⊕ ((Int32) ⊕ Int32)) :=
  if 31 ≤ s2 then
    some (.inr (.inl s2))
  else
    (f_X8_safe b0 s2).bind fun v2 =>
    if v2 = 0 then
      some (.inl (s2 + 1))
    else
      some (.inr (.inr s2))
def f_X8_firstSafe (a0 : Int32) : Option Int32 :=
  (k_loop (t_X8_firstSafe_2 a0) 1000 0).bind fun x4 =>
  Sum.elim (fun z5 =>
    some (-1)
  ) (fun r6 => some r6) x4
abbrev rm_X8_firstSafe : Room := { frames := 3, cells := 0, slots := 0, locals := 66 }
theorem hd_X8_firstSafe : yX8_firstSafe.cls ≠ "java/lang/invoke/MethodHandle" ∧ yX8_firstSafe.cls ≠ "java/lang/invoke/VarHandle" ∧ (parseMethodDescriptor yX8_firstSafe.desc).map (fun d => d.parameters.length) = some 1 := by decide +kernel
set_option maxHeartbeats 4000000 in
set_option maxRecDepth 100000 in
theorem c_X8_firstSafe (l : Launch) (a0 : Int32) (r : Int32) (hf : f_X8_firstSafe a0 = some r) : k_PMet l yX8_firstSafe wsX8_firstSafe rm_X8_firstSafe [.int a0] r := by
  refine k_pureOf (cc := cX8_firstSafe) (maxL := 2) (ret := (some .int)) (by decide) rfl (Nat.le_of_ble_eq_true rfl) ?_
  intro p e s m args below meth c ls hx hb hr hlocks hml hown hts hl
  have hl : lv_has ls 2 [(0, .int a0)] := hl
  have L2 : ∀ (Q : State → Prop) (n : Nat) (b0 : Int32) (s2 : Int32) (q : ((Int32) ⊕ Int32)), k_loop (t_X8_firstSafe_2 b0) n s2 = some q → ∀ (ls : Array Slot), lv_has ls 2 [(0, .int b0), (1, .int s2)] → (∀ (ls : Array Slot) (x : Int32), q = .inl x → lv_has ls 2 [] → W p l e rm_X8_firstSafe s m args below meth c s.heap [] 0 0 Q (F0 m 24 ls [])) → (∀ (ls : Array Slot) (rr : Int32), q = .inr rr → ls.size = 2 → W p l e rm_X8_firstSafe s m args below meth c s.heap [] 0 0 Q (F0 m 17 ls [.int rr])) → W p l e rm_X8_firstSafe s m args below meth c s.heap [] 0 0 Q (F0 m 2 ls []) := by
    intro Q n
    induction n with
    | zero =>
      intro b0 s2 q hq
      exact (k_loop0 hq).elim
    | succ n ih =>
      intro b0 s2 q hq ls hl kx kr17
      obtain ⟨x, hf, hq⟩ := k_loopE hq
      unfold t_X8_firstSafe_2 at hf
      refine lv_iload_n hx hb dX8_firstSafe_2 rfl (lv_at hl 1 rfl) ?_
      refine lv_bipush (v := 31) hx hb dX8_firstSafe_3 (by decide) ?_
      refine lv_icmp_ge (tgt := 24) hx hb dX8_firstSafe_5 (by decide) (fun c1 => ?_) (fun c1 => ?_)
      · have hf := k_T c1 hf
        obtain rfl := k_some hf
        obtain rfl := k_some (k_inr hq)
        exact kx ls s2 rfl (lv_sub hl [] rfl)
      · have hf := k_F c1 hf
        refine lv_iload_n hx hb dX8_firstSafe_8 rfl (lv_at hl 0 rfl) ?_
        refine lv_iload_n hx hb dX8_firstSafe_9 rfl (lv_at hl 1 rfl) ?_
        obtain ⟨v2, hv2, hf⟩ := k_B hf
        refine k_callS (As := [.int b0, .int s2]) (rest := []) ⟨hx, hb, hml, hown, hts⟩ (c_X8_safe l b0 s2 v2 hv2) (va_cwS 2 hts gX8_firstSafe_X8_safe rfl rfl rfl hd_X8_safe ⟨Nat.le_of_ble_eq_true rfl, Nat.le_of_ble_eq_true rfl⟩) rfl hl.1 rfl (Nat.le_of_ble_eq_true rfl) dX8_firstSafe_10 ⟨Nat.zero_le _, Nat.zero_le _⟩ ?_
        refine lv_if_eq (tgt := 18) hx hb dX8_firstSafe_13 (by decide) (fun c3 => ?_) (fun c3 => ?_)
        · have hf := k_T c3 hf
          refine lv_iinc (v := s2 + 1) (lv' := [(1, .int (s2 + 1)), (0, .int b0)]) hx hb dX8_firstSafe_18 hl (k := 1) rfl rfl (by decide) rfl (fun ls hl => ?_)
          refine lv_goto (tgt := 2) hx hb dX8_firstSafe_21 (by decide) ?_
          obtain rfl := k_some hf
          exact ih b0 (s2 + 1) q (k_inl hq) ls (lv_sub hl [1, 0] rfl) kx kr17
        · have hf := k_F c3 hf
          refine lv_iload_n hx hb dX8_firstSafe_16 rfl (lv_at hl 1 rfl) ?_
          obtain rfl := k_some hf
          obtain rfl := k_some (k_inr hq)
          exact kr17 ls s2 rfl hl.1
  unfold f_X8_firstSafe at hf
  refine lv_iconst (v := 0) hx hb dX8_firstSafe_0 (by decide) ?_
  refine lv_istore_n (lv' := [(1, .int 0), (0, .int a0)]) hx hb dX8_firstSafe_1 rfl hl (by decide) rfl (fun ls hl => ?_)
  obtain ⟨x4, hx4, hf⟩ := k_B hf
  refine L2 _ 1000 a0 0 x4 hx4 ls (lv_sub hl [1, 0] rfl) ?_ ?_
  · intro ls z5 ez5 hl
    subst ez5
    have hf := k_inl hf
    refine lv_iconst (v := (-1)) hx hb dX8_firstSafe_24 (by decide) ?_
    obtain rfl := k_some hf
    exact W.iret (v := (-1)) hx hb hr (fun t ht hW => ⟨rfl, ht⟩) (fun q h => absurd h List.not_mem_nil) dX8_firstSafe_25
  · intro ls r6 er6 hls
    subst er6
    have hf := k_inr hf
    obtain rfl := k_some hf
    exact W.iret (v := r6) hx hb hr (fun t ht hW => ⟨rfl, ht⟩) (fun q h => absurd h List.not_mem_nil) dX8_firstSafe_17
def t_X8_between_15 (b0 : Int32) (b1 : Int32) (b2 : Int32) (s15 : Int32 × Int32) : Option ((Int32 × Int32) ⊕ (Int32 × Int32)) :=
  if 31 ≤ s15.2 then
    some (.inr (s15.1, s15.2))
  else
    if b0 = b1 then
      some (.inr (s15.1, s15.2))
    else
      (f_X8_isIn b2 s15.2).bind fun v6 =>
      if v6 = 0 then
        some (.inl (s15.1, s15.2 + 1))
      else
        some (.inl (s15.2, s15.2 + 1))
def f_X8_between (a0 : Int32) (a1 : Int32) : Option Int32 :=
  (f_X8_around a0).bind fun v1 =>
  (f_X8_around a1).bind fun v2 =>
  k_let (v1 &&& v2) fun y3 =>
  (k_loop (t_X8_between_15 a0 a1 y3) 1000 ((-1), 0)).bind fun x8 =>
  some x8.1
abbrev rm_X8_between : Room := { frames := 1, cells := 0, slots := 0, locals := 21 }
theorem hd_X8_between : yX8_between.cls ≠ "java/lang/invoke/MethodHandle" ∧ yX8_between.cls ≠ "java/lang/invoke/VarHandle" ∧ (parseMethodDescriptor yX8_between.desc).map (fun d => d.parameters.length) = some 2 := by decide +kernel
set_option maxHeartbeats 4000000 in
set_option maxRecDepth 100000 in
theorem c_X8_between (l : Launch) (a0 : Int32) (a1 : Int32) (r : Int32) (hf : f_X8_between a0 a1 = some r) : k_PMet l yX8_between wsX8_between rm_X8_between [.int a0, .int a1] r := by
  refine k_pureOf (cc := cX8_between) (maxL := 5) (ret := (some .int)) (by decide) rfl (Nat.le_of_ble_eq_true rfl) ?_
  intro p e s m args below meth c ls hx hb hr hlocks hml hown hts hl
  have hl : lv_has ls 5 [(0, .int a0), (1, .int a1)] := hl
  have L15 : ∀ (Q : State → Prop) (n : Nat) (b0 : Int32) (b1 : Int32) (b2 : Int32) (s15 : Int32 × Int32) (q : (Int32 × Int32)), k_loop (t_X8_between_15 b0 b1 b2) n s15 = some q → ∀ (ls : Array Slot), lv_has ls 5 [(0, .int b0), (1, .int b1), (2, .int b2), (3, .int s15.1), (4, .int s15.2)] → (∀ (ls : Array Slot), True → lv_has ls 5 [(3, .int q.1)] → W p l e rm_X8_between s m args below meth c s.heap [] 0 0 Q (F0 m 49 ls [])) → W p l e rm_X8_between s m args below meth c s.heap [] 0 0 Q (F0 m 15 ls []) := by
    intro Q n
    induction n with
    | zero =>
      intro b0 b1 b2 s15 q hq
      exact (k_loop0 hq).elim
    | succ n ih =>
      intro b0 b1 b2 s15 q hq ls hl kx 
      obtain ⟨x, hf, hq⟩ := k_loopE hq
      unfold t_X8_between_15 at hf
      refine lv_iload hx hb dX8_between_15 (lv_at hl 4 rfl) ?_
      refine lv_bipush (v := 31) hx hb dX8_between_17 (by decide) ?_
      refine lv_icmp_ge (tgt := 49) hx hb dX8_between_19 (by decide) (fun c4 => ?_) (fun c4 => ?_)
      · have hf := k_T c4 hf
        obtain rfl := k_some hf
        obtain rfl := k_some (k_inr hq)
        exact kx ls trivial (lv_sub hl [3] rfl)
      · have hf := k_F c4 hf
        refine lv_iload_n hx hb dX8_between_22 rfl (lv_at hl 0 rfl) ?_
        refine lv_iload_n hx hb dX8_between_23 rfl (lv_at hl 1 rfl) ?_
        refine lv_icmp_eq (tgt := 49) hx hb dX8_between_24 (by decide) (fun c5 => ?_) (fun c5 => ?_)
        · have hf := k_T c5 hf
          obtain rfl := k_some hf
          obtain rfl := k_some (k_inr hq)
          exact kx ls trivial (lv_sub hl [3] rfl)
        · have hf := k_F c5 hf
          refine lv_iload_n hx hb dX8_between_27 rfl (lv_at hl 2 rfl) ?_
          refine lv_iload hx hb dX8_between_28 (lv_at hl 4 rfl) ?_
          obtain ⟨v6, hv6, hf⟩ := k_B hf
          refine k_callS (As := [.int b2, .int s15.2]) (rest := []) ⟨hx, hb, hml, hown, hts⟩ (c_X8_isIn l b2 s15.2 v6 hv6) (va_cwS 2 hts gX8_between_X8_isIn rfl rfl rfl hd_X8_isIn ⟨Nat.le_of_ble_eq_true rfl, Nat.le_of_ble_eq_true rfl⟩) rfl hl.1 rfl (Nat.le_of_ble_eq_true rfl) dX8_between_30 ⟨Nat.zero_le _, Nat.zero_le _⟩ ?_
          refine lv_if_eq (tgt := 41) hx hb dX8_between_33 (by decide) (fun c7 => ?_) (fun c7 => ?_)
          · have hf := k_T c7 hf
            refine lv_iload_n hx hb dX8_between_41 rfl (lv_at hl 3 rfl) ?_
            refine lv_istore_n (lv' := [(3, .int s15.1), (0, .int b0), (1, .int b1), (2, .int b2), (4, .int s15.2)]) hx hb dX8_between_42 rfl hl (by decide) rfl (fun ls hl => ?_)
            refine lv_iinc (v := s15.2 + 1) (lv' := [(4, .int (s15.2 + 1)), (3, .int s15.1), (0, .int b0), (1, .int b1), (2, .int b2)]) hx hb dX8_between_43 hl (k := 4) rfl rfl (by decide) rfl (fun ls hl => ?_)
            refine lv_goto (tgt := 15) hx hb dX8_between_46 (by decide) ?_
            obtain rfl := k_some hf
            exact ih b0 b1 b2 (s15.1, s15.2 + 1) q (k_inl hq) ls (lv_sub hl [2, 3, 4, 1, 0] rfl) kx 
          · have hf := k_F c7 hf
            refine lv_iload hx hb dX8_between_36 (lv_at hl 4 rfl) ?_
            refine lv_goto (tgt := 42) hx hb dX8_between_38 (by decide) ?_
            refine lv_istore_n (lv' := [(3, .int s15.2), (0, .int b0), (1, .int b1), (2, .int b2), (4, .int s15.2)]) hx hb dX8_between_42 rfl hl (by decide) rfl (fun ls hl => ?_)
            refine lv_iinc (v := s15.2 + 1) (lv' := [(4, .int (s15.2 + 1)), (3, .int s15.2), (0, .int b0), (1, .int b1), (2, .int b2)]) hx hb dX8_between_43 hl (k := 4) rfl rfl (by decide) rfl (fun ls hl => ?_)
            refine lv_goto (tgt := 15) hx hb dX8_between_46 (by decide) ?_
            obtain rfl := k_some hf
            exact ih b0 b1 b2 (s15.2, s15.2 + 1) q (k_inl hq) ls (lv_sub hl [2, 3, 4, 1, 0] rfl) kx 
  unfold f_X8_between at hf
  refine lv_iload_n hx hb dX8_between_0 rfl (lv_at hl 0 rfl) ?_
  obtain ⟨v1, hv1, hf⟩ := k_B hf
  refine k_callS (As := [.int a0]) (rest := []) ⟨hx, hb, hml, hown, hts⟩ (c_X8_around l a0 v1 hv1) (va_cwS 1 hts gX8_between_X8_around rfl rfl rfl hd_X8_around ⟨Nat.le_of_ble_eq_true rfl, Nat.le_of_ble_eq_true rfl⟩) rfl hl.1 rfl (Nat.le_of_ble_eq_true rfl) dX8_between_1 ⟨Nat.zero_le _, Nat.zero_le _⟩ ?_
  refine lv_iload_n hx hb dX8_between_4 rfl (lv_at hl 1 rfl) ?_
  obtain ⟨v2, hv2, hf⟩ := k_B hf
  refine k_callS (As := [.int a1]) (rest := [.int v1]) ⟨hx, hb, hml, hown, hts⟩ (c_X8_around l a1 v2 hv2) (va_cwS 1 hts gX8_between_X8_around rfl rfl rfl hd_X8_around ⟨Nat.le_of_ble_eq_true rfl, Nat.le_of_ble_eq_true rfl⟩) rfl hl.1 rfl (Nat.le_of_ble_eq_true rfl) dX8_between_5 ⟨Nat.zero_le _, Nat.zero_le _⟩ ?_
  refine lv_iand hx hb dX8_between_8 ?_
  obtain ⟨y3, ey3, hf⟩ := k_L hf
  refine k_name ey3 ?_
  refine lv_istore_n (lv' := [(2, .int y3), (0, .int a0), (1, .int a1)]) hx hb dX8_between_9 rfl hl (by decide) rfl (fun ls hl => ?_)
  refine lv_iconst (v := (-1)) hx hb dX8_between_10 (by decide) ?_
  refine lv_istore_n (lv' := [(3, .int (-1)), (2, .int y3), (0, .int a0), (1, .int a1)]) hx hb dX8_between_11 rfl hl (by decide) rfl (fun ls hl => ?_)
  refine lv_iconst (v := 0) hx hb dX8_between_12 (by decide) ?_
  refine lv_istore (lv' := [(4, .int 0), (3, .int (-1)), (2, .int y3), (0, .int a0), (1, .int a1)]) hx hb dX8_between_13 hl (by decide) rfl (fun ls hl => ?_)
  obtain ⟨x8, hx8, hf⟩ := k_B hf
  refine L15 _ 1000 a0 a1 y3 ((-1), 0) x8 hx8 ls (lv_sub hl [3, 4, 2, 1, 0] rfl) ?_
  · intro ls _ hl
    refine lv_iload_n hx hb dX8_between_49 rfl (lv_at hl 0 rfl) ?_
    obtain rfl := k_some hf
    exact W.iret (v := x8.1) hx hb hr (fun t ht hW => ⟨rfl, ht⟩) (fun q h => absurd h List.not_mem_nil) dX8_between_50
