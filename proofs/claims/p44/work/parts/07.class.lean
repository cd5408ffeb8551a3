def f_X2_copyFrom (g : k_G8) (g1 : k_G8) : Option (k_G8) :=
  some g1
abbrev rm_X2_copyFrom : Room := { frames := 0, cells := 0, slots := 0, locals := 0 }
theorem hd_X2_copyFrom : yX2_copyFrom.cls = RX2 ∧ yX2_copyFrom.cls ≠ "java/lang/invoke/MethodHandle" ∧ yX2_copyFrom.cls ≠ "java/lang/invoke/VarHandle" ∧ (parseMethodDescriptor yX2_copyFrom.desc).map (fun d => d.parameters.length) = some 1 := by decide +kernel
set_option maxHeartbeats 4000000 in
set_option maxRecDepth 100000 in
theorem c_X2_copyFrom (l : Launch) (D : va_G) (cy : Nat → ClassId) (h0 a1 : Nat) (g : k_G8) (g1 : k_G8)  (r : k_G8) (hf : f_X2_copyFrom g g1 = some r) : k_HMet l yX2_copyFrom wsX2_copyFrom rm_X2_copyFrom D (k_tys cy) [.ref h0, .ref a1] [wG h0 g, wG a1 g1] none [wG h0 r, wG a1 g1] := by
  refine k_heapOf (cc := cX2_copyFrom) (maxL := 2) (ret := none) (by decide) rfl (Nat.le_of_ble_eq_true rfl) ?_
  intro p e s m args below meth c ls A hx hb hr hlocks hml hown hts hl hA hK hP hD hN
  have hl : lv_has ls 2 [(0, .ref h0), (1, .ref a1)] := hl
  have hS : va_S A s.heap s.heap [] := va_S.rf
  have in_X2 : ∀ w ∈ wsX20, w ∈ wsX2_copyFrom := by decide +kernel
  have fl9 := hts (.fieldLink RX2 9 "FencedBoxes$Game" "fences" "I") (by decide +kernel)
  have fl15 := hts (.fieldLink RX2 15 "FencedBoxes$Game" "firstBoxes" "I") (by decide +kernel)
  have fl18 := hts (.fieldLink RX2 18 "FencedBoxes$Game" "secondBoxes" "I") (by decide +kernel)
  have fl21 := hts (.fieldLink RX2 21 "FencedBoxes$Game" "mover" "I") (by decide +kernel)
  have fl24 := hts (.fieldLink RX2 24 "FencedBoxes$Game" "firstWins" "I") (by decide +kernel)
  have fl27 := hts (.fieldLink RX2 27 "FencedBoxes$Game" "secondWins" "I") (by decide +kernel)
  have fl30 := hts (.fieldLink RX2 30 "FencedBoxes$Game" "evens" "I") (by decide +kernel)
  have fl33 := hts (.fieldLink RX2 33 "FencedBoxes$Game" "doubles" "I") (by decide +kernel)
  unfold f_X2_copyFrom at hf
  obtain ⟨H, eH⟩ : ∃ H, H = s.heap := ⟨_, rfl⟩
  obtain ⟨locs, elocs⟩ : ∃ L : List Loc, L = [] := ⟨_, rfl⟩
  have hP : va_P D vwCl [wG h0 g, wG a1 g1] H := by rw [eH]; exact hP
  have hS : va_S A s.heap H locs := by rw [eH, elocs]; exact hS
  refine k_here eH elocs ?_
  refine lv_aload_n hx hb dX2_copyFrom_0 rfl (lv_at hl 0 rfl) ?_
  refine lv_aload_n hx hb dX2_copyFrom_1 rfl (lv_at hl 1 rfl) ?_
  refine va_get (D := D) (ci := 1) (v := .int g1.1) (C := RX2) (T := TX2) (N := 8) hx hb hts in_X2 hown hK hP 1 rfl rfl 0 (by decide) fl9 (fun _ h9 => h9) rfl dX2_copyFrom_2 ?_
  refine va_put (D := D) (ci := 1) (v := .int g1.1) (ty := .int) (C := RX2) (T := TX2) (N := 8) hx hb hts in_X2 tyX2 tyX2_ok nmX2 hown hK hP hD hS 0 rfl rfl 0 (by decide) fl9 (fun _ h9 => h9) rfl (by decide +kernel) rfl rfl (Nat.le_of_ble_eq_true rfl) dX2_copyFrom_5 (fun H locs hP hD hS => ?_)
  have hP : va_P D vwCl [wG h0 (g1.1, g.2.1, g.2.2.1, g.2.2.2.1, g.2.2.2.2.1, g.2.2.2.2.2.1, g.2.2.2.2.2.2.1, g.2.2.2.2.2.2.2), wG a1 g1] H := hP
  have hD : va_D A [wG h0 (g1.1, g.2.1, g.2.2.1, g.2.2.2.1, g.2.2.2.2.1, g.2.2.2.2.2.1, g.2.2.2.2.2.2.1, g.2.2.2.2.2.2.2), wG a1 g1] := hD
  refine lv_aload_n hx hb dX2_copyFrom_8 rfl (lv_at hl 0 rfl) ?_
  refine lv_aload_n hx hb dX2_copyFrom_9 rfl (lv_at hl 1 rfl) ?_
  refine va_get (D := D) (ci := 1) (v := .int g1.2.1) (C := RX2) (T := TX2) (N := 8) hx hb hts in_X2 hown hK hP 1 rfl rfl 1 (by decide) fl15 (fun _ h9 => h9) rfl dX2_copyFrom_10 ?_
  refine va_put (D := D) (ci := 1) (v := .int g1.2.1) (ty := .int) (C := RX2) (T := TX2) (N := 8) hx hb hts in_X2 tyX2 tyX2_ok nmX2 hown hK hP hD hS 0 rfl rfl 1 (by decide) fl15 (fun _ h9 => h9) rfl (by decide +kernel) rfl rfl (Nat.le_of_ble_eq_true rfl) dX2_copyFrom_13 (fun H locs hP hD hS => ?_)
  have hP : va_P D vwCl [wG h0 (g1.1, g1.2.1, g.2.2.1, g.2.2.2.1, g.2.2.2.2.1, g.2.2.2.2.2.1, g.2.2.2.2.2.2.1, g.2.2.2.2.2.2.2), wG a1 g1] H := hP
  have hD : va_D A [wG h0 (g1.1, g1.2.1, g.2.2.1, g.2.2.2.1, g.2.2.2.2.1, g.2.2.2.2.2.1, g.2.2.2.2.2.2.1, g.2.2.2.2.2.2.2), wG a1 g1] := hD
  refine lv_aload_n hx hb dX2_copyFrom_16 rfl (lv_at hl 0 rfl) ?_
  refine lv_aload_n hx hb dX2_copyFrom_17 rfl (lv_at hl 1 rfl) ?_
  refine va_get (D := D) (ci := 1) (v := .int g1.2.2.1) (C := RX2) (T := TX2) (N := 8) hx hb hts in_X2 hown hK hP 1 rfl rfl 2 (by decide) fl18 (fun _ h9 => h9) rfl dX2_copyFrom_18 ?_
  refine va_put (D := D) (ci := 1) (v := .int g1.2.2.1) (ty := .int) (C := RX2) (T := TX2) (N := 8) hx hb hts in_X2 tyX2 tyX2_ok nmX2 hown hK hP hD hS 0 rfl rfl 2 (by decide) fl18 (fun _ h9 => h9) rfl (by decide +kernel) rfl rfl (Nat.le_of_ble_eq_true rfl) dX2_copyFrom_21 (fun H locs hP hD hS => ?_)
  have hP : va_P D vwCl [wG h0 (g1.1, g1.2.1, g1.2.2.1, g.2.2.2.1, g.2.2.2.2.1, g.2.2.2.2.2.1, g.2.2.2.2.2.2.1, g.2.2.2.2.2.2.2), wG a1 g1] H := hP
  have hD : va_D A [wG h0 (g1.1, g1.2.1, g1.2.2.1, g.2.2.2.1, g.2.2.2.2.1, g.2.2.2.2.2.1, g.2.2.2.2.2.2.1, g.2.2.2.2.2.2.2), wG a1 g1] := hD
  refine lv_aload_n hx hb dX2_copyFrom_24 rfl (lv_at hl 0 rfl) ?_
  refine lv_aload_n hx hb dX2_copyFrom_25 rfl (lv_at hl 1 rfl) ?_
  refine va_get (D := D) (ci := 1) (v := .int g1.2.2.2.1) (C := RX2) (T := TX2) (N := 8) hx hb hts in_X2 hown hK hP 1 rfl rfl 3 (by decide) fl21 (fun _ h9 => h9) rfl dX2_copyFrom_26 ?_
  refine va_put (D := D) (ci := 1) (v := .int g1.2.2.2.1) (ty := .int) (C := RX2) (T := TX2) (N := 8) hx hb hts in_X2 tyX2 tyX2_ok nmX2 hown hK hP hD hS 0 rfl rfl 3 (by decide) fl21 (fun _ h9 => h9) rfl (by decide +kernel) rfl rfl (Nat.le_of_ble_eq_true rfl) dX2_copyFrom_29 (fun H locs hP hD hS => ?_)
  have hP : va_P D vwCl [wG h0 (g1.1, g1.2.1, g1.2.2.1, g1.2.2.2.1, g.2.2.2.2.1, g.2.2.2.2.2.1, g.2.2.2.2.2.2.1, g.2.2.2.2.2.2.2), wG a1 g1] H := hP
  have hD : va_D A [wG h0 (g1.1, g1.2.1, g1.2.2.1, g1.2.2.2.1, g.2.2.2.2.1, g.2.2.2.2.2.1, g.2.2.2.2.2.2.1, g.2.2.2.2.2.2.2), wG a1 g1] := hD
  refine lv_aload_n hx hb dX2_copyFrom_32 rfl (lv_at hl 0 rfl) ?_
  refine lv_aload_n hx hb dX2_copyFrom_33 rfl (lv_at hl 1 rfl) ?_
  refine va_get (D := D) (ci := 1) (v := .int g1.2.2.2.2.1) (C := RX2) (T := TX2) (N := 8) hx hb hts in_X2 hown hK hP 1 rfl rfl 4 (by decide) fl24 (fun _ h9 => h9) rfl dX2_copyFrom_34 ?_
  refine va_put (D := D) (ci := 1) (v := .int g1.2.2.2.2.1) (ty := .int) (C := RX2) (T := TX2) (N := 8) hx hb hts in_X2 tyX2 tyX2_ok nmX2 hown hK hP hD hS 0 rfl rfl 4 (by decide) fl24 (fun _ h9 => h9) rfl (by decide +kernel) rfl rfl (Nat.le_of_ble_eq_true rfl) dX2_copyFrom_37 (fun H locs hP hD hS => ?_)
  have hP : va_P D vwCl [wG h0 (g1.1, g1.2.1, g1.2.2.1, g1.2.2.2.1, g1.2.2.2.2.1, g.2.2.2.2.2.1, g.2.2.2.2.2.2.1, g.2.2.2.2.2.2.2), wG a1 g1] H := hP
  have hD : va_D A [wG h0 (g1.1, g1.2.1, g1.2.2.1, g1.2.2.2.1, g1.2.2.2.2.1, g.2.2.2.2.2.1, g.2.2.2.2.2.2.1, g.2.2.2.2.2.2.2), wG a1 g1] := hD
  refine lv_aload_n hx hb dX2_copyFrom_40 rfl (lv_at hl 0 rfl) ?_
  refine lv_aload_n hx hb dX2_copyFrom_41 rfl (lv_at hl 1 rfl) ?_
  refine va_get (D := D) (ci := 1) (v := .int g1.2.2.2.2.2.1) (C := RX2) (T := TX2) (N := 8) hx hb hts in_X2 hown hK hP 1 rfl rfl 5 (by decide) fl27 (fun _ h9 => h9) rfl dX2_copyFrom_42 ?_
  refine va_put (D := D) (ci := 1) (v := .int g1.2.2.2.2.2.1) (ty := .int) (C := RX2) (T := TX2) (N := 8) hx hb hts in_X2 tyX2 tyX2_ok nmX2 hown hK hP hD hS 0 rfl rfl 5 (by decide) fl27 (fun _ h9 => h9) rfl (by decide +kernel) rfl rfl (Nat.le_of_ble_eq_true rfl) dX2_copyFrom_45 (fun H locs hP hD hS => ?_)
  have hP : va_P D vwCl [wG h0 (g1.1, g1.2.1, g1.2.2.1, g1.2.2.2.1, g1.2.2.2.2.1, g1.2.2.2.2.2.1, g.2.2.2.2.2.2.1, g.2.2.2.2.2.2.2), wG a1 g1] H := hP
  have hD : va_D A [wG h0 (g1.1, g1.2.1, g1.2.2.1, g1.2.2.2.1, g1.2.2.2.2.1, g1.2.2.2.2.2.1, g.2.2.2.2.2.2.1, g.2.2.2.2.2.2.2), wG a1 g1] := hD
  refine lv_aload_n hx hb dX2_copyFrom_48 rfl (lv_at hl 0 rfl) ?_
  refine lv_aload_n hx hb dX2_copyFrom_49 rfl (lv_at hl 1 rfl) ?_
  refine va_get (D := D) (ci := 1) (v := .int g1.2.2.2.2.2.2.1) (C := RX2) (T := TX2) (N := 8) hx hb hts in_X2 hown hK hP 1 rfl rfl 6 (by decide) fl30 (fun _ h9 => h9) rfl dX2_copyFrom_50 ?_
  refine va_put (D := D) (ci := 1) (v := .int g1.2.2.2.2.2.2.1) (ty := .int) (C := RX2) (T := TX2) (N := 8) hx hb hts in_X2 tyX2 tyX2_ok nmX2 hown hK hP hD hS 0 rfl rfl 6 (by decide) fl30 (fun _ h9 => h9) rfl (by decide +kernel) rfl rfl (Nat.le_of_ble_eq_true rfl) dX2_copyFrom_53 (fun H locs hP hD hS => ?_)
  have hP : va_P D vwCl [wG h0 (g1.1, g1.2.1, g1.2.2.1, g1.2.2.2.1, g1.2.2.2.2.1, g1.2.2.2.2.2.1, g1.2.2.2.2.2.2.1, g.2.2.2.2.2.2.2), wG a1 g1] H := hP
  have hD : va_D A [wG h0 (g1.1, g1.2.1, g1.2.2.1, g1.2.2.2.1, g1.2.2.2.2.1, g1.2.2.2.2.2.1, g1.2.2.2.2.2.2.1, g.2.2.2.2.2.2.2), wG a1 g1] := hD
  refine lv_aload_n hx hb dX2_copyFrom_56 rfl (lv_at hl 0 rfl) ?_
  refine lv_aload_n hx hb dX2_copyFrom_57 rfl (lv_at hl 1 rfl) ?_
  refine va_get (D := D) (ci := 1) (v := .int g1.2.2.2.2.2.2.2) (C := RX2) (T := TX2) (N := 8) hx hb hts in_X2 hown hK hP 1 rfl rfl 7 (by decide) fl33 (fun _ h9 => h9) rfl dX2_copyFrom_58 ?_
  refine va_put (D := D) (ci := 1) (v := .int g1.2.2.2.2.2.2.2) (ty := .int) (C := RX2) (T := TX2) (N := 8) hx hb hts in_X2 tyX2 tyX2_ok nmX2 hown hK hP hD hS 0 rfl rfl 7 (by decide) fl33 (fun _ h9 => h9) rfl (by decide +kernel) rfl rfl (Nat.le_of_ble_eq_true rfl) dX2_copyFrom_61 (fun H locs hP hD hS => ?_)
  have hP : va_P D vwCl [wG h0 g1, wG a1 g1] H := hP
  have hD : va_D A [wG h0 g1, wG a1 g1] := hD
  obtain rfl := k_some hf
  exact k_vret hx hb hr hP hD hS dX2_copyFrom_64 hlocks
def f_X2_begin (g : k_G8) : Option (k_G8) :=
  some (0, 0, 0, 0, g.2.2.2.2.1, g.2.2.2.2.2.1, g.2.2.2.2.2.2.1, g.2.2.2.2.2.2.2)
abbrev rm_X2_begin : Room := { frames := 0, cells := 0, slots := 0, locals := 0 }
theorem hd_X2_begin : yX2_begin.cls = RX2 ∧ yX2_begin.cls ≠ "java/lang/invoke/MethodHandle" ∧ yX2_begin.cls ≠ "java/lang/invoke/VarHandle" ∧ (parseMethodDescriptor yX2_begin.desc).map (fun d => d.parameters.length) = some 0 := by decide +kernel
set_option maxHeartbeats 4000000 in
set_option maxRecDepth 100000 in
theorem c_X2_begin (l : Launch) (D : va_G) (cy : Nat → ClassId) (h0 : Nat) (g : k_G8)  (r : k_G8) (hf : f_X2_begin g = some r) : k_HMet l yX2_begin wsX2_begin rm_X2_begin D (k_tys cy) [.ref h0] [wG h0 g] none [wG h0 r] := by
  refine k_heapOf (cc := cX2_begin) (maxL := 1) (ret := none) (by decide) rfl (Nat.le_of_ble_eq_true rfl) ?_
  intro p e s m args below meth c ls A hx hb hr hlocks hml hown hts hl hA hK hP hD hN
  have hl : lv_has ls 1 [(0, .ref h0)] := hl
  have hS : va_S A s.heap s.heap [] := va_S.rf
  have in_X2 : ∀ w ∈ wsX20, w ∈ wsX2_begin := by decide +kernel
  have fl9 := hts (.fieldLink RX2 9 "FencedBoxes$Game" "fences" "I") (by decide +kernel)
  have fl15 := hts (.fieldLink RX2 15 "FencedBoxes$Game" "firstBoxes" "I") (by decide +kernel)
  have fl18 := hts (.fieldLink RX2 18 "FencedBoxes$Game" "secondBoxes" "I") (by decide +kernel)
  have fl21 := hts (.fieldLink RX2 21 "FencedBoxes$Game" "mover" "I") (by decide +kernel)
  unfold f_X2_begin at hf
  obtain ⟨H, eH⟩ : ∃ H, H = s.heap := ⟨_, rfl⟩
  obtain ⟨locs, elocs⟩ : ∃ L : List Loc, L = [] := ⟨_, rfl⟩
  have hP : va_P D vwCl [wG h0 g] H := by rw [eH]; exact hP
  have hS : va_S A s.heap H locs := by rw [eH, elocs]; exact hS
  refine k_here eH elocs ?_
  refine lv_aload_n hx hb dX2_begin_0 rfl (lv_at hl 0 rfl) ?_
  refine lv_iconst (v := 0) hx hb dX2_begin_1 (by decide) ?_
  refine va_put (D := D) (ci := 1) (v := .int 0) (ty := .int) (C := RX2) (T := TX2) (N := 8) hx hb hts in_X2 tyX2 tyX2_ok nmX2 hown hK hP hD hS 0 rfl rfl 0 (by decide) fl9 (fun _ h9 => h9) rfl (by decide +kernel) rfl rfl (Nat.le_of_ble_eq_true rfl) dX2_begin_2 (fun H locs hP hD hS => ?_)
  have hP : va_P D vwCl [wG h0 (0, g.2.1, g.2.2.1, g.2.2.2.1, g.2.2.2.2.1, g.2.2.2.2.2.1, g.2.2.2.2.2.2.1, g.2.2.2.2.2.2.2)] H := hP
  have hD : va_D A [wG h0 (0, g.2.1, g.2.2.1, g.2.2.2.1, g.2.2.2.2.1, g.2.2.2.2.2.1, g.2.2.2.2.2.2.1, g.2.2.2.2.2.2.2)] := hD
  refine lv_aload_n hx hb dX2_begin_5 rfl (lv_at hl 0 rfl) ?_
  refine lv_iconst (v := 0) hx hb dX2_begin_6 (by decide) ?_
  refine va_put (D := D) (ci := 1) (v := .int 0) (ty := .int) (C := RX2) (T := TX2) (N := 8) hx hb hts in_X2 tyX2 tyX2_ok nmX2 hown hK hP hD hS 0 rfl rfl 1 (by decide) fl15 (fun _ h9 => h9) rfl (by decide +kernel) rfl rfl (Nat.le_of_ble_eq_true rfl) dX2_begin_7 (fun H locs hP hD hS => ?_)
  have hP : va_P D vwCl [wG h0 (0, 0, g.2.2.1, g.2.2.2.1, g.2.2.2.2.1, g.2.2.2.2.2.1, g.2.2.2.2.2.2.1, g.2.2.2.2.2.2.2)] H := hP
  have hD : va_D A [wG h0 (0, 0, g.2.2.1, g.2.2.2.1, g.2.2.2.2.1, g.2.2.2.2.2.1, g.2.2.2.2.2.2.1, g.2.2.2.2.2.2.2)] := hD
  refine lv_aload_n hx hb dX2_begin_10 rfl (lv_at hl 0 rfl) ?_
  refine lv_iconst (v := 0) hx hb dX2_begin_11 (by decide) ?_
  refine va_put (D := D) (ci := 1) (v := .int 0) (ty := .int) (C := RX2) (T := TX2) (N := 8) hx hb hts in_X2 tyX2 tyX2_ok nmX2 hown hK hP hD hS 0 rfl rfl 2 (by decide) fl18 (fun _ h9 => h9) rfl (by decide +kernel) rfl rfl (Nat.le_of_ble_eq_true rfl) dX2_begin_12 (fun H locs hP hD hS => ?_)
  have hP : va_P D vwCl [wG h0 (0, 0, 0, g.2.2.2.1, g.2.2.2.2.1, g.2.2.2.2.2.1, g.2.2.2.2.2.2.1, g.2.2.2.2.2.2.2)] H := hP
  have hD : va_D A [wG h0 (0, 0, 0, g.2.2.2.1, g.2.2.2.2.1, g.2.2.2.2.2.1, g.2.2.2.2.2.2.1, g.2.2.2.2.2.2.2)] := hD
  refine lv_aload_n hx hb dX2_begin_15 rfl (lv_at hl 0 rfl) ?_
  refine lv_iconst (v := 0) hx hb dX2_begin_16 (by decide) ?_
  refine va_put (D := D) (ci := 1) (v := .int 0) (ty := .int) (C := RX2) (T := TX2) (N := 8) hx hb hts in_X2 tyX2 tyX2_ok nmX2 hown hK hP hD hS 0 rfl rfl 3 (by decide) fl21 (fun _ h9 => h9) rfl (by decide +kernel) rfl rfl (Nat.le_of_ble_eq_true rfl) dX2_begin_17 (fun H locs hP hD hS => ?_)
  have hP : va_P D vwCl [wG h0 (0, 0, 0, 0, g.2.2.2.2.1, g.2.2.2.2.2.1, g.2.2.2.2.2.2.1, g.2.2.2.2.2.2.2)] H := hP
  have hD : va_D A [wG h0 (0, 0, 0, 0, g.2.2.2.2.1, g.2.2.2.2.2.1, g.2.2.2.2.2.2.1, g.2.2.2.2.2.2.2)] := hD
  obtain rfl := k_some hf
  exact k_vret hx hb hr hP hD hS dX2_begin_20 hlocks
def f_X2_countFences (g : k_G8) : Option (Int32) :=
  (f_J6_bitCount_0f7a4 g.1).bind fun v1 =>
  some v1
abbrev rm_X2_countFences : Room := { frames := 1, cells := 0, slots := 0, locals := 20 }
theorem hd_X2_countFences : yX2_countFences.cls = RX2 ∧ yX2_countFences.cls ≠ "java/lang/invoke/MethodHandle" ∧ yX2_countFences.cls ≠ "java/lang/invoke/VarHandle" ∧ (parseMethodDescriptor yX2_countFences.desc).map (fun d => d.parameters.length) = some 0 := by decide +kernel
set_option maxHeartbeats 4000000 in
set_option maxRecDepth 100000 in
theorem c_X2_countFences (l : Launch) (D : va_G) (cy : Nat → ClassId) (h0 : Nat) (g : k_G8)  (r : Int32) (hf : f_X2_countFences g = some r) : k_HMet l yX2_countFences wsX2_countFences rm_X2_countFences D (k_tys cy) [.ref h0] [wG h0 g] (some (.int r)) [wG h0 g] := by
  refine k_heapOf (cc := cX2_countFences) (maxL := 1) (ret := (some .int)) (by decide) rfl (Nat.le_of_ble_eq_true rfl) ?_
  intro p e s m args below meth c ls A hx hb hr hlocks hml hown hts hl hA hK hP hD hN
  have hl : lv_has ls 1 [(0, .ref h0)] := hl
  have hS : va_S A s.heap s.heap [] := va_S.rf
  have in_X2 : ∀ w ∈ wsX20, w ∈ wsX2_countFences := by decide +kernel
  have fl9 := hts (.fieldLink RX2 9 "FencedBoxes$Game" "fences" "I") (by decide +kernel)
  unfold f_X2_countFences at hf
  obtain ⟨H, eH⟩ : ∃ H, H = s.heap := ⟨_, rfl⟩
  obtain ⟨locs, elocs⟩ : ∃ L : List Loc, L = [] := ⟨_, rfl⟩
  have hP : va_P D vwCl [wG h0 g] H := by rw [eH]; exact hP
  have hS : va_S A s.heap H locs := by rw [eH, elocs]; exact hS
  refine k_here eH elocs ?_
  refine lv_aload_n hx hb dX2_countFences_0 rfl (lv_at hl 0 rfl) ?_
  refine va_get (D := D) (ci := 1) (v := .int g.1) (C := RX2) (T := TX2) (N := 8) hx hb hts in_X2 hown hK hP 0 rfl rfl 0 (by decide) fl9 (fun _ h9 => h9) rfl dX2_countFences_1 ?_
  obtain ⟨v1, hv1, hf⟩ := k_B hf
  refine k_callS (As := [.int g.1]) (rest := []) ⟨hx, hb, hml, hown, hts⟩ (c_J6_bitCount_0f7a4 l g.1 v1 hv1) (va_cwS 1 hts gX2_countFences_J6_bitCount_0f7a4 rfl rfl rfl hd_J6_bitCount_0f7a4 ⟨Nat.le_of_ble_eq_true rfl, Nat.le_of_ble_eq_true rfl⟩) rfl hl.1 rfl (Nat.le_of_ble_eq_true rfl) dX2_countFences_4 ⟨Nat.zero_le _, Nat.zero_le _⟩ ?_
  obtain rfl := k_some hf
  exact k_iret hx hb hr hP hD hS dX2_countFences_7 hlocks
def f_X2_closedBy (n1 : Int32) (g : k_G8) : Option (Int32) :=
  if n1 = 0 then
    some g.2.1
  else
    some g.2.2.1
abbrev rm_X2_closedBy : Room := { frames := 0, cells := 0, slots := 0, locals := 0 }
theorem hd_X2_closedBy : yX2_closedBy.cls = RX2 ∧ yX2_closedBy.cls ≠ "java/lang/invoke/MethodHandle" ∧ yX2_closedBy.cls ≠ "java/lang/invoke/VarHandle" ∧ (parseMethodDescriptor yX2_closedBy.desc).map (fun d => d.parameters.length) = some 1 := by decide +kernel
set_option maxHeartbeats 4000000 in
set_option maxRecDepth 100000 in
theorem c_X2_closedBy (l : Launch) (D : va_G) (cy : Nat → ClassId) (h0 : Nat) (g : k_G8) (n1 : Int32) (r : Int32) (hf : f_X2_closedBy n1 g = some r) : k_HMet l yX2_closedBy wsX2_closedBy rm_X2_closedBy D (k_tys cy) [.ref h0, .int n1] [wG h0 g] (some (.int r)) [wG h0 g] := by
  refine k_heapOf (cc := cX2_closedBy) (maxL := 2) (ret := (some .int)) (by decide) rfl (Nat.le_of_ble_eq_true rfl) ?_
  intro p e s m args below meth c ls A hx hb hr hlocks hml hown hts hl hA hK hP hD hN
  have hl : lv_has ls 2 [(0, .ref h0), (1, .int n1)] := hl
  have hS : va_S A s.heap s.heap [] := va_S.rf
  have in_X2 : ∀ w ∈ wsX20, w ∈ wsX2_closedBy := by decide +kernel
  have fl15 := hts (.fieldLink RX2 15 "FencedBoxes$Game" "firstBoxes" "I") (by decide +kernel)
  have fl18 := hts (.fieldLink RX2 18 "FencedBoxes$Game" "secondBoxes" "I") (by decide +kernel)
  unfold f_X2_closedBy at hf
  obtain ⟨H, eH⟩ : ∃ H, H = s.heap := ⟨_, rfl⟩
  obtain ⟨locs, elocs⟩ : ∃ L : List Loc, L = [] := ⟨_, rfl⟩
  have hP : va_P D vwCl [wG h0 g] H := by rw [eH]; exact hP
  have hS : va_S A s.heap H locs := by rw [eH, elocs]; exact hS
  refine k_here eH elocs ?_
  refine lv_iload_n hx hb dX2_closedBy_0 rfl (lv_at hl 1 rfl) ?_
  refine lv_if_ne (tgt := 11) hx hb dX2_closedBy_1 (by decide) (fun c1 => ?_) (fun c1 => ?_)
  · have hf := k_F c1 hf
    refine lv_aload_n hx hb dX2_closedBy_11 rfl (lv_at hl 0 rfl) ?_
    refine va_get (D := D) (ci := 1) (v := .int g.2.2.1) (C := RX2) (T := TX2) (N := 8) hx hb hts in_X2 hown hK hP 0 rfl rfl 2 (by decide) fl18 (fun _ h9 => h9) rfl dX2_closedBy_12 ?_
    obtain rfl := k_some hf
    exact k_iret hx hb hr hP hD hS dX2_closedBy_15 hlocks
  · have hf := k_T c1 hf
    refine lv_aload_n hx hb dX2_closedBy_4 rfl (lv_at hl 0 rfl) ?_
    refine va_get (D := D) (ci := 1) (v := .int g.2.1) (C := RX2) (T := TX2) (N := 8) hx hb hts in_X2 hown hK hP 0 rfl rfl 1 (by decide) fl15 (fun _ h9 => h9) rfl dX2_closedBy_5 ?_
    refine lv_goto (tgt := 15) hx hb dX2_closedBy_8 (by decide) ?_
    obtain rfl := k_some hf
    exact k_iret hx hb hr hP hD hS dX2_closedBy_15 hlocks
def f_X2_hasEnded (g : k_G8) : Option (Int32) :=
  if g.1 = 2147483647 then
    some 1
  else
    some 0
abbrev rm_X2_hasEnded : Room := { frames := 0, cells := 0, slots := 0, locals := 0 }
theorem hd_X2_hasEnded : yX2_hasEnded.cls = RX2 ∧ yX2_hasEnded.cls ≠ "java/lang/invoke/MethodHandle" ∧ yX2_hasEnded.cls ≠ "java/lang/invoke/VarHandle" ∧ (parseMethodDescriptor yX2_hasEnded.desc).map (fun d => d.parameters.length) = some 0 := by decide +kernel
set_option maxHeartbeats 4000000 in
set_option maxRecDepth 100000 in
theorem c_X2_hasEnded (l : Launch) (D : va_G) (cy : Nat → ClassId) (h0 : Nat) (g : k_G8)  (r : Int32) (hf : f_X2_hasEnded g = some r) : k_HMet l yX2_hasEnded wsX2_hasEnded rm_X2_hasEnded D (k_tys cy) [.ref h0] [wG h0 g] (some (.int r)) [wG h0 g] := by
  refine k_heapOf (cc := cX2_hasEnded) (maxL := 1) (ret := (some .boolean)) (by decide) rfl (Nat.le_of_ble_eq_true rfl) ?_
  intro p e s m args below meth c ls A hx hb hr hlocks hml hown hts hl hA hK hP hD hN
  have hl : lv_has ls 1 [(0, .ref h0)] := hl
  have hS : va_S A s.heap s.heap [] := va_S.rf
  have in_X2 : ∀ w ∈ wsX20, w ∈ wsX2_hasEnded := by decide +kernel
  have fl9 := hts (.fieldLink RX2 9 "FencedBoxes$Game" "fences" "I") (by decide +kernel)
  unfold f_X2_hasEnded at hf
  obtain ⟨H, eH⟩ : ∃ H, H = s.heap := ⟨_, rfl⟩
  obtain ⟨locs, elocs⟩ : ∃ L : List Loc, L = [] := ⟨_, rfl⟩
  have hP : va_P D vwCl [wG h0 g] H := by rw [eH]; exact hP
  have hS : va_S A s.heap H locs := by rw [eH, elocs]; exact hS
  refine k_here eH elocs ?_
  refine lv_aload_n hx hb dX2_hasEnded_0 rfl (lv_at hl 0 rfl) ?_
  refine va_get (D := D) (ci := 1) (v := .int g.1) (C := RX2) (T := TX2) (N := 8) hx hb hts in_X2 hown hK hP 0 rfl rfl 0 (by decide) fl9 (fun _ h9 => h9) rfl dX2_hasEnded_1 ?_
  refine lv_ldc (v := 2147483647) hx hb hown (hts (.constant RX2 42 2147483647) (by decide +kernel)) dX2_hasEnded_4 ?_
  refine lv_icmp_ne (tgt := 13) hx hb dX2_hasEnded_6 (by decide) (fun c1 => ?_) (fun c1 => ?_)
  · have hf := k_F c1 hf
    refine lv_iconst (v := 0) hx hb dX2_hasEnded_13 (by decide) ?_
    obtain rfl := k_some hf
    exact k_zret (v := 0) hx hb hr rfl hP hD hS dX2_hasEnded_14 hlocks
  · have hf := k_T c1 hf
    refine lv_iconst (v := 1) hx hb dX2_hasEnded_9 (by decide) ?_
    refine lv_goto (tgt := 14) hx hb dX2_hasEnded_10 (by decide) ?_
    obtain rfl := k_some hf
    exact k_zret (v := 1) hx hb hr rfl hP hD hS dX2_hasEnded_14 hlocks
def f_X2_refusal (n1 : Int32) (g : k_G8) : Option (Int32) :=
  (f_X2_hasEnded g).bind fun v1 =>
  if v1 = 0 then
    (f_X3_has g.1 n1).bind fun v3 =>
    if v3 = 0 then
      some 0
    else
      some 2
  else
    some 1
abbrev rm_X2_refusal : Room := { frames := 1, cells := 0, slots := 0, locals := 21 }
theorem hd_X2_refusal : yX2_refusal.cls = RX2 ∧ yX2_refusal.cls ≠ "java/lang/invoke/MethodHandle" ∧ yX2_refusal.cls ≠ "java/lang/invoke/VarHandle" ∧ (parseMethodDescriptor yX2_refusal.desc).map (fun d => d.parameters.length) = some 1 := by decide +kernel
set_option maxHeartbeats 4000000 in
set_option maxRecDepth 100000 in
theorem c_X2_refusal (l : Launch) (D : va_G) (cy : Nat → ClassId) (h0 : Nat) (g : k_G8) (n1 : Int32) (r : Int32) (hf : f_X2_refusal n1 g = some r) : k_HMet l yX2_refusal wsX2_refusal rm_X2_refusal D (k_tys cy) [.ref h0, .int n1] [wG h0 g] (some (.int r)) [wG h0 g] := by
  refine k_heapOf (cc := cX2_refusal) (maxL := 2) (ret := (some .int)) (by decide) rfl (Nat.le_of_ble_eq_true rfl) ?_
  intro p e s m args below meth c ls A hx hb hr hlocks hml hown hts hl hA hK hP hD hN
  have hl : lv_has ls 2 [(0, .ref h0), (1, .int n1)] := hl
  have hS : va_S A s.heap s.heap [] := va_S.rf
  have in_X2 : ∀ w ∈ wsX20, w ∈ wsX2_refusal := by decide +kernel
  have fl9 := hts (.fieldLink RX2 9 "FencedBoxes$Game" "fences" "I") (by decide +kernel)
  unfold f_X2_refusal at hf
  obtain ⟨H, eH⟩ : ∃ H, H = s.heap := ⟨_, rfl⟩
  obtain ⟨locs, elocs⟩ : ∃ L : List Loc, L = [] := ⟨_, rfl⟩
  have hP : va_P D vwCl [wG h0 g] H := by rw [eH]; exact hP
  have hS : va_S A s.heap H locs := by rw [eH, elocs]; exact hS
  refine k_here eH elocs ?_
  refine lv_aload_n hx hb dX2_refusal_0 rfl (lv_at hl 0 rfl) ?_
  obtain ⟨v1, hv1, hf⟩ := k_B hf
  refine k_callHV (As := []) (rest := []) (r := (RX2, TX2, 8)) (ci := 1) (q0 := 0) (isC := [0]) (isR := []) (perm := [0]) (w' := [wG h0 g]) ⟨hx, hb, hml, hown, hts⟩ (c_X2_hasEnded l D cy h0 g  v1 hv1) (cwV 0 hts gX2_refusal_X2_hasEnded rfl rfl rfl hd_X2_hasEnded ⟨Nat.le_of_ble_eq_true rfl, Nat.le_of_ble_eq_true rfl⟩) hK hN hP hD hS hA rfl rfl rfl rfl rfl rfl (by decide) rfl rfl rfl hl.1 rfl (Nat.le_of_ble_eq_true rfl) dX2_refusal_1 ⟨Nat.zero_le _, Nat.zero_le _⟩ (fun H locs hP hD hS => ?_)
  refine lv_if_eq (tgt := 9) hx hb dX2_refusal_4 (by decide) (fun c2 => ?_) (fun c2 => ?_)
  · have hf := k_T c2 hf
    refine lv_aload_n hx hb dX2_refusal_9 rfl (lv_at hl 0 rfl) ?_
    refine va_get (D := D) (ci := 1) (v := .int g.1) (C := RX2) (T := TX2) (N := 8) hx hb hts in_X2 hown hK hP 0 rfl rfl 0 (by decide) fl9 (fun _ h9 => h9) rfl dX2_refusal_10 ?_
    refine lv_iload_n hx hb dX2_refusal_13 rfl (lv_at hl 1 rfl) ?_
    obtain ⟨v3, hv3, hf⟩ := k_B hf
    refine k_callS (As := [.int g.1, .int n1]) (rest := []) ⟨hx, hb, hml, hown, hts⟩ (c_X3_has l g.1 n1 v3 hv3) (va_cwS 2 hts gX2_refusal_X3_has rfl rfl rfl hd_X3_has ⟨Nat.le_of_ble_eq_true rfl, Nat.le_of_ble_eq_true rfl⟩) rfl hl.1 rfl (Nat.le_of_ble_eq_true rfl) dX2_refusal_14 ⟨Nat.zero_le _, Nat.zero_le _⟩ ?_
    refine lv_if_eq (tgt := 24) hx hb dX2_refusal_17 (by decide) (fun c4 => ?_) (fun c4 => ?_)
    · have hf := k_T c4 hf
      refine lv_iconst (v := 0) hx hb dX2_refusal_24 (by decide) ?_
      obtain rfl := k_some hf
      exact k_iret hx hb hr hP hD hS dX2_refusal_25 hlocks
    · have hf := k_F c4 hf
      refine lv_iconst (v := 2) hx hb dX2_refusal_20 (by decide) ?_
      refine lv_goto (tgt := 25) hx hb dX2_refusal_21 (by decide) ?_
      obtain rfl := k_some hf
      exact k_iret hx hb hr hP hD hS dX2_refusal_25 hlocks
  · have hf := k_F c2 hf
    refine lv_iconst (v := 1) hx hb dX2_refusal_7 (by decide) ?_
    obtain rfl := k_some hf
    exact k_iret hx hb hr hP hD hS dX2_refusal_8 hlocks
def f_X2_settle (g : k_G8) : Option (k_G8) :=
  (f_J6_bitCount_0f7a4 g.2.1).bind fun v1 =>
  (f_J6_bitCount_0f7a4 g.2.2.1).bind fun v2 =>
  if v1 ≤ v2 then
    if v2 ≤ v1 then
      k_let (g.2.2.2.2.2.2.1 + 1) fun y5 =>
      some (g.1, g.2.1, g.2.2.1, g.2.2.2.1, g.2.2.2.2.1, g.2.2.2.2.2.1, y5, g.2.2.2.2.2.2.2)
    else
      k_let (g.2.2.2.2.2.1 + 1) fun y6 =>
      some (g.1, g.2.1, g.2.2.1, g.2.2.2.1, g.2.2.2.2.1, y6, g.2.2.2.2.2.2.1, g.2.2.2.2.2.2.2)
  else
    k_let (g.2.2.2.2.1 + 1) fun y7 =>
    some (g.1, g.2.1, g.2.2.1, g.2.2.2.1, y7, g.2.2.2.2.2.1, g.2.2.2.2.2.2.1, g.2.2.2.2.2.2.2)
abbrev rm_X2_settle : Room := { frames := 1, cells := 0, slots := 0, locals := 20 }
theorem hd_X2_settle : yX2_settle.cls = RX2 ∧ yX2_settle.cls ≠ "java/lang/invoke/MethodHandle" ∧ yX2_settle.cls ≠ "java/lang/invoke/VarHandle" ∧ (parseMethodDescriptor yX2_settle.desc).map (fun d => d.parameters.length) = some 0 := by decide +kernel
set_option maxHeartbeats 4000000 in
set_option maxRecDepth 100000 in
theorem c_X2_settle (l : Launch) (D : va_G) (cy : Nat → ClassId) (h0 : Nat) (g : k_G8)  (r : k_G8) (hf : f_X2_settle g = some r) : k_HMet l yX2_settle wsX2_settle rm_X2_settle D (k_tys cy) [.ref h0] [wG h0 g] none [wG h0 r] := by
  refine k_heapOf (cc := cX2_settle) (maxL := 3) (ret := none) (by decide) rfl (Nat.le_of_ble_eq_true rfl) ?_
  intro p e s m args below meth c ls A hx hb hr hlocks hml hown hts hl hA hK hP hD hN
  have hl : lv_has ls 3 [(0, .ref h0)] := hl
  have hS : va_S A s.heap s.heap [] := va_S.rf
  have in_X2 : ∀ w ∈ wsX20, w ∈ wsX2_settle := by decide +kernel
  have fl15 := hts (.fieldLink RX2 15 "FencedBoxes$Game" "firstBoxes" "I") (by decide +kernel)
  have fl18 := hts (.fieldLink RX2 18 "FencedBoxes$Game" "secondBoxes" "I") (by decide +kernel)
  have fl24 := hts (.fieldLink RX2 24 "FencedBoxes$Game" "firstWins" "I") (by decide +kernel)
  have fl27 := hts (.fieldLink RX2 27 "FencedBoxes$Game" "secondWins" "I") (by decide +kernel)
  have fl30 := hts (.fieldLink RX2 30 "FencedBoxes$Game" "evens" "I") (by decide +kernel)
  unfold f_X2_settle at hf
  obtain ⟨H, eH⟩ : ∃ H, H = s.heap := ⟨_, rfl⟩
  obtain ⟨locs, elocs⟩ : ∃ L : List Loc, L = [] := ⟨_, rfl⟩
  have hP : va_P D vwCl [wG h0 g] H := by rw [eH]; exact hP
  have hS : va_S A s.heap H locs := by rw [eH, elocs]; exact hS
  refine k_here eH elocs ?_
  refine lv_aload_n hx hb dX2_settle_0 rfl (lv_at hl 0 rfl) ?_
  refine va_get (D := D) (ci := 1) (v := .int g.2.1) (C := RX2) (T := TX2) (N := 8) hx hb hts in_X2 hown hK hP 0 rfl rfl 1 (by decide) fl15 (fun _ h9 => h9) rfl dX2_settle_1 ?_
  obtain ⟨v1, hv1, hf⟩ := k_B hf
  refine k_callS (As := [.int g.2.1]) (rest := []) ⟨hx, hb, hml, hown, hts⟩ (c_J6_bitCount_0f7a4 l g.2.1 v1 hv1) (va_cwS 1 hts gX2_settle_J6_bitCount_0f7a4 rfl rfl rfl hd_J6_bitCount_0f7a4 ⟨Nat.le_of_ble_eq_true rfl, Nat.le_of_ble_eq_true rfl⟩) rfl hl.1 rfl (Nat.le_of_ble_eq_true rfl) dX2_settle_4 ⟨Nat.zero_le _, Nat.zero_le _⟩ ?_
  refine lv_istore_n (lv' := [(1, .int v1), (0, .ref h0)]) hx hb dX2_settle_7 rfl hl (by decide) rfl (fun ls hl => ?_)
  refine lv_aload_n hx hb dX2_settle_8 rfl (lv_at hl 1 rfl) ?_
  refine va_get (D := D) (ci := 1) (v := .int g.2.2.1) (C := RX2) (T := TX2) (N := 8) hx hb hts in_X2 hown hK hP 0 rfl rfl 2 (by decide) fl18 (fun _ h9 => h9) rfl dX2_settle_9 ?_
  obtain ⟨v2, hv2, hf⟩ := k_B hf
  refine k_callS (As := [.int g.2.2.1]) (rest := []) ⟨hx, hb, hml, hown, hts⟩ (c_J6_bitCount_0f7a4 l g.2.2.1 v2 hv2) (va_cwS 1 hts gX2_settle_J6_bitCount_0f7a4 rfl rfl rfl hd_J6_bitCount_0f7a4 ⟨Nat.le_of_ble_eq_true rfl, Nat.le_of_ble_eq_true rfl⟩) rfl hl.1 rfl (Nat.le_of_ble_eq_true rfl) dX2_settle_12 ⟨Nat.zero_le _, Nat.zero_le _⟩ ?_
  refine lv_istore_n (lv' := [(2, .int v2), (1, .int v1), (0, .ref h0)]) hx hb dX2_settle_15 rfl hl (by decide) rfl (fun ls hl => ?_)
  refine lv_iload_n hx hb dX2_settle_16 rfl (lv_at hl 1 rfl) ?_
  refine lv_iload_n hx hb dX2_settle_17 rfl (lv_at hl 0 rfl) ?_
  refine lv_icmp_le (tgt := 34) hx hb dX2_settle_18 (by decide) (fun c3 => ?_) (fun c3 => ?_)
  · have hf := k_T c3 hf
    refine lv_iload_n hx hb dX2_settle_34 rfl (lv_at hl 0 rfl) ?_
    refine lv_iload_n hx hb dX2_settle_35 rfl (lv_at hl 1 rfl) ?_
    refine lv_icmp_le (tgt := 52) hx hb dX2_settle_36 (by decide) (fun c4 => ?_) (fun c4 => ?_)
    · have hf := k_T c4 hf
      refine lv_aload_n hx hb dX2_settle_52 rfl (lv_at hl 2 rfl) ?_
      refine lv_dup hx hb dX2_settle_53 rfl ?_
      refine va_get (D := D) (ci := 1) (v := .int g.2.2.2.2.2.2.1) (C := RX2) (T := TX2) (N := 8) hx hb hts in_X2 hown hK hP 0 rfl rfl 6 (by decide) fl30 (fun _ h9 => h9) rfl dX2_settle_54 ?_
      refine lv_iconst (v := 1) hx hb dX2_settle_57 (by decide) ?_
      refine lv_iadd hx hb dX2_settle_58 ?_
      obtain ⟨y5, ey5, hf⟩ := k_L hf
      refine k_name ey5 ?_
      refine va_put (D := D) (ci := 1) (v := .int y5) (ty := .int) (C := RX2) (T := TX2) (N := 8) hx hb hts in_X2 tyX2 tyX2_ok nmX2 hown hK hP hD hS 0 rfl rfl 6 (by decide) fl30 (fun _ h9 => h9) rfl (by decide +kernel) rfl rfl (Nat.le_of_ble_eq_true rfl) dX2_settle_59 (fun H locs hP hD hS => ?_)
      have hP : va_P D vwCl [wG h0 (g.1, g.2.1, g.2.2.1, g.2.2.2.1, g.2.2.2.2.1, g.2.2.2.2.2.1, y5, g.2.2.2.2.2.2.2)] H := hP
      have hD : va_D A [wG h0 (g.1, g.2.1, g.2.2.1, g.2.2.2.1, g.2.2.2.2.1, g.2.2.2.2.2.1, y5, g.2.2.2.2.2.2.2)] := hD
      obtain rfl := k_some hf
      exact k_vret hx hb hr hP hD hS dX2_settle_62 hlocks
    · have hf := k_F c4 hf
      refine lv_aload_n hx hb dX2_settle_39 rfl (lv_at hl 2 rfl) ?_
      refine lv_dup hx hb dX2_settle_40 rfl ?_
      refine va_get (D := D) (ci := 1) (v := .int g.2.2.2.2.2.1) (C := RX2) (T := TX2) (N := 8) hx hb hts in_X2 hown hK hP 0 rfl rfl 5 (by decide) fl27 (fun _ h9 => h9) rfl dX2_settle_41 ?_
      refine lv_iconst (v := 1) hx hb dX2_settle_44 (by decide) ?_
      refine lv_iadd hx hb dX2_settle_45 ?_
      obtain ⟨y6, ey6, hf⟩ := k_L hf
      refine k_name ey6 ?_
      refine va_put (D := D) (ci := 1) (v := .int y6) (ty := .int) (C := RX2) (T := TX2) (N := 8) hx hb hts in_X2 tyX2 tyX2_ok nmX2 hown hK hP hD hS 0 rfl rfl 5 (by decide) fl27 (fun _ h9 => h9) rfl (by decide +kernel) rfl rfl (Nat.le_of_ble_eq_true rfl) dX2_settle_46 (fun H locs hP hD hS => ?_)
      have hP : va_P D vwCl [wG h0 (g.1, g.2.1, g.2.2.1, g.2.2.2.1, g.2.2.2.2.1, y6, g.2.2.2.2.2.2.1, g.2.2.2.2.2.2.2)] H := hP
      have hD : va_D A [wG h0 (g.1, g.2.1, g.2.2.1, g.2.2.2.1, g.2.2.2.2.1, y6, g.2.2.2.2.2.2.1, g.2.2.2.2.2.2.2)] := hD
      refine lv_goto (tgt := 62) hx hb dX2_settle_49 (by decide) ?_
      obtain rfl := k_some hf
      exact k_vret hx hb hr hP hD hS dX2_settle_62 hlocks
  · have hf := k_F c3 hf
    refine lv_aload_n hx hb dX2_settle_21 rfl (lv_at hl 2 rfl) ?_
    refine lv_dup hx hb dX2_settle_22 rfl ?_
    refine va_get (D := D) (ci := 1) (v := .int g.2.2.2.2.1) (C := RX2) (T := TX2) (N := 8) hx hb hts in_X2 hown hK hP 0 rfl rfl 4 (by decide) fl24 (fun _ h9 => h9) rfl dX2_settle_23 ?_
    refine lv_iconst (v := 1) hx hb dX2_settle_26 (by decide) ?_
    refine lv_iadd hx hb dX2_settle_27 ?_
    obtain ⟨y7, ey7, hf⟩ := k_L hf
    refine k_name ey7 ?_
    refine va_put (D := D) (ci := 1) (v := .int y7) (ty := .int) (C := RX2) (T := TX2) (N := 8) hx hb hts in_X2 tyX2 tyX2_ok nmX2 hown hK hP hD hS 0 rfl rfl 4 (by decide) fl24 (fun _ h9 => h9) rfl (by decide +kernel) rfl rfl (Nat.le_of_ble_eq_true rfl) dX2_settle_28 (fun H locs hP hD hS => ?_)
    have hP : va_P D vwCl [wG h0 (g.1, g.2.1, g.2.2.1, g.2.2.2.1, y7, g.2.2.2.2.2.1, g.2.2.2.2.2.2.1, g.2.2.2.2.2.2.2)] H := hP
    have hD : va_D A [wG h0 (g.1, g.2.1, g.2.2.1, g.2.2.2.1, y7, g.2.2.2.2.2.1, g.2.2.2.2.2.2.1, g.2.2.2.2.2.2.2)] := hD
    refine lv_goto (tgt := 62) hx hb dX2_settle_31 (by decide) ?_
    obtain rfl := k_some hf
    exact k_vret hx hb hr hP hD hS dX2_settle_62 hlocks
def f_X2_put (n1 : Int32) (g : k_G8) : Option (Int32 × k_G8) :=
  k_let (g.1 ||| ((1 : Int32) <<< (n1 &&& 31))) fun y1 =>
  (f_X3_closedWith y1 n1).bind fun v2 =>
  (f_J6_bitCount_0f7a4 v2).bind fun v3 =>
  if g.2.2.2.1 = 0 then
    k_let (g.2.1 ||| v2) fun y24 =>
    if v3 = 2 then
      k_let (g.2.2.2.2.2.2.2 + 1) fun y34 =>
      if v3 = 0 then
        k_let ((1 : Int32) - g.2.2.2.1) fun y39 =>
        (f_X2_hasEnded (y1, y24, g.2.2.1, y39, g.2.2.2.2.1, g.2.2.2.2.2.1, g.2.2.2.2.2.2.1, y34)).bind fun v40 =>
        if v40 = 0 then
          some (v3, (y1, y24, g.2.2.1, y39, g.2.2.2.2.1, g.2.2.2.2.2.1, g.2.2.2.2.2.2.1, y34))
        else
          (f_X2_settle (y1, y24, g.2.2.1, y39, g.2.2.2.2.1, g.2.2.2.2.2.1, g.2.2.2.2.2.2.1, y34)).bind fun v42 =>
          some (v3, v42)
      else
        (f_X2_hasEnded (y1, y24, g.2.2.1, g.2.2.2.1, g.2.2.2.2.1, g.2.2.2.2.2.1, g.2.2.2.2.2.2.1, y34)).bind fun v36 =>
        if v36 = 0 then
          some (v3, (y1, y24, g.2.2.1, g.2.2.2.1, g.2.2.2.2.1, g.2.2.2.2.2.1, g.2.2.2.2.2.2.1, y34))
        else
          (f_X2_settle (y1, y24, g.2.2.1, g.2.2.2.1, g.2.2.2.2.1, g.2.2.2.2.2.1, g.2.2.2.2.2.2.1, y34)).bind fun v38 =>
          some (v3, v38)
    else
      if v3 = 0 then
        k_let ((1 : Int32) - g.2.2.2.1) fun y30 =>
        (f_X2_hasEnded (y1, y24, g.2.2.1, y30, g.2.2.2.2.1, g.2.2.2.2.2.1, g.2.2.2.2.2.2.1, g.2.2.2.2.2.2.2)).bind fun v31 =>
        if v31 = 0 then
          some (v3, (y1, y24, g.2.2.1, y30, g.2.2.2.2.1, g.2.2.2.2.2.1, g.2.2.2.2.2.2.1, g.2.2.2.2.2.2.2))
        else
          (f_X2_settle (y1, y24, g.2.2.1, y30, g.2.2.2.2.1, g.2.2.2.2.2.1, g.2.2.2.2.2.2.1, g.2.2.2.2.2.2.2)).bind fun v33 =>
          some (v3, v33)
      else
        (f_X2_hasEnded (y1, y24, g.2.2.1, g.2.2.2.1, g.2.2.2.2.1, g.2.2.2.2.2.1, g.2.2.2.2.2.2.1, g.2.2.2.2.2.2.2)).bind fun v27 =>
        if v27 = 0 then
          some (v3, (y1, y24, g.2.2.1, g.2.2.2.1, g.2.2.2.2.1, g.2.2.2.2.2.1, g.2.2.2.2.2.2.1, g.2.2.2.2.2.2.2))
        else
          (f_X2_settle (y1, y24, g.2.2.1, g.2.2.2.1, g.2.2.2.2.1, g.2.2.2.2.2.1, g.2.2.2.2.2.2.1, g.2.2.2.2.2.2.2)).bind fun v29 =>
          some (v3, v29)
  else
    k_let (g.2.2.1 ||| v2) fun y5 =>
    if v3 = 2 then
      k_let (g.2.2.2.2.2.2.2 + 1) fun y15 =>
      if v3 = 0 then
        k_let ((1 : Int32) - g.2.2.2.1) fun y20 =>
        (f_X2_hasEnded (y1, g.2.1, y5, y20, g.2.2.2.2.1, g.2.2.2.2.2.1, g.2.2.2.2.2.2.1, y15)).bind fun v21 =>
        if v21 = 0 then
          some (v3, (y1, g.2.1, y5, y20, g.2.2.2.2.1, g.2.2.2.2.2.1, g.2.2.2.2.2.2.1, y15))
        else
          (f_X2_settle (y1, g.2.1, y5, y20, g.2.2.2.2.1, g.2.2.2.2.2.1, g.2.2.2.2.2.2.1, y15)).bind fun v23 =>
          some (v3, v23)
      else
        (f_X2_hasEnded (y1, g.2.1, y5, g.2.2.2.1, g.2.2.2.2.1, g.2.2.2.2.2.1, g.2.2.2.2.2.2.1, y15)).bind fun v17 =>
        if v17 = 0 then
          some (v3, (y1, g.2.1, y5, g.2.2.2.1, g.2.2.2.2.1, g.2.2.2.2.2.1, g.2.2.2.2.2.2.1, y15))
        else
          (f_X2_settle (y1, g.2.1, y5, g.2.2.2.1, g.2.2.2.2.1, g.2.2.2.2.2.1, g.2.2.2.2.2.2.1, y15)).bind fun v19 =>
          some (v3, v19)
    else
      if v3 = 0 then
        k_let ((1 : Int32) - g.2.2.2.1) fun y11 =>
        (f_X2_hasEnded (y1, g.2.1, y5, y11, g.2.2.2.2.1, g.2.2.2.2.2.1, g.2.2.2.2.2.2.1, g.2.2.2.2.2.2.2)).bind fun v12 =>
        if v12 = 0 then
          some (v3, (y1, g.2.1, y5, y11, g.2.2.2.2.1, g.2.2.2.2.2.1, g.2.2.2.2.2.2.1, g.2.2.2.2.2.2.2))
        else
          (f_X2_settle (y1, g.2.1, y5, y11, g.2.2.2.2.1, g.2.2.2.2.2.1, g.2.2.2.2.2.2.1, g.2.2.2.2.2.2.2)).bind fun v14 =>
          some (v3, v14)
      else
        (f_X2_hasEnded (y1, g.2.1, y5, g.2.2.2.1, g.2.2.2.2.1, g.2.2.2.2.2.1, g.2.2.2.2.2.2.1, g.2.2.2.2.2.2.2)).bind fun v8 =>
        if v8 = 0 then
          some (v3, (y1, g.2.1, y5, g.2.2.2.1, g.2.2.2.2.1, g.2.2.2.2.2.1, g.2.2.2.2.2.2.1, g.2.2.2.2.2.2.2))
        else
          (f_X2_settle (y1, g.2.1, y5, g.2.2.2.1, g.2.2.2.2.1, g.2.2.2.2.2.1, g.2.2.2.2.2.2.1, g.2.2.2.2.2.2.2)).bind fun v10 =>
          some (v3, v10)
abbrev rm_X2_put : Room := { frames := 3, cells := 0, slots := 0, locals := 66 }
theorem hd_X2_put : yX2_put.cls = RX2 ∧ yX2_put.cls ≠ "java/lang/invoke/MethodHandle" ∧ yX2_put.cls ≠ "java/lang/invoke/VarHandle" ∧ (parseMethodDescriptor yX2_put.desc).map (fun d => d.parameters.length) = some 1 := by decide +kernel
set_option maxHeartbeats 4000000 in
set_option maxRecDepth 100000 in
theorem c_X2_put (l : Launch) (D : va_G) (cy : Nat → ClassId) (h0 : Nat) (g : k_G8) (n1 : Int32) (r : Int32 × k_G8) (hf : f_X2_put n1 g = some r) : k_HMet l yX2_put wsX2_put rm_X2_put D (k_tys cy) [.ref h0, .int n1] [wG h0 g] (some (.int r.1)) [wG h0 r.2] := by
  refine k_heapOf (cc := cX2_put) (maxL := 4) (ret := (some .int)) (by decide) rfl (Nat.le_of_ble_eq_true rfl) ?_
  intro p e s m args below meth c ls A hx hb hr hlocks hml hown hts hl hA hK hP hD hN
  have hl : lv_has ls 4 [(0, .ref h0), (1, .int n1)] := hl
  have hS : va_S A s.heap s.heap [] := va_S.rf
  have in_X2 : ∀ w ∈ wsX20, w ∈ wsX2_put := by decide +kernel
  have fl9 := hts (.fieldLink RX2 9 "FencedBoxes$Game" "fences" "I") (by decide +kernel)
  have fl15 := hts (.fieldLink RX2 15 "FencedBoxes$Game" "firstBoxes" "I") (by decide +kernel)
  have fl18 := hts (.fieldLink RX2 18 "FencedBoxes$Game" "secondBoxes" "I") (by decide +kernel)
  have fl21 := hts (.fieldLink RX2 21 "FencedBoxes$Game" "mover" "I") (by decide +kernel)
  have fl33 := hts (.fieldLink RX2 33 "FencedBoxes$Game" "doubles" "I") (by decide +kernel)
  unfold f_X2_put at hf
  obtain ⟨H, eH⟩ : ∃ H, H = s.heap := ⟨_, rfl⟩
  obtain ⟨locs, elocs⟩ : ∃ L : List Loc, L = [] := ⟨_, rfl⟩
  have hP : va_P D vwCl [wG h0 g] H := by rw [eH]; exact hP
  have hS : va_S A s.heap H locs := by rw [eH, elocs]; exact hS
  refine k_here eH elocs ?_
  refine lv_aload_n hx hb dX2_put_0 rfl (lv_at hl 0 rfl) ?_
  refine lv_dup hx hb dX2_put_1 rfl ?_
  refine va_get (D := D) (ci := 1) (v := .int g.1) (C := RX2) (T := TX2) (N := 8) hx hb hts in_X2 hown hK hP 0 rfl rfl 0 (by decide) fl9 (fun _ h9 => h9) rfl dX2_put_2 ?_
  refine lv_iconst (v := 1) hx hb dX2_put_5 (by decide) ?_
  refine lv_iload_n hx hb dX2_put_6 rfl (lv_at hl 1 rfl) ?_
  refine lv_ishl hx hb dX2_put_7 ?_
  refine lv_ior hx hb dX2_put_8 ?_
  obtain ⟨y1, ey1, hf⟩ := k_L hf
  refine k_name ey1 ?_
  refine va_put (D := D) (ci := 1) (v := .int y1) (ty := .int) (C := RX2) (T := TX2) (N := 8) hx hb hts in_X2 tyX2 tyX2_ok nmX2 hown hK hP hD hS 0 rfl rfl 0 (by decide) fl9 (fun _ h9 => h9) rfl (by decide +kernel) rfl rfl (Nat.le_of_ble_eq_true rfl) dX2_put_9 (fun H locs hP hD hS => ?_)
  have hP : va_P D vwCl [wG h0 (y1, g.2.1, g.2.2.1, g.2.2.2.1, g.2.2.2.2.1, g.2.2.2.2.2.1, g.2.2.2.2.2.2.1, g.2.2.2.2.2.2.2)] H := hP
  have hD : va_D A [wG h0 (y1, g.2.1, g.2.2.1, g.2.2.2.1, g.2.2.2.2.1, g.2.2.2.2.2.1, g.2.2.2.2.2.2.1, g.2.2.2.2.2.2.2)] := hD
  refine lv_aload_n hx hb dX2_put_12 rfl (lv_at hl 0 rfl) ?_
  refine va_get (D := D) (ci := 1) (v := .int y1) (C := RX2) (T := TX2) (N := 8) hx hb hts in_X2 hown hK hP 0 rfl rfl 0 (by decide) fl9 (fun _ h9 => h9) rfl dX2_put_13 ?_
  refine lv_iload_n hx hb dX2_put_16 rfl (lv_at hl 1 rfl) ?_
  obtain ⟨v2, hv2, hf⟩ := k_B hf
  refine k_callS (As := [.int y1, .int n1]) (rest := []) ⟨hx, hb, hml, hown, hts⟩ (c_X3_closedWith l y1 n1 v2 hv2) (va_cwS 2 hts gX2_put_X3_closedWith rfl rfl rfl hd_X3_closedWith ⟨Nat.le_of_ble_eq_true rfl, Nat.le_of_ble_eq_true rfl⟩) rfl hl.1 rfl (Nat.le_of_ble_eq_true rfl) dX2_put_17 ⟨Nat.zero_le _, Nat.zero_le _⟩ ?_
  refine lv_istore_n (lv' := [(2, .int v2), (0, .ref h0), (1, .int n1)]) hx hb dX2_put_20 rfl hl (by decide) rfl (fun ls hl => ?_)
  refine lv_iload_n hx hb dX2_put_21 rfl (lv_at hl 0 rfl) ?_
  obtain ⟨v3, hv3, hf⟩ := k_B hf
  refine k_callS (As := [.int v2]) (rest := []) ⟨hx, hb, hml, hown, hts⟩ (c_J6_bitCount_0f7a4 l v2 v3 hv3) (va_cwS 1 hts gX2_put_J6_bitCount_0f7a4 rfl rfl rfl hd_J6_bitCount_0f7a4 ⟨Nat.le_of_ble_eq_true rfl, Nat.le_of_ble_eq_true rfl⟩) rfl hl.1 rfl (Nat.le_of_ble_eq_true rfl) dX2_put_22 ⟨Nat.zero_le _, Nat.zero_le _⟩ ?_
  refine lv_istore_n (lv' := [(3, .int v3), (2, .int v2), (0, .ref h0), (1, .int n1)]) hx hb dX2_put_25 rfl hl (by decide) rfl (fun ls hl => ?_)
  refine lv_aload_n hx hb dX2_put_26 rfl (lv_at hl 2 rfl) ?_
  refine va_get (D := D) (ci := 1) (v := .int g.2.2.2.1) (C := RX2) (T := TX2) (N := 8) hx hb hts in_X2 hown hK hP 0 rfl rfl 3 (by decide) fl21 (fun _ h9 => h9) rfl dX2_put_27 ?_
  refine lv_if_ne (tgt := 46) hx hb dX2_put_30 (by decide) (fun c4 => ?_) (fun c4 => ?_)
  · have hf := k_F c4 hf
    refine lv_aload_n hx hb dX2_put_46 rfl (lv_at hl 2 rfl) ?_
    refine lv_dup hx hb dX2_put_47 rfl ?_
    refine va_get (D := D) (ci := 1) (v := .int g.2.2.1) (C := RX2) (T := TX2) (N := 8) hx hb hts in_X2 hown hK hP 0 rfl rfl 2 (by decide) fl18 (fun _ h9 => h9) rfl dX2_put_48 ?_
    refine lv_iload_n hx hb dX2_put_51 rfl (lv_at hl 1 rfl) ?_
    refine lv_ior hx hb dX2_put_52 ?_
    obtain ⟨y5, ey5, hf⟩ := k_L hf
    refine k_name ey5 ?_
    refine va_put (D := D) (ci := 1) (v := .int y5) (ty := .int) (C := RX2) (T := TX2) (N := 8) hx hb hts in_X2 tyX2 tyX2_ok nmX2 hown hK hP hD hS 0 rfl rfl 2 (by decide) fl18 (fun _ h9 => h9) rfl (by decide +kernel) rfl rfl (Nat.le_of_ble_eq_true rfl) dX2_put_53 (fun H locs hP hD hS => ?_)
    have hP : va_P D vwCl [wG h0 (y1, g.2.1, y5, g.2.2.2.1, g.2.2.2.2.1, g.2.2.2.2.2.1, g.2.2.2.2.2.2.1, g.2.2.2.2.2.2.2)] H := hP
    have hD : va_D A [wG h0 (y1, g.2.1, y5, g.2.2.2.1, g.2.2.2.2.1, g.2.2.2.2.2.1, g.2.2.2.2.2.2.1, g.2.2.2.2.2.2.2)] := hD
    refine lv_iload_n hx hb dX2_put_56 rfl (lv_at hl 0 rfl) ?_
    refine lv_iconst (v := 2) hx hb dX2_put_57 (by decide) ?_
    refine lv_icmp_ne (tgt := 71) hx hb dX2_put_58 (by decide) (fun c6 => ?_) (fun c6 => ?_)
    · have hf := k_F c6 hf
      refine lv_iload_n hx hb dX2_put_71 rfl (lv_at hl 0 rfl) ?_
      refine lv_if_ne (tgt := 85) hx hb dX2_put_72 (by decide) (fun c7 => ?_) (fun c7 => ?_)
      · have hf := k_F c7 hf
        refine lv_aload_n hx hb dX2_put_85 rfl (lv_at hl 2 rfl) ?_
        obtain ⟨v8, hv8, hf⟩ := k_B hf
        refine k_callHV (As := []) (rest := []) (r := (RX2, TX2, 8)) (ci := 1) (q0 := 0) (isC := [0]) (isR := []) (perm := [0]) (w' := [wG h0 (y1, g.2.1, y5, g.2.2.2.1, g.2.2.2.2.1, g.2.2.2.2.2.1, g.2.2.2.2.2.2.1, g.2.2.2.2.2.2.2)]) ⟨hx, hb, hml, hown, hts⟩ (c_X2_hasEnded l D cy h0 (y1, g.2.1, y5, g.2.2.2.1, g.2.2.2.2.1, g.2.2.2.2.2.1, g.2.2.2.2.2.2.1, g.2.2.2.2.2.2.2)  v8 hv8) (cwV 0 hts gX2_put_X2_hasEnded rfl rfl rfl hd_X2_hasEnded ⟨Nat.le_of_ble_eq_true rfl, Nat.le_of_ble_eq_true rfl⟩) hK hN hP hD hS hA rfl rfl rfl rfl rfl rfl (by decide) rfl rfl rfl hl.1 rfl (Nat.le_of_ble_eq_true rfl) dX2_put_86 ⟨Nat.zero_le _, Nat.zero_le _⟩ (fun H locs hP hD hS => ?_)
        refine lv_if_eq (tgt := 96) hx hb dX2_put_89 (by decide) (fun c9 => ?_) (fun c9 => ?_)
        · have hf := k_T c9 hf
          refine lv_iload_n hx hb dX2_put_96 rfl (lv_at hl 0 rfl) ?_
          obtain rfl := k_some hf
          exact k_iret hx hb hr hP hD hS dX2_put_97 hlocks
        · have hf := k_F c9 hf
          refine lv_aload_n hx hb dX2_put_92 rfl (lv_at hl 2 rfl) ?_
          obtain ⟨v10, hv10, hf⟩ := k_B hf
          refine k_callHV (As := []) (rest := []) (r := (RX2, TX2, 8)) (ci := 1) (q0 := 0) (isC := [0]) (isR := []) (perm := [0]) (w' := [wG h0 v10]) ⟨hx, hb, hml, hown, hts⟩ (c_X2_settle l D cy h0 (y1, g.2.1, y5, g.2.2.2.1, g.2.2.2.2.1, g.2.2.2.2.2.1, g.2.2.2.2.2.2.1, g.2.2.2.2.2.2.2)  v10 hv10) (cwV 0 hts gX2_put_X2_settle rfl rfl rfl hd_X2_settle ⟨Nat.le_of_ble_eq_true rfl, Nat.le_of_ble_eq_true rfl⟩) hK hN hP hD hS hA rfl rfl rfl rfl rfl rfl (by decide) rfl rfl rfl hl.1 rfl (Nat.le_of_ble_eq_true rfl) dX2_put_93 ⟨Nat.zero_le _, Nat.zero_le _⟩ (fun H locs hP hD hS => ?_)
          refine lv_iload_n hx hb dX2_put_96 rfl (lv_at hl 0 rfl) ?_
          obtain rfl := k_some hf
          exact k_iret hx hb hr hP hD hS dX2_put_97 hlocks
      · have hf := k_T c7 hf
        refine lv_aload_n hx hb dX2_put_75 rfl (lv_at hl 2 rfl) ?_
        refine lv_iconst (v := 1) hx hb dX2_put_76 (by decide) ?_
        refine lv_aload_n hx hb dX2_put_77 rfl (lv_at hl 2 rfl) ?_
        refine va_get (D := D) (ci := 1) (v := .int g.2.2.2.1) (C := RX2) (T := TX2) (N := 8) hx hb hts in_X2 hown hK hP 0 rfl rfl 3 (by decide) fl21 (fun _ h9 => h9) rfl dX2_put_78 ?_
        refine lv_isub hx hb dX2_put_81 ?_
        obtain ⟨y11, ey11, hf⟩ := k_L hf
        refine k_name ey11 ?_
        refine va_put (D := D) (ci := 1) (v := .int y11) (ty := .int) (C := RX2) (T := TX2) (N := 8) hx hb hts in_X2 tyX2 tyX2_ok nmX2 hown hK hP hD hS 0 rfl rfl 3 (by decide) fl21 (fun _ h9 => h9) rfl (by decide +kernel) rfl rfl (Nat.le_of_ble_eq_true rfl) dX2_put_82 (fun H locs hP hD hS => ?_)
        have hP : va_P D vwCl [wG h0 (y1, g.2.1, y5, y11, g.2.2.2.2.1, g.2.2.2.2.2.1, g.2.2.2.2.2.2.1, g.2.2.2.2.2.2.2)] H := hP
        have hD : va_D A [wG h0 (y1, g.2.1, y5, y11, g.2.2.2.2.1, g.2.2.2.2.2.1, g.2.2.2.2.2.2.1, g.2.2.2.2.2.2.2)] := hD
        refine lv_aload_n hx hb dX2_put_85 rfl (lv_at hl 2 rfl) ?_
        obtain ⟨v12, hv12, hf⟩ := k_B hf
        refine k_callHV (As := []) (rest := []) (r := (RX2, TX2, 8)) (ci := 1) (q0 := 0) (isC := [0]) (isR := []) (perm := [0]) (w' := [wG h0 (y1, g.2.1, y5, y11, g.2.2.2.2.1, g.2.2.2.2.2.1, g.2.2.2.2.2.2.1, g.2.2.2.2.2.2.2)]) ⟨hx, hb, hml, hown, hts⟩ (c_X2_hasEnded l D cy h0 (y1, g.2.1, y5, y11, g.2.2.2.2.1, g.2.2.2.2.2.1, g.2.2.2.2.2.2.1, g.2.2.2.2.2.2.2)  v12 hv12) (cwV 0 hts gX2_put_X2_hasEnded rfl rfl rfl hd_X2_hasEnded ⟨Nat.le_of_ble_eq_true rfl, Nat.le_of_ble_eq_true rfl⟩) hK hN hP hD hS hA rfl rfl rfl rfl rfl rfl (by decide) rfl rfl rfl hl.1 rfl (Nat.le_of_ble_eq_true rfl) dX2_put_86 ⟨Nat.zero_le _, Nat.zero_le _⟩ (fun H locs hP hD hS => ?_)
        refine lv_if_eq (tgt := 96) hx hb dX2_put_89 (by decide) (fun c13 => ?_) (fun c13 => ?_)
        · have hf := k_T c13 hf
          refine lv_iload_n hx hb dX2_put_96 rfl (lv_at hl 0 rfl) ?_
          obtain rfl := k_some hf
          exact k_iret hx hb hr hP hD hS dX2_put_97 hlocks
        · have hf := k_F c13 hf
          refine lv_aload_n hx hb dX2_put_92 rfl (lv_at hl 2 rfl) ?_
          obtain ⟨v14, hv14, hf⟩ := k_B hf
          refine k_callHV (As := []) (rest := []) (r := (RX2, TX2, 8)) (ci := 1) (q0 := 0) (isC := [0]) (isR := []) (perm := [0]) (w' := [wG h0 v14]) ⟨hx, hb, hml, hown, hts⟩ (c_X2_settle l D cy h0 (y1, g.2.1, y5, y11, g.2.2.2.2.1, g.2.2.2.2.2.1, g.2.2.2.2.2.2.1, g.2.2.2.2.2.2.2)  v14 hv14) (cwV 0 hts gX2_put_X2_settle rfl rfl rfl hd_X2_settle ⟨Nat.le_of_ble_eq_true rfl, Nat.le_of_ble_eq_true rfl⟩) hK hN hP hD hS hA rfl rfl rfl rfl rfl rfl (by decide) rfl rfl rfl hl.1 rfl (Nat.le_of_ble_eq_true rfl) dX2_put_93 ⟨Nat.zero_le _, Nat.zero_le _⟩ (fun H locs hP hD hS => ?_)
          refine lv_iload_n hx hb dX2_put_96 rfl (lv_at hl 0 rfl) ?_
          obtain rfl := k_some hf
          exact k_iret hx hb hr hP hD hS dX2_put_97 hlocks
    · have hf := k_T c6 hf
      refine lv_aload_n hx hb dX2_put_61 rfl (lv_at hl 2 rfl) ?_
      refine lv_dup hx hb dX2_put_62 rfl ?_
      refine va_get (D := D) (ci := 1) (v := .int g.2.2.2.2.2.2.2) (C := RX2) (T := TX2) (N := 8) hx hb hts in_X2 hown hK hP 0 rfl rfl 7 (by decide) fl33 (fun _ h9 => h9) rfl dX2_put_63 ?_
      refine lv_iconst (v := 1) hx hb dX2_put_66 (by decide) ?_
      refine lv_iadd hx hb dX2_put_67 ?_
      obtain ⟨y15, ey15, hf⟩ := k_L hf
      refine k_name ey15 ?_
      refine va_put (D := D) (ci := 1) (v := .int y15) (ty := .int) (C := RX2) (T := TX2) (N := 8) hx hb hts in_X2 tyX2 tyX2_ok nmX2 hown hK hP hD hS 0 rfl rfl 7 (by decide) fl33 (fun _ h9 => h9) rfl (by decide +kernel) rfl rfl (Nat.le_of_ble_eq_true rfl) dX2_put_68 (fun H locs hP hD hS => ?_)
      have hP : va_P D vwCl [wG h0 (y1, g.2.1, y5, g.2.2.2.1, g.2.2.2.2.1, g.2.2.2.2.2.1, g.2.2.2.2.2.2.1, y15)] H := hP
      have hD : va_D A [wG h0 (y1, g.2.1, y5, g.2.2.2.1, g.2.2.2.2.1, g.2.2.2.2.2.1, g.2.2.2.2.2.2.1, y15)] := hD
      refine lv_iload_n hx hb dX2_put_71 rfl (lv_at hl 0 rfl) ?_
      refine lv_if_ne (tgt := 85) hx hb dX2_put_72 (by decide) (fun c16 => ?_) (fun c16 => ?_)
      · have hf := k_F c16 hf
        refine lv_aload_n hx hb dX2_put_85 rfl (lv_at hl 2 rfl) ?_
        obtain ⟨v17, hv17, hf⟩ := k_B hf
        refine k_callHV (As := []) (rest := []) (r := (RX2, TX2, 8)) (ci := 1) (q0 := 0) (isC := [0]) (isR := []) (perm := [0]) (w' := [wG h0 (y1, g.2.1, y5, g.2.2.2.1, g.2.2.2.2.1, g.2.2.2.2.2.1, g.2.2.2.2.2.2.1, y15)]) ⟨hx, hb, hml, hown, hts⟩ (c_X2_hasEnded l D cy h0 (y1, g.2.1, y5, g.2.2.2.1, g.2.2.2.2.1, g.2.2.2.2.2.1, g.2.2.2.2.2.2.1, y15)  v17 hv17) (cwV 0 hts gX2_put_X2_hasEnded rfl rfl rfl hd_X2_hasEnded ⟨Nat.le_of_ble_eq_true rfl, Nat.le_of_ble_eq_true rfl⟩) hK hN hP hD hS hA rfl rfl rfl rfl rfl rfl (by decide) rfl rfl rfl hl.1 rfl (Nat.le_of_ble_eq_true rfl) dX2_put_86 ⟨Nat.zero_le _, Nat.zero_le _⟩ (fun H locs hP hD hS => ?_)
        refine lv_if_eq (tgt := 96) hx hb dX2_put_89 (by decide) (fun c18 => ?_) (fun c18 => ?_)
        · have hf := k_T c18 hf
          refine lv_iload_n hx hb dX2_put_96 rfl (lv_at hl 0 rfl) ?_
          obtain rfl := k_some hf
          exact k_iret hx hb hr hP hD hS dX2_put_97 hlocks
        · have hf := k_F c18 hf
          refine lv_aload_n hx hb dX2_put_92 rfl (lv_at hl 2 rfl) ?_
          obtain ⟨v19, hv19, hf⟩ := k_B hf
          refine k_callHV (As := []) (rest := []) (r := (RX2, TX2, 8)) (ci := 1) (q0 := 0) (isC := [0]) (isR := []) (perm := [0]) (w' := [wG h0 v19]) ⟨hx, hb, hml, hown, hts⟩ (c_X2_settle l D cy h0 (y1, g.2.1, y5, g.2.2.2.1, g.2.2.2.2.1, g.2.2.2.2.2.1, g.2.2.2.2.2.2.1, y15)  v19 hv19) (cwV 0 hts gX2_put_X2_settle rfl rfl rfl hd_X2_settle ⟨Nat.le_of_ble_eq_true rfl, Nat.le_of_ble_eq_true rfl⟩) hK hN hP hD hS hA rfl rfl rfl rfl rfl rfl (by decide) rfl rfl rfl hl.1 rfl (Nat.le_of_ble_eq_true rfl) dX2_put_93 ⟨Nat.zero_le _, Nat.zero_le _⟩ (fun H locs hP hD hS => ?_)
          refine lv_iload_n hx hb dX2_put_96 rfl (lv_at hl 0 rfl) ?_
          obtain rfl := k_some hf
          exact k_iret hx hb hr hP hD hS dX2_put_97 hlocks
      · have hf := k_T c16 hf
        refine lv_aload_n hx hb dX2_put_75 rfl (lv_at hl 2 rfl) ?_
        refine lv_iconst (v := 1) hx hb dX2_put_76 (by decide) ?_
        refine lv_aload_n hx hb dX2_put_77 rfl (lv_at hl 2 rfl) ?_
        refine va_get (D := D) (ci := 1) (v := .int g.2.2.2.1) (C := RX2) (T := TX2) (N := 8) hx hb hts in_X2 hown hK hP 0 rfl rfl 3 (by decide) fl21 (fun _ h9 => h9) rfl dX2_put_78 ?_
        refine lv_isub hx hb dX2_put_81 ?_
        obtain ⟨y20, ey20, hf⟩ := k_L hf
        refine k_name ey20 ?_
        refine va_put (D := D) (ci := 1) (v := .int y20) (ty := .int) (C := RX2) (T := TX2) (N := 8) hx hb hts in_X2 tyX2 tyX2_ok nmX2 hown hK hP hD hS 0 rfl rfl 3 (by decide) fl21 (fun _ h9 => h9) rfl (by decide +kernel) rfl rfl (Nat.le_of_ble_eq_true rfl) dX2_put_82 (fun H locs hP hD hS => ?_)
        have hP : va_P D vwCl [wG h0 (y1, g.2.1, y5, y20, g.2.2.2.2.1, g.2.2.2.2.2.1, g.2.2.2.2.2.2.1, y15)] H := hP
        have hD : va_D A [wG h0 (y1, g.2.1, y5, y20, g.2.2.2.2.1, g.2.2.2.2.2.1, g.2.2.2.2.2.2.1, y15)] := hD
        refine lv_aload_n hx hb dX2_put_85 rfl (lv_at hl 2 rfl) ?_
        obtain ⟨v21, hv21, hf⟩ := k_B hf
        refine k_callHV (As := []) (rest := []) (r := (RX2, TX2, 8)) (ci := 1) (q0 := 0) (isC := [0]) (isR := []) (perm := [0]) (w' := [wG h0 (y1, g.2.1, y5, y20, g.2.2.2.2.1, g.2.2.2.2.2.1, g.2.2.2.2.2.2.1, y15)]) ⟨hx, hb, hml, hown, hts⟩ (c_X2_hasEnded l D cy h0 (y1, g.2.1, y5, y20, g.2.2.2.2.1, g.2.2.2.2.2.1, g.2.2.2.2.2.2.1, y15)  v21 hv21) (cwV 0 hts gX2_put_X2_hasEnded rfl rfl rfl hd_X2_hasEnded ⟨Nat.le_of_ble_eq_true rfl, Nat.le_of_ble_eq_true rfl⟩) hK hN hP hD hS hA rfl rfl rfl rfl rfl rfl (by decide) rfl rfl rfl hl.1 rfl (Nat.le_of_ble_eq_true rfl) dX2_put_86 ⟨Nat.zero_le _, Nat.zero_le _⟩ (fun H locs hP hD hS => ?_)
        refine lv_if_eq (tgt := 96) hx hb dX2_put_89 (by decide) (fun c22 => ?_) (fun c22 => ?_)
        · have hf := k_T c22 hf
          refine lv_iload_n hx hb dX2_put_96 rfl (lv_at hl 0 rfl) ?_
          obtain rfl := k_some hf
          exact k_iret hx hb hr hP hD hS dX2_put_97 hlocks
        · have hf := k_F c22 hf
          refine lv_aload_n hx hb dX2_put_92 rfl (lv_at hl 2 rfl) ?_
          obtain ⟨v23, hv23, hf⟩ := k_B hf
          refine k_callHV (As := []) (rest := []) (r := (RX2, TX2, 8)) (ci := 1) (q0 := 0) (isC := [0]) (isR := []) (perm := [0]) (w' := [wG h0 v23]) ⟨hx, hb, hml, hown, hts⟩ (c_X2_settle l D cy h0 (y1, g.2.1, y5, y20, g.2.2.2.2.1, g.2.2.2.2.2.1, g.2.2.2.2.2.2.1, y15)  v23 hv23) (cwV 0 hts gX2_put_X2_settle rfl rfl rfl hd_X2_settle ⟨Nat.le_of_ble_eq_true rfl, Nat.le_of_ble_eq_true rfl⟩) hK hN hP hD hS hA rfl rfl rfl rfl rfl rfl (by decide) rfl rfl rfl hl.1 rfl (Nat.le_of_ble_eq_true rfl) dX2_put_93 ⟨Nat.zero_le _, Nat.zero_le _⟩ (fun H locs hP hD hS => ?_)
          refine lv_iload_n hx hb dX2_put_96 rfl (lv_at hl 0 rfl) ?_
          obtain rfl := k_some hf
          exact k_iret hx hb hr hP hD hS dX2_put_97 hlocks
  · have hf := k_T c4 hf
    refine lv_aload_n hx hb dX2_put_33 rfl (lv_at hl 2 rfl) ?_
    refine lv_dup hx hb dX2_put_34 rfl ?_
    refine va_get (D := D) (ci := 1) (v := .int g.2.1) (C := RX2) (T := TX2) (N := 8) hx hb hts in_X2 hown hK hP 0 rfl rfl 1 (by decide) fl15 (fun _ h9 => h9) rfl dX2_put_35 ?_
    refine lv_iload_n hx hb dX2_put_38 rfl (lv_at hl 1 rfl) ?_
    refine lv_ior hx hb dX2_put_39 ?_
    obtain ⟨y24, ey24, hf⟩ := k_L hf
    refine k_name ey24 ?_
    refine va_put (D := D) (ci := 1) (v := .int y24) (ty := .int) (C := RX2) (T := TX2) (N := 8) hx hb hts in_X2 tyX2 tyX2_ok nmX2 hown hK hP hD hS 0 rfl rfl 1 (by decide) fl15 (fun _ h9 => h9) rfl (by decide +kernel) rfl rfl (Nat.le_of_ble_eq_true rfl) dX2_put_40 (fun H locs hP hD hS => ?_)
    have hP : va_P D vwCl [wG h0 (y1, y24, g.2.2.1, g.2.2.2.1, g.2.2.2.2.1, g.2.2.2.2.2.1, g.2.2.2.2.2.2.1, g.2.2.2.2.2.2.2)] H := hP
    have hD : va_D A [wG h0 (y1, y24, g.2.2.1, g.2.2.2.1, g.2.2.2.2.1, g.2.2.2.2.2.1, g.2.2.2.2.2.2.1, g.2.2.2.2.2.2.2)] := hD
    refine lv_goto (tgt := 56) hx hb dX2_put_43 (by decide) ?_
    refine lv_iload_n hx hb dX2_put_56 rfl (lv_at hl 0 rfl) ?_
    refine lv_iconst (v := 2) hx hb dX2_put_57 (by decide) ?_
    refine lv_icmp_ne (tgt := 71) hx hb dX2_put_58 (by decide) (fun c25 => ?_) (fun c25 => ?_)
    · have hf := k_F c25 hf
      refine lv_iload_n hx hb dX2_put_71 rfl (lv_at hl 0 rfl) ?_
      refine lv_if_ne (tgt := 85) hx hb dX2_put_72 (by decide) (fun c26 => ?_) (fun c26 => ?_)
      · have hf := k_F c26 hf
        refine lv_aload_n hx hb dX2_put_85 rfl (lv_at hl 2 rfl) ?_
        obtain ⟨v27, hv27, hf⟩ := k_B hf
        refine k_callHV (As := []) (rest := []) (r := (RX2, TX2, 8)) (ci := 1) (q0 := 0) (isC := [0]) (isR := []) (perm := [0]) (w' := [wG h0 (y1, y24, g.2.2.1, g.2.2.2.1, g.2.2.2.2.1, g.2.2.2.2.2.1, g.2.2.2.2.2.2.1, g.2.2.2.2.2.2.2)]) ⟨hx, hb, hml, hown, hts⟩ (c_X2_hasEnded l D cy h0 (y1, y24, g.2.2.1, g.2.2.2.1, g.2.2.2.2.1, g.2.2.2.2.2.1, g.2.2.2.2.2.2.1, g.2.2.2.2.2.2.2)  v27 hv27) (cwV 0 hts gX2_put_X2_hasEnded rfl rfl rfl hd_X2_hasEnded ⟨Nat.le_of_ble_eq_true rfl, Nat.le_of_ble_eq_true rfl⟩) hK hN hP hD hS hA rfl rfl rfl rfl rfl rfl (by decide) rfl rfl rfl hl.1 rfl (Nat.le_of_ble_eq_true rfl) dX2_put_86 ⟨Nat.zero_le _, Nat.zero_le _⟩ (fun H locs hP hD hS => ?_)
        refine lv_if_eq (tgt := 96) hx hb dX2_put_89 (by decide) (fun c28 => ?_) (fun c28 => ?_)
        · have hf := k_T c28 hf
          refine lv_iload_n hx hb dX2_put_96 rfl (lv_at hl 0 rfl) ?_
          obtain rfl := k_some hf
          exact k_iret hx hb hr hP hD hS dX2_put_97 hlocks
        · have hf := k_F c28 hf
          refine lv_aload_n hx hb dX2_put_92 rfl (lv_at hl 2 rfl) ?_
          obtain ⟨v29, hv29, hf⟩ := k_B hf
          refine k_callHV (As := []) (rest := []) (r := (RX2, TX2, 8)) (ci := 1) (q0 := 0) (isC := [0]) (isR := []) (perm := [0]) (w' := [wG h0 v29]) ⟨hx, hb, hml, hown, hts⟩ (c_X2_settle l D cy h0 (y1, y24, g.2.2.1, g.2.2.2.1, g.2.2.2.2.1, g.2.2.2.2.2.1, g.2.2.2.2.2.2.1, g.2.2.2.2.2.2.2)  v29 hv29) (cwV 0 hts gX2_put_X2_settle rfl rfl rfl hd_X2_settle ⟨Nat.le_of_ble_eq_true rfl, Nat.le_of_ble_eq_true rfl⟩) hK hN hP hD hS hA rfl rfl rfl rfl rfl rfl (by decide) rfl rfl rfl hl.1 rfl (Nat.le_of_ble_eq_true rfl) dX2_put_93 ⟨Nat.zero_le _, Nat.zero_le _⟩ (fun H locs hP hD hS => ?_)
          refine lv_iload_n hx hb dX2_put_96 rfl (lv_at hl 0 rfl) ?_
          obtain rfl := k_some hf
          exact k_iret hx hb hr hP hD hS dX2_put_97 hlocks
      · have hf := k_T c26 hf
        refine lv_aload_n hx hb dX2_put_75 rfl (lv_at hl 2 rfl) ?_
        refine lv_iconst (v := 1) hx hb dX2_put_76 (by decide) ?_
        refine lv_aload_n hx hb dX2_put_77 rfl (lv_at hl 2 rfl) ?_
        refine va_get (D := D) (ci := 1) (v := .int g.2.2.2.1) (C := RX2) (T := TX2) (N := 8) hx hb hts in_X2 hown hK hP 0 rfl rfl 3 (by decide) fl21 (fun _ h9 => h9) rfl dX2_put_78 ?_
        refine lv_isub hx hb dX2_put_81 ?_
        obtain ⟨y30, ey30, hf⟩ := k_L hf
        refine k_name ey30 ?_
        refine va_put (D := D) (ci := 1) (v := .int y30) (ty := .int) (C := RX2) (T := TX2) (N := 8) hx hb hts in_X2 tyX2 tyX2_ok nmX2 hown hK hP hD hS 0 rfl rfl 3 (by decide) fl21 (fun _ h9 => h9) rfl (by decide +kernel) rfl rfl (Nat.le_of_ble_eq_true rfl) dX2_put_82 (fun H locs hP hD hS => ?_)
        have hP : va_P D vwCl [wG h0 (y1, y24, g.2.2.1, y30, g.2.2.2.2.1, g.2.2.2.2.2.1, g.2.2.2.2.2.2.1, g.2.2.2.2.2.2.2)] H := hP
        have hD : va_D A [wG h0 (y1, y24, g.2.2.1, y30, g.2.2.2.2.1, g.2.2.2.2.2.1, g.2.2.2.2.2.2.1, g.2.2.2.2.2.2.2)] := hD
        refine lv_aload_n hx hb dX2_put_85 rfl (lv_at hl 2 rfl) ?_
        obtain ⟨v31, hv31, hf⟩ := k_B hf
        refine k_callHV (As := []) (rest := []) (r := (RX2, TX2, 8)) (ci := 1) (q0 := 0) (isC := [0]) (isR := []) (perm := [0]) (w' := [wG h0 (y1, y24, g.2.2.1, y30, g.2.2.2.2.1, g.2.2.2.2.2.1, g.2.2.2.2.2.2.1, g.2.2.2.2.2.2.2)]) ⟨hx, hb, hml, hown, hts⟩ (c_X2_hasEnded l D cy h0 (y1, y24, g.2.2.1, y30, g.2.2.2.2.1, g.2.2.2.2.2.1, g.2.2.2.2.2.2.1, g.2.2.2.2.2.2.2)  v31 hv31) (cwV 0 hts gX2_put_X2_hasEnded rfl rfl rfl hd_X2_hasEnded ⟨Nat.le_of_ble_eq_true rfl, Nat.le_of_ble_eq_true rfl⟩) hK hN hP hD hS hA rfl rfl rfl rfl rfl rfl (by decide) rfl rfl rfl hl.1 rfl (Nat.le_of_ble_eq_true rfl) dX2_put_86 ⟨Nat.zero_le _, Nat.zero_le _⟩ (fun H locs hP hD hS => ?_)
        refine lv_if_eq (tgt := 96) hx hb dX2_put_89 (by decide) (fun c32 => ?_) (fun c32 => ?_)
        · have hf := k_T c32 hf
          refine lv_iload_n hx hb dX2_put_96 rfl (lv_at hl 0 rfl) ?_
          obtain rfl := k_some hf
          exact k_iret hx hb hr hP hD hS dX2_put_97 hlocks
        · have hf := k_F c32 hf
          refine lv_aload_n hx hb dX2_put_92 rfl (lv_at hl 2 rfl) ?_
          obtain ⟨v33, hv33, hf⟩ := k_B hf
          refine k_callHV (As := []) (rest := []) (r := (RX2, TX2, 8)) (ci := 1) (q0 := 0) (isC := [0]) (isR := []) (perm := [0]) (w' := [wG h0 v33]) ⟨hx, hb, hml, hown, hts⟩ (c_X2_settle l D cy h0 (y1, y24, g.2.2.1, y30, g.2.2.2.2.1, g.2.2.2.2.2.1, g.2.2.2.2.2.2.1, g.2.2.2.2.2.2.2)  v33 hv33) (cwV 0 hts gX2_put_X2_settle rfl rfl rfl hd_X2_settle ⟨Nat.le_of_ble_eq_true rfl, Nat.le_of_ble_eq_true rfl⟩) hK hN hP hD hS hA rfl rfl rfl rfl rfl rfl (by decide) rfl rfl rfl hl.1 rfl (Nat.le_of_ble_eq_true rfl) dX2_put_93 ⟨Nat.zero_le _, Nat.zero_le _⟩ (fun H locs hP hD hS => ?_)
          refine lv_iload_n hx hb dX2_put_96 rfl (lv_at hl 0 rfl) ?_
          obtain rfl := k_some hf
          exact k_iret hx hb hr hP hD hS dX2_put_97 hlocks
    · have hf := k_T c25 hf
      refine lv_aload_n hx hb dX2_put_61 rfl (lv_at hl 2 rfl) ?_
      refine lv_dup hx hb dX2_put_62 rfl ?_
      refine va_get (D := D) (ci := 1) (v := .int g.2.2.2.2.2.2.2) (C := RX2) (T := TX2) (N := 8) hx hb hts in_X2 hown hK hP 0 rfl rfl 7 (by decide) fl33 (fun _ h9 => h9) rfl dX2_put_63 ?_
      refine lv_iconst (v := 1) hx hb dX2_put_66 (by decide) ?_
      refine lv_iadd hx hb dX2_put_67 ?_
      obtain ⟨y34, ey34, hf⟩ := k_L hf
      refine k_name ey34 ?_
      refine va_put (D := D) (ci := 1) (v := .int y34) (ty := .int) (C := RX2) (T := TX2) (N := 8) hx hb hts in_X2 tyX2 tyX2_ok nmX2 hown hK hP hD hS 0 rfl rfl 7 (by decide) fl33 (fun _ h9 => h9) rfl (by decide +kernel) rfl rfl (Nat.le_of_ble_eq_true rfl) dX2_put_68 (fun H locs hP hD hS => ?_)
      have hP : va_P D vwCl [wG h0 (y1, y24, g.2.2.1, g.2.2.2.1, g.2.2.2.2.1, g.2.2.2.2.2.1, g.2.2.2.2.2.2.1, y34)] H := hP
      have hD : va_D A [wG h0 (y1, y24, g.2.2.1, g.2.2.2.1, g.2.2.2.2.1, g.2.2.2.2.2.1, g.2.2.2.2.2.2.1, y34)] := hD
      refine lv_iload_n hx hb dX2_put_71 rfl (lv_at hl 0 rfl) ?_
      refine lv_if_ne (tgt := 85) hx hb dX2_put_72 (by decide) (fun c35 => ?_) (fun c35 => ?_)
      · have hf := k_F c35 hf
        refine lv_aload_n hx hb dX2_put_85 rfl (lv_at hl 2 rfl) ?_
        obtain ⟨v36, hv36, hf⟩ := k_B hf
        refine k_callHV (As := []) (rest := []) (r := (RX2, TX2, 8)) (ci := 1) (q0 := 0) (isC := [0]) (isR := []) (perm := [0]) (w' := [wG h0 (y1, y24, g.2.2.1, g.2.2.2.1, g.2.2.2.2.1, g.2.2.2.2.2.1, g.2.2.2.2.2.2.1, y34)]) ⟨hx, hb, hml, hown, hts⟩ (c_X2_hasEnded l D cy h0 (y1, y24, g.2.2.1, g.2.2.2.1, g.2.2.2.2.1, g.2.2.2.2.2.1, g.2.2.2.2.2.2.1, y34)  v36 hv36) (cwV 0 hts gX2_put_X2_hasEnded rfl rfl rfl hd_X2_hasEnded ⟨Nat.le_of_ble_eq_true rfl, Nat.le_of_ble_eq_true rfl⟩) hK hN hP hD hS hA rfl rfl rfl rfl rfl rfl (by decide) rfl rfl rfl hl.1 rfl (Nat.le_of_ble_eq_true rfl) dX2_put_86 ⟨Nat.zero_le _, Nat.zero_le _⟩ (fun H locs hP hD hS => ?_)
        refine lv_if_eq (tgt := 96) hx hb dX2_put_89 (by decide) (fun c37 => ?_) (fun c37 => ?_)
        · have hf := k_T c37 hf
          refine lv_iload_n hx hb dX2_put_96 rfl (lv_at hl 0 rfl) ?_
          obtain rfl := k_some hf
          exact k_iret hx hb hr hP hD hS dX2_put_97 hlocks
        · have hf := k_F c37 hf
          refine lv_aload_n hx hb dX2_put_92 rfl (lv_at hl 2 rfl) ?_
          obtain ⟨v38, hv38, hf⟩ := k_B hf
          refine k_callHV (As := []) (rest := []) (r := (RX2, TX2, 8)) (ci := 1) (q0 := 0) (isC := [0]) (isR := []) (perm := [0]) (w' := [wG h0 v38]) ⟨hx, hb, hml, hown, hts⟩ (c_X2_settle l D cy h0 (y1, y24, g.2.2.1, g.2.2.2.1, g.2.2.2.2.1, g.2.2.2.2.2.1, g.2.2.2.2.2.2.1, y34)  v38 hv38) (cwV 0 hts gX2_put_X2_settle rfl rfl rfl hd_X2_settle ⟨Nat.le_of_ble_eq_true rfl, Nat.le_of_ble_eq_true rfl⟩) hK hN hP hD hS hA rfl rfl rfl rfl rfl rfl (by decide) rfl rfl rfl hl.1 rfl (Nat.le_of_ble_eq_true rfl) dX2_put_93 ⟨Nat.zero_le _, Nat.zero_le _⟩ (fun H locs hP hD hS => ?_)
          refine lv_iload_n hx hb dX2_put_96 rfl (lv_at hl 0 rfl) ?_
          obtain rfl := k_some hf
          exact k_iret hx hb hr hP hD hS dX2_put_97 hlocks
      · have hf := k_T c35 hf
        refine lv_aload_n hx hb dX2_put_75 rfl (lv_at hl 2 rfl) ?_
        refine lv_iconst (v := 1) hx hb dX2_put_76 (by decide) ?_
        refine lv_aload_n hx hb dX2_put_77 rfl (lv_at hl 2 rfl) ?_
        refine va_get (D := D) (ci := 1) (v := .int g.2.2.2.1) (C := RX2) (T := TX2) (N := 8) hx hb hts in_X2 hown hK hP 0 rfl rfl 3 (by decide) fl21 (fun _ h9 => h9) rfl dX2_put_78 ?_
        refine lv_isub hx hb dX2_put_81 ?_
        obtain ⟨y39, ey39, hf⟩ := k_L hf
        refine k_name ey39 ?_
        refine va_put (D := D) (ci := 1) (v := .int y39) (ty := .int) (C := RX2) (T := TX2) (N := 8) hx hb hts in_X2 tyX2 tyX2_ok nmX2 hown hK hP hD hS 0 rfl rfl 3 (by decide) fl21 (fun _ h9 => h9) rfl (by decide +kernel) rfl rfl (Nat.le_of_ble_eq_true rfl) dX2_put_82 (fun H locs hP hD hS => ?_)
        have hP : va_P D vwCl [wG h0 (y1, y24, g.2.2.1, y39, g.2.2.2.2.1, g.2.2.2.2.2.1, g.2.2.2.2.2.2.1, y34)] H := hP
        have hD : va_D A [wG h0 (y1, y24, g.2.2.1, y39, g.2.2.2.2.1, g.2.2.2.2.2.1, g.2.2.2.2.2.2.1, y34)] := hD
        refine lv_aload_n hx hb dX2_put_85 rfl (lv_at hl 2 rfl) ?_
        obtain ⟨v40, hv40, hf⟩ := k_B hf
        refine k_callHV (As := []) (rest := []) (r := (RX2, TX2, 8)) (ci := 1) (q0 := 0) (isC := [0]) (isR := []) (perm := [0]) (w' := [wG h0 (y1, y24, g.2.2.1, y39, g.2.2.2.2.1, g.2.2.2.2.2.1, g.2.2.2.2.2.2.1, y34)]) ⟨hx, hb, hml, hown, hts⟩ (c_X2_hasEnded l D cy h0 (y1, y24, g.2.2.1, y39, g.2.2.2.2.1, g.2.2.2.2.2.1, g.2.2.2.2.2.2.1, y34)  v40 hv40) (cwV 0 hts gX2_put_X2_hasEnded rfl rfl rfl hd_X2_hasEnded ⟨Nat.le_of_ble_eq_true rfl, Nat.le_of_ble_eq_true rfl⟩) hK hN hP hD hS hA rfl rfl rfl rfl rfl rfl (by decide) rfl rfl rfl hl.1 rfl (Nat.le_of_ble_eq_true rfl) dX2_put_86 ⟨Nat.zero_le _, Nat.zero_le _⟩ (fun H locs hP hD hS => ?_)
        refine lv_if_eq (tgt := 96) hx hb dX2_put_89 (by decide) (fun c41 => ?_) (fun c41 => ?_)
        · have hf := k_T c41 hf
          refine lv_iload_n hx hb dX2_put_96 rfl (lv_at hl 0 rfl) ?_
          obtain rfl := k_some hf
          exact k_iret hx hb hr hP hD hS dX2_put_97 hlocks
        · have hf := k_F c41 hf
          refine lv_aload_n hx hb dX2_put_92 rfl (lv_at hl 2 rfl) ?_
          obtain ⟨v42, hv42, hf⟩ := k_B hf
          refine k_callHV (As := []) (rest := []) (r := (RX2, TX2, 8)) (ci := 1) (q0 := 0) (isC := [0]) (isR := []) (perm := [0]) (w' := [wG h0 v42]) ⟨hx, hb, hml, hown, hts⟩ (c_X2_settle l D cy h0 (y1, y24, g.2.2.1, y39, g.2.2.2.2.1, g.2.2.2.2.2.1, g.2.2.2.2.2.2.1, y34)  v42 hv42) (cwV 0 hts gX2_put_X2_settle rfl rfl rfl hd_X2_settle ⟨Nat.le_of_ble_eq_true rfl, Nat.le_of_ble_eq_true rfl⟩) hK hN hP hD hS hA rfl rfl rfl rfl rfl rfl (by decide) rfl rfl rfl hl.1 rfl (Nat.le_of_ble_eq_true rfl) dX2_put_93 ⟨Nat.zero_le _, Nat.zero_le _⟩ (fun H locs hP hD hS => ?_)
          refine lv_iload_n hx hb dX2_put_96 rfl (lv_at hl 0 rfl) ?_
          obtain rfl := k_some hf
          exact k_iret hx hb hr hP hD hS dX2_put_97 hlocks
def f_X4_dropOldest (hs : Int32) (qs : k_Q4) (k0 : k_G8) (k1 : k_G8) (k2 : k_G8) (k3 : k_G8) : Option (Int32 × k_Q4 × k_G8 × k_G8 × k_G8 × k_G8) :=
  k_let (hs - 1) fun y1 =>
  some (y1, (qs.2.1, qs.2.2.1, qs.2.2.2, qs.1), k1, k2, k3, k0)
abbrev rm_X4_dropOldest : Room := { frames := 0, cells := 0, slots := 0, locals := 0 }
theorem hd_X4_dropOldest : yX4_dropOldest.cls = RX4 ∧ yX4_dropOldest.cls ≠ "java/lang/invoke/MethodHandle" ∧ yX4_dropOldest.cls ≠ "java/lang/invoke/VarHandle" ∧ (parseMethodDescriptor yX4_dropOldest.desc).map (fun d => d.parameters.length) = some 0 := by decide +kernel
set_option maxHeartbeats 4000000 in
set_option maxRecDepth 100000 in
theorem c_X4_dropOldest (l : Launch) (D : va_G) (cy : Nat → ClassId) (h0 ka : Nat) (hs : Int32) (qs : k_Q4) (k0 : k_G8) (k1 : k_G8) (k2 : k_G8) (k3 : k_G8)  (r : Int32 × k_Q4 × k_G8 × k_G8 × k_G8 × k_G8) (hf : f_X4_dropOldest hs qs k0 k1 k2 k3 = some r) : k_HMet l yX4_dropOldest wsX4_dropOldest rm_X4_dropOldest D (k_tys cy) [.ref h0] [wH h0 ka hs, wK cy ka qs, wG qs.1 k0, wG qs.2.1 k1, wG qs.2.2.1 k2, wG qs.2.2.2 k3] none [wH h0 ka r.1, wK cy ka r.2.1, wG r.2.1.1 r.2.2.1, wG r.2.1.2.1 r.2.2.2.1, wG r.2.1.2.2.1 r.2.2.2.2.1, wG r.2.1.2.2.2 r.2.2.2.2.2] := by
  refine k_heapOf (cc := cX4_dropOldest) (maxL := 3) (ret := none) (by decide) rfl (Nat.le_of_ble_eq_true rfl) ?_
  intro p e s m args below meth c ls A hx hb hr hlocks hml hown hts hl hA hK hP hD hN
  have hl : lv_has ls 3 [(0, .ref h0)] := hl
  have hS : va_S A s.heap s.heap [] := va_S.rf
  have in_X4 : ∀ w ∈ wsX40, w ∈ wsX4_dropOldest := by decide +kernel
  have fl11 := hts (.fieldLink RX4 11 "FencedBoxes$History" "kept" "[LFencedBoxes$Game;") (by decide +kernel)
  have fl18 := hts (.fieldLink RX4 18 "FencedBoxes$History" "size" "I") (by decide +kernel)
  unfold f_X4_dropOldest at hf
  obtain ⟨H, eH⟩ : ∃ H, H = s.heap := ⟨_, rfl⟩
  obtain ⟨locs, elocs⟩ : ∃ L : List Loc, L = [] := ⟨_, rfl⟩
  have hP : va_P D vwCl [wH h0 ka hs, wK cy ka qs, wG qs.1 k0, wG qs.2.1 k1, wG qs.2.2.1 k2, wG qs.2.2.2 k3] H := by rw [eH]; exact hP
  have hS : va_S A s.heap H locs := by rw [eH, elocs]; exact hS
  refine k_here eH elocs ?_
  refine lv_aload_n hx hb dX4_dropOldest_0 rfl (lv_at hl 0 rfl) ?_
  refine va_get (D := D) (ci := 2) (v := .ref ka) (C := RX4) (T := TX4) (N := 2) hx hb hts in_X4 hown hK hP 0 rfl rfl 0 (by decide) fl11 (fun _ h9 => h9) rfl dX4_dropOldest_1 ?_
  refine lv_iconst (v := 0) hx hb dX4_dropOldest_4 (by decide) ?_
  refine va_aldq hx hb hK hP 1 2 rfl rfl (k_in (i := 0) (n := 4) (by decide +kernel)) dX4_dropOldest_5 ?_
  refine k_nameq (v := qs.1) rfl ?_
  refine lv_astore_n (lv' := [(1, .ref qs.1), (0, .ref h0)]) hx hb dX4_dropOldest_6 rfl hl (by decide) rfl (fun ls hl => ?_)
  refine lv_iconst (v := 1) hx hb dX4_dropOldest_7 (by decide) ?_
  refine lv_istore_n (lv' := [(2, .int 1), (1, .ref qs.1), (0, .ref h0)]) hx hb dX4_dropOldest_8 rfl hl (by decide) rfl (fun ls hl => ?_)
  refine lv_iload_n hx hb dX4_dropOldest_9 rfl (lv_at hl 0 rfl) ?_
  refine lv_iconst (v := 4) hx hb dX4_dropOldest_10 (by decide) ?_
  refine lv_icmp_ge (tgt := 34) hx hb dX4_dropOldest_11 (by decide) (fun c9 => absurd c9 (by decide)) (fun c9 => ?_)
  refine lv_aload_n hx hb dX4_dropOldest_14 rfl (lv_at hl 2 rfl) ?_
  refine va_get (D := D) (ci := 2) (v := .ref ka) (C := RX4) (T := TX4) (N := 2) hx hb hts in_X4 hown hK hP 0 rfl rfl 0 (by decide) fl11 (fun _ h9 => h9) rfl dX4_dropOldest_15 ?_
  refine lv_iload_n hx hb dX4_dropOldest_18 rfl (lv_at hl 0 rfl) ?_
  refine lv_iconst (v := 1) hx hb dX4_dropOldest_19 (by decide) ?_
  refine lv_isub hx hb dX4_dropOldest_20 ?_
  refine k_name (v := 0) (by decide) ?_
  refine lv_aload_n hx hb dX4_dropOldest_21 rfl (lv_at hl 2 rfl) ?_
  refine va_get (D := D) (ci := 2) (v := .ref ka) (C := RX4) (T := TX4) (N := 2) hx hb hts in_X4 hown hK hP 0 rfl rfl 0 (by decide) fl11 (fun _ h9 => h9) rfl dX4_dropOldest_22 ?_
  refine lv_iload_n hx hb dX4_dropOldest_25 rfl (lv_at hl 0 rfl) ?_
  refine va_aldq hx hb hK hP 1 2 rfl rfl (k_in (i := 1) (n := 4) (by decide +kernel)) dX4_dropOldest_26 ?_
  refine k_nameq (v := qs.2.1) rfl ?_
  refine va_astq hx hb hK hP hD hS 1 2 3 1 rfl rfl rfl rfl (k_in (i := 0) (n := 4) (by decide +kernel)) dX4_dropOldest_27 (fun H locs hP hD hS => ?_)
  have hP : va_P D vwCl [wH h0 ka hs, wK cy ka (qs.2.1, qs.2.1, qs.2.2.1, qs.2.2.2), wG qs.1 k0, wG qs.2.1 k1, wG qs.2.2.1 k2, wG qs.2.2.2 k3] H := by rw [k_up4_0] at hP; exact hP
  have hD : va_D A [wH h0 ka hs, wK cy ka (qs.2.1, qs.2.1, qs.2.2.1, qs.2.2.2), wG qs.1 k0, wG qs.2.1 k1, wG qs.2.2.1 k2, wG qs.2.2.2 k3] := by rw [k_up4_0] at hD; exact hD
  refine lv_iinc (v := 2) (lv' := [(2, .int 2), (1, .ref qs.1), (0, .ref h0)]) hx hb dX4_dropOldest_28 hl (k := 0) rfl (by decide) (by decide) rfl (fun ls hl => ?_)
  refine lv_goto (tgt := 9) hx hb dX4_dropOldest_31 (by decide) ?_
  refine lv_iload_n hx hb dX4_dropOldest_9 rfl (lv_at hl 0 rfl) ?_
  refine lv_iconst (v := 4) hx hb dX4_dropOldest_10 (by decide) ?_
  refine lv_icmp_ge (tgt := 34) hx hb dX4_dropOldest_11 (by decide) (fun c9 => absurd c9 (by decide)) (fun c9 => ?_)
  refine lv_aload_n hx hb dX4_dropOldest_14 rfl (lv_at hl 2 rfl) ?_
  refine va_get (D := D) (ci := 2) (v := .ref ka) (C := RX4) (T := TX4) (N := 2) hx hb hts in_X4 hown hK hP 0 rfl rfl 0 (by decide) fl11 (fun _ h9 => h9) rfl dX4_dropOldest_15 ?_
  refine lv_iload_n hx hb dX4_dropOldest_18 rfl (lv_at hl 0 rfl) ?_
  refine lv_iconst (v := 1) hx hb dX4_dropOldest_19 (by decide) ?_
  refine lv_isub hx hb dX4_dropOldest_20 ?_
  refine k_name (v := 1) (by decide) ?_
  refine lv_aload_n hx hb dX4_dropOldest_21 rfl (lv_at hl 2 rfl) ?_
  refine va_get (D := D) (ci := 2) (v := .ref ka) (C := RX4) (T := TX4) (N := 2) hx hb hts in_X4 hown hK hP 0 rfl rfl 0 (by decide) fl11 (fun _ h9 => h9) rfl dX4_dropOldest_22 ?_
  refine lv_iload_n hx hb dX4_dropOldest_25 rfl (lv_at hl 0 rfl) ?_
  refine va_aldq hx hb hK hP 1 2 rfl rfl (k_in (i := 2) (n := 4) (by decide +kernel)) dX4_dropOldest_26 ?_
  refine k_nameq (v := qs.2.2.1) rfl ?_
  refine va_astq hx hb hK hP hD hS 1 2 4 1 rfl rfl rfl rfl (k_in (i := 1) (n := 4) (by decide +kernel)) dX4_dropOldest_27 (fun H locs hP hD hS => ?_)
  have hP : va_P D vwCl [wH h0 ka hs, wK cy ka (qs.2.1, qs.2.2.1, qs.2.2.1, qs.2.2.2), wG qs.1 k0, wG qs.2.1 k1, wG qs.2.2.1 k2, wG qs.2.2.2 k3] H := by rw [k_up4_1] at hP; exact hP
  have hD : va_D A [wH h0 ka hs, wK cy ka (qs.2.1, qs.2.2.1, qs.2.2.1, qs.2.2.2), wG qs.1 k0, wG qs.2.1 k1, wG qs.2.2.1 k2, wG qs.2.2.2 k3] := by rw [k_up4_1] at hD; exact hD
  refine lv_iinc (v := 3) (lv' := [(2, .int 3), (1, .ref qs.1), (0, .ref h0)]) hx hb dX4_dropOldest_28 hl (k := 0) rfl (by decide) (by decide) rfl (fun ls hl => ?_)
  refine lv_goto (tgt := 9) hx hb dX4_dropOldest_31 (by decide) ?_
  refine lv_iload_n hx hb dX4_dropOldest_9 rfl (lv_at hl 0 rfl) ?_
  refine lv_iconst (v := 4) hx hb dX4_dropOldest_10 (by decide) ?_
  refine lv_icmp_ge (tgt := 34) hx hb dX4_dropOldest_11 (by decide) (fun c9 => absurd c9 (by decide)) (fun c9 => ?_)
  refine lv_aload_n hx hb dX4_dropOldest_14 rfl (lv_at hl 2 rfl) ?_
  refine va_get (D := D) (ci := 2) (v := .ref ka) (C := RX4) (T := TX4) (N := 2) hx hb hts in_X4 hown hK hP 0 rfl rfl 0 (by decide) fl11 (fun _ h9 => h9) rfl dX4_dropOldest_15 ?_
  refine lv_iload_n hx hb dX4_dropOldest_18 rfl (lv_at hl 0 rfl) ?_
  refine lv_iconst (v := 1) hx hb dX4_dropOldest_19 (by decide) ?_
  refine lv_isub hx hb dX4_dropOldest_20 ?_
  refine k_name (v := 2) (by decide) ?_
  refine lv_aload_n hx hb dX4_dropOldest_21 rfl (lv_at hl 2 rfl) ?_
  refine va_get (D := D) (ci := 2) (v := .ref ka) (C := RX4) (T := TX4) (N := 2) hx hb hts in_X4 hown hK hP 0 rfl rfl 0 (by decide) fl11 (fun _ h9 => h9) rfl dX4_dropOldest_22 ?_
  refine lv_iload_n hx hb dX4_dropOldest_25 rfl (lv_at hl 0 rfl) ?_
  refine va_aldq hx hb hK hP 1 2 rfl rfl (k_in (i := 3) (n := 4) (by decide +kernel)) dX4_dropOldest_26 ?_
  refine k_nameq (v := qs.2.2.2) rfl ?_
  refine va_astq hx hb hK hP hD hS 1 2 5 1 rfl rfl rfl rfl (k_in (i := 2) (n := 4) (by decide +kernel)) dX4_dropOldest_27 (fun H locs hP hD hS => ?_)
  have hP : va_P D vwCl [wH h0 ka hs, wK cy ka (qs.2.1, qs.2.2.1, qs.2.2.2, qs.2.2.2), wG qs.1 k0, wG qs.2.1 k1, wG qs.2.2.1 k2, wG qs.2.2.2 k3] H := by rw [k_up4_2] at hP; exact hP
  have hD : va_D A [wH h0 ka hs, wK cy ka (qs.2.1, qs.2.2.1, qs.2.2.2, qs.2.2.2), wG qs.1 k0, wG qs.2.1 k1, wG qs.2.2.1 k2, wG qs.2.2.2 k3] := by rw [k_up4_2] at hD; exact hD
  refine lv_iinc (v := 4) (lv' := [(2, .int 4), (1, .ref qs.1), (0, .ref h0)]) hx hb dX4_dropOldest_28 hl (k := 0) rfl (by decide) (by decide) rfl (fun ls hl => ?_)
  refine lv_goto (tgt := 9) hx hb dX4_dropOldest_31 (by decide) ?_
  refine lv_iload_n hx hb dX4_dropOldest_9 rfl (lv_at hl 0 rfl) ?_
  refine lv_iconst (v := 4) hx hb dX4_dropOldest_10 (by decide) ?_
  refine lv_icmp_ge (tgt := 34) hx hb dX4_dropOldest_11 (by decide) (fun c9 => ?_) (fun c9 => absurd c9 (by decide))
  refine lv_aload_n hx hb dX4_dropOldest_34 rfl (lv_at hl 2 rfl) ?_
  refine va_get (D := D) (ci := 2) (v := .ref ka) (C := RX4) (T := TX4) (N := 2) hx hb hts in_X4 hown hK hP 0 rfl rfl 0 (by decide) fl11 (fun _ h9 => h9) rfl dX4_dropOldest_35 ?_
  refine lv_iconst (v := 3) hx hb dX4_dropOldest_38 (by decide) ?_
  refine lv_aload_n hx hb dX4_dropOldest_39 rfl (lv_at hl 1 rfl) ?_
  refine va_astq hx hb hK hP hD hS 1 2 2 1 rfl rfl rfl rfl (k_in (i := 3) (n := 4) (by decide +kernel)) dX4_dropOldest_40 (fun H locs hP hD hS => ?_)
  have hP : va_P D vwCl [wH h0 ka hs, wK cy ka (qs.2.1, qs.2.2.1, qs.2.2.2, qs.1), wG qs.1 k0, wG qs.2.1 k1, wG qs.2.2.1 k2, wG qs.2.2.2 k3] H := by rw [k_up4_3] at hP; exact hP
  have hD : va_D A [wH h0 ka hs, wK cy ka (qs.2.1, qs.2.2.1, qs.2.2.2, qs.1), wG qs.1 k0, wG qs.2.1 k1, wG qs.2.2.1 k2, wG qs.2.2.2 k3] := by rw [k_up4_3] at hD; exact hD
  refine lv_aload_n hx hb dX4_dropOldest_41 rfl (lv_at hl 2 rfl) ?_
  refine lv_dup hx hb dX4_dropOldest_42 rfl ?_
  refine va_get (D := D) (ci := 2) (v := .int hs) (C := RX4) (T := TX4) (N := 2) hx hb hts in_X4 hown hK hP 0 rfl rfl 1 (by decide) fl18 (fun _ h9 => h9) rfl dX4_dropOldest_43 ?_
  refine lv_iconst (v := 1) hx hb dX4_dropOldest_46 (by decide) ?_
  refine lv_isub hx hb dX4_dropOldest_47 ?_
  obtain ⟨y1, ey1, hf⟩ := k_L hf
  refine k_name ey1 ?_
  refine va_put (D := D) (ci := 2) (v := .int y1) (ty := .int) (C := RX4) (T := TX4) (N := 2) hx hb hts in_X4 tyX4 tyX4_ok nmX4 hown hK hP hD hS 0 rfl rfl 1 (by decide) fl18 (fun _ h9 => h9) rfl (by decide +kernel) rfl rfl (Nat.le_of_ble_eq_true rfl) dX4_dropOldest_48 (fun H locs hP hD hS => ?_)
  have hP : va_P D vwCl [wH h0 ka y1, wK cy ka (qs.2.1, qs.2.2.1, qs.2.2.2, qs.1), wG qs.1 k0, wG qs.2.1 k1, wG qs.2.2.1 k2, wG qs.2.2.2 k3] H := hP
  have hD : va_D A [wH h0 ka y1, wK cy ka (qs.2.1, qs.2.2.1, qs.2.2.2, qs.1), wG qs.1 k0, wG qs.2.1 k1, wG qs.2.2.1 k2, wG qs.2.2.2 k3] := hD
  have hP := hP.sub (ws' := [wH h0 ka y1, wK cy ka (qs.2.1, qs.2.2.1, qs.2.2.2, qs.1), wG qs.2.1 k1, wG qs.2.2.1 k2, wG qs.2.2.2 k3, wG qs.1 k0]) [0, 1, 3, 4, 5, 2] rfl
  have hD := hD.sub (ws' := [wH h0 ka y1, wK cy ka (qs.2.1, qs.2.2.1, qs.2.2.2, qs.1), wG qs.2.1 k1, wG qs.2.2.1 k2, wG qs.2.2.2 k3, wG qs.1 k0]) [0, 1, 3, 4, 5, 2] rfl rfl
  obtain rfl := k_some hf
  exact k_vret hx hb hr hP hD hS dX4_dropOldest_51 hlocks
def f_X4_record (hs : Int32) (qs : k_Q4) (k0 : k_G8) (k1 : k_G8) (k2 : k_G8) (k3 : k_G8) (g : k_G8) : Option (Int32 × k_Q4 × k_G8 × k_G8 × k_G8 × k_G8) :=
  if hs = 4 then
    (f_X4_dropOldest hs qs k0 k1 k2 k3).bind fun v14 =>
    if v14.1 = 0 then
      (f_X2_copyFrom v14.2.2.1 g).bind fun v16 =>
      k_let (v14.1 + 1) fun y17 =>
      some (y17, v14.2.1, v16, v14.2.2.2.1, v14.2.2.2.2.1, v14.2.2.2.2.2)
    else
      if v14.1 = 1 then
        (f_X2_copyFrom v14.2.2.2.1 g).bind fun v19 =>
        k_let (v14.1 + 1) fun y20 =>
        some (y20, v14.2.1, v14.2.2.1, v19, v14.2.2.2.2.1, v14.2.2.2.2.2)
      else
        if v14.1 = 2 then
          (f_X2_copyFrom v14.2.2.2.2.1 g).bind fun v22 =>
          k_let (v14.1 + 1) fun y23 =>
          some (y23, v14.2.1, v14.2.2.1, v14.2.2.2.1, v22, v14.2.2.2.2.2)
        else
          if v14.1 = 3 then
            (f_X2_copyFrom v14.2.2.2.2.2 g).bind fun v25 =>
            k_let (v14.1 + 1) fun y26 =>
            some (y26, v14.2.1, v14.2.2.1, v14.2.2.2.1, v14.2.2.2.2.1, v25)
          else
            none
  else
    if hs = 0 then
      (f_X2_copyFrom k0 g).bind fun v3 =>
      k_let (hs + 1) fun y4 =>
      some (y4, qs, v3, k1, k2, k3)
    else
      if hs = 1 then
        (f_X2_copyFrom k1 g).bind fun v6 =>
        k_let (hs + 1) fun y7 =>
        some (y7, qs, k0, v6, k2, k3)
      else
        if hs = 2 then
          (f_X2_copyFrom k2 g).bind fun v9 =>
          k_let (hs + 1) fun y10 =>
          some (y10, qs, k0, k1, v9, k3)
        else
          if hs = 3 then
            (f_X2_copyFrom k3 g).bind fun v12 =>
            k_let (hs + 1) fun y13 =>
            some (y13, qs, k0, k1, k2, v12)
          else
            none
abbrev rm_X4_record : Room := { frames := 1, cells := 0, slots := 0, locals := 22 }
theorem hd_X4_record : yX4_record.cls = RX4 ∧ yX4_record.cls ≠ "java/lang/invoke/MethodHandle" ∧ yX4_record.cls ≠ "java/lang/invoke/VarHandle" ∧ (parseMethodDescriptor yX4_record.desc).map (fun d => d.parameters.length) = some 1 := by decide +kernel
set_option maxHeartbeats 4000000 in
set_option maxRecDepth 100000 in
theorem c_X4_record (l : Launch) (D : va_G) (cy : Nat → ClassId) (h0 ka a1 : Nat) (hs : Int32) (qs : k_Q4) (k0 : k_G8) (k1 : k_G8) (k2 : k_G8) (k3 : k_G8) (g : k_G8)  (r : Int32 × k_Q4 × k_G8 × k_G8 × k_G8 × k_G8) (hf : f_X4_record hs qs k0 k1 k2 k3 g = some r) : k_HMet l yX4_record wsX4_record rm_X4_record D (k_tys cy) [.ref h0, .ref a1] [wH h0 ka hs, wK cy ka qs, wG qs.1 k0, wG qs.2.1 k1, wG qs.2.2.1 k2, wG qs.2.2.2 k3, wG a1 g] none [wH h0 ka r.1, wK cy ka r.2.1, wG r.2.1.1 r.2.2.1, wG r.2.1.2.1 r.2.2.2.1, wG r.2.1.2.2.1 r.2.2.2.2.1, wG r.2.1.2.2.2 r.2.2.2.2.2, wG a1 g] := by
  refine k_heapOf (cc := cX4_record) (maxL := 2) (ret := none) (by decide) rfl (Nat.le_of_ble_eq_true rfl) ?_
  intro p e s m args below meth c ls A hx hb hr hlocks hml hown hts hl hA hK hP hD hN
  have hl : lv_has ls 2 [(0, .ref h0), (1, .ref a1)] := hl
  have hS : va_S A s.heap s.heap [] := va_S.rf
  have in_X4 : ∀ w ∈ wsX40, w ∈ wsX4_record := by decide +kernel
  have fl11 := hts (.fieldLink RX4 11 "FencedBoxes$History" "kept" "[LFencedBoxes$Game;") (by decide +kernel)
  have fl18 := hts (.fieldLink RX4 18 "FencedBoxes$History" "size" "I") (by decide +kernel)
  unfold f_X4_record at hf
  obtain ⟨H, eH⟩ : ∃ H, H = s.heap := ⟨_, rfl⟩
  obtain ⟨locs, elocs⟩ : ∃ L : List Loc, L = [] := ⟨_, rfl⟩
  have hP : va_P D vwCl [wH h0 ka hs, wK cy ka qs, wG qs.1 k0, wG qs.2.1 k1, wG qs.2.2.1 k2, wG qs.2.2.2 k3, wG a1 g] H := by rw [eH]; exact hP
  have hS : va_S A s.heap H locs := by rw [eH, elocs]; exact hS
  refine k_here eH elocs ?_
  refine lv_aload_n hx hb dX4_record_0 rfl (lv_at hl 0 rfl) ?_
  refine va_get (D := D) (ci := 2) (v := .int hs) (C := RX4) (T := TX4) (N := 2) hx hb hts in_X4 hown hK hP 0 rfl rfl 1 (by decide) fl18 (fun _ h9 => h9) rfl dX4_record_1 ?_
  refine lv_iconst (v := 4) hx hb dX4_record_4 (by decide) ?_
  refine lv_icmp_ne (tgt := 12) hx hb dX4_record_5 (by decide) (fun c1 => ?_) (fun c1 => ?_)
  · have hf := k_F c1 hf
    refine lv_aload_n hx hb dX4_record_12 rfl (lv_at hl 0 rfl) ?_
    refine va_get (D := D) (ci := 2) (v := .ref ka) (C := RX4) (T := TX4) (N := 2) hx hb hts in_X4 hown hK hP 0 rfl rfl 0 (by decide) fl11 (fun _ h9 => h9) rfl dX4_record_13 ?_
    refine lv_aload_n hx hb dX4_record_16 rfl (lv_at hl 0 rfl) ?_
    refine va_get (D := D) (ci := 2) (v := .int hs) (C := RX4) (T := TX4) (N := 2) hx hb hts in_X4 hown hK hP 0 rfl rfl 1 (by decide) fl18 (fun _ h9 => h9) rfl dX4_record_17 ?_
    by_cases c2 : hs = 0
    · have hf := k_T c2 hf
      refine k_name (v := 0) c2.symm ?_
      refine va_aldq hx hb hK hP 1 2 rfl rfl (k_in (i := 0) (n := 4) (by decide +kernel)) dX4_record_20 ?_
      refine k_nameq (v := qs.1) rfl ?_
      refine lv_aload_n hx hb dX4_record_21 rfl (lv_at hl 1 rfl) ?_
      obtain ⟨v3, hv3, hf⟩ := k_B hf
      refine k_callHV (As := [.ref a1]) (rest := []) (r := (RX2, TX2, 8)) (ci := 1) (q0 := 2) (isC := [2, 6]) (isR := [0, 1, 3, 4, 5]) (perm := [0, 1, 5, 2, 3, 4, 6]) (w' := [wH h0 ka hs, wK cy ka qs, wG qs.1 v3, wG qs.2.1 k1, wG qs.2.2.1 k2, wG qs.2.2.2 k3, wG a1 g]) ⟨hx, hb, hml, hown, hts⟩ (c_X2_copyFrom l D cy qs.1 a1 k0 g  v3 hv3) (cwV 1 hts gX4_record_X2_copyFrom rfl rfl rfl hd_X2_copyFrom ⟨Nat.le_of_ble_eq_true rfl, Nat.le_of_ble_eq_true rfl⟩) hK hN hP hD hS hA rfl rfl rfl rfl rfl rfl (by decide) rfl rfl rfl hl.1 rfl (Nat.le_of_ble_eq_true rfl) dX4_record_22 ⟨Nat.zero_le _, Nat.zero_le _⟩ (fun H locs hP hD hS => ?_)
      refine lv_aload_n hx hb dX4_record_25 rfl (lv_at hl 0 rfl) ?_
      refine lv_dup hx hb dX4_record_26 rfl ?_
      refine va_get (D := D) (ci := 2) (v := .int hs) (C := RX4) (T := TX4) (N := 2) hx hb hts in_X4 hown hK hP 0 rfl rfl 1 (by decide) fl18 (fun _ h9 => h9) rfl dX4_record_27 ?_
      refine lv_iconst (v := 1) hx hb dX4_record_30 (by decide) ?_
      refine lv_iadd hx hb dX4_record_31 ?_
      obtain ⟨y4, ey4, hf⟩ := k_L hf
      refine k_name ey4 ?_
      refine va_put (D := D) (ci := 2) (v := .int y4) (ty := .int) (C := RX4) (T := TX4) (N := 2) hx hb hts in_X4 tyX4 tyX4_ok nmX4 hown hK hP hD hS 0 rfl rfl 1 (by decide) fl18 (fun _ h9 => h9) rfl (by decide +kernel) rfl rfl (Nat.le_of_ble_eq_true rfl) dX4_record_32 (fun H locs hP hD hS => ?_)
      have hP : va_P D vwCl [wH h0 ka y4, wK cy ka qs, wG qs.1 v3, wG qs.2.1 k1, wG qs.2.2.1 k2, wG qs.2.2.2 k3, wG a1 g] H := hP
      have hD : va_D A [wH h0 ka y4, wK cy ka qs, wG qs.1 v3, wG qs.2.1 k1, wG qs.2.2.1 k2, wG qs.2.2.2 k3, wG a1 g] := hD
      obtain rfl := k_some hf
      exact k_vret hx hb hr hP hD hS dX4_record_35 hlocks
    · have hf := k_F c2 hf
      by_cases c5 : hs = 1
      · have hf := k_T c5 hf
        refine k_name (v := 1) c5.symm ?_
        refine va_aldq hx hb hK hP 1 2 rfl rfl (k_in (i := 1) (n := 4) (by decide +kernel)) dX4_record_20 ?_
        refine k_nameq (v := qs.2.1) rfl ?_
        refine lv_aload_n hx hb dX4_record_21 rfl (lv_at hl 1 rfl) ?_
        obtain ⟨v6, hv6, hf⟩ := k_B hf
        refine k_callHV (As := [.ref a1]) (rest := []) (r := (RX2, TX2, 8)) (ci := 1) (q0 := 3) (isC := [3, 6]) (isR := [0, 1, 2, 4, 5]) (perm := [0, 1, 2, 5, 3, 4, 6]) (w' := [wH h0 ka hs, wK cy ka qs, wG qs.1 k0, wG qs.2.1 v6, wG qs.2.2.1 k2, wG qs.2.2.2 k3, wG a1 g]) ⟨hx, hb, hml, hown, hts⟩ (c_X2_copyFrom l D cy qs.2.1 a1 k1 g  v6 hv6) (cwV 1 hts gX4_record_X2_copyFrom rfl rfl rfl hd_X2_copyFrom ⟨Nat.le_of_ble_eq_true rfl, Nat.le_of_ble_eq_true rfl⟩) hK hN hP hD hS hA rfl rfl rfl rfl rfl rfl (by decide) rfl rfl rfl hl.1 rfl (Nat.le_of_ble_eq_true rfl) dX4_record_22 ⟨Nat.zero_le _, Nat.zero_le _⟩ (fun H locs hP hD hS => ?_)
        refine lv_aload_n hx hb dX4_record_25 rfl (lv_at hl 0 rfl) ?_
        refine lv_dup hx hb dX4_record_26 rfl ?_
        refine va_get (D := D) (ci := 2) (v := .int hs) (C := RX4) (T := TX4) (N := 2) hx hb hts in_X4 hown hK hP 0 rfl rfl 1 (by decide) fl18 (fun _ h9 => h9) rfl dX4_record_27 ?_
        refine lv_iconst (v := 1) hx hb dX4_record_30 (by decide) ?_
        refine lv_iadd hx hb dX4_record_31 ?_
        obtain ⟨y7, ey7, hf⟩ := k_L hf
        refine k_name ey7 ?_
        refine va_put (D := D) (ci := 2) (v := .int y7) (ty := .int) (C := RX4) (T := TX4) (N := 2) hx hb hts in_X4 tyX4 tyX4_ok nmX4 hown hK hP hD hS 0 rfl rfl 1 (by decide) fl18 (fun _ h9 => h9) rfl (by decide +kernel) rfl rfl (Nat.le_of_ble_eq_true rfl) dX4_record_32 (fun H locs hP hD hS => ?_)
        have hP : va_P D vwCl [wH h0 ka y7, wK cy ka qs, wG qs.1 k0, wG qs.2.1 v6, wG qs.2.2.1 k2, wG qs.2.2.2 k3, wG a1 g] H := hP
        have hD : va_D A [wH h0 ka y7, wK cy ka qs, wG qs.1 k0, wG qs.2.1 v6, wG qs.2.2.1 k2, wG qs.2.2.2 k3, wG a1 g] := hD
        obtain rfl := k_some hf
        exact k_vret hx hb hr hP hD hS dX4_record_35 hlocks
      · have hf := k_F c5 hf
        by_cases c8 : hs = 2
        · have hf := k_T c8 hf
          refine k_name (v := 2) c8.symm ?_
          refine va_aldq hx hb hK hP 1 2 rfl rfl (k_in (i := 2) (n := 4) (by decide +kernel)) dX4_record_20 ?_
          refine k_nameq (v := qs.2.2.1) rfl ?_
          refine lv_aload_n hx hb dX4_record_21 rfl (lv_at hl 1 rfl) ?_
          obtain ⟨v9, hv9, hf⟩ := k_B hf
          refine k_callHV (As := [.ref a1]) (rest := []) (r := (RX2, TX2, 8)) (ci := 1) (q0 := 4) (isC := [4, 6]) (isR := [0, 1, 2, 3, 5]) (perm := [0, 1, 2, 3, 5, 4, 6]) (w' := [wH h0 ka hs, wK cy ka qs, wG qs.1 k0, wG qs.2.1 k1, wG qs.2.2.1 v9, wG qs.2.2.2 k3, wG a1 g]) ⟨hx, hb, hml, hown, hts⟩ (c_X2_copyFrom l D cy qs.2.2.1 a1 k2 g  v9 hv9) (cwV 1 hts gX4_record_X2_copyFrom rfl rfl rfl hd_X2_copyFrom ⟨Nat.le_of_ble_eq_true rfl, Nat.le_of_ble_eq_true rfl⟩) hK hN hP hD hS hA rfl rfl rfl rfl rfl rfl (by decide) rfl rfl rfl hl.1 rfl (Nat.le_of_ble_eq_true rfl) dX4_record_22 ⟨Nat.zero_le _, Nat.zero_le _⟩ (fun H locs hP hD hS => ?_)
          refine lv_aload_n hx hb dX4_record_25 rfl (lv_at hl 0 rfl) ?_
          refine lv_dup hx hb dX4_record_26 rfl ?_
          refine va_get (D := D) (ci := 2) (v := .int hs) (C := RX4) (T := TX4) (N := 2) hx hb hts in_X4 hown hK hP 0 rfl rfl 1 (by decide) fl18 (fun _ h9 => h9) rfl dX4_record_27 ?_
          refine lv_iconst (v := 1) hx hb dX4_record_30 (by decide) ?_
          refine lv_iadd hx hb dX4_record_31 ?_
          obtain ⟨y10, ey10, hf⟩ := k_L hf
          refine k_name ey10 ?_
          refine va_put (D := D) (ci := 2) (v := .int y10) (ty := .int) (C := RX4) (T := TX4) (N := 2) hx hb hts in_X4 tyX4 tyX4_ok nmX4 hown hK hP hD hS 0 rfl rfl 1 (by decide) fl18 (fun _ h9 => h9) rfl (by decide +kernel) rfl rfl (Nat.le_of_ble_eq_true rfl) dX4_record_32 (fun H locs hP hD hS => ?_)
          have hP : va_P D vwCl [wH h0 ka y10, wK cy ka qs, wG qs.1 k0, wG qs.2.1 k1, wG qs.2.2.1 v9, wG qs.2.2.2 k3, wG a1 g] H := hP
          have hD : va_D A [wH h0 ka y10, wK cy ka qs, wG qs.1 k0, wG qs.2.1 k1, wG qs.2.2.1 v9, wG qs.2.2.2 k3, wG a1 g] := hD
          obtain rfl := k_some hf
          exact k_vret hx hb hr hP hD hS dX4_record_35 hlocks
        · have hf := k_F c8 hf
          by_cases c11 : hs = 3
          · have hf := k_T c11 hf
            refine k_name (v := 3) c11.symm ?_
            refine va_aldq hx hb hK hP 1 2 rfl rfl (k_in (i := 3) (n := 4) (by decide +kernel)) dX4_record_20 ?_
            refine k_nameq (v := qs.2.2.2) rfl ?_
            refine lv_aload_n hx hb dX4_record_21 rfl (lv_at hl 1 rfl) ?_
            obtain ⟨v12, hv12, hf⟩ := k_B hf
            refine k_callHV (As := [.ref a1]) (rest := []) (r := (RX2, TX2, 8)) (ci := 1) (q0 := 5) (isC := [5, 6]) (isR := [0, 1, 2, 3, 4]) (perm := [0, 1, 2, 3, 4, 5, 6]) (w' := [wH h0 ka hs, wK cy ka qs, wG qs.1 k0, wG qs.2.1 k1, wG qs.2.2.1 k2, wG qs.2.2.2 v12, wG a1 g]) ⟨hx, hb, hml, hown, hts⟩ (c_X2_copyFrom l D cy qs.2.2.2 a1 k3 g  v12 hv12) (cwV 1 hts gX4_record_X2_copyFrom rfl rfl rfl hd_X2_copyFrom ⟨Nat.le_of_ble_eq_true rfl, Nat.le_of_ble_eq_true rfl⟩) hK hN hP hD hS hA rfl rfl rfl rfl rfl rfl (by decide) rfl rfl rfl hl.1 rfl (Nat.le_of_ble_eq_true rfl) dX4_record_22 ⟨Nat.zero_le _, Nat.zero_le _⟩ (fun H locs hP hD hS => ?_)
            refine lv_aload_n hx hb dX4_record_25 rfl (lv_at hl 0 rfl) ?_
            refine lv_dup hx hb dX4_record_26 rfl ?_
            refine va_get (D := D) (ci := 2) (v := .int hs) (C := RX4) (T := TX4) (N := 2) hx hb hts in_X4 hown hK hP 0 rfl rfl 1 (by decide) fl18 (fun _ h9 => h9) rfl dX4_record_27 ?_
            refine lv_iconst (v := 1) hx hb dX4_record_30 (by decide) ?_
            refine lv_iadd hx hb dX4_record_31 ?_
            obtain ⟨y13, ey13, hf⟩ := k_L hf
            refine k_name ey13 ?_
            refine va_put (D := D) (ci := 2) (v := .int y13) (ty := .int) (C := RX4) (T := TX4) (N := 2) hx hb hts in_X4 tyX4 tyX4_ok nmX4 hown hK hP hD hS 0 rfl rfl 1 (by decide) fl18 (fun _ h9 => h9) rfl (by decide +kernel) rfl rfl (Nat.le_of_ble_eq_true rfl) dX4_record_32 (fun H locs hP hD hS => ?_)
            have hP : va_P D vwCl [wH h0 ka y13, wK cy ka qs, wG qs.1 k0, wG qs.2.1 k1, wG qs.2.2.1 k2, wG qs.2.2.2 v12, wG a1 g] H := hP
            have hD : va_D A [wH h0 ka y13, wK cy ka qs, wG qs.1 k0, wG qs.2.1 k1, wG qs.2.2.1 k2, wG qs.2.2.2 v12, wG a1 g] := hD
            obtain rfl := k_some hf
            exact k_vret hx hb hr hP hD hS dX4_record_35 hlocks
          · have hf := k_F c11 hf
            cases hf
  · have hf := k_T c1 hf
    refine lv_aload_n hx hb dX4_record_8 rfl (lv_at hl 0 rfl) ?_
    obtain ⟨v14, hv14, hf⟩ := k_B hf
    refine k_callHV (As := []) (rest := []) (r := (RX4, TX4, 2)) (ci := 2) (q0 := 0) (isC := [0, 1, 2, 3, 4, 5]) (isR := [6]) (perm := [1, 2, 3, 4, 5, 6, 0]) (w' := [wH h0 ka v14.1, wK cy ka v14.2.1, wG v14.2.1.1 v14.2.2.1, wG v14.2.1.2.1 v14.2.2.2.1, wG v14.2.1.2.2.1 v14.2.2.2.2.1, wG v14.2.1.2.2.2 v14.2.2.2.2.2, wG a1 g]) ⟨hx, hb, hml, hown, hts⟩ (c_X4_dropOldest l D cy h0 ka hs qs k0 k1 k2 k3  v14 hv14) (cwV 0 hts gX4_record_X4_dropOldest rfl rfl rfl hd_X4_dropOldest ⟨Nat.le_of_ble_eq_true rfl, Nat.le_of_ble_eq_true rfl⟩) hK hN hP hD hS hA rfl rfl rfl rfl rfl rfl (by decide) rfl rfl rfl hl.1 rfl (Nat.le_of_ble_eq_true rfl) dX4_record_9 ⟨Nat.zero_le _, Nat.zero_le _⟩ (fun H locs hP hD hS => ?_)
    refine lv_aload_n hx hb dX4_record_12 rfl (lv_at hl 0 rfl) ?_
    refine va_get (D := D) (ci := 2) (v := .ref ka) (C := RX4) (T := TX4) (N := 2) hx hb hts in_X4 hown hK hP 0 rfl rfl 0 (by decide) fl11 (fun _ h9 => h9) rfl dX4_record_13 ?_
    refine lv_aload_n hx hb dX4_record_16 rfl (lv_at hl 0 rfl) ?_
    refine va_get (D := D) (ci := 2) (v := .int v14.1) (C := RX4) (T := TX4) (N := 2) hx hb hts in_X4 hown hK hP 0 rfl rfl 1 (by decide) fl18 (fun _ h9 => h9) rfl dX4_record_17 ?_
    by_cases c15 : v14.1 = 0
    · have hf := k_T c15 hf
      refine k_name (v := 0) c15.symm ?_
      refine va_aldq hx hb hK hP 1 2 rfl rfl (k_in (i := 0) (n := 4) (by decide +kernel)) dX4_record_20 ?_
      refine k_nameq (v := v14.2.1.1) rfl ?_
      refine lv_aload_n hx hb dX4_record_21 rfl (lv_at hl 1 rfl) ?_
      obtain ⟨v16, hv16, hf⟩ := k_B hf
      refine k_callHV (As := [.ref a1]) (rest := []) (r := (RX2, TX2, 8)) (ci := 1) (q0 := 2) (isC := [2, 6]) (isR := [0, 1, 3, 4, 5]) (perm := [0, 1, 5, 2, 3, 4, 6]) (w' := [wH h0 ka v14.1, wK cy ka v14.2.1, wG v14.2.1.1 v16, wG v14.2.1.2.1 v14.2.2.2.1, wG v14.2.1.2.2.1 v14.2.2.2.2.1, wG v14.2.1.2.2.2 v14.2.2.2.2.2, wG a1 g]) ⟨hx, hb, hml, hown, hts⟩ (c_X2_copyFrom l D cy v14.2.1.1 a1 v14.2.2.1 g  v16 hv16) (cwV 1 hts gX4_record_X2_copyFrom rfl rfl rfl hd_X2_copyFrom ⟨Nat.le_of_ble_eq_true rfl, Nat.le_of_ble_eq_true rfl⟩) hK hN hP hD hS hA rfl rfl rfl rfl rfl rfl (by decide) rfl rfl rfl hl.1 rfl (Nat.le_of_ble_eq_true rfl) dX4_record_22 ⟨Nat.zero_le _, Nat.zero_le _⟩ (fun H locs hP hD hS => ?_)
      refine lv_aload_n hx hb dX4_record_25 rfl (lv_at hl 0 rfl) ?_
      refine lv_dup hx hb dX4_record_26 rfl ?_
      refine va_get (D := D) (ci := 2) (v := .int v14.1) (C := RX4) (T := TX4) (N := 2) hx hb hts in_X4 hown hK hP 0 rfl rfl 1 (by decide) fl18 (fun _ h9 => h9) rfl dX4_record_27 ?_
      refine lv_iconst (v := 1) hx hb dX4_record_30 (by decide) ?_
      refine lv_iadd hx hb dX4_record_31 ?_
      obtain ⟨y17, ey17, hf⟩ := k_L hf
      refine k_name ey17 ?_
      refine va_put (D := D) (ci := 2) (v := .int y17) (ty := .int) (C := RX4) (T := TX4) (N := 2) hx hb hts in_X4 tyX4 tyX4_ok nmX4 hown hK hP hD hS 0 rfl rfl 1 (by decide) fl18 (fun _ h9 => h9) rfl (by decide +kernel) rfl rfl (Nat.le_of_ble_eq_true rfl) dX4_record_32 (fun H locs hP hD hS => ?_)
      have hP : va_P D vwCl [wH h0 ka y17, wK cy ka v14.2.1, wG v14.2.1.1 v16, wG v14.2.1.2.1 v14.2.2.2.1, wG v14.2.1.2.2.1 v14.2.2.2.2.1, wG v14.2.1.2.2.2 v14.2.2.2.2.2, wG a1 g] H := hP
      have hD : va_D A [wH h0 ka y17, wK cy ka v14.2.1, wG v14.2.1.1 v16, wG v14.2.1.2.1 v14.2.2.2.1, wG v14.2.1.2.2.1 v14.2.2.2.2.1, wG v14.2.1.2.2.2 v14.2.2.2.2.2, wG a1 g] := hD
      obtain rfl := k_some hf
      exact k_vret hx hb hr hP hD hS dX4_record_35 hlocks
    · have hf := k_F c15 hf
      by_cases c18 : v14.1 = 1
      · have hf := k_T c18 hf
        refine k_name (v := 1) c18.symm ?_
        refine va_aldq hx hb hK hP 1 2 rfl rfl (k_in (i := 1) (n := 4) (by decide +kernel)) dX4_record_20 ?_
        refine k_nameq (v := v14.2.1.2.1) rfl ?_
        refine lv_aload_n hx hb dX4_record_21 rfl (lv_at hl 1 rfl) ?_
        obtain ⟨v19, hv19, hf⟩ := k_B hf
        refine k_callHV (As := [.ref a1]) (rest := []) (r := (RX2, TX2, 8)) (ci := 1) (q0 := 3) (isC := [3, 6]) (isR := [0, 1, 2, 4, 5]) (perm := [0, 1, 2, 5, 3, 4, 6]) (w' := [wH h0 ka v14.1, wK cy ka v14.2.1, wG v14.2.1.1 v14.2.2.1, wG v14.2.1.2.1 v19, wG v14.2.1.2.2.1 v14.2.2.2.2.1, wG v14.2.1.2.2.2 v14.2.2.2.2.2, wG a1 g]) ⟨hx, hb, hml, hown, hts⟩ (c_X2_copyFrom l D cy v14.2.1.2.1 a1 v14.2.2.2.1 g  v19 hv19) (cwV 1 hts gX4_record_X2_copyFrom rfl rfl rfl hd_X2_copyFrom ⟨Nat.le_of_ble_eq_true rfl, Nat.le_of_ble_eq_true rfl⟩) hK hN hP hD hS hA rfl rfl rfl rfl rfl rfl (by decide) rfl rfl rfl hl.1 rfl (Nat.le_of_ble_eq_true rfl) dX4_record_22 ⟨Nat.zero_le _, Nat.zero_le _⟩ (fun H locs hP hD hS => ?_)
        refine lv_aload_n hx hb dX4_record_25 rfl (lv_at hl 0 rfl) ?_
        refine lv_dup hx hb dX4_record_26 rfl ?_
        refine va_get (D := D) (ci := 2) (v := .int v14.1) (C := RX4) (T := TX4) (N := 2) hx hb hts in_X4 hown hK hP 0 rfl rfl 1 (by decide) fl18 (fun _ h9 => h9) rfl dX4_record_27 ?_
        refine lv_iconst (v := 1) hx hb dX4_record_30 (by decide) ?_
        refine lv_iadd hx hb dX4_record_31 ?_
        obtain ⟨y20, ey20, hf⟩ := k_L hf
        refine k_name ey20 ?_
        refine va_put (D := D) (ci := 2) (v := .int y20) (ty := .int) (C := RX4) (T := TX4) (N := 2) hx hb hts in_X4 tyX4 tyX4_ok nmX4 hown hK hP hD hS 0 rfl rfl 1 (by decide) fl18 (fun _ h9 => h9) rfl (by decide +kernel) rfl rfl (Nat.le_of_ble_eq_true rfl) dX4_record_32 (fun H locs hP hD hS => ?_)
        have hP : va_P D vwCl [wH h0 ka y20, wK cy ka v14.2.1, wG v14.2.1.1 v14.2.2.1, wG v14.2.1.2.1 v19, wG v14.2.1.2.2.1 v14.2.2.2.2.1, wG v14.2.1.2.2.2 v14.2.2.2.2.2, wG a1 g] H := hP
        have hD : va_D A [wH h0 ka y20, wK cy ka v14.2.1, wG v14.2.1.1 v14.2.2.1, wG v14.2.1.2.1 v19, wG v14.2.1.2.2.1 v14.2.2.2.2.1, wG v14.2.1.2.2.2 v14.2.2.2.2.2, wG a1 g] := hD
        obtain rfl := k_some hf
        exact k_vret hx hb hr hP hD hS dX4_record_35 hlocks
      · have hf := k_F c18 hf
        by_cases c21 : v14.1 = 2
        · have hf := k_T c21 hf
          refine k_name (v := 2) c21.symm ?_
          refine va_aldq hx hb hK hP 1 2 rfl rfl (k_in (i := 2) (n := 4) (by decide +kernel)) dX4_record_20 ?_
          refine k_nameq (v := v14.2.1.2.2.1) rfl ?_
          refine lv_aload_n hx hb dX4_record_21 rfl (lv_at hl 1 rfl) ?_
          obtain ⟨v22, hv22, hf⟩ := k_B hf
          refine k_callHV (As := [.ref a1]) (rest := []) (r := (RX2, TX2, 8)) (ci := 1) (q0 := 4) (isC := [4, 6]) (isR := [0, 1, 2, 3, 5]) (perm := [0, 1, 2, 3, 5, 4, 6]) (w' := [wH h0 ka v14.1, wK cy ka v14.2.1, wG v14.2.1.1 v14.2.2.1, wG v14.2.1.2.1 v14.2.2.2.1, wG v14.2.1.2.2.1 v22, wG v14.2.1.2.2.2 v14.2.2.2.2.2, wG a1 g]) ⟨hx, hb, hml, hown, hts⟩ (c_X2_copyFrom l D cy v14.2.1.2.2.1 a1 v14.2.2.2.2.1 g  v22 hv22) (cwV 1 hts gX4_record_X2_copyFrom rfl rfl rfl hd_X2_copyFrom ⟨Nat.le_of_ble_eq_true rfl, Nat.le_of_ble_eq_true rfl⟩) hK hN hP hD hS hA rfl rfl rfl rfl rfl rfl (by decide) rfl rfl rfl hl.1 rfl (Nat.le_of_ble_eq_true rfl) dX4_record_22 ⟨Nat.zero_le _, Nat.zero_le _⟩ (fun H locs hP hD hS => ?_)
          refine lv_aload_n hx hb dX4_record_25 rfl (lv_at hl 0 rfl) ?_
          refine lv_dup hx hb dX4_record_26 rfl ?_
          refine va_get (D := D) (ci := 2) (v := .int v14.1) (C := RX4) (T := TX4) (N := 2) hx hb hts in_X4 hown hK hP 0 rfl rfl 1 (by decide) fl18 (fun _ h9 => h9) rfl dX4_record_27 ?_
          refine lv_iconst (v := 1) hx hb dX4_record_30 (by decide) ?_
          refine lv_iadd hx hb dX4_record_31 ?_
          obtain ⟨y23, ey23, hf⟩ := k_L hf
          refine k_name ey23 ?_
          refine va_put (D := D) (ci := 2) (v := .int y23) (ty := .int) (C := RX4) (T := TX4) (N := 2) hx hb hts in_X4 tyX4 tyX4_ok nmX4 hown hK hP hD hS 0 rfl rfl 1 (by decide) fl18 (fun _ h9 => h9) rfl (by decide +kernel) rfl rfl (Nat.le_of_ble_eq_true rfl) dX4_record_32 (fun H locs hP hD hS => ?_)
          have hP : va_P D vwCl [wH h0 ka y23, wK cy ka v14.2.1, wG v14.2.1.1 v14.2.2.1, wG v14.2.1.2.1 v14.2.2.2.1, wG v14.2.1.2.2.1 v22, wG v14.2.1.2.2.2 v14.2.2.2.2.2, wG a1 g] H := hP
          have hD : va_D A [wH h0 ka y23, wK cy ka v14.2.1, wG v14.2.1.1 v14.2.2.1, wG v14.2.1.2.1 v14.2.2.2.1, wG v14.2.1.2.2.1 v22, wG v14.2.1.2.2.2 v14.2.2.2.2.2, wG a1 g] := hD
          obtain rfl := k_some hf
          exact k_vret hx hb hr hP hD hS dX4_record_35 hlocks
        · have hf := k_F c21 hf
          by_cases c24 : v14.1 = 3
          · have hf := k_T c24 hf
            refine k_name (v := 3) c24.symm ?_
            refine va_aldq hx hb hK hP 1 2 rfl rfl (k_in (i := 3) (n := 4) (by decide +kernel)) dX4_record_20 ?_
            refine k_nameq (v := v14.2.1.2.2.2) rfl ?_
            refine lv_aload_n hx hb dX4_record_21 rfl (lv_at hl 1 rfl) ?_
            obtain ⟨v25, hv25, hf⟩ := k_B hf
            refine k_callHV (As := [.ref a1]) (rest := []) (r := (RX2, TX2, 8)) (ci := 1) (q0 := 5) (isC := [5, 6]) (isR := [0, 1, 2, 3, 4]) (perm := [0, 1, 2, 3, 4, 5, 6]) (w' := [wH h0 ka v14.1, wK cy ka v14.2.1, wG v14.2.1.1 v14.2.2.1, wG v14.2.1.2.1 v14.2.2.2.1, wG v14.2.1.2.2.1 v14.2.2.2.2.1, wG v14.2.1.2.2.2 v25, wG a1 g]) ⟨hx, hb, hml, hown, hts⟩ (c_X2_copyFrom l D cy v14.2.1.2.2.2 a1 v14.2.2.2.2.2 g  v25 hv25) (cwV 1 hts gX4_record_X2_copyFrom rfl rfl rfl hd_X2_copyFrom ⟨Nat.le_of_ble_eq_true rfl, Nat.le_of_ble_eq_true rfl⟩) hK hN hP hD hS hA rfl rfl rfl rfl rfl rfl (by decide) rfl rfl rfl hl.1 rfl (Nat.le_of_ble_eq_true rfl) dX4_record_22 ⟨Nat.zero_le _, Nat.zero_le _⟩ (fun H locs hP hD hS => ?_)
            refine lv_aload_n hx hb dX4_record_25 rfl (lv_at hl 0 rfl) ?_
            refine lv_dup hx hb dX4_record_26 rfl ?_
            refine va_get (D := D) (ci := 2) (v := .int v14.1) (C := RX4) (T := TX4) (N := 2) hx hb hts in_X4 hown hK hP 0 rfl rfl 1 (by decide) fl18 (fun _ h9 => h9) rfl dX4_record_27 ?_
            refine lv_iconst (v := 1) hx hb dX4_record_30 (by decide) ?_
            refine lv_iadd hx hb dX4_record_31 ?_
            obtain ⟨y26, ey26, hf⟩ := k_L hf
            refine k_name ey26 ?_
            refine va_put (D := D) (ci := 2) (v := .int y26) (ty := .int) (C := RX4) (T := TX4) (N := 2) hx hb hts in_X4 tyX4 tyX4_ok nmX4 hown hK hP hD hS 0 rfl rfl 1 (by decide) fl18 (fun _ h9 => h9) rfl (by decide +kernel) rfl rfl (Nat.le_of_ble_eq_true rfl) dX4_record_32 (fun H locs hP hD hS => ?_)
            have hP : va_P D vwCl [wH h0 ka y26, wK cy ka v14.2.1, wG v14.2.1.1 v14.2.2.1, wG v14.2.1.2.1 v14.2.2.2.1, wG v14.2.1.2.2.1 v14.2.2.2.2.1, wG v14.2.1.2.2.2 v25, wG a1 g] H := hP
            have hD : va_D A [wH h0 ka y26, wK cy ka v14.2.1, wG v14.2.1.1 v14.2.2.1, wG v14.2.1.2.1 v14.2.2.2.1, wG v14.2.1.2.2.1 v14.2.2.2.2.1, wG v14.2.1.2.2.2 v25, wG a1 g] := hD
            obtain rfl := k_some hf
            exact k_vret hx hb hr hP hD hS dX4_record_35 hlocks
          · have hf := k_F c24 hf
            cases hf
def t_X1_drawnBut_5 (b1 : Int32) (es : Int32) (op : Nat → Int32) (s5 : Int32 × Int32) : Option ((Int32 × Int32) ⊕ (Int32 × Int32)) :=
  if es ≤ s5.2 then
    some (.inr (s5.1, s5.2))
  else
    (f_X3_has b1 s5.2).bind fun v2 =>
    if v2 = 0 then
      some (.inl (s5.1, s5.2 + 1))
    else
      if s5.2 < 0 ∨ 8 ≤ s5.2.toNatClampNeg then none else
      k_let (s5.1 &&& (((1 : Int32) <<< ((op s5.2.toNatClampNeg) &&& 31)) ^^^ (-1))) fun y5 =>
      some (.inl (y5, s5.2 + 1))
def f_X1_drawnBut (n1 : Int32) (es : Int32) (op : Nat → Int32) : Option (Int32) :=
  (k_loop (t_X1_drawnBut_5 n1 es op) 1000 (2147483647, 0)).bind fun x6 =>
  some x6.1
abbrev rm_X1_drawnBut : Room := { frames := 1, cells := 0, slots := 0, locals := 21 }
theorem hd_X1_drawnBut : yX1_drawnBut.cls = RX1 ∧ yX1_drawnBut.cls ≠ "java/lang/invoke/MethodHandle" ∧ yX1_drawnBut.cls ≠ "java/lang/invoke/VarHandle" ∧ (parseMethodDescriptor yX1_drawnBut.desc).map (fun d => d.parameters.length) = some 1 := by decide +kernel
set_option maxHeartbeats 4000000 in
set_option maxRecDepth 100000 in
theorem c_X1_drawnBut (l : Launch) (D : va_G) (cy : Nat → ClassId) (h0 opa foa : Nat) (es : Int32) (op : Nat → Int32) (fo : Nat → Int32) (n1 : Int32) (r : Int32) (hf : f_X1_drawnBut n1 es op = some r) : k_HMet l yX1_drawnBut wsX1_drawnBut rm_X1_drawnBut D (k_tys cy) [.ref h0, .int n1] [wE h0 opa foa es, wR cy 0 8 opa op, wR cy 0 256 foa fo] (some (.int r)) [wE h0 opa foa es, wR cy 0 8 opa op, wR cy 0 256 foa fo] := by
  refine k_heapOf (cc := cX1_drawnBut) (maxL := 4) (ret := (some .int)) (by decide) rfl (Nat.le_of_ble_eq_true rfl) ?_
  intro p e s m args below meth c ls A hx hb hr hlocks hml hown hts hl hA hK hP hD hN
  have hl : lv_has ls 4 [(0, .ref h0), (1, .int n1)] := hl
  have hS : va_S A s.heap s.heap [] := va_S.rf
  have in_X1 : ∀ w ∈ wsX10, w ∈ wsX1_drawnBut := by decide +kernel
  have fl9 := hts (.fieldLink RX1 9 "FencedBoxes$Ends" "open" "[I") (by decide +kernel)
  have fl24 := hts (.fieldLink RX1 24 "FencedBoxes$Ends" "size" "I") (by decide +kernel)
  have L5 : ∀ (Q : State → Prop) (n : Nat) (b1 : Int32) (es : Int32) (op : Nat → Int32) (fo : Nat → Int32) (s5 : Int32 × Int32) (q : (Int32 × Int32)), k_loop (t_X1_drawnBut_5 b1 es op) n s5 = some q → ∀ (ls : Array Slot) (H : Heap) (locs : List Loc), lv_has ls 4 [(0, .ref h0), (1, .int b1), (2, .int s5.1), (3, .int s5.2)] → va_P D vwCl [wE h0 opa foa es, wR cy 0 8 opa op, wR cy 0 256 foa fo] H → va_D A [wE h0 opa foa es, wR cy 0 8 opa op, wR cy 0 256 foa fo] → va_S A s.heap H locs → (∀ (ls : Array Slot) (H : Heap) (locs : List Loc), True → lv_has ls 4 [(2, .int q.1)] → va_P D vwCl [wE h0 opa foa es, wR cy 0 8 opa op, wR cy 0 256 foa fo] H → va_D A [wE h0 opa foa es, wR cy 0 8 opa op, wR cy 0 256 foa fo] → va_S A s.heap H locs → W p l e rm_X1_drawnBut s m args below meth c H locs 0 0 Q (F0 m 40 ls [])) → W p l e rm_X1_drawnBut s m args below meth c H locs 0 0 Q (F0 m 5 ls []) := by
    intro Q n
    induction n with
    | zero =>
      intro b1 es op fo s5 q hq
      exact (k_loop0 hq).elim
    | succ n ih =>
      intro b1 es op fo s5 q hq ls H locs hl hP hD hS kx 
      obtain ⟨x, hf, hq⟩ := k_loopE hq
      unfold t_X1_drawnBut_5 at hf
      refine lv_iload_n hx hb dX1_drawnBut_5 rfl (lv_at hl 3 rfl) ?_
      refine lv_aload_n hx hb dX1_drawnBut_6 rfl (lv_at hl 0 rfl) ?_
      refine va_get (D := D) (ci := 0) (v := .int es) (C := RX1) (T := TX1) (N := 3) hx hb hts in_X1 hown hK hP 0 rfl rfl 2 (by decide) fl24 (fun _ h9 => h9) rfl dX1_drawnBut_7 ?_
      refine lv_icmp_ge (tgt := 40) hx hb dX1_drawnBut_10 (by decide) (fun c1 => ?_) (fun c1 => ?_)
      · have hf := k_T c1 hf
        obtain rfl := k_some hf
        obtain rfl := k_some (k_inr hq)
        exact kx ls H locs trivial (lv_sub hl [2] rfl) hP hD hS
      · have hf := k_F c1 hf
        refine lv_iload_n hx hb dX1_drawnBut_13 rfl (lv_at hl 1 rfl) ?_
        refine lv_iload_n hx hb dX1_drawnBut_14 rfl (lv_at hl 3 rfl) ?_
        obtain ⟨v2, hv2, hf⟩ := k_B hf
        refine k_callS (As := [.int b1, .int s5.2]) (rest := []) ⟨hx, hb, hml, hown, hts⟩ (c_X3_has l b1 s5.2 v2 hv2) (va_cwS 2 hts gX1_drawnBut_X3_has rfl rfl rfl hd_X3_has ⟨Nat.le_of_ble_eq_true rfl, Nat.le_of_ble_eq_true rfl⟩) rfl hl.1 rfl (Nat.le_of_ble_eq_true rfl) dX1_drawnBut_15 ⟨Nat.zero_le _, Nat.zero_le _⟩ ?_
        refine lv_if_eq (tgt := 34) hx hb dX1_drawnBut_18 (by decide) (fun c3 => ?_) (fun c3 => ?_)
        · have hf := k_T c3 hf
          refine lv_iinc (v := s5.2 + 1) (lv' := [(3, .int (s5.2 + 1)), (0, .ref h0), (1, .int b1), (2, .int s5.1)]) hx hb dX1_drawnBut_34 hl (k := 3) rfl rfl (by decide) rfl (fun ls hl => ?_)
          refine lv_goto (tgt := 5) hx hb dX1_drawnBut_37 (by decide) ?_
          obtain rfl := k_some hf
          exact ih b1 es op fo (s5.1, s5.2 + 1) q (k_inl hq) ls H locs (lv_sub hl [1, 2, 3, 0] rfl) hP hD hS kx 
        · have hf := k_F c3 hf
          refine lv_iload_n hx hb dX1_drawnBut_21 rfl (lv_at hl 2 rfl) ?_
          refine lv_iconst (v := 1) hx hb dX1_drawnBut_22 (by decide) ?_
          refine lv_aload_n hx hb dX1_drawnBut_23 rfl (lv_at hl 0 rfl) ?_
          refine va_get (D := D) (ci := 0) (v := .ref opa) (C := RX1) (T := TX1) (N := 3) hx hb hts in_X1 hown hK hP 0 rfl rfl 0 (by decide) fl9 (fun _ h9 => h9) rfl dX1_drawnBut_24 ?_
          refine lv_iload_n hx hb dX1_drawnBut_27 rfl (lv_at hl 3 rfl) ?_
          obtain ⟨g4, hf⟩ := k_G hf
          refine va_iald hx hb hK hP 1 0 rfl rfl g4 dX1_drawnBut_28 ?_
          refine lv_ishl hx hb dX1_drawnBut_29 ?_
          refine lv_iconst (v := (-1)) hx hb dX1_drawnBut_30 (by decide) ?_
          refine lv_ixor hx hb dX1_drawnBut_31 ?_
          refine lv_iand hx hb dX1_drawnBut_32 ?_
          obtain ⟨y5, ey5, hf⟩ := k_L hf
          refine k_name ey5 ?_
          refine lv_istore_n (lv' := [(2, .int y5), (0, .ref h0), (1, .int b1), (3, .int s5.2)]) hx hb dX1_drawnBut_33 rfl hl (by decide) rfl (fun ls hl => ?_)
          refine lv_iinc (v := s5.2 + 1) (lv' := [(3, .int (s5.2 + 1)), (2, .int y5), (0, .ref h0), (1, .int b1)]) hx hb dX1_drawnBut_34 hl (k := 3) rfl rfl (by decide) rfl (fun ls hl => ?_)
          refine lv_goto (tgt := 5) hx hb dX1_drawnBut_37 (by decide) ?_
          obtain rfl := k_some hf
          exact ih b1 es op fo (y5, s5.2 + 1) q (k_inl hq) ls H locs (lv_sub hl [2, 3, 1, 0] rfl) hP hD hS kx 
  unfold f_X1_drawnBut at hf
  obtain ⟨H, eH⟩ : ∃ H, H = s.heap := ⟨_, rfl⟩
  obtain ⟨locs, elocs⟩ : ∃ L : List Loc, L = [] := ⟨_, rfl⟩
  have hP : va_P D vwCl [wE h0 opa foa es, wR cy 0 8 opa op, wR cy 0 256 foa fo] H := by rw [eH]; exact hP
  have hS : va_S A s.heap H locs := by rw [eH, elocs]; exact hS
  refine k_here eH elocs ?_
  refine lv_ldc (v := 2147483647) hx hb hown (hts (.constant RX1 53 2147483647) (by decide +kernel)) dX1_drawnBut_0 ?_
  refine lv_istore_n (lv' := [(2, .int 2147483647), (0, .ref h0), (1, .int n1)]) hx hb dX1_drawnBut_2 rfl hl (by decide) rfl (fun ls hl => ?_)
  refine lv_iconst (v := 0) hx hb dX1_drawnBut_3 (by decide) ?_
  refine lv_istore_n (lv' := [(3, .int 0), (2, .int 2147483647), (0, .ref h0), (1, .int n1)]) hx hb dX1_drawnBut_4 rfl hl (by decide) rfl (fun ls hl => ?_)
  obtain ⟨x6, hx6, hf⟩ := k_B hf
  refine L5 _ 1000 n1 es op fo (2147483647, 0) x6 hx6 ls H locs (lv_sub hl [2, 3, 1, 0] rfl) hP hD hS ?_
  · intro ls H locs _ hl hP hD hS
    refine lv_iload_n hx hb dX1_drawnBut_40 rfl (lv_at hl 0 rfl) ?_
    obtain rfl := k_some hf
    exact k_iret hx hb hr hP hD hS dX1_drawnBut_41 hlocks
def f_X1_reachedBy (n1 : Int32) (n2 : Int32) (n3 : Int32) (op : Nat → Int32) (fo : Nat → Int32) : Option (Int32) :=
  if n3 < 0 ∨ 8 ≤ n3.toNatClampNeg then none else
  if n3 < 0 ∨ 8 ≤ n3.toNatClampNeg then none else
  (f_X3_closedWith (n2 ||| ((1 : Int32) <<< ((op n3.toNatClampNeg) &&& 31))) (op n3.toNatClampNeg)).bind fun v3 =>
  (f_J6_bitCount_0f7a4 v3).bind fun v4 =>
  if (n1 &&& (((1 : Int32) <<< (n3 &&& 31)) ^^^ (-1))) < 0 ∨ 256 ≤ (n1 &&& (((1 : Int32) <<< (n3 &&& 31)) ^^^ (-1))).toNatClampNeg then none else
  k_let (fo (n1 &&& (((1 : Int32) <<< (n3 &&& 31)) ^^^ (-1))).toNatClampNeg) fun y6 =>
  if v4 ≤ 0 then
    some (-y6)
  else
    some (v4 + y6)
abbrev rm_X1_reachedBy : Room := { frames := 3, cells := 0, slots := 0, locals := 66 }
theorem hd_X1_reachedBy : yX1_reachedBy.cls = RX1 ∧ yX1_reachedBy.cls ≠ "java/lang/invoke/MethodHandle" ∧ yX1_reachedBy.cls ≠ "java/lang/invoke/VarHandle" ∧ (parseMethodDescriptor yX1_reachedBy.desc).map (fun d => d.parameters.length) = some 3 := by decide +kernel
set_option maxHeartbeats 4000000 in
set_option maxRecDepth 100000 in
theorem c_X1_reachedBy (l : Launch) (D : va_G) (cy : Nat → ClassId) (h0 opa foa : Nat) (es : Int32) (op : Nat → Int32) (fo : Nat → Int32) (n1 : Int32) (n2 : Int32) (n3 : Int32) (r : Int32) (hf : f_X1_reachedBy n1 n2 n3 op fo = some r) : k_HMet l yX1_reachedBy wsX1_reachedBy rm_X1_reachedBy D (k_tys cy) [.ref h0, .int n1, .int n2, .int n3] [wE h0 opa foa es, wR cy 0 8 opa op, wR cy 0 256 foa fo] (some (.int r)) [wE h0 opa foa es, wR cy 0 8 opa op, wR cy 0 256 foa fo] := by
  refine k_heapOf (cc := cX1_reachedBy) (maxL := 6) (ret := (some .int)) (by decide) rfl (Nat.le_of_ble_eq_true rfl) ?_
  intro p e s m args below meth c ls A hx hb hr hlocks hml hown hts hl hA hK hP hD hN
  have hl : lv_has ls 6 [(0, .ref h0), (1, .int n1), (2, .int n2), (3, .int n3)] := hl
  have hS : va_S A s.heap s.heap [] := va_S.rf
  have in_X1 : ∀ w ∈ wsX10, w ∈ wsX1_reachedBy := by decide +kernel
  have fl9 := hts (.fieldLink RX1 9 "FencedBoxes$Ends" "open" "[I") (by decide +kernel)
  have fl15 := hts (.fieldLink RX1 15 "FencedBoxes$Ends" "found" "[I") (by decide +kernel)
  unfold f_X1_reachedBy at hf
  obtain ⟨H, eH⟩ : ∃ H, H = s.heap := ⟨_, rfl⟩
  obtain ⟨locs, elocs⟩ : ∃ L : List Loc, L = [] := ⟨_, rfl⟩
  have hP : va_P D vwCl [wE h0 opa foa es, wR cy 0 8 opa op, wR cy 0 256 foa fo] H := by rw [eH]; exact hP
  have hS : va_S A s.heap H locs := by rw [eH, elocs]; exact hS
  refine k_here eH elocs ?_
  refine lv_iload_n hx hb dX1_reachedBy_0 rfl (lv_at hl 2 rfl) ?_
  refine lv_iconst (v := 1) hx hb dX1_reachedBy_1 (by decide) ?_
  refine lv_aload_n hx hb dX1_reachedBy_2 rfl (lv_at hl 0 rfl) ?_
  refine va_get (D := D) (ci := 0) (v := .ref opa) (C := RX1) (T := TX1) (N := 3) hx hb hts in_X1 hown hK hP 0 rfl rfl 0 (by decide) fl9 (fun _ h9 => h9) rfl dX1_reachedBy_3 ?_
  refine lv_iload_n hx hb dX1_reachedBy_6 rfl (lv_at hl 3 rfl) ?_
  obtain ⟨g1, hf⟩ := k_G hf
  refine va_iald hx hb hK hP 1 0 rfl rfl g1 dX1_reachedBy_7 ?_
  refine lv_ishl hx hb dX1_reachedBy_8 ?_
  refine lv_ior hx hb dX1_reachedBy_9 ?_
  refine lv_aload_n hx hb dX1_reachedBy_10 rfl (lv_at hl 0 rfl) ?_
  refine va_get (D := D) (ci := 0) (v := .ref opa) (C := RX1) (T := TX1) (N := 3) hx hb hts in_X1 hown hK hP 0 rfl rfl 0 (by decide) fl9 (fun _ h9 => h9) rfl dX1_reachedBy_11 ?_
  refine lv_iload_n hx hb dX1_reachedBy_14 rfl (lv_at hl 3 rfl) ?_
  obtain ⟨g2, hf⟩ := k_G hf
  refine va_iald hx hb hK hP 1 0 rfl rfl g2 dX1_reachedBy_15 ?_
  obtain ⟨v3, hv3, hf⟩ := k_B hf
  refine k_callS (As := [.int (n2 ||| ((1 : Int32) <<< ((op n3.toNatClampNeg) &&& 31))), .int (op n3.toNatClampNeg)]) (rest := []) ⟨hx, hb, hml, hown, hts⟩ (c_X3_closedWith l (n2 ||| ((1 : Int32) <<< ((op n3.toNatClampNeg) &&& 31))) (op n3.toNatClampNeg) v3 hv3) (va_cwS 2 hts gX1_reachedBy_X3_closedWith rfl rfl rfl hd_X3_closedWith ⟨Nat.le_of_ble_eq_true rfl, Nat.le_of_ble_eq_true rfl⟩) rfl hl.1 rfl (Nat.le_of_ble_eq_true rfl) dX1_reachedBy_16 ⟨Nat.zero_le _, Nat.zero_le _⟩ ?_
  obtain ⟨v4, hv4, hf⟩ := k_B hf
  refine k_callS (As := [.int v3]) (rest := []) ⟨hx, hb, hml, hown, hts⟩ (c_J6_bitCount_0f7a4 l v3 v4 hv4) (va_cwS 1 hts gX1_reachedBy_J6_bitCount_0f7a4 rfl rfl rfl hd_J6_bitCount_0f7a4 ⟨Nat.le_of_ble_eq_true rfl, Nat.le_of_ble_eq_true rfl⟩) rfl hl.1 rfl (Nat.le_of_ble_eq_true rfl) dX1_reachedBy_19 ⟨Nat.zero_le _, Nat.zero_le _⟩ ?_
  refine lv_istore (lv' := [(4, .int v4), (0, .ref h0), (1, .int n1), (2, .int n2), (3, .int n3)]) hx hb dX1_reachedBy_22 hl (by decide) rfl (fun ls hl => ?_)
  refine lv_aload_n hx hb dX1_reachedBy_24 rfl (lv_at hl 1 rfl) ?_
  refine va_get (D := D) (ci := 0) (v := .ref foa) (C := RX1) (T := TX1) (N := 3) hx hb hts in_X1 hown hK hP 0 rfl rfl 1 (by decide) fl15 (fun _ h9 => h9) rfl dX1_reachedBy_25 ?_
  refine lv_iload_n hx hb dX1_reachedBy_28 rfl (lv_at hl 2 rfl) ?_
  refine lv_iconst (v := 1) hx hb dX1_reachedBy_29 (by decide) ?_
  refine lv_iload_n hx hb dX1_reachedBy_30 rfl (lv_at hl 4 rfl) ?_
  refine lv_ishl hx hb dX1_reachedBy_31 ?_
  refine lv_iconst (v := (-1)) hx hb dX1_reachedBy_32 (by decide) ?_
  refine lv_ixor hx hb dX1_reachedBy_33 ?_
  refine lv_iand hx hb dX1_reachedBy_34 ?_
  obtain ⟨g5, hf⟩ := k_G hf
  refine va_iald hx hb hK hP 2 0 rfl rfl g5 dX1_reachedBy_35 ?_
  obtain ⟨y6, ey6, hf⟩ := k_L hf
  refine k_name ey6 ?_
  refine lv_istore (lv' := [(5, .int y6), (4, .int v4), (0, .ref h0), (1, .int n1), (2, .int n2), (3, .int n3)]) hx hb dX1_reachedBy_36 hl (by decide) rfl (fun ls hl => ?_)
  refine lv_iload hx hb dX1_reachedBy_38 (lv_at hl 1 rfl) ?_
  refine lv_if_le (tgt := 51) hx hb dX1_reachedBy_40 (by decide) (fun c7 => ?_) (fun c7 => ?_)
  · have hf := k_T c7 hf
    refine lv_iload hx hb dX1_reachedBy_51 (lv_at hl 0 rfl) ?_
    refine lv_ineg hx hb dX1_reachedBy_53 ?_
    obtain rfl := k_some hf
    exact k_iret hx hb hr hP hD hS dX1_reachedBy_54 hlocks
  · have hf := k_F c7 hf
    refine lv_iload hx hb dX1_reachedBy_43 (lv_at hl 1 rfl) ?_
    refine lv_iload hx hb dX1_reachedBy_45 (lv_at hl 0 rfl) ?_
    refine lv_iadd hx hb dX1_reachedBy_47 ?_
    refine lv_goto (tgt := 54) hx hb dX1_reachedBy_48 (by decide) ?_
    obtain rfl := k_some hf
    exact k_iret hx hb hr hP hD hS dX1_reachedBy_54 hlocks
def t_X1_bestOf_20 (b1 : Int32) (b2 : Int32) (es : Int32) (op : Nat → Int32) (fo : Nat → Int32) (s20 : Int32 × Int32) : Option ((Int32 × Int32) ⊕ (Int32 × Int32)) :=
  if es ≤ s20.2 then
    some (.inr (s20.1, s20.2))
  else
    (f_X3_has b1 s20.2).bind fun v4 =>
    if v4 = 0 then
      some (.inl (s20.1, s20.2 + 1))
    else
      (f_X1_reachedBy b1 b2 s20.2 op fo).bind fun v6 =>
      k_let (if s20.1 < v6 then v6 else s20.1) fun y7 =>
      some (.inl (y7, s20.2 + 1))
def f_X1_bestOf (n1 : Int32) (es : Int32) (op : Nat → Int32) (fo : Nat → Int32) : Option (Int32) :=
  (f_X1_drawnBut n1 es op).bind fun v1 =>
  if n1 = 0 then
    (k_loop (t_X1_bestOf_20 n1 v1 es op fo) 1000 (0, 0)).bind fun x9 =>
    some x9.1
  else
    (k_loop (t_X1_bestOf_20 n1 v1 es op fo) 1000 ((-12), 0)).bind fun x8 =>
    some x8.1
abbrev rm_X1_bestOf : Room := { frames := 4, cells := 0, slots := 0, locals := 91 }
theorem hd_X1_bestOf : yX1_bestOf.cls = RX1 ∧ yX1_bestOf.cls ≠ "java/lang/invoke/MethodHandle" ∧ yX1_bestOf.cls ≠ "java/lang/invoke/VarHandle" ∧ (parseMethodDescriptor yX1_bestOf.desc).map (fun d => d.parameters.length) = some 1 := by decide +kernel
set_option maxHeartbeats 4000000 in
set_option maxRecDepth 100000 in
theorem c_X1_bestOf (l : Launch) (D : va_G) (cy : Nat → ClassId) (h0 opa foa : Nat) (es : Int32) (op : Nat → Int32) (fo : Nat → Int32) (n1 : Int32) (r : Int32) (hf : f_X1_bestOf n1 es op fo = some r) : k_HMet l yX1_bestOf wsX1_bestOf rm_X1_bestOf D (k_tys cy) [.ref h0, .int n1] [wE h0 opa foa es, wR cy 0 8 opa op, wR cy 0 256 foa fo] (some (.int r)) [wE h0 opa foa es, wR cy 0 8 opa op, wR cy 0 256 foa fo] := by
  refine k_heapOf (cc := cX1_bestOf) (maxL := 5) (ret := (some .int)) (by decide) rfl (Nat.le_of_ble_eq_true rfl) ?_
  intro p e s m args below meth c ls A hx hb hr hlocks hml hown hts hl hA hK hP hD hN
  have hl : lv_has ls 5 [(0, .ref h0), (1, .int n1)] := hl
  have hS : va_S A s.heap s.heap [] := va_S.rf
  have in_X1 : ∀ w ∈ wsX10, w ∈ wsX1_bestOf := by decide +kernel
  have fl24 := hts (.fieldLink RX1 24 "FencedBoxes$Ends" "size" "I") (by decide +kernel)
  have L20 : ∀ (Q : State → Prop) (n : Nat) (b1 : Int32) (b2 : Int32) (es : Int32) (op : Nat → Int32) (fo : Nat → Int32) (s20 : Int32 × Int32) (q : (Int32 × Int32)), k_loop (t_X1_bestOf_20 b1 b2 es op fo) n s20 = some q → ∀ (ls : Array Slot) (H : Heap) (locs : List Loc), lv_has ls 5 [(0, .ref h0), (1, .int b1), (2, .int b2), (3, .int s20.1), (4, .int s20.2)] → va_P D vwCl [wE h0 opa foa es, wR cy 0 8 opa op, wR cy 0 256 foa fo] H → va_D A [wE h0 opa foa es, wR cy 0 8 opa op, wR cy 0 256 foa fo] → va_S A s.heap H locs → (∀ (ls : Array Slot) (H : Heap) (locs : List Loc), True → lv_has ls 5 [(3, .int q.1)] → va_P D vwCl [wE h0 opa foa es, wR cy 0 8 opa op, wR cy 0 256 foa fo] H → va_D A [wE h0 opa foa es, wR cy 0 8 opa op, wR cy 0 256 foa fo] → va_S A s.heap H locs → W p l e rm_X1_bestOf s m args below meth c H locs 0 0 Q (F0 m 57 ls [])) → W p l e rm_X1_bestOf s m args below meth c H locs 0 0 Q (F0 m 20 ls []) := by
    intro Q n
    induction n with
    | zero =>
      intro b1 b2 es op fo s20 q hq
      exact (k_loop0 hq).elim
    | succ n ih =>
      intro b1 b2 es op fo s20 q hq ls H locs hl hP hD hS kx 
      obtain ⟨x, hf, hq⟩ := k_loopE hq
      unfold t_X1_bestOf_20 at hf
      refine lv_iload hx hb dX1_bestOf_20 (lv_at hl 4 rfl) ?_
      refine lv_aload_n hx hb dX1_bestOf_22 rfl (lv_at hl 0 rfl) ?_
      refine va_get (D := D) (ci := 0) (v := .int es) (C := RX1) (T := TX1) (N := 3) hx hb hts in_X1 hown hK hP 0 rfl rfl 2 (by decide) fl24 (fun _ h9 => h9) rfl dX1_bestOf_23 ?_
      refine lv_icmp_ge (tgt := 57) hx hb dX1_bestOf_26 (by decide) (fun c3 => ?_) (fun c3 => ?_)
      · have hf := k_T c3 hf
        obtain rfl := k_some hf
        obtain rfl := k_some (k_inr hq)
        exact kx ls H locs trivial (lv_sub hl [3] rfl) hP hD hS
      · have hf := k_F c3 hf
        refine lv_iload_n hx hb dX1_bestOf_29 rfl (lv_at hl 1 rfl) ?_
        refine lv_iload hx hb dX1_bestOf_30 (lv_at hl 4 rfl) ?_
        obtain ⟨v4, hv4, hf⟩ := k_B hf
        refine k_callS (As := [.int b1, .int s20.2]) (rest := []) ⟨hx, hb, hml, hown, hts⟩ (c_X3_has l b1 s20.2 v4 hv4) (va_cwS 2 hts gX1_bestOf_X3_has rfl rfl rfl hd_X3_has ⟨Nat.le_of_ble_eq_true rfl, Nat.le_of_ble_eq_true rfl⟩) rfl hl.1 rfl (Nat.le_of_ble_eq_true rfl) dX1_bestOf_32 ⟨Nat.zero_le _, Nat.zero_le _⟩ ?_
        refine lv_if_eq (tgt := 51) hx hb dX1_bestOf_35 (by decide) (fun c5 => ?_) (fun c5 => ?_)
        · have hf := k_T c5 hf
          refine lv_iinc (v := s20.2 + 1) (lv' := [(4, .int (s20.2 + 1)), (0, .ref h0), (1, .int b1), (2, .int b2), (3, .int s20.1)]) hx hb dX1_bestOf_51 hl (k := 4) rfl rfl (by decide) rfl (fun ls hl => ?_)
          refine lv_goto (tgt := 20) hx hb dX1_bestOf_54 (by decide) ?_
          obtain rfl := k_some hf
          exact ih b1 b2 es op fo (s20.1, s20.2 + 1) q (k_inl hq) ls H locs (lv_sub hl [1, 2, 3, 4, 0] rfl) hP hD hS kx 
        · have hf := k_F c5 hf
          refine lv_iload_n hx hb dX1_bestOf_38 rfl (lv_at hl 3 rfl) ?_
          refine lv_aload_n hx hb dX1_bestOf_39 rfl (lv_at hl 0 rfl) ?_
          refine lv_iload_n hx hb dX1_bestOf_40 rfl (lv_at hl 1 rfl) ?_
          refine lv_iload_n hx hb dX1_bestOf_41 rfl (lv_at hl 2 rfl) ?_
          refine lv_iload hx hb dX1_bestOf_42 (lv_at hl 4 rfl) ?_
          obtain ⟨v6, hv6, hf⟩ := k_B hf
          refine k_callHV (As := [.int b1, .int b2, .int s20.2]) (rest := [.int s20.1]) (r := (RX1, TX1, 3)) (ci := 0) (q0 := 0) (isC := [0, 1, 2]) (isR := []) (perm := [0, 1, 2]) (w' := [wE h0 opa foa es, wR cy 0 8 opa op, wR cy 0 256 foa fo]) ⟨hx, hb, hml, hown, hts⟩ (c_X1_reachedBy l D cy h0 opa foa es op fo b1 b2 s20.2 v6 hv6) (cwV 3 hts gX1_bestOf_X1_reachedBy rfl rfl rfl hd_X1_reachedBy ⟨Nat.le_of_ble_eq_true rfl, Nat.le_of_ble_eq_true rfl⟩) hK hN hP hD hS hA rfl rfl rfl rfl rfl rfl (by decide) rfl rfl rfl hl.1 rfl (Nat.le_of_ble_eq_true rfl) dX1_bestOf_44 ⟨Nat.zero_le _, Nat.zero_le _⟩ (fun H locs hP hD hS => ?_)
          refine va_mmax hx hb (hml.trans hl.1.symm) hown (hts _ (show (.methodLink RX1 44 Lib.Math.max.name : Cond) ∈ wsX1_bestOf by decide +kernel)) (hts _ (show (.static Lib.Math.max.name : Cond) ∈ wsX1_bestOf by decide +kernel)) (hts _ (show (.initialized "java/lang/Math" : Cond) ∈ wsX1_bestOf by decide +kernel)) (hts _ (show (.code Lib.Math.max.name Lib.Math.max.code 2 (some .int) : Cond) ∈ wsX1_bestOf by decide +kernel)) (Nat.le_of_ble_eq_true rfl) (Nat.le_of_ble_eq_true rfl) (Nat.zero_le _) (Nat.zero_le _) dX1_bestOf_47 ?_
          obtain ⟨y7, ey7, hf⟩ := k_L hf
          refine k_name ey7 ?_
          refine lv_istore_n (lv' := [(3, .int y7), (0, .ref h0), (1, .int b1), (2, .int b2), (4, .int s20.2)]) hx hb dX1_bestOf_50 rfl hl (by decide) rfl (fun ls hl => ?_)
          refine lv_iinc (v := s20.2 + 1) (lv' := [(4, .int (s20.2 + 1)), (3, .int y7), (0, .ref h0), (1, .int b1), (2, .int b2)]) hx hb dX1_bestOf_51 hl (k := 4) rfl rfl (by decide) rfl (fun ls hl => ?_)
          refine lv_goto (tgt := 20) hx hb dX1_bestOf_54 (by decide) ?_
          obtain rfl := k_some hf
          exact ih b1 b2 es op fo (y7, s20.2 + 1) q (k_inl hq) ls H locs (lv_sub hl [2, 3, 4, 1, 0] rfl) hP hD hS kx 
  unfold f_X1_bestOf at hf
  obtain ⟨H, eH⟩ : ∃ H, H = s.heap := ⟨_, rfl⟩
  obtain ⟨locs, elocs⟩ : ∃ L : List Loc, L = [] := ⟨_, rfl⟩
  have hP : va_P D vwCl [wE h0 opa foa es, wR cy 0 8 opa op, wR cy 0 256 foa fo] H := by rw [eH]; exact hP
  have hS : va_S A s.heap H locs := by rw [eH, elocs]; exact hS
  refine k_here eH elocs ?_
  refine lv_aload_n hx hb dX1_bestOf_0 rfl (lv_at hl 0 rfl) ?_
  refine lv_iload_n hx hb dX1_bestOf_1 rfl (lv_at hl 1 rfl) ?_
  obtain ⟨v1, hv1, hf⟩ := k_B hf
  refine k_callHV (As := [.int n1]) (rest := []) (r := (RX1, TX1, 3)) (ci := 0) (q0 := 0) (isC := [0, 1, 2]) (isR := []) (perm := [0, 1, 2]) (w' := [wE h0 opa foa es, wR cy 0 8 opa op, wR cy 0 256 foa fo]) ⟨hx, hb, hml, hown, hts⟩ (c_X1_drawnBut l D cy h0 opa foa es op fo n1 v1 hv1) (cwV 1 hts gX1_bestOf_X1_drawnBut rfl rfl rfl hd_X1_drawnBut ⟨Nat.le_of_ble_eq_true rfl, Nat.le_of_ble_eq_true rfl⟩) hK hN hP hD hS hA rfl rfl rfl rfl rfl rfl (by decide) rfl rfl rfl hl.1 rfl (Nat.le_of_ble_eq_true rfl) dX1_bestOf_2 ⟨Nat.zero_le _, Nat.zero_le _⟩ (fun H locs hP hD hS => ?_)
  refine lv_istore_n (lv' := [(2, .int v1), (0, .ref h0), (1, .int n1)]) hx hb dX1_bestOf_5 rfl hl (by decide) rfl (fun ls hl => ?_)
  refine lv_iload_n hx hb dX1_bestOf_6 rfl (lv_at hl 2 rfl) ?_
  refine lv_if_ne (tgt := 14) hx hb dX1_bestOf_7 (by decide) (fun c2 => ?_) (fun c2 => ?_)
  · have hf := k_F c2 hf
    refine lv_bipush (v := (-12)) hx hb dX1_bestOf_14 (by decide) ?_
    refine lv_istore_n (lv' := [(3, .int (-12)), (2, .int v1), (0, .ref h0), (1, .int n1)]) hx hb dX1_bestOf_16 rfl hl (by decide) rfl (fun ls hl => ?_)
    refine lv_iconst (v := 0) hx hb dX1_bestOf_17 (by decide) ?_
    refine lv_istore (lv' := [(4, .int 0), (3, .int (-12)), (2, .int v1), (0, .ref h0), (1, .int n1)]) hx hb dX1_bestOf_18 hl (by decide) rfl (fun ls hl => ?_)
    obtain ⟨x8, hx8, hf⟩ := k_B hf
    refine L20 _ 1000 n1 v1 es op fo ((-12), 0) x8 hx8 ls H locs (lv_sub hl [3, 4, 2, 1, 0] rfl) hP hD hS ?_
    · intro ls H locs _ hl hP hD hS
      refine lv_iload_n hx hb dX1_bestOf_57 rfl (lv_at hl 0 rfl) ?_
      obtain rfl := k_some hf
      exact k_iret hx hb hr hP hD hS dX1_bestOf_58 hlocks
  · have hf := k_T c2 hf
    refine lv_iconst (v := 0) hx hb dX1_bestOf_10 (by decide) ?_
    refine lv_goto (tgt := 16) hx hb dX1_bestOf_11 (by decide) ?_
    refine lv_istore_n (lv' := [(3, .int 0), (2, .int v1), (0, .ref h0), (1, .int n1)]) hx hb dX1_bestOf_16 rfl hl (by decide) rfl (fun ls hl => ?_)
    refine lv_iconst (v := 0) hx hb dX1_bestOf_17 (by decide) ?_
    refine lv_istore (lv' := [(4, .int 0), (3, .int 0), (2, .int v1), (0, .ref h0), (1, .int n1)]) hx hb dX1_bestOf_18 hl (by decide) rfl (fun ls hl => ?_)
    obtain ⟨x9, hx9, hf⟩ := k_B hf
    refine L20 _ 1000 n1 v1 es op fo (0, 0) x9 hx9 ls H locs (lv_sub hl [3, 4, 2, 1, 0] rfl) hP hD hS ?_
    · intro ls H locs _ hl hP hD hS
      refine lv_iload_n hx hb dX1_bestOf_57 rfl (lv_at hl 0 rfl) ?_
      obtain rfl := k_some hf
      exact k_iret hx hb hr hP hD hS dX1_bestOf_58 hlocks
def t_X1_workOut_7 (b1 : Int32) (s7 : Int32 × Int32 × (Nat → Int32)) : Option ((Int32 × Int32 × (Nat → Int32)) ⊕ (Int32 × Int32 × (Nat → Int32))) :=
  if 31 ≤ s7.1 then
    some (.inr (s7.1, s7.2.1, s7.2.2))
  else
    (f_X3_has b1 s7.1).bind fun v2 =>
    if v2 = 0 then
      if 8 ≤ s7.2.1 then
        some (.inl (s7.1 + 1, s7.2.1, s7.2.2))
      else
        if s7.2.1 < 0 ∨ 8 ≤ s7.2.1.toNatClampNeg then none else
        k_let (upd s7.2.2 s7.2.1.toNatClampNeg s7.1) fun w6 =>
        k_let (s7.2.1 + 1) fun y7 =>
        some (.inl (s7.1 + 1, y7, w6))
    else
      some (.inl (s7.1 + 1, s7.2.1, s7.2.2))
def t_X1_workOut_58 (es : Int32) (op : Nat → Int32) (s58 : Int32 × (Nat → Int32)) : Option ((Int32 × (Nat → Int32)) ⊕ (Int32 × (Nat → Int32))) :=
  if ((1 : Int32) <<< (es &&& 31)) ≤ s58.1 then
    some (.inr (s58.1, s58.2))
  else
    (f_X1_bestOf s58.1 es op s58.2).bind fun v10 =>
    if s58.1 < 0 ∨ 256 ≤ s58.1.toNatClampNeg then none else
    k_let (upd s58.2 s58.1.toNatClampNeg v10) fun w12 =>
    some (.inl (s58.1 + 1, w12))
def f_X1_workOut (n1 : Int32) (es : Int32) (op : Nat → Int32) (fo : Nat → Int32) : Option (Int32 × (Nat → Int32) × (Nat → Int32)) :=
  (k_loop (t_X1_workOut_7 n1) 1000 (0, 0, op)).bind fun x8 =>
  (k_loop (t_X1_workOut_58 x8.2.1 x8.2.2) 1000 (0, fo)).bind fun x13 =>
  some (x8.2.1, x8.2.2, x13.2)
abbrev rm_X1_workOut : Room := { frames := 5, cells := 0, slots := 0, locals := 115 }
theorem hd_X1_workOut : yX1_workOut.cls = RX1 ∧ yX1_workOut.cls ≠ "java/lang/invoke/MethodHandle" ∧ yX1_workOut.cls ≠ "java/lang/invoke/VarHandle" ∧ (parseMethodDescriptor yX1_workOut.desc).map (fun d => d.parameters.length) = some 1 := by decide +kernel
set_option maxHeartbeats 4000000 in
set_option maxRecDepth 100000 in
theorem c_X1_workOut (l : Launch) (D : va_G) (cy : Nat → ClassId) (h0 opa foa : Nat) (es : Int32) (op : Nat → Int32) (fo : Nat → Int32) (n1 : Int32) (r : Int32 × (Nat → Int32) × (Nat → Int32)) (hf : f_X1_workOut n1 es op fo = some r) : k_HMet l yX1_workOut wsX1_workOut rm_X1_workOut D (k_tys cy) [.ref h0, .int n1] [wE h0 opa foa es, wR cy 0 8 opa op, wR cy 0 256 foa fo] none [wE h0 opa foa r.1, wR cy 0 8 opa r.2.1, wR cy 0 256 foa r.2.2] := by
  refine k_heapOf (cc := cX1_workOut) (maxL := 3) (ret := none) (by decide) rfl (Nat.le_of_ble_eq_true rfl) ?_
  intro p e s m args below meth c ls A hx hb hr hlocks hml hown hts hl hA hK hP hD hN
  have hl : lv_has ls 3 [(0, .ref h0), (1, .int n1)] := hl
  have hS : va_S A s.heap s.heap [] := va_S.rf
  have in_X1 : ∀ w ∈ wsX10, w ∈ wsX1_workOut := by decide +kernel
  have fl9 := hts (.fieldLink RX1 9 "FencedBoxes$Ends" "open" "[I") (by decide +kernel)
  have fl15 := hts (.fieldLink RX1 15 "FencedBoxes$Ends" "found" "[I") (by decide +kernel)
  have fl24 := hts (.fieldLink RX1 24 "FencedBoxes$Ends" "size" "I") (by decide +kernel)
  have L7 : ∀ (Q : State → Prop) (n : Nat) (b1 : Int32) (fo : Nat → Int32) (s7 : Int32 × Int32 × (Nat → Int32)) (q : (Int32 × Int32 × (Nat → Int32))), k_loop (t_X1_workOut_7 b1) n s7 = some q → ∀ (ls : Array Slot) (H : Heap) (locs : List Loc), lv_has ls 3 [(0, .ref h0), (1, .int b1), (2, .int s7.1)] → va_P D vwCl [wE h0 opa foa s7.2.1, wR cy 0 8 opa s7.2.2, wR cy 0 256 foa fo] H → va_D A [wE h0 opa foa s7.2.1, wR cy 0 8 opa s7.2.2, wR cy 0 256 foa fo] → va_S A s.heap H locs → (∀ (ls : Array Slot) (H : Heap) (locs : List Loc), True → lv_has ls 3 [(0, .ref h0)] → va_P D vwCl [wE h0 opa foa q.2.1, wR cy 0 8 opa q.2.2, wR cy 0 256 foa fo] H → va_D A [wE h0 opa foa q.2.1, wR cy 0 8 opa q.2.2, wR cy 0 256 foa fo] → va_S A s.heap H locs → W p l e rm_X1_workOut s m args below meth c H locs 0 0 Q (F0 m 56 ls [])) → W p l e rm_X1_workOut s m args below meth c H locs 0 0 Q (F0 m 7 ls []) := by
    intro Q n
    induction n with
    | zero =>
      intro b1 fo s7 q hq
      exact (k_loop0 hq).elim
    | succ n ih =>
      intro b1 fo s7 q hq ls H locs hl hP hD hS kx 
      obtain ⟨x, hf, hq⟩ := k_loopE hq
      unfold t_X1_workOut_7 at hf
      refine lv_iload_n hx hb dX1_workOut_7 rfl (lv_at hl 2 rfl) ?_
      refine lv_bipush (v := 31) hx hb dX1_workOut_8 (by decide) ?_
      refine lv_icmp_ge (tgt := 56) hx hb dX1_workOut_10 (by decide) (fun c1 => ?_) (fun c1 => ?_)
      · have hf := k_T c1 hf
        obtain rfl := k_some hf
        obtain rfl := k_some (k_inr hq)
        exact kx ls H locs trivial (lv_sub hl [0] rfl) hP hD hS
      · have hf := k_F c1 hf
        refine lv_iload_n hx hb dX1_workOut_13 rfl (lv_at hl 1 rfl) ?_
        refine lv_iload_n hx hb dX1_workOut_14 rfl (lv_at hl 2 rfl) ?_
        obtain ⟨v2, hv2, hf⟩ := k_B hf
        refine k_callS (As := [.int b1, .int s7.1]) (rest := []) ⟨hx, hb, hml, hown, hts⟩ (c_X3_has l b1 s7.1 v2 hv2) (va_cwS 2 hts gX1_workOut_X3_has rfl rfl rfl hd_X3_has ⟨Nat.le_of_ble_eq_true rfl, Nat.le_of_ble_eq_true rfl⟩) rfl hl.1 rfl (Nat.le_of_ble_eq_true rfl) dX1_workOut_15 ⟨Nat.zero_le _, Nat.zero_le _⟩ ?_
        refine lv_if_ne (tgt := 50) hx hb dX1_workOut_18 (by decide) (fun c3 => ?_) (fun c3 => ?_)
        · have hf := k_F c3 hf
          refine lv_iinc (v := s7.1 + 1) (lv' := [(2, .int (s7.1 + 1)), (0, .ref h0), (1, .int b1)]) hx hb dX1_workOut_50 hl (k := 2) rfl rfl (by decide) rfl (fun ls hl => ?_)
          refine lv_goto (tgt := 7) hx hb dX1_workOut_53 (by decide) ?_
          obtain rfl := k_some hf
          exact ih b1 fo (s7.1 + 1, s7.2.1, s7.2.2) q (k_inl hq) ls H locs (lv_sub hl [1, 2, 0] rfl) hP hD hS kx 
        · have hf := k_T c3 hf
          refine lv_aload_n hx hb dX1_workOut_21 rfl (lv_at hl 0 rfl) ?_
          refine va_get (D := D) (ci := 0) (v := .int s7.2.1) (C := RX1) (T := TX1) (N := 3) hx hb hts in_X1 hown hK hP 0 rfl rfl 2 (by decide) fl24 (fun _ h9 => h9) rfl dX1_workOut_22 ?_
          refine lv_bipush (v := 8) hx hb dX1_workOut_25 (by decide) ?_
          refine lv_icmp_ge (tgt := 50) hx hb dX1_workOut_27 (by decide) (fun c4 => ?_) (fun c4 => ?_)
          · have hf := k_T c4 hf
            refine lv_iinc (v := s7.1 + 1) (lv' := [(2, .int (s7.1 + 1)), (0, .ref h0), (1, .int b1)]) hx hb dX1_workOut_50 hl (k := 2) rfl rfl (by decide) rfl (fun ls hl => ?_)
            refine lv_goto (tgt := 7) hx hb dX1_workOut_53 (by decide) ?_
            obtain rfl := k_some hf
            exact ih b1 fo (s7.1 + 1, s7.2.1, s7.2.2) q (k_inl hq) ls H locs (lv_sub hl [1, 2, 0] rfl) hP hD hS kx 
          · have hf := k_F c4 hf
            refine lv_aload_n hx hb dX1_workOut_30 rfl (lv_at hl 0 rfl) ?_
            refine va_get (D := D) (ci := 0) (v := .ref opa) (C := RX1) (T := TX1) (N := 3) hx hb hts in_X1 hown hK hP 0 rfl rfl 0 (by decide) fl9 (fun _ h9 => h9) rfl dX1_workOut_31 ?_
            refine lv_aload_n hx hb dX1_workOut_34 rfl (lv_at hl 0 rfl) ?_
            refine va_get (D := D) (ci := 0) (v := .int s7.2.1) (C := RX1) (T := TX1) (N := 3) hx hb hts in_X1 hown hK hP 0 rfl rfl 2 (by decide) fl24 (fun _ h9 => h9) rfl dX1_workOut_35 ?_
            refine lv_iload_n hx hb dX1_workOut_38 rfl (lv_at hl 2 rfl) ?_
            obtain ⟨g5, hf⟩ := k_G hf
            refine va_iast hx hb hK hP hD hS 1 0 rfl rfl g5 dX1_workOut_39 (fun H locs hP hD hS => ?_)
            obtain ⟨w6, ew6, hf⟩ := k_L hf
            have hP : va_P D vwCl [wE h0 opa foa s7.2.1, wR cy 0 8 opa w6, wR cy 0 256 foa fo] H := by rw [ew6]; exact hP
            have hD : va_D A [wE h0 opa foa s7.2.1, wR cy 0 8 opa w6, wR cy 0 256 foa fo] := by rw [ew6]; exact hD
            refine lv_aload_n hx hb dX1_workOut_40 rfl (lv_at hl 0 rfl) ?_
            refine lv_dup hx hb dX1_workOut_41 rfl ?_
            refine va_get (D := D) (ci := 0) (v := .int s7.2.1) (C := RX1) (T := TX1) (N := 3) hx hb hts in_X1 hown hK hP 0 rfl rfl 2 (by decide) fl24 (fun _ h9 => h9) rfl dX1_workOut_42 ?_
            refine lv_iconst (v := 1) hx hb dX1_workOut_45 (by decide) ?_
            refine lv_iadd hx hb dX1_workOut_46 ?_
            obtain ⟨y7, ey7, hf⟩ := k_L hf
            refine k_name ey7 ?_
            refine va_put (D := D) (ci := 0) (v := .int y7) (ty := .int) (C := RX1) (T := TX1) (N := 3) hx hb hts in_X1 tyX1 tyX1_ok nmX1 hown hK hP hD hS 0 rfl rfl 2 (by decide) fl24 (fun _ h9 => h9) rfl (by decide +kernel) rfl rfl (Nat.le_of_ble_eq_true rfl) dX1_workOut_47 (fun H locs hP hD hS => ?_)
            have hP : va_P D vwCl [wE h0 opa foa y7, wR cy 0 8 opa w6, wR cy 0 256 foa fo] H := hP
            have hD : va_D A [wE h0 opa foa y7, wR cy 0 8 opa w6, wR cy 0 256 foa fo] := hD
            refine lv_iinc (v := s7.1 + 1) (lv' := [(2, .int (s7.1 + 1)), (0, .ref h0), (1, .int b1)]) hx hb dX1_workOut_50 hl (k := 2) rfl rfl (by decide) rfl (fun ls hl => ?_)
            refine lv_goto (tgt := 7) hx hb dX1_workOut_53 (by decide) ?_
            obtain rfl := k_some hf
            exact ih b1 fo (s7.1 + 1, y7, w6) q (k_inl hq) ls H locs (lv_sub hl [1, 2, 0] rfl) hP hD hS kx 
  have L58 : ∀ (Q : State → Prop) (n : Nat) (es : Int32) (op : Nat → Int32) (s58 : Int32 × (Nat → Int32)) (q : (Int32 × (Nat → Int32))), k_loop (t_X1_workOut_58 es op) n s58 = some q → ∀ (ls : Array Slot) (H : Heap) (locs : List Loc), lv_has ls 3 [(0, .ref h0), (2, .int s58.1)] → va_P D vwCl [wE h0 opa foa es, wR cy 0 8 opa op, wR cy 0 256 foa s58.2] H → va_D A [wE h0 opa foa es, wR cy 0 8 opa op, wR cy 0 256 foa s58.2] → va_S A s.heap H locs → (∀ (ls : Array Slot) (H : Heap) (locs : List Loc), True → lv_has ls 3 [] → va_P D vwCl [wE h0 opa foa es, wR cy 0 8 opa op, wR cy 0 256 foa q.2] H → va_D A [wE h0 opa foa es, wR cy 0 8 opa op, wR cy 0 256 foa q.2] → va_S A s.heap H locs → W p l e rm_X1_workOut s m args below meth c H locs 0 0 Q (F0 m 85 ls [])) → W p l e rm_X1_workOut s m args below meth c H locs 0 0 Q (F0 m 58 ls []) := by
    intro Q n
    induction n with
    | zero =>
      intro es op s58 q hq
      exact (k_loop0 hq).elim
    | succ n ih =>
      intro es op s58 q hq ls H locs hl hP hD hS kx 
      obtain ⟨x, hf, hq⟩ := k_loopE hq
      unfold t_X1_workOut_58 at hf
      refine lv_iload_n hx hb dX1_workOut_58 rfl (lv_at hl 1 rfl) ?_
      refine lv_iconst (v := 1) hx hb dX1_workOut_59 (by decide) ?_
      refine lv_aload_n hx hb dX1_workOut_60 rfl (lv_at hl 0 rfl) ?_
      refine va_get (D := D) (ci := 0) (v := .int es) (C := RX1) (T := TX1) (N := 3) hx hb hts in_X1 hown hK hP 0 rfl rfl 2 (by decide) fl24 (fun _ h9 => h9) rfl dX1_workOut_61 ?_
      refine lv_ishl hx hb dX1_workOut_64 ?_
      refine lv_icmp_ge (tgt := 85) hx hb dX1_workOut_65 (by decide) (fun c9 => ?_) (fun c9 => ?_)
      · have hf := k_T c9 hf
        obtain rfl := k_some hf
        obtain rfl := k_some (k_inr hq)
        exact kx ls H locs trivial (lv_sub hl [] rfl) hP hD hS
      · have hf := k_F c9 hf
        refine lv_aload_n hx hb dX1_workOut_68 rfl (lv_at hl 0 rfl) ?_
        refine va_get (D := D) (ci := 0) (v := .ref foa) (C := RX1) (T := TX1) (N := 3) hx hb hts in_X1 hown hK hP 0 rfl rfl 1 (by decide) fl15 (fun _ h9 => h9) rfl dX1_workOut_69 ?_
        refine lv_iload_n hx hb dX1_workOut_72 rfl (lv_at hl 1 rfl) ?_
        refine lv_aload_n hx hb dX1_workOut_73 rfl (lv_at hl 0 rfl) ?_
        refine lv_iload_n hx hb dX1_workOut_74 rfl (lv_at hl 1 rfl) ?_
        obtain ⟨v10, hv10, hf⟩ := k_B hf
        refine k_callHV (As := [.int s58.1]) (rest := [.int s58.1, .ref foa]) (r := (RX1, TX1, 3)) (ci := 0) (q0 := 0) (isC := [0, 1, 2]) (isR := []) (perm := [0, 1, 2]) (w' := [wE h0 opa foa es, wR cy 0 8 opa op, wR cy 0 256 foa s58.2]) ⟨hx, hb, hml, hown, hts⟩ (c_X1_bestOf l D cy h0 opa foa es op s58.2 s58.1 v10 hv10) (cwV 1 hts gX1_workOut_X1_bestOf rfl rfl rfl hd_X1_bestOf ⟨Nat.le_of_ble_eq_true rfl, Nat.le_of_ble_eq_true rfl⟩) hK hN hP hD hS hA rfl rfl rfl rfl rfl rfl (by decide) rfl rfl rfl hl.1 rfl (Nat.le_of_ble_eq_true rfl) dX1_workOut_75 ⟨Nat.zero_le _, Nat.zero_le _⟩ (fun H locs hP hD hS => ?_)
        obtain ⟨g11, hf⟩ := k_G hf
        refine va_iast hx hb hK hP hD hS 2 0 rfl rfl g11 dX1_workOut_78 (fun H locs hP hD hS => ?_)
        obtain ⟨w12, ew12, hf⟩ := k_L hf
        have hP : va_P D vwCl [wE h0 opa foa es, wR cy 0 8 opa op, wR cy 0 256 foa w12] H := by rw [ew12]; exact hP
        have hD : va_D A [wE h0 opa foa es, wR cy 0 8 opa op, wR cy 0 256 foa w12] := by rw [ew12]; exact hD
        refine lv_iinc (v := s58.1 + 1) (lv' := [(2, .int (s58.1 + 1)), (0, .ref h0)]) hx hb dX1_workOut_79 hl (k := 1) rfl rfl (by decide) rfl (fun ls hl => ?_)
        refine lv_goto (tgt := 58) hx hb dX1_workOut_82 (by decide) ?_
        obtain rfl := k_some hf
        exact ih es op (s58.1 + 1, w12) q (k_inl hq) ls H locs (lv_sub hl [1, 0] rfl) hP hD hS kx 
  unfold f_X1_workOut at hf
  obtain ⟨H, eH⟩ : ∃ H, H = s.heap := ⟨_, rfl⟩
  obtain ⟨locs, elocs⟩ : ∃ L : List Loc, L = [] := ⟨_, rfl⟩
  have hP : va_P D vwCl [wE h0 opa foa es, wR cy 0 8 opa op, wR cy 0 256 foa fo] H := by rw [eH]; exact hP
  have hS : va_S A s.heap H locs := by rw [eH, elocs]; exact hS
  refine k_here eH elocs ?_
  refine lv_aload_n hx hb dX1_workOut_0 rfl (lv_at hl 0 rfl) ?_
  refine lv_iconst (v := 0) hx hb dX1_workOut_1 (by decide) ?_
  refine va_put (D := D) (ci := 0) (v := .int 0) (ty := .int) (C := RX1) (T := TX1) (N := 3) hx hb hts in_X1 tyX1 tyX1_ok nmX1 hown hK hP hD hS 0 rfl rfl 2 (by decide) fl24 (fun _ h9 => h9) rfl (by decide +kernel) rfl rfl (Nat.le_of_ble_eq_true rfl) dX1_workOut_2 (fun H locs hP hD hS => ?_)
  have hP : va_P D vwCl [wE h0 opa foa 0, wR cy 0 8 opa op, wR cy 0 256 foa fo] H := hP
  have hD : va_D A [wE h0 opa foa 0, wR cy 0 8 opa op, wR cy 0 256 foa fo] := hD
  refine lv_iconst (v := 0) hx hb dX1_workOut_5 (by decide) ?_
  refine lv_istore_n (lv' := [(2, .int 0), (0, .ref h0), (1, .int n1)]) hx hb dX1_workOut_6 rfl hl (by decide) rfl (fun ls hl => ?_)
  obtain ⟨x8, hx8, hf⟩ := k_B hf
  refine L7 _ 1000 n1 fo (0, 0, op) x8 hx8 ls H locs (lv_sub hl [1, 2, 0] rfl) hP hD hS ?_
  · intro ls H locs _ hl hP hD hS
    refine lv_iconst (v := 0) hx hb dX1_workOut_56 (by decide) ?_
    refine lv_istore_n (lv' := [(2, .int 0), (0, .ref h0)]) hx hb dX1_workOut_57 rfl hl (by decide) rfl (fun ls hl => ?_)
    obtain ⟨x13, hx13, hf⟩ := k_B hf
    refine L58 _ 1000 x8.2.1 x8.2.2 (0, fo) x13 hx13 ls H locs (lv_sub hl [1, 0] rfl) hP hD hS ?_
    · intro ls H locs _ hl hP hD hS
      obtain rfl := k_some hf
      exact k_vret hx hb hr hP hD hS dX1_workOut_85 hlocks
def f_X1_difference (es : Int32) (fo : Nat → Int32) : Option (Int32) :=
  if (((1 : Int32) <<< (es &&& 31)) - 1) < 0 ∨ 256 ≤ (((1 : Int32) <<< (es &&& 31)) - 1).toNatClampNeg then none else
  some (fo (((1 : Int32) <<< (es &&& 31)) - 1).toNatClampNeg)
abbrev rm_X1_difference : Room := { frames := 0, cells := 0, slots := 0, locals := 0 }
theorem hd_X1_difference : yX1_difference.cls = RX1 ∧ yX1_difference.cls ≠ "java/lang/invoke/MethodHandle" ∧ yX1_difference.cls ≠ "java/lang/invoke/VarHandle" ∧ (parseMethodDescriptor yX1_difference.desc).map (fun d => d.parameters.length) = some 0 := by decide +kernel
set_option maxHeartbeats 4000000 in
set_option maxRecDepth 100000 in
theorem c_X1_difference (l : Launch) (D : va_G) (cy : Nat → ClassId) (h0 opa foa : Nat) (es : Int32) (op : Nat → Int32) (fo : Nat → Int32)  (r : Int32) (hf : f_X1_difference es fo = some r) : k_HMet l yX1_difference wsX1_difference rm_X1_difference D (k_tys cy) [.ref h0] [wE h0 opa foa es, wR cy 0 8 opa op, wR cy 0 256 foa fo] (some (.int r)) [wE h0 opa foa es, wR cy 0 8 opa op, wR cy 0 256 foa fo] := by
  refine k_heapOf (cc := cX1_difference) (maxL := 1) (ret := (some .int)) (by decide) rfl (Nat.le_of_ble_eq_true rfl) ?_
  intro p e s m args below meth c ls A hx hb hr hlocks hml hown hts hl hA hK hP hD hN
  have hl : lv_has ls 1 [(0, .ref h0)] := hl
  have hS : va_S A s.heap s.heap [] := va_S.rf
  have in_X1 : ∀ w ∈ wsX10, w ∈ wsX1_difference := by decide +kernel
  have fl15 := hts (.fieldLink RX1 15 "FencedBoxes$Ends" "found" "[I") (by decide +kernel)
  have fl24 := hts (.fieldLink RX1 24 "FencedBoxes$Ends" "size" "I") (by decide +kernel)
  unfold f_X1_difference at hf
  obtain ⟨H, eH⟩ : ∃ H, H = s.heap := ⟨_, rfl⟩
  obtain ⟨locs, elocs⟩ : ∃ L : List Loc, L = [] := ⟨_, rfl⟩
  have hP : va_P D vwCl [wE h0 opa foa es, wR cy 0 8 opa op, wR cy 0 256 foa fo] H := by rw [eH]; exact hP
  have hS : va_S A s.heap H locs := by rw [eH, elocs]; exact hS
  refine k_here eH elocs ?_
  refine lv_aload_n hx hb dX1_difference_0 rfl (lv_at hl 0 rfl) ?_
  refine va_get (D := D) (ci := 0) (v := .ref foa) (C := RX1) (T := TX1) (N := 3) hx hb hts in_X1 hown hK hP 0 rfl rfl 1 (by decide) fl15 (fun _ h9 => h9) rfl dX1_difference_1 ?_
  refine lv_iconst (v := 1) hx hb dX1_difference_4 (by decide) ?_
  refine lv_aload_n hx hb dX1_difference_5 rfl (lv_at hl 0 rfl) ?_
  refine va_get (D := D) (ci := 0) (v := .int es) (C := RX1) (T := TX1) (N := 3) hx hb hts in_X1 hown hK hP 0 rfl rfl 2 (by decide) fl24 (fun _ h9 => h9) rfl dX1_difference_6 ?_
  refine lv_ishl hx hb dX1_difference_9 ?_
  refine lv_iconst (v := 1) hx hb dX1_difference_10 (by decide) ?_
  refine lv_isub hx hb dX1_difference_11 ?_
  obtain ⟨g1, hf⟩ := k_G hf
  refine va_iald hx hb hK hP 2 0 rfl rfl g1 dX1_difference_12 ?_
  obtain rfl := k_some hf
  exact k_iret hx hb hr hP hD hS dX1_difference_13 hlocks
def t_X1_lowestBest_17 (b1 : Int32) (b2 : Int32) (es : Int32) (op : Nat → Int32) (fo : Nat → Int32) (s17 : Int32) : Option ((Int32) ⊕ ((Int32) ⊕ (Int32))) :=
  if es ≤ s17 then
    some (.inr (.inl s17))
  else
    (f_X1_reachedBy b1 b2 s17 op fo).bind fun v4 =>
    if b1 < 0 ∨ 256 ≤ b1.toNatClampNeg then none else
    if v4 = (fo b1.toNatClampNeg) then
      if s17 < 0 ∨ 8 ≤ s17.toNatClampNeg then none else
      some (.inr (.inr (op s17.toNatClampNeg)))
    else
      some (.inl (s17 + 1))
def f_X1_lowestBest (es : Int32) (op : Nat → Int32) (fo : Nat → Int32) : Option (Int32) :=
  k_let (((1 : Int32) <<< (es &&& 31)) - 1) fun y1 =>
  (f_X1_drawnBut y1 es op).bind fun v2 =>
  (k_loop (t_X1_lowestBest_17 y1 v2 es op fo) 1000 0).bind fun x8 =>
  Sum.elim (fun z9 =>
    some (-1)
  ) (fun r10 => some r10) x8
abbrev rm_X1_lowestBest : Room := { frames := 4, cells := 0, slots := 0, locals := 91 }
theorem hd_X1_lowestBest : yX1_lowestBest.cls = RX1 ∧ yX1_lowestBest.cls ≠ "java/lang/invoke/MethodHandle" ∧ yX1_lowestBest.cls ≠ "java/lang/invoke/VarHandle" ∧ (parseMethodDescriptor yX1_lowestBest.desc).map (fun d => d.parameters.length) = some 0 := by decide +kernel
set_option maxHeartbeats 4000000 in
set_option maxRecDepth 100000 in
theorem c_X1_lowestBest (l : Launch) (D : va_G) (cy : Nat → ClassId) (h0 opa foa : Nat) (es : Int32) (op : Nat → Int32) (fo : Nat → Int32)  (r : Int32) (hf : f_X1_lowestBest es op fo = some r) : k_HMet l yX1_lowestBest wsX1_lowestBest rm_X1_lowestBest D (k_tys cy) [.ref h0] [wE h0 opa foa es, wR cy 0 8 opa op, wR cy 0 256 foa fo] (some (.int r)) [wE h0 opa foa es, wR cy 0 8 opa op, wR cy 0 256 foa fo] := by
  refine k_heapOf (cc := cX1_lowestBest) (maxL := 4) (ret := (some .int)) (by decide) rfl (Nat.le_of_ble_eq_true rfl) ?_
  intro p e s m args below meth c ls A hx hb hr hlocks hml hown hts hl hA hK hP hD hN
  have hl : lv_has ls 4 [(0, .ref h0)] := hl
  have hS : va_S A s.heap s.heap [] := va_S.rf
  have in_X1 : ∀ w ∈ wsX10, w ∈ wsX1_lowestBest := by decide +kernel
  have fl9 := hts (.fieldLink RX1 9 "FencedBoxes$Ends" "open" "[I") (by decide +kernel)
  have fl15 := hts (.fieldLink RX1 15 "FencedBoxes$Ends" "found" "[I") (by decide +kernel)
  have fl24 := hts (.fieldLink RX1 24 "FencedBoxes$Ends" "size" "I") (by decide +kernel)
  have L17 : ∀ (Q : State → Prop) (n : Nat) (b1 : Int32) (b2 : Int32) (es : Int32) (op : Nat → Int32) (fo : Nat → Int32) (s17 : Int32) (q : ((Int32) ⊕ (Int32))), k_loop (t_X1_lowestBest_17 b1 b2 es op fo) n s17 = some q → ∀ (ls : Array Slot) (H : Heap) (locs : List Loc), lv_has ls 4 [(0, .ref h0), (1, .int b1), (2, .int b2), (3, .int s17)] → va_P D vwCl [wE h0 opa foa es, wR cy 0 8 opa op, wR cy 0 256 foa fo] H → va_D A [wE h0 opa foa es, wR cy 0 8 opa op, wR cy 0 256 foa fo] → va_S A s.heap H locs → (∀ (ls : Array Slot) (H : Heap) (locs : List Loc) (x : Int32), q = .inl x → lv_has ls 4 [] → va_P D vwCl [wE h0 opa foa es, wR cy 0 8 opa op, wR cy 0 256 foa fo] H → va_D A [wE h0 opa foa es, wR cy 0 8 opa op, wR cy 0 256 foa fo] → va_S A s.heap H locs → W p l e rm_X1_lowestBest s m args below meth c H locs 0 0 Q (F0 m 54 ls [])) → (∀ (ls : Array Slot) (H : Heap) (locs : List Loc) (rr : Int32), q = .inr rr → ls.size = 4 → va_P D vwCl [wE h0 opa foa es, wR cy 0 8 opa op, wR cy 0 256 foa fo] H → va_D A [wE h0 opa foa es, wR cy 0 8 opa op, wR cy 0 256 foa fo] → va_S A s.heap H locs → W p l e rm_X1_lowestBest s m args below meth c H locs 0 0 Q (F0 m 47 ls [.int rr])) → W p l e rm_X1_lowestBest s m args below meth c H locs 0 0 Q (F0 m 17 ls []) := by
    intro Q n
    induction n with
    | zero =>
      intro b1 b2 es op fo s17 q hq
      exact (k_loop0 hq).elim
    | succ n ih =>
      intro b1 b2 es op fo s17 q hq ls H locs hl hP hD hS kx kr47
      obtain ⟨x, hf, hq⟩ := k_loopE hq
      unfold t_X1_lowestBest_17 at hf
      refine lv_iload_n hx hb dX1_lowestBest_17 rfl (lv_at hl 3 rfl) ?_
      refine lv_aload_n hx hb dX1_lowestBest_18 rfl (lv_at hl 0 rfl) ?_
      refine va_get (D := D) (ci := 0) (v := .int es) (C := RX1) (T := TX1) (N := 3) hx hb hts in_X1 hown hK hP 0 rfl rfl 2 (by decide) fl24 (fun _ h9 => h9) rfl dX1_lowestBest_19 ?_
      refine lv_icmp_ge (tgt := 54) hx hb dX1_lowestBest_22 (by decide) (fun c3 => ?_) (fun c3 => ?_)
      · have hf := k_T c3 hf
        obtain rfl := k_some hf
        obtain rfl := k_some (k_inr hq)
        exact kx ls H locs s17 rfl (lv_sub hl [] rfl) hP hD hS
      · have hf := k_F c3 hf
        refine lv_aload_n hx hb dX1_lowestBest_25 rfl (lv_at hl 0 rfl) ?_
        refine lv_iload_n hx hb dX1_lowestBest_26 rfl (lv_at hl 1 rfl) ?_
        refine lv_iload_n hx hb dX1_lowestBest_27 rfl (lv_at hl 2 rfl) ?_
        refine lv_iload_n hx hb dX1_lowestBest_28 rfl (lv_at hl 3 rfl) ?_
        obtain ⟨v4, hv4, hf⟩ := k_B hf
        refine k_callHV (As := [.int b1, .int b2, .int s17]) (rest := []) (r := (RX1, TX1, 3)) (ci := 0) (q0 := 0) (isC := [0, 1, 2]) (isR := []) (perm := [0, 1, 2]) (w' := [wE h0 opa foa es, wR cy 0 8 opa op, wR cy 0 256 foa fo]) ⟨hx, hb, hml, hown, hts⟩ (c_X1_reachedBy l D cy h0 opa foa es op fo b1 b2 s17 v4 hv4) (cwV 3 hts gX1_lowestBest_X1_reachedBy rfl rfl rfl hd_X1_reachedBy ⟨Nat.le_of_ble_eq_true rfl, Nat.le_of_ble_eq_true rfl⟩) hK hN hP hD hS hA rfl rfl rfl rfl rfl rfl (by decide) rfl rfl rfl hl.1 rfl (Nat.le_of_ble_eq_true rfl) dX1_lowestBest_29 ⟨Nat.zero_le _, Nat.zero_le _⟩ (fun H locs hP hD hS => ?_)
        refine lv_aload_n hx hb dX1_lowestBest_32 rfl (lv_at hl 0 rfl) ?_
        refine va_get (D := D) (ci := 0) (v := .ref foa) (C := RX1) (T := TX1) (N := 3) hx hb hts in_X1 hown hK hP 0 rfl rfl 1 (by decide) fl15 (fun _ h9 => h9) rfl dX1_lowestBest_33 ?_
        refine lv_iload_n hx hb dX1_lowestBest_36 rfl (lv_at hl 1 rfl) ?_
        obtain ⟨g5, hf⟩ := k_G hf
        refine va_iald hx hb hK hP 2 0 rfl rfl g5 dX1_lowestBest_37 ?_
        refine lv_icmp_ne (tgt := 48) hx hb dX1_lowestBest_38 (by decide) (fun c6 => ?_) (fun c6 => ?_)
        · have hf := k_F c6 hf
          refine lv_iinc (v := s17 + 1) (lv' := [(3, .int (s17 + 1)), (0, .ref h0), (1, .int b1), (2, .int b2)]) hx hb dX1_lowestBest_48 hl (k := 3) rfl rfl (by decide) rfl (fun ls hl => ?_)
          refine lv_goto (tgt := 17) hx hb dX1_lowestBest_51 (by decide) ?_
          obtain rfl := k_some hf
          exact ih b1 b2 es op fo (s17 + 1) q (k_inl hq) ls H locs (lv_sub hl [1, 2, 3, 0] rfl) hP hD hS kx kr47
        · have hf := k_T c6 hf
          refine lv_aload_n hx hb dX1_lowestBest_41 rfl (lv_at hl 0 rfl) ?_
          refine va_get (D := D) (ci := 0) (v := .ref opa) (C := RX1) (T := TX1) (N := 3) hx hb hts in_X1 hown hK hP 0 rfl rfl 0 (by decide) fl9 (fun _ h9 => h9) rfl dX1_lowestBest_42 ?_
          refine lv_iload_n hx hb dX1_lowestBest_45 rfl (lv_at hl 3 rfl) ?_
          obtain ⟨g7, hf⟩ := k_G hf
          refine va_iald hx hb hK hP 1 0 rfl rfl g7 dX1_lowestBest_46 ?_
          obtain rfl := k_some hf
          obtain rfl := k_some (k_inr hq)
          exact kr47 ls H locs (op s17.toNatClampNeg) rfl hl.1 hP hD hS
  unfold f_X1_lowestBest at hf
  obtain ⟨H, eH⟩ : ∃ H, H = s.heap := ⟨_, rfl⟩
  obtain ⟨locs, elocs⟩ : ∃ L : List Loc, L = [] := ⟨_, rfl⟩
  have hP : va_P D vwCl [wE h0 opa foa es, wR cy 0 8 opa op, wR cy 0 256 foa fo] H := by rw [eH]; exact hP
  have hS : va_S A s.heap H locs := by rw [eH, elocs]; exact hS
  refine k_here eH elocs ?_
  refine lv_iconst (v := 1) hx hb dX1_lowestBest_0 (by decide) ?_
  refine lv_aload_n hx hb dX1_lowestBest_1 rfl (lv_at hl 0 rfl) ?_
  refine va_get (D := D) (ci := 0) (v := .int es) (C := RX1) (T := TX1) (N := 3) hx hb hts in_X1 hown hK hP 0 rfl rfl 2 (by decide) fl24 (fun _ h9 => h9) rfl dX1_lowestBest_2 ?_
  refine lv_ishl hx hb dX1_lowestBest_5 ?_
  refine lv_iconst (v := 1) hx hb dX1_lowestBest_6 (by decide) ?_
  refine lv_isub hx hb dX1_lowestBest_7 ?_
  obtain ⟨y1, ey1, hf⟩ := k_L hf
  refine k_name ey1 ?_
  refine lv_istore_n (lv' := [(1, .int y1), (0, .ref h0)]) hx hb dX1_lowestBest_8 rfl hl (by decide) rfl (fun ls hl => ?_)
  refine lv_aload_n hx hb dX1_lowestBest_9 rfl (lv_at hl 1 rfl) ?_
  refine lv_iload_n hx hb dX1_lowestBest_10 rfl (lv_at hl 0 rfl) ?_
  obtain ⟨v2, hv2, hf⟩ := k_B hf
  refine k_callHV (As := [.int y1]) (rest := []) (r := (RX1, TX1, 3)) (ci := 0) (q0 := 0) (isC := [0, 1, 2]) (isR := []) (perm := [0, 1, 2]) (w' := [wE h0 opa foa es, wR cy 0 8 opa op, wR cy 0 256 foa fo]) ⟨hx, hb, hml, hown, hts⟩ (c_X1_drawnBut l D cy h0 opa foa es op fo y1 v2 hv2) (cwV 1 hts gX1_lowestBest_X1_drawnBut rfl rfl rfl hd_X1_drawnBut ⟨Nat.le_of_ble_eq_true rfl, Nat.le_of_ble_eq_true rfl⟩) hK hN hP hD hS hA rfl rfl rfl rfl rfl rfl (by decide) rfl rfl rfl hl.1 rfl (Nat.le_of_ble_eq_true rfl) dX1_lowestBest_11 ⟨Nat.zero_le _, Nat.zero_le _⟩ (fun H locs hP hD hS => ?_)
  refine lv_istore_n (lv' := [(2, .int v2), (1, .int y1), (0, .ref h0)]) hx hb dX1_lowestBest_14 rfl hl (by decide) rfl (fun ls hl => ?_)
  refine lv_iconst (v := 0) hx hb dX1_lowestBest_15 (by decide) ?_
  refine lv_istore_n (lv' := [(3, .int 0), (2, .int v2), (1, .int y1), (0, .ref h0)]) hx hb dX1_lowestBest_16 rfl hl (by decide) rfl (fun ls hl => ?_)
  obtain ⟨x8, hx8, hf⟩ := k_B hf
  refine L17 _ 1000 y1 v2 es op fo 0 x8 hx8 ls H locs (lv_sub hl [3, 2, 1, 0] rfl) hP hD hS ?_ ?_
  · intro ls H locs z9 ez9 hl hP hD hS
    subst ez9
    have hf := k_inl hf
    refine lv_iconst (v := (-1)) hx hb dX1_lowestBest_54 (by decide) ?_
    obtain rfl := k_some hf
    exact k_iret hx hb hr hP hD hS dX1_lowestBest_55 hlocks
  · intro ls H locs r10 er10 hls hP hD hS
    subst er10
    have hf := k_inr hf
    obtain rfl := k_some hf
    exact k_iret hx hb hr hP hD hS dX1_lowestBest_47 hlocks
