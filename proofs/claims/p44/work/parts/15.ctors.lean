theorem k_updz : upd (fun _ => (0 : Int32)) (Int32.toNatClampNeg 0) 0 = (fun _ => 0) := by
  funext j
  unfold upd
  split <;> rfl
theorem k_fill4 {a b c d : Nat} : va_up (va_up (va_up (va_up (fun _ => none) (Int32.toNatClampNeg 0) (some a)) (Int32.toNatClampNeg 1) (some b)) (Int32.toNatClampNeg 2) (some c)) (Int32.toNatClampNeg 3) (some d) = k_row4 a b c d := by
  have h0 : Int32.toNatClampNeg 0 = 0 := by decide
  have h1 : Int32.toNatClampNeg 1 = 1 := by decide
  have h2 : Int32.toNatClampNeg 2 = 2 := by decide
  have h3 : Int32.toNatClampNeg 3 = 3 := by decide
  funext j
  rw [h0, h1, h2, h3]
  unfold va_up k_row4
  by_cases e0 : j = 0
  · subst e0; rfl
  · by_cases e1 : j = 1
    · subst e1; rfl
    · by_cases e2 : j = 2
      · subst e2; rfl
      · by_cases e3 : j = 3
        · subst e3; rfl
        · simp [e0, e1, e2, e3]
abbrev rm_X2_init : Room := { frames := 1, cells := 0, slots := 0, locals := 20 }
theorem hd_X2_init : yX2_init.cls ≠ "java/lang/invoke/MethodHandle" ∧ yX2_init.cls ≠ "java/lang/invoke/VarHandle" ∧ (parseMethodDescriptor yX2_init.desc).map (fun d => d.parameters.length) = some 0 := by decide +kernel
set_option maxHeartbeats 4000000 in
set_option maxRecDepth 100000 in
theorem c_X2_init (l : Launch) (D : va_G) (cy : Nat → ClassId) (h0 : Nat) (z0 : Int32) (z1 : Int32) (z2 : Int32) (z3 : Int32) (z4 : Int32) (z5 : Int32) (z6 : Int32) (z7 : Int32) : k_CMet l yX2_init wsX2_init rm_X2_init D (k_tys cy) [.ref h0] [wG h0 (z0, z1, z2, z3, z4, z5, z6, z7)] (fun w => w = [wG h0 (z0, z1, z2, z3, z4, z5, z6, z7)]) 0 0 := by
  refine k_ctorOf (cc := cX2_init) (maxL := 1) (ret := none) (by decide) rfl (Nat.le_of_ble_eq_true rfl) ?_
  intro p e s m args below meth c ls A hx hb hr hlocks hml hown hts hl hA hK hP hD hE hin
  have hl : lv_has ls 1 [(0, .ref h0)] := hl
  have hS : va_S A s.heap s.heap [] := va_S.rf
  obtain ⟨H, eH⟩ : ∃ H, H = s.heap := ⟨_, rfl⟩
  obtain ⟨locs, elocs⟩ : ∃ L : List Loc, L = [] := ⟨_, rfl⟩
  have hP : va_P D vwCl [wG h0 (z0, z1, z2, z3, z4, z5, z6, z7)] H := by rw [eH]; exact hP
  have hS : va_S A s.heap H locs := by rw [eH, elocs]; exact hS
  refine k_here eH elocs ?_
  refine lv_aload_n hx hb dX2_init_0 rfl (lv_at hl 0 rfl) ?_
  refine W.objInit hx hb hown (hts (.methodLink RX2 3 objectInit) (by decide +kernel)) (hts (.instanceMethod objectInit) (by decide +kernel)) (hts (.code objectInit ⟨#[0xb1]⟩ 1 none) (by decide +kernel)) rfl (by rw [hml]; exact hl.1) rfl dX2_init_1 (Nat.le_of_ble_eq_true rfl) (Nat.le_of_ble_eq_true rfl) ?_
  refine W.eq (g2 := F0 m 4 ls []) rfl ?_
  have hP := hP.sub (ws' := [wG h0 (z0, z1, z2, z3, z4, z5, z6, z7)]) [0] rfl
  have hD := hD.sub (ws' := [wG h0 (z0, z1, z2, z3, z4, z5, z6, z7)]) [0] rfl rfl
  exact k_cvret (w' := [wG h0 (z0, z1, z2, z3, z4, z5, z6, z7)]) hx hb hr rfl hP hD hS dX2_init_4 hlocks
abbrev rm_X1_init : Room := { frames := 1, cells := 2, slots := 264, locals := 20 }
theorem hd_X1_init : yX1_init.cls ≠ "java/lang/invoke/MethodHandle" ∧ yX1_init.cls ≠ "java/lang/invoke/VarHandle" ∧ (parseMethodDescriptor yX1_init.desc).map (fun d => d.parameters.length) = some 0 := by decide +kernel
set_option maxHeartbeats 4000000 in
set_option maxRecDepth 100000 in
theorem c_X1_init (l : Launch) (D : va_G) (cy : Nat → ClassId) (h0 : Nat) (z0 : Int32) : k_CMet l yX1_init wsX1_init rm_X1_init D (k_tys cy) [.ref h0] [(h0, .inr (0, [.null, .null, .int z0]))] (fun w => ∃ (opa : Nat) (foa : Nat), w = [wE h0 opa foa z0, wR cy 0 8 opa (fun _ => 0), wR cy 0 256 foa (fun _ => 0)]) 2 264 := by
  refine k_ctorOf (cc := cX1_init) (maxL := 1) (ret := none) (by decide) rfl (Nat.le_of_ble_eq_true rfl) ?_
  intro p e s m args below meth c ls A hx hb hr hlocks hml hown hts hl hA hK hP hD hE hin
  have hl : lv_has ls 1 [(0, .ref h0)] := hl
  have hS : va_S A s.heap s.heap [] := va_S.rf
  have in_X1 : ∀ w ∈ wsX10, w ∈ wsX1_init := by decide +kernel
  have fl9 := hts (.fieldLink RX1 9 "FencedBoxes$Ends" "open" "[I") (by decide +kernel)
  have fl15 := hts (.fieldLink RX1 15 "FencedBoxes$Ends" "found" "[I") (by decide +kernel)
  obtain ⟨H, eH⟩ : ∃ H, H = s.heap := ⟨_, rfl⟩
  obtain ⟨locs, elocs⟩ : ∃ L : List Loc, L = [] := ⟨_, rfl⟩
  have hP : va_P D vwCl [(h0, .inr (0, [.null, .null, .int z0]))] H := by rw [eH]; exact hP
  have hS : va_S A s.heap H locs := by rw [eH, elocs]; exact hS
  refine k_here eH elocs ?_
  refine lv_aload_n hx hb dX1_init_0 rfl (lv_at hl 0 rfl) ?_
  refine W.objInit hx hb hown (hts (.methodLink RX1 3 objectInit) (by decide +kernel)) (hts (.instanceMethod objectInit) (by decide +kernel)) (hts (.code objectInit ⟨#[0xb1]⟩ 1 none) (by decide +kernel)) rfl (by rw [hml]; exact hl.1) rfl dX1_init_1 (Nat.le_of_ble_eq_true rfl) (Nat.le_of_ble_eq_true rfl) ?_
  refine W.eq (g2 := F0 m 4 ls []) rfl ?_
  refine lv_aload_n hx hb dX1_init_4 rfl (lv_at hl 0 rfl) ?_
  refine lv_bipush (v := 8) hx hb dX1_init_5 (by decide) ?_
  refine va_newa (atype := .int) (a0 := (8, .inl (fun _ => 0))) hx hb (hts (.arrayClass .int) (by decide +kernel)) rfl hK hP hD hS hA (fun _ => rfl) (by decide) (by decide) (by decide) (Nat.le_of_ble_eq_true rfl) (Nat.le_of_ble_eq_true rfl) dX1_init_7 (fun q1 cA H hK1 hP hD hS => ?_)
  obtain rfl := k_sameI hK1
  have hP : va_P D vwCl [(h0, .inr (0, [.null, .null, .int z0])), wR cy 0 8 q1 (fun _ => 0)] H := hP
  have hD : va_D A [(h0, .inr (0, [.null, .null, .int z0])), wR cy 0 8 q1 (fun _ => 0)] := hD
  refine va_putF (D := D) (ci := 0) (v := .ref q1) (ty := .array .int) (C := RX1) (T := TX1) (N := 3) hx hb hts in_X1 tyX1 tyX1_ok nmX1 hown hK hP hD hS 0 rfl rfl 0 (by decide) fl9 (fun _ h9 => h9) rfl hin rfl (by decide +kernel) rfl rfl (Nat.le_of_ble_eq_true rfl) dX1_init_9 (fun H locs hP hD hS => ?_)
  have hP : va_P D vwCl [(h0, .inr (0, [.ref q1, .null, .int z0])), wR cy 0 8 q1 (fun _ => 0)] H := hP
  have hD : va_D A [(h0, .inr (0, [.ref q1, .null, .int z0])), wR cy 0 8 q1 (fun _ => 0)] := hD
  refine lv_aload_n hx hb dX1_init_12 rfl (lv_at hl 0 rfl) ?_
  refine lv_sipush (v := 256) hx hb dX1_init_13 (by decide) ?_
  refine va_newa (atype := .int) (a0 := (256, .inl (fun _ => 0))) hx hb (hts (.arrayClass .int) (by decide +kernel)) rfl hK hP hD hS hA (fun _ => rfl) (by decide) (by decide) (by decide) (Nat.le_of_ble_eq_true rfl) (Nat.le_of_ble_eq_true rfl) dX1_init_16 (fun q2 cA H hK1 hP hD hS => ?_)
  obtain rfl := k_sameI hK1
  have hP : va_P D vwCl [(h0, .inr (0, [.ref q1, .null, .int z0])), wR cy 0 8 q1 (fun _ => 0), wR cy 0 256 q2 (fun _ => 0)] H := hP
  have hD : va_D A [(h0, .inr (0, [.ref q1, .null, .int z0])), wR cy 0 8 q1 (fun _ => 0), wR cy 0 256 q2 (fun _ => 0)] := hD
  refine va_putF (D := D) (ci := 0) (v := .ref q2) (ty := .array .int) (C := RX1) (T := TX1) (N := 3) hx hb hts in_X1 tyX1 tyX1_ok nmX1 hown hK hP hD hS 0 rfl rfl 1 (by decide) fl15 (fun _ h9 => h9) rfl hin rfl (by decide +kernel) rfl rfl (Nat.le_of_ble_eq_true rfl) dX1_init_18 (fun H locs hP hD hS => ?_)
  have hP : va_P D vwCl [wE h0 q1 q2 z0, wR cy 0 8 q1 (fun _ => 0), wR cy 0 256 q2 (fun _ => 0)] H := hP
  have hD : va_D A [wE h0 q1 q2 z0, wR cy 0 8 q1 (fun _ => 0), wR cy 0 256 q2 (fun _ => 0)] := hD
  have hP := hP.sub (ws' := [wE h0 q1 q2 z0, wR cy 0 8 q1 (fun _ => 0), wR cy 0 256 q2 (fun _ => 0)]) [0, 1, 2] rfl
  have hD := hD.sub (ws' := [wE h0 q1 q2 z0, wR cy 0 8 q1 (fun _ => 0), wR cy 0 256 q2 (fun _ => 0)]) [0, 1, 2] rfl rfl
  exact k_cvret (w' := [wE h0 q1 q2 z0, wR cy 0 8 q1 (fun _ => 0), wR cy 0 256 q2 (fun _ => 0)]) hx hb hr ⟨q1, q2, rfl⟩ hP hD hS dX1_init_21 hlocks
abbrev rm_X5_init : Room := { frames := 2, cells := 2, slots := 68, locals := 40 }
theorem hd_X5_init : yX5_init.cls ≠ "java/lang/invoke/MethodHandle" ∧ yX5_init.cls ≠ "java/lang/invoke/VarHandle" ∧ (parseMethodDescriptor yX5_init.desc).map (fun d => d.parameters.length) = some 0 := by decide +kernel
set_option maxHeartbeats 4000000 in
set_option maxRecDepth 100000 in
theorem c_X5_init (l : Launch) (D : va_G) (cy : Nat → ClassId) (h0 : Nat) (z0 : Int32) (z1 : Int32) (z2 : Int32) (z3 : Int32) (z4 : Int32) : k_CMet l yX5_init wsX5_init rm_X5_init D (k_tys cy) [.ref h0] [(h0, .inr (3, [.null, .null, .int z0, .int z1, .int z2, .int z3, .int z4]))] (fun w => ∃ (cha : Nat) (tra : Nat), w = [wO h0 cha tra (z0, z1, z2, z3, z4), wR cy 1 60 cha (fun _ => 0), wG tra (0, 0, 0, 0, 0, 0, 0, 0)]) 2 68 := by
  refine k_ctorOf (cc := cX5_init) (maxL := 1) (ret := none) (by decide) rfl (Nat.le_of_ble_eq_true rfl) ?_
  intro p e s m args below meth c ls A hx hb hr hlocks hml hown hts hl hA hK hP hD hE hin
  have hl : lv_has ls 1 [(0, .ref h0)] := hl
  have hS : va_S A s.heap s.heap [] := va_S.rf
  have in_X2 : ∀ w ∈ wsX20, w ∈ wsX5_init := by decide +kernel
  have in_X5 : ∀ w ∈ wsX50, w ∈ wsX5_init := by decide +kernel
  have fl9 := hts (.fieldLink RX5 9 "FencedBoxes$Orders" "characters" "[C") (by decide +kernel)
  have fl18 := hts (.fieldLink RX5 18 "FencedBoxes$Orders" "trial" "LFencedBoxes$Game;") (by decide +kernel)
  obtain ⟨H, eH⟩ : ∃ H, H = s.heap := ⟨_, rfl⟩
  obtain ⟨locs, elocs⟩ : ∃ L : List Loc, L = [] := ⟨_, rfl⟩
  have hP : va_P D vwCl [(h0, .inr (3, [.null, .null, .int z0, .int z1, .int z2, .int z3, .int z4]))] H := by rw [eH]; exact hP
  have hS : va_S A s.heap H locs := by rw [eH, elocs]; exact hS
  refine k_here eH elocs ?_
  refine lv_aload_n hx hb dX5_init_0 rfl (lv_at hl 0 rfl) ?_
  refine W.objInit hx hb hown (hts (.methodLink RX5 3 objectInit) (by decide +kernel)) (hts (.instanceMethod objectInit) (by decide +kernel)) (hts (.code objectInit ⟨#[0xb1]⟩ 1 none) (by decide +kernel)) rfl (by rw [hml]; exact hl.1) rfl dX5_init_1 (Nat.le_of_ble_eq_true rfl) (Nat.le_of_ble_eq_true rfl) ?_
  refine W.eq (g2 := F0 m 4 ls []) rfl ?_
  refine lv_aload_n hx hb dX5_init_4 rfl (lv_at hl 0 rfl) ?_
  refine lv_bipush (v := 60) hx hb dX5_init_5 (by decide) ?_
  refine va_newa (atype := .char) (a0 := (60, .inl (fun _ => 0))) hx hb (hts (.arrayClass .char) (by decide +kernel)) rfl hK hP hD hS hA (fun _ => rfl) (by decide) (by decide) (by decide) (Nat.le_of_ble_eq_true rfl) (Nat.le_of_ble_eq_true rfl) dX5_init_7 (fun q1 cA H hK1 hP hD hS => ?_)
  obtain rfl := k_sameC hK1
  have hP : va_P D vwCl [(h0, .inr (3, [.null, .null, .int z0, .int z1, .int z2, .int z3, .int z4])), wR cy 1 60 q1 (fun _ => 0)] H := hP
  have hD : va_D A [(h0, .inr (3, [.null, .null, .int z0, .int z1, .int z2, .int z3, .int z4])), wR cy 1 60 q1 (fun _ => 0)] := hD
  refine va_putF (D := D) (ci := 3) (v := .ref q1) (ty := .array .char) (C := RX5) (T := TX5) (N := 7) hx hb hts in_X5 tyX5 tyX5_ok nmX5 hown hK hP hD hS 0 rfl rfl 0 (by decide) fl9 (fun _ h9 => h9) rfl hin rfl (by decide +kernel) rfl rfl (Nat.le_of_ble_eq_true rfl) dX5_init_9 (fun H locs hP hD hS => ?_)
  have hP : va_P D vwCl [(h0, .inr (3, [.ref q1, .null, .int z0, .int z1, .int z2, .int z3, .int z4])), wR cy 1 60 q1 (fun _ => 0)] H := hP
  have hD : va_D A [(h0, .inr (3, [.ref q1, .null, .int z0, .int z1, .int z2, .int z3, .int z4])), wR cy 1 60 q1 (fun _ => 0)] := hD
  refine lv_aload_n hx hb dX5_init_12 rfl (lv_at hl 0 rfl) ?_
  refine va_new (ci := 1) (fs := [.int 0, .int 0, .int 0, .int 0, .int 0, .int 0, .int 0, .int 0]) (C := RX2) (T := TX2) (N := 8) hx hb hts in_X2 tyX2 tyX2_ok hown (hts (.classLink RX5 15 RX2) (by decide +kernel)) (hts (.instantiable RX2 8) (by decide +kernel)) (hts (.initialized RX2) (by decide +kernel)) hK hP hD hS hA rfl (fun j hj => by rcases (show j = 0 ∨ j = 1 ∨ j = 2 ∨ j = 3 ∨ j = 4 ∨ j = 5 ∨ j = 6 ∨ j = 7 by omega) with rfl | rfl | rfl | rfl | rfl | rfl | rfl | rfl <;> rfl) (Nat.le_of_ble_eq_true rfl) (Nat.le_of_ble_eq_true rfl) dX5_init_13 (fun q2 H hP hD hS => ?_)
  have hP : va_P D vwCl [(h0, .inr (3, [.ref q1, .null, .int z0, .int z1, .int z2, .int z3, .int z4])), wR cy 1 60 q1 (fun _ => 0), wG q2 (0, 0, 0, 0, 0, 0, 0, 0)] H := hP
  have hD : va_D A [(h0, .inr (3, [.ref q1, .null, .int z0, .int z1, .int z2, .int z3, .int z4])), wR cy 1 60 q1 (fun _ => 0), wG q2 (0, 0, 0, 0, 0, 0, 0, 0)] := hD
  refine lv_dup hx hb dX5_init_16 rfl ?_
  refine k_callCIN (rest := [.ref q2, .ref h0]) (isC := [2]) (isR := [0, 1]) ⟨hx, hb, hml, hown, hts⟩ (c_X2_init l D cy q2 0 0 0 0 0 0 0 0) ⟨va_cnB (host := "FencedBoxes") 0 hts gX5_init_X2_init_n17 rfl rfl rfl (hE.1.1 _ (show (RX5, 17, yX2_init, "FencedBoxes") ∈ k_nest by decide +kernel)) (hts (.initialized RX2) (by decide +kernel)) hd_X2_init ⟨Nat.le_of_ble_eq_true rfl, Nat.le_of_ble_eq_true rfl⟩, rfl, hts (.instanceMethod yX2_init) (by decide +kernel)⟩ hK hE hP hD hS hA rfl rfl rfl rfl (by decide) hl.1 rfl (Nat.le_of_ble_eq_true rfl) dX5_init_17 ⟨Nat.le_of_ble_eq_true rfl, Nat.le_of_ble_eq_true rfl⟩ (fun w1 H locs hp hP hD hS => ?_)
  obtain rfl := hp
  have hP : va_P D vwCl [(h0, .inr (3, [.ref q1, .null, .int z0, .int z1, .int z2, .int z3, .int z4])), wR cy 1 60 q1 (fun _ => 0), wG q2 (0, 0, 0, 0, 0, 0, 0, 0)] H := hP
  have hD : va_D A [(h0, .inr (3, [.ref q1, .null, .int z0, .int z1, .int z2, .int z3, .int z4])), wR cy 1 60 q1 (fun _ => 0), wG q2 (0, 0, 0, 0, 0, 0, 0, 0)] := hD
  refine va_putF (D := D) (ci := 3) (v := .ref q2) (ty := .object "FencedBoxes$Game") (C := RX5) (T := TX5) (N := 7) hx hb hts in_X5 tyX5 tyX5_ok nmX5 hown hK hP hD hS 0 rfl rfl 1 (by decide) fl18 (fun _ h9 => h9) rfl hin rfl (by decide +kernel) rfl rfl (Nat.le_of_ble_eq_true rfl) dX5_init_20 (fun H locs hP hD hS => ?_)
  have hP : va_P D vwCl [wO h0 q1 q2 (z0, z1, z2, z3, z4), wR cy 1 60 q1 (fun _ => 0), wG q2 (0, 0, 0, 0, 0, 0, 0, 0)] H := hP
  have hD : va_D A [wO h0 q1 q2 (z0, z1, z2, z3, z4), wR cy 1 60 q1 (fun _ => 0), wG q2 (0, 0, 0, 0, 0, 0, 0, 0)] := hD
  have hP := hP.sub (ws' := [wO h0 q1 q2 (z0, z1, z2, z3, z4), wR cy 1 60 q1 (fun _ => 0), wG q2 (0, 0, 0, 0, 0, 0, 0, 0)]) [0, 1, 2] rfl
  have hD := hD.sub (ws' := [wO h0 q1 q2 (z0, z1, z2, z3, z4), wR cy 1 60 q1 (fun _ => 0), wG q2 (0, 0, 0, 0, 0, 0, 0, 0)]) [0, 1, 2] rfl rfl
  exact k_cvret (w' := [wO h0 q1 q2 (z0, z1, z2, z3, z4), wR cy 1 60 q1 (fun _ => 0), wG q2 (0, 0, 0, 0, 0, 0, 0, 0)]) hx hb hr ⟨q1, q2, rfl⟩ hP hD hS dX5_init_23 hlocks
abbrev rm_X4_init : Room := { frames := 2, cells := 5, slots := 36, locals := 40 }
theorem hd_X4_init : yX4_init.cls ≠ "java/lang/invoke/MethodHandle" ∧ yX4_init.cls ≠ "java/lang/invoke/VarHandle" ∧ (parseMethodDescriptor yX4_init.desc).map (fun d => d.parameters.length) = some 0 := by decide +kernel
set_option maxHeartbeats 4000000 in
set_option maxRecDepth 100000 in
theorem c_X4_init (l : Launch) (D : va_G) (cy : Nat → ClassId) (h0 : Nat) (z0 : Int32) : k_CMet l yX4_init wsX4_init rm_X4_init D (k_tys cy) [.ref h0] [(h0, .inr (2, [.null, .int z0]))] (fun w => ∃ (ka : Nat) (q0 : Nat) (q1 : Nat) (q2 : Nat) (q3 : Nat), w = [wH h0 ka z0, wK cy ka (q0, q1, q2, q3), wG q0 (0, 0, 0, 0, 0, 0, 0, 0), wG q1 (0, 0, 0, 0, 0, 0, 0, 0), wG q2 (0, 0, 0, 0, 0, 0, 0, 0), wG q3 (0, 0, 0, 0, 0, 0, 0, 0)]) 5 36 := by
  refine k_ctorOf (cc := cX4_init) (maxL := 2) (ret := none) (by decide) rfl (Nat.le_of_ble_eq_true rfl) ?_
  intro p e s m args below meth c ls A hx hb hr hlocks hml hown hts hl hA hK hP hD hE hin
  have hl : lv_has ls 2 [(0, .ref h0)] := hl
  have hS : va_S A s.heap s.heap [] := va_S.rf
  have in_X2 : ∀ w ∈ wsX20, w ∈ wsX4_init := by decide +kernel
  have in_X4 : ∀ w ∈ wsX40, w ∈ wsX4_init := by decide +kernel
  have fl11 := hts (.fieldLink RX4 11 "FencedBoxes$History" "kept" "[LFencedBoxes$Game;") (by decide +kernel)
  obtain ⟨H, eH⟩ : ∃ H, H = s.heap := ⟨_, rfl⟩
  obtain ⟨locs, elocs⟩ : ∃ L : List Loc, L = [] := ⟨_, rfl⟩
  have hP : va_P D vwCl [(h0, .inr (2, [.null, .int z0]))] H := by rw [eH]; exact hP
  have hS : va_S A s.heap H locs := by rw [eH, elocs]; exact hS
  refine k_here eH elocs ?_
  refine lv_aload_n hx hb dX4_init_0 rfl (lv_at hl 0 rfl) ?_
  refine W.objInit hx hb hown (hts (.methodLink RX4 3 objectInit) (by decide +kernel)) (hts (.instanceMethod objectInit) (by decide +kernel)) (hts (.code objectInit ⟨#[0xb1]⟩ 1 none) (by decide +kernel)) rfl (by rw [hml]; exact hl.1) rfl dX4_init_1 (Nat.le_of_ble_eq_true rfl) (Nat.le_of_ble_eq_true rfl) ?_
  refine W.eq (g2 := F0 m 4 ls []) rfl ?_
  refine lv_aload_n hx hb dX4_init_4 rfl (lv_at hl 0 rfl) ?_
  refine lv_iconst (v := 4) hx hb dX4_init_5 (by decide) ?_
  refine va_newq (C := "FencedBoxes$Game") (n := 4) (N' := 4) hx hb hown (hts (.classLink RX4 9 RX2) (by decide +kernel)) hE.2 hK hP hD hS hA (by decide) (by decide) (by decide) (Nat.le_of_ble_eq_true rfl) (Nat.le_of_ble_eq_true rfl) dX4_init_6 (fun q1 cA H hK1 hP hD hS => ?_)
  obtain rfl := k_sameG hK1
  have hP : va_P D vwCl [(h0, .inr (2, [.null, .int z0])), (q1, .inl (cy 2, 4, .inr (.inr (.inr (.inr (fun _ => none))))))] H := hP
  have hD : va_D A [(h0, .inr (2, [.null, .int z0])), (q1, .inl (cy 2, 4, .inr (.inr (.inr (.inr (fun _ => none))))))] := hD
  refine va_putF (D := D) (ci := 2) (v := .ref q1) (ty := .array (.object "FencedBoxes$Game")) (C := RX4) (T := TX4) (N := 2) hx hb hts in_X4 tyX4 tyX4_ok nmX4 hown hK hP hD hS 0 rfl rfl 0 (by decide) fl11 (fun _ h9 => h9) rfl hin rfl (by decide +kernel) rfl rfl (Nat.le_of_ble_eq_true rfl) dX4_init_9 (fun H locs hP hD hS => ?_)
  have hP : va_P D vwCl [wH h0 q1 z0, (q1, .inl (cy 2, 4, .inr (.inr (.inr (.inr (fun _ => none))))))] H := hP
  have hD : va_D A [wH h0 q1 z0, (q1, .inl (cy 2, 4, .inr (.inr (.inr (.inr (fun _ => none))))))] := hD
  refine lv_iconst (v := 0) hx hb dX4_init_12 (by decide) ?_
  refine lv_istore_n (lv' := [(1, .int 0), (0, .ref h0)]) hx hb dX4_init_13 rfl hl (by decide) rfl (fun ls hl => ?_)
  refine lv_iload_n hx hb dX4_init_14 rfl (lv_at hl 0 rfl) ?_
  refine lv_iconst (v := 4) hx hb dX4_init_15 (by decide) ?_
  refine lv_icmp_ge (tgt := 38) hx hb dX4_init_16 (by decide) (fun c9 => absurd c9 (by decide)) (fun c9 => ?_)
  refine lv_aload_n hx hb dX4_init_19 rfl (lv_at hl 1 rfl) ?_
  refine va_get (D := D) (ci := 2) (v := .ref q1) (C := RX4) (T := TX4) (N := 2) hx hb hts in_X4 hown hK hP 0 rfl rfl 0 (by decide) fl11 (fun _ h9 => h9) rfl dX4_init_20 ?_
  refine lv_iload_n hx hb dX4_init_23 rfl (lv_at hl 0 rfl) ?_
  refine va_new (ci := 1) (fs := [.int 0, .int 0, .int 0, .int 0, .int 0, .int 0, .int 0, .int 0]) (C := RX2) (T := TX2) (N := 8) hx hb hts in_X2 tyX2 tyX2_ok hown (hts (.classLink RX4 9 RX2) (by decide +kernel)) (hts (.instantiable RX2 8) (by decide +kernel)) (hts (.initialized RX2) (by decide +kernel)) hK hP hD hS hA rfl (fun j hj => by rcases (show j = 0 ∨ j = 1 ∨ j = 2 ∨ j = 3 ∨ j = 4 ∨ j = 5 ∨ j = 6 ∨ j = 7 by omega) with rfl | rfl | rfl | rfl | rfl | rfl | rfl | rfl <;> rfl) (Nat.le_of_ble_eq_true rfl) (Nat.le_of_ble_eq_true rfl) dX4_init_24 (fun q2 H hP hD hS => ?_)
  have hP : va_P D vwCl [wH h0 q1 z0, (q1, .inl (cy 2, 4, .inr (.inr (.inr (.inr (fun _ => none)))))), wG q2 (0, 0, 0, 0, 0, 0, 0, 0)] H := hP
  have hD : va_D A [wH h0 q1 z0, (q1, .inl (cy 2, 4, .inr (.inr (.inr (.inr (fun _ => none)))))), wG q2 (0, 0, 0, 0, 0, 0, 0, 0)] := hD
  refine lv_dup hx hb dX4_init_27 rfl ?_
  refine k_callCIN (rest := [.ref q2, .int 0, .ref q1]) (isC := [2]) (isR := [0, 1]) ⟨hx, hb, hml, hown, hts⟩ (c_X2_init l D cy q2 0 0 0 0 0 0 0 0) ⟨va_cnB (host := "FencedBoxes") 0 hts gX4_init_X2_init_n17 rfl rfl rfl (hE.1.1 _ (show (RX4, 17, yX2_init, "FencedBoxes") ∈ k_nest by decide +kernel)) (hts (.initialized RX2) (by decide +kernel)) hd_X2_init ⟨Nat.le_of_ble_eq_true rfl, Nat.le_of_ble_eq_true rfl⟩, rfl, hts (.instanceMethod yX2_init) (by decide +kernel)⟩ hK hE hP hD hS hA rfl rfl rfl rfl (by decide) hl.1 rfl (Nat.le_of_ble_eq_true rfl) dX4_init_28 ⟨Nat.le_of_ble_eq_true rfl, Nat.le_of_ble_eq_true rfl⟩ (fun w1 H locs hp hP hD hS => ?_)
  obtain rfl := hp
  have hP : va_P D vwCl [wH h0 q1 z0, (q1, .inl (cy 2, 4, .inr (.inr (.inr (.inr (fun _ => none)))))), wG q2 (0, 0, 0, 0, 0, 0, 0, 0)] H := hP
  have hD : va_D A [wH h0 q1 z0, (q1, .inl (cy 2, 4, .inr (.inr (.inr (.inr (fun _ => none)))))), wG q2 (0, 0, 0, 0, 0, 0, 0, 0)] := hD
  refine va_astq hx hb hK hP hD hS 1 2 2 1 rfl rfl rfl rfl (k_in (i := 0) (n := 4) (by decide +kernel)) dX4_init_31 (fun H locs hP hD hS => ?_)
  have hP : va_P D vwCl [wH h0 q1 z0, (q1, .inl (cy 2, 4, .inr (.inr (.inr (.inr (va_up (fun _ => none) (Int32.toNatClampNeg 0) (some q2))))))), wG q2 (0, 0, 0, 0, 0, 0, 0, 0)] H := hP
  have hD : va_D A [wH h0 q1 z0, (q1, .inl (cy 2, 4, .inr (.inr (.inr (.inr (va_up (fun _ => none) (Int32.toNatClampNeg 0) (some q2))))))), wG q2 (0, 0, 0, 0, 0, 0, 0, 0)] := hD
  refine lv_iinc (v := 1) (lv' := [(1, .int 1), (0, .ref h0)]) hx hb dX4_init_32 hl (k := 0) rfl (by decide) (by decide) rfl (fun ls hl => ?_)
  refine lv_goto (tgt := 14) hx hb dX4_init_35 (by decide) ?_
  refine lv_iload_n hx hb dX4_init_14 rfl (lv_at hl 0 rfl) ?_
  refine lv_iconst (v := 4) hx hb dX4_init_15 (by decide) ?_
  refine lv_icmp_ge (tgt := 38) hx hb dX4_init_16 (by decide) (fun c9 => absurd c9 (by decide)) (fun c9 => ?_)
  refine lv_aload_n hx hb dX4_init_19 rfl (lv_at hl 1 rfl) ?_
  refine va_get (D := D) (ci := 2) (v := .ref q1) (C := RX4) (T := TX4) (N := 2) hx hb hts in_X4 hown hK hP 0 rfl rfl 0 (by decide) fl11 (fun _ h9 => h9) rfl dX4_init_20 ?_
  refine lv_iload_n hx hb dX4_init_23 rfl (lv_at hl 0 rfl) ?_
  refine va_new (ci := 1) (fs := [.int 0, .int 0, .int 0, .int 0, .int 0, .int 0, .int 0, .int 0]) (C := RX2) (T := TX2) (N := 8) hx hb hts in_X2 tyX2 tyX2_ok hown (hts (.classLink RX4 9 RX2) (by decide +kernel)) (hts (.instantiable RX2 8) (by decide +kernel)) (hts (.initialized RX2) (by decide +kernel)) hK hP hD hS hA rfl (fun j hj => by rcases (show j = 0 ∨ j = 1 ∨ j = 2 ∨ j = 3 ∨ j = 4 ∨ j = 5 ∨ j = 6 ∨ j = 7 by omega) with rfl | rfl | rfl | rfl | rfl | rfl | rfl | rfl <;> rfl) (Nat.le_of_ble_eq_true rfl) (Nat.le_of_ble_eq_true rfl) dX4_init_24 (fun q3 H hP hD hS => ?_)
  have hP : va_P D vwCl [wH h0 q1 z0, (q1, .inl (cy 2, 4, .inr (.inr (.inr (.inr (va_up (fun _ => none) (Int32.toNatClampNeg 0) (some q2))))))), wG q2 (0, 0, 0, 0, 0, 0, 0, 0), wG q3 (0, 0, 0, 0, 0, 0, 0, 0)] H := hP
  have hD : va_D A [wH h0 q1 z0, (q1, .inl (cy 2, 4, .inr (.inr (.inr (.inr (va_up (fun _ => none) (Int32.toNatClampNeg 0) (some q2))))))), wG q2 (0, 0, 0, 0, 0, 0, 0, 0), wG q3 (0, 0, 0, 0, 0, 0, 0, 0)] := hD
  refine lv_dup hx hb dX4_init_27 rfl ?_
  refine k_callCIN (rest := [.ref q3, .int 1, .ref q1]) (isC := [3]) (isR := [0, 1, 2]) ⟨hx, hb, hml, hown, hts⟩ (c_X2_init l D cy q3 0 0 0 0 0 0 0 0) ⟨va_cnB (host := "FencedBoxes") 0 hts gX4_init_X2_init_n17 rfl rfl rfl (hE.1.1 _ (show (RX4, 17, yX2_init, "FencedBoxes") ∈ k_nest by decide +kernel)) (hts (.initialized RX2) (by decide +kernel)) hd_X2_init ⟨Nat.le_of_ble_eq_true rfl, Nat.le_of_ble_eq_true rfl⟩, rfl, hts (.instanceMethod yX2_init) (by decide +kernel)⟩ hK hE hP hD hS hA rfl rfl rfl rfl (by decide) hl.1 rfl (Nat.le_of_ble_eq_true rfl) dX4_init_28 ⟨Nat.le_of_ble_eq_true rfl, Nat.le_of_ble_eq_true rfl⟩ (fun w1 H locs hp hP hD hS => ?_)
  obtain rfl := hp
  have hP : va_P D vwCl [wH h0 q1 z0, (q1, .inl (cy 2, 4, .inr (.inr (.inr (.inr (va_up (fun _ => none) (Int32.toNatClampNeg 0) (some q2))))))), wG q2 (0, 0, 0, 0, 0, 0, 0, 0), wG q3 (0, 0, 0, 0, 0, 0, 0, 0)] H := hP
  have hD : va_D A [wH h0 q1 z0, (q1, .inl (cy 2, 4, .inr (.inr (.inr (.inr (va_up (fun _ => none) (Int32.toNatClampNeg 0) (some q2))))))), wG q2 (0, 0, 0, 0, 0, 0, 0, 0), wG q3 (0, 0, 0, 0, 0, 0, 0, 0)] := hD
  refine va_astq hx hb hK hP hD hS 1 2 3 1 rfl rfl rfl rfl (k_in (i := 1) (n := 4) (by decide +kernel)) dX4_init_31 (fun H locs hP hD hS => ?_)
  have hP : va_P D vwCl [wH h0 q1 z0, (q1, .inl (cy 2, 4, .inr (.inr (.inr (.inr (va_up (va_up (fun _ => none) (Int32.toNatClampNeg 0) (some q2)) (Int32.toNatClampNeg 1) (some q3))))))), wG q2 (0, 0, 0, 0, 0, 0, 0, 0), wG q3 (0, 0, 0, 0, 0, 0, 0, 0)] H := hP
  have hD : va_D A [wH h0 q1 z0, (q1, .inl (cy 2, 4, .inr (.inr (.inr (.inr (va_up (va_up (fun _ => none) (Int32.toNatClampNeg 0) (some q2)) (Int32.toNatClampNeg 1) (some q3))))))), wG q2 (0, 0, 0, 0, 0, 0, 0, 0), wG q3 (0, 0, 0, 0, 0, 0, 0, 0)] := hD
  refine lv_iinc (v := 2) (lv' := [(1, .int 2), (0, .ref h0)]) hx hb dX4_init_32 hl (k := 0) rfl (by decide) (by decide) rfl (fun ls hl => ?_)
  refine lv_goto (tgt := 14) hx hb dX4_init_35 (by decide) ?_
  refine lv_iload_n hx hb dX4_init_14 rfl (lv_at hl 0 rfl) ?_
  refine lv_iconst (v := 4) hx hb dX4_init_15 (by decide) ?_
  refine lv_icmp_ge (tgt := 38) hx hb dX4_init_16 (by decide) (fun c9 => absurd c9 (by decide)) (fun c9 => ?_)
  refine lv_aload_n hx hb dX4_init_19 rfl (lv_at hl 1 rfl) ?_
  refine va_get (D := D) (ci := 2) (v := .ref q1) (C := RX4) (T := TX4) (N := 2) hx hb hts in_X4 hown hK hP 0 rfl rfl 0 (by decide) fl11 (fun _ h9 => h9) rfl dX4_init_20 ?_
  refine lv_iload_n hx hb dX4_init_23 rfl (lv_at hl 0 rfl) ?_
  refine va_new (ci := 1) (fs := [.int 0, .int 0, .int 0, .int 0, .int 0, .int 0, .int 0, .int 0]) (C := RX2) (T := TX2) (N := 8) hx hb hts in_X2 tyX2 tyX2_ok hown (hts (.classLink RX4 9 RX2) (by decide +kernel)) (hts (.instantiable RX2 8) (by decide +kernel)) (hts (.initialized RX2) (by decide +kernel)) hK hP hD hS hA rfl (fun j hj => by rcases (show j = 0 ∨ j = 1 ∨ j = 2 ∨ j = 3 ∨ j = 4 ∨ j = 5 ∨ j = 6 ∨ j = 7 by omega) with rfl | rfl | rfl | rfl | rfl | rfl | rfl | rfl <;> rfl) (Nat.le_of_ble_eq_true rfl) (Nat.le_of_ble_eq_true rfl) dX4_init_24 (fun q4 H hP hD hS => ?_)
  have hP : va_P D vwCl [wH h0 q1 z0, (q1, .inl (cy 2, 4, .inr (.inr (.inr (.inr (va_up (va_up (fun _ => none) (Int32.toNatClampNeg 0) (some q2)) (Int32.toNatClampNeg 1) (some q3))))))), wG q2 (0, 0, 0, 0, 0, 0, 0, 0), wG q3 (0, 0, 0, 0, 0, 0, 0, 0), wG q4 (0, 0, 0, 0, 0, 0, 0, 0)] H := hP
  have hD : va_D A [wH h0 q1 z0, (q1, .inl (cy 2, 4, .inr (.inr (.inr (.inr (va_up (va_up (fun _ => none) (Int32.toNatClampNeg 0) (some q2)) (Int32.toNatClampNeg 1) (some q3))))))), wG q2 (0, 0, 0, 0, 0, 0, 0, 0), wG q3 (0, 0, 0, 0, 0, 0, 0, 0), wG q4 (0, 0, 0, 0, 0, 0, 0, 0)] := hD
  refine lv_dup hx hb dX4_init_27 rfl ?_
  refine k_callCIN (rest := [.ref q4, .int 2, .ref q1]) (isC := [4]) (isR := [0, 1, 2, 3]) ⟨hx, hb, hml, hown, hts⟩ (c_X2_init l D cy q4 0 0 0 0 0 0 0 0) ⟨va_cnB (host := "FencedBoxes") 0 hts gX4_init_X2_init_n17 rfl rfl rfl (hE.1.1 _ (show (RX4, 17, yX2_init, "FencedBoxes") ∈ k_nest by decide +kernel)) (hts (.initialized RX2) (by decide +kernel)) hd_X2_init ⟨Nat.le_of_ble_eq_true rfl, Nat.le_of_ble_eq_true rfl⟩, rfl, hts (.instanceMethod yX2_init) (by decide +kernel)⟩ hK hE hP hD hS hA rfl rfl rfl rfl (by decide) hl.1 rfl (Nat.le_of_ble_eq_true rfl) dX4_init_28 ⟨Nat.le_of_ble_eq_true rfl, Nat.le_of_ble_eq_true rfl⟩ (fun w1 H locs hp hP hD hS => ?_)
  obtain rfl := hp
  have hP : va_P D vwCl [wH h0 q1 z0, (q1, .inl (cy 2, 4, .inr (.inr (.inr (.inr (va_up (va_up (fun _ => none) (Int32.toNatClampNeg 0) (some q2)) (Int32.toNatClampNeg 1) (some q3))))))), wG q2 (0, 0, 0, 0, 0, 0, 0, 0), wG q3 (0, 0, 0, 0, 0, 0, 0, 0), wG q4 (0, 0, 0, 0, 0, 0, 0, 0)] H := hP
  have hD : va_D A [wH h0 q1 z0, (q1, .inl (cy 2, 4, .inr (.inr (.inr (.inr (va_up (va_up (fun _ => none) (Int32.toNatClampNeg 0) (some q2)) (Int32.toNatClampNeg 1) (some q3))))))), wG q2 (0, 0, 0, 0, 0, 0, 0, 0), wG q3 (0, 0, 0, 0, 0, 0, 0, 0), wG q4 (0, 0, 0, 0, 0, 0, 0, 0)] := hD
  refine va_astq hx hb hK hP hD hS 1 2 4 1 rfl rfl rfl rfl (k_in (i := 2) (n := 4) (by decide +kernel)) dX4_init_31 (fun H locs hP hD hS => ?_)
  have hP : va_P D vwCl [wH h0 q1 z0, (q1, .inl (cy 2, 4, .inr (.inr (.inr (.inr (va_up (va_up (va_up (fun _ => none) (Int32.toNatClampNeg 0) (some q2)) (Int32.toNatClampNeg 1) (some q3)) (Int32.toNatClampNeg 2) (some q4))))))), wG q2 (0, 0, 0, 0, 0, 0, 0, 0), wG q3 (0, 0, 0, 0, 0, 0, 0, 0), wG q4 (0, 0, 0, 0, 0, 0, 0, 0)] H := hP
  have hD : va_D A [wH h0 q1 z0, (q1, .inl (cy 2, 4, .inr (.inr (.inr (.inr (va_up (va_up (va_up (fun _ => none) (Int32.toNatClampNeg 0) (some q2)) (Int32.toNatClampNeg 1) (some q3)) (Int32.toNatClampNeg 2) (some q4))))))), wG q2 (0, 0, 0, 0, 0, 0, 0, 0), wG q3 (0, 0, 0, 0, 0, 0, 0, 0), wG q4 (0, 0, 0, 0, 0, 0, 0, 0)] := hD
  refine lv_iinc (v := 3) (lv' := [(1, .int 3), (0, .ref h0)]) hx hb dX4_init_32 hl (k := 0) rfl (by decide) (by decide) rfl (fun ls hl => ?_)
  refine lv_goto (tgt := 14) hx hb dX4_init_35 (by decide) ?_
  refine lv_iload_n hx hb dX4_init_14 rfl (lv_at hl 0 rfl) ?_
  refine lv_iconst (v := 4) hx hb dX4_init_15 (by decide) ?_
  refine lv_icmp_ge (tgt := 38) hx hb dX4_init_16 (by decide) (fun c9 => absurd c9 (by decide)) (fun c9 => ?_)
  refine lv_aload_n hx hb dX4_init_19 rfl (lv_at hl 1 rfl) ?_
  refine va_get (D := D) (ci := 2) (v := .ref q1) (C := RX4) (T := TX4) (N := 2) hx hb hts in_X4 hown hK hP 0 rfl rfl 0 (by decide) fl11 (fun _ h9 => h9) rfl dX4_init_20 ?_
  refine lv_iload_n hx hb dX4_init_23 rfl (lv_at hl 0 rfl) ?_
  refine va_new (ci := 1) (fs := [.int 0, .int 0, .int 0, .int 0, .int 0, .int 0, .int 0, .int 0]) (C := RX2) (T := TX2) (N := 8) hx hb hts in_X2 tyX2 tyX2_ok hown (hts (.classLink RX4 9 RX2) (by decide +kernel)) (hts (.instantiable RX2 8) (by decide +kernel)) (hts (.initialized RX2) (by decide +kernel)) hK hP hD hS hA rfl (fun j hj => by rcases (show j = 0 ∨ j = 1 ∨ j = 2 ∨ j = 3 ∨ j = 4 ∨ j = 5 ∨ j = 6 ∨ j = 7 by omega) with rfl | rfl | rfl | rfl | rfl | rfl | rfl | rfl <;> rfl) (Nat.le_of_ble_eq_true rfl) (Nat.le_of_ble_eq_true rfl) dX4_init_24 (fun q5 H hP hD hS => ?_)
  have hP : va_P D vwCl [wH h0 q1 z0, (q1, .inl (cy 2, 4, .inr (.inr (.inr (.inr (va_up (va_up (va_up (fun _ => none) (Int32.toNatClampNeg 0) (some q2)) (Int32.toNatClampNeg 1) (some q3)) (Int32.toNatClampNeg 2) (some q4))))))), wG q2 (0, 0, 0, 0, 0, 0, 0, 0), wG q3 (0, 0, 0, 0, 0, 0, 0, 0), wG q4 (0, 0, 0, 0, 0, 0, 0, 0), wG q5 (0, 0, 0, 0, 0, 0, 0, 0)] H := hP
  have hD : va_D A [wH h0 q1 z0, (q1, .inl (cy 2, 4, .inr (.inr (.inr (.inr (va_up (va_up (va_up (fun _ => none) (Int32.toNatClampNeg 0) (some q2)) (Int32.toNatClampNeg 1) (some q3)) (Int32.toNatClampNeg 2) (some q4))))))), wG q2 (0, 0, 0, 0, 0, 0, 0, 0), wG q3 (0, 0, 0, 0, 0, 0, 0, 0), wG q4 (0, 0, 0, 0, 0, 0, 0, 0), wG q5 (0, 0, 0, 0, 0, 0, 0, 0)] := hD
  refine lv_dup hx hb dX4_init_27 rfl ?_
  refine k_callCIN (rest := [.ref q5, .int 3, .ref q1]) (isC := [5]) (isR := [0, 1, 2, 3, 4]) ⟨hx, hb, hml, hown, hts⟩ (c_X2_init l D cy q5 0 0 0 0 0 0 0 0) ⟨va_cnB (host := "FencedBoxes") 0 hts gX4_init_X2_init_n17 rfl rfl rfl (hE.1.1 _ (show (RX4, 17, yX2_init, "FencedBoxes") ∈ k_nest by decide +kernel)) (hts (.initialized RX2) (by decide +kernel)) hd_X2_init ⟨Nat.le_of_ble_eq_true rfl, Nat.le_of_ble_eq_true rfl⟩, rfl, hts (.instanceMethod yX2_init) (by decide +kernel)⟩ hK hE hP hD hS hA rfl rfl rfl rfl (by decide) hl.1 rfl (Nat.le_of_ble_eq_true rfl) dX4_init_28 ⟨Nat.le_of_ble_eq_true rfl, Nat.le_of_ble_eq_true rfl⟩ (fun w1 H locs hp hP hD hS => ?_)
  obtain rfl := hp
  have hP : va_P D vwCl [wH h0 q1 z0, (q1, .inl (cy 2, 4, .inr (.inr (.inr (.inr (va_up (va_up (va_up (fun _ => none) (Int32.toNatClampNeg 0) (some q2)) (Int32.toNatClampNeg 1) (some q3)) (Int32.toNatClampNeg 2) (some q4))))))), wG q2 (0, 0, 0, 0, 0, 0, 0, 0), wG q3 (0, 0, 0, 0, 0, 0, 0, 0), wG q4 (0, 0, 0, 0, 0, 0, 0, 0), wG q5 (0, 0, 0, 0, 0, 0, 0, 0)] H := hP
  have hD : va_D A [wH h0 q1 z0, (q1, .inl (cy 2, 4, .inr (.inr (.inr (.inr (va_up (va_up (va_up (fun _ => none) (Int32.toNatClampNeg 0) (some q2)) (Int32.toNatClampNeg 1) (some q3)) (Int32.toNatClampNeg 2) (some q4))))))), wG q2 (0, 0, 0, 0, 0, 0, 0, 0), wG q3 (0, 0, 0, 0, 0, 0, 0, 0), wG q4 (0, 0, 0, 0, 0, 0, 0, 0), wG q5 (0, 0, 0, 0, 0, 0, 0, 0)] := hD
  refine va_astq hx hb hK hP hD hS 1 2 5 1 rfl rfl rfl rfl (k_in (i := 3) (n := 4) (by decide +kernel)) dX4_init_31 (fun H locs hP hD hS => ?_)
  have hP : va_P D vwCl [wH h0 q1 z0, (q1, .inl (cy 2, 4, .inr (.inr (.inr (.inr (va_up (va_up (va_up (va_up (fun _ => none) (Int32.toNatClampNeg 0) (some q2)) (Int32.toNatClampNeg 1) (some q3)) (Int32.toNatClampNeg 2) (some q4)) (Int32.toNatClampNeg 3) (some q5))))))), wG q2 (0, 0, 0, 0, 0, 0, 0, 0), wG q3 (0, 0, 0, 0, 0, 0, 0, 0), wG q4 (0, 0, 0, 0, 0, 0, 0, 0), wG q5 (0, 0, 0, 0, 0, 0, 0, 0)] H := hP
  have hD : va_D A [wH h0 q1 z0, (q1, .inl (cy 2, 4, .inr (.inr (.inr (.inr (va_up (va_up (va_up (va_up (fun _ => none) (Int32.toNatClampNeg 0) (some q2)) (Int32.toNatClampNeg 1) (some q3)) (Int32.toNatClampNeg 2) (some q4)) (Int32.toNatClampNeg 3) (some q5))))))), wG q2 (0, 0, 0, 0, 0, 0, 0, 0), wG q3 (0, 0, 0, 0, 0, 0, 0, 0), wG q4 (0, 0, 0, 0, 0, 0, 0, 0), wG q5 (0, 0, 0, 0, 0, 0, 0, 0)] := hD
  refine lv_iinc (v := 4) (lv' := [(1, .int 4), (0, .ref h0)]) hx hb dX4_init_32 hl (k := 0) rfl (by decide) (by decide) rfl (fun ls hl => ?_)
  refine lv_goto (tgt := 14) hx hb dX4_init_35 (by decide) ?_
  refine lv_iload_n hx hb dX4_init_14 rfl (lv_at hl 0 rfl) ?_
  refine lv_iconst (v := 4) hx hb dX4_init_15 (by decide) ?_
  refine lv_icmp_ge (tgt := 38) hx hb dX4_init_16 (by decide) (fun c9 => ?_) (fun c9 => absurd c9 (by decide))
  rw [k_fill4] at hP hD
  have hP := hP.sub (ws' := [wH h0 q1 z0, wK cy q1 (q2, q3, q4, q5), wG q2 (0, 0, 0, 0, 0, 0, 0, 0), wG q3 (0, 0, 0, 0, 0, 0, 0, 0), wG q4 (0, 0, 0, 0, 0, 0, 0, 0), wG q5 (0, 0, 0, 0, 0, 0, 0, 0)]) [0, 1, 2, 3, 4, 5] rfl
  have hD := hD.sub (ws' := [wH h0 q1 z0, wK cy q1 (q2, q3, q4, q5), wG q2 (0, 0, 0, 0, 0, 0, 0, 0), wG q3 (0, 0, 0, 0, 0, 0, 0, 0), wG q4 (0, 0, 0, 0, 0, 0, 0, 0), wG q5 (0, 0, 0, 0, 0, 0, 0, 0)]) [0, 1, 2, 3, 4, 5] rfl rfl
  exact k_cvret (w' := [wH h0 q1 z0, wK cy q1 (q2, q3, q4, q5), wG q2 (0, 0, 0, 0, 0, 0, 0, 0), wG q3 (0, 0, 0, 0, 0, 0, 0, 0), wG q4 (0, 0, 0, 0, 0, 0, 0, 0), wG q5 (0, 0, 0, 0, 0, 0, 0, 0)]) hx hb hr ⟨q1, q2, q3, q4, q5, rfl⟩ hP hD hS dX4_init_38 hlocks
abbrev rm_X7_init : Room := { frames := 3, cells := 14, slots := 396, locals := 61 }
theorem hd_X7_init : yX7_init.cls ≠ "java/lang/invoke/MethodHandle" ∧ yX7_init.cls ≠ "java/lang/invoke/VarHandle" ∧ (parseMethodDescriptor yX7_init.desc).map (fun d => d.parameters.length) = some 0 := by decide +kernel
set_option maxHeartbeats 4000000 in
set_option maxRecDepth 100000 in
theorem c_X7_init (l : Launch) (D : va_G) (cy : Nat → ClassId) (h0 : Nat) (z0 : Int32) : k_CMet l yX7_init wsX7_init rm_X7_init D (k_tys cy) [.ref h0] [(h0, .inr (4, [.null, .null, .null, .null, .null, .int z0]))] (fun w => ∃ (gma : Nat) (sna : Nat) (hia : Nat) (ka : Nat) (q0 : Nat) (q1 : Nat) (q2 : Nat) (q3 : Nat) (ora : Nat) (cha : Nat) (tra : Nat) (ena : Nat) (opa : Nat) (foa : Nat), w = [wF h0 gma sna hia ora ena 0, wG gma (0, 0, 0, 0, 0, 0, 0, 0), wG sna (0, 0, 0, 0, 0, 0, 0, 0), wH hia ka 0, wK cy ka (q0, q1, q2, q3), wG q0 (0, 0, 0, 0, 0, 0, 0, 0), wG q1 (0, 0, 0, 0, 0, 0, 0, 0), wG q2 (0, 0, 0, 0, 0, 0, 0, 0), wG q3 (0, 0, 0, 0, 0, 0, 0, 0), wO ora cha tra (0, 0, 0, 0, 0), wR cy 1 60 cha (fun _ => 0), wG tra (0, 0, 0, 0, 0, 0, 0, 0), wE ena opa foa 0, wR cy 0 8 opa (fun _ => 0), wR cy 0 256 foa (fun _ => 0)]) 14 396 := by
  refine k_ctorOf (cc := cX7_init) (maxL := 1) (ret := none) (by decide) rfl (Nat.le_of_ble_eq_true rfl) ?_
  intro p e s m args below meth c ls A hx hb hr hlocks hml hown hts hl hA hK hP hD hE hin
  have hl : lv_has ls 1 [(0, .ref h0)] := hl
  have hS : va_S A s.heap s.heap [] := va_S.rf
  have in_X1 : ∀ w ∈ wsX10, w ∈ wsX7_init := by decide +kernel
  have in_X2 : ∀ w ∈ wsX20, w ∈ wsX7_init := by decide +kernel
  have in_X4 : ∀ w ∈ wsX40, w ∈ wsX7_init := by decide +kernel
  have in_X5 : ∀ w ∈ wsX50, w ∈ wsX7_init := by decide +kernel
  have in_X7 : ∀ w ∈ wsX70, w ∈ wsX7_init := by decide +kernel
  have fl10 := hts (.fieldLink RX7 10 "FencedBoxes" "game" "LFencedBoxes$Game;") (by decide +kernel)
  have fl16 := hts (.fieldLink RX7 16 "FencedBoxes" "snapshot" "LFencedBoxes$Game;") (by decide +kernel)
  have fl22 := hts (.fieldLink RX7 22 "FencedBoxes" "history" "LFencedBoxes$History;") (by decide +kernel)
  have fl29 := hts (.fieldLink RX7 29 "FencedBoxes" "orders" "LFencedBoxes$Orders;") (by decide +kernel)
  have fl36 := hts (.fieldLink RX7 36 "FencedBoxes" "ends" "LFencedBoxes$Ends;") (by decide +kernel)
  have fl40 := hts (.fieldLink RX7 40 "FencedBoxes" "hasSnapshot" "Z") (by decide +kernel)
  obtain ⟨H, eH⟩ : ∃ H, H = s.heap := ⟨_, rfl⟩
  obtain ⟨locs, elocs⟩ : ∃ L : List Loc, L = [] := ⟨_, rfl⟩
  have hP : va_P D vwCl [(h0, .inr (4, [.null, .null, .null, .null, .null, .int z0]))] H := by rw [eH]; exact hP
  have hS : va_S A s.heap H locs := by rw [eH, elocs]; exact hS
  refine k_here eH elocs ?_
  refine lv_aload_n hx hb dX7_init_0 rfl (lv_at hl 0 rfl) ?_
  refine W.objInit hx hb hown (hts (.methodLink RX7 1 objectInit) (by decide +kernel)) (hts (.instanceMethod objectInit) (by decide +kernel)) (hts (.code objectInit ⟨#[0xb1]⟩ 1 none) (by decide +kernel)) rfl (by rw [hml]; exact hl.1) rfl dX7_init_1 (Nat.le_of_ble_eq_true rfl) (Nat.le_of_ble_eq_true rfl) ?_
  refine W.eq (g2 := F0 m 4 ls []) rfl ?_
  refine lv_aload_n hx hb dX7_init_4 rfl (lv_at hl 0 rfl) ?_
  refine va_new (ci := 1) (fs := [.int 0, .int 0, .int 0, .int 0, .int 0, .int 0, .int 0, .int 0]) (C := RX2) (T := TX2) (N := 8) hx hb hts in_X2 tyX2 tyX2_ok hown (hts (.classLink RX7 7 RX2) (by decide +kernel)) (hts (.instantiable RX2 8) (by decide +kernel)) (hts (.initialized RX2) (by decide +kernel)) hK hP hD hS hA rfl (fun j hj => by rcases (show j = 0 ∨ j = 1 ∨ j = 2 ∨ j = 3 ∨ j = 4 ∨ j = 5 ∨ j = 6 ∨ j = 7 by omega) with rfl | rfl | rfl | rfl | rfl | rfl | rfl | rfl <;> rfl) (Nat.le_of_ble_eq_true rfl) (Nat.le_of_ble_eq_true rfl) dX7_init_5 (fun q1 H hP hD hS => ?_)
  have hP : va_P D vwCl [(h0, .inr (4, [.null, .null, .null, .null, .null, .int z0])), wG q1 (0, 0, 0, 0, 0, 0, 0, 0)] H := hP
  have hD : va_D A [(h0, .inr (4, [.null, .null, .null, .null, .null, .int z0])), wG q1 (0, 0, 0, 0, 0, 0, 0, 0)] := hD
  refine lv_dup hx hb dX7_init_8 rfl ?_
  refine k_callCIN (rest := [.ref q1, .ref h0]) (isC := [1]) (isR := [0]) ⟨hx, hb, hml, hown, hts⟩ (c_X2_init l D cy q1 0 0 0 0 0 0 0 0) ⟨va_cnB (host := "FencedBoxes") 0 hts gX7_init_X2_init_n9 rfl rfl rfl (hE.1.1 _ (show (RX7, 9, yX2_init, "FencedBoxes") ∈ k_nest by decide +kernel)) (hts (.initialized RX2) (by decide +kernel)) hd_X2_init ⟨Nat.le_of_ble_eq_true rfl, Nat.le_of_ble_eq_true rfl⟩, rfl, hts (.instanceMethod yX2_init) (by decide +kernel)⟩ hK hE hP hD hS hA rfl rfl rfl rfl (by decide) hl.1 rfl (Nat.le_of_ble_eq_true rfl) dX7_init_9 ⟨Nat.le_of_ble_eq_true rfl, Nat.le_of_ble_eq_true rfl⟩ (fun w1 H locs hp hP hD hS => ?_)
  obtain rfl := hp
  have hP : va_P D vwCl [(h0, .inr (4, [.null, .null, .null, .null, .null, .int z0])), wG q1 (0, 0, 0, 0, 0, 0, 0, 0)] H := hP
  have hD : va_D A [(h0, .inr (4, [.null, .null, .null, .null, .null, .int z0])), wG q1 (0, 0, 0, 0, 0, 0, 0, 0)] := hD
  refine va_putF (D := D) (ci := 4) (v := .ref q1) (ty := .object "FencedBoxes$Game") (C := RX7) (T := TX7) (N := 6) hx hb hts in_X7 tyX7 tyX7_ok nmX7 hown hK hP hD hS 0 rfl rfl 0 (by decide) fl10 (fun _ h9 => h9) rfl hin rfl (by decide +kernel) rfl rfl (Nat.le_of_ble_eq_true rfl) dX7_init_12 (fun H locs hP hD hS => ?_)
  have hP : va_P D vwCl [(h0, .inr (4, [.ref q1, .null, .null, .null, .null, .int z0])), wG q1 (0, 0, 0, 0, 0, 0, 0, 0)] H := hP
  have hD : va_D A [(h0, .inr (4, [.ref q1, .null, .null, .null, .null, .int z0])), wG q1 (0, 0, 0, 0, 0, 0, 0, 0)] := hD
  refine lv_aload_n hx hb dX7_init_15 rfl (lv_at hl 0 rfl) ?_
  refine va_new (ci := 1) (fs := [.int 0, .int 0, .int 0, .int 0, .int 0, .int 0, .int 0, .int 0]) (C := RX2) (T := TX2) (N := 8) hx hb hts in_X2 tyX2 tyX2_ok hown (hts (.classLink RX7 7 RX2) (by decide +kernel)) (hts (.instantiable RX2 8) (by decide +kernel)) (hts (.initialized RX2) (by decide +kernel)) hK hP hD hS hA rfl (fun j hj => by rcases (show j = 0 ∨ j = 1 ∨ j = 2 ∨ j = 3 ∨ j = 4 ∨ j = 5 ∨ j = 6 ∨ j = 7 by omega) with rfl | rfl | rfl | rfl | rfl | rfl | rfl | rfl <;> rfl) (Nat.le_of_ble_eq_true rfl) (Nat.le_of_ble_eq_true rfl) dX7_init_16 (fun q2 H hP hD hS => ?_)
  have hP : va_P D vwCl [(h0, .inr (4, [.ref q1, .null, .null, .null, .null, .int z0])), wG q1 (0, 0, 0, 0, 0, 0, 0, 0), wG q2 (0, 0, 0, 0, 0, 0, 0, 0)] H := hP
  have hD : va_D A [(h0, .inr (4, [.ref q1, .null, .null, .null, .null, .int z0])), wG q1 (0, 0, 0, 0, 0, 0, 0, 0), wG q2 (0, 0, 0, 0, 0, 0, 0, 0)] := hD
  refine lv_dup hx hb dX7_init_19 rfl ?_
  refine k_callCIN (rest := [.ref q2, .ref h0]) (isC := [2]) (isR := [0, 1]) ⟨hx, hb, hml, hown, hts⟩ (c_X2_init l D cy q2 0 0 0 0 0 0 0 0) ⟨va_cnB (host := "FencedBoxes") 0 hts gX7_init_X2_init_n9 rfl rfl rfl (hE.1.1 _ (show (RX7, 9, yX2_init, "FencedBoxes") ∈ k_nest by decide +kernel)) (hts (.initialized RX2) (by decide +kernel)) hd_X2_init ⟨Nat.le_of_ble_eq_true rfl, Nat.le_of_ble_eq_true rfl⟩, rfl, hts (.instanceMethod yX2_init) (by decide +kernel)⟩ hK hE hP hD hS hA rfl rfl rfl rfl (by decide) hl.1 rfl (Nat.le_of_ble_eq_true rfl) dX7_init_20 ⟨Nat.le_of_ble_eq_true rfl, Nat.le_of_ble_eq_true rfl⟩ (fun w1 H locs hp hP hD hS => ?_)
  obtain rfl := hp
  have hP : va_P D vwCl [(h0, .inr (4, [.ref q1, .null, .null, .null, .null, .int z0])), wG q1 (0, 0, 0, 0, 0, 0, 0, 0), wG q2 (0, 0, 0, 0, 0, 0, 0, 0)] H := hP
  have hD : va_D A [(h0, .inr (4, [.ref q1, .null, .null, .null, .null, .int z0])), wG q1 (0, 0, 0, 0, 0, 0, 0, 0), wG q2 (0, 0, 0, 0, 0, 0, 0, 0)] := hD
  refine va_putF (D := D) (ci := 4) (v := .ref q2) (ty := .object "FencedBoxes$Game") (C := RX7) (T := TX7) (N := 6) hx hb hts in_X7 tyX7 tyX7_ok nmX7 hown hK hP hD hS 0 rfl rfl 1 (by decide) fl16 (fun _ h9 => h9) rfl hin rfl (by decide +kernel) rfl rfl (Nat.le_of_ble_eq_true rfl) dX7_init_23 (fun H locs hP hD hS => ?_)
  have hP : va_P D vwCl [(h0, .inr (4, [.ref q1, .ref q2, .null, .null, .null, .int z0])), wG q1 (0, 0, 0, 0, 0, 0, 0, 0), wG q2 (0, 0, 0, 0, 0, 0, 0, 0)] H := hP
  have hD : va_D A [(h0, .inr (4, [.ref q1, .ref q2, .null, .null, .null, .int z0])), wG q1 (0, 0, 0, 0, 0, 0, 0, 0), wG q2 (0, 0, 0, 0, 0, 0, 0, 0)] := hD
  refine lv_aload_n hx hb dX7_init_26 rfl (lv_at hl 0 rfl) ?_
  refine va_new (ci := 2) (fs := [.null, .int 0]) (C := RX4) (T := TX4) (N := 2) hx hb hts in_X4 tyX4 tyX4_ok hown (hts (.classLink RX7 19 RX4) (by decide +kernel)) (hts (.instantiable RX4 2) (by decide +kernel)) (hts (.initialized RX4) (by decide +kernel)) hK hP hD hS hA rfl (fun j hj => by rcases (show j = 0 ∨ j = 1 by omega) with rfl | rfl <;> rfl) (Nat.le_of_ble_eq_true rfl) (Nat.le_of_ble_eq_true rfl) dX7_init_27 (fun q3 H hP hD hS => ?_)
  have hP : va_P D vwCl [(h0, .inr (4, [.ref q1, .ref q2, .null, .null, .null, .int z0])), wG q1 (0, 0, 0, 0, 0, 0, 0, 0), wG q2 (0, 0, 0, 0, 0, 0, 0, 0), (q3, .inr (2, [.null, .int 0]))] H := hP
  have hD : va_D A [(h0, .inr (4, [.ref q1, .ref q2, .null, .null, .null, .int z0])), wG q1 (0, 0, 0, 0, 0, 0, 0, 0), wG q2 (0, 0, 0, 0, 0, 0, 0, 0), (q3, .inr (2, [.null, .int 0]))] := hD
  refine lv_dup hx hb dX7_init_30 rfl ?_
  refine k_callCI (rest := [.ref q3, .ref h0]) (isC := [3]) (isR := [0, 1, 2]) ⟨hx, hb, hml, hown, hts⟩ (c_X4_init l D cy q3 0) (cwI 0 hts gX7_init_X4_init rfl rfl rfl (hts (.initialized RX4) (by decide +kernel)) (hts (.methodLink RX7 21 yX4_init) (by decide +kernel)) (hts (.instanceMethod yX4_init) (by decide +kernel)) rfl hd_X4_init ⟨Nat.le_of_ble_eq_true rfl, Nat.le_of_ble_eq_true rfl⟩) hK hE hP hD hS hA rfl rfl rfl rfl (by decide) hl.1 rfl (Nat.le_of_ble_eq_true rfl) dX7_init_31 ⟨Nat.le_of_ble_eq_true rfl, Nat.le_of_ble_eq_true rfl⟩ (fun w1 H locs hp hP hD hS => ?_)
  obtain ⟨q4, q5, q6, q7, q8, rfl⟩ := hp
  have hP : va_P D vwCl [(h0, .inr (4, [.ref q1, .ref q2, .null, .null, .null, .int z0])), wG q1 (0, 0, 0, 0, 0, 0, 0, 0), wG q2 (0, 0, 0, 0, 0, 0, 0, 0), wH q3 q4 0, wK cy q4 (q5, q6, q7, q8), wG q5 (0, 0, 0, 0, 0, 0, 0, 0), wG q6 (0, 0, 0, 0, 0, 0, 0, 0), wG q7 (0, 0, 0, 0, 0, 0, 0, 0), wG q8 (0, 0, 0, 0, 0, 0, 0, 0)] H := hP
  have hD : va_D A [(h0, .inr (4, [.ref q1, .ref q2, .null, .null, .null, .int z0])), wG q1 (0, 0, 0, 0, 0, 0, 0, 0), wG q2 (0, 0, 0, 0, 0, 0, 0, 0), wH q3 q4 0, wK cy q4 (q5, q6, q7, q8), wG q5 (0, 0, 0, 0, 0, 0, 0, 0), wG q6 (0, 0, 0, 0, 0, 0, 0, 0), wG q7 (0, 0, 0, 0, 0, 0, 0, 0), wG q8 (0, 0, 0, 0, 0, 0, 0, 0)] := hD
  refine va_putF (D := D) (ci := 4) (v := .ref q3) (ty := .object "FencedBoxes$History") (C := RX7) (T := TX7) (N := 6) hx hb hts in_X7 tyX7 tyX7_ok nmX7 hown hK hP hD hS 0 rfl rfl 2 (by decide) fl22 (fun _ h9 => h9) rfl hin rfl (by decide +kernel) rfl rfl (Nat.le_of_ble_eq_true rfl) dX7_init_34 (fun H locs hP hD hS => ?_)
  have hP : va_P D vwCl [(h0, .inr (4, [.ref q1, .ref q2, .ref q3, .null, .null, .int z0])), wG q1 (0, 0, 0, 0, 0, 0, 0, 0), wG q2 (0, 0, 0, 0, 0, 0, 0, 0), wH q3 q4 0, wK cy q4 (q5, q6, q7, q8), wG q5 (0, 0, 0, 0, 0, 0, 0, 0), wG q6 (0, 0, 0, 0, 0, 0, 0, 0), wG q7 (0, 0, 0, 0, 0, 0, 0, 0), wG q8 (0, 0, 0, 0, 0, 0, 0, 0)] H := hP
  have hD : va_D A [(h0, .inr (4, [.ref q1, .ref q2, .ref q3, .null, .null, .int z0])), wG q1 (0, 0, 0, 0, 0, 0, 0, 0), wG q2 (0, 0, 0, 0, 0, 0, 0, 0), wH q3 q4 0, wK cy q4 (q5, q6, q7, q8), wG q5 (0, 0, 0, 0, 0, 0, 0, 0), wG q6 (0, 0, 0, 0, 0, 0, 0, 0), wG q7 (0, 0, 0, 0, 0, 0, 0, 0), wG q8 (0, 0, 0, 0, 0, 0, 0, 0)] := hD
  refine lv_aload_n hx hb dX7_init_37 rfl (lv_at hl 0 rfl) ?_
  refine va_new (ci := 3) (fs := [.null, .null, .int 0, .int 0, .int 0, .int 0, .int 0]) (C := RX5) (T := TX5) (N := 7) hx hb hts in_X5 tyX5 tyX5_ok hown (hts (.classLink RX7 26 RX5) (by decide +kernel)) (hts (.instantiable RX5 7) (by decide +kernel)) (hts (.initialized RX5) (by decide +kernel)) hK hP hD hS hA rfl (fun j hj => by rcases (show j = 0 ∨ j = 1 ∨ j = 2 ∨ j = 3 ∨ j = 4 ∨ j = 5 ∨ j = 6 by omega) with rfl | rfl | rfl | rfl | rfl | rfl | rfl <;> rfl) (Nat.le_of_ble_eq_true rfl) (Nat.le_of_ble_eq_true rfl) dX7_init_38 (fun q9 H hP hD hS => ?_)
  have hP : va_P D vwCl [(h0, .inr (4, [.ref q1, .ref q2, .ref q3, .null, .null, .int z0])), wG q1 (0, 0, 0, 0, 0, 0, 0, 0), wG q2 (0, 0, 0, 0, 0, 0, 0, 0), wH q3 q4 0, wK cy q4 (q5, q6, q7, q8), wG q5 (0, 0, 0, 0, 0, 0, 0, 0), wG q6 (0, 0, 0, 0, 0, 0, 0, 0), wG q7 (0, 0, 0, 0, 0, 0, 0, 0), wG q8 (0, 0, 0, 0, 0, 0, 0, 0), (q9, .inr (3, [.null, .null, .int 0, .int 0, .int 0, .int 0, .int 0]))] H := hP
  have hD : va_D A [(h0, .inr (4, [.ref q1, .ref q2, .ref q3, .null, .null, .int z0])), wG q1 (0, 0, 0, 0, 0, 0, 0, 0), wG q2 (0, 0, 0, 0, 0, 0, 0, 0), wH q3 q4 0, wK cy q4 (q5, q6, q7, q8), wG q5 (0, 0, 0, 0, 0, 0, 0, 0), wG q6 (0, 0, 0, 0, 0, 0, 0, 0), wG q7 (0, 0, 0, 0, 0, 0, 0, 0), wG q8 (0, 0, 0, 0, 0, 0, 0, 0), (q9, .inr (3, [.null, .null, .int 0, .int 0, .int 0, .int 0, .int 0]))] := hD
  refine lv_dup hx hb dX7_init_41 rfl ?_
  refine k_callCIN (rest := [.ref q9, .ref h0]) (isC := [9]) (isR := [0, 1, 2, 3, 4, 5, 6, 7, 8]) ⟨hx, hb, hml, hown, hts⟩ (c_X5_init l D cy q9 0 0 0 0 0) ⟨va_cnB (host := "FencedBoxes") 0 hts gX7_init_X5_init_n28 rfl rfl rfl (hE.1.1 _ (show (RX7, 28, yX5_init, "FencedBoxes") ∈ k_nest by decide +kernel)) (hts (.initialized RX5) (by decide +kernel)) hd_X5_init ⟨Nat.le_of_ble_eq_true rfl, Nat.le_of_ble_eq_true rfl⟩, rfl, hts (.instanceMethod yX5_init) (by decide +kernel)⟩ hK hE hP hD hS hA rfl rfl rfl rfl (by decide) hl.1 rfl (Nat.le_of_ble_eq_true rfl) dX7_init_42 ⟨Nat.le_of_ble_eq_true rfl, Nat.le_of_ble_eq_true rfl⟩ (fun w1 H locs hp hP hD hS => ?_)
  obtain ⟨q10, q11, rfl⟩ := hp
  have hP : va_P D vwCl [(h0, .inr (4, [.ref q1, .ref q2, .ref q3, .null, .null, .int z0])), wG q1 (0, 0, 0, 0, 0, 0, 0, 0), wG q2 (0, 0, 0, 0, 0, 0, 0, 0), wH q3 q4 0, wK cy q4 (q5, q6, q7, q8), wG q5 (0, 0, 0, 0, 0, 0, 0, 0), wG q6 (0, 0, 0, 0, 0, 0, 0, 0), wG q7 (0, 0, 0, 0, 0, 0, 0, 0), wG q8 (0, 0, 0, 0, 0, 0, 0, 0), wO q9 q10 q11 (0, 0, 0, 0, 0), wR cy 1 60 q10 (fun _ => 0), wG q11 (0, 0, 0, 0, 0, 0, 0, 0)] H := hP
  have hD : va_D A [(h0, .inr (4, [.ref q1, .ref q2, .ref q3, .null, .null, .int z0])), wG q1 (0, 0, 0, 0, 0, 0, 0, 0), wG q2 (0, 0, 0, 0, 0, 0, 0, 0), wH q3 q4 0, wK cy q4 (q5, q6, q7, q8), wG q5 (0, 0, 0, 0, 0, 0, 0, 0), wG q6 (0, 0, 0, 0, 0, 0, 0, 0), wG q7 (0, 0, 0, 0, 0, 0, 0, 0), wG q8 (0, 0, 0, 0, 0, 0, 0, 0), wO q9 q10 q11 (0, 0, 0, 0, 0), wR cy 1 60 q10 (fun _ => 0), wG q11 (0, 0, 0, 0, 0, 0, 0, 0)] := hD
  refine va_putF (D := D) (ci := 4) (v := .ref q9) (ty := .object "FencedBoxes$Orders") (C := RX7) (T := TX7) (N := 6) hx hb hts in_X7 tyX7 tyX7_ok nmX7 hown hK hP hD hS 0 rfl rfl 3 (by decide) fl29 (fun _ h9 => h9) rfl hin rfl (by decide +kernel) rfl rfl (Nat.le_of_ble_eq_true rfl) dX7_init_45 (fun H locs hP hD hS => ?_)
  have hP : va_P D vwCl [(h0, .inr (4, [.ref q1, .ref q2, .ref q3, .ref q9, .null, .int z0])), wG q1 (0, 0, 0, 0, 0, 0, 0, 0), wG q2 (0, 0, 0, 0, 0, 0, 0, 0), wH q3 q4 0, wK cy q4 (q5, q6, q7, q8), wG q5 (0, 0, 0, 0, 0, 0, 0, 0), wG q6 (0, 0, 0, 0, 0, 0, 0, 0), wG q7 (0, 0, 0, 0, 0, 0, 0, 0), wG q8 (0, 0, 0, 0, 0, 0, 0, 0), wO q9 q10 q11 (0, 0, 0, 0, 0), wR cy 1 60 q10 (fun _ => 0), wG q11 (0, 0, 0, 0, 0, 0, 0, 0)] H := hP
  have hD : va_D A [(h0, .inr (4, [.ref q1, .ref q2, .ref q3, .ref q9, .null, .int z0])), wG q1 (0, 0, 0, 0, 0, 0, 0, 0), wG q2 (0, 0, 0, 0, 0, 0, 0, 0), wH q3 q4 0, wK cy q4 (q5, q6, q7, q8), wG q5 (0, 0, 0, 0, 0, 0, 0, 0), wG q6 (0, 0, 0, 0, 0, 0, 0, 0), wG q7 (0, 0, 0, 0, 0, 0, 0, 0), wG q8 (0, 0, 0, 0, 0, 0, 0, 0), wO q9 q10 q11 (0, 0, 0, 0, 0), wR cy 1 60 q10 (fun _ => 0), wG q11 (0, 0, 0, 0, 0, 0, 0, 0)] := hD
  refine lv_aload_n hx hb dX7_init_48 rfl (lv_at hl 0 rfl) ?_
  refine va_new (ci := 0) (fs := [.null, .null, .int 0]) (C := RX1) (T := TX1) (N := 3) hx hb hts in_X1 tyX1 tyX1_ok hown (hts (.classLink RX7 33 RX1) (by decide +kernel)) (hts (.instantiable RX1 3) (by decide +kernel)) (hts (.initialized RX1) (by decide +kernel)) hK hP hD hS hA rfl (fun j hj => by rcases (show j = 0 ∨ j = 1 ∨ j = 2 by omega) with rfl | rfl | rfl <;> rfl) (Nat.le_of_ble_eq_true rfl) (Nat.le_of_ble_eq_true rfl) dX7_init_49 (fun q12 H hP hD hS => ?_)
  have hP : va_P D vwCl [(h0, .inr (4, [.ref q1, .ref q2, .ref q3, .ref q9, .null, .int z0])), wG q1 (0, 0, 0, 0, 0, 0, 0, 0), wG q2 (0, 0, 0, 0, 0, 0, 0, 0), wH q3 q4 0, wK cy q4 (q5, q6, q7, q8), wG q5 (0, 0, 0, 0, 0, 0, 0, 0), wG q6 (0, 0, 0, 0, 0, 0, 0, 0), wG q7 (0, 0, 0, 0, 0, 0, 0, 0), wG q8 (0, 0, 0, 0, 0, 0, 0, 0), wO q9 q10 q11 (0, 0, 0, 0, 0), wR cy 1 60 q10 (fun _ => 0), wG q11 (0, 0, 0, 0, 0, 0, 0, 0), (q12, .inr (0, [.null, .null, .int 0]))] H := hP
  have hD : va_D A [(h0, .inr (4, [.ref q1, .ref q2, .ref q3, .ref q9, .null, .int z0])), wG q1 (0, 0, 0, 0, 0, 0, 0, 0), wG q2 (0, 0, 0, 0, 0, 0, 0, 0), wH q3 q4 0, wK cy q4 (q5, q6, q7, q8), wG q5 (0, 0, 0, 0, 0, 0, 0, 0), wG q6 (0, 0, 0, 0, 0, 0, 0, 0), wG q7 (0, 0, 0, 0, 0, 0, 0, 0), wG q8 (0, 0, 0, 0, 0, 0, 0, 0), wO q9 q10 q11 (0, 0, 0, 0, 0), wR cy 1 60 q10 (fun _ => 0), wG q11 (0, 0, 0, 0, 0, 0, 0, 0), (q12, .inr (0, [.null, .null, .int 0]))] := hD
  refine lv_dup hx hb dX7_init_52 rfl ?_
  refine k_callCIN (rest := [.ref q12, .ref h0]) (isC := [12]) (isR := [0, 1, 2, 3, 4, 5, 6, 7, 8, 9, 10, 11]) ⟨hx, hb, hml, hown, hts⟩ (c_X1_init l D cy q12 0) ⟨va_cnB (host := "FencedBoxes") 0 hts gX7_init_X1_init_n35 rfl rfl rfl (hE.1.1 _ (show (RX7, 35, yX1_init, "FencedBoxes") ∈ k_nest by decide +kernel)) (hts (.initialized RX1) (by decide +kernel)) hd_X1_init ⟨Nat.le_of_ble_eq_true rfl, Nat.le_of_ble_eq_true rfl⟩, rfl, hts (.instanceMethod yX1_init) (by decide +kernel)⟩ hK hE hP hD hS hA rfl rfl rfl rfl (by decide) hl.1 rfl (Nat.le_of_ble_eq_true rfl) dX7_init_53 ⟨Nat.le_of_ble_eq_true rfl, Nat.le_of_ble_eq_true rfl⟩ (fun w1 H locs hp hP hD hS => ?_)
  obtain ⟨q13, q14, rfl⟩ := hp
  have hP : va_P D vwCl [(h0, .inr (4, [.ref q1, .ref q2, .ref q3, .ref q9, .null, .int z0])), wG q1 (0, 0, 0, 0, 0, 0, 0, 0), wG q2 (0, 0, 0, 0, 0, 0, 0, 0), wH q3 q4 0, wK cy q4 (q5, q6, q7, q8), wG q5 (0, 0, 0, 0, 0, 0, 0, 0), wG q6 (0, 0, 0, 0, 0, 0, 0, 0), wG q7 (0, 0, 0, 0, 0, 0, 0, 0), wG q8 (0, 0, 0, 0, 0, 0, 0, 0), wO q9 q10 q11 (0, 0, 0, 0, 0), wR cy 1 60 q10 (fun _ => 0), wG q11 (0, 0, 0, 0, 0, 0, 0, 0), wE q12 q13 q14 0, wR cy 0 8 q13 (fun _ => 0), wR cy 0 256 q14 (fun _ => 0)] H := hP
  have hD : va_D A [(h0, .inr (4, [.ref q1, .ref q2, .ref q3, .ref q9, .null, .int z0])), wG q1 (0, 0, 0, 0, 0, 0, 0, 0), wG q2 (0, 0, 0, 0, 0, 0, 0, 0), wH q3 q4 0, wK cy q4 (q5, q6, q7, q8), wG q5 (0, 0, 0, 0, 0, 0, 0, 0), wG q6 (0, 0, 0, 0, 0, 0, 0, 0), wG q7 (0, 0, 0, 0, 0, 0, 0, 0), wG q8 (0, 0, 0, 0, 0, 0, 0, 0), wO q9 q10 q11 (0, 0, 0, 0, 0), wR cy 1 60 q10 (fun _ => 0), wG q11 (0, 0, 0, 0, 0, 0, 0, 0), wE q12 q13 q14 0, wR cy 0 8 q13 (fun _ => 0), wR cy 0 256 q14 (fun _ => 0)] := hD
  refine va_putF (D := D) (ci := 4) (v := .ref q12) (ty := .object "FencedBoxes$Ends") (C := RX7) (T := TX7) (N := 6) hx hb hts in_X7 tyX7 tyX7_ok nmX7 hown hK hP hD hS 0 rfl rfl 4 (by decide) fl36 (fun _ h9 => h9) rfl hin rfl (by decide +kernel) rfl rfl (Nat.le_of_ble_eq_true rfl) dX7_init_56 (fun H locs hP hD hS => ?_)
  have hP : va_P D vwCl [wF h0 q1 q2 q3 q9 q12 z0, wG q1 (0, 0, 0, 0, 0, 0, 0, 0), wG q2 (0, 0, 0, 0, 0, 0, 0, 0), wH q3 q4 0, wK cy q4 (q5, q6, q7, q8), wG q5 (0, 0, 0, 0, 0, 0, 0, 0), wG q6 (0, 0, 0, 0, 0, 0, 0, 0), wG q7 (0, 0, 0, 0, 0, 0, 0, 0), wG q8 (0, 0, 0, 0, 0, 0, 0, 0), wO q9 q10 q11 (0, 0, 0, 0, 0), wR cy 1 60 q10 (fun _ => 0), wG q11 (0, 0, 0, 0, 0, 0, 0, 0), wE q12 q13 q14 0, wR cy 0 8 q13 (fun _ => 0), wR cy 0 256 q14 (fun _ => 0)] H := hP
  have hD : va_D A [wF h0 q1 q2 q3 q9 q12 z0, wG q1 (0, 0, 0, 0, 0, 0, 0, 0), wG q2 (0, 0, 0, 0, 0, 0, 0, 0), wH q3 q4 0, wK cy q4 (q5, q6, q7, q8), wG q5 (0, 0, 0, 0, 0, 0, 0, 0), wG q6 (0, 0, 0, 0, 0, 0, 0, 0), wG q7 (0, 0, 0, 0, 0, 0, 0, 0), wG q8 (0, 0, 0, 0, 0, 0, 0, 0), wO q9 q10 q11 (0, 0, 0, 0, 0), wR cy 1 60 q10 (fun _ => 0), wG q11 (0, 0, 0, 0, 0, 0, 0, 0), wE q12 q13 q14 0, wR cy 0 8 q13 (fun _ => 0), wR cy 0 256 q14 (fun _ => 0)] := hD
  refine lv_aload_n hx hb dX7_init_59 rfl (lv_at hl 0 rfl) ?_
  refine lv_iconst (v := 0) hx hb dX7_init_60 (by decide) ?_
  refine va_put (D := D) (ci := 4) (v := .int 0) (ty := .boolean) (C := RX7) (T := TX7) (N := 6) hx hb hts in_X7 tyX7 tyX7_ok nmX7 hown hK hP hD hS 0 rfl rfl 5 (by decide) fl40 (fun _ h9 => h9) rfl (by decide +kernel) rfl rfl (Nat.le_of_ble_eq_true rfl) dX7_init_61 (fun H locs hP hD hS => ?_)
  have hP : va_P D vwCl [wF h0 q1 q2 q3 q9 q12 0, wG q1 (0, 0, 0, 0, 0, 0, 0, 0), wG q2 (0, 0, 0, 0, 0, 0, 0, 0), wH q3 q4 0, wK cy q4 (q5, q6, q7, q8), wG q5 (0, 0, 0, 0, 0, 0, 0, 0), wG q6 (0, 0, 0, 0, 0, 0, 0, 0), wG q7 (0, 0, 0, 0, 0, 0, 0, 0), wG q8 (0, 0, 0, 0, 0, 0, 0, 0), wO q9 q10 q11 (0, 0, 0, 0, 0), wR cy 1 60 q10 (fun _ => 0), wG q11 (0, 0, 0, 0, 0, 0, 0, 0), wE q12 q13 q14 0, wR cy 0 8 q13 (fun _ => 0), wR cy 0 256 q14 (fun _ => 0)] H := hP
  have hD : va_D A [wF h0 q1 q2 q3 q9 q12 0, wG q1 (0, 0, 0, 0, 0, 0, 0, 0), wG q2 (0, 0, 0, 0, 0, 0, 0, 0), wH q3 q4 0, wK cy q4 (q5, q6, q7, q8), wG q5 (0, 0, 0, 0, 0, 0, 0, 0), wG q6 (0, 0, 0, 0, 0, 0, 0, 0), wG q7 (0, 0, 0, 0, 0, 0, 0, 0), wG q8 (0, 0, 0, 0, 0, 0, 0, 0), wO q9 q10 q11 (0, 0, 0, 0, 0), wR cy 1 60 q10 (fun _ => 0), wG q11 (0, 0, 0, 0, 0, 0, 0, 0), wE q12 q13 q14 0, wR cy 0 8 q13 (fun _ => 0), wR cy 0 256 q14 (fun _ => 0)] := hD
  have hP := hP.sub (ws' := [wF h0 q1 q2 q3 q9 q12 0, wG q1 (0, 0, 0, 0, 0, 0, 0, 0), wG q2 (0, 0, 0, 0, 0, 0, 0, 0), wH q3 q4 0, wK cy q4 (q5, q6, q7, q8), wG q5 (0, 0, 0, 0, 0, 0, 0, 0), wG q6 (0, 0, 0, 0, 0, 0, 0, 0), wG q7 (0, 0, 0, 0, 0, 0, 0, 0), wG q8 (0, 0, 0, 0, 0, 0, 0, 0), wO q9 q10 q11 (0, 0, 0, 0, 0), wR cy 1 60 q10 (fun _ => 0), wG q11 (0, 0, 0, 0, 0, 0, 0, 0), wE q12 q13 q14 0, wR cy 0 8 q13 (fun _ => 0), wR cy 0 256 q14 (fun _ => 0)]) [0, 1, 2, 3, 4, 5, 6, 7, 8, 9, 10, 11, 12, 13, 14] rfl
  have hD := hD.sub (ws' := [wF h0 q1 q2 q3 q9 q12 0, wG q1 (0, 0, 0, 0, 0, 0, 0, 0), wG q2 (0, 0, 0, 0, 0, 0, 0, 0), wH q3 q4 0, wK cy q4 (q5, q6, q7, q8), wG q5 (0, 0, 0, 0, 0, 0, 0, 0), wG q6 (0, 0, 0, 0, 0, 0, 0, 0), wG q7 (0, 0, 0, 0, 0, 0, 0, 0), wG q8 (0, 0, 0, 0, 0, 0, 0, 0), wO q9 q10 q11 (0, 0, 0, 0, 0), wR cy 1 60 q10 (fun _ => 0), wG q11 (0, 0, 0, 0, 0, 0, 0, 0), wE q12 q13 q14 0, wR cy 0 8 q13 (fun _ => 0), wR cy 0 256 q14 (fun _ => 0)]) [0, 1, 2, 3, 4, 5, 6, 7, 8, 9, 10, 11, 12, 13, 14] rfl rfl
  exact k_cvret (w' := [wF h0 q1 q2 q3 q9 q12 0, wG q1 (0, 0, 0, 0, 0, 0, 0, 0), wG q2 (0, 0, 0, 0, 0, 0, 0, 0), wH q3 q4 0, wK cy q4 (q5, q6, q7, q8), wG q5 (0, 0, 0, 0, 0, 0, 0, 0), wG q6 (0, 0, 0, 0, 0, 0, 0, 0), wG q7 (0, 0, 0, 0, 0, 0, 0, 0), wG q8 (0, 0, 0, 0, 0, 0, 0, 0), wO q9 q10 q11 (0, 0, 0, 0, 0), wR cy 1 60 q10 (fun _ => 0), wG q11 (0, 0, 0, 0, 0, 0, 0, 0), wE q12 q13 q14 0, wR cy 0 8 q13 (fun _ => 0), wR cy 0 256 q14 (fun _ => 0)]) hx hb hr ⟨q1, q2, q3, q4, q5, q6, q7, q8, q9, q10, q11, q12, q13, q14, rfl⟩ hP hD hS dX7_init_64 hlocks
