theorem h2_IA : ∀ w ∈ (vx_atS RX7 52 "java/lang/IllegalArgumentException" ["java/lang/RuntimeException", "java/lang/Exception"]).filter (fun w => !goodWord w), w ∈ k_bad ∨ ∃ x ∈ k_dec, w = .declares x := by decide +kernel
theorem h3_IA : ∀ w ∈ Cond.classLink RX7 48 "java/lang/IllegalArgumentException" :: Cond.initialized "java/lang/IllegalArgumentException" :: vx_atS RX7 52 "java/lang/IllegalArgumentException" ["java/lang/RuntimeException", "java/lang/Exception"], vx_ot w = true := by decide +kernel
theorem h2_IS : ∀ w ∈ (vx_atS RX7 63 "java/lang/IllegalStateException" ["java/lang/RuntimeException", "java/lang/Exception"]).filter (fun w => !goodWord w), w ∈ k_bad ∨ ∃ x ∈ k_dec, w = .declares x := by decide +kernel
theorem h3_IS : ∀ w ∈ Cond.classLink RX7 59 "java/lang/IllegalStateException" :: Cond.initialized "java/lang/IllegalStateException" :: vx_atS RX7 63 "java/lang/IllegalStateException" ["java/lang/RuntimeException", "java/lang/Exception"], vx_ot w = true := by decide +kernel
theorem h2_NS : ∀ w ∈ (k_atN).filter (fun w => !goodWord w), w ∈ k_bad ∨ ∃ x ∈ k_dec, w = .declares x := by decide +kernel
theorem h3_NS : ∀ w ∈ Cond.classLink "FencedBoxes" 97 k_NS :: Cond.initialized k_NS :: k_atN, vx_ot w = true := by decide +kernel
def f_X7_newGame (gm : k_G8) (hs : Int32) (qs : k_Q4) (k0 : k_G8) (k1 : k_G8) (k2 : k_G8) (k3 : k_G8) : Option (Int32 × k_G8 × Int32 × k_Q4 × k_G8 × k_G8 × k_G8 × k_G8) :=
  (f_X2_countFences gm).bind fun v1 =>
  (f_X4_record hs qs k0 k1 k2 k3 gm).bind fun v2 =>
  (f_X2_begin gm).bind fun v3 =>
  some (v1, v3, v2.1, v2.2.1, v2.2.2.1, v2.2.2.2.1, v2.2.2.2.2.1, v2.2.2.2.2.2)
abbrev rm_X7_newGame : Room := { frames := 2, cells := 0, slots := 0, locals := 43 }
theorem hd_X7_newGame : yX7_newGame.cls = RX7 ∧ yX7_newGame.cls ≠ "java/lang/invoke/MethodHandle" ∧ yX7_newGame.cls ≠ "java/lang/invoke/VarHandle" ∧ (parseMethodDescriptor yX7_newGame.desc).map (fun d => d.parameters.length) = some 0 := by decide +kernel
set_option maxHeartbeats 4000000 in
set_option maxRecDepth 100000 in
theorem c_X7_newGame (l : Launch) (D : va_G) (cy : Nat → ClassId) (h0 gma sna hia ka ora cha tra ena opa foa : Nat) (gm : k_G8) (sn : k_G8) (hs : Int32) (qs : k_Q4) (k0 : k_G8) (k1 : k_G8) (k2 : k_G8) (k3 : k_G8) (ch : Nat → Int32) (o : k_O5) (tr : k_G8) (es : Int32) (op : Nat → Int32) (fo : Nat → Int32) (has : Int32)  (r : Int32 × k_G8 × Int32 × k_Q4 × k_G8 × k_G8 × k_G8 × k_G8) (hf : f_X7_newGame gm hs qs k0 k1 k2 k3 = some r) : k_HMet l yX7_newGame wsX7_newGame rm_X7_newGame D (k_tys cy) [.ref h0] (wX7 cy h0 gma sna hia ka ora cha tra ena opa foa gm sn hs qs k0 k1 k2 k3 ch o tr es op fo has) (some (.int r.1)) (wX7 cy h0 gma sna hia ka ora cha tra ena opa foa r.2.1 sn r.2.2.1 r.2.2.2.1 r.2.2.2.2.1 r.2.2.2.2.2.1 r.2.2.2.2.2.2.1 r.2.2.2.2.2.2.2 ch o tr es op fo has) := by
  refine k_heapOf (cc := cX7_newGame) (maxL := 2) (ret := (some .int)) (by decide) rfl (Nat.le_of_ble_eq_true rfl) ?_
  intro p e s m args below meth c ls A hx hb hr hlocks hml hown hts hl hA hK hP hD hN
  have hl : lv_has ls 2 [(0, .ref h0)] := hl
  have hS : va_S A s.heap s.heap [] := va_S.rf
  have in_X7 : ∀ w ∈ wsX70, w ∈ wsX7_newGame := by decide +kernel
  have fl10 := hts (.fieldLink RX7 10 "FencedBoxes" "game" "LFencedBoxes$Game;") (by decide +kernel)
  have fl22 := hts (.fieldLink RX7 22 "FencedBoxes" "history" "LFencedBoxes$History;") (by decide +kernel)
  unfold f_X7_newGame at hf
  obtain ⟨H, eH⟩ : ∃ H, H = s.heap := ⟨_, rfl⟩
  obtain ⟨locs, elocs⟩ : ∃ L : List Loc, L = [] := ⟨_, rfl⟩
  have hP : va_P D vwCl (wX7 cy h0 gma sna hia ka ora cha tra ena opa foa gm sn hs qs k0 k1 k2 k3 ch o tr es op fo has) H := by rw [eH]; exact hP
  have hS : va_S A s.heap H locs := by rw [eH, elocs]; exact hS
  refine k_here eH elocs ?_
  refine lv_aload_n hx hb dX7_newGame_0 rfl (lv_at hl 0 rfl) ?_
  refine va_get (D := D) (ci := 4) (v := .ref gma) (C := RX7) (T := TX7) (N := 6) hx hb hts in_X7 hown hK hP 0 rfl rfl 0 (by decide) fl10 (fun _ h9 => h9) rfl dX7_newGame_1 ?_
  obtain ⟨v1, hv1, hf⟩ := k_B hf
  refine k_callHV (As := []) (rest := []) (r := (RX2, TX2, 8)) (ci := 1) (q0 := 1) (isC := [1]) (isR := [0, 2, 3, 4, 5, 6, 7, 8, 9, 10, 11, 12, 13, 14]) (perm := [0, 14, 1, 2, 3, 4, 5, 6, 7, 8, 9, 10, 11, 12, 13]) (w' := (wX7 cy h0 gma sna hia ka ora cha tra ena opa foa gm sn hs qs k0 k1 k2 k3 ch o tr es op fo has)) ⟨hx, hb, hml, hown, hts⟩ (c_X2_countFences l D cy gma gm  v1 hv1) (cwV 0 hts gX7_newGame_X2_countFences rfl rfl rfl hd_X2_countFences ⟨Nat.le_of_ble_eq_true rfl, Nat.le_of_ble_eq_true rfl⟩) hK hN hP hD hS hA rfl rfl rfl rfl rfl rfl (by decide) rfl rfl rfl hl.1 rfl (Nat.le_of_ble_eq_true rfl) dX7_newGame_4 ⟨Nat.zero_le _, Nat.zero_le _⟩ (fun H locs hP hD hS => ?_)
  refine lv_istore_n (lv' := [(1, .int v1), (0, .ref h0)]) hx hb dX7_newGame_7 rfl hl (by decide) rfl (fun ls hl => ?_)
  refine lv_aload_n hx hb dX7_newGame_8 rfl (lv_at hl 1 rfl) ?_
  refine va_get (D := D) (ci := 4) (v := .ref hia) (C := RX7) (T := TX7) (N := 6) hx hb hts in_X7 hown hK hP 0 rfl rfl 2 (by decide) fl22 (fun _ h9 => h9) rfl dX7_newGame_9 ?_
  refine lv_aload_n hx hb dX7_newGame_12 rfl (lv_at hl 1 rfl) ?_
  refine va_get (D := D) (ci := 4) (v := .ref gma) (C := RX7) (T := TX7) (N := 6) hx hb hts in_X7 hown hK hP 0 rfl rfl 0 (by decide) fl10 (fun _ h9 => h9) rfl dX7_newGame_13 ?_
  obtain ⟨v2, hv2, hf⟩ := k_B hf
  refine k_callHV (As := [.ref gma]) (rest := []) (r := (RX4, TX4, 2)) (ci := 2) (q0 := 3) (isC := [3, 4, 5, 6, 7, 8, 1]) (isR := [0, 2, 9, 10, 11, 12, 13, 14]) (perm := [0, 14, 1, 8, 9, 10, 11, 12, 13, 2, 3, 4, 5, 6, 7]) (w' := (wX7 cy h0 gma sna hia ka ora cha tra ena opa foa gm sn v2.1 v2.2.1 v2.2.2.1 v2.2.2.2.1 v2.2.2.2.2.1 v2.2.2.2.2.2 ch o tr es op fo has)) ⟨hx, hb, hml, hown, hts⟩ (c_X4_record l D cy hia ka gma hs qs k0 k1 k2 k3 gm  v2 hv2) (cwV 1 hts gX7_newGame_X4_record rfl rfl rfl hd_X4_record ⟨Nat.le_of_ble_eq_true rfl, Nat.le_of_ble_eq_true rfl⟩) hK hN hP hD hS hA rfl rfl rfl rfl rfl rfl (by decide) rfl rfl rfl hl.1 rfl (Nat.le_of_ble_eq_true rfl) dX7_newGame_16 ⟨Nat.zero_le _, Nat.zero_le _⟩ (fun H locs hP hD hS => ?_)
  refine lv_aload_n hx hb dX7_newGame_19 rfl (lv_at hl 1 rfl) ?_
  refine va_get (D := D) (ci := 4) (v := .ref gma) (C := RX7) (T := TX7) (N := 6) hx hb hts in_X7 hown hK hP 0 rfl rfl 0 (by decide) fl10 (fun _ h9 => h9) rfl dX7_newGame_20 ?_
  obtain ⟨v3, hv3, hf⟩ := k_B hf
  refine k_callHV (As := []) (rest := []) (r := (RX2, TX2, 8)) (ci := 1) (q0 := 1) (isC := [1]) (isR := [0, 2, 3, 4, 5, 6, 7, 8, 9, 10, 11, 12, 13, 14]) (perm := [0, 14, 1, 2, 3, 4, 5, 6, 7, 8, 9, 10, 11, 12, 13]) (w' := (wX7 cy h0 gma sna hia ka ora cha tra ena opa foa v3 sn v2.1 v2.2.1 v2.2.2.1 v2.2.2.2.1 v2.2.2.2.2.1 v2.2.2.2.2.2 ch o tr es op fo has)) ⟨hx, hb, hml, hown, hts⟩ (c_X2_begin l D cy gma gm  v3 hv3) (cwV 0 hts gX7_newGame_X2_begin rfl rfl rfl hd_X2_begin ⟨Nat.le_of_ble_eq_true rfl, Nat.le_of_ble_eq_true rfl⟩) hK hN hP hD hS hA rfl rfl rfl rfl rfl rfl (by decide) rfl rfl rfl hl.1 rfl (Nat.le_of_ble_eq_true rfl) dX7_newGame_23 ⟨Nat.zero_le _, Nat.zero_le _⟩ (fun H locs hP hD hS => ?_)
  refine lv_iload_n hx hb dX7_newGame_26 rfl (lv_at hl 0 rfl) ?_
  obtain rfl := k_some hf
  exact k_iret hx hb hr hP hD hS dX7_newGame_27 hlocks
def f_X7_drawn (gm : k_G8) : Option (Int32) :=
  (f_X2_countFences gm).bind fun v1 =>
  some v1
abbrev rm_X7_drawn : Room := { frames := 2, cells := 0, slots := 0, locals := 40 }
theorem hd_X7_drawn : yX7_drawn.cls = RX7 ∧ yX7_drawn.cls ≠ "java/lang/invoke/MethodHandle" ∧ yX7_drawn.cls ≠ "java/lang/invoke/VarHandle" ∧ (parseMethodDescriptor yX7_drawn.desc).map (fun d => d.parameters.length) = some 0 := by decide +kernel
set_option maxHeartbeats 4000000 in
set_option maxRecDepth 100000 in
theorem c_X7_drawn (l : Launch) (D : va_G) (cy : Nat → ClassId) (h0 gma sna hia ka ora cha tra ena opa foa : Nat) (gm : k_G8) (sn : k_G8) (hs : Int32) (qs : k_Q4) (k0 : k_G8) (k1 : k_G8) (k2 : k_G8) (k3 : k_G8) (ch : Nat → Int32) (o : k_O5) (tr : k_G8) (es : Int32) (op : Nat → Int32) (fo : Nat → Int32) (has : Int32)  (r : Int32) (hf : f_X7_drawn gm = some r) : k_HMet l yX7_drawn wsX7_drawn rm_X7_drawn D (k_tys cy) [.ref h0] (wX7 cy h0 gma sna hia ka ora cha tra ena opa foa gm sn hs qs k0 k1 k2 k3 ch o tr es op fo has) (some (.int r)) (wX7 cy h0 gma sna hia ka ora cha tra ena opa foa gm sn hs qs k0 k1 k2 k3 ch o tr es op fo has) := by
  refine k_heapOf (cc := cX7_drawn) (maxL := 1) (ret := (some .int)) (by decide) rfl (Nat.le_of_ble_eq_true rfl) ?_
  intro p e s m args below meth c ls A hx hb hr hlocks hml hown hts hl hA hK hP hD hN
  have hl : lv_has ls 1 [(0, .ref h0)] := hl
  have hS : va_S A s.heap s.heap [] := va_S.rf
  have in_X7 : ∀ w ∈ wsX70, w ∈ wsX7_drawn := by decide +kernel
  have fl10 := hts (.fieldLink RX7 10 "FencedBoxes" "game" "LFencedBoxes$Game;") (by decide +kernel)
  unfold f_X7_drawn at hf
  obtain ⟨H, eH⟩ : ∃ H, H = s.heap := ⟨_, rfl⟩
  obtain ⟨locs, elocs⟩ : ∃ L : List Loc, L = [] := ⟨_, rfl⟩
  have hP : va_P D vwCl (wX7 cy h0 gma sna hia ka ora cha tra ena opa foa gm sn hs qs k0 k1 k2 k3 ch o tr es op fo has) H := by rw [eH]; exact hP
  have hS : va_S A s.heap H locs := by rw [eH, elocs]; exact hS
  refine k_here eH elocs ?_
  refine lv_aload_n hx hb dX7_drawn_0 rfl (lv_at hl 0 rfl) ?_
  refine va_get (D := D) (ci := 4) (v := .ref gma) (C := RX7) (T := TX7) (N := 6) hx hb hts in_X7 hown hK hP 0 rfl rfl 0 (by decide) fl10 (fun _ h9 => h9) rfl dX7_drawn_1 ?_
  obtain ⟨v1, hv1, hf⟩ := k_B hf
  refine k_callHV (As := []) (rest := []) (r := (RX2, TX2, 8)) (ci := 1) (q0 := 1) (isC := [1]) (isR := [0, 2, 3, 4, 5, 6, 7, 8, 9, 10, 11, 12, 13, 14]) (perm := [0, 14, 1, 2, 3, 4, 5, 6, 7, 8, 9, 10, 11, 12, 13]) (w' := (wX7 cy h0 gma sna hia ka ora cha tra ena opa foa gm sn hs qs k0 k1 k2 k3 ch o tr es op fo has)) ⟨hx, hb, hml, hown, hts⟩ (c_X2_countFences l D cy gma gm  v1 hv1) (cwV 0 hts gX7_drawn_X2_countFences rfl rfl rfl hd_X2_countFences ⟨Nat.le_of_ble_eq_true rfl, Nat.le_of_ble_eq_true rfl⟩) hK hN hP hD hS hA rfl rfl rfl rfl rfl rfl (by decide) rfl rfl rfl hl.1 rfl (Nat.le_of_ble_eq_true rfl) dX7_drawn_4 ⟨Nat.zero_le _, Nat.zero_le _⟩ (fun H locs hP hD hS => ?_)
  obtain rfl := k_some hf
  exact k_iret hx hb hr hP hD hS dX7_drawn_7 hlocks
def f_X7_turn (gm : k_G8) : Option (Int32) :=
  some gm.2.2.2.1
abbrev rm_X7_turn : Room := { frames := 0, cells := 0, slots := 0, locals := 0 }
theorem hd_X7_turn : yX7_turn.cls = RX7 ∧ yX7_turn.cls ≠ "java/lang/invoke/MethodHandle" ∧ yX7_turn.cls ≠ "java/lang/invoke/VarHandle" ∧ (parseMethodDescriptor yX7_turn.desc).map (fun d => d.parameters.length) = some 0 := by decide +kernel
set_option maxHeartbeats 4000000 in
set_option maxRecDepth 100000 in
theorem c_X7_turn (l : Launch) (D : va_G) (cy : Nat → ClassId) (h0 gma sna hia ka ora cha tra ena opa foa : Nat) (gm : k_G8) (sn : k_G8) (hs : Int32) (qs : k_Q4) (k0 : k_G8) (k1 : k_G8) (k2 : k_G8) (k3 : k_G8) (ch : Nat → Int32) (o : k_O5) (tr : k_G8) (es : Int32) (op : Nat → Int32) (fo : Nat → Int32) (has : Int32)  (r : Int32) (hf : f_X7_turn gm = some r) : k_HMet l yX7_turn wsX7_turn rm_X7_turn D (k_tys cy) [.ref h0] (wX7 cy h0 gma sna hia ka ora cha tra ena opa foa gm sn hs qs k0 k1 k2 k3 ch o tr es op fo has) (some (.int r)) (wX7 cy h0 gma sna hia ka ora cha tra ena opa foa gm sn hs qs k0 k1 k2 k3 ch o tr es op fo has) := by
  refine k_heapOf (cc := cX7_turn) (maxL := 1) (ret := (some .int)) (by decide) rfl (Nat.le_of_ble_eq_true rfl) ?_
  intro p e s m args below meth c ls A hx hb hr hlocks hml hown hts hl hA hK hP hD hN
  have hl : lv_has ls 1 [(0, .ref h0)] := hl
  have hS : va_S A s.heap s.heap [] := va_S.rf
  have in_X2 : ∀ w ∈ wsX20, w ∈ wsX7_turn := by decide +kernel
  have in_X7 : ∀ w ∈ wsX70, w ∈ wsX7_turn := by decide +kernel
  have fl10 := hts (.fieldLink RX7 10 "FencedBoxes" "game" "LFencedBoxes$Game;") (by decide +kernel)
  have fl120 := va_Nw.use (A := args) rfl (show va_Nw (.fieldLinkNest RX7 120 "FencedBoxes$Game" "mover" "I" "FencedBoxes") s from hN.2 (RX7, 120, "FencedBoxes$Game", "mover", "I", "FencedBoxes") (by decide +kernel))
  unfold f_X7_turn at hf
  obtain ⟨H, eH⟩ : ∃ H, H = s.heap := ⟨_, rfl⟩
  obtain ⟨locs, elocs⟩ : ∃ L : List Loc, L = [] := ⟨_, rfl⟩
  have hP : va_P D vwCl (wX7 cy h0 gma sna hia ka ora cha tra ena opa foa gm sn hs qs k0 k1 k2 k3 ch o tr es op fo has) H := by rw [eH]; exact hP
  have hS : va_S A s.heap H locs := by rw [eH, elocs]; exact hS
  refine k_here eH elocs ?_
  refine lv_aload_n hx hb dX7_turn_0 rfl (lv_at hl 0 rfl) ?_
  refine va_get (D := D) (ci := 4) (v := .ref gma) (C := RX7) (T := TX7) (N := 6) hx hb hts in_X7 hown hK hP 0 rfl rfl 0 (by decide) fl10 (fun _ h9 => h9) rfl dX7_turn_1 ?_
  refine va_getN (D := D) (ci := 1) (v := .int gm.2.2.2.1) (C := RX2) (T := TX2) (N := 8) hx hb hts in_X2 hown hK hP 1 rfl rfl 3 (by decide) fl120 (fun _ h9 => h9) rfl dX7_turn_4 ?_
  obtain rfl := k_some hf
  exact k_iret hx hb hr hP hD hS dX7_turn_7 hlocks
def f_X7_isOver (gm : k_G8) : Option (Int32) :=
  (f_X2_hasEnded gm).bind fun v1 =>
  if v1 = 0 ∨ v1 = 1 then some v1 else none
abbrev rm_X7_isOver : Room := { frames := 1, cells := 0, slots := 0, locals := 20 }
theorem hd_X7_isOver : yX7_isOver.cls = RX7 ∧ yX7_isOver.cls ≠ "java/lang/invoke/MethodHandle" ∧ yX7_isOver.cls ≠ "java/lang/invoke/VarHandle" ∧ (parseMethodDescriptor yX7_isOver.desc).map (fun d => d.parameters.length) = some 0 := by decide +kernel
set_option maxHeartbeats 4000000 in
set_option maxRecDepth 100000 in
theorem c_X7_isOver (l : Launch) (D : va_G) (cy : Nat → ClassId) (h0 gma sna hia ka ora cha tra ena opa foa : Nat) (gm : k_G8) (sn : k_G8) (hs : Int32) (qs : k_Q4) (k0 : k_G8) (k1 : k_G8) (k2 : k_G8) (k3 : k_G8) (ch : Nat → Int32) (o : k_O5) (tr : k_G8) (es : Int32) (op : Nat → Int32) (fo : Nat → Int32) (has : Int32)  (r : Int32) (hf : f_X7_isOver gm = some r) : k_HMet l yX7_isOver wsX7_isOver rm_X7_isOver D (k_tys cy) [.ref h0] (wX7 cy h0 gma sna hia ka ora cha tra ena opa foa gm sn hs qs k0 k1 k2 k3 ch o tr es op fo has) (some (.int r)) (wX7 cy h0 gma sna hia ka ora cha tra ena opa foa gm sn hs qs k0 k1 k2 k3 ch o tr es op fo has) := by
  refine k_heapOf (cc := cX7_isOver) (maxL := 1) (ret := (some .boolean)) (by decide) rfl (Nat.le_of_ble_eq_true rfl) ?_
  intro p e s m args below meth c ls A hx hb hr hlocks hml hown hts hl hA hK hP hD hN
  have hl : lv_has ls 1 [(0, .ref h0)] := hl
  have hS : va_S A s.heap s.heap [] := va_S.rf
  have in_X7 : ∀ w ∈ wsX70, w ∈ wsX7_isOver := by decide +kernel
  have fl10 := hts (.fieldLink RX7 10 "FencedBoxes" "game" "LFencedBoxes$Game;") (by decide +kernel)
  unfold f_X7_isOver at hf
  obtain ⟨H, eH⟩ : ∃ H, H = s.heap := ⟨_, rfl⟩
  obtain ⟨locs, elocs⟩ : ∃ L : List Loc, L = [] := ⟨_, rfl⟩
  have hP : va_P D vwCl (wX7 cy h0 gma sna hia ka ora cha tra ena opa foa gm sn hs qs k0 k1 k2 k3 ch o tr es op fo has) H := by rw [eH]; exact hP
  have hS : va_S A s.heap H locs := by rw [eH, elocs]; exact hS
  refine k_here eH elocs ?_
  refine lv_aload_n hx hb dX7_isOver_0 rfl (lv_at hl 0 rfl) ?_
  refine va_get (D := D) (ci := 4) (v := .ref gma) (C := RX7) (T := TX7) (N := 6) hx hb hts in_X7 hown hK hP 0 rfl rfl 0 (by decide) fl10 (fun _ h9 => h9) rfl dX7_isOver_1 ?_
  obtain ⟨v1, hv1, hf⟩ := k_B hf
  refine k_callHV (As := []) (rest := []) (r := (RX2, TX2, 8)) (ci := 1) (q0 := 1) (isC := [1]) (isR := [0, 2, 3, 4, 5, 6, 7, 8, 9, 10, 11, 12, 13, 14]) (perm := [0, 14, 1, 2, 3, 4, 5, 6, 7, 8, 9, 10, 11, 12, 13]) (w' := (wX7 cy h0 gma sna hia ka ora cha tra ena opa foa gm sn hs qs k0 k1 k2 k3 ch o tr es op fo has)) ⟨hx, hb, hml, hown, hts⟩ (c_X2_hasEnded l D cy gma gm  v1 hv1) (cwV 0 hts gX7_isOver_X2_hasEnded rfl rfl rfl hd_X2_hasEnded ⟨Nat.le_of_ble_eq_true rfl, Nat.le_of_ble_eq_true rfl⟩) hK hN hP hD hS hA rfl rfl rfl rfl rfl rfl (by decide) rfl rfl rfl hl.1 rfl (Nat.le_of_ble_eq_true rfl) dX7_isOver_4 ⟨Nat.zero_le _, Nat.zero_le _⟩ (fun H locs hP hD hS => ?_)
  obtain ⟨rfl, hn⟩ := k_boolR hf
  exact k_zret hx hb hr hn hP hD hS dX7_isOver_7 hlocks
def f_X7_canTake (gm : k_G8) : Option (Int32) :=
  (f_X6_oneByOne gm.1).bind fun v1 =>
  some v1
abbrev rm_X7_canTake : Room := { frames := 4, cells := 0, slots := 0, locals := 90 }
theorem hd_X7_canTake : yX7_canTake.cls = RX7 ∧ yX7_canTake.cls ≠ "java/lang/invoke/MethodHandle" ∧ yX7_canTake.cls ≠ "java/lang/invoke/VarHandle" ∧ (parseMethodDescriptor yX7_canTake.desc).map (fun d => d.parameters.length) = some 0 := by decide +kernel
set_option maxHeartbeats 4000000 in
set_option maxRecDepth 100000 in
theorem c_X7_canTake (l : Launch) (D : va_G) (cy : Nat → ClassId) (h0 gma sna hia ka ora cha tra ena opa foa : Nat) (gm : k_G8) (sn : k_G8) (hs : Int32) (qs : k_Q4) (k0 : k_G8) (k1 : k_G8) (k2 : k_G8) (k3 : k_G8) (ch : Nat → Int32) (o : k_O5) (tr : k_G8) (es : Int32) (op : Nat → Int32) (fo : Nat → Int32) (has : Int32)  (r : Int32) (hf : f_X7_canTake gm = some r) : k_HMet l yX7_canTake wsX7_canTake rm_X7_canTake D (k_tys cy) [.ref h0] (wX7 cy h0 gma sna hia ka ora cha tra ena opa foa gm sn hs qs k0 k1 k2 k3 ch o tr es op fo has) (some (.int r)) (wX7 cy h0 gma sna hia ka ora cha tra ena opa foa gm sn hs qs k0 k1 k2 k3 ch o tr es op fo has) := by
  refine k_heapOf (cc := cX7_canTake) (maxL := 1) (ret := (some .int)) (by decide) rfl (Nat.le_of_ble_eq_true rfl) ?_
  intro p e s m args below meth c ls A hx hb hr hlocks hml hown hts hl hA hK hP hD hN
  have hl : lv_has ls 1 [(0, .ref h0)] := hl
  have hS : va_S A s.heap s.heap [] := va_S.rf
  have in_X2 : ∀ w ∈ wsX20, w ∈ wsX7_canTake := by decide +kernel
  have in_X7 : ∀ w ∈ wsX70, w ∈ wsX7_canTake := by decide +kernel
  have fl10 := hts (.fieldLink RX7 10 "FencedBoxes" "game" "LFencedBoxes$Game;") (by decide +kernel)
  have fl78 := va_Nw.use (A := args) rfl (show va_Nw (.fieldLinkNest RX7 78 "FencedBoxes$Game" "fences" "I" "FencedBoxes") s from hN.2 (RX7, 78, "FencedBoxes$Game", "fences", "I", "FencedBoxes") (by decide +kernel))
  unfold f_X7_canTake at hf
  obtain ⟨H, eH⟩ : ∃ H, H = s.heap := ⟨_, rfl⟩
  obtain ⟨locs, elocs⟩ : ∃ L : List Loc, L = [] := ⟨_, rfl⟩
  have hP : va_P D vwCl (wX7 cy h0 gma sna hia ka ora cha tra ena opa foa gm sn hs qs k0 k1 k2 k3 ch o tr es op fo has) H := by rw [eH]; exact hP
  have hS : va_S A s.heap H locs := by rw [eH, elocs]; exact hS
  refine k_here eH elocs ?_
  refine lv_aload_n hx hb dX7_canTake_0 rfl (lv_at hl 0 rfl) ?_
  refine va_get (D := D) (ci := 4) (v := .ref gma) (C := RX7) (T := TX7) (N := 6) hx hb hts in_X7 hown hK hP 0 rfl rfl 0 (by decide) fl10 (fun _ h9 => h9) rfl dX7_canTake_1 ?_
  refine va_getN (D := D) (ci := 1) (v := .int gm.1) (C := RX2) (T := TX2) (N := 8) hx hb hts in_X2 hown hK hP 1 rfl rfl 0 (by decide) fl78 (fun _ h9 => h9) rfl dX7_canTake_4 ?_
  obtain ⟨v1, hv1, hf⟩ := k_B hf
  refine k_callS (As := [.int gm.1]) (rest := []) ⟨hx, hb, hml, hown, hts⟩ (c_X6_oneByOne l gm.1 v1 hv1) (va_cwS 1 hts gX7_canTake_X6_oneByOne rfl rfl rfl hd_X6_oneByOne ⟨Nat.le_of_ble_eq_true rfl, Nat.le_of_ble_eq_true rfl⟩) rfl hl.1 rfl (Nat.le_of_ble_eq_true rfl) dX7_canTake_7 ⟨Nat.zero_le _, Nat.zero_le _⟩ ?_
  obtain rfl := k_some hf
  exact k_iret hx hb hr hP hD hS dX7_canTake_10 hlocks
def f_X7_canTakeByRounds (gm : k_G8) : Option (Int32) :=
  (f_X6_byRounds gm.1).bind fun v1 =>
  some v1
abbrev rm_X7_canTakeByRounds : Room := { frames := 4, cells := 0, slots := 0, locals := 89 }
theorem hd_X7_canTakeByRounds : yX7_canTakeByRounds.cls = RX7 ∧ yX7_canTakeByRounds.cls ≠ "java/lang/invoke/MethodHandle" ∧ yX7_canTakeByRounds.cls ≠ "java/lang/invoke/VarHandle" ∧ (parseMethodDescriptor yX7_canTakeByRounds.desc).map (fun d => d.parameters.length) = some 0 := by decide +kernel
set_option maxHeartbeats 4000000 in
set_option maxRecDepth 100000 in
theorem c_X7_canTakeByRounds (l : Launch) (D : va_G) (cy : Nat → ClassId) (h0 gma sna hia ka ora cha tra ena opa foa : Nat) (gm : k_G8) (sn : k_G8) (hs : Int32) (qs : k_Q4) (k0 : k_G8) (k1 : k_G8) (k2 : k_G8) (k3 : k_G8) (ch : Nat → Int32) (o : k_O5) (tr : k_G8) (es : Int32) (op : Nat → Int32) (fo : Nat → Int32) (has : Int32)  (r : Int32) (hf : f_X7_canTakeByRounds gm = some r) : k_HMet l yX7_canTakeByRounds wsX7_canTakeByRounds rm_X7_canTakeByRounds D (k_tys cy) [.ref h0] (wX7 cy h0 gma sna hia ka ora cha tra ena opa foa gm sn hs qs k0 k1 k2 k3 ch o tr es op fo has) (some (.int r)) (wX7 cy h0 gma sna hia ka ora cha tra ena opa foa gm sn hs qs k0 k1 k2 k3 ch o tr es op fo has) := by
  refine k_heapOf (cc := cX7_canTakeByRounds) (maxL := 1) (ret := (some .int)) (by decide) rfl (Nat.le_of_ble_eq_true rfl) ?_
  intro p e s m args below meth c ls A hx hb hr hlocks hml hown hts hl hA hK hP hD hN
  have hl : lv_has ls 1 [(0, .ref h0)] := hl
  have hS : va_S A s.heap s.heap [] := va_S.rf
  have in_X2 : ∀ w ∈ wsX20, w ∈ wsX7_canTakeByRounds := by decide +kernel
  have in_X7 : ∀ w ∈ wsX70, w ∈ wsX7_canTakeByRounds := by decide +kernel
  have fl10 := hts (.fieldLink RX7 10 "FencedBoxes" "game" "LFencedBoxes$Game;") (by decide +kernel)
  have fl78 := va_Nw.use (A := args) rfl (show va_Nw (.fieldLinkNest RX7 78 "FencedBoxes$Game" "fences" "I" "FencedBoxes") s from hN.2 (RX7, 78, "FencedBoxes$Game", "fences", "I", "FencedBoxes") (by decide +kernel))
  unfold f_X7_canTakeByRounds at hf
  obtain ⟨H, eH⟩ : ∃ H, H = s.heap := ⟨_, rfl⟩
  obtain ⟨locs, elocs⟩ : ∃ L : List Loc, L = [] := ⟨_, rfl⟩
  have hP : va_P D vwCl (wX7 cy h0 gma sna hia ka ora cha tra ena opa foa gm sn hs qs k0 k1 k2 k3 ch o tr es op fo has) H := by rw [eH]; exact hP
  have hS : va_S A s.heap H locs := by rw [eH, elocs]; exact hS
  refine k_here eH elocs ?_
  refine lv_aload_n hx hb dX7_canTakeByRounds_0 rfl (lv_at hl 0 rfl) ?_
  refine va_get (D := D) (ci := 4) (v := .ref gma) (C := RX7) (T := TX7) (N := 6) hx hb hts in_X7 hown hK hP 0 rfl rfl 0 (by decide) fl10 (fun _ h9 => h9) rfl dX7_canTakeByRounds_1 ?_
  refine va_getN (D := D) (ci := 1) (v := .int gm.1) (C := RX2) (T := TX2) (N := 8) hx hb hts in_X2 hown hK hP 1 rfl rfl 0 (by decide) fl78 (fun _ h9 => h9) rfl dX7_canTakeByRounds_4 ?_
  obtain ⟨v1, hv1, hf⟩ := k_B hf
  refine k_callS (As := [.int gm.1]) (rest := []) ⟨hx, hb, hml, hown, hts⟩ (c_X6_byRounds l gm.1 v1 hv1) (va_cwS 1 hts gX7_canTakeByRounds_X6_byRounds rfl rfl rfl hd_X6_byRounds ⟨Nat.le_of_ble_eq_true rfl, Nat.le_of_ble_eq_true rfl⟩) rfl hl.1 rfl (Nat.le_of_ble_eq_true rfl) dX7_canTakeByRounds_7 ⟨Nat.zero_le _, Nat.zero_le _⟩ ?_
  obtain rfl := k_some hf
  exact k_iret hx hb hr hP hD hS dX7_canTakeByRounds_10 hlocks
def f_X7_safeFences (gm : k_G8) : Option (Int32) :=
  (f_X6_safe gm.1).bind fun v1 =>
  (f_J6_bitCount_0f7a4 v1).bind fun v2 =>
  some v2
abbrev rm_X7_safeFences : Room := { frames := 4, cells := 0, slots := 0, locals := 88 }
theorem hd_X7_safeFences : yX7_safeFences.cls = RX7 ∧ yX7_safeFences.cls ≠ "java/lang/invoke/MethodHandle" ∧ yX7_safeFences.cls ≠ "java/lang/invoke/VarHandle" ∧ (parseMethodDescriptor yX7_safeFences.desc).map (fun d => d.parameters.length) = some 0 := by decide +kernel
set_option maxHeartbeats 4000000 in
set_option maxRecDepth 100000 in
theorem c_X7_safeFences (l : Launch) (D : va_G) (cy : Nat → ClassId) (h0 gma sna hia ka ora cha tra ena opa foa : Nat) (gm : k_G8) (sn : k_G8) (hs : Int32) (qs : k_Q4) (k0 : k_G8) (k1 : k_G8) (k2 : k_G8) (k3 : k_G8) (ch : Nat → Int32) (o : k_O5) (tr : k_G8) (es : Int32) (op : Nat → Int32) (fo : Nat → Int32) (has : Int32)  (r : Int32) (hf : f_X7_safeFences gm = some r) : k_HMet l yX7_safeFences wsX7_safeFences rm_X7_safeFences D (k_tys cy) [.ref h0] (wX7 cy h0 gma sna hia ka ora cha tra ena opa foa gm sn hs qs k0 k1 k2 k3 ch o tr es op fo has) (some (.int r)) (wX7 cy h0 gma sna hia ka ora cha tra ena opa foa gm sn hs qs k0 k1 k2 k3 ch o tr es op fo has) := by
  refine k_heapOf (cc := cX7_safeFences) (maxL := 1) (ret := (some .int)) (by decide) rfl (Nat.le_of_ble_eq_true rfl) ?_
  intro p e s m args below meth c ls A hx hb hr hlocks hml hown hts hl hA hK hP hD hN
  have hl : lv_has ls 1 [(0, .ref h0)] := hl
  have hS : va_S A s.heap s.heap [] := va_S.rf
  have in_X2 : ∀ w ∈ wsX20, w ∈ wsX7_safeFences := by decide +kernel
  have in_X7 : ∀ w ∈ wsX70, w ∈ wsX7_safeFences := by decide +kernel
  have fl10 := hts (.fieldLink RX7 10 "FencedBoxes" "game" "LFencedBoxes$Game;") (by decide +kernel)
  have fl78 := va_Nw.use (A := args) rfl (show va_Nw (.fieldLinkNest RX7 78 "FencedBoxes$Game" "fences" "I" "FencedBoxes") s from hN.2 (RX7, 78, "FencedBoxes$Game", "fences", "I", "FencedBoxes") (by decide +kernel))
  unfold f_X7_safeFences at hf
  obtain ⟨H, eH⟩ : ∃ H, H = s.heap := ⟨_, rfl⟩
  obtain ⟨locs, elocs⟩ : ∃ L : List Loc, L = [] := ⟨_, rfl⟩
  have hP : va_P D vwCl (wX7 cy h0 gma sna hia ka ora cha tra ena opa foa gm sn hs qs k0 k1 k2 k3 ch o tr es op fo has) H := by rw [eH]; exact hP
  have hS : va_S A s.heap H locs := by rw [eH, elocs]; exact hS
  refine k_here eH elocs ?_
  refine lv_aload_n hx hb dX7_safeFences_0 rfl (lv_at hl 0 rfl) ?_
  refine va_get (D := D) (ci := 4) (v := .ref gma) (C := RX7) (T := TX7) (N := 6) hx hb hts in_X7 hown hK hP 0 rfl rfl 0 (by decide) fl10 (fun _ h9 => h9) rfl dX7_safeFences_1 ?_
  refine va_getN (D := D) (ci := 1) (v := .int gm.1) (C := RX2) (T := TX2) (N := 8) hx hb hts in_X2 hown hK hP 1 rfl rfl 0 (by decide) fl78 (fun _ h9 => h9) rfl dX7_safeFences_4 ?_
  obtain ⟨v1, hv1, hf⟩ := k_B hf
  refine k_callS (As := [.int gm.1]) (rest := []) ⟨hx, hb, hml, hown, hts⟩ (c_X6_safe l gm.1 v1 hv1) (va_cwS 1 hts gX7_safeFences_X6_safe rfl rfl rfl hd_X6_safe ⟨Nat.le_of_ble_eq_true rfl, Nat.le_of_ble_eq_true rfl⟩) rfl hl.1 rfl (Nat.le_of_ble_eq_true rfl) dX7_safeFences_7 ⟨Nat.zero_le _, Nat.zero_le _⟩ ?_
  obtain ⟨v2, hv2, hf⟩ := k_B hf
  refine k_callS (As := [.int v1]) (rest := []) ⟨hx, hb, hml, hown, hts⟩ (c_J6_bitCount_0f7a4 l v1 v2 hv2) (va_cwS 1 hts gX7_safeFences_J6_bitCount_0f7a4 rfl rfl rfl hd_J6_bitCount_0f7a4 ⟨Nat.le_of_ble_eq_true rfl, Nat.le_of_ble_eq_true rfl⟩) rfl hl.1 rfl (Nat.le_of_ble_eq_true rfl) dX7_safeFences_10 ⟨Nat.zero_le _, Nat.zero_le _⟩ ?_
  obtain rfl := k_some hf
  exact k_iret hx hb hr hP hD hS dX7_safeFences_13 hlocks
def f_X7_safeInRow (gm : k_G8) : Option (Int32) :=
  (f_X6_safeOneByOne gm.1).bind fun v1 =>
  some v1
abbrev rm_X7_safeInRow : Room := { frames := 5, cells := 0, slots := 0, locals := 111 }
theorem hd_X7_safeInRow : yX7_safeInRow.cls = RX7 ∧ yX7_safeInRow.cls ≠ "java/lang/invoke/MethodHandle" ∧ yX7_safeInRow.cls ≠ "java/lang/invoke/VarHandle" ∧ (parseMethodDescriptor yX7_safeInRow.desc).map (fun d => d.parameters.length) = some 0 := by decide +kernel
set_option maxHeartbeats 4000000 in
set_option maxRecDepth 100000 in
theorem c_X7_safeInRow (l : Launch) (D : va_G) (cy : Nat → ClassId) (h0 gma sna hia ka ora cha tra ena opa foa : Nat) (gm : k_G8) (sn : k_G8) (hs : Int32) (qs : k_Q4) (k0 : k_G8) (k1 : k_G8) (k2 : k_G8) (k3 : k_G8) (ch : Nat → Int32) (o : k_O5) (tr : k_G8) (es : Int32) (op : Nat → Int32) (fo : Nat → Int32) (has : Int32)  (r : Int32) (hf : f_X7_safeInRow gm = some r) : k_HMet l yX7_safeInRow wsX7_safeInRow rm_X7_safeInRow D (k_tys cy) [.ref h0] (wX7 cy h0 gma sna hia ka ora cha tra ena opa foa gm sn hs qs k0 k1 k2 k3 ch o tr es op fo has) (some (.int r)) (wX7 cy h0 gma sna hia ka ora cha tra ena opa foa gm sn hs qs k0 k1 k2 k3 ch o tr es op fo has) := by
  refine k_heapOf (cc := cX7_safeInRow) (maxL := 1) (ret := (some .int)) (by decide) rfl (Nat.le_of_ble_eq_true rfl) ?_
  intro p e s m args below meth c ls A hx hb hr hlocks hml hown hts hl hA hK hP hD hN
  have hl : lv_has ls 1 [(0, .ref h0)] := hl
  have hS : va_S A s.heap s.heap [] := va_S.rf
  have in_X2 : ∀ w ∈ wsX20, w ∈ wsX7_safeInRow := by decide +kernel
  have in_X7 : ∀ w ∈ wsX70, w ∈ wsX7_safeInRow := by decide +kernel
  have fl10 := hts (.fieldLink RX7 10 "FencedBoxes" "game" "LFencedBoxes$Game;") (by decide +kernel)
  have fl78 := va_Nw.use (A := args) rfl (show va_Nw (.fieldLinkNest RX7 78 "FencedBoxes$Game" "fences" "I" "FencedBoxes") s from hN.2 (RX7, 78, "FencedBoxes$Game", "fences", "I", "FencedBoxes") (by decide +kernel))
  unfold f_X7_safeInRow at hf
  obtain ⟨H, eH⟩ : ∃ H, H = s.heap := ⟨_, rfl⟩
  obtain ⟨locs, elocs⟩ : ∃ L : List Loc, L = [] := ⟨_, rfl⟩
  have hP : va_P D vwCl (wX7 cy h0 gma sna hia ka ora cha tra ena opa foa gm sn hs qs k0 k1 k2 k3 ch o tr es op fo has) H := by rw [eH]; exact hP
  have hS : va_S A s.heap H locs := by rw [eH, elocs]; exact hS
  refine k_here eH elocs ?_
  refine lv_aload_n hx hb dX7_safeInRow_0 rfl (lv_at hl 0 rfl) ?_
  refine va_get (D := D) (ci := 4) (v := .ref gma) (C := RX7) (T := TX7) (N := 6) hx hb hts in_X7 hown hK hP 0 rfl rfl 0 (by decide) fl10 (fun _ h9 => h9) rfl dX7_safeInRow_1 ?_
  refine va_getN (D := D) (ci := 1) (v := .int gm.1) (C := RX2) (T := TX2) (N := 8) hx hb hts in_X2 hown hK hP 1 rfl rfl 0 (by decide) fl78 (fun _ h9 => h9) rfl dX7_safeInRow_4 ?_
  obtain ⟨v1, hv1, hf⟩ := k_B hf
  refine k_callS (As := [.int gm.1]) (rest := []) ⟨hx, hb, hml, hown, hts⟩ (c_X6_safeOneByOne l gm.1 v1 hv1) (va_cwS 1 hts gX7_safeInRow_X6_safeOneByOne rfl rfl rfl hd_X6_safeOneByOne ⟨Nat.le_of_ble_eq_true rfl, Nat.le_of_ble_eq_true rfl⟩) rfl hl.1 rfl (Nat.le_of_ble_eq_true rfl) dX7_safeInRow_7 ⟨Nat.zero_le _, Nat.zero_le _⟩ ?_
  obtain rfl := k_some hf
  exact k_iret hx hb hr hP hD hS dX7_safeInRow_10 hlocks
def f_X7_chains (gm : k_G8) : Option (Int32) :=
  (f_X0_count gm.1 0).bind fun v1 =>
  (f_X0_count gm.1 1).bind fun v2 =>
  (f_X0_count gm.1 2).bind fun v3 =>
  some ((v1 + v2) + v3)
abbrev rm_X7_chains : Room := { frames := 5, cells := 0, slots := 0, locals := 121 }
theorem hd_X7_chains : yX7_chains.cls = RX7 ∧ yX7_chains.cls ≠ "java/lang/invoke/MethodHandle" ∧ yX7_chains.cls ≠ "java/lang/invoke/VarHandle" ∧ (parseMethodDescriptor yX7_chains.desc).map (fun d => d.parameters.length) = some 0 := by decide +kernel
set_option maxHeartbeats 4000000 in
set_option maxRecDepth 100000 in
theorem c_X7_chains (l : Launch) (D : va_G) (cy : Nat → ClassId) (h0 gma sna hia ka ora cha tra ena opa foa : Nat) (gm : k_G8) (sn : k_G8) (hs : Int32) (qs : k_Q4) (k0 : k_G8) (k1 : k_G8) (k2 : k_G8) (k3 : k_G8) (ch : Nat → Int32) (o : k_O5) (tr : k_G8) (es : Int32) (op : Nat → Int32) (fo : Nat → Int32) (has : Int32)  (r : Int32) (hf : f_X7_chains gm = some r) : k_HMet l yX7_chains wsX7_chains rm_X7_chains D (k_tys cy) [.ref h0] (wX7 cy h0 gma sna hia ka ora cha tra ena opa foa gm sn hs qs k0 k1 k2 k3 ch o tr es op fo has) (some (.int r)) (wX7 cy h0 gma sna hia ka ora cha tra ena opa foa gm sn hs qs k0 k1 k2 k3 ch o tr es op fo has) := by
  refine k_heapOf (cc := cX7_chains) (maxL := 1) (ret := (some .int)) (by decide) rfl (Nat.le_of_ble_eq_true rfl) ?_
  intro p e s m args below meth c ls A hx hb hr hlocks hml hown hts hl hA hK hP hD hN
  have hl : lv_has ls 1 [(0, .ref h0)] := hl
  have hS : va_S A s.heap s.heap [] := va_S.rf
  have in_X2 : ∀ w ∈ wsX20, w ∈ wsX7_chains := by decide +kernel
  have in_X7 : ∀ w ∈ wsX70, w ∈ wsX7_chains := by decide +kernel
  have fl10 := hts (.fieldLink RX7 10 "FencedBoxes" "game" "LFencedBoxes$Game;") (by decide +kernel)
  have fl78 := va_Nw.use (A := args) rfl (show va_Nw (.fieldLinkNest RX7 78 "FencedBoxes$Game" "fences" "I" "FencedBoxes") s from hN.2 (RX7, 78, "FencedBoxes$Game", "fences", "I", "FencedBoxes") (by decide +kernel))
  unfold f_X7_chains at hf
  obtain ⟨H, eH⟩ : ∃ H, H = s.heap := ⟨_, rfl⟩
  obtain ⟨locs, elocs⟩ : ∃ L : List Loc, L = [] := ⟨_, rfl⟩
  have hP : va_P D vwCl (wX7 cy h0 gma sna hia ka ora cha tra ena opa foa gm sn hs qs k0 k1 k2 k3 ch o tr es op fo has) H := by rw [eH]; exact hP
  have hS : va_S A s.heap H locs := by rw [eH, elocs]; exact hS
  refine k_here eH elocs ?_
  refine lv_aload_n hx hb dX7_chains_0 rfl (lv_at hl 0 rfl) ?_
  refine va_get (D := D) (ci := 4) (v := .ref gma) (C := RX7) (T := TX7) (N := 6) hx hb hts in_X7 hown hK hP 0 rfl rfl 0 (by decide) fl10 (fun _ h9 => h9) rfl dX7_chains_1 ?_
  refine va_getN (D := D) (ci := 1) (v := .int gm.1) (C := RX2) (T := TX2) (N := 8) hx hb hts in_X2 hown hK hP 1 rfl rfl 0 (by decide) fl78 (fun _ h9 => h9) rfl dX7_chains_4 ?_
  refine lv_iconst (v := 0) hx hb dX7_chains_7 (by decide) ?_
  obtain ⟨v1, hv1, hf⟩ := k_B hf
  refine k_callS (As := [.int gm.1, .int 0]) (rest := []) ⟨hx, hb, hml, hown, hts⟩ (c_X0_count l gm.1 0 v1 hv1) (va_cwS 2 hts gX7_chains_X0_count rfl rfl rfl hd_X0_count ⟨Nat.le_of_ble_eq_true rfl, Nat.le_of_ble_eq_true rfl⟩) rfl hl.1 rfl (Nat.le_of_ble_eq_true rfl) dX7_chains_8 ⟨Nat.zero_le _, Nat.zero_le _⟩ ?_
  refine lv_aload_n hx hb dX7_chains_11 rfl (lv_at hl 0 rfl) ?_
  refine va_get (D := D) (ci := 4) (v := .ref gma) (C := RX7) (T := TX7) (N := 6) hx hb hts in_X7 hown hK hP 0 rfl rfl 0 (by decide) fl10 (fun _ h9 => h9) rfl dX7_chains_12 ?_
  refine va_getN (D := D) (ci := 1) (v := .int gm.1) (C := RX2) (T := TX2) (N := 8) hx hb hts in_X2 hown hK hP 1 rfl rfl 0 (by decide) fl78 (fun _ h9 => h9) rfl dX7_chains_15 ?_
  refine lv_iconst (v := 1) hx hb dX7_chains_18 (by decide) ?_
  obtain ⟨v2, hv2, hf⟩ := k_B hf
  refine k_callS (As := [.int gm.1, .int 1]) (rest := [.int v1]) ⟨hx, hb, hml, hown, hts⟩ (c_X0_count l gm.1 1 v2 hv2) (va_cwS 2 hts gX7_chains_X0_count rfl rfl rfl hd_X0_count ⟨Nat.le_of_ble_eq_true rfl, Nat.le_of_ble_eq_true rfl⟩) rfl hl.1 rfl (Nat.le_of_ble_eq_true rfl) dX7_chains_19 ⟨Nat.zero_le _, Nat.zero_le _⟩ ?_
  refine lv_iadd hx hb dX7_chains_22 ?_
  refine lv_aload_n hx hb dX7_chains_23 rfl (lv_at hl 0 rfl) ?_
  refine va_get (D := D) (ci := 4) (v := .ref gma) (C := RX7) (T := TX7) (N := 6) hx hb hts in_X7 hown hK hP 0 rfl rfl 0 (by decide) fl10 (fun _ h9 => h9) rfl dX7_chains_24 ?_
  refine va_getN (D := D) (ci := 1) (v := .int gm.1) (C := RX2) (T := TX2) (N := 8) hx hb hts in_X2 hown hK hP 1 rfl rfl 0 (by decide) fl78 (fun _ h9 => h9) rfl dX7_chains_27 ?_
  refine lv_iconst (v := 2) hx hb dX7_chains_30 (by decide) ?_
  obtain ⟨v3, hv3, hf⟩ := k_B hf
  refine k_callS (As := [.int gm.1, .int 2]) (rest := [.int (v1 + v2)]) ⟨hx, hb, hml, hown, hts⟩ (c_X0_count l gm.1 2 v3 hv3) (va_cwS 2 hts gX7_chains_X0_count rfl rfl rfl hd_X0_count ⟨Nat.le_of_ble_eq_true rfl, Nat.le_of_ble_eq_true rfl⟩) rfl hl.1 rfl (Nat.le_of_ble_eq_true rfl) dX7_chains_31 ⟨Nat.zero_le _, Nat.zero_le _⟩ ?_
  refine lv_iadd hx hb dX7_chains_34 ?_
  obtain rfl := k_some hf
  exact k_iret hx hb hr hP hD hS dX7_chains_35 hlocks
def f_X7_rings (gm : k_G8) : Option (Int32) :=
  (f_X0_count gm.1 2).bind fun v1 =>
  some v1
abbrev rm_X7_rings : Room := { frames := 5, cells := 0, slots := 0, locals := 121 }
theorem hd_X7_rings : yX7_rings.cls = RX7 ∧ yX7_rings.cls ≠ "java/lang/invoke/MethodHandle" ∧ yX7_rings.cls ≠ "java/lang/invoke/VarHandle" ∧ (parseMethodDescriptor yX7_rings.desc).map (fun d => d.parameters.length) = some 0 := by decide +kernel
set_option maxHeartbeats 4000000 in
set_option maxRecDepth 100000 in
theorem c_X7_rings (l : Launch) (D : va_G) (cy : Nat → ClassId) (h0 gma sna hia ka ora cha tra ena opa foa : Nat) (gm : k_G8) (sn : k_G8) (hs : Int32) (qs : k_Q4) (k0 : k_G8) (k1 : k_G8) (k2 : k_G8) (k3 : k_G8) (ch : Nat → Int32) (o : k_O5) (tr : k_G8) (es : Int32) (op : Nat → Int32) (fo : Nat → Int32) (has : Int32)  (r : Int32) (hf : f_X7_rings gm = some r) : k_HMet l yX7_rings wsX7_rings rm_X7_rings D (k_tys cy) [.ref h0] (wX7 cy h0 gma sna hia ka ora cha tra ena opa foa gm sn hs qs k0 k1 k2 k3 ch o tr es op fo has) (some (.int r)) (wX7 cy h0 gma sna hia ka ora cha tra ena opa foa gm sn hs qs k0 k1 k2 k3 ch o tr es op fo has) := by
  refine k_heapOf (cc := cX7_rings) (maxL := 1) (ret := (some .int)) (by decide) rfl (Nat.le_of_ble_eq_true rfl) ?_
  intro p e s m args below meth c ls A hx hb hr hlocks hml hown hts hl hA hK hP hD hN
  have hl : lv_has ls 1 [(0, .ref h0)] := hl
  have hS : va_S A s.heap s.heap [] := va_S.rf
  have in_X2 : ∀ w ∈ wsX20, w ∈ wsX7_rings := by decide +kernel
  have in_X7 : ∀ w ∈ wsX70, w ∈ wsX7_rings := by decide +kernel
  have fl10 := hts (.fieldLink RX7 10 "FencedBoxes" "game" "LFencedBoxes$Game;") (by decide +kernel)
  have fl78 := va_Nw.use (A := args) rfl (show va_Nw (.fieldLinkNest RX7 78 "FencedBoxes$Game" "fences" "I" "FencedBoxes") s from hN.2 (RX7, 78, "FencedBoxes$Game", "fences", "I", "FencedBoxes") (by decide +kernel))
  unfold f_X7_rings at hf
  obtain ⟨H, eH⟩ : ∃ H, H = s.heap := ⟨_, rfl⟩
  obtain ⟨locs, elocs⟩ : ∃ L : List Loc, L = [] := ⟨_, rfl⟩
  have hP : va_P D vwCl (wX7 cy h0 gma sna hia ka ora cha tra ena opa foa gm sn hs qs k0 k1 k2 k3 ch o tr es op fo has) H := by rw [eH]; exact hP
  have hS : va_S A s.heap H locs := by rw [eH, elocs]; exact hS
  refine k_here eH elocs ?_
  refine lv_aload_n hx hb dX7_rings_0 rfl (lv_at hl 0 rfl) ?_
  refine va_get (D := D) (ci := 4) (v := .ref gma) (C := RX7) (T := TX7) (N := 6) hx hb hts in_X7 hown hK hP 0 rfl rfl 0 (by decide) fl10 (fun _ h9 => h9) rfl dX7_rings_1 ?_
  refine va_getN (D := D) (ci := 1) (v := .int gm.1) (C := RX2) (T := TX2) (N := 8) hx hb hts in_X2 hown hK hP 1 rfl rfl 0 (by decide) fl78 (fun _ h9 => h9) rfl dX7_rings_4 ?_
  refine lv_iconst (v := 2) hx hb dX7_rings_7 (by decide) ?_
  obtain ⟨v1, hv1, hf⟩ := k_B hf
  refine k_callS (As := [.int gm.1, .int 2]) (rest := []) ⟨hx, hb, hml, hown, hts⟩ (c_X0_count l gm.1 2 v1 hv1) (va_cwS 2 hts gX7_rings_X0_count rfl rfl rfl hd_X0_count ⟨Nat.le_of_ble_eq_true rfl, Nat.le_of_ble_eq_true rfl⟩) rfl hl.1 rfl (Nat.le_of_ble_eq_true rfl) dX7_rings_8 ⟨Nat.zero_le _, Nat.zero_le _⟩ ?_
  obtain rfl := k_some hf
  exact k_iret hx hb hr hP hD hS dX7_rings_11 hlocks
def f_X7_longChains (gm : k_G8) : Option (Int32) :=
  (f_X0_count gm.1 1).bind fun v1 =>
  some v1
abbrev rm_X7_longChains : Room := { frames := 5, cells := 0, slots := 0, locals := 121 }
theorem hd_X7_longChains : yX7_longChains.cls = RX7 ∧ yX7_longChains.cls ≠ "java/lang/invoke/MethodHandle" ∧ yX7_longChains.cls ≠ "java/lang/invoke/VarHandle" ∧ (parseMethodDescriptor yX7_longChains.desc).map (fun d => d.parameters.length) = some 0 := by decide +kernel
set_option maxHeartbeats 4000000 in
set_option maxRecDepth 100000 in
theorem c_X7_longChains (l : Launch) (D : va_G) (cy : Nat → ClassId) (h0 gma sna hia ka ora cha tra ena opa foa : Nat) (gm : k_G8) (sn : k_G8) (hs : Int32) (qs : k_Q4) (k0 : k_G8) (k1 : k_G8) (k2 : k_G8) (k3 : k_G8) (ch : Nat → Int32) (o : k_O5) (tr : k_G8) (es : Int32) (op : Nat → Int32) (fo : Nat → Int32) (has : Int32)  (r : Int32) (hf : f_X7_longChains gm = some r) : k_HMet l yX7_longChains wsX7_longChains rm_X7_longChains D (k_tys cy) [.ref h0] (wX7 cy h0 gma sna hia ka ora cha tra ena opa foa gm sn hs qs k0 k1 k2 k3 ch o tr es op fo has) (some (.int r)) (wX7 cy h0 gma sna hia ka ora cha tra ena opa foa gm sn hs qs k0 k1 k2 k3 ch o tr es op fo has) := by
  refine k_heapOf (cc := cX7_longChains) (maxL := 1) (ret := (some .int)) (by decide) rfl (Nat.le_of_ble_eq_true rfl) ?_
  intro p e s m args below meth c ls A hx hb hr hlocks hml hown hts hl hA hK hP hD hN
  have hl : lv_has ls 1 [(0, .ref h0)] := hl
  have hS : va_S A s.heap s.heap [] := va_S.rf
  have in_X2 : ∀ w ∈ wsX20, w ∈ wsX7_longChains := by decide +kernel
  have in_X7 : ∀ w ∈ wsX70, w ∈ wsX7_longChains := by decide +kernel
  have fl10 := hts (.fieldLink RX7 10 "FencedBoxes" "game" "LFencedBoxes$Game;") (by decide +kernel)
  have fl78 := va_Nw.use (A := args) rfl (show va_Nw (.fieldLinkNest RX7 78 "FencedBoxes$Game" "fences" "I" "FencedBoxes") s from hN.2 (RX7, 78, "FencedBoxes$Game", "fences", "I", "FencedBoxes") (by decide +kernel))
  unfold f_X7_longChains at hf
  obtain ⟨H, eH⟩ : ∃ H, H = s.heap := ⟨_, rfl⟩
  obtain ⟨locs, elocs⟩ : ∃ L : List Loc, L = [] := ⟨_, rfl⟩
  have hP : va_P D vwCl (wX7 cy h0 gma sna hia ka ora cha tra ena opa foa gm sn hs qs k0 k1 k2 k3 ch o tr es op fo has) H := by rw [eH]; exact hP
  have hS : va_S A s.heap H locs := by rw [eH, elocs]; exact hS
  refine k_here eH elocs ?_
  refine lv_aload_n hx hb dX7_longChains_0 rfl (lv_at hl 0 rfl) ?_
  refine va_get (D := D) (ci := 4) (v := .ref gma) (C := RX7) (T := TX7) (N := 6) hx hb hts in_X7 hown hK hP 0 rfl rfl 0 (by decide) fl10 (fun _ h9 => h9) rfl dX7_longChains_1 ?_
  refine va_getN (D := D) (ci := 1) (v := .int gm.1) (C := RX2) (T := TX2) (N := 8) hx hb hts in_X2 hown hK hP 1 rfl rfl 0 (by decide) fl78 (fun _ h9 => h9) rfl dX7_longChains_4 ?_
  refine lv_iconst (v := 1) hx hb dX7_longChains_7 (by decide) ?_
  obtain ⟨v1, hv1, hf⟩ := k_B hf
  refine k_callS (As := [.int gm.1, .int 1]) (rest := []) ⟨hx, hb, hml, hown, hts⟩ (c_X0_count l gm.1 1 v1 hv1) (va_cwS 2 hts gX7_longChains_X0_count rfl rfl rfl hd_X0_count ⟨Nat.le_of_ble_eq_true rfl, Nat.le_of_ble_eq_true rfl⟩) rfl hl.1 rfl (Nat.le_of_ble_eq_true rfl) dX7_longChains_8 ⟨Nat.zero_le _, Nat.zero_le _⟩ ?_
  obtain rfl := k_some hf
  exact k_iret hx hb hr hP hD hS dX7_longChains_11 hlocks
def f_X7_ruleHoldsFor (gm : k_G8) : Option (Int32) :=
  (f_X0_count gm.1 1).bind fun v1 =>
  some (v1 &&& 1)
abbrev rm_X7_ruleHoldsFor : Room := { frames := 5, cells := 0, slots := 0, locals := 121 }
theorem hd_X7_ruleHoldsFor : yX7_ruleHoldsFor.cls = RX7 ∧ yX7_ruleHoldsFor.cls ≠ "java/lang/invoke/MethodHandle" ∧ yX7_ruleHoldsFor.cls ≠ "java/lang/invoke/VarHandle" ∧ (parseMethodDescriptor yX7_ruleHoldsFor.desc).map (fun d => d.parameters.length) = some 0 := by decide +kernel
set_option maxHeartbeats 4000000 in
set_option maxRecDepth 100000 in
theorem c_X7_ruleHoldsFor (l : Launch) (D : va_G) (cy : Nat → ClassId) (h0 gma sna hia ka ora cha tra ena opa foa : Nat) (gm : k_G8) (sn : k_G8) (hs : Int32) (qs : k_Q4) (k0 : k_G8) (k1 : k_G8) (k2 : k_G8) (k3 : k_G8) (ch : Nat → Int32) (o : k_O5) (tr : k_G8) (es : Int32) (op : Nat → Int32) (fo : Nat → Int32) (has : Int32)  (r : Int32) (hf : f_X7_ruleHoldsFor gm = some r) : k_HMet l yX7_ruleHoldsFor wsX7_ruleHoldsFor rm_X7_ruleHoldsFor D (k_tys cy) [.ref h0] (wX7 cy h0 gma sna hia ka ora cha tra ena opa foa gm sn hs qs k0 k1 k2 k3 ch o tr es op fo has) (some (.int r)) (wX7 cy h0 gma sna hia ka ora cha tra ena opa foa gm sn hs qs k0 k1 k2 k3 ch o tr es op fo has) := by
  refine k_heapOf (cc := cX7_ruleHoldsFor) (maxL := 1) (ret := (some .int)) (by decide) rfl (Nat.le_of_ble_eq_true rfl) ?_
  intro p e s m args below meth c ls A hx hb hr hlocks hml hown hts hl hA hK hP hD hN
  have hl : lv_has ls 1 [(0, .ref h0)] := hl
  have hS : va_S A s.heap s.heap [] := va_S.rf
  have in_X2 : ∀ w ∈ wsX20, w ∈ wsX7_ruleHoldsFor := by decide +kernel
  have in_X7 : ∀ w ∈ wsX70, w ∈ wsX7_ruleHoldsFor := by decide +kernel
  have fl10 := hts (.fieldLink RX7 10 "FencedBoxes" "game" "LFencedBoxes$Game;") (by decide +kernel)
  have fl78 := va_Nw.use (A := args) rfl (show va_Nw (.fieldLinkNest RX7 78 "FencedBoxes$Game" "fences" "I" "FencedBoxes") s from hN.2 (RX7, 78, "FencedBoxes$Game", "fences", "I", "FencedBoxes") (by decide +kernel))
  unfold f_X7_ruleHoldsFor at hf
  obtain ⟨H, eH⟩ : ∃ H, H = s.heap := ⟨_, rfl⟩
  obtain ⟨locs, elocs⟩ : ∃ L : List Loc, L = [] := ⟨_, rfl⟩
  have hP : va_P D vwCl (wX7 cy h0 gma sna hia ka ora cha tra ena opa foa gm sn hs qs k0 k1 k2 k3 ch o tr es op fo has) H := by rw [eH]; exact hP
  have hS : va_S A s.heap H locs := by rw [eH, elocs]; exact hS
  refine k_here eH elocs ?_
  refine lv_aload_n hx hb dX7_ruleHoldsFor_0 rfl (lv_at hl 0 rfl) ?_
  refine va_get (D := D) (ci := 4) (v := .ref gma) (C := RX7) (T := TX7) (N := 6) hx hb hts in_X7 hown hK hP 0 rfl rfl 0 (by decide) fl10 (fun _ h9 => h9) rfl dX7_ruleHoldsFor_1 ?_
  refine va_getN (D := D) (ci := 1) (v := .int gm.1) (C := RX2) (T := TX2) (N := 8) hx hb hts in_X2 hown hK hP 1 rfl rfl 0 (by decide) fl78 (fun _ h9 => h9) rfl dX7_ruleHoldsFor_4 ?_
  refine lv_iconst (v := 1) hx hb dX7_ruleHoldsFor_7 (by decide) ?_
  obtain ⟨v1, hv1, hf⟩ := k_B hf
  refine k_callS (As := [.int gm.1, .int 1]) (rest := []) ⟨hx, hb, hml, hown, hts⟩ (c_X0_count l gm.1 1 v1 hv1) (va_cwS 2 hts gX7_ruleHoldsFor_X0_count rfl rfl rfl hd_X0_count ⟨Nat.le_of_ble_eq_true rfl, Nat.le_of_ble_eq_true rfl⟩) rfl hl.1 rfl (Nat.le_of_ble_eq_true rfl) dX7_ruleHoldsFor_8 ⟨Nat.zero_le _, Nat.zero_le _⟩ ?_
  refine lv_iconst (v := 1) hx hb dX7_ruleHoldsFor_11 (by decide) ?_
  refine lv_iand hx hb dX7_ruleHoldsFor_12 ?_
  obtain rfl := k_some hf
  exact k_iret hx hb hr hP hD hS dX7_ruleHoldsFor_13 hlocks
def f_X7_evenGames (gm : k_G8) : Option (Int32) :=
  some gm.2.2.2.2.2.2.1
abbrev rm_X7_evenGames : Room := { frames := 0, cells := 0, slots := 0, locals := 0 }
theorem hd_X7_evenGames : yX7_evenGames.cls = RX7 ∧ yX7_evenGames.cls ≠ "java/lang/invoke/MethodHandle" ∧ yX7_evenGames.cls ≠ "java/lang/invoke/VarHandle" ∧ (parseMethodDescriptor yX7_evenGames.desc).map (fun d => d.parameters.length) = some 0 := by decide +kernel
set_option maxHeartbeats 4000000 in
set_option maxRecDepth 100000 in
theorem c_X7_evenGames (l : Launch) (D : va_G) (cy : Nat → ClassId) (h0 gma sna hia ka ora cha tra ena opa foa : Nat) (gm : k_G8) (sn : k_G8) (hs : Int32) (qs : k_Q4) (k0 : k_G8) (k1 : k_G8) (k2 : k_G8) (k3 : k_G8) (ch : Nat → Int32) (o : k_O5) (tr : k_G8) (es : Int32) (op : Nat → Int32) (fo : Nat → Int32) (has : Int32)  (r : Int32) (hf : f_X7_evenGames gm = some r) : k_HMet l yX7_evenGames wsX7_evenGames rm_X7_evenGames D (k_tys cy) [.ref h0] (wX7 cy h0 gma sna hia ka ora cha tra ena opa foa gm sn hs qs k0 k1 k2 k3 ch o tr es op fo has) (some (.int r)) (wX7 cy h0 gma sna hia ka ora cha tra ena opa foa gm sn hs qs k0 k1 k2 k3 ch o tr es op fo has) := by
  refine k_heapOf (cc := cX7_evenGames) (maxL := 1) (ret := (some .int)) (by decide) rfl (Nat.le_of_ble_eq_true rfl) ?_
  intro p e s m args below meth c ls A hx hb hr hlocks hml hown hts hl hA hK hP hD hN
  have hl : lv_has ls 1 [(0, .ref h0)] := hl
  have hS : va_S A s.heap s.heap [] := va_S.rf
  have in_X2 : ∀ w ∈ wsX20, w ∈ wsX7_evenGames := by decide +kernel
  have in_X7 : ∀ w ∈ wsX70, w ∈ wsX7_evenGames := by decide +kernel
  have fl10 := hts (.fieldLink RX7 10 "FencedBoxes" "game" "LFencedBoxes$Game;") (by decide +kernel)
  have fl195 := va_Nw.use (A := args) rfl (show va_Nw (.fieldLinkNest RX7 195 "FencedBoxes$Game" "evens" "I" "FencedBoxes") s from hN.2 (RX7, 195, "FencedBoxes$Game", "evens", "I", "FencedBoxes") (by decide +kernel))
  unfold f_X7_evenGames at hf
  obtain ⟨H, eH⟩ : ∃ H, H = s.heap := ⟨_, rfl⟩
  obtain ⟨locs, elocs⟩ : ∃ L : List Loc, L = [] := ⟨_, rfl⟩
  have hP : va_P D vwCl (wX7 cy h0 gma sna hia ka ora cha tra ena opa foa gm sn hs qs k0 k1 k2 k3 ch o tr es op fo has) H := by rw [eH]; exact hP
  have hS : va_S A s.heap H locs := by rw [eH, elocs]; exact hS
  refine k_here eH elocs ?_
  refine lv_aload_n hx hb dX7_evenGames_0 rfl (lv_at hl 0 rfl) ?_
  refine va_get (D := D) (ci := 4) (v := .ref gma) (C := RX7) (T := TX7) (N := 6) hx hb hts in_X7 hown hK hP 0 rfl rfl 0 (by decide) fl10 (fun _ h9 => h9) rfl dX7_evenGames_1 ?_
  refine va_getN (D := D) (ci := 1) (v := .int gm.2.2.2.2.2.2.1) (C := RX2) (T := TX2) (N := 8) hx hb hts in_X2 hown hK hP 1 rfl rfl 6 (by decide) fl195 (fun _ h9 => h9) rfl dX7_evenGames_4 ?_
  obtain rfl := k_some hf
  exact k_iret hx hb hr hP hD hS dX7_evenGames_7 hlocks
def f_X7_doubleDeals (gm : k_G8) : Option (Int32) :=
  some gm.2.2.2.2.2.2.2
abbrev rm_X7_doubleDeals : Room := { frames := 0, cells := 0, slots := 0, locals := 0 }
theorem hd_X7_doubleDeals : yX7_doubleDeals.cls = RX7 ∧ yX7_doubleDeals.cls ≠ "java/lang/invoke/MethodHandle" ∧ yX7_doubleDeals.cls ≠ "java/lang/invoke/VarHandle" ∧ (parseMethodDescriptor yX7_doubleDeals.desc).map (fun d => d.parameters.length) = some 0 := by decide +kernel
set_option maxHeartbeats 4000000 in
set_option maxRecDepth 100000 in
theorem c_X7_doubleDeals (l : Launch) (D : va_G) (cy : Nat → ClassId) (h0 gma sna hia ka ora cha tra ena opa foa : Nat) (gm : k_G8) (sn : k_G8) (hs : Int32) (qs : k_Q4) (k0 : k_G8) (k1 : k_G8) (k2 : k_G8) (k3 : k_G8) (ch : Nat → Int32) (o : k_O5) (tr : k_G8) (es : Int32) (op : Nat → Int32) (fo : Nat → Int32) (has : Int32)  (r : Int32) (hf : f_X7_doubleDeals gm = some r) : k_HMet l yX7_doubleDeals wsX7_doubleDeals rm_X7_doubleDeals D (k_tys cy) [.ref h0] (wX7 cy h0 gma sna hia ka ora cha tra ena opa foa gm sn hs qs k0 k1 k2 k3 ch o tr es op fo has) (some (.int r)) (wX7 cy h0 gma sna hia ka ora cha tra ena opa foa gm sn hs qs k0 k1 k2 k3 ch o tr es op fo has) := by
  refine k_heapOf (cc := cX7_doubleDeals) (maxL := 1) (ret := (some .int)) (by decide) rfl (Nat.le_of_ble_eq_true rfl) ?_
  intro p e s m args below meth c ls A hx hb hr hlocks hml hown hts hl hA hK hP hD hN
  have hl : lv_has ls 1 [(0, .ref h0)] := hl
  have hS : va_S A s.heap s.heap [] := va_S.rf
  have in_X2 : ∀ w ∈ wsX20, w ∈ wsX7_doubleDeals := by decide +kernel
  have in_X7 : ∀ w ∈ wsX70, w ∈ wsX7_doubleDeals := by decide +kernel
  have fl10 := hts (.fieldLink RX7 10 "FencedBoxes" "game" "LFencedBoxes$Game;") (by decide +kernel)
  have fl198 := va_Nw.use (A := args) rfl (show va_Nw (.fieldLinkNest RX7 198 "FencedBoxes$Game" "doubles" "I" "FencedBoxes") s from hN.2 (RX7, 198, "FencedBoxes$Game", "doubles", "I", "FencedBoxes") (by decide +kernel))
  unfold f_X7_doubleDeals at hf
  obtain ⟨H, eH⟩ : ∃ H, H = s.heap := ⟨_, rfl⟩
  obtain ⟨locs, elocs⟩ : ∃ L : List Loc, L = [] := ⟨_, rfl⟩
  have hP : va_P D vwCl (wX7 cy h0 gma sna hia ka ora cha tra ena opa foa gm sn hs qs k0 k1 k2 k3 ch o tr es op fo has) H := by rw [eH]; exact hP
  have hS : va_S A s.heap H locs := by rw [eH, elocs]; exact hS
  refine k_here eH elocs ?_
  refine lv_aload_n hx hb dX7_doubleDeals_0 rfl (lv_at hl 0 rfl) ?_
  refine va_get (D := D) (ci := 4) (v := .ref gma) (C := RX7) (T := TX7) (N := 6) hx hb hts in_X7 hown hK hP 0 rfl rfl 0 (by decide) fl10 (fun _ h9 => h9) rfl dX7_doubleDeals_1 ?_
  refine va_getN (D := D) (ci := 1) (v := .int gm.2.2.2.2.2.2.2) (C := RX2) (T := TX2) (N := 8) hx hb hts in_X2 hown hK hP 1 rfl rfl 7 (by decide) fl198 (fun _ h9 => h9) rfl dX7_doubleDeals_4 ?_
  obtain rfl := k_some hf
  exact k_iret hx hb hr hP hD hS dX7_doubleDeals_7 hlocks
def f_X7_share (gm : k_G8) : Option (UInt32) :=
  (f_X3_boxesHaving gm.1 4).bind fun v1 =>
  (f_J6_bitCount_0f7a4 v1).bind fun v2 =>
  if FP.fdiv (FP.i2f v2) 1094713344 &&& 2147483647 ≤ 2139095040 then
    some (FP.fdiv (FP.i2f v2) 1094713344)
  else none
abbrev rm_X7_share : Room := { frames := 3, cells := 0, slots := 0, locals := 65 }
theorem hd_X7_share : yX7_share.cls = RX7 ∧ yX7_share.cls ≠ "java/lang/invoke/MethodHandle" ∧ yX7_share.cls ≠ "java/lang/invoke/VarHandle" ∧ (parseMethodDescriptor yX7_share.desc).map (fun d => d.parameters.length) = some 0 := by decide +kernel
set_option maxHeartbeats 4000000 in
set_option maxRecDepth 100000 in
theorem c_X7_share (l : Launch) (D : va_G) (cy : Nat → ClassId) (h0 gma sna hia ka ora cha tra ena opa foa : Nat) (gm : k_G8) (sn : k_G8) (hs : Int32) (qs : k_Q4) (k0 : k_G8) (k1 : k_G8) (k2 : k_G8) (k3 : k_G8) (ch : Nat → Int32) (o : k_O5) (tr : k_G8) (es : Int32) (op : Nat → Int32) (fo : Nat → Int32) (has : Int32)  (r : UInt32) (hf : f_X7_share gm = some r) : k_HMet l yX7_share wsX7_share rm_X7_share D (k_tys cy) [.ref h0] (wX7 cy h0 gma sna hia ka ora cha tra ena opa foa gm sn hs qs k0 k1 k2 k3 ch o tr es op fo has) (some (.float r)) (wX7 cy h0 gma sna hia ka ora cha tra ena opa foa gm sn hs qs k0 k1 k2 k3 ch o tr es op fo has) := by
  refine k_heapOf (cc := cX7_share) (maxL := 2) (ret := (some .float)) (by decide) rfl (Nat.le_of_ble_eq_true rfl) ?_
  intro p e s m args below meth c ls A hx hb hr hlocks hml hown hts hl hA hK hP hD hN
  have hl : lv_has ls 2 [(0, .ref h0)] := hl
  have hS : va_S A s.heap s.heap [] := va_S.rf
  have in_X2 : ∀ w ∈ wsX20, w ∈ wsX7_share := by decide +kernel
  have in_X7 : ∀ w ∈ wsX70, w ∈ wsX7_share := by decide +kernel
  have fl10 := hts (.fieldLink RX7 10 "FencedBoxes" "game" "LFencedBoxes$Game;") (by decide +kernel)
  have fl78 := va_Nw.use (A := args) rfl (show va_Nw (.fieldLinkNest RX7 78 "FencedBoxes$Game" "fences" "I" "FencedBoxes") s from hN.2 (RX7, 78, "FencedBoxes$Game", "fences", "I", "FencedBoxes") (by decide +kernel))
  unfold f_X7_share at hf
  obtain ⟨H, eH⟩ : ∃ H, H = s.heap := ⟨_, rfl⟩
  obtain ⟨locs, elocs⟩ : ∃ L : List Loc, L = [] := ⟨_, rfl⟩
  have hP : va_P D vwCl (wX7 cy h0 gma sna hia ka ora cha tra ena opa foa gm sn hs qs k0 k1 k2 k3 ch o tr es op fo has) H := by rw [eH]; exact hP
  have hS : va_S A s.heap H locs := by rw [eH, elocs]; exact hS
  refine k_here eH elocs ?_
  refine lv_aload_n hx hb dX7_share_0 rfl (lv_at hl 0 rfl) ?_
  refine va_get (D := D) (ci := 4) (v := .ref gma) (C := RX7) (T := TX7) (N := 6) hx hb hts in_X7 hown hK hP 0 rfl rfl 0 (by decide) fl10 (fun _ h9 => h9) rfl dX7_share_1 ?_
  refine va_getN (D := D) (ci := 1) (v := .int gm.1) (C := RX2) (T := TX2) (N := 8) hx hb hts in_X2 hown hK hP 1 rfl rfl 0 (by decide) fl78 (fun _ h9 => h9) rfl dX7_share_4 ?_
  refine lv_iconst (v := 4) hx hb dX7_share_7 (by decide) ?_
  obtain ⟨v1, hv1, hf⟩ := k_B hf
  refine k_callS (As := [.int gm.1, .int 4]) (rest := []) ⟨hx, hb, hml, hown, hts⟩ (c_X3_boxesHaving l gm.1 4 v1 hv1) (va_cwS 2 hts gX7_share_X3_boxesHaving rfl rfl rfl hd_X3_boxesHaving ⟨Nat.le_of_ble_eq_true rfl, Nat.le_of_ble_eq_true rfl⟩) rfl hl.1 rfl (Nat.le_of_ble_eq_true rfl) dX7_share_8 ⟨Nat.zero_le _, Nat.zero_le _⟩ ?_
  obtain ⟨v2, hv2, hf⟩ := k_B hf
  refine k_callS (As := [.int v1]) (rest := []) ⟨hx, hb, hml, hown, hts⟩ (c_J6_bitCount_0f7a4 l v1 v2 hv2) (va_cwS 1 hts gX7_share_J6_bitCount_0f7a4 rfl rfl rfl hd_J6_bitCount_0f7a4 ⟨Nat.le_of_ble_eq_true rfl, Nat.le_of_ble_eq_true rfl⟩) rfl hl.1 rfl (Nat.le_of_ble_eq_true rfl) dX7_share_11 ⟨Nat.zero_le _, Nat.zero_le _⟩ ?_
  refine lv_istore_n (lv' := [(1, .int v2), (0, .ref h0)]) hx hb dX7_share_14 rfl hl (by decide) rfl (fun ls hl => ?_)
  refine lv_iload_n hx hb dX7_share_15 rfl (lv_at hl 0 rfl) ?_
  refine lv_i2f hx hb dX7_share_16 ?_
  refine lv_ldcf (v := 1094713344) hx hb hown (hts (.constantFloat RX7 201 1094713344) (by decide +kernel)) dX7_share_17 ?_
  obtain ⟨g3, hf⟩ := k_GT hf
  refine lv_fdiv hx hb dX7_share_19 g3 ?_
  obtain rfl := k_some hf
  exact k_fret hx hb hr hP hD hS dX7_share_20 hlocks
def f_X7_draw (n1 : Int32) (gm : k_G8) (hs : Int32) (qs : k_Q4) (k0 : k_G8) (k1 : k_G8) (k2 : k_G8) (k3 : k_G8) : Option ((Int32 × k_G8 × Int32 × k_Q4 × k_G8 × k_G8 × k_G8 × k_G8) ⊕ (String × k_G8 × Int32 × k_Q4 × k_G8 × k_G8 × k_G8 × k_G8)) :=
  (f_X7_isFence n1).bind fun v1 =>
  if v1 = 0 then
    some (.inr ("java/lang/IllegalArgumentException", gm, hs, qs, k0, k1, k2, k3))
  else
    (f_X2_refusal n1 gm).bind fun v3 =>
    if v3 = 0 then
      (f_X4_record hs qs k0 k1 k2 k3 gm).bind fun v5 =>
      (f_X2_put n1 gm).bind fun v6 =>
      some (.inl (v6.1, v6.2, v5.1, v5.2.1, v5.2.2.1, v5.2.2.2.1, v5.2.2.2.2.1, v5.2.2.2.2.2))
    else
      some (.inr ("java/lang/IllegalStateException", gm, hs, qs, k0, k1, k2, k3))
abbrev rm_X7_draw : Room := { frames := 6, cells := 1, slots := 6, locals := 90 }
theorem hd_X7_draw : yX7_draw.cls = RX7 ∧ yX7_draw.cls ≠ "java/lang/invoke/MethodHandle" ∧ yX7_draw.cls ≠ "java/lang/invoke/VarHandle" ∧ (parseMethodDescriptor yX7_draw.desc).map (fun d => d.parameters.length) = some 1 := by decide +kernel
set_option maxHeartbeats 4000000 in
set_option maxRecDepth 100000 in
theorem c_X7_draw (l : Launch) (hl9 : l.stackTraces = false) (D : va_G) (cy : Nat → ClassId) (h0 gma sna hia ka ora cha tra ena opa foa : Nat) (gm : k_G8) (sn : k_G8) (hs : Int32) (qs : k_Q4) (k0 : k_G8) (k1 : k_G8) (k2 : k_G8) (k3 : k_G8) (ch : Nat → Int32) (o : k_O5) (tr : k_G8) (es : Int32) (op : Nat → Int32) (fo : Nat → Int32) (has : Int32) (n1 : Int32) (r : (Int32 × k_G8 × Int32 × k_Q4 × k_G8 × k_G8 × k_G8 × k_G8) ⊕ (String × k_G8 × Int32 × k_Q4 × k_G8 × k_G8 × k_G8 × k_G8)) (hf : f_X7_draw n1 gm hs qs k0 k1 k2 k3 = some r) : k_XMet l yX7_draw wsX7_draw rm_X7_draw D (k_tys cy) [.ref h0, .int n1] (wX7 cy h0 gma sna hia ka ora cha tra ena opa foa gm sn hs qs k0 k1 k2 k3 ch o tr es op fo has) (Sum.map (fun q : Int32 × k_G8 × Int32 × k_Q4 × k_G8 × k_G8 × k_G8 × k_G8 => ((some (.int q.1), (wX7 cy h0 gma sna hia ka ora cha tra ena opa foa q.2.1 sn q.2.2.1 q.2.2.2.1 q.2.2.2.2.1 q.2.2.2.2.2.1 q.2.2.2.2.2.2.1 q.2.2.2.2.2.2.2 ch o tr es op fo has)) : Option Value × va_W)) (fun q : String × k_G8 × Int32 × k_Q4 × k_G8 × k_G8 × k_G8 × k_G8 => ((q.1, (wX7 cy h0 gma sna hia ka ora cha tra ena opa foa q.2.1 sn q.2.2.1 q.2.2.2.1 q.2.2.2.2.1 q.2.2.2.2.2.1 q.2.2.2.2.2.2.1 q.2.2.2.2.2.2.2 ch o tr es op fo has)) : String × va_W)) r) := by
  refine k_throwOf (cc := cX7_draw) (maxL := 2) (ret := (some .int)) (by decide) rfl (Nat.le_of_ble_eq_true rfl) ?_
  intro p e s m args below meth c ls A hx hb hr hlocks hml hown hts hl hA hK hP hD hN hT hZ hEx
  have hl : lv_has ls 2 [(0, .ref h0), (1, .int n1)] := hl
  have hS : va_S A s.heap s.heap [] := va_S.rf
  have in_X7 : ∀ w ∈ wsX70, w ∈ wsX7_draw := by decide +kernel
  have fl10 := hts (.fieldLink RX7 10 "FencedBoxes" "game" "LFencedBoxes$Game;") (by decide +kernel)
  have fl22 := hts (.fieldLink RX7 22 "FencedBoxes" "history" "LFencedBoxes$History;") (by decide +kernel)
  have hat_IA : ∀ w ∈ vx_atS RX7 52 "java/lang/IllegalArgumentException" ["java/lang/RuntimeException", "java/lang/Exception"], w.before args s = true := k_hat (E := "") (fun w hw => hts w ((by decide +kernel : ∀ w ∈ (vx_atS RX7 52 "java/lang/IllegalArgumentException" ["java/lang/RuntimeException", "java/lang/Exception"]).filter goodWord, w ∈ wsX7_draw) w hw)) h2_IA hT
  have hat_IS : ∀ w ∈ vx_atS RX7 63 "java/lang/IllegalStateException" ["java/lang/RuntimeException", "java/lang/Exception"], w.before args s = true := k_hat (E := "") (fun w hw => hts w ((by decide +kernel : ∀ w ∈ (vx_atS RX7 63 "java/lang/IllegalStateException" ["java/lang/RuntimeException", "java/lang/Exception"]).filter goodWord, w ∈ wsX7_draw) w hw)) h2_IS hT
  unfold f_X7_draw at hf
  obtain ⟨H, eH⟩ : ∃ H, H = s.heap := ⟨_, rfl⟩
  obtain ⟨locs, elocs⟩ : ∃ L : List Loc, L = [] := ⟨_, rfl⟩
  have hP : va_P D vwCl (wX7 cy h0 gma sna hia ka ora cha tra ena opa foa gm sn hs qs k0 k1 k2 k3 ch o tr es op fo has) H := by rw [eH]; exact hP
  have hS : va_S A s.heap H locs := by rw [eH, elocs]; exact hS
  refine k_here eH elocs ?_
  refine lv_iload_n hx hb dX7_draw_0 rfl (lv_at hl 1 rfl) ?_
  obtain ⟨v1, hv1, hf⟩ := k_B hf
  refine k_callS (As := [.int n1]) (rest := []) ⟨hx, hb, hml, hown, hts⟩ (c_X7_isFence l n1 v1 hv1) (va_cwS 1 hts gX7_draw_X7_isFence rfl rfl rfl hd_X7_isFence ⟨Nat.le_of_ble_eq_true rfl, Nat.le_of_ble_eq_true rfl⟩) rfl hl.1 rfl (Nat.le_of_ble_eq_true rfl) dX7_draw_1 ⟨Nat.zero_le _, Nat.zero_le _⟩ ?_
  refine lv_if_ne (tgt := 17) hx hb dX7_draw_4 (by decide) (fun c2 => ?_) (fun c2 => ?_)
  · have hf := k_F c2 hf
    refine lv_aload_n hx hb dX7_draw_17 rfl (lv_at hl 0 rfl) ?_
    refine va_get (D := D) (ci := 4) (v := .ref gma) (C := RX7) (T := TX7) (N := 6) hx hb hts in_X7 hown hK hP 0 rfl rfl 0 (by decide) fl10 (fun _ h9 => h9) rfl dX7_draw_18 ?_
    refine lv_iload_n hx hb dX7_draw_21 rfl (lv_at hl 1 rfl) ?_
    obtain ⟨v3, hv3, hf⟩ := k_B hf
    refine k_callHV (As := [.int n1]) (rest := []) (r := (RX2, TX2, 8)) (ci := 1) (q0 := 1) (isC := [1]) (isR := [0, 2, 3, 4, 5, 6, 7, 8, 9, 10, 11, 12, 13, 14]) (perm := [0, 14, 1, 2, 3, 4, 5, 6, 7, 8, 9, 10, 11, 12, 13]) (w' := (wX7 cy h0 gma sna hia ka ora cha tra ena opa foa gm sn hs qs k0 k1 k2 k3 ch o tr es op fo has)) ⟨hx, hb, hml, hown, hts⟩ (c_X2_refusal l D cy gma gm n1 v3 hv3) (cwV 1 hts gX7_draw_X2_refusal rfl rfl rfl hd_X2_refusal ⟨Nat.le_of_ble_eq_true rfl, Nat.le_of_ble_eq_true rfl⟩) hK hN hP hD hS hA rfl rfl rfl rfl rfl rfl (by decide) rfl rfl rfl hl.1 rfl (Nat.le_of_ble_eq_true rfl) dX7_draw_22 ⟨Nat.zero_le _, Nat.zero_le _⟩ (fun H locs hP hD hS => ?_)
    refine lv_if_eq (tgt := 38) hx hb dX7_draw_25 (by decide) (fun c4 => ?_) (fun c4 => ?_)
    · have hf := k_T c4 hf
      refine lv_aload_n hx hb dX7_draw_38 rfl (lv_at hl 0 rfl) ?_
      refine va_get (D := D) (ci := 4) (v := .ref hia) (C := RX7) (T := TX7) (N := 6) hx hb hts in_X7 hown hK hP 0 rfl rfl 2 (by decide) fl22 (fun _ h9 => h9) rfl dX7_draw_39 ?_
      refine lv_aload_n hx hb dX7_draw_42 rfl (lv_at hl 0 rfl) ?_
      refine va_get (D := D) (ci := 4) (v := .ref gma) (C := RX7) (T := TX7) (N := 6) hx hb hts in_X7 hown hK hP 0 rfl rfl 0 (by decide) fl10 (fun _ h9 => h9) rfl dX7_draw_43 ?_
      obtain ⟨v5, hv5, hf⟩ := k_B hf
      refine k_callHV (As := [.ref gma]) (rest := []) (r := (RX4, TX4, 2)) (ci := 2) (q0 := 3) (isC := [3, 4, 5, 6, 7, 8, 1]) (isR := [0, 2, 9, 10, 11, 12, 13, 14]) (perm := [0, 14, 1, 8, 9, 10, 11, 12, 13, 2, 3, 4, 5, 6, 7]) (w' := (wX7 cy h0 gma sna hia ka ora cha tra ena opa foa gm sn v5.1 v5.2.1 v5.2.2.1 v5.2.2.2.1 v5.2.2.2.2.1 v5.2.2.2.2.2 ch o tr es op fo has)) ⟨hx, hb, hml, hown, hts⟩ (c_X4_record l D cy hia ka gma hs qs k0 k1 k2 k3 gm  v5 hv5) (cwV 1 hts gX7_draw_X4_record rfl rfl rfl hd_X4_record ⟨Nat.le_of_ble_eq_true rfl, Nat.le_of_ble_eq_true rfl⟩) hK hN hP hD hS hA rfl rfl rfl rfl rfl rfl (by decide) rfl rfl rfl hl.1 rfl (Nat.le_of_ble_eq_true rfl) dX7_draw_46 ⟨Nat.zero_le _, Nat.zero_le _⟩ (fun H locs hP hD hS => ?_)
      refine lv_aload_n hx hb dX7_draw_49 rfl (lv_at hl 0 rfl) ?_
      refine va_get (D := D) (ci := 4) (v := .ref gma) (C := RX7) (T := TX7) (N := 6) hx hb hts in_X7 hown hK hP 0 rfl rfl 0 (by decide) fl10 (fun _ h9 => h9) rfl dX7_draw_50 ?_
      refine lv_iload_n hx hb dX7_draw_53 rfl (lv_at hl 1 rfl) ?_
      obtain ⟨v6, hv6, hf⟩ := k_B hf
      refine k_callHV (As := [.int n1]) (rest := []) (r := (RX2, TX2, 8)) (ci := 1) (q0 := 1) (isC := [1]) (isR := [0, 2, 3, 4, 5, 6, 7, 8, 9, 10, 11, 12, 13, 14]) (perm := [0, 14, 1, 2, 3, 4, 5, 6, 7, 8, 9, 10, 11, 12, 13]) (w' := (wX7 cy h0 gma sna hia ka ora cha tra ena opa foa v6.2 sn v5.1 v5.2.1 v5.2.2.1 v5.2.2.2.1 v5.2.2.2.2.1 v5.2.2.2.2.2 ch o tr es op fo has)) ⟨hx, hb, hml, hown, hts⟩ (c_X2_put l D cy gma gm n1 v6 hv6) (cwV 1 hts gX7_draw_X2_put rfl rfl rfl hd_X2_put ⟨Nat.le_of_ble_eq_true rfl, Nat.le_of_ble_eq_true rfl⟩) hK hN hP hD hS hA rfl rfl rfl rfl rfl rfl (by decide) rfl rfl rfl hl.1 rfl (Nat.le_of_ble_eq_true rfl) dX7_draw_54 ⟨Nat.zero_le _, Nat.zero_le _⟩ (fun H locs hP hD hS => ?_)
      obtain rfl := k_some hf
      exact k_xiret hx hb hr hP hD hS dX7_draw_57 hlocks
    · have hf := k_F c4 hf
      obtain rfl := k_some hf
      obtain ⟨sa, hstr⟩ := hT.2.2 (61, "the game is over or the fence is drawn") (by decide +kernel)
      exact vx_throwS (own := RX7) (cls := "java/lang/IllegalStateException") (names := ["java/lang/RuntimeException", "java/lang/Exception"]) hx hb hl9 hown (by decide +kernel) (by decide +kernel) (hts (.classLink RX7 59 "java/lang/IllegalStateException") (by decide +kernel)) (hts (.initialized "java/lang/IllegalStateException") (by decide +kernel)) hstr hat_IS h3_IS hZ.1 hZ.2 hS (hl.1.trans hml.symm) dX7_draw_28 dX7_draw_31 dX7_draw_32 dX7_draw_34 dX7_draw_37 (fun x hx => (hEx x hx).elim) (Nat.le_of_ble_eq_true rfl) (Nat.le_of_ble_eq_true rfl) (Nat.le_of_ble_eq_true rfl) (Nat.le_of_ble_eq_true rfl) hlocks (k_thrown hP hD hS) hS.2.2 (Nat.le_of_ble_eq_true rfl) (Nat.le_of_ble_eq_true rfl)
  · have hf := k_T c2 hf
    obtain rfl := k_some hf
    obtain ⟨sa, hstr⟩ := hT.2.2 (50, "there is no such fence") (by decide +kernel)
    exact vx_throwS (own := RX7) (cls := "java/lang/IllegalArgumentException") (names := ["java/lang/RuntimeException", "java/lang/Exception"]) hx hb hl9 hown (by decide +kernel) (by decide +kernel) (hts (.classLink RX7 48 "java/lang/IllegalArgumentException") (by decide +kernel)) (hts (.initialized "java/lang/IllegalArgumentException") (by decide +kernel)) hstr hat_IA h3_IA hZ.1 hZ.2 hS (hl.1.trans hml.symm) dX7_draw_7 dX7_draw_10 dX7_draw_11 dX7_draw_13 dX7_draw_16 (fun x hx => (hEx x hx).elim) (Nat.le_of_ble_eq_true rfl) (Nat.le_of_ble_eq_true rfl) (Nat.le_of_ble_eq_true rfl) (Nat.le_of_ble_eq_true rfl) hlocks (k_thrown hP hD hS) hS.2.2 (Nat.le_of_ble_eq_true rfl) (Nat.le_of_ble_eq_true rfl)
def f_X7_isDrawn (n1 : Int32) (gm : k_G8) : Option ((Int32) ⊕ (String)) :=
  (f_X7_isFence n1).bind fun v1 =>
  if v1 = 0 then
    some (.inr ("java/lang/IllegalArgumentException"))
  else
    (f_X3_has gm.1 n1).bind fun v3 =>
    if v3 = 0 ∨ v3 = 1 then some (.inl v3) else none
abbrev rm_X7_isDrawn : Room := { frames := 6, cells := 1, slots := 6, locals := 90 }
theorem hd_X7_isDrawn : yX7_isDrawn.cls = RX7 ∧ yX7_isDrawn.cls ≠ "java/lang/invoke/MethodHandle" ∧ yX7_isDrawn.cls ≠ "java/lang/invoke/VarHandle" ∧ (parseMethodDescriptor yX7_isDrawn.desc).map (fun d => d.parameters.length) = some 1 := by decide +kernel
set_option maxHeartbeats 4000000 in
set_option maxRecDepth 100000 in
theorem c_X7_isDrawn (l : Launch) (hl9 : l.stackTraces = false) (D : va_G) (cy : Nat → ClassId) (h0 gma sna hia ka ora cha tra ena opa foa : Nat) (gm : k_G8) (sn : k_G8) (hs : Int32) (qs : k_Q4) (k0 : k_G8) (k1 : k_G8) (k2 : k_G8) (k3 : k_G8) (ch : Nat → Int32) (o : k_O5) (tr : k_G8) (es : Int32) (op : Nat → Int32) (fo : Nat → Int32) (has : Int32) (n1 : Int32) (r : (Int32) ⊕ (String)) (hf : f_X7_isDrawn n1 gm = some r) : k_XMet l yX7_isDrawn wsX7_isDrawn rm_X7_isDrawn D (k_tys cy) [.ref h0, .int n1] (wX7 cy h0 gma sna hia ka ora cha tra ena opa foa gm sn hs qs k0 k1 k2 k3 ch o tr es op fo has) (Sum.map (fun q : Int32 => ((some (.int q), (wX7 cy h0 gma sna hia ka ora cha tra ena opa foa gm sn hs qs k0 k1 k2 k3 ch o tr es op fo has)) : Option Value × va_W)) (fun q : String => ((q, (wX7 cy h0 gma sna hia ka ora cha tra ena opa foa gm sn hs qs k0 k1 k2 k3 ch o tr es op fo has)) : String × va_W)) r) := by
  refine k_throwOf (cc := cX7_isDrawn) (maxL := 2) (ret := (some .boolean)) (by decide) rfl (Nat.le_of_ble_eq_true rfl) ?_
  intro p e s m args below meth c ls A hx hb hr hlocks hml hown hts hl hA hK hP hD hN hT hZ hEx
  have hl : lv_has ls 2 [(0, .ref h0), (1, .int n1)] := hl
  have hS : va_S A s.heap s.heap [] := va_S.rf
  have in_X2 : ∀ w ∈ wsX20, w ∈ wsX7_isDrawn := by decide +kernel
  have in_X7 : ∀ w ∈ wsX70, w ∈ wsX7_isDrawn := by decide +kernel
  have fl10 := hts (.fieldLink RX7 10 "FencedBoxes" "game" "LFencedBoxes$Game;") (by decide +kernel)
  have fl78 := va_Nw.use (A := args) rfl (show va_Nw (.fieldLinkNest RX7 78 "FencedBoxes$Game" "fences" "I" "FencedBoxes") s from hN.2 (RX7, 78, "FencedBoxes$Game", "fences", "I", "FencedBoxes") (by decide +kernel))
  have hat_IA : ∀ w ∈ vx_atS RX7 52 "java/lang/IllegalArgumentException" ["java/lang/RuntimeException", "java/lang/Exception"], w.before args s = true := k_hat (E := "") (fun w hw => hts w ((by decide +kernel : ∀ w ∈ (vx_atS RX7 52 "java/lang/IllegalArgumentException" ["java/lang/RuntimeException", "java/lang/Exception"]).filter goodWord, w ∈ wsX7_isDrawn) w hw)) h2_IA hT
  unfold f_X7_isDrawn at hf
  obtain ⟨H, eH⟩ : ∃ H, H = s.heap := ⟨_, rfl⟩
  obtain ⟨locs, elocs⟩ : ∃ L : List Loc, L = [] := ⟨_, rfl⟩
  have hP : va_P D vwCl (wX7 cy h0 gma sna hia ka ora cha tra ena opa foa gm sn hs qs k0 k1 k2 k3 ch o tr es op fo has) H := by rw [eH]; exact hP
  have hS : va_S A s.heap H locs := by rw [eH, elocs]; exact hS
  refine k_here eH elocs ?_
  refine lv_iload_n hx hb dX7_isDrawn_0 rfl (lv_at hl 1 rfl) ?_
  obtain ⟨v1, hv1, hf⟩ := k_B hf
  refine k_callS (As := [.int n1]) (rest := []) ⟨hx, hb, hml, hown, hts⟩ (c_X7_isFence l n1 v1 hv1) (va_cwS 1 hts gX7_isDrawn_X7_isFence rfl rfl rfl hd_X7_isFence ⟨Nat.le_of_ble_eq_true rfl, Nat.le_of_ble_eq_true rfl⟩) rfl hl.1 rfl (Nat.le_of_ble_eq_true rfl) dX7_isDrawn_1 ⟨Nat.zero_le _, Nat.zero_le _⟩ ?_
  refine lv_if_ne (tgt := 17) hx hb dX7_isDrawn_4 (by decide) (fun c2 => ?_) (fun c2 => ?_)
  · have hf := k_F c2 hf
    refine lv_aload_n hx hb dX7_isDrawn_17 rfl (lv_at hl 0 rfl) ?_
    refine va_get (D := D) (ci := 4) (v := .ref gma) (C := RX7) (T := TX7) (N := 6) hx hb hts in_X7 hown hK hP 0 rfl rfl 0 (by decide) fl10 (fun _ h9 => h9) rfl dX7_isDrawn_18 ?_
    refine va_getN (D := D) (ci := 1) (v := .int gm.1) (C := RX2) (T := TX2) (N := 8) hx hb hts in_X2 hown hK hP 1 rfl rfl 0 (by decide) fl78 (fun _ h9 => h9) rfl dX7_isDrawn_21 ?_
    refine lv_iload_n hx hb dX7_isDrawn_24 rfl (lv_at hl 1 rfl) ?_
    obtain ⟨v3, hv3, hf⟩ := k_B hf
    refine k_callS (As := [.int gm.1, .int n1]) (rest := []) ⟨hx, hb, hml, hown, hts⟩ (c_X3_has l gm.1 n1 v3 hv3) (va_cwS 2 hts gX7_isDrawn_X3_has rfl rfl rfl hd_X3_has ⟨Nat.le_of_ble_eq_true rfl, Nat.le_of_ble_eq_true rfl⟩) rfl hl.1 rfl (Nat.le_of_ble_eq_true rfl) dX7_isDrawn_25 ⟨Nat.zero_le _, Nat.zero_le _⟩ ?_
    obtain ⟨rfl, hn⟩ := k_boolR hf
    exact k_xzret hx hb hr hn hP hD hS dX7_isDrawn_28 hlocks
  · have hf := k_T c2 hf
    obtain rfl := k_some hf
    obtain ⟨sa, hstr⟩ := hT.2.2 (50, "there is no such fence") (by decide +kernel)
    exact vx_throwS (own := RX7) (cls := "java/lang/IllegalArgumentException") (names := ["java/lang/RuntimeException", "java/lang/Exception"]) hx hb hl9 hown (by decide +kernel) (by decide +kernel) (hts (.classLink RX7 48 "java/lang/IllegalArgumentException") (by decide +kernel)) (hts (.initialized "java/lang/IllegalArgumentException") (by decide +kernel)) hstr hat_IA h3_IA hZ.1 hZ.2 hS (hl.1.trans hml.symm) dX7_isDrawn_7 dX7_isDrawn_10 dX7_isDrawn_11 dX7_isDrawn_13 dX7_isDrawn_16 (fun x hx => (hEx x hx).elim) (Nat.le_of_ble_eq_true rfl) (Nat.le_of_ble_eq_true rfl) (Nat.le_of_ble_eq_true rfl) (Nat.le_of_ble_eq_true rfl) hlocks (k_thrown hP hD hS) hS.2.2 (Nat.le_of_ble_eq_true rfl) (Nat.le_of_ble_eq_true rfl)
def f_X7_fencesOf (n1 : Int32) (gm : k_G8) : Option ((Int32) ⊕ (String)) :=
  (f_X7_isBox n1).bind fun v1 =>
  if v1 = 0 then
    some (.inr ("java/lang/IllegalArgumentException"))
  else
    (f_X3_countSides gm.1 n1).bind fun v3 =>
    some (.inl v3)
abbrev rm_X7_fencesOf : Room := { frames := 6, cells := 1, slots := 6, locals := 90 }
theorem hd_X7_fencesOf : yX7_fencesOf.cls = RX7 ∧ yX7_fencesOf.cls ≠ "java/lang/invoke/MethodHandle" ∧ yX7_fencesOf.cls ≠ "java/lang/invoke/VarHandle" ∧ (parseMethodDescriptor yX7_fencesOf.desc).map (fun d => d.parameters.length) = some 1 := by decide +kernel
set_option maxHeartbeats 4000000 in
set_option maxRecDepth 100000 in
theorem c_X7_fencesOf (l : Launch) (hl9 : l.stackTraces = false) (D : va_G) (cy : Nat → ClassId) (h0 gma sna hia ka ora cha tra ena opa foa : Nat) (gm : k_G8) (sn : k_G8) (hs : Int32) (qs : k_Q4) (k0 : k_G8) (k1 : k_G8) (k2 : k_G8) (k3 : k_G8) (ch : Nat → Int32) (o : k_O5) (tr : k_G8) (es : Int32) (op : Nat → Int32) (fo : Nat → Int32) (has : Int32) (n1 : Int32) (r : (Int32) ⊕ (String)) (hf : f_X7_fencesOf n1 gm = some r) : k_XMet l yX7_fencesOf wsX7_fencesOf rm_X7_fencesOf D (k_tys cy) [.ref h0, .int n1] (wX7 cy h0 gma sna hia ka ora cha tra ena opa foa gm sn hs qs k0 k1 k2 k3 ch o tr es op fo has) (Sum.map (fun q : Int32 => ((some (.int q), (wX7 cy h0 gma sna hia ka ora cha tra ena opa foa gm sn hs qs k0 k1 k2 k3 ch o tr es op fo has)) : Option Value × va_W)) (fun q : String => ((q, (wX7 cy h0 gma sna hia ka ora cha tra ena opa foa gm sn hs qs k0 k1 k2 k3 ch o tr es op fo has)) : String × va_W)) r) := by
  refine k_throwOf (cc := cX7_fencesOf) (maxL := 2) (ret := (some .int)) (by decide) rfl (Nat.le_of_ble_eq_true rfl) ?_
  intro p e s m args below meth c ls A hx hb hr hlocks hml hown hts hl hA hK hP hD hN hT hZ hEx
  have hl : lv_has ls 2 [(0, .ref h0), (1, .int n1)] := hl
  have hS : va_S A s.heap s.heap [] := va_S.rf
  have in_X2 : ∀ w ∈ wsX20, w ∈ wsX7_fencesOf := by decide +kernel
  have in_X7 : ∀ w ∈ wsX70, w ∈ wsX7_fencesOf := by decide +kernel
  have fl10 := hts (.fieldLink RX7 10 "FencedBoxes" "game" "LFencedBoxes$Game;") (by decide +kernel)
  have fl78 := va_Nw.use (A := args) rfl (show va_Nw (.fieldLinkNest RX7 78 "FencedBoxes$Game" "fences" "I" "FencedBoxes") s from hN.2 (RX7, 78, "FencedBoxes$Game", "fences", "I", "FencedBoxes") (by decide +kernel))
  have hat_IA : ∀ w ∈ vx_atS RX7 52 "java/lang/IllegalArgumentException" ["java/lang/RuntimeException", "java/lang/Exception"], w.before args s = true := k_hat (E := "") (fun w hw => hts w ((by decide +kernel : ∀ w ∈ (vx_atS RX7 52 "java/lang/IllegalArgumentException" ["java/lang/RuntimeException", "java/lang/Exception"]).filter goodWord, w ∈ wsX7_fencesOf) w hw)) h2_IA hT
  unfold f_X7_fencesOf at hf
  obtain ⟨H, eH⟩ : ∃ H, H = s.heap := ⟨_, rfl⟩
  obtain ⟨locs, elocs⟩ : ∃ L : List Loc, L = [] := ⟨_, rfl⟩
  have hP : va_P D vwCl (wX7 cy h0 gma sna hia ka ora cha tra ena opa foa gm sn hs qs k0 k1 k2 k3 ch o tr es op fo has) H := by rw [eH]; exact hP
  have hS : va_S A s.heap H locs := by rw [eH, elocs]; exact hS
  refine k_here eH elocs ?_
  refine lv_iload_n hx hb dX7_fencesOf_0 rfl (lv_at hl 1 rfl) ?_
  obtain ⟨v1, hv1, hf⟩ := k_B hf
  refine k_callS (As := [.int n1]) (rest := []) ⟨hx, hb, hml, hown, hts⟩ (c_X7_isBox l n1 v1 hv1) (va_cwS 1 hts gX7_fencesOf_X7_isBox rfl rfl rfl hd_X7_isBox ⟨Nat.le_of_ble_eq_true rfl, Nat.le_of_ble_eq_true rfl⟩) rfl hl.1 rfl (Nat.le_of_ble_eq_true rfl) dX7_fencesOf_1 ⟨Nat.zero_le _, Nat.zero_le _⟩ ?_
  refine lv_if_ne (tgt := 17) hx hb dX7_fencesOf_4 (by decide) (fun c2 => ?_) (fun c2 => ?_)
  · have hf := k_F c2 hf
    refine lv_aload_n hx hb dX7_fencesOf_17 rfl (lv_at hl 0 rfl) ?_
    refine va_get (D := D) (ci := 4) (v := .ref gma) (C := RX7) (T := TX7) (N := 6) hx hb hts in_X7 hown hK hP 0 rfl rfl 0 (by decide) fl10 (fun _ h9 => h9) rfl dX7_fencesOf_18 ?_
    refine va_getN (D := D) (ci := 1) (v := .int gm.1) (C := RX2) (T := TX2) (N := 8) hx hb hts in_X2 hown hK hP 1 rfl rfl 0 (by decide) fl78 (fun _ h9 => h9) rfl dX7_fencesOf_21 ?_
    refine lv_iload_n hx hb dX7_fencesOf_24 rfl (lv_at hl 1 rfl) ?_
    obtain ⟨v3, hv3, hf⟩ := k_B hf
    refine k_callS (As := [.int gm.1, .int n1]) (rest := []) ⟨hx, hb, hml, hown, hts⟩ (c_X3_countSides l gm.1 n1 v3 hv3) (va_cwS 2 hts gX7_fencesOf_X3_countSides rfl rfl rfl hd_X3_countSides ⟨Nat.le_of_ble_eq_true rfl, Nat.le_of_ble_eq_true rfl⟩) rfl hl.1 rfl (Nat.le_of_ble_eq_true rfl) dX7_fencesOf_25 ⟨Nat.zero_le _, Nat.zero_le _⟩ ?_
    obtain rfl := k_some hf
    exact k_xiret hx hb hr hP hD hS dX7_fencesOf_28 hlocks
  · have hf := k_T c2 hf
    obtain rfl := k_some hf
    obtain ⟨sa, hstr⟩ := hT.2.2 (91, "there is no such box") (by decide +kernel)
    exact vx_throwS (own := RX7) (cls := "java/lang/IllegalArgumentException") (names := ["java/lang/RuntimeException", "java/lang/Exception"]) hx hb hl9 hown (by decide +kernel) (by decide +kernel) (hts (.classLink RX7 48 "java/lang/IllegalArgumentException") (by decide +kernel)) (hts (.initialized "java/lang/IllegalArgumentException") (by decide +kernel)) hstr hat_IA h3_IA hZ.1 hZ.2 hS (hl.1.trans hml.symm) dX7_fencesOf_7 dX7_fencesOf_10 dX7_fencesOf_11 dX7_fencesOf_13 dX7_fencesOf_16 (fun x hx => (hEx x hx).elim) (Nat.le_of_ble_eq_true rfl) (Nat.le_of_ble_eq_true rfl) (Nat.le_of_ble_eq_true rfl) (Nat.le_of_ble_eq_true rfl) hlocks (k_thrown hP hD hS) hS.2.2 (Nat.le_of_ble_eq_true rfl) (Nat.le_of_ble_eq_true rfl)
def f_X7_ownerOf (n1 : Int32) (gm : k_G8) : Option ((Int32) ⊕ (String)) :=
  (f_X7_isBox n1).bind fun v1 =>
  if v1 = 0 then
    some (.inr ("java/lang/IllegalArgumentException"))
  else
    (f_X3_countSides gm.1 n1).bind fun v3 =>
    if 4 ≤ v3 then
      (f_X2_closedBy 0 gm).bind fun v5 =>
      (f_X3_has v5 n1).bind fun v6 =>
      if v6 = 0 then
        some (.inl 1)
      else
        some (.inl 0)
    else
      some (.inr ("java/util/NoSuchElementException"))
abbrev rm_X7_ownerOf : Room := { frames := 6, cells := 1, slots := 6, locals := 90 }
theorem hd_X7_ownerOf : yX7_ownerOf.cls = RX7 ∧ yX7_ownerOf.cls ≠ "java/lang/invoke/MethodHandle" ∧ yX7_ownerOf.cls ≠ "java/lang/invoke/VarHandle" ∧ (parseMethodDescriptor yX7_ownerOf.desc).map (fun d => d.parameters.length) = some 1 := by decide +kernel
set_option maxHeartbeats 4000000 in
set_option maxRecDepth 100000 in
theorem c_X7_ownerOf (l : Launch) (hl9 : l.stackTraces = false) (D : va_G) (cy : Nat → ClassId) (h0 gma sna hia ka ora cha tra ena opa foa : Nat) (gm : k_G8) (sn : k_G8) (hs : Int32) (qs : k_Q4) (k0 : k_G8) (k1 : k_G8) (k2 : k_G8) (k3 : k_G8) (ch : Nat → Int32) (o : k_O5) (tr : k_G8) (es : Int32) (op : Nat → Int32) (fo : Nat → Int32) (has : Int32) (n1 : Int32) (r : (Int32) ⊕ (String)) (hf : f_X7_ownerOf n1 gm = some r) : k_XMet l yX7_ownerOf wsX7_ownerOf rm_X7_ownerOf D (k_tys cy) [.ref h0, .int n1] (wX7 cy h0 gma sna hia ka ora cha tra ena opa foa gm sn hs qs k0 k1 k2 k3 ch o tr es op fo has) (Sum.map (fun q : Int32 => ((some (.int q), (wX7 cy h0 gma sna hia ka ora cha tra ena opa foa gm sn hs qs k0 k1 k2 k3 ch o tr es op fo has)) : Option Value × va_W)) (fun q : String => ((q, (wX7 cy h0 gma sna hia ka ora cha tra ena opa foa gm sn hs qs k0 k1 k2 k3 ch o tr es op fo has)) : String × va_W)) r) := by
  refine k_throwOf (cc := cX7_ownerOf) (maxL := 2) (ret := (some .int)) (by decide) rfl (Nat.le_of_ble_eq_true rfl) ?_
  intro p e s m args below meth c ls A hx hb hr hlocks hml hown hts hl hA hK hP hD hN hT hZ hEx
  have hl : lv_has ls 2 [(0, .ref h0), (1, .int n1)] := hl
  have hS : va_S A s.heap s.heap [] := va_S.rf
  have in_X2 : ∀ w ∈ wsX20, w ∈ wsX7_ownerOf := by decide +kernel
  have in_X7 : ∀ w ∈ wsX70, w ∈ wsX7_ownerOf := by decide +kernel
  have fl10 := hts (.fieldLink RX7 10 "FencedBoxes" "game" "LFencedBoxes$Game;") (by decide +kernel)
  have fl78 := va_Nw.use (A := args) rfl (show va_Nw (.fieldLinkNest RX7 78 "FencedBoxes$Game" "fences" "I" "FencedBoxes") s from hN.2 (RX7, 78, "FencedBoxes$Game", "fences", "I", "FencedBoxes") (by decide +kernel))
  have hat_IA : ∀ w ∈ vx_atS RX7 52 "java/lang/IllegalArgumentException" ["java/lang/RuntimeException", "java/lang/Exception"], w.before args s = true := k_hat (E := "") (fun w hw => hts w ((by decide +kernel : ∀ w ∈ (vx_atS RX7 52 "java/lang/IllegalArgumentException" ["java/lang/RuntimeException", "java/lang/Exception"]).filter goodWord, w ∈ wsX7_ownerOf) w hw)) h2_IA hT
  have hat_NS : ∀ w ∈ k_atN, w.before args s = true := k_hat (E := "") (fun w hw => hts w ((by decide +kernel : ∀ w ∈ (k_atN).filter goodWord, w ∈ wsX7_ownerOf) w hw)) h2_NS hT
  unfold f_X7_ownerOf at hf
  obtain ⟨H, eH⟩ : ∃ H, H = s.heap := ⟨_, rfl⟩
  obtain ⟨locs, elocs⟩ : ∃ L : List Loc, L = [] := ⟨_, rfl⟩
  have hP : va_P D vwCl (wX7 cy h0 gma sna hia ka ora cha tra ena opa foa gm sn hs qs k0 k1 k2 k3 ch o tr es op fo has) H := by rw [eH]; exact hP
  have hS : va_S A s.heap H locs := by rw [eH, elocs]; exact hS
  refine k_here eH elocs ?_
  refine lv_iload_n hx hb dX7_ownerOf_0 rfl (lv_at hl 1 rfl) ?_
  obtain ⟨v1, hv1, hf⟩ := k_B hf
  refine k_callS (As := [.int n1]) (rest := []) ⟨hx, hb, hml, hown, hts⟩ (c_X7_isBox l n1 v1 hv1) (va_cwS 1 hts gX7_ownerOf_X7_isBox rfl rfl rfl hd_X7_isBox ⟨Nat.le_of_ble_eq_true rfl, Nat.le_of_ble_eq_true rfl⟩) rfl hl.1 rfl (Nat.le_of_ble_eq_true rfl) dX7_ownerOf_1 ⟨Nat.zero_le _, Nat.zero_le _⟩ ?_
  refine lv_if_ne (tgt := 17) hx hb dX7_ownerOf_4 (by decide) (fun c2 => ?_) (fun c2 => ?_)
  · have hf := k_F c2 hf
    refine lv_aload_n hx hb dX7_ownerOf_17 rfl (lv_at hl 0 rfl) ?_
    refine va_get (D := D) (ci := 4) (v := .ref gma) (C := RX7) (T := TX7) (N := 6) hx hb hts in_X7 hown hK hP 0 rfl rfl 0 (by decide) fl10 (fun _ h9 => h9) rfl dX7_ownerOf_18 ?_
    refine va_getN (D := D) (ci := 1) (v := .int gm.1) (C := RX2) (T := TX2) (N := 8) hx hb hts in_X2 hown hK hP 1 rfl rfl 0 (by decide) fl78 (fun _ h9 => h9) rfl dX7_ownerOf_21 ?_
    refine lv_iload_n hx hb dX7_ownerOf_24 rfl (lv_at hl 1 rfl) ?_
    obtain ⟨v3, hv3, hf⟩ := k_B hf
    refine k_callS (As := [.int gm.1, .int n1]) (rest := []) ⟨hx, hb, hml, hown, hts⟩ (c_X3_countSides l gm.1 n1 v3 hv3) (va_cwS 2 hts gX7_ownerOf_X3_countSides rfl rfl rfl hd_X3_countSides ⟨Nat.le_of_ble_eq_true rfl, Nat.le_of_ble_eq_true rfl⟩) rfl hl.1 rfl (Nat.le_of_ble_eq_true rfl) dX7_ownerOf_25 ⟨Nat.zero_le _, Nat.zero_le _⟩ ?_
    refine lv_iconst (v := 4) hx hb dX7_ownerOf_28 (by decide) ?_
    refine lv_icmp_ge (tgt := 42) hx hb dX7_ownerOf_29 (by decide) (fun c4 => ?_) (fun c4 => ?_)
    · have hf := k_T c4 hf
      refine lv_aload_n hx hb dX7_ownerOf_42 rfl (lv_at hl 0 rfl) ?_
      refine va_get (D := D) (ci := 4) (v := .ref gma) (C := RX7) (T := TX7) (N := 6) hx hb hts in_X7 hown hK hP 0 rfl rfl 0 (by decide) fl10 (fun _ h9 => h9) rfl dX7_ownerOf_43 ?_
      refine lv_iconst (v := 0) hx hb dX7_ownerOf_46 (by decide) ?_
      obtain ⟨v5, hv5, hf⟩ := k_B hf
      refine k_callHV (As := [.int 0]) (rest := []) (r := (RX2, TX2, 8)) (ci := 1) (q0 := 1) (isC := [1]) (isR := [0, 2, 3, 4, 5, 6, 7, 8, 9, 10, 11, 12, 13, 14]) (perm := [0, 14, 1, 2, 3, 4, 5, 6, 7, 8, 9, 10, 11, 12, 13]) (w' := (wX7 cy h0 gma sna hia ka ora cha tra ena opa foa gm sn hs qs k0 k1 k2 k3 ch o tr es op fo has)) ⟨hx, hb, hml, hown, hts⟩ (c_X2_closedBy l D cy gma gm 0 v5 hv5) (cwV 1 hts gX7_ownerOf_X2_closedBy rfl rfl rfl hd_X2_closedBy ⟨Nat.le_of_ble_eq_true rfl, Nat.le_of_ble_eq_true rfl⟩) hK hN hP hD hS hA rfl rfl rfl rfl rfl rfl (by decide) rfl rfl rfl hl.1 rfl (Nat.le_of_ble_eq_true rfl) dX7_ownerOf_47 ⟨Nat.zero_le _, Nat.zero_le _⟩ (fun H locs hP hD hS => ?_)
      refine lv_iload_n hx hb dX7_ownerOf_50 rfl (lv_at hl 1 rfl) ?_
      obtain ⟨v6, hv6, hf⟩ := k_B hf
      refine k_callS (As := [.int v5, .int n1]) (rest := []) ⟨hx, hb, hml, hown, hts⟩ (c_X3_has l v5 n1 v6 hv6) (va_cwS 2 hts gX7_ownerOf_X3_has rfl rfl rfl hd_X3_has ⟨Nat.le_of_ble_eq_true rfl, Nat.le_of_ble_eq_true rfl⟩) rfl hl.1 rfl (Nat.le_of_ble_eq_true rfl) dX7_ownerOf_51 ⟨Nat.zero_le _, Nat.zero_le _⟩ ?_
      refine lv_if_eq (tgt := 61) hx hb dX7_ownerOf_54 (by decide) (fun c7 => ?_) (fun c7 => ?_)
      · have hf := k_T c7 hf
        refine lv_iconst (v := 1) hx hb dX7_ownerOf_61 (by decide) ?_
        obtain rfl := k_some hf
        exact k_xiret hx hb hr hP hD hS dX7_ownerOf_62 hlocks
      · have hf := k_F c7 hf
        refine lv_iconst (v := 0) hx hb dX7_ownerOf_57 (by decide) ?_
        refine lv_goto (tgt := 62) hx hb dX7_ownerOf_58 (by decide) ?_
        obtain rfl := k_some hf
        exact k_xiret hx hb hr hP hD hS dX7_ownerOf_62 hlocks
    · have hf := k_F c4 hf
      obtain rfl := k_some hf
      obtain ⟨sa, hstr⟩ := hT.2.2 (99, "the box is open") (by decide +kernel)
      exact k_throwN hx hb hl9 hown (hts (.classLink "FencedBoxes" 97 k_NS) (by decide +kernel)) (hts (.initialized k_NS) (by decide +kernel)) hstr hat_NS h3_NS hZ.1 hZ.2 hS (hl.1.trans hml.symm) dX7_ownerOf_32 dX7_ownerOf_35 dX7_ownerOf_36 dX7_ownerOf_38 dX7_ownerOf_41 (fun x hx => (hEx x hx).elim) (Nat.le_of_ble_eq_true rfl) (Nat.le_of_ble_eq_true rfl) (Nat.le_of_ble_eq_true rfl) (Nat.le_of_ble_eq_true rfl) hlocks (k_thrown hP hD hS) hS.2.2 (Nat.le_of_ble_eq_true rfl) (Nat.le_of_ble_eq_true rfl)
  · have hf := k_T c2 hf
    obtain rfl := k_some hf
    obtain ⟨sa, hstr⟩ := hT.2.2 (91, "there is no such box") (by decide +kernel)
    exact vx_throwS (own := RX7) (cls := "java/lang/IllegalArgumentException") (names := ["java/lang/RuntimeException", "java/lang/Exception"]) hx hb hl9 hown (by decide +kernel) (by decide +kernel) (hts (.classLink RX7 48 "java/lang/IllegalArgumentException") (by decide +kernel)) (hts (.initialized "java/lang/IllegalArgumentException") (by decide +kernel)) hstr hat_IA h3_IA hZ.1 hZ.2 hS (hl.1.trans hml.symm) dX7_ownerOf_7 dX7_ownerOf_10 dX7_ownerOf_11 dX7_ownerOf_13 dX7_ownerOf_16 (fun x hx => (hEx x hx).elim) (Nat.le_of_ble_eq_true rfl) (Nat.le_of_ble_eq_true rfl) (Nat.le_of_ble_eq_true rfl) (Nat.le_of_ble_eq_true rfl) hlocks (k_thrown hP hD hS) hS.2.2 (Nat.le_of_ble_eq_true rfl) (Nat.le_of_ble_eq_true rfl)
def f_X7_boxesOf (n1 : Int32) (gm : k_G8) : Option ((Int32) ⊕ (String)) :=
  (f_X7_isPlayer n1).bind fun v1 =>
  if v1 = 0 then
    some (.inr ("java/lang/IllegalArgumentException"))
  else
    (f_X2_closedBy n1 gm).bind fun v3 =>
    (f_J6_bitCount_0f7a4 v3).bind fun v4 =>
    some (.inl v4)
abbrev rm_X7_boxesOf : Room := { frames := 6, cells := 1, slots := 6, locals := 90 }
theorem hd_X7_boxesOf : yX7_boxesOf.cls = RX7 ∧ yX7_boxesOf.cls ≠ "java/lang/invoke/MethodHandle" ∧ yX7_boxesOf.cls ≠ "java/lang/invoke/VarHandle" ∧ (parseMethodDescriptor yX7_boxesOf.desc).map (fun d => d.parameters.length) = some 1 := by decide +kernel
set_option maxHeartbeats 4000000 in
set_option maxRecDepth 100000 in
theorem c_X7_boxesOf (l : Launch) (hl9 : l.stackTraces = false) (D : va_G) (cy : Nat → ClassId) (h0 gma sna hia ka ora cha tra ena opa foa : Nat) (gm : k_G8) (sn : k_G8) (hs : Int32) (qs : k_Q4) (k0 : k_G8) (k1 : k_G8) (k2 : k_G8) (k3 : k_G8) (ch : Nat → Int32) (o : k_O5) (tr : k_G8) (es : Int32) (op : Nat → Int32) (fo : Nat → Int32) (has : Int32) (n1 : Int32) (r : (Int32) ⊕ (String)) (hf : f_X7_boxesOf n1 gm = some r) : k_XMet l yX7_boxesOf wsX7_boxesOf rm_X7_boxesOf D (k_tys cy) [.ref h0, .int n1] (wX7 cy h0 gma sna hia ka ora cha tra ena opa foa gm sn hs qs k0 k1 k2 k3 ch o tr es op fo has) (Sum.map (fun q : Int32 => ((some (.int q), (wX7 cy h0 gma sna hia ka ora cha tra ena opa foa gm sn hs qs k0 k1 k2 k3 ch o tr es op fo has)) : Option Value × va_W)) (fun q : String => ((q, (wX7 cy h0 gma sna hia ka ora cha tra ena opa foa gm sn hs qs k0 k1 k2 k3 ch o tr es op fo has)) : String × va_W)) r) := by
  refine k_throwOf (cc := cX7_boxesOf) (maxL := 2) (ret := (some .int)) (by decide) rfl (Nat.le_of_ble_eq_true rfl) ?_
  intro p e s m args below meth c ls A hx hb hr hlocks hml hown hts hl hA hK hP hD hN hT hZ hEx
  have hl : lv_has ls 2 [(0, .ref h0), (1, .int n1)] := hl
  have hS : va_S A s.heap s.heap [] := va_S.rf
  have in_X7 : ∀ w ∈ wsX70, w ∈ wsX7_boxesOf := by decide +kernel
  have fl10 := hts (.fieldLink RX7 10 "FencedBoxes" "game" "LFencedBoxes$Game;") (by decide +kernel)
  have hat_IA : ∀ w ∈ vx_atS RX7 52 "java/lang/IllegalArgumentException" ["java/lang/RuntimeException", "java/lang/Exception"], w.before args s = true := k_hat (E := "") (fun w hw => hts w ((by decide +kernel : ∀ w ∈ (vx_atS RX7 52 "java/lang/IllegalArgumentException" ["java/lang/RuntimeException", "java/lang/Exception"]).filter goodWord, w ∈ wsX7_boxesOf) w hw)) h2_IA hT
  unfold f_X7_boxesOf at hf
  obtain ⟨H, eH⟩ : ∃ H, H = s.heap := ⟨_, rfl⟩
  obtain ⟨locs, elocs⟩ : ∃ L : List Loc, L = [] := ⟨_, rfl⟩
  have hP : va_P D vwCl (wX7 cy h0 gma sna hia ka ora cha tra ena opa foa gm sn hs qs k0 k1 k2 k3 ch o tr es op fo has) H := by rw [eH]; exact hP
  have hS : va_S A s.heap H locs := by rw [eH, elocs]; exact hS
  refine k_here eH elocs ?_
  refine lv_iload_n hx hb dX7_boxesOf_0 rfl (lv_at hl 1 rfl) ?_
  obtain ⟨v1, hv1, hf⟩ := k_B hf
  refine k_callS (As := [.int n1]) (rest := []) ⟨hx, hb, hml, hown, hts⟩ (c_X7_isPlayer l n1 v1 hv1) (va_cwS 1 hts gX7_boxesOf_X7_isPlayer rfl rfl rfl hd_X7_isPlayer ⟨Nat.le_of_ble_eq_true rfl, Nat.le_of_ble_eq_true rfl⟩) rfl hl.1 rfl (Nat.le_of_ble_eq_true rfl) dX7_boxesOf_1 ⟨Nat.zero_le _, Nat.zero_le _⟩ ?_
  refine lv_if_ne (tgt := 17) hx hb dX7_boxesOf_4 (by decide) (fun c2 => ?_) (fun c2 => ?_)
  · have hf := k_F c2 hf
    refine lv_aload_n hx hb dX7_boxesOf_17 rfl (lv_at hl 0 rfl) ?_
    refine va_get (D := D) (ci := 4) (v := .ref gma) (C := RX7) (T := TX7) (N := 6) hx hb hts in_X7 hown hK hP 0 rfl rfl 0 (by decide) fl10 (fun _ h9 => h9) rfl dX7_boxesOf_18 ?_
    refine lv_iload_n hx hb dX7_boxesOf_21 rfl (lv_at hl 1 rfl) ?_
    obtain ⟨v3, hv3, hf⟩ := k_B hf
    refine k_callHV (As := [.int n1]) (rest := []) (r := (RX2, TX2, 8)) (ci := 1) (q0 := 1) (isC := [1]) (isR := [0, 2, 3, 4, 5, 6, 7, 8, 9, 10, 11, 12, 13, 14]) (perm := [0, 14, 1, 2, 3, 4, 5, 6, 7, 8, 9, 10, 11, 12, 13]) (w' := (wX7 cy h0 gma sna hia ka ora cha tra ena opa foa gm sn hs qs k0 k1 k2 k3 ch o tr es op fo has)) ⟨hx, hb, hml, hown, hts⟩ (c_X2_closedBy l D cy gma gm n1 v3 hv3) (cwV 1 hts gX7_boxesOf_X2_closedBy rfl rfl rfl hd_X2_closedBy ⟨Nat.le_of_ble_eq_true rfl, Nat.le_of_ble_eq_true rfl⟩) hK hN hP hD hS hA rfl rfl rfl rfl rfl rfl (by decide) rfl rfl rfl hl.1 rfl (Nat.le_of_ble_eq_true rfl) dX7_boxesOf_22 ⟨Nat.zero_le _, Nat.zero_le _⟩ (fun H locs hP hD hS => ?_)
    obtain ⟨v4, hv4, hf⟩ := k_B hf
    refine k_callS (As := [.int v3]) (rest := []) ⟨hx, hb, hml, hown, hts⟩ (c_J6_bitCount_0f7a4 l v3 v4 hv4) (va_cwS 1 hts gX7_boxesOf_J6_bitCount_0f7a4 rfl rfl rfl hd_J6_bitCount_0f7a4 ⟨Nat.le_of_ble_eq_true rfl, Nat.le_of_ble_eq_true rfl⟩) rfl hl.1 rfl (Nat.le_of_ble_eq_true rfl) dX7_boxesOf_25 ⟨Nat.zero_le _, Nat.zero_le _⟩ ?_
    obtain rfl := k_some hf
    exact k_xiret hx hb hr hP hD hS dX7_boxesOf_28 hlocks
  · have hf := k_T c2 hf
    obtain rfl := k_some hf
    obtain ⟨sa, hstr⟩ := hT.2.2 (108, "there is no such player") (by decide +kernel)
    exact vx_throwS (own := RX7) (cls := "java/lang/IllegalArgumentException") (names := ["java/lang/RuntimeException", "java/lang/Exception"]) hx hb hl9 hown (by decide +kernel) (by decide +kernel) (hts (.classLink RX7 48 "java/lang/IllegalArgumentException") (by decide +kernel)) (hts (.initialized "java/lang/IllegalArgumentException") (by decide +kernel)) hstr hat_IA h3_IA hZ.1 hZ.2 hS (hl.1.trans hml.symm) dX7_boxesOf_7 dX7_boxesOf_10 dX7_boxesOf_11 dX7_boxesOf_13 dX7_boxesOf_16 (fun x hx => (hEx x hx).elim) (Nat.le_of_ble_eq_true rfl) (Nat.le_of_ble_eq_true rfl) (Nat.le_of_ble_eq_true rfl) (Nat.le_of_ble_eq_true rfl) hlocks (k_thrown hP hD hS) hS.2.2 (Nat.le_of_ble_eq_true rfl) (Nat.le_of_ble_eq_true rfl)
def f_X7_boxesWith (n1 : Int32) (gm : k_G8) : Option ((Int32) ⊕ (String)) :=
  if n1 < 0 then
    some (.inr ("java/lang/IllegalArgumentException"))
  else
    if n1 ≤ 4 then
      (f_X3_boxesHaving gm.1 n1).bind fun v3 =>
      (f_J6_bitCount_0f7a4 v3).bind fun v4 =>
      some (.inl v4)
    else
      some (.inr ("java/lang/IllegalArgumentException"))
abbrev rm_X7_boxesWith : Room := { frames := 6, cells := 1, slots := 6, locals := 90 }
theorem hd_X7_boxesWith : yX7_boxesWith.cls = RX7 ∧ yX7_boxesWith.cls ≠ "java/lang/invoke/MethodHandle" ∧ yX7_boxesWith.cls ≠ "java/lang/invoke/VarHandle" ∧ (parseMethodDescriptor yX7_boxesWith.desc).map (fun d => d.parameters.length) = some 1 := by decide +kernel
set_option maxHeartbeats 4000000 in
set_option maxRecDepth 100000 in
theorem c_X7_boxesWith (l : Launch) (hl9 : l.stackTraces = false) (D : va_G) (cy : Nat → ClassId) (h0 gma sna hia ka ora cha tra ena opa foa : Nat) (gm : k_G8) (sn : k_G8) (hs : Int32) (qs : k_Q4) (k0 : k_G8) (k1 : k_G8) (k2 : k_G8) (k3 : k_G8) (ch : Nat → Int32) (o : k_O5) (tr : k_G8) (es : Int32) (op : Nat → Int32) (fo : Nat → Int32) (has : Int32) (n1 : Int32) (r : (Int32) ⊕ (String)) (hf : f_X7_boxesWith n1 gm = some r) : k_XMet l yX7_boxesWith wsX7_boxesWith rm_X7_boxesWith D (k_tys cy) [.ref h0, .int n1] (wX7 cy h0 gma sna hia ka ora cha tra ena opa foa gm sn hs qs k0 k1 k2 k3 ch o tr es op fo has) (Sum.map (fun q : Int32 => ((some (.int q), (wX7 cy h0 gma sna hia ka ora cha tra ena opa foa gm sn hs qs k0 k1 k2 k3 ch o tr es op fo has)) : Option Value × va_W)) (fun q : String => ((q, (wX7 cy h0 gma sna hia ka ora cha tra ena opa foa gm sn hs qs k0 k1 k2 k3 ch o tr es op fo has)) : String × va_W)) r) := by
  refine k_throwOf (cc := cX7_boxesWith) (maxL := 2) (ret := (some .int)) (by decide) rfl (Nat.le_of_ble_eq_true rfl) ?_
  intro p e s m args below meth c ls A hx hb hr hlocks hml hown hts hl hA hK hP hD hN hT hZ hEx
  have hl : lv_has ls 2 [(0, .ref h0), (1, .int n1)] := hl
  have hS : va_S A s.heap s.heap [] := va_S.rf
  have in_X2 : ∀ w ∈ wsX20, w ∈ wsX7_boxesWith := by decide +kernel
  have in_X7 : ∀ w ∈ wsX70, w ∈ wsX7_boxesWith := by decide +kernel
  have fl10 := hts (.fieldLink RX7 10 "FencedBoxes" "game" "LFencedBoxes$Game;") (by decide +kernel)
  have fl78 := va_Nw.use (A := args) rfl (show va_Nw (.fieldLinkNest RX7 78 "FencedBoxes$Game" "fences" "I" "FencedBoxes") s from hN.2 (RX7, 78, "FencedBoxes$Game", "fences", "I", "FencedBoxes") (by decide +kernel))
  have hat_IA : ∀ w ∈ vx_atS RX7 52 "java/lang/IllegalArgumentException" ["java/lang/RuntimeException", "java/lang/Exception"], w.before args s = true := k_hat (E := "") (fun w hw => hts w ((by decide +kernel : ∀ w ∈ (vx_atS RX7 52 "java/lang/IllegalArgumentException" ["java/lang/RuntimeException", "java/lang/Exception"]).filter goodWord, w ∈ wsX7_boxesWith) w hw)) h2_IA hT
  unfold f_X7_boxesWith at hf
  obtain ⟨H, eH⟩ : ∃ H, H = s.heap := ⟨_, rfl⟩
  obtain ⟨locs, elocs⟩ : ∃ L : List Loc, L = [] := ⟨_, rfl⟩
  have hP : va_P D vwCl (wX7 cy h0 gma sna hia ka ora cha tra ena opa foa gm sn hs qs k0 k1 k2 k3 ch o tr es op fo has) H := by rw [eH]; exact hP
  have hS : va_S A s.heap H locs := by rw [eH, elocs]; exact hS
  refine k_here eH elocs ?_
  refine lv_iload_n hx hb dX7_boxesWith_0 rfl (lv_at hl 1 rfl) ?_
  refine lv_if_lt (tgt := 9) hx hb dX7_boxesWith_1 (by decide) (fun c1 => ?_) (fun c1 => ?_)
  · have hf := k_T c1 hf
    obtain rfl := k_some hf
    obtain ⟨sa, hstr⟩ := hT.2.2 (115, "no box can have so many fences") (by decide +kernel)
    exact vx_throwS (own := RX7) (cls := "java/lang/IllegalArgumentException") (names := ["java/lang/RuntimeException", "java/lang/Exception"]) hx hb hl9 hown (by decide +kernel) (by decide +kernel) (hts (.classLink RX7 48 "java/lang/IllegalArgumentException") (by decide +kernel)) (hts (.initialized "java/lang/IllegalArgumentException") (by decide +kernel)) hstr hat_IA h3_IA hZ.1 hZ.2 hS (hl.1.trans hml.symm) dX7_boxesWith_9 dX7_boxesWith_12 dX7_boxesWith_13 dX7_boxesWith_15 dX7_boxesWith_18 (fun x hx => (hEx x hx).elim) (Nat.le_of_ble_eq_true rfl) (Nat.le_of_ble_eq_true rfl) (Nat.le_of_ble_eq_true rfl) (Nat.le_of_ble_eq_true rfl) hlocks (k_thrown hP hD hS) hS.2.2 (Nat.le_of_ble_eq_true rfl) (Nat.le_of_ble_eq_true rfl)
  · have hf := k_F c1 hf
    refine lv_iload_n hx hb dX7_boxesWith_4 rfl (lv_at hl 1 rfl) ?_
    refine lv_iconst (v := 4) hx hb dX7_boxesWith_5 (by decide) ?_
    refine lv_icmp_le (tgt := 19) hx hb dX7_boxesWith_6 (by decide) (fun c2 => ?_) (fun c2 => ?_)
    · have hf := k_T c2 hf
      refine lv_aload_n hx hb dX7_boxesWith_19 rfl (lv_at hl 0 rfl) ?_
      refine va_get (D := D) (ci := 4) (v := .ref gma) (C := RX7) (T := TX7) (N := 6) hx hb hts in_X7 hown hK hP 0 rfl rfl 0 (by decide) fl10 (fun _ h9 => h9) rfl dX7_boxesWith_20 ?_
      refine va_getN (D := D) (ci := 1) (v := .int gm.1) (C := RX2) (T := TX2) (N := 8) hx hb hts in_X2 hown hK hP 1 rfl rfl 0 (by decide) fl78 (fun _ h9 => h9) rfl dX7_boxesWith_23 ?_
      refine lv_iload_n hx hb dX7_boxesWith_26 rfl (lv_at hl 1 rfl) ?_
      obtain ⟨v3, hv3, hf⟩ := k_B hf
      refine k_callS (As := [.int gm.1, .int n1]) (rest := []) ⟨hx, hb, hml, hown, hts⟩ (c_X3_boxesHaving l gm.1 n1 v3 hv3) (va_cwS 2 hts gX7_boxesWith_X3_boxesHaving rfl rfl rfl hd_X3_boxesHaving ⟨Nat.le_of_ble_eq_true rfl, Nat.le_of_ble_eq_true rfl⟩) rfl hl.1 rfl (Nat.le_of_ble_eq_true rfl) dX7_boxesWith_27 ⟨Nat.zero_le _, Nat.zero_le _⟩ ?_
      obtain ⟨v4, hv4, hf⟩ := k_B hf
      refine k_callS (As := [.int v3]) (rest := []) ⟨hx, hb, hml, hown, hts⟩ (c_J6_bitCount_0f7a4 l v3 v4 hv4) (va_cwS 1 hts gX7_boxesWith_J6_bitCount_0f7a4 rfl rfl rfl hd_J6_bitCount_0f7a4 ⟨Nat.le_of_ble_eq_true rfl, Nat.le_of_ble_eq_true rfl⟩) rfl hl.1 rfl (Nat.le_of_ble_eq_true rfl) dX7_boxesWith_30 ⟨Nat.zero_le _, Nat.zero_le _⟩ ?_
      obtain rfl := k_some hf
      exact k_xiret hx hb hr hP hD hS dX7_boxesWith_33 hlocks
    · have hf := k_F c2 hf
      obtain rfl := k_some hf
      obtain ⟨sa, hstr⟩ := hT.2.2 (115, "no box can have so many fences") (by decide +kernel)
      exact vx_throwS (own := RX7) (cls := "java/lang/IllegalArgumentException") (names := ["java/lang/RuntimeException", "java/lang/Exception"]) hx hb hl9 hown (by decide +kernel) (by decide +kernel) (hts (.classLink RX7 48 "java/lang/IllegalArgumentException") (by decide +kernel)) (hts (.initialized "java/lang/IllegalArgumentException") (by decide +kernel)) hstr hat_IA h3_IA hZ.1 hZ.2 hS (hl.1.trans hml.symm) dX7_boxesWith_9 dX7_boxesWith_12 dX7_boxesWith_13 dX7_boxesWith_15 dX7_boxesWith_18 (fun x hx => (hEx x hx).elim) (Nat.le_of_ble_eq_true rfl) (Nat.le_of_ble_eq_true rfl) (Nat.le_of_ble_eq_true rfl) (Nat.le_of_ble_eq_true rfl) hlocks (k_thrown hP hD hS) hS.2.2 (Nat.le_of_ble_eq_true rfl) (Nat.le_of_ble_eq_true rfl)
def f_X7_whyNot (n1 : Int32) (gm : k_G8) : Option ((Int32) ⊕ (String)) :=
  (f_X7_isFence n1).bind fun v1 =>
  if v1 = 0 then
    some (.inr ("java/lang/IllegalArgumentException"))
  else
    (f_X2_refusal n1 gm).bind fun v3 =>
    some (.inl v3)
abbrev rm_X7_whyNot : Room := { frames := 6, cells := 1, slots := 6, locals := 90 }
theorem hd_X7_whyNot : yX7_whyNot.cls = RX7 ∧ yX7_whyNot.cls ≠ "java/lang/invoke/MethodHandle" ∧ yX7_whyNot.cls ≠ "java/lang/invoke/VarHandle" ∧ (parseMethodDescriptor yX7_whyNot.desc).map (fun d => d.parameters.length) = some 1 := by decide +kernel
set_option maxHeartbeats 4000000 in
set_option maxRecDepth 100000 in
theorem c_X7_whyNot (l : Launch) (hl9 : l.stackTraces = false) (D : va_G) (cy : Nat → ClassId) (h0 gma sna hia ka ora cha tra ena opa foa : Nat) (gm : k_G8) (sn : k_G8) (hs : Int32) (qs : k_Q4) (k0 : k_G8) (k1 : k_G8) (k2 : k_G8) (k3 : k_G8) (ch : Nat → Int32) (o : k_O5) (tr : k_G8) (es : Int32) (op : Nat → Int32) (fo : Nat → Int32) (has : Int32) (n1 : Int32) (r : (Int32) ⊕ (String)) (hf : f_X7_whyNot n1 gm = some r) : k_XMet l yX7_whyNot wsX7_whyNot rm_X7_whyNot D (k_tys cy) [.ref h0, .int n1] (wX7 cy h0 gma sna hia ka ora cha tra ena opa foa gm sn hs qs k0 k1 k2 k3 ch o tr es op fo has) (Sum.map (fun q : Int32 => ((some (.int q), (wX7 cy h0 gma sna hia ka ora cha tra ena opa foa gm sn hs qs k0 k1 k2 k3 ch o tr es op fo has)) : Option Value × va_W)) (fun q : String => ((q, (wX7 cy h0 gma sna hia ka ora cha tra ena opa foa gm sn hs qs k0 k1 k2 k3 ch o tr es op fo has)) : String × va_W)) r) := by
  refine k_throwOf (cc := cX7_whyNot) (maxL := 2) (ret := (some .int)) (by decide) rfl (Nat.le_of_ble_eq_true rfl) ?_
  intro p e s m args below meth c ls A hx hb hr hlocks hml hown hts hl hA hK hP hD hN hT hZ hEx
  have hl : lv_has ls 2 [(0, .ref h0), (1, .int n1)] := hl
  have hS : va_S A s.heap s.heap [] := va_S.rf
  have in_X7 : ∀ w ∈ wsX70, w ∈ wsX7_whyNot := by decide +kernel
  have fl10 := hts (.fieldLink RX7 10 "FencedBoxes" "game" "LFencedBoxes$Game;") (by decide +kernel)
  have hat_IA : ∀ w ∈ vx_atS RX7 52 "java/lang/IllegalArgumentException" ["java/lang/RuntimeException", "java/lang/Exception"], w.before args s = true := k_hat (E := "") (fun w hw => hts w ((by decide +kernel : ∀ w ∈ (vx_atS RX7 52 "java/lang/IllegalArgumentException" ["java/lang/RuntimeException", "java/lang/Exception"]).filter goodWord, w ∈ wsX7_whyNot) w hw)) h2_IA hT
  unfold f_X7_whyNot at hf
  obtain ⟨H, eH⟩ : ∃ H, H = s.heap := ⟨_, rfl⟩
  obtain ⟨locs, elocs⟩ : ∃ L : List Loc, L = [] := ⟨_, rfl⟩
  have hP : va_P D vwCl (wX7 cy h0 gma sna hia ka ora cha tra ena opa foa gm sn hs qs k0 k1 k2 k3 ch o tr es op fo has) H := by rw [eH]; exact hP
  have hS : va_S A s.heap H locs := by rw [eH, elocs]; exact hS
  refine k_here eH elocs ?_
  refine lv_iload_n hx hb dX7_whyNot_0 rfl (lv_at hl 1 rfl) ?_
  obtain ⟨v1, hv1, hf⟩ := k_B hf
  refine k_callS (As := [.int n1]) (rest := []) ⟨hx, hb, hml, hown, hts⟩ (c_X7_isFence l n1 v1 hv1) (va_cwS 1 hts gX7_whyNot_X7_isFence rfl rfl rfl hd_X7_isFence ⟨Nat.le_of_ble_eq_true rfl, Nat.le_of_ble_eq_true rfl⟩) rfl hl.1 rfl (Nat.le_of_ble_eq_true rfl) dX7_whyNot_1 ⟨Nat.zero_le _, Nat.zero_le _⟩ ?_
  refine lv_if_ne (tgt := 17) hx hb dX7_whyNot_4 (by decide) (fun c2 => ?_) (fun c2 => ?_)
  · have hf := k_F c2 hf
    refine lv_aload_n hx hb dX7_whyNot_17 rfl (lv_at hl 0 rfl) ?_
    refine va_get (D := D) (ci := 4) (v := .ref gma) (C := RX7) (T := TX7) (N := 6) hx hb hts in_X7 hown hK hP 0 rfl rfl 0 (by decide) fl10 (fun _ h9 => h9) rfl dX7_whyNot_18 ?_
    refine lv_iload_n hx hb dX7_whyNot_21 rfl (lv_at hl 1 rfl) ?_
    obtain ⟨v3, hv3, hf⟩ := k_B hf
    refine k_callHV (As := [.int n1]) (rest := []) (r := (RX2, TX2, 8)) (ci := 1) (q0 := 1) (isC := [1]) (isR := [0, 2, 3, 4, 5, 6, 7, 8, 9, 10, 11, 12, 13, 14]) (perm := [0, 14, 1, 2, 3, 4, 5, 6, 7, 8, 9, 10, 11, 12, 13]) (w' := (wX7 cy h0 gma sna hia ka ora cha tra ena opa foa gm sn hs qs k0 k1 k2 k3 ch o tr es op fo has)) ⟨hx, hb, hml, hown, hts⟩ (c_X2_refusal l D cy gma gm n1 v3 hv3) (cwV 1 hts gX7_whyNot_X2_refusal rfl rfl rfl hd_X2_refusal ⟨Nat.le_of_ble_eq_true rfl, Nat.le_of_ble_eq_true rfl⟩) hK hN hP hD hS hA rfl rfl rfl rfl rfl rfl (by decide) rfl rfl rfl hl.1 rfl (Nat.le_of_ble_eq_true rfl) dX7_whyNot_22 ⟨Nat.zero_le _, Nat.zero_le _⟩ (fun H locs hP hD hS => ?_)
    obtain rfl := k_some hf
    exact k_xiret hx hb hr hP hD hS dX7_whyNot_25 hlocks
  · have hf := k_T c2 hf
    obtain rfl := k_some hf
    obtain ⟨sa, hstr⟩ := hT.2.2 (50, "there is no such fence") (by decide +kernel)
    exact vx_throwS (own := RX7) (cls := "java/lang/IllegalArgumentException") (names := ["java/lang/RuntimeException", "java/lang/Exception"]) hx hb hl9 hown (by decide +kernel) (by decide +kernel) (hts (.classLink RX7 48 "java/lang/IllegalArgumentException") (by decide +kernel)) (hts (.initialized "java/lang/IllegalArgumentException") (by decide +kernel)) hstr hat_IA h3_IA hZ.1 hZ.2 hS (hl.1.trans hml.symm) dX7_whyNot_7 dX7_whyNot_10 dX7_whyNot_11 dX7_whyNot_13 dX7_whyNot_16 (fun x hx => (hEx x hx).elim) (Nat.le_of_ble_eq_true rfl) (Nat.le_of_ble_eq_true rfl) (Nat.le_of_ble_eq_true rfl) (Nat.le_of_ble_eq_true rfl) hlocks (k_thrown hP hD hS) hS.2.2 (Nat.le_of_ble_eq_true rfl) (Nat.le_of_ble_eq_true rfl)
def f_X7_takingFence (gm : k_G8) : Option ((Int32) ⊕ (String)) :=
  (f_X6_lastFences gm.1).bind fun v1 =>
  (f_X3_lowestFence v1).bind fun v2 =>
  if v2 = (-1) then
    some (.inr ("java/util/NoSuchElementException"))
  else
    some (.inl v2)
abbrev rm_X7_takingFence : Room := { frames := 6, cells := 1, slots := 6, locals := 90 }
theorem hd_X7_takingFence : yX7_takingFence.cls = RX7 ∧ yX7_takingFence.cls ≠ "java/lang/invoke/MethodHandle" ∧ yX7_takingFence.cls ≠ "java/lang/invoke/VarHandle" ∧ (parseMethodDescriptor yX7_takingFence.desc).map (fun d => d.parameters.length) = some 0 := by decide +kernel
set_option maxHeartbeats 4000000 in
set_option maxRecDepth 100000 in
theorem c_X7_takingFence (l : Launch) (hl9 : l.stackTraces = false) (D : va_G) (cy : Nat → ClassId) (h0 gma sna hia ka ora cha tra ena opa foa : Nat) (gm : k_G8) (sn : k_G8) (hs : Int32) (qs : k_Q4) (k0 : k_G8) (k1 : k_G8) (k2 : k_G8) (k3 : k_G8) (ch : Nat → Int32) (o : k_O5) (tr : k_G8) (es : Int32) (op : Nat → Int32) (fo : Nat → Int32) (has : Int32)  (r : (Int32) ⊕ (String)) (hf : f_X7_takingFence gm = some r) : k_XMet l yX7_takingFence wsX7_takingFence rm_X7_takingFence D (k_tys cy) [.ref h0] (wX7 cy h0 gma sna hia ka ora cha tra ena opa foa gm sn hs qs k0 k1 k2 k3 ch o tr es op fo has) (Sum.map (fun q : Int32 => ((some (.int q), (wX7 cy h0 gma sna hia ka ora cha tra ena opa foa gm sn hs qs k0 k1 k2 k3 ch o tr es op fo has)) : Option Value × va_W)) (fun q : String => ((q, (wX7 cy h0 gma sna hia ka ora cha tra ena opa foa gm sn hs qs k0 k1 k2 k3 ch o tr es op fo has)) : String × va_W)) r) := by
  refine k_throwOf (cc := cX7_takingFence) (maxL := 2) (ret := (some .int)) (by decide) rfl (Nat.le_of_ble_eq_true rfl) ?_
  intro p e s m args below meth c ls A hx hb hr hlocks hml hown hts hl hA hK hP hD hN hT hZ hEx
  have hl : lv_has ls 2 [(0, .ref h0)] := hl
  have hS : va_S A s.heap s.heap [] := va_S.rf
  have in_X2 : ∀ w ∈ wsX20, w ∈ wsX7_takingFence := by decide +kernel
  have in_X7 : ∀ w ∈ wsX70, w ∈ wsX7_takingFence := by decide +kernel
  have fl10 := hts (.fieldLink RX7 10 "FencedBoxes" "game" "LFencedBoxes$Game;") (by decide +kernel)
  have fl78 := va_Nw.use (A := args) rfl (show va_Nw (.fieldLinkNest RX7 78 "FencedBoxes$Game" "fences" "I" "FencedBoxes") s from hN.2 (RX7, 78, "FencedBoxes$Game", "fences", "I", "FencedBoxes") (by decide +kernel))
  have hat_NS : ∀ w ∈ k_atN, w.before args s = true := k_hat (E := "") (fun w hw => hts w ((by decide +kernel : ∀ w ∈ (k_atN).filter goodWord, w ∈ wsX7_takingFence) w hw)) h2_NS hT
  unfold f_X7_takingFence at hf
  obtain ⟨H, eH⟩ : ∃ H, H = s.heap := ⟨_, rfl⟩
  obtain ⟨locs, elocs⟩ : ∃ L : List Loc, L = [] := ⟨_, rfl⟩
  have hP : va_P D vwCl (wX7 cy h0 gma sna hia ka ora cha tra ena opa foa gm sn hs qs k0 k1 k2 k3 ch o tr es op fo has) H := by rw [eH]; exact hP
  have hS : va_S A s.heap H locs := by rw [eH, elocs]; exact hS
  refine k_here eH elocs ?_
  refine lv_aload_n hx hb dX7_takingFence_0 rfl (lv_at hl 0 rfl) ?_
  refine va_get (D := D) (ci := 4) (v := .ref gma) (C := RX7) (T := TX7) (N := 6) hx hb hts in_X7 hown hK hP 0 rfl rfl 0 (by decide) fl10 (fun _ h9 => h9) rfl dX7_takingFence_1 ?_
  refine va_getN (D := D) (ci := 1) (v := .int gm.1) (C := RX2) (T := TX2) (N := 8) hx hb hts in_X2 hown hK hP 1 rfl rfl 0 (by decide) fl78 (fun _ h9 => h9) rfl dX7_takingFence_4 ?_
  obtain ⟨v1, hv1, hf⟩ := k_B hf
  refine k_callS (As := [.int gm.1]) (rest := []) ⟨hx, hb, hml, hown, hts⟩ (c_X6_lastFences l gm.1 v1 hv1) (va_cwS 1 hts gX7_takingFence_X6_lastFences rfl rfl rfl hd_X6_lastFences ⟨Nat.le_of_ble_eq_true rfl, Nat.le_of_ble_eq_true rfl⟩) rfl hl.1 rfl (Nat.le_of_ble_eq_true rfl) dX7_takingFence_7 ⟨Nat.zero_le _, Nat.zero_le _⟩ ?_
  obtain ⟨v2, hv2, hf⟩ := k_B hf
  refine k_callS (As := [.int v1]) (rest := []) ⟨hx, hb, hml, hown, hts⟩ (c_X3_lowestFence l v1 v2 hv2) (va_cwS 1 hts gX7_takingFence_X3_lowestFence rfl rfl rfl hd_X3_lowestFence ⟨Nat.le_of_ble_eq_true rfl, Nat.le_of_ble_eq_true rfl⟩) rfl hl.1 rfl (Nat.le_of_ble_eq_true rfl) dX7_takingFence_10 ⟨Nat.zero_le _, Nat.zero_le _⟩ ?_
  refine lv_istore_n (lv' := [(1, .int v2), (0, .ref h0)]) hx hb dX7_takingFence_13 rfl hl (by decide) rfl (fun ls hl => ?_)
  refine lv_iload_n hx hb dX7_takingFence_14 rfl (lv_at hl 0 rfl) ?_
  refine lv_iconst (v := (-1)) hx hb dX7_takingFence_15 (by decide) ?_
  refine lv_icmp_ne (tgt := 29) hx hb dX7_takingFence_16 (by decide) (fun c3 => ?_) (fun c3 => ?_)
  · have hf := k_F c3 hf
    refine lv_iload_n hx hb dX7_takingFence_29 rfl (lv_at hl 0 rfl) ?_
    obtain rfl := k_some hf
    exact k_xiret hx hb hr hP hD hS dX7_takingFence_30 hlocks
  · have hf := k_T c3 hf
    obtain rfl := k_some hf
    obtain ⟨sa, hstr⟩ := hT.2.2 (141, "no fence closes a box") (by decide +kernel)
    exact k_throwN hx hb hl9 hown (hts (.classLink "FencedBoxes" 97 k_NS) (by decide +kernel)) (hts (.initialized k_NS) (by decide +kernel)) hstr hat_NS h3_NS hZ.1 hZ.2 hS (hl.1.trans hml.symm) dX7_takingFence_19 dX7_takingFence_22 dX7_takingFence_23 dX7_takingFence_25 dX7_takingFence_28 (fun x hx => (hEx x hx).elim) (Nat.le_of_ble_eq_true rfl) (Nat.le_of_ble_eq_true rfl) (Nat.le_of_ble_eq_true rfl) (Nat.le_of_ble_eq_true rfl) hlocks (k_thrown hP hD hS) hS.2.2 (Nat.le_of_ble_eq_true rfl) (Nat.le_of_ble_eq_true rfl)
def f_X7_isSafe (n1 : Int32) (gm : k_G8) : Option ((Int32) ⊕ (String)) :=
  (f_X7_isFence n1).bind fun v1 =>
  if v1 = 0 then
    some (.inr ("java/lang/IllegalArgumentException"))
  else
    (f_X6_safe gm.1).bind fun v3 =>
    (f_X3_has v3 n1).bind fun v4 =>
    if v4 = 0 ∨ v4 = 1 then some (.inl v4) else none
abbrev rm_X7_isSafe : Room := { frames := 6, cells := 1, slots := 6, locals := 90 }
theorem hd_X7_isSafe : yX7_isSafe.cls = RX7 ∧ yX7_isSafe.cls ≠ "java/lang/invoke/MethodHandle" ∧ yX7_isSafe.cls ≠ "java/lang/invoke/VarHandle" ∧ (parseMethodDescriptor yX7_isSafe.desc).map (fun d => d.parameters.length) = some 1 := by decide +kernel
set_option maxHeartbeats 4000000 in
set_option maxRecDepth 100000 in
theorem c_X7_isSafe (l : Launch) (hl9 : l.stackTraces = false) (D : va_G) (cy : Nat → ClassId) (h0 gma sna hia ka ora cha tra ena opa foa : Nat) (gm : k_G8) (sn : k_G8) (hs : Int32) (qs : k_Q4) (k0 : k_G8) (k1 : k_G8) (k2 : k_G8) (k3 : k_G8) (ch : Nat → Int32) (o : k_O5) (tr : k_G8) (es : Int32) (op : Nat → Int32) (fo : Nat → Int32) (has : Int32) (n1 : Int32) (r : (Int32) ⊕ (String)) (hf : f_X7_isSafe n1 gm = some r) : k_XMet l yX7_isSafe wsX7_isSafe rm_X7_isSafe D (k_tys cy) [.ref h0, .int n1] (wX7 cy h0 gma sna hia ka ora cha tra ena opa foa gm sn hs qs k0 k1 k2 k3 ch o tr es op fo has) (Sum.map (fun q : Int32 => ((some (.int q), (wX7 cy h0 gma sna hia ka ora cha tra ena opa foa gm sn hs qs k0 k1 k2 k3 ch o tr es op fo has)) : Option Value × va_W)) (fun q : String => ((q, (wX7 cy h0 gma sna hia ka ora cha tra ena opa foa gm sn hs qs k0 k1 k2 k3 ch o tr es op fo has)) : String × va_W)) r) := by
  refine k_throwOf (cc := cX7_isSafe) (maxL := 2) (ret := (some .boolean)) (by decide) rfl (Nat.le_of_ble_eq_true rfl) ?_
  intro p e s m args below meth c ls A hx hb hr hlocks hml hown hts hl hA hK hP hD hN hT hZ hEx
  have hl : lv_has ls 2 [(0, .ref h0), (1, .int n1)] := hl
  have hS : va_S A s.heap s.heap [] := va_S.rf
  have in_X2 : ∀ w ∈ wsX20, w ∈ wsX7_isSafe := by decide +kernel
  have in_X7 : ∀ w ∈ wsX70, w ∈ wsX7_isSafe := by decide +kernel
  have fl10 := hts (.fieldLink RX7 10 "FencedBoxes" "game" "LFencedBoxes$Game;") (by decide +kernel)
  have fl78 := va_Nw.use (A := args) rfl (show va_Nw (.fieldLinkNest RX7 78 "FencedBoxes$Game" "fences" "I" "FencedBoxes") s from hN.2 (RX7, 78, "FencedBoxes$Game", "fences", "I", "FencedBoxes") (by decide +kernel))
  have hat_IA : ∀ w ∈ vx_atS RX7 52 "java/lang/IllegalArgumentException" ["java/lang/RuntimeException", "java/lang/Exception"], w.before args s = true := k_hat (E := "") (fun w hw => hts w ((by decide +kernel : ∀ w ∈ (vx_atS RX7 52 "java/lang/IllegalArgumentException" ["java/lang/RuntimeException", "java/lang/Exception"]).filter goodWord, w ∈ wsX7_isSafe) w hw)) h2_IA hT
  unfold f_X7_isSafe at hf
  obtain ⟨H, eH⟩ : ∃ H, H = s.heap := ⟨_, rfl⟩
  obtain ⟨locs, elocs⟩ : ∃ L : List Loc, L = [] := ⟨_, rfl⟩
  have hP : va_P D vwCl (wX7 cy h0 gma sna hia ka ora cha tra ena opa foa gm sn hs qs k0 k1 k2 k3 ch o tr es op fo has) H := by rw [eH]; exact hP
  have hS : va_S A s.heap H locs := by rw [eH, elocs]; exact hS
  refine k_here eH elocs ?_
  refine lv_iload_n hx hb dX7_isSafe_0 rfl (lv_at hl 1 rfl) ?_
  obtain ⟨v1, hv1, hf⟩ := k_B hf
  refine k_callS (As := [.int n1]) (rest := []) ⟨hx, hb, hml, hown, hts⟩ (c_X7_isFence l n1 v1 hv1) (va_cwS 1 hts gX7_isSafe_X7_isFence rfl rfl rfl hd_X7_isFence ⟨Nat.le_of_ble_eq_true rfl, Nat.le_of_ble_eq_true rfl⟩) rfl hl.1 rfl (Nat.le_of_ble_eq_true rfl) dX7_isSafe_1 ⟨Nat.zero_le _, Nat.zero_le _⟩ ?_
  refine lv_if_ne (tgt := 17) hx hb dX7_isSafe_4 (by decide) (fun c2 => ?_) (fun c2 => ?_)
  · have hf := k_F c2 hf
    refine lv_aload_n hx hb dX7_isSafe_17 rfl (lv_at hl 0 rfl) ?_
    refine va_get (D := D) (ci := 4) (v := .ref gma) (C := RX7) (T := TX7) (N := 6) hx hb hts in_X7 hown hK hP 0 rfl rfl 0 (by decide) fl10 (fun _ h9 => h9) rfl dX7_isSafe_18 ?_
    refine va_getN (D := D) (ci := 1) (v := .int gm.1) (C := RX2) (T := TX2) (N := 8) hx hb hts in_X2 hown hK hP 1 rfl rfl 0 (by decide) fl78 (fun _ h9 => h9) rfl dX7_isSafe_21 ?_
    obtain ⟨v3, hv3, hf⟩ := k_B hf
    refine k_callS (As := [.int gm.1]) (rest := []) ⟨hx, hb, hml, hown, hts⟩ (c_X6_safe l gm.1 v3 hv3) (va_cwS 1 hts gX7_isSafe_X6_safe rfl rfl rfl hd_X6_safe ⟨Nat.le_of_ble_eq_true rfl, Nat.le_of_ble_eq_true rfl⟩) rfl hl.1 rfl (Nat.le_of_ble_eq_true rfl) dX7_isSafe_24 ⟨Nat.zero_le _, Nat.zero_le _⟩ ?_
    refine lv_iload_n hx hb dX7_isSafe_27 rfl (lv_at hl 1 rfl) ?_
    obtain ⟨v4, hv4, hf⟩ := k_B hf
    refine k_callS (As := [.int v3, .int n1]) (rest := []) ⟨hx, hb, hml, hown, hts⟩ (c_X3_has l v3 n1 v4 hv4) (va_cwS 2 hts gX7_isSafe_X3_has rfl rfl rfl hd_X3_has ⟨Nat.le_of_ble_eq_true rfl, Nat.le_of_ble_eq_true rfl⟩) rfl hl.1 rfl (Nat.le_of_ble_eq_true rfl) dX7_isSafe_28 ⟨Nat.zero_le _, Nat.zero_le _⟩ ?_
    obtain ⟨rfl, hn⟩ := k_boolR hf
    exact k_xzret hx hb hr hn hP hD hS dX7_isSafe_31 hlocks
  · have hf := k_T c2 hf
    obtain rfl := k_some hf
    obtain ⟨sa, hstr⟩ := hT.2.2 (50, "there is no such fence") (by decide +kernel)
    exact vx_throwS (own := RX7) (cls := "java/lang/IllegalArgumentException") (names := ["java/lang/RuntimeException", "java/lang/Exception"]) hx hb hl9 hown (by decide +kernel) (by decide +kernel) (hts (.classLink RX7 48 "java/lang/IllegalArgumentException") (by decide +kernel)) (hts (.initialized "java/lang/IllegalArgumentException") (by decide +kernel)) hstr hat_IA h3_IA hZ.1 hZ.2 hS (hl.1.trans hml.symm) dX7_isSafe_7 dX7_isSafe_10 dX7_isSafe_11 dX7_isSafe_13 dX7_isSafe_16 (fun x hx => (hEx x hx).elim) (Nat.le_of_ble_eq_true rfl) (Nat.le_of_ble_eq_true rfl) (Nat.le_of_ble_eq_true rfl) (Nat.le_of_ble_eq_true rfl) hlocks (k_thrown hP hD hS) hS.2.2 (Nat.le_of_ble_eq_true rfl) (Nat.le_of_ble_eq_true rfl)
def f_X7_gives (n1 : Int32) (gm : k_G8) : Option ((Int32) ⊕ (String)) :=
  (f_X7_isFence n1).bind fun v1 =>
  if v1 = 0 then
    some (.inr ("java/lang/IllegalArgumentException"))
  else
    (f_X3_has gm.1 n1).bind fun v3 =>
    if v3 = 0 then
      (f_X6_givenBy gm.1 n1).bind fun v5 =>
      some (.inl v5)
    else
      some (.inr ("java/lang/IllegalStateException"))
abbrev rm_X7_gives : Room := { frames := 6, cells := 1, slots := 6, locals := 111 }
theorem hd_X7_gives : yX7_gives.cls = RX7 ∧ yX7_gives.cls ≠ "java/lang/invoke/MethodHandle" ∧ yX7_gives.cls ≠ "java/lang/invoke/VarHandle" ∧ (parseMethodDescriptor yX7_gives.desc).map (fun d => d.parameters.length) = some 1 := by decide +kernel
set_option maxHeartbeats 4000000 in
set_option maxRecDepth 100000 in
theorem c_X7_gives (l : Launch) (hl9 : l.stackTraces = false) (D : va_G) (cy : Nat → ClassId) (h0 gma sna hia ka ora cha tra ena opa foa : Nat) (gm : k_G8) (sn : k_G8) (hs : Int32) (qs : k_Q4) (k0 : k_G8) (k1 : k_G8) (k2 : k_G8) (k3 : k_G8) (ch : Nat → Int32) (o : k_O5) (tr : k_G8) (es : Int32) (op : Nat → Int32) (fo : Nat → Int32) (has : Int32) (n1 : Int32) (r : (Int32) ⊕ (String)) (hf : f_X7_gives n1 gm = some r) : k_XMet l yX7_gives wsX7_gives rm_X7_gives D (k_tys cy) [.ref h0, .int n1] (wX7 cy h0 gma sna hia ka ora cha tra ena opa foa gm sn hs qs k0 k1 k2 k3 ch o tr es op fo has) (Sum.map (fun q : Int32 => ((some (.int q), (wX7 cy h0 gma sna hia ka ora cha tra ena opa foa gm sn hs qs k0 k1 k2 k3 ch o tr es op fo has)) : Option Value × va_W)) (fun q : String => ((q, (wX7 cy h0 gma sna hia ka ora cha tra ena opa foa gm sn hs qs k0 k1 k2 k3 ch o tr es op fo has)) : String × va_W)) r) := by
  refine k_throwOf (cc := cX7_gives) (maxL := 2) (ret := (some .int)) (by decide) rfl (Nat.le_of_ble_eq_true rfl) ?_
  intro p e s m args below meth c ls A hx hb hr hlocks hml hown hts hl hA hK hP hD hN hT hZ hEx
  have hl : lv_has ls 2 [(0, .ref h0), (1, .int n1)] := hl
  have hS : va_S A s.heap s.heap [] := va_S.rf
  have in_X2 : ∀ w ∈ wsX20, w ∈ wsX7_gives := by decide +kernel
  have in_X7 : ∀ w ∈ wsX70, w ∈ wsX7_gives := by decide +kernel
  have fl10 := hts (.fieldLink RX7 10 "FencedBoxes" "game" "LFencedBoxes$Game;") (by decide +kernel)
  have fl78 := va_Nw.use (A := args) rfl (show va_Nw (.fieldLinkNest RX7 78 "FencedBoxes$Game" "fences" "I" "FencedBoxes") s from hN.2 (RX7, 78, "FencedBoxes$Game", "fences", "I", "FencedBoxes") (by decide +kernel))
  have hat_IA : ∀ w ∈ vx_atS RX7 52 "java/lang/IllegalArgumentException" ["java/lang/RuntimeException", "java/lang/Exception"], w.before args s = true := k_hat (E := "") (fun w hw => hts w ((by decide +kernel : ∀ w ∈ (vx_atS RX7 52 "java/lang/IllegalArgumentException" ["java/lang/RuntimeException", "java/lang/Exception"]).filter goodWord, w ∈ wsX7_gives) w hw)) h2_IA hT
  have hat_IS : ∀ w ∈ vx_atS RX7 63 "java/lang/IllegalStateException" ["java/lang/RuntimeException", "java/lang/Exception"], w.before args s = true := k_hat (E := "") (fun w hw => hts w ((by decide +kernel : ∀ w ∈ (vx_atS RX7 63 "java/lang/IllegalStateException" ["java/lang/RuntimeException", "java/lang/Exception"]).filter goodWord, w ∈ wsX7_gives) w hw)) h2_IS hT
  unfold f_X7_gives at hf
  obtain ⟨H, eH⟩ : ∃ H, H = s.heap := ⟨_, rfl⟩
  obtain ⟨locs, elocs⟩ : ∃ L : List Loc, L = [] := ⟨_, rfl⟩
  have hP : va_P D vwCl (wX7 cy h0 gma sna hia ka ora cha tra ena opa foa gm sn hs qs k0 k1 k2 k3 ch o tr es op fo has) H := by rw [eH]; exact hP
  have hS : va_S A s.heap H locs := by rw [eH, elocs]; exact hS
  refine k_here eH elocs ?_
  refine lv_iload_n hx hb dX7_gives_0 rfl (lv_at hl 1 rfl) ?_
  obtain ⟨v1, hv1, hf⟩ := k_B hf
  refine k_callS (As := [.int n1]) (rest := []) ⟨hx, hb, hml, hown, hts⟩ (c_X7_isFence l n1 v1 hv1) (va_cwS 1 hts gX7_gives_X7_isFence rfl rfl rfl hd_X7_isFence ⟨Nat.le_of_ble_eq_true rfl, Nat.le_of_ble_eq_true rfl⟩) rfl hl.1 rfl (Nat.le_of_ble_eq_true rfl) dX7_gives_1 ⟨Nat.zero_le _, Nat.zero_le _⟩ ?_
  refine lv_if_ne (tgt := 17) hx hb dX7_gives_4 (by decide) (fun c2 => ?_) (fun c2 => ?_)
  · have hf := k_F c2 hf
    refine lv_aload_n hx hb dX7_gives_17 rfl (lv_at hl 0 rfl) ?_
    refine va_get (D := D) (ci := 4) (v := .ref gma) (C := RX7) (T := TX7) (N := 6) hx hb hts in_X7 hown hK hP 0 rfl rfl 0 (by decide) fl10 (fun _ h9 => h9) rfl dX7_gives_18 ?_
    refine va_getN (D := D) (ci := 1) (v := .int gm.1) (C := RX2) (T := TX2) (N := 8) hx hb hts in_X2 hown hK hP 1 rfl rfl 0 (by decide) fl78 (fun _ h9 => h9) rfl dX7_gives_21 ?_
    refine lv_iload_n hx hb dX7_gives_24 rfl (lv_at hl 1 rfl) ?_
    obtain ⟨v3, hv3, hf⟩ := k_B hf
    refine k_callS (As := [.int gm.1, .int n1]) (rest := []) ⟨hx, hb, hml, hown, hts⟩ (c_X3_has l gm.1 n1 v3 hv3) (va_cwS 2 hts gX7_gives_X3_has rfl rfl rfl hd_X3_has ⟨Nat.le_of_ble_eq_true rfl, Nat.le_of_ble_eq_true rfl⟩) rfl hl.1 rfl (Nat.le_of_ble_eq_true rfl) dX7_gives_25 ⟨Nat.zero_le _, Nat.zero_le _⟩ ?_
    refine lv_if_eq (tgt := 41) hx hb dX7_gives_28 (by decide) (fun c4 => ?_) (fun c4 => ?_)
    · have hf := k_T c4 hf
      refine lv_aload_n hx hb dX7_gives_41 rfl (lv_at hl 0 rfl) ?_
      refine va_get (D := D) (ci := 4) (v := .ref gma) (C := RX7) (T := TX7) (N := 6) hx hb hts in_X7 hown hK hP 0 rfl rfl 0 (by decide) fl10 (fun _ h9 => h9) rfl dX7_gives_42 ?_
      refine va_getN (D := D) (ci := 1) (v := .int gm.1) (C := RX2) (T := TX2) (N := 8) hx hb hts in_X2 hown hK hP 1 rfl rfl 0 (by decide) fl78 (fun _ h9 => h9) rfl dX7_gives_45 ?_
      refine lv_iload_n hx hb dX7_gives_48 rfl (lv_at hl 1 rfl) ?_
      obtain ⟨v5, hv5, hf⟩ := k_B hf
      refine k_callS (As := [.int gm.1, .int n1]) (rest := []) ⟨hx, hb, hml, hown, hts⟩ (c_X6_givenBy l gm.1 n1 v5 hv5) (va_cwS 2 hts gX7_gives_X6_givenBy rfl rfl rfl hd_X6_givenBy ⟨Nat.le_of_ble_eq_true rfl, Nat.le_of_ble_eq_true rfl⟩) rfl hl.1 rfl (Nat.le_of_ble_eq_true rfl) dX7_gives_49 ⟨Nat.zero_le _, Nat.zero_le _⟩ ?_
      obtain rfl := k_some hf
      exact k_xiret hx hb hr hP hD hS dX7_gives_52 hlocks
    · have hf := k_F c4 hf
      obtain rfl := k_some hf
      obtain ⟨sa, hstr⟩ := hT.2.2 (149, "the fence is drawn") (by decide +kernel)
      exact vx_throwS (own := RX7) (cls := "java/lang/IllegalStateException") (names := ["java/lang/RuntimeException", "java/lang/Exception"]) hx hb hl9 hown (by decide +kernel) (by decide +kernel) (hts (.classLink RX7 59 "java/lang/IllegalStateException") (by decide +kernel)) (hts (.initialized "java/lang/IllegalStateException") (by decide +kernel)) hstr hat_IS h3_IS hZ.1 hZ.2 hS (hl.1.trans hml.symm) dX7_gives_31 dX7_gives_34 dX7_gives_35 dX7_gives_37 dX7_gives_40 (fun x hx => (hEx x hx).elim) (Nat.le_of_ble_eq_true rfl) (Nat.le_of_ble_eq_true rfl) (Nat.le_of_ble_eq_true rfl) (Nat.le_of_ble_eq_true rfl) hlocks (k_thrown hP hD hS) hS.2.2 (Nat.le_of_ble_eq_true rfl) (Nat.le_of_ble_eq_true rfl)
  · have hf := k_T c2 hf
    obtain rfl := k_some hf
    obtain ⟨sa, hstr⟩ := hT.2.2 (50, "there is no such fence") (by decide +kernel)
    exact vx_throwS (own := RX7) (cls := "java/lang/IllegalArgumentException") (names := ["java/lang/RuntimeException", "java/lang/Exception"]) hx hb hl9 hown (by decide +kernel) (by decide +kernel) (hts (.classLink RX7 48 "java/lang/IllegalArgumentException") (by decide +kernel)) (hts (.initialized "java/lang/IllegalArgumentException") (by decide +kernel)) hstr hat_IA h3_IA hZ.1 hZ.2 hS (hl.1.trans hml.symm) dX7_gives_7 dX7_gives_10 dX7_gives_11 dX7_gives_13 dX7_gives_16 (fun x hx => (hEx x hx).elim) (Nat.le_of_ble_eq_true rfl) (Nat.le_of_ble_eq_true rfl) (Nat.le_of_ble_eq_true rfl) (Nat.le_of_ble_eq_true rfl) hlocks (k_thrown hP hD hS) hS.2.2 (Nat.le_of_ble_eq_true rfl) (Nat.le_of_ble_eq_true rfl)
def f_X7_leastSacrifice (gm : k_G8) : Option ((Int32) ⊕ (String)) :=
  (f_X6_leastGiving gm.1).bind fun v1 =>
  if v1 = (-1) then
    some (.inr ("java/util/NoSuchElementException"))
  else
    some (.inl v1)
abbrev rm_X7_leastSacrifice : Room := { frames := 6, cells := 1, slots := 6, locals := 135 }
theorem hd_X7_leastSacrifice : yX7_leastSacrifice.cls = RX7 ∧ yX7_leastSacrifice.cls ≠ "java/lang/invoke/MethodHandle" ∧ yX7_leastSacrifice.cls ≠ "java/lang/invoke/VarHandle" ∧ (parseMethodDescriptor yX7_leastSacrifice.desc).map (fun d => d.parameters.length) = some 0 := by decide +kernel
set_option maxHeartbeats 4000000 in
set_option maxRecDepth 100000 in
theorem c_X7_leastSacrifice (l : Launch) (hl9 : l.stackTraces = false) (D : va_G) (cy : Nat → ClassId) (h0 gma sna hia ka ora cha tra ena opa foa : Nat) (gm : k_G8) (sn : k_G8) (hs : Int32) (qs : k_Q4) (k0 : k_G8) (k1 : k_G8) (k2 : k_G8) (k3 : k_G8) (ch : Nat → Int32) (o : k_O5) (tr : k_G8) (es : Int32) (op : Nat → Int32) (fo : Nat → Int32) (has : Int32)  (r : (Int32) ⊕ (String)) (hf : f_X7_leastSacrifice gm = some r) : k_XMet l yX7_leastSacrifice wsX7_leastSacrifice rm_X7_leastSacrifice D (k_tys cy) [.ref h0] (wX7 cy h0 gma sna hia ka ora cha tra ena opa foa gm sn hs qs k0 k1 k2 k3 ch o tr es op fo has) (Sum.map (fun q : Int32 => ((some (.int q), (wX7 cy h0 gma sna hia ka ora cha tra ena opa foa gm sn hs qs k0 k1 k2 k3 ch o tr es op fo has)) : Option Value × va_W)) (fun q : String => ((q, (wX7 cy h0 gma sna hia ka ora cha tra ena opa foa gm sn hs qs k0 k1 k2 k3 ch o tr es op fo has)) : String × va_W)) r) := by
  refine k_throwOf (cc := cX7_leastSacrifice) (maxL := 2) (ret := (some .int)) (by decide) rfl (Nat.le_of_ble_eq_true rfl) ?_
  intro p e s m args below meth c ls A hx hb hr hlocks hml hown hts hl hA hK hP hD hN hT hZ hEx
  have hl : lv_has ls 2 [(0, .ref h0)] := hl
  have hS : va_S A s.heap s.heap [] := va_S.rf
  have in_X2 : ∀ w ∈ wsX20, w ∈ wsX7_leastSacrifice := by decide +kernel
  have in_X7 : ∀ w ∈ wsX70, w ∈ wsX7_leastSacrifice := by decide +kernel
  have fl10 := hts (.fieldLink RX7 10 "FencedBoxes" "game" "LFencedBoxes$Game;") (by decide +kernel)
  have fl78 := va_Nw.use (A := args) rfl (show va_Nw (.fieldLinkNest RX7 78 "FencedBoxes$Game" "fences" "I" "FencedBoxes") s from hN.2 (RX7, 78, "FencedBoxes$Game", "fences", "I", "FencedBoxes") (by decide +kernel))
  have hat_NS : ∀ w ∈ k_atN, w.before args s = true := k_hat (E := "") (fun w hw => hts w ((by decide +kernel : ∀ w ∈ (k_atN).filter goodWord, w ∈ wsX7_leastSacrifice) w hw)) h2_NS hT
  unfold f_X7_leastSacrifice at hf
  obtain ⟨H, eH⟩ : ∃ H, H = s.heap := ⟨_, rfl⟩
  obtain ⟨locs, elocs⟩ : ∃ L : List Loc, L = [] := ⟨_, rfl⟩
  have hP : va_P D vwCl (wX7 cy h0 gma sna hia ka ora cha tra ena opa foa gm sn hs qs k0 k1 k2 k3 ch o tr es op fo has) H := by rw [eH]; exact hP
  have hS : va_S A s.heap H locs := by rw [eH, elocs]; exact hS
  refine k_here eH elocs ?_
  refine lv_aload_n hx hb dX7_leastSacrifice_0 rfl (lv_at hl 0 rfl) ?_
  refine va_get (D := D) (ci := 4) (v := .ref gma) (C := RX7) (T := TX7) (N := 6) hx hb hts in_X7 hown hK hP 0 rfl rfl 0 (by decide) fl10 (fun _ h9 => h9) rfl dX7_leastSacrifice_1 ?_
  refine va_getN (D := D) (ci := 1) (v := .int gm.1) (C := RX2) (T := TX2) (N := 8) hx hb hts in_X2 hown hK hP 1 rfl rfl 0 (by decide) fl78 (fun _ h9 => h9) rfl dX7_leastSacrifice_4 ?_
  obtain ⟨v1, hv1, hf⟩ := k_B hf
  refine k_callS (As := [.int gm.1]) (rest := []) ⟨hx, hb, hml, hown, hts⟩ (c_X6_leastGiving l gm.1 v1 hv1) (va_cwS 1 hts gX7_leastSacrifice_X6_leastGiving rfl rfl rfl hd_X6_leastGiving ⟨Nat.le_of_ble_eq_true rfl, Nat.le_of_ble_eq_true rfl⟩) rfl hl.1 rfl (Nat.le_of_ble_eq_true rfl) dX7_leastSacrifice_7 ⟨Nat.zero_le _, Nat.zero_le _⟩ ?_
  refine lv_istore_n (lv' := [(1, .int v1), (0, .ref h0)]) hx hb dX7_leastSacrifice_10 rfl hl (by decide) rfl (fun ls hl => ?_)
  refine lv_iload_n hx hb dX7_leastSacrifice_11 rfl (lv_at hl 0 rfl) ?_
  refine lv_iconst (v := (-1)) hx hb dX7_leastSacrifice_12 (by decide) ?_
  refine lv_icmp_ne (tgt := 26) hx hb dX7_leastSacrifice_13 (by decide) (fun c2 => ?_) (fun c2 => ?_)
  · have hf := k_F c2 hf
    refine lv_iload_n hx hb dX7_leastSacrifice_26 rfl (lv_at hl 0 rfl) ?_
    obtain rfl := k_some hf
    exact k_xiret hx hb hr hP hD hS dX7_leastSacrifice_27 hlocks
  · have hf := k_T c2 hf
    obtain rfl := k_some hf
    obtain ⟨sa, hstr⟩ := hT.2.2 (157, "all fences are drawn") (by decide +kernel)
    exact k_throwN hx hb hl9 hown (hts (.classLink "FencedBoxes" 97 k_NS) (by decide +kernel)) (hts (.initialized k_NS) (by decide +kernel)) hstr hat_NS h3_NS hZ.1 hZ.2 hS (hl.1.trans hml.symm) dX7_leastSacrifice_16 dX7_leastSacrifice_19 dX7_leastSacrifice_20 dX7_leastSacrifice_22 dX7_leastSacrifice_25 (fun x hx => (hEx x hx).elim) (Nat.le_of_ble_eq_true rfl) (Nat.le_of_ble_eq_true rfl) (Nat.le_of_ble_eq_true rfl) (Nat.le_of_ble_eq_true rfl) hlocks (k_thrown hP hD hS) hS.2.2 (Nat.le_of_ble_eq_true rfl) (Nat.le_of_ble_eq_true rfl)
def f_X7_chainOf (n1 : Int32) (gm : k_G8) : Option ((Int32) ⊕ (String)) :=
  (f_X7_isBox n1).bind fun v1 =>
  if v1 = 0 then
    some (.inr ("java/lang/IllegalArgumentException"))
  else
    (f_X3_countSides gm.1 n1).bind fun v3 =>
    if v3 = 2 then
      (f_X0_around gm.1 n1).bind fun v5 =>
      (f_J6_bitCount_0f7a4 v5).bind fun v6 =>
      some (.inl v6)
    else
      some (.inr ("java/util/NoSuchElementException"))
abbrev rm_X7_chainOf : Room := { frames := 6, cells := 1, slots := 6, locals := 95 }
theorem hd_X7_chainOf : yX7_chainOf.cls = RX7 ∧ yX7_chainOf.cls ≠ "java/lang/invoke/MethodHandle" ∧ yX7_chainOf.cls ≠ "java/lang/invoke/VarHandle" ∧ (parseMethodDescriptor yX7_chainOf.desc).map (fun d => d.parameters.length) = some 1 := by decide +kernel
set_option maxHeartbeats 4000000 in
set_option maxRecDepth 100000 in
theorem c_X7_chainOf (l : Launch) (hl9 : l.stackTraces = false) (D : va_G) (cy : Nat → ClassId) (h0 gma sna hia ka ora cha tra ena opa foa : Nat) (gm : k_G8) (sn : k_G8) (hs : Int32) (qs : k_Q4) (k0 : k_G8) (k1 : k_G8) (k2 : k_G8) (k3 : k_G8) (ch : Nat → Int32) (o : k_O5) (tr : k_G8) (es : Int32) (op : Nat → Int32) (fo : Nat → Int32) (has : Int32) (n1 : Int32) (r : (Int32) ⊕ (String)) (hf : f_X7_chainOf n1 gm = some r) : k_XMet l yX7_chainOf wsX7_chainOf rm_X7_chainOf D (k_tys cy) [.ref h0, .int n1] (wX7 cy h0 gma sna hia ka ora cha tra ena opa foa gm sn hs qs k0 k1 k2 k3 ch o tr es op fo has) (Sum.map (fun q : Int32 => ((some (.int q), (wX7 cy h0 gma sna hia ka ora cha tra ena opa foa gm sn hs qs k0 k1 k2 k3 ch o tr es op fo has)) : Option Value × va_W)) (fun q : String => ((q, (wX7 cy h0 gma sna hia ka ora cha tra ena opa foa gm sn hs qs k0 k1 k2 k3 ch o tr es op fo has)) : String × va_W)) r) := by
  refine k_throwOf (cc := cX7_chainOf) (maxL := 2) (ret := (some .int)) (by decide) rfl (Nat.le_of_ble_eq_true rfl) ?_
  intro p e s m args below meth c ls A hx hb hr hlocks hml hown hts hl hA hK hP hD hN hT hZ hEx
  have hl : lv_has ls 2 [(0, .ref h0), (1, .int n1)] := hl
  have hS : va_S A s.heap s.heap [] := va_S.rf
  have in_X2 : ∀ w ∈ wsX20, w ∈ wsX7_chainOf := by decide +kernel
  have in_X7 : ∀ w ∈ wsX70, w ∈ wsX7_chainOf := by decide +kernel
  have fl10 := hts (.fieldLink RX7 10 "FencedBoxes" "game" "LFencedBoxes$Game;") (by decide +kernel)
  have fl78 := va_Nw.use (A := args) rfl (show va_Nw (.fieldLinkNest RX7 78 "FencedBoxes$Game" "fences" "I" "FencedBoxes") s from hN.2 (RX7, 78, "FencedBoxes$Game", "fences", "I", "FencedBoxes") (by decide +kernel))
  have hat_IA : ∀ w ∈ vx_atS RX7 52 "java/lang/IllegalArgumentException" ["java/lang/RuntimeException", "java/lang/Exception"], w.before args s = true := k_hat (E := "") (fun w hw => hts w ((by decide +kernel : ∀ w ∈ (vx_atS RX7 52 "java/lang/IllegalArgumentException" ["java/lang/RuntimeException", "java/lang/Exception"]).filter goodWord, w ∈ wsX7_chainOf) w hw)) h2_IA hT
  have hat_NS : ∀ w ∈ k_atN, w.before args s = true := k_hat (E := "") (fun w hw => hts w ((by decide +kernel : ∀ w ∈ (k_atN).filter goodWord, w ∈ wsX7_chainOf) w hw)) h2_NS hT
  unfold f_X7_chainOf at hf
  obtain ⟨H, eH⟩ : ∃ H, H = s.heap := ⟨_, rfl⟩
  obtain ⟨locs, elocs⟩ : ∃ L : List Loc, L = [] := ⟨_, rfl⟩
  have hP : va_P D vwCl (wX7 cy h0 gma sna hia ka ora cha tra ena opa foa gm sn hs qs k0 k1 k2 k3 ch o tr es op fo has) H := by rw [eH]; exact hP
  have hS : va_S A s.heap H locs := by rw [eH, elocs]; exact hS
  refine k_here eH elocs ?_
  refine lv_iload_n hx hb dX7_chainOf_0 rfl (lv_at hl 1 rfl) ?_
  obtain ⟨v1, hv1, hf⟩ := k_B hf
  refine k_callS (As := [.int n1]) (rest := []) ⟨hx, hb, hml, hown, hts⟩ (c_X7_isBox l n1 v1 hv1) (va_cwS 1 hts gX7_chainOf_X7_isBox rfl rfl rfl hd_X7_isBox ⟨Nat.le_of_ble_eq_true rfl, Nat.le_of_ble_eq_true rfl⟩) rfl hl.1 rfl (Nat.le_of_ble_eq_true rfl) dX7_chainOf_1 ⟨Nat.zero_le _, Nat.zero_le _⟩ ?_
  refine lv_if_ne (tgt := 17) hx hb dX7_chainOf_4 (by decide) (fun c2 => ?_) (fun c2 => ?_)
  · have hf := k_F c2 hf
    refine lv_aload_n hx hb dX7_chainOf_17 rfl (lv_at hl 0 rfl) ?_
    refine va_get (D := D) (ci := 4) (v := .ref gma) (C := RX7) (T := TX7) (N := 6) hx hb hts in_X7 hown hK hP 0 rfl rfl 0 (by decide) fl10 (fun _ h9 => h9) rfl dX7_chainOf_18 ?_
    refine va_getN (D := D) (ci := 1) (v := .int gm.1) (C := RX2) (T := TX2) (N := 8) hx hb hts in_X2 hown hK hP 1 rfl rfl 0 (by decide) fl78 (fun _ h9 => h9) rfl dX7_chainOf_21 ?_
    refine lv_iload_n hx hb dX7_chainOf_24 rfl (lv_at hl 1 rfl) ?_
    obtain ⟨v3, hv3, hf⟩ := k_B hf
    refine k_callS (As := [.int gm.1, .int n1]) (rest := []) ⟨hx, hb, hml, hown, hts⟩ (c_X3_countSides l gm.1 n1 v3 hv3) (va_cwS 2 hts gX7_chainOf_X3_countSides rfl rfl rfl hd_X3_countSides ⟨Nat.le_of_ble_eq_true rfl, Nat.le_of_ble_eq_true rfl⟩) rfl hl.1 rfl (Nat.le_of_ble_eq_true rfl) dX7_chainOf_25 ⟨Nat.zero_le _, Nat.zero_le _⟩ ?_
    refine lv_iconst (v := 2) hx hb dX7_chainOf_28 (by decide) ?_
    refine lv_icmp_eq (tgt := 42) hx hb dX7_chainOf_29 (by decide) (fun c4 => ?_) (fun c4 => ?_)
    · have hf := k_T c4 hf
      refine lv_aload_n hx hb dX7_chainOf_42 rfl (lv_at hl 0 rfl) ?_
      refine va_get (D := D) (ci := 4) (v := .ref gma) (C := RX7) (T := TX7) (N := 6) hx hb hts in_X7 hown hK hP 0 rfl rfl 0 (by decide) fl10 (fun _ h9 => h9) rfl dX7_chainOf_43 ?_
      refine va_getN (D := D) (ci := 1) (v := .int gm.1) (C := RX2) (T := TX2) (N := 8) hx hb hts in_X2 hown hK hP 1 rfl rfl 0 (by decide) fl78 (fun _ h9 => h9) rfl dX7_chainOf_46 ?_
      refine lv_iload_n hx hb dX7_chainOf_49 rfl (lv_at hl 1 rfl) ?_
      obtain ⟨v5, hv5, hf⟩ := k_B hf
      refine k_callS (As := [.int gm.1, .int n1]) (rest := []) ⟨hx, hb, hml, hown, hts⟩ (c_X0_around l gm.1 n1 v5 hv5) (va_cwS 2 hts gX7_chainOf_X0_around rfl rfl rfl hd_X0_around ⟨Nat.le_of_ble_eq_true rfl, Nat.le_of_ble_eq_true rfl⟩) rfl hl.1 rfl (Nat.le_of_ble_eq_true rfl) dX7_chainOf_50 ⟨Nat.zero_le _, Nat.zero_le _⟩ ?_
      obtain ⟨v6, hv6, hf⟩ := k_B hf
      refine k_callS (As := [.int v5]) (rest := []) ⟨hx, hb, hml, hown, hts⟩ (c_J6_bitCount_0f7a4 l v5 v6 hv6) (va_cwS 1 hts gX7_chainOf_J6_bitCount_0f7a4 rfl rfl rfl hd_J6_bitCount_0f7a4 ⟨Nat.le_of_ble_eq_true rfl, Nat.le_of_ble_eq_true rfl⟩) rfl hl.1 rfl (Nat.le_of_ble_eq_true rfl) dX7_chainOf_53 ⟨Nat.zero_le _, Nat.zero_le _⟩ ?_
      obtain rfl := k_some hf
      exact k_xiret hx hb hr hP hD hS dX7_chainOf_56 hlocks
    · have hf := k_F c4 hf
      obtain rfl := k_some hf
      obtain ⟨sa, hstr⟩ := hT.2.2 (164, "the box is in no chain") (by decide +kernel)
      exact k_throwN hx hb hl9 hown (hts (.classLink "FencedBoxes" 97 k_NS) (by decide +kernel)) (hts (.initialized k_NS) (by decide +kernel)) hstr hat_NS h3_NS hZ.1 hZ.2 hS (hl.1.trans hml.symm) dX7_chainOf_32 dX7_chainOf_35 dX7_chainOf_36 dX7_chainOf_38 dX7_chainOf_41 (fun x hx => (hEx x hx).elim) (Nat.le_of_ble_eq_true rfl) (Nat.le_of_ble_eq_true rfl) (Nat.le_of_ble_eq_true rfl) (Nat.le_of_ble_eq_true rfl) hlocks (k_thrown hP hD hS) hS.2.2 (Nat.le_of_ble_eq_true rfl) (Nat.le_of_ble_eq_true rfl)
  · have hf := k_T c2 hf
    obtain rfl := k_some hf
    obtain ⟨sa, hstr⟩ := hT.2.2 (91, "there is no such box") (by decide +kernel)
    exact vx_throwS (own := RX7) (cls := "java/lang/IllegalArgumentException") (names := ["java/lang/RuntimeException", "java/lang/Exception"]) hx hb hl9 hown (by decide +kernel) (by decide +kernel) (hts (.classLink RX7 48 "java/lang/IllegalArgumentException") (by decide +kernel)) (hts (.initialized "java/lang/IllegalArgumentException") (by decide +kernel)) hstr hat_IA h3_IA hZ.1 hZ.2 hS (hl.1.trans hml.symm) dX7_chainOf_7 dX7_chainOf_10 dX7_chainOf_11 dX7_chainOf_13 dX7_chainOf_16 (fun x hx => (hEx x hx).elim) (Nat.le_of_ble_eq_true rfl) (Nat.le_of_ble_eq_true rfl) (Nat.le_of_ble_eq_true rfl) (Nat.le_of_ble_eq_true rfl) hlocks (k_thrown hP hD hS) hS.2.2 (Nat.le_of_ble_eq_true rfl) (Nat.le_of_ble_eq_true rfl)
def f_X7_endDifference (gm : k_G8) (es : Int32) (op : Nat → Int32) (fo : Nat → Int32) : Option ((Int32 × Int32 × (Nat → Int32) × (Nat → Int32)) ⊕ (String × Int32 × (Nat → Int32) × (Nat → Int32))) :=
  (f_X1_isNear gm.1).bind fun v1 =>
  if v1 = 0 then
    some (.inr ("java/util/NoSuchElementException", es, op, fo))
  else
    (f_X1_workOut gm.1 es op fo).bind fun v3 =>
    (f_X1_difference v3.1 v3.2.2).bind fun v4 =>
    some (.inl (v4, v3.1, v3.2.1, v3.2.2))
abbrev rm_X7_endDifference : Room := { frames := 6, cells := 1, slots := 6, locals := 137 }
theorem hd_X7_endDifference : yX7_endDifference.cls = RX7 ∧ yX7_endDifference.cls ≠ "java/lang/invoke/MethodHandle" ∧ yX7_endDifference.cls ≠ "java/lang/invoke/VarHandle" ∧ (parseMethodDescriptor yX7_endDifference.desc).map (fun d => d.parameters.length) = some 0 := by decide +kernel
set_option maxHeartbeats 4000000 in
set_option maxRecDepth 100000 in
theorem c_X7_endDifference (l : Launch) (hl9 : l.stackTraces = false) (D : va_G) (cy : Nat → ClassId) (h0 gma sna hia ka ora cha tra ena opa foa : Nat) (gm : k_G8) (sn : k_G8) (hs : Int32) (qs : k_Q4) (k0 : k_G8) (k1 : k_G8) (k2 : k_G8) (k3 : k_G8) (ch : Nat → Int32) (o : k_O5) (tr : k_G8) (es : Int32) (op : Nat → Int32) (fo : Nat → Int32) (has : Int32)  (r : (Int32 × Int32 × (Nat → Int32) × (Nat → Int32)) ⊕ (String × Int32 × (Nat → Int32) × (Nat → Int32))) (hf : f_X7_endDifference gm es op fo = some r) : k_XMet l yX7_endDifference wsX7_endDifference rm_X7_endDifference D (k_tys cy) [.ref h0] (wX7 cy h0 gma sna hia ka ora cha tra ena opa foa gm sn hs qs k0 k1 k2 k3 ch o tr es op fo has) (Sum.map (fun q : Int32 × Int32 × (Nat → Int32) × (Nat → Int32) => ((some (.int q.1), (wX7 cy h0 gma sna hia ka ora cha tra ena opa foa gm sn hs qs k0 k1 k2 k3 ch o tr q.2.1 q.2.2.1 q.2.2.2 has)) : Option Value × va_W)) (fun q : String × Int32 × (Nat → Int32) × (Nat → Int32) => ((q.1, (wX7 cy h0 gma sna hia ka ora cha tra ena opa foa gm sn hs qs k0 k1 k2 k3 ch o tr q.2.1 q.2.2.1 q.2.2.2 has)) : String × va_W)) r) := by
  refine k_throwOf (cc := cX7_endDifference) (maxL := 1) (ret := (some .int)) (by decide) rfl (Nat.le_of_ble_eq_true rfl) ?_
  intro p e s m args below meth c ls A hx hb hr hlocks hml hown hts hl hA hK hP hD hN hT hZ hEx
  have hl : lv_has ls 1 [(0, .ref h0)] := hl
  have hS : va_S A s.heap s.heap [] := va_S.rf
  have in_X2 : ∀ w ∈ wsX20, w ∈ wsX7_endDifference := by decide +kernel
  have in_X7 : ∀ w ∈ wsX70, w ∈ wsX7_endDifference := by decide +kernel
  have fl10 := hts (.fieldLink RX7 10 "FencedBoxes" "game" "LFencedBoxes$Game;") (by decide +kernel)
  have fl36 := hts (.fieldLink RX7 36 "FencedBoxes" "ends" "LFencedBoxes$Ends;") (by decide +kernel)
  have fl78 := va_Nw.use (A := args) rfl (show va_Nw (.fieldLinkNest RX7 78 "FencedBoxes$Game" "fences" "I" "FencedBoxes") s from hN.2 (RX7, 78, "FencedBoxes$Game", "fences", "I", "FencedBoxes") (by decide +kernel))
  have hat_NS : ∀ w ∈ k_atN, w.before args s = true := k_hat (E := "") (fun w hw => hts w ((by decide +kernel : ∀ w ∈ (k_atN).filter goodWord, w ∈ wsX7_endDifference) w hw)) h2_NS hT
  unfold f_X7_endDifference at hf
  obtain ⟨H, eH⟩ : ∃ H, H = s.heap := ⟨_, rfl⟩
  obtain ⟨locs, elocs⟩ : ∃ L : List Loc, L = [] := ⟨_, rfl⟩
  have hP : va_P D vwCl (wX7 cy h0 gma sna hia ka ora cha tra ena opa foa gm sn hs qs k0 k1 k2 k3 ch o tr es op fo has) H := by rw [eH]; exact hP
  have hS : va_S A s.heap H locs := by rw [eH, elocs]; exact hS
  refine k_here eH elocs ?_
  refine lv_aload_n hx hb dX7_endDifference_0 rfl (lv_at hl 0 rfl) ?_
  refine va_get (D := D) (ci := 4) (v := .ref gma) (C := RX7) (T := TX7) (N := 6) hx hb hts in_X7 hown hK hP 0 rfl rfl 0 (by decide) fl10 (fun _ h9 => h9) rfl dX7_endDifference_1 ?_
  refine va_getN (D := D) (ci := 1) (v := .int gm.1) (C := RX2) (T := TX2) (N := 8) hx hb hts in_X2 hown hK hP 1 rfl rfl 0 (by decide) fl78 (fun _ h9 => h9) rfl dX7_endDifference_4 ?_
  obtain ⟨v1, hv1, hf⟩ := k_B hf
  refine k_callS (As := [.int gm.1]) (rest := []) ⟨hx, hb, hml, hown, hts⟩ (c_X1_isNear l gm.1 v1 hv1) (va_cwS 1 hts gX7_endDifference_X1_isNear rfl rfl rfl hd_X1_isNear ⟨Nat.le_of_ble_eq_true rfl, Nat.le_of_ble_eq_true rfl⟩) rfl hl.1 rfl (Nat.le_of_ble_eq_true rfl) dX7_endDifference_7 ⟨Nat.zero_le _, Nat.zero_le _⟩ ?_
  refine lv_if_ne (tgt := 23) hx hb dX7_endDifference_10 (by decide) (fun c2 => ?_) (fun c2 => ?_)
  · have hf := k_F c2 hf
    refine lv_aload_n hx hb dX7_endDifference_23 rfl (lv_at hl 0 rfl) ?_
    refine va_get (D := D) (ci := 4) (v := .ref ena) (C := RX7) (T := TX7) (N := 6) hx hb hts in_X7 hown hK hP 0 rfl rfl 4 (by decide) fl36 (fun _ h9 => h9) rfl dX7_endDifference_24 ?_
    refine lv_aload_n hx hb dX7_endDifference_27 rfl (lv_at hl 0 rfl) ?_
    refine va_get (D := D) (ci := 4) (v := .ref gma) (C := RX7) (T := TX7) (N := 6) hx hb hts in_X7 hown hK hP 0 rfl rfl 0 (by decide) fl10 (fun _ h9 => h9) rfl dX7_endDifference_28 ?_
    refine va_getN (D := D) (ci := 1) (v := .int gm.1) (C := RX2) (T := TX2) (N := 8) hx hb hts in_X2 hown hK hP 1 rfl rfl 0 (by decide) fl78 (fun _ h9 => h9) rfl dX7_endDifference_31 ?_
    obtain ⟨v3, hv3, hf⟩ := k_B hf
    refine k_callHV (As := [.int gm.1]) (rest := []) (r := (RX1, TX1, 3)) (ci := 0) (q0 := 12) (isC := [12, 13, 14]) (isR := [0, 1, 2, 3, 4, 5, 6, 7, 8, 9, 10, 11]) (perm := [0, 1, 2, 3, 4, 5, 6, 7, 8, 9, 10, 11, 12, 13, 14]) (w' := (wX7 cy h0 gma sna hia ka ora cha tra ena opa foa gm sn hs qs k0 k1 k2 k3 ch o tr v3.1 v3.2.1 v3.2.2 has)) ⟨hx, hb, hml, hown, hts⟩ (c_X1_workOut l D cy ena opa foa es op fo gm.1 v3 hv3) (cwV 1 hts gX7_endDifference_X1_workOut rfl rfl rfl hd_X1_workOut ⟨Nat.le_of_ble_eq_true rfl, Nat.le_of_ble_eq_true rfl⟩) hK hN hP hD hS hA rfl rfl rfl rfl rfl rfl (by decide) rfl rfl rfl hl.1 rfl (Nat.le_of_ble_eq_true rfl) dX7_endDifference_34 ⟨Nat.zero_le _, Nat.zero_le _⟩ (fun H locs hP hD hS => ?_)
    refine lv_aload_n hx hb dX7_endDifference_37 rfl (lv_at hl 0 rfl) ?_
    refine va_get (D := D) (ci := 4) (v := .ref ena) (C := RX7) (T := TX7) (N := 6) hx hb hts in_X7 hown hK hP 0 rfl rfl 4 (by decide) fl36 (fun _ h9 => h9) rfl dX7_endDifference_38 ?_
    obtain ⟨v4, hv4, hf⟩ := k_B hf
    refine k_callHV (As := []) (rest := []) (r := (RX1, TX1, 3)) (ci := 0) (q0 := 12) (isC := [12, 13, 14]) (isR := [0, 1, 2, 3, 4, 5, 6, 7, 8, 9, 10, 11]) (perm := [0, 1, 2, 3, 4, 5, 6, 7, 8, 9, 10, 11, 12, 13, 14]) (w' := (wX7 cy h0 gma sna hia ka ora cha tra ena opa foa gm sn hs qs k0 k1 k2 k3 ch o tr v3.1 v3.2.1 v3.2.2 has)) ⟨hx, hb, hml, hown, hts⟩ (c_X1_difference l D cy ena opa foa v3.1 v3.2.1 v3.2.2  v4 hv4) (cwV 0 hts gX7_endDifference_X1_difference rfl rfl rfl hd_X1_difference ⟨Nat.le_of_ble_eq_true rfl, Nat.le_of_ble_eq_true rfl⟩) hK hN hP hD hS hA rfl rfl rfl rfl rfl rfl (by decide) rfl rfl rfl hl.1 rfl (Nat.le_of_ble_eq_true rfl) dX7_endDifference_41 ⟨Nat.zero_le _, Nat.zero_le _⟩ (fun H locs hP hD hS => ?_)
    obtain rfl := k_some hf
    exact k_xiret hx hb hr hP hD hS dX7_endDifference_44 hlocks
  · have hf := k_T c2 hf
    obtain rfl := k_some hf
    obtain ⟨sa, hstr⟩ := hT.2.2 (172, "too many fences are not drawn") (by decide +kernel)
    exact k_throwN hx hb hl9 hown (hts (.classLink "FencedBoxes" 97 k_NS) (by decide +kernel)) (hts (.initialized k_NS) (by decide +kernel)) hstr hat_NS h3_NS hZ.1 hZ.2 hS (hl.1.trans hml.symm) dX7_endDifference_13 dX7_endDifference_16 dX7_endDifference_17 dX7_endDifference_19 dX7_endDifference_22 (fun x hx => (hEx x hx).elim) (Nat.le_of_ble_eq_true rfl) (Nat.le_of_ble_eq_true rfl) (Nat.le_of_ble_eq_true rfl) (Nat.le_of_ble_eq_true rfl) hlocks (k_thrown hP hD hS) hS.2.2 (Nat.le_of_ble_eq_true rfl) (Nat.le_of_ble_eq_true rfl)
def f_X7_endByTrying (gm : k_G8) : Option ((Int32) ⊕ (String)) :=
  (f_X1_isNear gm.1).bind fun v1 =>
  if v1 = 0 then
    some (.inr ("java/util/NoSuchElementException"))
  else
    (f_X1_byTrying gm.1).bind fun v3 =>
    some (.inl v3)
abbrev rm_X7_endByTrying : Room := { frames := 15, cells := 1, slots := 6, locals := 459 }
theorem hd_X7_endByTrying : yX7_endByTrying.cls = RX7 ∧ yX7_endByTrying.cls ≠ "java/lang/invoke/MethodHandle" ∧ yX7_endByTrying.cls ≠ "java/lang/invoke/VarHandle" ∧ (parseMethodDescriptor yX7_endByTrying.desc).map (fun d => d.parameters.length) = some 0 := by decide +kernel
set_option maxHeartbeats 4000000 in
set_option maxRecDepth 100000 in
theorem c_X7_endByTrying (l : Launch) (hl9 : l.stackTraces = false) (D : va_G) (cy : Nat → ClassId) (h0 gma sna hia ka ora cha tra ena opa foa : Nat) (gm : k_G8) (sn : k_G8) (hs : Int32) (qs : k_Q4) (k0 : k_G8) (k1 : k_G8) (k2 : k_G8) (k3 : k_G8) (ch : Nat → Int32) (o : k_O5) (tr : k_G8) (es : Int32) (op : Nat → Int32) (fo : Nat → Int32) (has : Int32)  (r : (Int32) ⊕ (String)) (hf : f_X7_endByTrying gm = some r) : k_XMet l yX7_endByTrying wsX7_endByTrying rm_X7_endByTrying D (k_tys cy) [.ref h0] (wX7 cy h0 gma sna hia ka ora cha tra ena opa foa gm sn hs qs k0 k1 k2 k3 ch o tr es op fo has) (Sum.map (fun q : Int32 => ((some (.int q), (wX7 cy h0 gma sna hia ka ora cha tra ena opa foa gm sn hs qs k0 k1 k2 k3 ch o tr es op fo has)) : Option Value × va_W)) (fun q : String => ((q, (wX7 cy h0 gma sna hia ka ora cha tra ena opa foa gm sn hs qs k0 k1 k2 k3 ch o tr es op fo has)) : String × va_W)) r) := by
  refine k_throwOf (cc := cX7_endByTrying) (maxL := 1) (ret := (some .int)) (by decide) rfl (Nat.le_of_ble_eq_true rfl) ?_
  intro p e s m args below meth c ls A hx hb hr hlocks hml hown hts hl hA hK hP hD hN hT hZ hEx
  have hl : lv_has ls 1 [(0, .ref h0)] := hl
  have hS : va_S A s.heap s.heap [] := va_S.rf
  have in_X2 : ∀ w ∈ wsX20, w ∈ wsX7_endByTrying := by decide +kernel
  have in_X7 : ∀ w ∈ wsX70, w ∈ wsX7_endByTrying := by decide +kernel
  have fl10 := hts (.fieldLink RX7 10 "FencedBoxes" "game" "LFencedBoxes$Game;") (by decide +kernel)
  have fl78 := va_Nw.use (A := args) rfl (show va_Nw (.fieldLinkNest RX7 78 "FencedBoxes$Game" "fences" "I" "FencedBoxes") s from hN.2 (RX7, 78, "FencedBoxes$Game", "fences", "I", "FencedBoxes") (by decide +kernel))
  have hat_NS : ∀ w ∈ k_atN, w.before args s = true := k_hat (E := "") (fun w hw => hts w ((by decide +kernel : ∀ w ∈ (k_atN).filter goodWord, w ∈ wsX7_endByTrying) w hw)) h2_NS hT
  unfold f_X7_endByTrying at hf
  obtain ⟨H, eH⟩ : ∃ H, H = s.heap := ⟨_, rfl⟩
  obtain ⟨locs, elocs⟩ : ∃ L : List Loc, L = [] := ⟨_, rfl⟩
  have hP : va_P D vwCl (wX7 cy h0 gma sna hia ka ora cha tra ena opa foa gm sn hs qs k0 k1 k2 k3 ch o tr es op fo has) H := by rw [eH]; exact hP
  have hS : va_S A s.heap H locs := by rw [eH, elocs]; exact hS
  refine k_here eH elocs ?_
  refine lv_aload_n hx hb dX7_endByTrying_0 rfl (lv_at hl 0 rfl) ?_
  refine va_get (D := D) (ci := 4) (v := .ref gma) (C := RX7) (T := TX7) (N := 6) hx hb hts in_X7 hown hK hP 0 rfl rfl 0 (by decide) fl10 (fun _ h9 => h9) rfl dX7_endByTrying_1 ?_
  refine va_getN (D := D) (ci := 1) (v := .int gm.1) (C := RX2) (T := TX2) (N := 8) hx hb hts in_X2 hown hK hP 1 rfl rfl 0 (by decide) fl78 (fun _ h9 => h9) rfl dX7_endByTrying_4 ?_
  obtain ⟨v1, hv1, hf⟩ := k_B hf
  refine k_callS (As := [.int gm.1]) (rest := []) ⟨hx, hb, hml, hown, hts⟩ (c_X1_isNear l gm.1 v1 hv1) (va_cwS 1 hts gX7_endByTrying_X1_isNear rfl rfl rfl hd_X1_isNear ⟨Nat.le_of_ble_eq_true rfl, Nat.le_of_ble_eq_true rfl⟩) rfl hl.1 rfl (Nat.le_of_ble_eq_true rfl) dX7_endByTrying_7 ⟨Nat.zero_le _, Nat.zero_le _⟩ ?_
  refine lv_if_ne (tgt := 23) hx hb dX7_endByTrying_10 (by decide) (fun c2 => ?_) (fun c2 => ?_)
  · have hf := k_F c2 hf
    refine lv_aload_n hx hb dX7_endByTrying_23 rfl (lv_at hl 0 rfl) ?_
    refine va_get (D := D) (ci := 4) (v := .ref gma) (C := RX7) (T := TX7) (N := 6) hx hb hts in_X7 hown hK hP 0 rfl rfl 0 (by decide) fl10 (fun _ h9 => h9) rfl dX7_endByTrying_24 ?_
    refine va_getN (D := D) (ci := 1) (v := .int gm.1) (C := RX2) (T := TX2) (N := 8) hx hb hts in_X2 hown hK hP 1 rfl rfl 0 (by decide) fl78 (fun _ h9 => h9) rfl dX7_endByTrying_27 ?_
    obtain ⟨v3, hv3, hf⟩ := k_B hf
    refine k_callS (As := [.int gm.1]) (rest := []) ⟨hx, hb, hml, hown, hts⟩ (c_X1_byTrying l gm.1 v3 hv3) (va_cwS 1 hts gX7_endByTrying_X1_byTrying rfl rfl rfl hd_X1_byTrying ⟨Nat.le_of_ble_eq_true rfl, Nat.le_of_ble_eq_true rfl⟩) rfl hl.1 rfl (Nat.le_of_ble_eq_true rfl) dX7_endByTrying_30 ⟨Nat.zero_le _, Nat.zero_le _⟩ ?_
    obtain rfl := k_some hf
    exact k_xiret hx hb hr hP hD hS dX7_endByTrying_33 hlocks
  · have hf := k_T c2 hf
    obtain rfl := k_some hf
    obtain ⟨sa, hstr⟩ := hT.2.2 (172, "too many fences are not drawn") (by decide +kernel)
    exact k_throwN hx hb hl9 hown (hts (.classLink "FencedBoxes" 97 k_NS) (by decide +kernel)) (hts (.initialized k_NS) (by decide +kernel)) hstr hat_NS h3_NS hZ.1 hZ.2 hS (hl.1.trans hml.symm) dX7_endByTrying_13 dX7_endByTrying_16 dX7_endByTrying_17 dX7_endByTrying_19 dX7_endByTrying_22 (fun x hx => (hEx x hx).elim) (Nat.le_of_ble_eq_true rfl) (Nat.le_of_ble_eq_true rfl) (Nat.le_of_ble_eq_true rfl) (Nat.le_of_ble_eq_true rfl) hlocks (k_thrown hP hD hS) hS.2.2 (Nat.le_of_ble_eq_true rfl) (Nat.le_of_ble_eq_true rfl)
def f_X7_bestFence (gm : k_G8) (es : Int32) (op : Nat → Int32) (fo : Nat → Int32) : Option ((Int32 × Int32 × (Nat → Int32) × (Nat → Int32)) ⊕ (String × Int32 × (Nat → Int32) × (Nat → Int32))) :=
  (f_X1_isNear gm.1).bind fun v1 =>
  if v1 = 0 then
    some (.inr ("java/util/NoSuchElementException", es, op, fo))
  else
    (f_X2_hasEnded gm).bind fun v3 =>
    if v3 = 0 then
      (f_X1_workOut gm.1 es op fo).bind fun v5 =>
      (f_X1_lowestBest v5.1 v5.2.1 v5.2.2).bind fun v6 =>
      some (.inl (v6, v5.1, v5.2.1, v5.2.2))
    else
      some (.inr ("java/util/NoSuchElementException", es, op, fo))
abbrev rm_X7_bestFence : Room := { frames := 6, cells := 1, slots := 6, locals := 137 }
theorem hd_X7_bestFence : yX7_bestFence.cls = RX7 ∧ yX7_bestFence.cls ≠ "java/lang/invoke/MethodHandle" ∧ yX7_bestFence.cls ≠ "java/lang/invoke/VarHandle" ∧ (parseMethodDescriptor yX7_bestFence.desc).map (fun d => d.parameters.length) = some 0 := by decide +kernel
set_option maxHeartbeats 4000000 in
set_option maxRecDepth 100000 in
theorem c_X7_bestFence (l : Launch) (hl9 : l.stackTraces = false) (D : va_G) (cy : Nat → ClassId) (h0 gma sna hia ka ora cha tra ena opa foa : Nat) (gm : k_G8) (sn : k_G8) (hs : Int32) (qs : k_Q4) (k0 : k_G8) (k1 : k_G8) (k2 : k_G8) (k3 : k_G8) (ch : Nat → Int32) (o : k_O5) (tr : k_G8) (es : Int32) (op : Nat → Int32) (fo : Nat → Int32) (has : Int32)  (r : (Int32 × Int32 × (Nat → Int32) × (Nat → Int32)) ⊕ (String × Int32 × (Nat → Int32) × (Nat → Int32))) (hf : f_X7_bestFence gm es op fo = some r) : k_XMet l yX7_bestFence wsX7_bestFence rm_X7_bestFence D (k_tys cy) [.ref h0] (wX7 cy h0 gma sna hia ka ora cha tra ena opa foa gm sn hs qs k0 k1 k2 k3 ch o tr es op fo has) (Sum.map (fun q : Int32 × Int32 × (Nat → Int32) × (Nat → Int32) => ((some (.int q.1), (wX7 cy h0 gma sna hia ka ora cha tra ena opa foa gm sn hs qs k0 k1 k2 k3 ch o tr q.2.1 q.2.2.1 q.2.2.2 has)) : Option Value × va_W)) (fun q : String × Int32 × (Nat → Int32) × (Nat → Int32) => ((q.1, (wX7 cy h0 gma sna hia ka ora cha tra ena opa foa gm sn hs qs k0 k1 k2 k3 ch o tr q.2.1 q.2.2.1 q.2.2.2 has)) : String × va_W)) r) := by
  refine k_throwOf (cc := cX7_bestFence) (maxL := 1) (ret := (some .int)) (by decide) rfl (Nat.le_of_ble_eq_true rfl) ?_
  intro p e s m args below meth c ls A hx hb hr hlocks hml hown hts hl hA hK hP hD hN hT hZ hEx
  have hl : lv_has ls 1 [(0, .ref h0)] := hl
  have hS : va_S A s.heap s.heap [] := va_S.rf
  have in_X2 : ∀ w ∈ wsX20, w ∈ wsX7_bestFence := by decide +kernel
  have in_X7 : ∀ w ∈ wsX70, w ∈ wsX7_bestFence := by decide +kernel
  have fl10 := hts (.fieldLink RX7 10 "FencedBoxes" "game" "LFencedBoxes$Game;") (by decide +kernel)
  have fl36 := hts (.fieldLink RX7 36 "FencedBoxes" "ends" "LFencedBoxes$Ends;") (by decide +kernel)
  have fl78 := va_Nw.use (A := args) rfl (show va_Nw (.fieldLinkNest RX7 78 "FencedBoxes$Game" "fences" "I" "FencedBoxes") s from hN.2 (RX7, 78, "FencedBoxes$Game", "fences", "I", "FencedBoxes") (by decide +kernel))
  have hat_NS : ∀ w ∈ k_atN, w.before args s = true := k_hat (E := "") (fun w hw => hts w ((by decide +kernel : ∀ w ∈ (k_atN).filter goodWord, w ∈ wsX7_bestFence) w hw)) h2_NS hT
  unfold f_X7_bestFence at hf
  obtain ⟨H, eH⟩ : ∃ H, H = s.heap := ⟨_, rfl⟩
  obtain ⟨locs, elocs⟩ : ∃ L : List Loc, L = [] := ⟨_, rfl⟩
  have hP : va_P D vwCl (wX7 cy h0 gma sna hia ka ora cha tra ena opa foa gm sn hs qs k0 k1 k2 k3 ch o tr es op fo has) H := by rw [eH]; exact hP
  have hS : va_S A s.heap H locs := by rw [eH, elocs]; exact hS
  refine k_here eH elocs ?_
  refine lv_aload_n hx hb dX7_bestFence_0 rfl (lv_at hl 0 rfl) ?_
  refine va_get (D := D) (ci := 4) (v := .ref gma) (C := RX7) (T := TX7) (N := 6) hx hb hts in_X7 hown hK hP 0 rfl rfl 0 (by decide) fl10 (fun _ h9 => h9) rfl dX7_bestFence_1 ?_
  refine va_getN (D := D) (ci := 1) (v := .int gm.1) (C := RX2) (T := TX2) (N := 8) hx hb hts in_X2 hown hK hP 1 rfl rfl 0 (by decide) fl78 (fun _ h9 => h9) rfl dX7_bestFence_4 ?_
  obtain ⟨v1, hv1, hf⟩ := k_B hf
  refine k_callS (As := [.int gm.1]) (rest := []) ⟨hx, hb, hml, hown, hts⟩ (c_X1_isNear l gm.1 v1 hv1) (va_cwS 1 hts gX7_bestFence_X1_isNear rfl rfl rfl hd_X1_isNear ⟨Nat.le_of_ble_eq_true rfl, Nat.le_of_ble_eq_true rfl⟩) rfl hl.1 rfl (Nat.le_of_ble_eq_true rfl) dX7_bestFence_7 ⟨Nat.zero_le _, Nat.zero_le _⟩ ?_
  refine lv_if_eq (tgt := 23) hx hb dX7_bestFence_10 (by decide) (fun c2 => ?_) (fun c2 => ?_)
  · have hf := k_T c2 hf
    obtain rfl := k_some hf
    obtain ⟨sa, hstr⟩ := hT.2.2 (184, "too many fences are not drawn, or none") (by decide +kernel)
    exact k_throwN hx hb hl9 hown (hts (.classLink "FencedBoxes" 97 k_NS) (by decide +kernel)) (hts (.initialized k_NS) (by decide +kernel)) hstr hat_NS h3_NS hZ.1 hZ.2 hS (hl.1.trans hml.symm) dX7_bestFence_23 dX7_bestFence_26 dX7_bestFence_27 dX7_bestFence_29 dX7_bestFence_32 (fun x hx => (hEx x hx).elim) (Nat.le_of_ble_eq_true rfl) (Nat.le_of_ble_eq_true rfl) (Nat.le_of_ble_eq_true rfl) (Nat.le_of_ble_eq_true rfl) hlocks (k_thrown hP hD hS) hS.2.2 (Nat.le_of_ble_eq_true rfl) (Nat.le_of_ble_eq_true rfl)
  · have hf := k_F c2 hf
    refine lv_aload_n hx hb dX7_bestFence_13 rfl (lv_at hl 0 rfl) ?_
    refine va_get (D := D) (ci := 4) (v := .ref gma) (C := RX7) (T := TX7) (N := 6) hx hb hts in_X7 hown hK hP 0 rfl rfl 0 (by decide) fl10 (fun _ h9 => h9) rfl dX7_bestFence_14 ?_
    obtain ⟨v3, hv3, hf⟩ := k_B hf
    refine k_callHV (As := []) (rest := []) (r := (RX2, TX2, 8)) (ci := 1) (q0 := 1) (isC := [1]) (isR := [0, 2, 3, 4, 5, 6, 7, 8, 9, 10, 11, 12, 13, 14]) (perm := [0, 14, 1, 2, 3, 4, 5, 6, 7, 8, 9, 10, 11, 12, 13]) (w' := (wX7 cy h0 gma sna hia ka ora cha tra ena opa foa gm sn hs qs k0 k1 k2 k3 ch o tr es op fo has)) ⟨hx, hb, hml, hown, hts⟩ (c_X2_hasEnded l D cy gma gm  v3 hv3) (cwV 0 hts gX7_bestFence_X2_hasEnded rfl rfl rfl hd_X2_hasEnded ⟨Nat.le_of_ble_eq_true rfl, Nat.le_of_ble_eq_true rfl⟩) hK hN hP hD hS hA rfl rfl rfl rfl rfl rfl (by decide) rfl rfl rfl hl.1 rfl (Nat.le_of_ble_eq_true rfl) dX7_bestFence_17 ⟨Nat.zero_le _, Nat.zero_le _⟩ (fun H locs hP hD hS => ?_)
    refine lv_if_eq (tgt := 33) hx hb dX7_bestFence_20 (by decide) (fun c4 => ?_) (fun c4 => ?_)
    · have hf := k_T c4 hf
      refine lv_aload_n hx hb dX7_bestFence_33 rfl (lv_at hl 0 rfl) ?_
      refine va_get (D := D) (ci := 4) (v := .ref ena) (C := RX7) (T := TX7) (N := 6) hx hb hts in_X7 hown hK hP 0 rfl rfl 4 (by decide) fl36 (fun _ h9 => h9) rfl dX7_bestFence_34 ?_
      refine lv_aload_n hx hb dX7_bestFence_37 rfl (lv_at hl 0 rfl) ?_
      refine va_get (D := D) (ci := 4) (v := .ref gma) (C := RX7) (T := TX7) (N := 6) hx hb hts in_X7 hown hK hP 0 rfl rfl 0 (by decide) fl10 (fun _ h9 => h9) rfl dX7_bestFence_38 ?_
      refine va_getN (D := D) (ci := 1) (v := .int gm.1) (C := RX2) (T := TX2) (N := 8) hx hb hts in_X2 hown hK hP 1 rfl rfl 0 (by decide) fl78 (fun _ h9 => h9) rfl dX7_bestFence_41 ?_
      obtain ⟨v5, hv5, hf⟩ := k_B hf
      refine k_callHV (As := [.int gm.1]) (rest := []) (r := (RX1, TX1, 3)) (ci := 0) (q0 := 12) (isC := [12, 13, 14]) (isR := [0, 1, 2, 3, 4, 5, 6, 7, 8, 9, 10, 11]) (perm := [0, 1, 2, 3, 4, 5, 6, 7, 8, 9, 10, 11, 12, 13, 14]) (w' := (wX7 cy h0 gma sna hia ka ora cha tra ena opa foa gm sn hs qs k0 k1 k2 k3 ch o tr v5.1 v5.2.1 v5.2.2 has)) ⟨hx, hb, hml, hown, hts⟩ (c_X1_workOut l D cy ena opa foa es op fo gm.1 v5 hv5) (cwV 1 hts gX7_bestFence_X1_workOut rfl rfl rfl hd_X1_workOut ⟨Nat.le_of_ble_eq_true rfl, Nat.le_of_ble_eq_true rfl⟩) hK hN hP hD hS hA rfl rfl rfl rfl rfl rfl (by decide) rfl rfl rfl hl.1 rfl (Nat.le_of_ble_eq_true rfl) dX7_bestFence_44 ⟨Nat.zero_le _, Nat.zero_le _⟩ (fun H locs hP hD hS => ?_)
      refine lv_aload_n hx hb dX7_bestFence_47 rfl (lv_at hl 0 rfl) ?_
      refine va_get (D := D) (ci := 4) (v := .ref ena) (C := RX7) (T := TX7) (N := 6) hx hb hts in_X7 hown hK hP 0 rfl rfl 4 (by decide) fl36 (fun _ h9 => h9) rfl dX7_bestFence_48 ?_
      obtain ⟨v6, hv6, hf⟩ := k_B hf
      refine k_callHV (As := []) (rest := []) (r := (RX1, TX1, 3)) (ci := 0) (q0 := 12) (isC := [12, 13, 14]) (isR := [0, 1, 2, 3, 4, 5, 6, 7, 8, 9, 10, 11]) (perm := [0, 1, 2, 3, 4, 5, 6, 7, 8, 9, 10, 11, 12, 13, 14]) (w' := (wX7 cy h0 gma sna hia ka ora cha tra ena opa foa gm sn hs qs k0 k1 k2 k3 ch o tr v5.1 v5.2.1 v5.2.2 has)) ⟨hx, hb, hml, hown, hts⟩ (c_X1_lowestBest l D cy ena opa foa v5.1 v5.2.1 v5.2.2  v6 hv6) (cwV 0 hts gX7_bestFence_X1_lowestBest rfl rfl rfl hd_X1_lowestBest ⟨Nat.le_of_ble_eq_true rfl, Nat.le_of_ble_eq_true rfl⟩) hK hN hP hD hS hA rfl rfl rfl rfl rfl rfl (by decide) rfl rfl rfl hl.1 rfl (Nat.le_of_ble_eq_true rfl) dX7_bestFence_51 ⟨Nat.zero_le _, Nat.zero_le _⟩ (fun H locs hP hD hS => ?_)
      obtain rfl := k_some hf
      exact k_xiret hx hb hr hP hD hS dX7_bestFence_54 hlocks
    · have hf := k_F c4 hf
      obtain rfl := k_some hf
      obtain ⟨sa, hstr⟩ := hT.2.2 (184, "too many fences are not drawn, or none") (by decide +kernel)
      exact k_throwN hx hb hl9 hown (hts (.classLink "FencedBoxes" 97 k_NS) (by decide +kernel)) (hts (.initialized k_NS) (by decide +kernel)) hstr hat_NS h3_NS hZ.1 hZ.2 hS (hl.1.trans hml.symm) dX7_bestFence_23 dX7_bestFence_26 dX7_bestFence_27 dX7_bestFence_29 dX7_bestFence_32 (fun x hx => (hEx x hx).elim) (Nat.le_of_ble_eq_true rfl) (Nat.le_of_ble_eq_true rfl) (Nat.le_of_ble_eq_true rfl) (Nat.le_of_ble_eq_true rfl) hlocks (k_thrown hP hD hS) hS.2.2 (Nat.le_of_ble_eq_true rfl) (Nat.le_of_ble_eq_true rfl)
def f_X7_won (n1 : Int32) (gm : k_G8) : Option ((Int32) ⊕ (String)) :=
  (f_X7_isPlayer n1).bind fun v1 =>
  if v1 = 0 then
    some (.inr ("java/lang/IllegalArgumentException"))
  else
    if n1 = 0 then
      some (.inl gm.2.2.2.2.1)
    else
      some (.inl gm.2.2.2.2.2.1)
abbrev rm_X7_won : Room := { frames := 6, cells := 1, slots := 6, locals := 90 }
theorem hd_X7_won : yX7_won.cls = RX7 ∧ yX7_won.cls ≠ "java/lang/invoke/MethodHandle" ∧ yX7_won.cls ≠ "java/lang/invoke/VarHandle" ∧ (parseMethodDescriptor yX7_won.desc).map (fun d => d.parameters.length) = some 1 := by decide +kernel
set_option maxHeartbeats 4000000 in
set_option maxRecDepth 100000 in
theorem c_X7_won (l : Launch) (hl9 : l.stackTraces = false) (D : va_G) (cy : Nat → ClassId) (h0 gma sna hia ka ora cha tra ena opa foa : Nat) (gm : k_G8) (sn : k_G8) (hs : Int32) (qs : k_Q4) (k0 : k_G8) (k1 : k_G8) (k2 : k_G8) (k3 : k_G8) (ch : Nat → Int32) (o : k_O5) (tr : k_G8) (es : Int32) (op : Nat → Int32) (fo : Nat → Int32) (has : Int32) (n1 : Int32) (r : (Int32) ⊕ (String)) (hf : f_X7_won n1 gm = some r) : k_XMet l yX7_won wsX7_won rm_X7_won D (k_tys cy) [.ref h0, .int n1] (wX7 cy h0 gma sna hia ka ora cha tra ena opa foa gm sn hs qs k0 k1 k2 k3 ch o tr es op fo has) (Sum.map (fun q : Int32 => ((some (.int q), (wX7 cy h0 gma sna hia ka ora cha tra ena opa foa gm sn hs qs k0 k1 k2 k3 ch o tr es op fo has)) : Option Value × va_W)) (fun q : String => ((q, (wX7 cy h0 gma sna hia ka ora cha tra ena opa foa gm sn hs qs k0 k1 k2 k3 ch o tr es op fo has)) : String × va_W)) r) := by
  refine k_throwOf (cc := cX7_won) (maxL := 2) (ret := (some .int)) (by decide) rfl (Nat.le_of_ble_eq_true rfl) ?_
  intro p e s m args below meth c ls A hx hb hr hlocks hml hown hts hl hA hK hP hD hN hT hZ hEx
  have hl : lv_has ls 2 [(0, .ref h0), (1, .int n1)] := hl
  have hS : va_S A s.heap s.heap [] := va_S.rf
  have in_X2 : ∀ w ∈ wsX20, w ∈ wsX7_won := by decide +kernel
  have in_X7 : ∀ w ∈ wsX70, w ∈ wsX7_won := by decide +kernel
  have fl10 := hts (.fieldLink RX7 10 "FencedBoxes" "game" "LFencedBoxes$Game;") (by decide +kernel)
  have fl189 := va_Nw.use (A := args) rfl (show va_Nw (.fieldLinkNest RX7 189 "FencedBoxes$Game" "firstWins" "I" "FencedBoxes") s from hN.2 (RX7, 189, "FencedBoxes$Game", "firstWins", "I", "FencedBoxes") (by decide +kernel))
  have fl192 := va_Nw.use (A := args) rfl (show va_Nw (.fieldLinkNest RX7 192 "FencedBoxes$Game" "secondWins" "I" "FencedBoxes") s from hN.2 (RX7, 192, "FencedBoxes$Game", "secondWins", "I", "FencedBoxes") (by decide +kernel))
  have hat_IA : ∀ w ∈ vx_atS RX7 52 "java/lang/IllegalArgumentException" ["java/lang/RuntimeException", "java/lang/Exception"], w.before args s = true := k_hat (E := "") (fun w hw => hts w ((by decide +kernel : ∀ w ∈ (vx_atS RX7 52 "java/lang/IllegalArgumentException" ["java/lang/RuntimeException", "java/lang/Exception"]).filter goodWord, w ∈ wsX7_won) w hw)) h2_IA hT
  unfold f_X7_won at hf
  obtain ⟨H, eH⟩ : ∃ H, H = s.heap := ⟨_, rfl⟩
  obtain ⟨locs, elocs⟩ : ∃ L : List Loc, L = [] := ⟨_, rfl⟩
  have hP : va_P D vwCl (wX7 cy h0 gma sna hia ka ora cha tra ena opa foa gm sn hs qs k0 k1 k2 k3 ch o tr es op fo has) H := by rw [eH]; exact hP
  have hS : va_S A s.heap H locs := by rw [eH, elocs]; exact hS
  refine k_here eH elocs ?_
  refine lv_iload_n hx hb dX7_won_0 rfl (lv_at hl 1 rfl) ?_
  obtain ⟨v1, hv1, hf⟩ := k_B hf
  refine k_callS (As := [.int n1]) (rest := []) ⟨hx, hb, hml, hown, hts⟩ (c_X7_isPlayer l n1 v1 hv1) (va_cwS 1 hts gX7_won_X7_isPlayer rfl rfl rfl hd_X7_isPlayer ⟨Nat.le_of_ble_eq_true rfl, Nat.le_of_ble_eq_true rfl⟩) rfl hl.1 rfl (Nat.le_of_ble_eq_true rfl) dX7_won_1 ⟨Nat.zero_le _, Nat.zero_le _⟩ ?_
  refine lv_if_ne (tgt := 17) hx hb dX7_won_4 (by decide) (fun c2 => ?_) (fun c2 => ?_)
  · have hf := k_F c2 hf
    refine lv_iload_n hx hb dX7_won_17 rfl (lv_at hl 1 rfl) ?_
    refine lv_if_ne (tgt := 31) hx hb dX7_won_18 (by decide) (fun c3 => ?_) (fun c3 => ?_)
    · have hf := k_F c3 hf
      refine lv_aload_n hx hb dX7_won_31 rfl (lv_at hl 0 rfl) ?_
      refine va_get (D := D) (ci := 4) (v := .ref gma) (C := RX7) (T := TX7) (N := 6) hx hb hts in_X7 hown hK hP 0 rfl rfl 0 (by decide) fl10 (fun _ h9 => h9) rfl dX7_won_32 ?_
      refine va_getN (D := D) (ci := 1) (v := .int gm.2.2.2.2.2.1) (C := RX2) (T := TX2) (N := 8) hx hb hts in_X2 hown hK hP 1 rfl rfl 5 (by decide) fl192 (fun _ h9 => h9) rfl dX7_won_35 ?_
      obtain rfl := k_some hf
      exact k_xiret hx hb hr hP hD hS dX7_won_38 hlocks
    · have hf := k_T c3 hf
      refine lv_aload_n hx hb dX7_won_21 rfl (lv_at hl 0 rfl) ?_
      refine va_get (D := D) (ci := 4) (v := .ref gma) (C := RX7) (T := TX7) (N := 6) hx hb hts in_X7 hown hK hP 0 rfl rfl 0 (by decide) fl10 (fun _ h9 => h9) rfl dX7_won_22 ?_
      refine va_getN (D := D) (ci := 1) (v := .int gm.2.2.2.2.1) (C := RX2) (T := TX2) (N := 8) hx hb hts in_X2 hown hK hP 1 rfl rfl 4 (by decide) fl189 (fun _ h9 => h9) rfl dX7_won_25 ?_
      refine lv_goto (tgt := 38) hx hb dX7_won_28 (by decide) ?_
      obtain rfl := k_some hf
      exact k_xiret hx hb hr hP hD hS dX7_won_38 hlocks
  · have hf := k_T c2 hf
    obtain rfl := k_some hf
    obtain ⟨sa, hstr⟩ := hT.2.2 (108, "there is no such player") (by decide +kernel)
    exact vx_throwS (own := RX7) (cls := "java/lang/IllegalArgumentException") (names := ["java/lang/RuntimeException", "java/lang/Exception"]) hx hb hl9 hown (by decide +kernel) (by decide +kernel) (hts (.classLink RX7 48 "java/lang/IllegalArgumentException") (by decide +kernel)) (hts (.initialized "java/lang/IllegalArgumentException") (by decide +kernel)) hstr hat_IA h3_IA hZ.1 hZ.2 hS (hl.1.trans hml.symm) dX7_won_7 dX7_won_10 dX7_won_11 dX7_won_13 dX7_won_16 (fun x hx => (hEx x hx).elim) (Nat.le_of_ble_eq_true rfl) (Nat.le_of_ble_eq_true rfl) (Nat.le_of_ble_eq_true rfl) (Nat.le_of_ble_eq_true rfl) hlocks (k_thrown hP hD hS) hS.2.2 (Nat.le_of_ble_eq_true rfl) (Nat.le_of_ble_eq_true rfl)
