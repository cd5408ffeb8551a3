def f_L_drawOf (n1 : Int32) (gm : k_G8) (hs : Int32) (qs : k_Q4) (k0 : k_G8) (k1 : k_G8) (k2 : k_G8) (k3 : k_G8) : Option (Int32 × k_G8 × Int32 × k_Q4 × k_G8 × k_G8 × k_G8 × k_G8) :=
  (f_X7_draw n1 gm hs qs k0 k1 k2 k3).bind fun v1 =>
  Sum.elim (fun v1 =>
    some (v1.1, v1.2.1, v1.2.2.1, v1.2.2.2.1, v1.2.2.2.2.1, v1.2.2.2.2.2.1, v1.2.2.2.2.2.2.1, v1.2.2.2.2.2.2.2)
  ) (fun v1 =>
    if v1.1 = "java/lang/IllegalArgumentException" then
      some ((-101), v1.2.1, v1.2.2.1, v1.2.2.2.1, v1.2.2.2.2.1, v1.2.2.2.2.2.1, v1.2.2.2.2.2.2.1, v1.2.2.2.2.2.2.2)
    else
      if v1.1 = "java/lang/IllegalStateException" then
        some ((-102), v1.2.1, v1.2.2.1, v1.2.2.2.1, v1.2.2.2.2.1, v1.2.2.2.2.2.1, v1.2.2.2.2.2.2.1, v1.2.2.2.2.2.2.2)
      else
        none
  ) v1
abbrev rm_L_drawOf : Room := { frames := 7, cells := 1, slots := 6, locals := 111 }
theorem hd_L_drawOf : yL_drawOf.cls ≠ "java/lang/invoke/MethodHandle" ∧ yL_drawOf.cls ≠ "java/lang/invoke/VarHandle" ∧ (parseMethodDescriptor yL_drawOf.desc).map (fun d => d.parameters.length) = some 2 := by decide +kernel
set_option maxHeartbeats 4000000 in
set_option maxRecDepth 100000 in
theorem c_L_drawOf (l : Launch) (hl9 : l.stackTraces = false) (D : va_G) (cy : Nat → ClassId) (h0 gma sna hia ka ora cha tra ena opa foa : Nat) (gm : k_G8) (sn : k_G8) (hs : Int32) (qs : k_Q4) (k0 : k_G8) (k1 : k_G8) (k2 : k_G8) (k3 : k_G8) (ch : Nat → Int32) (o : k_O5) (tr : k_G8) (es : Int32) (op : Nat → Int32) (fo : Nat → Int32) (has : Int32) (n1 : Int32) (r : Int32 × k_G8 × Int32 × k_Q4 × k_G8 × k_G8 × k_G8 × k_G8) (hf : f_L_drawOf n1 gm hs qs k0 k1 k2 k3 = some r) : k_LMet l yL_drawOf wsL_drawOf rm_L_drawOf D (k_tys cy) [.ref h0, .int n1] (wX7 cy h0 gma sna hia ka ora cha tra ena opa foa gm sn hs qs k0 k1 k2 k3 ch o tr es op fo has) (some (.int r.1)) (wX7 cy h0 gma sna hia ka ora cha tra ena opa foa r.2.1 sn r.2.2.1 r.2.2.2.1 r.2.2.2.2.1 r.2.2.2.2.2.1 r.2.2.2.2.2.2.1 r.2.2.2.2.2.2.2 ch o tr es op fo has) 1 6 := by
  refine k_lawOf (cc := cL_drawOf) (maxL := 3) (ret := (some .int)) (hh := [(0, 5, 6, 15), (0, 5, 10, 17)]) (by decide) rfl (Nat.le_of_ble_eq_true rfl) ?_
  intro p e s m args below meth c ls A hx hb hr hlocks hml hown hts hl hA hK hP hD hN hT hZ hCx hTab
  have hl : lv_has ls 3 [(0, .ref h0), (1, .int n1)] := hl
  have hS : va_S A s.heap s.heap [] := va_S.rf
  unfold f_L_drawOf at hf
  obtain ⟨H, eH⟩ : ∃ H, H = s.heap := ⟨_, rfl⟩
  obtain ⟨locs, elocs⟩ : ∃ L : List Loc, L = [] := ⟨_, rfl⟩
  have hP : va_P D vwCl (wX7 cy h0 gma sna hia ka ora cha tra ena opa foa gm sn hs qs k0 k1 k2 k3 ch o tr es op fo has) H := by rw [eH]; exact hP
  have hS : va_S A s.heap H locs := by rw [eH, elocs]; exact hS
  refine k_here eH elocs ?_
  refine lv_aload_n hx hb dL_drawOf_0 rfl (lv_at hl 0 rfl) ?_
  refine lv_iload_n hx hb dL_drawOf_1 rfl (lv_at hl 1 rfl) ?_
  obtain ⟨v1, hv1, hf⟩ := k_B hf
  refine k_callXV (As := [.int n1]) (rest := []) (r := (RX7, TX7, 6)) (ci := 4) (q0 := 0) (isC := [0, 1, 2, 3, 4, 5, 6, 7, 8, 9, 10, 11, 12, 13, 14]) (isR := []) (perm := [0, 1, 2, 3, 4, 5, 6, 7, 8, 9, 10, 11, 12, 13, 14]) ⟨hx, hb, hml, hown, hts⟩ (c_X7_draw l hl9 D cy h0 gma sna hia ka ora cha tra ena opa foa gm sn hs qs k0 k1 k2 k3 ch o tr es op fo has n1 v1 hv1) (cwV 1 hts gL_drawOf_X7_draw rfl rfl rfl hd_X7_draw ⟨Nat.le_of_ble_eq_true rfl, Nat.le_of_ble_eq_true rfl⟩) hK hN hT hZ hP hD hS hA rfl rfl rfl rfl rfl rfl (by decide) rfl rfl hl.1 rfl (Nat.le_of_ble_eq_true rfl) dL_drawOf_2 ⟨Nat.le_of_ble_eq_true rfl, Nat.le_of_ble_eq_true rfl⟩ (fun q eq H locs hW1 hS => ?_) (fun E eE ce q9 H locs hW1 hS hce hcv hcl => ?_)
  · rcases v1 with v1 | v1
    · obtain rfl := k_smL eq
      obtain ⟨hP, hD⟩ := hW1 (wX7 cy h0 gma sna hia ka ora cha tra ena opa foa v1.2.1 sn v1.2.2.1 v1.2.2.2.1 v1.2.2.2.2.1 v1.2.2.2.2.2.1 v1.2.2.2.2.2.2.1 v1.2.2.2.2.2.2.2 ch o tr es op fo has) rfl
      have hf := k_inl hf
      obtain rfl := k_some hf
      exact k_liret hx hb hr hP hD hS dL_drawOf_5 hlocks
    · exact (k_smX eq).elim
  · rcases v1 with v1 | v1
    · exact (k_smY eE).elim
    · obtain rfl := k_smR eE
      have hf := k_inr hf
      by_cases c3 : v1.1 = "java/lang/IllegalArgumentException"
      · have hf := k_T c3 hf
        obtain ⟨hP, hD⟩ := hW1 (wX7 cy h0 gma sna hia ka ora cha tra ena opa foa v1.2.1 sn v1.2.2.1 v1.2.2.2.1 v1.2.2.2.2.1 v1.2.2.2.2.2.1 v1.2.2.2.2.2.2.1 v1.2.2.2.2.2.2.2 ch o tr es op fo has) rfl
        have hcl : s.vm.findClass "java/lang/IllegalArgumentException" = some ce.cls := by rw [← c3]; exact hcl
        refine vx_catch (own := RL) (name := "java/lang/IllegalArgumentException") (E := "java/lang/IllegalArgumentException") hown [] ⟨0, 5, 6, 15⟩ [⟨0, 5, 10, 17⟩] (by rw [hTab]; rfl) (fun z hz => nomatch hz) (by decide) (by decide) (hts (.classLink RL 15 "java/lang/IllegalArgumentException") (by decide +kernel)) (va_Nw.use rfl (hT.1 (.castable "java/lang/IllegalArgumentException" "java/lang/IllegalArgumentException") (by decide +kernel))) hce hcv hcl ?_
        refine lv_astore_n (lv' := [(2, .ref q9), (0, .ref h0), (1, .int n1)]) hx hb dL_drawOf_6 rfl hl (by decide) rfl (fun ls hl => ?_)
        refine lv_bipush (v := (-101)) hx hb dL_drawOf_7 (by decide) ?_
        obtain rfl := k_some hf
        exact k_liret hx hb hr hP hD hS dL_drawOf_9 hlocks
      · have hf := k_F c3 hf
        by_cases c2 : v1.1 = "java/lang/IllegalStateException"
        · have hf := k_T c2 hf
          obtain ⟨hP, hD⟩ := hW1 (wX7 cy h0 gma sna hia ka ora cha tra ena opa foa v1.2.1 sn v1.2.2.1 v1.2.2.2.1 v1.2.2.2.2.1 v1.2.2.2.2.2.1 v1.2.2.2.2.2.2.1 v1.2.2.2.2.2.2.2 ch o tr es op fo has) rfl
          have hcl : s.vm.findClass "java/lang/IllegalStateException" = some ce.cls := by rw [← c2]; exact hcl
          have hpass : ∀ z ∈ ([⟨0, 5, 6, 15⟩] : List ExceptionTableEntry), covers z 2 = false ∨ (z.catchType ≠ 0 ∧ ∃ nm : String, (Cond.classLink RL z.catchType nm).before args s = true ∧ va_Nc "java/lang/IllegalStateException" nm s) := by
            intro z hz
            rcases List.mem_cons.mp hz with rfl | hz
            · exact Or.inr ⟨by decide, "java/lang/IllegalArgumentException", hts (.classLink RL 15 "java/lang/IllegalArgumentException") (by decide +kernel), hCx ("java/lang/IllegalStateException", "java/lang/IllegalArgumentException") (by decide +kernel)⟩
            cases hz
          refine vx_catch (own := RL) (name := "java/lang/IllegalStateException") (E := "java/lang/IllegalStateException") hown [⟨0, 5, 6, 15⟩] ⟨0, 5, 10, 17⟩ [] (by rw [hTab]; rfl) hpass (by decide) (by decide) (hts (.classLink RL 17 "java/lang/IllegalStateException") (by decide +kernel)) (va_Nw.use rfl (hT.1 (.castable "java/lang/IllegalStateException" "java/lang/IllegalStateException") (by decide +kernel))) hce hcv hcl ?_
          refine lv_astore_n (lv' := [(2, .ref q9), (0, .ref h0), (1, .int n1)]) hx hb dL_drawOf_10 rfl hl (by decide) rfl (fun ls hl => ?_)
          refine lv_bipush (v := (-102)) hx hb dL_drawOf_11 (by decide) ?_
          obtain rfl := k_some hf
          exact k_liret hx hb hr hP hD hS dL_drawOf_13 hlocks
        · have hf := k_F c2 hf
          cases hf
def f_L_isDrawnOf (n1 : Int32) (gm : k_G8) : Option (Int32) :=
  (f_X7_isDrawn n1 gm).bind fun v1 =>
  Sum.elim (fun v1 =>
    if v1 = 0 then
      some 0
    else
      some 1
  ) (fun v1 =>
    if v1 = "java/lang/IllegalArgumentException" then
      some (-101)
    else
      none
  ) v1
abbrev rm_L_isDrawnOf : Room := { frames := 7, cells := 1, slots := 6, locals := 111 }
theorem hd_L_isDrawnOf : yL_isDrawnOf.cls ≠ "java/lang/invoke/MethodHandle" ∧ yL_isDrawnOf.cls ≠ "java/lang/invoke/VarHandle" ∧ (parseMethodDescriptor yL_isDrawnOf.desc).map (fun d => d.parameters.length) = some 2 := by decide +kernel
set_option maxHeartbeats 4000000 in
set_option maxRecDepth 100000 in
theorem c_L_isDrawnOf (l : Launch) (hl9 : l.stackTraces = false) (D : va_G) (cy : Nat → ClassId) (h0 gma sna hia ka ora cha tra ena opa foa : Nat) (gm : k_G8) (sn : k_G8) (hs : Int32) (qs : k_Q4) (k0 : k_G8) (k1 : k_G8) (k2 : k_G8) (k3 : k_G8) (ch : Nat → Int32) (o : k_O5) (tr : k_G8) (es : Int32) (op : Nat → Int32) (fo : Nat → Int32) (has : Int32) (n1 : Int32) (r : Int32) (hf : f_L_isDrawnOf n1 gm = some r) : k_LMet l yL_isDrawnOf wsL_isDrawnOf rm_L_isDrawnOf D (k_tys cy) [.ref h0, .int n1] (wX7 cy h0 gma sna hia ka ora cha tra ena opa foa gm sn hs qs k0 k1 k2 k3 ch o tr es op fo has) (some (.int r)) (wX7 cy h0 gma sna hia ka ora cha tra ena opa foa gm sn hs qs k0 k1 k2 k3 ch o tr es op fo has) 1 6 := by
  refine k_lawOf (cc := cL_isDrawnOf) (maxL := 3) (ret := (some .int)) (hh := [(0, 13, 14, 15)]) (by decide) rfl (Nat.le_of_ble_eq_true rfl) ?_
  intro p e s m args below meth c ls A hx hb hr hlocks hml hown hts hl hA hK hP hD hN hT hZ hCx hTab
  have hl : lv_has ls 3 [(0, .ref h0), (1, .int n1)] := hl
  have hS : va_S A s.heap s.heap [] := va_S.rf
  unfold f_L_isDrawnOf at hf
  obtain ⟨H, eH⟩ : ∃ H, H = s.heap := ⟨_, rfl⟩
  obtain ⟨locs, elocs⟩ : ∃ L : List Loc, L = [] := ⟨_, rfl⟩
  have hP : va_P D vwCl (wX7 cy h0 gma sna hia ka ora cha tra ena opa foa gm sn hs qs k0 k1 k2 k3 ch o tr es op fo has) H := by rw [eH]; exact hP
  have hS : va_S A s.heap H locs := by rw [eH, elocs]; exact hS
  refine k_here eH elocs ?_
  refine lv_aload_n hx hb dL_isDrawnOf_0 rfl (lv_at hl 0 rfl) ?_
  refine lv_iload_n hx hb dL_isDrawnOf_1 rfl (lv_at hl 1 rfl) ?_
  obtain ⟨v1, hv1, hf⟩ := k_B hf
  refine k_callXV (As := [.int n1]) (rest := []) (r := (RX7, TX7, 6)) (ci := 4) (q0 := 0) (isC := [0, 1, 2, 3, 4, 5, 6, 7, 8, 9, 10, 11, 12, 13, 14]) (isR := []) (perm := [0, 1, 2, 3, 4, 5, 6, 7, 8, 9, 10, 11, 12, 13, 14]) ⟨hx, hb, hml, hown, hts⟩ (c_X7_isDrawn l hl9 D cy h0 gma sna hia ka ora cha tra ena opa foa gm sn hs qs k0 k1 k2 k3 ch o tr es op fo has n1 v1 hv1) (cwV 1 hts gL_isDrawnOf_X7_isDrawn rfl rfl rfl hd_X7_isDrawn ⟨Nat.le_of_ble_eq_true rfl, Nat.le_of_ble_eq_true rfl⟩) hK hN hT hZ hP hD hS hA rfl rfl rfl rfl rfl rfl (by decide) rfl rfl hl.1 rfl (Nat.le_of_ble_eq_true rfl) dL_isDrawnOf_2 ⟨Nat.le_of_ble_eq_true rfl, Nat.le_of_ble_eq_true rfl⟩ (fun q eq H locs hW1 hS => ?_) (fun E eE ce q9 H locs hW1 hS hce hcv hcl => ?_)
  · rcases v1 with v1 | v1
    · obtain rfl := k_smL eq
      obtain ⟨hP, hD⟩ := hW1 (wX7 cy h0 gma sna hia ka ora cha tra ena opa foa gm sn hs qs k0 k1 k2 k3 ch o tr es op fo has) rfl
      have hf := k_inl hf
      refine lv_if_eq (tgt := 12) hx hb dL_isDrawnOf_5 (by decide) (fun c2 => ?_) (fun c2 => ?_)
      · have hf := k_T c2 hf
        refine lv_iconst (v := 0) hx hb dL_isDrawnOf_12 (by decide) ?_
        obtain rfl := k_some hf
        exact k_liret hx hb hr hP hD hS dL_isDrawnOf_13 hlocks
      · have hf := k_F c2 hf
        refine lv_iconst (v := 1) hx hb dL_isDrawnOf_8 (by decide) ?_
        refine lv_goto (tgt := 13) hx hb dL_isDrawnOf_9 (by decide) ?_
        obtain rfl := k_some hf
        exact k_liret hx hb hr hP hD hS dL_isDrawnOf_13 hlocks
    · exact (k_smX eq).elim
  · rcases v1 with v1 | v1
    · exact (k_smY eE).elim
    · obtain rfl := k_smR eE
      have hf := k_inr hf
      by_cases c3 : v1 = "java/lang/IllegalArgumentException"
      · have hf := k_T c3 hf
        obtain ⟨hP, hD⟩ := hW1 (wX7 cy h0 gma sna hia ka ora cha tra ena opa foa gm sn hs qs k0 k1 k2 k3 ch o tr es op fo has) rfl
        have hcl : s.vm.findClass "java/lang/IllegalArgumentException" = some ce.cls := by rw [← c3]; exact hcl
        refine vx_catch (own := RL) (name := "java/lang/IllegalArgumentException") (E := "java/lang/IllegalArgumentException") hown [] ⟨0, 13, 14, 15⟩ [] (by rw [hTab]; rfl) (fun z hz => nomatch hz) (by decide) (by decide) (hts (.classLink RL 15 "java/lang/IllegalArgumentException") (by decide +kernel)) (va_Nw.use rfl (hT.1 (.castable "java/lang/IllegalArgumentException" "java/lang/IllegalArgumentException") (by decide +kernel))) hce hcv hcl ?_
        refine lv_astore_n (lv' := [(2, .ref q9), (0, .ref h0), (1, .int n1)]) hx hb dL_isDrawnOf_14 rfl hl (by decide) rfl (fun ls hl => ?_)
        refine lv_bipush (v := (-101)) hx hb dL_isDrawnOf_15 (by decide) ?_
        obtain rfl := k_some hf
        exact k_liret hx hb hr hP hD hS dL_isDrawnOf_17 hlocks
      · have hf := k_F c3 hf
        cases hf
def f_L_fencesOfOf (n1 : Int32) (gm : k_G8) : Option (Int32) :=
  (f_X7_fencesOf n1 gm).bind fun v1 =>
  Sum.elim (fun v1 =>
    some v1
  ) (fun v1 =>
    if v1 = "java/lang/IllegalArgumentException" then
      some (-101)
    else
      none
  ) v1
abbrev rm_L_fencesOfOf : Room := { frames := 7, cells := 1, slots := 6, locals := 111 }
theorem hd_L_fencesOfOf : yL_fencesOfOf.cls ≠ "java/lang/invoke/MethodHandle" ∧ yL_fencesOfOf.cls ≠ "java/lang/invoke/VarHandle" ∧ (parseMethodDescriptor yL_fencesOfOf.desc).map (fun d => d.parameters.length) = some 2 := by decide +kernel
set_option maxHeartbeats 4000000 in
set_option maxRecDepth 100000 in
theorem c_L_fencesOfOf (l : Launch) (hl9 : l.stackTraces = false) (D : va_G) (cy : Nat → ClassId) (h0 gma sna hia ka ora cha tra ena opa foa : Nat) (gm : k_G8) (sn : k_G8) (hs : Int32) (qs : k_Q4) (k0 : k_G8) (k1 : k_G8) (k2 : k_G8) (k3 : k_G8) (ch : Nat → Int32) (o : k_O5) (tr : k_G8) (es : Int32) (op : Nat → Int32) (fo : Nat → Int32) (has : Int32) (n1 : Int32) (r : Int32) (hf : f_L_fencesOfOf n1 gm = some r) : k_LMet l yL_fencesOfOf wsL_fencesOfOf rm_L_fencesOfOf D (k_tys cy) [.ref h0, .int n1] (wX7 cy h0 gma sna hia ka ora cha tra ena opa foa gm sn hs qs k0 k1 k2 k3 ch o tr es op fo has) (some (.int r)) (wX7 cy h0 gma sna hia ka ora cha tra ena opa foa gm sn hs qs k0 k1 k2 k3 ch o tr es op fo has) 1 6 := by
  refine k_lawOf (cc := cL_fencesOfOf) (maxL := 3) (ret := (some .int)) (hh := [(0, 5, 6, 15)]) (by decide) rfl (Nat.le_of_ble_eq_true rfl) ?_
  intro p e s m args below meth c ls A hx hb hr hlocks hml hown hts hl hA hK hP hD hN hT hZ hCx hTab
  have hl : lv_has ls 3 [(0, .ref h0), (1, .int n1)] := hl
  have hS : va_S A s.heap s.heap [] := va_S.rf
  unfold f_L_fencesOfOf at hf
  obtain ⟨H, eH⟩ : ∃ H, H = s.heap := ⟨_, rfl⟩
  obtain ⟨locs, elocs⟩ : ∃ L : List Loc, L = [] := ⟨_, rfl⟩
  have hP : va_P D vwCl (wX7 cy h0 gma sna hia ka ora cha tra ena opa foa gm sn hs qs k0 k1 k2 k3 ch o tr es op fo has) H := by rw [eH]; exact hP
  have hS : va_S A s.heap H locs := by rw [eH, elocs]; exact hS
  refine k_here eH elocs ?_
  refine lv_aload_n hx hb dL_fencesOfOf_0 rfl (lv_at hl 0 rfl) ?_
  refine lv_iload_n hx hb dL_fencesOfOf_1 rfl (lv_at hl 1 rfl) ?_
  obtain ⟨v1, hv1, hf⟩ := k_B hf
  refine k_callXV (As := [.int n1]) (rest := []) (r := (RX7, TX7, 6)) (ci := 4) (q0 := 0) (isC := [0, 1, 2, 3, 4, 5, 6, 7, 8, 9, 10, 11, 12, 13, 14]) (isR := []) (perm := [0, 1, 2, 3, 4, 5, 6, 7, 8, 9, 10, 11, 12, 13, 14]) ⟨hx, hb, hml, hown, hts⟩ (c_X7_fencesOf l hl9 D cy h0 gma sna hia ka ora cha tra ena opa foa gm sn hs qs k0 k1 k2 k3 ch o tr es op fo has n1 v1 hv1) (cwV 1 hts gL_fencesOfOf_X7_fencesOf rfl rfl rfl hd_X7_fencesOf ⟨Nat.le_of_ble_eq_true rfl, Nat.le_of_ble_eq_true rfl⟩) hK hN hT hZ hP hD hS hA rfl rfl rfl rfl rfl rfl (by decide) rfl rfl hl.1 rfl (Nat.le_of_ble_eq_true rfl) dL_fencesOfOf_2 ⟨Nat.le_of_ble_eq_true rfl, Nat.le_of_ble_eq_true rfl⟩ (fun q eq H locs hW1 hS => ?_) (fun E eE ce q9 H locs hW1 hS hce hcv hcl => ?_)
  · rcases v1 with v1 | v1
    · obtain rfl := k_smL eq
      obtain ⟨hP, hD⟩ := hW1 (wX7 cy h0 gma sna hia ka ora cha tra ena opa foa gm sn hs qs k0 k1 k2 k3 ch o tr es op fo has) rfl
      have hf := k_inl hf
      obtain rfl := k_some hf
      exact k_liret hx hb hr hP hD hS dL_fencesOfOf_5 hlocks
    · exact (k_smX eq).elim
  · rcases v1 with v1 | v1
    · exact (k_smY eE).elim
    · obtain rfl := k_smR eE
      have hf := k_inr hf
      by_cases c2 : v1 = "java/lang/IllegalArgumentException"
      · have hf := k_T c2 hf
        obtain ⟨hP, hD⟩ := hW1 (wX7 cy h0 gma sna hia ka ora cha tra ena opa foa gm sn hs qs k0 k1 k2 k3 ch o tr es op fo has) rfl
        have hcl : s.vm.findClass "java/lang/IllegalArgumentException" = some ce.cls := by rw [← c2]; exact hcl
        refine vx_catch (own := RL) (name := "java/lang/IllegalArgumentException") (E := "java/lang/IllegalArgumentException") hown [] ⟨0, 5, 6, 15⟩ [] (by rw [hTab]; rfl) (fun z hz => nomatch hz) (by decide) (by decide) (hts (.classLink RL 15 "java/lang/IllegalArgumentException") (by decide +kernel)) (va_Nw.use rfl (hT.1 (.castable "java/lang/IllegalArgumentException" "java/lang/IllegalArgumentException") (by decide +kernel))) hce hcv hcl ?_
        refine lv_astore_n (lv' := [(2, .ref q9), (0, .ref h0), (1, .int n1)]) hx hb dL_fencesOfOf_6 rfl hl (by decide) rfl (fun ls hl => ?_)
        refine lv_bipush (v := (-101)) hx hb dL_fencesOfOf_7 (by decide) ?_
        obtain rfl := k_some hf
        exact k_liret hx hb hr hP hD hS dL_fencesOfOf_9 hlocks
      · have hf := k_F c2 hf
        cases hf
def f_L_ownerOfOf (n1 : Int32) (gm : k_G8) : Option (Int32) :=
  (f_X7_ownerOf n1 gm).bind fun v1 =>
  Sum.elim (fun v1 =>
    some v1
  ) (fun v1 =>
    if v1 = "java/lang/IllegalArgumentException" then
      some (-101)
    else
      if v1 = "java/util/NoSuchElementException" then
        some (-102)
      else
        none
  ) v1
abbrev rm_L_ownerOfOf : Room := { frames := 7, cells := 1, slots := 6, locals := 111 }
theorem hd_L_ownerOfOf : yL_ownerOfOf.cls ≠ "java/lang/invoke/MethodHandle" ∧ yL_ownerOfOf.cls ≠ "java/lang/invoke/VarHandle" ∧ (parseMethodDescriptor yL_ownerOfOf.desc).map (fun d => d.parameters.length) = some 2 := by decide +kernel
set_option maxHeartbeats 4000000 in
set_option maxRecDepth 100000 in
theorem c_L_ownerOfOf (l : Launch) (hl9 : l.stackTraces = false) (D : va_G) (cy : Nat → ClassId) (h0 gma sna hia ka ora cha tra ena opa foa : Nat) (gm : k_G8) (sn : k_G8) (hs : Int32) (qs : k_Q4) (k0 : k_G8) (k1 : k_G8) (k2 : k_G8) (k3 : k_G8) (ch : Nat → Int32) (o : k_O5) (tr : k_G8) (es : Int32) (op : Nat → Int32) (fo : Nat → Int32) (has : Int32) (n1 : Int32) (r : Int32) (hf : f_L_ownerOfOf n1 gm = some r) : k_LMet l yL_ownerOfOf wsL_ownerOfOf rm_L_ownerOfOf D (k_tys cy) [.ref h0, .int n1] (wX7 cy h0 gma sna hia ka ora cha tra ena opa foa gm sn hs qs k0 k1 k2 k3 ch o tr es op fo has) (some (.int r)) (wX7 cy h0 gma sna hia ka ora cha tra ena opa foa gm sn hs qs k0 k1 k2 k3 ch o tr es op fo has) 1 6 := by
  refine k_lawOf (cc := cL_ownerOfOf) (maxL := 3) (ret := (some .int)) (hh := [(0, 5, 6, 15), (0, 5, 10, 29)]) (by decide) rfl (Nat.le_of_ble_eq_true rfl) ?_
  intro p e s m args below meth c ls A hx hb hr hlocks hml hown hts hl hA hK hP hD hN hT hZ hCx hTab
  have hl : lv_has ls 3 [(0, .ref h0), (1, .int n1)] := hl
  have hS : va_S A s.heap s.heap [] := va_S.rf
  unfold f_L_ownerOfOf at hf
  obtain ⟨H, eH⟩ : ∃ H, H = s.heap := ⟨_, rfl⟩
  obtain ⟨locs, elocs⟩ : ∃ L : List Loc, L = [] := ⟨_, rfl⟩
  have hP : va_P D vwCl (wX7 cy h0 gma sna hia ka ora cha tra ena opa foa gm sn hs qs k0 k1 k2 k3 ch o tr es op fo has) H := by rw [eH]; exact hP
  have hS : va_S A s.heap H locs := by rw [eH, elocs]; exact hS
  refine k_here eH elocs ?_
  refine lv_aload_n hx hb dL_ownerOfOf_0 rfl (lv_at hl 0 rfl) ?_
  refine lv_iload_n hx hb dL_ownerOfOf_1 rfl (lv_at hl 1 rfl) ?_
  obtain ⟨v1, hv1, hf⟩ := k_B hf
  refine k_callXV (As := [.int n1]) (rest := []) (r := (RX7, TX7, 6)) (ci := 4) (q0 := 0) (isC := [0, 1, 2, 3, 4, 5, 6, 7, 8, 9, 10, 11, 12, 13, 14]) (isR := []) (perm := [0, 1, 2, 3, 4, 5, 6, 7, 8, 9, 10, 11, 12, 13, 14]) ⟨hx, hb, hml, hown, hts⟩ (c_X7_ownerOf l hl9 D cy h0 gma sna hia ka ora cha tra ena opa foa gm sn hs qs k0 k1 k2 k3 ch o tr es op fo has n1 v1 hv1) (cwV 1 hts gL_ownerOfOf_X7_ownerOf rfl rfl rfl hd_X7_ownerOf ⟨Nat.le_of_ble_eq_true rfl, Nat.le_of_ble_eq_true rfl⟩) hK hN hT hZ hP hD hS hA rfl rfl rfl rfl rfl rfl (by decide) rfl rfl hl.1 rfl (Nat.le_of_ble_eq_true rfl) dL_ownerOfOf_2 ⟨Nat.le_of_ble_eq_true rfl, Nat.le_of_ble_eq_true rfl⟩ (fun q eq H locs hW1 hS => ?_) (fun E eE ce q9 H locs hW1 hS hce hcv hcl => ?_)
  · rcases v1 with v1 | v1
    · obtain rfl := k_smL eq
      obtain ⟨hP, hD⟩ := hW1 (wX7 cy h0 gma sna hia ka ora cha tra ena opa foa gm sn hs qs k0 k1 k2 k3 ch o tr es op fo has) rfl
      have hf := k_inl hf
      obtain rfl := k_some hf
      exact k_liret hx hb hr hP hD hS dL_ownerOfOf_5 hlocks
    · exact (k_smX eq).elim
  · rcases v1 with v1 | v1
    · exact (k_smY eE).elim
    · obtain rfl := k_smR eE
      have hf := k_inr hf
      by_cases c3 : v1 = "java/lang/IllegalArgumentException"
      · have hf := k_T c3 hf
        obtain ⟨hP, hD⟩ := hW1 (wX7 cy h0 gma sna hia ka ora cha tra ena opa foa gm sn hs qs k0 k1 k2 k3 ch o tr es op fo has) rfl
        have hcl : s.vm.findClass "java/lang/IllegalArgumentException" = some ce.cls := by rw [← c3]; exact hcl
        refine vx_catch (own := RL) (name := "java/lang/IllegalArgumentException") (E := "java/lang/IllegalArgumentException") hown [] ⟨0, 5, 6, 15⟩ [⟨0, 5, 10, 29⟩] (by rw [hTab]; rfl) (fun z hz => nomatch hz) (by decide) (by decide) (hts (.classLink RL 15 "java/lang/IllegalArgumentException") (by decide +kernel)) (va_Nw.use rfl (hT.1 (.castable "java/lang/IllegalArgumentException" "java/lang/IllegalArgumentException") (by decide +kernel))) hce hcv hcl ?_
        refine lv_astore_n (lv' := [(2, .ref q9), (0, .ref h0), (1, .int n1)]) hx hb dL_ownerOfOf_6 rfl hl (by decide) rfl (fun ls hl => ?_)
        refine lv_bipush (v := (-101)) hx hb dL_ownerOfOf_7 (by decide) ?_
        obtain rfl := k_some hf
        exact k_liret hx hb hr hP hD hS dL_ownerOfOf_9 hlocks
      · have hf := k_F c3 hf
        by_cases c2 : v1 = "java/util/NoSuchElementException"
        · have hf := k_T c2 hf
          obtain ⟨hP, hD⟩ := hW1 (wX7 cy h0 gma sna hia ka ora cha tra ena opa foa gm sn hs qs k0 k1 k2 k3 ch o tr es op fo has) rfl
          have hcl : s.vm.findClass "java/util/NoSuchElementException" = some ce.cls := by rw [← c2]; exact hcl
          have hpass : ∀ z ∈ ([⟨0, 5, 6, 15⟩] : List ExceptionTableEntry), covers z 2 = false ∨ (z.catchType ≠ 0 ∧ ∃ nm : String, (Cond.classLink RL z.catchType nm).before args s = true ∧ va_Nc "java/util/NoSuchElementException" nm s) := by
            intro z hz
            rcases List.mem_cons.mp hz with rfl | hz
            · exact Or.inr ⟨by decide, "java/lang/IllegalArgumentException", hts (.classLink RL 15 "java/lang/IllegalArgumentException") (by decide +kernel), hCx ("java/util/NoSuchElementException", "java/lang/IllegalArgumentException") (by decide +kernel)⟩
            cases hz
          refine vx_catch (own := RL) (name := "java/util/NoSuchElementException") (E := "java/util/NoSuchElementException") hown [⟨0, 5, 6, 15⟩] ⟨0, 5, 10, 29⟩ [] (by rw [hTab]; rfl) hpass (by decide) (by decide) (hts (.classLink RL 29 "java/util/NoSuchElementException") (by decide +kernel)) (va_Nw.use rfl (hT.1 (.castable "java/util/NoSuchElementException" "java/util/NoSuchElementException") (by decide +kernel))) hce hcv hcl ?_
          refine lv_astore_n (lv' := [(2, .ref q9), (0, .ref h0), (1, .int n1)]) hx hb dL_ownerOfOf_10 rfl hl (by decide) rfl (fun ls hl => ?_)
          refine lv_bipush (v := (-102)) hx hb dL_ownerOfOf_11 (by decide) ?_
          obtain rfl := k_some hf
          exact k_liret hx hb hr hP hD hS dL_ownerOfOf_13 hlocks
        · have hf := k_F c2 hf
          cases hf
def f_L_boxesOfOf (n1 : Int32) (gm : k_G8) : Option (Int32) :=
  (f_X7_boxesOf n1 gm).bind fun v1 =>
  Sum.elim (fun v1 =>
    some v1
  ) (fun v1 =>
    if v1 = "java/lang/IllegalArgumentException" then
      some (-101)
    else
      none
  ) v1
abbrev rm_L_boxesOfOf : Room := { frames := 7, cells := 1, slots := 6, locals := 111 }
theorem hd_L_boxesOfOf : yL_boxesOfOf.cls ≠ "java/lang/invoke/MethodHandle" ∧ yL_boxesOfOf.cls ≠ "java/lang/invoke/VarHandle" ∧ (parseMethodDescriptor yL_boxesOfOf.desc).map (fun d => d.parameters.length) = some 2 := by decide +kernel
set_option maxHeartbeats 4000000 in
set_option maxRecDepth 100000 in
theorem c_L_boxesOfOf (l : Launch) (hl9 : l.stackTraces = false) (D : va_G) (cy : Nat → ClassId) (h0 gma sna hia ka ora cha tra ena opa foa : Nat) (gm : k_G8) (sn : k_G8) (hs : Int32) (qs : k_Q4) (k0 : k_G8) (k1 : k_G8) (k2 : k_G8) (k3 : k_G8) (ch : Nat → Int32) (o : k_O5) (tr : k_G8) (es : Int32) (op : Nat → Int32) (fo : Nat → Int32) (has : Int32) (n1 : Int32) (r : Int32) (hf : f_L_boxesOfOf n1 gm = some r) : k_LMet l yL_boxesOfOf wsL_boxesOfOf rm_L_boxesOfOf D (k_tys cy) [.ref h0, .int n1] (wX7 cy h0 gma sna hia ka ora cha tra ena opa foa gm sn hs qs k0 k1 k2 k3 ch o tr es op fo has) (some (.int r)) (wX7 cy h0 gma sna hia ka ora cha tra ena opa foa gm sn hs qs k0 k1 k2 k3 ch o tr es op fo has) 1 6 := by
  refine k_lawOf (cc := cL_boxesOfOf) (maxL := 3) (ret := (some .int)) (hh := [(0, 5, 6, 15)]) (by decide) rfl (Nat.le_of_ble_eq_true rfl) ?_
  intro p e s m args below meth c ls A hx hb hr hlocks hml hown hts hl hA hK hP hD hN hT hZ hCx hTab
  have hl : lv_has ls 3 [(0, .ref h0), (1, .int n1)] := hl
  have hS : va_S A s.heap s.heap [] := va_S.rf
  unfold f_L_boxesOfOf at hf
  obtain ⟨H, eH⟩ : ∃ H, H = s.heap := ⟨_, rfl⟩
  obtain ⟨locs, elocs⟩ : ∃ L : List Loc, L = [] := ⟨_, rfl⟩
  have hP : va_P D vwCl (wX7 cy h0 gma sna hia ka ora cha tra ena opa foa gm sn hs qs k0 k1 k2 k3 ch o tr es op fo has) H := by rw [eH]; exact hP
  have hS : va_S A s.heap H locs := by rw [eH, elocs]; exact hS
  refine k_here eH elocs ?_
  refine lv_aload_n hx hb dL_boxesOfOf_0 rfl (lv_at hl 0 rfl) ?_
  refine lv_iload_n hx hb dL_boxesOfOf_1 rfl (lv_at hl 1 rfl) ?_
  obtain ⟨v1, hv1, hf⟩ := k_B hf
  refine k_callXV (As := [.int n1]) (rest := []) (r := (RX7, TX7, 6)) (ci := 4) (q0 := 0) (isC := [0, 1, 2, 3, 4, 5, 6, 7, 8, 9, 10, 11, 12, 13, 14]) (isR := []) (perm := [0, 1, 2, 3, 4, 5, 6, 7, 8, 9, 10, 11, 12, 13, 14]) ⟨hx, hb, hml, hown, hts⟩ (c_X7_boxesOf l hl9 D cy h0 gma sna hia ka ora cha tra ena opa foa gm sn hs qs k0 k1 k2 k3 ch o tr es op fo has n1 v1 hv1) (cwV 1 hts gL_boxesOfOf_X7_boxesOf rfl rfl rfl hd_X7_boxesOf ⟨Nat.le_of_ble_eq_true rfl, Nat.le_of_ble_eq_true rfl⟩) hK hN hT hZ hP hD hS hA rfl rfl rfl rfl rfl rfl (by decide) rfl rfl hl.1 rfl (Nat.le_of_ble_eq_true rfl) dL_boxesOfOf_2 ⟨Nat.le_of_ble_eq_true rfl, Nat.le_of_ble_eq_true rfl⟩ (fun q eq H locs hW1 hS => ?_) (fun E eE ce q9 H locs hW1 hS hce hcv hcl => ?_)
  · rcases v1 with v1 | v1
    · obtain rfl := k_smL eq
      obtain ⟨hP, hD⟩ := hW1 (wX7 cy h0 gma sna hia ka ora cha tra ena opa foa gm sn hs qs k0 k1 k2 k3 ch o tr es op fo has) rfl
      have hf := k_inl hf
      obtain rfl := k_some hf
      exact k_liret hx hb hr hP hD hS dL_boxesOfOf_5 hlocks
    · exact (k_smX eq).elim
  · rcases v1 with v1 | v1
    · exact (k_smY eE).elim
    · obtain rfl := k_smR eE
      have hf := k_inr hf
      by_cases c2 : v1 = "java/lang/IllegalArgumentException"
      · have hf := k_T c2 hf
        obtain ⟨hP, hD⟩ := hW1 (wX7 cy h0 gma sna hia ka ora cha tra ena opa foa gm sn hs qs k0 k1 k2 k3 ch o tr es op fo has) rfl
        have hcl : s.vm.findClass "java/lang/IllegalArgumentException" = some ce.cls := by rw [← c2]; exact hcl
        refine vx_catch (own := RL) (name := "java/lang/IllegalArgumentException") (E := "java/lang/IllegalArgumentException") hown [] ⟨0, 5, 6, 15⟩ [] (by rw [hTab]; rfl) (fun z hz => nomatch hz) (by decide) (by decide) (hts (.classLink RL 15 "java/lang/IllegalArgumentException") (by decide +kernel)) (va_Nw.use rfl (hT.1 (.castable "java/lang/IllegalArgumentException" "java/lang/IllegalArgumentException") (by decide +kernel))) hce hcv hcl ?_
        refine lv_astore_n (lv' := [(2, .ref q9), (0, .ref h0), (1, .int n1)]) hx hb dL_boxesOfOf_6 rfl hl (by decide) rfl (fun ls hl => ?_)
        refine lv_bipush (v := (-101)) hx hb dL_boxesOfOf_7 (by decide) ?_
        obtain rfl := k_some hf
        exact k_liret hx hb hr hP hD hS dL_boxesOfOf_9 hlocks
      · have hf := k_F c2 hf
        cases hf
def f_L_boxesWithOf (n1 : Int32) (gm : k_G8) : Option (Int32) :=
  (f_X7_boxesWith n1 gm).bind fun v1 =>
  Sum.elim (fun v1 =>
    some v1
  ) (fun v1 =>
    if v1 = "java/lang/IllegalArgumentException" then
      some (-101)
    else
      none
  ) v1
abbrev rm_L_boxesWithOf : Room := { frames := 7, cells := 1, slots := 6, locals := 111 }
theorem hd_L_boxesWithOf : yL_boxesWithOf.cls ≠ "java/lang/invoke/MethodHandle" ∧ yL_boxesWithOf.cls ≠ "java/lang/invoke/VarHandle" ∧ (parseMethodDescriptor yL_boxesWithOf.desc).map (fun d => d.parameters.length) = some 2 := by decide +kernel
set_option maxHeartbeats 4000000 in
set_option maxRecDepth 100000 in
theorem c_L_boxesWithOf (l : Launch) (hl9 : l.stackTraces = false) (D : va_G) (cy : Nat → ClassId) (h0 gma sna hia ka ora cha tra ena opa foa : Nat) (gm : k_G8) (sn : k_G8) (hs : Int32) (qs : k_Q4) (k0 : k_G8) (k1 : k_G8) (k2 : k_G8) (k3 : k_G8) (ch : Nat → Int32) (o : k_O5) (tr : k_G8) (es : Int32) (op : Nat → Int32) (fo : Nat → Int32) (has : Int32) (n1 : Int32) (r : Int32) (hf : f_L_boxesWithOf n1 gm = some r) : k_LMet l yL_boxesWithOf wsL_boxesWithOf rm_L_boxesWithOf D (k_tys cy) [.ref h0, .int n1] (wX7 cy h0 gma sna hia ka ora cha tra ena opa foa gm sn hs qs k0 k1 k2 k3 ch o tr es op fo has) (some (.int r)) (wX7 cy h0 gma sna hia ka ora cha tra ena opa foa gm sn hs qs k0 k1 k2 k3 ch o tr es op fo has) 1 6 := by
  refine k_lawOf (cc := cL_boxesWithOf) (maxL := 3) (ret := (some .int)) (hh := [(0, 5, 6, 15)]) (by decide) rfl (Nat.le_of_ble_eq_true rfl) ?_
  intro p e s m args below meth c ls A hx hb hr hlocks hml hown hts hl hA hK hP hD hN hT hZ hCx hTab
  have hl : lv_has ls 3 [(0, .ref h0), (1, .int n1)] := hl
  have hS : va_S A s.heap s.heap [] := va_S.rf
  unfold f_L_boxesWithOf at hf
  obtain ⟨H, eH⟩ : ∃ H, H = s.heap := ⟨_, rfl⟩
  obtain ⟨locs, elocs⟩ : ∃ L : List Loc, L = [] := ⟨_, rfl⟩
  have hP : va_P D vwCl (wX7 cy h0 gma sna hia ka ora cha tra ena opa foa gm sn hs qs k0 k1 k2 k3 ch o tr es op fo has) H := by rw [eH]; exact hP
  have hS : va_S A s.heap H locs := by rw [eH, elocs]; exact hS
  refine k_here eH elocs ?_
  refine lv_aload_n hx hb dL_boxesWithOf_0 rfl (lv_at hl 0 rfl) ?_
  refine lv_iload_n hx hb dL_boxesWithOf_1 rfl (lv_at hl 1 rfl) ?_
  obtain ⟨v1, hv1, hf⟩ := k_B hf
  refine k_callXV (As := [.int n1]) (rest := []) (r := (RX7, TX7, 6)) (ci := 4) (q0 := 0) (isC := [0, 1, 2, 3, 4, 5, 6, 7, 8, 9, 10, 11, 12, 13, 14]) (isR := []) (perm := [0, 1, 2, 3, 4, 5, 6, 7, 8, 9, 10, 11, 12, 13, 14]) ⟨hx, hb, hml, hown, hts⟩ (c_X7_boxesWith l hl9 D cy h0 gma sna hia ka ora cha tra ena opa foa gm sn hs qs k0 k1 k2 k3 ch o tr es op fo has n1 v1 hv1) (cwV 1 hts gL_boxesWithOf_X7_boxesWith rfl rfl rfl hd_X7_boxesWith ⟨Nat.le_of_ble_eq_true rfl, Nat.le_of_ble_eq_true rfl⟩) hK hN hT hZ hP hD hS hA rfl rfl rfl rfl rfl rfl (by decide) rfl rfl hl.1 rfl (Nat.le_of_ble_eq_true rfl) dL_boxesWithOf_2 ⟨Nat.le_of_ble_eq_true rfl, Nat.le_of_ble_eq_true rfl⟩ (fun q eq H locs hW1 hS => ?_) (fun E eE ce q9 H locs hW1 hS hce hcv hcl => ?_)
  · rcases v1 with v1 | v1
    · obtain rfl := k_smL eq
      obtain ⟨hP, hD⟩ := hW1 (wX7 cy h0 gma sna hia ka ora cha tra ena opa foa gm sn hs qs k0 k1 k2 k3 ch o tr es op fo has) rfl
      have hf := k_inl hf
      obtain rfl := k_some hf
      exact k_liret hx hb hr hP hD hS dL_boxesWithOf_5 hlocks
    · exact (k_smX eq).elim
  · rcases v1 with v1 | v1
    · exact (k_smY eE).elim
    · obtain rfl := k_smR eE
      have hf := k_inr hf
      by_cases c2 : v1 = "java/lang/IllegalArgumentException"
      · have hf := k_T c2 hf
        obtain ⟨hP, hD⟩ := hW1 (wX7 cy h0 gma sna hia ka ora cha tra ena opa foa gm sn hs qs k0 k1 k2 k3 ch o tr es op fo has) rfl
        have hcl : s.vm.findClass "java/lang/IllegalArgumentException" = some ce.cls := by rw [← c2]; exact hcl
        refine vx_catch (own := RL) (name := "java/lang/IllegalArgumentException") (E := "java/lang/IllegalArgumentException") hown [] ⟨0, 5, 6, 15⟩ [] (by rw [hTab]; rfl) (fun z hz => nomatch hz) (by decide) (by decide) (hts (.classLink RL 15 "java/lang/IllegalArgumentException") (by decide +kernel)) (va_Nw.use rfl (hT.1 (.castable "java/lang/IllegalArgumentException" "java/lang/IllegalArgumentException") (by decide +kernel))) hce hcv hcl ?_
        refine lv_astore_n (lv' := [(2, .ref q9), (0, .ref h0), (1, .int n1)]) hx hb dL_boxesWithOf_6 rfl hl (by decide) rfl (fun ls hl => ?_)
        refine lv_bipush (v := (-101)) hx hb dL_boxesWithOf_7 (by decide) ?_
        obtain rfl := k_some hf
        exact k_liret hx hb hr hP hD hS dL_boxesWithOf_9 hlocks
      · have hf := k_F c2 hf
        cases hf
def f_L_whyNotOf (n1 : Int32) (gm : k_G8) : Option (Int32) :=
  (f_X7_whyNot n1 gm).bind fun v1 =>
  Sum.elim (fun v1 =>
    some v1
  ) (fun v1 =>
    if v1 = "java/lang/IllegalArgumentException" then
      some (-101)
    else
      none
  ) v1
abbrev rm_L_whyNotOf : Room := { frames := 7, cells := 1, slots := 6, locals := 111 }
theorem hd_L_whyNotOf : yL_whyNotOf.cls ≠ "java/lang/invoke/MethodHandle" ∧ yL_whyNotOf.cls ≠ "java/lang/invoke/VarHandle" ∧ (parseMethodDescriptor yL_whyNotOf.desc).map (fun d => d.parameters.length) = some 2 := by decide +kernel
set_option maxHeartbeats 4000000 in
set_option maxRecDepth 100000 in
theorem c_L_whyNotOf (l : Launch) (hl9 : l.stackTraces = false) (D : va_G) (cy : Nat → ClassId) (h0 gma sna hia ka ora cha tra ena opa foa : Nat) (gm : k_G8) (sn : k_G8) (hs : Int32) (qs : k_Q4) (k0 : k_G8) (k1 : k_G8) (k2 : k_G8) (k3 : k_G8) (ch : Nat → Int32) (o : k_O5) (tr : k_G8) (es : Int32) (op : Nat → Int32) (fo : Nat → Int32) (has : Int32) (n1 : Int32) (r : Int32) (hf : f_L_whyNotOf n1 gm = some r) : k_LMet l yL_whyNotOf wsL_whyNotOf rm_L_whyNotOf D (k_tys cy) [.ref h0, .int n1] (wX7 cy h0 gma sna hia ka ora cha tra ena opa foa gm sn hs qs k0 k1 k2 k3 ch o tr es op fo has) (some (.int r)) (wX7 cy h0 gma sna hia ka ora cha tra ena opa foa gm sn hs qs k0 k1 k2 k3 ch o tr es op fo has) 1 6 := by
  refine k_lawOf (cc := cL_whyNotOf) (maxL := 3) (ret := (some .int)) (hh := [(0, 5, 6, 15)]) (by decide) rfl (Nat.le_of_ble_eq_true rfl) ?_
  intro p e s m args below meth c ls A hx hb hr hlocks hml hown hts hl hA hK hP hD hN hT hZ hCx hTab
  have hl : lv_has ls 3 [(0, .ref h0), (1, .int n1)] := hl
  have hS : va_S A s.heap s.heap [] := va_S.rf
  unfold f_L_whyNotOf at hf
  obtain ⟨H, eH⟩ : ∃ H, H = s.heap := ⟨_, rfl⟩
  obtain ⟨locs, elocs⟩ : ∃ L : List Loc, L = [] := ⟨_, rfl⟩
  have hP : va_P D vwCl (wX7 cy h0 gma sna hia ka ora cha tra ena opa foa gm sn hs qs k0 k1 k2 k3 ch o tr es op fo has) H := by rw [eH]; exact hP
  have hS : va_S A s.heap H locs := by rw [eH, elocs]; exact hS
  refine k_here eH elocs ?_
  refine lv_aload_n hx hb dL_whyNotOf_0 rfl (lv_at hl 0 rfl) ?_
  refine lv_iload_n hx hb dL_whyNotOf_1 rfl (lv_at hl 1 rfl) ?_
  obtain ⟨v1, hv1, hf⟩ := k_B hf
  refine k_callXV (As := [.int n1]) (rest := []) (r := (RX7, TX7, 6)) (ci := 4) (q0 := 0) (isC := [0, 1, 2, 3, 4, 5, 6, 7, 8, 9, 10, 11, 12, 13, 14]) (isR := []) (perm := [0, 1, 2, 3, 4, 5, 6, 7, 8, 9, 10, 11, 12, 13, 14]) ⟨hx, hb, hml, hown, hts⟩ (c_X7_whyNot l hl9 D cy h0 gma sna hia ka ora cha tra ena opa foa gm sn hs qs k0 k1 k2 k3 ch o tr es op fo has n1 v1 hv1) (cwV 1 hts gL_whyNotOf_X7_whyNot rfl rfl rfl hd_X7_whyNot ⟨Nat.le_of_ble_eq_true rfl, Nat.le_of_ble_eq_true rfl⟩) hK hN hT hZ hP hD hS hA rfl rfl rfl rfl rfl rfl (by decide) rfl rfl hl.1 rfl (Nat.le_of_ble_eq_true rfl) dL_whyNotOf_2 ⟨Nat.le_of_ble_eq_true rfl, Nat.le_of_ble_eq_true rfl⟩ (fun q eq H locs hW1 hS => ?_) (fun E eE ce q9 H locs hW1 hS hce hcv hcl => ?_)
  · rcases v1 with v1 | v1
    · obtain rfl := k_smL eq
      obtain ⟨hP, hD⟩ := hW1 (wX7 cy h0 gma sna hia ka ora cha tra ena opa foa gm sn hs qs k0 k1 k2 k3 ch o tr es op fo has) rfl
      have hf := k_inl hf
      obtain rfl := k_some hf
      exact k_liret hx hb hr hP hD hS dL_whyNotOf_5 hlocks
    · exact (k_smX eq).elim
  · rcases v1 with v1 | v1
    · exact (k_smY eE).elim
    · obtain rfl := k_smR eE
      have hf := k_inr hf
      by_cases c2 : v1 = "java/lang/IllegalArgumentException"
      · have hf := k_T c2 hf
        obtain ⟨hP, hD⟩ := hW1 (wX7 cy h0 gma sna hia ka ora cha tra ena opa foa gm sn hs qs k0 k1 k2 k3 ch o tr es op fo has) rfl
        have hcl : s.vm.findClass "java/lang/IllegalArgumentException" = some ce.cls := by rw [← c2]; exact hcl
        refine vx_catch (own := RL) (name := "java/lang/IllegalArgumentException") (E := "java/lang/IllegalArgumentException") hown [] ⟨0, 5, 6, 15⟩ [] (by rw [hTab]; rfl) (fun z hz => nomatch hz) (by decide) (by decide) (hts (.classLink RL 15 "java/lang/IllegalArgumentException") (by decide +kernel)) (va_Nw.use rfl (hT.1 (.castable "java/lang/IllegalArgumentException" "java/lang/IllegalArgumentException") (by decide +kernel))) hce hcv hcl ?_
        refine lv_astore_n (lv' := [(2, .ref q9), (0, .ref h0), (1, .int n1)]) hx hb dL_whyNotOf_6 rfl hl (by decide) rfl (fun ls hl => ?_)
        refine lv_bipush (v := (-101)) hx hb dL_whyNotOf_7 (by decide) ?_
        obtain rfl := k_some hf
        exact k_liret hx hb hr hP hD hS dL_whyNotOf_9 hlocks
      · have hf := k_F c2 hf
        cases hf
def f_L_takingFenceOf (gm : k_G8) : Option (Int32) :=
  (f_X7_takingFence gm).bind fun v1 =>
  Sum.elim (fun v1 =>
    some v1
  ) (fun v1 =>
    if v1 = "java/util/NoSuchElementException" then
      some (-101)
    else
      none
  ) v1
abbrev rm_L_takingFenceOf : Room := { frames := 7, cells := 1, slots := 6, locals := 111 }
theorem hd_L_takingFenceOf : yL_takingFenceOf.cls ≠ "java/lang/invoke/MethodHandle" ∧ yL_takingFenceOf.cls ≠ "java/lang/invoke/VarHandle" ∧ (parseMethodDescriptor yL_takingFenceOf.desc).map (fun d => d.parameters.length) = some 1 := by decide +kernel
set_option maxHeartbeats 4000000 in
set_option maxRecDepth 100000 in
theorem c_L_takingFenceOf (l : Launch) (hl9 : l.stackTraces = false) (D : va_G) (cy : Nat → ClassId) (h0 gma sna hia ka ora cha tra ena opa foa : Nat) (gm : k_G8) (sn : k_G8) (hs : Int32) (qs : k_Q4) (k0 : k_G8) (k1 : k_G8) (k2 : k_G8) (k3 : k_G8) (ch : Nat → Int32) (o : k_O5) (tr : k_G8) (es : Int32) (op : Nat → Int32) (fo : Nat → Int32) (has : Int32)  (r : Int32) (hf : f_L_takingFenceOf gm = some r) : k_LMet l yL_takingFenceOf wsL_takingFenceOf rm_L_takingFenceOf D (k_tys cy) [.ref h0] (wX7 cy h0 gma sna hia ka ora cha tra ena opa foa gm sn hs qs k0 k1 k2 k3 ch o tr es op fo has) (some (.int r)) (wX7 cy h0 gma sna hia ka ora cha tra ena opa foa gm sn hs qs k0 k1 k2 k3 ch o tr es op fo has) 1 6 := by
  refine k_lawOf (cc := cL_takingFenceOf) (maxL := 2) (ret := (some .int)) (hh := [(0, 4, 5, 29)]) (by decide) rfl (Nat.le_of_ble_eq_true rfl) ?_
  intro p e s m args below meth c ls A hx hb hr hlocks hml hown hts hl hA hK hP hD hN hT hZ hCx hTab
  have hl : lv_has ls 2 [(0, .ref h0)] := hl
  have hS : va_S A s.heap s.heap [] := va_S.rf
  unfold f_L_takingFenceOf at hf
  obtain ⟨H, eH⟩ : ∃ H, H = s.heap := ⟨_, rfl⟩
  obtain ⟨locs, elocs⟩ : ∃ L : List Loc, L = [] := ⟨_, rfl⟩
  have hP : va_P D vwCl (wX7 cy h0 gma sna hia ka ora cha tra ena opa foa gm sn hs qs k0 k1 k2 k3 ch o tr es op fo has) H := by rw [eH]; exact hP
  have hS : va_S A s.heap H locs := by rw [eH, elocs]; exact hS
  refine k_here eH elocs ?_
  refine lv_aload_n hx hb dL_takingFenceOf_0 rfl (lv_at hl 0 rfl) ?_
  obtain ⟨v1, hv1, hf⟩ := k_B hf
  refine k_callXV (As := []) (rest := []) (r := (RX7, TX7, 6)) (ci := 4) (q0 := 0) (isC := [0, 1, 2, 3, 4, 5, 6, 7, 8, 9, 10, 11, 12, 13, 14]) (isR := []) (perm := [0, 1, 2, 3, 4, 5, 6, 7, 8, 9, 10, 11, 12, 13, 14]) ⟨hx, hb, hml, hown, hts⟩ (c_X7_takingFence l hl9 D cy h0 gma sna hia ka ora cha tra ena opa foa gm sn hs qs k0 k1 k2 k3 ch o tr es op fo has  v1 hv1) (cwV 0 hts gL_takingFenceOf_X7_takingFence rfl rfl rfl hd_X7_takingFence ⟨Nat.le_of_ble_eq_true rfl, Nat.le_of_ble_eq_true rfl⟩) hK hN hT hZ hP hD hS hA rfl rfl rfl rfl rfl rfl (by decide) rfl rfl hl.1 rfl (Nat.le_of_ble_eq_true rfl) dL_takingFenceOf_1 ⟨Nat.le_of_ble_eq_true rfl, Nat.le_of_ble_eq_true rfl⟩ (fun q eq H locs hW1 hS => ?_) (fun E eE ce q9 H locs hW1 hS hce hcv hcl => ?_)
  · rcases v1 with v1 | v1
    · obtain rfl := k_smL eq
      obtain ⟨hP, hD⟩ := hW1 (wX7 cy h0 gma sna hia ka ora cha tra ena opa foa gm sn hs qs k0 k1 k2 k3 ch o tr es op fo has) rfl
      have hf := k_inl hf
      obtain rfl := k_some hf
      exact k_liret hx hb hr hP hD hS dL_takingFenceOf_4 hlocks
    · exact (k_smX eq).elim
  · rcases v1 with v1 | v1
    · exact (k_smY eE).elim
    · obtain rfl := k_smR eE
      have hf := k_inr hf
      by_cases c2 : v1 = "java/util/NoSuchElementException"
      · have hf := k_T c2 hf
        obtain ⟨hP, hD⟩ := hW1 (wX7 cy h0 gma sna hia ka ora cha tra ena opa foa gm sn hs qs k0 k1 k2 k3 ch o tr es op fo has) rfl
        have hcl : s.vm.findClass "java/util/NoSuchElementException" = some ce.cls := by rw [← c2]; exact hcl
        refine vx_catch (own := RL) (name := "java/util/NoSuchElementException") (E := "java/util/NoSuchElementException") hown [] ⟨0, 4, 5, 29⟩ [] (by rw [hTab]; rfl) (fun z hz => nomatch hz) (by decide) (by decide) (hts (.classLink RL 29 "java/util/NoSuchElementException") (by decide +kernel)) (va_Nw.use rfl (hT.1 (.castable "java/util/NoSuchElementException" "java/util/NoSuchElementException") (by decide +kernel))) hce hcv hcl ?_
        refine lv_astore_n (lv' := [(1, .ref q9), (0, .ref h0)]) hx hb dL_takingFenceOf_5 rfl hl (by decide) rfl (fun ls hl => ?_)
        refine lv_bipush (v := (-101)) hx hb dL_takingFenceOf_6 (by decide) ?_
        obtain rfl := k_some hf
        exact k_liret hx hb hr hP hD hS dL_takingFenceOf_8 hlocks
      · have hf := k_F c2 hf
        cases hf
def f_L_isSafeOf (n1 : Int32) (gm : k_G8) : Option (Int32) :=
  (f_X7_isSafe n1 gm).bind fun v1 =>
  Sum.elim (fun v1 =>
    if v1 = 0 then
      some 0
    else
      some 1
  ) (fun v1 =>
    if v1 = "java/lang/IllegalArgumentException" then
      some (-101)
    else
      none
  ) v1
abbrev rm_L_isSafeOf : Room := { frames := 7, cells := 1, slots := 6, locals := 111 }
theorem hd_L_isSafeOf : yL_isSafeOf.cls ≠ "java/lang/invoke/MethodHandle" ∧ yL_isSafeOf.cls ≠ "java/lang/invoke/VarHandle" ∧ (parseMethodDescriptor yL_isSafeOf.desc).map (fun d => d.parameters.length) = some 2 := by decide +kernel
set_option maxHeartbeats 4000000 in
set_option maxRecDepth 100000 in
theorem c_L_isSafeOf (l : Launch) (hl9 : l.stackTraces = false) (D : va_G) (cy : Nat → ClassId) (h0 gma sna hia ka ora cha tra ena opa foa : Nat) (gm : k_G8) (sn : k_G8) (hs : Int32) (qs : k_Q4) (k0 : k_G8) (k1 : k_G8) (k2 : k_G8) (k3 : k_G8) (ch : Nat → Int32) (o : k_O5) (tr : k_G8) (es : Int32) (op : Nat → Int32) (fo : Nat → Int32) (has : Int32) (n1 : Int32) (r : Int32) (hf : f_L_isSafeOf n1 gm = some r) : k_LMet l yL_isSafeOf wsL_isSafeOf rm_L_isSafeOf D (k_tys cy) [.ref h0, .int n1] (wX7 cy h0 gma sna hia ka ora cha tra ena opa foa gm sn hs qs k0 k1 k2 k3 ch o tr es op fo has) (some (.int r)) (wX7 cy h0 gma sna hia ka ora cha tra ena opa foa gm sn hs qs k0 k1 k2 k3 ch o tr es op fo has) 1 6 := by
  refine k_lawOf (cc := cL_isSafeOf) (maxL := 3) (ret := (some .int)) (hh := [(0, 13, 14, 15)]) (by decide) rfl (Nat.le_of_ble_eq_true rfl) ?_
  intro p e s m args below meth c ls A hx hb hr hlocks hml hown hts hl hA hK hP hD hN hT hZ hCx hTab
  have hl : lv_has ls 3 [(0, .ref h0), (1, .int n1)] := hl
  have hS : va_S A s.heap s.heap [] := va_S.rf
  unfold f_L_isSafeOf at hf
  obtain ⟨H, eH⟩ : ∃ H, H = s.heap := ⟨_, rfl⟩
  obtain ⟨locs, elocs⟩ : ∃ L : List Loc, L = [] := ⟨_, rfl⟩
  have hP : va_P D vwCl (wX7 cy h0 gma sna hia ka ora cha tra ena opa foa gm sn hs qs k0 k1 k2 k3 ch o tr es op fo has) H := by rw [eH]; exact hP
  have hS : va_S A s.heap H locs := by rw [eH, elocs]; exact hS
  refine k_here eH elocs ?_
  refine lv_aload_n hx hb dL_isSafeOf_0 rfl (lv_at hl 0 rfl) ?_
  refine lv_iload_n hx hb dL_isSafeOf_1 rfl (lv_at hl 1 rfl) ?_
  obtain ⟨v1, hv1, hf⟩ := k_B hf
  refine k_callXV (As := [.int n1]) (rest := []) (r := (RX7, TX7, 6)) (ci := 4) (q0 := 0) (isC := [0, 1, 2, 3, 4, 5, 6, 7, 8, 9, 10, 11, 12, 13, 14]) (isR := []) (perm := [0, 1, 2, 3, 4, 5, 6, 7, 8, 9, 10, 11, 12, 13, 14]) ⟨hx, hb, hml, hown, hts⟩ (c_X7_isSafe l hl9 D cy h0 gma sna hia ka ora cha tra ena opa foa gm sn hs qs k0 k1 k2 k3 ch o tr es op fo has n1 v1 hv1) (cwV 1 hts gL_isSafeOf_X7_isSafe rfl rfl rfl hd_X7_isSafe ⟨Nat.le_of_ble_eq_true rfl, Nat.le_of_ble_eq_true rfl⟩) hK hN hT hZ hP hD hS hA rfl rfl rfl rfl rfl rfl (by decide) rfl rfl hl.1 rfl (Nat.le_of_ble_eq_true rfl) dL_isSafeOf_2 ⟨Nat.le_of_ble_eq_true rfl, Nat.le_of_ble_eq_true rfl⟩ (fun q eq H locs hW1 hS => ?_) (fun E eE ce q9 H locs hW1 hS hce hcv hcl => ?_)
  · rcases v1 with v1 | v1
    · obtain rfl := k_smL eq
      obtain ⟨hP, hD⟩ := hW1 (wX7 cy h0 gma sna hia ka ora cha tra ena opa foa gm sn hs qs k0 k1 k2 k3 ch o tr es op fo has) rfl
      have hf := k_inl hf
      refine lv_if_eq (tgt := 12) hx hb dL_isSafeOf_5 (by decide) (fun c2 => ?_) (fun c2 => ?_)
      · have hf := k_T c2 hf
        refine lv_iconst (v := 0) hx hb dL_isSafeOf_12 (by decide) ?_
        obtain rfl := k_some hf
        exact k_liret hx hb hr hP hD hS dL_isSafeOf_13 hlocks
      · have hf := k_F c2 hf
        refine lv_iconst (v := 1) hx hb dL_isSafeOf_8 (by decide) ?_
        refine lv_goto (tgt := 13) hx hb dL_isSafeOf_9 (by decide) ?_
        obtain rfl := k_some hf
        exact k_liret hx hb hr hP hD hS dL_isSafeOf_13 hlocks
    · exact (k_smX eq).elim
  · rcases v1 with v1 | v1
    · exact (k_smY eE).elim
    · obtain rfl := k_smR eE
      have hf := k_inr hf
      by_cases c3 : v1 = "java/lang/IllegalArgumentException"
      · have hf := k_T c3 hf
        obtain ⟨hP, hD⟩ := hW1 (wX7 cy h0 gma sna hia ka ora cha tra ena opa foa gm sn hs qs k0 k1 k2 k3 ch o tr es op fo has) rfl
        have hcl : s.vm.findClass "java/lang/IllegalArgumentException" = some ce.cls := by rw [← c3]; exact hcl
        refine vx_catch (own := RL) (name := "java/lang/IllegalArgumentException") (E := "java/lang/IllegalArgumentException") hown [] ⟨0, 13, 14, 15⟩ [] (by rw [hTab]; rfl) (fun z hz => nomatch hz) (by decide) (by decide) (hts (.classLink RL 15 "java/lang/IllegalArgumentException") (by decide +kernel)) (va_Nw.use rfl (hT.1 (.castable "java/lang/IllegalArgumentException" "java/lang/IllegalArgumentException") (by decide +kernel))) hce hcv hcl ?_
        refine lv_astore_n (lv' := [(2, .ref q9), (0, .ref h0), (1, .int n1)]) hx hb dL_isSafeOf_14 rfl hl (by decide) rfl (fun ls hl => ?_)
        refine lv_bipush (v := (-101)) hx hb dL_isSafeOf_15 (by decide) ?_
        obtain rfl := k_some hf
        exact k_liret hx hb hr hP hD hS dL_isSafeOf_17 hlocks
      · have hf := k_F c3 hf
        cases hf
def f_L_givesOf (n1 : Int32) (gm : k_G8) : Option (Int32) :=
  (f_X7_gives n1 gm).bind fun v1 =>
  Sum.elim (fun v1 =>
    some v1
  ) (fun v1 =>
    if v1 = "java/lang/IllegalArgumentException" then
      some (-101)
    else
      if v1 = "java/lang/IllegalStateException" then
        some (-102)
      else
        none
  ) v1
abbrev rm_L_givesOf : Room := { frames := 7, cells := 1, slots := 6, locals := 132 }
theorem hd_L_givesOf : yL_givesOf.cls ≠ "java/lang/invoke/MethodHandle" ∧ yL_givesOf.cls ≠ "java/lang/invoke/VarHandle" ∧ (parseMethodDescriptor yL_givesOf.desc).map (fun d => d.parameters.length) = some 2 := by decide +kernel
set_option maxHeartbeats 4000000 in
set_option maxRecDepth 100000 in
theorem c_L_givesOf (l : Launch) (hl9 : l.stackTraces = false) (D : va_G) (cy : Nat → ClassId) (h0 gma sna hia ka ora cha tra ena opa foa : Nat) (gm : k_G8) (sn : k_G8) (hs : Int32) (qs : k_Q4) (k0 : k_G8) (k1 : k_G8) (k2 : k_G8) (k3 : k_G8) (ch : Nat → Int32) (o : k_O5) (tr : k_G8) (es : Int32) (op : Nat → Int32) (fo : Nat → Int32) (has : Int32) (n1 : Int32) (r : Int32) (hf : f_L_givesOf n1 gm = some r) : k_LMet l yL_givesOf wsL_givesOf rm_L_givesOf D (k_tys cy) [.ref h0, .int n1] (wX7 cy h0 gma sna hia ka ora cha tra ena opa foa gm sn hs qs k0 k1 k2 k3 ch o tr es op fo has) (some (.int r)) (wX7 cy h0 gma sna hia ka ora cha tra ena opa foa gm sn hs qs k0 k1 k2 k3 ch o tr es op fo has) 1 6 := by
  refine k_lawOf (cc := cL_givesOf) (maxL := 3) (ret := (some .int)) (hh := [(0, 5, 6, 15), (0, 5, 10, 17)]) (by decide) rfl (Nat.le_of_ble_eq_true rfl) ?_
  intro p e s m args below meth c ls A hx hb hr hlocks hml hown hts hl hA hK hP hD hN hT hZ hCx hTab
  have hl : lv_has ls 3 [(0, .ref h0), (1, .int n1)] := hl
  have hS : va_S A s.heap s.heap [] := va_S.rf
  unfold f_L_givesOf at hf
  obtain ⟨H, eH⟩ : ∃ H, H = s.heap := ⟨_, rfl⟩
  obtain ⟨locs, elocs⟩ : ∃ L : List Loc, L = [] := ⟨_, rfl⟩
  have hP : va_P D vwCl (wX7 cy h0 gma sna hia ka ora cha tra ena opa foa gm sn hs qs k0 k1 k2 k3 ch o tr es op fo has) H := by rw [eH]; exact hP
  have hS : va_S A s.heap H locs := by rw [eH, elocs]; exact hS
  refine k_here eH elocs ?_
  refine lv_aload_n hx hb dL_givesOf_0 rfl (lv_at hl 0 rfl) ?_
  refine lv_iload_n hx hb dL_givesOf_1 rfl (lv_at hl 1 rfl) ?_
  obtain ⟨v1, hv1, hf⟩ := k_B hf
  refine k_callXV (As := [.int n1]) (rest := []) (r := (RX7, TX7, 6)) (ci := 4) (q0 := 0) (isC := [0, 1, 2, 3, 4, 5, 6, 7, 8, 9, 10, 11, 12, 13, 14]) (isR := []) (perm := [0, 1, 2, 3, 4, 5, 6, 7, 8, 9, 10, 11, 12, 13, 14]) ⟨hx, hb, hml, hown, hts⟩ (c_X7_gives l hl9 D cy h0 gma sna hia ka ora cha tra ena opa foa gm sn hs qs k0 k1 k2 k3 ch o tr es op fo has n1 v1 hv1) (cwV 1 hts gL_givesOf_X7_gives rfl rfl rfl hd_X7_gives ⟨Nat.le_of_ble_eq_true rfl, Nat.le_of_ble_eq_true rfl⟩) hK hN hT hZ hP hD hS hA rfl rfl rfl rfl rfl rfl (by decide) rfl rfl hl.1 rfl (Nat.le_of_ble_eq_true rfl) dL_givesOf_2 ⟨Nat.le_of_ble_eq_true rfl, Nat.le_of_ble_eq_true rfl⟩ (fun q eq H locs hW1 hS => ?_) (fun E eE ce q9 H locs hW1 hS hce hcv hcl => ?_)
  · rcases v1 with v1 | v1
    · obtain rfl := k_smL eq
      obtain ⟨hP, hD⟩ := hW1 (wX7 cy h0 gma sna hia ka ora cha tra ena opa foa gm sn hs qs k0 k1 k2 k3 ch o tr es op fo has) rfl
      have hf := k_inl hf
      obtain rfl := k_some hf
      exact k_liret hx hb hr hP hD hS dL_givesOf_5 hlocks
    · exact (k_smX eq).elim
  · rcases v1 with v1 | v1
    · exact (k_smY eE).elim
    · obtain rfl := k_smR eE
      have hf := k_inr hf
      by_cases c3 : v1 = "java/lang/IllegalArgumentException"
      · have hf := k_T c3 hf
        obtain ⟨hP, hD⟩ := hW1 (wX7 cy h0 gma sna hia ka ora cha tra ena opa foa gm sn hs qs k0 k1 k2 k3 ch o tr es op fo has) rfl
        have hcl : s.vm.findClass "java/lang/IllegalArgumentException" = some ce.cls := by rw [← c3]; exact hcl
        refine vx_catch (own := RL) (name := "java/lang/IllegalArgumentException") (E := "java/lang/IllegalArgumentException") hown [] ⟨0, 5, 6, 15⟩ [⟨0, 5, 10, 17⟩] (by rw [hTab]; rfl) (fun z hz => nomatch hz) (by decide) (by decide) (hts (.classLink RL 15 "java/lang/IllegalArgumentException") (by decide +kernel)) (va_Nw.use rfl (hT.1 (.castable "java/lang/IllegalArgumentException" "java/lang/IllegalArgumentException") (by decide +kernel))) hce hcv hcl ?_
        refine lv_astore_n (lv' := [(2, .ref q9), (0, .ref h0), (1, .int n1)]) hx hb dL_givesOf_6 rfl hl (by decide) rfl (fun ls hl => ?_)
        refine lv_bipush (v := (-101)) hx hb dL_givesOf_7 (by decide) ?_
        obtain rfl := k_some hf
        exact k_liret hx hb hr hP hD hS dL_givesOf_9 hlocks
      · have hf := k_F c3 hf
        by_cases c2 : v1 = "java/lang/IllegalStateException"
        · have hf := k_T c2 hf
          obtain ⟨hP, hD⟩ := hW1 (wX7 cy h0 gma sna hia ka ora cha tra ena opa foa gm sn hs qs k0 k1 k2 k3 ch o tr es op fo has) rfl
          have hcl : s.vm.findClass "java/lang/IllegalStateException" = some ce.cls := by rw [← c2]; exact hcl
          have hpass : ∀ z ∈ ([⟨0, 5, 6, 15⟩] : List ExceptionTableEntry), covers z 2 = false ∨ (z.catchType ≠ 0 ∧ ∃ nm : String, (Cond.classLink RL z.catchType nm).before args s = true ∧ va_Nc "java/lang/IllegalStateException" nm s) := by
            intro z hz
            rcases List.mem_cons.mp hz with rfl | hz
            · exact Or.inr ⟨by decide, "java/lang/IllegalArgumentException", hts (.classLink RL 15 "java/lang/IllegalArgumentException") (by decide +kernel), hCx ("java/lang/IllegalStateException", "java/lang/IllegalArgumentException") (by decide +kernel)⟩
            cases hz
          refine vx_catch (own := RL) (name := "java/lang/IllegalStateException") (E := "java/lang/IllegalStateException") hown [⟨0, 5, 6, 15⟩] ⟨0, 5, 10, 17⟩ [] (by rw [hTab]; rfl) hpass (by decide) (by decide) (hts (.classLink RL 17 "java/lang/IllegalStateException") (by decide +kernel)) (va_Nw.use rfl (hT.1 (.castable "java/lang/IllegalStateException" "java/lang/IllegalStateException") (by decide +kernel))) hce hcv hcl ?_
          refine lv_astore_n (lv' := [(2, .ref q9), (0, .ref h0), (1, .int n1)]) hx hb dL_givesOf_10 rfl hl (by decide) rfl (fun ls hl => ?_)
          refine lv_bipush (v := (-102)) hx hb dL_givesOf_11 (by decide) ?_
          obtain rfl := k_some hf
          exact k_liret hx hb hr hP hD hS dL_givesOf_13 hlocks
        · have hf := k_F c2 hf
          cases hf
def f_L_leastSacrificeOf (gm : k_G8) : Option (Int32) :=
  (f_X7_leastSacrifice gm).bind fun v1 =>
  Sum.elim (fun v1 =>
    some v1
  ) (fun v1 =>
    if v1 = "java/util/NoSuchElementException" then
      some (-101)
    else
      none
  ) v1
abbrev rm_L_leastSacrificeOf : Room := { frames := 7, cells := 1, slots := 6, locals := 156 }
theorem hd_L_leastSacrificeOf : yL_leastSacrificeOf.cls ≠ "java/lang/invoke/MethodHandle" ∧ yL_leastSacrificeOf.cls ≠ "java/lang/invoke/VarHandle" ∧ (parseMethodDescriptor yL_leastSacrificeOf.desc).map (fun d => d.parameters.length) = some 1 := by decide +kernel
set_option maxHeartbeats 4000000 in
set_option maxRecDepth 100000 in
theorem c_L_leastSacrificeOf (l : Launch) (hl9 : l.stackTraces = false) (D : va_G) (cy : Nat → ClassId) (h0 gma sna hia ka ora cha tra ena opa foa : Nat) (gm : k_G8) (sn : k_G8) (hs : Int32) (qs : k_Q4) (k0 : k_G8) (k1 : k_G8) (k2 : k_G8) (k3 : k_G8) (ch : Nat → Int32) (o : k_O5) (tr : k_G8) (es : Int32) (op : Nat → Int32) (fo : Nat → Int32) (has : Int32)  (r : Int32) (hf : f_L_leastSacrificeOf gm = some r) : k_LMet l yL_leastSacrificeOf wsL_leastSacrificeOf rm_L_leastSacrificeOf D (k_tys cy) [.ref h0] (wX7 cy h0 gma sna hia ka ora cha tra ena opa foa gm sn hs qs k0 k1 k2 k3 ch o tr es op fo has) (some (.int r)) (wX7 cy h0 gma sna hia ka ora cha tra ena opa foa gm sn hs qs k0 k1 k2 k3 ch o tr es op fo has) 1 6 := by
  refine k_lawOf (cc := cL_leastSacrificeOf) (maxL := 2) (ret := (some .int)) (hh := [(0, 4, 5, 29)]) (by decide) rfl (Nat.le_of_ble_eq_true rfl) ?_
  intro p e s m args below meth c ls A hx hb hr hlocks hml hown hts hl hA hK hP hD hN hT hZ hCx hTab
  have hl : lv_has ls 2 [(0, .ref h0)] := hl
  have hS : va_S A s.heap s.heap [] := va_S.rf
  unfold f_L_leastSacrificeOf at hf
  obtain ⟨H, eH⟩ : ∃ H, H = s.heap := ⟨_, rfl⟩
  obtain ⟨locs, elocs⟩ : ∃ L : List Loc, L = [] := ⟨_, rfl⟩
  have hP : va_P D vwCl (wX7 cy h0 gma sna hia ka ora cha tra ena opa foa gm sn hs qs k0 k1 k2 k3 ch o tr es op fo has) H := by rw [eH]; exact hP
  have hS : va_S A s.heap H locs := by rw [eH, elocs]; exact hS
  refine k_here eH elocs ?_
  refine lv_aload_n hx hb dL_leastSacrificeOf_0 rfl (lv_at hl 0 rfl) ?_
  obtain ⟨v1, hv1, hf⟩ := k_B hf
  refine k_callXV (As := []) (rest := []) (r := (RX7, TX7, 6)) (ci := 4) (q0 := 0) (isC := [0, 1, 2, 3, 4, 5, 6, 7, 8, 9, 10, 11, 12, 13, 14]) (isR := []) (perm := [0, 1, 2, 3, 4, 5, 6, 7, 8, 9, 10, 11, 12, 13, 14]) ⟨hx, hb, hml, hown, hts⟩ (c_X7_leastSacrifice l hl9 D cy h0 gma sna hia ka ora cha tra ena opa foa gm sn hs qs k0 k1 k2 k3 ch o tr es op fo has  v1 hv1) (cwV 0 hts gL_leastSacrificeOf_X7_leastSacrifice rfl rfl rfl hd_X7_leastSacrifice ⟨Nat.le_of_ble_eq_true rfl, Nat.le_of_ble_eq_true rfl⟩) hK hN hT hZ hP hD hS hA rfl rfl rfl rfl rfl rfl (by decide) rfl rfl hl.1 rfl (Nat.le_of_ble_eq_true rfl) dL_leastSacrificeOf_1 ⟨Nat.le_of_ble_eq_true rfl, Nat.le_of_ble_eq_true rfl⟩ (fun q eq H locs hW1 hS => ?_) (fun E eE ce q9 H locs hW1 hS hce hcv hcl => ?_)
  · rcases v1 with v1 | v1
    · obtain rfl := k_smL eq
      obtain ⟨hP, hD⟩ := hW1 (wX7 cy h0 gma sna hia ka ora cha tra ena opa foa gm sn hs qs k0 k1 k2 k3 ch o tr es op fo has) rfl
      have hf := k_inl hf
      obtain rfl := k_some hf
      exact k_liret hx hb hr hP hD hS dL_leastSacrificeOf_4 hlocks
    · exact (k_smX eq).elim
  · rcases v1 with v1 | v1
    · exact (k_smY eE).elim
    · obtain rfl := k_smR eE
      have hf := k_inr hf
      by_cases c2 : v1 = "java/util/NoSuchElementException"
      · have hf := k_T c2 hf
        obtain ⟨hP, hD⟩ := hW1 (wX7 cy h0 gma sna hia ka ora cha tra ena opa foa gm sn hs qs k0 k1 k2 k3 ch o tr es op fo has) rfl
        have hcl : s.vm.findClass "java/util/NoSuchElementException" = some ce.cls := by rw [← c2]; exact hcl
        refine vx_catch (own := RL) (name := "java/util/NoSuchElementException") (E := "java/util/NoSuchElementException") hown [] ⟨0, 4, 5, 29⟩ [] (by rw [hTab]; rfl) (fun z hz => nomatch hz) (by decide) (by decide) (hts (.classLink RL 29 "java/util/NoSuchElementException") (by decide +kernel)) (va_Nw.use rfl (hT.1 (.castable "java/util/NoSuchElementException" "java/util/NoSuchElementException") (by decide +kernel))) hce hcv hcl ?_
        refine lv_astore_n (lv' := [(1, .ref q9), (0, .ref h0)]) hx hb dL_leastSacrificeOf_5 rfl hl (by decide) rfl (fun ls hl => ?_)
        refine lv_bipush (v := (-101)) hx hb dL_leastSacrificeOf_6 (by decide) ?_
        obtain rfl := k_some hf
        exact k_liret hx hb hr hP hD hS dL_leastSacrificeOf_8 hlocks
      · have hf := k_F c2 hf
        cases hf
def f_L_chainOfOf (n1 : Int32) (gm : k_G8) : Option (Int32) :=
  (f_X7_chainOf n1 gm).bind fun v1 =>
  Sum.elim (fun v1 =>
    some v1
  ) (fun v1 =>
    if v1 = "java/lang/IllegalArgumentException" then
      some (-101)
    else
      if v1 = "java/util/NoSuchElementException" then
        some (-102)
      else
        none
  ) v1
abbrev rm_L_chainOfOf : Room := { frames := 7, cells := 1, slots := 6, locals := 116 }
theorem hd_L_chainOfOf : yL_chainOfOf.cls ≠ "java/lang/invoke/MethodHandle" ∧ yL_chainOfOf.cls ≠ "java/lang/invoke/VarHandle" ∧ (parseMethodDescriptor yL_chainOfOf.desc).map (fun d => d.parameters.length) = some 2 := by decide +kernel
set_option maxHeartbeats 4000000 in
set_option maxRecDepth 100000 in
theorem c_L_chainOfOf (l : Launch) (hl9 : l.stackTraces = false) (D : va_G) (cy : Nat → ClassId) (h0 gma sna hia ka ora cha tra ena opa foa : Nat) (gm : k_G8) (sn : k_G8) (hs : Int32) (qs : k_Q4) (k0 : k_G8) (k1 : k_G8) (k2 : k_G8) (k3 : k_G8) (ch : Nat → Int32) (o : k_O5) (tr : k_G8) (es : Int32) (op : Nat → Int32) (fo : Nat → Int32) (has : Int32) (n1 : Int32) (r : Int32) (hf : f_L_chainOfOf n1 gm = some r) : k_LMet l yL_chainOfOf wsL_chainOfOf rm_L_chainOfOf D (k_tys cy) [.ref h0, .int n1] (wX7 cy h0 gma sna hia ka ora cha tra ena opa foa gm sn hs qs k0 k1 k2 k3 ch o tr es op fo has) (some (.int r)) (wX7 cy h0 gma sna hia ka ora cha tra ena opa foa gm sn hs qs k0 k1 k2 k3 ch o tr es op fo has) 1 6 := by
  refine k_lawOf (cc := cL_chainOfOf) (maxL := 3) (ret := (some .int)) (hh := [(0, 5, 6, 15), (0, 5, 10, 29)]) (by decide) rfl (Nat.le_of_ble_eq_true rfl) ?_
  intro p e s m args below meth c ls A hx hb hr hlocks hml hown hts hl hA hK hP hD hN hT hZ hCx hTab
  have hl : lv_has ls 3 [(0, .ref h0), (1, .int n1)] := hl
  have hS : va_S A s.heap s.heap [] := va_S.rf
  unfold f_L_chainOfOf at hf
  obtain ⟨H, eH⟩ : ∃ H, H = s.heap := ⟨_, rfl⟩
  obtain ⟨locs, elocs⟩ : ∃ L : List Loc, L = [] := ⟨_, rfl⟩
  have hP : va_P D vwCl (wX7 cy h0 gma sna hia ka ora cha tra ena opa foa gm sn hs qs k0 k1 k2 k3 ch o tr es op fo has) H := by rw [eH]; exact hP
  have hS : va_S A s.heap H locs := by rw [eH, elocs]; exact hS
  refine k_here eH elocs ?_
  refine lv_aload_n hx hb dL_chainOfOf_0 rfl (lv_at hl 0 rfl) ?_
  refine lv_iload_n hx hb dL_chainOfOf_1 rfl (lv_at hl 1 rfl) ?_
  obtain ⟨v1, hv1, hf⟩ := k_B hf
  refine k_callXV (As := [.int n1]) (rest := []) (r := (RX7, TX7, 6)) (ci := 4) (q0 := 0) (isC := [0, 1, 2, 3, 4, 5, 6, 7, 8, 9, 10, 11, 12, 13, 14]) (isR := []) (perm := [0, 1, 2, 3, 4, 5, 6, 7, 8, 9, 10, 11, 12, 13, 14]) ⟨hx, hb, hml, hown, hts⟩ (c_X7_chainOf l hl9 D cy h0 gma sna hia ka ora cha tra ena opa foa gm sn hs qs k0 k1 k2 k3 ch o tr es op fo has n1 v1 hv1) (cwV 1 hts gL_chainOfOf_X7_chainOf rfl rfl rfl hd_X7_chainOf ⟨Nat.le_of_ble_eq_true rfl, Nat.le_of_ble_eq_true rfl⟩) hK hN hT hZ hP hD hS hA rfl rfl rfl rfl rfl rfl (by decide) rfl rfl hl.1 rfl (Nat.le_of_ble_eq_true rfl) dL_chainOfOf_2 ⟨Nat.le_of_ble_eq_true rfl, Nat.le_of_ble_eq_true rfl⟩ (fun q eq H locs hW1 hS => ?_) (fun E eE ce q9 H locs hW1 hS hce hcv hcl => ?_)
  · rcases v1 with v1 | v1
    · obtain rfl := k_smL eq
      obtain ⟨hP, hD⟩ := hW1 (wX7 cy h0 gma sna hia ka ora cha tra ena opa foa gm sn hs qs k0 k1 k2 k3 ch o tr es op fo has) rfl
      have hf := k_inl hf
      obtain rfl := k_some hf
      exact k_liret hx hb hr hP hD hS dL_chainOfOf_5 hlocks
    · exact (k_smX eq).elim
  · rcases v1 with v1 | v1
    · exact (k_smY eE).elim
    · obtain rfl := k_smR eE
      have hf := k_inr hf
      by_cases c3 : v1 = "java/lang/IllegalArgumentException"
      · have hf := k_T c3 hf
        obtain ⟨hP, hD⟩ := hW1 (wX7 cy h0 gma sna hia ka ora cha tra ena opa foa gm sn hs qs k0 k1 k2 k3 ch o tr es op fo has) rfl
        have hcl : s.vm.findClass "java/lang/IllegalArgumentException" = some ce.cls := by rw [← c3]; exact hcl
        refine vx_catch (own := RL) (name := "java/lang/IllegalArgumentException") (E := "java/lang/IllegalArgumentException") hown [] ⟨0, 5, 6, 15⟩ [⟨0, 5, 10, 29⟩] (by rw [hTab]; rfl) (fun z hz => nomatch hz) (by decide) (by decide) (hts (.classLink RL 15 "java/lang/IllegalArgumentException") (by decide +kernel)) (va_Nw.use rfl (hT.1 (.castable "java/lang/IllegalArgumentException" "java/lang/IllegalArgumentException") (by decide +kernel))) hce hcv hcl ?_
        refine lv_astore_n (lv' := [(2, .ref q9), (0, .ref h0), (1, .int n1)]) hx hb dL_chainOfOf_6 rfl hl (by decide) rfl (fun ls hl => ?_)
        refine lv_bipush (v := (-101)) hx hb dL_chainOfOf_7 (by decide) ?_
        obtain rfl := k_some hf
        exact k_liret hx hb hr hP hD hS dL_chainOfOf_9 hlocks
      · have hf := k_F c3 hf
        by_cases c2 : v1 = "java/util/NoSuchElementException"
        · have hf := k_T c2 hf
          obtain ⟨hP, hD⟩ := hW1 (wX7 cy h0 gma sna hia ka ora cha tra ena opa foa gm sn hs qs k0 k1 k2 k3 ch o tr es op fo has) rfl
          have hcl : s.vm.findClass "java/util/NoSuchElementException" = some ce.cls := by rw [← c2]; exact hcl
          have hpass : ∀ z ∈ ([⟨0, 5, 6, 15⟩] : List ExceptionTableEntry), covers z 2 = false ∨ (z.catchType ≠ 0 ∧ ∃ nm : String, (Cond.classLink RL z.catchType nm).before args s = true ∧ va_Nc "java/util/NoSuchElementException" nm s) := by
            intro z hz
            rcases List.mem_cons.mp hz with rfl | hz
            · exact Or.inr ⟨by decide, "java/lang/IllegalArgumentException", hts (.classLink RL 15 "java/lang/IllegalArgumentException") (by decide +kernel), hCx ("java/util/NoSuchElementException", "java/lang/IllegalArgumentException") (by decide +kernel)⟩
            cases hz
          refine vx_catch (own := RL) (name := "java/util/NoSuchElementException") (E := "java/util/NoSuchElementException") hown [⟨0, 5, 6, 15⟩] ⟨0, 5, 10, 29⟩ [] (by rw [hTab]; rfl) hpass (by decide) (by decide) (hts (.classLink RL 29 "java/util/NoSuchElementException") (by decide +kernel)) (va_Nw.use rfl (hT.1 (.castable "java/util/NoSuchElementException" "java/util/NoSuchElementException") (by decide +kernel))) hce hcv hcl ?_
          refine lv_astore_n (lv' := [(2, .ref q9), (0, .ref h0), (1, .int n1)]) hx hb dL_chainOfOf_10 rfl hl (by decide) rfl (fun ls hl => ?_)
          refine lv_bipush (v := (-102)) hx hb dL_chainOfOf_11 (by decide) ?_
          obtain rfl := k_some hf
          exact k_liret hx hb hr hP hD hS dL_chainOfOf_13 hlocks
        · have hf := k_F c2 hf
          cases hf
def f_L_endDifferenceOf (gm : k_G8) (es : Int32) (op : Nat → Int32) (fo : Nat → Int32) : Option (Int32 × Int32 × (Nat → Int32) × (Nat → Int32)) :=
  (f_X7_endDifference gm es op fo).bind fun v1 =>
  Sum.elim (fun v1 =>
    some (v1.1, v1.2.1, v1.2.2.1, v1.2.2.2)
  ) (fun v1 =>
    if v1.1 = "java/util/NoSuchElementException" then
      some ((-101), v1.2.1, v1.2.2.1, v1.2.2.2)
    else
      none
  ) v1
abbrev rm_L_endDifferenceOf : Room := { frames := 7, cells := 1, slots := 6, locals := 157 }
theorem hd_L_endDifferenceOf : yL_endDifferenceOf.cls ≠ "java/lang/invoke/MethodHandle" ∧ yL_endDifferenceOf.cls ≠ "java/lang/invoke/VarHandle" ∧ (parseMethodDescriptor yL_endDifferenceOf.desc).map (fun d => d.parameters.length) = some 1 := by decide +kernel
set_option maxHeartbeats 4000000 in
set_option maxRecDepth 100000 in
theorem c_L_endDifferenceOf (l : Launch) (hl9 : l.stackTraces = false) (D : va_G) (cy : Nat → ClassId) (h0 gma sna hia ka ora cha tra ena opa foa : Nat) (gm : k_G8) (sn : k_G8) (hs : Int32) (qs : k_Q4) (k0 : k_G8) (k1 : k_G8) (k2 : k_G8) (k3 : k_G8) (ch : Nat → Int32) (o : k_O5) (tr : k_G8) (es : Int32) (op : Nat → Int32) (fo : Nat → Int32) (has : Int32)  (r : Int32 × Int32 × (Nat → Int32) × (Nat → Int32)) (hf : f_L_endDifferenceOf gm es op fo = some r) : k_LMet l yL_endDifferenceOf wsL_endDifferenceOf rm_L_endDifferenceOf D (k_tys cy) [.ref h0] (wX7 cy h0 gma sna hia ka ora cha tra ena opa foa gm sn hs qs k0 k1 k2 k3 ch o tr es op fo has) (some (.int r.1)) (wX7 cy h0 gma sna hia ka ora cha tra ena opa foa gm sn hs qs k0 k1 k2 k3 ch o tr r.2.1 r.2.2.1 r.2.2.2 has) 1 6 := by
  refine k_lawOf (cc := cL_endDifferenceOf) (maxL := 2) (ret := (some .int)) (hh := [(0, 4, 5, 29)]) (by decide) rfl (Nat.le_of_ble_eq_true rfl) ?_
  intro p e s m args below meth c ls A hx hb hr hlocks hml hown hts hl hA hK hP hD hN hT hZ hCx hTab
  have hl : lv_has ls 2 [(0, .ref h0)] := hl
  have hS : va_S A s.heap s.heap [] := va_S.rf
  unfold f_L_endDifferenceOf at hf
  obtain ⟨H, eH⟩ : ∃ H, H = s.heap := ⟨_, rfl⟩
  obtain ⟨locs, elocs⟩ : ∃ L : List Loc, L = [] := ⟨_, rfl⟩
  have hP : va_P D vwCl (wX7 cy h0 gma sna hia ka ora cha tra ena opa foa gm sn hs qs k0 k1 k2 k3 ch o tr es op fo has) H := by rw [eH]; exact hP
  have hS : va_S A s.heap H locs := by rw [eH, elocs]; exact hS
  refine k_here eH elocs ?_
  refine lv_aload_n hx hb dL_endDifferenceOf_0 rfl (lv_at hl 0 rfl) ?_
  obtain ⟨v1, hv1, hf⟩ := k_B hf
  refine k_callXV (As := []) (rest := []) (r := (RX7, TX7, 6)) (ci := 4) (q0 := 0) (isC := [0, 1, 2, 3, 4, 5, 6, 7, 8, 9, 10, 11, 12, 13, 14]) (isR := []) (perm := [0, 1, 2, 3, 4, 5, 6, 7, 8, 9, 10, 11, 12, 13, 14]) ⟨hx, hb, hml, hown, hts⟩ (c_X7_endDifference l hl9 D cy h0 gma sna hia ka ora cha tra ena opa foa gm sn hs qs k0 k1 k2 k3 ch o tr es op fo has  v1 hv1) (cwV 0 hts gL_endDifferenceOf_X7_endDifference rfl rfl rfl hd_X7_endDifference ⟨Nat.le_of_ble_eq_true rfl, Nat.le_of_ble_eq_true rfl⟩) hK hN hT hZ hP hD hS hA rfl rfl rfl rfl rfl rfl (by decide) rfl rfl hl.1 rfl (Nat.le_of_ble_eq_true rfl) dL_endDifferenceOf_1 ⟨Nat.le_of_ble_eq_true rfl, Nat.le_of_ble_eq_true rfl⟩ (fun q eq H locs hW1 hS => ?_) (fun E eE ce q9 H locs hW1 hS hce hcv hcl => ?_)
  · rcases v1 with v1 | v1
    · obtain rfl := k_smL eq
      obtain ⟨hP, hD⟩ := hW1 (wX7 cy h0 gma sna hia ka ora cha tra ena opa foa gm sn hs qs k0 k1 k2 k3 ch o tr v1.2.1 v1.2.2.1 v1.2.2.2 has) rfl
      have hf := k_inl hf
      obtain rfl := k_some hf
      exact k_liret hx hb hr hP hD hS dL_endDifferenceOf_4 hlocks
    · exact (k_smX eq).elim
  · rcases v1 with v1 | v1
    · exact (k_smY eE).elim
    · obtain rfl := k_smR eE
      have hf := k_inr hf
      by_cases c2 : v1.1 = "java/util/NoSuchElementException"
      · have hf := k_T c2 hf
        obtain ⟨hP, hD⟩ := hW1 (wX7 cy h0 gma sna hia ka ora cha tra ena opa foa gm sn hs qs k0 k1 k2 k3 ch o tr v1.2.1 v1.2.2.1 v1.2.2.2 has) rfl
        have hcl : s.vm.findClass "java/util/NoSuchElementException" = some ce.cls := by rw [← c2]; exact hcl
        refine vx_catch (own := RL) (name := "java/util/NoSuchElementException") (E := "java/util/NoSuchElementException") hown [] ⟨0, 4, 5, 29⟩ [] (by rw [hTab]; rfl) (fun z hz => nomatch hz) (by decide) (by decide) (hts (.classLink RL 29 "java/util/NoSuchElementException") (by decide +kernel)) (va_Nw.use rfl (hT.1 (.castable "java/util/NoSuchElementException" "java/util/NoSuchElementException") (by decide +kernel))) hce hcv hcl ?_
        refine lv_astore_n (lv' := [(1, .ref q9), (0, .ref h0)]) hx hb dL_endDifferenceOf_5 rfl hl (by decide) rfl (fun ls hl => ?_)
        refine lv_bipush (v := (-101)) hx hb dL_endDifferenceOf_6 (by decide) ?_
        obtain rfl := k_some hf
        exact k_liret hx hb hr hP hD hS dL_endDifferenceOf_8 hlocks
      · have hf := k_F c2 hf
        cases hf
def f_L_endByTryingOf (gm : k_G8) : Option (Int32) :=
  (f_X7_endByTrying gm).bind fun v1 =>
  Sum.elim (fun v1 =>
    some v1
  ) (fun v1 =>
    if v1 = "java/util/NoSuchElementException" then
      some (-101)
    else
      none
  ) v1
abbrev rm_L_endByTryingOf : Room := { frames := 16, cells := 1, slots := 6, locals := 479 }
theorem hd_L_endByTryingOf : yL_endByTryingOf.cls ≠ "java/lang/invoke/MethodHandle" ∧ yL_endByTryingOf.cls ≠ "java/lang/invoke/VarHandle" ∧ (parseMethodDescriptor yL_endByTryingOf.desc).map (fun d => d.parameters.length) = some 1 := by decide +kernel
set_option maxHeartbeats 4000000 in
set_option maxRecDepth 100000 in
theorem c_L_endByTryingOf (l : Launch) (hl9 : l.stackTraces = false) (D : va_G) (cy : Nat → ClassId) (h0 gma sna hia ka ora cha tra ena opa foa : Nat) (gm : k_G8) (sn : k_G8) (hs : Int32) (qs : k_Q4) (k0 : k_G8) (k1 : k_G8) (k2 : k_G8) (k3 : k_G8) (ch : Nat → Int32) (o : k_O5) (tr : k_G8) (es : Int32) (op : Nat → Int32) (fo : Nat → Int32) (has : Int32)  (r : Int32) (hf : f_L_endByTryingOf gm = some r) : k_LMet l yL_endByTryingOf wsL_endByTryingOf rm_L_endByTryingOf D (k_tys cy) [.ref h0] (wX7 cy h0 gma sna hia ka ora cha tra ena opa foa gm sn hs qs k0 k1 k2 k3 ch o tr es op fo has) (some (.int r)) (wX7 cy h0 gma sna hia ka ora cha tra ena opa foa gm sn hs qs k0 k1 k2 k3 ch o tr es op fo has) 1 6 := by
  refine k_lawOf (cc := cL_endByTryingOf) (maxL := 2) (ret := (some .int)) (hh := [(0, 4, 5, 29)]) (by decide) rfl (Nat.le_of_ble_eq_true rfl) ?_
  intro p e s m args below meth c ls A hx hb hr hlocks hml hown hts hl hA hK hP hD hN hT hZ hCx hTab
  have hl : lv_has ls 2 [(0, .ref h0)] := hl
  have hS : va_S A s.heap s.heap [] := va_S.rf
  unfold f_L_endByTryingOf at hf
  obtain ⟨H, eH⟩ : ∃ H, H = s.heap := ⟨_, rfl⟩
  obtain ⟨locs, elocs⟩ : ∃ L : List Loc, L = [] := ⟨_, rfl⟩
  have hP : va_P D vwCl (wX7 cy h0 gma sna hia ka ora cha tra ena opa foa gm sn hs qs k0 k1 k2 k3 ch o tr es op fo has) H := by rw [eH]; exact hP
  have hS : va_S A s.heap H locs := by rw [eH, elocs]; exact hS
  refine k_here eH elocs ?_
  refine lv_aload_n hx hb dL_endByTryingOf_0 rfl (lv_at hl 0 rfl) ?_
  obtain ⟨v1, hv1, hf⟩ := k_B hf
  refine k_callXV (As := []) (rest := []) (r := (RX7, TX7, 6)) (ci := 4) (q0 := 0) (isC := [0, 1, 2, 3, 4, 5, 6, 7, 8, 9, 10, 11, 12, 13, 14]) (isR := []) (perm := [0, 1, 2, 3, 4, 5, 6, 7, 8, 9, 10, 11, 12, 13, 14]) ⟨hx, hb, hml, hown, hts⟩ (c_X7_endByTrying l hl9 D cy h0 gma sna hia ka ora cha tra ena opa foa gm sn hs qs k0 k1 k2 k3 ch o tr es op fo has  v1 hv1) (cwV 0 hts gL_endByTryingOf_X7_endByTrying rfl rfl rfl hd_X7_endByTrying ⟨Nat.le_of_ble_eq_true rfl, Nat.le_of_ble_eq_true rfl⟩) hK hN hT hZ hP hD hS hA rfl rfl rfl rfl rfl rfl (by decide) rfl rfl hl.1 rfl (Nat.le_of_ble_eq_true rfl) dL_endByTryingOf_1 ⟨Nat.le_of_ble_eq_true rfl, Nat.le_of_ble_eq_true rfl⟩ (fun q eq H locs hW1 hS => ?_) (fun E eE ce q9 H locs hW1 hS hce hcv hcl => ?_)
  · rcases v1 with v1 | v1
    · obtain rfl := k_smL eq
      obtain ⟨hP, hD⟩ := hW1 (wX7 cy h0 gma sna hia ka ora cha tra ena opa foa gm sn hs qs k0 k1 k2 k3 ch o tr es op fo has) rfl
      have hf := k_inl hf
      obtain rfl := k_some hf
      exact k_liret hx hb hr hP hD hS dL_endByTryingOf_4 hlocks
    · exact (k_smX eq).elim
  · rcases v1 with v1 | v1
    · exact (k_smY eE).elim
    · obtain rfl := k_smR eE
      have hf := k_inr hf
      by_cases c2 : v1 = "java/util/NoSuchElementException"
      · have hf := k_T c2 hf
        obtain ⟨hP, hD⟩ := hW1 (wX7 cy h0 gma sna hia ka ora cha tra ena opa foa gm sn hs qs k0 k1 k2 k3 ch o tr es op fo has) rfl
        have hcl : s.vm.findClass "java/util/NoSuchElementException" = some ce.cls := by rw [← c2]; exact hcl
        refine vx_catch (own := RL) (name := "java/util/NoSuchElementException") (E := "java/util/NoSuchElementException") hown [] ⟨0, 4, 5, 29⟩ [] (by rw [hTab]; rfl) (fun z hz => nomatch hz) (by decide) (by decide) (hts (.classLink RL 29 "java/util/NoSuchElementException") (by decide +kernel)) (va_Nw.use rfl (hT.1 (.castable "java/util/NoSuchElementException" "java/util/NoSuchElementException") (by decide +kernel))) hce hcv hcl ?_
        refine lv_astore_n (lv' := [(1, .ref q9), (0, .ref h0)]) hx hb dL_endByTryingOf_5 rfl hl (by decide) rfl (fun ls hl => ?_)
        refine lv_bipush (v := (-101)) hx hb dL_endByTryingOf_6 (by decide) ?_
        obtain rfl := k_some hf
        exact k_liret hx hb hr hP hD hS dL_endByTryingOf_8 hlocks
      · have hf := k_F c2 hf
        cases hf
def f_L_bestFenceOf (gm : k_G8) (es : Int32) (op : Nat → Int32) (fo : Nat → Int32) : Option (Int32 × Int32 × (Nat → Int32) × (Nat → Int32)) :=
  (f_X7_bestFence gm es op fo).bind fun v1 =>
  Sum.elim (fun v1 =>
    some (v1.1, v1.2.1, v1.2.2.1, v1.2.2.2)
  ) (fun v1 =>
    if v1.1 = "java/util/NoSuchElementException" then
      some ((-101), v1.2.1, v1.2.2.1, v1.2.2.2)
    else
      none
  ) v1
abbrev rm_L_bestFenceOf : Room := { frames := 7, cells := 1, slots := 6, locals := 157 }
theorem hd_L_bestFenceOf : yL_bestFenceOf.cls ≠ "java/lang/invoke/MethodHandle" ∧ yL_bestFenceOf.cls ≠ "java/lang/invoke/VarHandle" ∧ (parseMethodDescriptor yL_bestFenceOf.desc).map (fun d => d.parameters.length) = some 1 := by decide +kernel
set_option maxHeartbeats 4000000 in
set_option maxRecDepth 100000 in
theorem c_L_bestFenceOf (l : Launch) (hl9 : l.stackTraces = false) (D : va_G) (cy : Nat → ClassId) (h0 gma sna hia ka ora cha tra ena opa foa : Nat) (gm : k_G8) (sn : k_G8) (hs : Int32) (qs : k_Q4) (k0 : k_G8) (k1 : k_G8) (k2 : k_G8) (k3 : k_G8) (ch : Nat → Int32) (o : k_O5) (tr : k_G8) (es : Int32) (op : Nat → Int32) (fo : Nat → Int32) (has : Int32)  (r : Int32 × Int32 × (Nat → Int32) × (Nat → Int32)) (hf : f_L_bestFenceOf gm es op fo = some r) : k_LMet l yL_bestFenceOf wsL_bestFenceOf rm_L_bestFenceOf D (k_tys cy) [.ref h0] (wX7 cy h0 gma sna hia ka ora cha tra ena opa foa gm sn hs qs k0 k1 k2 k3 ch o tr es op fo has) (some (.int r.1)) (wX7 cy h0 gma sna hia ka ora cha tra ena opa foa gm sn hs qs k0 k1 k2 k3 ch o tr r.2.1 r.2.2.1 r.2.2.2 has) 1 6 := by
  refine k_lawOf (cc := cL_bestFenceOf) (maxL := 2) (ret := (some .int)) (hh := [(0, 4, 5, 29)]) (by decide) rfl (Nat.le_of_ble_eq_true rfl) ?_
  intro p e s m args below meth c ls A hx hb hr hlocks hml hown hts hl hA hK hP hD hN hT hZ hCx hTab
  have hl : lv_has ls 2 [(0, .ref h0)] := hl
  have hS : va_S A s.heap s.heap [] := va_S.rf
  unfold f_L_bestFenceOf at hf
  obtain ⟨H, eH⟩ : ∃ H, H = s.heap := ⟨_, rfl⟩
  obtain ⟨locs, elocs⟩ : ∃ L : List Loc, L = [] := ⟨_, rfl⟩
  have hP : va_P D vwCl (wX7 cy h0 gma sna hia ka ora cha tra ena opa foa gm sn hs qs k0 k1 k2 k3 ch o tr es op fo has) H := by rw [eH]; exact hP
  have hS : va_S A s.heap H locs := by rw [eH, elocs]; exact hS
  refine k_here eH elocs ?_
  refine lv_aload_n hx hb dL_bestFenceOf_0 rfl (lv_at hl 0 rfl) ?_
  obtain ⟨v1, hv1, hf⟩ := k_B hf
  refine k_callXV (As := []) (rest := []) (r := (RX7, TX7, 6)) (ci := 4) (q0 := 0) (isC := [0, 1, 2, 3, 4, 5, 6, 7, 8, 9, 10, 11, 12, 13, 14]) (isR := []) (perm := [0, 1, 2, 3, 4, 5, 6, 7, 8, 9, 10, 11, 12, 13, 14]) ⟨hx, hb, hml, hown, hts⟩ (c_X7_bestFence l hl9 D cy h0 gma sna hia ka ora cha tra ena opa foa gm sn hs qs k0 k1 k2 k3 ch o tr es op fo has  v1 hv1) (cwV 0 hts gL_bestFenceOf_X7_bestFence rfl rfl rfl hd_X7_bestFence ⟨Nat.le_of_ble_eq_true rfl, Nat.le_of_ble_eq_true rfl⟩) hK hN hT hZ hP hD hS hA rfl rfl rfl rfl rfl rfl (by decide) rfl rfl hl.1 rfl (Nat.le_of_ble_eq_true rfl) dL_bestFenceOf_1 ⟨Nat.le_of_ble_eq_true rfl, Nat.le_of_ble_eq_true rfl⟩ (fun q eq H locs hW1 hS => ?_) (fun E eE ce q9 H locs hW1 hS hce hcv hcl => ?_)
  · rcases v1 with v1 | v1
    · obtain rfl := k_smL eq
      obtain ⟨hP, hD⟩ := hW1 (wX7 cy h0 gma sna hia ka ora cha tra ena opa foa gm sn hs qs k0 k1 k2 k3 ch o tr v1.2.1 v1.2.2.1 v1.2.2.2 has) rfl
      have hf := k_inl hf
      obtain rfl := k_some hf
      exact k_liret hx hb hr hP hD hS dL_bestFenceOf_4 hlocks
    · exact (k_smX eq).elim
  · rcases v1 with v1 | v1
    · exact (k_smY eE).elim
    · obtain rfl := k_smR eE
      have hf := k_inr hf
      by_cases c2 : v1.1 = "java/util/NoSuchElementException"
      · have hf := k_T c2 hf
        obtain ⟨hP, hD⟩ := hW1 (wX7 cy h0 gma sna hia ka ora cha tra ena opa foa gm sn hs qs k0 k1 k2 k3 ch o tr v1.2.1 v1.2.2.1 v1.2.2.2 has) rfl
        have hcl : s.vm.findClass "java/util/NoSuchElementException" = some ce.cls := by rw [← c2]; exact hcl
        refine vx_catch (own := RL) (name := "java/util/NoSuchElementException") (E := "java/util/NoSuchElementException") hown [] ⟨0, 4, 5, 29⟩ [] (by rw [hTab]; rfl) (fun z hz => nomatch hz) (by decide) (by decide) (hts (.classLink RL 29 "java/util/NoSuchElementException") (by decide +kernel)) (va_Nw.use rfl (hT.1 (.castable "java/util/NoSuchElementException" "java/util/NoSuchElementException") (by decide +kernel))) hce hcv hcl ?_
        refine lv_astore_n (lv' := [(1, .ref q9), (0, .ref h0)]) hx hb dL_bestFenceOf_5 rfl hl (by decide) rfl (fun ls hl => ?_)
        refine lv_bipush (v := (-101)) hx hb dL_bestFenceOf_6 (by decide) ?_
        obtain rfl := k_some hf
        exact k_liret hx hb hr hP hD hS dL_bestFenceOf_8 hlocks
      · have hf := k_F c2 hf
        cases hf
def f_L_wonOf (n1 : Int32) (gm : k_G8) : Option (Int32) :=
  (f_X7_won n1 gm).bind fun v1 =>
  Sum.elim (fun v1 =>
    some v1
  ) (fun v1 =>
    if v1 = "java/lang/IllegalArgumentException" then
      some (-101)
    else
      none
  ) v1
abbrev rm_L_wonOf : Room := { frames := 7, cells := 1, slots := 6, locals := 111 }
theorem hd_L_wonOf : yL_wonOf.cls ≠ "java/lang/invoke/MethodHandle" ∧ yL_wonOf.cls ≠ "java/lang/invoke/VarHandle" ∧ (parseMethodDescriptor yL_wonOf.desc).map (fun d => d.parameters.length) = some 2 := by decide +kernel
set_option maxHeartbeats 4000000 in
set_option maxRecDepth 100000 in
theorem c_L_wonOf (l : Launch) (hl9 : l.stackTraces = false) (D : va_G) (cy : Nat → ClassId) (h0 gma sna hia ka ora cha tra ena opa foa : Nat) (gm : k_G8) (sn : k_G8) (hs : Int32) (qs : k_Q4) (k0 : k_G8) (k1 : k_G8) (k2 : k_G8) (k3 : k_G8) (ch : Nat → Int32) (o : k_O5) (tr : k_G8) (es : Int32) (op : Nat → Int32) (fo : Nat → Int32) (has : Int32) (n1 : Int32) (r : Int32) (hf : f_L_wonOf n1 gm = some r) : k_LMet l yL_wonOf wsL_wonOf rm_L_wonOf D (k_tys cy) [.ref h0, .int n1] (wX7 cy h0 gma sna hia ka ora cha tra ena opa foa gm sn hs qs k0 k1 k2 k3 ch o tr es op fo has) (some (.int r)) (wX7 cy h0 gma sna hia ka ora cha tra ena opa foa gm sn hs qs k0 k1 k2 k3 ch o tr es op fo has) 1 6 := by
  refine k_lawOf (cc := cL_wonOf) (maxL := 3) (ret := (some .int)) (hh := [(0, 5, 6, 15)]) (by decide) rfl (Nat.le_of_ble_eq_true rfl) ?_
  intro p e s m args below meth c ls A hx hb hr hlocks hml hown hts hl hA hK hP hD hN hT hZ hCx hTab
  have hl : lv_has ls 3 [(0, .ref h0), (1, .int n1)] := hl
  have hS : va_S A s.heap s.heap [] := va_S.rf
  unfold f_L_wonOf at hf
  obtain ⟨H, eH⟩ : ∃ H, H = s.heap := ⟨_, rfl⟩
  obtain ⟨locs, elocs⟩ : ∃ L : List Loc, L = [] := ⟨_, rfl⟩
  have hP : va_P D vwCl (wX7 cy h0 gma sna hia ka ora cha tra ena opa foa gm sn hs qs k0 k1 k2 k3 ch o tr es op fo has) H := by rw [eH]; exact hP
  have hS : va_S A s.heap H locs := by rw [eH, elocs]; exact hS
  refine k_here eH elocs ?_
  refine lv_aload_n hx hb dL_wonOf_0 rfl (lv_at hl 0 rfl) ?_
  refine lv_iload_n hx hb dL_wonOf_1 rfl (lv_at hl 1 rfl) ?_
  obtain ⟨v1, hv1, hf⟩ := k_B hf
  refine k_callXV (As := [.int n1]) (rest := []) (r := (RX7, TX7, 6)) (ci := 4) (q0 := 0) (isC := [0, 1, 2, 3, 4, 5, 6, 7, 8, 9, 10, 11, 12, 13, 14]) (isR := []) (perm := [0, 1, 2, 3, 4, 5, 6, 7, 8, 9, 10, 11, 12, 13, 14]) ⟨hx, hb, hml, hown, hts⟩ (c_X7_won l hl9 D cy h0 gma sna hia ka ora cha tra ena opa foa gm sn hs qs k0 k1 k2 k3 ch o tr es op fo has n1 v1 hv1) (cwV 1 hts gL_wonOf_X7_won rfl rfl rfl hd_X7_won ⟨Nat.le_of_ble_eq_true rfl, Nat.le_of_ble_eq_true rfl⟩) hK hN hT hZ hP hD hS hA rfl rfl rfl rfl rfl rfl (by decide) rfl rfl hl.1 rfl (Nat.le_of_ble_eq_true rfl) dL_wonOf_2 ⟨Nat.le_of_ble_eq_true rfl, Nat.le_of_ble_eq_true rfl⟩ (fun q eq H locs hW1 hS => ?_) (fun E eE ce q9 H locs hW1 hS hce hcv hcl => ?_)
  · rcases v1 with v1 | v1
    · obtain rfl := k_smL eq
      obtain ⟨hP, hD⟩ := hW1 (wX7 cy h0 gma sna hia ka ora cha tra ena opa foa gm sn hs qs k0 k1 k2 k3 ch o tr es op fo has) rfl
      have hf := k_inl hf
      obtain rfl := k_some hf
      exact k_liret hx hb hr hP hD hS dL_wonOf_5 hlocks
    · exact (k_smX eq).elim
  · rcases v1 with v1 | v1
    · exact (k_smY eE).elim
    · obtain rfl := k_smR eE
      have hf := k_inr hf
      by_cases c2 : v1 = "java/lang/IllegalArgumentException"
      · have hf := k_T c2 hf
        obtain ⟨hP, hD⟩ := hW1 (wX7 cy h0 gma sna hia ka ora cha tra ena opa foa gm sn hs qs k0 k1 k2 k3 ch o tr es op fo has) rfl
        have hcl : s.vm.findClass "java/lang/IllegalArgumentException" = some ce.cls := by rw [← c2]; exact hcl
        refine vx_catch (own := RL) (name := "java/lang/IllegalArgumentException") (E := "java/lang/IllegalArgumentException") hown [] ⟨0, 5, 6, 15⟩ [] (by rw [hTab]; rfl) (fun z hz => nomatch hz) (by decide) (by decide) (hts (.classLink RL 15 "java/lang/IllegalArgumentException") (by decide +kernel)) (va_Nw.use rfl (hT.1 (.castable "java/lang/IllegalArgumentException" "java/lang/IllegalArgumentException") (by decide +kernel))) hce hcv hcl ?_
        refine lv_astore_n (lv' := [(2, .ref q9), (0, .ref h0), (1, .int n1)]) hx hb dL_wonOf_6 rfl hl (by decide) rfl (fun ls hl => ?_)
        refine lv_bipush (v := (-101)) hx hb dL_wonOf_7 (by decide) ?_
        obtain rfl := k_some hf
        exact k_liret hx hb hr hP hD hS dL_wonOf_9 hlocks
      · have hf := k_F c2 hf
        cases hf
