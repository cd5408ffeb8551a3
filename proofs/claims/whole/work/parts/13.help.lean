def f_L_draw (n1 : Int32) (gm : k_G8) (hs : Int32) (qs : k_Q4) (k0 : k_G8) (k1 : k_G8) (k2 : k_G8) (k3 : k_G8) (out : Nat → Int64) : Option (Int32 × k_G8 × Int32 × k_Q4 × k_G8 × k_G8 × k_G8 × k_G8 × (Nat → Int64)) :=
  (f_X7_draw n1 gm hs qs k0 k1 k2 k3).bind fun v1 =>
  Sum.elim (fun v1 =>
    k_let (vp_updL out 0 v1.1.toInt64) fun w2 =>
    some (0, v1.2.1, v1.2.2.1, v1.2.2.2.1, v1.2.2.2.2.1, v1.2.2.2.2.2.1, v1.2.2.2.2.2.2.1, v1.2.2.2.2.2.2.2, w2)
  ) (fun v1 =>
    if v1.1 = "java/lang/IllegalArgumentException" then
      some (1, v1.2.1, v1.2.2.1, v1.2.2.2.1, v1.2.2.2.2.1, v1.2.2.2.2.2.1, v1.2.2.2.2.2.2.1, v1.2.2.2.2.2.2.2, out)
    else
      if v1.1 = "java/lang/IllegalStateException" then
        some (2, v1.2.1, v1.2.2.1, v1.2.2.2.1, v1.2.2.2.2.1, v1.2.2.2.2.2.1, v1.2.2.2.2.2.2.1, v1.2.2.2.2.2.2.2, out)
      else
        none
  ) v1
abbrev rm_L_draw : Room := { frames := 7, cells := 1, slots := 6, locals := 111 }
theorem hd_L_draw : yL_draw.cls ≠ "java/lang/invoke/MethodHandle" ∧ yL_draw.cls ≠ "java/lang/invoke/VarHandle" ∧ (parseMethodDescriptor yL_draw.desc).map (fun d => d.parameters.length) = some 3 := by decide +kernel
set_option maxHeartbeats 4000000 in
set_option maxRecDepth 100000 in
theorem c_L_draw (l : Launch) (hl9 : l.stackTraces = false) (D : va_G) (cy : Nat → ClassId) (h0 gma sna hia ka ora cha tra ena opa foa ua : Nat) (gm : k_G8) (sn : k_G8) (hs : Int32) (qs : k_Q4) (k0 : k_G8) (k1 : k_G8) (k2 : k_G8) (k3 : k_G8) (ch : Nat → Int32) (o : k_O5) (tr : k_G8) (es : Int32) (op : Nat → Int32) (fo : Nat → Int32) (has : Int32) (out : Nat → Int64) (n1 : Int32) (r : Int32 × k_G8 × Int32 × k_Q4 × k_G8 × k_G8 × k_G8 × k_G8 × (Nat → Int64)) (hf : f_L_draw n1 gm hs qs k0 k1 k2 k3 out = some r) : k_LMet l yL_draw wsL_draw rm_L_draw D (k_tys cy) [.ref h0, .int n1, .ref ua] (wX7 cy h0 gma sna hia ka ora cha tra ena opa foa gm sn hs qs k0 k1 k2 k3 ch o tr es op fo has ++ [wL cy ua out]) (some (.int r.1)) (wX7 cy h0 gma sna hia ka ora cha tra ena opa foa r.2.1 sn r.2.2.1 r.2.2.2.1 r.2.2.2.2.1 r.2.2.2.2.2.1 r.2.2.2.2.2.2.1 r.2.2.2.2.2.2.2.1 ch o tr es op fo has ++ [wL cy ua r.2.2.2.2.2.2.2.2]) := by
  refine k_lawOf (cc := cL_draw) (maxL := 4) (ret := (some .int)) (hh := [(0, 9, 12, 13), (0, 9, 15, 15)]) (by decide) rfl (Nat.le_of_ble_eq_true rfl) ?_
  intro p e s m args below meth c ls A hx hb hr hlocks hml hown hts hl hA hK hP hD hN hT hZ hCx hTab
  have hl : lv_has ls 4 [(0, .ref h0), (1, .int n1), (2, .ref ua)] := hl
  have hS : va_S A s.heap s.heap [] := va_S.rf
  unfold f_L_draw at hf
  obtain ⟨H, eH⟩ : ∃ H, H = s.heap := ⟨_, rfl⟩
  obtain ⟨locs, elocs⟩ : ∃ L : List Loc, L = [] := ⟨_, rfl⟩
  have hP : va_P D vwCl (wX7 cy h0 gma sna hia ka ora cha tra ena opa foa gm sn hs qs k0 k1 k2 k3 ch o tr es op fo has ++ [wL cy ua out]) H := by rw [eH]; exact hP
  have hS : va_S A s.heap H locs := by rw [eH, elocs]; exact hS
  refine k_here eH elocs ?_
  refine lv_aload_n hx hb dL_draw_0 rfl (lv_at hl 2 rfl) ?_
  refine lv_iconst (v := 0) hx hb dL_draw_1 (by decide) ?_
  refine lv_aload_n hx hb dL_draw_2 rfl (lv_at hl 0 rfl) ?_
  refine lv_iload_n hx hb dL_draw_3 rfl (lv_at hl 1 rfl) ?_
  obtain ⟨v1, hv1, hf⟩ := k_B hf
  refine k_callXV (As := [.int n1]) (rest := [.int 0, .ref ua]) (r := (RX7, TX7, 6)) (ci := 4) (q0 := 0) (isC := [0, 1, 2, 3, 4, 5, 6, 7, 8, 9, 10, 11, 12, 13, 14]) (isR := [15]) (perm := [1, 2, 3, 4, 5, 6, 7, 8, 9, 10, 11, 12, 13, 14, 15, 0]) ⟨hx, hb, hml, hown, hts⟩ (c_X7_draw l hl9 D cy h0 gma sna hia ka ora cha tra ena opa foa gm sn hs qs k0 k1 k2 k3 ch o tr es op fo has n1 v1 hv1) (cwV 1 hts gL_draw_X7_draw rfl rfl rfl hd_X7_draw ⟨Nat.le_of_ble_eq_true rfl, Nat.le_of_ble_eq_true rfl⟩) hK hN hT hZ hP hD hS hA rfl rfl rfl rfl rfl rfl (by decide) rfl rfl hl.1 rfl (Nat.le_of_ble_eq_true rfl) dL_draw_4 ⟨Nat.le_of_ble_eq_true rfl, Nat.le_of_ble_eq_true rfl⟩ (fun q eq H locs hW1 hS => ?_) (fun E eE ce q9 H locs hW1 hS hce hcv hcl => ?_)
  · rcases v1 with v1 | v1
    · obtain rfl := k_smL eq
      obtain ⟨hP, hD⟩ := hW1 (wX7 cy h0 gma sna hia ka ora cha tra ena opa foa v1.2.1 sn v1.2.2.1 v1.2.2.2.1 v1.2.2.2.2.1 v1.2.2.2.2.2.1 v1.2.2.2.2.2.2.1 v1.2.2.2.2.2.2.2 ch o tr es op fo has ++ [wL cy ua out]) rfl
      have hf := k_inl hf
      refine lv_i2l hx hb dL_draw_7 rfl ?_
      refine va_last hx hb hK hP hD hS 15 3 rfl rfl (k_in (i := 0) (n := 1) (by decide +kernel)) dL_draw_8 (fun H locs hP hD hS => ?_)
      obtain ⟨w2, ew2, hf⟩ := k_L hf
      have hP : va_P D vwCl (wX7 cy h0 gma sna hia ka ora cha tra ena opa foa v1.2.1 sn v1.2.2.1 v1.2.2.2.1 v1.2.2.2.2.1 v1.2.2.2.2.2.1 v1.2.2.2.2.2.2.1 v1.2.2.2.2.2.2.2 ch o tr es op fo has ++ [wL cy ua w2]) H := by rw [ew2]; exact hP
      have hD : va_D A (wX7 cy h0 gma sna hia ka ora cha tra ena opa foa v1.2.1 sn v1.2.2.1 v1.2.2.2.1 v1.2.2.2.2.1 v1.2.2.2.2.2.1 v1.2.2.2.2.2.2.1 v1.2.2.2.2.2.2.2 ch o tr es op fo has ++ [wL cy ua w2]) := by rw [ew2]; exact hD
      refine lv_goto (tgt := 18) hx hb dL_draw_9 (by decide) ?_
      refine lv_iconst (v := 0) hx hb dL_draw_18 (by decide) ?_
      obtain rfl := k_some hf
      exact k_liret hx hb hr hP hD hS dL_draw_19 hlocks
    · exact (k_smX eq).elim
  · rcases v1 with v1 | v1
    · exact (k_smY eE).elim
    · obtain rfl := k_smR eE
      have hf := k_inr hf
      by_cases c4 : v1.1 = "java/lang/IllegalArgumentException"
      · have hf := k_T c4 hf
        obtain ⟨hP, hD⟩ := hW1 (wX7 cy h0 gma sna hia ka ora cha tra ena opa foa v1.2.1 sn v1.2.2.1 v1.2.2.2.1 v1.2.2.2.2.1 v1.2.2.2.2.2.1 v1.2.2.2.2.2.2.1 v1.2.2.2.2.2.2.2 ch o tr es op fo has ++ [wL cy ua out]) rfl
        have hcl : s.vm.findClass "java/lang/IllegalArgumentException" = some ce.cls := by rw [← c4]; exact hcl
        refine vx_catch (own := RL) (name := "java/lang/IllegalArgumentException") (E := "java/lang/IllegalArgumentException") hown [] ⟨0, 9, 12, 13⟩ [⟨0, 9, 15, 15⟩] (by rw [hTab]; rfl) (fun z hz => nomatch hz) (by decide) (by decide) (hts (.classLink RL 13 "java/lang/IllegalArgumentException") (by decide +kernel)) (va_Nw.use rfl (hT.1 (.castable "java/lang/IllegalArgumentException" "java/lang/IllegalArgumentException") (by decide +kernel))) hce hcv hcl ?_
        refine lv_astore_n (lv' := [(3, .ref q9), (0, .ref h0), (1, .int n1), (2, .ref ua)]) hx hb dL_draw_12 rfl hl (by decide) rfl (fun ls hl => ?_)
        refine lv_iconst (v := 1) hx hb dL_draw_13 (by decide) ?_
        obtain rfl := k_some hf
        exact k_liret hx hb hr hP hD hS dL_draw_14 hlocks
      · have hf := k_F c4 hf
        by_cases c3 : v1.1 = "java/lang/IllegalStateException"
        · have hf := k_T c3 hf
          obtain ⟨hP, hD⟩ := hW1 (wX7 cy h0 gma sna hia ka ora cha tra ena opa foa v1.2.1 sn v1.2.2.1 v1.2.2.2.1 v1.2.2.2.2.1 v1.2.2.2.2.2.1 v1.2.2.2.2.2.2.1 v1.2.2.2.2.2.2.2 ch o tr es op fo has ++ [wL cy ua out]) rfl
          have hcl : s.vm.findClass "java/lang/IllegalStateException" = some ce.cls := by rw [← c3]; exact hcl
          have hpass : ∀ z ∈ ([⟨0, 9, 12, 13⟩] : List ExceptionTableEntry), covers z 4 = false ∨ (z.catchType ≠ 0 ∧ ∃ nm : String, (Cond.classLink RL z.catchType nm).before args s = true ∧ va_Nc "java/lang/IllegalStateException" nm s) := by
            intro z hz
            rcases List.mem_cons.mp hz with rfl | hz
            · exact Or.inr ⟨by decide, "java/lang/IllegalArgumentException", hts (.classLink RL 13 "java/lang/IllegalArgumentException") (by decide +kernel), hCx ("java/lang/IllegalStateException", "java/lang/IllegalArgumentException") (by decide +kernel)⟩
            cases hz
          refine vx_catch (own := RL) (name := "java/lang/IllegalStateException") (E := "java/lang/IllegalStateException") hown [⟨0, 9, 12, 13⟩] ⟨0, 9, 15, 15⟩ [] (by rw [hTab]; rfl) hpass (by decide) (by decide) (hts (.classLink RL 15 "java/lang/IllegalStateException") (by decide +kernel)) (va_Nw.use rfl (hT.1 (.castable "java/lang/IllegalStateException" "java/lang/IllegalStateException") (by decide +kernel))) hce hcv hcl ?_
          refine lv_astore_n (lv' := [(3, .ref q9), (0, .ref h0), (1, .int n1), (2, .ref ua)]) hx hb dL_draw_15 rfl hl (by decide) rfl (fun ls hl => ?_)
          refine lv_iconst (v := 2) hx hb dL_draw_16 (by decide) ?_
          obtain rfl := k_some hf
          exact k_liret hx hb hr hP hD hS dL_draw_17 hlocks
        · have hf := k_F c3 hf
          cases hf
def f_L_isDrawn (n1 : Int32) (gm : k_G8) (out : Nat → Int64) : Option (Int32 × (Nat → Int64)) :=
  (f_X7_isDrawn n1 gm).bind fun v1 =>
  Sum.elim (fun v1 =>
    if v1 = 0 then
      k_let (vp_updL out 0 0) fun w3 =>
      some (0, w3)
    else
      k_let (vp_updL out 0 1) fun w4 =>
      some (0, w4)
  ) (fun v1 =>
    if v1 = "java/lang/IllegalArgumentException" then
      some (1, out)
    else
      none
  ) v1
abbrev rm_L_isDrawn : Room := { frames := 7, cells := 1, slots := 6, locals := 111 }
theorem hd_L_isDrawn : yL_isDrawn.cls ≠ "java/lang/invoke/MethodHandle" ∧ yL_isDrawn.cls ≠ "java/lang/invoke/VarHandle" ∧ (parseMethodDescriptor yL_isDrawn.desc).map (fun d => d.parameters.length) = some 3 := by decide +kernel
set_option maxHeartbeats 4000000 in
set_option maxRecDepth 100000 in
theorem c_L_isDrawn (l : Launch) (hl9 : l.stackTraces = false) (D : va_G) (cy : Nat → ClassId) (h0 gma sna hia ka ora cha tra ena opa foa ua : Nat) (gm : k_G8) (sn : k_G8) (hs : Int32) (qs : k_Q4) (k0 : k_G8) (k1 : k_G8) (k2 : k_G8) (k3 : k_G8) (ch : Nat → Int32) (o : k_O5) (tr : k_G8) (es : Int32) (op : Nat → Int32) (fo : Nat → Int32) (has : Int32) (out : Nat → Int64) (n1 : Int32) (r : Int32 × (Nat → Int64)) (hf : f_L_isDrawn n1 gm out = some r) : k_LMet l yL_isDrawn wsL_isDrawn rm_L_isDrawn D (k_tys cy) [.ref h0, .int n1, .ref ua] (wX7 cy h0 gma sna hia ka ora cha tra ena opa foa gm sn hs qs k0 k1 k2 k3 ch o tr es op fo has ++ [wL cy ua out]) (some (.int r.1)) (wX7 cy h0 gma sna hia ka ora cha tra ena opa foa gm sn hs qs k0 k1 k2 k3 ch o tr es op fo has ++ [wL cy ua r.2]) := by
  refine k_lawOf (cc := cL_isDrawn) (maxL := 4) (ret := (some .int)) (hh := [(0, 16, 19, 13)]) (by decide) rfl (Nat.le_of_ble_eq_true rfl) ?_
  intro p e s m args below meth c ls A hx hb hr hlocks hml hown hts hl hA hK hP hD hN hT hZ hCx hTab
  have hl : lv_has ls 4 [(0, .ref h0), (1, .int n1), (2, .ref ua)] := hl
  have hS : va_S A s.heap s.heap [] := va_S.rf
  unfold f_L_isDrawn at hf
  obtain ⟨H, eH⟩ : ∃ H, H = s.heap := ⟨_, rfl⟩
  obtain ⟨locs, elocs⟩ : ∃ L : List Loc, L = [] := ⟨_, rfl⟩
  have hP : va_P D vwCl (wX7 cy h0 gma sna hia ka ora cha tra ena opa foa gm sn hs qs k0 k1 k2 k3 ch o tr es op fo has ++ [wL cy ua out]) H := by rw [eH]; exact hP
  have hS : va_S A s.heap H locs := by rw [eH, elocs]; exact hS
  refine k_here eH elocs ?_
  refine lv_aload_n hx hb dL_isDrawn_0 rfl (lv_at hl 2 rfl) ?_
  refine lv_iconst (v := 0) hx hb dL_isDrawn_1 (by decide) ?_
  refine lv_aload_n hx hb dL_isDrawn_2 rfl (lv_at hl 0 rfl) ?_
  refine lv_iload_n hx hb dL_isDrawn_3 rfl (lv_at hl 1 rfl) ?_
  obtain ⟨v1, hv1, hf⟩ := k_B hf
  refine k_callXV (As := [.int n1]) (rest := [.int 0, .ref ua]) (r := (RX7, TX7, 6)) (ci := 4) (q0 := 0) (isC := [0, 1, 2, 3, 4, 5, 6, 7, 8, 9, 10, 11, 12, 13, 14]) (isR := [15]) (perm := [1, 2, 3, 4, 5, 6, 7, 8, 9, 10, 11, 12, 13, 14, 15, 0]) ⟨hx, hb, hml, hown, hts⟩ (c_X7_isDrawn l hl9 D cy h0 gma sna hia ka ora cha tra ena opa foa gm sn hs qs k0 k1 k2 k3 ch o tr es op fo has n1 v1 hv1) (cwV 1 hts gL_isDrawn_X7_isDrawn rfl rfl rfl hd_X7_isDrawn ⟨Nat.le_of_ble_eq_true rfl, Nat.le_of_ble_eq_true rfl⟩) hK hN hT hZ hP hD hS hA rfl rfl rfl rfl rfl rfl (by decide) rfl rfl hl.1 rfl (Nat.le_of_ble_eq_true rfl) dL_isDrawn_4 ⟨Nat.le_of_ble_eq_true rfl, Nat.le_of_ble_eq_true rfl⟩ (fun q eq H locs hW1 hS => ?_) (fun E eE ce q9 H locs hW1 hS hce hcv hcl => ?_)
  · rcases v1 with v1 | v1
    · obtain rfl := k_smL eq
      obtain ⟨hP, hD⟩ := hW1 (wX7 cy h0 gma sna hia ka ora cha tra ena opa foa gm sn hs qs k0 k1 k2 k3 ch o tr es op fo has ++ [wL cy ua out]) rfl
      have hf := k_inl hf
      refine lv_if_eq (tgt := 14) hx hb dL_isDrawn_7 (by decide) (fun c2 => ?_) (fun c2 => ?_)
      · have hf := k_T c2 hf
        refine lv_lconst (v := 0) hx hb dL_isDrawn_14 (by decide) ?_
        refine va_last hx hb hK hP hD hS 15 3 rfl rfl (k_in (i := 0) (n := 1) (by decide +kernel)) dL_isDrawn_15 (fun H locs hP hD hS => ?_)
        obtain ⟨w3, ew3, hf⟩ := k_L hf
        have hP : va_P D vwCl (wX7 cy h0 gma sna hia ka ora cha tra ena opa foa gm sn hs qs k0 k1 k2 k3 ch o tr es op fo has ++ [wL cy ua w3]) H := by rw [ew3]; exact hP
        have hD : va_D A (wX7 cy h0 gma sna hia ka ora cha tra ena opa foa gm sn hs qs k0 k1 k2 k3 ch o tr es op fo has ++ [wL cy ua w3]) := by rw [ew3]; exact hD
        refine lv_goto (tgt := 22) hx hb dL_isDrawn_16 (by decide) ?_
        refine lv_iconst (v := 0) hx hb dL_isDrawn_22 (by decide) ?_
        obtain rfl := k_some hf
        exact k_liret hx hb hr hP hD hS dL_isDrawn_23 hlocks
      · have hf := k_F c2 hf
        refine lv_lconst (v := 1) hx hb dL_isDrawn_10 (by decide) ?_
        refine lv_goto (tgt := 15) hx hb dL_isDrawn_11 (by decide) ?_
        refine va_last hx hb hK hP hD hS 15 3 rfl rfl (k_in (i := 0) (n := 1) (by decide +kernel)) dL_isDrawn_15 (fun H locs hP hD hS => ?_)
        obtain ⟨w4, ew4, hf⟩ := k_L hf
        have hP : va_P D vwCl (wX7 cy h0 gma sna hia ka ora cha tra ena opa foa gm sn hs qs k0 k1 k2 k3 ch o tr es op fo has ++ [wL cy ua w4]) H := by rw [ew4]; exact hP
        have hD : va_D A (wX7 cy h0 gma sna hia ka ora cha tra ena opa foa gm sn hs qs k0 k1 k2 k3 ch o tr es op fo has ++ [wL cy ua w4]) := by rw [ew4]; exact hD
        refine lv_goto (tgt := 22) hx hb dL_isDrawn_16 (by decide) ?_
        refine lv_iconst (v := 0) hx hb dL_isDrawn_22 (by decide) ?_
        obtain rfl := k_some hf
        exact k_liret hx hb hr hP hD hS dL_isDrawn_23 hlocks
    · exact (k_smX eq).elim
  · rcases v1 with v1 | v1
    · exact (k_smY eE).elim
    · obtain rfl := k_smR eE
      have hf := k_inr hf
      by_cases c5 : v1 = "java/lang/IllegalArgumentException"
      · have hf := k_T c5 hf
        obtain ⟨hP, hD⟩ := hW1 (wX7 cy h0 gma sna hia ka ora cha tra ena opa foa gm sn hs qs k0 k1 k2 k3 ch o tr es op fo has ++ [wL cy ua out]) rfl
        have hcl : s.vm.findClass "java/lang/IllegalArgumentException" = some ce.cls := by rw [← c5]; exact hcl
        refine vx_catch (own := RL) (name := "java/lang/IllegalArgumentException") (E := "java/lang/IllegalArgumentException") hown [] ⟨0, 16, 19, 13⟩ [] (by rw [hTab]; rfl) (fun z hz => nomatch hz) (by decide) (by decide) (hts (.classLink RL 13 "java/lang/IllegalArgumentException") (by decide +kernel)) (va_Nw.use rfl (hT.1 (.castable "java/lang/IllegalArgumentException" "java/lang/IllegalArgumentException") (by decide +kernel))) hce hcv hcl ?_
        refine lv_astore_n (lv' := [(3, .ref q9), (0, .ref h0), (1, .int n1), (2, .ref ua)]) hx hb dL_isDrawn_19 rfl hl (by decide) rfl (fun ls hl => ?_)
        refine lv_iconst (v := 1) hx hb dL_isDrawn_20 (by decide) ?_
        obtain rfl := k_some hf
        exact k_liret hx hb hr hP hD hS dL_isDrawn_21 hlocks
      · have hf := k_F c5 hf
        cases hf
def f_L_fencesOf (n1 : Int32) (gm : k_G8) (out : Nat → Int64) : Option (Int32 × (Nat → Int64)) :=
  (f_X7_fencesOf n1 gm).bind fun v1 =>
  Sum.elim (fun v1 =>
    k_let (vp_updL out 0 v1.toInt64) fun w2 =>
    some (0, w2)
  ) (fun v1 =>
    if v1 = "java/lang/IllegalArgumentException" then
      some (1, out)
    else
      none
  ) v1
abbrev rm_L_fencesOf : Room := { frames := 7, cells := 1, slots := 6, locals := 111 }
theorem hd_L_fencesOf : yL_fencesOf.cls ≠ "java/lang/invoke/MethodHandle" ∧ yL_fencesOf.cls ≠ "java/lang/invoke/VarHandle" ∧ (parseMethodDescriptor yL_fencesOf.desc).map (fun d => d.parameters.length) = some 3 := by decide +kernel
set_option maxHeartbeats 4000000 in
set_option maxRecDepth 100000 in
theorem c_L_fencesOf (l : Launch) (hl9 : l.stackTraces = false) (D : va_G) (cy : Nat → ClassId) (h0 gma sna hia ka ora cha tra ena opa foa ua : Nat) (gm : k_G8) (sn : k_G8) (hs : Int32) (qs : k_Q4) (k0 : k_G8) (k1 : k_G8) (k2 : k_G8) (k3 : k_G8) (ch : Nat → Int32) (o : k_O5) (tr : k_G8) (es : Int32) (op : Nat → Int32) (fo : Nat → Int32) (has : Int32) (out : Nat → Int64) (n1 : Int32) (r : Int32 × (Nat → Int64)) (hf : f_L_fencesOf n1 gm out = some r) : k_LMet l yL_fencesOf wsL_fencesOf rm_L_fencesOf D (k_tys cy) [.ref h0, .int n1, .ref ua] (wX7 cy h0 gma sna hia ka ora cha tra ena opa foa gm sn hs qs k0 k1 k2 k3 ch o tr es op fo has ++ [wL cy ua out]) (some (.int r.1)) (wX7 cy h0 gma sna hia ka ora cha tra ena opa foa gm sn hs qs k0 k1 k2 k3 ch o tr es op fo has ++ [wL cy ua r.2]) := by
  refine k_lawOf (cc := cL_fencesOf) (maxL := 4) (ret := (some .int)) (hh := [(0, 9, 12, 13)]) (by decide) rfl (Nat.le_of_ble_eq_true rfl) ?_
  intro p e s m args below meth c ls A hx hb hr hlocks hml hown hts hl hA hK hP hD hN hT hZ hCx hTab
  have hl : lv_has ls 4 [(0, .ref h0), (1, .int n1), (2, .ref ua)] := hl
  have hS : va_S A s.heap s.heap [] := va_S.rf
  unfold f_L_fencesOf at hf
  obtain ⟨H, eH⟩ : ∃ H, H = s.heap := ⟨_, rfl⟩
  obtain ⟨locs, elocs⟩ : ∃ L : List Loc, L = [] := ⟨_, rfl⟩
  have hP : va_P D vwCl (wX7 cy h0 gma sna hia ka ora cha tra ena opa foa gm sn hs qs k0 k1 k2 k3 ch o tr es op fo has ++ [wL cy ua out]) H := by rw [eH]; exact hP
  have hS : va_S A s.heap H locs := by rw [eH, elocs]; exact hS
  refine k_here eH elocs ?_
  refine lv_aload_n hx hb dL_fencesOf_0 rfl (lv_at hl 2 rfl) ?_
  refine lv_iconst (v := 0) hx hb dL_fencesOf_1 (by decide) ?_
  refine lv_aload_n hx hb dL_fencesOf_2 rfl (lv_at hl 0 rfl) ?_
  refine lv_iload_n hx hb dL_fencesOf_3 rfl (lv_at hl 1 rfl) ?_
  obtain ⟨v1, hv1, hf⟩ := k_B hf
  refine k_callXV (As := [.int n1]) (rest := [.int 0, .ref ua]) (r := (RX7, TX7, 6)) (ci := 4) (q0 := 0) (isC := [0, 1, 2, 3, 4, 5, 6, 7, 8, 9, 10, 11, 12, 13, 14]) (isR := [15]) (perm := [1, 2, 3, 4, 5, 6, 7, 8, 9, 10, 11, 12, 13, 14, 15, 0]) ⟨hx, hb, hml, hown, hts⟩ (c_X7_fencesOf l hl9 D cy h0 gma sna hia ka ora cha tra ena opa foa gm sn hs qs k0 k1 k2 k3 ch o tr es op fo has n1 v1 hv1) (cwV 1 hts gL_fencesOf_X7_fencesOf rfl rfl rfl hd_X7_fencesOf ⟨Nat.le_of_ble_eq_true rfl, Nat.le_of_ble_eq_true rfl⟩) hK hN hT hZ hP hD hS hA rfl rfl rfl rfl rfl rfl (by decide) rfl rfl hl.1 rfl (Nat.le_of_ble_eq_true rfl) dL_fencesOf_4 ⟨Nat.le_of_ble_eq_true rfl, Nat.le_of_ble_eq_true rfl⟩ (fun q eq H locs hW1 hS => ?_) (fun E eE ce q9 H locs hW1 hS hce hcv hcl => ?_)
  · rcases v1 with v1 | v1
    · obtain rfl := k_smL eq
      obtain ⟨hP, hD⟩ := hW1 (wX7 cy h0 gma sna hia ka ora cha tra ena opa foa gm sn hs qs k0 k1 k2 k3 ch o tr es op fo has ++ [wL cy ua out]) rfl
      have hf := k_inl hf
      refine lv_i2l hx hb dL_fencesOf_7 rfl ?_
      refine va_last hx hb hK hP hD hS 15 3 rfl rfl (k_in (i := 0) (n := 1) (by decide +kernel)) dL_fencesOf_8 (fun H locs hP hD hS => ?_)
      obtain ⟨w2, ew2, hf⟩ := k_L hf
      have hP : va_P D vwCl (wX7 cy h0 gma sna hia ka ora cha tra ena opa foa gm sn hs qs k0 k1 k2 k3 ch o tr es op fo has ++ [wL cy ua w2]) H := by rw [ew2]; exact hP
      have hD : va_D A (wX7 cy h0 gma sna hia ka ora cha tra ena opa foa gm sn hs qs k0 k1 k2 k3 ch o tr es op fo has ++ [wL cy ua w2]) := by rw [ew2]; exact hD
      refine lv_goto (tgt := 15) hx hb dL_fencesOf_9 (by decide) ?_
      refine lv_iconst (v := 0) hx hb dL_fencesOf_15 (by decide) ?_
      obtain rfl := k_some hf
      exact k_liret hx hb hr hP hD hS dL_fencesOf_16 hlocks
    · exact (k_smX eq).elim
  · rcases v1 with v1 | v1
    · exact (k_smY eE).elim
    · obtain rfl := k_smR eE
      have hf := k_inr hf
      by_cases c3 : v1 = "java/lang/IllegalArgumentException"
      · have hf := k_T c3 hf
        obtain ⟨hP, hD⟩ := hW1 (wX7 cy h0 gma sna hia ka ora cha tra ena opa foa gm sn hs qs k0 k1 k2 k3 ch o tr es op fo has ++ [wL cy ua out]) rfl
        have hcl : s.vm.findClass "java/lang/IllegalArgumentException" = some ce.cls := by rw [← c3]; exact hcl
        refine vx_catch (own := RL) (name := "java/lang/IllegalArgumentException") (E := "java/lang/IllegalArgumentException") hown [] ⟨0, 9, 12, 13⟩ [] (by rw [hTab]; rfl) (fun z hz => nomatch hz) (by decide) (by decide) (hts (.classLink RL 13 "java/lang/IllegalArgumentException") (by decide +kernel)) (va_Nw.use rfl (hT.1 (.castable "java/lang/IllegalArgumentException" "java/lang/IllegalArgumentException") (by decide +kernel))) hce hcv hcl ?_
        refine lv_astore_n (lv' := [(3, .ref q9), (0, .ref h0), (1, .int n1), (2, .ref ua)]) hx hb dL_fencesOf_12 rfl hl (by decide) rfl (fun ls hl => ?_)
        refine lv_iconst (v := 1) hx hb dL_fencesOf_13 (by decide) ?_
        obtain rfl := k_some hf
        exact k_liret hx hb hr hP hD hS dL_fencesOf_14 hlocks
      · have hf := k_F c3 hf
        cases hf
def f_L_ownerOf (n1 : Int32) (gm : k_G8) (out : Nat → Int64) : Option (Int32 × (Nat → Int64)) :=
  (f_X7_ownerOf n1 gm).bind fun v1 =>
  Sum.elim (fun v1 =>
    k_let (vp_updL out 0 v1.toInt64) fun w2 =>
    some (0, w2)
  ) (fun v1 =>
    if v1 = "java/lang/IllegalArgumentException" then
      some (1, out)
    else
      if v1 = "java/util/NoSuchElementException" then
        some (2, out)
      else
        none
  ) v1
abbrev rm_L_ownerOf : Room := { frames := 7, cells := 1, slots := 6, locals := 111 }
theorem hd_L_ownerOf : yL_ownerOf.cls ≠ "java/lang/invoke/MethodHandle" ∧ yL_ownerOf.cls ≠ "java/lang/invoke/VarHandle" ∧ (parseMethodDescriptor yL_ownerOf.desc).map (fun d => d.parameters.length) = some 3 := by decide +kernel
set_option maxHeartbeats 4000000 in
set_option maxRecDepth 100000 in
theorem c_L_ownerOf (l : Launch) (hl9 : l.stackTraces = false) (D : va_G) (cy : Nat → ClassId) (h0 gma sna hia ka ora cha tra ena opa foa ua : Nat) (gm : k_G8) (sn : k_G8) (hs : Int32) (qs : k_Q4) (k0 : k_G8) (k1 : k_G8) (k2 : k_G8) (k3 : k_G8) (ch : Nat → Int32) (o : k_O5) (tr : k_G8) (es : Int32) (op : Nat → Int32) (fo : Nat → Int32) (has : Int32) (out : Nat → Int64) (n1 : Int32) (r : Int32 × (Nat → Int64)) (hf : f_L_ownerOf n1 gm out = some r) : k_LMet l yL_ownerOf wsL_ownerOf rm_L_ownerOf D (k_tys cy) [.ref h0, .int n1, .ref ua] (wX7 cy h0 gma sna hia ka ora cha tra ena opa foa gm sn hs qs k0 k1 k2 k3 ch o tr es op fo has ++ [wL cy ua out]) (some (.int r.1)) (wX7 cy h0 gma sna hia ka ora cha tra ena opa foa gm sn hs qs k0 k1 k2 k3 ch o tr es op fo has ++ [wL cy ua r.2]) := by
  refine k_lawOf (cc := cL_ownerOf) (maxL := 4) (ret := (some .int)) (hh := [(0, 9, 12, 13), (0, 9, 15, 27)]) (by decide) rfl (Nat.le_of_ble_eq_true rfl) ?_
  intro p e s m args below meth c ls A hx hb hr hlocks hml hown hts hl hA hK hP hD hN hT hZ hCx hTab
  have hl : lv_has ls 4 [(0, .ref h0), (1, .int n1), (2, .ref ua)] := hl
  have hS : va_S A s.heap s.heap [] := va_S.rf
  unfold f_L_ownerOf at hf
  obtain ⟨H, eH⟩ : ∃ H, H = s.heap := ⟨_, rfl⟩
  obtain ⟨locs, elocs⟩ : ∃ L : List Loc, L = [] := ⟨_, rfl⟩
  have hP : va_P D vwCl (wX7 cy h0 gma sna hia ka ora cha tra ena opa foa gm sn hs qs k0 k1 k2 k3 ch o tr es op fo has ++ [wL cy ua out]) H := by rw [eH]; exact hP
  have hS : va_S A s.heap H locs := by rw [eH, elocs]; exact hS
  refine k_here eH elocs ?_
  refine lv_aload_n hx hb dL_ownerOf_0 rfl (lv_at hl 2 rfl) ?_
  refine lv_iconst (v := 0) hx hb dL_ownerOf_1 (by decide) ?_
  refine lv_aload_n hx hb dL_ownerOf_2 rfl (lv_at hl 0 rfl) ?_
  refine lv_iload_n hx hb dL_ownerOf_3 rfl (lv_at hl 1 rfl) ?_
  obtain ⟨v1, hv1, hf⟩ := k_B hf
  refine k_callXV (As := [.int n1]) (rest := [.int 0, .ref ua]) (r := (RX7, TX7, 6)) (ci := 4) (q0 := 0) (isC := [0, 1, 2, 3, 4, 5, 6, 7, 8, 9, 10, 11, 12, 13, 14]) (isR := [15]) (perm := [1, 2, 3, 4, 5, 6, 7, 8, 9, 10, 11, 12, 13, 14, 15, 0]) ⟨hx, hb, hml, hown, hts⟩ (c_X7_ownerOf l hl9 D cy h0 gma sna hia ka ora cha tra ena opa foa gm sn hs qs k0 k1 k2 k3 ch o tr es op fo has n1 v1 hv1) (cwV 1 hts gL_ownerOf_X7_ownerOf rfl rfl rfl hd_X7_ownerOf ⟨Nat.le_of_ble_eq_true rfl, Nat.le_of_ble_eq_true rfl⟩) hK hN hT hZ hP hD hS hA rfl rfl rfl rfl rfl rfl (by decide) rfl rfl hl.1 rfl (Nat.le_of_ble_eq_true rfl) dL_ownerOf_4 ⟨Nat.le_of_ble_eq_true rfl, Nat.le_of_ble_eq_true rfl⟩ (fun q eq H locs hW1 hS => ?_) (fun E eE ce q9 H locs hW1 hS hce hcv hcl => ?_)
  · rcases v1 with v1 | v1
    · obtain rfl := k_smL eq
      obtain ⟨hP, hD⟩ := hW1 (wX7 cy h0 gma sna hia ka ora cha tra ena opa foa gm sn hs qs k0 k1 k2 k3 ch o tr es op fo has ++ [wL cy ua out]) rfl
      have hf := k_inl hf
      refine lv_i2l hx hb dL_ownerOf_7 rfl ?_
      refine va_last hx hb hK hP hD hS 15 3 rfl rfl (k_in (i := 0) (n := 1) (by decide +kernel)) dL_ownerOf_8 (fun H locs hP hD hS => ?_)
      obtain ⟨w2, ew2, hf⟩ := k_L hf
      have hP : va_P D vwCl (wX7 cy h0 gma sna hia ka ora cha tra ena opa foa gm sn hs qs k0 k1 k2 k3 ch o tr es op fo has ++ [wL cy ua w2]) H := by rw [ew2]; exact hP
      have hD : va_D A (wX7 cy h0 gma sna hia ka ora cha tra ena opa foa gm sn hs qs k0 k1 k2 k3 ch o tr es op fo has ++ [wL cy ua w2]) := by rw [ew2]; exact hD
      refine lv_goto (tgt := 18) hx hb dL_ownerOf_9 (by decide) ?_
      refine lv_iconst (v := 0) hx hb dL_ownerOf_18 (by decide) ?_
      obtain rfl := k_some hf
      exact k_liret hx hb hr hP hD hS dL_ownerOf_19 hlocks
    · exact (k_smX eq).elim
  · rcases v1 with v1 | v1
    · exact (k_smY eE).elim
    · obtain rfl := k_smR eE
      have hf := k_inr hf
      by_cases c4 : v1 = "java/lang/IllegalArgumentException"
      · have hf := k_T c4 hf
        obtain ⟨hP, hD⟩ := hW1 (wX7 cy h0 gma sna hia ka ora cha tra ena opa foa gm sn hs qs k0 k1 k2 k3 ch o tr es op fo has ++ [wL cy ua out]) rfl
        have hcl : s.vm.findClass "java/lang/IllegalArgumentException" = some ce.cls := by rw [← c4]; exact hcl
        refine vx_catch (own := RL) (name := "java/lang/IllegalArgumentException") (E := "java/lang/IllegalArgumentException") hown [] ⟨0, 9, 12, 13⟩ [⟨0, 9, 15, 27⟩] (by rw [hTab]; rfl) (fun z hz => nomatch hz) (by decide) (by decide) (hts (.classLink RL 13 "java/lang/IllegalArgumentException") (by decide +kernel)) (va_Nw.use rfl (hT.1 (.castable "java/lang/IllegalArgumentException" "java/lang/IllegalArgumentException") (by decide +kernel))) hce hcv hcl ?_
        refine lv_astore_n (lv' := [(3, .ref q9), (0, .ref h0), (1, .int n1), (2, .ref ua)]) hx hb dL_ownerOf_12 rfl hl (by decide) rfl (fun ls hl => ?_)
        refine lv_iconst (v := 1) hx hb dL_ownerOf_13 (by decide) ?_
        obtain rfl := k_some hf
        exact k_liret hx hb hr hP hD hS dL_ownerOf_14 hlocks
      · have hf := k_F c4 hf
        by_cases c3 : v1 = "java/util/NoSuchElementException"
        · have hf := k_T c3 hf
          obtain ⟨hP, hD⟩ := hW1 (wX7 cy h0 gma sna hia ka ora cha tra ena opa foa gm sn hs qs k0 k1 k2 k3 ch o tr es op fo has ++ [wL cy ua out]) rfl
          have hcl : s.vm.findClass "java/util/NoSuchElementException" = some ce.cls := by rw [← c3]; exact hcl
          have hpass : ∀ z ∈ ([⟨0, 9, 12, 13⟩] : List ExceptionTableEntry), covers z 4 = false ∨ (z.catchType ≠ 0 ∧ ∃ nm : String, (Cond.classLink RL z.catchType nm).before args s = true ∧ va_Nc "java/util/NoSuchElementException" nm s) := by
            intro z hz
            rcases List.mem_cons.mp hz with rfl | hz
            · exact Or.inr ⟨by decide, "java/lang/IllegalArgumentException", hts (.classLink RL 13 "java/lang/IllegalArgumentException") (by decide +kernel), hCx ("java/util/NoSuchElementException", "java/lang/IllegalArgumentException") (by decide +kernel)⟩
            cases hz
          refine vx_catch (own := RL) (name := "java/util/NoSuchElementException") (E := "java/util/NoSuchElementException") hown [⟨0, 9, 12, 13⟩] ⟨0, 9, 15, 27⟩ [] (by rw [hTab]; rfl) hpass (by decide) (by decide) (hts (.classLink RL 27 "java/util/NoSuchElementException") (by decide +kernel)) (va_Nw.use rfl (hT.1 (.castable "java/util/NoSuchElementException" "java/util/NoSuchElementException") (by decide +kernel))) hce hcv hcl ?_
          refine lv_astore_n (lv' := [(3, .ref q9), (0, .ref h0), (1, .int n1), (2, .ref ua)]) hx hb dL_ownerOf_15 rfl hl (by decide) rfl (fun ls hl => ?_)
          refine lv_iconst (v := 2) hx hb dL_ownerOf_16 (by decide) ?_
          obtain rfl := k_some hf
          exact k_liret hx hb hr hP hD hS dL_ownerOf_17 hlocks
        · have hf := k_F c3 hf
          cases hf
def f_L_boxesOf (n1 : Int32) (gm : k_G8) (out : Nat → Int64) : Option (Int32 × (Nat → Int64)) :=
  (f_X7_boxesOf n1 gm).bind fun v1 =>
  Sum.elim (fun v1 =>
    k_let (vp_updL out 0 v1.toInt64) fun w2 =>
    some (0, w2)
  ) (fun v1 =>
    if v1 = "java/lang/IllegalArgumentException" then
      some (1, out)
    else
      none
  ) v1
abbrev rm_L_boxesOf : Room := { frames := 7, cells := 1, slots := 6, locals := 111 }
theorem hd_L_boxesOf : yL_boxesOf.cls ≠ "java/lang/invoke/MethodHandle" ∧ yL_boxesOf.cls ≠ "java/lang/invoke/VarHandle" ∧ (parseMethodDescriptor yL_boxesOf.desc).map (fun d => d.parameters.length) = some 3 := by decide +kernel
set_option maxHeartbeats 4000000 in
set_option maxRecDepth 100000 in
theorem c_L_boxesOf (l : Launch) (hl9 : l.stackTraces = false) (D : va_G) (cy : Nat → ClassId) (h0 gma sna hia ka ora cha tra ena opa foa ua : Nat) (gm : k_G8) (sn : k_G8) (hs : Int32) (qs : k_Q4) (k0 : k_G8) (k1 : k_G8) (k2 : k_G8) (k3 : k_G8) (ch : Nat → Int32) (o : k_O5) (tr : k_G8) (es : Int32) (op : Nat → Int32) (fo : Nat → Int32) (has : Int32) (out : Nat → Int64) (n1 : Int32) (r : Int32 × (Nat → Int64)) (hf : f_L_boxesOf n1 gm out = some r) : k_LMet l yL_boxesOf wsL_boxesOf rm_L_boxesOf D (k_tys cy) [.ref h0, .int n1, .ref ua] (wX7 cy h0 gma sna hia ka ora cha tra ena opa foa gm sn hs qs k0 k1 k2 k3 ch o tr es op fo has ++ [wL cy ua out]) (some (.int r.1)) (wX7 cy h0 gma sna hia ka ora cha tra ena opa foa gm sn hs qs k0 k1 k2 k3 ch o tr es op fo has ++ [wL cy ua r.2]) := by
  refine k_lawOf (cc := cL_boxesOf) (maxL := 4) (ret := (some .int)) (hh := [(0, 9, 12, 13)]) (by decide) rfl (Nat.le_of_ble_eq_true rfl) ?_
  intro p e s m args below meth c ls A hx hb hr hlocks hml hown hts hl hA hK hP hD hN hT hZ hCx hTab
  have hl : lv_has ls 4 [(0, .ref h0), (1, .int n1), (2, .ref ua)] := hl
  have hS : va_S A s.heap s.heap [] := va_S.rf
  unfold f_L_boxesOf at hf
  obtain ⟨H, eH⟩ : ∃ H, H = s.heap := ⟨_, rfl⟩
  obtain ⟨locs, elocs⟩ : ∃ L : List Loc, L = [] := ⟨_, rfl⟩
  have hP : va_P D vwCl (wX7 cy h0 gma sna hia ka ora cha tra ena opa foa gm sn hs qs k0 k1 k2 k3 ch o tr es op fo has ++ [wL cy ua out]) H := by rw [eH]; exact hP
  have hS : va_S A s.heap H locs := by rw [eH, elocs]; exact hS
  refine k_here eH elocs ?_
  refine lv_aload_n hx hb dL_boxesOf_0 rfl (lv_at hl 2 rfl) ?_
  refine lv_iconst (v := 0) hx hb dL_boxesOf_1 (by decide) ?_
  refine lv_aload_n hx hb dL_boxesOf_2 rfl (lv_at hl 0 rfl) ?_
  refine lv_iload_n hx hb dL_boxesOf_3 rfl (lv_at hl 1 rfl) ?_
  obtain ⟨v1, hv1, hf⟩ := k_B hf
  refine k_callXV (As := [.int n1]) (rest := [.int 0, .ref ua]) (r := (RX7, TX7, 6)) (ci := 4) (q0 := 0) (isC := [0, 1, 2, 3, 4, 5, 6, 7, 8, 9, 10, 11, 12, 13, 14]) (isR := [15]) (perm := [1, 2, 3, 4, 5, 6, 7, 8, 9, 10, 11, 12, 13, 14, 15, 0]) ⟨hx, hb, hml, hown, hts⟩ (c_X7_boxesOf l hl9 D cy h0 gma sna hia ka ora cha tra ena opa foa gm sn hs qs k0 k1 k2 k3 ch o tr es op fo has n1 v1 hv1) (cwV 1 hts gL_boxesOf_X7_boxesOf rfl rfl rfl hd_X7_boxesOf ⟨Nat.le_of_ble_eq_true rfl, Nat.le_of_ble_eq_true rfl⟩) hK hN hT hZ hP hD hS hA rfl rfl rfl rfl rfl rfl (by decide) rfl rfl hl.1 rfl (Nat.le_of_ble_eq_true rfl) dL_boxesOf_4 ⟨Nat.le_of_ble_eq_true rfl, Nat.le_of_ble_eq_true rfl⟩ (fun q eq H locs hW1 hS => ?_) (fun E eE ce q9 H locs hW1 hS hce hcv hcl => ?_)
  · rcases v1 with v1 | v1
    · obtain rfl := k_smL eq
      obtain ⟨hP, hD⟩ := hW1 (wX7 cy h0 gma sna hia ka ora cha tra ena opa foa gm sn hs qs k0 k1 k2 k3 ch o tr es op fo has ++ [wL cy ua out]) rfl
      have hf := k_inl hf
      refine lv_i2l hx hb dL_boxesOf_7 rfl ?_
      refine va_last hx hb hK hP hD hS 15 3 rfl rfl (k_in (i := 0) (n := 1) (by decide +kernel)) dL_boxesOf_8 (fun H locs hP hD hS => ?_)
      obtain ⟨w2, ew2, hf⟩ := k_L hf
      have hP : va_P D vwCl (wX7 cy h0 gma sna hia ka ora cha tra ena opa foa gm sn hs qs k0 k1 k2 k3 ch o tr es op fo has ++ [wL cy ua w2]) H := by rw [ew2]; exact hP
      have hD : va_D A (wX7 cy h0 gma sna hia ka ora cha tra ena opa foa gm sn hs qs k0 k1 k2 k3 ch o tr es op fo has ++ [wL cy ua w2]) := by rw [ew2]; exact hD
      refine lv_goto (tgt := 15) hx hb dL_boxesOf_9 (by decide) ?_
      refine lv_iconst (v := 0) hx hb dL_boxesOf_15 (by decide) ?_
      obtain rfl := k_some hf
      exact k_liret hx hb hr hP hD hS dL_boxesOf_16 hlocks
    · exact (k_smX eq).elim
  · rcases v1 with v1 | v1
    · exact (k_smY eE).elim
    · obtain rfl := k_smR eE
      have hf := k_inr hf
      by_cases c3 : v1 = "java/lang/IllegalArgumentException"
      · have hf := k_T c3 hf
        obtain ⟨hP, hD⟩ := hW1 (wX7 cy h0 gma sna hia ka ora cha tra ena opa foa gm sn hs qs k0 k1 k2 k3 ch o tr es op fo has ++ [wL cy ua out]) rfl
        have hcl : s.vm.findClass "java/lang/IllegalArgumentException" = some ce.cls := by rw [← c3]; exact hcl
        refine vx_catch (own := RL) (name := "java/lang/IllegalArgumentException") (E := "java/lang/IllegalArgumentException") hown [] ⟨0, 9, 12, 13⟩ [] (by rw [hTab]; rfl) (fun z hz => nomatch hz) (by decide) (by decide) (hts (.classLink RL 13 "java/lang/IllegalArgumentException") (by decide +kernel)) (va_Nw.use rfl (hT.1 (.castable "java/lang/IllegalArgumentException" "java/lang/IllegalArgumentException") (by decide +kernel))) hce hcv hcl ?_
        refine lv_astore_n (lv' := [(3, .ref q9), (0, .ref h0), (1, .int n1), (2, .ref ua)]) hx hb dL_boxesOf_12 rfl hl (by decide) rfl (fun ls hl => ?_)
        refine lv_iconst (v := 1) hx hb dL_boxesOf_13 (by decide) ?_
        obtain rfl := k_some hf
        exact k_liret hx hb hr hP hD hS dL_boxesOf_14 hlocks
      · have hf := k_F c3 hf
        cases hf
def f_L_boxesWith (n1 : Int32) (gm : k_G8) (out : Nat → Int64) : Option (Int32 × (Nat → Int64)) :=
  (f_X7_boxesWith n1 gm).bind fun v1 =>
  Sum.elim (fun v1 =>
    k_let (vp_updL out 0 v1.toInt64) fun w2 =>
    some (0, w2)
  ) (fun v1 =>
    if v1 = "java/lang/IllegalArgumentException" then
      some (1, out)
    else
      none
  ) v1
abbrev rm_L_boxesWith : Room := { frames := 7, cells := 1, slots := 6, locals := 111 }
theorem hd_L_boxesWith : yL_boxesWith.cls ≠ "java/lang/invoke/MethodHandle" ∧ yL_boxesWith.cls ≠ "java/lang/invoke/VarHandle" ∧ (parseMethodDescriptor yL_boxesWith.desc).map (fun d => d.parameters.length) = some 3 := by decide +kernel
set_option maxHeartbeats 4000000 in
set_option maxRecDepth 100000 in
theorem c_L_boxesWith (l : Launch) (hl9 : l.stackTraces = false) (D : va_G) (cy : Nat → ClassId) (h0 gma sna hia ka ora cha tra ena opa foa ua : Nat) (gm : k_G8) (sn : k_G8) (hs : Int32) (qs : k_Q4) (k0 : k_G8) (k1 : k_G8) (k2 : k_G8) (k3 : k_G8) (ch : Nat → Int32) (o : k_O5) (tr : k_G8) (es : Int32) (op : Nat → Int32) (fo : Nat → Int32) (has : Int32) (out : Nat → Int64) (n1 : Int32) (r : Int32 × (Nat → Int64)) (hf : f_L_boxesWith n1 gm out = some r) : k_LMet l yL_boxesWith wsL_boxesWith rm_L_boxesWith D (k_tys cy) [.ref h0, .int n1, .ref ua] (wX7 cy h0 gma sna hia ka ora cha tra ena opa foa gm sn hs qs k0 k1 k2 k3 ch o tr es op fo has ++ [wL cy ua out]) (some (.int r.1)) (wX7 cy h0 gma sna hia ka ora cha tra ena opa foa gm sn hs qs k0 k1 k2 k3 ch o tr es op fo has ++ [wL cy ua r.2]) := by
  refine k_lawOf (cc := cL_boxesWith) (maxL := 4) (ret := (some .int)) (hh := [(0, 9, 12, 13)]) (by decide) rfl (Nat.le_of_ble_eq_true rfl) ?_
  intro p e s m args below meth c ls A hx hb hr hlocks hml hown hts hl hA hK hP hD hN hT hZ hCx hTab
  have hl : lv_has ls 4 [(0, .ref h0), (1, .int n1), (2, .ref ua)] := hl
  have hS : va_S A s.heap s.heap [] := va_S.rf
  unfold f_L_boxesWith at hf
  obtain ⟨H, eH⟩ : ∃ H, H = s.heap := ⟨_, rfl⟩
  obtain ⟨locs, elocs⟩ : ∃ L : List Loc, L = [] := ⟨_, rfl⟩
  have hP : va_P D vwCl (wX7 cy h0 gma sna hia ka ora cha tra ena opa foa gm sn hs qs k0 k1 k2 k3 ch o tr es op fo has ++ [wL cy ua out]) H := by rw [eH]; exact hP
  have hS : va_S A s.heap H locs := by rw [eH, elocs]; exact hS
  refine k_here eH elocs ?_
  refine lv_aload_n hx hb dL_boxesWith_0 rfl (lv_at hl 2 rfl) ?_
  refine lv_iconst (v := 0) hx hb dL_boxesWith_1 (by decide) ?_
  refine lv_aload_n hx hb dL_boxesWith_2 rfl (lv_at hl 0 rfl) ?_
  refine lv_iload_n hx hb dL_boxesWith_3 rfl (lv_at hl 1 rfl) ?_
  obtain ⟨v1, hv1, hf⟩ := k_B hf
  refine k_callXV (As := [.int n1]) (rest := [.int 0, .ref ua]) (r := (RX7, TX7, 6)) (ci := 4) (q0 := 0) (isC := [0, 1, 2, 3, 4, 5, 6, 7, 8, 9, 10, 11, 12, 13, 14]) (isR := [15]) (perm := [1, 2, 3, 4, 5, 6, 7, 8, 9, 10, 11, 12, 13, 14, 15, 0]) ⟨hx, hb, hml, hown, hts⟩ (c_X7_boxesWith l hl9 D cy h0 gma sna hia ka ora cha tra ena opa foa gm sn hs qs k0 k1 k2 k3 ch o tr es op fo has n1 v1 hv1) (cwV 1 hts gL_boxesWith_X7_boxesWith rfl rfl rfl hd_X7_boxesWith ⟨Nat.le_of_ble_eq_true rfl, Nat.le_of_ble_eq_true rfl⟩) hK hN hT hZ hP hD hS hA rfl rfl rfl rfl rfl rfl (by decide) rfl rfl hl.1 rfl (Nat.le_of_ble_eq_true rfl) dL_boxesWith_4 ⟨Nat.le_of_ble_eq_true rfl, Nat.le_of_ble_eq_true rfl⟩ (fun q eq H locs hW1 hS => ?_) (fun E eE ce q9 H locs hW1 hS hce hcv hcl => ?_)
  · rcases v1 with v1 | v1
    · obtain rfl := k_smL eq
      obtain ⟨hP, hD⟩ := hW1 (wX7 cy h0 gma sna hia ka ora cha tra ena opa foa gm sn hs qs k0 k1 k2 k3 ch o tr es op fo has ++ [wL cy ua out]) rfl
      have hf := k_inl hf
      refine lv_i2l hx hb dL_boxesWith_7 rfl ?_
      refine va_last hx hb hK hP hD hS 15 3 rfl rfl (k_in (i := 0) (n := 1) (by decide +kernel)) dL_boxesWith_8 (fun H locs hP hD hS => ?_)
      obtain ⟨w2, ew2, hf⟩ := k_L hf
      have hP : va_P D vwCl (wX7 cy h0 gma sna hia ka ora cha tra ena opa foa gm sn hs qs k0 k1 k2 k3 ch o tr es op fo has ++ [wL cy ua w2]) H := by rw [ew2]; exact hP
      have hD : va_D A (wX7 cy h0 gma sna hia ka ora cha tra ena opa foa gm sn hs qs k0 k1 k2 k3 ch o tr es op fo has ++ [wL cy ua w2]) := by rw [ew2]; exact hD
      refine lv_goto (tgt := 15) hx hb dL_boxesWith_9 (by decide) ?_
      refine lv_iconst (v := 0) hx hb dL_boxesWith_15 (by decide) ?_
      obtain rfl := k_some hf
      exact k_liret hx hb hr hP hD hS dL_boxesWith_16 hlocks
    · exact (k_smX eq).elim
  · rcases v1 with v1 | v1
    · exact (k_smY eE).elim
    · obtain rfl := k_smR eE
      have hf := k_inr hf
      by_cases c3 : v1 = "java/lang/IllegalArgumentException"
      · have hf := k_T c3 hf
        obtain ⟨hP, hD⟩ := hW1 (wX7 cy h0 gma sna hia ka ora cha tra ena opa foa gm sn hs qs k0 k1 k2 k3 ch o tr es op fo has ++ [wL cy ua out]) rfl
        have hcl : s.vm.findClass "java/lang/IllegalArgumentException" = some ce.cls := by rw [← c3]; exact hcl
        refine vx_catch (own := RL) (name := "java/lang/IllegalArgumentException") (E := "java/lang/IllegalArgumentException") hown [] ⟨0, 9, 12, 13⟩ [] (by rw [hTab]; rfl) (fun z hz => nomatch hz) (by decide) (by decide) (hts (.classLink RL 13 "java/lang/IllegalArgumentException") (by decide +kernel)) (va_Nw.use rfl (hT.1 (.castable "java/lang/IllegalArgumentException" "java/lang/IllegalArgumentException") (by decide +kernel))) hce hcv hcl ?_
        refine lv_astore_n (lv' := [(3, .ref q9), (0, .ref h0), (1, .int n1), (2, .ref ua)]) hx hb dL_boxesWith_12 rfl hl (by decide) rfl (fun ls hl => ?_)
        refine lv_iconst (v := 1) hx hb dL_boxesWith_13 (by decide) ?_
        obtain rfl := k_some hf
        exact k_liret hx hb hr hP hD hS dL_boxesWith_14 hlocks
      · have hf := k_F c3 hf
        cases hf
def f_L_whyNot (n1 : Int32) (gm : k_G8) (out : Nat → Int64) : Option (Int32 × (Nat → Int64)) :=
  (f_X7_whyNot n1 gm).bind fun v1 =>
  Sum.elim (fun v1 =>
    k_let (vp_updL out 0 v1.toInt64) fun w2 =>
    some (0, w2)
  ) (fun v1 =>
    if v1 = "java/lang/IllegalArgumentException" then
      some (1, out)
    else
      none
  ) v1
abbrev rm_L_whyNot : Room := { frames := 7, cells := 1, slots := 6, locals := 111 }
theorem hd_L_whyNot : yL_whyNot.cls ≠ "java/lang/invoke/MethodHandle" ∧ yL_whyNot.cls ≠ "java/lang/invoke/VarHandle" ∧ (parseMethodDescriptor yL_whyNot.desc).map (fun d => d.parameters.length) = some 3 := by decide +kernel
set_option maxHeartbeats 4000000 in
set_option maxRecDepth 100000 in
theorem c_L_whyNot (l : Launch) (hl9 : l.stackTraces = false) (D : va_G) (cy : Nat → ClassId) (h0 gma sna hia ka ora cha tra ena opa foa ua : Nat) (gm : k_G8) (sn : k_G8) (hs : Int32) (qs : k_Q4) (k0 : k_G8) (k1 : k_G8) (k2 : k_G8) (k3 : k_G8) (ch : Nat → Int32) (o : k_O5) (tr : k_G8) (es : Int32) (op : Nat → Int32) (fo : Nat → Int32) (has : Int32) (out : Nat → Int64) (n1 : Int32) (r : Int32 × (Nat → Int64)) (hf : f_L_whyNot n1 gm out = some r) : k_LMet l yL_whyNot wsL_whyNot rm_L_whyNot D (k_tys cy) [.ref h0, .int n1, .ref ua] (wX7 cy h0 gma sna hia ka ora cha tra ena opa foa gm sn hs qs k0 k1 k2 k3 ch o tr es op fo has ++ [wL cy ua out]) (some (.int r.1)) (wX7 cy h0 gma sna hia ka ora cha tra ena opa foa gm sn hs qs k0 k1 k2 k3 ch o tr es op fo has ++ [wL cy ua r.2]) := by
  refine k_lawOf (cc := cL_whyNot) (maxL := 4) (ret := (some .int)) (hh := [(0, 9, 12, 13)]) (by decide) rfl (Nat.le_of_ble_eq_true rfl) ?_
  intro p e s m args below meth c ls A hx hb hr hlocks hml hown hts hl hA hK hP hD hN hT hZ hCx hTab
  have hl : lv_has ls 4 [(0, .ref h0), (1, .int n1), (2, .ref ua)] := hl
  have hS : va_S A s.heap s.heap [] := va_S.rf
  unfold f_L_whyNot at hf
  obtain ⟨H, eH⟩ : ∃ H, H = s.heap := ⟨_, rfl⟩
  obtain ⟨locs, elocs⟩ : ∃ L : List Loc, L = [] := ⟨_, rfl⟩
  have hP : va_P D vwCl (wX7 cy h0 gma sna hia ka ora cha tra ena opa foa gm sn hs qs k0 k1 k2 k3 ch o tr es op fo has ++ [wL cy ua out]) H := by rw [eH]; exact hP
  have hS : va_S A s.heap H locs := by rw [eH, elocs]; exact hS
  refine k_here eH elocs ?_
  refine lv_aload_n hx hb dL_whyNot_0 rfl (lv_at hl 2 rfl) ?_
  refine lv_iconst (v := 0) hx hb dL_whyNot_1 (by decide) ?_
  refine lv_aload_n hx hb dL_whyNot_2 rfl (lv_at hl 0 rfl) ?_
  refine lv_iload_n hx hb dL_whyNot_3 rfl (lv_at hl 1 rfl) ?_
  obtain ⟨v1, hv1, hf⟩ := k_B hf
  refine k_callXV (As := [.int n1]) (rest := [.int 0, .ref ua]) (r := (RX7, TX7, 6)) (ci := 4) (q0 := 0) (isC := [0, 1, 2, 3, 4, 5, 6, 7, 8, 9, 10, 11, 12, 13, 14]) (isR := [15]) (perm := [1, 2, 3, 4, 5, 6, 7, 8, 9, 10, 11, 12, 13, 14, 15, 0]) ⟨hx, hb, hml, hown, hts⟩ (c_X7_whyNot l hl9 D cy h0 gma sna hia ka ora cha tra ena opa foa gm sn hs qs k0 k1 k2 k3 ch o tr es op fo has n1 v1 hv1) (cwV 1 hts gL_whyNot_X7_whyNot rfl rfl rfl hd_X7_whyNot ⟨Nat.le_of_ble_eq_true rfl, Nat.le_of_ble_eq_true rfl⟩) hK hN hT hZ hP hD hS hA rfl rfl rfl rfl rfl rfl (by decide) rfl rfl hl.1 rfl (Nat.le_of_ble_eq_true rfl) dL_whyNot_4 ⟨Nat.le_of_ble_eq_true rfl, Nat.le_of_ble_eq_true rfl⟩ (fun q eq H locs hW1 hS => ?_) (fun E eE ce q9 H locs hW1 hS hce hcv hcl => ?_)
  · rcases v1 with v1 | v1
    · obtain rfl := k_smL eq
      obtain ⟨hP, hD⟩ := hW1 (wX7 cy h0 gma sna hia ka ora cha tra ena opa foa gm sn hs qs k0 k1 k2 k3 ch o tr es op fo has ++ [wL cy ua out]) rfl
      have hf := k_inl hf
      refine lv_i2l hx hb dL_whyNot_7 rfl ?_
      refine va_last hx hb hK hP hD hS 15 3 rfl rfl (k_in (i := 0) (n := 1) (by decide +kernel)) dL_whyNot_8 (fun H locs hP hD hS => ?_)
      obtain ⟨w2, ew2, hf⟩ := k_L hf
      have hP : va_P D vwCl (wX7 cy h0 gma sna hia ka ora cha tra ena opa foa gm sn hs qs k0 k1 k2 k3 ch o tr es op fo has ++ [wL cy ua w2]) H := by rw [ew2]; exact hP
      have hD : va_D A (wX7 cy h0 gma sna hia ka ora cha tra ena opa foa gm sn hs qs k0 k1 k2 k3 ch o tr es op fo has ++ [wL cy ua w2]) := by rw [ew2]; exact hD
      refine lv_goto (tgt := 15) hx hb dL_whyNot_9 (by decide) ?_
      refine lv_iconst (v := 0) hx hb dL_whyNot_15 (by decide) ?_
      obtain rfl := k_some hf
      exact k_liret hx hb hr hP hD hS dL_whyNot_16 hlocks
    · exact (k_smX eq).elim
  · rcases v1 with v1 | v1
    · exact (k_smY eE).elim
    · obtain rfl := k_smR eE
      have hf := k_inr hf
      by_cases c3 : v1 = "java/lang/IllegalArgumentException"
      · have hf := k_T c3 hf
        obtain ⟨hP, hD⟩ := hW1 (wX7 cy h0 gma sna hia ka ora cha tra ena opa foa gm sn hs qs k0 k1 k2 k3 ch o tr es op fo has ++ [wL cy ua out]) rfl
        have hcl : s.vm.findClass "java/lang/IllegalArgumentException" = some ce.cls := by rw [← c3]; exact hcl
        refine vx_catch (own := RL) (name := "java/lang/IllegalArgumentException") (E := "java/lang/IllegalArgumentException") hown [] ⟨0, 9, 12, 13⟩ [] (by rw [hTab]; rfl) (fun z hz => nomatch hz) (by decide) (by decide) (hts (.classLink RL 13 "java/lang/IllegalArgumentException") (by decide +kernel)) (va_Nw.use rfl (hT.1 (.castable "java/lang/IllegalArgumentException" "java/lang/IllegalArgumentException") (by decide +kernel))) hce hcv hcl ?_
        refine lv_astore_n (lv' := [(3, .ref q9), (0, .ref h0), (1, .int n1), (2, .ref ua)]) hx hb dL_whyNot_12 rfl hl (by decide) rfl (fun ls hl => ?_)
        refine lv_iconst (v := 1) hx hb dL_whyNot_13 (by decide) ?_
        obtain rfl := k_some hf
        exact k_liret hx hb hr hP hD hS dL_whyNot_14 hlocks
      · have hf := k_F c3 hf
        cases hf
def f_L_takingFence (gm : k_G8) (out : Nat → Int64) : Option (Int32 × (Nat → Int64)) :=
  (f_X7_takingFence gm).bind fun v1 =>
  Sum.elim (fun v1 =>
    k_let (vp_updL out 0 v1.toInt64) fun w2 =>
    some (0, w2)
  ) (fun v1 =>
    if v1 = "java/util/NoSuchElementException" then
      some (1, out)
    else
      none
  ) v1
abbrev rm_L_takingFence : Room := { frames := 7, cells := 1, slots := 6, locals := 111 }
theorem hd_L_takingFence : yL_takingFence.cls ≠ "java/lang/invoke/MethodHandle" ∧ yL_takingFence.cls ≠ "java/lang/invoke/VarHandle" ∧ (parseMethodDescriptor yL_takingFence.desc).map (fun d => d.parameters.length) = some 2 := by decide +kernel
set_option maxHeartbeats 4000000 in
set_option maxRecDepth 100000 in
theorem c_L_takingFence (l : Launch) (hl9 : l.stackTraces = false) (D : va_G) (cy : Nat → ClassId) (h0 gma sna hia ka ora cha tra ena opa foa ua : Nat) (gm : k_G8) (sn : k_G8) (hs : Int32) (qs : k_Q4) (k0 : k_G8) (k1 : k_G8) (k2 : k_G8) (k3 : k_G8) (ch : Nat → Int32) (o : k_O5) (tr : k_G8) (es : Int32) (op : Nat → Int32) (fo : Nat → Int32) (has : Int32) (out : Nat → Int64)  (r : Int32 × (Nat → Int64)) (hf : f_L_takingFence gm out = some r) : k_LMet l yL_takingFence wsL_takingFence rm_L_takingFence D (k_tys cy) [.ref h0, .ref ua] (wX7 cy h0 gma sna hia ka ora cha tra ena opa foa gm sn hs qs k0 k1 k2 k3 ch o tr es op fo has ++ [wL cy ua out]) (some (.int r.1)) (wX7 cy h0 gma sna hia ka ora cha tra ena opa foa gm sn hs qs k0 k1 k2 k3 ch o tr es op fo has ++ [wL cy ua r.2]) := by
  refine k_lawOf (cc := cL_takingFence) (maxL := 3) (ret := (some .int)) (hh := [(0, 8, 11, 27)]) (by decide) rfl (Nat.le_of_ble_eq_true rfl) ?_
  intro p e s m args below meth c ls A hx hb hr hlocks hml hown hts hl hA hK hP hD hN hT hZ hCx hTab
  have hl : lv_has ls 3 [(0, .ref h0), (1, .ref ua)] := hl
  have hS : va_S A s.heap s.heap [] := va_S.rf
  unfold f_L_takingFence at hf
  obtain ⟨H, eH⟩ : ∃ H, H = s.heap := ⟨_, rfl⟩
  obtain ⟨locs, elocs⟩ : ∃ L : List Loc, L = [] := ⟨_, rfl⟩
  have hP : va_P D vwCl (wX7 cy h0 gma sna hia ka ora cha tra ena opa foa gm sn hs qs k0 k1 k2 k3 ch o tr es op fo has ++ [wL cy ua out]) H := by rw [eH]; exact hP
  have hS : va_S A s.heap H locs := by rw [eH, elocs]; exact hS
  refine k_here eH elocs ?_
  refine lv_aload_n hx hb dL_takingFence_0 rfl (lv_at hl 1 rfl) ?_
  refine lv_iconst (v := 0) hx hb dL_takingFence_1 (by decide) ?_
  refine lv_aload_n hx hb dL_takingFence_2 rfl (lv_at hl 0 rfl) ?_
  obtain ⟨v1, hv1, hf⟩ := k_B hf
  refine k_callXV (As := []) (rest := [.int 0, .ref ua]) (r := (RX7, TX7, 6)) (ci := 4) (q0 := 0) (isC := [0, 1, 2, 3, 4, 5, 6, 7, 8, 9, 10, 11, 12, 13, 14]) (isR := [15]) (perm := [1, 2, 3, 4, 5, 6, 7, 8, 9, 10, 11, 12, 13, 14, 15, 0]) ⟨hx, hb, hml, hown, hts⟩ (c_X7_takingFence l hl9 D cy h0 gma sna hia ka ora cha tra ena opa foa gm sn hs qs k0 k1 k2 k3 ch o tr es op fo has  v1 hv1) (cwV 0 hts gL_takingFence_X7_takingFence rfl rfl rfl hd_X7_takingFence ⟨Nat.le_of_ble_eq_true rfl, Nat.le_of_ble_eq_true rfl⟩) hK hN hT hZ hP hD hS hA rfl rfl rfl rfl rfl rfl (by decide) rfl rfl hl.1 rfl (Nat.le_of_ble_eq_true rfl) dL_takingFence_3 ⟨Nat.le_of_ble_eq_true rfl, Nat.le_of_ble_eq_true rfl⟩ (fun q eq H locs hW1 hS => ?_) (fun E eE ce q9 H locs hW1 hS hce hcv hcl => ?_)
  · rcases v1 with v1 | v1
    · obtain rfl := k_smL eq
      obtain ⟨hP, hD⟩ := hW1 (wX7 cy h0 gma sna hia ka ora cha tra ena opa foa gm sn hs qs k0 k1 k2 k3 ch o tr es op fo has ++ [wL cy ua out]) rfl
      have hf := k_inl hf
      refine lv_i2l hx hb dL_takingFence_6 rfl ?_
      refine va_last hx hb hK hP hD hS 15 3 rfl rfl (k_in (i := 0) (n := 1) (by decide +kernel)) dL_takingFence_7 (fun H locs hP hD hS => ?_)
      obtain ⟨w2, ew2, hf⟩ := k_L hf
      have hP : va_P D vwCl (wX7 cy h0 gma sna hia ka ora cha tra ena opa foa gm sn hs qs k0 k1 k2 k3 ch o tr es op fo has ++ [wL cy ua w2]) H := by rw [ew2]; exact hP
      have hD : va_D A (wX7 cy h0 gma sna hia ka ora cha tra ena opa foa gm sn hs qs k0 k1 k2 k3 ch o tr es op fo has ++ [wL cy ua w2]) := by rw [ew2]; exact hD
      refine lv_goto (tgt := 14) hx hb dL_takingFence_8 (by decide) ?_
      refine lv_iconst (v := 0) hx hb dL_takingFence_14 (by decide) ?_
      obtain rfl := k_some hf
      exact k_liret hx hb hr hP hD hS dL_takingFence_15 hlocks
    · exact (k_smX eq).elim
  · rcases v1 with v1 | v1
    · exact (k_smY eE).elim
    · obtain rfl := k_smR eE
      have hf := k_inr hf
      by_cases c3 : v1 = "java/util/NoSuchElementException"
      · have hf := k_T c3 hf
        obtain ⟨hP, hD⟩ := hW1 (wX7 cy h0 gma sna hia ka ora cha tra ena opa foa gm sn hs qs k0 k1 k2 k3 ch o tr es op fo has ++ [wL cy ua out]) rfl
        have hcl : s.vm.findClass "java/util/NoSuchElementException" = some ce.cls := by rw [← c3]; exact hcl
        refine vx_catch (own := RL) (name := "java/util/NoSuchElementException") (E := "java/util/NoSuchElementException") hown [] ⟨0, 8, 11, 27⟩ [] (by rw [hTab]; rfl) (fun z hz => nomatch hz) (by decide) (by decide) (hts (.classLink RL 27 "java/util/NoSuchElementException") (by decide +kernel)) (va_Nw.use rfl (hT.1 (.castable "java/util/NoSuchElementException" "java/util/NoSuchElementException") (by decide +kernel))) hce hcv hcl ?_
        refine lv_astore_n (lv' := [(2, .ref q9), (0, .ref h0), (1, .ref ua)]) hx hb dL_takingFence_11 rfl hl (by decide) rfl (fun ls hl => ?_)
        refine lv_iconst (v := 1) hx hb dL_takingFence_12 (by decide) ?_
        obtain rfl := k_some hf
        exact k_liret hx hb hr hP hD hS dL_takingFence_13 hlocks
      · have hf := k_F c3 hf
        cases hf
def f_L_isSafe (n1 : Int32) (gm : k_G8) (out : Nat → Int64) : Option (Int32 × (Nat → Int64)) :=
  (f_X7_isSafe n1 gm).bind fun v1 =>
  Sum.elim (fun v1 =>
    if v1 = 0 then
      k_let (vp_updL out 0 0) fun w3 =>
      some (0, w3)
    else
      k_let (vp_updL out 0 1) fun w4 =>
      some (0, w4)
  ) (fun v1 =>
    if v1 = "java/lang/IllegalArgumentException" then
      some (1, out)
    else
      none
  ) v1
abbrev rm_L_isSafe : Room := { frames := 7, cells := 1, slots := 6, locals := 111 }
theorem hd_L_isSafe : yL_isSafe.cls ≠ "java/lang/invoke/MethodHandle" ∧ yL_isSafe.cls ≠ "java/lang/invoke/VarHandle" ∧ (parseMethodDescriptor yL_isSafe.desc).map (fun d => d.parameters.length) = some 3 := by decide +kernel
set_option maxHeartbeats 4000000 in
set_option maxRecDepth 100000 in
theorem c_L_isSafe (l : Launch) (hl9 : l.stackTraces = false) (D : va_G) (cy : Nat → ClassId) (h0 gma sna hia ka ora cha tra ena opa foa ua : Nat) (gm : k_G8) (sn : k_G8) (hs : Int32) (qs : k_Q4) (k0 : k_G8) (k1 : k_G8) (k2 : k_G8) (k3 : k_G8) (ch : Nat → Int32) (o : k_O5) (tr : k_G8) (es : Int32) (op : Nat → Int32) (fo : Nat → Int32) (has : Int32) (out : Nat → Int64) (n1 : Int32) (r : Int32 × (Nat → Int64)) (hf : f_L_isSafe n1 gm out = some r) : k_LMet l yL_isSafe wsL_isSafe rm_L_isSafe D (k_tys cy) [.ref h0, .int n1, .ref ua] (wX7 cy h0 gma sna hia ka ora cha tra ena opa foa gm sn hs qs k0 k1 k2 k3 ch o tr es op fo has ++ [wL cy ua out]) (some (.int r.1)) (wX7 cy h0 gma sna hia ka ora cha tra ena opa foa gm sn hs qs k0 k1 k2 k3 ch o tr es op fo has ++ [wL cy ua r.2]) := by
  refine k_lawOf (cc := cL_isSafe) (maxL := 4) (ret := (some .int)) (hh := [(0, 16, 19, 13)]) (by decide) rfl (Nat.le_of_ble_eq_true rfl) ?_
  intro p e s m args below meth c ls A hx hb hr hlocks hml hown hts hl hA hK hP hD hN hT hZ hCx hTab
  have hl : lv_has ls 4 [(0, .ref h0), (1, .int n1), (2, .ref ua)] := hl
  have hS : va_S A s.heap s.heap [] := va_S.rf
  unfold f_L_isSafe at hf
  obtain ⟨H, eH⟩ : ∃ H, H = s.heap := ⟨_, rfl⟩
  obtain ⟨locs, elocs⟩ : ∃ L : List Loc, L = [] := ⟨_, rfl⟩
  have hP : va_P D vwCl (wX7 cy h0 gma sna hia ka ora cha tra ena opa foa gm sn hs qs k0 k1 k2 k3 ch o tr es op fo has ++ [wL cy ua out]) H := by rw [eH]; exact hP
  have hS : va_S A s.heap H locs := by rw [eH, elocs]; exact hS
  refine k_here eH elocs ?_
  refine lv_aload_n hx hb dL_isSafe_0 rfl (lv_at hl 2 rfl) ?_
  refine lv_iconst (v := 0) hx hb dL_isSafe_1 (by decide) ?_
  refine lv_aload_n hx hb dL_isSafe_2 rfl (lv_at hl 0 rfl) ?_
  refine lv_iload_n hx hb dL_isSafe_3 rfl (lv_at hl 1 rfl) ?_
  obtain ⟨v1, hv1, hf⟩ := k_B hf
  refine k_callXV (As := [.int n1]) (rest := [.int 0, .ref ua]) (r := (RX7, TX7, 6)) (ci := 4) (q0 := 0) (isC := [0, 1, 2, 3, 4, 5, 6, 7, 8, 9, 10, 11, 12, 13, 14]) (isR := [15]) (perm := [1, 2, 3, 4, 5, 6, 7, 8, 9, 10, 11, 12, 13, 14, 15, 0]) ⟨hx, hb, hml, hown, hts⟩ (c_X7_isSafe l hl9 D cy h0 gma sna hia ka ora cha tra ena opa foa gm sn hs qs k0 k1 k2 k3 ch o tr es op fo has n1 v1 hv1) (cwV 1 hts gL_isSafe_X7_isSafe rfl rfl rfl hd_X7_isSafe ⟨Nat.le_of_ble_eq_true rfl, Nat.le_of_ble_eq_true rfl⟩) hK hN hT hZ hP hD hS hA rfl rfl rfl rfl rfl rfl (by decide) rfl rfl hl.1 rfl (Nat.le_of_ble_eq_true rfl) dL_isSafe_4 ⟨Nat.le_of_ble_eq_true rfl, Nat.le_of_ble_eq_true rfl⟩ (fun q eq H locs hW1 hS => ?_) (fun E eE ce q9 H locs hW1 hS hce hcv hcl => ?_)
  · rcases v1 with v1 | v1
    · obtain rfl := k_smL eq
      obtain ⟨hP, hD⟩ := hW1 (wX7 cy h0 gma sna hia ka ora cha tra ena opa foa gm sn hs qs k0 k1 k2 k3 ch o tr es op fo has ++ [wL cy ua out]) rfl
      have hf := k_inl hf
      refine lv_if_eq (tgt := 14) hx hb dL_isSafe_7 (by decide) (fun c2 => ?_) (fun c2 => ?_)
      · have hf := k_T c2 hf
        refine lv_lconst (v := 0) hx hb dL_isSafe_14 (by decide) ?_
        refine va_last hx hb hK hP hD hS 15 3 rfl rfl (k_in (i := 0) (n := 1) (by decide +kernel)) dL_isSafe_15 (fun H locs hP hD hS => ?_)
        obtain ⟨w3, ew3, hf⟩ := k_L hf
        have hP : va_P D vwCl (wX7 cy h0 gma sna hia ka ora cha tra ena opa foa gm sn hs qs k0 k1 k2 k3 ch o tr es op fo has ++ [wL cy ua w3]) H := by rw [ew3]; exact hP
        have hD : va_D A (wX7 cy h0 gma sna hia ka ora cha tra ena opa foa gm sn hs qs k0 k1 k2 k3 ch o tr es op fo has ++ [wL cy ua w3]) := by rw [ew3]; exact hD
        refine lv_goto (tgt := 22) hx hb dL_isSafe_16 (by decide) ?_
        refine lv_iconst (v := 0) hx hb dL_isSafe_22 (by decide) ?_
        obtain rfl := k_some hf
        exact k_liret hx hb hr hP hD hS dL_isSafe_23 hlocks
      · have hf := k_F c2 hf
        refine lv_lconst (v := 1) hx hb dL_isSafe_10 (by decide) ?_
        refine lv_goto (tgt := 15) hx hb dL_isSafe_11 (by decide) ?_
        refine va_last hx hb hK hP hD hS 15 3 rfl rfl (k_in (i := 0) (n := 1) (by decide +kernel)) dL_isSafe_15 (fun H locs hP hD hS => ?_)
        obtain ⟨w4, ew4, hf⟩ := k_L hf
        have hP : va_P D vwCl (wX7 cy h0 gma sna hia ka ora cha tra ena opa foa gm sn hs qs k0 k1 k2 k3 ch o tr es op fo has ++ [wL cy ua w4]) H := by rw [ew4]; exact hP
        have hD : va_D A (wX7 cy h0 gma sna hia ka ora cha tra ena opa foa gm sn hs qs k0 k1 k2 k3 ch o tr es op fo has ++ [wL cy ua w4]) := by rw [ew4]; exact hD
        refine lv_goto (tgt := 22) hx hb dL_isSafe_16 (by decide) ?_
        refine lv_iconst (v := 0) hx hb dL_isSafe_22 (by decide) ?_
        obtain rfl := k_some hf
        exact k_liret hx hb hr hP hD hS dL_isSafe_23 hlocks
    · exact (k_smX eq).elim
  · rcases v1 with v1 | v1
    · exact (k_smY eE).elim
    · obtain rfl := k_smR eE
      have hf := k_inr hf
      by_cases c5 : v1 = "java/lang/IllegalArgumentException"
      · have hf := k_T c5 hf
        obtain ⟨hP, hD⟩ := hW1 (wX7 cy h0 gma sna hia ka ora cha tra ena opa foa gm sn hs qs k0 k1 k2 k3 ch o tr es op fo has ++ [wL cy ua out]) rfl
        have hcl : s.vm.findClass "java/lang/IllegalArgumentException" = some ce.cls := by rw [← c5]; exact hcl
        refine vx_catch (own := RL) (name := "java/lang/IllegalArgumentException") (E := "java/lang/IllegalArgumentException") hown [] ⟨0, 16, 19, 13⟩ [] (by rw [hTab]; rfl) (fun z hz => nomatch hz) (by decide) (by decide) (hts (.classLink RL 13 "java/lang/IllegalArgumentException") (by decide +kernel)) (va_Nw.use rfl (hT.1 (.castable "java/lang/IllegalArgumentException" "java/lang/IllegalArgumentException") (by decide +kernel))) hce hcv hcl ?_
        refine lv_astore_n (lv' := [(3, .ref q9), (0, .ref h0), (1, .int n1), (2, .ref ua)]) hx hb dL_isSafe_19 rfl hl (by decide) rfl (fun ls hl => ?_)
        refine lv_iconst (v := 1) hx hb dL_isSafe_20 (by decide) ?_
        obtain rfl := k_some hf
        exact k_liret hx hb hr hP hD hS dL_isSafe_21 hlocks
      · have hf := k_F c5 hf
        cases hf
def f_L_gives (n1 : Int32) (gm : k_G8) (out : Nat → Int64) : Option (Int32 × (Nat → Int64)) :=
  (f_X7_gives n1 gm).bind fun v1 =>
  Sum.elim (fun v1 =>
    k_let (vp_updL out 0 v1.toInt64) fun w2 =>
    some (0, w2)
  ) (fun v1 =>
    if v1 = "java/lang/IllegalArgumentException" then
      some (1, out)
    else
      if v1 = "java/lang/IllegalStateException" then
        some (2, out)
      else
        none
  ) v1
abbrev rm_L_gives : Room := { frames := 7, cells := 1, slots := 6, locals := 132 }
theorem hd_L_gives : yL_gives.cls ≠ "java/lang/invoke/MethodHandle" ∧ yL_gives.cls ≠ "java/lang/invoke/VarHandle" ∧ (parseMethodDescriptor yL_gives.desc).map (fun d => d.parameters.length) = some 3 := by decide +kernel
set_option maxHeartbeats 4000000 in
set_option maxRecDepth 100000 in
theorem c_L_gives (l : Launch) (hl9 : l.stackTraces = false) (D : va_G) (cy : Nat → ClassId) (h0 gma sna hia ka ora cha tra ena opa foa ua : Nat) (gm : k_G8) (sn : k_G8) (hs : Int32) (qs : k_Q4) (k0 : k_G8) (k1 : k_G8) (k2 : k_G8) (k3 : k_G8) (ch : Nat → Int32) (o : k_O5) (tr : k_G8) (es : Int32) (op : Nat → Int32) (fo : Nat → Int32) (has : Int32) (out : Nat → Int64) (n1 : Int32) (r : Int32 × (Nat → Int64)) (hf : f_L_gives n1 gm out = some r) : k_LMet l yL_gives wsL_gives rm_L_gives D (k_tys cy) [.ref h0, .int n1, .ref ua] (wX7 cy h0 gma sna hia ka ora cha tra ena opa foa gm sn hs qs k0 k1 k2 k3 ch o tr es op fo has ++ [wL cy ua out]) (some (.int r.1)) (wX7 cy h0 gma sna hia ka ora cha tra ena opa foa gm sn hs qs k0 k1 k2 k3 ch o tr es op fo has ++ [wL cy ua r.2]) := by
  refine k_lawOf (cc := cL_gives) (maxL := 4) (ret := (some .int)) (hh := [(0, 9, 12, 13), (0, 9, 15, 15)]) (by decide) rfl (Nat.le_of_ble_eq_true rfl) ?_
  intro p e s m args below meth c ls A hx hb hr hlocks hml hown hts hl hA hK hP hD hN hT hZ hCx hTab
  have hl : lv_has ls 4 [(0, .ref h0), (1, .int n1), (2, .ref ua)] := hl
  have hS : va_S A s.heap s.heap [] := va_S.rf
  unfold f_L_gives at hf
  obtain ⟨H, eH⟩ : ∃ H, H = s.heap := ⟨_, rfl⟩
  obtain ⟨locs, elocs⟩ : ∃ L : List Loc, L = [] := ⟨_, rfl⟩
  have hP : va_P D vwCl (wX7 cy h0 gma sna hia ka ora cha tra ena opa foa gm sn hs qs k0 k1 k2 k3 ch o tr es op fo has ++ [wL cy ua out]) H := by rw [eH]; exact hP
  have hS : va_S A s.heap H locs := by rw [eH, elocs]; exact hS
  refine k_here eH elocs ?_
  refine lv_aload_n hx hb dL_gives_0 rfl (lv_at hl 2 rfl) ?_
  refine lv_iconst (v := 0) hx hb dL_gives_1 (by decide) ?_
  refine lv_aload_n hx hb dL_gives_2 rfl (lv_at hl 0 rfl) ?_
  refine lv_iload_n hx hb dL_gives_3 rfl (lv_at hl 1 rfl) ?_
  obtain ⟨v1, hv1, hf⟩ := k_B hf
  refine k_callXV (As := [.int n1]) (rest := [.int 0, .ref ua]) (r := (RX7, TX7, 6)) (ci := 4) (q0 := 0) (isC := [0, 1, 2, 3, 4, 5, 6, 7, 8, 9, 10, 11, 12, 13, 14]) (isR := [15]) (perm := [1, 2, 3, 4, 5, 6, 7, 8, 9, 10, 11, 12, 13, 14, 15, 0]) ⟨hx, hb, hml, hown, hts⟩ (c_X7_gives l hl9 D cy h0 gma sna hia ka ora cha tra ena opa foa gm sn hs qs k0 k1 k2 k3 ch o tr es op fo has n1 v1 hv1) (cwV 1 hts gL_gives_X7_gives rfl rfl rfl hd_X7_gives ⟨Nat.le_of_ble_eq_true rfl, Nat.le_of_ble_eq_true rfl⟩) hK hN hT hZ hP hD hS hA rfl rfl rfl rfl rfl rfl (by decide) rfl rfl hl.1 rfl (Nat.le_of_ble_eq_true rfl) dL_gives_4 ⟨Nat.le_of_ble_eq_true rfl, Nat.le_of_ble_eq_true rfl⟩ (fun q eq H locs hW1 hS => ?_) (fun E eE ce q9 H locs hW1 hS hce hcv hcl => ?_)
  · rcases v1 with v1 | v1
    · obtain rfl := k_smL eq
      obtain ⟨hP, hD⟩ := hW1 (wX7 cy h0 gma sna hia ka ora cha tra ena opa foa gm sn hs qs k0 k1 k2 k3 ch o tr es op fo has ++ [wL cy ua out]) rfl
      have hf := k_inl hf
      refine lv_i2l hx hb dL_gives_7 rfl ?_
      refine va_last hx hb hK hP hD hS 15 3 rfl rfl (k_in (i := 0) (n := 1) (by decide +kernel)) dL_gives_8 (fun H locs hP hD hS => ?_)
      obtain ⟨w2, ew2, hf⟩ := k_L hf
      have hP : va_P D vwCl (wX7 cy h0 gma sna hia ka ora cha tra ena opa foa gm sn hs qs k0 k1 k2 k3 ch o tr es op fo has ++ [wL cy ua w2]) H := by rw [ew2]; exact hP
      have hD : va_D A (wX7 cy h0 gma sna hia ka ora cha tra ena opa foa gm sn hs qs k0 k1 k2 k3 ch o tr es op fo has ++ [wL cy ua w2]) := by rw [ew2]; exact hD
      refine lv_goto (tgt := 18) hx hb dL_gives_9 (by decide) ?_
      refine lv_iconst (v := 0) hx hb dL_gives_18 (by decide) ?_
      obtain rfl := k_some hf
      exact k_liret hx hb hr hP hD hS dL_gives_19 hlocks
    · exact (k_smX eq).elim
  · rcases v1 with v1 | v1
    · exact (k_smY eE).elim
    · obtain rfl := k_smR eE
      have hf := k_inr hf
      by_cases c4 : v1 = "java/lang/IllegalArgumentException"
      · have hf := k_T c4 hf
        obtain ⟨hP, hD⟩ := hW1 (wX7 cy h0 gma sna hia ka ora cha tra ena opa foa gm sn hs qs k0 k1 k2 k3 ch o tr es op fo has ++ [wL cy ua out]) rfl
        have hcl : s.vm.findClass "java/lang/IllegalArgumentException" = some ce.cls := by rw [← c4]; exact hcl
        refine vx_catch (own := RL) (name := "java/lang/IllegalArgumentException") (E := "java/lang/IllegalArgumentException") hown [] ⟨0, 9, 12, 13⟩ [⟨0, 9, 15, 15⟩] (by rw [hTab]; rfl) (fun z hz => nomatch hz) (by decide) (by decide) (hts (.classLink RL 13 "java/lang/IllegalArgumentException") (by decide +kernel)) (va_Nw.use rfl (hT.1 (.castable "java/lang/IllegalArgumentException" "java/lang/IllegalArgumentException") (by decide +kernel))) hce hcv hcl ?_
        refine lv_astore_n (lv' := [(3, .ref q9), (0, .ref h0), (1, .int n1), (2, .ref ua)]) hx hb dL_gives_12 rfl hl (by decide) rfl (fun ls hl => ?_)
        refine lv_iconst (v := 1) hx hb dL_gives_13 (by decide) ?_
        obtain rfl := k_some hf
        exact k_liret hx hb hr hP hD hS dL_gives_14 hlocks
      · have hf := k_F c4 hf
        by_cases c3 : v1 = "java/lang/IllegalStateException"
        · have hf := k_T c3 hf
          obtain ⟨hP, hD⟩ := hW1 (wX7 cy h0 gma sna hia ka ora cha tra ena opa foa gm sn hs qs k0 k1 k2 k3 ch o tr es op fo has ++ [wL cy ua out]) rfl
          have hcl : s.vm.findClass "java/lang/IllegalStateException" = some ce.cls := by rw [← c3]; exact hcl
          have hpass : ∀ z ∈ ([⟨0, 9, 12, 13⟩] : List ExceptionTableEntry), covers z 4 = false ∨ (z.catchType ≠ 0 ∧ ∃ nm : String, (Cond.classLink RL z.catchType nm).before args s = true ∧ va_Nc "java/lang/IllegalStateException" nm s) := by
            intro z hz
            rcases List.mem_cons.mp hz with rfl | hz
            · exact Or.inr ⟨by decide, "java/lang/IllegalArgumentException", hts (.classLink RL 13 "java/lang/IllegalArgumentException") (by decide +kernel), hCx ("java/lang/IllegalStateException", "java/lang/IllegalArgumentException") (by decide +kernel)⟩
            cases hz
          refine vx_catch (own := RL) (name := "java/lang/IllegalStateException") (E := "java/lang/IllegalStateException") hown [⟨0, 9, 12, 13⟩] ⟨0, 9, 15, 15⟩ [] (by rw [hTab]; rfl) hpass (by decide) (by decide) (hts (.classLink RL 15 "java/lang/IllegalStateException") (by decide +kernel)) (va_Nw.use rfl (hT.1 (.castable "java/lang/IllegalStateException" "java/lang/IllegalStateException") (by decide +kernel))) hce hcv hcl ?_
          refine lv_astore_n (lv' := [(3, .ref q9), (0, .ref h0), (1, .int n1), (2, .ref ua)]) hx hb dL_gives_15 rfl hl (by decide) rfl (fun ls hl => ?_)
          refine lv_iconst (v := 2) hx hb dL_gives_16 (by decide) ?_
          obtain rfl := k_some hf
          exact k_liret hx hb hr hP hD hS dL_gives_17 hlocks
        · have hf := k_F c3 hf
          cases hf
def f_L_leastSacrifice (gm : k_G8) (out : Nat → Int64) : Option (Int32 × (Nat → Int64)) :=
  (f_X7_leastSacrifice gm).bind fun v1 =>
  Sum.elim (fun v1 =>
    k_let (vp_updL out 0 v1.toInt64) fun w2 =>
    some (0, w2)
  ) (fun v1 =>
    if v1 = "java/util/NoSuchElementException" then
      some (1, out)
    else
      none
  ) v1
abbrev rm_L_leastSacrifice : Room := { frames := 7, cells := 1, slots := 6, locals := 156 }
theorem hd_L_leastSacrifice : yL_leastSacrifice.cls ≠ "java/lang/invoke/MethodHandle" ∧ yL_leastSacrifice.cls ≠ "java/lang/invoke/VarHandle" ∧ (parseMethodDescriptor yL_leastSacrifice.desc).map (fun d => d.parameters.length) = some 2 := by decide +kernel
set_option maxHeartbeats 4000000 in
set_option maxRecDepth 100000 in
theorem c_L_leastSacrifice (l : Launch) (hl9 : l.stackTraces = false) (D : va_G) (cy : Nat → ClassId) (h0 gma sna hia ka ora cha tra ena opa foa ua : Nat) (gm : k_G8) (sn : k_G8) (hs : Int32) (qs : k_Q4) (k0 : k_G8) (k1 : k_G8) (k2 : k_G8) (k3 : k_G8) (ch : Nat → Int32) (o : k_O5) (tr : k_G8) (es : Int32) (op : Nat → Int32) (fo : Nat → Int32) (has : Int32) (out : Nat → Int64)  (r : Int32 × (Nat → Int64)) (hf : f_L_leastSacrifice gm out = some r) : k_LMet l yL_leastSacrifice wsL_leastSacrifice rm_L_leastSacrifice D (k_tys cy) [.ref h0, .ref ua] (wX7 cy h0 gma sna hia ka ora cha tra ena opa foa gm sn hs qs k0 k1 k2 k3 ch o tr es op fo has ++ [wL cy ua out]) (some (.int r.1)) (wX7 cy h0 gma sna hia ka ora cha tra ena opa foa gm sn hs qs k0 k1 k2 k3 ch o tr es op fo has ++ [wL cy ua r.2]) := by
  refine k_lawOf (cc := cL_leastSacrifice) (maxL := 3) (ret := (some .int)) (hh := [(0, 8, 11, 27)]) (by decide) rfl (Nat.le_of_ble_eq_true rfl) ?_
  intro p e s m args below meth c ls A hx hb hr hlocks hml hown hts hl hA hK hP hD hN hT hZ hCx hTab
  have hl : lv_has ls 3 [(0, .ref h0), (1, .ref ua)] := hl
  have hS : va_S A s.heap s.heap [] := va_S.rf
  unfold f_L_leastSacrifice at hf
  obtain ⟨H, eH⟩ : ∃ H, H = s.heap := ⟨_, rfl⟩
  obtain ⟨locs, elocs⟩ : ∃ L : List Loc, L = [] := ⟨_, rfl⟩
  have hP : va_P D vwCl (wX7 cy h0 gma sna hia ka ora cha tra ena opa foa gm sn hs qs k0 k1 k2 k3 ch o tr es op fo has ++ [wL cy ua out]) H := by rw [eH]; exact hP
  have hS : va_S A s.heap H locs := by rw [eH, elocs]; exact hS
  refine k_here eH elocs ?_
  refine lv_aload_n hx hb dL_leastSacrifice_0 rfl (lv_at hl 1 rfl) ?_
  refine lv_iconst (v := 0) hx hb dL_leastSacrifice_1 (by decide) ?_
  refine lv_aload_n hx hb dL_leastSacrifice_2 rfl (lv_at hl 0 rfl) ?_
  obtain ⟨v1, hv1, hf⟩ := k_B hf
  refine k_callXV (As := []) (rest := [.int 0, .ref ua]) (r := (RX7, TX7, 6)) (ci := 4) (q0 := 0) (isC := [0, 1, 2, 3, 4, 5, 6, 7, 8, 9, 10, 11, 12, 13, 14]) (isR := [15]) (perm := [1, 2, 3, 4, 5, 6, 7, 8, 9, 10, 11, 12, 13, 14, 15, 0]) ⟨hx, hb, hml, hown, hts⟩ (c_X7_leastSacrifice l hl9 D cy h0 gma sna hia ka ora cha tra ena opa foa gm sn hs qs k0 k1 k2 k3 ch o tr es op fo has  v1 hv1) (cwV 0 hts gL_leastSacrifice_X7_leastSacrifice rfl rfl rfl hd_X7_leastSacrifice ⟨Nat.le_of_ble_eq_true rfl, Nat.le_of_ble_eq_true rfl⟩) hK hN hT hZ hP hD hS hA rfl rfl rfl rfl rfl rfl (by decide) rfl rfl hl.1 rfl (Nat.le_of_ble_eq_true rfl) dL_leastSacrifice_3 ⟨Nat.le_of_ble_eq_true rfl, Nat.le_of_ble_eq_true rfl⟩ (fun q eq H locs hW1 hS => ?_) (fun E eE ce q9 H locs hW1 hS hce hcv hcl => ?_)
  · rcases v1 with v1 | v1
    · obtain rfl := k_smL eq
      obtain ⟨hP, hD⟩ := hW1 (wX7 cy h0 gma sna hia ka ora cha tra ena opa foa gm sn hs qs k0 k1 k2 k3 ch o tr es op fo has ++ [wL cy ua out]) rfl
      have hf := k_inl hf
      refine lv_i2l hx hb dL_leastSacrifice_6 rfl ?_
      refine va_last hx hb hK hP hD hS 15 3 rfl rfl (k_in (i := 0) (n := 1) (by decide +kernel)) dL_leastSacrifice_7 (fun H locs hP hD hS => ?_)
      obtain ⟨w2, ew2, hf⟩ := k_L hf
      have hP : va_P D vwCl (wX7 cy h0 gma sna hia ka ora cha tra ena opa foa gm sn hs qs k0 k1 k2 k3 ch o tr es op fo has ++ [wL cy ua w2]) H := by rw [ew2]; exact hP
      have hD : va_D A (wX7 cy h0 gma sna hia ka ora cha tra ena opa foa gm sn hs qs k0 k1 k2 k3 ch o tr es op fo has ++ [wL cy ua w2]) := by rw [ew2]; exact hD
      refine lv_goto (tgt := 14) hx hb dL_leastSacrifice_8 (by decide) ?_
      refine lv_iconst (v := 0) hx hb dL_leastSacrifice_14 (by decide) ?_
      obtain rfl := k_some hf
      exact k_liret hx hb hr hP hD hS dL_leastSacrifice_15 hlocks
    · exact (k_smX eq).elim
  · rcases v1 with v1 | v1
    · exact (k_smY eE).elim
    · obtain rfl := k_smR eE
      have hf := k_inr hf
      by_cases c3 : v1 = "java/util/NoSuchElementException"
      · have hf := k_T c3 hf
        obtain ⟨hP, hD⟩ := hW1 (wX7 cy h0 gma sna hia ka ora cha tra ena opa foa gm sn hs qs k0 k1 k2 k3 ch o tr es op fo has ++ [wL cy ua out]) rfl
        have hcl : s.vm.findClass "java/util/NoSuchElementException" = some ce.cls := by rw [← c3]; exact hcl
        refine vx_catch (own := RL) (name := "java/util/NoSuchElementException") (E := "java/util/NoSuchElementException") hown [] ⟨0, 8, 11, 27⟩ [] (by rw [hTab]; rfl) (fun z hz => nomatch hz) (by decide) (by decide) (hts (.classLink RL 27 "java/util/NoSuchElementException") (by decide +kernel)) (va_Nw.use rfl (hT.1 (.castable "java/util/NoSuchElementException" "java/util/NoSuchElementException") (by decide +kernel))) hce hcv hcl ?_
        refine lv_astore_n (lv' := [(2, .ref q9), (0, .ref h0), (1, .ref ua)]) hx hb dL_leastSacrifice_11 rfl hl (by decide) rfl (fun ls hl => ?_)
        refine lv_iconst (v := 1) hx hb dL_leastSacrifice_12 (by decide) ?_
        obtain rfl := k_some hf
        exact k_liret hx hb hr hP hD hS dL_leastSacrifice_13 hlocks
      · have hf := k_F c3 hf
        cases hf
def f_L_chainOf (n1 : Int32) (gm : k_G8) (out : Nat → Int64) : Option (Int32 × (Nat → Int64)) :=
  (f_X7_chainOf n1 gm).bind fun v1 =>
  Sum.elim (fun v1 =>
    k_let (vp_updL out 0 v1.toInt64) fun w2 =>
    some (0, w2)
  ) (fun v1 =>
    if v1 = "java/lang/IllegalArgumentException" then
      some (1, out)
    else
      if v1 = "java/util/NoSuchElementException" then
        some (2, out)
      else
        none
  ) v1
abbrev rm_L_chainOf : Room := { frames := 7, cells := 1, slots := 6, locals := 116 }
theorem hd_L_chainOf : yL_chainOf.cls ≠ "java/lang/invoke/MethodHandle" ∧ yL_chainOf.cls ≠ "java/lang/invoke/VarHandle" ∧ (parseMethodDescriptor yL_chainOf.desc).map (fun d => d.parameters.length) = some 3 := by decide +kernel
set_option maxHeartbeats 4000000 in
set_option maxRecDepth 100000 in
theorem c_L_chainOf (l : Launch) (hl9 : l.stackTraces = false) (D : va_G) (cy : Nat → ClassId) (h0 gma sna hia ka ora cha tra ena opa foa ua : Nat) (gm : k_G8) (sn : k_G8) (hs : Int32) (qs : k_Q4) (k0 : k_G8) (k1 : k_G8) (k2 : k_G8) (k3 : k_G8) (ch : Nat → Int32) (o : k_O5) (tr : k_G8) (es : Int32) (op : Nat → Int32) (fo : Nat → Int32) (has : Int32) (out : Nat → Int64) (n1 : Int32) (r : Int32 × (Nat → Int64)) (hf : f_L_chainOf n1 gm out = some r) : k_LMet l yL_chainOf wsL_chainOf rm_L_chainOf D (k_tys cy) [.ref h0, .int n1, .ref ua] (wX7 cy h0 gma sna hia ka ora cha tra ena opa foa gm sn hs qs k0 k1 k2 k3 ch o tr es op fo has ++ [wL cy ua out]) (some (.int r.1)) (wX7 cy h0 gma sna hia ka ora cha tra ena opa foa gm sn hs qs k0 k1 k2 k3 ch o tr es op fo has ++ [wL cy ua r.2]) := by
  refine k_lawOf (cc := cL_chainOf) (maxL := 4) (ret := (some .int)) (hh := [(0, 9, 12, 13), (0, 9, 15, 27)]) (by decide) rfl (Nat.le_of_ble_eq_true rfl) ?_
  intro p e s m args below meth c ls A hx hb hr hlocks hml hown hts hl hA hK hP hD hN hT hZ hCx hTab
  have hl : lv_has ls 4 [(0, .ref h0), (1, .int n1), (2, .ref ua)] := hl
  have hS : va_S A s.heap s.heap [] := va_S.rf
  unfold f_L_chainOf at hf
  obtain ⟨H, eH⟩ : ∃ H, H = s.heap := ⟨_, rfl⟩
  obtain ⟨locs, elocs⟩ : ∃ L : List Loc, L = [] := ⟨_, rfl⟩
  have hP : va_P D vwCl (wX7 cy h0 gma sna hia ka ora cha tra ena opa foa gm sn hs qs k0 k1 k2 k3 ch o tr es op fo has ++ [wL cy ua out]) H := by rw [eH]; exact hP
  have hS : va_S A s.heap H locs := by rw [eH, elocs]; exact hS
  refine k_here eH elocs ?_
  refine lv_aload_n hx hb dL_chainOf_0 rfl (lv_at hl 2 rfl) ?_
  refine lv_iconst (v := 0) hx hb dL_chainOf_1 (by decide) ?_
  refine lv_aload_n hx hb dL_chainOf_2 rfl (lv_at hl 0 rfl) ?_
  refine lv_iload_n hx hb dL_chainOf_3 rfl (lv_at hl 1 rfl) ?_
  obtain ⟨v1, hv1, hf⟩ := k_B hf
  refine k_callXV (As := [.int n1]) (rest := [.int 0, .ref ua]) (r := (RX7, TX7, 6)) (ci := 4) (q0 := 0) (isC := [0, 1, 2, 3, 4, 5, 6, 7, 8, 9, 10, 11, 12, 13, 14]) (isR := [15]) (perm := [1, 2, 3, 4, 5, 6, 7, 8, 9, 10, 11, 12, 13, 14, 15, 0]) ⟨hx, hb, hml, hown, hts⟩ (c_X7_chainOf l hl9 D cy h0 gma sna hia ka ora cha tra ena opa foa gm sn hs qs k0 k1 k2 k3 ch o tr es op fo has n1 v1 hv1) (cwV 1 hts gL_chainOf_X7_chainOf rfl rfl rfl hd_X7_chainOf ⟨Nat.le_of_ble_eq_true rfl, Nat.le_of_ble_eq_true rfl⟩) hK hN hT hZ hP hD hS hA rfl rfl rfl rfl rfl rfl (by decide) rfl rfl hl.1 rfl (Nat.le_of_ble_eq_true rfl) dL_chainOf_4 ⟨Nat.le_of_ble_eq_true rfl, Nat.le_of_ble_eq_true rfl⟩ (fun q eq H locs hW1 hS => ?_) (fun E eE ce q9 H locs hW1 hS hce hcv hcl => ?_)
  · rcases v1 with v1 | v1
    · obtain rfl := k_smL eq
      obtain ⟨hP, hD⟩ := hW1 (wX7 cy h0 gma sna hia ka ora cha tra ena opa foa gm sn hs qs k0 k1 k2 k3 ch o tr es op fo has ++ [wL cy ua out]) rfl
      have hf := k_inl hf
      refine lv_i2l hx hb dL_chainOf_7 rfl ?_
      refine va_last hx hb hK hP hD hS 15 3 rfl rfl (k_in (i := 0) (n := 1) (by decide +kernel)) dL_chainOf_8 (fun H locs hP hD hS => ?_)
      obtain ⟨w2, ew2, hf⟩ := k_L hf
      have hP : va_P D vwCl (wX7 cy h0 gma sna hia ka ora cha tra ena opa foa gm sn hs qs k0 k1 k2 k3 ch o tr es op fo has ++ [wL cy ua w2]) H := by rw [ew2]; exact hP
      have hD : va_D A (wX7 cy h0 gma sna hia ka ora cha tra ena opa foa gm sn hs qs k0 k1 k2 k3 ch o tr es op fo has ++ [wL cy ua w2]) := by rw [ew2]; exact hD
      refine lv_goto (tgt := 18) hx hb dL_chainOf_9 (by decide) ?_
      refine lv_iconst (v := 0) hx hb dL_chainOf_18 (by decide) ?_
      obtain rfl := k_some hf
      exact k_liret hx hb hr hP hD hS dL_chainOf_19 hlocks
    · exact (k_smX eq).elim
  · rcases v1 with v1 | v1
    · exact (k_smY eE).elim
    · obtain rfl := k_smR eE
      have hf := k_inr hf
      by_cases c4 : v1 = "java/lang/IllegalArgumentException"
      · have hf := k_T c4 hf
        obtain ⟨hP, hD⟩ := hW1 (wX7 cy h0 gma sna hia ka ora cha tra ena opa foa gm sn hs qs k0 k1 k2 k3 ch o tr es op fo has ++ [wL cy ua out]) rfl
        have hcl : s.vm.findClass "java/lang/IllegalArgumentException" = some ce.cls := by rw [← c4]; exact hcl
        refine vx_catch (own := RL) (name := "java/lang/IllegalArgumentException") (E := "java/lang/IllegalArgumentException") hown [] ⟨0, 9, 12, 13⟩ [⟨0, 9, 15, 27⟩] (by rw [hTab]; rfl) (fun z hz => nomatch hz) (by decide) (by decide) (hts (.classLink RL 13 "java/lang/IllegalArgumentException") (by decide +kernel)) (va_Nw.use rfl (hT.1 (.castable "java/lang/IllegalArgumentException" "java/lang/IllegalArgumentException") (by decide +kernel))) hce hcv hcl ?_
        refine lv_astore_n (lv' := [(3, .ref q9), (0, .ref h0), (1, .int n1), (2, .ref ua)]) hx hb dL_chainOf_12 rfl hl (by decide) rfl (fun ls hl => ?_)
        refine lv_iconst (v := 1) hx hb dL_chainOf_13 (by decide) ?_
        obtain rfl := k_some hf
        exact k_liret hx hb hr hP hD hS dL_chainOf_14 hlocks
      · have hf := k_F c4 hf
        by_cases c3 : v1 = "java/util/NoSuchElementException"
        · have hf := k_T c3 hf
          obtain ⟨hP, hD⟩ := hW1 (wX7 cy h0 gma sna hia ka ora cha tra ena opa foa gm sn hs qs k0 k1 k2 k3 ch o tr es op fo has ++ [wL cy ua out]) rfl
          have hcl : s.vm.findClass "java/util/NoSuchElementException" = some ce.cls := by rw [← c3]; exact hcl
          have hpass : ∀ z ∈ ([⟨0, 9, 12, 13⟩] : List ExceptionTableEntry), covers z 4 = false ∨ (z.catchType ≠ 0 ∧ ∃ nm : String, (Cond.classLink RL z.catchType nm).before args s = true ∧ va_Nc "java/util/NoSuchElementException" nm s) := by
            intro z hz
            rcases List.mem_cons.mp hz with rfl | hz
            · exact Or.inr ⟨by decide, "java/lang/IllegalArgumentException", hts (.classLink RL 13 "java/lang/IllegalArgumentException") (by decide +kernel), hCx ("java/util/NoSuchElementException", "java/lang/IllegalArgumentException") (by decide +kernel)⟩
            cases hz
          refine vx_catch (own := RL) (name := "java/util/NoSuchElementException") (E := "java/util/NoSuchElementException") hown [⟨0, 9, 12, 13⟩] ⟨0, 9, 15, 27⟩ [] (by rw [hTab]; rfl) hpass (by decide) (by decide) (hts (.classLink RL 27 "java/util/NoSuchElementException") (by decide +kernel)) (va_Nw.use rfl (hT.1 (.castable "java/util/NoSuchElementException" "java/util/NoSuchElementException") (by decide +kernel))) hce hcv hcl ?_
          refine lv_astore_n (lv' := [(3, .ref q9), (0, .ref h0), (1, .int n1), (2, .ref ua)]) hx hb dL_chainOf_15 rfl hl (by decide) rfl (fun ls hl => ?_)
          refine lv_iconst (v := 2) hx hb dL_chainOf_16 (by decide) ?_
          obtain rfl := k_some hf
          exact k_liret hx hb hr hP hD hS dL_chainOf_17 hlocks
        · have hf := k_F c3 hf
          cases hf
def f_L_endDifference (gm : k_G8) (es : Int32) (op : Nat → Int32) (fo : Nat → Int32) (out : Nat → Int64) : Option (Int32 × Int32 × (Nat → Int32) × (Nat → Int32) × (Nat → Int64)) :=
  (f_X7_endDifference gm es op fo).bind fun v1 =>
  Sum.elim (fun v1 =>
    k_let (vp_updL out 0 v1.1.toInt64) fun w2 =>
    some (0, v1.2.1, v1.2.2.1, v1.2.2.2, w2)
  ) (fun v1 =>
    if v1.1 = "java/util/NoSuchElementException" then
      some (1, v1.2.1, v1.2.2.1, v1.2.2.2, out)
    else
      none
  ) v1
abbrev rm_L_endDifference : Room := { frames := 7, cells := 1, slots := 6, locals := 157 }
theorem hd_L_endDifference : yL_endDifference.cls ≠ "java/lang/invoke/MethodHandle" ∧ yL_endDifference.cls ≠ "java/lang/invoke/VarHandle" ∧ (parseMethodDescriptor yL_endDifference.desc).map (fun d => d.parameters.length) = some 2 := by decide +kernel
set_option maxHeartbeats 4000000 in
set_option maxRecDepth 100000 in
theorem c_L_endDifference (l : Launch) (hl9 : l.stackTraces = false) (D : va_G) (cy : Nat → ClassId) (h0 gma sna hia ka ora cha tra ena opa foa ua : Nat) (gm : k_G8) (sn : k_G8) (hs : Int32) (qs : k_Q4) (k0 : k_G8) (k1 : k_G8) (k2 : k_G8) (k3 : k_G8) (ch : Nat → Int32) (o : k_O5) (tr : k_G8) (es : Int32) (op : Nat → Int32) (fo : Nat → Int32) (has : Int32) (out : Nat → Int64)  (r : Int32 × Int32 × (Nat → Int32) × (Nat → Int32) × (Nat → Int64)) (hf : f_L_endDifference gm es op fo out = some r) : k_LMet l yL_endDifference wsL_endDifference rm_L_endDifference D (k_tys cy) [.ref h0, .ref ua] (wX7 cy h0 gma sna hia ka ora cha tra ena opa foa gm sn hs qs k0 k1 k2 k3 ch o tr es op fo has ++ [wL cy ua out]) (some (.int r.1)) (wX7 cy h0 gma sna hia ka ora cha tra ena opa foa gm sn hs qs k0 k1 k2 k3 ch o tr r.2.1 r.2.2.1 r.2.2.2.1 has ++ [wL cy ua r.2.2.2.2]) := by
  refine k_lawOf (cc := cL_endDifference) (maxL := 3) (ret := (some .int)) (hh := [(0, 8, 11, 27)]) (by decide) rfl (Nat.le_of_ble_eq_true rfl) ?_
  intro p e s m args below meth c ls A hx hb hr hlocks hml hown hts hl hA hK hP hD hN hT hZ hCx hTab
  have hl : lv_has ls 3 [(0, .ref h0), (1, .ref ua)] := hl
  have hS : va_S A s.heap s.heap [] := va_S.rf
  unfold f_L_endDifference at hf
  obtain ⟨H, eH⟩ : ∃ H, H = s.heap := ⟨_, rfl⟩
  obtain ⟨locs, elocs⟩ : ∃ L : List Loc, L = [] := ⟨_, rfl⟩
  have hP : va_P D vwCl (wX7 cy h0 gma sna hia ka ora cha tra ena opa foa gm sn hs qs k0 k1 k2 k3 ch o tr es op fo has ++ [wL cy ua out]) H := by rw [eH]; exact hP
  have hS : va_S A s.heap H locs := by rw [eH, elocs]; exact hS
  refine k_here eH elocs ?_
  refine lv_aload_n hx hb dL_endDifference_0 rfl (lv_at hl 1 rfl) ?_
  refine lv_iconst (v := 0) hx hb dL_endDifference_1 (by decide) ?_
  refine lv_aload_n hx hb dL_endDifference_2 rfl (lv_at hl 0 rfl) ?_
  obtain ⟨v1, hv1, hf⟩ := k_B hf
  refine k_callXV (As := []) (rest := [.int 0, .ref ua]) (r := (RX7, TX7, 6)) (ci := 4) (q0 := 0) (isC := [0, 1, 2, 3, 4, 5, 6, 7, 8, 9, 10, 11, 12, 13, 14]) (isR := [15]) (perm := [1, 2, 3, 4, 5, 6, 7, 8, 9, 10, 11, 12, 13, 14, 15, 0]) ⟨hx, hb, hml, hown, hts⟩ (c_X7_endDifference l hl9 D cy h0 gma sna hia ka ora cha tra ena opa foa gm sn hs qs k0 k1 k2 k3 ch o tr es op fo has  v1 hv1) (cwV 0 hts gL_endDifference_X7_endDifference rfl rfl rfl hd_X7_endDifference ⟨Nat.le_of_ble_eq_true rfl, Nat.le_of_ble_eq_true rfl⟩) hK hN hT hZ hP hD hS hA rfl rfl rfl rfl rfl rfl (by decide) rfl rfl hl.1 rfl (Nat.le_of_ble_eq_true rfl) dL_endDifference_3 ⟨Nat.le_of_ble_eq_true rfl, Nat.le_of_ble_eq_true rfl⟩ (fun q eq H locs hW1 hS => ?_) (fun E eE ce q9 H locs hW1 hS hce hcv hcl => ?_)
  · rcases v1 with v1 | v1
    · obtain rfl := k_smL eq
      obtain ⟨hP, hD⟩ := hW1 (wX7 cy h0 gma sna hia ka ora cha tra ena opa foa gm sn hs qs k0 k1 k2 k3 ch o tr v1.2.1 v1.2.2.1 v1.2.2.2 has ++ [wL cy ua out]) rfl
      have hf := k_inl hf
      refine lv_i2l hx hb dL_endDifference_6 rfl ?_
      refine va_last hx hb hK hP hD hS 15 3 rfl rfl (k_in (i := 0) (n := 1) (by decide +kernel)) dL_endDifference_7 (fun H locs hP hD hS => ?_)
      obtain ⟨w2, ew2, hf⟩ := k_L hf
      have hP : va_P D vwCl (wX7 cy h0 gma sna hia ka ora cha tra ena opa foa gm sn hs qs k0 k1 k2 k3 ch o tr v1.2.1 v1.2.2.1 v1.2.2.2 has ++ [wL cy ua w2]) H := by rw [ew2]; exact hP
      have hD : va_D A (wX7 cy h0 gma sna hia ka ora cha tra ena opa foa gm sn hs qs k0 k1 k2 k3 ch o tr v1.2.1 v1.2.2.1 v1.2.2.2 has ++ [wL cy ua w2]) := by rw [ew2]; exact hD
      refine lv_goto (tgt := 14) hx hb dL_endDifference_8 (by decide) ?_
      refine lv_iconst (v := 0) hx hb dL_endDifference_14 (by decide) ?_
      obtain rfl := k_some hf
      exact k_liret hx hb hr hP hD hS dL_endDifference_15 hlocks
    · exact (k_smX eq).elim
  · rcases v1 with v1 | v1
    · exact (k_smY eE).elim
    · obtain rfl := k_smR eE
      have hf := k_inr hf
      by_cases c3 : v1.1 = "java/util/NoSuchElementException"
      · have hf := k_T c3 hf
        obtain ⟨hP, hD⟩ := hW1 (wX7 cy h0 gma sna hia ka ora cha tra ena opa foa gm sn hs qs k0 k1 k2 k3 ch o tr v1.2.1 v1.2.2.1 v1.2.2.2 has ++ [wL cy ua out]) rfl
        have hcl : s.vm.findClass "java/util/NoSuchElementException" = some ce.cls := by rw [← c3]; exact hcl
        refine vx_catch (own := RL) (name := "java/util/NoSuchElementException") (E := "java/util/NoSuchElementException") hown [] ⟨0, 8, 11, 27⟩ [] (by rw [hTab]; rfl) (fun z hz => nomatch hz) (by decide) (by decide) (hts (.classLink RL 27 "java/util/NoSuchElementException") (by decide +kernel)) (va_Nw.use rfl (hT.1 (.castable "java/util/NoSuchElementException" "java/util/NoSuchElementException") (by decide +kernel))) hce hcv hcl ?_
        refine lv_astore_n (lv' := [(2, .ref q9), (0, .ref h0), (1, .ref ua)]) hx hb dL_endDifference_11 rfl hl (by decide) rfl (fun ls hl => ?_)
        refine lv_iconst (v := 1) hx hb dL_endDifference_12 (by decide) ?_
        obtain rfl := k_some hf
        exact k_liret hx hb hr hP hD hS dL_endDifference_13 hlocks
      · have hf := k_F c3 hf
        cases hf
def f_L_endByTrying (gm : k_G8) (out : Nat → Int64) : Option (Int32 × (Nat → Int64)) :=
  (f_X7_endByTrying gm).bind fun v1 =>
  Sum.elim (fun v1 =>
    k_let (vp_updL out 0 v1.toInt64) fun w2 =>
    some (0, w2)
  ) (fun v1 =>
    if v1 = "java/util/NoSuchElementException" then
      some (1, out)
    else
      none
  ) v1
abbrev rm_L_endByTrying : Room := { frames := 16, cells := 1, slots := 6, locals := 479 }
theorem hd_L_endByTrying : yL_endByTrying.cls ≠ "java/lang/invoke/MethodHandle" ∧ yL_endByTrying.cls ≠ "java/lang/invoke/VarHandle" ∧ (parseMethodDescriptor yL_endByTrying.desc).map (fun d => d.parameters.length) = some 2 := by decide +kernel
set_option maxHeartbeats 4000000 in
set_option maxRecDepth 100000 in
theorem c_L_endByTrying (l : Launch) (hl9 : l.stackTraces = false) (D : va_G) (cy : Nat → ClassId) (h0 gma sna hia ka ora cha tra ena opa foa ua : Nat) (gm : k_G8) (sn : k_G8) (hs : Int32) (qs : k_Q4) (k0 : k_G8) (k1 : k_G8) (k2 : k_G8) (k3 : k_G8) (ch : Nat → Int32) (o : k_O5) (tr : k_G8) (es : Int32) (op : Nat → Int32) (fo : Nat → Int32) (has : Int32) (out : Nat → Int64)  (r : Int32 × (Nat → Int64)) (hf : f_L_endByTrying gm out = some r) : k_LMet l yL_endByTrying wsL_endByTrying rm_L_endByTrying D (k_tys cy) [.ref h0, .ref ua] (wX7 cy h0 gma sna hia ka ora cha tra ena opa foa gm sn hs qs k0 k1 k2 k3 ch o tr es op fo has ++ [wL cy ua out]) (some (.int r.1)) (wX7 cy h0 gma sna hia ka ora cha tra ena opa foa gm sn hs qs k0 k1 k2 k3 ch o tr es op fo has ++ [wL cy ua r.2]) := by
  refine k_lawOf (cc := cL_endByTrying) (maxL := 3) (ret := (some .int)) (hh := [(0, 8, 11, 27)]) (by decide) rfl (Nat.le_of_ble_eq_true rfl) ?_
  intro p e s m args below meth c ls A hx hb hr hlocks hml hown hts hl hA hK hP hD hN hT hZ hCx hTab
  have hl : lv_has ls 3 [(0, .ref h0), (1, .ref ua)] := hl
  have hS : va_S A s.heap s.heap [] := va_S.rf
  unfold f_L_endByTrying at hf
  obtain ⟨H, eH⟩ : ∃ H, H = s.heap := ⟨_, rfl⟩
  obtain ⟨locs, elocs⟩ : ∃ L : List Loc, L = [] := ⟨_, rfl⟩
  have hP : va_P D vwCl (wX7 cy h0 gma sna hia ka ora cha tra ena opa foa gm sn hs qs k0 k1 k2 k3 ch o tr es op fo has ++ [wL cy ua out]) H := by rw [eH]; exact hP
  have hS : va_S A s.heap H locs := by rw [eH, elocs]; exact hS
  refine k_here eH elocs ?_
  refine lv_aload_n hx hb dL_endByTrying_0 rfl (lv_at hl 1 rfl) ?_
  refine lv_iconst (v := 0) hx hb dL_endByTrying_1 (by decide) ?_
  refine lv_aload_n hx hb dL_endByTrying_2 rfl (lv_at hl 0 rfl) ?_
  obtain ⟨v1, hv1, hf⟩ := k_B hf
  refine k_callXV (As := []) (rest := [.int 0, .ref ua]) (r := (RX7, TX7, 6)) (ci := 4) (q0 := 0) (isC := [0, 1, 2, 3, 4, 5, 6, 7, 8, 9, 10, 11, 12, 13, 14]) (isR := [15]) (perm := [1, 2, 3, 4, 5, 6, 7, 8, 9, 10, 11, 12, 13, 14, 15, 0]) ⟨hx, hb, hml, hown, hts⟩ (c_X7_endByTrying l hl9 D cy h0 gma sna hia ka ora cha tra ena opa foa gm sn hs qs k0 k1 k2 k3 ch o tr es op fo has  v1 hv1) (cwV 0 hts gL_endByTrying_X7_endByTrying rfl rfl rfl hd_X7_endByTrying ⟨Nat.le_of_ble_eq_true rfl, Nat.le_of_ble_eq_true rfl⟩) hK hN hT hZ hP hD hS hA rfl rfl rfl rfl rfl rfl (by decide) rfl rfl hl.1 rfl (Nat.le_of_ble_eq_true rfl) dL_endByTrying_3 ⟨Nat.le_of_ble_eq_true rfl, Nat.le_of_ble_eq_true rfl⟩ (fun q eq H locs hW1 hS => ?_) (fun E eE ce q9 H locs hW1 hS hce hcv hcl => ?_)
  · rcases v1 with v1 | v1
    · obtain rfl := k_smL eq
      obtain ⟨hP, hD⟩ := hW1 (wX7 cy h0 gma sna hia ka ora cha tra ena opa foa gm sn hs qs k0 k1 k2 k3 ch o tr es op fo has ++ [wL cy ua out]) rfl
      have hf := k_inl hf
      refine lv_i2l hx hb dL_endByTrying_6 rfl ?_
      refine va_last hx hb hK hP hD hS 15 3 rfl rfl (k_in (i := 0) (n := 1) (by decide +kernel)) dL_endByTrying_7 (fun H locs hP hD hS => ?_)
      obtain ⟨w2, ew2, hf⟩ := k_L hf
      have hP : va_P D vwCl (wX7 cy h0 gma sna hia ka ora cha tra ena opa foa gm sn hs qs k0 k1 k2 k3 ch o tr es op fo has ++ [wL cy ua w2]) H := by rw [ew2]; exact hP
      have hD : va_D A (wX7 cy h0 gma sna hia ka ora cha tra ena opa foa gm sn hs qs k0 k1 k2 k3 ch o tr es op fo has ++ [wL cy ua w2]) := by rw [ew2]; exact hD
      refine lv_goto (tgt := 14) hx hb dL_endByTrying_8 (by decide) ?_
      refine lv_iconst (v := 0) hx hb dL_endByTrying_14 (by decide) ?_
      obtain rfl := k_some hf
      exact k_liret hx hb hr hP hD hS dL_endByTrying_15 hlocks
    · exact (k_smX eq).elim
  · rcases v1 with v1 | v1
    · exact (k_smY eE).elim
    · obtain rfl := k_smR eE
      have hf := k_inr hf
      by_cases c3 : v1 = "java/util/NoSuchElementException"
      · have hf := k_T c3 hf
        obtain ⟨hP, hD⟩ := hW1 (wX7 cy h0 gma sna hia ka ora cha tra ena opa foa gm sn hs qs k0 k1 k2 k3 ch o tr es op fo has ++ [wL cy ua out]) rfl
        have hcl : s.vm.findClass "java/util/NoSuchElementException" = some ce.cls := by rw [← c3]; exact hcl
        refine vx_catch (own := RL) (name := "java/util/NoSuchElementException") (E := "java/util/NoSuchElementException") hown [] ⟨0, 8, 11, 27⟩ [] (by rw [hTab]; rfl) (fun z hz => nomatch hz) (by decide) (by decide) (hts (.classLink RL 27 "java/util/NoSuchElementException") (by decide +kernel)) (va_Nw.use rfl (hT.1 (.castable "java/util/NoSuchElementException" "java/util/NoSuchElementException") (by decide +kernel))) hce hcv hcl ?_
        refine lv_astore_n (lv' := [(2, .ref q9), (0, .ref h0), (1, .ref ua)]) hx hb dL_endByTrying_11 rfl hl (by decide) rfl (fun ls hl => ?_)
        refine lv_iconst (v := 1) hx hb dL_endByTrying_12 (by decide) ?_
        obtain rfl := k_some hf
        exact k_liret hx hb hr hP hD hS dL_endByTrying_13 hlocks
      · have hf := k_F c3 hf
        cases hf
def f_L_bestFence (gm : k_G8) (es : Int32) (op : Nat → Int32) (fo : Nat → Int32) (out : Nat → Int64) : Option (Int32 × Int32 × (Nat → Int32) × (Nat → Int32) × (Nat → Int64)) :=
  (f_X7_bestFence gm es op fo).bind fun v1 =>
  Sum.elim (fun v1 =>
    k_let (vp_updL out 0 v1.1.toInt64) fun w2 =>
    some (0, v1.2.1, v1.2.2.1, v1.2.2.2, w2)
  ) (fun v1 =>
    if v1.1 = "java/util/NoSuchElementException" then
      some (1, v1.2.1, v1.2.2.1, v1.2.2.2, out)
    else
      none
  ) v1
abbrev rm_L_bestFence : Room := { frames := 7, cells := 1, slots := 6, locals := 157 }
theorem hd_L_bestFence : yL_bestFence.cls ≠ "java/lang/invoke/MethodHandle" ∧ yL_bestFence.cls ≠ "java/lang/invoke/VarHandle" ∧ (parseMethodDescriptor yL_bestFence.desc).map (fun d => d.parameters.length) = some 2 := by decide +kernel
set_option maxHeartbeats 4000000 in
set_option maxRecDepth 100000 in
theorem c_L_bestFence (l : Launch) (hl9 : l.stackTraces = false) (D : va_G) (cy : Nat → ClassId) (h0 gma sna hia ka ora cha tra ena opa foa ua : Nat) (gm : k_G8) (sn : k_G8) (hs : Int32) (qs : k_Q4) (k0 : k_G8) (k1 : k_G8) (k2 : k_G8) (k3 : k_G8) (ch : Nat → Int32) (o : k_O5) (tr : k_G8) (es : Int32) (op : Nat → Int32) (fo : Nat → Int32) (has : Int32) (out : Nat → Int64)  (r : Int32 × Int32 × (Nat → Int32) × (Nat → Int32) × (Nat → Int64)) (hf : f_L_bestFence gm es op fo out = some r) : k_LMet l yL_bestFence wsL_bestFence rm_L_bestFence D (k_tys cy) [.ref h0, .ref ua] (wX7 cy h0 gma sna hia ka ora cha tra ena opa foa gm sn hs qs k0 k1 k2 k3 ch o tr es op fo has ++ [wL cy ua out]) (some (.int r.1)) (wX7 cy h0 gma sna hia ka ora cha tra ena opa foa gm sn hs qs k0 k1 k2 k3 ch o tr r.2.1 r.2.2.1 r.2.2.2.1 has ++ [wL cy ua r.2.2.2.2]) := by
  refine k_lawOf (cc := cL_bestFence) (maxL := 3) (ret := (some .int)) (hh := [(0, 8, 11, 27)]) (by decide) rfl (Nat.le_of_ble_eq_true rfl) ?_
  intro p e s m args below meth c ls A hx hb hr hlocks hml hown hts hl hA hK hP hD hN hT hZ hCx hTab
  have hl : lv_has ls 3 [(0, .ref h0), (1, .ref ua)] := hl
  have hS : va_S A s.heap s.heap [] := va_S.rf
  unfold f_L_bestFence at hf
  obtain ⟨H, eH⟩ : ∃ H, H = s.heap := ⟨_, rfl⟩
  obtain ⟨locs, elocs⟩ : ∃ L : List Loc, L = [] := ⟨_, rfl⟩
  have hP : va_P D vwCl (wX7 cy h0 gma sna hia ka ora cha tra ena opa foa gm sn hs qs k0 k1 k2 k3 ch o tr es op fo has ++ [wL cy ua out]) H := by rw [eH]; exact hP
  have hS : va_S A s.heap H locs := by rw [eH, elocs]; exact hS
  refine k_here eH elocs ?_
  refine lv_aload_n hx hb dL_bestFence_0 rfl (lv_at hl 1 rfl) ?_
  refine lv_iconst (v := 0) hx hb dL_bestFence_1 (by decide) ?_
  refine lv_aload_n hx hb dL_bestFence_2 rfl (lv_at hl 0 rfl) ?_
  obtain ⟨v1, hv1, hf⟩ := k_B hf
  refine k_callXV (As := []) (rest := [.int 0, .ref ua]) (r := (RX7, TX7, 6)) (ci := 4) (q0 := 0) (isC := [0, 1, 2, 3, 4, 5, 6, 7, 8, 9, 10, 11, 12, 13, 14]) (isR := [15]) (perm := [1, 2, 3, 4, 5, 6, 7, 8, 9, 10, 11, 12, 13, 14, 15, 0]) ⟨hx, hb, hml, hown, hts⟩ (c_X7_bestFence l hl9 D cy h0 gma sna hia ka ora cha tra ena opa foa gm sn hs qs k0 k1 k2 k3 ch o tr es op fo has  v1 hv1) (cwV 0 hts gL_bestFence_X7_bestFence rfl rfl rfl hd_X7_bestFence ⟨Nat.le_of_ble_eq_true rfl, Nat.le_of_ble_eq_true rfl⟩) hK hN hT hZ hP hD hS hA rfl rfl rfl rfl rfl rfl (by decide) rfl rfl hl.1 rfl (Nat.le_of_ble_eq_true rfl) dL_bestFence_3 ⟨Nat.le_of_ble_eq_true rfl, Nat.le_of_ble_eq_true rfl⟩ (fun q eq H locs hW1 hS => ?_) (fun E eE ce q9 H locs hW1 hS hce hcv hcl => ?_)
  · rcases v1 with v1 | v1
    · obtain rfl := k_smL eq
      obtain ⟨hP, hD⟩ := hW1 (wX7 cy h0 gma sna hia ka ora cha tra ena opa foa gm sn hs qs k0 k1 k2 k3 ch o tr v1.2.1 v1.2.2.1 v1.2.2.2 has ++ [wL cy ua out]) rfl
      have hf := k_inl hf
      refine lv_i2l hx hb dL_bestFence_6 rfl ?_
      refine va_last hx hb hK hP hD hS 15 3 rfl rfl (k_in (i := 0) (n := 1) (by decide +kernel)) dL_bestFence_7 (fun H locs hP hD hS => ?_)
      obtain ⟨w2, ew2, hf⟩ := k_L hf
      have hP : va_P D vwCl (wX7 cy h0 gma sna hia ka ora cha tra ena opa foa gm sn hs qs k0 k1 k2 k3 ch o tr v1.2.1 v1.2.2.1 v1.2.2.2 has ++ [wL cy ua w2]) H := by rw [ew2]; exact hP
      have hD : va_D A (wX7 cy h0 gma sna hia ka ora cha tra ena opa foa gm sn hs qs k0 k1 k2 k3 ch o tr v1.2.1 v1.2.2.1 v1.2.2.2 has ++ [wL cy ua w2]) := by rw [ew2]; exact hD
      refine lv_goto (tgt := 14) hx hb dL_bestFence_8 (by decide) ?_
      refine lv_iconst (v := 0) hx hb dL_bestFence_14 (by decide) ?_
      obtain rfl := k_some hf
      exact k_liret hx hb hr hP hD hS dL_bestFence_15 hlocks
    · exact (k_smX eq).elim
  · rcases v1 with v1 | v1
    · exact (k_smY eE).elim
    · obtain rfl := k_smR eE
      have hf := k_inr hf
      by_cases c3 : v1.1 = "java/util/NoSuchElementException"
      · have hf := k_T c3 hf
        obtain ⟨hP, hD⟩ := hW1 (wX7 cy h0 gma sna hia ka ora cha tra ena opa foa gm sn hs qs k0 k1 k2 k3 ch o tr v1.2.1 v1.2.2.1 v1.2.2.2 has ++ [wL cy ua out]) rfl
        have hcl : s.vm.findClass "java/util/NoSuchElementException" = some ce.cls := by rw [← c3]; exact hcl
        refine vx_catch (own := RL) (name := "java/util/NoSuchElementException") (E := "java/util/NoSuchElementException") hown [] ⟨0, 8, 11, 27⟩ [] (by rw [hTab]; rfl) (fun z hz => nomatch hz) (by decide) (by decide) (hts (.classLink RL 27 "java/util/NoSuchElementException") (by decide +kernel)) (va_Nw.use rfl (hT.1 (.castable "java/util/NoSuchElementException" "java/util/NoSuchElementException") (by decide +kernel))) hce hcv hcl ?_
        refine lv_astore_n (lv' := [(2, .ref q9), (0, .ref h0), (1, .ref ua)]) hx hb dL_bestFence_11 rfl hl (by decide) rfl (fun ls hl => ?_)
        refine lv_iconst (v := 1) hx hb dL_bestFence_12 (by decide) ?_
        obtain rfl := k_some hf
        exact k_liret hx hb hr hP hD hS dL_bestFence_13 hlocks
      · have hf := k_F c3 hf
        cases hf
def f_L_won (n1 : Int32) (gm : k_G8) (out : Nat → Int64) : Option (Int32 × (Nat → Int64)) :=
  (f_X7_won n1 gm).bind fun v1 =>
  Sum.elim (fun v1 =>
    k_let (vp_updL out 0 v1.toInt64) fun w2 =>
    some (0, w2)
  ) (fun v1 =>
    if v1 = "java/lang/IllegalArgumentException" then
      some (1, out)
    else
      none
  ) v1
abbrev rm_L_won : Room := { frames := 7, cells := 1, slots := 6, locals := 111 }
theorem hd_L_won : yL_won.cls ≠ "java/lang/invoke/MethodHandle" ∧ yL_won.cls ≠ "java/lang/invoke/VarHandle" ∧ (parseMethodDescriptor yL_won.desc).map (fun d => d.parameters.length) = some 3 := by decide +kernel
set_option maxHeartbeats 4000000 in
set_option maxRecDepth 100000 in
theorem c_L_won (l : Launch) (hl9 : l.stackTraces = false) (D : va_G) (cy : Nat → ClassId) (h0 gma sna hia ka ora cha tra ena opa foa ua : Nat) (gm : k_G8) (sn : k_G8) (hs : Int32) (qs : k_Q4) (k0 : k_G8) (k1 : k_G8) (k2 : k_G8) (k3 : k_G8) (ch : Nat → Int32) (o : k_O5) (tr : k_G8) (es : Int32) (op : Nat → Int32) (fo : Nat → Int32) (has : Int32) (out : Nat → Int64) (n1 : Int32) (r : Int32 × (Nat → Int64)) (hf : f_L_won n1 gm out = some r) : k_LMet l yL_won wsL_won rm_L_won D (k_tys cy) [.ref h0, .int n1, .ref ua] (wX7 cy h0 gma sna hia ka ora cha tra ena opa foa gm sn hs qs k0 k1 k2 k3 ch o tr es op fo has ++ [wL cy ua out]) (some (.int r.1)) (wX7 cy h0 gma sna hia ka ora cha tra ena opa foa gm sn hs qs k0 k1 k2 k3 ch o tr es op fo has ++ [wL cy ua r.2]) := by
  refine k_lawOf (cc := cL_won) (maxL := 4) (ret := (some .int)) (hh := [(0, 9, 12, 13)]) (by decide) rfl (Nat.le_of_ble_eq_true rfl) ?_
  intro p e s m args below meth c ls A hx hb hr hlocks hml hown hts hl hA hK hP hD hN hT hZ hCx hTab
  have hl : lv_has ls 4 [(0, .ref h0), (1, .int n1), (2, .ref ua)] := hl
  have hS : va_S A s.heap s.heap [] := va_S.rf
  unfold f_L_won at hf
  obtain ⟨H, eH⟩ : ∃ H, H = s.heap := ⟨_, rfl⟩
  obtain ⟨locs, elocs⟩ : ∃ L : List Loc, L = [] := ⟨_, rfl⟩
  have hP : va_P D vwCl (wX7 cy h0 gma sna hia ka ora cha tra ena opa foa gm sn hs qs k0 k1 k2 k3 ch o tr es op fo has ++ [wL cy ua out]) H := by rw [eH]; exact hP
  have hS : va_S A s.heap H locs := by rw [eH, elocs]; exact hS
  refine k_here eH elocs ?_
  refine lv_aload_n hx hb dL_won_0 rfl (lv_at hl 2 rfl) ?_
  refine lv_iconst (v := 0) hx hb dL_won_1 (by decide) ?_
  refine lv_aload_n hx hb dL_won_2 rfl (lv_at hl 0 rfl) ?_
  refine lv_iload_n hx hb dL_won_3 rfl (lv_at hl 1 rfl) ?_
  obtain ⟨v1, hv1, hf⟩ := k_B hf
  refine k_callXV (As := [.int n1]) (rest := [.int 0, .ref ua]) (r := (RX7, TX7, 6)) (ci := 4) (q0 := 0) (isC := [0, 1, 2, 3, 4, 5, 6, 7, 8, 9, 10, 11, 12, 13, 14]) (isR := [15]) (perm := [1, 2, 3, 4, 5, 6, 7, 8, 9, 10, 11, 12, 13, 14, 15, 0]) ⟨hx, hb, hml, hown, hts⟩ (c_X7_won l hl9 D cy h0 gma sna hia ka ora cha tra ena opa foa gm sn hs qs k0 k1 k2 k3 ch o tr es op fo has n1 v1 hv1) (cwV 1 hts gL_won_X7_won rfl rfl rfl hd_X7_won ⟨Nat.le_of_ble_eq_true rfl, Nat.le_of_ble_eq_true rfl⟩) hK hN hT hZ hP hD hS hA rfl rfl rfl rfl rfl rfl (by decide) rfl rfl hl.1 rfl (Nat.le_of_ble_eq_true rfl) dL_won_4 ⟨Nat.le_of_ble_eq_true rfl, Nat.le_of_ble_eq_true rfl⟩ (fun q eq H locs hW1 hS => ?_) (fun E eE ce q9 H locs hW1 hS hce hcv hcl => ?_)
  · rcases v1 with v1 | v1
    · obtain rfl := k_smL eq
      obtain ⟨hP, hD⟩ := hW1 (wX7 cy h0 gma sna hia ka ora cha tra ena opa foa gm sn hs qs k0 k1 k2 k3 ch o tr es op fo has ++ [wL cy ua out]) rfl
      have hf := k_inl hf
      refine lv_i2l hx hb dL_won_7 rfl ?_
      refine va_last hx hb hK hP hD hS 15 3 rfl rfl (k_in (i := 0) (n := 1) (by decide +kernel)) dL_won_8 (fun H locs hP hD hS => ?_)
      obtain ⟨w2, ew2, hf⟩ := k_L hf
      have hP : va_P D vwCl (wX7 cy h0 gma sna hia ka ora cha tra ena opa foa gm sn hs qs k0 k1 k2 k3 ch o tr es op fo has ++ [wL cy ua w2]) H := by rw [ew2]; exact hP
      have hD : va_D A (wX7 cy h0 gma sna hia ka ora cha tra ena opa foa gm sn hs qs k0 k1 k2 k3 ch o tr es op fo has ++ [wL cy ua w2]) := by rw [ew2]; exact hD
      refine lv_goto (tgt := 15) hx hb dL_won_9 (by decide) ?_
      refine lv_iconst (v := 0) hx hb dL_won_15 (by decide) ?_
      obtain rfl := k_some hf
      exact k_liret hx hb hr hP hD hS dL_won_16 hlocks
    · exact (k_smX eq).elim
  · rcases v1 with v1 | v1
    · exact (k_smY eE).elim
    · obtain rfl := k_smR eE
      have hf := k_inr hf
      by_cases c3 : v1 = "java/lang/IllegalArgumentException"
      · have hf := k_T c3 hf
        obtain ⟨hP, hD⟩ := hW1 (wX7 cy h0 gma sna hia ka ora cha tra ena opa foa gm sn hs qs k0 k1 k2 k3 ch o tr es op fo has ++ [wL cy ua out]) rfl
        have hcl : s.vm.findClass "java/lang/IllegalArgumentException" = some ce.cls := by rw [← c3]; exact hcl
        refine vx_catch (own := RL) (name := "java/lang/IllegalArgumentException") (E := "java/lang/IllegalArgumentException") hown [] ⟨0, 9, 12, 13⟩ [] (by rw [hTab]; rfl) (fun z hz => nomatch hz) (by decide) (by decide) (hts (.classLink RL 13 "java/lang/IllegalArgumentException") (by decide +kernel)) (va_Nw.use rfl (hT.1 (.castable "java/lang/IllegalArgumentException" "java/lang/IllegalArgumentException") (by decide +kernel))) hce hcv hcl ?_
        refine lv_astore_n (lv' := [(3, .ref q9), (0, .ref h0), (1, .int n1), (2, .ref ua)]) hx hb dL_won_12 rfl hl (by decide) rfl (fun ls hl => ?_)
        refine lv_iconst (v := 1) hx hb dL_won_13 (by decide) ?_
        obtain rfl := k_some hf
        exact k_liret hx hb hr hP hD hS dL_won_14 hlocks
      · have hf := k_F c3 hf
        cases hf
def f_L_goBack (gm : k_G8) (sn : k_G8) (hs : Int32) (qs : k_Q4) (k0 : k_G8) (k1 : k_G8) (k2 : k_G8) (k3 : k_G8) (has : Int32) (out : Nat → Int64) : Option (Int32 × k_G8 × Int32 × k_Q4 × k_G8 × k_G8 × k_G8 × k_G8 × (Nat → Int64)) :=
  (f_X7_goBack gm sn hs qs k0 k1 k2 k3 has).bind fun v1 =>
  Sum.elim (fun v1 =>
    k_let (vp_updL out 0 v1.1.toInt64) fun w2 =>
    some (0, v1.2.1, v1.2.2.1, v1.2.2.2.1, v1.2.2.2.2.1, v1.2.2.2.2.2.1, v1.2.2.2.2.2.2.1, v1.2.2.2.2.2.2.2, w2)
  ) (fun v1 =>
    if v1.1 = "java/lang/IllegalStateException" then
      some (1, v1.2.1, v1.2.2.1, v1.2.2.2.1, v1.2.2.2.2.1, v1.2.2.2.2.2.1, v1.2.2.2.2.2.2.1, v1.2.2.2.2.2.2.2, out)
    else
      none
  ) v1
abbrev rm_L_goBack : Room := { frames := 7, cells := 1, slots := 6, locals := 110 }
theorem hd_L_goBack : yL_goBack.cls ≠ "java/lang/invoke/MethodHandle" ∧ yL_goBack.cls ≠ "java/lang/invoke/VarHandle" ∧ (parseMethodDescriptor yL_goBack.desc).map (fun d => d.parameters.length) = some 2 := by decide +kernel
set_option maxHeartbeats 4000000 in
set_option maxRecDepth 100000 in
theorem c_L_goBack (l : Launch) (hl9 : l.stackTraces = false) (D : va_G) (cy : Nat → ClassId) (h0 gma sna hia ka ora cha tra ena opa foa ua : Nat) (gm : k_G8) (sn : k_G8) (hs : Int32) (qs : k_Q4) (k0 : k_G8) (k1 : k_G8) (k2 : k_G8) (k3 : k_G8) (ch : Nat → Int32) (o : k_O5) (tr : k_G8) (es : Int32) (op : Nat → Int32) (fo : Nat → Int32) (has : Int32) (out : Nat → Int64)  (r : Int32 × k_G8 × Int32 × k_Q4 × k_G8 × k_G8 × k_G8 × k_G8 × (Nat → Int64)) (hf : f_L_goBack gm sn hs qs k0 k1 k2 k3 has out = some r) : k_LMet l yL_goBack wsL_goBack rm_L_goBack D (k_tys cy) [.ref h0, .ref ua] (wX7 cy h0 gma sna hia ka ora cha tra ena opa foa gm sn hs qs k0 k1 k2 k3 ch o tr es op fo has ++ [wL cy ua out]) (some (.int r.1)) (wX7 cy h0 gma sna hia ka ora cha tra ena opa foa r.2.1 sn r.2.2.1 r.2.2.2.1 r.2.2.2.2.1 r.2.2.2.2.2.1 r.2.2.2.2.2.2.1 r.2.2.2.2.2.2.2.1 ch o tr es op fo has ++ [wL cy ua r.2.2.2.2.2.2.2.2]) := by
  refine k_lawOf (cc := cL_goBack) (maxL := 3) (ret := (some .int)) (hh := [(0, 8, 11, 15)]) (by decide) rfl (Nat.le_of_ble_eq_true rfl) ?_
  intro p e s m args below meth c ls A hx hb hr hlocks hml hown hts hl hA hK hP hD hN hT hZ hCx hTab
  have hl : lv_has ls 3 [(0, .ref h0), (1, .ref ua)] := hl
  have hS : va_S A s.heap s.heap [] := va_S.rf
  unfold f_L_goBack at hf
  obtain ⟨H, eH⟩ : ∃ H, H = s.heap := ⟨_, rfl⟩
  obtain ⟨locs, elocs⟩ : ∃ L : List Loc, L = [] := ⟨_, rfl⟩
  have hP : va_P D vwCl (wX7 cy h0 gma sna hia ka ora cha tra ena opa foa gm sn hs qs k0 k1 k2 k3 ch o tr es op fo has ++ [wL cy ua out]) H := by rw [eH]; exact hP
  have hS : va_S A s.heap H locs := by rw [eH, elocs]; exact hS
  refine k_here eH elocs ?_
  refine lv_aload_n hx hb dL_goBack_0 rfl (lv_at hl 1 rfl) ?_
  refine lv_iconst (v := 0) hx hb dL_goBack_1 (by decide) ?_
  refine lv_aload_n hx hb dL_goBack_2 rfl (lv_at hl 0 rfl) ?_
  obtain ⟨v1, hv1, hf⟩ := k_B hf
  refine k_callXV (As := []) (rest := [.int 0, .ref ua]) (r := (RX7, TX7, 6)) (ci := 4) (q0 := 0) (isC := [0, 1, 2, 3, 4, 5, 6, 7, 8, 9, 10, 11, 12, 13, 14]) (isR := [15]) (perm := [1, 2, 3, 4, 5, 6, 7, 8, 9, 10, 11, 12, 13, 14, 15, 0]) ⟨hx, hb, hml, hown, hts⟩ (c_X7_goBack l hl9 D cy h0 gma sna hia ka ora cha tra ena opa foa gm sn hs qs k0 k1 k2 k3 ch o tr es op fo has  v1 hv1) (cwV 0 hts gL_goBack_X7_goBack rfl rfl rfl hd_X7_goBack ⟨Nat.le_of_ble_eq_true rfl, Nat.le_of_ble_eq_true rfl⟩) hK hN hT hZ hP hD hS hA rfl rfl rfl rfl rfl rfl (by decide) rfl rfl hl.1 rfl (Nat.le_of_ble_eq_true rfl) dL_goBack_3 ⟨Nat.le_of_ble_eq_true rfl, Nat.le_of_ble_eq_true rfl⟩ (fun q eq H locs hW1 hS => ?_) (fun E eE ce q9 H locs hW1 hS hce hcv hcl => ?_)
  · rcases v1 with v1 | v1
    · obtain rfl := k_smL eq
      obtain ⟨hP, hD⟩ := hW1 (wX7 cy h0 gma sna hia ka ora cha tra ena opa foa v1.2.1 sn v1.2.2.1 v1.2.2.2.1 v1.2.2.2.2.1 v1.2.2.2.2.2.1 v1.2.2.2.2.2.2.1 v1.2.2.2.2.2.2.2 ch o tr es op fo has ++ [wL cy ua out]) rfl
      have hf := k_inl hf
      refine lv_i2l hx hb dL_goBack_6 rfl ?_
      refine va_last hx hb hK hP hD hS 15 3 rfl rfl (k_in (i := 0) (n := 1) (by decide +kernel)) dL_goBack_7 (fun H locs hP hD hS => ?_)
      obtain ⟨w2, ew2, hf⟩ := k_L hf
      have hP : va_P D vwCl (wX7 cy h0 gma sna hia ka ora cha tra ena opa foa v1.2.1 sn v1.2.2.1 v1.2.2.2.1 v1.2.2.2.2.1 v1.2.2.2.2.2.1 v1.2.2.2.2.2.2.1 v1.2.2.2.2.2.2.2 ch o tr es op fo has ++ [wL cy ua w2]) H := by rw [ew2]; exact hP
      have hD : va_D A (wX7 cy h0 gma sna hia ka ora cha tra ena opa foa v1.2.1 sn v1.2.2.1 v1.2.2.2.1 v1.2.2.2.2.1 v1.2.2.2.2.2.1 v1.2.2.2.2.2.2.1 v1.2.2.2.2.2.2.2 ch o tr es op fo has ++ [wL cy ua w2]) := by rw [ew2]; exact hD
      refine lv_goto (tgt := 14) hx hb dL_goBack_8 (by decide) ?_
      refine lv_iconst (v := 0) hx hb dL_goBack_14 (by decide) ?_
      obtain rfl := k_some hf
      exact k_liret hx hb hr hP hD hS dL_goBack_15 hlocks
    · exact (k_smX eq).elim
  · rcases v1 with v1 | v1
    · exact (k_smY eE).elim
    · obtain rfl := k_smR eE
      have hf := k_inr hf
      by_cases c3 : v1.1 = "java/lang/IllegalStateException"
      · have hf := k_T c3 hf
        obtain ⟨hP, hD⟩ := hW1 (wX7 cy h0 gma sna hia ka ora cha tra ena opa foa v1.2.1 sn v1.2.2.1 v1.2.2.2.1 v1.2.2.2.2.1 v1.2.2.2.2.2.1 v1.2.2.2.2.2.2.1 v1.2.2.2.2.2.2.2 ch o tr es op fo has ++ [wL cy ua out]) rfl
        have hcl : s.vm.findClass "java/lang/IllegalStateException" = some ce.cls := by rw [← c3]; exact hcl
        refine vx_catch (own := RL) (name := "java/lang/IllegalStateException") (E := "java/lang/IllegalStateException") hown [] ⟨0, 8, 11, 15⟩ [] (by rw [hTab]; rfl) (fun z hz => nomatch hz) (by decide) (by decide) (hts (.classLink RL 15 "java/lang/IllegalStateException") (by decide +kernel)) (va_Nw.use rfl (hT.1 (.castable "java/lang/IllegalStateException" "java/lang/IllegalStateException") (by decide +kernel))) hce hcv hcl ?_
        refine lv_astore_n (lv' := [(2, .ref q9), (0, .ref h0), (1, .ref ua)]) hx hb dL_goBack_11 rfl hl (by decide) rfl (fun ls hl => ?_)
        refine lv_iconst (v := 1) hx hb dL_goBack_12 (by decide) ?_
        obtain rfl := k_some hf
        exact k_liret hx hb hr hP hD hS dL_goBack_13 hlocks
      · have hf := k_F c3 hf
        cases hf
def f_L_undo (gm : k_G8) (hs : Int32) (k0 : k_G8) (k1 : k_G8) (k2 : k_G8) (k3 : k_G8) (out : Nat → Int64) : Option (Int32 × k_G8 × Int32 × (Nat → Int64)) :=
  (f_X7_undo gm hs k0 k1 k2 k3).bind fun v1 =>
  Sum.elim (fun v1 =>
    k_let (vp_updL out 0 v1.1.toInt64) fun w2 =>
    some (0, v1.2.1, v1.2.2, w2)
  ) (fun v1 =>
    if v1.1 = "java/lang/IllegalStateException" then
      some (1, v1.2.1, v1.2.2, out)
    else
      none
  ) v1
abbrev rm_L_undo : Room := { frames := 7, cells := 1, slots := 6, locals := 110 }
theorem hd_L_undo : yL_undo.cls ≠ "java/lang/invoke/MethodHandle" ∧ yL_undo.cls ≠ "java/lang/invoke/VarHandle" ∧ (parseMethodDescriptor yL_undo.desc).map (fun d => d.parameters.length) = some 2 := by decide +kernel
set_option maxHeartbeats 4000000 in
set_option maxRecDepth 100000 in
theorem c_L_undo (l : Launch) (hl9 : l.stackTraces = false) (D : va_G) (cy : Nat → ClassId) (h0 gma sna hia ka ora cha tra ena opa foa ua : Nat) (gm : k_G8) (sn : k_G8) (hs : Int32) (qs : k_Q4) (k0 : k_G8) (k1 : k_G8) (k2 : k_G8) (k3 : k_G8) (ch : Nat → Int32) (o : k_O5) (tr : k_G8) (es : Int32) (op : Nat → Int32) (fo : Nat → Int32) (has : Int32) (out : Nat → Int64)  (r : Int32 × k_G8 × Int32 × (Nat → Int64)) (hf : f_L_undo gm hs k0 k1 k2 k3 out = some r) : k_LMet l yL_undo wsL_undo rm_L_undo D (k_tys cy) [.ref h0, .ref ua] (wX7 cy h0 gma sna hia ka ora cha tra ena opa foa gm sn hs qs k0 k1 k2 k3 ch o tr es op fo has ++ [wL cy ua out]) (some (.int r.1)) (wX7 cy h0 gma sna hia ka ora cha tra ena opa foa r.2.1 sn r.2.2.1 qs k0 k1 k2 k3 ch o tr es op fo has ++ [wL cy ua r.2.2.2]) := by
  refine k_lawOf (cc := cL_undo) (maxL := 3) (ret := (some .int)) (hh := [(0, 8, 11, 15)]) (by decide) rfl (Nat.le_of_ble_eq_true rfl) ?_
  intro p e s m args below meth c ls A hx hb hr hlocks hml hown hts hl hA hK hP hD hN hT hZ hCx hTab
  have hl : lv_has ls 3 [(0, .ref h0), (1, .ref ua)] := hl
  have hS : va_S A s.heap s.heap [] := va_S.rf
  unfold f_L_undo at hf
  obtain ⟨H, eH⟩ : ∃ H, H = s.heap := ⟨_, rfl⟩
  obtain ⟨locs, elocs⟩ : ∃ L : List Loc, L = [] := ⟨_, rfl⟩
  have hP : va_P D vwCl (wX7 cy h0 gma sna hia ka ora cha tra ena opa foa gm sn hs qs k0 k1 k2 k3 ch o tr es op fo has ++ [wL cy ua out]) H := by rw [eH]; exact hP
  have hS : va_S A s.heap H locs := by rw [eH, elocs]; exact hS
  refine k_here eH elocs ?_
  refine lv_aload_n hx hb dL_undo_0 rfl (lv_at hl 1 rfl) ?_
  refine lv_iconst (v := 0) hx hb dL_undo_1 (by decide) ?_
  refine lv_aload_n hx hb dL_undo_2 rfl (lv_at hl 0 rfl) ?_
  obtain ⟨v1, hv1, hf⟩ := k_B hf
  refine k_callXV (As := []) (rest := [.int 0, .ref ua]) (r := (RX7, TX7, 6)) (ci := 4) (q0 := 0) (isC := [0, 1, 2, 3, 4, 5, 6, 7, 8, 9, 10, 11, 12, 13, 14]) (isR := [15]) (perm := [1, 2, 3, 4, 5, 6, 7, 8, 9, 10, 11, 12, 13, 14, 15, 0]) ⟨hx, hb, hml, hown, hts⟩ (c_X7_undo l hl9 D cy h0 gma sna hia ka ora cha tra ena opa foa gm sn hs qs k0 k1 k2 k3 ch o tr es op fo has  v1 hv1) (cwV 0 hts gL_undo_X7_undo rfl rfl rfl hd_X7_undo ⟨Nat.le_of_ble_eq_true rfl, Nat.le_of_ble_eq_true rfl⟩) hK hN hT hZ hP hD hS hA rfl rfl rfl rfl rfl rfl (by decide) rfl rfl hl.1 rfl (Nat.le_of_ble_eq_true rfl) dL_undo_3 ⟨Nat.le_of_ble_eq_true rfl, Nat.le_of_ble_eq_true rfl⟩ (fun q eq H locs hW1 hS => ?_) (fun E eE ce q9 H locs hW1 hS hce hcv hcl => ?_)
  · rcases v1 with v1 | v1
    · obtain rfl := k_smL eq
      obtain ⟨hP, hD⟩ := hW1 (wX7 cy h0 gma sna hia ka ora cha tra ena opa foa v1.2.1 sn v1.2.2 qs k0 k1 k2 k3 ch o tr es op fo has ++ [wL cy ua out]) rfl
      have hf := k_inl hf
      refine lv_i2l hx hb dL_undo_6 rfl ?_
      refine va_last hx hb hK hP hD hS 15 3 rfl rfl (k_in (i := 0) (n := 1) (by decide +kernel)) dL_undo_7 (fun H locs hP hD hS => ?_)
      obtain ⟨w2, ew2, hf⟩ := k_L hf
      have hP : va_P D vwCl (wX7 cy h0 gma sna hia ka ora cha tra ena opa foa v1.2.1 sn v1.2.2 qs k0 k1 k2 k3 ch o tr es op fo has ++ [wL cy ua w2]) H := by rw [ew2]; exact hP
      have hD : va_D A (wX7 cy h0 gma sna hia ka ora cha tra ena opa foa v1.2.1 sn v1.2.2 qs k0 k1 k2 k3 ch o tr es op fo has ++ [wL cy ua w2]) := by rw [ew2]; exact hD
      refine lv_goto (tgt := 14) hx hb dL_undo_8 (by decide) ?_
      refine lv_iconst (v := 0) hx hb dL_undo_14 (by decide) ?_
      obtain rfl := k_some hf
      exact k_liret hx hb hr hP hD hS dL_undo_15 hlocks
    · exact (k_smX eq).elim
  · rcases v1 with v1 | v1
    · exact (k_smY eE).elim
    · obtain rfl := k_smR eE
      have hf := k_inr hf
      by_cases c3 : v1.1 = "java/lang/IllegalStateException"
      · have hf := k_T c3 hf
        obtain ⟨hP, hD⟩ := hW1 (wX7 cy h0 gma sna hia ka ora cha tra ena opa foa v1.2.1 sn v1.2.2 qs k0 k1 k2 k3 ch o tr es op fo has ++ [wL cy ua out]) rfl
        have hcl : s.vm.findClass "java/lang/IllegalStateException" = some ce.cls := by rw [← c3]; exact hcl
        refine vx_catch (own := RL) (name := "java/lang/IllegalStateException") (E := "java/lang/IllegalStateException") hown [] ⟨0, 8, 11, 15⟩ [] (by rw [hTab]; rfl) (fun z hz => nomatch hz) (by decide) (by decide) (hts (.classLink RL 15 "java/lang/IllegalStateException") (by decide +kernel)) (va_Nw.use rfl (hT.1 (.castable "java/lang/IllegalStateException" "java/lang/IllegalStateException") (by decide +kernel))) hce hcv hcl ?_
        refine lv_astore_n (lv' := [(2, .ref q9), (0, .ref h0), (1, .ref ua)]) hx hb dL_undo_11 rfl hl (by decide) rfl (fun ls hl => ?_)
        refine lv_iconst (v := 1) hx hb dL_undo_12 (by decide) ?_
        obtain rfl := k_some hf
        exact k_liret hx hb hr hP hD hS dL_undo_13 hlocks
      · have hf := k_F c3 hf
        cases hf
def f_L_type (n1 : Int32) (ch : Nat → Int32) (o : k_O5) (out : Nat → Int64) : Option (Int32 × (Nat → Int32) × k_O5 × (Nat → Int64)) :=
  (f_X7_type n1 ch o).bind fun v1 =>
  Sum.elim (fun v1 =>
    k_let (vp_updL out 0 v1.1.toInt64) fun w2 =>
    some (0, v1.2.1, v1.2.2, w2)
  ) (fun v1 =>
    if v1.1 = "java/lang/IllegalArgumentException" then
      some (1, v1.2.1, v1.2.2, out)
    else
      if v1.1 = "java/lang/IllegalStateException" then
        some (2, v1.2.1, v1.2.2, out)
      else
        none
  ) v1
abbrev rm_L_type : Room := { frames := 7, cells := 1, slots := 6, locals := 111 }
theorem hd_L_type : yL_type.cls ≠ "java/lang/invoke/MethodHandle" ∧ yL_type.cls ≠ "java/lang/invoke/VarHandle" ∧ (parseMethodDescriptor yL_type.desc).map (fun d => d.parameters.length) = some 3 := by decide +kernel
set_option maxHeartbeats 4000000 in
set_option maxRecDepth 100000 in
theorem c_L_type (l : Launch) (hl9 : l.stackTraces = false) (D : va_G) (cy : Nat → ClassId) (h0 gma sna hia ka ora cha tra ena opa foa ua : Nat) (gm : k_G8) (sn : k_G8) (hs : Int32) (qs : k_Q4) (k0 : k_G8) (k1 : k_G8) (k2 : k_G8) (k3 : k_G8) (ch : Nat → Int32) (o : k_O5) (tr : k_G8) (es : Int32) (op : Nat → Int32) (fo : Nat → Int32) (has : Int32) (out : Nat → Int64) (n1 : Int32) (r : Int32 × (Nat → Int32) × k_O5 × (Nat → Int64)) (hf : f_L_type n1 ch o out = some r) : k_LMet l yL_type wsL_type rm_L_type D (k_tys cy) [.ref h0, .int n1, .ref ua] (wX7 cy h0 gma sna hia ka ora cha tra ena opa foa gm sn hs qs k0 k1 k2 k3 ch o tr es op fo has ++ [wL cy ua out]) (some (.int r.1)) (wX7 cy h0 gma sna hia ka ora cha tra ena opa foa gm sn hs qs k0 k1 k2 k3 r.2.1 r.2.2.1 tr es op fo has ++ [wL cy ua r.2.2.2]) := by
  refine k_lawOf (cc := cL_type) (maxL := 4) (ret := (some .int)) (hh := [(0, 9, 12, 13), (0, 9, 15, 15)]) (by decide) rfl (Nat.le_of_ble_eq_true rfl) ?_
  intro p e s m args below meth c ls A hx hb hr hlocks hml hown hts hl hA hK hP hD hN hT hZ hCx hTab
  have hl : lv_has ls 4 [(0, .ref h0), (1, .int n1), (2, .ref ua)] := hl
  have hS : va_S A s.heap s.heap [] := va_S.rf
  unfold f_L_type at hf
  obtain ⟨H, eH⟩ : ∃ H, H = s.heap := ⟨_, rfl⟩
  obtain ⟨locs, elocs⟩ : ∃ L : List Loc, L = [] := ⟨_, rfl⟩
  have hP : va_P D vwCl (wX7 cy h0 gma sna hia ka ora cha tra ena opa foa gm sn hs qs k0 k1 k2 k3 ch o tr es op fo has ++ [wL cy ua out]) H := by rw [eH]; exact hP
  have hS : va_S A s.heap H locs := by rw [eH, elocs]; exact hS
  refine k_here eH elocs ?_
  refine lv_aload_n hx hb dL_type_0 rfl (lv_at hl 2 rfl) ?_
  refine lv_iconst (v := 0) hx hb dL_type_1 (by decide) ?_
  refine lv_aload_n hx hb dL_type_2 rfl (lv_at hl 0 rfl) ?_
  refine lv_iload_n hx hb dL_type_3 rfl (lv_at hl 1 rfl) ?_
  obtain ⟨v1, hv1, hf⟩ := k_B hf
  refine k_callXV (As := [.int n1]) (rest := [.int 0, .ref ua]) (r := (RX7, TX7, 6)) (ci := 4) (q0 := 0) (isC := [0, 1, 2, 3, 4, 5, 6, 7, 8, 9, 10, 11, 12, 13, 14]) (isR := [15]) (perm := [1, 2, 3, 4, 5, 6, 7, 8, 9, 10, 11, 12, 13, 14, 15, 0]) ⟨hx, hb, hml, hown, hts⟩ (c_X7_type l hl9 D cy h0 gma sna hia ka ora cha tra ena opa foa gm sn hs qs k0 k1 k2 k3 ch o tr es op fo has n1 v1 hv1) (cwV 1 hts gL_type_X7_type rfl rfl rfl hd_X7_type ⟨Nat.le_of_ble_eq_true rfl, Nat.le_of_ble_eq_true rfl⟩) hK hN hT hZ hP hD hS hA rfl rfl rfl rfl rfl rfl (by decide) rfl rfl hl.1 rfl (Nat.le_of_ble_eq_true rfl) dL_type_4 ⟨Nat.le_of_ble_eq_true rfl, Nat.le_of_ble_eq_true rfl⟩ (fun q eq H locs hW1 hS => ?_) (fun E eE ce q9 H locs hW1 hS hce hcv hcl => ?_)
  · rcases v1 with v1 | v1
    · obtain rfl := k_smL eq
      obtain ⟨hP, hD⟩ := hW1 (wX7 cy h0 gma sna hia ka ora cha tra ena opa foa gm sn hs qs k0 k1 k2 k3 v1.2.1 v1.2.2 tr es op fo has ++ [wL cy ua out]) rfl
      have hf := k_inl hf
      refine lv_i2l hx hb dL_type_7 rfl ?_
      refine va_last hx hb hK hP hD hS 15 3 rfl rfl (k_in (i := 0) (n := 1) (by decide +kernel)) dL_type_8 (fun H locs hP hD hS => ?_)
      obtain ⟨w2, ew2, hf⟩ := k_L hf
      have hP : va_P D vwCl (wX7 cy h0 gma sna hia ka ora cha tra ena opa foa gm sn hs qs k0 k1 k2 k3 v1.2.1 v1.2.2 tr es op fo has ++ [wL cy ua w2]) H := by rw [ew2]; exact hP
      have hD : va_D A (wX7 cy h0 gma sna hia ka ora cha tra ena opa foa gm sn hs qs k0 k1 k2 k3 v1.2.1 v1.2.2 tr es op fo has ++ [wL cy ua w2]) := by rw [ew2]; exact hD
      refine lv_goto (tgt := 18) hx hb dL_type_9 (by decide) ?_
      refine lv_iconst (v := 0) hx hb dL_type_18 (by decide) ?_
      obtain rfl := k_some hf
      exact k_liret hx hb hr hP hD hS dL_type_19 hlocks
    · exact (k_smX eq).elim
  · rcases v1 with v1 | v1
    · exact (k_smY eE).elim
    · obtain rfl := k_smR eE
      have hf := k_inr hf
      by_cases c4 : v1.1 = "java/lang/IllegalArgumentException"
      · have hf := k_T c4 hf
        obtain ⟨hP, hD⟩ := hW1 (wX7 cy h0 gma sna hia ka ora cha tra ena opa foa gm sn hs qs k0 k1 k2 k3 v1.2.1 v1.2.2 tr es op fo has ++ [wL cy ua out]) rfl
        have hcl : s.vm.findClass "java/lang/IllegalArgumentException" = some ce.cls := by rw [← c4]; exact hcl
        refine vx_catch (own := RL) (name := "java/lang/IllegalArgumentException") (E := "java/lang/IllegalArgumentException") hown [] ⟨0, 9, 12, 13⟩ [⟨0, 9, 15, 15⟩] (by rw [hTab]; rfl) (fun z hz => nomatch hz) (by decide) (by decide) (hts (.classLink RL 13 "java/lang/IllegalArgumentException") (by decide +kernel)) (va_Nw.use rfl (hT.1 (.castable "java/lang/IllegalArgumentException" "java/lang/IllegalArgumentException") (by decide +kernel))) hce hcv hcl ?_
        refine lv_astore_n (lv' := [(3, .ref q9), (0, .ref h0), (1, .int n1), (2, .ref ua)]) hx hb dL_type_12 rfl hl (by decide) rfl (fun ls hl => ?_)
        refine lv_iconst (v := 1) hx hb dL_type_13 (by decide) ?_
        obtain rfl := k_some hf
        exact k_liret hx hb hr hP hD hS dL_type_14 hlocks
      · have hf := k_F c4 hf
        by_cases c3 : v1.1 = "java/lang/IllegalStateException"
        · have hf := k_T c3 hf
          obtain ⟨hP, hD⟩ := hW1 (wX7 cy h0 gma sna hia ka ora cha tra ena opa foa gm sn hs qs k0 k1 k2 k3 v1.2.1 v1.2.2 tr es op fo has ++ [wL cy ua out]) rfl
          have hcl : s.vm.findClass "java/lang/IllegalStateException" = some ce.cls := by rw [← c3]; exact hcl
          have hpass : ∀ z ∈ ([⟨0, 9, 12, 13⟩] : List ExceptionTableEntry), covers z 4 = false ∨ (z.catchType ≠ 0 ∧ ∃ nm : String, (Cond.classLink RL z.catchType nm).before args s = true ∧ va_Nc "java/lang/IllegalStateException" nm s) := by
            intro z hz
            rcases List.mem_cons.mp hz with rfl | hz
            · exact Or.inr ⟨by decide, "java/lang/IllegalArgumentException", hts (.classLink RL 13 "java/lang/IllegalArgumentException") (by decide +kernel), hCx ("java/lang/IllegalStateException", "java/lang/IllegalArgumentException") (by decide +kernel)⟩
            cases hz
          refine vx_catch (own := RL) (name := "java/lang/IllegalStateException") (E := "java/lang/IllegalStateException") hown [⟨0, 9, 12, 13⟩] ⟨0, 9, 15, 15⟩ [] (by rw [hTab]; rfl) hpass (by decide) (by decide) (hts (.classLink RL 15 "java/lang/IllegalStateException") (by decide +kernel)) (va_Nw.use rfl (hT.1 (.castable "java/lang/IllegalStateException" "java/lang/IllegalStateException") (by decide +kernel))) hce hcv hcl ?_
          refine lv_astore_n (lv' := [(3, .ref q9), (0, .ref h0), (1, .int n1), (2, .ref ua)]) hx hb dL_type_15 rfl hl (by decide) rfl (fun ls hl => ?_)
          refine lv_iconst (v := 2) hx hb dL_type_16 (by decide) ?_
          obtain rfl := k_some hf
          exact k_liret hx hb hr hP hD hS dL_type_17 hlocks
        · have hf := k_F c3 hf
          cases hf
def f_L_faultPosition (gm : k_G8) (ch : Nat → Int32) (o : k_O5) (tr : k_G8) (out : Nat → Int64) : Option (Int32 × k_O5 × k_G8 × (Nat → Int64)) :=
  (f_X7_faultPosition gm ch o tr).bind fun v1 =>
  Sum.elim (fun v1 =>
    k_let (vp_updL out 0 v1.1.toInt64) fun w2 =>
    some (0, v1.2.1, v1.2.2, w2)
  ) (fun v1 =>
    if v1.1 = "java/util/NoSuchElementException" then
      some (1, v1.2.1, v1.2.2, out)
    else
      none
  ) v1
abbrev rm_L_faultPosition : Room := { frames := 7, cells := 1, slots := 6, locals := 154 }
theorem hd_L_faultPosition : yL_faultPosition.cls ≠ "java/lang/invoke/MethodHandle" ∧ yL_faultPosition.cls ≠ "java/lang/invoke/VarHandle" ∧ (parseMethodDescriptor yL_faultPosition.desc).map (fun d => d.parameters.length) = some 2 := by decide +kernel
set_option maxHeartbeats 4000000 in
set_option maxRecDepth 100000 in
theorem c_L_faultPosition (l : Launch) (hl9 : l.stackTraces = false) (D : va_G) (cy : Nat → ClassId) (h0 gma sna hia ka ora cha tra ena opa foa ua : Nat) (gm : k_G8) (sn : k_G8) (hs : Int32) (qs : k_Q4) (k0 : k_G8) (k1 : k_G8) (k2 : k_G8) (k3 : k_G8) (ch : Nat → Int32) (o : k_O5) (tr : k_G8) (es : Int32) (op : Nat → Int32) (fo : Nat → Int32) (has : Int32) (out : Nat → Int64)  (r : Int32 × k_O5 × k_G8 × (Nat → Int64)) (hf : f_L_faultPosition gm ch o tr out = some r) : k_LMet l yL_faultPosition wsL_faultPosition rm_L_faultPosition D (k_tys cy) [.ref h0, .ref ua] (wX7 cy h0 gma sna hia ka ora cha tra ena opa foa gm sn hs qs k0 k1 k2 k3 ch o tr es op fo has ++ [wL cy ua out]) (some (.int r.1)) (wX7 cy h0 gma sna hia ka ora cha tra ena opa foa gm sn hs qs k0 k1 k2 k3 ch r.2.1 r.2.2.1 es op fo has ++ [wL cy ua r.2.2.2]) := by
  refine k_lawOf (cc := cL_faultPosition) (maxL := 3) (ret := (some .int)) (hh := [(0, 8, 11, 27)]) (by decide) rfl (Nat.le_of_ble_eq_true rfl) ?_
  intro p e s m args below meth c ls A hx hb hr hlocks hml hown hts hl hA hK hP hD hN hT hZ hCx hTab
  have hl : lv_has ls 3 [(0, .ref h0), (1, .ref ua)] := hl
  have hS : va_S A s.heap s.heap [] := va_S.rf
  unfold f_L_faultPosition at hf
  obtain ⟨H, eH⟩ : ∃ H, H = s.heap := ⟨_, rfl⟩
  obtain ⟨locs, elocs⟩ : ∃ L : List Loc, L = [] := ⟨_, rfl⟩
  have hP : va_P D vwCl (wX7 cy h0 gma sna hia ka ora cha tra ena opa foa gm sn hs qs k0 k1 k2 k3 ch o tr es op fo has ++ [wL cy ua out]) H := by rw [eH]; exact hP
  have hS : va_S A s.heap H locs := by rw [eH, elocs]; exact hS
  refine k_here eH elocs ?_
  refine lv_aload_n hx hb dL_faultPosition_0 rfl (lv_at hl 1 rfl) ?_
  refine lv_iconst (v := 0) hx hb dL_faultPosition_1 (by decide) ?_
  refine lv_aload_n hx hb dL_faultPosition_2 rfl (lv_at hl 0 rfl) ?_
  obtain ⟨v1, hv1, hf⟩ := k_B hf
  refine k_callXV (As := []) (rest := [.int 0, .ref ua]) (r := (RX7, TX7, 6)) (ci := 4) (q0 := 0) (isC := [0, 1, 2, 3, 4, 5, 6, 7, 8, 9, 10, 11, 12, 13, 14]) (isR := [15]) (perm := [1, 2, 3, 4, 5, 6, 7, 8, 9, 10, 11, 12, 13, 14, 15, 0]) ⟨hx, hb, hml, hown, hts⟩ (c_X7_faultPosition l hl9 D cy h0 gma sna hia ka ora cha tra ena opa foa gm sn hs qs k0 k1 k2 k3 ch o tr es op fo has  v1 hv1) (cwV 0 hts gL_faultPosition_X7_faultPosition rfl rfl rfl hd_X7_faultPosition ⟨Nat.le_of_ble_eq_true rfl, Nat.le_of_ble_eq_true rfl⟩) hK hN hT hZ hP hD hS hA rfl rfl rfl rfl rfl rfl (by decide) rfl rfl hl.1 rfl (Nat.le_of_ble_eq_true rfl) dL_faultPosition_3 ⟨Nat.le_of_ble_eq_true rfl, Nat.le_of_ble_eq_true rfl⟩ (fun q eq H locs hW1 hS => ?_) (fun E eE ce q9 H locs hW1 hS hce hcv hcl => ?_)
  · rcases v1 with v1 | v1
    · obtain rfl := k_smL eq
      obtain ⟨hP, hD⟩ := hW1 (wX7 cy h0 gma sna hia ka ora cha tra ena opa foa gm sn hs qs k0 k1 k2 k3 ch v1.2.1 v1.2.2 es op fo has ++ [wL cy ua out]) rfl
      have hf := k_inl hf
      refine lv_i2l hx hb dL_faultPosition_6 rfl ?_
      refine va_last hx hb hK hP hD hS 15 3 rfl rfl (k_in (i := 0) (n := 1) (by decide +kernel)) dL_faultPosition_7 (fun H locs hP hD hS => ?_)
      obtain ⟨w2, ew2, hf⟩ := k_L hf
      have hP : va_P D vwCl (wX7 cy h0 gma sna hia ka ora cha tra ena opa foa gm sn hs qs k0 k1 k2 k3 ch v1.2.1 v1.2.2 es op fo has ++ [wL cy ua w2]) H := by rw [ew2]; exact hP
      have hD : va_D A (wX7 cy h0 gma sna hia ka ora cha tra ena opa foa gm sn hs qs k0 k1 k2 k3 ch v1.2.1 v1.2.2 es op fo has ++ [wL cy ua w2]) := by rw [ew2]; exact hD
      refine lv_goto (tgt := 14) hx hb dL_faultPosition_8 (by decide) ?_
      refine lv_iconst (v := 0) hx hb dL_faultPosition_14 (by decide) ?_
      obtain rfl := k_some hf
      exact k_liret hx hb hr hP hD hS dL_faultPosition_15 hlocks
    · exact (k_smX eq).elim
  · rcases v1 with v1 | v1
    · exact (k_smY eE).elim
    · obtain rfl := k_smR eE
      have hf := k_inr hf
      by_cases c3 : v1.1 = "java/util/NoSuchElementException"
      · have hf := k_T c3 hf
        obtain ⟨hP, hD⟩ := hW1 (wX7 cy h0 gma sna hia ka ora cha tra ena opa foa gm sn hs qs k0 k1 k2 k3 ch v1.2.1 v1.2.2 es op fo has ++ [wL cy ua out]) rfl
        have hcl : s.vm.findClass "java/util/NoSuchElementException" = some ce.cls := by rw [← c3]; exact hcl
        refine vx_catch (own := RL) (name := "java/util/NoSuchElementException") (E := "java/util/NoSuchElementException") hown [] ⟨0, 8, 11, 27⟩ [] (by rw [hTab]; rfl) (fun z hz => nomatch hz) (by decide) (by decide) (hts (.classLink RL 27 "java/util/NoSuchElementException") (by decide +kernel)) (va_Nw.use rfl (hT.1 (.castable "java/util/NoSuchElementException" "java/util/NoSuchElementException") (by decide +kernel))) hce hcv hcl ?_
        refine lv_astore_n (lv' := [(2, .ref q9), (0, .ref h0), (1, .ref ua)]) hx hb dL_faultPosition_11 rfl hl (by decide) rfl (fun ls hl => ?_)
        refine lv_iconst (v := 1) hx hb dL_faultPosition_12 (by decide) ?_
        obtain rfl := k_some hf
        exact k_liret hx hb hr hP hD hS dL_faultPosition_13 hlocks
      · have hf := k_F c3 hf
        cases hf
def f_L_faultReason (gm : k_G8) (ch : Nat → Int32) (o : k_O5) (tr : k_G8) (out : Nat → Int64) : Option (Int32 × k_O5 × k_G8 × (Nat → Int64)) :=
  (f_X7_faultReason gm ch o tr).bind fun v1 =>
  Sum.elim (fun v1 =>
    k_let (vp_updL out 0 v1.1.toInt64) fun w2 =>
    some (0, v1.2.1, v1.2.2, w2)
  ) (fun v1 =>
    if v1.1 = "java/util/NoSuchElementException" then
      some (1, v1.2.1, v1.2.2, out)
    else
      none
  ) v1
abbrev rm_L_faultReason : Room := { frames := 7, cells := 1, slots := 6, locals := 154 }
theorem hd_L_faultReason : yL_faultReason.cls ≠ "java/lang/invoke/MethodHandle" ∧ yL_faultReason.cls ≠ "java/lang/invoke/VarHandle" ∧ (parseMethodDescriptor yL_faultReason.desc).map (fun d => d.parameters.length) = some 2 := by decide +kernel
set_option maxHeartbeats 4000000 in
set_option maxRecDepth 100000 in
theorem c_L_faultReason (l : Launch) (hl9 : l.stackTraces = false) (D : va_G) (cy : Nat → ClassId) (h0 gma sna hia ka ora cha tra ena opa foa ua : Nat) (gm : k_G8) (sn : k_G8) (hs : Int32) (qs : k_Q4) (k0 : k_G8) (k1 : k_G8) (k2 : k_G8) (k3 : k_G8) (ch : Nat → Int32) (o : k_O5) (tr : k_G8) (es : Int32) (op : Nat → Int32) (fo : Nat → Int32) (has : Int32) (out : Nat → Int64)  (r : Int32 × k_O5 × k_G8 × (Nat → Int64)) (hf : f_L_faultReason gm ch o tr out = some r) : k_LMet l yL_faultReason wsL_faultReason rm_L_faultReason D (k_tys cy) [.ref h0, .ref ua] (wX7 cy h0 gma sna hia ka ora cha tra ena opa foa gm sn hs qs k0 k1 k2 k3 ch o tr es op fo has ++ [wL cy ua out]) (some (.int r.1)) (wX7 cy h0 gma sna hia ka ora cha tra ena opa foa gm sn hs qs k0 k1 k2 k3 ch r.2.1 r.2.2.1 es op fo has ++ [wL cy ua r.2.2.2]) := by
  refine k_lawOf (cc := cL_faultReason) (maxL := 3) (ret := (some .int)) (hh := [(0, 8, 11, 27)]) (by decide) rfl (Nat.le_of_ble_eq_true rfl) ?_
  intro p e s m args below meth c ls A hx hb hr hlocks hml hown hts hl hA hK hP hD hN hT hZ hCx hTab
  have hl : lv_has ls 3 [(0, .ref h0), (1, .ref ua)] := hl
  have hS : va_S A s.heap s.heap [] := va_S.rf
  unfold f_L_faultReason at hf
  obtain ⟨H, eH⟩ : ∃ H, H = s.heap := ⟨_, rfl⟩
  obtain ⟨locs, elocs⟩ : ∃ L : List Loc, L = [] := ⟨_, rfl⟩
  have hP : va_P D vwCl (wX7 cy h0 gma sna hia ka ora cha tra ena opa foa gm sn hs qs k0 k1 k2 k3 ch o tr es op fo has ++ [wL cy ua out]) H := by rw [eH]; exact hP
  have hS : va_S A s.heap H locs := by rw [eH, elocs]; exact hS
  refine k_here eH elocs ?_
  refine lv_aload_n hx hb dL_faultReason_0 rfl (lv_at hl 1 rfl) ?_
  refine lv_iconst (v := 0) hx hb dL_faultReason_1 (by decide) ?_
  refine lv_aload_n hx hb dL_faultReason_2 rfl (lv_at hl 0 rfl) ?_
  obtain ⟨v1, hv1, hf⟩ := k_B hf
  refine k_callXV (As := []) (rest := [.int 0, .ref ua]) (r := (RX7, TX7, 6)) (ci := 4) (q0 := 0) (isC := [0, 1, 2, 3, 4, 5, 6, 7, 8, 9, 10, 11, 12, 13, 14]) (isR := [15]) (perm := [1, 2, 3, 4, 5, 6, 7, 8, 9, 10, 11, 12, 13, 14, 15, 0]) ⟨hx, hb, hml, hown, hts⟩ (c_X7_faultReason l hl9 D cy h0 gma sna hia ka ora cha tra ena opa foa gm sn hs qs k0 k1 k2 k3 ch o tr es op fo has  v1 hv1) (cwV 0 hts gL_faultReason_X7_faultReason rfl rfl rfl hd_X7_faultReason ⟨Nat.le_of_ble_eq_true rfl, Nat.le_of_ble_eq_true rfl⟩) hK hN hT hZ hP hD hS hA rfl rfl rfl rfl rfl rfl (by decide) rfl rfl hl.1 rfl (Nat.le_of_ble_eq_true rfl) dL_faultReason_3 ⟨Nat.le_of_ble_eq_true rfl, Nat.le_of_ble_eq_true rfl⟩ (fun q eq H locs hW1 hS => ?_) (fun E eE ce q9 H locs hW1 hS hce hcv hcl => ?_)
  · rcases v1 with v1 | v1
    · obtain rfl := k_smL eq
      obtain ⟨hP, hD⟩ := hW1 (wX7 cy h0 gma sna hia ka ora cha tra ena opa foa gm sn hs qs k0 k1 k2 k3 ch v1.2.1 v1.2.2 es op fo has ++ [wL cy ua out]) rfl
      have hf := k_inl hf
      refine lv_i2l hx hb dL_faultReason_6 rfl ?_
      refine va_last hx hb hK hP hD hS 15 3 rfl rfl (k_in (i := 0) (n := 1) (by decide +kernel)) dL_faultReason_7 (fun H locs hP hD hS => ?_)
      obtain ⟨w2, ew2, hf⟩ := k_L hf
      have hP : va_P D vwCl (wX7 cy h0 gma sna hia ka ora cha tra ena opa foa gm sn hs qs k0 k1 k2 k3 ch v1.2.1 v1.2.2 es op fo has ++ [wL cy ua w2]) H := by rw [ew2]; exact hP
      have hD : va_D A (wX7 cy h0 gma sna hia ka ora cha tra ena opa foa gm sn hs qs k0 k1 k2 k3 ch v1.2.1 v1.2.2 es op fo has ++ [wL cy ua w2]) := by rw [ew2]; exact hD
      refine lv_goto (tgt := 14) hx hb dL_faultReason_8 (by decide) ?_
      refine lv_iconst (v := 0) hx hb dL_faultReason_14 (by decide) ?_
      obtain rfl := k_some hf
      exact k_liret hx hb hr hP hD hS dL_faultReason_15 hlocks
    · exact (k_smX eq).elim
  · rcases v1 with v1 | v1
    · exact (k_smY eE).elim
    · obtain rfl := k_smR eE
      have hf := k_inr hf
      by_cases c3 : v1.1 = "java/util/NoSuchElementException"
      · have hf := k_T c3 hf
        obtain ⟨hP, hD⟩ := hW1 (wX7 cy h0 gma sna hia ka ora cha tra ena opa foa gm sn hs qs k0 k1 k2 k3 ch v1.2.1 v1.2.2 es op fo has ++ [wL cy ua out]) rfl
        have hcl : s.vm.findClass "java/util/NoSuchElementException" = some ce.cls := by rw [← c3]; exact hcl
        refine vx_catch (own := RL) (name := "java/util/NoSuchElementException") (E := "java/util/NoSuchElementException") hown [] ⟨0, 8, 11, 27⟩ [] (by rw [hTab]; rfl) (fun z hz => nomatch hz) (by decide) (by decide) (hts (.classLink RL 27 "java/util/NoSuchElementException") (by decide +kernel)) (va_Nw.use rfl (hT.1 (.castable "java/util/NoSuchElementException" "java/util/NoSuchElementException") (by decide +kernel))) hce hcv hcl ?_
        refine lv_astore_n (lv' := [(2, .ref q9), (0, .ref h0), (1, .ref ua)]) hx hb dL_faultReason_11 rfl hl (by decide) rfl (fun ls hl => ?_)
        refine lv_iconst (v := 1) hx hb dL_faultReason_12 (by decide) ?_
        obtain rfl := k_some hf
        exact k_liret hx hb hr hP hD hS dL_faultReason_13 hlocks
      · have hf := k_F c3 hf
        cases hf
def f_L_faultCause (gm : k_G8) (ch : Nat → Int32) (o : k_O5) (tr : k_G8) (out : Nat → Int64) : Option (Int32 × k_O5 × k_G8 × (Nat → Int64)) :=
  (f_X7_faultCause gm ch o tr).bind fun v1 =>
  Sum.elim (fun v1 =>
    k_let (vp_updL out 0 v1.1.toInt64) fun w2 =>
    some (0, v1.2.1, v1.2.2, w2)
  ) (fun v1 =>
    if v1.1 = "java/util/NoSuchElementException" then
      some (1, v1.2.1, v1.2.2, out)
    else
      none
  ) v1
abbrev rm_L_faultCause : Room := { frames := 7, cells := 1, slots := 6, locals := 154 }
theorem hd_L_faultCause : yL_faultCause.cls ≠ "java/lang/invoke/MethodHandle" ∧ yL_faultCause.cls ≠ "java/lang/invoke/VarHandle" ∧ (parseMethodDescriptor yL_faultCause.desc).map (fun d => d.parameters.length) = some 2 := by decide +kernel
set_option maxHeartbeats 4000000 in
set_option maxRecDepth 100000 in
theorem c_L_faultCause (l : Launch) (hl9 : l.stackTraces = false) (D : va_G) (cy : Nat → ClassId) (h0 gma sna hia ka ora cha tra ena opa foa ua : Nat) (gm : k_G8) (sn : k_G8) (hs : Int32) (qs : k_Q4) (k0 : k_G8) (k1 : k_G8) (k2 : k_G8) (k3 : k_G8) (ch : Nat → Int32) (o : k_O5) (tr : k_G8) (es : Int32) (op : Nat → Int32) (fo : Nat → Int32) (has : Int32) (out : Nat → Int64)  (r : Int32 × k_O5 × k_G8 × (Nat → Int64)) (hf : f_L_faultCause gm ch o tr out = some r) : k_LMet l yL_faultCause wsL_faultCause rm_L_faultCause D (k_tys cy) [.ref h0, .ref ua] (wX7 cy h0 gma sna hia ka ora cha tra ena opa foa gm sn hs qs k0 k1 k2 k3 ch o tr es op fo has ++ [wL cy ua out]) (some (.int r.1)) (wX7 cy h0 gma sna hia ka ora cha tra ena opa foa gm sn hs qs k0 k1 k2 k3 ch r.2.1 r.2.2.1 es op fo has ++ [wL cy ua r.2.2.2]) := by
  refine k_lawOf (cc := cL_faultCause) (maxL := 3) (ret := (some .int)) (hh := [(0, 8, 11, 27)]) (by decide) rfl (Nat.le_of_ble_eq_true rfl) ?_
  intro p e s m args below meth c ls A hx hb hr hlocks hml hown hts hl hA hK hP hD hN hT hZ hCx hTab
  have hl : lv_has ls 3 [(0, .ref h0), (1, .ref ua)] := hl
  have hS : va_S A s.heap s.heap [] := va_S.rf
  unfold f_L_faultCause at hf
  obtain ⟨H, eH⟩ : ∃ H, H = s.heap := ⟨_, rfl⟩
  obtain ⟨locs, elocs⟩ : ∃ L : List Loc, L = [] := ⟨_, rfl⟩
  have hP : va_P D vwCl (wX7 cy h0 gma sna hia ka ora cha tra ena opa foa gm sn hs qs k0 k1 k2 k3 ch o tr es op fo has ++ [wL cy ua out]) H := by rw [eH]; exact hP
  have hS : va_S A s.heap H locs := by rw [eH, elocs]; exact hS
  refine k_here eH elocs ?_
  refine lv_aload_n hx hb dL_faultCause_0 rfl (lv_at hl 1 rfl) ?_
  refine lv_iconst (v := 0) hx hb dL_faultCause_1 (by decide) ?_
  refine lv_aload_n hx hb dL_faultCause_2 rfl (lv_at hl 0 rfl) ?_
  obtain ⟨v1, hv1, hf⟩ := k_B hf
  refine k_callXV (As := []) (rest := [.int 0, .ref ua]) (r := (RX7, TX7, 6)) (ci := 4) (q0 := 0) (isC := [0, 1, 2, 3, 4, 5, 6, 7, 8, 9, 10, 11, 12, 13, 14]) (isR := [15]) (perm := [1, 2, 3, 4, 5, 6, 7, 8, 9, 10, 11, 12, 13, 14, 15, 0]) ⟨hx, hb, hml, hown, hts⟩ (c_X7_faultCause l hl9 D cy h0 gma sna hia ka ora cha tra ena opa foa gm sn hs qs k0 k1 k2 k3 ch o tr es op fo has  v1 hv1) (cwV 0 hts gL_faultCause_X7_faultCause rfl rfl rfl hd_X7_faultCause ⟨Nat.le_of_ble_eq_true rfl, Nat.le_of_ble_eq_true rfl⟩) hK hN hT hZ hP hD hS hA rfl rfl rfl rfl rfl rfl (by decide) rfl rfl hl.1 rfl (Nat.le_of_ble_eq_true rfl) dL_faultCause_3 ⟨Nat.le_of_ble_eq_true rfl, Nat.le_of_ble_eq_true rfl⟩ (fun q eq H locs hW1 hS => ?_) (fun E eE ce q9 H locs hW1 hS hce hcv hcl => ?_)
  · rcases v1 with v1 | v1
    · obtain rfl := k_smL eq
      obtain ⟨hP, hD⟩ := hW1 (wX7 cy h0 gma sna hia ka ora cha tra ena opa foa gm sn hs qs k0 k1 k2 k3 ch v1.2.1 v1.2.2 es op fo has ++ [wL cy ua out]) rfl
      have hf := k_inl hf
      refine lv_i2l hx hb dL_faultCause_6 rfl ?_
      refine va_last hx hb hK hP hD hS 15 3 rfl rfl (k_in (i := 0) (n := 1) (by decide +kernel)) dL_faultCause_7 (fun H locs hP hD hS => ?_)
      obtain ⟨w2, ew2, hf⟩ := k_L hf
      have hP : va_P D vwCl (wX7 cy h0 gma sna hia ka ora cha tra ena opa foa gm sn hs qs k0 k1 k2 k3 ch v1.2.1 v1.2.2 es op fo has ++ [wL cy ua w2]) H := by rw [ew2]; exact hP
      have hD : va_D A (wX7 cy h0 gma sna hia ka ora cha tra ena opa foa gm sn hs qs k0 k1 k2 k3 ch v1.2.1 v1.2.2 es op fo has ++ [wL cy ua w2]) := by rw [ew2]; exact hD
      refine lv_goto (tgt := 14) hx hb dL_faultCause_8 (by decide) ?_
      refine lv_iconst (v := 0) hx hb dL_faultCause_14 (by decide) ?_
      obtain rfl := k_some hf
      exact k_liret hx hb hr hP hD hS dL_faultCause_15 hlocks
    · exact (k_smX eq).elim
  · rcases v1 with v1 | v1
    · exact (k_smY eE).elim
    · obtain rfl := k_smR eE
      have hf := k_inr hf
      by_cases c3 : v1.1 = "java/util/NoSuchElementException"
      · have hf := k_T c3 hf
        obtain ⟨hP, hD⟩ := hW1 (wX7 cy h0 gma sna hia ka ora cha tra ena opa foa gm sn hs qs k0 k1 k2 k3 ch v1.2.1 v1.2.2 es op fo has ++ [wL cy ua out]) rfl
        have hcl : s.vm.findClass "java/util/NoSuchElementException" = some ce.cls := by rw [← c3]; exact hcl
        refine vx_catch (own := RL) (name := "java/util/NoSuchElementException") (E := "java/util/NoSuchElementException") hown [] ⟨0, 8, 11, 27⟩ [] (by rw [hTab]; rfl) (fun z hz => nomatch hz) (by decide) (by decide) (hts (.classLink RL 27 "java/util/NoSuchElementException") (by decide +kernel)) (va_Nw.use rfl (hT.1 (.castable "java/util/NoSuchElementException" "java/util/NoSuchElementException") (by decide +kernel))) hce hcv hcl ?_
        refine lv_astore_n (lv' := [(2, .ref q9), (0, .ref h0), (1, .ref ua)]) hx hb dL_faultCause_11 rfl hl (by decide) rfl (fun ls hl => ?_)
        refine lv_iconst (v := 1) hx hb dL_faultCause_12 (by decide) ?_
        obtain rfl := k_some hf
        exact k_liret hx hb hr hP hD hS dL_faultCause_13 hlocks
      · have hf := k_F c3 hf
        cases hf
def f_L_play (gm : k_G8) (hs : Int32) (qs : k_Q4) (k0 : k_G8) (k1 : k_G8) (k2 : k_G8) (k3 : k_G8) (ch : Nat → Int32) (o : k_O5) (tr : k_G8) (out : Nat → Int64) : Option (Int32 × k_G8 × Int32 × k_Q4 × k_G8 × k_G8 × k_G8 × k_G8 × k_O5 × k_G8 × (Nat → Int64)) :=
  (f_X7_play gm hs qs k0 k1 k2 k3 ch o tr).bind fun v1 =>
  Sum.elim (fun v1 =>
    k_let (vp_updL out 0 v1.1.toInt64) fun w2 =>
    some (0, v1.2.1, v1.2.2.1, v1.2.2.2.1, v1.2.2.2.2.1, v1.2.2.2.2.2.1, v1.2.2.2.2.2.2.1, v1.2.2.2.2.2.2.2.1, v1.2.2.2.2.2.2.2.2.1, v1.2.2.2.2.2.2.2.2.2, w2)
  ) (fun v1 =>
    if v1.1 = "java/lang/IllegalStateException" then
      some (1, v1.2.1, v1.2.2.1, v1.2.2.2.1, v1.2.2.2.2.1, v1.2.2.2.2.2.1, v1.2.2.2.2.2.2.1, v1.2.2.2.2.2.2.2.1, v1.2.2.2.2.2.2.2.2.1, v1.2.2.2.2.2.2.2.2.2, out)
    else
      none
  ) v1
abbrev rm_L_play : Room := { frames := 7, cells := 1, slots := 6, locals := 154 }
theorem hd_L_play : yL_play.cls ≠ "java/lang/invoke/MethodHandle" ∧ yL_play.cls ≠ "java/lang/invoke/VarHandle" ∧ (parseMethodDescriptor yL_play.desc).map (fun d => d.parameters.length) = some 2 := by decide +kernel
set_option maxHeartbeats 4000000 in
set_option maxRecDepth 100000 in
theorem c_L_play (l : Launch) (hl9 : l.stackTraces = false) (D : va_G) (cy : Nat → ClassId) (h0 gma sna hia ka ora cha tra ena opa foa ua : Nat) (gm : k_G8) (sn : k_G8) (hs : Int32) (qs : k_Q4) (k0 : k_G8) (k1 : k_G8) (k2 : k_G8) (k3 : k_G8) (ch : Nat → Int32) (o : k_O5) (tr : k_G8) (es : Int32) (op : Nat → Int32) (fo : Nat → Int32) (has : Int32) (out : Nat → Int64)  (r : Int32 × k_G8 × Int32 × k_Q4 × k_G8 × k_G8 × k_G8 × k_G8 × k_O5 × k_G8 × (Nat → Int64)) (hf : f_L_play gm hs qs k0 k1 k2 k3 ch o tr out = some r) : k_LMet l yL_play wsL_play rm_L_play D (k_tys cy) [.ref h0, .ref ua] (wX7 cy h0 gma sna hia ka ora cha tra ena opa foa gm sn hs qs k0 k1 k2 k3 ch o tr es op fo has ++ [wL cy ua out]) (some (.int r.1)) (wX7 cy h0 gma sna hia ka ora cha tra ena opa foa r.2.1 sn r.2.2.1 r.2.2.2.1 r.2.2.2.2.1 r.2.2.2.2.2.1 r.2.2.2.2.2.2.1 r.2.2.2.2.2.2.2.1 ch r.2.2.2.2.2.2.2.2.1 r.2.2.2.2.2.2.2.2.2.1 es op fo has ++ [wL cy ua r.2.2.2.2.2.2.2.2.2.2]) := by
  refine k_lawOf (cc := cL_play) (maxL := 3) (ret := (some .int)) (hh := [(0, 8, 11, 15)]) (by decide) rfl (Nat.le_of_ble_eq_true rfl) ?_
  intro p e s m args below meth c ls A hx hb hr hlocks hml hown hts hl hA hK hP hD hN hT hZ hCx hTab
  have hl : lv_has ls 3 [(0, .ref h0), (1, .ref ua)] := hl
  have hS : va_S A s.heap s.heap [] := va_S.rf
  unfold f_L_play at hf
  obtain ⟨H, eH⟩ : ∃ H, H = s.heap := ⟨_, rfl⟩
  obtain ⟨locs, elocs⟩ : ∃ L : List Loc, L = [] := ⟨_, rfl⟩
  have hP : va_P D vwCl (wX7 cy h0 gma sna hia ka ora cha tra ena opa foa gm sn hs qs k0 k1 k2 k3 ch o tr es op fo has ++ [wL cy ua out]) H := by rw [eH]; exact hP
  have hS : va_S A s.heap H locs := by rw [eH, elocs]; exact hS
  refine k_here eH elocs ?_
  refine lv_aload_n hx hb dL_play_0 rfl (lv_at hl 1 rfl) ?_
  refine lv_iconst (v := 0) hx hb dL_play_1 (by decide) ?_
  refine lv_aload_n hx hb dL_play_2 rfl (lv_at hl 0 rfl) ?_
  obtain ⟨v1, hv1, hf⟩ := k_B hf
  refine k_callXV (As := []) (rest := [.int 0, .ref ua]) (r := (RX7, TX7, 6)) (ci := 4) (q0 := 0) (isC := [0, 1, 2, 3, 4, 5, 6, 7, 8, 9, 10, 11, 12, 13, 14]) (isR := [15]) (perm := [1, 2, 3, 4, 5, 6, 7, 8, 9, 10, 11, 12, 13, 14, 15, 0]) ⟨hx, hb, hml, hown, hts⟩ (c_X7_play l hl9 D cy h0 gma sna hia ka ora cha tra ena opa foa gm sn hs qs k0 k1 k2 k3 ch o tr es op fo has  v1 hv1) (cwV 0 hts gL_play_X7_play rfl rfl rfl hd_X7_play ⟨Nat.le_of_ble_eq_true rfl, Nat.le_of_ble_eq_true rfl⟩) hK hN hT hZ hP hD hS hA rfl rfl rfl rfl rfl rfl (by decide) rfl rfl hl.1 rfl (Nat.le_of_ble_eq_true rfl) dL_play_3 ⟨Nat.le_of_ble_eq_true rfl, Nat.le_of_ble_eq_true rfl⟩ (fun q eq H locs hW1 hS => ?_) (fun E eE ce q9 H locs hW1 hS hce hcv hcl => ?_)
  · rcases v1 with v1 | v1
    · obtain rfl := k_smL eq
      obtain ⟨hP, hD⟩ := hW1 (wX7 cy h0 gma sna hia ka ora cha tra ena opa foa v1.2.1 sn v1.2.2.1 v1.2.2.2.1 v1.2.2.2.2.1 v1.2.2.2.2.2.1 v1.2.2.2.2.2.2.1 v1.2.2.2.2.2.2.2.1 ch v1.2.2.2.2.2.2.2.2.1 v1.2.2.2.2.2.2.2.2.2 es op fo has ++ [wL cy ua out]) rfl
      have hf := k_inl hf
      refine lv_i2l hx hb dL_play_6 rfl ?_
      refine va_last hx hb hK hP hD hS 15 3 rfl rfl (k_in (i := 0) (n := 1) (by decide +kernel)) dL_play_7 (fun H locs hP hD hS => ?_)
      obtain ⟨w2, ew2, hf⟩ := k_L hf
      have hP : va_P D vwCl (wX7 cy h0 gma sna hia ka ora cha tra ena opa foa v1.2.1 sn v1.2.2.1 v1.2.2.2.1 v1.2.2.2.2.1 v1.2.2.2.2.2.1 v1.2.2.2.2.2.2.1 v1.2.2.2.2.2.2.2.1 ch v1.2.2.2.2.2.2.2.2.1 v1.2.2.2.2.2.2.2.2.2 es op fo has ++ [wL cy ua w2]) H := by rw [ew2]; exact hP
      have hD : va_D A (wX7 cy h0 gma sna hia ka ora cha tra ena opa foa v1.2.1 sn v1.2.2.1 v1.2.2.2.1 v1.2.2.2.2.1 v1.2.2.2.2.2.1 v1.2.2.2.2.2.2.1 v1.2.2.2.2.2.2.2.1 ch v1.2.2.2.2.2.2.2.2.1 v1.2.2.2.2.2.2.2.2.2 es op fo has ++ [wL cy ua w2]) := by rw [ew2]; exact hD
      refine lv_goto (tgt := 14) hx hb dL_play_8 (by decide) ?_
      refine lv_iconst (v := 0) hx hb dL_play_14 (by decide) ?_
      obtain rfl := k_some hf
      exact k_liret hx hb hr hP hD hS dL_play_15 hlocks
    · exact (k_smX eq).elim
  · rcases v1 with v1 | v1
    · exact (k_smY eE).elim
    · obtain rfl := k_smR eE
      have hf := k_inr hf
      by_cases c3 : v1.1 = "java/lang/IllegalStateException"
      · have hf := k_T c3 hf
        obtain ⟨hP, hD⟩ := hW1 (wX7 cy h0 gma sna hia ka ora cha tra ena opa foa v1.2.1 sn v1.2.2.1 v1.2.2.2.1 v1.2.2.2.2.1 v1.2.2.2.2.2.1 v1.2.2.2.2.2.2.1 v1.2.2.2.2.2.2.2.1 ch v1.2.2.2.2.2.2.2.2.1 v1.2.2.2.2.2.2.2.2.2 es op fo has ++ [wL cy ua out]) rfl
        have hcl : s.vm.findClass "java/lang/IllegalStateException" = some ce.cls := by rw [← c3]; exact hcl
        refine vx_catch (own := RL) (name := "java/lang/IllegalStateException") (E := "java/lang/IllegalStateException") hown [] ⟨0, 8, 11, 15⟩ [] (by rw [hTab]; rfl) (fun z hz => nomatch hz) (by decide) (by decide) (hts (.classLink RL 15 "java/lang/IllegalStateException") (by decide +kernel)) (va_Nw.use rfl (hT.1 (.castable "java/lang/IllegalStateException" "java/lang/IllegalStateException") (by decide +kernel))) hce hcv hcl ?_
        refine lv_astore_n (lv' := [(2, .ref q9), (0, .ref h0), (1, .ref ua)]) hx hb dL_play_11 rfl hl (by decide) rfl (fun ls hl => ?_)
        refine lv_iconst (v := 1) hx hb dL_play_12 (by decide) ?_
        obtain rfl := k_some hf
        exact k_liret hx hb hr hP hD hS dL_play_13 hlocks
      · have hf := k_F c3 hf
        cases hf
