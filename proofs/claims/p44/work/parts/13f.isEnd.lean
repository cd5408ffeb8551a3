def t_L_isEnd_58 (b1 : Int32) (s58 : Int32 × Int32 × (Nat → Int32)) : Option ((Int32 × Int32 × (Nat → Int32)) ⊕ (Int32 × Int32 × (Nat → Int32))) :=
  if 31 ≤ s58.2.1 then
    some (.inr (s58.1, s58.2.1, s58.2.2))
  else
    Option.bind (α := Int32 × (Nat → Int32)) (
        if ((b1 >>> (s58.2.1 &&& 31)) &&& 1) = 0 then
          if s58.1 < 0 ∨ 8 ≤ s58.1.toNatClampNeg then none else
          k_let (upd s58.2.2 s58.1.toNatClampNeg s58.2.1) fun w9 =>
          some (s58.1 + 1, w9)
        else
          some (s58.1, s58.2.2)
      ) fun j6 =>
    some (.inl (j6.1, s58.2.1 + 1, j6.2))
def t_L_isEnd_131 (b1 : Int32) (b4 : Int32) (b5 : Int32) (b6 : Int32) (b8 : Int32) (u1 : Nat → Int32) (s131 : Int32 × Int32) : Option ((Int32 × Int32) ⊕ (Int32 × Int32)) :=
  if b4 ≤ s131.2 then
    some (.inr (s131.1, s131.2))
  else
    if s131.2 < 0 ∨ 8 ≤ s131.2.toNatClampNeg then none else
    k_let (((b6 >>> (s131.2 &&& 31)) &&& 1) <<< ((u1 s131.2.toNatClampNeg) &&& 31)) fun y17 =>
    k_let (s131.1 ||| y17) fun y18 =>
    some (.inl (y18, s131.2 + 1))
def t_L_isEnd_167 (b1 : Int32) (b4 : Int32) (b6 : Int32) (b7 : Int32) (u1 : Nat → Int32) (u2 : Nat → Int64) (s167 : Int32 × Int32 × Int32) : Option ((Int32 × Int32 × Int32) ⊕ (Int32 × Int32 × Int32)) :=
  if s167.2.2 < 0 then
    some (.inr (s167.1, s167.2.1, s167.2.2))
  else
    Option.bind (α := Int32 × Int32) (
        if ((b6 >>> (s167.2.2 &&& 31)) &&& 1) = 0 then
          (f_L_value (b6 ||| ((1 : Int32) <<< (s167.2.2 &&& 31))) u2).bind fun v24 =>
          if s167.2.2 < 0 ∨ 8 ≤ s167.2.2.toNatClampNeg then none else
          (f_L_close b7 (u1 s167.2.2.toNatClampNeg)).bind fun v26 =>
          Option.bind (α := Int32) (
              if v26 ≤ 0 then
                some (-v24)
              else
                some (v26 + v24)
            ) fun j27 =>
          Option.bind (α := Int32) (
              if b6 = 0 then
                if j27 < s167.2.1 then
                  some s167.1
                else
                  if s167.2.2 < 0 ∨ 8 ≤ s167.2.2.toNatClampNeg then none else
                  some (u1 s167.2.2.toNatClampNeg)
              else
                some s167.1
            ) fun j29 =>
          Option.bind (α := Int32) (
              if j27 ≤ s167.2.1 then
                some s167.2.1
              else
                some j27
            ) fun j33 =>
          some (j29, j33)
        else
          some (s167.1, s167.2.1)
      ) fun j22 =>
    some (.inl (j22.1, j22.2, s167.2.2 + (-1)))
def t_L_isEnd_101 (b1 : Int32) (b4 : Int32) (u1 : Nat → Int32) (s101 : Int32 × Int32 × (Nat → Int64)) : Option ((Int32 × Int32 × (Nat → Int64)) ⊕ (Int32 × Int32 × (Nat → Int64))) :=
  if s101.2.1 < 0 then
    some (.inr (s101.1, s101.2.1, s101.2.2))
  else
    Option.bind (α := Int32) (
        if s101.2.1 = (((1 : Int32) <<< (b4 &&& 31)) - 1) then
          some 0
        else
          some (-99)
      ) fun j13 =>
    (k_loop (t_L_isEnd_131 b1 b4 s101.1 s101.2.1 j13 u1) 1000 (b1, 0)).bind fun x19 =>
    k_let (b4 - 1) fun y20 =>
    (k_loop (t_L_isEnd_167 b1 b4 s101.2.1 x19.1 u1 s101.2.2) 1000 (s101.1, j13, y20)).bind fun x35 =>
    if (s101.2.1 / 4) < 0 ∨ 64 ≤ (s101.2.1 / 4).toNatClampNeg then none else
    if (s101.2.1 / 4) < 0 ∨ 64 ≤ (s101.2.1 / 4).toNatClampNeg then none else
    k_let (vp_updL s101.2.2 (s101.2.1 / 4).toNatClampNeg ((s101.2.2 (s101.2.1 / 4).toNatClampNeg) + (((x35.2.1 + 100).toInt64) <<< (((16 : Int32) * (s101.2.1 - s101.2.1 / 4 * 4)).toInt64 &&& 63)))) fun w38 =>
    some (.inl (x35.1, s101.2.1 + (-1), w38))
def f_L_isEnd (n1 : Int32) (gm : k_G8) (es : Int32) (op : Nat → Int32) (fo : Nat → Int32) : Option (Int32 × Int32 × (Nat → Int32) × (Nat → Int32)) :=
  (f_L_count n1).bind fun v1 =>
  if 23 ≤ v1 then
    (k_loop (t_L_isEnd_58 n1) 1000 (0, 0, (fun _ => 0))).bind fun x10 =>
    k_let (((1 : Int32) <<< (x10.1 &&& 31)) - 1) fun y11 =>
    (k_loop (t_L_isEnd_101 n1 x10.1 x10.2.2) 1000 ((-101), y11, (fun _ => 0))).bind fun x39 =>
    (f_L_endDifferenceOf gm es op fo).bind fun v40 =>
    (f_L_value 0 x39.2.2).bind fun v41 =>
    Option.bind (α := Int32 × Int32 × (Nat → Int32) × (Nat → Int32)) (
        if v40.1 = v41 then
          (f_L_endByTryingOf gm).bind fun v44 =>
          (f_L_value 0 x39.2.2).bind fun v45 =>
          if v44 = v45 then
            (f_L_bestFenceOf gm v40.2.1 v40.2.2.1 v40.2.2.2).bind fun v47 =>
            if v47.1 = x39.1 then
              some (1, v47.2.1, v47.2.2.1, v47.2.2.2)
            else
              some (0, v47.2.1, v47.2.2.1, v47.2.2.2)
          else
            some (0, v40.2.1, v40.2.2.1, v40.2.2.2)
        else
          some (0, v40.2.1, v40.2.2.1, v40.2.2.2)
      ) fun j42 =>
    if j42.1 = 0 ∨ j42.1 = 1 then some (j42.1, j42.2.1, j42.2.2.1, j42.2.2.2) else none
  else
    (f_L_endDifferenceOf gm es op fo).bind fun v49 =>
    Option.bind (α := Int32 × Int32 × (Nat → Int32) × (Nat → Int32)) (
        if v49.1 = (-101) then
          (f_L_endByTryingOf gm).bind fun v52 =>
          if v52 = (-101) then
            (f_L_bestFenceOf gm v49.2.1 v49.2.2.1 v49.2.2.2).bind fun v54 =>
            if v54.1 = (-101) then
              some (1, v54.2.1, v54.2.2.1, v54.2.2.2)
            else
              some (0, v54.2.1, v54.2.2.1, v54.2.2.2)
          else
            some (0, v49.2.1, v49.2.2.1, v49.2.2.2)
        else
          some (0, v49.2.1, v49.2.2.1, v49.2.2.2)
      ) fun j50 =>
    if j50.1 = 0 ∨ j50.1 = 1 then some (j50.1, j50.2.1, j50.2.2.1, j50.2.2.2) else none
abbrev rm_L_isEnd : Room := { frames := 17, cells := 5, slots := 90, locals := 500 }
theorem hd_L_isEnd : yL_isEnd.cls ≠ "java/lang/invoke/MethodHandle" ∧ yL_isEnd.cls ≠ "java/lang/invoke/VarHandle" ∧ (parseMethodDescriptor yL_isEnd.desc).map (fun d => d.parameters.length) = some 2 := by decide +kernel
set_option maxHeartbeats 8000000 in
set_option maxRecDepth 100000 in
theorem c_L_isEnd (l : Launch) (hl9 : l.stackTraces = false) (D : va_G) (cy : Nat → ClassId) (h0 gma sna hia ka ora cha tra ena opa foa : Nat) (gm : k_G8) (sn : k_G8) (hs : Int32) (qs : k_Q4) (k0 : k_G8) (k1 : k_G8) (k2 : k_G8) (k3 : k_G8) (ch : Nat → Int32) (o : k_O5) (tr : k_G8) (es : Int32) (op : Nat → Int32) (fo : Nat → Int32) (has : Int32) (n1 : Int32) (r : Int32 × Int32 × (Nat → Int32) × (Nat → Int32)) (hf : f_L_isEnd n1 gm es op fo = some r) : k_LMet l yL_isEnd wsL_isEnd rm_L_isEnd D (k_tys cy) [.ref h0, .int n1] (wX7 cy h0 gma sna hia ka ora cha tra ena opa foa gm sn hs qs k0 k1 k2 k3 ch o tr es op fo has) (some (.int r.1)) (wX7 cy h0 gma sna hia ka ora cha tra ena opa foa gm sn hs qs k0 k1 k2 k3 ch o tr r.2.1 r.2.2.1 r.2.2.2 has) 5 90 := by
  refine k_lawOf0 (cc := cL_isEnd) (maxL := 13) (ret := (some .boolean)) (by decide) rfl (Nat.le_of_ble_eq_true rfl) ?_
  intro p e s m args below meth c ls A hx hb hr hlocks hml hown hts hl hA hK hP hD hN hT hZ hCx
  have hl : lv_has ls 13 [(0, .ref h0), (1, .int n1)] := hl
  have hS : va_S A s.heap s.heap [] := va_S.rf
  unfold f_L_isEnd at hf
  obtain ⟨H, eH⟩ : ∃ H, H = s.heap := ⟨_, rfl⟩
  obtain ⟨locs, elocs⟩ : ∃ L : List Loc, L = [] := ⟨_, rfl⟩
  have hP : va_P D vwCl (wX7 cy h0 gma sna hia ka ora cha tra ena opa foa gm sn hs qs k0 k1 k2 k3 ch o tr es op fo has) H := by rw [eH]; exact hP
  have hS : va_S A s.heap H locs := by rw [eH, elocs]; exact hS
  refine k_here eH elocs ?_
  refine lv_iload_n hx hb dL_isEnd_0 rfl (lv_at hl 1 rfl) ?_
  obtain ⟨v1, hv1, hf⟩ := k_B hf
  refine k_callS (As := [.int n1]) (rest := []) ⟨hx, hb, hml, hown, hts⟩ (c_L_count l n1 v1 hv1) (va_cwS 1 hts gL_isEnd_L_count rfl rfl rfl hd_L_count ⟨Nat.le_of_ble_eq_true rfl, Nat.le_of_ble_eq_true rfl⟩) rfl hl.1 rfl (Nat.le_of_ble_eq_true rfl) dL_isEnd_1 ⟨Nat.le_of_ble_eq_true rfl, Nat.le_of_ble_eq_true rfl⟩ ?_
  refine lv_bipush (v := 23) hx hb dL_isEnd_4 (by decide) ?_
  refine lv_icmp_ge (tgt := 42) hx hb dL_isEnd_6 (by decide) (fun c2 => ?_) (fun c2 => ?_)
  · have hf := k_T c2 hf
    refine lv_bipush (v := 8) hx hb dL_isEnd_42 (by decide) ?_
    refine va_newa (atype := .int) (a0 := (8, .inl (fun _ => 0))) hx hb (hts (.arrayClass .int) (by decide +kernel)) rfl hK hP hD hS hA (fun _ => rfl) (by decide) (by decide) (by decide) (Nat.le_of_ble_eq_true rfl) (Nat.le_of_ble_eq_true rfl) dL_isEnd_44 (fun q3 cA H hK1 hP hD hS => ?_)
    obtain rfl := k_sameI hK1
    have hP : va_P D vwCl (wX7 cy h0 gma sna hia ka ora cha tra ena opa foa gm sn hs qs k0 k1 k2 k3 ch o tr es op fo has ++ [wR cy 0 8 q3 (fun _ => 0)]) H := hP
    have hD : va_D A (wX7 cy h0 gma sna hia ka ora cha tra ena opa foa gm sn hs qs k0 k1 k2 k3 ch o tr es op fo has ++ [wR cy 0 8 q3 (fun _ => 0)]) := hD
    refine lv_astore_n (lv' := [(2, .ref q3), (0, .ref h0), (1, .int n1)]) hx hb dL_isEnd_46 rfl hl (by decide) rfl (fun ls hl => ?_)
    refine lv_bipush (v := 64) hx hb dL_isEnd_47 (by decide) ?_
    refine va_newa (atype := .long) (a0 := (64, .inr (.inl (fun _ => 0)))) hx hb (hts (.arrayClass .long) (by decide +kernel)) rfl hK hP hD hS hA (fun _ => rfl) (by decide) (by decide) (by decide) (Nat.le_of_ble_eq_true rfl) (Nat.le_of_ble_eq_true rfl) dL_isEnd_49 (fun q4 cA H hK1 hP hD hS => ?_)
    obtain rfl := k_sameL hK1
    have hP : va_P D vwCl (wX7 cy h0 gma sna hia ka ora cha tra ena opa foa gm sn hs qs k0 k1 k2 k3 ch o tr es op fo has ++ [wR cy 0 8 q3 (fun _ => 0), wJ cy 64 q4 (fun _ => 0)]) H := hP
    have hD : va_D A (wX7 cy h0 gma sna hia ka ora cha tra ena opa foa gm sn hs qs k0 k1 k2 k3 ch o tr es op fo has ++ [wR cy 0 8 q3 (fun _ => 0), wJ cy 64 q4 (fun _ => 0)]) := hD
    refine lv_astore_n (lv' := [(3, .ref q4), (2, .ref q3), (0, .ref h0), (1, .int n1)]) hx hb dL_isEnd_51 rfl hl (by decide) rfl (fun ls hl => ?_)
    refine lv_iconst (v := 0) hx hb dL_isEnd_52 (by decide) ?_
    refine lv_istore (lv' := [(4, .int 0), (3, .ref q4), (2, .ref q3), (0, .ref h0), (1, .int n1)]) hx hb dL_isEnd_53 hl (by decide) rfl (fun ls hl => ?_)
    refine lv_iconst (v := 0) hx hb dL_isEnd_55 (by decide) ?_
    refine lv_istore (lv' := [(5, .int 0), (4, .int 0), (3, .ref q4), (2, .ref q3), (0, .ref h0), (1, .int n1)]) hx hb dL_isEnd_56 hl (by decide) rfl (fun ls hl => ?_)
    have L58 : ∀ (Q : State → Prop) (n : Nat) (b1 : Int32) (gm : k_G8) (sn : k_G8) (hs : Int32) (qs : k_Q4) (k0 : k_G8) (k1 : k_G8) (k2 : k_G8) (k3 : k_G8) (ch : Nat → Int32) (o : k_O5) (tr : k_G8) (es : Int32) (op : Nat → Int32) (fo : Nat → Int32) (has : Int32) (u2 : Nat → Int64) (s58 : Int32 × Int32 × (Nat → Int32)) (q : Int32 × Int32 × (Nat → Int32)), k_loop (t_L_isEnd_58 b1) n s58 = some q → ∀ (CX SX cells slots : Nat), CX ≤ rm_L_isEnd.cells → SX ≤ rm_L_isEnd.slots → cells + n * 0 ≤ CX → slots + n * 0 ≤ SX → ∀ (ls : Array Slot) (H : Heap) (locs : List Loc), lv_has ls 13 [(0, .ref h0), (1, .int b1), (2, .ref q3), (3, .ref q4), (4, .int s58.1), (5, .int s58.2.1)] → va_P D vwCl (wX7 cy h0 gma sna hia ka ora cha tra ena opa foa gm sn hs qs k0 k1 k2 k3 ch o tr es op fo has ++ [wR cy 0 8 q3 s58.2.2, wJ cy 64 q4 u2]) H → va_D A (wX7 cy h0 gma sna hia ka ora cha tra ena opa foa gm sn hs qs k0 k1 k2 k3 ch o tr es op fo has ++ [wR cy 0 8 q3 s58.2.2, wJ cy 64 q4 u2]) → va_S A s.heap H locs → (∀ (ls : Array Slot) (H : Heap) (locs : List Loc), lv_has ls 13 [(0, .ref h0), (1, .int b1), (2, .ref q3), (3, .ref q4), (4, .int q.1)] → va_P D vwCl (wX7 cy h0 gma sna hia ka ora cha tra ena opa foa gm sn hs qs k0 k1 k2 k3 ch o tr es op fo has ++ [wR cy 0 8 q3 q.2.2, wJ cy 64 q4 u2]) H → va_D A (wX7 cy h0 gma sna hia ka ora cha tra ena opa foa gm sn hs qs k0 k1 k2 k3 ch o tr es op fo has ++ [wR cy 0 8 q3 q.2.2, wJ cy 64 q4 u2]) → va_S A s.heap H locs → W p l e rm_L_isEnd s m args below meth c H locs CX SX Q (F0 m 89 ls [])) → W p l e rm_L_isEnd s m args below meth c H locs cells slots Q (F0 m 58 ls []) := by
      intro Q n
      induction n with
      | zero =>
        intro b1 gm sn hs qs k0 k1 k2 k3 ch o tr es op fo has u2 s58 q hq
        exact (k_loop0 hq).elim
      | succ n ih =>
        intro b1 gm sn hs qs k0 k1 k2 k3 ch o tr es op fo has u2 s58 q hq CX SX cells slots hcx hsx hcc hss ls H locs hl hP hD hS kx
        obtain ⟨x, hf, hq⟩ := k_loopE hq
        unfold t_L_isEnd_58 at hf
        refine lv_iload hx hb dL_isEnd_58 (lv_at hl 5 rfl) ?_
        refine lv_bipush (v := 31) hx hb dL_isEnd_60 (by decide) ?_
        refine lv_icmp_ge (tgt := 89) hx hb dL_isEnd_62 (by decide) (fun c5 => ?_) (fun c5 => ?_)
        · have hf := k_T c5 hf
          refine W.widen (k := CX) (n := SX) (by omega) (by omega) ?_
          obtain rfl := k_some hf
          obtain rfl := k_some (k_inr hq)
          exact kx ls H locs (lv_sub hl [0, 1, 2, 3, 4] rfl) hP hD hS
        · have hf := k_F c5 hf
          refine lv_iload_n hx hb dL_isEnd_65 rfl (lv_at hl 1 rfl) ?_
          refine lv_iload hx hb dL_isEnd_66 (lv_at hl 5 rfl) ?_
          refine lv_ishr hx hb dL_isEnd_68 ?_
          refine lv_iconst (v := 1) hx hb dL_isEnd_69 (by decide) ?_
          refine lv_iand hx hb dL_isEnd_70 ?_
          obtain ⟨j6, hj6, hf⟩ := k_B hf
          refine k_joinH (nL := 13) (J := 83) (D := D) (A := A) (H0 := s.heap) (w' := (wX7 cy h0 gma sna hia ka ora cha tra ena opa foa gm sn hs qs k0 k1 k2 k3 ch o tr es op fo has ++ [wR cy 0 8 q3 j6.2, wJ cy 64 q4 u2])) (L := [(0, .ref h0), (1, .int b1), (2, .ref q3), (3, .ref q4), (4, .int j6.1), (5, .int s58.2.1)]) (stk := []) (cells' := (cells + 0)) (slots' := (slots + 0)) (fun ls H locs hl hP hD hS => ?_) (fun kj6 => ?_)
          · refine lv_iinc (v := s58.2.1 + 1) (lv' := [(5, .int (s58.2.1 + 1)), (0, .ref h0), (1, .int b1), (2, .ref q3), (3, .ref q4), (4, .int j6.1)]) hx hb dL_isEnd_83 hl (k := 5) rfl rfl (by decide) rfl (fun ls hl => ?_)
            refine lv_goto (tgt := 58) hx hb dL_isEnd_86 (by decide) ?_
            refine W.widen (k := cells + 0) (n := slots + 0) (by omega) (by omega) ?_
            obtain rfl := k_some hf
            exact ih b1 gm sn hs qs k0 k1 k2 k3 ch o tr es op fo has u2 (j6.1, s58.2.1 + 1, j6.2) q (k_inl hq) CX SX (cells + 0) (slots + 0) hcx hsx (by omega) (by omega) ls H locs (lv_sub hl [1, 2, 3, 4, 5, 0] rfl) hP hD hS kx
          · have hf := hj6
            refine lv_if_ne (tgt := 83) hx hb dL_isEnd_71 (by decide) (fun c7 => ?_) (fun c7 => ?_)
            · have hf := k_F c7 hf
              refine W.widen (k := (cells + 0)) (n := (slots + 0)) (by omega) (by omega) ?_
              obtain rfl := k_some hf
              exact kj6 ls H locs (lv_sub hl [0, 1, 2, 3, 4, 5] rfl) hP hD hS
            · have hf := k_T c7 hf
              refine lv_aload_n hx hb dL_isEnd_74 rfl (lv_at hl 2 rfl) ?_
              refine lv_iload hx hb dL_isEnd_75 (lv_at hl 4 rfl) ?_
              refine lv_iload hx hb dL_isEnd_77 (lv_at hl 5 rfl) ?_
              obtain ⟨g8, hf⟩ := k_G hf
              refine va_iast hx hb hK hP hD hS 15 0 rfl rfl g8 dL_isEnd_79 (fun H locs hP hD hS => ?_)
              obtain ⟨w9, ew9, hf⟩ := k_L hf
              have hP : va_P D vwCl (wX7 cy h0 gma sna hia ka ora cha tra ena opa foa gm sn hs qs k0 k1 k2 k3 ch o tr es op fo has ++ [wR cy 0 8 q3 w9, wJ cy 64 q4 u2]) H := by rw [ew9]; exact hP
              have hD : va_D A (wX7 cy h0 gma sna hia ka ora cha tra ena opa foa gm sn hs qs k0 k1 k2 k3 ch o tr es op fo has ++ [wR cy 0 8 q3 w9, wJ cy 64 q4 u2]) := by rw [ew9]; exact hD
              refine lv_iinc (v := s58.1 + 1) (lv' := [(4, .int (s58.1 + 1)), (0, .ref h0), (1, .int b1), (2, .ref q3), (3, .ref q4), (5, .int s58.2.1)]) hx hb dL_isEnd_80 hl (k := 4) rfl rfl (by decide) rfl (fun ls hl => ?_)
              refine W.widen (k := (cells + 0)) (n := (slots + 0)) (by omega) (by omega) ?_
              obtain rfl := k_some hf
              exact kj6 ls H locs (lv_sub hl [1, 2, 3, 4, 0, 5] rfl) hP hD hS
    obtain ⟨x10, hx10, hf⟩ := k_B hf
    refine W.widen (k := 2) (n := 72) (by omega) (by omega) ?_
    refine L58 _ 1000 n1 gm sn hs qs k0 k1 k2 k3 ch o tr es op fo has (fun _ => 0) (0, 0, (fun _ => 0)) x10 hx10 2 72 2 72 (Nat.le_of_ble_eq_true rfl) (Nat.le_of_ble_eq_true rfl) (by omega) (by omega) ls H locs (lv_sub hl [4, 5, 3, 2, 1, 0] rfl) hP hD hS ?_
    intro ls H locs hl hP hD hS
    refine lv_bipush (v := (-101)) hx hb dL_isEnd_89 (by decide) ?_
    refine lv_istore (lv' := [(5, .int (-101)), (0, .ref h0), (1, .int n1), (2, .ref q3), (3, .ref q4), (4, .int x10.1)]) hx hb dL_isEnd_91 hl (by decide) rfl (fun ls hl => ?_)
    refine lv_iconst (v := 1) hx hb dL_isEnd_93 (by decide) ?_
    refine lv_iload hx hb dL_isEnd_94 (lv_at hl 5 rfl) ?_
    refine lv_ishl hx hb dL_isEnd_96 ?_
    refine lv_iconst (v := 1) hx hb dL_isEnd_97 (by decide) ?_
    refine lv_isub hx hb dL_isEnd_98 ?_
    obtain ⟨y11, ey11, hf⟩ := k_L hf
    refine k_name ey11 ?_
    refine lv_istore (lv' := [(6, .int y11), (5, .int (-101)), (0, .ref h0), (1, .int n1), (2, .ref q3), (3, .ref q4), (4, .int x10.1)]) hx hb dL_isEnd_99 hl (by decide) rfl (fun ls hl => ?_)
    have L101 : ∀ (Q : State → Prop) (n : Nat) (b1 : Int32) (b4 : Int32) (gm : k_G8) (sn : k_G8) (hs : Int32) (qs : k_Q4) (k0 : k_G8) (k1 : k_G8) (k2 : k_G8) (k3 : k_G8) (ch : Nat → Int32) (o : k_O5) (tr : k_G8) (es : Int32) (op : Nat → Int32) (fo : Nat → Int32) (has : Int32) (u1 : Nat → Int32) (s101 : Int32 × Int32 × (Nat → Int64)) (q : Int32 × Int32 × (Nat → Int64)), k_loop (t_L_isEnd_101 b1 b4 u1) n s101 = some q → ∀ (CX SX cells slots : Nat), CX ≤ rm_L_isEnd.cells → SX ≤ rm_L_isEnd.slots → cells + n * 0 ≤ CX → slots + n * 0 ≤ SX → ∀ (ls : Array Slot) (H : Heap) (locs : List Loc), lv_has ls 13 [(0, .ref h0), (1, .int b1), (2, .ref q3), (3, .ref q4), (4, .int b4), (5, .int s101.1), (6, .int s101.2.1)] → va_P D vwCl (wX7 cy h0 gma sna hia ka ora cha tra ena opa foa gm sn hs qs k0 k1 k2 k3 ch o tr es op fo has ++ [wR cy 0 8 q3 u1, wJ cy 64 q4 s101.2.2]) H → va_D A (wX7 cy h0 gma sna hia ka ora cha tra ena opa foa gm sn hs qs k0 k1 k2 k3 ch o tr es op fo has ++ [wR cy 0 8 q3 u1, wJ cy 64 q4 s101.2.2]) → va_S A s.heap H locs → (∀ (ls : Array Slot) (H : Heap) (locs : List Loc), lv_has ls 13 [(0, .ref h0), (3, .ref q4), (5, .int q.1)] → va_P D vwCl (wX7 cy h0 gma sna hia ka ora cha tra ena opa foa gm sn hs qs k0 k1 k2 k3 ch o tr es op fo has ++ [wR cy 0 8 q3 u1, wJ cy 64 q4 q.2.2]) H → va_D A (wX7 cy h0 gma sna hia ka ora cha tra ena opa foa gm sn hs qs k0 k1 k2 k3 ch o tr es op fo has ++ [wR cy 0 8 q3 u1, wJ cy 64 q4 q.2.2]) → va_S A s.heap H locs → W p l e rm_L_isEnd s m args below meth c H locs CX SX Q (F0 m 298 ls [])) → W p l e rm_L_isEnd s m args below meth c H locs cells slots Q (F0 m 101 ls []) := by
      intro Q n
      induction n with
      | zero =>
        intro b1 b4 gm sn hs qs k0 k1 k2 k3 ch o tr es op fo has u1 s101 q hq
        exact (k_loop0 hq).elim
      | succ n ih =>
        intro b1 b4 gm sn hs qs k0 k1 k2 k3 ch o tr es op fo has u1 s101 q hq CX SX cells slots hcx hsx hcc hss ls H locs hl hP hD hS kx
        obtain ⟨x, hf, hq⟩ := k_loopE hq
        unfold t_L_isEnd_101 at hf
        refine lv_iload hx hb dL_isEnd_101 (lv_at hl 6 rfl) ?_
        refine lv_if_lt (tgt := 298) hx hb dL_isEnd_103 (by decide) (fun c12 => ?_) (fun c12 => ?_)
        · have hf := k_T c12 hf
          refine W.widen (k := CX) (n := SX) (by omega) (by omega) ?_
          obtain rfl := k_some hf
          obtain rfl := k_some (k_inr hq)
          exact kx ls H locs (lv_sub hl [0, 3, 5] rfl) hP hD hS
        · have hf := k_F c12 hf
          refine lv_iload_n hx hb dL_isEnd_106 rfl (lv_at hl 1 rfl) ?_
          refine lv_istore (lv' := [(7, .int b1), (0, .ref h0), (1, .int b1), (2, .ref q3), (3, .ref q4), (4, .int b4), (5, .int s101.1), (6, .int s101.2.1)]) hx hb dL_isEnd_107 hl (by decide) rfl (fun ls hl => ?_)
          refine lv_iload hx hb dL_isEnd_109 (lv_at hl 7 rfl) ?_
          refine lv_iconst (v := 1) hx hb dL_isEnd_111 (by decide) ?_
          refine lv_iload hx hb dL_isEnd_112 (lv_at hl 5 rfl) ?_
          refine lv_ishl hx hb dL_isEnd_114 ?_
          refine lv_iconst (v := 1) hx hb dL_isEnd_115 (by decide) ?_
          refine lv_isub hx hb dL_isEnd_116 ?_
          obtain ⟨j13, hj13, hf⟩ := k_B hf
          refine k_joinH (nL := 13) (J := 126) (D := D) (A := A) (H0 := s.heap) (w' := (wX7 cy h0 gma sna hia ka ora cha tra ena opa foa gm sn hs qs k0 k1 k2 k3 ch o tr es op fo has ++ [wR cy 0 8 q3 u1, wJ cy 64 q4 s101.2.2])) (L := [(0, .ref h0), (1, .int b1), (2, .ref q3), (3, .ref q4), (4, .int b4), (5, .int s101.1), (6, .int s101.2.1), (7, .int b1)]) (stk := [.int j13]) (cells' := (cells + 0)) (slots' := (slots + 0)) (fun ls H locs hl hP hD hS => ?_) (fun kj13 => ?_)
          · refine lv_istore (lv' := [(8, .int j13), (0, .ref h0), (1, .int b1), (2, .ref q3), (3, .ref q4), (4, .int b4), (5, .int s101.1), (6, .int s101.2.1), (7, .int b1)]) hx hb dL_isEnd_126 hl (by decide) rfl (fun ls hl => ?_)
            refine lv_iconst (v := 0) hx hb dL_isEnd_128 (by decide) ?_
            refine lv_istore (lv' := [(9, .int 0), (8, .int j13), (0, .ref h0), (1, .int b1), (2, .ref q3), (3, .ref q4), (4, .int b4), (5, .int s101.1), (6, .int s101.2.1), (7, .int b1)]) hx hb dL_isEnd_129 hl (by decide) rfl (fun ls hl => ?_)
            have L131 : ∀ (Q : State → Prop) (n : Nat) (b1 : Int32) (b4 : Int32) (b5 : Int32) (b6 : Int32) (b8 : Int32) (gm : k_G8) (sn : k_G8) (hs : Int32) (qs : k_Q4) (k0 : k_G8) (k1 : k_G8) (k2 : k_G8) (k3 : k_G8) (ch : Nat → Int32) (o : k_O5) (tr : k_G8) (es : Int32) (op : Nat → Int32) (fo : Nat → Int32) (has : Int32) (u1 : Nat → Int32) (u2 : Nat → Int64) (s131 : Int32 × Int32) (q : Int32 × Int32), k_loop (t_L_isEnd_131 b1 b4 b5 b6 b8 u1) n s131 = some q → ∀ (CX SX cells slots : Nat), CX ≤ rm_L_isEnd.cells → SX ≤ rm_L_isEnd.slots → cells + n * 0 ≤ CX → slots + n * 0 ≤ SX → ∀ (ls : Array Slot) (H : Heap) (locs : List Loc), lv_has ls 13 [(0, .ref h0), (1, .int b1), (2, .ref q3), (3, .ref q4), (4, .int b4), (5, .int b5), (6, .int b6), (7, .int s131.1), (8, .int b8), (9, .int s131.2)] → va_P D vwCl (wX7 cy h0 gma sna hia ka ora cha tra ena opa foa gm sn hs qs k0 k1 k2 k3 ch o tr es op fo has ++ [wR cy 0 8 q3 u1, wJ cy 64 q4 u2]) H → va_D A (wX7 cy h0 gma sna hia ka ora cha tra ena opa foa gm sn hs qs k0 k1 k2 k3 ch o tr es op fo has ++ [wR cy 0 8 q3 u1, wJ cy 64 q4 u2]) → va_S A s.heap H locs → (∀ (ls : Array Slot) (H : Heap) (locs : List Loc), lv_has ls 13 [(0, .ref h0), (1, .int b1), (2, .ref q3), (3, .ref q4), (4, .int b4), (5, .int b5), (6, .int b6), (7, .int q.1), (8, .int b8)] → va_P D vwCl (wX7 cy h0 gma sna hia ka ora cha tra ena opa foa gm sn hs qs k0 k1 k2 k3 ch o tr es op fo has ++ [wR cy 0 8 q3 u1, wJ cy 64 q4 u2]) H → va_D A (wX7 cy h0 gma sna hia ka ora cha tra ena opa foa gm sn hs qs k0 k1 k2 k3 ch o tr es op fo has ++ [wR cy 0 8 q3 u1, wJ cy 64 q4 u2]) → va_S A s.heap H locs → W p l e rm_L_isEnd s m args below meth c H locs CX SX Q (F0 m 161 ls [])) → W p l e rm_L_isEnd s m args below meth c H locs cells slots Q (F0 m 131 ls []) := by
              intro Q n
              induction n with
              | zero =>
                intro b1 b4 b5 b6 b8 gm sn hs qs k0 k1 k2 k3 ch o tr es op fo has u1 u2 s131 q hq
                exact (k_loop0 hq).elim
              | succ n ih =>
                intro b1 b4 b5 b6 b8 gm sn hs qs k0 k1 k2 k3 ch o tr es op fo has u1 u2 s131 q hq CX SX cells slots hcx hsx hcc hss ls H locs hl hP hD hS kx
                obtain ⟨x, hf, hq⟩ := k_loopE hq
                unfold t_L_isEnd_131 at hf
                refine lv_iload hx hb dL_isEnd_131 (lv_at hl 9 rfl) ?_
                refine lv_iload hx hb dL_isEnd_133 (lv_at hl 4 rfl) ?_
                refine lv_icmp_ge (tgt := 161) hx hb dL_isEnd_135 (by decide) (fun c15 => ?_) (fun c15 => ?_)
                · have hf := k_T c15 hf
                  refine W.widen (k := CX) (n := SX) (by omega) (by omega) ?_
                  obtain rfl := k_some hf
                  obtain rfl := k_some (k_inr hq)
                  exact kx ls H locs (lv_sub hl [0, 1, 2, 3, 4, 5, 6, 7, 8] rfl) hP hD hS
                · have hf := k_F c15 hf
                  refine lv_iload hx hb dL_isEnd_138 (lv_at hl 7 rfl) ?_
                  refine lv_iload hx hb dL_isEnd_140 (lv_at hl 6 rfl) ?_
                  refine lv_iload hx hb dL_isEnd_142 (lv_at hl 9 rfl) ?_
                  refine lv_ishr hx hb dL_isEnd_144 ?_
                  refine lv_iconst (v := 1) hx hb dL_isEnd_145 (by decide) ?_
                  refine lv_iand hx hb dL_isEnd_146 ?_
                  refine lv_aload_n hx hb dL_isEnd_147 rfl (lv_at hl 2 rfl) ?_
                  refine lv_iload hx hb dL_isEnd_148 (lv_at hl 9 rfl) ?_
                  obtain ⟨g16, hf⟩ := k_G hf
                  refine va_iald hx hb hK hP 15 0 rfl rfl g16 dL_isEnd_150 ?_
                  refine lv_ishl hx hb dL_isEnd_151 ?_
                  obtain ⟨y17, ey17, hf⟩ := k_L hf
                  refine k_name ey17 ?_
                  refine lv_ior hx hb dL_isEnd_152 ?_
                  obtain ⟨y18, ey18, hf⟩ := k_L hf
                  refine k_name ey18 ?_
                  refine lv_istore (lv' := [(7, .int y18), (0, .ref h0), (1, .int b1), (2, .ref q3), (3, .ref q4), (4, .int b4), (5, .int b5), (6, .int b6), (8, .int b8), (9, .int s131.2)]) hx hb dL_isEnd_153 hl (by decide) rfl (fun ls hl => ?_)
                  refine lv_iinc (v := s131.2 + 1) (lv' := [(9, .int (s131.2 + 1)), (7, .int y18), (0, .ref h0), (1, .int b1), (2, .ref q3), (3, .ref q4), (4, .int b4), (5, .int b5), (6, .int b6), (8, .int b8)]) hx hb dL_isEnd_155 hl (k := 9) rfl rfl (by decide) rfl (fun ls hl => ?_)
                  refine lv_goto (tgt := 131) hx hb dL_isEnd_158 (by decide) ?_
                  refine W.widen (k := cells + 0) (n := slots + 0) (by omega) (by omega) ?_
                  obtain rfl := k_some hf
                  exact ih b1 b4 b5 b6 b8 gm sn hs qs k0 k1 k2 k3 ch o tr es op fo has u1 u2 (y18, s131.2 + 1) q (k_inl hq) CX SX (cells + 0) (slots + 0) hcx hsx (by omega) (by omega) ls H locs (lv_sub hl [2, 3, 4, 5, 6, 7, 8, 1, 9, 0] rfl) hP hD hS kx
            obtain ⟨x19, hx19, hf⟩ := k_B hf
            refine W.widen (k := (cells + 0)) (n := (slots + 0)) (by omega) (by omega) ?_
            refine L131 _ 1000 b1 b4 s101.1 s101.2.1 j13 gm sn hs qs k0 k1 k2 k3 ch o tr es op fo has u1 s101.2.2 (b1, 0) x19 hx19 (cells + 0) (slots + 0) (cells + 0) (slots + 0) (Nat.le_trans (by omega) hcx) (Nat.le_trans (by omega) hsx) (by omega) (by omega) ls H locs (lv_sub hl [2, 3, 4, 5, 6, 7, 8, 9, 1, 0] rfl) hP hD hS ?_
            intro ls H locs hl hP hD hS
            refine lv_iload hx hb dL_isEnd_161 (lv_at hl 4 rfl) ?_
            refine lv_iconst (v := 1) hx hb dL_isEnd_163 (by decide) ?_
            refine lv_isub hx hb dL_isEnd_164 ?_
            obtain ⟨y20, ey20, hf⟩ := k_L hf
            refine k_name ey20 ?_
            refine lv_istore (lv' := [(9, .int y20), (0, .ref h0), (1, .int b1), (2, .ref q3), (3, .ref q4), (4, .int b4), (5, .int s101.1), (6, .int s101.2.1), (7, .int x19.1), (8, .int j13)]) hx hb dL_isEnd_165 hl (by decide) rfl (fun ls hl => ?_)
            have L167 : ∀ (Q : State → Prop) (n : Nat) (b1 : Int32) (b4 : Int32) (b6 : Int32) (b7 : Int32) (gm : k_G8) (sn : k_G8) (hs : Int32) (qs : k_Q4) (k0 : k_G8) (k1 : k_G8) (k2 : k_G8) (k3 : k_G8) (ch : Nat → Int32) (o : k_O5) (tr : k_G8) (es : Int32) (op : Nat → Int32) (fo : Nat → Int32) (has : Int32) (u1 : Nat → Int32) (u2 : Nat → Int64) (s167 : Int32 × Int32 × Int32) (q : Int32 × Int32 × Int32), k_loop (t_L_isEnd_167 b1 b4 b6 b7 u1 u2) n s167 = some q → ∀ (CX SX cells slots : Nat), CX ≤ rm_L_isEnd.cells → SX ≤ rm_L_isEnd.slots → cells + n * 0 ≤ CX → slots + n * 0 ≤ SX → ∀ (ls : Array Slot) (H : Heap) (locs : List Loc), lv_has ls 13 [(0, .ref h0), (1, .int b1), (2, .ref q3), (3, .ref q4), (4, .int b4), (5, .int s167.1), (6, .int b6), (7, .int b7), (8, .int s167.2.1), (9, .int s167.2.2)] → va_P D vwCl (wX7 cy h0 gma sna hia ka ora cha tra ena opa foa gm sn hs qs k0 k1 k2 k3 ch o tr es op fo has ++ [wR cy 0 8 q3 u1, wJ cy 64 q4 u2]) H → va_D A (wX7 cy h0 gma sna hia ka ora cha tra ena opa foa gm sn hs qs k0 k1 k2 k3 ch o tr es op fo has ++ [wR cy 0 8 q3 u1, wJ cy 64 q4 u2]) → va_S A s.heap H locs → (∀ (ls : Array Slot) (H : Heap) (locs : List Loc), lv_has ls 13 [(0, .ref h0), (1, .int b1), (2, .ref q3), (3, .ref q4), (4, .int b4), (5, .int q.1), (6, .int b6), (8, .int q.2.1)] → va_P D vwCl (wX7 cy h0 gma sna hia ka ora cha tra ena opa foa gm sn hs qs k0 k1 k2 k3 ch o tr es op fo has ++ [wR cy 0 8 q3 u1, wJ cy 64 q4 u2]) H → va_D A (wX7 cy h0 gma sna hia ka ora cha tra ena opa foa gm sn hs qs k0 k1 k2 k3 ch o tr es op fo has ++ [wR cy 0 8 q3 u1, wJ cy 64 q4 u2]) → va_S A s.heap H locs → W p l e rm_L_isEnd s m args below meth c H locs CX SX Q (F0 m 269 ls [])) → W p l e rm_L_isEnd s m args below meth c H locs cells slots Q (F0 m 167 ls []) := by
              intro Q n
              induction n with
              | zero =>
                intro b1 b4 b6 b7 gm sn hs qs k0 k1 k2 k3 ch o tr es op fo has u1 u2 s167 q hq
                exact (k_loop0 hq).elim
              | succ n ih =>
                intro b1 b4 b6 b7 gm sn hs qs k0 k1 k2 k3 ch o tr es op fo has u1 u2 s167 q hq CX SX cells slots hcx hsx hcc hss ls H locs hl hP hD hS kx
                obtain ⟨x, hf, hq⟩ := k_loopE hq
                unfold t_L_isEnd_167 at hf
                refine lv_iload hx hb dL_isEnd_167 (lv_at hl 9 rfl) ?_
                refine lv_if_lt (tgt := 269) hx hb dL_isEnd_169 (by decide) (fun c21 => ?_) (fun c21 => ?_)
                · have hf := k_T c21 hf
                  refine W.widen (k := CX) (n := SX) (by omega) (by omega) ?_
                  obtain rfl := k_some hf
                  obtain rfl := k_some (k_inr hq)
                  exact kx ls H locs (lv_sub hl [0, 1, 2, 3, 4, 5, 6, 8] rfl) hP hD hS
                · have hf := k_F c21 hf
                  refine lv_iload hx hb dL_isEnd_172 (lv_at hl 6 rfl) ?_
                  refine lv_iload hx hb dL_isEnd_174 (lv_at hl 9 rfl) ?_
                  refine lv_ishr hx hb dL_isEnd_176 ?_
                  refine lv_iconst (v := 1) hx hb dL_isEnd_177 (by decide) ?_
                  refine lv_iand hx hb dL_isEnd_178 ?_
                  obtain ⟨j22, hj22, hf⟩ := k_B hf
                  refine k_joinH (nL := 13) (J := 263) (D := D) (A := A) (H0 := s.heap) (w' := (wX7 cy h0 gma sna hia ka ora cha tra ena opa foa gm sn hs qs k0 k1 k2 k3 ch o tr es op fo has ++ [wR cy 0 8 q3 u1, wJ cy 64 q4 u2])) (L := [(0, .ref h0), (1, .int b1), (2, .ref q3), (3, .ref q4), (4, .int b4), (5, .int j22.1), (6, .int b6), (7, .int b7), (8, .int j22.2), (9, .int s167.2.2)]) (stk := []) (cells' := (cells + 0)) (slots' := (slots + 0)) (fun ls H locs hl hP hD hS => ?_) (fun kj22 => ?_)
                  · refine lv_iinc (v := s167.2.2 + (-1)) (lv' := [(9, .int (s167.2.2 + (-1))), (0, .ref h0), (1, .int b1), (2, .ref q3), (3, .ref q4), (4, .int b4), (5, .int j22.1), (6, .int b6), (7, .int b7), (8, .int j22.2)]) hx hb dL_isEnd_263 hl (k := 9) rfl rfl (by decide) rfl (fun ls hl => ?_)
                    refine lv_goto (tgt := 167) hx hb dL_isEnd_266 (by decide) ?_
                    refine W.widen (k := cells + 0) (n := slots + 0) (by omega) (by omega) ?_
                    obtain rfl := k_some hf
                    exact ih b1 b4 b6 b7 gm sn hs qs k0 k1 k2 k3 ch o tr es op fo has u1 u2 (j22.1, j22.2, s167.2.2 + (-1)) q (k_inl hq) CX SX (cells + 0) (slots + 0) hcx hsx (by omega) (by omega) ls H locs (lv_sub hl [1, 2, 3, 4, 5, 6, 7, 8, 9, 0] rfl) hP hD hS kx
                  · have hf := hj22
                    refine lv_if_ne (tgt := 263) hx hb dL_isEnd_179 (by decide) (fun c23 => ?_) (fun c23 => ?_)
                    · have hf := k_F c23 hf
                      refine W.widen (k := (cells + 0)) (n := (slots + 0)) (by omega) (by omega) ?_
                      obtain rfl := k_some hf
                      exact kj22 ls H locs (lv_sub hl [0, 1, 2, 3, 4, 5, 6, 7, 8, 9] rfl) hP hD hS
                    · have hf := k_T c23 hf
                      refine lv_aload_n hx hb dL_isEnd_182 rfl (lv_at hl 3 rfl) ?_
                      refine lv_iload hx hb dL_isEnd_183 (lv_at hl 6 rfl) ?_
                      refine lv_iconst (v := 1) hx hb dL_isEnd_185 (by decide) ?_
                      refine lv_iload hx hb dL_isEnd_186 (lv_at hl 9 rfl) ?_
                      refine lv_ishl hx hb dL_isEnd_188 ?_
                      refine lv_ior hx hb dL_isEnd_189 ?_
                      obtain ⟨v24, hv24, hf⟩ := k_B hf
                      refine k_callHS (As := [.ref q4, .int (b6 ||| ((1 : Int32) <<< (s167.2.2 &&& 31)))]) (rest := []) (isC := [16]) (isR := [0, 1, 2, 3, 4, 5, 6, 7, 8, 9, 10, 11, 12, 13, 14, 15]) (perm := [0, 1, 2, 3, 4, 5, 6, 7, 8, 9, 10, 11, 12, 13, 14, 15, 16]) (w' := (wX7 cy h0 gma sna hia ka ora cha tra ena opa foa gm sn hs qs k0 k1 k2 k3 ch o tr es op fo has ++ [wR cy 0 8 q3 u1, wJ cy 64 q4 u2])) ⟨hx, hb, hml, hown, hts⟩ (c_L_value l D cy q4 u2 (b6 ||| ((1 : Int32) <<< (s167.2.2 &&& 31))) v24 hv24) (va_cwS 2 hts gL_isEnd_L_value rfl rfl rfl hd_L_value ⟨Nat.le_of_ble_eq_true rfl, Nat.le_of_ble_eq_true rfl⟩) hK hN hP hD hS hA rfl rfl rfl (by decide) (by decide) rfl (by decide) rfl hl.1 rfl (Nat.le_of_ble_eq_true rfl) dL_isEnd_190 ⟨Nat.le_trans (by omega) hcx, Nat.le_trans (by omega) hsx⟩ (fun H locs hP hD hS => ?_)
                      refine lv_istore (lv' := [(10, .int v24), (0, .ref h0), (1, .int b1), (2, .ref q3), (3, .ref q4), (4, .int b4), (5, .int s167.1), (6, .int b6), (7, .int b7), (8, .int s167.2.1), (9, .int s167.2.2)]) hx hb dL_isEnd_193 hl (by decide) rfl (fun ls hl => ?_)
                      refine lv_iload hx hb dL_isEnd_195 (lv_at hl 8 rfl) ?_
                      refine lv_aload_n hx hb dL_isEnd_197 rfl (lv_at hl 3 rfl) ?_
                      refine lv_iload hx hb dL_isEnd_198 (lv_at hl 10 rfl) ?_
                      obtain ⟨g25, hf⟩ := k_G hf
                      refine va_iald hx hb hK hP 15 0 rfl rfl g25 dL_isEnd_200 ?_
                      obtain ⟨v26, hv26, hf⟩ := k_B hf
                      refine k_callS (As := [.int b7, .int (u1 s167.2.2.toNatClampNeg)]) (rest := []) ⟨hx, hb, hml, hown, hts⟩ (c_L_close l b7 (u1 s167.2.2.toNatClampNeg) v26 hv26) (va_cwS 2 hts gL_isEnd_L_close rfl rfl rfl hd_L_close ⟨Nat.le_of_ble_eq_true rfl, Nat.le_of_ble_eq_true rfl⟩) rfl hl.1 rfl (Nat.le_of_ble_eq_true rfl) dL_isEnd_201 ⟨Nat.le_trans (by omega) hcx, Nat.le_trans (by omega) hsx⟩ ?_
                      refine lv_istore (lv' := [(11, .int v26), (10, .int v24), (0, .ref h0), (1, .int b1), (2, .ref q3), (3, .ref q4), (4, .int b4), (5, .int s167.1), (6, .int b6), (7, .int b7), (8, .int s167.2.1), (9, .int s167.2.2)]) hx hb dL_isEnd_204 hl (by decide) rfl (fun ls hl => ?_)
                      refine lv_iload hx hb dL_isEnd_206 (lv_at hl 0 rfl) ?_
                      obtain ⟨j27, hj27, hf⟩ := k_B hf
                      refine k_joinH (nL := 13) (J := 222) (D := D) (A := A) (H0 := s.heap) (w' := (wX7 cy h0 gma sna hia ka ora cha tra ena opa foa gm sn hs qs k0 k1 k2 k3 ch o tr es op fo has ++ [wR cy 0 8 q3 u1, wJ cy 64 q4 u2])) (L := [(0, .ref h0), (1, .int b1), (2, .ref q3), (3, .ref q4), (4, .int b4), (5, .int s167.1), (6, .int b6), (7, .int b7), (8, .int s167.2.1), (9, .int s167.2.2)]) (stk := [.int j27]) (cells' := (cells + 0)) (slots' := (slots + 0)) (fun ls H locs hl hP hD hS => ?_) (fun kj27 => ?_)
                      · refine lv_istore (lv' := [(12, .int j27), (0, .ref h0), (1, .int b1), (2, .ref q3), (3, .ref q4), (4, .int b4), (5, .int s167.1), (6, .int b6), (7, .int b7), (8, .int s167.2.1), (9, .int s167.2.2)]) hx hb dL_isEnd_222 hl (by decide) rfl (fun ls hl => ?_)
                        refine lv_iload hx hb dL_isEnd_224 (lv_at hl 7 rfl) ?_
                        obtain ⟨j29, hj29, hf⟩ := k_B hf
                        refine k_joinH (nL := 13) (J := 245) (D := D) (A := A) (H0 := s.heap) (w' := (wX7 cy h0 gma sna hia ka ora cha tra ena opa foa gm sn hs qs k0 k1 k2 k3 ch o tr es op fo has ++ [wR cy 0 8 q3 u1, wJ cy 64 q4 u2])) (L := [(0, .ref h0), (1, .int b1), (2, .ref q3), (3, .ref q4), (4, .int b4), (6, .int b6), (7, .int b7), (8, .int s167.2.1), (9, .int s167.2.2), (12, .int j27)]) (stk := [.int j29]) (cells' := (cells + 0)) (slots' := (slots + 0)) (fun ls H locs hl hP hD hS => ?_) (fun kj29 => ?_)
                        · refine lv_istore (lv' := [(5, .int j29), (0, .ref h0), (1, .int b1), (2, .ref q3), (3, .ref q4), (4, .int b4), (6, .int b6), (7, .int b7), (8, .int s167.2.1), (9, .int s167.2.2), (12, .int j27)]) hx hb dL_isEnd_245 hl (by decide) rfl (fun ls hl => ?_)
                          refine lv_iload hx hb dL_isEnd_247 (lv_at hl 10 rfl) ?_
                          refine lv_iload hx hb dL_isEnd_249 (lv_at hl 8 rfl) ?_
                          obtain ⟨j33, hj33, hf⟩ := k_B hf
                          refine k_joinH (nL := 13) (J := 261) (D := D) (A := A) (H0 := s.heap) (w' := (wX7 cy h0 gma sna hia ka ora cha tra ena opa foa gm sn hs qs k0 k1 k2 k3 ch o tr es op fo has ++ [wR cy 0 8 q3 u1, wJ cy 64 q4 u2])) (L := [(0, .ref h0), (1, .int b1), (2, .ref q3), (3, .ref q4), (4, .int b4), (5, .int j29), (6, .int b6), (7, .int b7), (9, .int s167.2.2)]) (stk := [.int j33]) (cells' := (cells + 0)) (slots' := (slots + 0)) (fun ls H locs hl hP hD hS => ?_) (fun kj33 => ?_)
                          · refine lv_istore (lv' := [(8, .int j33), (0, .ref h0), (1, .int b1), (2, .ref q3), (3, .ref q4), (4, .int b4), (5, .int j29), (6, .int b6), (7, .int b7), (9, .int s167.2.2)]) hx hb dL_isEnd_261 hl (by decide) rfl (fun ls hl => ?_)
                            refine W.widen (k := (cells + 0)) (n := (slots + 0)) (by omega) (by omega) ?_
                            obtain rfl := k_some hf
                            exact kj22 ls H locs (lv_sub hl [1, 2, 3, 4, 5, 6, 7, 8, 0, 9] rfl) hP hD hS
                          · have hf := hj33
                            refine lv_icmp_le (tgt := 259) hx hb dL_isEnd_251 (by decide) (fun c34 => ?_) (fun c34 => ?_)
                            · have hf := k_T c34 hf
                              refine lv_iload hx hb dL_isEnd_259 (lv_at hl 8 rfl) ?_
                              refine W.widen (k := (cells + 0)) (n := (slots + 0)) (by omega) (by omega) ?_
                              obtain rfl := k_some hf
                              exact kj33 ls H locs (lv_sub hl [1, 2, 3, 4, 5, 0, 6, 7, 9] rfl) hP hD hS
                            · have hf := k_F c34 hf
                              refine lv_iload hx hb dL_isEnd_254 (lv_at hl 10 rfl) ?_
                              refine lv_goto (tgt := 261) hx hb dL_isEnd_256 (by decide) ?_
                              refine W.widen (k := (cells + 0)) (n := (slots + 0)) (by omega) (by omega) ?_
                              obtain rfl := k_some hf
                              exact kj33 ls H locs (lv_sub hl [1, 2, 3, 4, 5, 0, 6, 7, 9] rfl) hP hD hS
                        · have hf := hj29
                          refine lv_if_ne (tgt := 243) hx hb dL_isEnd_226 (by decide) (fun c30 => ?_) (fun c30 => ?_)
                          · have hf := k_F c30 hf
                            refine lv_iload hx hb dL_isEnd_243 (lv_at hl 6 rfl) ?_
                            refine W.widen (k := (cells + 0)) (n := (slots + 0)) (by omega) (by omega) ?_
                            obtain rfl := k_some hf
                            exact kj29 ls H locs (lv_sub hl [1, 2, 3, 4, 5, 7, 8, 9, 10, 0] rfl) hP hD hS
                          · have hf := k_T c30 hf
                            refine lv_iload hx hb dL_isEnd_229 (lv_at hl 0 rfl) ?_
                            refine lv_iload hx hb dL_isEnd_231 (lv_at hl 9 rfl) ?_
                            refine lv_icmp_lt (tgt := 243) hx hb dL_isEnd_233 (by decide) (fun c31 => ?_) (fun c31 => ?_)
                            · have hf := k_T c31 hf
                              refine lv_iload hx hb dL_isEnd_243 (lv_at hl 6 rfl) ?_
                              refine W.widen (k := (cells + 0)) (n := (slots + 0)) (by omega) (by omega) ?_
                              obtain rfl := k_some hf
                              exact kj29 ls H locs (lv_sub hl [1, 2, 3, 4, 5, 7, 8, 9, 10, 0] rfl) hP hD hS
                            · have hf := k_F c31 hf
                              refine lv_aload_n hx hb dL_isEnd_236 rfl (lv_at hl 3 rfl) ?_
                              refine lv_iload hx hb dL_isEnd_237 (lv_at hl 10 rfl) ?_
                              obtain ⟨g32, hf⟩ := k_G hf
                              refine va_iald hx hb hK hP 15 0 rfl rfl g32 dL_isEnd_239 ?_
                              refine lv_goto (tgt := 245) hx hb dL_isEnd_240 (by decide) ?_
                              refine W.widen (k := (cells + 0)) (n := (slots + 0)) (by omega) (by omega) ?_
                              obtain rfl := k_some hf
                              exact kj29 ls H locs (lv_sub hl [1, 2, 3, 4, 5, 7, 8, 9, 10, 0] rfl) hP hD hS
                      · have hf := hj27
                        refine lv_if_le (tgt := 219) hx hb dL_isEnd_208 (by decide) (fun c28 => ?_) (fun c28 => ?_)
                        · have hf := k_T c28 hf
                          refine lv_iload hx hb dL_isEnd_219 (lv_at hl 1 rfl) ?_
                          refine lv_ineg hx hb dL_isEnd_221 ?_
                          refine W.widen (k := (cells + 0)) (n := (slots + 0)) (by omega) (by omega) ?_
                          obtain rfl := k_some hf
                          exact kj27 ls H locs (lv_sub hl [2, 3, 4, 5, 6, 7, 8, 9, 10, 11] rfl) hP hD hS
                        · have hf := k_F c28 hf
                          refine lv_iload hx hb dL_isEnd_211 (lv_at hl 0 rfl) ?_
                          refine lv_iload hx hb dL_isEnd_213 (lv_at hl 1 rfl) ?_
                          refine lv_iadd hx hb dL_isEnd_215 ?_
                          refine lv_goto (tgt := 222) hx hb dL_isEnd_216 (by decide) ?_
                          refine W.widen (k := (cells + 0)) (n := (slots + 0)) (by omega) (by omega) ?_
                          obtain rfl := k_some hf
                          exact kj27 ls H locs (lv_sub hl [2, 3, 4, 5, 6, 7, 8, 9, 10, 11] rfl) hP hD hS
            obtain ⟨x35, hx35, hf⟩ := k_B hf
            refine W.widen (k := (cells + 0)) (n := (slots + 0)) (by omega) (by omega) ?_
            refine L167 _ 1000 b1 b4 s101.2.1 x19.1 gm sn hs qs k0 k1 k2 k3 ch o tr es op fo has u1 s101.2.2 (s101.1, j13, y20) x35 hx35 (cells + 0) (slots + 0) (cells + 0) (slots + 0) (Nat.le_trans (by omega) hcx) (Nat.le_trans (by omega) hsx) (by omega) (by omega) ls H locs (lv_sub hl [1, 2, 3, 4, 5, 6, 7, 8, 9, 0] rfl) hP hD hS ?_
            intro ls H locs hl hP hD hS
            refine lv_aload_n hx hb dL_isEnd_269 rfl (lv_at hl 3 rfl) ?_
            refine lv_iload hx hb dL_isEnd_270 (lv_at hl 6 rfl) ?_
            refine lv_iconst (v := 4) hx hb dL_isEnd_272 (by decide) ?_
            refine lv_idiv hx hb dL_isEnd_273 (by decide) ?_
            refine lv_dup2_11 hx hb dL_isEnd_274 rfl rfl ?_
            obtain ⟨g36, hf⟩ := k_G hf
            refine va_lald hx hb hK hP 16 3 rfl rfl g36 dL_isEnd_275 ?_
            refine lv_iload hx hb dL_isEnd_276 (lv_at hl 7 rfl) ?_
            refine lv_bipush (v := 100) hx hb dL_isEnd_278 (by decide) ?_
            refine lv_iadd hx hb dL_isEnd_280 ?_
            refine lv_i2l hx hb dL_isEnd_281 rfl ?_
            refine lv_bipush (v := 16) hx hb dL_isEnd_282 (by decide) ?_
            refine lv_iload hx hb dL_isEnd_284 (lv_at hl 6 rfl) ?_
            refine lv_iconst (v := 4) hx hb dL_isEnd_286 (by decide) ?_
            refine lv_irem hx hb dL_isEnd_287 (by decide) ?_
            refine lv_imul hx hb dL_isEnd_288 ?_
            refine lv_lshl (v := ((x35.2.1 + 100).toInt64) <<< (((16 : Int32) * (s101.2.1 - s101.2.1 / 4 * 4)).toInt64 &&& 63)) hx hb dL_isEnd_289 rfl ?_
            refine lv_ladd hx hb dL_isEnd_290 ?_
            obtain ⟨g37, hf⟩ := k_G hf
            refine va_last hx hb hK hP hD hS 16 3 rfl rfl g37 dL_isEnd_291 (fun H locs hP hD hS => ?_)
            obtain ⟨w38, ew38, hf⟩ := k_L hf
            have hP : va_P D vwCl (wX7 cy h0 gma sna hia ka ora cha tra ena opa foa gm sn hs qs k0 k1 k2 k3 ch o tr es op fo has ++ [wR cy 0 8 q3 u1, wJ cy 64 q4 w38]) H := by rw [ew38]; exact hP
            have hD : va_D A (wX7 cy h0 gma sna hia ka ora cha tra ena opa foa gm sn hs qs k0 k1 k2 k3 ch o tr es op fo has ++ [wR cy 0 8 q3 u1, wJ cy 64 q4 w38]) := by rw [ew38]; exact hD
            refine lv_iinc (v := s101.2.1 + (-1)) (lv' := [(6, .int (s101.2.1 + (-1))), (0, .ref h0), (1, .int b1), (2, .ref q3), (3, .ref q4), (4, .int b4), (5, .int x35.1), (8, .int x35.2.1)]) hx hb dL_isEnd_292 hl (k := 6) rfl rfl (by decide) rfl (fun ls hl => ?_)
            refine lv_goto (tgt := 101) hx hb dL_isEnd_295 (by decide) ?_
            refine W.widen (k := cells + 0) (n := slots + 0) (by omega) (by omega) ?_
            obtain rfl := k_some hf
            exact ih b1 b4 gm sn hs qs k0 k1 k2 k3 ch o tr es op fo has u1 (x35.1, s101.2.1 + (-1), w38) q (k_inl hq) CX SX (cells + 0) (slots + 0) hcx hsx (by omega) (by omega) ls H locs (lv_sub hl [1, 2, 3, 4, 5, 6, 0] rfl) hP hD hS kx
          · have hf := hj13
            refine lv_icmp_ne (tgt := 124) hx hb dL_isEnd_117 (by decide) (fun c14 => ?_) (fun c14 => ?_)
            · have hf := k_F c14 hf
              refine lv_bipush (v := (-99)) hx hb dL_isEnd_124 (by decide) ?_
              refine W.widen (k := (cells + 0)) (n := (slots + 0)) (by omega) (by omega) ?_
              obtain rfl := k_some hf
              exact kj13 ls H locs (lv_sub hl [1, 2, 3, 4, 5, 6, 7, 0] rfl) hP hD hS
            · have hf := k_T c14 hf
              refine lv_iconst (v := 0) hx hb dL_isEnd_120 (by decide) ?_
              refine lv_goto (tgt := 126) hx hb dL_isEnd_121 (by decide) ?_
              refine W.widen (k := (cells + 0)) (n := (slots + 0)) (by omega) (by omega) ?_
              obtain rfl := k_some hf
              exact kj13 ls H locs (lv_sub hl [1, 2, 3, 4, 5, 6, 7, 0] rfl) hP hD hS
    obtain ⟨x39, hx39, hf⟩ := k_B hf
    refine W.widen (k := 2) (n := 72) (by omega) (by omega) ?_
    refine L101 _ 1000 n1 x10.1 gm sn hs qs k0 k1 k2 k3 ch o tr es op fo has x10.2.2 ((-101), y11, (fun _ => 0)) x39 hx39 2 72 2 72 (Nat.le_of_ble_eq_true rfl) (Nat.le_of_ble_eq_true rfl) (by omega) (by omega) ls H locs (lv_sub hl [2, 3, 4, 5, 6, 1, 0] rfl) hP hD hS ?_
    intro ls H locs hl hP hD hS
    refine lv_aload_n hx hb dL_isEnd_298 rfl (lv_at hl 0 rfl) ?_
    obtain ⟨v40, hv40, hf⟩ := k_B hf
    refine k_callLS (As := [.ref h0]) (rest := []) (isC := [0, 1, 2, 3, 4, 5, 6, 7, 8, 9, 10, 11, 12, 13, 14]) (isR := [15, 16]) (perm := [2, 3, 4, 5, 6, 7, 8, 9, 10, 11, 12, 13, 14, 15, 16, 0, 1]) (w' := (wX7 cy h0 gma sna hia ka ora cha tra ena opa foa gm sn hs qs k0 k1 k2 k3 ch o tr v40.2.1 v40.2.2.1 v40.2.2.2 has ++ [wR cy 0 8 q3 x10.2.2, wJ cy 64 q4 x39.2.2])) ⟨hx, hb, hml, hown, hts⟩ (c_L_endDifferenceOf l hl9 D cy h0 gma sna hia ka ora cha tra ena opa foa gm sn hs qs k0 k1 k2 k3 ch o tr es op fo has  v40 hv40) (vx_cwSW 1 hts gL_isEnd_L_endDifferenceOf rfl rfl rfl hd_L_endDifferenceOf ⟨Nat.le_of_ble_eq_true rfl, Nat.le_of_ble_eq_true rfl⟩) hK hN hT hZ hCx hP hD hS hA rfl rfl rfl (by decide) (by decide) rfl (by decide) rfl hl.1 rfl (Nat.le_of_ble_eq_true rfl) dL_isEnd_299 ⟨Nat.le_of_ble_eq_true rfl, Nat.le_of_ble_eq_true rfl⟩ (fun H locs hP hD hS => ?_)
    refine lv_aload_n hx hb dL_isEnd_302 rfl (lv_at hl 1 rfl) ?_
    refine lv_iconst (v := 0) hx hb dL_isEnd_303 (by decide) ?_
    obtain ⟨v41, hv41, hf⟩ := k_B hf
    refine k_callHS (As := [.ref q4, .int 0]) (rest := [.int v40.1]) (isC := [16]) (isR := [0, 1, 2, 3, 4, 5, 6, 7, 8, 9, 10, 11, 12, 13, 14, 15]) (perm := [0, 1, 2, 3, 4, 5, 6, 7, 8, 9, 10, 11, 12, 13, 14, 15, 16]) (w' := (wX7 cy h0 gma sna hia ka ora cha tra ena opa foa gm sn hs qs k0 k1 k2 k3 ch o tr v40.2.1 v40.2.2.1 v40.2.2.2 has ++ [wR cy 0 8 q3 x10.2.2, wJ cy 64 q4 x39.2.2])) ⟨hx, hb, hml, hown, hts⟩ (c_L_value l D cy q4 x39.2.2 0 v41 hv41) (va_cwS 2 hts gL_isEnd_L_value rfl rfl rfl hd_L_value ⟨Nat.le_of_ble_eq_true rfl, Nat.le_of_ble_eq_true rfl⟩) hK hN hP hD hS hA rfl rfl rfl (by decide) (by decide) rfl (by decide) rfl hl.1 rfl (Nat.le_of_ble_eq_true rfl) dL_isEnd_304 ⟨Nat.le_of_ble_eq_true rfl, Nat.le_of_ble_eq_true rfl⟩ (fun H locs hP hD hS => ?_)
    obtain ⟨j42, hj42, hf⟩ := k_B hf
    refine k_joinH (nL := 13) (J := 336) (D := D) (A := A) (H0 := s.heap) (w' := (wX7 cy h0 gma sna hia ka ora cha tra ena opa foa gm sn hs qs k0 k1 k2 k3 ch o tr j42.2.1 j42.2.2.1 j42.2.2.2 has ++ [wR cy 0 8 q3 x10.2.2, wJ cy 64 q4 x39.2.2])) (L := []) (stk := [.int j42.1]) (cells' := 5) (slots' := 90) (fun ls H locs hl hP hD hS => ?_) (fun kj42 => ?_)
    · have hP := hP.sub (ws' := (wX7 cy h0 gma sna hia ka ora cha tra ena opa foa gm sn hs qs k0 k1 k2 k3 ch o tr j42.2.1 j42.2.2.1 j42.2.2.2 has)) [0, 1, 2, 3, 4, 5, 6, 7, 8, 9, 10, 11, 12, 13, 14] rfl
      have hD := hD.sub (ws' := (wX7 cy h0 gma sna hia ka ora cha tra ena opa foa gm sn hs qs k0 k1 k2 k3 ch o tr j42.2.1 j42.2.2.1 j42.2.2.2 has)) [0, 1, 2, 3, 4, 5, 6, 7, 8, 9, 10, 11, 12, 13, 14] rfl rfl
      refine W.widen (k := 5) (n := 90) (by omega) (by omega) ?_
      obtain ⟨rfl, hn⟩ := k_boolR hf
      exact k_azret hx hb hr hn hP hD hS dL_isEnd_336 hlocks
    · have hf := hj42
      refine lv_icmp_ne (tgt := 335) hx hb dL_isEnd_307 (by decide) (fun c43 => ?_) (fun c43 => ?_)
      · have hf := k_F c43 hf
        refine lv_iconst (v := 0) hx hb dL_isEnd_335 (by decide) ?_
        refine W.widen (k := 5) (n := 90) (by omega) (by omega) ?_
        obtain rfl := k_some hf
        exact kj42 ls H locs (lv_sub hl [] rfl) hP hD hS
      · have hf := k_T c43 hf
        refine lv_aload_n hx hb dL_isEnd_310 rfl (lv_at hl 0 rfl) ?_
        obtain ⟨v44, hv44, hf⟩ := k_B hf
        refine k_callLS (As := [.ref h0]) (rest := []) (isC := [0, 1, 2, 3, 4, 5, 6, 7, 8, 9, 10, 11, 12, 13, 14]) (isR := [15, 16]) (perm := [2, 3, 4, 5, 6, 7, 8, 9, 10, 11, 12, 13, 14, 15, 16, 0, 1]) (w' := (wX7 cy h0 gma sna hia ka ora cha tra ena opa foa gm sn hs qs k0 k1 k2 k3 ch o tr v40.2.1 v40.2.2.1 v40.2.2.2 has ++ [wR cy 0 8 q3 x10.2.2, wJ cy 64 q4 x39.2.2])) ⟨hx, hb, hml, hown, hts⟩ (c_L_endByTryingOf l hl9 D cy h0 gma sna hia ka ora cha tra ena opa foa gm sn hs qs k0 k1 k2 k3 ch o tr v40.2.1 v40.2.2.1 v40.2.2.2 has  v44 hv44) (vx_cwSW 1 hts gL_isEnd_L_endByTryingOf rfl rfl rfl hd_L_endByTryingOf ⟨Nat.le_of_ble_eq_true rfl, Nat.le_of_ble_eq_true rfl⟩) hK hN hT hZ hCx hP hD hS hA rfl rfl rfl (by decide) (by decide) rfl (by decide) rfl hl.1 rfl (Nat.le_of_ble_eq_true rfl) dL_isEnd_311 ⟨Nat.le_of_ble_eq_true rfl, Nat.le_of_ble_eq_true rfl⟩ (fun H locs hP hD hS => ?_)
        refine lv_aload_n hx hb dL_isEnd_314 rfl (lv_at hl 1 rfl) ?_
        refine lv_iconst (v := 0) hx hb dL_isEnd_315 (by decide) ?_
        obtain ⟨v45, hv45, hf⟩ := k_B hf
        refine k_callHS (As := [.ref q4, .int 0]) (rest := [.int v44]) (isC := [16]) (isR := [0, 1, 2, 3, 4, 5, 6, 7, 8, 9, 10, 11, 12, 13, 14, 15]) (perm := [0, 1, 2, 3, 4, 5, 6, 7, 8, 9, 10, 11, 12, 13, 14, 15, 16]) (w' := (wX7 cy h0 gma sna hia ka ora cha tra ena opa foa gm sn hs qs k0 k1 k2 k3 ch o tr v40.2.1 v40.2.2.1 v40.2.2.2 has ++ [wR cy 0 8 q3 x10.2.2, wJ cy 64 q4 x39.2.2])) ⟨hx, hb, hml, hown, hts⟩ (c_L_value l D cy q4 x39.2.2 0 v45 hv45) (va_cwS 2 hts gL_isEnd_L_value rfl rfl rfl hd_L_value ⟨Nat.le_of_ble_eq_true rfl, Nat.le_of_ble_eq_true rfl⟩) hK hN hP hD hS hA rfl rfl rfl (by decide) (by decide) rfl (by decide) rfl hl.1 rfl (Nat.le_of_ble_eq_true rfl) dL_isEnd_316 ⟨Nat.le_of_ble_eq_true rfl, Nat.le_of_ble_eq_true rfl⟩ (fun H locs hP hD hS => ?_)
        refine lv_icmp_ne (tgt := 335) hx hb dL_isEnd_319 (by decide) (fun c46 => ?_) (fun c46 => ?_)
        · have hf := k_F c46 hf
          refine lv_iconst (v := 0) hx hb dL_isEnd_335 (by decide) ?_
          refine W.widen (k := 5) (n := 90) (by omega) (by omega) ?_
          obtain rfl := k_some hf
          exact kj42 ls H locs (lv_sub hl [] rfl) hP hD hS
        · have hf := k_T c46 hf
          refine lv_aload_n hx hb dL_isEnd_322 rfl (lv_at hl 0 rfl) ?_
          obtain ⟨v47, hv47, hf⟩ := k_B hf
          refine k_callLS (As := [.ref h0]) (rest := []) (isC := [0, 1, 2, 3, 4, 5, 6, 7, 8, 9, 10, 11, 12, 13, 14]) (isR := [15, 16]) (perm := [2, 3, 4, 5, 6, 7, 8, 9, 10, 11, 12, 13, 14, 15, 16, 0, 1]) (w' := (wX7 cy h0 gma sna hia ka ora cha tra ena opa foa gm sn hs qs k0 k1 k2 k3 ch o tr v47.2.1 v47.2.2.1 v47.2.2.2 has ++ [wR cy 0 8 q3 x10.2.2, wJ cy 64 q4 x39.2.2])) ⟨hx, hb, hml, hown, hts⟩ (c_L_bestFenceOf l hl9 D cy h0 gma sna hia ka ora cha tra ena opa foa gm sn hs qs k0 k1 k2 k3 ch o tr v40.2.1 v40.2.2.1 v40.2.2.2 has  v47 hv47) (vx_cwSW 1 hts gL_isEnd_L_bestFenceOf rfl rfl rfl hd_L_bestFenceOf ⟨Nat.le_of_ble_eq_true rfl, Nat.le_of_ble_eq_true rfl⟩) hK hN hT hZ hCx hP hD hS hA rfl rfl rfl (by decide) (by decide) rfl (by decide) rfl hl.1 rfl (Nat.le_of_ble_eq_true rfl) dL_isEnd_323 ⟨Nat.le_of_ble_eq_true rfl, Nat.le_of_ble_eq_true rfl⟩ (fun H locs hP hD hS => ?_)
          refine lv_iload hx hb dL_isEnd_326 (lv_at hl 2 rfl) ?_
          refine lv_icmp_ne (tgt := 335) hx hb dL_isEnd_328 (by decide) (fun c48 => ?_) (fun c48 => ?_)
          · have hf := k_F c48 hf
            refine lv_iconst (v := 0) hx hb dL_isEnd_335 (by decide) ?_
            refine W.widen (k := 5) (n := 90) (by omega) (by omega) ?_
            obtain rfl := k_some hf
            exact kj42 ls H locs (lv_sub hl [] rfl) hP hD hS
          · have hf := k_T c48 hf
            refine lv_iconst (v := 1) hx hb dL_isEnd_331 (by decide) ?_
            refine lv_goto (tgt := 336) hx hb dL_isEnd_332 (by decide) ?_
            refine W.widen (k := 5) (n := 90) (by omega) (by omega) ?_
            obtain rfl := k_some hf
            exact kj42 ls H locs (lv_sub hl [] rfl) hP hD hS
  · have hf := k_F c2 hf
    refine lv_aload_n hx hb dL_isEnd_9 rfl (lv_at hl 0 rfl) ?_
    obtain ⟨v49, hv49, hf⟩ := k_B hf
    refine k_callLS (As := [.ref h0]) (rest := []) (isC := [0, 1, 2, 3, 4, 5, 6, 7, 8, 9, 10, 11, 12, 13, 14]) (isR := []) (perm := [0, 1, 2, 3, 4, 5, 6, 7, 8, 9, 10, 11, 12, 13, 14]) (w' := (wX7 cy h0 gma sna hia ka ora cha tra ena opa foa gm sn hs qs k0 k1 k2 k3 ch o tr v49.2.1 v49.2.2.1 v49.2.2.2 has)) ⟨hx, hb, hml, hown, hts⟩ (c_L_endDifferenceOf l hl9 D cy h0 gma sna hia ka ora cha tra ena opa foa gm sn hs qs k0 k1 k2 k3 ch o tr es op fo has  v49 hv49) (vx_cwSW 1 hts gL_isEnd_L_endDifferenceOf rfl rfl rfl hd_L_endDifferenceOf ⟨Nat.le_of_ble_eq_true rfl, Nat.le_of_ble_eq_true rfl⟩) hK hN hT hZ hCx hP hD hS hA rfl rfl rfl (by decide) (by decide) rfl (by decide) rfl hl.1 rfl (Nat.le_of_ble_eq_true rfl) dL_isEnd_10 ⟨Nat.le_of_ble_eq_true rfl, Nat.le_of_ble_eq_true rfl⟩ (fun H locs hP hD hS => ?_)
    refine lv_bipush (v := (-101)) hx hb dL_isEnd_13 (by decide) ?_
    obtain ⟨j50, hj50, hf⟩ := k_B hf
    refine k_joinH (nL := 13) (J := 41) (D := D) (A := A) (H0 := s.heap) (w' := (wX7 cy h0 gma sna hia ka ora cha tra ena opa foa gm sn hs qs k0 k1 k2 k3 ch o tr j50.2.1 j50.2.2.1 j50.2.2.2 has)) (L := []) (stk := [.int j50.1]) (cells' := 3) (slots' := 18) (fun ls H locs hl hP hD hS => ?_) (fun kj50 => ?_)
    · have hP := hP.sub (ws' := (wX7 cy h0 gma sna hia ka ora cha tra ena opa foa gm sn hs qs k0 k1 k2 k3 ch o tr j50.2.1 j50.2.2.1 j50.2.2.2 has)) [0, 1, 2, 3, 4, 5, 6, 7, 8, 9, 10, 11, 12, 13, 14] rfl
      have hD := hD.sub (ws' := (wX7 cy h0 gma sna hia ka ora cha tra ena opa foa gm sn hs qs k0 k1 k2 k3 ch o tr j50.2.1 j50.2.2.1 j50.2.2.2 has)) [0, 1, 2, 3, 4, 5, 6, 7, 8, 9, 10, 11, 12, 13, 14] rfl rfl
      refine W.widen (k := 5) (n := 90) (by omega) (by omega) ?_
      obtain ⟨rfl, hn⟩ := k_boolR hf
      exact k_azret hx hb hr hn hP hD hS dL_isEnd_41 hlocks
    · have hf := hj50
      refine lv_icmp_ne (tgt := 40) hx hb dL_isEnd_15 (by decide) (fun c51 => ?_) (fun c51 => ?_)
      · have hf := k_F c51 hf
        refine lv_iconst (v := 0) hx hb dL_isEnd_40 (by decide) ?_
        refine W.widen (k := 3) (n := 18) (by omega) (by omega) ?_
        obtain rfl := k_some hf
        exact kj50 ls H locs (lv_sub hl [] rfl) hP hD hS
      · have hf := k_T c51 hf
        refine lv_aload_n hx hb dL_isEnd_18 rfl (lv_at hl 0 rfl) ?_
        obtain ⟨v52, hv52, hf⟩ := k_B hf
        refine k_callLS (As := [.ref h0]) (rest := []) (isC := [0, 1, 2, 3, 4, 5, 6, 7, 8, 9, 10, 11, 12, 13, 14]) (isR := []) (perm := [0, 1, 2, 3, 4, 5, 6, 7, 8, 9, 10, 11, 12, 13, 14]) (w' := (wX7 cy h0 gma sna hia ka ora cha tra ena opa foa gm sn hs qs k0 k1 k2 k3 ch o tr v49.2.1 v49.2.2.1 v49.2.2.2 has)) ⟨hx, hb, hml, hown, hts⟩ (c_L_endByTryingOf l hl9 D cy h0 gma sna hia ka ora cha tra ena opa foa gm sn hs qs k0 k1 k2 k3 ch o tr v49.2.1 v49.2.2.1 v49.2.2.2 has  v52 hv52) (vx_cwSW 1 hts gL_isEnd_L_endByTryingOf rfl rfl rfl hd_L_endByTryingOf ⟨Nat.le_of_ble_eq_true rfl, Nat.le_of_ble_eq_true rfl⟩) hK hN hT hZ hCx hP hD hS hA rfl rfl rfl (by decide) (by decide) rfl (by decide) rfl hl.1 rfl (Nat.le_of_ble_eq_true rfl) dL_isEnd_19 ⟨Nat.le_of_ble_eq_true rfl, Nat.le_of_ble_eq_true rfl⟩ (fun H locs hP hD hS => ?_)
        refine lv_bipush (v := (-101)) hx hb dL_isEnd_22 (by decide) ?_
        refine lv_icmp_ne (tgt := 40) hx hb dL_isEnd_24 (by decide) (fun c53 => ?_) (fun c53 => ?_)
        · have hf := k_F c53 hf
          refine lv_iconst (v := 0) hx hb dL_isEnd_40 (by decide) ?_
          refine W.widen (k := 3) (n := 18) (by omega) (by omega) ?_
          obtain rfl := k_some hf
          exact kj50 ls H locs (lv_sub hl [] rfl) hP hD hS
        · have hf := k_T c53 hf
          refine lv_aload_n hx hb dL_isEnd_27 rfl (lv_at hl 0 rfl) ?_
          obtain ⟨v54, hv54, hf⟩ := k_B hf
          refine k_callLS (As := [.ref h0]) (rest := []) (isC := [0, 1, 2, 3, 4, 5, 6, 7, 8, 9, 10, 11, 12, 13, 14]) (isR := []) (perm := [0, 1, 2, 3, 4, 5, 6, 7, 8, 9, 10, 11, 12, 13, 14]) (w' := (wX7 cy h0 gma sna hia ka ora cha tra ena opa foa gm sn hs qs k0 k1 k2 k3 ch o tr v54.2.1 v54.2.2.1 v54.2.2.2 has)) ⟨hx, hb, hml, hown, hts⟩ (c_L_bestFenceOf l hl9 D cy h0 gma sna hia ka ora cha tra ena opa foa gm sn hs qs k0 k1 k2 k3 ch o tr v49.2.1 v49.2.2.1 v49.2.2.2 has  v54 hv54) (vx_cwSW 1 hts gL_isEnd_L_bestFenceOf rfl rfl rfl hd_L_bestFenceOf ⟨Nat.le_of_ble_eq_true rfl, Nat.le_of_ble_eq_true rfl⟩) hK hN hT hZ hCx hP hD hS hA rfl rfl rfl (by decide) (by decide) rfl (by decide) rfl hl.1 rfl (Nat.le_of_ble_eq_true rfl) dL_isEnd_28 ⟨Nat.le_of_ble_eq_true rfl, Nat.le_of_ble_eq_true rfl⟩ (fun H locs hP hD hS => ?_)
          refine lv_bipush (v := (-101)) hx hb dL_isEnd_31 (by decide) ?_
          refine lv_icmp_ne (tgt := 40) hx hb dL_isEnd_33 (by decide) (fun c55 => ?_) (fun c55 => ?_)
          · have hf := k_F c55 hf
            refine lv_iconst (v := 0) hx hb dL_isEnd_40 (by decide) ?_
            refine W.widen (k := 3) (n := 18) (by omega) (by omega) ?_
            obtain rfl := k_some hf
            exact kj50 ls H locs (lv_sub hl [] rfl) hP hD hS
          · have hf := k_T c55 hf
            refine lv_iconst (v := 1) hx hb dL_isEnd_36 (by decide) ?_
            refine lv_goto (tgt := 41) hx hb dL_isEnd_37 (by decide) ?_
            refine W.widen (k := 3) (n := 18) (by omega) (by omega) ?_
            obtain rfl := k_some hf
            exact kj50 ls H locs (lv_sub hl [] rfl) hP hD hS
