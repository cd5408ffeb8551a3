def t_L_areChains_13 (b1 : Int32) (gm : k_G8) (s13 : Int32 × Int32 × Int32 × Int32 × Int32) : Option ((Int32 × Int32 × Int32 × Int32 × Int32) ⊕ (Int32 × Int32 × Int32 × Int32 × Int32)) :=
  if 12 ≤ s13.2.2.2.2 then
    some (.inr (s13.1, s13.2.1, s13.2.2.1, s13.2.2.2.1, s13.2.2.2.2))
  else
    (f_L_chain b1 s13.2.2.2.2).bind fun v2 =>
    Option.bind (α := Int32) (
        if v2 = 0 then
          some 0
        else
          if (v2 &&& (((1 : Int32) <<< (s13.2.2.2.2 &&& 31)) - 1)) = 0 then
            some 1
          else
            some 0
      ) fun j3 =>
    Option.bind (α := Int32) (
        if j3 = 0 then
          some 0
        else
          (f_L_isRing b1 v2).bind fun v8 =>
          if v8 = 0 then
            some 0
          else
            some 1
      ) fun j6 =>
    Option.bind (α := Int32) (
        if j3 = 0 then
          some 0
        else
          some 1
      ) fun j10 =>
    k_let (s13.1 + j10) fun y12 =>
    Option.bind (α := Int32) (
        if j6 = 0 then
          some 0
        else
          some 1
      ) fun j13 =>
    k_let (s13.2.1 + j13) fun y15 =>
    Option.bind (α := Int32) (
        if j3 = 0 then
          some 0
        else
          if j6 = 0 then
            (f_L_count v2).bind fun v19 =>
            if v19 ≤ 2 then
              some 0
            else
              some 1
          else
            some 0
      ) fun j16 =>
    k_let (s13.2.2.1 + j16) fun y21 =>
    Option.bind (α := Int32) (
        if s13.2.2.2.1 = 0 then
          some 0
        else
          (f_L_chainOfOf s13.2.2.2.2 gm).bind fun v24 =>
          Option.bind (α := Int32) (
              if v2 = 0 then
                some (-102)
              else
                (f_L_count v2).bind fun v27 =>
                some v27
            ) fun j25 =>
          if v24 = j25 then
            some 1
          else
            some 0
      ) fun j22 =>
    some (.inl (y12, y15, y21, j22, s13.2.2.2.2 + 1))
def f_L_areChains (n1 : Int32) (gm : k_G8) : Option (Int32) :=
  (k_loop (t_L_areChains_13 n1 gm) 70 (0, 0, 0, 1, 0)).bind fun x29 =>
  Option.bind (α := Int32) (
      if x29.2.2.2.1 = 0 then
        some 0
      else
        (f_X7_chains gm).bind fun v32 =>
        if v32 = x29.1 then
          (f_X7_rings gm).bind fun v34 =>
          if v34 = x29.2.1 then
            (f_X7_longChains gm).bind fun v36 =>
            if v36 = x29.2.2.1 then
              (f_X7_ruleHoldsFor gm).bind fun v38 =>
              if v38 = (x29.2.2.1 - x29.2.2.1 / 2 * 2) then
                some 1
              else
                some 0
            else
              some 0
          else
            some 0
        else
          some 0
    ) fun j30 =>
  if j30 = 0 ∨ j30 = 1 then some j30 else none
abbrev rm_L_areChains : Room := { frames := 8, cells := 70, slots := 420, locals := 141 }
theorem hd_L_areChains : yL_areChains.cls ≠ "java/lang/invoke/MethodHandle" ∧ yL_areChains.cls ≠ "java/lang/invoke/VarHandle" ∧ (parseMethodDescriptor yL_areChains.desc).map (fun d => d.parameters.length) = some 2 := by decide +kernel
set_option maxHeartbeats 8000000 in
set_option maxRecDepth 100000 in
theorem c_L_areChains (l : Launch) (hl9 : l.stackTraces = false) (D : va_G) (cy : Nat → ClassId) (h0 gma sna hia ka ora cha tra ena opa foa : Nat) (gm : k_G8) (sn : k_G8) (hs : Int32) (qs : k_Q4) (k0 : k_G8) (k1 : k_G8) (k2 : k_G8) (k3 : k_G8) (ch : Nat → Int32) (o : k_O5) (tr : k_G8) (es : Int32) (op : Nat → Int32) (fo : Nat → Int32) (has : Int32) (n1 : Int32) (r : Int32) (hf : f_L_areChains n1 gm = some r) : k_LMet l yL_areChains wsL_areChains rm_L_areChains D (k_tys cy) [.ref h0, .int n1] (wX7 cy h0 gma sna hia ka ora cha tra ena opa foa gm sn hs qs k0 k1 k2 k3 ch o tr es op fo has) (some (.int r)) (wX7 cy h0 gma sna hia ka ora cha tra ena opa foa gm sn hs qs k0 k1 k2 k3 ch o tr es op fo has) 70 420 := by
  refine k_lawOf0 (cc := cL_areChains) (maxL := 10) (ret := (some .boolean)) (by decide) rfl (Nat.le_of_ble_eq_true rfl) ?_
  intro p e s m args below meth c ls A hx hb hr hlocks hml hown hts hl hA hK hP hD hN hT hZ hCx
  have hl : lv_has ls 10 [(0, .ref h0), (1, .int n1)] := hl
  have hS : va_S A s.heap s.heap [] := va_S.rf
  unfold f_L_areChains at hf
  obtain ⟨H, eH⟩ : ∃ H, H = s.heap := ⟨_, rfl⟩
  obtain ⟨locs, elocs⟩ : ∃ L : List Loc, L = [] := ⟨_, rfl⟩
  have hP : va_P D vwCl (wX7 cy h0 gma sna hia ka ora cha tra ena opa foa gm sn hs qs k0 k1 k2 k3 ch o tr es op fo has) H := by rw [eH]; exact hP
  have hS : va_S A s.heap H locs := by rw [eH, elocs]; exact hS
  refine k_here eH elocs ?_
  refine lv_iconst (v := 0) hx hb dL_areChains_0 (by decide) ?_
  refine lv_istore_n (lv' := [(2, .int 0), (0, .ref h0), (1, .int n1)]) hx hb dL_areChains_1 rfl hl (by decide) rfl (fun ls hl => ?_)
  refine lv_iconst (v := 0) hx hb dL_areChains_2 (by decide) ?_
  refine lv_istore_n (lv' := [(3, .int 0), (2, .int 0), (0, .ref h0), (1, .int n1)]) hx hb dL_areChains_3 rfl hl (by decide) rfl (fun ls hl => ?_)
  refine lv_iconst (v := 0) hx hb dL_areChains_4 (by decide) ?_
  refine lv_istore (lv' := [(4, .int 0), (3, .int 0), (2, .int 0), (0, .ref h0), (1, .int n1)]) hx hb dL_areChains_5 hl (by decide) rfl (fun ls hl => ?_)
  refine lv_iconst (v := 1) hx hb dL_areChains_7 (by decide) ?_
  refine lv_istore (lv' := [(5, .int 1), (4, .int 0), (3, .int 0), (2, .int 0), (0, .ref h0), (1, .int n1)]) hx hb dL_areChains_8 hl (by decide) rfl (fun ls hl => ?_)
  refine lv_iconst (v := 0) hx hb dL_areChains_10 (by decide) ?_
  refine lv_istore (lv' := [(6, .int 0), (5, .int 1), (4, .int 0), (3, .int 0), (2, .int 0), (0, .ref h0), (1, .int n1)]) hx hb dL_areChains_11 hl (by decide) rfl (fun ls hl => ?_)
  have L13 : ∀ (Q : State → Prop) (n : Nat) (b1 : Int32) (gm : k_G8) (sn : k_G8) (hs : Int32) (qs : k_Q4) (k0 : k_G8) (k1 : k_G8) (k2 : k_G8) (k3 : k_G8) (ch : Nat → Int32) (o : k_O5) (tr : k_G8) (es : Int32) (op : Nat → Int32) (fo : Nat → Int32) (has : Int32) (s13 : Int32 × Int32 × Int32 × Int32 × Int32) (q : Int32 × Int32 × Int32 × Int32 × Int32), k_loop (t_L_areChains_13 b1 gm) n s13 = some q → ∀ (CX SX cells slots : Nat), CX ≤ rm_L_areChains.cells → SX ≤ rm_L_areChains.slots → cells + n * 1 ≤ CX → slots + n * 6 ≤ SX → ∀ (ls : Array Slot) (H : Heap) (locs : List Loc), lv_has ls 10 [(0, .ref h0), (1, .int b1), (2, .int s13.1), (3, .int s13.2.1), (4, .int s13.2.2.1), (5, .int s13.2.2.2.1), (6, .int s13.2.2.2.2)] → va_P D vwCl (wX7 cy h0 gma sna hia ka ora cha tra ena opa foa gm sn hs qs k0 k1 k2 k3 ch o tr es op fo has) H → va_D A (wX7 cy h0 gma sna hia ka ora cha tra ena opa foa gm sn hs qs k0 k1 k2 k3 ch o tr es op fo has) → va_S A s.heap H locs → (∀ (ls : Array Slot) (H : Heap) (locs : List Loc), lv_has ls 10 [(0, .ref h0), (2, .int q.1), (3, .int q.2.1), (4, .int q.2.2.1), (5, .int q.2.2.2.1)] → va_P D vwCl (wX7 cy h0 gma sna hia ka ora cha tra ena opa foa gm sn hs qs k0 k1 k2 k3 ch o tr es op fo has) H → va_D A (wX7 cy h0 gma sna hia ka ora cha tra ena opa foa gm sn hs qs k0 k1 k2 k3 ch o tr es op fo has) → va_S A s.heap H locs → W p l e rm_L_areChains s m args below meth c H locs CX SX Q (F0 m 170 ls [])) → W p l e rm_L_areChains s m args below meth c H locs cells slots Q (F0 m 13 ls []) := by
    intro Q n
    induction n with
    | zero =>
      intro b1 gm sn hs qs k0 k1 k2 k3 ch o tr es op fo has s13 q hq
      exact (k_loop0 hq).elim
    | succ n ih =>
      intro b1 gm sn hs qs k0 k1 k2 k3 ch o tr es op fo has s13 q hq CX SX cells slots hcx hsx hcc hss ls H locs hl hP hD hS kx
      obtain ⟨x, hf, hq⟩ := k_loopE hq
      unfold t_L_areChains_13 at hf
      refine lv_iload hx hb dL_areChains_13 (lv_at hl 6 rfl) ?_
      refine lv_bipush (v := 12) hx hb dL_areChains_15 (by decide) ?_
      refine lv_icmp_ge (tgt := 170) hx hb dL_areChains_17 (by decide) (fun c1 => ?_) (fun c1 => ?_)
      · have hf := k_T c1 hf
        refine W.widen (k := CX) (n := SX) (by omega) (by omega) ?_
        obtain rfl := k_some hf
        obtain rfl := k_some (k_inr hq)
        exact kx ls H locs (lv_sub hl [0, 2, 3, 4, 5] rfl) hP hD hS
      · have hf := k_F c1 hf
        refine lv_iload_n hx hb dL_areChains_20 rfl (lv_at hl 1 rfl) ?_
        refine lv_iload hx hb dL_areChains_21 (lv_at hl 6 rfl) ?_
        obtain ⟨v2, hv2, hf⟩ := k_B hf
        refine k_callS (As := [.int b1, .int s13.2.2.2.2]) (rest := []) ⟨hx, hb, hml, hown, hts⟩ (c_L_chain l b1 s13.2.2.2.2 v2 hv2) (va_cwS 2 hts gL_areChains_L_chain rfl rfl rfl hd_L_chain ⟨Nat.le_of_ble_eq_true rfl, Nat.le_of_ble_eq_true rfl⟩) rfl hl.1 rfl (Nat.le_of_ble_eq_true rfl) dL_areChains_23 ⟨Nat.le_trans (by omega) hcx, Nat.le_trans (by omega) hsx⟩ ?_
        refine lv_istore (lv' := [(7, .int v2), (0, .ref h0), (1, .int b1), (2, .int s13.1), (3, .int s13.2.1), (4, .int s13.2.2.1), (5, .int s13.2.2.2.1), (6, .int s13.2.2.2.2)]) hx hb dL_areChains_26 hl (by decide) rfl (fun ls hl => ?_)
        refine lv_iload hx hb dL_areChains_28 (lv_at hl 0 rfl) ?_
        obtain ⟨j3, hj3, hf⟩ := k_B hf
        refine k_joinH (nL := 10) (J := 50) (D := D) (A := A) (H0 := s.heap) (w' := (wX7 cy h0 gma sna hia ka ora cha tra ena opa foa gm sn hs qs k0 k1 k2 k3 ch o tr es op fo has)) (L := [(0, .ref h0), (1, .int b1), (2, .int s13.1), (3, .int s13.2.1), (4, .int s13.2.2.1), (5, .int s13.2.2.2.1), (6, .int s13.2.2.2.2), (7, .int v2)]) (stk := [.int j3]) (cells' := (cells + 0)) (slots' := (slots + 0)) (fun ls H locs hl hP hD hS => ?_) (fun kj3 => ?_)
        · refine lv_istore (lv' := [(8, .int j3), (0, .ref h0), (1, .int b1), (2, .int s13.1), (3, .int s13.2.1), (4, .int s13.2.2.1), (5, .int s13.2.2.2.1), (6, .int s13.2.2.2.2), (7, .int v2)]) hx hb dL_areChains_50 hl (by decide) rfl (fun ls hl => ?_)
          refine lv_iload hx hb dL_areChains_52 (lv_at hl 0 rfl) ?_
          obtain ⟨j6, hj6, hf⟩ := k_B hf
          refine k_joinH (nL := 10) (J := 71) (D := D) (A := A) (H0 := s.heap) (w' := (wX7 cy h0 gma sna hia ka ora cha tra ena opa foa gm sn hs qs k0 k1 k2 k3 ch o tr es op fo has)) (L := [(0, .ref h0), (1, .int b1), (2, .int s13.1), (3, .int s13.2.1), (4, .int s13.2.2.1), (5, .int s13.2.2.2.1), (6, .int s13.2.2.2.2), (7, .int v2), (8, .int j3)]) (stk := [.int j6]) (cells' := (cells + 0)) (slots' := (slots + 0)) (fun ls H locs hl hP hD hS => ?_) (fun kj6 => ?_)
          · refine lv_istore (lv' := [(9, .int j6), (0, .ref h0), (1, .int b1), (2, .int s13.1), (3, .int s13.2.1), (4, .int s13.2.2.1), (5, .int s13.2.2.2.1), (6, .int s13.2.2.2.2), (7, .int v2), (8, .int j3)]) hx hb dL_areChains_71 hl (by decide) rfl (fun ls hl => ?_)
            refine lv_iload_n hx hb dL_areChains_73 rfl (lv_at hl 3 rfl) ?_
            refine lv_iload hx hb dL_areChains_74 (lv_at hl 9 rfl) ?_
            obtain ⟨j10, hj10, hf⟩ := k_B hf
            refine k_joinH (nL := 10) (J := 84) (D := D) (A := A) (H0 := s.heap) (w' := (wX7 cy h0 gma sna hia ka ora cha tra ena opa foa gm sn hs qs k0 k1 k2 k3 ch o tr es op fo has)) (L := [(0, .ref h0), (1, .int b1), (3, .int s13.2.1), (4, .int s13.2.2.1), (5, .int s13.2.2.2.1), (6, .int s13.2.2.2.2), (7, .int v2), (8, .int j3), (9, .int j6)]) (stk := [.int j10, .int s13.1]) (cells' := (cells + 0)) (slots' := (slots + 0)) (fun ls H locs hl hP hD hS => ?_) (fun kj10 => ?_)
            · refine lv_iadd hx hb dL_areChains_84 ?_
              obtain ⟨y12, ey12, hf⟩ := k_L hf
              refine k_name ey12 ?_
              refine lv_istore_n (lv' := [(2, .int y12), (0, .ref h0), (1, .int b1), (3, .int s13.2.1), (4, .int s13.2.2.1), (5, .int s13.2.2.2.1), (6, .int s13.2.2.2.2), (7, .int v2), (8, .int j3), (9, .int j6)]) hx hb dL_areChains_85 rfl hl (by decide) rfl (fun ls hl => ?_)
              refine lv_iload_n hx hb dL_areChains_86 rfl (lv_at hl 3 rfl) ?_
              refine lv_iload hx hb dL_areChains_87 (lv_at hl 9 rfl) ?_
              obtain ⟨j13, hj13, hf⟩ := k_B hf
              refine k_joinH (nL := 10) (J := 97) (D := D) (A := A) (H0 := s.heap) (w' := (wX7 cy h0 gma sna hia ka ora cha tra ena opa foa gm sn hs qs k0 k1 k2 k3 ch o tr es op fo has)) (L := [(0, .ref h0), (1, .int b1), (2, .int y12), (4, .int s13.2.2.1), (5, .int s13.2.2.2.1), (6, .int s13.2.2.2.2), (7, .int v2), (8, .int j3), (9, .int j6)]) (stk := [.int j13, .int s13.2.1]) (cells' := (cells + 0)) (slots' := (slots + 0)) (fun ls H locs hl hP hD hS => ?_) (fun kj13 => ?_)
              · refine lv_iadd hx hb dL_areChains_97 ?_
                obtain ⟨y15, ey15, hf⟩ := k_L hf
                refine k_name ey15 ?_
                refine lv_istore_n (lv' := [(3, .int y15), (0, .ref h0), (1, .int b1), (2, .int y12), (4, .int s13.2.2.1), (5, .int s13.2.2.2.1), (6, .int s13.2.2.2.2), (7, .int v2), (8, .int j3), (9, .int j6)]) hx hb dL_areChains_98 rfl hl (by decide) rfl (fun ls hl => ?_)
                refine lv_iload hx hb dL_areChains_99 (lv_at hl 4 rfl) ?_
                refine lv_iload hx hb dL_areChains_101 (lv_at hl 8 rfl) ?_
                obtain ⟨j16, hj16, hf⟩ := k_B hf
                refine k_joinH (nL := 10) (J := 125) (D := D) (A := A) (H0 := s.heap) (w' := (wX7 cy h0 gma sna hia ka ora cha tra ena opa foa gm sn hs qs k0 k1 k2 k3 ch o tr es op fo has)) (L := [(0, .ref h0), (1, .int b1), (2, .int y12), (3, .int y15), (5, .int s13.2.2.2.1), (6, .int s13.2.2.2.2), (7, .int v2)]) (stk := [.int j16, .int s13.2.2.1]) (cells' := (cells + 0)) (slots' := (slots + 0)) (fun ls H locs hl hP hD hS => ?_) (fun kj16 => ?_)
                · refine lv_iadd hx hb dL_areChains_125 ?_
                  obtain ⟨y21, ey21, hf⟩ := k_L hf
                  refine k_name ey21 ?_
                  refine lv_istore (lv' := [(4, .int y21), (0, .ref h0), (1, .int b1), (2, .int y12), (3, .int y15), (5, .int s13.2.2.2.1), (6, .int s13.2.2.2.2), (7, .int v2)]) hx hb dL_areChains_126 hl (by decide) rfl (fun ls hl => ?_)
                  refine lv_iload hx hb dL_areChains_128 (lv_at hl 5 rfl) ?_
                  obtain ⟨j22, hj22, hf⟩ := k_B hf
                  refine k_joinH (nL := 10) (J := 162) (D := D) (A := A) (H0 := s.heap) (w' := (wX7 cy h0 gma sna hia ka ora cha tra ena opa foa gm sn hs qs k0 k1 k2 k3 ch o tr es op fo has)) (L := [(0, .ref h0), (1, .int b1), (2, .int y12), (3, .int y15), (4, .int y21), (6, .int s13.2.2.2.2)]) (stk := [.int j22]) (cells' := (cells + 1)) (slots' := (slots + 6)) (fun ls H locs hl hP hD hS => ?_) (fun kj22 => ?_)
                  · refine lv_istore (lv' := [(5, .int j22), (0, .ref h0), (1, .int b1), (2, .int y12), (3, .int y15), (4, .int y21), (6, .int s13.2.2.2.2)]) hx hb dL_areChains_162 hl (by decide) rfl (fun ls hl => ?_)
                    refine lv_iinc (v := s13.2.2.2.2 + 1) (lv' := [(6, .int (s13.2.2.2.2 + 1)), (5, .int j22), (0, .ref h0), (1, .int b1), (2, .int y12), (3, .int y15), (4, .int y21)]) hx hb dL_areChains_164 hl (k := 6) rfl rfl (by decide) rfl (fun ls hl => ?_)
                    refine lv_goto (tgt := 13) hx hb dL_areChains_167 (by decide) ?_
                    refine W.widen (k := cells + 1) (n := slots + 6) (by omega) (by omega) ?_
                    obtain rfl := k_some hf
                    exact ih b1 gm sn hs qs k0 k1 k2 k3 ch o tr es op fo has (y12, y15, y21, j22, s13.2.2.2.2 + 1) q (k_inl hq) CX SX (cells + 1) (slots + 6) hcx hsx (by omega) (by omega) ls H locs (lv_sub hl [2, 3, 4, 5, 6, 1, 0] rfl) hP hD hS kx
                  · have hf := hj22
                    refine lv_if_eq (tgt := 161) hx hb dL_areChains_130 (by decide) (fun c23 => ?_) (fun c23 => ?_)
                    · have hf := k_T c23 hf
                      refine lv_iconst (v := 0) hx hb dL_areChains_161 (by decide) ?_
                      refine W.widen (k := (cells + 1)) (n := (slots + 6)) (by omega) (by omega) ?_
                      obtain rfl := k_some hf
                      exact kj22 ls H locs (lv_sub hl [1, 2, 3, 4, 0, 6] rfl) hP hD hS
                    · have hf := k_F c23 hf
                      refine lv_aload_n hx hb dL_areChains_133 rfl (lv_at hl 1 rfl) ?_
                      refine lv_iload hx hb dL_areChains_134 (lv_at hl 6 rfl) ?_
                      obtain ⟨v24, hv24, hf⟩ := k_B hf
                      refine k_callLS (As := [.ref h0, .int s13.2.2.2.2]) (rest := []) (isC := [0, 1, 2, 3, 4, 5, 6, 7, 8, 9, 10, 11, 12, 13, 14]) (isR := []) (perm := [0, 1, 2, 3, 4, 5, 6, 7, 8, 9, 10, 11, 12, 13, 14]) (w' := (wX7 cy h0 gma sna hia ka ora cha tra ena opa foa gm sn hs qs k0 k1 k2 k3 ch o tr es op fo has)) ⟨hx, hb, hml, hown, hts⟩ (c_L_chainOfOf l hl9 D cy h0 gma sna hia ka ora cha tra ena opa foa gm sn hs qs k0 k1 k2 k3 ch o tr es op fo has s13.2.2.2.2 v24 hv24) (vx_cwSW 2 hts gL_areChains_L_chainOfOf rfl rfl rfl hd_L_chainOfOf ⟨Nat.le_of_ble_eq_true rfl, Nat.le_of_ble_eq_true rfl⟩) hK hN hT hZ hCx hP hD hS hA rfl rfl rfl (by decide) (by decide) rfl (by decide) rfl hl.1 rfl (Nat.le_of_ble_eq_true rfl) dL_areChains_136 ⟨Nat.le_trans (by omega) hcx, Nat.le_trans (by omega) hsx⟩ (fun H locs hP hD hS => ?_)
                      refine lv_iload hx hb dL_areChains_139 (lv_at hl 7 rfl) ?_
                      obtain ⟨j25, hj25, hf⟩ := k_B hf
                      refine k_joinH (nL := 10) (J := 154) (D := D) (A := A) (H0 := s.heap) (w' := (wX7 cy h0 gma sna hia ka ora cha tra ena opa foa gm sn hs qs k0 k1 k2 k3 ch o tr es op fo has)) (L := [(0, .ref h0), (1, .int b1), (2, .int y12), (3, .int y15), (4, .int y21), (6, .int s13.2.2.2.2)]) (stk := [.int j25, .int v24]) (cells' := (cells + 1)) (slots' := (slots + 6)) (fun ls H locs hl hP hD hS => ?_) (fun kj25 => ?_)
                      · refine lv_icmp_ne (tgt := 161) hx hb dL_areChains_154 (by decide) (fun c28 => ?_) (fun c28 => ?_)
                        · have hf := k_F c28 hf
                          refine lv_iconst (v := 0) hx hb dL_areChains_161 (by decide) ?_
                          refine W.widen (k := (cells + 1)) (n := (slots + 6)) (by omega) (by omega) ?_
                          obtain rfl := k_some hf
                          exact kj22 ls H locs (lv_sub hl [0, 1, 2, 3, 4, 5] rfl) hP hD hS
                        · have hf := k_T c28 hf
                          refine lv_iconst (v := 1) hx hb dL_areChains_157 (by decide) ?_
                          refine lv_goto (tgt := 162) hx hb dL_areChains_158 (by decide) ?_
                          refine W.widen (k := (cells + 1)) (n := (slots + 6)) (by omega) (by omega) ?_
                          obtain rfl := k_some hf
                          exact kj22 ls H locs (lv_sub hl [0, 1, 2, 3, 4, 5] rfl) hP hD hS
                      · have hf := hj25
                        refine lv_if_ne (tgt := 149) hx hb dL_areChains_141 (by decide) (fun c26 => ?_) (fun c26 => ?_)
                        · have hf := k_F c26 hf
                          refine lv_iload hx hb dL_areChains_149 (lv_at hl 7 rfl) ?_
                          obtain ⟨v27, hv27, hf⟩ := k_B hf
                          refine k_callS (As := [.int v2]) (rest := [.int v24]) ⟨hx, hb, hml, hown, hts⟩ (c_L_count l v2 v27 hv27) (va_cwS 1 hts gL_areChains_L_count rfl rfl rfl hd_L_count ⟨Nat.le_of_ble_eq_true rfl, Nat.le_of_ble_eq_true rfl⟩) rfl hl.1 rfl (Nat.le_of_ble_eq_true rfl) dL_areChains_151 ⟨Nat.le_trans (by omega) hcx, Nat.le_trans (by omega) hsx⟩ ?_
                          refine W.widen (k := (cells + 1)) (n := (slots + 6)) (by omega) (by omega) ?_
                          obtain rfl := k_some hf
                          exact kj25 ls H locs (lv_sub hl [1, 2, 3, 4, 0, 6] rfl) hP hD hS
                        · have hf := k_T c26 hf
                          refine lv_bipush (v := (-102)) hx hb dL_areChains_144 (by decide) ?_
                          refine lv_goto (tgt := 154) hx hb dL_areChains_146 (by decide) ?_
                          refine W.widen (k := (cells + 1)) (n := (slots + 6)) (by omega) (by omega) ?_
                          obtain rfl := k_some hf
                          exact kj25 ls H locs (lv_sub hl [1, 2, 3, 4, 0, 6] rfl) hP hD hS
                · have hf := hj16
                  refine lv_if_eq (tgt := 124) hx hb dL_areChains_103 (by decide) (fun c17 => ?_) (fun c17 => ?_)
                  · have hf := k_T c17 hf
                    refine lv_iconst (v := 0) hx hb dL_areChains_124 (by decide) ?_
                    refine W.widen (k := (cells + 0)) (n := (slots + 0)) (by omega) (by omega) ?_
                    obtain rfl := k_some hf
                    exact kj16 ls H locs (lv_sub hl [1, 2, 3, 0, 5, 6, 7] rfl) hP hD hS
                  · have hf := k_F c17 hf
                    refine lv_iload hx hb dL_areChains_106 (lv_at hl 9 rfl) ?_
                    refine lv_if_ne (tgt := 124) hx hb dL_areChains_108 (by decide) (fun c18 => ?_) (fun c18 => ?_)
                    · have hf := k_F c18 hf
                      refine lv_iconst (v := 0) hx hb dL_areChains_124 (by decide) ?_
                      refine W.widen (k := (cells + 0)) (n := (slots + 0)) (by omega) (by omega) ?_
                      obtain rfl := k_some hf
                      exact kj16 ls H locs (lv_sub hl [1, 2, 3, 0, 5, 6, 7] rfl) hP hD hS
                    · have hf := k_T c18 hf
                      refine lv_iload hx hb dL_areChains_111 (lv_at hl 7 rfl) ?_
                      obtain ⟨v19, hv19, hf⟩ := k_B hf
                      refine k_callS (As := [.int v2]) (rest := [.int s13.2.2.1]) ⟨hx, hb, hml, hown, hts⟩ (c_L_count l v2 v19 hv19) (va_cwS 1 hts gL_areChains_L_count rfl rfl rfl hd_L_count ⟨Nat.le_of_ble_eq_true rfl, Nat.le_of_ble_eq_true rfl⟩) rfl hl.1 rfl (Nat.le_of_ble_eq_true rfl) dL_areChains_113 ⟨Nat.le_trans (by omega) hcx, Nat.le_trans (by omega) hsx⟩ ?_
                      refine lv_iconst (v := 2) hx hb dL_areChains_116 (by decide) ?_
                      refine lv_icmp_le (tgt := 124) hx hb dL_areChains_117 (by decide) (fun c20 => ?_) (fun c20 => ?_)
                      · have hf := k_T c20 hf
                        refine lv_iconst (v := 0) hx hb dL_areChains_124 (by decide) ?_
                        refine W.widen (k := (cells + 0)) (n := (slots + 0)) (by omega) (by omega) ?_
                        obtain rfl := k_some hf
                        exact kj16 ls H locs (lv_sub hl [1, 2, 3, 0, 5, 6, 7] rfl) hP hD hS
                      · have hf := k_F c20 hf
                        refine lv_iconst (v := 1) hx hb dL_areChains_120 (by decide) ?_
                        refine lv_goto (tgt := 125) hx hb dL_areChains_121 (by decide) ?_
                        refine W.widen (k := (cells + 0)) (n := (slots + 0)) (by omega) (by omega) ?_
                        obtain rfl := k_some hf
                        exact kj16 ls H locs (lv_sub hl [1, 2, 3, 0, 5, 6, 7] rfl) hP hD hS
              · have hf := hj13
                refine lv_if_eq (tgt := 96) hx hb dL_areChains_89 (by decide) (fun c14 => ?_) (fun c14 => ?_)
                · have hf := k_T c14 hf
                  refine lv_iconst (v := 0) hx hb dL_areChains_96 (by decide) ?_
                  refine W.widen (k := (cells + 0)) (n := (slots + 0)) (by omega) (by omega) ?_
                  obtain rfl := k_some hf
                  exact kj13 ls H locs (lv_sub hl [1, 2, 0, 4, 5, 6, 7, 8, 9] rfl) hP hD hS
                · have hf := k_F c14 hf
                  refine lv_iconst (v := 1) hx hb dL_areChains_92 (by decide) ?_
                  refine lv_goto (tgt := 97) hx hb dL_areChains_93 (by decide) ?_
                  refine W.widen (k := (cells + 0)) (n := (slots + 0)) (by omega) (by omega) ?_
                  obtain rfl := k_some hf
                  exact kj13 ls H locs (lv_sub hl [1, 2, 0, 4, 5, 6, 7, 8, 9] rfl) hP hD hS
            · have hf := hj10
              refine lv_if_eq (tgt := 83) hx hb dL_areChains_76 (by decide) (fun c11 => ?_) (fun c11 => ?_)
              · have hf := k_T c11 hf
                refine lv_iconst (v := 0) hx hb dL_areChains_83 (by decide) ?_
                refine W.widen (k := (cells + 0)) (n := (slots + 0)) (by omega) (by omega) ?_
                obtain rfl := k_some hf
                exact kj10 ls H locs (lv_sub hl [1, 2, 4, 5, 6, 7, 8, 9, 0] rfl) hP hD hS
              · have hf := k_F c11 hf
                refine lv_iconst (v := 1) hx hb dL_areChains_79 (by decide) ?_
                refine lv_goto (tgt := 84) hx hb dL_areChains_80 (by decide) ?_
                refine W.widen (k := (cells + 0)) (n := (slots + 0)) (by omega) (by omega) ?_
                obtain rfl := k_some hf
                exact kj10 ls H locs (lv_sub hl [1, 2, 4, 5, 6, 7, 8, 9, 0] rfl) hP hD hS
          · have hf := hj6
            refine lv_if_eq (tgt := 70) hx hb dL_areChains_54 (by decide) (fun c7 => ?_) (fun c7 => ?_)
            · have hf := k_T c7 hf
              refine lv_iconst (v := 0) hx hb dL_areChains_70 (by decide) ?_
              refine W.widen (k := (cells + 0)) (n := (slots + 0)) (by omega) (by omega) ?_
              obtain rfl := k_some hf
              exact kj6 ls H locs (lv_sub hl [1, 2, 3, 4, 5, 6, 7, 8, 0] rfl) hP hD hS
            · have hf := k_F c7 hf
              refine lv_iload_n hx hb dL_areChains_57 rfl (lv_at hl 2 rfl) ?_
              refine lv_iload hx hb dL_areChains_58 (lv_at hl 8 rfl) ?_
              obtain ⟨v8, hv8, hf⟩ := k_B hf
              refine k_callS (As := [.int b1, .int v2]) (rest := []) ⟨hx, hb, hml, hown, hts⟩ (c_L_isRing l b1 v2 v8 hv8) (va_cwS 2 hts gL_areChains_L_isRing rfl rfl rfl hd_L_isRing ⟨Nat.le_of_ble_eq_true rfl, Nat.le_of_ble_eq_true rfl⟩) rfl hl.1 rfl (Nat.le_of_ble_eq_true rfl) dL_areChains_60 ⟨Nat.le_trans (by omega) hcx, Nat.le_trans (by omega) hsx⟩ ?_
              refine lv_if_eq (tgt := 70) hx hb dL_areChains_63 (by decide) (fun c9 => ?_) (fun c9 => ?_)
              · have hf := k_T c9 hf
                refine lv_iconst (v := 0) hx hb dL_areChains_70 (by decide) ?_
                refine W.widen (k := (cells + 0)) (n := (slots + 0)) (by omega) (by omega) ?_
                obtain rfl := k_some hf
                exact kj6 ls H locs (lv_sub hl [1, 2, 3, 4, 5, 6, 7, 8, 0] rfl) hP hD hS
              · have hf := k_F c9 hf
                refine lv_iconst (v := 1) hx hb dL_areChains_66 (by decide) ?_
                refine lv_goto (tgt := 71) hx hb dL_areChains_67 (by decide) ?_
                refine W.widen (k := (cells + 0)) (n := (slots + 0)) (by omega) (by omega) ?_
                obtain rfl := k_some hf
                exact kj6 ls H locs (lv_sub hl [1, 2, 3, 4, 5, 6, 7, 8, 0] rfl) hP hD hS
        · have hf := hj3
          refine lv_if_eq (tgt := 49) hx hb dL_areChains_30 (by decide) (fun c4 => ?_) (fun c4 => ?_)
          · have hf := k_T c4 hf
            refine lv_iconst (v := 0) hx hb dL_areChains_49 (by decide) ?_
            refine W.widen (k := (cells + 0)) (n := (slots + 0)) (by omega) (by omega) ?_
            obtain rfl := k_some hf
            exact kj3 ls H locs (lv_sub hl [1, 2, 3, 4, 5, 6, 7, 0] rfl) hP hD hS
          · have hf := k_F c4 hf
            refine lv_iload hx hb dL_areChains_33 (lv_at hl 0 rfl) ?_
            refine lv_iconst (v := 1) hx hb dL_areChains_35 (by decide) ?_
            refine lv_iload hx hb dL_areChains_36 (lv_at hl 7 rfl) ?_
            refine lv_ishl hx hb dL_areChains_38 ?_
            refine lv_iconst (v := 1) hx hb dL_areChains_39 (by decide) ?_
            refine lv_isub hx hb dL_areChains_40 ?_
            refine lv_iand hx hb dL_areChains_41 ?_
            refine lv_if_ne (tgt := 49) hx hb dL_areChains_42 (by decide) (fun c5 => ?_) (fun c5 => ?_)
            · have hf := k_F c5 hf
              refine lv_iconst (v := 0) hx hb dL_areChains_49 (by decide) ?_
              refine W.widen (k := (cells + 0)) (n := (slots + 0)) (by omega) (by omega) ?_
              obtain rfl := k_some hf
              exact kj3 ls H locs (lv_sub hl [1, 2, 3, 4, 5, 6, 7, 0] rfl) hP hD hS
            · have hf := k_T c5 hf
              refine lv_iconst (v := 1) hx hb dL_areChains_45 (by decide) ?_
              refine lv_goto (tgt := 50) hx hb dL_areChains_46 (by decide) ?_
              refine W.widen (k := (cells + 0)) (n := (slots + 0)) (by omega) (by omega) ?_
              obtain rfl := k_some hf
              exact kj3 ls H locs (lv_sub hl [1, 2, 3, 4, 5, 6, 7, 0] rfl) hP hD hS
  obtain ⟨x29, hx29, hf⟩ := k_B hf
  refine W.widen (k := 0) (n := 0) (by omega) (by omega) ?_
  refine L13 _ 70 n1 gm sn hs qs k0 k1 k2 k3 ch o tr es op fo has (0, 0, 0, 1, 0) x29 hx29 70 420 0 0 (Nat.le_of_ble_eq_true rfl) (Nat.le_of_ble_eq_true rfl) (by omega) (by omega) ls H locs (lv_sub hl [5, 6, 4, 3, 2, 1, 0] rfl) hP hD hS ?_
  intro ls H locs hl hP hD hS
  refine lv_iload hx hb dL_areChains_170 (lv_at hl 4 rfl) ?_
  obtain ⟨j30, hj30, hf⟩ := k_B hf
  refine k_joinH (nL := 10) (J := 216) (D := D) (A := A) (H0 := s.heap) (w' := (wX7 cy h0 gma sna hia ka ora cha tra ena opa foa gm sn hs qs k0 k1 k2 k3 ch o tr es op fo has)) (L := []) (stk := [.int j30]) (cells' := 70) (slots' := 420) (fun ls H locs hl hP hD hS => ?_) (fun kj30 => ?_)
  · have hP := hP.sub (ws' := (wX7 cy h0 gma sna hia ka ora cha tra ena opa foa gm sn hs qs k0 k1 k2 k3 ch o tr es op fo has)) [0, 1, 2, 3, 4, 5, 6, 7, 8, 9, 10, 11, 12, 13, 14] rfl
    have hD := hD.sub (ws' := (wX7 cy h0 gma sna hia ka ora cha tra ena opa foa gm sn hs qs k0 k1 k2 k3 ch o tr es op fo has)) [0, 1, 2, 3, 4, 5, 6, 7, 8, 9, 10, 11, 12, 13, 14] rfl rfl
    refine W.widen (k := 70) (n := 420) (by omega) (by omega) ?_
    obtain ⟨rfl, hn⟩ := k_boolR hf
    exact k_azret hx hb hr hn hP hD hS dL_areChains_216 hlocks
  · have hf := hj30
    refine lv_if_eq (tgt := 215) hx hb dL_areChains_172 (by decide) (fun c31 => ?_) (fun c31 => ?_)
    · have hf := k_T c31 hf
      refine lv_iconst (v := 0) hx hb dL_areChains_215 (by decide) ?_
      refine W.widen (k := 70) (n := 420) (by omega) (by omega) ?_
      obtain rfl := k_some hf
      exact kj30 ls H locs (lv_sub hl [] rfl) hP hD hS
    · have hf := k_F c31 hf
      refine lv_aload_n hx hb dL_areChains_175 rfl (lv_at hl 0 rfl) ?_
      obtain ⟨v32, hv32, hf⟩ := k_B hf
      refine k_callHV (As := []) (rest := []) (r := (RX7, TX7, 6)) (ci := 4) (q0 := 0) (isC := [0, 1, 2, 3, 4, 5, 6, 7, 8, 9, 10, 11, 12, 13, 14]) (isR := []) (perm := [0, 1, 2, 3, 4, 5, 6, 7, 8, 9, 10, 11, 12, 13, 14]) (w' := (wX7 cy h0 gma sna hia ka ora cha tra ena opa foa gm sn hs qs k0 k1 k2 k3 ch o tr es op fo has)) ⟨hx, hb, hml, hown, hts⟩ (c_X7_chains l D cy h0 gma sna hia ka ora cha tra ena opa foa gm sn hs qs k0 k1 k2 k3 ch o tr es op fo has  v32 hv32) (cwV 0 hts gL_areChains_X7_chains rfl rfl rfl hd_X7_chains ⟨Nat.le_of_ble_eq_true rfl, Nat.le_of_ble_eq_true rfl⟩) hK hN hP hD hS hA rfl rfl rfl rfl rfl rfl (by decide) rfl rfl rfl hl.1 rfl (Nat.le_of_ble_eq_true rfl) dL_areChains_176 ⟨Nat.le_of_ble_eq_true rfl, Nat.le_of_ble_eq_true rfl⟩ (fun H locs hP hD hS => ?_)
      refine lv_iload_n hx hb dL_areChains_179 rfl (lv_at hl 1 rfl) ?_
      refine lv_icmp_ne (tgt := 215) hx hb dL_areChains_180 (by decide) (fun c33 => ?_) (fun c33 => ?_)
      · have hf := k_F c33 hf
        refine lv_iconst (v := 0) hx hb dL_areChains_215 (by decide) ?_
        refine W.widen (k := 70) (n := 420) (by omega) (by omega) ?_
        obtain rfl := k_some hf
        exact kj30 ls H locs (lv_sub hl [] rfl) hP hD hS
      · have hf := k_T c33 hf
        refine lv_aload_n hx hb dL_areChains_183 rfl (lv_at hl 0 rfl) ?_
        obtain ⟨v34, hv34, hf⟩ := k_B hf
        refine k_callHV (As := []) (rest := []) (r := (RX7, TX7, 6)) (ci := 4) (q0 := 0) (isC := [0, 1, 2, 3, 4, 5, 6, 7, 8, 9, 10, 11, 12, 13, 14]) (isR := []) (perm := [0, 1, 2, 3, 4, 5, 6, 7, 8, 9, 10, 11, 12, 13, 14]) (w' := (wX7 cy h0 gma sna hia ka ora cha tra ena opa foa gm sn hs qs k0 k1 k2 k3 ch o tr es op fo has)) ⟨hx, hb, hml, hown, hts⟩ (c_X7_rings l D cy h0 gma sna hia ka ora cha tra ena opa foa gm sn hs qs k0 k1 k2 k3 ch o tr es op fo has  v34 hv34) (cwV 0 hts gL_areChains_X7_rings rfl rfl rfl hd_X7_rings ⟨Nat.le_of_ble_eq_true rfl, Nat.le_of_ble_eq_true rfl⟩) hK hN hP hD hS hA rfl rfl rfl rfl rfl rfl (by decide) rfl rfl rfl hl.1 rfl (Nat.le_of_ble_eq_true rfl) dL_areChains_184 ⟨Nat.le_of_ble_eq_true rfl, Nat.le_of_ble_eq_true rfl⟩ (fun H locs hP hD hS => ?_)
        refine lv_iload_n hx hb dL_areChains_187 rfl (lv_at hl 2 rfl) ?_
        refine lv_icmp_ne (tgt := 215) hx hb dL_areChains_188 (by decide) (fun c35 => ?_) (fun c35 => ?_)
        · have hf := k_F c35 hf
          refine lv_iconst (v := 0) hx hb dL_areChains_215 (by decide) ?_
          refine W.widen (k := 70) (n := 420) (by omega) (by omega) ?_
          obtain rfl := k_some hf
          exact kj30 ls H locs (lv_sub hl [] rfl) hP hD hS
        · have hf := k_T c35 hf
          refine lv_aload_n hx hb dL_areChains_191 rfl (lv_at hl 0 rfl) ?_
          obtain ⟨v36, hv36, hf⟩ := k_B hf
          refine k_callHV (As := []) (rest := []) (r := (RX7, TX7, 6)) (ci := 4) (q0 := 0) (isC := [0, 1, 2, 3, 4, 5, 6, 7, 8, 9, 10, 11, 12, 13, 14]) (isR := []) (perm := [0, 1, 2, 3, 4, 5, 6, 7, 8, 9, 10, 11, 12, 13, 14]) (w' := (wX7 cy h0 gma sna hia ka ora cha tra ena opa foa gm sn hs qs k0 k1 k2 k3 ch o tr es op fo has)) ⟨hx, hb, hml, hown, hts⟩ (c_X7_longChains l D cy h0 gma sna hia ka ora cha tra ena opa foa gm sn hs qs k0 k1 k2 k3 ch o tr es op fo has  v36 hv36) (cwV 0 hts gL_areChains_X7_longChains rfl rfl rfl hd_X7_longChains ⟨Nat.le_of_ble_eq_true rfl, Nat.le_of_ble_eq_true rfl⟩) hK hN hP hD hS hA rfl rfl rfl rfl rfl rfl (by decide) rfl rfl rfl hl.1 rfl (Nat.le_of_ble_eq_true rfl) dL_areChains_192 ⟨Nat.le_of_ble_eq_true rfl, Nat.le_of_ble_eq_true rfl⟩ (fun H locs hP hD hS => ?_)
          refine lv_iload hx hb dL_areChains_195 (lv_at hl 3 rfl) ?_
          refine lv_icmp_ne (tgt := 215) hx hb dL_areChains_197 (by decide) (fun c37 => ?_) (fun c37 => ?_)
          · have hf := k_F c37 hf
            refine lv_iconst (v := 0) hx hb dL_areChains_215 (by decide) ?_
            refine W.widen (k := 70) (n := 420) (by omega) (by omega) ?_
            obtain rfl := k_some hf
            exact kj30 ls H locs (lv_sub hl [] rfl) hP hD hS
          · have hf := k_T c37 hf
            refine lv_aload_n hx hb dL_areChains_200 rfl (lv_at hl 0 rfl) ?_
            obtain ⟨v38, hv38, hf⟩ := k_B hf
            refine k_callHV (As := []) (rest := []) (r := (RX7, TX7, 6)) (ci := 4) (q0 := 0) (isC := [0, 1, 2, 3, 4, 5, 6, 7, 8, 9, 10, 11, 12, 13, 14]) (isR := []) (perm := [0, 1, 2, 3, 4, 5, 6, 7, 8, 9, 10, 11, 12, 13, 14]) (w' := (wX7 cy h0 gma sna hia ka ora cha tra ena opa foa gm sn hs qs k0 k1 k2 k3 ch o tr es op fo has)) ⟨hx, hb, hml, hown, hts⟩ (c_X7_ruleHoldsFor l D cy h0 gma sna hia ka ora cha tra ena opa foa gm sn hs qs k0 k1 k2 k3 ch o tr es op fo has  v38 hv38) (cwV 0 hts gL_areChains_X7_ruleHoldsFor rfl rfl rfl hd_X7_ruleHoldsFor ⟨Nat.le_of_ble_eq_true rfl, Nat.le_of_ble_eq_true rfl⟩) hK hN hP hD hS hA rfl rfl rfl rfl rfl rfl (by decide) rfl rfl rfl hl.1 rfl (Nat.le_of_ble_eq_true rfl) dL_areChains_201 ⟨Nat.le_of_ble_eq_true rfl, Nat.le_of_ble_eq_true rfl⟩ (fun H locs hP hD hS => ?_)
            refine lv_iload hx hb dL_areChains_204 (lv_at hl 3 rfl) ?_
            refine lv_iconst (v := 2) hx hb dL_areChains_206 (by decide) ?_
            refine lv_irem hx hb dL_areChains_207 (by decide) ?_
            refine lv_icmp_ne (tgt := 215) hx hb dL_areChains_208 (by decide) (fun c39 => ?_) (fun c39 => ?_)
            · have hf := k_F c39 hf
              refine lv_iconst (v := 0) hx hb dL_areChains_215 (by decide) ?_
              refine W.widen (k := 70) (n := 420) (by omega) (by omega) ?_
              obtain rfl := k_some hf
              exact kj30 ls H locs (lv_sub hl [] rfl) hP hD hS
            · have hf := k_T c39 hf
              refine lv_iconst (v := 1) hx hb dL_areChains_211 (by decide) ?_
              refine lv_goto (tgt := 216) hx hb dL_areChains_212 (by decide) ?_
              refine W.widen (k := 70) (n := 420) (by omega) (by omega) ?_
              obtain rfl := k_some hf
              exact kj30 ls H locs (lv_sub hl [] rfl) hP hD hS
