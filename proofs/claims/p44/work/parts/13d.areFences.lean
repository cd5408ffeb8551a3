def t_L_areFences_146 (b1 : Int32) (b7 : Int32) (b8 : Int32) (b9 : Int32) (b10 : Int32) (b11 : Int32) (b12 : Int32) (gm : k_G8) (rc : Nat → Int32) (s146 : Int32 × Int32 × (Nat → Int32) × (Nat → Int32)) : Option ((Int32 × Int32 × (Nat → Int32) × (Nat → Int32)) ⊕ (Int32 × Int32 × (Nat → Int32) × (Nat → Int32))) :=
  if 12 ≤ s146.2.1 then
    some (.inr (s146.1, s146.2.1, s146.2.2.1, s146.2.2.2))
  else
    if s146.1 = 0 then
      some (.inr (s146.1, s146.2.1, s146.2.2.1, s146.2.2.2))
    else
      (f_L_has b1 s146.2.1).bind fun v26 =>
      if v26 < 0 ∨ 5 ≤ v26.toNatClampNeg then none else
      if v26 < 0 ∨ 5 ≤ v26.toNatClampNeg then none else
      k_let (upd s146.2.2.1 v26.toNatClampNeg ((s146.2.2.1 v26.toNatClampNeg) + 1)) fun w29 =>
      if s146.2.1 < 0 ∨ 12 ≤ s146.2.1.toNatClampNeg then none else
      if ((rc s146.2.1.toNatClampNeg) + 1) < 0 ∨ 3 ≤ ((rc s146.2.1.toNatClampNeg) + 1).toNatClampNeg then none else
      k_let ((s146.2.2.2 ((rc s146.2.1.toNatClampNeg) + 1).toNatClampNeg) + 1) fun y32 =>
      if ((rc s146.2.1.toNatClampNeg) + 1) < 0 ∨ 3 ≤ ((rc s146.2.1.toNatClampNeg) + 1).toNatClampNeg then none else
      k_let (upd s146.2.2.2 ((rc s146.2.1.toNatClampNeg) + 1).toNatClampNeg y32) fun w34 =>
      (f_L_fencesOfOf s146.2.1 gm).bind fun v35 =>
      (f_L_has b1 s146.2.1).bind fun v36 =>
      Option.bind (α := Int32) (
          if v35 = v36 then
            (f_L_ownerOfOf s146.2.1 gm).bind fun v39 =>
            if s146.2.1 < 0 ∨ 12 ≤ s146.2.1.toNatClampNeg then none else
            Option.bind (α := Int32) (
                if 0 ≤ (rc s146.2.1.toNatClampNeg) then
                  if s146.2.1 < 0 ∨ 12 ≤ s146.2.1.toNatClampNeg then none else
                  some (rc s146.2.1.toNatClampNeg)
                else
                  some (-102)
              ) fun j41 =>
            if v39 = j41 then
              some 1
            else
              some 0
          else
            some 0
        ) fun j37 =>
      some (.inl (j37, s146.2.1 + 1, w29, w34))
def t_L_areFences_240 (b1 : Int32) (gm : k_G8) (s240 : Int32 × Int32 × Int32 × Int32 × Int32 × Int32 × Int32 × Int32) : Option ((Int32 × Int32 × Int32 × Int32 × Int32 × Int32 × Int32 × Int32) ⊕ (Int32 × Int32 × Int32 × Int32 × Int32 × Int32 × Int32 × Int32)) :=
  if 31 ≤ s240.2.2.2.2.2.2.2 then
    some (.inr (s240.1, s240.2.1, s240.2.2.1, s240.2.2.2.1, s240.2.2.2.2.1, s240.2.2.2.2.2.1, s240.2.2.2.2.2.2.1, s240.2.2.2.2.2.2.2))
  else
    if s240.1 = 0 then
      some (.inr (s240.1, s240.2.1, s240.2.2.1, s240.2.2.2.1, s240.2.2.2.2.1, s240.2.2.2.2.2.1, s240.2.2.2.2.2.2.1, s240.2.2.2.2.2.2.2))
    else
      Option.bind (α := Int32) (
          if ((b1 >>> (s240.2.2.2.2.2.2.2 &&& 31)) &&& 1) = 1 then
            some 1
          else
            some 0
        ) fun j48 =>
      Option.bind (α := Int32) (
          if 0 ≤ s240.2.1 then
            some s240.2.1
          else
            if j48 = 0 then
              (f_L_close b1 s240.2.2.2.2.2.2.2).bind fun v53 =>
              if v53 ≤ 0 then
                some s240.2.1
              else
                some s240.2.2.2.2.2.2.2
            else
              some s240.2.1
        ) fun j50 =>
      (f_L_safe b1 s240.2.2.2.2.2.2.2).bind fun v55 =>
      Option.bind (α := Int32) (
          if v55 = 0 then
            some 0
          else
            some 1
        ) fun j56 =>
      k_let (s240.2.2.1 + j56) fun y58 =>
      (f_L_safe s240.2.2.2.2.1 s240.2.2.2.2.2.2.2).bind fun v59 =>
      Option.bind (α := Int32 × Int32) (
          if v59 = 0 then
            some (s240.2.2.2.1, s240.2.2.2.2.1)
          else
            k_let (s240.2.2.2.2.1 ||| ((1 : Int32) <<< (s240.2.2.2.2.2.2.2 &&& 31))) fun y62 =>
            some (s240.2.2.2.1 + 1, y62)
        ) fun j60 =>
      Option.bind (α := Int32) (
          if j48 = 0 then
            (f_L_take (b1 ||| ((1 : Int32) <<< (s240.2.2.2.2.2.2.2 &&& 31)))).bind fun v65 =>
            some v65
          else
            some (-102)
        ) fun j63 =>
      Option.bind (α := Int32) (
          if j48 = 0 then
            if s240.2.2.2.2.2.2.1 ≤ j63 then
              some s240.2.2.2.2.2.1
            else
              some s240.2.2.2.2.2.2.2
          else
            some s240.2.2.2.2.2.1
        ) fun j66 =>
      Option.bind (α := Int32) (
          if j48 = 0 then
            if s240.2.2.2.2.2.2.1 ≤ j63 then
              some s240.2.2.2.2.2.2.1
            else
              some j63
          else
            some s240.2.2.2.2.2.2.1
        ) fun j69 =>
      (f_L_isDrawnOf s240.2.2.2.2.2.2.2 gm).bind fun v72 =>
      Option.bind (α := Int32) (
          if j48 = 0 then
            some 0
          else
            some 1
        ) fun j73 =>
      Option.bind (α := Int32) (
          if v72 = j73 then
            (f_L_whyNotOf s240.2.2.2.2.2.2.2 gm).bind fun v77 =>
            (f_L_count b1).bind fun v78 =>
            Option.bind (α := Int32) (
                if v78 = 31 then
                  some 1
                else
                  if j48 = 0 then
                    some 0
                  else
                    some 2
              ) fun j79 =>
            if v77 = j79 then
              (f_L_isSafeOf s240.2.2.2.2.2.2.2 gm).bind fun v83 =>
              (f_L_safe b1 s240.2.2.2.2.2.2.2).bind fun v84 =>
              Option.bind (α := Int32) (
                  if v84 = 0 then
                    some 0
                  else
                    some 1
                ) fun j85 =>
              if v83 = j85 then
                (f_L_givesOf s240.2.2.2.2.2.2.2 gm).bind fun v88 =>
                if v88 = j63 then
                  some 1
                else
                  some 0
              else
                some 0
            else
              some 0
          else
            some 0
        ) fun j75 =>
      some (.inl (j75, j50, y58, j60.1, j60.2, j66, j69, s240.2.2.2.2.2.2.2 + 1))
def t_L_areFences_502 (b1 : Int32) (b7 : Int32) (b8 : Int32) (b9 : Int32) (b11 : Int32) (gm : k_G8) (u1 : Nat → Int32) (s502 : Int32 × Int32) : Option ((Int32 × Int32) ⊕ (Int32 × Int32)) :=
  if 5 ≤ s502.2 then
    some (.inr (s502.1, s502.2))
  else
    Option.bind (α := Int32) (
        if s502.1 = 0 then
          some 0
        else
          (f_L_boxesWithOf s502.2 gm).bind fun v94 =>
          if s502.2 < 0 ∨ 5 ≤ s502.2.toNatClampNeg then none else
          if v94 = (u1 s502.2.toNatClampNeg) then
            some 1
          else
            some 0
      ) fun j92 =>
    some (.inl (j92, s502.2 + 1))
def f_L_areFences (n1 : Int32) (gm : k_G8) (rc : Nat → Int32) (rt : Nat → Int32) : Option (Int32) :=
  (f_L_isDrawnOf 31 gm).bind fun v1 =>
  Option.bind (α := Int32) (
      if v1 = (-101) then
        (f_L_fencesOfOf 12 gm).bind fun v4 =>
        if v4 = (-101) then
          (f_L_ownerOfOf (-1) gm).bind fun v6 =>
          if v6 = (-101) then
            (f_L_boxesOfOf 2 gm).bind fun v8 =>
            if v8 = (-101) then
              (f_L_boxesWithOf 5 gm).bind fun v10 =>
              if v10 = (-101) then
                (f_L_whyNotOf 31 gm).bind fun v12 =>
                if v12 = (-101) then
                  (f_L_isSafeOf (-1) gm).bind fun v14 =>
                  if v14 = (-101) then
                    (f_L_givesOf 31 gm).bind fun v16 =>
                    if v16 = (-101) then
                      (f_L_chainOfOf 12 gm).bind fun v18 =>
                      if v18 = (-101) then
                        (f_L_wonOf 2 gm).bind fun v20 =>
                        if v20 = (-101) then
                          some 1
                        else
                          some 0
                      else
                        some 0
                    else
                      some 0
                  else
                    some 0
                else
                  some 0
              else
                some 0
            else
              some 0
          else
            some 0
        else
          some 0
      else
        some 0
    ) fun j2 =>
  (k_loop (t_L_areFences_146 n1 (-101) 0 0 n1 (-101) 99 gm rc) 70 (j2, 0, (fun _ => 0), (fun _ => 0))).bind fun x45 =>
  (k_loop (t_L_areFences_240 n1 gm) 70 (x45.1, (-101), 0, 0, n1, (-101), 99, 0)).bind fun x90 =>
  (k_loop (t_L_areFences_502 n1 x90.2.1 x90.2.2.1 x90.2.2.2.1 x90.2.2.2.2.2.1 gm x45.2.2.1) 70 (x90.1, 0)).bind fun x97 =>
  Option.bind (α := Int32) (
      if x97.1 = 0 then
        some 0
      else
        (f_L_boxesOfOf 0 gm).bind fun v100 =>
        if v100 = (x45.2.2.2 1) then
          (f_L_boxesOfOf 1 gm).bind fun v102 =>
          if v102 = (x45.2.2.2 2) then
            (f_X7_drawn gm).bind fun v104 =>
            (f_L_count n1).bind fun v105 =>
            if v104 = v105 then
              (f_X7_isOver gm).bind fun v107 =>
              (f_L_count n1).bind fun v108 =>
              Option.bind (α := Int32) (
                  if v108 = 31 then
                    some 1
                  else
                    some 0
                ) fun j109 =>
              if v107 = j109 then
                (f_X7_turn gm).bind fun v112 =>
                if v112 = (rt 0) then
                  (f_L_wonOf 0 gm).bind fun v114 =>
                  if v114 = (rt 1) then
                    (f_L_wonOf 1 gm).bind fun v116 =>
                    if v116 = (rt 2) then
                      (f_X7_evenGames gm).bind fun v118 =>
                      if v118 = (rt 3) then
                        (f_X7_doubleDeals gm).bind fun v120 =>
                        if v120 = (rt 4) then
                          (f_X7_share gm).bind fun v122 =>
                          if ¬ (FP.fdiv (FP.i2f ((12 : Int32) - (x45.2.2.2 0))) 1094713344 &&& 2147483647 ≤ 2139095040) then none else
                          if (Op.cmpValue (FP.fcmp v122 (FP.fdiv (FP.i2f ((12 : Int32) - (x45.2.2.2 0))) 1094713344)) .l) = 0 then
                            (f_X7_canTake gm).bind fun v125 =>
                            (f_L_take n1).bind fun v126 =>
                            if v125 = v126 then
                              (f_X7_canTakeByRounds gm).bind fun v128 =>
                              (f_L_take n1).bind fun v129 =>
                              if v128 = v129 then
                                (f_L_takingFenceOf gm).bind fun v131 =>
                                if v131 = x90.2.1 then
                                  (f_X7_safeFences gm).bind fun v133 =>
                                  if v133 = x90.2.2.1 then
                                    (f_X7_safeInRow gm).bind fun v135 =>
                                    if v135 = x90.2.2.2.1 then
                                      (f_L_leastSacrificeOf gm).bind fun v137 =>
                                      if v137 = x90.2.2.2.2.2.1 then
                                        some 1
                                      else
                                        some 0
                                    else
                                      some 0
                                  else
                                    some 0
                                else
                                  some 0
                              else
                                some 0
                            else
                              some 0
                          else
                            some 0
                        else
                          some 0
                      else
                        some 0
                    else
                      some 0
                  else
                    some 0
                else
                  some 0
              else
                some 0
            else
              some 0
          else
            some 0
        else
          some 0
    ) fun j98 =>
  if j98 = 0 ∨ j98 = 1 then some j98 else none
abbrev rm_L_areFences : Room := { frames := 8, cells := 508, slots := 3044, locals := 177 }
theorem hd_L_areFences : yL_areFences.cls ≠ "java/lang/invoke/MethodHandle" ∧ yL_areFences.cls ≠ "java/lang/invoke/VarHandle" ∧ (parseMethodDescriptor yL_areFences.desc).map (fun d => d.parameters.length) = some 4 := by decide +kernel
set_option maxHeartbeats 8000000 in
set_option maxRecDepth 100000 in
theorem c_L_areFences (l : Launch) (hl9 : l.stackTraces = false) (D : va_G) (cy : Nat → ClassId) (h0 gma sna hia ka ora cha tra ena opa foa ac tr5 : Nat) (gm : k_G8) (sn : k_G8) (hs : Int32) (qs : k_Q4) (k0 : k_G8) (k1 : k_G8) (k2 : k_G8) (k3 : k_G8) (ch : Nat → Int32) (o : k_O5) (tr : k_G8) (es : Int32) (op : Nat → Int32) (fo : Nat → Int32) (has : Int32) (rc : Nat → Int32) (rt : Nat → Int32) (n1 : Int32) (r : Int32) (hf : f_L_areFences n1 gm rc rt = some r) : k_LMet l yL_areFences wsL_areFences rm_L_areFences D (k_tys cy) [.ref h0, .int n1, .ref ac, .ref tr5] (wX7 cy h0 gma sna hia ka ora cha tra ena opa foa gm sn hs qs k0 k1 k2 k3 ch o tr es op fo has ++ [wR cy 0 12 ac rc, wR cy 0 5 tr5 rt]) (some (.int r)) (wX7 cy h0 gma sna hia ka ora cha tra ena opa foa gm sn hs qs k0 k1 k2 k3 ch o tr es op fo has ++ [wR cy 0 12 ac rc, wR cy 0 5 tr5 rt]) 508 3044 := by
  refine k_lawOf0 (cc := cL_areFences) (maxL := 16) (ret := (some .boolean)) (by decide) rfl (Nat.le_of_ble_eq_true rfl) ?_
  intro p e s m args below meth c ls A hx hb hr hlocks hml hown hts hl hA hK hP hD hN hT hZ hCx
  have hl : lv_has ls 16 [(0, .ref h0), (1, .int n1), (2, .ref ac), (3, .ref tr5)] := hl
  have hS : va_S A s.heap s.heap [] := va_S.rf
  unfold f_L_areFences at hf
  obtain ⟨H, eH⟩ : ∃ H, H = s.heap := ⟨_, rfl⟩
  obtain ⟨locs, elocs⟩ : ∃ L : List Loc, L = [] := ⟨_, rfl⟩
  have hP : va_P D vwCl (wX7 cy h0 gma sna hia ka ora cha tra ena opa foa gm sn hs qs k0 k1 k2 k3 ch o tr es op fo has ++ [wR cy 0 12 ac rc, wR cy 0 5 tr5 rt]) H := by rw [eH]; exact hP
  have hS : va_S A s.heap H locs := by rw [eH, elocs]; exact hS
  refine k_here eH elocs ?_
  refine lv_aload_n hx hb dL_areFences_0 rfl (lv_at hl 0 rfl) ?_
  refine lv_bipush (v := 31) hx hb dL_areFences_1 (by decide) ?_
  obtain ⟨v1, hv1, hf⟩ := k_B hf
  refine k_callLS (As := [.ref h0, .int 31]) (rest := []) (isC := [0, 1, 2, 3, 4, 5, 6, 7, 8, 9, 10, 11, 12, 13, 14]) (isR := [15, 16]) (perm := [2, 3, 4, 5, 6, 7, 8, 9, 10, 11, 12, 13, 14, 15, 16, 0, 1]) (w' := (wX7 cy h0 gma sna hia ka ora cha tra ena opa foa gm sn hs qs k0 k1 k2 k3 ch o tr es op fo has ++ [wR cy 0 12 ac rc, wR cy 0 5 tr5 rt])) ⟨hx, hb, hml, hown, hts⟩ (c_L_isDrawnOf l hl9 D cy h0 gma sna hia ka ora cha tra ena opa foa gm sn hs qs k0 k1 k2 k3 ch o tr es op fo has 31 v1 hv1) (vx_cwSW 2 hts gL_areFences_L_isDrawnOf rfl rfl rfl hd_L_isDrawnOf ⟨Nat.le_of_ble_eq_true rfl, Nat.le_of_ble_eq_true rfl⟩) hK hN hT hZ hCx hP hD hS hA rfl rfl rfl (by decide) (by decide) rfl (by decide) rfl hl.1 rfl (Nat.le_of_ble_eq_true rfl) dL_areFences_3 ⟨Nat.le_of_ble_eq_true rfl, Nat.le_of_ble_eq_true rfl⟩ (fun H locs hP hD hS => ?_)
  refine lv_bipush (v := (-101)) hx hb dL_areFences_6 (by decide) ?_
  obtain ⟨j2, hj2, hf⟩ := k_B hf
  refine k_joinH (nL := 16) (J := 110) (D := D) (A := A) (H0 := s.heap) (w' := (wX7 cy h0 gma sna hia ka ora cha tra ena opa foa gm sn hs qs k0 k1 k2 k3 ch o tr es op fo has ++ [wR cy 0 12 ac rc, wR cy 0 5 tr5 rt])) (L := [(0, .ref h0), (1, .int n1), (2, .ref ac), (3, .ref tr5)]) (stk := [.int j2]) (cells' := 10) (slots' := 60) (fun ls H locs hl hP hD hS => ?_) (fun kj2 => ?_)
  · refine lv_istore (lv' := [(4, .int j2), (0, .ref h0), (1, .int n1), (2, .ref ac), (3, .ref tr5)]) hx hb dL_areFences_110 hl (by decide) rfl (fun ls hl => ?_)
    refine lv_iconst (v := 5) hx hb dL_areFences_112 (by decide) ?_
    refine va_newa (atype := .int) (a0 := (5, .inl (fun _ => 0))) hx hb (hts (.arrayClass .int) (by decide +kernel)) rfl hK hP hD hS hA (fun _ => rfl) (by decide) (by decide) (by decide) (Nat.le_of_ble_eq_true rfl) (Nat.le_of_ble_eq_true rfl) dL_areFences_113 (fun q22 cA H hK1 hP hD hS => ?_)
    obtain rfl := k_sameI hK1
    have hP : va_P D vwCl (wX7 cy h0 gma sna hia ka ora cha tra ena opa foa gm sn hs qs k0 k1 k2 k3 ch o tr es op fo has ++ [wR cy 0 12 ac rc, wR cy 0 5 tr5 rt, wR cy 0 5 q22 (fun _ => 0)]) H := hP
    have hD : va_D A (wX7 cy h0 gma sna hia ka ora cha tra ena opa foa gm sn hs qs k0 k1 k2 k3 ch o tr es op fo has ++ [wR cy 0 12 ac rc, wR cy 0 5 tr5 rt, wR cy 0 5 q22 (fun _ => 0)]) := hD
    refine lv_astore (lv' := [(5, .ref q22), (4, .int j2), (0, .ref h0), (1, .int n1), (2, .ref ac), (3, .ref tr5)]) hx hb dL_areFences_115 hl (by decide) rfl (fun ls hl => ?_)
    refine lv_iconst (v := 3) hx hb dL_areFences_117 (by decide) ?_
    refine va_newa (atype := .int) (a0 := (3, .inl (fun _ => 0))) hx hb (hts (.arrayClass .int) (by decide +kernel)) rfl hK hP hD hS hA (fun _ => rfl) (by decide) (by decide) (by decide) (Nat.le_of_ble_eq_true rfl) (Nat.le_of_ble_eq_true rfl) dL_areFences_118 (fun q23 cA H hK1 hP hD hS => ?_)
    obtain rfl := k_sameI hK1
    have hP : va_P D vwCl (wX7 cy h0 gma sna hia ka ora cha tra ena opa foa gm sn hs qs k0 k1 k2 k3 ch o tr es op fo has ++ [wR cy 0 12 ac rc, wR cy 0 5 tr5 rt, wR cy 0 5 q22 (fun _ => 0), wR cy 0 3 q23 (fun _ => 0)]) H := hP
    have hD : va_D A (wX7 cy h0 gma sna hia ka ora cha tra ena opa foa gm sn hs qs k0 k1 k2 k3 ch o tr es op fo has ++ [wR cy 0 12 ac rc, wR cy 0 5 tr5 rt, wR cy 0 5 q22 (fun _ => 0), wR cy 0 3 q23 (fun _ => 0)]) := hD
    refine lv_astore (lv' := [(6, .ref q23), (5, .ref q22), (4, .int j2), (0, .ref h0), (1, .int n1), (2, .ref ac), (3, .ref tr5)]) hx hb dL_areFences_120 hl (by decide) rfl (fun ls hl => ?_)
    refine lv_bipush (v := (-101)) hx hb dL_areFences_122 (by decide) ?_
    refine lv_istore (lv' := [(7, .int (-101)), (6, .ref q23), (5, .ref q22), (4, .int j2), (0, .ref h0), (1, .int n1), (2, .ref ac), (3, .ref tr5)]) hx hb dL_areFences_124 hl (by decide) rfl (fun ls hl => ?_)
    refine lv_iconst (v := 0) hx hb dL_areFences_126 (by decide) ?_
    refine lv_istore (lv' := [(8, .int 0), (7, .int (-101)), (6, .ref q23), (5, .ref q22), (4, .int j2), (0, .ref h0), (1, .int n1), (2, .ref ac), (3, .ref tr5)]) hx hb dL_areFences_127 hl (by decide) rfl (fun ls hl => ?_)
    refine lv_iconst (v := 0) hx hb dL_areFences_129 (by decide) ?_
    refine lv_istore (lv' := [(9, .int 0), (8, .int 0), (7, .int (-101)), (6, .ref q23), (5, .ref q22), (4, .int j2), (0, .ref h0), (1, .int n1), (2, .ref ac), (3, .ref tr5)]) hx hb dL_areFences_130 hl (by decide) rfl (fun ls hl => ?_)
    refine lv_iload_n hx hb dL_areFences_132 rfl (lv_at hl 7 rfl) ?_
    refine lv_istore (lv' := [(10, .int n1), (9, .int 0), (8, .int 0), (7, .int (-101)), (6, .ref q23), (5, .ref q22), (4, .int j2), (0, .ref h0), (1, .int n1), (2, .ref ac), (3, .ref tr5)]) hx hb dL_areFences_133 hl (by decide) rfl (fun ls hl => ?_)
    refine lv_bipush (v := (-101)) hx hb dL_areFences_135 (by decide) ?_
    refine lv_istore (lv' := [(11, .int (-101)), (10, .int n1), (9, .int 0), (8, .int 0), (7, .int (-101)), (6, .ref q23), (5, .ref q22), (4, .int j2), (0, .ref h0), (1, .int n1), (2, .ref ac), (3, .ref tr5)]) hx hb dL_areFences_137 hl (by decide) rfl (fun ls hl => ?_)
    refine lv_bipush (v := 99) hx hb dL_areFences_139 (by decide) ?_
    refine lv_istore (lv' := [(12, .int 99), (11, .int (-101)), (10, .int n1), (9, .int 0), (8, .int 0), (7, .int (-101)), (6, .ref q23), (5, .ref q22), (4, .int j2), (0, .ref h0), (1, .int n1), (2, .ref ac), (3, .ref tr5)]) hx hb dL_areFences_141 hl (by decide) rfl (fun ls hl => ?_)
    refine lv_iconst (v := 0) hx hb dL_areFences_143 (by decide) ?_
    refine lv_istore (lv' := [(13, .int 0), (12, .int 99), (11, .int (-101)), (10, .int n1), (9, .int 0), (8, .int 0), (7, .int (-101)), (6, .ref q23), (5, .ref q22), (4, .int j2), (0, .ref h0), (1, .int n1), (2, .ref ac), (3, .ref tr5)]) hx hb dL_areFences_144 hl (by decide) rfl (fun ls hl => ?_)
    have L146 : ∀ (Q : State → Prop) (n : Nat) (b1 : Int32) (b7 : Int32) (b8 : Int32) (b9 : Int32) (b10 : Int32) (b11 : Int32) (b12 : Int32) (gm : k_G8) (sn : k_G8) (hs : Int32) (qs : k_Q4) (k0 : k_G8) (k1 : k_G8) (k2 : k_G8) (k3 : k_G8) (ch : Nat → Int32) (o : k_O5) (tr : k_G8) (es : Int32) (op : Nat → Int32) (fo : Nat → Int32) (has : Int32) (rc : Nat → Int32) (rt : Nat → Int32) (s146 : Int32 × Int32 × (Nat → Int32) × (Nat → Int32)) (q : Int32 × Int32 × (Nat → Int32) × (Nat → Int32)), k_loop (t_L_areFences_146 b1 b7 b8 b9 b10 b11 b12 gm rc) n s146 = some q → ∀ (CX SX cells slots : Nat), CX ≤ rm_L_areFences.cells → SX ≤ rm_L_areFences.slots → cells + n * 2 ≤ CX → slots + n * 12 ≤ SX → ∀ (ls : Array Slot) (H : Heap) (locs : List Loc), lv_has ls 16 [(0, .ref h0), (1, .int b1), (2, .ref ac), (3, .ref tr5), (4, .int s146.1), (5, .ref q22), (6, .ref q23), (7, .int b7), (8, .int b8), (9, .int b9), (10, .int b10), (11, .int b11), (12, .int b12), (13, .int s146.2.1)] → va_P D vwCl (wX7 cy h0 gma sna hia ka ora cha tra ena opa foa gm sn hs qs k0 k1 k2 k3 ch o tr es op fo has ++ [wR cy 0 12 ac rc, wR cy 0 5 tr5 rt, wR cy 0 5 q22 s146.2.2.1, wR cy 0 3 q23 s146.2.2.2]) H → va_D A (wX7 cy h0 gma sna hia ka ora cha tra ena opa foa gm sn hs qs k0 k1 k2 k3 ch o tr es op fo has ++ [wR cy 0 12 ac rc, wR cy 0 5 tr5 rt, wR cy 0 5 q22 s146.2.2.1, wR cy 0 3 q23 s146.2.2.2]) → va_S A s.heap H locs → (∀ (ls : Array Slot) (H : Heap) (locs : List Loc), lv_has ls 16 [(0, .ref h0), (1, .int b1), (3, .ref tr5), (4, .int q.1), (5, .ref q22), (6, .ref q23), (7, .int b7), (8, .int b8), (9, .int b9), (10, .int b10), (11, .int b11), (12, .int b12)] → va_P D vwCl (wX7 cy h0 gma sna hia ka ora cha tra ena opa foa gm sn hs qs k0 k1 k2 k3 ch o tr es op fo has ++ [wR cy 0 12 ac rc, wR cy 0 5 tr5 rt, wR cy 0 5 q22 q.2.2.1, wR cy 0 3 q23 q.2.2.2]) H → va_D A (wX7 cy h0 gma sna hia ka ora cha tra ena opa foa gm sn hs qs k0 k1 k2 k3 ch o tr es op fo has ++ [wR cy 0 12 ac rc, wR cy 0 5 tr5 rt, wR cy 0 5 q22 q.2.2.1, wR cy 0 3 q23 q.2.2.2]) → va_S A s.heap H locs → W p l e rm_L_areFences s m args below meth c H locs CX SX Q (F0 m 237 ls [])) → W p l e rm_L_areFences s m args below meth c H locs cells slots Q (F0 m 146 ls []) := by
      intro Q n
      induction n with
      | zero =>
        intro b1 b7 b8 b9 b10 b11 b12 gm sn hs qs k0 k1 k2 k3 ch o tr es op fo has rc rt s146 q hq
        exact (k_loop0 hq).elim
      | succ n ih =>
        intro b1 b7 b8 b9 b10 b11 b12 gm sn hs qs k0 k1 k2 k3 ch o tr es op fo has rc rt s146 q hq CX SX cells slots hcx hsx hcc hss ls H locs hl hP hD hS kx
        obtain ⟨x, hf, hq⟩ := k_loopE hq
        unfold t_L_areFences_146 at hf
        refine lv_iload hx hb dL_areFences_146 (lv_at hl 13 rfl) ?_
        refine lv_bipush (v := 12) hx hb dL_areFences_148 (by decide) ?_
        refine lv_icmp_ge (tgt := 237) hx hb dL_areFences_150 (by decide) (fun c24 => ?_) (fun c24 => ?_)
        · have hf := k_T c24 hf
          refine W.widen (k := CX) (n := SX) (by omega) (by omega) ?_
          obtain rfl := k_some hf
          obtain rfl := k_some (k_inr hq)
          exact kx ls H locs (lv_sub hl [0, 1, 3, 4, 5, 6, 7, 8, 9, 10, 11, 12] rfl) hP hD hS
        · have hf := k_F c24 hf
          refine lv_iload hx hb dL_areFences_153 (lv_at hl 4 rfl) ?_
          refine lv_if_eq (tgt := 237) hx hb dL_areFences_155 (by decide) (fun c25 => ?_) (fun c25 => ?_)
          · have hf := k_T c25 hf
            refine W.widen (k := CX) (n := SX) (by omega) (by omega) ?_
            obtain rfl := k_some hf
            obtain rfl := k_some (k_inr hq)
            exact kx ls H locs (lv_sub hl [0, 1, 3, 4, 5, 6, 7, 8, 9, 10, 11, 12] rfl) hP hD hS
          · have hf := k_F c25 hf
            refine lv_aload hx hb dL_areFences_158 (lv_at hl 5 rfl) ?_
            refine lv_iload_n hx hb dL_areFences_160 rfl (lv_at hl 1 rfl) ?_
            refine lv_iload hx hb dL_areFences_161 (lv_at hl 13 rfl) ?_
            obtain ⟨v26, hv26, hf⟩ := k_B hf
            refine k_callS (As := [.int b1, .int s146.2.1]) (rest := [.ref q22]) ⟨hx, hb, hml, hown, hts⟩ (c_L_has l b1 s146.2.1 v26 hv26) (va_cwS 2 hts gL_areFences_L_has rfl rfl rfl hd_L_has ⟨Nat.le_of_ble_eq_true rfl, Nat.le_of_ble_eq_true rfl⟩) rfl hl.1 rfl (Nat.le_of_ble_eq_true rfl) dL_areFences_163 ⟨Nat.le_trans (by omega) hcx, Nat.le_trans (by omega) hsx⟩ ?_
            refine lv_dup2_11 hx hb dL_areFences_166 rfl rfl ?_
            obtain ⟨g27, hf⟩ := k_G hf
            refine va_iald hx hb hK hP 17 0 rfl rfl g27 dL_areFences_167 ?_
            refine lv_iconst (v := 1) hx hb dL_areFences_168 (by decide) ?_
            refine lv_iadd hx hb dL_areFences_169 ?_
            obtain ⟨g28, hf⟩ := k_G hf
            refine va_iast hx hb hK hP hD hS 17 0 rfl rfl g28 dL_areFences_170 (fun H locs hP hD hS => ?_)
            obtain ⟨w29, ew29, hf⟩ := k_L hf
            have hP : va_P D vwCl (wX7 cy h0 gma sna hia ka ora cha tra ena opa foa gm sn hs qs k0 k1 k2 k3 ch o tr es op fo has ++ [wR cy 0 12 ac rc, wR cy 0 5 tr5 rt, wR cy 0 5 q22 w29, wR cy 0 3 q23 s146.2.2.2]) H := by rw [ew29]; exact hP
            have hD : va_D A (wX7 cy h0 gma sna hia ka ora cha tra ena opa foa gm sn hs qs k0 k1 k2 k3 ch o tr es op fo has ++ [wR cy 0 12 ac rc, wR cy 0 5 tr5 rt, wR cy 0 5 q22 w29, wR cy 0 3 q23 s146.2.2.2]) := by rw [ew29]; exact hD
            refine lv_aload hx hb dL_areFences_171 (lv_at hl 6 rfl) ?_
            refine lv_aload_n hx hb dL_areFences_173 rfl (lv_at hl 2 rfl) ?_
            refine lv_iload hx hb dL_areFences_174 (lv_at hl 13 rfl) ?_
            obtain ⟨g30, hf⟩ := k_G hf
            refine va_iald hx hb hK hP 15 0 rfl rfl g30 dL_areFences_176 ?_
            refine lv_iconst (v := 1) hx hb dL_areFences_177 (by decide) ?_
            refine lv_iadd hx hb dL_areFences_178 ?_
            refine lv_dup2_11 hx hb dL_areFences_179 rfl rfl ?_
            obtain ⟨g31, hf⟩ := k_G hf
            refine va_iald hx hb hK hP 18 0 rfl rfl g31 dL_areFences_180 ?_
            refine lv_iconst (v := 1) hx hb dL_areFences_181 (by decide) ?_
            refine lv_iadd hx hb dL_areFences_182 ?_
            obtain ⟨y32, ey32, hf⟩ := k_L hf
            refine k_name ey32 ?_
            obtain ⟨g33, hf⟩ := k_G hf
            refine va_iast hx hb hK hP hD hS 18 0 rfl rfl g33 dL_areFences_183 (fun H locs hP hD hS => ?_)
            obtain ⟨w34, ew34, hf⟩ := k_L hf
            have hP : va_P D vwCl (wX7 cy h0 gma sna hia ka ora cha tra ena opa foa gm sn hs qs k0 k1 k2 k3 ch o tr es op fo has ++ [wR cy 0 12 ac rc, wR cy 0 5 tr5 rt, wR cy 0 5 q22 w29, wR cy 0 3 q23 w34]) H := by rw [ew34]; exact hP
            have hD : va_D A (wX7 cy h0 gma sna hia ka ora cha tra ena opa foa gm sn hs qs k0 k1 k2 k3 ch o tr es op fo has ++ [wR cy 0 12 ac rc, wR cy 0 5 tr5 rt, wR cy 0 5 q22 w29, wR cy 0 3 q23 w34]) := by rw [ew34]; exact hD
            refine lv_aload_n hx hb dL_areFences_184 rfl (lv_at hl 0 rfl) ?_
            refine lv_iload hx hb dL_areFences_185 (lv_at hl 13 rfl) ?_
            obtain ⟨v35, hv35, hf⟩ := k_B hf
            refine k_callLS (As := [.ref h0, .int s146.2.1]) (rest := []) (isC := [0, 1, 2, 3, 4, 5, 6, 7, 8, 9, 10, 11, 12, 13, 14]) (isR := [15, 16, 17, 18]) (perm := [4, 5, 6, 7, 8, 9, 10, 11, 12, 13, 14, 15, 16, 17, 18, 0, 1, 2, 3]) (w' := (wX7 cy h0 gma sna hia ka ora cha tra ena opa foa gm sn hs qs k0 k1 k2 k3 ch o tr es op fo has ++ [wR cy 0 12 ac rc, wR cy 0 5 tr5 rt, wR cy 0 5 q22 w29, wR cy 0 3 q23 w34])) ⟨hx, hb, hml, hown, hts⟩ (c_L_fencesOfOf l hl9 D cy h0 gma sna hia ka ora cha tra ena opa foa gm sn hs qs k0 k1 k2 k3 ch o tr es op fo has s146.2.1 v35 hv35) (vx_cwSW 2 hts gL_areFences_L_fencesOfOf rfl rfl rfl hd_L_fencesOfOf ⟨Nat.le_of_ble_eq_true rfl, Nat.le_of_ble_eq_true rfl⟩) hK hN hT hZ hCx hP hD hS hA rfl rfl rfl (by decide) (by decide) rfl (by decide) rfl hl.1 rfl (Nat.le_of_ble_eq_true rfl) dL_areFences_187 ⟨Nat.le_trans (by omega) hcx, Nat.le_trans (by omega) hsx⟩ (fun H locs hP hD hS => ?_)
            refine lv_iload_n hx hb dL_areFences_190 rfl (lv_at hl 1 rfl) ?_
            refine lv_iload hx hb dL_areFences_191 (lv_at hl 13 rfl) ?_
            obtain ⟨v36, hv36, hf⟩ := k_B hf
            refine k_callS (As := [.int b1, .int s146.2.1]) (rest := [.int v35]) ⟨hx, hb, hml, hown, hts⟩ (c_L_has l b1 s146.2.1 v36 hv36) (va_cwS 2 hts gL_areFences_L_has rfl rfl rfl hd_L_has ⟨Nat.le_of_ble_eq_true rfl, Nat.le_of_ble_eq_true rfl⟩) rfl hl.1 rfl (Nat.le_of_ble_eq_true rfl) dL_areFences_193 ⟨Nat.le_trans (by omega) hcx, Nat.le_trans (by omega) hsx⟩ ?_
            obtain ⟨j37, hj37, hf⟩ := k_B hf
            refine k_joinH (nL := 16) (J := 229) (D := D) (A := A) (H0 := s.heap) (w' := (wX7 cy h0 gma sna hia ka ora cha tra ena opa foa gm sn hs qs k0 k1 k2 k3 ch o tr es op fo has ++ [wR cy 0 12 ac rc, wR cy 0 5 tr5 rt, wR cy 0 5 q22 w29, wR cy 0 3 q23 w34])) (L := [(0, .ref h0), (1, .int b1), (2, .ref ac), (3, .ref tr5), (5, .ref q22), (6, .ref q23), (7, .int b7), (8, .int b8), (9, .int b9), (10, .int b10), (11, .int b11), (12, .int b12), (13, .int s146.2.1)]) (stk := [.int j37]) (cells' := (cells + 2)) (slots' := (slots + 12)) (fun ls H locs hl hP hD hS => ?_) (fun kj37 => ?_)
            · refine lv_istore (lv' := [(4, .int j37), (0, .ref h0), (1, .int b1), (2, .ref ac), (3, .ref tr5), (5, .ref q22), (6, .ref q23), (7, .int b7), (8, .int b8), (9, .int b9), (10, .int b10), (11, .int b11), (12, .int b12), (13, .int s146.2.1)]) hx hb dL_areFences_229 hl (by decide) rfl (fun ls hl => ?_)
              refine lv_iinc (v := s146.2.1 + 1) (lv' := [(13, .int (s146.2.1 + 1)), (4, .int j37), (0, .ref h0), (1, .int b1), (2, .ref ac), (3, .ref tr5), (5, .ref q22), (6, .ref q23), (7, .int b7), (8, .int b8), (9, .int b9), (10, .int b10), (11, .int b11), (12, .int b12)]) hx hb dL_areFences_231 hl (k := 13) rfl rfl (by decide) rfl (fun ls hl => ?_)
              refine lv_goto (tgt := 146) hx hb dL_areFences_234 (by decide) ?_
              refine W.widen (k := cells + 2) (n := slots + 12) (by omega) (by omega) ?_
              obtain rfl := k_some hf
              exact ih b1 b7 b8 b9 b10 b11 b12 gm sn hs qs k0 k1 k2 k3 ch o tr es op fo has rc rt (j37, s146.2.1 + 1, w29, w34) q (k_inl hq) CX SX (cells + 2) (slots + 12) hcx hsx (by omega) (by omega) ls H locs (lv_sub hl [2, 3, 4, 5, 1, 6, 7, 8, 9, 10, 11, 12, 13, 0] rfl) hP hD hS kx
            · have hf := hj37
              refine lv_icmp_ne (tgt := 228) hx hb dL_areFences_196 (by decide) (fun c38 => ?_) (fun c38 => ?_)
              · have hf := k_F c38 hf
                refine lv_iconst (v := 0) hx hb dL_areFences_228 (by decide) ?_
                refine W.widen (k := (cells + 2)) (n := (slots + 12)) (by omega) (by omega) ?_
                obtain rfl := k_some hf
                exact kj37 ls H locs (lv_sub hl [0, 1, 2, 3, 5, 6, 7, 8, 9, 10, 11, 12, 13] rfl) hP hD hS
              · have hf := k_T c38 hf
                refine lv_aload_n hx hb dL_areFences_199 rfl (lv_at hl 0 rfl) ?_
                refine lv_iload hx hb dL_areFences_200 (lv_at hl 13 rfl) ?_
                obtain ⟨v39, hv39, hf⟩ := k_B hf
                refine k_callLS (As := [.ref h0, .int s146.2.1]) (rest := []) (isC := [0, 1, 2, 3, 4, 5, 6, 7, 8, 9, 10, 11, 12, 13, 14]) (isR := [15, 16, 17, 18]) (perm := [4, 5, 6, 7, 8, 9, 10, 11, 12, 13, 14, 15, 16, 17, 18, 0, 1, 2, 3]) (w' := (wX7 cy h0 gma sna hia ka ora cha tra ena opa foa gm sn hs qs k0 k1 k2 k3 ch o tr es op fo has ++ [wR cy 0 12 ac rc, wR cy 0 5 tr5 rt, wR cy 0 5 q22 w29, wR cy 0 3 q23 w34])) ⟨hx, hb, hml, hown, hts⟩ (c_L_ownerOfOf l hl9 D cy h0 gma sna hia ka ora cha tra ena opa foa gm sn hs qs k0 k1 k2 k3 ch o tr es op fo has s146.2.1 v39 hv39) (vx_cwSW 2 hts gL_areFences_L_ownerOfOf rfl rfl rfl hd_L_ownerOfOf ⟨Nat.le_of_ble_eq_true rfl, Nat.le_of_ble_eq_true rfl⟩) hK hN hT hZ hCx hP hD hS hA rfl rfl rfl (by decide) (by decide) rfl (by decide) rfl hl.1 rfl (Nat.le_of_ble_eq_true rfl) dL_areFences_202 ⟨Nat.le_trans (by omega) hcx, Nat.le_trans (by omega) hsx⟩ (fun H locs hP hD hS => ?_)
                refine lv_aload_n hx hb dL_areFences_205 rfl (lv_at hl 2 rfl) ?_
                refine lv_iload hx hb dL_areFences_206 (lv_at hl 13 rfl) ?_
                obtain ⟨g40, hf⟩ := k_G hf
                refine va_iald hx hb hK hP 15 0 rfl rfl g40 dL_areFences_208 ?_
                obtain ⟨j41, hj41, hf⟩ := k_B hf
                refine k_joinH (nL := 16) (J := 221) (D := D) (A := A) (H0 := s.heap) (w' := (wX7 cy h0 gma sna hia ka ora cha tra ena opa foa gm sn hs qs k0 k1 k2 k3 ch o tr es op fo has ++ [wR cy 0 12 ac rc, wR cy 0 5 tr5 rt, wR cy 0 5 q22 w29, wR cy 0 3 q23 w34])) (L := [(0, .ref h0), (1, .int b1), (2, .ref ac), (3, .ref tr5), (5, .ref q22), (6, .ref q23), (7, .int b7), (8, .int b8), (9, .int b9), (10, .int b10), (11, .int b11), (12, .int b12), (13, .int s146.2.1)]) (stk := [.int j41, .int v39]) (cells' := (cells + 2)) (slots' := (slots + 12)) (fun ls H locs hl hP hD hS => ?_) (fun kj41 => ?_)
                · refine lv_icmp_ne (tgt := 228) hx hb dL_areFences_221 (by decide) (fun c44 => ?_) (fun c44 => ?_)
                  · have hf := k_F c44 hf
                    refine lv_iconst (v := 0) hx hb dL_areFences_228 (by decide) ?_
                    refine W.widen (k := (cells + 2)) (n := (slots + 12)) (by omega) (by omega) ?_
                    obtain rfl := k_some hf
                    exact kj37 ls H locs (lv_sub hl [0, 1, 2, 3, 4, 5, 6, 7, 8, 9, 10, 11, 12] rfl) hP hD hS
                  · have hf := k_T c44 hf
                    refine lv_iconst (v := 1) hx hb dL_areFences_224 (by decide) ?_
                    refine lv_goto (tgt := 229) hx hb dL_areFences_225 (by decide) ?_
                    refine W.widen (k := (cells + 2)) (n := (slots + 12)) (by omega) (by omega) ?_
                    obtain rfl := k_some hf
                    exact kj37 ls H locs (lv_sub hl [0, 1, 2, 3, 4, 5, 6, 7, 8, 9, 10, 11, 12] rfl) hP hD hS
                · have hf := hj41
                  refine lv_if_ge (tgt := 217) hx hb dL_areFences_209 (by decide) (fun c42 => ?_) (fun c42 => ?_)
                  · have hf := k_T c42 hf
                    refine lv_aload_n hx hb dL_areFences_217 rfl (lv_at hl 2 rfl) ?_
                    refine lv_iload hx hb dL_areFences_218 (lv_at hl 13 rfl) ?_
                    obtain ⟨g43, hf⟩ := k_G hf
                    refine va_iald hx hb hK hP 15 0 rfl rfl g43 dL_areFences_220 ?_
                    refine W.widen (k := (cells + 2)) (n := (slots + 12)) (by omega) (by omega) ?_
                    obtain rfl := k_some hf
                    exact kj41 ls H locs (lv_sub hl [0, 1, 2, 3, 5, 6, 7, 8, 9, 10, 11, 12, 13] rfl) hP hD hS
                  · have hf := k_F c42 hf
                    refine lv_bipush (v := (-102)) hx hb dL_areFences_212 (by decide) ?_
                    refine lv_goto (tgt := 221) hx hb dL_areFences_214 (by decide) ?_
                    refine W.widen (k := (cells + 2)) (n := (slots + 12)) (by omega) (by omega) ?_
                    obtain rfl := k_some hf
                    exact kj41 ls H locs (lv_sub hl [0, 1, 2, 3, 5, 6, 7, 8, 9, 10, 11, 12, 13] rfl) hP hD hS
    obtain ⟨x45, hx45, hf⟩ := k_B hf
    refine W.widen (k := 12) (n := 68) (by omega) (by omega) ?_
    refine L146 _ 70 n1 (-101) 0 0 n1 (-101) 99 gm sn hs qs k0 k1 k2 k3 ch o tr es op fo has rc rt (j2, 0, (fun _ => 0), (fun _ => 0)) x45 hx45 152 908 12 68 (Nat.le_of_ble_eq_true rfl) (Nat.le_of_ble_eq_true rfl) (by omega) (by omega) ls H locs (lv_sub hl [10, 11, 12, 13, 9, 8, 7, 6, 5, 4, 3, 2, 1, 0] rfl) hP hD hS ?_
    intro ls H locs hl hP hD hS
    refine lv_iconst (v := 0) hx hb dL_areFences_237 (by decide) ?_
    refine lv_istore (lv' := [(13, .int 0), (0, .ref h0), (1, .int n1), (3, .ref tr5), (4, .int x45.1), (5, .ref q22), (6, .ref q23), (7, .int (-101)), (8, .int 0), (9, .int 0), (10, .int n1), (11, .int (-101)), (12, .int 99)]) hx hb dL_areFences_238 hl (by decide) rfl (fun ls hl => ?_)
    have L240 : ∀ (Q : State → Prop) (n : Nat) (b1 : Int32) (gm : k_G8) (sn : k_G8) (hs : Int32) (qs : k_Q4) (k0 : k_G8) (k1 : k_G8) (k2 : k_G8) (k3 : k_G8) (ch : Nat → Int32) (o : k_O5) (tr : k_G8) (es : Int32) (op : Nat → Int32) (fo : Nat → Int32) (has : Int32) (rc : Nat → Int32) (rt : Nat → Int32) (u1 : Nat → Int32) (u2 : Nat → Int32) (s240 : Int32 × Int32 × Int32 × Int32 × Int32 × Int32 × Int32 × Int32) (q : Int32 × Int32 × Int32 × Int32 × Int32 × Int32 × Int32 × Int32), k_loop (t_L_areFences_240 b1 gm) n s240 = some q → ∀ (CX SX cells slots : Nat), CX ≤ rm_L_areFences.cells → SX ≤ rm_L_areFences.slots → cells + n * 4 ≤ CX → slots + n * 24 ≤ SX → ∀ (ls : Array Slot) (H : Heap) (locs : List Loc), lv_has ls 16 [(0, .ref h0), (1, .int b1), (3, .ref tr5), (4, .int s240.1), (5, .ref q22), (6, .ref q23), (7, .int s240.2.1), (8, .int s240.2.2.1), (9, .int s240.2.2.2.1), (10, .int s240.2.2.2.2.1), (11, .int s240.2.2.2.2.2.1), (12, .int s240.2.2.2.2.2.2.1), (13, .int s240.2.2.2.2.2.2.2)] → va_P D vwCl (wX7 cy h0 gma sna hia ka ora cha tra ena opa foa gm sn hs qs k0 k1 k2 k3 ch o tr es op fo has ++ [wR cy 0 12 ac rc, wR cy 0 5 tr5 rt, wR cy 0 5 q22 u1, wR cy 0 3 q23 u2]) H → va_D A (wX7 cy h0 gma sna hia ka ora cha tra ena opa foa gm sn hs qs k0 k1 k2 k3 ch o tr es op fo has ++ [wR cy 0 12 ac rc, wR cy 0 5 tr5 rt, wR cy 0 5 q22 u1, wR cy 0 3 q23 u2]) → va_S A s.heap H locs → (∀ (ls : Array Slot) (H : Heap) (locs : List Loc), lv_has ls 16 [(0, .ref h0), (1, .int b1), (3, .ref tr5), (4, .int q.1), (5, .ref q22), (6, .ref q23), (7, .int q.2.1), (8, .int q.2.2.1), (9, .int q.2.2.2.1), (11, .int q.2.2.2.2.2.1)] → va_P D vwCl (wX7 cy h0 gma sna hia ka ora cha tra ena opa foa gm sn hs qs k0 k1 k2 k3 ch o tr es op fo has ++ [wR cy 0 12 ac rc, wR cy 0 5 tr5 rt, wR cy 0 5 q22 u1, wR cy 0 3 q23 u2]) H → va_D A (wX7 cy h0 gma sna hia ka ora cha tra ena opa foa gm sn hs qs k0 k1 k2 k3 ch o tr es op fo has ++ [wR cy 0 12 ac rc, wR cy 0 5 tr5 rt, wR cy 0 5 q22 u1, wR cy 0 3 q23 u2]) → va_S A s.heap H locs → W p l e rm_L_areFences s m args below meth c H locs CX SX Q (F0 m 499 ls [])) → W p l e rm_L_areFences s m args below meth c H locs cells slots Q (F0 m 240 ls []) := by
      intro Q n
      induction n with
      | zero =>
        intro b1 gm sn hs qs k0 k1 k2 k3 ch o tr es op fo has rc rt u1 u2 s240 q hq
        exact (k_loop0 hq).elim
      | succ n ih =>
        intro b1 gm sn hs qs k0 k1 k2 k3 ch o tr es op fo has rc rt u1 u2 s240 q hq CX SX cells slots hcx hsx hcc hss ls H locs hl hP hD hS kx
        obtain ⟨x, hf, hq⟩ := k_loopE hq
        unfold t_L_areFences_240 at hf
        refine lv_iload hx hb dL_areFences_240 (lv_at hl 12 rfl) ?_
        refine lv_bipush (v := 31) hx hb dL_areFences_242 (by decide) ?_
        refine lv_icmp_ge (tgt := 499) hx hb dL_areFences_244 (by decide) (fun c46 => ?_) (fun c46 => ?_)
        · have hf := k_T c46 hf
          refine W.widen (k := CX) (n := SX) (by omega) (by omega) ?_
          obtain rfl := k_some hf
          obtain rfl := k_some (k_inr hq)
          exact kx ls H locs (lv_sub hl [0, 1, 2, 3, 4, 5, 6, 7, 8, 10] rfl) hP hD hS
        · have hf := k_F c46 hf
          refine lv_iload hx hb dL_areFences_247 (lv_at hl 3 rfl) ?_
          refine lv_if_eq (tgt := 499) hx hb dL_areFences_249 (by decide) (fun c47 => ?_) (fun c47 => ?_)
          · have hf := k_T c47 hf
            refine W.widen (k := CX) (n := SX) (by omega) (by omega) ?_
            obtain rfl := k_some hf
            obtain rfl := k_some (k_inr hq)
            exact kx ls H locs (lv_sub hl [0, 1, 2, 3, 4, 5, 6, 7, 8, 10] rfl) hP hD hS
          · have hf := k_F c47 hf
            refine lv_iload_n hx hb dL_areFences_252 rfl (lv_at hl 1 rfl) ?_
            refine lv_iload hx hb dL_areFences_253 (lv_at hl 12 rfl) ?_
            refine lv_ishr hx hb dL_areFences_255 ?_
            refine lv_iconst (v := 1) hx hb dL_areFences_256 (by decide) ?_
            refine lv_iand hx hb dL_areFences_257 ?_
            refine lv_iconst (v := 1) hx hb dL_areFences_258 (by decide) ?_
            obtain ⟨j48, hj48, hf⟩ := k_B hf
            refine k_joinH (nL := 16) (J := 267) (D := D) (A := A) (H0 := s.heap) (w' := (wX7 cy h0 gma sna hia ka ora cha tra ena opa foa gm sn hs qs k0 k1 k2 k3 ch o tr es op fo has ++ [wR cy 0 12 ac rc, wR cy 0 5 tr5 rt, wR cy 0 5 q22 u1, wR cy 0 3 q23 u2])) (L := [(0, .ref h0), (1, .int b1), (3, .ref tr5), (5, .ref q22), (6, .ref q23), (7, .int s240.2.1), (8, .int s240.2.2.1), (9, .int s240.2.2.2.1), (10, .int s240.2.2.2.2.1), (11, .int s240.2.2.2.2.2.1), (12, .int s240.2.2.2.2.2.2.1), (13, .int s240.2.2.2.2.2.2.2)]) (stk := [.int j48]) (cells' := (cells + 0)) (slots' := (slots + 0)) (fun ls H locs hl hP hD hS => ?_) (fun kj48 => ?_)
            · refine lv_istore (lv' := [(14, .int j48), (0, .ref h0), (1, .int b1), (3, .ref tr5), (5, .ref q22), (6, .ref q23), (7, .int s240.2.1), (8, .int s240.2.2.1), (9, .int s240.2.2.2.1), (10, .int s240.2.2.2.2.1), (11, .int s240.2.2.2.2.2.1), (12, .int s240.2.2.2.2.2.2.1), (13, .int s240.2.2.2.2.2.2.2)]) hx hb dL_areFences_267 hl (by decide) rfl (fun ls hl => ?_)
              refine lv_iload hx hb dL_areFences_269 (lv_at hl 6 rfl) ?_
              obtain ⟨j50, hj50, hf⟩ := k_B hf
              refine k_joinH (nL := 16) (J := 295) (D := D) (A := A) (H0 := s.heap) (w' := (wX7 cy h0 gma sna hia ka ora cha tra ena opa foa gm sn hs qs k0 k1 k2 k3 ch o tr es op fo has ++ [wR cy 0 12 ac rc, wR cy 0 5 tr5 rt, wR cy 0 5 q22 u1, wR cy 0 3 q23 u2])) (L := [(0, .ref h0), (1, .int b1), (3, .ref tr5), (5, .ref q22), (6, .ref q23), (8, .int s240.2.2.1), (9, .int s240.2.2.2.1), (10, .int s240.2.2.2.2.1), (11, .int s240.2.2.2.2.2.1), (12, .int s240.2.2.2.2.2.2.1), (13, .int s240.2.2.2.2.2.2.2), (14, .int j48)]) (stk := [.int j50]) (cells' := (cells + 0)) (slots' := (slots + 0)) (fun ls H locs hl hP hD hS => ?_) (fun kj50 => ?_)
              · refine lv_istore (lv' := [(7, .int j50), (0, .ref h0), (1, .int b1), (3, .ref tr5), (5, .ref q22), (6, .ref q23), (8, .int s240.2.2.1), (9, .int s240.2.2.2.1), (10, .int s240.2.2.2.2.1), (11, .int s240.2.2.2.2.2.1), (12, .int s240.2.2.2.2.2.2.1), (13, .int s240.2.2.2.2.2.2.2), (14, .int j48)]) hx hb dL_areFences_295 hl (by decide) rfl (fun ls hl => ?_)
                refine lv_iload hx hb dL_areFences_297 (lv_at hl 6 rfl) ?_
                refine lv_iload_n hx hb dL_areFences_299 rfl (lv_at hl 2 rfl) ?_
                refine lv_iload hx hb dL_areFences_300 (lv_at hl 11 rfl) ?_
                obtain ⟨v55, hv55, hf⟩ := k_B hf
                refine k_callS (As := [.int b1, .int s240.2.2.2.2.2.2.2]) (rest := [.int s240.2.2.1]) ⟨hx, hb, hml, hown, hts⟩ (c_L_safe l b1 s240.2.2.2.2.2.2.2 v55 hv55) (va_cwS 2 hts gL_areFences_L_safe rfl rfl rfl hd_L_safe ⟨Nat.le_of_ble_eq_true rfl, Nat.le_of_ble_eq_true rfl⟩) rfl hl.1 rfl (Nat.le_of_ble_eq_true rfl) dL_areFences_302 ⟨Nat.le_trans (by omega) hcx, Nat.le_trans (by omega) hsx⟩ ?_
                obtain ⟨j56, hj56, hf⟩ := k_B hf
                refine k_joinH (nL := 16) (J := 313) (D := D) (A := A) (H0 := s.heap) (w' := (wX7 cy h0 gma sna hia ka ora cha tra ena opa foa gm sn hs qs k0 k1 k2 k3 ch o tr es op fo has ++ [wR cy 0 12 ac rc, wR cy 0 5 tr5 rt, wR cy 0 5 q22 u1, wR cy 0 3 q23 u2])) (L := [(0, .ref h0), (1, .int b1), (3, .ref tr5), (5, .ref q22), (6, .ref q23), (7, .int j50), (9, .int s240.2.2.2.1), (10, .int s240.2.2.2.2.1), (11, .int s240.2.2.2.2.2.1), (12, .int s240.2.2.2.2.2.2.1), (13, .int s240.2.2.2.2.2.2.2), (14, .int j48)]) (stk := [.int j56, .int s240.2.2.1]) (cells' := (cells + 0)) (slots' := (slots + 0)) (fun ls H locs hl hP hD hS => ?_) (fun kj56 => ?_)
                · refine lv_iadd hx hb dL_areFences_313 ?_
                  obtain ⟨y58, ey58, hf⟩ := k_L hf
                  refine k_name ey58 ?_
                  refine lv_istore (lv' := [(8, .int y58), (0, .ref h0), (1, .int b1), (3, .ref tr5), (5, .ref q22), (6, .ref q23), (7, .int j50), (9, .int s240.2.2.2.1), (10, .int s240.2.2.2.2.1), (11, .int s240.2.2.2.2.2.1), (12, .int s240.2.2.2.2.2.2.1), (13, .int s240.2.2.2.2.2.2.2), (14, .int j48)]) hx hb dL_areFences_314 hl (by decide) rfl (fun ls hl => ?_)
                  refine lv_iload hx hb dL_areFences_316 (lv_at hl 8 rfl) ?_
                  refine lv_iload hx hb dL_areFences_318 (lv_at hl 11 rfl) ?_
                  obtain ⟨v59, hv59, hf⟩ := k_B hf
                  refine k_callS (As := [.int s240.2.2.2.2.1, .int s240.2.2.2.2.2.2.2]) (rest := []) ⟨hx, hb, hml, hown, hts⟩ (c_L_safe l s240.2.2.2.2.1 s240.2.2.2.2.2.2.2 v59 hv59) (va_cwS 2 hts gL_areFences_L_safe rfl rfl rfl hd_L_safe ⟨Nat.le_of_ble_eq_true rfl, Nat.le_of_ble_eq_true rfl⟩) rfl hl.1 rfl (Nat.le_of_ble_eq_true rfl) dL_areFences_320 ⟨Nat.le_trans (by omega) hcx, Nat.le_trans (by omega) hsx⟩ ?_
                  obtain ⟨j60, hj60, hf⟩ := k_B hf
                  refine k_joinH (nL := 16) (J := 338) (D := D) (A := A) (H0 := s.heap) (w' := (wX7 cy h0 gma sna hia ka ora cha tra ena opa foa gm sn hs qs k0 k1 k2 k3 ch o tr es op fo has ++ [wR cy 0 12 ac rc, wR cy 0 5 tr5 rt, wR cy 0 5 q22 u1, wR cy 0 3 q23 u2])) (L := [(0, .ref h0), (1, .int b1), (3, .ref tr5), (5, .ref q22), (6, .ref q23), (7, .int j50), (8, .int y58), (9, .int j60.1), (10, .int j60.2), (11, .int s240.2.2.2.2.2.1), (12, .int s240.2.2.2.2.2.2.1), (13, .int s240.2.2.2.2.2.2.2), (14, .int j48)]) (stk := []) (cells' := (cells + 0)) (slots' := (slots + 0)) (fun ls H locs hl hP hD hS => ?_) (fun kj60 => ?_)
                  · refine lv_iload hx hb dL_areFences_338 (lv_at hl 12 rfl) ?_
                    obtain ⟨j63, hj63, hf⟩ := k_B hf
                    refine k_joinH (nL := 16) (J := 357) (D := D) (A := A) (H0 := s.heap) (w' := (wX7 cy h0 gma sna hia ka ora cha tra ena opa foa gm sn hs qs k0 k1 k2 k3 ch o tr es op fo has ++ [wR cy 0 12 ac rc, wR cy 0 5 tr5 rt, wR cy 0 5 q22 u1, wR cy 0 3 q23 u2])) (L := [(0, .ref h0), (1, .int b1), (3, .ref tr5), (5, .ref q22), (6, .ref q23), (7, .int j50), (8, .int y58), (9, .int j60.1), (10, .int j60.2), (11, .int s240.2.2.2.2.2.1), (12, .int s240.2.2.2.2.2.2.1), (13, .int s240.2.2.2.2.2.2.2), (14, .int j48)]) (stk := [.int j63]) (cells' := (cells + 0)) (slots' := (slots + 0)) (fun ls H locs hl hP hD hS => ?_) (fun kj63 => ?_)
                    · refine lv_istore (lv' := [(15, .int j63), (0, .ref h0), (1, .int b1), (3, .ref tr5), (5, .ref q22), (6, .ref q23), (7, .int j50), (8, .int y58), (9, .int j60.1), (10, .int j60.2), (11, .int s240.2.2.2.2.2.1), (12, .int s240.2.2.2.2.2.2.1), (13, .int s240.2.2.2.2.2.2.2), (14, .int j48)]) hx hb dL_areFences_357 hl (by decide) rfl (fun ls hl => ?_)
                      refine lv_iload hx hb dL_areFences_359 (lv_at hl 13 rfl) ?_
                      obtain ⟨j66, hj66, hf⟩ := k_B hf
                      refine k_joinH (nL := 16) (J := 378) (D := D) (A := A) (H0 := s.heap) (w' := (wX7 cy h0 gma sna hia ka ora cha tra ena opa foa gm sn hs qs k0 k1 k2 k3 ch o tr es op fo has ++ [wR cy 0 12 ac rc, wR cy 0 5 tr5 rt, wR cy 0 5 q22 u1, wR cy 0 3 q23 u2])) (L := [(0, .ref h0), (1, .int b1), (3, .ref tr5), (5, .ref q22), (6, .ref q23), (7, .int j50), (8, .int y58), (9, .int j60.1), (10, .int j60.2), (12, .int s240.2.2.2.2.2.2.1), (13, .int s240.2.2.2.2.2.2.2), (14, .int j48), (15, .int j63)]) (stk := [.int j66]) (cells' := (cells + 0)) (slots' := (slots + 0)) (fun ls H locs hl hP hD hS => ?_) (fun kj66 => ?_)
                      · refine lv_istore (lv' := [(11, .int j66), (0, .ref h0), (1, .int b1), (3, .ref tr5), (5, .ref q22), (6, .ref q23), (7, .int j50), (8, .int y58), (9, .int j60.1), (10, .int j60.2), (12, .int s240.2.2.2.2.2.2.1), (13, .int s240.2.2.2.2.2.2.2), (14, .int j48), (15, .int j63)]) hx hb dL_areFences_378 hl (by decide) rfl (fun ls hl => ?_)
                        refine lv_iload hx hb dL_areFences_380 (lv_at hl 12 rfl) ?_
                        obtain ⟨j69, hj69, hf⟩ := k_B hf
                        refine k_joinH (nL := 16) (J := 399) (D := D) (A := A) (H0 := s.heap) (w' := (wX7 cy h0 gma sna hia ka ora cha tra ena opa foa gm sn hs qs k0 k1 k2 k3 ch o tr es op fo has ++ [wR cy 0 12 ac rc, wR cy 0 5 tr5 rt, wR cy 0 5 q22 u1, wR cy 0 3 q23 u2])) (L := [(0, .ref h0), (1, .int b1), (3, .ref tr5), (5, .ref q22), (6, .ref q23), (7, .int j50), (8, .int y58), (9, .int j60.1), (10, .int j60.2), (11, .int j66), (13, .int s240.2.2.2.2.2.2.2), (14, .int j48), (15, .int j63)]) (stk := [.int j69]) (cells' := (cells + 0)) (slots' := (slots + 0)) (fun ls H locs hl hP hD hS => ?_) (fun kj69 => ?_)
                        · refine lv_istore (lv' := [(12, .int j69), (0, .ref h0), (1, .int b1), (3, .ref tr5), (5, .ref q22), (6, .ref q23), (7, .int j50), (8, .int y58), (9, .int j60.1), (10, .int j60.2), (11, .int j66), (13, .int s240.2.2.2.2.2.2.2), (14, .int j48), (15, .int j63)]) hx hb dL_areFences_399 hl (by decide) rfl (fun ls hl => ?_)
                          refine lv_aload_n hx hb dL_areFences_401 rfl (lv_at hl 1 rfl) ?_
                          refine lv_iload hx hb dL_areFences_402 (lv_at hl 11 rfl) ?_
                          obtain ⟨v72, hv72, hf⟩ := k_B hf
                          refine k_callLS (As := [.ref h0, .int s240.2.2.2.2.2.2.2]) (rest := []) (isC := [0, 1, 2, 3, 4, 5, 6, 7, 8, 9, 10, 11, 12, 13, 14]) (isR := [15, 16, 17, 18]) (perm := [4, 5, 6, 7, 8, 9, 10, 11, 12, 13, 14, 15, 16, 17, 18, 0, 1, 2, 3]) (w' := (wX7 cy h0 gma sna hia ka ora cha tra ena opa foa gm sn hs qs k0 k1 k2 k3 ch o tr es op fo has ++ [wR cy 0 12 ac rc, wR cy 0 5 tr5 rt, wR cy 0 5 q22 u1, wR cy 0 3 q23 u2])) ⟨hx, hb, hml, hown, hts⟩ (c_L_isDrawnOf l hl9 D cy h0 gma sna hia ka ora cha tra ena opa foa gm sn hs qs k0 k1 k2 k3 ch o tr es op fo has s240.2.2.2.2.2.2.2 v72 hv72) (vx_cwSW 2 hts gL_areFences_L_isDrawnOf rfl rfl rfl hd_L_isDrawnOf ⟨Nat.le_of_ble_eq_true rfl, Nat.le_of_ble_eq_true rfl⟩) hK hN hT hZ hCx hP hD hS hA rfl rfl rfl (by decide) (by decide) rfl (by decide) rfl hl.1 rfl (Nat.le_of_ble_eq_true rfl) dL_areFences_404 ⟨Nat.le_trans (by omega) hcx, Nat.le_trans (by omega) hsx⟩ (fun H locs hP hD hS => ?_)
                          refine lv_iload hx hb dL_areFences_407 (lv_at hl 12 rfl) ?_
                          obtain ⟨j73, hj73, hf⟩ := k_B hf
                          refine k_joinH (nL := 16) (J := 417) (D := D) (A := A) (H0 := s.heap) (w' := (wX7 cy h0 gma sna hia ka ora cha tra ena opa foa gm sn hs qs k0 k1 k2 k3 ch o tr es op fo has ++ [wR cy 0 12 ac rc, wR cy 0 5 tr5 rt, wR cy 0 5 q22 u1, wR cy 0 3 q23 u2])) (L := [(0, .ref h0), (1, .int b1), (3, .ref tr5), (5, .ref q22), (6, .ref q23), (7, .int j50), (8, .int y58), (9, .int j60.1), (10, .int j60.2), (11, .int j66), (12, .int j69), (13, .int s240.2.2.2.2.2.2.2), (14, .int j48), (15, .int j63)]) (stk := [.int j73, .int v72]) (cells' := (cells + 1)) (slots' := (slots + 6)) (fun ls H locs hl hP hD hS => ?_) (fun kj73 => ?_)
                          · obtain ⟨j75, hj75, hf⟩ := k_B hf
                            refine k_joinH (nL := 16) (J := 491) (D := D) (A := A) (H0 := s.heap) (w' := (wX7 cy h0 gma sna hia ka ora cha tra ena opa foa gm sn hs qs k0 k1 k2 k3 ch o tr es op fo has ++ [wR cy 0 12 ac rc, wR cy 0 5 tr5 rt, wR cy 0 5 q22 u1, wR cy 0 3 q23 u2])) (L := [(0, .ref h0), (1, .int b1), (3, .ref tr5), (5, .ref q22), (6, .ref q23), (7, .int j50), (8, .int y58), (9, .int j60.1), (10, .int j60.2), (11, .int j66), (12, .int j69), (13, .int s240.2.2.2.2.2.2.2)]) (stk := [.int j75]) (cells' := (cells + 4)) (slots' := (slots + 24)) (fun ls H locs hl hP hD hS => ?_) (fun kj75 => ?_)
                            · refine lv_istore (lv' := [(4, .int j75), (0, .ref h0), (1, .int b1), (3, .ref tr5), (5, .ref q22), (6, .ref q23), (7, .int j50), (8, .int y58), (9, .int j60.1), (10, .int j60.2), (11, .int j66), (12, .int j69), (13, .int s240.2.2.2.2.2.2.2)]) hx hb dL_areFences_491 hl (by decide) rfl (fun ls hl => ?_)
                              refine lv_iinc (v := s240.2.2.2.2.2.2.2 + 1) (lv' := [(13, .int (s240.2.2.2.2.2.2.2 + 1)), (4, .int j75), (0, .ref h0), (1, .int b1), (3, .ref tr5), (5, .ref q22), (6, .ref q23), (7, .int j50), (8, .int y58), (9, .int j60.1), (10, .int j60.2), (11, .int j66), (12, .int j69)]) hx hb dL_areFences_493 hl (k := 12) rfl rfl (by decide) rfl (fun ls hl => ?_)
                              refine lv_goto (tgt := 240) hx hb dL_areFences_496 (by decide) ?_
                              refine W.widen (k := cells + 4) (n := slots + 24) (by omega) (by omega) ?_
                              obtain rfl := k_some hf
                              exact ih b1 gm sn hs qs k0 k1 k2 k3 ch o tr es op fo has rc rt u1 u2 (j75, j50, y58, j60.1, j60.2, j66, j69, s240.2.2.2.2.2.2.2 + 1) q (k_inl hq) CX SX (cells + 4) (slots + 24) hcx hsx (by omega) (by omega) ls H locs (lv_sub hl [2, 3, 4, 1, 5, 6, 7, 8, 9, 10, 11, 12, 0] rfl) hP hD hS kx
                            · have hf := hj75
                              refine lv_icmp_ne (tgt := 490) hx hb dL_areFences_417 (by decide) (fun c76 => ?_) (fun c76 => ?_)
                              · have hf := k_F c76 hf
                                refine lv_iconst (v := 0) hx hb dL_areFences_490 (by decide) ?_
                                refine W.widen (k := (cells + 4)) (n := (slots + 24)) (by omega) (by omega) ?_
                                obtain rfl := k_some hf
                                exact kj75 ls H locs (lv_sub hl [0, 1, 2, 3, 4, 5, 6, 7, 8, 9, 10, 11] rfl) hP hD hS
                              · have hf := k_T c76 hf
                                refine lv_aload_n hx hb dL_areFences_420 rfl (lv_at hl 0 rfl) ?_
                                refine lv_iload hx hb dL_areFences_421 (lv_at hl 11 rfl) ?_
                                obtain ⟨v77, hv77, hf⟩ := k_B hf
                                refine k_callLS (As := [.ref h0, .int s240.2.2.2.2.2.2.2]) (rest := []) (isC := [0, 1, 2, 3, 4, 5, 6, 7, 8, 9, 10, 11, 12, 13, 14]) (isR := [15, 16, 17, 18]) (perm := [4, 5, 6, 7, 8, 9, 10, 11, 12, 13, 14, 15, 16, 17, 18, 0, 1, 2, 3]) (w' := (wX7 cy h0 gma sna hia ka ora cha tra ena opa foa gm sn hs qs k0 k1 k2 k3 ch o tr es op fo has ++ [wR cy 0 12 ac rc, wR cy 0 5 tr5 rt, wR cy 0 5 q22 u1, wR cy 0 3 q23 u2])) ⟨hx, hb, hml, hown, hts⟩ (c_L_whyNotOf l hl9 D cy h0 gma sna hia ka ora cha tra ena opa foa gm sn hs qs k0 k1 k2 k3 ch o tr es op fo has s240.2.2.2.2.2.2.2 v77 hv77) (vx_cwSW 2 hts gL_areFences_L_whyNotOf rfl rfl rfl hd_L_whyNotOf ⟨Nat.le_of_ble_eq_true rfl, Nat.le_of_ble_eq_true rfl⟩) hK hN hT hZ hCx hP hD hS hA rfl rfl rfl (by decide) (by decide) rfl (by decide) rfl hl.1 rfl (Nat.le_of_ble_eq_true rfl) dL_areFences_423 ⟨Nat.le_trans (by omega) hcx, Nat.le_trans (by omega) hsx⟩ (fun H locs hP hD hS => ?_)
                                refine lv_iload_n hx hb dL_areFences_426 rfl (lv_at hl 1 rfl) ?_
                                obtain ⟨v78, hv78, hf⟩ := k_B hf
                                refine k_callS (As := [.int b1]) (rest := [.int v77]) ⟨hx, hb, hml, hown, hts⟩ (c_L_count l b1 v78 hv78) (va_cwS 1 hts gL_areFences_L_count rfl rfl rfl hd_L_count ⟨Nat.le_of_ble_eq_true rfl, Nat.le_of_ble_eq_true rfl⟩) rfl hl.1 rfl (Nat.le_of_ble_eq_true rfl) dL_areFences_427 ⟨Nat.le_trans (by omega) hcx, Nat.le_trans (by omega) hsx⟩ ?_
                                refine lv_bipush (v := 31) hx hb dL_areFences_430 (by decide) ?_
                                obtain ⟨j79, hj79, hf⟩ := k_B hf
                                refine k_joinH (nL := 16) (J := 449) (D := D) (A := A) (H0 := s.heap) (w' := (wX7 cy h0 gma sna hia ka ora cha tra ena opa foa gm sn hs qs k0 k1 k2 k3 ch o tr es op fo has ++ [wR cy 0 12 ac rc, wR cy 0 5 tr5 rt, wR cy 0 5 q22 u1, wR cy 0 3 q23 u2])) (L := [(0, .ref h0), (1, .int b1), (3, .ref tr5), (5, .ref q22), (6, .ref q23), (7, .int j50), (8, .int y58), (9, .int j60.1), (10, .int j60.2), (11, .int j66), (12, .int j69), (13, .int s240.2.2.2.2.2.2.2), (15, .int j63)]) (stk := [.int j79, .int v77]) (cells' := (cells + 2)) (slots' := (slots + 12)) (fun ls H locs hl hP hD hS => ?_) (fun kj79 => ?_)
                                · refine lv_icmp_ne (tgt := 490) hx hb dL_areFences_449 (by decide) (fun c82 => ?_) (fun c82 => ?_)
                                  · have hf := k_F c82 hf
                                    refine lv_iconst (v := 0) hx hb dL_areFences_490 (by decide) ?_
                                    refine W.widen (k := (cells + 4)) (n := (slots + 24)) (by omega) (by omega) ?_
                                    obtain rfl := k_some hf
                                    exact kj75 ls H locs (lv_sub hl [0, 1, 2, 3, 4, 5, 6, 7, 8, 9, 10, 11] rfl) hP hD hS
                                  · have hf := k_T c82 hf
                                    refine lv_aload_n hx hb dL_areFences_452 rfl (lv_at hl 0 rfl) ?_
                                    refine lv_iload hx hb dL_areFences_453 (lv_at hl 11 rfl) ?_
                                    obtain ⟨v83, hv83, hf⟩ := k_B hf
                                    refine k_callLS (As := [.ref h0, .int s240.2.2.2.2.2.2.2]) (rest := []) (isC := [0, 1, 2, 3, 4, 5, 6, 7, 8, 9, 10, 11, 12, 13, 14]) (isR := [15, 16, 17, 18]) (perm := [4, 5, 6, 7, 8, 9, 10, 11, 12, 13, 14, 15, 16, 17, 18, 0, 1, 2, 3]) (w' := (wX7 cy h0 gma sna hia ka ora cha tra ena opa foa gm sn hs qs k0 k1 k2 k3 ch o tr es op fo has ++ [wR cy 0 12 ac rc, wR cy 0 5 tr5 rt, wR cy 0 5 q22 u1, wR cy 0 3 q23 u2])) ⟨hx, hb, hml, hown, hts⟩ (c_L_isSafeOf l hl9 D cy h0 gma sna hia ka ora cha tra ena opa foa gm sn hs qs k0 k1 k2 k3 ch o tr es op fo has s240.2.2.2.2.2.2.2 v83 hv83) (vx_cwSW 2 hts gL_areFences_L_isSafeOf rfl rfl rfl hd_L_isSafeOf ⟨Nat.le_of_ble_eq_true rfl, Nat.le_of_ble_eq_true rfl⟩) hK hN hT hZ hCx hP hD hS hA rfl rfl rfl (by decide) (by decide) rfl (by decide) rfl hl.1 rfl (Nat.le_of_ble_eq_true rfl) dL_areFences_455 ⟨Nat.le_trans (by omega) hcx, Nat.le_trans (by omega) hsx⟩ (fun H locs hP hD hS => ?_)
                                    refine lv_iload_n hx hb dL_areFences_458 rfl (lv_at hl 1 rfl) ?_
                                    refine lv_iload hx hb dL_areFences_459 (lv_at hl 11 rfl) ?_
                                    obtain ⟨v84, hv84, hf⟩ := k_B hf
                                    refine k_callS (As := [.int b1, .int s240.2.2.2.2.2.2.2]) (rest := [.int v83]) ⟨hx, hb, hml, hown, hts⟩ (c_L_safe l b1 s240.2.2.2.2.2.2.2 v84 hv84) (va_cwS 2 hts gL_areFences_L_safe rfl rfl rfl hd_L_safe ⟨Nat.le_of_ble_eq_true rfl, Nat.le_of_ble_eq_true rfl⟩) rfl hl.1 rfl (Nat.le_of_ble_eq_true rfl) dL_areFences_461 ⟨Nat.le_trans (by omega) hcx, Nat.le_trans (by omega) hsx⟩ ?_
                                    obtain ⟨j85, hj85, hf⟩ := k_B hf
                                    refine k_joinH (nL := 16) (J := 472) (D := D) (A := A) (H0 := s.heap) (w' := (wX7 cy h0 gma sna hia ka ora cha tra ena opa foa gm sn hs qs k0 k1 k2 k3 ch o tr es op fo has ++ [wR cy 0 12 ac rc, wR cy 0 5 tr5 rt, wR cy 0 5 q22 u1, wR cy 0 3 q23 u2])) (L := [(0, .ref h0), (1, .int b1), (3, .ref tr5), (5, .ref q22), (6, .ref q23), (7, .int j50), (8, .int y58), (9, .int j60.1), (10, .int j60.2), (11, .int j66), (12, .int j69), (13, .int s240.2.2.2.2.2.2.2), (15, .int j63)]) (stk := [.int j85, .int v83]) (cells' := (cells + 3)) (slots' := (slots + 18)) (fun ls H locs hl hP hD hS => ?_) (fun kj85 => ?_)
                                    · refine lv_icmp_ne (tgt := 490) hx hb dL_areFences_472 (by decide) (fun c87 => ?_) (fun c87 => ?_)
                                      · have hf := k_F c87 hf
                                        refine lv_iconst (v := 0) hx hb dL_areFences_490 (by decide) ?_
                                        refine W.widen (k := (cells + 4)) (n := (slots + 24)) (by omega) (by omega) ?_
                                        obtain rfl := k_some hf
                                        exact kj75 ls H locs (lv_sub hl [0, 1, 2, 3, 4, 5, 6, 7, 8, 9, 10, 11] rfl) hP hD hS
                                      · have hf := k_T c87 hf
                                        refine lv_aload_n hx hb dL_areFences_475 rfl (lv_at hl 0 rfl) ?_
                                        refine lv_iload hx hb dL_areFences_476 (lv_at hl 11 rfl) ?_
                                        obtain ⟨v88, hv88, hf⟩ := k_B hf
                                        refine k_callLS (As := [.ref h0, .int s240.2.2.2.2.2.2.2]) (rest := []) (isC := [0, 1, 2, 3, 4, 5, 6, 7, 8, 9, 10, 11, 12, 13, 14]) (isR := [15, 16, 17, 18]) (perm := [4, 5, 6, 7, 8, 9, 10, 11, 12, 13, 14, 15, 16, 17, 18, 0, 1, 2, 3]) (w' := (wX7 cy h0 gma sna hia ka ora cha tra ena opa foa gm sn hs qs k0 k1 k2 k3 ch o tr es op fo has ++ [wR cy 0 12 ac rc, wR cy 0 5 tr5 rt, wR cy 0 5 q22 u1, wR cy 0 3 q23 u2])) ⟨hx, hb, hml, hown, hts⟩ (c_L_givesOf l hl9 D cy h0 gma sna hia ka ora cha tra ena opa foa gm sn hs qs k0 k1 k2 k3 ch o tr es op fo has s240.2.2.2.2.2.2.2 v88 hv88) (vx_cwSW 2 hts gL_areFences_L_givesOf rfl rfl rfl hd_L_givesOf ⟨Nat.le_of_ble_eq_true rfl, Nat.le_of_ble_eq_true rfl⟩) hK hN hT hZ hCx hP hD hS hA rfl rfl rfl (by decide) (by decide) rfl (by decide) rfl hl.1 rfl (Nat.le_of_ble_eq_true rfl) dL_areFences_478 ⟨Nat.le_trans (by omega) hcx, Nat.le_trans (by omega) hsx⟩ (fun H locs hP hD hS => ?_)
                                        refine lv_iload hx hb dL_areFences_481 (lv_at hl 12 rfl) ?_
                                        refine lv_icmp_ne (tgt := 490) hx hb dL_areFences_483 (by decide) (fun c89 => ?_) (fun c89 => ?_)
                                        · have hf := k_F c89 hf
                                          refine lv_iconst (v := 0) hx hb dL_areFences_490 (by decide) ?_
                                          refine W.widen (k := (cells + 4)) (n := (slots + 24)) (by omega) (by omega) ?_
                                          obtain rfl := k_some hf
                                          exact kj75 ls H locs (lv_sub hl [0, 1, 2, 3, 4, 5, 6, 7, 8, 9, 10, 11] rfl) hP hD hS
                                        · have hf := k_T c89 hf
                                          refine lv_iconst (v := 1) hx hb dL_areFences_486 (by decide) ?_
                                          refine lv_goto (tgt := 491) hx hb dL_areFences_487 (by decide) ?_
                                          refine W.widen (k := (cells + 4)) (n := (slots + 24)) (by omega) (by omega) ?_
                                          obtain rfl := k_some hf
                                          exact kj75 ls H locs (lv_sub hl [0, 1, 2, 3, 4, 5, 6, 7, 8, 9, 10, 11] rfl) hP hD hS
                                    · have hf := hj85
                                      refine lv_if_eq (tgt := 471) hx hb dL_areFences_464 (by decide) (fun c86 => ?_) (fun c86 => ?_)
                                      · have hf := k_T c86 hf
                                        refine lv_iconst (v := 0) hx hb dL_areFences_471 (by decide) ?_
                                        refine W.widen (k := (cells + 3)) (n := (slots + 18)) (by omega) (by omega) ?_
                                        obtain rfl := k_some hf
                                        exact kj85 ls H locs (lv_sub hl [0, 1, 2, 3, 4, 5, 6, 7, 8, 9, 10, 11, 12] rfl) hP hD hS
                                      · have hf := k_F c86 hf
                                        refine lv_iconst (v := 1) hx hb dL_areFences_467 (by decide) ?_
                                        refine lv_goto (tgt := 472) hx hb dL_areFences_468 (by decide) ?_
                                        refine W.widen (k := (cells + 3)) (n := (slots + 18)) (by omega) (by omega) ?_
                                        obtain rfl := k_some hf
                                        exact kj85 ls H locs (lv_sub hl [0, 1, 2, 3, 4, 5, 6, 7, 8, 9, 10, 11, 12] rfl) hP hD hS
                                · have hf := hj79
                                  refine lv_icmp_ne (tgt := 439) hx hb dL_areFences_432 (by decide) (fun c80 => ?_) (fun c80 => ?_)
                                  · have hf := k_F c80 hf
                                    refine lv_iload hx hb dL_areFences_439 (lv_at hl 12 rfl) ?_
                                    refine lv_if_eq (tgt := 448) hx hb dL_areFences_441 (by decide) (fun c81 => ?_) (fun c81 => ?_)
                                    · have hf := k_T c81 hf
                                      refine lv_iconst (v := 0) hx hb dL_areFences_448 (by decide) ?_
                                      refine W.widen (k := (cells + 2)) (n := (slots + 12)) (by omega) (by omega) ?_
                                      obtain rfl := k_some hf
                                      exact kj79 ls H locs (lv_sub hl [0, 1, 2, 3, 4, 5, 6, 7, 8, 9, 10, 11, 13] rfl) hP hD hS
                                    · have hf := k_F c81 hf
                                      refine lv_iconst (v := 2) hx hb dL_areFences_444 (by decide) ?_
                                      refine lv_goto (tgt := 449) hx hb dL_areFences_445 (by decide) ?_
                                      refine W.widen (k := (cells + 2)) (n := (slots + 12)) (by omega) (by omega) ?_
                                      obtain rfl := k_some hf
                                      exact kj79 ls H locs (lv_sub hl [0, 1, 2, 3, 4, 5, 6, 7, 8, 9, 10, 11, 13] rfl) hP hD hS
                                  · have hf := k_T c80 hf
                                    refine lv_iconst (v := 1) hx hb dL_areFences_435 (by decide) ?_
                                    refine lv_goto (tgt := 449) hx hb dL_areFences_436 (by decide) ?_
                                    refine W.widen (k := (cells + 2)) (n := (slots + 12)) (by omega) (by omega) ?_
                                    obtain rfl := k_some hf
                                    exact kj79 ls H locs (lv_sub hl [0, 1, 2, 3, 4, 5, 6, 7, 8, 9, 10, 11, 13] rfl) hP hD hS
                          · have hf := hj73
                            refine lv_if_eq (tgt := 416) hx hb dL_areFences_409 (by decide) (fun c74 => ?_) (fun c74 => ?_)
                            · have hf := k_T c74 hf
                              refine lv_iconst (v := 0) hx hb dL_areFences_416 (by decide) ?_
                              refine W.widen (k := (cells + 1)) (n := (slots + 6)) (by omega) (by omega) ?_
                              obtain rfl := k_some hf
                              exact kj73 ls H locs (lv_sub hl [1, 2, 3, 4, 5, 6, 7, 8, 9, 10, 0, 11, 12, 13] rfl) hP hD hS
                            · have hf := k_F c74 hf
                              refine lv_iconst (v := 1) hx hb dL_areFences_412 (by decide) ?_
                              refine lv_goto (tgt := 417) hx hb dL_areFences_413 (by decide) ?_
                              refine W.widen (k := (cells + 1)) (n := (slots + 6)) (by omega) (by omega) ?_
                              obtain rfl := k_some hf
                              exact kj73 ls H locs (lv_sub hl [1, 2, 3, 4, 5, 6, 7, 8, 9, 10, 0, 11, 12, 13] rfl) hP hD hS
                        · have hf := hj69
                          refine lv_if_ne (tgt := 397) hx hb dL_areFences_382 (by decide) (fun c70 => ?_) (fun c70 => ?_)
                          · have hf := k_F c70 hf
                            refine lv_iload hx hb dL_areFences_397 (lv_at hl 10 rfl) ?_
                            refine W.widen (k := (cells + 0)) (n := (slots + 0)) (by omega) (by omega) ?_
                            obtain rfl := k_some hf
                            exact kj69 ls H locs (lv_sub hl [1, 2, 3, 4, 5, 6, 7, 8, 9, 0, 11, 12, 13] rfl) hP hD hS
                          · have hf := k_T c70 hf
                            refine lv_iload hx hb dL_areFences_385 (lv_at hl 13 rfl) ?_
                            refine lv_iload hx hb dL_areFences_387 (lv_at hl 10 rfl) ?_
                            refine lv_icmp_ge (tgt := 397) hx hb dL_areFences_389 (by decide) (fun c71 => ?_) (fun c71 => ?_)
                            · have hf := k_T c71 hf
                              refine lv_iload hx hb dL_areFences_397 (lv_at hl 10 rfl) ?_
                              refine W.widen (k := (cells + 0)) (n := (slots + 0)) (by omega) (by omega) ?_
                              obtain rfl := k_some hf
                              exact kj69 ls H locs (lv_sub hl [1, 2, 3, 4, 5, 6, 7, 8, 9, 0, 11, 12, 13] rfl) hP hD hS
                            · have hf := k_F c71 hf
                              refine lv_iload hx hb dL_areFences_392 (lv_at hl 13 rfl) ?_
                              refine lv_goto (tgt := 399) hx hb dL_areFences_394 (by decide) ?_
                              refine W.widen (k := (cells + 0)) (n := (slots + 0)) (by omega) (by omega) ?_
                              obtain rfl := k_some hf
                              exact kj69 ls H locs (lv_sub hl [1, 2, 3, 4, 5, 6, 7, 8, 9, 0, 11, 12, 13] rfl) hP hD hS
                      · have hf := hj66
                        refine lv_if_ne (tgt := 376) hx hb dL_areFences_361 (by decide) (fun c67 => ?_) (fun c67 => ?_)
                        · have hf := k_F c67 hf
                          refine lv_iload hx hb dL_areFences_376 (lv_at hl 10 rfl) ?_
                          refine W.widen (k := (cells + 0)) (n := (slots + 0)) (by omega) (by omega) ?_
                          obtain rfl := k_some hf
                          exact kj66 ls H locs (lv_sub hl [1, 2, 3, 4, 5, 6, 7, 8, 9, 11, 12, 13, 0] rfl) hP hD hS
                        · have hf := k_T c67 hf
                          refine lv_iload hx hb dL_areFences_364 (lv_at hl 0 rfl) ?_
                          refine lv_iload hx hb dL_areFences_366 (lv_at hl 11 rfl) ?_
                          refine lv_icmp_ge (tgt := 376) hx hb dL_areFences_368 (by decide) (fun c68 => ?_) (fun c68 => ?_)
                          · have hf := k_T c68 hf
                            refine lv_iload hx hb dL_areFences_376 (lv_at hl 10 rfl) ?_
                            refine W.widen (k := (cells + 0)) (n := (slots + 0)) (by omega) (by omega) ?_
                            obtain rfl := k_some hf
                            exact kj66 ls H locs (lv_sub hl [1, 2, 3, 4, 5, 6, 7, 8, 9, 11, 12, 13, 0] rfl) hP hD hS
                          · have hf := k_F c68 hf
                            refine lv_iload hx hb dL_areFences_371 (lv_at hl 12 rfl) ?_
                            refine lv_goto (tgt := 378) hx hb dL_areFences_373 (by decide) ?_
                            refine W.widen (k := (cells + 0)) (n := (slots + 0)) (by omega) (by omega) ?_
                            obtain rfl := k_some hf
                            exact kj66 ls H locs (lv_sub hl [1, 2, 3, 4, 5, 6, 7, 8, 9, 11, 12, 13, 0] rfl) hP hD hS
                    · have hf := hj63
                      refine lv_if_eq (tgt := 348) hx hb dL_areFences_340 (by decide) (fun c64 => ?_) (fun c64 => ?_)
                      · have hf := k_T c64 hf
                        refine lv_iload_n hx hb dL_areFences_348 rfl (lv_at hl 1 rfl) ?_
                        refine lv_iconst (v := 1) hx hb dL_areFences_349 (by decide) ?_
                        refine lv_iload hx hb dL_areFences_350 (lv_at hl 11 rfl) ?_
                        refine lv_ishl hx hb dL_areFences_352 ?_
                        refine lv_ior hx hb dL_areFences_353 ?_
                        obtain ⟨v65, hv65, hf⟩ := k_B hf
                        refine k_callS (As := [.int (b1 ||| ((1 : Int32) <<< (s240.2.2.2.2.2.2.2 &&& 31)))]) (rest := []) ⟨hx, hb, hml, hown, hts⟩ (c_L_take l (b1 ||| ((1 : Int32) <<< (s240.2.2.2.2.2.2.2 &&& 31))) v65 hv65) (va_cwS 1 hts gL_areFences_L_take rfl rfl rfl hd_L_take ⟨Nat.le_of_ble_eq_true rfl, Nat.le_of_ble_eq_true rfl⟩) rfl hl.1 rfl (Nat.le_of_ble_eq_true rfl) dL_areFences_354 ⟨Nat.le_trans (by omega) hcx, Nat.le_trans (by omega) hsx⟩ ?_
                        refine W.widen (k := (cells + 0)) (n := (slots + 0)) (by omega) (by omega) ?_
                        obtain rfl := k_some hf
                        exact kj63 ls H locs (lv_sub hl [0, 1, 2, 3, 4, 5, 6, 7, 8, 9, 10, 11, 12] rfl) hP hD hS
                      · have hf := k_F c64 hf
                        refine lv_bipush (v := (-102)) hx hb dL_areFences_343 (by decide) ?_
                        refine lv_goto (tgt := 357) hx hb dL_areFences_345 (by decide) ?_
                        refine W.widen (k := (cells + 0)) (n := (slots + 0)) (by omega) (by omega) ?_
                        obtain rfl := k_some hf
                        exact kj63 ls H locs (lv_sub hl [0, 1, 2, 3, 4, 5, 6, 7, 8, 9, 10, 11, 12] rfl) hP hD hS
                  · have hf := hj60
                    refine lv_if_eq (tgt := 338) hx hb dL_areFences_323 (by decide) (fun c61 => ?_) (fun c61 => ?_)
                    · have hf := k_T c61 hf
                      refine W.widen (k := (cells + 0)) (n := (slots + 0)) (by omega) (by omega) ?_
                      obtain rfl := k_some hf
                      exact kj60 ls H locs (lv_sub hl [1, 2, 3, 4, 5, 6, 0, 7, 8, 9, 10, 11, 12] rfl) hP hD hS
                    · have hf := k_F c61 hf
                      refine lv_iload hx hb dL_areFences_326 (lv_at hl 8 rfl) ?_
                      refine lv_iconst (v := 1) hx hb dL_areFences_328 (by decide) ?_
                      refine lv_iload hx hb dL_areFences_329 (lv_at hl 11 rfl) ?_
                      refine lv_ishl hx hb dL_areFences_331 ?_
                      refine lv_ior hx hb dL_areFences_332 ?_
                      obtain ⟨y62, ey62, hf⟩ := k_L hf
                      refine k_name ey62 ?_
                      refine lv_istore (lv' := [(10, .int y62), (8, .int y58), (0, .ref h0), (1, .int b1), (3, .ref tr5), (5, .ref q22), (6, .ref q23), (7, .int j50), (9, .int s240.2.2.2.1), (11, .int s240.2.2.2.2.2.1), (12, .int s240.2.2.2.2.2.2.1), (13, .int s240.2.2.2.2.2.2.2), (14, .int j48)]) hx hb dL_areFences_333 hl (by decide) rfl (fun ls hl => ?_)
                      refine lv_iinc (v := s240.2.2.2.1 + 1) (lv' := [(9, .int (s240.2.2.2.1 + 1)), (10, .int y62), (8, .int y58), (0, .ref h0), (1, .int b1), (3, .ref tr5), (5, .ref q22), (6, .ref q23), (7, .int j50), (11, .int s240.2.2.2.2.2.1), (12, .int s240.2.2.2.2.2.2.1), (13, .int s240.2.2.2.2.2.2.2), (14, .int j48)]) hx hb dL_areFences_335 hl (k := 8) rfl rfl (by decide) rfl (fun ls hl => ?_)
                      refine W.widen (k := (cells + 0)) (n := (slots + 0)) (by omega) (by omega) ?_
                      obtain rfl := k_some hf
                      exact kj60 ls H locs (lv_sub hl [3, 4, 5, 6, 7, 8, 2, 0, 1, 9, 10, 11, 12] rfl) hP hD hS
                · have hf := hj56
                  refine lv_if_eq (tgt := 312) hx hb dL_areFences_305 (by decide) (fun c57 => ?_) (fun c57 => ?_)
                  · have hf := k_T c57 hf
                    refine lv_iconst (v := 0) hx hb dL_areFences_312 (by decide) ?_
                    refine W.widen (k := (cells + 0)) (n := (slots + 0)) (by omega) (by omega) ?_
                    obtain rfl := k_some hf
                    exact kj56 ls H locs (lv_sub hl [1, 2, 3, 4, 5, 0, 7, 8, 9, 10, 11, 12] rfl) hP hD hS
                  · have hf := k_F c57 hf
                    refine lv_iconst (v := 1) hx hb dL_areFences_308 (by decide) ?_
                    refine lv_goto (tgt := 313) hx hb dL_areFences_309 (by decide) ?_
                    refine W.widen (k := (cells + 0)) (n := (slots + 0)) (by omega) (by omega) ?_
                    obtain rfl := k_some hf
                    exact kj56 ls H locs (lv_sub hl [1, 2, 3, 4, 5, 0, 7, 8, 9, 10, 11, 12] rfl) hP hD hS
              · have hf := hj50
                refine lv_if_ge (tgt := 293) hx hb dL_areFences_271 (by decide) (fun c51 => ?_) (fun c51 => ?_)
                · have hf := k_T c51 hf
                  refine lv_iload hx hb dL_areFences_293 (lv_at hl 6 rfl) ?_
                  refine W.widen (k := (cells + 0)) (n := (slots + 0)) (by omega) (by omega) ?_
                  obtain rfl := k_some hf
                  exact kj50 ls H locs (lv_sub hl [1, 2, 3, 4, 5, 7, 8, 9, 10, 11, 12, 0] rfl) hP hD hS
                · have hf := k_F c51 hf
                  refine lv_iload hx hb dL_areFences_274 (lv_at hl 0 rfl) ?_
                  refine lv_if_ne (tgt := 293) hx hb dL_areFences_276 (by decide) (fun c52 => ?_) (fun c52 => ?_)
                  · have hf := k_F c52 hf
                    refine lv_iload hx hb dL_areFences_293 (lv_at hl 6 rfl) ?_
                    refine W.widen (k := (cells + 0)) (n := (slots + 0)) (by omega) (by omega) ?_
                    obtain rfl := k_some hf
                    exact kj50 ls H locs (lv_sub hl [1, 2, 3, 4, 5, 7, 8, 9, 10, 11, 12, 0] rfl) hP hD hS
                  · have hf := k_T c52 hf
                    refine lv_iload_n hx hb dL_areFences_279 rfl (lv_at hl 2 rfl) ?_
                    refine lv_iload hx hb dL_areFences_280 (lv_at hl 12 rfl) ?_
                    obtain ⟨v53, hv53, hf⟩ := k_B hf
                    refine k_callS (As := [.int b1, .int s240.2.2.2.2.2.2.2]) (rest := []) ⟨hx, hb, hml, hown, hts⟩ (c_L_close l b1 s240.2.2.2.2.2.2.2 v53 hv53) (va_cwS 2 hts gL_areFences_L_close rfl rfl rfl hd_L_close ⟨Nat.le_of_ble_eq_true rfl, Nat.le_of_ble_eq_true rfl⟩) rfl hl.1 rfl (Nat.le_of_ble_eq_true rfl) dL_areFences_282 ⟨Nat.le_trans (by omega) hcx, Nat.le_trans (by omega) hsx⟩ ?_
                    refine lv_if_le (tgt := 293) hx hb dL_areFences_285 (by decide) (fun c54 => ?_) (fun c54 => ?_)
                    · have hf := k_T c54 hf
                      refine lv_iload hx hb dL_areFences_293 (lv_at hl 6 rfl) ?_
                      refine W.widen (k := (cells + 0)) (n := (slots + 0)) (by omega) (by omega) ?_
                      obtain rfl := k_some hf
                      exact kj50 ls H locs (lv_sub hl [1, 2, 3, 4, 5, 7, 8, 9, 10, 11, 12, 0] rfl) hP hD hS
                    · have hf := k_F c54 hf
                      refine lv_iload hx hb dL_areFences_288 (lv_at hl 12 rfl) ?_
                      refine lv_goto (tgt := 295) hx hb dL_areFences_290 (by decide) ?_
                      refine W.widen (k := (cells + 0)) (n := (slots + 0)) (by omega) (by omega) ?_
                      obtain rfl := k_some hf
                      exact kj50 ls H locs (lv_sub hl [1, 2, 3, 4, 5, 7, 8, 9, 10, 11, 12, 0] rfl) hP hD hS
            · have hf := hj48
              refine lv_icmp_ne (tgt := 266) hx hb dL_areFences_259 (by decide) (fun c49 => ?_) (fun c49 => ?_)
              · have hf := k_F c49 hf
                refine lv_iconst (v := 0) hx hb dL_areFences_266 (by decide) ?_
                refine W.widen (k := (cells + 0)) (n := (slots + 0)) (by omega) (by omega) ?_
                obtain rfl := k_some hf
                exact kj48 ls H locs (lv_sub hl [0, 1, 2, 4, 5, 6, 7, 8, 9, 10, 11, 12] rfl) hP hD hS
              · have hf := k_T c49 hf
                refine lv_iconst (v := 1) hx hb dL_areFences_262 (by decide) ?_
                refine lv_goto (tgt := 267) hx hb dL_areFences_263 (by decide) ?_
                refine W.widen (k := (cells + 0)) (n := (slots + 0)) (by omega) (by omega) ?_
                obtain rfl := k_some hf
                exact kj48 ls H locs (lv_sub hl [0, 1, 2, 4, 5, 6, 7, 8, 9, 10, 11, 12] rfl) hP hD hS
    obtain ⟨x90, hx90, hf⟩ := k_B hf
    refine W.widen (k := 152) (n := 908) (by omega) (by omega) ?_
    refine L240 _ 70 n1 gm sn hs qs k0 k1 k2 k3 ch o tr es op fo has rc rt x45.2.2.1 x45.2.2.2 (x45.1, (-101), 0, 0, n1, (-101), 99, 0) x90 hx90 432 2588 152 908 (Nat.le_of_ble_eq_true rfl) (Nat.le_of_ble_eq_true rfl) (by omega) (by omega) ls H locs (lv_sub hl [1, 2, 3, 4, 5, 6, 7, 8, 9, 10, 11, 12, 0] rfl) hP hD hS ?_
    intro ls H locs hl hP hD hS
    refine lv_iconst (v := 0) hx hb dL_areFences_499 (by decide) ?_
    refine lv_istore (lv' := [(13, .int 0), (0, .ref h0), (1, .int n1), (3, .ref tr5), (4, .int x90.1), (5, .ref q22), (6, .ref q23), (7, .int x90.2.1), (8, .int x90.2.2.1), (9, .int x90.2.2.2.1), (11, .int x90.2.2.2.2.2.1)]) hx hb dL_areFences_500 hl (by decide) rfl (fun ls hl => ?_)
    have L502 : ∀ (Q : State → Prop) (n : Nat) (b1 : Int32) (b7 : Int32) (b8 : Int32) (b9 : Int32) (b11 : Int32) (gm : k_G8) (sn : k_G8) (hs : Int32) (qs : k_Q4) (k0 : k_G8) (k1 : k_G8) (k2 : k_G8) (k3 : k_G8) (ch : Nat → Int32) (o : k_O5) (tr : k_G8) (es : Int32) (op : Nat → Int32) (fo : Nat → Int32) (has : Int32) (rc : Nat → Int32) (rt : Nat → Int32) (u1 : Nat → Int32) (u2 : Nat → Int32) (s502 : Int32 × Int32) (q : Int32 × Int32), k_loop (t_L_areFences_502 b1 b7 b8 b9 b11 gm u1) n s502 = some q → ∀ (CX SX cells slots : Nat), CX ≤ rm_L_areFences.cells → SX ≤ rm_L_areFences.slots → cells + n * 1 ≤ CX → slots + n * 6 ≤ SX → ∀ (ls : Array Slot) (H : Heap) (locs : List Loc), lv_has ls 16 [(0, .ref h0), (1, .int b1), (3, .ref tr5), (4, .int s502.1), (5, .ref q22), (6, .ref q23), (7, .int b7), (8, .int b8), (9, .int b9), (11, .int b11), (13, .int s502.2)] → va_P D vwCl (wX7 cy h0 gma sna hia ka ora cha tra ena opa foa gm sn hs qs k0 k1 k2 k3 ch o tr es op fo has ++ [wR cy 0 12 ac rc, wR cy 0 5 tr5 rt, wR cy 0 5 q22 u1, wR cy 0 3 q23 u2]) H → va_D A (wX7 cy h0 gma sna hia ka ora cha tra ena opa foa gm sn hs qs k0 k1 k2 k3 ch o tr es op fo has ++ [wR cy 0 12 ac rc, wR cy 0 5 tr5 rt, wR cy 0 5 q22 u1, wR cy 0 3 q23 u2]) → va_S A s.heap H locs → (∀ (ls : Array Slot) (H : Heap) (locs : List Loc), lv_has ls 16 [(0, .ref h0), (1, .int b1), (3, .ref tr5), (4, .int q.1), (6, .ref q23), (7, .int b7), (8, .int b8), (9, .int b9), (11, .int b11)] → va_P D vwCl (wX7 cy h0 gma sna hia ka ora cha tra ena opa foa gm sn hs qs k0 k1 k2 k3 ch o tr es op fo has ++ [wR cy 0 12 ac rc, wR cy 0 5 tr5 rt, wR cy 0 5 q22 u1, wR cy 0 3 q23 u2]) H → va_D A (wX7 cy h0 gma sna hia ka ora cha tra ena opa foa gm sn hs qs k0 k1 k2 k3 ch o tr es op fo has ++ [wR cy 0 12 ac rc, wR cy 0 5 tr5 rt, wR cy 0 5 q22 u1, wR cy 0 3 q23 u2]) → va_S A s.heap H locs → W p l e rm_L_areFences s m args below meth c H locs CX SX Q (F0 m 540 ls [])) → W p l e rm_L_areFences s m args below meth c H locs cells slots Q (F0 m 502 ls []) := by
      intro Q n
      induction n with
      | zero =>
        intro b1 b7 b8 b9 b11 gm sn hs qs k0 k1 k2 k3 ch o tr es op fo has rc rt u1 u2 s502 q hq
        exact (k_loop0 hq).elim
      | succ n ih =>
        intro b1 b7 b8 b9 b11 gm sn hs qs k0 k1 k2 k3 ch o tr es op fo has rc rt u1 u2 s502 q hq CX SX cells slots hcx hsx hcc hss ls H locs hl hP hD hS kx
        obtain ⟨x, hf, hq⟩ := k_loopE hq
        unfold t_L_areFences_502 at hf
        refine lv_iload hx hb dL_areFences_502 (lv_at hl 10 rfl) ?_
        refine lv_iconst (v := 5) hx hb dL_areFences_504 (by decide) ?_
        refine lv_icmp_ge (tgt := 540) hx hb dL_areFences_505 (by decide) (fun c91 => ?_) (fun c91 => ?_)
        · have hf := k_T c91 hf
          refine W.widen (k := CX) (n := SX) (by omega) (by omega) ?_
          obtain rfl := k_some hf
          obtain rfl := k_some (k_inr hq)
          exact kx ls H locs (lv_sub hl [0, 1, 2, 3, 5, 6, 7, 8, 9] rfl) hP hD hS
        · have hf := k_F c91 hf
          refine lv_iload hx hb dL_areFences_508 (lv_at hl 3 rfl) ?_
          obtain ⟨j92, hj92, hf⟩ := k_B hf
          refine k_joinH (nL := 16) (J := 532) (D := D) (A := A) (H0 := s.heap) (w' := (wX7 cy h0 gma sna hia ka ora cha tra ena opa foa gm sn hs qs k0 k1 k2 k3 ch o tr es op fo has ++ [wR cy 0 12 ac rc, wR cy 0 5 tr5 rt, wR cy 0 5 q22 u1, wR cy 0 3 q23 u2])) (L := [(0, .ref h0), (1, .int b1), (3, .ref tr5), (5, .ref q22), (6, .ref q23), (7, .int b7), (8, .int b8), (9, .int b9), (11, .int b11), (13, .int s502.2)]) (stk := [.int j92]) (cells' := (cells + 1)) (slots' := (slots + 6)) (fun ls H locs hl hP hD hS => ?_) (fun kj92 => ?_)
          · refine lv_istore (lv' := [(4, .int j92), (0, .ref h0), (1, .int b1), (3, .ref tr5), (5, .ref q22), (6, .ref q23), (7, .int b7), (8, .int b8), (9, .int b9), (11, .int b11), (13, .int s502.2)]) hx hb dL_areFences_532 hl (by decide) rfl (fun ls hl => ?_)
            refine lv_iinc (v := s502.2 + 1) (lv' := [(13, .int (s502.2 + 1)), (4, .int j92), (0, .ref h0), (1, .int b1), (3, .ref tr5), (5, .ref q22), (6, .ref q23), (7, .int b7), (8, .int b8), (9, .int b9), (11, .int b11)]) hx hb dL_areFences_534 hl (k := 10) rfl rfl (by decide) rfl (fun ls hl => ?_)
            refine lv_goto (tgt := 502) hx hb dL_areFences_537 (by decide) ?_
            refine W.widen (k := cells + 1) (n := slots + 6) (by omega) (by omega) ?_
            obtain rfl := k_some hf
            exact ih b1 b7 b8 b9 b11 gm sn hs qs k0 k1 k2 k3 ch o tr es op fo has rc rt u1 u2 (j92, s502.2 + 1) q (k_inl hq) CX SX (cells + 1) (slots + 6) hcx hsx (by omega) (by omega) ls H locs (lv_sub hl [2, 3, 4, 1, 5, 6, 7, 8, 9, 10, 0] rfl) hP hD hS kx
          · have hf := hj92
            refine lv_if_eq (tgt := 531) hx hb dL_areFences_510 (by decide) (fun c93 => ?_) (fun c93 => ?_)
            · have hf := k_T c93 hf
              refine lv_iconst (v := 0) hx hb dL_areFences_531 (by decide) ?_
              refine W.widen (k := (cells + 1)) (n := (slots + 6)) (by omega) (by omega) ?_
              obtain rfl := k_some hf
              exact kj92 ls H locs (lv_sub hl [0, 1, 2, 4, 5, 6, 7, 8, 9, 10] rfl) hP hD hS
            · have hf := k_F c93 hf
              refine lv_aload_n hx hb dL_areFences_513 rfl (lv_at hl 0 rfl) ?_
              refine lv_iload hx hb dL_areFences_514 (lv_at hl 10 rfl) ?_
              obtain ⟨v94, hv94, hf⟩ := k_B hf
              refine k_callLS (As := [.ref h0, .int s502.2]) (rest := []) (isC := [0, 1, 2, 3, 4, 5, 6, 7, 8, 9, 10, 11, 12, 13, 14]) (isR := [15, 16, 17, 18]) (perm := [4, 5, 6, 7, 8, 9, 10, 11, 12, 13, 14, 15, 16, 17, 18, 0, 1, 2, 3]) (w' := (wX7 cy h0 gma sna hia ka ora cha tra ena opa foa gm sn hs qs k0 k1 k2 k3 ch o tr es op fo has ++ [wR cy 0 12 ac rc, wR cy 0 5 tr5 rt, wR cy 0 5 q22 u1, wR cy 0 3 q23 u2])) ⟨hx, hb, hml, hown, hts⟩ (c_L_boxesWithOf l hl9 D cy h0 gma sna hia ka ora cha tra ena opa foa gm sn hs qs k0 k1 k2 k3 ch o tr es op fo has s502.2 v94 hv94) (vx_cwSW 2 hts gL_areFences_L_boxesWithOf rfl rfl rfl hd_L_boxesWithOf ⟨Nat.le_of_ble_eq_true rfl, Nat.le_of_ble_eq_true rfl⟩) hK hN hT hZ hCx hP hD hS hA rfl rfl rfl (by decide) (by decide) rfl (by decide) rfl hl.1 rfl (Nat.le_of_ble_eq_true rfl) dL_areFences_516 ⟨Nat.le_trans (by omega) hcx, Nat.le_trans (by omega) hsx⟩ (fun H locs hP hD hS => ?_)
              refine lv_aload hx hb dL_areFences_519 (lv_at hl 4 rfl) ?_
              refine lv_iload hx hb dL_areFences_521 (lv_at hl 10 rfl) ?_
              obtain ⟨g95, hf⟩ := k_G hf
              refine va_iald hx hb hK hP 17 0 rfl rfl g95 dL_areFences_523 ?_
              refine lv_icmp_ne (tgt := 531) hx hb dL_areFences_524 (by decide) (fun c96 => ?_) (fun c96 => ?_)
              · have hf := k_F c96 hf
                refine lv_iconst (v := 0) hx hb dL_areFences_531 (by decide) ?_
                refine W.widen (k := (cells + 1)) (n := (slots + 6)) (by omega) (by omega) ?_
                obtain rfl := k_some hf
                exact kj92 ls H locs (lv_sub hl [0, 1, 2, 4, 5, 6, 7, 8, 9, 10] rfl) hP hD hS
              · have hf := k_T c96 hf
                refine lv_iconst (v := 1) hx hb dL_areFences_527 (by decide) ?_
                refine lv_goto (tgt := 532) hx hb dL_areFences_528 (by decide) ?_
                refine W.widen (k := (cells + 1)) (n := (slots + 6)) (by omega) (by omega) ?_
                obtain rfl := k_some hf
                exact kj92 ls H locs (lv_sub hl [0, 1, 2, 4, 5, 6, 7, 8, 9, 10] rfl) hP hD hS
    obtain ⟨x97, hx97, hf⟩ := k_B hf
    refine W.widen (k := 432) (n := 2588) (by omega) (by omega) ?_
    refine L502 _ 70 n1 x90.2.1 x90.2.2.1 x90.2.2.2.1 x90.2.2.2.2.2.1 gm sn hs qs k0 k1 k2 k3 ch o tr es op fo has rc rt x45.2.2.1 x45.2.2.2 (x90.1, 0) x97 hx97 502 3008 432 2588 (Nat.le_of_ble_eq_true rfl) (Nat.le_of_ble_eq_true rfl) (by omega) (by omega) ls H locs (lv_sub hl [1, 2, 3, 4, 5, 6, 7, 8, 9, 10, 0] rfl) hP hD hS ?_
    intro ls H locs hl hP hD hS
    refine lv_iload hx hb dL_areFences_540 (lv_at hl 3 rfl) ?_
    obtain ⟨j98, hj98, hf⟩ := k_B hf
    refine k_joinH (nL := 16) (J := 735) (D := D) (A := A) (H0 := s.heap) (w' := (wX7 cy h0 gma sna hia ka ora cha tra ena opa foa gm sn hs qs k0 k1 k2 k3 ch o tr es op fo has ++ [wR cy 0 12 ac rc, wR cy 0 5 tr5 rt, wR cy 0 5 q22 x45.2.2.1, wR cy 0 3 q23 x45.2.2.2])) (L := []) (stk := [.int j98]) (cells' := 508) (slots' := 3044) (fun ls H locs hl hP hD hS => ?_) (fun kj98 => ?_)
    · have hP := hP.sub (ws' := (wX7 cy h0 gma sna hia ka ora cha tra ena opa foa gm sn hs qs k0 k1 k2 k3 ch o tr es op fo has ++ [wR cy 0 12 ac rc, wR cy 0 5 tr5 rt])) [0, 1, 2, 3, 4, 5, 6, 7, 8, 9, 10, 11, 12, 13, 14, 15, 16] rfl
      have hD := hD.sub (ws' := (wX7 cy h0 gma sna hia ka ora cha tra ena opa foa gm sn hs qs k0 k1 k2 k3 ch o tr es op fo has ++ [wR cy 0 12 ac rc, wR cy 0 5 tr5 rt])) [0, 1, 2, 3, 4, 5, 6, 7, 8, 9, 10, 11, 12, 13, 14, 15, 16] rfl rfl
      refine W.widen (k := 508) (n := 3044) (by omega) (by omega) ?_
      obtain ⟨rfl, hn⟩ := k_boolR hf
      exact k_azret hx hb hr hn hP hD hS dL_areFences_735 hlocks
    · have hf := hj98
      refine lv_if_eq (tgt := 734) hx hb dL_areFences_542 (by decide) (fun c99 => ?_) (fun c99 => ?_)
      · have hf := k_T c99 hf
        refine lv_iconst (v := 0) hx hb dL_areFences_734 (by decide) ?_
        refine W.widen (k := 508) (n := 3044) (by omega) (by omega) ?_
        obtain rfl := k_some hf
        exact kj98 ls H locs (lv_sub hl [] rfl) hP hD hS
      · have hf := k_F c99 hf
        refine lv_aload_n hx hb dL_areFences_545 rfl (lv_at hl 0 rfl) ?_
        refine lv_iconst (v := 0) hx hb dL_areFences_546 (by decide) ?_
        obtain ⟨v100, hv100, hf⟩ := k_B hf
        refine k_callLS (As := [.ref h0, .int 0]) (rest := []) (isC := [0, 1, 2, 3, 4, 5, 6, 7, 8, 9, 10, 11, 12, 13, 14]) (isR := [15, 16, 17, 18]) (perm := [4, 5, 6, 7, 8, 9, 10, 11, 12, 13, 14, 15, 16, 17, 18, 0, 1, 2, 3]) (w' := (wX7 cy h0 gma sna hia ka ora cha tra ena opa foa gm sn hs qs k0 k1 k2 k3 ch o tr es op fo has ++ [wR cy 0 12 ac rc, wR cy 0 5 tr5 rt, wR cy 0 5 q22 x45.2.2.1, wR cy 0 3 q23 x45.2.2.2])) ⟨hx, hb, hml, hown, hts⟩ (c_L_boxesOfOf l hl9 D cy h0 gma sna hia ka ora cha tra ena opa foa gm sn hs qs k0 k1 k2 k3 ch o tr es op fo has 0 v100 hv100) (vx_cwSW 2 hts gL_areFences_L_boxesOfOf rfl rfl rfl hd_L_boxesOfOf ⟨Nat.le_of_ble_eq_true rfl, Nat.le_of_ble_eq_true rfl⟩) hK hN hT hZ hCx hP hD hS hA rfl rfl rfl (by decide) (by decide) rfl (by decide) rfl hl.1 rfl (Nat.le_of_ble_eq_true rfl) dL_areFences_547 ⟨Nat.le_of_ble_eq_true rfl, Nat.le_of_ble_eq_true rfl⟩ (fun H locs hP hD hS => ?_)
        refine lv_aload hx hb dL_areFences_550 (lv_at hl 4 rfl) ?_
        refine lv_iconst (v := 1) hx hb dL_areFences_552 (by decide) ?_
        refine va_iald hx hb hK hP 18 0 rfl rfl (k_in (i := 1) (n := 3) (by decide +kernel)) dL_areFences_553 ?_
        refine k_name (v := x45.2.2.2 1) rfl ?_
        refine lv_icmp_ne (tgt := 734) hx hb dL_areFences_554 (by decide) (fun c101 => ?_) (fun c101 => ?_)
        · have hf := k_F c101 hf
          refine lv_iconst (v := 0) hx hb dL_areFences_734 (by decide) ?_
          refine W.widen (k := 508) (n := 3044) (by omega) (by omega) ?_
          obtain rfl := k_some hf
          exact kj98 ls H locs (lv_sub hl [] rfl) hP hD hS
        · have hf := k_T c101 hf
          refine lv_aload_n hx hb dL_areFences_557 rfl (lv_at hl 0 rfl) ?_
          refine lv_iconst (v := 1) hx hb dL_areFences_558 (by decide) ?_
          obtain ⟨v102, hv102, hf⟩ := k_B hf
          refine k_callLS (As := [.ref h0, .int 1]) (rest := []) (isC := [0, 1, 2, 3, 4, 5, 6, 7, 8, 9, 10, 11, 12, 13, 14]) (isR := [15, 16, 17, 18]) (perm := [4, 5, 6, 7, 8, 9, 10, 11, 12, 13, 14, 15, 16, 17, 18, 0, 1, 2, 3]) (w' := (wX7 cy h0 gma sna hia ka ora cha tra ena opa foa gm sn hs qs k0 k1 k2 k3 ch o tr es op fo has ++ [wR cy 0 12 ac rc, wR cy 0 5 tr5 rt, wR cy 0 5 q22 x45.2.2.1, wR cy 0 3 q23 x45.2.2.2])) ⟨hx, hb, hml, hown, hts⟩ (c_L_boxesOfOf l hl9 D cy h0 gma sna hia ka ora cha tra ena opa foa gm sn hs qs k0 k1 k2 k3 ch o tr es op fo has 1 v102 hv102) (vx_cwSW 2 hts gL_areFences_L_boxesOfOf rfl rfl rfl hd_L_boxesOfOf ⟨Nat.le_of_ble_eq_true rfl, Nat.le_of_ble_eq_true rfl⟩) hK hN hT hZ hCx hP hD hS hA rfl rfl rfl (by decide) (by decide) rfl (by decide) rfl hl.1 rfl (Nat.le_of_ble_eq_true rfl) dL_areFences_559 ⟨Nat.le_of_ble_eq_true rfl, Nat.le_of_ble_eq_true rfl⟩ (fun H locs hP hD hS => ?_)
          refine lv_aload hx hb dL_areFences_562 (lv_at hl 4 rfl) ?_
          refine lv_iconst (v := 2) hx hb dL_areFences_564 (by decide) ?_
          refine va_iald hx hb hK hP 18 0 rfl rfl (k_in (i := 2) (n := 3) (by decide +kernel)) dL_areFences_565 ?_
          refine k_name (v := x45.2.2.2 2) rfl ?_
          refine lv_icmp_ne (tgt := 734) hx hb dL_areFences_566 (by decide) (fun c103 => ?_) (fun c103 => ?_)
          · have hf := k_F c103 hf
            refine lv_iconst (v := 0) hx hb dL_areFences_734 (by decide) ?_
            refine W.widen (k := 508) (n := 3044) (by omega) (by omega) ?_
            obtain rfl := k_some hf
            exact kj98 ls H locs (lv_sub hl [] rfl) hP hD hS
          · have hf := k_T c103 hf
            refine lv_aload_n hx hb dL_areFences_569 rfl (lv_at hl 0 rfl) ?_
            obtain ⟨v104, hv104, hf⟩ := k_B hf
            refine k_callHV (As := []) (rest := []) (r := (RX7, TX7, 6)) (ci := 4) (q0 := 0) (isC := [0, 1, 2, 3, 4, 5, 6, 7, 8, 9, 10, 11, 12, 13, 14]) (isR := [15, 16, 17, 18]) (perm := [4, 5, 6, 7, 8, 9, 10, 11, 12, 13, 14, 15, 16, 17, 18, 0, 1, 2, 3]) (w' := (wX7 cy h0 gma sna hia ka ora cha tra ena opa foa gm sn hs qs k0 k1 k2 k3 ch o tr es op fo has ++ [wR cy 0 12 ac rc, wR cy 0 5 tr5 rt, wR cy 0 5 q22 x45.2.2.1, wR cy 0 3 q23 x45.2.2.2])) ⟨hx, hb, hml, hown, hts⟩ (c_X7_drawn l D cy h0 gma sna hia ka ora cha tra ena opa foa gm sn hs qs k0 k1 k2 k3 ch o tr es op fo has  v104 hv104) (cwV 0 hts gL_areFences_X7_drawn rfl rfl rfl hd_X7_drawn ⟨Nat.le_of_ble_eq_true rfl, Nat.le_of_ble_eq_true rfl⟩) hK hN hP hD hS hA rfl rfl rfl rfl rfl rfl (by decide) rfl rfl rfl hl.1 rfl (Nat.le_of_ble_eq_true rfl) dL_areFences_570 ⟨Nat.le_of_ble_eq_true rfl, Nat.le_of_ble_eq_true rfl⟩ (fun H locs hP hD hS => ?_)
            refine lv_iload_n hx hb dL_areFences_573 rfl (lv_at hl 1 rfl) ?_
            obtain ⟨v105, hv105, hf⟩ := k_B hf
            refine k_callS (As := [.int n1]) (rest := [.int v104]) ⟨hx, hb, hml, hown, hts⟩ (c_L_count l n1 v105 hv105) (va_cwS 1 hts gL_areFences_L_count rfl rfl rfl hd_L_count ⟨Nat.le_of_ble_eq_true rfl, Nat.le_of_ble_eq_true rfl⟩) rfl hl.1 rfl (Nat.le_of_ble_eq_true rfl) dL_areFences_574 ⟨Nat.le_of_ble_eq_true rfl, Nat.le_of_ble_eq_true rfl⟩ ?_
            refine lv_icmp_ne (tgt := 734) hx hb dL_areFences_577 (by decide) (fun c106 => ?_) (fun c106 => ?_)
            · have hf := k_F c106 hf
              refine lv_iconst (v := 0) hx hb dL_areFences_734 (by decide) ?_
              refine W.widen (k := 508) (n := 3044) (by omega) (by omega) ?_
              obtain rfl := k_some hf
              exact kj98 ls H locs (lv_sub hl [] rfl) hP hD hS
            · have hf := k_T c106 hf
              refine lv_aload_n hx hb dL_areFences_580 rfl (lv_at hl 0 rfl) ?_
              obtain ⟨v107, hv107, hf⟩ := k_B hf
              refine k_callHV (As := []) (rest := []) (r := (RX7, TX7, 6)) (ci := 4) (q0 := 0) (isC := [0, 1, 2, 3, 4, 5, 6, 7, 8, 9, 10, 11, 12, 13, 14]) (isR := [15, 16, 17, 18]) (perm := [4, 5, 6, 7, 8, 9, 10, 11, 12, 13, 14, 15, 16, 17, 18, 0, 1, 2, 3]) (w' := (wX7 cy h0 gma sna hia ka ora cha tra ena opa foa gm sn hs qs k0 k1 k2 k3 ch o tr es op fo has ++ [wR cy 0 12 ac rc, wR cy 0 5 tr5 rt, wR cy 0 5 q22 x45.2.2.1, wR cy 0 3 q23 x45.2.2.2])) ⟨hx, hb, hml, hown, hts⟩ (c_X7_isOver l D cy h0 gma sna hia ka ora cha tra ena opa foa gm sn hs qs k0 k1 k2 k3 ch o tr es op fo has  v107 hv107) (cwV 0 hts gL_areFences_X7_isOver rfl rfl rfl hd_X7_isOver ⟨Nat.le_of_ble_eq_true rfl, Nat.le_of_ble_eq_true rfl⟩) hK hN hP hD hS hA rfl rfl rfl rfl rfl rfl (by decide) rfl rfl rfl hl.1 rfl (Nat.le_of_ble_eq_true rfl) dL_areFences_581 ⟨Nat.le_of_ble_eq_true rfl, Nat.le_of_ble_eq_true rfl⟩ (fun H locs hP hD hS => ?_)
              refine lv_iload_n hx hb dL_areFences_584 rfl (lv_at hl 1 rfl) ?_
              obtain ⟨v108, hv108, hf⟩ := k_B hf
              refine k_callS (As := [.int n1]) (rest := [.int v107]) ⟨hx, hb, hml, hown, hts⟩ (c_L_count l n1 v108 hv108) (va_cwS 1 hts gL_areFences_L_count rfl rfl rfl hd_L_count ⟨Nat.le_of_ble_eq_true rfl, Nat.le_of_ble_eq_true rfl⟩) rfl hl.1 rfl (Nat.le_of_ble_eq_true rfl) dL_areFences_585 ⟨Nat.le_of_ble_eq_true rfl, Nat.le_of_ble_eq_true rfl⟩ ?_
              refine lv_bipush (v := 31) hx hb dL_areFences_588 (by decide) ?_
              obtain ⟨j109, hj109, hf⟩ := k_B hf
              refine k_joinH (nL := 16) (J := 598) (D := D) (A := A) (H0 := s.heap) (w' := (wX7 cy h0 gma sna hia ka ora cha tra ena opa foa gm sn hs qs k0 k1 k2 k3 ch o tr es op fo has ++ [wR cy 0 12 ac rc, wR cy 0 5 tr5 rt, wR cy 0 5 q22 x45.2.2.1, wR cy 0 3 q23 x45.2.2.2])) (L := [(0, .ref h0), (1, .int n1), (3, .ref tr5), (6, .ref q23), (7, .int x90.2.1), (8, .int x90.2.2.1), (9, .int x90.2.2.2.1), (11, .int x90.2.2.2.2.2.1)]) (stk := [.int j109, .int v107]) (cells' := 504) (slots' := 3020) (fun ls H locs hl hP hD hS => ?_) (fun kj109 => ?_)
              · refine lv_icmp_ne (tgt := 734) hx hb dL_areFences_598 (by decide) (fun c111 => ?_) (fun c111 => ?_)
                · have hf := k_F c111 hf
                  refine lv_iconst (v := 0) hx hb dL_areFences_734 (by decide) ?_
                  refine W.widen (k := 508) (n := 3044) (by omega) (by omega) ?_
                  obtain rfl := k_some hf
                  exact kj98 ls H locs (lv_sub hl [] rfl) hP hD hS
                · have hf := k_T c111 hf
                  refine lv_aload_n hx hb dL_areFences_601 rfl (lv_at hl 0 rfl) ?_
                  obtain ⟨v112, hv112, hf⟩ := k_B hf
                  refine k_callHV (As := []) (rest := []) (r := (RX7, TX7, 6)) (ci := 4) (q0 := 0) (isC := [0, 1, 2, 3, 4, 5, 6, 7, 8, 9, 10, 11, 12, 13, 14]) (isR := [15, 16, 17, 18]) (perm := [4, 5, 6, 7, 8, 9, 10, 11, 12, 13, 14, 15, 16, 17, 18, 0, 1, 2, 3]) (w' := (wX7 cy h0 gma sna hia ka ora cha tra ena opa foa gm sn hs qs k0 k1 k2 k3 ch o tr es op fo has ++ [wR cy 0 12 ac rc, wR cy 0 5 tr5 rt, wR cy 0 5 q22 x45.2.2.1, wR cy 0 3 q23 x45.2.2.2])) ⟨hx, hb, hml, hown, hts⟩ (c_X7_turn l D cy h0 gma sna hia ka ora cha tra ena opa foa gm sn hs qs k0 k1 k2 k3 ch o tr es op fo has  v112 hv112) (cwV 0 hts gL_areFences_X7_turn rfl rfl rfl hd_X7_turn ⟨Nat.le_of_ble_eq_true rfl, Nat.le_of_ble_eq_true rfl⟩) hK hN hP hD hS hA rfl rfl rfl rfl rfl rfl (by decide) rfl rfl rfl hl.1 rfl (Nat.le_of_ble_eq_true rfl) dL_areFences_602 ⟨Nat.le_of_ble_eq_true rfl, Nat.le_of_ble_eq_true rfl⟩ (fun H locs hP hD hS => ?_)
                  refine lv_aload_n hx hb dL_areFences_605 rfl (lv_at hl 2 rfl) ?_
                  refine lv_iconst (v := 0) hx hb dL_areFences_606 (by decide) ?_
                  refine va_iald hx hb hK hP 16 0 rfl rfl (k_in (i := 0) (n := 5) (by decide +kernel)) dL_areFences_607 ?_
                  refine k_name (v := rt 0) rfl ?_
                  refine lv_icmp_ne (tgt := 734) hx hb dL_areFences_608 (by decide) (fun c113 => ?_) (fun c113 => ?_)
                  · have hf := k_F c113 hf
                    refine lv_iconst (v := 0) hx hb dL_areFences_734 (by decide) ?_
                    refine W.widen (k := 508) (n := 3044) (by omega) (by omega) ?_
                    obtain rfl := k_some hf
                    exact kj98 ls H locs (lv_sub hl [] rfl) hP hD hS
                  · have hf := k_T c113 hf
                    refine lv_aload_n hx hb dL_areFences_611 rfl (lv_at hl 0 rfl) ?_
                    refine lv_iconst (v := 0) hx hb dL_areFences_612 (by decide) ?_
                    obtain ⟨v114, hv114, hf⟩ := k_B hf
                    refine k_callLS (As := [.ref h0, .int 0]) (rest := []) (isC := [0, 1, 2, 3, 4, 5, 6, 7, 8, 9, 10, 11, 12, 13, 14]) (isR := [15, 16, 17, 18]) (perm := [4, 5, 6, 7, 8, 9, 10, 11, 12, 13, 14, 15, 16, 17, 18, 0, 1, 2, 3]) (w' := (wX7 cy h0 gma sna hia ka ora cha tra ena opa foa gm sn hs qs k0 k1 k2 k3 ch o tr es op fo has ++ [wR cy 0 12 ac rc, wR cy 0 5 tr5 rt, wR cy 0 5 q22 x45.2.2.1, wR cy 0 3 q23 x45.2.2.2])) ⟨hx, hb, hml, hown, hts⟩ (c_L_wonOf l hl9 D cy h0 gma sna hia ka ora cha tra ena opa foa gm sn hs qs k0 k1 k2 k3 ch o tr es op fo has 0 v114 hv114) (vx_cwSW 2 hts gL_areFences_L_wonOf rfl rfl rfl hd_L_wonOf ⟨Nat.le_of_ble_eq_true rfl, Nat.le_of_ble_eq_true rfl⟩) hK hN hT hZ hCx hP hD hS hA rfl rfl rfl (by decide) (by decide) rfl (by decide) rfl hl.1 rfl (Nat.le_of_ble_eq_true rfl) dL_areFences_613 ⟨Nat.le_of_ble_eq_true rfl, Nat.le_of_ble_eq_true rfl⟩ (fun H locs hP hD hS => ?_)
                    refine lv_aload_n hx hb dL_areFences_616 rfl (lv_at hl 2 rfl) ?_
                    refine lv_iconst (v := 1) hx hb dL_areFences_617 (by decide) ?_
                    refine va_iald hx hb hK hP 16 0 rfl rfl (k_in (i := 1) (n := 5) (by decide +kernel)) dL_areFences_618 ?_
                    refine k_name (v := rt 1) rfl ?_
                    refine lv_icmp_ne (tgt := 734) hx hb dL_areFences_619 (by decide) (fun c115 => ?_) (fun c115 => ?_)
                    · have hf := k_F c115 hf
                      refine lv_iconst (v := 0) hx hb dL_areFences_734 (by decide) ?_
                      refine W.widen (k := 508) (n := 3044) (by omega) (by omega) ?_
                      obtain rfl := k_some hf
                      exact kj98 ls H locs (lv_sub hl [] rfl) hP hD hS
                    · have hf := k_T c115 hf
                      refine lv_aload_n hx hb dL_areFences_622 rfl (lv_at hl 0 rfl) ?_
                      refine lv_iconst (v := 1) hx hb dL_areFences_623 (by decide) ?_
                      obtain ⟨v116, hv116, hf⟩ := k_B hf
                      refine k_callLS (As := [.ref h0, .int 1]) (rest := []) (isC := [0, 1, 2, 3, 4, 5, 6, 7, 8, 9, 10, 11, 12, 13, 14]) (isR := [15, 16, 17, 18]) (perm := [4, 5, 6, 7, 8, 9, 10, 11, 12, 13, 14, 15, 16, 17, 18, 0, 1, 2, 3]) (w' := (wX7 cy h0 gma sna hia ka ora cha tra ena opa foa gm sn hs qs k0 k1 k2 k3 ch o tr es op fo has ++ [wR cy 0 12 ac rc, wR cy 0 5 tr5 rt, wR cy 0 5 q22 x45.2.2.1, wR cy 0 3 q23 x45.2.2.2])) ⟨hx, hb, hml, hown, hts⟩ (c_L_wonOf l hl9 D cy h0 gma sna hia ka ora cha tra ena opa foa gm sn hs qs k0 k1 k2 k3 ch o tr es op fo has 1 v116 hv116) (vx_cwSW 2 hts gL_areFences_L_wonOf rfl rfl rfl hd_L_wonOf ⟨Nat.le_of_ble_eq_true rfl, Nat.le_of_ble_eq_true rfl⟩) hK hN hT hZ hCx hP hD hS hA rfl rfl rfl (by decide) (by decide) rfl (by decide) rfl hl.1 rfl (Nat.le_of_ble_eq_true rfl) dL_areFences_624 ⟨Nat.le_of_ble_eq_true rfl, Nat.le_of_ble_eq_true rfl⟩ (fun H locs hP hD hS => ?_)
                      refine lv_aload_n hx hb dL_areFences_627 rfl (lv_at hl 2 rfl) ?_
                      refine lv_iconst (v := 2) hx hb dL_areFences_628 (by decide) ?_
                      refine va_iald hx hb hK hP 16 0 rfl rfl (k_in (i := 2) (n := 5) (by decide +kernel)) dL_areFences_629 ?_
                      refine k_name (v := rt 2) rfl ?_
                      refine lv_icmp_ne (tgt := 734) hx hb dL_areFences_630 (by decide) (fun c117 => ?_) (fun c117 => ?_)
                      · have hf := k_F c117 hf
                        refine lv_iconst (v := 0) hx hb dL_areFences_734 (by decide) ?_
                        refine W.widen (k := 508) (n := 3044) (by omega) (by omega) ?_
                        obtain rfl := k_some hf
                        exact kj98 ls H locs (lv_sub hl [] rfl) hP hD hS
                      · have hf := k_T c117 hf
                        refine lv_aload_n hx hb dL_areFences_633 rfl (lv_at hl 0 rfl) ?_
                        obtain ⟨v118, hv118, hf⟩ := k_B hf
                        refine k_callHV (As := []) (rest := []) (r := (RX7, TX7, 6)) (ci := 4) (q0 := 0) (isC := [0, 1, 2, 3, 4, 5, 6, 7, 8, 9, 10, 11, 12, 13, 14]) (isR := [15, 16, 17, 18]) (perm := [4, 5, 6, 7, 8, 9, 10, 11, 12, 13, 14, 15, 16, 17, 18, 0, 1, 2, 3]) (w' := (wX7 cy h0 gma sna hia ka ora cha tra ena opa foa gm sn hs qs k0 k1 k2 k3 ch o tr es op fo has ++ [wR cy 0 12 ac rc, wR cy 0 5 tr5 rt, wR cy 0 5 q22 x45.2.2.1, wR cy 0 3 q23 x45.2.2.2])) ⟨hx, hb, hml, hown, hts⟩ (c_X7_evenGames l D cy h0 gma sna hia ka ora cha tra ena opa foa gm sn hs qs k0 k1 k2 k3 ch o tr es op fo has  v118 hv118) (cwV 0 hts gL_areFences_X7_evenGames rfl rfl rfl hd_X7_evenGames ⟨Nat.le_of_ble_eq_true rfl, Nat.le_of_ble_eq_true rfl⟩) hK hN hP hD hS hA rfl rfl rfl rfl rfl rfl (by decide) rfl rfl rfl hl.1 rfl (Nat.le_of_ble_eq_true rfl) dL_areFences_634 ⟨Nat.le_of_ble_eq_true rfl, Nat.le_of_ble_eq_true rfl⟩ (fun H locs hP hD hS => ?_)
                        refine lv_aload_n hx hb dL_areFences_637 rfl (lv_at hl 2 rfl) ?_
                        refine lv_iconst (v := 3) hx hb dL_areFences_638 (by decide) ?_
                        refine va_iald hx hb hK hP 16 0 rfl rfl (k_in (i := 3) (n := 5) (by decide +kernel)) dL_areFences_639 ?_
                        refine k_name (v := rt 3) rfl ?_
                        refine lv_icmp_ne (tgt := 734) hx hb dL_areFences_640 (by decide) (fun c119 => ?_) (fun c119 => ?_)
                        · have hf := k_F c119 hf
                          refine lv_iconst (v := 0) hx hb dL_areFences_734 (by decide) ?_
                          refine W.widen (k := 508) (n := 3044) (by omega) (by omega) ?_
                          obtain rfl := k_some hf
                          exact kj98 ls H locs (lv_sub hl [] rfl) hP hD hS
                        · have hf := k_T c119 hf
                          refine lv_aload_n hx hb dL_areFences_643 rfl (lv_at hl 0 rfl) ?_
                          obtain ⟨v120, hv120, hf⟩ := k_B hf
                          refine k_callHV (As := []) (rest := []) (r := (RX7, TX7, 6)) (ci := 4) (q0 := 0) (isC := [0, 1, 2, 3, 4, 5, 6, 7, 8, 9, 10, 11, 12, 13, 14]) (isR := [15, 16, 17, 18]) (perm := [4, 5, 6, 7, 8, 9, 10, 11, 12, 13, 14, 15, 16, 17, 18, 0, 1, 2, 3]) (w' := (wX7 cy h0 gma sna hia ka ora cha tra ena opa foa gm sn hs qs k0 k1 k2 k3 ch o tr es op fo has ++ [wR cy 0 12 ac rc, wR cy 0 5 tr5 rt, wR cy 0 5 q22 x45.2.2.1, wR cy 0 3 q23 x45.2.2.2])) ⟨hx, hb, hml, hown, hts⟩ (c_X7_doubleDeals l D cy h0 gma sna hia ka ora cha tra ena opa foa gm sn hs qs k0 k1 k2 k3 ch o tr es op fo has  v120 hv120) (cwV 0 hts gL_areFences_X7_doubleDeals rfl rfl rfl hd_X7_doubleDeals ⟨Nat.le_of_ble_eq_true rfl, Nat.le_of_ble_eq_true rfl⟩) hK hN hP hD hS hA rfl rfl rfl rfl rfl rfl (by decide) rfl rfl rfl hl.1 rfl (Nat.le_of_ble_eq_true rfl) dL_areFences_644 ⟨Nat.le_of_ble_eq_true rfl, Nat.le_of_ble_eq_true rfl⟩ (fun H locs hP hD hS => ?_)
                          refine lv_aload_n hx hb dL_areFences_647 rfl (lv_at hl 2 rfl) ?_
                          refine lv_iconst (v := 4) hx hb dL_areFences_648 (by decide) ?_
                          refine va_iald hx hb hK hP 16 0 rfl rfl (k_in (i := 4) (n := 5) (by decide +kernel)) dL_areFences_649 ?_
                          refine k_name (v := rt 4) rfl ?_
                          refine lv_icmp_ne (tgt := 734) hx hb dL_areFences_650 (by decide) (fun c121 => ?_) (fun c121 => ?_)
                          · have hf := k_F c121 hf
                            refine lv_iconst (v := 0) hx hb dL_areFences_734 (by decide) ?_
                            refine W.widen (k := 508) (n := 3044) (by omega) (by omega) ?_
                            obtain rfl := k_some hf
                            exact kj98 ls H locs (lv_sub hl [] rfl) hP hD hS
                          · have hf := k_T c121 hf
                            refine lv_aload_n hx hb dL_areFences_653 rfl (lv_at hl 0 rfl) ?_
                            obtain ⟨v122, hv122, hf⟩ := k_B hf
                            refine k_callHV (As := []) (rest := []) (r := (RX7, TX7, 6)) (ci := 4) (q0 := 0) (isC := [0, 1, 2, 3, 4, 5, 6, 7, 8, 9, 10, 11, 12, 13, 14]) (isR := [15, 16, 17, 18]) (perm := [4, 5, 6, 7, 8, 9, 10, 11, 12, 13, 14, 15, 16, 17, 18, 0, 1, 2, 3]) (w' := (wX7 cy h0 gma sna hia ka ora cha tra ena opa foa gm sn hs qs k0 k1 k2 k3 ch o tr es op fo has ++ [wR cy 0 12 ac rc, wR cy 0 5 tr5 rt, wR cy 0 5 q22 x45.2.2.1, wR cy 0 3 q23 x45.2.2.2])) ⟨hx, hb, hml, hown, hts⟩ (c_X7_share l D cy h0 gma sna hia ka ora cha tra ena opa foa gm sn hs qs k0 k1 k2 k3 ch o tr es op fo has  v122 hv122) (cwV 0 hts gL_areFences_X7_share rfl rfl rfl hd_X7_share ⟨Nat.le_of_ble_eq_true rfl, Nat.le_of_ble_eq_true rfl⟩) hK hN hP hD hS hA rfl rfl rfl rfl rfl rfl (by decide) rfl rfl rfl hl.1 rfl (Nat.le_of_ble_eq_true rfl) dL_areFences_654 ⟨Nat.le_of_ble_eq_true rfl, Nat.le_of_ble_eq_true rfl⟩ (fun H locs hP hD hS => ?_)
                            refine lv_bipush (v := 12) hx hb dL_areFences_657 (by decide) ?_
                            refine lv_aload hx hb dL_areFences_659 (lv_at hl 3 rfl) ?_
                            refine lv_iconst (v := 0) hx hb dL_areFences_661 (by decide) ?_
                            refine va_iald hx hb hK hP 18 0 rfl rfl (k_in (i := 0) (n := 3) (by decide +kernel)) dL_areFences_662 ?_
                            refine k_name (v := x45.2.2.2 0) rfl ?_
                            refine lv_isub hx hb dL_areFences_663 ?_
                            refine lv_i2f hx hb dL_areFences_664 ?_
                            refine lv_ldcf (v := 1094713344) hx hb hown (hts (.constantFloat RL 144 1094713344) (by decide +kernel)) dL_areFences_665 ?_
                            obtain ⟨g123, hf⟩ := k_G hf
                            refine lv_fdiv hx hb dL_areFences_667 (Classical.not_not.mp g123) ?_
                            refine lv_fcmp hx hb dL_areFences_668 ?_
                            refine lv_if_ne (tgt := 734) hx hb dL_areFences_669 (by decide) (fun c124 => ?_) (fun c124 => ?_)
                            · have hf := k_F c124 hf
                              refine lv_iconst (v := 0) hx hb dL_areFences_734 (by decide) ?_
                              refine W.widen (k := 508) (n := 3044) (by omega) (by omega) ?_
                              obtain rfl := k_some hf
                              exact kj98 ls H locs (lv_sub hl [] rfl) hP hD hS
                            · have hf := k_T c124 hf
                              refine lv_aload_n hx hb dL_areFences_672 rfl (lv_at hl 0 rfl) ?_
                              obtain ⟨v125, hv125, hf⟩ := k_B hf
                              refine k_callHV (As := []) (rest := []) (r := (RX7, TX7, 6)) (ci := 4) (q0 := 0) (isC := [0, 1, 2, 3, 4, 5, 6, 7, 8, 9, 10, 11, 12, 13, 14]) (isR := [15, 16, 17, 18]) (perm := [4, 5, 6, 7, 8, 9, 10, 11, 12, 13, 14, 15, 16, 17, 18, 0, 1, 2, 3]) (w' := (wX7 cy h0 gma sna hia ka ora cha tra ena opa foa gm sn hs qs k0 k1 k2 k3 ch o tr es op fo has ++ [wR cy 0 12 ac rc, wR cy 0 5 tr5 rt, wR cy 0 5 q22 x45.2.2.1, wR cy 0 3 q23 x45.2.2.2])) ⟨hx, hb, hml, hown, hts⟩ (c_X7_canTake l D cy h0 gma sna hia ka ora cha tra ena opa foa gm sn hs qs k0 k1 k2 k3 ch o tr es op fo has  v125 hv125) (cwV 0 hts gL_areFences_X7_canTake rfl rfl rfl hd_X7_canTake ⟨Nat.le_of_ble_eq_true rfl, Nat.le_of_ble_eq_true rfl⟩) hK hN hP hD hS hA rfl rfl rfl rfl rfl rfl (by decide) rfl rfl rfl hl.1 rfl (Nat.le_of_ble_eq_true rfl) dL_areFences_673 ⟨Nat.le_of_ble_eq_true rfl, Nat.le_of_ble_eq_true rfl⟩ (fun H locs hP hD hS => ?_)
                              refine lv_iload_n hx hb dL_areFences_676 rfl (lv_at hl 1 rfl) ?_
                              obtain ⟨v126, hv126, hf⟩ := k_B hf
                              refine k_callS (As := [.int n1]) (rest := [.int v125]) ⟨hx, hb, hml, hown, hts⟩ (c_L_take l n1 v126 hv126) (va_cwS 1 hts gL_areFences_L_take rfl rfl rfl hd_L_take ⟨Nat.le_of_ble_eq_true rfl, Nat.le_of_ble_eq_true rfl⟩) rfl hl.1 rfl (Nat.le_of_ble_eq_true rfl) dL_areFences_677 ⟨Nat.le_of_ble_eq_true rfl, Nat.le_of_ble_eq_true rfl⟩ ?_
                              refine lv_icmp_ne (tgt := 734) hx hb dL_areFences_680 (by decide) (fun c127 => ?_) (fun c127 => ?_)
                              · have hf := k_F c127 hf
                                refine lv_iconst (v := 0) hx hb dL_areFences_734 (by decide) ?_
                                refine W.widen (k := 508) (n := 3044) (by omega) (by omega) ?_
                                obtain rfl := k_some hf
                                exact kj98 ls H locs (lv_sub hl [] rfl) hP hD hS
                              · have hf := k_T c127 hf
                                refine lv_aload_n hx hb dL_areFences_683 rfl (lv_at hl 0 rfl) ?_
                                obtain ⟨v128, hv128, hf⟩ := k_B hf
                                refine k_callHV (As := []) (rest := []) (r := (RX7, TX7, 6)) (ci := 4) (q0 := 0) (isC := [0, 1, 2, 3, 4, 5, 6, 7, 8, 9, 10, 11, 12, 13, 14]) (isR := [15, 16, 17, 18]) (perm := [4, 5, 6, 7, 8, 9, 10, 11, 12, 13, 14, 15, 16, 17, 18, 0, 1, 2, 3]) (w' := (wX7 cy h0 gma sna hia ka ora cha tra ena opa foa gm sn hs qs k0 k1 k2 k3 ch o tr es op fo has ++ [wR cy 0 12 ac rc, wR cy 0 5 tr5 rt, wR cy 0 5 q22 x45.2.2.1, wR cy 0 3 q23 x45.2.2.2])) ⟨hx, hb, hml, hown, hts⟩ (c_X7_canTakeByRounds l D cy h0 gma sna hia ka ora cha tra ena opa foa gm sn hs qs k0 k1 k2 k3 ch o tr es op fo has  v128 hv128) (cwV 0 hts gL_areFences_X7_canTakeByRounds rfl rfl rfl hd_X7_canTakeByRounds ⟨Nat.le_of_ble_eq_true rfl, Nat.le_of_ble_eq_true rfl⟩) hK hN hP hD hS hA rfl rfl rfl rfl rfl rfl (by decide) rfl rfl rfl hl.1 rfl (Nat.le_of_ble_eq_true rfl) dL_areFences_684 ⟨Nat.le_of_ble_eq_true rfl, Nat.le_of_ble_eq_true rfl⟩ (fun H locs hP hD hS => ?_)
                                refine lv_iload_n hx hb dL_areFences_687 rfl (lv_at hl 1 rfl) ?_
                                obtain ⟨v129, hv129, hf⟩ := k_B hf
                                refine k_callS (As := [.int n1]) (rest := [.int v128]) ⟨hx, hb, hml, hown, hts⟩ (c_L_take l n1 v129 hv129) (va_cwS 1 hts gL_areFences_L_take rfl rfl rfl hd_L_take ⟨Nat.le_of_ble_eq_true rfl, Nat.le_of_ble_eq_true rfl⟩) rfl hl.1 rfl (Nat.le_of_ble_eq_true rfl) dL_areFences_688 ⟨Nat.le_of_ble_eq_true rfl, Nat.le_of_ble_eq_true rfl⟩ ?_
                                refine lv_icmp_ne (tgt := 734) hx hb dL_areFences_691 (by decide) (fun c130 => ?_) (fun c130 => ?_)
                                · have hf := k_F c130 hf
                                  refine lv_iconst (v := 0) hx hb dL_areFences_734 (by decide) ?_
                                  refine W.widen (k := 508) (n := 3044) (by omega) (by omega) ?_
                                  obtain rfl := k_some hf
                                  exact kj98 ls H locs (lv_sub hl [] rfl) hP hD hS
                                · have hf := k_T c130 hf
                                  refine lv_aload_n hx hb dL_areFences_694 rfl (lv_at hl 0 rfl) ?_
                                  obtain ⟨v131, hv131, hf⟩ := k_B hf
                                  refine k_callLS (As := [.ref h0]) (rest := []) (isC := [0, 1, 2, 3, 4, 5, 6, 7, 8, 9, 10, 11, 12, 13, 14]) (isR := [15, 16, 17, 18]) (perm := [4, 5, 6, 7, 8, 9, 10, 11, 12, 13, 14, 15, 16, 17, 18, 0, 1, 2, 3]) (w' := (wX7 cy h0 gma sna hia ka ora cha tra ena opa foa gm sn hs qs k0 k1 k2 k3 ch o tr es op fo has ++ [wR cy 0 12 ac rc, wR cy 0 5 tr5 rt, wR cy 0 5 q22 x45.2.2.1, wR cy 0 3 q23 x45.2.2.2])) ⟨hx, hb, hml, hown, hts⟩ (c_L_takingFenceOf l hl9 D cy h0 gma sna hia ka ora cha tra ena opa foa gm sn hs qs k0 k1 k2 k3 ch o tr es op fo has  v131 hv131) (vx_cwSW 1 hts gL_areFences_L_takingFenceOf rfl rfl rfl hd_L_takingFenceOf ⟨Nat.le_of_ble_eq_true rfl, Nat.le_of_ble_eq_true rfl⟩) hK hN hT hZ hCx hP hD hS hA rfl rfl rfl (by decide) (by decide) rfl (by decide) rfl hl.1 rfl (Nat.le_of_ble_eq_true rfl) dL_areFences_695 ⟨Nat.le_of_ble_eq_true rfl, Nat.le_of_ble_eq_true rfl⟩ (fun H locs hP hD hS => ?_)
                                  refine lv_iload hx hb dL_areFences_698 (lv_at hl 4 rfl) ?_
                                  refine lv_icmp_ne (tgt := 734) hx hb dL_areFences_700 (by decide) (fun c132 => ?_) (fun c132 => ?_)
                                  · have hf := k_F c132 hf
                                    refine lv_iconst (v := 0) hx hb dL_areFences_734 (by decide) ?_
                                    refine W.widen (k := 508) (n := 3044) (by omega) (by omega) ?_
                                    obtain rfl := k_some hf
                                    exact kj98 ls H locs (lv_sub hl [] rfl) hP hD hS
                                  · have hf := k_T c132 hf
                                    refine lv_aload_n hx hb dL_areFences_703 rfl (lv_at hl 0 rfl) ?_
                                    obtain ⟨v133, hv133, hf⟩ := k_B hf
                                    refine k_callHV (As := []) (rest := []) (r := (RX7, TX7, 6)) (ci := 4) (q0 := 0) (isC := [0, 1, 2, 3, 4, 5, 6, 7, 8, 9, 10, 11, 12, 13, 14]) (isR := [15, 16, 17, 18]) (perm := [4, 5, 6, 7, 8, 9, 10, 11, 12, 13, 14, 15, 16, 17, 18, 0, 1, 2, 3]) (w' := (wX7 cy h0 gma sna hia ka ora cha tra ena opa foa gm sn hs qs k0 k1 k2 k3 ch o tr es op fo has ++ [wR cy 0 12 ac rc, wR cy 0 5 tr5 rt, wR cy 0 5 q22 x45.2.2.1, wR cy 0 3 q23 x45.2.2.2])) ⟨hx, hb, hml, hown, hts⟩ (c_X7_safeFences l D cy h0 gma sna hia ka ora cha tra ena opa foa gm sn hs qs k0 k1 k2 k3 ch o tr es op fo has  v133 hv133) (cwV 0 hts gL_areFences_X7_safeFences rfl rfl rfl hd_X7_safeFences ⟨Nat.le_of_ble_eq_true rfl, Nat.le_of_ble_eq_true rfl⟩) hK hN hP hD hS hA rfl rfl rfl rfl rfl rfl (by decide) rfl rfl rfl hl.1 rfl (Nat.le_of_ble_eq_true rfl) dL_areFences_704 ⟨Nat.le_of_ble_eq_true rfl, Nat.le_of_ble_eq_true rfl⟩ (fun H locs hP hD hS => ?_)
                                    refine lv_iload hx hb dL_areFences_707 (lv_at hl 5 rfl) ?_
                                    refine lv_icmp_ne (tgt := 734) hx hb dL_areFences_709 (by decide) (fun c134 => ?_) (fun c134 => ?_)
                                    · have hf := k_F c134 hf
                                      refine lv_iconst (v := 0) hx hb dL_areFences_734 (by decide) ?_
                                      refine W.widen (k := 508) (n := 3044) (by omega) (by omega) ?_
                                      obtain rfl := k_some hf
                                      exact kj98 ls H locs (lv_sub hl [] rfl) hP hD hS
                                    · have hf := k_T c134 hf
                                      refine lv_aload_n hx hb dL_areFences_712 rfl (lv_at hl 0 rfl) ?_
                                      obtain ⟨v135, hv135, hf⟩ := k_B hf
                                      refine k_callHV (As := []) (rest := []) (r := (RX7, TX7, 6)) (ci := 4) (q0 := 0) (isC := [0, 1, 2, 3, 4, 5, 6, 7, 8, 9, 10, 11, 12, 13, 14]) (isR := [15, 16, 17, 18]) (perm := [4, 5, 6, 7, 8, 9, 10, 11, 12, 13, 14, 15, 16, 17, 18, 0, 1, 2, 3]) (w' := (wX7 cy h0 gma sna hia ka ora cha tra ena opa foa gm sn hs qs k0 k1 k2 k3 ch o tr es op fo has ++ [wR cy 0 12 ac rc, wR cy 0 5 tr5 rt, wR cy 0 5 q22 x45.2.2.1, wR cy 0 3 q23 x45.2.2.2])) ⟨hx, hb, hml, hown, hts⟩ (c_X7_safeInRow l D cy h0 gma sna hia ka ora cha tra ena opa foa gm sn hs qs k0 k1 k2 k3 ch o tr es op fo has  v135 hv135) (cwV 0 hts gL_areFences_X7_safeInRow rfl rfl rfl hd_X7_safeInRow ⟨Nat.le_of_ble_eq_true rfl, Nat.le_of_ble_eq_true rfl⟩) hK hN hP hD hS hA rfl rfl rfl rfl rfl rfl (by decide) rfl rfl rfl hl.1 rfl (Nat.le_of_ble_eq_true rfl) dL_areFences_713 ⟨Nat.le_of_ble_eq_true rfl, Nat.le_of_ble_eq_true rfl⟩ (fun H locs hP hD hS => ?_)
                                      refine lv_iload hx hb dL_areFences_716 (lv_at hl 6 rfl) ?_
                                      refine lv_icmp_ne (tgt := 734) hx hb dL_areFences_718 (by decide) (fun c136 => ?_) (fun c136 => ?_)
                                      · have hf := k_F c136 hf
                                        refine lv_iconst (v := 0) hx hb dL_areFences_734 (by decide) ?_
                                        refine W.widen (k := 508) (n := 3044) (by omega) (by omega) ?_
                                        obtain rfl := k_some hf
                                        exact kj98 ls H locs (lv_sub hl [] rfl) hP hD hS
                                      · have hf := k_T c136 hf
                                        refine lv_aload_n hx hb dL_areFences_721 rfl (lv_at hl 0 rfl) ?_
                                        obtain ⟨v137, hv137, hf⟩ := k_B hf
                                        refine k_callLS (As := [.ref h0]) (rest := []) (isC := [0, 1, 2, 3, 4, 5, 6, 7, 8, 9, 10, 11, 12, 13, 14]) (isR := [15, 16, 17, 18]) (perm := [4, 5, 6, 7, 8, 9, 10, 11, 12, 13, 14, 15, 16, 17, 18, 0, 1, 2, 3]) (w' := (wX7 cy h0 gma sna hia ka ora cha tra ena opa foa gm sn hs qs k0 k1 k2 k3 ch o tr es op fo has ++ [wR cy 0 12 ac rc, wR cy 0 5 tr5 rt, wR cy 0 5 q22 x45.2.2.1, wR cy 0 3 q23 x45.2.2.2])) ⟨hx, hb, hml, hown, hts⟩ (c_L_leastSacrificeOf l hl9 D cy h0 gma sna hia ka ora cha tra ena opa foa gm sn hs qs k0 k1 k2 k3 ch o tr es op fo has  v137 hv137) (vx_cwSW 1 hts gL_areFences_L_leastSacrificeOf rfl rfl rfl hd_L_leastSacrificeOf ⟨Nat.le_of_ble_eq_true rfl, Nat.le_of_ble_eq_true rfl⟩) hK hN hT hZ hCx hP hD hS hA rfl rfl rfl (by decide) (by decide) rfl (by decide) rfl hl.1 rfl (Nat.le_of_ble_eq_true rfl) dL_areFences_722 ⟨Nat.le_of_ble_eq_true rfl, Nat.le_of_ble_eq_true rfl⟩ (fun H locs hP hD hS => ?_)
                                        refine lv_iload hx hb dL_areFences_725 (lv_at hl 7 rfl) ?_
                                        refine lv_icmp_ne (tgt := 734) hx hb dL_areFences_727 (by decide) (fun c138 => ?_) (fun c138 => ?_)
                                        · have hf := k_F c138 hf
                                          refine lv_iconst (v := 0) hx hb dL_areFences_734 (by decide) ?_
                                          refine W.widen (k := 508) (n := 3044) (by omega) (by omega) ?_
                                          obtain rfl := k_some hf
                                          exact kj98 ls H locs (lv_sub hl [] rfl) hP hD hS
                                        · have hf := k_T c138 hf
                                          refine lv_iconst (v := 1) hx hb dL_areFences_730 (by decide) ?_
                                          refine lv_goto (tgt := 735) hx hb dL_areFences_731 (by decide) ?_
                                          refine W.widen (k := 508) (n := 3044) (by omega) (by omega) ?_
                                          obtain rfl := k_some hf
                                          exact kj98 ls H locs (lv_sub hl [] rfl) hP hD hS
              · have hf := hj109
                refine lv_icmp_ne (tgt := 597) hx hb dL_areFences_590 (by decide) (fun c110 => ?_) (fun c110 => ?_)
                · have hf := k_F c110 hf
                  refine lv_iconst (v := 0) hx hb dL_areFences_597 (by decide) ?_
                  refine W.widen (k := 504) (n := 3020) (by omega) (by omega) ?_
                  obtain rfl := k_some hf
                  exact kj109 ls H locs (lv_sub hl [0, 1, 2, 4, 5, 6, 7, 8] rfl) hP hD hS
                · have hf := k_T c110 hf
                  refine lv_iconst (v := 1) hx hb dL_areFences_593 (by decide) ?_
                  refine lv_goto (tgt := 598) hx hb dL_areFences_594 (by decide) ?_
                  refine W.widen (k := 504) (n := 3020) (by omega) (by omega) ?_
                  obtain rfl := k_some hf
                  exact kj109 ls H locs (lv_sub hl [0, 1, 2, 4, 5, 6, 7, 8] rfl) hP hD hS
  · have hf := hj2
    refine lv_icmp_ne (tgt := 109) hx hb dL_areFences_8 (by decide) (fun c3 => ?_) (fun c3 => ?_)
    · have hf := k_F c3 hf
      refine lv_iconst (v := 0) hx hb dL_areFences_109 (by decide) ?_
      refine W.widen (k := 10) (n := 60) (by omega) (by omega) ?_
      obtain rfl := k_some hf
      exact kj2 ls H locs (lv_sub hl [0, 1, 2, 3] rfl) hP hD hS
    · have hf := k_T c3 hf
      refine lv_aload_n hx hb dL_areFences_11 rfl (lv_at hl 0 rfl) ?_
      refine lv_bipush (v := 12) hx hb dL_areFences_12 (by decide) ?_
      obtain ⟨v4, hv4, hf⟩ := k_B hf
      refine k_callLS (As := [.ref h0, .int 12]) (rest := []) (isC := [0, 1, 2, 3, 4, 5, 6, 7, 8, 9, 10, 11, 12, 13, 14]) (isR := [15, 16]) (perm := [2, 3, 4, 5, 6, 7, 8, 9, 10, 11, 12, 13, 14, 15, 16, 0, 1]) (w' := (wX7 cy h0 gma sna hia ka ora cha tra ena opa foa gm sn hs qs k0 k1 k2 k3 ch o tr es op fo has ++ [wR cy 0 12 ac rc, wR cy 0 5 tr5 rt])) ⟨hx, hb, hml, hown, hts⟩ (c_L_fencesOfOf l hl9 D cy h0 gma sna hia ka ora cha tra ena opa foa gm sn hs qs k0 k1 k2 k3 ch o tr es op fo has 12 v4 hv4) (vx_cwSW 2 hts gL_areFences_L_fencesOfOf rfl rfl rfl hd_L_fencesOfOf ⟨Nat.le_of_ble_eq_true rfl, Nat.le_of_ble_eq_true rfl⟩) hK hN hT hZ hCx hP hD hS hA rfl rfl rfl (by decide) (by decide) rfl (by decide) rfl hl.1 rfl (Nat.le_of_ble_eq_true rfl) dL_areFences_14 ⟨Nat.le_of_ble_eq_true rfl, Nat.le_of_ble_eq_true rfl⟩ (fun H locs hP hD hS => ?_)
      refine lv_bipush (v := (-101)) hx hb dL_areFences_17 (by decide) ?_
      refine lv_icmp_ne (tgt := 109) hx hb dL_areFences_19 (by decide) (fun c5 => ?_) (fun c5 => ?_)
      · have hf := k_F c5 hf
        refine lv_iconst (v := 0) hx hb dL_areFences_109 (by decide) ?_
        refine W.widen (k := 10) (n := 60) (by omega) (by omega) ?_
        obtain rfl := k_some hf
        exact kj2 ls H locs (lv_sub hl [0, 1, 2, 3] rfl) hP hD hS
      · have hf := k_T c5 hf
        refine lv_aload_n hx hb dL_areFences_22 rfl (lv_at hl 0 rfl) ?_
        refine lv_iconst (v := (-1)) hx hb dL_areFences_23 (by decide) ?_
        obtain ⟨v6, hv6, hf⟩ := k_B hf
        refine k_callLS (As := [.ref h0, .int (-1)]) (rest := []) (isC := [0, 1, 2, 3, 4, 5, 6, 7, 8, 9, 10, 11, 12, 13, 14]) (isR := [15, 16]) (perm := [2, 3, 4, 5, 6, 7, 8, 9, 10, 11, 12, 13, 14, 15, 16, 0, 1]) (w' := (wX7 cy h0 gma sna hia ka ora cha tra ena opa foa gm sn hs qs k0 k1 k2 k3 ch o tr es op fo has ++ [wR cy 0 12 ac rc, wR cy 0 5 tr5 rt])) ⟨hx, hb, hml, hown, hts⟩ (c_L_ownerOfOf l hl9 D cy h0 gma sna hia ka ora cha tra ena opa foa gm sn hs qs k0 k1 k2 k3 ch o tr es op fo has (-1) v6 hv6) (vx_cwSW 2 hts gL_areFences_L_ownerOfOf rfl rfl rfl hd_L_ownerOfOf ⟨Nat.le_of_ble_eq_true rfl, Nat.le_of_ble_eq_true rfl⟩) hK hN hT hZ hCx hP hD hS hA rfl rfl rfl (by decide) (by decide) rfl (by decide) rfl hl.1 rfl (Nat.le_of_ble_eq_true rfl) dL_areFences_24 ⟨Nat.le_of_ble_eq_true rfl, Nat.le_of_ble_eq_true rfl⟩ (fun H locs hP hD hS => ?_)
        refine lv_bipush (v := (-101)) hx hb dL_areFences_27 (by decide) ?_
        refine lv_icmp_ne (tgt := 109) hx hb dL_areFences_29 (by decide) (fun c7 => ?_) (fun c7 => ?_)
        · have hf := k_F c7 hf
          refine lv_iconst (v := 0) hx hb dL_areFences_109 (by decide) ?_
          refine W.widen (k := 10) (n := 60) (by omega) (by omega) ?_
          obtain rfl := k_some hf
          exact kj2 ls H locs (lv_sub hl [0, 1, 2, 3] rfl) hP hD hS
        · have hf := k_T c7 hf
          refine lv_aload_n hx hb dL_areFences_32 rfl (lv_at hl 0 rfl) ?_
          refine lv_iconst (v := 2) hx hb dL_areFences_33 (by decide) ?_
          obtain ⟨v8, hv8, hf⟩ := k_B hf
          refine k_callLS (As := [.ref h0, .int 2]) (rest := []) (isC := [0, 1, 2, 3, 4, 5, 6, 7, 8, 9, 10, 11, 12, 13, 14]) (isR := [15, 16]) (perm := [2, 3, 4, 5, 6, 7, 8, 9, 10, 11, 12, 13, 14, 15, 16, 0, 1]) (w' := (wX7 cy h0 gma sna hia ka ora cha tra ena opa foa gm sn hs qs k0 k1 k2 k3 ch o tr es op fo has ++ [wR cy 0 12 ac rc, wR cy 0 5 tr5 rt])) ⟨hx, hb, hml, hown, hts⟩ (c_L_boxesOfOf l hl9 D cy h0 gma sna hia ka ora cha tra ena opa foa gm sn hs qs k0 k1 k2 k3 ch o tr es op fo has 2 v8 hv8) (vx_cwSW 2 hts gL_areFences_L_boxesOfOf rfl rfl rfl hd_L_boxesOfOf ⟨Nat.le_of_ble_eq_true rfl, Nat.le_of_ble_eq_true rfl⟩) hK hN hT hZ hCx hP hD hS hA rfl rfl rfl (by decide) (by decide) rfl (by decide) rfl hl.1 rfl (Nat.le_of_ble_eq_true rfl) dL_areFences_34 ⟨Nat.le_of_ble_eq_true rfl, Nat.le_of_ble_eq_true rfl⟩ (fun H locs hP hD hS => ?_)
          refine lv_bipush (v := (-101)) hx hb dL_areFences_37 (by decide) ?_
          refine lv_icmp_ne (tgt := 109) hx hb dL_areFences_39 (by decide) (fun c9 => ?_) (fun c9 => ?_)
          · have hf := k_F c9 hf
            refine lv_iconst (v := 0) hx hb dL_areFences_109 (by decide) ?_
            refine W.widen (k := 10) (n := 60) (by omega) (by omega) ?_
            obtain rfl := k_some hf
            exact kj2 ls H locs (lv_sub hl [0, 1, 2, 3] rfl) hP hD hS
          · have hf := k_T c9 hf
            refine lv_aload_n hx hb dL_areFences_42 rfl (lv_at hl 0 rfl) ?_
            refine lv_iconst (v := 5) hx hb dL_areFences_43 (by decide) ?_
            obtain ⟨v10, hv10, hf⟩ := k_B hf
            refine k_callLS (As := [.ref h0, .int 5]) (rest := []) (isC := [0, 1, 2, 3, 4, 5, 6, 7, 8, 9, 10, 11, 12, 13, 14]) (isR := [15, 16]) (perm := [2, 3, 4, 5, 6, 7, 8, 9, 10, 11, 12, 13, 14, 15, 16, 0, 1]) (w' := (wX7 cy h0 gma sna hia ka ora cha tra ena opa foa gm sn hs qs k0 k1 k2 k3 ch o tr es op fo has ++ [wR cy 0 12 ac rc, wR cy 0 5 tr5 rt])) ⟨hx, hb, hml, hown, hts⟩ (c_L_boxesWithOf l hl9 D cy h0 gma sna hia ka ora cha tra ena opa foa gm sn hs qs k0 k1 k2 k3 ch o tr es op fo has 5 v10 hv10) (vx_cwSW 2 hts gL_areFences_L_boxesWithOf rfl rfl rfl hd_L_boxesWithOf ⟨Nat.le_of_ble_eq_true rfl, Nat.le_of_ble_eq_true rfl⟩) hK hN hT hZ hCx hP hD hS hA rfl rfl rfl (by decide) (by decide) rfl (by decide) rfl hl.1 rfl (Nat.le_of_ble_eq_true rfl) dL_areFences_44 ⟨Nat.le_of_ble_eq_true rfl, Nat.le_of_ble_eq_true rfl⟩ (fun H locs hP hD hS => ?_)
            refine lv_bipush (v := (-101)) hx hb dL_areFences_47 (by decide) ?_
            refine lv_icmp_ne (tgt := 109) hx hb dL_areFences_49 (by decide) (fun c11 => ?_) (fun c11 => ?_)
            · have hf := k_F c11 hf
              refine lv_iconst (v := 0) hx hb dL_areFences_109 (by decide) ?_
              refine W.widen (k := 10) (n := 60) (by omega) (by omega) ?_
              obtain rfl := k_some hf
              exact kj2 ls H locs (lv_sub hl [0, 1, 2, 3] rfl) hP hD hS
            · have hf := k_T c11 hf
              refine lv_aload_n hx hb dL_areFences_52 rfl (lv_at hl 0 rfl) ?_
              refine lv_bipush (v := 31) hx hb dL_areFences_53 (by decide) ?_
              obtain ⟨v12, hv12, hf⟩ := k_B hf
              refine k_callLS (As := [.ref h0, .int 31]) (rest := []) (isC := [0, 1, 2, 3, 4, 5, 6, 7, 8, 9, 10, 11, 12, 13, 14]) (isR := [15, 16]) (perm := [2, 3, 4, 5, 6, 7, 8, 9, 10, 11, 12, 13, 14, 15, 16, 0, 1]) (w' := (wX7 cy h0 gma sna hia ka ora cha tra ena opa foa gm sn hs qs k0 k1 k2 k3 ch o tr es op fo has ++ [wR cy 0 12 ac rc, wR cy 0 5 tr5 rt])) ⟨hx, hb, hml, hown, hts⟩ (c_L_whyNotOf l hl9 D cy h0 gma sna hia ka ora cha tra ena opa foa gm sn hs qs k0 k1 k2 k3 ch o tr es op fo has 31 v12 hv12) (vx_cwSW 2 hts gL_areFences_L_whyNotOf rfl rfl rfl hd_L_whyNotOf ⟨Nat.le_of_ble_eq_true rfl, Nat.le_of_ble_eq_true rfl⟩) hK hN hT hZ hCx hP hD hS hA rfl rfl rfl (by decide) (by decide) rfl (by decide) rfl hl.1 rfl (Nat.le_of_ble_eq_true rfl) dL_areFences_55 ⟨Nat.le_of_ble_eq_true rfl, Nat.le_of_ble_eq_true rfl⟩ (fun H locs hP hD hS => ?_)
              refine lv_bipush (v := (-101)) hx hb dL_areFences_58 (by decide) ?_
              refine lv_icmp_ne (tgt := 109) hx hb dL_areFences_60 (by decide) (fun c13 => ?_) (fun c13 => ?_)
              · have hf := k_F c13 hf
                refine lv_iconst (v := 0) hx hb dL_areFences_109 (by decide) ?_
                refine W.widen (k := 10) (n := 60) (by omega) (by omega) ?_
                obtain rfl := k_some hf
                exact kj2 ls H locs (lv_sub hl [0, 1, 2, 3] rfl) hP hD hS
              · have hf := k_T c13 hf
                refine lv_aload_n hx hb dL_areFences_63 rfl (lv_at hl 0 rfl) ?_
                refine lv_iconst (v := (-1)) hx hb dL_areFences_64 (by decide) ?_
                obtain ⟨v14, hv14, hf⟩ := k_B hf
                refine k_callLS (As := [.ref h0, .int (-1)]) (rest := []) (isC := [0, 1, 2, 3, 4, 5, 6, 7, 8, 9, 10, 11, 12, 13, 14]) (isR := [15, 16]) (perm := [2, 3, 4, 5, 6, 7, 8, 9, 10, 11, 12, 13, 14, 15, 16, 0, 1]) (w' := (wX7 cy h0 gma sna hia ka ora cha tra ena opa foa gm sn hs qs k0 k1 k2 k3 ch o tr es op fo has ++ [wR cy 0 12 ac rc, wR cy 0 5 tr5 rt])) ⟨hx, hb, hml, hown, hts⟩ (c_L_isSafeOf l hl9 D cy h0 gma sna hia ka ora cha tra ena opa foa gm sn hs qs k0 k1 k2 k3 ch o tr es op fo has (-1) v14 hv14) (vx_cwSW 2 hts gL_areFences_L_isSafeOf rfl rfl rfl hd_L_isSafeOf ⟨Nat.le_of_ble_eq_true rfl, Nat.le_of_ble_eq_true rfl⟩) hK hN hT hZ hCx hP hD hS hA rfl rfl rfl (by decide) (by decide) rfl (by decide) rfl hl.1 rfl (Nat.le_of_ble_eq_true rfl) dL_areFences_65 ⟨Nat.le_of_ble_eq_true rfl, Nat.le_of_ble_eq_true rfl⟩ (fun H locs hP hD hS => ?_)
                refine lv_bipush (v := (-101)) hx hb dL_areFences_68 (by decide) ?_
                refine lv_icmp_ne (tgt := 109) hx hb dL_areFences_70 (by decide) (fun c15 => ?_) (fun c15 => ?_)
                · have hf := k_F c15 hf
                  refine lv_iconst (v := 0) hx hb dL_areFences_109 (by decide) ?_
                  refine W.widen (k := 10) (n := 60) (by omega) (by omega) ?_
                  obtain rfl := k_some hf
                  exact kj2 ls H locs (lv_sub hl [0, 1, 2, 3] rfl) hP hD hS
                · have hf := k_T c15 hf
                  refine lv_aload_n hx hb dL_areFences_73 rfl (lv_at hl 0 rfl) ?_
                  refine lv_bipush (v := 31) hx hb dL_areFences_74 (by decide) ?_
                  obtain ⟨v16, hv16, hf⟩ := k_B hf
                  refine k_callLS (As := [.ref h0, .int 31]) (rest := []) (isC := [0, 1, 2, 3, 4, 5, 6, 7, 8, 9, 10, 11, 12, 13, 14]) (isR := [15, 16]) (perm := [2, 3, 4, 5, 6, 7, 8, 9, 10, 11, 12, 13, 14, 15, 16, 0, 1]) (w' := (wX7 cy h0 gma sna hia ka ora cha tra ena opa foa gm sn hs qs k0 k1 k2 k3 ch o tr es op fo has ++ [wR cy 0 12 ac rc, wR cy 0 5 tr5 rt])) ⟨hx, hb, hml, hown, hts⟩ (c_L_givesOf l hl9 D cy h0 gma sna hia ka ora cha tra ena opa foa gm sn hs qs k0 k1 k2 k3 ch o tr es op fo has 31 v16 hv16) (vx_cwSW 2 hts gL_areFences_L_givesOf rfl rfl rfl hd_L_givesOf ⟨Nat.le_of_ble_eq_true rfl, Nat.le_of_ble_eq_true rfl⟩) hK hN hT hZ hCx hP hD hS hA rfl rfl rfl (by decide) (by decide) rfl (by decide) rfl hl.1 rfl (Nat.le_of_ble_eq_true rfl) dL_areFences_76 ⟨Nat.le_of_ble_eq_true rfl, Nat.le_of_ble_eq_true rfl⟩ (fun H locs hP hD hS => ?_)
                  refine lv_bipush (v := (-101)) hx hb dL_areFences_79 (by decide) ?_
                  refine lv_icmp_ne (tgt := 109) hx hb dL_areFences_81 (by decide) (fun c17 => ?_) (fun c17 => ?_)
                  · have hf := k_F c17 hf
                    refine lv_iconst (v := 0) hx hb dL_areFences_109 (by decide) ?_
                    refine W.widen (k := 10) (n := 60) (by omega) (by omega) ?_
                    obtain rfl := k_some hf
                    exact kj2 ls H locs (lv_sub hl [0, 1, 2, 3] rfl) hP hD hS
                  · have hf := k_T c17 hf
                    refine lv_aload_n hx hb dL_areFences_84 rfl (lv_at hl 0 rfl) ?_
                    refine lv_bipush (v := 12) hx hb dL_areFences_85 (by decide) ?_
                    obtain ⟨v18, hv18, hf⟩ := k_B hf
                    refine k_callLS (As := [.ref h0, .int 12]) (rest := []) (isC := [0, 1, 2, 3, 4, 5, 6, 7, 8, 9, 10, 11, 12, 13, 14]) (isR := [15, 16]) (perm := [2, 3, 4, 5, 6, 7, 8, 9, 10, 11, 12, 13, 14, 15, 16, 0, 1]) (w' := (wX7 cy h0 gma sna hia ka ora cha tra ena opa foa gm sn hs qs k0 k1 k2 k3 ch o tr es op fo has ++ [wR cy 0 12 ac rc, wR cy 0 5 tr5 rt])) ⟨hx, hb, hml, hown, hts⟩ (c_L_chainOfOf l hl9 D cy h0 gma sna hia ka ora cha tra ena opa foa gm sn hs qs k0 k1 k2 k3 ch o tr es op fo has 12 v18 hv18) (vx_cwSW 2 hts gL_areFences_L_chainOfOf rfl rfl rfl hd_L_chainOfOf ⟨Nat.le_of_ble_eq_true rfl, Nat.le_of_ble_eq_true rfl⟩) hK hN hT hZ hCx hP hD hS hA rfl rfl rfl (by decide) (by decide) rfl (by decide) rfl hl.1 rfl (Nat.le_of_ble_eq_true rfl) dL_areFences_87 ⟨Nat.le_of_ble_eq_true rfl, Nat.le_of_ble_eq_true rfl⟩ (fun H locs hP hD hS => ?_)
                    refine lv_bipush (v := (-101)) hx hb dL_areFences_90 (by decide) ?_
                    refine lv_icmp_ne (tgt := 109) hx hb dL_areFences_92 (by decide) (fun c19 => ?_) (fun c19 => ?_)
                    · have hf := k_F c19 hf
                      refine lv_iconst (v := 0) hx hb dL_areFences_109 (by decide) ?_
                      refine W.widen (k := 10) (n := 60) (by omega) (by omega) ?_
                      obtain rfl := k_some hf
                      exact kj2 ls H locs (lv_sub hl [0, 1, 2, 3] rfl) hP hD hS
                    · have hf := k_T c19 hf
                      refine lv_aload_n hx hb dL_areFences_95 rfl (lv_at hl 0 rfl) ?_
                      refine lv_iconst (v := 2) hx hb dL_areFences_96 (by decide) ?_
                      obtain ⟨v20, hv20, hf⟩ := k_B hf
                      refine k_callLS (As := [.ref h0, .int 2]) (rest := []) (isC := [0, 1, 2, 3, 4, 5, 6, 7, 8, 9, 10, 11, 12, 13, 14]) (isR := [15, 16]) (perm := [2, 3, 4, 5, 6, 7, 8, 9, 10, 11, 12, 13, 14, 15, 16, 0, 1]) (w' := (wX7 cy h0 gma sna hia ka ora cha tra ena opa foa gm sn hs qs k0 k1 k2 k3 ch o tr es op fo has ++ [wR cy 0 12 ac rc, wR cy 0 5 tr5 rt])) ⟨hx, hb, hml, hown, hts⟩ (c_L_wonOf l hl9 D cy h0 gma sna hia ka ora cha tra ena opa foa gm sn hs qs k0 k1 k2 k3 ch o tr es op fo has 2 v20 hv20) (vx_cwSW 2 hts gL_areFences_L_wonOf rfl rfl rfl hd_L_wonOf ⟨Nat.le_of_ble_eq_true rfl, Nat.le_of_ble_eq_true rfl⟩) hK hN hT hZ hCx hP hD hS hA rfl rfl rfl (by decide) (by decide) rfl (by decide) rfl hl.1 rfl (Nat.le_of_ble_eq_true rfl) dL_areFences_97 ⟨Nat.le_of_ble_eq_true rfl, Nat.le_of_ble_eq_true rfl⟩ (fun H locs hP hD hS => ?_)
                      refine lv_bipush (v := (-101)) hx hb dL_areFences_100 (by decide) ?_
                      refine lv_icmp_ne (tgt := 109) hx hb dL_areFences_102 (by decide) (fun c21 => ?_) (fun c21 => ?_)
                      · have hf := k_F c21 hf
                        refine lv_iconst (v := 0) hx hb dL_areFences_109 (by decide) ?_
                        refine W.widen (k := 10) (n := 60) (by omega) (by omega) ?_
                        obtain rfl := k_some hf
                        exact kj2 ls H locs (lv_sub hl [0, 1, 2, 3] rfl) hP hD hS
                      · have hf := k_T c21 hf
                        refine lv_iconst (v := 1) hx hb dL_areFences_105 (by decide) ?_
                        refine lv_goto (tgt := 110) hx hb dL_areFences_106 (by decide) ?_
                        refine W.widen (k := 10) (n := 60) (by omega) (by omega) ?_
                        obtain rfl := k_some hf
                        exact kj2 ls H locs (lv_sub hl [0, 1, 2, 3] rfl) hP hD hS
