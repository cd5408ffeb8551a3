def t_L_law_23 (xs : Nat → Int32) (L : Nat) (b4 : Int32) (s23 : Int32 × (Nat → Int32)) : Option ((Int32 × (Nat → Int32)) ⊕ (Int32 × (Nat → Int32))) :=
  if 12 ≤ s23.1 then
    some (.inr (s23.1, s23.2))
  else
    if s23.1 < 0 ∨ 12 ≤ s23.1.toNatClampNeg then none else
    k_let (upd s23.2 s23.1.toNatClampNeg (-1)) fun w3 =>
    some (.inl (s23.1 + 1, w3))
def t_L_law_72 (xs : Nat → Int32) (L : Nat) (b4 : Int32) (b5 : Int32) (b6 : Int32) (s72 : Int32 × Int32) : Option ((Int32 × Int32) ⊕ (Int32 × Int32)) :=
  if 31 ≤ s72.2 then
    some (.inr (s72.1, s72.2))
  else
    if (b6 - b6 / 5 * 5) ≤ 0 then
      some (.inr (s72.1, s72.2))
    else
      (f_L_count b4).bind fun v11 =>
      if 31 ≤ v11 then
        some (.inr (s72.1, s72.2))
      else
        if ((b4 >>> (s72.1 &&& 31)) &&& 1) = 1 then
          k_let ((s72.1 + 7) - (s72.1 + 7) / 31 * 31) fun y14 =>
          some (.inl (y14, s72.2 + 1))
        else
          some (.inr (s72.1, s72.2))
def t_L_law_250 (xs : Nat → Int32) (L : Nat) (b4 : Int32) (b5 : Int32) (b7 : Int32) (b8 : Int32) (rt : Nat → Int32) (s250 : Int32 × (Nat → Int32)) : Option ((Int32 × (Nat → Int32)) ⊕ (Int32 × (Nat → Int32))) :=
  if 2 ≤ s250.1 then
    some (.inr (s250.1, s250.2))
  else
    if b8 ≤ 0 then
      some (.inr (s250.1, s250.2))
    else
      (f_L_beside b7 s250.1).bind fun v24 =>
      Option.bind (α := (Nat → Int32)) (
          if v24 < 0 then
            some s250.2
          else
            (f_L_has b4 v24).bind fun v27 =>
            if v27 = 4 then
              if v24 < 0 ∨ 12 ≤ v24.toNatClampNeg then none else
              k_let (upd s250.2 v24.toNatClampNeg (rt 0)) fun w30 =>
              some w30
            else
              some s250.2
        ) fun j25 =>
      some (.inl (s250.1 + 1, j25))
def t_L_law_341 (xs : Nat → Int32) (L : Nat) (b4 : Int32) (b5 : Int32) (b7 : Int32) (b8 : Int32) (rc : Nat → Int32) (s341 : Int32 × Int32) : Option ((Int32 × Int32) ⊕ (Int32 × Int32)) :=
  if 12 ≤ s341.2 then
    some (.inr (s341.1, s341.2))
  else
    if s341.2 < 0 ∨ 12 ≤ s341.2.toNatClampNeg then none else
    Option.bind (α := Int32) (
        if (rc s341.2.toNatClampNeg) = 0 then
          some 1
        else
          some (-1)
      ) fun j40 =>
    k_let (s341.1 + j40) fun y42 =>
    some (.inl (y42, s341.2 + 1))
def t_L_law_173 (xs : Nat → Int32) (L : Nat) (b4 : Int32) (b5 : Int32) (s173 : Int32 × (Nat → Int32)) : Option ((Int32 × (Nat → Int32)) ⊕ (Int32 × (Nat → Int32))) :=
  if 12 ≤ s173.1 then
    some (.inr (s173.1, s173.2))
  else
    if s173.1 < 0 ∨ 12 ≤ s173.1.toNatClampNeg then none else
    k_let (upd s173.2 s173.1.toNatClampNeg (-1)) fun w65 =>
    some (.inl (s173.1 + 1, w65))
def t_L_law_44 (xs : Nat → Int32) (L : Nat)  (s44 : Int32 × Int32 × k_G8 × Int32 × k_Q4 × k_G8 × k_G8 × k_G8 × k_G8 × Int32 × (Nat → Int32) × (Nat → Int32) × (Nat → Int32) × (Nat → Int32)) : Option ((Int32 × Int32 × k_G8 × Int32 × k_Q4 × k_G8 × k_G8 × k_G8 × k_G8 × Int32 × (Nat → Int32) × (Nat → Int32) × (Nat → Int32) × (Nat → Int32)) ⊕ (Int32 × Int32 × k_G8 × Int32 × k_Q4 × k_G8 × k_G8 × k_G8 × k_G8 × Int32 × (Nat → Int32) × (Nat → Int32) × (Nat → Int32) × (Nat → Int32))) :=
  if 64 ≤ s44.2.1 then
    some (.inr (s44.1, s44.2.1, s44.2.2.1, s44.2.2.2.1, s44.2.2.2.2.1, s44.2.2.2.2.2.1, s44.2.2.2.2.2.2.1, s44.2.2.2.2.2.2.2.1, s44.2.2.2.2.2.2.2.2.1, s44.2.2.2.2.2.2.2.2.2.1, s44.2.2.2.2.2.2.2.2.2.2.1, s44.2.2.2.2.2.2.2.2.2.2.2.1, s44.2.2.2.2.2.2.2.2.2.2.2.2.1, s44.2.2.2.2.2.2.2.2.2.2.2.2.2))
  else
    (f_L_cell xs L s44.2.1).bind fun v6 =>
    k_let (v6 &&& 2147483647) fun y7 =>
    k_let (y7 - y7 / 31 * 31) fun y8 =>
    (k_loop (t_L_law_72 xs L s44.1 s44.2.1 y7) 1000 (y8, 0)).bind fun x15 =>
    (f_L_count s44.1).bind fun v16 =>
    Option.bind (α := Int32 × k_G8 × Int32 × k_Q4 × k_G8 × k_G8 × k_G8 × k_G8 × (Nat → Int32) × (Nat → Int32)) (
        if v16 = 31 then
          if 0 < (y7 - y7 / 3 * 3) then
            (f_X7_newGame s44.2.2.1 s44.2.2.2.1 s44.2.2.2.2.1 s44.2.2.2.2.2.1 s44.2.2.2.2.2.2.1 s44.2.2.2.2.2.2.2.1 s44.2.2.2.2.2.2.2.2.1).bind fun v69 =>
            (f_L_count s44.1).bind fun v70 =>
            if v69.1 = v70 then
              k_let (upd s44.2.2.2.2.2.2.2.2.2.2.2.2.2 0 0) fun w72 =>
              (k_loop (t_L_law_173 xs L 0 s44.2.1) 1000 (0, s44.2.2.2.2.2.2.2.2.2.2.2.2.1)).bind fun x76 =>
              some (0, v69.2.1, v69.2.2.1, v69.2.2.2.1, v69.2.2.2.2.1, v69.2.2.2.2.2.1, v69.2.2.2.2.2.2.1, v69.2.2.2.2.2.2.2, x76.2, w72)
            else
              none
          else
            if (y7 - y7 / 97 * 97) = 5 then
              (f_X7_newGame s44.2.2.1 s44.2.2.2.1 s44.2.2.2.2.1 s44.2.2.2.2.2.1 s44.2.2.2.2.2.2.1 s44.2.2.2.2.2.2.2.1 s44.2.2.2.2.2.2.2.2.1).bind fun v118 =>
              (f_L_count s44.1).bind fun v119 =>
              if v118.1 = v119 then
                k_let (upd s44.2.2.2.2.2.2.2.2.2.2.2.2.2 0 0) fun w121 =>
                (k_loop (t_L_law_173 xs L 0 s44.2.1) 1000 (0, s44.2.2.2.2.2.2.2.2.2.2.2.2.1)).bind fun x125 =>
                some (0, v118.2.1, v118.2.2.1, v118.2.2.2.1, v118.2.2.2.2.1, v118.2.2.2.2.2.1, v118.2.2.2.2.2.2.1, v118.2.2.2.2.2.2.2, x125.2, w121)
              else
                none
            else
              if ((s44.1 >>> (x15.1 &&& 31)) &&& 1) = 1 then
                (f_L_drawOf x15.1 s44.2.2.1 s44.2.2.2.1 s44.2.2.2.2.1 s44.2.2.2.2.2.1 s44.2.2.2.2.2.2.1 s44.2.2.2.2.2.2.2.1 s44.2.2.2.2.2.2.2.2.1).bind fun v114 =>
                if v114.1 = (-102) then
                  (f_L_drawOf 31 v114.2.1 v114.2.2.1 v114.2.2.2.1 v114.2.2.2.2.1 v114.2.2.2.2.2.1 v114.2.2.2.2.2.2.1 v114.2.2.2.2.2.2.2).bind fun v116 =>
                  if v116.1 = (-101) then
                    some (s44.1, v116.2.1, v116.2.2.1, v116.2.2.2.1, v116.2.2.2.2.1, v116.2.2.2.2.2.1, v116.2.2.2.2.2.2.1, v116.2.2.2.2.2.2.2, s44.2.2.2.2.2.2.2.2.2.2.2.2.1, s44.2.2.2.2.2.2.2.2.2.2.2.2.2)
                  else
                    none
                else
                  none
              else
                (f_L_close s44.1 x15.1).bind fun v79 =>
                k_let (s44.1 ||| ((1 : Int32) <<< (x15.1 &&& 31))) fun y80 =>
                (k_loop (t_L_law_250 xs L y80 s44.2.1 x15.1 v79 s44.2.2.2.2.2.2.2.2.2.2.2.2.2) 1000 (0, s44.2.2.2.2.2.2.2.2.2.2.2.2.1)).bind fun x90 =>
                Option.bind (α := Int32) (
                    if v79 = 0 then
                      some ((1 : Int32) - (s44.2.2.2.2.2.2.2.2.2.2.2.2.2 0))
                    else
                      some (s44.2.2.2.2.2.2.2.2.2.2.2.2.2 0)
                  ) fun j91 =>
                k_let (upd s44.2.2.2.2.2.2.2.2.2.2.2.2.2 0 j91) fun w93 =>
                Option.bind (α := Int32) (
                    if v79 = 2 then
                      some 1
                    else
                      some 0
                  ) fun j94 =>
                k_let (upd w93 4 ((w93 4) + j94)) fun w96 =>
                (k_loop (t_L_law_341 xs L y80 s44.2.1 x15.1 v79 x90.2) 1000 (0, 0)).bind fun x102 =>
                (f_L_count y80).bind fun v103 =>
                Option.bind (α := (Nat → Int32)) (
                    if v103 = 31 then
                      Option.bind (α := Int32) (
                          if x102.1 ≤ 0 then
                            if 0 ≤ x102.1 then
                              some 3
                            else
                              some 2
                          else
                            some 1
                        ) fun j106 =>
                      if j106 < 0 ∨ 5 ≤ j106.toNatClampNeg then none else
                      if j106 < 0 ∨ 5 ≤ j106.toNatClampNeg then none else
                      k_let (upd w96 j106.toNatClampNeg ((w96 j106.toNatClampNeg) + 1)) fun w111 =>
                      some w111
                    else
                      some w96
                  ) fun j104 =>
                (f_L_drawOf x15.1 s44.2.2.1 s44.2.2.2.1 s44.2.2.2.2.1 s44.2.2.2.2.2.1 s44.2.2.2.2.2.2.1 s44.2.2.2.2.2.2.2.1 s44.2.2.2.2.2.2.2.2.1).bind fun v112 =>
                if v112.1 = v79 then
                  some (y80, v112.2.1, v112.2.2.1, v112.2.2.2.1, v112.2.2.2.2.1, v112.2.2.2.2.2.1, v112.2.2.2.2.2.2.1, v112.2.2.2.2.2.2.2, x90.2, j104)
                else
                  none
        else
          if (y7 - y7 / 97 * 97) = 5 then
            (f_X7_newGame s44.2.2.1 s44.2.2.2.1 s44.2.2.2.2.1 s44.2.2.2.2.2.1 s44.2.2.2.2.2.2.1 s44.2.2.2.2.2.2.2.1 s44.2.2.2.2.2.2.2.2.1).bind fun v60 =>
            (f_L_count s44.1).bind fun v61 =>
            if v60.1 = v61 then
              k_let (upd s44.2.2.2.2.2.2.2.2.2.2.2.2.2 0 0) fun w63 =>
              (k_loop (t_L_law_173 xs L 0 s44.2.1) 1000 (0, s44.2.2.2.2.2.2.2.2.2.2.2.2.1)).bind fun x67 =>
              some (0, v60.2.1, v60.2.2.1, v60.2.2.2.1, v60.2.2.2.2.1, v60.2.2.2.2.2.1, v60.2.2.2.2.2.2.1, v60.2.2.2.2.2.2.2, x67.2, w63)
            else
              none
          else
            if ((s44.1 >>> (x15.1 &&& 31)) &&& 1) = 1 then
              (f_L_drawOf x15.1 s44.2.2.1 s44.2.2.2.1 s44.2.2.2.2.1 s44.2.2.2.2.2.1 s44.2.2.2.2.2.2.1 s44.2.2.2.2.2.2.2.1 s44.2.2.2.2.2.2.2.2.1).bind fun v56 =>
              if v56.1 = (-102) then
                (f_L_drawOf 31 v56.2.1 v56.2.2.1 v56.2.2.2.1 v56.2.2.2.2.1 v56.2.2.2.2.2.1 v56.2.2.2.2.2.2.1 v56.2.2.2.2.2.2.2).bind fun v58 =>
                if v58.1 = (-101) then
                  some (s44.1, v58.2.1, v58.2.2.1, v58.2.2.2.1, v58.2.2.2.2.1, v58.2.2.2.2.2.1, v58.2.2.2.2.2.2.1, v58.2.2.2.2.2.2.2, s44.2.2.2.2.2.2.2.2.2.2.2.2.1, s44.2.2.2.2.2.2.2.2.2.2.2.2.2)
                else
                  none
              else
                none
            else
              (f_L_close s44.1 x15.1).bind fun v21 =>
              k_let (s44.1 ||| ((1 : Int32) <<< (x15.1 &&& 31))) fun y22 =>
              (k_loop (t_L_law_250 xs L y22 s44.2.1 x15.1 v21 s44.2.2.2.2.2.2.2.2.2.2.2.2.2) 1000 (0, s44.2.2.2.2.2.2.2.2.2.2.2.2.1)).bind fun x32 =>
              Option.bind (α := Int32) (
                  if v21 = 0 then
                    some ((1 : Int32) - (s44.2.2.2.2.2.2.2.2.2.2.2.2.2 0))
                  else
                    some (s44.2.2.2.2.2.2.2.2.2.2.2.2.2 0)
                ) fun j33 =>
              k_let (upd s44.2.2.2.2.2.2.2.2.2.2.2.2.2 0 j33) fun w35 =>
              Option.bind (α := Int32) (
                  if v21 = 2 then
                    some 1
                  else
                    some 0
                ) fun j36 =>
              k_let (upd w35 4 ((w35 4) + j36)) fun w38 =>
              (k_loop (t_L_law_341 xs L y22 s44.2.1 x15.1 v21 x32.2) 1000 (0, 0)).bind fun x44 =>
              (f_L_count y22).bind fun v45 =>
              Option.bind (α := (Nat → Int32)) (
                  if v45 = 31 then
                    Option.bind (α := Int32) (
                        if x44.1 ≤ 0 then
                          if 0 ≤ x44.1 then
                            some 3
                          else
                            some 2
                        else
                          some 1
                      ) fun j48 =>
                    if j48 < 0 ∨ 5 ≤ j48.toNatClampNeg then none else
                    if j48 < 0 ∨ 5 ≤ j48.toNatClampNeg then none else
                    k_let (upd w38 j48.toNatClampNeg ((w38 j48.toNatClampNeg) + 1)) fun w53 =>
                    some w53
                  else
                    some w38
                ) fun j46 =>
              (f_L_drawOf x15.1 s44.2.2.1 s44.2.2.2.1 s44.2.2.2.2.1 s44.2.2.2.2.2.1 s44.2.2.2.2.2.2.1 s44.2.2.2.2.2.2.2.1 s44.2.2.2.2.2.2.2.2.1).bind fun v54 =>
              if v54.1 = v21 then
                some (y22, v54.2.1, v54.2.2.1, v54.2.2.2.1, v54.2.2.2.2.1, v54.2.2.2.2.2.1, v54.2.2.2.2.2.2.1, v54.2.2.2.2.2.2.2, x32.2, j46)
              else
                none
      ) fun j17 =>
    Option.bind (α := Unit) (
        if (s44.2.1 - s44.2.1 / 4 * 4) = 1 then
          (f_L_areFences j17.1 j17.2.1 j17.2.2.2.2.2.2.2.2.1 j17.2.2.2.2.2.2.2.2.2).bind fun v128 =>
          if v128 = 0 then
            none
          else
            some ()
        else
          some ()
      ) fun _ =>
    Option.bind (α := Unit) (
        if (s44.2.1 - s44.2.1 / 5 * 5) = 2 then
          (f_L_areChains j17.1 j17.2.1).bind fun v132 =>
          if v132 = 0 then
            none
          else
            some ()
        else
          some ()
      ) fun _ =>
    Option.bind (α := Int32 × (Nat → Int32) × (Nat → Int32)) (
        if (s44.2.1 - s44.2.1 / 9 * 9) = 8 then
          (f_L_isEnd j17.1 j17.2.1 s44.2.2.2.2.2.2.2.2.2.1 s44.2.2.2.2.2.2.2.2.2.2.1 s44.2.2.2.2.2.2.2.2.2.2.2.1).bind fun v136 =>
          if v136.1 = 0 then
            none
          else
            some (v136.2.1, v136.2.2.1, v136.2.2.2)
        else
          (f_L_count j17.1).bind fun v138 =>
          if v138 ≤ 26 then
            some (s44.2.2.2.2.2.2.2.2.2.1, s44.2.2.2.2.2.2.2.2.2.2.1, s44.2.2.2.2.2.2.2.2.2.2.2.1)
          else
            (f_L_isEnd j17.1 j17.2.1 s44.2.2.2.2.2.2.2.2.2.1 s44.2.2.2.2.2.2.2.2.2.2.1 s44.2.2.2.2.2.2.2.2.2.2.2.1).bind fun v140 =>
            if v140.1 = 0 then
              none
            else
              some (v140.2.1, v140.2.2.1, v140.2.2.2)
      ) fun j134 =>
    some (.inl (j17.1, s44.2.1 + 1, j17.2.1, j17.2.2.1, j17.2.2.2.1, j17.2.2.2.2.1, j17.2.2.2.2.2.1, j17.2.2.2.2.2.2.1, j17.2.2.2.2.2.2.2.1, j134.1, j134.2.1, j134.2.2, j17.2.2.2.2.2.2.2.2.1, j17.2.2.2.2.2.2.2.2.2))
def f_L_law (xs : Nat → Int32) (L : Nat) (gm : k_G8) (hs : Int32) (qs : k_Q4) (k0 : k_G8) (k1 : k_G8) (k2 : k_G8) (k3 : k_G8) (es : Int32) (op : Nat → Int32) (fo : Nat → Int32) (rc : Nat → Int32) (rt : Nat → Int32) : Option Int32 :=
  (k_loop (t_L_law_23 xs L 0) 1000 (0, rc)).bind fun x4 =>
  (k_loop (t_L_law_44 xs L ) 70 (0, 0, gm, hs, qs, k0, k1, k2, k3, es, op, fo, x4.2, rt)).bind fun x142 =>
  (f_L_areFences x142.1 x142.2.2.1 x142.2.2.2.2.2.2.2.2.2.2.2.2.1 x142.2.2.2.2.2.2.2.2.2.2.2.2.2).bind fun v143 =>
  some v143
set_option maxHeartbeats 8000000 in
set_option maxRecDepth 100000 in
theorem c_L_law (l : Launch) (hl9 : l.stackTraces = false) {p : Program} {e : Env} {s : State} {m : MethodId} {below : List Frame} {meth : Method} {c : Code} {b L : Nat} {xs : Nat → Int32} {D : va_G} {cy : Nat → ClassId} (C : k_LC p s m c b L xs D cy) (Q : State → Prop) (h0 gma sna hia ka ora cha tra ena opa foa ac tr5 : Nat) (gm : k_G8) (sn : k_G8) (hs : Int32) (qs : k_Q4) (k0 : k_G8) (k1 : k_G8) (k2 : k_G8) (k3 : k_G8) (ch : Nat → Int32) (o : k_O5) (tr : k_G8) (es : Int32) (op : Nat → Int32) (fo : Nat → Int32) (has : Int32) (rc : Nat → Int32) (rt : Nat → Int32) (r : Int32) (hf : f_L_law xs L gm hs qs k0 k1 k2 k3 es op fo rc rt = some r) (CX SX cells slots : Nat) (hcx : CX ≤ room_1.cells) (hsx : SX ≤ room_1.slots) (hcc : cells + 41458 ≤ CX) (hss : slots + 252664 ≤ SX) (ls : Array Slot) (H : Heap) (locs : List Loc) (hl : lv_has ls 11 [(3, .ref tr5), (2, .ref ac), (1, .ref h0), (0, .ref b)]) (hP : va_P D vwCl (wX7 cy h0 gma sna hia ka ora cha tra ena opa foa gm sn hs qs k0 k1 k2 k3 ch o tr es op fo has ++ [wR cy 0 12 ac rc, wR cy 0 5 tr5 rt]) H) (hD : va_D (k_A s) (wX7 cy h0 gma sna hia ka ora cha tra ena opa foa gm sn hs qs k0 k1 k2 k3 ch o tr es op fo has ++ [wR cy 0 12 ac rc, wR cy 0 5 tr5 rt])) (hS : va_S (k_A s) s.heap H locs) (kk : ∀ (ls : Array Slot) (H : Heap) (locs : List Loc), ls.size = 11 → va_S (k_A s) s.heap H locs → W p l e room_1 s m #[Value.ref b] below meth c H locs CX SX Q (F0 m 500 ls [.int r])) : W p l e room_1 s m #[Value.ref b] below meth c H locs cells slots Q (F0 m 17 ls []) := by
  obtain ⟨hx, hb, hml, hown, hts, hX, hbl, hK, hN, hT, hZ, hCx⟩ := C
  have hA : ∀ q : Nat, s.heap.size ≤ q → k_A s q := fun _ h9 => h9
  unfold f_L_law at hf
  refine lv_iconst (v := 0) hx hb dL_law_17 (by decide) ?_
  refine lv_istore (lv' := [(4, .int 0), (3, .ref tr5), (2, .ref ac), (1, .ref h0), (0, .ref b)]) hx hb dL_law_18 hl (by decide) rfl (fun ls hl => ?_)
  refine lv_iconst (v := 0) hx hb dL_law_20 (by decide) ?_
  refine lv_istore (lv' := [(5, .int 0), (4, .int 0), (3, .ref tr5), (2, .ref ac), (1, .ref h0), (0, .ref b)]) hx hb dL_law_21 hl (by decide) rfl (fun ls hl => ?_)
  have L23 : ∀ (Q : State → Prop) (n : Nat) (b4 : Int32) (gm : k_G8) (sn : k_G8) (hs : Int32) (qs : k_Q4) (k0 : k_G8) (k1 : k_G8) (k2 : k_G8) (k3 : k_G8) (ch : Nat → Int32) (o : k_O5) (tr : k_G8) (es : Int32) (op : Nat → Int32) (fo : Nat → Int32) (has : Int32) (rt : Nat → Int32) (s23 : Int32 × (Nat → Int32)) (q : Int32 × (Nat → Int32)), k_loop (t_L_law_23 xs L b4) n s23 = some q → ∀ (CX SX cells slots : Nat), CX ≤ room_1.cells → SX ≤ room_1.slots → cells + n * 0 ≤ CX → slots + n * 0 ≤ SX → ∀ (ls : Array Slot) (H : Heap) (locs : List Loc), lv_has ls 11 [(0, .ref b), (1, .ref h0), (2, .ref ac), (3, .ref tr5), (4, .int b4), (5, .int s23.1)] → va_P D vwCl (wX7 cy h0 gma sna hia ka ora cha tra ena opa foa gm sn hs qs k0 k1 k2 k3 ch o tr es op fo has ++ [wR cy 0 12 ac s23.2, wR cy 0 5 tr5 rt]) H → va_D (k_A s) (wX7 cy h0 gma sna hia ka ora cha tra ena opa foa gm sn hs qs k0 k1 k2 k3 ch o tr es op fo has ++ [wR cy 0 12 ac s23.2, wR cy 0 5 tr5 rt]) → va_S (k_A s) s.heap H locs → (∀ (ls : Array Slot) (H : Heap) (locs : List Loc), lv_has ls 11 [(0, .ref b), (1, .ref h0), (2, .ref ac), (3, .ref tr5), (4, .int b4)] → va_P D vwCl (wX7 cy h0 gma sna hia ka ora cha tra ena opa foa gm sn hs qs k0 k1 k2 k3 ch o tr es op fo has ++ [wR cy 0 12 ac q.2, wR cy 0 5 tr5 rt]) H → va_D (k_A s) (wX7 cy h0 gma sna hia ka ora cha tra ena opa foa gm sn hs qs k0 k1 k2 k3 ch o tr es op fo has ++ [wR cy 0 12 ac q.2, wR cy 0 5 tr5 rt]) → va_S (k_A s) s.heap H locs → W p l e room_1 s m #[Value.ref b] below meth c H locs CX SX Q (F0 m 41 ls [])) → W p l e room_1 s m #[Value.ref b] below meth c H locs cells slots Q (F0 m 23 ls []) := by
    intro Q n
    induction n with
    | zero =>
      intro b4 gm sn hs qs k0 k1 k2 k3 ch o tr es op fo has rt s23 q hq
      exact (k_loop0 hq).elim
    | succ n ih =>
      intro b4 gm sn hs qs k0 k1 k2 k3 ch o tr es op fo has rt s23 q hq CX SX cells slots hcx hsx hcc hss ls H locs hl hP hD hS kx
      obtain ⟨x, hf, hq⟩ := k_loopE hq
      unfold t_L_law_23 at hf
      refine lv_iload hx hb dL_law_23 (lv_at hl 5 rfl) ?_
      refine lv_bipush (v := 12) hx hb dL_law_25 (by decide) ?_
      refine lv_icmp_ge (tgt := 41) hx hb dL_law_27 (by decide) (fun c1 => ?_) (fun c1 => ?_)
      · have hf := k_T c1 hf
        refine W.widen (k := CX) (n := SX) (by omega) (by omega) ?_
        obtain rfl := k_some hf
        obtain rfl := k_some (k_inr hq)
        exact kx ls H locs (lv_sub hl [0, 1, 2, 3, 4] rfl) hP hD hS
      · have hf := k_F c1 hf
        refine lv_aload_n hx hb dL_law_30 rfl (lv_at hl 2 rfl) ?_
        refine lv_iload hx hb dL_law_31 (lv_at hl 5 rfl) ?_
        refine lv_iconst (v := (-1)) hx hb dL_law_33 (by decide) ?_
        obtain ⟨g2, hf⟩ := k_G hf
        refine va_iast hx hb hK hP hD hS 15 0 rfl rfl g2 dL_law_34 (fun H locs hP hD hS => ?_)
        obtain ⟨w3, ew3, hf⟩ := k_L hf
        have hP : va_P D vwCl (wX7 cy h0 gma sna hia ka ora cha tra ena opa foa gm sn hs qs k0 k1 k2 k3 ch o tr es op fo has ++ [wR cy 0 12 ac w3, wR cy 0 5 tr5 rt]) H := by rw [ew3]; exact hP
        have hD : va_D (k_A s) (wX7 cy h0 gma sna hia ka ora cha tra ena opa foa gm sn hs qs k0 k1 k2 k3 ch o tr es op fo has ++ [wR cy 0 12 ac w3, wR cy 0 5 tr5 rt]) := by rw [ew3]; exact hD
        refine lv_iinc (v := s23.1 + 1) (lv' := [(5, .int (s23.1 + 1)), (0, .ref b), (1, .ref h0), (2, .ref ac), (3, .ref tr5), (4, .int b4)]) hx hb dL_law_35 hl (k := 5) rfl rfl (by decide) rfl (fun ls hl => ?_)
        refine lv_goto (tgt := 23) hx hb dL_law_38 (by decide) ?_
        refine W.widen (k := cells + 0) (n := slots + 0) (by omega) (by omega) ?_
        obtain rfl := k_some hf
        exact ih b4 gm sn hs qs k0 k1 k2 k3 ch o tr es op fo has rt (s23.1 + 1, w3) q (k_inl hq) CX SX (cells + 0) (slots + 0) hcx hsx (by omega) (by omega) ls H locs (lv_sub hl [1, 2, 3, 4, 5, 0] rfl) hP hD hS kx
  obtain ⟨x4, hx4, hf⟩ := k_B hf
  refine W.widen (k := (cells + 0)) (n := (slots + 0)) (by omega) (by omega) ?_
  refine L23 _ 1000 0 gm sn hs qs k0 k1 k2 k3 ch o tr es op fo has rt (0, rc) x4 hx4 (cells + 0) (slots + 0) (cells + 0) (slots + 0) (Nat.le_trans (by omega) hcx) (Nat.le_trans (by omega) hsx) (by omega) (by omega) ls H locs (lv_sub hl [5, 4, 3, 2, 1, 0] rfl) hP hD hS ?_
  intro ls H locs hl hP hD hS
  refine lv_iconst (v := 0) hx hb dL_law_41 (by decide) ?_
  refine lv_istore (lv' := [(5, .int 0), (0, .ref b), (1, .ref h0), (2, .ref ac), (3, .ref tr5), (4, .int 0)]) hx hb dL_law_42 hl (by decide) rfl (fun ls hl => ?_)
  have L44 : ∀ (Q : State → Prop) (n : Nat) (sn : k_G8) (ch : Nat → Int32) (o : k_O5) (tr : k_G8) (has : Int32) (s44 : Int32 × Int32 × k_G8 × Int32 × k_Q4 × k_G8 × k_G8 × k_G8 × k_G8 × Int32 × (Nat → Int32) × (Nat → Int32) × (Nat → Int32) × (Nat → Int32)) (q : Int32 × Int32 × k_G8 × Int32 × k_Q4 × k_G8 × k_G8 × k_G8 × k_G8 × Int32 × (Nat → Int32) × (Nat → Int32) × (Nat → Int32) × (Nat → Int32)), k_loop (t_L_law_44 xs L ) n s44 = some q → ∀ (CX SX cells slots : Nat), CX ≤ room_1.cells → SX ≤ room_1.slots → cells + n * 585 ≤ CX → slots + n * 3566 ≤ SX → ∀ (ls : Array Slot) (H : Heap) (locs : List Loc), lv_has ls 11 [(0, .ref b), (1, .ref h0), (2, .ref ac), (3, .ref tr5), (4, .int s44.1), (5, .int s44.2.1)] → va_P D vwCl (wX7 cy h0 gma sna hia ka ora cha tra ena opa foa s44.2.2.1 sn s44.2.2.2.1 s44.2.2.2.2.1 s44.2.2.2.2.2.1 s44.2.2.2.2.2.2.1 s44.2.2.2.2.2.2.2.1 s44.2.2.2.2.2.2.2.2.1 ch o tr s44.2.2.2.2.2.2.2.2.2.1 s44.2.2.2.2.2.2.2.2.2.2.1 s44.2.2.2.2.2.2.2.2.2.2.2.1 has ++ [wR cy 0 12 ac s44.2.2.2.2.2.2.2.2.2.2.2.2.1, wR cy 0 5 tr5 s44.2.2.2.2.2.2.2.2.2.2.2.2.2]) H → va_D (k_A s) (wX7 cy h0 gma sna hia ka ora cha tra ena opa foa s44.2.2.1 sn s44.2.2.2.1 s44.2.2.2.2.1 s44.2.2.2.2.2.1 s44.2.2.2.2.2.2.1 s44.2.2.2.2.2.2.2.1 s44.2.2.2.2.2.2.2.2.1 ch o tr s44.2.2.2.2.2.2.2.2.2.1 s44.2.2.2.2.2.2.2.2.2.2.1 s44.2.2.2.2.2.2.2.2.2.2.2.1 has ++ [wR cy 0 12 ac s44.2.2.2.2.2.2.2.2.2.2.2.2.1, wR cy 0 5 tr5 s44.2.2.2.2.2.2.2.2.2.2.2.2.2]) → va_S (k_A s) s.heap H locs → (∀ (ls : Array Slot) (H : Heap) (locs : List Loc), lv_has ls 11 [(1, .ref h0), (2, .ref ac), (3, .ref tr5), (4, .int q.1)] → va_P D vwCl (wX7 cy h0 gma sna hia ka ora cha tra ena opa foa q.2.2.1 sn q.2.2.2.1 q.2.2.2.2.1 q.2.2.2.2.2.1 q.2.2.2.2.2.2.1 q.2.2.2.2.2.2.2.1 q.2.2.2.2.2.2.2.2.1 ch o tr q.2.2.2.2.2.2.2.2.2.1 q.2.2.2.2.2.2.2.2.2.2.1 q.2.2.2.2.2.2.2.2.2.2.2.1 has ++ [wR cy 0 12 ac q.2.2.2.2.2.2.2.2.2.2.2.2.1, wR cy 0 5 tr5 q.2.2.2.2.2.2.2.2.2.2.2.2.2]) H → va_D (k_A s) (wX7 cy h0 gma sna hia ka ora cha tra ena opa foa q.2.2.1 sn q.2.2.2.1 q.2.2.2.2.1 q.2.2.2.2.2.1 q.2.2.2.2.2.2.1 q.2.2.2.2.2.2.2.1 q.2.2.2.2.2.2.2.2.1 ch o tr q.2.2.2.2.2.2.2.2.2.1 q.2.2.2.2.2.2.2.2.2.2.1 q.2.2.2.2.2.2.2.2.2.2.2.1 has ++ [wR cy 0 12 ac q.2.2.2.2.2.2.2.2.2.2.2.2.1, wR cy 0 5 tr5 q.2.2.2.2.2.2.2.2.2.2.2.2.2]) → va_S (k_A s) s.heap H locs → W p l e room_1 s m #[Value.ref b] below meth c H locs CX SX Q (F0 m 492 ls [])) → W p l e room_1 s m #[Value.ref b] below meth c H locs cells slots Q (F0 m 44 ls []) := by
    intro Q n
    induction n with
    | zero =>
      intro sn ch o tr has s44 q hq
      exact (k_loop0 hq).elim
    | succ n ih =>
      intro sn ch o tr has s44 q hq CX SX cells slots hcx hsx hcc hss ls H locs hl hP hD hS kx
      obtain ⟨x, hf, hq⟩ := k_loopE hq
      unfold t_L_law_44 at hf
      refine lv_iload hx hb dL_law_44 (lv_at hl 5 rfl) ?_
      refine lv_bipush (v := 64) hx hb dL_law_46 (by decide) ?_
      refine lv_icmp_ge (tgt := 492) hx hb dL_law_48 (by decide) (fun c5 => ?_) (fun c5 => ?_)
      · have hf := k_T c5 hf
        refine W.widen (k := CX) (n := SX) (by omega) (by omega) ?_
        obtain rfl := k_some hf
        obtain rfl := k_some (k_inr hq)
        exact kx ls H locs (lv_sub hl [1, 2, 3, 4] rfl) hP hD hS
      · have hf := k_F c5 hf
        refine lv_aload_n hx hb dL_law_51 rfl (lv_at hl 0 rfl) ?_
        refine lv_iload hx hb dL_law_52 (lv_at hl 5 rfl) ?_
        obtain ⟨v6, hv6, hf⟩ := k_B hf
        refine k_callSc (k := s44.2.1) (rest := []) ⟨hx, hb, hml, hown, hts⟩ (c_L_cell l b L xs s44.2.1 v6 hv6) (va_cwS 2 hts gL_law_L_cell rfl rfl rfl hd_L_cell ⟨Nat.le_of_ble_eq_true rfl, Nat.le_of_ble_eq_true rfl⟩) hX hbl hS hl.1 rfl (Nat.le_of_ble_eq_true rfl) dL_law_54 ⟨Nat.le_trans (by omega) hcx, Nat.le_trans (by omega) hsx⟩ ?_
        refine lv_ldc (v := 2147483647) hx hb hown (hts (.constant RL 8 2147483647) (by decide +kernel)) dL_law_57 ?_
        refine lv_iand hx hb dL_law_59 ?_
        obtain ⟨y7, ey7, hf⟩ := k_L hf
        refine k_name ey7 ?_
        refine lv_istore (lv' := [(6, .int y7), (0, .ref b), (1, .ref h0), (2, .ref ac), (3, .ref tr5), (4, .int s44.1), (5, .int s44.2.1)]) hx hb dL_law_60 hl (by decide) rfl (fun ls hl => ?_)
        refine lv_iload hx hb dL_law_62 (lv_at hl 0 rfl) ?_
        refine lv_bipush (v := 31) hx hb dL_law_64 (by decide) ?_
        refine lv_irem hx hb dL_law_66 (by decide) ?_
        obtain ⟨y8, ey8, hf⟩ := k_L hf
        refine k_name ey8 ?_
        refine lv_istore (lv' := [(7, .int y8), (6, .int y7), (0, .ref b), (1, .ref h0), (2, .ref ac), (3, .ref tr5), (4, .int s44.1), (5, .int s44.2.1)]) hx hb dL_law_67 hl (by decide) rfl (fun ls hl => ?_)
        refine lv_iconst (v := 0) hx hb dL_law_69 (by decide) ?_
        refine lv_istore (lv' := [(8, .int 0), (7, .int y8), (6, .int y7), (0, .ref b), (1, .ref h0), (2, .ref ac), (3, .ref tr5), (4, .int s44.1), (5, .int s44.2.1)]) hx hb dL_law_70 hl (by decide) rfl (fun ls hl => ?_)
        have L72 : ∀ (Q : State → Prop) (n : Nat) (b4 : Int32) (b5 : Int32) (b6 : Int32) (gm : k_G8) (sn : k_G8) (hs : Int32) (qs : k_Q4) (k0 : k_G8) (k1 : k_G8) (k2 : k_G8) (k3 : k_G8) (ch : Nat → Int32) (o : k_O5) (tr : k_G8) (es : Int32) (op : Nat → Int32) (fo : Nat → Int32) (has : Int32) (rc : Nat → Int32) (rt : Nat → Int32) (s72 : Int32 × Int32) (q : Int32 × Int32), k_loop (t_L_law_72 xs L b4 b5 b6) n s72 = some q → ∀ (CX SX cells slots : Nat), CX ≤ room_1.cells → SX ≤ room_1.slots → cells + n * 0 ≤ CX → slots + n * 0 ≤ SX → ∀ (ls : Array Slot) (H : Heap) (locs : List Loc), lv_has ls 11 [(0, .ref b), (1, .ref h0), (2, .ref ac), (3, .ref tr5), (4, .int b4), (5, .int b5), (6, .int b6), (7, .int s72.1), (8, .int s72.2)] → va_P D vwCl (wX7 cy h0 gma sna hia ka ora cha tra ena opa foa gm sn hs qs k0 k1 k2 k3 ch o tr es op fo has ++ [wR cy 0 12 ac rc, wR cy 0 5 tr5 rt]) H → va_D (k_A s) (wX7 cy h0 gma sna hia ka ora cha tra ena opa foa gm sn hs qs k0 k1 k2 k3 ch o tr es op fo has ++ [wR cy 0 12 ac rc, wR cy 0 5 tr5 rt]) → va_S (k_A s) s.heap H locs → (∀ (ls : Array Slot) (H : Heap) (locs : List Loc), lv_has ls 11 [(0, .ref b), (1, .ref h0), (2, .ref ac), (3, .ref tr5), (4, .int b4), (5, .int b5), (6, .int b6), (7, .int q.1)] → va_P D vwCl (wX7 cy h0 gma sna hia ka ora cha tra ena opa foa gm sn hs qs k0 k1 k2 k3 ch o tr es op fo has ++ [wR cy 0 12 ac rc, wR cy 0 5 tr5 rt]) H → va_D (k_A s) (wX7 cy h0 gma sna hia ka ora cha tra ena opa foa gm sn hs qs k0 k1 k2 k3 ch o tr es op fo has ++ [wR cy 0 12 ac rc, wR cy 0 5 tr5 rt]) → va_S (k_A s) s.heap H locs → W p l e room_1 s m #[Value.ref b] below meth c H locs CX SX Q (F0 m 123 ls [])) → W p l e room_1 s m #[Value.ref b] below meth c H locs cells slots Q (F0 m 72 ls []) := by
          intro Q n
          induction n with
          | zero =>
            intro b4 b5 b6 gm sn hs qs k0 k1 k2 k3 ch o tr es op fo has rc rt s72 q hq
            exact (k_loop0 hq).elim
          | succ n ih =>
            intro b4 b5 b6 gm sn hs qs k0 k1 k2 k3 ch o tr es op fo has rc rt s72 q hq CX SX cells slots hcx hsx hcc hss ls H locs hl hP hD hS kx
            obtain ⟨x, hf, hq⟩ := k_loopE hq
            unfold t_L_law_72 at hf
            refine lv_iload hx hb dL_law_72 (lv_at hl 8 rfl) ?_
            refine lv_bipush (v := 31) hx hb dL_law_74 (by decide) ?_
            refine lv_icmp_ge (tgt := 123) hx hb dL_law_76 (by decide) (fun c9 => ?_) (fun c9 => ?_)
            · have hf := k_T c9 hf
              refine W.widen (k := CX) (n := SX) (by omega) (by omega) ?_
              obtain rfl := k_some hf
              obtain rfl := k_some (k_inr hq)
              exact kx ls H locs (lv_sub hl [0, 1, 2, 3, 4, 5, 6, 7] rfl) hP hD hS
            · have hf := k_F c9 hf
              refine lv_iload hx hb dL_law_79 (lv_at hl 6 rfl) ?_
              refine lv_iconst (v := 5) hx hb dL_law_81 (by decide) ?_
              refine lv_irem hx hb dL_law_82 (by decide) ?_
              refine lv_if_le (tgt := 123) hx hb dL_law_83 (by decide) (fun c10 => ?_) (fun c10 => ?_)
              · have hf := k_T c10 hf
                refine W.widen (k := CX) (n := SX) (by omega) (by omega) ?_
                obtain rfl := k_some hf
                obtain rfl := k_some (k_inr hq)
                exact kx ls H locs (lv_sub hl [0, 1, 2, 3, 4, 5, 6, 7] rfl) hP hD hS
              · have hf := k_F c10 hf
                refine lv_iload hx hb dL_law_86 (lv_at hl 4 rfl) ?_
                obtain ⟨v11, hv11, hf⟩ := k_B hf
                refine k_callS (As := [.int b4]) (rest := []) ⟨hx, hb, hml, hown, hts⟩ (c_L_count l b4 v11 hv11) (va_cwS 1 hts gL_law_L_count rfl rfl rfl hd_L_count ⟨Nat.le_of_ble_eq_true rfl, Nat.le_of_ble_eq_true rfl⟩) rfl hl.1 rfl (Nat.le_of_ble_eq_true rfl) dL_law_88 ⟨Nat.le_trans (by omega) hcx, Nat.le_trans (by omega) hsx⟩ ?_
                refine lv_bipush (v := 31) hx hb dL_law_91 (by decide) ?_
                refine lv_icmp_ge (tgt := 123) hx hb dL_law_93 (by decide) (fun c12 => ?_) (fun c12 => ?_)
                · have hf := k_T c12 hf
                  refine W.widen (k := CX) (n := SX) (by omega) (by omega) ?_
                  obtain rfl := k_some hf
                  obtain rfl := k_some (k_inr hq)
                  exact kx ls H locs (lv_sub hl [0, 1, 2, 3, 4, 5, 6, 7] rfl) hP hD hS
                · have hf := k_F c12 hf
                  refine lv_iload hx hb dL_law_96 (lv_at hl 4 rfl) ?_
                  refine lv_iload hx hb dL_law_98 (lv_at hl 7 rfl) ?_
                  refine lv_ishr hx hb dL_law_100 ?_
                  refine lv_iconst (v := 1) hx hb dL_law_101 (by decide) ?_
                  refine lv_iand hx hb dL_law_102 ?_
                  refine lv_iconst (v := 1) hx hb dL_law_103 (by decide) ?_
                  refine lv_icmp_ne (tgt := 123) hx hb dL_law_104 (by decide) (fun c13 => ?_) (fun c13 => ?_)
                  · have hf := k_F c13 hf
                    refine W.widen (k := CX) (n := SX) (by omega) (by omega) ?_
                    obtain rfl := k_some hf
                    obtain rfl := k_some (k_inr hq)
                    exact kx ls H locs (lv_sub hl [0, 1, 2, 3, 4, 5, 6, 7] rfl) hP hD hS
                  · have hf := k_T c13 hf
                    refine lv_iload hx hb dL_law_107 (lv_at hl 7 rfl) ?_
                    refine lv_bipush (v := 7) hx hb dL_law_109 (by decide) ?_
                    refine lv_iadd hx hb dL_law_111 ?_
                    refine lv_bipush (v := 31) hx hb dL_law_112 (by decide) ?_
                    refine lv_irem hx hb dL_law_114 (by decide) ?_
                    obtain ⟨y14, ey14, hf⟩ := k_L hf
                    refine k_name ey14 ?_
                    refine lv_istore (lv' := [(7, .int y14), (0, .ref b), (1, .ref h0), (2, .ref ac), (3, .ref tr5), (4, .int b4), (5, .int b5), (6, .int b6), (8, .int s72.2)]) hx hb dL_law_115 hl (by decide) rfl (fun ls hl => ?_)
                    refine lv_iinc (v := s72.2 + 1) (lv' := [(8, .int (s72.2 + 1)), (7, .int y14), (0, .ref b), (1, .ref h0), (2, .ref ac), (3, .ref tr5), (4, .int b4), (5, .int b5), (6, .int b6)]) hx hb dL_law_117 hl (k := 8) rfl rfl (by decide) rfl (fun ls hl => ?_)
                    refine lv_goto (tgt := 72) hx hb dL_law_120 (by decide) ?_
                    refine W.widen (k := cells + 0) (n := slots + 0) (by omega) (by omega) ?_
                    obtain rfl := k_some hf
                    exact ih b4 b5 b6 gm sn hs qs k0 k1 k2 k3 ch o tr es op fo has rc rt (y14, s72.2 + 1) q (k_inl hq) CX SX (cells + 0) (slots + 0) hcx hsx (by omega) (by omega) ls H locs (lv_sub hl [2, 3, 4, 5, 6, 7, 8, 1, 0] rfl) hP hD hS kx
        obtain ⟨x15, hx15, hf⟩ := k_B hf
        refine W.widen (k := (cells + 0)) (n := (slots + 0)) (by omega) (by omega) ?_
        refine L72 _ 1000 s44.1 s44.2.1 y7 s44.2.2.1 sn s44.2.2.2.1 s44.2.2.2.2.1 s44.2.2.2.2.2.1 s44.2.2.2.2.2.2.1 s44.2.2.2.2.2.2.2.1 s44.2.2.2.2.2.2.2.2.1 ch o tr s44.2.2.2.2.2.2.2.2.2.1 s44.2.2.2.2.2.2.2.2.2.2.1 s44.2.2.2.2.2.2.2.2.2.2.2.1 has s44.2.2.2.2.2.2.2.2.2.2.2.2.1 s44.2.2.2.2.2.2.2.2.2.2.2.2.2 (y8, 0) x15 hx15 (cells + 0) (slots + 0) (cells + 0) (slots + 0) (Nat.le_trans (by omega) hcx) (Nat.le_trans (by omega) hsx) (by omega) (by omega) ls H locs (lv_sub hl [3, 4, 5, 6, 7, 8, 2, 1, 0] rfl) hP hD hS ?_
        intro ls H locs hl hP hD hS
        refine lv_iload hx hb dL_law_123 (lv_at hl 4 rfl) ?_
        obtain ⟨v16, hv16, hf⟩ := k_B hf
        refine k_callS (As := [.int s44.1]) (rest := []) ⟨hx, hb, hml, hown, hts⟩ (c_L_count l s44.1 v16 hv16) (va_cwS 1 hts gL_law_L_count rfl rfl rfl hd_L_count ⟨Nat.le_of_ble_eq_true rfl, Nat.le_of_ble_eq_true rfl⟩) rfl hl.1 rfl (Nat.le_of_ble_eq_true rfl) dL_law_125 ⟨Nat.le_trans (by omega) hcx, Nat.le_trans (by omega) hsx⟩ ?_
        refine lv_bipush (v := 31) hx hb dL_law_128 (by decide) ?_
        obtain ⟨j17, hj17, hf⟩ := k_B hf
        refine k_joinH (nL := 11) (J := 419) (D := D) (A := (k_A s)) (H0 := s.heap) (w' := (wX7 cy h0 gma sna hia ka ora cha tra ena opa foa j17.2.1 sn j17.2.2.1 j17.2.2.2.1 j17.2.2.2.2.1 j17.2.2.2.2.2.1 j17.2.2.2.2.2.2.1 j17.2.2.2.2.2.2.2.1 ch o tr s44.2.2.2.2.2.2.2.2.2.1 s44.2.2.2.2.2.2.2.2.2.2.1 s44.2.2.2.2.2.2.2.2.2.2.2.1 has ++ [wR cy 0 12 ac j17.2.2.2.2.2.2.2.2.1, wR cy 0 5 tr5 j17.2.2.2.2.2.2.2.2.2])) (L := [(0, .ref b), (1, .ref h0), (2, .ref ac), (3, .ref tr5), (4, .int j17.1), (5, .int s44.2.1)]) (stk := []) (cells' := (cells + 2)) (slots' := (slots + 12)) (fun ls H locs hl hP hD hS => ?_) (fun kj17 => ?_)
        · refine lv_iload hx hb dL_law_419 (lv_at hl 5 rfl) ?_
          refine lv_iconst (v := 4) hx hb dL_law_421 (by decide) ?_
          refine lv_irem hx hb dL_law_422 (by decide) ?_
          refine lv_iconst (v := 1) hx hb dL_law_423 (by decide) ?_
          obtain ⟨j126, hj126, hf⟩ := k_B hf
          refine k_joinH (nL := 11) (J := 438) (D := D) (A := (k_A s)) (H0 := s.heap) (w' := (wX7 cy h0 gma sna hia ka ora cha tra ena opa foa j17.2.1 sn j17.2.2.1 j17.2.2.2.1 j17.2.2.2.2.1 j17.2.2.2.2.2.1 j17.2.2.2.2.2.2.1 j17.2.2.2.2.2.2.2.1 ch o tr s44.2.2.2.2.2.2.2.2.2.1 s44.2.2.2.2.2.2.2.2.2.2.1 s44.2.2.2.2.2.2.2.2.2.2.2.1 has ++ [wR cy 0 12 ac j17.2.2.2.2.2.2.2.2.1, wR cy 0 5 tr5 j17.2.2.2.2.2.2.2.2.2])) (L := [(0, .ref b), (1, .ref h0), (2, .ref ac), (3, .ref tr5), (4, .int j17.1), (5, .int s44.2.1)]) (stk := []) (cells' := (cells + 510)) (slots' := (slots + 3056)) (fun ls H locs hl hP hD hS => ?_) (fun kj126 => ?_)
          · refine lv_iload hx hb dL_law_438 (lv_at hl 5 rfl) ?_
            refine lv_iconst (v := 5) hx hb dL_law_440 (by decide) ?_
            refine lv_irem hx hb dL_law_441 (by decide) ?_
            refine lv_iconst (v := 2) hx hb dL_law_442 (by decide) ?_
            obtain ⟨j130, hj130, hf⟩ := k_B hf
            refine k_joinH (nL := 11) (J := 455) (D := D) (A := (k_A s)) (H0 := s.heap) (w' := (wX7 cy h0 gma sna hia ka ora cha tra ena opa foa j17.2.1 sn j17.2.2.1 j17.2.2.2.1 j17.2.2.2.2.1 j17.2.2.2.2.2.1 j17.2.2.2.2.2.2.1 j17.2.2.2.2.2.2.2.1 ch o tr s44.2.2.2.2.2.2.2.2.2.1 s44.2.2.2.2.2.2.2.2.2.2.1 s44.2.2.2.2.2.2.2.2.2.2.2.1 has ++ [wR cy 0 12 ac j17.2.2.2.2.2.2.2.2.1, wR cy 0 5 tr5 j17.2.2.2.2.2.2.2.2.2])) (L := [(0, .ref b), (1, .ref h0), (2, .ref ac), (3, .ref tr5), (4, .int j17.1), (5, .int s44.2.1)]) (stk := []) (cells' := (cells + 580)) (slots' := (slots + 3476)) (fun ls H locs hl hP hD hS => ?_) (fun kj130 => ?_)
            · refine lv_iload hx hb dL_law_455 (lv_at hl 5 rfl) ?_
              refine lv_bipush (v := 9) hx hb dL_law_457 (by decide) ?_
              refine lv_irem hx hb dL_law_459 (by decide) ?_
              refine lv_bipush (v := 8) hx hb dL_law_460 (by decide) ?_
              obtain ⟨j134, hj134, hf⟩ := k_B hf
              refine k_joinH (nL := 11) (J := 486) (D := D) (A := (k_A s)) (H0 := s.heap) (w' := (wX7 cy h0 gma sna hia ka ora cha tra ena opa foa j17.2.1 sn j17.2.2.1 j17.2.2.2.1 j17.2.2.2.2.1 j17.2.2.2.2.2.1 j17.2.2.2.2.2.2.1 j17.2.2.2.2.2.2.2.1 ch o tr j134.1 j134.2.1 j134.2.2 has ++ [wR cy 0 12 ac j17.2.2.2.2.2.2.2.2.1, wR cy 0 5 tr5 j17.2.2.2.2.2.2.2.2.2])) (L := [(0, .ref b), (1, .ref h0), (2, .ref ac), (3, .ref tr5), (4, .int j17.1), (5, .int s44.2.1)]) (stk := []) (cells' := (cells + 585)) (slots' := (slots + 3566)) (fun ls H locs hl hP hD hS => ?_) (fun kj134 => ?_)
              · refine lv_iinc (v := s44.2.1 + 1) (lv' := [(5, .int (s44.2.1 + 1)), (0, .ref b), (1, .ref h0), (2, .ref ac), (3, .ref tr5), (4, .int j17.1)]) hx hb dL_law_486 hl (k := 5) rfl rfl (by decide) rfl (fun ls hl => ?_)
                refine lv_goto (tgt := 44) hx hb dL_law_489 (by decide) ?_
                refine W.widen (k := cells + 585) (n := slots + 3566) (by omega) (by omega) ?_
                obtain rfl := k_some hf
                exact ih sn ch o tr has (j17.1, s44.2.1 + 1, j17.2.1, j17.2.2.1, j17.2.2.2.1, j17.2.2.2.2.1, j17.2.2.2.2.2.1, j17.2.2.2.2.2.2.1, j17.2.2.2.2.2.2.2.1, j134.1, j134.2.1, j134.2.2, j17.2.2.2.2.2.2.2.2.1, j17.2.2.2.2.2.2.2.2.2) q (k_inl hq) CX SX (cells + 585) (slots + 3566) hcx hsx (by omega) (by omega) ls H locs (lv_sub hl [1, 2, 3, 4, 5, 0] rfl) hP hD hS kx
              · have hf := hj134
                refine lv_icmp_eq (tgt := 475) hx hb dL_law_462 (by decide) (fun c135 => ?_) (fun c135 => ?_)
                · have hf := k_T c135 hf
                  refine lv_aload_n hx hb dL_law_475 rfl (lv_at hl 1 rfl) ?_
                  refine lv_iload hx hb dL_law_476 (lv_at hl 4 rfl) ?_
                  obtain ⟨v136, hv136, hf⟩ := k_B hf
                  refine k_callL0 (As := [.ref h0, .int j17.1]) (rest := []) (isC := [0, 1, 2, 3, 4, 5, 6, 7, 8, 9, 10, 11, 12, 13, 14]) (isR := [15, 16]) (perm := [2, 3, 4, 5, 6, 7, 8, 9, 10, 11, 12, 13, 14, 15, 16, 0, 1]) (w' := (wX7 cy h0 gma sna hia ka ora cha tra ena opa foa j17.2.1 sn j17.2.2.1 j17.2.2.2.1 j17.2.2.2.2.1 j17.2.2.2.2.2.1 j17.2.2.2.2.2.2.1 j17.2.2.2.2.2.2.2.1 ch o tr v136.2.1 v136.2.2.1 v136.2.2.2 has ++ [wR cy 0 12 ac j17.2.2.2.2.2.2.2.2.1, wR cy 0 5 tr5 j17.2.2.2.2.2.2.2.2.2])) ⟨hx, hb, hml, hown, hts⟩ (c_L_isEnd l hl9 D cy h0 gma sna hia ka ora cha tra ena opa foa j17.2.1 sn j17.2.2.1 j17.2.2.2.1 j17.2.2.2.2.1 j17.2.2.2.2.2.1 j17.2.2.2.2.2.2.1 j17.2.2.2.2.2.2.2.1 ch o tr s44.2.2.2.2.2.2.2.2.2.1 s44.2.2.2.2.2.2.2.2.2.2.1 s44.2.2.2.2.2.2.2.2.2.2.2.1 has j17.1 v136 hv136) (va_cwS 2 hts gL_law_L_isEnd rfl rfl rfl hd_L_isEnd ⟨Nat.le_of_ble_eq_true rfl, Nat.le_of_ble_eq_true rfl⟩) hK hN hT hZ hCx hP hD hS hA rfl rfl rfl (by decide) (by decide) rfl (by decide) rfl hl.1 rfl (Nat.le_of_ble_eq_true rfl) dL_law_478 ⟨Nat.le_trans (by omega) hcx, Nat.le_trans (by omega) hsx⟩ (fun H locs hP hD hS => ?_)
                  refine lv_if_ne (tgt := 486) hx hb dL_law_481 (by decide) (fun c137 => ?_) (fun c137 => ?_)
                  · have hf := k_F c137 hf
                    refine W.widen (k := (cells + 585)) (n := (slots + 3566)) (by omega) (by omega) ?_
                    obtain rfl := k_some hf
                    exact kj134 ls H locs (lv_sub hl [0, 1, 2, 3, 4, 5] rfl) hP hD hS
                  · have hf := k_T c137 hf
                    refine lv_iconst (v := 0) hx hb dL_law_484 (by decide) ?_
                    cases hf
                · have hf := k_F c135 hf
                  refine lv_iload hx hb dL_law_465 (lv_at hl 4 rfl) ?_
                  obtain ⟨v138, hv138, hf⟩ := k_B hf
                  refine k_callS (As := [.int j17.1]) (rest := []) ⟨hx, hb, hml, hown, hts⟩ (c_L_count l j17.1 v138 hv138) (va_cwS 1 hts gL_law_L_count rfl rfl rfl hd_L_count ⟨Nat.le_of_ble_eq_true rfl, Nat.le_of_ble_eq_true rfl⟩) rfl hl.1 rfl (Nat.le_of_ble_eq_true rfl) dL_law_467 ⟨Nat.le_trans (by omega) hcx, Nat.le_trans (by omega) hsx⟩ ?_
                  refine lv_bipush (v := 26) hx hb dL_law_470 (by decide) ?_
                  refine lv_icmp_le (tgt := 486) hx hb dL_law_472 (by decide) (fun c139 => ?_) (fun c139 => ?_)
                  · have hf := k_T c139 hf
                    refine W.widen (k := (cells + 585)) (n := (slots + 3566)) (by omega) (by omega) ?_
                    obtain rfl := k_some hf
                    exact kj134 ls H locs (lv_sub hl [0, 1, 2, 3, 4, 5] rfl) hP hD hS
                  · have hf := k_F c139 hf
                    refine lv_aload_n hx hb dL_law_475 rfl (lv_at hl 1 rfl) ?_
                    refine lv_iload hx hb dL_law_476 (lv_at hl 4 rfl) ?_
                    obtain ⟨v140, hv140, hf⟩ := k_B hf
                    refine k_callL0 (As := [.ref h0, .int j17.1]) (rest := []) (isC := [0, 1, 2, 3, 4, 5, 6, 7, 8, 9, 10, 11, 12, 13, 14]) (isR := [15, 16]) (perm := [2, 3, 4, 5, 6, 7, 8, 9, 10, 11, 12, 13, 14, 15, 16, 0, 1]) (w' := (wX7 cy h0 gma sna hia ka ora cha tra ena opa foa j17.2.1 sn j17.2.2.1 j17.2.2.2.1 j17.2.2.2.2.1 j17.2.2.2.2.2.1 j17.2.2.2.2.2.2.1 j17.2.2.2.2.2.2.2.1 ch o tr v140.2.1 v140.2.2.1 v140.2.2.2 has ++ [wR cy 0 12 ac j17.2.2.2.2.2.2.2.2.1, wR cy 0 5 tr5 j17.2.2.2.2.2.2.2.2.2])) ⟨hx, hb, hml, hown, hts⟩ (c_L_isEnd l hl9 D cy h0 gma sna hia ka ora cha tra ena opa foa j17.2.1 sn j17.2.2.1 j17.2.2.2.1 j17.2.2.2.2.1 j17.2.2.2.2.2.1 j17.2.2.2.2.2.2.1 j17.2.2.2.2.2.2.2.1 ch o tr s44.2.2.2.2.2.2.2.2.2.1 s44.2.2.2.2.2.2.2.2.2.2.1 s44.2.2.2.2.2.2.2.2.2.2.2.1 has j17.1 v140 hv140) (va_cwS 2 hts gL_law_L_isEnd rfl rfl rfl hd_L_isEnd ⟨Nat.le_of_ble_eq_true rfl, Nat.le_of_ble_eq_true rfl⟩) hK hN hT hZ hCx hP hD hS hA rfl rfl rfl (by decide) (by decide) rfl (by decide) rfl hl.1 rfl (Nat.le_of_ble_eq_true rfl) dL_law_478 ⟨Nat.le_trans (by omega) hcx, Nat.le_trans (by omega) hsx⟩ (fun H locs hP hD hS => ?_)
                    refine lv_if_ne (tgt := 486) hx hb dL_law_481 (by decide) (fun c141 => ?_) (fun c141 => ?_)
                    · have hf := k_F c141 hf
                      refine W.widen (k := (cells + 585)) (n := (slots + 3566)) (by omega) (by omega) ?_
                      obtain rfl := k_some hf
                      exact kj134 ls H locs (lv_sub hl [0, 1, 2, 3, 4, 5] rfl) hP hD hS
                    · have hf := k_T c141 hf
                      refine lv_iconst (v := 0) hx hb dL_law_484 (by decide) ?_
                      cases hf
            · have hf := hj130
              refine lv_icmp_ne (tgt := 455) hx hb dL_law_443 (by decide) (fun c131 => ?_) (fun c131 => ?_)
              · have hf := k_F c131 hf
                refine W.widen (k := (cells + 580)) (n := (slots + 3476)) (by omega) (by omega) ?_
                obtain rfl := k_some hf
                exact kj130 ls H locs (lv_sub hl [0, 1, 2, 3, 4, 5] rfl) hP hD hS
              · have hf := k_T c131 hf
                refine lv_aload_n hx hb dL_law_446 rfl (lv_at hl 1 rfl) ?_
                refine lv_iload hx hb dL_law_447 (lv_at hl 4 rfl) ?_
                obtain ⟨v132, hv132, hf⟩ := k_B hf
                refine k_callL0 (As := [.ref h0, .int j17.1]) (rest := []) (isC := [0, 1, 2, 3, 4, 5, 6, 7, 8, 9, 10, 11, 12, 13, 14]) (isR := [15, 16]) (perm := [2, 3, 4, 5, 6, 7, 8, 9, 10, 11, 12, 13, 14, 15, 16, 0, 1]) (w' := (wX7 cy h0 gma sna hia ka ora cha tra ena opa foa j17.2.1 sn j17.2.2.1 j17.2.2.2.1 j17.2.2.2.2.1 j17.2.2.2.2.2.1 j17.2.2.2.2.2.2.1 j17.2.2.2.2.2.2.2.1 ch o tr s44.2.2.2.2.2.2.2.2.2.1 s44.2.2.2.2.2.2.2.2.2.2.1 s44.2.2.2.2.2.2.2.2.2.2.2.1 has ++ [wR cy 0 12 ac j17.2.2.2.2.2.2.2.2.1, wR cy 0 5 tr5 j17.2.2.2.2.2.2.2.2.2])) ⟨hx, hb, hml, hown, hts⟩ (c_L_areChains l hl9 D cy h0 gma sna hia ka ora cha tra ena opa foa j17.2.1 sn j17.2.2.1 j17.2.2.2.1 j17.2.2.2.2.1 j17.2.2.2.2.2.1 j17.2.2.2.2.2.2.1 j17.2.2.2.2.2.2.2.1 ch o tr s44.2.2.2.2.2.2.2.2.2.1 s44.2.2.2.2.2.2.2.2.2.2.1 s44.2.2.2.2.2.2.2.2.2.2.2.1 has j17.1 v132 hv132) (va_cwS 2 hts gL_law_L_areChains rfl rfl rfl hd_L_areChains ⟨Nat.le_of_ble_eq_true rfl, Nat.le_of_ble_eq_true rfl⟩) hK hN hT hZ hCx hP hD hS hA rfl rfl rfl (by decide) (by decide) rfl (by decide) rfl hl.1 rfl (Nat.le_of_ble_eq_true rfl) dL_law_449 ⟨Nat.le_trans (by omega) hcx, Nat.le_trans (by omega) hsx⟩ (fun H locs hP hD hS => ?_)
                refine lv_if_eq (tgt := 484) hx hb dL_law_452 (by decide) (fun c133 => ?_) (fun c133 => ?_)
                · have hf := k_T c133 hf
                  refine lv_iconst (v := 0) hx hb dL_law_484 (by decide) ?_
                  cases hf
                · have hf := k_F c133 hf
                  refine W.widen (k := (cells + 580)) (n := (slots + 3476)) (by omega) (by omega) ?_
                  obtain rfl := k_some hf
                  exact kj130 ls H locs (lv_sub hl [0, 1, 2, 3, 4, 5] rfl) hP hD hS
          · have hf := hj126
            refine lv_icmp_ne (tgt := 438) hx hb dL_law_424 (by decide) (fun c127 => ?_) (fun c127 => ?_)
            · have hf := k_F c127 hf
              refine W.widen (k := (cells + 510)) (n := (slots + 3056)) (by omega) (by omega) ?_
              obtain rfl := k_some hf
              exact kj126 ls H locs (lv_sub hl [0, 1, 2, 3, 4, 5] rfl) hP hD hS
            · have hf := k_T c127 hf
              refine lv_aload_n hx hb dL_law_427 rfl (lv_at hl 1 rfl) ?_
              refine lv_iload hx hb dL_law_428 (lv_at hl 4 rfl) ?_
              refine lv_aload_n hx hb dL_law_430 rfl (lv_at hl 2 rfl) ?_
              refine lv_aload_n hx hb dL_law_431 rfl (lv_at hl 3 rfl) ?_
              obtain ⟨v128, hv128, hf⟩ := k_B hf
              refine k_callL0 (As := [.ref h0, .int j17.1, .ref ac, .ref tr5]) (rest := []) (isC := [0, 1, 2, 3, 4, 5, 6, 7, 8, 9, 10, 11, 12, 13, 14, 15, 16]) (isR := []) (perm := [0, 1, 2, 3, 4, 5, 6, 7, 8, 9, 10, 11, 12, 13, 14, 15, 16]) (w' := (wX7 cy h0 gma sna hia ka ora cha tra ena opa foa j17.2.1 sn j17.2.2.1 j17.2.2.2.1 j17.2.2.2.2.1 j17.2.2.2.2.2.1 j17.2.2.2.2.2.2.1 j17.2.2.2.2.2.2.2.1 ch o tr s44.2.2.2.2.2.2.2.2.2.1 s44.2.2.2.2.2.2.2.2.2.2.1 s44.2.2.2.2.2.2.2.2.2.2.2.1 has ++ [wR cy 0 12 ac j17.2.2.2.2.2.2.2.2.1, wR cy 0 5 tr5 j17.2.2.2.2.2.2.2.2.2])) ⟨hx, hb, hml, hown, hts⟩ (c_L_areFences l hl9 D cy h0 gma sna hia ka ora cha tra ena opa foa ac tr5 j17.2.1 sn j17.2.2.1 j17.2.2.2.1 j17.2.2.2.2.1 j17.2.2.2.2.2.1 j17.2.2.2.2.2.2.1 j17.2.2.2.2.2.2.2.1 ch o tr s44.2.2.2.2.2.2.2.2.2.1 s44.2.2.2.2.2.2.2.2.2.2.1 s44.2.2.2.2.2.2.2.2.2.2.2.1 has j17.2.2.2.2.2.2.2.2.1 j17.2.2.2.2.2.2.2.2.2 j17.1 v128 hv128) (va_cwS 4 hts gL_law_L_areFences rfl rfl rfl hd_L_areFences ⟨Nat.le_of_ble_eq_true rfl, Nat.le_of_ble_eq_true rfl⟩) hK hN hT hZ hCx hP hD hS hA rfl rfl rfl (by decide) (by decide) rfl (by decide) rfl hl.1 rfl (Nat.le_of_ble_eq_true rfl) dL_law_432 ⟨Nat.le_trans (by omega) hcx, Nat.le_trans (by omega) hsx⟩ (fun H locs hP hD hS => ?_)
              refine lv_if_eq (tgt := 484) hx hb dL_law_435 (by decide) (fun c129 => ?_) (fun c129 => ?_)
              · have hf := k_T c129 hf
                refine lv_iconst (v := 0) hx hb dL_law_484 (by decide) ?_
                cases hf
              · have hf := k_F c129 hf
                refine W.widen (k := (cells + 510)) (n := (slots + 3056)) (by omega) (by omega) ?_
                obtain rfl := k_some hf
                exact kj126 ls H locs (lv_sub hl [0, 1, 2, 3, 4, 5] rfl) hP hD hS
        · have hf := hj17
          refine lv_icmp_ne (tgt := 140) hx hb dL_law_130 (by decide) (fun c18 => ?_) (fun c18 => ?_)
          · have hf := k_F c18 hf
            refine lv_iload hx hb dL_law_140 (lv_at hl 6 rfl) ?_
            refine lv_bipush (v := 97) hx hb dL_law_142 (by decide) ?_
            refine lv_irem hx hb dL_law_144 (by decide) ?_
            refine lv_iconst (v := 5) hx hb dL_law_145 (by decide) ?_
            refine lv_icmp_ne (tgt := 194) hx hb dL_law_146 (by decide) (fun c19 => ?_) (fun c19 => ?_)
            · have hf := k_F c19 hf
              refine lv_iload hx hb dL_law_194 (lv_at hl 4 rfl) ?_
              refine lv_iload hx hb dL_law_196 (lv_at hl 7 rfl) ?_
              refine lv_ishr hx hb dL_law_198 ?_
              refine lv_iconst (v := 1) hx hb dL_law_199 (by decide) ?_
              refine lv_iand hx hb dL_law_200 ?_
              refine lv_iconst (v := 1) hx hb dL_law_201 (by decide) ?_
              refine lv_icmp_ne (tgt := 229) hx hb dL_law_202 (by decide) (fun c20 => ?_) (fun c20 => ?_)
              · have hf := k_F c20 hf
                refine lv_iload hx hb dL_law_229 (lv_at hl 4 rfl) ?_
                refine lv_iload hx hb dL_law_231 (lv_at hl 7 rfl) ?_
                obtain ⟨v21, hv21, hf⟩ := k_B hf
                refine k_callS (As := [.int s44.1, .int x15.1]) (rest := []) ⟨hx, hb, hml, hown, hts⟩ (c_L_close l s44.1 x15.1 v21 hv21) (va_cwS 2 hts gL_law_L_close rfl rfl rfl hd_L_close ⟨Nat.le_of_ble_eq_true rfl, Nat.le_of_ble_eq_true rfl⟩) rfl hl.1 rfl (Nat.le_of_ble_eq_true rfl) dL_law_233 ⟨Nat.le_trans (by omega) hcx, Nat.le_trans (by omega) hsx⟩ ?_
                refine lv_istore (lv' := [(8, .int v21), (0, .ref b), (1, .ref h0), (2, .ref ac), (3, .ref tr5), (4, .int s44.1), (5, .int s44.2.1), (6, .int y7), (7, .int x15.1)]) hx hb dL_law_236 hl (by decide) rfl (fun ls hl => ?_)
                refine lv_iload hx hb dL_law_238 (lv_at hl 5 rfl) ?_
                refine lv_iconst (v := 1) hx hb dL_law_240 (by decide) ?_
                refine lv_iload hx hb dL_law_241 (lv_at hl 8 rfl) ?_
                refine lv_ishl hx hb dL_law_243 ?_
                refine lv_ior hx hb dL_law_244 ?_
                obtain ⟨y22, ey22, hf⟩ := k_L hf
                refine k_name ey22 ?_
                refine lv_istore (lv' := [(4, .int y22), (8, .int v21), (0, .ref b), (1, .ref h0), (2, .ref ac), (3, .ref tr5), (5, .int s44.2.1), (6, .int y7), (7, .int x15.1)]) hx hb dL_law_245 hl (by decide) rfl (fun ls hl => ?_)
                refine lv_iconst (v := 0) hx hb dL_law_247 (by decide) ?_
                refine lv_istore (lv' := [(9, .int 0), (4, .int y22), (8, .int v21), (0, .ref b), (1, .ref h0), (2, .ref ac), (3, .ref tr5), (5, .int s44.2.1), (6, .int y7), (7, .int x15.1)]) hx hb dL_law_248 hl (by decide) rfl (fun ls hl => ?_)
                have L250 : ∀ (Q : State → Prop) (n : Nat) (b4 : Int32) (b5 : Int32) (b7 : Int32) (b8 : Int32) (gm : k_G8) (sn : k_G8) (hs : Int32) (qs : k_Q4) (k0 : k_G8) (k1 : k_G8) (k2 : k_G8) (k3 : k_G8) (ch : Nat → Int32) (o : k_O5) (tr : k_G8) (es : Int32) (op : Nat → Int32) (fo : Nat → Int32) (has : Int32) (rt : Nat → Int32) (s250 : Int32 × (Nat → Int32)) (q : Int32 × (Nat → Int32)), k_loop (t_L_law_250 xs L b4 b5 b7 b8 rt) n s250 = some q → ∀ (CX SX cells slots : Nat), CX ≤ room_1.cells → SX ≤ room_1.slots → cells + n * 0 ≤ CX → slots + n * 0 ≤ SX → ∀ (ls : Array Slot) (H : Heap) (locs : List Loc), lv_has ls 11 [(0, .ref b), (1, .ref h0), (2, .ref ac), (3, .ref tr5), (4, .int b4), (5, .int b5), (7, .int b7), (8, .int b8), (9, .int s250.1)] → va_P D vwCl (wX7 cy h0 gma sna hia ka ora cha tra ena opa foa gm sn hs qs k0 k1 k2 k3 ch o tr es op fo has ++ [wR cy 0 12 ac s250.2, wR cy 0 5 tr5 rt]) H → va_D (k_A s) (wX7 cy h0 gma sna hia ka ora cha tra ena opa foa gm sn hs qs k0 k1 k2 k3 ch o tr es op fo has ++ [wR cy 0 12 ac s250.2, wR cy 0 5 tr5 rt]) → va_S (k_A s) s.heap H locs → (∀ (ls : Array Slot) (H : Heap) (locs : List Loc), lv_has ls 11 [(0, .ref b), (1, .ref h0), (2, .ref ac), (3, .ref tr5), (4, .int b4), (5, .int b5), (7, .int b7), (8, .int b8)] → va_P D vwCl (wX7 cy h0 gma sna hia ka ora cha tra ena opa foa gm sn hs qs k0 k1 k2 k3 ch o tr es op fo has ++ [wR cy 0 12 ac q.2, wR cy 0 5 tr5 rt]) H → va_D (k_A s) (wX7 cy h0 gma sna hia ka ora cha tra ena opa foa gm sn hs qs k0 k1 k2 k3 ch o tr es op fo has ++ [wR cy 0 12 ac q.2, wR cy 0 5 tr5 rt]) → va_S (k_A s) s.heap H locs → W p l e room_1 s m #[Value.ref b] below meth c H locs CX SX Q (F0 m 299 ls [])) → W p l e room_1 s m #[Value.ref b] below meth c H locs cells slots Q (F0 m 250 ls []) := by
                  intro Q n
                  induction n with
                  | zero =>
                    intro b4 b5 b7 b8 gm sn hs qs k0 k1 k2 k3 ch o tr es op fo has rt s250 q hq
                    exact (k_loop0 hq).elim
                  | succ n ih =>
                    intro b4 b5 b7 b8 gm sn hs qs k0 k1 k2 k3 ch o tr es op fo has rt s250 q hq CX SX cells slots hcx hsx hcc hss ls H locs hl hP hD hS kx
                    obtain ⟨x, hf, hq⟩ := k_loopE hq
                    unfold t_L_law_250 at hf
                    refine lv_iload hx hb dL_law_250 (lv_at hl 8 rfl) ?_
                    refine lv_iconst (v := 2) hx hb dL_law_252 (by decide) ?_
                    refine lv_icmp_ge (tgt := 299) hx hb dL_law_253 (by decide) (fun c23 => ?_) (fun c23 => ?_)
                    · have hf := k_T c23 hf
                      refine W.widen (k := CX) (n := SX) (by omega) (by omega) ?_
                      obtain rfl := k_some hf
                      obtain rfl := k_some (k_inr hq)
                      exact kx ls H locs (lv_sub hl [0, 1, 2, 3, 4, 5, 6, 7] rfl) hP hD hS
                    · have hf := k_F c23 hf
                      refine lv_iload hx hb dL_law_256 (lv_at hl 7 rfl) ?_
                      refine lv_if_le (tgt := 299) hx hb dL_law_258 (by decide) (fun c24 => ?_) (fun c24 => ?_)
                      · have hf := k_T c24 hf
                        refine W.widen (k := CX) (n := SX) (by omega) (by omega) ?_
                        obtain rfl := k_some hf
                        obtain rfl := k_some (k_inr hq)
                        exact kx ls H locs (lv_sub hl [0, 1, 2, 3, 4, 5, 6, 7] rfl) hP hD hS
                      · have hf := k_F c24 hf
                        refine lv_iload hx hb dL_law_261 (lv_at hl 6 rfl) ?_
                        refine lv_iload hx hb dL_law_263 (lv_at hl 8 rfl) ?_
                        obtain ⟨v25, hv25, hf⟩ := k_B hf
                        refine k_callS (As := [.int b7, .int s250.1]) (rest := []) ⟨hx, hb, hml, hown, hts⟩ (c_L_beside l b7 s250.1 v25 hv25) (va_cwS 2 hts gL_law_L_beside rfl rfl rfl hd_L_beside ⟨Nat.le_of_ble_eq_true rfl, Nat.le_of_ble_eq_true rfl⟩) rfl hl.1 rfl (Nat.le_of_ble_eq_true rfl) dL_law_265 ⟨Nat.le_trans (by omega) hcx, Nat.le_trans (by omega) hsx⟩ ?_
                        refine lv_istore (lv' := [(10, .int v25), (0, .ref b), (1, .ref h0), (2, .ref ac), (3, .ref tr5), (4, .int b4), (5, .int b5), (7, .int b7), (8, .int b8), (9, .int s250.1)]) hx hb dL_law_268 hl (by decide) rfl (fun ls hl => ?_)
                        refine lv_iload hx hb dL_law_270 (lv_at hl 0 rfl) ?_
                        obtain ⟨j26, hj26, hf⟩ := k_B hf
                        refine k_joinH (nL := 11) (J := 293) (D := D) (A := (k_A s)) (H0 := s.heap) (w' := (wX7 cy h0 gma sna hia ka ora cha tra ena opa foa gm sn hs qs k0 k1 k2 k3 ch o tr es op fo has ++ [wR cy 0 12 ac j26, wR cy 0 5 tr5 rt])) (L := [(0, .ref b), (1, .ref h0), (2, .ref ac), (3, .ref tr5), (4, .int b4), (5, .int b5), (7, .int b7), (8, .int b8), (9, .int s250.1)]) (stk := []) (cells' := (cells + 0)) (slots' := (slots + 0)) (fun ls H locs hl hP hD hS => ?_) (fun kj26 => ?_)
                        · refine lv_iinc (v := s250.1 + 1) (lv' := [(9, .int (s250.1 + 1)), (0, .ref b), (1, .ref h0), (2, .ref ac), (3, .ref tr5), (4, .int b4), (5, .int b5), (7, .int b7), (8, .int b8)]) hx hb dL_law_293 hl (k := 8) rfl rfl (by decide) rfl (fun ls hl => ?_)
                          refine lv_goto (tgt := 250) hx hb dL_law_296 (by decide) ?_
                          refine W.widen (k := cells + 0) (n := slots + 0) (by omega) (by omega) ?_
                          obtain rfl := k_some hf
                          exact ih b4 b5 b7 b8 gm sn hs qs k0 k1 k2 k3 ch o tr es op fo has rt (s250.1 + 1, j26) q (k_inl hq) CX SX (cells + 0) (slots + 0) hcx hsx (by omega) (by omega) ls H locs (lv_sub hl [1, 2, 3, 4, 5, 6, 7, 8, 0] rfl) hP hD hS kx
                        · have hf := hj26
                          refine lv_if_lt (tgt := 293) hx hb dL_law_272 (by decide) (fun c27 => ?_) (fun c27 => ?_)
                          · have hf := k_T c27 hf
                            refine W.widen (k := (cells + 0)) (n := (slots + 0)) (by omega) (by omega) ?_
                            obtain rfl := k_some hf
                            exact kj26 ls H locs (lv_sub hl [1, 2, 3, 4, 5, 6, 7, 8, 9] rfl) hP hD hS
                          · have hf := k_F c27 hf
                            refine lv_iload hx hb dL_law_275 (lv_at hl 5 rfl) ?_
                            refine lv_iload hx hb dL_law_277 (lv_at hl 0 rfl) ?_
                            obtain ⟨v28, hv28, hf⟩ := k_B hf
                            refine k_callS (As := [.int b4, .int v25]) (rest := []) ⟨hx, hb, hml, hown, hts⟩ (c_L_has l b4 v25 v28 hv28) (va_cwS 2 hts gL_law_L_has rfl rfl rfl hd_L_has ⟨Nat.le_of_ble_eq_true rfl, Nat.le_of_ble_eq_true rfl⟩) rfl hl.1 rfl (Nat.le_of_ble_eq_true rfl) dL_law_279 ⟨Nat.le_trans (by omega) hcx, Nat.le_trans (by omega) hsx⟩ ?_
                            refine lv_iconst (v := 4) hx hb dL_law_282 (by decide) ?_
                            refine lv_icmp_ne (tgt := 293) hx hb dL_law_283 (by decide) (fun c29 => ?_) (fun c29 => ?_)
                            · have hf := k_F c29 hf
                              refine W.widen (k := (cells + 0)) (n := (slots + 0)) (by omega) (by omega) ?_
                              obtain rfl := k_some hf
                              exact kj26 ls H locs (lv_sub hl [1, 2, 3, 4, 5, 6, 7, 8, 9] rfl) hP hD hS
                            · have hf := k_T c29 hf
                              refine lv_aload_n hx hb dL_law_286 rfl (lv_at hl 3 rfl) ?_
                              refine lv_iload hx hb dL_law_287 (lv_at hl 0 rfl) ?_
                              refine lv_aload_n hx hb dL_law_289 rfl (lv_at hl 4 rfl) ?_
                              refine lv_iconst (v := 0) hx hb dL_law_290 (by decide) ?_
                              refine va_iald hx hb hK hP 16 0 rfl rfl (k_in (i := 0) (n := 5) (by decide +kernel)) dL_law_291 ?_
                              refine k_name (v := rt 0) rfl ?_
                              obtain ⟨g30, hf⟩ := k_G hf
                              refine va_iast hx hb hK hP hD hS 15 0 rfl rfl g30 dL_law_292 (fun H locs hP hD hS => ?_)
                              obtain ⟨w31, ew31, hf⟩ := k_L hf
                              have hP : va_P D vwCl (wX7 cy h0 gma sna hia ka ora cha tra ena opa foa gm sn hs qs k0 k1 k2 k3 ch o tr es op fo has ++ [wR cy 0 12 ac w31, wR cy 0 5 tr5 rt]) H := by rw [ew31]; exact hP
                              have hD : va_D (k_A s) (wX7 cy h0 gma sna hia ka ora cha tra ena opa foa gm sn hs qs k0 k1 k2 k3 ch o tr es op fo has ++ [wR cy 0 12 ac w31, wR cy 0 5 tr5 rt]) := by rw [ew31]; exact hD
                              refine W.widen (k := (cells + 0)) (n := (slots + 0)) (by omega) (by omega) ?_
                              obtain rfl := k_some hf
                              exact kj26 ls H locs (lv_sub hl [1, 2, 3, 4, 5, 6, 7, 8, 9] rfl) hP hD hS
                obtain ⟨x32, hx32, hf⟩ := k_B hf
                refine W.widen (k := (cells + 0)) (n := (slots + 0)) (by omega) (by omega) ?_
                refine L250 _ 1000 y22 s44.2.1 x15.1 v21 s44.2.2.1 sn s44.2.2.2.1 s44.2.2.2.2.1 s44.2.2.2.2.2.1 s44.2.2.2.2.2.2.1 s44.2.2.2.2.2.2.2.1 s44.2.2.2.2.2.2.2.2.1 ch o tr s44.2.2.2.2.2.2.2.2.2.1 s44.2.2.2.2.2.2.2.2.2.2.1 s44.2.2.2.2.2.2.2.2.2.2.2.1 has s44.2.2.2.2.2.2.2.2.2.2.2.2.2 (0, s44.2.2.2.2.2.2.2.2.2.2.2.2.1) x32 hx32 (cells + 0) (slots + 0) (cells + 0) (slots + 0) (Nat.le_trans (by omega) hcx) (Nat.le_trans (by omega) hsx) (by omega) (by omega) ls H locs (lv_sub hl [3, 4, 5, 6, 1, 7, 9, 2, 0] rfl) hP hD hS ?_
                intro ls H locs hl hP hD hS
                refine lv_aload_n hx hb dL_law_299 rfl (lv_at hl 3 rfl) ?_
                refine lv_iconst (v := 0) hx hb dL_law_300 (by decide) ?_
                refine lv_iload hx hb dL_law_301 (lv_at hl 7 rfl) ?_
                obtain ⟨j33, hj33, hf⟩ := k_B hf
                refine k_joinH (nL := 11) (J := 317) (D := D) (A := (k_A s)) (H0 := s.heap) (w' := (wX7 cy h0 gma sna hia ka ora cha tra ena opa foa s44.2.2.1 sn s44.2.2.2.1 s44.2.2.2.2.1 s44.2.2.2.2.2.1 s44.2.2.2.2.2.2.1 s44.2.2.2.2.2.2.2.1 s44.2.2.2.2.2.2.2.2.1 ch o tr s44.2.2.2.2.2.2.2.2.2.1 s44.2.2.2.2.2.2.2.2.2.2.1 s44.2.2.2.2.2.2.2.2.2.2.2.1 has ++ [wR cy 0 12 ac x32.2, wR cy 0 5 tr5 s44.2.2.2.2.2.2.2.2.2.2.2.2.2])) (L := [(0, .ref b), (1, .ref h0), (2, .ref ac), (3, .ref tr5), (4, .int y22), (5, .int s44.2.1), (7, .int x15.1), (8, .int v21)]) (stk := [.int j33, .int 0, .ref tr5]) (cells' := (cells + 0)) (slots' := (slots + 0)) (fun ls H locs hl hP hD hS => ?_) (fun kj33 => ?_)
                · refine va_iast hx hb hK hP hD hS 16 0 rfl rfl (k_in (i := 0) (n := 5) (by decide +kernel)) dL_law_317 (fun H locs hP hD hS => ?_)
                  obtain ⟨w35, ew35, hf⟩ := k_L hf
                  have hP : va_P D vwCl (wX7 cy h0 gma sna hia ka ora cha tra ena opa foa s44.2.2.1 sn s44.2.2.2.1 s44.2.2.2.2.1 s44.2.2.2.2.2.1 s44.2.2.2.2.2.2.1 s44.2.2.2.2.2.2.2.1 s44.2.2.2.2.2.2.2.2.1 ch o tr s44.2.2.2.2.2.2.2.2.2.1 s44.2.2.2.2.2.2.2.2.2.2.1 s44.2.2.2.2.2.2.2.2.2.2.2.1 has ++ [wR cy 0 12 ac x32.2, wR cy 0 5 tr5 w35]) H := by rw [ew35]; exact hP
                  have hD : va_D (k_A s) (wX7 cy h0 gma sna hia ka ora cha tra ena opa foa s44.2.2.1 sn s44.2.2.2.1 s44.2.2.2.2.1 s44.2.2.2.2.2.1 s44.2.2.2.2.2.2.1 s44.2.2.2.2.2.2.2.1 s44.2.2.2.2.2.2.2.2.1 ch o tr s44.2.2.2.2.2.2.2.2.2.1 s44.2.2.2.2.2.2.2.2.2.2.1 s44.2.2.2.2.2.2.2.2.2.2.2.1 has ++ [wR cy 0 12 ac x32.2, wR cy 0 5 tr5 w35]) := by rw [ew35]; exact hD
                  refine lv_aload_n hx hb dL_law_318 rfl (lv_at hl 3 rfl) ?_
                  refine lv_iconst (v := 4) hx hb dL_law_319 (by decide) ?_
                  refine lv_dup2_11 hx hb dL_law_320 rfl rfl ?_
                  refine va_iald hx hb hK hP 16 0 rfl rfl (k_in (i := 4) (n := 5) (by decide +kernel)) dL_law_321 ?_
                  refine k_name (v := w35 4) rfl ?_
                  refine lv_iload hx hb dL_law_322 (lv_at hl 7 rfl) ?_
                  refine lv_iconst (v := 2) hx hb dL_law_324 (by decide) ?_
                  obtain ⟨j36, hj36, hf⟩ := k_B hf
                  refine k_joinH (nL := 11) (J := 333) (D := D) (A := (k_A s)) (H0 := s.heap) (w' := (wX7 cy h0 gma sna hia ka ora cha tra ena opa foa s44.2.2.1 sn s44.2.2.2.1 s44.2.2.2.2.1 s44.2.2.2.2.2.1 s44.2.2.2.2.2.2.1 s44.2.2.2.2.2.2.2.1 s44.2.2.2.2.2.2.2.2.1 ch o tr s44.2.2.2.2.2.2.2.2.2.1 s44.2.2.2.2.2.2.2.2.2.2.1 s44.2.2.2.2.2.2.2.2.2.2.2.1 has ++ [wR cy 0 12 ac x32.2, wR cy 0 5 tr5 w35])) (L := [(0, .ref b), (1, .ref h0), (2, .ref ac), (3, .ref tr5), (4, .int y22), (5, .int s44.2.1), (7, .int x15.1), (8, .int v21)]) (stk := [.int j36, .int (w35 4), .int 4, .ref tr5]) (cells' := (cells + 0)) (slots' := (slots + 0)) (fun ls H locs hl hP hD hS => ?_) (fun kj36 => ?_)
                  · refine lv_iadd hx hb dL_law_333 ?_
                    refine va_iast hx hb hK hP hD hS 16 0 rfl rfl (k_in (i := 4) (n := 5) (by decide +kernel)) dL_law_334 (fun H locs hP hD hS => ?_)
                    obtain ⟨w38, ew38, hf⟩ := k_L hf
                    have hP : va_P D vwCl (wX7 cy h0 gma sna hia ka ora cha tra ena opa foa s44.2.2.1 sn s44.2.2.2.1 s44.2.2.2.2.1 s44.2.2.2.2.2.1 s44.2.2.2.2.2.2.1 s44.2.2.2.2.2.2.2.1 s44.2.2.2.2.2.2.2.2.1 ch o tr s44.2.2.2.2.2.2.2.2.2.1 s44.2.2.2.2.2.2.2.2.2.2.1 s44.2.2.2.2.2.2.2.2.2.2.2.1 has ++ [wR cy 0 12 ac x32.2, wR cy 0 5 tr5 w38]) H := by rw [ew38]; exact hP
                    have hD : va_D (k_A s) (wX7 cy h0 gma sna hia ka ora cha tra ena opa foa s44.2.2.1 sn s44.2.2.2.1 s44.2.2.2.2.1 s44.2.2.2.2.2.1 s44.2.2.2.2.2.2.1 s44.2.2.2.2.2.2.2.1 s44.2.2.2.2.2.2.2.2.1 ch o tr s44.2.2.2.2.2.2.2.2.2.1 s44.2.2.2.2.2.2.2.2.2.2.1 s44.2.2.2.2.2.2.2.2.2.2.2.1 has ++ [wR cy 0 12 ac x32.2, wR cy 0 5 tr5 w38]) := by rw [ew38]; exact hD
                    refine lv_iconst (v := 0) hx hb dL_law_335 (by decide) ?_
                    refine lv_istore (lv' := [(9, .int 0), (0, .ref b), (1, .ref h0), (2, .ref ac), (3, .ref tr5), (4, .int y22), (5, .int s44.2.1), (7, .int x15.1), (8, .int v21)]) hx hb dL_law_336 hl (by decide) rfl (fun ls hl => ?_)
                    refine lv_iconst (v := 0) hx hb dL_law_338 (by decide) ?_
                    refine lv_istore (lv' := [(10, .int 0), (9, .int 0), (0, .ref b), (1, .ref h0), (2, .ref ac), (3, .ref tr5), (4, .int y22), (5, .int s44.2.1), (7, .int x15.1), (8, .int v21)]) hx hb dL_law_339 hl (by decide) rfl (fun ls hl => ?_)
                    have L341 : ∀ (Q : State → Prop) (n : Nat) (b4 : Int32) (b5 : Int32) (b7 : Int32) (b8 : Int32) (gm : k_G8) (sn : k_G8) (hs : Int32) (qs : k_Q4) (k0 : k_G8) (k1 : k_G8) (k2 : k_G8) (k3 : k_G8) (ch : Nat → Int32) (o : k_O5) (tr : k_G8) (es : Int32) (op : Nat → Int32) (fo : Nat → Int32) (has : Int32) (rc : Nat → Int32) (rt : Nat → Int32) (s341 : Int32 × Int32) (q : Int32 × Int32), k_loop (t_L_law_341 xs L b4 b5 b7 b8 rc) n s341 = some q → ∀ (CX SX cells slots : Nat), CX ≤ room_1.cells → SX ≤ room_1.slots → cells + n * 0 ≤ CX → slots + n * 0 ≤ SX → ∀ (ls : Array Slot) (H : Heap) (locs : List Loc), lv_has ls 11 [(0, .ref b), (1, .ref h0), (2, .ref ac), (3, .ref tr5), (4, .int b4), (5, .int b5), (7, .int b7), (8, .int b8), (9, .int s341.1), (10, .int s341.2)] → va_P D vwCl (wX7 cy h0 gma sna hia ka ora cha tra ena opa foa gm sn hs qs k0 k1 k2 k3 ch o tr es op fo has ++ [wR cy 0 12 ac rc, wR cy 0 5 tr5 rt]) H → va_D (k_A s) (wX7 cy h0 gma sna hia ka ora cha tra ena opa foa gm sn hs qs k0 k1 k2 k3 ch o tr es op fo has ++ [wR cy 0 12 ac rc, wR cy 0 5 tr5 rt]) → va_S (k_A s) s.heap H locs → (∀ (ls : Array Slot) (H : Heap) (locs : List Loc), lv_has ls 11 [(0, .ref b), (1, .ref h0), (2, .ref ac), (3, .ref tr5), (4, .int b4), (5, .int b5), (7, .int b7), (8, .int b8), (9, .int q.1)] → va_P D vwCl (wX7 cy h0 gma sna hia ka ora cha tra ena opa foa gm sn hs qs k0 k1 k2 k3 ch o tr es op fo has ++ [wR cy 0 12 ac rc, wR cy 0 5 tr5 rt]) H → va_D (k_A s) (wX7 cy h0 gma sna hia ka ora cha tra ena opa foa gm sn hs qs k0 k1 k2 k3 ch o tr es op fo has ++ [wR cy 0 12 ac rc, wR cy 0 5 tr5 rt]) → va_S (k_A s) s.heap H locs → W p l e room_1 s m #[Value.ref b] below meth c H locs CX SX Q (F0 m 371 ls [])) → W p l e room_1 s m #[Value.ref b] below meth c H locs cells slots Q (F0 m 341 ls []) := by
                      intro Q n
                      induction n with
                      | zero =>
                        intro b4 b5 b7 b8 gm sn hs qs k0 k1 k2 k3 ch o tr es op fo has rc rt s341 q hq
                        exact (k_loop0 hq).elim
                      | succ n ih =>
                        intro b4 b5 b7 b8 gm sn hs qs k0 k1 k2 k3 ch o tr es op fo has rc rt s341 q hq CX SX cells slots hcx hsx hcc hss ls H locs hl hP hD hS kx
                        obtain ⟨x, hf, hq⟩ := k_loopE hq
                        unfold t_L_law_341 at hf
                        refine lv_iload hx hb dL_law_341 (lv_at hl 9 rfl) ?_
                        refine lv_bipush (v := 12) hx hb dL_law_343 (by decide) ?_
                        refine lv_icmp_ge (tgt := 371) hx hb dL_law_345 (by decide) (fun c39 => ?_) (fun c39 => ?_)
                        · have hf := k_T c39 hf
                          refine W.widen (k := CX) (n := SX) (by omega) (by omega) ?_
                          obtain rfl := k_some hf
                          obtain rfl := k_some (k_inr hq)
                          exact kx ls H locs (lv_sub hl [0, 1, 2, 3, 4, 5, 6, 7, 8] rfl) hP hD hS
                        · have hf := k_F c39 hf
                          refine lv_iload hx hb dL_law_348 (lv_at hl 8 rfl) ?_
                          refine lv_aload_n hx hb dL_law_350 rfl (lv_at hl 2 rfl) ?_
                          refine lv_iload hx hb dL_law_351 (lv_at hl 9 rfl) ?_
                          obtain ⟨g40, hf⟩ := k_G hf
                          refine va_iald hx hb hK hP 15 0 rfl rfl g40 dL_law_353 ?_
                          obtain ⟨j41, hj41, hf⟩ := k_B hf
                          refine k_joinH (nL := 11) (J := 362) (D := D) (A := (k_A s)) (H0 := s.heap) (w' := (wX7 cy h0 gma sna hia ka ora cha tra ena opa foa gm sn hs qs k0 k1 k2 k3 ch o tr es op fo has ++ [wR cy 0 12 ac rc, wR cy 0 5 tr5 rt])) (L := [(0, .ref b), (1, .ref h0), (2, .ref ac), (3, .ref tr5), (4, .int b4), (5, .int b5), (7, .int b7), (8, .int b8), (10, .int s341.2)]) (stk := [.int j41, .int s341.1]) (cells' := (cells + 0)) (slots' := (slots + 0)) (fun ls H locs hl hP hD hS => ?_) (fun kj41 => ?_)
                          · refine lv_iadd hx hb dL_law_362 ?_
                            obtain ⟨y43, ey43, hf⟩ := k_L hf
                            refine k_name ey43 ?_
                            refine lv_istore (lv' := [(9, .int y43), (0, .ref b), (1, .ref h0), (2, .ref ac), (3, .ref tr5), (4, .int b4), (5, .int b5), (7, .int b7), (8, .int b8), (10, .int s341.2)]) hx hb dL_law_363 hl (by decide) rfl (fun ls hl => ?_)
                            refine lv_iinc (v := s341.2 + 1) (lv' := [(10, .int (s341.2 + 1)), (9, .int y43), (0, .ref b), (1, .ref h0), (2, .ref ac), (3, .ref tr5), (4, .int b4), (5, .int b5), (7, .int b7), (8, .int b8)]) hx hb dL_law_365 hl (k := 9) rfl rfl (by decide) rfl (fun ls hl => ?_)
                            refine lv_goto (tgt := 341) hx hb dL_law_368 (by decide) ?_
                            refine W.widen (k := cells + 0) (n := slots + 0) (by omega) (by omega) ?_
                            obtain rfl := k_some hf
                            exact ih b4 b5 b7 b8 gm sn hs qs k0 k1 k2 k3 ch o tr es op fo has rc rt (y43, s341.2 + 1) q (k_inl hq) CX SX (cells + 0) (slots + 0) hcx hsx (by omega) (by omega) ls H locs (lv_sub hl [2, 3, 4, 5, 6, 7, 8, 9, 1, 0] rfl) hP hD hS kx
                          · have hf := hj41
                            refine lv_if_ne (tgt := 361) hx hb dL_law_354 (by decide) (fun c42 => ?_) (fun c42 => ?_)
                            · have hf := k_F c42 hf
                              refine lv_iconst (v := (-1)) hx hb dL_law_361 (by decide) ?_
                              refine W.widen (k := (cells + 0)) (n := (slots + 0)) (by omega) (by omega) ?_
                              obtain rfl := k_some hf
                              exact kj41 ls H locs (lv_sub hl [0, 1, 2, 3, 4, 5, 6, 7, 9] rfl) hP hD hS
                            · have hf := k_T c42 hf
                              refine lv_iconst (v := 1) hx hb dL_law_357 (by decide) ?_
                              refine lv_goto (tgt := 362) hx hb dL_law_358 (by decide) ?_
                              refine W.widen (k := (cells + 0)) (n := (slots + 0)) (by omega) (by omega) ?_
                              obtain rfl := k_some hf
                              exact kj41 ls H locs (lv_sub hl [0, 1, 2, 3, 4, 5, 6, 7, 9] rfl) hP hD hS
                    obtain ⟨x44, hx44, hf⟩ := k_B hf
                    refine W.widen (k := (cells + 0)) (n := (slots + 0)) (by omega) (by omega) ?_
                    refine L341 _ 1000 y22 s44.2.1 x15.1 v21 s44.2.2.1 sn s44.2.2.2.1 s44.2.2.2.2.1 s44.2.2.2.2.2.1 s44.2.2.2.2.2.2.1 s44.2.2.2.2.2.2.2.1 s44.2.2.2.2.2.2.2.2.1 ch o tr s44.2.2.2.2.2.2.2.2.2.1 s44.2.2.2.2.2.2.2.2.2.2.1 s44.2.2.2.2.2.2.2.2.2.2.2.1 has x32.2 w38 (0, 0) x44 hx44 (cells + 0) (slots + 0) (cells + 0) (slots + 0) (Nat.le_trans (by omega) hcx) (Nat.le_trans (by omega) hsx) (by omega) (by omega) ls H locs (lv_sub hl [2, 3, 4, 5, 6, 7, 8, 9, 1, 0] rfl) hP hD hS ?_
                    intro ls H locs hl hP hD hS
                    refine lv_iload hx hb dL_law_371 (lv_at hl 4 rfl) ?_
                    obtain ⟨v45, hv45, hf⟩ := k_B hf
                    refine k_callS (As := [.int y22]) (rest := []) ⟨hx, hb, hml, hown, hts⟩ (c_L_count l y22 v45 hv45) (va_cwS 1 hts gL_law_L_count rfl rfl rfl hd_L_count ⟨Nat.le_of_ble_eq_true rfl, Nat.le_of_ble_eq_true rfl⟩) rfl hl.1 rfl (Nat.le_of_ble_eq_true rfl) dL_law_373 ⟨Nat.le_trans (by omega) hcx, Nat.le_trans (by omega) hsx⟩ ?_
                    refine lv_bipush (v := 31) hx hb dL_law_376 (by decide) ?_
                    obtain ⟨j46, hj46, hf⟩ := k_B hf
                    refine k_joinH (nL := 11) (J := 406) (D := D) (A := (k_A s)) (H0 := s.heap) (w' := (wX7 cy h0 gma sna hia ka ora cha tra ena opa foa s44.2.2.1 sn s44.2.2.2.1 s44.2.2.2.2.1 s44.2.2.2.2.2.1 s44.2.2.2.2.2.2.1 s44.2.2.2.2.2.2.2.1 s44.2.2.2.2.2.2.2.2.1 ch o tr s44.2.2.2.2.2.2.2.2.2.1 s44.2.2.2.2.2.2.2.2.2.2.1 s44.2.2.2.2.2.2.2.2.2.2.2.1 has ++ [wR cy 0 12 ac x32.2, wR cy 0 5 tr5 j46])) (L := [(0, .ref b), (1, .ref h0), (2, .ref ac), (3, .ref tr5), (4, .int y22), (5, .int s44.2.1), (7, .int x15.1), (8, .int v21)]) (stk := []) (cells' := (cells + 0)) (slots' := (slots + 0)) (fun ls H locs hl hP hD hS => ?_) (fun kj46 => ?_)
                    · refine lv_aload_n hx hb dL_law_406 rfl (lv_at hl 1 rfl) ?_
                      refine lv_iload hx hb dL_law_407 (lv_at hl 6 rfl) ?_
                      obtain ⟨v54, hv54, hf⟩ := k_B hf
                      refine k_callLS (As := [.ref h0, .int x15.1]) (rest := []) (isC := [0, 1, 2, 3, 4, 5, 6, 7, 8, 9, 10, 11, 12, 13, 14]) (isR := [15, 16]) (perm := [2, 3, 4, 5, 6, 7, 8, 9, 10, 11, 12, 13, 14, 15, 16, 0, 1]) (w' := (wX7 cy h0 gma sna hia ka ora cha tra ena opa foa v54.2.1 sn v54.2.2.1 v54.2.2.2.1 v54.2.2.2.2.1 v54.2.2.2.2.2.1 v54.2.2.2.2.2.2.1 v54.2.2.2.2.2.2.2 ch o tr s44.2.2.2.2.2.2.2.2.2.1 s44.2.2.2.2.2.2.2.2.2.2.1 s44.2.2.2.2.2.2.2.2.2.2.2.1 has ++ [wR cy 0 12 ac x32.2, wR cy 0 5 tr5 j46])) ⟨hx, hb, hml, hown, hts⟩ (c_L_drawOf l hl9 D cy h0 gma sna hia ka ora cha tra ena opa foa s44.2.2.1 sn s44.2.2.2.1 s44.2.2.2.2.1 s44.2.2.2.2.2.1 s44.2.2.2.2.2.2.1 s44.2.2.2.2.2.2.2.1 s44.2.2.2.2.2.2.2.2.1 ch o tr s44.2.2.2.2.2.2.2.2.2.1 s44.2.2.2.2.2.2.2.2.2.2.1 s44.2.2.2.2.2.2.2.2.2.2.2.1 has x15.1 v54 hv54) (vx_cwSW 2 hts gL_law_L_drawOf rfl rfl rfl hd_L_drawOf ⟨Nat.le_of_ble_eq_true rfl, Nat.le_of_ble_eq_true rfl⟩) hK hN hT hZ hCx hP hD hS hA rfl rfl rfl (by decide) (by decide) rfl (by decide) rfl hl.1 rfl (Nat.le_of_ble_eq_true rfl) dL_law_409 ⟨Nat.le_trans (by omega) hcx, Nat.le_trans (by omega) hsx⟩ (fun H locs hP hD hS => ?_)
                      refine lv_iload hx hb dL_law_412 (lv_at hl 7 rfl) ?_
                      refine lv_icmp_eq (tgt := 419) hx hb dL_law_414 (by decide) (fun c55 => ?_) (fun c55 => ?_)
                      · have hf := k_T c55 hf
                        refine W.widen (k := (cells + 2)) (n := (slots + 12)) (by omega) (by omega) ?_
                        obtain rfl := k_some hf
                        exact kj17 ls H locs (lv_sub hl [0, 1, 2, 3, 4, 5] rfl) hP hD hS
                      · have hf := k_F c55 hf
                        refine lv_iconst (v := 0) hx hb dL_law_417 (by decide) ?_
                        cases hf
                    · have hf := hj46
                      refine lv_icmp_ne (tgt := 406) hx hb dL_law_378 (by decide) (fun c47 => ?_) (fun c47 => ?_)
                      · have hf := k_F c47 hf
                        refine W.widen (k := (cells + 0)) (n := (slots + 0)) (by omega) (by omega) ?_
                        obtain rfl := k_some hf
                        exact kj46 ls H locs (lv_sub hl [0, 1, 2, 3, 4, 5, 6, 7] rfl) hP hD hS
                      · have hf := k_T c47 hf
                        refine lv_aload_n hx hb dL_law_381 rfl (lv_at hl 3 rfl) ?_
                        refine lv_iload hx hb dL_law_382 (lv_at hl 8 rfl) ?_
                        obtain ⟨j48, hj48, hf⟩ := k_B hf
                        refine k_joinH (nL := 11) (J := 401) (D := D) (A := (k_A s)) (H0 := s.heap) (w' := (wX7 cy h0 gma sna hia ka ora cha tra ena opa foa s44.2.2.1 sn s44.2.2.2.1 s44.2.2.2.2.1 s44.2.2.2.2.2.1 s44.2.2.2.2.2.2.1 s44.2.2.2.2.2.2.2.1 s44.2.2.2.2.2.2.2.2.1 ch o tr s44.2.2.2.2.2.2.2.2.2.1 s44.2.2.2.2.2.2.2.2.2.2.1 s44.2.2.2.2.2.2.2.2.2.2.2.1 has ++ [wR cy 0 12 ac x32.2, wR cy 0 5 tr5 w38])) (L := [(0, .ref b), (1, .ref h0), (2, .ref ac), (3, .ref tr5), (4, .int y22), (5, .int s44.2.1), (7, .int x15.1), (8, .int v21)]) (stk := [.int j48, .ref tr5]) (cells' := (cells + 0)) (slots' := (slots + 0)) (fun ls H locs hl hP hD hS => ?_) (fun kj48 => ?_)
                        · refine lv_dup2_11 hx hb dL_law_401 rfl rfl ?_
                          obtain ⟨g51, hf⟩ := k_G hf
                          refine va_iald hx hb hK hP 16 0 rfl rfl g51 dL_law_402 ?_
                          refine lv_iconst (v := 1) hx hb dL_law_403 (by decide) ?_
                          refine lv_iadd hx hb dL_law_404 ?_
                          obtain ⟨g52, hf⟩ := k_G hf
                          refine va_iast hx hb hK hP hD hS 16 0 rfl rfl g52 dL_law_405 (fun H locs hP hD hS => ?_)
                          obtain ⟨w53, ew53, hf⟩ := k_L hf
                          have hP : va_P D vwCl (wX7 cy h0 gma sna hia ka ora cha tra ena opa foa s44.2.2.1 sn s44.2.2.2.1 s44.2.2.2.2.1 s44.2.2.2.2.2.1 s44.2.2.2.2.2.2.1 s44.2.2.2.2.2.2.2.1 s44.2.2.2.2.2.2.2.2.1 ch o tr s44.2.2.2.2.2.2.2.2.2.1 s44.2.2.2.2.2.2.2.2.2.2.1 s44.2.2.2.2.2.2.2.2.2.2.2.1 has ++ [wR cy 0 12 ac x32.2, wR cy 0 5 tr5 w53]) H := by rw [ew53]; exact hP
                          have hD : va_D (k_A s) (wX7 cy h0 gma sna hia ka ora cha tra ena opa foa s44.2.2.1 sn s44.2.2.2.1 s44.2.2.2.2.1 s44.2.2.2.2.2.1 s44.2.2.2.2.2.2.1 s44.2.2.2.2.2.2.2.1 s44.2.2.2.2.2.2.2.2.1 ch o tr s44.2.2.2.2.2.2.2.2.2.1 s44.2.2.2.2.2.2.2.2.2.2.1 s44.2.2.2.2.2.2.2.2.2.2.2.1 has ++ [wR cy 0 12 ac x32.2, wR cy 0 5 tr5 w53]) := by rw [ew53]; exact hD
                          refine W.widen (k := (cells + 0)) (n := (slots + 0)) (by omega) (by omega) ?_
                          obtain rfl := k_some hf
                          exact kj46 ls H locs (lv_sub hl [0, 1, 2, 3, 4, 5, 6, 7] rfl) hP hD hS
                        · have hf := hj48
                          refine lv_if_le (tgt := 391) hx hb dL_law_384 (by decide) (fun c49 => ?_) (fun c49 => ?_)
                          · have hf := k_T c49 hf
                            refine lv_iload hx hb dL_law_391 (lv_at hl 8 rfl) ?_
                            refine lv_if_ge (tgt := 400) hx hb dL_law_393 (by decide) (fun c50 => ?_) (fun c50 => ?_)
                            · have hf := k_T c50 hf
                              refine lv_iconst (v := 3) hx hb dL_law_400 (by decide) ?_
                              refine W.widen (k := (cells + 0)) (n := (slots + 0)) (by omega) (by omega) ?_
                              obtain rfl := k_some hf
                              exact kj48 ls H locs (lv_sub hl [0, 1, 2, 3, 4, 5, 6, 7] rfl) hP hD hS
                            · have hf := k_F c50 hf
                              refine lv_iconst (v := 2) hx hb dL_law_396 (by decide) ?_
                              refine lv_goto (tgt := 401) hx hb dL_law_397 (by decide) ?_
                              refine W.widen (k := (cells + 0)) (n := (slots + 0)) (by omega) (by omega) ?_
                              obtain rfl := k_some hf
                              exact kj48 ls H locs (lv_sub hl [0, 1, 2, 3, 4, 5, 6, 7] rfl) hP hD hS
                          · have hf := k_F c49 hf
                            refine lv_iconst (v := 1) hx hb dL_law_387 (by decide) ?_
                            refine lv_goto (tgt := 401) hx hb dL_law_388 (by decide) ?_
                            refine W.widen (k := (cells + 0)) (n := (slots + 0)) (by omega) (by omega) ?_
                            obtain rfl := k_some hf
                            exact kj48 ls H locs (lv_sub hl [0, 1, 2, 3, 4, 5, 6, 7] rfl) hP hD hS
                  · have hf := hj36
                    refine lv_icmp_ne (tgt := 332) hx hb dL_law_325 (by decide) (fun c37 => ?_) (fun c37 => ?_)
                    · have hf := k_F c37 hf
                      refine lv_iconst (v := 0) hx hb dL_law_332 (by decide) ?_
                      refine W.widen (k := (cells + 0)) (n := (slots + 0)) (by omega) (by omega) ?_
                      obtain rfl := k_some hf
                      exact kj36 ls H locs (lv_sub hl [0, 1, 2, 3, 4, 5, 6, 7] rfl) hP hD hS
                    · have hf := k_T c37 hf
                      refine lv_iconst (v := 1) hx hb dL_law_328 (by decide) ?_
                      refine lv_goto (tgt := 333) hx hb dL_law_329 (by decide) ?_
                      refine W.widen (k := (cells + 0)) (n := (slots + 0)) (by omega) (by omega) ?_
                      obtain rfl := k_some hf
                      exact kj36 ls H locs (lv_sub hl [0, 1, 2, 3, 4, 5, 6, 7] rfl) hP hD hS
                · have hf := hj33
                  refine lv_if_ne (tgt := 314) hx hb dL_law_303 (by decide) (fun c34 => ?_) (fun c34 => ?_)
                  · have hf := k_F c34 hf
                    refine lv_aload_n hx hb dL_law_314 rfl (lv_at hl 3 rfl) ?_
                    refine lv_iconst (v := 0) hx hb dL_law_315 (by decide) ?_
                    refine va_iald hx hb hK hP 16 0 rfl rfl (k_in (i := 0) (n := 5) (by decide +kernel)) dL_law_316 ?_
                    refine k_name (v := s44.2.2.2.2.2.2.2.2.2.2.2.2.2 0) rfl ?_
                    refine W.widen (k := (cells + 0)) (n := (slots + 0)) (by omega) (by omega) ?_
                    obtain rfl := k_some hf
                    exact kj33 ls H locs (lv_sub hl [0, 1, 2, 3, 4, 5, 6, 7] rfl) hP hD hS
                  · have hf := k_T c34 hf
                    refine lv_iconst (v := 1) hx hb dL_law_306 (by decide) ?_
                    refine lv_aload_n hx hb dL_law_307 rfl (lv_at hl 3 rfl) ?_
                    refine lv_iconst (v := 0) hx hb dL_law_308 (by decide) ?_
                    refine va_iald hx hb hK hP 16 0 rfl rfl (k_in (i := 0) (n := 5) (by decide +kernel)) dL_law_309 ?_
                    refine k_name (v := s44.2.2.2.2.2.2.2.2.2.2.2.2.2 0) rfl ?_
                    refine lv_isub hx hb dL_law_310 ?_
                    refine lv_goto (tgt := 317) hx hb dL_law_311 (by decide) ?_
                    refine W.widen (k := (cells + 0)) (n := (slots + 0)) (by omega) (by omega) ?_
                    obtain rfl := k_some hf
                    exact kj33 ls H locs (lv_sub hl [0, 1, 2, 3, 4, 5, 6, 7] rfl) hP hD hS
              · have hf := k_T c20 hf
                refine lv_aload_n hx hb dL_law_205 rfl (lv_at hl 1 rfl) ?_
                refine lv_iload hx hb dL_law_206 (lv_at hl 7 rfl) ?_
                obtain ⟨v56, hv56, hf⟩ := k_B hf
                refine k_callLS (As := [.ref h0, .int x15.1]) (rest := []) (isC := [0, 1, 2, 3, 4, 5, 6, 7, 8, 9, 10, 11, 12, 13, 14]) (isR := [15, 16]) (perm := [2, 3, 4, 5, 6, 7, 8, 9, 10, 11, 12, 13, 14, 15, 16, 0, 1]) (w' := (wX7 cy h0 gma sna hia ka ora cha tra ena opa foa v56.2.1 sn v56.2.2.1 v56.2.2.2.1 v56.2.2.2.2.1 v56.2.2.2.2.2.1 v56.2.2.2.2.2.2.1 v56.2.2.2.2.2.2.2 ch o tr s44.2.2.2.2.2.2.2.2.2.1 s44.2.2.2.2.2.2.2.2.2.2.1 s44.2.2.2.2.2.2.2.2.2.2.2.1 has ++ [wR cy 0 12 ac s44.2.2.2.2.2.2.2.2.2.2.2.2.1, wR cy 0 5 tr5 s44.2.2.2.2.2.2.2.2.2.2.2.2.2])) ⟨hx, hb, hml, hown, hts⟩ (c_L_drawOf l hl9 D cy h0 gma sna hia ka ora cha tra ena opa foa s44.2.2.1 sn s44.2.2.2.1 s44.2.2.2.2.1 s44.2.2.2.2.2.1 s44.2.2.2.2.2.2.1 s44.2.2.2.2.2.2.2.1 s44.2.2.2.2.2.2.2.2.1 ch o tr s44.2.2.2.2.2.2.2.2.2.1 s44.2.2.2.2.2.2.2.2.2.2.1 s44.2.2.2.2.2.2.2.2.2.2.2.1 has x15.1 v56 hv56) (vx_cwSW 2 hts gL_law_L_drawOf rfl rfl rfl hd_L_drawOf ⟨Nat.le_of_ble_eq_true rfl, Nat.le_of_ble_eq_true rfl⟩) hK hN hT hZ hCx hP hD hS hA rfl rfl rfl (by decide) (by decide) rfl (by decide) rfl hl.1 rfl (Nat.le_of_ble_eq_true rfl) dL_law_208 ⟨Nat.le_trans (by omega) hcx, Nat.le_trans (by omega) hsx⟩ (fun H locs hP hD hS => ?_)
                refine lv_bipush (v := (-102)) hx hb dL_law_211 (by decide) ?_
                refine lv_icmp_ne (tgt := 227) hx hb dL_law_213 (by decide) (fun c57 => ?_) (fun c57 => ?_)
                · have hf := k_F c57 hf
                  refine lv_iconst (v := 0) hx hb dL_law_227 (by decide) ?_
                  cases hf
                · have hf := k_T c57 hf
                  refine lv_aload_n hx hb dL_law_216 rfl (lv_at hl 1 rfl) ?_
                  refine lv_bipush (v := 31) hx hb dL_law_217 (by decide) ?_
                  obtain ⟨v58, hv58, hf⟩ := k_B hf
                  refine k_callLS (As := [.ref h0, .int 31]) (rest := []) (isC := [0, 1, 2, 3, 4, 5, 6, 7, 8, 9, 10, 11, 12, 13, 14]) (isR := [15, 16]) (perm := [2, 3, 4, 5, 6, 7, 8, 9, 10, 11, 12, 13, 14, 15, 16, 0, 1]) (w' := (wX7 cy h0 gma sna hia ka ora cha tra ena opa foa v58.2.1 sn v58.2.2.1 v58.2.2.2.1 v58.2.2.2.2.1 v58.2.2.2.2.2.1 v58.2.2.2.2.2.2.1 v58.2.2.2.2.2.2.2 ch o tr s44.2.2.2.2.2.2.2.2.2.1 s44.2.2.2.2.2.2.2.2.2.2.1 s44.2.2.2.2.2.2.2.2.2.2.2.1 has ++ [wR cy 0 12 ac s44.2.2.2.2.2.2.2.2.2.2.2.2.1, wR cy 0 5 tr5 s44.2.2.2.2.2.2.2.2.2.2.2.2.2])) ⟨hx, hb, hml, hown, hts⟩ (c_L_drawOf l hl9 D cy h0 gma sna hia ka ora cha tra ena opa foa v56.2.1 sn v56.2.2.1 v56.2.2.2.1 v56.2.2.2.2.1 v56.2.2.2.2.2.1 v56.2.2.2.2.2.2.1 v56.2.2.2.2.2.2.2 ch o tr s44.2.2.2.2.2.2.2.2.2.1 s44.2.2.2.2.2.2.2.2.2.2.1 s44.2.2.2.2.2.2.2.2.2.2.2.1 has 31 v58 hv58) (vx_cwSW 2 hts gL_law_L_drawOf rfl rfl rfl hd_L_drawOf ⟨Nat.le_of_ble_eq_true rfl, Nat.le_of_ble_eq_true rfl⟩) hK hN hT hZ hCx hP hD hS hA rfl rfl rfl (by decide) (by decide) rfl (by decide) rfl hl.1 rfl (Nat.le_of_ble_eq_true rfl) dL_law_219 ⟨Nat.le_trans (by omega) hcx, Nat.le_trans (by omega) hsx⟩ (fun H locs hP hD hS => ?_)
                  refine lv_bipush (v := (-101)) hx hb dL_law_222 (by decide) ?_
                  refine lv_icmp_eq (tgt := 419) hx hb dL_law_224 (by decide) (fun c59 => ?_) (fun c59 => ?_)
                  · have hf := k_T c59 hf
                    refine W.widen (k := (cells + 2)) (n := (slots + 12)) (by omega) (by omega) ?_
                    obtain rfl := k_some hf
                    exact kj17 ls H locs (lv_sub hl [0, 1, 2, 3, 4, 5] rfl) hP hD hS
                  · have hf := k_F c59 hf
                    refine lv_iconst (v := 0) hx hb dL_law_227 (by decide) ?_
                    cases hf
            · have hf := k_T c19 hf
              refine lv_aload_n hx hb dL_law_149 rfl (lv_at hl 1 rfl) ?_
              obtain ⟨v60, hv60, hf⟩ := k_B hf
              refine k_callHV (As := []) (rest := []) (r := (RX7, TX7, 6)) (ci := 4) (q0 := 0) (isC := [0, 1, 2, 3, 4, 5, 6, 7, 8, 9, 10, 11, 12, 13, 14]) (isR := [15, 16]) (perm := [2, 3, 4, 5, 6, 7, 8, 9, 10, 11, 12, 13, 14, 15, 16, 0, 1]) (w' := (wX7 cy h0 gma sna hia ka ora cha tra ena opa foa v60.2.1 sn v60.2.2.1 v60.2.2.2.1 v60.2.2.2.2.1 v60.2.2.2.2.2.1 v60.2.2.2.2.2.2.1 v60.2.2.2.2.2.2.2 ch o tr s44.2.2.2.2.2.2.2.2.2.1 s44.2.2.2.2.2.2.2.2.2.2.1 s44.2.2.2.2.2.2.2.2.2.2.2.1 has ++ [wR cy 0 12 ac s44.2.2.2.2.2.2.2.2.2.2.2.2.1, wR cy 0 5 tr5 s44.2.2.2.2.2.2.2.2.2.2.2.2.2])) ⟨hx, hb, hml, hown, hts⟩ (c_X7_newGame l D cy h0 gma sna hia ka ora cha tra ena opa foa s44.2.2.1 sn s44.2.2.2.1 s44.2.2.2.2.1 s44.2.2.2.2.2.1 s44.2.2.2.2.2.2.1 s44.2.2.2.2.2.2.2.1 s44.2.2.2.2.2.2.2.2.1 ch o tr s44.2.2.2.2.2.2.2.2.2.1 s44.2.2.2.2.2.2.2.2.2.2.1 s44.2.2.2.2.2.2.2.2.2.2.2.1 has  v60 hv60) (cwV 0 hts gL_law_X7_newGame rfl rfl rfl hd_X7_newGame ⟨Nat.le_of_ble_eq_true rfl, Nat.le_of_ble_eq_true rfl⟩) hK hN hP hD hS hA rfl rfl rfl rfl rfl rfl (by decide) rfl rfl rfl hl.1 rfl (Nat.le_of_ble_eq_true rfl) dL_law_150 ⟨Nat.le_trans (by omega) hcx, Nat.le_trans (by omega) hsx⟩ (fun H locs hP hD hS => ?_)
              refine lv_iload hx hb dL_law_153 (lv_at hl 4 rfl) ?_
              obtain ⟨v61, hv61, hf⟩ := k_B hf
              refine k_callS (As := [.int s44.1]) (rest := [.int v60.1]) ⟨hx, hb, hml, hown, hts⟩ (c_L_count l s44.1 v61 hv61) (va_cwS 1 hts gL_law_L_count rfl rfl rfl hd_L_count ⟨Nat.le_of_ble_eq_true rfl, Nat.le_of_ble_eq_true rfl⟩) rfl hl.1 rfl (Nat.le_of_ble_eq_true rfl) dL_law_155 ⟨Nat.le_trans (by omega) hcx, Nat.le_trans (by omega) hsx⟩ ?_
              refine lv_icmp_eq (tgt := 163) hx hb dL_law_158 (by decide) (fun c62 => ?_) (fun c62 => ?_)
              · have hf := k_T c62 hf
                refine lv_iconst (v := 0) hx hb dL_law_163 (by decide) ?_
                refine lv_istore (lv' := [(4, .int 0), (0, .ref b), (1, .ref h0), (2, .ref ac), (3, .ref tr5), (5, .int s44.2.1), (6, .int y7), (7, .int x15.1)]) hx hb dL_law_164 hl (by decide) rfl (fun ls hl => ?_)
                refine lv_aload_n hx hb dL_law_166 rfl (lv_at hl 4 rfl) ?_
                refine lv_iconst (v := 0) hx hb dL_law_167 (by decide) ?_
                refine lv_iconst (v := 0) hx hb dL_law_168 (by decide) ?_
                refine va_iast hx hb hK hP hD hS 16 0 rfl rfl (k_in (i := 0) (n := 5) (by decide +kernel)) dL_law_169 (fun H locs hP hD hS => ?_)
                obtain ⟨w63, ew63, hf⟩ := k_L hf
                have hP : va_P D vwCl (wX7 cy h0 gma sna hia ka ora cha tra ena opa foa v60.2.1 sn v60.2.2.1 v60.2.2.2.1 v60.2.2.2.2.1 v60.2.2.2.2.2.1 v60.2.2.2.2.2.2.1 v60.2.2.2.2.2.2.2 ch o tr s44.2.2.2.2.2.2.2.2.2.1 s44.2.2.2.2.2.2.2.2.2.2.1 s44.2.2.2.2.2.2.2.2.2.2.2.1 has ++ [wR cy 0 12 ac s44.2.2.2.2.2.2.2.2.2.2.2.2.1, wR cy 0 5 tr5 w63]) H := by rw [ew63]; exact hP
                have hD : va_D (k_A s) (wX7 cy h0 gma sna hia ka ora cha tra ena opa foa v60.2.1 sn v60.2.2.1 v60.2.2.2.1 v60.2.2.2.2.1 v60.2.2.2.2.2.1 v60.2.2.2.2.2.2.1 v60.2.2.2.2.2.2.2 ch o tr s44.2.2.2.2.2.2.2.2.2.1 s44.2.2.2.2.2.2.2.2.2.2.1 s44.2.2.2.2.2.2.2.2.2.2.2.1 has ++ [wR cy 0 12 ac s44.2.2.2.2.2.2.2.2.2.2.2.2.1, wR cy 0 5 tr5 w63]) := by rw [ew63]; exact hD
                refine lv_iconst (v := 0) hx hb dL_law_170 (by decide) ?_
                refine lv_istore (lv' := [(8, .int 0), (4, .int 0), (0, .ref b), (1, .ref h0), (2, .ref ac), (3, .ref tr5), (5, .int s44.2.1), (6, .int y7), (7, .int x15.1)]) hx hb dL_law_171 hl (by decide) rfl (fun ls hl => ?_)
                have L173 : ∀ (Q : State → Prop) (n : Nat) (b4 : Int32) (b5 : Int32) (gm : k_G8) (sn : k_G8) (hs : Int32) (qs : k_Q4) (k0 : k_G8) (k1 : k_G8) (k2 : k_G8) (k3 : k_G8) (ch : Nat → Int32) (o : k_O5) (tr : k_G8) (es : Int32) (op : Nat → Int32) (fo : Nat → Int32) (has : Int32) (rt : Nat → Int32) (s173 : Int32 × (Nat → Int32)) (q : Int32 × (Nat → Int32)), k_loop (t_L_law_173 xs L b4 b5) n s173 = some q → ∀ (CX SX cells slots : Nat), CX ≤ room_1.cells → SX ≤ room_1.slots → cells + n * 0 ≤ CX → slots + n * 0 ≤ SX → ∀ (ls : Array Slot) (H : Heap) (locs : List Loc), lv_has ls 11 [(0, .ref b), (1, .ref h0), (2, .ref ac), (3, .ref tr5), (4, .int b4), (5, .int b5), (8, .int s173.1)] → va_P D vwCl (wX7 cy h0 gma sna hia ka ora cha tra ena opa foa gm sn hs qs k0 k1 k2 k3 ch o tr es op fo has ++ [wR cy 0 12 ac s173.2, wR cy 0 5 tr5 rt]) H → va_D (k_A s) (wX7 cy h0 gma sna hia ka ora cha tra ena opa foa gm sn hs qs k0 k1 k2 k3 ch o tr es op fo has ++ [wR cy 0 12 ac s173.2, wR cy 0 5 tr5 rt]) → va_S (k_A s) s.heap H locs → (∀ (ls : Array Slot) (H : Heap) (locs : List Loc), lv_has ls 11 [(0, .ref b), (1, .ref h0), (2, .ref ac), (3, .ref tr5), (4, .int b4), (5, .int b5)] → va_P D vwCl (wX7 cy h0 gma sna hia ka ora cha tra ena opa foa gm sn hs qs k0 k1 k2 k3 ch o tr es op fo has ++ [wR cy 0 12 ac q.2, wR cy 0 5 tr5 rt]) H → va_D (k_A s) (wX7 cy h0 gma sna hia ka ora cha tra ena opa foa gm sn hs qs k0 k1 k2 k3 ch o tr es op fo has ++ [wR cy 0 12 ac q.2, wR cy 0 5 tr5 rt]) → va_S (k_A s) s.heap H locs → W p l e room_1 s m #[Value.ref b] below meth c H locs CX SX Q (F0 m 191 ls [])) → W p l e room_1 s m #[Value.ref b] below meth c H locs cells slots Q (F0 m 173 ls []) := by
                  intro Q n
                  induction n with
                  | zero =>
                    intro b4 b5 gm sn hs qs k0 k1 k2 k3 ch o tr es op fo has rt s173 q hq
                    exact (k_loop0 hq).elim
                  | succ n ih =>
                    intro b4 b5 gm sn hs qs k0 k1 k2 k3 ch o tr es op fo has rt s173 q hq CX SX cells slots hcx hsx hcc hss ls H locs hl hP hD hS kx
                    obtain ⟨x, hf, hq⟩ := k_loopE hq
                    unfold t_L_law_173 at hf
                    refine lv_iload hx hb dL_law_173 (lv_at hl 6 rfl) ?_
                    refine lv_bipush (v := 12) hx hb dL_law_175 (by decide) ?_
                    refine lv_icmp_ge (tgt := 191) hx hb dL_law_177 (by decide) (fun c64 => ?_) (fun c64 => ?_)
                    · have hf := k_T c64 hf
                      refine W.widen (k := CX) (n := SX) (by omega) (by omega) ?_
                      obtain rfl := k_some hf
                      obtain rfl := k_some (k_inr hq)
                      exact kx ls H locs (lv_sub hl [0, 1, 2, 3, 4, 5] rfl) hP hD hS
                    · have hf := k_F c64 hf
                      refine lv_aload_n hx hb dL_law_180 rfl (lv_at hl 2 rfl) ?_
                      refine lv_iload hx hb dL_law_181 (lv_at hl 6 rfl) ?_
                      refine lv_iconst (v := (-1)) hx hb dL_law_183 (by decide) ?_
                      obtain ⟨g65, hf⟩ := k_G hf
                      refine va_iast hx hb hK hP hD hS 15 0 rfl rfl g65 dL_law_184 (fun H locs hP hD hS => ?_)
                      obtain ⟨w66, ew66, hf⟩ := k_L hf
                      have hP : va_P D vwCl (wX7 cy h0 gma sna hia ka ora cha tra ena opa foa gm sn hs qs k0 k1 k2 k3 ch o tr es op fo has ++ [wR cy 0 12 ac w66, wR cy 0 5 tr5 rt]) H := by rw [ew66]; exact hP
                      have hD : va_D (k_A s) (wX7 cy h0 gma sna hia ka ora cha tra ena opa foa gm sn hs qs k0 k1 k2 k3 ch o tr es op fo has ++ [wR cy 0 12 ac w66, wR cy 0 5 tr5 rt]) := by rw [ew66]; exact hD
                      refine lv_iinc (v := s173.1 + 1) (lv' := [(8, .int (s173.1 + 1)), (0, .ref b), (1, .ref h0), (2, .ref ac), (3, .ref tr5), (4, .int b4), (5, .int b5)]) hx hb dL_law_185 hl (k := 6) rfl rfl (by decide) rfl (fun ls hl => ?_)
                      refine lv_goto (tgt := 173) hx hb dL_law_188 (by decide) ?_
                      refine W.widen (k := cells + 0) (n := slots + 0) (by omega) (by omega) ?_
                      obtain rfl := k_some hf
                      exact ih b4 b5 gm sn hs qs k0 k1 k2 k3 ch o tr es op fo has rt (s173.1 + 1, w66) q (k_inl hq) CX SX (cells + 0) (slots + 0) hcx hsx (by omega) (by omega) ls H locs (lv_sub hl [1, 2, 3, 4, 5, 6, 0] rfl) hP hD hS kx
                obtain ⟨x67, hx67, hf⟩ := k_B hf
                refine W.widen (k := (cells + 0)) (n := (slots + 0)) (by omega) (by omega) ?_
                refine L173 _ 1000 0 s44.2.1 v60.2.1 sn v60.2.2.1 v60.2.2.2.1 v60.2.2.2.2.1 v60.2.2.2.2.2.1 v60.2.2.2.2.2.2.1 v60.2.2.2.2.2.2.2 ch o tr s44.2.2.2.2.2.2.2.2.2.1 s44.2.2.2.2.2.2.2.2.2.2.1 s44.2.2.2.2.2.2.2.2.2.2.2.1 has w63 (0, s44.2.2.2.2.2.2.2.2.2.2.2.2.1) x67 hx67 (cells + 0) (slots + 0) (cells + 0) (slots + 0) (Nat.le_trans (by omega) hcx) (Nat.le_trans (by omega) hsx) (by omega) (by omega) ls H locs (lv_sub hl [2, 3, 4, 5, 1, 6, 0] rfl) hP hD hS ?_
                intro ls H locs hl hP hD hS
                refine lv_goto (tgt := 419) hx hb dL_law_191 (by decide) ?_
                refine W.widen (k := (cells + 2)) (n := (slots + 12)) (by omega) (by omega) ?_
                obtain rfl := k_some hf
                exact kj17 ls H locs (lv_sub hl [0, 1, 2, 3, 4, 5] rfl) hP hD hS
              · have hf := k_F c62 hf
                refine lv_iconst (v := 0) hx hb dL_law_161 (by decide) ?_
                cases hf
          · have hf := k_T c18 hf
            refine lv_iload hx hb dL_law_133 (lv_at hl 6 rfl) ?_
            refine lv_iconst (v := 3) hx hb dL_law_135 (by decide) ?_
            refine lv_irem hx hb dL_law_136 (by decide) ?_
            refine lv_if_gt (tgt := 149) hx hb dL_law_137 (by decide) (fun c68 => ?_) (fun c68 => ?_)
            · have hf := k_T c68 hf
              refine lv_aload_n hx hb dL_law_149 rfl (lv_at hl 1 rfl) ?_
              obtain ⟨v69, hv69, hf⟩ := k_B hf
              refine k_callHV (As := []) (rest := []) (r := (RX7, TX7, 6)) (ci := 4) (q0 := 0) (isC := [0, 1, 2, 3, 4, 5, 6, 7, 8, 9, 10, 11, 12, 13, 14]) (isR := [15, 16]) (perm := [2, 3, 4, 5, 6, 7, 8, 9, 10, 11, 12, 13, 14, 15, 16, 0, 1]) (w' := (wX7 cy h0 gma sna hia ka ora cha tra ena opa foa v69.2.1 sn v69.2.2.1 v69.2.2.2.1 v69.2.2.2.2.1 v69.2.2.2.2.2.1 v69.2.2.2.2.2.2.1 v69.2.2.2.2.2.2.2 ch o tr s44.2.2.2.2.2.2.2.2.2.1 s44.2.2.2.2.2.2.2.2.2.2.1 s44.2.2.2.2.2.2.2.2.2.2.2.1 has ++ [wR cy 0 12 ac s44.2.2.2.2.2.2.2.2.2.2.2.2.1, wR cy 0 5 tr5 s44.2.2.2.2.2.2.2.2.2.2.2.2.2])) ⟨hx, hb, hml, hown, hts⟩ (c_X7_newGame l D cy h0 gma sna hia ka ora cha tra ena opa foa s44.2.2.1 sn s44.2.2.2.1 s44.2.2.2.2.1 s44.2.2.2.2.2.1 s44.2.2.2.2.2.2.1 s44.2.2.2.2.2.2.2.1 s44.2.2.2.2.2.2.2.2.1 ch o tr s44.2.2.2.2.2.2.2.2.2.1 s44.2.2.2.2.2.2.2.2.2.2.1 s44.2.2.2.2.2.2.2.2.2.2.2.1 has  v69 hv69) (cwV 0 hts gL_law_X7_newGame rfl rfl rfl hd_X7_newGame ⟨Nat.le_of_ble_eq_true rfl, Nat.le_of_ble_eq_true rfl⟩) hK hN hP hD hS hA rfl rfl rfl rfl rfl rfl (by decide) rfl rfl rfl hl.1 rfl (Nat.le_of_ble_eq_true rfl) dL_law_150 ⟨Nat.le_trans (by omega) hcx, Nat.le_trans (by omega) hsx⟩ (fun H locs hP hD hS => ?_)
              refine lv_iload hx hb dL_law_153 (lv_at hl 4 rfl) ?_
              obtain ⟨v70, hv70, hf⟩ := k_B hf
              refine k_callS (As := [.int s44.1]) (rest := [.int v69.1]) ⟨hx, hb, hml, hown, hts⟩ (c_L_count l s44.1 v70 hv70) (va_cwS 1 hts gL_law_L_count rfl rfl rfl hd_L_count ⟨Nat.le_of_ble_eq_true rfl, Nat.le_of_ble_eq_true rfl⟩) rfl hl.1 rfl (Nat.le_of_ble_eq_true rfl) dL_law_155 ⟨Nat.le_trans (by omega) hcx, Nat.le_trans (by omega) hsx⟩ ?_
              refine lv_icmp_eq (tgt := 163) hx hb dL_law_158 (by decide) (fun c71 => ?_) (fun c71 => ?_)
              · have hf := k_T c71 hf
                refine lv_iconst (v := 0) hx hb dL_law_163 (by decide) ?_
                refine lv_istore (lv' := [(4, .int 0), (0, .ref b), (1, .ref h0), (2, .ref ac), (3, .ref tr5), (5, .int s44.2.1), (6, .int y7), (7, .int x15.1)]) hx hb dL_law_164 hl (by decide) rfl (fun ls hl => ?_)
                refine lv_aload_n hx hb dL_law_166 rfl (lv_at hl 4 rfl) ?_
                refine lv_iconst (v := 0) hx hb dL_law_167 (by decide) ?_
                refine lv_iconst (v := 0) hx hb dL_law_168 (by decide) ?_
                refine va_iast hx hb hK hP hD hS 16 0 rfl rfl (k_in (i := 0) (n := 5) (by decide +kernel)) dL_law_169 (fun H locs hP hD hS => ?_)
                obtain ⟨w72, ew72, hf⟩ := k_L hf
                have hP : va_P D vwCl (wX7 cy h0 gma sna hia ka ora cha tra ena opa foa v69.2.1 sn v69.2.2.1 v69.2.2.2.1 v69.2.2.2.2.1 v69.2.2.2.2.2.1 v69.2.2.2.2.2.2.1 v69.2.2.2.2.2.2.2 ch o tr s44.2.2.2.2.2.2.2.2.2.1 s44.2.2.2.2.2.2.2.2.2.2.1 s44.2.2.2.2.2.2.2.2.2.2.2.1 has ++ [wR cy 0 12 ac s44.2.2.2.2.2.2.2.2.2.2.2.2.1, wR cy 0 5 tr5 w72]) H := by rw [ew72]; exact hP
                have hD : va_D (k_A s) (wX7 cy h0 gma sna hia ka ora cha tra ena opa foa v69.2.1 sn v69.2.2.1 v69.2.2.2.1 v69.2.2.2.2.1 v69.2.2.2.2.2.1 v69.2.2.2.2.2.2.1 v69.2.2.2.2.2.2.2 ch o tr s44.2.2.2.2.2.2.2.2.2.1 s44.2.2.2.2.2.2.2.2.2.2.1 s44.2.2.2.2.2.2.2.2.2.2.2.1 has ++ [wR cy 0 12 ac s44.2.2.2.2.2.2.2.2.2.2.2.2.1, wR cy 0 5 tr5 w72]) := by rw [ew72]; exact hD
                refine lv_iconst (v := 0) hx hb dL_law_170 (by decide) ?_
                refine lv_istore (lv' := [(8, .int 0), (4, .int 0), (0, .ref b), (1, .ref h0), (2, .ref ac), (3, .ref tr5), (5, .int s44.2.1), (6, .int y7), (7, .int x15.1)]) hx hb dL_law_171 hl (by decide) rfl (fun ls hl => ?_)
                have L173 : ∀ (Q : State → Prop) (n : Nat) (b4 : Int32) (b5 : Int32) (gm : k_G8) (sn : k_G8) (hs : Int32) (qs : k_Q4) (k0 : k_G8) (k1 : k_G8) (k2 : k_G8) (k3 : k_G8) (ch : Nat → Int32) (o : k_O5) (tr : k_G8) (es : Int32) (op : Nat → Int32) (fo : Nat → Int32) (has : Int32) (rt : Nat → Int32) (s173 : Int32 × (Nat → Int32)) (q : Int32 × (Nat → Int32)), k_loop (t_L_law_173 xs L b4 b5) n s173 = some q → ∀ (CX SX cells slots : Nat), CX ≤ room_1.cells → SX ≤ room_1.slots → cells + n * 0 ≤ CX → slots + n * 0 ≤ SX → ∀ (ls : Array Slot) (H : Heap) (locs : List Loc), lv_has ls 11 [(0, .ref b), (1, .ref h0), (2, .ref ac), (3, .ref tr5), (4, .int b4), (5, .int b5), (8, .int s173.1)] → va_P D vwCl (wX7 cy h0 gma sna hia ka ora cha tra ena opa foa gm sn hs qs k0 k1 k2 k3 ch o tr es op fo has ++ [wR cy 0 12 ac s173.2, wR cy 0 5 tr5 rt]) H → va_D (k_A s) (wX7 cy h0 gma sna hia ka ora cha tra ena opa foa gm sn hs qs k0 k1 k2 k3 ch o tr es op fo has ++ [wR cy 0 12 ac s173.2, wR cy 0 5 tr5 rt]) → va_S (k_A s) s.heap H locs → (∀ (ls : Array Slot) (H : Heap) (locs : List Loc), lv_has ls 11 [(0, .ref b), (1, .ref h0), (2, .ref ac), (3, .ref tr5), (4, .int b4), (5, .int b5)] → va_P D vwCl (wX7 cy h0 gma sna hia ka ora cha tra ena opa foa gm sn hs qs k0 k1 k2 k3 ch o tr es op fo has ++ [wR cy 0 12 ac q.2, wR cy 0 5 tr5 rt]) H → va_D (k_A s) (wX7 cy h0 gma sna hia ka ora cha tra ena opa foa gm sn hs qs k0 k1 k2 k3 ch o tr es op fo has ++ [wR cy 0 12 ac q.2, wR cy 0 5 tr5 rt]) → va_S (k_A s) s.heap H locs → W p l e room_1 s m #[Value.ref b] below meth c H locs CX SX Q (F0 m 191 ls [])) → W p l e room_1 s m #[Value.ref b] below meth c H locs cells slots Q (F0 m 173 ls []) := by
                  intro Q n
                  induction n with
                  | zero =>
                    intro b4 b5 gm sn hs qs k0 k1 k2 k3 ch o tr es op fo has rt s173 q hq
                    exact (k_loop0 hq).elim
                  | succ n ih =>
                    intro b4 b5 gm sn hs qs k0 k1 k2 k3 ch o tr es op fo has rt s173 q hq CX SX cells slots hcx hsx hcc hss ls H locs hl hP hD hS kx
                    obtain ⟨x, hf, hq⟩ := k_loopE hq
                    unfold t_L_law_173 at hf
                    refine lv_iload hx hb dL_law_173 (lv_at hl 6 rfl) ?_
                    refine lv_bipush (v := 12) hx hb dL_law_175 (by decide) ?_
                    refine lv_icmp_ge (tgt := 191) hx hb dL_law_177 (by decide) (fun c73 => ?_) (fun c73 => ?_)
                    · have hf := k_T c73 hf
                      refine W.widen (k := CX) (n := SX) (by omega) (by omega) ?_
                      obtain rfl := k_some hf
                      obtain rfl := k_some (k_inr hq)
                      exact kx ls H locs (lv_sub hl [0, 1, 2, 3, 4, 5] rfl) hP hD hS
                    · have hf := k_F c73 hf
                      refine lv_aload_n hx hb dL_law_180 rfl (lv_at hl 2 rfl) ?_
                      refine lv_iload hx hb dL_law_181 (lv_at hl 6 rfl) ?_
                      refine lv_iconst (v := (-1)) hx hb dL_law_183 (by decide) ?_
                      obtain ⟨g74, hf⟩ := k_G hf
                      refine va_iast hx hb hK hP hD hS 15 0 rfl rfl g74 dL_law_184 (fun H locs hP hD hS => ?_)
                      obtain ⟨w75, ew75, hf⟩ := k_L hf
                      have hP : va_P D vwCl (wX7 cy h0 gma sna hia ka ora cha tra ena opa foa gm sn hs qs k0 k1 k2 k3 ch o tr es op fo has ++ [wR cy 0 12 ac w75, wR cy 0 5 tr5 rt]) H := by rw [ew75]; exact hP
                      have hD : va_D (k_A s) (wX7 cy h0 gma sna hia ka ora cha tra ena opa foa gm sn hs qs k0 k1 k2 k3 ch o tr es op fo has ++ [wR cy 0 12 ac w75, wR cy 0 5 tr5 rt]) := by rw [ew75]; exact hD
                      refine lv_iinc (v := s173.1 + 1) (lv' := [(8, .int (s173.1 + 1)), (0, .ref b), (1, .ref h0), (2, .ref ac), (3, .ref tr5), (4, .int b4), (5, .int b5)]) hx hb dL_law_185 hl (k := 6) rfl rfl (by decide) rfl (fun ls hl => ?_)
                      refine lv_goto (tgt := 173) hx hb dL_law_188 (by decide) ?_
                      refine W.widen (k := cells + 0) (n := slots + 0) (by omega) (by omega) ?_
                      obtain rfl := k_some hf
                      exact ih b4 b5 gm sn hs qs k0 k1 k2 k3 ch o tr es op fo has rt (s173.1 + 1, w75) q (k_inl hq) CX SX (cells + 0) (slots + 0) hcx hsx (by omega) (by omega) ls H locs (lv_sub hl [1, 2, 3, 4, 5, 6, 0] rfl) hP hD hS kx
                obtain ⟨x76, hx76, hf⟩ := k_B hf
                refine W.widen (k := (cells + 0)) (n := (slots + 0)) (by omega) (by omega) ?_
                refine L173 _ 1000 0 s44.2.1 v69.2.1 sn v69.2.2.1 v69.2.2.2.1 v69.2.2.2.2.1 v69.2.2.2.2.2.1 v69.2.2.2.2.2.2.1 v69.2.2.2.2.2.2.2 ch o tr s44.2.2.2.2.2.2.2.2.2.1 s44.2.2.2.2.2.2.2.2.2.2.1 s44.2.2.2.2.2.2.2.2.2.2.2.1 has w72 (0, s44.2.2.2.2.2.2.2.2.2.2.2.2.1) x76 hx76 (cells + 0) (slots + 0) (cells + 0) (slots + 0) (Nat.le_trans (by omega) hcx) (Nat.le_trans (by omega) hsx) (by omega) (by omega) ls H locs (lv_sub hl [2, 3, 4, 5, 1, 6, 0] rfl) hP hD hS ?_
                intro ls H locs hl hP hD hS
                refine lv_goto (tgt := 419) hx hb dL_law_191 (by decide) ?_
                refine W.widen (k := (cells + 2)) (n := (slots + 12)) (by omega) (by omega) ?_
                obtain rfl := k_some hf
                exact kj17 ls H locs (lv_sub hl [0, 1, 2, 3, 4, 5] rfl) hP hD hS
              · have hf := k_F c71 hf
                refine lv_iconst (v := 0) hx hb dL_law_161 (by decide) ?_
                cases hf
            · have hf := k_F c68 hf
              refine lv_iload hx hb dL_law_140 (lv_at hl 6 rfl) ?_
              refine lv_bipush (v := 97) hx hb dL_law_142 (by decide) ?_
              refine lv_irem hx hb dL_law_144 (by decide) ?_
              refine lv_iconst (v := 5) hx hb dL_law_145 (by decide) ?_
              refine lv_icmp_ne (tgt := 194) hx hb dL_law_146 (by decide) (fun c77 => ?_) (fun c77 => ?_)
              · have hf := k_F c77 hf
                refine lv_iload hx hb dL_law_194 (lv_at hl 4 rfl) ?_
                refine lv_iload hx hb dL_law_196 (lv_at hl 7 rfl) ?_
                refine lv_ishr hx hb dL_law_198 ?_
                refine lv_iconst (v := 1) hx hb dL_law_199 (by decide) ?_
                refine lv_iand hx hb dL_law_200 ?_
                refine lv_iconst (v := 1) hx hb dL_law_201 (by decide) ?_
                refine lv_icmp_ne (tgt := 229) hx hb dL_law_202 (by decide) (fun c78 => ?_) (fun c78 => ?_)
                · have hf := k_F c78 hf
                  refine lv_iload hx hb dL_law_229 (lv_at hl 4 rfl) ?_
                  refine lv_iload hx hb dL_law_231 (lv_at hl 7 rfl) ?_
                  obtain ⟨v79, hv79, hf⟩ := k_B hf
                  refine k_callS (As := [.int s44.1, .int x15.1]) (rest := []) ⟨hx, hb, hml, hown, hts⟩ (c_L_close l s44.1 x15.1 v79 hv79) (va_cwS 2 hts gL_law_L_close rfl rfl rfl hd_L_close ⟨Nat.le_of_ble_eq_true rfl, Nat.le_of_ble_eq_true rfl⟩) rfl hl.1 rfl (Nat.le_of_ble_eq_true rfl) dL_law_233 ⟨Nat.le_trans (by omega) hcx, Nat.le_trans (by omega) hsx⟩ ?_
                  refine lv_istore (lv' := [(8, .int v79), (0, .ref b), (1, .ref h0), (2, .ref ac), (3, .ref tr5), (4, .int s44.1), (5, .int s44.2.1), (6, .int y7), (7, .int x15.1)]) hx hb dL_law_236 hl (by decide) rfl (fun ls hl => ?_)
                  refine lv_iload hx hb dL_law_238 (lv_at hl 5 rfl) ?_
                  refine lv_iconst (v := 1) hx hb dL_law_240 (by decide) ?_
                  refine lv_iload hx hb dL_law_241 (lv_at hl 8 rfl) ?_
                  refine lv_ishl hx hb dL_law_243 ?_
                  refine lv_ior hx hb dL_law_244 ?_
                  obtain ⟨y80, ey80, hf⟩ := k_L hf
                  refine k_name ey80 ?_
                  refine lv_istore (lv' := [(4, .int y80), (8, .int v79), (0, .ref b), (1, .ref h0), (2, .ref ac), (3, .ref tr5), (5, .int s44.2.1), (6, .int y7), (7, .int x15.1)]) hx hb dL_law_245 hl (by decide) rfl (fun ls hl => ?_)
                  refine lv_iconst (v := 0) hx hb dL_law_247 (by decide) ?_
                  refine lv_istore (lv' := [(9, .int 0), (4, .int y80), (8, .int v79), (0, .ref b), (1, .ref h0), (2, .ref ac), (3, .ref tr5), (5, .int s44.2.1), (6, .int y7), (7, .int x15.1)]) hx hb dL_law_248 hl (by decide) rfl (fun ls hl => ?_)
                  have L250 : ∀ (Q : State → Prop) (n : Nat) (b4 : Int32) (b5 : Int32) (b7 : Int32) (b8 : Int32) (gm : k_G8) (sn : k_G8) (hs : Int32) (qs : k_Q4) (k0 : k_G8) (k1 : k_G8) (k2 : k_G8) (k3 : k_G8) (ch : Nat → Int32) (o : k_O5) (tr : k_G8) (es : Int32) (op : Nat → Int32) (fo : Nat → Int32) (has : Int32) (rt : Nat → Int32) (s250 : Int32 × (Nat → Int32)) (q : Int32 × (Nat → Int32)), k_loop (t_L_law_250 xs L b4 b5 b7 b8 rt) n s250 = some q → ∀ (CX SX cells slots : Nat), CX ≤ room_1.cells → SX ≤ room_1.slots → cells + n * 0 ≤ CX → slots + n * 0 ≤ SX → ∀ (ls : Array Slot) (H : Heap) (locs : List Loc), lv_has ls 11 [(0, .ref b), (1, .ref h0), (2, .ref ac), (3, .ref tr5), (4, .int b4), (5, .int b5), (7, .int b7), (8, .int b8), (9, .int s250.1)] → va_P D vwCl (wX7 cy h0 gma sna hia ka ora cha tra ena opa foa gm sn hs qs k0 k1 k2 k3 ch o tr es op fo has ++ [wR cy 0 12 ac s250.2, wR cy 0 5 tr5 rt]) H → va_D (k_A s) (wX7 cy h0 gma sna hia ka ora cha tra ena opa foa gm sn hs qs k0 k1 k2 k3 ch o tr es op fo has ++ [wR cy 0 12 ac s250.2, wR cy 0 5 tr5 rt]) → va_S (k_A s) s.heap H locs → (∀ (ls : Array Slot) (H : Heap) (locs : List Loc), lv_has ls 11 [(0, .ref b), (1, .ref h0), (2, .ref ac), (3, .ref tr5), (4, .int b4), (5, .int b5), (7, .int b7), (8, .int b8)] → va_P D vwCl (wX7 cy h0 gma sna hia ka ora cha tra ena opa foa gm sn hs qs k0 k1 k2 k3 ch o tr es op fo has ++ [wR cy 0 12 ac q.2, wR cy 0 5 tr5 rt]) H → va_D (k_A s) (wX7 cy h0 gma sna hia ka ora cha tra ena opa foa gm sn hs qs k0 k1 k2 k3 ch o tr es op fo has ++ [wR cy 0 12 ac q.2, wR cy 0 5 tr5 rt]) → va_S (k_A s) s.heap H locs → W p l e room_1 s m #[Value.ref b] below meth c H locs CX SX Q (F0 m 299 ls [])) → W p l e room_1 s m #[Value.ref b] below meth c H locs cells slots Q (F0 m 250 ls []) := by
                    intro Q n
                    induction n with
                    | zero =>
                      intro b4 b5 b7 b8 gm sn hs qs k0 k1 k2 k3 ch o tr es op fo has rt s250 q hq
                      exact (k_loop0 hq).elim
                    | succ n ih =>
                      intro b4 b5 b7 b8 gm sn hs qs k0 k1 k2 k3 ch o tr es op fo has rt s250 q hq CX SX cells slots hcx hsx hcc hss ls H locs hl hP hD hS kx
                      obtain ⟨x, hf, hq⟩ := k_loopE hq
                      unfold t_L_law_250 at hf
                      refine lv_iload hx hb dL_law_250 (lv_at hl 8 rfl) ?_
                      refine lv_iconst (v := 2) hx hb dL_law_252 (by decide) ?_
                      refine lv_icmp_ge (tgt := 299) hx hb dL_law_253 (by decide) (fun c81 => ?_) (fun c81 => ?_)
                      · have hf := k_T c81 hf
                        refine W.widen (k := CX) (n := SX) (by omega) (by omega) ?_
                        obtain rfl := k_some hf
                        obtain rfl := k_some (k_inr hq)
                        exact kx ls H locs (lv_sub hl [0, 1, 2, 3, 4, 5, 6, 7] rfl) hP hD hS
                      · have hf := k_F c81 hf
                        refine lv_iload hx hb dL_law_256 (lv_at hl 7 rfl) ?_
                        refine lv_if_le (tgt := 299) hx hb dL_law_258 (by decide) (fun c82 => ?_) (fun c82 => ?_)
                        · have hf := k_T c82 hf
                          refine W.widen (k := CX) (n := SX) (by omega) (by omega) ?_
                          obtain rfl := k_some hf
                          obtain rfl := k_some (k_inr hq)
                          exact kx ls H locs (lv_sub hl [0, 1, 2, 3, 4, 5, 6, 7] rfl) hP hD hS
                        · have hf := k_F c82 hf
                          refine lv_iload hx hb dL_law_261 (lv_at hl 6 rfl) ?_
                          refine lv_iload hx hb dL_law_263 (lv_at hl 8 rfl) ?_
                          obtain ⟨v83, hv83, hf⟩ := k_B hf
                          refine k_callS (As := [.int b7, .int s250.1]) (rest := []) ⟨hx, hb, hml, hown, hts⟩ (c_L_beside l b7 s250.1 v83 hv83) (va_cwS 2 hts gL_law_L_beside rfl rfl rfl hd_L_beside ⟨Nat.le_of_ble_eq_true rfl, Nat.le_of_ble_eq_true rfl⟩) rfl hl.1 rfl (Nat.le_of_ble_eq_true rfl) dL_law_265 ⟨Nat.le_trans (by omega) hcx, Nat.le_trans (by omega) hsx⟩ ?_
                          refine lv_istore (lv' := [(10, .int v83), (0, .ref b), (1, .ref h0), (2, .ref ac), (3, .ref tr5), (4, .int b4), (5, .int b5), (7, .int b7), (8, .int b8), (9, .int s250.1)]) hx hb dL_law_268 hl (by decide) rfl (fun ls hl => ?_)
                          refine lv_iload hx hb dL_law_270 (lv_at hl 0 rfl) ?_
                          obtain ⟨j84, hj84, hf⟩ := k_B hf
                          refine k_joinH (nL := 11) (J := 293) (D := D) (A := (k_A s)) (H0 := s.heap) (w' := (wX7 cy h0 gma sna hia ka ora cha tra ena opa foa gm sn hs qs k0 k1 k2 k3 ch o tr es op fo has ++ [wR cy 0 12 ac j84, wR cy 0 5 tr5 rt])) (L := [(0, .ref b), (1, .ref h0), (2, .ref ac), (3, .ref tr5), (4, .int b4), (5, .int b5), (7, .int b7), (8, .int b8), (9, .int s250.1)]) (stk := []) (cells' := (cells + 0)) (slots' := (slots + 0)) (fun ls H locs hl hP hD hS => ?_) (fun kj84 => ?_)
                          · refine lv_iinc (v := s250.1 + 1) (lv' := [(9, .int (s250.1 + 1)), (0, .ref b), (1, .ref h0), (2, .ref ac), (3, .ref tr5), (4, .int b4), (5, .int b5), (7, .int b7), (8, .int b8)]) hx hb dL_law_293 hl (k := 8) rfl rfl (by decide) rfl (fun ls hl => ?_)
                            refine lv_goto (tgt := 250) hx hb dL_law_296 (by decide) ?_
                            refine W.widen (k := cells + 0) (n := slots + 0) (by omega) (by omega) ?_
                            obtain rfl := k_some hf
                            exact ih b4 b5 b7 b8 gm sn hs qs k0 k1 k2 k3 ch o tr es op fo has rt (s250.1 + 1, j84) q (k_inl hq) CX SX (cells + 0) (slots + 0) hcx hsx (by omega) (by omega) ls H locs (lv_sub hl [1, 2, 3, 4, 5, 6, 7, 8, 0] rfl) hP hD hS kx
                          · have hf := hj84
                            refine lv_if_lt (tgt := 293) hx hb dL_law_272 (by decide) (fun c85 => ?_) (fun c85 => ?_)
                            · have hf := k_T c85 hf
                              refine W.widen (k := (cells + 0)) (n := (slots + 0)) (by omega) (by omega) ?_
                              obtain rfl := k_some hf
                              exact kj84 ls H locs (lv_sub hl [1, 2, 3, 4, 5, 6, 7, 8, 9] rfl) hP hD hS
                            · have hf := k_F c85 hf
                              refine lv_iload hx hb dL_law_275 (lv_at hl 5 rfl) ?_
                              refine lv_iload hx hb dL_law_277 (lv_at hl 0 rfl) ?_
                              obtain ⟨v86, hv86, hf⟩ := k_B hf
                              refine k_callS (As := [.int b4, .int v83]) (rest := []) ⟨hx, hb, hml, hown, hts⟩ (c_L_has l b4 v83 v86 hv86) (va_cwS 2 hts gL_law_L_has rfl rfl rfl hd_L_has ⟨Nat.le_of_ble_eq_true rfl, Nat.le_of_ble_eq_true rfl⟩) rfl hl.1 rfl (Nat.le_of_ble_eq_true rfl) dL_law_279 ⟨Nat.le_trans (by omega) hcx, Nat.le_trans (by omega) hsx⟩ ?_
                              refine lv_iconst (v := 4) hx hb dL_law_282 (by decide) ?_
                              refine lv_icmp_ne (tgt := 293) hx hb dL_law_283 (by decide) (fun c87 => ?_) (fun c87 => ?_)
                              · have hf := k_F c87 hf
                                refine W.widen (k := (cells + 0)) (n := (slots + 0)) (by omega) (by omega) ?_
                                obtain rfl := k_some hf
                                exact kj84 ls H locs (lv_sub hl [1, 2, 3, 4, 5, 6, 7, 8, 9] rfl) hP hD hS
                              · have hf := k_T c87 hf
                                refine lv_aload_n hx hb dL_law_286 rfl (lv_at hl 3 rfl) ?_
                                refine lv_iload hx hb dL_law_287 (lv_at hl 0 rfl) ?_
                                refine lv_aload_n hx hb dL_law_289 rfl (lv_at hl 4 rfl) ?_
                                refine lv_iconst (v := 0) hx hb dL_law_290 (by decide) ?_
                                refine va_iald hx hb hK hP 16 0 rfl rfl (k_in (i := 0) (n := 5) (by decide +kernel)) dL_law_291 ?_
                                refine k_name (v := rt 0) rfl ?_
                                obtain ⟨g88, hf⟩ := k_G hf
                                refine va_iast hx hb hK hP hD hS 15 0 rfl rfl g88 dL_law_292 (fun H locs hP hD hS => ?_)
                                obtain ⟨w89, ew89, hf⟩ := k_L hf
                                have hP : va_P D vwCl (wX7 cy h0 gma sna hia ka ora cha tra ena opa foa gm sn hs qs k0 k1 k2 k3 ch o tr es op fo has ++ [wR cy 0 12 ac w89, wR cy 0 5 tr5 rt]) H := by rw [ew89]; exact hP
                                have hD : va_D (k_A s) (wX7 cy h0 gma sna hia ka ora cha tra ena opa foa gm sn hs qs k0 k1 k2 k3 ch o tr es op fo has ++ [wR cy 0 12 ac w89, wR cy 0 5 tr5 rt]) := by rw [ew89]; exact hD
                                refine W.widen (k := (cells + 0)) (n := (slots + 0)) (by omega) (by omega) ?_
                                obtain rfl := k_some hf
                                exact kj84 ls H locs (lv_sub hl [1, 2, 3, 4, 5, 6, 7, 8, 9] rfl) hP hD hS
                  obtain ⟨x90, hx90, hf⟩ := k_B hf
                  refine W.widen (k := (cells + 0)) (n := (slots + 0)) (by omega) (by omega) ?_
                  refine L250 _ 1000 y80 s44.2.1 x15.1 v79 s44.2.2.1 sn s44.2.2.2.1 s44.2.2.2.2.1 s44.2.2.2.2.2.1 s44.2.2.2.2.2.2.1 s44.2.2.2.2.2.2.2.1 s44.2.2.2.2.2.2.2.2.1 ch o tr s44.2.2.2.2.2.2.2.2.2.1 s44.2.2.2.2.2.2.2.2.2.2.1 s44.2.2.2.2.2.2.2.2.2.2.2.1 has s44.2.2.2.2.2.2.2.2.2.2.2.2.2 (0, s44.2.2.2.2.2.2.2.2.2.2.2.2.1) x90 hx90 (cells + 0) (slots + 0) (cells + 0) (slots + 0) (Nat.le_trans (by omega) hcx) (Nat.le_trans (by omega) hsx) (by omega) (by omega) ls H locs (lv_sub hl [3, 4, 5, 6, 1, 7, 9, 2, 0] rfl) hP hD hS ?_
                  intro ls H locs hl hP hD hS
                  refine lv_aload_n hx hb dL_law_299 rfl (lv_at hl 3 rfl) ?_
                  refine lv_iconst (v := 0) hx hb dL_law_300 (by decide) ?_
                  refine lv_iload hx hb dL_law_301 (lv_at hl 7 rfl) ?_
                  obtain ⟨j91, hj91, hf⟩ := k_B hf
                  refine k_joinH (nL := 11) (J := 317) (D := D) (A := (k_A s)) (H0 := s.heap) (w' := (wX7 cy h0 gma sna hia ka ora cha tra ena opa foa s44.2.2.1 sn s44.2.2.2.1 s44.2.2.2.2.1 s44.2.2.2.2.2.1 s44.2.2.2.2.2.2.1 s44.2.2.2.2.2.2.2.1 s44.2.2.2.2.2.2.2.2.1 ch o tr s44.2.2.2.2.2.2.2.2.2.1 s44.2.2.2.2.2.2.2.2.2.2.1 s44.2.2.2.2.2.2.2.2.2.2.2.1 has ++ [wR cy 0 12 ac x90.2, wR cy 0 5 tr5 s44.2.2.2.2.2.2.2.2.2.2.2.2.2])) (L := [(0, .ref b), (1, .ref h0), (2, .ref ac), (3, .ref tr5), (4, .int y80), (5, .int s44.2.1), (7, .int x15.1), (8, .int v79)]) (stk := [.int j91, .int 0, .ref tr5]) (cells' := (cells + 0)) (slots' := (slots + 0)) (fun ls H locs hl hP hD hS => ?_) (fun kj91 => ?_)
                  · refine va_iast hx hb hK hP hD hS 16 0 rfl rfl (k_in (i := 0) (n := 5) (by decide +kernel)) dL_law_317 (fun H locs hP hD hS => ?_)
                    obtain ⟨w93, ew93, hf⟩ := k_L hf
                    have hP : va_P D vwCl (wX7 cy h0 gma sna hia ka ora cha tra ena opa foa s44.2.2.1 sn s44.2.2.2.1 s44.2.2.2.2.1 s44.2.2.2.2.2.1 s44.2.2.2.2.2.2.1 s44.2.2.2.2.2.2.2.1 s44.2.2.2.2.2.2.2.2.1 ch o tr s44.2.2.2.2.2.2.2.2.2.1 s44.2.2.2.2.2.2.2.2.2.2.1 s44.2.2.2.2.2.2.2.2.2.2.2.1 has ++ [wR cy 0 12 ac x90.2, wR cy 0 5 tr5 w93]) H := by rw [ew93]; exact hP
                    have hD : va_D (k_A s) (wX7 cy h0 gma sna hia ka ora cha tra ena opa foa s44.2.2.1 sn s44.2.2.2.1 s44.2.2.2.2.1 s44.2.2.2.2.2.1 s44.2.2.2.2.2.2.1 s44.2.2.2.2.2.2.2.1 s44.2.2.2.2.2.2.2.2.1 ch o tr s44.2.2.2.2.2.2.2.2.2.1 s44.2.2.2.2.2.2.2.2.2.2.1 s44.2.2.2.2.2.2.2.2.2.2.2.1 has ++ [wR cy 0 12 ac x90.2, wR cy 0 5 tr5 w93]) := by rw [ew93]; exact hD
                    refine lv_aload_n hx hb dL_law_318 rfl (lv_at hl 3 rfl) ?_
                    refine lv_iconst (v := 4) hx hb dL_law_319 (by decide) ?_
                    refine lv_dup2_11 hx hb dL_law_320 rfl rfl ?_
                    refine va_iald hx hb hK hP 16 0 rfl rfl (k_in (i := 4) (n := 5) (by decide +kernel)) dL_law_321 ?_
                    refine k_name (v := w93 4) rfl ?_
                    refine lv_iload hx hb dL_law_322 (lv_at hl 7 rfl) ?_
                    refine lv_iconst (v := 2) hx hb dL_law_324 (by decide) ?_
                    obtain ⟨j94, hj94, hf⟩ := k_B hf
                    refine k_joinH (nL := 11) (J := 333) (D := D) (A := (k_A s)) (H0 := s.heap) (w' := (wX7 cy h0 gma sna hia ka ora cha tra ena opa foa s44.2.2.1 sn s44.2.2.2.1 s44.2.2.2.2.1 s44.2.2.2.2.2.1 s44.2.2.2.2.2.2.1 s44.2.2.2.2.2.2.2.1 s44.2.2.2.2.2.2.2.2.1 ch o tr s44.2.2.2.2.2.2.2.2.2.1 s44.2.2.2.2.2.2.2.2.2.2.1 s44.2.2.2.2.2.2.2.2.2.2.2.1 has ++ [wR cy 0 12 ac x90.2, wR cy 0 5 tr5 w93])) (L := [(0, .ref b), (1, .ref h0), (2, .ref ac), (3, .ref tr5), (4, .int y80), (5, .int s44.2.1), (7, .int x15.1), (8, .int v79)]) (stk := [.int j94, .int (w93 4), .int 4, .ref tr5]) (cells' := (cells + 0)) (slots' := (slots + 0)) (fun ls H locs hl hP hD hS => ?_) (fun kj94 => ?_)
                    · refine lv_iadd hx hb dL_law_333 ?_
                      refine va_iast hx hb hK hP hD hS 16 0 rfl rfl (k_in (i := 4) (n := 5) (by decide +kernel)) dL_law_334 (fun H locs hP hD hS => ?_)
                      obtain ⟨w96, ew96, hf⟩ := k_L hf
                      have hP : va_P D vwCl (wX7 cy h0 gma sna hia ka ora cha tra ena opa foa s44.2.2.1 sn s44.2.2.2.1 s44.2.2.2.2.1 s44.2.2.2.2.2.1 s44.2.2.2.2.2.2.1 s44.2.2.2.2.2.2.2.1 s44.2.2.2.2.2.2.2.2.1 ch o tr s44.2.2.2.2.2.2.2.2.2.1 s44.2.2.2.2.2.2.2.2.2.2.1 s44.2.2.2.2.2.2.2.2.2.2.2.1 has ++ [wR cy 0 12 ac x90.2, wR cy 0 5 tr5 w96]) H := by rw [ew96]; exact hP
                      have hD : va_D (k_A s) (wX7 cy h0 gma sna hia ka ora cha tra ena opa foa s44.2.2.1 sn s44.2.2.2.1 s44.2.2.2.2.1 s44.2.2.2.2.2.1 s44.2.2.2.2.2.2.1 s44.2.2.2.2.2.2.2.1 s44.2.2.2.2.2.2.2.2.1 ch o tr s44.2.2.2.2.2.2.2.2.2.1 s44.2.2.2.2.2.2.2.2.2.2.1 s44.2.2.2.2.2.2.2.2.2.2.2.1 has ++ [wR cy 0 12 ac x90.2, wR cy 0 5 tr5 w96]) := by rw [ew96]; exact hD
                      refine lv_iconst (v := 0) hx hb dL_law_335 (by decide) ?_
                      refine lv_istore (lv' := [(9, .int 0), (0, .ref b), (1, .ref h0), (2, .ref ac), (3, .ref tr5), (4, .int y80), (5, .int s44.2.1), (7, .int x15.1), (8, .int v79)]) hx hb dL_law_336 hl (by decide) rfl (fun ls hl => ?_)
                      refine lv_iconst (v := 0) hx hb dL_law_338 (by decide) ?_
                      refine lv_istore (lv' := [(10, .int 0), (9, .int 0), (0, .ref b), (1, .ref h0), (2, .ref ac), (3, .ref tr5), (4, .int y80), (5, .int s44.2.1), (7, .int x15.1), (8, .int v79)]) hx hb dL_law_339 hl (by decide) rfl (fun ls hl => ?_)
                      have L341 : ∀ (Q : State → Prop) (n : Nat) (b4 : Int32) (b5 : Int32) (b7 : Int32) (b8 : Int32) (gm : k_G8) (sn : k_G8) (hs : Int32) (qs : k_Q4) (k0 : k_G8) (k1 : k_G8) (k2 : k_G8) (k3 : k_G8) (ch : Nat → Int32) (o : k_O5) (tr : k_G8) (es : Int32) (op : Nat → Int32) (fo : Nat → Int32) (has : Int32) (rc : Nat → Int32) (rt : Nat → Int32) (s341 : Int32 × Int32) (q : Int32 × Int32), k_loop (t_L_law_341 xs L b4 b5 b7 b8 rc) n s341 = some q → ∀ (CX SX cells slots : Nat), CX ≤ room_1.cells → SX ≤ room_1.slots → cells + n * 0 ≤ CX → slots + n * 0 ≤ SX → ∀ (ls : Array Slot) (H : Heap) (locs : List Loc), lv_has ls 11 [(0, .ref b), (1, .ref h0), (2, .ref ac), (3, .ref tr5), (4, .int b4), (5, .int b5), (7, .int b7), (8, .int b8), (9, .int s341.1), (10, .int s341.2)] → va_P D vwCl (wX7 cy h0 gma sna hia ka ora cha tra ena opa foa gm sn hs qs k0 k1 k2 k3 ch o tr es op fo has ++ [wR cy 0 12 ac rc, wR cy 0 5 tr5 rt]) H → va_D (k_A s) (wX7 cy h0 gma sna hia ka ora cha tra ena opa foa gm sn hs qs k0 k1 k2 k3 ch o tr es op fo has ++ [wR cy 0 12 ac rc, wR cy 0 5 tr5 rt]) → va_S (k_A s) s.heap H locs → (∀ (ls : Array Slot) (H : Heap) (locs : List Loc), lv_has ls 11 [(0, .ref b), (1, .ref h0), (2, .ref ac), (3, .ref tr5), (4, .int b4), (5, .int b5), (7, .int b7), (8, .int b8), (9, .int q.1)] → va_P D vwCl (wX7 cy h0 gma sna hia ka ora cha tra ena opa foa gm sn hs qs k0 k1 k2 k3 ch o tr es op fo has ++ [wR cy 0 12 ac rc, wR cy 0 5 tr5 rt]) H → va_D (k_A s) (wX7 cy h0 gma sna hia ka ora cha tra ena opa foa gm sn hs qs k0 k1 k2 k3 ch o tr es op fo has ++ [wR cy 0 12 ac rc, wR cy 0 5 tr5 rt]) → va_S (k_A s) s.heap H locs → W p l e room_1 s m #[Value.ref b] below meth c H locs CX SX Q (F0 m 371 ls [])) → W p l e room_1 s m #[Value.ref b] below meth c H locs cells slots Q (F0 m 341 ls []) := by
                        intro Q n
                        induction n with
                        | zero =>
                          intro b4 b5 b7 b8 gm sn hs qs k0 k1 k2 k3 ch o tr es op fo has rc rt s341 q hq
                          exact (k_loop0 hq).elim
                        | succ n ih =>
                          intro b4 b5 b7 b8 gm sn hs qs k0 k1 k2 k3 ch o tr es op fo has rc rt s341 q hq CX SX cells slots hcx hsx hcc hss ls H locs hl hP hD hS kx
                          obtain ⟨x, hf, hq⟩ := k_loopE hq
                          unfold t_L_law_341 at hf
                          refine lv_iload hx hb dL_law_341 (lv_at hl 9 rfl) ?_
                          refine lv_bipush (v := 12) hx hb dL_law_343 (by decide) ?_
                          refine lv_icmp_ge (tgt := 371) hx hb dL_law_345 (by decide) (fun c97 => ?_) (fun c97 => ?_)
                          · have hf := k_T c97 hf
                            refine W.widen (k := CX) (n := SX) (by omega) (by omega) ?_
                            obtain rfl := k_some hf
                            obtain rfl := k_some (k_inr hq)
                            exact kx ls H locs (lv_sub hl [0, 1, 2, 3, 4, 5, 6, 7, 8] rfl) hP hD hS
                          · have hf := k_F c97 hf
                            refine lv_iload hx hb dL_law_348 (lv_at hl 8 rfl) ?_
                            refine lv_aload_n hx hb dL_law_350 rfl (lv_at hl 2 rfl) ?_
                            refine lv_iload hx hb dL_law_351 (lv_at hl 9 rfl) ?_
                            obtain ⟨g98, hf⟩ := k_G hf
                            refine va_iald hx hb hK hP 15 0 rfl rfl g98 dL_law_353 ?_
                            obtain ⟨j99, hj99, hf⟩ := k_B hf
                            refine k_joinH (nL := 11) (J := 362) (D := D) (A := (k_A s)) (H0 := s.heap) (w' := (wX7 cy h0 gma sna hia ka ora cha tra ena opa foa gm sn hs qs k0 k1 k2 k3 ch o tr es op fo has ++ [wR cy 0 12 ac rc, wR cy 0 5 tr5 rt])) (L := [(0, .ref b), (1, .ref h0), (2, .ref ac), (3, .ref tr5), (4, .int b4), (5, .int b5), (7, .int b7), (8, .int b8), (10, .int s341.2)]) (stk := [.int j99, .int s341.1]) (cells' := (cells + 0)) (slots' := (slots + 0)) (fun ls H locs hl hP hD hS => ?_) (fun kj99 => ?_)
                            · refine lv_iadd hx hb dL_law_362 ?_
                              obtain ⟨y101, ey101, hf⟩ := k_L hf
                              refine k_name ey101 ?_
                              refine lv_istore (lv' := [(9, .int y101), (0, .ref b), (1, .ref h0), (2, .ref ac), (3, .ref tr5), (4, .int b4), (5, .int b5), (7, .int b7), (8, .int b8), (10, .int s341.2)]) hx hb dL_law_363 hl (by decide) rfl (fun ls hl => ?_)
                              refine lv_iinc (v := s341.2 + 1) (lv' := [(10, .int (s341.2 + 1)), (9, .int y101), (0, .ref b), (1, .ref h0), (2, .ref ac), (3, .ref tr5), (4, .int b4), (5, .int b5), (7, .int b7), (8, .int b8)]) hx hb dL_law_365 hl (k := 9) rfl rfl (by decide) rfl (fun ls hl => ?_)
                              refine lv_goto (tgt := 341) hx hb dL_law_368 (by decide) ?_
                              refine W.widen (k := cells + 0) (n := slots + 0) (by omega) (by omega) ?_
                              obtain rfl := k_some hf
                              exact ih b4 b5 b7 b8 gm sn hs qs k0 k1 k2 k3 ch o tr es op fo has rc rt (y101, s341.2 + 1) q (k_inl hq) CX SX (cells + 0) (slots + 0) hcx hsx (by omega) (by omega) ls H locs (lv_sub hl [2, 3, 4, 5, 6, 7, 8, 9, 1, 0] rfl) hP hD hS kx
                            · have hf := hj99
                              refine lv_if_ne (tgt := 361) hx hb dL_law_354 (by decide) (fun c100 => ?_) (fun c100 => ?_)
                              · have hf := k_F c100 hf
                                refine lv_iconst (v := (-1)) hx hb dL_law_361 (by decide) ?_
                                refine W.widen (k := (cells + 0)) (n := (slots + 0)) (by omega) (by omega) ?_
                                obtain rfl := k_some hf
                                exact kj99 ls H locs (lv_sub hl [0, 1, 2, 3, 4, 5, 6, 7, 9] rfl) hP hD hS
                              · have hf := k_T c100 hf
                                refine lv_iconst (v := 1) hx hb dL_law_357 (by decide) ?_
                                refine lv_goto (tgt := 362) hx hb dL_law_358 (by decide) ?_
                                refine W.widen (k := (cells + 0)) (n := (slots + 0)) (by omega) (by omega) ?_
                                obtain rfl := k_some hf
                                exact kj99 ls H locs (lv_sub hl [0, 1, 2, 3, 4, 5, 6, 7, 9] rfl) hP hD hS
                      obtain ⟨x102, hx102, hf⟩ := k_B hf
                      refine W.widen (k := (cells + 0)) (n := (slots + 0)) (by omega) (by omega) ?_
                      refine L341 _ 1000 y80 s44.2.1 x15.1 v79 s44.2.2.1 sn s44.2.2.2.1 s44.2.2.2.2.1 s44.2.2.2.2.2.1 s44.2.2.2.2.2.2.1 s44.2.2.2.2.2.2.2.1 s44.2.2.2.2.2.2.2.2.1 ch o tr s44.2.2.2.2.2.2.2.2.2.1 s44.2.2.2.2.2.2.2.2.2.2.1 s44.2.2.2.2.2.2.2.2.2.2.2.1 has x90.2 w96 (0, 0) x102 hx102 (cells + 0) (slots + 0) (cells + 0) (slots + 0) (Nat.le_trans (by omega) hcx) (Nat.le_trans (by omega) hsx) (by omega) (by omega) ls H locs (lv_sub hl [2, 3, 4, 5, 6, 7, 8, 9, 1, 0] rfl) hP hD hS ?_
                      intro ls H locs hl hP hD hS
                      refine lv_iload hx hb dL_law_371 (lv_at hl 4 rfl) ?_
                      obtain ⟨v103, hv103, hf⟩ := k_B hf
                      refine k_callS (As := [.int y80]) (rest := []) ⟨hx, hb, hml, hown, hts⟩ (c_L_count l y80 v103 hv103) (va_cwS 1 hts gL_law_L_count rfl rfl rfl hd_L_count ⟨Nat.le_of_ble_eq_true rfl, Nat.le_of_ble_eq_true rfl⟩) rfl hl.1 rfl (Nat.le_of_ble_eq_true rfl) dL_law_373 ⟨Nat.le_trans (by omega) hcx, Nat.le_trans (by omega) hsx⟩ ?_
                      refine lv_bipush (v := 31) hx hb dL_law_376 (by decide) ?_
                      obtain ⟨j104, hj104, hf⟩ := k_B hf
                      refine k_joinH (nL := 11) (J := 406) (D := D) (A := (k_A s)) (H0 := s.heap) (w' := (wX7 cy h0 gma sna hia ka ora cha tra ena opa foa s44.2.2.1 sn s44.2.2.2.1 s44.2.2.2.2.1 s44.2.2.2.2.2.1 s44.2.2.2.2.2.2.1 s44.2.2.2.2.2.2.2.1 s44.2.2.2.2.2.2.2.2.1 ch o tr s44.2.2.2.2.2.2.2.2.2.1 s44.2.2.2.2.2.2.2.2.2.2.1 s44.2.2.2.2.2.2.2.2.2.2.2.1 has ++ [wR cy 0 12 ac x90.2, wR cy 0 5 tr5 j104])) (L := [(0, .ref b), (1, .ref h0), (2, .ref ac), (3, .ref tr5), (4, .int y80), (5, .int s44.2.1), (7, .int x15.1), (8, .int v79)]) (stk := []) (cells' := (cells + 0)) (slots' := (slots + 0)) (fun ls H locs hl hP hD hS => ?_) (fun kj104 => ?_)
                      · refine lv_aload_n hx hb dL_law_406 rfl (lv_at hl 1 rfl) ?_
                        refine lv_iload hx hb dL_law_407 (lv_at hl 6 rfl) ?_
                        obtain ⟨v112, hv112, hf⟩ := k_B hf
                        refine k_callLS (As := [.ref h0, .int x15.1]) (rest := []) (isC := [0, 1, 2, 3, 4, 5, 6, 7, 8, 9, 10, 11, 12, 13, 14]) (isR := [15, 16]) (perm := [2, 3, 4, 5, 6, 7, 8, 9, 10, 11, 12, 13, 14, 15, 16, 0, 1]) (w' := (wX7 cy h0 gma sna hia ka ora cha tra ena opa foa v112.2.1 sn v112.2.2.1 v112.2.2.2.1 v112.2.2.2.2.1 v112.2.2.2.2.2.1 v112.2.2.2.2.2.2.1 v112.2.2.2.2.2.2.2 ch o tr s44.2.2.2.2.2.2.2.2.2.1 s44.2.2.2.2.2.2.2.2.2.2.1 s44.2.2.2.2.2.2.2.2.2.2.2.1 has ++ [wR cy 0 12 ac x90.2, wR cy 0 5 tr5 j104])) ⟨hx, hb, hml, hown, hts⟩ (c_L_drawOf l hl9 D cy h0 gma sna hia ka ora cha tra ena opa foa s44.2.2.1 sn s44.2.2.2.1 s44.2.2.2.2.1 s44.2.2.2.2.2.1 s44.2.2.2.2.2.2.1 s44.2.2.2.2.2.2.2.1 s44.2.2.2.2.2.2.2.2.1 ch o tr s44.2.2.2.2.2.2.2.2.2.1 s44.2.2.2.2.2.2.2.2.2.2.1 s44.2.2.2.2.2.2.2.2.2.2.2.1 has x15.1 v112 hv112) (vx_cwSW 2 hts gL_law_L_drawOf rfl rfl rfl hd_L_drawOf ⟨Nat.le_of_ble_eq_true rfl, Nat.le_of_ble_eq_true rfl⟩) hK hN hT hZ hCx hP hD hS hA rfl rfl rfl (by decide) (by decide) rfl (by decide) rfl hl.1 rfl (Nat.le_of_ble_eq_true rfl) dL_law_409 ⟨Nat.le_trans (by omega) hcx, Nat.le_trans (by omega) hsx⟩ (fun H locs hP hD hS => ?_)
                        refine lv_iload hx hb dL_law_412 (lv_at hl 7 rfl) ?_
                        refine lv_icmp_eq (tgt := 419) hx hb dL_law_414 (by decide) (fun c113 => ?_) (fun c113 => ?_)
                        · have hf := k_T c113 hf
                          refine W.widen (k := (cells + 2)) (n := (slots + 12)) (by omega) (by omega) ?_
                          obtain rfl := k_some hf
                          exact kj17 ls H locs (lv_sub hl [0, 1, 2, 3, 4, 5] rfl) hP hD hS
                        · have hf := k_F c113 hf
                          refine lv_iconst (v := 0) hx hb dL_law_417 (by decide) ?_
                          cases hf
                      · have hf := hj104
                        refine lv_icmp_ne (tgt := 406) hx hb dL_law_378 (by decide) (fun c105 => ?_) (fun c105 => ?_)
                        · have hf := k_F c105 hf
                          refine W.widen (k := (cells + 0)) (n := (slots + 0)) (by omega) (by omega) ?_
                          obtain rfl := k_some hf
                          exact kj104 ls H locs (lv_sub hl [0, 1, 2, 3, 4, 5, 6, 7] rfl) hP hD hS
                        · have hf := k_T c105 hf
                          refine lv_aload_n hx hb dL_law_381 rfl (lv_at hl 3 rfl) ?_
                          refine lv_iload hx hb dL_law_382 (lv_at hl 8 rfl) ?_
                          obtain ⟨j106, hj106, hf⟩ := k_B hf
                          refine k_joinH (nL := 11) (J := 401) (D := D) (A := (k_A s)) (H0 := s.heap) (w' := (wX7 cy h0 gma sna hia ka ora cha tra ena opa foa s44.2.2.1 sn s44.2.2.2.1 s44.2.2.2.2.1 s44.2.2.2.2.2.1 s44.2.2.2.2.2.2.1 s44.2.2.2.2.2.2.2.1 s44.2.2.2.2.2.2.2.2.1 ch o tr s44.2.2.2.2.2.2.2.2.2.1 s44.2.2.2.2.2.2.2.2.2.2.1 s44.2.2.2.2.2.2.2.2.2.2.2.1 has ++ [wR cy 0 12 ac x90.2, wR cy 0 5 tr5 w96])) (L := [(0, .ref b), (1, .ref h0), (2, .ref ac), (3, .ref tr5), (4, .int y80), (5, .int s44.2.1), (7, .int x15.1), (8, .int v79)]) (stk := [.int j106, .ref tr5]) (cells' := (cells + 0)) (slots' := (slots + 0)) (fun ls H locs hl hP hD hS => ?_) (fun kj106 => ?_)
                          · refine lv_dup2_11 hx hb dL_law_401 rfl rfl ?_
                            obtain ⟨g109, hf⟩ := k_G hf
                            refine va_iald hx hb hK hP 16 0 rfl rfl g109 dL_law_402 ?_
                            refine lv_iconst (v := 1) hx hb dL_law_403 (by decide) ?_
                            refine lv_iadd hx hb dL_law_404 ?_
                            obtain ⟨g110, hf⟩ := k_G hf
                            refine va_iast hx hb hK hP hD hS 16 0 rfl rfl g110 dL_law_405 (fun H locs hP hD hS => ?_)
                            obtain ⟨w111, ew111, hf⟩ := k_L hf
                            have hP : va_P D vwCl (wX7 cy h0 gma sna hia ka ora cha tra ena opa foa s44.2.2.1 sn s44.2.2.2.1 s44.2.2.2.2.1 s44.2.2.2.2.2.1 s44.2.2.2.2.2.2.1 s44.2.2.2.2.2.2.2.1 s44.2.2.2.2.2.2.2.2.1 ch o tr s44.2.2.2.2.2.2.2.2.2.1 s44.2.2.2.2.2.2.2.2.2.2.1 s44.2.2.2.2.2.2.2.2.2.2.2.1 has ++ [wR cy 0 12 ac x90.2, wR cy 0 5 tr5 w111]) H := by rw [ew111]; exact hP
                            have hD : va_D (k_A s) (wX7 cy h0 gma sna hia ka ora cha tra ena opa foa s44.2.2.1 sn s44.2.2.2.1 s44.2.2.2.2.1 s44.2.2.2.2.2.1 s44.2.2.2.2.2.2.1 s44.2.2.2.2.2.2.2.1 s44.2.2.2.2.2.2.2.2.1 ch o tr s44.2.2.2.2.2.2.2.2.2.1 s44.2.2.2.2.2.2.2.2.2.2.1 s44.2.2.2.2.2.2.2.2.2.2.2.1 has ++ [wR cy 0 12 ac x90.2, wR cy 0 5 tr5 w111]) := by rw [ew111]; exact hD
                            refine W.widen (k := (cells + 0)) (n := (slots + 0)) (by omega) (by omega) ?_
                            obtain rfl := k_some hf
                            exact kj104 ls H locs (lv_sub hl [0, 1, 2, 3, 4, 5, 6, 7] rfl) hP hD hS
                          · have hf := hj106
                            refine lv_if_le (tgt := 391) hx hb dL_law_384 (by decide) (fun c107 => ?_) (fun c107 => ?_)
                            · have hf := k_T c107 hf
                              refine lv_iload hx hb dL_law_391 (lv_at hl 8 rfl) ?_
                              refine lv_if_ge (tgt := 400) hx hb dL_law_393 (by decide) (fun c108 => ?_) (fun c108 => ?_)
                              · have hf := k_T c108 hf
                                refine lv_iconst (v := 3) hx hb dL_law_400 (by decide) ?_
                                refine W.widen (k := (cells + 0)) (n := (slots + 0)) (by omega) (by omega) ?_
                                obtain rfl := k_some hf
                                exact kj106 ls H locs (lv_sub hl [0, 1, 2, 3, 4, 5, 6, 7] rfl) hP hD hS
                              · have hf := k_F c108 hf
                                refine lv_iconst (v := 2) hx hb dL_law_396 (by decide) ?_
                                refine lv_goto (tgt := 401) hx hb dL_law_397 (by decide) ?_
                                refine W.widen (k := (cells + 0)) (n := (slots + 0)) (by omega) (by omega) ?_
                                obtain rfl := k_some hf
                                exact kj106 ls H locs (lv_sub hl [0, 1, 2, 3, 4, 5, 6, 7] rfl) hP hD hS
                            · have hf := k_F c107 hf
                              refine lv_iconst (v := 1) hx hb dL_law_387 (by decide) ?_
                              refine lv_goto (tgt := 401) hx hb dL_law_388 (by decide) ?_
                              refine W.widen (k := (cells + 0)) (n := (slots + 0)) (by omega) (by omega) ?_
                              obtain rfl := k_some hf
                              exact kj106 ls H locs (lv_sub hl [0, 1, 2, 3, 4, 5, 6, 7] rfl) hP hD hS
                    · have hf := hj94
                      refine lv_icmp_ne (tgt := 332) hx hb dL_law_325 (by decide) (fun c95 => ?_) (fun c95 => ?_)
                      · have hf := k_F c95 hf
                        refine lv_iconst (v := 0) hx hb dL_law_332 (by decide) ?_
                        refine W.widen (k := (cells + 0)) (n := (slots + 0)) (by omega) (by omega) ?_
                        obtain rfl := k_some hf
                        exact kj94 ls H locs (lv_sub hl [0, 1, 2, 3, 4, 5, 6, 7] rfl) hP hD hS
                      · have hf := k_T c95 hf
                        refine lv_iconst (v := 1) hx hb dL_law_328 (by decide) ?_
                        refine lv_goto (tgt := 333) hx hb dL_law_329 (by decide) ?_
                        refine W.widen (k := (cells + 0)) (n := (slots + 0)) (by omega) (by omega) ?_
                        obtain rfl := k_some hf
                        exact kj94 ls H locs (lv_sub hl [0, 1, 2, 3, 4, 5, 6, 7] rfl) hP hD hS
                  · have hf := hj91
                    refine lv_if_ne (tgt := 314) hx hb dL_law_303 (by decide) (fun c92 => ?_) (fun c92 => ?_)
                    · have hf := k_F c92 hf
                      refine lv_aload_n hx hb dL_law_314 rfl (lv_at hl 3 rfl) ?_
                      refine lv_iconst (v := 0) hx hb dL_law_315 (by decide) ?_
                      refine va_iald hx hb hK hP 16 0 rfl rfl (k_in (i := 0) (n := 5) (by decide +kernel)) dL_law_316 ?_
                      refine k_name (v := s44.2.2.2.2.2.2.2.2.2.2.2.2.2 0) rfl ?_
                      refine W.widen (k := (cells + 0)) (n := (slots + 0)) (by omega) (by omega) ?_
                      obtain rfl := k_some hf
                      exact kj91 ls H locs (lv_sub hl [0, 1, 2, 3, 4, 5, 6, 7] rfl) hP hD hS
                    · have hf := k_T c92 hf
                      refine lv_iconst (v := 1) hx hb dL_law_306 (by decide) ?_
                      refine lv_aload_n hx hb dL_law_307 rfl (lv_at hl 3 rfl) ?_
                      refine lv_iconst (v := 0) hx hb dL_law_308 (by decide) ?_
                      refine va_iald hx hb hK hP 16 0 rfl rfl (k_in (i := 0) (n := 5) (by decide +kernel)) dL_law_309 ?_
                      refine k_name (v := s44.2.2.2.2.2.2.2.2.2.2.2.2.2 0) rfl ?_
                      refine lv_isub hx hb dL_law_310 ?_
                      refine lv_goto (tgt := 317) hx hb dL_law_311 (by decide) ?_
                      refine W.widen (k := (cells + 0)) (n := (slots + 0)) (by omega) (by omega) ?_
                      obtain rfl := k_some hf
                      exact kj91 ls H locs (lv_sub hl [0, 1, 2, 3, 4, 5, 6, 7] rfl) hP hD hS
                · have hf := k_T c78 hf
                  refine lv_aload_n hx hb dL_law_205 rfl (lv_at hl 1 rfl) ?_
                  refine lv_iload hx hb dL_law_206 (lv_at hl 7 rfl) ?_
                  obtain ⟨v114, hv114, hf⟩ := k_B hf
                  refine k_callLS (As := [.ref h0, .int x15.1]) (rest := []) (isC := [0, 1, 2, 3, 4, 5, 6, 7, 8, 9, 10, 11, 12, 13, 14]) (isR := [15, 16]) (perm := [2, 3, 4, 5, 6, 7, 8, 9, 10, 11, 12, 13, 14, 15, 16, 0, 1]) (w' := (wX7 cy h0 gma sna hia ka ora cha tra ena opa foa v114.2.1 sn v114.2.2.1 v114.2.2.2.1 v114.2.2.2.2.1 v114.2.2.2.2.2.1 v114.2.2.2.2.2.2.1 v114.2.2.2.2.2.2.2 ch o tr s44.2.2.2.2.2.2.2.2.2.1 s44.2.2.2.2.2.2.2.2.2.2.1 s44.2.2.2.2.2.2.2.2.2.2.2.1 has ++ [wR cy 0 12 ac s44.2.2.2.2.2.2.2.2.2.2.2.2.1, wR cy 0 5 tr5 s44.2.2.2.2.2.2.2.2.2.2.2.2.2])) ⟨hx, hb, hml, hown, hts⟩ (c_L_drawOf l hl9 D cy h0 gma sna hia ka ora cha tra ena opa foa s44.2.2.1 sn s44.2.2.2.1 s44.2.2.2.2.1 s44.2.2.2.2.2.1 s44.2.2.2.2.2.2.1 s44.2.2.2.2.2.2.2.1 s44.2.2.2.2.2.2.2.2.1 ch o tr s44.2.2.2.2.2.2.2.2.2.1 s44.2.2.2.2.2.2.2.2.2.2.1 s44.2.2.2.2.2.2.2.2.2.2.2.1 has x15.1 v114 hv114) (vx_cwSW 2 hts gL_law_L_drawOf rfl rfl rfl hd_L_drawOf ⟨Nat.le_of_ble_eq_true rfl, Nat.le_of_ble_eq_true rfl⟩) hK hN hT hZ hCx hP hD hS hA rfl rfl rfl (by decide) (by decide) rfl (by decide) rfl hl.1 rfl (Nat.le_of_ble_eq_true rfl) dL_law_208 ⟨Nat.le_trans (by omega) hcx, Nat.le_trans (by omega) hsx⟩ (fun H locs hP hD hS => ?_)
                  refine lv_bipush (v := (-102)) hx hb dL_law_211 (by decide) ?_
                  refine lv_icmp_ne (tgt := 227) hx hb dL_law_213 (by decide) (fun c115 => ?_) (fun c115 => ?_)
                  · have hf := k_F c115 hf
                    refine lv_iconst (v := 0) hx hb dL_law_227 (by decide) ?_
                    cases hf
                  · have hf := k_T c115 hf
                    refine lv_aload_n hx hb dL_law_216 rfl (lv_at hl 1 rfl) ?_
                    refine lv_bipush (v := 31) hx hb dL_law_217 (by decide) ?_
                    obtain ⟨v116, hv116, hf⟩ := k_B hf
                    refine k_callLS (As := [.ref h0, .int 31]) (rest := []) (isC := [0, 1, 2, 3, 4, 5, 6, 7, 8, 9, 10, 11, 12, 13, 14]) (isR := [15, 16]) (perm := [2, 3, 4, 5, 6, 7, 8, 9, 10, 11, 12, 13, 14, 15, 16, 0, 1]) (w' := (wX7 cy h0 gma sna hia ka ora cha tra ena opa foa v116.2.1 sn v116.2.2.1 v116.2.2.2.1 v116.2.2.2.2.1 v116.2.2.2.2.2.1 v116.2.2.2.2.2.2.1 v116.2.2.2.2.2.2.2 ch o tr s44.2.2.2.2.2.2.2.2.2.1 s44.2.2.2.2.2.2.2.2.2.2.1 s44.2.2.2.2.2.2.2.2.2.2.2.1 has ++ [wR cy 0 12 ac s44.2.2.2.2.2.2.2.2.2.2.2.2.1, wR cy 0 5 tr5 s44.2.2.2.2.2.2.2.2.2.2.2.2.2])) ⟨hx, hb, hml, hown, hts⟩ (c_L_drawOf l hl9 D cy h0 gma sna hia ka ora cha tra ena opa foa v114.2.1 sn v114.2.2.1 v114.2.2.2.1 v114.2.2.2.2.1 v114.2.2.2.2.2.1 v114.2.2.2.2.2.2.1 v114.2.2.2.2.2.2.2 ch o tr s44.2.2.2.2.2.2.2.2.2.1 s44.2.2.2.2.2.2.2.2.2.2.1 s44.2.2.2.2.2.2.2.2.2.2.2.1 has 31 v116 hv116) (vx_cwSW 2 hts gL_law_L_drawOf rfl rfl rfl hd_L_drawOf ⟨Nat.le_of_ble_eq_true rfl, Nat.le_of_ble_eq_true rfl⟩) hK hN hT hZ hCx hP hD hS hA rfl rfl rfl (by decide) (by decide) rfl (by decide) rfl hl.1 rfl (Nat.le_of_ble_eq_true rfl) dL_law_219 ⟨Nat.le_trans (by omega) hcx, Nat.le_trans (by omega) hsx⟩ (fun H locs hP hD hS => ?_)
                    refine lv_bipush (v := (-101)) hx hb dL_law_222 (by decide) ?_
                    refine lv_icmp_eq (tgt := 419) hx hb dL_law_224 (by decide) (fun c117 => ?_) (fun c117 => ?_)
                    · have hf := k_T c117 hf
                      refine W.widen (k := (cells + 2)) (n := (slots + 12)) (by omega) (by omega) ?_
                      obtain rfl := k_some hf
                      exact kj17 ls H locs (lv_sub hl [0, 1, 2, 3, 4, 5] rfl) hP hD hS
                    · have hf := k_F c117 hf
                      refine lv_iconst (v := 0) hx hb dL_law_227 (by decide) ?_
                      cases hf
              · have hf := k_T c77 hf
                refine lv_aload_n hx hb dL_law_149 rfl (lv_at hl 1 rfl) ?_
                obtain ⟨v118, hv118, hf⟩ := k_B hf
                refine k_callHV (As := []) (rest := []) (r := (RX7, TX7, 6)) (ci := 4) (q0 := 0) (isC := [0, 1, 2, 3, 4, 5, 6, 7, 8, 9, 10, 11, 12, 13, 14]) (isR := [15, 16]) (perm := [2, 3, 4, 5, 6, 7, 8, 9, 10, 11, 12, 13, 14, 15, 16, 0, 1]) (w' := (wX7 cy h0 gma sna hia ka ora cha tra ena opa foa v118.2.1 sn v118.2.2.1 v118.2.2.2.1 v118.2.2.2.2.1 v118.2.2.2.2.2.1 v118.2.2.2.2.2.2.1 v118.2.2.2.2.2.2.2 ch o tr s44.2.2.2.2.2.2.2.2.2.1 s44.2.2.2.2.2.2.2.2.2.2.1 s44.2.2.2.2.2.2.2.2.2.2.2.1 has ++ [wR cy 0 12 ac s44.2.2.2.2.2.2.2.2.2.2.2.2.1, wR cy 0 5 tr5 s44.2.2.2.2.2.2.2.2.2.2.2.2.2])) ⟨hx, hb, hml, hown, hts⟩ (c_X7_newGame l D cy h0 gma sna hia ka ora cha tra ena opa foa s44.2.2.1 sn s44.2.2.2.1 s44.2.2.2.2.1 s44.2.2.2.2.2.1 s44.2.2.2.2.2.2.1 s44.2.2.2.2.2.2.2.1 s44.2.2.2.2.2.2.2.2.1 ch o tr s44.2.2.2.2.2.2.2.2.2.1 s44.2.2.2.2.2.2.2.2.2.2.1 s44.2.2.2.2.2.2.2.2.2.2.2.1 has  v118 hv118) (cwV 0 hts gL_law_X7_newGame rfl rfl rfl hd_X7_newGame ⟨Nat.le_of_ble_eq_true rfl, Nat.le_of_ble_eq_true rfl⟩) hK hN hP hD hS hA rfl rfl rfl rfl rfl rfl (by decide) rfl rfl rfl hl.1 rfl (Nat.le_of_ble_eq_true rfl) dL_law_150 ⟨Nat.le_trans (by omega) hcx, Nat.le_trans (by omega) hsx⟩ (fun H locs hP hD hS => ?_)
                refine lv_iload hx hb dL_law_153 (lv_at hl 4 rfl) ?_
                obtain ⟨v119, hv119, hf⟩ := k_B hf
                refine k_callS (As := [.int s44.1]) (rest := [.int v118.1]) ⟨hx, hb, hml, hown, hts⟩ (c_L_count l s44.1 v119 hv119) (va_cwS 1 hts gL_law_L_count rfl rfl rfl hd_L_count ⟨Nat.le_of_ble_eq_true rfl, Nat.le_of_ble_eq_true rfl⟩) rfl hl.1 rfl (Nat.le_of_ble_eq_true rfl) dL_law_155 ⟨Nat.le_trans (by omega) hcx, Nat.le_trans (by omega) hsx⟩ ?_
                refine lv_icmp_eq (tgt := 163) hx hb dL_law_158 (by decide) (fun c120 => ?_) (fun c120 => ?_)
                · have hf := k_T c120 hf
                  refine lv_iconst (v := 0) hx hb dL_law_163 (by decide) ?_
                  refine lv_istore (lv' := [(4, .int 0), (0, .ref b), (1, .ref h0), (2, .ref ac), (3, .ref tr5), (5, .int s44.2.1), (6, .int y7), (7, .int x15.1)]) hx hb dL_law_164 hl (by decide) rfl (fun ls hl => ?_)
                  refine lv_aload_n hx hb dL_law_166 rfl (lv_at hl 4 rfl) ?_
                  refine lv_iconst (v := 0) hx hb dL_law_167 (by decide) ?_
                  refine lv_iconst (v := 0) hx hb dL_law_168 (by decide) ?_
                  refine va_iast hx hb hK hP hD hS 16 0 rfl rfl (k_in (i := 0) (n := 5) (by decide +kernel)) dL_law_169 (fun H locs hP hD hS => ?_)
                  obtain ⟨w121, ew121, hf⟩ := k_L hf
                  have hP : va_P D vwCl (wX7 cy h0 gma sna hia ka ora cha tra ena opa foa v118.2.1 sn v118.2.2.1 v118.2.2.2.1 v118.2.2.2.2.1 v118.2.2.2.2.2.1 v118.2.2.2.2.2.2.1 v118.2.2.2.2.2.2.2 ch o tr s44.2.2.2.2.2.2.2.2.2.1 s44.2.2.2.2.2.2.2.2.2.2.1 s44.2.2.2.2.2.2.2.2.2.2.2.1 has ++ [wR cy 0 12 ac s44.2.2.2.2.2.2.2.2.2.2.2.2.1, wR cy 0 5 tr5 w121]) H := by rw [ew121]; exact hP
                  have hD : va_D (k_A s) (wX7 cy h0 gma sna hia ka ora cha tra ena opa foa v118.2.1 sn v118.2.2.1 v118.2.2.2.1 v118.2.2.2.2.1 v118.2.2.2.2.2.1 v118.2.2.2.2.2.2.1 v118.2.2.2.2.2.2.2 ch o tr s44.2.2.2.2.2.2.2.2.2.1 s44.2.2.2.2.2.2.2.2.2.2.1 s44.2.2.2.2.2.2.2.2.2.2.2.1 has ++ [wR cy 0 12 ac s44.2.2.2.2.2.2.2.2.2.2.2.2.1, wR cy 0 5 tr5 w121]) := by rw [ew121]; exact hD
                  refine lv_iconst (v := 0) hx hb dL_law_170 (by decide) ?_
                  refine lv_istore (lv' := [(8, .int 0), (4, .int 0), (0, .ref b), (1, .ref h0), (2, .ref ac), (3, .ref tr5), (5, .int s44.2.1), (6, .int y7), (7, .int x15.1)]) hx hb dL_law_171 hl (by decide) rfl (fun ls hl => ?_)
                  have L173 : ∀ (Q : State → Prop) (n : Nat) (b4 : Int32) (b5 : Int32) (gm : k_G8) (sn : k_G8) (hs : Int32) (qs : k_Q4) (k0 : k_G8) (k1 : k_G8) (k2 : k_G8) (k3 : k_G8) (ch : Nat → Int32) (o : k_O5) (tr : k_G8) (es : Int32) (op : Nat → Int32) (fo : Nat → Int32) (has : Int32) (rt : Nat → Int32) (s173 : Int32 × (Nat → Int32)) (q : Int32 × (Nat → Int32)), k_loop (t_L_law_173 xs L b4 b5) n s173 = some q → ∀ (CX SX cells slots : Nat), CX ≤ room_1.cells → SX ≤ room_1.slots → cells + n * 0 ≤ CX → slots + n * 0 ≤ SX → ∀ (ls : Array Slot) (H : Heap) (locs : List Loc), lv_has ls 11 [(0, .ref b), (1, .ref h0), (2, .ref ac), (3, .ref tr5), (4, .int b4), (5, .int b5), (8, .int s173.1)] → va_P D vwCl (wX7 cy h0 gma sna hia ka ora cha tra ena opa foa gm sn hs qs k0 k1 k2 k3 ch o tr es op fo has ++ [wR cy 0 12 ac s173.2, wR cy 0 5 tr5 rt]) H → va_D (k_A s) (wX7 cy h0 gma sna hia ka ora cha tra ena opa foa gm sn hs qs k0 k1 k2 k3 ch o tr es op fo has ++ [wR cy 0 12 ac s173.2, wR cy 0 5 tr5 rt]) → va_S (k_A s) s.heap H locs → (∀ (ls : Array Slot) (H : Heap) (locs : List Loc), lv_has ls 11 [(0, .ref b), (1, .ref h0), (2, .ref ac), (3, .ref tr5), (4, .int b4), (5, .int b5)] → va_P D vwCl (wX7 cy h0 gma sna hia ka ora cha tra ena opa foa gm sn hs qs k0 k1 k2 k3 ch o tr es op fo has ++ [wR cy 0 12 ac q.2, wR cy 0 5 tr5 rt]) H → va_D (k_A s) (wX7 cy h0 gma sna hia ka ora cha tra ena opa foa gm sn hs qs k0 k1 k2 k3 ch o tr es op fo has ++ [wR cy 0 12 ac q.2, wR cy 0 5 tr5 rt]) → va_S (k_A s) s.heap H locs → W p l e room_1 s m #[Value.ref b] below meth c H locs CX SX Q (F0 m 191 ls [])) → W p l e room_1 s m #[Value.ref b] below meth c H locs cells slots Q (F0 m 173 ls []) := by
                    intro Q n
                    induction n with
                    | zero =>
                      intro b4 b5 gm sn hs qs k0 k1 k2 k3 ch o tr es op fo has rt s173 q hq
                      exact (k_loop0 hq).elim
                    | succ n ih =>
                      intro b4 b5 gm sn hs qs k0 k1 k2 k3 ch o tr es op fo has rt s173 q hq CX SX cells slots hcx hsx hcc hss ls H locs hl hP hD hS kx
                      obtain ⟨x, hf, hq⟩ := k_loopE hq
                      unfold t_L_law_173 at hf
                      refine lv_iload hx hb dL_law_173 (lv_at hl 6 rfl) ?_
                      refine lv_bipush (v := 12) hx hb dL_law_175 (by decide) ?_
                      refine lv_icmp_ge (tgt := 191) hx hb dL_law_177 (by decide) (fun c122 => ?_) (fun c122 => ?_)
                      · have hf := k_T c122 hf
                        refine W.widen (k := CX) (n := SX) (by omega) (by omega) ?_
                        obtain rfl := k_some hf
                        obtain rfl := k_some (k_inr hq)
                        exact kx ls H locs (lv_sub hl [0, 1, 2, 3, 4, 5] rfl) hP hD hS
                      · have hf := k_F c122 hf
                        refine lv_aload_n hx hb dL_law_180 rfl (lv_at hl 2 rfl) ?_
                        refine lv_iload hx hb dL_law_181 (lv_at hl 6 rfl) ?_
                        refine lv_iconst (v := (-1)) hx hb dL_law_183 (by decide) ?_
                        obtain ⟨g123, hf⟩ := k_G hf
                        refine va_iast hx hb hK hP hD hS 15 0 rfl rfl g123 dL_law_184 (fun H locs hP hD hS => ?_)
                        obtain ⟨w124, ew124, hf⟩ := k_L hf
                        have hP : va_P D vwCl (wX7 cy h0 gma sna hia ka ora cha tra ena opa foa gm sn hs qs k0 k1 k2 k3 ch o tr es op fo has ++ [wR cy 0 12 ac w124, wR cy 0 5 tr5 rt]) H := by rw [ew124]; exact hP
                        have hD : va_D (k_A s) (wX7 cy h0 gma sna hia ka ora cha tra ena opa foa gm sn hs qs k0 k1 k2 k3 ch o tr es op fo has ++ [wR cy 0 12 ac w124, wR cy 0 5 tr5 rt]) := by rw [ew124]; exact hD
                        refine lv_iinc (v := s173.1 + 1) (lv' := [(8, .int (s173.1 + 1)), (0, .ref b), (1, .ref h0), (2, .ref ac), (3, .ref tr5), (4, .int b4), (5, .int b5)]) hx hb dL_law_185 hl (k := 6) rfl rfl (by decide) rfl (fun ls hl => ?_)
                        refine lv_goto (tgt := 173) hx hb dL_law_188 (by decide) ?_
                        refine W.widen (k := cells + 0) (n := slots + 0) (by omega) (by omega) ?_
                        obtain rfl := k_some hf
                        exact ih b4 b5 gm sn hs qs k0 k1 k2 k3 ch o tr es op fo has rt (s173.1 + 1, w124) q (k_inl hq) CX SX (cells + 0) (slots + 0) hcx hsx (by omega) (by omega) ls H locs (lv_sub hl [1, 2, 3, 4, 5, 6, 0] rfl) hP hD hS kx
                  obtain ⟨x125, hx125, hf⟩ := k_B hf
                  refine W.widen (k := (cells + 0)) (n := (slots + 0)) (by omega) (by omega) ?_
                  refine L173 _ 1000 0 s44.2.1 v118.2.1 sn v118.2.2.1 v118.2.2.2.1 v118.2.2.2.2.1 v118.2.2.2.2.2.1 v118.2.2.2.2.2.2.1 v118.2.2.2.2.2.2.2 ch o tr s44.2.2.2.2.2.2.2.2.2.1 s44.2.2.2.2.2.2.2.2.2.2.1 s44.2.2.2.2.2.2.2.2.2.2.2.1 has w121 (0, s44.2.2.2.2.2.2.2.2.2.2.2.2.1) x125 hx125 (cells + 0) (slots + 0) (cells + 0) (slots + 0) (Nat.le_trans (by omega) hcx) (Nat.le_trans (by omega) hsx) (by omega) (by omega) ls H locs (lv_sub hl [2, 3, 4, 5, 1, 6, 0] rfl) hP hD hS ?_
                  intro ls H locs hl hP hD hS
                  refine lv_goto (tgt := 419) hx hb dL_law_191 (by decide) ?_
                  refine W.widen (k := (cells + 2)) (n := (slots + 12)) (by omega) (by omega) ?_
                  obtain rfl := k_some hf
                  exact kj17 ls H locs (lv_sub hl [0, 1, 2, 3, 4, 5] rfl) hP hD hS
                · have hf := k_F c120 hf
                  refine lv_iconst (v := 0) hx hb dL_law_161 (by decide) ?_
                  cases hf
  obtain ⟨x142, hx142, hf⟩ := k_B hf
  refine W.widen (k := (cells + 0)) (n := (slots + 0)) (by omega) (by omega) ?_
  refine L44 _ 70 sn ch o tr has (0, 0, gm, hs, qs, k0, k1, k2, k3, es, op, fo, x4.2, rt) x142 hx142 (cells + 40950) (slots + 249620) (cells + 0) (slots + 0) (Nat.le_trans (by omega) hcx) (Nat.le_trans (by omega) hsx) (by omega) (by omega) ls H locs (lv_sub hl [1, 2, 3, 4, 5, 0] rfl) hP hD hS ?_
  intro ls H locs hl hP hD hS
  refine lv_aload_n hx hb dL_law_492 rfl (lv_at hl 0 rfl) ?_
  refine lv_iload hx hb dL_law_493 (lv_at hl 3 rfl) ?_
  refine lv_aload_n hx hb dL_law_495 rfl (lv_at hl 1 rfl) ?_
  refine lv_aload_n hx hb dL_law_496 rfl (lv_at hl 2 rfl) ?_
  obtain ⟨v143, hv143, hf⟩ := k_B hf
  refine k_callL0 (As := [.ref h0, .int x142.1, .ref ac, .ref tr5]) (rest := []) (isC := [0, 1, 2, 3, 4, 5, 6, 7, 8, 9, 10, 11, 12, 13, 14, 15, 16]) (isR := []) (perm := [0, 1, 2, 3, 4, 5, 6, 7, 8, 9, 10, 11, 12, 13, 14, 15, 16]) (w' := (wX7 cy h0 gma sna hia ka ora cha tra ena opa foa x142.2.2.1 sn x142.2.2.2.1 x142.2.2.2.2.1 x142.2.2.2.2.2.1 x142.2.2.2.2.2.2.1 x142.2.2.2.2.2.2.2.1 x142.2.2.2.2.2.2.2.2.1 ch o tr x142.2.2.2.2.2.2.2.2.2.1 x142.2.2.2.2.2.2.2.2.2.2.1 x142.2.2.2.2.2.2.2.2.2.2.2.1 has ++ [wR cy 0 12 ac x142.2.2.2.2.2.2.2.2.2.2.2.2.1, wR cy 0 5 tr5 x142.2.2.2.2.2.2.2.2.2.2.2.2.2])) ⟨hx, hb, hml, hown, hts⟩ (c_L_areFences l hl9 D cy h0 gma sna hia ka ora cha tra ena opa foa ac tr5 x142.2.2.1 sn x142.2.2.2.1 x142.2.2.2.2.1 x142.2.2.2.2.2.1 x142.2.2.2.2.2.2.1 x142.2.2.2.2.2.2.2.1 x142.2.2.2.2.2.2.2.2.1 ch o tr x142.2.2.2.2.2.2.2.2.2.1 x142.2.2.2.2.2.2.2.2.2.2.1 x142.2.2.2.2.2.2.2.2.2.2.2.1 has x142.2.2.2.2.2.2.2.2.2.2.2.2.1 x142.2.2.2.2.2.2.2.2.2.2.2.2.2 x142.1 v143 hv143) (va_cwS 4 hts gL_law_L_areFences rfl rfl rfl hd_L_areFences ⟨Nat.le_of_ble_eq_true rfl, Nat.le_of_ble_eq_true rfl⟩) hK hN hT hZ hCx hP hD hS hA rfl rfl rfl (by decide) (by decide) rfl (by decide) rfl hl.1 rfl (Nat.le_of_ble_eq_true rfl) dL_law_497 ⟨Nat.le_trans (by omega) hcx, Nat.le_trans (by omega) hsx⟩ (fun H locs hP hD hS => ?_)
  refine W.widen (k := CX) (n := SX) (by omega) (by omega) ?_
  obtain rfl := k_some hf
  exact kk ls H locs hl.1 hS
