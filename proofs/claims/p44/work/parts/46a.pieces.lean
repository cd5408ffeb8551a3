/-! One round of the law, cut into its pieces. -/
abbrev k_J : Type := Int32 × k_G8 × Int32 × k_Q4 × k_G8 × k_G8 × k_G8 × k_G8 × (Nat → Int32) × (Nat → Int32)
def q_new (xs : Nat → Int32) (L : Nat) (f e : Int32) (gm : k_G8) (hs : Int32) (qs : k_Q4) (k0 k1 k2 k3 : k_G8) (rc rt : Nat → Int32) : Option k_J :=
  (f_X7_newGame gm hs qs k0 k1 k2 k3).bind fun v69 =>
  (f_L_count f).bind fun v70 =>
  if v69.1 = v70 then
    k_let (upd rt 0 0) fun w72 =>
    (k_loop (t_L_law_173 xs L 0 e) 1000 (0, rc)).bind fun x76 =>
    some (0, v69.2.1, v69.2.2.1, v69.2.2.2.1, v69.2.2.2.2.1, v69.2.2.2.2.2.1, v69.2.2.2.2.2.2.1, v69.2.2.2.2.2.2.2, x76.2, w72)
  else
    none
def q_ref (f fe : Int32) (gm : k_G8) (hs : Int32) (qs : k_Q4) (k0 k1 k2 k3 : k_G8) (rc rt : Nat → Int32) : Option k_J :=
  (f_L_drawOf fe gm hs qs k0 k1 k2 k3).bind fun v114 =>
  if v114.1 = (-102) then
    (f_L_drawOf 31 v114.2.1 v114.2.2.1 v114.2.2.2.1 v114.2.2.2.2.1 v114.2.2.2.2.2.1 v114.2.2.2.2.2.2.1 v114.2.2.2.2.2.2.2).bind fun v116 =>
    if v116.1 = (-101) then
      some (f, v116.2.1, v116.2.2.1, v116.2.2.2.1, v116.2.2.2.2.1, v116.2.2.2.2.2.1, v116.2.2.2.2.2.2.1, v116.2.2.2.2.2.2.2, rc, rt)
    else
      none
  else
    none
def q_drw (xs : Nat → Int32) (L : Nat) (f e fe : Int32) (gm : k_G8) (hs : Int32) (qs : k_Q4) (k0 k1 k2 k3 : k_G8) (rc rt : Nat → Int32) : Option k_J :=
  (f_L_close f fe).bind fun v79 =>
  k_let (f ||| ((1 : Int32) <<< (fe &&& 31))) fun y80 =>
  (k_loop (t_L_law_250 xs L y80 e fe v79 rt) 1000 (0, rc)).bind fun x90 =>
  Option.bind (α := Int32) (
      if v79 = 0 then
        some ((1 : Int32) - (rt 0))
      else
        some (rt 0)
    ) fun j91 =>
  k_let (upd rt 0 j91) fun w93 =>
  Option.bind (α := Int32) (
      if v79 = 2 then
        some 1
      else
        some 0
    ) fun j94 =>
  k_let (upd w93 4 ((w93 4) + j94)) fun w96 =>
  (k_loop (t_L_law_341 xs L y80 e fe v79 x90.2) 1000 (0, 0)).bind fun x102 =>
  (f_L_count y80).bind fun v103 =>
  Option.bind (α := (Nat → Int32)) (
      if v103 = 31 then
        Option.bind (α := Int32) (
            if x102.1 ≤ 0 then
              if 0 ≤ x102.1 then
                some 3
              else
                some 2
            else
              some 1
          ) fun j106 =>
        if j106 < 0 ∨ 5 ≤ j106.toNatClampNeg then none else
        if j106 < 0 ∨ 5 ≤ j106.toNatClampNeg then none else
        k_let (upd w96 j106.toNatClampNeg ((w96 j106.toNatClampNeg) + 1)) fun w111 =>
        some w111
      else
        some w96
    ) fun j104 =>
  (f_L_drawOf fe gm hs qs k0 k1 k2 k3).bind fun v112 =>
  if v112.1 = v79 then
    some (y80, v112.2.1, v112.2.2.1, v112.2.2.2.1, v112.2.2.2.2.1, v112.2.2.2.2.2.1, v112.2.2.2.2.2.2.1, v112.2.2.2.2.2.2.2, x90.2, j104)
  else
    none
def q_two (xs : Nat → Int32) (L : Nat) (z f e fe : Int32) (gm : k_G8) (hs : Int32) (qs : k_Q4) (k0 k1 k2 k3 : k_G8) (rc rt : Nat → Int32) : Option k_J :=
  if (z - z / 97 * 97) = 5 then q_new xs L f e gm hs qs k0 k1 k2 k3 rc rt else if ((f >>> (fe &&& 31)) &&& 1) = 1 then q_ref f fe gm hs qs k0 k1 k2 k3 rc rt else q_drw xs L f e fe gm hs qs k0 k1 k2 k3 rc rt
def q_mid (xs : Nat → Int32) (L : Nat) (z f e fe v : Int32) (gm : k_G8) (hs : Int32) (qs : k_Q4) (k0 k1 k2 k3 : k_G8) (rc rt : Nat → Int32) : Option k_J :=
  if v = 31 then (if 0 < (z - z / 3 * 3) then q_new xs L f e gm hs qs k0 k1 k2 k3 rc rt else q_two xs L z f e fe gm hs qs k0 k1 k2 k3 rc rt) else q_two xs L z f e fe gm hs qs k0 k1 k2 k3 rc rt
abbrev k_S : Type := Int32 × Int32 × k_G8 × Int32 × k_Q4 × k_G8 × k_G8 × k_G8 × k_G8 × Int32 × (Nat → Int32) × (Nat → Int32) × (Nat → Int32) × (Nat → Int32)
def q_chk (e es : Int32) (op fo : Nat → Int32) (J : k_J) : Option (k_S ⊕ k_S) :=
  Option.bind (α := Unit) (
      if (e - e / 4 * 4) = 1 then
        (f_L_areFences J.1 J.2.1 J.2.2.2.2.2.2.2.2.1 J.2.2.2.2.2.2.2.2.2).bind fun v128 =>
        if v128 = 0 then
          none
        else
          some ()
      else
        some ()
    ) fun _ =>
  Option.bind (α := Unit) (
      if (e - e / 5 * 5) = 2 then
        (f_L_areChains J.1 J.2.1).bind fun v132 =>
        if v132 = 0 then
          none
        else
          some ()
      else
        some ()
    ) fun _ =>
  Option.bind (α := Int32 × (Nat → Int32) × (Nat → Int32)) (
      if (e - e / 9 * 9) = 8 then
        (f_L_isEnd J.1 J.2.1 es op fo).bind fun v136 =>
        if v136.1 = 0 then
          none
        else
          some (v136.2.1, v136.2.2.1, v136.2.2.2)
      else
        (f_L_count J.1).bind fun v138 =>
        if v138 ≤ 26 then
          some (es, op, fo)
        else
          (f_L_isEnd J.1 J.2.1 es op fo).bind fun v140 =>
          if v140.1 = 0 then
            none
          else
            some (v140.2.1, v140.2.2.1, v140.2.2.2)
    ) fun j134 =>
  some (.inl (J.1, e + 1, J.2.1, J.2.2.1, J.2.2.2.1, J.2.2.2.2.1, J.2.2.2.2.2.1, J.2.2.2.2.2.2.1, J.2.2.2.2.2.2.2.1, j134.1, j134.2.1, j134.2.2, J.2.2.2.2.2.2.2.2.1, J.2.2.2.2.2.2.2.2.2))
theorem q_44 (xs : Nat → Int32) (L : Nat) (f e : Int32) (gm : k_G8) (hs : Int32) (qs : k_Q4) (k0 k1 k2 k3 : k_G8) (es : Int32) (op fo rc rt : Nat → Int32) : t_L_law_44 xs L (f, e, gm, hs, qs, k0, k1, k2, k3, es, op, fo, rc, rt) = if 64 ≤ e then some (.inr (f, e, gm, hs, qs, k0, k1, k2, k3, es, op, fo, rc, rt)) else (f_L_cell xs L e).bind fun v6 => (k_loop (t_L_law_72 xs L f e (v6 &&& 2147483647)) 1000 ((v6 &&& 2147483647) - (v6 &&& 2147483647) / 31 * 31, 0)).bind fun x15 => (f_L_count f).bind fun v16 => (q_mid xs L (v6 &&& 2147483647) f e x15.1 v16 gm hs qs k0 k1 k2 k3 rc rt).bind fun J => q_chk e es op fo J := rfl
