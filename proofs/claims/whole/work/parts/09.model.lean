def f_X8_thrown (mLa : Int32) : Option (Int32) :=
  some mLa
abbrev rm_X8_thrown : Room := { frames := 0, cells := 0, slots := 0, locals := 0 }
theorem hd_X8_thrown : yX8_thrown.cls = RX8 ∧ yX8_thrown.cls ≠ "java/lang/invoke/MethodHandle" ∧ yX8_thrown.cls ≠ "java/lang/invoke/VarHandle" ∧ (parseMethodDescriptor yX8_thrown.desc).map (fun d => d.parameters.length) = some 0 := by decide +kernel
set_option maxHeartbeats 4000000 in
set_option maxRecDepth 100000 in
theorem c_X8_thrown (l : Launch) (D : va_G) (cy : Nat → ClassId) (h0 sa pa ka aa oa wa ca ta na : Nat) (mOp : Int32) (mIk : Int32) (mPa : Int32) (mRu : Int32) (mLa : Int32) (mTy : Int32) (mSp : Int32) (mFr : Int32) (mRe : Int32) (mCa : Int32) (mOr : Int32) (mLe : Int32) (rS : Nat → Int32) (rP : Nat → Int32) (rK : Nat → Int32) (rA : Nat → Int32) (rO : Nat → Int32) (rW : Nat → Int32) (rC : Nat → Int32) (rT : Nat → Int32) (rN : Nat → Int32)  (r : Int32) (hf : f_X8_thrown mLa = some r) : k_HMet l yX8_thrown wsX8_thrown rm_X8_thrown D (k_tys cy) [.ref h0] (wX8 cy h0 sa pa ka aa oa wa ca ta na mOp mIk mPa mRu mLa mTy mSp mFr mRe mCa mOr mLe rS rP rK rA rO rW rC rT rN) (some (.int r)) (wX8 cy h0 sa pa ka aa oa wa ca ta na mOp mIk mPa mRu mLa mTy mSp mFr mRe mCa mOr mLe rS rP rK rA rO rW rC rT rN) := by
  refine k_heapOf (cc := cX8_thrown) (maxL := 1) (ret := (some .int)) (by decide) rfl (Nat.le_of_ble_eq_true rfl) ?_
  intro p e s m args below meth c ls A hx hb hr hlocks hml hown hts hl hA hK hP hD hN
  have hl : lv_has ls 1 [(0, .ref h0)] := hl
  have hS : va_S A s.heap s.heap [] := va_S.rf
  have in_X8 : ∀ w ∈ wsX80, w ∈ wsX8_thrown := by decide +kernel
  have fl37 := hts (.fieldLink RX8 37 "FencedBoxesModel" "last" "I") (by decide +kernel)
  unfold f_X8_thrown at hf
  obtain ⟨H, eH⟩ : ∃ H, H = s.heap := ⟨_, rfl⟩
  obtain ⟨locs, elocs⟩ : ∃ L : List Loc, L = [] := ⟨_, rfl⟩
  have hP : va_P D vwCl (wX8 cy h0 sa pa ka aa oa wa ca ta na mOp mIk mPa mRu mLa mTy mSp mFr mRe mCa mOr mLe rS rP rK rA rO rW rC rT rN) H := by rw [eH]; exact hP
  have hS : va_S A s.heap H locs := by rw [eH, elocs]; exact hS
  refine k_here eH elocs ?_
  refine lv_aload_n hx hb dX8_thrown_0 rfl (lv_at hl 0 rfl) ?_
  refine va_get (D := D) (ci := 5) (v := .int mLa) (C := RX8) (T := TX8) (N := 21) hx hb hts in_X8 hown hK hP 0 rfl rfl 11 (by decide) fl37 (fun _ h9 => h9) rfl dX8_thrown_1 ?_
  obtain rfl := k_some hf
  exact k_iret hx hb hr hP hD hS dX8_thrown_4 hlocks
def f_X8_fails (n1 : Int32) (mLa : Int32) : Option (Int32 × Int32) :=
  some (0, n1)
abbrev rm_X8_fails : Room := { frames := 0, cells := 0, slots := 0, locals := 0 }
theorem hd_X8_fails : yX8_fails.cls = RX8 ∧ yX8_fails.cls ≠ "java/lang/invoke/MethodHandle" ∧ yX8_fails.cls ≠ "java/lang/invoke/VarHandle" ∧ (parseMethodDescriptor yX8_fails.desc).map (fun d => d.parameters.length) = some 1 := by decide +kernel
set_option maxHeartbeats 4000000 in
set_option maxRecDepth 100000 in
theorem c_X8_fails (l : Launch) (D : va_G) (cy : Nat → ClassId) (h0 sa pa ka aa oa wa ca ta na : Nat) (mOp : Int32) (mIk : Int32) (mPa : Int32) (mRu : Int32) (mLa : Int32) (mTy : Int32) (mSp : Int32) (mFr : Int32) (mRe : Int32) (mCa : Int32) (mOr : Int32) (mLe : Int32) (rS : Nat → Int32) (rP : Nat → Int32) (rK : Nat → Int32) (rA : Nat → Int32) (rO : Nat → Int32) (rW : Nat → Int32) (rC : Nat → Int32) (rT : Nat → Int32) (rN : Nat → Int32) (n1 : Int32) (r : Int32 × Int32) (hf : f_X8_fails n1 mLa = some r) : k_HMet l yX8_fails wsX8_fails rm_X8_fails D (k_tys cy) [.ref h0, .int n1] (wX8 cy h0 sa pa ka aa oa wa ca ta na mOp mIk mPa mRu mLa mTy mSp mFr mRe mCa mOr mLe rS rP rK rA rO rW rC rT rN) (some (.int r.1)) (wX8 cy h0 sa pa ka aa oa wa ca ta na mOp mIk mPa mRu r.2 mTy mSp mFr mRe mCa mOr mLe rS rP rK rA rO rW rC rT rN) := by
  refine k_heapOf (cc := cX8_fails) (maxL := 2) (ret := (some .int)) (by decide) rfl (Nat.le_of_ble_eq_true rfl) ?_
  intro p e s m args below meth c ls A hx hb hr hlocks hml hown hts hl hA hK hP hD hN
  have hl : lv_has ls 2 [(0, .ref h0), (1, .int n1)] := hl
  have hS : va_S A s.heap s.heap [] := va_S.rf
  have in_X8 : ∀ w ∈ wsX80, w ∈ wsX8_fails := by decide +kernel
  have fl37 := hts (.fieldLink RX8 37 "FencedBoxesModel" "last" "I") (by decide +kernel)
  unfold f_X8_fails at hf
  obtain ⟨H, eH⟩ : ∃ H, H = s.heap := ⟨_, rfl⟩
  obtain ⟨locs, elocs⟩ : ∃ L : List Loc, L = [] := ⟨_, rfl⟩
  have hP : va_P D vwCl (wX8 cy h0 sa pa ka aa oa wa ca ta na mOp mIk mPa mRu mLa mTy mSp mFr mRe mCa mOr mLe rS rP rK rA rO rW rC rT rN) H := by rw [eH]; exact hP
  have hS : va_S A s.heap H locs := by rw [eH, elocs]; exact hS
  refine k_here eH elocs ?_
  refine lv_aload_n hx hb dX8_fails_0 rfl (lv_at hl 0 rfl) ?_
  refine lv_iload_n hx hb dX8_fails_1 rfl (lv_at hl 1 rfl) ?_
  refine va_put (D := D) (ci := 5) (v := .int n1) (ty := .int) (C := RX8) (T := TX8) (N := 21) hx hb hts in_X8 tyX8 tyX8_ok nmX8 hown hK hP hD hS 0 rfl rfl 11 (by decide) fl37 (fun _ h9 => h9) rfl (by decide +kernel) rfl rfl (Nat.le_of_ble_eq_true rfl) dX8_fails_2 (fun H locs hP hD hS => ?_)
  have hP : va_P D vwCl (wX8 cy h0 sa pa ka aa oa wa ca ta na mOp mIk mPa mRu n1 mTy mSp mFr mRe mCa mOr mLe rS rP rK rA rO rW rC rT rN) H := hP
  have hD : va_D A (wX8 cy h0 sa pa ka aa oa wa ca ta na mOp mIk mPa mRu n1 mTy mSp mFr mRe mCa mOr mLe rS rP rK rA rO rW rC rT rN) := hD
  refine lv_iconst (v := 0) hx hb dX8_fails_5 (by decide) ?_
  obtain rfl := k_some hf
  exact k_iret hx hb hr hP hD hS dX8_fails_6 hlocks
def t_X8_copies_2 (r0 : Nat → Int32) (s2 : Int32 × (Nat → Int32)) : Option ((Int32 × (Nat → Int32)) ⊕ (Int32 × (Nat → Int32))) :=
  if 19 ≤ s2.1 then
    some (.inr (s2.1, s2.2))
  else
    if s2.1 < 0 ∨ 19 ≤ s2.1.toNatClampNeg then none else
    if s2.1 < 0 ∨ 19 ≤ s2.1.toNatClampNeg then none else
    k_let (upd s2.2 s2.1.toNatClampNeg (r0 s2.1.toNatClampNeg)) fun w4 =>
    some (.inl (s2.1 + 1, w4))
def f_X8_copies (r0 : Nat → Int32) (r1 : Nat → Int32) : Option ((Nat → Int32)) :=
  (k_loop (t_X8_copies_2 r0) 1000 (0, r1)).bind fun x5 =>
  some x5.2
abbrev rm_X8_copies : Room := { frames := 0, cells := 0, slots := 0, locals := 0 }
theorem hd_X8_copies : yX8_copies.cls ≠ "java/lang/invoke/MethodHandle" ∧ yX8_copies.cls ≠ "java/lang/invoke/VarHandle" ∧ (parseMethodDescriptor yX8_copies.desc).map (fun d => d.parameters.length) = some 2 := by decide +kernel
set_option maxHeartbeats 4000000 in
set_option maxRecDepth 100000 in
theorem c_X8_copies (l : Launch) (D : va_G) (cy : Nat → ClassId) (a0 a1 : Nat) (r0 : Nat → Int32) (r1 : Nat → Int32)  (r : (Nat → Int32)) (hf : f_X8_copies r0 r1 = some r) : k_HMet l yX8_copies wsX8_copies rm_X8_copies D (k_tys cy) [.ref a0, .ref a1] [wR cy 0 19 a0 r0, wR cy 0 19 a1 r1] none [wR cy 0 19 a0 r0, wR cy 0 19 a1 r] := by
  refine k_heapOf (cc := cX8_copies) (maxL := 3) (ret := none) (by decide) rfl (Nat.le_of_ble_eq_true rfl) ?_
  intro p e s m args below meth c ls A hx hb hr hlocks hml hown hts hl hA hK hP hD hN
  have hl : lv_has ls 3 [(0, .ref a0), (1, .ref a1)] := hl
  have hS : va_S A s.heap s.heap [] := va_S.rf
  have L2 : ∀ (Q : State → Prop) (n : Nat) (r0 : Nat → Int32) (s2 : Int32 × (Nat → Int32)) (q : (Int32 × (Nat → Int32))), k_loop (t_X8_copies_2 r0) n s2 = some q → ∀ (ls : Array Slot) (H : Heap) (locs : List Loc), lv_has ls 3 [(0, .ref a0), (1, .ref a1), (2, .int s2.1)] → va_P D vwCl [wR cy 0 19 a0 r0, wR cy 0 19 a1 s2.2] H → va_D A [wR cy 0 19 a0 r0, wR cy 0 19 a1 s2.2] → va_S A s.heap H locs → (∀ (ls : Array Slot) (H : Heap) (locs : List Loc), True → lv_has ls 3 [] → va_P D vwCl [wR cy 0 19 a0 r0, wR cy 0 19 a1 q.2] H → va_D A [wR cy 0 19 a0 r0, wR cy 0 19 a1 q.2] → va_S A s.heap H locs → W p l e rm_X8_copies s m args below meth c H locs 0 0 Q (F0 m 20 ls [])) → W p l e rm_X8_copies s m args below meth c H locs 0 0 Q (F0 m 2 ls []) := by
    intro Q n
    induction n with
    | zero =>
      intro r0 s2 q hq
      exact (k_loop0 hq).elim
    | succ n ih =>
      intro r0 s2 q hq ls H locs hl hP hD hS kx 
      obtain ⟨x, hf, hq⟩ := k_loopE hq
      unfold t_X8_copies_2 at hf
      refine lv_iload_n hx hb dX8_copies_2 rfl (lv_at hl 2 rfl) ?_
      refine lv_bipush (v := 19) hx hb dX8_copies_3 (by decide) ?_
      refine lv_icmp_ge (tgt := 20) hx hb dX8_copies_5 (by decide) (fun c1 => ?_) (fun c1 => ?_)
      · have hf := k_T c1 hf
        obtain rfl := k_some hf
        obtain rfl := k_some (k_inr hq)
        exact kx ls H locs trivial (lv_sub hl [] rfl) hP hD hS
      · have hf := k_F c1 hf
        refine lv_aload_n hx hb dX8_copies_8 rfl (lv_at hl 1 rfl) ?_
        refine lv_iload_n hx hb dX8_copies_9 rfl (lv_at hl 2 rfl) ?_
        refine lv_aload_n hx hb dX8_copies_10 rfl (lv_at hl 0 rfl) ?_
        refine lv_iload_n hx hb dX8_copies_11 rfl (lv_at hl 2 rfl) ?_
        obtain ⟨g2, hf⟩ := k_G hf
        refine va_iald hx hb hK hP 0 0 rfl rfl g2 dX8_copies_12 ?_
        obtain ⟨g3, hf⟩ := k_G hf
        refine va_iast hx hb hK hP hD hS 1 0 rfl rfl g3 dX8_copies_13 (fun H locs hP hD hS => ?_)
        obtain ⟨w4, ew4, hf⟩ := k_L hf
        have hP : va_P D vwCl [wR cy 0 19 a0 r0, wR cy 0 19 a1 w4] H := by rw [ew4]; exact hP
        have hD : va_D A [wR cy 0 19 a0 r0, wR cy 0 19 a1 w4] := by rw [ew4]; exact hD
        refine lv_iinc (v := s2.1 + 1) (lv' := [(2, .int (s2.1 + 1)), (0, .ref a0), (1, .ref a1)]) hx hb dX8_copies_14 hl (k := 2) rfl rfl (by decide) rfl (fun ls hl => ?_)
        refine lv_goto (tgt := 2) hx hb dX8_copies_17 (by decide) ?_
        obtain rfl := k_some hf
        exact ih r0 (s2.1 + 1, w4) q (k_inl hq) ls H locs (lv_sub hl [1, 2, 0] rfl) hP hD hS kx 
  unfold f_X8_copies at hf
  obtain ⟨H, eH⟩ : ∃ H, H = s.heap := ⟨_, rfl⟩
  obtain ⟨locs, elocs⟩ : ∃ L : List Loc, L = [] := ⟨_, rfl⟩
  have hP : va_P D vwCl [wR cy 0 19 a0 r0, wR cy 0 19 a1 r1] H := by rw [eH]; exact hP
  have hS : va_S A s.heap H locs := by rw [eH, elocs]; exact hS
  refine k_here eH elocs ?_
  refine lv_iconst (v := 0) hx hb dX8_copies_0 (by decide) ?_
  refine lv_istore_n (lv' := [(2, .int 0), (0, .ref a0), (1, .ref a1)]) hx hb dX8_copies_1 rfl hl (by decide) rfl (fun ls hl => ?_)
  obtain ⟨x5, hx5, hf⟩ := k_B hf
  refine L2 _ 1000 r0 (0, r1) x5 hx5 ls H locs (lv_sub hl [1, 2, 0] rfl) hP hD hS ?_
  · intro ls H locs _ hl hP hD hS
    obtain rfl := k_some hf
    exact k_vret hx hb hr hP hD hS dX8_copies_20 hlocks
def t_X8_changes_57 (mPa : Int32) (rS : Nat → Int32) (s57 : Int32 × (Nat → Int32)) : Option ((Int32 × (Nat → Int32)) ⊕ (Int32 × (Nat → Int32))) :=
  if 19 ≤ s57.1 then
    some (.inr (s57.1, s57.2))
  else
    if s57.1 < 0 ∨ 19 ≤ s57.1.toNatClampNeg then none else
    if (((19 : Int32) * mPa) + s57.1) < 0 ∨ 76 ≤ (((19 : Int32) * mPa) + s57.1).toNatClampNeg then none else
    k_let (upd s57.2 (((19 : Int32) * mPa) + s57.1).toNatClampNeg (rS s57.1.toNatClampNeg)) fun w6 =>
    some (.inl (s57.1 + 1, w6))
def t_X8_changes_18  (s18 : Int32 × (Nat → Int32)) : Option ((Int32 × (Nat → Int32)) ⊕ (Int32 × (Nat → Int32))) :=
  if 57 ≤ s18.1 then
    some (.inr (s18.1, s18.2))
  else
    if (s18.1 + 19) < 0 ∨ 76 ≤ (s18.1 + 19).toNatClampNeg then none else
    if s18.1 < 0 ∨ 76 ≤ s18.1.toNatClampNeg then none else
    k_let (upd s18.2 s18.1.toNatClampNeg (s18.2 (s18.1 + 19).toNatClampNeg)) fun w12 =>
    some (.inl (s18.1 + 1, w12))
def f_X8_changes (mPa : Int32) (mRu : Int32) (rS : Nat → Int32) (rP : Nat → Int32) : Option (Int32 × (Nat → Int32)) :=
  if mRu = 0 then
    if mPa = 4 then
      (k_loop (t_X8_changes_18 ) 1000 (0, rP)).bind fun x13 =>
      k_let (mPa - 1) fun y14 =>
      (k_loop (t_X8_changes_57 y14 rS) 1000 (0, x13.2)).bind fun x15 =>
      k_let (y14 + 1) fun y16 =>
      some (y16, x15.2)
    else
      (k_loop (t_X8_changes_57 mPa rS) 1000 (0, rP)).bind fun x7 =>
      k_let (mPa + 1) fun y8 =>
      some (y8, x7.2)
  else
    some (mPa, rP)
abbrev rm_X8_changes : Room := { frames := 0, cells := 0, slots := 0, locals := 0 }
theorem hd_X8_changes : yX8_changes.cls = RX8 ∧ yX8_changes.cls ≠ "java/lang/invoke/MethodHandle" ∧ yX8_changes.cls ≠ "java/lang/invoke/VarHandle" ∧ (parseMethodDescriptor yX8_changes.desc).map (fun d => d.parameters.length) = some 0 := by decide +kernel
set_option maxHeartbeats 4000000 in
set_option maxRecDepth 100000 in
theorem c_X8_changes (l : Launch) (D : va_G) (cy : Nat → ClassId) (h0 sa pa ka aa oa wa ca ta na : Nat) (mOp : Int32) (mIk : Int32) (mPa : Int32) (mRu : Int32) (mLa : Int32) (mTy : Int32) (mSp : Int32) (mFr : Int32) (mRe : Int32) (mCa : Int32) (mOr : Int32) (mLe : Int32) (rS : Nat → Int32) (rP : Nat → Int32) (rK : Nat → Int32) (rA : Nat → Int32) (rO : Nat → Int32) (rW : Nat → Int32) (rC : Nat → Int32) (rT : Nat → Int32) (rN : Nat → Int32)  (r : Int32 × (Nat → Int32)) (hf : f_X8_changes mPa mRu rS rP = some r) : k_HMet l yX8_changes wsX8_changes rm_X8_changes D (k_tys cy) [.ref h0] (wX8 cy h0 sa pa ka aa oa wa ca ta na mOp mIk mPa mRu mLa mTy mSp mFr mRe mCa mOr mLe rS rP rK rA rO rW rC rT rN) none (wX8 cy h0 sa pa ka aa oa wa ca ta na mOp mIk r.1 mRu mLa mTy mSp mFr mRe mCa mOr mLe rS r.2 rK rA rO rW rC rT rN) := by
  refine k_heapOf (cc := cX8_changes) (maxL := 2) (ret := none) (by decide) rfl (Nat.le_of_ble_eq_true rfl) ?_
  intro p e s m args below meth c ls A hx hb hr hlocks hml hown hts hl hA hK hP hD hN
  have hl : lv_has ls 2 [(0, .ref h0)] := hl
  have hS : va_S A s.heap s.heap [] := va_S.rf
  have in_X8 : ∀ w ∈ wsX80, w ∈ wsX8_changes := by decide +kernel
  have fl7 := hts (.fieldLink RX8 7 "FencedBoxesModel" "s" "[I") (by decide +kernel)
  have fl13 := hts (.fieldLink RX8 13 "FencedBoxesModel" "past" "[I") (by decide +kernel)
  have fl41 := hts (.fieldLink RX8 41 "FencedBoxesModel" "runs" "Z") (by decide +kernel)
  have fl45 := hts (.fieldLink RX8 45 "FencedBoxesModel" "pasts" "I") (by decide +kernel)
  have L57 : ∀ (Q : State → Prop) (n : Nat) (mOp : Int32) (mIk : Int32) (mPa : Int32) (mRu : Int32) (mLa : Int32) (mTy : Int32) (mSp : Int32) (mFr : Int32) (mRe : Int32) (mCa : Int32) (mOr : Int32) (mLe : Int32) (rS : Nat → Int32) (rK : Nat → Int32) (rA : Nat → Int32) (rO : Nat → Int32) (rW : Nat → Int32) (rC : Nat → Int32) (rT : Nat → Int32) (rN : Nat → Int32) (s57 : Int32 × (Nat → Int32)) (q : (Int32 × (Nat → Int32))), k_loop (t_X8_changes_57 mPa rS) n s57 = some q → ∀ (ls : Array Slot) (H : Heap) (locs : List Loc), lv_has ls 2 [(0, .ref h0), (1, .int s57.1)] → va_P D vwCl (wX8 cy h0 sa pa ka aa oa wa ca ta na mOp mIk mPa mRu mLa mTy mSp mFr mRe mCa mOr mLe rS s57.2 rK rA rO rW rC rT rN) H → va_D A (wX8 cy h0 sa pa ka aa oa wa ca ta na mOp mIk mPa mRu mLa mTy mSp mFr mRe mCa mOr mLe rS s57.2 rK rA rO rW rC rT rN) → va_S A s.heap H locs → (∀ (ls : Array Slot) (H : Heap) (locs : List Loc), True → lv_has ls 2 [(0, .ref h0)] → va_P D vwCl (wX8 cy h0 sa pa ka aa oa wa ca ta na mOp mIk mPa mRu mLa mTy mSp mFr mRe mCa mOr mLe rS q.2 rK rA rO rW rC rT rN) H → va_D A (wX8 cy h0 sa pa ka aa oa wa ca ta na mOp mIk mPa mRu mLa mTy mSp mFr mRe mCa mOr mLe rS q.2 rK rA rO rW rC rT rN) → va_S A s.heap H locs → W p l e rm_X8_changes s m args below meth c H locs 0 0 Q (F0 m 89 ls [])) → W p l e rm_X8_changes s m args below meth c H locs 0 0 Q (F0 m 57 ls []) := by
    intro Q n
    induction n with
    | zero =>
      intro mOp mIk mPa mRu mLa mTy mSp mFr mRe mCa mOr mLe rS rK rA rO rW rC rT rN s57 q hq
      exact (k_loop0 hq).elim
    | succ n ih =>
      intro mOp mIk mPa mRu mLa mTy mSp mFr mRe mCa mOr mLe rS rK rA rO rW rC rT rN s57 q hq ls H locs hl hP hD hS kx 
      obtain ⟨x, hf, hq⟩ := k_loopE hq
      unfold t_X8_changes_57 at hf
      refine lv_iload_n hx hb dX8_changes_57 rfl (lv_at hl 1 rfl) ?_
      refine lv_bipush (v := 19) hx hb dX8_changes_58 (by decide) ?_
      refine lv_icmp_ge (tgt := 89) hx hb dX8_changes_60 (by decide) (fun c3 => ?_) (fun c3 => ?_)
      · have hf := k_T c3 hf
        obtain rfl := k_some hf
        obtain rfl := k_some (k_inr hq)
        exact kx ls H locs trivial (lv_sub hl [0] rfl) hP hD hS
      · have hf := k_F c3 hf
        refine lv_aload_n hx hb dX8_changes_63 rfl (lv_at hl 0 rfl) ?_
        refine va_get (D := D) (ci := 5) (v := .ref pa) (C := RX8) (T := TX8) (N := 21) hx hb hts in_X8 hown hK hP 0 rfl rfl 1 (by decide) fl13 (fun _ h9 => h9) rfl dX8_changes_64 ?_
        refine lv_bipush (v := 19) hx hb dX8_changes_67 (by decide) ?_
        refine lv_aload_n hx hb dX8_changes_69 rfl (lv_at hl 0 rfl) ?_
        refine va_get (D := D) (ci := 5) (v := .int mPa) (C := RX8) (T := TX8) (N := 21) hx hb hts in_X8 hown hK hP 0 rfl rfl 9 (by decide) fl45 (fun _ h9 => h9) rfl dX8_changes_70 ?_
        refine lv_imul hx hb dX8_changes_73 ?_
        refine lv_iload_n hx hb dX8_changes_74 rfl (lv_at hl 1 rfl) ?_
        refine lv_iadd hx hb dX8_changes_75 ?_
        refine lv_aload_n hx hb dX8_changes_76 rfl (lv_at hl 0 rfl) ?_
        refine va_get (D := D) (ci := 5) (v := .ref sa) (C := RX8) (T := TX8) (N := 21) hx hb hts in_X8 hown hK hP 0 rfl rfl 0 (by decide) fl7 (fun _ h9 => h9) rfl dX8_changes_77 ?_
        refine lv_iload_n hx hb dX8_changes_80 rfl (lv_at hl 1 rfl) ?_
        obtain ⟨g4, hf⟩ := k_G hf
        refine va_iald hx hb hK hP 1 0 rfl rfl g4 dX8_changes_81 ?_
        obtain ⟨g5, hf⟩ := k_G hf
        refine va_iast hx hb hK hP hD hS 2 0 rfl rfl g5 dX8_changes_82 (fun H locs hP hD hS => ?_)
        obtain ⟨w6, ew6, hf⟩ := k_L hf
        have hP : va_P D vwCl (wX8 cy h0 sa pa ka aa oa wa ca ta na mOp mIk mPa mRu mLa mTy mSp mFr mRe mCa mOr mLe rS w6 rK rA rO rW rC rT rN) H := by rw [ew6]; exact hP
        have hD : va_D A (wX8 cy h0 sa pa ka aa oa wa ca ta na mOp mIk mPa mRu mLa mTy mSp mFr mRe mCa mOr mLe rS w6 rK rA rO rW rC rT rN) := by rw [ew6]; exact hD
        refine lv_iinc (v := s57.1 + 1) (lv' := [(1, .int (s57.1 + 1)), (0, .ref h0)]) hx hb dX8_changes_83 hl (k := 1) rfl rfl (by decide) rfl (fun ls hl => ?_)
        refine lv_goto (tgt := 57) hx hb dX8_changes_86 (by decide) ?_
        obtain rfl := k_some hf
        exact ih mOp mIk mPa mRu mLa mTy mSp mFr mRe mCa mOr mLe rS rK rA rO rW rC rT rN (s57.1 + 1, w6) q (k_inl hq) ls H locs (lv_sub hl [1, 0] rfl) hP hD hS kx 
  have L18 : ∀ (Q : State → Prop) (n : Nat) (mOp : Int32) (mIk : Int32) (mPa : Int32) (mRu : Int32) (mLa : Int32) (mTy : Int32) (mSp : Int32) (mFr : Int32) (mRe : Int32) (mCa : Int32) (mOr : Int32) (mLe : Int32) (rS : Nat → Int32) (rK : Nat → Int32) (rA : Nat → Int32) (rO : Nat → Int32) (rW : Nat → Int32) (rC : Nat → Int32) (rT : Nat → Int32) (rN : Nat → Int32) (s18 : Int32 × (Nat → Int32)) (q : (Int32 × (Nat → Int32))), k_loop (t_X8_changes_18 ) n s18 = some q → ∀ (ls : Array Slot) (H : Heap) (locs : List Loc), lv_has ls 2 [(0, .ref h0), (1, .int s18.1)] → va_P D vwCl (wX8 cy h0 sa pa ka aa oa wa ca ta na mOp mIk mPa mRu mLa mTy mSp mFr mRe mCa mOr mLe rS s18.2 rK rA rO rW rC rT rN) H → va_D A (wX8 cy h0 sa pa ka aa oa wa ca ta na mOp mIk mPa mRu mLa mTy mSp mFr mRe mCa mOr mLe rS s18.2 rK rA rO rW rC rT rN) → va_S A s.heap H locs → (∀ (ls : Array Slot) (H : Heap) (locs : List Loc), True → lv_has ls 2 [(0, .ref h0)] → va_P D vwCl (wX8 cy h0 sa pa ka aa oa wa ca ta na mOp mIk mPa mRu mLa mTy mSp mFr mRe mCa mOr mLe rS q.2 rK rA rO rW rC rT rN) H → va_D A (wX8 cy h0 sa pa ka aa oa wa ca ta na mOp mIk mPa mRu mLa mTy mSp mFr mRe mCa mOr mLe rS q.2 rK rA rO rW rC rT rN) → va_S A s.heap H locs → W p l e rm_X8_changes s m args below meth c H locs 0 0 Q (F0 m 45 ls [])) → W p l e rm_X8_changes s m args below meth c H locs 0 0 Q (F0 m 18 ls []) := by
    intro Q n
    induction n with
    | zero =>
      intro mOp mIk mPa mRu mLa mTy mSp mFr mRe mCa mOr mLe rS rK rA rO rW rC rT rN s18 q hq
      exact (k_loop0 hq).elim
    | succ n ih =>
      intro mOp mIk mPa mRu mLa mTy mSp mFr mRe mCa mOr mLe rS rK rA rO rW rC rT rN s18 q hq ls H locs hl hP hD hS kx 
      obtain ⟨x, hf, hq⟩ := k_loopE hq
      unfold t_X8_changes_18 at hf
      refine lv_iload_n hx hb dX8_changes_18 rfl (lv_at hl 1 rfl) ?_
      refine lv_bipush (v := 57) hx hb dX8_changes_19 (by decide) ?_
      refine lv_icmp_ge (tgt := 45) hx hb dX8_changes_21 (by decide) (fun c9 => ?_) (fun c9 => ?_)
      · have hf := k_T c9 hf
        obtain rfl := k_some hf
        obtain rfl := k_some (k_inr hq)
        exact kx ls H locs trivial (lv_sub hl [0] rfl) hP hD hS
      · have hf := k_F c9 hf
        refine lv_aload_n hx hb dX8_changes_24 rfl (lv_at hl 0 rfl) ?_
        refine va_get (D := D) (ci := 5) (v := .ref pa) (C := RX8) (T := TX8) (N := 21) hx hb hts in_X8 hown hK hP 0 rfl rfl 1 (by decide) fl13 (fun _ h9 => h9) rfl dX8_changes_25 ?_
        refine lv_iload_n hx hb dX8_changes_28 rfl (lv_at hl 1 rfl) ?_
        refine lv_aload_n hx hb dX8_changes_29 rfl (lv_at hl 0 rfl) ?_
        refine va_get (D := D) (ci := 5) (v := .ref pa) (C := RX8) (T := TX8) (N := 21) hx hb hts in_X8 hown hK hP 0 rfl rfl 1 (by decide) fl13 (fun _ h9 => h9) rfl dX8_changes_30 ?_
        refine lv_iload_n hx hb dX8_changes_33 rfl (lv_at hl 1 rfl) ?_
        refine lv_bipush (v := 19) hx hb dX8_changes_34 (by decide) ?_
        refine lv_iadd hx hb dX8_changes_36 ?_
        obtain ⟨g10, hf⟩ := k_G hf
        refine va_iald hx hb hK hP 2 0 rfl rfl g10 dX8_changes_37 ?_
        obtain ⟨g11, hf⟩ := k_G hf
        refine va_iast hx hb hK hP hD hS 2 0 rfl rfl g11 dX8_changes_38 (fun H locs hP hD hS => ?_)
        obtain ⟨w12, ew12, hf⟩ := k_L hf
        have hP : va_P D vwCl (wX8 cy h0 sa pa ka aa oa wa ca ta na mOp mIk mPa mRu mLa mTy mSp mFr mRe mCa mOr mLe rS w12 rK rA rO rW rC rT rN) H := by rw [ew12]; exact hP
        have hD : va_D A (wX8 cy h0 sa pa ka aa oa wa ca ta na mOp mIk mPa mRu mLa mTy mSp mFr mRe mCa mOr mLe rS w12 rK rA rO rW rC rT rN) := by rw [ew12]; exact hD
        refine lv_iinc (v := s18.1 + 1) (lv' := [(1, .int (s18.1 + 1)), (0, .ref h0)]) hx hb dX8_changes_39 hl (k := 1) rfl rfl (by decide) rfl (fun ls hl => ?_)
        refine lv_goto (tgt := 18) hx hb dX8_changes_42 (by decide) ?_
        obtain rfl := k_some hf
        exact ih mOp mIk mPa mRu mLa mTy mSp mFr mRe mCa mOr mLe rS rK rA rO rW rC rT rN (s18.1 + 1, w12) q (k_inl hq) ls H locs (lv_sub hl [1, 0] rfl) hP hD hS kx 
  unfold f_X8_changes at hf
  obtain ⟨H, eH⟩ : ∃ H, H = s.heap := ⟨_, rfl⟩
  obtain ⟨locs, elocs⟩ : ∃ L : List Loc, L = [] := ⟨_, rfl⟩
  have hP : va_P D vwCl (wX8 cy h0 sa pa ka aa oa wa ca ta na mOp mIk mPa mRu mLa mTy mSp mFr mRe mCa mOr mLe rS rP rK rA rO rW rC rT rN) H := by rw [eH]; exact hP
  have hS : va_S A s.heap H locs := by rw [eH, elocs]; exact hS
  refine k_here eH elocs ?_
  refine lv_aload_n hx hb dX8_changes_0 rfl (lv_at hl 0 rfl) ?_
  refine va_get (D := D) (ci := 5) (v := .int mRu) (C := RX8) (T := TX8) (N := 21) hx hb hts in_X8 hown hK hP 0 rfl rfl 10 (by decide) fl41 (fun _ h9 => h9) rfl dX8_changes_1 ?_
  refine lv_if_eq (tgt := 8) hx hb dX8_changes_4 (by decide) (fun c1 => ?_) (fun c1 => ?_)
  · have hf := k_T c1 hf
    refine lv_aload_n hx hb dX8_changes_8 rfl (lv_at hl 0 rfl) ?_
    refine va_get (D := D) (ci := 5) (v := .int mPa) (C := RX8) (T := TX8) (N := 21) hx hb hts in_X8 hown hK hP 0 rfl rfl 9 (by decide) fl45 (fun _ h9 => h9) rfl dX8_changes_9 ?_
    refine lv_iconst (v := 4) hx hb dX8_changes_12 (by decide) ?_
    refine lv_icmp_ne (tgt := 55) hx hb dX8_changes_13 (by decide) (fun c2 => ?_) (fun c2 => ?_)
    · have hf := k_F c2 hf
      refine lv_iconst (v := 0) hx hb dX8_changes_55 (by decide) ?_
      refine lv_istore_n (lv' := [(1, .int 0), (0, .ref h0)]) hx hb dX8_changes_56 rfl hl (by decide) rfl (fun ls hl => ?_)
      obtain ⟨x7, hx7, hf⟩ := k_B hf
      refine L57 _ 1000 mOp mIk mPa mRu mLa mTy mSp mFr mRe mCa mOr mLe rS rK rA rO rW rC rT rN (0, rP) x7 hx7 ls H locs (lv_sub hl [1, 0] rfl) hP hD hS ?_
      · intro ls H locs _ hl hP hD hS
        refine lv_aload_n hx hb dX8_changes_89 rfl (lv_at hl 0 rfl) ?_
        refine lv_dup hx hb dX8_changes_90 rfl ?_
        refine va_get (D := D) (ci := 5) (v := .int mPa) (C := RX8) (T := TX8) (N := 21) hx hb hts in_X8 hown hK hP 0 rfl rfl 9 (by decide) fl45 (fun _ h9 => h9) rfl dX8_changes_91 ?_
        refine lv_iconst (v := 1) hx hb dX8_changes_94 (by decide) ?_
        refine lv_iadd hx hb dX8_changes_95 ?_
        obtain ⟨y8, ey8, hf⟩ := k_L hf
        refine k_name ey8 ?_
        refine va_put (D := D) (ci := 5) (v := .int y8) (ty := .int) (C := RX8) (T := TX8) (N := 21) hx hb hts in_X8 tyX8 tyX8_ok nmX8 hown hK hP hD hS 0 rfl rfl 9 (by decide) fl45 (fun _ h9 => h9) rfl (by decide +kernel) rfl rfl (Nat.le_of_ble_eq_true rfl) dX8_changes_96 (fun H locs hP hD hS => ?_)
        have hP : va_P D vwCl (wX8 cy h0 sa pa ka aa oa wa ca ta na mOp mIk y8 mRu mLa mTy mSp mFr mRe mCa mOr mLe rS x7.2 rK rA rO rW rC rT rN) H := hP
        have hD : va_D A (wX8 cy h0 sa pa ka aa oa wa ca ta na mOp mIk y8 mRu mLa mTy mSp mFr mRe mCa mOr mLe rS x7.2 rK rA rO rW rC rT rN) := hD
        obtain rfl := k_some hf
        exact k_vret hx hb hr hP hD hS dX8_changes_99 hlocks
    · have hf := k_T c2 hf
      refine lv_iconst (v := 0) hx hb dX8_changes_16 (by decide) ?_
      refine lv_istore_n (lv' := [(1, .int 0), (0, .ref h0)]) hx hb dX8_changes_17 rfl hl (by decide) rfl (fun ls hl => ?_)
      obtain ⟨x13, hx13, hf⟩ := k_B hf
      refine L18 _ 1000 mOp mIk mPa mRu mLa mTy mSp mFr mRe mCa mOr mLe rS rK rA rO rW rC rT rN (0, rP) x13 hx13 ls H locs (lv_sub hl [1, 0] rfl) hP hD hS ?_
      · intro ls H locs _ hl hP hD hS
        refine lv_aload_n hx hb dX8_changes_45 rfl (lv_at hl 0 rfl) ?_
        refine lv_dup hx hb dX8_changes_46 rfl ?_
        refine va_get (D := D) (ci := 5) (v := .int mPa) (C := RX8) (T := TX8) (N := 21) hx hb hts in_X8 hown hK hP 0 rfl rfl 9 (by decide) fl45 (fun _ h9 => h9) rfl dX8_changes_47 ?_
        refine lv_iconst (v := 1) hx hb dX8_changes_50 (by decide) ?_
        refine lv_isub hx hb dX8_changes_51 ?_
        obtain ⟨y14, ey14, hf⟩ := k_L hf
        refine k_name ey14 ?_
        refine va_put (D := D) (ci := 5) (v := .int y14) (ty := .int) (C := RX8) (T := TX8) (N := 21) hx hb hts in_X8 tyX8 tyX8_ok nmX8 hown hK hP hD hS 0 rfl rfl 9 (by decide) fl45 (fun _ h9 => h9) rfl (by decide +kernel) rfl rfl (Nat.le_of_ble_eq_true rfl) dX8_changes_52 (fun H locs hP hD hS => ?_)
        have hP : va_P D vwCl (wX8 cy h0 sa pa ka aa oa wa ca ta na mOp mIk y14 mRu mLa mTy mSp mFr mRe mCa mOr mLe rS x13.2 rK rA rO rW rC rT rN) H := hP
        have hD : va_D A (wX8 cy h0 sa pa ka aa oa wa ca ta na mOp mIk y14 mRu mLa mTy mSp mFr mRe mCa mOr mLe rS x13.2 rK rA rO rW rC rT rN) := hD
        refine lv_iconst (v := 0) hx hb dX8_changes_55 (by decide) ?_
        refine lv_istore_n (lv' := [(1, .int 0), (0, .ref h0)]) hx hb dX8_changes_56 rfl hl (by decide) rfl (fun ls hl => ?_)
        obtain ⟨x15, hx15, hf⟩ := k_B hf
        refine L57 _ 1000 mOp mIk y14 mRu mLa mTy mSp mFr mRe mCa mOr mLe rS rK rA rO rW rC rT rN (0, x13.2) x15 hx15 ls H locs (lv_sub hl [1, 0] rfl) hP hD hS ?_
        · intro ls H locs _ hl hP hD hS
          refine lv_aload_n hx hb dX8_changes_89 rfl (lv_at hl 0 rfl) ?_
          refine lv_dup hx hb dX8_changes_90 rfl ?_
          refine va_get (D := D) (ci := 5) (v := .int y14) (C := RX8) (T := TX8) (N := 21) hx hb hts in_X8 hown hK hP 0 rfl rfl 9 (by decide) fl45 (fun _ h9 => h9) rfl dX8_changes_91 ?_
          refine lv_iconst (v := 1) hx hb dX8_changes_94 (by decide) ?_
          refine lv_iadd hx hb dX8_changes_95 ?_
          obtain ⟨y16, ey16, hf⟩ := k_L hf
          refine k_name ey16 ?_
          refine va_put (D := D) (ci := 5) (v := .int y16) (ty := .int) (C := RX8) (T := TX8) (N := 21) hx hb hts in_X8 tyX8 tyX8_ok nmX8 hown hK hP hD hS 0 rfl rfl 9 (by decide) fl45 (fun _ h9 => h9) rfl (by decide +kernel) rfl rfl (Nat.le_of_ble_eq_true rfl) dX8_changes_96 (fun H locs hP hD hS => ?_)
          have hP : va_P D vwCl (wX8 cy h0 sa pa ka aa oa wa ca ta na mOp mIk y16 mRu mLa mTy mSp mFr mRe mCa mOr mLe rS x15.2 rK rA rO rW rC rT rN) H := hP
          have hD : va_D A (wX8 cy h0 sa pa ka aa oa wa ca ta na mOp mIk y16 mRu mLa mTy mSp mFr mRe mCa mOr mLe rS x15.2 rK rA rO rW rC rT rN) := hD
          obtain rfl := k_some hf
          exact k_vret hx hb hr hP hD hS dX8_changes_99 hlocks
  · have hf := k_F c1 hf
    obtain rfl := k_some hf
    exact k_vret hx hb hr hP hD hS dX8_changes_7 hlocks
def f_X8_reason (n1 : Int32) (rS : Nat → Int32) : Option (Int32) :=
  if (rS 18) = 31 then
    some 1
  else
    (f_X8_isIn (rS 0) n1).bind fun v2 =>
    if v2 = 0 then
      some 0
    else
      some 2
abbrev rm_X8_reason : Room := { frames := 1, cells := 0, slots := 0, locals := 21 }
theorem hd_X8_reason : yX8_reason.cls = RX8 ∧ yX8_reason.cls ≠ "java/lang/invoke/MethodHandle" ∧ yX8_reason.cls ≠ "java/lang/invoke/VarHandle" ∧ (parseMethodDescriptor yX8_reason.desc).map (fun d => d.parameters.length) = some 1 := by decide +kernel
set_option maxHeartbeats 4000000 in
set_option maxRecDepth 100000 in
theorem c_X8_reason (l : Launch) (D : va_G) (cy : Nat → ClassId) (h0 sa pa ka aa oa wa ca ta na : Nat) (mOp : Int32) (mIk : Int32) (mPa : Int32) (mRu : Int32) (mLa : Int32) (mTy : Int32) (mSp : Int32) (mFr : Int32) (mRe : Int32) (mCa : Int32) (mOr : Int32) (mLe : Int32) (rS : Nat → Int32) (rP : Nat → Int32) (rK : Nat → Int32) (rA : Nat → Int32) (rO : Nat → Int32) (rW : Nat → Int32) (rC : Nat → Int32) (rT : Nat → Int32) (rN : Nat → Int32) (n1 : Int32) (r : Int32) (hf : f_X8_reason n1 rS = some r) : k_HMet l yX8_reason wsX8_reason rm_X8_reason D (k_tys cy) [.ref h0, .int n1] (wX8 cy h0 sa pa ka aa oa wa ca ta na mOp mIk mPa mRu mLa mTy mSp mFr mRe mCa mOr mLe rS rP rK rA rO rW rC rT rN) (some (.int r)) (wX8 cy h0 sa pa ka aa oa wa ca ta na mOp mIk mPa mRu mLa mTy mSp mFr mRe mCa mOr mLe rS rP rK rA rO rW rC rT rN) := by
  refine k_heapOf (cc := cX8_reason) (maxL := 2) (ret := (some .int)) (by decide) rfl (Nat.le_of_ble_eq_true rfl) ?_
  intro p e s m args below meth c ls A hx hb hr hlocks hml hown hts hl hA hK hP hD hN
  have hl : lv_has ls 2 [(0, .ref h0), (1, .int n1)] := hl
  have hS : va_S A s.heap s.heap [] := va_S.rf
  have in_X8 : ∀ w ∈ wsX80, w ∈ wsX8_reason := by decide +kernel
  have fl7 := hts (.fieldLink RX8 7 "FencedBoxesModel" "s" "[I") (by decide +kernel)
  unfold f_X8_reason at hf
  obtain ⟨H, eH⟩ : ∃ H, H = s.heap := ⟨_, rfl⟩
  obtain ⟨locs, elocs⟩ : ∃ L : List Loc, L = [] := ⟨_, rfl⟩
  have hP : va_P D vwCl (wX8 cy h0 sa pa ka aa oa wa ca ta na mOp mIk mPa mRu mLa mTy mSp mFr mRe mCa mOr mLe rS rP rK rA rO rW rC rT rN) H := by rw [eH]; exact hP
  have hS : va_S A s.heap H locs := by rw [eH, elocs]; exact hS
  refine k_here eH elocs ?_
  refine lv_aload_n hx hb dX8_reason_0 rfl (lv_at hl 0 rfl) ?_
  refine va_get (D := D) (ci := 5) (v := .ref sa) (C := RX8) (T := TX8) (N := 21) hx hb hts in_X8 hown hK hP 0 rfl rfl 0 (by decide) fl7 (fun _ h9 => h9) rfl dX8_reason_1 ?_
  refine lv_bipush (v := 18) hx hb dX8_reason_4 (by decide) ?_
  refine va_iald hx hb hK hP 1 0 rfl rfl (k_in (i := 18) (n := 19) (by decide +kernel)) dX8_reason_6 ?_
  refine k_name (v := rS 18) rfl ?_
  refine lv_bipush (v := 31) hx hb dX8_reason_7 (by decide) ?_
  refine lv_icmp_ne (tgt := 16) hx hb dX8_reason_9 (by decide) (fun c1 => ?_) (fun c1 => ?_)
  · have hf := k_F c1 hf
    refine lv_aload_n hx hb dX8_reason_16 rfl (lv_at hl 0 rfl) ?_
    refine va_get (D := D) (ci := 5) (v := .ref sa) (C := RX8) (T := TX8) (N := 21) hx hb hts in_X8 hown hK hP 0 rfl rfl 0 (by decide) fl7 (fun _ h9 => h9) rfl dX8_reason_17 ?_
    refine lv_iconst (v := 0) hx hb dX8_reason_20 (by decide) ?_
    refine va_iald hx hb hK hP 1 0 rfl rfl (k_in (i := 0) (n := 19) (by decide +kernel)) dX8_reason_21 ?_
    refine k_name (v := rS 0) rfl ?_
    refine lv_iload_n hx hb dX8_reason_22 rfl (lv_at hl 1 rfl) ?_
    obtain ⟨v2, hv2, hf⟩ := k_B hf
    refine k_callS (As := [.int (rS 0), .int n1]) (rest := []) ⟨hx, hb, hml, hown, hts⟩ (c_X8_isIn l (rS 0) n1 v2 hv2) (va_cwS 2 hts gX8_reason_X8_isIn rfl rfl rfl hd_X8_isIn ⟨Nat.le_of_ble_eq_true rfl, Nat.le_of_ble_eq_true rfl⟩) rfl hl.1 rfl (Nat.le_of_ble_eq_true rfl) dX8_reason_23 ⟨Nat.zero_le _, Nat.zero_le _⟩ ?_
    refine lv_if_eq (tgt := 33) hx hb dX8_reason_26 (by decide) (fun c3 => ?_) (fun c3 => ?_)
    · have hf := k_T c3 hf
      refine lv_iconst (v := 0) hx hb dX8_reason_33 (by decide) ?_
      obtain rfl := k_some hf
      exact k_iret hx hb hr hP hD hS dX8_reason_34 hlocks
    · have hf := k_F c3 hf
      refine lv_iconst (v := 2) hx hb dX8_reason_29 (by decide) ?_
      refine lv_goto (tgt := 34) hx hb dX8_reason_30 (by decide) ?_
      obtain rfl := k_some hf
      exact k_iret hx hb hr hP hD hS dX8_reason_34 hlocks
  · have hf := k_T c1 hf
    refine lv_iconst (v := 1) hx hb dX8_reason_12 (by decide) ?_
    refine lv_goto (tgt := 34) hx hb dX8_reason_13 (by decide) ?_
    obtain rfl := k_some hf
    exact k_iret hx hb hr hP hD hS dX8_reason_34 hlocks
def t_X8_boxes_4 (b1 : Int32) (rS : Nat → Int32) (s4 : Int32 × Int32) : Option ((Int32 × Int32) ⊕ (Int32 × Int32)) :=
  if 12 ≤ s4.2 then
    some (.inr (s4.1, s4.2))
  else
    if ((1 : Int32) + s4.2) < 0 ∨ 19 ≤ ((1 : Int32) + s4.2).toNatClampNeg then none else
    if (rS ((1 : Int32) + s4.2).toNatClampNeg) = (b1 + 1) then
      k_let (s4.1 + 1) fun y5 =>
      some (.inl (y5, s4.2 + 1))
    else
      k_let (s4.1 + 0) fun y4 =>
      some (.inl (y4, s4.2 + 1))
def f_X8_boxes (n1 : Int32) (rS : Nat → Int32) : Option (Int32) :=
  (k_loop (t_X8_boxes_4 n1 rS) 1000 (0, 0)).bind fun x6 =>
  some x6.1
abbrev rm_X8_boxes : Room := { frames := 0, cells := 0, slots := 0, locals := 0 }
theorem hd_X8_boxes : yX8_boxes.cls = RX8 ∧ yX8_boxes.cls ≠ "java/lang/invoke/MethodHandle" ∧ yX8_boxes.cls ≠ "java/lang/invoke/VarHandle" ∧ (parseMethodDescriptor yX8_boxes.desc).map (fun d => d.parameters.length) = some 1 := by decide +kernel
set_option maxHeartbeats 4000000 in
set_option maxRecDepth 100000 in
theorem c_X8_boxes (l : Launch) (D : va_G) (cy : Nat → ClassId) (h0 sa pa ka aa oa wa ca ta na : Nat) (mOp : Int32) (mIk : Int32) (mPa : Int32) (mRu : Int32) (mLa : Int32) (mTy : Int32) (mSp : Int32) (mFr : Int32) (mRe : Int32) (mCa : Int32) (mOr : Int32) (mLe : Int32) (rS : Nat → Int32) (rP : Nat → Int32) (rK : Nat → Int32) (rA : Nat → Int32) (rO : Nat → Int32) (rW : Nat → Int32) (rC : Nat → Int32) (rT : Nat → Int32) (rN : Nat → Int32) (n1 : Int32) (r : Int32) (hf : f_X8_boxes n1 rS = some r) : k_HMet l yX8_boxes wsX8_boxes rm_X8_boxes D (k_tys cy) [.ref h0, .int n1] (wX8 cy h0 sa pa ka aa oa wa ca ta na mOp mIk mPa mRu mLa mTy mSp mFr mRe mCa mOr mLe rS rP rK rA rO rW rC rT rN) (some (.int r)) (wX8 cy h0 sa pa ka aa oa wa ca ta na mOp mIk mPa mRu mLa mTy mSp mFr mRe mCa mOr mLe rS rP rK rA rO rW rC rT rN) := by
  refine k_heapOf (cc := cX8_boxes) (maxL := 4) (ret := (some .int)) (by decide) rfl (Nat.le_of_ble_eq_true rfl) ?_
  intro p e s m args below meth c ls A hx hb hr hlocks hml hown hts hl hA hK hP hD hN
  have hl : lv_has ls 4 [(0, .ref h0), (1, .int n1)] := hl
  have hS : va_S A s.heap s.heap [] := va_S.rf
  have in_X8 : ∀ w ∈ wsX80, w ∈ wsX8_boxes := by decide +kernel
  have fl7 := hts (.fieldLink RX8 7 "FencedBoxesModel" "s" "[I") (by decide +kernel)
  have L4 : ∀ (Q : State → Prop) (n : Nat) (b1 : Int32) (mOp : Int32) (mIk : Int32) (mPa : Int32) (mRu : Int32) (mLa : Int32) (mTy : Int32) (mSp : Int32) (mFr : Int32) (mRe : Int32) (mCa : Int32) (mOr : Int32) (mLe : Int32) (rS : Nat → Int32) (rP : Nat → Int32) (rK : Nat → Int32) (rA : Nat → Int32) (rO : Nat → Int32) (rW : Nat → Int32) (rC : Nat → Int32) (rT : Nat → Int32) (rN : Nat → Int32) (s4 : Int32 × Int32) (q : (Int32 × Int32)), k_loop (t_X8_boxes_4 b1 rS) n s4 = some q → ∀ (ls : Array Slot) (H : Heap) (locs : List Loc), lv_has ls 4 [(0, .ref h0), (1, .int b1), (2, .int s4.1), (3, .int s4.2)] → va_P D vwCl (wX8 cy h0 sa pa ka aa oa wa ca ta na mOp mIk mPa mRu mLa mTy mSp mFr mRe mCa mOr mLe rS rP rK rA rO rW rC rT rN) H → va_D A (wX8 cy h0 sa pa ka aa oa wa ca ta na mOp mIk mPa mRu mLa mTy mSp mFr mRe mCa mOr mLe rS rP rK rA rO rW rC rT rN) → va_S A s.heap H locs → (∀ (ls : Array Slot) (H : Heap) (locs : List Loc), True → lv_has ls 4 [(2, .int q.1)] → va_P D vwCl (wX8 cy h0 sa pa ka aa oa wa ca ta na mOp mIk mPa mRu mLa mTy mSp mFr mRe mCa mOr mLe rS rP rK rA rO rW rC rT rN) H → va_D A (wX8 cy h0 sa pa ka aa oa wa ca ta na mOp mIk mPa mRu mLa mTy mSp mFr mRe mCa mOr mLe rS rP rK rA rO rW rC rT rN) → va_S A s.heap H locs → W p l e rm_X8_boxes s m args below meth c H locs 0 0 Q (F0 m 38 ls [])) → W p l e rm_X8_boxes s m args below meth c H locs 0 0 Q (F0 m 4 ls []) := by
    intro Q n
    induction n with
    | zero =>
      intro b1 mOp mIk mPa mRu mLa mTy mSp mFr mRe mCa mOr mLe rS rP rK rA rO rW rC rT rN s4 q hq
      exact (k_loop0 hq).elim
    | succ n ih =>
      intro b1 mOp mIk mPa mRu mLa mTy mSp mFr mRe mCa mOr mLe rS rP rK rA rO rW rC rT rN s4 q hq ls H locs hl hP hD hS kx 
      obtain ⟨x, hf, hq⟩ := k_loopE hq
      unfold t_X8_boxes_4 at hf
      refine lv_iload_n hx hb dX8_boxes_4 rfl (lv_at hl 3 rfl) ?_
      refine lv_bipush (v := 12) hx hb dX8_boxes_5 (by decide) ?_
      refine lv_icmp_ge (tgt := 38) hx hb dX8_boxes_7 (by decide) (fun c1 => ?_) (fun c1 => ?_)
      · have hf := k_T c1 hf
        obtain rfl := k_some hf
        obtain rfl := k_some (k_inr hq)
        exact kx ls H locs trivial (lv_sub hl [2] rfl) hP hD hS
      · have hf := k_F c1 hf
        refine lv_iload_n hx hb dX8_boxes_10 rfl (lv_at hl 2 rfl) ?_
        refine lv_aload_n hx hb dX8_boxes_11 rfl (lv_at hl 0 rfl) ?_
        refine va_get (D := D) (ci := 5) (v := .ref sa) (C := RX8) (T := TX8) (N := 21) hx hb hts in_X8 hown hK hP 0 rfl rfl 0 (by decide) fl7 (fun _ h9 => h9) rfl dX8_boxes_12 ?_
        refine lv_iconst (v := 1) hx hb dX8_boxes_15 (by decide) ?_
        refine lv_iload_n hx hb dX8_boxes_16 rfl (lv_at hl 3 rfl) ?_
        refine lv_iadd hx hb dX8_boxes_17 ?_
        obtain ⟨g2, hf⟩ := k_G hf
        refine va_iald hx hb hK hP 1 0 rfl rfl g2 dX8_boxes_18 ?_
        refine lv_iload_n hx hb dX8_boxes_19 rfl (lv_at hl 1 rfl) ?_
        refine lv_iconst (v := 1) hx hb dX8_boxes_20 (by decide) ?_
        refine lv_iadd hx hb dX8_boxes_21 ?_
        refine lv_icmp_ne (tgt := 29) hx hb dX8_boxes_22 (by decide) (fun c3 => ?_) (fun c3 => ?_)
        · have hf := k_F c3 hf
          refine lv_iconst (v := 0) hx hb dX8_boxes_29 (by decide) ?_
          refine lv_iadd hx hb dX8_boxes_30 ?_
          obtain ⟨y4, ey4, hf⟩ := k_L hf
          refine k_name ey4 ?_
          refine lv_istore_n (lv' := [(2, .int y4), (0, .ref h0), (1, .int b1), (3, .int s4.2)]) hx hb dX8_boxes_31 rfl hl (by decide) rfl (fun ls hl => ?_)
          refine lv_iinc (v := s4.2 + 1) (lv' := [(3, .int (s4.2 + 1)), (2, .int y4), (0, .ref h0), (1, .int b1)]) hx hb dX8_boxes_32 hl (k := 3) rfl rfl (by decide) rfl (fun ls hl => ?_)
          refine lv_goto (tgt := 4) hx hb dX8_boxes_35 (by decide) ?_
          obtain rfl := k_some hf
          exact ih b1 mOp mIk mPa mRu mLa mTy mSp mFr mRe mCa mOr mLe rS rP rK rA rO rW rC rT rN (y4, s4.2 + 1) q (k_inl hq) ls H locs (lv_sub hl [2, 3, 1, 0] rfl) hP hD hS kx 
        · have hf := k_T c3 hf
          refine lv_iconst (v := 1) hx hb dX8_boxes_25 (by decide) ?_
          refine lv_goto (tgt := 30) hx hb dX8_boxes_26 (by decide) ?_
          refine lv_iadd hx hb dX8_boxes_30 ?_
          obtain ⟨y5, ey5, hf⟩ := k_L hf
          refine k_name ey5 ?_
          refine lv_istore_n (lv' := [(2, .int y5), (0, .ref h0), (1, .int b1), (3, .int s4.2)]) hx hb dX8_boxes_31 rfl hl (by decide) rfl (fun ls hl => ?_)
          refine lv_iinc (v := s4.2 + 1) (lv' := [(3, .int (s4.2 + 1)), (2, .int y5), (0, .ref h0), (1, .int b1)]) hx hb dX8_boxes_32 hl (k := 3) rfl rfl (by decide) rfl (fun ls hl => ?_)
          refine lv_goto (tgt := 4) hx hb dX8_boxes_35 (by decide) ?_
          obtain rfl := k_some hf
          exact ih b1 mOp mIk mPa mRu mLa mTy mSp mFr mRe mCa mOr mLe rS rP rK rA rO rW rC rT rN (y5, s4.2 + 1) q (k_inl hq) ls H locs (lv_sub hl [2, 3, 1, 0] rfl) hP hD hS kx 
  unfold f_X8_boxes at hf
  obtain ⟨H, eH⟩ : ∃ H, H = s.heap := ⟨_, rfl⟩
  obtain ⟨locs, elocs⟩ : ∃ L : List Loc, L = [] := ⟨_, rfl⟩
  have hP : va_P D vwCl (wX8 cy h0 sa pa ka aa oa wa ca ta na mOp mIk mPa mRu mLa mTy mSp mFr mRe mCa mOr mLe rS rP rK rA rO rW rC rT rN) H := by rw [eH]; exact hP
  have hS : va_S A s.heap H locs := by rw [eH, elocs]; exact hS
  refine k_here eH elocs ?_
  refine lv_iconst (v := 0) hx hb dX8_boxes_0 (by decide) ?_
  refine lv_istore_n (lv' := [(2, .int 0), (0, .ref h0), (1, .int n1)]) hx hb dX8_boxes_1 rfl hl (by decide) rfl (fun ls hl => ?_)
  refine lv_iconst (v := 0) hx hb dX8_boxes_2 (by decide) ?_
  refine lv_istore_n (lv' := [(3, .int 0), (2, .int 0), (0, .ref h0), (1, .int n1)]) hx hb dX8_boxes_3 rfl hl (by decide) rfl (fun ls hl => ?_)
  obtain ⟨x6, hx6, hf⟩ := k_B hf
  refine L4 _ 1000 n1 mOp mIk mPa mRu mLa mTy mSp mFr mRe mCa mOr mLe rS rP rK rA rO rW rC rT rN (0, 0) x6 hx6 ls H locs (lv_sub hl [2, 3, 1, 0] rfl) hP hD hS ?_
  · intro ls H locs _ hl hP hD hS
    refine lv_iload_n hx hb dX8_boxes_38 rfl (lv_at hl 0 rfl) ?_
    obtain rfl := k_some hf
    exact k_iret hx hb hr hP hD hS dX8_boxes_39 hlocks
def f_X8_ends (rS : Nat → Int32) : Option ((Nat → Int32)) :=
  (f_X8_boxes 0 rS).bind fun v1 =>
  (f_X8_boxes 1 rS).bind fun v2 =>
  k_let (v1 - v2) fun y3 =>
  if y3 = 0 then
    k_let (upd rS 16 ((rS 16) + 1)) fun w12 =>
    some w12
  else
    if y3 ≤ 0 then
      if ((14 : Int32) + 1) < 0 ∨ 19 ≤ ((14 : Int32) + 1).toNatClampNeg then none else
      if ((14 : Int32) + 1) < 0 ∨ 19 ≤ ((14 : Int32) + 1).toNatClampNeg then none else
      k_let (upd rS ((14 : Int32) + 1).toNatClampNeg ((rS ((14 : Int32) + 1).toNatClampNeg) + 1)) fun w8 =>
      some w8
    else
      if ((14 : Int32) + 0) < 0 ∨ 19 ≤ ((14 : Int32) + 0).toNatClampNeg then none else
      if ((14 : Int32) + 0) < 0 ∨ 19 ≤ ((14 : Int32) + 0).toNatClampNeg then none else
      k_let (upd rS ((14 : Int32) + 0).toNatClampNeg ((rS ((14 : Int32) + 0).toNatClampNeg) + 1)) fun w11 =>
      some w11
abbrev rm_X8_ends : Room := { frames := 1, cells := 0, slots := 0, locals := 23 }
theorem hd_X8_ends : yX8_ends.cls = RX8 ∧ yX8_ends.cls ≠ "java/lang/invoke/MethodHandle" ∧ yX8_ends.cls ≠ "java/lang/invoke/VarHandle" ∧ (parseMethodDescriptor yX8_ends.desc).map (fun d => d.parameters.length) = some 0 := by decide +kernel
set_option maxHeartbeats 4000000 in
set_option maxRecDepth 100000 in
theorem c_X8_ends (l : Launch) (D : va_G) (cy : Nat → ClassId) (h0 sa pa ka aa oa wa ca ta na : Nat) (mOp : Int32) (mIk : Int32) (mPa : Int32) (mRu : Int32) (mLa : Int32) (mTy : Int32) (mSp : Int32) (mFr : Int32) (mRe : Int32) (mCa : Int32) (mOr : Int32) (mLe : Int32) (rS : Nat → Int32) (rP : Nat → Int32) (rK : Nat → Int32) (rA : Nat → Int32) (rO : Nat → Int32) (rW : Nat → Int32) (rC : Nat → Int32) (rT : Nat → Int32) (rN : Nat → Int32)  (r : (Nat → Int32)) (hf : f_X8_ends rS = some r) : k_HMet l yX8_ends wsX8_ends rm_X8_ends D (k_tys cy) [.ref h0] (wX8 cy h0 sa pa ka aa oa wa ca ta na mOp mIk mPa mRu mLa mTy mSp mFr mRe mCa mOr mLe rS rP rK rA rO rW rC rT rN) none (wX8 cy h0 sa pa ka aa oa wa ca ta na mOp mIk mPa mRu mLa mTy mSp mFr mRe mCa mOr mLe r rP rK rA rO rW rC rT rN) := by
  refine k_heapOf (cc := cX8_ends) (maxL := 2) (ret := none) (by decide) rfl (Nat.le_of_ble_eq_true rfl) ?_
  intro p e s m args below meth c ls A hx hb hr hlocks hml hown hts hl hA hK hP hD hN
  have hl : lv_has ls 2 [(0, .ref h0)] := hl
  have hS : va_S A s.heap s.heap [] := va_S.rf
  have in_X8 : ∀ w ∈ wsX80, w ∈ wsX8_ends := by decide +kernel
  have fl7 := hts (.fieldLink RX8 7 "FencedBoxesModel" "s" "[I") (by decide +kernel)
  unfold f_X8_ends at hf
  obtain ⟨H, eH⟩ : ∃ H, H = s.heap := ⟨_, rfl⟩
  obtain ⟨locs, elocs⟩ : ∃ L : List Loc, L = [] := ⟨_, rfl⟩
  have hP : va_P D vwCl (wX8 cy h0 sa pa ka aa oa wa ca ta na mOp mIk mPa mRu mLa mTy mSp mFr mRe mCa mOr mLe rS rP rK rA rO rW rC rT rN) H := by rw [eH]; exact hP
  have hS : va_S A s.heap H locs := by rw [eH, elocs]; exact hS
  refine k_here eH elocs ?_
  refine lv_aload_n hx hb dX8_ends_0 rfl (lv_at hl 0 rfl) ?_
  refine lv_iconst (v := 0) hx hb dX8_ends_1 (by decide) ?_
  obtain ⟨v1, hv1, hf⟩ := k_B hf
  refine k_callHV (As := [.int 0]) (rest := []) (r := (RX8, TX8, 21)) (ci := 5) (q0 := 0) (isC := [0, 1, 2, 3, 4, 5, 6, 7, 8, 9]) (isR := []) (perm := [0, 1, 2, 3, 4, 5, 6, 7, 8, 9]) (w' := (wX8 cy h0 sa pa ka aa oa wa ca ta na mOp mIk mPa mRu mLa mTy mSp mFr mRe mCa mOr mLe rS rP rK rA rO rW rC rT rN)) ⟨hx, hb, hml, hown, hts⟩ (c_X8_boxes l D cy h0 sa pa ka aa oa wa ca ta na mOp mIk mPa mRu mLa mTy mSp mFr mRe mCa mOr mLe rS rP rK rA rO rW rC rT rN 0 v1 hv1) (cwV 1 hts gX8_ends_X8_boxes rfl rfl rfl hd_X8_boxes ⟨Nat.le_of_ble_eq_true rfl, Nat.le_of_ble_eq_true rfl⟩) hK hN hP hD hS hA rfl rfl rfl rfl rfl rfl (by decide) rfl rfl rfl hl.1 rfl (Nat.le_of_ble_eq_true rfl) dX8_ends_2 ⟨Nat.zero_le _, Nat.zero_le _⟩ (fun H locs hP hD hS => ?_)
  refine lv_aload_n hx hb dX8_ends_5 rfl (lv_at hl 0 rfl) ?_
  refine lv_iconst (v := 1) hx hb dX8_ends_6 (by decide) ?_
  obtain ⟨v2, hv2, hf⟩ := k_B hf
  refine k_callHV (As := [.int 1]) (rest := [.int v1]) (r := (RX8, TX8, 21)) (ci := 5) (q0 := 0) (isC := [0, 1, 2, 3, 4, 5, 6, 7, 8, 9]) (isR := []) (perm := [0, 1, 2, 3, 4, 5, 6, 7, 8, 9]) (w' := (wX8 cy h0 sa pa ka aa oa wa ca ta na mOp mIk mPa mRu mLa mTy mSp mFr mRe mCa mOr mLe rS rP rK rA rO rW rC rT rN)) ⟨hx, hb, hml, hown, hts⟩ (c_X8_boxes l D cy h0 sa pa ka aa oa wa ca ta na mOp mIk mPa mRu mLa mTy mSp mFr mRe mCa mOr mLe rS rP rK rA rO rW rC rT rN 1 v2 hv2) (cwV 1 hts gX8_ends_X8_boxes rfl rfl rfl hd_X8_boxes ⟨Nat.le_of_ble_eq_true rfl, Nat.le_of_ble_eq_true rfl⟩) hK hN hP hD hS hA rfl rfl rfl rfl rfl rfl (by decide) rfl rfl rfl hl.1 rfl (Nat.le_of_ble_eq_true rfl) dX8_ends_7 ⟨Nat.zero_le _, Nat.zero_le _⟩ (fun H locs hP hD hS => ?_)
  refine lv_isub hx hb dX8_ends_10 ?_
  obtain ⟨y3, ey3, hf⟩ := k_L hf
  refine k_name ey3 ?_
  refine lv_istore_n (lv' := [(1, .int y3), (0, .ref h0)]) hx hb dX8_ends_11 rfl hl (by decide) rfl (fun ls hl => ?_)
  refine lv_iload_n hx hb dX8_ends_12 rfl (lv_at hl 0 rfl) ?_
  refine lv_if_ne (tgt := 30) hx hb dX8_ends_13 (by decide) (fun c4 => ?_) (fun c4 => ?_)
  · have hf := k_F c4 hf
    refine lv_aload_n hx hb dX8_ends_30 rfl (lv_at hl 1 rfl) ?_
    refine va_get (D := D) (ci := 5) (v := .ref sa) (C := RX8) (T := TX8) (N := 21) hx hb hts in_X8 hown hK hP 0 rfl rfl 0 (by decide) fl7 (fun _ h9 => h9) rfl dX8_ends_31 ?_
    refine lv_bipush (v := 14) hx hb dX8_ends_34 (by decide) ?_
    refine lv_iload_n hx hb dX8_ends_36 rfl (lv_at hl 0 rfl) ?_
    refine lv_if_le (tgt := 44) hx hb dX8_ends_37 (by decide) (fun c5 => ?_) (fun c5 => ?_)
    · have hf := k_T c5 hf
      refine lv_iconst (v := 1) hx hb dX8_ends_44 (by decide) ?_
      refine lv_iadd hx hb dX8_ends_45 ?_
      refine lv_dup2_11 hx hb dX8_ends_46 rfl rfl ?_
      obtain ⟨g6, hf⟩ := k_G hf
      refine va_iald hx hb hK hP 1 0 rfl rfl g6 dX8_ends_47 ?_
      refine lv_iconst (v := 1) hx hb dX8_ends_48 (by decide) ?_
      refine lv_iadd hx hb dX8_ends_49 ?_
      obtain ⟨g7, hf⟩ := k_G hf
      refine va_iast hx hb hK hP hD hS 1 0 rfl rfl g7 dX8_ends_50 (fun H locs hP hD hS => ?_)
      obtain ⟨w8, ew8, hf⟩ := k_L hf
      have hP : va_P D vwCl (wX8 cy h0 sa pa ka aa oa wa ca ta na mOp mIk mPa mRu mLa mTy mSp mFr mRe mCa mOr mLe w8 rP rK rA rO rW rC rT rN) H := by rw [ew8]; exact hP
      have hD : va_D A (wX8 cy h0 sa pa ka aa oa wa ca ta na mOp mIk mPa mRu mLa mTy mSp mFr mRe mCa mOr mLe w8 rP rK rA rO rW rC rT rN) := by rw [ew8]; exact hD
      obtain rfl := k_some hf
      exact k_vret hx hb hr hP hD hS dX8_ends_51 hlocks
    · have hf := k_F c5 hf
      refine lv_iconst (v := 0) hx hb dX8_ends_40 (by decide) ?_
      refine lv_goto (tgt := 45) hx hb dX8_ends_41 (by decide) ?_
      refine lv_iadd hx hb dX8_ends_45 ?_
      refine lv_dup2_11 hx hb dX8_ends_46 rfl rfl ?_
      obtain ⟨g9, hf⟩ := k_G hf
      refine va_iald hx hb hK hP 1 0 rfl rfl g9 dX8_ends_47 ?_
      refine lv_iconst (v := 1) hx hb dX8_ends_48 (by decide) ?_
      refine lv_iadd hx hb dX8_ends_49 ?_
      obtain ⟨g10, hf⟩ := k_G hf
      refine va_iast hx hb hK hP hD hS 1 0 rfl rfl g10 dX8_ends_50 (fun H locs hP hD hS => ?_)
      obtain ⟨w11, ew11, hf⟩ := k_L hf
      have hP : va_P D vwCl (wX8 cy h0 sa pa ka aa oa wa ca ta na mOp mIk mPa mRu mLa mTy mSp mFr mRe mCa mOr mLe w11 rP rK rA rO rW rC rT rN) H := by rw [ew11]; exact hP
      have hD : va_D A (wX8 cy h0 sa pa ka aa oa wa ca ta na mOp mIk mPa mRu mLa mTy mSp mFr mRe mCa mOr mLe w11 rP rK rA rO rW rC rT rN) := by rw [ew11]; exact hD
      obtain rfl := k_some hf
      exact k_vret hx hb hr hP hD hS dX8_ends_51 hlocks
  · have hf := k_T c4 hf
    refine lv_aload_n hx hb dX8_ends_16 rfl (lv_at hl 1 rfl) ?_
    refine va_get (D := D) (ci := 5) (v := .ref sa) (C := RX8) (T := TX8) (N := 21) hx hb hts in_X8 hown hK hP 0 rfl rfl 0 (by decide) fl7 (fun _ h9 => h9) rfl dX8_ends_17 ?_
    refine lv_bipush (v := 16) hx hb dX8_ends_20 (by decide) ?_
    refine lv_dup2_11 hx hb dX8_ends_22 rfl rfl ?_
    refine va_iald hx hb hK hP 1 0 rfl rfl (k_in (i := 16) (n := 19) (by decide +kernel)) dX8_ends_23 ?_
    refine k_name (v := rS 16) rfl ?_
    refine lv_iconst (v := 1) hx hb dX8_ends_24 (by decide) ?_
    refine lv_iadd hx hb dX8_ends_25 ?_
    refine va_iast hx hb hK hP hD hS 1 0 rfl rfl (k_in (i := 16) (n := 19) (by decide +kernel)) dX8_ends_26 (fun H locs hP hD hS => ?_)
    obtain ⟨w12, ew12, hf⟩ := k_L hf
    have hP : va_P D vwCl (wX8 cy h0 sa pa ka aa oa wa ca ta na mOp mIk mPa mRu mLa mTy mSp mFr mRe mCa mOr mLe w12 rP rK rA rO rW rC rT rN) H := by rw [ew12]; exact hP
    have hD : va_D A (wX8 cy h0 sa pa ka aa oa wa ca ta na mOp mIk mPa mRu mLa mTy mSp mFr mRe mCa mOr mLe w12 rP rK rA rO rW rC rT rN) := by rw [ew12]; exact hD
    refine lv_goto (tgt := 51) hx hb dX8_ends_27 (by decide) ?_
    obtain rfl := k_some hf
    exact k_vret hx hb hr hP hD hS dX8_ends_51 hlocks
def t_X8_draw_49 (b1 : Int32) (b2 : Int32) (s49 : Int32 × (Nat → Int32)) : Option ((Int32 × (Nat → Int32)) ⊕ (Int32 × (Nat → Int32))) :=
  if 12 ≤ s49.1 then
    some (.inr (s49.1, s49.2))
  else
    (f_X8_isBeside b1 s49.1).bind fun v8 =>
    if v8 = 0 then
      some (.inl (s49.1 + 1, s49.2))
    else
      (f_X8_has (s49.2 0) s49.1).bind fun v10 =>
      if v10 = 3 then
        if ((1 : Int32) + s49.1) < 0 ∨ 19 ≤ ((1 : Int32) + s49.1).toNatClampNeg then none else
        k_let (upd s49.2 ((1 : Int32) + s49.1).toNatClampNeg ((s49.2 13) + 1)) fun w13 =>
        some (.inl (s49.1 + 1, w13))
      else
        some (.inl (s49.1 + 1, s49.2))
def f_X8_draw (n1 : Int32) (mPa : Int32) (mRu : Int32) (mLa : Int32) (rS : Nat → Int32) (rP : Nat → Int32) : Option (Int32 × Int32 × Int32 × (Nat → Int32) × (Nat → Int32)) :=
  (f_X8_isFence n1).bind fun v1 =>
  if v1 = 0 then
    (f_X8_fails 1 0).bind fun v35 =>
    some (v35.1, mPa, v35.2, rS, rP)
  else
    (f_X8_reason n1 rS).bind fun v3 =>
    if v3 ≤ 0 then
      (f_X8_changes mPa mRu rS rP).bind fun v5 =>
      (f_X8_closes (rS 0) n1).bind fun v6 =>
      (k_loop (t_X8_draw_49 n1 v6) 1000 (0, rS)).bind fun x14 =>
      k_let (upd x14.2 0 ((x14.2 0) ||| ((1 : Int32) <<< (n1 &&& 31)))) fun w15 =>
      k_let (upd w15 18 ((w15 18) + 1)) fun w16 =>
      if v6 = 2 then
        k_let (upd w16 17 ((w16 17) + 1)) fun w26 =>
        if v6 = 0 then
          k_let (upd w26 13 ((1 : Int32) - (w26 13))) fun w31 =>
          if (w31 18) = 31 then
            (f_X8_ends w31).bind fun v33 =>
            some (v6, v5.1, 0, v33, v5.2)
          else
            some (v6, v5.1, 0, w31, v5.2)
        else
          k_let (upd w26 13 (w26 13)) fun w28 =>
          if (w28 18) = 31 then
            (f_X8_ends w28).bind fun v30 =>
            some (v6, v5.1, 0, v30, v5.2)
          else
            some (v6, v5.1, 0, w28, v5.2)
      else
        k_let (upd w16 17 ((w16 17) + 0)) fun w18 =>
        if v6 = 0 then
          k_let (upd w18 13 ((1 : Int32) - (w18 13))) fun w23 =>
          if (w23 18) = 31 then
            (f_X8_ends w23).bind fun v25 =>
            some (v6, v5.1, 0, v25, v5.2)
          else
            some (v6, v5.1, 0, w23, v5.2)
        else
          k_let (upd w18 13 (w18 13)) fun w20 =>
          if (w20 18) = 31 then
            (f_X8_ends w20).bind fun v22 =>
            some (v6, v5.1, 0, v22, v5.2)
          else
            some (v6, v5.1, 0, w20, v5.2)
    else
      (f_X8_fails 2 0).bind fun v34 =>
      some (v34.1, mPa, v34.2, rS, rP)
abbrev rm_X8_draw : Room := { frames := 3, cells := 0, slots := 0, locals := 66 }
theorem hd_X8_draw : yX8_draw.cls = RX8 ∧ yX8_draw.cls ≠ "java/lang/invoke/MethodHandle" ∧ yX8_draw.cls ≠ "java/lang/invoke/VarHandle" ∧ (parseMethodDescriptor yX8_draw.desc).map (fun d => d.parameters.length) = some 1 := by decide +kernel
set_option maxHeartbeats 4000000 in
set_option maxRecDepth 100000 in
theorem c_X8_draw (l : Launch) (D : va_G) (cy : Nat → ClassId) (h0 sa pa ka aa oa wa ca ta na : Nat) (mOp : Int32) (mIk : Int32) (mPa : Int32) (mRu : Int32) (mLa : Int32) (mTy : Int32) (mSp : Int32) (mFr : Int32) (mRe : Int32) (mCa : Int32) (mOr : Int32) (mLe : Int32) (rS : Nat → Int32) (rP : Nat → Int32) (rK : Nat → Int32) (rA : Nat → Int32) (rO : Nat → Int32) (rW : Nat → Int32) (rC : Nat → Int32) (rT : Nat → Int32) (rN : Nat → Int32) (n1 : Int32) (r : Int32 × Int32 × Int32 × (Nat → Int32) × (Nat → Int32)) (hf : f_X8_draw n1 mPa mRu mLa rS rP = some r) : k_HMet l yX8_draw wsX8_draw rm_X8_draw D (k_tys cy) [.ref h0, .int n1] (wX8 cy h0 sa pa ka aa oa wa ca ta na mOp mIk mPa mRu mLa mTy mSp mFr mRe mCa mOr mLe rS rP rK rA rO rW rC rT rN) (some (.int r.1)) (wX8 cy h0 sa pa ka aa oa wa ca ta na mOp mIk r.2.1 mRu r.2.2.1 mTy mSp mFr mRe mCa mOr mLe r.2.2.2.1 r.2.2.2.2 rK rA rO rW rC rT rN) := by
  refine k_heapOf (cc := cX8_draw) (maxL := 4) (ret := (some .int)) (by decide) rfl (Nat.le_of_ble_eq_true rfl) ?_
  intro p e s m args below meth c ls A hx hb hr hlocks hml hown hts hl hA hK hP hD hN
  have hl : lv_has ls 4 [(0, .ref h0), (1, .int n1)] := hl
  have hS : va_S A s.heap s.heap [] := va_S.rf
  have in_X8 : ∀ w ∈ wsX80, w ∈ wsX8_draw := by decide +kernel
  have fl7 := hts (.fieldLink RX8 7 "FencedBoxesModel" "s" "[I") (by decide +kernel)
  have fl37 := hts (.fieldLink RX8 37 "FencedBoxesModel" "last" "I") (by decide +kernel)
  have L49 : ∀ (Q : State → Prop) (n : Nat) (b1 : Int32) (b2 : Int32) (mOp : Int32) (mIk : Int32) (mPa : Int32) (mRu : Int32) (mLa : Int32) (mTy : Int32) (mSp : Int32) (mFr : Int32) (mRe : Int32) (mCa : Int32) (mOr : Int32) (mLe : Int32) (rP : Nat → Int32) (rK : Nat → Int32) (rA : Nat → Int32) (rO : Nat → Int32) (rW : Nat → Int32) (rC : Nat → Int32) (rT : Nat → Int32) (rN : Nat → Int32) (s49 : Int32 × (Nat → Int32)) (q : (Int32 × (Nat → Int32))), k_loop (t_X8_draw_49 b1 b2) n s49 = some q → ∀ (ls : Array Slot) (H : Heap) (locs : List Loc), lv_has ls 4 [(0, .ref h0), (1, .int b1), (2, .int b2), (3, .int s49.1)] → va_P D vwCl (wX8 cy h0 sa pa ka aa oa wa ca ta na mOp mIk mPa mRu mLa mTy mSp mFr mRe mCa mOr mLe s49.2 rP rK rA rO rW rC rT rN) H → va_D A (wX8 cy h0 sa pa ka aa oa wa ca ta na mOp mIk mPa mRu mLa mTy mSp mFr mRe mCa mOr mLe s49.2 rP rK rA rO rW rC rT rN) → va_S A s.heap H locs → (∀ (ls : Array Slot) (H : Heap) (locs : List Loc), True → lv_has ls 4 [(0, .ref h0), (1, .int b1), (2, .int b2)] → va_P D vwCl (wX8 cy h0 sa pa ka aa oa wa ca ta na mOp mIk mPa mRu mLa mTy mSp mFr mRe mCa mOr mLe q.2 rP rK rA rO rW rC rT rN) H → va_D A (wX8 cy h0 sa pa ka aa oa wa ca ta na mOp mIk mPa mRu mLa mTy mSp mFr mRe mCa mOr mLe q.2 rP rK rA rO rW rC rT rN) → va_S A s.heap H locs → W p l e rm_X8_draw s m args below meth c H locs 0 0 Q (F0 m 100 ls [])) → W p l e rm_X8_draw s m args below meth c H locs 0 0 Q (F0 m 49 ls []) := by
    intro Q n
    induction n with
    | zero =>
      intro b1 b2 mOp mIk mPa mRu mLa mTy mSp mFr mRe mCa mOr mLe rP rK rA rO rW rC rT rN s49 q hq
      exact (k_loop0 hq).elim
    | succ n ih =>
      intro b1 b2 mOp mIk mPa mRu mLa mTy mSp mFr mRe mCa mOr mLe rP rK rA rO rW rC rT rN s49 q hq ls H locs hl hP hD hS kx 
      obtain ⟨x, hf, hq⟩ := k_loopE hq
      unfold t_X8_draw_49 at hf
      refine lv_iload_n hx hb dX8_draw_49 rfl (lv_at hl 3 rfl) ?_
      refine lv_bipush (v := 12) hx hb dX8_draw_50 (by decide) ?_
      refine lv_icmp_ge (tgt := 100) hx hb dX8_draw_52 (by decide) (fun c7 => ?_) (fun c7 => ?_)
      · have hf := k_T c7 hf
        obtain rfl := k_some hf
        obtain rfl := k_some (k_inr hq)
        exact kx ls H locs trivial (lv_sub hl [0, 1, 2] rfl) hP hD hS
      · have hf := k_F c7 hf
        refine lv_iload_n hx hb dX8_draw_55 rfl (lv_at hl 1 rfl) ?_
        refine lv_iload_n hx hb dX8_draw_56 rfl (lv_at hl 3 rfl) ?_
        obtain ⟨v8, hv8, hf⟩ := k_B hf
        refine k_callS (As := [.int b1, .int s49.1]) (rest := []) ⟨hx, hb, hml, hown, hts⟩ (c_X8_isBeside l b1 s49.1 v8 hv8) (va_cwS 2 hts gX8_draw_X8_isBeside rfl rfl rfl hd_X8_isBeside ⟨Nat.le_of_ble_eq_true rfl, Nat.le_of_ble_eq_true rfl⟩) rfl hl.1 rfl (Nat.le_of_ble_eq_true rfl) dX8_draw_57 ⟨Nat.zero_le _, Nat.zero_le _⟩ ?_
        refine lv_if_eq (tgt := 94) hx hb dX8_draw_60 (by decide) (fun c9 => ?_) (fun c9 => ?_)
        · have hf := k_T c9 hf
          refine lv_iinc (v := s49.1 + 1) (lv' := [(3, .int (s49.1 + 1)), (0, .ref h0), (1, .int b1), (2, .int b2)]) hx hb dX8_draw_94 hl (k := 3) rfl rfl (by decide) rfl (fun ls hl => ?_)
          refine lv_goto (tgt := 49) hx hb dX8_draw_97 (by decide) ?_
          obtain rfl := k_some hf
          exact ih b1 b2 mOp mIk mPa mRu mLa mTy mSp mFr mRe mCa mOr mLe rP rK rA rO rW rC rT rN (s49.1 + 1, s49.2) q (k_inl hq) ls H locs (lv_sub hl [1, 2, 3, 0] rfl) hP hD hS kx 
        · have hf := k_F c9 hf
          refine lv_aload_n hx hb dX8_draw_63 rfl (lv_at hl 0 rfl) ?_
          refine va_get (D := D) (ci := 5) (v := .ref sa) (C := RX8) (T := TX8) (N := 21) hx hb hts in_X8 hown hK hP 0 rfl rfl 0 (by decide) fl7 (fun _ h9 => h9) rfl dX8_draw_64 ?_
          refine lv_iconst (v := 0) hx hb dX8_draw_67 (by decide) ?_
          refine va_iald hx hb hK hP 1 0 rfl rfl (k_in (i := 0) (n := 19) (by decide +kernel)) dX8_draw_68 ?_
          refine k_name (v := s49.2 0) rfl ?_
          refine lv_iload_n hx hb dX8_draw_69 rfl (lv_at hl 3 rfl) ?_
          obtain ⟨v10, hv10, hf⟩ := k_B hf
          refine k_callS (As := [.int (s49.2 0), .int s49.1]) (rest := []) ⟨hx, hb, hml, hown, hts⟩ (c_X8_has l (s49.2 0) s49.1 v10 hv10) (va_cwS 2 hts gX8_draw_X8_has rfl rfl rfl hd_X8_has ⟨Nat.le_of_ble_eq_true rfl, Nat.le_of_ble_eq_true rfl⟩) rfl hl.1 rfl (Nat.le_of_ble_eq_true rfl) dX8_draw_70 ⟨Nat.zero_le _, Nat.zero_le _⟩ ?_
          refine lv_iconst (v := 3) hx hb dX8_draw_73 (by decide) ?_
          refine lv_icmp_ne (tgt := 94) hx hb dX8_draw_74 (by decide) (fun c11 => ?_) (fun c11 => ?_)
          · have hf := k_F c11 hf
            refine lv_iinc (v := s49.1 + 1) (lv' := [(3, .int (s49.1 + 1)), (0, .ref h0), (1, .int b1), (2, .int b2)]) hx hb dX8_draw_94 hl (k := 3) rfl rfl (by decide) rfl (fun ls hl => ?_)
            refine lv_goto (tgt := 49) hx hb dX8_draw_97 (by decide) ?_
            obtain rfl := k_some hf
            exact ih b1 b2 mOp mIk mPa mRu mLa mTy mSp mFr mRe mCa mOr mLe rP rK rA rO rW rC rT rN (s49.1 + 1, s49.2) q (k_inl hq) ls H locs (lv_sub hl [1, 2, 3, 0] rfl) hP hD hS kx 
          · have hf := k_T c11 hf
            refine lv_aload_n hx hb dX8_draw_77 rfl (lv_at hl 0 rfl) ?_
            refine va_get (D := D) (ci := 5) (v := .ref sa) (C := RX8) (T := TX8) (N := 21) hx hb hts in_X8 hown hK hP 0 rfl rfl 0 (by decide) fl7 (fun _ h9 => h9) rfl dX8_draw_78 ?_
            refine lv_iconst (v := 1) hx hb dX8_draw_81 (by decide) ?_
            refine lv_iload_n hx hb dX8_draw_82 rfl (lv_at hl 3 rfl) ?_
            refine lv_iadd hx hb dX8_draw_83 ?_
            refine lv_aload_n hx hb dX8_draw_84 rfl (lv_at hl 0 rfl) ?_
            refine va_get (D := D) (ci := 5) (v := .ref sa) (C := RX8) (T := TX8) (N := 21) hx hb hts in_X8 hown hK hP 0 rfl rfl 0 (by decide) fl7 (fun _ h9 => h9) rfl dX8_draw_85 ?_
            refine lv_bipush (v := 13) hx hb dX8_draw_88 (by decide) ?_
            refine va_iald hx hb hK hP 1 0 rfl rfl (k_in (i := 13) (n := 19) (by decide +kernel)) dX8_draw_90 ?_
            refine k_name (v := s49.2 13) rfl ?_
            refine lv_iconst (v := 1) hx hb dX8_draw_91 (by decide) ?_
            refine lv_iadd hx hb dX8_draw_92 ?_
            obtain ⟨g12, hf⟩ := k_G hf
            refine va_iast hx hb hK hP hD hS 1 0 rfl rfl g12 dX8_draw_93 (fun H locs hP hD hS => ?_)
            obtain ⟨w13, ew13, hf⟩ := k_L hf
            have hP : va_P D vwCl (wX8 cy h0 sa pa ka aa oa wa ca ta na mOp mIk mPa mRu mLa mTy mSp mFr mRe mCa mOr mLe w13 rP rK rA rO rW rC rT rN) H := by rw [ew13]; exact hP
            have hD : va_D A (wX8 cy h0 sa pa ka aa oa wa ca ta na mOp mIk mPa mRu mLa mTy mSp mFr mRe mCa mOr mLe w13 rP rK rA rO rW rC rT rN) := by rw [ew13]; exact hD
            refine lv_iinc (v := s49.1 + 1) (lv' := [(3, .int (s49.1 + 1)), (0, .ref h0), (1, .int b1), (2, .int b2)]) hx hb dX8_draw_94 hl (k := 3) rfl rfl (by decide) rfl (fun ls hl => ?_)
            refine lv_goto (tgt := 49) hx hb dX8_draw_97 (by decide) ?_
            obtain rfl := k_some hf
            exact ih b1 b2 mOp mIk mPa mRu mLa mTy mSp mFr mRe mCa mOr mLe rP rK rA rO rW rC rT rN (s49.1 + 1, w13) q (k_inl hq) ls H locs (lv_sub hl [1, 2, 3, 0] rfl) hP hD hS kx 
  unfold f_X8_draw at hf
  obtain ⟨H, eH⟩ : ∃ H, H = s.heap := ⟨_, rfl⟩
  obtain ⟨locs, elocs⟩ : ∃ L : List Loc, L = [] := ⟨_, rfl⟩
  have hP : va_P D vwCl (wX8 cy h0 sa pa ka aa oa wa ca ta na mOp mIk mPa mRu mLa mTy mSp mFr mRe mCa mOr mLe rS rP rK rA rO rW rC rT rN) H := by rw [eH]; exact hP
  have hS : va_S A s.heap H locs := by rw [eH, elocs]; exact hS
  refine k_here eH elocs ?_
  refine lv_aload_n hx hb dX8_draw_0 rfl (lv_at hl 0 rfl) ?_
  refine lv_iconst (v := 0) hx hb dX8_draw_1 (by decide) ?_
  refine va_put (D := D) (ci := 5) (v := .int 0) (ty := .int) (C := RX8) (T := TX8) (N := 21) hx hb hts in_X8 tyX8 tyX8_ok nmX8 hown hK hP hD hS 0 rfl rfl 11 (by decide) fl37 (fun _ h9 => h9) rfl (by decide +kernel) rfl rfl (Nat.le_of_ble_eq_true rfl) dX8_draw_2 (fun H locs hP hD hS => ?_)
  have hP : va_P D vwCl (wX8 cy h0 sa pa ka aa oa wa ca ta na mOp mIk mPa mRu 0 mTy mSp mFr mRe mCa mOr mLe rS rP rK rA rO rW rC rT rN) H := hP
  have hD : va_D A (wX8 cy h0 sa pa ka aa oa wa ca ta na mOp mIk mPa mRu 0 mTy mSp mFr mRe mCa mOr mLe rS rP rK rA rO rW rC rT rN) := hD
  refine lv_iload_n hx hb dX8_draw_5 rfl (lv_at hl 1 rfl) ?_
  obtain ⟨v1, hv1, hf⟩ := k_B hf
  refine k_callS (As := [.int n1]) (rest := []) ⟨hx, hb, hml, hown, hts⟩ (c_X8_isFence l n1 v1 hv1) (va_cwS 1 hts gX8_draw_X8_isFence rfl rfl rfl hd_X8_isFence ⟨Nat.le_of_ble_eq_true rfl, Nat.le_of_ble_eq_true rfl⟩) rfl hl.1 rfl (Nat.le_of_ble_eq_true rfl) dX8_draw_6 ⟨Nat.zero_le _, Nat.zero_le _⟩ ?_
  refine lv_if_ne (tgt := 18) hx hb dX8_draw_9 (by decide) (fun c2 => ?_) (fun c2 => ?_)
  · have hf := k_F c2 hf
    refine lv_aload_n hx hb dX8_draw_18 rfl (lv_at hl 0 rfl) ?_
    refine lv_iload_n hx hb dX8_draw_19 rfl (lv_at hl 1 rfl) ?_
    obtain ⟨v3, hv3, hf⟩ := k_B hf
    refine k_callHV (As := [.int n1]) (rest := []) (r := (RX8, TX8, 21)) (ci := 5) (q0 := 0) (isC := [0, 1, 2, 3, 4, 5, 6, 7, 8, 9]) (isR := []) (perm := [0, 1, 2, 3, 4, 5, 6, 7, 8, 9]) (w' := (wX8 cy h0 sa pa ka aa oa wa ca ta na mOp mIk mPa mRu 0 mTy mSp mFr mRe mCa mOr mLe rS rP rK rA rO rW rC rT rN)) ⟨hx, hb, hml, hown, hts⟩ (c_X8_reason l D cy h0 sa pa ka aa oa wa ca ta na mOp mIk mPa mRu 0 mTy mSp mFr mRe mCa mOr mLe rS rP rK rA rO rW rC rT rN n1 v3 hv3) (cwV 1 hts gX8_draw_X8_reason rfl rfl rfl hd_X8_reason ⟨Nat.le_of_ble_eq_true rfl, Nat.le_of_ble_eq_true rfl⟩) hK hN hP hD hS hA rfl rfl rfl rfl rfl rfl (by decide) rfl rfl rfl hl.1 rfl (Nat.le_of_ble_eq_true rfl) dX8_draw_20 ⟨Nat.zero_le _, Nat.zero_le _⟩ (fun H locs hP hD hS => ?_)
    refine lv_if_le (tgt := 32) hx hb dX8_draw_23 (by decide) (fun c4 => ?_) (fun c4 => ?_)
    · have hf := k_T c4 hf
      refine lv_aload_n hx hb dX8_draw_32 rfl (lv_at hl 0 rfl) ?_
      obtain ⟨v5, hv5, hf⟩ := k_B hf
      refine k_callHV (As := []) (rest := []) (r := (RX8, TX8, 21)) (ci := 5) (q0 := 0) (isC := [0, 1, 2, 3, 4, 5, 6, 7, 8, 9]) (isR := []) (perm := [0, 1, 2, 3, 4, 5, 6, 7, 8, 9]) (w' := (wX8 cy h0 sa pa ka aa oa wa ca ta na mOp mIk v5.1 mRu 0 mTy mSp mFr mRe mCa mOr mLe rS v5.2 rK rA rO rW rC rT rN)) ⟨hx, hb, hml, hown, hts⟩ (c_X8_changes l D cy h0 sa pa ka aa oa wa ca ta na mOp mIk mPa mRu 0 mTy mSp mFr mRe mCa mOr mLe rS rP rK rA rO rW rC rT rN  v5 hv5) (cwV 0 hts gX8_draw_X8_changes rfl rfl rfl hd_X8_changes ⟨Nat.le_of_ble_eq_true rfl, Nat.le_of_ble_eq_true rfl⟩) hK hN hP hD hS hA rfl rfl rfl rfl rfl rfl (by decide) rfl rfl rfl hl.1 rfl (Nat.le_of_ble_eq_true rfl) dX8_draw_33 ⟨Nat.zero_le _, Nat.zero_le _⟩ (fun H locs hP hD hS => ?_)
      refine lv_aload_n hx hb dX8_draw_36 rfl (lv_at hl 0 rfl) ?_
      refine va_get (D := D) (ci := 5) (v := .ref sa) (C := RX8) (T := TX8) (N := 21) hx hb hts in_X8 hown hK hP 0 rfl rfl 0 (by decide) fl7 (fun _ h9 => h9) rfl dX8_draw_37 ?_
      refine lv_iconst (v := 0) hx hb dX8_draw_40 (by decide) ?_
      refine va_iald hx hb hK hP 1 0 rfl rfl (k_in (i := 0) (n := 19) (by decide +kernel)) dX8_draw_41 ?_
      refine k_name (v := rS 0) rfl ?_
      refine lv_iload_n hx hb dX8_draw_42 rfl (lv_at hl 1 rfl) ?_
      obtain ⟨v6, hv6, hf⟩ := k_B hf
      refine k_callS (As := [.int (rS 0), .int n1]) (rest := []) ⟨hx, hb, hml, hown, hts⟩ (c_X8_closes l (rS 0) n1 v6 hv6) (va_cwS 2 hts gX8_draw_X8_closes rfl rfl rfl hd_X8_closes ⟨Nat.le_of_ble_eq_true rfl, Nat.le_of_ble_eq_true rfl⟩) rfl hl.1 rfl (Nat.le_of_ble_eq_true rfl) dX8_draw_43 ⟨Nat.zero_le _, Nat.zero_le _⟩ ?_
      refine lv_istore_n (lv' := [(2, .int v6), (0, .ref h0), (1, .int n1)]) hx hb dX8_draw_46 rfl hl (by decide) rfl (fun ls hl => ?_)
      refine lv_iconst (v := 0) hx hb dX8_draw_47 (by decide) ?_
      refine lv_istore_n (lv' := [(3, .int 0), (2, .int v6), (0, .ref h0), (1, .int n1)]) hx hb dX8_draw_48 rfl hl (by decide) rfl (fun ls hl => ?_)
      obtain ⟨x14, hx14, hf⟩ := k_B hf
      refine L49 _ 1000 n1 v6 mOp mIk v5.1 mRu 0 mTy mSp mFr mRe mCa mOr mLe v5.2 rK rA rO rW rC rT rN (0, rS) x14 hx14 ls H locs (lv_sub hl [2, 3, 1, 0] rfl) hP hD hS ?_
      · intro ls H locs _ hl hP hD hS
        refine lv_aload_n hx hb dX8_draw_100 rfl (lv_at hl 0 rfl) ?_
        refine va_get (D := D) (ci := 5) (v := .ref sa) (C := RX8) (T := TX8) (N := 21) hx hb hts in_X8 hown hK hP 0 rfl rfl 0 (by decide) fl7 (fun _ h9 => h9) rfl dX8_draw_101 ?_
        refine lv_iconst (v := 0) hx hb dX8_draw_104 (by decide) ?_
        refine lv_dup2_11 hx hb dX8_draw_105 rfl rfl ?_
        refine va_iald hx hb hK hP 1 0 rfl rfl (k_in (i := 0) (n := 19) (by decide +kernel)) dX8_draw_106 ?_
        refine k_name (v := x14.2 0) rfl ?_
        refine lv_iconst (v := 1) hx hb dX8_draw_107 (by decide) ?_
        refine lv_iload_n hx hb dX8_draw_108 rfl (lv_at hl 1 rfl) ?_
        refine lv_ishl hx hb dX8_draw_109 ?_
        refine lv_ior hx hb dX8_draw_110 ?_
        refine va_iast hx hb hK hP hD hS 1 0 rfl rfl (k_in (i := 0) (n := 19) (by decide +kernel)) dX8_draw_111 (fun H locs hP hD hS => ?_)
        obtain ⟨w15, ew15, hf⟩ := k_L hf
        have hP : va_P D vwCl (wX8 cy h0 sa pa ka aa oa wa ca ta na mOp mIk v5.1 mRu 0 mTy mSp mFr mRe mCa mOr mLe w15 v5.2 rK rA rO rW rC rT rN) H := by rw [ew15]; exact hP
        have hD : va_D A (wX8 cy h0 sa pa ka aa oa wa ca ta na mOp mIk v5.1 mRu 0 mTy mSp mFr mRe mCa mOr mLe w15 v5.2 rK rA rO rW rC rT rN) := by rw [ew15]; exact hD
        refine lv_aload_n hx hb dX8_draw_112 rfl (lv_at hl 0 rfl) ?_
        refine va_get (D := D) (ci := 5) (v := .ref sa) (C := RX8) (T := TX8) (N := 21) hx hb hts in_X8 hown hK hP 0 rfl rfl 0 (by decide) fl7 (fun _ h9 => h9) rfl dX8_draw_113 ?_
        refine lv_bipush (v := 18) hx hb dX8_draw_116 (by decide) ?_
        refine lv_dup2_11 hx hb dX8_draw_118 rfl rfl ?_
        refine va_iald hx hb hK hP 1 0 rfl rfl (k_in (i := 18) (n := 19) (by decide +kernel)) dX8_draw_119 ?_
        refine k_name (v := w15 18) rfl ?_
        refine lv_iconst (v := 1) hx hb dX8_draw_120 (by decide) ?_
        refine lv_iadd hx hb dX8_draw_121 ?_
        refine va_iast hx hb hK hP hD hS 1 0 rfl rfl (k_in (i := 18) (n := 19) (by decide +kernel)) dX8_draw_122 (fun H locs hP hD hS => ?_)
        obtain ⟨w16, ew16, hf⟩ := k_L hf
        have hP : va_P D vwCl (wX8 cy h0 sa pa ka aa oa wa ca ta na mOp mIk v5.1 mRu 0 mTy mSp mFr mRe mCa mOr mLe w16 v5.2 rK rA rO rW rC rT rN) H := by rw [ew16]; exact hP
        have hD : va_D A (wX8 cy h0 sa pa ka aa oa wa ca ta na mOp mIk v5.1 mRu 0 mTy mSp mFr mRe mCa mOr mLe w16 v5.2 rK rA rO rW rC rT rN) := by rw [ew16]; exact hD
        refine lv_aload_n hx hb dX8_draw_123 rfl (lv_at hl 0 rfl) ?_
        refine va_get (D := D) (ci := 5) (v := .ref sa) (C := RX8) (T := TX8) (N := 21) hx hb hts in_X8 hown hK hP 0 rfl rfl 0 (by decide) fl7 (fun _ h9 => h9) rfl dX8_draw_124 ?_
        refine lv_bipush (v := 17) hx hb dX8_draw_127 (by decide) ?_
        refine lv_dup2_11 hx hb dX8_draw_129 rfl rfl ?_
        refine va_iald hx hb hK hP 1 0 rfl rfl (k_in (i := 17) (n := 19) (by decide +kernel)) dX8_draw_130 ?_
        refine k_name (v := w16 17) rfl ?_
        refine lv_iload_n hx hb dX8_draw_131 rfl (lv_at hl 2 rfl) ?_
        refine lv_iconst (v := 2) hx hb dX8_draw_132 (by decide) ?_
        refine lv_icmp_ne (tgt := 140) hx hb dX8_draw_133 (by decide) (fun c17 => ?_) (fun c17 => ?_)
        · have hf := k_F c17 hf
          refine lv_iconst (v := 0) hx hb dX8_draw_140 (by decide) ?_
          refine lv_iadd hx hb dX8_draw_141 ?_
          refine va_iast hx hb hK hP hD hS 1 0 rfl rfl (k_in (i := 17) (n := 19) (by decide +kernel)) dX8_draw_142 (fun H locs hP hD hS => ?_)
          obtain ⟨w18, ew18, hf⟩ := k_L hf
          have hP : va_P D vwCl (wX8 cy h0 sa pa ka aa oa wa ca ta na mOp mIk v5.1 mRu 0 mTy mSp mFr mRe mCa mOr mLe w18 v5.2 rK rA rO rW rC rT rN) H := by rw [ew18]; exact hP
          have hD : va_D A (wX8 cy h0 sa pa ka aa oa wa ca ta na mOp mIk v5.1 mRu 0 mTy mSp mFr mRe mCa mOr mLe w18 v5.2 rK rA rO rW rC rT rN) := by rw [ew18]; exact hD
          refine lv_aload_n hx hb dX8_draw_143 rfl (lv_at hl 0 rfl) ?_
          refine va_get (D := D) (ci := 5) (v := .ref sa) (C := RX8) (T := TX8) (N := 21) hx hb hts in_X8 hown hK hP 0 rfl rfl 0 (by decide) fl7 (fun _ h9 => h9) rfl dX8_draw_144 ?_
          refine lv_bipush (v := 13) hx hb dX8_draw_147 (by decide) ?_
          refine lv_iload_n hx hb dX8_draw_149 rfl (lv_at hl 2 rfl) ?_
          refine lv_if_ne (tgt := 165) hx hb dX8_draw_150 (by decide) (fun c19 => ?_) (fun c19 => ?_)
          · have hf := k_F c19 hf
            refine lv_aload_n hx hb dX8_draw_165 rfl (lv_at hl 0 rfl) ?_
            refine va_get (D := D) (ci := 5) (v := .ref sa) (C := RX8) (T := TX8) (N := 21) hx hb hts in_X8 hown hK hP 0 rfl rfl 0 (by decide) fl7 (fun _ h9 => h9) rfl dX8_draw_166 ?_
            refine lv_bipush (v := 13) hx hb dX8_draw_169 (by decide) ?_
            refine va_iald hx hb hK hP 1 0 rfl rfl (k_in (i := 13) (n := 19) (by decide +kernel)) dX8_draw_171 ?_
            refine k_name (v := w18 13) rfl ?_
            refine va_iast hx hb hK hP hD hS 1 0 rfl rfl (k_in (i := 13) (n := 19) (by decide +kernel)) dX8_draw_172 (fun H locs hP hD hS => ?_)
            obtain ⟨w20, ew20, hf⟩ := k_L hf
            have hP : va_P D vwCl (wX8 cy h0 sa pa ka aa oa wa ca ta na mOp mIk v5.1 mRu 0 mTy mSp mFr mRe mCa mOr mLe w20 v5.2 rK rA rO rW rC rT rN) H := by rw [ew20]; exact hP
            have hD : va_D A (wX8 cy h0 sa pa ka aa oa wa ca ta na mOp mIk v5.1 mRu 0 mTy mSp mFr mRe mCa mOr mLe w20 v5.2 rK rA rO rW rC rT rN) := by rw [ew20]; exact hD
            refine lv_aload_n hx hb dX8_draw_173 rfl (lv_at hl 0 rfl) ?_
            refine va_get (D := D) (ci := 5) (v := .ref sa) (C := RX8) (T := TX8) (N := 21) hx hb hts in_X8 hown hK hP 0 rfl rfl 0 (by decide) fl7 (fun _ h9 => h9) rfl dX8_draw_174 ?_
            refine lv_bipush (v := 18) hx hb dX8_draw_177 (by decide) ?_
            refine va_iald hx hb hK hP 1 0 rfl rfl (k_in (i := 18) (n := 19) (by decide +kernel)) dX8_draw_179 ?_
            refine k_name (v := w20 18) rfl ?_
            refine lv_bipush (v := 31) hx hb dX8_draw_180 (by decide) ?_
            refine lv_icmp_ne (tgt := 189) hx hb dX8_draw_182 (by decide) (fun c21 => ?_) (fun c21 => ?_)
            · have hf := k_F c21 hf
              refine lv_iload_n hx hb dX8_draw_189 rfl (lv_at hl 2 rfl) ?_
              obtain rfl := k_some hf
              exact k_iret hx hb hr hP hD hS dX8_draw_190 hlocks
            · have hf := k_T c21 hf
              refine lv_aload_n hx hb dX8_draw_185 rfl (lv_at hl 0 rfl) ?_
              obtain ⟨v22, hv22, hf⟩ := k_B hf
              refine k_callHV (As := []) (rest := []) (r := (RX8, TX8, 21)) (ci := 5) (q0 := 0) (isC := [0, 1, 2, 3, 4, 5, 6, 7, 8, 9]) (isR := []) (perm := [0, 1, 2, 3, 4, 5, 6, 7, 8, 9]) (w' := (wX8 cy h0 sa pa ka aa oa wa ca ta na mOp mIk v5.1 mRu 0 mTy mSp mFr mRe mCa mOr mLe v22 v5.2 rK rA rO rW rC rT rN)) ⟨hx, hb, hml, hown, hts⟩ (c_X8_ends l D cy h0 sa pa ka aa oa wa ca ta na mOp mIk v5.1 mRu 0 mTy mSp mFr mRe mCa mOr mLe w20 v5.2 rK rA rO rW rC rT rN  v22 hv22) (cwV 0 hts gX8_draw_X8_ends rfl rfl rfl hd_X8_ends ⟨Nat.le_of_ble_eq_true rfl, Nat.le_of_ble_eq_true rfl⟩) hK hN hP hD hS hA rfl rfl rfl rfl rfl rfl (by decide) rfl rfl rfl hl.1 rfl (Nat.le_of_ble_eq_true rfl) dX8_draw_186 ⟨Nat.zero_le _, Nat.zero_le _⟩ (fun H locs hP hD hS => ?_)
              refine lv_iload_n hx hb dX8_draw_189 rfl (lv_at hl 2 rfl) ?_
              obtain rfl := k_some hf
              exact k_iret hx hb hr hP hD hS dX8_draw_190 hlocks
          · have hf := k_T c19 hf
            refine lv_iconst (v := 1) hx hb dX8_draw_153 (by decide) ?_
            refine lv_aload_n hx hb dX8_draw_154 rfl (lv_at hl 0 rfl) ?_
            refine va_get (D := D) (ci := 5) (v := .ref sa) (C := RX8) (T := TX8) (N := 21) hx hb hts in_X8 hown hK hP 0 rfl rfl 0 (by decide) fl7 (fun _ h9 => h9) rfl dX8_draw_155 ?_
            refine lv_bipush (v := 13) hx hb dX8_draw_158 (by decide) ?_
            refine va_iald hx hb hK hP 1 0 rfl rfl (k_in (i := 13) (n := 19) (by decide +kernel)) dX8_draw_160 ?_
            refine k_name (v := w18 13) rfl ?_
            refine lv_isub hx hb dX8_draw_161 ?_
            refine lv_goto (tgt := 172) hx hb dX8_draw_162 (by decide) ?_
            refine va_iast hx hb hK hP hD hS 1 0 rfl rfl (k_in (i := 13) (n := 19) (by decide +kernel)) dX8_draw_172 (fun H locs hP hD hS => ?_)
            obtain ⟨w23, ew23, hf⟩ := k_L hf
            have hP : va_P D vwCl (wX8 cy h0 sa pa ka aa oa wa ca ta na mOp mIk v5.1 mRu 0 mTy mSp mFr mRe mCa mOr mLe w23 v5.2 rK rA rO rW rC rT rN) H := by rw [ew23]; exact hP
            have hD : va_D A (wX8 cy h0 sa pa ka aa oa wa ca ta na mOp mIk v5.1 mRu 0 mTy mSp mFr mRe mCa mOr mLe w23 v5.2 rK rA rO rW rC rT rN) := by rw [ew23]; exact hD
            refine lv_aload_n hx hb dX8_draw_173 rfl (lv_at hl 0 rfl) ?_
            refine va_get (D := D) (ci := 5) (v := .ref sa) (C := RX8) (T := TX8) (N := 21) hx hb hts in_X8 hown hK hP 0 rfl rfl 0 (by decide) fl7 (fun _ h9 => h9) rfl dX8_draw_174 ?_
            refine lv_bipush (v := 18) hx hb dX8_draw_177 (by decide) ?_
            refine va_iald hx hb hK hP 1 0 rfl rfl (k_in (i := 18) (n := 19) (by decide +kernel)) dX8_draw_179 ?_
            refine k_name (v := w23 18) rfl ?_
            refine lv_bipush (v := 31) hx hb dX8_draw_180 (by decide) ?_
            refine lv_icmp_ne (tgt := 189) hx hb dX8_draw_182 (by decide) (fun c24 => ?_) (fun c24 => ?_)
            · have hf := k_F c24 hf
              refine lv_iload_n hx hb dX8_draw_189 rfl (lv_at hl 2 rfl) ?_
              obtain rfl := k_some hf
              exact k_iret hx hb hr hP hD hS dX8_draw_190 hlocks
            · have hf := k_T c24 hf
              refine lv_aload_n hx hb dX8_draw_185 rfl (lv_at hl 0 rfl) ?_
              obtain ⟨v25, hv25, hf⟩ := k_B hf
              refine k_callHV (As := []) (rest := []) (r := (RX8, TX8, 21)) (ci := 5) (q0 := 0) (isC := [0, 1, 2, 3, 4, 5, 6, 7, 8, 9]) (isR := []) (perm := [0, 1, 2, 3, 4, 5, 6, 7, 8, 9]) (w' := (wX8 cy h0 sa pa ka aa oa wa ca ta na mOp mIk v5.1 mRu 0 mTy mSp mFr mRe mCa mOr mLe v25 v5.2 rK rA rO rW rC rT rN)) ⟨hx, hb, hml, hown, hts⟩ (c_X8_ends l D cy h0 sa pa ka aa oa wa ca ta na mOp mIk v5.1 mRu 0 mTy mSp mFr mRe mCa mOr mLe w23 v5.2 rK rA rO rW rC rT rN  v25 hv25) (cwV 0 hts gX8_draw_X8_ends rfl rfl rfl hd_X8_ends ⟨Nat.le_of_ble_eq_true rfl, Nat.le_of_ble_eq_true rfl⟩) hK hN hP hD hS hA rfl rfl rfl rfl rfl rfl (by decide) rfl rfl rfl hl.1 rfl (Nat.le_of_ble_eq_true rfl) dX8_draw_186 ⟨Nat.zero_le _, Nat.zero_le _⟩ (fun H locs hP hD hS => ?_)
              refine lv_iload_n hx hb dX8_draw_189 rfl (lv_at hl 2 rfl) ?_
              obtain rfl := k_some hf
              exact k_iret hx hb hr hP hD hS dX8_draw_190 hlocks
        · have hf := k_T c17 hf
          refine lv_iconst (v := 1) hx hb dX8_draw_136 (by decide) ?_
          refine lv_goto (tgt := 141) hx hb dX8_draw_137 (by decide) ?_
          refine lv_iadd hx hb dX8_draw_141 ?_
          refine va_iast hx hb hK hP hD hS 1 0 rfl rfl (k_in (i := 17) (n := 19) (by decide +kernel)) dX8_draw_142 (fun H locs hP hD hS => ?_)
          obtain ⟨w26, ew26, hf⟩ := k_L hf
          have hP : va_P D vwCl (wX8 cy h0 sa pa ka aa oa wa ca ta na mOp mIk v5.1 mRu 0 mTy mSp mFr mRe mCa mOr mLe w26 v5.2 rK rA rO rW rC rT rN) H := by rw [ew26]; exact hP
          have hD : va_D A (wX8 cy h0 sa pa ka aa oa wa ca ta na mOp mIk v5.1 mRu 0 mTy mSp mFr mRe mCa mOr mLe w26 v5.2 rK rA rO rW rC rT rN) := by rw [ew26]; exact hD
          refine lv_aload_n hx hb dX8_draw_143 rfl (lv_at hl 0 rfl) ?_
          refine va_get (D := D) (ci := 5) (v := .ref sa) (C := RX8) (T := TX8) (N := 21) hx hb hts in_X8 hown hK hP 0 rfl rfl 0 (by decide) fl7 (fun _ h9 => h9) rfl dX8_draw_144 ?_
          refine lv_bipush (v := 13) hx hb dX8_draw_147 (by decide) ?_
          refine lv_iload_n hx hb dX8_draw_149 rfl (lv_at hl 2 rfl) ?_
          refine lv_if_ne (tgt := 165) hx hb dX8_draw_150 (by decide) (fun c27 => ?_) (fun c27 => ?_)
          · have hf := k_F c27 hf
            refine lv_aload_n hx hb dX8_draw_165 rfl (lv_at hl 0 rfl) ?_
            refine va_get (D := D) (ci := 5) (v := .ref sa) (C := RX8) (T := TX8) (N := 21) hx hb hts in_X8 hown hK hP 0 rfl rfl 0 (by decide) fl7 (fun _ h9 => h9) rfl dX8_draw_166 ?_
            refine lv_bipush (v := 13) hx hb dX8_draw_169 (by decide) ?_
            refine va_iald hx hb hK hP 1 0 rfl rfl (k_in (i := 13) (n := 19) (by decide +kernel)) dX8_draw_171 ?_
            refine k_name (v := w26 13) rfl ?_
            refine va_iast hx hb hK hP hD hS 1 0 rfl rfl (k_in (i := 13) (n := 19) (by decide +kernel)) dX8_draw_172 (fun H locs hP hD hS => ?_)
            obtain ⟨w28, ew28, hf⟩ := k_L hf
            have hP : va_P D vwCl (wX8 cy h0 sa pa ka aa oa wa ca ta na mOp mIk v5.1 mRu 0 mTy mSp mFr mRe mCa mOr mLe w28 v5.2 rK rA rO rW rC rT rN) H := by rw [ew28]; exact hP
            have hD : va_D A (wX8 cy h0 sa pa ka aa oa wa ca ta na mOp mIk v5.1 mRu 0 mTy mSp mFr mRe mCa mOr mLe w28 v5.2 rK rA rO rW rC rT rN) := by rw [ew28]; exact hD
            refine lv_aload_n hx hb dX8_draw_173 rfl (lv_at hl 0 rfl) ?_
            refine va_get (D := D) (ci := 5) (v := .ref sa) (C := RX8) (T := TX8) (N := 21) hx hb hts in_X8 hown hK hP 0 rfl rfl 0 (by decide) fl7 (fun _ h9 => h9) rfl dX8_draw_174 ?_
            refine lv_bipush (v := 18) hx hb dX8_draw_177 (by decide) ?_
            refine va_iald hx hb hK hP 1 0 rfl rfl (k_in (i := 18) (n := 19) (by decide +kernel)) dX8_draw_179 ?_
            refine k_name (v := w28 18) rfl ?_
            refine lv_bipush (v := 31) hx hb dX8_draw_180 (by decide) ?_
            refine lv_icmp_ne (tgt := 189) hx hb dX8_draw_182 (by decide) (fun c29 => ?_) (fun c29 => ?_)
            · have hf := k_F c29 hf
              refine lv_iload_n hx hb dX8_draw_189 rfl (lv_at hl 2 rfl) ?_
              obtain rfl := k_some hf
              exact k_iret hx hb hr hP hD hS dX8_draw_190 hlocks
            · have hf := k_T c29 hf
              refine lv_aload_n hx hb dX8_draw_185 rfl (lv_at hl 0 rfl) ?_
              obtain ⟨v30, hv30, hf⟩ := k_B hf
              refine k_callHV (As := []) (rest := []) (r := (RX8, TX8, 21)) (ci := 5) (q0 := 0) (isC := [0, 1, 2, 3, 4, 5, 6, 7, 8, 9]) (isR := []) (perm := [0, 1, 2, 3, 4, 5, 6, 7, 8, 9]) (w' := (wX8 cy h0 sa pa ka aa oa wa ca ta na mOp mIk v5.1 mRu 0 mTy mSp mFr mRe mCa mOr mLe v30 v5.2 rK rA rO rW rC rT rN)) ⟨hx, hb, hml, hown, hts⟩ (c_X8_ends l D cy h0 sa pa ka aa oa wa ca ta na mOp mIk v5.1 mRu 0 mTy mSp mFr mRe mCa mOr mLe w28 v5.2 rK rA rO rW rC rT rN  v30 hv30) (cwV 0 hts gX8_draw_X8_ends rfl rfl rfl hd_X8_ends ⟨Nat.le_of_ble_eq_true rfl, Nat.le_of_ble_eq_true rfl⟩) hK hN hP hD hS hA rfl rfl rfl rfl rfl rfl (by decide) rfl rfl rfl hl.1 rfl (Nat.le_of_ble_eq_true rfl) dX8_draw_186 ⟨Nat.zero_le _, Nat.zero_le _⟩ (fun H locs hP hD hS => ?_)
              refine lv_iload_n hx hb dX8_draw_189 rfl (lv_at hl 2 rfl) ?_
              obtain rfl := k_some hf
              exact k_iret hx hb hr hP hD hS dX8_draw_190 hlocks
          · have hf := k_T c27 hf
            refine lv_iconst (v := 1) hx hb dX8_draw_153 (by decide) ?_
            refine lv_aload_n hx hb dX8_draw_154 rfl (lv_at hl 0 rfl) ?_
            refine va_get (D := D) (ci := 5) (v := .ref sa) (C := RX8) (T := TX8) (N := 21) hx hb hts in_X8 hown hK hP 0 rfl rfl 0 (by decide) fl7 (fun _ h9 => h9) rfl dX8_draw_155 ?_
            refine lv_bipush (v := 13) hx hb dX8_draw_158 (by decide) ?_
            refine va_iald hx hb hK hP 1 0 rfl rfl (k_in (i := 13) (n := 19) (by decide +kernel)) dX8_draw_160 ?_
            refine k_name (v := w26 13) rfl ?_
            refine lv_isub hx hb dX8_draw_161 ?_
            refine lv_goto (tgt := 172) hx hb dX8_draw_162 (by decide) ?_
            refine va_iast hx hb hK hP hD hS 1 0 rfl rfl (k_in (i := 13) (n := 19) (by decide +kernel)) dX8_draw_172 (fun H locs hP hD hS => ?_)
            obtain ⟨w31, ew31, hf⟩ := k_L hf
            have hP : va_P D vwCl (wX8 cy h0 sa pa ka aa oa wa ca ta na mOp mIk v5.1 mRu 0 mTy mSp mFr mRe mCa mOr mLe w31 v5.2 rK rA rO rW rC rT rN) H := by rw [ew31]; exact hP
            have hD : va_D A (wX8 cy h0 sa pa ka aa oa wa ca ta na mOp mIk v5.1 mRu 0 mTy mSp mFr mRe mCa mOr mLe w31 v5.2 rK rA rO rW rC rT rN) := by rw [ew31]; exact hD
            refine lv_aload_n hx hb dX8_draw_173 rfl (lv_at hl 0 rfl) ?_
            refine va_get (D := D) (ci := 5) (v := .ref sa) (C := RX8) (T := TX8) (N := 21) hx hb hts in_X8 hown hK hP 0 rfl rfl 0 (by decide) fl7 (fun _ h9 => h9) rfl dX8_draw_174 ?_
            refine lv_bipush (v := 18) hx hb dX8_draw_177 (by decide) ?_
            refine va_iald hx hb hK hP 1 0 rfl rfl (k_in (i := 18) (n := 19) (by decide +kernel)) dX8_draw_179 ?_
            refine k_name (v := w31 18) rfl ?_
            refine lv_bipush (v := 31) hx hb dX8_draw_180 (by decide) ?_
            refine lv_icmp_ne (tgt := 189) hx hb dX8_draw_182 (by decide) (fun c32 => ?_) (fun c32 => ?_)
            · have hf := k_F c32 hf
              refine lv_iload_n hx hb dX8_draw_189 rfl (lv_at hl 2 rfl) ?_
              obtain rfl := k_some hf
              exact k_iret hx hb hr hP hD hS dX8_draw_190 hlocks
            · have hf := k_T c32 hf
              refine lv_aload_n hx hb dX8_draw_185 rfl (lv_at hl 0 rfl) ?_
              obtain ⟨v33, hv33, hf⟩ := k_B hf
              refine k_callHV (As := []) (rest := []) (r := (RX8, TX8, 21)) (ci := 5) (q0 := 0) (isC := [0, 1, 2, 3, 4, 5, 6, 7, 8, 9]) (isR := []) (perm := [0, 1, 2, 3, 4, 5, 6, 7, 8, 9]) (w' := (wX8 cy h0 sa pa ka aa oa wa ca ta na mOp mIk v5.1 mRu 0 mTy mSp mFr mRe mCa mOr mLe v33 v5.2 rK rA rO rW rC rT rN)) ⟨hx, hb, hml, hown, hts⟩ (c_X8_ends l D cy h0 sa pa ka aa oa wa ca ta na mOp mIk v5.1 mRu 0 mTy mSp mFr mRe mCa mOr mLe w31 v5.2 rK rA rO rW rC rT rN  v33 hv33) (cwV 0 hts gX8_draw_X8_ends rfl rfl rfl hd_X8_ends ⟨Nat.le_of_ble_eq_true rfl, Nat.le_of_ble_eq_true rfl⟩) hK hN hP hD hS hA rfl rfl rfl rfl rfl rfl (by decide) rfl rfl rfl hl.1 rfl (Nat.le_of_ble_eq_true rfl) dX8_draw_186 ⟨Nat.zero_le _, Nat.zero_le _⟩ (fun H locs hP hD hS => ?_)
              refine lv_iload_n hx hb dX8_draw_189 rfl (lv_at hl 2 rfl) ?_
              obtain rfl := k_some hf
              exact k_iret hx hb hr hP hD hS dX8_draw_190 hlocks
    · have hf := k_F c4 hf
      refine lv_aload_n hx hb dX8_draw_26 rfl (lv_at hl 0 rfl) ?_
      refine lv_iconst (v := 2) hx hb dX8_draw_27 (by decide) ?_
      obtain ⟨v34, hv34, hf⟩ := k_B hf
      refine k_callHV (As := [.int 2]) (rest := []) (r := (RX8, TX8, 21)) (ci := 5) (q0 := 0) (isC := [0, 1, 2, 3, 4, 5, 6, 7, 8, 9]) (isR := []) (perm := [0, 1, 2, 3, 4, 5, 6, 7, 8, 9]) (w' := (wX8 cy h0 sa pa ka aa oa wa ca ta na mOp mIk mPa mRu v34.2 mTy mSp mFr mRe mCa mOr mLe rS rP rK rA rO rW rC rT rN)) ⟨hx, hb, hml, hown, hts⟩ (c_X8_fails l D cy h0 sa pa ka aa oa wa ca ta na mOp mIk mPa mRu 0 mTy mSp mFr mRe mCa mOr mLe rS rP rK rA rO rW rC rT rN 2 v34 hv34) (cwV 1 hts gX8_draw_X8_fails rfl rfl rfl hd_X8_fails ⟨Nat.le_of_ble_eq_true rfl, Nat.le_of_ble_eq_true rfl⟩) hK hN hP hD hS hA rfl rfl rfl rfl rfl rfl (by decide) rfl rfl rfl hl.1 rfl (Nat.le_of_ble_eq_true rfl) dX8_draw_28 ⟨Nat.zero_le _, Nat.zero_le _⟩ (fun H locs hP hD hS => ?_)
      obtain rfl := k_some hf
      exact k_iret hx hb hr hP hD hS dX8_draw_31 hlocks
  · have hf := k_T c2 hf
    refine lv_aload_n hx hb dX8_draw_12 rfl (lv_at hl 0 rfl) ?_
    refine lv_iconst (v := 1) hx hb dX8_draw_13 (by decide) ?_
    obtain ⟨v35, hv35, hf⟩ := k_B hf
    refine k_callHV (As := [.int 1]) (rest := []) (r := (RX8, TX8, 21)) (ci := 5) (q0 := 0) (isC := [0, 1, 2, 3, 4, 5, 6, 7, 8, 9]) (isR := []) (perm := [0, 1, 2, 3, 4, 5, 6, 7, 8, 9]) (w' := (wX8 cy h0 sa pa ka aa oa wa ca ta na mOp mIk mPa mRu v35.2 mTy mSp mFr mRe mCa mOr mLe rS rP rK rA rO rW rC rT rN)) ⟨hx, hb, hml, hown, hts⟩ (c_X8_fails l D cy h0 sa pa ka aa oa wa ca ta na mOp mIk mPa mRu 0 mTy mSp mFr mRe mCa mOr mLe rS rP rK rA rO rW rC rT rN 1 v35 hv35) (cwV 1 hts gX8_draw_X8_fails rfl rfl rfl hd_X8_fails ⟨Nat.le_of_ble_eq_true rfl, Nat.le_of_ble_eq_true rfl⟩) hK hN hP hD hS hA rfl rfl rfl rfl rfl rfl (by decide) rfl rfl rfl hl.1 rfl (Nat.le_of_ble_eq_true rfl) dX8_draw_14 ⟨Nat.zero_le _, Nat.zero_le _⟩ (fun H locs hP hD hS => ?_)
    obtain rfl := k_some hf
    exact k_iret hx hb hr hP hD hS dX8_draw_17 hlocks
def t_X8_newGame_42 (b1 : Int32) (s42 : Int32 × (Nat → Int32)) : Option ((Int32 × (Nat → Int32)) ⊕ (Int32 × (Nat → Int32))) :=
  if 12 ≤ s42.1 then
    some (.inr (s42.1, s42.2))
  else
    if ((1 : Int32) + s42.1) < 0 ∨ 19 ≤ ((1 : Int32) + s42.1).toNatClampNeg then none else
    k_let (upd s42.2 ((1 : Int32) + s42.1).toNatClampNeg 0) fun w8 =>
    some (.inl (s42.1 + 1, w8))
def f_X8_newGame (mPa : Int32) (mRu : Int32) (mLa : Int32) (rS : Nat → Int32) (rP : Nat → Int32) : Option (Int32 × Int32 × Int32 × (Nat → Int32) × (Nat → Int32)) :=
  (f_X8_changes mPa mRu rS rP).bind fun v1 =>
  k_let (rS 18) fun y2 =>
  k_let (upd rS 0 0) fun w3 =>
  k_let (upd w3 18 0) fun w4 =>
  k_let (upd w4 13 0) fun w5 =>
  (k_loop (t_X8_newGame_42 y2) 1000 (0, w5)).bind fun x9 =>
  some (y2, v1.1, 0, x9.2, v1.2)
abbrev rm_X8_newGame : Room := { frames := 1, cells := 0, slots := 0, locals := 21 }
theorem hd_X8_newGame : yX8_newGame.cls = RX8 ∧ yX8_newGame.cls ≠ "java/lang/invoke/MethodHandle" ∧ yX8_newGame.cls ≠ "java/lang/invoke/VarHandle" ∧ (parseMethodDescriptor yX8_newGame.desc).map (fun d => d.parameters.length) = some 0 := by decide +kernel
set_option maxHeartbeats 4000000 in
set_option maxRecDepth 100000 in
theorem c_X8_newGame (l : Launch) (D : va_G) (cy : Nat → ClassId) (h0 sa pa ka aa oa wa ca ta na : Nat) (mOp : Int32) (mIk : Int32) (mPa : Int32) (mRu : Int32) (mLa : Int32) (mTy : Int32) (mSp : Int32) (mFr : Int32) (mRe : Int32) (mCa : Int32) (mOr : Int32) (mLe : Int32) (rS : Nat → Int32) (rP : Nat → Int32) (rK : Nat → Int32) (rA : Nat → Int32) (rO : Nat → Int32) (rW : Nat → Int32) (rC : Nat → Int32) (rT : Nat → Int32) (rN : Nat → Int32)  (r : Int32 × Int32 × Int32 × (Nat → Int32) × (Nat → Int32)) (hf : f_X8_newGame mPa mRu mLa rS rP = some r) : k_HMet l yX8_newGame wsX8_newGame rm_X8_newGame D (k_tys cy) [.ref h0] (wX8 cy h0 sa pa ka aa oa wa ca ta na mOp mIk mPa mRu mLa mTy mSp mFr mRe mCa mOr mLe rS rP rK rA rO rW rC rT rN) (some (.int r.1)) (wX8 cy h0 sa pa ka aa oa wa ca ta na mOp mIk r.2.1 mRu r.2.2.1 mTy mSp mFr mRe mCa mOr mLe r.2.2.2.1 r.2.2.2.2 rK rA rO rW rC rT rN) := by
  refine k_heapOf (cc := cX8_newGame) (maxL := 3) (ret := (some .int)) (by decide) rfl (Nat.le_of_ble_eq_true rfl) ?_
  intro p e s m args below meth c ls A hx hb hr hlocks hml hown hts hl hA hK hP hD hN
  have hl : lv_has ls 3 [(0, .ref h0)] := hl
  have hS : va_S A s.heap s.heap [] := va_S.rf
  have in_X8 : ∀ w ∈ wsX80, w ∈ wsX8_newGame := by decide +kernel
  have fl7 := hts (.fieldLink RX8 7 "FencedBoxesModel" "s" "[I") (by decide +kernel)
  have fl37 := hts (.fieldLink RX8 37 "FencedBoxesModel" "last" "I") (by decide +kernel)
  have L42 : ∀ (Q : State → Prop) (n : Nat) (b1 : Int32) (mOp : Int32) (mIk : Int32) (mPa : Int32) (mRu : Int32) (mLa : Int32) (mTy : Int32) (mSp : Int32) (mFr : Int32) (mRe : Int32) (mCa : Int32) (mOr : Int32) (mLe : Int32) (rP : Nat → Int32) (rK : Nat → Int32) (rA : Nat → Int32) (rO : Nat → Int32) (rW : Nat → Int32) (rC : Nat → Int32) (rT : Nat → Int32) (rN : Nat → Int32) (s42 : Int32 × (Nat → Int32)) (q : (Int32 × (Nat → Int32))), k_loop (t_X8_newGame_42 b1) n s42 = some q → ∀ (ls : Array Slot) (H : Heap) (locs : List Loc), lv_has ls 3 [(0, .ref h0), (1, .int b1), (2, .int s42.1)] → va_P D vwCl (wX8 cy h0 sa pa ka aa oa wa ca ta na mOp mIk mPa mRu mLa mTy mSp mFr mRe mCa mOr mLe s42.2 rP rK rA rO rW rC rT rN) H → va_D A (wX8 cy h0 sa pa ka aa oa wa ca ta na mOp mIk mPa mRu mLa mTy mSp mFr mRe mCa mOr mLe s42.2 rP rK rA rO rW rC rT rN) → va_S A s.heap H locs → (∀ (ls : Array Slot) (H : Heap) (locs : List Loc), True → lv_has ls 3 [(1, .int b1)] → va_P D vwCl (wX8 cy h0 sa pa ka aa oa wa ca ta na mOp mIk mPa mRu mLa mTy mSp mFr mRe mCa mOr mLe q.2 rP rK rA rO rW rC rT rN) H → va_D A (wX8 cy h0 sa pa ka aa oa wa ca ta na mOp mIk mPa mRu mLa mTy mSp mFr mRe mCa mOr mLe q.2 rP rK rA rO rW rC rT rN) → va_S A s.heap H locs → W p l e rm_X8_newGame s m args below meth c H locs 0 0 Q (F0 m 63 ls [])) → W p l e rm_X8_newGame s m args below meth c H locs 0 0 Q (F0 m 42 ls []) := by
    intro Q n
    induction n with
    | zero =>
      intro b1 mOp mIk mPa mRu mLa mTy mSp mFr mRe mCa mOr mLe rP rK rA rO rW rC rT rN s42 q hq
      exact (k_loop0 hq).elim
    | succ n ih =>
      intro b1 mOp mIk mPa mRu mLa mTy mSp mFr mRe mCa mOr mLe rP rK rA rO rW rC rT rN s42 q hq ls H locs hl hP hD hS kx 
      obtain ⟨x, hf, hq⟩ := k_loopE hq
      unfold t_X8_newGame_42 at hf
      refine lv_iload_n hx hb dX8_newGame_42 rfl (lv_at hl 2 rfl) ?_
      refine lv_bipush (v := 12) hx hb dX8_newGame_43 (by decide) ?_
      refine lv_icmp_ge (tgt := 63) hx hb dX8_newGame_45 (by decide) (fun c6 => ?_) (fun c6 => ?_)
      · have hf := k_T c6 hf
        obtain rfl := k_some hf
        obtain rfl := k_some (k_inr hq)
        exact kx ls H locs trivial (lv_sub hl [1] rfl) hP hD hS
      · have hf := k_F c6 hf
        refine lv_aload_n hx hb dX8_newGame_48 rfl (lv_at hl 0 rfl) ?_
        refine va_get (D := D) (ci := 5) (v := .ref sa) (C := RX8) (T := TX8) (N := 21) hx hb hts in_X8 hown hK hP 0 rfl rfl 0 (by decide) fl7 (fun _ h9 => h9) rfl dX8_newGame_49 ?_
        refine lv_iconst (v := 1) hx hb dX8_newGame_52 (by decide) ?_
        refine lv_iload_n hx hb dX8_newGame_53 rfl (lv_at hl 2 rfl) ?_
        refine lv_iadd hx hb dX8_newGame_54 ?_
        refine lv_iconst (v := 0) hx hb dX8_newGame_55 (by decide) ?_
        obtain ⟨g7, hf⟩ := k_G hf
        refine va_iast hx hb hK hP hD hS 1 0 rfl rfl g7 dX8_newGame_56 (fun H locs hP hD hS => ?_)
        obtain ⟨w8, ew8, hf⟩ := k_L hf
        have hP : va_P D vwCl (wX8 cy h0 sa pa ka aa oa wa ca ta na mOp mIk mPa mRu mLa mTy mSp mFr mRe mCa mOr mLe w8 rP rK rA rO rW rC rT rN) H := by rw [ew8]; exact hP
        have hD : va_D A (wX8 cy h0 sa pa ka aa oa wa ca ta na mOp mIk mPa mRu mLa mTy mSp mFr mRe mCa mOr mLe w8 rP rK rA rO rW rC rT rN) := by rw [ew8]; exact hD
        refine lv_iinc (v := s42.1 + 1) (lv' := [(2, .int (s42.1 + 1)), (0, .ref h0), (1, .int b1)]) hx hb dX8_newGame_57 hl (k := 2) rfl rfl (by decide) rfl (fun ls hl => ?_)
        refine lv_goto (tgt := 42) hx hb dX8_newGame_60 (by decide) ?_
        obtain rfl := k_some hf
        exact ih b1 mOp mIk mPa mRu mLa mTy mSp mFr mRe mCa mOr mLe rP rK rA rO rW rC rT rN (s42.1 + 1, w8) q (k_inl hq) ls H locs (lv_sub hl [1, 2, 0] rfl) hP hD hS kx 
  unfold f_X8_newGame at hf
  obtain ⟨H, eH⟩ : ∃ H, H = s.heap := ⟨_, rfl⟩
  obtain ⟨locs, elocs⟩ : ∃ L : List Loc, L = [] := ⟨_, rfl⟩
  have hP : va_P D vwCl (wX8 cy h0 sa pa ka aa oa wa ca ta na mOp mIk mPa mRu mLa mTy mSp mFr mRe mCa mOr mLe rS rP rK rA rO rW rC rT rN) H := by rw [eH]; exact hP
  have hS : va_S A s.heap H locs := by rw [eH, elocs]; exact hS
  refine k_here eH elocs ?_
  refine lv_aload_n hx hb dX8_newGame_0 rfl (lv_at hl 0 rfl) ?_
  refine lv_iconst (v := 0) hx hb dX8_newGame_1 (by decide) ?_
  refine va_put (D := D) (ci := 5) (v := .int 0) (ty := .int) (C := RX8) (T := TX8) (N := 21) hx hb hts in_X8 tyX8 tyX8_ok nmX8 hown hK hP hD hS 0 rfl rfl 11 (by decide) fl37 (fun _ h9 => h9) rfl (by decide +kernel) rfl rfl (Nat.le_of_ble_eq_true rfl) dX8_newGame_2 (fun H locs hP hD hS => ?_)
  have hP : va_P D vwCl (wX8 cy h0 sa pa ka aa oa wa ca ta na mOp mIk mPa mRu 0 mTy mSp mFr mRe mCa mOr mLe rS rP rK rA rO rW rC rT rN) H := hP
  have hD : va_D A (wX8 cy h0 sa pa ka aa oa wa ca ta na mOp mIk mPa mRu 0 mTy mSp mFr mRe mCa mOr mLe rS rP rK rA rO rW rC rT rN) := hD
  refine lv_aload_n hx hb dX8_newGame_5 rfl (lv_at hl 0 rfl) ?_
  obtain ⟨v1, hv1, hf⟩ := k_B hf
  refine k_callHV (As := []) (rest := []) (r := (RX8, TX8, 21)) (ci := 5) (q0 := 0) (isC := [0, 1, 2, 3, 4, 5, 6, 7, 8, 9]) (isR := []) (perm := [0, 1, 2, 3, 4, 5, 6, 7, 8, 9]) (w' := (wX8 cy h0 sa pa ka aa oa wa ca ta na mOp mIk v1.1 mRu 0 mTy mSp mFr mRe mCa mOr mLe rS v1.2 rK rA rO rW rC rT rN)) ⟨hx, hb, hml, hown, hts⟩ (c_X8_changes l D cy h0 sa pa ka aa oa wa ca ta na mOp mIk mPa mRu 0 mTy mSp mFr mRe mCa mOr mLe rS rP rK rA rO rW rC rT rN  v1 hv1) (cwV 0 hts gX8_newGame_X8_changes rfl rfl rfl hd_X8_changes ⟨Nat.le_of_ble_eq_true rfl, Nat.le_of_ble_eq_true rfl⟩) hK hN hP hD hS hA rfl rfl rfl rfl rfl rfl (by decide) rfl rfl rfl hl.1 rfl (Nat.le_of_ble_eq_true rfl) dX8_newGame_6 ⟨Nat.zero_le _, Nat.zero_le _⟩ (fun H locs hP hD hS => ?_)
  refine lv_aload_n hx hb dX8_newGame_9 rfl (lv_at hl 0 rfl) ?_
  refine va_get (D := D) (ci := 5) (v := .ref sa) (C := RX8) (T := TX8) (N := 21) hx hb hts in_X8 hown hK hP 0 rfl rfl 0 (by decide) fl7 (fun _ h9 => h9) rfl dX8_newGame_10 ?_
  refine lv_bipush (v := 18) hx hb dX8_newGame_13 (by decide) ?_
  refine va_iald hx hb hK hP 1 0 rfl rfl (k_in (i := 18) (n := 19) (by decide +kernel)) dX8_newGame_15 ?_
  refine k_name (v := rS 18) rfl ?_
  obtain ⟨y2, ey2, hf⟩ := k_L hf
  refine k_name ey2 ?_
  refine lv_istore_n (lv' := [(1, .int y2), (0, .ref h0)]) hx hb dX8_newGame_16 rfl hl (by decide) rfl (fun ls hl => ?_)
  refine lv_aload_n hx hb dX8_newGame_17 rfl (lv_at hl 1 rfl) ?_
  refine va_get (D := D) (ci := 5) (v := .ref sa) (C := RX8) (T := TX8) (N := 21) hx hb hts in_X8 hown hK hP 0 rfl rfl 0 (by decide) fl7 (fun _ h9 => h9) rfl dX8_newGame_18 ?_
  refine lv_iconst (v := 0) hx hb dX8_newGame_21 (by decide) ?_
  refine lv_iconst (v := 0) hx hb dX8_newGame_22 (by decide) ?_
  refine va_iast hx hb hK hP hD hS 1 0 rfl rfl (k_in (i := 0) (n := 19) (by decide +kernel)) dX8_newGame_23 (fun H locs hP hD hS => ?_)
  obtain ⟨w3, ew3, hf⟩ := k_L hf
  have hP : va_P D vwCl (wX8 cy h0 sa pa ka aa oa wa ca ta na mOp mIk v1.1 mRu 0 mTy mSp mFr mRe mCa mOr mLe w3 v1.2 rK rA rO rW rC rT rN) H := by rw [ew3]; exact hP
  have hD : va_D A (wX8 cy h0 sa pa ka aa oa wa ca ta na mOp mIk v1.1 mRu 0 mTy mSp mFr mRe mCa mOr mLe w3 v1.2 rK rA rO rW rC rT rN) := by rw [ew3]; exact hD
  refine lv_aload_n hx hb dX8_newGame_24 rfl (lv_at hl 1 rfl) ?_
  refine va_get (D := D) (ci := 5) (v := .ref sa) (C := RX8) (T := TX8) (N := 21) hx hb hts in_X8 hown hK hP 0 rfl rfl 0 (by decide) fl7 (fun _ h9 => h9) rfl dX8_newGame_25 ?_
  refine lv_bipush (v := 18) hx hb dX8_newGame_28 (by decide) ?_
  refine lv_iconst (v := 0) hx hb dX8_newGame_30 (by decide) ?_
  refine va_iast hx hb hK hP hD hS 1 0 rfl rfl (k_in (i := 18) (n := 19) (by decide +kernel)) dX8_newGame_31 (fun H locs hP hD hS => ?_)
  obtain ⟨w4, ew4, hf⟩ := k_L hf
  have hP : va_P D vwCl (wX8 cy h0 sa pa ka aa oa wa ca ta na mOp mIk v1.1 mRu 0 mTy mSp mFr mRe mCa mOr mLe w4 v1.2 rK rA rO rW rC rT rN) H := by rw [ew4]; exact hP
  have hD : va_D A (wX8 cy h0 sa pa ka aa oa wa ca ta na mOp mIk v1.1 mRu 0 mTy mSp mFr mRe mCa mOr mLe w4 v1.2 rK rA rO rW rC rT rN) := by rw [ew4]; exact hD
  refine lv_aload_n hx hb dX8_newGame_32 rfl (lv_at hl 1 rfl) ?_
  refine va_get (D := D) (ci := 5) (v := .ref sa) (C := RX8) (T := TX8) (N := 21) hx hb hts in_X8 hown hK hP 0 rfl rfl 0 (by decide) fl7 (fun _ h9 => h9) rfl dX8_newGame_33 ?_
  refine lv_bipush (v := 13) hx hb dX8_newGame_36 (by decide) ?_
  refine lv_iconst (v := 0) hx hb dX8_newGame_38 (by decide) ?_
  refine va_iast hx hb hK hP hD hS 1 0 rfl rfl (k_in (i := 13) (n := 19) (by decide +kernel)) dX8_newGame_39 (fun H locs hP hD hS => ?_)
  obtain ⟨w5, ew5, hf⟩ := k_L hf
  have hP : va_P D vwCl (wX8 cy h0 sa pa ka aa oa wa ca ta na mOp mIk v1.1 mRu 0 mTy mSp mFr mRe mCa mOr mLe w5 v1.2 rK rA rO rW rC rT rN) H := by rw [ew5]; exact hP
  have hD : va_D A (wX8 cy h0 sa pa ka aa oa wa ca ta na mOp mIk v1.1 mRu 0 mTy mSp mFr mRe mCa mOr mLe w5 v1.2 rK rA rO rW rC rT rN) := by rw [ew5]; exact hD
  refine lv_iconst (v := 0) hx hb dX8_newGame_40 (by decide) ?_
  refine lv_istore_n (lv' := [(2, .int 0), (1, .int y2), (0, .ref h0)]) hx hb dX8_newGame_41 rfl hl (by decide) rfl (fun ls hl => ?_)
  obtain ⟨x9, hx9, hf⟩ := k_B hf
  refine L42 _ 1000 y2 mOp mIk v1.1 mRu 0 mTy mSp mFr mRe mCa mOr mLe v1.2 rK rA rO rW rC rT rN (0, w5) x9 hx9 ls H locs (lv_sub hl [2, 1, 0] rfl) hP hD hS ?_
  · intro ls H locs _ hl hP hD hS
    refine lv_iload_n hx hb dX8_newGame_63 rfl (lv_at hl 0 rfl) ?_
    obtain rfl := k_some hf
    exact k_iret hx hb hr hP hD hS dX8_newGame_64 hlocks
def f_X8_told (n1 : Int32) (mLa : Int32) (rS : Nat → Int32) : Option (Int32 × Int32) :=
  if n1 < 0 ∨ 19 ≤ n1.toNatClampNeg then none else
  some (rS n1.toNatClampNeg, 0)
abbrev rm_X8_told : Room := { frames := 0, cells := 0, slots := 0, locals := 0 }
theorem hd_X8_told : yX8_told.cls = RX8 ∧ yX8_told.cls ≠ "java/lang/invoke/MethodHandle" ∧ yX8_told.cls ≠ "java/lang/invoke/VarHandle" ∧ (parseMethodDescriptor yX8_told.desc).map (fun d => d.parameters.length) = some 1 := by decide +kernel
set_option maxHeartbeats 4000000 in
set_option maxRecDepth 100000 in
theorem c_X8_told (l : Launch) (D : va_G) (cy : Nat → ClassId) (h0 sa pa ka aa oa wa ca ta na : Nat) (mOp : Int32) (mIk : Int32) (mPa : Int32) (mRu : Int32) (mLa : Int32) (mTy : Int32) (mSp : Int32) (mFr : Int32) (mRe : Int32) (mCa : Int32) (mOr : Int32) (mLe : Int32) (rS : Nat → Int32) (rP : Nat → Int32) (rK : Nat → Int32) (rA : Nat → Int32) (rO : Nat → Int32) (rW : Nat → Int32) (rC : Nat → Int32) (rT : Nat → Int32) (rN : Nat → Int32) (n1 : Int32) (r : Int32 × Int32) (hf : f_X8_told n1 mLa rS = some r) : k_HMet l yX8_told wsX8_told rm_X8_told D (k_tys cy) [.ref h0, .int n1] (wX8 cy h0 sa pa ka aa oa wa ca ta na mOp mIk mPa mRu mLa mTy mSp mFr mRe mCa mOr mLe rS rP rK rA rO rW rC rT rN) (some (.int r.1)) (wX8 cy h0 sa pa ka aa oa wa ca ta na mOp mIk mPa mRu r.2 mTy mSp mFr mRe mCa mOr mLe rS rP rK rA rO rW rC rT rN) := by
  refine k_heapOf (cc := cX8_told) (maxL := 2) (ret := (some .int)) (by decide) rfl (Nat.le_of_ble_eq_true rfl) ?_
  intro p e s m args below meth c ls A hx hb hr hlocks hml hown hts hl hA hK hP hD hN
  have hl : lv_has ls 2 [(0, .ref h0), (1, .int n1)] := hl
  have hS : va_S A s.heap s.heap [] := va_S.rf
  have in_X8 : ∀ w ∈ wsX80, w ∈ wsX8_told := by decide +kernel
  have fl7 := hts (.fieldLink RX8 7 "FencedBoxesModel" "s" "[I") (by decide +kernel)
  have fl37 := hts (.fieldLink RX8 37 "FencedBoxesModel" "last" "I") (by decide +kernel)
  unfold f_X8_told at hf
  obtain ⟨H, eH⟩ : ∃ H, H = s.heap := ⟨_, rfl⟩
  obtain ⟨locs, elocs⟩ : ∃ L : List Loc, L = [] := ⟨_, rfl⟩
  have hP : va_P D vwCl (wX8 cy h0 sa pa ka aa oa wa ca ta na mOp mIk mPa mRu mLa mTy mSp mFr mRe mCa mOr mLe rS rP rK rA rO rW rC rT rN) H := by rw [eH]; exact hP
  have hS : va_S A s.heap H locs := by rw [eH, elocs]; exact hS
  refine k_here eH elocs ?_
  refine lv_aload_n hx hb dX8_told_0 rfl (lv_at hl 0 rfl) ?_
  refine lv_iconst (v := 0) hx hb dX8_told_1 (by decide) ?_
  refine va_put (D := D) (ci := 5) (v := .int 0) (ty := .int) (C := RX8) (T := TX8) (N := 21) hx hb hts in_X8 tyX8 tyX8_ok nmX8 hown hK hP hD hS 0 rfl rfl 11 (by decide) fl37 (fun _ h9 => h9) rfl (by decide +kernel) rfl rfl (Nat.le_of_ble_eq_true rfl) dX8_told_2 (fun H locs hP hD hS => ?_)
  have hP : va_P D vwCl (wX8 cy h0 sa pa ka aa oa wa ca ta na mOp mIk mPa mRu 0 mTy mSp mFr mRe mCa mOr mLe rS rP rK rA rO rW rC rT rN) H := hP
  have hD : va_D A (wX8 cy h0 sa pa ka aa oa wa ca ta na mOp mIk mPa mRu 0 mTy mSp mFr mRe mCa mOr mLe rS rP rK rA rO rW rC rT rN) := hD
  refine lv_aload_n hx hb dX8_told_5 rfl (lv_at hl 0 rfl) ?_
  refine va_get (D := D) (ci := 5) (v := .ref sa) (C := RX8) (T := TX8) (N := 21) hx hb hts in_X8 hown hK hP 0 rfl rfl 0 (by decide) fl7 (fun _ h9 => h9) rfl dX8_told_6 ?_
  refine lv_iload_n hx hb dX8_told_9 rfl (lv_at hl 1 rfl) ?_
  obtain ⟨g1, hf⟩ := k_G hf
  refine va_iald hx hb hK hP 1 0 rfl rfl g1 dX8_told_10 ?_
  obtain rfl := k_some hf
  exact k_iret hx hb hr hP hD hS dX8_told_11 hlocks
def f_X8_isDrawn (n1 : Int32) (mLa : Int32) (rS : Nat → Int32) : Option (Int32 × Int32) :=
  (f_X8_isFence n1).bind fun v1 =>
  if v1 = 0 then
    if (1 : Int32) = 0 then
      (f_X8_isIn (rS 0) n1).bind fun v4 =>
      if v4 = 0 then
        some (0, 1)
      else
        some (1, 1)
    else
      some (0, 1)
  else
    if (0 : Int32) = 0 then
      (f_X8_isIn (rS 0) n1).bind fun v7 =>
      if v7 = 0 then
        some (0, 0)
      else
        some (1, 0)
    else
      some (0, 0)
abbrev rm_X8_isDrawn : Room := { frames := 2, cells := 0, slots := 0, locals := 42 }
theorem hd_X8_isDrawn : yX8_isDrawn.cls = RX8 ∧ yX8_isDrawn.cls ≠ "java/lang/invoke/MethodHandle" ∧ yX8_isDrawn.cls ≠ "java/lang/invoke/VarHandle" ∧ (parseMethodDescriptor yX8_isDrawn.desc).map (fun d => d.parameters.length) = some 1 := by decide +kernel
set_option maxHeartbeats 4000000 in
set_option maxRecDepth 100000 in
theorem c_X8_isDrawn (l : Launch) (D : va_G) (cy : Nat → ClassId) (h0 sa pa ka aa oa wa ca ta na : Nat) (mOp : Int32) (mIk : Int32) (mPa : Int32) (mRu : Int32) (mLa : Int32) (mTy : Int32) (mSp : Int32) (mFr : Int32) (mRe : Int32) (mCa : Int32) (mOr : Int32) (mLe : Int32) (rS : Nat → Int32) (rP : Nat → Int32) (rK : Nat → Int32) (rA : Nat → Int32) (rO : Nat → Int32) (rW : Nat → Int32) (rC : Nat → Int32) (rT : Nat → Int32) (rN : Nat → Int32) (n1 : Int32) (r : Int32 × Int32) (hf : f_X8_isDrawn n1 mLa rS = some r) : k_HMet l yX8_isDrawn wsX8_isDrawn rm_X8_isDrawn D (k_tys cy) [.ref h0, .int n1] (wX8 cy h0 sa pa ka aa oa wa ca ta na mOp mIk mPa mRu mLa mTy mSp mFr mRe mCa mOr mLe rS rP rK rA rO rW rC rT rN) (some (.int r.1)) (wX8 cy h0 sa pa ka aa oa wa ca ta na mOp mIk mPa mRu r.2 mTy mSp mFr mRe mCa mOr mLe rS rP rK rA rO rW rC rT rN) := by
  refine k_heapOf (cc := cX8_isDrawn) (maxL := 2) (ret := (some .boolean)) (by decide) rfl (Nat.le_of_ble_eq_true rfl) ?_
  intro p e s m args below meth c ls A hx hb hr hlocks hml hown hts hl hA hK hP hD hN
  have hl : lv_has ls 2 [(0, .ref h0), (1, .int n1)] := hl
  have hS : va_S A s.heap s.heap [] := va_S.rf
  have in_X8 : ∀ w ∈ wsX80, w ∈ wsX8_isDrawn := by decide +kernel
  have fl7 := hts (.fieldLink RX8 7 "FencedBoxesModel" "s" "[I") (by decide +kernel)
  have fl37 := hts (.fieldLink RX8 37 "FencedBoxesModel" "last" "I") (by decide +kernel)
  unfold f_X8_isDrawn at hf
  obtain ⟨H, eH⟩ : ∃ H, H = s.heap := ⟨_, rfl⟩
  obtain ⟨locs, elocs⟩ : ∃ L : List Loc, L = [] := ⟨_, rfl⟩
  have hP : va_P D vwCl (wX8 cy h0 sa pa ka aa oa wa ca ta na mOp mIk mPa mRu mLa mTy mSp mFr mRe mCa mOr mLe rS rP rK rA rO rW rC rT rN) H := by rw [eH]; exact hP
  have hS : va_S A s.heap H locs := by rw [eH, elocs]; exact hS
  refine k_here eH elocs ?_
  refine lv_aload_n hx hb dX8_isDrawn_0 rfl (lv_at hl 0 rfl) ?_
  refine lv_iload_n hx hb dX8_isDrawn_1 rfl (lv_at hl 1 rfl) ?_
  obtain ⟨v1, hv1, hf⟩ := k_B hf
  refine k_callS (As := [.int n1]) (rest := [.ref h0]) ⟨hx, hb, hml, hown, hts⟩ (c_X8_isFence l n1 v1 hv1) (va_cwS 1 hts gX8_isDrawn_X8_isFence rfl rfl rfl hd_X8_isFence ⟨Nat.le_of_ble_eq_true rfl, Nat.le_of_ble_eq_true rfl⟩) rfl hl.1 rfl (Nat.le_of_ble_eq_true rfl) dX8_isDrawn_2 ⟨Nat.zero_le _, Nat.zero_le _⟩ ?_
  refine lv_if_eq (tgt := 12) hx hb dX8_isDrawn_5 (by decide) (fun c2 => ?_) (fun c2 => ?_)
  · have hf := k_T c2 hf
    refine lv_iconst (v := 1) hx hb dX8_isDrawn_12 (by decide) ?_
    refine va_put (D := D) (ci := 5) (v := .int 1) (ty := .int) (C := RX8) (T := TX8) (N := 21) hx hb hts in_X8 tyX8 tyX8_ok nmX8 hown hK hP hD hS 0 rfl rfl 11 (by decide) fl37 (fun _ h9 => h9) rfl (by decide +kernel) rfl rfl (Nat.le_of_ble_eq_true rfl) dX8_isDrawn_13 (fun H locs hP hD hS => ?_)
    have hP : va_P D vwCl (wX8 cy h0 sa pa ka aa oa wa ca ta na mOp mIk mPa mRu 1 mTy mSp mFr mRe mCa mOr mLe rS rP rK rA rO rW rC rT rN) H := hP
    have hD : va_D A (wX8 cy h0 sa pa ka aa oa wa ca ta na mOp mIk mPa mRu 1 mTy mSp mFr mRe mCa mOr mLe rS rP rK rA rO rW rC rT rN) := hD
    refine lv_aload_n hx hb dX8_isDrawn_16 rfl (lv_at hl 0 rfl) ?_
    refine va_get (D := D) (ci := 5) (v := .int 1) (C := RX8) (T := TX8) (N := 21) hx hb hts in_X8 hown hK hP 0 rfl rfl 11 (by decide) fl37 (fun _ h9 => h9) rfl dX8_isDrawn_17 ?_
    refine lv_if_ne (tgt := 40) hx hb dX8_isDrawn_20 (by decide) (fun c3 => ?_) (fun c3 => ?_)
    · have hf := k_F c3 hf
      refine lv_iconst (v := 0) hx hb dX8_isDrawn_40 (by decide) ?_
      obtain rfl := k_some hf
      exact k_zret (v := 0) hx hb hr rfl hP hD hS dX8_isDrawn_41 hlocks
    · have hf := k_T c3 hf
      refine lv_aload_n hx hb dX8_isDrawn_23 rfl (lv_at hl 0 rfl) ?_
      refine va_get (D := D) (ci := 5) (v := .ref sa) (C := RX8) (T := TX8) (N := 21) hx hb hts in_X8 hown hK hP 0 rfl rfl 0 (by decide) fl7 (fun _ h9 => h9) rfl dX8_isDrawn_24 ?_
      refine lv_iconst (v := 0) hx hb dX8_isDrawn_27 (by decide) ?_
      refine va_iald hx hb hK hP 1 0 rfl rfl (k_in (i := 0) (n := 19) (by decide +kernel)) dX8_isDrawn_28 ?_
      refine k_name (v := rS 0) rfl ?_
      refine lv_iload_n hx hb dX8_isDrawn_29 rfl (lv_at hl 1 rfl) ?_
      obtain ⟨v4, hv4, hf⟩ := k_B hf
      refine k_callS (As := [.int (rS 0), .int n1]) (rest := []) ⟨hx, hb, hml, hown, hts⟩ (c_X8_isIn l (rS 0) n1 v4 hv4) (va_cwS 2 hts gX8_isDrawn_X8_isIn rfl rfl rfl hd_X8_isIn ⟨Nat.le_of_ble_eq_true rfl, Nat.le_of_ble_eq_true rfl⟩) rfl hl.1 rfl (Nat.le_of_ble_eq_true rfl) dX8_isDrawn_30 ⟨Nat.zero_le _, Nat.zero_le _⟩ ?_
      refine lv_if_eq (tgt := 40) hx hb dX8_isDrawn_33 (by decide) (fun c5 => ?_) (fun c5 => ?_)
      · have hf := k_T c5 hf
        refine lv_iconst (v := 0) hx hb dX8_isDrawn_40 (by decide) ?_
        obtain rfl := k_some hf
        exact k_zret (v := 0) hx hb hr rfl hP hD hS dX8_isDrawn_41 hlocks
      · have hf := k_F c5 hf
        refine lv_iconst (v := 1) hx hb dX8_isDrawn_36 (by decide) ?_
        refine lv_goto (tgt := 41) hx hb dX8_isDrawn_37 (by decide) ?_
        obtain rfl := k_some hf
        exact k_zret (v := 1) hx hb hr rfl hP hD hS dX8_isDrawn_41 hlocks
  · have hf := k_F c2 hf
    refine lv_iconst (v := 0) hx hb dX8_isDrawn_8 (by decide) ?_
    refine lv_goto (tgt := 13) hx hb dX8_isDrawn_9 (by decide) ?_
    refine va_put (D := D) (ci := 5) (v := .int 0) (ty := .int) (C := RX8) (T := TX8) (N := 21) hx hb hts in_X8 tyX8 tyX8_ok nmX8 hown hK hP hD hS 0 rfl rfl 11 (by decide) fl37 (fun _ h9 => h9) rfl (by decide +kernel) rfl rfl (Nat.le_of_ble_eq_true rfl) dX8_isDrawn_13 (fun H locs hP hD hS => ?_)
    have hP : va_P D vwCl (wX8 cy h0 sa pa ka aa oa wa ca ta na mOp mIk mPa mRu 0 mTy mSp mFr mRe mCa mOr mLe rS rP rK rA rO rW rC rT rN) H := hP
    have hD : va_D A (wX8 cy h0 sa pa ka aa oa wa ca ta na mOp mIk mPa mRu 0 mTy mSp mFr mRe mCa mOr mLe rS rP rK rA rO rW rC rT rN) := hD
    refine lv_aload_n hx hb dX8_isDrawn_16 rfl (lv_at hl 0 rfl) ?_
    refine va_get (D := D) (ci := 5) (v := .int 0) (C := RX8) (T := TX8) (N := 21) hx hb hts in_X8 hown hK hP 0 rfl rfl 11 (by decide) fl37 (fun _ h9 => h9) rfl dX8_isDrawn_17 ?_
    refine lv_if_ne (tgt := 40) hx hb dX8_isDrawn_20 (by decide) (fun c6 => ?_) (fun c6 => ?_)
    · have hf := k_F c6 hf
      refine lv_iconst (v := 0) hx hb dX8_isDrawn_40 (by decide) ?_
      obtain rfl := k_some hf
      exact k_zret (v := 0) hx hb hr rfl hP hD hS dX8_isDrawn_41 hlocks
    · have hf := k_T c6 hf
      refine lv_aload_n hx hb dX8_isDrawn_23 rfl (lv_at hl 0 rfl) ?_
      refine va_get (D := D) (ci := 5) (v := .ref sa) (C := RX8) (T := TX8) (N := 21) hx hb hts in_X8 hown hK hP 0 rfl rfl 0 (by decide) fl7 (fun _ h9 => h9) rfl dX8_isDrawn_24 ?_
      refine lv_iconst (v := 0) hx hb dX8_isDrawn_27 (by decide) ?_
      refine va_iald hx hb hK hP 1 0 rfl rfl (k_in (i := 0) (n := 19) (by decide +kernel)) dX8_isDrawn_28 ?_
      refine k_name (v := rS 0) rfl ?_
      refine lv_iload_n hx hb dX8_isDrawn_29 rfl (lv_at hl 1 rfl) ?_
      obtain ⟨v7, hv7, hf⟩ := k_B hf
      refine k_callS (As := [.int (rS 0), .int n1]) (rest := []) ⟨hx, hb, hml, hown, hts⟩ (c_X8_isIn l (rS 0) n1 v7 hv7) (va_cwS 2 hts gX8_isDrawn_X8_isIn rfl rfl rfl hd_X8_isIn ⟨Nat.le_of_ble_eq_true rfl, Nat.le_of_ble_eq_true rfl⟩) rfl hl.1 rfl (Nat.le_of_ble_eq_true rfl) dX8_isDrawn_30 ⟨Nat.zero_le _, Nat.zero_le _⟩ ?_
      refine lv_if_eq (tgt := 40) hx hb dX8_isDrawn_33 (by decide) (fun c8 => ?_) (fun c8 => ?_)
      · have hf := k_T c8 hf
        refine lv_iconst (v := 0) hx hb dX8_isDrawn_40 (by decide) ?_
        obtain rfl := k_some hf
        exact k_zret (v := 0) hx hb hr rfl hP hD hS dX8_isDrawn_41 hlocks
      · have hf := k_F c8 hf
        refine lv_iconst (v := 1) hx hb dX8_isDrawn_36 (by decide) ?_
        refine lv_goto (tgt := 41) hx hb dX8_isDrawn_37 (by decide) ?_
        obtain rfl := k_some hf
        exact k_zret (v := 1) hx hb hr rfl hP hD hS dX8_isDrawn_41 hlocks
def f_X8_drawn (mLa : Int32) (rS : Nat → Int32) : Option (Int32 × Int32) :=
  (f_X8_told 18 mLa rS).bind fun v1 =>
  some (v1.1, v1.2)
abbrev rm_X8_drawn : Room := { frames := 1, cells := 0, slots := 0, locals := 21 }
theorem hd_X8_drawn : yX8_drawn.cls = RX8 ∧ yX8_drawn.cls ≠ "java/lang/invoke/MethodHandle" ∧ yX8_drawn.cls ≠ "java/lang/invoke/VarHandle" ∧ (parseMethodDescriptor yX8_drawn.desc).map (fun d => d.parameters.length) = some 0 := by decide +kernel
set_option maxHeartbeats 4000000 in
set_option maxRecDepth 100000 in
theorem c_X8_drawn (l : Launch) (D : va_G) (cy : Nat → ClassId) (h0 sa pa ka aa oa wa ca ta na : Nat) (mOp : Int32) (mIk : Int32) (mPa : Int32) (mRu : Int32) (mLa : Int32) (mTy : Int32) (mSp : Int32) (mFr : Int32) (mRe : Int32) (mCa : Int32) (mOr : Int32) (mLe : Int32) (rS : Nat → Int32) (rP : Nat → Int32) (rK : Nat → Int32) (rA : Nat → Int32) (rO : Nat → Int32) (rW : Nat → Int32) (rC : Nat → Int32) (rT : Nat → Int32) (rN : Nat → Int32)  (r : Int32 × Int32) (hf : f_X8_drawn mLa rS = some r) : k_HMet l yX8_drawn wsX8_drawn rm_X8_drawn D (k_tys cy) [.ref h0] (wX8 cy h0 sa pa ka aa oa wa ca ta na mOp mIk mPa mRu mLa mTy mSp mFr mRe mCa mOr mLe rS rP rK rA rO rW rC rT rN) (some (.int r.1)) (wX8 cy h0 sa pa ka aa oa wa ca ta na mOp mIk mPa mRu r.2 mTy mSp mFr mRe mCa mOr mLe rS rP rK rA rO rW rC rT rN) := by
  refine k_heapOf (cc := cX8_drawn) (maxL := 1) (ret := (some .int)) (by decide) rfl (Nat.le_of_ble_eq_true rfl) ?_
  intro p e s m args below meth c ls A hx hb hr hlocks hml hown hts hl hA hK hP hD hN
  have hl : lv_has ls 1 [(0, .ref h0)] := hl
  have hS : va_S A s.heap s.heap [] := va_S.rf
  unfold f_X8_drawn at hf
  obtain ⟨H, eH⟩ : ∃ H, H = s.heap := ⟨_, rfl⟩
  obtain ⟨locs, elocs⟩ : ∃ L : List Loc, L = [] := ⟨_, rfl⟩
  have hP : va_P D vwCl (wX8 cy h0 sa pa ka aa oa wa ca ta na mOp mIk mPa mRu mLa mTy mSp mFr mRe mCa mOr mLe rS rP rK rA rO rW rC rT rN) H := by rw [eH]; exact hP
  have hS : va_S A s.heap H locs := by rw [eH, elocs]; exact hS
  refine k_here eH elocs ?_
  refine lv_aload_n hx hb dX8_drawn_0 rfl (lv_at hl 0 rfl) ?_
  refine lv_bipush (v := 18) hx hb dX8_drawn_1 (by decide) ?_
  obtain ⟨v1, hv1, hf⟩ := k_B hf
  refine k_callHV (As := [.int 18]) (rest := []) (r := (RX8, TX8, 21)) (ci := 5) (q0 := 0) (isC := [0, 1, 2, 3, 4, 5, 6, 7, 8, 9]) (isR := []) (perm := [0, 1, 2, 3, 4, 5, 6, 7, 8, 9]) (w' := (wX8 cy h0 sa pa ka aa oa wa ca ta na mOp mIk mPa mRu v1.2 mTy mSp mFr mRe mCa mOr mLe rS rP rK rA rO rW rC rT rN)) ⟨hx, hb, hml, hown, hts⟩ (c_X8_told l D cy h0 sa pa ka aa oa wa ca ta na mOp mIk mPa mRu mLa mTy mSp mFr mRe mCa mOr mLe rS rP rK rA rO rW rC rT rN 18 v1 hv1) (cwV 1 hts gX8_drawn_X8_told rfl rfl rfl hd_X8_told ⟨Nat.le_of_ble_eq_true rfl, Nat.le_of_ble_eq_true rfl⟩) hK hN hP hD hS hA rfl rfl rfl rfl rfl rfl (by decide) rfl rfl rfl hl.1 rfl (Nat.le_of_ble_eq_true rfl) dX8_drawn_3 ⟨Nat.zero_le _, Nat.zero_le _⟩ (fun H locs hP hD hS => ?_)
  obtain rfl := k_some hf
  exact k_iret hx hb hr hP hD hS dX8_drawn_6 hlocks
def f_X8_fencesOf (n1 : Int32) (mLa : Int32) (rS : Nat → Int32) : Option (Int32 × Int32) :=
  (f_X8_isBox n1).bind fun v1 =>
  if v1 = 0 then
    if (1 : Int32) = 0 then
      (f_X8_has (rS 0) n1).bind fun v4 =>
      some (v4, 1)
    else
      some (0, 1)
  else
    if (0 : Int32) = 0 then
      (f_X8_has (rS 0) n1).bind fun v6 =>
      some (v6, 0)
    else
      some (0, 0)
abbrev rm_X8_fencesOf : Room := { frames := 2, cells := 0, slots := 0, locals := 43 }
theorem hd_X8_fencesOf : yX8_fencesOf.cls = RX8 ∧ yX8_fencesOf.cls ≠ "java/lang/invoke/MethodHandle" ∧ yX8_fencesOf.cls ≠ "java/lang/invoke/VarHandle" ∧ (parseMethodDescriptor yX8_fencesOf.desc).map (fun d => d.parameters.length) = some 1 := by decide +kernel
set_option maxHeartbeats 4000000 in
set_option maxRecDepth 100000 in
theorem c_X8_fencesOf (l : Launch) (D : va_G) (cy : Nat → ClassId) (h0 sa pa ka aa oa wa ca ta na : Nat) (mOp : Int32) (mIk : Int32) (mPa : Int32) (mRu : Int32) (mLa : Int32) (mTy : Int32) (mSp : Int32) (mFr : Int32) (mRe : Int32) (mCa : Int32) (mOr : Int32) (mLe : Int32) (rS : Nat → Int32) (rP : Nat → Int32) (rK : Nat → Int32) (rA : Nat → Int32) (rO : Nat → Int32) (rW : Nat → Int32) (rC : Nat → Int32) (rT : Nat → Int32) (rN : Nat → Int32) (n1 : Int32) (r : Int32 × Int32) (hf : f_X8_fencesOf n1 mLa rS = some r) : k_HMet l yX8_fencesOf wsX8_fencesOf rm_X8_fencesOf D (k_tys cy) [.ref h0, .int n1] (wX8 cy h0 sa pa ka aa oa wa ca ta na mOp mIk mPa mRu mLa mTy mSp mFr mRe mCa mOr mLe rS rP rK rA rO rW rC rT rN) (some (.int r.1)) (wX8 cy h0 sa pa ka aa oa wa ca ta na mOp mIk mPa mRu r.2 mTy mSp mFr mRe mCa mOr mLe rS rP rK rA rO rW rC rT rN) := by
  refine k_heapOf (cc := cX8_fencesOf) (maxL := 2) (ret := (some .int)) (by decide) rfl (Nat.le_of_ble_eq_true rfl) ?_
  intro p e s m args below meth c ls A hx hb hr hlocks hml hown hts hl hA hK hP hD hN
  have hl : lv_has ls 2 [(0, .ref h0), (1, .int n1)] := hl
  have hS : va_S A s.heap s.heap [] := va_S.rf
  have in_X8 : ∀ w ∈ wsX80, w ∈ wsX8_fencesOf := by decide +kernel
  have fl7 := hts (.fieldLink RX8 7 "FencedBoxesModel" "s" "[I") (by decide +kernel)
  have fl37 := hts (.fieldLink RX8 37 "FencedBoxesModel" "last" "I") (by decide +kernel)
  unfold f_X8_fencesOf at hf
  obtain ⟨H, eH⟩ : ∃ H, H = s.heap := ⟨_, rfl⟩
  obtain ⟨locs, elocs⟩ : ∃ L : List Loc, L = [] := ⟨_, rfl⟩
  have hP : va_P D vwCl (wX8 cy h0 sa pa ka aa oa wa ca ta na mOp mIk mPa mRu mLa mTy mSp mFr mRe mCa mOr mLe rS rP rK rA rO rW rC rT rN) H := by rw [eH]; exact hP
  have hS : va_S A s.heap H locs := by rw [eH, elocs]; exact hS
  refine k_here eH elocs ?_
  refine lv_aload_n hx hb dX8_fencesOf_0 rfl (lv_at hl 0 rfl) ?_
  refine lv_iload_n hx hb dX8_fencesOf_1 rfl (lv_at hl 1 rfl) ?_
  obtain ⟨v1, hv1, hf⟩ := k_B hf
  refine k_callS (As := [.int n1]) (rest := [.ref h0]) ⟨hx, hb, hml, hown, hts⟩ (c_X8_isBox l n1 v1 hv1) (va_cwS 1 hts gX8_fencesOf_X8_isBox rfl rfl rfl hd_X8_isBox ⟨Nat.le_of_ble_eq_true rfl, Nat.le_of_ble_eq_true rfl⟩) rfl hl.1 rfl (Nat.le_of_ble_eq_true rfl) dX8_fencesOf_2 ⟨Nat.zero_le _, Nat.zero_le _⟩ ?_
  refine lv_if_eq (tgt := 12) hx hb dX8_fencesOf_5 (by decide) (fun c2 => ?_) (fun c2 => ?_)
  · have hf := k_T c2 hf
    refine lv_iconst (v := 1) hx hb dX8_fencesOf_12 (by decide) ?_
    refine va_put (D := D) (ci := 5) (v := .int 1) (ty := .int) (C := RX8) (T := TX8) (N := 21) hx hb hts in_X8 tyX8 tyX8_ok nmX8 hown hK hP hD hS 0 rfl rfl 11 (by decide) fl37 (fun _ h9 => h9) rfl (by decide +kernel) rfl rfl (Nat.le_of_ble_eq_true rfl) dX8_fencesOf_13 (fun H locs hP hD hS => ?_)
    have hP : va_P D vwCl (wX8 cy h0 sa pa ka aa oa wa ca ta na mOp mIk mPa mRu 1 mTy mSp mFr mRe mCa mOr mLe rS rP rK rA rO rW rC rT rN) H := hP
    have hD : va_D A (wX8 cy h0 sa pa ka aa oa wa ca ta na mOp mIk mPa mRu 1 mTy mSp mFr mRe mCa mOr mLe rS rP rK rA rO rW rC rT rN) := hD
    refine lv_aload_n hx hb dX8_fencesOf_16 rfl (lv_at hl 0 rfl) ?_
    refine va_get (D := D) (ci := 5) (v := .int 1) (C := RX8) (T := TX8) (N := 21) hx hb hts in_X8 hown hK hP 0 rfl rfl 11 (by decide) fl37 (fun _ h9 => h9) rfl dX8_fencesOf_17 ?_
    refine lv_if_ne (tgt := 36) hx hb dX8_fencesOf_20 (by decide) (fun c3 => ?_) (fun c3 => ?_)
    · have hf := k_F c3 hf
      refine lv_iconst (v := 0) hx hb dX8_fencesOf_36 (by decide) ?_
      obtain rfl := k_some hf
      exact k_iret hx hb hr hP hD hS dX8_fencesOf_37 hlocks
    · have hf := k_T c3 hf
      refine lv_aload_n hx hb dX8_fencesOf_23 rfl (lv_at hl 0 rfl) ?_
      refine va_get (D := D) (ci := 5) (v := .ref sa) (C := RX8) (T := TX8) (N := 21) hx hb hts in_X8 hown hK hP 0 rfl rfl 0 (by decide) fl7 (fun _ h9 => h9) rfl dX8_fencesOf_24 ?_
      refine lv_iconst (v := 0) hx hb dX8_fencesOf_27 (by decide) ?_
      refine va_iald hx hb hK hP 1 0 rfl rfl (k_in (i := 0) (n := 19) (by decide +kernel)) dX8_fencesOf_28 ?_
      refine k_name (v := rS 0) rfl ?_
      refine lv_iload_n hx hb dX8_fencesOf_29 rfl (lv_at hl 1 rfl) ?_
      obtain ⟨v4, hv4, hf⟩ := k_B hf
      refine k_callS (As := [.int (rS 0), .int n1]) (rest := []) ⟨hx, hb, hml, hown, hts⟩ (c_X8_has l (rS 0) n1 v4 hv4) (va_cwS 2 hts gX8_fencesOf_X8_has rfl rfl rfl hd_X8_has ⟨Nat.le_of_ble_eq_true rfl, Nat.le_of_ble_eq_true rfl⟩) rfl hl.1 rfl (Nat.le_of_ble_eq_true rfl) dX8_fencesOf_30 ⟨Nat.zero_le _, Nat.zero_le _⟩ ?_
      refine lv_goto (tgt := 37) hx hb dX8_fencesOf_33 (by decide) ?_
      obtain rfl := k_some hf
      exact k_iret hx hb hr hP hD hS dX8_fencesOf_37 hlocks
  · have hf := k_F c2 hf
    refine lv_iconst (v := 0) hx hb dX8_fencesOf_8 (by decide) ?_
    refine lv_goto (tgt := 13) hx hb dX8_fencesOf_9 (by decide) ?_
    refine va_put (D := D) (ci := 5) (v := .int 0) (ty := .int) (C := RX8) (T := TX8) (N := 21) hx hb hts in_X8 tyX8 tyX8_ok nmX8 hown hK hP hD hS 0 rfl rfl 11 (by decide) fl37 (fun _ h9 => h9) rfl (by decide +kernel) rfl rfl (Nat.le_of_ble_eq_true rfl) dX8_fencesOf_13 (fun H locs hP hD hS => ?_)
    have hP : va_P D vwCl (wX8 cy h0 sa pa ka aa oa wa ca ta na mOp mIk mPa mRu 0 mTy mSp mFr mRe mCa mOr mLe rS rP rK rA rO rW rC rT rN) H := hP
    have hD : va_D A (wX8 cy h0 sa pa ka aa oa wa ca ta na mOp mIk mPa mRu 0 mTy mSp mFr mRe mCa mOr mLe rS rP rK rA rO rW rC rT rN) := hD
    refine lv_aload_n hx hb dX8_fencesOf_16 rfl (lv_at hl 0 rfl) ?_
    refine va_get (D := D) (ci := 5) (v := .int 0) (C := RX8) (T := TX8) (N := 21) hx hb hts in_X8 hown hK hP 0 rfl rfl 11 (by decide) fl37 (fun _ h9 => h9) rfl dX8_fencesOf_17 ?_
    refine lv_if_ne (tgt := 36) hx hb dX8_fencesOf_20 (by decide) (fun c5 => ?_) (fun c5 => ?_)
    · have hf := k_F c5 hf
      refine lv_iconst (v := 0) hx hb dX8_fencesOf_36 (by decide) ?_
      obtain rfl := k_some hf
      exact k_iret hx hb hr hP hD hS dX8_fencesOf_37 hlocks
    · have hf := k_T c5 hf
      refine lv_aload_n hx hb dX8_fencesOf_23 rfl (lv_at hl 0 rfl) ?_
      refine va_get (D := D) (ci := 5) (v := .ref sa) (C := RX8) (T := TX8) (N := 21) hx hb hts in_X8 hown hK hP 0 rfl rfl 0 (by decide) fl7 (fun _ h9 => h9) rfl dX8_fencesOf_24 ?_
      refine lv_iconst (v := 0) hx hb dX8_fencesOf_27 (by decide) ?_
      refine va_iald hx hb hK hP 1 0 rfl rfl (k_in (i := 0) (n := 19) (by decide +kernel)) dX8_fencesOf_28 ?_
      refine k_name (v := rS 0) rfl ?_
      refine lv_iload_n hx hb dX8_fencesOf_29 rfl (lv_at hl 1 rfl) ?_
      obtain ⟨v6, hv6, hf⟩ := k_B hf
      refine k_callS (As := [.int (rS 0), .int n1]) (rest := []) ⟨hx, hb, hml, hown, hts⟩ (c_X8_has l (rS 0) n1 v6 hv6) (va_cwS 2 hts gX8_fencesOf_X8_has rfl rfl rfl hd_X8_has ⟨Nat.le_of_ble_eq_true rfl, Nat.le_of_ble_eq_true rfl⟩) rfl hl.1 rfl (Nat.le_of_ble_eq_true rfl) dX8_fencesOf_30 ⟨Nat.zero_le _, Nat.zero_le _⟩ ?_
      refine lv_goto (tgt := 37) hx hb dX8_fencesOf_33 (by decide) ?_
      obtain rfl := k_some hf
      exact k_iret hx hb hr hP hD hS dX8_fencesOf_37 hlocks
def f_X8_ownerOf (n1 : Int32) (mLa : Int32) (rS : Nat → Int32) : Option (Int32 × Int32) :=
  (f_X8_isBox n1).bind fun v1 =>
  if v1 = 0 then
    if (1 : Int32) = 0 then
      if ((1 : Int32) + n1) < 0 ∨ 19 ≤ ((1 : Int32) + n1).toNatClampNeg then none else
      some ((rS ((1 : Int32) + n1).toNatClampNeg) - 1, 1)
    else
      some (0, 1)
  else
    if ((1 : Int32) + n1) < 0 ∨ 19 ≤ ((1 : Int32) + n1).toNatClampNeg then none else
    if (rS ((1 : Int32) + n1).toNatClampNeg) = 0 then
      if (2 : Int32) = 0 then
        if ((1 : Int32) + n1) < 0 ∨ 19 ≤ ((1 : Int32) + n1).toNatClampNeg then none else
        some ((rS ((1 : Int32) + n1).toNatClampNeg) - 1, 2)
      else
        some (0, 2)
    else
      if (0 : Int32) = 0 then
        if ((1 : Int32) + n1) < 0 ∨ 19 ≤ ((1 : Int32) + n1).toNatClampNeg then none else
        some ((rS ((1 : Int32) + n1).toNatClampNeg) - 1, 0)
      else
        some (0, 0)
abbrev rm_X8_ownerOf : Room := { frames := 2, cells := 0, slots := 0, locals := 42 }
theorem hd_X8_ownerOf : yX8_ownerOf.cls = RX8 ∧ yX8_ownerOf.cls ≠ "java/lang/invoke/MethodHandle" ∧ yX8_ownerOf.cls ≠ "java/lang/invoke/VarHandle" ∧ (parseMethodDescriptor yX8_ownerOf.desc).map (fun d => d.parameters.length) = some 1 := by decide +kernel
set_option maxHeartbeats 4000000 in
set_option maxRecDepth 100000 in
theorem c_X8_ownerOf (l : Launch) (D : va_G) (cy : Nat → ClassId) (h0 sa pa ka aa oa wa ca ta na : Nat) (mOp : Int32) (mIk : Int32) (mPa : Int32) (mRu : Int32) (mLa : Int32) (mTy : Int32) (mSp : Int32) (mFr : Int32) (mRe : Int32) (mCa : Int32) (mOr : Int32) (mLe : Int32) (rS : Nat → Int32) (rP : Nat → Int32) (rK : Nat → Int32) (rA : Nat → Int32) (rO : Nat → Int32) (rW : Nat → Int32) (rC : Nat → Int32) (rT : Nat → Int32) (rN : Nat → Int32) (n1 : Int32) (r : Int32 × Int32) (hf : f_X8_ownerOf n1 mLa rS = some r) : k_HMet l yX8_ownerOf wsX8_ownerOf rm_X8_ownerOf D (k_tys cy) [.ref h0, .int n1] (wX8 cy h0 sa pa ka aa oa wa ca ta na mOp mIk mPa mRu mLa mTy mSp mFr mRe mCa mOr mLe rS rP rK rA rO rW rC rT rN) (some (.int r.1)) (wX8 cy h0 sa pa ka aa oa wa ca ta na mOp mIk mPa mRu r.2 mTy mSp mFr mRe mCa mOr mLe rS rP rK rA rO rW rC rT rN) := by
  refine k_heapOf (cc := cX8_ownerOf) (maxL := 2) (ret := (some .int)) (by decide) rfl (Nat.le_of_ble_eq_true rfl) ?_
  intro p e s m args below meth c ls A hx hb hr hlocks hml hown hts hl hA hK hP hD hN
  have hl : lv_has ls 2 [(0, .ref h0), (1, .int n1)] := hl
  have hS : va_S A s.heap s.heap [] := va_S.rf
  have in_X8 : ∀ w ∈ wsX80, w ∈ wsX8_ownerOf := by decide +kernel
  have fl7 := hts (.fieldLink RX8 7 "FencedBoxesModel" "s" "[I") (by decide +kernel)
  have fl37 := hts (.fieldLink RX8 37 "FencedBoxesModel" "last" "I") (by decide +kernel)
  unfold f_X8_ownerOf at hf
  obtain ⟨H, eH⟩ : ∃ H, H = s.heap := ⟨_, rfl⟩
  obtain ⟨locs, elocs⟩ : ∃ L : List Loc, L = [] := ⟨_, rfl⟩
  have hP : va_P D vwCl (wX8 cy h0 sa pa ka aa oa wa ca ta na mOp mIk mPa mRu mLa mTy mSp mFr mRe mCa mOr mLe rS rP rK rA rO rW rC rT rN) H := by rw [eH]; exact hP
  have hS : va_S A s.heap H locs := by rw [eH, elocs]; exact hS
  refine k_here eH elocs ?_
  refine lv_aload_n hx hb dX8_ownerOf_0 rfl (lv_at hl 0 rfl) ?_
  refine lv_iload_n hx hb dX8_ownerOf_1 rfl (lv_at hl 1 rfl) ?_
  obtain ⟨v1, hv1, hf⟩ := k_B hf
  refine k_callS (As := [.int n1]) (rest := [.ref h0]) ⟨hx, hb, hml, hown, hts⟩ (c_X8_isBox l n1 v1 hv1) (va_cwS 1 hts gX8_ownerOf_X8_isBox rfl rfl rfl hd_X8_isBox ⟨Nat.le_of_ble_eq_true rfl, Nat.le_of_ble_eq_true rfl⟩) rfl hl.1 rfl (Nat.le_of_ble_eq_true rfl) dX8_ownerOf_2 ⟨Nat.zero_le _, Nat.zero_le _⟩ ?_
  refine lv_if_ne (tgt := 12) hx hb dX8_ownerOf_5 (by decide) (fun c2 => ?_) (fun c2 => ?_)
  · have hf := k_F c2 hf
    refine lv_aload_n hx hb dX8_ownerOf_12 rfl (lv_at hl 0 rfl) ?_
    refine va_get (D := D) (ci := 5) (v := .ref sa) (C := RX8) (T := TX8) (N := 21) hx hb hts in_X8 hown hK hP 0 rfl rfl 0 (by decide) fl7 (fun _ h9 => h9) rfl dX8_ownerOf_13 ?_
    refine lv_iconst (v := 1) hx hb dX8_ownerOf_16 (by decide) ?_
    refine lv_iload_n hx hb dX8_ownerOf_17 rfl (lv_at hl 1 rfl) ?_
    refine lv_iadd hx hb dX8_ownerOf_18 ?_
    obtain ⟨g3, hf⟩ := k_G hf
    refine va_iald hx hb hK hP 1 0 rfl rfl g3 dX8_ownerOf_19 ?_
    refine lv_if_ne (tgt := 27) hx hb dX8_ownerOf_20 (by decide) (fun c4 => ?_) (fun c4 => ?_)
    · have hf := k_F c4 hf
      refine lv_iconst (v := 0) hx hb dX8_ownerOf_27 (by decide) ?_
      refine va_put (D := D) (ci := 5) (v := .int 0) (ty := .int) (C := RX8) (T := TX8) (N := 21) hx hb hts in_X8 tyX8 tyX8_ok nmX8 hown hK hP hD hS 0 rfl rfl 11 (by decide) fl37 (fun _ h9 => h9) rfl (by decide +kernel) rfl rfl (Nat.le_of_ble_eq_true rfl) dX8_ownerOf_28 (fun H locs hP hD hS => ?_)
      have hP : va_P D vwCl (wX8 cy h0 sa pa ka aa oa wa ca ta na mOp mIk mPa mRu 0 mTy mSp mFr mRe mCa mOr mLe rS rP rK rA rO rW rC rT rN) H := hP
      have hD : va_D A (wX8 cy h0 sa pa ka aa oa wa ca ta na mOp mIk mPa mRu 0 mTy mSp mFr mRe mCa mOr mLe rS rP rK rA rO rW rC rT rN) := hD
      refine lv_aload_n hx hb dX8_ownerOf_31 rfl (lv_at hl 0 rfl) ?_
      refine va_get (D := D) (ci := 5) (v := .int 0) (C := RX8) (T := TX8) (N := 21) hx hb hts in_X8 hown hK hP 0 rfl rfl 11 (by decide) fl37 (fun _ h9 => h9) rfl dX8_ownerOf_32 ?_
      refine lv_if_ne (tgt := 51) hx hb dX8_ownerOf_35 (by decide) (fun c5 => ?_) (fun c5 => ?_)
      · have hf := k_F c5 hf
        refine lv_iconst (v := 0) hx hb dX8_ownerOf_51 (by decide) ?_
        obtain rfl := k_some hf
        exact k_iret hx hb hr hP hD hS dX8_ownerOf_52 hlocks
      · have hf := k_T c5 hf
        refine lv_aload_n hx hb dX8_ownerOf_38 rfl (lv_at hl 0 rfl) ?_
        refine va_get (D := D) (ci := 5) (v := .ref sa) (C := RX8) (T := TX8) (N := 21) hx hb hts in_X8 hown hK hP 0 rfl rfl 0 (by decide) fl7 (fun _ h9 => h9) rfl dX8_ownerOf_39 ?_
        refine lv_iconst (v := 1) hx hb dX8_ownerOf_42 (by decide) ?_
        refine lv_iload_n hx hb dX8_ownerOf_43 rfl (lv_at hl 1 rfl) ?_
        refine lv_iadd hx hb dX8_ownerOf_44 ?_
        obtain ⟨g6, hf⟩ := k_G hf
        refine va_iald hx hb hK hP 1 0 rfl rfl g6 dX8_ownerOf_45 ?_
        refine lv_iconst (v := 1) hx hb dX8_ownerOf_46 (by decide) ?_
        refine lv_isub hx hb dX8_ownerOf_47 ?_
        refine lv_goto (tgt := 52) hx hb dX8_ownerOf_48 (by decide) ?_
        obtain rfl := k_some hf
        exact k_iret hx hb hr hP hD hS dX8_ownerOf_52 hlocks
    · have hf := k_T c4 hf
      refine lv_iconst (v := 2) hx hb dX8_ownerOf_23 (by decide) ?_
      refine lv_goto (tgt := 28) hx hb dX8_ownerOf_24 (by decide) ?_
      refine va_put (D := D) (ci := 5) (v := .int 2) (ty := .int) (C := RX8) (T := TX8) (N := 21) hx hb hts in_X8 tyX8 tyX8_ok nmX8 hown hK hP hD hS 0 rfl rfl 11 (by decide) fl37 (fun _ h9 => h9) rfl (by decide +kernel) rfl rfl (Nat.le_of_ble_eq_true rfl) dX8_ownerOf_28 (fun H locs hP hD hS => ?_)
      have hP : va_P D vwCl (wX8 cy h0 sa pa ka aa oa wa ca ta na mOp mIk mPa mRu 2 mTy mSp mFr mRe mCa mOr mLe rS rP rK rA rO rW rC rT rN) H := hP
      have hD : va_D A (wX8 cy h0 sa pa ka aa oa wa ca ta na mOp mIk mPa mRu 2 mTy mSp mFr mRe mCa mOr mLe rS rP rK rA rO rW rC rT rN) := hD
      refine lv_aload_n hx hb dX8_ownerOf_31 rfl (lv_at hl 0 rfl) ?_
      refine va_get (D := D) (ci := 5) (v := .int 2) (C := RX8) (T := TX8) (N := 21) hx hb hts in_X8 hown hK hP 0 rfl rfl 11 (by decide) fl37 (fun _ h9 => h9) rfl dX8_ownerOf_32 ?_
      refine lv_if_ne (tgt := 51) hx hb dX8_ownerOf_35 (by decide) (fun c7 => ?_) (fun c7 => ?_)
      · have hf := k_F c7 hf
        refine lv_iconst (v := 0) hx hb dX8_ownerOf_51 (by decide) ?_
        obtain rfl := k_some hf
        exact k_iret hx hb hr hP hD hS dX8_ownerOf_52 hlocks
      · have hf := k_T c7 hf
        refine lv_aload_n hx hb dX8_ownerOf_38 rfl (lv_at hl 0 rfl) ?_
        refine va_get (D := D) (ci := 5) (v := .ref sa) (C := RX8) (T := TX8) (N := 21) hx hb hts in_X8 hown hK hP 0 rfl rfl 0 (by decide) fl7 (fun _ h9 => h9) rfl dX8_ownerOf_39 ?_
        refine lv_iconst (v := 1) hx hb dX8_ownerOf_42 (by decide) ?_
        refine lv_iload_n hx hb dX8_ownerOf_43 rfl (lv_at hl 1 rfl) ?_
        refine lv_iadd hx hb dX8_ownerOf_44 ?_
        obtain ⟨g8, hf⟩ := k_G hf
        refine va_iald hx hb hK hP 1 0 rfl rfl g8 dX8_ownerOf_45 ?_
        refine lv_iconst (v := 1) hx hb dX8_ownerOf_46 (by decide) ?_
        refine lv_isub hx hb dX8_ownerOf_47 ?_
        refine lv_goto (tgt := 52) hx hb dX8_ownerOf_48 (by decide) ?_
        obtain rfl := k_some hf
        exact k_iret hx hb hr hP hD hS dX8_ownerOf_52 hlocks
  · have hf := k_T c2 hf
    refine lv_iconst (v := 1) hx hb dX8_ownerOf_8 (by decide) ?_
    refine lv_goto (tgt := 28) hx hb dX8_ownerOf_9 (by decide) ?_
    refine va_put (D := D) (ci := 5) (v := .int 1) (ty := .int) (C := RX8) (T := TX8) (N := 21) hx hb hts in_X8 tyX8 tyX8_ok nmX8 hown hK hP hD hS 0 rfl rfl 11 (by decide) fl37 (fun _ h9 => h9) rfl (by decide +kernel) rfl rfl (Nat.le_of_ble_eq_true rfl) dX8_ownerOf_28 (fun H locs hP hD hS => ?_)
    have hP : va_P D vwCl (wX8 cy h0 sa pa ka aa oa wa ca ta na mOp mIk mPa mRu 1 mTy mSp mFr mRe mCa mOr mLe rS rP rK rA rO rW rC rT rN) H := hP
    have hD : va_D A (wX8 cy h0 sa pa ka aa oa wa ca ta na mOp mIk mPa mRu 1 mTy mSp mFr mRe mCa mOr mLe rS rP rK rA rO rW rC rT rN) := hD
    refine lv_aload_n hx hb dX8_ownerOf_31 rfl (lv_at hl 0 rfl) ?_
    refine va_get (D := D) (ci := 5) (v := .int 1) (C := RX8) (T := TX8) (N := 21) hx hb hts in_X8 hown hK hP 0 rfl rfl 11 (by decide) fl37 (fun _ h9 => h9) rfl dX8_ownerOf_32 ?_
    refine lv_if_ne (tgt := 51) hx hb dX8_ownerOf_35 (by decide) (fun c9 => ?_) (fun c9 => ?_)
    · have hf := k_F c9 hf
      refine lv_iconst (v := 0) hx hb dX8_ownerOf_51 (by decide) ?_
      obtain rfl := k_some hf
      exact k_iret hx hb hr hP hD hS dX8_ownerOf_52 hlocks
    · have hf := k_T c9 hf
      refine lv_aload_n hx hb dX8_ownerOf_38 rfl (lv_at hl 0 rfl) ?_
      refine va_get (D := D) (ci := 5) (v := .ref sa) (C := RX8) (T := TX8) (N := 21) hx hb hts in_X8 hown hK hP 0 rfl rfl 0 (by decide) fl7 (fun _ h9 => h9) rfl dX8_ownerOf_39 ?_
      refine lv_iconst (v := 1) hx hb dX8_ownerOf_42 (by decide) ?_
      refine lv_iload_n hx hb dX8_ownerOf_43 rfl (lv_at hl 1 rfl) ?_
      refine lv_iadd hx hb dX8_ownerOf_44 ?_
      obtain ⟨g10, hf⟩ := k_G hf
      refine va_iald hx hb hK hP 1 0 rfl rfl g10 dX8_ownerOf_45 ?_
      refine lv_iconst (v := 1) hx hb dX8_ownerOf_46 (by decide) ?_
      refine lv_isub hx hb dX8_ownerOf_47 ?_
      refine lv_goto (tgt := 52) hx hb dX8_ownerOf_48 (by decide) ?_
      obtain rfl := k_some hf
      exact k_iret hx hb hr hP hD hS dX8_ownerOf_52 hlocks
def f_X8_boxesOf (n1 : Int32) (mLa : Int32) (rS : Nat → Int32) : Option (Int32 × Int32) :=
  (f_X8_in n1 0 1).bind fun v1 =>
  if v1 = 0 then
    if (1 : Int32) = 0 then
      (f_X8_boxes n1 rS).bind fun v4 =>
      some (v4, 1)
    else
      some (0, 1)
  else
    if (0 : Int32) = 0 then
      (f_X8_boxes n1 rS).bind fun v6 =>
      some (v6, 0)
    else
      some (0, 0)
abbrev rm_X8_boxesOf : Room := { frames := 1, cells := 0, slots := 0, locals := 23 }
theorem hd_X8_boxesOf : yX8_boxesOf.cls = RX8 ∧ yX8_boxesOf.cls ≠ "java/lang/invoke/MethodHandle" ∧ yX8_boxesOf.cls ≠ "java/lang/invoke/VarHandle" ∧ (parseMethodDescriptor yX8_boxesOf.desc).map (fun d => d.parameters.length) = some 1 := by decide +kernel
set_option maxHeartbeats 4000000 in
set_option maxRecDepth 100000 in
theorem c_X8_boxesOf (l : Launch) (D : va_G) (cy : Nat → ClassId) (h0 sa pa ka aa oa wa ca ta na : Nat) (mOp : Int32) (mIk : Int32) (mPa : Int32) (mRu : Int32) (mLa : Int32) (mTy : Int32) (mSp : Int32) (mFr : Int32) (mRe : Int32) (mCa : Int32) (mOr : Int32) (mLe : Int32) (rS : Nat → Int32) (rP : Nat → Int32) (rK : Nat → Int32) (rA : Nat → Int32) (rO : Nat → Int32) (rW : Nat → Int32) (rC : Nat → Int32) (rT : Nat → Int32) (rN : Nat → Int32) (n1 : Int32) (r : Int32 × Int32) (hf : f_X8_boxesOf n1 mLa rS = some r) : k_HMet l yX8_boxesOf wsX8_boxesOf rm_X8_boxesOf D (k_tys cy) [.ref h0, .int n1] (wX8 cy h0 sa pa ka aa oa wa ca ta na mOp mIk mPa mRu mLa mTy mSp mFr mRe mCa mOr mLe rS rP rK rA rO rW rC rT rN) (some (.int r.1)) (wX8 cy h0 sa pa ka aa oa wa ca ta na mOp mIk mPa mRu r.2 mTy mSp mFr mRe mCa mOr mLe rS rP rK rA rO rW rC rT rN) := by
  refine k_heapOf (cc := cX8_boxesOf) (maxL := 2) (ret := (some .int)) (by decide) rfl (Nat.le_of_ble_eq_true rfl) ?_
  intro p e s m args below meth c ls A hx hb hr hlocks hml hown hts hl hA hK hP hD hN
  have hl : lv_has ls 2 [(0, .ref h0), (1, .int n1)] := hl
  have hS : va_S A s.heap s.heap [] := va_S.rf
  have in_X8 : ∀ w ∈ wsX80, w ∈ wsX8_boxesOf := by decide +kernel
  have fl37 := hts (.fieldLink RX8 37 "FencedBoxesModel" "last" "I") (by decide +kernel)
  unfold f_X8_boxesOf at hf
  obtain ⟨H, eH⟩ : ∃ H, H = s.heap := ⟨_, rfl⟩
  obtain ⟨locs, elocs⟩ : ∃ L : List Loc, L = [] := ⟨_, rfl⟩
  have hP : va_P D vwCl (wX8 cy h0 sa pa ka aa oa wa ca ta na mOp mIk mPa mRu mLa mTy mSp mFr mRe mCa mOr mLe rS rP rK rA rO rW rC rT rN) H := by rw [eH]; exact hP
  have hS : va_S A s.heap H locs := by rw [eH, elocs]; exact hS
  refine k_here eH elocs ?_
  refine lv_aload_n hx hb dX8_boxesOf_0 rfl (lv_at hl 0 rfl) ?_
  refine lv_iload_n hx hb dX8_boxesOf_1 rfl (lv_at hl 1 rfl) ?_
  refine lv_iconst (v := 0) hx hb dX8_boxesOf_2 (by decide) ?_
  refine lv_iconst (v := 1) hx hb dX8_boxesOf_3 (by decide) ?_
  obtain ⟨v1, hv1, hf⟩ := k_B hf
  refine k_callS (As := [.int n1, .int 0, .int 1]) (rest := [.ref h0]) ⟨hx, hb, hml, hown, hts⟩ (c_X8_in l n1 0 1 v1 hv1) (va_cwS 3 hts gX8_boxesOf_X8_in rfl rfl rfl hd_X8_in ⟨Nat.le_of_ble_eq_true rfl, Nat.le_of_ble_eq_true rfl⟩) rfl hl.1 rfl (Nat.le_of_ble_eq_true rfl) dX8_boxesOf_4 ⟨Nat.zero_le _, Nat.zero_le _⟩ ?_
  refine lv_if_eq (tgt := 14) hx hb dX8_boxesOf_7 (by decide) (fun c2 => ?_) (fun c2 => ?_)
  · have hf := k_T c2 hf
    refine lv_iconst (v := 1) hx hb dX8_boxesOf_14 (by decide) ?_
    refine va_put (D := D) (ci := 5) (v := .int 1) (ty := .int) (C := RX8) (T := TX8) (N := 21) hx hb hts in_X8 tyX8 tyX8_ok nmX8 hown hK hP hD hS 0 rfl rfl 11 (by decide) fl37 (fun _ h9 => h9) rfl (by decide +kernel) rfl rfl (Nat.le_of_ble_eq_true rfl) dX8_boxesOf_15 (fun H locs hP hD hS => ?_)
    have hP : va_P D vwCl (wX8 cy h0 sa pa ka aa oa wa ca ta na mOp mIk mPa mRu 1 mTy mSp mFr mRe mCa mOr mLe rS rP rK rA rO rW rC rT rN) H := hP
    have hD : va_D A (wX8 cy h0 sa pa ka aa oa wa ca ta na mOp mIk mPa mRu 1 mTy mSp mFr mRe mCa mOr mLe rS rP rK rA rO rW rC rT rN) := hD
    refine lv_aload_n hx hb dX8_boxesOf_18 rfl (lv_at hl 0 rfl) ?_
    refine va_get (D := D) (ci := 5) (v := .int 1) (C := RX8) (T := TX8) (N := 21) hx hb hts in_X8 hown hK hP 0 rfl rfl 11 (by decide) fl37 (fun _ h9 => h9) rfl dX8_boxesOf_19 ?_
    refine lv_if_ne (tgt := 33) hx hb dX8_boxesOf_22 (by decide) (fun c3 => ?_) (fun c3 => ?_)
    · have hf := k_F c3 hf
      refine lv_iconst (v := 0) hx hb dX8_boxesOf_33 (by decide) ?_
      obtain rfl := k_some hf
      exact k_iret hx hb hr hP hD hS dX8_boxesOf_34 hlocks
    · have hf := k_T c3 hf
      refine lv_aload_n hx hb dX8_boxesOf_25 rfl (lv_at hl 0 rfl) ?_
      refine lv_iload_n hx hb dX8_boxesOf_26 rfl (lv_at hl 1 rfl) ?_
      obtain ⟨v4, hv4, hf⟩ := k_B hf
      refine k_callHV (As := [.int n1]) (rest := []) (r := (RX8, TX8, 21)) (ci := 5) (q0 := 0) (isC := [0, 1, 2, 3, 4, 5, 6, 7, 8, 9]) (isR := []) (perm := [0, 1, 2, 3, 4, 5, 6, 7, 8, 9]) (w' := (wX8 cy h0 sa pa ka aa oa wa ca ta na mOp mIk mPa mRu 1 mTy mSp mFr mRe mCa mOr mLe rS rP rK rA rO rW rC rT rN)) ⟨hx, hb, hml, hown, hts⟩ (c_X8_boxes l D cy h0 sa pa ka aa oa wa ca ta na mOp mIk mPa mRu 1 mTy mSp mFr mRe mCa mOr mLe rS rP rK rA rO rW rC rT rN n1 v4 hv4) (cwV 1 hts gX8_boxesOf_X8_boxes rfl rfl rfl hd_X8_boxes ⟨Nat.le_of_ble_eq_true rfl, Nat.le_of_ble_eq_true rfl⟩) hK hN hP hD hS hA rfl rfl rfl rfl rfl rfl (by decide) rfl rfl rfl hl.1 rfl (Nat.le_of_ble_eq_true rfl) dX8_boxesOf_27 ⟨Nat.zero_le _, Nat.zero_le _⟩ (fun H locs hP hD hS => ?_)
      refine lv_goto (tgt := 34) hx hb dX8_boxesOf_30 (by decide) ?_
      obtain rfl := k_some hf
      exact k_iret hx hb hr hP hD hS dX8_boxesOf_34 hlocks
  · have hf := k_F c2 hf
    refine lv_iconst (v := 0) hx hb dX8_boxesOf_10 (by decide) ?_
    refine lv_goto (tgt := 15) hx hb dX8_boxesOf_11 (by decide) ?_
    refine va_put (D := D) (ci := 5) (v := .int 0) (ty := .int) (C := RX8) (T := TX8) (N := 21) hx hb hts in_X8 tyX8 tyX8_ok nmX8 hown hK hP hD hS 0 rfl rfl 11 (by decide) fl37 (fun _ h9 => h9) rfl (by decide +kernel) rfl rfl (Nat.le_of_ble_eq_true rfl) dX8_boxesOf_15 (fun H locs hP hD hS => ?_)
    have hP : va_P D vwCl (wX8 cy h0 sa pa ka aa oa wa ca ta na mOp mIk mPa mRu 0 mTy mSp mFr mRe mCa mOr mLe rS rP rK rA rO rW rC rT rN) H := hP
    have hD : va_D A (wX8 cy h0 sa pa ka aa oa wa ca ta na mOp mIk mPa mRu 0 mTy mSp mFr mRe mCa mOr mLe rS rP rK rA rO rW rC rT rN) := hD
    refine lv_aload_n hx hb dX8_boxesOf_18 rfl (lv_at hl 0 rfl) ?_
    refine va_get (D := D) (ci := 5) (v := .int 0) (C := RX8) (T := TX8) (N := 21) hx hb hts in_X8 hown hK hP 0 rfl rfl 11 (by decide) fl37 (fun _ h9 => h9) rfl dX8_boxesOf_19 ?_
    refine lv_if_ne (tgt := 33) hx hb dX8_boxesOf_22 (by decide) (fun c5 => ?_) (fun c5 => ?_)
    · have hf := k_F c5 hf
      refine lv_iconst (v := 0) hx hb dX8_boxesOf_33 (by decide) ?_
      obtain rfl := k_some hf
      exact k_iret hx hb hr hP hD hS dX8_boxesOf_34 hlocks
    · have hf := k_T c5 hf
      refine lv_aload_n hx hb dX8_boxesOf_25 rfl (lv_at hl 0 rfl) ?_
      refine lv_iload_n hx hb dX8_boxesOf_26 rfl (lv_at hl 1 rfl) ?_
      obtain ⟨v6, hv6, hf⟩ := k_B hf
      refine k_callHV (As := [.int n1]) (rest := []) (r := (RX8, TX8, 21)) (ci := 5) (q0 := 0) (isC := [0, 1, 2, 3, 4, 5, 6, 7, 8, 9]) (isR := []) (perm := [0, 1, 2, 3, 4, 5, 6, 7, 8, 9]) (w' := (wX8 cy h0 sa pa ka aa oa wa ca ta na mOp mIk mPa mRu 0 mTy mSp mFr mRe mCa mOr mLe rS rP rK rA rO rW rC rT rN)) ⟨hx, hb, hml, hown, hts⟩ (c_X8_boxes l D cy h0 sa pa ka aa oa wa ca ta na mOp mIk mPa mRu 0 mTy mSp mFr mRe mCa mOr mLe rS rP rK rA rO rW rC rT rN n1 v6 hv6) (cwV 1 hts gX8_boxesOf_X8_boxes rfl rfl rfl hd_X8_boxes ⟨Nat.le_of_ble_eq_true rfl, Nat.le_of_ble_eq_true rfl⟩) hK hN hP hD hS hA rfl rfl rfl rfl rfl rfl (by decide) rfl rfl rfl hl.1 rfl (Nat.le_of_ble_eq_true rfl) dX8_boxesOf_27 ⟨Nat.zero_le _, Nat.zero_le _⟩ (fun H locs hP hD hS => ?_)
      refine lv_goto (tgt := 34) hx hb dX8_boxesOf_30 (by decide) ?_
      obtain rfl := k_some hf
      exact k_iret hx hb hr hP hD hS dX8_boxesOf_34 hlocks
def t_X8_boxesWith_22 (b1 : Int32) (mLa : Int32) (rS : Nat → Int32) (s22 : Int32 × Int32) : Option ((Int32 × Int32) ⊕ (Int32 × Int32)) :=
  if 12 ≤ s22.2 then
    some (.inr (s22.1, s22.2))
  else
    if mLa = 0 then
      (f_X8_has (rS 0) s22.2).bind fun v5 =>
      if v5 = b1 then
        k_let (s22.1 + 1) fun y8 =>
        some (.inl (y8, s22.2 + 1))
      else
        k_let (s22.1 + 0) fun y7 =>
        some (.inl (y7, s22.2 + 1))
    else
      some (.inr (s22.1, s22.2))
def f_X8_boxesWith (n1 : Int32) (mLa : Int32) (rS : Nat → Int32) : Option (Int32 × Int32) :=
  (f_X8_in n1 0 4).bind fun v1 =>
  if v1 = 0 then
    (k_loop (t_X8_boxesWith_22 n1 1 rS) 1000 (0, 0)).bind fun x9 =>
    some (x9.1, 1)
  else
    (k_loop (t_X8_boxesWith_22 n1 0 rS) 1000 (0, 0)).bind fun x10 =>
    some (x10.1, 0)
abbrev rm_X8_boxesWith : Room := { frames := 2, cells := 0, slots := 0, locals := 43 }
theorem hd_X8_boxesWith : yX8_boxesWith.cls = RX8 ∧ yX8_boxesWith.cls ≠ "java/lang/invoke/MethodHandle" ∧ yX8_boxesWith.cls ≠ "java/lang/invoke/VarHandle" ∧ (parseMethodDescriptor yX8_boxesWith.desc).map (fun d => d.parameters.length) = some 1 := by decide +kernel
set_option maxHeartbeats 4000000 in
set_option maxRecDepth 100000 in
theorem c_X8_boxesWith (l : Launch) (D : va_G) (cy : Nat → ClassId) (h0 sa pa ka aa oa wa ca ta na : Nat) (mOp : Int32) (mIk : Int32) (mPa : Int32) (mRu : Int32) (mLa : Int32) (mTy : Int32) (mSp : Int32) (mFr : Int32) (mRe : Int32) (mCa : Int32) (mOr : Int32) (mLe : Int32) (rS : Nat → Int32) (rP : Nat → Int32) (rK : Nat → Int32) (rA : Nat → Int32) (rO : Nat → Int32) (rW : Nat → Int32) (rC : Nat → Int32) (rT : Nat → Int32) (rN : Nat → Int32) (n1 : Int32) (r : Int32 × Int32) (hf : f_X8_boxesWith n1 mLa rS = some r) : k_HMet l yX8_boxesWith wsX8_boxesWith rm_X8_boxesWith D (k_tys cy) [.ref h0, .int n1] (wX8 cy h0 sa pa ka aa oa wa ca ta na mOp mIk mPa mRu mLa mTy mSp mFr mRe mCa mOr mLe rS rP rK rA rO rW rC rT rN) (some (.int r.1)) (wX8 cy h0 sa pa ka aa oa wa ca ta na mOp mIk mPa mRu r.2 mTy mSp mFr mRe mCa mOr mLe rS rP rK rA rO rW rC rT rN) := by
  refine k_heapOf (cc := cX8_boxesWith) (maxL := 4) (ret := (some .int)) (by decide) rfl (Nat.le_of_ble_eq_true rfl) ?_
  intro p e s m args below meth c ls A hx hb hr hlocks hml hown hts hl hA hK hP hD hN
  have hl : lv_has ls 4 [(0, .ref h0), (1, .int n1)] := hl
  have hS : va_S A s.heap s.heap [] := va_S.rf
  have in_X8 : ∀ w ∈ wsX80, w ∈ wsX8_boxesWith := by decide +kernel
  have fl7 := hts (.fieldLink RX8 7 "FencedBoxesModel" "s" "[I") (by decide +kernel)
  have fl37 := hts (.fieldLink RX8 37 "FencedBoxesModel" "last" "I") (by decide +kernel)
  have L22 : ∀ (Q : State → Prop) (n : Nat) (b1 : Int32) (mOp : Int32) (mIk : Int32) (mPa : Int32) (mRu : Int32) (mLa : Int32) (mTy : Int32) (mSp : Int32) (mFr : Int32) (mRe : Int32) (mCa : Int32) (mOr : Int32) (mLe : Int32) (rS : Nat → Int32) (rP : Nat → Int32) (rK : Nat → Int32) (rA : Nat → Int32) (rO : Nat → Int32) (rW : Nat → Int32) (rC : Nat → Int32) (rT : Nat → Int32) (rN : Nat → Int32) (s22 : Int32 × Int32) (q : (Int32 × Int32)), k_loop (t_X8_boxesWith_22 b1 mLa rS) n s22 = some q → ∀ (ls : Array Slot) (H : Heap) (locs : List Loc), lv_has ls 4 [(0, .ref h0), (1, .int b1), (2, .int s22.1), (3, .int s22.2)] → va_P D vwCl (wX8 cy h0 sa pa ka aa oa wa ca ta na mOp mIk mPa mRu mLa mTy mSp mFr mRe mCa mOr mLe rS rP rK rA rO rW rC rT rN) H → va_D A (wX8 cy h0 sa pa ka aa oa wa ca ta na mOp mIk mPa mRu mLa mTy mSp mFr mRe mCa mOr mLe rS rP rK rA rO rW rC rT rN) → va_S A s.heap H locs → (∀ (ls : Array Slot) (H : Heap) (locs : List Loc), True → lv_has ls 4 [(2, .int q.1)] → va_P D vwCl (wX8 cy h0 sa pa ka aa oa wa ca ta na mOp mIk mPa mRu mLa mTy mSp mFr mRe mCa mOr mLe rS rP rK rA rO rW rC rT rN) H → va_D A (wX8 cy h0 sa pa ka aa oa wa ca ta na mOp mIk mPa mRu mLa mTy mSp mFr mRe mCa mOr mLe rS rP rK rA rO rW rC rT rN) → va_S A s.heap H locs → W p l e rm_X8_boxesWith s m args below meth c H locs 0 0 Q (F0 m 63 ls [])) → W p l e rm_X8_boxesWith s m args below meth c H locs 0 0 Q (F0 m 22 ls []) := by
    intro Q n
    induction n with
    | zero =>
      intro b1 mOp mIk mPa mRu mLa mTy mSp mFr mRe mCa mOr mLe rS rP rK rA rO rW rC rT rN s22 q hq
      exact (k_loop0 hq).elim
    | succ n ih =>
      intro b1 mOp mIk mPa mRu mLa mTy mSp mFr mRe mCa mOr mLe rS rP rK rA rO rW rC rT rN s22 q hq ls H locs hl hP hD hS kx 
      obtain ⟨x, hf, hq⟩ := k_loopE hq
      unfold t_X8_boxesWith_22 at hf
      refine lv_iload_n hx hb dX8_boxesWith_22 rfl (lv_at hl 3 rfl) ?_
      refine lv_bipush (v := 12) hx hb dX8_boxesWith_23 (by decide) ?_
      refine lv_icmp_ge (tgt := 63) hx hb dX8_boxesWith_25 (by decide) (fun c3 => ?_) (fun c3 => ?_)
      · have hf := k_T c3 hf
        obtain rfl := k_some hf
        obtain rfl := k_some (k_inr hq)
        exact kx ls H locs trivial (lv_sub hl [2] rfl) hP hD hS
      · have hf := k_F c3 hf
        refine lv_aload_n hx hb dX8_boxesWith_28 rfl (lv_at hl 0 rfl) ?_
        refine va_get (D := D) (ci := 5) (v := .int mLa) (C := RX8) (T := TX8) (N := 21) hx hb hts in_X8 hown hK hP 0 rfl rfl 11 (by decide) fl37 (fun _ h9 => h9) rfl dX8_boxesWith_29 ?_
        refine lv_if_ne (tgt := 63) hx hb dX8_boxesWith_32 (by decide) (fun c4 => ?_) (fun c4 => ?_)
        · have hf := k_F c4 hf
          obtain rfl := k_some hf
          obtain rfl := k_some (k_inr hq)
          exact kx ls H locs trivial (lv_sub hl [2] rfl) hP hD hS
        · have hf := k_T c4 hf
          refine lv_iload_n hx hb dX8_boxesWith_35 rfl (lv_at hl 2 rfl) ?_
          refine lv_aload_n hx hb dX8_boxesWith_36 rfl (lv_at hl 0 rfl) ?_
          refine va_get (D := D) (ci := 5) (v := .ref sa) (C := RX8) (T := TX8) (N := 21) hx hb hts in_X8 hown hK hP 0 rfl rfl 0 (by decide) fl7 (fun _ h9 => h9) rfl dX8_boxesWith_37 ?_
          refine lv_iconst (v := 0) hx hb dX8_boxesWith_40 (by decide) ?_
          refine va_iald hx hb hK hP 1 0 rfl rfl (k_in (i := 0) (n := 19) (by decide +kernel)) dX8_boxesWith_41 ?_
          refine k_name (v := rS 0) rfl ?_
          refine lv_iload_n hx hb dX8_boxesWith_42 rfl (lv_at hl 3 rfl) ?_
          obtain ⟨v5, hv5, hf⟩ := k_B hf
          refine k_callS (As := [.int (rS 0), .int s22.2]) (rest := [.int s22.1]) ⟨hx, hb, hml, hown, hts⟩ (c_X8_has l (rS 0) s22.2 v5 hv5) (va_cwS 2 hts gX8_boxesWith_X8_has rfl rfl rfl hd_X8_has ⟨Nat.le_of_ble_eq_true rfl, Nat.le_of_ble_eq_true rfl⟩) rfl hl.1 rfl (Nat.le_of_ble_eq_true rfl) dX8_boxesWith_43 ⟨Nat.zero_le _, Nat.zero_le _⟩ ?_
          refine lv_iload_n hx hb dX8_boxesWith_46 rfl (lv_at hl 1 rfl) ?_
          refine lv_icmp_ne (tgt := 54) hx hb dX8_boxesWith_47 (by decide) (fun c6 => ?_) (fun c6 => ?_)
          · have hf := k_F c6 hf
            refine lv_iconst (v := 0) hx hb dX8_boxesWith_54 (by decide) ?_
            refine lv_iadd hx hb dX8_boxesWith_55 ?_
            obtain ⟨y7, ey7, hf⟩ := k_L hf
            refine k_name ey7 ?_
            refine lv_istore_n (lv' := [(2, .int y7), (0, .ref h0), (1, .int b1), (3, .int s22.2)]) hx hb dX8_boxesWith_56 rfl hl (by decide) rfl (fun ls hl => ?_)
            refine lv_iinc (v := s22.2 + 1) (lv' := [(3, .int (s22.2 + 1)), (2, .int y7), (0, .ref h0), (1, .int b1)]) hx hb dX8_boxesWith_57 hl (k := 3) rfl rfl (by decide) rfl (fun ls hl => ?_)
            refine lv_goto (tgt := 22) hx hb dX8_boxesWith_60 (by decide) ?_
            obtain rfl := k_some hf
            exact ih b1 mOp mIk mPa mRu mLa mTy mSp mFr mRe mCa mOr mLe rS rP rK rA rO rW rC rT rN (y7, s22.2 + 1) q (k_inl hq) ls H locs (lv_sub hl [2, 3, 1, 0] rfl) hP hD hS kx 
          · have hf := k_T c6 hf
            refine lv_iconst (v := 1) hx hb dX8_boxesWith_50 (by decide) ?_
            refine lv_goto (tgt := 55) hx hb dX8_boxesWith_51 (by decide) ?_
            refine lv_iadd hx hb dX8_boxesWith_55 ?_
            obtain ⟨y8, ey8, hf⟩ := k_L hf
            refine k_name ey8 ?_
            refine lv_istore_n (lv' := [(2, .int y8), (0, .ref h0), (1, .int b1), (3, .int s22.2)]) hx hb dX8_boxesWith_56 rfl hl (by decide) rfl (fun ls hl => ?_)
            refine lv_iinc (v := s22.2 + 1) (lv' := [(3, .int (s22.2 + 1)), (2, .int y8), (0, .ref h0), (1, .int b1)]) hx hb dX8_boxesWith_57 hl (k := 3) rfl rfl (by decide) rfl (fun ls hl => ?_)
            refine lv_goto (tgt := 22) hx hb dX8_boxesWith_60 (by decide) ?_
            obtain rfl := k_some hf
            exact ih b1 mOp mIk mPa mRu mLa mTy mSp mFr mRe mCa mOr mLe rS rP rK rA rO rW rC rT rN (y8, s22.2 + 1) q (k_inl hq) ls H locs (lv_sub hl [2, 3, 1, 0] rfl) hP hD hS kx 
  unfold f_X8_boxesWith at hf
  obtain ⟨H, eH⟩ : ∃ H, H = s.heap := ⟨_, rfl⟩
  obtain ⟨locs, elocs⟩ : ∃ L : List Loc, L = [] := ⟨_, rfl⟩
  have hP : va_P D vwCl (wX8 cy h0 sa pa ka aa oa wa ca ta na mOp mIk mPa mRu mLa mTy mSp mFr mRe mCa mOr mLe rS rP rK rA rO rW rC rT rN) H := by rw [eH]; exact hP
  have hS : va_S A s.heap H locs := by rw [eH, elocs]; exact hS
  refine k_here eH elocs ?_
  refine lv_aload_n hx hb dX8_boxesWith_0 rfl (lv_at hl 0 rfl) ?_
  refine lv_iload_n hx hb dX8_boxesWith_1 rfl (lv_at hl 1 rfl) ?_
  refine lv_iconst (v := 0) hx hb dX8_boxesWith_2 (by decide) ?_
  refine lv_iconst (v := 4) hx hb dX8_boxesWith_3 (by decide) ?_
  obtain ⟨v1, hv1, hf⟩ := k_B hf
  refine k_callS (As := [.int n1, .int 0, .int 4]) (rest := [.ref h0]) ⟨hx, hb, hml, hown, hts⟩ (c_X8_in l n1 0 4 v1 hv1) (va_cwS 3 hts gX8_boxesWith_X8_in rfl rfl rfl hd_X8_in ⟨Nat.le_of_ble_eq_true rfl, Nat.le_of_ble_eq_true rfl⟩) rfl hl.1 rfl (Nat.le_of_ble_eq_true rfl) dX8_boxesWith_4 ⟨Nat.zero_le _, Nat.zero_le _⟩ ?_
  refine lv_if_eq (tgt := 14) hx hb dX8_boxesWith_7 (by decide) (fun c2 => ?_) (fun c2 => ?_)
  · have hf := k_T c2 hf
    refine lv_iconst (v := 1) hx hb dX8_boxesWith_14 (by decide) ?_
    refine va_put (D := D) (ci := 5) (v := .int 1) (ty := .int) (C := RX8) (T := TX8) (N := 21) hx hb hts in_X8 tyX8 tyX8_ok nmX8 hown hK hP hD hS 0 rfl rfl 11 (by decide) fl37 (fun _ h9 => h9) rfl (by decide +kernel) rfl rfl (Nat.le_of_ble_eq_true rfl) dX8_boxesWith_15 (fun H locs hP hD hS => ?_)
    have hP : va_P D vwCl (wX8 cy h0 sa pa ka aa oa wa ca ta na mOp mIk mPa mRu 1 mTy mSp mFr mRe mCa mOr mLe rS rP rK rA rO rW rC rT rN) H := hP
    have hD : va_D A (wX8 cy h0 sa pa ka aa oa wa ca ta na mOp mIk mPa mRu 1 mTy mSp mFr mRe mCa mOr mLe rS rP rK rA rO rW rC rT rN) := hD
    refine lv_iconst (v := 0) hx hb dX8_boxesWith_18 (by decide) ?_
    refine lv_istore_n (lv' := [(2, .int 0), (0, .ref h0), (1, .int n1)]) hx hb dX8_boxesWith_19 rfl hl (by decide) rfl (fun ls hl => ?_)
    refine lv_iconst (v := 0) hx hb dX8_boxesWith_20 (by decide) ?_
    refine lv_istore_n (lv' := [(3, .int 0), (2, .int 0), (0, .ref h0), (1, .int n1)]) hx hb dX8_boxesWith_21 rfl hl (by decide) rfl (fun ls hl => ?_)
    obtain ⟨x9, hx9, hf⟩ := k_B hf
    refine L22 _ 1000 n1 mOp mIk mPa mRu 1 mTy mSp mFr mRe mCa mOr mLe rS rP rK rA rO rW rC rT rN (0, 0) x9 hx9 ls H locs (lv_sub hl [2, 3, 1, 0] rfl) hP hD hS ?_
    · intro ls H locs _ hl hP hD hS
      refine lv_iload_n hx hb dX8_boxesWith_63 rfl (lv_at hl 0 rfl) ?_
      obtain rfl := k_some hf
      exact k_iret hx hb hr hP hD hS dX8_boxesWith_64 hlocks
  · have hf := k_F c2 hf
    refine lv_iconst (v := 0) hx hb dX8_boxesWith_10 (by decide) ?_
    refine lv_goto (tgt := 15) hx hb dX8_boxesWith_11 (by decide) ?_
    refine va_put (D := D) (ci := 5) (v := .int 0) (ty := .int) (C := RX8) (T := TX8) (N := 21) hx hb hts in_X8 tyX8 tyX8_ok nmX8 hown hK hP hD hS 0 rfl rfl 11 (by decide) fl37 (fun _ h9 => h9) rfl (by decide +kernel) rfl rfl (Nat.le_of_ble_eq_true rfl) dX8_boxesWith_15 (fun H locs hP hD hS => ?_)
    have hP : va_P D vwCl (wX8 cy h0 sa pa ka aa oa wa ca ta na mOp mIk mPa mRu 0 mTy mSp mFr mRe mCa mOr mLe rS rP rK rA rO rW rC rT rN) H := hP
    have hD : va_D A (wX8 cy h0 sa pa ka aa oa wa ca ta na mOp mIk mPa mRu 0 mTy mSp mFr mRe mCa mOr mLe rS rP rK rA rO rW rC rT rN) := hD
    refine lv_iconst (v := 0) hx hb dX8_boxesWith_18 (by decide) ?_
    refine lv_istore_n (lv' := [(2, .int 0), (0, .ref h0), (1, .int n1)]) hx hb dX8_boxesWith_19 rfl hl (by decide) rfl (fun ls hl => ?_)
    refine lv_iconst (v := 0) hx hb dX8_boxesWith_20 (by decide) ?_
    refine lv_istore_n (lv' := [(3, .int 0), (2, .int 0), (0, .ref h0), (1, .int n1)]) hx hb dX8_boxesWith_21 rfl hl (by decide) rfl (fun ls hl => ?_)
    obtain ⟨x10, hx10, hf⟩ := k_B hf
    refine L22 _ 1000 n1 mOp mIk mPa mRu 0 mTy mSp mFr mRe mCa mOr mLe rS rP rK rA rO rW rC rT rN (0, 0) x10 hx10 ls H locs (lv_sub hl [2, 3, 1, 0] rfl) hP hD hS ?_
    · intro ls H locs _ hl hP hD hS
      refine lv_iload_n hx hb dX8_boxesWith_63 rfl (lv_at hl 0 rfl) ?_
      obtain rfl := k_some hf
      exact k_iret hx hb hr hP hD hS dX8_boxesWith_64 hlocks
def f_X8_turn (mLa : Int32) (rS : Nat → Int32) : Option (Int32 × Int32) :=
  (f_X8_told 13 mLa rS).bind fun v1 =>
  some (v1.1, v1.2)
abbrev rm_X8_turn : Room := { frames := 1, cells := 0, slots := 0, locals := 21 }
theorem hd_X8_turn : yX8_turn.cls = RX8 ∧ yX8_turn.cls ≠ "java/lang/invoke/MethodHandle" ∧ yX8_turn.cls ≠ "java/lang/invoke/VarHandle" ∧ (parseMethodDescriptor yX8_turn.desc).map (fun d => d.parameters.length) = some 0 := by decide +kernel
set_option maxHeartbeats 4000000 in
set_option maxRecDepth 100000 in
theorem c_X8_turn (l : Launch) (D : va_G) (cy : Nat → ClassId) (h0 sa pa ka aa oa wa ca ta na : Nat) (mOp : Int32) (mIk : Int32) (mPa : Int32) (mRu : Int32) (mLa : Int32) (mTy : Int32) (mSp : Int32) (mFr : Int32) (mRe : Int32) (mCa : Int32) (mOr : Int32) (mLe : Int32) (rS : Nat → Int32) (rP : Nat → Int32) (rK : Nat → Int32) (rA : Nat → Int32) (rO : Nat → Int32) (rW : Nat → Int32) (rC : Nat → Int32) (rT : Nat → Int32) (rN : Nat → Int32)  (r : Int32 × Int32) (hf : f_X8_turn mLa rS = some r) : k_HMet l yX8_turn wsX8_turn rm_X8_turn D (k_tys cy) [.ref h0] (wX8 cy h0 sa pa ka aa oa wa ca ta na mOp mIk mPa mRu mLa mTy mSp mFr mRe mCa mOr mLe rS rP rK rA rO rW rC rT rN) (some (.int r.1)) (wX8 cy h0 sa pa ka aa oa wa ca ta na mOp mIk mPa mRu r.2 mTy mSp mFr mRe mCa mOr mLe rS rP rK rA rO rW rC rT rN) := by
  refine k_heapOf (cc := cX8_turn) (maxL := 1) (ret := (some .int)) (by decide) rfl (Nat.le_of_ble_eq_true rfl) ?_
  intro p e s m args below meth c ls A hx hb hr hlocks hml hown hts hl hA hK hP hD hN
  have hl : lv_has ls 1 [(0, .ref h0)] := hl
  have hS : va_S A s.heap s.heap [] := va_S.rf
  unfold f_X8_turn at hf
  obtain ⟨H, eH⟩ : ∃ H, H = s.heap := ⟨_, rfl⟩
  obtain ⟨locs, elocs⟩ : ∃ L : List Loc, L = [] := ⟨_, rfl⟩
  have hP : va_P D vwCl (wX8 cy h0 sa pa ka aa oa wa ca ta na mOp mIk mPa mRu mLa mTy mSp mFr mRe mCa mOr mLe rS rP rK rA rO rW rC rT rN) H := by rw [eH]; exact hP
  have hS : va_S A s.heap H locs := by rw [eH, elocs]; exact hS
  refine k_here eH elocs ?_
  refine lv_aload_n hx hb dX8_turn_0 rfl (lv_at hl 0 rfl) ?_
  refine lv_bipush (v := 13) hx hb dX8_turn_1 (by decide) ?_
  obtain ⟨v1, hv1, hf⟩ := k_B hf
  refine k_callHV (As := [.int 13]) (rest := []) (r := (RX8, TX8, 21)) (ci := 5) (q0 := 0) (isC := [0, 1, 2, 3, 4, 5, 6, 7, 8, 9]) (isR := []) (perm := [0, 1, 2, 3, 4, 5, 6, 7, 8, 9]) (w' := (wX8 cy h0 sa pa ka aa oa wa ca ta na mOp mIk mPa mRu v1.2 mTy mSp mFr mRe mCa mOr mLe rS rP rK rA rO rW rC rT rN)) ⟨hx, hb, hml, hown, hts⟩ (c_X8_told l D cy h0 sa pa ka aa oa wa ca ta na mOp mIk mPa mRu mLa mTy mSp mFr mRe mCa mOr mLe rS rP rK rA rO rW rC rT rN 13 v1 hv1) (cwV 1 hts gX8_turn_X8_told rfl rfl rfl hd_X8_told ⟨Nat.le_of_ble_eq_true rfl, Nat.le_of_ble_eq_true rfl⟩) hK hN hP hD hS hA rfl rfl rfl rfl rfl rfl (by decide) rfl rfl rfl hl.1 rfl (Nat.le_of_ble_eq_true rfl) dX8_turn_3 ⟨Nat.zero_le _, Nat.zero_le _⟩ (fun H locs hP hD hS => ?_)
  obtain rfl := k_some hf
  exact k_iret hx hb hr hP hD hS dX8_turn_6 hlocks
def f_X8_whyNot (n1 : Int32) (mLa : Int32) (rS : Nat → Int32) : Option (Int32 × Int32) :=
  (f_X8_isFence n1).bind fun v1 =>
  if v1 = 0 then
    if (1 : Int32) = 0 then
      (f_X8_reason n1 rS).bind fun v4 =>
      some (v4, 1)
    else
      some (0, 1)
  else
    if (0 : Int32) = 0 then
      (f_X8_reason n1 rS).bind fun v6 =>
      some (v6, 0)
    else
      some (0, 0)
abbrev rm_X8_whyNot : Room := { frames := 2, cells := 0, slots := 0, locals := 42 }
theorem hd_X8_whyNot : yX8_whyNot.cls = RX8 ∧ yX8_whyNot.cls ≠ "java/lang/invoke/MethodHandle" ∧ yX8_whyNot.cls ≠ "java/lang/invoke/VarHandle" ∧ (parseMethodDescriptor yX8_whyNot.desc).map (fun d => d.parameters.length) = some 1 := by decide +kernel
set_option maxHeartbeats 4000000 in
set_option maxRecDepth 100000 in
theorem c_X8_whyNot (l : Launch) (D : va_G) (cy : Nat → ClassId) (h0 sa pa ka aa oa wa ca ta na : Nat) (mOp : Int32) (mIk : Int32) (mPa : Int32) (mRu : Int32) (mLa : Int32) (mTy : Int32) (mSp : Int32) (mFr : Int32) (mRe : Int32) (mCa : Int32) (mOr : Int32) (mLe : Int32) (rS : Nat → Int32) (rP : Nat → Int32) (rK : Nat → Int32) (rA : Nat → Int32) (rO : Nat → Int32) (rW : Nat → Int32) (rC : Nat → Int32) (rT : Nat → Int32) (rN : Nat → Int32) (n1 : Int32) (r : Int32 × Int32) (hf : f_X8_whyNot n1 mLa rS = some r) : k_HMet l yX8_whyNot wsX8_whyNot rm_X8_whyNot D (k_tys cy) [.ref h0, .int n1] (wX8 cy h0 sa pa ka aa oa wa ca ta na mOp mIk mPa mRu mLa mTy mSp mFr mRe mCa mOr mLe rS rP rK rA rO rW rC rT rN) (some (.int r.1)) (wX8 cy h0 sa pa ka aa oa wa ca ta na mOp mIk mPa mRu r.2 mTy mSp mFr mRe mCa mOr mLe rS rP rK rA rO rW rC rT rN) := by
  refine k_heapOf (cc := cX8_whyNot) (maxL := 2) (ret := (some .int)) (by decide) rfl (Nat.le_of_ble_eq_true rfl) ?_
  intro p e s m args below meth c ls A hx hb hr hlocks hml hown hts hl hA hK hP hD hN
  have hl : lv_has ls 2 [(0, .ref h0), (1, .int n1)] := hl
  have hS : va_S A s.heap s.heap [] := va_S.rf
  have in_X8 : ∀ w ∈ wsX80, w ∈ wsX8_whyNot := by decide +kernel
  have fl37 := hts (.fieldLink RX8 37 "FencedBoxesModel" "last" "I") (by decide +kernel)
  unfold f_X8_whyNot at hf
  obtain ⟨H, eH⟩ : ∃ H, H = s.heap := ⟨_, rfl⟩
  obtain ⟨locs, elocs⟩ : ∃ L : List Loc, L = [] := ⟨_, rfl⟩
  have hP : va_P D vwCl (wX8 cy h0 sa pa ka aa oa wa ca ta na mOp mIk mPa mRu mLa mTy mSp mFr mRe mCa mOr mLe rS rP rK rA rO rW rC rT rN) H := by rw [eH]; exact hP
  have hS : va_S A s.heap H locs := by rw [eH, elocs]; exact hS
  refine k_here eH elocs ?_
  refine lv_aload_n hx hb dX8_whyNot_0 rfl (lv_at hl 0 rfl) ?_
  refine lv_iload_n hx hb dX8_whyNot_1 rfl (lv_at hl 1 rfl) ?_
  obtain ⟨v1, hv1, hf⟩ := k_B hf
  refine k_callS (As := [.int n1]) (rest := [.ref h0]) ⟨hx, hb, hml, hown, hts⟩ (c_X8_isFence l n1 v1 hv1) (va_cwS 1 hts gX8_whyNot_X8_isFence rfl rfl rfl hd_X8_isFence ⟨Nat.le_of_ble_eq_true rfl, Nat.le_of_ble_eq_true rfl⟩) rfl hl.1 rfl (Nat.le_of_ble_eq_true rfl) dX8_whyNot_2 ⟨Nat.zero_le _, Nat.zero_le _⟩ ?_
  refine lv_if_eq (tgt := 12) hx hb dX8_whyNot_5 (by decide) (fun c2 => ?_) (fun c2 => ?_)
  · have hf := k_T c2 hf
    refine lv_iconst (v := 1) hx hb dX8_whyNot_12 (by decide) ?_
    refine va_put (D := D) (ci := 5) (v := .int 1) (ty := .int) (C := RX8) (T := TX8) (N := 21) hx hb hts in_X8 tyX8 tyX8_ok nmX8 hown hK hP hD hS 0 rfl rfl 11 (by decide) fl37 (fun _ h9 => h9) rfl (by decide +kernel) rfl rfl (Nat.le_of_ble_eq_true rfl) dX8_whyNot_13 (fun H locs hP hD hS => ?_)
    have hP : va_P D vwCl (wX8 cy h0 sa pa ka aa oa wa ca ta na mOp mIk mPa mRu 1 mTy mSp mFr mRe mCa mOr mLe rS rP rK rA rO rW rC rT rN) H := hP
    have hD : va_D A (wX8 cy h0 sa pa ka aa oa wa ca ta na mOp mIk mPa mRu 1 mTy mSp mFr mRe mCa mOr mLe rS rP rK rA rO rW rC rT rN) := hD
    refine lv_aload_n hx hb dX8_whyNot_16 rfl (lv_at hl 0 rfl) ?_
    refine va_get (D := D) (ci := 5) (v := .int 1) (C := RX8) (T := TX8) (N := 21) hx hb hts in_X8 hown hK hP 0 rfl rfl 11 (by decide) fl37 (fun _ h9 => h9) rfl dX8_whyNot_17 ?_
    refine lv_if_ne (tgt := 31) hx hb dX8_whyNot_20 (by decide) (fun c3 => ?_) (fun c3 => ?_)
    · have hf := k_F c3 hf
      refine lv_iconst (v := 0) hx hb dX8_whyNot_31 (by decide) ?_
      obtain rfl := k_some hf
      exact k_iret hx hb hr hP hD hS dX8_whyNot_32 hlocks
    · have hf := k_T c3 hf
      refine lv_aload_n hx hb dX8_whyNot_23 rfl (lv_at hl 0 rfl) ?_
      refine lv_iload_n hx hb dX8_whyNot_24 rfl (lv_at hl 1 rfl) ?_
      obtain ⟨v4, hv4, hf⟩ := k_B hf
      refine k_callHV (As := [.int n1]) (rest := []) (r := (RX8, TX8, 21)) (ci := 5) (q0 := 0) (isC := [0, 1, 2, 3, 4, 5, 6, 7, 8, 9]) (isR := []) (perm := [0, 1, 2, 3, 4, 5, 6, 7, 8, 9]) (w' := (wX8 cy h0 sa pa ka aa oa wa ca ta na mOp mIk mPa mRu 1 mTy mSp mFr mRe mCa mOr mLe rS rP rK rA rO rW rC rT rN)) ⟨hx, hb, hml, hown, hts⟩ (c_X8_reason l D cy h0 sa pa ka aa oa wa ca ta na mOp mIk mPa mRu 1 mTy mSp mFr mRe mCa mOr mLe rS rP rK rA rO rW rC rT rN n1 v4 hv4) (cwV 1 hts gX8_whyNot_X8_reason rfl rfl rfl hd_X8_reason ⟨Nat.le_of_ble_eq_true rfl, Nat.le_of_ble_eq_true rfl⟩) hK hN hP hD hS hA rfl rfl rfl rfl rfl rfl (by decide) rfl rfl rfl hl.1 rfl (Nat.le_of_ble_eq_true rfl) dX8_whyNot_25 ⟨Nat.zero_le _, Nat.zero_le _⟩ (fun H locs hP hD hS => ?_)
      refine lv_goto (tgt := 32) hx hb dX8_whyNot_28 (by decide) ?_
      obtain rfl := k_some hf
      exact k_iret hx hb hr hP hD hS dX8_whyNot_32 hlocks
  · have hf := k_F c2 hf
    refine lv_iconst (v := 0) hx hb dX8_whyNot_8 (by decide) ?_
    refine lv_goto (tgt := 13) hx hb dX8_whyNot_9 (by decide) ?_
    refine va_put (D := D) (ci := 5) (v := .int 0) (ty := .int) (C := RX8) (T := TX8) (N := 21) hx hb hts in_X8 tyX8 tyX8_ok nmX8 hown hK hP hD hS 0 rfl rfl 11 (by decide) fl37 (fun _ h9 => h9) rfl (by decide +kernel) rfl rfl (Nat.le_of_ble_eq_true rfl) dX8_whyNot_13 (fun H locs hP hD hS => ?_)
    have hP : va_P D vwCl (wX8 cy h0 sa pa ka aa oa wa ca ta na mOp mIk mPa mRu 0 mTy mSp mFr mRe mCa mOr mLe rS rP rK rA rO rW rC rT rN) H := hP
    have hD : va_D A (wX8 cy h0 sa pa ka aa oa wa ca ta na mOp mIk mPa mRu 0 mTy mSp mFr mRe mCa mOr mLe rS rP rK rA rO rW rC rT rN) := hD
    refine lv_aload_n hx hb dX8_whyNot_16 rfl (lv_at hl 0 rfl) ?_
    refine va_get (D := D) (ci := 5) (v := .int 0) (C := RX8) (T := TX8) (N := 21) hx hb hts in_X8 hown hK hP 0 rfl rfl 11 (by decide) fl37 (fun _ h9 => h9) rfl dX8_whyNot_17 ?_
    refine lv_if_ne (tgt := 31) hx hb dX8_whyNot_20 (by decide) (fun c5 => ?_) (fun c5 => ?_)
    · have hf := k_F c5 hf
      refine lv_iconst (v := 0) hx hb dX8_whyNot_31 (by decide) ?_
      obtain rfl := k_some hf
      exact k_iret hx hb hr hP hD hS dX8_whyNot_32 hlocks
    · have hf := k_T c5 hf
      refine lv_aload_n hx hb dX8_whyNot_23 rfl (lv_at hl 0 rfl) ?_
      refine lv_iload_n hx hb dX8_whyNot_24 rfl (lv_at hl 1 rfl) ?_
      obtain ⟨v6, hv6, hf⟩ := k_B hf
      refine k_callHV (As := [.int n1]) (rest := []) (r := (RX8, TX8, 21)) (ci := 5) (q0 := 0) (isC := [0, 1, 2, 3, 4, 5, 6, 7, 8, 9]) (isR := []) (perm := [0, 1, 2, 3, 4, 5, 6, 7, 8, 9]) (w' := (wX8 cy h0 sa pa ka aa oa wa ca ta na mOp mIk mPa mRu 0 mTy mSp mFr mRe mCa mOr mLe rS rP rK rA rO rW rC rT rN)) ⟨hx, hb, hml, hown, hts⟩ (c_X8_reason l D cy h0 sa pa ka aa oa wa ca ta na mOp mIk mPa mRu 0 mTy mSp mFr mRe mCa mOr mLe rS rP rK rA rO rW rC rT rN n1 v6 hv6) (cwV 1 hts gX8_whyNot_X8_reason rfl rfl rfl hd_X8_reason ⟨Nat.le_of_ble_eq_true rfl, Nat.le_of_ble_eq_true rfl⟩) hK hN hP hD hS hA rfl rfl rfl rfl rfl rfl (by decide) rfl rfl rfl hl.1 rfl (Nat.le_of_ble_eq_true rfl) dX8_whyNot_25 ⟨Nat.zero_le _, Nat.zero_le _⟩ (fun H locs hP hD hS => ?_)
      refine lv_goto (tgt := 32) hx hb dX8_whyNot_28 (by decide) ?_
      obtain rfl := k_some hf
      exact k_iret hx hb hr hP hD hS dX8_whyNot_32 hlocks
def f_X8_isOver (mLa : Int32) (rS : Nat → Int32) : Option (Int32 × Int32) :=
  (f_X8_told 18 mLa rS).bind fun v1 =>
  if v1.1 = 31 then
    some (1, v1.2)
  else
    some (0, v1.2)
abbrev rm_X8_isOver : Room := { frames := 1, cells := 0, slots := 0, locals := 21 }
theorem hd_X8_isOver : yX8_isOver.cls = RX8 ∧ yX8_isOver.cls ≠ "java/lang/invoke/MethodHandle" ∧ yX8_isOver.cls ≠ "java/lang/invoke/VarHandle" ∧ (parseMethodDescriptor yX8_isOver.desc).map (fun d => d.parameters.length) = some 0 := by decide +kernel
set_option maxHeartbeats 4000000 in
set_option maxRecDepth 100000 in
theorem c_X8_isOver (l : Launch) (D : va_G) (cy : Nat → ClassId) (h0 sa pa ka aa oa wa ca ta na : Nat) (mOp : Int32) (mIk : Int32) (mPa : Int32) (mRu : Int32) (mLa : Int32) (mTy : Int32) (mSp : Int32) (mFr : Int32) (mRe : Int32) (mCa : Int32) (mOr : Int32) (mLe : Int32) (rS : Nat → Int32) (rP : Nat → Int32) (rK : Nat → Int32) (rA : Nat → Int32) (rO : Nat → Int32) (rW : Nat → Int32) (rC : Nat → Int32) (rT : Nat → Int32) (rN : Nat → Int32)  (r : Int32 × Int32) (hf : f_X8_isOver mLa rS = some r) : k_HMet l yX8_isOver wsX8_isOver rm_X8_isOver D (k_tys cy) [.ref h0] (wX8 cy h0 sa pa ka aa oa wa ca ta na mOp mIk mPa mRu mLa mTy mSp mFr mRe mCa mOr mLe rS rP rK rA rO rW rC rT rN) (some (.int r.1)) (wX8 cy h0 sa pa ka aa oa wa ca ta na mOp mIk mPa mRu r.2 mTy mSp mFr mRe mCa mOr mLe rS rP rK rA rO rW rC rT rN) := by
  refine k_heapOf (cc := cX8_isOver) (maxL := 1) (ret := (some .boolean)) (by decide) rfl (Nat.le_of_ble_eq_true rfl) ?_
  intro p e s m args below meth c ls A hx hb hr hlocks hml hown hts hl hA hK hP hD hN
  have hl : lv_has ls 1 [(0, .ref h0)] := hl
  have hS : va_S A s.heap s.heap [] := va_S.rf
  unfold f_X8_isOver at hf
  obtain ⟨H, eH⟩ : ∃ H, H = s.heap := ⟨_, rfl⟩
  obtain ⟨locs, elocs⟩ : ∃ L : List Loc, L = [] := ⟨_, rfl⟩
  have hP : va_P D vwCl (wX8 cy h0 sa pa ka aa oa wa ca ta na mOp mIk mPa mRu mLa mTy mSp mFr mRe mCa mOr mLe rS rP rK rA rO rW rC rT rN) H := by rw [eH]; exact hP
  have hS : va_S A s.heap H locs := by rw [eH, elocs]; exact hS
  refine k_here eH elocs ?_
  refine lv_aload_n hx hb dX8_isOver_0 rfl (lv_at hl 0 rfl) ?_
  refine lv_bipush (v := 18) hx hb dX8_isOver_1 (by decide) ?_
  obtain ⟨v1, hv1, hf⟩ := k_B hf
  refine k_callHV (As := [.int 18]) (rest := []) (r := (RX8, TX8, 21)) (ci := 5) (q0 := 0) (isC := [0, 1, 2, 3, 4, 5, 6, 7, 8, 9]) (isR := []) (perm := [0, 1, 2, 3, 4, 5, 6, 7, 8, 9]) (w' := (wX8 cy h0 sa pa ka aa oa wa ca ta na mOp mIk mPa mRu v1.2 mTy mSp mFr mRe mCa mOr mLe rS rP rK rA rO rW rC rT rN)) ⟨hx, hb, hml, hown, hts⟩ (c_X8_told l D cy h0 sa pa ka aa oa wa ca ta na mOp mIk mPa mRu mLa mTy mSp mFr mRe mCa mOr mLe rS rP rK rA rO rW rC rT rN 18 v1 hv1) (cwV 1 hts gX8_isOver_X8_told rfl rfl rfl hd_X8_told ⟨Nat.le_of_ble_eq_true rfl, Nat.le_of_ble_eq_true rfl⟩) hK hN hP hD hS hA rfl rfl rfl rfl rfl rfl (by decide) rfl rfl rfl hl.1 rfl (Nat.le_of_ble_eq_true rfl) dX8_isOver_3 ⟨Nat.zero_le _, Nat.zero_le _⟩ (fun H locs hP hD hS => ?_)
  refine lv_bipush (v := 31) hx hb dX8_isOver_6 (by decide) ?_
  refine lv_icmp_ne (tgt := 15) hx hb dX8_isOver_8 (by decide) (fun c2 => ?_) (fun c2 => ?_)
  · have hf := k_F c2 hf
    refine lv_iconst (v := 0) hx hb dX8_isOver_15 (by decide) ?_
    obtain rfl := k_some hf
    exact k_zret (v := 0) hx hb hr rfl hP hD hS dX8_isOver_16 hlocks
  · have hf := k_T c2 hf
    refine lv_iconst (v := 1) hx hb dX8_isOver_11 (by decide) ?_
    refine lv_goto (tgt := 16) hx hb dX8_isOver_12 (by decide) ?_
    obtain rfl := k_some hf
    exact k_zret (v := 1) hx hb hr rfl hP hD hS dX8_isOver_16 hlocks
def f_X8_canTakeNow (mLa : Int32) (rS : Nat → Int32) : Option (Int32 × Int32) :=
  (f_X8_takes (rS 0)).bind fun v1 =>
  some (v1, 0)
abbrev rm_X8_canTakeNow : Room := { frames := 5, cells := 0, slots := 0, locals := 110 }
theorem hd_X8_canTakeNow : yX8_canTakeNow.cls = RX8 ∧ yX8_canTakeNow.cls ≠ "java/lang/invoke/MethodHandle" ∧ yX8_canTakeNow.cls ≠ "java/lang/invoke/VarHandle" ∧ (parseMethodDescriptor yX8_canTakeNow.desc).map (fun d => d.parameters.length) = some 0 := by decide +kernel
set_option maxHeartbeats 4000000 in
set_option maxRecDepth 100000 in
theorem c_X8_canTakeNow (l : Launch) (D : va_G) (cy : Nat → ClassId) (h0 sa pa ka aa oa wa ca ta na : Nat) (mOp : Int32) (mIk : Int32) (mPa : Int32) (mRu : Int32) (mLa : Int32) (mTy : Int32) (mSp : Int32) (mFr : Int32) (mRe : Int32) (mCa : Int32) (mOr : Int32) (mLe : Int32) (rS : Nat → Int32) (rP : Nat → Int32) (rK : Nat → Int32) (rA : Nat → Int32) (rO : Nat → Int32) (rW : Nat → Int32) (rC : Nat → Int32) (rT : Nat → Int32) (rN : Nat → Int32)  (r : Int32 × Int32) (hf : f_X8_canTakeNow mLa rS = some r) : k_HMet l yX8_canTakeNow wsX8_canTakeNow rm_X8_canTakeNow D (k_tys cy) [.ref h0] (wX8 cy h0 sa pa ka aa oa wa ca ta na mOp mIk mPa mRu mLa mTy mSp mFr mRe mCa mOr mLe rS rP rK rA rO rW rC rT rN) (some (.int r.1)) (wX8 cy h0 sa pa ka aa oa wa ca ta na mOp mIk mPa mRu r.2 mTy mSp mFr mRe mCa mOr mLe rS rP rK rA rO rW rC rT rN) := by
  refine k_heapOf (cc := cX8_canTakeNow) (maxL := 1) (ret := (some .int)) (by decide) rfl (Nat.le_of_ble_eq_true rfl) ?_
  intro p e s m args below meth c ls A hx hb hr hlocks hml hown hts hl hA hK hP hD hN
  have hl : lv_has ls 1 [(0, .ref h0)] := hl
  have hS : va_S A s.heap s.heap [] := va_S.rf
  have in_X8 : ∀ w ∈ wsX80, w ∈ wsX8_canTakeNow := by decide +kernel
  have fl7 := hts (.fieldLink RX8 7 "FencedBoxesModel" "s" "[I") (by decide +kernel)
  have fl37 := hts (.fieldLink RX8 37 "FencedBoxesModel" "last" "I") (by decide +kernel)
  unfold f_X8_canTakeNow at hf
  obtain ⟨H, eH⟩ : ∃ H, H = s.heap := ⟨_, rfl⟩
  obtain ⟨locs, elocs⟩ : ∃ L : List Loc, L = [] := ⟨_, rfl⟩
  have hP : va_P D vwCl (wX8 cy h0 sa pa ka aa oa wa ca ta na mOp mIk mPa mRu mLa mTy mSp mFr mRe mCa mOr mLe rS rP rK rA rO rW rC rT rN) H := by rw [eH]; exact hP
  have hS : va_S A s.heap H locs := by rw [eH, elocs]; exact hS
  refine k_here eH elocs ?_
  refine lv_aload_n hx hb dX8_canTakeNow_0 rfl (lv_at hl 0 rfl) ?_
  refine lv_iconst (v := 0) hx hb dX8_canTakeNow_1 (by decide) ?_
  refine va_put (D := D) (ci := 5) (v := .int 0) (ty := .int) (C := RX8) (T := TX8) (N := 21) hx hb hts in_X8 tyX8 tyX8_ok nmX8 hown hK hP hD hS 0 rfl rfl 11 (by decide) fl37 (fun _ h9 => h9) rfl (by decide +kernel) rfl rfl (Nat.le_of_ble_eq_true rfl) dX8_canTakeNow_2 (fun H locs hP hD hS => ?_)
  have hP : va_P D vwCl (wX8 cy h0 sa pa ka aa oa wa ca ta na mOp mIk mPa mRu 0 mTy mSp mFr mRe mCa mOr mLe rS rP rK rA rO rW rC rT rN) H := hP
  have hD : va_D A (wX8 cy h0 sa pa ka aa oa wa ca ta na mOp mIk mPa mRu 0 mTy mSp mFr mRe mCa mOr mLe rS rP rK rA rO rW rC rT rN) := hD
  refine lv_aload_n hx hb dX8_canTakeNow_5 rfl (lv_at hl 0 rfl) ?_
  refine va_get (D := D) (ci := 5) (v := .ref sa) (C := RX8) (T := TX8) (N := 21) hx hb hts in_X8 hown hK hP 0 rfl rfl 0 (by decide) fl7 (fun _ h9 => h9) rfl dX8_canTakeNow_6 ?_
  refine lv_iconst (v := 0) hx hb dX8_canTakeNow_9 (by decide) ?_
  refine va_iald hx hb hK hP 1 0 rfl rfl (k_in (i := 0) (n := 19) (by decide +kernel)) dX8_canTakeNow_10 ?_
  refine k_name (v := rS 0) rfl ?_
  obtain ⟨v1, hv1, hf⟩ := k_B hf
  refine k_callS (As := [.int (rS 0)]) (rest := []) ⟨hx, hb, hml, hown, hts⟩ (c_X8_takes l (rS 0) v1 hv1) (va_cwS 1 hts gX8_canTakeNow_X8_takes rfl rfl rfl hd_X8_takes ⟨Nat.le_of_ble_eq_true rfl, Nat.le_of_ble_eq_true rfl⟩) rfl hl.1 rfl (Nat.le_of_ble_eq_true rfl) dX8_canTakeNow_11 ⟨Nat.zero_le _, Nat.zero_le _⟩ ?_
  obtain rfl := k_some hf
  exact k_iret hx hb hr hP hD hS dX8_canTakeNow_14 hlocks
def f_X8_canTake (mLa : Int32) (rS : Nat → Int32) : Option (Int32 × Int32) :=
  (f_X8_canTakeNow mLa rS).bind fun v1 =>
  some (v1.1, v1.2)
abbrev rm_X8_canTake : Room := { frames := 6, cells := 0, slots := 0, locals := 130 }
theorem hd_X8_canTake : yX8_canTake.cls = RX8 ∧ yX8_canTake.cls ≠ "java/lang/invoke/MethodHandle" ∧ yX8_canTake.cls ≠ "java/lang/invoke/VarHandle" ∧ (parseMethodDescriptor yX8_canTake.desc).map (fun d => d.parameters.length) = some 0 := by decide +kernel
set_option maxHeartbeats 4000000 in
set_option maxRecDepth 100000 in
theorem c_X8_canTake (l : Launch) (D : va_G) (cy : Nat → ClassId) (h0 sa pa ka aa oa wa ca ta na : Nat) (mOp : Int32) (mIk : Int32) (mPa : Int32) (mRu : Int32) (mLa : Int32) (mTy : Int32) (mSp : Int32) (mFr : Int32) (mRe : Int32) (mCa : Int32) (mOr : Int32) (mLe : Int32) (rS : Nat → Int32) (rP : Nat → Int32) (rK : Nat → Int32) (rA : Nat → Int32) (rO : Nat → Int32) (rW : Nat → Int32) (rC : Nat → Int32) (rT : Nat → Int32) (rN : Nat → Int32)  (r : Int32 × Int32) (hf : f_X8_canTake mLa rS = some r) : k_HMet l yX8_canTake wsX8_canTake rm_X8_canTake D (k_tys cy) [.ref h0] (wX8 cy h0 sa pa ka aa oa wa ca ta na mOp mIk mPa mRu mLa mTy mSp mFr mRe mCa mOr mLe rS rP rK rA rO rW rC rT rN) (some (.int r.1)) (wX8 cy h0 sa pa ka aa oa wa ca ta na mOp mIk mPa mRu r.2 mTy mSp mFr mRe mCa mOr mLe rS rP rK rA rO rW rC rT rN) := by
  refine k_heapOf (cc := cX8_canTake) (maxL := 1) (ret := (some .int)) (by decide) rfl (Nat.le_of_ble_eq_true rfl) ?_
  intro p e s m args below meth c ls A hx hb hr hlocks hml hown hts hl hA hK hP hD hN
  have hl : lv_has ls 1 [(0, .ref h0)] := hl
  have hS : va_S A s.heap s.heap [] := va_S.rf
  unfold f_X8_canTake at hf
  obtain ⟨H, eH⟩ : ∃ H, H = s.heap := ⟨_, rfl⟩
  obtain ⟨locs, elocs⟩ : ∃ L : List Loc, L = [] := ⟨_, rfl⟩
  have hP : va_P D vwCl (wX8 cy h0 sa pa ka aa oa wa ca ta na mOp mIk mPa mRu mLa mTy mSp mFr mRe mCa mOr mLe rS rP rK rA rO rW rC rT rN) H := by rw [eH]; exact hP
  have hS : va_S A s.heap H locs := by rw [eH, elocs]; exact hS
  refine k_here eH elocs ?_
  refine lv_aload_n hx hb dX8_canTake_0 rfl (lv_at hl 0 rfl) ?_
  obtain ⟨v1, hv1, hf⟩ := k_B hf
  refine k_callHV (As := []) (rest := []) (r := (RX8, TX8, 21)) (ci := 5) (q0 := 0) (isC := [0, 1, 2, 3, 4, 5, 6, 7, 8, 9]) (isR := []) (perm := [0, 1, 2, 3, 4, 5, 6, 7, 8, 9]) (w' := (wX8 cy h0 sa pa ka aa oa wa ca ta na mOp mIk mPa mRu v1.2 mTy mSp mFr mRe mCa mOr mLe rS rP rK rA rO rW rC rT rN)) ⟨hx, hb, hml, hown, hts⟩ (c_X8_canTakeNow l D cy h0 sa pa ka aa oa wa ca ta na mOp mIk mPa mRu mLa mTy mSp mFr mRe mCa mOr mLe rS rP rK rA rO rW rC rT rN  v1 hv1) (cwV 0 hts gX8_canTake_X8_canTakeNow rfl rfl rfl hd_X8_canTakeNow ⟨Nat.le_of_ble_eq_true rfl, Nat.le_of_ble_eq_true rfl⟩) hK hN hP hD hS hA rfl rfl rfl rfl rfl rfl (by decide) rfl rfl rfl hl.1 rfl (Nat.le_of_ble_eq_true rfl) dX8_canTake_1 ⟨Nat.zero_le _, Nat.zero_le _⟩ (fun H locs hP hD hS => ?_)
  obtain rfl := k_some hf
  exact k_iret hx hb hr hP hD hS dX8_canTake_4 hlocks
def f_X8_canTakeByRounds (mLa : Int32) (rS : Nat → Int32) : Option (Int32 × Int32) :=
  (f_X8_canTakeNow mLa rS).bind fun v1 =>
  some (v1.1, v1.2)
abbrev rm_X8_canTakeByRounds : Room := { frames := 6, cells := 0, slots := 0, locals := 130 }
theorem hd_X8_canTakeByRounds : yX8_canTakeByRounds.cls = RX8 ∧ yX8_canTakeByRounds.cls ≠ "java/lang/invoke/MethodHandle" ∧ yX8_canTakeByRounds.cls ≠ "java/lang/invoke/VarHandle" ∧ (parseMethodDescriptor yX8_canTakeByRounds.desc).map (fun d => d.parameters.length) = some 0 := by decide +kernel
set_option maxHeartbeats 4000000 in
set_option maxRecDepth 100000 in
theorem c_X8_canTakeByRounds (l : Launch) (D : va_G) (cy : Nat → ClassId) (h0 sa pa ka aa oa wa ca ta na : Nat) (mOp : Int32) (mIk : Int32) (mPa : Int32) (mRu : Int32) (mLa : Int32) (mTy : Int32) (mSp : Int32) (mFr : Int32) (mRe : Int32) (mCa : Int32) (mOr : Int32) (mLe : Int32) (rS : Nat → Int32) (rP : Nat → Int32) (rK : Nat → Int32) (rA : Nat → Int32) (rO : Nat → Int32) (rW : Nat → Int32) (rC : Nat → Int32) (rT : Nat → Int32) (rN : Nat → Int32)  (r : Int32 × Int32) (hf : f_X8_canTakeByRounds mLa rS = some r) : k_HMet l yX8_canTakeByRounds wsX8_canTakeByRounds rm_X8_canTakeByRounds D (k_tys cy) [.ref h0] (wX8 cy h0 sa pa ka aa oa wa ca ta na mOp mIk mPa mRu mLa mTy mSp mFr mRe mCa mOr mLe rS rP rK rA rO rW rC rT rN) (some (.int r.1)) (wX8 cy h0 sa pa ka aa oa wa ca ta na mOp mIk mPa mRu r.2 mTy mSp mFr mRe mCa mOr mLe rS rP rK rA rO rW rC rT rN) := by
  refine k_heapOf (cc := cX8_canTakeByRounds) (maxL := 1) (ret := (some .int)) (by decide) rfl (Nat.le_of_ble_eq_true rfl) ?_
  intro p e s m args below meth c ls A hx hb hr hlocks hml hown hts hl hA hK hP hD hN
  have hl : lv_has ls 1 [(0, .ref h0)] := hl
  have hS : va_S A s.heap s.heap [] := va_S.rf
  unfold f_X8_canTakeByRounds at hf
  obtain ⟨H, eH⟩ : ∃ H, H = s.heap := ⟨_, rfl⟩
  obtain ⟨locs, elocs⟩ : ∃ L : List Loc, L = [] := ⟨_, rfl⟩
  have hP : va_P D vwCl (wX8 cy h0 sa pa ka aa oa wa ca ta na mOp mIk mPa mRu mLa mTy mSp mFr mRe mCa mOr mLe rS rP rK rA rO rW rC rT rN) H := by rw [eH]; exact hP
  have hS : va_S A s.heap H locs := by rw [eH, elocs]; exact hS
  refine k_here eH elocs ?_
  refine lv_aload_n hx hb dX8_canTakeByRounds_0 rfl (lv_at hl 0 rfl) ?_
  obtain ⟨v1, hv1, hf⟩ := k_B hf
  refine k_callHV (As := []) (rest := []) (r := (RX8, TX8, 21)) (ci := 5) (q0 := 0) (isC := [0, 1, 2, 3, 4, 5, 6, 7, 8, 9]) (isR := []) (perm := [0, 1, 2, 3, 4, 5, 6, 7, 8, 9]) (w' := (wX8 cy h0 sa pa ka aa oa wa ca ta na mOp mIk mPa mRu v1.2 mTy mSp mFr mRe mCa mOr mLe rS rP rK rA rO rW rC rT rN)) ⟨hx, hb, hml, hown, hts⟩ (c_X8_canTakeNow l D cy h0 sa pa ka aa oa wa ca ta na mOp mIk mPa mRu mLa mTy mSp mFr mRe mCa mOr mLe rS rP rK rA rO rW rC rT rN  v1 hv1) (cwV 0 hts gX8_canTakeByRounds_X8_canTakeNow rfl rfl rfl hd_X8_canTakeNow ⟨Nat.le_of_ble_eq_true rfl, Nat.le_of_ble_eq_true rfl⟩) hK hN hP hD hS hA rfl rfl rfl rfl rfl rfl (by decide) rfl rfl rfl hl.1 rfl (Nat.le_of_ble_eq_true rfl) dX8_canTakeByRounds_1 ⟨Nat.zero_le _, Nat.zero_le _⟩ (fun H locs hP hD hS => ?_)
  obtain rfl := k_some hf
  exact k_iret hx hb hr hP hD hS dX8_canTakeByRounds_4 hlocks
def f_X8_takingFence (mLa : Int32) (rS : Nat → Int32) : Option (Int32 × Int32) :=
  (f_X8_taking (rS 0)).bind fun v1 =>
  if 0 ≤ v1 then
    if 0 ≤ v1 then
      some (v1, 0)
    else
      some (0, 0)
  else
    if 0 ≤ v1 then
      some (v1, 1)
    else
      some (0, 1)
abbrev rm_X8_takingFence : Room := { frames := 4, cells := 0, slots := 0, locals := 87 }
theorem hd_X8_takingFence : yX8_takingFence.cls = RX8 ∧ yX8_takingFence.cls ≠ "java/lang/invoke/MethodHandle" ∧ yX8_takingFence.cls ≠ "java/lang/invoke/VarHandle" ∧ (parseMethodDescriptor yX8_takingFence.desc).map (fun d => d.parameters.length) = some 0 := by decide +kernel
set_option maxHeartbeats 4000000 in
set_option maxRecDepth 100000 in
theorem c_X8_takingFence (l : Launch) (D : va_G) (cy : Nat → ClassId) (h0 sa pa ka aa oa wa ca ta na : Nat) (mOp : Int32) (mIk : Int32) (mPa : Int32) (mRu : Int32) (mLa : Int32) (mTy : Int32) (mSp : Int32) (mFr : Int32) (mRe : Int32) (mCa : Int32) (mOr : Int32) (mLe : Int32) (rS : Nat → Int32) (rP : Nat → Int32) (rK : Nat → Int32) (rA : Nat → Int32) (rO : Nat → Int32) (rW : Nat → Int32) (rC : Nat → Int32) (rT : Nat → Int32) (rN : Nat → Int32)  (r : Int32 × Int32) (hf : f_X8_takingFence mLa rS = some r) : k_HMet l yX8_takingFence wsX8_takingFence rm_X8_takingFence D (k_tys cy) [.ref h0] (wX8 cy h0 sa pa ka aa oa wa ca ta na mOp mIk mPa mRu mLa mTy mSp mFr mRe mCa mOr mLe rS rP rK rA rO rW rC rT rN) (some (.int r.1)) (wX8 cy h0 sa pa ka aa oa wa ca ta na mOp mIk mPa mRu r.2 mTy mSp mFr mRe mCa mOr mLe rS rP rK rA rO rW rC rT rN) := by
  refine k_heapOf (cc := cX8_takingFence) (maxL := 2) (ret := (some .int)) (by decide) rfl (Nat.le_of_ble_eq_true rfl) ?_
  intro p e s m args below meth c ls A hx hb hr hlocks hml hown hts hl hA hK hP hD hN
  have hl : lv_has ls 2 [(0, .ref h0)] := hl
  have hS : va_S A s.heap s.heap [] := va_S.rf
  have in_X8 : ∀ w ∈ wsX80, w ∈ wsX8_takingFence := by decide +kernel
  have fl7 := hts (.fieldLink RX8 7 "FencedBoxesModel" "s" "[I") (by decide +kernel)
  have fl37 := hts (.fieldLink RX8 37 "FencedBoxesModel" "last" "I") (by decide +kernel)
  unfold f_X8_takingFence at hf
  obtain ⟨H, eH⟩ : ∃ H, H = s.heap := ⟨_, rfl⟩
  obtain ⟨locs, elocs⟩ : ∃ L : List Loc, L = [] := ⟨_, rfl⟩
  have hP : va_P D vwCl (wX8 cy h0 sa pa ka aa oa wa ca ta na mOp mIk mPa mRu mLa mTy mSp mFr mRe mCa mOr mLe rS rP rK rA rO rW rC rT rN) H := by rw [eH]; exact hP
  have hS : va_S A s.heap H locs := by rw [eH, elocs]; exact hS
  refine k_here eH elocs ?_
  refine lv_aload_n hx hb dX8_takingFence_0 rfl (lv_at hl 0 rfl) ?_
  refine va_get (D := D) (ci := 5) (v := .ref sa) (C := RX8) (T := TX8) (N := 21) hx hb hts in_X8 hown hK hP 0 rfl rfl 0 (by decide) fl7 (fun _ h9 => h9) rfl dX8_takingFence_1 ?_
  refine lv_iconst (v := 0) hx hb dX8_takingFence_4 (by decide) ?_
  refine va_iald hx hb hK hP 1 0 rfl rfl (k_in (i := 0) (n := 19) (by decide +kernel)) dX8_takingFence_5 ?_
  refine k_name (v := rS 0) rfl ?_
  obtain ⟨v1, hv1, hf⟩ := k_B hf
  refine k_callS (As := [.int (rS 0)]) (rest := []) ⟨hx, hb, hml, hown, hts⟩ (c_X8_taking l (rS 0) v1 hv1) (va_cwS 1 hts gX8_takingFence_X8_taking rfl rfl rfl hd_X8_taking ⟨Nat.le_of_ble_eq_true rfl, Nat.le_of_ble_eq_true rfl⟩) rfl hl.1 rfl (Nat.le_of_ble_eq_true rfl) dX8_takingFence_6 ⟨Nat.zero_le _, Nat.zero_le _⟩ ?_
  refine lv_istore_n (lv' := [(1, .int v1), (0, .ref h0)]) hx hb dX8_takingFence_9 rfl hl (by decide) rfl (fun ls hl => ?_)
  refine lv_aload_n hx hb dX8_takingFence_10 rfl (lv_at hl 1 rfl) ?_
  refine lv_iload_n hx hb dX8_takingFence_11 rfl (lv_at hl 0 rfl) ?_
  refine lv_if_ge (tgt := 19) hx hb dX8_takingFence_12 (by decide) (fun c2 => ?_) (fun c2 => ?_)
  · have hf := k_T c2 hf
    refine lv_iconst (v := 0) hx hb dX8_takingFence_19 (by decide) ?_
    refine va_put (D := D) (ci := 5) (v := .int 0) (ty := .int) (C := RX8) (T := TX8) (N := 21) hx hb hts in_X8 tyX8 tyX8_ok nmX8 hown hK hP hD hS 0 rfl rfl 11 (by decide) fl37 (fun _ h9 => h9) rfl (by decide +kernel) rfl rfl (Nat.le_of_ble_eq_true rfl) dX8_takingFence_20 (fun H locs hP hD hS => ?_)
    have hP : va_P D vwCl (wX8 cy h0 sa pa ka aa oa wa ca ta na mOp mIk mPa mRu 0 mTy mSp mFr mRe mCa mOr mLe rS rP rK rA rO rW rC rT rN) H := hP
    have hD : va_D A (wX8 cy h0 sa pa ka aa oa wa ca ta na mOp mIk mPa mRu 0 mTy mSp mFr mRe mCa mOr mLe rS rP rK rA rO rW rC rT rN) := hD
    refine lv_iload_n hx hb dX8_takingFence_23 rfl (lv_at hl 0 rfl) ?_
    refine lv_if_ge (tgt := 31) hx hb dX8_takingFence_24 (by decide) (fun c3 => ?_) (fun c3 => ?_)
    · have hf := k_T c3 hf
      refine lv_iload_n hx hb dX8_takingFence_31 rfl (lv_at hl 0 rfl) ?_
      obtain rfl := k_some hf
      exact k_iret hx hb hr hP hD hS dX8_takingFence_32 hlocks
    · have hf := k_F c3 hf
      refine lv_iconst (v := 0) hx hb dX8_takingFence_27 (by decide) ?_
      refine lv_goto (tgt := 32) hx hb dX8_takingFence_28 (by decide) ?_
      obtain rfl := k_some hf
      exact k_iret hx hb hr hP hD hS dX8_takingFence_32 hlocks
  · have hf := k_F c2 hf
    refine lv_iconst (v := 1) hx hb dX8_takingFence_15 (by decide) ?_
    refine lv_goto (tgt := 20) hx hb dX8_takingFence_16 (by decide) ?_
    refine va_put (D := D) (ci := 5) (v := .int 1) (ty := .int) (C := RX8) (T := TX8) (N := 21) hx hb hts in_X8 tyX8 tyX8_ok nmX8 hown hK hP hD hS 0 rfl rfl 11 (by decide) fl37 (fun _ h9 => h9) rfl (by decide +kernel) rfl rfl (Nat.le_of_ble_eq_true rfl) dX8_takingFence_20 (fun H locs hP hD hS => ?_)
    have hP : va_P D vwCl (wX8 cy h0 sa pa ka aa oa wa ca ta na mOp mIk mPa mRu 1 mTy mSp mFr mRe mCa mOr mLe rS rP rK rA rO rW rC rT rN) H := hP
    have hD : va_D A (wX8 cy h0 sa pa ka aa oa wa ca ta na mOp mIk mPa mRu 1 mTy mSp mFr mRe mCa mOr mLe rS rP rK rA rO rW rC rT rN) := hD
    refine lv_iload_n hx hb dX8_takingFence_23 rfl (lv_at hl 0 rfl) ?_
    refine lv_if_ge (tgt := 31) hx hb dX8_takingFence_24 (by decide) (fun c4 => ?_) (fun c4 => ?_)
    · have hf := k_T c4 hf
      refine lv_iload_n hx hb dX8_takingFence_31 rfl (lv_at hl 0 rfl) ?_
      obtain rfl := k_some hf
      exact k_iret hx hb hr hP hD hS dX8_takingFence_32 hlocks
    · have hf := k_F c4 hf
      refine lv_iconst (v := 0) hx hb dX8_takingFence_27 (by decide) ?_
      refine lv_goto (tgt := 32) hx hb dX8_takingFence_28 (by decide) ?_
      obtain rfl := k_some hf
      exact k_iret hx hb hr hP hD hS dX8_takingFence_32 hlocks
def f_X8_isSafe (n1 : Int32) (mLa : Int32) (rS : Nat → Int32) : Option (Int32 × Int32) :=
  (f_X8_isFence n1).bind fun v1 =>
  if v1 = 0 then
    if (1 : Int32) = 0 then
      (f_X8_safe (rS 0) n1).bind fun v4 =>
      if v4 = 0 then
        some (0, 1)
      else
        some (1, 1)
    else
      some (0, 1)
  else
    if (0 : Int32) = 0 then
      (f_X8_safe (rS 0) n1).bind fun v7 =>
      if v7 = 0 then
        some (0, 0)
      else
        some (1, 0)
    else
      some (0, 0)
abbrev rm_X8_isSafe : Room := { frames := 3, cells := 0, slots := 0, locals := 66 }
theorem hd_X8_isSafe : yX8_isSafe.cls = RX8 ∧ yX8_isSafe.cls ≠ "java/lang/invoke/MethodHandle" ∧ yX8_isSafe.cls ≠ "java/lang/invoke/VarHandle" ∧ (parseMethodDescriptor yX8_isSafe.desc).map (fun d => d.parameters.length) = some 1 := by decide +kernel
set_option maxHeartbeats 4000000 in
set_option maxRecDepth 100000 in
theorem c_X8_isSafe (l : Launch) (D : va_G) (cy : Nat → ClassId) (h0 sa pa ka aa oa wa ca ta na : Nat) (mOp : Int32) (mIk : Int32) (mPa : Int32) (mRu : Int32) (mLa : Int32) (mTy : Int32) (mSp : Int32) (mFr : Int32) (mRe : Int32) (mCa : Int32) (mOr : Int32) (mLe : Int32) (rS : Nat → Int32) (rP : Nat → Int32) (rK : Nat → Int32) (rA : Nat → Int32) (rO : Nat → Int32) (rW : Nat → Int32) (rC : Nat → Int32) (rT : Nat → Int32) (rN : Nat → Int32) (n1 : Int32) (r : Int32 × Int32) (hf : f_X8_isSafe n1 mLa rS = some r) : k_HMet l yX8_isSafe wsX8_isSafe rm_X8_isSafe D (k_tys cy) [.ref h0, .int n1] (wX8 cy h0 sa pa ka aa oa wa ca ta na mOp mIk mPa mRu mLa mTy mSp mFr mRe mCa mOr mLe rS rP rK rA rO rW rC rT rN) (some (.int r.1)) (wX8 cy h0 sa pa ka aa oa wa ca ta na mOp mIk mPa mRu r.2 mTy mSp mFr mRe mCa mOr mLe rS rP rK rA rO rW rC rT rN) := by
  refine k_heapOf (cc := cX8_isSafe) (maxL := 2) (ret := (some .boolean)) (by decide) rfl (Nat.le_of_ble_eq_true rfl) ?_
  intro p e s m args below meth c ls A hx hb hr hlocks hml hown hts hl hA hK hP hD hN
  have hl : lv_has ls 2 [(0, .ref h0), (1, .int n1)] := hl
  have hS : va_S A s.heap s.heap [] := va_S.rf
  have in_X8 : ∀ w ∈ wsX80, w ∈ wsX8_isSafe := by decide +kernel
  have fl7 := hts (.fieldLink RX8 7 "FencedBoxesModel" "s" "[I") (by decide +kernel)
  have fl37 := hts (.fieldLink RX8 37 "FencedBoxesModel" "last" "I") (by decide +kernel)
  unfold f_X8_isSafe at hf
  obtain ⟨H, eH⟩ : ∃ H, H = s.heap := ⟨_, rfl⟩
  obtain ⟨locs, elocs⟩ : ∃ L : List Loc, L = [] := ⟨_, rfl⟩
  have hP : va_P D vwCl (wX8 cy h0 sa pa ka aa oa wa ca ta na mOp mIk mPa mRu mLa mTy mSp mFr mRe mCa mOr mLe rS rP rK rA rO rW rC rT rN) H := by rw [eH]; exact hP
  have hS : va_S A s.heap H locs := by rw [eH, elocs]; exact hS
  refine k_here eH elocs ?_
  refine lv_aload_n hx hb dX8_isSafe_0 rfl (lv_at hl 0 rfl) ?_
  refine lv_iload_n hx hb dX8_isSafe_1 rfl (lv_at hl 1 rfl) ?_
  obtain ⟨v1, hv1, hf⟩ := k_B hf
  refine k_callS (As := [.int n1]) (rest := [.ref h0]) ⟨hx, hb, hml, hown, hts⟩ (c_X8_isFence l n1 v1 hv1) (va_cwS 1 hts gX8_isSafe_X8_isFence rfl rfl rfl hd_X8_isFence ⟨Nat.le_of_ble_eq_true rfl, Nat.le_of_ble_eq_true rfl⟩) rfl hl.1 rfl (Nat.le_of_ble_eq_true rfl) dX8_isSafe_2 ⟨Nat.zero_le _, Nat.zero_le _⟩ ?_
  refine lv_if_eq (tgt := 12) hx hb dX8_isSafe_5 (by decide) (fun c2 => ?_) (fun c2 => ?_)
  · have hf := k_T c2 hf
    refine lv_iconst (v := 1) hx hb dX8_isSafe_12 (by decide) ?_
    refine va_put (D := D) (ci := 5) (v := .int 1) (ty := .int) (C := RX8) (T := TX8) (N := 21) hx hb hts in_X8 tyX8 tyX8_ok nmX8 hown hK hP hD hS 0 rfl rfl 11 (by decide) fl37 (fun _ h9 => h9) rfl (by decide +kernel) rfl rfl (Nat.le_of_ble_eq_true rfl) dX8_isSafe_13 (fun H locs hP hD hS => ?_)
    have hP : va_P D vwCl (wX8 cy h0 sa pa ka aa oa wa ca ta na mOp mIk mPa mRu 1 mTy mSp mFr mRe mCa mOr mLe rS rP rK rA rO rW rC rT rN) H := hP
    have hD : va_D A (wX8 cy h0 sa pa ka aa oa wa ca ta na mOp mIk mPa mRu 1 mTy mSp mFr mRe mCa mOr mLe rS rP rK rA rO rW rC rT rN) := hD
    refine lv_aload_n hx hb dX8_isSafe_16 rfl (lv_at hl 0 rfl) ?_
    refine va_get (D := D) (ci := 5) (v := .int 1) (C := RX8) (T := TX8) (N := 21) hx hb hts in_X8 hown hK hP 0 rfl rfl 11 (by decide) fl37 (fun _ h9 => h9) rfl dX8_isSafe_17 ?_
    refine lv_if_ne (tgt := 40) hx hb dX8_isSafe_20 (by decide) (fun c3 => ?_) (fun c3 => ?_)
    · have hf := k_F c3 hf
      refine lv_iconst (v := 0) hx hb dX8_isSafe_40 (by decide) ?_
      obtain rfl := k_some hf
      exact k_zret (v := 0) hx hb hr rfl hP hD hS dX8_isSafe_41 hlocks
    · have hf := k_T c3 hf
      refine lv_aload_n hx hb dX8_isSafe_23 rfl (lv_at hl 0 rfl) ?_
      refine va_get (D := D) (ci := 5) (v := .ref sa) (C := RX8) (T := TX8) (N := 21) hx hb hts in_X8 hown hK hP 0 rfl rfl 0 (by decide) fl7 (fun _ h9 => h9) rfl dX8_isSafe_24 ?_
      refine lv_iconst (v := 0) hx hb dX8_isSafe_27 (by decide) ?_
      refine va_iald hx hb hK hP 1 0 rfl rfl (k_in (i := 0) (n := 19) (by decide +kernel)) dX8_isSafe_28 ?_
      refine k_name (v := rS 0) rfl ?_
      refine lv_iload_n hx hb dX8_isSafe_29 rfl (lv_at hl 1 rfl) ?_
      obtain ⟨v4, hv4, hf⟩ := k_B hf
      refine k_callS (As := [.int (rS 0), .int n1]) (rest := []) ⟨hx, hb, hml, hown, hts⟩ (c_X8_safe l (rS 0) n1 v4 hv4) (va_cwS 2 hts gX8_isSafe_X8_safe rfl rfl rfl hd_X8_safe ⟨Nat.le_of_ble_eq_true rfl, Nat.le_of_ble_eq_true rfl⟩) rfl hl.1 rfl (Nat.le_of_ble_eq_true rfl) dX8_isSafe_30 ⟨Nat.zero_le _, Nat.zero_le _⟩ ?_
      refine lv_if_eq (tgt := 40) hx hb dX8_isSafe_33 (by decide) (fun c5 => ?_) (fun c5 => ?_)
      · have hf := k_T c5 hf
        refine lv_iconst (v := 0) hx hb dX8_isSafe_40 (by decide) ?_
        obtain rfl := k_some hf
        exact k_zret (v := 0) hx hb hr rfl hP hD hS dX8_isSafe_41 hlocks
      · have hf := k_F c5 hf
        refine lv_iconst (v := 1) hx hb dX8_isSafe_36 (by decide) ?_
        refine lv_goto (tgt := 41) hx hb dX8_isSafe_37 (by decide) ?_
        obtain rfl := k_some hf
        exact k_zret (v := 1) hx hb hr rfl hP hD hS dX8_isSafe_41 hlocks
  · have hf := k_F c2 hf
    refine lv_iconst (v := 0) hx hb dX8_isSafe_8 (by decide) ?_
    refine lv_goto (tgt := 13) hx hb dX8_isSafe_9 (by decide) ?_
    refine va_put (D := D) (ci := 5) (v := .int 0) (ty := .int) (C := RX8) (T := TX8) (N := 21) hx hb hts in_X8 tyX8 tyX8_ok nmX8 hown hK hP hD hS 0 rfl rfl 11 (by decide) fl37 (fun _ h9 => h9) rfl (by decide +kernel) rfl rfl (Nat.le_of_ble_eq_true rfl) dX8_isSafe_13 (fun H locs hP hD hS => ?_)
    have hP : va_P D vwCl (wX8 cy h0 sa pa ka aa oa wa ca ta na mOp mIk mPa mRu 0 mTy mSp mFr mRe mCa mOr mLe rS rP rK rA rO rW rC rT rN) H := hP
    have hD : va_D A (wX8 cy h0 sa pa ka aa oa wa ca ta na mOp mIk mPa mRu 0 mTy mSp mFr mRe mCa mOr mLe rS rP rK rA rO rW rC rT rN) := hD
    refine lv_aload_n hx hb dX8_isSafe_16 rfl (lv_at hl 0 rfl) ?_
    refine va_get (D := D) (ci := 5) (v := .int 0) (C := RX8) (T := TX8) (N := 21) hx hb hts in_X8 hown hK hP 0 rfl rfl 11 (by decide) fl37 (fun _ h9 => h9) rfl dX8_isSafe_17 ?_
    refine lv_if_ne (tgt := 40) hx hb dX8_isSafe_20 (by decide) (fun c6 => ?_) (fun c6 => ?_)
    · have hf := k_F c6 hf
      refine lv_iconst (v := 0) hx hb dX8_isSafe_40 (by decide) ?_
      obtain rfl := k_some hf
      exact k_zret (v := 0) hx hb hr rfl hP hD hS dX8_isSafe_41 hlocks
    · have hf := k_T c6 hf
      refine lv_aload_n hx hb dX8_isSafe_23 rfl (lv_at hl 0 rfl) ?_
      refine va_get (D := D) (ci := 5) (v := .ref sa) (C := RX8) (T := TX8) (N := 21) hx hb hts in_X8 hown hK hP 0 rfl rfl 0 (by decide) fl7 (fun _ h9 => h9) rfl dX8_isSafe_24 ?_
      refine lv_iconst (v := 0) hx hb dX8_isSafe_27 (by decide) ?_
      refine va_iald hx hb hK hP 1 0 rfl rfl (k_in (i := 0) (n := 19) (by decide +kernel)) dX8_isSafe_28 ?_
      refine k_name (v := rS 0) rfl ?_
      refine lv_iload_n hx hb dX8_isSafe_29 rfl (lv_at hl 1 rfl) ?_
      obtain ⟨v7, hv7, hf⟩ := k_B hf
      refine k_callS (As := [.int (rS 0), .int n1]) (rest := []) ⟨hx, hb, hml, hown, hts⟩ (c_X8_safe l (rS 0) n1 v7 hv7) (va_cwS 2 hts gX8_isSafe_X8_safe rfl rfl rfl hd_X8_safe ⟨Nat.le_of_ble_eq_true rfl, Nat.le_of_ble_eq_true rfl⟩) rfl hl.1 rfl (Nat.le_of_ble_eq_true rfl) dX8_isSafe_30 ⟨Nat.zero_le _, Nat.zero_le _⟩ ?_
      refine lv_if_eq (tgt := 40) hx hb dX8_isSafe_33 (by decide) (fun c8 => ?_) (fun c8 => ?_)
      · have hf := k_T c8 hf
        refine lv_iconst (v := 0) hx hb dX8_isSafe_40 (by decide) ?_
        obtain rfl := k_some hf
        exact k_zret (v := 0) hx hb hr rfl hP hD hS dX8_isSafe_41 hlocks
      · have hf := k_F c8 hf
        refine lv_iconst (v := 1) hx hb dX8_isSafe_36 (by decide) ?_
        refine lv_goto (tgt := 41) hx hb dX8_isSafe_37 (by decide) ?_
        obtain rfl := k_some hf
        exact k_zret (v := 1) hx hb hr rfl hP hD hS dX8_isSafe_41 hlocks
def t_X8_safeFences_9 (rS : Nat → Int32) (s9 : Int32 × Int32) : Option ((Int32 × Int32) ⊕ (Int32 × Int32)) :=
  if 31 ≤ s9.2 then
    some (.inr (s9.1, s9.2))
  else
    (f_X8_safe (rS 0) s9.2).bind fun v2 =>
    if v2 = 0 then
      k_let (s9.1 + 0) fun y4 =>
      some (.inl (y4, s9.2 + 1))
    else
      k_let (s9.1 + 1) fun y5 =>
      some (.inl (y5, s9.2 + 1))
def f_X8_safeFences (mLa : Int32) (rS : Nat → Int32) : Option (Int32 × Int32) :=
  (k_loop (t_X8_safeFences_9 rS) 1000 (0, 0)).bind fun x6 =>
  some (x6.1, 0)
abbrev rm_X8_safeFences : Room := { frames := 3, cells := 0, slots := 0, locals := 66 }
theorem hd_X8_safeFences : yX8_safeFences.cls = RX8 ∧ yX8_safeFences.cls ≠ "java/lang/invoke/MethodHandle" ∧ yX8_safeFences.cls ≠ "java/lang/invoke/VarHandle" ∧ (parseMethodDescriptor yX8_safeFences.desc).map (fun d => d.parameters.length) = some 0 := by decide +kernel
set_option maxHeartbeats 4000000 in
set_option maxRecDepth 100000 in
theorem c_X8_safeFences (l : Launch) (D : va_G) (cy : Nat → ClassId) (h0 sa pa ka aa oa wa ca ta na : Nat) (mOp : Int32) (mIk : Int32) (mPa : Int32) (mRu : Int32) (mLa : Int32) (mTy : Int32) (mSp : Int32) (mFr : Int32) (mRe : Int32) (mCa : Int32) (mOr : Int32) (mLe : Int32) (rS : Nat → Int32) (rP : Nat → Int32) (rK : Nat → Int32) (rA : Nat → Int32) (rO : Nat → Int32) (rW : Nat → Int32) (rC : Nat → Int32) (rT : Nat → Int32) (rN : Nat → Int32)  (r : Int32 × Int32) (hf : f_X8_safeFences mLa rS = some r) : k_HMet l yX8_safeFences wsX8_safeFences rm_X8_safeFences D (k_tys cy) [.ref h0] (wX8 cy h0 sa pa ka aa oa wa ca ta na mOp mIk mPa mRu mLa mTy mSp mFr mRe mCa mOr mLe rS rP rK rA rO rW rC rT rN) (some (.int r.1)) (wX8 cy h0 sa pa ka aa oa wa ca ta na mOp mIk mPa mRu r.2 mTy mSp mFr mRe mCa mOr mLe rS rP rK rA rO rW rC rT rN) := by
  refine k_heapOf (cc := cX8_safeFences) (maxL := 3) (ret := (some .int)) (by decide) rfl (Nat.le_of_ble_eq_true rfl) ?_
  intro p e s m args below meth c ls A hx hb hr hlocks hml hown hts hl hA hK hP hD hN
  have hl : lv_has ls 3 [(0, .ref h0)] := hl
  have hS : va_S A s.heap s.heap [] := va_S.rf
  have in_X8 : ∀ w ∈ wsX80, w ∈ wsX8_safeFences := by decide +kernel
  have fl7 := hts (.fieldLink RX8 7 "FencedBoxesModel" "s" "[I") (by decide +kernel)
  have fl37 := hts (.fieldLink RX8 37 "FencedBoxesModel" "last" "I") (by decide +kernel)
  have L9 : ∀ (Q : State → Prop) (n : Nat) (mOp : Int32) (mIk : Int32) (mPa : Int32) (mRu : Int32) (mLa : Int32) (mTy : Int32) (mSp : Int32) (mFr : Int32) (mRe : Int32) (mCa : Int32) (mOr : Int32) (mLe : Int32) (rS : Nat → Int32) (rP : Nat → Int32) (rK : Nat → Int32) (rA : Nat → Int32) (rO : Nat → Int32) (rW : Nat → Int32) (rC : Nat → Int32) (rT : Nat → Int32) (rN : Nat → Int32) (s9 : Int32 × Int32) (q : (Int32 × Int32)), k_loop (t_X8_safeFences_9 rS) n s9 = some q → ∀ (ls : Array Slot) (H : Heap) (locs : List Loc), lv_has ls 3 [(0, .ref h0), (1, .int s9.1), (2, .int s9.2)] → va_P D vwCl (wX8 cy h0 sa pa ka aa oa wa ca ta na mOp mIk mPa mRu mLa mTy mSp mFr mRe mCa mOr mLe rS rP rK rA rO rW rC rT rN) H → va_D A (wX8 cy h0 sa pa ka aa oa wa ca ta na mOp mIk mPa mRu mLa mTy mSp mFr mRe mCa mOr mLe rS rP rK rA rO rW rC rT rN) → va_S A s.heap H locs → (∀ (ls : Array Slot) (H : Heap) (locs : List Loc), True → lv_has ls 3 [(1, .int q.1)] → va_P D vwCl (wX8 cy h0 sa pa ka aa oa wa ca ta na mOp mIk mPa mRu mLa mTy mSp mFr mRe mCa mOr mLe rS rP rK rA rO rW rC rT rN) H → va_D A (wX8 cy h0 sa pa ka aa oa wa ca ta na mOp mIk mPa mRu mLa mTy mSp mFr mRe mCa mOr mLe rS rP rK rA rO rW rC rT rN) → va_S A s.heap H locs → W p l e rm_X8_safeFences s m args below meth c H locs 0 0 Q (F0 m 42 ls [])) → W p l e rm_X8_safeFences s m args below meth c H locs 0 0 Q (F0 m 9 ls []) := by
    intro Q n
    induction n with
    | zero =>
      intro mOp mIk mPa mRu mLa mTy mSp mFr mRe mCa mOr mLe rS rP rK rA rO rW rC rT rN s9 q hq
      exact (k_loop0 hq).elim
    | succ n ih =>
      intro mOp mIk mPa mRu mLa mTy mSp mFr mRe mCa mOr mLe rS rP rK rA rO rW rC rT rN s9 q hq ls H locs hl hP hD hS kx 
      obtain ⟨x, hf, hq⟩ := k_loopE hq
      unfold t_X8_safeFences_9 at hf
      refine lv_iload_n hx hb dX8_safeFences_9 rfl (lv_at hl 2 rfl) ?_
      refine lv_bipush (v := 31) hx hb dX8_safeFences_10 (by decide) ?_
      refine lv_icmp_ge (tgt := 42) hx hb dX8_safeFences_12 (by decide) (fun c1 => ?_) (fun c1 => ?_)
      · have hf := k_T c1 hf
        obtain rfl := k_some hf
        obtain rfl := k_some (k_inr hq)
        exact kx ls H locs trivial (lv_sub hl [1] rfl) hP hD hS
      · have hf := k_F c1 hf
        refine lv_iload_n hx hb dX8_safeFences_15 rfl (lv_at hl 1 rfl) ?_
        refine lv_aload_n hx hb dX8_safeFences_16 rfl (lv_at hl 0 rfl) ?_
        refine va_get (D := D) (ci := 5) (v := .ref sa) (C := RX8) (T := TX8) (N := 21) hx hb hts in_X8 hown hK hP 0 rfl rfl 0 (by decide) fl7 (fun _ h9 => h9) rfl dX8_safeFences_17 ?_
        refine lv_iconst (v := 0) hx hb dX8_safeFences_20 (by decide) ?_
        refine va_iald hx hb hK hP 1 0 rfl rfl (k_in (i := 0) (n := 19) (by decide +kernel)) dX8_safeFences_21 ?_
        refine k_name (v := rS 0) rfl ?_
        refine lv_iload_n hx hb dX8_safeFences_22 rfl (lv_at hl 2 rfl) ?_
        obtain ⟨v2, hv2, hf⟩ := k_B hf
        refine k_callS (As := [.int (rS 0), .int s9.2]) (rest := [.int s9.1]) ⟨hx, hb, hml, hown, hts⟩ (c_X8_safe l (rS 0) s9.2 v2 hv2) (va_cwS 2 hts gX8_safeFences_X8_safe rfl rfl rfl hd_X8_safe ⟨Nat.le_of_ble_eq_true rfl, Nat.le_of_ble_eq_true rfl⟩) rfl hl.1 rfl (Nat.le_of_ble_eq_true rfl) dX8_safeFences_23 ⟨Nat.zero_le _, Nat.zero_le _⟩ ?_
        refine lv_if_eq (tgt := 33) hx hb dX8_safeFences_26 (by decide) (fun c3 => ?_) (fun c3 => ?_)
        · have hf := k_T c3 hf
          refine lv_iconst (v := 0) hx hb dX8_safeFences_33 (by decide) ?_
          refine lv_iadd hx hb dX8_safeFences_34 ?_
          obtain ⟨y4, ey4, hf⟩ := k_L hf
          refine k_name ey4 ?_
          refine lv_istore_n (lv' := [(1, .int y4), (0, .ref h0), (2, .int s9.2)]) hx hb dX8_safeFences_35 rfl hl (by decide) rfl (fun ls hl => ?_)
          refine lv_iinc (v := s9.2 + 1) (lv' := [(2, .int (s9.2 + 1)), (1, .int y4), (0, .ref h0)]) hx hb dX8_safeFences_36 hl (k := 2) rfl rfl (by decide) rfl (fun ls hl => ?_)
          refine lv_goto (tgt := 9) hx hb dX8_safeFences_39 (by decide) ?_
          obtain rfl := k_some hf
          exact ih mOp mIk mPa mRu mLa mTy mSp mFr mRe mCa mOr mLe rS rP rK rA rO rW rC rT rN (y4, s9.2 + 1) q (k_inl hq) ls H locs (lv_sub hl [2, 1, 0] rfl) hP hD hS kx 
        · have hf := k_F c3 hf
          refine lv_iconst (v := 1) hx hb dX8_safeFences_29 (by decide) ?_
          refine lv_goto (tgt := 34) hx hb dX8_safeFences_30 (by decide) ?_
          refine lv_iadd hx hb dX8_safeFences_34 ?_
          obtain ⟨y5, ey5, hf⟩ := k_L hf
          refine k_name ey5 ?_
          refine lv_istore_n (lv' := [(1, .int y5), (0, .ref h0), (2, .int s9.2)]) hx hb dX8_safeFences_35 rfl hl (by decide) rfl (fun ls hl => ?_)
          refine lv_iinc (v := s9.2 + 1) (lv' := [(2, .int (s9.2 + 1)), (1, .int y5), (0, .ref h0)]) hx hb dX8_safeFences_36 hl (k := 2) rfl rfl (by decide) rfl (fun ls hl => ?_)
          refine lv_goto (tgt := 9) hx hb dX8_safeFences_39 (by decide) ?_
          obtain rfl := k_some hf
          exact ih mOp mIk mPa mRu mLa mTy mSp mFr mRe mCa mOr mLe rS rP rK rA rO rW rC rT rN (y5, s9.2 + 1) q (k_inl hq) ls H locs (lv_sub hl [2, 1, 0] rfl) hP hD hS kx 
  unfold f_X8_safeFences at hf
  obtain ⟨H, eH⟩ : ∃ H, H = s.heap := ⟨_, rfl⟩
  obtain ⟨locs, elocs⟩ : ∃ L : List Loc, L = [] := ⟨_, rfl⟩
  have hP : va_P D vwCl (wX8 cy h0 sa pa ka aa oa wa ca ta na mOp mIk mPa mRu mLa mTy mSp mFr mRe mCa mOr mLe rS rP rK rA rO rW rC rT rN) H := by rw [eH]; exact hP
  have hS : va_S A s.heap H locs := by rw [eH, elocs]; exact hS
  refine k_here eH elocs ?_
  refine lv_aload_n hx hb dX8_safeFences_0 rfl (lv_at hl 0 rfl) ?_
  refine lv_iconst (v := 0) hx hb dX8_safeFences_1 (by decide) ?_
  refine va_put (D := D) (ci := 5) (v := .int 0) (ty := .int) (C := RX8) (T := TX8) (N := 21) hx hb hts in_X8 tyX8 tyX8_ok nmX8 hown hK hP hD hS 0 rfl rfl 11 (by decide) fl37 (fun _ h9 => h9) rfl (by decide +kernel) rfl rfl (Nat.le_of_ble_eq_true rfl) dX8_safeFences_2 (fun H locs hP hD hS => ?_)
  have hP : va_P D vwCl (wX8 cy h0 sa pa ka aa oa wa ca ta na mOp mIk mPa mRu 0 mTy mSp mFr mRe mCa mOr mLe rS rP rK rA rO rW rC rT rN) H := hP
  have hD : va_D A (wX8 cy h0 sa pa ka aa oa wa ca ta na mOp mIk mPa mRu 0 mTy mSp mFr mRe mCa mOr mLe rS rP rK rA rO rW rC rT rN) := hD
  refine lv_iconst (v := 0) hx hb dX8_safeFences_5 (by decide) ?_
  refine lv_istore_n (lv' := [(1, .int 0), (0, .ref h0)]) hx hb dX8_safeFences_6 rfl hl (by decide) rfl (fun ls hl => ?_)
  refine lv_iconst (v := 0) hx hb dX8_safeFences_7 (by decide) ?_
  refine lv_istore_n (lv' := [(2, .int 0), (1, .int 0), (0, .ref h0)]) hx hb dX8_safeFences_8 rfl hl (by decide) rfl (fun ls hl => ?_)
  obtain ⟨x6, hx6, hf⟩ := k_B hf
  refine L9 _ 1000 mOp mIk mPa mRu 0 mTy mSp mFr mRe mCa mOr mLe rS rP rK rA rO rW rC rT rN (0, 0) x6 hx6 ls H locs (lv_sub hl [2, 1, 0] rfl) hP hD hS ?_
  · intro ls H locs _ hl hP hD hS
    refine lv_iload_n hx hb dX8_safeFences_42 rfl (lv_at hl 0 rfl) ?_
    obtain rfl := k_some hf
    exact k_iret hx hb hr hP hD hS dX8_safeFences_43 hlocks
def t_X8_safeInRow_19  (s19 : Int32 × Int32 × Int32) : Option ((Int32 × Int32 × Int32) ⊕ (Int32 × Int32 × Int32)) :=
  if s19.2.2 < 0 then
    some (.inr (s19.1, s19.2.1, s19.2.2))
  else
    k_let (s19.1 ||| ((1 : Int32) <<< (s19.2.2 &&& 31))) fun y4 =>
    (f_X8_firstSafe y4).bind fun v5 =>
    some (.inl (y4, s19.2.1 + 1, v5))
def f_X8_safeInRow (mLa : Int32) (rS : Nat → Int32) : Option (Int32 × Int32) :=
  k_let (rS 0) fun y1 =>
  (f_X8_firstSafe y1).bind fun v2 =>
  (k_loop (t_X8_safeInRow_19 ) 1000 (y1, 0, v2)).bind fun x6 =>
  some (x6.2.1, 0)
abbrev rm_X8_safeInRow : Room := { frames := 4, cells := 0, slots := 0, locals := 87 }
theorem hd_X8_safeInRow : yX8_safeInRow.cls = RX8 ∧ yX8_safeInRow.cls ≠ "java/lang/invoke/MethodHandle" ∧ yX8_safeInRow.cls ≠ "java/lang/invoke/VarHandle" ∧ (parseMethodDescriptor yX8_safeInRow.desc).map (fun d => d.parameters.length) = some 0 := by decide +kernel
set_option maxHeartbeats 4000000 in
set_option maxRecDepth 100000 in
theorem c_X8_safeInRow (l : Launch) (D : va_G) (cy : Nat → ClassId) (h0 sa pa ka aa oa wa ca ta na : Nat) (mOp : Int32) (mIk : Int32) (mPa : Int32) (mRu : Int32) (mLa : Int32) (mTy : Int32) (mSp : Int32) (mFr : Int32) (mRe : Int32) (mCa : Int32) (mOr : Int32) (mLe : Int32) (rS : Nat → Int32) (rP : Nat → Int32) (rK : Nat → Int32) (rA : Nat → Int32) (rO : Nat → Int32) (rW : Nat → Int32) (rC : Nat → Int32) (rT : Nat → Int32) (rN : Nat → Int32)  (r : Int32 × Int32) (hf : f_X8_safeInRow mLa rS = some r) : k_HMet l yX8_safeInRow wsX8_safeInRow rm_X8_safeInRow D (k_tys cy) [.ref h0] (wX8 cy h0 sa pa ka aa oa wa ca ta na mOp mIk mPa mRu mLa mTy mSp mFr mRe mCa mOr mLe rS rP rK rA rO rW rC rT rN) (some (.int r.1)) (wX8 cy h0 sa pa ka aa oa wa ca ta na mOp mIk mPa mRu r.2 mTy mSp mFr mRe mCa mOr mLe rS rP rK rA rO rW rC rT rN) := by
  refine k_heapOf (cc := cX8_safeInRow) (maxL := 4) (ret := (some .int)) (by decide) rfl (Nat.le_of_ble_eq_true rfl) ?_
  intro p e s m args below meth c ls A hx hb hr hlocks hml hown hts hl hA hK hP hD hN
  have hl : lv_has ls 4 [(0, .ref h0)] := hl
  have hS : va_S A s.heap s.heap [] := va_S.rf
  have in_X8 : ∀ w ∈ wsX80, w ∈ wsX8_safeInRow := by decide +kernel
  have fl7 := hts (.fieldLink RX8 7 "FencedBoxesModel" "s" "[I") (by decide +kernel)
  have fl37 := hts (.fieldLink RX8 37 "FencedBoxesModel" "last" "I") (by decide +kernel)
  have L19 : ∀ (Q : State → Prop) (n : Nat) (mOp : Int32) (mIk : Int32) (mPa : Int32) (mRu : Int32) (mLa : Int32) (mTy : Int32) (mSp : Int32) (mFr : Int32) (mRe : Int32) (mCa : Int32) (mOr : Int32) (mLe : Int32) (rS : Nat → Int32) (rP : Nat → Int32) (rK : Nat → Int32) (rA : Nat → Int32) (rO : Nat → Int32) (rW : Nat → Int32) (rC : Nat → Int32) (rT : Nat → Int32) (rN : Nat → Int32) (s19 : Int32 × Int32 × Int32) (q : (Int32 × Int32 × Int32)), k_loop (t_X8_safeInRow_19 ) n s19 = some q → ∀ (ls : Array Slot) (H : Heap) (locs : List Loc), lv_has ls 4 [(1, .int s19.1), (2, .int s19.2.1), (3, .int s19.2.2)] → va_P D vwCl (wX8 cy h0 sa pa ka aa oa wa ca ta na mOp mIk mPa mRu mLa mTy mSp mFr mRe mCa mOr mLe rS rP rK rA rO rW rC rT rN) H → va_D A (wX8 cy h0 sa pa ka aa oa wa ca ta na mOp mIk mPa mRu mLa mTy mSp mFr mRe mCa mOr mLe rS rP rK rA rO rW rC rT rN) → va_S A s.heap H locs → (∀ (ls : Array Slot) (H : Heap) (locs : List Loc), True → lv_has ls 4 [(2, .int q.2.1)] → va_P D vwCl (wX8 cy h0 sa pa ka aa oa wa ca ta na mOp mIk mPa mRu mLa mTy mSp mFr mRe mCa mOr mLe rS rP rK rA rO rW rC rT rN) H → va_D A (wX8 cy h0 sa pa ka aa oa wa ca ta na mOp mIk mPa mRu mLa mTy mSp mFr mRe mCa mOr mLe rS rP rK rA rO rW rC rT rN) → va_S A s.heap H locs → W p l e rm_X8_safeInRow s m args below meth c H locs 0 0 Q (F0 m 40 ls [])) → W p l e rm_X8_safeInRow s m args below meth c H locs 0 0 Q (F0 m 19 ls []) := by
    intro Q n
    induction n with
    | zero =>
      intro mOp mIk mPa mRu mLa mTy mSp mFr mRe mCa mOr mLe rS rP rK rA rO rW rC rT rN s19 q hq
      exact (k_loop0 hq).elim
    | succ n ih =>
      intro mOp mIk mPa mRu mLa mTy mSp mFr mRe mCa mOr mLe rS rP rK rA rO rW rC rT rN s19 q hq ls H locs hl hP hD hS kx 
      obtain ⟨x, hf, hq⟩ := k_loopE hq
      unfold t_X8_safeInRow_19 at hf
      refine lv_iload_n hx hb dX8_safeInRow_19 rfl (lv_at hl 2 rfl) ?_
      refine lv_if_lt (tgt := 40) hx hb dX8_safeInRow_20 (by decide) (fun c3 => ?_) (fun c3 => ?_)
      · have hf := k_T c3 hf
        obtain rfl := k_some hf
        obtain rfl := k_some (k_inr hq)
        exact kx ls H locs trivial (lv_sub hl [1] rfl) hP hD hS
      · have hf := k_F c3 hf
        refine lv_iload_n hx hb dX8_safeInRow_23 rfl (lv_at hl 0 rfl) ?_
        refine lv_iconst (v := 1) hx hb dX8_safeInRow_24 (by decide) ?_
        refine lv_iload_n hx hb dX8_safeInRow_25 rfl (lv_at hl 2 rfl) ?_
        refine lv_ishl hx hb dX8_safeInRow_26 ?_
        refine lv_ior hx hb dX8_safeInRow_27 ?_
        obtain ⟨y4, ey4, hf⟩ := k_L hf
        refine k_name ey4 ?_
        refine lv_istore_n (lv' := [(1, .int y4), (2, .int s19.2.1), (3, .int s19.2.2)]) hx hb dX8_safeInRow_28 rfl hl (by decide) rfl (fun ls hl => ?_)
        refine lv_iinc (v := s19.2.1 + 1) (lv' := [(2, .int (s19.2.1 + 1)), (1, .int y4), (3, .int s19.2.2)]) hx hb dX8_safeInRow_29 hl (k := 1) rfl rfl (by decide) rfl (fun ls hl => ?_)
        refine lv_iload_n hx hb dX8_safeInRow_32 rfl (lv_at hl 1 rfl) ?_
        obtain ⟨v5, hv5, hf⟩ := k_B hf
        refine k_callS (As := [.int y4]) (rest := []) ⟨hx, hb, hml, hown, hts⟩ (c_X8_firstSafe l y4 v5 hv5) (va_cwS 1 hts gX8_safeInRow_X8_firstSafe rfl rfl rfl hd_X8_firstSafe ⟨Nat.le_of_ble_eq_true rfl, Nat.le_of_ble_eq_true rfl⟩) rfl hl.1 rfl (Nat.le_of_ble_eq_true rfl) dX8_safeInRow_33 ⟨Nat.zero_le _, Nat.zero_le _⟩ ?_
        refine lv_istore_n (lv' := [(3, .int v5), (2, .int (s19.2.1 + 1)), (1, .int y4)]) hx hb dX8_safeInRow_36 rfl hl (by decide) rfl (fun ls hl => ?_)
        refine lv_goto (tgt := 19) hx hb dX8_safeInRow_37 (by decide) ?_
        obtain rfl := k_some hf
        exact ih mOp mIk mPa mRu mLa mTy mSp mFr mRe mCa mOr mLe rS rP rK rA rO rW rC rT rN (y4, s19.2.1 + 1, v5) q (k_inl hq) ls H locs (lv_sub hl [2, 1, 0] rfl) hP hD hS kx 
  unfold f_X8_safeInRow at hf
  obtain ⟨H, eH⟩ : ∃ H, H = s.heap := ⟨_, rfl⟩
  obtain ⟨locs, elocs⟩ : ∃ L : List Loc, L = [] := ⟨_, rfl⟩
  have hP : va_P D vwCl (wX8 cy h0 sa pa ka aa oa wa ca ta na mOp mIk mPa mRu mLa mTy mSp mFr mRe mCa mOr mLe rS rP rK rA rO rW rC rT rN) H := by rw [eH]; exact hP
  have hS : va_S A s.heap H locs := by rw [eH, elocs]; exact hS
  refine k_here eH elocs ?_
  refine lv_aload_n hx hb dX8_safeInRow_0 rfl (lv_at hl 0 rfl) ?_
  refine lv_iconst (v := 0) hx hb dX8_safeInRow_1 (by decide) ?_
  refine va_put (D := D) (ci := 5) (v := .int 0) (ty := .int) (C := RX8) (T := TX8) (N := 21) hx hb hts in_X8 tyX8 tyX8_ok nmX8 hown hK hP hD hS 0 rfl rfl 11 (by decide) fl37 (fun _ h9 => h9) rfl (by decide +kernel) rfl rfl (Nat.le_of_ble_eq_true rfl) dX8_safeInRow_2 (fun H locs hP hD hS => ?_)
  have hP : va_P D vwCl (wX8 cy h0 sa pa ka aa oa wa ca ta na mOp mIk mPa mRu 0 mTy mSp mFr mRe mCa mOr mLe rS rP rK rA rO rW rC rT rN) H := hP
  have hD : va_D A (wX8 cy h0 sa pa ka aa oa wa ca ta na mOp mIk mPa mRu 0 mTy mSp mFr mRe mCa mOr mLe rS rP rK rA rO rW rC rT rN) := hD
  refine lv_aload_n hx hb dX8_safeInRow_5 rfl (lv_at hl 0 rfl) ?_
  refine va_get (D := D) (ci := 5) (v := .ref sa) (C := RX8) (T := TX8) (N := 21) hx hb hts in_X8 hown hK hP 0 rfl rfl 0 (by decide) fl7 (fun _ h9 => h9) rfl dX8_safeInRow_6 ?_
  refine lv_iconst (v := 0) hx hb dX8_safeInRow_9 (by decide) ?_
  refine va_iald hx hb hK hP 1 0 rfl rfl (k_in (i := 0) (n := 19) (by decide +kernel)) dX8_safeInRow_10 ?_
  refine k_name (v := rS 0) rfl ?_
  obtain ⟨y1, ey1, hf⟩ := k_L hf
  refine k_name ey1 ?_
  refine lv_istore_n (lv' := [(1, .int y1), (0, .ref h0)]) hx hb dX8_safeInRow_11 rfl hl (by decide) rfl (fun ls hl => ?_)
  refine lv_iconst (v := 0) hx hb dX8_safeInRow_12 (by decide) ?_
  refine lv_istore_n (lv' := [(2, .int 0), (1, .int y1), (0, .ref h0)]) hx hb dX8_safeInRow_13 rfl hl (by decide) rfl (fun ls hl => ?_)
  refine lv_iload_n hx hb dX8_safeInRow_14 rfl (lv_at hl 1 rfl) ?_
  obtain ⟨v2, hv2, hf⟩ := k_B hf
  refine k_callS (As := [.int y1]) (rest := []) ⟨hx, hb, hml, hown, hts⟩ (c_X8_firstSafe l y1 v2 hv2) (va_cwS 1 hts gX8_safeInRow_X8_firstSafe rfl rfl rfl hd_X8_firstSafe ⟨Nat.le_of_ble_eq_true rfl, Nat.le_of_ble_eq_true rfl⟩) rfl hl.1 rfl (Nat.le_of_ble_eq_true rfl) dX8_safeInRow_15 ⟨Nat.zero_le _, Nat.zero_le _⟩ ?_
  refine lv_istore_n (lv' := [(3, .int v2), (2, .int 0), (1, .int y1), (0, .ref h0)]) hx hb dX8_safeInRow_18 rfl hl (by decide) rfl (fun ls hl => ?_)
  obtain ⟨x6, hx6, hf⟩ := k_B hf
  refine L19 _ 1000 mOp mIk mPa mRu 0 mTy mSp mFr mRe mCa mOr mLe rS rP rK rA rO rW rC rT rN (y1, 0, v2) x6 hx6 ls H locs (lv_sub hl [2, 1, 0] rfl) hP hD hS ?_
  · intro ls H locs _ hl hP hD hS
    refine lv_iload_n hx hb dX8_safeInRow_40 rfl (lv_at hl 0 rfl) ?_
    obtain rfl := k_some hf
    exact k_iret hx hb hr hP hD hS dX8_safeInRow_41 hlocks
def f_X8_gives (n1 : Int32) (mLa : Int32) (rS : Nat → Int32) : Option (Int32 × Int32) :=
  (f_X8_isFence n1).bind fun v1 =>
  if v1 = 0 then
    if (1 : Int32) = 0 then
      (f_X8_takes ((rS 0) ||| ((1 : Int32) <<< (n1 &&& 31)))).bind fun v10 =>
      some (v10, 1)
    else
      some (0, 1)
  else
    (f_X8_isIn (rS 0) n1).bind fun v3 =>
    if v3 = 0 then
      if (0 : Int32) = 0 then
        (f_X8_takes ((rS 0) ||| ((1 : Int32) <<< (n1 &&& 31)))).bind fun v6 =>
        some (v6, 0)
      else
        some (0, 0)
    else
      if (2 : Int32) = 0 then
        (f_X8_takes ((rS 0) ||| ((1 : Int32) <<< (n1 &&& 31)))).bind fun v8 =>
        some (v8, 2)
      else
        some (0, 2)
abbrev rm_X8_gives : Room := { frames := 5, cells := 0, slots := 0, locals := 110 }
theorem hd_X8_gives : yX8_gives.cls = RX8 ∧ yX8_gives.cls ≠ "java/lang/invoke/MethodHandle" ∧ yX8_gives.cls ≠ "java/lang/invoke/VarHandle" ∧ (parseMethodDescriptor yX8_gives.desc).map (fun d => d.parameters.length) = some 1 := by decide +kernel
set_option maxHeartbeats 4000000 in
set_option maxRecDepth 100000 in
theorem c_X8_gives (l : Launch) (D : va_G) (cy : Nat → ClassId) (h0 sa pa ka aa oa wa ca ta na : Nat) (mOp : Int32) (mIk : Int32) (mPa : Int32) (mRu : Int32) (mLa : Int32) (mTy : Int32) (mSp : Int32) (mFr : Int32) (mRe : Int32) (mCa : Int32) (mOr : Int32) (mLe : Int32) (rS : Nat → Int32) (rP : Nat → Int32) (rK : Nat → Int32) (rA : Nat → Int32) (rO : Nat → Int32) (rW : Nat → Int32) (rC : Nat → Int32) (rT : Nat → Int32) (rN : Nat → Int32) (n1 : Int32) (r : Int32 × Int32) (hf : f_X8_gives n1 mLa rS = some r) : k_HMet l yX8_gives wsX8_gives rm_X8_gives D (k_tys cy) [.ref h0, .int n1] (wX8 cy h0 sa pa ka aa oa wa ca ta na mOp mIk mPa mRu mLa mTy mSp mFr mRe mCa mOr mLe rS rP rK rA rO rW rC rT rN) (some (.int r.1)) (wX8 cy h0 sa pa ka aa oa wa ca ta na mOp mIk mPa mRu r.2 mTy mSp mFr mRe mCa mOr mLe rS rP rK rA rO rW rC rT rN) := by
  refine k_heapOf (cc := cX8_gives) (maxL := 2) (ret := (some .int)) (by decide) rfl (Nat.le_of_ble_eq_true rfl) ?_
  intro p e s m args below meth c ls A hx hb hr hlocks hml hown hts hl hA hK hP hD hN
  have hl : lv_has ls 2 [(0, .ref h0), (1, .int n1)] := hl
  have hS : va_S A s.heap s.heap [] := va_S.rf
  have in_X8 : ∀ w ∈ wsX80, w ∈ wsX8_gives := by decide +kernel
  have fl7 := hts (.fieldLink RX8 7 "FencedBoxesModel" "s" "[I") (by decide +kernel)
  have fl37 := hts (.fieldLink RX8 37 "FencedBoxesModel" "last" "I") (by decide +kernel)
  unfold f_X8_gives at hf
  obtain ⟨H, eH⟩ : ∃ H, H = s.heap := ⟨_, rfl⟩
  obtain ⟨locs, elocs⟩ : ∃ L : List Loc, L = [] := ⟨_, rfl⟩
  have hP : va_P D vwCl (wX8 cy h0 sa pa ka aa oa wa ca ta na mOp mIk mPa mRu mLa mTy mSp mFr mRe mCa mOr mLe rS rP rK rA rO rW rC rT rN) H := by rw [eH]; exact hP
  have hS : va_S A s.heap H locs := by rw [eH, elocs]; exact hS
  refine k_here eH elocs ?_
  refine lv_aload_n hx hb dX8_gives_0 rfl (lv_at hl 0 rfl) ?_
  refine lv_iload_n hx hb dX8_gives_1 rfl (lv_at hl 1 rfl) ?_
  obtain ⟨v1, hv1, hf⟩ := k_B hf
  refine k_callS (As := [.int n1]) (rest := [.ref h0]) ⟨hx, hb, hml, hown, hts⟩ (c_X8_isFence l n1 v1 hv1) (va_cwS 1 hts gX8_gives_X8_isFence rfl rfl rfl hd_X8_isFence ⟨Nat.le_of_ble_eq_true rfl, Nat.le_of_ble_eq_true rfl⟩) rfl hl.1 rfl (Nat.le_of_ble_eq_true rfl) dX8_gives_2 ⟨Nat.zero_le _, Nat.zero_le _⟩ ?_
  refine lv_if_ne (tgt := 12) hx hb dX8_gives_5 (by decide) (fun c2 => ?_) (fun c2 => ?_)
  · have hf := k_F c2 hf
    refine lv_aload_n hx hb dX8_gives_12 rfl (lv_at hl 0 rfl) ?_
    refine va_get (D := D) (ci := 5) (v := .ref sa) (C := RX8) (T := TX8) (N := 21) hx hb hts in_X8 hown hK hP 0 rfl rfl 0 (by decide) fl7 (fun _ h9 => h9) rfl dX8_gives_13 ?_
    refine lv_iconst (v := 0) hx hb dX8_gives_16 (by decide) ?_
    refine va_iald hx hb hK hP 1 0 rfl rfl (k_in (i := 0) (n := 19) (by decide +kernel)) dX8_gives_17 ?_
    refine k_name (v := rS 0) rfl ?_
    refine lv_iload_n hx hb dX8_gives_18 rfl (lv_at hl 1 rfl) ?_
    obtain ⟨v3, hv3, hf⟩ := k_B hf
    refine k_callS (As := [.int (rS 0), .int n1]) (rest := [.ref h0]) ⟨hx, hb, hml, hown, hts⟩ (c_X8_isIn l (rS 0) n1 v3 hv3) (va_cwS 2 hts gX8_gives_X8_isIn rfl rfl rfl hd_X8_isIn ⟨Nat.le_of_ble_eq_true rfl, Nat.le_of_ble_eq_true rfl⟩) rfl hl.1 rfl (Nat.le_of_ble_eq_true rfl) dX8_gives_19 ⟨Nat.zero_le _, Nat.zero_le _⟩ ?_
    refine lv_if_eq (tgt := 29) hx hb dX8_gives_22 (by decide) (fun c4 => ?_) (fun c4 => ?_)
    · have hf := k_T c4 hf
      refine lv_iconst (v := 0) hx hb dX8_gives_29 (by decide) ?_
      refine va_put (D := D) (ci := 5) (v := .int 0) (ty := .int) (C := RX8) (T := TX8) (N := 21) hx hb hts in_X8 tyX8 tyX8_ok nmX8 hown hK hP hD hS 0 rfl rfl 11 (by decide) fl37 (fun _ h9 => h9) rfl (by decide +kernel) rfl rfl (Nat.le_of_ble_eq_true rfl) dX8_gives_30 (fun H locs hP hD hS => ?_)
      have hP : va_P D vwCl (wX8 cy h0 sa pa ka aa oa wa ca ta na mOp mIk mPa mRu 0 mTy mSp mFr mRe mCa mOr mLe rS rP rK rA rO rW rC rT rN) H := hP
      have hD : va_D A (wX8 cy h0 sa pa ka aa oa wa ca ta na mOp mIk mPa mRu 0 mTy mSp mFr mRe mCa mOr mLe rS rP rK rA rO rW rC rT rN) := hD
      refine lv_aload_n hx hb dX8_gives_33 rfl (lv_at hl 0 rfl) ?_
      refine va_get (D := D) (ci := 5) (v := .int 0) (C := RX8) (T := TX8) (N := 21) hx hb hts in_X8 hown hK hP 0 rfl rfl 11 (by decide) fl37 (fun _ h9 => h9) rfl dX8_gives_34 ?_
      refine lv_if_ne (tgt := 56) hx hb dX8_gives_37 (by decide) (fun c5 => ?_) (fun c5 => ?_)
      · have hf := k_F c5 hf
        refine lv_iconst (v := 0) hx hb dX8_gives_56 (by decide) ?_
        obtain rfl := k_some hf
        exact k_iret hx hb hr hP hD hS dX8_gives_57 hlocks
      · have hf := k_T c5 hf
        refine lv_aload_n hx hb dX8_gives_40 rfl (lv_at hl 0 rfl) ?_
        refine va_get (D := D) (ci := 5) (v := .ref sa) (C := RX8) (T := TX8) (N := 21) hx hb hts in_X8 hown hK hP 0 rfl rfl 0 (by decide) fl7 (fun _ h9 => h9) rfl dX8_gives_41 ?_
        refine lv_iconst (v := 0) hx hb dX8_gives_44 (by decide) ?_
        refine va_iald hx hb hK hP 1 0 rfl rfl (k_in (i := 0) (n := 19) (by decide +kernel)) dX8_gives_45 ?_
        refine k_name (v := rS 0) rfl ?_
        refine lv_iconst (v := 1) hx hb dX8_gives_46 (by decide) ?_
        refine lv_iload_n hx hb dX8_gives_47 rfl (lv_at hl 1 rfl) ?_
        refine lv_ishl hx hb dX8_gives_48 ?_
        refine lv_ior hx hb dX8_gives_49 ?_
        obtain ⟨v6, hv6, hf⟩ := k_B hf
        refine k_callS (As := [.int ((rS 0) ||| ((1 : Int32) <<< (n1 &&& 31)))]) (rest := []) ⟨hx, hb, hml, hown, hts⟩ (c_X8_takes l ((rS 0) ||| ((1 : Int32) <<< (n1 &&& 31))) v6 hv6) (va_cwS 1 hts gX8_gives_X8_takes rfl rfl rfl hd_X8_takes ⟨Nat.le_of_ble_eq_true rfl, Nat.le_of_ble_eq_true rfl⟩) rfl hl.1 rfl (Nat.le_of_ble_eq_true rfl) dX8_gives_50 ⟨Nat.zero_le _, Nat.zero_le _⟩ ?_
        refine lv_goto (tgt := 57) hx hb dX8_gives_53 (by decide) ?_
        obtain rfl := k_some hf
        exact k_iret hx hb hr hP hD hS dX8_gives_57 hlocks
    · have hf := k_F c4 hf
      refine lv_iconst (v := 2) hx hb dX8_gives_25 (by decide) ?_
      refine lv_goto (tgt := 30) hx hb dX8_gives_26 (by decide) ?_
      refine va_put (D := D) (ci := 5) (v := .int 2) (ty := .int) (C := RX8) (T := TX8) (N := 21) hx hb hts in_X8 tyX8 tyX8_ok nmX8 hown hK hP hD hS 0 rfl rfl 11 (by decide) fl37 (fun _ h9 => h9) rfl (by decide +kernel) rfl rfl (Nat.le_of_ble_eq_true rfl) dX8_gives_30 (fun H locs hP hD hS => ?_)
      have hP : va_P D vwCl (wX8 cy h0 sa pa ka aa oa wa ca ta na mOp mIk mPa mRu 2 mTy mSp mFr mRe mCa mOr mLe rS rP rK rA rO rW rC rT rN) H := hP
      have hD : va_D A (wX8 cy h0 sa pa ka aa oa wa ca ta na mOp mIk mPa mRu 2 mTy mSp mFr mRe mCa mOr mLe rS rP rK rA rO rW rC rT rN) := hD
      refine lv_aload_n hx hb dX8_gives_33 rfl (lv_at hl 0 rfl) ?_
      refine va_get (D := D) (ci := 5) (v := .int 2) (C := RX8) (T := TX8) (N := 21) hx hb hts in_X8 hown hK hP 0 rfl rfl 11 (by decide) fl37 (fun _ h9 => h9) rfl dX8_gives_34 ?_
      refine lv_if_ne (tgt := 56) hx hb dX8_gives_37 (by decide) (fun c7 => ?_) (fun c7 => ?_)
      · have hf := k_F c7 hf
        refine lv_iconst (v := 0) hx hb dX8_gives_56 (by decide) ?_
        obtain rfl := k_some hf
        exact k_iret hx hb hr hP hD hS dX8_gives_57 hlocks
      · have hf := k_T c7 hf
        refine lv_aload_n hx hb dX8_gives_40 rfl (lv_at hl 0 rfl) ?_
        refine va_get (D := D) (ci := 5) (v := .ref sa) (C := RX8) (T := TX8) (N := 21) hx hb hts in_X8 hown hK hP 0 rfl rfl 0 (by decide) fl7 (fun _ h9 => h9) rfl dX8_gives_41 ?_
        refine lv_iconst (v := 0) hx hb dX8_gives_44 (by decide) ?_
        refine va_iald hx hb hK hP 1 0 rfl rfl (k_in (i := 0) (n := 19) (by decide +kernel)) dX8_gives_45 ?_
        refine k_name (v := rS 0) rfl ?_
        refine lv_iconst (v := 1) hx hb dX8_gives_46 (by decide) ?_
        refine lv_iload_n hx hb dX8_gives_47 rfl (lv_at hl 1 rfl) ?_
        refine lv_ishl hx hb dX8_gives_48 ?_
        refine lv_ior hx hb dX8_gives_49 ?_
        obtain ⟨v8, hv8, hf⟩ := k_B hf
        refine k_callS (As := [.int ((rS 0) ||| ((1 : Int32) <<< (n1 &&& 31)))]) (rest := []) ⟨hx, hb, hml, hown, hts⟩ (c_X8_takes l ((rS 0) ||| ((1 : Int32) <<< (n1 &&& 31))) v8 hv8) (va_cwS 1 hts gX8_gives_X8_takes rfl rfl rfl hd_X8_takes ⟨Nat.le_of_ble_eq_true rfl, Nat.le_of_ble_eq_true rfl⟩) rfl hl.1 rfl (Nat.le_of_ble_eq_true rfl) dX8_gives_50 ⟨Nat.zero_le _, Nat.zero_le _⟩ ?_
        refine lv_goto (tgt := 57) hx hb dX8_gives_53 (by decide) ?_
        obtain rfl := k_some hf
        exact k_iret hx hb hr hP hD hS dX8_gives_57 hlocks
  · have hf := k_T c2 hf
    refine lv_iconst (v := 1) hx hb dX8_gives_8 (by decide) ?_
    refine lv_goto (tgt := 30) hx hb dX8_gives_9 (by decide) ?_
    refine va_put (D := D) (ci := 5) (v := .int 1) (ty := .int) (C := RX8) (T := TX8) (N := 21) hx hb hts in_X8 tyX8 tyX8_ok nmX8 hown hK hP hD hS 0 rfl rfl 11 (by decide) fl37 (fun _ h9 => h9) rfl (by decide +kernel) rfl rfl (Nat.le_of_ble_eq_true rfl) dX8_gives_30 (fun H locs hP hD hS => ?_)
    have hP : va_P D vwCl (wX8 cy h0 sa pa ka aa oa wa ca ta na mOp mIk mPa mRu 1 mTy mSp mFr mRe mCa mOr mLe rS rP rK rA rO rW rC rT rN) H := hP
    have hD : va_D A (wX8 cy h0 sa pa ka aa oa wa ca ta na mOp mIk mPa mRu 1 mTy mSp mFr mRe mCa mOr mLe rS rP rK rA rO rW rC rT rN) := hD
    refine lv_aload_n hx hb dX8_gives_33 rfl (lv_at hl 0 rfl) ?_
    refine va_get (D := D) (ci := 5) (v := .int 1) (C := RX8) (T := TX8) (N := 21) hx hb hts in_X8 hown hK hP 0 rfl rfl 11 (by decide) fl37 (fun _ h9 => h9) rfl dX8_gives_34 ?_
    refine lv_if_ne (tgt := 56) hx hb dX8_gives_37 (by decide) (fun c9 => ?_) (fun c9 => ?_)
    · have hf := k_F c9 hf
      refine lv_iconst (v := 0) hx hb dX8_gives_56 (by decide) ?_
      obtain rfl := k_some hf
      exact k_iret hx hb hr hP hD hS dX8_gives_57 hlocks
    · have hf := k_T c9 hf
      refine lv_aload_n hx hb dX8_gives_40 rfl (lv_at hl 0 rfl) ?_
      refine va_get (D := D) (ci := 5) (v := .ref sa) (C := RX8) (T := TX8) (N := 21) hx hb hts in_X8 hown hK hP 0 rfl rfl 0 (by decide) fl7 (fun _ h9 => h9) rfl dX8_gives_41 ?_
      refine lv_iconst (v := 0) hx hb dX8_gives_44 (by decide) ?_
      refine va_iald hx hb hK hP 1 0 rfl rfl (k_in (i := 0) (n := 19) (by decide +kernel)) dX8_gives_45 ?_
      refine k_name (v := rS 0) rfl ?_
      refine lv_iconst (v := 1) hx hb dX8_gives_46 (by decide) ?_
      refine lv_iload_n hx hb dX8_gives_47 rfl (lv_at hl 1 rfl) ?_
      refine lv_ishl hx hb dX8_gives_48 ?_
      refine lv_ior hx hb dX8_gives_49 ?_
      obtain ⟨v10, hv10, hf⟩ := k_B hf
      refine k_callS (As := [.int ((rS 0) ||| ((1 : Int32) <<< (n1 &&& 31)))]) (rest := []) ⟨hx, hb, hml, hown, hts⟩ (c_X8_takes l ((rS 0) ||| ((1 : Int32) <<< (n1 &&& 31))) v10 hv10) (va_cwS 1 hts gX8_gives_X8_takes rfl rfl rfl hd_X8_takes ⟨Nat.le_of_ble_eq_true rfl, Nat.le_of_ble_eq_true rfl⟩) rfl hl.1 rfl (Nat.le_of_ble_eq_true rfl) dX8_gives_50 ⟨Nat.zero_le _, Nat.zero_le _⟩ ?_
      refine lv_goto (tgt := 57) hx hb dX8_gives_53 (by decide) ?_
      obtain rfl := k_some hf
      exact k_iret hx hb hr hP hD hS dX8_gives_57 hlocks
def t_X8_leastSacrifice_7 (rS : Nat → Int32) (s7 : Int32 × Int32 × Int32) : Option ((Int32 × Int32 × Int32) ⊕ (Int32 × Int32 × Int32)) :=
  if 31 ≤ s7.2.2 then
    some (.inr (s7.1, s7.2.1, s7.2.2))
  else
    (f_X8_isIn (rS 0) s7.2.2).bind fun v2 =>
    if v2 = 0 then
      (f_X8_takes ((rS 0) ||| ((1 : Int32) <<< (s7.2.2 &&& 31)))).bind fun v4 =>
      if s7.2.1 ≤ v4 then
        if s7.2.1 ≤ v4 then
          some (.inl (s7.1, s7.2.1, s7.2.2 + 1))
        else
          some (.inl (s7.1, v4, s7.2.2 + 1))
      else
        if s7.2.1 ≤ v4 then
          some (.inl (s7.2.2, s7.2.1, s7.2.2 + 1))
        else
          some (.inl (s7.2.2, v4, s7.2.2 + 1))
    else
      if s7.2.1 ≤ 99 then
        if s7.2.1 ≤ 99 then
          some (.inl (s7.1, s7.2.1, s7.2.2 + 1))
        else
          some (.inl (s7.1, 99, s7.2.2 + 1))
      else
        if s7.2.1 ≤ 99 then
          some (.inl (s7.2.2, s7.2.1, s7.2.2 + 1))
        else
          some (.inl (s7.2.2, 99, s7.2.2 + 1))
def f_X8_leastSacrifice (mLa : Int32) (rS : Nat → Int32) : Option (Int32 × Int32) :=
  (k_loop (t_X8_leastSacrifice_7 rS) 1000 ((-1), 99, 0)).bind fun x11 =>
  if 0 ≤ x11.1 then
    if 0 ≤ x11.1 then
      some (x11.1, 0)
    else
      some (0, 0)
  else
    if 0 ≤ x11.1 then
      some (x11.1, 1)
    else
      some (0, 1)
abbrev rm_X8_leastSacrifice : Room := { frames := 5, cells := 0, slots := 0, locals := 110 }
theorem hd_X8_leastSacrifice : yX8_leastSacrifice.cls = RX8 ∧ yX8_leastSacrifice.cls ≠ "java/lang/invoke/MethodHandle" ∧ yX8_leastSacrifice.cls ≠ "java/lang/invoke/VarHandle" ∧ (parseMethodDescriptor yX8_leastSacrifice.desc).map (fun d => d.parameters.length) = some 0 := by decide +kernel
set_option maxHeartbeats 4000000 in
set_option maxRecDepth 100000 in
theorem c_X8_leastSacrifice (l : Launch) (D : va_G) (cy : Nat → ClassId) (h0 sa pa ka aa oa wa ca ta na : Nat) (mOp : Int32) (mIk : Int32) (mPa : Int32) (mRu : Int32) (mLa : Int32) (mTy : Int32) (mSp : Int32) (mFr : Int32) (mRe : Int32) (mCa : Int32) (mOr : Int32) (mLe : Int32) (rS : Nat → Int32) (rP : Nat → Int32) (rK : Nat → Int32) (rA : Nat → Int32) (rO : Nat → Int32) (rW : Nat → Int32) (rC : Nat → Int32) (rT : Nat → Int32) (rN : Nat → Int32)  (r : Int32 × Int32) (hf : f_X8_leastSacrifice mLa rS = some r) : k_HMet l yX8_leastSacrifice wsX8_leastSacrifice rm_X8_leastSacrifice D (k_tys cy) [.ref h0] (wX8 cy h0 sa pa ka aa oa wa ca ta na mOp mIk mPa mRu mLa mTy mSp mFr mRe mCa mOr mLe rS rP rK rA rO rW rC rT rN) (some (.int r.1)) (wX8 cy h0 sa pa ka aa oa wa ca ta na mOp mIk mPa mRu r.2 mTy mSp mFr mRe mCa mOr mLe rS rP rK rA rO rW rC rT rN) := by
  refine k_heapOf (cc := cX8_leastSacrifice) (maxL := 5) (ret := (some .int)) (by decide) rfl (Nat.le_of_ble_eq_true rfl) ?_
  intro p e s m args below meth c ls A hx hb hr hlocks hml hown hts hl hA hK hP hD hN
  have hl : lv_has ls 5 [(0, .ref h0)] := hl
  have hS : va_S A s.heap s.heap [] := va_S.rf
  have in_X8 : ∀ w ∈ wsX80, w ∈ wsX8_leastSacrifice := by decide +kernel
  have fl7 := hts (.fieldLink RX8 7 "FencedBoxesModel" "s" "[I") (by decide +kernel)
  have fl37 := hts (.fieldLink RX8 37 "FencedBoxesModel" "last" "I") (by decide +kernel)
  have L7 : ∀ (Q : State → Prop) (n : Nat) (mOp : Int32) (mIk : Int32) (mPa : Int32) (mRu : Int32) (mLa : Int32) (mTy : Int32) (mSp : Int32) (mFr : Int32) (mRe : Int32) (mCa : Int32) (mOr : Int32) (mLe : Int32) (rS : Nat → Int32) (rP : Nat → Int32) (rK : Nat → Int32) (rA : Nat → Int32) (rO : Nat → Int32) (rW : Nat → Int32) (rC : Nat → Int32) (rT : Nat → Int32) (rN : Nat → Int32) (s7 : Int32 × Int32 × Int32) (q : (Int32 × Int32 × Int32)), k_loop (t_X8_leastSacrifice_7 rS) n s7 = some q → ∀ (ls : Array Slot) (H : Heap) (locs : List Loc), lv_has ls 5 [(0, .ref h0), (1, .int s7.1), (2, .int s7.2.1), (3, .int s7.2.2)] → va_P D vwCl (wX8 cy h0 sa pa ka aa oa wa ca ta na mOp mIk mPa mRu mLa mTy mSp mFr mRe mCa mOr mLe rS rP rK rA rO rW rC rT rN) H → va_D A (wX8 cy h0 sa pa ka aa oa wa ca ta na mOp mIk mPa mRu mLa mTy mSp mFr mRe mCa mOr mLe rS rP rK rA rO rW rC rT rN) → va_S A s.heap H locs → (∀ (ls : Array Slot) (H : Heap) (locs : List Loc), True → lv_has ls 5 [(0, .ref h0), (1, .int q.1)] → va_P D vwCl (wX8 cy h0 sa pa ka aa oa wa ca ta na mOp mIk mPa mRu mLa mTy mSp mFr mRe mCa mOr mLe rS rP rK rA rO rW rC rT rN) H → va_D A (wX8 cy h0 sa pa ka aa oa wa ca ta na mOp mIk mPa mRu mLa mTy mSp mFr mRe mCa mOr mLe rS rP rK rA rO rW rC rT rN) → va_S A s.heap H locs → W p l e rm_X8_leastSacrifice s m args below meth c H locs 0 0 Q (F0 m 77 ls [])) → W p l e rm_X8_leastSacrifice s m args below meth c H locs 0 0 Q (F0 m 7 ls []) := by
    intro Q n
    induction n with
    | zero =>
      intro mOp mIk mPa mRu mLa mTy mSp mFr mRe mCa mOr mLe rS rP rK rA rO rW rC rT rN s7 q hq
      exact (k_loop0 hq).elim
    | succ n ih =>
      intro mOp mIk mPa mRu mLa mTy mSp mFr mRe mCa mOr mLe rS rP rK rA rO rW rC rT rN s7 q hq ls H locs hl hP hD hS kx 
      obtain ⟨x, hf, hq⟩ := k_loopE hq
      unfold t_X8_leastSacrifice_7 at hf
      refine lv_iload_n hx hb dX8_leastSacrifice_7 rfl (lv_at hl 3 rfl) ?_
      refine lv_bipush (v := 31) hx hb dX8_leastSacrifice_8 (by decide) ?_
      refine lv_icmp_ge (tgt := 77) hx hb dX8_leastSacrifice_10 (by decide) (fun c1 => ?_) (fun c1 => ?_)
      · have hf := k_T c1 hf
        obtain rfl := k_some hf
        obtain rfl := k_some (k_inr hq)
        exact kx ls H locs trivial (lv_sub hl [0, 1] rfl) hP hD hS
      · have hf := k_F c1 hf
        refine lv_aload_n hx hb dX8_leastSacrifice_13 rfl (lv_at hl 0 rfl) ?_
        refine va_get (D := D) (ci := 5) (v := .ref sa) (C := RX8) (T := TX8) (N := 21) hx hb hts in_X8 hown hK hP 0 rfl rfl 0 (by decide) fl7 (fun _ h9 => h9) rfl dX8_leastSacrifice_14 ?_
        refine lv_iconst (v := 0) hx hb dX8_leastSacrifice_17 (by decide) ?_
        refine va_iald hx hb hK hP 1 0 rfl rfl (k_in (i := 0) (n := 19) (by decide +kernel)) dX8_leastSacrifice_18 ?_
        refine k_name (v := rS 0) rfl ?_
        refine lv_iload_n hx hb dX8_leastSacrifice_19 rfl (lv_at hl 3 rfl) ?_
        obtain ⟨v2, hv2, hf⟩ := k_B hf
        refine k_callS (As := [.int (rS 0), .int s7.2.2]) (rest := []) ⟨hx, hb, hml, hown, hts⟩ (c_X8_isIn l (rS 0) s7.2.2 v2 hv2) (va_cwS 2 hts gX8_leastSacrifice_X8_isIn rfl rfl rfl hd_X8_isIn ⟨Nat.le_of_ble_eq_true rfl, Nat.le_of_ble_eq_true rfl⟩) rfl hl.1 rfl (Nat.le_of_ble_eq_true rfl) dX8_leastSacrifice_20 ⟨Nat.zero_le _, Nat.zero_le _⟩ ?_
        refine lv_if_eq (tgt := 31) hx hb dX8_leastSacrifice_23 (by decide) (fun c3 => ?_) (fun c3 => ?_)
        · have hf := k_T c3 hf
          refine lv_aload_n hx hb dX8_leastSacrifice_31 rfl (lv_at hl 0 rfl) ?_
          refine va_get (D := D) (ci := 5) (v := .ref sa) (C := RX8) (T := TX8) (N := 21) hx hb hts in_X8 hown hK hP 0 rfl rfl 0 (by decide) fl7 (fun _ h9 => h9) rfl dX8_leastSacrifice_32 ?_
          refine lv_iconst (v := 0) hx hb dX8_leastSacrifice_35 (by decide) ?_
          refine va_iald hx hb hK hP 1 0 rfl rfl (k_in (i := 0) (n := 19) (by decide +kernel)) dX8_leastSacrifice_36 ?_
          refine k_name (v := rS 0) rfl ?_
          refine lv_iconst (v := 1) hx hb dX8_leastSacrifice_37 (by decide) ?_
          refine lv_iload_n hx hb dX8_leastSacrifice_38 rfl (lv_at hl 3 rfl) ?_
          refine lv_ishl hx hb dX8_leastSacrifice_39 ?_
          refine lv_ior hx hb dX8_leastSacrifice_40 ?_
          obtain ⟨v4, hv4, hf⟩ := k_B hf
          refine k_callS (As := [.int ((rS 0) ||| ((1 : Int32) <<< (s7.2.2 &&& 31)))]) (rest := []) ⟨hx, hb, hml, hown, hts⟩ (c_X8_takes l ((rS 0) ||| ((1 : Int32) <<< (s7.2.2 &&& 31))) v4 hv4) (va_cwS 1 hts gX8_leastSacrifice_X8_takes rfl rfl rfl hd_X8_takes ⟨Nat.le_of_ble_eq_true rfl, Nat.le_of_ble_eq_true rfl⟩) rfl hl.1 rfl (Nat.le_of_ble_eq_true rfl) dX8_leastSacrifice_41 ⟨Nat.zero_le _, Nat.zero_le _⟩ ?_
          refine lv_istore (lv' := [(4, .int v4), (0, .ref h0), (1, .int s7.1), (2, .int s7.2.1), (3, .int s7.2.2)]) hx hb dX8_leastSacrifice_44 hl (by decide) rfl (fun ls hl => ?_)
          refine lv_iload hx hb dX8_leastSacrifice_46 (lv_at hl 0 rfl) ?_
          refine lv_iload_n hx hb dX8_leastSacrifice_48 rfl (lv_at hl 3 rfl) ?_
          refine lv_icmp_ge (tgt := 56) hx hb dX8_leastSacrifice_49 (by decide) (fun c5 => ?_) (fun c5 => ?_)
          · have hf := k_T c5 hf
            refine lv_iload_n hx hb dX8_leastSacrifice_56 rfl (lv_at hl 2 rfl) ?_
            refine lv_istore_n (lv' := [(1, .int s7.1), (4, .int v4), (0, .ref h0), (2, .int s7.2.1), (3, .int s7.2.2)]) hx hb dX8_leastSacrifice_57 rfl hl (by decide) rfl (fun ls hl => ?_)
            refine lv_iload hx hb dX8_leastSacrifice_58 (lv_at hl 1 rfl) ?_
            refine lv_iload_n hx hb dX8_leastSacrifice_60 rfl (lv_at hl 3 rfl) ?_
            refine lv_icmp_ge (tgt := 69) hx hb dX8_leastSacrifice_61 (by decide) (fun c6 => ?_) (fun c6 => ?_)
            · have hf := k_T c6 hf
              refine lv_iload_n hx hb dX8_leastSacrifice_69 rfl (lv_at hl 3 rfl) ?_
              refine lv_istore_n (lv' := [(2, .int s7.2.1), (1, .int s7.1), (4, .int v4), (0, .ref h0), (3, .int s7.2.2)]) hx hb dX8_leastSacrifice_70 rfl hl (by decide) rfl (fun ls hl => ?_)
              refine lv_iinc (v := s7.2.2 + 1) (lv' := [(3, .int (s7.2.2 + 1)), (2, .int s7.2.1), (1, .int s7.1), (4, .int v4), (0, .ref h0)]) hx hb dX8_leastSacrifice_71 hl (k := 4) rfl rfl (by decide) rfl (fun ls hl => ?_)
              refine lv_goto (tgt := 7) hx hb dX8_leastSacrifice_74 (by decide) ?_
              obtain rfl := k_some hf
              exact ih mOp mIk mPa mRu mLa mTy mSp mFr mRe mCa mOr mLe rS rP rK rA rO rW rC rT rN (s7.1, s7.2.1, s7.2.2 + 1) q (k_inl hq) ls H locs (lv_sub hl [4, 2, 1, 0] rfl) hP hD hS kx 
            · have hf := k_F c6 hf
              refine lv_iload hx hb dX8_leastSacrifice_64 (lv_at hl 1 rfl) ?_
              refine lv_goto (tgt := 70) hx hb dX8_leastSacrifice_66 (by decide) ?_
              refine lv_istore_n (lv' := [(2, .int v4), (1, .int s7.1), (4, .int v4), (0, .ref h0), (3, .int s7.2.2)]) hx hb dX8_leastSacrifice_70 rfl hl (by decide) rfl (fun ls hl => ?_)
              refine lv_iinc (v := s7.2.2 + 1) (lv' := [(3, .int (s7.2.2 + 1)), (2, .int v4), (1, .int s7.1), (4, .int v4), (0, .ref h0)]) hx hb dX8_leastSacrifice_71 hl (k := 4) rfl rfl (by decide) rfl (fun ls hl => ?_)
              refine lv_goto (tgt := 7) hx hb dX8_leastSacrifice_74 (by decide) ?_
              obtain rfl := k_some hf
              exact ih mOp mIk mPa mRu mLa mTy mSp mFr mRe mCa mOr mLe rS rP rK rA rO rW rC rT rN (s7.1, v4, s7.2.2 + 1) q (k_inl hq) ls H locs (lv_sub hl [4, 2, 1, 0] rfl) hP hD hS kx 
          · have hf := k_F c5 hf
            refine lv_iload_n hx hb dX8_leastSacrifice_52 rfl (lv_at hl 4 rfl) ?_
            refine lv_goto (tgt := 57) hx hb dX8_leastSacrifice_53 (by decide) ?_
            refine lv_istore_n (lv' := [(1, .int s7.2.2), (4, .int v4), (0, .ref h0), (2, .int s7.2.1), (3, .int s7.2.2)]) hx hb dX8_leastSacrifice_57 rfl hl (by decide) rfl (fun ls hl => ?_)
            refine lv_iload hx hb dX8_leastSacrifice_58 (lv_at hl 1 rfl) ?_
            refine lv_iload_n hx hb dX8_leastSacrifice_60 rfl (lv_at hl 3 rfl) ?_
            refine lv_icmp_ge (tgt := 69) hx hb dX8_leastSacrifice_61 (by decide) (fun c7 => ?_) (fun c7 => ?_)
            · have hf := k_T c7 hf
              refine lv_iload_n hx hb dX8_leastSacrifice_69 rfl (lv_at hl 3 rfl) ?_
              refine lv_istore_n (lv' := [(2, .int s7.2.1), (1, .int s7.2.2), (4, .int v4), (0, .ref h0), (3, .int s7.2.2)]) hx hb dX8_leastSacrifice_70 rfl hl (by decide) rfl (fun ls hl => ?_)
              refine lv_iinc (v := s7.2.2 + 1) (lv' := [(3, .int (s7.2.2 + 1)), (2, .int s7.2.1), (1, .int s7.2.2), (4, .int v4), (0, .ref h0)]) hx hb dX8_leastSacrifice_71 hl (k := 4) rfl rfl (by decide) rfl (fun ls hl => ?_)
              refine lv_goto (tgt := 7) hx hb dX8_leastSacrifice_74 (by decide) ?_
              obtain rfl := k_some hf
              exact ih mOp mIk mPa mRu mLa mTy mSp mFr mRe mCa mOr mLe rS rP rK rA rO rW rC rT rN (s7.2.2, s7.2.1, s7.2.2 + 1) q (k_inl hq) ls H locs (lv_sub hl [4, 2, 1, 0] rfl) hP hD hS kx 
            · have hf := k_F c7 hf
              refine lv_iload hx hb dX8_leastSacrifice_64 (lv_at hl 1 rfl) ?_
              refine lv_goto (tgt := 70) hx hb dX8_leastSacrifice_66 (by decide) ?_
              refine lv_istore_n (lv' := [(2, .int v4), (1, .int s7.2.2), (4, .int v4), (0, .ref h0), (3, .int s7.2.2)]) hx hb dX8_leastSacrifice_70 rfl hl (by decide) rfl (fun ls hl => ?_)
              refine lv_iinc (v := s7.2.2 + 1) (lv' := [(3, .int (s7.2.2 + 1)), (2, .int v4), (1, .int s7.2.2), (4, .int v4), (0, .ref h0)]) hx hb dX8_leastSacrifice_71 hl (k := 4) rfl rfl (by decide) rfl (fun ls hl => ?_)
              refine lv_goto (tgt := 7) hx hb dX8_leastSacrifice_74 (by decide) ?_
              obtain rfl := k_some hf
              exact ih mOp mIk mPa mRu mLa mTy mSp mFr mRe mCa mOr mLe rS rP rK rA rO rW rC rT rN (s7.2.2, v4, s7.2.2 + 1) q (k_inl hq) ls H locs (lv_sub hl [4, 2, 1, 0] rfl) hP hD hS kx 
        · have hf := k_F c3 hf
          refine lv_bipush (v := 99) hx hb dX8_leastSacrifice_26 (by decide) ?_
          refine lv_goto (tgt := 44) hx hb dX8_leastSacrifice_28 (by decide) ?_
          refine lv_istore (lv' := [(4, .int 99), (0, .ref h0), (1, .int s7.1), (2, .int s7.2.1), (3, .int s7.2.2)]) hx hb dX8_leastSacrifice_44 hl (by decide) rfl (fun ls hl => ?_)
          refine lv_iload hx hb dX8_leastSacrifice_46 (lv_at hl 0 rfl) ?_
          refine lv_iload_n hx hb dX8_leastSacrifice_48 rfl (lv_at hl 3 rfl) ?_
          refine lv_icmp_ge (tgt := 56) hx hb dX8_leastSacrifice_49 (by decide) (fun c8 => ?_) (fun c8 => ?_)
          · have hf := k_T c8 hf
            refine lv_iload_n hx hb dX8_leastSacrifice_56 rfl (lv_at hl 2 rfl) ?_
            refine lv_istore_n (lv' := [(1, .int s7.1), (4, .int 99), (0, .ref h0), (2, .int s7.2.1), (3, .int s7.2.2)]) hx hb dX8_leastSacrifice_57 rfl hl (by decide) rfl (fun ls hl => ?_)
            refine lv_iload hx hb dX8_leastSacrifice_58 (lv_at hl 1 rfl) ?_
            refine lv_iload_n hx hb dX8_leastSacrifice_60 rfl (lv_at hl 3 rfl) ?_
            refine lv_icmp_ge (tgt := 69) hx hb dX8_leastSacrifice_61 (by decide) (fun c9 => ?_) (fun c9 => ?_)
            · have hf := k_T c9 hf
              refine lv_iload_n hx hb dX8_leastSacrifice_69 rfl (lv_at hl 3 rfl) ?_
              refine lv_istore_n (lv' := [(2, .int s7.2.1), (1, .int s7.1), (4, .int 99), (0, .ref h0), (3, .int s7.2.2)]) hx hb dX8_leastSacrifice_70 rfl hl (by decide) rfl (fun ls hl => ?_)
              refine lv_iinc (v := s7.2.2 + 1) (lv' := [(3, .int (s7.2.2 + 1)), (2, .int s7.2.1), (1, .int s7.1), (4, .int 99), (0, .ref h0)]) hx hb dX8_leastSacrifice_71 hl (k := 4) rfl rfl (by decide) rfl (fun ls hl => ?_)
              refine lv_goto (tgt := 7) hx hb dX8_leastSacrifice_74 (by decide) ?_
              obtain rfl := k_some hf
              exact ih mOp mIk mPa mRu mLa mTy mSp mFr mRe mCa mOr mLe rS rP rK rA rO rW rC rT rN (s7.1, s7.2.1, s7.2.2 + 1) q (k_inl hq) ls H locs (lv_sub hl [4, 2, 1, 0] rfl) hP hD hS kx 
            · have hf := k_F c9 hf
              refine lv_iload hx hb dX8_leastSacrifice_64 (lv_at hl 1 rfl) ?_
              refine lv_goto (tgt := 70) hx hb dX8_leastSacrifice_66 (by decide) ?_
              refine lv_istore_n (lv' := [(2, .int 99), (1, .int s7.1), (4, .int 99), (0, .ref h0), (3, .int s7.2.2)]) hx hb dX8_leastSacrifice_70 rfl hl (by decide) rfl (fun ls hl => ?_)
              refine lv_iinc (v := s7.2.2 + 1) (lv' := [(3, .int (s7.2.2 + 1)), (2, .int 99), (1, .int s7.1), (4, .int 99), (0, .ref h0)]) hx hb dX8_leastSacrifice_71 hl (k := 4) rfl rfl (by decide) rfl (fun ls hl => ?_)
              refine lv_goto (tgt := 7) hx hb dX8_leastSacrifice_74 (by decide) ?_
              obtain rfl := k_some hf
              exact ih mOp mIk mPa mRu mLa mTy mSp mFr mRe mCa mOr mLe rS rP rK rA rO rW rC rT rN (s7.1, 99, s7.2.2 + 1) q (k_inl hq) ls H locs (lv_sub hl [4, 2, 1, 0] rfl) hP hD hS kx 
          · have hf := k_F c8 hf
            refine lv_iload_n hx hb dX8_leastSacrifice_52 rfl (lv_at hl 4 rfl) ?_
            refine lv_goto (tgt := 57) hx hb dX8_leastSacrifice_53 (by decide) ?_
            refine lv_istore_n (lv' := [(1, .int s7.2.2), (4, .int 99), (0, .ref h0), (2, .int s7.2.1), (3, .int s7.2.2)]) hx hb dX8_leastSacrifice_57 rfl hl (by decide) rfl (fun ls hl => ?_)
            refine lv_iload hx hb dX8_leastSacrifice_58 (lv_at hl 1 rfl) ?_
            refine lv_iload_n hx hb dX8_leastSacrifice_60 rfl (lv_at hl 3 rfl) ?_
            refine lv_icmp_ge (tgt := 69) hx hb dX8_leastSacrifice_61 (by decide) (fun c10 => ?_) (fun c10 => ?_)
            · have hf := k_T c10 hf
              refine lv_iload_n hx hb dX8_leastSacrifice_69 rfl (lv_at hl 3 rfl) ?_
              refine lv_istore_n (lv' := [(2, .int s7.2.1), (1, .int s7.2.2), (4, .int 99), (0, .ref h0), (3, .int s7.2.2)]) hx hb dX8_leastSacrifice_70 rfl hl (by decide) rfl (fun ls hl => ?_)
              refine lv_iinc (v := s7.2.2 + 1) (lv' := [(3, .int (s7.2.2 + 1)), (2, .int s7.2.1), (1, .int s7.2.2), (4, .int 99), (0, .ref h0)]) hx hb dX8_leastSacrifice_71 hl (k := 4) rfl rfl (by decide) rfl (fun ls hl => ?_)
              refine lv_goto (tgt := 7) hx hb dX8_leastSacrifice_74 (by decide) ?_
              obtain rfl := k_some hf
              exact ih mOp mIk mPa mRu mLa mTy mSp mFr mRe mCa mOr mLe rS rP rK rA rO rW rC rT rN (s7.2.2, s7.2.1, s7.2.2 + 1) q (k_inl hq) ls H locs (lv_sub hl [4, 2, 1, 0] rfl) hP hD hS kx 
            · have hf := k_F c10 hf
              refine lv_iload hx hb dX8_leastSacrifice_64 (lv_at hl 1 rfl) ?_
              refine lv_goto (tgt := 70) hx hb dX8_leastSacrifice_66 (by decide) ?_
              refine lv_istore_n (lv' := [(2, .int 99), (1, .int s7.2.2), (4, .int 99), (0, .ref h0), (3, .int s7.2.2)]) hx hb dX8_leastSacrifice_70 rfl hl (by decide) rfl (fun ls hl => ?_)
              refine lv_iinc (v := s7.2.2 + 1) (lv' := [(3, .int (s7.2.2 + 1)), (2, .int 99), (1, .int s7.2.2), (4, .int 99), (0, .ref h0)]) hx hb dX8_leastSacrifice_71 hl (k := 4) rfl rfl (by decide) rfl (fun ls hl => ?_)
              refine lv_goto (tgt := 7) hx hb dX8_leastSacrifice_74 (by decide) ?_
              obtain rfl := k_some hf
              exact ih mOp mIk mPa mRu mLa mTy mSp mFr mRe mCa mOr mLe rS rP rK rA rO rW rC rT rN (s7.2.2, 99, s7.2.2 + 1) q (k_inl hq) ls H locs (lv_sub hl [4, 2, 1, 0] rfl) hP hD hS kx 
  unfold f_X8_leastSacrifice at hf
  obtain ⟨H, eH⟩ : ∃ H, H = s.heap := ⟨_, rfl⟩
  obtain ⟨locs, elocs⟩ : ∃ L : List Loc, L = [] := ⟨_, rfl⟩
  have hP : va_P D vwCl (wX8 cy h0 sa pa ka aa oa wa ca ta na mOp mIk mPa mRu mLa mTy mSp mFr mRe mCa mOr mLe rS rP rK rA rO rW rC rT rN) H := by rw [eH]; exact hP
  have hS : va_S A s.heap H locs := by rw [eH, elocs]; exact hS
  refine k_here eH elocs ?_
  refine lv_iconst (v := (-1)) hx hb dX8_leastSacrifice_0 (by decide) ?_
  refine lv_istore_n (lv' := [(1, .int (-1)), (0, .ref h0)]) hx hb dX8_leastSacrifice_1 rfl hl (by decide) rfl (fun ls hl => ?_)
  refine lv_bipush (v := 99) hx hb dX8_leastSacrifice_2 (by decide) ?_
  refine lv_istore_n (lv' := [(2, .int 99), (1, .int (-1)), (0, .ref h0)]) hx hb dX8_leastSacrifice_4 rfl hl (by decide) rfl (fun ls hl => ?_)
  refine lv_iconst (v := 0) hx hb dX8_leastSacrifice_5 (by decide) ?_
  refine lv_istore_n (lv' := [(3, .int 0), (2, .int 99), (1, .int (-1)), (0, .ref h0)]) hx hb dX8_leastSacrifice_6 rfl hl (by decide) rfl (fun ls hl => ?_)
  obtain ⟨x11, hx11, hf⟩ := k_B hf
  refine L7 _ 1000 mOp mIk mPa mRu mLa mTy mSp mFr mRe mCa mOr mLe rS rP rK rA rO rW rC rT rN ((-1), 99, 0) x11 hx11 ls H locs (lv_sub hl [3, 2, 1, 0] rfl) hP hD hS ?_
  · intro ls H locs _ hl hP hD hS
    refine lv_aload_n hx hb dX8_leastSacrifice_77 rfl (lv_at hl 0 rfl) ?_
    refine lv_iload_n hx hb dX8_leastSacrifice_78 rfl (lv_at hl 1 rfl) ?_
    refine lv_if_ge (tgt := 86) hx hb dX8_leastSacrifice_79 (by decide) (fun c12 => ?_) (fun c12 => ?_)
    · have hf := k_T c12 hf
      refine lv_iconst (v := 0) hx hb dX8_leastSacrifice_86 (by decide) ?_
      refine va_put (D := D) (ci := 5) (v := .int 0) (ty := .int) (C := RX8) (T := TX8) (N := 21) hx hb hts in_X8 tyX8 tyX8_ok nmX8 hown hK hP hD hS 0 rfl rfl 11 (by decide) fl37 (fun _ h9 => h9) rfl (by decide +kernel) rfl rfl (Nat.le_of_ble_eq_true rfl) dX8_leastSacrifice_87 (fun H locs hP hD hS => ?_)
      have hP : va_P D vwCl (wX8 cy h0 sa pa ka aa oa wa ca ta na mOp mIk mPa mRu 0 mTy mSp mFr mRe mCa mOr mLe rS rP rK rA rO rW rC rT rN) H := hP
      have hD : va_D A (wX8 cy h0 sa pa ka aa oa wa ca ta na mOp mIk mPa mRu 0 mTy mSp mFr mRe mCa mOr mLe rS rP rK rA rO rW rC rT rN) := hD
      refine lv_iload_n hx hb dX8_leastSacrifice_90 rfl (lv_at hl 1 rfl) ?_
      refine lv_if_ge (tgt := 98) hx hb dX8_leastSacrifice_91 (by decide) (fun c13 => ?_) (fun c13 => ?_)
      · have hf := k_T c13 hf
        refine lv_iload_n hx hb dX8_leastSacrifice_98 rfl (lv_at hl 1 rfl) ?_
        obtain rfl := k_some hf
        exact k_iret hx hb hr hP hD hS dX8_leastSacrifice_99 hlocks
      · have hf := k_F c13 hf
        refine lv_iconst (v := 0) hx hb dX8_leastSacrifice_94 (by decide) ?_
        refine lv_goto (tgt := 99) hx hb dX8_leastSacrifice_95 (by decide) ?_
        obtain rfl := k_some hf
        exact k_iret hx hb hr hP hD hS dX8_leastSacrifice_99 hlocks
    · have hf := k_F c12 hf
      refine lv_iconst (v := 1) hx hb dX8_leastSacrifice_82 (by decide) ?_
      refine lv_goto (tgt := 87) hx hb dX8_leastSacrifice_83 (by decide) ?_
      refine va_put (D := D) (ci := 5) (v := .int 1) (ty := .int) (C := RX8) (T := TX8) (N := 21) hx hb hts in_X8 tyX8 tyX8_ok nmX8 hown hK hP hD hS 0 rfl rfl 11 (by decide) fl37 (fun _ h9 => h9) rfl (by decide +kernel) rfl rfl (Nat.le_of_ble_eq_true rfl) dX8_leastSacrifice_87 (fun H locs hP hD hS => ?_)
      have hP : va_P D vwCl (wX8 cy h0 sa pa ka aa oa wa ca ta na mOp mIk mPa mRu 1 mTy mSp mFr mRe mCa mOr mLe rS rP rK rA rO rW rC rT rN) H := hP
      have hD : va_D A (wX8 cy h0 sa pa ka aa oa wa ca ta na mOp mIk mPa mRu 1 mTy mSp mFr mRe mCa mOr mLe rS rP rK rA rO rW rC rT rN) := hD
      refine lv_iload_n hx hb dX8_leastSacrifice_90 rfl (lv_at hl 1 rfl) ?_
      refine lv_if_ge (tgt := 98) hx hb dX8_leastSacrifice_91 (by decide) (fun c14 => ?_) (fun c14 => ?_)
      · have hf := k_T c14 hf
        refine lv_iload_n hx hb dX8_leastSacrifice_98 rfl (lv_at hl 1 rfl) ?_
        obtain rfl := k_some hf
        exact k_iret hx hb hr hP hD hS dX8_leastSacrifice_99 hlocks
      · have hf := k_F c14 hf
        refine lv_iconst (v := 0) hx hb dX8_leastSacrifice_94 (by decide) ?_
        refine lv_goto (tgt := 99) hx hb dX8_leastSacrifice_95 (by decide) ?_
        obtain rfl := k_some hf
        exact k_iret hx hb hr hP hD hS dX8_leastSacrifice_99 hlocks
def f_X8_joins (n1 : Int32) (n2 : Int32) (rS : Nat → Int32) : Option (Int32) :=
  (f_X8_between n1 n2).bind fun v1 =>
  if v1 < 0 then
    some 0
  else
    (f_X8_isIn (rS 0) v1).bind fun v3 =>
    if v3 = 0 then
      (f_X8_has (rS 0) n1).bind fun v5 =>
      if v5 = 2 then
        (f_X8_has (rS 0) n2).bind fun v7 =>
        if v7 = 2 then
          some 1
        else
          some 0
      else
        some 0
    else
      some 0
abbrev rm_X8_joins : Room := { frames := 2, cells := 0, slots := 0, locals := 45 }
theorem hd_X8_joins : yX8_joins.cls = RX8 ∧ yX8_joins.cls ≠ "java/lang/invoke/MethodHandle" ∧ yX8_joins.cls ≠ "java/lang/invoke/VarHandle" ∧ (parseMethodDescriptor yX8_joins.desc).map (fun d => d.parameters.length) = some 2 := by decide +kernel
set_option maxHeartbeats 4000000 in
set_option maxRecDepth 100000 in
theorem c_X8_joins (l : Launch) (D : va_G) (cy : Nat → ClassId) (h0 sa pa ka aa oa wa ca ta na : Nat) (mOp : Int32) (mIk : Int32) (mPa : Int32) (mRu : Int32) (mLa : Int32) (mTy : Int32) (mSp : Int32) (mFr : Int32) (mRe : Int32) (mCa : Int32) (mOr : Int32) (mLe : Int32) (rS : Nat → Int32) (rP : Nat → Int32) (rK : Nat → Int32) (rA : Nat → Int32) (rO : Nat → Int32) (rW : Nat → Int32) (rC : Nat → Int32) (rT : Nat → Int32) (rN : Nat → Int32) (n1 : Int32) (n2 : Int32) (r : Int32) (hf : f_X8_joins n1 n2 rS = some r) : k_HMet l yX8_joins wsX8_joins rm_X8_joins D (k_tys cy) [.ref h0, .int n1, .int n2] (wX8 cy h0 sa pa ka aa oa wa ca ta na mOp mIk mPa mRu mLa mTy mSp mFr mRe mCa mOr mLe rS rP rK rA rO rW rC rT rN) (some (.int r)) (wX8 cy h0 sa pa ka aa oa wa ca ta na mOp mIk mPa mRu mLa mTy mSp mFr mRe mCa mOr mLe rS rP rK rA rO rW rC rT rN) := by
  refine k_heapOf (cc := cX8_joins) (maxL := 4) (ret := (some .boolean)) (by decide) rfl (Nat.le_of_ble_eq_true rfl) ?_
  intro p e s m args below meth c ls A hx hb hr hlocks hml hown hts hl hA hK hP hD hN
  have hl : lv_has ls 4 [(0, .ref h0), (1, .int n1), (2, .int n2)] := hl
  have hS : va_S A s.heap s.heap [] := va_S.rf
  have in_X8 : ∀ w ∈ wsX80, w ∈ wsX8_joins := by decide +kernel
  have fl7 := hts (.fieldLink RX8 7 "FencedBoxesModel" "s" "[I") (by decide +kernel)
  unfold f_X8_joins at hf
  obtain ⟨H, eH⟩ : ∃ H, H = s.heap := ⟨_, rfl⟩
  obtain ⟨locs, elocs⟩ : ∃ L : List Loc, L = [] := ⟨_, rfl⟩
  have hP : va_P D vwCl (wX8 cy h0 sa pa ka aa oa wa ca ta na mOp mIk mPa mRu mLa mTy mSp mFr mRe mCa mOr mLe rS rP rK rA rO rW rC rT rN) H := by rw [eH]; exact hP
  have hS : va_S A s.heap H locs := by rw [eH, elocs]; exact hS
  refine k_here eH elocs ?_
  refine lv_iload_n hx hb dX8_joins_0 rfl (lv_at hl 1 rfl) ?_
  refine lv_iload_n hx hb dX8_joins_1 rfl (lv_at hl 2 rfl) ?_
  obtain ⟨v1, hv1, hf⟩ := k_B hf
  refine k_callS (As := [.int n1, .int n2]) (rest := []) ⟨hx, hb, hml, hown, hts⟩ (c_X8_between l n1 n2 v1 hv1) (va_cwS 2 hts gX8_joins_X8_between rfl rfl rfl hd_X8_between ⟨Nat.le_of_ble_eq_true rfl, Nat.le_of_ble_eq_true rfl⟩) rfl hl.1 rfl (Nat.le_of_ble_eq_true rfl) dX8_joins_2 ⟨Nat.zero_le _, Nat.zero_le _⟩ ?_
  refine lv_istore_n (lv' := [(3, .int v1), (0, .ref h0), (1, .int n1), (2, .int n2)]) hx hb dX8_joins_5 rfl hl (by decide) rfl (fun ls hl => ?_)
  refine lv_iload_n hx hb dX8_joins_6 rfl (lv_at hl 0 rfl) ?_
  refine lv_if_lt (tgt := 55) hx hb dX8_joins_7 (by decide) (fun c2 => ?_) (fun c2 => ?_)
  · have hf := k_T c2 hf
    refine lv_iconst (v := 0) hx hb dX8_joins_55 (by decide) ?_
    obtain rfl := k_some hf
    exact k_zret (v := 0) hx hb hr rfl hP hD hS dX8_joins_56 hlocks
  · have hf := k_F c2 hf
    refine lv_aload_n hx hb dX8_joins_10 rfl (lv_at hl 1 rfl) ?_
    refine va_get (D := D) (ci := 5) (v := .ref sa) (C := RX8) (T := TX8) (N := 21) hx hb hts in_X8 hown hK hP 0 rfl rfl 0 (by decide) fl7 (fun _ h9 => h9) rfl dX8_joins_11 ?_
    refine lv_iconst (v := 0) hx hb dX8_joins_14 (by decide) ?_
    refine va_iald hx hb hK hP 1 0 rfl rfl (k_in (i := 0) (n := 19) (by decide +kernel)) dX8_joins_15 ?_
    refine k_name (v := rS 0) rfl ?_
    refine lv_iload_n hx hb dX8_joins_16 rfl (lv_at hl 0 rfl) ?_
    obtain ⟨v3, hv3, hf⟩ := k_B hf
    refine k_callS (As := [.int (rS 0), .int v1]) (rest := []) ⟨hx, hb, hml, hown, hts⟩ (c_X8_isIn l (rS 0) v1 v3 hv3) (va_cwS 2 hts gX8_joins_X8_isIn rfl rfl rfl hd_X8_isIn ⟨Nat.le_of_ble_eq_true rfl, Nat.le_of_ble_eq_true rfl⟩) rfl hl.1 rfl (Nat.le_of_ble_eq_true rfl) dX8_joins_17 ⟨Nat.zero_le _, Nat.zero_le _⟩ ?_
    refine lv_if_ne (tgt := 55) hx hb dX8_joins_20 (by decide) (fun c4 => ?_) (fun c4 => ?_)
    · have hf := k_F c4 hf
      refine lv_iconst (v := 0) hx hb dX8_joins_55 (by decide) ?_
      obtain rfl := k_some hf
      exact k_zret (v := 0) hx hb hr rfl hP hD hS dX8_joins_56 hlocks
    · have hf := k_T c4 hf
      refine lv_aload_n hx hb dX8_joins_23 rfl (lv_at hl 1 rfl) ?_
      refine va_get (D := D) (ci := 5) (v := .ref sa) (C := RX8) (T := TX8) (N := 21) hx hb hts in_X8 hown hK hP 0 rfl rfl 0 (by decide) fl7 (fun _ h9 => h9) rfl dX8_joins_24 ?_
      refine lv_iconst (v := 0) hx hb dX8_joins_27 (by decide) ?_
      refine va_iald hx hb hK hP 1 0 rfl rfl (k_in (i := 0) (n := 19) (by decide +kernel)) dX8_joins_28 ?_
      refine k_name (v := rS 0) rfl ?_
      refine lv_iload_n hx hb dX8_joins_29 rfl (lv_at hl 2 rfl) ?_
      obtain ⟨v5, hv5, hf⟩ := k_B hf
      refine k_callS (As := [.int (rS 0), .int n1]) (rest := []) ⟨hx, hb, hml, hown, hts⟩ (c_X8_has l (rS 0) n1 v5 hv5) (va_cwS 2 hts gX8_joins_X8_has rfl rfl rfl hd_X8_has ⟨Nat.le_of_ble_eq_true rfl, Nat.le_of_ble_eq_true rfl⟩) rfl hl.1 rfl (Nat.le_of_ble_eq_true rfl) dX8_joins_30 ⟨Nat.zero_le _, Nat.zero_le _⟩ ?_
      refine lv_iconst (v := 2) hx hb dX8_joins_33 (by decide) ?_
      refine lv_icmp_ne (tgt := 55) hx hb dX8_joins_34 (by decide) (fun c6 => ?_) (fun c6 => ?_)
      · have hf := k_F c6 hf
        refine lv_iconst (v := 0) hx hb dX8_joins_55 (by decide) ?_
        obtain rfl := k_some hf
        exact k_zret (v := 0) hx hb hr rfl hP hD hS dX8_joins_56 hlocks
      · have hf := k_T c6 hf
        refine lv_aload_n hx hb dX8_joins_37 rfl (lv_at hl 1 rfl) ?_
        refine va_get (D := D) (ci := 5) (v := .ref sa) (C := RX8) (T := TX8) (N := 21) hx hb hts in_X8 hown hK hP 0 rfl rfl 0 (by decide) fl7 (fun _ h9 => h9) rfl dX8_joins_38 ?_
        refine lv_iconst (v := 0) hx hb dX8_joins_41 (by decide) ?_
        refine va_iald hx hb hK hP 1 0 rfl rfl (k_in (i := 0) (n := 19) (by decide +kernel)) dX8_joins_42 ?_
        refine k_name (v := rS 0) rfl ?_
        refine lv_iload_n hx hb dX8_joins_43 rfl (lv_at hl 3 rfl) ?_
        obtain ⟨v7, hv7, hf⟩ := k_B hf
        refine k_callS (As := [.int (rS 0), .int n2]) (rest := []) ⟨hx, hb, hml, hown, hts⟩ (c_X8_has l (rS 0) n2 v7 hv7) (va_cwS 2 hts gX8_joins_X8_has rfl rfl rfl hd_X8_has ⟨Nat.le_of_ble_eq_true rfl, Nat.le_of_ble_eq_true rfl⟩) rfl hl.1 rfl (Nat.le_of_ble_eq_true rfl) dX8_joins_44 ⟨Nat.zero_le _, Nat.zero_le _⟩ ?_
        refine lv_iconst (v := 2) hx hb dX8_joins_47 (by decide) ?_
        refine lv_icmp_ne (tgt := 55) hx hb dX8_joins_48 (by decide) (fun c8 => ?_) (fun c8 => ?_)
        · have hf := k_F c8 hf
          refine lv_iconst (v := 0) hx hb dX8_joins_55 (by decide) ?_
          obtain rfl := k_some hf
          exact k_zret (v := 0) hx hb hr rfl hP hD hS dX8_joins_56 hlocks
        · have hf := k_T c8 hf
          refine lv_iconst (v := 1) hx hb dX8_joins_51 (by decide) ?_
          refine lv_goto (tgt := 56) hx hb dX8_joins_52 (by decide) ?_
          obtain rfl := k_some hf
          exact k_zret (v := 1) hx hb hr rfl hP hD hS dX8_joins_56 hlocks
def t_X8_finds_2 (rS : Nat → Int32) (s2 : Int32 × (Nat → Int32)) : Option ((Int32 × (Nat → Int32)) ⊕ (Int32 × (Nat → Int32))) :=
  if 12 ≤ s2.1 then
    some (.inr (s2.1, s2.2))
  else
    (f_X8_has (rS 0) s2.1).bind fun v2 =>
    if v2 = 2 then
      if s2.1 < 0 ∨ 12 ≤ s2.1.toNatClampNeg then none else
      k_let (upd s2.2 s2.1.toNatClampNeg s2.1) fun w7 =>
      some (.inl (s2.1 + 1, w7))
    else
      if s2.1 < 0 ∨ 12 ≤ s2.1.toNatClampNeg then none else
      k_let (upd s2.2 s2.1.toNatClampNeg (-1)) fun w5 =>
      some (.inl (s2.1 + 1, w5))
def t_X8_finds_49 (b1 : Int32) (rS : Nat → Int32) (s49 : Int32 × (Nat → Int32)) : Option ((Int32 × (Nat → Int32)) ⊕ (Int32 × (Nat → Int32))) :=
  if 144 ≤ s49.1 then
    some (.inr (s49.1, s49.2))
  else
    k_let (s49.1 / 12) fun y11 =>
    k_let (s49.1 - s49.1 / 12 * 12) fun y12 =>
    (f_X8_joins y11 y12 rS).bind fun v13 =>
    if v13 = 0 then
      some (.inl (s49.1 + 1, s49.2))
    else
      if y12 < 0 ∨ 12 ≤ y12.toNatClampNeg then none else
      if y11 < 0 ∨ 12 ≤ y11.toNatClampNeg then none else
      if (s49.2 y11.toNatClampNeg) ≤ (s49.2 y12.toNatClampNeg) then
        some (.inl (s49.1 + 1, s49.2))
      else
        if y12 < 0 ∨ 12 ≤ y12.toNatClampNeg then none else
        if y11 < 0 ∨ 12 ≤ y11.toNatClampNeg then none else
        k_let (upd s49.2 y11.toNatClampNeg (s49.2 y12.toNatClampNeg)) fun w20 =>
        some (.inl (s49.1 + 1, w20))
def t_X8_finds_41 (rS : Nat → Int32) (s41 : Int32 × (Nat → Int32)) : Option ((Int32 × (Nat → Int32)) ⊕ (Int32 × (Nat → Int32))) :=
  if 12 ≤ s41.1 then
    some (.inr (s41.1, s41.2))
  else
    (k_loop (t_X8_finds_49 s41.1 rS) 1000 (0, s41.2)).bind fun x21 =>
    some (.inl (s41.1 + 1, x21.2))
def f_X8_finds (rS : Nat → Int32) (rC : Nat → Int32) : Option ((Nat → Int32)) :=
  (k_loop (t_X8_finds_2 rS) 1000 (0, rC)).bind fun x8 =>
  (k_loop (t_X8_finds_41 rS) 1000 (0, x8.2)).bind fun x22 =>
  some x22.2
abbrev rm_X8_finds : Room := { frames := 3, cells := 0, slots := 0, locals := 68 }
theorem hd_X8_finds : yX8_finds.cls = RX8 ∧ yX8_finds.cls ≠ "java/lang/invoke/MethodHandle" ∧ yX8_finds.cls ≠ "java/lang/invoke/VarHandle" ∧ (parseMethodDescriptor yX8_finds.desc).map (fun d => d.parameters.length) = some 0 := by decide +kernel
set_option maxHeartbeats 4000000 in
set_option maxRecDepth 100000 in
theorem c_X8_finds (l : Launch) (D : va_G) (cy : Nat → ClassId) (h0 sa pa ka aa oa wa ca ta na : Nat) (mOp : Int32) (mIk : Int32) (mPa : Int32) (mRu : Int32) (mLa : Int32) (mTy : Int32) (mSp : Int32) (mFr : Int32) (mRe : Int32) (mCa : Int32) (mOr : Int32) (mLe : Int32) (rS : Nat → Int32) (rP : Nat → Int32) (rK : Nat → Int32) (rA : Nat → Int32) (rO : Nat → Int32) (rW : Nat → Int32) (rC : Nat → Int32) (rT : Nat → Int32) (rN : Nat → Int32)  (r : (Nat → Int32)) (hf : f_X8_finds rS rC = some r) : k_HMet l yX8_finds wsX8_finds rm_X8_finds D (k_tys cy) [.ref h0] (wX8 cy h0 sa pa ka aa oa wa ca ta na mOp mIk mPa mRu mLa mTy mSp mFr mRe mCa mOr mLe rS rP rK rA rO rW rC rT rN) none (wX8 cy h0 sa pa ka aa oa wa ca ta na mOp mIk mPa mRu mLa mTy mSp mFr mRe mCa mOr mLe rS rP rK rA rO rW r rT rN) := by
  refine k_heapOf (cc := cX8_finds) (maxL := 5) (ret := none) (by decide) rfl (Nat.le_of_ble_eq_true rfl) ?_
  intro p e s m args below meth c ls A hx hb hr hlocks hml hown hts hl hA hK hP hD hN
  have hl : lv_has ls 5 [(0, .ref h0)] := hl
  have hS : va_S A s.heap s.heap [] := va_S.rf
  have in_X8 : ∀ w ∈ wsX80, w ∈ wsX8_finds := by decide +kernel
  have fl7 := hts (.fieldLink RX8 7 "FencedBoxesModel" "s" "[I") (by decide +kernel)
  have fl28 := hts (.fieldLink RX8 28 "FencedBoxesModel" "chain" "[I") (by decide +kernel)
  have L2 : ∀ (Q : State → Prop) (n : Nat) (mOp : Int32) (mIk : Int32) (mPa : Int32) (mRu : Int32) (mLa : Int32) (mTy : Int32) (mSp : Int32) (mFr : Int32) (mRe : Int32) (mCa : Int32) (mOr : Int32) (mLe : Int32) (rS : Nat → Int32) (rP : Nat → Int32) (rK : Nat → Int32) (rA : Nat → Int32) (rO : Nat → Int32) (rW : Nat → Int32) (rT : Nat → Int32) (rN : Nat → Int32) (s2 : Int32 × (Nat → Int32)) (q : (Int32 × (Nat → Int32))), k_loop (t_X8_finds_2 rS) n s2 = some q → ∀ (ls : Array Slot) (H : Heap) (locs : List Loc), lv_has ls 5 [(0, .ref h0), (1, .int s2.1)] → va_P D vwCl (wX8 cy h0 sa pa ka aa oa wa ca ta na mOp mIk mPa mRu mLa mTy mSp mFr mRe mCa mOr mLe rS rP rK rA rO rW s2.2 rT rN) H → va_D A (wX8 cy h0 sa pa ka aa oa wa ca ta na mOp mIk mPa mRu mLa mTy mSp mFr mRe mCa mOr mLe rS rP rK rA rO rW s2.2 rT rN) → va_S A s.heap H locs → (∀ (ls : Array Slot) (H : Heap) (locs : List Loc), True → lv_has ls 5 [(0, .ref h0)] → va_P D vwCl (wX8 cy h0 sa pa ka aa oa wa ca ta na mOp mIk mPa mRu mLa mTy mSp mFr mRe mCa mOr mLe rS rP rK rA rO rW q.2 rT rN) H → va_D A (wX8 cy h0 sa pa ka aa oa wa ca ta na mOp mIk mPa mRu mLa mTy mSp mFr mRe mCa mOr mLe rS rP rK rA rO rW q.2 rT rN) → va_S A s.heap H locs → W p l e rm_X8_finds s m args below meth c H locs 0 0 Q (F0 m 39 ls [])) → W p l e rm_X8_finds s m args below meth c H locs 0 0 Q (F0 m 2 ls []) := by
    intro Q n
    induction n with
    | zero =>
      intro mOp mIk mPa mRu mLa mTy mSp mFr mRe mCa mOr mLe rS rP rK rA rO rW rT rN s2 q hq
      exact (k_loop0 hq).elim
    | succ n ih =>
      intro mOp mIk mPa mRu mLa mTy mSp mFr mRe mCa mOr mLe rS rP rK rA rO rW rT rN s2 q hq ls H locs hl hP hD hS kx 
      obtain ⟨x, hf, hq⟩ := k_loopE hq
      unfold t_X8_finds_2 at hf
      refine lv_iload_n hx hb dX8_finds_2 rfl (lv_at hl 1 rfl) ?_
      refine lv_bipush (v := 12) hx hb dX8_finds_3 (by decide) ?_
      refine lv_icmp_ge (tgt := 39) hx hb dX8_finds_5 (by decide) (fun c1 => ?_) (fun c1 => ?_)
      · have hf := k_T c1 hf
        obtain rfl := k_some hf
        obtain rfl := k_some (k_inr hq)
        exact kx ls H locs trivial (lv_sub hl [0] rfl) hP hD hS
      · have hf := k_F c1 hf
        refine lv_aload_n hx hb dX8_finds_8 rfl (lv_at hl 0 rfl) ?_
        refine va_get (D := D) (ci := 5) (v := .ref ca) (C := RX8) (T := TX8) (N := 21) hx hb hts in_X8 hown hK hP 0 rfl rfl 6 (by decide) fl28 (fun _ h9 => h9) rfl dX8_finds_9 ?_
        refine lv_iload_n hx hb dX8_finds_12 rfl (lv_at hl 1 rfl) ?_
        refine lv_aload_n hx hb dX8_finds_13 rfl (lv_at hl 0 rfl) ?_
        refine va_get (D := D) (ci := 5) (v := .ref sa) (C := RX8) (T := TX8) (N := 21) hx hb hts in_X8 hown hK hP 0 rfl rfl 0 (by decide) fl7 (fun _ h9 => h9) rfl dX8_finds_14 ?_
        refine lv_iconst (v := 0) hx hb dX8_finds_17 (by decide) ?_
        refine va_iald hx hb hK hP 1 0 rfl rfl (k_in (i := 0) (n := 19) (by decide +kernel)) dX8_finds_18 ?_
        refine k_name (v := rS 0) rfl ?_
        refine lv_iload_n hx hb dX8_finds_19 rfl (lv_at hl 1 rfl) ?_
        obtain ⟨v2, hv2, hf⟩ := k_B hf
        refine k_callS (As := [.int (rS 0), .int s2.1]) (rest := [.int s2.1, .ref ca]) ⟨hx, hb, hml, hown, hts⟩ (c_X8_has l (rS 0) s2.1 v2 hv2) (va_cwS 2 hts gX8_finds_X8_has rfl rfl rfl hd_X8_has ⟨Nat.le_of_ble_eq_true rfl, Nat.le_of_ble_eq_true rfl⟩) rfl hl.1 rfl (Nat.le_of_ble_eq_true rfl) dX8_finds_20 ⟨Nat.zero_le _, Nat.zero_le _⟩ ?_
        refine lv_iconst (v := 2) hx hb dX8_finds_23 (by decide) ?_
        refine lv_icmp_ne (tgt := 31) hx hb dX8_finds_24 (by decide) (fun c3 => ?_) (fun c3 => ?_)
        · have hf := k_F c3 hf
          refine lv_iconst (v := (-1)) hx hb dX8_finds_31 (by decide) ?_
          obtain ⟨g4, hf⟩ := k_G hf
          refine va_iast hx hb hK hP hD hS 7 0 rfl rfl g4 dX8_finds_32 (fun H locs hP hD hS => ?_)
          obtain ⟨w5, ew5, hf⟩ := k_L hf
          have hP : va_P D vwCl (wX8 cy h0 sa pa ka aa oa wa ca ta na mOp mIk mPa mRu mLa mTy mSp mFr mRe mCa mOr mLe rS rP rK rA rO rW w5 rT rN) H := by rw [ew5]; exact hP
          have hD : va_D A (wX8 cy h0 sa pa ka aa oa wa ca ta na mOp mIk mPa mRu mLa mTy mSp mFr mRe mCa mOr mLe rS rP rK rA rO rW w5 rT rN) := by rw [ew5]; exact hD
          refine lv_iinc (v := s2.1 + 1) (lv' := [(1, .int (s2.1 + 1)), (0, .ref h0)]) hx hb dX8_finds_33 hl (k := 1) rfl rfl (by decide) rfl (fun ls hl => ?_)
          refine lv_goto (tgt := 2) hx hb dX8_finds_36 (by decide) ?_
          obtain rfl := k_some hf
          exact ih mOp mIk mPa mRu mLa mTy mSp mFr mRe mCa mOr mLe rS rP rK rA rO rW rT rN (s2.1 + 1, w5) q (k_inl hq) ls H locs (lv_sub hl [1, 0] rfl) hP hD hS kx 
        · have hf := k_T c3 hf
          refine lv_iload_n hx hb dX8_finds_27 rfl (lv_at hl 1 rfl) ?_
          refine lv_goto (tgt := 32) hx hb dX8_finds_28 (by decide) ?_
          obtain ⟨g6, hf⟩ := k_G hf
          refine va_iast hx hb hK hP hD hS 7 0 rfl rfl g6 dX8_finds_32 (fun H locs hP hD hS => ?_)
          obtain ⟨w7, ew7, hf⟩ := k_L hf
          have hP : va_P D vwCl (wX8 cy h0 sa pa ka aa oa wa ca ta na mOp mIk mPa mRu mLa mTy mSp mFr mRe mCa mOr mLe rS rP rK rA rO rW w7 rT rN) H := by rw [ew7]; exact hP
          have hD : va_D A (wX8 cy h0 sa pa ka aa oa wa ca ta na mOp mIk mPa mRu mLa mTy mSp mFr mRe mCa mOr mLe rS rP rK rA rO rW w7 rT rN) := by rw [ew7]; exact hD
          refine lv_iinc (v := s2.1 + 1) (lv' := [(1, .int (s2.1 + 1)), (0, .ref h0)]) hx hb dX8_finds_33 hl (k := 1) rfl rfl (by decide) rfl (fun ls hl => ?_)
          refine lv_goto (tgt := 2) hx hb dX8_finds_36 (by decide) ?_
          obtain rfl := k_some hf
          exact ih mOp mIk mPa mRu mLa mTy mSp mFr mRe mCa mOr mLe rS rP rK rA rO rW rT rN (s2.1 + 1, w7) q (k_inl hq) ls H locs (lv_sub hl [1, 0] rfl) hP hD hS kx 
  have L49 : ∀ (Q : State → Prop) (n : Nat) (b1 : Int32) (mOp : Int32) (mIk : Int32) (mPa : Int32) (mRu : Int32) (mLa : Int32) (mTy : Int32) (mSp : Int32) (mFr : Int32) (mRe : Int32) (mCa : Int32) (mOr : Int32) (mLe : Int32) (rS : Nat → Int32) (rP : Nat → Int32) (rK : Nat → Int32) (rA : Nat → Int32) (rO : Nat → Int32) (rW : Nat → Int32) (rT : Nat → Int32) (rN : Nat → Int32) (s49 : Int32 × (Nat → Int32)) (q : (Int32 × (Nat → Int32))), k_loop (t_X8_finds_49 b1 rS) n s49 = some q → ∀ (ls : Array Slot) (H : Heap) (locs : List Loc), lv_has ls 5 [(0, .ref h0), (1, .int b1), (2, .int s49.1)] → va_P D vwCl (wX8 cy h0 sa pa ka aa oa wa ca ta na mOp mIk mPa mRu mLa mTy mSp mFr mRe mCa mOr mLe rS rP rK rA rO rW s49.2 rT rN) H → va_D A (wX8 cy h0 sa pa ka aa oa wa ca ta na mOp mIk mPa mRu mLa mTy mSp mFr mRe mCa mOr mLe rS rP rK rA rO rW s49.2 rT rN) → va_S A s.heap H locs → (∀ (ls : Array Slot) (H : Heap) (locs : List Loc), True → lv_has ls 5 [(0, .ref h0), (1, .int b1)] → va_P D vwCl (wX8 cy h0 sa pa ka aa oa wa ca ta na mOp mIk mPa mRu mLa mTy mSp mFr mRe mCa mOr mLe rS rP rK rA rO rW q.2 rT rN) H → va_D A (wX8 cy h0 sa pa ka aa oa wa ca ta na mOp mIk mPa mRu mLa mTy mSp mFr mRe mCa mOr mLe rS rP rK rA rO rW q.2 rT rN) → va_S A s.heap H locs → W p l e rm_X8_finds s m args below meth c H locs 0 0 Q (F0 m 112 ls [])) → W p l e rm_X8_finds s m args below meth c H locs 0 0 Q (F0 m 49 ls []) := by
    intro Q n
    induction n with
    | zero =>
      intro b1 mOp mIk mPa mRu mLa mTy mSp mFr mRe mCa mOr mLe rS rP rK rA rO rW rT rN s49 q hq
      exact (k_loop0 hq).elim
    | succ n ih =>
      intro b1 mOp mIk mPa mRu mLa mTy mSp mFr mRe mCa mOr mLe rS rP rK rA rO rW rT rN s49 q hq ls H locs hl hP hD hS kx 
      obtain ⟨x, hf, hq⟩ := k_loopE hq
      unfold t_X8_finds_49 at hf
      refine lv_iload_n hx hb dX8_finds_49 rfl (lv_at hl 2 rfl) ?_
      refine lv_sipush (v := 144) hx hb dX8_finds_50 (by decide) ?_
      refine lv_icmp_ge (tgt := 112) hx hb dX8_finds_53 (by decide) (fun c10 => ?_) (fun c10 => ?_)
      · have hf := k_T c10 hf
        obtain rfl := k_some hf
        obtain rfl := k_some (k_inr hq)
        exact kx ls H locs trivial (lv_sub hl [0, 1] rfl) hP hD hS
      · have hf := k_F c10 hf
        refine lv_iload_n hx hb dX8_finds_56 rfl (lv_at hl 2 rfl) ?_
        refine lv_bipush (v := 12) hx hb dX8_finds_57 (by decide) ?_
        refine lv_idiv hx hb dX8_finds_59 (by decide) ?_
        obtain ⟨y11, ey11, hf⟩ := k_L hf
        refine k_name ey11 ?_
        refine lv_istore_n (lv' := [(3, .int y11), (0, .ref h0), (1, .int b1), (2, .int s49.1)]) hx hb dX8_finds_60 rfl hl (by decide) rfl (fun ls hl => ?_)
        refine lv_iload_n hx hb dX8_finds_61 rfl (lv_at hl 3 rfl) ?_
        refine lv_bipush (v := 12) hx hb dX8_finds_62 (by decide) ?_
        refine lv_irem hx hb dX8_finds_64 (by decide) ?_
        obtain ⟨y12, ey12, hf⟩ := k_L hf
        refine k_name ey12 ?_
        refine lv_istore (lv' := [(4, .int y12), (3, .int y11), (0, .ref h0), (1, .int b1), (2, .int s49.1)]) hx hb dX8_finds_65 hl (by decide) rfl (fun ls hl => ?_)
        refine lv_aload_n hx hb dX8_finds_67 rfl (lv_at hl 2 rfl) ?_
        refine lv_iload_n hx hb dX8_finds_68 rfl (lv_at hl 1 rfl) ?_
        refine lv_iload hx hb dX8_finds_69 (lv_at hl 0 rfl) ?_
        obtain ⟨v13, hv13, hf⟩ := k_B hf
        refine k_callHV (As := [.int y11, .int y12]) (rest := []) (r := (RX8, TX8, 21)) (ci := 5) (q0 := 0) (isC := [0, 1, 2, 3, 4, 5, 6, 7, 8, 9]) (isR := []) (perm := [0, 1, 2, 3, 4, 5, 6, 7, 8, 9]) (w' := (wX8 cy h0 sa pa ka aa oa wa ca ta na mOp mIk mPa mRu mLa mTy mSp mFr mRe mCa mOr mLe rS rP rK rA rO rW s49.2 rT rN)) ⟨hx, hb, hml, hown, hts⟩ (c_X8_joins l D cy h0 sa pa ka aa oa wa ca ta na mOp mIk mPa mRu mLa mTy mSp mFr mRe mCa mOr mLe rS rP rK rA rO rW s49.2 rT rN y11 y12 v13 hv13) (cwV 2 hts gX8_finds_X8_joins rfl rfl rfl hd_X8_joins ⟨Nat.le_of_ble_eq_true rfl, Nat.le_of_ble_eq_true rfl⟩) hK hN hP hD hS hA rfl rfl rfl rfl rfl rfl (by decide) rfl rfl rfl hl.1 rfl (Nat.le_of_ble_eq_true rfl) dX8_finds_71 ⟨Nat.zero_le _, Nat.zero_le _⟩ (fun H locs hP hD hS => ?_)
        refine lv_if_eq (tgt := 106) hx hb dX8_finds_74 (by decide) (fun c14 => ?_) (fun c14 => ?_)
        · have hf := k_T c14 hf
          refine lv_iinc (v := s49.1 + 1) (lv' := [(2, .int (s49.1 + 1)), (4, .int y12), (3, .int y11), (0, .ref h0), (1, .int b1)]) hx hb dX8_finds_106 hl (k := 4) rfl rfl (by decide) rfl (fun ls hl => ?_)
          refine lv_goto (tgt := 49) hx hb dX8_finds_109 (by decide) ?_
          obtain rfl := k_some hf
          exact ih b1 mOp mIk mPa mRu mLa mTy mSp mFr mRe mCa mOr mLe rS rP rK rA rO rW rT rN (s49.1 + 1, s49.2) q (k_inl hq) ls H locs (lv_sub hl [3, 4, 0] rfl) hP hD hS kx 
        · have hf := k_F c14 hf
          refine lv_aload_n hx hb dX8_finds_77 rfl (lv_at hl 2 rfl) ?_
          refine va_get (D := D) (ci := 5) (v := .ref ca) (C := RX8) (T := TX8) (N := 21) hx hb hts in_X8 hown hK hP 0 rfl rfl 6 (by decide) fl28 (fun _ h9 => h9) rfl dX8_finds_78 ?_
          refine lv_iload hx hb dX8_finds_81 (lv_at hl 0 rfl) ?_
          obtain ⟨g15, hf⟩ := k_G hf
          refine va_iald hx hb hK hP 7 0 rfl rfl g15 dX8_finds_83 ?_
          refine lv_aload_n hx hb dX8_finds_84 rfl (lv_at hl 2 rfl) ?_
          refine va_get (D := D) (ci := 5) (v := .ref ca) (C := RX8) (T := TX8) (N := 21) hx hb hts in_X8 hown hK hP 0 rfl rfl 6 (by decide) fl28 (fun _ h9 => h9) rfl dX8_finds_85 ?_
          refine lv_iload_n hx hb dX8_finds_88 rfl (lv_at hl 1 rfl) ?_
          obtain ⟨g16, hf⟩ := k_G hf
          refine va_iald hx hb hK hP 7 0 rfl rfl g16 dX8_finds_89 ?_
          refine lv_icmp_ge (tgt := 106) hx hb dX8_finds_90 (by decide) (fun c17 => ?_) (fun c17 => ?_)
          · have hf := k_T c17 hf
            refine lv_iinc (v := s49.1 + 1) (lv' := [(2, .int (s49.1 + 1)), (4, .int y12), (3, .int y11), (0, .ref h0), (1, .int b1)]) hx hb dX8_finds_106 hl (k := 4) rfl rfl (by decide) rfl (fun ls hl => ?_)
            refine lv_goto (tgt := 49) hx hb dX8_finds_109 (by decide) ?_
            obtain rfl := k_some hf
            exact ih b1 mOp mIk mPa mRu mLa mTy mSp mFr mRe mCa mOr mLe rS rP rK rA rO rW rT rN (s49.1 + 1, s49.2) q (k_inl hq) ls H locs (lv_sub hl [3, 4, 0] rfl) hP hD hS kx 
          · have hf := k_F c17 hf
            refine lv_aload_n hx hb dX8_finds_93 rfl (lv_at hl 2 rfl) ?_
            refine va_get (D := D) (ci := 5) (v := .ref ca) (C := RX8) (T := TX8) (N := 21) hx hb hts in_X8 hown hK hP 0 rfl rfl 6 (by decide) fl28 (fun _ h9 => h9) rfl dX8_finds_94 ?_
            refine lv_iload_n hx hb dX8_finds_97 rfl (lv_at hl 1 rfl) ?_
            refine lv_aload_n hx hb dX8_finds_98 rfl (lv_at hl 2 rfl) ?_
            refine va_get (D := D) (ci := 5) (v := .ref ca) (C := RX8) (T := TX8) (N := 21) hx hb hts in_X8 hown hK hP 0 rfl rfl 6 (by decide) fl28 (fun _ h9 => h9) rfl dX8_finds_99 ?_
            refine lv_iload hx hb dX8_finds_102 (lv_at hl 0 rfl) ?_
            obtain ⟨g18, hf⟩ := k_G hf
            refine va_iald hx hb hK hP 7 0 rfl rfl g18 dX8_finds_104 ?_
            obtain ⟨g19, hf⟩ := k_G hf
            refine va_iast hx hb hK hP hD hS 7 0 rfl rfl g19 dX8_finds_105 (fun H locs hP hD hS => ?_)
            obtain ⟨w20, ew20, hf⟩ := k_L hf
            have hP : va_P D vwCl (wX8 cy h0 sa pa ka aa oa wa ca ta na mOp mIk mPa mRu mLa mTy mSp mFr mRe mCa mOr mLe rS rP rK rA rO rW w20 rT rN) H := by rw [ew20]; exact hP
            have hD : va_D A (wX8 cy h0 sa pa ka aa oa wa ca ta na mOp mIk mPa mRu mLa mTy mSp mFr mRe mCa mOr mLe rS rP rK rA rO rW w20 rT rN) := by rw [ew20]; exact hD
            refine lv_iinc (v := s49.1 + 1) (lv' := [(2, .int (s49.1 + 1)), (4, .int y12), (3, .int y11), (0, .ref h0), (1, .int b1)]) hx hb dX8_finds_106 hl (k := 4) rfl rfl (by decide) rfl (fun ls hl => ?_)
            refine lv_goto (tgt := 49) hx hb dX8_finds_109 (by decide) ?_
            obtain rfl := k_some hf
            exact ih b1 mOp mIk mPa mRu mLa mTy mSp mFr mRe mCa mOr mLe rS rP rK rA rO rW rT rN (s49.1 + 1, w20) q (k_inl hq) ls H locs (lv_sub hl [3, 4, 0] rfl) hP hD hS kx 
  have L41 : ∀ (Q : State → Prop) (n : Nat) (mOp : Int32) (mIk : Int32) (mPa : Int32) (mRu : Int32) (mLa : Int32) (mTy : Int32) (mSp : Int32) (mFr : Int32) (mRe : Int32) (mCa : Int32) (mOr : Int32) (mLe : Int32) (rS : Nat → Int32) (rP : Nat → Int32) (rK : Nat → Int32) (rA : Nat → Int32) (rO : Nat → Int32) (rW : Nat → Int32) (rT : Nat → Int32) (rN : Nat → Int32) (s41 : Int32 × (Nat → Int32)) (q : (Int32 × (Nat → Int32))), k_loop (t_X8_finds_41 rS) n s41 = some q → ∀ (ls : Array Slot) (H : Heap) (locs : List Loc), lv_has ls 5 [(0, .ref h0), (1, .int s41.1)] → va_P D vwCl (wX8 cy h0 sa pa ka aa oa wa ca ta na mOp mIk mPa mRu mLa mTy mSp mFr mRe mCa mOr mLe rS rP rK rA rO rW s41.2 rT rN) H → va_D A (wX8 cy h0 sa pa ka aa oa wa ca ta na mOp mIk mPa mRu mLa mTy mSp mFr mRe mCa mOr mLe rS rP rK rA rO rW s41.2 rT rN) → va_S A s.heap H locs → (∀ (ls : Array Slot) (H : Heap) (locs : List Loc), True → lv_has ls 5 [] → va_P D vwCl (wX8 cy h0 sa pa ka aa oa wa ca ta na mOp mIk mPa mRu mLa mTy mSp mFr mRe mCa mOr mLe rS rP rK rA rO rW q.2 rT rN) H → va_D A (wX8 cy h0 sa pa ka aa oa wa ca ta na mOp mIk mPa mRu mLa mTy mSp mFr mRe mCa mOr mLe rS rP rK rA rO rW q.2 rT rN) → va_S A s.heap H locs → W p l e rm_X8_finds s m args below meth c H locs 0 0 Q (F0 m 118 ls [])) → W p l e rm_X8_finds s m args below meth c H locs 0 0 Q (F0 m 41 ls []) := by
    intro Q n
    induction n with
    | zero =>
      intro mOp mIk mPa mRu mLa mTy mSp mFr mRe mCa mOr mLe rS rP rK rA rO rW rT rN s41 q hq
      exact (k_loop0 hq).elim
    | succ n ih =>
      intro mOp mIk mPa mRu mLa mTy mSp mFr mRe mCa mOr mLe rS rP rK rA rO rW rT rN s41 q hq ls H locs hl hP hD hS kx 
      obtain ⟨x, hf, hq⟩ := k_loopE hq
      unfold t_X8_finds_41 at hf
      refine lv_iload_n hx hb dX8_finds_41 rfl (lv_at hl 1 rfl) ?_
      refine lv_bipush (v := 12) hx hb dX8_finds_42 (by decide) ?_
      refine lv_icmp_ge (tgt := 118) hx hb dX8_finds_44 (by decide) (fun c9 => ?_) (fun c9 => ?_)
      · have hf := k_T c9 hf
        obtain rfl := k_some hf
        obtain rfl := k_some (k_inr hq)
        exact kx ls H locs trivial (lv_sub hl [] rfl) hP hD hS
      · have hf := k_F c9 hf
        refine lv_iconst (v := 0) hx hb dX8_finds_47 (by decide) ?_
        refine lv_istore_n (lv' := [(2, .int 0), (0, .ref h0), (1, .int s41.1)]) hx hb dX8_finds_48 rfl hl (by decide) rfl (fun ls hl => ?_)
        obtain ⟨x21, hx21, hf⟩ := k_B hf
        refine L49 _ 1000 s41.1 mOp mIk mPa mRu mLa mTy mSp mFr mRe mCa mOr mLe rS rP rK rA rO rW rT rN (0, s41.2) x21 hx21 ls H locs (lv_sub hl [1, 2, 0] rfl) hP hD hS ?_
        · intro ls H locs _ hl hP hD hS
          refine lv_iinc (v := s41.1 + 1) (lv' := [(1, .int (s41.1 + 1)), (0, .ref h0)]) hx hb dX8_finds_112 hl (k := 1) rfl rfl (by decide) rfl (fun ls hl => ?_)
          refine lv_goto (tgt := 41) hx hb dX8_finds_115 (by decide) ?_
          obtain rfl := k_some hf
          exact ih mOp mIk mPa mRu mLa mTy mSp mFr mRe mCa mOr mLe rS rP rK rA rO rW rT rN (s41.1 + 1, x21.2) q (k_inl hq) ls H locs (lv_sub hl [1, 0] rfl) hP hD hS kx 
  unfold f_X8_finds at hf
  obtain ⟨H, eH⟩ : ∃ H, H = s.heap := ⟨_, rfl⟩
  obtain ⟨locs, elocs⟩ : ∃ L : List Loc, L = [] := ⟨_, rfl⟩
  have hP : va_P D vwCl (wX8 cy h0 sa pa ka aa oa wa ca ta na mOp mIk mPa mRu mLa mTy mSp mFr mRe mCa mOr mLe rS rP rK rA rO rW rC rT rN) H := by rw [eH]; exact hP
  have hS : va_S A s.heap H locs := by rw [eH, elocs]; exact hS
  refine k_here eH elocs ?_
  refine lv_iconst (v := 0) hx hb dX8_finds_0 (by decide) ?_
  refine lv_istore_n (lv' := [(1, .int 0), (0, .ref h0)]) hx hb dX8_finds_1 rfl hl (by decide) rfl (fun ls hl => ?_)
  obtain ⟨x8, hx8, hf⟩ := k_B hf
  refine L2 _ 1000 mOp mIk mPa mRu mLa mTy mSp mFr mRe mCa mOr mLe rS rP rK rA rO rW rT rN (0, rC) x8 hx8 ls H locs (lv_sub hl [1, 0] rfl) hP hD hS ?_
  · intro ls H locs _ hl hP hD hS
    refine lv_iconst (v := 0) hx hb dX8_finds_39 (by decide) ?_
    refine lv_istore_n (lv' := [(1, .int 0), (0, .ref h0)]) hx hb dX8_finds_40 rfl hl (by decide) rfl (fun ls hl => ?_)
    obtain ⟨x22, hx22, hf⟩ := k_B hf
    refine L41 _ 1000 mOp mIk mPa mRu mLa mTy mSp mFr mRe mCa mOr mLe rS rP rK rA rO rW rT rN (0, x8.2) x22 hx22 ls H locs (lv_sub hl [1, 0] rfl) hP hD hS ?_
    · intro ls H locs _ hl hP hD hS
      obtain rfl := k_some hf
      exact k_vret hx hb hr hP hD hS dX8_finds_118 hlocks
def t_X8_great_4 (b1 : Int32) (rC : Nat → Int32) (s4 : Int32 × Int32) : Option ((Int32 × Int32) ⊕ (Int32 × Int32)) :=
  if 12 ≤ s4.2 then
    some (.inr (s4.1, s4.2))
  else
    if s4.2 < 0 ∨ 12 ≤ s4.2.toNatClampNeg then none else
    if (rC s4.2.toNatClampNeg) = b1 then
      k_let (s4.1 + 1) fun y5 =>
      some (.inl (y5, s4.2 + 1))
    else
      k_let (s4.1 + 0) fun y4 =>
      some (.inl (y4, s4.2 + 1))
def f_X8_great (n1 : Int32) (rC : Nat → Int32) : Option (Int32) :=
  (k_loop (t_X8_great_4 n1 rC) 1000 (0, 0)).bind fun x6 =>
  some x6.1
abbrev rm_X8_great : Room := { frames := 0, cells := 0, slots := 0, locals := 0 }
theorem hd_X8_great : yX8_great.cls = RX8 ∧ yX8_great.cls ≠ "java/lang/invoke/MethodHandle" ∧ yX8_great.cls ≠ "java/lang/invoke/VarHandle" ∧ (parseMethodDescriptor yX8_great.desc).map (fun d => d.parameters.length) = some 1 := by decide +kernel
set_option maxHeartbeats 4000000 in
set_option maxRecDepth 100000 in
theorem c_X8_great (l : Launch) (D : va_G) (cy : Nat → ClassId) (h0 sa pa ka aa oa wa ca ta na : Nat) (mOp : Int32) (mIk : Int32) (mPa : Int32) (mRu : Int32) (mLa : Int32) (mTy : Int32) (mSp : Int32) (mFr : Int32) (mRe : Int32) (mCa : Int32) (mOr : Int32) (mLe : Int32) (rS : Nat → Int32) (rP : Nat → Int32) (rK : Nat → Int32) (rA : Nat → Int32) (rO : Nat → Int32) (rW : Nat → Int32) (rC : Nat → Int32) (rT : Nat → Int32) (rN : Nat → Int32) (n1 : Int32) (r : Int32) (hf : f_X8_great n1 rC = some r) : k_HMet l yX8_great wsX8_great rm_X8_great D (k_tys cy) [.ref h0, .int n1] (wX8 cy h0 sa pa ka aa oa wa ca ta na mOp mIk mPa mRu mLa mTy mSp mFr mRe mCa mOr mLe rS rP rK rA rO rW rC rT rN) (some (.int r)) (wX8 cy h0 sa pa ka aa oa wa ca ta na mOp mIk mPa mRu mLa mTy mSp mFr mRe mCa mOr mLe rS rP rK rA rO rW rC rT rN) := by
  refine k_heapOf (cc := cX8_great) (maxL := 4) (ret := (some .int)) (by decide) rfl (Nat.le_of_ble_eq_true rfl) ?_
  intro p e s m args below meth c ls A hx hb hr hlocks hml hown hts hl hA hK hP hD hN
  have hl : lv_has ls 4 [(0, .ref h0), (1, .int n1)] := hl
  have hS : va_S A s.heap s.heap [] := va_S.rf
  have in_X8 : ∀ w ∈ wsX80, w ∈ wsX8_great := by decide +kernel
  have fl28 := hts (.fieldLink RX8 28 "FencedBoxesModel" "chain" "[I") (by decide +kernel)
  have L4 : ∀ (Q : State → Prop) (n : Nat) (b1 : Int32) (mOp : Int32) (mIk : Int32) (mPa : Int32) (mRu : Int32) (mLa : Int32) (mTy : Int32) (mSp : Int32) (mFr : Int32) (mRe : Int32) (mCa : Int32) (mOr : Int32) (mLe : Int32) (rS : Nat → Int32) (rP : Nat → Int32) (rK : Nat → Int32) (rA : Nat → Int32) (rO : Nat → Int32) (rW : Nat → Int32) (rC : Nat → Int32) (rT : Nat → Int32) (rN : Nat → Int32) (s4 : Int32 × Int32) (q : (Int32 × Int32)), k_loop (t_X8_great_4 b1 rC) n s4 = some q → ∀ (ls : Array Slot) (H : Heap) (locs : List Loc), lv_has ls 4 [(0, .ref h0), (1, .int b1), (2, .int s4.1), (3, .int s4.2)] → va_P D vwCl (wX8 cy h0 sa pa ka aa oa wa ca ta na mOp mIk mPa mRu mLa mTy mSp mFr mRe mCa mOr mLe rS rP rK rA rO rW rC rT rN) H → va_D A (wX8 cy h0 sa pa ka aa oa wa ca ta na mOp mIk mPa mRu mLa mTy mSp mFr mRe mCa mOr mLe rS rP rK rA rO rW rC rT rN) → va_S A s.heap H locs → (∀ (ls : Array Slot) (H : Heap) (locs : List Loc), True → lv_has ls 4 [(2, .int q.1)] → va_P D vwCl (wX8 cy h0 sa pa ka aa oa wa ca ta na mOp mIk mPa mRu mLa mTy mSp mFr mRe mCa mOr mLe rS rP rK rA rO rW rC rT rN) H → va_D A (wX8 cy h0 sa pa ka aa oa wa ca ta na mOp mIk mPa mRu mLa mTy mSp mFr mRe mCa mOr mLe rS rP rK rA rO rW rC rT rN) → va_S A s.heap H locs → W p l e rm_X8_great s m args below meth c H locs 0 0 Q (F0 m 34 ls [])) → W p l e rm_X8_great s m args below meth c H locs 0 0 Q (F0 m 4 ls []) := by
    intro Q n
    induction n with
    | zero =>
      intro b1 mOp mIk mPa mRu mLa mTy mSp mFr mRe mCa mOr mLe rS rP rK rA rO rW rC rT rN s4 q hq
      exact (k_loop0 hq).elim
    | succ n ih =>
      intro b1 mOp mIk mPa mRu mLa mTy mSp mFr mRe mCa mOr mLe rS rP rK rA rO rW rC rT rN s4 q hq ls H locs hl hP hD hS kx 
      obtain ⟨x, hf, hq⟩ := k_loopE hq
      unfold t_X8_great_4 at hf
      refine lv_iload_n hx hb dX8_great_4 rfl (lv_at hl 3 rfl) ?_
      refine lv_bipush (v := 12) hx hb dX8_great_5 (by decide) ?_
      refine lv_icmp_ge (tgt := 34) hx hb dX8_great_7 (by decide) (fun c1 => ?_) (fun c1 => ?_)
      · have hf := k_T c1 hf
        obtain rfl := k_some hf
        obtain rfl := k_some (k_inr hq)
        exact kx ls H locs trivial (lv_sub hl [2] rfl) hP hD hS
      · have hf := k_F c1 hf
        refine lv_iload_n hx hb dX8_great_10 rfl (lv_at hl 2 rfl) ?_
        refine lv_aload_n hx hb dX8_great_11 rfl (lv_at hl 0 rfl) ?_
        refine va_get (D := D) (ci := 5) (v := .ref ca) (C := RX8) (T := TX8) (N := 21) hx hb hts in_X8 hown hK hP 0 rfl rfl 6 (by decide) fl28 (fun _ h9 => h9) rfl dX8_great_12 ?_
        refine lv_iload_n hx hb dX8_great_15 rfl (lv_at hl 3 rfl) ?_
        obtain ⟨g2, hf⟩ := k_G hf
        refine va_iald hx hb hK hP 7 0 rfl rfl g2 dX8_great_16 ?_
        refine lv_iload_n hx hb dX8_great_17 rfl (lv_at hl 1 rfl) ?_
        refine lv_icmp_ne (tgt := 25) hx hb dX8_great_18 (by decide) (fun c3 => ?_) (fun c3 => ?_)
        · have hf := k_F c3 hf
          refine lv_iconst (v := 0) hx hb dX8_great_25 (by decide) ?_
          refine lv_iadd hx hb dX8_great_26 ?_
          obtain ⟨y4, ey4, hf⟩ := k_L hf
          refine k_name ey4 ?_
          refine lv_istore_n (lv' := [(2, .int y4), (0, .ref h0), (1, .int b1), (3, .int s4.2)]) hx hb dX8_great_27 rfl hl (by decide) rfl (fun ls hl => ?_)
          refine lv_iinc (v := s4.2 + 1) (lv' := [(3, .int (s4.2 + 1)), (2, .int y4), (0, .ref h0), (1, .int b1)]) hx hb dX8_great_28 hl (k := 3) rfl rfl (by decide) rfl (fun ls hl => ?_)
          refine lv_goto (tgt := 4) hx hb dX8_great_31 (by decide) ?_
          obtain rfl := k_some hf
          exact ih b1 mOp mIk mPa mRu mLa mTy mSp mFr mRe mCa mOr mLe rS rP rK rA rO rW rC rT rN (y4, s4.2 + 1) q (k_inl hq) ls H locs (lv_sub hl [2, 3, 1, 0] rfl) hP hD hS kx 
        · have hf := k_T c3 hf
          refine lv_iconst (v := 1) hx hb dX8_great_21 (by decide) ?_
          refine lv_goto (tgt := 26) hx hb dX8_great_22 (by decide) ?_
          refine lv_iadd hx hb dX8_great_26 ?_
          obtain ⟨y5, ey5, hf⟩ := k_L hf
          refine k_name ey5 ?_
          refine lv_istore_n (lv' := [(2, .int y5), (0, .ref h0), (1, .int b1), (3, .int s4.2)]) hx hb dX8_great_27 rfl hl (by decide) rfl (fun ls hl => ?_)
          refine lv_iinc (v := s4.2 + 1) (lv' := [(3, .int (s4.2 + 1)), (2, .int y5), (0, .ref h0), (1, .int b1)]) hx hb dX8_great_28 hl (k := 3) rfl rfl (by decide) rfl (fun ls hl => ?_)
          refine lv_goto (tgt := 4) hx hb dX8_great_31 (by decide) ?_
          obtain rfl := k_some hf
          exact ih b1 mOp mIk mPa mRu mLa mTy mSp mFr mRe mCa mOr mLe rS rP rK rA rO rW rC rT rN (y5, s4.2 + 1) q (k_inl hq) ls H locs (lv_sub hl [2, 3, 1, 0] rfl) hP hD hS kx 
  unfold f_X8_great at hf
  obtain ⟨H, eH⟩ : ∃ H, H = s.heap := ⟨_, rfl⟩
  obtain ⟨locs, elocs⟩ : ∃ L : List Loc, L = [] := ⟨_, rfl⟩
  have hP : va_P D vwCl (wX8 cy h0 sa pa ka aa oa wa ca ta na mOp mIk mPa mRu mLa mTy mSp mFr mRe mCa mOr mLe rS rP rK rA rO rW rC rT rN) H := by rw [eH]; exact hP
  have hS : va_S A s.heap H locs := by rw [eH, elocs]; exact hS
  refine k_here eH elocs ?_
  refine lv_iconst (v := 0) hx hb dX8_great_0 (by decide) ?_
  refine lv_istore_n (lv' := [(2, .int 0), (0, .ref h0), (1, .int n1)]) hx hb dX8_great_1 rfl hl (by decide) rfl (fun ls hl => ?_)
  refine lv_iconst (v := 0) hx hb dX8_great_2 (by decide) ?_
  refine lv_istore_n (lv' := [(3, .int 0), (2, .int 0), (0, .ref h0), (1, .int n1)]) hx hb dX8_great_3 rfl hl (by decide) rfl (fun ls hl => ?_)
  obtain ⟨x6, hx6, hf⟩ := k_B hf
  refine L4 _ 1000 n1 mOp mIk mPa mRu mLa mTy mSp mFr mRe mCa mOr mLe rS rP rK rA rO rW rC rT rN (0, 0) x6 hx6 ls H locs (lv_sub hl [2, 3, 1, 0] rfl) hP hD hS ?_
  · intro ls H locs _ hl hP hD hS
    refine lv_iload_n hx hb dX8_great_34 rfl (lv_at hl 0 rfl) ?_
    obtain rfl := k_some hf
    exact k_iret hx hb hr hP hD hS dX8_great_35 hlocks
def t_X8_isRing_29 (b1 : Int32) (b2 : Int32) (b3 : Int32) (rS : Nat → Int32) (s29 : Int32 × Int32) : Option ((Int32 × Int32) ⊕ (Int32 × Int32)) :=
  if 12 ≤ s29.2 then
    some (.inr (s29.1, s29.2))
  else
    (f_X8_joins b3 s29.2 rS).bind fun v5 =>
    if v5 = 0 then
      k_let (s29.1 + 0) fun y7 =>
      some (.inl (y7, s29.2 + 1))
    else
      k_let (s29.1 + 1) fun y8 =>
      some (.inl (y8, s29.2 + 1))
def t_X8_isRing_17 (b1 : Int32) (rS : Nat → Int32) (rC : Nat → Int32) (s17 : Int32 × Int32) : Option ((Int32 × Int32) ⊕ (Int32 × Int32)) :=
  if 12 ≤ s17.2 then
    some (.inr (s17.1, s17.2))
  else
    (k_loop (t_X8_isRing_29 b1 s17.1 s17.2 rS) 1000 (0, 0)).bind fun x9 =>
    if s17.1 = 0 then
      some (.inl (0, s17.2 + 1))
    else
      if s17.2 < 0 ∨ 12 ≤ s17.2.toNatClampNeg then none else
      if (rC s17.2.toNatClampNeg) = b1 then
        if x9.1 = 2 then
          some (.inl (1, s17.2 + 1))
        else
          some (.inl (0, s17.2 + 1))
      else
        some (.inl (1, s17.2 + 1))
def f_X8_isRing (n1 : Int32) (rS : Nat → Int32) (rC : Nat → Int32) : Option (Int32) :=
  (f_X8_great n1 rC).bind fun v1 =>
  if v1 < 4 then
    (k_loop (t_X8_isRing_17 n1 rS rC) 1000 (0, 0)).bind fun x14 =>
    if x14.1 = 0 ∨ x14.1 = 1 then some x14.1 else none
  else
    (k_loop (t_X8_isRing_17 n1 rS rC) 1000 (1, 0)).bind fun x15 =>
    if x15.1 = 0 ∨ x15.1 = 1 then some x15.1 else none
abbrev rm_X8_isRing : Room := { frames := 3, cells := 0, slots := 0, locals := 68 }
theorem hd_X8_isRing : yX8_isRing.cls = RX8 ∧ yX8_isRing.cls ≠ "java/lang/invoke/MethodHandle" ∧ yX8_isRing.cls ≠ "java/lang/invoke/VarHandle" ∧ (parseMethodDescriptor yX8_isRing.desc).map (fun d => d.parameters.length) = some 1 := by decide +kernel
set_option maxHeartbeats 4000000 in
set_option maxRecDepth 100000 in
theorem c_X8_isRing (l : Launch) (D : va_G) (cy : Nat → ClassId) (h0 sa pa ka aa oa wa ca ta na : Nat) (mOp : Int32) (mIk : Int32) (mPa : Int32) (mRu : Int32) (mLa : Int32) (mTy : Int32) (mSp : Int32) (mFr : Int32) (mRe : Int32) (mCa : Int32) (mOr : Int32) (mLe : Int32) (rS : Nat → Int32) (rP : Nat → Int32) (rK : Nat → Int32) (rA : Nat → Int32) (rO : Nat → Int32) (rW : Nat → Int32) (rC : Nat → Int32) (rT : Nat → Int32) (rN : Nat → Int32) (n1 : Int32) (r : Int32) (hf : f_X8_isRing n1 rS rC = some r) : k_HMet l yX8_isRing wsX8_isRing rm_X8_isRing D (k_tys cy) [.ref h0, .int n1] (wX8 cy h0 sa pa ka aa oa wa ca ta na mOp mIk mPa mRu mLa mTy mSp mFr mRe mCa mOr mLe rS rP rK rA rO rW rC rT rN) (some (.int r)) (wX8 cy h0 sa pa ka aa oa wa ca ta na mOp mIk mPa mRu mLa mTy mSp mFr mRe mCa mOr mLe rS rP rK rA rO rW rC rT rN) := by
  refine k_heapOf (cc := cX8_isRing) (maxL := 6) (ret := (some .boolean)) (by decide) rfl (Nat.le_of_ble_eq_true rfl) ?_
  intro p e s m args below meth c ls A hx hb hr hlocks hml hown hts hl hA hK hP hD hN
  have hl : lv_has ls 6 [(0, .ref h0), (1, .int n1)] := hl
  have hS : va_S A s.heap s.heap [] := va_S.rf
  have in_X8 : ∀ w ∈ wsX80, w ∈ wsX8_isRing := by decide +kernel
  have fl28 := hts (.fieldLink RX8 28 "FencedBoxesModel" "chain" "[I") (by decide +kernel)
  have L29 : ∀ (Q : State → Prop) (n : Nat) (b1 : Int32) (b2 : Int32) (b3 : Int32) (mOp : Int32) (mIk : Int32) (mPa : Int32) (mRu : Int32) (mLa : Int32) (mTy : Int32) (mSp : Int32) (mFr : Int32) (mRe : Int32) (mCa : Int32) (mOr : Int32) (mLe : Int32) (rS : Nat → Int32) (rP : Nat → Int32) (rK : Nat → Int32) (rA : Nat → Int32) (rO : Nat → Int32) (rW : Nat → Int32) (rC : Nat → Int32) (rT : Nat → Int32) (rN : Nat → Int32) (s29 : Int32 × Int32) (q : (Int32 × Int32)), k_loop (t_X8_isRing_29 b1 b2 b3 rS) n s29 = some q → ∀ (ls : Array Slot) (H : Heap) (locs : List Loc), lv_has ls 6 [(0, .ref h0), (1, .int b1), (2, .int b2), (3, .int b3), (4, .int s29.1), (5, .int s29.2)] → va_P D vwCl (wX8 cy h0 sa pa ka aa oa wa ca ta na mOp mIk mPa mRu mLa mTy mSp mFr mRe mCa mOr mLe rS rP rK rA rO rW rC rT rN) H → va_D A (wX8 cy h0 sa pa ka aa oa wa ca ta na mOp mIk mPa mRu mLa mTy mSp mFr mRe mCa mOr mLe rS rP rK rA rO rW rC rT rN) → va_S A s.heap H locs → (∀ (ls : Array Slot) (H : Heap) (locs : List Loc), True → lv_has ls 6 [(0, .ref h0), (1, .int b1), (2, .int b2), (3, .int b3), (4, .int q.1)] → va_P D vwCl (wX8 cy h0 sa pa ka aa oa wa ca ta na mOp mIk mPa mRu mLa mTy mSp mFr mRe mCa mOr mLe rS rP rK rA rO rW rC rT rN) H → va_D A (wX8 cy h0 sa pa ka aa oa wa ca ta na mOp mIk mPa mRu mLa mTy mSp mFr mRe mCa mOr mLe rS rP rK rA rO rW rC rT rN) → va_S A s.heap H locs → W p l e rm_X8_isRing s m args below meth c H locs 0 0 Q (F0 m 62 ls [])) → W p l e rm_X8_isRing s m args below meth c H locs 0 0 Q (F0 m 29 ls []) := by
    intro Q n
    induction n with
    | zero =>
      intro b1 b2 b3 mOp mIk mPa mRu mLa mTy mSp mFr mRe mCa mOr mLe rS rP rK rA rO rW rC rT rN s29 q hq
      exact (k_loop0 hq).elim
    | succ n ih =>
      intro b1 b2 b3 mOp mIk mPa mRu mLa mTy mSp mFr mRe mCa mOr mLe rS rP rK rA rO rW rC rT rN s29 q hq ls H locs hl hP hD hS kx 
      obtain ⟨x, hf, hq⟩ := k_loopE hq
      unfold t_X8_isRing_29 at hf
      refine lv_iload hx hb dX8_isRing_29 (lv_at hl 5 rfl) ?_
      refine lv_bipush (v := 12) hx hb dX8_isRing_31 (by decide) ?_
      refine lv_icmp_ge (tgt := 62) hx hb dX8_isRing_33 (by decide) (fun c4 => ?_) (fun c4 => ?_)
      · have hf := k_T c4 hf
        obtain rfl := k_some hf
        obtain rfl := k_some (k_inr hq)
        exact kx ls H locs trivial (lv_sub hl [0, 1, 2, 3, 4] rfl) hP hD hS
      · have hf := k_F c4 hf
        refine lv_iload hx hb dX8_isRing_36 (lv_at hl 4 rfl) ?_
        refine lv_aload_n hx hb dX8_isRing_38 rfl (lv_at hl 0 rfl) ?_
        refine lv_iload_n hx hb dX8_isRing_39 rfl (lv_at hl 3 rfl) ?_
        refine lv_iload hx hb dX8_isRing_40 (lv_at hl 5 rfl) ?_
        obtain ⟨v5, hv5, hf⟩ := k_B hf
        refine k_callHV (As := [.int b3, .int s29.2]) (rest := [.int s29.1]) (r := (RX8, TX8, 21)) (ci := 5) (q0 := 0) (isC := [0, 1, 2, 3, 4, 5, 6, 7, 8, 9]) (isR := []) (perm := [0, 1, 2, 3, 4, 5, 6, 7, 8, 9]) (w' := (wX8 cy h0 sa pa ka aa oa wa ca ta na mOp mIk mPa mRu mLa mTy mSp mFr mRe mCa mOr mLe rS rP rK rA rO rW rC rT rN)) ⟨hx, hb, hml, hown, hts⟩ (c_X8_joins l D cy h0 sa pa ka aa oa wa ca ta na mOp mIk mPa mRu mLa mTy mSp mFr mRe mCa mOr mLe rS rP rK rA rO rW rC rT rN b3 s29.2 v5 hv5) (cwV 2 hts gX8_isRing_X8_joins rfl rfl rfl hd_X8_joins ⟨Nat.le_of_ble_eq_true rfl, Nat.le_of_ble_eq_true rfl⟩) hK hN hP hD hS hA rfl rfl rfl rfl rfl rfl (by decide) rfl rfl rfl hl.1 rfl (Nat.le_of_ble_eq_true rfl) dX8_isRing_42 ⟨Nat.zero_le _, Nat.zero_le _⟩ (fun H locs hP hD hS => ?_)
        refine lv_if_eq (tgt := 52) hx hb dX8_isRing_45 (by decide) (fun c6 => ?_) (fun c6 => ?_)
        · have hf := k_T c6 hf
          refine lv_iconst (v := 0) hx hb dX8_isRing_52 (by decide) ?_
          refine lv_iadd hx hb dX8_isRing_53 ?_
          obtain ⟨y7, ey7, hf⟩ := k_L hf
          refine k_name ey7 ?_
          refine lv_istore (lv' := [(4, .int y7), (0, .ref h0), (1, .int b1), (2, .int b2), (3, .int b3), (5, .int s29.2)]) hx hb dX8_isRing_54 hl (by decide) rfl (fun ls hl => ?_)
          refine lv_iinc (v := s29.2 + 1) (lv' := [(5, .int (s29.2 + 1)), (4, .int y7), (0, .ref h0), (1, .int b1), (2, .int b2), (3, .int b3)]) hx hb dX8_isRing_56 hl (k := 5) rfl rfl (by decide) rfl (fun ls hl => ?_)
          refine lv_goto (tgt := 29) hx hb dX8_isRing_59 (by decide) ?_
          obtain rfl := k_some hf
          exact ih b1 b2 b3 mOp mIk mPa mRu mLa mTy mSp mFr mRe mCa mOr mLe rS rP rK rA rO rW rC rT rN (y7, s29.2 + 1) q (k_inl hq) ls H locs (lv_sub hl [2, 3, 4, 5, 1, 0] rfl) hP hD hS kx 
        · have hf := k_F c6 hf
          refine lv_iconst (v := 1) hx hb dX8_isRing_48 (by decide) ?_
          refine lv_goto (tgt := 53) hx hb dX8_isRing_49 (by decide) ?_
          refine lv_iadd hx hb dX8_isRing_53 ?_
          obtain ⟨y8, ey8, hf⟩ := k_L hf
          refine k_name ey8 ?_
          refine lv_istore (lv' := [(4, .int y8), (0, .ref h0), (1, .int b1), (2, .int b2), (3, .int b3), (5, .int s29.2)]) hx hb dX8_isRing_54 hl (by decide) rfl (fun ls hl => ?_)
          refine lv_iinc (v := s29.2 + 1) (lv' := [(5, .int (s29.2 + 1)), (4, .int y8), (0, .ref h0), (1, .int b1), (2, .int b2), (3, .int b3)]) hx hb dX8_isRing_56 hl (k := 5) rfl rfl (by decide) rfl (fun ls hl => ?_)
          refine lv_goto (tgt := 29) hx hb dX8_isRing_59 (by decide) ?_
          obtain rfl := k_some hf
          exact ih b1 b2 b3 mOp mIk mPa mRu mLa mTy mSp mFr mRe mCa mOr mLe rS rP rK rA rO rW rC rT rN (y8, s29.2 + 1) q (k_inl hq) ls H locs (lv_sub hl [2, 3, 4, 5, 1, 0] rfl) hP hD hS kx 
  have L17 : ∀ (Q : State → Prop) (n : Nat) (b1 : Int32) (mOp : Int32) (mIk : Int32) (mPa : Int32) (mRu : Int32) (mLa : Int32) (mTy : Int32) (mSp : Int32) (mFr : Int32) (mRe : Int32) (mCa : Int32) (mOr : Int32) (mLe : Int32) (rS : Nat → Int32) (rP : Nat → Int32) (rK : Nat → Int32) (rA : Nat → Int32) (rO : Nat → Int32) (rW : Nat → Int32) (rC : Nat → Int32) (rT : Nat → Int32) (rN : Nat → Int32) (s17 : Int32 × Int32) (q : (Int32 × Int32)), k_loop (t_X8_isRing_17 b1 rS rC) n s17 = some q → ∀ (ls : Array Slot) (H : Heap) (locs : List Loc), lv_has ls 6 [(0, .ref h0), (1, .int b1), (2, .int s17.1), (3, .int s17.2)] → va_P D vwCl (wX8 cy h0 sa pa ka aa oa wa ca ta na mOp mIk mPa mRu mLa mTy mSp mFr mRe mCa mOr mLe rS rP rK rA rO rW rC rT rN) H → va_D A (wX8 cy h0 sa pa ka aa oa wa ca ta na mOp mIk mPa mRu mLa mTy mSp mFr mRe mCa mOr mLe rS rP rK rA rO rW rC rT rN) → va_S A s.heap H locs → (∀ (ls : Array Slot) (H : Heap) (locs : List Loc), True → lv_has ls 6 [(2, .int q.1)] → va_P D vwCl (wX8 cy h0 sa pa ka aa oa wa ca ta na mOp mIk mPa mRu mLa mTy mSp mFr mRe mCa mOr mLe rS rP rK rA rO rW rC rT rN) H → va_D A (wX8 cy h0 sa pa ka aa oa wa ca ta na mOp mIk mPa mRu mLa mTy mSp mFr mRe mCa mOr mLe rS rP rK rA rO rW rC rT rN) → va_S A s.heap H locs → W p l e rm_X8_isRing s m args below meth c H locs 0 0 Q (F0 m 94 ls [])) → W p l e rm_X8_isRing s m args below meth c H locs 0 0 Q (F0 m 17 ls []) := by
    intro Q n
    induction n with
    | zero =>
      intro b1 mOp mIk mPa mRu mLa mTy mSp mFr mRe mCa mOr mLe rS rP rK rA rO rW rC rT rN s17 q hq
      exact (k_loop0 hq).elim
    | succ n ih =>
      intro b1 mOp mIk mPa mRu mLa mTy mSp mFr mRe mCa mOr mLe rS rP rK rA rO rW rC rT rN s17 q hq ls H locs hl hP hD hS kx 
      obtain ⟨x, hf, hq⟩ := k_loopE hq
      unfold t_X8_isRing_17 at hf
      refine lv_iload_n hx hb dX8_isRing_17 rfl (lv_at hl 3 rfl) ?_
      refine lv_bipush (v := 12) hx hb dX8_isRing_18 (by decide) ?_
      refine lv_icmp_ge (tgt := 94) hx hb dX8_isRing_20 (by decide) (fun c3 => ?_) (fun c3 => ?_)
      · have hf := k_T c3 hf
        obtain rfl := k_some hf
        obtain rfl := k_some (k_inr hq)
        exact kx ls H locs trivial (lv_sub hl [2] rfl) hP hD hS
      · have hf := k_F c3 hf
        refine lv_iconst (v := 0) hx hb dX8_isRing_23 (by decide) ?_
        refine lv_istore (lv' := [(4, .int 0), (0, .ref h0), (1, .int b1), (2, .int s17.1), (3, .int s17.2)]) hx hb dX8_isRing_24 hl (by decide) rfl (fun ls hl => ?_)
        refine lv_iconst (v := 0) hx hb dX8_isRing_26 (by decide) ?_
        refine lv_istore (lv' := [(5, .int 0), (4, .int 0), (0, .ref h0), (1, .int b1), (2, .int s17.1), (3, .int s17.2)]) hx hb dX8_isRing_27 hl (by decide) rfl (fun ls hl => ?_)
        obtain ⟨x9, hx9, hf⟩ := k_B hf
        refine L29 _ 1000 b1 s17.1 s17.2 mOp mIk mPa mRu mLa mTy mSp mFr mRe mCa mOr mLe rS rP rK rA rO rW rC rT rN (0, 0) x9 hx9 ls H locs (lv_sub hl [2, 3, 4, 5, 1, 0] rfl) hP hD hS ?_
        · intro ls H locs _ hl hP hD hS
          refine lv_iload_n hx hb dX8_isRing_62 rfl (lv_at hl 2 rfl) ?_
          refine lv_if_eq (tgt := 86) hx hb dX8_isRing_63 (by decide) (fun c10 => ?_) (fun c10 => ?_)
          · have hf := k_T c10 hf
            refine lv_iconst (v := 0) hx hb dX8_isRing_86 (by decide) ?_
            refine lv_istore_n (lv' := [(2, .int 0), (0, .ref h0), (1, .int b1), (3, .int s17.2), (4, .int x9.1)]) hx hb dX8_isRing_87 rfl hl (by decide) rfl (fun ls hl => ?_)
            refine lv_iinc (v := s17.2 + 1) (lv' := [(3, .int (s17.2 + 1)), (2, .int 0), (0, .ref h0), (1, .int b1), (4, .int x9.1)]) hx hb dX8_isRing_88 hl (k := 3) rfl rfl (by decide) rfl (fun ls hl => ?_)
            refine lv_goto (tgt := 17) hx hb dX8_isRing_91 (by decide) ?_
            obtain rfl := k_some hf
            exact ih b1 mOp mIk mPa mRu mLa mTy mSp mFr mRe mCa mOr mLe rS rP rK rA rO rW rC rT rN (0, s17.2 + 1) q (k_inl hq) ls H locs (lv_sub hl [2, 3, 1, 0] rfl) hP hD hS kx 
          · have hf := k_F c10 hf
            refine lv_aload_n hx hb dX8_isRing_66 rfl (lv_at hl 0 rfl) ?_
            refine va_get (D := D) (ci := 5) (v := .ref ca) (C := RX8) (T := TX8) (N := 21) hx hb hts in_X8 hown hK hP 0 rfl rfl 6 (by decide) fl28 (fun _ h9 => h9) rfl dX8_isRing_67 ?_
            refine lv_iload_n hx hb dX8_isRing_70 rfl (lv_at hl 3 rfl) ?_
            obtain ⟨g11, hf⟩ := k_G hf
            refine va_iald hx hb hK hP 7 0 rfl rfl g11 dX8_isRing_71 ?_
            refine lv_iload_n hx hb dX8_isRing_72 rfl (lv_at hl 1 rfl) ?_
            refine lv_icmp_ne (tgt := 82) hx hb dX8_isRing_73 (by decide) (fun c12 => ?_) (fun c12 => ?_)
            · have hf := k_F c12 hf
              refine lv_iconst (v := 1) hx hb dX8_isRing_82 (by decide) ?_
              refine lv_goto (tgt := 87) hx hb dX8_isRing_83 (by decide) ?_
              refine lv_istore_n (lv' := [(2, .int 1), (0, .ref h0), (1, .int b1), (3, .int s17.2), (4, .int x9.1)]) hx hb dX8_isRing_87 rfl hl (by decide) rfl (fun ls hl => ?_)
              refine lv_iinc (v := s17.2 + 1) (lv' := [(3, .int (s17.2 + 1)), (2, .int 1), (0, .ref h0), (1, .int b1), (4, .int x9.1)]) hx hb dX8_isRing_88 hl (k := 3) rfl rfl (by decide) rfl (fun ls hl => ?_)
              refine lv_goto (tgt := 17) hx hb dX8_isRing_91 (by decide) ?_
              obtain rfl := k_some hf
              exact ih b1 mOp mIk mPa mRu mLa mTy mSp mFr mRe mCa mOr mLe rS rP rK rA rO rW rC rT rN (1, s17.2 + 1) q (k_inl hq) ls H locs (lv_sub hl [2, 3, 1, 0] rfl) hP hD hS kx 
            · have hf := k_T c12 hf
              refine lv_iload hx hb dX8_isRing_76 (lv_at hl 4 rfl) ?_
              refine lv_iconst (v := 2) hx hb dX8_isRing_78 (by decide) ?_
              refine lv_icmp_ne (tgt := 86) hx hb dX8_isRing_79 (by decide) (fun c13 => ?_) (fun c13 => ?_)
              · have hf := k_F c13 hf
                refine lv_iconst (v := 0) hx hb dX8_isRing_86 (by decide) ?_
                refine lv_istore_n (lv' := [(2, .int 0), (0, .ref h0), (1, .int b1), (3, .int s17.2), (4, .int x9.1)]) hx hb dX8_isRing_87 rfl hl (by decide) rfl (fun ls hl => ?_)
                refine lv_iinc (v := s17.2 + 1) (lv' := [(3, .int (s17.2 + 1)), (2, .int 0), (0, .ref h0), (1, .int b1), (4, .int x9.1)]) hx hb dX8_isRing_88 hl (k := 3) rfl rfl (by decide) rfl (fun ls hl => ?_)
                refine lv_goto (tgt := 17) hx hb dX8_isRing_91 (by decide) ?_
                obtain rfl := k_some hf
                exact ih b1 mOp mIk mPa mRu mLa mTy mSp mFr mRe mCa mOr mLe rS rP rK rA rO rW rC rT rN (0, s17.2 + 1) q (k_inl hq) ls H locs (lv_sub hl [2, 3, 1, 0] rfl) hP hD hS kx 
              · have hf := k_T c13 hf
                refine lv_iconst (v := 1) hx hb dX8_isRing_82 (by decide) ?_
                refine lv_goto (tgt := 87) hx hb dX8_isRing_83 (by decide) ?_
                refine lv_istore_n (lv' := [(2, .int 1), (0, .ref h0), (1, .int b1), (3, .int s17.2), (4, .int x9.1)]) hx hb dX8_isRing_87 rfl hl (by decide) rfl (fun ls hl => ?_)
                refine lv_iinc (v := s17.2 + 1) (lv' := [(3, .int (s17.2 + 1)), (2, .int 1), (0, .ref h0), (1, .int b1), (4, .int x9.1)]) hx hb dX8_isRing_88 hl (k := 3) rfl rfl (by decide) rfl (fun ls hl => ?_)
                refine lv_goto (tgt := 17) hx hb dX8_isRing_91 (by decide) ?_
                obtain rfl := k_some hf
                exact ih b1 mOp mIk mPa mRu mLa mTy mSp mFr mRe mCa mOr mLe rS rP rK rA rO rW rC rT rN (1, s17.2 + 1) q (k_inl hq) ls H locs (lv_sub hl [2, 3, 1, 0] rfl) hP hD hS kx 
  unfold f_X8_isRing at hf
  obtain ⟨H, eH⟩ : ∃ H, H = s.heap := ⟨_, rfl⟩
  obtain ⟨locs, elocs⟩ : ∃ L : List Loc, L = [] := ⟨_, rfl⟩
  have hP : va_P D vwCl (wX8 cy h0 sa pa ka aa oa wa ca ta na mOp mIk mPa mRu mLa mTy mSp mFr mRe mCa mOr mLe rS rP rK rA rO rW rC rT rN) H := by rw [eH]; exact hP
  have hS : va_S A s.heap H locs := by rw [eH, elocs]; exact hS
  refine k_here eH elocs ?_
  refine lv_aload_n hx hb dX8_isRing_0 rfl (lv_at hl 0 rfl) ?_
  refine lv_iload_n hx hb dX8_isRing_1 rfl (lv_at hl 1 rfl) ?_
  obtain ⟨v1, hv1, hf⟩ := k_B hf
  refine k_callHV (As := [.int n1]) (rest := []) (r := (RX8, TX8, 21)) (ci := 5) (q0 := 0) (isC := [0, 1, 2, 3, 4, 5, 6, 7, 8, 9]) (isR := []) (perm := [0, 1, 2, 3, 4, 5, 6, 7, 8, 9]) (w' := (wX8 cy h0 sa pa ka aa oa wa ca ta na mOp mIk mPa mRu mLa mTy mSp mFr mRe mCa mOr mLe rS rP rK rA rO rW rC rT rN)) ⟨hx, hb, hml, hown, hts⟩ (c_X8_great l D cy h0 sa pa ka aa oa wa ca ta na mOp mIk mPa mRu mLa mTy mSp mFr mRe mCa mOr mLe rS rP rK rA rO rW rC rT rN n1 v1 hv1) (cwV 1 hts gX8_isRing_X8_great rfl rfl rfl hd_X8_great ⟨Nat.le_of_ble_eq_true rfl, Nat.le_of_ble_eq_true rfl⟩) hK hN hP hD hS hA rfl rfl rfl rfl rfl rfl (by decide) rfl rfl rfl hl.1 rfl (Nat.le_of_ble_eq_true rfl) dX8_isRing_2 ⟨Nat.zero_le _, Nat.zero_le _⟩ (fun H locs hP hD hS => ?_)
  refine lv_iconst (v := 4) hx hb dX8_isRing_5 (by decide) ?_
  refine lv_icmp_lt (tgt := 13) hx hb dX8_isRing_6 (by decide) (fun c2 => ?_) (fun c2 => ?_)
  · have hf := k_T c2 hf
    refine lv_iconst (v := 0) hx hb dX8_isRing_13 (by decide) ?_
    refine lv_istore_n (lv' := [(2, .int 0), (0, .ref h0), (1, .int n1)]) hx hb dX8_isRing_14 rfl hl (by decide) rfl (fun ls hl => ?_)
    refine lv_iconst (v := 0) hx hb dX8_isRing_15 (by decide) ?_
    refine lv_istore_n (lv' := [(3, .int 0), (2, .int 0), (0, .ref h0), (1, .int n1)]) hx hb dX8_isRing_16 rfl hl (by decide) rfl (fun ls hl => ?_)
    obtain ⟨x14, hx14, hf⟩ := k_B hf
    refine L17 _ 1000 n1 mOp mIk mPa mRu mLa mTy mSp mFr mRe mCa mOr mLe rS rP rK rA rO rW rC rT rN (0, 0) x14 hx14 ls H locs (lv_sub hl [2, 3, 1, 0] rfl) hP hD hS ?_
    · intro ls H locs _ hl hP hD hS
      refine lv_iload_n hx hb dX8_isRing_94 rfl (lv_at hl 0 rfl) ?_
      obtain ⟨rfl, hn⟩ := k_boolR hf
      exact k_zret hx hb hr hn hP hD hS dX8_isRing_95 hlocks
  · have hf := k_F c2 hf
    refine lv_iconst (v := 1) hx hb dX8_isRing_9 (by decide) ?_
    refine lv_goto (tgt := 14) hx hb dX8_isRing_10 (by decide) ?_
    refine lv_istore_n (lv' := [(2, .int 1), (0, .ref h0), (1, .int n1)]) hx hb dX8_isRing_14 rfl hl (by decide) rfl (fun ls hl => ?_)
    refine lv_iconst (v := 0) hx hb dX8_isRing_15 (by decide) ?_
    refine lv_istore_n (lv' := [(3, .int 0), (2, .int 1), (0, .ref h0), (1, .int n1)]) hx hb dX8_isRing_16 rfl hl (by decide) rfl (fun ls hl => ?_)
    obtain ⟨x15, hx15, hf⟩ := k_B hf
    refine L17 _ 1000 n1 mOp mIk mPa mRu mLa mTy mSp mFr mRe mCa mOr mLe rS rP rK rA rO rW rC rT rN (1, 0) x15 hx15 ls H locs (lv_sub hl [2, 3, 1, 0] rfl) hP hD hS ?_
    · intro ls H locs _ hl hP hD hS
      refine lv_iload_n hx hb dX8_isRing_94 rfl (lv_at hl 0 rfl) ?_
      obtain ⟨rfl, hn⟩ := k_boolR hf
      exact k_zret hx hb hr hn hP hD hS dX8_isRing_95 hlocks
def t_X8_chainsOf_13 (b1 : Int32) (rS : Nat → Int32) (rC : Nat → Int32) (s13 : Int32 × Int32) : Option ((Int32 × Int32) ⊕ (Int32 × Int32)) :=
  if 12 ≤ s13.2 then
    some (.inr (s13.1, s13.2))
  else
    if s13.2 < 0 ∨ 12 ≤ s13.2.toNatClampNeg then none else
    if (rC s13.2.toNatClampNeg) = s13.2 then
      (f_X8_isRing s13.2 rS rC).bind fun v5 =>
      if b1 = 0 then
        k_let (s13.1 + 1) fun y7 =>
        some (.inl (y7, s13.2 + 1))
      else
        if b1 = 1 then
          if v5 = 0 then
            if b1 = 2 then
              if v5 = 0 then
                (f_X8_great s13.2 rC).bind fun v23 =>
                if v23 < 3 then
                  k_let (s13.1 + 0) fun y25 =>
                  some (.inl (y25, s13.2 + 1))
                else
                  k_let (s13.1 + 1) fun y26 =>
                  some (.inl (y26, s13.2 + 1))
              else
                k_let (s13.1 + 0) fun y22 =>
                some (.inl (y22, s13.2 + 1))
            else
              k_let (s13.1 + 0) fun y20 =>
              some (.inl (y20, s13.2 + 1))
          else
            k_let (s13.1 + 1) fun y18 =>
            some (.inl (y18, s13.2 + 1))
        else
          if b1 = 2 then
            if v5 = 0 then
              (f_X8_great s13.2 rC).bind fun v13 =>
              if v13 < 3 then
                k_let (s13.1 + 0) fun y15 =>
                some (.inl (y15, s13.2 + 1))
              else
                k_let (s13.1 + 1) fun y16 =>
                some (.inl (y16, s13.2 + 1))
            else
              k_let (s13.1 + 0) fun y12 =>
              some (.inl (y12, s13.2 + 1))
          else
            k_let (s13.1 + 0) fun y10 =>
            some (.inl (y10, s13.2 + 1))
    else
      some (.inl (s13.1, s13.2 + 1))
def f_X8_chainsOf (n1 : Int32) (mLa : Int32) (rS : Nat → Int32) (rC : Nat → Int32) : Option (Int32 × Int32 × (Nat → Int32)) :=
  (f_X8_finds rS rC).bind fun v1 =>
  (k_loop (t_X8_chainsOf_13 n1 rS v1) 1000 (0, 0)).bind fun x27 =>
  some (x27.1, 0, v1)
abbrev rm_X8_chainsOf : Room := { frames := 4, cells := 0, slots := 0, locals := 93 }
theorem hd_X8_chainsOf : yX8_chainsOf.cls = RX8 ∧ yX8_chainsOf.cls ≠ "java/lang/invoke/MethodHandle" ∧ yX8_chainsOf.cls ≠ "java/lang/invoke/VarHandle" ∧ (parseMethodDescriptor yX8_chainsOf.desc).map (fun d => d.parameters.length) = some 1 := by decide +kernel
set_option maxHeartbeats 4000000 in
set_option maxRecDepth 100000 in
theorem c_X8_chainsOf (l : Launch) (D : va_G) (cy : Nat → ClassId) (h0 sa pa ka aa oa wa ca ta na : Nat) (mOp : Int32) (mIk : Int32) (mPa : Int32) (mRu : Int32) (mLa : Int32) (mTy : Int32) (mSp : Int32) (mFr : Int32) (mRe : Int32) (mCa : Int32) (mOr : Int32) (mLe : Int32) (rS : Nat → Int32) (rP : Nat → Int32) (rK : Nat → Int32) (rA : Nat → Int32) (rO : Nat → Int32) (rW : Nat → Int32) (rC : Nat → Int32) (rT : Nat → Int32) (rN : Nat → Int32) (n1 : Int32) (r : Int32 × Int32 × (Nat → Int32)) (hf : f_X8_chainsOf n1 mLa rS rC = some r) : k_HMet l yX8_chainsOf wsX8_chainsOf rm_X8_chainsOf D (k_tys cy) [.ref h0, .int n1] (wX8 cy h0 sa pa ka aa oa wa ca ta na mOp mIk mPa mRu mLa mTy mSp mFr mRe mCa mOr mLe rS rP rK rA rO rW rC rT rN) (some (.int r.1)) (wX8 cy h0 sa pa ka aa oa wa ca ta na mOp mIk mPa mRu r.2.1 mTy mSp mFr mRe mCa mOr mLe rS rP rK rA rO rW r.2.2 rT rN) := by
  refine k_heapOf (cc := cX8_chainsOf) (maxL := 5) (ret := (some .int)) (by decide) rfl (Nat.le_of_ble_eq_true rfl) ?_
  intro p e s m args below meth c ls A hx hb hr hlocks hml hown hts hl hA hK hP hD hN
  have hl : lv_has ls 5 [(0, .ref h0), (1, .int n1)] := hl
  have hS : va_S A s.heap s.heap [] := va_S.rf
  have in_X8 : ∀ w ∈ wsX80, w ∈ wsX8_chainsOf := by decide +kernel
  have fl28 := hts (.fieldLink RX8 28 "FencedBoxesModel" "chain" "[I") (by decide +kernel)
  have fl37 := hts (.fieldLink RX8 37 "FencedBoxesModel" "last" "I") (by decide +kernel)
  have L13 : ∀ (Q : State → Prop) (n : Nat) (b1 : Int32) (mOp : Int32) (mIk : Int32) (mPa : Int32) (mRu : Int32) (mLa : Int32) (mTy : Int32) (mSp : Int32) (mFr : Int32) (mRe : Int32) (mCa : Int32) (mOr : Int32) (mLe : Int32) (rS : Nat → Int32) (rP : Nat → Int32) (rK : Nat → Int32) (rA : Nat → Int32) (rO : Nat → Int32) (rW : Nat → Int32) (rC : Nat → Int32) (rT : Nat → Int32) (rN : Nat → Int32) (s13 : Int32 × Int32) (q : (Int32 × Int32)), k_loop (t_X8_chainsOf_13 b1 rS rC) n s13 = some q → ∀ (ls : Array Slot) (H : Heap) (locs : List Loc), lv_has ls 5 [(0, .ref h0), (1, .int b1), (2, .int s13.1), (3, .int s13.2)] → va_P D vwCl (wX8 cy h0 sa pa ka aa oa wa ca ta na mOp mIk mPa mRu mLa mTy mSp mFr mRe mCa mOr mLe rS rP rK rA rO rW rC rT rN) H → va_D A (wX8 cy h0 sa pa ka aa oa wa ca ta na mOp mIk mPa mRu mLa mTy mSp mFr mRe mCa mOr mLe rS rP rK rA rO rW rC rT rN) → va_S A s.heap H locs → (∀ (ls : Array Slot) (H : Heap) (locs : List Loc), True → lv_has ls 5 [(2, .int q.1)] → va_P D vwCl (wX8 cy h0 sa pa ka aa oa wa ca ta na mOp mIk mPa mRu mLa mTy mSp mFr mRe mCa mOr mLe rS rP rK rA rO rW rC rT rN) H → va_D A (wX8 cy h0 sa pa ka aa oa wa ca ta na mOp mIk mPa mRu mLa mTy mSp mFr mRe mCa mOr mLe rS rP rK rA rO rW rC rT rN) → va_S A s.heap H locs → W p l e rm_X8_chainsOf s m args below meth c H locs 0 0 Q (F0 m 83 ls [])) → W p l e rm_X8_chainsOf s m args below meth c H locs 0 0 Q (F0 m 13 ls []) := by
    intro Q n
    induction n with
    | zero =>
      intro b1 mOp mIk mPa mRu mLa mTy mSp mFr mRe mCa mOr mLe rS rP rK rA rO rW rC rT rN s13 q hq
      exact (k_loop0 hq).elim
    | succ n ih =>
      intro b1 mOp mIk mPa mRu mLa mTy mSp mFr mRe mCa mOr mLe rS rP rK rA rO rW rC rT rN s13 q hq ls H locs hl hP hD hS kx 
      obtain ⟨x, hf, hq⟩ := k_loopE hq
      unfold t_X8_chainsOf_13 at hf
      refine lv_iload_n hx hb dX8_chainsOf_13 rfl (lv_at hl 3 rfl) ?_
      refine lv_bipush (v := 12) hx hb dX8_chainsOf_14 (by decide) ?_
      refine lv_icmp_ge (tgt := 83) hx hb dX8_chainsOf_16 (by decide) (fun c2 => ?_) (fun c2 => ?_)
      · have hf := k_T c2 hf
        obtain rfl := k_some hf
        obtain rfl := k_some (k_inr hq)
        exact kx ls H locs trivial (lv_sub hl [2] rfl) hP hD hS
      · have hf := k_F c2 hf
        refine lv_aload_n hx hb dX8_chainsOf_19 rfl (lv_at hl 0 rfl) ?_
        refine va_get (D := D) (ci := 5) (v := .ref ca) (C := RX8) (T := TX8) (N := 21) hx hb hts in_X8 hown hK hP 0 rfl rfl 6 (by decide) fl28 (fun _ h9 => h9) rfl dX8_chainsOf_20 ?_
        refine lv_iload_n hx hb dX8_chainsOf_23 rfl (lv_at hl 3 rfl) ?_
        obtain ⟨g3, hf⟩ := k_G hf
        refine va_iald hx hb hK hP 7 0 rfl rfl g3 dX8_chainsOf_24 ?_
        refine lv_iload_n hx hb dX8_chainsOf_25 rfl (lv_at hl 3 rfl) ?_
        refine lv_icmp_ne (tgt := 77) hx hb dX8_chainsOf_26 (by decide) (fun c4 => ?_) (fun c4 => ?_)
        · have hf := k_F c4 hf
          refine lv_iinc (v := s13.2 + 1) (lv' := [(3, .int (s13.2 + 1)), (0, .ref h0), (1, .int b1), (2, .int s13.1)]) hx hb dX8_chainsOf_77 hl (k := 3) rfl rfl (by decide) rfl (fun ls hl => ?_)
          refine lv_goto (tgt := 13) hx hb dX8_chainsOf_80 (by decide) ?_
          obtain rfl := k_some hf
          exact ih b1 mOp mIk mPa mRu mLa mTy mSp mFr mRe mCa mOr mLe rS rP rK rA rO rW rC rT rN (s13.1, s13.2 + 1) q (k_inl hq) ls H locs (lv_sub hl [1, 2, 3, 0] rfl) hP hD hS kx 
        · have hf := k_T c4 hf
          refine lv_aload_n hx hb dX8_chainsOf_29 rfl (lv_at hl 0 rfl) ?_
          refine lv_iload_n hx hb dX8_chainsOf_30 rfl (lv_at hl 3 rfl) ?_
          obtain ⟨v5, hv5, hf⟩ := k_B hf
          refine k_callHV (As := [.int s13.2]) (rest := []) (r := (RX8, TX8, 21)) (ci := 5) (q0 := 0) (isC := [0, 1, 2, 3, 4, 5, 6, 7, 8, 9]) (isR := []) (perm := [0, 1, 2, 3, 4, 5, 6, 7, 8, 9]) (w' := (wX8 cy h0 sa pa ka aa oa wa ca ta na mOp mIk mPa mRu mLa mTy mSp mFr mRe mCa mOr mLe rS rP rK rA rO rW rC rT rN)) ⟨hx, hb, hml, hown, hts⟩ (c_X8_isRing l D cy h0 sa pa ka aa oa wa ca ta na mOp mIk mPa mRu mLa mTy mSp mFr mRe mCa mOr mLe rS rP rK rA rO rW rC rT rN s13.2 v5 hv5) (cwV 1 hts gX8_chainsOf_X8_isRing rfl rfl rfl hd_X8_isRing ⟨Nat.le_of_ble_eq_true rfl, Nat.le_of_ble_eq_true rfl⟩) hK hN hP hD hS hA rfl rfl rfl rfl rfl rfl (by decide) rfl rfl rfl hl.1 rfl (Nat.le_of_ble_eq_true rfl) dX8_chainsOf_31 ⟨Nat.zero_le _, Nat.zero_le _⟩ (fun H locs hP hD hS => ?_)
          refine lv_istore (lv' := [(4, .int v5), (0, .ref h0), (1, .int b1), (2, .int s13.1), (3, .int s13.2)]) hx hb dX8_chainsOf_34 hl (by decide) rfl (fun ls hl => ?_)
          refine lv_iload_n hx hb dX8_chainsOf_36 rfl (lv_at hl 3 rfl) ?_
          refine lv_iload_n hx hb dX8_chainsOf_37 rfl (lv_at hl 2 rfl) ?_
          refine lv_if_eq (tgt := 70) hx hb dX8_chainsOf_38 (by decide) (fun c6 => ?_) (fun c6 => ?_)
          · have hf := k_T c6 hf
            refine lv_iconst (v := 1) hx hb dX8_chainsOf_70 (by decide) ?_
            refine lv_goto (tgt := 75) hx hb dX8_chainsOf_71 (by decide) ?_
            refine lv_iadd hx hb dX8_chainsOf_75 ?_
            obtain ⟨y7, ey7, hf⟩ := k_L hf
            refine k_name ey7 ?_
            refine lv_istore_n (lv' := [(2, .int y7), (4, .int v5), (0, .ref h0), (1, .int b1), (3, .int s13.2)]) hx hb dX8_chainsOf_76 rfl hl (by decide) rfl (fun ls hl => ?_)
            refine lv_iinc (v := s13.2 + 1) (lv' := [(3, .int (s13.2 + 1)), (2, .int y7), (4, .int v5), (0, .ref h0), (1, .int b1)]) hx hb dX8_chainsOf_77 hl (k := 4) rfl rfl (by decide) rfl (fun ls hl => ?_)
            refine lv_goto (tgt := 13) hx hb dX8_chainsOf_80 (by decide) ?_
            obtain rfl := k_some hf
            exact ih b1 mOp mIk mPa mRu mLa mTy mSp mFr mRe mCa mOr mLe rS rP rK rA rO rW rC rT rN (y7, s13.2 + 1) q (k_inl hq) ls H locs (lv_sub hl [3, 4, 1, 0] rfl) hP hD hS kx 
          · have hf := k_F c6 hf
            refine lv_iload_n hx hb dX8_chainsOf_41 rfl (lv_at hl 2 rfl) ?_
            refine lv_iconst (v := 1) hx hb dX8_chainsOf_42 (by decide) ?_
            refine lv_icmp_ne (tgt := 51) hx hb dX8_chainsOf_43 (by decide) (fun c8 => ?_) (fun c8 => ?_)
            · have hf := k_F c8 hf
              refine lv_iload_n hx hb dX8_chainsOf_51 rfl (lv_at hl 2 rfl) ?_
              refine lv_iconst (v := 2) hx hb dX8_chainsOf_52 (by decide) ?_
              refine lv_icmp_ne (tgt := 74) hx hb dX8_chainsOf_53 (by decide) (fun c9 => ?_) (fun c9 => ?_)
              · have hf := k_F c9 hf
                refine lv_iconst (v := 0) hx hb dX8_chainsOf_74 (by decide) ?_
                refine lv_iadd hx hb dX8_chainsOf_75 ?_
                obtain ⟨y10, ey10, hf⟩ := k_L hf
                refine k_name ey10 ?_
                refine lv_istore_n (lv' := [(2, .int y10), (4, .int v5), (0, .ref h0), (1, .int b1), (3, .int s13.2)]) hx hb dX8_chainsOf_76 rfl hl (by decide) rfl (fun ls hl => ?_)
                refine lv_iinc (v := s13.2 + 1) (lv' := [(3, .int (s13.2 + 1)), (2, .int y10), (4, .int v5), (0, .ref h0), (1, .int b1)]) hx hb dX8_chainsOf_77 hl (k := 4) rfl rfl (by decide) rfl (fun ls hl => ?_)
                refine lv_goto (tgt := 13) hx hb dX8_chainsOf_80 (by decide) ?_
                obtain rfl := k_some hf
                exact ih b1 mOp mIk mPa mRu mLa mTy mSp mFr mRe mCa mOr mLe rS rP rK rA rO rW rC rT rN (y10, s13.2 + 1) q (k_inl hq) ls H locs (lv_sub hl [3, 4, 1, 0] rfl) hP hD hS kx 
              · have hf := k_T c9 hf
                refine lv_iload hx hb dX8_chainsOf_56 (lv_at hl 0 rfl) ?_
                refine lv_if_ne (tgt := 74) hx hb dX8_chainsOf_58 (by decide) (fun c11 => ?_) (fun c11 => ?_)
                · have hf := k_F c11 hf
                  refine lv_iconst (v := 0) hx hb dX8_chainsOf_74 (by decide) ?_
                  refine lv_iadd hx hb dX8_chainsOf_75 ?_
                  obtain ⟨y12, ey12, hf⟩ := k_L hf
                  refine k_name ey12 ?_
                  refine lv_istore_n (lv' := [(2, .int y12), (4, .int v5), (0, .ref h0), (1, .int b1), (3, .int s13.2)]) hx hb dX8_chainsOf_76 rfl hl (by decide) rfl (fun ls hl => ?_)
                  refine lv_iinc (v := s13.2 + 1) (lv' := [(3, .int (s13.2 + 1)), (2, .int y12), (4, .int v5), (0, .ref h0), (1, .int b1)]) hx hb dX8_chainsOf_77 hl (k := 4) rfl rfl (by decide) rfl (fun ls hl => ?_)
                  refine lv_goto (tgt := 13) hx hb dX8_chainsOf_80 (by decide) ?_
                  obtain rfl := k_some hf
                  exact ih b1 mOp mIk mPa mRu mLa mTy mSp mFr mRe mCa mOr mLe rS rP rK rA rO rW rC rT rN (y12, s13.2 + 1) q (k_inl hq) ls H locs (lv_sub hl [3, 4, 1, 0] rfl) hP hD hS kx 
                · have hf := k_T c11 hf
                  refine lv_aload_n hx hb dX8_chainsOf_61 rfl (lv_at hl 1 rfl) ?_
                  refine lv_iload_n hx hb dX8_chainsOf_62 rfl (lv_at hl 4 rfl) ?_
                  obtain ⟨v13, hv13, hf⟩ := k_B hf
                  refine k_callHV (As := [.int s13.2]) (rest := [.int s13.1]) (r := (RX8, TX8, 21)) (ci := 5) (q0 := 0) (isC := [0, 1, 2, 3, 4, 5, 6, 7, 8, 9]) (isR := []) (perm := [0, 1, 2, 3, 4, 5, 6, 7, 8, 9]) (w' := (wX8 cy h0 sa pa ka aa oa wa ca ta na mOp mIk mPa mRu mLa mTy mSp mFr mRe mCa mOr mLe rS rP rK rA rO rW rC rT rN)) ⟨hx, hb, hml, hown, hts⟩ (c_X8_great l D cy h0 sa pa ka aa oa wa ca ta na mOp mIk mPa mRu mLa mTy mSp mFr mRe mCa mOr mLe rS rP rK rA rO rW rC rT rN s13.2 v13 hv13) (cwV 1 hts gX8_chainsOf_X8_great rfl rfl rfl hd_X8_great ⟨Nat.le_of_ble_eq_true rfl, Nat.le_of_ble_eq_true rfl⟩) hK hN hP hD hS hA rfl rfl rfl rfl rfl rfl (by decide) rfl rfl rfl hl.1 rfl (Nat.le_of_ble_eq_true rfl) dX8_chainsOf_63 ⟨Nat.zero_le _, Nat.zero_le _⟩ (fun H locs hP hD hS => ?_)
                  refine lv_iconst (v := 3) hx hb dX8_chainsOf_66 (by decide) ?_
                  refine lv_icmp_lt (tgt := 74) hx hb dX8_chainsOf_67 (by decide) (fun c14 => ?_) (fun c14 => ?_)
                  · have hf := k_T c14 hf
                    refine lv_iconst (v := 0) hx hb dX8_chainsOf_74 (by decide) ?_
                    refine lv_iadd hx hb dX8_chainsOf_75 ?_
                    obtain ⟨y15, ey15, hf⟩ := k_L hf
                    refine k_name ey15 ?_
                    refine lv_istore_n (lv' := [(2, .int y15), (4, .int v5), (0, .ref h0), (1, .int b1), (3, .int s13.2)]) hx hb dX8_chainsOf_76 rfl hl (by decide) rfl (fun ls hl => ?_)
                    refine lv_iinc (v := s13.2 + 1) (lv' := [(3, .int (s13.2 + 1)), (2, .int y15), (4, .int v5), (0, .ref h0), (1, .int b1)]) hx hb dX8_chainsOf_77 hl (k := 4) rfl rfl (by decide) rfl (fun ls hl => ?_)
                    refine lv_goto (tgt := 13) hx hb dX8_chainsOf_80 (by decide) ?_
                    obtain rfl := k_some hf
                    exact ih b1 mOp mIk mPa mRu mLa mTy mSp mFr mRe mCa mOr mLe rS rP rK rA rO rW rC rT rN (y15, s13.2 + 1) q (k_inl hq) ls H locs (lv_sub hl [3, 4, 1, 0] rfl) hP hD hS kx 
                  · have hf := k_F c14 hf
                    refine lv_iconst (v := 1) hx hb dX8_chainsOf_70 (by decide) ?_
                    refine lv_goto (tgt := 75) hx hb dX8_chainsOf_71 (by decide) ?_
                    refine lv_iadd hx hb dX8_chainsOf_75 ?_
                    obtain ⟨y16, ey16, hf⟩ := k_L hf
                    refine k_name ey16 ?_
                    refine lv_istore_n (lv' := [(2, .int y16), (4, .int v5), (0, .ref h0), (1, .int b1), (3, .int s13.2)]) hx hb dX8_chainsOf_76 rfl hl (by decide) rfl (fun ls hl => ?_)
                    refine lv_iinc (v := s13.2 + 1) (lv' := [(3, .int (s13.2 + 1)), (2, .int y16), (4, .int v5), (0, .ref h0), (1, .int b1)]) hx hb dX8_chainsOf_77 hl (k := 4) rfl rfl (by decide) rfl (fun ls hl => ?_)
                    refine lv_goto (tgt := 13) hx hb dX8_chainsOf_80 (by decide) ?_
                    obtain rfl := k_some hf
                    exact ih b1 mOp mIk mPa mRu mLa mTy mSp mFr mRe mCa mOr mLe rS rP rK rA rO rW rC rT rN (y16, s13.2 + 1) q (k_inl hq) ls H locs (lv_sub hl [3, 4, 1, 0] rfl) hP hD hS kx 
            · have hf := k_T c8 hf
              refine lv_iload hx hb dX8_chainsOf_46 (lv_at hl 0 rfl) ?_
              refine lv_if_ne (tgt := 70) hx hb dX8_chainsOf_48 (by decide) (fun c17 => ?_) (fun c17 => ?_)
              · have hf := k_F c17 hf
                refine lv_iconst (v := 1) hx hb dX8_chainsOf_70 (by decide) ?_
                refine lv_goto (tgt := 75) hx hb dX8_chainsOf_71 (by decide) ?_
                refine lv_iadd hx hb dX8_chainsOf_75 ?_
                obtain ⟨y18, ey18, hf⟩ := k_L hf
                refine k_name ey18 ?_
                refine lv_istore_n (lv' := [(2, .int y18), (4, .int v5), (0, .ref h0), (1, .int b1), (3, .int s13.2)]) hx hb dX8_chainsOf_76 rfl hl (by decide) rfl (fun ls hl => ?_)
                refine lv_iinc (v := s13.2 + 1) (lv' := [(3, .int (s13.2 + 1)), (2, .int y18), (4, .int v5), (0, .ref h0), (1, .int b1)]) hx hb dX8_chainsOf_77 hl (k := 4) rfl rfl (by decide) rfl (fun ls hl => ?_)
                refine lv_goto (tgt := 13) hx hb dX8_chainsOf_80 (by decide) ?_
                obtain rfl := k_some hf
                exact ih b1 mOp mIk mPa mRu mLa mTy mSp mFr mRe mCa mOr mLe rS rP rK rA rO rW rC rT rN (y18, s13.2 + 1) q (k_inl hq) ls H locs (lv_sub hl [3, 4, 1, 0] rfl) hP hD hS kx 
              · have hf := k_T c17 hf
                refine lv_iload_n hx hb dX8_chainsOf_51 rfl (lv_at hl 2 rfl) ?_
                refine lv_iconst (v := 2) hx hb dX8_chainsOf_52 (by decide) ?_
                refine lv_icmp_ne (tgt := 74) hx hb dX8_chainsOf_53 (by decide) (fun c19 => ?_) (fun c19 => ?_)
                · have hf := k_F c19 hf
                  refine lv_iconst (v := 0) hx hb dX8_chainsOf_74 (by decide) ?_
                  refine lv_iadd hx hb dX8_chainsOf_75 ?_
                  obtain ⟨y20, ey20, hf⟩ := k_L hf
                  refine k_name ey20 ?_
                  refine lv_istore_n (lv' := [(2, .int y20), (4, .int v5), (0, .ref h0), (1, .int b1), (3, .int s13.2)]) hx hb dX8_chainsOf_76 rfl hl (by decide) rfl (fun ls hl => ?_)
                  refine lv_iinc (v := s13.2 + 1) (lv' := [(3, .int (s13.2 + 1)), (2, .int y20), (4, .int v5), (0, .ref h0), (1, .int b1)]) hx hb dX8_chainsOf_77 hl (k := 4) rfl rfl (by decide) rfl (fun ls hl => ?_)
                  refine lv_goto (tgt := 13) hx hb dX8_chainsOf_80 (by decide) ?_
                  obtain rfl := k_some hf
                  exact ih b1 mOp mIk mPa mRu mLa mTy mSp mFr mRe mCa mOr mLe rS rP rK rA rO rW rC rT rN (y20, s13.2 + 1) q (k_inl hq) ls H locs (lv_sub hl [3, 4, 1, 0] rfl) hP hD hS kx 
                · have hf := k_T c19 hf
                  refine lv_iload hx hb dX8_chainsOf_56 (lv_at hl 0 rfl) ?_
                  refine lv_if_ne (tgt := 74) hx hb dX8_chainsOf_58 (by decide) (fun c21 => ?_) (fun c21 => ?_)
                  · have hf := k_F c21 hf
                    refine lv_iconst (v := 0) hx hb dX8_chainsOf_74 (by decide) ?_
                    refine lv_iadd hx hb dX8_chainsOf_75 ?_
                    obtain ⟨y22, ey22, hf⟩ := k_L hf
                    refine k_name ey22 ?_
                    refine lv_istore_n (lv' := [(2, .int y22), (4, .int v5), (0, .ref h0), (1, .int b1), (3, .int s13.2)]) hx hb dX8_chainsOf_76 rfl hl (by decide) rfl (fun ls hl => ?_)
                    refine lv_iinc (v := s13.2 + 1) (lv' := [(3, .int (s13.2 + 1)), (2, .int y22), (4, .int v5), (0, .ref h0), (1, .int b1)]) hx hb dX8_chainsOf_77 hl (k := 4) rfl rfl (by decide) rfl (fun ls hl => ?_)
                    refine lv_goto (tgt := 13) hx hb dX8_chainsOf_80 (by decide) ?_
                    obtain rfl := k_some hf
                    exact ih b1 mOp mIk mPa mRu mLa mTy mSp mFr mRe mCa mOr mLe rS rP rK rA rO rW rC rT rN (y22, s13.2 + 1) q (k_inl hq) ls H locs (lv_sub hl [3, 4, 1, 0] rfl) hP hD hS kx 
                  · have hf := k_T c21 hf
                    refine lv_aload_n hx hb dX8_chainsOf_61 rfl (lv_at hl 1 rfl) ?_
                    refine lv_iload_n hx hb dX8_chainsOf_62 rfl (lv_at hl 4 rfl) ?_
                    obtain ⟨v23, hv23, hf⟩ := k_B hf
                    refine k_callHV (As := [.int s13.2]) (rest := [.int s13.1]) (r := (RX8, TX8, 21)) (ci := 5) (q0 := 0) (isC := [0, 1, 2, 3, 4, 5, 6, 7, 8, 9]) (isR := []) (perm := [0, 1, 2, 3, 4, 5, 6, 7, 8, 9]) (w' := (wX8 cy h0 sa pa ka aa oa wa ca ta na mOp mIk mPa mRu mLa mTy mSp mFr mRe mCa mOr mLe rS rP rK rA rO rW rC rT rN)) ⟨hx, hb, hml, hown, hts⟩ (c_X8_great l D cy h0 sa pa ka aa oa wa ca ta na mOp mIk mPa mRu mLa mTy mSp mFr mRe mCa mOr mLe rS rP rK rA rO rW rC rT rN s13.2 v23 hv23) (cwV 1 hts gX8_chainsOf_X8_great rfl rfl rfl hd_X8_great ⟨Nat.le_of_ble_eq_true rfl, Nat.le_of_ble_eq_true rfl⟩) hK hN hP hD hS hA rfl rfl rfl rfl rfl rfl (by decide) rfl rfl rfl hl.1 rfl (Nat.le_of_ble_eq_true rfl) dX8_chainsOf_63 ⟨Nat.zero_le _, Nat.zero_le _⟩ (fun H locs hP hD hS => ?_)
                    refine lv_iconst (v := 3) hx hb dX8_chainsOf_66 (by decide) ?_
                    refine lv_icmp_lt (tgt := 74) hx hb dX8_chainsOf_67 (by decide) (fun c24 => ?_) (fun c24 => ?_)
                    · have hf := k_T c24 hf
                      refine lv_iconst (v := 0) hx hb dX8_chainsOf_74 (by decide) ?_
                      refine lv_iadd hx hb dX8_chainsOf_75 ?_
                      obtain ⟨y25, ey25, hf⟩ := k_L hf
                      refine k_name ey25 ?_
                      refine lv_istore_n (lv' := [(2, .int y25), (4, .int v5), (0, .ref h0), (1, .int b1), (3, .int s13.2)]) hx hb dX8_chainsOf_76 rfl hl (by decide) rfl (fun ls hl => ?_)
                      refine lv_iinc (v := s13.2 + 1) (lv' := [(3, .int (s13.2 + 1)), (2, .int y25), (4, .int v5), (0, .ref h0), (1, .int b1)]) hx hb dX8_chainsOf_77 hl (k := 4) rfl rfl (by decide) rfl (fun ls hl => ?_)
                      refine lv_goto (tgt := 13) hx hb dX8_chainsOf_80 (by decide) ?_
                      obtain rfl := k_some hf
                      exact ih b1 mOp mIk mPa mRu mLa mTy mSp mFr mRe mCa mOr mLe rS rP rK rA rO rW rC rT rN (y25, s13.2 + 1) q (k_inl hq) ls H locs (lv_sub hl [3, 4, 1, 0] rfl) hP hD hS kx 
                    · have hf := k_F c24 hf
                      refine lv_iconst (v := 1) hx hb dX8_chainsOf_70 (by decide) ?_
                      refine lv_goto (tgt := 75) hx hb dX8_chainsOf_71 (by decide) ?_
                      refine lv_iadd hx hb dX8_chainsOf_75 ?_
                      obtain ⟨y26, ey26, hf⟩ := k_L hf
                      refine k_name ey26 ?_
                      refine lv_istore_n (lv' := [(2, .int y26), (4, .int v5), (0, .ref h0), (1, .int b1), (3, .int s13.2)]) hx hb dX8_chainsOf_76 rfl hl (by decide) rfl (fun ls hl => ?_)
                      refine lv_iinc (v := s13.2 + 1) (lv' := [(3, .int (s13.2 + 1)), (2, .int y26), (4, .int v5), (0, .ref h0), (1, .int b1)]) hx hb dX8_chainsOf_77 hl (k := 4) rfl rfl (by decide) rfl (fun ls hl => ?_)
                      refine lv_goto (tgt := 13) hx hb dX8_chainsOf_80 (by decide) ?_
                      obtain rfl := k_some hf
                      exact ih b1 mOp mIk mPa mRu mLa mTy mSp mFr mRe mCa mOr mLe rS rP rK rA rO rW rC rT rN (y26, s13.2 + 1) q (k_inl hq) ls H locs (lv_sub hl [3, 4, 1, 0] rfl) hP hD hS kx 
  unfold f_X8_chainsOf at hf
  obtain ⟨H, eH⟩ : ∃ H, H = s.heap := ⟨_, rfl⟩
  obtain ⟨locs, elocs⟩ : ∃ L : List Loc, L = [] := ⟨_, rfl⟩
  have hP : va_P D vwCl (wX8 cy h0 sa pa ka aa oa wa ca ta na mOp mIk mPa mRu mLa mTy mSp mFr mRe mCa mOr mLe rS rP rK rA rO rW rC rT rN) H := by rw [eH]; exact hP
  have hS : va_S A s.heap H locs := by rw [eH, elocs]; exact hS
  refine k_here eH elocs ?_
  refine lv_aload_n hx hb dX8_chainsOf_0 rfl (lv_at hl 0 rfl) ?_
  refine lv_iconst (v := 0) hx hb dX8_chainsOf_1 (by decide) ?_
  refine va_put (D := D) (ci := 5) (v := .int 0) (ty := .int) (C := RX8) (T := TX8) (N := 21) hx hb hts in_X8 tyX8 tyX8_ok nmX8 hown hK hP hD hS 0 rfl rfl 11 (by decide) fl37 (fun _ h9 => h9) rfl (by decide +kernel) rfl rfl (Nat.le_of_ble_eq_true rfl) dX8_chainsOf_2 (fun H locs hP hD hS => ?_)
  have hP : va_P D vwCl (wX8 cy h0 sa pa ka aa oa wa ca ta na mOp mIk mPa mRu 0 mTy mSp mFr mRe mCa mOr mLe rS rP rK rA rO rW rC rT rN) H := hP
  have hD : va_D A (wX8 cy h0 sa pa ka aa oa wa ca ta na mOp mIk mPa mRu 0 mTy mSp mFr mRe mCa mOr mLe rS rP rK rA rO rW rC rT rN) := hD
  refine lv_aload_n hx hb dX8_chainsOf_5 rfl (lv_at hl 0 rfl) ?_
  obtain ⟨v1, hv1, hf⟩ := k_B hf
  refine k_callHV (As := []) (rest := []) (r := (RX8, TX8, 21)) (ci := 5) (q0 := 0) (isC := [0, 1, 2, 3, 4, 5, 6, 7, 8, 9]) (isR := []) (perm := [0, 1, 2, 3, 4, 5, 6, 7, 8, 9]) (w' := (wX8 cy h0 sa pa ka aa oa wa ca ta na mOp mIk mPa mRu 0 mTy mSp mFr mRe mCa mOr mLe rS rP rK rA rO rW v1 rT rN)) ⟨hx, hb, hml, hown, hts⟩ (c_X8_finds l D cy h0 sa pa ka aa oa wa ca ta na mOp mIk mPa mRu 0 mTy mSp mFr mRe mCa mOr mLe rS rP rK rA rO rW rC rT rN  v1 hv1) (cwV 0 hts gX8_chainsOf_X8_finds rfl rfl rfl hd_X8_finds ⟨Nat.le_of_ble_eq_true rfl, Nat.le_of_ble_eq_true rfl⟩) hK hN hP hD hS hA rfl rfl rfl rfl rfl rfl (by decide) rfl rfl rfl hl.1 rfl (Nat.le_of_ble_eq_true rfl) dX8_chainsOf_6 ⟨Nat.zero_le _, Nat.zero_le _⟩ (fun H locs hP hD hS => ?_)
  refine lv_iconst (v := 0) hx hb dX8_chainsOf_9 (by decide) ?_
  refine lv_istore_n (lv' := [(2, .int 0), (0, .ref h0), (1, .int n1)]) hx hb dX8_chainsOf_10 rfl hl (by decide) rfl (fun ls hl => ?_)
  refine lv_iconst (v := 0) hx hb dX8_chainsOf_11 (by decide) ?_
  refine lv_istore_n (lv' := [(3, .int 0), (2, .int 0), (0, .ref h0), (1, .int n1)]) hx hb dX8_chainsOf_12 rfl hl (by decide) rfl (fun ls hl => ?_)
  obtain ⟨x27, hx27, hf⟩ := k_B hf
  refine L13 _ 1000 n1 mOp mIk mPa mRu 0 mTy mSp mFr mRe mCa mOr mLe rS rP rK rA rO rW v1 rT rN (0, 0) x27 hx27 ls H locs (lv_sub hl [2, 3, 1, 0] rfl) hP hD hS ?_
  · intro ls H locs _ hl hP hD hS
    refine lv_iload_n hx hb dX8_chainsOf_83 rfl (lv_at hl 0 rfl) ?_
    obtain rfl := k_some hf
    exact k_iret hx hb hr hP hD hS dX8_chainsOf_84 hlocks
def f_X8_chains (mLa : Int32) (rS : Nat → Int32) (rC : Nat → Int32) : Option (Int32 × Int32 × (Nat → Int32)) :=
  (f_X8_chainsOf 0 mLa rS rC).bind fun v1 =>
  some (v1.1, v1.2.1, v1.2.2)
abbrev rm_X8_chains : Room := { frames := 5, cells := 0, slots := 0, locals := 117 }
theorem hd_X8_chains : yX8_chains.cls = RX8 ∧ yX8_chains.cls ≠ "java/lang/invoke/MethodHandle" ∧ yX8_chains.cls ≠ "java/lang/invoke/VarHandle" ∧ (parseMethodDescriptor yX8_chains.desc).map (fun d => d.parameters.length) = some 0 := by decide +kernel
set_option maxHeartbeats 4000000 in
set_option maxRecDepth 100000 in
theorem c_X8_chains (l : Launch) (D : va_G) (cy : Nat → ClassId) (h0 sa pa ka aa oa wa ca ta na : Nat) (mOp : Int32) (mIk : Int32) (mPa : Int32) (mRu : Int32) (mLa : Int32) (mTy : Int32) (mSp : Int32) (mFr : Int32) (mRe : Int32) (mCa : Int32) (mOr : Int32) (mLe : Int32) (rS : Nat → Int32) (rP : Nat → Int32) (rK : Nat → Int32) (rA : Nat → Int32) (rO : Nat → Int32) (rW : Nat → Int32) (rC : Nat → Int32) (rT : Nat → Int32) (rN : Nat → Int32)  (r : Int32 × Int32 × (Nat → Int32)) (hf : f_X8_chains mLa rS rC = some r) : k_HMet l yX8_chains wsX8_chains rm_X8_chains D (k_tys cy) [.ref h0] (wX8 cy h0 sa pa ka aa oa wa ca ta na mOp mIk mPa mRu mLa mTy mSp mFr mRe mCa mOr mLe rS rP rK rA rO rW rC rT rN) (some (.int r.1)) (wX8 cy h0 sa pa ka aa oa wa ca ta na mOp mIk mPa mRu r.2.1 mTy mSp mFr mRe mCa mOr mLe rS rP rK rA rO rW r.2.2 rT rN) := by
  refine k_heapOf (cc := cX8_chains) (maxL := 1) (ret := (some .int)) (by decide) rfl (Nat.le_of_ble_eq_true rfl) ?_
  intro p e s m args below meth c ls A hx hb hr hlocks hml hown hts hl hA hK hP hD hN
  have hl : lv_has ls 1 [(0, .ref h0)] := hl
  have hS : va_S A s.heap s.heap [] := va_S.rf
  unfold f_X8_chains at hf
  obtain ⟨H, eH⟩ : ∃ H, H = s.heap := ⟨_, rfl⟩
  obtain ⟨locs, elocs⟩ : ∃ L : List Loc, L = [] := ⟨_, rfl⟩
  have hP : va_P D vwCl (wX8 cy h0 sa pa ka aa oa wa ca ta na mOp mIk mPa mRu mLa mTy mSp mFr mRe mCa mOr mLe rS rP rK rA rO rW rC rT rN) H := by rw [eH]; exact hP
  have hS : va_S A s.heap H locs := by rw [eH, elocs]; exact hS
  refine k_here eH elocs ?_
  refine lv_aload_n hx hb dX8_chains_0 rfl (lv_at hl 0 rfl) ?_
  refine lv_iconst (v := 0) hx hb dX8_chains_1 (by decide) ?_
  obtain ⟨v1, hv1, hf⟩ := k_B hf
  refine k_callHV (As := [.int 0]) (rest := []) (r := (RX8, TX8, 21)) (ci := 5) (q0 := 0) (isC := [0, 1, 2, 3, 4, 5, 6, 7, 8, 9]) (isR := []) (perm := [0, 1, 2, 3, 4, 5, 6, 7, 8, 9]) (w' := (wX8 cy h0 sa pa ka aa oa wa ca ta na mOp mIk mPa mRu v1.2.1 mTy mSp mFr mRe mCa mOr mLe rS rP rK rA rO rW v1.2.2 rT rN)) ⟨hx, hb, hml, hown, hts⟩ (c_X8_chainsOf l D cy h0 sa pa ka aa oa wa ca ta na mOp mIk mPa mRu mLa mTy mSp mFr mRe mCa mOr mLe rS rP rK rA rO rW rC rT rN 0 v1 hv1) (cwV 1 hts gX8_chains_X8_chainsOf rfl rfl rfl hd_X8_chainsOf ⟨Nat.le_of_ble_eq_true rfl, Nat.le_of_ble_eq_true rfl⟩) hK hN hP hD hS hA rfl rfl rfl rfl rfl rfl (by decide) rfl rfl rfl hl.1 rfl (Nat.le_of_ble_eq_true rfl) dX8_chains_2 ⟨Nat.zero_le _, Nat.zero_le _⟩ (fun H locs hP hD hS => ?_)
  obtain rfl := k_some hf
  exact k_iret hx hb hr hP hD hS dX8_chains_5 hlocks
def f_X8_chainOf (n1 : Int32) (mLa : Int32) (rS : Nat → Int32) (rC : Nat → Int32) : Option (Int32 × Int32 × (Nat → Int32)) :=
  (f_X8_isBox n1).bind fun v1 =>
  if v1 = 0 then
    if (1 : Int32) ≤ 0 then
      (f_X8_finds rS rC).bind fun v14 =>
      if n1 < 0 ∨ 12 ≤ n1.toNatClampNeg then none else
      (f_X8_great (v14 n1.toNatClampNeg) v14).bind fun v16 =>
      some (v16, 1, v14)
    else
      some (0, 1, rC)
  else
    (f_X8_has (rS 0) n1).bind fun v3 =>
    if v3 = 2 then
      if (0 : Int32) ≤ 0 then
        (f_X8_finds rS rC).bind fun v10 =>
        if n1 < 0 ∨ 12 ≤ n1.toNatClampNeg then none else
        (f_X8_great (v10 n1.toNatClampNeg) v10).bind fun v12 =>
        some (v12, 0, v10)
      else
        some (0, 0, rC)
    else
      if (2 : Int32) ≤ 0 then
        (f_X8_finds rS rC).bind fun v6 =>
        if n1 < 0 ∨ 12 ≤ n1.toNatClampNeg then none else
        (f_X8_great (v6 n1.toNatClampNeg) v6).bind fun v8 =>
        some (v8, 2, v6)
      else
        some (0, 2, rC)
abbrev rm_X8_chainOf : Room := { frames := 4, cells := 0, slots := 0, locals := 92 }
theorem hd_X8_chainOf : yX8_chainOf.cls = RX8 ∧ yX8_chainOf.cls ≠ "java/lang/invoke/MethodHandle" ∧ yX8_chainOf.cls ≠ "java/lang/invoke/VarHandle" ∧ (parseMethodDescriptor yX8_chainOf.desc).map (fun d => d.parameters.length) = some 1 := by decide +kernel
set_option maxHeartbeats 4000000 in
set_option maxRecDepth 100000 in
theorem c_X8_chainOf (l : Launch) (D : va_G) (cy : Nat → ClassId) (h0 sa pa ka aa oa wa ca ta na : Nat) (mOp : Int32) (mIk : Int32) (mPa : Int32) (mRu : Int32) (mLa : Int32) (mTy : Int32) (mSp : Int32) (mFr : Int32) (mRe : Int32) (mCa : Int32) (mOr : Int32) (mLe : Int32) (rS : Nat → Int32) (rP : Nat → Int32) (rK : Nat → Int32) (rA : Nat → Int32) (rO : Nat → Int32) (rW : Nat → Int32) (rC : Nat → Int32) (rT : Nat → Int32) (rN : Nat → Int32) (n1 : Int32) (r : Int32 × Int32 × (Nat → Int32)) (hf : f_X8_chainOf n1 mLa rS rC = some r) : k_HMet l yX8_chainOf wsX8_chainOf rm_X8_chainOf D (k_tys cy) [.ref h0, .int n1] (wX8 cy h0 sa pa ka aa oa wa ca ta na mOp mIk mPa mRu mLa mTy mSp mFr mRe mCa mOr mLe rS rP rK rA rO rW rC rT rN) (some (.int r.1)) (wX8 cy h0 sa pa ka aa oa wa ca ta na mOp mIk mPa mRu r.2.1 mTy mSp mFr mRe mCa mOr mLe rS rP rK rA rO rW r.2.2 rT rN) := by
  refine k_heapOf (cc := cX8_chainOf) (maxL := 2) (ret := (some .int)) (by decide) rfl (Nat.le_of_ble_eq_true rfl) ?_
  intro p e s m args below meth c ls A hx hb hr hlocks hml hown hts hl hA hK hP hD hN
  have hl : lv_has ls 2 [(0, .ref h0), (1, .int n1)] := hl
  have hS : va_S A s.heap s.heap [] := va_S.rf
  have in_X8 : ∀ w ∈ wsX80, w ∈ wsX8_chainOf := by decide +kernel
  have fl7 := hts (.fieldLink RX8 7 "FencedBoxesModel" "s" "[I") (by decide +kernel)
  have fl28 := hts (.fieldLink RX8 28 "FencedBoxesModel" "chain" "[I") (by decide +kernel)
  have fl37 := hts (.fieldLink RX8 37 "FencedBoxesModel" "last" "I") (by decide +kernel)
  unfold f_X8_chainOf at hf
  obtain ⟨H, eH⟩ : ∃ H, H = s.heap := ⟨_, rfl⟩
  obtain ⟨locs, elocs⟩ : ∃ L : List Loc, L = [] := ⟨_, rfl⟩
  have hP : va_P D vwCl (wX8 cy h0 sa pa ka aa oa wa ca ta na mOp mIk mPa mRu mLa mTy mSp mFr mRe mCa mOr mLe rS rP rK rA rO rW rC rT rN) H := by rw [eH]; exact hP
  have hS : va_S A s.heap H locs := by rw [eH, elocs]; exact hS
  refine k_here eH elocs ?_
  refine lv_aload_n hx hb dX8_chainOf_0 rfl (lv_at hl 0 rfl) ?_
  refine lv_iload_n hx hb dX8_chainOf_1 rfl (lv_at hl 1 rfl) ?_
  obtain ⟨v1, hv1, hf⟩ := k_B hf
  refine k_callS (As := [.int n1]) (rest := [.ref h0]) ⟨hx, hb, hml, hown, hts⟩ (c_X8_isBox l n1 v1 hv1) (va_cwS 1 hts gX8_chainOf_X8_isBox rfl rfl rfl hd_X8_isBox ⟨Nat.le_of_ble_eq_true rfl, Nat.le_of_ble_eq_true rfl⟩) rfl hl.1 rfl (Nat.le_of_ble_eq_true rfl) dX8_chainOf_2 ⟨Nat.zero_le _, Nat.zero_le _⟩ ?_
  refine lv_if_ne (tgt := 12) hx hb dX8_chainOf_5 (by decide) (fun c2 => ?_) (fun c2 => ?_)
  · have hf := k_F c2 hf
    refine lv_aload_n hx hb dX8_chainOf_12 rfl (lv_at hl 0 rfl) ?_
    refine va_get (D := D) (ci := 5) (v := .ref sa) (C := RX8) (T := TX8) (N := 21) hx hb hts in_X8 hown hK hP 0 rfl rfl 0 (by decide) fl7 (fun _ h9 => h9) rfl dX8_chainOf_13 ?_
    refine lv_iconst (v := 0) hx hb dX8_chainOf_16 (by decide) ?_
    refine va_iald hx hb hK hP 1 0 rfl rfl (k_in (i := 0) (n := 19) (by decide +kernel)) dX8_chainOf_17 ?_
    refine k_name (v := rS 0) rfl ?_
    refine lv_iload_n hx hb dX8_chainOf_18 rfl (lv_at hl 1 rfl) ?_
    obtain ⟨v3, hv3, hf⟩ := k_B hf
    refine k_callS (As := [.int (rS 0), .int n1]) (rest := [.ref h0]) ⟨hx, hb, hml, hown, hts⟩ (c_X8_has l (rS 0) n1 v3 hv3) (va_cwS 2 hts gX8_chainOf_X8_has rfl rfl rfl hd_X8_has ⟨Nat.le_of_ble_eq_true rfl, Nat.le_of_ble_eq_true rfl⟩) rfl hl.1 rfl (Nat.le_of_ble_eq_true rfl) dX8_chainOf_19 ⟨Nat.zero_le _, Nat.zero_le _⟩ ?_
    refine lv_iconst (v := 2) hx hb dX8_chainOf_22 (by decide) ?_
    refine lv_icmp_ne (tgt := 30) hx hb dX8_chainOf_23 (by decide) (fun c4 => ?_) (fun c4 => ?_)
    · have hf := k_F c4 hf
      refine lv_iconst (v := 2) hx hb dX8_chainOf_30 (by decide) ?_
      refine va_put (D := D) (ci := 5) (v := .int 2) (ty := .int) (C := RX8) (T := TX8) (N := 21) hx hb hts in_X8 tyX8 tyX8_ok nmX8 hown hK hP hD hS 0 rfl rfl 11 (by decide) fl37 (fun _ h9 => h9) rfl (by decide +kernel) rfl rfl (Nat.le_of_ble_eq_true rfl) dX8_chainOf_31 (fun H locs hP hD hS => ?_)
      have hP : va_P D vwCl (wX8 cy h0 sa pa ka aa oa wa ca ta na mOp mIk mPa mRu 2 mTy mSp mFr mRe mCa mOr mLe rS rP rK rA rO rW rC rT rN) H := hP
      have hD : va_D A (wX8 cy h0 sa pa ka aa oa wa ca ta na mOp mIk mPa mRu 2 mTy mSp mFr mRe mCa mOr mLe rS rP rK rA rO rW rC rT rN) := hD
      refine lv_aload_n hx hb dX8_chainOf_34 rfl (lv_at hl 0 rfl) ?_
      refine va_get (D := D) (ci := 5) (v := .int 2) (C := RX8) (T := TX8) (N := 21) hx hb hts in_X8 hown hK hP 0 rfl rfl 11 (by decide) fl37 (fun _ h9 => h9) rfl dX8_chainOf_35 ?_
      refine lv_if_le (tgt := 43) hx hb dX8_chainOf_38 (by decide) (fun c5 => ?_) (fun c5 => ?_)
      · have hf := k_T c5 hf
        refine lv_aload_n hx hb dX8_chainOf_43 rfl (lv_at hl 0 rfl) ?_
        obtain ⟨v6, hv6, hf⟩ := k_B hf
        refine k_callHV (As := []) (rest := []) (r := (RX8, TX8, 21)) (ci := 5) (q0 := 0) (isC := [0, 1, 2, 3, 4, 5, 6, 7, 8, 9]) (isR := []) (perm := [0, 1, 2, 3, 4, 5, 6, 7, 8, 9]) (w' := (wX8 cy h0 sa pa ka aa oa wa ca ta na mOp mIk mPa mRu 2 mTy mSp mFr mRe mCa mOr mLe rS rP rK rA rO rW v6 rT rN)) ⟨hx, hb, hml, hown, hts⟩ (c_X8_finds l D cy h0 sa pa ka aa oa wa ca ta na mOp mIk mPa mRu 2 mTy mSp mFr mRe mCa mOr mLe rS rP rK rA rO rW rC rT rN  v6 hv6) (cwV 0 hts gX8_chainOf_X8_finds rfl rfl rfl hd_X8_finds ⟨Nat.le_of_ble_eq_true rfl, Nat.le_of_ble_eq_true rfl⟩) hK hN hP hD hS hA rfl rfl rfl rfl rfl rfl (by decide) rfl rfl rfl hl.1 rfl (Nat.le_of_ble_eq_true rfl) dX8_chainOf_44 ⟨Nat.zero_le _, Nat.zero_le _⟩ (fun H locs hP hD hS => ?_)
        refine lv_aload_n hx hb dX8_chainOf_47 rfl (lv_at hl 0 rfl) ?_
        refine lv_aload_n hx hb dX8_chainOf_48 rfl (lv_at hl 0 rfl) ?_
        refine va_get (D := D) (ci := 5) (v := .ref ca) (C := RX8) (T := TX8) (N := 21) hx hb hts in_X8 hown hK hP 0 rfl rfl 6 (by decide) fl28 (fun _ h9 => h9) rfl dX8_chainOf_49 ?_
        refine lv_iload_n hx hb dX8_chainOf_52 rfl (lv_at hl 1 rfl) ?_
        obtain ⟨g7, hf⟩ := k_G hf
        refine va_iald hx hb hK hP 7 0 rfl rfl g7 dX8_chainOf_53 ?_
        obtain ⟨v8, hv8, hf⟩ := k_B hf
        refine k_callHV (As := [.int (v6 n1.toNatClampNeg)]) (rest := []) (r := (RX8, TX8, 21)) (ci := 5) (q0 := 0) (isC := [0, 1, 2, 3, 4, 5, 6, 7, 8, 9]) (isR := []) (perm := [0, 1, 2, 3, 4, 5, 6, 7, 8, 9]) (w' := (wX8 cy h0 sa pa ka aa oa wa ca ta na mOp mIk mPa mRu 2 mTy mSp mFr mRe mCa mOr mLe rS rP rK rA rO rW v6 rT rN)) ⟨hx, hb, hml, hown, hts⟩ (c_X8_great l D cy h0 sa pa ka aa oa wa ca ta na mOp mIk mPa mRu 2 mTy mSp mFr mRe mCa mOr mLe rS rP rK rA rO rW v6 rT rN (v6 n1.toNatClampNeg) v8 hv8) (cwV 1 hts gX8_chainOf_X8_great rfl rfl rfl hd_X8_great ⟨Nat.le_of_ble_eq_true rfl, Nat.le_of_ble_eq_true rfl⟩) hK hN hP hD hS hA rfl rfl rfl rfl rfl rfl (by decide) rfl rfl rfl hl.1 rfl (Nat.le_of_ble_eq_true rfl) dX8_chainOf_54 ⟨Nat.zero_le _, Nat.zero_le _⟩ (fun H locs hP hD hS => ?_)
        obtain rfl := k_some hf
        exact k_iret hx hb hr hP hD hS dX8_chainOf_57 hlocks
      · have hf := k_F c5 hf
        refine lv_iconst (v := 0) hx hb dX8_chainOf_41 (by decide) ?_
        obtain rfl := k_some hf
        exact k_iret hx hb hr hP hD hS dX8_chainOf_42 hlocks
    · have hf := k_T c4 hf
      refine lv_iconst (v := 0) hx hb dX8_chainOf_26 (by decide) ?_
      refine lv_goto (tgt := 31) hx hb dX8_chainOf_27 (by decide) ?_
      refine va_put (D := D) (ci := 5) (v := .int 0) (ty := .int) (C := RX8) (T := TX8) (N := 21) hx hb hts in_X8 tyX8 tyX8_ok nmX8 hown hK hP hD hS 0 rfl rfl 11 (by decide) fl37 (fun _ h9 => h9) rfl (by decide +kernel) rfl rfl (Nat.le_of_ble_eq_true rfl) dX8_chainOf_31 (fun H locs hP hD hS => ?_)
      have hP : va_P D vwCl (wX8 cy h0 sa pa ka aa oa wa ca ta na mOp mIk mPa mRu 0 mTy mSp mFr mRe mCa mOr mLe rS rP rK rA rO rW rC rT rN) H := hP
      have hD : va_D A (wX8 cy h0 sa pa ka aa oa wa ca ta na mOp mIk mPa mRu 0 mTy mSp mFr mRe mCa mOr mLe rS rP rK rA rO rW rC rT rN) := hD
      refine lv_aload_n hx hb dX8_chainOf_34 rfl (lv_at hl 0 rfl) ?_
      refine va_get (D := D) (ci := 5) (v := .int 0) (C := RX8) (T := TX8) (N := 21) hx hb hts in_X8 hown hK hP 0 rfl rfl 11 (by decide) fl37 (fun _ h9 => h9) rfl dX8_chainOf_35 ?_
      refine lv_if_le (tgt := 43) hx hb dX8_chainOf_38 (by decide) (fun c9 => ?_) (fun c9 => ?_)
      · have hf := k_T c9 hf
        refine lv_aload_n hx hb dX8_chainOf_43 rfl (lv_at hl 0 rfl) ?_
        obtain ⟨v10, hv10, hf⟩ := k_B hf
        refine k_callHV (As := []) (rest := []) (r := (RX8, TX8, 21)) (ci := 5) (q0 := 0) (isC := [0, 1, 2, 3, 4, 5, 6, 7, 8, 9]) (isR := []) (perm := [0, 1, 2, 3, 4, 5, 6, 7, 8, 9]) (w' := (wX8 cy h0 sa pa ka aa oa wa ca ta na mOp mIk mPa mRu 0 mTy mSp mFr mRe mCa mOr mLe rS rP rK rA rO rW v10 rT rN)) ⟨hx, hb, hml, hown, hts⟩ (c_X8_finds l D cy h0 sa pa ka aa oa wa ca ta na mOp mIk mPa mRu 0 mTy mSp mFr mRe mCa mOr mLe rS rP rK rA rO rW rC rT rN  v10 hv10) (cwV 0 hts gX8_chainOf_X8_finds rfl rfl rfl hd_X8_finds ⟨Nat.le_of_ble_eq_true rfl, Nat.le_of_ble_eq_true rfl⟩) hK hN hP hD hS hA rfl rfl rfl rfl rfl rfl (by decide) rfl rfl rfl hl.1 rfl (Nat.le_of_ble_eq_true rfl) dX8_chainOf_44 ⟨Nat.zero_le _, Nat.zero_le _⟩ (fun H locs hP hD hS => ?_)
        refine lv_aload_n hx hb dX8_chainOf_47 rfl (lv_at hl 0 rfl) ?_
        refine lv_aload_n hx hb dX8_chainOf_48 rfl (lv_at hl 0 rfl) ?_
        refine va_get (D := D) (ci := 5) (v := .ref ca) (C := RX8) (T := TX8) (N := 21) hx hb hts in_X8 hown hK hP 0 rfl rfl 6 (by decide) fl28 (fun _ h9 => h9) rfl dX8_chainOf_49 ?_
        refine lv_iload_n hx hb dX8_chainOf_52 rfl (lv_at hl 1 rfl) ?_
        obtain ⟨g11, hf⟩ := k_G hf
        refine va_iald hx hb hK hP 7 0 rfl rfl g11 dX8_chainOf_53 ?_
        obtain ⟨v12, hv12, hf⟩ := k_B hf
        refine k_callHV (As := [.int (v10 n1.toNatClampNeg)]) (rest := []) (r := (RX8, TX8, 21)) (ci := 5) (q0 := 0) (isC := [0, 1, 2, 3, 4, 5, 6, 7, 8, 9]) (isR := []) (perm := [0, 1, 2, 3, 4, 5, 6, 7, 8, 9]) (w' := (wX8 cy h0 sa pa ka aa oa wa ca ta na mOp mIk mPa mRu 0 mTy mSp mFr mRe mCa mOr mLe rS rP rK rA rO rW v10 rT rN)) ⟨hx, hb, hml, hown, hts⟩ (c_X8_great l D cy h0 sa pa ka aa oa wa ca ta na mOp mIk mPa mRu 0 mTy mSp mFr mRe mCa mOr mLe rS rP rK rA rO rW v10 rT rN (v10 n1.toNatClampNeg) v12 hv12) (cwV 1 hts gX8_chainOf_X8_great rfl rfl rfl hd_X8_great ⟨Nat.le_of_ble_eq_true rfl, Nat.le_of_ble_eq_true rfl⟩) hK hN hP hD hS hA rfl rfl rfl rfl rfl rfl (by decide) rfl rfl rfl hl.1 rfl (Nat.le_of_ble_eq_true rfl) dX8_chainOf_54 ⟨Nat.zero_le _, Nat.zero_le _⟩ (fun H locs hP hD hS => ?_)
        obtain rfl := k_some hf
        exact k_iret hx hb hr hP hD hS dX8_chainOf_57 hlocks
      · have hf := k_F c9 hf
        refine lv_iconst (v := 0) hx hb dX8_chainOf_41 (by decide) ?_
        obtain rfl := k_some hf
        exact k_iret hx hb hr hP hD hS dX8_chainOf_42 hlocks
  · have hf := k_T c2 hf
    refine lv_iconst (v := 1) hx hb dX8_chainOf_8 (by decide) ?_
    refine lv_goto (tgt := 31) hx hb dX8_chainOf_9 (by decide) ?_
    refine va_put (D := D) (ci := 5) (v := .int 1) (ty := .int) (C := RX8) (T := TX8) (N := 21) hx hb hts in_X8 tyX8 tyX8_ok nmX8 hown hK hP hD hS 0 rfl rfl 11 (by decide) fl37 (fun _ h9 => h9) rfl (by decide +kernel) rfl rfl (Nat.le_of_ble_eq_true rfl) dX8_chainOf_31 (fun H locs hP hD hS => ?_)
    have hP : va_P D vwCl (wX8 cy h0 sa pa ka aa oa wa ca ta na mOp mIk mPa mRu 1 mTy mSp mFr mRe mCa mOr mLe rS rP rK rA rO rW rC rT rN) H := hP
    have hD : va_D A (wX8 cy h0 sa pa ka aa oa wa ca ta na mOp mIk mPa mRu 1 mTy mSp mFr mRe mCa mOr mLe rS rP rK rA rO rW rC rT rN) := hD
    refine lv_aload_n hx hb dX8_chainOf_34 rfl (lv_at hl 0 rfl) ?_
    refine va_get (D := D) (ci := 5) (v := .int 1) (C := RX8) (T := TX8) (N := 21) hx hb hts in_X8 hown hK hP 0 rfl rfl 11 (by decide) fl37 (fun _ h9 => h9) rfl dX8_chainOf_35 ?_
    refine lv_if_le (tgt := 43) hx hb dX8_chainOf_38 (by decide) (fun c13 => ?_) (fun c13 => ?_)
    · have hf := k_T c13 hf
      refine lv_aload_n hx hb dX8_chainOf_43 rfl (lv_at hl 0 rfl) ?_
      obtain ⟨v14, hv14, hf⟩ := k_B hf
      refine k_callHV (As := []) (rest := []) (r := (RX8, TX8, 21)) (ci := 5) (q0 := 0) (isC := [0, 1, 2, 3, 4, 5, 6, 7, 8, 9]) (isR := []) (perm := [0, 1, 2, 3, 4, 5, 6, 7, 8, 9]) (w' := (wX8 cy h0 sa pa ka aa oa wa ca ta na mOp mIk mPa mRu 1 mTy mSp mFr mRe mCa mOr mLe rS rP rK rA rO rW v14 rT rN)) ⟨hx, hb, hml, hown, hts⟩ (c_X8_finds l D cy h0 sa pa ka aa oa wa ca ta na mOp mIk mPa mRu 1 mTy mSp mFr mRe mCa mOr mLe rS rP rK rA rO rW rC rT rN  v14 hv14) (cwV 0 hts gX8_chainOf_X8_finds rfl rfl rfl hd_X8_finds ⟨Nat.le_of_ble_eq_true rfl, Nat.le_of_ble_eq_true rfl⟩) hK hN hP hD hS hA rfl rfl rfl rfl rfl rfl (by decide) rfl rfl rfl hl.1 rfl (Nat.le_of_ble_eq_true rfl) dX8_chainOf_44 ⟨Nat.zero_le _, Nat.zero_le _⟩ (fun H locs hP hD hS => ?_)
      refine lv_aload_n hx hb dX8_chainOf_47 rfl (lv_at hl 0 rfl) ?_
      refine lv_aload_n hx hb dX8_chainOf_48 rfl (lv_at hl 0 rfl) ?_
      refine va_get (D := D) (ci := 5) (v := .ref ca) (C := RX8) (T := TX8) (N := 21) hx hb hts in_X8 hown hK hP 0 rfl rfl 6 (by decide) fl28 (fun _ h9 => h9) rfl dX8_chainOf_49 ?_
      refine lv_iload_n hx hb dX8_chainOf_52 rfl (lv_at hl 1 rfl) ?_
      obtain ⟨g15, hf⟩ := k_G hf
      refine va_iald hx hb hK hP 7 0 rfl rfl g15 dX8_chainOf_53 ?_
      obtain ⟨v16, hv16, hf⟩ := k_B hf
      refine k_callHV (As := [.int (v14 n1.toNatClampNeg)]) (rest := []) (r := (RX8, TX8, 21)) (ci := 5) (q0 := 0) (isC := [0, 1, 2, 3, 4, 5, 6, 7, 8, 9]) (isR := []) (perm := [0, 1, 2, 3, 4, 5, 6, 7, 8, 9]) (w' := (wX8 cy h0 sa pa ka aa oa wa ca ta na mOp mIk mPa mRu 1 mTy mSp mFr mRe mCa mOr mLe rS rP rK rA rO rW v14 rT rN)) ⟨hx, hb, hml, hown, hts⟩ (c_X8_great l D cy h0 sa pa ka aa oa wa ca ta na mOp mIk mPa mRu 1 mTy mSp mFr mRe mCa mOr mLe rS rP rK rA rO rW v14 rT rN (v14 n1.toNatClampNeg) v16 hv16) (cwV 1 hts gX8_chainOf_X8_great rfl rfl rfl hd_X8_great ⟨Nat.le_of_ble_eq_true rfl, Nat.le_of_ble_eq_true rfl⟩) hK hN hP hD hS hA rfl rfl rfl rfl rfl rfl (by decide) rfl rfl rfl hl.1 rfl (Nat.le_of_ble_eq_true rfl) dX8_chainOf_54 ⟨Nat.zero_le _, Nat.zero_le _⟩ (fun H locs hP hD hS => ?_)
      obtain rfl := k_some hf
      exact k_iret hx hb hr hP hD hS dX8_chainOf_57 hlocks
    · have hf := k_F c13 hf
      refine lv_iconst (v := 0) hx hb dX8_chainOf_41 (by decide) ?_
      obtain rfl := k_some hf
      exact k_iret hx hb hr hP hD hS dX8_chainOf_42 hlocks
def f_X8_rings (mLa : Int32) (rS : Nat → Int32) (rC : Nat → Int32) : Option (Int32 × Int32 × (Nat → Int32)) :=
  (f_X8_chainsOf 1 mLa rS rC).bind fun v1 =>
  some (v1.1, v1.2.1, v1.2.2)
abbrev rm_X8_rings : Room := { frames := 5, cells := 0, slots := 0, locals := 117 }
theorem hd_X8_rings : yX8_rings.cls = RX8 ∧ yX8_rings.cls ≠ "java/lang/invoke/MethodHandle" ∧ yX8_rings.cls ≠ "java/lang/invoke/VarHandle" ∧ (parseMethodDescriptor yX8_rings.desc).map (fun d => d.parameters.length) = some 0 := by decide +kernel
set_option maxHeartbeats 4000000 in
set_option maxRecDepth 100000 in
theorem c_X8_rings (l : Launch) (D : va_G) (cy : Nat → ClassId) (h0 sa pa ka aa oa wa ca ta na : Nat) (mOp : Int32) (mIk : Int32) (mPa : Int32) (mRu : Int32) (mLa : Int32) (mTy : Int32) (mSp : Int32) (mFr : Int32) (mRe : Int32) (mCa : Int32) (mOr : Int32) (mLe : Int32) (rS : Nat → Int32) (rP : Nat → Int32) (rK : Nat → Int32) (rA : Nat → Int32) (rO : Nat → Int32) (rW : Nat → Int32) (rC : Nat → Int32) (rT : Nat → Int32) (rN : Nat → Int32)  (r : Int32 × Int32 × (Nat → Int32)) (hf : f_X8_rings mLa rS rC = some r) : k_HMet l yX8_rings wsX8_rings rm_X8_rings D (k_tys cy) [.ref h0] (wX8 cy h0 sa pa ka aa oa wa ca ta na mOp mIk mPa mRu mLa mTy mSp mFr mRe mCa mOr mLe rS rP rK rA rO rW rC rT rN) (some (.int r.1)) (wX8 cy h0 sa pa ka aa oa wa ca ta na mOp mIk mPa mRu r.2.1 mTy mSp mFr mRe mCa mOr mLe rS rP rK rA rO rW r.2.2 rT rN) := by
  refine k_heapOf (cc := cX8_rings) (maxL := 1) (ret := (some .int)) (by decide) rfl (Nat.le_of_ble_eq_true rfl) ?_
  intro p e s m args below meth c ls A hx hb hr hlocks hml hown hts hl hA hK hP hD hN
  have hl : lv_has ls 1 [(0, .ref h0)] := hl
  have hS : va_S A s.heap s.heap [] := va_S.rf
  unfold f_X8_rings at hf
  obtain ⟨H, eH⟩ : ∃ H, H = s.heap := ⟨_, rfl⟩
  obtain ⟨locs, elocs⟩ : ∃ L : List Loc, L = [] := ⟨_, rfl⟩
  have hP : va_P D vwCl (wX8 cy h0 sa pa ka aa oa wa ca ta na mOp mIk mPa mRu mLa mTy mSp mFr mRe mCa mOr mLe rS rP rK rA rO rW rC rT rN) H := by rw [eH]; exact hP
  have hS : va_S A s.heap H locs := by rw [eH, elocs]; exact hS
  refine k_here eH elocs ?_
  refine lv_aload_n hx hb dX8_rings_0 rfl (lv_at hl 0 rfl) ?_
  refine lv_iconst (v := 1) hx hb dX8_rings_1 (by decide) ?_
  obtain ⟨v1, hv1, hf⟩ := k_B hf
  refine k_callHV (As := [.int 1]) (rest := []) (r := (RX8, TX8, 21)) (ci := 5) (q0 := 0) (isC := [0, 1, 2, 3, 4, 5, 6, 7, 8, 9]) (isR := []) (perm := [0, 1, 2, 3, 4, 5, 6, 7, 8, 9]) (w' := (wX8 cy h0 sa pa ka aa oa wa ca ta na mOp mIk mPa mRu v1.2.1 mTy mSp mFr mRe mCa mOr mLe rS rP rK rA rO rW v1.2.2 rT rN)) ⟨hx, hb, hml, hown, hts⟩ (c_X8_chainsOf l D cy h0 sa pa ka aa oa wa ca ta na mOp mIk mPa mRu mLa mTy mSp mFr mRe mCa mOr mLe rS rP rK rA rO rW rC rT rN 1 v1 hv1) (cwV 1 hts gX8_rings_X8_chainsOf rfl rfl rfl hd_X8_chainsOf ⟨Nat.le_of_ble_eq_true rfl, Nat.le_of_ble_eq_true rfl⟩) hK hN hP hD hS hA rfl rfl rfl rfl rfl rfl (by decide) rfl rfl rfl hl.1 rfl (Nat.le_of_ble_eq_true rfl) dX8_rings_2 ⟨Nat.zero_le _, Nat.zero_le _⟩ (fun H locs hP hD hS => ?_)
  obtain rfl := k_some hf
  exact k_iret hx hb hr hP hD hS dX8_rings_5 hlocks
def f_X8_longChains (mLa : Int32) (rS : Nat → Int32) (rC : Nat → Int32) : Option (Int32 × Int32 × (Nat → Int32)) :=
  (f_X8_chainsOf 2 mLa rS rC).bind fun v1 =>
  some (v1.1, v1.2.1, v1.2.2)
abbrev rm_X8_longChains : Room := { frames := 5, cells := 0, slots := 0, locals := 117 }
theorem hd_X8_longChains : yX8_longChains.cls = RX8 ∧ yX8_longChains.cls ≠ "java/lang/invoke/MethodHandle" ∧ yX8_longChains.cls ≠ "java/lang/invoke/VarHandle" ∧ (parseMethodDescriptor yX8_longChains.desc).map (fun d => d.parameters.length) = some 0 := by decide +kernel
set_option maxHeartbeats 4000000 in
set_option maxRecDepth 100000 in
theorem c_X8_longChains (l : Launch) (D : va_G) (cy : Nat → ClassId) (h0 sa pa ka aa oa wa ca ta na : Nat) (mOp : Int32) (mIk : Int32) (mPa : Int32) (mRu : Int32) (mLa : Int32) (mTy : Int32) (mSp : Int32) (mFr : Int32) (mRe : Int32) (mCa : Int32) (mOr : Int32) (mLe : Int32) (rS : Nat → Int32) (rP : Nat → Int32) (rK : Nat → Int32) (rA : Nat → Int32) (rO : Nat → Int32) (rW : Nat → Int32) (rC : Nat → Int32) (rT : Nat → Int32) (rN : Nat → Int32)  (r : Int32 × Int32 × (Nat → Int32)) (hf : f_X8_longChains mLa rS rC = some r) : k_HMet l yX8_longChains wsX8_longChains rm_X8_longChains D (k_tys cy) [.ref h0] (wX8 cy h0 sa pa ka aa oa wa ca ta na mOp mIk mPa mRu mLa mTy mSp mFr mRe mCa mOr mLe rS rP rK rA rO rW rC rT rN) (some (.int r.1)) (wX8 cy h0 sa pa ka aa oa wa ca ta na mOp mIk mPa mRu r.2.1 mTy mSp mFr mRe mCa mOr mLe rS rP rK rA rO rW r.2.2 rT rN) := by
  refine k_heapOf (cc := cX8_longChains) (maxL := 1) (ret := (some .int)) (by decide) rfl (Nat.le_of_ble_eq_true rfl) ?_
  intro p e s m args below meth c ls A hx hb hr hlocks hml hown hts hl hA hK hP hD hN
  have hl : lv_has ls 1 [(0, .ref h0)] := hl
  have hS : va_S A s.heap s.heap [] := va_S.rf
  unfold f_X8_longChains at hf
  obtain ⟨H, eH⟩ : ∃ H, H = s.heap := ⟨_, rfl⟩
  obtain ⟨locs, elocs⟩ : ∃ L : List Loc, L = [] := ⟨_, rfl⟩
  have hP : va_P D vwCl (wX8 cy h0 sa pa ka aa oa wa ca ta na mOp mIk mPa mRu mLa mTy mSp mFr mRe mCa mOr mLe rS rP rK rA rO rW rC rT rN) H := by rw [eH]; exact hP
  have hS : va_S A s.heap H locs := by rw [eH, elocs]; exact hS
  refine k_here eH elocs ?_
  refine lv_aload_n hx hb dX8_longChains_0 rfl (lv_at hl 0 rfl) ?_
  refine lv_iconst (v := 2) hx hb dX8_longChains_1 (by decide) ?_
  obtain ⟨v1, hv1, hf⟩ := k_B hf
  refine k_callHV (As := [.int 2]) (rest := []) (r := (RX8, TX8, 21)) (ci := 5) (q0 := 0) (isC := [0, 1, 2, 3, 4, 5, 6, 7, 8, 9]) (isR := []) (perm := [0, 1, 2, 3, 4, 5, 6, 7, 8, 9]) (w' := (wX8 cy h0 sa pa ka aa oa wa ca ta na mOp mIk mPa mRu v1.2.1 mTy mSp mFr mRe mCa mOr mLe rS rP rK rA rO rW v1.2.2 rT rN)) ⟨hx, hb, hml, hown, hts⟩ (c_X8_chainsOf l D cy h0 sa pa ka aa oa wa ca ta na mOp mIk mPa mRu mLa mTy mSp mFr mRe mCa mOr mLe rS rP rK rA rO rW rC rT rN 2 v1 hv1) (cwV 1 hts gX8_longChains_X8_chainsOf rfl rfl rfl hd_X8_chainsOf ⟨Nat.le_of_ble_eq_true rfl, Nat.le_of_ble_eq_true rfl⟩) hK hN hP hD hS hA rfl rfl rfl rfl rfl rfl (by decide) rfl rfl rfl hl.1 rfl (Nat.le_of_ble_eq_true rfl) dX8_longChains_2 ⟨Nat.zero_le _, Nat.zero_le _⟩ (fun H locs hP hD hS => ?_)
  obtain rfl := k_some hf
  exact k_iret hx hb hr hP hD hS dX8_longChains_5 hlocks
def f_X8_ruleHoldsFor (mLa : Int32) (rS : Nat → Int32) (rC : Nat → Int32) : Option (Int32 × Int32 × (Nat → Int32)) :=
  (f_X8_chainsOf 2 mLa rS rC).bind fun v1 =>
  some (v1.1 - v1.1 / 2 * 2, v1.2.1, v1.2.2)
abbrev rm_X8_ruleHoldsFor : Room := { frames := 5, cells := 0, slots := 0, locals := 117 }
theorem hd_X8_ruleHoldsFor : yX8_ruleHoldsFor.cls = RX8 ∧ yX8_ruleHoldsFor.cls ≠ "java/lang/invoke/MethodHandle" ∧ yX8_ruleHoldsFor.cls ≠ "java/lang/invoke/VarHandle" ∧ (parseMethodDescriptor yX8_ruleHoldsFor.desc).map (fun d => d.parameters.length) = some 0 := by decide +kernel
set_option maxHeartbeats 4000000 in
set_option maxRecDepth 100000 in
theorem c_X8_ruleHoldsFor (l : Launch) (D : va_G) (cy : Nat → ClassId) (h0 sa pa ka aa oa wa ca ta na : Nat) (mOp : Int32) (mIk : Int32) (mPa : Int32) (mRu : Int32) (mLa : Int32) (mTy : Int32) (mSp : Int32) (mFr : Int32) (mRe : Int32) (mCa : Int32) (mOr : Int32) (mLe : Int32) (rS : Nat → Int32) (rP : Nat → Int32) (rK : Nat → Int32) (rA : Nat → Int32) (rO : Nat → Int32) (rW : Nat → Int32) (rC : Nat → Int32) (rT : Nat → Int32) (rN : Nat → Int32)  (r : Int32 × Int32 × (Nat → Int32)) (hf : f_X8_ruleHoldsFor mLa rS rC = some r) : k_HMet l yX8_ruleHoldsFor wsX8_ruleHoldsFor rm_X8_ruleHoldsFor D (k_tys cy) [.ref h0] (wX8 cy h0 sa pa ka aa oa wa ca ta na mOp mIk mPa mRu mLa mTy mSp mFr mRe mCa mOr mLe rS rP rK rA rO rW rC rT rN) (some (.int r.1)) (wX8 cy h0 sa pa ka aa oa wa ca ta na mOp mIk mPa mRu r.2.1 mTy mSp mFr mRe mCa mOr mLe rS rP rK rA rO rW r.2.2 rT rN) := by
  refine k_heapOf (cc := cX8_ruleHoldsFor) (maxL := 1) (ret := (some .int)) (by decide) rfl (Nat.le_of_ble_eq_true rfl) ?_
  intro p e s m args below meth c ls A hx hb hr hlocks hml hown hts hl hA hK hP hD hN
  have hl : lv_has ls 1 [(0, .ref h0)] := hl
  have hS : va_S A s.heap s.heap [] := va_S.rf
  unfold f_X8_ruleHoldsFor at hf
  obtain ⟨H, eH⟩ : ∃ H, H = s.heap := ⟨_, rfl⟩
  obtain ⟨locs, elocs⟩ : ∃ L : List Loc, L = [] := ⟨_, rfl⟩
  have hP : va_P D vwCl (wX8 cy h0 sa pa ka aa oa wa ca ta na mOp mIk mPa mRu mLa mTy mSp mFr mRe mCa mOr mLe rS rP rK rA rO rW rC rT rN) H := by rw [eH]; exact hP
  have hS : va_S A s.heap H locs := by rw [eH, elocs]; exact hS
  refine k_here eH elocs ?_
  refine lv_aload_n hx hb dX8_ruleHoldsFor_0 rfl (lv_at hl 0 rfl) ?_
  refine lv_iconst (v := 2) hx hb dX8_ruleHoldsFor_1 (by decide) ?_
  obtain ⟨v1, hv1, hf⟩ := k_B hf
  refine k_callHV (As := [.int 2]) (rest := []) (r := (RX8, TX8, 21)) (ci := 5) (q0 := 0) (isC := [0, 1, 2, 3, 4, 5, 6, 7, 8, 9]) (isR := []) (perm := [0, 1, 2, 3, 4, 5, 6, 7, 8, 9]) (w' := (wX8 cy h0 sa pa ka aa oa wa ca ta na mOp mIk mPa mRu v1.2.1 mTy mSp mFr mRe mCa mOr mLe rS rP rK rA rO rW v1.2.2 rT rN)) ⟨hx, hb, hml, hown, hts⟩ (c_X8_chainsOf l D cy h0 sa pa ka aa oa wa ca ta na mOp mIk mPa mRu mLa mTy mSp mFr mRe mCa mOr mLe rS rP rK rA rO rW rC rT rN 2 v1 hv1) (cwV 1 hts gX8_ruleHoldsFor_X8_chainsOf rfl rfl rfl hd_X8_chainsOf ⟨Nat.le_of_ble_eq_true rfl, Nat.le_of_ble_eq_true rfl⟩) hK hN hP hD hS hA rfl rfl rfl rfl rfl rfl (by decide) rfl rfl rfl hl.1 rfl (Nat.le_of_ble_eq_true rfl) dX8_ruleHoldsFor_2 ⟨Nat.zero_le _, Nat.zero_le _⟩ (fun H locs hP hD hS => ?_)
  refine lv_iconst (v := 2) hx hb dX8_ruleHoldsFor_5 (by decide) ?_
  refine lv_irem hx hb dX8_ruleHoldsFor_6 (by decide) ?_
  obtain rfl := k_some hf
  exact k_iret hx hb hr hP hD hS dX8_ruleHoldsFor_7 hlocks
def t_X8_with_9 (b1 : Int32) (mOp : Int32) (rO : Nat → Int32) (s9 : Int32 × Int32) : Option ((Int32 × Int32) ⊕ (Int32 × Int32)) :=
  if mOp ≤ s9.2 then
    some (.inr (s9.1, s9.2))
  else
    (f_X8_isIn b1 s9.2).bind fun v3 =>
    if v3 = 0 then
      k_let (s9.1 ||| 0) fun y5 =>
      some (.inl (y5, s9.2 + 1))
    else
      if s9.2 < 0 ∨ 31 ≤ s9.2.toNatClampNeg then none else
      k_let (s9.1 ||| ((1 : Int32) <<< ((rO s9.2.toNatClampNeg) &&& 31))) fun y7 =>
      some (.inl (y7, s9.2 + 1))
def f_X8_with (n1 : Int32) (mOp : Int32) (rS : Nat → Int32) (rO : Nat → Int32) : Option (Int32) :=
  k_let (rS 0) fun y1 =>
  (k_loop (t_X8_with_9 n1 mOp rO) 1000 (y1, 0)).bind fun x8 =>
  some x8.1
abbrev rm_X8_with : Room := { frames := 1, cells := 0, slots := 0, locals := 21 }
theorem hd_X8_with : yX8_with.cls = RX8 ∧ yX8_with.cls ≠ "java/lang/invoke/MethodHandle" ∧ yX8_with.cls ≠ "java/lang/invoke/VarHandle" ∧ (parseMethodDescriptor yX8_with.desc).map (fun d => d.parameters.length) = some 1 := by decide +kernel
set_option maxHeartbeats 4000000 in
set_option maxRecDepth 100000 in
theorem c_X8_with (l : Launch) (D : va_G) (cy : Nat → ClassId) (h0 sa pa ka aa oa wa ca ta na : Nat) (mOp : Int32) (mIk : Int32) (mPa : Int32) (mRu : Int32) (mLa : Int32) (mTy : Int32) (mSp : Int32) (mFr : Int32) (mRe : Int32) (mCa : Int32) (mOr : Int32) (mLe : Int32) (rS : Nat → Int32) (rP : Nat → Int32) (rK : Nat → Int32) (rA : Nat → Int32) (rO : Nat → Int32) (rW : Nat → Int32) (rC : Nat → Int32) (rT : Nat → Int32) (rN : Nat → Int32) (n1 : Int32) (r : Int32) (hf : f_X8_with n1 mOp rS rO = some r) : k_HMet l yX8_with wsX8_with rm_X8_with D (k_tys cy) [.ref h0, .int n1] (wX8 cy h0 sa pa ka aa oa wa ca ta na mOp mIk mPa mRu mLa mTy mSp mFr mRe mCa mOr mLe rS rP rK rA rO rW rC rT rN) (some (.int r)) (wX8 cy h0 sa pa ka aa oa wa ca ta na mOp mIk mPa mRu mLa mTy mSp mFr mRe mCa mOr mLe rS rP rK rA rO rW rC rT rN) := by
  refine k_heapOf (cc := cX8_with) (maxL := 4) (ret := (some .int)) (by decide) rfl (Nat.le_of_ble_eq_true rfl) ?_
  intro p e s m args below meth c ls A hx hb hr hlocks hml hown hts hl hA hK hP hD hN
  have hl : lv_has ls 4 [(0, .ref h0), (1, .int n1)] := hl
  have hS : va_S A s.heap s.heap [] := va_S.rf
  have in_X8 : ∀ w ∈ wsX80, w ∈ wsX8_with := by decide +kernel
  have fl7 := hts (.fieldLink RX8 7 "FencedBoxesModel" "s" "[I") (by decide +kernel)
  have fl22 := hts (.fieldLink RX8 22 "FencedBoxesModel" "open" "[I") (by decide +kernel)
  have fl132 := hts (.fieldLink RX8 132 "FencedBoxesModel" "opens" "I") (by decide +kernel)
  have L9 : ∀ (Q : State → Prop) (n : Nat) (b1 : Int32) (mOp : Int32) (mIk : Int32) (mPa : Int32) (mRu : Int32) (mLa : Int32) (mTy : Int32) (mSp : Int32) (mFr : Int32) (mRe : Int32) (mCa : Int32) (mOr : Int32) (mLe : Int32) (rS : Nat → Int32) (rP : Nat → Int32) (rK : Nat → Int32) (rA : Nat → Int32) (rO : Nat → Int32) (rW : Nat → Int32) (rC : Nat → Int32) (rT : Nat → Int32) (rN : Nat → Int32) (s9 : Int32 × Int32) (q : (Int32 × Int32)), k_loop (t_X8_with_9 b1 mOp rO) n s9 = some q → ∀ (ls : Array Slot) (H : Heap) (locs : List Loc), lv_has ls 4 [(0, .ref h0), (1, .int b1), (2, .int s9.1), (3, .int s9.2)] → va_P D vwCl (wX8 cy h0 sa pa ka aa oa wa ca ta na mOp mIk mPa mRu mLa mTy mSp mFr mRe mCa mOr mLe rS rP rK rA rO rW rC rT rN) H → va_D A (wX8 cy h0 sa pa ka aa oa wa ca ta na mOp mIk mPa mRu mLa mTy mSp mFr mRe mCa mOr mLe rS rP rK rA rO rW rC rT rN) → va_S A s.heap H locs → (∀ (ls : Array Slot) (H : Heap) (locs : List Loc), True → lv_has ls 4 [(2, .int q.1)] → va_P D vwCl (wX8 cy h0 sa pa ka aa oa wa ca ta na mOp mIk mPa mRu mLa mTy mSp mFr mRe mCa mOr mLe rS rP rK rA rO rW rC rT rN) H → va_D A (wX8 cy h0 sa pa ka aa oa wa ca ta na mOp mIk mPa mRu mLa mTy mSp mFr mRe mCa mOr mLe rS rP rK rA rO rW rC rT rN) → va_S A s.heap H locs → W p l e rm_X8_with s m args below meth c H locs 0 0 Q (F0 m 46 ls [])) → W p l e rm_X8_with s m args below meth c H locs 0 0 Q (F0 m 9 ls []) := by
    intro Q n
    induction n with
    | zero =>
      intro b1 mOp mIk mPa mRu mLa mTy mSp mFr mRe mCa mOr mLe rS rP rK rA rO rW rC rT rN s9 q hq
      exact (k_loop0 hq).elim
    | succ n ih =>
      intro b1 mOp mIk mPa mRu mLa mTy mSp mFr mRe mCa mOr mLe rS rP rK rA rO rW rC rT rN s9 q hq ls H locs hl hP hD hS kx 
      obtain ⟨x, hf, hq⟩ := k_loopE hq
      unfold t_X8_with_9 at hf
      refine lv_iload_n hx hb dX8_with_9 rfl (lv_at hl 3 rfl) ?_
      refine lv_aload_n hx hb dX8_with_10 rfl (lv_at hl 0 rfl) ?_
      refine va_get (D := D) (ci := 5) (v := .int mOp) (C := RX8) (T := TX8) (N := 21) hx hb hts in_X8 hown hK hP 0 rfl rfl 7 (by decide) fl132 (fun _ h9 => h9) rfl dX8_with_11 ?_
      refine lv_icmp_ge (tgt := 46) hx hb dX8_with_14 (by decide) (fun c2 => ?_) (fun c2 => ?_)
      · have hf := k_T c2 hf
        obtain rfl := k_some hf
        obtain rfl := k_some (k_inr hq)
        exact kx ls H locs trivial (lv_sub hl [2] rfl) hP hD hS
      · have hf := k_F c2 hf
        refine lv_iload_n hx hb dX8_with_17 rfl (lv_at hl 2 rfl) ?_
        refine lv_iload_n hx hb dX8_with_18 rfl (lv_at hl 1 rfl) ?_
        refine lv_iload_n hx hb dX8_with_19 rfl (lv_at hl 3 rfl) ?_
        obtain ⟨v3, hv3, hf⟩ := k_B hf
        refine k_callS (As := [.int b1, .int s9.2]) (rest := [.int s9.1]) ⟨hx, hb, hml, hown, hts⟩ (c_X8_isIn l b1 s9.2 v3 hv3) (va_cwS 2 hts gX8_with_X8_isIn rfl rfl rfl hd_X8_isIn ⟨Nat.le_of_ble_eq_true rfl, Nat.le_of_ble_eq_true rfl⟩) rfl hl.1 rfl (Nat.le_of_ble_eq_true rfl) dX8_with_20 ⟨Nat.zero_le _, Nat.zero_le _⟩ ?_
        refine lv_if_eq (tgt := 37) hx hb dX8_with_23 (by decide) (fun c4 => ?_) (fun c4 => ?_)
        · have hf := k_T c4 hf
          refine lv_iconst (v := 0) hx hb dX8_with_37 (by decide) ?_
          refine lv_ior hx hb dX8_with_38 ?_
          obtain ⟨y5, ey5, hf⟩ := k_L hf
          refine k_name ey5 ?_
          refine lv_istore_n (lv' := [(2, .int y5), (0, .ref h0), (1, .int b1), (3, .int s9.2)]) hx hb dX8_with_39 rfl hl (by decide) rfl (fun ls hl => ?_)
          refine lv_iinc (v := s9.2 + 1) (lv' := [(3, .int (s9.2 + 1)), (2, .int y5), (0, .ref h0), (1, .int b1)]) hx hb dX8_with_40 hl (k := 3) rfl rfl (by decide) rfl (fun ls hl => ?_)
          refine lv_goto (tgt := 9) hx hb dX8_with_43 (by decide) ?_
          obtain rfl := k_some hf
          exact ih b1 mOp mIk mPa mRu mLa mTy mSp mFr mRe mCa mOr mLe rS rP rK rA rO rW rC rT rN (y5, s9.2 + 1) q (k_inl hq) ls H locs (lv_sub hl [2, 3, 1, 0] rfl) hP hD hS kx 
        · have hf := k_F c4 hf
          refine lv_iconst (v := 1) hx hb dX8_with_26 (by decide) ?_
          refine lv_aload_n hx hb dX8_with_27 rfl (lv_at hl 0 rfl) ?_
          refine va_get (D := D) (ci := 5) (v := .ref oa) (C := RX8) (T := TX8) (N := 21) hx hb hts in_X8 hown hK hP 0 rfl rfl 4 (by decide) fl22 (fun _ h9 => h9) rfl dX8_with_28 ?_
          refine lv_iload_n hx hb dX8_with_31 rfl (lv_at hl 3 rfl) ?_
          obtain ⟨g6, hf⟩ := k_G hf
          refine va_iald hx hb hK hP 5 0 rfl rfl g6 dX8_with_32 ?_
          refine lv_ishl hx hb dX8_with_33 ?_
          refine lv_goto (tgt := 38) hx hb dX8_with_34 (by decide) ?_
          refine lv_ior hx hb dX8_with_38 ?_
          obtain ⟨y7, ey7, hf⟩ := k_L hf
          refine k_name ey7 ?_
          refine lv_istore_n (lv' := [(2, .int y7), (0, .ref h0), (1, .int b1), (3, .int s9.2)]) hx hb dX8_with_39 rfl hl (by decide) rfl (fun ls hl => ?_)
          refine lv_iinc (v := s9.2 + 1) (lv' := [(3, .int (s9.2 + 1)), (2, .int y7), (0, .ref h0), (1, .int b1)]) hx hb dX8_with_40 hl (k := 3) rfl rfl (by decide) rfl (fun ls hl => ?_)
          refine lv_goto (tgt := 9) hx hb dX8_with_43 (by decide) ?_
          obtain rfl := k_some hf
          exact ih b1 mOp mIk mPa mRu mLa mTy mSp mFr mRe mCa mOr mLe rS rP rK rA rO rW rC rT rN (y7, s9.2 + 1) q (k_inl hq) ls H locs (lv_sub hl [2, 3, 1, 0] rfl) hP hD hS kx 
  unfold f_X8_with at hf
  obtain ⟨H, eH⟩ : ∃ H, H = s.heap := ⟨_, rfl⟩
  obtain ⟨locs, elocs⟩ : ∃ L : List Loc, L = [] := ⟨_, rfl⟩
  have hP : va_P D vwCl (wX8 cy h0 sa pa ka aa oa wa ca ta na mOp mIk mPa mRu mLa mTy mSp mFr mRe mCa mOr mLe rS rP rK rA rO rW rC rT rN) H := by rw [eH]; exact hP
  have hS : va_S A s.heap H locs := by rw [eH, elocs]; exact hS
  refine k_here eH elocs ?_
  refine lv_aload_n hx hb dX8_with_0 rfl (lv_at hl 0 rfl) ?_
  refine va_get (D := D) (ci := 5) (v := .ref sa) (C := RX8) (T := TX8) (N := 21) hx hb hts in_X8 hown hK hP 0 rfl rfl 0 (by decide) fl7 (fun _ h9 => h9) rfl dX8_with_1 ?_
  refine lv_iconst (v := 0) hx hb dX8_with_4 (by decide) ?_
  refine va_iald hx hb hK hP 1 0 rfl rfl (k_in (i := 0) (n := 19) (by decide +kernel)) dX8_with_5 ?_
  refine k_name (v := rS 0) rfl ?_
  obtain ⟨y1, ey1, hf⟩ := k_L hf
  refine k_name ey1 ?_
  refine lv_istore_n (lv' := [(2, .int y1), (0, .ref h0), (1, .int n1)]) hx hb dX8_with_6 rfl hl (by decide) rfl (fun ls hl => ?_)
  refine lv_iconst (v := 0) hx hb dX8_with_7 (by decide) ?_
  refine lv_istore_n (lv' := [(3, .int 0), (2, .int y1), (0, .ref h0), (1, .int n1)]) hx hb dX8_with_8 rfl hl (by decide) rfl (fun ls hl => ?_)
  obtain ⟨x8, hx8, hf⟩ := k_B hf
  refine L9 _ 1000 n1 mOp mIk mPa mRu mLa mTy mSp mFr mRe mCa mOr mLe rS rP rK rA rO rW rC rT rN (y1, 0) x8 hx8 ls H locs (lv_sub hl [2, 3, 1, 0] rfl) hP hD hS ?_
  · intro ls H locs _ hl hP hD hS
    refine lv_iload_n hx hb dX8_with_46 rfl (lv_at hl 0 rfl) ?_
    obtain rfl := k_some hf
    exact k_iret hx hb hr hP hD hS dX8_with_47 hlocks
def f_X8_by (n1 : Int32) (n2 : Int32) (mOp : Int32) (rS : Nat → Int32) (rO : Nat → Int32) (rW : Nat → Int32) : Option (Int32) :=
  (f_X8_with n1 mOp rS rO).bind fun v1 =>
  if n2 < 0 ∨ 31 ≤ n2.toNatClampNeg then none else
  (f_X8_closes v1 (rO n2.toNatClampNeg)).bind fun v3 =>
  if (n1 ||| ((1 : Int32) <<< (n2 &&& 31))) < 0 ∨ 256 ≤ (n1 ||| ((1 : Int32) <<< (n2 &&& 31))).toNatClampNeg then none else
  k_let (rW (n1 ||| ((1 : Int32) <<< (n2 &&& 31))).toNatClampNeg) fun y5 =>
  if v3 ≤ 0 then
    some (-y5)
  else
    some (v3 + y5)
abbrev rm_X8_by : Room := { frames := 3, cells := 0, slots := 0, locals := 66 }
theorem hd_X8_by : yX8_by.cls = RX8 ∧ yX8_by.cls ≠ "java/lang/invoke/MethodHandle" ∧ yX8_by.cls ≠ "java/lang/invoke/VarHandle" ∧ (parseMethodDescriptor yX8_by.desc).map (fun d => d.parameters.length) = some 2 := by decide +kernel
set_option maxHeartbeats 4000000 in
set_option maxRecDepth 100000 in
theorem c_X8_by (l : Launch) (D : va_G) (cy : Nat → ClassId) (h0 sa pa ka aa oa wa ca ta na : Nat) (mOp : Int32) (mIk : Int32) (mPa : Int32) (mRu : Int32) (mLa : Int32) (mTy : Int32) (mSp : Int32) (mFr : Int32) (mRe : Int32) (mCa : Int32) (mOr : Int32) (mLe : Int32) (rS : Nat → Int32) (rP : Nat → Int32) (rK : Nat → Int32) (rA : Nat → Int32) (rO : Nat → Int32) (rW : Nat → Int32) (rC : Nat → Int32) (rT : Nat → Int32) (rN : Nat → Int32) (n1 : Int32) (n2 : Int32) (r : Int32) (hf : f_X8_by n1 n2 mOp rS rO rW = some r) : k_HMet l yX8_by wsX8_by rm_X8_by D (k_tys cy) [.ref h0, .int n1, .int n2] (wX8 cy h0 sa pa ka aa oa wa ca ta na mOp mIk mPa mRu mLa mTy mSp mFr mRe mCa mOr mLe rS rP rK rA rO rW rC rT rN) (some (.int r)) (wX8 cy h0 sa pa ka aa oa wa ca ta na mOp mIk mPa mRu mLa mTy mSp mFr mRe mCa mOr mLe rS rP rK rA rO rW rC rT rN) := by
  refine k_heapOf (cc := cX8_by) (maxL := 5) (ret := (some .int)) (by decide) rfl (Nat.le_of_ble_eq_true rfl) ?_
  intro p e s m args below meth c ls A hx hb hr hlocks hml hown hts hl hA hK hP hD hN
  have hl : lv_has ls 5 [(0, .ref h0), (1, .int n1), (2, .int n2)] := hl
  have hS : va_S A s.heap s.heap [] := va_S.rf
  have in_X8 : ∀ w ∈ wsX80, w ∈ wsX8_by := by decide +kernel
  have fl22 := hts (.fieldLink RX8 22 "FencedBoxesModel" "open" "[I") (by decide +kernel)
  have fl25 := hts (.fieldLink RX8 25 "FencedBoxesModel" "worth" "[I") (by decide +kernel)
  unfold f_X8_by at hf
  obtain ⟨H, eH⟩ : ∃ H, H = s.heap := ⟨_, rfl⟩
  obtain ⟨locs, elocs⟩ : ∃ L : List Loc, L = [] := ⟨_, rfl⟩
  have hP : va_P D vwCl (wX8 cy h0 sa pa ka aa oa wa ca ta na mOp mIk mPa mRu mLa mTy mSp mFr mRe mCa mOr mLe rS rP rK rA rO rW rC rT rN) H := by rw [eH]; exact hP
  have hS : va_S A s.heap H locs := by rw [eH, elocs]; exact hS
  refine k_here eH elocs ?_
  refine lv_aload_n hx hb dX8_by_0 rfl (lv_at hl 0 rfl) ?_
  refine lv_iload_n hx hb dX8_by_1 rfl (lv_at hl 1 rfl) ?_
  obtain ⟨v1, hv1, hf⟩ := k_B hf
  refine k_callHV (As := [.int n1]) (rest := []) (r := (RX8, TX8, 21)) (ci := 5) (q0 := 0) (isC := [0, 1, 2, 3, 4, 5, 6, 7, 8, 9]) (isR := []) (perm := [0, 1, 2, 3, 4, 5, 6, 7, 8, 9]) (w' := (wX8 cy h0 sa pa ka aa oa wa ca ta na mOp mIk mPa mRu mLa mTy mSp mFr mRe mCa mOr mLe rS rP rK rA rO rW rC rT rN)) ⟨hx, hb, hml, hown, hts⟩ (c_X8_with l D cy h0 sa pa ka aa oa wa ca ta na mOp mIk mPa mRu mLa mTy mSp mFr mRe mCa mOr mLe rS rP rK rA rO rW rC rT rN n1 v1 hv1) (cwV 1 hts gX8_by_X8_with rfl rfl rfl hd_X8_with ⟨Nat.le_of_ble_eq_true rfl, Nat.le_of_ble_eq_true rfl⟩) hK hN hP hD hS hA rfl rfl rfl rfl rfl rfl (by decide) rfl rfl rfl hl.1 rfl (Nat.le_of_ble_eq_true rfl) dX8_by_2 ⟨Nat.zero_le _, Nat.zero_le _⟩ (fun H locs hP hD hS => ?_)
  refine lv_aload_n hx hb dX8_by_5 rfl (lv_at hl 0 rfl) ?_
  refine va_get (D := D) (ci := 5) (v := .ref oa) (C := RX8) (T := TX8) (N := 21) hx hb hts in_X8 hown hK hP 0 rfl rfl 4 (by decide) fl22 (fun _ h9 => h9) rfl dX8_by_6 ?_
  refine lv_iload_n hx hb dX8_by_9 rfl (lv_at hl 2 rfl) ?_
  obtain ⟨g2, hf⟩ := k_G hf
  refine va_iald hx hb hK hP 5 0 rfl rfl g2 dX8_by_10 ?_
  obtain ⟨v3, hv3, hf⟩ := k_B hf
  refine k_callS (As := [.int v1, .int (rO n2.toNatClampNeg)]) (rest := []) ⟨hx, hb, hml, hown, hts⟩ (c_X8_closes l v1 (rO n2.toNatClampNeg) v3 hv3) (va_cwS 2 hts gX8_by_X8_closes rfl rfl rfl hd_X8_closes ⟨Nat.le_of_ble_eq_true rfl, Nat.le_of_ble_eq_true rfl⟩) rfl hl.1 rfl (Nat.le_of_ble_eq_true rfl) dX8_by_11 ⟨Nat.zero_le _, Nat.zero_le _⟩ ?_
  refine lv_istore_n (lv' := [(3, .int v3), (0, .ref h0), (1, .int n1), (2, .int n2)]) hx hb dX8_by_14 rfl hl (by decide) rfl (fun ls hl => ?_)
  refine lv_aload_n hx hb dX8_by_15 rfl (lv_at hl 1 rfl) ?_
  refine va_get (D := D) (ci := 5) (v := .ref wa) (C := RX8) (T := TX8) (N := 21) hx hb hts in_X8 hown hK hP 0 rfl rfl 5 (by decide) fl25 (fun _ h9 => h9) rfl dX8_by_16 ?_
  refine lv_iload_n hx hb dX8_by_19 rfl (lv_at hl 2 rfl) ?_
  refine lv_iconst (v := 1) hx hb dX8_by_20 (by decide) ?_
  refine lv_iload_n hx hb dX8_by_21 rfl (lv_at hl 3 rfl) ?_
  refine lv_ishl hx hb dX8_by_22 ?_
  refine lv_ior hx hb dX8_by_23 ?_
  obtain ⟨g4, hf⟩ := k_G hf
  refine va_iald hx hb hK hP 6 0 rfl rfl g4 dX8_by_24 ?_
  obtain ⟨y5, ey5, hf⟩ := k_L hf
  refine k_name ey5 ?_
  refine lv_istore (lv' := [(4, .int y5), (3, .int v3), (0, .ref h0), (1, .int n1), (2, .int n2)]) hx hb dX8_by_25 hl (by decide) rfl (fun ls hl => ?_)
  refine lv_iload_n hx hb dX8_by_27 rfl (lv_at hl 1 rfl) ?_
  refine lv_if_le (tgt := 38) hx hb dX8_by_28 (by decide) (fun c6 => ?_) (fun c6 => ?_)
  · have hf := k_T c6 hf
    refine lv_iload hx hb dX8_by_38 (lv_at hl 0 rfl) ?_
    refine lv_ineg hx hb dX8_by_40 ?_
    obtain rfl := k_some hf
    exact k_iret hx hb hr hP hD hS dX8_by_41 hlocks
  · have hf := k_F c6 hf
    refine lv_iload_n hx hb dX8_by_31 rfl (lv_at hl 1 rfl) ?_
    refine lv_iload hx hb dX8_by_32 (lv_at hl 0 rfl) ?_
    refine lv_iadd hx hb dX8_by_34 ?_
    refine lv_goto (tgt := 41) hx hb dX8_by_35 (by decide) ?_
    obtain rfl := k_some hf
    exact k_iret hx hb hr hP hD hS dX8_by_41 hlocks
def t_X8_works_21 (rS : Nat → Int32) (s21 : Int32 × Int32 × (Nat → Int32)) : Option ((Int32 × Int32 × (Nat → Int32)) ⊕ (Int32 × Int32 × (Nat → Int32))) :=
  if 31 ≤ s21.1 then
    some (.inr (s21.1, s21.2.1, s21.2.2))
  else
    (f_X8_isIn (rS 0) s21.1).bind fun v3 =>
    if v3 = 0 then
      if s21.2.1 < 0 ∨ 31 ≤ s21.2.1.toNatClampNeg then none else
      k_let (upd s21.2.2 s21.2.1.toNatClampNeg s21.1) fun w6 =>
      k_let (s21.2.1 + 1) fun y7 =>
      some (.inl (s21.1 + 1, y7, w6))
    else
      some (.inl (s21.1 + 1, s21.2.1, s21.2.2))
def t_X8_works_96 (b2 : Int32) (mOp : Int32) (rS : Nat → Int32) (rO : Nat → Int32) (rW : Nat → Int32) (s96 : Int32 × Int32) : Option ((Int32 × Int32) ⊕ (Int32 × Int32)) :=
  if mOp ≤ s96.2 then
    some (.inr (s96.1, s96.2))
  else
    (f_X8_isIn b2 s96.2).bind fun v15 =>
    if v15 = 0 then
      (f_X8_by b2 s96.2 mOp rS rO rW).bind fun v17 =>
      if v17 ≤ s96.1 then
        some (.inl (s96.1, s96.2 + 1))
      else
        some (.inl (v17, s96.2 + 1))
    else
      if (-99) ≤ s96.1 then
        some (.inl (s96.1, s96.2 + 1))
      else
        some (.inl ((-99), s96.2 + 1))
def t_X8_works_86 (mOp : Int32) (rS : Nat → Int32) (rO : Nat → Int32) (s86 : Int32 × (Nat → Int32)) : Option ((Int32 × (Nat → Int32)) ⊕ (Int32 × (Nat → Int32))) :=
  if s86.1 < 0 then
    some (.inr (s86.1, s86.2))
  else
    (k_loop (t_X8_works_96 s86.1 mOp rS rO s86.2) 1000 ((-99), 0)).bind fun x20 =>
    if s86.1 < 0 ∨ 256 ≤ s86.1.toNatClampNeg then none else
    k_let (upd s86.2 s86.1.toNatClampNeg x20.1) fun w22 =>
    some (.inl (s86.1 + (-1), w22))
def f_X8_works (mOp : Int32) (rS : Nat → Int32) (rO : Nat → Int32) (rW : Nat → Int32) : Option (Int32 × Int32 × (Nat → Int32) × (Nat → Int32)) :=
  if 23 ≤ (rS 18) then
    (k_loop (t_X8_works_21 rS) 1000 (0, 0, rO)).bind fun x8 =>
    k_let (((1 : Int32) <<< (x8.2.1 &&& 31)) - 1) fun y9 =>
    if y9 < 0 ∨ 256 ≤ y9.toNatClampNeg then none else
    k_let (upd rW y9.toNatClampNeg 0) fun w11 =>
    k_let (y9 - 1) fun y12 =>
    (k_loop (t_X8_works_86 x8.2.1 rS x8.2.2) 1000 (y12, w11)).bind fun x23 =>
    some (1, x8.2.1, x8.2.2, x23.2)
  else
    some (0, 0, rO, rW)
abbrev rm_X8_works : Room := { frames := 4, cells := 0, slots := 0, locals := 90 }
theorem hd_X8_works : yX8_works.cls = RX8 ∧ yX8_works.cls ≠ "java/lang/invoke/MethodHandle" ∧ yX8_works.cls ≠ "java/lang/invoke/VarHandle" ∧ (parseMethodDescriptor yX8_works.desc).map (fun d => d.parameters.length) = some 0 := by decide +kernel
set_option maxHeartbeats 4000000 in
set_option maxRecDepth 100000 in
theorem c_X8_works (l : Launch) (D : va_G) (cy : Nat → ClassId) (h0 sa pa ka aa oa wa ca ta na : Nat) (mOp : Int32) (mIk : Int32) (mPa : Int32) (mRu : Int32) (mLa : Int32) (mTy : Int32) (mSp : Int32) (mFr : Int32) (mRe : Int32) (mCa : Int32) (mOr : Int32) (mLe : Int32) (rS : Nat → Int32) (rP : Nat → Int32) (rK : Nat → Int32) (rA : Nat → Int32) (rO : Nat → Int32) (rW : Nat → Int32) (rC : Nat → Int32) (rT : Nat → Int32) (rN : Nat → Int32)  (r : Int32 × Int32 × (Nat → Int32) × (Nat → Int32)) (hf : f_X8_works mOp rS rO rW = some r) : k_HMet l yX8_works wsX8_works rm_X8_works D (k_tys cy) [.ref h0] (wX8 cy h0 sa pa ka aa oa wa ca ta na mOp mIk mPa mRu mLa mTy mSp mFr mRe mCa mOr mLe rS rP rK rA rO rW rC rT rN) (some (.int r.1)) (wX8 cy h0 sa pa ka aa oa wa ca ta na r.2.1 mIk mPa mRu mLa mTy mSp mFr mRe mCa mOr mLe rS rP rK rA r.2.2.1 r.2.2.2 rC rT rN) := by
  refine k_heapOf (cc := cX8_works) (maxL := 6) (ret := (some .boolean)) (by decide) rfl (Nat.le_of_ble_eq_true rfl) ?_
  intro p e s m args below meth c ls A hx hb hr hlocks hml hown hts hl hA hK hP hD hN
  have hl : lv_has ls 6 [(0, .ref h0)] := hl
  have hS : va_S A s.heap s.heap [] := va_S.rf
  have in_X8 : ∀ w ∈ wsX80, w ∈ wsX8_works := by decide +kernel
  have fl7 := hts (.fieldLink RX8 7 "FencedBoxesModel" "s" "[I") (by decide +kernel)
  have fl22 := hts (.fieldLink RX8 22 "FencedBoxesModel" "open" "[I") (by decide +kernel)
  have fl25 := hts (.fieldLink RX8 25 "FencedBoxesModel" "worth" "[I") (by decide +kernel)
  have fl132 := hts (.fieldLink RX8 132 "FencedBoxesModel" "opens" "I") (by decide +kernel)
  have L21 : ∀ (Q : State → Prop) (n : Nat) (mIk : Int32) (mPa : Int32) (mRu : Int32) (mLa : Int32) (mTy : Int32) (mSp : Int32) (mFr : Int32) (mRe : Int32) (mCa : Int32) (mOr : Int32) (mLe : Int32) (rS : Nat → Int32) (rP : Nat → Int32) (rK : Nat → Int32) (rA : Nat → Int32) (rW : Nat → Int32) (rC : Nat → Int32) (rT : Nat → Int32) (rN : Nat → Int32) (s21 : Int32 × Int32 × (Nat → Int32)) (q : (Int32 × Int32 × (Nat → Int32))), k_loop (t_X8_works_21 rS) n s21 = some q → ∀ (ls : Array Slot) (H : Heap) (locs : List Loc), lv_has ls 6 [(0, .ref h0), (1, .int s21.1)] → va_P D vwCl (wX8 cy h0 sa pa ka aa oa wa ca ta na s21.2.1 mIk mPa mRu mLa mTy mSp mFr mRe mCa mOr mLe rS rP rK rA s21.2.2 rW rC rT rN) H → va_D A (wX8 cy h0 sa pa ka aa oa wa ca ta na s21.2.1 mIk mPa mRu mLa mTy mSp mFr mRe mCa mOr mLe rS rP rK rA s21.2.2 rW rC rT rN) → va_S A s.heap H locs → (∀ (ls : Array Slot) (H : Heap) (locs : List Loc), True → lv_has ls 6 [(0, .ref h0)] → va_P D vwCl (wX8 cy h0 sa pa ka aa oa wa ca ta na q.2.1 mIk mPa mRu mLa mTy mSp mFr mRe mCa mOr mLe rS rP rK rA q.2.2 rW rC rT rN) H → va_D A (wX8 cy h0 sa pa ka aa oa wa ca ta na q.2.1 mIk mPa mRu mLa mTy mSp mFr mRe mCa mOr mLe rS rP rK rA q.2.2 rW rC rT rN) → va_S A s.heap H locs → W p l e rm_X8_works s m args below meth c H locs 0 0 Q (F0 m 66 ls [])) → W p l e rm_X8_works s m args below meth c H locs 0 0 Q (F0 m 21 ls []) := by
    intro Q n
    induction n with
    | zero =>
      intro mIk mPa mRu mLa mTy mSp mFr mRe mCa mOr mLe rS rP rK rA rW rC rT rN s21 q hq
      exact (k_loop0 hq).elim
    | succ n ih =>
      intro mIk mPa mRu mLa mTy mSp mFr mRe mCa mOr mLe rS rP rK rA rW rC rT rN s21 q hq ls H locs hl hP hD hS kx 
      obtain ⟨x, hf, hq⟩ := k_loopE hq
      unfold t_X8_works_21 at hf
      refine lv_iload_n hx hb dX8_works_21 rfl (lv_at hl 1 rfl) ?_
      refine lv_bipush (v := 31) hx hb dX8_works_22 (by decide) ?_
      refine lv_icmp_ge (tgt := 66) hx hb dX8_works_24 (by decide) (fun c2 => ?_) (fun c2 => ?_)
      · have hf := k_T c2 hf
        obtain rfl := k_some hf
        obtain rfl := k_some (k_inr hq)
        exact kx ls H locs trivial (lv_sub hl [0] rfl) hP hD hS
      · have hf := k_F c2 hf
        refine lv_aload_n hx hb dX8_works_27 rfl (lv_at hl 0 rfl) ?_
        refine va_get (D := D) (ci := 5) (v := .ref sa) (C := RX8) (T := TX8) (N := 21) hx hb hts in_X8 hown hK hP 0 rfl rfl 0 (by decide) fl7 (fun _ h9 => h9) rfl dX8_works_28 ?_
        refine lv_iconst (v := 0) hx hb dX8_works_31 (by decide) ?_
        refine va_iald hx hb hK hP 1 0 rfl rfl (k_in (i := 0) (n := 19) (by decide +kernel)) dX8_works_32 ?_
        refine k_name (v := rS 0) rfl ?_
        refine lv_iload_n hx hb dX8_works_33 rfl (lv_at hl 1 rfl) ?_
        obtain ⟨v3, hv3, hf⟩ := k_B hf
        refine k_callS (As := [.int (rS 0), .int s21.1]) (rest := []) ⟨hx, hb, hml, hown, hts⟩ (c_X8_isIn l (rS 0) s21.1 v3 hv3) (va_cwS 2 hts gX8_works_X8_isIn rfl rfl rfl hd_X8_isIn ⟨Nat.le_of_ble_eq_true rfl, Nat.le_of_ble_eq_true rfl⟩) rfl hl.1 rfl (Nat.le_of_ble_eq_true rfl) dX8_works_34 ⟨Nat.zero_le _, Nat.zero_le _⟩ ?_
        refine lv_if_ne (tgt := 60) hx hb dX8_works_37 (by decide) (fun c4 => ?_) (fun c4 => ?_)
        · have hf := k_F c4 hf
          refine lv_iinc (v := s21.1 + 1) (lv' := [(1, .int (s21.1 + 1)), (0, .ref h0)]) hx hb dX8_works_60 hl (k := 1) rfl rfl (by decide) rfl (fun ls hl => ?_)
          refine lv_goto (tgt := 21) hx hb dX8_works_63 (by decide) ?_
          obtain rfl := k_some hf
          exact ih mIk mPa mRu mLa mTy mSp mFr mRe mCa mOr mLe rS rP rK rA rW rC rT rN (s21.1 + 1, s21.2.1, s21.2.2) q (k_inl hq) ls H locs (lv_sub hl [1, 0] rfl) hP hD hS kx 
        · have hf := k_T c4 hf
          refine lv_aload_n hx hb dX8_works_40 rfl (lv_at hl 0 rfl) ?_
          refine va_get (D := D) (ci := 5) (v := .ref oa) (C := RX8) (T := TX8) (N := 21) hx hb hts in_X8 hown hK hP 0 rfl rfl 4 (by decide) fl22 (fun _ h9 => h9) rfl dX8_works_41 ?_
          refine lv_aload_n hx hb dX8_works_44 rfl (lv_at hl 0 rfl) ?_
          refine va_get (D := D) (ci := 5) (v := .int s21.2.1) (C := RX8) (T := TX8) (N := 21) hx hb hts in_X8 hown hK hP 0 rfl rfl 7 (by decide) fl132 (fun _ h9 => h9) rfl dX8_works_45 ?_
          refine lv_iload_n hx hb dX8_works_48 rfl (lv_at hl 1 rfl) ?_
          obtain ⟨g5, hf⟩ := k_G hf
          refine va_iast hx hb hK hP hD hS 5 0 rfl rfl g5 dX8_works_49 (fun H locs hP hD hS => ?_)
          obtain ⟨w6, ew6, hf⟩ := k_L hf
          have hP : va_P D vwCl (wX8 cy h0 sa pa ka aa oa wa ca ta na s21.2.1 mIk mPa mRu mLa mTy mSp mFr mRe mCa mOr mLe rS rP rK rA w6 rW rC rT rN) H := by rw [ew6]; exact hP
          have hD : va_D A (wX8 cy h0 sa pa ka aa oa wa ca ta na s21.2.1 mIk mPa mRu mLa mTy mSp mFr mRe mCa mOr mLe rS rP rK rA w6 rW rC rT rN) := by rw [ew6]; exact hD
          refine lv_aload_n hx hb dX8_works_50 rfl (lv_at hl 0 rfl) ?_
          refine lv_dup hx hb dX8_works_51 rfl ?_
          refine va_get (D := D) (ci := 5) (v := .int s21.2.1) (C := RX8) (T := TX8) (N := 21) hx hb hts in_X8 hown hK hP 0 rfl rfl 7 (by decide) fl132 (fun _ h9 => h9) rfl dX8_works_52 ?_
          refine lv_iconst (v := 1) hx hb dX8_works_55 (by decide) ?_
          refine lv_iadd hx hb dX8_works_56 ?_
          obtain ⟨y7, ey7, hf⟩ := k_L hf
          refine k_name ey7 ?_
          refine va_put (D := D) (ci := 5) (v := .int y7) (ty := .int) (C := RX8) (T := TX8) (N := 21) hx hb hts in_X8 tyX8 tyX8_ok nmX8 hown hK hP hD hS 0 rfl rfl 7 (by decide) fl132 (fun _ h9 => h9) rfl (by decide +kernel) rfl rfl (Nat.le_of_ble_eq_true rfl) dX8_works_57 (fun H locs hP hD hS => ?_)
          have hP : va_P D vwCl (wX8 cy h0 sa pa ka aa oa wa ca ta na y7 mIk mPa mRu mLa mTy mSp mFr mRe mCa mOr mLe rS rP rK rA w6 rW rC rT rN) H := hP
          have hD : va_D A (wX8 cy h0 sa pa ka aa oa wa ca ta na y7 mIk mPa mRu mLa mTy mSp mFr mRe mCa mOr mLe rS rP rK rA w6 rW rC rT rN) := hD
          refine lv_iinc (v := s21.1 + 1) (lv' := [(1, .int (s21.1 + 1)), (0, .ref h0)]) hx hb dX8_works_60 hl (k := 1) rfl rfl (by decide) rfl (fun ls hl => ?_)
          refine lv_goto (tgt := 21) hx hb dX8_works_63 (by decide) ?_
          obtain rfl := k_some hf
          exact ih mIk mPa mRu mLa mTy mSp mFr mRe mCa mOr mLe rS rP rK rA rW rC rT rN (s21.1 + 1, y7, w6) q (k_inl hq) ls H locs (lv_sub hl [1, 0] rfl) hP hD hS kx 
  have L96 : ∀ (Q : State → Prop) (n : Nat) (b2 : Int32) (mOp : Int32) (mIk : Int32) (mPa : Int32) (mRu : Int32) (mLa : Int32) (mTy : Int32) (mSp : Int32) (mFr : Int32) (mRe : Int32) (mCa : Int32) (mOr : Int32) (mLe : Int32) (rS : Nat → Int32) (rP : Nat → Int32) (rK : Nat → Int32) (rA : Nat → Int32) (rO : Nat → Int32) (rW : Nat → Int32) (rC : Nat → Int32) (rT : Nat → Int32) (rN : Nat → Int32) (s96 : Int32 × Int32) (q : (Int32 × Int32)), k_loop (t_X8_works_96 b2 mOp rS rO rW) n s96 = some q → ∀ (ls : Array Slot) (H : Heap) (locs : List Loc), lv_has ls 6 [(0, .ref h0), (2, .int b2), (3, .int s96.1), (4, .int s96.2)] → va_P D vwCl (wX8 cy h0 sa pa ka aa oa wa ca ta na mOp mIk mPa mRu mLa mTy mSp mFr mRe mCa mOr mLe rS rP rK rA rO rW rC rT rN) H → va_D A (wX8 cy h0 sa pa ka aa oa wa ca ta na mOp mIk mPa mRu mLa mTy mSp mFr mRe mCa mOr mLe rS rP rK rA rO rW rC rT rN) → va_S A s.heap H locs → (∀ (ls : Array Slot) (H : Heap) (locs : List Loc), True → lv_has ls 6 [(0, .ref h0), (2, .int b2), (3, .int q.1)] → va_P D vwCl (wX8 cy h0 sa pa ka aa oa wa ca ta na mOp mIk mPa mRu mLa mTy mSp mFr mRe mCa mOr mLe rS rP rK rA rO rW rC rT rN) H → va_D A (wX8 cy h0 sa pa ka aa oa wa ca ta na mOp mIk mPa mRu mLa mTy mSp mFr mRe mCa mOr mLe rS rP rK rA rO rW rC rT rN) → va_S A s.heap H locs → W p l e rm_X8_works s m args below meth c H locs 0 0 Q (F0 m 147 ls [])) → W p l e rm_X8_works s m args below meth c H locs 0 0 Q (F0 m 96 ls []) := by
    intro Q n
    induction n with
    | zero =>
      intro b2 mOp mIk mPa mRu mLa mTy mSp mFr mRe mCa mOr mLe rS rP rK rA rO rW rC rT rN s96 q hq
      exact (k_loop0 hq).elim
    | succ n ih =>
      intro b2 mOp mIk mPa mRu mLa mTy mSp mFr mRe mCa mOr mLe rS rP rK rA rO rW rC rT rN s96 q hq ls H locs hl hP hD hS kx 
      obtain ⟨x, hf, hq⟩ := k_loopE hq
      unfold t_X8_works_96 at hf
      refine lv_iload hx hb dX8_works_96 (lv_at hl 3 rfl) ?_
      refine lv_aload_n hx hb dX8_works_98 rfl (lv_at hl 0 rfl) ?_
      refine va_get (D := D) (ci := 5) (v := .int mOp) (C := RX8) (T := TX8) (N := 21) hx hb hts in_X8 hown hK hP 0 rfl rfl 7 (by decide) fl132 (fun _ h9 => h9) rfl dX8_works_99 ?_
      refine lv_icmp_ge (tgt := 147) hx hb dX8_works_102 (by decide) (fun c14 => ?_) (fun c14 => ?_)
      · have hf := k_T c14 hf
        obtain rfl := k_some hf
        obtain rfl := k_some (k_inr hq)
        exact kx ls H locs trivial (lv_sub hl [0, 1, 2] rfl) hP hD hS
      · have hf := k_F c14 hf
        refine lv_iload_n hx hb dX8_works_105 rfl (lv_at hl 1 rfl) ?_
        refine lv_iload hx hb dX8_works_106 (lv_at hl 3 rfl) ?_
        obtain ⟨v15, hv15, hf⟩ := k_B hf
        refine k_callS (As := [.int b2, .int s96.2]) (rest := []) ⟨hx, hb, hml, hown, hts⟩ (c_X8_isIn l b2 s96.2 v15 hv15) (va_cwS 2 hts gX8_works_X8_isIn rfl rfl rfl hd_X8_isIn ⟨Nat.le_of_ble_eq_true rfl, Nat.le_of_ble_eq_true rfl⟩) rfl hl.1 rfl (Nat.le_of_ble_eq_true rfl) dX8_works_108 ⟨Nat.zero_le _, Nat.zero_le _⟩ ?_
        refine lv_if_eq (tgt := 119) hx hb dX8_works_111 (by decide) (fun c16 => ?_) (fun c16 => ?_)
        · have hf := k_T c16 hf
          refine lv_aload_n hx hb dX8_works_119 rfl (lv_at hl 0 rfl) ?_
          refine lv_iload_n hx hb dX8_works_120 rfl (lv_at hl 1 rfl) ?_
          refine lv_iload hx hb dX8_works_121 (lv_at hl 3 rfl) ?_
          obtain ⟨v17, hv17, hf⟩ := k_B hf
          refine k_callHV (As := [.int b2, .int s96.2]) (rest := []) (r := (RX8, TX8, 21)) (ci := 5) (q0 := 0) (isC := [0, 1, 2, 3, 4, 5, 6, 7, 8, 9]) (isR := []) (perm := [0, 1, 2, 3, 4, 5, 6, 7, 8, 9]) (w' := (wX8 cy h0 sa pa ka aa oa wa ca ta na mOp mIk mPa mRu mLa mTy mSp mFr mRe mCa mOr mLe rS rP rK rA rO rW rC rT rN)) ⟨hx, hb, hml, hown, hts⟩ (c_X8_by l D cy h0 sa pa ka aa oa wa ca ta na mOp mIk mPa mRu mLa mTy mSp mFr mRe mCa mOr mLe rS rP rK rA rO rW rC rT rN b2 s96.2 v17 hv17) (cwV 2 hts gX8_works_X8_by rfl rfl rfl hd_X8_by ⟨Nat.le_of_ble_eq_true rfl, Nat.le_of_ble_eq_true rfl⟩) hK hN hP hD hS hA rfl rfl rfl rfl rfl rfl (by decide) rfl rfl rfl hl.1 rfl (Nat.le_of_ble_eq_true rfl) dX8_works_123 ⟨Nat.zero_le _, Nat.zero_le _⟩ (fun H locs hP hD hS => ?_)
          refine lv_istore (lv' := [(5, .int v17), (0, .ref h0), (2, .int b2), (3, .int s96.1), (4, .int s96.2)]) hx hb dX8_works_126 hl (by decide) rfl (fun ls hl => ?_)
          refine lv_iload hx hb dX8_works_128 (lv_at hl 0 rfl) ?_
          refine lv_iload_n hx hb dX8_works_130 rfl (lv_at hl 3 rfl) ?_
          refine lv_icmp_le (tgt := 139) hx hb dX8_works_131 (by decide) (fun c18 => ?_) (fun c18 => ?_)
          · have hf := k_T c18 hf
            refine lv_iload_n hx hb dX8_works_139 rfl (lv_at hl 3 rfl) ?_
            refine lv_istore_n (lv' := [(3, .int s96.1), (5, .int v17), (0, .ref h0), (2, .int b2), (4, .int s96.2)]) hx hb dX8_works_140 rfl hl (by decide) rfl (fun ls hl => ?_)
            refine lv_iinc (v := s96.2 + 1) (lv' := [(4, .int (s96.2 + 1)), (3, .int s96.1), (5, .int v17), (0, .ref h0), (2, .int b2)]) hx hb dX8_works_141 hl (k := 4) rfl rfl (by decide) rfl (fun ls hl => ?_)
            refine lv_goto (tgt := 96) hx hb dX8_works_144 (by decide) ?_
            obtain rfl := k_some hf
            exact ih b2 mOp mIk mPa mRu mLa mTy mSp mFr mRe mCa mOr mLe rS rP rK rA rO rW rC rT rN (s96.1, s96.2 + 1) q (k_inl hq) ls H locs (lv_sub hl [3, 4, 1, 0] rfl) hP hD hS kx 
          · have hf := k_F c18 hf
            refine lv_iload hx hb dX8_works_134 (lv_at hl 0 rfl) ?_
            refine lv_goto (tgt := 140) hx hb dX8_works_136 (by decide) ?_
            refine lv_istore_n (lv' := [(3, .int v17), (5, .int v17), (0, .ref h0), (2, .int b2), (4, .int s96.2)]) hx hb dX8_works_140 rfl hl (by decide) rfl (fun ls hl => ?_)
            refine lv_iinc (v := s96.2 + 1) (lv' := [(4, .int (s96.2 + 1)), (3, .int v17), (5, .int v17), (0, .ref h0), (2, .int b2)]) hx hb dX8_works_141 hl (k := 4) rfl rfl (by decide) rfl (fun ls hl => ?_)
            refine lv_goto (tgt := 96) hx hb dX8_works_144 (by decide) ?_
            obtain rfl := k_some hf
            exact ih b2 mOp mIk mPa mRu mLa mTy mSp mFr mRe mCa mOr mLe rS rP rK rA rO rW rC rT rN (v17, s96.2 + 1) q (k_inl hq) ls H locs (lv_sub hl [3, 4, 1, 0] rfl) hP hD hS kx 
        · have hf := k_F c16 hf
          refine lv_bipush (v := (-99)) hx hb dX8_works_114 (by decide) ?_
          refine lv_goto (tgt := 126) hx hb dX8_works_116 (by decide) ?_
          refine lv_istore (lv' := [(5, .int (-99)), (0, .ref h0), (2, .int b2), (3, .int s96.1), (4, .int s96.2)]) hx hb dX8_works_126 hl (by decide) rfl (fun ls hl => ?_)
          refine lv_iload hx hb dX8_works_128 (lv_at hl 0 rfl) ?_
          refine lv_iload_n hx hb dX8_works_130 rfl (lv_at hl 3 rfl) ?_
          refine lv_icmp_le (tgt := 139) hx hb dX8_works_131 (by decide) (fun c19 => ?_) (fun c19 => ?_)
          · have hf := k_T c19 hf
            refine lv_iload_n hx hb dX8_works_139 rfl (lv_at hl 3 rfl) ?_
            refine lv_istore_n (lv' := [(3, .int s96.1), (5, .int (-99)), (0, .ref h0), (2, .int b2), (4, .int s96.2)]) hx hb dX8_works_140 rfl hl (by decide) rfl (fun ls hl => ?_)
            refine lv_iinc (v := s96.2 + 1) (lv' := [(4, .int (s96.2 + 1)), (3, .int s96.1), (5, .int (-99)), (0, .ref h0), (2, .int b2)]) hx hb dX8_works_141 hl (k := 4) rfl rfl (by decide) rfl (fun ls hl => ?_)
            refine lv_goto (tgt := 96) hx hb dX8_works_144 (by decide) ?_
            obtain rfl := k_some hf
            exact ih b2 mOp mIk mPa mRu mLa mTy mSp mFr mRe mCa mOr mLe rS rP rK rA rO rW rC rT rN (s96.1, s96.2 + 1) q (k_inl hq) ls H locs (lv_sub hl [3, 4, 1, 0] rfl) hP hD hS kx 
          · have hf := k_F c19 hf
            refine lv_iload hx hb dX8_works_134 (lv_at hl 0 rfl) ?_
            refine lv_goto (tgt := 140) hx hb dX8_works_136 (by decide) ?_
            refine lv_istore_n (lv' := [(3, .int (-99)), (5, .int (-99)), (0, .ref h0), (2, .int b2), (4, .int s96.2)]) hx hb dX8_works_140 rfl hl (by decide) rfl (fun ls hl => ?_)
            refine lv_iinc (v := s96.2 + 1) (lv' := [(4, .int (s96.2 + 1)), (3, .int (-99)), (5, .int (-99)), (0, .ref h0), (2, .int b2)]) hx hb dX8_works_141 hl (k := 4) rfl rfl (by decide) rfl (fun ls hl => ?_)
            refine lv_goto (tgt := 96) hx hb dX8_works_144 (by decide) ?_
            obtain rfl := k_some hf
            exact ih b2 mOp mIk mPa mRu mLa mTy mSp mFr mRe mCa mOr mLe rS rP rK rA rO rW rC rT rN ((-99), s96.2 + 1) q (k_inl hq) ls H locs (lv_sub hl [3, 4, 1, 0] rfl) hP hD hS kx 
  have L86 : ∀ (Q : State → Prop) (n : Nat) (mOp : Int32) (mIk : Int32) (mPa : Int32) (mRu : Int32) (mLa : Int32) (mTy : Int32) (mSp : Int32) (mFr : Int32) (mRe : Int32) (mCa : Int32) (mOr : Int32) (mLe : Int32) (rS : Nat → Int32) (rP : Nat → Int32) (rK : Nat → Int32) (rA : Nat → Int32) (rO : Nat → Int32) (rC : Nat → Int32) (rT : Nat → Int32) (rN : Nat → Int32) (s86 : Int32 × (Nat → Int32)) (q : (Int32 × (Nat → Int32))), k_loop (t_X8_works_86 mOp rS rO) n s86 = some q → ∀ (ls : Array Slot) (H : Heap) (locs : List Loc), lv_has ls 6 [(0, .ref h0), (2, .int s86.1)] → va_P D vwCl (wX8 cy h0 sa pa ka aa oa wa ca ta na mOp mIk mPa mRu mLa mTy mSp mFr mRe mCa mOr mLe rS rP rK rA rO s86.2 rC rT rN) H → va_D A (wX8 cy h0 sa pa ka aa oa wa ca ta na mOp mIk mPa mRu mLa mTy mSp mFr mRe mCa mOr mLe rS rP rK rA rO s86.2 rC rT rN) → va_S A s.heap H locs → (∀ (ls : Array Slot) (H : Heap) (locs : List Loc), True → lv_has ls 6 [] → va_P D vwCl (wX8 cy h0 sa pa ka aa oa wa ca ta na mOp mIk mPa mRu mLa mTy mSp mFr mRe mCa mOr mLe rS rP rK rA rO q.2 rC rT rN) H → va_D A (wX8 cy h0 sa pa ka aa oa wa ca ta na mOp mIk mPa mRu mLa mTy mSp mFr mRe mCa mOr mLe rS rP rK rA rO q.2 rC rT rN) → va_S A s.heap H locs → W p l e rm_X8_works s m args below meth c H locs 0 0 Q (F0 m 160 ls [])) → W p l e rm_X8_works s m args below meth c H locs 0 0 Q (F0 m 86 ls []) := by
    intro Q n
    induction n with
    | zero =>
      intro mOp mIk mPa mRu mLa mTy mSp mFr mRe mCa mOr mLe rS rP rK rA rO rC rT rN s86 q hq
      exact (k_loop0 hq).elim
    | succ n ih =>
      intro mOp mIk mPa mRu mLa mTy mSp mFr mRe mCa mOr mLe rS rP rK rA rO rC rT rN s86 q hq ls H locs hl hP hD hS kx 
      obtain ⟨x, hf, hq⟩ := k_loopE hq
      unfold t_X8_works_86 at hf
      refine lv_iload_n hx hb dX8_works_86 rfl (lv_at hl 1 rfl) ?_
      refine lv_if_lt (tgt := 160) hx hb dX8_works_87 (by decide) (fun c13 => ?_) (fun c13 => ?_)
      · have hf := k_T c13 hf
        obtain rfl := k_some hf
        obtain rfl := k_some (k_inr hq)
        exact kx ls H locs trivial (lv_sub hl [] rfl) hP hD hS
      · have hf := k_F c13 hf
        refine lv_bipush (v := (-99)) hx hb dX8_works_90 (by decide) ?_
        refine lv_istore_n (lv' := [(3, .int (-99)), (0, .ref h0), (2, .int s86.1)]) hx hb dX8_works_92 rfl hl (by decide) rfl (fun ls hl => ?_)
        refine lv_iconst (v := 0) hx hb dX8_works_93 (by decide) ?_
        refine lv_istore (lv' := [(4, .int 0), (3, .int (-99)), (0, .ref h0), (2, .int s86.1)]) hx hb dX8_works_94 hl (by decide) rfl (fun ls hl => ?_)
        obtain ⟨x20, hx20, hf⟩ := k_B hf
        refine L96 _ 1000 s86.1 mOp mIk mPa mRu mLa mTy mSp mFr mRe mCa mOr mLe rS rP rK rA rO s86.2 rC rT rN ((-99), 0) x20 hx20 ls H locs (lv_sub hl [2, 3, 1, 0] rfl) hP hD hS ?_
        · intro ls H locs _ hl hP hD hS
          refine lv_aload_n hx hb dX8_works_147 rfl (lv_at hl 0 rfl) ?_
          refine va_get (D := D) (ci := 5) (v := .ref wa) (C := RX8) (T := TX8) (N := 21) hx hb hts in_X8 hown hK hP 0 rfl rfl 5 (by decide) fl25 (fun _ h9 => h9) rfl dX8_works_148 ?_
          refine lv_iload_n hx hb dX8_works_151 rfl (lv_at hl 1 rfl) ?_
          refine lv_iload_n hx hb dX8_works_152 rfl (lv_at hl 2 rfl) ?_
          obtain ⟨g21, hf⟩ := k_G hf
          refine va_iast hx hb hK hP hD hS 6 0 rfl rfl g21 dX8_works_153 (fun H locs hP hD hS => ?_)
          obtain ⟨w22, ew22, hf⟩ := k_L hf
          have hP : va_P D vwCl (wX8 cy h0 sa pa ka aa oa wa ca ta na mOp mIk mPa mRu mLa mTy mSp mFr mRe mCa mOr mLe rS rP rK rA rO w22 rC rT rN) H := by rw [ew22]; exact hP
          have hD : va_D A (wX8 cy h0 sa pa ka aa oa wa ca ta na mOp mIk mPa mRu mLa mTy mSp mFr mRe mCa mOr mLe rS rP rK rA rO w22 rC rT rN) := by rw [ew22]; exact hD
          refine lv_iinc (v := s86.1 + (-1)) (lv' := [(2, .int (s86.1 + (-1))), (0, .ref h0), (3, .int x20.1)]) hx hb dX8_works_154 hl (k := 1) rfl rfl (by decide) rfl (fun ls hl => ?_)
          refine lv_goto (tgt := 86) hx hb dX8_works_157 (by decide) ?_
          obtain rfl := k_some hf
          exact ih mOp mIk mPa mRu mLa mTy mSp mFr mRe mCa mOr mLe rS rP rK rA rO rC rT rN (s86.1 + (-1), w22) q (k_inl hq) ls H locs (lv_sub hl [1, 0] rfl) hP hD hS kx 
  unfold f_X8_works at hf
  obtain ⟨H, eH⟩ : ∃ H, H = s.heap := ⟨_, rfl⟩
  obtain ⟨locs, elocs⟩ : ∃ L : List Loc, L = [] := ⟨_, rfl⟩
  have hP : va_P D vwCl (wX8 cy h0 sa pa ka aa oa wa ca ta na mOp mIk mPa mRu mLa mTy mSp mFr mRe mCa mOr mLe rS rP rK rA rO rW rC rT rN) H := by rw [eH]; exact hP
  have hS : va_S A s.heap H locs := by rw [eH, elocs]; exact hS
  refine k_here eH elocs ?_
  refine lv_aload_n hx hb dX8_works_0 rfl (lv_at hl 0 rfl) ?_
  refine lv_iconst (v := 0) hx hb dX8_works_1 (by decide) ?_
  refine va_put (D := D) (ci := 5) (v := .int 0) (ty := .int) (C := RX8) (T := TX8) (N := 21) hx hb hts in_X8 tyX8 tyX8_ok nmX8 hown hK hP hD hS 0 rfl rfl 7 (by decide) fl132 (fun _ h9 => h9) rfl (by decide +kernel) rfl rfl (Nat.le_of_ble_eq_true rfl) dX8_works_2 (fun H locs hP hD hS => ?_)
  have hP : va_P D vwCl (wX8 cy h0 sa pa ka aa oa wa ca ta na 0 mIk mPa mRu mLa mTy mSp mFr mRe mCa mOr mLe rS rP rK rA rO rW rC rT rN) H := hP
  have hD : va_D A (wX8 cy h0 sa pa ka aa oa wa ca ta na 0 mIk mPa mRu mLa mTy mSp mFr mRe mCa mOr mLe rS rP rK rA rO rW rC rT rN) := hD
  refine lv_aload_n hx hb dX8_works_5 rfl (lv_at hl 0 rfl) ?_
  refine va_get (D := D) (ci := 5) (v := .ref sa) (C := RX8) (T := TX8) (N := 21) hx hb hts in_X8 hown hK hP 0 rfl rfl 0 (by decide) fl7 (fun _ h9 => h9) rfl dX8_works_6 ?_
  refine lv_bipush (v := 18) hx hb dX8_works_9 (by decide) ?_
  refine va_iald hx hb hK hP 1 0 rfl rfl (k_in (i := 18) (n := 19) (by decide +kernel)) dX8_works_11 ?_
  refine k_name (v := rS 18) rfl ?_
  refine lv_bipush (v := 23) hx hb dX8_works_12 (by decide) ?_
  refine lv_icmp_ge (tgt := 19) hx hb dX8_works_14 (by decide) (fun c1 => ?_) (fun c1 => ?_)
  · have hf := k_T c1 hf
    refine lv_iconst (v := 0) hx hb dX8_works_19 (by decide) ?_
    refine lv_istore_n (lv' := [(1, .int 0), (0, .ref h0)]) hx hb dX8_works_20 rfl hl (by decide) rfl (fun ls hl => ?_)
    obtain ⟨x8, hx8, hf⟩ := k_B hf
    refine L21 _ 1000 mIk mPa mRu mLa mTy mSp mFr mRe mCa mOr mLe rS rP rK rA rW rC rT rN (0, 0, rO) x8 hx8 ls H locs (lv_sub hl [1, 0] rfl) hP hD hS ?_
    · intro ls H locs _ hl hP hD hS
      refine lv_iconst (v := 1) hx hb dX8_works_66 (by decide) ?_
      refine lv_aload_n hx hb dX8_works_67 rfl (lv_at hl 0 rfl) ?_
      refine va_get (D := D) (ci := 5) (v := .int x8.2.1) (C := RX8) (T := TX8) (N := 21) hx hb hts in_X8 hown hK hP 0 rfl rfl 7 (by decide) fl132 (fun _ h9 => h9) rfl dX8_works_68 ?_
      refine lv_ishl hx hb dX8_works_71 ?_
      refine lv_iconst (v := 1) hx hb dX8_works_72 (by decide) ?_
      refine lv_isub hx hb dX8_works_73 ?_
      obtain ⟨y9, ey9, hf⟩ := k_L hf
      refine k_name ey9 ?_
      refine lv_istore_n (lv' := [(1, .int y9), (0, .ref h0)]) hx hb dX8_works_74 rfl hl (by decide) rfl (fun ls hl => ?_)
      refine lv_aload_n hx hb dX8_works_75 rfl (lv_at hl 1 rfl) ?_
      refine va_get (D := D) (ci := 5) (v := .ref wa) (C := RX8) (T := TX8) (N := 21) hx hb hts in_X8 hown hK hP 0 rfl rfl 5 (by decide) fl25 (fun _ h9 => h9) rfl dX8_works_76 ?_
      refine lv_iload_n hx hb dX8_works_79 rfl (lv_at hl 0 rfl) ?_
      refine lv_iconst (v := 0) hx hb dX8_works_80 (by decide) ?_
      obtain ⟨g10, hf⟩ := k_G hf
      refine va_iast hx hb hK hP hD hS 6 0 rfl rfl g10 dX8_works_81 (fun H locs hP hD hS => ?_)
      obtain ⟨w11, ew11, hf⟩ := k_L hf
      have hP : va_P D vwCl (wX8 cy h0 sa pa ka aa oa wa ca ta na x8.2.1 mIk mPa mRu mLa mTy mSp mFr mRe mCa mOr mLe rS rP rK rA x8.2.2 w11 rC rT rN) H := by rw [ew11]; exact hP
      have hD : va_D A (wX8 cy h0 sa pa ka aa oa wa ca ta na x8.2.1 mIk mPa mRu mLa mTy mSp mFr mRe mCa mOr mLe rS rP rK rA x8.2.2 w11 rC rT rN) := by rw [ew11]; exact hD
      refine lv_iload_n hx hb dX8_works_82 rfl (lv_at hl 0 rfl) ?_
      refine lv_iconst (v := 1) hx hb dX8_works_83 (by decide) ?_
      refine lv_isub hx hb dX8_works_84 ?_
      obtain ⟨y12, ey12, hf⟩ := k_L hf
      refine k_name ey12 ?_
      refine lv_istore_n (lv' := [(2, .int y12), (1, .int y9), (0, .ref h0)]) hx hb dX8_works_85 rfl hl (by decide) rfl (fun ls hl => ?_)
      obtain ⟨x23, hx23, hf⟩ := k_B hf
      refine L86 _ 1000 x8.2.1 mIk mPa mRu mLa mTy mSp mFr mRe mCa mOr mLe rS rP rK rA x8.2.2 rC rT rN (y12, w11) x23 hx23 ls H locs (lv_sub hl [2, 0] rfl) hP hD hS ?_
      · intro ls H locs _ hl hP hD hS
        refine lv_iconst (v := 1) hx hb dX8_works_160 (by decide) ?_
        obtain rfl := k_some hf
        exact k_zret (v := 1) hx hb hr rfl hP hD hS dX8_works_161 hlocks
  · have hf := k_F c1 hf
    refine lv_iconst (v := 0) hx hb dX8_works_17 (by decide) ?_
    obtain rfl := k_some hf
    exact k_zret (v := 0) hx hb hr rfl hP hD hS dX8_works_18 hlocks
def f_X8_end (mOp : Int32) (mLa : Int32) (rS : Nat → Int32) (rO : Nat → Int32) (rW : Nat → Int32) : Option (Int32 × Int32 × Int32 × (Nat → Int32) × (Nat → Int32)) :=
  (f_X8_works mOp rS rO rW).bind fun v1 =>
  if v1.1 = 0 then
    if (1 : Int32) = 0 then
      some (v1.2.2.2 0, v1.2.1, 1, v1.2.2.1, v1.2.2.2)
    else
      some (0, v1.2.1, 1, v1.2.2.1, v1.2.2.2)
  else
    if (0 : Int32) = 0 then
      some (v1.2.2.2 0, v1.2.1, 0, v1.2.2.1, v1.2.2.2)
    else
      some (0, v1.2.1, 0, v1.2.2.1, v1.2.2.2)
abbrev rm_X8_end : Room := { frames := 5, cells := 0, slots := 0, locals := 115 }
theorem hd_X8_end : yX8_end.cls = RX8 ∧ yX8_end.cls ≠ "java/lang/invoke/MethodHandle" ∧ yX8_end.cls ≠ "java/lang/invoke/VarHandle" ∧ (parseMethodDescriptor yX8_end.desc).map (fun d => d.parameters.length) = some 0 := by decide +kernel
set_option maxHeartbeats 4000000 in
set_option maxRecDepth 100000 in
theorem c_X8_end (l : Launch) (D : va_G) (cy : Nat → ClassId) (h0 sa pa ka aa oa wa ca ta na : Nat) (mOp : Int32) (mIk : Int32) (mPa : Int32) (mRu : Int32) (mLa : Int32) (mTy : Int32) (mSp : Int32) (mFr : Int32) (mRe : Int32) (mCa : Int32) (mOr : Int32) (mLe : Int32) (rS : Nat → Int32) (rP : Nat → Int32) (rK : Nat → Int32) (rA : Nat → Int32) (rO : Nat → Int32) (rW : Nat → Int32) (rC : Nat → Int32) (rT : Nat → Int32) (rN : Nat → Int32)  (r : Int32 × Int32 × Int32 × (Nat → Int32) × (Nat → Int32)) (hf : f_X8_end mOp mLa rS rO rW = some r) : k_HMet l yX8_end wsX8_end rm_X8_end D (k_tys cy) [.ref h0] (wX8 cy h0 sa pa ka aa oa wa ca ta na mOp mIk mPa mRu mLa mTy mSp mFr mRe mCa mOr mLe rS rP rK rA rO rW rC rT rN) (some (.int r.1)) (wX8 cy h0 sa pa ka aa oa wa ca ta na r.2.1 mIk mPa mRu r.2.2.1 mTy mSp mFr mRe mCa mOr mLe rS rP rK rA r.2.2.2.1 r.2.2.2.2 rC rT rN) := by
  refine k_heapOf (cc := cX8_end) (maxL := 1) (ret := (some .int)) (by decide) rfl (Nat.le_of_ble_eq_true rfl) ?_
  intro p e s m args below meth c ls A hx hb hr hlocks hml hown hts hl hA hK hP hD hN
  have hl : lv_has ls 1 [(0, .ref h0)] := hl
  have hS : va_S A s.heap s.heap [] := va_S.rf
  have in_X8 : ∀ w ∈ wsX80, w ∈ wsX8_end := by decide +kernel
  have fl25 := hts (.fieldLink RX8 25 "FencedBoxesModel" "worth" "[I") (by decide +kernel)
  have fl37 := hts (.fieldLink RX8 37 "FencedBoxesModel" "last" "I") (by decide +kernel)
  unfold f_X8_end at hf
  obtain ⟨H, eH⟩ : ∃ H, H = s.heap := ⟨_, rfl⟩
  obtain ⟨locs, elocs⟩ : ∃ L : List Loc, L = [] := ⟨_, rfl⟩
  have hP : va_P D vwCl (wX8 cy h0 sa pa ka aa oa wa ca ta na mOp mIk mPa mRu mLa mTy mSp mFr mRe mCa mOr mLe rS rP rK rA rO rW rC rT rN) H := by rw [eH]; exact hP
  have hS : va_S A s.heap H locs := by rw [eH, elocs]; exact hS
  refine k_here eH elocs ?_
  refine lv_aload_n hx hb dX8_end_0 rfl (lv_at hl 0 rfl) ?_
  refine lv_aload_n hx hb dX8_end_1 rfl (lv_at hl 0 rfl) ?_
  obtain ⟨v1, hv1, hf⟩ := k_B hf
  refine k_callHV (As := []) (rest := [.ref h0]) (r := (RX8, TX8, 21)) (ci := 5) (q0 := 0) (isC := [0, 1, 2, 3, 4, 5, 6, 7, 8, 9]) (isR := []) (perm := [0, 1, 2, 3, 4, 5, 6, 7, 8, 9]) (w' := (wX8 cy h0 sa pa ka aa oa wa ca ta na v1.2.1 mIk mPa mRu mLa mTy mSp mFr mRe mCa mOr mLe rS rP rK rA v1.2.2.1 v1.2.2.2 rC rT rN)) ⟨hx, hb, hml, hown, hts⟩ (c_X8_works l D cy h0 sa pa ka aa oa wa ca ta na mOp mIk mPa mRu mLa mTy mSp mFr mRe mCa mOr mLe rS rP rK rA rO rW rC rT rN  v1 hv1) (cwV 0 hts gX8_end_X8_works rfl rfl rfl hd_X8_works ⟨Nat.le_of_ble_eq_true rfl, Nat.le_of_ble_eq_true rfl⟩) hK hN hP hD hS hA rfl rfl rfl rfl rfl rfl (by decide) rfl rfl rfl hl.1 rfl (Nat.le_of_ble_eq_true rfl) dX8_end_2 ⟨Nat.zero_le _, Nat.zero_le _⟩ (fun H locs hP hD hS => ?_)
  refine lv_if_eq (tgt := 12) hx hb dX8_end_5 (by decide) (fun c2 => ?_) (fun c2 => ?_)
  · have hf := k_T c2 hf
    refine lv_iconst (v := 1) hx hb dX8_end_12 (by decide) ?_
    refine va_put (D := D) (ci := 5) (v := .int 1) (ty := .int) (C := RX8) (T := TX8) (N := 21) hx hb hts in_X8 tyX8 tyX8_ok nmX8 hown hK hP hD hS 0 rfl rfl 11 (by decide) fl37 (fun _ h9 => h9) rfl (by decide +kernel) rfl rfl (Nat.le_of_ble_eq_true rfl) dX8_end_13 (fun H locs hP hD hS => ?_)
    have hP : va_P D vwCl (wX8 cy h0 sa pa ka aa oa wa ca ta na v1.2.1 mIk mPa mRu 1 mTy mSp mFr mRe mCa mOr mLe rS rP rK rA v1.2.2.1 v1.2.2.2 rC rT rN) H := hP
    have hD : va_D A (wX8 cy h0 sa pa ka aa oa wa ca ta na v1.2.1 mIk mPa mRu 1 mTy mSp mFr mRe mCa mOr mLe rS rP rK rA v1.2.2.1 v1.2.2.2 rC rT rN) := hD
    refine lv_aload_n hx hb dX8_end_16 rfl (lv_at hl 0 rfl) ?_
    refine va_get (D := D) (ci := 5) (v := .int 1) (C := RX8) (T := TX8) (N := 21) hx hb hts in_X8 hown hK hP 0 rfl rfl 11 (by decide) fl37 (fun _ h9 => h9) rfl dX8_end_17 ?_
    refine lv_if_ne (tgt := 32) hx hb dX8_end_20 (by decide) (fun c3 => ?_) (fun c3 => ?_)
    · have hf := k_F c3 hf
      refine lv_iconst (v := 0) hx hb dX8_end_32 (by decide) ?_
      obtain rfl := k_some hf
      exact k_iret hx hb hr hP hD hS dX8_end_33 hlocks
    · have hf := k_T c3 hf
      refine lv_aload_n hx hb dX8_end_23 rfl (lv_at hl 0 rfl) ?_
      refine va_get (D := D) (ci := 5) (v := .ref wa) (C := RX8) (T := TX8) (N := 21) hx hb hts in_X8 hown hK hP 0 rfl rfl 5 (by decide) fl25 (fun _ h9 => h9) rfl dX8_end_24 ?_
      refine lv_iconst (v := 0) hx hb dX8_end_27 (by decide) ?_
      refine va_iald hx hb hK hP 6 0 rfl rfl (k_in (i := 0) (n := 256) (by decide +kernel)) dX8_end_28 ?_
      refine k_name (v := v1.2.2.2 0) rfl ?_
      refine lv_goto (tgt := 33) hx hb dX8_end_29 (by decide) ?_
      obtain rfl := k_some hf
      exact k_iret hx hb hr hP hD hS dX8_end_33 hlocks
  · have hf := k_F c2 hf
    refine lv_iconst (v := 0) hx hb dX8_end_8 (by decide) ?_
    refine lv_goto (tgt := 13) hx hb dX8_end_9 (by decide) ?_
    refine va_put (D := D) (ci := 5) (v := .int 0) (ty := .int) (C := RX8) (T := TX8) (N := 21) hx hb hts in_X8 tyX8 tyX8_ok nmX8 hown hK hP hD hS 0 rfl rfl 11 (by decide) fl37 (fun _ h9 => h9) rfl (by decide +kernel) rfl rfl (Nat.le_of_ble_eq_true rfl) dX8_end_13 (fun H locs hP hD hS => ?_)
    have hP : va_P D vwCl (wX8 cy h0 sa pa ka aa oa wa ca ta na v1.2.1 mIk mPa mRu 0 mTy mSp mFr mRe mCa mOr mLe rS rP rK rA v1.2.2.1 v1.2.2.2 rC rT rN) H := hP
    have hD : va_D A (wX8 cy h0 sa pa ka aa oa wa ca ta na v1.2.1 mIk mPa mRu 0 mTy mSp mFr mRe mCa mOr mLe rS rP rK rA v1.2.2.1 v1.2.2.2 rC rT rN) := hD
    refine lv_aload_n hx hb dX8_end_16 rfl (lv_at hl 0 rfl) ?_
    refine va_get (D := D) (ci := 5) (v := .int 0) (C := RX8) (T := TX8) (N := 21) hx hb hts in_X8 hown hK hP 0 rfl rfl 11 (by decide) fl37 (fun _ h9 => h9) rfl dX8_end_17 ?_
    refine lv_if_ne (tgt := 32) hx hb dX8_end_20 (by decide) (fun c4 => ?_) (fun c4 => ?_)
    · have hf := k_F c4 hf
      refine lv_iconst (v := 0) hx hb dX8_end_32 (by decide) ?_
      obtain rfl := k_some hf
      exact k_iret hx hb hr hP hD hS dX8_end_33 hlocks
    · have hf := k_T c4 hf
      refine lv_aload_n hx hb dX8_end_23 rfl (lv_at hl 0 rfl) ?_
      refine va_get (D := D) (ci := 5) (v := .ref wa) (C := RX8) (T := TX8) (N := 21) hx hb hts in_X8 hown hK hP 0 rfl rfl 5 (by decide) fl25 (fun _ h9 => h9) rfl dX8_end_24 ?_
      refine lv_iconst (v := 0) hx hb dX8_end_27 (by decide) ?_
      refine va_iald hx hb hK hP 6 0 rfl rfl (k_in (i := 0) (n := 256) (by decide +kernel)) dX8_end_28 ?_
      refine k_name (v := v1.2.2.2 0) rfl ?_
      refine lv_goto (tgt := 33) hx hb dX8_end_29 (by decide) ?_
      obtain rfl := k_some hf
      exact k_iret hx hb hr hP hD hS dX8_end_33 hlocks
def f_X8_endDifference (mOp : Int32) (mLa : Int32) (rS : Nat → Int32) (rO : Nat → Int32) (rW : Nat → Int32) : Option (Int32 × Int32 × Int32 × (Nat → Int32) × (Nat → Int32)) :=
  (f_X8_end mOp mLa rS rO rW).bind fun v1 =>
  some (v1.1, v1.2.1, v1.2.2.1, v1.2.2.2.1, v1.2.2.2.2)
abbrev rm_X8_endDifference : Room := { frames := 6, cells := 0, slots := 0, locals := 135 }
theorem hd_X8_endDifference : yX8_endDifference.cls = RX8 ∧ yX8_endDifference.cls ≠ "java/lang/invoke/MethodHandle" ∧ yX8_endDifference.cls ≠ "java/lang/invoke/VarHandle" ∧ (parseMethodDescriptor yX8_endDifference.desc).map (fun d => d.parameters.length) = some 0 := by decide +kernel
set_option maxHeartbeats 4000000 in
set_option maxRecDepth 100000 in
theorem c_X8_endDifference (l : Launch) (D : va_G) (cy : Nat → ClassId) (h0 sa pa ka aa oa wa ca ta na : Nat) (mOp : Int32) (mIk : Int32) (mPa : Int32) (mRu : Int32) (mLa : Int32) (mTy : Int32) (mSp : Int32) (mFr : Int32) (mRe : Int32) (mCa : Int32) (mOr : Int32) (mLe : Int32) (rS : Nat → Int32) (rP : Nat → Int32) (rK : Nat → Int32) (rA : Nat → Int32) (rO : Nat → Int32) (rW : Nat → Int32) (rC : Nat → Int32) (rT : Nat → Int32) (rN : Nat → Int32)  (r : Int32 × Int32 × Int32 × (Nat → Int32) × (Nat → Int32)) (hf : f_X8_endDifference mOp mLa rS rO rW = some r) : k_HMet l yX8_endDifference wsX8_endDifference rm_X8_endDifference D (k_tys cy) [.ref h0] (wX8 cy h0 sa pa ka aa oa wa ca ta na mOp mIk mPa mRu mLa mTy mSp mFr mRe mCa mOr mLe rS rP rK rA rO rW rC rT rN) (some (.int r.1)) (wX8 cy h0 sa pa ka aa oa wa ca ta na r.2.1 mIk mPa mRu r.2.2.1 mTy mSp mFr mRe mCa mOr mLe rS rP rK rA r.2.2.2.1 r.2.2.2.2 rC rT rN) := by
  refine k_heapOf (cc := cX8_endDifference) (maxL := 1) (ret := (some .int)) (by decide) rfl (Nat.le_of_ble_eq_true rfl) ?_
  intro p e s m args below meth c ls A hx hb hr hlocks hml hown hts hl hA hK hP hD hN
  have hl : lv_has ls 1 [(0, .ref h0)] := hl
  have hS : va_S A s.heap s.heap [] := va_S.rf
  unfold f_X8_endDifference at hf
  obtain ⟨H, eH⟩ : ∃ H, H = s.heap := ⟨_, rfl⟩
  obtain ⟨locs, elocs⟩ : ∃ L : List Loc, L = [] := ⟨_, rfl⟩
  have hP : va_P D vwCl (wX8 cy h0 sa pa ka aa oa wa ca ta na mOp mIk mPa mRu mLa mTy mSp mFr mRe mCa mOr mLe rS rP rK rA rO rW rC rT rN) H := by rw [eH]; exact hP
  have hS : va_S A s.heap H locs := by rw [eH, elocs]; exact hS
  refine k_here eH elocs ?_
  refine lv_aload_n hx hb dX8_endDifference_0 rfl (lv_at hl 0 rfl) ?_
  obtain ⟨v1, hv1, hf⟩ := k_B hf
  refine k_callHV (As := []) (rest := []) (r := (RX8, TX8, 21)) (ci := 5) (q0 := 0) (isC := [0, 1, 2, 3, 4, 5, 6, 7, 8, 9]) (isR := []) (perm := [0, 1, 2, 3, 4, 5, 6, 7, 8, 9]) (w' := (wX8 cy h0 sa pa ka aa oa wa ca ta na v1.2.1 mIk mPa mRu v1.2.2.1 mTy mSp mFr mRe mCa mOr mLe rS rP rK rA v1.2.2.2.1 v1.2.2.2.2 rC rT rN)) ⟨hx, hb, hml, hown, hts⟩ (c_X8_end l D cy h0 sa pa ka aa oa wa ca ta na mOp mIk mPa mRu mLa mTy mSp mFr mRe mCa mOr mLe rS rP rK rA rO rW rC rT rN  v1 hv1) (cwV 0 hts gX8_endDifference_X8_end rfl rfl rfl hd_X8_end ⟨Nat.le_of_ble_eq_true rfl, Nat.le_of_ble_eq_true rfl⟩) hK hN hP hD hS hA rfl rfl rfl rfl rfl rfl (by decide) rfl rfl rfl hl.1 rfl (Nat.le_of_ble_eq_true rfl) dX8_endDifference_1 ⟨Nat.zero_le _, Nat.zero_le _⟩ (fun H locs hP hD hS => ?_)
  obtain rfl := k_some hf
  exact k_iret hx hb hr hP hD hS dX8_endDifference_4 hlocks
def f_X8_endByTrying (mOp : Int32) (mLa : Int32) (rS : Nat → Int32) (rO : Nat → Int32) (rW : Nat → Int32) : Option (Int32 × Int32 × Int32 × (Nat → Int32) × (Nat → Int32)) :=
  (f_X8_end mOp mLa rS rO rW).bind fun v1 =>
  some (v1.1, v1.2.1, v1.2.2.1, v1.2.2.2.1, v1.2.2.2.2)
abbrev rm_X8_endByTrying : Room := { frames := 6, cells := 0, slots := 0, locals := 135 }
theorem hd_X8_endByTrying : yX8_endByTrying.cls = RX8 ∧ yX8_endByTrying.cls ≠ "java/lang/invoke/MethodHandle" ∧ yX8_endByTrying.cls ≠ "java/lang/invoke/VarHandle" ∧ (parseMethodDescriptor yX8_endByTrying.desc).map (fun d => d.parameters.length) = some 0 := by decide +kernel
set_option maxHeartbeats 4000000 in
set_option maxRecDepth 100000 in
theorem c_X8_endByTrying (l : Launch) (D : va_G) (cy : Nat → ClassId) (h0 sa pa ka aa oa wa ca ta na : Nat) (mOp : Int32) (mIk : Int32) (mPa : Int32) (mRu : Int32) (mLa : Int32) (mTy : Int32) (mSp : Int32) (mFr : Int32) (mRe : Int32) (mCa : Int32) (mOr : Int32) (mLe : Int32) (rS : Nat → Int32) (rP : Nat → Int32) (rK : Nat → Int32) (rA : Nat → Int32) (rO : Nat → Int32) (rW : Nat → Int32) (rC : Nat → Int32) (rT : Nat → Int32) (rN : Nat → Int32)  (r : Int32 × Int32 × Int32 × (Nat → Int32) × (Nat → Int32)) (hf : f_X8_endByTrying mOp mLa rS rO rW = some r) : k_HMet l yX8_endByTrying wsX8_endByTrying rm_X8_endByTrying D (k_tys cy) [.ref h0] (wX8 cy h0 sa pa ka aa oa wa ca ta na mOp mIk mPa mRu mLa mTy mSp mFr mRe mCa mOr mLe rS rP rK rA rO rW rC rT rN) (some (.int r.1)) (wX8 cy h0 sa pa ka aa oa wa ca ta na r.2.1 mIk mPa mRu r.2.2.1 mTy mSp mFr mRe mCa mOr mLe rS rP rK rA r.2.2.2.1 r.2.2.2.2 rC rT rN) := by
  refine k_heapOf (cc := cX8_endByTrying) (maxL := 1) (ret := (some .int)) (by decide) rfl (Nat.le_of_ble_eq_true rfl) ?_
  intro p e s m args below meth c ls A hx hb hr hlocks hml hown hts hl hA hK hP hD hN
  have hl : lv_has ls 1 [(0, .ref h0)] := hl
  have hS : va_S A s.heap s.heap [] := va_S.rf
  unfold f_X8_endByTrying at hf
  obtain ⟨H, eH⟩ : ∃ H, H = s.heap := ⟨_, rfl⟩
  obtain ⟨locs, elocs⟩ : ∃ L : List Loc, L = [] := ⟨_, rfl⟩
  have hP : va_P D vwCl (wX8 cy h0 sa pa ka aa oa wa ca ta na mOp mIk mPa mRu mLa mTy mSp mFr mRe mCa mOr mLe rS rP rK rA rO rW rC rT rN) H := by rw [eH]; exact hP
  have hS : va_S A s.heap H locs := by rw [eH, elocs]; exact hS
  refine k_here eH elocs ?_
  refine lv_aload_n hx hb dX8_endByTrying_0 rfl (lv_at hl 0 rfl) ?_
  obtain ⟨v1, hv1, hf⟩ := k_B hf
  refine k_callHV (As := []) (rest := []) (r := (RX8, TX8, 21)) (ci := 5) (q0 := 0) (isC := [0, 1, 2, 3, 4, 5, 6, 7, 8, 9]) (isR := []) (perm := [0, 1, 2, 3, 4, 5, 6, 7, 8, 9]) (w' := (wX8 cy h0 sa pa ka aa oa wa ca ta na v1.2.1 mIk mPa mRu v1.2.2.1 mTy mSp mFr mRe mCa mOr mLe rS rP rK rA v1.2.2.2.1 v1.2.2.2.2 rC rT rN)) ⟨hx, hb, hml, hown, hts⟩ (c_X8_end l D cy h0 sa pa ka aa oa wa ca ta na mOp mIk mPa mRu mLa mTy mSp mFr mRe mCa mOr mLe rS rP rK rA rO rW rC rT rN  v1 hv1) (cwV 0 hts gX8_endByTrying_X8_end rfl rfl rfl hd_X8_end ⟨Nat.le_of_ble_eq_true rfl, Nat.le_of_ble_eq_true rfl⟩) hK hN hP hD hS hA rfl rfl rfl rfl rfl rfl (by decide) rfl rfl rfl hl.1 rfl (Nat.le_of_ble_eq_true rfl) dX8_endByTrying_1 ⟨Nat.zero_le _, Nat.zero_le _⟩ (fun H locs hP hD hS => ?_)
  obtain rfl := k_some hf
  exact k_iret hx hb hr hP hD hS dX8_endByTrying_4 hlocks
def t_X8_bestFence_25 (mOp : Int32) (mLa : Int32) (rS : Nat → Int32) (rO : Nat → Int32) (rW : Nat → Int32) (s25 : Int32) : Option ((Int32) ⊕ ((Int32) ⊕ (Int32))) :=
  if mOp ≤ s25 then
    some (.inr (.inl s25))
  else
    if mLa = 0 then
      (f_X8_by 0 s25 mOp rS rO rW).bind fun v5 =>
      if v5 = (rW 0) then
        if s25 < 0 ∨ 31 ≤ s25.toNatClampNeg then none else
        some (.inr (.inr (rO s25.toNatClampNeg)))
      else
        some (.inl (s25 + 1))
    else
      some (.inr (.inl s25))
def f_X8_bestFence (mOp : Int32) (mLa : Int32) (rS : Nat → Int32) (rO : Nat → Int32) (rW : Nat → Int32) : Option (Int32 × Int32 × Int32 × (Nat → Int32) × (Nat → Int32)) :=
  (f_X8_works mOp rS rO rW).bind fun v1 =>
  if v1.1 = 0 then
    (k_loop (t_X8_bestFence_25 v1.2.1 1 rS v1.2.2.1 v1.2.2.2) 1000 0).bind fun x8 =>
    Sum.elim (fun z9 =>
      some (0, v1.2.1, 1, v1.2.2.1, v1.2.2.2)
    ) (fun r10 => some (r10, v1.2.1, 1, v1.2.2.1, v1.2.2.2)) x8
  else
    if v1.2.1 ≤ 0 then
      (k_loop (t_X8_bestFence_25 v1.2.1 1 rS v1.2.2.1 v1.2.2.2) 1000 0).bind fun x12 =>
      Sum.elim (fun z13 =>
        some (0, v1.2.1, 1, v1.2.2.1, v1.2.2.2)
      ) (fun r14 => some (r14, v1.2.1, 1, v1.2.2.1, v1.2.2.2)) x12
    else
      (k_loop (t_X8_bestFence_25 v1.2.1 0 rS v1.2.2.1 v1.2.2.2) 1000 0).bind fun x15 =>
      Sum.elim (fun z16 =>
        some (0, v1.2.1, 0, v1.2.2.1, v1.2.2.2)
      ) (fun r17 => some (r17, v1.2.1, 0, v1.2.2.1, v1.2.2.2)) x15
abbrev rm_X8_bestFence : Room := { frames := 5, cells := 0, slots := 0, locals := 115 }
theorem hd_X8_bestFence : yX8_bestFence.cls = RX8 ∧ yX8_bestFence.cls ≠ "java/lang/invoke/MethodHandle" ∧ yX8_bestFence.cls ≠ "java/lang/invoke/VarHandle" ∧ (parseMethodDescriptor yX8_bestFence.desc).map (fun d => d.parameters.length) = some 0 := by decide +kernel
set_option maxHeartbeats 4000000 in
set_option maxRecDepth 100000 in
theorem c_X8_bestFence (l : Launch) (D : va_G) (cy : Nat → ClassId) (h0 sa pa ka aa oa wa ca ta na : Nat) (mOp : Int32) (mIk : Int32) (mPa : Int32) (mRu : Int32) (mLa : Int32) (mTy : Int32) (mSp : Int32) (mFr : Int32) (mRe : Int32) (mCa : Int32) (mOr : Int32) (mLe : Int32) (rS : Nat → Int32) (rP : Nat → Int32) (rK : Nat → Int32) (rA : Nat → Int32) (rO : Nat → Int32) (rW : Nat → Int32) (rC : Nat → Int32) (rT : Nat → Int32) (rN : Nat → Int32)  (r : Int32 × Int32 × Int32 × (Nat → Int32) × (Nat → Int32)) (hf : f_X8_bestFence mOp mLa rS rO rW = some r) : k_HMet l yX8_bestFence wsX8_bestFence rm_X8_bestFence D (k_tys cy) [.ref h0] (wX8 cy h0 sa pa ka aa oa wa ca ta na mOp mIk mPa mRu mLa mTy mSp mFr mRe mCa mOr mLe rS rP rK rA rO rW rC rT rN) (some (.int r.1)) (wX8 cy h0 sa pa ka aa oa wa ca ta na r.2.1 mIk mPa mRu r.2.2.1 mTy mSp mFr mRe mCa mOr mLe rS rP rK rA r.2.2.2.1 r.2.2.2.2 rC rT rN) := by
  refine k_heapOf (cc := cX8_bestFence) (maxL := 2) (ret := (some .int)) (by decide) rfl (Nat.le_of_ble_eq_true rfl) ?_
  intro p e s m args below meth c ls A hx hb hr hlocks hml hown hts hl hA hK hP hD hN
  have hl : lv_has ls 2 [(0, .ref h0)] := hl
  have hS : va_S A s.heap s.heap [] := va_S.rf
  have in_X8 : ∀ w ∈ wsX80, w ∈ wsX8_bestFence := by decide +kernel
  have fl22 := hts (.fieldLink RX8 22 "FencedBoxesModel" "open" "[I") (by decide +kernel)
  have fl25 := hts (.fieldLink RX8 25 "FencedBoxesModel" "worth" "[I") (by decide +kernel)
  have fl37 := hts (.fieldLink RX8 37 "FencedBoxesModel" "last" "I") (by decide +kernel)
  have fl132 := hts (.fieldLink RX8 132 "FencedBoxesModel" "opens" "I") (by decide +kernel)
  have L25 : ∀ (Q : State → Prop) (n : Nat) (mOp : Int32) (mIk : Int32) (mPa : Int32) (mRu : Int32) (mLa : Int32) (mTy : Int32) (mSp : Int32) (mFr : Int32) (mRe : Int32) (mCa : Int32) (mOr : Int32) (mLe : Int32) (rS : Nat → Int32) (rP : Nat → Int32) (rK : Nat → Int32) (rA : Nat → Int32) (rO : Nat → Int32) (rW : Nat → Int32) (rC : Nat → Int32) (rT : Nat → Int32) (rN : Nat → Int32) (s25 : Int32) (q : ((Int32) ⊕ (Int32))), k_loop (t_X8_bestFence_25 mOp mLa rS rO rW) n s25 = some q → ∀ (ls : Array Slot) (H : Heap) (locs : List Loc), lv_has ls 2 [(0, .ref h0), (1, .int s25)] → va_P D vwCl (wX8 cy h0 sa pa ka aa oa wa ca ta na mOp mIk mPa mRu mLa mTy mSp mFr mRe mCa mOr mLe rS rP rK rA rO rW rC rT rN) H → va_D A (wX8 cy h0 sa pa ka aa oa wa ca ta na mOp mIk mPa mRu mLa mTy mSp mFr mRe mCa mOr mLe rS rP rK rA rO rW rC rT rN) → va_S A s.heap H locs → (∀ (ls : Array Slot) (H : Heap) (locs : List Loc) (x : Int32), q = .inl x → lv_has ls 2 [] → va_P D vwCl (wX8 cy h0 sa pa ka aa oa wa ca ta na mOp mIk mPa mRu mLa mTy mSp mFr mRe mCa mOr mLe rS rP rK rA rO rW rC rT rN) H → va_D A (wX8 cy h0 sa pa ka aa oa wa ca ta na mOp mIk mPa mRu mLa mTy mSp mFr mRe mCa mOr mLe rS rP rK rA rO rW rC rT rN) → va_S A s.heap H locs → W p l e rm_X8_bestFence s m args below meth c H locs 0 0 Q (F0 m 68 ls [])) → (∀ (ls : Array Slot) (H : Heap) (locs : List Loc) (rr : Int32), q = .inr rr → ls.size = 2 → va_P D vwCl (wX8 cy h0 sa pa ka aa oa wa ca ta na mOp mIk mPa mRu mLa mTy mSp mFr mRe mCa mOr mLe rS rP rK rA rO rW rC rT rN) H → va_D A (wX8 cy h0 sa pa ka aa oa wa ca ta na mOp mIk mPa mRu mLa mTy mSp mFr mRe mCa mOr mLe rS rP rK rA rO rW rC rT rN) → va_S A s.heap H locs → W p l e rm_X8_bestFence s m args below meth c H locs 0 0 Q (F0 m 61 ls [.int rr])) → W p l e rm_X8_bestFence s m args below meth c H locs 0 0 Q (F0 m 25 ls []) := by
    intro Q n
    induction n with
    | zero =>
      intro mOp mIk mPa mRu mLa mTy mSp mFr mRe mCa mOr mLe rS rP rK rA rO rW rC rT rN s25 q hq
      exact (k_loop0 hq).elim
    | succ n ih =>
      intro mOp mIk mPa mRu mLa mTy mSp mFr mRe mCa mOr mLe rS rP rK rA rO rW rC rT rN s25 q hq ls H locs hl hP hD hS kx kr61
      obtain ⟨x, hf, hq⟩ := k_loopE hq
      unfold t_X8_bestFence_25 at hf
      refine lv_iload_n hx hb dX8_bestFence_25 rfl (lv_at hl 1 rfl) ?_
      refine lv_aload_n hx hb dX8_bestFence_26 rfl (lv_at hl 0 rfl) ?_
      refine va_get (D := D) (ci := 5) (v := .int mOp) (C := RX8) (T := TX8) (N := 21) hx hb hts in_X8 hown hK hP 0 rfl rfl 7 (by decide) fl132 (fun _ h9 => h9) rfl dX8_bestFence_27 ?_
      refine lv_icmp_ge (tgt := 68) hx hb dX8_bestFence_30 (by decide) (fun c3 => ?_) (fun c3 => ?_)
      · have hf := k_T c3 hf
        obtain rfl := k_some hf
        obtain rfl := k_some (k_inr hq)
        exact kx ls H locs s25 rfl (lv_sub hl [] rfl) hP hD hS
      · have hf := k_F c3 hf
        refine lv_aload_n hx hb dX8_bestFence_33 rfl (lv_at hl 0 rfl) ?_
        refine va_get (D := D) (ci := 5) (v := .int mLa) (C := RX8) (T := TX8) (N := 21) hx hb hts in_X8 hown hK hP 0 rfl rfl 11 (by decide) fl37 (fun _ h9 => h9) rfl dX8_bestFence_34 ?_
        refine lv_if_ne (tgt := 68) hx hb dX8_bestFence_37 (by decide) (fun c4 => ?_) (fun c4 => ?_)
        · have hf := k_F c4 hf
          obtain rfl := k_some hf
          obtain rfl := k_some (k_inr hq)
          exact kx ls H locs s25 rfl (lv_sub hl [] rfl) hP hD hS
        · have hf := k_T c4 hf
          refine lv_aload_n hx hb dX8_bestFence_40 rfl (lv_at hl 0 rfl) ?_
          refine lv_iconst (v := 0) hx hb dX8_bestFence_41 (by decide) ?_
          refine lv_iload_n hx hb dX8_bestFence_42 rfl (lv_at hl 1 rfl) ?_
          obtain ⟨v5, hv5, hf⟩ := k_B hf
          refine k_callHV (As := [.int 0, .int s25]) (rest := []) (r := (RX8, TX8, 21)) (ci := 5) (q0 := 0) (isC := [0, 1, 2, 3, 4, 5, 6, 7, 8, 9]) (isR := []) (perm := [0, 1, 2, 3, 4, 5, 6, 7, 8, 9]) (w' := (wX8 cy h0 sa pa ka aa oa wa ca ta na mOp mIk mPa mRu mLa mTy mSp mFr mRe mCa mOr mLe rS rP rK rA rO rW rC rT rN)) ⟨hx, hb, hml, hown, hts⟩ (c_X8_by l D cy h0 sa pa ka aa oa wa ca ta na mOp mIk mPa mRu mLa mTy mSp mFr mRe mCa mOr mLe rS rP rK rA rO rW rC rT rN 0 s25 v5 hv5) (cwV 2 hts gX8_bestFence_X8_by rfl rfl rfl hd_X8_by ⟨Nat.le_of_ble_eq_true rfl, Nat.le_of_ble_eq_true rfl⟩) hK hN hP hD hS hA rfl rfl rfl rfl rfl rfl (by decide) rfl rfl rfl hl.1 rfl (Nat.le_of_ble_eq_true rfl) dX8_bestFence_43 ⟨Nat.zero_le _, Nat.zero_le _⟩ (fun H locs hP hD hS => ?_)
          refine lv_aload_n hx hb dX8_bestFence_46 rfl (lv_at hl 0 rfl) ?_
          refine va_get (D := D) (ci := 5) (v := .ref wa) (C := RX8) (T := TX8) (N := 21) hx hb hts in_X8 hown hK hP 0 rfl rfl 5 (by decide) fl25 (fun _ h9 => h9) rfl dX8_bestFence_47 ?_
          refine lv_iconst (v := 0) hx hb dX8_bestFence_50 (by decide) ?_
          refine va_iald hx hb hK hP 6 0 rfl rfl (k_in (i := 0) (n := 256) (by decide +kernel)) dX8_bestFence_51 ?_
          refine k_name (v := rW 0) rfl ?_
          refine lv_icmp_ne (tgt := 62) hx hb dX8_bestFence_52 (by decide) (fun c6 => ?_) (fun c6 => ?_)
          · have hf := k_F c6 hf
            refine lv_iinc (v := s25 + 1) (lv' := [(1, .int (s25 + 1)), (0, .ref h0)]) hx hb dX8_bestFence_62 hl (k := 1) rfl rfl (by decide) rfl (fun ls hl => ?_)
            refine lv_goto (tgt := 25) hx hb dX8_bestFence_65 (by decide) ?_
            obtain rfl := k_some hf
            exact ih mOp mIk mPa mRu mLa mTy mSp mFr mRe mCa mOr mLe rS rP rK rA rO rW rC rT rN (s25 + 1) q (k_inl hq) ls H locs (lv_sub hl [1, 0] rfl) hP hD hS kx kr61
          · have hf := k_T c6 hf
            refine lv_aload_n hx hb dX8_bestFence_55 rfl (lv_at hl 0 rfl) ?_
            refine va_get (D := D) (ci := 5) (v := .ref oa) (C := RX8) (T := TX8) (N := 21) hx hb hts in_X8 hown hK hP 0 rfl rfl 4 (by decide) fl22 (fun _ h9 => h9) rfl dX8_bestFence_56 ?_
            refine lv_iload_n hx hb dX8_bestFence_59 rfl (lv_at hl 1 rfl) ?_
            obtain ⟨g7, hf⟩ := k_G hf
            refine va_iald hx hb hK hP 5 0 rfl rfl g7 dX8_bestFence_60 ?_
            obtain rfl := k_some hf
            obtain rfl := k_some (k_inr hq)
            exact kr61 ls H locs (rO s25.toNatClampNeg) rfl hl.1 hP hD hS
  unfold f_X8_bestFence at hf
  obtain ⟨H, eH⟩ : ∃ H, H = s.heap := ⟨_, rfl⟩
  obtain ⟨locs, elocs⟩ : ∃ L : List Loc, L = [] := ⟨_, rfl⟩
  have hP : va_P D vwCl (wX8 cy h0 sa pa ka aa oa wa ca ta na mOp mIk mPa mRu mLa mTy mSp mFr mRe mCa mOr mLe rS rP rK rA rO rW rC rT rN) H := by rw [eH]; exact hP
  have hS : va_S A s.heap H locs := by rw [eH, elocs]; exact hS
  refine k_here eH elocs ?_
  refine lv_aload_n hx hb dX8_bestFence_0 rfl (lv_at hl 0 rfl) ?_
  refine lv_aload_n hx hb dX8_bestFence_1 rfl (lv_at hl 0 rfl) ?_
  obtain ⟨v1, hv1, hf⟩ := k_B hf
  refine k_callHV (As := []) (rest := [.ref h0]) (r := (RX8, TX8, 21)) (ci := 5) (q0 := 0) (isC := [0, 1, 2, 3, 4, 5, 6, 7, 8, 9]) (isR := []) (perm := [0, 1, 2, 3, 4, 5, 6, 7, 8, 9]) (w' := (wX8 cy h0 sa pa ka aa oa wa ca ta na v1.2.1 mIk mPa mRu mLa mTy mSp mFr mRe mCa mOr mLe rS rP rK rA v1.2.2.1 v1.2.2.2 rC rT rN)) ⟨hx, hb, hml, hown, hts⟩ (c_X8_works l D cy h0 sa pa ka aa oa wa ca ta na mOp mIk mPa mRu mLa mTy mSp mFr mRe mCa mOr mLe rS rP rK rA rO rW rC rT rN  v1 hv1) (cwV 0 hts gX8_bestFence_X8_works rfl rfl rfl hd_X8_works ⟨Nat.le_of_ble_eq_true rfl, Nat.le_of_ble_eq_true rfl⟩) hK hN hP hD hS hA rfl rfl rfl rfl rfl rfl (by decide) rfl rfl rfl hl.1 rfl (Nat.le_of_ble_eq_true rfl) dX8_bestFence_2 ⟨Nat.zero_le _, Nat.zero_le _⟩ (fun H locs hP hD hS => ?_)
  refine lv_if_eq (tgt := 19) hx hb dX8_bestFence_5 (by decide) (fun c2 => ?_) (fun c2 => ?_)
  · have hf := k_T c2 hf
    refine lv_iconst (v := 1) hx hb dX8_bestFence_19 (by decide) ?_
    refine va_put (D := D) (ci := 5) (v := .int 1) (ty := .int) (C := RX8) (T := TX8) (N := 21) hx hb hts in_X8 tyX8 tyX8_ok nmX8 hown hK hP hD hS 0 rfl rfl 11 (by decide) fl37 (fun _ h9 => h9) rfl (by decide +kernel) rfl rfl (Nat.le_of_ble_eq_true rfl) dX8_bestFence_20 (fun H locs hP hD hS => ?_)
    have hP : va_P D vwCl (wX8 cy h0 sa pa ka aa oa wa ca ta na v1.2.1 mIk mPa mRu 1 mTy mSp mFr mRe mCa mOr mLe rS rP rK rA v1.2.2.1 v1.2.2.2 rC rT rN) H := hP
    have hD : va_D A (wX8 cy h0 sa pa ka aa oa wa ca ta na v1.2.1 mIk mPa mRu 1 mTy mSp mFr mRe mCa mOr mLe rS rP rK rA v1.2.2.1 v1.2.2.2 rC rT rN) := hD
    refine lv_iconst (v := 0) hx hb dX8_bestFence_23 (by decide) ?_
    refine lv_istore_n (lv' := [(1, .int 0), (0, .ref h0)]) hx hb dX8_bestFence_24 rfl hl (by decide) rfl (fun ls hl => ?_)
    obtain ⟨x8, hx8, hf⟩ := k_B hf
    refine L25 _ 1000 v1.2.1 mIk mPa mRu 1 mTy mSp mFr mRe mCa mOr mLe rS rP rK rA v1.2.2.1 v1.2.2.2 rC rT rN 0 x8 hx8 ls H locs (lv_sub hl [1, 0] rfl) hP hD hS ?_ ?_
    · intro ls H locs z9 ez9 hl hP hD hS
      subst ez9
      have hf := k_inl hf
      refine lv_iconst (v := 0) hx hb dX8_bestFence_68 (by decide) ?_
      obtain rfl := k_some hf
      exact k_iret hx hb hr hP hD hS dX8_bestFence_69 hlocks
    · intro ls H locs r10 er10 hls hP hD hS
      subst er10
      have hf := k_inr hf
      obtain rfl := k_some hf
      exact k_iret hx hb hr hP hD hS dX8_bestFence_61 hlocks
  · have hf := k_F c2 hf
    refine lv_aload_n hx hb dX8_bestFence_8 rfl (lv_at hl 0 rfl) ?_
    refine va_get (D := D) (ci := 5) (v := .int v1.2.1) (C := RX8) (T := TX8) (N := 21) hx hb hts in_X8 hown hK hP 0 rfl rfl 7 (by decide) fl132 (fun _ h9 => h9) rfl dX8_bestFence_9 ?_
    refine lv_if_le (tgt := 19) hx hb dX8_bestFence_12 (by decide) (fun c11 => ?_) (fun c11 => ?_)
    · have hf := k_T c11 hf
      refine lv_iconst (v := 1) hx hb dX8_bestFence_19 (by decide) ?_
      refine va_put (D := D) (ci := 5) (v := .int 1) (ty := .int) (C := RX8) (T := TX8) (N := 21) hx hb hts in_X8 tyX8 tyX8_ok nmX8 hown hK hP hD hS 0 rfl rfl 11 (by decide) fl37 (fun _ h9 => h9) rfl (by decide +kernel) rfl rfl (Nat.le_of_ble_eq_true rfl) dX8_bestFence_20 (fun H locs hP hD hS => ?_)
      have hP : va_P D vwCl (wX8 cy h0 sa pa ka aa oa wa ca ta na v1.2.1 mIk mPa mRu 1 mTy mSp mFr mRe mCa mOr mLe rS rP rK rA v1.2.2.1 v1.2.2.2 rC rT rN) H := hP
      have hD : va_D A (wX8 cy h0 sa pa ka aa oa wa ca ta na v1.2.1 mIk mPa mRu 1 mTy mSp mFr mRe mCa mOr mLe rS rP rK rA v1.2.2.1 v1.2.2.2 rC rT rN) := hD
      refine lv_iconst (v := 0) hx hb dX8_bestFence_23 (by decide) ?_
      refine lv_istore_n (lv' := [(1, .int 0), (0, .ref h0)]) hx hb dX8_bestFence_24 rfl hl (by decide) rfl (fun ls hl => ?_)
      obtain ⟨x12, hx12, hf⟩ := k_B hf
      refine L25 _ 1000 v1.2.1 mIk mPa mRu 1 mTy mSp mFr mRe mCa mOr mLe rS rP rK rA v1.2.2.1 v1.2.2.2 rC rT rN 0 x12 hx12 ls H locs (lv_sub hl [1, 0] rfl) hP hD hS ?_ ?_
      · intro ls H locs z13 ez13 hl hP hD hS
        subst ez13
        have hf := k_inl hf
        refine lv_iconst (v := 0) hx hb dX8_bestFence_68 (by decide) ?_
        obtain rfl := k_some hf
        exact k_iret hx hb hr hP hD hS dX8_bestFence_69 hlocks
      · intro ls H locs r14 er14 hls hP hD hS
        subst er14
        have hf := k_inr hf
        obtain rfl := k_some hf
        exact k_iret hx hb hr hP hD hS dX8_bestFence_61 hlocks
    · have hf := k_F c11 hf
      refine lv_iconst (v := 0) hx hb dX8_bestFence_15 (by decide) ?_
      refine lv_goto (tgt := 20) hx hb dX8_bestFence_16 (by decide) ?_
      refine va_put (D := D) (ci := 5) (v := .int 0) (ty := .int) (C := RX8) (T := TX8) (N := 21) hx hb hts in_X8 tyX8 tyX8_ok nmX8 hown hK hP hD hS 0 rfl rfl 11 (by decide) fl37 (fun _ h9 => h9) rfl (by decide +kernel) rfl rfl (Nat.le_of_ble_eq_true rfl) dX8_bestFence_20 (fun H locs hP hD hS => ?_)
      have hP : va_P D vwCl (wX8 cy h0 sa pa ka aa oa wa ca ta na v1.2.1 mIk mPa mRu 0 mTy mSp mFr mRe mCa mOr mLe rS rP rK rA v1.2.2.1 v1.2.2.2 rC rT rN) H := hP
      have hD : va_D A (wX8 cy h0 sa pa ka aa oa wa ca ta na v1.2.1 mIk mPa mRu 0 mTy mSp mFr mRe mCa mOr mLe rS rP rK rA v1.2.2.1 v1.2.2.2 rC rT rN) := hD
      refine lv_iconst (v := 0) hx hb dX8_bestFence_23 (by decide) ?_
      refine lv_istore_n (lv' := [(1, .int 0), (0, .ref h0)]) hx hb dX8_bestFence_24 rfl hl (by decide) rfl (fun ls hl => ?_)
      obtain ⟨x15, hx15, hf⟩ := k_B hf
      refine L25 _ 1000 v1.2.1 mIk mPa mRu 0 mTy mSp mFr mRe mCa mOr mLe rS rP rK rA v1.2.2.1 v1.2.2.2 rC rT rN 0 x15 hx15 ls H locs (lv_sub hl [1, 0] rfl) hP hD hS ?_ ?_
      · intro ls H locs z16 ez16 hl hP hD hS
        subst ez16
        have hf := k_inl hf
        refine lv_iconst (v := 0) hx hb dX8_bestFence_68 (by decide) ?_
        obtain rfl := k_some hf
        exact k_iret hx hb hr hP hD hS dX8_bestFence_69 hlocks
      · intro ls H locs r17 er17 hls hP hD hS
        subst er17
        have hf := k_inr hf
        obtain rfl := k_some hf
        exact k_iret hx hb hr hP hD hS dX8_bestFence_61 hlocks
def f_X8_won (n1 : Int32) (mLa : Int32) (rS : Nat → Int32) : Option (Int32 × Int32) :=
  (f_X8_in n1 0 1).bind fun v1 =>
  if v1 = 0 then
    if (1 : Int32) = 0 then
      if ((14 : Int32) + n1) < 0 ∨ 19 ≤ ((14 : Int32) + n1).toNatClampNeg then none else
      some (rS ((14 : Int32) + n1).toNatClampNeg, 1)
    else
      some (0, 1)
  else
    if (0 : Int32) = 0 then
      if ((14 : Int32) + n1) < 0 ∨ 19 ≤ ((14 : Int32) + n1).toNatClampNeg then none else
      some (rS ((14 : Int32) + n1).toNatClampNeg, 0)
    else
      some (0, 0)
abbrev rm_X8_won : Room := { frames := 1, cells := 0, slots := 0, locals := 22 }
theorem hd_X8_won : yX8_won.cls = RX8 ∧ yX8_won.cls ≠ "java/lang/invoke/MethodHandle" ∧ yX8_won.cls ≠ "java/lang/invoke/VarHandle" ∧ (parseMethodDescriptor yX8_won.desc).map (fun d => d.parameters.length) = some 1 := by decide +kernel
set_option maxHeartbeats 4000000 in
set_option maxRecDepth 100000 in
theorem c_X8_won (l : Launch) (D : va_G) (cy : Nat → ClassId) (h0 sa pa ka aa oa wa ca ta na : Nat) (mOp : Int32) (mIk : Int32) (mPa : Int32) (mRu : Int32) (mLa : Int32) (mTy : Int32) (mSp : Int32) (mFr : Int32) (mRe : Int32) (mCa : Int32) (mOr : Int32) (mLe : Int32) (rS : Nat → Int32) (rP : Nat → Int32) (rK : Nat → Int32) (rA : Nat → Int32) (rO : Nat → Int32) (rW : Nat → Int32) (rC : Nat → Int32) (rT : Nat → Int32) (rN : Nat → Int32) (n1 : Int32) (r : Int32 × Int32) (hf : f_X8_won n1 mLa rS = some r) : k_HMet l yX8_won wsX8_won rm_X8_won D (k_tys cy) [.ref h0, .int n1] (wX8 cy h0 sa pa ka aa oa wa ca ta na mOp mIk mPa mRu mLa mTy mSp mFr mRe mCa mOr mLe rS rP rK rA rO rW rC rT rN) (some (.int r.1)) (wX8 cy h0 sa pa ka aa oa wa ca ta na mOp mIk mPa mRu r.2 mTy mSp mFr mRe mCa mOr mLe rS rP rK rA rO rW rC rT rN) := by
  refine k_heapOf (cc := cX8_won) (maxL := 2) (ret := (some .int)) (by decide) rfl (Nat.le_of_ble_eq_true rfl) ?_
  intro p e s m args below meth c ls A hx hb hr hlocks hml hown hts hl hA hK hP hD hN
  have hl : lv_has ls 2 [(0, .ref h0), (1, .int n1)] := hl
  have hS : va_S A s.heap s.heap [] := va_S.rf
  have in_X8 : ∀ w ∈ wsX80, w ∈ wsX8_won := by decide +kernel
  have fl7 := hts (.fieldLink RX8 7 "FencedBoxesModel" "s" "[I") (by decide +kernel)
  have fl37 := hts (.fieldLink RX8 37 "FencedBoxesModel" "last" "I") (by decide +kernel)
  unfold f_X8_won at hf
  obtain ⟨H, eH⟩ : ∃ H, H = s.heap := ⟨_, rfl⟩
  obtain ⟨locs, elocs⟩ : ∃ L : List Loc, L = [] := ⟨_, rfl⟩
  have hP : va_P D vwCl (wX8 cy h0 sa pa ka aa oa wa ca ta na mOp mIk mPa mRu mLa mTy mSp mFr mRe mCa mOr mLe rS rP rK rA rO rW rC rT rN) H := by rw [eH]; exact hP
  have hS : va_S A s.heap H locs := by rw [eH, elocs]; exact hS
  refine k_here eH elocs ?_
  refine lv_aload_n hx hb dX8_won_0 rfl (lv_at hl 0 rfl) ?_
  refine lv_iload_n hx hb dX8_won_1 rfl (lv_at hl 1 rfl) ?_
  refine lv_iconst (v := 0) hx hb dX8_won_2 (by decide) ?_
  refine lv_iconst (v := 1) hx hb dX8_won_3 (by decide) ?_
  obtain ⟨v1, hv1, hf⟩ := k_B hf
  refine k_callS (As := [.int n1, .int 0, .int 1]) (rest := [.ref h0]) ⟨hx, hb, hml, hown, hts⟩ (c_X8_in l n1 0 1 v1 hv1) (va_cwS 3 hts gX8_won_X8_in rfl rfl rfl hd_X8_in ⟨Nat.le_of_ble_eq_true rfl, Nat.le_of_ble_eq_true rfl⟩) rfl hl.1 rfl (Nat.le_of_ble_eq_true rfl) dX8_won_4 ⟨Nat.zero_le _, Nat.zero_le _⟩ ?_
  refine lv_if_eq (tgt := 14) hx hb dX8_won_7 (by decide) (fun c2 => ?_) (fun c2 => ?_)
  · have hf := k_T c2 hf
    refine lv_iconst (v := 1) hx hb dX8_won_14 (by decide) ?_
    refine va_put (D := D) (ci := 5) (v := .int 1) (ty := .int) (C := RX8) (T := TX8) (N := 21) hx hb hts in_X8 tyX8 tyX8_ok nmX8 hown hK hP hD hS 0 rfl rfl 11 (by decide) fl37 (fun _ h9 => h9) rfl (by decide +kernel) rfl rfl (Nat.le_of_ble_eq_true rfl) dX8_won_15 (fun H locs hP hD hS => ?_)
    have hP : va_P D vwCl (wX8 cy h0 sa pa ka aa oa wa ca ta na mOp mIk mPa mRu 1 mTy mSp mFr mRe mCa mOr mLe rS rP rK rA rO rW rC rT rN) H := hP
    have hD : va_D A (wX8 cy h0 sa pa ka aa oa wa ca ta na mOp mIk mPa mRu 1 mTy mSp mFr mRe mCa mOr mLe rS rP rK rA rO rW rC rT rN) := hD
    refine lv_aload_n hx hb dX8_won_18 rfl (lv_at hl 0 rfl) ?_
    refine va_get (D := D) (ci := 5) (v := .int 1) (C := RX8) (T := TX8) (N := 21) hx hb hts in_X8 hown hK hP 0 rfl rfl 11 (by decide) fl37 (fun _ h9 => h9) rfl dX8_won_19 ?_
    refine lv_if_ne (tgt := 37) hx hb dX8_won_22 (by decide) (fun c3 => ?_) (fun c3 => ?_)
    · have hf := k_F c3 hf
      refine lv_iconst (v := 0) hx hb dX8_won_37 (by decide) ?_
      obtain rfl := k_some hf
      exact k_iret hx hb hr hP hD hS dX8_won_38 hlocks
    · have hf := k_T c3 hf
      refine lv_aload_n hx hb dX8_won_25 rfl (lv_at hl 0 rfl) ?_
      refine va_get (D := D) (ci := 5) (v := .ref sa) (C := RX8) (T := TX8) (N := 21) hx hb hts in_X8 hown hK hP 0 rfl rfl 0 (by decide) fl7 (fun _ h9 => h9) rfl dX8_won_26 ?_
      refine lv_bipush (v := 14) hx hb dX8_won_29 (by decide) ?_
      refine lv_iload_n hx hb dX8_won_31 rfl (lv_at hl 1 rfl) ?_
      refine lv_iadd hx hb dX8_won_32 ?_
      obtain ⟨g4, hf⟩ := k_G hf
      refine va_iald hx hb hK hP 1 0 rfl rfl g4 dX8_won_33 ?_
      refine lv_goto (tgt := 38) hx hb dX8_won_34 (by decide) ?_
      obtain rfl := k_some hf
      exact k_iret hx hb hr hP hD hS dX8_won_38 hlocks
  · have hf := k_F c2 hf
    refine lv_iconst (v := 0) hx hb dX8_won_10 (by decide) ?_
    refine lv_goto (tgt := 15) hx hb dX8_won_11 (by decide) ?_
    refine va_put (D := D) (ci := 5) (v := .int 0) (ty := .int) (C := RX8) (T := TX8) (N := 21) hx hb hts in_X8 tyX8 tyX8_ok nmX8 hown hK hP hD hS 0 rfl rfl 11 (by decide) fl37 (fun _ h9 => h9) rfl (by decide +kernel) rfl rfl (Nat.le_of_ble_eq_true rfl) dX8_won_15 (fun H locs hP hD hS => ?_)
    have hP : va_P D vwCl (wX8 cy h0 sa pa ka aa oa wa ca ta na mOp mIk mPa mRu 0 mTy mSp mFr mRe mCa mOr mLe rS rP rK rA rO rW rC rT rN) H := hP
    have hD : va_D A (wX8 cy h0 sa pa ka aa oa wa ca ta na mOp mIk mPa mRu 0 mTy mSp mFr mRe mCa mOr mLe rS rP rK rA rO rW rC rT rN) := hD
    refine lv_aload_n hx hb dX8_won_18 rfl (lv_at hl 0 rfl) ?_
    refine va_get (D := D) (ci := 5) (v := .int 0) (C := RX8) (T := TX8) (N := 21) hx hb hts in_X8 hown hK hP 0 rfl rfl 11 (by decide) fl37 (fun _ h9 => h9) rfl dX8_won_19 ?_
    refine lv_if_ne (tgt := 37) hx hb dX8_won_22 (by decide) (fun c5 => ?_) (fun c5 => ?_)
    · have hf := k_F c5 hf
      refine lv_iconst (v := 0) hx hb dX8_won_37 (by decide) ?_
      obtain rfl := k_some hf
      exact k_iret hx hb hr hP hD hS dX8_won_38 hlocks
    · have hf := k_T c5 hf
      refine lv_aload_n hx hb dX8_won_25 rfl (lv_at hl 0 rfl) ?_
      refine va_get (D := D) (ci := 5) (v := .ref sa) (C := RX8) (T := TX8) (N := 21) hx hb hts in_X8 hown hK hP 0 rfl rfl 0 (by decide) fl7 (fun _ h9 => h9) rfl dX8_won_26 ?_
      refine lv_bipush (v := 14) hx hb dX8_won_29 (by decide) ?_
      refine lv_iload_n hx hb dX8_won_31 rfl (lv_at hl 1 rfl) ?_
      refine lv_iadd hx hb dX8_won_32 ?_
      obtain ⟨g6, hf⟩ := k_G hf
      refine va_iald hx hb hK hP 1 0 rfl rfl g6 dX8_won_33 ?_
      refine lv_goto (tgt := 38) hx hb dX8_won_34 (by decide) ?_
      obtain rfl := k_some hf
      exact k_iret hx hb hr hP hD hS dX8_won_38 hlocks
def f_X8_evenGames (mLa : Int32) (rS : Nat → Int32) : Option (Int32 × Int32) :=
  (f_X8_told 16 mLa rS).bind fun v1 =>
  some (v1.1, v1.2)
abbrev rm_X8_evenGames : Room := { frames := 1, cells := 0, slots := 0, locals := 21 }
theorem hd_X8_evenGames : yX8_evenGames.cls = RX8 ∧ yX8_evenGames.cls ≠ "java/lang/invoke/MethodHandle" ∧ yX8_evenGames.cls ≠ "java/lang/invoke/VarHandle" ∧ (parseMethodDescriptor yX8_evenGames.desc).map (fun d => d.parameters.length) = some 0 := by decide +kernel
set_option maxHeartbeats 4000000 in
set_option maxRecDepth 100000 in
theorem c_X8_evenGames (l : Launch) (D : va_G) (cy : Nat → ClassId) (h0 sa pa ka aa oa wa ca ta na : Nat) (mOp : Int32) (mIk : Int32) (mPa : Int32) (mRu : Int32) (mLa : Int32) (mTy : Int32) (mSp : Int32) (mFr : Int32) (mRe : Int32) (mCa : Int32) (mOr : Int32) (mLe : Int32) (rS : Nat → Int32) (rP : Nat → Int32) (rK : Nat → Int32) (rA : Nat → Int32) (rO : Nat → Int32) (rW : Nat → Int32) (rC : Nat → Int32) (rT : Nat → Int32) (rN : Nat → Int32)  (r : Int32 × Int32) (hf : f_X8_evenGames mLa rS = some r) : k_HMet l yX8_evenGames wsX8_evenGames rm_X8_evenGames D (k_tys cy) [.ref h0] (wX8 cy h0 sa pa ka aa oa wa ca ta na mOp mIk mPa mRu mLa mTy mSp mFr mRe mCa mOr mLe rS rP rK rA rO rW rC rT rN) (some (.int r.1)) (wX8 cy h0 sa pa ka aa oa wa ca ta na mOp mIk mPa mRu r.2 mTy mSp mFr mRe mCa mOr mLe rS rP rK rA rO rW rC rT rN) := by
  refine k_heapOf (cc := cX8_evenGames) (maxL := 1) (ret := (some .int)) (by decide) rfl (Nat.le_of_ble_eq_true rfl) ?_
  intro p e s m args below meth c ls A hx hb hr hlocks hml hown hts hl hA hK hP hD hN
  have hl : lv_has ls 1 [(0, .ref h0)] := hl
  have hS : va_S A s.heap s.heap [] := va_S.rf
  unfold f_X8_evenGames at hf
  obtain ⟨H, eH⟩ : ∃ H, H = s.heap := ⟨_, rfl⟩
  obtain ⟨locs, elocs⟩ : ∃ L : List Loc, L = [] := ⟨_, rfl⟩
  have hP : va_P D vwCl (wX8 cy h0 sa pa ka aa oa wa ca ta na mOp mIk mPa mRu mLa mTy mSp mFr mRe mCa mOr mLe rS rP rK rA rO rW rC rT rN) H := by rw [eH]; exact hP
  have hS : va_S A s.heap H locs := by rw [eH, elocs]; exact hS
  refine k_here eH elocs ?_
  refine lv_aload_n hx hb dX8_evenGames_0 rfl (lv_at hl 0 rfl) ?_
  refine lv_bipush (v := 16) hx hb dX8_evenGames_1 (by decide) ?_
  obtain ⟨v1, hv1, hf⟩ := k_B hf
  refine k_callHV (As := [.int 16]) (rest := []) (r := (RX8, TX8, 21)) (ci := 5) (q0 := 0) (isC := [0, 1, 2, 3, 4, 5, 6, 7, 8, 9]) (isR := []) (perm := [0, 1, 2, 3, 4, 5, 6, 7, 8, 9]) (w' := (wX8 cy h0 sa pa ka aa oa wa ca ta na mOp mIk mPa mRu v1.2 mTy mSp mFr mRe mCa mOr mLe rS rP rK rA rO rW rC rT rN)) ⟨hx, hb, hml, hown, hts⟩ (c_X8_told l D cy h0 sa pa ka aa oa wa ca ta na mOp mIk mPa mRu mLa mTy mSp mFr mRe mCa mOr mLe rS rP rK rA rO rW rC rT rN 16 v1 hv1) (cwV 1 hts gX8_evenGames_X8_told rfl rfl rfl hd_X8_told ⟨Nat.le_of_ble_eq_true rfl, Nat.le_of_ble_eq_true rfl⟩) hK hN hP hD hS hA rfl rfl rfl rfl rfl rfl (by decide) rfl rfl rfl hl.1 rfl (Nat.le_of_ble_eq_true rfl) dX8_evenGames_3 ⟨Nat.zero_le _, Nat.zero_le _⟩ (fun H locs hP hD hS => ?_)
  obtain rfl := k_some hf
  exact k_iret hx hb hr hP hD hS dX8_evenGames_6 hlocks
def f_X8_doubleDeals (mLa : Int32) (rS : Nat → Int32) : Option (Int32 × Int32) :=
  (f_X8_told 17 mLa rS).bind fun v1 =>
  some (v1.1, v1.2)
abbrev rm_X8_doubleDeals : Room := { frames := 1, cells := 0, slots := 0, locals := 21 }
theorem hd_X8_doubleDeals : yX8_doubleDeals.cls = RX8 ∧ yX8_doubleDeals.cls ≠ "java/lang/invoke/MethodHandle" ∧ yX8_doubleDeals.cls ≠ "java/lang/invoke/VarHandle" ∧ (parseMethodDescriptor yX8_doubleDeals.desc).map (fun d => d.parameters.length) = some 0 := by decide +kernel
set_option maxHeartbeats 4000000 in
set_option maxRecDepth 100000 in
theorem c_X8_doubleDeals (l : Launch) (D : va_G) (cy : Nat → ClassId) (h0 sa pa ka aa oa wa ca ta na : Nat) (mOp : Int32) (mIk : Int32) (mPa : Int32) (mRu : Int32) (mLa : Int32) (mTy : Int32) (mSp : Int32) (mFr : Int32) (mRe : Int32) (mCa : Int32) (mOr : Int32) (mLe : Int32) (rS : Nat → Int32) (rP : Nat → Int32) (rK : Nat → Int32) (rA : Nat → Int32) (rO : Nat → Int32) (rW : Nat → Int32) (rC : Nat → Int32) (rT : Nat → Int32) (rN : Nat → Int32)  (r : Int32 × Int32) (hf : f_X8_doubleDeals mLa rS = some r) : k_HMet l yX8_doubleDeals wsX8_doubleDeals rm_X8_doubleDeals D (k_tys cy) [.ref h0] (wX8 cy h0 sa pa ka aa oa wa ca ta na mOp mIk mPa mRu mLa mTy mSp mFr mRe mCa mOr mLe rS rP rK rA rO rW rC rT rN) (some (.int r.1)) (wX8 cy h0 sa pa ka aa oa wa ca ta na mOp mIk mPa mRu r.2 mTy mSp mFr mRe mCa mOr mLe rS rP rK rA rO rW rC rT rN) := by
  refine k_heapOf (cc := cX8_doubleDeals) (maxL := 1) (ret := (some .int)) (by decide) rfl (Nat.le_of_ble_eq_true rfl) ?_
  intro p e s m args below meth c ls A hx hb hr hlocks hml hown hts hl hA hK hP hD hN
  have hl : lv_has ls 1 [(0, .ref h0)] := hl
  have hS : va_S A s.heap s.heap [] := va_S.rf
  unfold f_X8_doubleDeals at hf
  obtain ⟨H, eH⟩ : ∃ H, H = s.heap := ⟨_, rfl⟩
  obtain ⟨locs, elocs⟩ : ∃ L : List Loc, L = [] := ⟨_, rfl⟩
  have hP : va_P D vwCl (wX8 cy h0 sa pa ka aa oa wa ca ta na mOp mIk mPa mRu mLa mTy mSp mFr mRe mCa mOr mLe rS rP rK rA rO rW rC rT rN) H := by rw [eH]; exact hP
  have hS : va_S A s.heap H locs := by rw [eH, elocs]; exact hS
  refine k_here eH elocs ?_
  refine lv_aload_n hx hb dX8_doubleDeals_0 rfl (lv_at hl 0 rfl) ?_
  refine lv_bipush (v := 17) hx hb dX8_doubleDeals_1 (by decide) ?_
  obtain ⟨v1, hv1, hf⟩ := k_B hf
  refine k_callHV (As := [.int 17]) (rest := []) (r := (RX8, TX8, 21)) (ci := 5) (q0 := 0) (isC := [0, 1, 2, 3, 4, 5, 6, 7, 8, 9]) (isR := []) (perm := [0, 1, 2, 3, 4, 5, 6, 7, 8, 9]) (w' := (wX8 cy h0 sa pa ka aa oa wa ca ta na mOp mIk mPa mRu v1.2 mTy mSp mFr mRe mCa mOr mLe rS rP rK rA rO rW rC rT rN)) ⟨hx, hb, hml, hown, hts⟩ (c_X8_told l D cy h0 sa pa ka aa oa wa ca ta na mOp mIk mPa mRu mLa mTy mSp mFr mRe mCa mOr mLe rS rP rK rA rO rW rC rT rN 17 v1 hv1) (cwV 1 hts gX8_doubleDeals_X8_told rfl rfl rfl hd_X8_told ⟨Nat.le_of_ble_eq_true rfl, Nat.le_of_ble_eq_true rfl⟩) hK hN hP hD hS hA rfl rfl rfl rfl rfl rfl (by decide) rfl rfl rfl hl.1 rfl (Nat.le_of_ble_eq_true rfl) dX8_doubleDeals_3 ⟨Nat.zero_le _, Nat.zero_le _⟩ (fun H locs hP hD hS => ?_)
  obtain rfl := k_some hf
  exact k_iret hx hb hr hP hD hS dX8_doubleDeals_6 hlocks
def f_X8_keep (mIk : Int32) (mLa : Int32) (rS : Nat → Int32) (rK : Nat → Int32) : Option (Int32 × Int32 × Int32 × (Nat → Int32)) :=
  (f_X8_copies rS rK).bind fun v1 =>
  some (rS 18, 1, 0, v1)
abbrev rm_X8_keep : Room := { frames := 1, cells := 0, slots := 0, locals := 22 }
theorem hd_X8_keep : yX8_keep.cls = RX8 ∧ yX8_keep.cls ≠ "java/lang/invoke/MethodHandle" ∧ yX8_keep.cls ≠ "java/lang/invoke/VarHandle" ∧ (parseMethodDescriptor yX8_keep.desc).map (fun d => d.parameters.length) = some 0 := by decide +kernel
set_option maxHeartbeats 4000000 in
set_option maxRecDepth 100000 in
theorem c_X8_keep (l : Launch) (D : va_G) (cy : Nat → ClassId) (h0 sa pa ka aa oa wa ca ta na : Nat) (mOp : Int32) (mIk : Int32) (mPa : Int32) (mRu : Int32) (mLa : Int32) (mTy : Int32) (mSp : Int32) (mFr : Int32) (mRe : Int32) (mCa : Int32) (mOr : Int32) (mLe : Int32) (rS : Nat → Int32) (rP : Nat → Int32) (rK : Nat → Int32) (rA : Nat → Int32) (rO : Nat → Int32) (rW : Nat → Int32) (rC : Nat → Int32) (rT : Nat → Int32) (rN : Nat → Int32)  (r : Int32 × Int32 × Int32 × (Nat → Int32)) (hf : f_X8_keep mIk mLa rS rK = some r) : k_HMet l yX8_keep wsX8_keep rm_X8_keep D (k_tys cy) [.ref h0] (wX8 cy h0 sa pa ka aa oa wa ca ta na mOp mIk mPa mRu mLa mTy mSp mFr mRe mCa mOr mLe rS rP rK rA rO rW rC rT rN) (some (.int r.1)) (wX8 cy h0 sa pa ka aa oa wa ca ta na mOp r.2.1 mPa mRu r.2.2.1 mTy mSp mFr mRe mCa mOr mLe rS rP r.2.2.2 rA rO rW rC rT rN) := by
  refine k_heapOf (cc := cX8_keep) (maxL := 1) (ret := (some .int)) (by decide) rfl (Nat.le_of_ble_eq_true rfl) ?_
  intro p e s m args below meth c ls A hx hb hr hlocks hml hown hts hl hA hK hP hD hN
  have hl : lv_has ls 1 [(0, .ref h0)] := hl
  have hS : va_S A s.heap s.heap [] := va_S.rf
  have in_X8 : ∀ w ∈ wsX80, w ∈ wsX8_keep := by decide +kernel
  have fl7 := hts (.fieldLink RX8 7 "FencedBoxesModel" "s" "[I") (by decide +kernel)
  have fl16 := hts (.fieldLink RX8 16 "FencedBoxesModel" "kept" "[I") (by decide +kernel)
  have fl37 := hts (.fieldLink RX8 37 "FencedBoxesModel" "last" "I") (by decide +kernel)
  have fl149 := hts (.fieldLink RX8 149 "FencedBoxesModel" "isKept" "Z") (by decide +kernel)
  unfold f_X8_keep at hf
  obtain ⟨H, eH⟩ : ∃ H, H = s.heap := ⟨_, rfl⟩
  obtain ⟨locs, elocs⟩ : ∃ L : List Loc, L = [] := ⟨_, rfl⟩
  have hP : va_P D vwCl (wX8 cy h0 sa pa ka aa oa wa ca ta na mOp mIk mPa mRu mLa mTy mSp mFr mRe mCa mOr mLe rS rP rK rA rO rW rC rT rN) H := by rw [eH]; exact hP
  have hS : va_S A s.heap H locs := by rw [eH, elocs]; exact hS
  refine k_here eH elocs ?_
  refine lv_aload_n hx hb dX8_keep_0 rfl (lv_at hl 0 rfl) ?_
  refine lv_iconst (v := 0) hx hb dX8_keep_1 (by decide) ?_
  refine va_put (D := D) (ci := 5) (v := .int 0) (ty := .int) (C := RX8) (T := TX8) (N := 21) hx hb hts in_X8 tyX8 tyX8_ok nmX8 hown hK hP hD hS 0 rfl rfl 11 (by decide) fl37 (fun _ h9 => h9) rfl (by decide +kernel) rfl rfl (Nat.le_of_ble_eq_true rfl) dX8_keep_2 (fun H locs hP hD hS => ?_)
  have hP : va_P D vwCl (wX8 cy h0 sa pa ka aa oa wa ca ta na mOp mIk mPa mRu 0 mTy mSp mFr mRe mCa mOr mLe rS rP rK rA rO rW rC rT rN) H := hP
  have hD : va_D A (wX8 cy h0 sa pa ka aa oa wa ca ta na mOp mIk mPa mRu 0 mTy mSp mFr mRe mCa mOr mLe rS rP rK rA rO rW rC rT rN) := hD
  refine lv_aload_n hx hb dX8_keep_5 rfl (lv_at hl 0 rfl) ?_
  refine lv_iconst (v := 1) hx hb dX8_keep_6 (by decide) ?_
  refine va_put (D := D) (ci := 5) (v := .int 1) (ty := .boolean) (C := RX8) (T := TX8) (N := 21) hx hb hts in_X8 tyX8 tyX8_ok nmX8 hown hK hP hD hS 0 rfl rfl 8 (by decide) fl149 (fun _ h9 => h9) rfl (by decide +kernel) rfl rfl (Nat.le_of_ble_eq_true rfl) dX8_keep_7 (fun H locs hP hD hS => ?_)
  have hP : va_P D vwCl (wX8 cy h0 sa pa ka aa oa wa ca ta na mOp 1 mPa mRu 0 mTy mSp mFr mRe mCa mOr mLe rS rP rK rA rO rW rC rT rN) H := hP
  have hD : va_D A (wX8 cy h0 sa pa ka aa oa wa ca ta na mOp 1 mPa mRu 0 mTy mSp mFr mRe mCa mOr mLe rS rP rK rA rO rW rC rT rN) := hD
  refine lv_aload_n hx hb dX8_keep_10 rfl (lv_at hl 0 rfl) ?_
  refine va_get (D := D) (ci := 5) (v := .ref sa) (C := RX8) (T := TX8) (N := 21) hx hb hts in_X8 hown hK hP 0 rfl rfl 0 (by decide) fl7 (fun _ h9 => h9) rfl dX8_keep_11 ?_
  refine lv_aload_n hx hb dX8_keep_14 rfl (lv_at hl 0 rfl) ?_
  refine va_get (D := D) (ci := 5) (v := .ref ka) (C := RX8) (T := TX8) (N := 21) hx hb hts in_X8 hown hK hP 0 rfl rfl 2 (by decide) fl16 (fun _ h9 => h9) rfl dX8_keep_15 ?_
  obtain ⟨v1, hv1, hf⟩ := k_B hf
  refine k_callHS (As := [.ref sa, .ref ka]) (rest := []) (isC := [1, 3]) (isR := [0, 2, 4, 5, 6, 7, 8, 9]) (perm := [0, 8, 1, 9, 2, 3, 4, 5, 6, 7]) (w' := (wX8 cy h0 sa pa ka aa oa wa ca ta na mOp 1 mPa mRu 0 mTy mSp mFr mRe mCa mOr mLe rS rP v1 rA rO rW rC rT rN)) ⟨hx, hb, hml, hown, hts⟩ (c_X8_copies l D cy sa ka rS rK  v1 hv1) (va_cwS 2 hts gX8_keep_X8_copies rfl rfl rfl hd_X8_copies ⟨Nat.le_of_ble_eq_true rfl, Nat.le_of_ble_eq_true rfl⟩) hK hN hP hD hS hA rfl rfl rfl rfl (by decide) rfl rfl rfl hl.1 rfl (Nat.le_of_ble_eq_true rfl) dX8_keep_18 ⟨Nat.zero_le _, Nat.zero_le _⟩ (fun H locs hP hD hS => ?_)
  refine lv_aload_n hx hb dX8_keep_21 rfl (lv_at hl 0 rfl) ?_
  refine va_get (D := D) (ci := 5) (v := .ref sa) (C := RX8) (T := TX8) (N := 21) hx hb hts in_X8 hown hK hP 0 rfl rfl 0 (by decide) fl7 (fun _ h9 => h9) rfl dX8_keep_22 ?_
  refine lv_bipush (v := 18) hx hb dX8_keep_25 (by decide) ?_
  refine va_iald hx hb hK hP 1 0 rfl rfl (k_in (i := 18) (n := 19) (by decide +kernel)) dX8_keep_27 ?_
  refine k_name (v := rS 18) rfl ?_
  obtain rfl := k_some hf
  exact k_iret hx hb hr hP hD hS dX8_keep_28 hlocks
def f_X8_goBack (mIk : Int32) (mPa : Int32) (mRu : Int32) (mLa : Int32) (rS : Nat → Int32) (rP : Nat → Int32) (rK : Nat → Int32) : Option (Int32 × Int32 × Int32 × (Nat → Int32) × (Nat → Int32)) :=
  if mIk = 0 then
    (f_X8_fails 1 0).bind fun v4 =>
    some (v4.1, mPa, v4.2, rS, rP)
  else
    (f_X8_changes mPa mRu rS rP).bind fun v2 =>
    (f_X8_copies rK rS).bind fun v3 =>
    some (v3 18, v2.1, 0, v3, v2.2)
abbrev rm_X8_goBack : Room := { frames := 1, cells := 0, slots := 0, locals := 22 }
theorem hd_X8_goBack : yX8_goBack.cls = RX8 ∧ yX8_goBack.cls ≠ "java/lang/invoke/MethodHandle" ∧ yX8_goBack.cls ≠ "java/lang/invoke/VarHandle" ∧ (parseMethodDescriptor yX8_goBack.desc).map (fun d => d.parameters.length) = some 0 := by decide +kernel
set_option maxHeartbeats 4000000 in
set_option maxRecDepth 100000 in
theorem c_X8_goBack (l : Launch) (D : va_G) (cy : Nat → ClassId) (h0 sa pa ka aa oa wa ca ta na : Nat) (mOp : Int32) (mIk : Int32) (mPa : Int32) (mRu : Int32) (mLa : Int32) (mTy : Int32) (mSp : Int32) (mFr : Int32) (mRe : Int32) (mCa : Int32) (mOr : Int32) (mLe : Int32) (rS : Nat → Int32) (rP : Nat → Int32) (rK : Nat → Int32) (rA : Nat → Int32) (rO : Nat → Int32) (rW : Nat → Int32) (rC : Nat → Int32) (rT : Nat → Int32) (rN : Nat → Int32)  (r : Int32 × Int32 × Int32 × (Nat → Int32) × (Nat → Int32)) (hf : f_X8_goBack mIk mPa mRu mLa rS rP rK = some r) : k_HMet l yX8_goBack wsX8_goBack rm_X8_goBack D (k_tys cy) [.ref h0] (wX8 cy h0 sa pa ka aa oa wa ca ta na mOp mIk mPa mRu mLa mTy mSp mFr mRe mCa mOr mLe rS rP rK rA rO rW rC rT rN) (some (.int r.1)) (wX8 cy h0 sa pa ka aa oa wa ca ta na mOp mIk r.2.1 mRu r.2.2.1 mTy mSp mFr mRe mCa mOr mLe r.2.2.2.1 r.2.2.2.2 rK rA rO rW rC rT rN) := by
  refine k_heapOf (cc := cX8_goBack) (maxL := 1) (ret := (some .int)) (by decide) rfl (Nat.le_of_ble_eq_true rfl) ?_
  intro p e s m args below meth c ls A hx hb hr hlocks hml hown hts hl hA hK hP hD hN
  have hl : lv_has ls 1 [(0, .ref h0)] := hl
  have hS : va_S A s.heap s.heap [] := va_S.rf
  have in_X8 : ∀ w ∈ wsX80, w ∈ wsX8_goBack := by decide +kernel
  have fl7 := hts (.fieldLink RX8 7 "FencedBoxesModel" "s" "[I") (by decide +kernel)
  have fl16 := hts (.fieldLink RX8 16 "FencedBoxesModel" "kept" "[I") (by decide +kernel)
  have fl37 := hts (.fieldLink RX8 37 "FencedBoxesModel" "last" "I") (by decide +kernel)
  have fl149 := hts (.fieldLink RX8 149 "FencedBoxesModel" "isKept" "Z") (by decide +kernel)
  unfold f_X8_goBack at hf
  obtain ⟨H, eH⟩ : ∃ H, H = s.heap := ⟨_, rfl⟩
  obtain ⟨locs, elocs⟩ : ∃ L : List Loc, L = [] := ⟨_, rfl⟩
  have hP : va_P D vwCl (wX8 cy h0 sa pa ka aa oa wa ca ta na mOp mIk mPa mRu mLa mTy mSp mFr mRe mCa mOr mLe rS rP rK rA rO rW rC rT rN) H := by rw [eH]; exact hP
  have hS : va_S A s.heap H locs := by rw [eH, elocs]; exact hS
  refine k_here eH elocs ?_
  refine lv_aload_n hx hb dX8_goBack_0 rfl (lv_at hl 0 rfl) ?_
  refine lv_iconst (v := 0) hx hb dX8_goBack_1 (by decide) ?_
  refine va_put (D := D) (ci := 5) (v := .int 0) (ty := .int) (C := RX8) (T := TX8) (N := 21) hx hb hts in_X8 tyX8 tyX8_ok nmX8 hown hK hP hD hS 0 rfl rfl 11 (by decide) fl37 (fun _ h9 => h9) rfl (by decide +kernel) rfl rfl (Nat.le_of_ble_eq_true rfl) dX8_goBack_2 (fun H locs hP hD hS => ?_)
  have hP : va_P D vwCl (wX8 cy h0 sa pa ka aa oa wa ca ta na mOp mIk mPa mRu 0 mTy mSp mFr mRe mCa mOr mLe rS rP rK rA rO rW rC rT rN) H := hP
  have hD : va_D A (wX8 cy h0 sa pa ka aa oa wa ca ta na mOp mIk mPa mRu 0 mTy mSp mFr mRe mCa mOr mLe rS rP rK rA rO rW rC rT rN) := hD
  refine lv_aload_n hx hb dX8_goBack_5 rfl (lv_at hl 0 rfl) ?_
  refine va_get (D := D) (ci := 5) (v := .int mIk) (C := RX8) (T := TX8) (N := 21) hx hb hts in_X8 hown hK hP 0 rfl rfl 8 (by decide) fl149 (fun _ h9 => h9) rfl dX8_goBack_6 ?_
  refine lv_if_ne (tgt := 18) hx hb dX8_goBack_9 (by decide) (fun c1 => ?_) (fun c1 => ?_)
  · have hf := k_F c1 hf
    refine lv_aload_n hx hb dX8_goBack_18 rfl (lv_at hl 0 rfl) ?_
    obtain ⟨v2, hv2, hf⟩ := k_B hf
    refine k_callHV (As := []) (rest := []) (r := (RX8, TX8, 21)) (ci := 5) (q0 := 0) (isC := [0, 1, 2, 3, 4, 5, 6, 7, 8, 9]) (isR := []) (perm := [0, 1, 2, 3, 4, 5, 6, 7, 8, 9]) (w' := (wX8 cy h0 sa pa ka aa oa wa ca ta na mOp mIk v2.1 mRu 0 mTy mSp mFr mRe mCa mOr mLe rS v2.2 rK rA rO rW rC rT rN)) ⟨hx, hb, hml, hown, hts⟩ (c_X8_changes l D cy h0 sa pa ka aa oa wa ca ta na mOp mIk mPa mRu 0 mTy mSp mFr mRe mCa mOr mLe rS rP rK rA rO rW rC rT rN  v2 hv2) (cwV 0 hts gX8_goBack_X8_changes rfl rfl rfl hd_X8_changes ⟨Nat.le_of_ble_eq_true rfl, Nat.le_of_ble_eq_true rfl⟩) hK hN hP hD hS hA rfl rfl rfl rfl rfl rfl (by decide) rfl rfl rfl hl.1 rfl (Nat.le_of_ble_eq_true rfl) dX8_goBack_19 ⟨Nat.zero_le _, Nat.zero_le _⟩ (fun H locs hP hD hS => ?_)
    refine lv_aload_n hx hb dX8_goBack_22 rfl (lv_at hl 0 rfl) ?_
    refine va_get (D := D) (ci := 5) (v := .ref ka) (C := RX8) (T := TX8) (N := 21) hx hb hts in_X8 hown hK hP 0 rfl rfl 2 (by decide) fl16 (fun _ h9 => h9) rfl dX8_goBack_23 ?_
    refine lv_aload_n hx hb dX8_goBack_26 rfl (lv_at hl 0 rfl) ?_
    refine va_get (D := D) (ci := 5) (v := .ref sa) (C := RX8) (T := TX8) (N := 21) hx hb hts in_X8 hown hK hP 0 rfl rfl 0 (by decide) fl7 (fun _ h9 => h9) rfl dX8_goBack_27 ?_
    obtain ⟨v3, hv3, hf⟩ := k_B hf
    refine k_callHS (As := [.ref ka, .ref sa]) (rest := []) (isC := [3, 1]) (isR := [0, 2, 4, 5, 6, 7, 8, 9]) (perm := [0, 9, 1, 8, 2, 3, 4, 5, 6, 7]) (w' := (wX8 cy h0 sa pa ka aa oa wa ca ta na mOp mIk v2.1 mRu 0 mTy mSp mFr mRe mCa mOr mLe v3 v2.2 rK rA rO rW rC rT rN)) ⟨hx, hb, hml, hown, hts⟩ (c_X8_copies l D cy ka sa rK rS  v3 hv3) (va_cwS 2 hts gX8_goBack_X8_copies rfl rfl rfl hd_X8_copies ⟨Nat.le_of_ble_eq_true rfl, Nat.le_of_ble_eq_true rfl⟩) hK hN hP hD hS hA rfl rfl rfl rfl (by decide) rfl rfl rfl hl.1 rfl (Nat.le_of_ble_eq_true rfl) dX8_goBack_30 ⟨Nat.zero_le _, Nat.zero_le _⟩ (fun H locs hP hD hS => ?_)
    refine lv_aload_n hx hb dX8_goBack_33 rfl (lv_at hl 0 rfl) ?_
    refine va_get (D := D) (ci := 5) (v := .ref sa) (C := RX8) (T := TX8) (N := 21) hx hb hts in_X8 hown hK hP 0 rfl rfl 0 (by decide) fl7 (fun _ h9 => h9) rfl dX8_goBack_34 ?_
    refine lv_bipush (v := 18) hx hb dX8_goBack_37 (by decide) ?_
    refine va_iald hx hb hK hP 1 0 rfl rfl (k_in (i := 18) (n := 19) (by decide +kernel)) dX8_goBack_39 ?_
    refine k_name (v := v3 18) rfl ?_
    obtain rfl := k_some hf
    exact k_iret hx hb hr hP hD hS dX8_goBack_40 hlocks
  · have hf := k_T c1 hf
    refine lv_aload_n hx hb dX8_goBack_12 rfl (lv_at hl 0 rfl) ?_
    refine lv_iconst (v := 1) hx hb dX8_goBack_13 (by decide) ?_
    obtain ⟨v4, hv4, hf⟩ := k_B hf
    refine k_callHV (As := [.int 1]) (rest := []) (r := (RX8, TX8, 21)) (ci := 5) (q0 := 0) (isC := [0, 1, 2, 3, 4, 5, 6, 7, 8, 9]) (isR := []) (perm := [0, 1, 2, 3, 4, 5, 6, 7, 8, 9]) (w' := (wX8 cy h0 sa pa ka aa oa wa ca ta na mOp mIk mPa mRu v4.2 mTy mSp mFr mRe mCa mOr mLe rS rP rK rA rO rW rC rT rN)) ⟨hx, hb, hml, hown, hts⟩ (c_X8_fails l D cy h0 sa pa ka aa oa wa ca ta na mOp mIk mPa mRu 0 mTy mSp mFr mRe mCa mOr mLe rS rP rK rA rO rW rC rT rN 1 v4 hv4) (cwV 1 hts gX8_goBack_X8_fails rfl rfl rfl hd_X8_fails ⟨Nat.le_of_ble_eq_true rfl, Nat.le_of_ble_eq_true rfl⟩) hK hN hP hD hS hA rfl rfl rfl rfl rfl rfl (by decide) rfl rfl rfl hl.1 rfl (Nat.le_of_ble_eq_true rfl) dX8_goBack_14 ⟨Nat.zero_le _, Nat.zero_le _⟩ (fun H locs hP hD hS => ?_)
    obtain rfl := k_some hf
    exact k_iret hx hb hr hP hD hS dX8_goBack_17 hlocks
def f_X8_states (mPa : Int32) (mLa : Int32) : Option (Int32 × Int32) :=
  some (mPa, 0)
abbrev rm_X8_states : Room := { frames := 0, cells := 0, slots := 0, locals := 0 }
theorem hd_X8_states : yX8_states.cls = RX8 ∧ yX8_states.cls ≠ "java/lang/invoke/MethodHandle" ∧ yX8_states.cls ≠ "java/lang/invoke/VarHandle" ∧ (parseMethodDescriptor yX8_states.desc).map (fun d => d.parameters.length) = some 0 := by decide +kernel
set_option maxHeartbeats 4000000 in
set_option maxRecDepth 100000 in
theorem c_X8_states (l : Launch) (D : va_G) (cy : Nat → ClassId) (h0 sa pa ka aa oa wa ca ta na : Nat) (mOp : Int32) (mIk : Int32) (mPa : Int32) (mRu : Int32) (mLa : Int32) (mTy : Int32) (mSp : Int32) (mFr : Int32) (mRe : Int32) (mCa : Int32) (mOr : Int32) (mLe : Int32) (rS : Nat → Int32) (rP : Nat → Int32) (rK : Nat → Int32) (rA : Nat → Int32) (rO : Nat → Int32) (rW : Nat → Int32) (rC : Nat → Int32) (rT : Nat → Int32) (rN : Nat → Int32)  (r : Int32 × Int32) (hf : f_X8_states mPa mLa = some r) : k_HMet l yX8_states wsX8_states rm_X8_states D (k_tys cy) [.ref h0] (wX8 cy h0 sa pa ka aa oa wa ca ta na mOp mIk mPa mRu mLa mTy mSp mFr mRe mCa mOr mLe rS rP rK rA rO rW rC rT rN) (some (.int r.1)) (wX8 cy h0 sa pa ka aa oa wa ca ta na mOp mIk mPa mRu r.2 mTy mSp mFr mRe mCa mOr mLe rS rP rK rA rO rW rC rT rN) := by
  refine k_heapOf (cc := cX8_states) (maxL := 1) (ret := (some .int)) (by decide) rfl (Nat.le_of_ble_eq_true rfl) ?_
  intro p e s m args below meth c ls A hx hb hr hlocks hml hown hts hl hA hK hP hD hN
  have hl : lv_has ls 1 [(0, .ref h0)] := hl
  have hS : va_S A s.heap s.heap [] := va_S.rf
  have in_X8 : ∀ w ∈ wsX80, w ∈ wsX8_states := by decide +kernel
  have fl37 := hts (.fieldLink RX8 37 "FencedBoxesModel" "last" "I") (by decide +kernel)
  have fl45 := hts (.fieldLink RX8 45 "FencedBoxesModel" "pasts" "I") (by decide +kernel)
  unfold f_X8_states at hf
  obtain ⟨H, eH⟩ : ∃ H, H = s.heap := ⟨_, rfl⟩
  obtain ⟨locs, elocs⟩ : ∃ L : List Loc, L = [] := ⟨_, rfl⟩
  have hP : va_P D vwCl (wX8 cy h0 sa pa ka aa oa wa ca ta na mOp mIk mPa mRu mLa mTy mSp mFr mRe mCa mOr mLe rS rP rK rA rO rW rC rT rN) H := by rw [eH]; exact hP
  have hS : va_S A s.heap H locs := by rw [eH, elocs]; exact hS
  refine k_here eH elocs ?_
  refine lv_aload_n hx hb dX8_states_0 rfl (lv_at hl 0 rfl) ?_
  refine lv_iconst (v := 0) hx hb dX8_states_1 (by decide) ?_
  refine va_put (D := D) (ci := 5) (v := .int 0) (ty := .int) (C := RX8) (T := TX8) (N := 21) hx hb hts in_X8 tyX8 tyX8_ok nmX8 hown hK hP hD hS 0 rfl rfl 11 (by decide) fl37 (fun _ h9 => h9) rfl (by decide +kernel) rfl rfl (Nat.le_of_ble_eq_true rfl) dX8_states_2 (fun H locs hP hD hS => ?_)
  have hP : va_P D vwCl (wX8 cy h0 sa pa ka aa oa wa ca ta na mOp mIk mPa mRu 0 mTy mSp mFr mRe mCa mOr mLe rS rP rK rA rO rW rC rT rN) H := hP
  have hD : va_D A (wX8 cy h0 sa pa ka aa oa wa ca ta na mOp mIk mPa mRu 0 mTy mSp mFr mRe mCa mOr mLe rS rP rK rA rO rW rC rT rN) := hD
  refine lv_aload_n hx hb dX8_states_5 rfl (lv_at hl 0 rfl) ?_
  refine va_get (D := D) (ci := 5) (v := .int mPa) (C := RX8) (T := TX8) (N := 21) hx hb hts in_X8 hown hK hP 0 rfl rfl 9 (by decide) fl45 (fun _ h9 => h9) rfl dX8_states_6 ?_
  obtain rfl := k_some hf
  exact k_iret hx hb hr hP hD hS dX8_states_9 hlocks
def t_X8_undo_30 (mPa : Int32) (rP : Nat → Int32) (s30 : Int32 × (Nat → Int32)) : Option ((Int32 × (Nat → Int32)) ⊕ (Int32 × (Nat → Int32))) :=
  if 19 ≤ s30.1 then
    some (.inr (s30.1, s30.2))
  else
    if (((19 : Int32) * mPa) + s30.1) < 0 ∨ 76 ≤ (((19 : Int32) * mPa) + s30.1).toNatClampNeg then none else
    if s30.1 < 0 ∨ 19 ≤ s30.1.toNatClampNeg then none else
    k_let (upd s30.2 s30.1.toNatClampNeg (rP (((19 : Int32) * mPa) + s30.1).toNatClampNeg)) fun w6 =>
    some (.inl (s30.1 + 1, w6))
def f_X8_undo (mPa : Int32) (mLa : Int32) (rS : Nat → Int32) (rP : Nat → Int32) : Option (Int32 × Int32 × Int32 × (Nat → Int32)) :=
  if mPa = 0 then
    (f_X8_fails 1 0).bind fun v8 =>
    some (v8.1, mPa, v8.2, rS)
  else
    k_let (mPa - 1) fun y2 =>
    (k_loop (t_X8_undo_30 y2 rP) 1000 (0, rS)).bind fun x7 =>
    some (y2, y2, 0, x7.2)
abbrev rm_X8_undo : Room := { frames := 1, cells := 0, slots := 0, locals := 21 }
theorem hd_X8_undo : yX8_undo.cls = RX8 ∧ yX8_undo.cls ≠ "java/lang/invoke/MethodHandle" ∧ yX8_undo.cls ≠ "java/lang/invoke/VarHandle" ∧ (parseMethodDescriptor yX8_undo.desc).map (fun d => d.parameters.length) = some 0 := by decide +kernel
set_option maxHeartbeats 4000000 in
set_option maxRecDepth 100000 in
theorem c_X8_undo (l : Launch) (D : va_G) (cy : Nat → ClassId) (h0 sa pa ka aa oa wa ca ta na : Nat) (mOp : Int32) (mIk : Int32) (mPa : Int32) (mRu : Int32) (mLa : Int32) (mTy : Int32) (mSp : Int32) (mFr : Int32) (mRe : Int32) (mCa : Int32) (mOr : Int32) (mLe : Int32) (rS : Nat → Int32) (rP : Nat → Int32) (rK : Nat → Int32) (rA : Nat → Int32) (rO : Nat → Int32) (rW : Nat → Int32) (rC : Nat → Int32) (rT : Nat → Int32) (rN : Nat → Int32)  (r : Int32 × Int32 × Int32 × (Nat → Int32)) (hf : f_X8_undo mPa mLa rS rP = some r) : k_HMet l yX8_undo wsX8_undo rm_X8_undo D (k_tys cy) [.ref h0] (wX8 cy h0 sa pa ka aa oa wa ca ta na mOp mIk mPa mRu mLa mTy mSp mFr mRe mCa mOr mLe rS rP rK rA rO rW rC rT rN) (some (.int r.1)) (wX8 cy h0 sa pa ka aa oa wa ca ta na mOp mIk r.2.1 mRu r.2.2.1 mTy mSp mFr mRe mCa mOr mLe r.2.2.2 rP rK rA rO rW rC rT rN) := by
  refine k_heapOf (cc := cX8_undo) (maxL := 2) (ret := (some .int)) (by decide) rfl (Nat.le_of_ble_eq_true rfl) ?_
  intro p e s m args below meth c ls A hx hb hr hlocks hml hown hts hl hA hK hP hD hN
  have hl : lv_has ls 2 [(0, .ref h0)] := hl
  have hS : va_S A s.heap s.heap [] := va_S.rf
  have in_X8 : ∀ w ∈ wsX80, w ∈ wsX8_undo := by decide +kernel
  have fl7 := hts (.fieldLink RX8 7 "FencedBoxesModel" "s" "[I") (by decide +kernel)
  have fl13 := hts (.fieldLink RX8 13 "FencedBoxesModel" "past" "[I") (by decide +kernel)
  have fl37 := hts (.fieldLink RX8 37 "FencedBoxesModel" "last" "I") (by decide +kernel)
  have fl45 := hts (.fieldLink RX8 45 "FencedBoxesModel" "pasts" "I") (by decide +kernel)
  have L30 : ∀ (Q : State → Prop) (n : Nat) (mOp : Int32) (mIk : Int32) (mPa : Int32) (mRu : Int32) (mLa : Int32) (mTy : Int32) (mSp : Int32) (mFr : Int32) (mRe : Int32) (mCa : Int32) (mOr : Int32) (mLe : Int32) (rP : Nat → Int32) (rK : Nat → Int32) (rA : Nat → Int32) (rO : Nat → Int32) (rW : Nat → Int32) (rC : Nat → Int32) (rT : Nat → Int32) (rN : Nat → Int32) (s30 : Int32 × (Nat → Int32)) (q : (Int32 × (Nat → Int32))), k_loop (t_X8_undo_30 mPa rP) n s30 = some q → ∀ (ls : Array Slot) (H : Heap) (locs : List Loc), lv_has ls 2 [(0, .ref h0), (1, .int s30.1)] → va_P D vwCl (wX8 cy h0 sa pa ka aa oa wa ca ta na mOp mIk mPa mRu mLa mTy mSp mFr mRe mCa mOr mLe s30.2 rP rK rA rO rW rC rT rN) H → va_D A (wX8 cy h0 sa pa ka aa oa wa ca ta na mOp mIk mPa mRu mLa mTy mSp mFr mRe mCa mOr mLe s30.2 rP rK rA rO rW rC rT rN) → va_S A s.heap H locs → (∀ (ls : Array Slot) (H : Heap) (locs : List Loc), True → lv_has ls 2 [(0, .ref h0)] → va_P D vwCl (wX8 cy h0 sa pa ka aa oa wa ca ta na mOp mIk mPa mRu mLa mTy mSp mFr mRe mCa mOr mLe q.2 rP rK rA rO rW rC rT rN) H → va_D A (wX8 cy h0 sa pa ka aa oa wa ca ta na mOp mIk mPa mRu mLa mTy mSp mFr mRe mCa mOr mLe q.2 rP rK rA rO rW rC rT rN) → va_S A s.heap H locs → W p l e rm_X8_undo s m args below meth c H locs 0 0 Q (F0 m 62 ls [])) → W p l e rm_X8_undo s m args below meth c H locs 0 0 Q (F0 m 30 ls []) := by
    intro Q n
    induction n with
    | zero =>
      intro mOp mIk mPa mRu mLa mTy mSp mFr mRe mCa mOr mLe rP rK rA rO rW rC rT rN s30 q hq
      exact (k_loop0 hq).elim
    | succ n ih =>
      intro mOp mIk mPa mRu mLa mTy mSp mFr mRe mCa mOr mLe rP rK rA rO rW rC rT rN s30 q hq ls H locs hl hP hD hS kx 
      obtain ⟨x, hf, hq⟩ := k_loopE hq
      unfold t_X8_undo_30 at hf
      refine lv_iload_n hx hb dX8_undo_30 rfl (lv_at hl 1 rfl) ?_
      refine lv_bipush (v := 19) hx hb dX8_undo_31 (by decide) ?_
      refine lv_icmp_ge (tgt := 62) hx hb dX8_undo_33 (by decide) (fun c3 => ?_) (fun c3 => ?_)
      · have hf := k_T c3 hf
        obtain rfl := k_some hf
        obtain rfl := k_some (k_inr hq)
        exact kx ls H locs trivial (lv_sub hl [0] rfl) hP hD hS
      · have hf := k_F c3 hf
        refine lv_aload_n hx hb dX8_undo_36 rfl (lv_at hl 0 rfl) ?_
        refine va_get (D := D) (ci := 5) (v := .ref sa) (C := RX8) (T := TX8) (N := 21) hx hb hts in_X8 hown hK hP 0 rfl rfl 0 (by decide) fl7 (fun _ h9 => h9) rfl dX8_undo_37 ?_
        refine lv_iload_n hx hb dX8_undo_40 rfl (lv_at hl 1 rfl) ?_
        refine lv_aload_n hx hb dX8_undo_41 rfl (lv_at hl 0 rfl) ?_
        refine va_get (D := D) (ci := 5) (v := .ref pa) (C := RX8) (T := TX8) (N := 21) hx hb hts in_X8 hown hK hP 0 rfl rfl 1 (by decide) fl13 (fun _ h9 => h9) rfl dX8_undo_42 ?_
        refine lv_bipush (v := 19) hx hb dX8_undo_45 (by decide) ?_
        refine lv_aload_n hx hb dX8_undo_47 rfl (lv_at hl 0 rfl) ?_
        refine va_get (D := D) (ci := 5) (v := .int mPa) (C := RX8) (T := TX8) (N := 21) hx hb hts in_X8 hown hK hP 0 rfl rfl 9 (by decide) fl45 (fun _ h9 => h9) rfl dX8_undo_48 ?_
        refine lv_imul hx hb dX8_undo_51 ?_
        refine lv_iload_n hx hb dX8_undo_52 rfl (lv_at hl 1 rfl) ?_
        refine lv_iadd hx hb dX8_undo_53 ?_
        obtain ⟨g4, hf⟩ := k_G hf
        refine va_iald hx hb hK hP 2 0 rfl rfl g4 dX8_undo_54 ?_
        obtain ⟨g5, hf⟩ := k_G hf
        refine va_iast hx hb hK hP hD hS 1 0 rfl rfl g5 dX8_undo_55 (fun H locs hP hD hS => ?_)
        obtain ⟨w6, ew6, hf⟩ := k_L hf
        have hP : va_P D vwCl (wX8 cy h0 sa pa ka aa oa wa ca ta na mOp mIk mPa mRu mLa mTy mSp mFr mRe mCa mOr mLe w6 rP rK rA rO rW rC rT rN) H := by rw [ew6]; exact hP
        have hD : va_D A (wX8 cy h0 sa pa ka aa oa wa ca ta na mOp mIk mPa mRu mLa mTy mSp mFr mRe mCa mOr mLe w6 rP rK rA rO rW rC rT rN) := by rw [ew6]; exact hD
        refine lv_iinc (v := s30.1 + 1) (lv' := [(1, .int (s30.1 + 1)), (0, .ref h0)]) hx hb dX8_undo_56 hl (k := 1) rfl rfl (by decide) rfl (fun ls hl => ?_)
        refine lv_goto (tgt := 30) hx hb dX8_undo_59 (by decide) ?_
        obtain rfl := k_some hf
        exact ih mOp mIk mPa mRu mLa mTy mSp mFr mRe mCa mOr mLe rP rK rA rO rW rC rT rN (s30.1 + 1, w6) q (k_inl hq) ls H locs (lv_sub hl [1, 0] rfl) hP hD hS kx 
  unfold f_X8_undo at hf
  obtain ⟨H, eH⟩ : ∃ H, H = s.heap := ⟨_, rfl⟩
  obtain ⟨locs, elocs⟩ : ∃ L : List Loc, L = [] := ⟨_, rfl⟩
  have hP : va_P D vwCl (wX8 cy h0 sa pa ka aa oa wa ca ta na mOp mIk mPa mRu mLa mTy mSp mFr mRe mCa mOr mLe rS rP rK rA rO rW rC rT rN) H := by rw [eH]; exact hP
  have hS : va_S A s.heap H locs := by rw [eH, elocs]; exact hS
  refine k_here eH elocs ?_
  refine lv_aload_n hx hb dX8_undo_0 rfl (lv_at hl 0 rfl) ?_
  refine lv_iconst (v := 0) hx hb dX8_undo_1 (by decide) ?_
  refine va_put (D := D) (ci := 5) (v := .int 0) (ty := .int) (C := RX8) (T := TX8) (N := 21) hx hb hts in_X8 tyX8 tyX8_ok nmX8 hown hK hP hD hS 0 rfl rfl 11 (by decide) fl37 (fun _ h9 => h9) rfl (by decide +kernel) rfl rfl (Nat.le_of_ble_eq_true rfl) dX8_undo_2 (fun H locs hP hD hS => ?_)
  have hP : va_P D vwCl (wX8 cy h0 sa pa ka aa oa wa ca ta na mOp mIk mPa mRu 0 mTy mSp mFr mRe mCa mOr mLe rS rP rK rA rO rW rC rT rN) H := hP
  have hD : va_D A (wX8 cy h0 sa pa ka aa oa wa ca ta na mOp mIk mPa mRu 0 mTy mSp mFr mRe mCa mOr mLe rS rP rK rA rO rW rC rT rN) := hD
  refine lv_aload_n hx hb dX8_undo_5 rfl (lv_at hl 0 rfl) ?_
  refine va_get (D := D) (ci := 5) (v := .int mPa) (C := RX8) (T := TX8) (N := 21) hx hb hts in_X8 hown hK hP 0 rfl rfl 9 (by decide) fl45 (fun _ h9 => h9) rfl dX8_undo_6 ?_
  refine lv_if_ne (tgt := 18) hx hb dX8_undo_9 (by decide) (fun c1 => ?_) (fun c1 => ?_)
  · have hf := k_F c1 hf
    refine lv_aload_n hx hb dX8_undo_18 rfl (lv_at hl 0 rfl) ?_
    refine lv_dup hx hb dX8_undo_19 rfl ?_
    refine va_get (D := D) (ci := 5) (v := .int mPa) (C := RX8) (T := TX8) (N := 21) hx hb hts in_X8 hown hK hP 0 rfl rfl 9 (by decide) fl45 (fun _ h9 => h9) rfl dX8_undo_20 ?_
    refine lv_iconst (v := 1) hx hb dX8_undo_23 (by decide) ?_
    refine lv_isub hx hb dX8_undo_24 ?_
    obtain ⟨y2, ey2, hf⟩ := k_L hf
    refine k_name ey2 ?_
    refine va_put (D := D) (ci := 5) (v := .int y2) (ty := .int) (C := RX8) (T := TX8) (N := 21) hx hb hts in_X8 tyX8 tyX8_ok nmX8 hown hK hP hD hS 0 rfl rfl 9 (by decide) fl45 (fun _ h9 => h9) rfl (by decide +kernel) rfl rfl (Nat.le_of_ble_eq_true rfl) dX8_undo_25 (fun H locs hP hD hS => ?_)
    have hP : va_P D vwCl (wX8 cy h0 sa pa ka aa oa wa ca ta na mOp mIk y2 mRu 0 mTy mSp mFr mRe mCa mOr mLe rS rP rK rA rO rW rC rT rN) H := hP
    have hD : va_D A (wX8 cy h0 sa pa ka aa oa wa ca ta na mOp mIk y2 mRu 0 mTy mSp mFr mRe mCa mOr mLe rS rP rK rA rO rW rC rT rN) := hD
    refine lv_iconst (v := 0) hx hb dX8_undo_28 (by decide) ?_
    refine lv_istore_n (lv' := [(1, .int 0), (0, .ref h0)]) hx hb dX8_undo_29 rfl hl (by decide) rfl (fun ls hl => ?_)
    obtain ⟨x7, hx7, hf⟩ := k_B hf
    refine L30 _ 1000 mOp mIk y2 mRu 0 mTy mSp mFr mRe mCa mOr mLe rP rK rA rO rW rC rT rN (0, rS) x7 hx7 ls H locs (lv_sub hl [1, 0] rfl) hP hD hS ?_
    · intro ls H locs _ hl hP hD hS
      refine lv_aload_n hx hb dX8_undo_62 rfl (lv_at hl 0 rfl) ?_
      refine va_get (D := D) (ci := 5) (v := .int y2) (C := RX8) (T := TX8) (N := 21) hx hb hts in_X8 hown hK hP 0 rfl rfl 9 (by decide) fl45 (fun _ h9 => h9) rfl dX8_undo_63 ?_
      obtain rfl := k_some hf
      exact k_iret hx hb hr hP hD hS dX8_undo_66 hlocks
  · have hf := k_T c1 hf
    refine lv_aload_n hx hb dX8_undo_12 rfl (lv_at hl 0 rfl) ?_
    refine lv_iconst (v := 1) hx hb dX8_undo_13 (by decide) ?_
    obtain ⟨v8, hv8, hf⟩ := k_B hf
    refine k_callHV (As := [.int 1]) (rest := []) (r := (RX8, TX8, 21)) (ci := 5) (q0 := 0) (isC := [0, 1, 2, 3, 4, 5, 6, 7, 8, 9]) (isR := []) (perm := [0, 1, 2, 3, 4, 5, 6, 7, 8, 9]) (w' := (wX8 cy h0 sa pa ka aa oa wa ca ta na mOp mIk mPa mRu v8.2 mTy mSp mFr mRe mCa mOr mLe rS rP rK rA rO rW rC rT rN)) ⟨hx, hb, hml, hown, hts⟩ (c_X8_fails l D cy h0 sa pa ka aa oa wa ca ta na mOp mIk mPa mRu 0 mTy mSp mFr mRe mCa mOr mLe rS rP rK rA rO rW rC rT rN 1 v8 hv8) (cwV 1 hts gX8_undo_X8_fails rfl rfl rfl hd_X8_fails ⟨Nat.le_of_ble_eq_true rfl, Nat.le_of_ble_eq_true rfl⟩) hK hN hP hD hS hA rfl rfl rfl rfl rfl rfl (by decide) rfl rfl rfl hl.1 rfl (Nat.le_of_ble_eq_true rfl) dX8_undo_14 ⟨Nat.zero_le _, Nat.zero_le _⟩ (fun H locs hP hD hS => ?_)
    obtain rfl := k_some hf
    exact k_iret hx hb hr hP hD hS dX8_undo_17 hlocks
def f_X8_type (n1 : Int32) (mLa : Int32) (mTy : Int32) (rT : Nat → Int32) : Option (Int32 × Int32 × Int32 × (Nat → Int32)) :=
  (f_X8_in n1 32 126).bind fun v1 =>
  if v1 = 0 then
    (f_X8_fails 1 0).bind fun v8 =>
    some (v8.1, v8.2, mTy, rT)
  else
    if mTy = 60 then
      (f_X8_fails 2 0).bind fun v7 =>
      some (v7.1, v7.2, mTy, rT)
    else
      if mTy < 0 ∨ 60 ≤ mTy.toNatClampNeg then none else
      k_let (upd rT mTy.toNatClampNeg n1) fun w5 =>
      k_let (mTy + 1) fun y6 =>
      some (y6, 0, y6, w5)
abbrev rm_X8_type : Room := { frames := 1, cells := 0, slots := 0, locals := 22 }
theorem hd_X8_type : yX8_type.cls = RX8 ∧ yX8_type.cls ≠ "java/lang/invoke/MethodHandle" ∧ yX8_type.cls ≠ "java/lang/invoke/VarHandle" ∧ (parseMethodDescriptor yX8_type.desc).map (fun d => d.parameters.length) = some 1 := by decide +kernel
set_option maxHeartbeats 4000000 in
set_option maxRecDepth 100000 in
theorem c_X8_type (l : Launch) (D : va_G) (cy : Nat → ClassId) (h0 sa pa ka aa oa wa ca ta na : Nat) (mOp : Int32) (mIk : Int32) (mPa : Int32) (mRu : Int32) (mLa : Int32) (mTy : Int32) (mSp : Int32) (mFr : Int32) (mRe : Int32) (mCa : Int32) (mOr : Int32) (mLe : Int32) (rS : Nat → Int32) (rP : Nat → Int32) (rK : Nat → Int32) (rA : Nat → Int32) (rO : Nat → Int32) (rW : Nat → Int32) (rC : Nat → Int32) (rT : Nat → Int32) (rN : Nat → Int32) (n1 : Int32) (r : Int32 × Int32 × Int32 × (Nat → Int32)) (hf : f_X8_type n1 mLa mTy rT = some r) : k_HMet l yX8_type wsX8_type rm_X8_type D (k_tys cy) [.ref h0, .int n1] (wX8 cy h0 sa pa ka aa oa wa ca ta na mOp mIk mPa mRu mLa mTy mSp mFr mRe mCa mOr mLe rS rP rK rA rO rW rC rT rN) (some (.int r.1)) (wX8 cy h0 sa pa ka aa oa wa ca ta na mOp mIk mPa mRu r.2.1 r.2.2.1 mSp mFr mRe mCa mOr mLe rS rP rK rA rO rW rC r.2.2.2 rN) := by
  refine k_heapOf (cc := cX8_type) (maxL := 2) (ret := (some .int)) (by decide) rfl (Nat.le_of_ble_eq_true rfl) ?_
  intro p e s m args below meth c ls A hx hb hr hlocks hml hown hts hl hA hK hP hD hN
  have hl : lv_has ls 2 [(0, .ref h0), (1, .int n1)] := hl
  have hS : va_S A s.heap s.heap [] := va_S.rf
  have in_X8 : ∀ w ∈ wsX80, w ∈ wsX8_type := by decide +kernel
  have fl31 := hts (.fieldLink RX8 31 "FencedBoxesModel" "text" "[I") (by decide +kernel)
  have fl37 := hts (.fieldLink RX8 37 "FencedBoxesModel" "last" "I") (by decide +kernel)
  have fl156 := hts (.fieldLink RX8 156 "FencedBoxesModel" "typed" "I") (by decide +kernel)
  unfold f_X8_type at hf
  obtain ⟨H, eH⟩ : ∃ H, H = s.heap := ⟨_, rfl⟩
  obtain ⟨locs, elocs⟩ : ∃ L : List Loc, L = [] := ⟨_, rfl⟩
  have hP : va_P D vwCl (wX8 cy h0 sa pa ka aa oa wa ca ta na mOp mIk mPa mRu mLa mTy mSp mFr mRe mCa mOr mLe rS rP rK rA rO rW rC rT rN) H := by rw [eH]; exact hP
  have hS : va_S A s.heap H locs := by rw [eH, elocs]; exact hS
  refine k_here eH elocs ?_
  refine lv_aload_n hx hb dX8_type_0 rfl (lv_at hl 0 rfl) ?_
  refine lv_iconst (v := 0) hx hb dX8_type_1 (by decide) ?_
  refine va_put (D := D) (ci := 5) (v := .int 0) (ty := .int) (C := RX8) (T := TX8) (N := 21) hx hb hts in_X8 tyX8 tyX8_ok nmX8 hown hK hP hD hS 0 rfl rfl 11 (by decide) fl37 (fun _ h9 => h9) rfl (by decide +kernel) rfl rfl (Nat.le_of_ble_eq_true rfl) dX8_type_2 (fun H locs hP hD hS => ?_)
  have hP : va_P D vwCl (wX8 cy h0 sa pa ka aa oa wa ca ta na mOp mIk mPa mRu 0 mTy mSp mFr mRe mCa mOr mLe rS rP rK rA rO rW rC rT rN) H := hP
  have hD : va_D A (wX8 cy h0 sa pa ka aa oa wa ca ta na mOp mIk mPa mRu 0 mTy mSp mFr mRe mCa mOr mLe rS rP rK rA rO rW rC rT rN) := hD
  refine lv_iload_n hx hb dX8_type_5 rfl (lv_at hl 1 rfl) ?_
  refine lv_bipush (v := 32) hx hb dX8_type_6 (by decide) ?_
  refine lv_bipush (v := 126) hx hb dX8_type_8 (by decide) ?_
  obtain ⟨v1, hv1, hf⟩ := k_B hf
  refine k_callS (As := [.int n1, .int 32, .int 126]) (rest := []) ⟨hx, hb, hml, hown, hts⟩ (c_X8_in l n1 32 126 v1 hv1) (va_cwS 3 hts gX8_type_X8_in rfl rfl rfl hd_X8_in ⟨Nat.le_of_ble_eq_true rfl, Nat.le_of_ble_eq_true rfl⟩) rfl hl.1 rfl (Nat.le_of_ble_eq_true rfl) dX8_type_10 ⟨Nat.zero_le _, Nat.zero_le _⟩ ?_
  refine lv_if_ne (tgt := 22) hx hb dX8_type_13 (by decide) (fun c2 => ?_) (fun c2 => ?_)
  · have hf := k_F c2 hf
    refine lv_aload_n hx hb dX8_type_22 rfl (lv_at hl 0 rfl) ?_
    refine va_get (D := D) (ci := 5) (v := .int mTy) (C := RX8) (T := TX8) (N := 21) hx hb hts in_X8 hown hK hP 0 rfl rfl 13 (by decide) fl156 (fun _ h9 => h9) rfl dX8_type_23 ?_
    refine lv_bipush (v := 60) hx hb dX8_type_26 (by decide) ?_
    refine lv_icmp_ne (tgt := 37) hx hb dX8_type_28 (by decide) (fun c3 => ?_) (fun c3 => ?_)
    · have hf := k_F c3 hf
      refine lv_aload_n hx hb dX8_type_37 rfl (lv_at hl 0 rfl) ?_
      refine va_get (D := D) (ci := 5) (v := .ref ta) (C := RX8) (T := TX8) (N := 21) hx hb hts in_X8 hown hK hP 0 rfl rfl 12 (by decide) fl31 (fun _ h9 => h9) rfl dX8_type_38 ?_
      refine lv_aload_n hx hb dX8_type_41 rfl (lv_at hl 0 rfl) ?_
      refine va_get (D := D) (ci := 5) (v := .int mTy) (C := RX8) (T := TX8) (N := 21) hx hb hts in_X8 hown hK hP 0 rfl rfl 13 (by decide) fl156 (fun _ h9 => h9) rfl dX8_type_42 ?_
      refine lv_iload_n hx hb dX8_type_45 rfl (lv_at hl 1 rfl) ?_
      obtain ⟨g4, hf⟩ := k_G hf
      refine va_iast hx hb hK hP hD hS 8 0 rfl rfl g4 dX8_type_46 (fun H locs hP hD hS => ?_)
      obtain ⟨w5, ew5, hf⟩ := k_L hf
      have hP : va_P D vwCl (wX8 cy h0 sa pa ka aa oa wa ca ta na mOp mIk mPa mRu 0 mTy mSp mFr mRe mCa mOr mLe rS rP rK rA rO rW rC w5 rN) H := by rw [ew5]; exact hP
      have hD : va_D A (wX8 cy h0 sa pa ka aa oa wa ca ta na mOp mIk mPa mRu 0 mTy mSp mFr mRe mCa mOr mLe rS rP rK rA rO rW rC w5 rN) := by rw [ew5]; exact hD
      refine lv_aload_n hx hb dX8_type_47 rfl (lv_at hl 0 rfl) ?_
      refine lv_dup hx hb dX8_type_48 rfl ?_
      refine va_get (D := D) (ci := 5) (v := .int mTy) (C := RX8) (T := TX8) (N := 21) hx hb hts in_X8 hown hK hP 0 rfl rfl 13 (by decide) fl156 (fun _ h9 => h9) rfl dX8_type_49 ?_
      refine lv_iconst (v := 1) hx hb dX8_type_52 (by decide) ?_
      refine lv_iadd hx hb dX8_type_53 ?_
      obtain ⟨y6, ey6, hf⟩ := k_L hf
      refine k_name ey6 ?_
      refine va_put (D := D) (ci := 5) (v := .int y6) (ty := .int) (C := RX8) (T := TX8) (N := 21) hx hb hts in_X8 tyX8 tyX8_ok nmX8 hown hK hP hD hS 0 rfl rfl 13 (by decide) fl156 (fun _ h9 => h9) rfl (by decide +kernel) rfl rfl (Nat.le_of_ble_eq_true rfl) dX8_type_54 (fun H locs hP hD hS => ?_)
      have hP : va_P D vwCl (wX8 cy h0 sa pa ka aa oa wa ca ta na mOp mIk mPa mRu 0 y6 mSp mFr mRe mCa mOr mLe rS rP rK rA rO rW rC w5 rN) H := hP
      have hD : va_D A (wX8 cy h0 sa pa ka aa oa wa ca ta na mOp mIk mPa mRu 0 y6 mSp mFr mRe mCa mOr mLe rS rP rK rA rO rW rC w5 rN) := hD
      refine lv_aload_n hx hb dX8_type_57 rfl (lv_at hl 0 rfl) ?_
      refine va_get (D := D) (ci := 5) (v := .int y6) (C := RX8) (T := TX8) (N := 21) hx hb hts in_X8 hown hK hP 0 rfl rfl 13 (by decide) fl156 (fun _ h9 => h9) rfl dX8_type_58 ?_
      obtain rfl := k_some hf
      exact k_iret hx hb hr hP hD hS dX8_type_61 hlocks
    · have hf := k_T c3 hf
      refine lv_aload_n hx hb dX8_type_31 rfl (lv_at hl 0 rfl) ?_
      refine lv_iconst (v := 2) hx hb dX8_type_32 (by decide) ?_
      obtain ⟨v7, hv7, hf⟩ := k_B hf
      refine k_callHV (As := [.int 2]) (rest := []) (r := (RX8, TX8, 21)) (ci := 5) (q0 := 0) (isC := [0, 1, 2, 3, 4, 5, 6, 7, 8, 9]) (isR := []) (perm := [0, 1, 2, 3, 4, 5, 6, 7, 8, 9]) (w' := (wX8 cy h0 sa pa ka aa oa wa ca ta na mOp mIk mPa mRu v7.2 mTy mSp mFr mRe mCa mOr mLe rS rP rK rA rO rW rC rT rN)) ⟨hx, hb, hml, hown, hts⟩ (c_X8_fails l D cy h0 sa pa ka aa oa wa ca ta na mOp mIk mPa mRu 0 mTy mSp mFr mRe mCa mOr mLe rS rP rK rA rO rW rC rT rN 2 v7 hv7) (cwV 1 hts gX8_type_X8_fails rfl rfl rfl hd_X8_fails ⟨Nat.le_of_ble_eq_true rfl, Nat.le_of_ble_eq_true rfl⟩) hK hN hP hD hS hA rfl rfl rfl rfl rfl rfl (by decide) rfl rfl rfl hl.1 rfl (Nat.le_of_ble_eq_true rfl) dX8_type_33 ⟨Nat.zero_le _, Nat.zero_le _⟩ (fun H locs hP hD hS => ?_)
      obtain rfl := k_some hf
      exact k_iret hx hb hr hP hD hS dX8_type_36 hlocks
  · have hf := k_T c2 hf
    refine lv_aload_n hx hb dX8_type_16 rfl (lv_at hl 0 rfl) ?_
    refine lv_iconst (v := 1) hx hb dX8_type_17 (by decide) ?_
    obtain ⟨v8, hv8, hf⟩ := k_B hf
    refine k_callHV (As := [.int 1]) (rest := []) (r := (RX8, TX8, 21)) (ci := 5) (q0 := 0) (isC := [0, 1, 2, 3, 4, 5, 6, 7, 8, 9]) (isR := []) (perm := [0, 1, 2, 3, 4, 5, 6, 7, 8, 9]) (w' := (wX8 cy h0 sa pa ka aa oa wa ca ta na mOp mIk mPa mRu v8.2 mTy mSp mFr mRe mCa mOr mLe rS rP rK rA rO rW rC rT rN)) ⟨hx, hb, hml, hown, hts⟩ (c_X8_fails l D cy h0 sa pa ka aa oa wa ca ta na mOp mIk mPa mRu 0 mTy mSp mFr mRe mCa mOr mLe rS rP rK rA rO rW rC rT rN 1 v8 hv8) (cwV 1 hts gX8_type_X8_fails rfl rfl rfl hd_X8_fails ⟨Nat.le_of_ble_eq_true rfl, Nat.le_of_ble_eq_true rfl⟩) hK hN hP hD hS hA rfl rfl rfl rfl rfl rfl (by decide) rfl rfl rfl hl.1 rfl (Nat.le_of_ble_eq_true rfl) dX8_type_18 ⟨Nat.zero_le _, Nat.zero_le _⟩ (fun H locs hP hD hS => ?_)
    obtain rfl := k_some hf
    exact k_iret hx hb hr hP hD hS dX8_type_21 hlocks
def f_X8_clearText (mLa : Int32) (mTy : Int32) : Option (Int32 × Int32 × Int32) :=
  some (mTy, 0, 0)
abbrev rm_X8_clearText : Room := { frames := 0, cells := 0, slots := 0, locals := 0 }
theorem hd_X8_clearText : yX8_clearText.cls = RX8 ∧ yX8_clearText.cls ≠ "java/lang/invoke/MethodHandle" ∧ yX8_clearText.cls ≠ "java/lang/invoke/VarHandle" ∧ (parseMethodDescriptor yX8_clearText.desc).map (fun d => d.parameters.length) = some 0 := by decide +kernel
set_option maxHeartbeats 4000000 in
set_option maxRecDepth 100000 in
theorem c_X8_clearText (l : Launch) (D : va_G) (cy : Nat → ClassId) (h0 sa pa ka aa oa wa ca ta na : Nat) (mOp : Int32) (mIk : Int32) (mPa : Int32) (mRu : Int32) (mLa : Int32) (mTy : Int32) (mSp : Int32) (mFr : Int32) (mRe : Int32) (mCa : Int32) (mOr : Int32) (mLe : Int32) (rS : Nat → Int32) (rP : Nat → Int32) (rK : Nat → Int32) (rA : Nat → Int32) (rO : Nat → Int32) (rW : Nat → Int32) (rC : Nat → Int32) (rT : Nat → Int32) (rN : Nat → Int32)  (r : Int32 × Int32 × Int32) (hf : f_X8_clearText mLa mTy = some r) : k_HMet l yX8_clearText wsX8_clearText rm_X8_clearText D (k_tys cy) [.ref h0] (wX8 cy h0 sa pa ka aa oa wa ca ta na mOp mIk mPa mRu mLa mTy mSp mFr mRe mCa mOr mLe rS rP rK rA rO rW rC rT rN) (some (.int r.1)) (wX8 cy h0 sa pa ka aa oa wa ca ta na mOp mIk mPa mRu r.2.1 r.2.2 mSp mFr mRe mCa mOr mLe rS rP rK rA rO rW rC rT rN) := by
  refine k_heapOf (cc := cX8_clearText) (maxL := 2) (ret := (some .int)) (by decide) rfl (Nat.le_of_ble_eq_true rfl) ?_
  intro p e s m args below meth c ls A hx hb hr hlocks hml hown hts hl hA hK hP hD hN
  have hl : lv_has ls 2 [(0, .ref h0)] := hl
  have hS : va_S A s.heap s.heap [] := va_S.rf
  have in_X8 : ∀ w ∈ wsX80, w ∈ wsX8_clearText := by decide +kernel
  have fl37 := hts (.fieldLink RX8 37 "FencedBoxesModel" "last" "I") (by decide +kernel)
  have fl156 := hts (.fieldLink RX8 156 "FencedBoxesModel" "typed" "I") (by decide +kernel)
  unfold f_X8_clearText at hf
  obtain ⟨H, eH⟩ : ∃ H, H = s.heap := ⟨_, rfl⟩
  obtain ⟨locs, elocs⟩ : ∃ L : List Loc, L = [] := ⟨_, rfl⟩
  have hP : va_P D vwCl (wX8 cy h0 sa pa ka aa oa wa ca ta na mOp mIk mPa mRu mLa mTy mSp mFr mRe mCa mOr mLe rS rP rK rA rO rW rC rT rN) H := by rw [eH]; exact hP
  have hS : va_S A s.heap H locs := by rw [eH, elocs]; exact hS
  refine k_here eH elocs ?_
  refine lv_aload_n hx hb dX8_clearText_0 rfl (lv_at hl 0 rfl) ?_
  refine lv_iconst (v := 0) hx hb dX8_clearText_1 (by decide) ?_
  refine va_put (D := D) (ci := 5) (v := .int 0) (ty := .int) (C := RX8) (T := TX8) (N := 21) hx hb hts in_X8 tyX8 tyX8_ok nmX8 hown hK hP hD hS 0 rfl rfl 11 (by decide) fl37 (fun _ h9 => h9) rfl (by decide +kernel) rfl rfl (Nat.le_of_ble_eq_true rfl) dX8_clearText_2 (fun H locs hP hD hS => ?_)
  have hP : va_P D vwCl (wX8 cy h0 sa pa ka aa oa wa ca ta na mOp mIk mPa mRu 0 mTy mSp mFr mRe mCa mOr mLe rS rP rK rA rO rW rC rT rN) H := hP
  have hD : va_D A (wX8 cy h0 sa pa ka aa oa wa ca ta na mOp mIk mPa mRu 0 mTy mSp mFr mRe mCa mOr mLe rS rP rK rA rO rW rC rT rN) := hD
  refine lv_aload_n hx hb dX8_clearText_5 rfl (lv_at hl 0 rfl) ?_
  refine va_get (D := D) (ci := 5) (v := .int mTy) (C := RX8) (T := TX8) (N := 21) hx hb hts in_X8 hown hK hP 0 rfl rfl 13 (by decide) fl156 (fun _ h9 => h9) rfl dX8_clearText_6 ?_
  refine lv_istore_n (lv' := [(1, .int mTy), (0, .ref h0)]) hx hb dX8_clearText_9 rfl hl (by decide) rfl (fun ls hl => ?_)
  refine lv_aload_n hx hb dX8_clearText_10 rfl (lv_at hl 1 rfl) ?_
  refine lv_iconst (v := 0) hx hb dX8_clearText_11 (by decide) ?_
  refine va_put (D := D) (ci := 5) (v := .int 0) (ty := .int) (C := RX8) (T := TX8) (N := 21) hx hb hts in_X8 tyX8 tyX8_ok nmX8 hown hK hP hD hS 0 rfl rfl 13 (by decide) fl156 (fun _ h9 => h9) rfl (by decide +kernel) rfl rfl (Nat.le_of_ble_eq_true rfl) dX8_clearText_12 (fun H locs hP hD hS => ?_)
  have hP : va_P D vwCl (wX8 cy h0 sa pa ka aa oa wa ca ta na mOp mIk mPa mRu 0 0 mSp mFr mRe mCa mOr mLe rS rP rK rA rO rW rC rT rN) H := hP
  have hD : va_D A (wX8 cy h0 sa pa ka aa oa wa ca ta na mOp mIk mPa mRu 0 0 mSp mFr mRe mCa mOr mLe rS rP rK rA rO rW rC rT rN) := hD
  refine lv_iload_n hx hb dX8_clearText_15 rfl (lv_at hl 0 rfl) ?_
  obtain rfl := k_some hf
  exact k_iret hx hb hr hP hD hS dX8_clearText_16 hlocks
def f_X8_isAt (n1 : Int32) (n2 : Int32) (mTy : Int32) (mSp : Int32) (rT : Nat → Int32) : Option (Int32) :=
  if mTy ≤ mSp then
    some 0
  else
    if mSp < 0 ∨ 60 ≤ mSp.toNatClampNeg then none else
    (f_X8_in (rT mSp.toNatClampNeg) n1 n2).bind fun v3 =>
    if v3 = 0 then
      some 0
    else
      some 1
abbrev rm_X8_isAt : Room := { frames := 1, cells := 0, slots := 0, locals := 22 }
theorem hd_X8_isAt : yX8_isAt.cls = RX8 ∧ yX8_isAt.cls ≠ "java/lang/invoke/MethodHandle" ∧ yX8_isAt.cls ≠ "java/lang/invoke/VarHandle" ∧ (parseMethodDescriptor yX8_isAt.desc).map (fun d => d.parameters.length) = some 2 := by decide +kernel
set_option maxHeartbeats 4000000 in
set_option maxRecDepth 100000 in
theorem c_X8_isAt (l : Launch) (D : va_G) (cy : Nat → ClassId) (h0 sa pa ka aa oa wa ca ta na : Nat) (mOp : Int32) (mIk : Int32) (mPa : Int32) (mRu : Int32) (mLa : Int32) (mTy : Int32) (mSp : Int32) (mFr : Int32) (mRe : Int32) (mCa : Int32) (mOr : Int32) (mLe : Int32) (rS : Nat → Int32) (rP : Nat → Int32) (rK : Nat → Int32) (rA : Nat → Int32) (rO : Nat → Int32) (rW : Nat → Int32) (rC : Nat → Int32) (rT : Nat → Int32) (rN : Nat → Int32) (n1 : Int32) (n2 : Int32) (r : Int32) (hf : f_X8_isAt n1 n2 mTy mSp rT = some r) : k_HMet l yX8_isAt wsX8_isAt rm_X8_isAt D (k_tys cy) [.ref h0, .int n1, .int n2] (wX8 cy h0 sa pa ka aa oa wa ca ta na mOp mIk mPa mRu mLa mTy mSp mFr mRe mCa mOr mLe rS rP rK rA rO rW rC rT rN) (some (.int r)) (wX8 cy h0 sa pa ka aa oa wa ca ta na mOp mIk mPa mRu mLa mTy mSp mFr mRe mCa mOr mLe rS rP rK rA rO rW rC rT rN) := by
  refine k_heapOf (cc := cX8_isAt) (maxL := 3) (ret := (some .boolean)) (by decide) rfl (Nat.le_of_ble_eq_true rfl) ?_
  intro p e s m args below meth c ls A hx hb hr hlocks hml hown hts hl hA hK hP hD hN
  have hl : lv_has ls 3 [(0, .ref h0), (1, .int n1), (2, .int n2)] := hl
  have hS : va_S A s.heap s.heap [] := va_S.rf
  have in_X8 : ∀ w ∈ wsX80, w ∈ wsX8_isAt := by decide +kernel
  have fl31 := hts (.fieldLink RX8 31 "FencedBoxesModel" "text" "[I") (by decide +kernel)
  have fl156 := hts (.fieldLink RX8 156 "FencedBoxesModel" "typed" "I") (by decide +kernel)
  have fl159 := hts (.fieldLink RX8 159 "FencedBoxesModel" "spot" "I") (by decide +kernel)
  unfold f_X8_isAt at hf
  obtain ⟨H, eH⟩ : ∃ H, H = s.heap := ⟨_, rfl⟩
  obtain ⟨locs, elocs⟩ : ∃ L : List Loc, L = [] := ⟨_, rfl⟩
  have hP : va_P D vwCl (wX8 cy h0 sa pa ka aa oa wa ca ta na mOp mIk mPa mRu mLa mTy mSp mFr mRe mCa mOr mLe rS rP rK rA rO rW rC rT rN) H := by rw [eH]; exact hP
  have hS : va_S A s.heap H locs := by rw [eH, elocs]; exact hS
  refine k_here eH elocs ?_
  refine lv_aload_n hx hb dX8_isAt_0 rfl (lv_at hl 0 rfl) ?_
  refine va_get (D := D) (ci := 5) (v := .int mSp) (C := RX8) (T := TX8) (N := 21) hx hb hts in_X8 hown hK hP 0 rfl rfl 14 (by decide) fl159 (fun _ h9 => h9) rfl dX8_isAt_1 ?_
  refine lv_aload_n hx hb dX8_isAt_4 rfl (lv_at hl 0 rfl) ?_
  refine va_get (D := D) (ci := 5) (v := .int mTy) (C := RX8) (T := TX8) (N := 21) hx hb hts in_X8 hown hK hP 0 rfl rfl 13 (by decide) fl156 (fun _ h9 => h9) rfl dX8_isAt_5 ?_
  refine lv_icmp_ge (tgt := 32) hx hb dX8_isAt_8 (by decide) (fun c1 => ?_) (fun c1 => ?_)
  · have hf := k_T c1 hf
    refine lv_iconst (v := 0) hx hb dX8_isAt_32 (by decide) ?_
    obtain rfl := k_some hf
    exact k_zret (v := 0) hx hb hr rfl hP hD hS dX8_isAt_33 hlocks
  · have hf := k_F c1 hf
    refine lv_aload_n hx hb dX8_isAt_11 rfl (lv_at hl 0 rfl) ?_
    refine va_get (D := D) (ci := 5) (v := .ref ta) (C := RX8) (T := TX8) (N := 21) hx hb hts in_X8 hown hK hP 0 rfl rfl 12 (by decide) fl31 (fun _ h9 => h9) rfl dX8_isAt_12 ?_
    refine lv_aload_n hx hb dX8_isAt_15 rfl (lv_at hl 0 rfl) ?_
    refine va_get (D := D) (ci := 5) (v := .int mSp) (C := RX8) (T := TX8) (N := 21) hx hb hts in_X8 hown hK hP 0 rfl rfl 14 (by decide) fl159 (fun _ h9 => h9) rfl dX8_isAt_16 ?_
    obtain ⟨g2, hf⟩ := k_G hf
    refine va_iald hx hb hK hP 8 0 rfl rfl g2 dX8_isAt_19 ?_
    refine lv_iload_n hx hb dX8_isAt_20 rfl (lv_at hl 1 rfl) ?_
    refine lv_iload_n hx hb dX8_isAt_21 rfl (lv_at hl 2 rfl) ?_
    obtain ⟨v3, hv3, hf⟩ := k_B hf
    refine k_callS (As := [.int (rT mSp.toNatClampNeg), .int n1, .int n2]) (rest := []) ⟨hx, hb, hml, hown, hts⟩ (c_X8_in l (rT mSp.toNatClampNeg) n1 n2 v3 hv3) (va_cwS 3 hts gX8_isAt_X8_in rfl rfl rfl hd_X8_in ⟨Nat.le_of_ble_eq_true rfl, Nat.le_of_ble_eq_true rfl⟩) rfl hl.1 rfl (Nat.le_of_ble_eq_true rfl) dX8_isAt_22 ⟨Nat.zero_le _, Nat.zero_le _⟩ ?_
    refine lv_if_eq (tgt := 32) hx hb dX8_isAt_25 (by decide) (fun c4 => ?_) (fun c4 => ?_)
    · have hf := k_T c4 hf
      refine lv_iconst (v := 0) hx hb dX8_isAt_32 (by decide) ?_
      obtain rfl := k_some hf
      exact k_zret (v := 0) hx hb hr rfl hP hD hS dX8_isAt_33 hlocks
    · have hf := k_F c4 hf
      refine lv_iconst (v := 1) hx hb dX8_isAt_28 (by decide) ?_
      refine lv_goto (tgt := 33) hx hb dX8_isAt_29 (by decide) ?_
      obtain rfl := k_some hf
      exact k_zret (v := 1) hx hb hr rfl hP hD hS dX8_isAt_33 hlocks
def f_X8_sign (n1 : Int32) (mTy : Int32) (mSp : Int32) (rT : Nat → Int32) : Option (Int32 × Int32) :=
  (f_X8_isAt n1 n1 mTy mSp rT).bind fun v1 =>
  if v1 = 0 then
    k_let (mSp + 0) fun y3 =>
    if v1 = 0 ∨ v1 = 1 then some (v1, y3) else none
  else
    k_let (mSp + 1) fun y4 =>
    if v1 = 0 ∨ v1 = 1 then some (v1, y4) else none
abbrev rm_X8_sign : Room := { frames := 2, cells := 0, slots := 0, locals := 44 }
theorem hd_X8_sign : yX8_sign.cls = RX8 ∧ yX8_sign.cls ≠ "java/lang/invoke/MethodHandle" ∧ yX8_sign.cls ≠ "java/lang/invoke/VarHandle" ∧ (parseMethodDescriptor yX8_sign.desc).map (fun d => d.parameters.length) = some 1 := by decide +kernel
set_option maxHeartbeats 4000000 in
set_option maxRecDepth 100000 in
theorem c_X8_sign (l : Launch) (D : va_G) (cy : Nat → ClassId) (h0 sa pa ka aa oa wa ca ta na : Nat) (mOp : Int32) (mIk : Int32) (mPa : Int32) (mRu : Int32) (mLa : Int32) (mTy : Int32) (mSp : Int32) (mFr : Int32) (mRe : Int32) (mCa : Int32) (mOr : Int32) (mLe : Int32) (rS : Nat → Int32) (rP : Nat → Int32) (rK : Nat → Int32) (rA : Nat → Int32) (rO : Nat → Int32) (rW : Nat → Int32) (rC : Nat → Int32) (rT : Nat → Int32) (rN : Nat → Int32) (n1 : Int32) (r : Int32 × Int32) (hf : f_X8_sign n1 mTy mSp rT = some r) : k_HMet l yX8_sign wsX8_sign rm_X8_sign D (k_tys cy) [.ref h0, .int n1] (wX8 cy h0 sa pa ka aa oa wa ca ta na mOp mIk mPa mRu mLa mTy mSp mFr mRe mCa mOr mLe rS rP rK rA rO rW rC rT rN) (some (.int r.1)) (wX8 cy h0 sa pa ka aa oa wa ca ta na mOp mIk mPa mRu mLa mTy r.2 mFr mRe mCa mOr mLe rS rP rK rA rO rW rC rT rN) := by
  refine k_heapOf (cc := cX8_sign) (maxL := 3) (ret := (some .boolean)) (by decide) rfl (Nat.le_of_ble_eq_true rfl) ?_
  intro p e s m args below meth c ls A hx hb hr hlocks hml hown hts hl hA hK hP hD hN
  have hl : lv_has ls 3 [(0, .ref h0), (1, .int n1)] := hl
  have hS : va_S A s.heap s.heap [] := va_S.rf
  have in_X8 : ∀ w ∈ wsX80, w ∈ wsX8_sign := by decide +kernel
  have fl159 := hts (.fieldLink RX8 159 "FencedBoxesModel" "spot" "I") (by decide +kernel)
  unfold f_X8_sign at hf
  obtain ⟨H, eH⟩ : ∃ H, H = s.heap := ⟨_, rfl⟩
  obtain ⟨locs, elocs⟩ : ∃ L : List Loc, L = [] := ⟨_, rfl⟩
  have hP : va_P D vwCl (wX8 cy h0 sa pa ka aa oa wa ca ta na mOp mIk mPa mRu mLa mTy mSp mFr mRe mCa mOr mLe rS rP rK rA rO rW rC rT rN) H := by rw [eH]; exact hP
  have hS : va_S A s.heap H locs := by rw [eH, elocs]; exact hS
  refine k_here eH elocs ?_
  refine lv_aload_n hx hb dX8_sign_0 rfl (lv_at hl 0 rfl) ?_
  refine lv_iload_n hx hb dX8_sign_1 rfl (lv_at hl 1 rfl) ?_
  refine lv_iload_n hx hb dX8_sign_2 rfl (lv_at hl 1 rfl) ?_
  obtain ⟨v1, hv1, hf⟩ := k_B hf
  refine k_callHV (As := [.int n1, .int n1]) (rest := []) (r := (RX8, TX8, 21)) (ci := 5) (q0 := 0) (isC := [0, 1, 2, 3, 4, 5, 6, 7, 8, 9]) (isR := []) (perm := [0, 1, 2, 3, 4, 5, 6, 7, 8, 9]) (w' := (wX8 cy h0 sa pa ka aa oa wa ca ta na mOp mIk mPa mRu mLa mTy mSp mFr mRe mCa mOr mLe rS rP rK rA rO rW rC rT rN)) ⟨hx, hb, hml, hown, hts⟩ (c_X8_isAt l D cy h0 sa pa ka aa oa wa ca ta na mOp mIk mPa mRu mLa mTy mSp mFr mRe mCa mOr mLe rS rP rK rA rO rW rC rT rN n1 n1 v1 hv1) (cwV 2 hts gX8_sign_X8_isAt rfl rfl rfl hd_X8_isAt ⟨Nat.le_of_ble_eq_true rfl, Nat.le_of_ble_eq_true rfl⟩) hK hN hP hD hS hA rfl rfl rfl rfl rfl rfl (by decide) rfl rfl rfl hl.1 rfl (Nat.le_of_ble_eq_true rfl) dX8_sign_3 ⟨Nat.zero_le _, Nat.zero_le _⟩ (fun H locs hP hD hS => ?_)
  refine lv_istore_n (lv' := [(2, .int v1), (0, .ref h0), (1, .int n1)]) hx hb dX8_sign_6 rfl hl (by decide) rfl (fun ls hl => ?_)
  refine lv_aload_n hx hb dX8_sign_7 rfl (lv_at hl 1 rfl) ?_
  refine lv_dup hx hb dX8_sign_8 rfl ?_
  refine va_get (D := D) (ci := 5) (v := .int mSp) (C := RX8) (T := TX8) (N := 21) hx hb hts in_X8 hown hK hP 0 rfl rfl 14 (by decide) fl159 (fun _ h9 => h9) rfl dX8_sign_9 ?_
  refine lv_iload_n hx hb dX8_sign_12 rfl (lv_at hl 0 rfl) ?_
  refine lv_if_eq (tgt := 20) hx hb dX8_sign_13 (by decide) (fun c2 => ?_) (fun c2 => ?_)
  · have hf := k_T c2 hf
    refine lv_iconst (v := 0) hx hb dX8_sign_20 (by decide) ?_
    refine lv_iadd hx hb dX8_sign_21 ?_
    obtain ⟨y3, ey3, hf⟩ := k_L hf
    refine k_name ey3 ?_
    refine va_put (D := D) (ci := 5) (v := .int y3) (ty := .int) (C := RX8) (T := TX8) (N := 21) hx hb hts in_X8 tyX8 tyX8_ok nmX8 hown hK hP hD hS 0 rfl rfl 14 (by decide) fl159 (fun _ h9 => h9) rfl (by decide +kernel) rfl rfl (Nat.le_of_ble_eq_true rfl) dX8_sign_22 (fun H locs hP hD hS => ?_)
    have hP : va_P D vwCl (wX8 cy h0 sa pa ka aa oa wa ca ta na mOp mIk mPa mRu mLa mTy y3 mFr mRe mCa mOr mLe rS rP rK rA rO rW rC rT rN) H := hP
    have hD : va_D A (wX8 cy h0 sa pa ka aa oa wa ca ta na mOp mIk mPa mRu mLa mTy y3 mFr mRe mCa mOr mLe rS rP rK rA rO rW rC rT rN) := hD
    refine lv_iload_n hx hb dX8_sign_25 rfl (lv_at hl 0 rfl) ?_
    obtain ⟨rfl, hn⟩ := k_boolR hf
    exact k_zret hx hb hr hn hP hD hS dX8_sign_26 hlocks
  · have hf := k_F c2 hf
    refine lv_iconst (v := 1) hx hb dX8_sign_16 (by decide) ?_
    refine lv_goto (tgt := 21) hx hb dX8_sign_17 (by decide) ?_
    refine lv_iadd hx hb dX8_sign_21 ?_
    obtain ⟨y4, ey4, hf⟩ := k_L hf
    refine k_name ey4 ?_
    refine va_put (D := D) (ci := 5) (v := .int y4) (ty := .int) (C := RX8) (T := TX8) (N := 21) hx hb hts in_X8 tyX8 tyX8_ok nmX8 hown hK hP hD hS 0 rfl rfl 14 (by decide) fl159 (fun _ h9 => h9) rfl (by decide +kernel) rfl rfl (Nat.le_of_ble_eq_true rfl) dX8_sign_22 (fun H locs hP hD hS => ?_)
    have hP : va_P D vwCl (wX8 cy h0 sa pa ka aa oa wa ca ta na mOp mIk mPa mRu mLa mTy y4 mFr mRe mCa mOr mLe rS rP rK rA rO rW rC rT rN) H := hP
    have hD : va_D A (wX8 cy h0 sa pa ka aa oa wa ca ta na mOp mIk mPa mRu mLa mTy y4 mFr mRe mCa mOr mLe rS rP rK rA rO rW rC rT rN) := hD
    refine lv_iload_n hx hb dX8_sign_25 rfl (lv_at hl 0 rfl) ?_
    obtain ⟨rfl, hn⟩ := k_boolR hf
    exact k_zret hx hb hr hn hP hD hS dX8_sign_26 hlocks
def t_X8_numbered_12 (b1 : Int32) (b2 : Int32) (mTy : Int32) (rT : Nat → Int32) (s12 : Int32 × (Nat → Int32)) : Option ((Int32 × (Nat → Int32)) ⊕ (Int32 × (Nat → Int32))) :=
  (f_X8_isAt 48 57 mTy s12.1 rT).bind fun v3 =>
  if v3 = 0 then
    some (.inr (s12.1, s12.2))
  else
    if 2 ≤ (s12.1 - b2) then
      some (.inr (s12.1, s12.2))
    else
      if b1 < 0 ∨ 2 ≤ b1.toNatClampNeg then none else
      if s12.1 < 0 ∨ 60 ≤ s12.1.toNatClampNeg then none else
      if b1 < 0 ∨ 2 ≤ b1.toNatClampNeg then none else
      k_let (upd s12.2 b1.toNatClampNeg ((((10 : Int32) * (s12.2 b1.toNatClampNeg)) + (rT s12.1.toNatClampNeg)) - 48)) fun w9 =>
      k_let (s12.1 + 1) fun y10 =>
      some (.inl (y10, w9))
def f_X8_numbered (n1 : Int32) (mTy : Int32) (mSp : Int32) (rT : Nat → Int32) (rN : Nat → Int32) : Option (Int32 × Int32 × (Nat → Int32)) :=
  if n1 < 0 ∨ 2 ≤ n1.toNatClampNeg then none else
  k_let (upd rN n1.toNatClampNeg 0) fun w2 =>
  (k_loop (t_X8_numbered_12 n1 mSp mTy rT) 1000 (mSp, w2)).bind fun x11 =>
  if x11.1 ≤ mSp then
    some (0, x11.1, x11.2)
  else
    some (1, x11.1, x11.2)
abbrev rm_X8_numbered : Room := { frames := 2, cells := 0, slots := 0, locals := 44 }
theorem hd_X8_numbered : yX8_numbered.cls = RX8 ∧ yX8_numbered.cls ≠ "java/lang/invoke/MethodHandle" ∧ yX8_numbered.cls ≠ "java/lang/invoke/VarHandle" ∧ (parseMethodDescriptor yX8_numbered.desc).map (fun d => d.parameters.length) = some 1 := by decide +kernel
set_option maxHeartbeats 4000000 in
set_option maxRecDepth 100000 in
theorem c_X8_numbered (l : Launch) (D : va_G) (cy : Nat → ClassId) (h0 sa pa ka aa oa wa ca ta na : Nat) (mOp : Int32) (mIk : Int32) (mPa : Int32) (mRu : Int32) (mLa : Int32) (mTy : Int32) (mSp : Int32) (mFr : Int32) (mRe : Int32) (mCa : Int32) (mOr : Int32) (mLe : Int32) (rS : Nat → Int32) (rP : Nat → Int32) (rK : Nat → Int32) (rA : Nat → Int32) (rO : Nat → Int32) (rW : Nat → Int32) (rC : Nat → Int32) (rT : Nat → Int32) (rN : Nat → Int32) (n1 : Int32) (r : Int32 × Int32 × (Nat → Int32)) (hf : f_X8_numbered n1 mTy mSp rT rN = some r) : k_HMet l yX8_numbered wsX8_numbered rm_X8_numbered D (k_tys cy) [.ref h0, .int n1] (wX8 cy h0 sa pa ka aa oa wa ca ta na mOp mIk mPa mRu mLa mTy mSp mFr mRe mCa mOr mLe rS rP rK rA rO rW rC rT rN) (some (.int r.1)) (wX8 cy h0 sa pa ka aa oa wa ca ta na mOp mIk mPa mRu mLa mTy r.2.1 mFr mRe mCa mOr mLe rS rP rK rA rO rW rC rT r.2.2) := by
  refine k_heapOf (cc := cX8_numbered) (maxL := 3) (ret := (some .boolean)) (by decide) rfl (Nat.le_of_ble_eq_true rfl) ?_
  intro p e s m args below meth c ls A hx hb hr hlocks hml hown hts hl hA hK hP hD hN
  have hl : lv_has ls 3 [(0, .ref h0), (1, .int n1)] := hl
  have hS : va_S A s.heap s.heap [] := va_S.rf
  have in_X8 : ∀ w ∈ wsX80, w ∈ wsX8_numbered := by decide +kernel
  have fl31 := hts (.fieldLink RX8 31 "FencedBoxesModel" "text" "[I") (by decide +kernel)
  have fl34 := hts (.fieldLink RX8 34 "FencedBoxesModel" "numbers" "[I") (by decide +kernel)
  have fl159 := hts (.fieldLink RX8 159 "FencedBoxesModel" "spot" "I") (by decide +kernel)
  have L12 : ∀ (Q : State → Prop) (n : Nat) (b1 : Int32) (b2 : Int32) (mOp : Int32) (mIk : Int32) (mPa : Int32) (mRu : Int32) (mLa : Int32) (mTy : Int32) (mFr : Int32) (mRe : Int32) (mCa : Int32) (mOr : Int32) (mLe : Int32) (rS : Nat → Int32) (rP : Nat → Int32) (rK : Nat → Int32) (rA : Nat → Int32) (rO : Nat → Int32) (rW : Nat → Int32) (rC : Nat → Int32) (rT : Nat → Int32) (s12 : Int32 × (Nat → Int32)) (q : (Int32 × (Nat → Int32))), k_loop (t_X8_numbered_12 b1 b2 mTy rT) n s12 = some q → ∀ (ls : Array Slot) (H : Heap) (locs : List Loc), lv_has ls 3 [(0, .ref h0), (1, .int b1), (2, .int b2)] → va_P D vwCl (wX8 cy h0 sa pa ka aa oa wa ca ta na mOp mIk mPa mRu mLa mTy s12.1 mFr mRe mCa mOr mLe rS rP rK rA rO rW rC rT s12.2) H → va_D A (wX8 cy h0 sa pa ka aa oa wa ca ta na mOp mIk mPa mRu mLa mTy s12.1 mFr mRe mCa mOr mLe rS rP rK rA rO rW rC rT s12.2) → va_S A s.heap H locs → (∀ (ls : Array Slot) (H : Heap) (locs : List Loc), True → lv_has ls 3 [(0, .ref h0), (2, .int b2)] → va_P D vwCl (wX8 cy h0 sa pa ka aa oa wa ca ta na mOp mIk mPa mRu mLa mTy q.1 mFr mRe mCa mOr mLe rS rP rK rA rO rW rC rT q.2) H → va_D A (wX8 cy h0 sa pa ka aa oa wa ca ta na mOp mIk mPa mRu mLa mTy q.1 mFr mRe mCa mOr mLe rS rP rK rA rO rW rC rT q.2) → va_S A s.heap H locs → W p l e rm_X8_numbered s m args below meth c H locs 0 0 Q (F0 m 74 ls [])) → W p l e rm_X8_numbered s m args below meth c H locs 0 0 Q (F0 m 12 ls []) := by
    intro Q n
    induction n with
    | zero =>
      intro b1 b2 mOp mIk mPa mRu mLa mTy mFr mRe mCa mOr mLe rS rP rK rA rO rW rC rT s12 q hq
      exact (k_loop0 hq).elim
    | succ n ih =>
      intro b1 b2 mOp mIk mPa mRu mLa mTy mFr mRe mCa mOr mLe rS rP rK rA rO rW rC rT s12 q hq ls H locs hl hP hD hS kx 
      obtain ⟨x, hf, hq⟩ := k_loopE hq
      unfold t_X8_numbered_12 at hf
      refine lv_aload_n hx hb dX8_numbered_12 rfl (lv_at hl 0 rfl) ?_
      refine lv_bipush (v := 48) hx hb dX8_numbered_13 (by decide) ?_
      refine lv_bipush (v := 57) hx hb dX8_numbered_15 (by decide) ?_
      obtain ⟨v3, hv3, hf⟩ := k_B hf
      refine k_callHV (As := [.int 48, .int 57]) (rest := []) (r := (RX8, TX8, 21)) (ci := 5) (q0 := 0) (isC := [0, 1, 2, 3, 4, 5, 6, 7, 8, 9]) (isR := []) (perm := [0, 1, 2, 3, 4, 5, 6, 7, 8, 9]) (w' := (wX8 cy h0 sa pa ka aa oa wa ca ta na mOp mIk mPa mRu mLa mTy s12.1 mFr mRe mCa mOr mLe rS rP rK rA rO rW rC rT s12.2)) ⟨hx, hb, hml, hown, hts⟩ (c_X8_isAt l D cy h0 sa pa ka aa oa wa ca ta na mOp mIk mPa mRu mLa mTy s12.1 mFr mRe mCa mOr mLe rS rP rK rA rO rW rC rT s12.2 48 57 v3 hv3) (cwV 2 hts gX8_numbered_X8_isAt rfl rfl rfl hd_X8_isAt ⟨Nat.le_of_ble_eq_true rfl, Nat.le_of_ble_eq_true rfl⟩) hK hN hP hD hS hA rfl rfl rfl rfl rfl rfl (by decide) rfl rfl rfl hl.1 rfl (Nat.le_of_ble_eq_true rfl) dX8_numbered_17 ⟨Nat.zero_le _, Nat.zero_le _⟩ (fun H locs hP hD hS => ?_)
      refine lv_if_eq (tgt := 74) hx hb dX8_numbered_20 (by decide) (fun c4 => ?_) (fun c4 => ?_)
      · have hf := k_T c4 hf
        obtain rfl := k_some hf
        obtain rfl := k_some (k_inr hq)
        exact kx ls H locs trivial (lv_sub hl [0, 2] rfl) hP hD hS
      · have hf := k_F c4 hf
        refine lv_aload_n hx hb dX8_numbered_23 rfl (lv_at hl 0 rfl) ?_
        refine va_get (D := D) (ci := 5) (v := .int s12.1) (C := RX8) (T := TX8) (N := 21) hx hb hts in_X8 hown hK hP 0 rfl rfl 14 (by decide) fl159 (fun _ h9 => h9) rfl dX8_numbered_24 ?_
        refine lv_iload_n hx hb dX8_numbered_27 rfl (lv_at hl 2 rfl) ?_
        refine lv_isub hx hb dX8_numbered_28 ?_
        refine lv_iconst (v := 2) hx hb dX8_numbered_29 (by decide) ?_
        refine lv_icmp_ge (tgt := 74) hx hb dX8_numbered_30 (by decide) (fun c5 => ?_) (fun c5 => ?_)
        · have hf := k_T c5 hf
          obtain rfl := k_some hf
          obtain rfl := k_some (k_inr hq)
          exact kx ls H locs trivial (lv_sub hl [0, 2] rfl) hP hD hS
        · have hf := k_F c5 hf
          refine lv_aload_n hx hb dX8_numbered_33 rfl (lv_at hl 0 rfl) ?_
          refine va_get (D := D) (ci := 5) (v := .ref na) (C := RX8) (T := TX8) (N := 21) hx hb hts in_X8 hown hK hP 0 rfl rfl 20 (by decide) fl34 (fun _ h9 => h9) rfl dX8_numbered_34 ?_
          refine lv_iload_n hx hb dX8_numbered_37 rfl (lv_at hl 1 rfl) ?_
          refine lv_bipush (v := 10) hx hb dX8_numbered_38 (by decide) ?_
          refine lv_aload_n hx hb dX8_numbered_40 rfl (lv_at hl 0 rfl) ?_
          refine va_get (D := D) (ci := 5) (v := .ref na) (C := RX8) (T := TX8) (N := 21) hx hb hts in_X8 hown hK hP 0 rfl rfl 20 (by decide) fl34 (fun _ h9 => h9) rfl dX8_numbered_41 ?_
          refine lv_iload_n hx hb dX8_numbered_44 rfl (lv_at hl 1 rfl) ?_
          obtain ⟨g6, hf⟩ := k_G hf
          refine va_iald hx hb hK hP 9 0 rfl rfl g6 dX8_numbered_45 ?_
          refine lv_imul hx hb dX8_numbered_46 ?_
          refine lv_aload_n hx hb dX8_numbered_47 rfl (lv_at hl 0 rfl) ?_
          refine va_get (D := D) (ci := 5) (v := .ref ta) (C := RX8) (T := TX8) (N := 21) hx hb hts in_X8 hown hK hP 0 rfl rfl 12 (by decide) fl31 (fun _ h9 => h9) rfl dX8_numbered_48 ?_
          refine lv_aload_n hx hb dX8_numbered_51 rfl (lv_at hl 0 rfl) ?_
          refine va_get (D := D) (ci := 5) (v := .int s12.1) (C := RX8) (T := TX8) (N := 21) hx hb hts in_X8 hown hK hP 0 rfl rfl 14 (by decide) fl159 (fun _ h9 => h9) rfl dX8_numbered_52 ?_
          obtain ⟨g7, hf⟩ := k_G hf
          refine va_iald hx hb hK hP 8 0 rfl rfl g7 dX8_numbered_55 ?_
          refine lv_iadd hx hb dX8_numbered_56 ?_
          refine lv_bipush (v := 48) hx hb dX8_numbered_57 (by decide) ?_
          refine lv_isub hx hb dX8_numbered_59 ?_
          obtain ⟨g8, hf⟩ := k_G hf
          refine va_iast hx hb hK hP hD hS 9 0 rfl rfl g8 dX8_numbered_60 (fun H locs hP hD hS => ?_)
          obtain ⟨w9, ew9, hf⟩ := k_L hf
          have hP : va_P D vwCl (wX8 cy h0 sa pa ka aa oa wa ca ta na mOp mIk mPa mRu mLa mTy s12.1 mFr mRe mCa mOr mLe rS rP rK rA rO rW rC rT w9) H := by rw [ew9]; exact hP
          have hD : va_D A (wX8 cy h0 sa pa ka aa oa wa ca ta na mOp mIk mPa mRu mLa mTy s12.1 mFr mRe mCa mOr mLe rS rP rK rA rO rW rC rT w9) := by rw [ew9]; exact hD
          refine lv_aload_n hx hb dX8_numbered_61 rfl (lv_at hl 0 rfl) ?_
          refine lv_dup hx hb dX8_numbered_62 rfl ?_
          refine va_get (D := D) (ci := 5) (v := .int s12.1) (C := RX8) (T := TX8) (N := 21) hx hb hts in_X8 hown hK hP 0 rfl rfl 14 (by decide) fl159 (fun _ h9 => h9) rfl dX8_numbered_63 ?_
          refine lv_iconst (v := 1) hx hb dX8_numbered_66 (by decide) ?_
          refine lv_iadd hx hb dX8_numbered_67 ?_
          obtain ⟨y10, ey10, hf⟩ := k_L hf
          refine k_name ey10 ?_
          refine va_put (D := D) (ci := 5) (v := .int y10) (ty := .int) (C := RX8) (T := TX8) (N := 21) hx hb hts in_X8 tyX8 tyX8_ok nmX8 hown hK hP hD hS 0 rfl rfl 14 (by decide) fl159 (fun _ h9 => h9) rfl (by decide +kernel) rfl rfl (Nat.le_of_ble_eq_true rfl) dX8_numbered_68 (fun H locs hP hD hS => ?_)
          have hP : va_P D vwCl (wX8 cy h0 sa pa ka aa oa wa ca ta na mOp mIk mPa mRu mLa mTy y10 mFr mRe mCa mOr mLe rS rP rK rA rO rW rC rT w9) H := hP
          have hD : va_D A (wX8 cy h0 sa pa ka aa oa wa ca ta na mOp mIk mPa mRu mLa mTy y10 mFr mRe mCa mOr mLe rS rP rK rA rO rW rC rT w9) := hD
          refine lv_goto (tgt := 12) hx hb dX8_numbered_71 (by decide) ?_
          obtain rfl := k_some hf
          exact ih b1 b2 mOp mIk mPa mRu mLa mTy mFr mRe mCa mOr mLe rS rP rK rA rO rW rC rT (y10, w9) q (k_inl hq) ls H locs (lv_sub hl [0, 1, 2] rfl) hP hD hS kx 
  unfold f_X8_numbered at hf
  obtain ⟨H, eH⟩ : ∃ H, H = s.heap := ⟨_, rfl⟩
  obtain ⟨locs, elocs⟩ : ∃ L : List Loc, L = [] := ⟨_, rfl⟩
  have hP : va_P D vwCl (wX8 cy h0 sa pa ka aa oa wa ca ta na mOp mIk mPa mRu mLa mTy mSp mFr mRe mCa mOr mLe rS rP rK rA rO rW rC rT rN) H := by rw [eH]; exact hP
  have hS : va_S A s.heap H locs := by rw [eH, elocs]; exact hS
  refine k_here eH elocs ?_
  refine lv_aload_n hx hb dX8_numbered_0 rfl (lv_at hl 0 rfl) ?_
  refine va_get (D := D) (ci := 5) (v := .int mSp) (C := RX8) (T := TX8) (N := 21) hx hb hts in_X8 hown hK hP 0 rfl rfl 14 (by decide) fl159 (fun _ h9 => h9) rfl dX8_numbered_1 ?_
  refine lv_istore_n (lv' := [(2, .int mSp), (0, .ref h0), (1, .int n1)]) hx hb dX8_numbered_4 rfl hl (by decide) rfl (fun ls hl => ?_)
  refine lv_aload_n hx hb dX8_numbered_5 rfl (lv_at hl 1 rfl) ?_
  refine va_get (D := D) (ci := 5) (v := .ref na) (C := RX8) (T := TX8) (N := 21) hx hb hts in_X8 hown hK hP 0 rfl rfl 20 (by decide) fl34 (fun _ h9 => h9) rfl dX8_numbered_6 ?_
  refine lv_iload_n hx hb dX8_numbered_9 rfl (lv_at hl 2 rfl) ?_
  refine lv_iconst (v := 0) hx hb dX8_numbered_10 (by decide) ?_
  obtain ⟨g1, hf⟩ := k_G hf
  refine va_iast hx hb hK hP hD hS 9 0 rfl rfl g1 dX8_numbered_11 (fun H locs hP hD hS => ?_)
  obtain ⟨w2, ew2, hf⟩ := k_L hf
  have hP : va_P D vwCl (wX8 cy h0 sa pa ka aa oa wa ca ta na mOp mIk mPa mRu mLa mTy mSp mFr mRe mCa mOr mLe rS rP rK rA rO rW rC rT w2) H := by rw [ew2]; exact hP
  have hD : va_D A (wX8 cy h0 sa pa ka aa oa wa ca ta na mOp mIk mPa mRu mLa mTy mSp mFr mRe mCa mOr mLe rS rP rK rA rO rW rC rT w2) := by rw [ew2]; exact hD
  obtain ⟨x11, hx11, hf⟩ := k_B hf
  refine L12 _ 1000 n1 mSp mOp mIk mPa mRu mLa mTy mFr mRe mCa mOr mLe rS rP rK rA rO rW rC rT (mSp, w2) x11 hx11 ls H locs (lv_sub hl [1, 2, 0] rfl) hP hD hS ?_
  · intro ls H locs _ hl hP hD hS
    refine lv_aload_n hx hb dX8_numbered_74 rfl (lv_at hl 0 rfl) ?_
    refine va_get (D := D) (ci := 5) (v := .int x11.1) (C := RX8) (T := TX8) (N := 21) hx hb hts in_X8 hown hK hP 0 rfl rfl 14 (by decide) fl159 (fun _ h9 => h9) rfl dX8_numbered_75 ?_
    refine lv_iload_n hx hb dX8_numbered_78 rfl (lv_at hl 1 rfl) ?_
    refine lv_icmp_le (tgt := 86) hx hb dX8_numbered_79 (by decide) (fun c12 => ?_) (fun c12 => ?_)
    · have hf := k_T c12 hf
      refine lv_iconst (v := 0) hx hb dX8_numbered_86 (by decide) ?_
      obtain rfl := k_some hf
      exact k_zret (v := 0) hx hb hr rfl hP hD hS dX8_numbered_87 hlocks
    · have hf := k_F c12 hf
      refine lv_iconst (v := 1) hx hb dX8_numbered_82 (by decide) ?_
      refine lv_goto (tgt := 87) hx hb dX8_numbered_83 (by decide) ?_
      obtain rfl := k_some hf
      exact k_zret (v := 1) hx hb hr rfl hP hD hS dX8_numbered_87 hlocks
def f_X8_parses (mTy : Int32) (mSp : Int32) (mLe : Int32) (rT : Nat → Int32) (rN : Nat → Int32) : Option (Int32 × Int32 × Int32 × (Nat → Int32)) :=
  (f_X8_isAt 33 126 mTy mSp rT).bind fun v1 =>
  if v1 = 0 then
    some (0, mSp, 0, rN)
  else
    if mSp < 0 ∨ 60 ≤ mSp.toNatClampNeg then none else
    k_let (rT mSp.toNatClampNeg) fun y4 =>
    if y4 = 102 then
      k_let (mSp + 1) fun y6 =>
      (f_X8_numbered 0 mTy y6 rT rN).bind fun v7 =>
      if v7.1 = 0 then
        some (0, v7.2.1, y4, v7.2.2)
      else
        (f_X8_sign 59 mTy v7.2.1 rT).bind fun v9 =>
        if v9.1 = 0 then
          some (0, v9.2, y4, v7.2.2)
        else
          some (1, v9.2, y4, v7.2.2)
    else
      if y4 = 110 then
        k_let (mSp + 1) fun y12 =>
        (f_X8_sign 59 mTy y12 rT).bind fun v13 =>
        if v13.1 = 0 ∨ v13.1 = 1 then some (v13.1, v13.2, y4, rN) else none
      else
        some (0, mSp, y4, rN)
abbrev rm_X8_parses : Room := { frames := 3, cells := 0, slots := 0, locals := 66 }
theorem hd_X8_parses : yX8_parses.cls = RX8 ∧ yX8_parses.cls ≠ "java/lang/invoke/MethodHandle" ∧ yX8_parses.cls ≠ "java/lang/invoke/VarHandle" ∧ (parseMethodDescriptor yX8_parses.desc).map (fun d => d.parameters.length) = some 0 := by decide +kernel
set_option maxHeartbeats 4000000 in
set_option maxRecDepth 100000 in
theorem c_X8_parses (l : Launch) (D : va_G) (cy : Nat → ClassId) (h0 sa pa ka aa oa wa ca ta na : Nat) (mOp : Int32) (mIk : Int32) (mPa : Int32) (mRu : Int32) (mLa : Int32) (mTy : Int32) (mSp : Int32) (mFr : Int32) (mRe : Int32) (mCa : Int32) (mOr : Int32) (mLe : Int32) (rS : Nat → Int32) (rP : Nat → Int32) (rK : Nat → Int32) (rA : Nat → Int32) (rO : Nat → Int32) (rW : Nat → Int32) (rC : Nat → Int32) (rT : Nat → Int32) (rN : Nat → Int32)  (r : Int32 × Int32 × Int32 × (Nat → Int32)) (hf : f_X8_parses mTy mSp mLe rT rN = some r) : k_HMet l yX8_parses wsX8_parses rm_X8_parses D (k_tys cy) [.ref h0] (wX8 cy h0 sa pa ka aa oa wa ca ta na mOp mIk mPa mRu mLa mTy mSp mFr mRe mCa mOr mLe rS rP rK rA rO rW rC rT rN) (some (.int r.1)) (wX8 cy h0 sa pa ka aa oa wa ca ta na mOp mIk mPa mRu mLa mTy r.2.1 mFr mRe mCa mOr r.2.2.1 rS rP rK rA rO rW rC rT r.2.2.2) := by
  refine k_heapOf (cc := cX8_parses) (maxL := 1) (ret := (some .boolean)) (by decide) rfl (Nat.le_of_ble_eq_true rfl) ?_
  intro p e s m args below meth c ls A hx hb hr hlocks hml hown hts hl hA hK hP hD hN
  have hl : lv_has ls 1 [(0, .ref h0)] := hl
  have hS : va_S A s.heap s.heap [] := va_S.rf
  have in_X8 : ∀ w ∈ wsX80, w ∈ wsX8_parses := by decide +kernel
  have fl31 := hts (.fieldLink RX8 31 "FencedBoxesModel" "text" "[I") (by decide +kernel)
  have fl159 := hts (.fieldLink RX8 159 "FencedBoxesModel" "spot" "I") (by decide +kernel)
  have fl165 := hts (.fieldLink RX8 165 "FencedBoxesModel" "letter" "I") (by decide +kernel)
  unfold f_X8_parses at hf
  obtain ⟨H, eH⟩ : ∃ H, H = s.heap := ⟨_, rfl⟩
  obtain ⟨locs, elocs⟩ : ∃ L : List Loc, L = [] := ⟨_, rfl⟩
  have hP : va_P D vwCl (wX8 cy h0 sa pa ka aa oa wa ca ta na mOp mIk mPa mRu mLa mTy mSp mFr mRe mCa mOr mLe rS rP rK rA rO rW rC rT rN) H := by rw [eH]; exact hP
  have hS : va_S A s.heap H locs := by rw [eH, elocs]; exact hS
  refine k_here eH elocs ?_
  refine lv_aload_n hx hb dX8_parses_0 rfl (lv_at hl 0 rfl) ?_
  refine lv_aload_n hx hb dX8_parses_1 rfl (lv_at hl 0 rfl) ?_
  refine lv_bipush (v := 33) hx hb dX8_parses_2 (by decide) ?_
  refine lv_bipush (v := 126) hx hb dX8_parses_4 (by decide) ?_
  obtain ⟨v1, hv1, hf⟩ := k_B hf
  refine k_callHV (As := [.int 33, .int 126]) (rest := [.ref h0]) (r := (RX8, TX8, 21)) (ci := 5) (q0 := 0) (isC := [0, 1, 2, 3, 4, 5, 6, 7, 8, 9]) (isR := []) (perm := [0, 1, 2, 3, 4, 5, 6, 7, 8, 9]) (w' := (wX8 cy h0 sa pa ka aa oa wa ca ta na mOp mIk mPa mRu mLa mTy mSp mFr mRe mCa mOr mLe rS rP rK rA rO rW rC rT rN)) ⟨hx, hb, hml, hown, hts⟩ (c_X8_isAt l D cy h0 sa pa ka aa oa wa ca ta na mOp mIk mPa mRu mLa mTy mSp mFr mRe mCa mOr mLe rS rP rK rA rO rW rC rT rN 33 126 v1 hv1) (cwV 2 hts gX8_parses_X8_isAt rfl rfl rfl hd_X8_isAt ⟨Nat.le_of_ble_eq_true rfl, Nat.le_of_ble_eq_true rfl⟩) hK hN hP hD hS hA rfl rfl rfl rfl rfl rfl (by decide) rfl rfl rfl hl.1 rfl (Nat.le_of_ble_eq_true rfl) dX8_parses_6 ⟨Nat.zero_le _, Nat.zero_le _⟩ (fun H locs hP hD hS => ?_)
  refine lv_if_eq (tgt := 24) hx hb dX8_parses_9 (by decide) (fun c2 => ?_) (fun c2 => ?_)
  · have hf := k_T c2 hf
    refine lv_iconst (v := 0) hx hb dX8_parses_24 (by decide) ?_
    refine va_put (D := D) (ci := 5) (v := .int 0) (ty := .int) (C := RX8) (T := TX8) (N := 21) hx hb hts in_X8 tyX8 tyX8_ok nmX8 hown hK hP hD hS 0 rfl rfl 19 (by decide) fl165 (fun _ h9 => h9) rfl (by decide +kernel) rfl rfl (Nat.le_of_ble_eq_true rfl) dX8_parses_25 (fun H locs hP hD hS => ?_)
    have hP : va_P D vwCl (wX8 cy h0 sa pa ka aa oa wa ca ta na mOp mIk mPa mRu mLa mTy mSp mFr mRe mCa mOr 0 rS rP rK rA rO rW rC rT rN) H := hP
    have hD : va_D A (wX8 cy h0 sa pa ka aa oa wa ca ta na mOp mIk mPa mRu mLa mTy mSp mFr mRe mCa mOr 0 rS rP rK rA rO rW rC rT rN) := hD
    refine lv_aload_n hx hb dX8_parses_28 rfl (lv_at hl 0 rfl) ?_
    refine va_get (D := D) (ci := 5) (v := .int 0) (C := RX8) (T := TX8) (N := 21) hx hb hts in_X8 hown hK hP 0 rfl rfl 19 (by decide) fl165 (fun _ h9 => h9) rfl dX8_parses_29 ?_
    refine lv_lookup (off := 78) (tgt := 110) hx hb dX8_parses_32 (by decide) (by decide) (by decide) ?_
    refine lv_iconst (v := 0) hx hb dX8_parses_110 (by decide) ?_
    obtain rfl := k_some hf
    exact k_zret (v := 0) hx hb hr rfl hP hD hS dX8_parses_111 hlocks
  · have hf := k_F c2 hf
    refine lv_aload_n hx hb dX8_parses_12 rfl (lv_at hl 0 rfl) ?_
    refine va_get (D := D) (ci := 5) (v := .ref ta) (C := RX8) (T := TX8) (N := 21) hx hb hts in_X8 hown hK hP 0 rfl rfl 12 (by decide) fl31 (fun _ h9 => h9) rfl dX8_parses_13 ?_
    refine lv_aload_n hx hb dX8_parses_16 rfl (lv_at hl 0 rfl) ?_
    refine va_get (D := D) (ci := 5) (v := .int mSp) (C := RX8) (T := TX8) (N := 21) hx hb hts in_X8 hown hK hP 0 rfl rfl 14 (by decide) fl159 (fun _ h9 => h9) rfl dX8_parses_17 ?_
    obtain ⟨g3, hf⟩ := k_G hf
    refine va_iald hx hb hK hP 8 0 rfl rfl g3 dX8_parses_20 ?_
    refine lv_goto (tgt := 25) hx hb dX8_parses_21 (by decide) ?_
    obtain ⟨y4, ey4, hf⟩ := k_L hf
    refine k_name ey4 ?_
    refine va_put (D := D) (ci := 5) (v := .int y4) (ty := .int) (C := RX8) (T := TX8) (N := 21) hx hb hts in_X8 tyX8 tyX8_ok nmX8 hown hK hP hD hS 0 rfl rfl 19 (by decide) fl165 (fun _ h9 => h9) rfl (by decide +kernel) rfl rfl (Nat.le_of_ble_eq_true rfl) dX8_parses_25 (fun H locs hP hD hS => ?_)
    have hP : va_P D vwCl (wX8 cy h0 sa pa ka aa oa wa ca ta na mOp mIk mPa mRu mLa mTy mSp mFr mRe mCa mOr y4 rS rP rK rA rO rW rC rT rN) H := hP
    have hD : va_D A (wX8 cy h0 sa pa ka aa oa wa ca ta na mOp mIk mPa mRu mLa mTy mSp mFr mRe mCa mOr y4 rS rP rK rA rO rW rC rT rN) := hD
    refine lv_aload_n hx hb dX8_parses_28 rfl (lv_at hl 0 rfl) ?_
    refine va_get (D := D) (ci := 5) (v := .int y4) (C := RX8) (T := TX8) (N := 21) hx hb hts in_X8 hown hK hP 0 rfl rfl 19 (by decide) fl165 (fun _ h9 => h9) rfl dX8_parses_29 ?_
    by_cases c5 : y4 = 102
    · have hf := k_T c5 hf
      refine lv_lookup (off := 45) (tgt := 77) hx hb dX8_parses_32 (by decide) (by rw [c5]; decide) (by decide) ?_
      refine lv_aload_n hx hb dX8_parses_77 rfl (lv_at hl 0 rfl) ?_
      refine lv_dup hx hb dX8_parses_78 rfl ?_
      refine va_get (D := D) (ci := 5) (v := .int mSp) (C := RX8) (T := TX8) (N := 21) hx hb hts in_X8 hown hK hP 0 rfl rfl 14 (by decide) fl159 (fun _ h9 => h9) rfl dX8_parses_79 ?_
      refine lv_iconst (v := 1) hx hb dX8_parses_82 (by decide) ?_
      refine lv_iadd hx hb dX8_parses_83 ?_
      obtain ⟨y6, ey6, hf⟩ := k_L hf
      refine k_name ey6 ?_
      refine va_put (D := D) (ci := 5) (v := .int y6) (ty := .int) (C := RX8) (T := TX8) (N := 21) hx hb hts in_X8 tyX8 tyX8_ok nmX8 hown hK hP hD hS 0 rfl rfl 14 (by decide) fl159 (fun _ h9 => h9) rfl (by decide +kernel) rfl rfl (Nat.le_of_ble_eq_true rfl) dX8_parses_84 (fun H locs hP hD hS => ?_)
      have hP : va_P D vwCl (wX8 cy h0 sa pa ka aa oa wa ca ta na mOp mIk mPa mRu mLa mTy y6 mFr mRe mCa mOr y4 rS rP rK rA rO rW rC rT rN) H := hP
      have hD : va_D A (wX8 cy h0 sa pa ka aa oa wa ca ta na mOp mIk mPa mRu mLa mTy y6 mFr mRe mCa mOr y4 rS rP rK rA rO rW rC rT rN) := hD
      refine lv_aload_n hx hb dX8_parses_87 rfl (lv_at hl 0 rfl) ?_
      refine lv_iconst (v := 0) hx hb dX8_parses_88 (by decide) ?_
      obtain ⟨v7, hv7, hf⟩ := k_B hf
      refine k_callHV (As := [.int 0]) (rest := []) (r := (RX8, TX8, 21)) (ci := 5) (q0 := 0) (isC := [0, 1, 2, 3, 4, 5, 6, 7, 8, 9]) (isR := []) (perm := [0, 1, 2, 3, 4, 5, 6, 7, 8, 9]) (w' := (wX8 cy h0 sa pa ka aa oa wa ca ta na mOp mIk mPa mRu mLa mTy v7.2.1 mFr mRe mCa mOr y4 rS rP rK rA rO rW rC rT v7.2.2)) ⟨hx, hb, hml, hown, hts⟩ (c_X8_numbered l D cy h0 sa pa ka aa oa wa ca ta na mOp mIk mPa mRu mLa mTy y6 mFr mRe mCa mOr y4 rS rP rK rA rO rW rC rT rN 0 v7 hv7) (cwV 1 hts gX8_parses_X8_numbered rfl rfl rfl hd_X8_numbered ⟨Nat.le_of_ble_eq_true rfl, Nat.le_of_ble_eq_true rfl⟩) hK hN hP hD hS hA rfl rfl rfl rfl rfl rfl (by decide) rfl rfl rfl hl.1 rfl (Nat.le_of_ble_eq_true rfl) dX8_parses_89 ⟨Nat.zero_le _, Nat.zero_le _⟩ (fun H locs hP hD hS => ?_)
      refine lv_if_eq (tgt := 108) hx hb dX8_parses_92 (by decide) (fun c8 => ?_) (fun c8 => ?_)
      · have hf := k_T c8 hf
        refine lv_iconst (v := 0) hx hb dX8_parses_108 (by decide) ?_
        obtain rfl := k_some hf
        exact k_zret (v := 0) hx hb hr rfl hP hD hS dX8_parses_109 hlocks
      · have hf := k_F c8 hf
        refine lv_aload_n hx hb dX8_parses_95 rfl (lv_at hl 0 rfl) ?_
        refine lv_bipush (v := 59) hx hb dX8_parses_96 (by decide) ?_
        obtain ⟨v9, hv9, hf⟩ := k_B hf
        refine k_callHV (As := [.int 59]) (rest := []) (r := (RX8, TX8, 21)) (ci := 5) (q0 := 0) (isC := [0, 1, 2, 3, 4, 5, 6, 7, 8, 9]) (isR := []) (perm := [0, 1, 2, 3, 4, 5, 6, 7, 8, 9]) (w' := (wX8 cy h0 sa pa ka aa oa wa ca ta na mOp mIk mPa mRu mLa mTy v9.2 mFr mRe mCa mOr y4 rS rP rK rA rO rW rC rT v7.2.2)) ⟨hx, hb, hml, hown, hts⟩ (c_X8_sign l D cy h0 sa pa ka aa oa wa ca ta na mOp mIk mPa mRu mLa mTy v7.2.1 mFr mRe mCa mOr y4 rS rP rK rA rO rW rC rT v7.2.2 59 v9 hv9) (cwV 1 hts gX8_parses_X8_sign rfl rfl rfl hd_X8_sign ⟨Nat.le_of_ble_eq_true rfl, Nat.le_of_ble_eq_true rfl⟩) hK hN hP hD hS hA rfl rfl rfl rfl rfl rfl (by decide) rfl rfl rfl hl.1 rfl (Nat.le_of_ble_eq_true rfl) dX8_parses_98 ⟨Nat.zero_le _, Nat.zero_le _⟩ (fun H locs hP hD hS => ?_)
        refine lv_if_eq (tgt := 108) hx hb dX8_parses_101 (by decide) (fun c10 => ?_) (fun c10 => ?_)
        · have hf := k_T c10 hf
          refine lv_iconst (v := 0) hx hb dX8_parses_108 (by decide) ?_
          obtain rfl := k_some hf
          exact k_zret (v := 0) hx hb hr rfl hP hD hS dX8_parses_109 hlocks
        · have hf := k_F c10 hf
          refine lv_iconst (v := 1) hx hb dX8_parses_104 (by decide) ?_
          refine lv_goto (tgt := 109) hx hb dX8_parses_105 (by decide) ?_
          obtain rfl := k_some hf
          exact k_zret (v := 1) hx hb hr rfl hP hD hS dX8_parses_109 hlocks
    · have hf := k_F c5 hf
      by_cases c11 : y4 = 110
      · have hf := k_T c11 hf
        refine lv_lookup (off := 28) (tgt := 60) hx hb dX8_parses_32 (by decide) (by rw [c11]; decide) (by decide) ?_
        refine lv_aload_n hx hb dX8_parses_60 rfl (lv_at hl 0 rfl) ?_
        refine lv_dup hx hb dX8_parses_61 rfl ?_
        refine va_get (D := D) (ci := 5) (v := .int mSp) (C := RX8) (T := TX8) (N := 21) hx hb hts in_X8 hown hK hP 0 rfl rfl 14 (by decide) fl159 (fun _ h9 => h9) rfl dX8_parses_62 ?_
        refine lv_iconst (v := 1) hx hb dX8_parses_65 (by decide) ?_
        refine lv_iadd hx hb dX8_parses_66 ?_
        obtain ⟨y12, ey12, hf⟩ := k_L hf
        refine k_name ey12 ?_
        refine va_put (D := D) (ci := 5) (v := .int y12) (ty := .int) (C := RX8) (T := TX8) (N := 21) hx hb hts in_X8 tyX8 tyX8_ok nmX8 hown hK hP hD hS 0 rfl rfl 14 (by decide) fl159 (fun _ h9 => h9) rfl (by decide +kernel) rfl rfl (Nat.le_of_ble_eq_true rfl) dX8_parses_67 (fun H locs hP hD hS => ?_)
        have hP : va_P D vwCl (wX8 cy h0 sa pa ka aa oa wa ca ta na mOp mIk mPa mRu mLa mTy y12 mFr mRe mCa mOr y4 rS rP rK rA rO rW rC rT rN) H := hP
        have hD : va_D A (wX8 cy h0 sa pa ka aa oa wa ca ta na mOp mIk mPa mRu mLa mTy y12 mFr mRe mCa mOr y4 rS rP rK rA rO rW rC rT rN) := hD
        refine lv_aload_n hx hb dX8_parses_70 rfl (lv_at hl 0 rfl) ?_
        refine lv_bipush (v := 59) hx hb dX8_parses_71 (by decide) ?_
        obtain ⟨v13, hv13, hf⟩ := k_B hf
        refine k_callHV (As := [.int 59]) (rest := []) (r := (RX8, TX8, 21)) (ci := 5) (q0 := 0) (isC := [0, 1, 2, 3, 4, 5, 6, 7, 8, 9]) (isR := []) (perm := [0, 1, 2, 3, 4, 5, 6, 7, 8, 9]) (w' := (wX8 cy h0 sa pa ka aa oa wa ca ta na mOp mIk mPa mRu mLa mTy v13.2 mFr mRe mCa mOr y4 rS rP rK rA rO rW rC rT rN)) ⟨hx, hb, hml, hown, hts⟩ (c_X8_sign l D cy h0 sa pa ka aa oa wa ca ta na mOp mIk mPa mRu mLa mTy y12 mFr mRe mCa mOr y4 rS rP rK rA rO rW rC rT rN 59 v13 hv13) (cwV 1 hts gX8_parses_X8_sign rfl rfl rfl hd_X8_sign ⟨Nat.le_of_ble_eq_true rfl, Nat.le_of_ble_eq_true rfl⟩) hK hN hP hD hS hA rfl rfl rfl rfl rfl rfl (by decide) rfl rfl rfl hl.1 rfl (Nat.le_of_ble_eq_true rfl) dX8_parses_73 ⟨Nat.zero_le _, Nat.zero_le _⟩ (fun H locs hP hD hS => ?_)
        obtain ⟨rfl, hn⟩ := k_boolR hf
        exact k_zret hx hb hr hn hP hD hS dX8_parses_76 hlocks
      · have hf := k_F c11 hf
        refine lv_lookup (off := 78) (tgt := 110) hx hb dX8_parses_32 (by decide) (k_off2 c5 c11) (by decide) ?_
        refine lv_iconst (v := 0) hx hb dX8_parses_110 (by decide) ?_
        obtain rfl := k_some hf
        exact k_zret (v := 0) hx hb hr rfl hP hD hS dX8_parses_111 hlocks
def f_X8_does (mPa : Int32) (mRu : Int32) (mLa : Int32) (mLe : Int32) (rS : Nat → Int32) (rP : Nat → Int32) (rN : Nat → Int32) : Option (Int32 × Int32 × Int32 × (Nat → Int32) × (Nat → Int32)) :=
  if mLe = 110 then
    (f_X8_newGame mPa mRu mLa rS rP).bind fun v4 =>
    if 0 ≤ v4.1 then
      some (v4.2.2.1, v4.2.1, v4.2.2.1, v4.2.2.2.1, v4.2.2.2.2)
    else
      some (2, v4.2.1, v4.2.2.1, v4.2.2.2.1, v4.2.2.2.2)
  else
    (f_X8_draw (rN 0) mPa mRu mLa rS rP).bind fun v2 =>
    if 0 ≤ v2.1 then
      some (v2.2.2.1, v2.2.1, v2.2.2.1, v2.2.2.2.1, v2.2.2.2.2)
    else
      some (2, v2.2.1, v2.2.2.1, v2.2.2.2.1, v2.2.2.2.2)
abbrev rm_X8_does : Room := { frames := 4, cells := 0, slots := 0, locals := 89 }
theorem hd_X8_does : yX8_does.cls = RX8 ∧ yX8_does.cls ≠ "java/lang/invoke/MethodHandle" ∧ yX8_does.cls ≠ "java/lang/invoke/VarHandle" ∧ (parseMethodDescriptor yX8_does.desc).map (fun d => d.parameters.length) = some 0 := by decide +kernel
set_option maxHeartbeats 4000000 in
set_option maxRecDepth 100000 in
theorem c_X8_does (l : Launch) (D : va_G) (cy : Nat → ClassId) (h0 sa pa ka aa oa wa ca ta na : Nat) (mOp : Int32) (mIk : Int32) (mPa : Int32) (mRu : Int32) (mLa : Int32) (mTy : Int32) (mSp : Int32) (mFr : Int32) (mRe : Int32) (mCa : Int32) (mOr : Int32) (mLe : Int32) (rS : Nat → Int32) (rP : Nat → Int32) (rK : Nat → Int32) (rA : Nat → Int32) (rO : Nat → Int32) (rW : Nat → Int32) (rC : Nat → Int32) (rT : Nat → Int32) (rN : Nat → Int32)  (r : Int32 × Int32 × Int32 × (Nat → Int32) × (Nat → Int32)) (hf : f_X8_does mPa mRu mLa mLe rS rP rN = some r) : k_HMet l yX8_does wsX8_does rm_X8_does D (k_tys cy) [.ref h0] (wX8 cy h0 sa pa ka aa oa wa ca ta na mOp mIk mPa mRu mLa mTy mSp mFr mRe mCa mOr mLe rS rP rK rA rO rW rC rT rN) (some (.int r.1)) (wX8 cy h0 sa pa ka aa oa wa ca ta na mOp mIk r.2.1 mRu r.2.2.1 mTy mSp mFr mRe mCa mOr mLe r.2.2.2.1 r.2.2.2.2 rK rA rO rW rC rT rN) := by
  refine k_heapOf (cc := cX8_does) (maxL := 2) (ret := (some .int)) (by decide) rfl (Nat.le_of_ble_eq_true rfl) ?_
  intro p e s m args below meth c ls A hx hb hr hlocks hml hown hts hl hA hK hP hD hN
  have hl : lv_has ls 2 [(0, .ref h0)] := hl
  have hS : va_S A s.heap s.heap [] := va_S.rf
  have in_X8 : ∀ w ∈ wsX80, w ∈ wsX8_does := by decide +kernel
  have fl34 := hts (.fieldLink RX8 34 "FencedBoxesModel" "numbers" "[I") (by decide +kernel)
  have fl37 := hts (.fieldLink RX8 37 "FencedBoxesModel" "last" "I") (by decide +kernel)
  have fl165 := hts (.fieldLink RX8 165 "FencedBoxesModel" "letter" "I") (by decide +kernel)
  unfold f_X8_does at hf
  obtain ⟨H, eH⟩ : ∃ H, H = s.heap := ⟨_, rfl⟩
  obtain ⟨locs, elocs⟩ : ∃ L : List Loc, L = [] := ⟨_, rfl⟩
  have hP : va_P D vwCl (wX8 cy h0 sa pa ka aa oa wa ca ta na mOp mIk mPa mRu mLa mTy mSp mFr mRe mCa mOr mLe rS rP rK rA rO rW rC rT rN) H := by rw [eH]; exact hP
  have hS : va_S A s.heap H locs := by rw [eH, elocs]; exact hS
  refine k_here eH elocs ?_
  refine lv_aload_n hx hb dX8_does_0 rfl (lv_at hl 0 rfl) ?_
  refine va_get (D := D) (ci := 5) (v := .int mLe) (C := RX8) (T := TX8) (N := 21) hx hb hts in_X8 hown hK hP 0 rfl rfl 19 (by decide) fl165 (fun _ h9 => h9) rfl dX8_does_1 ?_
  refine lv_bipush (v := 110) hx hb dX8_does_4 (by decide) ?_
  refine lv_icmp_ne (tgt := 16) hx hb dX8_does_6 (by decide) (fun c1 => ?_) (fun c1 => ?_)
  · have hf := k_F c1 hf
    refine lv_aload_n hx hb dX8_does_16 rfl (lv_at hl 0 rfl) ?_
    refine lv_aload_n hx hb dX8_does_17 rfl (lv_at hl 0 rfl) ?_
    refine va_get (D := D) (ci := 5) (v := .ref na) (C := RX8) (T := TX8) (N := 21) hx hb hts in_X8 hown hK hP 0 rfl rfl 20 (by decide) fl34 (fun _ h9 => h9) rfl dX8_does_18 ?_
    refine lv_iconst (v := 0) hx hb dX8_does_21 (by decide) ?_
    refine va_iald hx hb hK hP 9 0 rfl rfl (k_in (i := 0) (n := 2) (by decide +kernel)) dX8_does_22 ?_
    refine k_name (v := rN 0) rfl ?_
    obtain ⟨v2, hv2, hf⟩ := k_B hf
    refine k_callHV (As := [.int (rN 0)]) (rest := []) (r := (RX8, TX8, 21)) (ci := 5) (q0 := 0) (isC := [0, 1, 2, 3, 4, 5, 6, 7, 8, 9]) (isR := []) (perm := [0, 1, 2, 3, 4, 5, 6, 7, 8, 9]) (w' := (wX8 cy h0 sa pa ka aa oa wa ca ta na mOp mIk v2.2.1 mRu v2.2.2.1 mTy mSp mFr mRe mCa mOr mLe v2.2.2.2.1 v2.2.2.2.2 rK rA rO rW rC rT rN)) ⟨hx, hb, hml, hown, hts⟩ (c_X8_draw l D cy h0 sa pa ka aa oa wa ca ta na mOp mIk mPa mRu mLa mTy mSp mFr mRe mCa mOr mLe rS rP rK rA rO rW rC rT rN (rN 0) v2 hv2) (cwV 1 hts gX8_does_X8_draw rfl rfl rfl hd_X8_draw ⟨Nat.le_of_ble_eq_true rfl, Nat.le_of_ble_eq_true rfl⟩) hK hN hP hD hS hA rfl rfl rfl rfl rfl rfl (by decide) rfl rfl rfl hl.1 rfl (Nat.le_of_ble_eq_true rfl) dX8_does_23 ⟨Nat.zero_le _, Nat.zero_le _⟩ (fun H locs hP hD hS => ?_)
    refine lv_istore_n (lv' := [(1, .int v2.1), (0, .ref h0)]) hx hb dX8_does_26 rfl hl (by decide) rfl (fun ls hl => ?_)
    refine lv_iload_n hx hb dX8_does_27 rfl (lv_at hl 0 rfl) ?_
    refine lv_if_ge (tgt := 35) hx hb dX8_does_28 (by decide) (fun c3 => ?_) (fun c3 => ?_)
    · have hf := k_T c3 hf
      refine lv_aload_n hx hb dX8_does_35 rfl (lv_at hl 1 rfl) ?_
      refine va_get (D := D) (ci := 5) (v := .int v2.2.2.1) (C := RX8) (T := TX8) (N := 21) hx hb hts in_X8 hown hK hP 0 rfl rfl 11 (by decide) fl37 (fun _ h9 => h9) rfl dX8_does_36 ?_
      obtain rfl := k_some hf
      exact k_iret hx hb hr hP hD hS dX8_does_39 hlocks
    · have hf := k_F c3 hf
      refine lv_iconst (v := 2) hx hb dX8_does_31 (by decide) ?_
      refine lv_goto (tgt := 39) hx hb dX8_does_32 (by decide) ?_
      obtain rfl := k_some hf
      exact k_iret hx hb hr hP hD hS dX8_does_39 hlocks
  · have hf := k_T c1 hf
    refine lv_aload_n hx hb dX8_does_9 rfl (lv_at hl 0 rfl) ?_
    obtain ⟨v4, hv4, hf⟩ := k_B hf
    refine k_callHV (As := []) (rest := []) (r := (RX8, TX8, 21)) (ci := 5) (q0 := 0) (isC := [0, 1, 2, 3, 4, 5, 6, 7, 8, 9]) (isR := []) (perm := [0, 1, 2, 3, 4, 5, 6, 7, 8, 9]) (w' := (wX8 cy h0 sa pa ka aa oa wa ca ta na mOp mIk v4.2.1 mRu v4.2.2.1 mTy mSp mFr mRe mCa mOr mLe v4.2.2.2.1 v4.2.2.2.2 rK rA rO rW rC rT rN)) ⟨hx, hb, hml, hown, hts⟩ (c_X8_newGame l D cy h0 sa pa ka aa oa wa ca ta na mOp mIk mPa mRu mLa mTy mSp mFr mRe mCa mOr mLe rS rP rK rA rO rW rC rT rN  v4 hv4) (cwV 0 hts gX8_does_X8_newGame rfl rfl rfl hd_X8_newGame ⟨Nat.le_of_ble_eq_true rfl, Nat.le_of_ble_eq_true rfl⟩) hK hN hP hD hS hA rfl rfl rfl rfl rfl rfl (by decide) rfl rfl rfl hl.1 rfl (Nat.le_of_ble_eq_true rfl) dX8_does_10 ⟨Nat.zero_le _, Nat.zero_le _⟩ (fun H locs hP hD hS => ?_)
    refine lv_goto (tgt := 26) hx hb dX8_does_13 (by decide) ?_
    refine lv_istore_n (lv' := [(1, .int v4.1), (0, .ref h0)]) hx hb dX8_does_26 rfl hl (by decide) rfl (fun ls hl => ?_)
    refine lv_iload_n hx hb dX8_does_27 rfl (lv_at hl 0 rfl) ?_
    refine lv_if_ge (tgt := 35) hx hb dX8_does_28 (by decide) (fun c5 => ?_) (fun c5 => ?_)
    · have hf := k_T c5 hf
      refine lv_aload_n hx hb dX8_does_35 rfl (lv_at hl 1 rfl) ?_
      refine va_get (D := D) (ci := 5) (v := .int v4.2.2.1) (C := RX8) (T := TX8) (N := 21) hx hb hts in_X8 hown hK hP 0 rfl rfl 11 (by decide) fl37 (fun _ h9 => h9) rfl dX8_does_36 ?_
      obtain rfl := k_some hf
      exact k_iret hx hb hr hP hD hS dX8_does_39 hlocks
    · have hf := k_F c5 hf
      refine lv_iconst (v := 2) hx hb dX8_does_31 (by decide) ?_
      refine lv_goto (tgt := 39) hx hb dX8_does_32 (by decide) ?_
      obtain rfl := k_some hf
      exact k_iret hx hb hr hP hD hS dX8_does_39 hlocks
def t_X8_plays_22 (mRu : Int32) (mTy : Int32) (rT : Nat → Int32) (s22 : Int32 × Int32 × Int32 × Int32 × Int32 × Int32 × Int32 × Int32 × Int32 × (Nat → Int32) × (Nat → Int32) × (Nat → Int32)) : Option ((Int32 × Int32 × Int32 × Int32 × Int32 × Int32 × Int32 × Int32 × Int32 × (Nat → Int32) × (Nat → Int32) × (Nat → Int32)) ⊕ (Int32 × Int32 × Int32 × Int32 × Int32 × Int32 × Int32 × Int32 × Int32 × (Nat → Int32) × (Nat → Int32) × (Nat → Int32))) :=
  if mTy ≤ s22.2.2.2.1 then
    some (.inr (s22.1, s22.2.1, s22.2.2.1, s22.2.2.2.1, s22.2.2.2.2.1, s22.2.2.2.2.2.1, s22.2.2.2.2.2.2.1, s22.2.2.2.2.2.2.2.1, s22.2.2.2.2.2.2.2.2.1, s22.2.2.2.2.2.2.2.2.2.1, s22.2.2.2.2.2.2.2.2.2.2.1, s22.2.2.2.2.2.2.2.2.2.2.2))
  else
    if s22.1 = 0 then
      some (.inr (s22.1, s22.2.1, s22.2.2.1, s22.2.2.2.1, s22.2.2.2.2.1, s22.2.2.2.2.2.1, s22.2.2.2.2.2.2.1, s22.2.2.2.2.2.2.2.1, s22.2.2.2.2.2.2.2.2.1, s22.2.2.2.2.2.2.2.2.2.1, s22.2.2.2.2.2.2.2.2.2.2.1, s22.2.2.2.2.2.2.2.2.2.2.2))
    else
      (f_X8_parses mTy s22.2.2.2.1 s22.2.2.2.2.2.2.2.2.1 rT s22.2.2.2.2.2.2.2.2.2.2.2).bind fun v3 =>
      if v3.1 = 0 then
        if v3.1 = 0 then
          if v3.1 = 0 then
            if v3.1 = 0 then
              k_let (v3.2.1 - s22.2.2.2.1) fun y8 =>
              k_let (s22.2.2.2.2.2.2.2.1 + 1) fun y9 =>
              some (.inl (0, s22.2.1, s22.2.2.1, v3.2.1, s22.2.2.2.1, 1, y8, y9, v3.2.2.1, s22.2.2.2.2.2.2.2.2.2.1, s22.2.2.2.2.2.2.2.2.2.2.1, v3.2.2.2))
            else
              k_let (s22.2.2.2.2.2.2.2.1 + 1) fun y10 =>
              some (.inl (0, s22.2.1, s22.2.2.1, v3.2.1, s22.2.2.2.1, 1, 0, y10, v3.2.2.1, s22.2.2.2.2.2.2.2.2.2.1, s22.2.2.2.2.2.2.2.2.2.2.1, v3.2.2.2))
          else
            if v3.1 = 0 then
              k_let (v3.2.1 - s22.2.2.2.1) fun y12 =>
              k_let (s22.2.2.2.2.2.2.2.1 + 1) fun y13 =>
              some (.inl (0, s22.2.1, s22.2.2.1, v3.2.1, s22.2.2.2.1, 2, y12, y13, v3.2.2.1, s22.2.2.2.2.2.2.2.2.2.1, s22.2.2.2.2.2.2.2.2.2.2.1, v3.2.2.2))
            else
              k_let (s22.2.2.2.2.2.2.2.1 + 1) fun y14 =>
              some (.inl (0, s22.2.1, s22.2.2.1, v3.2.1, s22.2.2.2.1, 2, 0, y14, v3.2.2.1, s22.2.2.2.2.2.2.2.2.2.1, s22.2.2.2.2.2.2.2.2.2.2.1, v3.2.2.2))
        else
          if (0 : Int32) = 0 then
            if v3.1 = 0 then
              if v3.1 = 0 then
                k_let (v3.2.1 - s22.2.2.2.1) fun y27 =>
                k_let (s22.2.2.2.2.2.2.2.1 + 1) fun y28 =>
                some (.inl (1, s22.2.1, s22.2.2.1, v3.2.1, s22.2.2.2.1, 1, y27, y28, v3.2.2.1, s22.2.2.2.2.2.2.2.2.2.1, s22.2.2.2.2.2.2.2.2.2.2.1, v3.2.2.2))
              else
                k_let (s22.2.2.2.2.2.2.2.1 + 1) fun y29 =>
                some (.inl (1, s22.2.1, s22.2.2.1, v3.2.1, s22.2.2.2.1, 1, 0, y29, v3.2.2.1, s22.2.2.2.2.2.2.2.2.2.1, s22.2.2.2.2.2.2.2.2.2.2.1, v3.2.2.2))
            else
              if v3.1 = 0 then
                k_let (v3.2.1 - s22.2.2.2.1) fun y31 =>
                k_let (s22.2.2.2.2.2.2.2.1 + 1) fun y32 =>
                some (.inl (1, s22.2.1, s22.2.2.1, v3.2.1, s22.2.2.2.1, 2, y31, y32, v3.2.2.1, s22.2.2.2.2.2.2.2.2.2.1, s22.2.2.2.2.2.2.2.2.2.2.1, v3.2.2.2))
              else
                k_let (s22.2.2.2.2.2.2.2.1 + 1) fun y33 =>
                some (.inl (1, s22.2.1, s22.2.2.1, v3.2.1, s22.2.2.2.1, 2, 0, y33, v3.2.2.1, s22.2.2.2.2.2.2.2.2.2.1, s22.2.2.2.2.2.2.2.2.2.2.1, v3.2.2.2))
          else
            if v3.1 = 0 then
              if v3.1 = 0 then
                k_let (v3.2.1 - s22.2.2.2.1) fun y18 =>
                k_let (s22.2.2.2.2.2.2.2.1 + 1) fun y19 =>
                some (.inl (0, s22.2.1, s22.2.2.1, v3.2.1, s22.2.2.2.1, 1, y18, y19, v3.2.2.1, s22.2.2.2.2.2.2.2.2.2.1, s22.2.2.2.2.2.2.2.2.2.2.1, v3.2.2.2))
              else
                k_let (s22.2.2.2.2.2.2.2.1 + 1) fun y20 =>
                some (.inl (0, s22.2.1, s22.2.2.1, v3.2.1, s22.2.2.2.1, 1, 0, y20, v3.2.2.1, s22.2.2.2.2.2.2.2.2.2.1, s22.2.2.2.2.2.2.2.2.2.2.1, v3.2.2.2))
            else
              if v3.1 = 0 then
                k_let (v3.2.1 - s22.2.2.2.1) fun y22 =>
                k_let (s22.2.2.2.2.2.2.2.1 + 1) fun y23 =>
                some (.inl (0, s22.2.1, s22.2.2.1, v3.2.1, s22.2.2.2.1, 2, y22, y23, v3.2.2.1, s22.2.2.2.2.2.2.2.2.2.1, s22.2.2.2.2.2.2.2.2.2.2.1, v3.2.2.2))
              else
                k_let (s22.2.2.2.2.2.2.2.1 + 1) fun y24 =>
                some (.inl (0, s22.2.1, s22.2.2.1, v3.2.1, s22.2.2.2.1, 2, 0, y24, v3.2.2.1, s22.2.2.2.2.2.2.2.2.2.1, s22.2.2.2.2.2.2.2.2.2.2.1, v3.2.2.2))
      else
        (f_X8_does s22.2.1 mRu s22.2.2.1 v3.2.2.1 s22.2.2.2.2.2.2.2.2.2.1 s22.2.2.2.2.2.2.2.2.2.2.1 v3.2.2.2).bind fun v34 =>
        if v3.1 = 0 then
          if v3.1 = 0 then
            if v3.1 = 0 then
              k_let (v3.2.1 - s22.2.2.2.1) fun y38 =>
              k_let (s22.2.2.2.2.2.2.2.1 + 1) fun y39 =>
              some (.inl (0, v34.2.1, v34.2.2.1, v3.2.1, s22.2.2.2.1, 1, y38, y39, v3.2.2.1, v34.2.2.2.1, v34.2.2.2.2, v3.2.2.2))
            else
              k_let (s22.2.2.2.2.2.2.2.1 + 1) fun y40 =>
              some (.inl (0, v34.2.1, v34.2.2.1, v3.2.1, s22.2.2.2.1, 1, v34.1, y40, v3.2.2.1, v34.2.2.2.1, v34.2.2.2.2, v3.2.2.2))
          else
            if v3.1 = 0 then
              k_let (v3.2.1 - s22.2.2.2.1) fun y42 =>
              k_let (s22.2.2.2.2.2.2.2.1 + 1) fun y43 =>
              some (.inl (0, v34.2.1, v34.2.2.1, v3.2.1, s22.2.2.2.1, 2, y42, y43, v3.2.2.1, v34.2.2.2.1, v34.2.2.2.2, v3.2.2.2))
            else
              k_let (s22.2.2.2.2.2.2.2.1 + 1) fun y44 =>
              some (.inl (0, v34.2.1, v34.2.2.1, v3.2.1, s22.2.2.2.1, 2, v34.1, y44, v3.2.2.1, v34.2.2.2.1, v34.2.2.2.2, v3.2.2.2))
        else
          if v34.1 = 0 then
            if v3.1 = 0 then
              if v3.1 = 0 then
                k_let (v3.2.1 - s22.2.2.2.1) fun y57 =>
                k_let (s22.2.2.2.2.2.2.2.1 + 1) fun y58 =>
                some (.inl (1, v34.2.1, v34.2.2.1, v3.2.1, s22.2.2.2.1, 1, y57, y58, v3.2.2.1, v34.2.2.2.1, v34.2.2.2.2, v3.2.2.2))
              else
                k_let (s22.2.2.2.2.2.2.2.1 + 1) fun y59 =>
                some (.inl (1, v34.2.1, v34.2.2.1, v3.2.1, s22.2.2.2.1, 1, v34.1, y59, v3.2.2.1, v34.2.2.2.1, v34.2.2.2.2, v3.2.2.2))
            else
              if v3.1 = 0 then
                k_let (v3.2.1 - s22.2.2.2.1) fun y61 =>
                k_let (s22.2.2.2.2.2.2.2.1 + 1) fun y62 =>
                some (.inl (1, v34.2.1, v34.2.2.1, v3.2.1, s22.2.2.2.1, 2, y61, y62, v3.2.2.1, v34.2.2.2.1, v34.2.2.2.2, v3.2.2.2))
              else
                k_let (s22.2.2.2.2.2.2.2.1 + 1) fun y63 =>
                some (.inl (1, v34.2.1, v34.2.2.1, v3.2.1, s22.2.2.2.1, 2, v34.1, y63, v3.2.2.1, v34.2.2.2.1, v34.2.2.2.2, v3.2.2.2))
          else
            if v3.1 = 0 then
              if v3.1 = 0 then
                k_let (v3.2.1 - s22.2.2.2.1) fun y48 =>
                k_let (s22.2.2.2.2.2.2.2.1 + 1) fun y49 =>
                some (.inl (0, v34.2.1, v34.2.2.1, v3.2.1, s22.2.2.2.1, 1, y48, y49, v3.2.2.1, v34.2.2.2.1, v34.2.2.2.2, v3.2.2.2))
              else
                k_let (s22.2.2.2.2.2.2.2.1 + 1) fun y50 =>
                some (.inl (0, v34.2.1, v34.2.2.1, v3.2.1, s22.2.2.2.1, 1, v34.1, y50, v3.2.2.1, v34.2.2.2.1, v34.2.2.2.2, v3.2.2.2))
            else
              if v3.1 = 0 then
                k_let (v3.2.1 - s22.2.2.2.1) fun y52 =>
                k_let (s22.2.2.2.2.2.2.2.1 + 1) fun y53 =>
                some (.inl (0, v34.2.1, v34.2.2.1, v3.2.1, s22.2.2.2.1, 2, y52, y53, v3.2.2.1, v34.2.2.2.1, v34.2.2.2.2, v3.2.2.2))
              else
                k_let (s22.2.2.2.2.2.2.2.1 + 1) fun y54 =>
                some (.inl (0, v34.2.1, v34.2.2.1, v3.2.1, s22.2.2.2.1, 2, v34.1, y54, v3.2.2.1, v34.2.2.2.1, v34.2.2.2.2, v3.2.2.2))
def f_X8_plays (mPa : Int32) (mRu : Int32) (mLa : Int32) (mTy : Int32) (mSp : Int32) (mFr : Int32) (mRe : Int32) (mCa : Int32) (mOr : Int32) (mLe : Int32) (rS : Nat → Int32) (rP : Nat → Int32) (rT : Nat → Int32) (rN : Nat → Int32) : Option (Int32 × Int32 × Int32 × Int32 × Int32 × Int32 × Int32 × Int32 × Int32 × Int32 × (Nat → Int32) × (Nat → Int32) × (Nat → Int32)) :=
  (k_loop (t_X8_plays_22 1 mTy rT) 1000 (1, mPa, mLa, 0, 0, mRe, mCa, 0, mLe, rS, rP, rN)).bind fun x64 =>
  if x64.1 = 0 ∨ x64.1 = 1 then some (x64.1, x64.2.1, 0, 0, x64.2.2.2.1, x64.2.2.2.2.1, x64.2.2.2.2.2.1, x64.2.2.2.2.2.2.1, x64.2.2.2.2.2.2.2.1, x64.2.2.2.2.2.2.2.2.1, x64.2.2.2.2.2.2.2.2.2.1, x64.2.2.2.2.2.2.2.2.2.2.1, x64.2.2.2.2.2.2.2.2.2.2.2) else none
abbrev rm_X8_plays : Room := { frames := 5, cells := 0, slots := 0, locals := 110 }
theorem hd_X8_plays : yX8_plays.cls = RX8 ∧ yX8_plays.cls ≠ "java/lang/invoke/MethodHandle" ∧ yX8_plays.cls ≠ "java/lang/invoke/VarHandle" ∧ (parseMethodDescriptor yX8_plays.desc).map (fun d => d.parameters.length) = some 0 := by decide +kernel
set_option maxHeartbeats 4000000 in
set_option maxRecDepth 100000 in
theorem c_X8_plays (l : Launch) (D : va_G) (cy : Nat → ClassId) (h0 sa pa ka aa oa wa ca ta na : Nat) (mOp : Int32) (mIk : Int32) (mPa : Int32) (mRu : Int32) (mLa : Int32) (mTy : Int32) (mSp : Int32) (mFr : Int32) (mRe : Int32) (mCa : Int32) (mOr : Int32) (mLe : Int32) (rS : Nat → Int32) (rP : Nat → Int32) (rK : Nat → Int32) (rA : Nat → Int32) (rO : Nat → Int32) (rW : Nat → Int32) (rC : Nat → Int32) (rT : Nat → Int32) (rN : Nat → Int32)  (r : Int32 × Int32 × Int32 × Int32 × Int32 × Int32 × Int32 × Int32 × Int32 × Int32 × (Nat → Int32) × (Nat → Int32) × (Nat → Int32)) (hf : f_X8_plays mPa mRu mLa mTy mSp mFr mRe mCa mOr mLe rS rP rT rN = some r) : k_HMet l yX8_plays wsX8_plays rm_X8_plays D (k_tys cy) [.ref h0] (wX8 cy h0 sa pa ka aa oa wa ca ta na mOp mIk mPa mRu mLa mTy mSp mFr mRe mCa mOr mLe rS rP rK rA rO rW rC rT rN) (some (.int r.1)) (wX8 cy h0 sa pa ka aa oa wa ca ta na mOp mIk r.2.1 r.2.2.1 r.2.2.2.1 mTy r.2.2.2.2.1 r.2.2.2.2.2.1 r.2.2.2.2.2.2.1 r.2.2.2.2.2.2.2.1 r.2.2.2.2.2.2.2.2.1 r.2.2.2.2.2.2.2.2.2.1 r.2.2.2.2.2.2.2.2.2.2.1 r.2.2.2.2.2.2.2.2.2.2.2.1 rK rA rO rW rC rT r.2.2.2.2.2.2.2.2.2.2.2.2) := by
  refine k_heapOf (cc := cX8_plays) (maxL := 4) (ret := (some .boolean)) (by decide) rfl (Nat.le_of_ble_eq_true rfl) ?_
  intro p e s m args below meth c ls A hx hb hr hlocks hml hown hts hl hA hK hP hD hN
  have hl : lv_has ls 4 [(0, .ref h0)] := hl
  have hS : va_S A s.heap s.heap [] := va_S.rf
  have in_X8 : ∀ w ∈ wsX80, w ∈ wsX8_plays := by decide +kernel
  have fl37 := hts (.fieldLink RX8 37 "FencedBoxesModel" "last" "I") (by decide +kernel)
  have fl41 := hts (.fieldLink RX8 41 "FencedBoxesModel" "runs" "Z") (by decide +kernel)
  have fl156 := hts (.fieldLink RX8 156 "FencedBoxesModel" "typed" "I") (by decide +kernel)
  have fl159 := hts (.fieldLink RX8 159 "FencedBoxesModel" "spot" "I") (by decide +kernel)
  have fl180 := hts (.fieldLink RX8 180 "FencedBoxesModel" "from" "I") (by decide +kernel)
  have fl183 := hts (.fieldLink RX8 183 "FencedBoxesModel" "orders" "I") (by decide +kernel)
  have fl192 := hts (.fieldLink RX8 192 "FencedBoxesModel" "reason" "I") (by decide +kernel)
  have fl194 := hts (.fieldLink RX8 194 "FencedBoxesModel" "cause" "I") (by decide +kernel)
  have L22 : ∀ (Q : State → Prop) (n : Nat) (mOp : Int32) (mIk : Int32) (mRu : Int32) (mTy : Int32) (rK : Nat → Int32) (rA : Nat → Int32) (rO : Nat → Int32) (rW : Nat → Int32) (rC : Nat → Int32) (rT : Nat → Int32) (s22 : Int32 × Int32 × Int32 × Int32 × Int32 × Int32 × Int32 × Int32 × Int32 × (Nat → Int32) × (Nat → Int32) × (Nat → Int32)) (q : (Int32 × Int32 × Int32 × Int32 × Int32 × Int32 × Int32 × Int32 × Int32 × (Nat → Int32) × (Nat → Int32) × (Nat → Int32))), k_loop (t_X8_plays_22 mRu mTy rT) n s22 = some q → ∀ (ls : Array Slot) (H : Heap) (locs : List Loc), lv_has ls 4 [(0, .ref h0), (1, .int s22.1)] → va_P D vwCl (wX8 cy h0 sa pa ka aa oa wa ca ta na mOp mIk s22.2.1 mRu s22.2.2.1 mTy s22.2.2.2.1 s22.2.2.2.2.1 s22.2.2.2.2.2.1 s22.2.2.2.2.2.2.1 s22.2.2.2.2.2.2.2.1 s22.2.2.2.2.2.2.2.2.1 s22.2.2.2.2.2.2.2.2.2.1 s22.2.2.2.2.2.2.2.2.2.2.1 rK rA rO rW rC rT s22.2.2.2.2.2.2.2.2.2.2.2) H → va_D A (wX8 cy h0 sa pa ka aa oa wa ca ta na mOp mIk s22.2.1 mRu s22.2.2.1 mTy s22.2.2.2.1 s22.2.2.2.2.1 s22.2.2.2.2.2.1 s22.2.2.2.2.2.2.1 s22.2.2.2.2.2.2.2.1 s22.2.2.2.2.2.2.2.2.1 s22.2.2.2.2.2.2.2.2.2.1 s22.2.2.2.2.2.2.2.2.2.2.1 rK rA rO rW rC rT s22.2.2.2.2.2.2.2.2.2.2.2) → va_S A s.heap H locs → (∀ (ls : Array Slot) (H : Heap) (locs : List Loc), True → lv_has ls 4 [(0, .ref h0), (1, .int q.1)] → va_P D vwCl (wX8 cy h0 sa pa ka aa oa wa ca ta na mOp mIk q.2.1 mRu q.2.2.1 mTy q.2.2.2.1 q.2.2.2.2.1 q.2.2.2.2.2.1 q.2.2.2.2.2.2.1 q.2.2.2.2.2.2.2.1 q.2.2.2.2.2.2.2.2.1 q.2.2.2.2.2.2.2.2.2.1 q.2.2.2.2.2.2.2.2.2.2.1 rK rA rO rW rC rT q.2.2.2.2.2.2.2.2.2.2.2) H → va_D A (wX8 cy h0 sa pa ka aa oa wa ca ta na mOp mIk q.2.1 mRu q.2.2.1 mTy q.2.2.2.1 q.2.2.2.2.1 q.2.2.2.2.2.1 q.2.2.2.2.2.2.1 q.2.2.2.2.2.2.2.1 q.2.2.2.2.2.2.2.2.1 q.2.2.2.2.2.2.2.2.2.1 q.2.2.2.2.2.2.2.2.2.2.1 rK rA rO rW rC rT q.2.2.2.2.2.2.2.2.2.2.2) → va_S A s.heap H locs → W p l e rm_X8_plays s m args below meth c H locs 0 0 Q (F0 m 124 ls [])) → W p l e rm_X8_plays s m args below meth c H locs 0 0 Q (F0 m 22 ls []) := by
    intro Q n
    induction n with
    | zero =>
      intro mOp mIk mRu mTy rK rA rO rW rC rT s22 q hq
      exact (k_loop0 hq).elim
    | succ n ih =>
      intro mOp mIk mRu mTy rK rA rO rW rC rT s22 q hq ls H locs hl hP hD hS kx 
      obtain ⟨x, hf, hq⟩ := k_loopE hq
      unfold t_X8_plays_22 at hf
      refine lv_aload_n hx hb dX8_plays_22 rfl (lv_at hl 0 rfl) ?_
      refine va_get (D := D) (ci := 5) (v := .int s22.2.2.2.1) (C := RX8) (T := TX8) (N := 21) hx hb hts in_X8 hown hK hP 0 rfl rfl 14 (by decide) fl159 (fun _ h9 => h9) rfl dX8_plays_23 ?_
      refine lv_aload_n hx hb dX8_plays_26 rfl (lv_at hl 0 rfl) ?_
      refine va_get (D := D) (ci := 5) (v := .int mTy) (C := RX8) (T := TX8) (N := 21) hx hb hts in_X8 hown hK hP 0 rfl rfl 13 (by decide) fl156 (fun _ h9 => h9) rfl dX8_plays_27 ?_
      refine lv_icmp_ge (tgt := 124) hx hb dX8_plays_30 (by decide) (fun c1 => ?_) (fun c1 => ?_)
      · have hf := k_T c1 hf
        obtain rfl := k_some hf
        obtain rfl := k_some (k_inr hq)
        exact kx ls H locs trivial (lv_sub hl [0, 1] rfl) hP hD hS
      · have hf := k_F c1 hf
        refine lv_iload_n hx hb dX8_plays_33 rfl (lv_at hl 1 rfl) ?_
        refine lv_if_eq (tgt := 124) hx hb dX8_plays_34 (by decide) (fun c2 => ?_) (fun c2 => ?_)
        · have hf := k_T c2 hf
          obtain rfl := k_some hf
          obtain rfl := k_some (k_inr hq)
          exact kx ls H locs trivial (lv_sub hl [0, 1] rfl) hP hD hS
        · have hf := k_F c2 hf
          refine lv_aload_n hx hb dX8_plays_37 rfl (lv_at hl 0 rfl) ?_
          refine lv_aload_n hx hb dX8_plays_38 rfl (lv_at hl 0 rfl) ?_
          refine va_get (D := D) (ci := 5) (v := .int s22.2.2.2.1) (C := RX8) (T := TX8) (N := 21) hx hb hts in_X8 hown hK hP 0 rfl rfl 14 (by decide) fl159 (fun _ h9 => h9) rfl dX8_plays_39 ?_
          refine va_put (D := D) (ci := 5) (v := .int s22.2.2.2.1) (ty := .int) (C := RX8) (T := TX8) (N := 21) hx hb hts in_X8 tyX8 tyX8_ok nmX8 hown hK hP hD hS 0 rfl rfl 15 (by decide) fl180 (fun _ h9 => h9) rfl (by decide +kernel) rfl rfl (Nat.le_of_ble_eq_true rfl) dX8_plays_42 (fun H locs hP hD hS => ?_)
          have hP : va_P D vwCl (wX8 cy h0 sa pa ka aa oa wa ca ta na mOp mIk s22.2.1 mRu s22.2.2.1 mTy s22.2.2.2.1 s22.2.2.2.1 s22.2.2.2.2.2.1 s22.2.2.2.2.2.2.1 s22.2.2.2.2.2.2.2.1 s22.2.2.2.2.2.2.2.2.1 s22.2.2.2.2.2.2.2.2.2.1 s22.2.2.2.2.2.2.2.2.2.2.1 rK rA rO rW rC rT s22.2.2.2.2.2.2.2.2.2.2.2) H := hP
          have hD : va_D A (wX8 cy h0 sa pa ka aa oa wa ca ta na mOp mIk s22.2.1 mRu s22.2.2.1 mTy s22.2.2.2.1 s22.2.2.2.1 s22.2.2.2.2.2.1 s22.2.2.2.2.2.2.1 s22.2.2.2.2.2.2.2.1 s22.2.2.2.2.2.2.2.2.1 s22.2.2.2.2.2.2.2.2.2.1 s22.2.2.2.2.2.2.2.2.2.2.1 rK rA rO rW rC rT s22.2.2.2.2.2.2.2.2.2.2.2) := hD
          refine lv_aload_n hx hb dX8_plays_45 rfl (lv_at hl 0 rfl) ?_
          obtain ⟨v3, hv3, hf⟩ := k_B hf
          refine k_callHV (As := []) (rest := []) (r := (RX8, TX8, 21)) (ci := 5) (q0 := 0) (isC := [0, 1, 2, 3, 4, 5, 6, 7, 8, 9]) (isR := []) (perm := [0, 1, 2, 3, 4, 5, 6, 7, 8, 9]) (w' := (wX8 cy h0 sa pa ka aa oa wa ca ta na mOp mIk s22.2.1 mRu s22.2.2.1 mTy v3.2.1 s22.2.2.2.1 s22.2.2.2.2.2.1 s22.2.2.2.2.2.2.1 s22.2.2.2.2.2.2.2.1 v3.2.2.1 s22.2.2.2.2.2.2.2.2.2.1 s22.2.2.2.2.2.2.2.2.2.2.1 rK rA rO rW rC rT v3.2.2.2)) ⟨hx, hb, hml, hown, hts⟩ (c_X8_parses l D cy h0 sa pa ka aa oa wa ca ta na mOp mIk s22.2.1 mRu s22.2.2.1 mTy s22.2.2.2.1 s22.2.2.2.1 s22.2.2.2.2.2.1 s22.2.2.2.2.2.2.1 s22.2.2.2.2.2.2.2.1 s22.2.2.2.2.2.2.2.2.1 s22.2.2.2.2.2.2.2.2.2.1 s22.2.2.2.2.2.2.2.2.2.2.1 rK rA rO rW rC rT s22.2.2.2.2.2.2.2.2.2.2.2  v3 hv3) (cwV 0 hts gX8_plays_X8_parses rfl rfl rfl hd_X8_parses ⟨Nat.le_of_ble_eq_true rfl, Nat.le_of_ble_eq_true rfl⟩) hK hN hP hD hS hA rfl rfl rfl rfl rfl rfl (by decide) rfl rfl rfl hl.1 rfl (Nat.le_of_ble_eq_true rfl) dX8_plays_46 ⟨Nat.zero_le _, Nat.zero_le _⟩ (fun H locs hP hD hS => ?_)
          refine lv_istore_n (lv' := [(2, .int v3.1), (0, .ref h0), (1, .int s22.1)]) hx hb dX8_plays_49 rfl hl (by decide) rfl (fun ls hl => ?_)
          refine lv_iload_n hx hb dX8_plays_50 rfl (lv_at hl 0 rfl) ?_
          refine lv_if_eq (tgt := 61) hx hb dX8_plays_51 (by decide) (fun c4 => ?_) (fun c4 => ?_)
          · have hf := k_T c4 hf
            refine lv_iconst (v := 0) hx hb dX8_plays_61 (by decide) ?_
            refine lv_istore_n (lv' := [(3, .int 0), (2, .int v3.1), (0, .ref h0), (1, .int s22.1)]) hx hb dX8_plays_62 rfl hl (by decide) rfl (fun ls hl => ?_)
            refine lv_iload_n hx hb dX8_plays_63 rfl (lv_at hl 1 rfl) ?_
            refine lv_if_eq (tgt := 75) hx hb dX8_plays_64 (by decide) (fun c5 => ?_) (fun c5 => ?_)
            · have hf := k_T c5 hf
              refine lv_iconst (v := 0) hx hb dX8_plays_75 (by decide) ?_
              refine lv_istore_n (lv' := [(1, .int 0), (3, .int 0), (2, .int v3.1), (0, .ref h0)]) hx hb dX8_plays_76 rfl hl (by decide) rfl (fun ls hl => ?_)
              refine lv_aload_n hx hb dX8_plays_77 rfl (lv_at hl 3 rfl) ?_
              refine lv_iload_n hx hb dX8_plays_78 rfl (lv_at hl 2 rfl) ?_
              refine lv_if_eq (tgt := 86) hx hb dX8_plays_79 (by decide) (fun c6 => ?_) (fun c6 => ?_)
              · have hf := k_T c6 hf
                refine lv_iconst (v := 1) hx hb dX8_plays_86 (by decide) ?_
                refine va_put (D := D) (ci := 5) (v := .int 1) (ty := .int) (C := RX8) (T := TX8) (N := 21) hx hb hts in_X8 tyX8 tyX8_ok nmX8 hown hK hP hD hS 0 rfl rfl 16 (by decide) fl192 (fun _ h9 => h9) rfl (by decide +kernel) rfl rfl (Nat.le_of_ble_eq_true rfl) dX8_plays_87 (fun H locs hP hD hS => ?_)
                have hP : va_P D vwCl (wX8 cy h0 sa pa ka aa oa wa ca ta na mOp mIk s22.2.1 mRu s22.2.2.1 mTy v3.2.1 s22.2.2.2.1 1 s22.2.2.2.2.2.2.1 s22.2.2.2.2.2.2.2.1 v3.2.2.1 s22.2.2.2.2.2.2.2.2.2.1 s22.2.2.2.2.2.2.2.2.2.2.1 rK rA rO rW rC rT v3.2.2.2) H := hP
                have hD : va_D A (wX8 cy h0 sa pa ka aa oa wa ca ta na mOp mIk s22.2.1 mRu s22.2.2.1 mTy v3.2.1 s22.2.2.2.1 1 s22.2.2.2.2.2.2.1 s22.2.2.2.2.2.2.2.1 v3.2.2.1 s22.2.2.2.2.2.2.2.2.2.1 s22.2.2.2.2.2.2.2.2.2.2.1 rK rA rO rW rC rT v3.2.2.2) := hD
                refine lv_aload_n hx hb dX8_plays_90 rfl (lv_at hl 3 rfl) ?_
                refine lv_iload_n hx hb dX8_plays_91 rfl (lv_at hl 2 rfl) ?_
                refine lv_if_eq (tgt := 99) hx hb dX8_plays_92 (by decide) (fun c7 => ?_) (fun c7 => ?_)
                · have hf := k_T c7 hf
                  refine lv_aload_n hx hb dX8_plays_99 rfl (lv_at hl 3 rfl) ?_
                  refine va_get (D := D) (ci := 5) (v := .int v3.2.1) (C := RX8) (T := TX8) (N := 21) hx hb hts in_X8 hown hK hP 0 rfl rfl 14 (by decide) fl159 (fun _ h9 => h9) rfl dX8_plays_100 ?_
                  refine lv_aload_n hx hb dX8_plays_103 rfl (lv_at hl 3 rfl) ?_
                  refine va_get (D := D) (ci := 5) (v := .int s22.2.2.2.1) (C := RX8) (T := TX8) (N := 21) hx hb hts in_X8 hown hK hP 0 rfl rfl 15 (by decide) fl180 (fun _ h9 => h9) rfl dX8_plays_104 ?_
                  refine lv_isub hx hb dX8_plays_107 ?_
                  obtain ⟨y8, ey8, hf⟩ := k_L hf
                  refine k_name ey8 ?_
                  refine va_put (D := D) (ci := 5) (v := .int y8) (ty := .int) (C := RX8) (T := TX8) (N := 21) hx hb hts in_X8 tyX8 tyX8_ok nmX8 hown hK hP hD hS 0 rfl rfl 17 (by decide) fl194 (fun _ h9 => h9) rfl (by decide +kernel) rfl rfl (Nat.le_of_ble_eq_true rfl) dX8_plays_108 (fun H locs hP hD hS => ?_)
                  have hP : va_P D vwCl (wX8 cy h0 sa pa ka aa oa wa ca ta na mOp mIk s22.2.1 mRu s22.2.2.1 mTy v3.2.1 s22.2.2.2.1 1 y8 s22.2.2.2.2.2.2.2.1 v3.2.2.1 s22.2.2.2.2.2.2.2.2.2.1 s22.2.2.2.2.2.2.2.2.2.2.1 rK rA rO rW rC rT v3.2.2.2) H := hP
                  have hD : va_D A (wX8 cy h0 sa pa ka aa oa wa ca ta na mOp mIk s22.2.1 mRu s22.2.2.1 mTy v3.2.1 s22.2.2.2.1 1 y8 s22.2.2.2.2.2.2.2.1 v3.2.2.1 s22.2.2.2.2.2.2.2.2.2.1 s22.2.2.2.2.2.2.2.2.2.2.1 rK rA rO rW rC rT v3.2.2.2) := hD
                  refine lv_aload_n hx hb dX8_plays_111 rfl (lv_at hl 3 rfl) ?_
                  refine lv_dup hx hb dX8_plays_112 rfl ?_
                  refine va_get (D := D) (ci := 5) (v := .int s22.2.2.2.2.2.2.2.1) (C := RX8) (T := TX8) (N := 21) hx hb hts in_X8 hown hK hP 0 rfl rfl 18 (by decide) fl183 (fun _ h9 => h9) rfl dX8_plays_113 ?_
                  refine lv_iconst (v := 1) hx hb dX8_plays_116 (by decide) ?_
                  refine lv_iadd hx hb dX8_plays_117 ?_
                  obtain ⟨y9, ey9, hf⟩ := k_L hf
                  refine k_name ey9 ?_
                  refine va_put (D := D) (ci := 5) (v := .int y9) (ty := .int) (C := RX8) (T := TX8) (N := 21) hx hb hts in_X8 tyX8 tyX8_ok nmX8 hown hK hP hD hS 0 rfl rfl 18 (by decide) fl183 (fun _ h9 => h9) rfl (by decide +kernel) rfl rfl (Nat.le_of_ble_eq_true rfl) dX8_plays_118 (fun H locs hP hD hS => ?_)
                  have hP : va_P D vwCl (wX8 cy h0 sa pa ka aa oa wa ca ta na mOp mIk s22.2.1 mRu s22.2.2.1 mTy v3.2.1 s22.2.2.2.1 1 y8 y9 v3.2.2.1 s22.2.2.2.2.2.2.2.2.2.1 s22.2.2.2.2.2.2.2.2.2.2.1 rK rA rO rW rC rT v3.2.2.2) H := hP
                  have hD : va_D A (wX8 cy h0 sa pa ka aa oa wa ca ta na mOp mIk s22.2.1 mRu s22.2.2.1 mTy v3.2.1 s22.2.2.2.1 1 y8 y9 v3.2.2.1 s22.2.2.2.2.2.2.2.2.2.1 s22.2.2.2.2.2.2.2.2.2.2.1 rK rA rO rW rC rT v3.2.2.2) := hD
                  refine lv_goto (tgt := 22) hx hb dX8_plays_121 (by decide) ?_
                  obtain rfl := k_some hf
                  exact ih mOp mIk mRu mTy rK rA rO rW rC rT (0, s22.2.1, s22.2.2.1, v3.2.1, s22.2.2.2.1, 1, y8, y9, v3.2.2.1, s22.2.2.2.2.2.2.2.2.2.1, s22.2.2.2.2.2.2.2.2.2.2.1, v3.2.2.2) q (k_inl hq) ls H locs (lv_sub hl [3, 0] rfl) hP hD hS kx 
                · have hf := k_F c7 hf
                  refine lv_iload_n hx hb dX8_plays_95 rfl (lv_at hl 1 rfl) ?_
                  refine lv_goto (tgt := 108) hx hb dX8_plays_96 (by decide) ?_
                  refine va_put (D := D) (ci := 5) (v := .int 0) (ty := .int) (C := RX8) (T := TX8) (N := 21) hx hb hts in_X8 tyX8 tyX8_ok nmX8 hown hK hP hD hS 0 rfl rfl 17 (by decide) fl194 (fun _ h9 => h9) rfl (by decide +kernel) rfl rfl (Nat.le_of_ble_eq_true rfl) dX8_plays_108 (fun H locs hP hD hS => ?_)
                  have hP : va_P D vwCl (wX8 cy h0 sa pa ka aa oa wa ca ta na mOp mIk s22.2.1 mRu s22.2.2.1 mTy v3.2.1 s22.2.2.2.1 1 0 s22.2.2.2.2.2.2.2.1 v3.2.2.1 s22.2.2.2.2.2.2.2.2.2.1 s22.2.2.2.2.2.2.2.2.2.2.1 rK rA rO rW rC rT v3.2.2.2) H := hP
                  have hD : va_D A (wX8 cy h0 sa pa ka aa oa wa ca ta na mOp mIk s22.2.1 mRu s22.2.2.1 mTy v3.2.1 s22.2.2.2.1 1 0 s22.2.2.2.2.2.2.2.1 v3.2.2.1 s22.2.2.2.2.2.2.2.2.2.1 s22.2.2.2.2.2.2.2.2.2.2.1 rK rA rO rW rC rT v3.2.2.2) := hD
                  refine lv_aload_n hx hb dX8_plays_111 rfl (lv_at hl 3 rfl) ?_
                  refine lv_dup hx hb dX8_plays_112 rfl ?_
                  refine va_get (D := D) (ci := 5) (v := .int s22.2.2.2.2.2.2.2.1) (C := RX8) (T := TX8) (N := 21) hx hb hts in_X8 hown hK hP 0 rfl rfl 18 (by decide) fl183 (fun _ h9 => h9) rfl dX8_plays_113 ?_
                  refine lv_iconst (v := 1) hx hb dX8_plays_116 (by decide) ?_
                  refine lv_iadd hx hb dX8_plays_117 ?_
                  obtain ⟨y10, ey10, hf⟩ := k_L hf
                  refine k_name ey10 ?_
                  refine va_put (D := D) (ci := 5) (v := .int y10) (ty := .int) (C := RX8) (T := TX8) (N := 21) hx hb hts in_X8 tyX8 tyX8_ok nmX8 hown hK hP hD hS 0 rfl rfl 18 (by decide) fl183 (fun _ h9 => h9) rfl (by decide +kernel) rfl rfl (Nat.le_of_ble_eq_true rfl) dX8_plays_118 (fun H locs hP hD hS => ?_)
                  have hP : va_P D vwCl (wX8 cy h0 sa pa ka aa oa wa ca ta na mOp mIk s22.2.1 mRu s22.2.2.1 mTy v3.2.1 s22.2.2.2.1 1 0 y10 v3.2.2.1 s22.2.2.2.2.2.2.2.2.2.1 s22.2.2.2.2.2.2.2.2.2.2.1 rK rA rO rW rC rT v3.2.2.2) H := hP
                  have hD : va_D A (wX8 cy h0 sa pa ka aa oa wa ca ta na mOp mIk s22.2.1 mRu s22.2.2.1 mTy v3.2.1 s22.2.2.2.1 1 0 y10 v3.2.2.1 s22.2.2.2.2.2.2.2.2.2.1 s22.2.2.2.2.2.2.2.2.2.2.1 rK rA rO rW rC rT v3.2.2.2) := hD
                  refine lv_goto (tgt := 22) hx hb dX8_plays_121 (by decide) ?_
                  obtain rfl := k_some hf
                  exact ih mOp mIk mRu mTy rK rA rO rW rC rT (0, s22.2.1, s22.2.2.1, v3.2.1, s22.2.2.2.1, 1, 0, y10, v3.2.2.1, s22.2.2.2.2.2.2.2.2.2.1, s22.2.2.2.2.2.2.2.2.2.2.1, v3.2.2.2) q (k_inl hq) ls H locs (lv_sub hl [3, 0] rfl) hP hD hS kx 
              · have hf := k_F c6 hf
                refine lv_iconst (v := 2) hx hb dX8_plays_82 (by decide) ?_
                refine lv_goto (tgt := 87) hx hb dX8_plays_83 (by decide) ?_
                refine va_put (D := D) (ci := 5) (v := .int 2) (ty := .int) (C := RX8) (T := TX8) (N := 21) hx hb hts in_X8 tyX8 tyX8_ok nmX8 hown hK hP hD hS 0 rfl rfl 16 (by decide) fl192 (fun _ h9 => h9) rfl (by decide +kernel) rfl rfl (Nat.le_of_ble_eq_true rfl) dX8_plays_87 (fun H locs hP hD hS => ?_)
                have hP : va_P D vwCl (wX8 cy h0 sa pa ka aa oa wa ca ta na mOp mIk s22.2.1 mRu s22.2.2.1 mTy v3.2.1 s22.2.2.2.1 2 s22.2.2.2.2.2.2.1 s22.2.2.2.2.2.2.2.1 v3.2.2.1 s22.2.2.2.2.2.2.2.2.2.1 s22.2.2.2.2.2.2.2.2.2.2.1 rK rA rO rW rC rT v3.2.2.2) H := hP
                have hD : va_D A (wX8 cy h0 sa pa ka aa oa wa ca ta na mOp mIk s22.2.1 mRu s22.2.2.1 mTy v3.2.1 s22.2.2.2.1 2 s22.2.2.2.2.2.2.1 s22.2.2.2.2.2.2.2.1 v3.2.2.1 s22.2.2.2.2.2.2.2.2.2.1 s22.2.2.2.2.2.2.2.2.2.2.1 rK rA rO rW rC rT v3.2.2.2) := hD
                refine lv_aload_n hx hb dX8_plays_90 rfl (lv_at hl 3 rfl) ?_
                refine lv_iload_n hx hb dX8_plays_91 rfl (lv_at hl 2 rfl) ?_
                refine lv_if_eq (tgt := 99) hx hb dX8_plays_92 (by decide) (fun c11 => ?_) (fun c11 => ?_)
                · have hf := k_T c11 hf
                  refine lv_aload_n hx hb dX8_plays_99 rfl (lv_at hl 3 rfl) ?_
                  refine va_get (D := D) (ci := 5) (v := .int v3.2.1) (C := RX8) (T := TX8) (N := 21) hx hb hts in_X8 hown hK hP 0 rfl rfl 14 (by decide) fl159 (fun _ h9 => h9) rfl dX8_plays_100 ?_
                  refine lv_aload_n hx hb dX8_plays_103 rfl (lv_at hl 3 rfl) ?_
                  refine va_get (D := D) (ci := 5) (v := .int s22.2.2.2.1) (C := RX8) (T := TX8) (N := 21) hx hb hts in_X8 hown hK hP 0 rfl rfl 15 (by decide) fl180 (fun _ h9 => h9) rfl dX8_plays_104 ?_
                  refine lv_isub hx hb dX8_plays_107 ?_
                  obtain ⟨y12, ey12, hf⟩ := k_L hf
                  refine k_name ey12 ?_
                  refine va_put (D := D) (ci := 5) (v := .int y12) (ty := .int) (C := RX8) (T := TX8) (N := 21) hx hb hts in_X8 tyX8 tyX8_ok nmX8 hown hK hP hD hS 0 rfl rfl 17 (by decide) fl194 (fun _ h9 => h9) rfl (by decide +kernel) rfl rfl (Nat.le_of_ble_eq_true rfl) dX8_plays_108 (fun H locs hP hD hS => ?_)
                  have hP : va_P D vwCl (wX8 cy h0 sa pa ka aa oa wa ca ta na mOp mIk s22.2.1 mRu s22.2.2.1 mTy v3.2.1 s22.2.2.2.1 2 y12 s22.2.2.2.2.2.2.2.1 v3.2.2.1 s22.2.2.2.2.2.2.2.2.2.1 s22.2.2.2.2.2.2.2.2.2.2.1 rK rA rO rW rC rT v3.2.2.2) H := hP
                  have hD : va_D A (wX8 cy h0 sa pa ka aa oa wa ca ta na mOp mIk s22.2.1 mRu s22.2.2.1 mTy v3.2.1 s22.2.2.2.1 2 y12 s22.2.2.2.2.2.2.2.1 v3.2.2.1 s22.2.2.2.2.2.2.2.2.2.1 s22.2.2.2.2.2.2.2.2.2.2.1 rK rA rO rW rC rT v3.2.2.2) := hD
                  refine lv_aload_n hx hb dX8_plays_111 rfl (lv_at hl 3 rfl) ?_
                  refine lv_dup hx hb dX8_plays_112 rfl ?_
                  refine va_get (D := D) (ci := 5) (v := .int s22.2.2.2.2.2.2.2.1) (C := RX8) (T := TX8) (N := 21) hx hb hts in_X8 hown hK hP 0 rfl rfl 18 (by decide) fl183 (fun _ h9 => h9) rfl dX8_plays_113 ?_
                  refine lv_iconst (v := 1) hx hb dX8_plays_116 (by decide) ?_
                  refine lv_iadd hx hb dX8_plays_117 ?_
                  obtain ⟨y13, ey13, hf⟩ := k_L hf
                  refine k_name ey13 ?_
                  refine va_put (D := D) (ci := 5) (v := .int y13) (ty := .int) (C := RX8) (T := TX8) (N := 21) hx hb hts in_X8 tyX8 tyX8_ok nmX8 hown hK hP hD hS 0 rfl rfl 18 (by decide) fl183 (fun _ h9 => h9) rfl (by decide +kernel) rfl rfl (Nat.le_of_ble_eq_true rfl) dX8_plays_118 (fun H locs hP hD hS => ?_)
                  have hP : va_P D vwCl (wX8 cy h0 sa pa ka aa oa wa ca ta na mOp mIk s22.2.1 mRu s22.2.2.1 mTy v3.2.1 s22.2.2.2.1 2 y12 y13 v3.2.2.1 s22.2.2.2.2.2.2.2.2.2.1 s22.2.2.2.2.2.2.2.2.2.2.1 rK rA rO rW rC rT v3.2.2.2) H := hP
                  have hD : va_D A (wX8 cy h0 sa pa ka aa oa wa ca ta na mOp mIk s22.2.1 mRu s22.2.2.1 mTy v3.2.1 s22.2.2.2.1 2 y12 y13 v3.2.2.1 s22.2.2.2.2.2.2.2.2.2.1 s22.2.2.2.2.2.2.2.2.2.2.1 rK rA rO rW rC rT v3.2.2.2) := hD
                  refine lv_goto (tgt := 22) hx hb dX8_plays_121 (by decide) ?_
                  obtain rfl := k_some hf
                  exact ih mOp mIk mRu mTy rK rA rO rW rC rT (0, s22.2.1, s22.2.2.1, v3.2.1, s22.2.2.2.1, 2, y12, y13, v3.2.2.1, s22.2.2.2.2.2.2.2.2.2.1, s22.2.2.2.2.2.2.2.2.2.2.1, v3.2.2.2) q (k_inl hq) ls H locs (lv_sub hl [3, 0] rfl) hP hD hS kx 
                · have hf := k_F c11 hf
                  refine lv_iload_n hx hb dX8_plays_95 rfl (lv_at hl 1 rfl) ?_
                  refine lv_goto (tgt := 108) hx hb dX8_plays_96 (by decide) ?_
                  refine va_put (D := D) (ci := 5) (v := .int 0) (ty := .int) (C := RX8) (T := TX8) (N := 21) hx hb hts in_X8 tyX8 tyX8_ok nmX8 hown hK hP hD hS 0 rfl rfl 17 (by decide) fl194 (fun _ h9 => h9) rfl (by decide +kernel) rfl rfl (Nat.le_of_ble_eq_true rfl) dX8_plays_108 (fun H locs hP hD hS => ?_)
                  have hP : va_P D vwCl (wX8 cy h0 sa pa ka aa oa wa ca ta na mOp mIk s22.2.1 mRu s22.2.2.1 mTy v3.2.1 s22.2.2.2.1 2 0 s22.2.2.2.2.2.2.2.1 v3.2.2.1 s22.2.2.2.2.2.2.2.2.2.1 s22.2.2.2.2.2.2.2.2.2.2.1 rK rA rO rW rC rT v3.2.2.2) H := hP
                  have hD : va_D A (wX8 cy h0 sa pa ka aa oa wa ca ta na mOp mIk s22.2.1 mRu s22.2.2.1 mTy v3.2.1 s22.2.2.2.1 2 0 s22.2.2.2.2.2.2.2.1 v3.2.2.1 s22.2.2.2.2.2.2.2.2.2.1 s22.2.2.2.2.2.2.2.2.2.2.1 rK rA rO rW rC rT v3.2.2.2) := hD
                  refine lv_aload_n hx hb dX8_plays_111 rfl (lv_at hl 3 rfl) ?_
                  refine lv_dup hx hb dX8_plays_112 rfl ?_
                  refine va_get (D := D) (ci := 5) (v := .int s22.2.2.2.2.2.2.2.1) (C := RX8) (T := TX8) (N := 21) hx hb hts in_X8 hown hK hP 0 rfl rfl 18 (by decide) fl183 (fun _ h9 => h9) rfl dX8_plays_113 ?_
                  refine lv_iconst (v := 1) hx hb dX8_plays_116 (by decide) ?_
                  refine lv_iadd hx hb dX8_plays_117 ?_
                  obtain ⟨y14, ey14, hf⟩ := k_L hf
                  refine k_name ey14 ?_
                  refine va_put (D := D) (ci := 5) (v := .int y14) (ty := .int) (C := RX8) (T := TX8) (N := 21) hx hb hts in_X8 tyX8 tyX8_ok nmX8 hown hK hP hD hS 0 rfl rfl 18 (by decide) fl183 (fun _ h9 => h9) rfl (by decide +kernel) rfl rfl (Nat.le_of_ble_eq_true rfl) dX8_plays_118 (fun H locs hP hD hS => ?_)
                  have hP : va_P D vwCl (wX8 cy h0 sa pa ka aa oa wa ca ta na mOp mIk s22.2.1 mRu s22.2.2.1 mTy v3.2.1 s22.2.2.2.1 2 0 y14 v3.2.2.1 s22.2.2.2.2.2.2.2.2.2.1 s22.2.2.2.2.2.2.2.2.2.2.1 rK rA rO rW rC rT v3.2.2.2) H := hP
                  have hD : va_D A (wX8 cy h0 sa pa ka aa oa wa ca ta na mOp mIk s22.2.1 mRu s22.2.2.1 mTy v3.2.1 s22.2.2.2.1 2 0 y14 v3.2.2.1 s22.2.2.2.2.2.2.2.2.2.1 s22.2.2.2.2.2.2.2.2.2.2.1 rK rA rO rW rC rT v3.2.2.2) := hD
                  refine lv_goto (tgt := 22) hx hb dX8_plays_121 (by decide) ?_
                  obtain rfl := k_some hf
                  exact ih mOp mIk mRu mTy rK rA rO rW rC rT (0, s22.2.1, s22.2.2.1, v3.2.1, s22.2.2.2.1, 2, 0, y14, v3.2.2.1, s22.2.2.2.2.2.2.2.2.2.1, s22.2.2.2.2.2.2.2.2.2.2.1, v3.2.2.2) q (k_inl hq) ls H locs (lv_sub hl [3, 0] rfl) hP hD hS kx 
            · have hf := k_F c5 hf
              refine lv_iload_n hx hb dX8_plays_67 rfl (lv_at hl 0 rfl) ?_
              refine lv_if_ne (tgt := 75) hx hb dX8_plays_68 (by decide) (fun c15 => ?_) (fun c15 => ?_)
              · have hf := k_F c15 hf
                refine lv_iconst (v := 0) hx hb dX8_plays_75 (by decide) ?_
                refine lv_istore_n (lv' := [(1, .int 0), (3, .int 0), (2, .int v3.1), (0, .ref h0)]) hx hb dX8_plays_76 rfl hl (by decide) rfl (fun ls hl => ?_)
                refine lv_aload_n hx hb dX8_plays_77 rfl (lv_at hl 3 rfl) ?_
                refine lv_iload_n hx hb dX8_plays_78 rfl (lv_at hl 2 rfl) ?_
                refine lv_if_eq (tgt := 86) hx hb dX8_plays_79 (by decide) (fun c16 => ?_) (fun c16 => ?_)
                · have hf := k_T c16 hf
                  refine lv_iconst (v := 1) hx hb dX8_plays_86 (by decide) ?_
                  refine va_put (D := D) (ci := 5) (v := .int 1) (ty := .int) (C := RX8) (T := TX8) (N := 21) hx hb hts in_X8 tyX8 tyX8_ok nmX8 hown hK hP hD hS 0 rfl rfl 16 (by decide) fl192 (fun _ h9 => h9) rfl (by decide +kernel) rfl rfl (Nat.le_of_ble_eq_true rfl) dX8_plays_87 (fun H locs hP hD hS => ?_)
                  have hP : va_P D vwCl (wX8 cy h0 sa pa ka aa oa wa ca ta na mOp mIk s22.2.1 mRu s22.2.2.1 mTy v3.2.1 s22.2.2.2.1 1 s22.2.2.2.2.2.2.1 s22.2.2.2.2.2.2.2.1 v3.2.2.1 s22.2.2.2.2.2.2.2.2.2.1 s22.2.2.2.2.2.2.2.2.2.2.1 rK rA rO rW rC rT v3.2.2.2) H := hP
                  have hD : va_D A (wX8 cy h0 sa pa ka aa oa wa ca ta na mOp mIk s22.2.1 mRu s22.2.2.1 mTy v3.2.1 s22.2.2.2.1 1 s22.2.2.2.2.2.2.1 s22.2.2.2.2.2.2.2.1 v3.2.2.1 s22.2.2.2.2.2.2.2.2.2.1 s22.2.2.2.2.2.2.2.2.2.2.1 rK rA rO rW rC rT v3.2.2.2) := hD
                  refine lv_aload_n hx hb dX8_plays_90 rfl (lv_at hl 3 rfl) ?_
                  refine lv_iload_n hx hb dX8_plays_91 rfl (lv_at hl 2 rfl) ?_
                  refine lv_if_eq (tgt := 99) hx hb dX8_plays_92 (by decide) (fun c17 => ?_) (fun c17 => ?_)
                  · have hf := k_T c17 hf
                    refine lv_aload_n hx hb dX8_plays_99 rfl (lv_at hl 3 rfl) ?_
                    refine va_get (D := D) (ci := 5) (v := .int v3.2.1) (C := RX8) (T := TX8) (N := 21) hx hb hts in_X8 hown hK hP 0 rfl rfl 14 (by decide) fl159 (fun _ h9 => h9) rfl dX8_plays_100 ?_
                    refine lv_aload_n hx hb dX8_plays_103 rfl (lv_at hl 3 rfl) ?_
                    refine va_get (D := D) (ci := 5) (v := .int s22.2.2.2.1) (C := RX8) (T := TX8) (N := 21) hx hb hts in_X8 hown hK hP 0 rfl rfl 15 (by decide) fl180 (fun _ h9 => h9) rfl dX8_plays_104 ?_
                    refine lv_isub hx hb dX8_plays_107 ?_
                    obtain ⟨y18, ey18, hf⟩ := k_L hf
                    refine k_name ey18 ?_
                    refine va_put (D := D) (ci := 5) (v := .int y18) (ty := .int) (C := RX8) (T := TX8) (N := 21) hx hb hts in_X8 tyX8 tyX8_ok nmX8 hown hK hP hD hS 0 rfl rfl 17 (by decide) fl194 (fun _ h9 => h9) rfl (by decide +kernel) rfl rfl (Nat.le_of_ble_eq_true rfl) dX8_plays_108 (fun H locs hP hD hS => ?_)
                    have hP : va_P D vwCl (wX8 cy h0 sa pa ka aa oa wa ca ta na mOp mIk s22.2.1 mRu s22.2.2.1 mTy v3.2.1 s22.2.2.2.1 1 y18 s22.2.2.2.2.2.2.2.1 v3.2.2.1 s22.2.2.2.2.2.2.2.2.2.1 s22.2.2.2.2.2.2.2.2.2.2.1 rK rA rO rW rC rT v3.2.2.2) H := hP
                    have hD : va_D A (wX8 cy h0 sa pa ka aa oa wa ca ta na mOp mIk s22.2.1 mRu s22.2.2.1 mTy v3.2.1 s22.2.2.2.1 1 y18 s22.2.2.2.2.2.2.2.1 v3.2.2.1 s22.2.2.2.2.2.2.2.2.2.1 s22.2.2.2.2.2.2.2.2.2.2.1 rK rA rO rW rC rT v3.2.2.2) := hD
                    refine lv_aload_n hx hb dX8_plays_111 rfl (lv_at hl 3 rfl) ?_
                    refine lv_dup hx hb dX8_plays_112 rfl ?_
                    refine va_get (D := D) (ci := 5) (v := .int s22.2.2.2.2.2.2.2.1) (C := RX8) (T := TX8) (N := 21) hx hb hts in_X8 hown hK hP 0 rfl rfl 18 (by decide) fl183 (fun _ h9 => h9) rfl dX8_plays_113 ?_
                    refine lv_iconst (v := 1) hx hb dX8_plays_116 (by decide) ?_
                    refine lv_iadd hx hb dX8_plays_117 ?_
                    obtain ⟨y19, ey19, hf⟩ := k_L hf
                    refine k_name ey19 ?_
                    refine va_put (D := D) (ci := 5) (v := .int y19) (ty := .int) (C := RX8) (T := TX8) (N := 21) hx hb hts in_X8 tyX8 tyX8_ok nmX8 hown hK hP hD hS 0 rfl rfl 18 (by decide) fl183 (fun _ h9 => h9) rfl (by decide +kernel) rfl rfl (Nat.le_of_ble_eq_true rfl) dX8_plays_118 (fun H locs hP hD hS => ?_)
                    have hP : va_P D vwCl (wX8 cy h0 sa pa ka aa oa wa ca ta na mOp mIk s22.2.1 mRu s22.2.2.1 mTy v3.2.1 s22.2.2.2.1 1 y18 y19 v3.2.2.1 s22.2.2.2.2.2.2.2.2.2.1 s22.2.2.2.2.2.2.2.2.2.2.1 rK rA rO rW rC rT v3.2.2.2) H := hP
                    have hD : va_D A (wX8 cy h0 sa pa ka aa oa wa ca ta na mOp mIk s22.2.1 mRu s22.2.2.1 mTy v3.2.1 s22.2.2.2.1 1 y18 y19 v3.2.2.1 s22.2.2.2.2.2.2.2.2.2.1 s22.2.2.2.2.2.2.2.2.2.2.1 rK rA rO rW rC rT v3.2.2.2) := hD
                    refine lv_goto (tgt := 22) hx hb dX8_plays_121 (by decide) ?_
                    obtain rfl := k_some hf
                    exact ih mOp mIk mRu mTy rK rA rO rW rC rT (0, s22.2.1, s22.2.2.1, v3.2.1, s22.2.2.2.1, 1, y18, y19, v3.2.2.1, s22.2.2.2.2.2.2.2.2.2.1, s22.2.2.2.2.2.2.2.2.2.2.1, v3.2.2.2) q (k_inl hq) ls H locs (lv_sub hl [3, 0] rfl) hP hD hS kx 
                  · have hf := k_F c17 hf
                    refine lv_iload_n hx hb dX8_plays_95 rfl (lv_at hl 1 rfl) ?_
                    refine lv_goto (tgt := 108) hx hb dX8_plays_96 (by decide) ?_
                    refine va_put (D := D) (ci := 5) (v := .int 0) (ty := .int) (C := RX8) (T := TX8) (N := 21) hx hb hts in_X8 tyX8 tyX8_ok nmX8 hown hK hP hD hS 0 rfl rfl 17 (by decide) fl194 (fun _ h9 => h9) rfl (by decide +kernel) rfl rfl (Nat.le_of_ble_eq_true rfl) dX8_plays_108 (fun H locs hP hD hS => ?_)
                    have hP : va_P D vwCl (wX8 cy h0 sa pa ka aa oa wa ca ta na mOp mIk s22.2.1 mRu s22.2.2.1 mTy v3.2.1 s22.2.2.2.1 1 0 s22.2.2.2.2.2.2.2.1 v3.2.2.1 s22.2.2.2.2.2.2.2.2.2.1 s22.2.2.2.2.2.2.2.2.2.2.1 rK rA rO rW rC rT v3.2.2.2) H := hP
                    have hD : va_D A (wX8 cy h0 sa pa ka aa oa wa ca ta na mOp mIk s22.2.1 mRu s22.2.2.1 mTy v3.2.1 s22.2.2.2.1 1 0 s22.2.2.2.2.2.2.2.1 v3.2.2.1 s22.2.2.2.2.2.2.2.2.2.1 s22.2.2.2.2.2.2.2.2.2.2.1 rK rA rO rW rC rT v3.2.2.2) := hD
                    refine lv_aload_n hx hb dX8_plays_111 rfl (lv_at hl 3 rfl) ?_
                    refine lv_dup hx hb dX8_plays_112 rfl ?_
                    refine va_get (D := D) (ci := 5) (v := .int s22.2.2.2.2.2.2.2.1) (C := RX8) (T := TX8) (N := 21) hx hb hts in_X8 hown hK hP 0 rfl rfl 18 (by decide) fl183 (fun _ h9 => h9) rfl dX8_plays_113 ?_
                    refine lv_iconst (v := 1) hx hb dX8_plays_116 (by decide) ?_
                    refine lv_iadd hx hb dX8_plays_117 ?_
                    obtain ⟨y20, ey20, hf⟩ := k_L hf
                    refine k_name ey20 ?_
                    refine va_put (D := D) (ci := 5) (v := .int y20) (ty := .int) (C := RX8) (T := TX8) (N := 21) hx hb hts in_X8 tyX8 tyX8_ok nmX8 hown hK hP hD hS 0 rfl rfl 18 (by decide) fl183 (fun _ h9 => h9) rfl (by decide +kernel) rfl rfl (Nat.le_of_ble_eq_true rfl) dX8_plays_118 (fun H locs hP hD hS => ?_)
                    have hP : va_P D vwCl (wX8 cy h0 sa pa ka aa oa wa ca ta na mOp mIk s22.2.1 mRu s22.2.2.1 mTy v3.2.1 s22.2.2.2.1 1 0 y20 v3.2.2.1 s22.2.2.2.2.2.2.2.2.2.1 s22.2.2.2.2.2.2.2.2.2.2.1 rK rA rO rW rC rT v3.2.2.2) H := hP
                    have hD : va_D A (wX8 cy h0 sa pa ka aa oa wa ca ta na mOp mIk s22.2.1 mRu s22.2.2.1 mTy v3.2.1 s22.2.2.2.1 1 0 y20 v3.2.2.1 s22.2.2.2.2.2.2.2.2.2.1 s22.2.2.2.2.2.2.2.2.2.2.1 rK rA rO rW rC rT v3.2.2.2) := hD
                    refine lv_goto (tgt := 22) hx hb dX8_plays_121 (by decide) ?_
                    obtain rfl := k_some hf
                    exact ih mOp mIk mRu mTy rK rA rO rW rC rT (0, s22.2.1, s22.2.2.1, v3.2.1, s22.2.2.2.1, 1, 0, y20, v3.2.2.1, s22.2.2.2.2.2.2.2.2.2.1, s22.2.2.2.2.2.2.2.2.2.2.1, v3.2.2.2) q (k_inl hq) ls H locs (lv_sub hl [3, 0] rfl) hP hD hS kx 
                · have hf := k_F c16 hf
                  refine lv_iconst (v := 2) hx hb dX8_plays_82 (by decide) ?_
                  refine lv_goto (tgt := 87) hx hb dX8_plays_83 (by decide) ?_
                  refine va_put (D := D) (ci := 5) (v := .int 2) (ty := .int) (C := RX8) (T := TX8) (N := 21) hx hb hts in_X8 tyX8 tyX8_ok nmX8 hown hK hP hD hS 0 rfl rfl 16 (by decide) fl192 (fun _ h9 => h9) rfl (by decide +kernel) rfl rfl (Nat.le_of_ble_eq_true rfl) dX8_plays_87 (fun H locs hP hD hS => ?_)
                  have hP : va_P D vwCl (wX8 cy h0 sa pa ka aa oa wa ca ta na mOp mIk s22.2.1 mRu s22.2.2.1 mTy v3.2.1 s22.2.2.2.1 2 s22.2.2.2.2.2.2.1 s22.2.2.2.2.2.2.2.1 v3.2.2.1 s22.2.2.2.2.2.2.2.2.2.1 s22.2.2.2.2.2.2.2.2.2.2.1 rK rA rO rW rC rT v3.2.2.2) H := hP
                  have hD : va_D A (wX8 cy h0 sa pa ka aa oa wa ca ta na mOp mIk s22.2.1 mRu s22.2.2.1 mTy v3.2.1 s22.2.2.2.1 2 s22.2.2.2.2.2.2.1 s22.2.2.2.2.2.2.2.1 v3.2.2.1 s22.2.2.2.2.2.2.2.2.2.1 s22.2.2.2.2.2.2.2.2.2.2.1 rK rA rO rW rC rT v3.2.2.2) := hD
                  refine lv_aload_n hx hb dX8_plays_90 rfl (lv_at hl 3 rfl) ?_
                  refine lv_iload_n hx hb dX8_plays_91 rfl (lv_at hl 2 rfl) ?_
                  refine lv_if_eq (tgt := 99) hx hb dX8_plays_92 (by decide) (fun c21 => ?_) (fun c21 => ?_)
                  · have hf := k_T c21 hf
                    refine lv_aload_n hx hb dX8_plays_99 rfl (lv_at hl 3 rfl) ?_
                    refine va_get (D := D) (ci := 5) (v := .int v3.2.1) (C := RX8) (T := TX8) (N := 21) hx hb hts in_X8 hown hK hP 0 rfl rfl 14 (by decide) fl159 (fun _ h9 => h9) rfl dX8_plays_100 ?_
                    refine lv_aload_n hx hb dX8_plays_103 rfl (lv_at hl 3 rfl) ?_
                    refine va_get (D := D) (ci := 5) (v := .int s22.2.2.2.1) (C := RX8) (T := TX8) (N := 21) hx hb hts in_X8 hown hK hP 0 rfl rfl 15 (by decide) fl180 (fun _ h9 => h9) rfl dX8_plays_104 ?_
                    refine lv_isub hx hb dX8_plays_107 ?_
                    obtain ⟨y22, ey22, hf⟩ := k_L hf
                    refine k_name ey22 ?_
                    refine va_put (D := D) (ci := 5) (v := .int y22) (ty := .int) (C := RX8) (T := TX8) (N := 21) hx hb hts in_X8 tyX8 tyX8_ok nmX8 hown hK hP hD hS 0 rfl rfl 17 (by decide) fl194 (fun _ h9 => h9) rfl (by decide +kernel) rfl rfl (Nat.le_of_ble_eq_true rfl) dX8_plays_108 (fun H locs hP hD hS => ?_)
                    have hP : va_P D vwCl (wX8 cy h0 sa pa ka aa oa wa ca ta na mOp mIk s22.2.1 mRu s22.2.2.1 mTy v3.2.1 s22.2.2.2.1 2 y22 s22.2.2.2.2.2.2.2.1 v3.2.2.1 s22.2.2.2.2.2.2.2.2.2.1 s22.2.2.2.2.2.2.2.2.2.2.1 rK rA rO rW rC rT v3.2.2.2) H := hP
                    have hD : va_D A (wX8 cy h0 sa pa ka aa oa wa ca ta na mOp mIk s22.2.1 mRu s22.2.2.1 mTy v3.2.1 s22.2.2.2.1 2 y22 s22.2.2.2.2.2.2.2.1 v3.2.2.1 s22.2.2.2.2.2.2.2.2.2.1 s22.2.2.2.2.2.2.2.2.2.2.1 rK rA rO rW rC rT v3.2.2.2) := hD
                    refine lv_aload_n hx hb dX8_plays_111 rfl (lv_at hl 3 rfl) ?_
                    refine lv_dup hx hb dX8_plays_112 rfl ?_
                    refine va_get (D := D) (ci := 5) (v := .int s22.2.2.2.2.2.2.2.1) (C := RX8) (T := TX8) (N := 21) hx hb hts in_X8 hown hK hP 0 rfl rfl 18 (by decide) fl183 (fun _ h9 => h9) rfl dX8_plays_113 ?_
                    refine lv_iconst (v := 1) hx hb dX8_plays_116 (by decide) ?_
                    refine lv_iadd hx hb dX8_plays_117 ?_
                    obtain ⟨y23, ey23, hf⟩ := k_L hf
                    refine k_name ey23 ?_
                    refine va_put (D := D) (ci := 5) (v := .int y23) (ty := .int) (C := RX8) (T := TX8) (N := 21) hx hb hts in_X8 tyX8 tyX8_ok nmX8 hown hK hP hD hS 0 rfl rfl 18 (by decide) fl183 (fun _ h9 => h9) rfl (by decide +kernel) rfl rfl (Nat.le_of_ble_eq_true rfl) dX8_plays_118 (fun H locs hP hD hS => ?_)
                    have hP : va_P D vwCl (wX8 cy h0 sa pa ka aa oa wa ca ta na mOp mIk s22.2.1 mRu s22.2.2.1 mTy v3.2.1 s22.2.2.2.1 2 y22 y23 v3.2.2.1 s22.2.2.2.2.2.2.2.2.2.1 s22.2.2.2.2.2.2.2.2.2.2.1 rK rA rO rW rC rT v3.2.2.2) H := hP
                    have hD : va_D A (wX8 cy h0 sa pa ka aa oa wa ca ta na mOp mIk s22.2.1 mRu s22.2.2.1 mTy v3.2.1 s22.2.2.2.1 2 y22 y23 v3.2.2.1 s22.2.2.2.2.2.2.2.2.2.1 s22.2.2.2.2.2.2.2.2.2.2.1 rK rA rO rW rC rT v3.2.2.2) := hD
                    refine lv_goto (tgt := 22) hx hb dX8_plays_121 (by decide) ?_
                    obtain rfl := k_some hf
                    exact ih mOp mIk mRu mTy rK rA rO rW rC rT (0, s22.2.1, s22.2.2.1, v3.2.1, s22.2.2.2.1, 2, y22, y23, v3.2.2.1, s22.2.2.2.2.2.2.2.2.2.1, s22.2.2.2.2.2.2.2.2.2.2.1, v3.2.2.2) q (k_inl hq) ls H locs (lv_sub hl [3, 0] rfl) hP hD hS kx 
                  · have hf := k_F c21 hf
                    refine lv_iload_n hx hb dX8_plays_95 rfl (lv_at hl 1 rfl) ?_
                    refine lv_goto (tgt := 108) hx hb dX8_plays_96 (by decide) ?_
                    refine va_put (D := D) (ci := 5) (v := .int 0) (ty := .int) (C := RX8) (T := TX8) (N := 21) hx hb hts in_X8 tyX8 tyX8_ok nmX8 hown hK hP hD hS 0 rfl rfl 17 (by decide) fl194 (fun _ h9 => h9) rfl (by decide +kernel) rfl rfl (Nat.le_of_ble_eq_true rfl) dX8_plays_108 (fun H locs hP hD hS => ?_)
                    have hP : va_P D vwCl (wX8 cy h0 sa pa ka aa oa wa ca ta na mOp mIk s22.2.1 mRu s22.2.2.1 mTy v3.2.1 s22.2.2.2.1 2 0 s22.2.2.2.2.2.2.2.1 v3.2.2.1 s22.2.2.2.2.2.2.2.2.2.1 s22.2.2.2.2.2.2.2.2.2.2.1 rK rA rO rW rC rT v3.2.2.2) H := hP
                    have hD : va_D A (wX8 cy h0 sa pa ka aa oa wa ca ta na mOp mIk s22.2.1 mRu s22.2.2.1 mTy v3.2.1 s22.2.2.2.1 2 0 s22.2.2.2.2.2.2.2.1 v3.2.2.1 s22.2.2.2.2.2.2.2.2.2.1 s22.2.2.2.2.2.2.2.2.2.2.1 rK rA rO rW rC rT v3.2.2.2) := hD
                    refine lv_aload_n hx hb dX8_plays_111 rfl (lv_at hl 3 rfl) ?_
                    refine lv_dup hx hb dX8_plays_112 rfl ?_
                    refine va_get (D := D) (ci := 5) (v := .int s22.2.2.2.2.2.2.2.1) (C := RX8) (T := TX8) (N := 21) hx hb hts in_X8 hown hK hP 0 rfl rfl 18 (by decide) fl183 (fun _ h9 => h9) rfl dX8_plays_113 ?_
                    refine lv_iconst (v := 1) hx hb dX8_plays_116 (by decide) ?_
                    refine lv_iadd hx hb dX8_plays_117 ?_
                    obtain ⟨y24, ey24, hf⟩ := k_L hf
                    refine k_name ey24 ?_
                    refine va_put (D := D) (ci := 5) (v := .int y24) (ty := .int) (C := RX8) (T := TX8) (N := 21) hx hb hts in_X8 tyX8 tyX8_ok nmX8 hown hK hP hD hS 0 rfl rfl 18 (by decide) fl183 (fun _ h9 => h9) rfl (by decide +kernel) rfl rfl (Nat.le_of_ble_eq_true rfl) dX8_plays_118 (fun H locs hP hD hS => ?_)
                    have hP : va_P D vwCl (wX8 cy h0 sa pa ka aa oa wa ca ta na mOp mIk s22.2.1 mRu s22.2.2.1 mTy v3.2.1 s22.2.2.2.1 2 0 y24 v3.2.2.1 s22.2.2.2.2.2.2.2.2.2.1 s22.2.2.2.2.2.2.2.2.2.2.1 rK rA rO rW rC rT v3.2.2.2) H := hP
                    have hD : va_D A (wX8 cy h0 sa pa ka aa oa wa ca ta na mOp mIk s22.2.1 mRu s22.2.2.1 mTy v3.2.1 s22.2.2.2.1 2 0 y24 v3.2.2.1 s22.2.2.2.2.2.2.2.2.2.1 s22.2.2.2.2.2.2.2.2.2.2.1 rK rA rO rW rC rT v3.2.2.2) := hD
                    refine lv_goto (tgt := 22) hx hb dX8_plays_121 (by decide) ?_
                    obtain rfl := k_some hf
                    exact ih mOp mIk mRu mTy rK rA rO rW rC rT (0, s22.2.1, s22.2.2.1, v3.2.1, s22.2.2.2.1, 2, 0, y24, v3.2.2.1, s22.2.2.2.2.2.2.2.2.2.1, s22.2.2.2.2.2.2.2.2.2.2.1, v3.2.2.2) q (k_inl hq) ls H locs (lv_sub hl [3, 0] rfl) hP hD hS kx 
              · have hf := k_T c15 hf
                refine lv_iconst (v := 1) hx hb dX8_plays_71 (by decide) ?_
                refine lv_goto (tgt := 76) hx hb dX8_plays_72 (by decide) ?_
                refine lv_istore_n (lv' := [(1, .int 1), (3, .int 0), (2, .int v3.1), (0, .ref h0)]) hx hb dX8_plays_76 rfl hl (by decide) rfl (fun ls hl => ?_)
                refine lv_aload_n hx hb dX8_plays_77 rfl (lv_at hl 3 rfl) ?_
                refine lv_iload_n hx hb dX8_plays_78 rfl (lv_at hl 2 rfl) ?_
                refine lv_if_eq (tgt := 86) hx hb dX8_plays_79 (by decide) (fun c25 => ?_) (fun c25 => ?_)
                · have hf := k_T c25 hf
                  refine lv_iconst (v := 1) hx hb dX8_plays_86 (by decide) ?_
                  refine va_put (D := D) (ci := 5) (v := .int 1) (ty := .int) (C := RX8) (T := TX8) (N := 21) hx hb hts in_X8 tyX8 tyX8_ok nmX8 hown hK hP hD hS 0 rfl rfl 16 (by decide) fl192 (fun _ h9 => h9) rfl (by decide +kernel) rfl rfl (Nat.le_of_ble_eq_true rfl) dX8_plays_87 (fun H locs hP hD hS => ?_)
                  have hP : va_P D vwCl (wX8 cy h0 sa pa ka aa oa wa ca ta na mOp mIk s22.2.1 mRu s22.2.2.1 mTy v3.2.1 s22.2.2.2.1 1 s22.2.2.2.2.2.2.1 s22.2.2.2.2.2.2.2.1 v3.2.2.1 s22.2.2.2.2.2.2.2.2.2.1 s22.2.2.2.2.2.2.2.2.2.2.1 rK rA rO rW rC rT v3.2.2.2) H := hP
                  have hD : va_D A (wX8 cy h0 sa pa ka aa oa wa ca ta na mOp mIk s22.2.1 mRu s22.2.2.1 mTy v3.2.1 s22.2.2.2.1 1 s22.2.2.2.2.2.2.1 s22.2.2.2.2.2.2.2.1 v3.2.2.1 s22.2.2.2.2.2.2.2.2.2.1 s22.2.2.2.2.2.2.2.2.2.2.1 rK rA rO rW rC rT v3.2.2.2) := hD
                  refine lv_aload_n hx hb dX8_plays_90 rfl (lv_at hl 3 rfl) ?_
                  refine lv_iload_n hx hb dX8_plays_91 rfl (lv_at hl 2 rfl) ?_
                  refine lv_if_eq (tgt := 99) hx hb dX8_plays_92 (by decide) (fun c26 => ?_) (fun c26 => ?_)
                  · have hf := k_T c26 hf
                    refine lv_aload_n hx hb dX8_plays_99 rfl (lv_at hl 3 rfl) ?_
                    refine va_get (D := D) (ci := 5) (v := .int v3.2.1) (C := RX8) (T := TX8) (N := 21) hx hb hts in_X8 hown hK hP 0 rfl rfl 14 (by decide) fl159 (fun _ h9 => h9) rfl dX8_plays_100 ?_
                    refine lv_aload_n hx hb dX8_plays_103 rfl (lv_at hl 3 rfl) ?_
                    refine va_get (D := D) (ci := 5) (v := .int s22.2.2.2.1) (C := RX8) (T := TX8) (N := 21) hx hb hts in_X8 hown hK hP 0 rfl rfl 15 (by decide) fl180 (fun _ h9 => h9) rfl dX8_plays_104 ?_
                    refine lv_isub hx hb dX8_plays_107 ?_
                    obtain ⟨y27, ey27, hf⟩ := k_L hf
                    refine k_name ey27 ?_
                    refine va_put (D := D) (ci := 5) (v := .int y27) (ty := .int) (C := RX8) (T := TX8) (N := 21) hx hb hts in_X8 tyX8 tyX8_ok nmX8 hown hK hP hD hS 0 rfl rfl 17 (by decide) fl194 (fun _ h9 => h9) rfl (by decide +kernel) rfl rfl (Nat.le_of_ble_eq_true rfl) dX8_plays_108 (fun H locs hP hD hS => ?_)
                    have hP : va_P D vwCl (wX8 cy h0 sa pa ka aa oa wa ca ta na mOp mIk s22.2.1 mRu s22.2.2.1 mTy v3.2.1 s22.2.2.2.1 1 y27 s22.2.2.2.2.2.2.2.1 v3.2.2.1 s22.2.2.2.2.2.2.2.2.2.1 s22.2.2.2.2.2.2.2.2.2.2.1 rK rA rO rW rC rT v3.2.2.2) H := hP
                    have hD : va_D A (wX8 cy h0 sa pa ka aa oa wa ca ta na mOp mIk s22.2.1 mRu s22.2.2.1 mTy v3.2.1 s22.2.2.2.1 1 y27 s22.2.2.2.2.2.2.2.1 v3.2.2.1 s22.2.2.2.2.2.2.2.2.2.1 s22.2.2.2.2.2.2.2.2.2.2.1 rK rA rO rW rC rT v3.2.2.2) := hD
                    refine lv_aload_n hx hb dX8_plays_111 rfl (lv_at hl 3 rfl) ?_
                    refine lv_dup hx hb dX8_plays_112 rfl ?_
                    refine va_get (D := D) (ci := 5) (v := .int s22.2.2.2.2.2.2.2.1) (C := RX8) (T := TX8) (N := 21) hx hb hts in_X8 hown hK hP 0 rfl rfl 18 (by decide) fl183 (fun _ h9 => h9) rfl dX8_plays_113 ?_
                    refine lv_iconst (v := 1) hx hb dX8_plays_116 (by decide) ?_
                    refine lv_iadd hx hb dX8_plays_117 ?_
                    obtain ⟨y28, ey28, hf⟩ := k_L hf
                    refine k_name ey28 ?_
                    refine va_put (D := D) (ci := 5) (v := .int y28) (ty := .int) (C := RX8) (T := TX8) (N := 21) hx hb hts in_X8 tyX8 tyX8_ok nmX8 hown hK hP hD hS 0 rfl rfl 18 (by decide) fl183 (fun _ h9 => h9) rfl (by decide +kernel) rfl rfl (Nat.le_of_ble_eq_true rfl) dX8_plays_118 (fun H locs hP hD hS => ?_)
                    have hP : va_P D vwCl (wX8 cy h0 sa pa ka aa oa wa ca ta na mOp mIk s22.2.1 mRu s22.2.2.1 mTy v3.2.1 s22.2.2.2.1 1 y27 y28 v3.2.2.1 s22.2.2.2.2.2.2.2.2.2.1 s22.2.2.2.2.2.2.2.2.2.2.1 rK rA rO rW rC rT v3.2.2.2) H := hP
                    have hD : va_D A (wX8 cy h0 sa pa ka aa oa wa ca ta na mOp mIk s22.2.1 mRu s22.2.2.1 mTy v3.2.1 s22.2.2.2.1 1 y27 y28 v3.2.2.1 s22.2.2.2.2.2.2.2.2.2.1 s22.2.2.2.2.2.2.2.2.2.2.1 rK rA rO rW rC rT v3.2.2.2) := hD
                    refine lv_goto (tgt := 22) hx hb dX8_plays_121 (by decide) ?_
                    obtain rfl := k_some hf
                    exact ih mOp mIk mRu mTy rK rA rO rW rC rT (1, s22.2.1, s22.2.2.1, v3.2.1, s22.2.2.2.1, 1, y27, y28, v3.2.2.1, s22.2.2.2.2.2.2.2.2.2.1, s22.2.2.2.2.2.2.2.2.2.2.1, v3.2.2.2) q (k_inl hq) ls H locs (lv_sub hl [3, 0] rfl) hP hD hS kx 
                  · have hf := k_F c26 hf
                    refine lv_iload_n hx hb dX8_plays_95 rfl (lv_at hl 1 rfl) ?_
                    refine lv_goto (tgt := 108) hx hb dX8_plays_96 (by decide) ?_
                    refine va_put (D := D) (ci := 5) (v := .int 0) (ty := .int) (C := RX8) (T := TX8) (N := 21) hx hb hts in_X8 tyX8 tyX8_ok nmX8 hown hK hP hD hS 0 rfl rfl 17 (by decide) fl194 (fun _ h9 => h9) rfl (by decide +kernel) rfl rfl (Nat.le_of_ble_eq_true rfl) dX8_plays_108 (fun H locs hP hD hS => ?_)
                    have hP : va_P D vwCl (wX8 cy h0 sa pa ka aa oa wa ca ta na mOp mIk s22.2.1 mRu s22.2.2.1 mTy v3.2.1 s22.2.2.2.1 1 0 s22.2.2.2.2.2.2.2.1 v3.2.2.1 s22.2.2.2.2.2.2.2.2.2.1 s22.2.2.2.2.2.2.2.2.2.2.1 rK rA rO rW rC rT v3.2.2.2) H := hP
                    have hD : va_D A (wX8 cy h0 sa pa ka aa oa wa ca ta na mOp mIk s22.2.1 mRu s22.2.2.1 mTy v3.2.1 s22.2.2.2.1 1 0 s22.2.2.2.2.2.2.2.1 v3.2.2.1 s22.2.2.2.2.2.2.2.2.2.1 s22.2.2.2.2.2.2.2.2.2.2.1 rK rA rO rW rC rT v3.2.2.2) := hD
                    refine lv_aload_n hx hb dX8_plays_111 rfl (lv_at hl 3 rfl) ?_
                    refine lv_dup hx hb dX8_plays_112 rfl ?_
                    refine va_get (D := D) (ci := 5) (v := .int s22.2.2.2.2.2.2.2.1) (C := RX8) (T := TX8) (N := 21) hx hb hts in_X8 hown hK hP 0 rfl rfl 18 (by decide) fl183 (fun _ h9 => h9) rfl dX8_plays_113 ?_
                    refine lv_iconst (v := 1) hx hb dX8_plays_116 (by decide) ?_
                    refine lv_iadd hx hb dX8_plays_117 ?_
                    obtain ⟨y29, ey29, hf⟩ := k_L hf
                    refine k_name ey29 ?_
                    refine va_put (D := D) (ci := 5) (v := .int y29) (ty := .int) (C := RX8) (T := TX8) (N := 21) hx hb hts in_X8 tyX8 tyX8_ok nmX8 hown hK hP hD hS 0 rfl rfl 18 (by decide) fl183 (fun _ h9 => h9) rfl (by decide +kernel) rfl rfl (Nat.le_of_ble_eq_true rfl) dX8_plays_118 (fun H locs hP hD hS => ?_)
                    have hP : va_P D vwCl (wX8 cy h0 sa pa ka aa oa wa ca ta na mOp mIk s22.2.1 mRu s22.2.2.1 mTy v3.2.1 s22.2.2.2.1 1 0 y29 v3.2.2.1 s22.2.2.2.2.2.2.2.2.2.1 s22.2.2.2.2.2.2.2.2.2.2.1 rK rA rO rW rC rT v3.2.2.2) H := hP
                    have hD : va_D A (wX8 cy h0 sa pa ka aa oa wa ca ta na mOp mIk s22.2.1 mRu s22.2.2.1 mTy v3.2.1 s22.2.2.2.1 1 0 y29 v3.2.2.1 s22.2.2.2.2.2.2.2.2.2.1 s22.2.2.2.2.2.2.2.2.2.2.1 rK rA rO rW rC rT v3.2.2.2) := hD
                    refine lv_goto (tgt := 22) hx hb dX8_plays_121 (by decide) ?_
                    obtain rfl := k_some hf
                    exact ih mOp mIk mRu mTy rK rA rO rW rC rT (1, s22.2.1, s22.2.2.1, v3.2.1, s22.2.2.2.1, 1, 0, y29, v3.2.2.1, s22.2.2.2.2.2.2.2.2.2.1, s22.2.2.2.2.2.2.2.2.2.2.1, v3.2.2.2) q (k_inl hq) ls H locs (lv_sub hl [3, 0] rfl) hP hD hS kx 
                · have hf := k_F c25 hf
                  refine lv_iconst (v := 2) hx hb dX8_plays_82 (by decide) ?_
                  refine lv_goto (tgt := 87) hx hb dX8_plays_83 (by decide) ?_
                  refine va_put (D := D) (ci := 5) (v := .int 2) (ty := .int) (C := RX8) (T := TX8) (N := 21) hx hb hts in_X8 tyX8 tyX8_ok nmX8 hown hK hP hD hS 0 rfl rfl 16 (by decide) fl192 (fun _ h9 => h9) rfl (by decide +kernel) rfl rfl (Nat.le_of_ble_eq_true rfl) dX8_plays_87 (fun H locs hP hD hS => ?_)
                  have hP : va_P D vwCl (wX8 cy h0 sa pa ka aa oa wa ca ta na mOp mIk s22.2.1 mRu s22.2.2.1 mTy v3.2.1 s22.2.2.2.1 2 s22.2.2.2.2.2.2.1 s22.2.2.2.2.2.2.2.1 v3.2.2.1 s22.2.2.2.2.2.2.2.2.2.1 s22.2.2.2.2.2.2.2.2.2.2.1 rK rA rO rW rC rT v3.2.2.2) H := hP
                  have hD : va_D A (wX8 cy h0 sa pa ka aa oa wa ca ta na mOp mIk s22.2.1 mRu s22.2.2.1 mTy v3.2.1 s22.2.2.2.1 2 s22.2.2.2.2.2.2.1 s22.2.2.2.2.2.2.2.1 v3.2.2.1 s22.2.2.2.2.2.2.2.2.2.1 s22.2.2.2.2.2.2.2.2.2.2.1 rK rA rO rW rC rT v3.2.2.2) := hD
                  refine lv_aload_n hx hb dX8_plays_90 rfl (lv_at hl 3 rfl) ?_
                  refine lv_iload_n hx hb dX8_plays_91 rfl (lv_at hl 2 rfl) ?_
                  refine lv_if_eq (tgt := 99) hx hb dX8_plays_92 (by decide) (fun c30 => ?_) (fun c30 => ?_)
                  · have hf := k_T c30 hf
                    refine lv_aload_n hx hb dX8_plays_99 rfl (lv_at hl 3 rfl) ?_
                    refine va_get (D := D) (ci := 5) (v := .int v3.2.1) (C := RX8) (T := TX8) (N := 21) hx hb hts in_X8 hown hK hP 0 rfl rfl 14 (by decide) fl159 (fun _ h9 => h9) rfl dX8_plays_100 ?_
                    refine lv_aload_n hx hb dX8_plays_103 rfl (lv_at hl 3 rfl) ?_
                    refine va_get (D := D) (ci := 5) (v := .int s22.2.2.2.1) (C := RX8) (T := TX8) (N := 21) hx hb hts in_X8 hown hK hP 0 rfl rfl 15 (by decide) fl180 (fun _ h9 => h9) rfl dX8_plays_104 ?_
                    refine lv_isub hx hb dX8_plays_107 ?_
                    obtain ⟨y31, ey31, hf⟩ := k_L hf
                    refine k_name ey31 ?_
                    refine va_put (D := D) (ci := 5) (v := .int y31) (ty := .int) (C := RX8) (T := TX8) (N := 21) hx hb hts in_X8 tyX8 tyX8_ok nmX8 hown hK hP hD hS 0 rfl rfl 17 (by decide) fl194 (fun _ h9 => h9) rfl (by decide +kernel) rfl rfl (Nat.le_of_ble_eq_true rfl) dX8_plays_108 (fun H locs hP hD hS => ?_)
                    have hP : va_P D vwCl (wX8 cy h0 sa pa ka aa oa wa ca ta na mOp mIk s22.2.1 mRu s22.2.2.1 mTy v3.2.1 s22.2.2.2.1 2 y31 s22.2.2.2.2.2.2.2.1 v3.2.2.1 s22.2.2.2.2.2.2.2.2.2.1 s22.2.2.2.2.2.2.2.2.2.2.1 rK rA rO rW rC rT v3.2.2.2) H := hP
                    have hD : va_D A (wX8 cy h0 sa pa ka aa oa wa ca ta na mOp mIk s22.2.1 mRu s22.2.2.1 mTy v3.2.1 s22.2.2.2.1 2 y31 s22.2.2.2.2.2.2.2.1 v3.2.2.1 s22.2.2.2.2.2.2.2.2.2.1 s22.2.2.2.2.2.2.2.2.2.2.1 rK rA rO rW rC rT v3.2.2.2) := hD
                    refine lv_aload_n hx hb dX8_plays_111 rfl (lv_at hl 3 rfl) ?_
                    refine lv_dup hx hb dX8_plays_112 rfl ?_
                    refine va_get (D := D) (ci := 5) (v := .int s22.2.2.2.2.2.2.2.1) (C := RX8) (T := TX8) (N := 21) hx hb hts in_X8 hown hK hP 0 rfl rfl 18 (by decide) fl183 (fun _ h9 => h9) rfl dX8_plays_113 ?_
                    refine lv_iconst (v := 1) hx hb dX8_plays_116 (by decide) ?_
                    refine lv_iadd hx hb dX8_plays_117 ?_
                    obtain ⟨y32, ey32, hf⟩ := k_L hf
                    refine k_name ey32 ?_
                    refine va_put (D := D) (ci := 5) (v := .int y32) (ty := .int) (C := RX8) (T := TX8) (N := 21) hx hb hts in_X8 tyX8 tyX8_ok nmX8 hown hK hP hD hS 0 rfl rfl 18 (by decide) fl183 (fun _ h9 => h9) rfl (by decide +kernel) rfl rfl (Nat.le_of_ble_eq_true rfl) dX8_plays_118 (fun H locs hP hD hS => ?_)
                    have hP : va_P D vwCl (wX8 cy h0 sa pa ka aa oa wa ca ta na mOp mIk s22.2.1 mRu s22.2.2.1 mTy v3.2.1 s22.2.2.2.1 2 y31 y32 v3.2.2.1 s22.2.2.2.2.2.2.2.2.2.1 s22.2.2.2.2.2.2.2.2.2.2.1 rK rA rO rW rC rT v3.2.2.2) H := hP
                    have hD : va_D A (wX8 cy h0 sa pa ka aa oa wa ca ta na mOp mIk s22.2.1 mRu s22.2.2.1 mTy v3.2.1 s22.2.2.2.1 2 y31 y32 v3.2.2.1 s22.2.2.2.2.2.2.2.2.2.1 s22.2.2.2.2.2.2.2.2.2.2.1 rK rA rO rW rC rT v3.2.2.2) := hD
                    refine lv_goto (tgt := 22) hx hb dX8_plays_121 (by decide) ?_
                    obtain rfl := k_some hf
                    exact ih mOp mIk mRu mTy rK rA rO rW rC rT (1, s22.2.1, s22.2.2.1, v3.2.1, s22.2.2.2.1, 2, y31, y32, v3.2.2.1, s22.2.2.2.2.2.2.2.2.2.1, s22.2.2.2.2.2.2.2.2.2.2.1, v3.2.2.2) q (k_inl hq) ls H locs (lv_sub hl [3, 0] rfl) hP hD hS kx 
                  · have hf := k_F c30 hf
                    refine lv_iload_n hx hb dX8_plays_95 rfl (lv_at hl 1 rfl) ?_
                    refine lv_goto (tgt := 108) hx hb dX8_plays_96 (by decide) ?_
                    refine va_put (D := D) (ci := 5) (v := .int 0) (ty := .int) (C := RX8) (T := TX8) (N := 21) hx hb hts in_X8 tyX8 tyX8_ok nmX8 hown hK hP hD hS 0 rfl rfl 17 (by decide) fl194 (fun _ h9 => h9) rfl (by decide +kernel) rfl rfl (Nat.le_of_ble_eq_true rfl) dX8_plays_108 (fun H locs hP hD hS => ?_)
                    have hP : va_P D vwCl (wX8 cy h0 sa pa ka aa oa wa ca ta na mOp mIk s22.2.1 mRu s22.2.2.1 mTy v3.2.1 s22.2.2.2.1 2 0 s22.2.2.2.2.2.2.2.1 v3.2.2.1 s22.2.2.2.2.2.2.2.2.2.1 s22.2.2.2.2.2.2.2.2.2.2.1 rK rA rO rW rC rT v3.2.2.2) H := hP
                    have hD : va_D A (wX8 cy h0 sa pa ka aa oa wa ca ta na mOp mIk s22.2.1 mRu s22.2.2.1 mTy v3.2.1 s22.2.2.2.1 2 0 s22.2.2.2.2.2.2.2.1 v3.2.2.1 s22.2.2.2.2.2.2.2.2.2.1 s22.2.2.2.2.2.2.2.2.2.2.1 rK rA rO rW rC rT v3.2.2.2) := hD
                    refine lv_aload_n hx hb dX8_plays_111 rfl (lv_at hl 3 rfl) ?_
                    refine lv_dup hx hb dX8_plays_112 rfl ?_
                    refine va_get (D := D) (ci := 5) (v := .int s22.2.2.2.2.2.2.2.1) (C := RX8) (T := TX8) (N := 21) hx hb hts in_X8 hown hK hP 0 rfl rfl 18 (by decide) fl183 (fun _ h9 => h9) rfl dX8_plays_113 ?_
                    refine lv_iconst (v := 1) hx hb dX8_plays_116 (by decide) ?_
                    refine lv_iadd hx hb dX8_plays_117 ?_
                    obtain ⟨y33, ey33, hf⟩ := k_L hf
                    refine k_name ey33 ?_
                    refine va_put (D := D) (ci := 5) (v := .int y33) (ty := .int) (C := RX8) (T := TX8) (N := 21) hx hb hts in_X8 tyX8 tyX8_ok nmX8 hown hK hP hD hS 0 rfl rfl 18 (by decide) fl183 (fun _ h9 => h9) rfl (by decide +kernel) rfl rfl (Nat.le_of_ble_eq_true rfl) dX8_plays_118 (fun H locs hP hD hS => ?_)
                    have hP : va_P D vwCl (wX8 cy h0 sa pa ka aa oa wa ca ta na mOp mIk s22.2.1 mRu s22.2.2.1 mTy v3.2.1 s22.2.2.2.1 2 0 y33 v3.2.2.1 s22.2.2.2.2.2.2.2.2.2.1 s22.2.2.2.2.2.2.2.2.2.2.1 rK rA rO rW rC rT v3.2.2.2) H := hP
                    have hD : va_D A (wX8 cy h0 sa pa ka aa oa wa ca ta na mOp mIk s22.2.1 mRu s22.2.2.1 mTy v3.2.1 s22.2.2.2.1 2 0 y33 v3.2.2.1 s22.2.2.2.2.2.2.2.2.2.1 s22.2.2.2.2.2.2.2.2.2.2.1 rK rA rO rW rC rT v3.2.2.2) := hD
                    refine lv_goto (tgt := 22) hx hb dX8_plays_121 (by decide) ?_
                    obtain rfl := k_some hf
                    exact ih mOp mIk mRu mTy rK rA rO rW rC rT (1, s22.2.1, s22.2.2.1, v3.2.1, s22.2.2.2.1, 2, 0, y33, v3.2.2.1, s22.2.2.2.2.2.2.2.2.2.1, s22.2.2.2.2.2.2.2.2.2.2.1, v3.2.2.2) q (k_inl hq) ls H locs (lv_sub hl [3, 0] rfl) hP hD hS kx 
          · have hf := k_F c4 hf
            refine lv_aload_n hx hb dX8_plays_54 rfl (lv_at hl 1 rfl) ?_
            obtain ⟨v34, hv34, hf⟩ := k_B hf
            refine k_callHV (As := []) (rest := []) (r := (RX8, TX8, 21)) (ci := 5) (q0 := 0) (isC := [0, 1, 2, 3, 4, 5, 6, 7, 8, 9]) (isR := []) (perm := [0, 1, 2, 3, 4, 5, 6, 7, 8, 9]) (w' := (wX8 cy h0 sa pa ka aa oa wa ca ta na mOp mIk v34.2.1 mRu v34.2.2.1 mTy v3.2.1 s22.2.2.2.1 s22.2.2.2.2.2.1 s22.2.2.2.2.2.2.1 s22.2.2.2.2.2.2.2.1 v3.2.2.1 v34.2.2.2.1 v34.2.2.2.2 rK rA rO rW rC rT v3.2.2.2)) ⟨hx, hb, hml, hown, hts⟩ (c_X8_does l D cy h0 sa pa ka aa oa wa ca ta na mOp mIk s22.2.1 mRu s22.2.2.1 mTy v3.2.1 s22.2.2.2.1 s22.2.2.2.2.2.1 s22.2.2.2.2.2.2.1 s22.2.2.2.2.2.2.2.1 v3.2.2.1 s22.2.2.2.2.2.2.2.2.2.1 s22.2.2.2.2.2.2.2.2.2.2.1 rK rA rO rW rC rT v3.2.2.2  v34 hv34) (cwV 0 hts gX8_plays_X8_does rfl rfl rfl hd_X8_does ⟨Nat.le_of_ble_eq_true rfl, Nat.le_of_ble_eq_true rfl⟩) hK hN hP hD hS hA rfl rfl rfl rfl rfl rfl (by decide) rfl rfl rfl hl.1 rfl (Nat.le_of_ble_eq_true rfl) dX8_plays_55 ⟨Nat.zero_le _, Nat.zero_le _⟩ (fun H locs hP hD hS => ?_)
            refine lv_goto (tgt := 62) hx hb dX8_plays_58 (by decide) ?_
            refine lv_istore_n (lv' := [(3, .int v34.1), (2, .int v3.1), (0, .ref h0), (1, .int s22.1)]) hx hb dX8_plays_62 rfl hl (by decide) rfl (fun ls hl => ?_)
            refine lv_iload_n hx hb dX8_plays_63 rfl (lv_at hl 1 rfl) ?_
            refine lv_if_eq (tgt := 75) hx hb dX8_plays_64 (by decide) (fun c35 => ?_) (fun c35 => ?_)
            · have hf := k_T c35 hf
              refine lv_iconst (v := 0) hx hb dX8_plays_75 (by decide) ?_
              refine lv_istore_n (lv' := [(1, .int 0), (3, .int v34.1), (2, .int v3.1), (0, .ref h0)]) hx hb dX8_plays_76 rfl hl (by decide) rfl (fun ls hl => ?_)
              refine lv_aload_n hx hb dX8_plays_77 rfl (lv_at hl 3 rfl) ?_
              refine lv_iload_n hx hb dX8_plays_78 rfl (lv_at hl 2 rfl) ?_
              refine lv_if_eq (tgt := 86) hx hb dX8_plays_79 (by decide) (fun c36 => ?_) (fun c36 => ?_)
              · have hf := k_T c36 hf
                refine lv_iconst (v := 1) hx hb dX8_plays_86 (by decide) ?_
                refine va_put (D := D) (ci := 5) (v := .int 1) (ty := .int) (C := RX8) (T := TX8) (N := 21) hx hb hts in_X8 tyX8 tyX8_ok nmX8 hown hK hP hD hS 0 rfl rfl 16 (by decide) fl192 (fun _ h9 => h9) rfl (by decide +kernel) rfl rfl (Nat.le_of_ble_eq_true rfl) dX8_plays_87 (fun H locs hP hD hS => ?_)
                have hP : va_P D vwCl (wX8 cy h0 sa pa ka aa oa wa ca ta na mOp mIk v34.2.1 mRu v34.2.2.1 mTy v3.2.1 s22.2.2.2.1 1 s22.2.2.2.2.2.2.1 s22.2.2.2.2.2.2.2.1 v3.2.2.1 v34.2.2.2.1 v34.2.2.2.2 rK rA rO rW rC rT v3.2.2.2) H := hP
                have hD : va_D A (wX8 cy h0 sa pa ka aa oa wa ca ta na mOp mIk v34.2.1 mRu v34.2.2.1 mTy v3.2.1 s22.2.2.2.1 1 s22.2.2.2.2.2.2.1 s22.2.2.2.2.2.2.2.1 v3.2.2.1 v34.2.2.2.1 v34.2.2.2.2 rK rA rO rW rC rT v3.2.2.2) := hD
                refine lv_aload_n hx hb dX8_plays_90 rfl (lv_at hl 3 rfl) ?_
                refine lv_iload_n hx hb dX8_plays_91 rfl (lv_at hl 2 rfl) ?_
                refine lv_if_eq (tgt := 99) hx hb dX8_plays_92 (by decide) (fun c37 => ?_) (fun c37 => ?_)
                · have hf := k_T c37 hf
                  refine lv_aload_n hx hb dX8_plays_99 rfl (lv_at hl 3 rfl) ?_
                  refine va_get (D := D) (ci := 5) (v := .int v3.2.1) (C := RX8) (T := TX8) (N := 21) hx hb hts in_X8 hown hK hP 0 rfl rfl 14 (by decide) fl159 (fun _ h9 => h9) rfl dX8_plays_100 ?_
                  refine lv_aload_n hx hb dX8_plays_103 rfl (lv_at hl 3 rfl) ?_
                  refine va_get (D := D) (ci := 5) (v := .int s22.2.2.2.1) (C := RX8) (T := TX8) (N := 21) hx hb hts in_X8 hown hK hP 0 rfl rfl 15 (by decide) fl180 (fun _ h9 => h9) rfl dX8_plays_104 ?_
                  refine lv_isub hx hb dX8_plays_107 ?_
                  obtain ⟨y38, ey38, hf⟩ := k_L hf
                  refine k_name ey38 ?_
                  refine va_put (D := D) (ci := 5) (v := .int y38) (ty := .int) (C := RX8) (T := TX8) (N := 21) hx hb hts in_X8 tyX8 tyX8_ok nmX8 hown hK hP hD hS 0 rfl rfl 17 (by decide) fl194 (fun _ h9 => h9) rfl (by decide +kernel) rfl rfl (Nat.le_of_ble_eq_true rfl) dX8_plays_108 (fun H locs hP hD hS => ?_)
                  have hP : va_P D vwCl (wX8 cy h0 sa pa ka aa oa wa ca ta na mOp mIk v34.2.1 mRu v34.2.2.1 mTy v3.2.1 s22.2.2.2.1 1 y38 s22.2.2.2.2.2.2.2.1 v3.2.2.1 v34.2.2.2.1 v34.2.2.2.2 rK rA rO rW rC rT v3.2.2.2) H := hP
                  have hD : va_D A (wX8 cy h0 sa pa ka aa oa wa ca ta na mOp mIk v34.2.1 mRu v34.2.2.1 mTy v3.2.1 s22.2.2.2.1 1 y38 s22.2.2.2.2.2.2.2.1 v3.2.2.1 v34.2.2.2.1 v34.2.2.2.2 rK rA rO rW rC rT v3.2.2.2) := hD
                  refine lv_aload_n hx hb dX8_plays_111 rfl (lv_at hl 3 rfl) ?_
                  refine lv_dup hx hb dX8_plays_112 rfl ?_
                  refine va_get (D := D) (ci := 5) (v := .int s22.2.2.2.2.2.2.2.1) (C := RX8) (T := TX8) (N := 21) hx hb hts in_X8 hown hK hP 0 rfl rfl 18 (by decide) fl183 (fun _ h9 => h9) rfl dX8_plays_113 ?_
                  refine lv_iconst (v := 1) hx hb dX8_plays_116 (by decide) ?_
                  refine lv_iadd hx hb dX8_plays_117 ?_
                  obtain ⟨y39, ey39, hf⟩ := k_L hf
                  refine k_name ey39 ?_
                  refine va_put (D := D) (ci := 5) (v := .int y39) (ty := .int) (C := RX8) (T := TX8) (N := 21) hx hb hts in_X8 tyX8 tyX8_ok nmX8 hown hK hP hD hS 0 rfl rfl 18 (by decide) fl183 (fun _ h9 => h9) rfl (by decide +kernel) rfl rfl (Nat.le_of_ble_eq_true rfl) dX8_plays_118 (fun H locs hP hD hS => ?_)
                  have hP : va_P D vwCl (wX8 cy h0 sa pa ka aa oa wa ca ta na mOp mIk v34.2.1 mRu v34.2.2.1 mTy v3.2.1 s22.2.2.2.1 1 y38 y39 v3.2.2.1 v34.2.2.2.1 v34.2.2.2.2 rK rA rO rW rC rT v3.2.2.2) H := hP
                  have hD : va_D A (wX8 cy h0 sa pa ka aa oa wa ca ta na mOp mIk v34.2.1 mRu v34.2.2.1 mTy v3.2.1 s22.2.2.2.1 1 y38 y39 v3.2.2.1 v34.2.2.2.1 v34.2.2.2.2 rK rA rO rW rC rT v3.2.2.2) := hD
                  refine lv_goto (tgt := 22) hx hb dX8_plays_121 (by decide) ?_
                  obtain rfl := k_some hf
                  exact ih mOp mIk mRu mTy rK rA rO rW rC rT (0, v34.2.1, v34.2.2.1, v3.2.1, s22.2.2.2.1, 1, y38, y39, v3.2.2.1, v34.2.2.2.1, v34.2.2.2.2, v3.2.2.2) q (k_inl hq) ls H locs (lv_sub hl [3, 0] rfl) hP hD hS kx 
                · have hf := k_F c37 hf
                  refine lv_iload_n hx hb dX8_plays_95 rfl (lv_at hl 1 rfl) ?_
                  refine lv_goto (tgt := 108) hx hb dX8_plays_96 (by decide) ?_
                  refine va_put (D := D) (ci := 5) (v := .int v34.1) (ty := .int) (C := RX8) (T := TX8) (N := 21) hx hb hts in_X8 tyX8 tyX8_ok nmX8 hown hK hP hD hS 0 rfl rfl 17 (by decide) fl194 (fun _ h9 => h9) rfl (by decide +kernel) rfl rfl (Nat.le_of_ble_eq_true rfl) dX8_plays_108 (fun H locs hP hD hS => ?_)
                  have hP : va_P D vwCl (wX8 cy h0 sa pa ka aa oa wa ca ta na mOp mIk v34.2.1 mRu v34.2.2.1 mTy v3.2.1 s22.2.2.2.1 1 v34.1 s22.2.2.2.2.2.2.2.1 v3.2.2.1 v34.2.2.2.1 v34.2.2.2.2 rK rA rO rW rC rT v3.2.2.2) H := hP
                  have hD : va_D A (wX8 cy h0 sa pa ka aa oa wa ca ta na mOp mIk v34.2.1 mRu v34.2.2.1 mTy v3.2.1 s22.2.2.2.1 1 v34.1 s22.2.2.2.2.2.2.2.1 v3.2.2.1 v34.2.2.2.1 v34.2.2.2.2 rK rA rO rW rC rT v3.2.2.2) := hD
                  refine lv_aload_n hx hb dX8_plays_111 rfl (lv_at hl 3 rfl) ?_
                  refine lv_dup hx hb dX8_plays_112 rfl ?_
                  refine va_get (D := D) (ci := 5) (v := .int s22.2.2.2.2.2.2.2.1) (C := RX8) (T := TX8) (N := 21) hx hb hts in_X8 hown hK hP 0 rfl rfl 18 (by decide) fl183 (fun _ h9 => h9) rfl dX8_plays_113 ?_
                  refine lv_iconst (v := 1) hx hb dX8_plays_116 (by decide) ?_
                  refine lv_iadd hx hb dX8_plays_117 ?_
                  obtain ⟨y40, ey40, hf⟩ := k_L hf
                  refine k_name ey40 ?_
                  refine va_put (D := D) (ci := 5) (v := .int y40) (ty := .int) (C := RX8) (T := TX8) (N := 21) hx hb hts in_X8 tyX8 tyX8_ok nmX8 hown hK hP hD hS 0 rfl rfl 18 (by decide) fl183 (fun _ h9 => h9) rfl (by decide +kernel) rfl rfl (Nat.le_of_ble_eq_true rfl) dX8_plays_118 (fun H locs hP hD hS => ?_)
                  have hP : va_P D vwCl (wX8 cy h0 sa pa ka aa oa wa ca ta na mOp mIk v34.2.1 mRu v34.2.2.1 mTy v3.2.1 s22.2.2.2.1 1 v34.1 y40 v3.2.2.1 v34.2.2.2.1 v34.2.2.2.2 rK rA rO rW rC rT v3.2.2.2) H := hP
                  have hD : va_D A (wX8 cy h0 sa pa ka aa oa wa ca ta na mOp mIk v34.2.1 mRu v34.2.2.1 mTy v3.2.1 s22.2.2.2.1 1 v34.1 y40 v3.2.2.1 v34.2.2.2.1 v34.2.2.2.2 rK rA rO rW rC rT v3.2.2.2) := hD
                  refine lv_goto (tgt := 22) hx hb dX8_plays_121 (by decide) ?_
                  obtain rfl := k_some hf
                  exact ih mOp mIk mRu mTy rK rA rO rW rC rT (0, v34.2.1, v34.2.2.1, v3.2.1, s22.2.2.2.1, 1, v34.1, y40, v3.2.2.1, v34.2.2.2.1, v34.2.2.2.2, v3.2.2.2) q (k_inl hq) ls H locs (lv_sub hl [3, 0] rfl) hP hD hS kx 
              · have hf := k_F c36 hf
                refine lv_iconst (v := 2) hx hb dX8_plays_82 (by decide) ?_
                refine lv_goto (tgt := 87) hx hb dX8_plays_83 (by decide) ?_
                refine va_put (D := D) (ci := 5) (v := .int 2) (ty := .int) (C := RX8) (T := TX8) (N := 21) hx hb hts in_X8 tyX8 tyX8_ok nmX8 hown hK hP hD hS 0 rfl rfl 16 (by decide) fl192 (fun _ h9 => h9) rfl (by decide +kernel) rfl rfl (Nat.le_of_ble_eq_true rfl) dX8_plays_87 (fun H locs hP hD hS => ?_)
                have hP : va_P D vwCl (wX8 cy h0 sa pa ka aa oa wa ca ta na mOp mIk v34.2.1 mRu v34.2.2.1 mTy v3.2.1 s22.2.2.2.1 2 s22.2.2.2.2.2.2.1 s22.2.2.2.2.2.2.2.1 v3.2.2.1 v34.2.2.2.1 v34.2.2.2.2 rK rA rO rW rC rT v3.2.2.2) H := hP
                have hD : va_D A (wX8 cy h0 sa pa ka aa oa wa ca ta na mOp mIk v34.2.1 mRu v34.2.2.1 mTy v3.2.1 s22.2.2.2.1 2 s22.2.2.2.2.2.2.1 s22.2.2.2.2.2.2.2.1 v3.2.2.1 v34.2.2.2.1 v34.2.2.2.2 rK rA rO rW rC rT v3.2.2.2) := hD
                refine lv_aload_n hx hb dX8_plays_90 rfl (lv_at hl 3 rfl) ?_
                refine lv_iload_n hx hb dX8_plays_91 rfl (lv_at hl 2 rfl) ?_
                refine lv_if_eq (tgt := 99) hx hb dX8_plays_92 (by decide) (fun c41 => ?_) (fun c41 => ?_)
                · have hf := k_T c41 hf
                  refine lv_aload_n hx hb dX8_plays_99 rfl (lv_at hl 3 rfl) ?_
                  refine va_get (D := D) (ci := 5) (v := .int v3.2.1) (C := RX8) (T := TX8) (N := 21) hx hb hts in_X8 hown hK hP 0 rfl rfl 14 (by decide) fl159 (fun _ h9 => h9) rfl dX8_plays_100 ?_
                  refine lv_aload_n hx hb dX8_plays_103 rfl (lv_at hl 3 rfl) ?_
                  refine va_get (D := D) (ci := 5) (v := .int s22.2.2.2.1) (C := RX8) (T := TX8) (N := 21) hx hb hts in_X8 hown hK hP 0 rfl rfl 15 (by decide) fl180 (fun _ h9 => h9) rfl dX8_plays_104 ?_
                  refine lv_isub hx hb dX8_plays_107 ?_
                  obtain ⟨y42, ey42, hf⟩ := k_L hf
                  refine k_name ey42 ?_
                  refine va_put (D := D) (ci := 5) (v := .int y42) (ty := .int) (C := RX8) (T := TX8) (N := 21) hx hb hts in_X8 tyX8 tyX8_ok nmX8 hown hK hP hD hS 0 rfl rfl 17 (by decide) fl194 (fun _ h9 => h9) rfl (by decide +kernel) rfl rfl (Nat.le_of_ble_eq_true rfl) dX8_plays_108 (fun H locs hP hD hS => ?_)
                  have hP : va_P D vwCl (wX8 cy h0 sa pa ka aa oa wa ca ta na mOp mIk v34.2.1 mRu v34.2.2.1 mTy v3.2.1 s22.2.2.2.1 2 y42 s22.2.2.2.2.2.2.2.1 v3.2.2.1 v34.2.2.2.1 v34.2.2.2.2 rK rA rO rW rC rT v3.2.2.2) H := hP
                  have hD : va_D A (wX8 cy h0 sa pa ka aa oa wa ca ta na mOp mIk v34.2.1 mRu v34.2.2.1 mTy v3.2.1 s22.2.2.2.1 2 y42 s22.2.2.2.2.2.2.2.1 v3.2.2.1 v34.2.2.2.1 v34.2.2.2.2 rK rA rO rW rC rT v3.2.2.2) := hD
                  refine lv_aload_n hx hb dX8_plays_111 rfl (lv_at hl 3 rfl) ?_
                  refine lv_dup hx hb dX8_plays_112 rfl ?_
                  refine va_get (D := D) (ci := 5) (v := .int s22.2.2.2.2.2.2.2.1) (C := RX8) (T := TX8) (N := 21) hx hb hts in_X8 hown hK hP 0 rfl rfl 18 (by decide) fl183 (fun _ h9 => h9) rfl dX8_plays_113 ?_
                  refine lv_iconst (v := 1) hx hb dX8_plays_116 (by decide) ?_
                  refine lv_iadd hx hb dX8_plays_117 ?_
                  obtain ⟨y43, ey43, hf⟩ := k_L hf
                  refine k_name ey43 ?_
                  refine va_put (D := D) (ci := 5) (v := .int y43) (ty := .int) (C := RX8) (T := TX8) (N := 21) hx hb hts in_X8 tyX8 tyX8_ok nmX8 hown hK hP hD hS 0 rfl rfl 18 (by decide) fl183 (fun _ h9 => h9) rfl (by decide +kernel) rfl rfl (Nat.le_of_ble_eq_true rfl) dX8_plays_118 (fun H locs hP hD hS => ?_)
                  have hP : va_P D vwCl (wX8 cy h0 sa pa ka aa oa wa ca ta na mOp mIk v34.2.1 mRu v34.2.2.1 mTy v3.2.1 s22.2.2.2.1 2 y42 y43 v3.2.2.1 v34.2.2.2.1 v34.2.2.2.2 rK rA rO rW rC rT v3.2.2.2) H := hP
                  have hD : va_D A (wX8 cy h0 sa pa ka aa oa wa ca ta na mOp mIk v34.2.1 mRu v34.2.2.1 mTy v3.2.1 s22.2.2.2.1 2 y42 y43 v3.2.2.1 v34.2.2.2.1 v34.2.2.2.2 rK rA rO rW rC rT v3.2.2.2) := hD
                  refine lv_goto (tgt := 22) hx hb dX8_plays_121 (by decide) ?_
                  obtain rfl := k_some hf
                  exact ih mOp mIk mRu mTy rK rA rO rW rC rT (0, v34.2.1, v34.2.2.1, v3.2.1, s22.2.2.2.1, 2, y42, y43, v3.2.2.1, v34.2.2.2.1, v34.2.2.2.2, v3.2.2.2) q (k_inl hq) ls H locs (lv_sub hl [3, 0] rfl) hP hD hS kx 
                · have hf := k_F c41 hf
                  refine lv_iload_n hx hb dX8_plays_95 rfl (lv_at hl 1 rfl) ?_
                  refine lv_goto (tgt := 108) hx hb dX8_plays_96 (by decide) ?_
                  refine va_put (D := D) (ci := 5) (v := .int v34.1) (ty := .int) (C := RX8) (T := TX8) (N := 21) hx hb hts in_X8 tyX8 tyX8_ok nmX8 hown hK hP hD hS 0 rfl rfl 17 (by decide) fl194 (fun _ h9 => h9) rfl (by decide +kernel) rfl rfl (Nat.le_of_ble_eq_true rfl) dX8_plays_108 (fun H locs hP hD hS => ?_)
                  have hP : va_P D vwCl (wX8 cy h0 sa pa ka aa oa wa ca ta na mOp mIk v34.2.1 mRu v34.2.2.1 mTy v3.2.1 s22.2.2.2.1 2 v34.1 s22.2.2.2.2.2.2.2.1 v3.2.2.1 v34.2.2.2.1 v34.2.2.2.2 rK rA rO rW rC rT v3.2.2.2) H := hP
                  have hD : va_D A (wX8 cy h0 sa pa ka aa oa wa ca ta na mOp mIk v34.2.1 mRu v34.2.2.1 mTy v3.2.1 s22.2.2.2.1 2 v34.1 s22.2.2.2.2.2.2.2.1 v3.2.2.1 v34.2.2.2.1 v34.2.2.2.2 rK rA rO rW rC rT v3.2.2.2) := hD
                  refine lv_aload_n hx hb dX8_plays_111 rfl (lv_at hl 3 rfl) ?_
                  refine lv_dup hx hb dX8_plays_112 rfl ?_
                  refine va_get (D := D) (ci := 5) (v := .int s22.2.2.2.2.2.2.2.1) (C := RX8) (T := TX8) (N := 21) hx hb hts in_X8 hown hK hP 0 rfl rfl 18 (by decide) fl183 (fun _ h9 => h9) rfl dX8_plays_113 ?_
                  refine lv_iconst (v := 1) hx hb dX8_plays_116 (by decide) ?_
                  refine lv_iadd hx hb dX8_plays_117 ?_
                  obtain ⟨y44, ey44, hf⟩ := k_L hf
                  refine k_name ey44 ?_
                  refine va_put (D := D) (ci := 5) (v := .int y44) (ty := .int) (C := RX8) (T := TX8) (N := 21) hx hb hts in_X8 tyX8 tyX8_ok nmX8 hown hK hP hD hS 0 rfl rfl 18 (by decide) fl183 (fun _ h9 => h9) rfl (by decide +kernel) rfl rfl (Nat.le_of_ble_eq_true rfl) dX8_plays_118 (fun H locs hP hD hS => ?_)
                  have hP : va_P D vwCl (wX8 cy h0 sa pa ka aa oa wa ca ta na mOp mIk v34.2.1 mRu v34.2.2.1 mTy v3.2.1 s22.2.2.2.1 2 v34.1 y44 v3.2.2.1 v34.2.2.2.1 v34.2.2.2.2 rK rA rO rW rC rT v3.2.2.2) H := hP
                  have hD : va_D A (wX8 cy h0 sa pa ka aa oa wa ca ta na mOp mIk v34.2.1 mRu v34.2.2.1 mTy v3.2.1 s22.2.2.2.1 2 v34.1 y44 v3.2.2.1 v34.2.2.2.1 v34.2.2.2.2 rK rA rO rW rC rT v3.2.2.2) := hD
                  refine lv_goto (tgt := 22) hx hb dX8_plays_121 (by decide) ?_
                  obtain rfl := k_some hf
                  exact ih mOp mIk mRu mTy rK rA rO rW rC rT (0, v34.2.1, v34.2.2.1, v3.2.1, s22.2.2.2.1, 2, v34.1, y44, v3.2.2.1, v34.2.2.2.1, v34.2.2.2.2, v3.2.2.2) q (k_inl hq) ls H locs (lv_sub hl [3, 0] rfl) hP hD hS kx 
            · have hf := k_F c35 hf
              refine lv_iload_n hx hb dX8_plays_67 rfl (lv_at hl 0 rfl) ?_
              refine lv_if_ne (tgt := 75) hx hb dX8_plays_68 (by decide) (fun c45 => ?_) (fun c45 => ?_)
              · have hf := k_F c45 hf
                refine lv_iconst (v := 0) hx hb dX8_plays_75 (by decide) ?_
                refine lv_istore_n (lv' := [(1, .int 0), (3, .int v34.1), (2, .int v3.1), (0, .ref h0)]) hx hb dX8_plays_76 rfl hl (by decide) rfl (fun ls hl => ?_)
                refine lv_aload_n hx hb dX8_plays_77 rfl (lv_at hl 3 rfl) ?_
                refine lv_iload_n hx hb dX8_plays_78 rfl (lv_at hl 2 rfl) ?_
                refine lv_if_eq (tgt := 86) hx hb dX8_plays_79 (by decide) (fun c46 => ?_) (fun c46 => ?_)
                · have hf := k_T c46 hf
                  refine lv_iconst (v := 1) hx hb dX8_plays_86 (by decide) ?_
                  refine va_put (D := D) (ci := 5) (v := .int 1) (ty := .int) (C := RX8) (T := TX8) (N := 21) hx hb hts in_X8 tyX8 tyX8_ok nmX8 hown hK hP hD hS 0 rfl rfl 16 (by decide) fl192 (fun _ h9 => h9) rfl (by decide +kernel) rfl rfl (Nat.le_of_ble_eq_true rfl) dX8_plays_87 (fun H locs hP hD hS => ?_)
                  have hP : va_P D vwCl (wX8 cy h0 sa pa ka aa oa wa ca ta na mOp mIk v34.2.1 mRu v34.2.2.1 mTy v3.2.1 s22.2.2.2.1 1 s22.2.2.2.2.2.2.1 s22.2.2.2.2.2.2.2.1 v3.2.2.1 v34.2.2.2.1 v34.2.2.2.2 rK rA rO rW rC rT v3.2.2.2) H := hP
                  have hD : va_D A (wX8 cy h0 sa pa ka aa oa wa ca ta na mOp mIk v34.2.1 mRu v34.2.2.1 mTy v3.2.1 s22.2.2.2.1 1 s22.2.2.2.2.2.2.1 s22.2.2.2.2.2.2.2.1 v3.2.2.1 v34.2.2.2.1 v34.2.2.2.2 rK rA rO rW rC rT v3.2.2.2) := hD
                  refine lv_aload_n hx hb dX8_plays_90 rfl (lv_at hl 3 rfl) ?_
                  refine lv_iload_n hx hb dX8_plays_91 rfl (lv_at hl 2 rfl) ?_
                  refine lv_if_eq (tgt := 99) hx hb dX8_plays_92 (by decide) (fun c47 => ?_) (fun c47 => ?_)
                  · have hf := k_T c47 hf
                    refine lv_aload_n hx hb dX8_plays_99 rfl (lv_at hl 3 rfl) ?_
                    refine va_get (D := D) (ci := 5) (v := .int v3.2.1) (C := RX8) (T := TX8) (N := 21) hx hb hts in_X8 hown hK hP 0 rfl rfl 14 (by decide) fl159 (fun _ h9 => h9) rfl dX8_plays_100 ?_
                    refine lv_aload_n hx hb dX8_plays_103 rfl (lv_at hl 3 rfl) ?_
                    refine va_get (D := D) (ci := 5) (v := .int s22.2.2.2.1) (C := RX8) (T := TX8) (N := 21) hx hb hts in_X8 hown hK hP 0 rfl rfl 15 (by decide) fl180 (fun _ h9 => h9) rfl dX8_plays_104 ?_
                    refine lv_isub hx hb dX8_plays_107 ?_
                    obtain ⟨y48, ey48, hf⟩ := k_L hf
                    refine k_name ey48 ?_
                    refine va_put (D := D) (ci := 5) (v := .int y48) (ty := .int) (C := RX8) (T := TX8) (N := 21) hx hb hts in_X8 tyX8 tyX8_ok nmX8 hown hK hP hD hS 0 rfl rfl 17 (by decide) fl194 (fun _ h9 => h9) rfl (by decide +kernel) rfl rfl (Nat.le_of_ble_eq_true rfl) dX8_plays_108 (fun H locs hP hD hS => ?_)
                    have hP : va_P D vwCl (wX8 cy h0 sa pa ka aa oa wa ca ta na mOp mIk v34.2.1 mRu v34.2.2.1 mTy v3.2.1 s22.2.2.2.1 1 y48 s22.2.2.2.2.2.2.2.1 v3.2.2.1 v34.2.2.2.1 v34.2.2.2.2 rK rA rO rW rC rT v3.2.2.2) H := hP
                    have hD : va_D A (wX8 cy h0 sa pa ka aa oa wa ca ta na mOp mIk v34.2.1 mRu v34.2.2.1 mTy v3.2.1 s22.2.2.2.1 1 y48 s22.2.2.2.2.2.2.2.1 v3.2.2.1 v34.2.2.2.1 v34.2.2.2.2 rK rA rO rW rC rT v3.2.2.2) := hD
                    refine lv_aload_n hx hb dX8_plays_111 rfl (lv_at hl 3 rfl) ?_
                    refine lv_dup hx hb dX8_plays_112 rfl ?_
                    refine va_get (D := D) (ci := 5) (v := .int s22.2.2.2.2.2.2.2.1) (C := RX8) (T := TX8) (N := 21) hx hb hts in_X8 hown hK hP 0 rfl rfl 18 (by decide) fl183 (fun _ h9 => h9) rfl dX8_plays_113 ?_
                    refine lv_iconst (v := 1) hx hb dX8_plays_116 (by decide) ?_
                    refine lv_iadd hx hb dX8_plays_117 ?_
                    obtain ⟨y49, ey49, hf⟩ := k_L hf
                    refine k_name ey49 ?_
                    refine va_put (D := D) (ci := 5) (v := .int y49) (ty := .int) (C := RX8) (T := TX8) (N := 21) hx hb hts in_X8 tyX8 tyX8_ok nmX8 hown hK hP hD hS 0 rfl rfl 18 (by decide) fl183 (fun _ h9 => h9) rfl (by decide +kernel) rfl rfl (Nat.le_of_ble_eq_true rfl) dX8_plays_118 (fun H locs hP hD hS => ?_)
                    have hP : va_P D vwCl (wX8 cy h0 sa pa ka aa oa wa ca ta na mOp mIk v34.2.1 mRu v34.2.2.1 mTy v3.2.1 s22.2.2.2.1 1 y48 y49 v3.2.2.1 v34.2.2.2.1 v34.2.2.2.2 rK rA rO rW rC rT v3.2.2.2) H := hP
                    have hD : va_D A (wX8 cy h0 sa pa ka aa oa wa ca ta na mOp mIk v34.2.1 mRu v34.2.2.1 mTy v3.2.1 s22.2.2.2.1 1 y48 y49 v3.2.2.1 v34.2.2.2.1 v34.2.2.2.2 rK rA rO rW rC rT v3.2.2.2) := hD
                    refine lv_goto (tgt := 22) hx hb dX8_plays_121 (by decide) ?_
                    obtain rfl := k_some hf
                    exact ih mOp mIk mRu mTy rK rA rO rW rC rT (0, v34.2.1, v34.2.2.1, v3.2.1, s22.2.2.2.1, 1, y48, y49, v3.2.2.1, v34.2.2.2.1, v34.2.2.2.2, v3.2.2.2) q (k_inl hq) ls H locs (lv_sub hl [3, 0] rfl) hP hD hS kx 
                  · have hf := k_F c47 hf
                    refine lv_iload_n hx hb dX8_plays_95 rfl (lv_at hl 1 rfl) ?_
                    refine lv_goto (tgt := 108) hx hb dX8_plays_96 (by decide) ?_
                    refine va_put (D := D) (ci := 5) (v := .int v34.1) (ty := .int) (C := RX8) (T := TX8) (N := 21) hx hb hts in_X8 tyX8 tyX8_ok nmX8 hown hK hP hD hS 0 rfl rfl 17 (by decide) fl194 (fun _ h9 => h9) rfl (by decide +kernel) rfl rfl (Nat.le_of_ble_eq_true rfl) dX8_plays_108 (fun H locs hP hD hS => ?_)
                    have hP : va_P D vwCl (wX8 cy h0 sa pa ka aa oa wa ca ta na mOp mIk v34.2.1 mRu v34.2.2.1 mTy v3.2.1 s22.2.2.2.1 1 v34.1 s22.2.2.2.2.2.2.2.1 v3.2.2.1 v34.2.2.2.1 v34.2.2.2.2 rK rA rO rW rC rT v3.2.2.2) H := hP
                    have hD : va_D A (wX8 cy h0 sa pa ka aa oa wa ca ta na mOp mIk v34.2.1 mRu v34.2.2.1 mTy v3.2.1 s22.2.2.2.1 1 v34.1 s22.2.2.2.2.2.2.2.1 v3.2.2.1 v34.2.2.2.1 v34.2.2.2.2 rK rA rO rW rC rT v3.2.2.2) := hD
                    refine lv_aload_n hx hb dX8_plays_111 rfl (lv_at hl 3 rfl) ?_
                    refine lv_dup hx hb dX8_plays_112 rfl ?_
                    refine va_get (D := D) (ci := 5) (v := .int s22.2.2.2.2.2.2.2.1) (C := RX8) (T := TX8) (N := 21) hx hb hts in_X8 hown hK hP 0 rfl rfl 18 (by decide) fl183 (fun _ h9 => h9) rfl dX8_plays_113 ?_
                    refine lv_iconst (v := 1) hx hb dX8_plays_116 (by decide) ?_
                    refine lv_iadd hx hb dX8_plays_117 ?_
                    obtain ⟨y50, ey50, hf⟩ := k_L hf
                    refine k_name ey50 ?_
                    refine va_put (D := D) (ci := 5) (v := .int y50) (ty := .int) (C := RX8) (T := TX8) (N := 21) hx hb hts in_X8 tyX8 tyX8_ok nmX8 hown hK hP hD hS 0 rfl rfl 18 (by decide) fl183 (fun _ h9 => h9) rfl (by decide +kernel) rfl rfl (Nat.le_of_ble_eq_true rfl) dX8_plays_118 (fun H locs hP hD hS => ?_)
                    have hP : va_P D vwCl (wX8 cy h0 sa pa ka aa oa wa ca ta na mOp mIk v34.2.1 mRu v34.2.2.1 mTy v3.2.1 s22.2.2.2.1 1 v34.1 y50 v3.2.2.1 v34.2.2.2.1 v34.2.2.2.2 rK rA rO rW rC rT v3.2.2.2) H := hP
                    have hD : va_D A (wX8 cy h0 sa pa ka aa oa wa ca ta na mOp mIk v34.2.1 mRu v34.2.2.1 mTy v3.2.1 s22.2.2.2.1 1 v34.1 y50 v3.2.2.1 v34.2.2.2.1 v34.2.2.2.2 rK rA rO rW rC rT v3.2.2.2) := hD
                    refine lv_goto (tgt := 22) hx hb dX8_plays_121 (by decide) ?_
                    obtain rfl := k_some hf
                    exact ih mOp mIk mRu mTy rK rA rO rW rC rT (0, v34.2.1, v34.2.2.1, v3.2.1, s22.2.2.2.1, 1, v34.1, y50, v3.2.2.1, v34.2.2.2.1, v34.2.2.2.2, v3.2.2.2) q (k_inl hq) ls H locs (lv_sub hl [3, 0] rfl) hP hD hS kx 
                · have hf := k_F c46 hf
                  refine lv_iconst (v := 2) hx hb dX8_plays_82 (by decide) ?_
                  refine lv_goto (tgt := 87) hx hb dX8_plays_83 (by decide) ?_
                  refine va_put (D := D) (ci := 5) (v := .int 2) (ty := .int) (C := RX8) (T := TX8) (N := 21) hx hb hts in_X8 tyX8 tyX8_ok nmX8 hown hK hP hD hS 0 rfl rfl 16 (by decide) fl192 (fun _ h9 => h9) rfl (by decide +kernel) rfl rfl (Nat.le_of_ble_eq_true rfl) dX8_plays_87 (fun H locs hP hD hS => ?_)
                  have hP : va_P D vwCl (wX8 cy h0 sa pa ka aa oa wa ca ta na mOp mIk v34.2.1 mRu v34.2.2.1 mTy v3.2.1 s22.2.2.2.1 2 s22.2.2.2.2.2.2.1 s22.2.2.2.2.2.2.2.1 v3.2.2.1 v34.2.2.2.1 v34.2.2.2.2 rK rA rO rW rC rT v3.2.2.2) H := hP
                  have hD : va_D A (wX8 cy h0 sa pa ka aa oa wa ca ta na mOp mIk v34.2.1 mRu v34.2.2.1 mTy v3.2.1 s22.2.2.2.1 2 s22.2.2.2.2.2.2.1 s22.2.2.2.2.2.2.2.1 v3.2.2.1 v34.2.2.2.1 v34.2.2.2.2 rK rA rO rW rC rT v3.2.2.2) := hD
                  refine lv_aload_n hx hb dX8_plays_90 rfl (lv_at hl 3 rfl) ?_
                  refine lv_iload_n hx hb dX8_plays_91 rfl (lv_at hl 2 rfl) ?_
                  refine lv_if_eq (tgt := 99) hx hb dX8_plays_92 (by decide) (fun c51 => ?_) (fun c51 => ?_)
                  · have hf := k_T c51 hf
                    refine lv_aload_n hx hb dX8_plays_99 rfl (lv_at hl 3 rfl) ?_
                    refine va_get (D := D) (ci := 5) (v := .int v3.2.1) (C := RX8) (T := TX8) (N := 21) hx hb hts in_X8 hown hK hP 0 rfl rfl 14 (by decide) fl159 (fun _ h9 => h9) rfl dX8_plays_100 ?_
                    refine lv_aload_n hx hb dX8_plays_103 rfl (lv_at hl 3 rfl) ?_
                    refine va_get (D := D) (ci := 5) (v := .int s22.2.2.2.1) (C := RX8) (T := TX8) (N := 21) hx hb hts in_X8 hown hK hP 0 rfl rfl 15 (by decide) fl180 (fun _ h9 => h9) rfl dX8_plays_104 ?_
                    refine lv_isub hx hb dX8_plays_107 ?_
                    obtain ⟨y52, ey52, hf⟩ := k_L hf
                    refine k_name ey52 ?_
                    refine va_put (D := D) (ci := 5) (v := .int y52) (ty := .int) (C := RX8) (T := TX8) (N := 21) hx hb hts in_X8 tyX8 tyX8_ok nmX8 hown hK hP hD hS 0 rfl rfl 17 (by decide) fl194 (fun _ h9 => h9) rfl (by decide +kernel) rfl rfl (Nat.le_of_ble_eq_true rfl) dX8_plays_108 (fun H locs hP hD hS => ?_)
                    have hP : va_P D vwCl (wX8 cy h0 sa pa ka aa oa wa ca ta na mOp mIk v34.2.1 mRu v34.2.2.1 mTy v3.2.1 s22.2.2.2.1 2 y52 s22.2.2.2.2.2.2.2.1 v3.2.2.1 v34.2.2.2.1 v34.2.2.2.2 rK rA rO rW rC rT v3.2.2.2) H := hP
                    have hD : va_D A (wX8 cy h0 sa pa ka aa oa wa ca ta na mOp mIk v34.2.1 mRu v34.2.2.1 mTy v3.2.1 s22.2.2.2.1 2 y52 s22.2.2.2.2.2.2.2.1 v3.2.2.1 v34.2.2.2.1 v34.2.2.2.2 rK rA rO rW rC rT v3.2.2.2) := hD
                    refine lv_aload_n hx hb dX8_plays_111 rfl (lv_at hl 3 rfl) ?_
                    refine lv_dup hx hb dX8_plays_112 rfl ?_
                    refine va_get (D := D) (ci := 5) (v := .int s22.2.2.2.2.2.2.2.1) (C := RX8) (T := TX8) (N := 21) hx hb hts in_X8 hown hK hP 0 rfl rfl 18 (by decide) fl183 (fun _ h9 => h9) rfl dX8_plays_113 ?_
                    refine lv_iconst (v := 1) hx hb dX8_plays_116 (by decide) ?_
                    refine lv_iadd hx hb dX8_plays_117 ?_
                    obtain ⟨y53, ey53, hf⟩ := k_L hf
                    refine k_name ey53 ?_
                    refine va_put (D := D) (ci := 5) (v := .int y53) (ty := .int) (C := RX8) (T := TX8) (N := 21) hx hb hts in_X8 tyX8 tyX8_ok nmX8 hown hK hP hD hS 0 rfl rfl 18 (by decide) fl183 (fun _ h9 => h9) rfl (by decide +kernel) rfl rfl (Nat.le_of_ble_eq_true rfl) dX8_plays_118 (fun H locs hP hD hS => ?_)
                    have hP : va_P D vwCl (wX8 cy h0 sa pa ka aa oa wa ca ta na mOp mIk v34.2.1 mRu v34.2.2.1 mTy v3.2.1 s22.2.2.2.1 2 y52 y53 v3.2.2.1 v34.2.2.2.1 v34.2.2.2.2 rK rA rO rW rC rT v3.2.2.2) H := hP
                    have hD : va_D A (wX8 cy h0 sa pa ka aa oa wa ca ta na mOp mIk v34.2.1 mRu v34.2.2.1 mTy v3.2.1 s22.2.2.2.1 2 y52 y53 v3.2.2.1 v34.2.2.2.1 v34.2.2.2.2 rK rA rO rW rC rT v3.2.2.2) := hD
                    refine lv_goto (tgt := 22) hx hb dX8_plays_121 (by decide) ?_
                    obtain rfl := k_some hf
                    exact ih mOp mIk mRu mTy rK rA rO rW rC rT (0, v34.2.1, v34.2.2.1, v3.2.1, s22.2.2.2.1, 2, y52, y53, v3.2.2.1, v34.2.2.2.1, v34.2.2.2.2, v3.2.2.2) q (k_inl hq) ls H locs (lv_sub hl [3, 0] rfl) hP hD hS kx 
                  · have hf := k_F c51 hf
                    refine lv_iload_n hx hb dX8_plays_95 rfl (lv_at hl 1 rfl) ?_
                    refine lv_goto (tgt := 108) hx hb dX8_plays_96 (by decide) ?_
                    refine va_put (D := D) (ci := 5) (v := .int v34.1) (ty := .int) (C := RX8) (T := TX8) (N := 21) hx hb hts in_X8 tyX8 tyX8_ok nmX8 hown hK hP hD hS 0 rfl rfl 17 (by decide) fl194 (fun _ h9 => h9) rfl (by decide +kernel) rfl rfl (Nat.le_of_ble_eq_true rfl) dX8_plays_108 (fun H locs hP hD hS => ?_)
                    have hP : va_P D vwCl (wX8 cy h0 sa pa ka aa oa wa ca ta na mOp mIk v34.2.1 mRu v34.2.2.1 mTy v3.2.1 s22.2.2.2.1 2 v34.1 s22.2.2.2.2.2.2.2.1 v3.2.2.1 v34.2.2.2.1 v34.2.2.2.2 rK rA rO rW rC rT v3.2.2.2) H := hP
                    have hD : va_D A (wX8 cy h0 sa pa ka aa oa wa ca ta na mOp mIk v34.2.1 mRu v34.2.2.1 mTy v3.2.1 s22.2.2.2.1 2 v34.1 s22.2.2.2.2.2.2.2.1 v3.2.2.1 v34.2.2.2.1 v34.2.2.2.2 rK rA rO rW rC rT v3.2.2.2) := hD
                    refine lv_aload_n hx hb dX8_plays_111 rfl (lv_at hl 3 rfl) ?_
                    refine lv_dup hx hb dX8_plays_112 rfl ?_
                    refine va_get (D := D) (ci := 5) (v := .int s22.2.2.2.2.2.2.2.1) (C := RX8) (T := TX8) (N := 21) hx hb hts in_X8 hown hK hP 0 rfl rfl 18 (by decide) fl183 (fun _ h9 => h9) rfl dX8_plays_113 ?_
                    refine lv_iconst (v := 1) hx hb dX8_plays_116 (by decide) ?_
                    refine lv_iadd hx hb dX8_plays_117 ?_
                    obtain ⟨y54, ey54, hf⟩ := k_L hf
                    refine k_name ey54 ?_
                    refine va_put (D := D) (ci := 5) (v := .int y54) (ty := .int) (C := RX8) (T := TX8) (N := 21) hx hb hts in_X8 tyX8 tyX8_ok nmX8 hown hK hP hD hS 0 rfl rfl 18 (by decide) fl183 (fun _ h9 => h9) rfl (by decide +kernel) rfl rfl (Nat.le_of_ble_eq_true rfl) dX8_plays_118 (fun H locs hP hD hS => ?_)
                    have hP : va_P D vwCl (wX8 cy h0 sa pa ka aa oa wa ca ta na mOp mIk v34.2.1 mRu v34.2.2.1 mTy v3.2.1 s22.2.2.2.1 2 v34.1 y54 v3.2.2.1 v34.2.2.2.1 v34.2.2.2.2 rK rA rO rW rC rT v3.2.2.2) H := hP
                    have hD : va_D A (wX8 cy h0 sa pa ka aa oa wa ca ta na mOp mIk v34.2.1 mRu v34.2.2.1 mTy v3.2.1 s22.2.2.2.1 2 v34.1 y54 v3.2.2.1 v34.2.2.2.1 v34.2.2.2.2 rK rA rO rW rC rT v3.2.2.2) := hD
                    refine lv_goto (tgt := 22) hx hb dX8_plays_121 (by decide) ?_
                    obtain rfl := k_some hf
                    exact ih mOp mIk mRu mTy rK rA rO rW rC rT (0, v34.2.1, v34.2.2.1, v3.2.1, s22.2.2.2.1, 2, v34.1, y54, v3.2.2.1, v34.2.2.2.1, v34.2.2.2.2, v3.2.2.2) q (k_inl hq) ls H locs (lv_sub hl [3, 0] rfl) hP hD hS kx 
              · have hf := k_T c45 hf
                refine lv_iconst (v := 1) hx hb dX8_plays_71 (by decide) ?_
                refine lv_goto (tgt := 76) hx hb dX8_plays_72 (by decide) ?_
                refine lv_istore_n (lv' := [(1, .int 1), (3, .int v34.1), (2, .int v3.1), (0, .ref h0)]) hx hb dX8_plays_76 rfl hl (by decide) rfl (fun ls hl => ?_)
                refine lv_aload_n hx hb dX8_plays_77 rfl (lv_at hl 3 rfl) ?_
                refine lv_iload_n hx hb dX8_plays_78 rfl (lv_at hl 2 rfl) ?_
                refine lv_if_eq (tgt := 86) hx hb dX8_plays_79 (by decide) (fun c55 => ?_) (fun c55 => ?_)
                · have hf := k_T c55 hf
                  refine lv_iconst (v := 1) hx hb dX8_plays_86 (by decide) ?_
                  refine va_put (D := D) (ci := 5) (v := .int 1) (ty := .int) (C := RX8) (T := TX8) (N := 21) hx hb hts in_X8 tyX8 tyX8_ok nmX8 hown hK hP hD hS 0 rfl rfl 16 (by decide) fl192 (fun _ h9 => h9) rfl (by decide +kernel) rfl rfl (Nat.le_of_ble_eq_true rfl) dX8_plays_87 (fun H locs hP hD hS => ?_)
                  have hP : va_P D vwCl (wX8 cy h0 sa pa ka aa oa wa ca ta na mOp mIk v34.2.1 mRu v34.2.2.1 mTy v3.2.1 s22.2.2.2.1 1 s22.2.2.2.2.2.2.1 s22.2.2.2.2.2.2.2.1 v3.2.2.1 v34.2.2.2.1 v34.2.2.2.2 rK rA rO rW rC rT v3.2.2.2) H := hP
                  have hD : va_D A (wX8 cy h0 sa pa ka aa oa wa ca ta na mOp mIk v34.2.1 mRu v34.2.2.1 mTy v3.2.1 s22.2.2.2.1 1 s22.2.2.2.2.2.2.1 s22.2.2.2.2.2.2.2.1 v3.2.2.1 v34.2.2.2.1 v34.2.2.2.2 rK rA rO rW rC rT v3.2.2.2) := hD
                  refine lv_aload_n hx hb dX8_plays_90 rfl (lv_at hl 3 rfl) ?_
                  refine lv_iload_n hx hb dX8_plays_91 rfl (lv_at hl 2 rfl) ?_
                  refine lv_if_eq (tgt := 99) hx hb dX8_plays_92 (by decide) (fun c56 => ?_) (fun c56 => ?_)
                  · have hf := k_T c56 hf
                    refine lv_aload_n hx hb dX8_plays_99 rfl (lv_at hl 3 rfl) ?_
                    refine va_get (D := D) (ci := 5) (v := .int v3.2.1) (C := RX8) (T := TX8) (N := 21) hx hb hts in_X8 hown hK hP 0 rfl rfl 14 (by decide) fl159 (fun _ h9 => h9) rfl dX8_plays_100 ?_
                    refine lv_aload_n hx hb dX8_plays_103 rfl (lv_at hl 3 rfl) ?_
                    refine va_get (D := D) (ci := 5) (v := .int s22.2.2.2.1) (C := RX8) (T := TX8) (N := 21) hx hb hts in_X8 hown hK hP 0 rfl rfl 15 (by decide) fl180 (fun _ h9 => h9) rfl dX8_plays_104 ?_
                    refine lv_isub hx hb dX8_plays_107 ?_
                    obtain ⟨y57, ey57, hf⟩ := k_L hf
                    refine k_name ey57 ?_
                    refine va_put (D := D) (ci := 5) (v := .int y57) (ty := .int) (C := RX8) (T := TX8) (N := 21) hx hb hts in_X8 tyX8 tyX8_ok nmX8 hown hK hP hD hS 0 rfl rfl 17 (by decide) fl194 (fun _ h9 => h9) rfl (by decide +kernel) rfl rfl (Nat.le_of_ble_eq_true rfl) dX8_plays_108 (fun H locs hP hD hS => ?_)
                    have hP : va_P D vwCl (wX8 cy h0 sa pa ka aa oa wa ca ta na mOp mIk v34.2.1 mRu v34.2.2.1 mTy v3.2.1 s22.2.2.2.1 1 y57 s22.2.2.2.2.2.2.2.1 v3.2.2.1 v34.2.2.2.1 v34.2.2.2.2 rK rA rO rW rC rT v3.2.2.2) H := hP
                    have hD : va_D A (wX8 cy h0 sa pa ka aa oa wa ca ta na mOp mIk v34.2.1 mRu v34.2.2.1 mTy v3.2.1 s22.2.2.2.1 1 y57 s22.2.2.2.2.2.2.2.1 v3.2.2.1 v34.2.2.2.1 v34.2.2.2.2 rK rA rO rW rC rT v3.2.2.2) := hD
                    refine lv_aload_n hx hb dX8_plays_111 rfl (lv_at hl 3 rfl) ?_
                    refine lv_dup hx hb dX8_plays_112 rfl ?_
                    refine va_get (D := D) (ci := 5) (v := .int s22.2.2.2.2.2.2.2.1) (C := RX8) (T := TX8) (N := 21) hx hb hts in_X8 hown hK hP 0 rfl rfl 18 (by decide) fl183 (fun _ h9 => h9) rfl dX8_plays_113 ?_
                    refine lv_iconst (v := 1) hx hb dX8_plays_116 (by decide) ?_
                    refine lv_iadd hx hb dX8_plays_117 ?_
                    obtain ⟨y58, ey58, hf⟩ := k_L hf
                    refine k_name ey58 ?_
                    refine va_put (D := D) (ci := 5) (v := .int y58) (ty := .int) (C := RX8) (T := TX8) (N := 21) hx hb hts in_X8 tyX8 tyX8_ok nmX8 hown hK hP hD hS 0 rfl rfl 18 (by decide) fl183 (fun _ h9 => h9) rfl (by decide +kernel) rfl rfl (Nat.le_of_ble_eq_true rfl) dX8_plays_118 (fun H locs hP hD hS => ?_)
                    have hP : va_P D vwCl (wX8 cy h0 sa pa ka aa oa wa ca ta na mOp mIk v34.2.1 mRu v34.2.2.1 mTy v3.2.1 s22.2.2.2.1 1 y57 y58 v3.2.2.1 v34.2.2.2.1 v34.2.2.2.2 rK rA rO rW rC rT v3.2.2.2) H := hP
                    have hD : va_D A (wX8 cy h0 sa pa ka aa oa wa ca ta na mOp mIk v34.2.1 mRu v34.2.2.1 mTy v3.2.1 s22.2.2.2.1 1 y57 y58 v3.2.2.1 v34.2.2.2.1 v34.2.2.2.2 rK rA rO rW rC rT v3.2.2.2) := hD
                    refine lv_goto (tgt := 22) hx hb dX8_plays_121 (by decide) ?_
                    obtain rfl := k_some hf
                    exact ih mOp mIk mRu mTy rK rA rO rW rC rT (1, v34.2.1, v34.2.2.1, v3.2.1, s22.2.2.2.1, 1, y57, y58, v3.2.2.1, v34.2.2.2.1, v34.2.2.2.2, v3.2.2.2) q (k_inl hq) ls H locs (lv_sub hl [3, 0] rfl) hP hD hS kx 
                  · have hf := k_F c56 hf
                    refine lv_iload_n hx hb dX8_plays_95 rfl (lv_at hl 1 rfl) ?_
                    refine lv_goto (tgt := 108) hx hb dX8_plays_96 (by decide) ?_
                    refine va_put (D := D) (ci := 5) (v := .int v34.1) (ty := .int) (C := RX8) (T := TX8) (N := 21) hx hb hts in_X8 tyX8 tyX8_ok nmX8 hown hK hP hD hS 0 rfl rfl 17 (by decide) fl194 (fun _ h9 => h9) rfl (by decide +kernel) rfl rfl (Nat.le_of_ble_eq_true rfl) dX8_plays_108 (fun H locs hP hD hS => ?_)
                    have hP : va_P D vwCl (wX8 cy h0 sa pa ka aa oa wa ca ta na mOp mIk v34.2.1 mRu v34.2.2.1 mTy v3.2.1 s22.2.2.2.1 1 v34.1 s22.2.2.2.2.2.2.2.1 v3.2.2.1 v34.2.2.2.1 v34.2.2.2.2 rK rA rO rW rC rT v3.2.2.2) H := hP
                    have hD : va_D A (wX8 cy h0 sa pa ka aa oa wa ca ta na mOp mIk v34.2.1 mRu v34.2.2.1 mTy v3.2.1 s22.2.2.2.1 1 v34.1 s22.2.2.2.2.2.2.2.1 v3.2.2.1 v34.2.2.2.1 v34.2.2.2.2 rK rA rO rW rC rT v3.2.2.2) := hD
                    refine lv_aload_n hx hb dX8_plays_111 rfl (lv_at hl 3 rfl) ?_
                    refine lv_dup hx hb dX8_plays_112 rfl ?_
                    refine va_get (D := D) (ci := 5) (v := .int s22.2.2.2.2.2.2.2.1) (C := RX8) (T := TX8) (N := 21) hx hb hts in_X8 hown hK hP 0 rfl rfl 18 (by decide) fl183 (fun _ h9 => h9) rfl dX8_plays_113 ?_
                    refine lv_iconst (v := 1) hx hb dX8_plays_116 (by decide) ?_
                    refine lv_iadd hx hb dX8_plays_117 ?_
                    obtain ⟨y59, ey59, hf⟩ := k_L hf
                    refine k_name ey59 ?_
                    refine va_put (D := D) (ci := 5) (v := .int y59) (ty := .int) (C := RX8) (T := TX8) (N := 21) hx hb hts in_X8 tyX8 tyX8_ok nmX8 hown hK hP hD hS 0 rfl rfl 18 (by decide) fl183 (fun _ h9 => h9) rfl (by decide +kernel) rfl rfl (Nat.le_of_ble_eq_true rfl) dX8_plays_118 (fun H locs hP hD hS => ?_)
                    have hP : va_P D vwCl (wX8 cy h0 sa pa ka aa oa wa ca ta na mOp mIk v34.2.1 mRu v34.2.2.1 mTy v3.2.1 s22.2.2.2.1 1 v34.1 y59 v3.2.2.1 v34.2.2.2.1 v34.2.2.2.2 rK rA rO rW rC rT v3.2.2.2) H := hP
                    have hD : va_D A (wX8 cy h0 sa pa ka aa oa wa ca ta na mOp mIk v34.2.1 mRu v34.2.2.1 mTy v3.2.1 s22.2.2.2.1 1 v34.1 y59 v3.2.2.1 v34.2.2.2.1 v34.2.2.2.2 rK rA rO rW rC rT v3.2.2.2) := hD
                    refine lv_goto (tgt := 22) hx hb dX8_plays_121 (by decide) ?_
                    obtain rfl := k_some hf
                    exact ih mOp mIk mRu mTy rK rA rO rW rC rT (1, v34.2.1, v34.2.2.1, v3.2.1, s22.2.2.2.1, 1, v34.1, y59, v3.2.2.1, v34.2.2.2.1, v34.2.2.2.2, v3.2.2.2) q (k_inl hq) ls H locs (lv_sub hl [3, 0] rfl) hP hD hS kx 
                · have hf := k_F c55 hf
                  refine lv_iconst (v := 2) hx hb dX8_plays_82 (by decide) ?_
                  refine lv_goto (tgt := 87) hx hb dX8_plays_83 (by decide) ?_
                  refine va_put (D := D) (ci := 5) (v := .int 2) (ty := .int) (C := RX8) (T := TX8) (N := 21) hx hb hts in_X8 tyX8 tyX8_ok nmX8 hown hK hP hD hS 0 rfl rfl 16 (by decide) fl192 (fun _ h9 => h9) rfl (by decide +kernel) rfl rfl (Nat.le_of_ble_eq_true rfl) dX8_plays_87 (fun H locs hP hD hS => ?_)
                  have hP : va_P D vwCl (wX8 cy h0 sa pa ka aa oa wa ca ta na mOp mIk v34.2.1 mRu v34.2.2.1 mTy v3.2.1 s22.2.2.2.1 2 s22.2.2.2.2.2.2.1 s22.2.2.2.2.2.2.2.1 v3.2.2.1 v34.2.2.2.1 v34.2.2.2.2 rK rA rO rW rC rT v3.2.2.2) H := hP
                  have hD : va_D A (wX8 cy h0 sa pa ka aa oa wa ca ta na mOp mIk v34.2.1 mRu v34.2.2.1 mTy v3.2.1 s22.2.2.2.1 2 s22.2.2.2.2.2.2.1 s22.2.2.2.2.2.2.2.1 v3.2.2.1 v34.2.2.2.1 v34.2.2.2.2 rK rA rO rW rC rT v3.2.2.2) := hD
                  refine lv_aload_n hx hb dX8_plays_90 rfl (lv_at hl 3 rfl) ?_
                  refine lv_iload_n hx hb dX8_plays_91 rfl (lv_at hl 2 rfl) ?_
                  refine lv_if_eq (tgt := 99) hx hb dX8_plays_92 (by decide) (fun c60 => ?_) (fun c60 => ?_)
                  · have hf := k_T c60 hf
                    refine lv_aload_n hx hb dX8_plays_99 rfl (lv_at hl 3 rfl) ?_
                    refine va_get (D := D) (ci := 5) (v := .int v3.2.1) (C := RX8) (T := TX8) (N := 21) hx hb hts in_X8 hown hK hP 0 rfl rfl 14 (by decide) fl159 (fun _ h9 => h9) rfl dX8_plays_100 ?_
                    refine lv_aload_n hx hb dX8_plays_103 rfl (lv_at hl 3 rfl) ?_
                    refine va_get (D := D) (ci := 5) (v := .int s22.2.2.2.1) (C := RX8) (T := TX8) (N := 21) hx hb hts in_X8 hown hK hP 0 rfl rfl 15 (by decide) fl180 (fun _ h9 => h9) rfl dX8_plays_104 ?_
                    refine lv_isub hx hb dX8_plays_107 ?_
                    obtain ⟨y61, ey61, hf⟩ := k_L hf
                    refine k_name ey61 ?_
                    refine va_put (D := D) (ci := 5) (v := .int y61) (ty := .int) (C := RX8) (T := TX8) (N := 21) hx hb hts in_X8 tyX8 tyX8_ok nmX8 hown hK hP hD hS 0 rfl rfl 17 (by decide) fl194 (fun _ h9 => h9) rfl (by decide +kernel) rfl rfl (Nat.le_of_ble_eq_true rfl) dX8_plays_108 (fun H locs hP hD hS => ?_)
                    have hP : va_P D vwCl (wX8 cy h0 sa pa ka aa oa wa ca ta na mOp mIk v34.2.1 mRu v34.2.2.1 mTy v3.2.1 s22.2.2.2.1 2 y61 s22.2.2.2.2.2.2.2.1 v3.2.2.1 v34.2.2.2.1 v34.2.2.2.2 rK rA rO rW rC rT v3.2.2.2) H := hP
                    have hD : va_D A (wX8 cy h0 sa pa ka aa oa wa ca ta na mOp mIk v34.2.1 mRu v34.2.2.1 mTy v3.2.1 s22.2.2.2.1 2 y61 s22.2.2.2.2.2.2.2.1 v3.2.2.1 v34.2.2.2.1 v34.2.2.2.2 rK rA rO rW rC rT v3.2.2.2) := hD
                    refine lv_aload_n hx hb dX8_plays_111 rfl (lv_at hl 3 rfl) ?_
                    refine lv_dup hx hb dX8_plays_112 rfl ?_
                    refine va_get (D := D) (ci := 5) (v := .int s22.2.2.2.2.2.2.2.1) (C := RX8) (T := TX8) (N := 21) hx hb hts in_X8 hown hK hP 0 rfl rfl 18 (by decide) fl183 (fun _ h9 => h9) rfl dX8_plays_113 ?_
                    refine lv_iconst (v := 1) hx hb dX8_plays_116 (by decide) ?_
                    refine lv_iadd hx hb dX8_plays_117 ?_
                    obtain ⟨y62, ey62, hf⟩ := k_L hf
                    refine k_name ey62 ?_
                    refine va_put (D := D) (ci := 5) (v := .int y62) (ty := .int) (C := RX8) (T := TX8) (N := 21) hx hb hts in_X8 tyX8 tyX8_ok nmX8 hown hK hP hD hS 0 rfl rfl 18 (by decide) fl183 (fun _ h9 => h9) rfl (by decide +kernel) rfl rfl (Nat.le_of_ble_eq_true rfl) dX8_plays_118 (fun H locs hP hD hS => ?_)
                    have hP : va_P D vwCl (wX8 cy h0 sa pa ka aa oa wa ca ta na mOp mIk v34.2.1 mRu v34.2.2.1 mTy v3.2.1 s22.2.2.2.1 2 y61 y62 v3.2.2.1 v34.2.2.2.1 v34.2.2.2.2 rK rA rO rW rC rT v3.2.2.2) H := hP
                    have hD : va_D A (wX8 cy h0 sa pa ka aa oa wa ca ta na mOp mIk v34.2.1 mRu v34.2.2.1 mTy v3.2.1 s22.2.2.2.1 2 y61 y62 v3.2.2.1 v34.2.2.2.1 v34.2.2.2.2 rK rA rO rW rC rT v3.2.2.2) := hD
                    refine lv_goto (tgt := 22) hx hb dX8_plays_121 (by decide) ?_
                    obtain rfl := k_some hf
                    exact ih mOp mIk mRu mTy rK rA rO rW rC rT (1, v34.2.1, v34.2.2.1, v3.2.1, s22.2.2.2.1, 2, y61, y62, v3.2.2.1, v34.2.2.2.1, v34.2.2.2.2, v3.2.2.2) q (k_inl hq) ls H locs (lv_sub hl [3, 0] rfl) hP hD hS kx 
                  · have hf := k_F c60 hf
                    refine lv_iload_n hx hb dX8_plays_95 rfl (lv_at hl 1 rfl) ?_
                    refine lv_goto (tgt := 108) hx hb dX8_plays_96 (by decide) ?_
                    refine va_put (D := D) (ci := 5) (v := .int v34.1) (ty := .int) (C := RX8) (T := TX8) (N := 21) hx hb hts in_X8 tyX8 tyX8_ok nmX8 hown hK hP hD hS 0 rfl rfl 17 (by decide) fl194 (fun _ h9 => h9) rfl (by decide +kernel) rfl rfl (Nat.le_of_ble_eq_true rfl) dX8_plays_108 (fun H locs hP hD hS => ?_)
                    have hP : va_P D vwCl (wX8 cy h0 sa pa ka aa oa wa ca ta na mOp mIk v34.2.1 mRu v34.2.2.1 mTy v3.2.1 s22.2.2.2.1 2 v34.1 s22.2.2.2.2.2.2.2.1 v3.2.2.1 v34.2.2.2.1 v34.2.2.2.2 rK rA rO rW rC rT v3.2.2.2) H := hP
                    have hD : va_D A (wX8 cy h0 sa pa ka aa oa wa ca ta na mOp mIk v34.2.1 mRu v34.2.2.1 mTy v3.2.1 s22.2.2.2.1 2 v34.1 s22.2.2.2.2.2.2.2.1 v3.2.2.1 v34.2.2.2.1 v34.2.2.2.2 rK rA rO rW rC rT v3.2.2.2) := hD
                    refine lv_aload_n hx hb dX8_plays_111 rfl (lv_at hl 3 rfl) ?_
                    refine lv_dup hx hb dX8_plays_112 rfl ?_
                    refine va_get (D := D) (ci := 5) (v := .int s22.2.2.2.2.2.2.2.1) (C := RX8) (T := TX8) (N := 21) hx hb hts in_X8 hown hK hP 0 rfl rfl 18 (by decide) fl183 (fun _ h9 => h9) rfl dX8_plays_113 ?_
                    refine lv_iconst (v := 1) hx hb dX8_plays_116 (by decide) ?_
                    refine lv_iadd hx hb dX8_plays_117 ?_
                    obtain ⟨y63, ey63, hf⟩ := k_L hf
                    refine k_name ey63 ?_
                    refine va_put (D := D) (ci := 5) (v := .int y63) (ty := .int) (C := RX8) (T := TX8) (N := 21) hx hb hts in_X8 tyX8 tyX8_ok nmX8 hown hK hP hD hS 0 rfl rfl 18 (by decide) fl183 (fun _ h9 => h9) rfl (by decide +kernel) rfl rfl (Nat.le_of_ble_eq_true rfl) dX8_plays_118 (fun H locs hP hD hS => ?_)
                    have hP : va_P D vwCl (wX8 cy h0 sa pa ka aa oa wa ca ta na mOp mIk v34.2.1 mRu v34.2.2.1 mTy v3.2.1 s22.2.2.2.1 2 v34.1 y63 v3.2.2.1 v34.2.2.2.1 v34.2.2.2.2 rK rA rO rW rC rT v3.2.2.2) H := hP
                    have hD : va_D A (wX8 cy h0 sa pa ka aa oa wa ca ta na mOp mIk v34.2.1 mRu v34.2.2.1 mTy v3.2.1 s22.2.2.2.1 2 v34.1 y63 v3.2.2.1 v34.2.2.2.1 v34.2.2.2.2 rK rA rO rW rC rT v3.2.2.2) := hD
                    refine lv_goto (tgt := 22) hx hb dX8_plays_121 (by decide) ?_
                    obtain rfl := k_some hf
                    exact ih mOp mIk mRu mTy rK rA rO rW rC rT (1, v34.2.1, v34.2.2.1, v3.2.1, s22.2.2.2.1, 2, v34.1, y63, v3.2.2.1, v34.2.2.2.1, v34.2.2.2.2, v3.2.2.2) q (k_inl hq) ls H locs (lv_sub hl [3, 0] rfl) hP hD hS kx 
  unfold f_X8_plays at hf
  obtain ⟨H, eH⟩ : ∃ H, H = s.heap := ⟨_, rfl⟩
  obtain ⟨locs, elocs⟩ : ∃ L : List Loc, L = [] := ⟨_, rfl⟩
  have hP : va_P D vwCl (wX8 cy h0 sa pa ka aa oa wa ca ta na mOp mIk mPa mRu mLa mTy mSp mFr mRe mCa mOr mLe rS rP rK rA rO rW rC rT rN) H := by rw [eH]; exact hP
  have hS : va_S A s.heap H locs := by rw [eH, elocs]; exact hS
  refine k_here eH elocs ?_
  refine lv_aload_n hx hb dX8_plays_0 rfl (lv_at hl 0 rfl) ?_
  refine lv_iconst (v := 1) hx hb dX8_plays_1 (by decide) ?_
  refine va_put (D := D) (ci := 5) (v := .int 1) (ty := .boolean) (C := RX8) (T := TX8) (N := 21) hx hb hts in_X8 tyX8 tyX8_ok nmX8 hown hK hP hD hS 0 rfl rfl 10 (by decide) fl41 (fun _ h9 => h9) rfl (by decide +kernel) rfl rfl (Nat.le_of_ble_eq_true rfl) dX8_plays_2 (fun H locs hP hD hS => ?_)
  have hP : va_P D vwCl (wX8 cy h0 sa pa ka aa oa wa ca ta na mOp mIk mPa 1 mLa mTy mSp mFr mRe mCa mOr mLe rS rP rK rA rO rW rC rT rN) H := hP
  have hD : va_D A (wX8 cy h0 sa pa ka aa oa wa ca ta na mOp mIk mPa 1 mLa mTy mSp mFr mRe mCa mOr mLe rS rP rK rA rO rW rC rT rN) := hD
  refine lv_aload_n hx hb dX8_plays_5 rfl (lv_at hl 0 rfl) ?_
  refine lv_iconst (v := 0) hx hb dX8_plays_6 (by decide) ?_
  refine va_put (D := D) (ci := 5) (v := .int 0) (ty := .int) (C := RX8) (T := TX8) (N := 21) hx hb hts in_X8 tyX8 tyX8_ok nmX8 hown hK hP hD hS 0 rfl rfl 14 (by decide) fl159 (fun _ h9 => h9) rfl (by decide +kernel) rfl rfl (Nat.le_of_ble_eq_true rfl) dX8_plays_7 (fun H locs hP hD hS => ?_)
  have hP : va_P D vwCl (wX8 cy h0 sa pa ka aa oa wa ca ta na mOp mIk mPa 1 mLa mTy 0 mFr mRe mCa mOr mLe rS rP rK rA rO rW rC rT rN) H := hP
  have hD : va_D A (wX8 cy h0 sa pa ka aa oa wa ca ta na mOp mIk mPa 1 mLa mTy 0 mFr mRe mCa mOr mLe rS rP rK rA rO rW rC rT rN) := hD
  refine lv_aload_n hx hb dX8_plays_10 rfl (lv_at hl 0 rfl) ?_
  refine lv_iconst (v := 0) hx hb dX8_plays_11 (by decide) ?_
  refine va_put (D := D) (ci := 5) (v := .int 0) (ty := .int) (C := RX8) (T := TX8) (N := 21) hx hb hts in_X8 tyX8 tyX8_ok nmX8 hown hK hP hD hS 0 rfl rfl 15 (by decide) fl180 (fun _ h9 => h9) rfl (by decide +kernel) rfl rfl (Nat.le_of_ble_eq_true rfl) dX8_plays_12 (fun H locs hP hD hS => ?_)
  have hP : va_P D vwCl (wX8 cy h0 sa pa ka aa oa wa ca ta na mOp mIk mPa 1 mLa mTy 0 0 mRe mCa mOr mLe rS rP rK rA rO rW rC rT rN) H := hP
  have hD : va_D A (wX8 cy h0 sa pa ka aa oa wa ca ta na mOp mIk mPa 1 mLa mTy 0 0 mRe mCa mOr mLe rS rP rK rA rO rW rC rT rN) := hD
  refine lv_aload_n hx hb dX8_plays_15 rfl (lv_at hl 0 rfl) ?_
  refine lv_iconst (v := 0) hx hb dX8_plays_16 (by decide) ?_
  refine va_put (D := D) (ci := 5) (v := .int 0) (ty := .int) (C := RX8) (T := TX8) (N := 21) hx hb hts in_X8 tyX8 tyX8_ok nmX8 hown hK hP hD hS 0 rfl rfl 18 (by decide) fl183 (fun _ h9 => h9) rfl (by decide +kernel) rfl rfl (Nat.le_of_ble_eq_true rfl) dX8_plays_17 (fun H locs hP hD hS => ?_)
  have hP : va_P D vwCl (wX8 cy h0 sa pa ka aa oa wa ca ta na mOp mIk mPa 1 mLa mTy 0 0 mRe mCa 0 mLe rS rP rK rA rO rW rC rT rN) H := hP
  have hD : va_D A (wX8 cy h0 sa pa ka aa oa wa ca ta na mOp mIk mPa 1 mLa mTy 0 0 mRe mCa 0 mLe rS rP rK rA rO rW rC rT rN) := hD
  refine lv_iconst (v := 1) hx hb dX8_plays_20 (by decide) ?_
  refine lv_istore_n (lv' := [(1, .int 1), (0, .ref h0)]) hx hb dX8_plays_21 rfl hl (by decide) rfl (fun ls hl => ?_)
  obtain ⟨x64, hx64, hf⟩ := k_B hf
  refine L22 _ 1000 mOp mIk 1 mTy rK rA rO rW rC rT (1, mPa, mLa, 0, 0, mRe, mCa, 0, mLe, rS, rP, rN) x64 hx64 ls H locs (lv_sub hl [1, 0] rfl) hP hD hS ?_
  · intro ls H locs _ hl hP hD hS
    refine lv_aload_n hx hb dX8_plays_124 rfl (lv_at hl 0 rfl) ?_
    refine lv_iconst (v := 0) hx hb dX8_plays_125 (by decide) ?_
    refine va_put (D := D) (ci := 5) (v := .int 0) (ty := .boolean) (C := RX8) (T := TX8) (N := 21) hx hb hts in_X8 tyX8 tyX8_ok nmX8 hown hK hP hD hS 0 rfl rfl 10 (by decide) fl41 (fun _ h9 => h9) rfl (by decide +kernel) rfl rfl (Nat.le_of_ble_eq_true rfl) dX8_plays_126 (fun H locs hP hD hS => ?_)
    have hP : va_P D vwCl (wX8 cy h0 sa pa ka aa oa wa ca ta na mOp mIk x64.2.1 0 x64.2.2.1 mTy x64.2.2.2.1 x64.2.2.2.2.1 x64.2.2.2.2.2.1 x64.2.2.2.2.2.2.1 x64.2.2.2.2.2.2.2.1 x64.2.2.2.2.2.2.2.2.1 x64.2.2.2.2.2.2.2.2.2.1 x64.2.2.2.2.2.2.2.2.2.2.1 rK rA rO rW rC rT x64.2.2.2.2.2.2.2.2.2.2.2) H := hP
    have hD : va_D A (wX8 cy h0 sa pa ka aa oa wa ca ta na mOp mIk x64.2.1 0 x64.2.2.1 mTy x64.2.2.2.1 x64.2.2.2.2.1 x64.2.2.2.2.2.1 x64.2.2.2.2.2.2.1 x64.2.2.2.2.2.2.2.1 x64.2.2.2.2.2.2.2.2.1 x64.2.2.2.2.2.2.2.2.2.1 x64.2.2.2.2.2.2.2.2.2.2.1 rK rA rO rW rC rT x64.2.2.2.2.2.2.2.2.2.2.2) := hD
    refine lv_aload_n hx hb dX8_plays_129 rfl (lv_at hl 0 rfl) ?_
    refine lv_iconst (v := 0) hx hb dX8_plays_130 (by decide) ?_
    refine va_put (D := D) (ci := 5) (v := .int 0) (ty := .int) (C := RX8) (T := TX8) (N := 21) hx hb hts in_X8 tyX8 tyX8_ok nmX8 hown hK hP hD hS 0 rfl rfl 11 (by decide) fl37 (fun _ h9 => h9) rfl (by decide +kernel) rfl rfl (Nat.le_of_ble_eq_true rfl) dX8_plays_131 (fun H locs hP hD hS => ?_)
    have hP : va_P D vwCl (wX8 cy h0 sa pa ka aa oa wa ca ta na mOp mIk x64.2.1 0 0 mTy x64.2.2.2.1 x64.2.2.2.2.1 x64.2.2.2.2.2.1 x64.2.2.2.2.2.2.1 x64.2.2.2.2.2.2.2.1 x64.2.2.2.2.2.2.2.2.1 x64.2.2.2.2.2.2.2.2.2.1 x64.2.2.2.2.2.2.2.2.2.2.1 rK rA rO rW rC rT x64.2.2.2.2.2.2.2.2.2.2.2) H := hP
    have hD : va_D A (wX8 cy h0 sa pa ka aa oa wa ca ta na mOp mIk x64.2.1 0 0 mTy x64.2.2.2.1 x64.2.2.2.2.1 x64.2.2.2.2.2.1 x64.2.2.2.2.2.2.1 x64.2.2.2.2.2.2.2.1 x64.2.2.2.2.2.2.2.2.1 x64.2.2.2.2.2.2.2.2.2.1 x64.2.2.2.2.2.2.2.2.2.2.1 rK rA rO rW rC rT x64.2.2.2.2.2.2.2.2.2.2.2) := hD
    refine lv_iload_n hx hb dX8_plays_134 rfl (lv_at hl 1 rfl) ?_
    obtain ⟨rfl, hn⟩ := k_boolR hf
    exact k_zret hx hb hr hn hP hD hS dX8_plays_135 hlocks
def f_X8_fault (n1 : Int32) (mPa : Int32) (mRu : Int32) (mLa : Int32) (mTy : Int32) (mSp : Int32) (mFr : Int32) (mRe : Int32) (mCa : Int32) (mOr : Int32) (mLe : Int32) (rS : Nat → Int32) (rP : Nat → Int32) (rA : Nat → Int32) (rT : Nat → Int32) (rN : Nat → Int32) : Option (Int32 × Int32 × Int32 × Int32 × Int32 × Int32 × Int32 × Int32 × Int32 × Int32 × (Nat → Int32) × (Nat → Int32) × (Nat → Int32) × (Nat → Int32)) :=
  (f_X8_copies rS rA).bind fun v1 =>
  (f_X8_plays mPa mRu mLa mTy mSp mFr mRe mCa mOr mLe rS rP rT rN).bind fun v2 =>
  (f_X8_copies v1 v2.2.2.2.2.2.2.2.2.2.2.1).bind fun v3 =>
  if v2.1 = 0 then
    if n1 = 0 then
      some (v2.2.2.2.2.2.1, v2.2.1, v2.2.2.1, v2.2.2.2.1, v2.2.2.2.2.1, v2.2.2.2.2.2.1, v2.2.2.2.2.2.2.1, v2.2.2.2.2.2.2.2.1, v2.2.2.2.2.2.2.2.2.1, v2.2.2.2.2.2.2.2.2.2.1, v3, v2.2.2.2.2.2.2.2.2.2.2.2.1, v1, v2.2.2.2.2.2.2.2.2.2.2.2.2)
    else
      if n1 = 1 then
        some (v2.2.2.2.2.2.2.1, v2.2.1, v2.2.2.1, v2.2.2.2.1, v2.2.2.2.2.1, v2.2.2.2.2.2.1, v2.2.2.2.2.2.2.1, v2.2.2.2.2.2.2.2.1, v2.2.2.2.2.2.2.2.2.1, v2.2.2.2.2.2.2.2.2.2.1, v3, v2.2.2.2.2.2.2.2.2.2.2.2.1, v1, v2.2.2.2.2.2.2.2.2.2.2.2.2)
      else
        some (v2.2.2.2.2.2.2.2.1, v2.2.1, v2.2.2.1, v2.2.2.2.1, v2.2.2.2.2.1, v2.2.2.2.2.2.1, v2.2.2.2.2.2.2.1, v2.2.2.2.2.2.2.2.1, v2.2.2.2.2.2.2.2.2.1, v2.2.2.2.2.2.2.2.2.2.1, v3, v2.2.2.2.2.2.2.2.2.2.2.2.1, v1, v2.2.2.2.2.2.2.2.2.2.2.2.2)
  else
    (f_X8_fails 1 v2.2.2.2.1).bind fun v7 =>
    some (v7.1, v2.2.1, v2.2.2.1, v7.2, v2.2.2.2.2.1, v2.2.2.2.2.2.1, v2.2.2.2.2.2.2.1, v2.2.2.2.2.2.2.2.1, v2.2.2.2.2.2.2.2.2.1, v2.2.2.2.2.2.2.2.2.2.1, v3, v2.2.2.2.2.2.2.2.2.2.2.2.1, v1, v2.2.2.2.2.2.2.2.2.2.2.2.2)
abbrev rm_X8_fault : Room := { frames := 6, cells := 0, slots := 0, locals := 133 }
theorem hd_X8_fault : yX8_fault.cls = RX8 ∧ yX8_fault.cls ≠ "java/lang/invoke/MethodHandle" ∧ yX8_fault.cls ≠ "java/lang/invoke/VarHandle" ∧ (parseMethodDescriptor yX8_fault.desc).map (fun d => d.parameters.length) = some 1 := by decide +kernel
set_option maxHeartbeats 4000000 in
set_option maxRecDepth 100000 in
theorem c_X8_fault (l : Launch) (D : va_G) (cy : Nat → ClassId) (h0 sa pa ka aa oa wa ca ta na : Nat) (mOp : Int32) (mIk : Int32) (mPa : Int32) (mRu : Int32) (mLa : Int32) (mTy : Int32) (mSp : Int32) (mFr : Int32) (mRe : Int32) (mCa : Int32) (mOr : Int32) (mLe : Int32) (rS : Nat → Int32) (rP : Nat → Int32) (rK : Nat → Int32) (rA : Nat → Int32) (rO : Nat → Int32) (rW : Nat → Int32) (rC : Nat → Int32) (rT : Nat → Int32) (rN : Nat → Int32) (n1 : Int32) (r : Int32 × Int32 × Int32 × Int32 × Int32 × Int32 × Int32 × Int32 × Int32 × Int32 × (Nat → Int32) × (Nat → Int32) × (Nat → Int32) × (Nat → Int32)) (hf : f_X8_fault n1 mPa mRu mLa mTy mSp mFr mRe mCa mOr mLe rS rP rA rT rN = some r) : k_HMet l yX8_fault wsX8_fault rm_X8_fault D (k_tys cy) [.ref h0, .int n1] (wX8 cy h0 sa pa ka aa oa wa ca ta na mOp mIk mPa mRu mLa mTy mSp mFr mRe mCa mOr mLe rS rP rK rA rO rW rC rT rN) (some (.int r.1)) (wX8 cy h0 sa pa ka aa oa wa ca ta na mOp mIk r.2.1 r.2.2.1 r.2.2.2.1 mTy r.2.2.2.2.1 r.2.2.2.2.2.1 r.2.2.2.2.2.2.1 r.2.2.2.2.2.2.2.1 r.2.2.2.2.2.2.2.2.1 r.2.2.2.2.2.2.2.2.2.1 r.2.2.2.2.2.2.2.2.2.2.1 r.2.2.2.2.2.2.2.2.2.2.2.1 rK r.2.2.2.2.2.2.2.2.2.2.2.2.1 rO rW rC rT r.2.2.2.2.2.2.2.2.2.2.2.2.2) := by
  refine k_heapOf (cc := cX8_fault) (maxL := 3) (ret := (some .int)) (by decide) rfl (Nat.le_of_ble_eq_true rfl) ?_
  intro p e s m args below meth c ls A hx hb hr hlocks hml hown hts hl hA hK hP hD hN
  have hl : lv_has ls 3 [(0, .ref h0), (1, .int n1)] := hl
  have hS : va_S A s.heap s.heap [] := va_S.rf
  have in_X8 : ∀ w ∈ wsX80, w ∈ wsX8_fault := by decide +kernel
  have fl7 := hts (.fieldLink RX8 7 "FencedBoxesModel" "s" "[I") (by decide +kernel)
  have fl19 := hts (.fieldLink RX8 19 "FencedBoxesModel" "aside" "[I") (by decide +kernel)
  have fl180 := hts (.fieldLink RX8 180 "FencedBoxesModel" "from" "I") (by decide +kernel)
  have fl192 := hts (.fieldLink RX8 192 "FencedBoxesModel" "reason" "I") (by decide +kernel)
  have fl194 := hts (.fieldLink RX8 194 "FencedBoxesModel" "cause" "I") (by decide +kernel)
  unfold f_X8_fault at hf
  obtain ⟨H, eH⟩ : ∃ H, H = s.heap := ⟨_, rfl⟩
  obtain ⟨locs, elocs⟩ : ∃ L : List Loc, L = [] := ⟨_, rfl⟩
  have hP : va_P D vwCl (wX8 cy h0 sa pa ka aa oa wa ca ta na mOp mIk mPa mRu mLa mTy mSp mFr mRe mCa mOr mLe rS rP rK rA rO rW rC rT rN) H := by rw [eH]; exact hP
  have hS : va_S A s.heap H locs := by rw [eH, elocs]; exact hS
  refine k_here eH elocs ?_
  refine lv_aload_n hx hb dX8_fault_0 rfl (lv_at hl 0 rfl) ?_
  refine va_get (D := D) (ci := 5) (v := .ref sa) (C := RX8) (T := TX8) (N := 21) hx hb hts in_X8 hown hK hP 0 rfl rfl 0 (by decide) fl7 (fun _ h9 => h9) rfl dX8_fault_1 ?_
  refine lv_aload_n hx hb dX8_fault_4 rfl (lv_at hl 0 rfl) ?_
  refine va_get (D := D) (ci := 5) (v := .ref aa) (C := RX8) (T := TX8) (N := 21) hx hb hts in_X8 hown hK hP 0 rfl rfl 3 (by decide) fl19 (fun _ h9 => h9) rfl dX8_fault_5 ?_
  obtain ⟨v1, hv1, hf⟩ := k_B hf
  refine k_callHS (As := [.ref sa, .ref aa]) (rest := []) (isC := [1, 4]) (isR := [0, 2, 3, 5, 6, 7, 8, 9]) (perm := [0, 8, 1, 2, 9, 3, 4, 5, 6, 7]) (w' := (wX8 cy h0 sa pa ka aa oa wa ca ta na mOp mIk mPa mRu mLa mTy mSp mFr mRe mCa mOr mLe rS rP rK v1 rO rW rC rT rN)) ⟨hx, hb, hml, hown, hts⟩ (c_X8_copies l D cy sa aa rS rA  v1 hv1) (va_cwS 2 hts gX8_fault_X8_copies rfl rfl rfl hd_X8_copies ⟨Nat.le_of_ble_eq_true rfl, Nat.le_of_ble_eq_true rfl⟩) hK hN hP hD hS hA rfl rfl rfl rfl (by decide) rfl rfl rfl hl.1 rfl (Nat.le_of_ble_eq_true rfl) dX8_fault_8 ⟨Nat.zero_le _, Nat.zero_le _⟩ (fun H locs hP hD hS => ?_)
  refine lv_aload_n hx hb dX8_fault_11 rfl (lv_at hl 0 rfl) ?_
  obtain ⟨v2, hv2, hf⟩ := k_B hf
  refine k_callHV (As := []) (rest := []) (r := (RX8, TX8, 21)) (ci := 5) (q0 := 0) (isC := [0, 1, 2, 3, 4, 5, 6, 7, 8, 9]) (isR := []) (perm := [0, 1, 2, 3, 4, 5, 6, 7, 8, 9]) (w' := (wX8 cy h0 sa pa ka aa oa wa ca ta na mOp mIk v2.2.1 v2.2.2.1 v2.2.2.2.1 mTy v2.2.2.2.2.1 v2.2.2.2.2.2.1 v2.2.2.2.2.2.2.1 v2.2.2.2.2.2.2.2.1 v2.2.2.2.2.2.2.2.2.1 v2.2.2.2.2.2.2.2.2.2.1 v2.2.2.2.2.2.2.2.2.2.2.1 v2.2.2.2.2.2.2.2.2.2.2.2.1 rK v1 rO rW rC rT v2.2.2.2.2.2.2.2.2.2.2.2.2)) ⟨hx, hb, hml, hown, hts⟩ (c_X8_plays l D cy h0 sa pa ka aa oa wa ca ta na mOp mIk mPa mRu mLa mTy mSp mFr mRe mCa mOr mLe rS rP rK v1 rO rW rC rT rN  v2 hv2) (cwV 0 hts gX8_fault_X8_plays rfl rfl rfl hd_X8_plays ⟨Nat.le_of_ble_eq_true rfl, Nat.le_of_ble_eq_true rfl⟩) hK hN hP hD hS hA rfl rfl rfl rfl rfl rfl (by decide) rfl rfl rfl hl.1 rfl (Nat.le_of_ble_eq_true rfl) dX8_fault_12 ⟨Nat.zero_le _, Nat.zero_le _⟩ (fun H locs hP hD hS => ?_)
  refine lv_istore_n (lv' := [(2, .int v2.1), (0, .ref h0), (1, .int n1)]) hx hb dX8_fault_15 rfl hl (by decide) rfl (fun ls hl => ?_)
  refine lv_aload_n hx hb dX8_fault_16 rfl (lv_at hl 1 rfl) ?_
  refine va_get (D := D) (ci := 5) (v := .ref aa) (C := RX8) (T := TX8) (N := 21) hx hb hts in_X8 hown hK hP 0 rfl rfl 3 (by decide) fl19 (fun _ h9 => h9) rfl dX8_fault_17 ?_
  refine lv_aload_n hx hb dX8_fault_20 rfl (lv_at hl 1 rfl) ?_
  refine va_get (D := D) (ci := 5) (v := .ref sa) (C := RX8) (T := TX8) (N := 21) hx hb hts in_X8 hown hK hP 0 rfl rfl 0 (by decide) fl7 (fun _ h9 => h9) rfl dX8_fault_21 ?_
  obtain ⟨v3, hv3, hf⟩ := k_B hf
  refine k_callHS (As := [.ref aa, .ref sa]) (rest := []) (isC := [4, 1]) (isR := [0, 2, 3, 5, 6, 7, 8, 9]) (perm := [0, 9, 1, 2, 8, 3, 4, 5, 6, 7]) (w' := (wX8 cy h0 sa pa ka aa oa wa ca ta na mOp mIk v2.2.1 v2.2.2.1 v2.2.2.2.1 mTy v2.2.2.2.2.1 v2.2.2.2.2.2.1 v2.2.2.2.2.2.2.1 v2.2.2.2.2.2.2.2.1 v2.2.2.2.2.2.2.2.2.1 v2.2.2.2.2.2.2.2.2.2.1 v3 v2.2.2.2.2.2.2.2.2.2.2.2.1 rK v1 rO rW rC rT v2.2.2.2.2.2.2.2.2.2.2.2.2)) ⟨hx, hb, hml, hown, hts⟩ (c_X8_copies l D cy aa sa v1 v2.2.2.2.2.2.2.2.2.2.2.1  v3 hv3) (va_cwS 2 hts gX8_fault_X8_copies rfl rfl rfl hd_X8_copies ⟨Nat.le_of_ble_eq_true rfl, Nat.le_of_ble_eq_true rfl⟩) hK hN hP hD hS hA rfl rfl rfl rfl (by decide) rfl rfl rfl hl.1 rfl (Nat.le_of_ble_eq_true rfl) dX8_fault_24 ⟨Nat.zero_le _, Nat.zero_le _⟩ (fun H locs hP hD hS => ?_)
  refine lv_iload_n hx hb dX8_fault_27 rfl (lv_at hl 0 rfl) ?_
  refine lv_if_eq (tgt := 39) hx hb dX8_fault_28 (by decide) (fun c4 => ?_) (fun c4 => ?_)
  · have hf := k_T c4 hf
    refine lv_iload_n hx hb dX8_fault_39 rfl (lv_at hl 2 rfl) ?_
    refine lv_if_ne (tgt := 50) hx hb dX8_fault_40 (by decide) (fun c5 => ?_) (fun c5 => ?_)
    · have hf := k_F c5 hf
      refine lv_iload_n hx hb dX8_fault_50 rfl (lv_at hl 2 rfl) ?_
      refine lv_iconst (v := 1) hx hb dX8_fault_51 (by decide) ?_
      refine lv_icmp_ne (tgt := 62) hx hb dX8_fault_52 (by decide) (fun c6 => ?_) (fun c6 => ?_)
      · have hf := k_F c6 hf
        refine lv_aload_n hx hb dX8_fault_62 rfl (lv_at hl 1 rfl) ?_
        refine va_get (D := D) (ci := 5) (v := .int v2.2.2.2.2.2.2.2.1) (C := RX8) (T := TX8) (N := 21) hx hb hts in_X8 hown hK hP 0 rfl rfl 17 (by decide) fl194 (fun _ h9 => h9) rfl dX8_fault_63 ?_
        obtain rfl := k_some hf
        exact k_iret hx hb hr hP hD hS dX8_fault_66 hlocks
      · have hf := k_T c6 hf
        refine lv_aload_n hx hb dX8_fault_55 rfl (lv_at hl 1 rfl) ?_
        refine va_get (D := D) (ci := 5) (v := .int v2.2.2.2.2.2.2.1) (C := RX8) (T := TX8) (N := 21) hx hb hts in_X8 hown hK hP 0 rfl rfl 16 (by decide) fl192 (fun _ h9 => h9) rfl dX8_fault_56 ?_
        refine lv_goto (tgt := 66) hx hb dX8_fault_59 (by decide) ?_
        obtain rfl := k_some hf
        exact k_iret hx hb hr hP hD hS dX8_fault_66 hlocks
    · have hf := k_T c5 hf
      refine lv_aload_n hx hb dX8_fault_43 rfl (lv_at hl 1 rfl) ?_
      refine va_get (D := D) (ci := 5) (v := .int v2.2.2.2.2.2.1) (C := RX8) (T := TX8) (N := 21) hx hb hts in_X8 hown hK hP 0 rfl rfl 15 (by decide) fl180 (fun _ h9 => h9) rfl dX8_fault_44 ?_
      refine lv_goto (tgt := 66) hx hb dX8_fault_47 (by decide) ?_
      obtain rfl := k_some hf
      exact k_iret hx hb hr hP hD hS dX8_fault_66 hlocks
  · have hf := k_F c4 hf
    refine lv_aload_n hx hb dX8_fault_31 rfl (lv_at hl 1 rfl) ?_
    refine lv_iconst (v := 1) hx hb dX8_fault_32 (by decide) ?_
    obtain ⟨v7, hv7, hf⟩ := k_B hf
    refine k_callHV (As := [.int 1]) (rest := []) (r := (RX8, TX8, 21)) (ci := 5) (q0 := 0) (isC := [0, 1, 2, 3, 4, 5, 6, 7, 8, 9]) (isR := []) (perm := [0, 1, 2, 3, 4, 5, 6, 7, 8, 9]) (w' := (wX8 cy h0 sa pa ka aa oa wa ca ta na mOp mIk v2.2.1 v2.2.2.1 v7.2 mTy v2.2.2.2.2.1 v2.2.2.2.2.2.1 v2.2.2.2.2.2.2.1 v2.2.2.2.2.2.2.2.1 v2.2.2.2.2.2.2.2.2.1 v2.2.2.2.2.2.2.2.2.2.1 v3 v2.2.2.2.2.2.2.2.2.2.2.2.1 rK v1 rO rW rC rT v2.2.2.2.2.2.2.2.2.2.2.2.2)) ⟨hx, hb, hml, hown, hts⟩ (c_X8_fails l D cy h0 sa pa ka aa oa wa ca ta na mOp mIk v2.2.1 v2.2.2.1 v2.2.2.2.1 mTy v2.2.2.2.2.1 v2.2.2.2.2.2.1 v2.2.2.2.2.2.2.1 v2.2.2.2.2.2.2.2.1 v2.2.2.2.2.2.2.2.2.1 v2.2.2.2.2.2.2.2.2.2.1 v3 v2.2.2.2.2.2.2.2.2.2.2.2.1 rK v1 rO rW rC rT v2.2.2.2.2.2.2.2.2.2.2.2.2 1 v7 hv7) (cwV 1 hts gX8_fault_X8_fails rfl rfl rfl hd_X8_fails ⟨Nat.le_of_ble_eq_true rfl, Nat.le_of_ble_eq_true rfl⟩) hK hN hP hD hS hA rfl rfl rfl rfl rfl rfl (by decide) rfl rfl rfl hl.1 rfl (Nat.le_of_ble_eq_true rfl) dX8_fault_33 ⟨Nat.zero_le _, Nat.zero_le _⟩ (fun H locs hP hD hS => ?_)
    refine lv_goto (tgt := 66) hx hb dX8_fault_36 (by decide) ?_
    obtain rfl := k_some hf
    exact k_iret hx hb hr hP hD hS dX8_fault_66 hlocks
def f_X8_faultPosition (mPa : Int32) (mRu : Int32) (mLa : Int32) (mTy : Int32) (mSp : Int32) (mFr : Int32) (mRe : Int32) (mCa : Int32) (mOr : Int32) (mLe : Int32) (rS : Nat → Int32) (rP : Nat → Int32) (rA : Nat → Int32) (rT : Nat → Int32) (rN : Nat → Int32) : Option (Int32 × Int32 × Int32 × Int32 × Int32 × Int32 × Int32 × Int32 × Int32 × Int32 × (Nat → Int32) × (Nat → Int32) × (Nat → Int32) × (Nat → Int32)) :=
  (f_X8_fault 0 mPa mRu mLa mTy mSp mFr mRe mCa mOr mLe rS rP rA rT rN).bind fun v1 =>
  some (v1.1, v1.2.1, v1.2.2.1, v1.2.2.2.1, v1.2.2.2.2.1, v1.2.2.2.2.2.1, v1.2.2.2.2.2.2.1, v1.2.2.2.2.2.2.2.1, v1.2.2.2.2.2.2.2.2.1, v1.2.2.2.2.2.2.2.2.2.1, v1.2.2.2.2.2.2.2.2.2.2.1, v1.2.2.2.2.2.2.2.2.2.2.2.1, v1.2.2.2.2.2.2.2.2.2.2.2.2.1, v1.2.2.2.2.2.2.2.2.2.2.2.2.2)
abbrev rm_X8_faultPosition : Room := { frames := 7, cells := 0, slots := 0, locals := 155 }
theorem hd_X8_faultPosition : yX8_faultPosition.cls = RX8 ∧ yX8_faultPosition.cls ≠ "java/lang/invoke/MethodHandle" ∧ yX8_faultPosition.cls ≠ "java/lang/invoke/VarHandle" ∧ (parseMethodDescriptor yX8_faultPosition.desc).map (fun d => d.parameters.length) = some 0 := by decide +kernel
set_option maxHeartbeats 4000000 in
set_option maxRecDepth 100000 in
theorem c_X8_faultPosition (l : Launch) (D : va_G) (cy : Nat → ClassId) (h0 sa pa ka aa oa wa ca ta na : Nat) (mOp : Int32) (mIk : Int32) (mPa : Int32) (mRu : Int32) (mLa : Int32) (mTy : Int32) (mSp : Int32) (mFr : Int32) (mRe : Int32) (mCa : Int32) (mOr : Int32) (mLe : Int32) (rS : Nat → Int32) (rP : Nat → Int32) (rK : Nat → Int32) (rA : Nat → Int32) (rO : Nat → Int32) (rW : Nat → Int32) (rC : Nat → Int32) (rT : Nat → Int32) (rN : Nat → Int32)  (r : Int32 × Int32 × Int32 × Int32 × Int32 × Int32 × Int32 × Int32 × Int32 × Int32 × (Nat → Int32) × (Nat → Int32) × (Nat → Int32) × (Nat → Int32)) (hf : f_X8_faultPosition mPa mRu mLa mTy mSp mFr mRe mCa mOr mLe rS rP rA rT rN = some r) : k_HMet l yX8_faultPosition wsX8_faultPosition rm_X8_faultPosition D (k_tys cy) [.ref h0] (wX8 cy h0 sa pa ka aa oa wa ca ta na mOp mIk mPa mRu mLa mTy mSp mFr mRe mCa mOr mLe rS rP rK rA rO rW rC rT rN) (some (.int r.1)) (wX8 cy h0 sa pa ka aa oa wa ca ta na mOp mIk r.2.1 r.2.2.1 r.2.2.2.1 mTy r.2.2.2.2.1 r.2.2.2.2.2.1 r.2.2.2.2.2.2.1 r.2.2.2.2.2.2.2.1 r.2.2.2.2.2.2.2.2.1 r.2.2.2.2.2.2.2.2.2.1 r.2.2.2.2.2.2.2.2.2.2.1 r.2.2.2.2.2.2.2.2.2.2.2.1 rK r.2.2.2.2.2.2.2.2.2.2.2.2.1 rO rW rC rT r.2.2.2.2.2.2.2.2.2.2.2.2.2) := by
  refine k_heapOf (cc := cX8_faultPosition) (maxL := 1) (ret := (some .int)) (by decide) rfl (Nat.le_of_ble_eq_true rfl) ?_
  intro p e s m args below meth c ls A hx hb hr hlocks hml hown hts hl hA hK hP hD hN
  have hl : lv_has ls 1 [(0, .ref h0)] := hl
  have hS : va_S A s.heap s.heap [] := va_S.rf
  unfold f_X8_faultPosition at hf
  obtain ⟨H, eH⟩ : ∃ H, H = s.heap := ⟨_, rfl⟩
  obtain ⟨locs, elocs⟩ : ∃ L : List Loc, L = [] := ⟨_, rfl⟩
  have hP : va_P D vwCl (wX8 cy h0 sa pa ka aa oa wa ca ta na mOp mIk mPa mRu mLa mTy mSp mFr mRe mCa mOr mLe rS rP rK rA rO rW rC rT rN) H := by rw [eH]; exact hP
  have hS : va_S A s.heap H locs := by rw [eH, elocs]; exact hS
  refine k_here eH elocs ?_
  refine lv_aload_n hx hb dX8_faultPosition_0 rfl (lv_at hl 0 rfl) ?_
  refine lv_iconst (v := 0) hx hb dX8_faultPosition_1 (by decide) ?_
  obtain ⟨v1, hv1, hf⟩ := k_B hf
  refine k_callHV (As := [.int 0]) (rest := []) (r := (RX8, TX8, 21)) (ci := 5) (q0 := 0) (isC := [0, 1, 2, 3, 4, 5, 6, 7, 8, 9]) (isR := []) (perm := [0, 1, 2, 3, 4, 5, 6, 7, 8, 9]) (w' := (wX8 cy h0 sa pa ka aa oa wa ca ta na mOp mIk v1.2.1 v1.2.2.1 v1.2.2.2.1 mTy v1.2.2.2.2.1 v1.2.2.2.2.2.1 v1.2.2.2.2.2.2.1 v1.2.2.2.2.2.2.2.1 v1.2.2.2.2.2.2.2.2.1 v1.2.2.2.2.2.2.2.2.2.1 v1.2.2.2.2.2.2.2.2.2.2.1 v1.2.2.2.2.2.2.2.2.2.2.2.1 rK v1.2.2.2.2.2.2.2.2.2.2.2.2.1 rO rW rC rT v1.2.2.2.2.2.2.2.2.2.2.2.2.2)) ⟨hx, hb, hml, hown, hts⟩ (c_X8_fault l D cy h0 sa pa ka aa oa wa ca ta na mOp mIk mPa mRu mLa mTy mSp mFr mRe mCa mOr mLe rS rP rK rA rO rW rC rT rN 0 v1 hv1) (cwV 1 hts gX8_faultPosition_X8_fault rfl rfl rfl hd_X8_fault ⟨Nat.le_of_ble_eq_true rfl, Nat.le_of_ble_eq_true rfl⟩) hK hN hP hD hS hA rfl rfl rfl rfl rfl rfl (by decide) rfl rfl rfl hl.1 rfl (Nat.le_of_ble_eq_true rfl) dX8_faultPosition_2 ⟨Nat.zero_le _, Nat.zero_le _⟩ (fun H locs hP hD hS => ?_)
  obtain rfl := k_some hf
  exact k_iret hx hb hr hP hD hS dX8_faultPosition_5 hlocks
def f_X8_faultReason (mPa : Int32) (mRu : Int32) (mLa : Int32) (mTy : Int32) (mSp : Int32) (mFr : Int32) (mRe : Int32) (mCa : Int32) (mOr : Int32) (mLe : Int32) (rS : Nat → Int32) (rP : Nat → Int32) (rA : Nat → Int32) (rT : Nat → Int32) (rN : Nat → Int32) : Option (Int32 × Int32 × Int32 × Int32 × Int32 × Int32 × Int32 × Int32 × Int32 × Int32 × (Nat → Int32) × (Nat → Int32) × (Nat → Int32) × (Nat → Int32)) :=
  (f_X8_fault 1 mPa mRu mLa mTy mSp mFr mRe mCa mOr mLe rS rP rA rT rN).bind fun v1 =>
  some (v1.1, v1.2.1, v1.2.2.1, v1.2.2.2.1, v1.2.2.2.2.1, v1.2.2.2.2.2.1, v1.2.2.2.2.2.2.1, v1.2.2.2.2.2.2.2.1, v1.2.2.2.2.2.2.2.2.1, v1.2.2.2.2.2.2.2.2.2.1, v1.2.2.2.2.2.2.2.2.2.2.1, v1.2.2.2.2.2.2.2.2.2.2.2.1, v1.2.2.2.2.2.2.2.2.2.2.2.2.1, v1.2.2.2.2.2.2.2.2.2.2.2.2.2)
abbrev rm_X8_faultReason : Room := { frames := 7, cells := 0, slots := 0, locals := 155 }
theorem hd_X8_faultReason : yX8_faultReason.cls = RX8 ∧ yX8_faultReason.cls ≠ "java/lang/invoke/MethodHandle" ∧ yX8_faultReason.cls ≠ "java/lang/invoke/VarHandle" ∧ (parseMethodDescriptor yX8_faultReason.desc).map (fun d => d.parameters.length) = some 0 := by decide +kernel
set_option maxHeartbeats 4000000 in
set_option maxRecDepth 100000 in
theorem c_X8_faultReason (l : Launch) (D : va_G) (cy : Nat → ClassId) (h0 sa pa ka aa oa wa ca ta na : Nat) (mOp : Int32) (mIk : Int32) (mPa : Int32) (mRu : Int32) (mLa : Int32) (mTy : Int32) (mSp : Int32) (mFr : Int32) (mRe : Int32) (mCa : Int32) (mOr : Int32) (mLe : Int32) (rS : Nat → Int32) (rP : Nat → Int32) (rK : Nat → Int32) (rA : Nat → Int32) (rO : Nat → Int32) (rW : Nat → Int32) (rC : Nat → Int32) (rT : Nat → Int32) (rN : Nat → Int32)  (r : Int32 × Int32 × Int32 × Int32 × Int32 × Int32 × Int32 × Int32 × Int32 × Int32 × (Nat → Int32) × (Nat → Int32) × (Nat → Int32) × (Nat → Int32)) (hf : f_X8_faultReason mPa mRu mLa mTy mSp mFr mRe mCa mOr mLe rS rP rA rT rN = some r) : k_HMet l yX8_faultReason wsX8_faultReason rm_X8_faultReason D (k_tys cy) [.ref h0] (wX8 cy h0 sa pa ka aa oa wa ca ta na mOp mIk mPa mRu mLa mTy mSp mFr mRe mCa mOr mLe rS rP rK rA rO rW rC rT rN) (some (.int r.1)) (wX8 cy h0 sa pa ka aa oa wa ca ta na mOp mIk r.2.1 r.2.2.1 r.2.2.2.1 mTy r.2.2.2.2.1 r.2.2.2.2.2.1 r.2.2.2.2.2.2.1 r.2.2.2.2.2.2.2.1 r.2.2.2.2.2.2.2.2.1 r.2.2.2.2.2.2.2.2.2.1 r.2.2.2.2.2.2.2.2.2.2.1 r.2.2.2.2.2.2.2.2.2.2.2.1 rK r.2.2.2.2.2.2.2.2.2.2.2.2.1 rO rW rC rT r.2.2.2.2.2.2.2.2.2.2.2.2.2) := by
  refine k_heapOf (cc := cX8_faultReason) (maxL := 1) (ret := (some .int)) (by decide) rfl (Nat.le_of_ble_eq_true rfl) ?_
  intro p e s m args below meth c ls A hx hb hr hlocks hml hown hts hl hA hK hP hD hN
  have hl : lv_has ls 1 [(0, .ref h0)] := hl
  have hS : va_S A s.heap s.heap [] := va_S.rf
  unfold f_X8_faultReason at hf
  obtain ⟨H, eH⟩ : ∃ H, H = s.heap := ⟨_, rfl⟩
  obtain ⟨locs, elocs⟩ : ∃ L : List Loc, L = [] := ⟨_, rfl⟩
  have hP : va_P D vwCl (wX8 cy h0 sa pa ka aa oa wa ca ta na mOp mIk mPa mRu mLa mTy mSp mFr mRe mCa mOr mLe rS rP rK rA rO rW rC rT rN) H := by rw [eH]; exact hP
  have hS : va_S A s.heap H locs := by rw [eH, elocs]; exact hS
  refine k_here eH elocs ?_
  refine lv_aload_n hx hb dX8_faultReason_0 rfl (lv_at hl 0 rfl) ?_
  refine lv_iconst (v := 1) hx hb dX8_faultReason_1 (by decide) ?_
  obtain ⟨v1, hv1, hf⟩ := k_B hf
  refine k_callHV (As := [.int 1]) (rest := []) (r := (RX8, TX8, 21)) (ci := 5) (q0 := 0) (isC := [0, 1, 2, 3, 4, 5, 6, 7, 8, 9]) (isR := []) (perm := [0, 1, 2, 3, 4, 5, 6, 7, 8, 9]) (w' := (wX8 cy h0 sa pa ka aa oa wa ca ta na mOp mIk v1.2.1 v1.2.2.1 v1.2.2.2.1 mTy v1.2.2.2.2.1 v1.2.2.2.2.2.1 v1.2.2.2.2.2.2.1 v1.2.2.2.2.2.2.2.1 v1.2.2.2.2.2.2.2.2.1 v1.2.2.2.2.2.2.2.2.2.1 v1.2.2.2.2.2.2.2.2.2.2.1 v1.2.2.2.2.2.2.2.2.2.2.2.1 rK v1.2.2.2.2.2.2.2.2.2.2.2.2.1 rO rW rC rT v1.2.2.2.2.2.2.2.2.2.2.2.2.2)) ⟨hx, hb, hml, hown, hts⟩ (c_X8_fault l D cy h0 sa pa ka aa oa wa ca ta na mOp mIk mPa mRu mLa mTy mSp mFr mRe mCa mOr mLe rS rP rK rA rO rW rC rT rN 1 v1 hv1) (cwV 1 hts gX8_faultReason_X8_fault rfl rfl rfl hd_X8_fault ⟨Nat.le_of_ble_eq_true rfl, Nat.le_of_ble_eq_true rfl⟩) hK hN hP hD hS hA rfl rfl rfl rfl rfl rfl (by decide) rfl rfl rfl hl.1 rfl (Nat.le_of_ble_eq_true rfl) dX8_faultReason_2 ⟨Nat.zero_le _, Nat.zero_le _⟩ (fun H locs hP hD hS => ?_)
  obtain rfl := k_some hf
  exact k_iret hx hb hr hP hD hS dX8_faultReason_5 hlocks
def f_X8_faultCause (mPa : Int32) (mRu : Int32) (mLa : Int32) (mTy : Int32) (mSp : Int32) (mFr : Int32) (mRe : Int32) (mCa : Int32) (mOr : Int32) (mLe : Int32) (rS : Nat → Int32) (rP : Nat → Int32) (rA : Nat → Int32) (rT : Nat → Int32) (rN : Nat → Int32) : Option (Int32 × Int32 × Int32 × Int32 × Int32 × Int32 × Int32 × Int32 × Int32 × Int32 × (Nat → Int32) × (Nat → Int32) × (Nat → Int32) × (Nat → Int32)) :=
  (f_X8_fault 2 mPa mRu mLa mTy mSp mFr mRe mCa mOr mLe rS rP rA rT rN).bind fun v1 =>
  some (v1.1, v1.2.1, v1.2.2.1, v1.2.2.2.1, v1.2.2.2.2.1, v1.2.2.2.2.2.1, v1.2.2.2.2.2.2.1, v1.2.2.2.2.2.2.2.1, v1.2.2.2.2.2.2.2.2.1, v1.2.2.2.2.2.2.2.2.2.1, v1.2.2.2.2.2.2.2.2.2.2.1, v1.2.2.2.2.2.2.2.2.2.2.2.1, v1.2.2.2.2.2.2.2.2.2.2.2.2.1, v1.2.2.2.2.2.2.2.2.2.2.2.2.2)
abbrev rm_X8_faultCause : Room := { frames := 7, cells := 0, slots := 0, locals := 155 }
theorem hd_X8_faultCause : yX8_faultCause.cls = RX8 ∧ yX8_faultCause.cls ≠ "java/lang/invoke/MethodHandle" ∧ yX8_faultCause.cls ≠ "java/lang/invoke/VarHandle" ∧ (parseMethodDescriptor yX8_faultCause.desc).map (fun d => d.parameters.length) = some 0 := by decide +kernel
set_option maxHeartbeats 4000000 in
set_option maxRecDepth 100000 in
theorem c_X8_faultCause (l : Launch) (D : va_G) (cy : Nat → ClassId) (h0 sa pa ka aa oa wa ca ta na : Nat) (mOp : Int32) (mIk : Int32) (mPa : Int32) (mRu : Int32) (mLa : Int32) (mTy : Int32) (mSp : Int32) (mFr : Int32) (mRe : Int32) (mCa : Int32) (mOr : Int32) (mLe : Int32) (rS : Nat → Int32) (rP : Nat → Int32) (rK : Nat → Int32) (rA : Nat → Int32) (rO : Nat → Int32) (rW : Nat → Int32) (rC : Nat → Int32) (rT : Nat → Int32) (rN : Nat → Int32)  (r : Int32 × Int32 × Int32 × Int32 × Int32 × Int32 × Int32 × Int32 × Int32 × Int32 × (Nat → Int32) × (Nat → Int32) × (Nat → Int32) × (Nat → Int32)) (hf : f_X8_faultCause mPa mRu mLa mTy mSp mFr mRe mCa mOr mLe rS rP rA rT rN = some r) : k_HMet l yX8_faultCause wsX8_faultCause rm_X8_faultCause D (k_tys cy) [.ref h0] (wX8 cy h0 sa pa ka aa oa wa ca ta na mOp mIk mPa mRu mLa mTy mSp mFr mRe mCa mOr mLe rS rP rK rA rO rW rC rT rN) (some (.int r.1)) (wX8 cy h0 sa pa ka aa oa wa ca ta na mOp mIk r.2.1 r.2.2.1 r.2.2.2.1 mTy r.2.2.2.2.1 r.2.2.2.2.2.1 r.2.2.2.2.2.2.1 r.2.2.2.2.2.2.2.1 r.2.2.2.2.2.2.2.2.1 r.2.2.2.2.2.2.2.2.2.1 r.2.2.2.2.2.2.2.2.2.2.1 r.2.2.2.2.2.2.2.2.2.2.2.1 rK r.2.2.2.2.2.2.2.2.2.2.2.2.1 rO rW rC rT r.2.2.2.2.2.2.2.2.2.2.2.2.2) := by
  refine k_heapOf (cc := cX8_faultCause) (maxL := 1) (ret := (some .int)) (by decide) rfl (Nat.le_of_ble_eq_true rfl) ?_
  intro p e s m args below meth c ls A hx hb hr hlocks hml hown hts hl hA hK hP hD hN
  have hl : lv_has ls 1 [(0, .ref h0)] := hl
  have hS : va_S A s.heap s.heap [] := va_S.rf
  unfold f_X8_faultCause at hf
  obtain ⟨H, eH⟩ : ∃ H, H = s.heap := ⟨_, rfl⟩
  obtain ⟨locs, elocs⟩ : ∃ L : List Loc, L = [] := ⟨_, rfl⟩
  have hP : va_P D vwCl (wX8 cy h0 sa pa ka aa oa wa ca ta na mOp mIk mPa mRu mLa mTy mSp mFr mRe mCa mOr mLe rS rP rK rA rO rW rC rT rN) H := by rw [eH]; exact hP
  have hS : va_S A s.heap H locs := by rw [eH, elocs]; exact hS
  refine k_here eH elocs ?_
  refine lv_aload_n hx hb dX8_faultCause_0 rfl (lv_at hl 0 rfl) ?_
  refine lv_iconst (v := 2) hx hb dX8_faultCause_1 (by decide) ?_
  obtain ⟨v1, hv1, hf⟩ := k_B hf
  refine k_callHV (As := [.int 2]) (rest := []) (r := (RX8, TX8, 21)) (ci := 5) (q0 := 0) (isC := [0, 1, 2, 3, 4, 5, 6, 7, 8, 9]) (isR := []) (perm := [0, 1, 2, 3, 4, 5, 6, 7, 8, 9]) (w' := (wX8 cy h0 sa pa ka aa oa wa ca ta na mOp mIk v1.2.1 v1.2.2.1 v1.2.2.2.1 mTy v1.2.2.2.2.1 v1.2.2.2.2.2.1 v1.2.2.2.2.2.2.1 v1.2.2.2.2.2.2.2.1 v1.2.2.2.2.2.2.2.2.1 v1.2.2.2.2.2.2.2.2.2.1 v1.2.2.2.2.2.2.2.2.2.2.1 v1.2.2.2.2.2.2.2.2.2.2.2.1 rK v1.2.2.2.2.2.2.2.2.2.2.2.2.1 rO rW rC rT v1.2.2.2.2.2.2.2.2.2.2.2.2.2)) ⟨hx, hb, hml, hown, hts⟩ (c_X8_fault l D cy h0 sa pa ka aa oa wa ca ta na mOp mIk mPa mRu mLa mTy mSp mFr mRe mCa mOr mLe rS rP rK rA rO rW rC rT rN 2 v1 hv1) (cwV 1 hts gX8_faultCause_X8_fault rfl rfl rfl hd_X8_fault ⟨Nat.le_of_ble_eq_true rfl, Nat.le_of_ble_eq_true rfl⟩) hK hN hP hD hS hA rfl rfl rfl rfl rfl rfl (by decide) rfl rfl rfl hl.1 rfl (Nat.le_of_ble_eq_true rfl) dX8_faultCause_2 ⟨Nat.zero_le _, Nat.zero_le _⟩ (fun H locs hP hD hS => ?_)
  obtain rfl := k_some hf
  exact k_iret hx hb hr hP hD hS dX8_faultCause_5 hlocks
def f_X8_play (mPa : Int32) (mRu : Int32) (mLa : Int32) (mTy : Int32) (mSp : Int32) (mFr : Int32) (mRe : Int32) (mCa : Int32) (mOr : Int32) (mLe : Int32) (rS : Nat → Int32) (rP : Nat → Int32) (rA : Nat → Int32) (rT : Nat → Int32) (rN : Nat → Int32) : Option (Int32 × Int32 × Int32 × Int32 × Int32 × Int32 × Int32 × Int32 × Int32 × Int32 × (Nat → Int32) × (Nat → Int32) × (Nat → Int32) × (Nat → Int32)) :=
  (f_X8_copies rS rA).bind fun v1 =>
  (f_X8_plays mPa mRu mLa mTy mSp mFr mRe mCa mOr mLe rS rP rT rN).bind fun v2 =>
  (f_X8_copies v1 v2.2.2.2.2.2.2.2.2.2.2.1).bind fun v3 =>
  if v2.1 = 0 then
    (f_X8_fails 1 v2.2.2.2.1).bind fun v8 =>
    some (v8.1, v2.2.1, v2.2.2.1, v8.2, v2.2.2.2.2.1, v2.2.2.2.2.2.1, v2.2.2.2.2.2.2.1, v2.2.2.2.2.2.2.2.1, v2.2.2.2.2.2.2.2.2.1, v2.2.2.2.2.2.2.2.2.2.1, v3, v2.2.2.2.2.2.2.2.2.2.2.2.1, v1, v2.2.2.2.2.2.2.2.2.2.2.2.2)
  else
    (f_X8_changes v2.2.1 v2.2.2.1 v3 v2.2.2.2.2.2.2.2.2.2.2.2.1).bind fun v5 =>
    (f_X8_plays v5.1 v2.2.2.1 v2.2.2.2.1 mTy v2.2.2.2.2.1 v2.2.2.2.2.2.1 v2.2.2.2.2.2.2.1 v2.2.2.2.2.2.2.2.1 v2.2.2.2.2.2.2.2.2.1 v2.2.2.2.2.2.2.2.2.2.1 v3 v5.2 rT v2.2.2.2.2.2.2.2.2.2.2.2.2).bind fun v6 =>
    if v6.1 = 0 then
      some (0, v6.2.1, v6.2.2.1, v6.2.2.2.1, v6.2.2.2.2.1, v6.2.2.2.2.2.1, v6.2.2.2.2.2.2.1, v6.2.2.2.2.2.2.2.1, v6.2.2.2.2.2.2.2.2.1, v6.2.2.2.2.2.2.2.2.2.1, v6.2.2.2.2.2.2.2.2.2.2.1, v6.2.2.2.2.2.2.2.2.2.2.2.1, v1, v6.2.2.2.2.2.2.2.2.2.2.2.2)
    else
      some (v6.2.2.2.2.2.2.2.2.1, v6.2.1, v6.2.2.1, v6.2.2.2.1, v6.2.2.2.2.1, v6.2.2.2.2.2.1, v6.2.2.2.2.2.2.1, v6.2.2.2.2.2.2.2.1, v6.2.2.2.2.2.2.2.2.1, v6.2.2.2.2.2.2.2.2.2.1, v6.2.2.2.2.2.2.2.2.2.2.1, v6.2.2.2.2.2.2.2.2.2.2.2.1, v1, v6.2.2.2.2.2.2.2.2.2.2.2.2)
abbrev rm_X8_play : Room := { frames := 6, cells := 0, slots := 0, locals := 133 }
theorem hd_X8_play : yX8_play.cls = RX8 ∧ yX8_play.cls ≠ "java/lang/invoke/MethodHandle" ∧ yX8_play.cls ≠ "java/lang/invoke/VarHandle" ∧ (parseMethodDescriptor yX8_play.desc).map (fun d => d.parameters.length) = some 0 := by decide +kernel
set_option maxHeartbeats 4000000 in
set_option maxRecDepth 100000 in
theorem c_X8_play (l : Launch) (D : va_G) (cy : Nat → ClassId) (h0 sa pa ka aa oa wa ca ta na : Nat) (mOp : Int32) (mIk : Int32) (mPa : Int32) (mRu : Int32) (mLa : Int32) (mTy : Int32) (mSp : Int32) (mFr : Int32) (mRe : Int32) (mCa : Int32) (mOr : Int32) (mLe : Int32) (rS : Nat → Int32) (rP : Nat → Int32) (rK : Nat → Int32) (rA : Nat → Int32) (rO : Nat → Int32) (rW : Nat → Int32) (rC : Nat → Int32) (rT : Nat → Int32) (rN : Nat → Int32)  (r : Int32 × Int32 × Int32 × Int32 × Int32 × Int32 × Int32 × Int32 × Int32 × Int32 × (Nat → Int32) × (Nat → Int32) × (Nat → Int32) × (Nat → Int32)) (hf : f_X8_play mPa mRu mLa mTy mSp mFr mRe mCa mOr mLe rS rP rA rT rN = some r) : k_HMet l yX8_play wsX8_play rm_X8_play D (k_tys cy) [.ref h0] (wX8 cy h0 sa pa ka aa oa wa ca ta na mOp mIk mPa mRu mLa mTy mSp mFr mRe mCa mOr mLe rS rP rK rA rO rW rC rT rN) (some (.int r.1)) (wX8 cy h0 sa pa ka aa oa wa ca ta na mOp mIk r.2.1 r.2.2.1 r.2.2.2.1 mTy r.2.2.2.2.1 r.2.2.2.2.2.1 r.2.2.2.2.2.2.1 r.2.2.2.2.2.2.2.1 r.2.2.2.2.2.2.2.2.1 r.2.2.2.2.2.2.2.2.2.1 r.2.2.2.2.2.2.2.2.2.2.1 r.2.2.2.2.2.2.2.2.2.2.2.1 rK r.2.2.2.2.2.2.2.2.2.2.2.2.1 rO rW rC rT r.2.2.2.2.2.2.2.2.2.2.2.2.2) := by
  refine k_heapOf (cc := cX8_play) (maxL := 2) (ret := (some .int)) (by decide) rfl (Nat.le_of_ble_eq_true rfl) ?_
  intro p e s m args below meth c ls A hx hb hr hlocks hml hown hts hl hA hK hP hD hN
  have hl : lv_has ls 2 [(0, .ref h0)] := hl
  have hS : va_S A s.heap s.heap [] := va_S.rf
  have in_X8 : ∀ w ∈ wsX80, w ∈ wsX8_play := by decide +kernel
  have fl7 := hts (.fieldLink RX8 7 "FencedBoxesModel" "s" "[I") (by decide +kernel)
  have fl19 := hts (.fieldLink RX8 19 "FencedBoxesModel" "aside" "[I") (by decide +kernel)
  have fl183 := hts (.fieldLink RX8 183 "FencedBoxesModel" "orders" "I") (by decide +kernel)
  unfold f_X8_play at hf
  obtain ⟨H, eH⟩ : ∃ H, H = s.heap := ⟨_, rfl⟩
  obtain ⟨locs, elocs⟩ : ∃ L : List Loc, L = [] := ⟨_, rfl⟩
  have hP : va_P D vwCl (wX8 cy h0 sa pa ka aa oa wa ca ta na mOp mIk mPa mRu mLa mTy mSp mFr mRe mCa mOr mLe rS rP rK rA rO rW rC rT rN) H := by rw [eH]; exact hP
  have hS : va_S A s.heap H locs := by rw [eH, elocs]; exact hS
  refine k_here eH elocs ?_
  refine lv_aload_n hx hb dX8_play_0 rfl (lv_at hl 0 rfl) ?_
  refine va_get (D := D) (ci := 5) (v := .ref sa) (C := RX8) (T := TX8) (N := 21) hx hb hts in_X8 hown hK hP 0 rfl rfl 0 (by decide) fl7 (fun _ h9 => h9) rfl dX8_play_1 ?_
  refine lv_aload_n hx hb dX8_play_4 rfl (lv_at hl 0 rfl) ?_
  refine va_get (D := D) (ci := 5) (v := .ref aa) (C := RX8) (T := TX8) (N := 21) hx hb hts in_X8 hown hK hP 0 rfl rfl 3 (by decide) fl19 (fun _ h9 => h9) rfl dX8_play_5 ?_
  obtain ⟨v1, hv1, hf⟩ := k_B hf
  refine k_callHS (As := [.ref sa, .ref aa]) (rest := []) (isC := [1, 4]) (isR := [0, 2, 3, 5, 6, 7, 8, 9]) (perm := [0, 8, 1, 2, 9, 3, 4, 5, 6, 7]) (w' := (wX8 cy h0 sa pa ka aa oa wa ca ta na mOp mIk mPa mRu mLa mTy mSp mFr mRe mCa mOr mLe rS rP rK v1 rO rW rC rT rN)) ⟨hx, hb, hml, hown, hts⟩ (c_X8_copies l D cy sa aa rS rA  v1 hv1) (va_cwS 2 hts gX8_play_X8_copies rfl rfl rfl hd_X8_copies ⟨Nat.le_of_ble_eq_true rfl, Nat.le_of_ble_eq_true rfl⟩) hK hN hP hD hS hA rfl rfl rfl rfl (by decide) rfl rfl rfl hl.1 rfl (Nat.le_of_ble_eq_true rfl) dX8_play_8 ⟨Nat.zero_le _, Nat.zero_le _⟩ (fun H locs hP hD hS => ?_)
  refine lv_aload_n hx hb dX8_play_11 rfl (lv_at hl 0 rfl) ?_
  obtain ⟨v2, hv2, hf⟩ := k_B hf
  refine k_callHV (As := []) (rest := []) (r := (RX8, TX8, 21)) (ci := 5) (q0 := 0) (isC := [0, 1, 2, 3, 4, 5, 6, 7, 8, 9]) (isR := []) (perm := [0, 1, 2, 3, 4, 5, 6, 7, 8, 9]) (w' := (wX8 cy h0 sa pa ka aa oa wa ca ta na mOp mIk v2.2.1 v2.2.2.1 v2.2.2.2.1 mTy v2.2.2.2.2.1 v2.2.2.2.2.2.1 v2.2.2.2.2.2.2.1 v2.2.2.2.2.2.2.2.1 v2.2.2.2.2.2.2.2.2.1 v2.2.2.2.2.2.2.2.2.2.1 v2.2.2.2.2.2.2.2.2.2.2.1 v2.2.2.2.2.2.2.2.2.2.2.2.1 rK v1 rO rW rC rT v2.2.2.2.2.2.2.2.2.2.2.2.2)) ⟨hx, hb, hml, hown, hts⟩ (c_X8_plays l D cy h0 sa pa ka aa oa wa ca ta na mOp mIk mPa mRu mLa mTy mSp mFr mRe mCa mOr mLe rS rP rK v1 rO rW rC rT rN  v2 hv2) (cwV 0 hts gX8_play_X8_plays rfl rfl rfl hd_X8_plays ⟨Nat.le_of_ble_eq_true rfl, Nat.le_of_ble_eq_true rfl⟩) hK hN hP hD hS hA rfl rfl rfl rfl rfl rfl (by decide) rfl rfl rfl hl.1 rfl (Nat.le_of_ble_eq_true rfl) dX8_play_12 ⟨Nat.zero_le _, Nat.zero_le _⟩ (fun H locs hP hD hS => ?_)
  refine lv_istore_n (lv' := [(1, .int v2.1), (0, .ref h0)]) hx hb dX8_play_15 rfl hl (by decide) rfl (fun ls hl => ?_)
  refine lv_aload_n hx hb dX8_play_16 rfl (lv_at hl 1 rfl) ?_
  refine va_get (D := D) (ci := 5) (v := .ref aa) (C := RX8) (T := TX8) (N := 21) hx hb hts in_X8 hown hK hP 0 rfl rfl 3 (by decide) fl19 (fun _ h9 => h9) rfl dX8_play_17 ?_
  refine lv_aload_n hx hb dX8_play_20 rfl (lv_at hl 1 rfl) ?_
  refine va_get (D := D) (ci := 5) (v := .ref sa) (C := RX8) (T := TX8) (N := 21) hx hb hts in_X8 hown hK hP 0 rfl rfl 0 (by decide) fl7 (fun _ h9 => h9) rfl dX8_play_21 ?_
  obtain ⟨v3, hv3, hf⟩ := k_B hf
  refine k_callHS (As := [.ref aa, .ref sa]) (rest := []) (isC := [4, 1]) (isR := [0, 2, 3, 5, 6, 7, 8, 9]) (perm := [0, 9, 1, 2, 8, 3, 4, 5, 6, 7]) (w' := (wX8 cy h0 sa pa ka aa oa wa ca ta na mOp mIk v2.2.1 v2.2.2.1 v2.2.2.2.1 mTy v2.2.2.2.2.1 v2.2.2.2.2.2.1 v2.2.2.2.2.2.2.1 v2.2.2.2.2.2.2.2.1 v2.2.2.2.2.2.2.2.2.1 v2.2.2.2.2.2.2.2.2.2.1 v3 v2.2.2.2.2.2.2.2.2.2.2.2.1 rK v1 rO rW rC rT v2.2.2.2.2.2.2.2.2.2.2.2.2)) ⟨hx, hb, hml, hown, hts⟩ (c_X8_copies l D cy aa sa v1 v2.2.2.2.2.2.2.2.2.2.2.1  v3 hv3) (va_cwS 2 hts gX8_play_X8_copies rfl rfl rfl hd_X8_copies ⟨Nat.le_of_ble_eq_true rfl, Nat.le_of_ble_eq_true rfl⟩) hK hN hP hD hS hA rfl rfl rfl rfl (by decide) rfl rfl rfl hl.1 rfl (Nat.le_of_ble_eq_true rfl) dX8_play_24 ⟨Nat.zero_le _, Nat.zero_le _⟩ (fun H locs hP hD hS => ?_)
  refine lv_iload_n hx hb dX8_play_27 rfl (lv_at hl 0 rfl) ?_
  refine lv_if_ne (tgt := 37) hx hb dX8_play_28 (by decide) (fun c4 => ?_) (fun c4 => ?_)
  · have hf := k_F c4 hf
    refine lv_aload_n hx hb dX8_play_37 rfl (lv_at hl 1 rfl) ?_
    obtain ⟨v5, hv5, hf⟩ := k_B hf
    refine k_callHV (As := []) (rest := []) (r := (RX8, TX8, 21)) (ci := 5) (q0 := 0) (isC := [0, 1, 2, 3, 4, 5, 6, 7, 8, 9]) (isR := []) (perm := [0, 1, 2, 3, 4, 5, 6, 7, 8, 9]) (w' := (wX8 cy h0 sa pa ka aa oa wa ca ta na mOp mIk v5.1 v2.2.2.1 v2.2.2.2.1 mTy v2.2.2.2.2.1 v2.2.2.2.2.2.1 v2.2.2.2.2.2.2.1 v2.2.2.2.2.2.2.2.1 v2.2.2.2.2.2.2.2.2.1 v2.2.2.2.2.2.2.2.2.2.1 v3 v5.2 rK v1 rO rW rC rT v2.2.2.2.2.2.2.2.2.2.2.2.2)) ⟨hx, hb, hml, hown, hts⟩ (c_X8_changes l D cy h0 sa pa ka aa oa wa ca ta na mOp mIk v2.2.1 v2.2.2.1 v2.2.2.2.1 mTy v2.2.2.2.2.1 v2.2.2.2.2.2.1 v2.2.2.2.2.2.2.1 v2.2.2.2.2.2.2.2.1 v2.2.2.2.2.2.2.2.2.1 v2.2.2.2.2.2.2.2.2.2.1 v3 v2.2.2.2.2.2.2.2.2.2.2.2.1 rK v1 rO rW rC rT v2.2.2.2.2.2.2.2.2.2.2.2.2  v5 hv5) (cwV 0 hts gX8_play_X8_changes rfl rfl rfl hd_X8_changes ⟨Nat.le_of_ble_eq_true rfl, Nat.le_of_ble_eq_true rfl⟩) hK hN hP hD hS hA rfl rfl rfl rfl rfl rfl (by decide) rfl rfl rfl hl.1 rfl (Nat.le_of_ble_eq_true rfl) dX8_play_38 ⟨Nat.zero_le _, Nat.zero_le _⟩ (fun H locs hP hD hS => ?_)
    refine lv_aload_n hx hb dX8_play_41 rfl (lv_at hl 1 rfl) ?_
    obtain ⟨v6, hv6, hf⟩ := k_B hf
    refine k_callHV (As := []) (rest := []) (r := (RX8, TX8, 21)) (ci := 5) (q0 := 0) (isC := [0, 1, 2, 3, 4, 5, 6, 7, 8, 9]) (isR := []) (perm := [0, 1, 2, 3, 4, 5, 6, 7, 8, 9]) (w' := (wX8 cy h0 sa pa ka aa oa wa ca ta na mOp mIk v6.2.1 v6.2.2.1 v6.2.2.2.1 mTy v6.2.2.2.2.1 v6.2.2.2.2.2.1 v6.2.2.2.2.2.2.1 v6.2.2.2.2.2.2.2.1 v6.2.2.2.2.2.2.2.2.1 v6.2.2.2.2.2.2.2.2.2.1 v6.2.2.2.2.2.2.2.2.2.2.1 v6.2.2.2.2.2.2.2.2.2.2.2.1 rK v1 rO rW rC rT v6.2.2.2.2.2.2.2.2.2.2.2.2)) ⟨hx, hb, hml, hown, hts⟩ (c_X8_plays l D cy h0 sa pa ka aa oa wa ca ta na mOp mIk v5.1 v2.2.2.1 v2.2.2.2.1 mTy v2.2.2.2.2.1 v2.2.2.2.2.2.1 v2.2.2.2.2.2.2.1 v2.2.2.2.2.2.2.2.1 v2.2.2.2.2.2.2.2.2.1 v2.2.2.2.2.2.2.2.2.2.1 v3 v5.2 rK v1 rO rW rC rT v2.2.2.2.2.2.2.2.2.2.2.2.2  v6 hv6) (cwV 0 hts gX8_play_X8_plays rfl rfl rfl hd_X8_plays ⟨Nat.le_of_ble_eq_true rfl, Nat.le_of_ble_eq_true rfl⟩) hK hN hP hD hS hA rfl rfl rfl rfl rfl rfl (by decide) rfl rfl rfl hl.1 rfl (Nat.le_of_ble_eq_true rfl) dX8_play_42 ⟨Nat.zero_le _, Nat.zero_le _⟩ (fun H locs hP hD hS => ?_)
    refine lv_if_eq (tgt := 55) hx hb dX8_play_45 (by decide) (fun c7 => ?_) (fun c7 => ?_)
    · have hf := k_T c7 hf
      refine lv_iconst (v := 0) hx hb dX8_play_55 (by decide) ?_
      obtain rfl := k_some hf
      exact k_iret hx hb hr hP hD hS dX8_play_56 hlocks
    · have hf := k_F c7 hf
      refine lv_aload_n hx hb dX8_play_48 rfl (lv_at hl 1 rfl) ?_
      refine va_get (D := D) (ci := 5) (v := .int v6.2.2.2.2.2.2.2.2.1) (C := RX8) (T := TX8) (N := 21) hx hb hts in_X8 hown hK hP 0 rfl rfl 18 (by decide) fl183 (fun _ h9 => h9) rfl dX8_play_49 ?_
      refine lv_goto (tgt := 56) hx hb dX8_play_52 (by decide) ?_
      obtain rfl := k_some hf
      exact k_iret hx hb hr hP hD hS dX8_play_56 hlocks
  · have hf := k_T c4 hf
    refine lv_aload_n hx hb dX8_play_31 rfl (lv_at hl 1 rfl) ?_
    refine lv_iconst (v := 1) hx hb dX8_play_32 (by decide) ?_
    obtain ⟨v8, hv8, hf⟩ := k_B hf
    refine k_callHV (As := [.int 1]) (rest := []) (r := (RX8, TX8, 21)) (ci := 5) (q0 := 0) (isC := [0, 1, 2, 3, 4, 5, 6, 7, 8, 9]) (isR := []) (perm := [0, 1, 2, 3, 4, 5, 6, 7, 8, 9]) (w' := (wX8 cy h0 sa pa ka aa oa wa ca ta na mOp mIk v2.2.1 v2.2.2.1 v8.2 mTy v2.2.2.2.2.1 v2.2.2.2.2.2.1 v2.2.2.2.2.2.2.1 v2.2.2.2.2.2.2.2.1 v2.2.2.2.2.2.2.2.2.1 v2.2.2.2.2.2.2.2.2.2.1 v3 v2.2.2.2.2.2.2.2.2.2.2.2.1 rK v1 rO rW rC rT v2.2.2.2.2.2.2.2.2.2.2.2.2)) ⟨hx, hb, hml, hown, hts⟩ (c_X8_fails l D cy h0 sa pa ka aa oa wa ca ta na mOp mIk v2.2.1 v2.2.2.1 v2.2.2.2.1 mTy v2.2.2.2.2.1 v2.2.2.2.2.2.1 v2.2.2.2.2.2.2.1 v2.2.2.2.2.2.2.2.1 v2.2.2.2.2.2.2.2.2.1 v2.2.2.2.2.2.2.2.2.2.1 v3 v2.2.2.2.2.2.2.2.2.2.2.2.1 rK v1 rO rW rC rT v2.2.2.2.2.2.2.2.2.2.2.2.2 1 v8 hv8) (cwV 1 hts gX8_play_X8_fails rfl rfl rfl hd_X8_fails ⟨Nat.le_of_ble_eq_true rfl, Nat.le_of_ble_eq_true rfl⟩) hK hN hP hD hS hA rfl rfl rfl rfl rfl rfl (by decide) rfl rfl rfl hl.1 rfl (Nat.le_of_ble_eq_true rfl) dX8_play_33 ⟨Nat.zero_le _, Nat.zero_le _⟩ (fun H locs hP hD hS => ?_)
    obtain rfl := k_some hf
    exact k_iret hx hb hr hP hD hS dX8_play_36 hlocks
