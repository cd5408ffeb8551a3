def f_case14 (a : Int32) (gm : k_G8) (mLa : Int32) (rS : Nat → Int32) (out : Nat → Int64) : Option (Int32 × (Nat → Int64)) :=
  (f_L_isSafe a gm out).bind fun v1 =>
  (f_X8_isSafe a mLa rS).bind fun v2 =>
  (f_X8_thrown v2.2).bind fun v3 =>
  if v3 = v1.1 then
    if v1.1 = 0 then
      if v2.1 = 0 then
        if (lg_cmp (v1.2 0) (0 : Int64)) = 0 then
          some (v2.2, v1.2)
        else
          none
      else
        if (lg_cmp (v1.2 0) (1 : Int64)) = 0 then
          some (v2.2, v1.2)
        else
          none
    else
      some (v2.2, v1.2)
  else
    none
set_option maxHeartbeats 4000000 in
set_option maxRecDepth 100000 in
theorem c_case14 (l : Launch) (hl9 : l.stackTraces = false) {p : Program} {e : Env} {s : State} {m : MethodId} {below : List Frame} {meth : Method} {c : Code} {b L : Nat} {xs : Nat → Int32} {D : va_G} {cy : Nat → ClassId} (C : k_LC p s m c b L xs D cy) (Q : State → Prop) (h0 gma sna hia ka ora cha tra ena opa foa mo sa pa kb aa oa wa ca ta na ua : Nat) (gm : k_G8) (sn : k_G8) (hs : Int32) (qs : k_Q4) (k0 : k_G8) (k1 : k_G8) (k2 : k_G8) (k3 : k_G8) (ch : Nat → Int32) (o : k_O5) (tr : k_G8) (es : Int32) (op : Nat → Int32) (fo : Nat → Int32) (has : Int32) (mOp : Int32) (mIk : Int32) (mPa : Int32) (mRu : Int32) (mLa : Int32) (mTy : Int32) (mSp : Int32) (mFr : Int32) (mRe : Int32) (mCa : Int32) (mOr : Int32) (mLe : Int32) (rS : Nat → Int32) (rP : Nat → Int32) (rK : Nat → Int32) (rA : Nat → Int32) (rO : Nat → Int32) (rW : Nat → Int32) (rC : Nat → Int32) (rT : Nat → Int32) (rN : Nat → Int32) (out : Nat → Int64) (i a : Int32) (hi : vp_in (i + 1) L) (ha : a = xs (i + 1).toNatClampNeg) (r : Int32 × (Nat → Int64)) (hf : f_case14 a gm mLa rS out = some r) (cells slots : Nat) (hc : cells + 1 ≤ room_1.cells) (hsl : slots + 6 ≤ room_1.slots) (ls : Array Slot) (H : Heap) (locs : List Loc) (hl : lv_has ls 9 [(4, .int i), (3, .ref ua), (2, .ref mo), (1, .ref h0), (0, .ref b)]) (hP : va_P D vwCl ((wX7 cy h0 gma sna hia ka ora cha tra ena opa foa gm sn hs qs k0 k1 k2 k3 ch o tr es op fo has) ++ ((wX8 cy mo sa pa kb aa oa wa ca ta na mOp mIk mPa mRu mLa mTy mSp mFr mRe mCa mOr mLe rS rP rK rA rO rW rC rT rN) ++ [wL cy ua out])) H) (hD : va_D (k_A s) ((wX7 cy h0 gma sna hia ka ora cha tra ena opa foa gm sn hs qs k0 k1 k2 k3 ch o tr es op fo has) ++ ((wX8 cy mo sa pa kb aa oa wa ca ta na mOp mIk mPa mRu mLa mTy mSp mFr mRe mCa mOr mLe rS rP rK rA rO rW rC rT rN) ++ [wL cy ua out]))) (hS : va_S (k_A s) s.heap H locs) (kk : ∀ (ls : Array Slot) (H : Heap) (locs : List Loc), lv_has ls 9 [(4, .int i), (3, .ref ua), (2, .ref mo), (1, .ref h0), (0, .ref b)] → va_P D vwCl ((wX7 cy h0 gma sna hia ka ora cha tra ena opa foa gm sn hs qs k0 k1 k2 k3 ch o tr es op fo has) ++ ((wX8 cy mo sa pa kb aa oa wa ca ta na mOp mIk mPa mRu r.1 mTy mSp mFr mRe mCa mOr mLe rS rP rK rA rO rW rC rT rN) ++ [wL cy ua r.2])) H → va_D (k_A s) ((wX7 cy h0 gma sna hia ka ora cha tra ena opa foa gm sn hs qs k0 k1 k2 k3 ch o tr es op fo has) ++ ((wX8 cy mo sa pa kb aa oa wa ca ta na mOp mIk mPa mRu r.1 mTy mSp mFr mRe mCa mOr mLe rS rP rK rA rO rW rC rT rN) ++ [wL cy ua r.2])) → va_S (k_A s) s.heap H locs → W p l e room_1 s m #[Value.ref b] below meth c H locs (cells + 1) (slots + 6) Q (F0 m 1650 ls [])) : W p l e room_1 s m #[Value.ref b] below meth c H locs cells slots Q (F0 m 737 ls []) := by
  obtain ⟨hx, hb, hml, hown, hts, hX, hbl, hK, hN, hT, hZ, hCx⟩ := C
  have hA : ∀ q : Nat, s.heap.size ≤ q → k_A s q := fun _ h9 => h9
  unfold f_case14 at hf
  refine lv_aload_n hx hb dL_law_737 rfl (lv_at hl 3 rfl) ?_
  refine lv_aload_n hx hb dL_law_738 rfl (lv_at hl 4 rfl) ?_
  refine lv_iload hx hb dL_law_739 (lv_at hl 0 rfl) ?_
  refine lv_iconst (v := 1) hx hb dL_law_741 (by decide) ?_
  refine lv_iadd hx hb dL_law_742 ?_
  refine va_sld hx hb hX hbl (Nat.not_le.mpr hbl) hS hi dL_law_743 ?_
  refine k_name ha ?_
  refine lv_aload_n hx hb dL_law_744 rfl (lv_at hl 1 rfl) ?_
  obtain ⟨v1, hv1, hf⟩ := k_B hf
  refine k_callLS (As := [.ref h0, .int a, .ref ua]) (rest := []) (isC := [0, 1, 2, 3, 4, 5, 6, 7, 8, 9, 10, 11, 12, 13, 14, 25]) (isR := [15, 16, 17, 18, 19, 20, 21, 22, 23, 24]) (perm := [10, 11, 12, 13, 14, 15, 16, 17, 18, 19, 20, 21, 22, 23, 24, 0, 1, 2, 3, 4, 5, 6, 7, 8, 9, 25]) (w' := ((wX7 cy h0 gma sna hia ka ora cha tra ena opa foa gm sn hs qs k0 k1 k2 k3 ch o tr es op fo has) ++ ((wX8 cy mo sa pa kb aa oa wa ca ta na mOp mIk mPa mRu mLa mTy mSp mFr mRe mCa mOr mLe rS rP rK rA rO rW rC rT rN) ++ [wL cy ua v1.2]))) ⟨hx, hb, hml, hown, hts⟩ (c_L_isSafe l hl9 D cy h0 gma sna hia ka ora cha tra ena opa foa ua gm sn hs qs k0 k1 k2 k3 ch o tr es op fo has out a v1 hv1) (vx_cwSW 3 hts gL_law_L_isSafe rfl rfl rfl hd_L_isSafe ⟨Nat.le_of_ble_eq_true rfl, Nat.le_of_ble_eq_true rfl⟩) hK hN hT hZ hCx hP hD hS (fun _ h9 => h9) rfl rfl rfl (by decide) (by decide) rfl (by decide) rfl hl.1 rfl (Nat.le_of_ble_eq_true rfl) dL_law_745 ⟨hc, hsl⟩ (fun H locs hP hD hS => ?_)
  refine lv_istore (lv' := [(5, .int v1.1), (4, .int i), (3, .ref ua), (2, .ref mo), (1, .ref h0), (0, .ref b)]) hx hb dL_law_748 hl (by decide) rfl (fun ls hl => ?_)
  refine lv_aload_n hx hb dL_law_750 rfl (lv_at hl 3 rfl) ?_
  refine lv_aload_n hx hb dL_law_751 rfl (lv_at hl 5 rfl) ?_
  refine lv_iload hx hb dL_law_752 (lv_at hl 1 rfl) ?_
  refine lv_iconst (v := 1) hx hb dL_law_754 (by decide) ?_
  refine lv_iadd hx hb dL_law_755 ?_
  refine va_sld hx hb hX hbl (Nat.not_le.mpr hbl) hS hi dL_law_756 ?_
  refine k_name ha ?_
  obtain ⟨v2, hv2, hf⟩ := k_B hf
  refine k_callHV (As := [.int a]) (rest := []) (r := (RX8, TX8, 21)) (ci := 5) (q0 := 15) (isC := [15, 16, 17, 18, 19, 20, 21, 22, 23, 24]) (isR := [0, 1, 2, 3, 4, 5, 6, 7, 8, 9, 10, 11, 12, 13, 14, 25]) (perm := [0, 1, 2, 3, 4, 5, 6, 7, 8, 9, 10, 11, 12, 13, 14, 16, 17, 18, 19, 20, 21, 22, 23, 24, 25, 15]) (w' := ((wX7 cy h0 gma sna hia ka ora cha tra ena opa foa gm sn hs qs k0 k1 k2 k3 ch o tr es op fo has) ++ ((wX8 cy mo sa pa kb aa oa wa ca ta na mOp mIk mPa mRu v2.2 mTy mSp mFr mRe mCa mOr mLe rS rP rK rA rO rW rC rT rN) ++ [wL cy ua v1.2]))) ⟨hx, hb, hml, hown, hts⟩ (c_X8_isSafe l D cy mo sa pa kb aa oa wa ca ta na mOp mIk mPa mRu mLa mTy mSp mFr mRe mCa mOr mLe rS rP rK rA rO rW rC rT rN a v2 hv2) (cwV 1 hts gL_law_X8_isSafe rfl rfl rfl hd_X8_isSafe ⟨Nat.le_of_ble_eq_true rfl, Nat.le_of_ble_eq_true rfl⟩) hK hN hP hD hS hA rfl rfl rfl rfl rfl rfl (by decide) rfl rfl rfl hl.1 rfl (Nat.le_of_ble_eq_true rfl) dL_law_757 ⟨hc, hsl⟩ (fun H locs hP hD hS => ?_)
  refine lv_istore (lv' := [(6, .int v2.1), (5, .int v1.1), (4, .int i), (3, .ref ua), (2, .ref mo), (1, .ref h0), (0, .ref b)]) hx hb dL_law_760 hl (by decide) rfl (fun ls hl => ?_)
  refine lv_aload_n hx hb dL_law_762 rfl (lv_at hl 4 rfl) ?_
  obtain ⟨v3, hv3, hf⟩ := k_B hf
  refine k_callHV (As := []) (rest := []) (r := (RX8, TX8, 21)) (ci := 5) (q0 := 15) (isC := [15, 16, 17, 18, 19, 20, 21, 22, 23, 24]) (isR := [0, 1, 2, 3, 4, 5, 6, 7, 8, 9, 10, 11, 12, 13, 14, 25]) (perm := [0, 1, 2, 3, 4, 5, 6, 7, 8, 9, 10, 11, 12, 13, 14, 16, 17, 18, 19, 20, 21, 22, 23, 24, 25, 15]) (w' := ((wX7 cy h0 gma sna hia ka ora cha tra ena opa foa gm sn hs qs k0 k1 k2 k3 ch o tr es op fo has) ++ ((wX8 cy mo sa pa kb aa oa wa ca ta na mOp mIk mPa mRu v2.2 mTy mSp mFr mRe mCa mOr mLe rS rP rK rA rO rW rC rT rN) ++ [wL cy ua v1.2]))) ⟨hx, hb, hml, hown, hts⟩ (c_X8_thrown l D cy mo sa pa kb aa oa wa ca ta na mOp mIk mPa mRu v2.2 mTy mSp mFr mRe mCa mOr mLe rS rP rK rA rO rW rC rT rN  v3 hv3) (cwV 0 hts gL_law_X8_thrown rfl rfl rfl hd_X8_thrown ⟨Nat.le_of_ble_eq_true rfl, Nat.le_of_ble_eq_true rfl⟩) hK hN hP hD hS hA rfl rfl rfl rfl rfl rfl (by decide) rfl rfl rfl hl.1 rfl (Nat.le_of_ble_eq_true rfl) dL_law_763 ⟨hc, hsl⟩ (fun H locs hP hD hS => ?_)
  refine lv_iload hx hb dL_law_766 (lv_at hl 1 rfl) ?_
  refine lv_icmp_eq (tgt := 773) hx hb dL_law_768 (by decide) (fun c4 => ?_) (fun c4 => ?_)
  · have hf := k_T c4 hf
    refine lv_iload hx hb dL_law_773 (lv_at hl 1 rfl) ?_
    refine lv_if_ne (tgt := 797) hx hb dL_law_775 (by decide) (fun c5 => ?_) (fun c5 => ?_)
    · have hf := k_F c5 hf
      refine lv_goto (tgt := 1650) hx hb dL_law_797 (by decide) ?_
      obtain rfl := k_some hf
      exact kk ls H locs (lv_sub hl [2, 3, 4, 5, 6] rfl) hP hD hS
    · have hf := k_T c5 hf
      refine lv_aload_n hx hb dL_law_778 rfl (lv_at hl 3 rfl) ?_
      refine lv_iconst (v := 0) hx hb dL_law_779 (by decide) ?_
      refine va_lald hx hb hK hP 25 3 rfl rfl (k_in (i := 0) (n := 1) (by decide +kernel)) dL_law_780 ?_
      refine k_nameJ (v := v1.2 0) rfl ?_
      refine lv_iload hx hb dL_law_781 (lv_at hl 0 rfl) ?_
      refine lv_if_eq (tgt := 790) hx hb dL_law_783 (by decide) (fun c6 => ?_) (fun c6 => ?_)
      · have hf := k_T c6 hf
        refine lv_lconst (v := 0) hx hb dL_law_790 (by decide) ?_
        refine W.lcmp hx hb dL_law_791 ?_
        refine lv_if_eq (tgt := 797) hx hb dL_law_792 (by decide) (fun c7 => ?_) (fun c7 => ?_)
        · have hf := k_T c7 hf
          refine lv_goto (tgt := 1650) hx hb dL_law_797 (by decide) ?_
          obtain rfl := k_some hf
          exact kk ls H locs (lv_sub hl [2, 3, 4, 5, 6] rfl) hP hD hS
        · have hf := k_F c7 hf
          refine lv_iconst (v := 0) hx hb dL_law_795 (by decide) ?_
          cases hf
      · have hf := k_F c6 hf
        refine lv_lconst (v := 1) hx hb dL_law_786 (by decide) ?_
        refine lv_goto (tgt := 791) hx hb dL_law_787 (by decide) ?_
        refine W.lcmp hx hb dL_law_791 ?_
        refine lv_if_eq (tgt := 797) hx hb dL_law_792 (by decide) (fun c8 => ?_) (fun c8 => ?_)
        · have hf := k_T c8 hf
          refine lv_goto (tgt := 1650) hx hb dL_law_797 (by decide) ?_
          obtain rfl := k_some hf
          exact kk ls H locs (lv_sub hl [2, 3, 4, 5, 6] rfl) hP hD hS
        · have hf := k_F c8 hf
          refine lv_iconst (v := 0) hx hb dL_law_795 (by decide) ?_
          cases hf
  · have hf := k_F c4 hf
    refine lv_iconst (v := 0) hx hb dL_law_771 (by decide) ?_
    cases hf
def f_case15 (a : Int32) (gm : k_G8) (mLa : Int32) (rS : Nat → Int32) : Option (Int32) :=
  (f_X7_safeFences gm).bind fun v1 =>
  (f_X8_safeFences mLa rS).bind fun v2 =>
  if v1 = v2.1 then
    some v2.2
  else
    none
set_option maxHeartbeats 4000000 in
set_option maxRecDepth 100000 in
theorem c_case15 (l : Launch) (hl9 : l.stackTraces = false) {p : Program} {e : Env} {s : State} {m : MethodId} {below : List Frame} {meth : Method} {c : Code} {b L : Nat} {xs : Nat → Int32} {D : va_G} {cy : Nat → ClassId} (C : k_LC p s m c b L xs D cy) (Q : State → Prop) (h0 gma sna hia ka ora cha tra ena opa foa mo sa pa kb aa oa wa ca ta na ua : Nat) (gm : k_G8) (sn : k_G8) (hs : Int32) (qs : k_Q4) (k0 : k_G8) (k1 : k_G8) (k2 : k_G8) (k3 : k_G8) (ch : Nat → Int32) (o : k_O5) (tr : k_G8) (es : Int32) (op : Nat → Int32) (fo : Nat → Int32) (has : Int32) (mOp : Int32) (mIk : Int32) (mPa : Int32) (mRu : Int32) (mLa : Int32) (mTy : Int32) (mSp : Int32) (mFr : Int32) (mRe : Int32) (mCa : Int32) (mOr : Int32) (mLe : Int32) (rS : Nat → Int32) (rP : Nat → Int32) (rK : Nat → Int32) (rA : Nat → Int32) (rO : Nat → Int32) (rW : Nat → Int32) (rC : Nat → Int32) (rT : Nat → Int32) (rN : Nat → Int32) (out : Nat → Int64) (i a : Int32) (hi : vp_in (i + 1) L) (ha : a = xs (i + 1).toNatClampNeg) (r : Int32) (hf : f_case15 a gm mLa rS = some r) (cells slots : Nat) (hc : cells + 1 ≤ room_1.cells) (hsl : slots + 6 ≤ room_1.slots) (ls : Array Slot) (H : Heap) (locs : List Loc) (hl : lv_has ls 9 [(4, .int i), (3, .ref ua), (2, .ref mo), (1, .ref h0), (0, .ref b)]) (hP : va_P D vwCl ((wX7 cy h0 gma sna hia ka ora cha tra ena opa foa gm sn hs qs k0 k1 k2 k3 ch o tr es op fo has) ++ ((wX8 cy mo sa pa kb aa oa wa ca ta na mOp mIk mPa mRu mLa mTy mSp mFr mRe mCa mOr mLe rS rP rK rA rO rW rC rT rN) ++ [wL cy ua out])) H) (hD : va_D (k_A s) ((wX7 cy h0 gma sna hia ka ora cha tra ena opa foa gm sn hs qs k0 k1 k2 k3 ch o tr es op fo has) ++ ((wX8 cy mo sa pa kb aa oa wa ca ta na mOp mIk mPa mRu mLa mTy mSp mFr mRe mCa mOr mLe rS rP rK rA rO rW rC rT rN) ++ [wL cy ua out]))) (hS : va_S (k_A s) s.heap H locs) (kk : ∀ (ls : Array Slot) (H : Heap) (locs : List Loc), lv_has ls 9 [(4, .int i), (3, .ref ua), (2, .ref mo), (1, .ref h0), (0, .ref b)] → va_P D vwCl ((wX7 cy h0 gma sna hia ka ora cha tra ena opa foa gm sn hs qs k0 k1 k2 k3 ch o tr es op fo has) ++ ((wX8 cy mo sa pa kb aa oa wa ca ta na mOp mIk mPa mRu r mTy mSp mFr mRe mCa mOr mLe rS rP rK rA rO rW rC rT rN) ++ [wL cy ua out])) H → va_D (k_A s) ((wX7 cy h0 gma sna hia ka ora cha tra ena opa foa gm sn hs qs k0 k1 k2 k3 ch o tr es op fo has) ++ ((wX8 cy mo sa pa kb aa oa wa ca ta na mOp mIk mPa mRu r mTy mSp mFr mRe mCa mOr mLe rS rP rK rA rO rW rC rT rN) ++ [wL cy ua out])) → va_S (k_A s) s.heap H locs → W p l e room_1 s m #[Value.ref b] below meth c H locs (cells + 1) (slots + 6) Q (F0 m 1650 ls [])) : W p l e room_1 s m #[Value.ref b] below meth c H locs cells slots Q (F0 m 800 ls []) := by
  obtain ⟨hx, hb, hml, hown, hts, hX, hbl, hK, hN, hT, hZ, hCx⟩ := C
  have hA : ∀ q : Nat, s.heap.size ≤ q → k_A s q := fun _ h9 => h9
  unfold f_case15 at hf
  refine lv_aload_n hx hb dL_law_800 rfl (lv_at hl 3 rfl) ?_
  obtain ⟨v1, hv1, hf⟩ := k_B hf
  refine k_callHV (As := []) (rest := []) (r := (RX7, TX7, 6)) (ci := 4) (q0 := 0) (isC := [0, 1, 2, 3, 4, 5, 6, 7, 8, 9, 10, 11, 12, 13, 14]) (isR := [15, 16, 17, 18, 19, 20, 21, 22, 23, 24, 25]) (perm := [11, 12, 13, 14, 15, 16, 17, 18, 19, 20, 21, 22, 23, 24, 25, 0, 1, 2, 3, 4, 5, 6, 7, 8, 9, 10]) (w' := ((wX7 cy h0 gma sna hia ka ora cha tra ena opa foa gm sn hs qs k0 k1 k2 k3 ch o tr es op fo has) ++ ((wX8 cy mo sa pa kb aa oa wa ca ta na mOp mIk mPa mRu mLa mTy mSp mFr mRe mCa mOr mLe rS rP rK rA rO rW rC rT rN) ++ [wL cy ua out]))) ⟨hx, hb, hml, hown, hts⟩ (c_X7_safeFences l D cy h0 gma sna hia ka ora cha tra ena opa foa gm sn hs qs k0 k1 k2 k3 ch o tr es op fo has  v1 hv1) (cwV 0 hts gL_law_X7_safeFences rfl rfl rfl hd_X7_safeFences ⟨Nat.le_of_ble_eq_true rfl, Nat.le_of_ble_eq_true rfl⟩) hK hN hP hD hS hA rfl rfl rfl rfl rfl rfl (by decide) rfl rfl rfl hl.1 rfl (Nat.le_of_ble_eq_true rfl) dL_law_801 ⟨Nat.le_of_succ_le hc, k_le6 hsl⟩ (fun H locs hP hD hS => ?_)
  refine lv_aload_n hx hb dL_law_804 rfl (lv_at hl 2 rfl) ?_
  obtain ⟨v2, hv2, hf⟩ := k_B hf
  refine k_callHV (As := []) (rest := [.int v1]) (r := (RX8, TX8, 21)) (ci := 5) (q0 := 15) (isC := [15, 16, 17, 18, 19, 20, 21, 22, 23, 24]) (isR := [0, 1, 2, 3, 4, 5, 6, 7, 8, 9, 10, 11, 12, 13, 14, 25]) (perm := [0, 1, 2, 3, 4, 5, 6, 7, 8, 9, 10, 11, 12, 13, 14, 16, 17, 18, 19, 20, 21, 22, 23, 24, 25, 15]) (w' := ((wX7 cy h0 gma sna hia ka ora cha tra ena opa foa gm sn hs qs k0 k1 k2 k3 ch o tr es op fo has) ++ ((wX8 cy mo sa pa kb aa oa wa ca ta na mOp mIk mPa mRu v2.2 mTy mSp mFr mRe mCa mOr mLe rS rP rK rA rO rW rC rT rN) ++ [wL cy ua out]))) ⟨hx, hb, hml, hown, hts⟩ (c_X8_safeFences l D cy mo sa pa kb aa oa wa ca ta na mOp mIk mPa mRu mLa mTy mSp mFr mRe mCa mOr mLe rS rP rK rA rO rW rC rT rN  v2 hv2) (cwV 0 hts gL_law_X8_safeFences rfl rfl rfl hd_X8_safeFences ⟨Nat.le_of_ble_eq_true rfl, Nat.le_of_ble_eq_true rfl⟩) hK hN hP hD hS hA rfl rfl rfl rfl rfl rfl (by decide) rfl rfl rfl hl.1 rfl (Nat.le_of_ble_eq_true rfl) dL_law_805 ⟨Nat.le_of_succ_le hc, k_le6 hsl⟩ (fun H locs hP hD hS => ?_)
  refine lv_icmp_eq (tgt := 1650) hx hb dL_law_808 (by decide) (fun c3 => ?_) (fun c3 => ?_)
  · have hf := k_T c3 hf
    obtain rfl := k_some hf
    refine W.widen (Nat.le_succ _) (Nat.le_add_right _ 6) ?_
    exact kk ls H locs (lv_sub hl [0, 1, 2, 3, 4] rfl) hP hD hS
  · have hf := k_F c3 hf
    refine lv_iconst (v := 0) hx hb dL_law_811 (by decide) ?_
    cases hf
def f_case16 (a : Int32) (gm : k_G8) (mLa : Int32) (rS : Nat → Int32) : Option (Int32) :=
  (f_X7_safeInRow gm).bind fun v1 =>
  (f_X8_safeInRow mLa rS).bind fun v2 =>
  if v1 = v2.1 then
    some v2.2
  else
    none
set_option maxHeartbeats 4000000 in
set_option maxRecDepth 100000 in
theorem c_case16 (l : Launch) (hl9 : l.stackTraces = false) {p : Program} {e : Env} {s : State} {m : MethodId} {below : List Frame} {meth : Method} {c : Code} {b L : Nat} {xs : Nat → Int32} {D : va_G} {cy : Nat → ClassId} (C : k_LC p s m c b L xs D cy) (Q : State → Prop) (h0 gma sna hia ka ora cha tra ena opa foa mo sa pa kb aa oa wa ca ta na ua : Nat) (gm : k_G8) (sn : k_G8) (hs : Int32) (qs : k_Q4) (k0 : k_G8) (k1 : k_G8) (k2 : k_G8) (k3 : k_G8) (ch : Nat → Int32) (o : k_O5) (tr : k_G8) (es : Int32) (op : Nat → Int32) (fo : Nat → Int32) (has : Int32) (mOp : Int32) (mIk : Int32) (mPa : Int32) (mRu : Int32) (mLa : Int32) (mTy : Int32) (mSp : Int32) (mFr : Int32) (mRe : Int32) (mCa : Int32) (mOr : Int32) (mLe : Int32) (rS : Nat → Int32) (rP : Nat → Int32) (rK : Nat → Int32) (rA : Nat → Int32) (rO : Nat → Int32) (rW : Nat → Int32) (rC : Nat → Int32) (rT : Nat → Int32) (rN : Nat → Int32) (out : Nat → Int64) (i a : Int32) (hi : vp_in (i + 1) L) (ha : a = xs (i + 1).toNatClampNeg) (r : Int32) (hf : f_case16 a gm mLa rS = some r) (cells slots : Nat) (hc : cells + 1 ≤ room_1.cells) (hsl : slots + 6 ≤ room_1.slots) (ls : Array Slot) (H : Heap) (locs : List Loc) (hl : lv_has ls 9 [(4, .int i), (3, .ref ua), (2, .ref mo), (1, .ref h0), (0, .ref b)]) (hP : va_P D vwCl ((wX7 cy h0 gma sna hia ka ora cha tra ena opa foa gm sn hs qs k0 k1 k2 k3 ch o tr es op fo has) ++ ((wX8 cy mo sa pa kb aa oa wa ca ta na mOp mIk mPa mRu mLa mTy mSp mFr mRe mCa mOr mLe rS rP rK rA rO rW rC rT rN) ++ [wL cy ua out])) H) (hD : va_D (k_A s) ((wX7 cy h0 gma sna hia ka ora cha tra ena opa foa gm sn hs qs k0 k1 k2 k3 ch o tr es op fo has) ++ ((wX8 cy mo sa pa kb aa oa wa ca ta na mOp mIk mPa mRu mLa mTy mSp mFr mRe mCa mOr mLe rS rP rK rA rO rW rC rT rN) ++ [wL cy ua out]))) (hS : va_S (k_A s) s.heap H locs) (kk : ∀ (ls : Array Slot) (H : Heap) (locs : List Loc), lv_has ls 9 [(4, .int i), (3, .ref ua), (2, .ref mo), (1, .ref h0), (0, .ref b)] → va_P D vwCl ((wX7 cy h0 gma sna hia ka ora cha tra ena opa foa gm sn hs qs k0 k1 k2 k3 ch o tr es op fo has) ++ ((wX8 cy mo sa pa kb aa oa wa ca ta na mOp mIk mPa mRu r mTy mSp mFr mRe mCa mOr mLe rS rP rK rA rO rW rC rT rN) ++ [wL cy ua out])) H → va_D (k_A s) ((wX7 cy h0 gma sna hia ka ora cha tra ena opa foa gm sn hs qs k0 k1 k2 k3 ch o tr es op fo has) ++ ((wX8 cy mo sa pa kb aa oa wa ca ta na mOp mIk mPa mRu r mTy mSp mFr mRe mCa mOr mLe rS rP rK rA rO rW rC rT rN) ++ [wL cy ua out])) → va_S (k_A s) s.heap H locs → W p l e room_1 s m #[Value.ref b] below meth c H locs (cells + 1) (slots + 6) Q (F0 m 1650 ls [])) : W p l e room_1 s m #[Value.ref b] below meth c H locs cells slots Q (F0 m 813 ls []) := by
  obtain ⟨hx, hb, hml, hown, hts, hX, hbl, hK, hN, hT, hZ, hCx⟩ := C
  have hA : ∀ q : Nat, s.heap.size ≤ q → k_A s q := fun _ h9 => h9
  unfold f_case16 at hf
  refine lv_aload_n hx hb dL_law_813 rfl (lv_at hl 3 rfl) ?_
  obtain ⟨v1, hv1, hf⟩ := k_B hf
  refine k_callHV (As := []) (rest := []) (r := (RX7, TX7, 6)) (ci := 4) (q0 := 0) (isC := [0, 1, 2, 3, 4, 5, 6, 7, 8, 9, 10, 11, 12, 13, 14]) (isR := [15, 16, 17, 18, 19, 20, 21, 22, 23, 24, 25]) (perm := [11, 12, 13, 14, 15, 16, 17, 18, 19, 20, 21, 22, 23, 24, 25, 0, 1, 2, 3, 4, 5, 6, 7, 8, 9, 10]) (w' := ((wX7 cy h0 gma sna hia ka ora cha tra ena opa foa gm sn hs qs k0 k1 k2 k3 ch o tr es op fo has) ++ ((wX8 cy mo sa pa kb aa oa wa ca ta na mOp mIk mPa mRu mLa mTy mSp mFr mRe mCa mOr mLe rS rP rK rA rO rW rC rT rN) ++ [wL cy ua out]))) ⟨hx, hb, hml, hown, hts⟩ (c_X7_safeInRow l D cy h0 gma sna hia ka ora cha tra ena opa foa gm sn hs qs k0 k1 k2 k3 ch o tr es op fo has  v1 hv1) (cwV 0 hts gL_law_X7_safeInRow rfl rfl rfl hd_X7_safeInRow ⟨Nat.le_of_ble_eq_true rfl, Nat.le_of_ble_eq_true rfl⟩) hK hN hP hD hS hA rfl rfl rfl rfl rfl rfl (by decide) rfl rfl rfl hl.1 rfl (Nat.le_of_ble_eq_true rfl) dL_law_814 ⟨Nat.le_of_succ_le hc, k_le6 hsl⟩ (fun H locs hP hD hS => ?_)
  refine lv_aload_n hx hb dL_law_817 rfl (lv_at hl 2 rfl) ?_
  obtain ⟨v2, hv2, hf⟩ := k_B hf
  refine k_callHV (As := []) (rest := [.int v1]) (r := (RX8, TX8, 21)) (ci := 5) (q0 := 15) (isC := [15, 16, 17, 18, 19, 20, 21, 22, 23, 24]) (isR := [0, 1, 2, 3, 4, 5, 6, 7, 8, 9, 10, 11, 12, 13, 14, 25]) (perm := [0, 1, 2, 3, 4, 5, 6, 7, 8, 9, 10, 11, 12, 13, 14, 16, 17, 18, 19, 20, 21, 22, 23, 24, 25, 15]) (w' := ((wX7 cy h0 gma sna hia ka ora cha tra ena opa foa gm sn hs qs k0 k1 k2 k3 ch o tr es op fo has) ++ ((wX8 cy mo sa pa kb aa oa wa ca ta na mOp mIk mPa mRu v2.2 mTy mSp mFr mRe mCa mOr mLe rS rP rK rA rO rW rC rT rN) ++ [wL cy ua out]))) ⟨hx, hb, hml, hown, hts⟩ (c_X8_safeInRow l D cy mo sa pa kb aa oa wa ca ta na mOp mIk mPa mRu mLa mTy mSp mFr mRe mCa mOr mLe rS rP rK rA rO rW rC rT rN  v2 hv2) (cwV 0 hts gL_law_X8_safeInRow rfl rfl rfl hd_X8_safeInRow ⟨Nat.le_of_ble_eq_true rfl, Nat.le_of_ble_eq_true rfl⟩) hK hN hP hD hS hA rfl rfl rfl rfl rfl rfl (by decide) rfl rfl rfl hl.1 rfl (Nat.le_of_ble_eq_true rfl) dL_law_818 ⟨Nat.le_of_succ_le hc, k_le6 hsl⟩ (fun H locs hP hD hS => ?_)
  refine lv_icmp_eq (tgt := 1650) hx hb dL_law_821 (by decide) (fun c3 => ?_) (fun c3 => ?_)
  · have hf := k_T c3 hf
    obtain rfl := k_some hf
    refine W.widen (Nat.le_succ _) (Nat.le_add_right _ 6) ?_
    exact kk ls H locs (lv_sub hl [0, 1, 2, 3, 4] rfl) hP hD hS
  · have hf := k_F c3 hf
    refine lv_iconst (v := 0) hx hb dL_law_824 (by decide) ?_
    cases hf
def f_case17 (a : Int32) (gm : k_G8) (mLa : Int32) (rS : Nat → Int32) (out : Nat → Int64) : Option (Int32 × (Nat → Int64)) :=
  (f_L_gives a gm out).bind fun v1 =>
  (f_X8_gives a mLa rS).bind fun v2 =>
  (f_X8_thrown v2.2).bind fun v3 =>
  if v3 = v1.1 then
    if v1.1 = 0 then
      if (lg_cmp (v1.2 0) v2.1.toInt64) = 0 then
        some (v2.2, v1.2)
      else
        none
    else
      some (v2.2, v1.2)
  else
    none
set_option maxHeartbeats 4000000 in
set_option maxRecDepth 100000 in
theorem c_case17 (l : Launch) (hl9 : l.stackTraces = false) {p : Program} {e : Env} {s : State} {m : MethodId} {below : List Frame} {meth : Method} {c : Code} {b L : Nat} {xs : Nat → Int32} {D : va_G} {cy : Nat → ClassId} (C : k_LC p s m c b L xs D cy) (Q : State → Prop) (h0 gma sna hia ka ora cha tra ena opa foa mo sa pa kb aa oa wa ca ta na ua : Nat) (gm : k_G8) (sn : k_G8) (hs : Int32) (qs : k_Q4) (k0 : k_G8) (k1 : k_G8) (k2 : k_G8) (k3 : k_G8) (ch : Nat → Int32) (o : k_O5) (tr : k_G8) (es : Int32) (op : Nat → Int32) (fo : Nat → Int32) (has : Int32) (mOp : Int32) (mIk : Int32) (mPa : Int32) (mRu : Int32) (mLa : Int32) (mTy : Int32) (mSp : Int32) (mFr : Int32) (mRe : Int32) (mCa : Int32) (mOr : Int32) (mLe : Int32) (rS : Nat → Int32) (rP : Nat → Int32) (rK : Nat → Int32) (rA : Nat → Int32) (rO : Nat → Int32) (rW : Nat → Int32) (rC : Nat → Int32) (rT : Nat → Int32) (rN : Nat → Int32) (out : Nat → Int64) (i a : Int32) (hi : vp_in (i + 1) L) (ha : a = xs (i + 1).toNatClampNeg) (r : Int32 × (Nat → Int64)) (hf : f_case17 a gm mLa rS out = some r) (cells slots : Nat) (hc : cells + 1 ≤ room_1.cells) (hsl : slots + 6 ≤ room_1.slots) (ls : Array Slot) (H : Heap) (locs : List Loc) (hl : lv_has ls 9 [(4, .int i), (3, .ref ua), (2, .ref mo), (1, .ref h0), (0, .ref b)]) (hP : va_P D vwCl ((wX7 cy h0 gma sna hia ka ora cha tra ena opa foa gm sn hs qs k0 k1 k2 k3 ch o tr es op fo has) ++ ((wX8 cy mo sa pa kb aa oa wa ca ta na mOp mIk mPa mRu mLa mTy mSp mFr mRe mCa mOr mLe rS rP rK rA rO rW rC rT rN) ++ [wL cy ua out])) H) (hD : va_D (k_A s) ((wX7 cy h0 gma sna hia ka ora cha tra ena opa foa gm sn hs qs k0 k1 k2 k3 ch o tr es op fo has) ++ ((wX8 cy mo sa pa kb aa oa wa ca ta na mOp mIk mPa mRu mLa mTy mSp mFr mRe mCa mOr mLe rS rP rK rA rO rW rC rT rN) ++ [wL cy ua out]))) (hS : va_S (k_A s) s.heap H locs) (kk : ∀ (ls : Array Slot) (H : Heap) (locs : List Loc), lv_has ls 9 [(4, .int i), (3, .ref ua), (2, .ref mo), (1, .ref h0), (0, .ref b)] → va_P D vwCl ((wX7 cy h0 gma sna hia ka ora cha tra ena opa foa gm sn hs qs k0 k1 k2 k3 ch o tr es op fo has) ++ ((wX8 cy mo sa pa kb aa oa wa ca ta na mOp mIk mPa mRu r.1 mTy mSp mFr mRe mCa mOr mLe rS rP rK rA rO rW rC rT rN) ++ [wL cy ua r.2])) H → va_D (k_A s) ((wX7 cy h0 gma sna hia ka ora cha tra ena opa foa gm sn hs qs k0 k1 k2 k3 ch o tr es op fo has) ++ ((wX8 cy mo sa pa kb aa oa wa ca ta na mOp mIk mPa mRu r.1 mTy mSp mFr mRe mCa mOr mLe rS rP rK rA rO rW rC rT rN) ++ [wL cy ua r.2])) → va_S (k_A s) s.heap H locs → W p l e room_1 s m #[Value.ref b] below meth c H locs (cells + 1) (slots + 6) Q (F0 m 1650 ls [])) : W p l e room_1 s m #[Value.ref b] below meth c H locs cells slots Q (F0 m 826 ls []) := by
  obtain ⟨hx, hb, hml, hown, hts, hX, hbl, hK, hN, hT, hZ, hCx⟩ := C
  have hA : ∀ q : Nat, s.heap.size ≤ q → k_A s q := fun _ h9 => h9
  unfold f_case17 at hf
  refine lv_aload_n hx hb dL_law_826 rfl (lv_at hl 3 rfl) ?_
  refine lv_aload_n hx hb dL_law_827 rfl (lv_at hl 4 rfl) ?_
  refine lv_iload hx hb dL_law_828 (lv_at hl 0 rfl) ?_
  refine lv_iconst (v := 1) hx hb dL_law_830 (by decide) ?_
  refine lv_iadd hx hb dL_law_831 ?_
  refine va_sld hx hb hX hbl (Nat.not_le.mpr hbl) hS hi dL_law_832 ?_
  refine k_name ha ?_
  refine lv_aload_n hx hb dL_law_833 rfl (lv_at hl 1 rfl) ?_
  obtain ⟨v1, hv1, hf⟩ := k_B hf
  refine k_callLS (As := [.ref h0, .int a, .ref ua]) (rest := []) (isC := [0, 1, 2, 3, 4, 5, 6, 7, 8, 9, 10, 11, 12, 13, 14, 25]) (isR := [15, 16, 17, 18, 19, 20, 21, 22, 23, 24]) (perm := [10, 11, 12, 13, 14, 15, 16, 17, 18, 19, 20, 21, 22, 23, 24, 0, 1, 2, 3, 4, 5, 6, 7, 8, 9, 25]) (w' := ((wX7 cy h0 gma sna hia ka ora cha tra ena opa foa gm sn hs qs k0 k1 k2 k3 ch o tr es op fo has) ++ ((wX8 cy mo sa pa kb aa oa wa ca ta na mOp mIk mPa mRu mLa mTy mSp mFr mRe mCa mOr mLe rS rP rK rA rO rW rC rT rN) ++ [wL cy ua v1.2]))) ⟨hx, hb, hml, hown, hts⟩ (c_L_gives l hl9 D cy h0 gma sna hia ka ora cha tra ena opa foa ua gm sn hs qs k0 k1 k2 k3 ch o tr es op fo has out a v1 hv1) (vx_cwSW 3 hts gL_law_L_gives rfl rfl rfl hd_L_gives ⟨Nat.le_of_ble_eq_true rfl, Nat.le_of_ble_eq_true rfl⟩) hK hN hT hZ hCx hP hD hS (fun _ h9 => h9) rfl rfl rfl (by decide) (by decide) rfl (by decide) rfl hl.1 rfl (Nat.le_of_ble_eq_true rfl) dL_law_834 ⟨hc, hsl⟩ (fun H locs hP hD hS => ?_)
  refine lv_istore (lv' := [(5, .int v1.1), (4, .int i), (3, .ref ua), (2, .ref mo), (1, .ref h0), (0, .ref b)]) hx hb dL_law_837 hl (by decide) rfl (fun ls hl => ?_)
  refine lv_aload_n hx hb dL_law_839 rfl (lv_at hl 3 rfl) ?_
  refine lv_aload_n hx hb dL_law_840 rfl (lv_at hl 5 rfl) ?_
  refine lv_iload hx hb dL_law_841 (lv_at hl 1 rfl) ?_
  refine lv_iconst (v := 1) hx hb dL_law_843 (by decide) ?_
  refine lv_iadd hx hb dL_law_844 ?_
  refine va_sld hx hb hX hbl (Nat.not_le.mpr hbl) hS hi dL_law_845 ?_
  refine k_name ha ?_
  obtain ⟨v2, hv2, hf⟩ := k_B hf
  refine k_callHV (As := [.int a]) (rest := []) (r := (RX8, TX8, 21)) (ci := 5) (q0 := 15) (isC := [15, 16, 17, 18, 19, 20, 21, 22, 23, 24]) (isR := [0, 1, 2, 3, 4, 5, 6, 7, 8, 9, 10, 11, 12, 13, 14, 25]) (perm := [0, 1, 2, 3, 4, 5, 6, 7, 8, 9, 10, 11, 12, 13, 14, 16, 17, 18, 19, 20, 21, 22, 23, 24, 25, 15]) (w' := ((wX7 cy h0 gma sna hia ka ora cha tra ena opa foa gm sn hs qs k0 k1 k2 k3 ch o tr es op fo has) ++ ((wX8 cy mo sa pa kb aa oa wa ca ta na mOp mIk mPa mRu v2.2 mTy mSp mFr mRe mCa mOr mLe rS rP rK rA rO rW rC rT rN) ++ [wL cy ua v1.2]))) ⟨hx, hb, hml, hown, hts⟩ (c_X8_gives l D cy mo sa pa kb aa oa wa ca ta na mOp mIk mPa mRu mLa mTy mSp mFr mRe mCa mOr mLe rS rP rK rA rO rW rC rT rN a v2 hv2) (cwV 1 hts gL_law_X8_gives rfl rfl rfl hd_X8_gives ⟨Nat.le_of_ble_eq_true rfl, Nat.le_of_ble_eq_true rfl⟩) hK hN hP hD hS hA rfl rfl rfl rfl rfl rfl (by decide) rfl rfl rfl hl.1 rfl (Nat.le_of_ble_eq_true rfl) dL_law_846 ⟨hc, hsl⟩ (fun H locs hP hD hS => ?_)
  refine lv_istore (lv' := [(6, .int v2.1), (5, .int v1.1), (4, .int i), (3, .ref ua), (2, .ref mo), (1, .ref h0), (0, .ref b)]) hx hb dL_law_849 hl (by decide) rfl (fun ls hl => ?_)
  refine lv_aload_n hx hb dL_law_851 rfl (lv_at hl 4 rfl) ?_
  obtain ⟨v3, hv3, hf⟩ := k_B hf
  refine k_callHV (As := []) (rest := []) (r := (RX8, TX8, 21)) (ci := 5) (q0 := 15) (isC := [15, 16, 17, 18, 19, 20, 21, 22, 23, 24]) (isR := [0, 1, 2, 3, 4, 5, 6, 7, 8, 9, 10, 11, 12, 13, 14, 25]) (perm := [0, 1, 2, 3, 4, 5, 6, 7, 8, 9, 10, 11, 12, 13, 14, 16, 17, 18, 19, 20, 21, 22, 23, 24, 25, 15]) (w' := ((wX7 cy h0 gma sna hia ka ora cha tra ena opa foa gm sn hs qs k0 k1 k2 k3 ch o tr es op fo has) ++ ((wX8 cy mo sa pa kb aa oa wa ca ta na mOp mIk mPa mRu v2.2 mTy mSp mFr mRe mCa mOr mLe rS rP rK rA rO rW rC rT rN) ++ [wL cy ua v1.2]))) ⟨hx, hb, hml, hown, hts⟩ (c_X8_thrown l D cy mo sa pa kb aa oa wa ca ta na mOp mIk mPa mRu v2.2 mTy mSp mFr mRe mCa mOr mLe rS rP rK rA rO rW rC rT rN  v3 hv3) (cwV 0 hts gL_law_X8_thrown rfl rfl rfl hd_X8_thrown ⟨Nat.le_of_ble_eq_true rfl, Nat.le_of_ble_eq_true rfl⟩) hK hN hP hD hS hA rfl rfl rfl rfl rfl rfl (by decide) rfl rfl rfl hl.1 rfl (Nat.le_of_ble_eq_true rfl) dL_law_852 ⟨hc, hsl⟩ (fun H locs hP hD hS => ?_)
  refine lv_iload hx hb dL_law_855 (lv_at hl 1 rfl) ?_
  refine lv_icmp_eq (tgt := 862) hx hb dL_law_857 (by decide) (fun c4 => ?_) (fun c4 => ?_)
  · have hf := k_T c4 hf
    refine lv_iload hx hb dL_law_862 (lv_at hl 1 rfl) ?_
    refine lv_if_ne (tgt := 879) hx hb dL_law_864 (by decide) (fun c5 => ?_) (fun c5 => ?_)
    · have hf := k_F c5 hf
      refine lv_goto (tgt := 1650) hx hb dL_law_879 (by decide) ?_
      obtain rfl := k_some hf
      exact kk ls H locs (lv_sub hl [2, 3, 4, 5, 6] rfl) hP hD hS
    · have hf := k_T c5 hf
      refine lv_aload_n hx hb dL_law_867 rfl (lv_at hl 3 rfl) ?_
      refine lv_iconst (v := 0) hx hb dL_law_868 (by decide) ?_
      refine va_lald hx hb hK hP 25 3 rfl rfl (k_in (i := 0) (n := 1) (by decide +kernel)) dL_law_869 ?_
      refine k_nameJ (v := v1.2 0) rfl ?_
      refine lv_iload hx hb dL_law_870 (lv_at hl 0 rfl) ?_
      refine lv_i2l hx hb dL_law_872 rfl ?_
      refine W.lcmp hx hb dL_law_873 ?_
      refine lv_if_eq (tgt := 879) hx hb dL_law_874 (by decide) (fun c6 => ?_) (fun c6 => ?_)
      · have hf := k_T c6 hf
        refine lv_goto (tgt := 1650) hx hb dL_law_879 (by decide) ?_
        obtain rfl := k_some hf
        exact kk ls H locs (lv_sub hl [2, 3, 4, 5, 6] rfl) hP hD hS
      · have hf := k_F c6 hf
        refine lv_iconst (v := 0) hx hb dL_law_877 (by decide) ?_
        cases hf
  · have hf := k_F c4 hf
    refine lv_iconst (v := 0) hx hb dL_law_860 (by decide) ?_
    cases hf
def f_case18 (a : Int32) (gm : k_G8) (mLa : Int32) (rS : Nat → Int32) (out : Nat → Int64) : Option (Int32 × (Nat → Int64)) :=
  (f_L_leastSacrifice gm out).bind fun v1 =>
  (f_X8_leastSacrifice mLa rS).bind fun v2 =>
  (f_X8_thrown v2.2).bind fun v3 =>
  if v3 = v1.1 then
    if v1.1 = 0 then
      if (lg_cmp (v1.2 0) v2.1.toInt64) = 0 then
        some (v2.2, v1.2)
      else
        none
    else
      some (v2.2, v1.2)
  else
    none
set_option maxHeartbeats 4000000 in
set_option maxRecDepth 100000 in
theorem c_case18 (l : Launch) (hl9 : l.stackTraces = false) {p : Program} {e : Env} {s : State} {m : MethodId} {below : List Frame} {meth : Method} {c : Code} {b L : Nat} {xs : Nat → Int32} {D : va_G} {cy : Nat → ClassId} (C : k_LC p s m c b L xs D cy) (Q : State → Prop) (h0 gma sna hia ka ora cha tra ena opa foa mo sa pa kb aa oa wa ca ta na ua : Nat) (gm : k_G8) (sn : k_G8) (hs : Int32) (qs : k_Q4) (k0 : k_G8) (k1 : k_G8) (k2 : k_G8) (k3 : k_G8) (ch : Nat → Int32) (o : k_O5) (tr : k_G8) (es : Int32) (op : Nat → Int32) (fo : Nat → Int32) (has : Int32) (mOp : Int32) (mIk : Int32) (mPa : Int32) (mRu : Int32) (mLa : Int32) (mTy : Int32) (mSp : Int32) (mFr : Int32) (mRe : Int32) (mCa : Int32) (mOr : Int32) (mLe : Int32) (rS : Nat → Int32) (rP : Nat → Int32) (rK : Nat → Int32) (rA : Nat → Int32) (rO : Nat → Int32) (rW : Nat → Int32) (rC : Nat → Int32) (rT : Nat → Int32) (rN : Nat → Int32) (out : Nat → Int64) (i a : Int32) (hi : vp_in (i + 1) L) (ha : a = xs (i + 1).toNatClampNeg) (r : Int32 × (Nat → Int64)) (hf : f_case18 a gm mLa rS out = some r) (cells slots : Nat) (hc : cells + 1 ≤ room_1.cells) (hsl : slots + 6 ≤ room_1.slots) (ls : Array Slot) (H : Heap) (locs : List Loc) (hl : lv_has ls 9 [(4, .int i), (3, .ref ua), (2, .ref mo), (1, .ref h0), (0, .ref b)]) (hP : va_P D vwCl ((wX7 cy h0 gma sna hia ka ora cha tra ena opa foa gm sn hs qs k0 k1 k2 k3 ch o tr es op fo has) ++ ((wX8 cy mo sa pa kb aa oa wa ca ta na mOp mIk mPa mRu mLa mTy mSp mFr mRe mCa mOr mLe rS rP rK rA rO rW rC rT rN) ++ [wL cy ua out])) H) (hD : va_D (k_A s) ((wX7 cy h0 gma sna hia ka ora cha tra ena opa foa gm sn hs qs k0 k1 k2 k3 ch o tr es op fo has) ++ ((wX8 cy mo sa pa kb aa oa wa ca ta na mOp mIk mPa mRu mLa mTy mSp mFr mRe mCa mOr mLe rS rP rK rA rO rW rC rT rN) ++ [wL cy ua out]))) (hS : va_S (k_A s) s.heap H locs) (kk : ∀ (ls : Array Slot) (H : Heap) (locs : List Loc), lv_has ls 9 [(4, .int i), (3, .ref ua), (2, .ref mo), (1, .ref h0), (0, .ref b)] → va_P D vwCl ((wX7 cy h0 gma sna hia ka ora cha tra ena opa foa gm sn hs qs k0 k1 k2 k3 ch o tr es op fo has) ++ ((wX8 cy mo sa pa kb aa oa wa ca ta na mOp mIk mPa mRu r.1 mTy mSp mFr mRe mCa mOr mLe rS rP rK rA rO rW rC rT rN) ++ [wL cy ua r.2])) H → va_D (k_A s) ((wX7 cy h0 gma sna hia ka ora cha tra ena opa foa gm sn hs qs k0 k1 k2 k3 ch o tr es op fo has) ++ ((wX8 cy mo sa pa kb aa oa wa ca ta na mOp mIk mPa mRu r.1 mTy mSp mFr mRe mCa mOr mLe rS rP rK rA rO rW rC rT rN) ++ [wL cy ua r.2])) → va_S (k_A s) s.heap H locs → W p l e room_1 s m #[Value.ref b] below meth c H locs (cells + 1) (slots + 6) Q (F0 m 1650 ls [])) : W p l e room_1 s m #[Value.ref b] below meth c H locs cells slots Q (F0 m 882 ls []) := by
  obtain ⟨hx, hb, hml, hown, hts, hX, hbl, hK, hN, hT, hZ, hCx⟩ := C
  have hA : ∀ q : Nat, s.heap.size ≤ q → k_A s q := fun _ h9 => h9
  unfold f_case18 at hf
  refine lv_aload_n hx hb dL_law_882 rfl (lv_at hl 3 rfl) ?_
  refine lv_aload_n hx hb dL_law_883 rfl (lv_at hl 1 rfl) ?_
  obtain ⟨v1, hv1, hf⟩ := k_B hf
  refine k_callLS (As := [.ref h0, .ref ua]) (rest := []) (isC := [0, 1, 2, 3, 4, 5, 6, 7, 8, 9, 10, 11, 12, 13, 14, 25]) (isR := [15, 16, 17, 18, 19, 20, 21, 22, 23, 24]) (perm := [10, 11, 12, 13, 14, 15, 16, 17, 18, 19, 20, 21, 22, 23, 24, 0, 1, 2, 3, 4, 5, 6, 7, 8, 9, 25]) (w' := ((wX7 cy h0 gma sna hia ka ora cha tra ena opa foa gm sn hs qs k0 k1 k2 k3 ch o tr es op fo has) ++ ((wX8 cy mo sa pa kb aa oa wa ca ta na mOp mIk mPa mRu mLa mTy mSp mFr mRe mCa mOr mLe rS rP rK rA rO rW rC rT rN) ++ [wL cy ua v1.2]))) ⟨hx, hb, hml, hown, hts⟩ (c_L_leastSacrifice l hl9 D cy h0 gma sna hia ka ora cha tra ena opa foa ua gm sn hs qs k0 k1 k2 k3 ch o tr es op fo has out  v1 hv1) (vx_cwSW 2 hts gL_law_L_leastSacrifice rfl rfl rfl hd_L_leastSacrifice ⟨Nat.le_of_ble_eq_true rfl, Nat.le_of_ble_eq_true rfl⟩) hK hN hT hZ hCx hP hD hS (fun _ h9 => h9) rfl rfl rfl (by decide) (by decide) rfl (by decide) rfl hl.1 rfl (Nat.le_of_ble_eq_true rfl) dL_law_884 ⟨hc, hsl⟩ (fun H locs hP hD hS => ?_)
  refine lv_istore (lv' := [(5, .int v1.1), (4, .int i), (3, .ref ua), (2, .ref mo), (1, .ref h0), (0, .ref b)]) hx hb dL_law_887 hl (by decide) rfl (fun ls hl => ?_)
  refine lv_aload_n hx hb dL_law_889 rfl (lv_at hl 3 rfl) ?_
  obtain ⟨v2, hv2, hf⟩ := k_B hf
  refine k_callHV (As := []) (rest := []) (r := (RX8, TX8, 21)) (ci := 5) (q0 := 15) (isC := [15, 16, 17, 18, 19, 20, 21, 22, 23, 24]) (isR := [0, 1, 2, 3, 4, 5, 6, 7, 8, 9, 10, 11, 12, 13, 14, 25]) (perm := [0, 1, 2, 3, 4, 5, 6, 7, 8, 9, 10, 11, 12, 13, 14, 16, 17, 18, 19, 20, 21, 22, 23, 24, 25, 15]) (w' := ((wX7 cy h0 gma sna hia ka ora cha tra ena opa foa gm sn hs qs k0 k1 k2 k3 ch o tr es op fo has) ++ ((wX8 cy mo sa pa kb aa oa wa ca ta na mOp mIk mPa mRu v2.2 mTy mSp mFr mRe mCa mOr mLe rS rP rK rA rO rW rC rT rN) ++ [wL cy ua v1.2]))) ⟨hx, hb, hml, hown, hts⟩ (c_X8_leastSacrifice l D cy mo sa pa kb aa oa wa ca ta na mOp mIk mPa mRu mLa mTy mSp mFr mRe mCa mOr mLe rS rP rK rA rO rW rC rT rN  v2 hv2) (cwV 0 hts gL_law_X8_leastSacrifice rfl rfl rfl hd_X8_leastSacrifice ⟨Nat.le_of_ble_eq_true rfl, Nat.le_of_ble_eq_true rfl⟩) hK hN hP hD hS hA rfl rfl rfl rfl rfl rfl (by decide) rfl rfl rfl hl.1 rfl (Nat.le_of_ble_eq_true rfl) dL_law_890 ⟨hc, hsl⟩ (fun H locs hP hD hS => ?_)
  refine lv_istore (lv' := [(6, .int v2.1), (5, .int v1.1), (4, .int i), (3, .ref ua), (2, .ref mo), (1, .ref h0), (0, .ref b)]) hx hb dL_law_893 hl (by decide) rfl (fun ls hl => ?_)
  refine lv_aload_n hx hb dL_law_895 rfl (lv_at hl 4 rfl) ?_
  obtain ⟨v3, hv3, hf⟩ := k_B hf
  refine k_callHV (As := []) (rest := []) (r := (RX8, TX8, 21)) (ci := 5) (q0 := 15) (isC := [15, 16, 17, 18, 19, 20, 21, 22, 23, 24]) (isR := [0, 1, 2, 3, 4, 5, 6, 7, 8, 9, 10, 11, 12, 13, 14, 25]) (perm := [0, 1, 2, 3, 4, 5, 6, 7, 8, 9, 10, 11, 12, 13, 14, 16, 17, 18, 19, 20, 21, 22, 23, 24, 25, 15]) (w' := ((wX7 cy h0 gma sna hia ka ora cha tra ena opa foa gm sn hs qs k0 k1 k2 k3 ch o tr es op fo has) ++ ((wX8 cy mo sa pa kb aa oa wa ca ta na mOp mIk mPa mRu v2.2 mTy mSp mFr mRe mCa mOr mLe rS rP rK rA rO rW rC rT rN) ++ [wL cy ua v1.2]))) ⟨hx, hb, hml, hown, hts⟩ (c_X8_thrown l D cy mo sa pa kb aa oa wa ca ta na mOp mIk mPa mRu v2.2 mTy mSp mFr mRe mCa mOr mLe rS rP rK rA rO rW rC rT rN  v3 hv3) (cwV 0 hts gL_law_X8_thrown rfl rfl rfl hd_X8_thrown ⟨Nat.le_of_ble_eq_true rfl, Nat.le_of_ble_eq_true rfl⟩) hK hN hP hD hS hA rfl rfl rfl rfl rfl rfl (by decide) rfl rfl rfl hl.1 rfl (Nat.le_of_ble_eq_true rfl) dL_law_896 ⟨hc, hsl⟩ (fun H locs hP hD hS => ?_)
  refine lv_iload hx hb dL_law_899 (lv_at hl 1 rfl) ?_
  refine lv_icmp_eq (tgt := 906) hx hb dL_law_901 (by decide) (fun c4 => ?_) (fun c4 => ?_)
  · have hf := k_T c4 hf
    refine lv_iload hx hb dL_law_906 (lv_at hl 1 rfl) ?_
    refine lv_if_ne (tgt := 923) hx hb dL_law_908 (by decide) (fun c5 => ?_) (fun c5 => ?_)
    · have hf := k_F c5 hf
      refine lv_goto (tgt := 1650) hx hb dL_law_923 (by decide) ?_
      obtain rfl := k_some hf
      exact kk ls H locs (lv_sub hl [2, 3, 4, 5, 6] rfl) hP hD hS
    · have hf := k_T c5 hf
      refine lv_aload_n hx hb dL_law_911 rfl (lv_at hl 3 rfl) ?_
      refine lv_iconst (v := 0) hx hb dL_law_912 (by decide) ?_
      refine va_lald hx hb hK hP 25 3 rfl rfl (k_in (i := 0) (n := 1) (by decide +kernel)) dL_law_913 ?_
      refine k_nameJ (v := v1.2 0) rfl ?_
      refine lv_iload hx hb dL_law_914 (lv_at hl 0 rfl) ?_
      refine lv_i2l hx hb dL_law_916 rfl ?_
      refine W.lcmp hx hb dL_law_917 ?_
      refine lv_if_eq (tgt := 923) hx hb dL_law_918 (by decide) (fun c6 => ?_) (fun c6 => ?_)
      · have hf := k_T c6 hf
        refine lv_goto (tgt := 1650) hx hb dL_law_923 (by decide) ?_
        obtain rfl := k_some hf
        exact kk ls H locs (lv_sub hl [2, 3, 4, 5, 6] rfl) hP hD hS
      · have hf := k_F c6 hf
        refine lv_iconst (v := 0) hx hb dL_law_921 (by decide) ?_
        cases hf
  · have hf := k_F c4 hf
    refine lv_iconst (v := 0) hx hb dL_law_904 (by decide) ?_
    cases hf
def f_case19 (a : Int32) (gm : k_G8) (mLa : Int32) (rS : Nat → Int32) (rC : Nat → Int32) : Option (Int32 × (Nat → Int32)) :=
  (f_X7_chains gm).bind fun v1 =>
  (f_X8_chains mLa rS rC).bind fun v2 =>
  if v1 = v2.1 then
    some (v2.2.1, v2.2.2)
  else
    none
set_option maxHeartbeats 4000000 in
set_option maxRecDepth 100000 in
theorem c_case19 (l : Launch) (hl9 : l.stackTraces = false) {p : Program} {e : Env} {s : State} {m : MethodId} {below : List Frame} {meth : Method} {c : Code} {b L : Nat} {xs : Nat → Int32} {D : va_G} {cy : Nat → ClassId} (C : k_LC p s m c b L xs D cy) (Q : State → Prop) (h0 gma sna hia ka ora cha tra ena opa foa mo sa pa kb aa oa wa ca ta na ua : Nat) (gm : k_G8) (sn : k_G8) (hs : Int32) (qs : k_Q4) (k0 : k_G8) (k1 : k_G8) (k2 : k_G8) (k3 : k_G8) (ch : Nat → Int32) (o : k_O5) (tr : k_G8) (es : Int32) (op : Nat → Int32) (fo : Nat → Int32) (has : Int32) (mOp : Int32) (mIk : Int32) (mPa : Int32) (mRu : Int32) (mLa : Int32) (mTy : Int32) (mSp : Int32) (mFr : Int32) (mRe : Int32) (mCa : Int32) (mOr : Int32) (mLe : Int32) (rS : Nat → Int32) (rP : Nat → Int32) (rK : Nat → Int32) (rA : Nat → Int32) (rO : Nat → Int32) (rW : Nat → Int32) (rC : Nat → Int32) (rT : Nat → Int32) (rN : Nat → Int32) (out : Nat → Int64) (i a : Int32) (hi : vp_in (i + 1) L) (ha : a = xs (i + 1).toNatClampNeg) (r : Int32 × (Nat → Int32)) (hf : f_case19 a gm mLa rS rC = some r) (cells slots : Nat) (hc : cells + 1 ≤ room_1.cells) (hsl : slots + 6 ≤ room_1.slots) (ls : Array Slot) (H : Heap) (locs : List Loc) (hl : lv_has ls 9 [(4, .int i), (3, .ref ua), (2, .ref mo), (1, .ref h0), (0, .ref b)]) (hP : va_P D vwCl ((wX7 cy h0 gma sna hia ka ora cha tra ena opa foa gm sn hs qs k0 k1 k2 k3 ch o tr es op fo has) ++ ((wX8 cy mo sa pa kb aa oa wa ca ta na mOp mIk mPa mRu mLa mTy mSp mFr mRe mCa mOr mLe rS rP rK rA rO rW rC rT rN) ++ [wL cy ua out])) H) (hD : va_D (k_A s) ((wX7 cy h0 gma sna hia ka ora cha tra ena opa foa gm sn hs qs k0 k1 k2 k3 ch o tr es op fo has) ++ ((wX8 cy mo sa pa kb aa oa wa ca ta na mOp mIk mPa mRu mLa mTy mSp mFr mRe mCa mOr mLe rS rP rK rA rO rW rC rT rN) ++ [wL cy ua out]))) (hS : va_S (k_A s) s.heap H locs) (kk : ∀ (ls : Array Slot) (H : Heap) (locs : List Loc), lv_has ls 9 [(4, .int i), (3, .ref ua), (2, .ref mo), (1, .ref h0), (0, .ref b)] → va_P D vwCl ((wX7 cy h0 gma sna hia ka ora cha tra ena opa foa gm sn hs qs k0 k1 k2 k3 ch o tr es op fo has) ++ ((wX8 cy mo sa pa kb aa oa wa ca ta na mOp mIk mPa mRu r.1 mTy mSp mFr mRe mCa mOr mLe rS rP rK rA rO rW r.2 rT rN) ++ [wL cy ua out])) H → va_D (k_A s) ((wX7 cy h0 gma sna hia ka ora cha tra ena opa foa gm sn hs qs k0 k1 k2 k3 ch o tr es op fo has) ++ ((wX8 cy mo sa pa kb aa oa wa ca ta na mOp mIk mPa mRu r.1 mTy mSp mFr mRe mCa mOr mLe rS rP rK rA rO rW r.2 rT rN) ++ [wL cy ua out])) → va_S (k_A s) s.heap H locs → W p l e room_1 s m #[Value.ref b] below meth c H locs (cells + 1) (slots + 6) Q (F0 m 1650 ls [])) : W p l e room_1 s m #[Value.ref b] below meth c H locs cells slots Q (F0 m 926 ls []) := by
  obtain ⟨hx, hb, hml, hown, hts, hX, hbl, hK, hN, hT, hZ, hCx⟩ := C
  have hA : ∀ q : Nat, s.heap.size ≤ q → k_A s q := fun _ h9 => h9
  unfold f_case19 at hf
  refine lv_aload_n hx hb dL_law_926 rfl (lv_at hl 3 rfl) ?_
  obtain ⟨v1, hv1, hf⟩ := k_B hf
  refine k_callHV (As := []) (rest := []) (r := (RX7, TX7, 6)) (ci := 4) (q0 := 0) (isC := [0, 1, 2, 3, 4, 5, 6, 7, 8, 9, 10, 11, 12, 13, 14]) (isR := [15, 16, 17, 18, 19, 20, 21, 22, 23, 24, 25]) (perm := [11, 12, 13, 14, 15, 16, 17, 18, 19, 20, 21, 22, 23, 24, 25, 0, 1, 2, 3, 4, 5, 6, 7, 8, 9, 10]) (w' := ((wX7 cy h0 gma sna hia ka ora cha tra ena opa foa gm sn hs qs k0 k1 k2 k3 ch o tr es op fo has) ++ ((wX8 cy mo sa pa kb aa oa wa ca ta na mOp mIk mPa mRu mLa mTy mSp mFr mRe mCa mOr mLe rS rP rK rA rO rW rC rT rN) ++ [wL cy ua out]))) ⟨hx, hb, hml, hown, hts⟩ (c_X7_chains l D cy h0 gma sna hia ka ora cha tra ena opa foa gm sn hs qs k0 k1 k2 k3 ch o tr es op fo has  v1 hv1) (cwV 0 hts gL_law_X7_chains rfl rfl rfl hd_X7_chains ⟨Nat.le_of_ble_eq_true rfl, Nat.le_of_ble_eq_true rfl⟩) hK hN hP hD hS hA rfl rfl rfl rfl rfl rfl (by decide) rfl rfl rfl hl.1 rfl (Nat.le_of_ble_eq_true rfl) dL_law_927 ⟨Nat.le_of_succ_le hc, k_le6 hsl⟩ (fun H locs hP hD hS => ?_)
  refine lv_aload_n hx hb dL_law_930 rfl (lv_at hl 2 rfl) ?_
  obtain ⟨v2, hv2, hf⟩ := k_B hf
  refine k_callHV (As := []) (rest := [.int v1]) (r := (RX8, TX8, 21)) (ci := 5) (q0 := 15) (isC := [15, 16, 17, 18, 19, 20, 21, 22, 23, 24]) (isR := [0, 1, 2, 3, 4, 5, 6, 7, 8, 9, 10, 11, 12, 13, 14, 25]) (perm := [0, 1, 2, 3, 4, 5, 6, 7, 8, 9, 10, 11, 12, 13, 14, 16, 17, 18, 19, 20, 21, 22, 23, 24, 25, 15]) (w' := ((wX7 cy h0 gma sna hia ka ora cha tra ena opa foa gm sn hs qs k0 k1 k2 k3 ch o tr es op fo has) ++ ((wX8 cy mo sa pa kb aa oa wa ca ta na mOp mIk mPa mRu v2.2.1 mTy mSp mFr mRe mCa mOr mLe rS rP rK rA rO rW v2.2.2 rT rN) ++ [wL cy ua out]))) ⟨hx, hb, hml, hown, hts⟩ (c_X8_chains l D cy mo sa pa kb aa oa wa ca ta na mOp mIk mPa mRu mLa mTy mSp mFr mRe mCa mOr mLe rS rP rK rA rO rW rC rT rN  v2 hv2) (cwV 0 hts gL_law_X8_chains rfl rfl rfl hd_X8_chains ⟨Nat.le_of_ble_eq_true rfl, Nat.le_of_ble_eq_true rfl⟩) hK hN hP hD hS hA rfl rfl rfl rfl rfl rfl (by decide) rfl rfl rfl hl.1 rfl (Nat.le_of_ble_eq_true rfl) dL_law_931 ⟨Nat.le_of_succ_le hc, k_le6 hsl⟩ (fun H locs hP hD hS => ?_)
  refine lv_icmp_eq (tgt := 1650) hx hb dL_law_934 (by decide) (fun c3 => ?_) (fun c3 => ?_)
  · have hf := k_T c3 hf
    obtain rfl := k_some hf
    refine W.widen (Nat.le_succ _) (Nat.le_add_right _ 6) ?_
    exact kk ls H locs (lv_sub hl [0, 1, 2, 3, 4] rfl) hP hD hS
  · have hf := k_F c3 hf
    refine lv_iconst (v := 0) hx hb dL_law_937 (by decide) ?_
    cases hf
def f_case20 (a : Int32) (gm : k_G8) (mLa : Int32) (rS : Nat → Int32) (rC : Nat → Int32) (out : Nat → Int64) : Option (Int32 × (Nat → Int32) × (Nat → Int64)) :=
  (f_L_chainOf a gm out).bind fun v1 =>
  (f_X8_chainOf a mLa rS rC).bind fun v2 =>
  (f_X8_thrown v2.2.1).bind fun v3 =>
  if v3 = v1.1 then
    if v1.1 = 0 then
      if (lg_cmp (v1.2 0) v2.1.toInt64) = 0 then
        some (v2.2.1, v2.2.2, v1.2)
      else
        none
    else
      some (v2.2.1, v2.2.2, v1.2)
  else
    none
set_option maxHeartbeats 4000000 in
set_option maxRecDepth 100000 in
theorem c_case20 (l : Launch) (hl9 : l.stackTraces = false) {p : Program} {e : Env} {s : State} {m : MethodId} {below : List Frame} {meth : Method} {c : Code} {b L : Nat} {xs : Nat → Int32} {D : va_G} {cy : Nat → ClassId} (C : k_LC p s m c b L xs D cy) (Q : State → Prop) (h0 gma sna hia ka ora cha tra ena opa foa mo sa pa kb aa oa wa ca ta na ua : Nat) (gm : k_G8) (sn : k_G8) (hs : Int32) (qs : k_Q4) (k0 : k_G8) (k1 : k_G8) (k2 : k_G8) (k3 : k_G8) (ch : Nat → Int32) (o : k_O5) (tr : k_G8) (es : Int32) (op : Nat → Int32) (fo : Nat → Int32) (has : Int32) (mOp : Int32) (mIk : Int32) (mPa : Int32) (mRu : Int32) (mLa : Int32) (mTy : Int32) (mSp : Int32) (mFr : Int32) (mRe : Int32) (mCa : Int32) (mOr : Int32) (mLe : Int32) (rS : Nat → Int32) (rP : Nat → Int32) (rK : Nat → Int32) (rA : Nat → Int32) (rO : Nat → Int32) (rW : Nat → Int32) (rC : Nat → Int32) (rT : Nat → Int32) (rN : Nat → Int32) (out : Nat → Int64) (i a : Int32) (hi : vp_in (i + 1) L) (ha : a = xs (i + 1).toNatClampNeg) (r : Int32 × (Nat → Int32) × (Nat → Int64)) (hf : f_case20 a gm mLa rS rC out = some r) (cells slots : Nat) (hc : cells + 1 ≤ room_1.cells) (hsl : slots + 6 ≤ room_1.slots) (ls : Array Slot) (H : Heap) (locs : List Loc) (hl : lv_has ls 9 [(4, .int i), (3, .ref ua), (2, .ref mo), (1, .ref h0), (0, .ref b)]) (hP : va_P D vwCl ((wX7 cy h0 gma sna hia ka ora cha tra ena opa foa gm sn hs qs k0 k1 k2 k3 ch o tr es op fo has) ++ ((wX8 cy mo sa pa kb aa oa wa ca ta na mOp mIk mPa mRu mLa mTy mSp mFr mRe mCa mOr mLe rS rP rK rA rO rW rC rT rN) ++ [wL cy ua out])) H) (hD : va_D (k_A s) ((wX7 cy h0 gma sna hia ka ora cha tra ena opa foa gm sn hs qs k0 k1 k2 k3 ch o tr es op fo has) ++ ((wX8 cy mo sa pa kb aa oa wa ca ta na mOp mIk mPa mRu mLa mTy mSp mFr mRe mCa mOr mLe rS rP rK rA rO rW rC rT rN) ++ [wL cy ua out]))) (hS : va_S (k_A s) s.heap H locs) (kk : ∀ (ls : Array Slot) (H : Heap) (locs : List Loc), lv_has ls 9 [(4, .int i), (3, .ref ua), (2, .ref mo), (1, .ref h0), (0, .ref b)] → va_P D vwCl ((wX7 cy h0 gma sna hia ka ora cha tra ena opa foa gm sn hs qs k0 k1 k2 k3 ch o tr es op fo has) ++ ((wX8 cy mo sa pa kb aa oa wa ca ta na mOp mIk mPa mRu r.1 mTy mSp mFr mRe mCa mOr mLe rS rP rK rA rO rW r.2.1 rT rN) ++ [wL cy ua r.2.2])) H → va_D (k_A s) ((wX7 cy h0 gma sna hia ka ora cha tra ena opa foa gm sn hs qs k0 k1 k2 k3 ch o tr es op fo has) ++ ((wX8 cy mo sa pa kb aa oa wa ca ta na mOp mIk mPa mRu r.1 mTy mSp mFr mRe mCa mOr mLe rS rP rK rA rO rW r.2.1 rT rN) ++ [wL cy ua r.2.2])) → va_S (k_A s) s.heap H locs → W p l e room_1 s m #[Value.ref b] below meth c H locs (cells + 1) (slots + 6) Q (F0 m 1650 ls [])) : W p l e room_1 s m #[Value.ref b] below meth c H locs cells slots Q (F0 m 939 ls []) := by
  obtain ⟨hx, hb, hml, hown, hts, hX, hbl, hK, hN, hT, hZ, hCx⟩ := C
  have hA : ∀ q : Nat, s.heap.size ≤ q → k_A s q := fun _ h9 => h9
  unfold f_case20 at hf
  refine lv_aload_n hx hb dL_law_939 rfl (lv_at hl 3 rfl) ?_
  refine lv_aload_n hx hb dL_law_940 rfl (lv_at hl 4 rfl) ?_
  refine lv_iload hx hb dL_law_941 (lv_at hl 0 rfl) ?_
  refine lv_iconst (v := 1) hx hb dL_law_943 (by decide) ?_
  refine lv_iadd hx hb dL_law_944 ?_
  refine va_sld hx hb hX hbl (Nat.not_le.mpr hbl) hS hi dL_law_945 ?_
  refine k_name ha ?_
  refine lv_aload_n hx hb dL_law_946 rfl (lv_at hl 1 rfl) ?_
  obtain ⟨v1, hv1, hf⟩ := k_B hf
  refine k_callLS (As := [.ref h0, .int a, .ref ua]) (rest := []) (isC := [0, 1, 2, 3, 4, 5, 6, 7, 8, 9, 10, 11, 12, 13, 14, 25]) (isR := [15, 16, 17, 18, 19, 20, 21, 22, 23, 24]) (perm := [10, 11, 12, 13, 14, 15, 16, 17, 18, 19, 20, 21, 22, 23, 24, 0, 1, 2, 3, 4, 5, 6, 7, 8, 9, 25]) (w' := ((wX7 cy h0 gma sna hia ka ora cha tra ena opa foa gm sn hs qs k0 k1 k2 k3 ch o tr es op fo has) ++ ((wX8 cy mo sa pa kb aa oa wa ca ta na mOp mIk mPa mRu mLa mTy mSp mFr mRe mCa mOr mLe rS rP rK rA rO rW rC rT rN) ++ [wL cy ua v1.2]))) ⟨hx, hb, hml, hown, hts⟩ (c_L_chainOf l hl9 D cy h0 gma sna hia ka ora cha tra ena opa foa ua gm sn hs qs k0 k1 k2 k3 ch o tr es op fo has out a v1 hv1) (vx_cwSW 3 hts gL_law_L_chainOf rfl rfl rfl hd_L_chainOf ⟨Nat.le_of_ble_eq_true rfl, Nat.le_of_ble_eq_true rfl⟩) hK hN hT hZ hCx hP hD hS (fun _ h9 => h9) rfl rfl rfl (by decide) (by decide) rfl (by decide) rfl hl.1 rfl (Nat.le_of_ble_eq_true rfl) dL_law_947 ⟨hc, hsl⟩ (fun H locs hP hD hS => ?_)
  refine lv_istore (lv' := [(5, .int v1.1), (4, .int i), (3, .ref ua), (2, .ref mo), (1, .ref h0), (0, .ref b)]) hx hb dL_law_950 hl (by decide) rfl (fun ls hl => ?_)
  refine lv_aload_n hx hb dL_law_952 rfl (lv_at hl 3 rfl) ?_
  refine lv_aload_n hx hb dL_law_953 rfl (lv_at hl 5 rfl) ?_
  refine lv_iload hx hb dL_law_954 (lv_at hl 1 rfl) ?_
  refine lv_iconst (v := 1) hx hb dL_law_956 (by decide) ?_
  refine lv_iadd hx hb dL_law_957 ?_
  refine va_sld hx hb hX hbl (Nat.not_le.mpr hbl) hS hi dL_law_958 ?_
  refine k_name ha ?_
  obtain ⟨v2, hv2, hf⟩ := k_B hf
  refine k_callHV (As := [.int a]) (rest := []) (r := (RX8, TX8, 21)) (ci := 5) (q0 := 15) (isC := [15, 16, 17, 18, 19, 20, 21, 22, 23, 24]) (isR := [0, 1, 2, 3, 4, 5, 6, 7, 8, 9, 10, 11, 12, 13, 14, 25]) (perm := [0, 1, 2, 3, 4, 5, 6, 7, 8, 9, 10, 11, 12, 13, 14, 16, 17, 18, 19, 20, 21, 22, 23, 24, 25, 15]) (w' := ((wX7 cy h0 gma sna hia ka ora cha tra ena opa foa gm sn hs qs k0 k1 k2 k3 ch o tr es op fo has) ++ ((wX8 cy mo sa pa kb aa oa wa ca ta na mOp mIk mPa mRu v2.2.1 mTy mSp mFr mRe mCa mOr mLe rS rP rK rA rO rW v2.2.2 rT rN) ++ [wL cy ua v1.2]))) ⟨hx, hb, hml, hown, hts⟩ (c_X8_chainOf l D cy mo sa pa kb aa oa wa ca ta na mOp mIk mPa mRu mLa mTy mSp mFr mRe mCa mOr mLe rS rP rK rA rO rW rC rT rN a v2 hv2) (cwV 1 hts gL_law_X8_chainOf rfl rfl rfl hd_X8_chainOf ⟨Nat.le_of_ble_eq_true rfl, Nat.le_of_ble_eq_true rfl⟩) hK hN hP hD hS hA rfl rfl rfl rfl rfl rfl (by decide) rfl rfl rfl hl.1 rfl (Nat.le_of_ble_eq_true rfl) dL_law_959 ⟨hc, hsl⟩ (fun H locs hP hD hS => ?_)
  refine lv_istore (lv' := [(6, .int v2.1), (5, .int v1.1), (4, .int i), (3, .ref ua), (2, .ref mo), (1, .ref h0), (0, .ref b)]) hx hb dL_law_962 hl (by decide) rfl (fun ls hl => ?_)
  refine lv_aload_n hx hb dL_law_964 rfl (lv_at hl 4 rfl) ?_
  obtain ⟨v3, hv3, hf⟩ := k_B hf
  refine k_callHV (As := []) (rest := []) (r := (RX8, TX8, 21)) (ci := 5) (q0 := 15) (isC := [15, 16, 17, 18, 19, 20, 21, 22, 23, 24]) (isR := [0, 1, 2, 3, 4, 5, 6, 7, 8, 9, 10, 11, 12, 13, 14, 25]) (perm := [0, 1, 2, 3, 4, 5, 6, 7, 8, 9, 10, 11, 12, 13, 14, 16, 17, 18, 19, 20, 21, 22, 23, 24, 25, 15]) (w' := ((wX7 cy h0 gma sna hia ka ora cha tra ena opa foa gm sn hs qs k0 k1 k2 k3 ch o tr es op fo has) ++ ((wX8 cy mo sa pa kb aa oa wa ca ta na mOp mIk mPa mRu v2.2.1 mTy mSp mFr mRe mCa mOr mLe rS rP rK rA rO rW v2.2.2 rT rN) ++ [wL cy ua v1.2]))) ⟨hx, hb, hml, hown, hts⟩ (c_X8_thrown l D cy mo sa pa kb aa oa wa ca ta na mOp mIk mPa mRu v2.2.1 mTy mSp mFr mRe mCa mOr mLe rS rP rK rA rO rW v2.2.2 rT rN  v3 hv3) (cwV 0 hts gL_law_X8_thrown rfl rfl rfl hd_X8_thrown ⟨Nat.le_of_ble_eq_true rfl, Nat.le_of_ble_eq_true rfl⟩) hK hN hP hD hS hA rfl rfl rfl rfl rfl rfl (by decide) rfl rfl rfl hl.1 rfl (Nat.le_of_ble_eq_true rfl) dL_law_965 ⟨hc, hsl⟩ (fun H locs hP hD hS => ?_)
  refine lv_iload hx hb dL_law_968 (lv_at hl 1 rfl) ?_
  refine lv_icmp_eq (tgt := 975) hx hb dL_law_970 (by decide) (fun c4 => ?_) (fun c4 => ?_)
  · have hf := k_T c4 hf
    refine lv_iload hx hb dL_law_975 (lv_at hl 1 rfl) ?_
    refine lv_if_ne (tgt := 992) hx hb dL_law_977 (by decide) (fun c5 => ?_) (fun c5 => ?_)
    · have hf := k_F c5 hf
      refine lv_goto (tgt := 1650) hx hb dL_law_992 (by decide) ?_
      obtain rfl := k_some hf
      exact kk ls H locs (lv_sub hl [2, 3, 4, 5, 6] rfl) hP hD hS
    · have hf := k_T c5 hf
      refine lv_aload_n hx hb dL_law_980 rfl (lv_at hl 3 rfl) ?_
      refine lv_iconst (v := 0) hx hb dL_law_981 (by decide) ?_
      refine va_lald hx hb hK hP 25 3 rfl rfl (k_in (i := 0) (n := 1) (by decide +kernel)) dL_law_982 ?_
      refine k_nameJ (v := v1.2 0) rfl ?_
      refine lv_iload hx hb dL_law_983 (lv_at hl 0 rfl) ?_
      refine lv_i2l hx hb dL_law_985 rfl ?_
      refine W.lcmp hx hb dL_law_986 ?_
      refine lv_if_eq (tgt := 992) hx hb dL_law_987 (by decide) (fun c6 => ?_) (fun c6 => ?_)
      · have hf := k_T c6 hf
        refine lv_goto (tgt := 1650) hx hb dL_law_992 (by decide) ?_
        obtain rfl := k_some hf
        exact kk ls H locs (lv_sub hl [2, 3, 4, 5, 6] rfl) hP hD hS
      · have hf := k_F c6 hf
        refine lv_iconst (v := 0) hx hb dL_law_990 (by decide) ?_
        cases hf
  · have hf := k_F c4 hf
    refine lv_iconst (v := 0) hx hb dL_law_973 (by decide) ?_
    cases hf
def f_case21 (a : Int32) (gm : k_G8) (mLa : Int32) (rS : Nat → Int32) (rC : Nat → Int32) : Option (Int32 × (Nat → Int32)) :=
  (f_X7_rings gm).bind fun v1 =>
  (f_X8_rings mLa rS rC).bind fun v2 =>
  if v1 = v2.1 then
    some (v2.2.1, v2.2.2)
  else
    none
set_option maxHeartbeats 4000000 in
set_option maxRecDepth 100000 in
theorem c_case21 (l : Launch) (hl9 : l.stackTraces = false) {p : Program} {e : Env} {s : State} {m : MethodId} {below : List Frame} {meth : Method} {c : Code} {b L : Nat} {xs : Nat → Int32} {D : va_G} {cy : Nat → ClassId} (C : k_LC p s m c b L xs D cy) (Q : State → Prop) (h0 gma sna hia ka ora cha tra ena opa foa mo sa pa kb aa oa wa ca ta na ua : Nat) (gm : k_G8) (sn : k_G8) (hs : Int32) (qs : k_Q4) (k0 : k_G8) (k1 : k_G8) (k2 : k_G8) (k3 : k_G8) (ch : Nat → Int32) (o : k_O5) (tr : k_G8) (es : Int32) (op : Nat → Int32) (fo : Nat → Int32) (has : Int32) (mOp : Int32) (mIk : Int32) (mPa : Int32) (mRu : Int32) (mLa : Int32) (mTy : Int32) (mSp : Int32) (mFr : Int32) (mRe : Int32) (mCa : Int32) (mOr : Int32) (mLe : Int32) (rS : Nat → Int32) (rP : Nat → Int32) (rK : Nat → Int32) (rA : Nat → Int32) (rO : Nat → Int32) (rW : Nat → Int32) (rC : Nat → Int32) (rT : Nat → Int32) (rN : Nat → Int32) (out : Nat → Int64) (i a : Int32) (hi : vp_in (i + 1) L) (ha : a = xs (i + 1).toNatClampNeg) (r : Int32 × (Nat → Int32)) (hf : f_case21 a gm mLa rS rC = some r) (cells slots : Nat) (hc : cells + 1 ≤ room_1.cells) (hsl : slots + 6 ≤ room_1.slots) (ls : Array Slot) (H : Heap) (locs : List Loc) (hl : lv_has ls 9 [(4, .int i), (3, .ref ua), (2, .ref mo), (1, .ref h0), (0, .ref b)]) (hP : va_P D vwCl ((wX7 cy h0 gma sna hia ka ora cha tra ena opa foa gm sn hs qs k0 k1 k2 k3 ch o tr es op fo has) ++ ((wX8 cy mo sa pa kb aa oa wa ca ta na mOp mIk mPa mRu mLa mTy mSp mFr mRe mCa mOr mLe rS rP rK rA rO rW rC rT rN) ++ [wL cy ua out])) H) (hD : va_D (k_A s) ((wX7 cy h0 gma sna hia ka ora cha tra ena opa foa gm sn hs qs k0 k1 k2 k3 ch o tr es op fo has) ++ ((wX8 cy mo sa pa kb aa oa wa ca ta na mOp mIk mPa mRu mLa mTy mSp mFr mRe mCa mOr mLe rS rP rK rA rO rW rC rT rN) ++ [wL cy ua out]))) (hS : va_S (k_A s) s.heap H locs) (kk : ∀ (ls : Array Slot) (H : Heap) (locs : List Loc), lv_has ls 9 [(4, .int i), (3, .ref ua), (2, .ref mo), (1, .ref h0), (0, .ref b)] → va_P D vwCl ((wX7 cy h0 gma sna hia ka ora cha tra ena opa foa gm sn hs qs k0 k1 k2 k3 ch o tr es op fo has) ++ ((wX8 cy mo sa pa kb aa oa wa ca ta na mOp mIk mPa mRu r.1 mTy mSp mFr mRe mCa mOr mLe rS rP rK rA rO rW r.2 rT rN) ++ [wL cy ua out])) H → va_D (k_A s) ((wX7 cy h0 gma sna hia ka ora cha tra ena opa foa gm sn hs qs k0 k1 k2 k3 ch o tr es op fo has) ++ ((wX8 cy mo sa pa kb aa oa wa ca ta na mOp mIk mPa mRu r.1 mTy mSp mFr mRe mCa mOr mLe rS rP rK rA rO rW r.2 rT rN) ++ [wL cy ua out])) → va_S (k_A s) s.heap H locs → W p l e room_1 s m #[Value.ref b] below meth c H locs (cells + 1) (slots + 6) Q (F0 m 1650 ls [])) : W p l e room_1 s m #[Value.ref b] below meth c H locs cells slots Q (F0 m 995 ls []) := by
  obtain ⟨hx, hb, hml, hown, hts, hX, hbl, hK, hN, hT, hZ, hCx⟩ := C
  have hA : ∀ q : Nat, s.heap.size ≤ q → k_A s q := fun _ h9 => h9
  unfold f_case21 at hf
  refine lv_aload_n hx hb dL_law_995 rfl (lv_at hl 3 rfl) ?_
  obtain ⟨v1, hv1, hf⟩ := k_B hf
  refine k_callHV (As := []) (rest := []) (r := (RX7, TX7, 6)) (ci := 4) (q0 := 0) (isC := [0, 1, 2, 3, 4, 5, 6, 7, 8, 9, 10, 11, 12, 13, 14]) (isR := [15, 16, 17, 18, 19, 20, 21, 22, 23, 24, 25]) (perm := [11, 12, 13, 14, 15, 16, 17, 18, 19, 20, 21, 22, 23, 24, 25, 0, 1, 2, 3, 4, 5, 6, 7, 8, 9, 10]) (w' := ((wX7 cy h0 gma sna hia ka ora cha tra ena opa foa gm sn hs qs k0 k1 k2 k3 ch o tr es op fo has) ++ ((wX8 cy mo sa pa kb aa oa wa ca ta na mOp mIk mPa mRu mLa mTy mSp mFr mRe mCa mOr mLe rS rP rK rA rO rW rC rT rN) ++ [wL cy ua out]))) ⟨hx, hb, hml, hown, hts⟩ (c_X7_rings l D cy h0 gma sna hia ka ora cha tra ena opa foa gm sn hs qs k0 k1 k2 k3 ch o tr es op fo has  v1 hv1) (cwV 0 hts gL_law_X7_rings rfl rfl rfl hd_X7_rings ⟨Nat.le_of_ble_eq_true rfl, Nat.le_of_ble_eq_true rfl⟩) hK hN hP hD hS hA rfl rfl rfl rfl rfl rfl (by decide) rfl rfl rfl hl.1 rfl (Nat.le_of_ble_eq_true rfl) dL_law_996 ⟨Nat.le_of_succ_le hc, k_le6 hsl⟩ (fun H locs hP hD hS => ?_)
  refine lv_aload_n hx hb dL_law_999 rfl (lv_at hl 2 rfl) ?_
  obtain ⟨v2, hv2, hf⟩ := k_B hf
  refine k_callHV (As := []) (rest := [.int v1]) (r := (RX8, TX8, 21)) (ci := 5) (q0 := 15) (isC := [15, 16, 17, 18, 19, 20, 21, 22, 23, 24]) (isR := [0, 1, 2, 3, 4, 5, 6, 7, 8, 9, 10, 11, 12, 13, 14, 25]) (perm := [0, 1, 2, 3, 4, 5, 6, 7, 8, 9, 10, 11, 12, 13, 14, 16, 17, 18, 19, 20, 21, 22, 23, 24, 25, 15]) (w' := ((wX7 cy h0 gma sna hia ka ora cha tra ena opa foa gm sn hs qs k0 k1 k2 k3 ch o tr es op fo has) ++ ((wX8 cy mo sa pa kb aa oa wa ca ta na mOp mIk mPa mRu v2.2.1 mTy mSp mFr mRe mCa mOr mLe rS rP rK rA rO rW v2.2.2 rT rN) ++ [wL cy ua out]))) ⟨hx, hb, hml, hown, hts⟩ (c_X8_rings l D cy mo sa pa kb aa oa wa ca ta na mOp mIk mPa mRu mLa mTy mSp mFr mRe mCa mOr mLe rS rP rK rA rO rW rC rT rN  v2 hv2) (cwV 0 hts gL_law_X8_rings rfl rfl rfl hd_X8_rings ⟨Nat.le_of_ble_eq_true rfl, Nat.le_of_ble_eq_true rfl⟩) hK hN hP hD hS hA rfl rfl rfl rfl rfl rfl (by decide) rfl rfl rfl hl.1 rfl (Nat.le_of_ble_eq_true rfl) dL_law_1000 ⟨Nat.le_of_succ_le hc, k_le6 hsl⟩ (fun H locs hP hD hS => ?_)
  refine lv_icmp_eq (tgt := 1650) hx hb dL_law_1003 (by decide) (fun c3 => ?_) (fun c3 => ?_)
  · have hf := k_T c3 hf
    obtain rfl := k_some hf
    refine W.widen (Nat.le_succ _) (Nat.le_add_right _ 6) ?_
    exact kk ls H locs (lv_sub hl [0, 1, 2, 3, 4] rfl) hP hD hS
  · have hf := k_F c3 hf
    refine lv_iconst (v := 0) hx hb dL_law_1006 (by decide) ?_
    cases hf
def f_case22 (a : Int32) (gm : k_G8) (mLa : Int32) (rS : Nat → Int32) (rC : Nat → Int32) : Option (Int32 × (Nat → Int32)) :=
  (f_X7_longChains gm).bind fun v1 =>
  (f_X8_longChains mLa rS rC).bind fun v2 =>
  if v1 = v2.1 then
    some (v2.2.1, v2.2.2)
  else
    none
set_option maxHeartbeats 4000000 in
set_option maxRecDepth 100000 in
theorem c_case22 (l : Launch) (hl9 : l.stackTraces = false) {p : Program} {e : Env} {s : State} {m : MethodId} {below : List Frame} {meth : Method} {c : Code} {b L : Nat} {xs : Nat → Int32} {D : va_G} {cy : Nat → ClassId} (C : k_LC p s m c b L xs D cy) (Q : State → Prop) (h0 gma sna hia ka ora cha tra ena opa foa mo sa pa kb aa oa wa ca ta na ua : Nat) (gm : k_G8) (sn : k_G8) (hs : Int32) (qs : k_Q4) (k0 : k_G8) (k1 : k_G8) (k2 : k_G8) (k3 : k_G8) (ch : Nat → Int32) (o : k_O5) (tr : k_G8) (es : Int32) (op : Nat → Int32) (fo : Nat → Int32) (has : Int32) (mOp : Int32) (mIk : Int32) (mPa : Int32) (mRu : Int32) (mLa : Int32) (mTy : Int32) (mSp : Int32) (mFr : Int32) (mRe : Int32) (mCa : Int32) (mOr : Int32) (mLe : Int32) (rS : Nat → Int32) (rP : Nat → Int32) (rK : Nat → Int32) (rA : Nat → Int32) (rO : Nat → Int32) (rW : Nat → Int32) (rC : Nat → Int32) (rT : Nat → Int32) (rN : Nat → Int32) (out : Nat → Int64) (i a : Int32) (hi : vp_in (i + 1) L) (ha : a = xs (i + 1).toNatClampNeg) (r : Int32 × (Nat → Int32)) (hf : f_case22 a gm mLa rS rC = some r) (cells slots : Nat) (hc : cells + 1 ≤ room_1.cells) (hsl : slots + 6 ≤ room_1.slots) (ls : Array Slot) (H : Heap) (locs : List Loc) (hl : lv_has ls 9 [(4, .int i), (3, .ref ua), (2, .ref mo), (1, .ref h0), (0, .ref b)]) (hP : va_P D vwCl ((wX7 cy h0 gma sna hia ka ora cha tra ena opa foa gm sn hs qs k0 k1 k2 k3 ch o tr es op fo has) ++ ((wX8 cy mo sa pa kb aa oa wa ca ta na mOp mIk mPa mRu mLa mTy mSp mFr mRe mCa mOr mLe rS rP rK rA rO rW rC rT rN) ++ [wL cy ua out])) H) (hD : va_D (k_A s) ((wX7 cy h0 gma sna hia ka ora cha tra ena opa foa gm sn hs qs k0 k1 k2 k3 ch o tr es op fo has) ++ ((wX8 cy mo sa pa kb aa oa wa ca ta na mOp mIk mPa mRu mLa mTy mSp mFr mRe mCa mOr mLe rS rP rK rA rO rW rC rT rN) ++ [wL cy ua out]))) (hS : va_S (k_A s) s.heap H locs) (kk : ∀ (ls : Array Slot) (H : Heap) (locs : List Loc), lv_has ls 9 [(4, .int i), (3, .ref ua), (2, .ref mo), (1, .ref h0), (0, .ref b)] → va_P D vwCl ((wX7 cy h0 gma sna hia ka ora cha tra ena opa foa gm sn hs qs k0 k1 k2 k3 ch o tr es op fo has) ++ ((wX8 cy mo sa pa kb aa oa wa ca ta na mOp mIk mPa mRu r.1 mTy mSp mFr mRe mCa mOr mLe rS rP rK rA rO rW r.2 rT rN) ++ [wL cy ua out])) H → va_D (k_A s) ((wX7 cy h0 gma sna hia ka ora cha tra ena opa foa gm sn hs qs k0 k1 k2 k3 ch o tr es op fo has) ++ ((wX8 cy mo sa pa kb aa oa wa ca ta na mOp mIk mPa mRu r.1 mTy mSp mFr mRe mCa mOr mLe rS rP rK rA rO rW r.2 rT rN) ++ [wL cy ua out])) → va_S (k_A s) s.heap H locs → W p l e room_1 s m #[Value.ref b] below meth c H locs (cells + 1) (slots + 6) Q (F0 m 1650 ls [])) : W p l e room_1 s m #[Value.ref b] below meth c H locs cells slots Q (F0 m 1008 ls []) := by
  obtain ⟨hx, hb, hml, hown, hts, hX, hbl, hK, hN, hT, hZ, hCx⟩ := C
  have hA : ∀ q : Nat, s.heap.size ≤ q → k_A s q := fun _ h9 => h9
  unfold f_case22 at hf
  refine lv_aload_n hx hb dL_law_1008 rfl (lv_at hl 3 rfl) ?_
  obtain ⟨v1, hv1, hf⟩ := k_B hf
  refine k_callHV (As := []) (rest := []) (r := (RX7, TX7, 6)) (ci := 4) (q0 := 0) (isC := [0, 1, 2, 3, 4, 5, 6, 7, 8, 9, 10, 11, 12, 13, 14]) (isR := [15, 16, 17, 18, 19, 20, 21, 22, 23, 24, 25]) (perm := [11, 12, 13, 14, 15, 16, 17, 18, 19, 20, 21, 22, 23, 24, 25, 0, 1, 2, 3, 4, 5, 6, 7, 8, 9, 10]) (w' := ((wX7 cy h0 gma sna hia ka ora cha tra ena opa foa gm sn hs qs k0 k1 k2 k3 ch o tr es op fo has) ++ ((wX8 cy mo sa pa kb aa oa wa ca ta na mOp mIk mPa mRu mLa mTy mSp mFr mRe mCa mOr mLe rS rP rK rA rO rW rC rT rN) ++ [wL cy ua out]))) ⟨hx, hb, hml, hown, hts⟩ (c_X7_longChains l D cy h0 gma sna hia ka ora cha tra ena opa foa gm sn hs qs k0 k1 k2 k3 ch o tr es op fo has  v1 hv1) (cwV 0 hts gL_law_X7_longChains rfl rfl rfl hd_X7_longChains ⟨Nat.le_of_ble_eq_true rfl, Nat.le_of_ble_eq_true rfl⟩) hK hN hP hD hS hA rfl rfl rfl rfl rfl rfl (by decide) rfl rfl rfl hl.1 rfl (Nat.le_of_ble_eq_true rfl) dL_law_1009 ⟨Nat.le_of_succ_le hc, k_le6 hsl⟩ (fun H locs hP hD hS => ?_)
  refine lv_aload_n hx hb dL_law_1012 rfl (lv_at hl 2 rfl) ?_
  obtain ⟨v2, hv2, hf⟩ := k_B hf
  refine k_callHV (As := []) (rest := [.int v1]) (r := (RX8, TX8, 21)) (ci := 5) (q0 := 15) (isC := [15, 16, 17, 18, 19, 20, 21, 22, 23, 24]) (isR := [0, 1, 2, 3, 4, 5, 6, 7, 8, 9, 10, 11, 12, 13, 14, 25]) (perm := [0, 1, 2, 3, 4, 5, 6, 7, 8, 9, 10, 11, 12, 13, 14, 16, 17, 18, 19, 20, 21, 22, 23, 24, 25, 15]) (w' := ((wX7 cy h0 gma sna hia ka ora cha tra ena opa foa gm sn hs qs k0 k1 k2 k3 ch o tr es op fo has) ++ ((wX8 cy mo sa pa kb aa oa wa ca ta na mOp mIk mPa mRu v2.2.1 mTy mSp mFr mRe mCa mOr mLe rS rP rK rA rO rW v2.2.2 rT rN) ++ [wL cy ua out]))) ⟨hx, hb, hml, hown, hts⟩ (c_X8_longChains l D cy mo sa pa kb aa oa wa ca ta na mOp mIk mPa mRu mLa mTy mSp mFr mRe mCa mOr mLe rS rP rK rA rO rW rC rT rN  v2 hv2) (cwV 0 hts gL_law_X8_longChains rfl rfl rfl hd_X8_longChains ⟨Nat.le_of_ble_eq_true rfl, Nat.le_of_ble_eq_true rfl⟩) hK hN hP hD hS hA rfl rfl rfl rfl rfl rfl (by decide) rfl rfl rfl hl.1 rfl (Nat.le_of_ble_eq_true rfl) dL_law_1013 ⟨Nat.le_of_succ_le hc, k_le6 hsl⟩ (fun H locs hP hD hS => ?_)
  refine lv_icmp_eq (tgt := 1650) hx hb dL_law_1016 (by decide) (fun c3 => ?_) (fun c3 => ?_)
  · have hf := k_T c3 hf
    obtain rfl := k_some hf
    refine W.widen (Nat.le_succ _) (Nat.le_add_right _ 6) ?_
    exact kk ls H locs (lv_sub hl [0, 1, 2, 3, 4] rfl) hP hD hS
  · have hf := k_F c3 hf
    refine lv_iconst (v := 0) hx hb dL_law_1019 (by decide) ?_
    cases hf
def f_case23 (a : Int32) (gm : k_G8) (mLa : Int32) (rS : Nat → Int32) (rC : Nat → Int32) : Option (Int32 × (Nat → Int32)) :=
  (f_X7_ruleHoldsFor gm).bind fun v1 =>
  (f_X8_ruleHoldsFor mLa rS rC).bind fun v2 =>
  if v1 = v2.1 then
    some (v2.2.1, v2.2.2)
  else
    none
set_option maxHeartbeats 4000000 in
set_option maxRecDepth 100000 in
theorem c_case23 (l : Launch) (hl9 : l.stackTraces = false) {p : Program} {e : Env} {s : State} {m : MethodId} {below : List Frame} {meth : Method} {c : Code} {b L : Nat} {xs : Nat → Int32} {D : va_G} {cy : Nat → ClassId} (C : k_LC p s m c b L xs D cy) (Q : State → Prop) (h0 gma sna hia ka ora cha tra ena opa foa mo sa pa kb aa oa wa ca ta na ua : Nat) (gm : k_G8) (sn : k_G8) (hs : Int32) (qs : k_Q4) (k0 : k_G8) (k1 : k_G8) (k2 : k_G8) (k3 : k_G8) (ch : Nat → Int32) (o : k_O5) (tr : k_G8) (es : Int32) (op : Nat → Int32) (fo : Nat → Int32) (has : Int32) (mOp : Int32) (mIk : Int32) (mPa : Int32) (mRu : Int32) (mLa : Int32) (mTy : Int32) (mSp : Int32) (mFr : Int32) (mRe : Int32) (mCa : Int32) (mOr : Int32) (mLe : Int32) (rS : Nat → Int32) (rP : Nat → Int32) (rK : Nat → Int32) (rA : Nat → Int32) (rO : Nat → Int32) (rW : Nat → Int32) (rC : Nat → Int32) (rT : Nat → Int32) (rN : Nat → Int32) (out : Nat → Int64) (i a : Int32) (hi : vp_in (i + 1) L) (ha : a = xs (i + 1).toNatClampNeg) (r : Int32 × (Nat → Int32)) (hf : f_case23 a gm mLa rS rC = some r) (cells slots : Nat) (hc : cells + 1 ≤ room_1.cells) (hsl : slots + 6 ≤ room_1.slots) (ls : Array Slot) (H : Heap) (locs : List Loc) (hl : lv_has ls 9 [(4, .int i), (3, .ref ua), (2, .ref mo), (1, .ref h0), (0, .ref b)]) (hP : va_P D vwCl ((wX7 cy h0 gma sna hia ka ora cha tra ena opa foa gm sn hs qs k0 k1 k2 k3 ch o tr es op fo has) ++ ((wX8 cy mo sa pa kb aa oa wa ca ta na mOp mIk mPa mRu mLa mTy mSp mFr mRe mCa mOr mLe rS rP rK rA rO rW rC rT rN) ++ [wL cy ua out])) H) (hD : va_D (k_A s) ((wX7 cy h0 gma sna hia ka ora cha tra ena opa foa gm sn hs qs k0 k1 k2 k3 ch o tr es op fo has) ++ ((wX8 cy mo sa pa kb aa oa wa ca ta na mOp mIk mPa mRu mLa mTy mSp mFr mRe mCa mOr mLe rS rP rK rA rO rW rC rT rN) ++ [wL cy ua out]))) (hS : va_S (k_A s) s.heap H locs) (kk : ∀ (ls : Array Slot) (H : Heap) (locs : List Loc), lv_has ls 9 [(4, .int i), (3, .ref ua), (2, .ref mo), (1, .ref h0), (0, .ref b)] → va_P D vwCl ((wX7 cy h0 gma sna hia ka ora cha tra ena opa foa gm sn hs qs k0 k1 k2 k3 ch o tr es op fo has) ++ ((wX8 cy mo sa pa kb aa oa wa ca ta na mOp mIk mPa mRu r.1 mTy mSp mFr mRe mCa mOr mLe rS rP rK rA rO rW r.2 rT rN) ++ [wL cy ua out])) H → va_D (k_A s) ((wX7 cy h0 gma sna hia ka ora cha tra ena opa foa gm sn hs qs k0 k1 k2 k3 ch o tr es op fo has) ++ ((wX8 cy mo sa pa kb aa oa wa ca ta na mOp mIk mPa mRu r.1 mTy mSp mFr mRe mCa mOr mLe rS rP rK rA rO rW r.2 rT rN) ++ [wL cy ua out])) → va_S (k_A s) s.heap H locs → W p l e room_1 s m #[Value.ref b] below meth c H locs (cells + 1) (slots + 6) Q (F0 m 1650 ls [])) : W p l e room_1 s m #[Value.ref b] below meth c H locs cells slots Q (F0 m 1021 ls []) := by
  obtain ⟨hx, hb, hml, hown, hts, hX, hbl, hK, hN, hT, hZ, hCx⟩ := C
  have hA : ∀ q : Nat, s.heap.size ≤ q → k_A s q := fun _ h9 => h9
  unfold f_case23 at hf
  refine lv_aload_n hx hb dL_law_1021 rfl (lv_at hl 3 rfl) ?_
  obtain ⟨v1, hv1, hf⟩ := k_B hf
  refine k_callHV (As := []) (rest := []) (r := (RX7, TX7, 6)) (ci := 4) (q0 := 0) (isC := [0, 1, 2, 3, 4, 5, 6, 7, 8, 9, 10, 11, 12, 13, 14]) (isR := [15, 16, 17, 18, 19, 20, 21, 22, 23, 24, 25]) (perm := [11, 12, 13, 14, 15, 16, 17, 18, 19, 20, 21, 22, 23, 24, 25, 0, 1, 2, 3, 4, 5, 6, 7, 8, 9, 10]) (w' := ((wX7 cy h0 gma sna hia ka ora cha tra ena opa foa gm sn hs qs k0 k1 k2 k3 ch o tr es op fo has) ++ ((wX8 cy mo sa pa kb aa oa wa ca ta na mOp mIk mPa mRu mLa mTy mSp mFr mRe mCa mOr mLe rS rP rK rA rO rW rC rT rN) ++ [wL cy ua out]))) ⟨hx, hb, hml, hown, hts⟩ (c_X7_ruleHoldsFor l D cy h0 gma sna hia ka ora cha tra ena opa foa gm sn hs qs k0 k1 k2 k3 ch o tr es op fo has  v1 hv1) (cwV 0 hts gL_law_X7_ruleHoldsFor rfl rfl rfl hd_X7_ruleHoldsFor ⟨Nat.le_of_ble_eq_true rfl, Nat.le_of_ble_eq_true rfl⟩) hK hN hP hD hS hA rfl rfl rfl rfl rfl rfl (by decide) rfl rfl rfl hl.1 rfl (Nat.le_of_ble_eq_true rfl) dL_law_1022 ⟨Nat.le_of_succ_le hc, k_le6 hsl⟩ (fun H locs hP hD hS => ?_)
  refine lv_aload_n hx hb dL_law_1025 rfl (lv_at hl 2 rfl) ?_
  obtain ⟨v2, hv2, hf⟩ := k_B hf
  refine k_callHV (As := []) (rest := [.int v1]) (r := (RX8, TX8, 21)) (ci := 5) (q0 := 15) (isC := [15, 16, 17, 18, 19, 20, 21, 22, 23, 24]) (isR := [0, 1, 2, 3, 4, 5, 6, 7, 8, 9, 10, 11, 12, 13, 14, 25]) (perm := [0, 1, 2, 3, 4, 5, 6, 7, 8, 9, 10, 11, 12, 13, 14, 16, 17, 18, 19, 20, 21, 22, 23, 24, 25, 15]) (w' := ((wX7 cy h0 gma sna hia ka ora cha tra ena opa foa gm sn hs qs k0 k1 k2 k3 ch o tr es op fo has) ++ ((wX8 cy mo sa pa kb aa oa wa ca ta na mOp mIk mPa mRu v2.2.1 mTy mSp mFr mRe mCa mOr mLe rS rP rK rA rO rW v2.2.2 rT rN) ++ [wL cy ua out]))) ⟨hx, hb, hml, hown, hts⟩ (c_X8_ruleHoldsFor l D cy mo sa pa kb aa oa wa ca ta na mOp mIk mPa mRu mLa mTy mSp mFr mRe mCa mOr mLe rS rP rK rA rO rW rC rT rN  v2 hv2) (cwV 0 hts gL_law_X8_ruleHoldsFor rfl rfl rfl hd_X8_ruleHoldsFor ⟨Nat.le_of_ble_eq_true rfl, Nat.le_of_ble_eq_true rfl⟩) hK hN hP hD hS hA rfl rfl rfl rfl rfl rfl (by decide) rfl rfl rfl hl.1 rfl (Nat.le_of_ble_eq_true rfl) dL_law_1026 ⟨Nat.le_of_succ_le hc, k_le6 hsl⟩ (fun H locs hP hD hS => ?_)
  refine lv_icmp_eq (tgt := 1650) hx hb dL_law_1029 (by decide) (fun c3 => ?_) (fun c3 => ?_)
  · have hf := k_T c3 hf
    obtain rfl := k_some hf
    refine W.widen (Nat.le_succ _) (Nat.le_add_right _ 6) ?_
    exact kk ls H locs (lv_sub hl [0, 1, 2, 3, 4] rfl) hP hD hS
  · have hf := k_F c3 hf
    refine lv_iconst (v := 0) hx hb dL_law_1032 (by decide) ?_
    cases hf
def f_case24 (a : Int32) (gm : k_G8) (es : Int32) (op : Nat → Int32) (fo : Nat → Int32) (mOp : Int32) (mLa : Int32) (rS : Nat → Int32) (rO : Nat → Int32) (rW : Nat → Int32) (out : Nat → Int64) : Option (Int32 × (Nat → Int32) × (Nat → Int32) × Int32 × Int32 × (Nat → Int32) × (Nat → Int32) × (Nat → Int64)) :=
  (f_L_endDifference gm es op fo out).bind fun v1 =>
  (f_X8_endDifference mOp mLa rS rO rW).bind fun v2 =>
  (f_X8_thrown v2.2.2.1).bind fun v3 =>
  if v3 = v1.1 then
    if v1.1 = 0 then
      if (lg_cmp (v1.2.2.2.2 0) v2.1.toInt64) = 0 then
        some (v1.2.1, v1.2.2.1, v1.2.2.2.1, v2.2.1, v2.2.2.1, v2.2.2.2.1, v2.2.2.2.2, v1.2.2.2.2)
      else
        none
    else
      some (v1.2.1, v1.2.2.1, v1.2.2.2.1, v2.2.1, v2.2.2.1, v2.2.2.2.1, v2.2.2.2.2, v1.2.2.2.2)
  else
    none
set_option maxHeartbeats 4000000 in
set_option maxRecDepth 100000 in
theorem c_case24 (l : Launch) (hl9 : l.stackTraces = false) {p : Program} {e : Env} {s : State} {m : MethodId} {below : List Frame} {meth : Method} {c : Code} {b L : Nat} {xs : Nat → Int32} {D : va_G} {cy : Nat → ClassId} (C : k_LC p s m c b L xs D cy) (Q : State → Prop) (h0 gma sna hia ka ora cha tra ena opa foa mo sa pa kb aa oa wa ca ta na ua : Nat) (gm : k_G8) (sn : k_G8) (hs : Int32) (qs : k_Q4) (k0 : k_G8) (k1 : k_G8) (k2 : k_G8) (k3 : k_G8) (ch : Nat → Int32) (o : k_O5) (tr : k_G8) (es : Int32) (op : Nat → Int32) (fo : Nat → Int32) (has : Int32) (mOp : Int32) (mIk : Int32) (mPa : Int32) (mRu : Int32) (mLa : Int32) (mTy : Int32) (mSp : Int32) (mFr : Int32) (mRe : Int32) (mCa : Int32) (mOr : Int32) (mLe : Int32) (rS : Nat → Int32) (rP : Nat → Int32) (rK : Nat → Int32) (rA : Nat → Int32) (rO : Nat → Int32) (rW : Nat → Int32) (rC : Nat → Int32) (rT : Nat → Int32) (rN : Nat → Int32) (out : Nat → Int64) (i a : Int32) (hi : vp_in (i + 1) L) (ha : a = xs (i + 1).toNatClampNeg) (r : Int32 × (Nat → Int32) × (Nat → Int32) × Int32 × Int32 × (Nat → Int32) × (Nat → Int32) × (Nat → Int64)) (hf : f_case24 a gm es op fo mOp mLa rS rO rW out = some r) (cells slots : Nat) (hc : cells + 1 ≤ room_1.cells) (hsl : slots + 6 ≤ room_1.slots) (ls : Array Slot) (H : Heap) (locs : List Loc) (hl : lv_has ls 9 [(4, .int i), (3, .ref ua), (2, .ref mo), (1, .ref h0), (0, .ref b)]) (hP : va_P D vwCl ((wX7 cy h0 gma sna hia ka ora cha tra ena opa foa gm sn hs qs k0 k1 k2 k3 ch o tr es op fo has) ++ ((wX8 cy mo sa pa kb aa oa wa ca ta na mOp mIk mPa mRu mLa mTy mSp mFr mRe mCa mOr mLe rS rP rK rA rO rW rC rT rN) ++ [wL cy ua out])) H) (hD : va_D (k_A s) ((wX7 cy h0 gma sna hia ka ora cha tra ena opa foa gm sn hs qs k0 k1 k2 k3 ch o tr es op fo has) ++ ((wX8 cy mo sa pa kb aa oa wa ca ta na mOp mIk mPa mRu mLa mTy mSp mFr mRe mCa mOr mLe rS rP rK rA rO rW rC rT rN) ++ [wL cy ua out]))) (hS : va_S (k_A s) s.heap H locs) (kk : ∀ (ls : Array Slot) (H : Heap) (locs : List Loc), lv_has ls 9 [(4, .int i), (3, .ref ua), (2, .ref mo), (1, .ref h0), (0, .ref b)] → va_P D vwCl ((wX7 cy h0 gma sna hia ka ora cha tra ena opa foa gm sn hs qs k0 k1 k2 k3 ch o tr r.1 r.2.1 r.2.2.1 has) ++ ((wX8 cy mo sa pa kb aa oa wa ca ta na r.2.2.2.1 mIk mPa mRu r.2.2.2.2.1 mTy mSp mFr mRe mCa mOr mLe rS rP rK rA r.2.2.2.2.2.1 r.2.2.2.2.2.2.1 rC rT rN) ++ [wL cy ua r.2.2.2.2.2.2.2])) H → va_D (k_A s) ((wX7 cy h0 gma sna hia ka ora cha tra ena opa foa gm sn hs qs k0 k1 k2 k3 ch o tr r.1 r.2.1 r.2.2.1 has) ++ ((wX8 cy mo sa pa kb aa oa wa ca ta na r.2.2.2.1 mIk mPa mRu r.2.2.2.2.1 mTy mSp mFr mRe mCa mOr mLe rS rP rK rA r.2.2.2.2.2.1 r.2.2.2.2.2.2.1 rC rT rN) ++ [wL cy ua r.2.2.2.2.2.2.2])) → va_S (k_A s) s.heap H locs → W p l e room_1 s m #[Value.ref b] below meth c H locs (cells + 1) (slots + 6) Q (F0 m 1650 ls [])) : W p l e room_1 s m #[Value.ref b] below meth c H locs cells slots Q (F0 m 1034 ls []) := by
  obtain ⟨hx, hb, hml, hown, hts, hX, hbl, hK, hN, hT, hZ, hCx⟩ := C
  have hA : ∀ q : Nat, s.heap.size ≤ q → k_A s q := fun _ h9 => h9
  unfold f_case24 at hf
  refine lv_aload_n hx hb dL_law_1034 rfl (lv_at hl 3 rfl) ?_
  refine lv_aload_n hx hb dL_law_1035 rfl (lv_at hl 1 rfl) ?_
  obtain ⟨v1, hv1, hf⟩ := k_B hf
  refine k_callLS (As := [.ref h0, .ref ua]) (rest := []) (isC := [0, 1, 2, 3, 4, 5, 6, 7, 8, 9, 10, 11, 12, 13, 14, 25]) (isR := [15, 16, 17, 18, 19, 20, 21, 22, 23, 24]) (perm := [10, 11, 12, 13, 14, 15, 16, 17, 18, 19, 20, 21, 22, 23, 24, 0, 1, 2, 3, 4, 5, 6, 7, 8, 9, 25]) (w' := ((wX7 cy h0 gma sna hia ka ora cha tra ena opa foa gm sn hs qs k0 k1 k2 k3 ch o tr v1.2.1 v1.2.2.1 v1.2.2.2.1 has) ++ ((wX8 cy mo sa pa kb aa oa wa ca ta na mOp mIk mPa mRu mLa mTy mSp mFr mRe mCa mOr mLe rS rP rK rA rO rW rC rT rN) ++ [wL cy ua v1.2.2.2.2]))) ⟨hx, hb, hml, hown, hts⟩ (c_L_endDifference l hl9 D cy h0 gma sna hia ka ora cha tra ena opa foa ua gm sn hs qs k0 k1 k2 k3 ch o tr es op fo has out  v1 hv1) (vx_cwSW 2 hts gL_law_L_endDifference rfl rfl rfl hd_L_endDifference ⟨Nat.le_of_ble_eq_true rfl, Nat.le_of_ble_eq_true rfl⟩) hK hN hT hZ hCx hP hD hS (fun _ h9 => h9) rfl rfl rfl (by decide) (by decide) rfl (by decide) rfl hl.1 rfl (Nat.le_of_ble_eq_true rfl) dL_law_1036 ⟨hc, hsl⟩ (fun H locs hP hD hS => ?_)
  refine lv_istore (lv' := [(5, .int v1.1), (4, .int i), (3, .ref ua), (2, .ref mo), (1, .ref h0), (0, .ref b)]) hx hb dL_law_1039 hl (by decide) rfl (fun ls hl => ?_)
  refine lv_aload_n hx hb dL_law_1041 rfl (lv_at hl 3 rfl) ?_
  obtain ⟨v2, hv2, hf⟩ := k_B hf
  refine k_callHV (As := []) (rest := []) (r := (RX8, TX8, 21)) (ci := 5) (q0 := 15) (isC := [15, 16, 17, 18, 19, 20, 21, 22, 23, 24]) (isR := [0, 1, 2, 3, 4, 5, 6, 7, 8, 9, 10, 11, 12, 13, 14, 25]) (perm := [0, 1, 2, 3, 4, 5, 6, 7, 8, 9, 10, 11, 12, 13, 14, 16, 17, 18, 19, 20, 21, 22, 23, 24, 25, 15]) (w' := ((wX7 cy h0 gma sna hia ka ora cha tra ena opa foa gm sn hs qs k0 k1 k2 k3 ch o tr v1.2.1 v1.2.2.1 v1.2.2.2.1 has) ++ ((wX8 cy mo sa pa kb aa oa wa ca ta na v2.2.1 mIk mPa mRu v2.2.2.1 mTy mSp mFr mRe mCa mOr mLe rS rP rK rA v2.2.2.2.1 v2.2.2.2.2 rC rT rN) ++ [wL cy ua v1.2.2.2.2]))) ⟨hx, hb, hml, hown, hts⟩ (c_X8_endDifference l D cy mo sa pa kb aa oa wa ca ta na mOp mIk mPa mRu mLa mTy mSp mFr mRe mCa mOr mLe rS rP rK rA rO rW rC rT rN  v2 hv2) (cwV 0 hts gL_law_X8_endDifference rfl rfl rfl hd_X8_endDifference ⟨Nat.le_of_ble_eq_true rfl, Nat.le_of_ble_eq_true rfl⟩) hK hN hP hD hS hA rfl rfl rfl rfl rfl rfl (by decide) rfl rfl rfl hl.1 rfl (Nat.le_of_ble_eq_true rfl) dL_law_1042 ⟨hc, hsl⟩ (fun H locs hP hD hS => ?_)
  refine lv_istore (lv' := [(6, .int v2.1), (5, .int v1.1), (4, .int i), (3, .ref ua), (2, .ref mo), (1, .ref h0), (0, .ref b)]) hx hb dL_law_1045 hl (by decide) rfl (fun ls hl => ?_)
  refine lv_aload_n hx hb dL_law_1047 rfl (lv_at hl 4 rfl) ?_
  obtain ⟨v3, hv3, hf⟩ := k_B hf
  refine k_callHV (As := []) (rest := []) (r := (RX8, TX8, 21)) (ci := 5) (q0 := 15) (isC := [15, 16, 17, 18, 19, 20, 21, 22, 23, 24]) (isR := [0, 1, 2, 3, 4, 5, 6, 7, 8, 9, 10, 11, 12, 13, 14, 25]) (perm := [0, 1, 2, 3, 4, 5, 6, 7, 8, 9, 10, 11, 12, 13, 14, 16, 17, 18, 19, 20, 21, 22, 23, 24, 25, 15]) (w' := ((wX7 cy h0 gma sna hia ka ora cha tra ena opa foa gm sn hs qs k0 k1 k2 k3 ch o tr v1.2.1 v1.2.2.1 v1.2.2.2.1 has) ++ ((wX8 cy mo sa pa kb aa oa wa ca ta na v2.2.1 mIk mPa mRu v2.2.2.1 mTy mSp mFr mRe mCa mOr mLe rS rP rK rA v2.2.2.2.1 v2.2.2.2.2 rC rT rN) ++ [wL cy ua v1.2.2.2.2]))) ⟨hx, hb, hml, hown, hts⟩ (c_X8_thrown l D cy mo sa pa kb aa oa wa ca ta na v2.2.1 mIk mPa mRu v2.2.2.1 mTy mSp mFr mRe mCa mOr mLe rS rP rK rA v2.2.2.2.1 v2.2.2.2.2 rC rT rN  v3 hv3) (cwV 0 hts gL_law_X8_thrown rfl rfl rfl hd_X8_thrown ⟨Nat.le_of_ble_eq_true rfl, Nat.le_of_ble_eq_true rfl⟩) hK hN hP hD hS hA rfl rfl rfl rfl rfl rfl (by decide) rfl rfl rfl hl.1 rfl (Nat.le_of_ble_eq_true rfl) dL_law_1048 ⟨hc, hsl⟩ (fun H locs hP hD hS => ?_)
  refine lv_iload hx hb dL_law_1051 (lv_at hl 1 rfl) ?_
  refine lv_icmp_eq (tgt := 1058) hx hb dL_law_1053 (by decide) (fun c4 => ?_) (fun c4 => ?_)
  · have hf := k_T c4 hf
    refine lv_iload hx hb dL_law_1058 (lv_at hl 1 rfl) ?_
    refine lv_if_ne (tgt := 1075) hx hb dL_law_1060 (by decide) (fun c5 => ?_) (fun c5 => ?_)
    · have hf := k_F c5 hf
      refine lv_goto (tgt := 1650) hx hb dL_law_1075 (by decide) ?_
      obtain rfl := k_some hf
      exact kk ls H locs (lv_sub hl [2, 3, 4, 5, 6] rfl) hP hD hS
    · have hf := k_T c5 hf
      refine lv_aload_n hx hb dL_law_1063 rfl (lv_at hl 3 rfl) ?_
      refine lv_iconst (v := 0) hx hb dL_law_1064 (by decide) ?_
      refine va_lald hx hb hK hP 25 3 rfl rfl (k_in (i := 0) (n := 1) (by decide +kernel)) dL_law_1065 ?_
      refine k_nameJ (v := v1.2.2.2.2 0) rfl ?_
      refine lv_iload hx hb dL_law_1066 (lv_at hl 0 rfl) ?_
      refine lv_i2l hx hb dL_law_1068 rfl ?_
      refine W.lcmp hx hb dL_law_1069 ?_
      refine lv_if_eq (tgt := 1075) hx hb dL_law_1070 (by decide) (fun c6 => ?_) (fun c6 => ?_)
      · have hf := k_T c6 hf
        refine lv_goto (tgt := 1650) hx hb dL_law_1075 (by decide) ?_
        obtain rfl := k_some hf
        exact kk ls H locs (lv_sub hl [2, 3, 4, 5, 6] rfl) hP hD hS
      · have hf := k_F c6 hf
        refine lv_iconst (v := 0) hx hb dL_law_1073 (by decide) ?_
        cases hf
  · have hf := k_F c4 hf
    refine lv_iconst (v := 0) hx hb dL_law_1056 (by decide) ?_
    cases hf
def f_case25 (a : Int32) (gm : k_G8) (mOp : Int32) (mLa : Int32) (rS : Nat → Int32) (rO : Nat → Int32) (rW : Nat → Int32) (out : Nat → Int64) : Option (Int32 × Int32 × (Nat → Int32) × (Nat → Int32) × (Nat → Int64)) :=
  (f_L_endByTrying gm out).bind fun v1 =>
  (f_X8_endByTrying mOp mLa rS rO rW).bind fun v2 =>
  (f_X8_thrown v2.2.2.1).bind fun v3 =>
  if v3 = v1.1 then
    if v1.1 = 0 then
      if (lg_cmp (v1.2 0) v2.1.toInt64) = 0 then
        some (v2.2.1, v2.2.2.1, v2.2.2.2.1, v2.2.2.2.2, v1.2)
      else
        none
    else
      some (v2.2.1, v2.2.2.1, v2.2.2.2.1, v2.2.2.2.2, v1.2)
  else
    none
set_option maxHeartbeats 4000000 in
set_option maxRecDepth 100000 in
theorem c_case25 (l : Launch) (hl9 : l.stackTraces = false) {p : Program} {e : Env} {s : State} {m : MethodId} {below : List Frame} {meth : Method} {c : Code} {b L : Nat} {xs : Nat → Int32} {D : va_G} {cy : Nat → ClassId} (C : k_LC p s m c b L xs D cy) (Q : State → Prop) (h0 gma sna hia ka ora cha tra ena opa foa mo sa pa kb aa oa wa ca ta na ua : Nat) (gm : k_G8) (sn : k_G8) (hs : Int32) (qs : k_Q4) (k0 : k_G8) (k1 : k_G8) (k2 : k_G8) (k3 : k_G8) (ch : Nat → Int32) (o : k_O5) (tr : k_G8) (es : Int32) (op : Nat → Int32) (fo : Nat → Int32) (has : Int32) (mOp : Int32) (mIk : Int32) (mPa : Int32) (mRu : Int32) (mLa : Int32) (mTy : Int32) (mSp : Int32) (mFr : Int32) (mRe : Int32) (mCa : Int32) (mOr : Int32) (mLe : Int32) (rS : Nat → Int32) (rP : Nat → Int32) (rK : Nat → Int32) (rA : Nat → Int32) (rO : Nat → Int32) (rW : Nat → Int32) (rC : Nat → Int32) (rT : Nat → Int32) (rN : Nat → Int32) (out : Nat → Int64) (i a : Int32) (hi : vp_in (i + 1) L) (ha : a = xs (i + 1).toNatClampNeg) (r : Int32 × Int32 × (Nat → Int32) × (Nat → Int32) × (Nat → Int64)) (hf : f_case25 a gm mOp mLa rS rO rW out = some r) (cells slots : Nat) (hc : cells + 1 ≤ room_1.cells) (hsl : slots + 6 ≤ room_1.slots) (ls : Array Slot) (H : Heap) (locs : List Loc) (hl : lv_has ls 9 [(4, .int i), (3, .ref ua), (2, .ref mo), (1, .ref h0), (0, .ref b)]) (hP : va_P D vwCl ((wX7 cy h0 gma sna hia ka ora cha tra ena opa foa gm sn hs qs k0 k1 k2 k3 ch o tr es op fo has) ++ ((wX8 cy mo sa pa kb aa oa wa ca ta na mOp mIk mPa mRu mLa mTy mSp mFr mRe mCa mOr mLe rS rP rK rA rO rW rC rT rN) ++ [wL cy ua out])) H) (hD : va_D (k_A s) ((wX7 cy h0 gma sna hia ka ora cha tra ena opa foa gm sn hs qs k0 k1 k2 k3 ch o tr es op fo has) ++ ((wX8 cy mo sa pa kb aa oa wa ca ta na mOp mIk mPa mRu mLa mTy mSp mFr mRe mCa mOr mLe rS rP rK rA rO rW rC rT rN) ++ [wL cy ua out]))) (hS : va_S (k_A s) s.heap H locs) (kk : ∀ (ls : Array Slot) (H : Heap) (locs : List Loc), lv_has ls 9 [(4, .int i), (3, .ref ua), (2, .ref mo), (1, .ref h0), (0, .ref b)] → va_P D vwCl ((wX7 cy h0 gma sna hia ka ora cha tra ena opa foa gm sn hs qs k0 k1 k2 k3 ch o tr es op fo has) ++ ((wX8 cy mo sa pa kb aa oa wa ca ta na r.1 mIk mPa mRu r.2.1 mTy mSp mFr mRe mCa mOr mLe rS rP rK rA r.2.2.1 r.2.2.2.1 rC rT rN) ++ [wL cy ua r.2.2.2.2])) H → va_D (k_A s) ((wX7 cy h0 gma sna hia ka ora cha tra ena opa foa gm sn hs qs k0 k1 k2 k3 ch o tr es op fo has) ++ ((wX8 cy mo sa pa kb aa oa wa ca ta na r.1 mIk mPa mRu r.2.1 mTy mSp mFr mRe mCa mOr mLe rS rP rK rA r.2.2.1 r.2.2.2.1 rC rT rN) ++ [wL cy ua r.2.2.2.2])) → va_S (k_A s) s.heap H locs → W p l e room_1 s m #[Value.ref b] below meth c H locs (cells + 1) (slots + 6) Q (F0 m 1650 ls [])) : W p l e room_1 s m #[Value.ref b] below meth c H locs cells slots Q (F0 m 1078 ls []) := by
  obtain ⟨hx, hb, hml, hown, hts, hX, hbl, hK, hN, hT, hZ, hCx⟩ := C
  have hA : ∀ q : Nat, s.heap.size ≤ q → k_A s q := fun _ h9 => h9
  unfold f_case25 at hf
  refine lv_aload_n hx hb dL_law_1078 rfl (lv_at hl 3 rfl) ?_
  refine lv_aload_n hx hb dL_law_1079 rfl (lv_at hl 1 rfl) ?_
  obtain ⟨v1, hv1, hf⟩ := k_B hf
  refine k_callLS (As := [.ref h0, .ref ua]) (rest := []) (isC := [0, 1, 2, 3, 4, 5, 6, 7, 8, 9, 10, 11, 12, 13, 14, 25]) (isR := [15, 16, 17, 18, 19, 20, 21, 22, 23, 24]) (perm := [10, 11, 12, 13, 14, 15, 16, 17, 18, 19, 20, 21, 22, 23, 24, 0, 1, 2, 3, 4, 5, 6, 7, 8, 9, 25]) (w' := ((wX7 cy h0 gma sna hia ka ora cha tra ena opa foa gm sn hs qs k0 k1 k2 k3 ch o tr es op fo has) ++ ((wX8 cy mo sa pa kb aa oa wa ca ta na mOp mIk mPa mRu mLa mTy mSp mFr mRe mCa mOr mLe rS rP rK rA rO rW rC rT rN) ++ [wL cy ua v1.2]))) ⟨hx, hb, hml, hown, hts⟩ (c_L_endByTrying l hl9 D cy h0 gma sna hia ka ora cha tra ena opa foa ua gm sn hs qs k0 k1 k2 k3 ch o tr es op fo has out  v1 hv1) (vx_cwSW 2 hts gL_law_L_endByTrying rfl rfl rfl hd_L_endByTrying ⟨Nat.le_of_ble_eq_true rfl, Nat.le_of_ble_eq_true rfl⟩) hK hN hT hZ hCx hP hD hS (fun _ h9 => h9) rfl rfl rfl (by decide) (by decide) rfl (by decide) rfl hl.1 rfl (Nat.le_of_ble_eq_true rfl) dL_law_1080 ⟨hc, hsl⟩ (fun H locs hP hD hS => ?_)
  refine lv_istore (lv' := [(5, .int v1.1), (4, .int i), (3, .ref ua), (2, .ref mo), (1, .ref h0), (0, .ref b)]) hx hb dL_law_1083 hl (by decide) rfl (fun ls hl => ?_)
  refine lv_aload_n hx hb dL_law_1085 rfl (lv_at hl 3 rfl) ?_
  obtain ⟨v2, hv2, hf⟩ := k_B hf
  refine k_callHV (As := []) (rest := []) (r := (RX8, TX8, 21)) (ci := 5) (q0 := 15) (isC := [15, 16, 17, 18, 19, 20, 21, 22, 23, 24]) (isR := [0, 1, 2, 3, 4, 5, 6, 7, 8, 9, 10, 11, 12, 13, 14, 25]) (perm := [0, 1, 2, 3, 4, 5, 6, 7, 8, 9, 10, 11, 12, 13, 14, 16, 17, 18, 19, 20, 21, 22, 23, 24, 25, 15]) (w' := ((wX7 cy h0 gma sna hia ka ora cha tra ena opa foa gm sn hs qs k0 k1 k2 k3 ch o tr es op fo has) ++ ((wX8 cy mo sa pa kb aa oa wa ca ta na v2.2.1 mIk mPa mRu v2.2.2.1 mTy mSp mFr mRe mCa mOr mLe rS rP rK rA v2.2.2.2.1 v2.2.2.2.2 rC rT rN) ++ [wL cy ua v1.2]))) ⟨hx, hb, hml, hown, hts⟩ (c_X8_endByTrying l D cy mo sa pa kb aa oa wa ca ta na mOp mIk mPa mRu mLa mTy mSp mFr mRe mCa mOr mLe rS rP rK rA rO rW rC rT rN  v2 hv2) (cwV 0 hts gL_law_X8_endByTrying rfl rfl rfl hd_X8_endByTrying ⟨Nat.le_of_ble_eq_true rfl, Nat.le_of_ble_eq_true rfl⟩) hK hN hP hD hS hA rfl rfl rfl rfl rfl rfl (by decide) rfl rfl rfl hl.1 rfl (Nat.le_of_ble_eq_true rfl) dL_law_1086 ⟨hc, hsl⟩ (fun H locs hP hD hS => ?_)
  refine lv_istore (lv' := [(6, .int v2.1), (5, .int v1.1), (4, .int i), (3, .ref ua), (2, .ref mo), (1, .ref h0), (0, .ref b)]) hx hb dL_law_1089 hl (by decide) rfl (fun ls hl => ?_)
  refine lv_aload_n hx hb dL_law_1091 rfl (lv_at hl 4 rfl) ?_
  obtain ⟨v3, hv3, hf⟩ := k_B hf
  refine k_callHV (As := []) (rest := []) (r := (RX8, TX8, 21)) (ci := 5) (q0 := 15) (isC := [15, 16, 17, 18, 19, 20, 21, 22, 23, 24]) (isR := [0, 1, 2, 3, 4, 5, 6, 7, 8, 9, 10, 11, 12, 13, 14, 25]) (perm := [0, 1, 2, 3, 4, 5, 6, 7, 8, 9, 10, 11, 12, 13, 14, 16, 17, 18, 19, 20, 21, 22, 23, 24, 25, 15]) (w' := ((wX7 cy h0 gma sna hia ka ora cha tra ena opa foa gm sn hs qs k0 k1 k2 k3 ch o tr es op fo has) ++ ((wX8 cy mo sa pa kb aa oa wa ca ta na v2.2.1 mIk mPa mRu v2.2.2.1 mTy mSp mFr mRe mCa mOr mLe rS rP rK rA v2.2.2.2.1 v2.2.2.2.2 rC rT rN) ++ [wL cy ua v1.2]))) ⟨hx, hb, hml, hown, hts⟩ (c_X8_thrown l D cy mo sa pa kb aa oa wa ca ta na v2.2.1 mIk mPa mRu v2.2.2.1 mTy mSp mFr mRe mCa mOr mLe rS rP rK rA v2.2.2.2.1 v2.2.2.2.2 rC rT rN  v3 hv3) (cwV 0 hts gL_law_X8_thrown rfl rfl rfl hd_X8_thrown ⟨Nat.le_of_ble_eq_true rfl, Nat.le_of_ble_eq_true rfl⟩) hK hN hP hD hS hA rfl rfl rfl rfl rfl rfl (by decide) rfl rfl rfl hl.1 rfl (Nat.le_of_ble_eq_true rfl) dL_law_1092 ⟨hc, hsl⟩ (fun H locs hP hD hS => ?_)
  refine lv_iload hx hb dL_law_1095 (lv_at hl 1 rfl) ?_
  refine lv_icmp_eq (tgt := 1102) hx hb dL_law_1097 (by decide) (fun c4 => ?_) (fun c4 => ?_)
  · have hf := k_T c4 hf
    refine lv_iload hx hb dL_law_1102 (lv_at hl 1 rfl) ?_
    refine lv_if_ne (tgt := 1119) hx hb dL_law_1104 (by decide) (fun c5 => ?_) (fun c5 => ?_)
    · have hf := k_F c5 hf
      refine lv_goto (tgt := 1650) hx hb dL_law_1119 (by decide) ?_
      obtain rfl := k_some hf
      exact kk ls H locs (lv_sub hl [2, 3, 4, 5, 6] rfl) hP hD hS
    · have hf := k_T c5 hf
      refine lv_aload_n hx hb dL_law_1107 rfl (lv_at hl 3 rfl) ?_
      refine lv_iconst (v := 0) hx hb dL_law_1108 (by decide) ?_
      refine va_lald hx hb hK hP 25 3 rfl rfl (k_in (i := 0) (n := 1) (by decide +kernel)) dL_law_1109 ?_
      refine k_nameJ (v := v1.2 0) rfl ?_
      refine lv_iload hx hb dL_law_1110 (lv_at hl 0 rfl) ?_
      refine lv_i2l hx hb dL_law_1112 rfl ?_
      refine W.lcmp hx hb dL_law_1113 ?_
      refine lv_if_eq (tgt := 1119) hx hb dL_law_1114 (by decide) (fun c6 => ?_) (fun c6 => ?_)
      · have hf := k_T c6 hf
        refine lv_goto (tgt := 1650) hx hb dL_law_1119 (by decide) ?_
        obtain rfl := k_some hf
        exact kk ls H locs (lv_sub hl [2, 3, 4, 5, 6] rfl) hP hD hS
      · have hf := k_F c6 hf
        refine lv_iconst (v := 0) hx hb dL_law_1117 (by decide) ?_
        cases hf
  · have hf := k_F c4 hf
    refine lv_iconst (v := 0) hx hb dL_law_1100 (by decide) ?_
    cases hf
def f_case26 (a : Int32) (gm : k_G8) (es : Int32) (op : Nat → Int32) (fo : Nat → Int32) (mOp : Int32) (mLa : Int32) (rS : Nat → Int32) (rO : Nat → Int32) (rW : Nat → Int32) (out : Nat → Int64) : Option (Int32 × (Nat → Int32) × (Nat → Int32) × Int32 × Int32 × (Nat → Int32) × (Nat → Int32) × (Nat → Int64)) :=
  (f_L_bestFence gm es op fo out).bind fun v1 =>
  (f_X8_bestFence mOp mLa rS rO rW).bind fun v2 =>
  (f_X8_thrown v2.2.2.1).bind fun v3 =>
  if v3 = v1.1 then
    if v1.1 = 0 then
      if (lg_cmp (v1.2.2.2.2 0) v2.1.toInt64) = 0 then
        some (v1.2.1, v1.2.2.1, v1.2.2.2.1, v2.2.1, v2.2.2.1, v2.2.2.2.1, v2.2.2.2.2, v1.2.2.2.2)
      else
        none
    else
      some (v1.2.1, v1.2.2.1, v1.2.2.2.1, v2.2.1, v2.2.2.1, v2.2.2.2.1, v2.2.2.2.2, v1.2.2.2.2)
  else
    none
set_option maxHeartbeats 4000000 in
set_option maxRecDepth 100000 in
theorem c_case26 (l : Launch) (hl9 : l.stackTraces = false) {p : Program} {e : Env} {s : State} {m : MethodId} {below : List Frame} {meth : Method} {c : Code} {b L : Nat} {xs : Nat → Int32} {D : va_G} {cy : Nat → ClassId} (C : k_LC p s m c b L xs D cy) (Q : State → Prop) (h0 gma sna hia ka ora cha tra ena opa foa mo sa pa kb aa oa wa ca ta na ua : Nat) (gm : k_G8) (sn : k_G8) (hs : Int32) (qs : k_Q4) (k0 : k_G8) (k1 : k_G8) (k2 : k_G8) (k3 : k_G8) (ch : Nat → Int32) (o : k_O5) (tr : k_G8) (es : Int32) (op : Nat → Int32) (fo : Nat → Int32) (has : Int32) (mOp : Int32) (mIk : Int32) (mPa : Int32) (mRu : Int32) (mLa : Int32) (mTy : Int32) (mSp : Int32) (mFr : Int32) (mRe : Int32) (mCa : Int32) (mOr : Int32) (mLe : Int32) (rS : Nat → Int32) (rP : Nat → Int32) (rK : Nat → Int32) (rA : Nat → Int32) (rO : Nat → Int32) (rW : Nat → Int32) (rC : Nat → Int32) (rT : Nat → Int32) (rN : Nat → Int32) (out : Nat → Int64) (i a : Int32) (hi : vp_in (i + 1) L) (ha : a = xs (i + 1).toNatClampNeg) (r : Int32 × (Nat → Int32) × (Nat → Int32) × Int32 × Int32 × (Nat → Int32) × (Nat → Int32) × (Nat → Int64)) (hf : f_case26 a gm es op fo mOp mLa rS rO rW out = some r) (cells slots : Nat) (hc : cells + 1 ≤ room_1.cells) (hsl : slots + 6 ≤ room_1.slots) (ls : Array Slot) (H : Heap) (locs : List Loc) (hl : lv_has ls 9 [(4, .int i), (3, .ref ua), (2, .ref mo), (1, .ref h0), (0, .ref b)]) (hP : va_P D vwCl ((wX7 cy h0 gma sna hia ka ora cha tra ena opa foa gm sn hs qs k0 k1 k2 k3 ch o tr es op fo has) ++ ((wX8 cy mo sa pa kb aa oa wa ca ta na mOp mIk mPa mRu mLa mTy mSp mFr mRe mCa mOr mLe rS rP rK rA rO rW rC rT rN) ++ [wL cy ua out])) H) (hD : va_D (k_A s) ((wX7 cy h0 gma sna hia ka ora cha tra ena opa foa gm sn hs qs k0 k1 k2 k3 ch o tr es op fo has) ++ ((wX8 cy mo sa pa kb aa oa wa ca ta na mOp mIk mPa mRu mLa mTy mSp mFr mRe mCa mOr mLe rS rP rK rA rO rW rC rT rN) ++ [wL cy ua out]))) (hS : va_S (k_A s) s.heap H locs) (kk : ∀ (ls : Array Slot) (H : Heap) (locs : List Loc), lv_has ls 9 [(4, .int i), (3, .ref ua), (2, .ref mo), (1, .ref h0), (0, .ref b)] → va_P D vwCl ((wX7 cy h0 gma sna hia ka ora cha tra ena opa foa gm sn hs qs k0 k1 k2 k3 ch o tr r.1 r.2.1 r.2.2.1 has) ++ ((wX8 cy mo sa pa kb aa oa wa ca ta na r.2.2.2.1 mIk mPa mRu r.2.2.2.2.1 mTy mSp mFr mRe mCa mOr mLe rS rP rK rA r.2.2.2.2.2.1 r.2.2.2.2.2.2.1 rC rT rN) ++ [wL cy ua r.2.2.2.2.2.2.2])) H → va_D (k_A s) ((wX7 cy h0 gma sna hia ka ora cha tra ena opa foa gm sn hs qs k0 k1 k2 k3 ch o tr r.1 r.2.1 r.2.2.1 has) ++ ((wX8 cy mo sa pa kb aa oa wa ca ta na r.2.2.2.1 mIk mPa mRu r.2.2.2.2.1 mTy mSp mFr mRe mCa mOr mLe rS rP rK rA r.2.2.2.2.2.1 r.2.2.2.2.2.2.1 rC rT rN) ++ [wL cy ua r.2.2.2.2.2.2.2])) → va_S (k_A s) s.heap H locs → W p l e room_1 s m #[Value.ref b] below meth c H locs (cells + 1) (slots + 6) Q (F0 m 1650 ls [])) : W p l e room_1 s m #[Value.ref b] below meth c H locs cells slots Q (F0 m 1122 ls []) := by
  obtain ⟨hx, hb, hml, hown, hts, hX, hbl, hK, hN, hT, hZ, hCx⟩ := C
  have hA : ∀ q : Nat, s.heap.size ≤ q → k_A s q := fun _ h9 => h9
  unfold f_case26 at hf
  refine lv_aload_n hx hb dL_law_1122 rfl (lv_at hl 3 rfl) ?_
  refine lv_aload_n hx hb dL_law_1123 rfl (lv_at hl 1 rfl) ?_
  obtain ⟨v1, hv1, hf⟩ := k_B hf
  refine k_callLS (As := [.ref h0, .ref ua]) (rest := []) (isC := [0, 1, 2, 3, 4, 5, 6, 7, 8, 9, 10, 11, 12, 13, 14, 25]) (isR := [15, 16, 17, 18, 19, 20, 21, 22, 23, 24]) (perm := [10, 11, 12, 13, 14, 15, 16, 17, 18, 19, 20, 21, 22, 23, 24, 0, 1, 2, 3, 4, 5, 6, 7, 8, 9, 25]) (w' := ((wX7 cy h0 gma sna hia ka ora cha tra ena opa foa gm sn hs qs k0 k1 k2 k3 ch o tr v1.2.1 v1.2.2.1 v1.2.2.2.1 has) ++ ((wX8 cy mo sa pa kb aa oa wa ca ta na mOp mIk mPa mRu mLa mTy mSp mFr mRe mCa mOr mLe rS rP rK rA rO rW rC rT rN) ++ [wL cy ua v1.2.2.2.2]))) ⟨hx, hb, hml, hown, hts⟩ (c_L_bestFence l hl9 D cy h0 gma sna hia ka ora cha tra ena opa foa ua gm sn hs qs k0 k1 k2 k3 ch o tr es op fo has out  v1 hv1) (vx_cwSW 2 hts gL_law_L_bestFence rfl rfl rfl hd_L_bestFence ⟨Nat.le_of_ble_eq_true rfl, Nat.le_of_ble_eq_true rfl⟩) hK hN hT hZ hCx hP hD hS (fun _ h9 => h9) rfl rfl rfl (by decide) (by decide) rfl (by decide) rfl hl.1 rfl (Nat.le_of_ble_eq_true rfl) dL_law_1124 ⟨hc, hsl⟩ (fun H locs hP hD hS => ?_)
  refine lv_istore (lv' := [(5, .int v1.1), (4, .int i), (3, .ref ua), (2, .ref mo), (1, .ref h0), (0, .ref b)]) hx hb dL_law_1127 hl (by decide) rfl (fun ls hl => ?_)
  refine lv_aload_n hx hb dL_law_1129 rfl (lv_at hl 3 rfl) ?_
  obtain ⟨v2, hv2, hf⟩ := k_B hf
  refine k_callHV (As := []) (rest := []) (r := (RX8, TX8, 21)) (ci := 5) (q0 := 15) (isC := [15, 16, 17, 18, 19, 20, 21, 22, 23, 24]) (isR := [0, 1, 2, 3, 4, 5, 6, 7, 8, 9, 10, 11, 12, 13, 14, 25]) (perm := [0, 1, 2, 3, 4, 5, 6, 7, 8, 9, 10, 11, 12, 13, 14, 16, 17, 18, 19, 20, 21, 22, 23, 24, 25, 15]) (w' := ((wX7 cy h0 gma sna hia ka ora cha tra ena opa foa gm sn hs qs k0 k1 k2 k3 ch o tr v1.2.1 v1.2.2.1 v1.2.2.2.1 has) ++ ((wX8 cy mo sa pa kb aa oa wa ca ta na v2.2.1 mIk mPa mRu v2.2.2.1 mTy mSp mFr mRe mCa mOr mLe rS rP rK rA v2.2.2.2.1 v2.2.2.2.2 rC rT rN) ++ [wL cy ua v1.2.2.2.2]))) ⟨hx, hb, hml, hown, hts⟩ (c_X8_bestFence l D cy mo sa pa kb aa oa wa ca ta na mOp mIk mPa mRu mLa mTy mSp mFr mRe mCa mOr mLe rS rP rK rA rO rW rC rT rN  v2 hv2) (cwV 0 hts gL_law_X8_bestFence rfl rfl rfl hd_X8_bestFence ⟨Nat.le_of_ble_eq_true rfl, Nat.le_of_ble_eq_true rfl⟩) hK hN hP hD hS hA rfl rfl rfl rfl rfl rfl (by decide) rfl rfl rfl hl.1 rfl (Nat.le_of_ble_eq_true rfl) dL_law_1130 ⟨hc, hsl⟩ (fun H locs hP hD hS => ?_)
  refine lv_istore (lv' := [(6, .int v2.1), (5, .int v1.1), (4, .int i), (3, .ref ua), (2, .ref mo), (1, .ref h0), (0, .ref b)]) hx hb dL_law_1133 hl (by decide) rfl (fun ls hl => ?_)
  refine lv_aload_n hx hb dL_law_1135 rfl (lv_at hl 4 rfl) ?_
  obtain ⟨v3, hv3, hf⟩ := k_B hf
  refine k_callHV (As := []) (rest := []) (r := (RX8, TX8, 21)) (ci := 5) (q0 := 15) (isC := [15, 16, 17, 18, 19, 20, 21, 22, 23, 24]) (isR := [0, 1, 2, 3, 4, 5, 6, 7, 8, 9, 10, 11, 12, 13, 14, 25]) (perm := [0, 1, 2, 3, 4, 5, 6, 7, 8, 9, 10, 11, 12, 13, 14, 16, 17, 18, 19, 20, 21, 22, 23, 24, 25, 15]) (w' := ((wX7 cy h0 gma sna hia ka ora cha tra ena opa foa gm sn hs qs k0 k1 k2 k3 ch o tr v1.2.1 v1.2.2.1 v1.2.2.2.1 has) ++ ((wX8 cy mo sa pa kb aa oa wa ca ta na v2.2.1 mIk mPa mRu v2.2.2.1 mTy mSp mFr mRe mCa mOr mLe rS rP rK rA v2.2.2.2.1 v2.2.2.2.2 rC rT rN) ++ [wL cy ua v1.2.2.2.2]))) ⟨hx, hb, hml, hown, hts⟩ (c_X8_thrown l D cy mo sa pa kb aa oa wa ca ta na v2.2.1 mIk mPa mRu v2.2.2.1 mTy mSp mFr mRe mCa mOr mLe rS rP rK rA v2.2.2.2.1 v2.2.2.2.2 rC rT rN  v3 hv3) (cwV 0 hts gL_law_X8_thrown rfl rfl rfl hd_X8_thrown ⟨Nat.le_of_ble_eq_true rfl, Nat.le_of_ble_eq_true rfl⟩) hK hN hP hD hS hA rfl rfl rfl rfl rfl rfl (by decide) rfl rfl rfl hl.1 rfl (Nat.le_of_ble_eq_true rfl) dL_law_1136 ⟨hc, hsl⟩ (fun H locs hP hD hS => ?_)
  refine lv_iload hx hb dL_law_1139 (lv_at hl 1 rfl) ?_
  refine lv_icmp_eq (tgt := 1146) hx hb dL_law_1141 (by decide) (fun c4 => ?_) (fun c4 => ?_)
  · have hf := k_T c4 hf
    refine lv_iload hx hb dL_law_1146 (lv_at hl 1 rfl) ?_
    refine lv_if_ne (tgt := 1163) hx hb dL_law_1148 (by decide) (fun c5 => ?_) (fun c5 => ?_)
    · have hf := k_F c5 hf
      refine lv_goto (tgt := 1650) hx hb dL_law_1163 (by decide) ?_
      obtain rfl := k_some hf
      exact kk ls H locs (lv_sub hl [2, 3, 4, 5, 6] rfl) hP hD hS
    · have hf := k_T c5 hf
      refine lv_aload_n hx hb dL_law_1151 rfl (lv_at hl 3 rfl) ?_
      refine lv_iconst (v := 0) hx hb dL_law_1152 (by decide) ?_
      refine va_lald hx hb hK hP 25 3 rfl rfl (k_in (i := 0) (n := 1) (by decide +kernel)) dL_law_1153 ?_
      refine k_nameJ (v := v1.2.2.2.2 0) rfl ?_
      refine lv_iload hx hb dL_law_1154 (lv_at hl 0 rfl) ?_
      refine lv_i2l hx hb dL_law_1156 rfl ?_
      refine W.lcmp hx hb dL_law_1157 ?_
      refine lv_if_eq (tgt := 1163) hx hb dL_law_1158 (by decide) (fun c6 => ?_) (fun c6 => ?_)
      · have hf := k_T c6 hf
        refine lv_goto (tgt := 1650) hx hb dL_law_1163 (by decide) ?_
        obtain rfl := k_some hf
        exact kk ls H locs (lv_sub hl [2, 3, 4, 5, 6] rfl) hP hD hS
      · have hf := k_F c6 hf
        refine lv_iconst (v := 0) hx hb dL_law_1161 (by decide) ?_
        cases hf
  · have hf := k_F c4 hf
    refine lv_iconst (v := 0) hx hb dL_law_1144 (by decide) ?_
    cases hf
def f_case27 (a : Int32) (gm : k_G8) (mLa : Int32) (rS : Nat → Int32) (out : Nat → Int64) : Option (Int32 × (Nat → Int64)) :=
  (f_L_won a gm out).bind fun v1 =>
  (f_X8_won a mLa rS).bind fun v2 =>
  (f_X8_thrown v2.2).bind fun v3 =>
  if v3 = v1.1 then
    if v1.1 = 0 then
      if (lg_cmp (v1.2 0) v2.1.toInt64) = 0 then
        some (v2.2, v1.2)
      else
        none
    else
      some (v2.2, v1.2)
  else
    none
set_option maxHeartbeats 4000000 in
set_option maxRecDepth 100000 in
theorem c_case27 (l : Launch) (hl9 : l.stackTraces = false) {p : Program} {e : Env} {s : State} {m : MethodId} {below : List Frame} {meth : Method} {c : Code} {b L : Nat} {xs : Nat → Int32} {D : va_G} {cy : Nat → ClassId} (C : k_LC p s m c b L xs D cy) (Q : State → Prop) (h0 gma sna hia ka ora cha tra ena opa foa mo sa pa kb aa oa wa ca ta na ua : Nat) (gm : k_G8) (sn : k_G8) (hs : Int32) (qs : k_Q4) (k0 : k_G8) (k1 : k_G8) (k2 : k_G8) (k3 : k_G8) (ch : Nat → Int32) (o : k_O5) (tr : k_G8) (es : Int32) (op : Nat → Int32) (fo : Nat → Int32) (has : Int32) (mOp : Int32) (mIk : Int32) (mPa : Int32) (mRu : Int32) (mLa : Int32) (mTy : Int32) (mSp : Int32) (mFr : Int32) (mRe : Int32) (mCa : Int32) (mOr : Int32) (mLe : Int32) (rS : Nat → Int32) (rP : Nat → Int32) (rK : Nat → Int32) (rA : Nat → Int32) (rO : Nat → Int32) (rW : Nat → Int32) (rC : Nat → Int32) (rT : Nat → Int32) (rN : Nat → Int32) (out : Nat → Int64) (i a : Int32) (hi : vp_in (i + 1) L) (ha : a = xs (i + 1).toNatClampNeg) (r : Int32 × (Nat → Int64)) (hf : f_case27 a gm mLa rS out = some r) (cells slots : Nat) (hc : cells + 1 ≤ room_1.cells) (hsl : slots + 6 ≤ room_1.slots) (ls : Array Slot) (H : Heap) (locs : List Loc) (hl : lv_has ls 9 [(4, .int i), (3, .ref ua), (2, .ref mo), (1, .ref h0), (0, .ref b)]) (hP : va_P D vwCl ((wX7 cy h0 gma sna hia ka ora cha tra ena opa foa gm sn hs qs k0 k1 k2 k3 ch o tr es op fo has) ++ ((wX8 cy mo sa pa kb aa oa wa ca ta na mOp mIk mPa mRu mLa mTy mSp mFr mRe mCa mOr mLe rS rP rK rA rO rW rC rT rN) ++ [wL cy ua out])) H) (hD : va_D (k_A s) ((wX7 cy h0 gma sna hia ka ora cha tra ena opa foa gm sn hs qs k0 k1 k2 k3 ch o tr es op fo has) ++ ((wX8 cy mo sa pa kb aa oa wa ca ta na mOp mIk mPa mRu mLa mTy mSp mFr mRe mCa mOr mLe rS rP rK rA rO rW rC rT rN) ++ [wL cy ua out]))) (hS : va_S (k_A s) s.heap H locs) (kk : ∀ (ls : Array Slot) (H : Heap) (locs : List Loc), lv_has ls 9 [(4, .int i), (3, .ref ua), (2, .ref mo), (1, .ref h0), (0, .ref b)] → va_P D vwCl ((wX7 cy h0 gma sna hia ka ora cha tra ena opa foa gm sn hs qs k0 k1 k2 k3 ch o tr es op fo has) ++ ((wX8 cy mo sa pa kb aa oa wa ca ta na mOp mIk mPa mRu r.1 mTy mSp mFr mRe mCa mOr mLe rS rP rK rA rO rW rC rT rN) ++ [wL cy ua r.2])) H → va_D (k_A s) ((wX7 cy h0 gma sna hia ka ora cha tra ena opa foa gm sn hs qs k0 k1 k2 k3 ch o tr es op fo has) ++ ((wX8 cy mo sa pa kb aa oa wa ca ta na mOp mIk mPa mRu r.1 mTy mSp mFr mRe mCa mOr mLe rS rP rK rA rO rW rC rT rN) ++ [wL cy ua r.2])) → va_S (k_A s) s.heap H locs → W p l e room_1 s m #[Value.ref b] below meth c H locs (cells + 1) (slots + 6) Q (F0 m 1650 ls [])) : W p l e room_1 s m #[Value.ref b] below meth c H locs cells slots Q (F0 m 1166 ls []) := by
  obtain ⟨hx, hb, hml, hown, hts, hX, hbl, hK, hN, hT, hZ, hCx⟩ := C
  have hA : ∀ q : Nat, s.heap.size ≤ q → k_A s q := fun _ h9 => h9
  unfold f_case27 at hf
  refine lv_aload_n hx hb dL_law_1166 rfl (lv_at hl 3 rfl) ?_
  refine lv_aload_n hx hb dL_law_1167 rfl (lv_at hl 4 rfl) ?_
  refine lv_iload hx hb dL_law_1168 (lv_at hl 0 rfl) ?_
  refine lv_iconst (v := 1) hx hb dL_law_1170 (by decide) ?_
  refine lv_iadd hx hb dL_law_1171 ?_
  refine va_sld hx hb hX hbl (Nat.not_le.mpr hbl) hS hi dL_law_1172 ?_
  refine k_name ha ?_
  refine lv_aload_n hx hb dL_law_1173 rfl (lv_at hl 1 rfl) ?_
  obtain ⟨v1, hv1, hf⟩ := k_B hf
  refine k_callLS (As := [.ref h0, .int a, .ref ua]) (rest := []) (isC := [0, 1, 2, 3, 4, 5, 6, 7, 8, 9, 10, 11, 12, 13, 14, 25]) (isR := [15, 16, 17, 18, 19, 20, 21, 22, 23, 24]) (perm := [10, 11, 12, 13, 14, 15, 16, 17, 18, 19, 20, 21, 22, 23, 24, 0, 1, 2, 3, 4, 5, 6, 7, 8, 9, 25]) (w' := ((wX7 cy h0 gma sna hia ka ora cha tra ena opa foa gm sn hs qs k0 k1 k2 k3 ch o tr es op fo has) ++ ((wX8 cy mo sa pa kb aa oa wa ca ta na mOp mIk mPa mRu mLa mTy mSp mFr mRe mCa mOr mLe rS rP rK rA rO rW rC rT rN) ++ [wL cy ua v1.2]))) ⟨hx, hb, hml, hown, hts⟩ (c_L_won l hl9 D cy h0 gma sna hia ka ora cha tra ena opa foa ua gm sn hs qs k0 k1 k2 k3 ch o tr es op fo has out a v1 hv1) (vx_cwSW 3 hts gL_law_L_won rfl rfl rfl hd_L_won ⟨Nat.le_of_ble_eq_true rfl, Nat.le_of_ble_eq_true rfl⟩) hK hN hT hZ hCx hP hD hS (fun _ h9 => h9) rfl rfl rfl (by decide) (by decide) rfl (by decide) rfl hl.1 rfl (Nat.le_of_ble_eq_true rfl) dL_law_1174 ⟨hc, hsl⟩ (fun H locs hP hD hS => ?_)
  refine lv_istore (lv' := [(5, .int v1.1), (4, .int i), (3, .ref ua), (2, .ref mo), (1, .ref h0), (0, .ref b)]) hx hb dL_law_1177 hl (by decide) rfl (fun ls hl => ?_)
  refine lv_aload_n hx hb dL_law_1179 rfl (lv_at hl 3 rfl) ?_
  refine lv_aload_n hx hb dL_law_1180 rfl (lv_at hl 5 rfl) ?_
  refine lv_iload hx hb dL_law_1181 (lv_at hl 1 rfl) ?_
  refine lv_iconst (v := 1) hx hb dL_law_1183 (by decide) ?_
  refine lv_iadd hx hb dL_law_1184 ?_
  refine va_sld hx hb hX hbl (Nat.not_le.mpr hbl) hS hi dL_law_1185 ?_
  refine k_name ha ?_
  obtain ⟨v2, hv2, hf⟩ := k_B hf
  refine k_callHV (As := [.int a]) (rest := []) (r := (RX8, TX8, 21)) (ci := 5) (q0 := 15) (isC := [15, 16, 17, 18, 19, 20, 21, 22, 23, 24]) (isR := [0, 1, 2, 3, 4, 5, 6, 7, 8, 9, 10, 11, 12, 13, 14, 25]) (perm := [0, 1, 2, 3, 4, 5, 6, 7, 8, 9, 10, 11, 12, 13, 14, 16, 17, 18, 19, 20, 21, 22, 23, 24, 25, 15]) (w' := ((wX7 cy h0 gma sna hia ka ora cha tra ena opa foa gm sn hs qs k0 k1 k2 k3 ch o tr es op fo has) ++ ((wX8 cy mo sa pa kb aa oa wa ca ta na mOp mIk mPa mRu v2.2 mTy mSp mFr mRe mCa mOr mLe rS rP rK rA rO rW rC rT rN) ++ [wL cy ua v1.2]))) ⟨hx, hb, hml, hown, hts⟩ (c_X8_won l D cy mo sa pa kb aa oa wa ca ta na mOp mIk mPa mRu mLa mTy mSp mFr mRe mCa mOr mLe rS rP rK rA rO rW rC rT rN a v2 hv2) (cwV 1 hts gL_law_X8_won rfl rfl rfl hd_X8_won ⟨Nat.le_of_ble_eq_true rfl, Nat.le_of_ble_eq_true rfl⟩) hK hN hP hD hS hA rfl rfl rfl rfl rfl rfl (by decide) rfl rfl rfl hl.1 rfl (Nat.le_of_ble_eq_true rfl) dL_law_1186 ⟨hc, hsl⟩ (fun H locs hP hD hS => ?_)
  refine lv_istore (lv' := [(6, .int v2.1), (5, .int v1.1), (4, .int i), (3, .ref ua), (2, .ref mo), (1, .ref h0), (0, .ref b)]) hx hb dL_law_1189 hl (by decide) rfl (fun ls hl => ?_)
  refine lv_aload_n hx hb dL_law_1191 rfl (lv_at hl 4 rfl) ?_
  obtain ⟨v3, hv3, hf⟩ := k_B hf
  refine k_callHV (As := []) (rest := []) (r := (RX8, TX8, 21)) (ci := 5) (q0 := 15) (isC := [15, 16, 17, 18, 19, 20, 21, 22, 23, 24]) (isR := [0, 1, 2, 3, 4, 5, 6, 7, 8, 9, 10, 11, 12, 13, 14, 25]) (perm := [0, 1, 2, 3, 4, 5, 6, 7, 8, 9, 10, 11, 12, 13, 14, 16, 17, 18, 19, 20, 21, 22, 23, 24, 25, 15]) (w' := ((wX7 cy h0 gma sna hia ka ora cha tra ena opa foa gm sn hs qs k0 k1 k2 k3 ch o tr es op fo has) ++ ((wX8 cy mo sa pa kb aa oa wa ca ta na mOp mIk mPa mRu v2.2 mTy mSp mFr mRe mCa mOr mLe rS rP rK rA rO rW rC rT rN) ++ [wL cy ua v1.2]))) ⟨hx, hb, hml, hown, hts⟩ (c_X8_thrown l D cy mo sa pa kb aa oa wa ca ta na mOp mIk mPa mRu v2.2 mTy mSp mFr mRe mCa mOr mLe rS rP rK rA rO rW rC rT rN  v3 hv3) (cwV 0 hts gL_law_X8_thrown rfl rfl rfl hd_X8_thrown ⟨Nat.le_of_ble_eq_true rfl, Nat.le_of_ble_eq_true rfl⟩) hK hN hP hD hS hA rfl rfl rfl rfl rfl rfl (by decide) rfl rfl rfl hl.1 rfl (Nat.le_of_ble_eq_true rfl) dL_law_1192 ⟨hc, hsl⟩ (fun H locs hP hD hS => ?_)
  refine lv_iload hx hb dL_law_1195 (lv_at hl 1 rfl) ?_
  refine lv_icmp_eq (tgt := 1202) hx hb dL_law_1197 (by decide) (fun c4 => ?_) (fun c4 => ?_)
  · have hf := k_T c4 hf
    refine lv_iload hx hb dL_law_1202 (lv_at hl 1 rfl) ?_
    refine lv_if_ne (tgt := 1219) hx hb dL_law_1204 (by decide) (fun c5 => ?_) (fun c5 => ?_)
    · have hf := k_F c5 hf
      refine lv_goto (tgt := 1650) hx hb dL_law_1219 (by decide) ?_
      obtain rfl := k_some hf
      exact kk ls H locs (lv_sub hl [2, 3, 4, 5, 6] rfl) hP hD hS
    · have hf := k_T c5 hf
      refine lv_aload_n hx hb dL_law_1207 rfl (lv_at hl 3 rfl) ?_
      refine lv_iconst (v := 0) hx hb dL_law_1208 (by decide) ?_
      refine va_lald hx hb hK hP 25 3 rfl rfl (k_in (i := 0) (n := 1) (by decide +kernel)) dL_law_1209 ?_
      refine k_nameJ (v := v1.2 0) rfl ?_
      refine lv_iload hx hb dL_law_1210 (lv_at hl 0 rfl) ?_
      refine lv_i2l hx hb dL_law_1212 rfl ?_
      refine W.lcmp hx hb dL_law_1213 ?_
      refine lv_if_eq (tgt := 1219) hx hb dL_law_1214 (by decide) (fun c6 => ?_) (fun c6 => ?_)
      · have hf := k_T c6 hf
        refine lv_goto (tgt := 1650) hx hb dL_law_1219 (by decide) ?_
        obtain rfl := k_some hf
        exact kk ls H locs (lv_sub hl [2, 3, 4, 5, 6] rfl) hP hD hS
      · have hf := k_F c6 hf
        refine lv_iconst (v := 0) hx hb dL_law_1217 (by decide) ?_
        cases hf
  · have hf := k_F c4 hf
    refine lv_iconst (v := 0) hx hb dL_law_1200 (by decide) ?_
    cases hf
