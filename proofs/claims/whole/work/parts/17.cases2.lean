def f_case28 (a : Int32) (gm : k_G8) (mLa : Int32) (rS : Nat → Int32) : Option (Int32) :=
  (f_X7_evenGames gm).bind fun v1 =>
  (f_X8_evenGames mLa rS).bind fun v2 =>
  if v1 = v2.1 then
    some v2.2
  else
    none
set_option maxHeartbeats 4000000 in
set_option maxRecDepth 100000 in
theorem c_case28 (l : Launch) (hl9 : l.stackTraces = false) {p : Program} {e : Env} {s : State} {m : MethodId} {below : List Frame} {meth : Method} {c : Code} {b L : Nat} {xs : Nat → Int32} {D : va_G} {cy : Nat → ClassId} (C : k_LC p s m c b L xs D cy) (Q : State → Prop) (h0 gma sna hia ka ora cha tra ena opa foa mo sa pa kb aa oa wa ca ta na ua : Nat) (gm : k_G8) (sn : k_G8) (hs : Int32) (qs : k_Q4) (k0 : k_G8) (k1 : k_G8) (k2 : k_G8) (k3 : k_G8) (ch : Nat → Int32) (o : k_O5) (tr : k_G8) (es : Int32) (op : Nat → Int32) (fo : Nat → Int32) (has : Int32) (mOp : Int32) (mIk : Int32) (mPa : Int32) (mRu : Int32) (mLa : Int32) (mTy : Int32) (mSp : Int32) (mFr : Int32) (mRe : Int32) (mCa : Int32) (mOr : Int32) (mLe : Int32) (rS : Nat → Int32) (rP : Nat → Int32) (rK : Nat → Int32) (rA : Nat → Int32) (rO : Nat → Int32) (rW : Nat → Int32) (rC : Nat → Int32) (rT : Nat → Int32) (rN : Nat → Int32) (out : Nat → Int64) (i a : Int32) (hi : vp_in (i + 1) L) (ha : a = xs (i + 1).toNatClampNeg) (r : Int32) (hf : f_case28 a gm mLa rS = some r) (cells slots : Nat) (hc : cells + 1 ≤ room_1.cells) (hsl : slots + 6 ≤ room_1.slots) (ls : Array Slot) (H : Heap) (locs : List Loc) (hl : lv_has ls 9 [(4, .int i), (3, .ref ua), (2, .ref mo), (1, .ref h0), (0, .ref b)]) (hP : va_P D vwCl ((wX7 cy h0 gma sna hia ka ora cha tra ena opa foa gm sn hs qs k0 k1 k2 k3 ch o tr es op fo has) ++ ((wX8 cy mo sa pa kb aa oa wa ca ta na mOp mIk mPa mRu mLa mTy mSp mFr mRe mCa mOr mLe rS rP rK rA rO rW rC rT rN) ++ [wL cy ua out])) H) (hD : va_D (k_A s) ((wX7 cy h0 gma sna hia ka ora cha tra ena opa foa gm sn hs qs k0 k1 k2 k3 ch o tr es op fo has) ++ ((wX8 cy mo sa pa kb aa oa wa ca ta na mOp mIk mPa mRu mLa mTy mSp mFr mRe mCa mOr mLe rS rP rK rA rO rW rC rT rN) ++ [wL cy ua out]))) (hS : va_S (k_A s) s.heap H locs) (kk : ∀ (ls : Array Slot) (H : Heap) (locs : List Loc), lv_has ls 9 [(4, .int i), (3, .ref ua), (2, .ref mo), (1, .ref h0), (0, .ref b)] → va_P D vwCl ((wX7 cy h0 gma sna hia ka ora cha tra ena opa foa gm sn hs qs k0 k1 k2 k3 ch o tr es op fo has) ++ ((wX8 cy mo sa pa kb aa oa wa ca ta na mOp mIk mPa mRu r mTy mSp mFr mRe mCa mOr mLe rS rP rK rA rO rW rC rT rN) ++ [wL cy ua out])) H → va_D (k_A s) ((wX7 cy h0 gma sna hia ka ora cha tra ena opa foa gm sn hs qs k0 k1 k2 k3 ch o tr es op fo has) ++ ((wX8 cy mo sa pa kb aa oa wa ca ta na mOp mIk mPa mRu r mTy mSp mFr mRe mCa mOr mLe rS rP rK rA rO rW rC rT rN) ++ [wL cy ua out])) → va_S (k_A s) s.heap H locs → W p l e room_1 s m #[Value.ref b] below meth c H locs (cells + 1) (slots + 6) Q (F0 m 1650 ls [])) : W p l e room_1 s m #[Value.ref b] below meth c H locs cells slots Q (F0 m 1222 ls []) := by
  obtain ⟨hx, hb, hml, hown, hts, hX, hbl, hK, hN, hT, hZ, hCx⟩ := C
  have hA : ∀ q : Nat, s.heap.size ≤ q → k_A s q := fun _ h9 => h9
  unfold f_case28 at hf
  refine lv_aload_n hx hb dL_law_1222 rfl (lv_at hl 3 rfl) ?_
  obtain ⟨v1, hv1, hf⟩ := k_B hf
  refine k_callHV (As := []) (rest := []) (r := (RX7, TX7, 6)) (ci := 4) (q0 := 0) (isC := [0, 1, 2, 3, 4, 5, 6, 7, 8, 9, 10, 11, 12, 13, 14]) (isR := [15, 16, 17, 18, 19, 20, 21, 22, 23, 24, 25]) (perm := [11, 12, 13, 14, 15, 16, 17, 18, 19, 20, 21, 22, 23, 24, 25, 0, 1, 2, 3, 4, 5, 6, 7, 8, 9, 10]) (w' := ((wX7 cy h0 gma sna hia ka ora cha tra ena opa foa gm sn hs qs k0 k1 k2 k3 ch o tr es op fo has) ++ ((wX8 cy mo sa pa kb aa oa wa ca ta na mOp mIk mPa mRu mLa mTy mSp mFr mRe mCa mOr mLe rS rP rK rA rO rW rC rT rN) ++ [wL cy ua out]))) ⟨hx, hb, hml, hown, hts⟩ (c_X7_evenGames l D cy h0 gma sna hia ka ora cha tra ena opa foa gm sn hs qs k0 k1 k2 k3 ch o tr es op fo has  v1 hv1) (cwV 0 hts gL_law_X7_evenGames rfl rfl rfl hd_X7_evenGames ⟨Nat.le_of_ble_eq_true rfl, Nat.le_of_ble_eq_true rfl⟩) hK hN hP hD hS hA rfl rfl rfl rfl rfl rfl (by decide) rfl rfl rfl hl.1 rfl (Nat.le_of_ble_eq_true rfl) dL_law_1223 ⟨Nat.le_of_succ_le hc, k_le6 hsl⟩ (fun H locs hP hD hS => ?_)
  refine lv_aload_n hx hb dL_law_1226 rfl (lv_at hl 2 rfl) ?_
  obtain ⟨v2, hv2, hf⟩ := k_B hf
  refine k_callHV (As := []) (rest := [.int v1]) (r := (RX8, TX8, 21)) (ci := 5) (q0 := 15) (isC := [15, 16, 17, 18, 19, 20, 21, 22, 23, 24]) (isR := [0, 1, 2, 3, 4, 5, 6, 7, 8, 9, 10, 11, 12, 13, 14, 25]) (perm := [0, 1, 2, 3, 4, 5, 6, 7, 8, 9, 10, 11, 12, 13, 14, 16, 17, 18, 19, 20, 21, 22, 23, 24, 25, 15]) (w' := ((wX7 cy h0 gma sna hia ka ora cha tra ena opa foa gm sn hs qs k0 k1 k2 k3 ch o tr es op fo has) ++ ((wX8 cy mo sa pa kb aa oa wa ca ta na mOp mIk mPa mRu v2.2 mTy mSp mFr mRe mCa mOr mLe rS rP rK rA rO rW rC rT rN) ++ [wL cy ua out]))) ⟨hx, hb, hml, hown, hts⟩ (c_X8_evenGames l D cy mo sa pa kb aa oa wa ca ta na mOp mIk mPa mRu mLa mTy mSp mFr mRe mCa mOr mLe rS rP rK rA rO rW rC rT rN  v2 hv2) (cwV 0 hts gL_law_X8_evenGames rfl rfl rfl hd_X8_evenGames ⟨Nat.le_of_ble_eq_true rfl, Nat.le_of_ble_eq_true rfl⟩) hK hN hP hD hS hA rfl rfl rfl rfl rfl rfl (by decide) rfl rfl rfl hl.1 rfl (Nat.le_of_ble_eq_true rfl) dL_law_1227 ⟨Nat.le_of_succ_le hc, k_le6 hsl⟩ (fun H locs hP hD hS => ?_)
  refine lv_icmp_eq (tgt := 1650) hx hb dL_law_1230 (by decide) (fun c3 => ?_) (fun c3 => ?_)
  · have hf := k_T c3 hf
    obtain rfl := k_some hf
    refine W.widen (Nat.le_succ _) (Nat.le_add_right _ 6) ?_
    exact kk ls H locs (lv_sub hl [0, 1, 2, 3, 4] rfl) hP hD hS
  · have hf := k_F c3 hf
    refine lv_iconst (v := 0) hx hb dL_law_1233 (by decide) ?_
    cases hf
def f_case29 (a : Int32) (gm : k_G8) (mLa : Int32) (rS : Nat → Int32) : Option (Int32) :=
  (f_X7_doubleDeals gm).bind fun v1 =>
  (f_X8_doubleDeals mLa rS).bind fun v2 =>
  if v1 = v2.1 then
    some v2.2
  else
    none
set_option maxHeartbeats 4000000 in
set_option maxRecDepth 100000 in
theorem c_case29 (l : Launch) (hl9 : l.stackTraces = false) {p : Program} {e : Env} {s : State} {m : MethodId} {below : List Frame} {meth : Method} {c : Code} {b L : Nat} {xs : Nat → Int32} {D : va_G} {cy : Nat → ClassId} (C : k_LC p s m c b L xs D cy) (Q : State → Prop) (h0 gma sna hia ka ora cha tra ena opa foa mo sa pa kb aa oa wa ca ta na ua : Nat) (gm : k_G8) (sn : k_G8) (hs : Int32) (qs : k_Q4) (k0 : k_G8) (k1 : k_G8) (k2 : k_G8) (k3 : k_G8) (ch : Nat → Int32) (o : k_O5) (tr : k_G8) (es : Int32) (op : Nat → Int32) (fo : Nat → Int32) (has : Int32) (mOp : Int32) (mIk : Int32) (mPa : Int32) (mRu : Int32) (mLa : Int32) (mTy : Int32) (mSp : Int32) (mFr : Int32) (mRe : Int32) (mCa : Int32) (mOr : Int32) (mLe : Int32) (rS : Nat → Int32) (rP : Nat → Int32) (rK : Nat → Int32) (rA : Nat → Int32) (rO : Nat → Int32) (rW : Nat → Int32) (rC : Nat → Int32) (rT : Nat → Int32) (rN : Nat → Int32) (out : Nat → Int64) (i a : Int32) (hi : vp_in (i + 1) L) (ha : a = xs (i + 1).toNatClampNeg) (r : Int32) (hf : f_case29 a gm mLa rS = some r) (cells slots : Nat) (hc : cells + 1 ≤ room_1.cells) (hsl : slots + 6 ≤ room_1.slots) (ls : Array Slot) (H : Heap) (locs : List Loc) (hl : lv_has ls 9 [(4, .int i), (3, .ref ua), (2, .ref mo), (1, .ref h0), (0, .ref b)]) (hP : va_P D vwCl ((wX7 cy h0 gma sna hia ka ora cha tra ena opa foa gm sn hs qs k0 k1 k2 k3 ch o tr es op fo has) ++ ((wX8 cy mo sa pa kb aa oa wa ca ta na mOp mIk mPa mRu mLa mTy mSp mFr mRe mCa mOr mLe rS rP rK rA rO rW rC rT rN) ++ [wL cy ua out])) H) (hD : va_D (k_A s) ((wX7 cy h0 gma sna hia ka ora cha tra ena opa foa gm sn hs qs k0 k1 k2 k3 ch o tr es op fo has) ++ ((wX8 cy mo sa pa kb aa oa wa ca ta na mOp mIk mPa mRu mLa mTy mSp mFr mRe mCa mOr mLe rS rP rK rA rO rW rC rT rN) ++ [wL cy ua out]))) (hS : va_S (k_A s) s.heap H locs) (kk : ∀ (ls : Array Slot) (H : Heap) (locs : List Loc), lv_has ls 9 [(4, .int i), (3, .ref ua), (2, .ref mo), (1, .ref h0), (0, .ref b)] → va_P D vwCl ((wX7 cy h0 gma sna hia ka ora cha tra ena opa foa gm sn hs qs k0 k1 k2 k3 ch o tr es op fo has) ++ ((wX8 cy mo sa pa kb aa oa wa ca ta na mOp mIk mPa mRu r mTy mSp mFr mRe mCa mOr mLe rS rP rK rA rO rW rC rT rN) ++ [wL cy ua out])) H → va_D (k_A s) ((wX7 cy h0 gma sna hia ka ora cha tra ena opa foa gm sn hs qs k0 k1 k2 k3 ch o tr es op fo has) ++ ((wX8 cy mo sa pa kb aa oa wa ca ta na mOp mIk mPa mRu r mTy mSp mFr mRe mCa mOr mLe rS rP rK rA rO rW rC rT rN) ++ [wL cy ua out])) → va_S (k_A s) s.heap H locs → W p l e room_1 s m #[Value.ref b] below meth c H locs (cells + 1) (slots + 6) Q (F0 m 1650 ls [])) : W p l e room_1 s m #[Value.ref b] below meth c H locs cells slots Q (F0 m 1235 ls []) := by
  obtain ⟨hx, hb, hml, hown, hts, hX, hbl, hK, hN, hT, hZ, hCx⟩ := C
  have hA : ∀ q : Nat, s.heap.size ≤ q → k_A s q := fun _ h9 => h9
  unfold f_case29 at hf
  refine lv_aload_n hx hb dL_law_1235 rfl (lv_at hl 3 rfl) ?_
  obtain ⟨v1, hv1, hf⟩ := k_B hf
  refine k_callHV (As := []) (rest := []) (r := (RX7, TX7, 6)) (ci := 4) (q0 := 0) (isC := [0, 1, 2, 3, 4, 5, 6, 7, 8, 9, 10, 11, 12, 13, 14]) (isR := [15, 16, 17, 18, 19, 20, 21, 22, 23, 24, 25]) (perm := [11, 12, 13, 14, 15, 16, 17, 18, 19, 20, 21, 22, 23, 24, 25, 0, 1, 2, 3, 4, 5, 6, 7, 8, 9, 10]) (w' := ((wX7 cy h0 gma sna hia ka ora cha tra ena opa foa gm sn hs qs k0 k1 k2 k3 ch o tr es op fo has) ++ ((wX8 cy mo sa pa kb aa oa wa ca ta na mOp mIk mPa mRu mLa mTy mSp mFr mRe mCa mOr mLe rS rP rK rA rO rW rC rT rN) ++ [wL cy ua out]))) ⟨hx, hb, hml, hown, hts⟩ (c_X7_doubleDeals l D cy h0 gma sna hia ka ora cha tra ena opa foa gm sn hs qs k0 k1 k2 k3 ch o tr es op fo has  v1 hv1) (cwV 0 hts gL_law_X7_doubleDeals rfl rfl rfl hd_X7_doubleDeals ⟨Nat.le_of_ble_eq_true rfl, Nat.le_of_ble_eq_true rfl⟩) hK hN hP hD hS hA rfl rfl rfl rfl rfl rfl (by decide) rfl rfl rfl hl.1 rfl (Nat.le_of_ble_eq_true rfl) dL_law_1236 ⟨Nat.le_of_succ_le hc, k_le6 hsl⟩ (fun H locs hP hD hS => ?_)
  refine lv_aload_n hx hb dL_law_1239 rfl (lv_at hl 2 rfl) ?_
  obtain ⟨v2, hv2, hf⟩ := k_B hf
  refine k_callHV (As := []) (rest := [.int v1]) (r := (RX8, TX8, 21)) (ci := 5) (q0 := 15) (isC := [15, 16, 17, 18, 19, 20, 21, 22, 23, 24]) (isR := [0, 1, 2, 3, 4, 5, 6, 7, 8, 9, 10, 11, 12, 13, 14, 25]) (perm := [0, 1, 2, 3, 4, 5, 6, 7, 8, 9, 10, 11, 12, 13, 14, 16, 17, 18, 19, 20, 21, 22, 23, 24, 25, 15]) (w' := ((wX7 cy h0 gma sna hia ka ora cha tra ena opa foa gm sn hs qs k0 k1 k2 k3 ch o tr es op fo has) ++ ((wX8 cy mo sa pa kb aa oa wa ca ta na mOp mIk mPa mRu v2.2 mTy mSp mFr mRe mCa mOr mLe rS rP rK rA rO rW rC rT rN) ++ [wL cy ua out]))) ⟨hx, hb, hml, hown, hts⟩ (c_X8_doubleDeals l D cy mo sa pa kb aa oa wa ca ta na mOp mIk mPa mRu mLa mTy mSp mFr mRe mCa mOr mLe rS rP rK rA rO rW rC rT rN  v2 hv2) (cwV 0 hts gL_law_X8_doubleDeals rfl rfl rfl hd_X8_doubleDeals ⟨Nat.le_of_ble_eq_true rfl, Nat.le_of_ble_eq_true rfl⟩) hK hN hP hD hS hA rfl rfl rfl rfl rfl rfl (by decide) rfl rfl rfl hl.1 rfl (Nat.le_of_ble_eq_true rfl) dL_law_1240 ⟨Nat.le_of_succ_le hc, k_le6 hsl⟩ (fun H locs hP hD hS => ?_)
  refine lv_icmp_eq (tgt := 1650) hx hb dL_law_1243 (by decide) (fun c3 => ?_) (fun c3 => ?_)
  · have hf := k_T c3 hf
    obtain rfl := k_some hf
    refine W.widen (Nat.le_succ _) (Nat.le_add_right _ 6) ?_
    exact kk ls H locs (lv_sub hl [0, 1, 2, 3, 4] rfl) hP hD hS
  · have hf := k_F c3 hf
    refine lv_iconst (v := 0) hx hb dL_law_1246 (by decide) ?_
    cases hf
def f_case30 (a : Int32) (gm : k_G8) (mLa : Int32) (rS : Nat → Int32) : Option (Int32) :=
  (f_X7_share gm).bind fun v1 =>
  if FP.f2d v1 &&& 0x7fffffffffffffff ≤ 0x7ff0000000000000 then
    (f_X8_share mLa rS).bind fun v3 =>
    if FP.f2d v3.1 &&& 0x7fffffffffffffff ≤ 0x7ff0000000000000 then
      if (Op.cmpValue (FP.dcmp (FP.f2d v1) (FP.f2d v3.1)) .l) = 0 then
        some v3.2
      else
        if (Op.cmpValue (FP.dcmp (FP.f2d v1) (FP.f2d v1)) .l) = 0 then
          none
        else
          if (Op.cmpValue (FP.dcmp (FP.f2d v3.1) (FP.f2d v3.1)) .l) = 0 then
            none
          else
            some v3.2
    else none
  else none
set_option maxHeartbeats 4000000 in
set_option maxRecDepth 100000 in
theorem c_case30 (l : Launch) (hl9 : l.stackTraces = false) {p : Program} {e : Env} {s : State} {m : MethodId} {below : List Frame} {meth : Method} {c : Code} {b L : Nat} {xs : Nat → Int32} {D : va_G} {cy : Nat → ClassId} (C : k_LC p s m c b L xs D cy) (Q : State → Prop) (h0 gma sna hia ka ora cha tra ena opa foa mo sa pa kb aa oa wa ca ta na ua : Nat) (gm : k_G8) (sn : k_G8) (hs : Int32) (qs : k_Q4) (k0 : k_G8) (k1 : k_G8) (k2 : k_G8) (k3 : k_G8) (ch : Nat → Int32) (o : k_O5) (tr : k_G8) (es : Int32) (op : Nat → Int32) (fo : Nat → Int32) (has : Int32) (mOp : Int32) (mIk : Int32) (mPa : Int32) (mRu : Int32) (mLa : Int32) (mTy : Int32) (mSp : Int32) (mFr : Int32) (mRe : Int32) (mCa : Int32) (mOr : Int32) (mLe : Int32) (rS : Nat → Int32) (rP : Nat → Int32) (rK : Nat → Int32) (rA : Nat → Int32) (rO : Nat → Int32) (rW : Nat → Int32) (rC : Nat → Int32) (rT : Nat → Int32) (rN : Nat → Int32) (out : Nat → Int64) (i a : Int32) (hi : vp_in (i + 1) L) (ha : a = xs (i + 1).toNatClampNeg) (r : Int32) (hf : f_case30 a gm mLa rS = some r) (cells slots : Nat) (hc : cells + 1 ≤ room_1.cells) (hsl : slots + 6 ≤ room_1.slots) (ls : Array Slot) (H : Heap) (locs : List Loc) (hl : lv_has ls 9 [(4, .int i), (3, .ref ua), (2, .ref mo), (1, .ref h0), (0, .ref b)]) (hP : va_P D vwCl ((wX7 cy h0 gma sna hia ka ora cha tra ena opa foa gm sn hs qs k0 k1 k2 k3 ch o tr es op fo has) ++ ((wX8 cy mo sa pa kb aa oa wa ca ta na mOp mIk mPa mRu mLa mTy mSp mFr mRe mCa mOr mLe rS rP rK rA rO rW rC rT rN) ++ [wL cy ua out])) H) (hD : va_D (k_A s) ((wX7 cy h0 gma sna hia ka ora cha tra ena opa foa gm sn hs qs k0 k1 k2 k3 ch o tr es op fo has) ++ ((wX8 cy mo sa pa kb aa oa wa ca ta na mOp mIk mPa mRu mLa mTy mSp mFr mRe mCa mOr mLe rS rP rK rA rO rW rC rT rN) ++ [wL cy ua out]))) (hS : va_S (k_A s) s.heap H locs) (kk : ∀ (ls : Array Slot) (H : Heap) (locs : List Loc), lv_has ls 9 [(4, .int i), (3, .ref ua), (2, .ref mo), (1, .ref h0), (0, .ref b)] → va_P D vwCl ((wX7 cy h0 gma sna hia ka ora cha tra ena opa foa gm sn hs qs k0 k1 k2 k3 ch o tr es op fo has) ++ ((wX8 cy mo sa pa kb aa oa wa ca ta na mOp mIk mPa mRu r mTy mSp mFr mRe mCa mOr mLe rS rP rK rA rO rW rC rT rN) ++ [wL cy ua out])) H → va_D (k_A s) ((wX7 cy h0 gma sna hia ka ora cha tra ena opa foa gm sn hs qs k0 k1 k2 k3 ch o tr es op fo has) ++ ((wX8 cy mo sa pa kb aa oa wa ca ta na mOp mIk mPa mRu r mTy mSp mFr mRe mCa mOr mLe rS rP rK rA rO rW rC rT rN) ++ [wL cy ua out])) → va_S (k_A s) s.heap H locs → W p l e room_1 s m #[Value.ref b] below meth c H locs (cells + 1) (slots + 6) Q (F0 m 1650 ls [])) : W p l e room_1 s m #[Value.ref b] below meth c H locs cells slots Q (F0 m 1248 ls []) := by
  obtain ⟨hx, hb, hml, hown, hts, hX, hbl, hK, hN, hT, hZ, hCx⟩ := C
  have hA : ∀ q : Nat, s.heap.size ≤ q → k_A s q := fun _ h9 => h9
  unfold f_case30 at hf
  refine lv_aload_n hx hb dL_law_1248 rfl (lv_at hl 3 rfl) ?_
  obtain ⟨v1, hv1, hf⟩ := k_B hf
  refine k_callHV (As := []) (rest := []) (r := (RX7, TX7, 6)) (ci := 4) (q0 := 0) (isC := [0, 1, 2, 3, 4, 5, 6, 7, 8, 9, 10, 11, 12, 13, 14]) (isR := [15, 16, 17, 18, 19, 20, 21, 22, 23, 24, 25]) (perm := [11, 12, 13, 14, 15, 16, 17, 18, 19, 20, 21, 22, 23, 24, 25, 0, 1, 2, 3, 4, 5, 6, 7, 8, 9, 10]) (w' := ((wX7 cy h0 gma sna hia ka ora cha tra ena opa foa gm sn hs qs k0 k1 k2 k3 ch o tr es op fo has) ++ ((wX8 cy mo sa pa kb aa oa wa ca ta na mOp mIk mPa mRu mLa mTy mSp mFr mRe mCa mOr mLe rS rP rK rA rO rW rC rT rN) ++ [wL cy ua out]))) ⟨hx, hb, hml, hown, hts⟩ (c_X7_share l D cy h0 gma sna hia ka ora cha tra ena opa foa gm sn hs qs k0 k1 k2 k3 ch o tr es op fo has  v1 hv1) (cwV 0 hts gL_law_X7_share rfl rfl rfl hd_X7_share ⟨Nat.le_of_ble_eq_true rfl, Nat.le_of_ble_eq_true rfl⟩) hK hN hP hD hS hA rfl rfl rfl rfl rfl rfl (by decide) rfl rfl rfl hl.1 rfl (Nat.le_of_ble_eq_true rfl) dL_law_1249 ⟨Nat.le_of_succ_le hc, k_le6 hsl⟩ (fun H locs hP hD hS => ?_)
  obtain ⟨g2, hf⟩ := k_GT hf
  refine lv_f2d hx hb dL_law_1252 g2 ?_
  refine lv_dstore (lv' := [(5, .double (FP.f2d v1)), (4, .int i), (3, .ref ua), (2, .ref mo), (1, .ref h0), (0, .ref b)]) hx hb dL_law_1253 hl (by decide) rfl (fun ls hl => ?_)
  refine lv_aload_n hx hb dL_law_1255 rfl (lv_at hl 3 rfl) ?_
  obtain ⟨v3, hv3, hf⟩ := k_B hf
  refine k_callHV (As := []) (rest := []) (r := (RX8, TX8, 21)) (ci := 5) (q0 := 15) (isC := [15, 16, 17, 18, 19, 20, 21, 22, 23, 24]) (isR := [0, 1, 2, 3, 4, 5, 6, 7, 8, 9, 10, 11, 12, 13, 14, 25]) (perm := [0, 1, 2, 3, 4, 5, 6, 7, 8, 9, 10, 11, 12, 13, 14, 16, 17, 18, 19, 20, 21, 22, 23, 24, 25, 15]) (w' := ((wX7 cy h0 gma sna hia ka ora cha tra ena opa foa gm sn hs qs k0 k1 k2 k3 ch o tr es op fo has) ++ ((wX8 cy mo sa pa kb aa oa wa ca ta na mOp mIk mPa mRu v3.2 mTy mSp mFr mRe mCa mOr mLe rS rP rK rA rO rW rC rT rN) ++ [wL cy ua out]))) ⟨hx, hb, hml, hown, hts⟩ (c_X8_share l D cy mo sa pa kb aa oa wa ca ta na mOp mIk mPa mRu mLa mTy mSp mFr mRe mCa mOr mLe rS rP rK rA rO rW rC rT rN  v3 hv3) (cwV 0 hts gL_law_X8_share rfl rfl rfl hd_X8_share ⟨Nat.le_of_ble_eq_true rfl, Nat.le_of_ble_eq_true rfl⟩) hK hN hP hD hS hA rfl rfl rfl rfl rfl rfl (by decide) rfl rfl rfl hl.1 rfl (Nat.le_of_ble_eq_true rfl) dL_law_1256 ⟨Nat.le_of_succ_le hc, k_le6 hsl⟩ (fun H locs hP hD hS => ?_)
  obtain ⟨g4, hf⟩ := k_GT hf
  refine lv_f2d hx hb dL_law_1259 g4 ?_
  refine lv_dstore (lv' := [(7, .double (FP.f2d v3.1)), (5, .double (FP.f2d v1)), (4, .int i), (3, .ref ua), (2, .ref mo), (1, .ref h0), (0, .ref b)]) hx hb dL_law_1260 hl (by decide) rfl (fun ls hl => ?_)
  refine lv_dload hx hb dL_law_1262 (lv_at hl 1 rfl) ?_
  refine lv_dload hx hb dL_law_1264 (lv_at hl 0 rfl) ?_
  refine lv_dcmp hx hb dL_law_1266 ?_
  refine lv_if_eq (tgt := 1288) hx hb dL_law_1267 (by decide) (fun c5 => ?_) (fun c5 => ?_)
  · have hf := k_T c5 hf
    refine lv_goto (tgt := 1650) hx hb dL_law_1288 (by decide) ?_
    obtain rfl := k_some hf
    refine W.widen (Nat.le_succ _) (Nat.le_add_right _ 6) ?_
    exact kk ls H locs (lv_sub hl [2, 3, 4, 5, 6] rfl) hP hD hS
  · have hf := k_F c5 hf
    refine lv_dload hx hb dL_law_1270 (lv_at hl 1 rfl) ?_
    refine lv_dload hx hb dL_law_1272 (lv_at hl 1 rfl) ?_
    refine lv_dcmp hx hb dL_law_1274 ?_
    refine lv_if_eq (tgt := 1286) hx hb dL_law_1275 (by decide) (fun c6 => ?_) (fun c6 => ?_)
    · have hf := k_T c6 hf
      refine lv_iconst (v := 0) hx hb dL_law_1286 (by decide) ?_
      cases hf
    · have hf := k_F c6 hf
      refine lv_dload hx hb dL_law_1278 (lv_at hl 0 rfl) ?_
      refine lv_dload hx hb dL_law_1280 (lv_at hl 0 rfl) ?_
      refine lv_dcmp hx hb dL_law_1282 ?_
      refine lv_if_ne (tgt := 1288) hx hb dL_law_1283 (by decide) (fun c7 => ?_) (fun c7 => ?_)
      · have hf := k_F c7 hf
        refine lv_goto (tgt := 1650) hx hb dL_law_1288 (by decide) ?_
        obtain rfl := k_some hf
        refine W.widen (Nat.le_succ _) (Nat.le_add_right _ 6) ?_
        exact kk ls H locs (lv_sub hl [2, 3, 4, 5, 6] rfl) hP hD hS
      · have hf := k_T c7 hf
        refine lv_iconst (v := 0) hx hb dL_law_1286 (by decide) ?_
        cases hf
def f_case31 (a : Int32) (gm : k_G8) (sn : k_G8) (has : Int32) (mIk : Int32) (mLa : Int32) (rS : Nat → Int32) (rK : Nat → Int32) : Option (k_G8 × Int32 × Int32 × Int32 × (Nat → Int32)) :=
  (f_X7_keep gm sn has).bind fun v1 =>
  (f_X8_keep mIk mLa rS rK).bind fun v2 =>
  if v1.1 = v2.1 then
    some (v1.2.1, v1.2.2, v2.2.1, v2.2.2.1, v2.2.2.2)
  else
    none
set_option maxHeartbeats 4000000 in
set_option maxRecDepth 100000 in
theorem c_case31 (l : Launch) (hl9 : l.stackTraces = false) {p : Program} {e : Env} {s : State} {m : MethodId} {below : List Frame} {meth : Method} {c : Code} {b L : Nat} {xs : Nat → Int32} {D : va_G} {cy : Nat → ClassId} (C : k_LC p s m c b L xs D cy) (Q : State → Prop) (h0 gma sna hia ka ora cha tra ena opa foa mo sa pa kb aa oa wa ca ta na ua : Nat) (gm : k_G8) (sn : k_G8) (hs : Int32) (qs : k_Q4) (k0 : k_G8) (k1 : k_G8) (k2 : k_G8) (k3 : k_G8) (ch : Nat → Int32) (o : k_O5) (tr : k_G8) (es : Int32) (op : Nat → Int32) (fo : Nat → Int32) (has : Int32) (mOp : Int32) (mIk : Int32) (mPa : Int32) (mRu : Int32) (mLa : Int32) (mTy : Int32) (mSp : Int32) (mFr : Int32) (mRe : Int32) (mCa : Int32) (mOr : Int32) (mLe : Int32) (rS : Nat → Int32) (rP : Nat → Int32) (rK : Nat → Int32) (rA : Nat → Int32) (rO : Nat → Int32) (rW : Nat → Int32) (rC : Nat → Int32) (rT : Nat → Int32) (rN : Nat → Int32) (out : Nat → Int64) (i a : Int32) (hi : vp_in (i + 1) L) (ha : a = xs (i + 1).toNatClampNeg) (r : k_G8 × Int32 × Int32 × Int32 × (Nat → Int32)) (hf : f_case31 a gm sn has mIk mLa rS rK = some r) (cells slots : Nat) (hc : cells + 1 ≤ room_1.cells) (hsl : slots + 6 ≤ room_1.slots) (ls : Array Slot) (H : Heap) (locs : List Loc) (hl : lv_has ls 9 [(4, .int i), (3, .ref ua), (2, .ref mo), (1, .ref h0), (0, .ref b)]) (hP : va_P D vwCl ((wX7 cy h0 gma sna hia ka ora cha tra ena opa foa gm sn hs qs k0 k1 k2 k3 ch o tr es op fo has) ++ ((wX8 cy mo sa pa kb aa oa wa ca ta na mOp mIk mPa mRu mLa mTy mSp mFr mRe mCa mOr mLe rS rP rK rA rO rW rC rT rN) ++ [wL cy ua out])) H) (hD : va_D (k_A s) ((wX7 cy h0 gma sna hia ka ora cha tra ena opa foa gm sn hs qs k0 k1 k2 k3 ch o tr es op fo has) ++ ((wX8 cy mo sa pa kb aa oa wa ca ta na mOp mIk mPa mRu mLa mTy mSp mFr mRe mCa mOr mLe rS rP rK rA rO rW rC rT rN) ++ [wL cy ua out]))) (hS : va_S (k_A s) s.heap H locs) (kk : ∀ (ls : Array Slot) (H : Heap) (locs : List Loc), lv_has ls 9 [(4, .int i), (3, .ref ua), (2, .ref mo), (1, .ref h0), (0, .ref b)] → va_P D vwCl ((wX7 cy h0 gma sna hia ka ora cha tra ena opa foa gm r.1 hs qs k0 k1 k2 k3 ch o tr es op fo r.2.1) ++ ((wX8 cy mo sa pa kb aa oa wa ca ta na mOp r.2.2.1 mPa mRu r.2.2.2.1 mTy mSp mFr mRe mCa mOr mLe rS rP r.2.2.2.2 rA rO rW rC rT rN) ++ [wL cy ua out])) H → va_D (k_A s) ((wX7 cy h0 gma sna hia ka ora cha tra ena opa foa gm r.1 hs qs k0 k1 k2 k3 ch o tr es op fo r.2.1) ++ ((wX8 cy mo sa pa kb aa oa wa ca ta na mOp r.2.2.1 mPa mRu r.2.2.2.1 mTy mSp mFr mRe mCa mOr mLe rS rP r.2.2.2.2 rA rO rW rC rT rN) ++ [wL cy ua out])) → va_S (k_A s) s.heap H locs → W p l e room_1 s m #[Value.ref b] below meth c H locs (cells + 1) (slots + 6) Q (F0 m 1650 ls [])) : W p l e room_1 s m #[Value.ref b] below meth c H locs cells slots Q (F0 m 1291 ls []) := by
  obtain ⟨hx, hb, hml, hown, hts, hX, hbl, hK, hN, hT, hZ, hCx⟩ := C
  have hA : ∀ q : Nat, s.heap.size ≤ q → k_A s q := fun _ h9 => h9
  unfold f_case31 at hf
  refine lv_aload_n hx hb dL_law_1291 rfl (lv_at hl 3 rfl) ?_
  obtain ⟨v1, hv1, hf⟩ := k_B hf
  refine k_callHV (As := []) (rest := []) (r := (RX7, TX7, 6)) (ci := 4) (q0 := 0) (isC := [0, 1, 2, 3, 4, 5, 6, 7, 8, 9, 10, 11, 12, 13, 14]) (isR := [15, 16, 17, 18, 19, 20, 21, 22, 23, 24, 25]) (perm := [11, 12, 13, 14, 15, 16, 17, 18, 19, 20, 21, 22, 23, 24, 25, 0, 1, 2, 3, 4, 5, 6, 7, 8, 9, 10]) (w' := ((wX7 cy h0 gma sna hia ka ora cha tra ena opa foa gm v1.2.1 hs qs k0 k1 k2 k3 ch o tr es op fo v1.2.2) ++ ((wX8 cy mo sa pa kb aa oa wa ca ta na mOp mIk mPa mRu mLa mTy mSp mFr mRe mCa mOr mLe rS rP rK rA rO rW rC rT rN) ++ [wL cy ua out]))) ⟨hx, hb, hml, hown, hts⟩ (c_X7_keep l D cy h0 gma sna hia ka ora cha tra ena opa foa gm sn hs qs k0 k1 k2 k3 ch o tr es op fo has  v1 hv1) (cwV 0 hts gL_law_X7_keep rfl rfl rfl hd_X7_keep ⟨Nat.le_of_ble_eq_true rfl, Nat.le_of_ble_eq_true rfl⟩) hK hN hP hD hS hA rfl rfl rfl rfl rfl rfl (by decide) rfl rfl rfl hl.1 rfl (Nat.le_of_ble_eq_true rfl) dL_law_1292 ⟨Nat.le_of_succ_le hc, k_le6 hsl⟩ (fun H locs hP hD hS => ?_)
  refine lv_aload_n hx hb dL_law_1295 rfl (lv_at hl 2 rfl) ?_
  obtain ⟨v2, hv2, hf⟩ := k_B hf
  refine k_callHV (As := []) (rest := [.int v1.1]) (r := (RX8, TX8, 21)) (ci := 5) (q0 := 15) (isC := [15, 16, 17, 18, 19, 20, 21, 22, 23, 24]) (isR := [0, 1, 2, 3, 4, 5, 6, 7, 8, 9, 10, 11, 12, 13, 14, 25]) (perm := [0, 1, 2, 3, 4, 5, 6, 7, 8, 9, 10, 11, 12, 13, 14, 16, 17, 18, 19, 20, 21, 22, 23, 24, 25, 15]) (w' := ((wX7 cy h0 gma sna hia ka ora cha tra ena opa foa gm v1.2.1 hs qs k0 k1 k2 k3 ch o tr es op fo v1.2.2) ++ ((wX8 cy mo sa pa kb aa oa wa ca ta na mOp v2.2.1 mPa mRu v2.2.2.1 mTy mSp mFr mRe mCa mOr mLe rS rP v2.2.2.2 rA rO rW rC rT rN) ++ [wL cy ua out]))) ⟨hx, hb, hml, hown, hts⟩ (c_X8_keep l D cy mo sa pa kb aa oa wa ca ta na mOp mIk mPa mRu mLa mTy mSp mFr mRe mCa mOr mLe rS rP rK rA rO rW rC rT rN  v2 hv2) (cwV 0 hts gL_law_X8_keep rfl rfl rfl hd_X8_keep ⟨Nat.le_of_ble_eq_true rfl, Nat.le_of_ble_eq_true rfl⟩) hK hN hP hD hS hA rfl rfl rfl rfl rfl rfl (by decide) rfl rfl rfl hl.1 rfl (Nat.le_of_ble_eq_true rfl) dL_law_1296 ⟨Nat.le_of_succ_le hc, k_le6 hsl⟩ (fun H locs hP hD hS => ?_)
  refine lv_icmp_eq (tgt := 1650) hx hb dL_law_1299 (by decide) (fun c3 => ?_) (fun c3 => ?_)
  · have hf := k_T c3 hf
    obtain rfl := k_some hf
    refine W.widen (Nat.le_succ _) (Nat.le_add_right _ 6) ?_
    exact kk ls H locs (lv_sub hl [0, 1, 2, 3, 4] rfl) hP hD hS
  · have hf := k_F c3 hf
    refine lv_iconst (v := 0) hx hb dL_law_1302 (by decide) ?_
    cases hf
def f_case32 (a : Int32) (gm : k_G8) (sn : k_G8) (hs : Int32) (qs : k_Q4) (k0 : k_G8) (k1 : k_G8) (k2 : k_G8) (k3 : k_G8) (has : Int32) (mIk : Int32) (mPa : Int32) (mRu : Int32) (mLa : Int32) (rS : Nat → Int32) (rP : Nat → Int32) (rK : Nat → Int32) (out : Nat → Int64) : Option (k_G8 × Int32 × k_Q4 × k_G8 × k_G8 × k_G8 × k_G8 × Int32 × Int32 × (Nat → Int32) × (Nat → Int32) × (Nat → Int64)) :=
  (f_L_goBack gm sn hs qs k0 k1 k2 k3 has out).bind fun v1 =>
  (f_X8_goBack mIk mPa mRu mLa rS rP rK).bind fun v2 =>
  (f_X8_thrown v2.2.2.1).bind fun v3 =>
  if v3 = v1.1 then
    if v1.1 = 0 then
      if (lg_cmp (v1.2.2.2.2.2.2.2.2 0) v2.1.toInt64) = 0 then
        some (v1.2.1, v1.2.2.1, v1.2.2.2.1, v1.2.2.2.2.1, v1.2.2.2.2.2.1, v1.2.2.2.2.2.2.1, v1.2.2.2.2.2.2.2.1, v2.2.1, v2.2.2.1, v2.2.2.2.1, v2.2.2.2.2, v1.2.2.2.2.2.2.2.2)
      else
        none
    else
      some (v1.2.1, v1.2.2.1, v1.2.2.2.1, v1.2.2.2.2.1, v1.2.2.2.2.2.1, v1.2.2.2.2.2.2.1, v1.2.2.2.2.2.2.2.1, v2.2.1, v2.2.2.1, v2.2.2.2.1, v2.2.2.2.2, v1.2.2.2.2.2.2.2.2)
  else
    none
set_option maxHeartbeats 4000000 in
set_option maxRecDepth 100000 in
theorem c_case32 (l : Launch) (hl9 : l.stackTraces = false) {p : Program} {e : Env} {s : State} {m : MethodId} {below : List Frame} {meth : Method} {c : Code} {b L : Nat} {xs : Nat → Int32} {D : va_G} {cy : Nat → ClassId} (C : k_LC p s m c b L xs D cy) (Q : State → Prop) (h0 gma sna hia ka ora cha tra ena opa foa mo sa pa kb aa oa wa ca ta na ua : Nat) (gm : k_G8) (sn : k_G8) (hs : Int32) (qs : k_Q4) (k0 : k_G8) (k1 : k_G8) (k2 : k_G8) (k3 : k_G8) (ch : Nat → Int32) (o : k_O5) (tr : k_G8) (es : Int32) (op : Nat → Int32) (fo : Nat → Int32) (has : Int32) (mOp : Int32) (mIk : Int32) (mPa : Int32) (mRu : Int32) (mLa : Int32) (mTy : Int32) (mSp : Int32) (mFr : Int32) (mRe : Int32) (mCa : Int32) (mOr : Int32) (mLe : Int32) (rS : Nat → Int32) (rP : Nat → Int32) (rK : Nat → Int32) (rA : Nat → Int32) (rO : Nat → Int32) (rW : Nat → Int32) (rC : Nat → Int32) (rT : Nat → Int32) (rN : Nat → Int32) (out : Nat → Int64) (i a : Int32) (hi : vp_in (i + 1) L) (ha : a = xs (i + 1).toNatClampNeg) (r : k_G8 × Int32 × k_Q4 × k_G8 × k_G8 × k_G8 × k_G8 × Int32 × Int32 × (Nat → Int32) × (Nat → Int32) × (Nat → Int64)) (hf : f_case32 a gm sn hs qs k0 k1 k2 k3 has mIk mPa mRu mLa rS rP rK out = some r) (cells slots : Nat) (hc : cells + 1 ≤ room_1.cells) (hsl : slots + 6 ≤ room_1.slots) (ls : Array Slot) (H : Heap) (locs : List Loc) (hl : lv_has ls 9 [(4, .int i), (3, .ref ua), (2, .ref mo), (1, .ref h0), (0, .ref b)]) (hP : va_P D vwCl ((wX7 cy h0 gma sna hia ka ora cha tra ena opa foa gm sn hs qs k0 k1 k2 k3 ch o tr es op fo has) ++ ((wX8 cy mo sa pa kb aa oa wa ca ta na mOp mIk mPa mRu mLa mTy mSp mFr mRe mCa mOr mLe rS rP rK rA rO rW rC rT rN) ++ [wL cy ua out])) H) (hD : va_D (k_A s) ((wX7 cy h0 gma sna hia ka ora cha tra ena opa foa gm sn hs qs k0 k1 k2 k3 ch o tr es op fo has) ++ ((wX8 cy mo sa pa kb aa oa wa ca ta na mOp mIk mPa mRu mLa mTy mSp mFr mRe mCa mOr mLe rS rP rK rA rO rW rC rT rN) ++ [wL cy ua out]))) (hS : va_S (k_A s) s.heap H locs) (kk : ∀ (ls : Array Slot) (H : Heap) (locs : List Loc), lv_has ls 9 [(4, .int i), (3, .ref ua), (2, .ref mo), (1, .ref h0), (0, .ref b)] → va_P D vwCl ((wX7 cy h0 gma sna hia ka ora cha tra ena opa foa r.1 sn r.2.1 r.2.2.1 r.2.2.2.1 r.2.2.2.2.1 r.2.2.2.2.2.1 r.2.2.2.2.2.2.1 ch o tr es op fo has) ++ ((wX8 cy mo sa pa kb aa oa wa ca ta na mOp mIk r.2.2.2.2.2.2.2.1 mRu r.2.2.2.2.2.2.2.2.1 mTy mSp mFr mRe mCa mOr mLe r.2.2.2.2.2.2.2.2.2.1 r.2.2.2.2.2.2.2.2.2.2.1 rK rA rO rW rC rT rN) ++ [wL cy ua r.2.2.2.2.2.2.2.2.2.2.2])) H → va_D (k_A s) ((wX7 cy h0 gma sna hia ka ora cha tra ena opa foa r.1 sn r.2.1 r.2.2.1 r.2.2.2.1 r.2.2.2.2.1 r.2.2.2.2.2.1 r.2.2.2.2.2.2.1 ch o tr es op fo has) ++ ((wX8 cy mo sa pa kb aa oa wa ca ta na mOp mIk r.2.2.2.2.2.2.2.1 mRu r.2.2.2.2.2.2.2.2.1 mTy mSp mFr mRe mCa mOr mLe r.2.2.2.2.2.2.2.2.2.1 r.2.2.2.2.2.2.2.2.2.2.1 rK rA rO rW rC rT rN) ++ [wL cy ua r.2.2.2.2.2.2.2.2.2.2.2])) → va_S (k_A s) s.heap H locs → W p l e room_1 s m #[Value.ref b] below meth c H locs (cells + 1) (slots + 6) Q (F0 m 1650 ls [])) : W p l e room_1 s m #[Value.ref b] below meth c H locs cells slots Q (F0 m 1304 ls []) := by
  obtain ⟨hx, hb, hml, hown, hts, hX, hbl, hK, hN, hT, hZ, hCx⟩ := C
  have hA : ∀ q : Nat, s.heap.size ≤ q → k_A s q := fun _ h9 => h9
  unfold f_case32 at hf
  refine lv_aload_n hx hb dL_law_1304 rfl (lv_at hl 3 rfl) ?_
  refine lv_aload_n hx hb dL_law_1305 rfl (lv_at hl 1 rfl) ?_
  obtain ⟨v1, hv1, hf⟩ := k_B hf
  refine k_callLS (As := [.ref h0, .ref ua]) (rest := []) (isC := [0, 1, 2, 3, 4, 5, 6, 7, 8, 9, 10, 11, 12, 13, 14, 25]) (isR := [15, 16, 17, 18, 19, 20, 21, 22, 23, 24]) (perm := [10, 11, 12, 13, 14, 15, 16, 17, 18, 19, 20, 21, 22, 23, 24, 0, 1, 2, 3, 4, 5, 6, 7, 8, 9, 25]) (w' := ((wX7 cy h0 gma sna hia ka ora cha tra ena opa foa v1.2.1 sn v1.2.2.1 v1.2.2.2.1 v1.2.2.2.2.1 v1.2.2.2.2.2.1 v1.2.2.2.2.2.2.1 v1.2.2.2.2.2.2.2.1 ch o tr es op fo has) ++ ((wX8 cy mo sa pa kb aa oa wa ca ta na mOp mIk mPa mRu mLa mTy mSp mFr mRe mCa mOr mLe rS rP rK rA rO rW rC rT rN) ++ [wL cy ua v1.2.2.2.2.2.2.2.2]))) ⟨hx, hb, hml, hown, hts⟩ (c_L_goBack l hl9 D cy h0 gma sna hia ka ora cha tra ena opa foa ua gm sn hs qs k0 k1 k2 k3 ch o tr es op fo has out  v1 hv1) (vx_cwSW 2 hts gL_law_L_goBack rfl rfl rfl hd_L_goBack ⟨Nat.le_of_ble_eq_true rfl, Nat.le_of_ble_eq_true rfl⟩) hK hN hT hZ hCx hP hD hS (fun _ h9 => h9) rfl rfl rfl (by decide) (by decide) rfl (by decide) rfl hl.1 rfl (Nat.le_of_ble_eq_true rfl) dL_law_1306 ⟨hc, hsl⟩ (fun H locs hP hD hS => ?_)
  refine lv_istore (lv' := [(5, .int v1.1), (4, .int i), (3, .ref ua), (2, .ref mo), (1, .ref h0), (0, .ref b)]) hx hb dL_law_1309 hl (by decide) rfl (fun ls hl => ?_)
  refine lv_aload_n hx hb dL_law_1311 rfl (lv_at hl 3 rfl) ?_
  obtain ⟨v2, hv2, hf⟩ := k_B hf
  refine k_callHV (As := []) (rest := []) (r := (RX8, TX8, 21)) (ci := 5) (q0 := 15) (isC := [15, 16, 17, 18, 19, 20, 21, 22, 23, 24]) (isR := [0, 1, 2, 3, 4, 5, 6, 7, 8, 9, 10, 11, 12, 13, 14, 25]) (perm := [0, 1, 2, 3, 4, 5, 6, 7, 8, 9, 10, 11, 12, 13, 14, 16, 17, 18, 19, 20, 21, 22, 23, 24, 25, 15]) (w' := ((wX7 cy h0 gma sna hia ka ora cha tra ena opa foa v1.2.1 sn v1.2.2.1 v1.2.2.2.1 v1.2.2.2.2.1 v1.2.2.2.2.2.1 v1.2.2.2.2.2.2.1 v1.2.2.2.2.2.2.2.1 ch o tr es op fo has) ++ ((wX8 cy mo sa pa kb aa oa wa ca ta na mOp mIk v2.2.1 mRu v2.2.2.1 mTy mSp mFr mRe mCa mOr mLe v2.2.2.2.1 v2.2.2.2.2 rK rA rO rW rC rT rN) ++ [wL cy ua v1.2.2.2.2.2.2.2.2]))) ⟨hx, hb, hml, hown, hts⟩ (c_X8_goBack l D cy mo sa pa kb aa oa wa ca ta na mOp mIk mPa mRu mLa mTy mSp mFr mRe mCa mOr mLe rS rP rK rA rO rW rC rT rN  v2 hv2) (cwV 0 hts gL_law_X8_goBack rfl rfl rfl hd_X8_goBack ⟨Nat.le_of_ble_eq_true rfl, Nat.le_of_ble_eq_true rfl⟩) hK hN hP hD hS hA rfl rfl rfl rfl rfl rfl (by decide) rfl rfl rfl hl.1 rfl (Nat.le_of_ble_eq_true rfl) dL_law_1312 ⟨hc, hsl⟩ (fun H locs hP hD hS => ?_)
  refine lv_istore (lv' := [(6, .int v2.1), (5, .int v1.1), (4, .int i), (3, .ref ua), (2, .ref mo), (1, .ref h0), (0, .ref b)]) hx hb dL_law_1315 hl (by decide) rfl (fun ls hl => ?_)
  refine lv_aload_n hx hb dL_law_1317 rfl (lv_at hl 4 rfl) ?_
  obtain ⟨v3, hv3, hf⟩ := k_B hf
  refine k_callHV (As := []) (rest := []) (r := (RX8, TX8, 21)) (ci := 5) (q0 := 15) (isC := [15, 16, 17, 18, 19, 20, 21, 22, 23, 24]) (isR := [0, 1, 2, 3, 4, 5, 6, 7, 8, 9, 10, 11, 12, 13, 14, 25]) (perm := [0, 1, 2, 3, 4, 5, 6, 7, 8, 9, 10, 11, 12, 13, 14, 16, 17, 18, 19, 20, 21, 22, 23, 24, 25, 15]) (w' := ((wX7 cy h0 gma sna hia ka ora cha tra ena opa foa v1.2.1 sn v1.2.2.1 v1.2.2.2.1 v1.2.2.2.2.1 v1.2.2.2.2.2.1 v1.2.2.2.2.2.2.1 v1.2.2.2.2.2.2.2.1 ch o tr es op fo has) ++ ((wX8 cy mo sa pa kb aa oa wa ca ta na mOp mIk v2.2.1 mRu v2.2.2.1 mTy mSp mFr mRe mCa mOr mLe v2.2.2.2.1 v2.2.2.2.2 rK rA rO rW rC rT rN) ++ [wL cy ua v1.2.2.2.2.2.2.2.2]))) ⟨hx, hb, hml, hown, hts⟩ (c_X8_thrown l D cy mo sa pa kb aa oa wa ca ta na mOp mIk v2.2.1 mRu v2.2.2.1 mTy mSp mFr mRe mCa mOr mLe v2.2.2.2.1 v2.2.2.2.2 rK rA rO rW rC rT rN  v3 hv3) (cwV 0 hts gL_law_X8_thrown rfl rfl rfl hd_X8_thrown ⟨Nat.le_of_ble_eq_true rfl, Nat.le_of_ble_eq_true rfl⟩) hK hN hP hD hS hA rfl rfl rfl rfl rfl rfl (by decide) rfl rfl rfl hl.1 rfl (Nat.le_of_ble_eq_true rfl) dL_law_1318 ⟨hc, hsl⟩ (fun H locs hP hD hS => ?_)
  refine lv_iload hx hb dL_law_1321 (lv_at hl 1 rfl) ?_
  refine lv_icmp_eq (tgt := 1328) hx hb dL_law_1323 (by decide) (fun c4 => ?_) (fun c4 => ?_)
  · have hf := k_T c4 hf
    refine lv_iload hx hb dL_law_1328 (lv_at hl 1 rfl) ?_
    refine lv_if_ne (tgt := 1345) hx hb dL_law_1330 (by decide) (fun c5 => ?_) (fun c5 => ?_)
    · have hf := k_F c5 hf
      refine lv_goto (tgt := 1650) hx hb dL_law_1345 (by decide) ?_
      obtain rfl := k_some hf
      exact kk ls H locs (lv_sub hl [2, 3, 4, 5, 6] rfl) hP hD hS
    · have hf := k_T c5 hf
      refine lv_aload_n hx hb dL_law_1333 rfl (lv_at hl 3 rfl) ?_
      refine lv_iconst (v := 0) hx hb dL_law_1334 (by decide) ?_
      refine va_lald hx hb hK hP 25 3 rfl rfl (k_in (i := 0) (n := 1) (by decide +kernel)) dL_law_1335 ?_
      refine k_nameJ (v := v1.2.2.2.2.2.2.2.2 0) rfl ?_
      refine lv_iload hx hb dL_law_1336 (lv_at hl 0 rfl) ?_
      refine lv_i2l hx hb dL_law_1338 rfl ?_
      refine W.lcmp hx hb dL_law_1339 ?_
      refine lv_if_eq (tgt := 1345) hx hb dL_law_1340 (by decide) (fun c6 => ?_) (fun c6 => ?_)
      · have hf := k_T c6 hf
        refine lv_goto (tgt := 1650) hx hb dL_law_1345 (by decide) ?_
        obtain rfl := k_some hf
        exact kk ls H locs (lv_sub hl [2, 3, 4, 5, 6] rfl) hP hD hS
      · have hf := k_F c6 hf
        refine lv_iconst (v := 0) hx hb dL_law_1343 (by decide) ?_
        cases hf
  · have hf := k_F c4 hf
    refine lv_iconst (v := 0) hx hb dL_law_1326 (by decide) ?_
    cases hf
def f_case33 (a : Int32) (hs : Int32) (mPa : Int32) (mLa : Int32) : Option (Int32) :=
  (f_X7_states hs).bind fun v1 =>
  (f_X8_states mPa mLa).bind fun v2 =>
  if v1 = v2.1 then
    some v2.2
  else
    none
set_option maxHeartbeats 4000000 in
set_option maxRecDepth 100000 in
theorem c_case33 (l : Launch) (hl9 : l.stackTraces = false) {p : Program} {e : Env} {s : State} {m : MethodId} {below : List Frame} {meth : Method} {c : Code} {b L : Nat} {xs : Nat → Int32} {D : va_G} {cy : Nat → ClassId} (C : k_LC p s m c b L xs D cy) (Q : State → Prop) (h0 gma sna hia ka ora cha tra ena opa foa mo sa pa kb aa oa wa ca ta na ua : Nat) (gm : k_G8) (sn : k_G8) (hs : Int32) (qs : k_Q4) (k0 : k_G8) (k1 : k_G8) (k2 : k_G8) (k3 : k_G8) (ch : Nat → Int32) (o : k_O5) (tr : k_G8) (es : Int32) (op : Nat → Int32) (fo : Nat → Int32) (has : Int32) (mOp : Int32) (mIk : Int32) (mPa : Int32) (mRu : Int32) (mLa : Int32) (mTy : Int32) (mSp : Int32) (mFr : Int32) (mRe : Int32) (mCa : Int32) (mOr : Int32) (mLe : Int32) (rS : Nat → Int32) (rP : Nat → Int32) (rK : Nat → Int32) (rA : Nat → Int32) (rO : Nat → Int32) (rW : Nat → Int32) (rC : Nat → Int32) (rT : Nat → Int32) (rN : Nat → Int32) (out : Nat → Int64) (i a : Int32) (hi : vp_in (i + 1) L) (ha : a = xs (i + 1).toNatClampNeg) (r : Int32) (hf : f_case33 a hs mPa mLa = some r) (cells slots : Nat) (hc : cells + 1 ≤ room_1.cells) (hsl : slots + 6 ≤ room_1.slots) (ls : Array Slot) (H : Heap) (locs : List Loc) (hl : lv_has ls 9 [(4, .int i), (3, .ref ua), (2, .ref mo), (1, .ref h0), (0, .ref b)]) (hP : va_P D vwCl ((wX7 cy h0 gma sna hia ka ora cha tra ena opa foa gm sn hs qs k0 k1 k2 k3 ch o tr es op fo has) ++ ((wX8 cy mo sa pa kb aa oa wa ca ta na mOp mIk mPa mRu mLa mTy mSp mFr mRe mCa mOr mLe rS rP rK rA rO rW rC rT rN) ++ [wL cy ua out])) H) (hD : va_D (k_A s) ((wX7 cy h0 gma sna hia ka ora cha tra ena opa foa gm sn hs qs k0 k1 k2 k3 ch o tr es op fo has) ++ ((wX8 cy mo sa pa kb aa oa wa ca ta na mOp mIk mPa mRu mLa mTy mSp mFr mRe mCa mOr mLe rS rP rK rA rO rW rC rT rN) ++ [wL cy ua out]))) (hS : va_S (k_A s) s.heap H locs) (kk : ∀ (ls : Array Slot) (H : Heap) (locs : List Loc), lv_has ls 9 [(4, .int i), (3, .ref ua), (2, .ref mo), (1, .ref h0), (0, .ref b)] → va_P D vwCl ((wX7 cy h0 gma sna hia ka ora cha tra ena opa foa gm sn hs qs k0 k1 k2 k3 ch o tr es op fo has) ++ ((wX8 cy mo sa pa kb aa oa wa ca ta na mOp mIk mPa mRu r mTy mSp mFr mRe mCa mOr mLe rS rP rK rA rO rW rC rT rN) ++ [wL cy ua out])) H → va_D (k_A s) ((wX7 cy h0 gma sna hia ka ora cha tra ena opa foa gm sn hs qs k0 k1 k2 k3 ch o tr es op fo has) ++ ((wX8 cy mo sa pa kb aa oa wa ca ta na mOp mIk mPa mRu r mTy mSp mFr mRe mCa mOr mLe rS rP rK rA rO rW rC rT rN) ++ [wL cy ua out])) → va_S (k_A s) s.heap H locs → W p l e room_1 s m #[Value.ref b] below meth c H locs (cells + 1) (slots + 6) Q (F0 m 1650 ls [])) : W p l e room_1 s m #[Value.ref b] below meth c H locs cells slots Q (F0 m 1348 ls []) := by
  obtain ⟨hx, hb, hml, hown, hts, hX, hbl, hK, hN, hT, hZ, hCx⟩ := C
  have hA : ∀ q : Nat, s.heap.size ≤ q → k_A s q := fun _ h9 => h9
  unfold f_case33 at hf
  refine lv_aload_n hx hb dL_law_1348 rfl (lv_at hl 3 rfl) ?_
  obtain ⟨v1, hv1, hf⟩ := k_B hf
  refine k_callHV (As := []) (rest := []) (r := (RX7, TX7, 6)) (ci := 4) (q0 := 0) (isC := [0, 1, 2, 3, 4, 5, 6, 7, 8, 9, 10, 11, 12, 13, 14]) (isR := [15, 16, 17, 18, 19, 20, 21, 22, 23, 24, 25]) (perm := [11, 12, 13, 14, 15, 16, 17, 18, 19, 20, 21, 22, 23, 24, 25, 0, 1, 2, 3, 4, 5, 6, 7, 8, 9, 10]) (w' := ((wX7 cy h0 gma sna hia ka ora cha tra ena opa foa gm sn hs qs k0 k1 k2 k3 ch o tr es op fo has) ++ ((wX8 cy mo sa pa kb aa oa wa ca ta na mOp mIk mPa mRu mLa mTy mSp mFr mRe mCa mOr mLe rS rP rK rA rO rW rC rT rN) ++ [wL cy ua out]))) ⟨hx, hb, hml, hown, hts⟩ (c_X7_states l D cy h0 gma sna hia ka ora cha tra ena opa foa gm sn hs qs k0 k1 k2 k3 ch o tr es op fo has  v1 hv1) (cwV 0 hts gL_law_X7_states rfl rfl rfl hd_X7_states ⟨Nat.le_of_ble_eq_true rfl, Nat.le_of_ble_eq_true rfl⟩) hK hN hP hD hS hA rfl rfl rfl rfl rfl rfl (by decide) rfl rfl rfl hl.1 rfl (Nat.le_of_ble_eq_true rfl) dL_law_1349 ⟨Nat.le_of_succ_le hc, k_le6 hsl⟩ (fun H locs hP hD hS => ?_)
  refine lv_aload_n hx hb dL_law_1352 rfl (lv_at hl 2 rfl) ?_
  obtain ⟨v2, hv2, hf⟩ := k_B hf
  refine k_callHV (As := []) (rest := [.int v1]) (r := (RX8, TX8, 21)) (ci := 5) (q0 := 15) (isC := [15, 16, 17, 18, 19, 20, 21, 22, 23, 24]) (isR := [0, 1, 2, 3, 4, 5, 6, 7, 8, 9, 10, 11, 12, 13, 14, 25]) (perm := [0, 1, 2, 3, 4, 5, 6, 7, 8, 9, 10, 11, 12, 13, 14, 16, 17, 18, 19, 20, 21, 22, 23, 24, 25, 15]) (w' := ((wX7 cy h0 gma sna hia ka ora cha tra ena opa foa gm sn hs qs k0 k1 k2 k3 ch o tr es op fo has) ++ ((wX8 cy mo sa pa kb aa oa wa ca ta na mOp mIk mPa mRu v2.2 mTy mSp mFr mRe mCa mOr mLe rS rP rK rA rO rW rC rT rN) ++ [wL cy ua out]))) ⟨hx, hb, hml, hown, hts⟩ (c_X8_states l D cy mo sa pa kb aa oa wa ca ta na mOp mIk mPa mRu mLa mTy mSp mFr mRe mCa mOr mLe rS rP rK rA rO rW rC rT rN  v2 hv2) (cwV 0 hts gL_law_X8_states rfl rfl rfl hd_X8_states ⟨Nat.le_of_ble_eq_true rfl, Nat.le_of_ble_eq_true rfl⟩) hK hN hP hD hS hA rfl rfl rfl rfl rfl rfl (by decide) rfl rfl rfl hl.1 rfl (Nat.le_of_ble_eq_true rfl) dL_law_1353 ⟨Nat.le_of_succ_le hc, k_le6 hsl⟩ (fun H locs hP hD hS => ?_)
  refine lv_icmp_eq (tgt := 1650) hx hb dL_law_1356 (by decide) (fun c3 => ?_) (fun c3 => ?_)
  · have hf := k_T c3 hf
    obtain rfl := k_some hf
    refine W.widen (Nat.le_succ _) (Nat.le_add_right _ 6) ?_
    exact kk ls H locs (lv_sub hl [0, 1, 2, 3, 4] rfl) hP hD hS
  · have hf := k_F c3 hf
    refine lv_iconst (v := 0) hx hb dL_law_1359 (by decide) ?_
    cases hf
def f_case34 (a : Int32) (gm : k_G8) (hs : Int32) (k0 : k_G8) (k1 : k_G8) (k2 : k_G8) (k3 : k_G8) (mPa : Int32) (mLa : Int32) (rS : Nat → Int32) (rP : Nat → Int32) (out : Nat → Int64) : Option (k_G8 × Int32 × Int32 × Int32 × (Nat → Int32) × (Nat → Int64)) :=
  (f_L_undo gm hs k0 k1 k2 k3 out).bind fun v1 =>
  (f_X8_undo mPa mLa rS rP).bind fun v2 =>
  (f_X8_thrown v2.2.2.1).bind fun v3 =>
  if v3 = v1.1 then
    if v1.1 = 0 then
      if (lg_cmp (v1.2.2.2 0) v2.1.toInt64) = 0 then
        some (v1.2.1, v1.2.2.1, v2.2.1, v2.2.2.1, v2.2.2.2, v1.2.2.2)
      else
        none
    else
      some (v1.2.1, v1.2.2.1, v2.2.1, v2.2.2.1, v2.2.2.2, v1.2.2.2)
  else
    none
set_option maxHeartbeats 4000000 in
set_option maxRecDepth 100000 in
theorem c_case34 (l : Launch) (hl9 : l.stackTraces = false) {p : Program} {e : Env} {s : State} {m : MethodId} {below : List Frame} {meth : Method} {c : Code} {b L : Nat} {xs : Nat → Int32} {D : va_G} {cy : Nat → ClassId} (C : k_LC p s m c b L xs D cy) (Q : State → Prop) (h0 gma sna hia ka ora cha tra ena opa foa mo sa pa kb aa oa wa ca ta na ua : Nat) (gm : k_G8) (sn : k_G8) (hs : Int32) (qs : k_Q4) (k0 : k_G8) (k1 : k_G8) (k2 : k_G8) (k3 : k_G8) (ch : Nat → Int32) (o : k_O5) (tr : k_G8) (es : Int32) (op : Nat → Int32) (fo : Nat → Int32) (has : Int32) (mOp : Int32) (mIk : Int32) (mPa : Int32) (mRu : Int32) (mLa : Int32) (mTy : Int32) (mSp : Int32) (mFr : Int32) (mRe : Int32) (mCa : Int32) (mOr : Int32) (mLe : Int32) (rS : Nat → Int32) (rP : Nat → Int32) (rK : Nat → Int32) (rA : Nat → Int32) (rO : Nat → Int32) (rW : Nat → Int32) (rC : Nat → Int32) (rT : Nat → Int32) (rN : Nat → Int32) (out : Nat → Int64) (i a : Int32) (hi : vp_in (i + 1) L) (ha : a = xs (i + 1).toNatClampNeg) (r : k_G8 × Int32 × Int32 × Int32 × (Nat → Int32) × (Nat → Int64)) (hf : f_case34 a gm hs k0 k1 k2 k3 mPa mLa rS rP out = some r) (cells slots : Nat) (hc : cells + 1 ≤ room_1.cells) (hsl : slots + 6 ≤ room_1.slots) (ls : Array Slot) (H : Heap) (locs : List Loc) (hl : lv_has ls 9 [(4, .int i), (3, .ref ua), (2, .ref mo), (1, .ref h0), (0, .ref b)]) (hP : va_P D vwCl ((wX7 cy h0 gma sna hia ka ora cha tra ena opa foa gm sn hs qs k0 k1 k2 k3 ch o tr es op fo has) ++ ((wX8 cy mo sa pa kb aa oa wa ca ta na mOp mIk mPa mRu mLa mTy mSp mFr mRe mCa mOr mLe rS rP rK rA rO rW rC rT rN) ++ [wL cy ua out])) H) (hD : va_D (k_A s) ((wX7 cy h0 gma sna hia ka ora cha tra ena opa foa gm sn hs qs k0 k1 k2 k3 ch o tr es op fo has) ++ ((wX8 cy mo sa pa kb aa oa wa ca ta na mOp mIk mPa mRu mLa mTy mSp mFr mRe mCa mOr mLe rS rP rK rA rO rW rC rT rN) ++ [wL cy ua out]))) (hS : va_S (k_A s) s.heap H locs) (kk : ∀ (ls : Array Slot) (H : Heap) (locs : List Loc), lv_has ls 9 [(4, .int i), (3, .ref ua), (2, .ref mo), (1, .ref h0), (0, .ref b)] → va_P D vwCl ((wX7 cy h0 gma sna hia ka ora cha tra ena opa foa r.1 sn r.2.1 qs k0 k1 k2 k3 ch o tr es op fo has) ++ ((wX8 cy mo sa pa kb aa oa wa ca ta na mOp mIk r.2.2.1 mRu r.2.2.2.1 mTy mSp mFr mRe mCa mOr mLe r.2.2.2.2.1 rP rK rA rO rW rC rT rN) ++ [wL cy ua r.2.2.2.2.2])) H → va_D (k_A s) ((wX7 cy h0 gma sna hia ka ora cha tra ena opa foa r.1 sn r.2.1 qs k0 k1 k2 k3 ch o tr es op fo has) ++ ((wX8 cy mo sa pa kb aa oa wa ca ta na mOp mIk r.2.2.1 mRu r.2.2.2.1 mTy mSp mFr mRe mCa mOr mLe r.2.2.2.2.1 rP rK rA rO rW rC rT rN) ++ [wL cy ua r.2.2.2.2.2])) → va_S (k_A s) s.heap H locs → W p l e room_1 s m #[Value.ref b] below meth c H locs (cells + 1) (slots + 6) Q (F0 m 1650 ls [])) : W p l e room_1 s m #[Value.ref b] below meth c H locs cells slots Q (F0 m 1361 ls []) := by
  obtain ⟨hx, hb, hml, hown, hts, hX, hbl, hK, hN, hT, hZ, hCx⟩ := C
  have hA : ∀ q : Nat, s.heap.size ≤ q → k_A s q := fun _ h9 => h9
  unfold f_case34 at hf
  refine lv_aload_n hx hb dL_law_1361 rfl (lv_at hl 3 rfl) ?_
  refine lv_aload_n hx hb dL_law_1362 rfl (lv_at hl 1 rfl) ?_
  obtain ⟨v1, hv1, hf⟩ := k_B hf
  refine k_callLS (As := [.ref h0, .ref ua]) (rest := []) (isC := [0, 1, 2, 3, 4, 5, 6, 7, 8, 9, 10, 11, 12, 13, 14, 25]) (isR := [15, 16, 17, 18, 19, 20, 21, 22, 23, 24]) (perm := [10, 11, 12, 13, 14, 15, 16, 17, 18, 19, 20, 21, 22, 23, 24, 0, 1, 2, 3, 4, 5, 6, 7, 8, 9, 25]) (w' := ((wX7 cy h0 gma sna hia ka ora cha tra ena opa foa v1.2.1 sn v1.2.2.1 qs k0 k1 k2 k3 ch o tr es op fo has) ++ ((wX8 cy mo sa pa kb aa oa wa ca ta na mOp mIk mPa mRu mLa mTy mSp mFr mRe mCa mOr mLe rS rP rK rA rO rW rC rT rN) ++ [wL cy ua v1.2.2.2]))) ⟨hx, hb, hml, hown, hts⟩ (c_L_undo l hl9 D cy h0 gma sna hia ka ora cha tra ena opa foa ua gm sn hs qs k0 k1 k2 k3 ch o tr es op fo has out  v1 hv1) (vx_cwSW 2 hts gL_law_L_undo rfl rfl rfl hd_L_undo ⟨Nat.le_of_ble_eq_true rfl, Nat.le_of_ble_eq_true rfl⟩) hK hN hT hZ hCx hP hD hS (fun _ h9 => h9) rfl rfl rfl (by decide) (by decide) rfl (by decide) rfl hl.1 rfl (Nat.le_of_ble_eq_true rfl) dL_law_1363 ⟨hc, hsl⟩ (fun H locs hP hD hS => ?_)
  refine lv_istore (lv' := [(5, .int v1.1), (4, .int i), (3, .ref ua), (2, .ref mo), (1, .ref h0), (0, .ref b)]) hx hb dL_law_1366 hl (by decide) rfl (fun ls hl => ?_)
  refine lv_aload_n hx hb dL_law_1368 rfl (lv_at hl 3 rfl) ?_
  obtain ⟨v2, hv2, hf⟩ := k_B hf
  refine k_callHV (As := []) (rest := []) (r := (RX8, TX8, 21)) (ci := 5) (q0 := 15) (isC := [15, 16, 17, 18, 19, 20, 21, 22, 23, 24]) (isR := [0, 1, 2, 3, 4, 5, 6, 7, 8, 9, 10, 11, 12, 13, 14, 25]) (perm := [0, 1, 2, 3, 4, 5, 6, 7, 8, 9, 10, 11, 12, 13, 14, 16, 17, 18, 19, 20, 21, 22, 23, 24, 25, 15]) (w' := ((wX7 cy h0 gma sna hia ka ora cha tra ena opa foa v1.2.1 sn v1.2.2.1 qs k0 k1 k2 k3 ch o tr es op fo has) ++ ((wX8 cy mo sa pa kb aa oa wa ca ta na mOp mIk v2.2.1 mRu v2.2.2.1 mTy mSp mFr mRe mCa mOr mLe v2.2.2.2 rP rK rA rO rW rC rT rN) ++ [wL cy ua v1.2.2.2]))) ⟨hx, hb, hml, hown, hts⟩ (c_X8_undo l D cy mo sa pa kb aa oa wa ca ta na mOp mIk mPa mRu mLa mTy mSp mFr mRe mCa mOr mLe rS rP rK rA rO rW rC rT rN  v2 hv2) (cwV 0 hts gL_law_X8_undo rfl rfl rfl hd_X8_undo ⟨Nat.le_of_ble_eq_true rfl, Nat.le_of_ble_eq_true rfl⟩) hK hN hP hD hS hA rfl rfl rfl rfl rfl rfl (by decide) rfl rfl rfl hl.1 rfl (Nat.le_of_ble_eq_true rfl) dL_law_1369 ⟨hc, hsl⟩ (fun H locs hP hD hS => ?_)
  refine lv_istore (lv' := [(6, .int v2.1), (5, .int v1.1), (4, .int i), (3, .ref ua), (2, .ref mo), (1, .ref h0), (0, .ref b)]) hx hb dL_law_1372 hl (by decide) rfl (fun ls hl => ?_)
  refine lv_aload_n hx hb dL_law_1374 rfl (lv_at hl 4 rfl) ?_
  obtain ⟨v3, hv3, hf⟩ := k_B hf
  refine k_callHV (As := []) (rest := []) (r := (RX8, TX8, 21)) (ci := 5) (q0 := 15) (isC := [15, 16, 17, 18, 19, 20, 21, 22, 23, 24]) (isR := [0, 1, 2, 3, 4, 5, 6, 7, 8, 9, 10, 11, 12, 13, 14, 25]) (perm := [0, 1, 2, 3, 4, 5, 6, 7, 8, 9, 10, 11, 12, 13, 14, 16, 17, 18, 19, 20, 21, 22, 23, 24, 25, 15]) (w' := ((wX7 cy h0 gma sna hia ka ora cha tra ena opa foa v1.2.1 sn v1.2.2.1 qs k0 k1 k2 k3 ch o tr es op fo has) ++ ((wX8 cy mo sa pa kb aa oa wa ca ta na mOp mIk v2.2.1 mRu v2.2.2.1 mTy mSp mFr mRe mCa mOr mLe v2.2.2.2 rP rK rA rO rW rC rT rN) ++ [wL cy ua v1.2.2.2]))) ⟨hx, hb, hml, hown, hts⟩ (c_X8_thrown l D cy mo sa pa kb aa oa wa ca ta na mOp mIk v2.2.1 mRu v2.2.2.1 mTy mSp mFr mRe mCa mOr mLe v2.2.2.2 rP rK rA rO rW rC rT rN  v3 hv3) (cwV 0 hts gL_law_X8_thrown rfl rfl rfl hd_X8_thrown ⟨Nat.le_of_ble_eq_true rfl, Nat.le_of_ble_eq_true rfl⟩) hK hN hP hD hS hA rfl rfl rfl rfl rfl rfl (by decide) rfl rfl rfl hl.1 rfl (Nat.le_of_ble_eq_true rfl) dL_law_1375 ⟨hc, hsl⟩ (fun H locs hP hD hS => ?_)
  refine lv_iload hx hb dL_law_1378 (lv_at hl 1 rfl) ?_
  refine lv_icmp_eq (tgt := 1385) hx hb dL_law_1380 (by decide) (fun c4 => ?_) (fun c4 => ?_)
  · have hf := k_T c4 hf
    refine lv_iload hx hb dL_law_1385 (lv_at hl 1 rfl) ?_
    refine lv_if_ne (tgt := 1402) hx hb dL_law_1387 (by decide) (fun c5 => ?_) (fun c5 => ?_)
    · have hf := k_F c5 hf
      refine lv_goto (tgt := 1650) hx hb dL_law_1402 (by decide) ?_
      obtain rfl := k_some hf
      exact kk ls H locs (lv_sub hl [2, 3, 4, 5, 6] rfl) hP hD hS
    · have hf := k_T c5 hf
      refine lv_aload_n hx hb dL_law_1390 rfl (lv_at hl 3 rfl) ?_
      refine lv_iconst (v := 0) hx hb dL_law_1391 (by decide) ?_
      refine va_lald hx hb hK hP 25 3 rfl rfl (k_in (i := 0) (n := 1) (by decide +kernel)) dL_law_1392 ?_
      refine k_nameJ (v := v1.2.2.2 0) rfl ?_
      refine lv_iload hx hb dL_law_1393 (lv_at hl 0 rfl) ?_
      refine lv_i2l hx hb dL_law_1395 rfl ?_
      refine W.lcmp hx hb dL_law_1396 ?_
      refine lv_if_eq (tgt := 1402) hx hb dL_law_1397 (by decide) (fun c6 => ?_) (fun c6 => ?_)
      · have hf := k_T c6 hf
        refine lv_goto (tgt := 1650) hx hb dL_law_1402 (by decide) ?_
        obtain rfl := k_some hf
        exact kk ls H locs (lv_sub hl [2, 3, 4, 5, 6] rfl) hP hD hS
      · have hf := k_F c6 hf
        refine lv_iconst (v := 0) hx hb dL_law_1400 (by decide) ?_
        cases hf
  · have hf := k_F c4 hf
    refine lv_iconst (v := 0) hx hb dL_law_1383 (by decide) ?_
    cases hf
def f_case35 (a : Int32) (ch : Nat → Int32) (o : k_O5) (mLa : Int32) (mTy : Int32) (rT : Nat → Int32) (out : Nat → Int64) : Option ((Nat → Int32) × k_O5 × Int32 × Int32 × (Nat → Int32) × (Nat → Int64)) :=
  (f_L_type a ch o out).bind fun v1 =>
  (f_X8_type a mLa mTy rT).bind fun v2 =>
  (f_X8_thrown v2.2.1).bind fun v3 =>
  if v3 = v1.1 then
    if v1.1 = 0 then
      if (lg_cmp (v1.2.2.2 0) v2.1.toInt64) = 0 then
        some (v1.2.1, v1.2.2.1, v2.2.1, v2.2.2.1, v2.2.2.2, v1.2.2.2)
      else
        none
    else
      some (v1.2.1, v1.2.2.1, v2.2.1, v2.2.2.1, v2.2.2.2, v1.2.2.2)
  else
    none
set_option maxHeartbeats 4000000 in
set_option maxRecDepth 100000 in
theorem c_case35 (l : Launch) (hl9 : l.stackTraces = false) {p : Program} {e : Env} {s : State} {m : MethodId} {below : List Frame} {meth : Method} {c : Code} {b L : Nat} {xs : Nat → Int32} {D : va_G} {cy : Nat → ClassId} (C : k_LC p s m c b L xs D cy) (Q : State → Prop) (h0 gma sna hia ka ora cha tra ena opa foa mo sa pa kb aa oa wa ca ta na ua : Nat) (gm : k_G8) (sn : k_G8) (hs : Int32) (qs : k_Q4) (k0 : k_G8) (k1 : k_G8) (k2 : k_G8) (k3 : k_G8) (ch : Nat → Int32) (o : k_O5) (tr : k_G8) (es : Int32) (op : Nat → Int32) (fo : Nat → Int32) (has : Int32) (mOp : Int32) (mIk : Int32) (mPa : Int32) (mRu : Int32) (mLa : Int32) (mTy : Int32) (mSp : Int32) (mFr : Int32) (mRe : Int32) (mCa : Int32) (mOr : Int32) (mLe : Int32) (rS : Nat → Int32) (rP : Nat → Int32) (rK : Nat → Int32) (rA : Nat → Int32) (rO : Nat → Int32) (rW : Nat → Int32) (rC : Nat → Int32) (rT : Nat → Int32) (rN : Nat → Int32) (out : Nat → Int64) (i a : Int32) (hi : vp_in (i + 1) L) (ha : a = xs (i + 1).toNatClampNeg) (r : (Nat → Int32) × k_O5 × Int32 × Int32 × (Nat → Int32) × (Nat → Int64)) (hf : f_case35 a ch o mLa mTy rT out = some r) (cells slots : Nat) (hc : cells + 1 ≤ room_1.cells) (hsl : slots + 6 ≤ room_1.slots) (ls : Array Slot) (H : Heap) (locs : List Loc) (hl : lv_has ls 9 [(4, .int i), (3, .ref ua), (2, .ref mo), (1, .ref h0), (0, .ref b)]) (hP : va_P D vwCl ((wX7 cy h0 gma sna hia ka ora cha tra ena opa foa gm sn hs qs k0 k1 k2 k3 ch o tr es op fo has) ++ ((wX8 cy mo sa pa kb aa oa wa ca ta na mOp mIk mPa mRu mLa mTy mSp mFr mRe mCa mOr mLe rS rP rK rA rO rW rC rT rN) ++ [wL cy ua out])) H) (hD : va_D (k_A s) ((wX7 cy h0 gma sna hia ka ora cha tra ena opa foa gm sn hs qs k0 k1 k2 k3 ch o tr es op fo has) ++ ((wX8 cy mo sa pa kb aa oa wa ca ta na mOp mIk mPa mRu mLa mTy mSp mFr mRe mCa mOr mLe rS rP rK rA rO rW rC rT rN) ++ [wL cy ua out]))) (hS : va_S (k_A s) s.heap H locs) (kk : ∀ (ls : Array Slot) (H : Heap) (locs : List Loc), lv_has ls 9 [(4, .int i), (3, .ref ua), (2, .ref mo), (1, .ref h0), (0, .ref b)] → va_P D vwCl ((wX7 cy h0 gma sna hia ka ora cha tra ena opa foa gm sn hs qs k0 k1 k2 k3 r.1 r.2.1 tr es op fo has) ++ ((wX8 cy mo sa pa kb aa oa wa ca ta na mOp mIk mPa mRu r.2.2.1 r.2.2.2.1 mSp mFr mRe mCa mOr mLe rS rP rK rA rO rW rC r.2.2.2.2.1 rN) ++ [wL cy ua r.2.2.2.2.2])) H → va_D (k_A s) ((wX7 cy h0 gma sna hia ka ora cha tra ena opa foa gm sn hs qs k0 k1 k2 k3 r.1 r.2.1 tr es op fo has) ++ ((wX8 cy mo sa pa kb aa oa wa ca ta na mOp mIk mPa mRu r.2.2.1 r.2.2.2.1 mSp mFr mRe mCa mOr mLe rS rP rK rA rO rW rC r.2.2.2.2.1 rN) ++ [wL cy ua r.2.2.2.2.2])) → va_S (k_A s) s.heap H locs → W p l e room_1 s m #[Value.ref b] below meth c H locs (cells + 1) (slots + 6) Q (F0 m 1650 ls [])) : W p l e room_1 s m #[Value.ref b] below meth c H locs cells slots Q (F0 m 1405 ls []) := by
  obtain ⟨hx, hb, hml, hown, hts, hX, hbl, hK, hN, hT, hZ, hCx⟩ := C
  have hA : ∀ q : Nat, s.heap.size ≤ q → k_A s q := fun _ h9 => h9
  unfold f_case35 at hf
  refine lv_aload_n hx hb dL_law_1405 rfl (lv_at hl 3 rfl) ?_
  refine lv_aload_n hx hb dL_law_1406 rfl (lv_at hl 4 rfl) ?_
  refine lv_iload hx hb dL_law_1407 (lv_at hl 0 rfl) ?_
  refine lv_iconst (v := 1) hx hb dL_law_1409 (by decide) ?_
  refine lv_iadd hx hb dL_law_1410 ?_
  refine va_sld hx hb hX hbl (Nat.not_le.mpr hbl) hS hi dL_law_1411 ?_
  refine k_name ha ?_
  refine lv_aload_n hx hb dL_law_1412 rfl (lv_at hl 1 rfl) ?_
  obtain ⟨v1, hv1, hf⟩ := k_B hf
  refine k_callLS (As := [.ref h0, .int a, .ref ua]) (rest := []) (isC := [0, 1, 2, 3, 4, 5, 6, 7, 8, 9, 10, 11, 12, 13, 14, 25]) (isR := [15, 16, 17, 18, 19, 20, 21, 22, 23, 24]) (perm := [10, 11, 12, 13, 14, 15, 16, 17, 18, 19, 20, 21, 22, 23, 24, 0, 1, 2, 3, 4, 5, 6, 7, 8, 9, 25]) (w' := ((wX7 cy h0 gma sna hia ka ora cha tra ena opa foa gm sn hs qs k0 k1 k2 k3 v1.2.1 v1.2.2.1 tr es op fo has) ++ ((wX8 cy mo sa pa kb aa oa wa ca ta na mOp mIk mPa mRu mLa mTy mSp mFr mRe mCa mOr mLe rS rP rK rA rO rW rC rT rN) ++ [wL cy ua v1.2.2.2]))) ⟨hx, hb, hml, hown, hts⟩ (c_L_type l hl9 D cy h0 gma sna hia ka ora cha tra ena opa foa ua gm sn hs qs k0 k1 k2 k3 ch o tr es op fo has out a v1 hv1) (vx_cwSW 3 hts gL_law_L_type rfl rfl rfl hd_L_type ⟨Nat.le_of_ble_eq_true rfl, Nat.le_of_ble_eq_true rfl⟩) hK hN hT hZ hCx hP hD hS (fun _ h9 => h9) rfl rfl rfl (by decide) (by decide) rfl (by decide) rfl hl.1 rfl (Nat.le_of_ble_eq_true rfl) dL_law_1413 ⟨hc, hsl⟩ (fun H locs hP hD hS => ?_)
  refine lv_istore (lv' := [(5, .int v1.1), (4, .int i), (3, .ref ua), (2, .ref mo), (1, .ref h0), (0, .ref b)]) hx hb dL_law_1416 hl (by decide) rfl (fun ls hl => ?_)
  refine lv_aload_n hx hb dL_law_1418 rfl (lv_at hl 3 rfl) ?_
  refine lv_aload_n hx hb dL_law_1419 rfl (lv_at hl 5 rfl) ?_
  refine lv_iload hx hb dL_law_1420 (lv_at hl 1 rfl) ?_
  refine lv_iconst (v := 1) hx hb dL_law_1422 (by decide) ?_
  refine lv_iadd hx hb dL_law_1423 ?_
  refine va_sld hx hb hX hbl (Nat.not_le.mpr hbl) hS hi dL_law_1424 ?_
  refine k_name ha ?_
  obtain ⟨v2, hv2, hf⟩ := k_B hf
  refine k_callHV (As := [.int a]) (rest := []) (r := (RX8, TX8, 21)) (ci := 5) (q0 := 15) (isC := [15, 16, 17, 18, 19, 20, 21, 22, 23, 24]) (isR := [0, 1, 2, 3, 4, 5, 6, 7, 8, 9, 10, 11, 12, 13, 14, 25]) (perm := [0, 1, 2, 3, 4, 5, 6, 7, 8, 9, 10, 11, 12, 13, 14, 16, 17, 18, 19, 20, 21, 22, 23, 24, 25, 15]) (w' := ((wX7 cy h0 gma sna hia ka ora cha tra ena opa foa gm sn hs qs k0 k1 k2 k3 v1.2.1 v1.2.2.1 tr es op fo has) ++ ((wX8 cy mo sa pa kb aa oa wa ca ta na mOp mIk mPa mRu v2.2.1 v2.2.2.1 mSp mFr mRe mCa mOr mLe rS rP rK rA rO rW rC v2.2.2.2 rN) ++ [wL cy ua v1.2.2.2]))) ⟨hx, hb, hml, hown, hts⟩ (c_X8_type l D cy mo sa pa kb aa oa wa ca ta na mOp mIk mPa mRu mLa mTy mSp mFr mRe mCa mOr mLe rS rP rK rA rO rW rC rT rN a v2 hv2) (cwV 1 hts gL_law_X8_type rfl rfl rfl hd_X8_type ⟨Nat.le_of_ble_eq_true rfl, Nat.le_of_ble_eq_true rfl⟩) hK hN hP hD hS hA rfl rfl rfl rfl rfl rfl (by decide) rfl rfl rfl hl.1 rfl (Nat.le_of_ble_eq_true rfl) dL_law_1425 ⟨hc, hsl⟩ (fun H locs hP hD hS => ?_)
  refine lv_istore (lv' := [(6, .int v2.1), (5, .int v1.1), (4, .int i), (3, .ref ua), (2, .ref mo), (1, .ref h0), (0, .ref b)]) hx hb dL_law_1428 hl (by decide) rfl (fun ls hl => ?_)
  refine lv_aload_n hx hb dL_law_1430 rfl (lv_at hl 4 rfl) ?_
  obtain ⟨v3, hv3, hf⟩ := k_B hf
  refine k_callHV (As := []) (rest := []) (r := (RX8, TX8, 21)) (ci := 5) (q0 := 15) (isC := [15, 16, 17, 18, 19, 20, 21, 22, 23, 24]) (isR := [0, 1, 2, 3, 4, 5, 6, 7, 8, 9, 10, 11, 12, 13, 14, 25]) (perm := [0, 1, 2, 3, 4, 5, 6, 7, 8, 9, 10, 11, 12, 13, 14, 16, 17, 18, 19, 20, 21, 22, 23, 24, 25, 15]) (w' := ((wX7 cy h0 gma sna hia ka ora cha tra ena opa foa gm sn hs qs k0 k1 k2 k3 v1.2.1 v1.2.2.1 tr es op fo has) ++ ((wX8 cy mo sa pa kb aa oa wa ca ta na mOp mIk mPa mRu v2.2.1 v2.2.2.1 mSp mFr mRe mCa mOr mLe rS rP rK rA rO rW rC v2.2.2.2 rN) ++ [wL cy ua v1.2.2.2]))) ⟨hx, hb, hml, hown, hts⟩ (c_X8_thrown l D cy mo sa pa kb aa oa wa ca ta na mOp mIk mPa mRu v2.2.1 v2.2.2.1 mSp mFr mRe mCa mOr mLe rS rP rK rA rO rW rC v2.2.2.2 rN  v3 hv3) (cwV 0 hts gL_law_X8_thrown rfl rfl rfl hd_X8_thrown ⟨Nat.le_of_ble_eq_true rfl, Nat.le_of_ble_eq_true rfl⟩) hK hN hP hD hS hA rfl rfl rfl rfl rfl rfl (by decide) rfl rfl rfl hl.1 rfl (Nat.le_of_ble_eq_true rfl) dL_law_1431 ⟨hc, hsl⟩ (fun H locs hP hD hS => ?_)
  refine lv_iload hx hb dL_law_1434 (lv_at hl 1 rfl) ?_
  refine lv_icmp_eq (tgt := 1441) hx hb dL_law_1436 (by decide) (fun c4 => ?_) (fun c4 => ?_)
  · have hf := k_T c4 hf
    refine lv_iload hx hb dL_law_1441 (lv_at hl 1 rfl) ?_
    refine lv_if_ne (tgt := 1458) hx hb dL_law_1443 (by decide) (fun c5 => ?_) (fun c5 => ?_)
    · have hf := k_F c5 hf
      refine lv_goto (tgt := 1650) hx hb dL_law_1458 (by decide) ?_
      obtain rfl := k_some hf
      exact kk ls H locs (lv_sub hl [2, 3, 4, 5, 6] rfl) hP hD hS
    · have hf := k_T c5 hf
      refine lv_aload_n hx hb dL_law_1446 rfl (lv_at hl 3 rfl) ?_
      refine lv_iconst (v := 0) hx hb dL_law_1447 (by decide) ?_
      refine va_lald hx hb hK hP 25 3 rfl rfl (k_in (i := 0) (n := 1) (by decide +kernel)) dL_law_1448 ?_
      refine k_nameJ (v := v1.2.2.2 0) rfl ?_
      refine lv_iload hx hb dL_law_1449 (lv_at hl 0 rfl) ?_
      refine lv_i2l hx hb dL_law_1451 rfl ?_
      refine W.lcmp hx hb dL_law_1452 ?_
      refine lv_if_eq (tgt := 1458) hx hb dL_law_1453 (by decide) (fun c6 => ?_) (fun c6 => ?_)
      · have hf := k_T c6 hf
        refine lv_goto (tgt := 1650) hx hb dL_law_1458 (by decide) ?_
        obtain rfl := k_some hf
        exact kk ls H locs (lv_sub hl [2, 3, 4, 5, 6] rfl) hP hD hS
      · have hf := k_F c6 hf
        refine lv_iconst (v := 0) hx hb dL_law_1456 (by decide) ?_
        cases hf
  · have hf := k_F c4 hf
    refine lv_iconst (v := 0) hx hb dL_law_1439 (by decide) ?_
    cases hf
def f_case36 (a : Int32) (o : k_O5) (mLa : Int32) (mTy : Int32) : Option (k_O5 × Int32 × Int32) :=
  (f_X7_clearText o).bind fun v1 =>
  (f_X8_clearText mLa mTy).bind fun v2 =>
  if v1.1 = v2.1 then
    some (v1.2, v2.2.1, v2.2.2)
  else
    none
set_option maxHeartbeats 4000000 in
set_option maxRecDepth 100000 in
theorem c_case36 (l : Launch) (hl9 : l.stackTraces = false) {p : Program} {e : Env} {s : State} {m : MethodId} {below : List Frame} {meth : Method} {c : Code} {b L : Nat} {xs : Nat → Int32} {D : va_G} {cy : Nat → ClassId} (C : k_LC p s m c b L xs D cy) (Q : State → Prop) (h0 gma sna hia ka ora cha tra ena opa foa mo sa pa kb aa oa wa ca ta na ua : Nat) (gm : k_G8) (sn : k_G8) (hs : Int32) (qs : k_Q4) (k0 : k_G8) (k1 : k_G8) (k2 : k_G8) (k3 : k_G8) (ch : Nat → Int32) (o : k_O5) (tr : k_G8) (es : Int32) (op : Nat → Int32) (fo : Nat → Int32) (has : Int32) (mOp : Int32) (mIk : Int32) (mPa : Int32) (mRu : Int32) (mLa : Int32) (mTy : Int32) (mSp : Int32) (mFr : Int32) (mRe : Int32) (mCa : Int32) (mOr : Int32) (mLe : Int32) (rS : Nat → Int32) (rP : Nat → Int32) (rK : Nat → Int32) (rA : Nat → Int32) (rO : Nat → Int32) (rW : Nat → Int32) (rC : Nat → Int32) (rT : Nat → Int32) (rN : Nat → Int32) (out : Nat → Int64) (i a : Int32) (hi : vp_in (i + 1) L) (ha : a = xs (i + 1).toNatClampNeg) (r : k_O5 × Int32 × Int32) (hf : f_case36 a o mLa mTy = some r) (cells slots : Nat) (hc : cells + 1 ≤ room_1.cells) (hsl : slots + 6 ≤ room_1.slots) (ls : Array Slot) (H : Heap) (locs : List Loc) (hl : lv_has ls 9 [(4, .int i), (3, .ref ua), (2, .ref mo), (1, .ref h0), (0, .ref b)]) (hP : va_P D vwCl ((wX7 cy h0 gma sna hia ka ora cha tra ena opa foa gm sn hs qs k0 k1 k2 k3 ch o tr es op fo has) ++ ((wX8 cy mo sa pa kb aa oa wa ca ta na mOp mIk mPa mRu mLa mTy mSp mFr mRe mCa mOr mLe rS rP rK rA rO rW rC rT rN) ++ [wL cy ua out])) H) (hD : va_D (k_A s) ((wX7 cy h0 gma sna hia ka ora cha tra ena opa foa gm sn hs qs k0 k1 k2 k3 ch o tr es op fo has) ++ ((wX8 cy mo sa pa kb aa oa wa ca ta na mOp mIk mPa mRu mLa mTy mSp mFr mRe mCa mOr mLe rS rP rK rA rO rW rC rT rN) ++ [wL cy ua out]))) (hS : va_S (k_A s) s.heap H locs) (kk : ∀ (ls : Array Slot) (H : Heap) (locs : List Loc), lv_has ls 9 [(4, .int i), (3, .ref ua), (2, .ref mo), (1, .ref h0), (0, .ref b)] → va_P D vwCl ((wX7 cy h0 gma sna hia ka ora cha tra ena opa foa gm sn hs qs k0 k1 k2 k3 ch r.1 tr es op fo has) ++ ((wX8 cy mo sa pa kb aa oa wa ca ta na mOp mIk mPa mRu r.2.1 r.2.2 mSp mFr mRe mCa mOr mLe rS rP rK rA rO rW rC rT rN) ++ [wL cy ua out])) H → va_D (k_A s) ((wX7 cy h0 gma sna hia ka ora cha tra ena opa foa gm sn hs qs k0 k1 k2 k3 ch r.1 tr es op fo has) ++ ((wX8 cy mo sa pa kb aa oa wa ca ta na mOp mIk mPa mRu r.2.1 r.2.2 mSp mFr mRe mCa mOr mLe rS rP rK rA rO rW rC rT rN) ++ [wL cy ua out])) → va_S (k_A s) s.heap H locs → W p l e room_1 s m #[Value.ref b] below meth c H locs (cells + 1) (slots + 6) Q (F0 m 1650 ls [])) : W p l e room_1 s m #[Value.ref b] below meth c H locs cells slots Q (F0 m 1461 ls []) := by
  obtain ⟨hx, hb, hml, hown, hts, hX, hbl, hK, hN, hT, hZ, hCx⟩ := C
  have hA : ∀ q : Nat, s.heap.size ≤ q → k_A s q := fun _ h9 => h9
  unfold f_case36 at hf
  refine lv_aload_n hx hb dL_law_1461 rfl (lv_at hl 3 rfl) ?_
  obtain ⟨v1, hv1, hf⟩ := k_B hf
  refine k_callHV (As := []) (rest := []) (r := (RX7, TX7, 6)) (ci := 4) (q0 := 0) (isC := [0, 1, 2, 3, 4, 5, 6, 7, 8, 9, 10, 11, 12, 13, 14]) (isR := [15, 16, 17, 18, 19, 20, 21, 22, 23, 24, 25]) (perm := [11, 12, 13, 14, 15, 16, 17, 18, 19, 20, 21, 22, 23, 24, 25, 0, 1, 2, 3, 4, 5, 6, 7, 8, 9, 10]) (w' := ((wX7 cy h0 gma sna hia ka ora cha tra ena opa foa gm sn hs qs k0 k1 k2 k3 ch v1.2 tr es op fo has) ++ ((wX8 cy mo sa pa kb aa oa wa ca ta na mOp mIk mPa mRu mLa mTy mSp mFr mRe mCa mOr mLe rS rP rK rA rO rW rC rT rN) ++ [wL cy ua out]))) ⟨hx, hb, hml, hown, hts⟩ (c_X7_clearText l D cy h0 gma sna hia ka ora cha tra ena opa foa gm sn hs qs k0 k1 k2 k3 ch o tr es op fo has  v1 hv1) (cwV 0 hts gL_law_X7_clearText rfl rfl rfl hd_X7_clearText ⟨Nat.le_of_ble_eq_true rfl, Nat.le_of_ble_eq_true rfl⟩) hK hN hP hD hS hA rfl rfl rfl rfl rfl rfl (by decide) rfl rfl rfl hl.1 rfl (Nat.le_of_ble_eq_true rfl) dL_law_1462 ⟨Nat.le_of_succ_le hc, k_le6 hsl⟩ (fun H locs hP hD hS => ?_)
  refine lv_aload_n hx hb dL_law_1465 rfl (lv_at hl 2 rfl) ?_
  obtain ⟨v2, hv2, hf⟩ := k_B hf
  refine k_callHV (As := []) (rest := [.int v1.1]) (r := (RX8, TX8, 21)) (ci := 5) (q0 := 15) (isC := [15, 16, 17, 18, 19, 20, 21, 22, 23, 24]) (isR := [0, 1, 2, 3, 4, 5, 6, 7, 8, 9, 10, 11, 12, 13, 14, 25]) (perm := [0, 1, 2, 3, 4, 5, 6, 7, 8, 9, 10, 11, 12, 13, 14, 16, 17, 18, 19, 20, 21, 22, 23, 24, 25, 15]) (w' := ((wX7 cy h0 gma sna hia ka ora cha tra ena opa foa gm sn hs qs k0 k1 k2 k3 ch v1.2 tr es op fo has) ++ ((wX8 cy mo sa pa kb aa oa wa ca ta na mOp mIk mPa mRu v2.2.1 v2.2.2 mSp mFr mRe mCa mOr mLe rS rP rK rA rO rW rC rT rN) ++ [wL cy ua out]))) ⟨hx, hb, hml, hown, hts⟩ (c_X8_clearText l D cy mo sa pa kb aa oa wa ca ta na mOp mIk mPa mRu mLa mTy mSp mFr mRe mCa mOr mLe rS rP rK rA rO rW rC rT rN  v2 hv2) (cwV 0 hts gL_law_X8_clearText rfl rfl rfl hd_X8_clearText ⟨Nat.le_of_ble_eq_true rfl, Nat.le_of_ble_eq_true rfl⟩) hK hN hP hD hS hA rfl rfl rfl rfl rfl rfl (by decide) rfl rfl rfl hl.1 rfl (Nat.le_of_ble_eq_true rfl) dL_law_1466 ⟨Nat.le_of_succ_le hc, k_le6 hsl⟩ (fun H locs hP hD hS => ?_)
  refine lv_icmp_eq (tgt := 1650) hx hb dL_law_1469 (by decide) (fun c3 => ?_) (fun c3 => ?_)
  · have hf := k_T c3 hf
    obtain rfl := k_some hf
    refine W.widen (Nat.le_succ _) (Nat.le_add_right _ 6) ?_
    exact kk ls H locs (lv_sub hl [0, 1, 2, 3, 4] rfl) hP hD hS
  · have hf := k_F c3 hf
    refine lv_iconst (v := 0) hx hb dL_law_1472 (by decide) ?_
    cases hf
def f_case37 (a : Int32) (gm : k_G8) (ch : Nat → Int32) (o : k_O5) (tr : k_G8) (mPa : Int32) (mRu : Int32) (mLa : Int32) (mTy : Int32) (mSp : Int32) (mFr : Int32) (mRe : Int32) (mCa : Int32) (mOr : Int32) (mLe : Int32) (rS : Nat → Int32) (rP : Nat → Int32) (rA : Nat → Int32) (rT : Nat → Int32) (rN : Nat → Int32) (out : Nat → Int64) : Option (k_O5 × k_G8 × Int32 × Int32 × Int32 × Int32 × Int32 × Int32 × Int32 × Int32 × Int32 × (Nat → Int32) × (Nat → Int32) × (Nat → Int32) × (Nat → Int32) × (Nat → Int64)) :=
  (f_L_faultPosition gm ch o tr out).bind fun v1 =>
  (f_X8_faultPosition mPa mRu mLa mTy mSp mFr mRe mCa mOr mLe rS rP rA rT rN).bind fun v2 =>
  (f_X8_thrown v2.2.2.2.1).bind fun v3 =>
  if v3 = v1.1 then
    if v1.1 = 0 then
      if (lg_cmp (v1.2.2.2 0) v2.1.toInt64) = 0 then
        some (v1.2.1, v1.2.2.1, v2.2.1, v2.2.2.1, v2.2.2.2.1, v2.2.2.2.2.1, v2.2.2.2.2.2.1, v2.2.2.2.2.2.2.1, v2.2.2.2.2.2.2.2.1, v2.2.2.2.2.2.2.2.2.1, v2.2.2.2.2.2.2.2.2.2.1, v2.2.2.2.2.2.2.2.2.2.2.1, v2.2.2.2.2.2.2.2.2.2.2.2.1, v2.2.2.2.2.2.2.2.2.2.2.2.2.1, v2.2.2.2.2.2.2.2.2.2.2.2.2.2, v1.2.2.2)
      else
        none
    else
      some (v1.2.1, v1.2.2.1, v2.2.1, v2.2.2.1, v2.2.2.2.1, v2.2.2.2.2.1, v2.2.2.2.2.2.1, v2.2.2.2.2.2.2.1, v2.2.2.2.2.2.2.2.1, v2.2.2.2.2.2.2.2.2.1, v2.2.2.2.2.2.2.2.2.2.1, v2.2.2.2.2.2.2.2.2.2.2.1, v2.2.2.2.2.2.2.2.2.2.2.2.1, v2.2.2.2.2.2.2.2.2.2.2.2.2.1, v2.2.2.2.2.2.2.2.2.2.2.2.2.2, v1.2.2.2)
  else
    none
set_option maxHeartbeats 4000000 in
set_option maxRecDepth 100000 in
theorem c_case37 (l : Launch) (hl9 : l.stackTraces = false) {p : Program} {e : Env} {s : State} {m : MethodId} {below : List Frame} {meth : Method} {c : Code} {b L : Nat} {xs : Nat → Int32} {D : va_G} {cy : Nat → ClassId} (C : k_LC p s m c b L xs D cy) (Q : State → Prop) (h0 gma sna hia ka ora cha tra ena opa foa mo sa pa kb aa oa wa ca ta na ua : Nat) (gm : k_G8) (sn : k_G8) (hs : Int32) (qs : k_Q4) (k0 : k_G8) (k1 : k_G8) (k2 : k_G8) (k3 : k_G8) (ch : Nat → Int32) (o : k_O5) (tr : k_G8) (es : Int32) (op : Nat → Int32) (fo : Nat → Int32) (has : Int32) (mOp : Int32) (mIk : Int32) (mPa : Int32) (mRu : Int32) (mLa : Int32) (mTy : Int32) (mSp : Int32) (mFr : Int32) (mRe : Int32) (mCa : Int32) (mOr : Int32) (mLe : Int32) (rS : Nat → Int32) (rP : Nat → Int32) (rK : Nat → Int32) (rA : Nat → Int32) (rO : Nat → Int32) (rW : Nat → Int32) (rC : Nat → Int32) (rT : Nat → Int32) (rN : Nat → Int32) (out : Nat → Int64) (i a : Int32) (hi : vp_in (i + 1) L) (ha : a = xs (i + 1).toNatClampNeg) (r : k_O5 × k_G8 × Int32 × Int32 × Int32 × Int32 × Int32 × Int32 × Int32 × Int32 × Int32 × (Nat → Int32) × (Nat → Int32) × (Nat → Int32) × (Nat → Int32) × (Nat → Int64)) (hf : f_case37 a gm ch o tr mPa mRu mLa mTy mSp mFr mRe mCa mOr mLe rS rP rA rT rN out = some r) (cells slots : Nat) (hc : cells + 1 ≤ room_1.cells) (hsl : slots + 6 ≤ room_1.slots) (ls : Array Slot) (H : Heap) (locs : List Loc) (hl : lv_has ls 9 [(4, .int i), (3, .ref ua), (2, .ref mo), (1, .ref h0), (0, .ref b)]) (hP : va_P D vwCl ((wX7 cy h0 gma sna hia ka ora cha tra ena opa foa gm sn hs qs k0 k1 k2 k3 ch o tr es op fo has) ++ ((wX8 cy mo sa pa kb aa oa wa ca ta na mOp mIk mPa mRu mLa mTy mSp mFr mRe mCa mOr mLe rS rP rK rA rO rW rC rT rN) ++ [wL cy ua out])) H) (hD : va_D (k_A s) ((wX7 cy h0 gma sna hia ka ora cha tra ena opa foa gm sn hs qs k0 k1 k2 k3 ch o tr es op fo has) ++ ((wX8 cy mo sa pa kb aa oa wa ca ta na mOp mIk mPa mRu mLa mTy mSp mFr mRe mCa mOr mLe rS rP rK rA rO rW rC rT rN) ++ [wL cy ua out]))) (hS : va_S (k_A s) s.heap H locs) (kk : ∀ (ls : Array Slot) (H : Heap) (locs : List Loc), lv_has ls 9 [(4, .int i), (3, .ref ua), (2, .ref mo), (1, .ref h0), (0, .ref b)] → va_P D vwCl ((wX7 cy h0 gma sna hia ka ora cha tra ena opa foa gm sn hs qs k0 k1 k2 k3 ch r.1 r.2.1 es op fo has) ++ ((wX8 cy mo sa pa kb aa oa wa ca ta na mOp mIk r.2.2.1 r.2.2.2.1 r.2.2.2.2.1 mTy r.2.2.2.2.2.1 r.2.2.2.2.2.2.1 r.2.2.2.2.2.2.2.1 r.2.2.2.2.2.2.2.2.1 r.2.2.2.2.2.2.2.2.2.1 r.2.2.2.2.2.2.2.2.2.2.1 r.2.2.2.2.2.2.2.2.2.2.2.1 r.2.2.2.2.2.2.2.2.2.2.2.2.1 rK r.2.2.2.2.2.2.2.2.2.2.2.2.2.1 rO rW rC rT r.2.2.2.2.2.2.2.2.2.2.2.2.2.2.1) ++ [wL cy ua r.2.2.2.2.2.2.2.2.2.2.2.2.2.2.2])) H → va_D (k_A s) ((wX7 cy h0 gma sna hia ka ora cha tra ena opa foa gm sn hs qs k0 k1 k2 k3 ch r.1 r.2.1 es op fo has) ++ ((wX8 cy mo sa pa kb aa oa wa ca ta na mOp mIk r.2.2.1 r.2.2.2.1 r.2.2.2.2.1 mTy r.2.2.2.2.2.1 r.2.2.2.2.2.2.1 r.2.2.2.2.2.2.2.1 r.2.2.2.2.2.2.2.2.1 r.2.2.2.2.2.2.2.2.2.1 r.2.2.2.2.2.2.2.2.2.2.1 r.2.2.2.2.2.2.2.2.2.2.2.1 r.2.2.2.2.2.2.2.2.2.2.2.2.1 rK r.2.2.2.2.2.2.2.2.2.2.2.2.2.1 rO rW rC rT r.2.2.2.2.2.2.2.2.2.2.2.2.2.2.1) ++ [wL cy ua r.2.2.2.2.2.2.2.2.2.2.2.2.2.2.2])) → va_S (k_A s) s.heap H locs → W p l e room_1 s m #[Value.ref b] below meth c H locs (cells + 1) (slots + 6) Q (F0 m 1650 ls [])) : W p l e room_1 s m #[Value.ref b] below meth c H locs cells slots Q (F0 m 1474 ls []) := by
  obtain ⟨hx, hb, hml, hown, hts, hX, hbl, hK, hN, hT, hZ, hCx⟩ := C
  have hA : ∀ q : Nat, s.heap.size ≤ q → k_A s q := fun _ h9 => h9
  unfold f_case37 at hf
  refine lv_aload_n hx hb dL_law_1474 rfl (lv_at hl 3 rfl) ?_
  refine lv_aload_n hx hb dL_law_1475 rfl (lv_at hl 1 rfl) ?_
  obtain ⟨v1, hv1, hf⟩ := k_B hf
  refine k_callLS (As := [.ref h0, .ref ua]) (rest := []) (isC := [0, 1, 2, 3, 4, 5, 6, 7, 8, 9, 10, 11, 12, 13, 14, 25]) (isR := [15, 16, 17, 18, 19, 20, 21, 22, 23, 24]) (perm := [10, 11, 12, 13, 14, 15, 16, 17, 18, 19, 20, 21, 22, 23, 24, 0, 1, 2, 3, 4, 5, 6, 7, 8, 9, 25]) (w' := ((wX7 cy h0 gma sna hia ka ora cha tra ena opa foa gm sn hs qs k0 k1 k2 k3 ch v1.2.1 v1.2.2.1 es op fo has) ++ ((wX8 cy mo sa pa kb aa oa wa ca ta na mOp mIk mPa mRu mLa mTy mSp mFr mRe mCa mOr mLe rS rP rK rA rO rW rC rT rN) ++ [wL cy ua v1.2.2.2]))) ⟨hx, hb, hml, hown, hts⟩ (c_L_faultPosition l hl9 D cy h0 gma sna hia ka ora cha tra ena opa foa ua gm sn hs qs k0 k1 k2 k3 ch o tr es op fo has out  v1 hv1) (vx_cwSW 2 hts gL_law_L_faultPosition rfl rfl rfl hd_L_faultPosition ⟨Nat.le_of_ble_eq_true rfl, Nat.le_of_ble_eq_true rfl⟩) hK hN hT hZ hCx hP hD hS (fun _ h9 => h9) rfl rfl rfl (by decide) (by decide) rfl (by decide) rfl hl.1 rfl (Nat.le_of_ble_eq_true rfl) dL_law_1476 ⟨hc, hsl⟩ (fun H locs hP hD hS => ?_)
  refine lv_istore (lv' := [(5, .int v1.1), (4, .int i), (3, .ref ua), (2, .ref mo), (1, .ref h0), (0, .ref b)]) hx hb dL_law_1479 hl (by decide) rfl (fun ls hl => ?_)
  refine lv_aload_n hx hb dL_law_1481 rfl (lv_at hl 3 rfl) ?_
  obtain ⟨v2, hv2, hf⟩ := k_B hf
  refine k_callHV (As := []) (rest := []) (r := (RX8, TX8, 21)) (ci := 5) (q0 := 15) (isC := [15, 16, 17, 18, 19, 20, 21, 22, 23, 24]) (isR := [0, 1, 2, 3, 4, 5, 6, 7, 8, 9, 10, 11, 12, 13, 14, 25]) (perm := [0, 1, 2, 3, 4, 5, 6, 7, 8, 9, 10, 11, 12, 13, 14, 16, 17, 18, 19, 20, 21, 22, 23, 24, 25, 15]) (w' := ((wX7 cy h0 gma sna hia ka ora cha tra ena opa foa gm sn hs qs k0 k1 k2 k3 ch v1.2.1 v1.2.2.1 es op fo has) ++ ((wX8 cy mo sa pa kb aa oa wa ca ta na mOp mIk v2.2.1 v2.2.2.1 v2.2.2.2.1 mTy v2.2.2.2.2.1 v2.2.2.2.2.2.1 v2.2.2.2.2.2.2.1 v2.2.2.2.2.2.2.2.1 v2.2.2.2.2.2.2.2.2.1 v2.2.2.2.2.2.2.2.2.2.1 v2.2.2.2.2.2.2.2.2.2.2.1 v2.2.2.2.2.2.2.2.2.2.2.2.1 rK v2.2.2.2.2.2.2.2.2.2.2.2.2.1 rO rW rC rT v2.2.2.2.2.2.2.2.2.2.2.2.2.2) ++ [wL cy ua v1.2.2.2]))) ⟨hx, hb, hml, hown, hts⟩ (c_X8_faultPosition l D cy mo sa pa kb aa oa wa ca ta na mOp mIk mPa mRu mLa mTy mSp mFr mRe mCa mOr mLe rS rP rK rA rO rW rC rT rN  v2 hv2) (cwV 0 hts gL_law_X8_faultPosition rfl rfl rfl hd_X8_faultPosition ⟨Nat.le_of_ble_eq_true rfl, Nat.le_of_ble_eq_true rfl⟩) hK hN hP hD hS hA rfl rfl rfl rfl rfl rfl (by decide) rfl rfl rfl hl.1 rfl (Nat.le_of_ble_eq_true rfl) dL_law_1482 ⟨hc, hsl⟩ (fun H locs hP hD hS => ?_)
  refine lv_istore (lv' := [(6, .int v2.1), (5, .int v1.1), (4, .int i), (3, .ref ua), (2, .ref mo), (1, .ref h0), (0, .ref b)]) hx hb dL_law_1485 hl (by decide) rfl (fun ls hl => ?_)
  refine lv_aload_n hx hb dL_law_1487 rfl (lv_at hl 4 rfl) ?_
  obtain ⟨v3, hv3, hf⟩ := k_B hf
  refine k_callHV (As := []) (rest := []) (r := (RX8, TX8, 21)) (ci := 5) (q0 := 15) (isC := [15, 16, 17, 18, 19, 20, 21, 22, 23, 24]) (isR := [0, 1, 2, 3, 4, 5, 6, 7, 8, 9, 10, 11, 12, 13, 14, 25]) (perm := [0, 1, 2, 3, 4, 5, 6, 7, 8, 9, 10, 11, 12, 13, 14, 16, 17, 18, 19, 20, 21, 22, 23, 24, 25, 15]) (w' := ((wX7 cy h0 gma sna hia ka ora cha tra ena opa foa gm sn hs qs k0 k1 k2 k3 ch v1.2.1 v1.2.2.1 es op fo has) ++ ((wX8 cy mo sa pa kb aa oa wa ca ta na mOp mIk v2.2.1 v2.2.2.1 v2.2.2.2.1 mTy v2.2.2.2.2.1 v2.2.2.2.2.2.1 v2.2.2.2.2.2.2.1 v2.2.2.2.2.2.2.2.1 v2.2.2.2.2.2.2.2.2.1 v2.2.2.2.2.2.2.2.2.2.1 v2.2.2.2.2.2.2.2.2.2.2.1 v2.2.2.2.2.2.2.2.2.2.2.2.1 rK v2.2.2.2.2.2.2.2.2.2.2.2.2.1 rO rW rC rT v2.2.2.2.2.2.2.2.2.2.2.2.2.2) ++ [wL cy ua v1.2.2.2]))) ⟨hx, hb, hml, hown, hts⟩ (c_X8_thrown l D cy mo sa pa kb aa oa wa ca ta na mOp mIk v2.2.1 v2.2.2.1 v2.2.2.2.1 mTy v2.2.2.2.2.1 v2.2.2.2.2.2.1 v2.2.2.2.2.2.2.1 v2.2.2.2.2.2.2.2.1 v2.2.2.2.2.2.2.2.2.1 v2.2.2.2.2.2.2.2.2.2.1 v2.2.2.2.2.2.2.2.2.2.2.1 v2.2.2.2.2.2.2.2.2.2.2.2.1 rK v2.2.2.2.2.2.2.2.2.2.2.2.2.1 rO rW rC rT v2.2.2.2.2.2.2.2.2.2.2.2.2.2  v3 hv3) (cwV 0 hts gL_law_X8_thrown rfl rfl rfl hd_X8_thrown ⟨Nat.le_of_ble_eq_true rfl, Nat.le_of_ble_eq_true rfl⟩) hK hN hP hD hS hA rfl rfl rfl rfl rfl rfl (by decide) rfl rfl rfl hl.1 rfl (Nat.le_of_ble_eq_true rfl) dL_law_1488 ⟨hc, hsl⟩ (fun H locs hP hD hS => ?_)
  refine lv_iload hx hb dL_law_1491 (lv_at hl 1 rfl) ?_
  refine lv_icmp_eq (tgt := 1498) hx hb dL_law_1493 (by decide) (fun c4 => ?_) (fun c4 => ?_)
  · have hf := k_T c4 hf
    refine lv_iload hx hb dL_law_1498 (lv_at hl 1 rfl) ?_
    refine lv_if_ne (tgt := 1515) hx hb dL_law_1500 (by decide) (fun c5 => ?_) (fun c5 => ?_)
    · have hf := k_F c5 hf
      refine lv_goto (tgt := 1650) hx hb dL_law_1515 (by decide) ?_
      obtain rfl := k_some hf
      exact kk ls H locs (lv_sub hl [2, 3, 4, 5, 6] rfl) hP hD hS
    · have hf := k_T c5 hf
      refine lv_aload_n hx hb dL_law_1503 rfl (lv_at hl 3 rfl) ?_
      refine lv_iconst (v := 0) hx hb dL_law_1504 (by decide) ?_
      refine va_lald hx hb hK hP 25 3 rfl rfl (k_in (i := 0) (n := 1) (by decide +kernel)) dL_law_1505 ?_
      refine k_nameJ (v := v1.2.2.2 0) rfl ?_
      refine lv_iload hx hb dL_law_1506 (lv_at hl 0 rfl) ?_
      refine lv_i2l hx hb dL_law_1508 rfl ?_
      refine W.lcmp hx hb dL_law_1509 ?_
      refine lv_if_eq (tgt := 1515) hx hb dL_law_1510 (by decide) (fun c6 => ?_) (fun c6 => ?_)
      · have hf := k_T c6 hf
        refine lv_goto (tgt := 1650) hx hb dL_law_1515 (by decide) ?_
        obtain rfl := k_some hf
        exact kk ls H locs (lv_sub hl [2, 3, 4, 5, 6] rfl) hP hD hS
      · have hf := k_F c6 hf
        refine lv_iconst (v := 0) hx hb dL_law_1513 (by decide) ?_
        cases hf
  · have hf := k_F c4 hf
    refine lv_iconst (v := 0) hx hb dL_law_1496 (by decide) ?_
    cases hf
def f_case38 (a : Int32) (gm : k_G8) (ch : Nat → Int32) (o : k_O5) (tr : k_G8) (mPa : Int32) (mRu : Int32) (mLa : Int32) (mTy : Int32) (mSp : Int32) (mFr : Int32) (mRe : Int32) (mCa : Int32) (mOr : Int32) (mLe : Int32) (rS : Nat → Int32) (rP : Nat → Int32) (rA : Nat → Int32) (rT : Nat → Int32) (rN : Nat → Int32) (out : Nat → Int64) : Option (k_O5 × k_G8 × Int32 × Int32 × Int32 × Int32 × Int32 × Int32 × Int32 × Int32 × Int32 × (Nat → Int32) × (Nat → Int32) × (Nat → Int32) × (Nat → Int32) × (Nat → Int64)) :=
  (f_L_faultReason gm ch o tr out).bind fun v1 =>
  (f_X8_faultReason mPa mRu mLa mTy mSp mFr mRe mCa mOr mLe rS rP rA rT rN).bind fun v2 =>
  (f_X8_thrown v2.2.2.2.1).bind fun v3 =>
  if v3 = v1.1 then
    if v1.1 = 0 then
      if (lg_cmp (v1.2.2.2 0) v2.1.toInt64) = 0 then
        some (v1.2.1, v1.2.2.1, v2.2.1, v2.2.2.1, v2.2.2.2.1, v2.2.2.2.2.1, v2.2.2.2.2.2.1, v2.2.2.2.2.2.2.1, v2.2.2.2.2.2.2.2.1, v2.2.2.2.2.2.2.2.2.1, v2.2.2.2.2.2.2.2.2.2.1, v2.2.2.2.2.2.2.2.2.2.2.1, v2.2.2.2.2.2.2.2.2.2.2.2.1, v2.2.2.2.2.2.2.2.2.2.2.2.2.1, v2.2.2.2.2.2.2.2.2.2.2.2.2.2, v1.2.2.2)
      else
        none
    else
      some (v1.2.1, v1.2.2.1, v2.2.1, v2.2.2.1, v2.2.2.2.1, v2.2.2.2.2.1, v2.2.2.2.2.2.1, v2.2.2.2.2.2.2.1, v2.2.2.2.2.2.2.2.1, v2.2.2.2.2.2.2.2.2.1, v2.2.2.2.2.2.2.2.2.2.1, v2.2.2.2.2.2.2.2.2.2.2.1, v2.2.2.2.2.2.2.2.2.2.2.2.1, v2.2.2.2.2.2.2.2.2.2.2.2.2.1, v2.2.2.2.2.2.2.2.2.2.2.2.2.2, v1.2.2.2)
  else
    none
set_option maxHeartbeats 4000000 in
set_option maxRecDepth 100000 in
theorem c_case38 (l : Launch) (hl9 : l.stackTraces = false) {p : Program} {e : Env} {s : State} {m : MethodId} {below : List Frame} {meth : Method} {c : Code} {b L : Nat} {xs : Nat → Int32} {D : va_G} {cy : Nat → ClassId} (C : k_LC p s m c b L xs D cy) (Q : State → Prop) (h0 gma sna hia ka ora cha tra ena opa foa mo sa pa kb aa oa wa ca ta na ua : Nat) (gm : k_G8) (sn : k_G8) (hs : Int32) (qs : k_Q4) (k0 : k_G8) (k1 : k_G8) (k2 : k_G8) (k3 : k_G8) (ch : Nat → Int32) (o : k_O5) (tr : k_G8) (es : Int32) (op : Nat → Int32) (fo : Nat → Int32) (has : Int32) (mOp : Int32) (mIk : Int32) (mPa : Int32) (mRu : Int32) (mLa : Int32) (mTy : Int32) (mSp : Int32) (mFr : Int32) (mRe : Int32) (mCa : Int32) (mOr : Int32) (mLe : Int32) (rS : Nat → Int32) (rP : Nat → Int32) (rK : Nat → Int32) (rA : Nat → Int32) (rO : Nat → Int32) (rW : Nat → Int32) (rC : Nat → Int32) (rT : Nat → Int32) (rN : Nat → Int32) (out : Nat → Int64) (i a : Int32) (hi : vp_in (i + 1) L) (ha : a = xs (i + 1).toNatClampNeg) (r : k_O5 × k_G8 × Int32 × Int32 × Int32 × Int32 × Int32 × Int32 × Int32 × Int32 × Int32 × (Nat → Int32) × (Nat → Int32) × (Nat → Int32) × (Nat → Int32) × (Nat → Int64)) (hf : f_case38 a gm ch o tr mPa mRu mLa mTy mSp mFr mRe mCa mOr mLe rS rP rA rT rN out = some r) (cells slots : Nat) (hc : cells + 1 ≤ room_1.cells) (hsl : slots + 6 ≤ room_1.slots) (ls : Array Slot) (H : Heap) (locs : List Loc) (hl : lv_has ls 9 [(4, .int i), (3, .ref ua), (2, .ref mo), (1, .ref h0), (0, .ref b)]) (hP : va_P D vwCl ((wX7 cy h0 gma sna hia ka ora cha tra ena opa foa gm sn hs qs k0 k1 k2 k3 ch o tr es op fo has) ++ ((wX8 cy mo sa pa kb aa oa wa ca ta na mOp mIk mPa mRu mLa mTy mSp mFr mRe mCa mOr mLe rS rP rK rA rO rW rC rT rN) ++ [wL cy ua out])) H) (hD : va_D (k_A s) ((wX7 cy h0 gma sna hia ka ora cha tra ena opa foa gm sn hs qs k0 k1 k2 k3 ch o tr es op fo has) ++ ((wX8 cy mo sa pa kb aa oa wa ca ta na mOp mIk mPa mRu mLa mTy mSp mFr mRe mCa mOr mLe rS rP rK rA rO rW rC rT rN) ++ [wL cy ua out]))) (hS : va_S (k_A s) s.heap H locs) (kk : ∀ (ls : Array Slot) (H : Heap) (locs : List Loc), lv_has ls 9 [(4, .int i), (3, .ref ua), (2, .ref mo), (1, .ref h0), (0, .ref b)] → va_P D vwCl ((wX7 cy h0 gma sna hia ka ora cha tra ena opa foa gm sn hs qs k0 k1 k2 k3 ch r.1 r.2.1 es op fo has) ++ ((wX8 cy mo sa pa kb aa oa wa ca ta na mOp mIk r.2.2.1 r.2.2.2.1 r.2.2.2.2.1 mTy r.2.2.2.2.2.1 r.2.2.2.2.2.2.1 r.2.2.2.2.2.2.2.1 r.2.2.2.2.2.2.2.2.1 r.2.2.2.2.2.2.2.2.2.1 r.2.2.2.2.2.2.2.2.2.2.1 r.2.2.2.2.2.2.2.2.2.2.2.1 r.2.2.2.2.2.2.2.2.2.2.2.2.1 rK r.2.2.2.2.2.2.2.2.2.2.2.2.2.1 rO rW rC rT r.2.2.2.2.2.2.2.2.2.2.2.2.2.2.1) ++ [wL cy ua r.2.2.2.2.2.2.2.2.2.2.2.2.2.2.2])) H → va_D (k_A s) ((wX7 cy h0 gma sna hia ka ora cha tra ena opa foa gm sn hs qs k0 k1 k2 k3 ch r.1 r.2.1 es op fo has) ++ ((wX8 cy mo sa pa kb aa oa wa ca ta na mOp mIk r.2.2.1 r.2.2.2.1 r.2.2.2.2.1 mTy r.2.2.2.2.2.1 r.2.2.2.2.2.2.1 r.2.2.2.2.2.2.2.1 r.2.2.2.2.2.2.2.2.1 r.2.2.2.2.2.2.2.2.2.1 r.2.2.2.2.2.2.2.2.2.2.1 r.2.2.2.2.2.2.2.2.2.2.2.1 r.2.2.2.2.2.2.2.2.2.2.2.2.1 rK r.2.2.2.2.2.2.2.2.2.2.2.2.2.1 rO rW rC rT r.2.2.2.2.2.2.2.2.2.2.2.2.2.2.1) ++ [wL cy ua r.2.2.2.2.2.2.2.2.2.2.2.2.2.2.2])) → va_S (k_A s) s.heap H locs → W p l e room_1 s m #[Value.ref b] below meth c H locs (cells + 1) (slots + 6) Q (F0 m 1650 ls [])) : W p l e room_1 s m #[Value.ref b] below meth c H locs cells slots Q (F0 m 1518 ls []) := by
  obtain ⟨hx, hb, hml, hown, hts, hX, hbl, hK, hN, hT, hZ, hCx⟩ := C
  have hA : ∀ q : Nat, s.heap.size ≤ q → k_A s q := fun _ h9 => h9
  unfold f_case38 at hf
  refine lv_aload_n hx hb dL_law_1518 rfl (lv_at hl 3 rfl) ?_
  refine lv_aload_n hx hb dL_law_1519 rfl (lv_at hl 1 rfl) ?_
  obtain ⟨v1, hv1, hf⟩ := k_B hf
  refine k_callLS (As := [.ref h0, .ref ua]) (rest := []) (isC := [0, 1, 2, 3, 4, 5, 6, 7, 8, 9, 10, 11, 12, 13, 14, 25]) (isR := [15, 16, 17, 18, 19, 20, 21, 22, 23, 24]) (perm := [10, 11, 12, 13, 14, 15, 16, 17, 18, 19, 20, 21, 22, 23, 24, 0, 1, 2, 3, 4, 5, 6, 7, 8, 9, 25]) (w' := ((wX7 cy h0 gma sna hia ka ora cha tra ena opa foa gm sn hs qs k0 k1 k2 k3 ch v1.2.1 v1.2.2.1 es op fo has) ++ ((wX8 cy mo sa pa kb aa oa wa ca ta na mOp mIk mPa mRu mLa mTy mSp mFr mRe mCa mOr mLe rS rP rK rA rO rW rC rT rN) ++ [wL cy ua v1.2.2.2]))) ⟨hx, hb, hml, hown, hts⟩ (c_L_faultReason l hl9 D cy h0 gma sna hia ka ora cha tra ena opa foa ua gm sn hs qs k0 k1 k2 k3 ch o tr es op fo has out  v1 hv1) (vx_cwSW 2 hts gL_law_L_faultReason rfl rfl rfl hd_L_faultReason ⟨Nat.le_of_ble_eq_true rfl, Nat.le_of_ble_eq_true rfl⟩) hK hN hT hZ hCx hP hD hS (fun _ h9 => h9) rfl rfl rfl (by decide) (by decide) rfl (by decide) rfl hl.1 rfl (Nat.le_of_ble_eq_true rfl) dL_law_1520 ⟨hc, hsl⟩ (fun H locs hP hD hS => ?_)
  refine lv_istore (lv' := [(5, .int v1.1), (4, .int i), (3, .ref ua), (2, .ref mo), (1, .ref h0), (0, .ref b)]) hx hb dL_law_1523 hl (by decide) rfl (fun ls hl => ?_)
  refine lv_aload_n hx hb dL_law_1525 rfl (lv_at hl 3 rfl) ?_
  obtain ⟨v2, hv2, hf⟩ := k_B hf
  refine k_callHV (As := []) (rest := []) (r := (RX8, TX8, 21)) (ci := 5) (q0 := 15) (isC := [15, 16, 17, 18, 19, 20, 21, 22, 23, 24]) (isR := [0, 1, 2, 3, 4, 5, 6, 7, 8, 9, 10, 11, 12, 13, 14, 25]) (perm := [0, 1, 2, 3, 4, 5, 6, 7, 8, 9, 10, 11, 12, 13, 14, 16, 17, 18, 19, 20, 21, 22, 23, 24, 25, 15]) (w' := ((wX7 cy h0 gma sna hia ka ora cha tra ena opa foa gm sn hs qs k0 k1 k2 k3 ch v1.2.1 v1.2.2.1 es op fo has) ++ ((wX8 cy mo sa pa kb aa oa wa ca ta na mOp mIk v2.2.1 v2.2.2.1 v2.2.2.2.1 mTy v2.2.2.2.2.1 v2.2.2.2.2.2.1 v2.2.2.2.2.2.2.1 v2.2.2.2.2.2.2.2.1 v2.2.2.2.2.2.2.2.2.1 v2.2.2.2.2.2.2.2.2.2.1 v2.2.2.2.2.2.2.2.2.2.2.1 v2.2.2.2.2.2.2.2.2.2.2.2.1 rK v2.2.2.2.2.2.2.2.2.2.2.2.2.1 rO rW rC rT v2.2.2.2.2.2.2.2.2.2.2.2.2.2) ++ [wL cy ua v1.2.2.2]))) ⟨hx, hb, hml, hown, hts⟩ (c_X8_faultReason l D cy mo sa pa kb aa oa wa ca ta na mOp mIk mPa mRu mLa mTy mSp mFr mRe mCa mOr mLe rS rP rK rA rO rW rC rT rN  v2 hv2) (cwV 0 hts gL_law_X8_faultReason rfl rfl rfl hd_X8_faultReason ⟨Nat.le_of_ble_eq_true rfl, Nat.le_of_ble_eq_true rfl⟩) hK hN hP hD hS hA rfl rfl rfl rfl rfl rfl (by decide) rfl rfl rfl hl.1 rfl (Nat.le_of_ble_eq_true rfl) dL_law_1526 ⟨hc, hsl⟩ (fun H locs hP hD hS => ?_)
  refine lv_istore (lv' := [(6, .int v2.1), (5, .int v1.1), (4, .int i), (3, .ref ua), (2, .ref mo), (1, .ref h0), (0, .ref b)]) hx hb dL_law_1529 hl (by decide) rfl (fun ls hl => ?_)
  refine lv_aload_n hx hb dL_law_1531 rfl (lv_at hl 4 rfl) ?_
  obtain ⟨v3, hv3, hf⟩ := k_B hf
  refine k_callHV (As := []) (rest := []) (r := (RX8, TX8, 21)) (ci := 5) (q0 := 15) (isC := [15, 16, 17, 18, 19, 20, 21, 22, 23, 24]) (isR := [0, 1, 2, 3, 4, 5, 6, 7, 8, 9, 10, 11, 12, 13, 14, 25]) (perm := [0, 1, 2, 3, 4, 5, 6, 7, 8, 9, 10, 11, 12, 13, 14, 16, 17, 18, 19, 20, 21, 22, 23, 24, 25, 15]) (w' := ((wX7 cy h0 gma sna hia ka ora cha tra ena opa foa gm sn hs qs k0 k1 k2 k3 ch v1.2.1 v1.2.2.1 es op fo has) ++ ((wX8 cy mo sa pa kb aa oa wa ca ta na mOp mIk v2.2.1 v2.2.2.1 v2.2.2.2.1 mTy v2.2.2.2.2.1 v2.2.2.2.2.2.1 v2.2.2.2.2.2.2.1 v2.2.2.2.2.2.2.2.1 v2.2.2.2.2.2.2.2.2.1 v2.2.2.2.2.2.2.2.2.2.1 v2.2.2.2.2.2.2.2.2.2.2.1 v2.2.2.2.2.2.2.2.2.2.2.2.1 rK v2.2.2.2.2.2.2.2.2.2.2.2.2.1 rO rW rC rT v2.2.2.2.2.2.2.2.2.2.2.2.2.2) ++ [wL cy ua v1.2.2.2]))) ⟨hx, hb, hml, hown, hts⟩ (c_X8_thrown l D cy mo sa pa kb aa oa wa ca ta na mOp mIk v2.2.1 v2.2.2.1 v2.2.2.2.1 mTy v2.2.2.2.2.1 v2.2.2.2.2.2.1 v2.2.2.2.2.2.2.1 v2.2.2.2.2.2.2.2.1 v2.2.2.2.2.2.2.2.2.1 v2.2.2.2.2.2.2.2.2.2.1 v2.2.2.2.2.2.2.2.2.2.2.1 v2.2.2.2.2.2.2.2.2.2.2.2.1 rK v2.2.2.2.2.2.2.2.2.2.2.2.2.1 rO rW rC rT v2.2.2.2.2.2.2.2.2.2.2.2.2.2  v3 hv3) (cwV 0 hts gL_law_X8_thrown rfl rfl rfl hd_X8_thrown ⟨Nat.le_of_ble_eq_true rfl, Nat.le_of_ble_eq_true rfl⟩) hK hN hP hD hS hA rfl rfl rfl rfl rfl rfl (by decide) rfl rfl rfl hl.1 rfl (Nat.le_of_ble_eq_true rfl) dL_law_1532 ⟨hc, hsl⟩ (fun H locs hP hD hS => ?_)
  refine lv_iload hx hb dL_law_1535 (lv_at hl 1 rfl) ?_
  refine lv_icmp_eq (tgt := 1542) hx hb dL_law_1537 (by decide) (fun c4 => ?_) (fun c4 => ?_)
  · have hf := k_T c4 hf
    refine lv_iload hx hb dL_law_1542 (lv_at hl 1 rfl) ?_
    refine lv_if_ne (tgt := 1559) hx hb dL_law_1544 (by decide) (fun c5 => ?_) (fun c5 => ?_)
    · have hf := k_F c5 hf
      refine lv_goto (tgt := 1650) hx hb dL_law_1559 (by decide) ?_
      obtain rfl := k_some hf
      exact kk ls H locs (lv_sub hl [2, 3, 4, 5, 6] rfl) hP hD hS
    · have hf := k_T c5 hf
      refine lv_aload_n hx hb dL_law_1547 rfl (lv_at hl 3 rfl) ?_
      refine lv_iconst (v := 0) hx hb dL_law_1548 (by decide) ?_
      refine va_lald hx hb hK hP 25 3 rfl rfl (k_in (i := 0) (n := 1) (by decide +kernel)) dL_law_1549 ?_
      refine k_nameJ (v := v1.2.2.2 0) rfl ?_
      refine lv_iload hx hb dL_law_1550 (lv_at hl 0 rfl) ?_
      refine lv_i2l hx hb dL_law_1552 rfl ?_
      refine W.lcmp hx hb dL_law_1553 ?_
      refine lv_if_eq (tgt := 1559) hx hb dL_law_1554 (by decide) (fun c6 => ?_) (fun c6 => ?_)
      · have hf := k_T c6 hf
        refine lv_goto (tgt := 1650) hx hb dL_law_1559 (by decide) ?_
        obtain rfl := k_some hf
        exact kk ls H locs (lv_sub hl [2, 3, 4, 5, 6] rfl) hP hD hS
      · have hf := k_F c6 hf
        refine lv_iconst (v := 0) hx hb dL_law_1557 (by decide) ?_
        cases hf
  · have hf := k_F c4 hf
    refine lv_iconst (v := 0) hx hb dL_law_1540 (by decide) ?_
    cases hf
def f_case39 (a : Int32) (gm : k_G8) (ch : Nat → Int32) (o : k_O5) (tr : k_G8) (mPa : Int32) (mRu : Int32) (mLa : Int32) (mTy : Int32) (mSp : Int32) (mFr : Int32) (mRe : Int32) (mCa : Int32) (mOr : Int32) (mLe : Int32) (rS : Nat → Int32) (rP : Nat → Int32) (rA : Nat → Int32) (rT : Nat → Int32) (rN : Nat → Int32) (out : Nat → Int64) : Option (k_O5 × k_G8 × Int32 × Int32 × Int32 × Int32 × Int32 × Int32 × Int32 × Int32 × Int32 × (Nat → Int32) × (Nat → Int32) × (Nat → Int32) × (Nat → Int32) × (Nat → Int64)) :=
  (f_L_faultCause gm ch o tr out).bind fun v1 =>
  (f_X8_faultCause mPa mRu mLa mTy mSp mFr mRe mCa mOr mLe rS rP rA rT rN).bind fun v2 =>
  (f_X8_thrown v2.2.2.2.1).bind fun v3 =>
  if v3 = v1.1 then
    if v1.1 = 0 then
      if (lg_cmp (v1.2.2.2 0) v2.1.toInt64) = 0 then
        some (v1.2.1, v1.2.2.1, v2.2.1, v2.2.2.1, v2.2.2.2.1, v2.2.2.2.2.1, v2.2.2.2.2.2.1, v2.2.2.2.2.2.2.1, v2.2.2.2.2.2.2.2.1, v2.2.2.2.2.2.2.2.2.1, v2.2.2.2.2.2.2.2.2.2.1, v2.2.2.2.2.2.2.2.2.2.2.1, v2.2.2.2.2.2.2.2.2.2.2.2.1, v2.2.2.2.2.2.2.2.2.2.2.2.2.1, v2.2.2.2.2.2.2.2.2.2.2.2.2.2, v1.2.2.2)
      else
        none
    else
      some (v1.2.1, v1.2.2.1, v2.2.1, v2.2.2.1, v2.2.2.2.1, v2.2.2.2.2.1, v2.2.2.2.2.2.1, v2.2.2.2.2.2.2.1, v2.2.2.2.2.2.2.2.1, v2.2.2.2.2.2.2.2.2.1, v2.2.2.2.2.2.2.2.2.2.1, v2.2.2.2.2.2.2.2.2.2.2.1, v2.2.2.2.2.2.2.2.2.2.2.2.1, v2.2.2.2.2.2.2.2.2.2.2.2.2.1, v2.2.2.2.2.2.2.2.2.2.2.2.2.2, v1.2.2.2)
  else
    none
set_option maxHeartbeats 4000000 in
set_option maxRecDepth 100000 in
theorem c_case39 (l : Launch) (hl9 : l.stackTraces = false) {p : Program} {e : Env} {s : State} {m : MethodId} {below : List Frame} {meth : Method} {c : Code} {b L : Nat} {xs : Nat → Int32} {D : va_G} {cy : Nat → ClassId} (C : k_LC p s m c b L xs D cy) (Q : State → Prop) (h0 gma sna hia ka ora cha tra ena opa foa mo sa pa kb aa oa wa ca ta na ua : Nat) (gm : k_G8) (sn : k_G8) (hs : Int32) (qs : k_Q4) (k0 : k_G8) (k1 : k_G8) (k2 : k_G8) (k3 : k_G8) (ch : Nat → Int32) (o : k_O5) (tr : k_G8) (es : Int32) (op : Nat → Int32) (fo : Nat → Int32) (has : Int32) (mOp : Int32) (mIk : Int32) (mPa : Int32) (mRu : Int32) (mLa : Int32) (mTy : Int32) (mSp : Int32) (mFr : Int32) (mRe : Int32) (mCa : Int32) (mOr : Int32) (mLe : Int32) (rS : Nat → Int32) (rP : Nat → Int32) (rK : Nat → Int32) (rA : Nat → Int32) (rO : Nat → Int32) (rW : Nat → Int32) (rC : Nat → Int32) (rT : Nat → Int32) (rN : Nat → Int32) (out : Nat → Int64) (i a : Int32) (hi : vp_in (i + 1) L) (ha : a = xs (i + 1).toNatClampNeg) (r : k_O5 × k_G8 × Int32 × Int32 × Int32 × Int32 × Int32 × Int32 × Int32 × Int32 × Int32 × (Nat → Int32) × (Nat → Int32) × (Nat → Int32) × (Nat → Int32) × (Nat → Int64)) (hf : f_case39 a gm ch o tr mPa mRu mLa mTy mSp mFr mRe mCa mOr mLe rS rP rA rT rN out = some r) (cells slots : Nat) (hc : cells + 1 ≤ room_1.cells) (hsl : slots + 6 ≤ room_1.slots) (ls : Array Slot) (H : Heap) (locs : List Loc) (hl : lv_has ls 9 [(4, .int i), (3, .ref ua), (2, .ref mo), (1, .ref h0), (0, .ref b)]) (hP : va_P D vwCl ((wX7 cy h0 gma sna hia ka ora cha tra ena opa foa gm sn hs qs k0 k1 k2 k3 ch o tr es op fo has) ++ ((wX8 cy mo sa pa kb aa oa wa ca ta na mOp mIk mPa mRu mLa mTy mSp mFr mRe mCa mOr mLe rS rP rK rA rO rW rC rT rN) ++ [wL cy ua out])) H) (hD : va_D (k_A s) ((wX7 cy h0 gma sna hia ka ora cha tra ena opa foa gm sn hs qs k0 k1 k2 k3 ch o tr es op fo has) ++ ((wX8 cy mo sa pa kb aa oa wa ca ta na mOp mIk mPa mRu mLa mTy mSp mFr mRe mCa mOr mLe rS rP rK rA rO rW rC rT rN) ++ [wL cy ua out]))) (hS : va_S (k_A s) s.heap H locs) (kk : ∀ (ls : Array Slot) (H : Heap) (locs : List Loc), lv_has ls 9 [(4, .int i), (3, .ref ua), (2, .ref mo), (1, .ref h0), (0, .ref b)] → va_P D vwCl ((wX7 cy h0 gma sna hia ka ora cha tra ena opa foa gm sn hs qs k0 k1 k2 k3 ch r.1 r.2.1 es op fo has) ++ ((wX8 cy mo sa pa kb aa oa wa ca ta na mOp mIk r.2.2.1 r.2.2.2.1 r.2.2.2.2.1 mTy r.2.2.2.2.2.1 r.2.2.2.2.2.2.1 r.2.2.2.2.2.2.2.1 r.2.2.2.2.2.2.2.2.1 r.2.2.2.2.2.2.2.2.2.1 r.2.2.2.2.2.2.2.2.2.2.1 r.2.2.2.2.2.2.2.2.2.2.2.1 r.2.2.2.2.2.2.2.2.2.2.2.2.1 rK r.2.2.2.2.2.2.2.2.2.2.2.2.2.1 rO rW rC rT r.2.2.2.2.2.2.2.2.2.2.2.2.2.2.1) ++ [wL cy ua r.2.2.2.2.2.2.2.2.2.2.2.2.2.2.2])) H → va_D (k_A s) ((wX7 cy h0 gma sna hia ka ora cha tra ena opa foa gm sn hs qs k0 k1 k2 k3 ch r.1 r.2.1 es op fo has) ++ ((wX8 cy mo sa pa kb aa oa wa ca ta na mOp mIk r.2.2.1 r.2.2.2.1 r.2.2.2.2.1 mTy r.2.2.2.2.2.1 r.2.2.2.2.2.2.1 r.2.2.2.2.2.2.2.1 r.2.2.2.2.2.2.2.2.1 r.2.2.2.2.2.2.2.2.2.1 r.2.2.2.2.2.2.2.2.2.2.1 r.2.2.2.2.2.2.2.2.2.2.2.1 r.2.2.2.2.2.2.2.2.2.2.2.2.1 rK r.2.2.2.2.2.2.2.2.2.2.2.2.2.1 rO rW rC rT r.2.2.2.2.2.2.2.2.2.2.2.2.2.2.1) ++ [wL cy ua r.2.2.2.2.2.2.2.2.2.2.2.2.2.2.2])) → va_S (k_A s) s.heap H locs → W p l e room_1 s m #[Value.ref b] below meth c H locs (cells + 1) (slots + 6) Q (F0 m 1650 ls [])) : W p l e room_1 s m #[Value.ref b] below meth c H locs cells slots Q (F0 m 1562 ls []) := by
  obtain ⟨hx, hb, hml, hown, hts, hX, hbl, hK, hN, hT, hZ, hCx⟩ := C
  have hA : ∀ q : Nat, s.heap.size ≤ q → k_A s q := fun _ h9 => h9
  unfold f_case39 at hf
  refine lv_aload_n hx hb dL_law_1562 rfl (lv_at hl 3 rfl) ?_
  refine lv_aload_n hx hb dL_law_1563 rfl (lv_at hl 1 rfl) ?_
  obtain ⟨v1, hv1, hf⟩ := k_B hf
  refine k_callLS (As := [.ref h0, .ref ua]) (rest := []) (isC := [0, 1, 2, 3, 4, 5, 6, 7, 8, 9, 10, 11, 12, 13, 14, 25]) (isR := [15, 16, 17, 18, 19, 20, 21, 22, 23, 24]) (perm := [10, 11, 12, 13, 14, 15, 16, 17, 18, 19, 20, 21, 22, 23, 24, 0, 1, 2, 3, 4, 5, 6, 7, 8, 9, 25]) (w' := ((wX7 cy h0 gma sna hia ka ora cha tra ena opa foa gm sn hs qs k0 k1 k2 k3 ch v1.2.1 v1.2.2.1 es op fo has) ++ ((wX8 cy mo sa pa kb aa oa wa ca ta na mOp mIk mPa mRu mLa mTy mSp mFr mRe mCa mOr mLe rS rP rK rA rO rW rC rT rN) ++ [wL cy ua v1.2.2.2]))) ⟨hx, hb, hml, hown, hts⟩ (c_L_faultCause l hl9 D cy h0 gma sna hia ka ora cha tra ena opa foa ua gm sn hs qs k0 k1 k2 k3 ch o tr es op fo has out  v1 hv1) (vx_cwSW 2 hts gL_law_L_faultCause rfl rfl rfl hd_L_faultCause ⟨Nat.le_of_ble_eq_true rfl, Nat.le_of_ble_eq_true rfl⟩) hK hN hT hZ hCx hP hD hS (fun _ h9 => h9) rfl rfl rfl (by decide) (by decide) rfl (by decide) rfl hl.1 rfl (Nat.le_of_ble_eq_true rfl) dL_law_1564 ⟨hc, hsl⟩ (fun H locs hP hD hS => ?_)
  refine lv_istore (lv' := [(5, .int v1.1), (4, .int i), (3, .ref ua), (2, .ref mo), (1, .ref h0), (0, .ref b)]) hx hb dL_law_1567 hl (by decide) rfl (fun ls hl => ?_)
  refine lv_aload_n hx hb dL_law_1569 rfl (lv_at hl 3 rfl) ?_
  obtain ⟨v2, hv2, hf⟩ := k_B hf
  refine k_callHV (As := []) (rest := []) (r := (RX8, TX8, 21)) (ci := 5) (q0 := 15) (isC := [15, 16, 17, 18, 19, 20, 21, 22, 23, 24]) (isR := [0, 1, 2, 3, 4, 5, 6, 7, 8, 9, 10, 11, 12, 13, 14, 25]) (perm := [0, 1, 2, 3, 4, 5, 6, 7, 8, 9, 10, 11, 12, 13, 14, 16, 17, 18, 19, 20, 21, 22, 23, 24, 25, 15]) (w' := ((wX7 cy h0 gma sna hia ka ora cha tra ena opa foa gm sn hs qs k0 k1 k2 k3 ch v1.2.1 v1.2.2.1 es op fo has) ++ ((wX8 cy mo sa pa kb aa oa wa ca ta na mOp mIk v2.2.1 v2.2.2.1 v2.2.2.2.1 mTy v2.2.2.2.2.1 v2.2.2.2.2.2.1 v2.2.2.2.2.2.2.1 v2.2.2.2.2.2.2.2.1 v2.2.2.2.2.2.2.2.2.1 v2.2.2.2.2.2.2.2.2.2.1 v2.2.2.2.2.2.2.2.2.2.2.1 v2.2.2.2.2.2.2.2.2.2.2.2.1 rK v2.2.2.2.2.2.2.2.2.2.2.2.2.1 rO rW rC rT v2.2.2.2.2.2.2.2.2.2.2.2.2.2) ++ [wL cy ua v1.2.2.2]))) ⟨hx, hb, hml, hown, hts⟩ (c_X8_faultCause l D cy mo sa pa kb aa oa wa ca ta na mOp mIk mPa mRu mLa mTy mSp mFr mRe mCa mOr mLe rS rP rK rA rO rW rC rT rN  v2 hv2) (cwV 0 hts gL_law_X8_faultCause rfl rfl rfl hd_X8_faultCause ⟨Nat.le_of_ble_eq_true rfl, Nat.le_of_ble_eq_true rfl⟩) hK hN hP hD hS hA rfl rfl rfl rfl rfl rfl (by decide) rfl rfl rfl hl.1 rfl (Nat.le_of_ble_eq_true rfl) dL_law_1570 ⟨hc, hsl⟩ (fun H locs hP hD hS => ?_)
  refine lv_istore (lv' := [(6, .int v2.1), (5, .int v1.1), (4, .int i), (3, .ref ua), (2, .ref mo), (1, .ref h0), (0, .ref b)]) hx hb dL_law_1573 hl (by decide) rfl (fun ls hl => ?_)
  refine lv_aload_n hx hb dL_law_1575 rfl (lv_at hl 4 rfl) ?_
  obtain ⟨v3, hv3, hf⟩ := k_B hf
  refine k_callHV (As := []) (rest := []) (r := (RX8, TX8, 21)) (ci := 5) (q0 := 15) (isC := [15, 16, 17, 18, 19, 20, 21, 22, 23, 24]) (isR := [0, 1, 2, 3, 4, 5, 6, 7, 8, 9, 10, 11, 12, 13, 14, 25]) (perm := [0, 1, 2, 3, 4, 5, 6, 7, 8, 9, 10, 11, 12, 13, 14, 16, 17, 18, 19, 20, 21, 22, 23, 24, 25, 15]) (w' := ((wX7 cy h0 gma sna hia ka ora cha tra ena opa foa gm sn hs qs k0 k1 k2 k3 ch v1.2.1 v1.2.2.1 es op fo has) ++ ((wX8 cy mo sa pa kb aa oa wa ca ta na mOp mIk v2.2.1 v2.2.2.1 v2.2.2.2.1 mTy v2.2.2.2.2.1 v2.2.2.2.2.2.1 v2.2.2.2.2.2.2.1 v2.2.2.2.2.2.2.2.1 v2.2.2.2.2.2.2.2.2.1 v2.2.2.2.2.2.2.2.2.2.1 v2.2.2.2.2.2.2.2.2.2.2.1 v2.2.2.2.2.2.2.2.2.2.2.2.1 rK v2.2.2.2.2.2.2.2.2.2.2.2.2.1 rO rW rC rT v2.2.2.2.2.2.2.2.2.2.2.2.2.2) ++ [wL cy ua v1.2.2.2]))) ⟨hx, hb, hml, hown, hts⟩ (c_X8_thrown l D cy mo sa pa kb aa oa wa ca ta na mOp mIk v2.2.1 v2.2.2.1 v2.2.2.2.1 mTy v2.2.2.2.2.1 v2.2.2.2.2.2.1 v2.2.2.2.2.2.2.1 v2.2.2.2.2.2.2.2.1 v2.2.2.2.2.2.2.2.2.1 v2.2.2.2.2.2.2.2.2.2.1 v2.2.2.2.2.2.2.2.2.2.2.1 v2.2.2.2.2.2.2.2.2.2.2.2.1 rK v2.2.2.2.2.2.2.2.2.2.2.2.2.1 rO rW rC rT v2.2.2.2.2.2.2.2.2.2.2.2.2.2  v3 hv3) (cwV 0 hts gL_law_X8_thrown rfl rfl rfl hd_X8_thrown ⟨Nat.le_of_ble_eq_true rfl, Nat.le_of_ble_eq_true rfl⟩) hK hN hP hD hS hA rfl rfl rfl rfl rfl rfl (by decide) rfl rfl rfl hl.1 rfl (Nat.le_of_ble_eq_true rfl) dL_law_1576 ⟨hc, hsl⟩ (fun H locs hP hD hS => ?_)
  refine lv_iload hx hb dL_law_1579 (lv_at hl 1 rfl) ?_
  refine lv_icmp_eq (tgt := 1586) hx hb dL_law_1581 (by decide) (fun c4 => ?_) (fun c4 => ?_)
  · have hf := k_T c4 hf
    refine lv_iload hx hb dL_law_1586 (lv_at hl 1 rfl) ?_
    refine lv_if_ne (tgt := 1603) hx hb dL_law_1588 (by decide) (fun c5 => ?_) (fun c5 => ?_)
    · have hf := k_F c5 hf
      refine lv_goto (tgt := 1650) hx hb dL_law_1603 (by decide) ?_
      obtain rfl := k_some hf
      exact kk ls H locs (lv_sub hl [2, 3, 4, 5, 6] rfl) hP hD hS
    · have hf := k_T c5 hf
      refine lv_aload_n hx hb dL_law_1591 rfl (lv_at hl 3 rfl) ?_
      refine lv_iconst (v := 0) hx hb dL_law_1592 (by decide) ?_
      refine va_lald hx hb hK hP 25 3 rfl rfl (k_in (i := 0) (n := 1) (by decide +kernel)) dL_law_1593 ?_
      refine k_nameJ (v := v1.2.2.2 0) rfl ?_
      refine lv_iload hx hb dL_law_1594 (lv_at hl 0 rfl) ?_
      refine lv_i2l hx hb dL_law_1596 rfl ?_
      refine W.lcmp hx hb dL_law_1597 ?_
      refine lv_if_eq (tgt := 1603) hx hb dL_law_1598 (by decide) (fun c6 => ?_) (fun c6 => ?_)
      · have hf := k_T c6 hf
        refine lv_goto (tgt := 1650) hx hb dL_law_1603 (by decide) ?_
        obtain rfl := k_some hf
        exact kk ls H locs (lv_sub hl [2, 3, 4, 5, 6] rfl) hP hD hS
      · have hf := k_F c6 hf
        refine lv_iconst (v := 0) hx hb dL_law_1601 (by decide) ?_
        cases hf
  · have hf := k_F c4 hf
    refine lv_iconst (v := 0) hx hb dL_law_1584 (by decide) ?_
    cases hf
def f_case40 (a : Int32) (gm : k_G8) (hs : Int32) (qs : k_Q4) (k0 : k_G8) (k1 : k_G8) (k2 : k_G8) (k3 : k_G8) (ch : Nat → Int32) (o : k_O5) (tr : k_G8) (mPa : Int32) (mRu : Int32) (mLa : Int32) (mTy : Int32) (mSp : Int32) (mFr : Int32) (mRe : Int32) (mCa : Int32) (mOr : Int32) (mLe : Int32) (rS : Nat → Int32) (rP : Nat → Int32) (rA : Nat → Int32) (rT : Nat → Int32) (rN : Nat → Int32) (out : Nat → Int64) : Option (k_G8 × Int32 × k_Q4 × k_G8 × k_G8 × k_G8 × k_G8 × k_O5 × k_G8 × Int32 × Int32 × Int32 × Int32 × Int32 × Int32 × Int32 × Int32 × Int32 × (Nat → Int32) × (Nat → Int32) × (Nat → Int32) × (Nat → Int32) × (Nat → Int64)) :=
  (f_L_play gm hs qs k0 k1 k2 k3 ch o tr out).bind fun v1 =>
  (f_X8_play mPa mRu mLa mTy mSp mFr mRe mCa mOr mLe rS rP rA rT rN).bind fun v2 =>
  (f_X8_thrown v2.2.2.2.1).bind fun v3 =>
  if v3 = v1.1 then
    if v1.1 = 0 then
      if (lg_cmp (v1.2.2.2.2.2.2.2.2.2.2 0) v2.1.toInt64) = 0 then
        some (v1.2.1, v1.2.2.1, v1.2.2.2.1, v1.2.2.2.2.1, v1.2.2.2.2.2.1, v1.2.2.2.2.2.2.1, v1.2.2.2.2.2.2.2.1, v1.2.2.2.2.2.2.2.2.1, v1.2.2.2.2.2.2.2.2.2.1, v2.2.1, v2.2.2.1, v2.2.2.2.1, v2.2.2.2.2.1, v2.2.2.2.2.2.1, v2.2.2.2.2.2.2.1, v2.2.2.2.2.2.2.2.1, v2.2.2.2.2.2.2.2.2.1, v2.2.2.2.2.2.2.2.2.2.1, v2.2.2.2.2.2.2.2.2.2.2.1, v2.2.2.2.2.2.2.2.2.2.2.2.1, v2.2.2.2.2.2.2.2.2.2.2.2.2.1, v2.2.2.2.2.2.2.2.2.2.2.2.2.2, v1.2.2.2.2.2.2.2.2.2.2)
      else
        none
    else
      some (v1.2.1, v1.2.2.1, v1.2.2.2.1, v1.2.2.2.2.1, v1.2.2.2.2.2.1, v1.2.2.2.2.2.2.1, v1.2.2.2.2.2.2.2.1, v1.2.2.2.2.2.2.2.2.1, v1.2.2.2.2.2.2.2.2.2.1, v2.2.1, v2.2.2.1, v2.2.2.2.1, v2.2.2.2.2.1, v2.2.2.2.2.2.1, v2.2.2.2.2.2.2.1, v2.2.2.2.2.2.2.2.1, v2.2.2.2.2.2.2.2.2.1, v2.2.2.2.2.2.2.2.2.2.1, v2.2.2.2.2.2.2.2.2.2.2.1, v2.2.2.2.2.2.2.2.2.2.2.2.1, v2.2.2.2.2.2.2.2.2.2.2.2.2.1, v2.2.2.2.2.2.2.2.2.2.2.2.2.2, v1.2.2.2.2.2.2.2.2.2.2)
  else
    none
set_option maxHeartbeats 4000000 in
set_option maxRecDepth 100000 in
theorem c_case40 (l : Launch) (hl9 : l.stackTraces = false) {p : Program} {e : Env} {s : State} {m : MethodId} {below : List Frame} {meth : Method} {c : Code} {b L : Nat} {xs : Nat → Int32} {D : va_G} {cy : Nat → ClassId} (C : k_LC p s m c b L xs D cy) (Q : State → Prop) (h0 gma sna hia ka ora cha tra ena opa foa mo sa pa kb aa oa wa ca ta na ua : Nat) (gm : k_G8) (sn : k_G8) (hs : Int32) (qs : k_Q4) (k0 : k_G8) (k1 : k_G8) (k2 : k_G8) (k3 : k_G8) (ch : Nat → Int32) (o : k_O5) (tr : k_G8) (es : Int32) (op : Nat → Int32) (fo : Nat → Int32) (has : Int32) (mOp : Int32) (mIk : Int32) (mPa : Int32) (mRu : Int32) (mLa : Int32) (mTy : Int32) (mSp : Int32) (mFr : Int32) (mRe : Int32) (mCa : Int32) (mOr : Int32) (mLe : Int32) (rS : Nat → Int32) (rP : Nat → Int32) (rK : Nat → Int32) (rA : Nat → Int32) (rO : Nat → Int32) (rW : Nat → Int32) (rC : Nat → Int32) (rT : Nat → Int32) (rN : Nat → Int32) (out : Nat → Int64) (i a : Int32) (hi : vp_in (i + 1) L) (ha : a = xs (i + 1).toNatClampNeg) (r : k_G8 × Int32 × k_Q4 × k_G8 × k_G8 × k_G8 × k_G8 × k_O5 × k_G8 × Int32 × Int32 × Int32 × Int32 × Int32 × Int32 × Int32 × Int32 × Int32 × (Nat → Int32) × (Nat → Int32) × (Nat → Int32) × (Nat → Int32) × (Nat → Int64)) (hf : f_case40 a gm hs qs k0 k1 k2 k3 ch o tr mPa mRu mLa mTy mSp mFr mRe mCa mOr mLe rS rP rA rT rN out = some r) (cells slots : Nat) (hc : cells + 1 ≤ room_1.cells) (hsl : slots + 6 ≤ room_1.slots) (ls : Array Slot) (H : Heap) (locs : List Loc) (hl : lv_has ls 9 [(4, .int i), (3, .ref ua), (2, .ref mo), (1, .ref h0), (0, .ref b)]) (hP : va_P D vwCl ((wX7 cy h0 gma sna hia ka ora cha tra ena opa foa gm sn hs qs k0 k1 k2 k3 ch o tr es op fo has) ++ ((wX8 cy mo sa pa kb aa oa wa ca ta na mOp mIk mPa mRu mLa mTy mSp mFr mRe mCa mOr mLe rS rP rK rA rO rW rC rT rN) ++ [wL cy ua out])) H) (hD : va_D (k_A s) ((wX7 cy h0 gma sna hia ka ora cha tra ena opa foa gm sn hs qs k0 k1 k2 k3 ch o tr es op fo has) ++ ((wX8 cy mo sa pa kb aa oa wa ca ta na mOp mIk mPa mRu mLa mTy mSp mFr mRe mCa mOr mLe rS rP rK rA rO rW rC rT rN) ++ [wL cy ua out]))) (hS : va_S (k_A s) s.heap H locs) (kk : ∀ (ls : Array Slot) (H : Heap) (locs : List Loc), lv_has ls 9 [(4, .int i), (3, .ref ua), (2, .ref mo), (1, .ref h0), (0, .ref b)] → va_P D vwCl ((wX7 cy h0 gma sna hia ka ora cha tra ena opa foa r.1 sn r.2.1 r.2.2.1 r.2.2.2.1 r.2.2.2.2.1 r.2.2.2.2.2.1 r.2.2.2.2.2.2.1 ch r.2.2.2.2.2.2.2.1 r.2.2.2.2.2.2.2.2.1 es op fo has) ++ ((wX8 cy mo sa pa kb aa oa wa ca ta na mOp mIk r.2.2.2.2.2.2.2.2.2.1 r.2.2.2.2.2.2.2.2.2.2.1 r.2.2.2.2.2.2.2.2.2.2.2.1 mTy r.2.2.2.2.2.2.2.2.2.2.2.2.1 r.2.2.2.2.2.2.2.2.2.2.2.2.2.1 r.2.2.2.2.2.2.2.2.2.2.2.2.2.2.1 r.2.2.2.2.2.2.2.2.2.2.2.2.2.2.2.1 r.2.2.2.2.2.2.2.2.2.2.2.2.2.2.2.2.1 r.2.2.2.2.2.2.2.2.2.2.2.2.2.2.2.2.2.1 r.2.2.2.2.2.2.2.2.2.2.2.2.2.2.2.2.2.2.1 r.2.2.2.2.2.2.2.2.2.2.2.2.2.2.2.2.2.2.2.1 rK r.2.2.2.2.2.2.2.2.2.2.2.2.2.2.2.2.2.2.2.2.1 rO rW rC rT r.2.2.2.2.2.2.2.2.2.2.2.2.2.2.2.2.2.2.2.2.2.1) ++ [wL cy ua r.2.2.2.2.2.2.2.2.2.2.2.2.2.2.2.2.2.2.2.2.2.2])) H → va_D (k_A s) ((wX7 cy h0 gma sna hia ka ora cha tra ena opa foa r.1 sn r.2.1 r.2.2.1 r.2.2.2.1 r.2.2.2.2.1 r.2.2.2.2.2.1 r.2.2.2.2.2.2.1 ch r.2.2.2.2.2.2.2.1 r.2.2.2.2.2.2.2.2.1 es op fo has) ++ ((wX8 cy mo sa pa kb aa oa wa ca ta na mOp mIk r.2.2.2.2.2.2.2.2.2.1 r.2.2.2.2.2.2.2.2.2.2.1 r.2.2.2.2.2.2.2.2.2.2.2.1 mTy r.2.2.2.2.2.2.2.2.2.2.2.2.1 r.2.2.2.2.2.2.2.2.2.2.2.2.2.1 r.2.2.2.2.2.2.2.2.2.2.2.2.2.2.1 r.2.2.2.2.2.2.2.2.2.2.2.2.2.2.2.1 r.2.2.2.2.2.2.2.2.2.2.2.2.2.2.2.2.1 r.2.2.2.2.2.2.2.2.2.2.2.2.2.2.2.2.2.1 r.2.2.2.2.2.2.2.2.2.2.2.2.2.2.2.2.2.2.1 r.2.2.2.2.2.2.2.2.2.2.2.2.2.2.2.2.2.2.2.1 rK r.2.2.2.2.2.2.2.2.2.2.2.2.2.2.2.2.2.2.2.2.1 rO rW rC rT r.2.2.2.2.2.2.2.2.2.2.2.2.2.2.2.2.2.2.2.2.2.1) ++ [wL cy ua r.2.2.2.2.2.2.2.2.2.2.2.2.2.2.2.2.2.2.2.2.2.2])) → va_S (k_A s) s.heap H locs → W p l e room_1 s m #[Value.ref b] below meth c H locs (cells + 1) (slots + 6) Q (F0 m 1650 ls [])) : W p l e room_1 s m #[Value.ref b] below meth c H locs cells slots Q (F0 m 1606 ls []) := by
  obtain ⟨hx, hb, hml, hown, hts, hX, hbl, hK, hN, hT, hZ, hCx⟩ := C
  have hA : ∀ q : Nat, s.heap.size ≤ q → k_A s q := fun _ h9 => h9
  unfold f_case40 at hf
  refine lv_aload_n hx hb dL_law_1606 rfl (lv_at hl 3 rfl) ?_
  refine lv_aload_n hx hb dL_law_1607 rfl (lv_at hl 1 rfl) ?_
  obtain ⟨v1, hv1, hf⟩ := k_B hf
  refine k_callLS (As := [.ref h0, .ref ua]) (rest := []) (isC := [0, 1, 2, 3, 4, 5, 6, 7, 8, 9, 10, 11, 12, 13, 14, 25]) (isR := [15, 16, 17, 18, 19, 20, 21, 22, 23, 24]) (perm := [10, 11, 12, 13, 14, 15, 16, 17, 18, 19, 20, 21, 22, 23, 24, 0, 1, 2, 3, 4, 5, 6, 7, 8, 9, 25]) (w' := ((wX7 cy h0 gma sna hia ka ora cha tra ena opa foa v1.2.1 sn v1.2.2.1 v1.2.2.2.1 v1.2.2.2.2.1 v1.2.2.2.2.2.1 v1.2.2.2.2.2.2.1 v1.2.2.2.2.2.2.2.1 ch v1.2.2.2.2.2.2.2.2.1 v1.2.2.2.2.2.2.2.2.2.1 es op fo has) ++ ((wX8 cy mo sa pa kb aa oa wa ca ta na mOp mIk mPa mRu mLa mTy mSp mFr mRe mCa mOr mLe rS rP rK rA rO rW rC rT rN) ++ [wL cy ua v1.2.2.2.2.2.2.2.2.2.2]))) ⟨hx, hb, hml, hown, hts⟩ (c_L_play l hl9 D cy h0 gma sna hia ka ora cha tra ena opa foa ua gm sn hs qs k0 k1 k2 k3 ch o tr es op fo has out  v1 hv1) (vx_cwSW 2 hts gL_law_L_play rfl rfl rfl hd_L_play ⟨Nat.le_of_ble_eq_true rfl, Nat.le_of_ble_eq_true rfl⟩) hK hN hT hZ hCx hP hD hS (fun _ h9 => h9) rfl rfl rfl (by decide) (by decide) rfl (by decide) rfl hl.1 rfl (Nat.le_of_ble_eq_true rfl) dL_law_1608 ⟨hc, hsl⟩ (fun H locs hP hD hS => ?_)
  refine lv_istore (lv' := [(5, .int v1.1), (4, .int i), (3, .ref ua), (2, .ref mo), (1, .ref h0), (0, .ref b)]) hx hb dL_law_1611 hl (by decide) rfl (fun ls hl => ?_)
  refine lv_aload_n hx hb dL_law_1613 rfl (lv_at hl 3 rfl) ?_
  obtain ⟨v2, hv2, hf⟩ := k_B hf
  refine k_callHV (As := []) (rest := []) (r := (RX8, TX8, 21)) (ci := 5) (q0 := 15) (isC := [15, 16, 17, 18, 19, 20, 21, 22, 23, 24]) (isR := [0, 1, 2, 3, 4, 5, 6, 7, 8, 9, 10, 11, 12, 13, 14, 25]) (perm := [0, 1, 2, 3, 4, 5, 6, 7, 8, 9, 10, 11, 12, 13, 14, 16, 17, 18, 19, 20, 21, 22, 23, 24, 25, 15]) (w' := ((wX7 cy h0 gma sna hia ka ora cha tra ena opa foa v1.2.1 sn v1.2.2.1 v1.2.2.2.1 v1.2.2.2.2.1 v1.2.2.2.2.2.1 v1.2.2.2.2.2.2.1 v1.2.2.2.2.2.2.2.1 ch v1.2.2.2.2.2.2.2.2.1 v1.2.2.2.2.2.2.2.2.2.1 es op fo has) ++ ((wX8 cy mo sa pa kb aa oa wa ca ta na mOp mIk v2.2.1 v2.2.2.1 v2.2.2.2.1 mTy v2.2.2.2.2.1 v2.2.2.2.2.2.1 v2.2.2.2.2.2.2.1 v2.2.2.2.2.2.2.2.1 v2.2.2.2.2.2.2.2.2.1 v2.2.2.2.2.2.2.2.2.2.1 v2.2.2.2.2.2.2.2.2.2.2.1 v2.2.2.2.2.2.2.2.2.2.2.2.1 rK v2.2.2.2.2.2.2.2.2.2.2.2.2.1 rO rW rC rT v2.2.2.2.2.2.2.2.2.2.2.2.2.2) ++ [wL cy ua v1.2.2.2.2.2.2.2.2.2.2]))) ⟨hx, hb, hml, hown, hts⟩ (c_X8_play l D cy mo sa pa kb aa oa wa ca ta na mOp mIk mPa mRu mLa mTy mSp mFr mRe mCa mOr mLe rS rP rK rA rO rW rC rT rN  v2 hv2) (cwV 0 hts gL_law_X8_play rfl rfl rfl hd_X8_play ⟨Nat.le_of_ble_eq_true rfl, Nat.le_of_ble_eq_true rfl⟩) hK hN hP hD hS hA rfl rfl rfl rfl rfl rfl (by decide) rfl rfl rfl hl.1 rfl (Nat.le_of_ble_eq_true rfl) dL_law_1614 ⟨hc, hsl⟩ (fun H locs hP hD hS => ?_)
  refine lv_istore (lv' := [(6, .int v2.1), (5, .int v1.1), (4, .int i), (3, .ref ua), (2, .ref mo), (1, .ref h0), (0, .ref b)]) hx hb dL_law_1617 hl (by decide) rfl (fun ls hl => ?_)
  refine lv_aload_n hx hb dL_law_1619 rfl (lv_at hl 4 rfl) ?_
  obtain ⟨v3, hv3, hf⟩ := k_B hf
  refine k_callHV (As := []) (rest := []) (r := (RX8, TX8, 21)) (ci := 5) (q0 := 15) (isC := [15, 16, 17, 18, 19, 20, 21, 22, 23, 24]) (isR := [0, 1, 2, 3, 4, 5, 6, 7, 8, 9, 10, 11, 12, 13, 14, 25]) (perm := [0, 1, 2, 3, 4, 5, 6, 7, 8, 9, 10, 11, 12, 13, 14, 16, 17, 18, 19, 20, 21, 22, 23, 24, 25, 15]) (w' := ((wX7 cy h0 gma sna hia ka ora cha tra ena opa foa v1.2.1 sn v1.2.2.1 v1.2.2.2.1 v1.2.2.2.2.1 v1.2.2.2.2.2.1 v1.2.2.2.2.2.2.1 v1.2.2.2.2.2.2.2.1 ch v1.2.2.2.2.2.2.2.2.1 v1.2.2.2.2.2.2.2.2.2.1 es op fo has) ++ ((wX8 cy mo sa pa kb aa oa wa ca ta na mOp mIk v2.2.1 v2.2.2.1 v2.2.2.2.1 mTy v2.2.2.2.2.1 v2.2.2.2.2.2.1 v2.2.2.2.2.2.2.1 v2.2.2.2.2.2.2.2.1 v2.2.2.2.2.2.2.2.2.1 v2.2.2.2.2.2.2.2.2.2.1 v2.2.2.2.2.2.2.2.2.2.2.1 v2.2.2.2.2.2.2.2.2.2.2.2.1 rK v2.2.2.2.2.2.2.2.2.2.2.2.2.1 rO rW rC rT v2.2.2.2.2.2.2.2.2.2.2.2.2.2) ++ [wL cy ua v1.2.2.2.2.2.2.2.2.2.2]))) ⟨hx, hb, hml, hown, hts⟩ (c_X8_thrown l D cy mo sa pa kb aa oa wa ca ta na mOp mIk v2.2.1 v2.2.2.1 v2.2.2.2.1 mTy v2.2.2.2.2.1 v2.2.2.2.2.2.1 v2.2.2.2.2.2.2.1 v2.2.2.2.2.2.2.2.1 v2.2.2.2.2.2.2.2.2.1 v2.2.2.2.2.2.2.2.2.2.1 v2.2.2.2.2.2.2.2.2.2.2.1 v2.2.2.2.2.2.2.2.2.2.2.2.1 rK v2.2.2.2.2.2.2.2.2.2.2.2.2.1 rO rW rC rT v2.2.2.2.2.2.2.2.2.2.2.2.2.2  v3 hv3) (cwV 0 hts gL_law_X8_thrown rfl rfl rfl hd_X8_thrown ⟨Nat.le_of_ble_eq_true rfl, Nat.le_of_ble_eq_true rfl⟩) hK hN hP hD hS hA rfl rfl rfl rfl rfl rfl (by decide) rfl rfl rfl hl.1 rfl (Nat.le_of_ble_eq_true rfl) dL_law_1620 ⟨hc, hsl⟩ (fun H locs hP hD hS => ?_)
  refine lv_iload hx hb dL_law_1623 (lv_at hl 1 rfl) ?_
  refine lv_icmp_eq (tgt := 1630) hx hb dL_law_1625 (by decide) (fun c4 => ?_) (fun c4 => ?_)
  · have hf := k_T c4 hf
    refine lv_iload hx hb dL_law_1630 (lv_at hl 1 rfl) ?_
    refine lv_if_ne (tgt := 1647) hx hb dL_law_1632 (by decide) (fun c5 => ?_) (fun c5 => ?_)
    · have hf := k_F c5 hf
      refine lv_goto (tgt := 1650) hx hb dL_law_1647 (by decide) ?_
      obtain rfl := k_some hf
      exact kk ls H locs (lv_sub hl [2, 3, 4, 5, 6] rfl) hP hD hS
    · have hf := k_T c5 hf
      refine lv_aload_n hx hb dL_law_1635 rfl (lv_at hl 3 rfl) ?_
      refine lv_iconst (v := 0) hx hb dL_law_1636 (by decide) ?_
      refine va_lald hx hb hK hP 25 3 rfl rfl (k_in (i := 0) (n := 1) (by decide +kernel)) dL_law_1637 ?_
      refine k_nameJ (v := v1.2.2.2.2.2.2.2.2.2.2 0) rfl ?_
      refine lv_iload hx hb dL_law_1638 (lv_at hl 0 rfl) ?_
      refine lv_i2l hx hb dL_law_1640 rfl ?_
      refine W.lcmp hx hb dL_law_1641 ?_
      refine lv_if_eq (tgt := 1647) hx hb dL_law_1642 (by decide) (fun c6 => ?_) (fun c6 => ?_)
      · have hf := k_T c6 hf
        refine lv_goto (tgt := 1650) hx hb dL_law_1647 (by decide) ?_
        obtain rfl := k_some hf
        exact kk ls H locs (lv_sub hl [2, 3, 4, 5, 6] rfl) hP hD hS
      · have hf := k_F c6 hf
        refine lv_iconst (v := 0) hx hb dL_law_1645 (by decide) ?_
        cases hf
  · have hf := k_F c4 hf
    refine lv_iconst (v := 0) hx hb dL_law_1628 (by decide) ?_
    cases hf
