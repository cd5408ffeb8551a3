def f_case0 (a : Int32) (gm : k_G8) (hs : Int32) (qs : k_Q4) (k0 : k_G8) (k1 : k_G8) (k2 : k_G8) (k3 : k_G8) (mPa : Int32) (mRu : Int32) (mLa : Int32) (rS : Nat → Int32) (rP : Nat → Int32) (out : Nat → Int64) : Option (k_G8 × Int32 × k_Q4 × k_G8 × k_G8 × k_G8 × k_G8 × Int32 × Int32 × (Nat → Int32) × (Nat → Int32) × (Nat → Int64)) :=
  (f_L_draw a gm hs qs k0 k1 k2 k3 out).bind fun v1 =>
  (f_X8_draw a mPa mRu mLa rS rP).bind fun v2 =>
  (f_X8_thrown v2.2.2.1).bind fun v3 =>
  if v3 = v1.1 then
    if v1.1 = 0 then
      if (lg_cmp (v1.2.2.2.2.2.2.2.2 0) v2.1.toInt64) = 0 then
        some (v1.2.1, v1.2.2.1, v1.2.2.2.1, v1.2.2.2.2.1, v1.2.2.2.2.2.1, v1.2.2.2.2.2.2.1, v1.2.2.2.2.2.2.2.1, v2.2.1, v2.2.2.1, v2.2.2.2.1, v2.2.2.2.2, v1.2.2.2.2.2.2.2.2)
      else
        none
    else
      some (v1.2.1, v1.2.2.1, v1.2.2.2.1, v1.2.2.2.2.1, v1.2.2.2.2.2.1, v1.2.2.2.2.2.2.1, v1.2.2.2.2.2.2.2.1, v2.2.1, v2.2.2.1, v2.2.2.2.1, v2.2.2.2.2, v1.2.2.2.2.2.2.2.2)
  else
    none
set_option maxHeartbeats 4000000 in
set_option maxRecDepth 100000 in
theorem c_case0 (l : Launch) (hl9 : l.stackTraces = false) {p : Program} {e : Env} {s : State} {m : MethodId} {below : List Frame} {meth : Method} {c : Code} {b L : Nat} {xs : Nat → Int32} {D : va_G} {cy : Nat → ClassId} (C : k_LC p s m c b L xs D cy) (Q : State → Prop) (h0 gma sna hia ka ora cha tra ena opa foa mo sa pa kb aa oa wa ca ta na ua : Nat) (gm : k_G8) (sn : k_G8) (hs : Int32) (qs : k_Q4) (k0 : k_G8) (k1 : k_G8) (k2 : k_G8) (k3 : k_G8) (ch : Nat → Int32) (o : k_O5) (tr : k_G8) (es : Int32) (op : Nat → Int32) (fo : Nat → Int32) (has : Int32) (mOp : Int32) (mIk : Int32) (mPa : Int32) (mRu : Int32) (mLa : Int32) (mTy : Int32) (mSp : Int32) (mFr : Int32) (mRe : Int32) (mCa : Int32) (mOr : Int32) (mLe : Int32) (rS : Nat → Int32) (rP : Nat → Int32) (rK : Nat → Int32) (rA : Nat → Int32) (rO : Nat → Int32) (rW : Nat → Int32) (rC : Nat → Int32) (rT : Nat → Int32) (rN : Nat → Int32) (out : Nat → Int64) (i a : Int32) (hi : vp_in (i + 1) L) (ha : a = xs (i + 1).toNatClampNeg) (r : k_G8 × Int32 × k_Q4 × k_G8 × k_G8 × k_G8 × k_G8 × Int32 × Int32 × (Nat → Int32) × (Nat → Int32) × (Nat → Int64)) (hf : f_case0 a gm hs qs k0 k1 k2 k3 mPa mRu mLa rS rP out = some r) (cells slots : Nat) (hc : cells + 1 ≤ room_1.cells) (hsl : slots + 6 ≤ room_1.slots) (ls : Array Slot) (H : Heap) (locs : List Loc) (hl : lv_has ls 9 [(4, .int i), (3, .ref ua), (2, .ref mo), (1, .ref h0), (0, .ref b)]) (hP : va_P D vwCl ((wX7 cy h0 gma sna hia ka ora cha tra ena opa foa gm sn hs qs k0 k1 k2 k3 ch o tr es op fo has) ++ ((wX8 cy mo sa pa kb aa oa wa ca ta na mOp mIk mPa mRu mLa mTy mSp mFr mRe mCa mOr mLe rS rP rK rA rO rW rC rT rN) ++ [wL cy ua out])) H) (hD : va_D (k_A s) ((wX7 cy h0 gma sna hia ka ora cha tra ena opa foa gm sn hs qs k0 k1 k2 k3 ch o tr es op fo has) ++ ((wX8 cy mo sa pa kb aa oa wa ca ta na mOp mIk mPa mRu mLa mTy mSp mFr mRe mCa mOr mLe rS rP rK rA rO rW rC rT rN) ++ [wL cy ua out]))) (hS : va_S (k_A s) s.heap H locs) (kk : ∀ (ls : Array Slot) (H : Heap) (locs : List Loc), lv_has ls 9 [(4, .int i), (3, .ref ua), (2, .ref mo), (1, .ref h0), (0, .ref b)] → va_P D vwCl ((wX7 cy h0 gma sna hia ka ora cha tra ena opa foa r.1 sn r.2.1 r.2.2.1 r.2.2.2.1 r.2.2.2.2.1 r.2.2.2.2.2.1 r.2.2.2.2.2.2.1 ch o tr es op fo has) ++ ((wX8 cy mo sa pa kb aa oa wa ca ta na mOp mIk r.2.2.2.2.2.2.2.1 mRu r.2.2.2.2.2.2.2.2.1 mTy mSp mFr mRe mCa mOr mLe r.2.2.2.2.2.2.2.2.2.1 r.2.2.2.2.2.2.2.2.2.2.1 rK rA rO rW rC rT rN) ++ [wL cy ua r.2.2.2.2.2.2.2.2.2.2.2])) H → va_D (k_A s) ((wX7 cy h0 gma sna hia ka ora cha tra ena opa foa r.1 sn r.2.1 r.2.2.1 r.2.2.2.1 r.2.2.2.2.1 r.2.2.2.2.2.1 r.2.2.2.2.2.2.1 ch o tr es op fo has) ++ ((wX8 cy mo sa pa kb aa oa wa ca ta na mOp mIk r.2.2.2.2.2.2.2.1 mRu r.2.2.2.2.2.2.2.2.1 mTy mSp mFr mRe mCa mOr mLe r.2.2.2.2.2.2.2.2.2.1 r.2.2.2.2.2.2.2.2.2.2.1 rK rA rO rW rC rT rN) ++ [wL cy ua r.2.2.2.2.2.2.2.2.2.2.2])) → va_S (k_A s) s.heap H locs → W p l e room_1 s m #[Value.ref b] below meth c H locs (cells + 1) (slots + 6) Q (F0 m 1650 ls [])) : W p l e room_1 s m #[Value.ref b] below meth c H locs cells slots Q (F0 m 216 ls []) := by
  obtain ⟨hx, hb, hml, hown, hts, hX, hbl, hK, hN, hT, hZ, hCx⟩ := C
  have hA : ∀ q : Nat, s.heap.size ≤ q → k_A s q := fun _ h9 => h9
  unfold f_case0 at hf
  refine lv_aload_n hx hb dL_law_216 rfl (lv_at hl 3 rfl) ?_
  refine lv_aload_n hx hb dL_law_217 rfl (lv_at hl 4 rfl) ?_
  refine lv_iload hx hb dL_law_218 (lv_at hl 0 rfl) ?_
  refine lv_iconst (v := 1) hx hb dL_law_220 (by decide) ?_
  refine lv_iadd hx hb dL_law_221 ?_
  refine va_sld hx hb hX hbl (Nat.not_le.mpr hbl) hS hi dL_law_222 ?_
  refine k_name ha ?_
  refine lv_aload_n hx hb dL_law_223 rfl (lv_at hl 1 rfl) ?_
  obtain ⟨v1, hv1, hf⟩ := k_B hf
  refine k_callLS (As := [.ref h0, .int a, .ref ua]) (rest := []) (isC := [0, 1, 2, 3, 4, 5, 6, 7, 8, 9, 10, 11, 12, 13, 14, 25]) (isR := [15, 16, 17, 18, 19, 20, 21, 22, 23, 24]) (perm := [10, 11, 12, 13, 14, 15, 16, 17, 18, 19, 20, 21, 22, 23, 24, 0, 1, 2, 3, 4, 5, 6, 7, 8, 9, 25]) (w' := ((wX7 cy h0 gma sna hia ka ora cha tra ena opa foa v1.2.1 sn v1.2.2.1 v1.2.2.2.1 v1.2.2.2.2.1 v1.2.2.2.2.2.1 v1.2.2.2.2.2.2.1 v1.2.2.2.2.2.2.2.1 ch o tr es op fo has) ++ ((wX8 cy mo sa pa kb aa oa wa ca ta na mOp mIk mPa mRu mLa mTy mSp mFr mRe mCa mOr mLe rS rP rK rA rO rW rC rT rN) ++ [wL cy ua v1.2.2.2.2.2.2.2.2]))) ⟨hx, hb, hml, hown, hts⟩ (c_L_draw l hl9 D cy h0 gma sna hia ka ora cha tra ena opa foa ua gm sn hs qs k0 k1 k2 k3 ch o tr es op fo has out a v1 hv1) (vx_cwSW 3 hts gL_law_L_draw rfl rfl rfl hd_L_draw ⟨Nat.le_of_ble_eq_true rfl, Nat.le_of_ble_eq_true rfl⟩) hK hN hT hZ hCx hP hD hS (fun _ h9 => h9) rfl rfl rfl (by decide) (by decide) rfl (by decide) rfl hl.1 rfl (Nat.le_of_ble_eq_true rfl) dL_law_224 ⟨hc, hsl⟩ (fun H locs hP hD hS => ?_)
  refine lv_istore (lv' := [(5, .int v1.1), (4, .int i), (3, .ref ua), (2, .ref mo), (1, .ref h0), (0, .ref b)]) hx hb dL_law_227 hl (by decide) rfl (fun ls hl => ?_)
  refine lv_aload_n hx hb dL_law_229 rfl (lv_at hl 3 rfl) ?_
  refine lv_aload_n hx hb dL_law_230 rfl (lv_at hl 5 rfl) ?_
  refine lv_iload hx hb dL_law_231 (lv_at hl 1 rfl) ?_
  refine lv_iconst (v := 1) hx hb dL_law_233 (by decide) ?_
  refine lv_iadd hx hb dL_law_234 ?_
  refine va_sld hx hb hX hbl (Nat.not_le.mpr hbl) hS hi dL_law_235 ?_
  refine k_name ha ?_
  obtain ⟨v2, hv2, hf⟩ := k_B hf
  refine k_callHV (As := [.int a]) (rest := []) (r := (RX8, TX8, 21)) (ci := 5) (q0 := 15) (isC := [15, 16, 17, 18, 19, 20, 21, 22, 23, 24]) (isR := [0, 1, 2, 3, 4, 5, 6, 7, 8, 9, 10, 11, 12, 13, 14, 25]) (perm := [0, 1, 2, 3, 4, 5, 6, 7, 8, 9, 10, 11, 12, 13, 14, 16, 17, 18, 19, 20, 21, 22, 23, 24, 25, 15]) (w' := ((wX7 cy h0 gma sna hia ka ora cha tra ena opa foa v1.2.1 sn v1.2.2.1 v1.2.2.2.1 v1.2.2.2.2.1 v1.2.2.2.2.2.1 v1.2.2.2.2.2.2.1 v1.2.2.2.2.2.2.2.1 ch o tr es op fo has) ++ ((wX8 cy mo sa pa kb aa oa wa ca ta na mOp mIk v2.2.1 mRu v2.2.2.1 mTy mSp mFr mRe mCa mOr mLe v2.2.2.2.1 v2.2.2.2.2 rK rA rO rW rC rT rN) ++ [wL cy ua v1.2.2.2.2.2.2.2.2]))) ⟨hx, hb, hml, hown, hts⟩ (c_X8_draw l D cy mo sa pa kb aa oa wa ca ta na mOp mIk mPa mRu mLa mTy mSp mFr mRe mCa mOr mLe rS rP rK rA rO rW rC rT rN a v2 hv2) (cwV 1 hts gL_law_X8_draw rfl rfl rfl hd_X8_draw ⟨Nat.le_of_ble_eq_true rfl, Nat.le_of_ble_eq_true rfl⟩) hK hN hP hD hS hA rfl rfl rfl rfl rfl rfl (by decide) rfl rfl rfl hl.1 rfl (Nat.le_of_ble_eq_true rfl) dL_law_236 ⟨hc, hsl⟩ (fun H locs hP hD hS => ?_)
  refine lv_istore (lv' := [(6, .int v2.1), (5, .int v1.1), (4, .int i), (3, .ref ua), (2, .ref mo), (1, .ref h0), (0, .ref b)]) hx hb dL_law_239 hl (by decide) rfl (fun ls hl => ?_)
  refine lv_aload_n hx hb dL_law_241 rfl (lv_at hl 4 rfl) ?_
  obtain ⟨v3, hv3, hf⟩ := k_B hf
  refine k_callHV (As := []) (rest := []) (r := (RX8, TX8, 21)) (ci := 5) (q0 := 15) (isC := [15, 16, 17, 18, 19, 20, 21, 22, 23, 24]) (isR := [0, 1, 2, 3, 4, 5, 6, 7, 8, 9, 10, 11, 12, 13, 14, 25]) (perm := [0, 1, 2, 3, 4, 5, 6, 7, 8, 9, 10, 11, 12, 13, 14, 16, 17, 18, 19, 20, 21, 22, 23, 24, 25, 15]) (w' := ((wX7 cy h0 gma sna hia ka ora cha tra ena opa foa v1.2.1 sn v1.2.2.1 v1.2.2.2.1 v1.2.2.2.2.1 v1.2.2.2.2.2.1 v1.2.2.2.2.2.2.1 v1.2.2.2.2.2.2.2.1 ch o tr es op fo has) ++ ((wX8 cy mo sa pa kb aa oa wa ca ta na mOp mIk v2.2.1 mRu v2.2.2.1 mTy mSp mFr mRe mCa mOr mLe v2.2.2.2.1 v2.2.2.2.2 rK rA rO rW rC rT rN) ++ [wL cy ua v1.2.2.2.2.2.2.2.2]))) ⟨hx, hb, hml, hown, hts⟩ (c_X8_thrown l D cy mo sa pa kb aa oa wa ca ta na mOp mIk v2.2.1 mRu v2.2.2.1 mTy mSp mFr mRe mCa mOr mLe v2.2.2.2.1 v2.2.2.2.2 rK rA rO rW rC rT rN  v3 hv3) (cwV 0 hts gL_law_X8_thrown rfl rfl rfl hd_X8_thrown ⟨Nat.le_of_ble_eq_true rfl, Nat.le_of_ble_eq_true rfl⟩) hK hN hP hD hS hA rfl rfl rfl rfl rfl rfl (by decide) rfl rfl rfl hl.1 rfl (Nat.le_of_ble_eq_true rfl) dL_law_242 ⟨hc, hsl⟩ (fun H locs hP hD hS => ?_)
  refine lv_iload hx hb dL_law_245 (lv_at hl 1 rfl) ?_
  refine lv_icmp_eq (tgt := 252) hx hb dL_law_247 (by decide) (fun c4 => ?_) (fun c4 => ?_)
  · have hf := k_T c4 hf
    refine lv_iload hx hb dL_law_252 (lv_at hl 1 rfl) ?_
    refine lv_if_ne (tgt := 269) hx hb dL_law_254 (by decide) (fun c5 => ?_) (fun c5 => ?_)
    · have hf := k_F c5 hf
      refine lv_goto (tgt := 1650) hx hb dL_law_269 (by decide) ?_
      obtain rfl := k_some hf
      exact kk ls H locs (lv_sub hl [2, 3, 4, 5, 6] rfl) hP hD hS
    · have hf := k_T c5 hf
      refine lv_aload_n hx hb dL_law_257 rfl (lv_at hl 3 rfl) ?_
      refine lv_iconst (v := 0) hx hb dL_law_258 (by decide) ?_
      refine va_lald hx hb hK hP 25 3 rfl rfl (k_in (i := 0) (n := 1) (by decide +kernel)) dL_law_259 ?_
      refine k_nameJ (v := v1.2.2.2.2.2.2.2.2 0) rfl ?_
      refine lv_iload hx hb dL_law_260 (lv_at hl 0 rfl) ?_
      refine lv_i2l hx hb dL_law_262 rfl ?_
      refine W.lcmp hx hb dL_law_263 ?_
      refine lv_if_eq (tgt := 269) hx hb dL_law_264 (by decide) (fun c6 => ?_) (fun c6 => ?_)
      · have hf := k_T c6 hf
        refine lv_goto (tgt := 1650) hx hb dL_law_269 (by decide) ?_
        obtain rfl := k_some hf
        exact kk ls H locs (lv_sub hl [2, 3, 4, 5, 6] rfl) hP hD hS
      · have hf := k_F c6 hf
        refine lv_iconst (v := 0) hx hb dL_law_267 (by decide) ?_
        cases hf
  · have hf := k_F c4 hf
    refine lv_iconst (v := 0) hx hb dL_law_250 (by decide) ?_
    cases hf
def f_case1 (a : Int32) (gm : k_G8) (hs : Int32) (qs : k_Q4) (k0 : k_G8) (k1 : k_G8) (k2 : k_G8) (k3 : k_G8) (mPa : Int32) (mRu : Int32) (mLa : Int32) (rS : Nat → Int32) (rP : Nat → Int32) : Option (k_G8 × Int32 × k_Q4 × k_G8 × k_G8 × k_G8 × k_G8 × Int32 × Int32 × (Nat → Int32) × (Nat → Int32)) :=
  (f_X7_newGame gm hs qs k0 k1 k2 k3).bind fun v1 =>
  (f_X8_newGame mPa mRu mLa rS rP).bind fun v2 =>
  if v1.1 = v2.1 then
    some (v1.2.1, v1.2.2.1, v1.2.2.2.1, v1.2.2.2.2.1, v1.2.2.2.2.2.1, v1.2.2.2.2.2.2.1, v1.2.2.2.2.2.2.2, v2.2.1, v2.2.2.1, v2.2.2.2.1, v2.2.2.2.2)
  else
    none
set_option maxHeartbeats 4000000 in
set_option maxRecDepth 100000 in
theorem c_case1 (l : Launch) (hl9 : l.stackTraces = false) {p : Program} {e : Env} {s : State} {m : MethodId} {below : List Frame} {meth : Method} {c : Code} {b L : Nat} {xs : Nat → Int32} {D : va_G} {cy : Nat → ClassId} (C : k_LC p s m c b L xs D cy) (Q : State → Prop) (h0 gma sna hia ka ora cha tra ena opa foa mo sa pa kb aa oa wa ca ta na ua : Nat) (gm : k_G8) (sn : k_G8) (hs : Int32) (qs : k_Q4) (k0 : k_G8) (k1 : k_G8) (k2 : k_G8) (k3 : k_G8) (ch : Nat → Int32) (o : k_O5) (tr : k_G8) (es : Int32) (op : Nat → Int32) (fo : Nat → Int32) (has : Int32) (mOp : Int32) (mIk : Int32) (mPa : Int32) (mRu : Int32) (mLa : Int32) (mTy : Int32) (mSp : Int32) (mFr : Int32) (mRe : Int32) (mCa : Int32) (mOr : Int32) (mLe : Int32) (rS : Nat → Int32) (rP : Nat → Int32) (rK : Nat → Int32) (rA : Nat → Int32) (rO : Nat → Int32) (rW : Nat → Int32) (rC : Nat → Int32) (rT : Nat → Int32) (rN : Nat → Int32) (out : Nat → Int64) (i a : Int32) (hi : vp_in (i + 1) L) (ha : a = xs (i + 1).toNatClampNeg) (r : k_G8 × Int32 × k_Q4 × k_G8 × k_G8 × k_G8 × k_G8 × Int32 × Int32 × (Nat → Int32) × (Nat → Int32)) (hf : f_case1 a gm hs qs k0 k1 k2 k3 mPa mRu mLa rS rP = some r) (cells slots : Nat) (hc : cells + 1 ≤ room_1.cells) (hsl : slots + 6 ≤ room_1.slots) (ls : Array Slot) (H : Heap) (locs : List Loc) (hl : lv_has ls 9 [(4, .int i), (3, .ref ua), (2, .ref mo), (1, .ref h0), (0, .ref b)]) (hP : va_P D vwCl ((wX7 cy h0 gma sna hia ka ora cha tra ena opa foa gm sn hs qs k0 k1 k2 k3 ch o tr es op fo has) ++ ((wX8 cy mo sa pa kb aa oa wa ca ta na mOp mIk mPa mRu mLa mTy mSp mFr mRe mCa mOr mLe rS rP rK rA rO rW rC rT rN) ++ [wL cy ua out])) H) (hD : va_D (k_A s) ((wX7 cy h0 gma sna hia ka ora cha tra ena opa foa gm sn hs qs k0 k1 k2 k3 ch o tr es op fo has) ++ ((wX8 cy mo sa pa kb aa oa wa ca ta na mOp mIk mPa mRu mLa mTy mSp mFr mRe mCa mOr mLe rS rP rK rA rO rW rC rT rN) ++ [wL cy ua out]))) (hS : va_S (k_A s) s.heap H locs) (kk : ∀ (ls : Array Slot) (H : Heap) (locs : List Loc), lv_has ls 9 [(4, .int i), (3, .ref ua), (2, .ref mo), (1, .ref h0), (0, .ref b)] → va_P D vwCl ((wX7 cy h0 gma sna hia ka ora cha tra ena opa foa r.1 sn r.2.1 r.2.2.1 r.2.2.2.1 r.2.2.2.2.1 r.2.2.2.2.2.1 r.2.2.2.2.2.2.1 ch o tr es op fo has) ++ ((wX8 cy mo sa pa kb aa oa wa ca ta na mOp mIk r.2.2.2.2.2.2.2.1 mRu r.2.2.2.2.2.2.2.2.1 mTy mSp mFr mRe mCa mOr mLe r.2.2.2.2.2.2.2.2.2.1 r.2.2.2.2.2.2.2.2.2.2 rK rA rO rW rC rT rN) ++ [wL cy ua out])) H → va_D (k_A s) ((wX7 cy h0 gma sna hia ka ora cha tra ena opa foa r.1 sn r.2.1 r.2.2.1 r.2.2.2.1 r.2.2.2.2.1 r.2.2.2.2.2.1 r.2.2.2.2.2.2.1 ch o tr es op fo has) ++ ((wX8 cy mo sa pa kb aa oa wa ca ta na mOp mIk r.2.2.2.2.2.2.2.1 mRu r.2.2.2.2.2.2.2.2.1 mTy mSp mFr mRe mCa mOr mLe r.2.2.2.2.2.2.2.2.2.1 r.2.2.2.2.2.2.2.2.2.2 rK rA rO rW rC rT rN) ++ [wL cy ua out])) → va_S (k_A s) s.heap H locs → W p l e room_1 s m #[Value.ref b] below meth c H locs (cells + 1) (slots + 6) Q (F0 m 1650 ls [])) : W p l e room_1 s m #[Value.ref b] below meth c H locs cells slots Q (F0 m 272 ls []) := by
  obtain ⟨hx, hb, hml, hown, hts, hX, hbl, hK, hN, hT, hZ, hCx⟩ := C
  have hA : ∀ q : Nat, s.heap.size ≤ q → k_A s q := fun _ h9 => h9
  unfold f_case1 at hf
  refine lv_aload_n hx hb dL_law_272 rfl (lv_at hl 3 rfl) ?_
  obtain ⟨v1, hv1, hf⟩ := k_B hf
  refine k_callHV (As := []) (rest := []) (r := (RX7, TX7, 6)) (ci := 4) (q0 := 0) (isC := [0, 1, 2, 3, 4, 5, 6, 7, 8, 9, 10, 11, 12, 13, 14]) (isR := [15, 16, 17, 18, 19, 20, 21, 22, 23, 24, 25]) (perm := [11, 12, 13, 14, 15, 16, 17, 18, 19, 20, 21, 22, 23, 24, 25, 0, 1, 2, 3, 4, 5, 6, 7, 8, 9, 10]) (w' := ((wX7 cy h0 gma sna hia ka ora cha tra ena opa foa v1.2.1 sn v1.2.2.1 v1.2.2.2.1 v1.2.2.2.2.1 v1.2.2.2.2.2.1 v1.2.2.2.2.2.2.1 v1.2.2.2.2.2.2.2 ch o tr es op fo has) ++ ((wX8 cy mo sa pa kb aa oa wa ca ta na mOp mIk mPa mRu mLa mTy mSp mFr mRe mCa mOr mLe rS rP rK rA rO rW rC rT rN) ++ [wL cy ua out]))) ⟨hx, hb, hml, hown, hts⟩ (c_X7_newGame l D cy h0 gma sna hia ka ora cha tra ena opa foa gm sn hs qs k0 k1 k2 k3 ch o tr es op fo has  v1 hv1) (cwV 0 hts gL_law_X7_newGame rfl rfl rfl hd_X7_newGame ⟨Nat.le_of_ble_eq_true rfl, Nat.le_of_ble_eq_true rfl⟩) hK hN hP hD hS hA rfl rfl rfl rfl rfl rfl (by decide) rfl rfl rfl hl.1 rfl (Nat.le_of_ble_eq_true rfl) dL_law_273 ⟨Nat.le_of_succ_le hc, k_le6 hsl⟩ (fun H locs hP hD hS => ?_)
  refine lv_aload_n hx hb dL_law_276 rfl (lv_at hl 2 rfl) ?_
  obtain ⟨v2, hv2, hf⟩ := k_B hf
  refine k_callHV (As := []) (rest := [.int v1.1]) (r := (RX8, TX8, 21)) (ci := 5) (q0 := 15) (isC := [15, 16, 17, 18, 19, 20, 21, 22, 23, 24]) (isR := [0, 1, 2, 3, 4, 5, 6, 7, 8, 9, 10, 11, 12, 13, 14, 25]) (perm := [0, 1, 2, 3, 4, 5, 6, 7, 8, 9, 10, 11, 12, 13, 14, 16, 17, 18, 19, 20, 21, 22, 23, 24, 25, 15]) (w' := ((wX7 cy h0 gma sna hia ka ora cha tra ena opa foa v1.2.1 sn v1.2.2.1 v1.2.2.2.1 v1.2.2.2.2.1 v1.2.2.2.2.2.1 v1.2.2.2.2.2.2.1 v1.2.2.2.2.2.2.2 ch o tr es op fo has) ++ ((wX8 cy mo sa pa kb aa oa wa ca ta na mOp mIk v2.2.1 mRu v2.2.2.1 mTy mSp mFr mRe mCa mOr mLe v2.2.2.2.1 v2.2.2.2.2 rK rA rO rW rC rT rN) ++ [wL cy ua out]))) ⟨hx, hb, hml, hown, hts⟩ (c_X8_newGame l D cy mo sa pa kb aa oa wa ca ta na mOp mIk mPa mRu mLa mTy mSp mFr mRe mCa mOr mLe rS rP rK rA rO rW rC rT rN  v2 hv2) (cwV 0 hts gL_law_X8_newGame rfl rfl rfl hd_X8_newGame ⟨Nat.le_of_ble_eq_true rfl, Nat.le_of_ble_eq_true rfl⟩) hK hN hP hD hS hA rfl rfl rfl rfl rfl rfl (by decide) rfl rfl rfl hl.1 rfl (Nat.le_of_ble_eq_true rfl) dL_law_277 ⟨Nat.le_of_succ_le hc, k_le6 hsl⟩ (fun H locs hP hD hS => ?_)
  refine lv_icmp_eq (tgt := 1650) hx hb dL_law_280 (by decide) (fun c3 => ?_) (fun c3 => ?_)
  · have hf := k_T c3 hf
    obtain rfl := k_some hf
    refine W.widen (Nat.le_succ _) (Nat.le_add_right _ 6) ?_
    exact kk ls H locs (lv_sub hl [0, 1, 2, 3, 4] rfl) hP hD hS
  · have hf := k_F c3 hf
    refine lv_iconst (v := 0) hx hb dL_law_283 (by decide) ?_
    cases hf
def f_case2 (a : Int32) (gm : k_G8) (mLa : Int32) (rS : Nat → Int32) (out : Nat → Int64) : Option (Int32 × (Nat → Int64)) :=
  (f_L_isDrawn a gm out).bind fun v1 =>
  (f_X8_isDrawn a mLa rS).bind fun v2 =>
  (f_X8_thrown v2.2).bind fun v3 =>
  if v3 = v1.1 then
    if v1.1 = 0 then
      if v2.1 = 0 then
        if (lg_cmp (v1.2 0) (0 : Int64)) = 0 then
          some (v2.2, v1.2)
        else
          none
      else
        if (lg_cmp (v1.2 0) (1 : Int64)) = 0 then
          some (v2.2, v1.2)
        else
          none
    else
      some (v2.2, v1.2)
  else
    none
set_option maxHeartbeats 4000000 in
set_option maxRecDepth 100000 in
theorem c_case2 (l : Launch) (hl9 : l.stackTraces = false) {p : Program} {e : Env} {s : State} {m : MethodId} {below : List Frame} {meth : Method} {c : Code} {b L : Nat} {xs : Nat → Int32} {D : va_G} {cy : Nat → ClassId} (C : k_LC p s m c b L xs D cy) (Q : State → Prop) (h0 gma sna hia ka ora cha tra ena opa foa mo sa pa kb aa oa wa ca ta na ua : Nat) (gm : k_G8) (sn : k_G8) (hs : Int32) (qs : k_Q4) (k0 : k_G8) (k1 : k_G8) (k2 : k_G8) (k3 : k_G8) (ch : Nat → Int32) (o : k_O5) (tr : k_G8) (es : Int32) (op : Nat → Int32) (fo : Nat → Int32) (has : Int32) (mOp : Int32) (mIk : Int32) (mPa : Int32) (mRu : Int32) (mLa : Int32) (mTy : Int32) (mSp : Int32) (mFr : Int32) (mRe : Int32) (mCa : Int32) (mOr : Int32) (mLe : Int32) (rS : Nat → Int32) (rP : Nat → Int32) (rK : Nat → Int32) (rA : Nat → Int32) (rO : Nat → Int32) (rW : Nat → Int32) (rC : Nat → Int32) (rT : Nat → Int32) (rN : Nat → Int32) (out : Nat → Int64) (i a : Int32) (hi : vp_in (i + 1) L) (ha : a = xs (i + 1).toNatClampNeg) (r : Int32 × (Nat → Int64)) (hf : f_case2 a gm mLa rS out = some r) (cells slots : Nat) (hc : cells + 1 ≤ room_1.cells) (hsl : slots + 6 ≤ room_1.slots) (ls : Array Slot) (H : Heap) (locs : List Loc) (hl : lv_has ls 9 [(4, .int i), (3, .ref ua), (2, .ref mo), (1, .ref h0), (0, .ref b)]) (hP : va_P D vwCl ((wX7 cy h0 gma sna hia ka ora cha tra ena opa foa gm sn hs qs k0 k1 k2 k3 ch o tr es op fo has) ++ ((wX8 cy mo sa pa kb aa oa wa ca ta na mOp mIk mPa mRu mLa mTy mSp mFr mRe mCa mOr mLe rS rP rK rA rO rW rC rT rN) ++ [wL cy ua out])) H) (hD : va_D (k_A s) ((wX7 cy h0 gma sna hia ka ora cha tra ena opa foa gm sn hs qs k0 k1 k2 k3 ch o tr es op fo has) ++ ((wX8 cy mo sa pa kb aa oa wa ca ta na mOp mIk mPa mRu mLa mTy mSp mFr mRe mCa mOr mLe rS rP rK rA rO rW rC rT rN) ++ [wL cy ua out]))) (hS : va_S (k_A s) s.heap H locs) (kk : ∀ (ls : Array Slot) (H : Heap) (locs : List Loc), lv_has ls 9 [(4, .int i), (3, .ref ua), (2, .ref mo), (1, .ref h0), (0, .ref b)] → va_P D vwCl ((wX7 cy h0 gma sna hia ka ora cha tra ena opa foa gm sn hs qs k0 k1 k2 k3 ch o tr es op fo has) ++ ((wX8 cy mo sa pa kb aa oa wa ca ta na mOp mIk mPa mRu r.1 mTy mSp mFr mRe mCa mOr mLe rS rP rK rA rO rW rC rT rN) ++ [wL cy ua r.2])) H → va_D (k_A s) ((wX7 cy h0 gma sna hia ka ora cha tra ena opa foa gm sn hs qs k0 k1 k2 k3 ch o tr es op fo has) ++ ((wX8 cy mo sa pa kb aa oa wa ca ta na mOp mIk mPa mRu r.1 mTy mSp mFr mRe mCa mOr mLe rS rP rK rA rO rW rC rT rN) ++ [wL cy ua r.2])) → va_S (k_A s) s.heap H locs → W p l e room_1 s m #[Value.ref b] below meth c H locs (cells + 1) (slots + 6) Q (F0 m 1650 ls [])) : W p l e room_1 s m #[Value.ref b] below meth c H locs cells slots Q (F0 m 285 ls []) := by
  obtain ⟨hx, hb, hml, hown, hts, hX, hbl, hK, hN, hT, hZ, hCx⟩ := C
  have hA : ∀ q : Nat, s.heap.size ≤ q → k_A s q := fun _ h9 => h9
  unfold f_case2 at hf
  refine lv_aload_n hx hb dL_law_285 rfl (lv_at hl 3 rfl) ?_
  refine lv_aload_n hx hb dL_law_286 rfl (lv_at hl 4 rfl) ?_
  refine lv_iload hx hb dL_law_287 (lv_at hl 0 rfl) ?_
  refine lv_iconst (v := 1) hx hb dL_law_289 (by decide) ?_
  refine lv_iadd hx hb dL_law_290 ?_
  refine va_sld hx hb hX hbl (Nat.not_le.mpr hbl) hS hi dL_law_291 ?_
  refine k_name ha ?_
  refine lv_aload_n hx hb dL_law_292 rfl (lv_at hl 1 rfl) ?_
  obtain ⟨v1, hv1, hf⟩ := k_B hf
  refine k_callLS (As := [.ref h0, .int a, .ref ua]) (rest := []) (isC := [0, 1, 2, 3, 4, 5, 6, 7, 8, 9, 10, 11, 12, 13, 14, 25]) (isR := [15, 16, 17, 18, 19, 20, 21, 22, 23, 24]) (perm := [10, 11, 12, 13, 14, 15, 16, 17, 18, 19, 20, 21, 22, 23, 24, 0, 1, 2, 3, 4, 5, 6, 7, 8, 9, 25]) (w' := ((wX7 cy h0 gma sna hia ka ora cha tra ena opa foa gm sn hs qs k0 k1 k2 k3 ch o tr es op fo has) ++ ((wX8 cy mo sa pa kb aa oa wa ca ta na mOp mIk mPa mRu mLa mTy mSp mFr mRe mCa mOr mLe rS rP rK rA rO rW rC rT rN) ++ [wL cy ua v1.2]))) ⟨hx, hb, hml, hown, hts⟩ (c_L_isDrawn l hl9 D cy h0 gma sna hia ka ora cha tra ena opa foa ua gm sn hs qs k0 k1 k2 k3 ch o tr es op fo has out a v1 hv1) (vx_cwSW 3 hts gL_law_L_isDrawn rfl rfl rfl hd_L_isDrawn ⟨Nat.le_of_ble_eq_true rfl, Nat.le_of_ble_eq_true rfl⟩) hK hN hT hZ hCx hP hD hS (fun _ h9 => h9) rfl rfl rfl (by decide) (by decide) rfl (by decide) rfl hl.1 rfl (Nat.le_of_ble_eq_true rfl) dL_law_293 ⟨hc, hsl⟩ (fun H locs hP hD hS => ?_)
  refine lv_istore (lv' := [(5, .int v1.1), (4, .int i), (3, .ref ua), (2, .ref mo), (1, .ref h0), (0, .ref b)]) hx hb dL_law_296 hl (by decide) rfl (fun ls hl => ?_)
  refine lv_aload_n hx hb dL_law_298 rfl (lv_at hl 3 rfl) ?_
  refine lv_aload_n hx hb dL_law_299 rfl (lv_at hl 5 rfl) ?_
  refine lv_iload hx hb dL_law_300 (lv_at hl 1 rfl) ?_
  refine lv_iconst (v := 1) hx hb dL_law_302 (by decide) ?_
  refine lv_iadd hx hb dL_law_303 ?_
  refine va_sld hx hb hX hbl (Nat.not_le.mpr hbl) hS hi dL_law_304 ?_
  refine k_name ha ?_
  obtain ⟨v2, hv2, hf⟩ := k_B hf
  refine k_callHV (As := [.int a]) (rest := []) (r := (RX8, TX8, 21)) (ci := 5) (q0 := 15) (isC := [15, 16, 17, 18, 19, 20, 21, 22, 23, 24]) (isR := [0, 1, 2, 3, 4, 5, 6, 7, 8, 9, 10, 11, 12, 13, 14, 25]) (perm := [0, 1, 2, 3, 4, 5, 6, 7, 8, 9, 10, 11, 12, 13, 14, 16, 17, 18, 19, 20, 21, 22, 23, 24, 25, 15]) (w' := ((wX7 cy h0 gma sna hia ka ora cha tra ena opa foa gm sn hs qs k0 k1 k2 k3 ch o tr es op fo has) ++ ((wX8 cy mo sa pa kb aa oa wa ca ta na mOp mIk mPa mRu v2.2 mTy mSp mFr mRe mCa mOr mLe rS rP rK rA rO rW rC rT rN) ++ [wL cy ua v1.2]))) ⟨hx, hb, hml, hown, hts⟩ (c_X8_isDrawn l D cy mo sa pa kb aa oa wa ca ta na mOp mIk mPa mRu mLa mTy mSp mFr mRe mCa mOr mLe rS rP rK rA rO rW rC rT rN a v2 hv2) (cwV 1 hts gL_law_X8_isDrawn rfl rfl rfl hd_X8_isDrawn ⟨Nat.le_of_ble_eq_true rfl, Nat.le_of_ble_eq_true rfl⟩) hK hN hP hD hS hA rfl rfl rfl rfl rfl rfl (by decide) rfl rfl rfl hl.1 rfl (Nat.le_of_ble_eq_true rfl) dL_law_305 ⟨hc, hsl⟩ (fun H locs hP hD hS => ?_)
  refine lv_istore (lv' := [(6, .int v2.1), (5, .int v1.1), (4, .int i), (3, .ref ua), (2, .ref mo), (1, .ref h0), (0, .ref b)]) hx hb dL_law_308 hl (by decide) rfl (fun ls hl => ?_)
  refine lv_aload_n hx hb dL_law_310 rfl (lv_at hl 4 rfl) ?_
  obtain ⟨v3, hv3, hf⟩ := k_B hf
  refine k_callHV (As := []) (rest := []) (r := (RX8, TX8, 21)) (ci := 5) (q0 := 15) (isC := [15, 16, 17, 18, 19, 20, 21, 22, 23, 24]) (isR := [0, 1, 2, 3, 4, 5, 6, 7, 8, 9, 10, 11, 12, 13, 14, 25]) (perm := [0, 1, 2, 3, 4, 5, 6, 7, 8, 9, 10, 11, 12, 13, 14, 16, 17, 18, 19, 20, 21, 22, 23, 24, 25, 15]) (w' := ((wX7 cy h0 gma sna hia ka ora cha tra ena opa foa gm sn hs qs k0 k1 k2 k3 ch o tr es op fo has) ++ ((wX8 cy mo sa pa kb aa oa wa ca ta na mOp mIk mPa mRu v2.2 mTy mSp mFr mRe mCa mOr mLe rS rP rK rA rO rW rC rT rN) ++ [wL cy ua v1.2]))) ⟨hx, hb, hml, hown, hts⟩ (c_X8_thrown l D cy mo sa pa kb aa oa wa ca ta na mOp mIk mPa mRu v2.2 mTy mSp mFr mRe mCa mOr mLe rS rP rK rA rO rW rC rT rN  v3 hv3) (cwV 0 hts gL_law_X8_thrown rfl rfl rfl hd_X8_thrown ⟨Nat.le_of_ble_eq_true rfl, Nat.le_of_ble_eq_true rfl⟩) hK hN hP hD hS hA rfl rfl rfl rfl rfl rfl (by decide) rfl rfl rfl hl.1 rfl (Nat.le_of_ble_eq_true rfl) dL_law_311 ⟨hc, hsl⟩ (fun H locs hP hD hS => ?_)
  refine lv_iload hx hb dL_law_314 (lv_at hl 1 rfl) ?_
  refine lv_icmp_eq (tgt := 321) hx hb dL_law_316 (by decide) (fun c4 => ?_) (fun c4 => ?_)
  · have hf := k_T c4 hf
    refine lv_iload hx hb dL_law_321 (lv_at hl 1 rfl) ?_
    refine lv_if_ne (tgt := 345) hx hb dL_law_323 (by decide) (fun c5 => ?_) (fun c5 => ?_)
    · have hf := k_F c5 hf
      refine lv_goto (tgt := 1650) hx hb dL_law_345 (by decide) ?_
      obtain rfl := k_some hf
      exact kk ls H locs (lv_sub hl [2, 3, 4, 5, 6] rfl) hP hD hS
    · have hf := k_T c5 hf
      refine lv_aload_n hx hb dL_law_326 rfl (lv_at hl 3 rfl) ?_
      refine lv_iconst (v := 0) hx hb dL_law_327 (by decide) ?_
      refine va_lald hx hb hK hP 25 3 rfl rfl (k_in (i := 0) (n := 1) (by decide +kernel)) dL_law_328 ?_
      refine k_nameJ (v := v1.2 0) rfl ?_
      refine lv_iload hx hb dL_law_329 (lv_at hl 0 rfl) ?_
      refine lv_if_eq (tgt := 338) hx hb dL_law_331 (by decide) (fun c6 => ?_) (fun c6 => ?_)
      · have hf := k_T c6 hf
        refine lv_lconst (v := 0) hx hb dL_law_338 (by decide) ?_
        refine W.lcmp hx hb dL_law_339 ?_
        refine lv_if_eq (tgt := 345) hx hb dL_law_340 (by decide) (fun c7 => ?_) (fun c7 => ?_)
        · have hf := k_T c7 hf
          refine lv_goto (tgt := 1650) hx hb dL_law_345 (by decide) ?_
          obtain rfl := k_some hf
          exact kk ls H locs (lv_sub hl [2, 3, 4, 5, 6] rfl) hP hD hS
        · have hf := k_F c7 hf
          refine lv_iconst (v := 0) hx hb dL_law_343 (by decide) ?_
          cases hf
      · have hf := k_F c6 hf
        refine lv_lconst (v := 1) hx hb dL_law_334 (by decide) ?_
        refine lv_goto (tgt := 339) hx hb dL_law_335 (by decide) ?_
        refine W.lcmp hx hb dL_law_339 ?_
        refine lv_if_eq (tgt := 345) hx hb dL_law_340 (by decide) (fun c8 => ?_) (fun c8 => ?_)
        · have hf := k_T c8 hf
          refine lv_goto (tgt := 1650) hx hb dL_law_345 (by decide) ?_
          obtain rfl := k_some hf
          exact kk ls H locs (lv_sub hl [2, 3, 4, 5, 6] rfl) hP hD hS
        · have hf := k_F c8 hf
          refine lv_iconst (v := 0) hx hb dL_law_343 (by decide) ?_
          cases hf
  · have hf := k_F c4 hf
    refine lv_iconst (v := 0) hx hb dL_law_319 (by decide) ?_
    cases hf
def f_case3 (a : Int32) (gm : k_G8) (mLa : Int32) (rS : Nat → Int32) : Option (Int32) :=
  (f_X7_drawn gm).bind fun v1 =>
  (f_X8_drawn mLa rS).bind fun v2 =>
  if v1 = v2.1 then
    some v2.2
  else
    none
set_option maxHeartbeats 4000000 in
set_option maxRecDepth 100000 in
theorem c_case3 (l : Launch) (hl9 : l.stackTraces = false) {p : Program} {e : Env} {s : State} {m : MethodId} {below : List Frame} {meth : Method} {c : Code} {b L : Nat} {xs : Nat → Int32} {D : va_G} {cy : Nat → ClassId} (C : k_LC p s m c b L xs D cy) (Q : State → Prop) (h0 gma sna hia ka ora cha tra ena opa foa mo sa pa kb aa oa wa ca ta na ua : Nat) (gm : k_G8) (sn : k_G8) (hs : Int32) (qs : k_Q4) (k0 : k_G8) (k1 : k_G8) (k2 : k_G8) (k3 : k_G8) (ch : Nat → Int32) (o : k_O5) (tr : k_G8) (es : Int32) (op : Nat → Int32) (fo : Nat → Int32) (has : Int32) (mOp : Int32) (mIk : Int32) (mPa : Int32) (mRu : Int32) (mLa : Int32) (mTy : Int32) (mSp : Int32) (mFr : Int32) (mRe : Int32) (mCa : Int32) (mOr : Int32) (mLe : Int32) (rS : Nat → Int32) (rP : Nat → Int32) (rK : Nat → Int32) (rA : Nat → Int32) (rO : Nat → Int32) (rW : Nat → Int32) (rC : Nat → Int32) (rT : Nat → Int32) (rN : Nat → Int32) (out : Nat → Int64) (i a : Int32) (hi : vp_in (i + 1) L) (ha : a = xs (i + 1).toNatClampNeg) (r : Int32) (hf : f_case3 a gm mLa rS = some r) (cells slots : Nat) (hc : cells + 1 ≤ room_1.cells) (hsl : slots + 6 ≤ room_1.slots) (ls : Array Slot) (H : Heap) (locs : List Loc) (hl : lv_has ls 9 [(4, .int i), (3, .ref ua), (2, .ref mo), (1, .ref h0), (0, .ref b)]) (hP : va_P D vwCl ((wX7 cy h0 gma sna hia ka ora cha tra ena opa foa gm sn hs qs k0 k1 k2 k3 ch o tr es op fo has) ++ ((wX8 cy mo sa pa kb aa oa wa ca ta na mOp mIk mPa mRu mLa mTy mSp mFr mRe mCa mOr mLe rS rP rK rA rO rW rC rT rN) ++ [wL cy ua out])) H) (hD : va_D (k_A s) ((wX7 cy h0 gma sna hia ka ora cha tra ena opa foa gm sn hs qs k0 k1 k2 k3 ch o tr es op fo has) ++ ((wX8 cy mo sa pa kb aa oa wa ca ta na mOp mIk mPa mRu mLa mTy mSp mFr mRe mCa mOr mLe rS rP rK rA rO rW rC rT rN) ++ [wL cy ua out]))) (hS : va_S (k_A s) s.heap H locs) (kk : ∀ (ls : Array Slot) (H : Heap) (locs : List Loc), lv_has ls 9 [(4, .int i), (3, .ref ua), (2, .ref mo), (1, .ref h0), (0, .ref b)] → va_P D vwCl ((wX7 cy h0 gma sna hia ka ora cha tra ena opa foa gm sn hs qs k0 k1 k2 k3 ch o tr es op fo has) ++ ((wX8 cy mo sa pa kb aa oa wa ca ta na mOp mIk mPa mRu r mTy mSp mFr mRe mCa mOr mLe rS rP rK rA rO rW rC rT rN) ++ [wL cy ua out])) H → va_D (k_A s) ((wX7 cy h0 gma sna hia ka ora cha tra ena opa foa gm sn hs qs k0 k1 k2 k3 ch o tr es op fo has) ++ ((wX8 cy mo sa pa kb aa oa wa ca ta na mOp mIk mPa mRu r mTy mSp mFr mRe mCa mOr mLe rS rP rK rA rO rW rC rT rN) ++ [wL cy ua out])) → va_S (k_A s) s.heap H locs → W p l e room_1 s m #[Value.ref b] below meth c H locs (cells + 1) (slots + 6) Q (F0 m 1650 ls [])) : W p l e room_1 s m #[Value.ref b] below meth c H locs cells slots Q (F0 m 348 ls []) := by
  obtain ⟨hx, hb, hml, hown, hts, hX, hbl, hK, hN, hT, hZ, hCx⟩ := C
  have hA : ∀ q : Nat, s.heap.size ≤ q → k_A s q := fun _ h9 => h9
  unfold f_case3 at hf
  refine lv_aload_n hx hb dL_law_348 rfl (lv_at hl 3 rfl) ?_
  obtain ⟨v1, hv1, hf⟩ := k_B hf
  refine k_callHV (As := []) (rest := []) (r := (RX7, TX7, 6)) (ci := 4) (q0 := 0) (isC := [0, 1, 2, 3, 4, 5, 6, 7, 8, 9, 10, 11, 12, 13, 14]) (isR := [15, 16, 17, 18, 19, 20, 21, 22, 23, 24, 25]) (perm := [11, 12, 13, 14, 15, 16, 17, 18, 19, 20, 21, 22, 23, 24, 25, 0, 1, 2, 3, 4, 5, 6, 7, 8, 9, 10]) (w' := ((wX7 cy h0 gma sna hia ka ora cha tra ena opa foa gm sn hs qs k0 k1 k2 k3 ch o tr es op fo has) ++ ((wX8 cy mo sa pa kb aa oa wa ca ta na mOp mIk mPa mRu mLa mTy mSp mFr mRe mCa mOr mLe rS rP rK rA rO rW rC rT rN) ++ [wL cy ua out]))) ⟨hx, hb, hml, hown, hts⟩ (c_X7_drawn l D cy h0 gma sna hia ka ora cha tra ena opa foa gm sn hs qs k0 k1 k2 k3 ch o tr es op fo has  v1 hv1) (cwV 0 hts gL_law_X7_drawn rfl rfl rfl hd_X7_drawn ⟨Nat.le_of_ble_eq_true rfl, Nat.le_of_ble_eq_true rfl⟩) hK hN hP hD hS hA rfl rfl rfl rfl rfl rfl (by decide) rfl rfl rfl hl.1 rfl (Nat.le_of_ble_eq_true rfl) dL_law_349 ⟨Nat.le_of_succ_le hc, k_le6 hsl⟩ (fun H locs hP hD hS => ?_)
  refine lv_aload_n hx hb dL_law_352 rfl (lv_at hl 2 rfl) ?_
  obtain ⟨v2, hv2, hf⟩ := k_B hf
  refine k_callHV (As := []) (rest := [.int v1]) (r := (RX8, TX8, 21)) (ci := 5) (q0 := 15) (isC := [15, 16, 17, 18, 19, 20, 21, 22, 23, 24]) (isR := [0, 1, 2, 3, 4, 5, 6, 7, 8, 9, 10, 11, 12, 13, 14, 25]) (perm := [0, 1, 2, 3, 4, 5, 6, 7, 8, 9, 10, 11, 12, 13, 14, 16, 17, 18, 19, 20, 21, 22, 23, 24, 25, 15]) (w' := ((wX7 cy h0 gma sna hia ka ora cha tra ena opa foa gm sn hs qs k0 k1 k2 k3 ch o tr es op fo has) ++ ((wX8 cy mo sa pa kb aa oa wa ca ta na mOp mIk mPa mRu v2.2 mTy mSp mFr mRe mCa mOr mLe rS rP rK rA rO rW rC rT rN) ++ [wL cy ua out]))) ⟨hx, hb, hml, hown, hts⟩ (c_X8_drawn l D cy mo sa pa kb aa oa wa ca ta na mOp mIk mPa mRu mLa mTy mSp mFr mRe mCa mOr mLe rS rP rK rA rO rW rC rT rN  v2 hv2) (cwV 0 hts gL_law_X8_drawn rfl rfl rfl hd_X8_drawn ⟨Nat.le_of_ble_eq_true rfl, Nat.le_of_ble_eq_true rfl⟩) hK hN hP hD hS hA rfl rfl rfl rfl rfl rfl (by decide) rfl rfl rfl hl.1 rfl (Nat.le_of_ble_eq_true rfl) dL_law_353 ⟨Nat.le_of_succ_le hc, k_le6 hsl⟩ (fun H locs hP hD hS => ?_)
  refine lv_icmp_eq (tgt := 1650) hx hb dL_law_356 (by decide) (fun c3 => ?_) (fun c3 => ?_)
  · have hf := k_T c3 hf
    obtain rfl := k_some hf
    refine W.widen (Nat.le_succ _) (Nat.le_add_right _ 6) ?_
    exact kk ls H locs (lv_sub hl [0, 1, 2, 3, 4] rfl) hP hD hS
  · have hf := k_F c3 hf
    refine lv_iconst (v := 0) hx hb dL_law_359 (by decide) ?_
    cases hf
def f_case4 (a : Int32) (gm : k_G8) (mLa : Int32) (rS : Nat → Int32) (out : Nat → Int64) : Option (Int32 × (Nat → Int64)) :=
  (f_L_fencesOf a gm out).bind fun v1 =>
  (f_X8_fencesOf a mLa rS).bind fun v2 =>
  (f_X8_thrown v2.2).bind fun v3 =>
  if v3 = v1.1 then
    if v1.1 = 0 then
      if (lg_cmp (v1.2 0) v2.1.toInt64) = 0 then
        some (v2.2, v1.2)
      else
        none
    else
      some (v2.2, v1.2)
  else
    none
set_option maxHeartbeats 4000000 in
set_option maxRecDepth 100000 in
theorem c_case4 (l : Launch) (hl9 : l.stackTraces = false) {p : Program} {e : Env} {s : State} {m : MethodId} {below : List Frame} {meth : Method} {c : Code} {b L : Nat} {xs : Nat → Int32} {D : va_G} {cy : Nat → ClassId} (C : k_LC p s m c b L xs D cy) (Q : State → Prop) (h0 gma sna hia ka ora cha tra ena opa foa mo sa pa kb aa oa wa ca ta na ua : Nat) (gm : k_G8) (sn : k_G8) (hs : Int32) (qs : k_Q4) (k0 : k_G8) (k1 : k_G8) (k2 : k_G8) (k3 : k_G8) (ch : Nat → Int32) (o : k_O5) (tr : k_G8) (es : Int32) (op : Nat → Int32) (fo : Nat → Int32) (has : Int32) (mOp : Int32) (mIk : Int32) (mPa : Int32) (mRu : Int32) (mLa : Int32) (mTy : Int32) (mSp : Int32) (mFr : Int32) (mRe : Int32) (mCa : Int32) (mOr : Int32) (mLe : Int32) (rS : Nat → Int32) (rP : Nat → Int32) (rK : Nat → Int32) (rA : Nat → Int32) (rO : Nat → Int32) (rW : Nat → Int32) (rC : Nat → Int32) (rT : Nat → Int32) (rN : Nat → Int32) (out : Nat → Int64) (i a : Int32) (hi : vp_in (i + 1) L) (ha : a = xs (i + 1).toNatClampNeg) (r : Int32 × (Nat → Int64)) (hf : f_case4 a gm mLa rS out = some r) (cells slots : Nat) (hc : cells + 1 ≤ room_1.cells) (hsl : slots + 6 ≤ room_1.slots) (ls : Array Slot) (H : Heap) (locs : List Loc) (hl : lv_has ls 9 [(4, .int i), (3, .ref ua), (2, .ref mo), (1, .ref h0), (0, .ref b)]) (hP : va_P D vwCl ((wX7 cy h0 gma sna hia ka ora cha tra ena opa foa gm sn hs qs k0 k1 k2 k3 ch o tr es op fo has) ++ ((wX8 cy mo sa pa kb aa oa wa ca ta na mOp mIk mPa mRu mLa mTy mSp mFr mRe mCa mOr mLe rS rP rK rA rO rW rC rT rN) ++ [wL cy ua out])) H) (hD : va_D (k_A s) ((wX7 cy h0 gma sna hia ka ora cha tra ena opa foa gm sn hs qs k0 k1 k2 k3 ch o tr es op fo has) ++ ((wX8 cy mo sa pa kb aa oa wa ca ta na mOp mIk mPa mRu mLa mTy mSp mFr mRe mCa mOr mLe rS rP rK rA rO rW rC rT rN) ++ [wL cy ua out]))) (hS : va_S (k_A s) s.heap H locs) (kk : ∀ (ls : Array Slot) (H : Heap) (locs : List Loc), lv_has ls 9 [(4, .int i), (3, .ref ua), (2, .ref mo), (1, .ref h0), (0, .ref b)] → va_P D vwCl ((wX7 cy h0 gma sna hia ka ora cha tra ena opa foa gm sn hs qs k0 k1 k2 k3 ch o tr es op fo has) ++ ((wX8 cy mo sa pa kb aa oa wa ca ta na mOp mIk mPa mRu r.1 mTy mSp mFr mRe mCa mOr mLe rS rP rK rA rO rW rC rT rN) ++ [wL cy ua r.2])) H → va_D (k_A s) ((wX7 cy h0 gma sna hia ka ora cha tra ena opa foa gm sn hs qs k0 k1 k2 k3 ch o tr es op fo has) ++ ((wX8 cy mo sa pa kb aa oa wa ca ta na mOp mIk mPa mRu r.1 mTy mSp mFr mRe mCa mOr mLe rS rP rK rA rO rW rC rT rN) ++ [wL cy ua r.2])) → va_S (k_A s) s.heap H locs → W p l e room_1 s m #[Value.ref b] below meth c H locs (cells + 1) (slots + 6) Q (F0 m 1650 ls [])) : W p l e room_1 s m #[Value.ref b] below meth c H locs cells slots Q (F0 m 361 ls []) := by
  obtain ⟨hx, hb, hml, hown, hts, hX, hbl, hK, hN, hT, hZ, hCx⟩ := C
  have hA : ∀ q : Nat, s.heap.size ≤ q → k_A s q := fun _ h9 => h9
  unfold f_case4 at hf
  refine lv_aload_n hx hb dL_law_361 rfl (lv_at hl 3 rfl) ?_
  refine lv_aload_n hx hb dL_law_362 rfl (lv_at hl 4 rfl) ?_
  refine lv_iload hx hb dL_law_363 (lv_at hl 0 rfl) ?_
  refine lv_iconst (v := 1) hx hb dL_law_365 (by decide) ?_
  refine lv_iadd hx hb dL_law_366 ?_
  refine va_sld hx hb hX hbl (Nat.not_le.mpr hbl) hS hi dL_law_367 ?_
  refine k_name ha ?_
  refine lv_aload_n hx hb dL_law_368 rfl (lv_at hl 1 rfl) ?_
  obtain ⟨v1, hv1, hf⟩ := k_B hf
  refine k_callLS (As := [.ref h0, .int a, .ref ua]) (rest := []) (isC := [0, 1, 2, 3, 4, 5, 6, 7, 8, 9, 10, 11, 12, 13, 14, 25]) (isR := [15, 16, 17, 18, 19, 20, 21, 22, 23, 24]) (perm := [10, 11, 12, 13, 14, 15, 16, 17, 18, 19, 20, 21, 22, 23, 24, 0, 1, 2, 3, 4, 5, 6, 7, 8, 9, 25]) (w' := ((wX7 cy h0 gma sna hia ka ora cha tra ena opa foa gm sn hs qs k0 k1 k2 k3 ch o tr es op fo has) ++ ((wX8 cy mo sa pa kb aa oa wa ca ta na mOp mIk mPa mRu mLa mTy mSp mFr mRe mCa mOr mLe rS rP rK rA rO rW rC rT rN) ++ [wL cy ua v1.2]))) ⟨hx, hb, hml, hown, hts⟩ (c_L_fencesOf l hl9 D cy h0 gma sna hia ka ora cha tra ena opa foa ua gm sn hs qs k0 k1 k2 k3 ch o tr es op fo has out a v1 hv1) (vx_cwSW 3 hts gL_law_L_fencesOf rfl rfl rfl hd_L_fencesOf ⟨Nat.le_of_ble_eq_true rfl, Nat.le_of_ble_eq_true rfl⟩) hK hN hT hZ hCx hP hD hS (fun _ h9 => h9) rfl rfl rfl (by decide) (by decide) rfl (by decide) rfl hl.1 rfl (Nat.le_of_ble_eq_true rfl) dL_law_369 ⟨hc, hsl⟩ (fun H locs hP hD hS => ?_)
  refine lv_istore (lv' := [(5, .int v1.1), (4, .int i), (3, .ref ua), (2, .ref mo), (1, .ref h0), (0, .ref b)]) hx hb dL_law_372 hl (by decide) rfl (fun ls hl => ?_)
  refine lv_aload_n hx hb dL_law_374 rfl (lv_at hl 3 rfl) ?_
  refine lv_aload_n hx hb dL_law_375 rfl (lv_at hl 5 rfl) ?_
  refine lv_iload hx hb dL_law_376 (lv_at hl 1 rfl) ?_
  refine lv_iconst (v := 1) hx hb dL_law_378 (by decide) ?_
  refine lv_iadd hx hb dL_law_379 ?_
  refine va_sld hx hb hX hbl (Nat.not_le.mpr hbl) hS hi dL_law_380 ?_
  refine k_name ha ?_
  obtain ⟨v2, hv2, hf⟩ := k_B hf
  refine k_callHV (As := [.int a]) (rest := []) (r := (RX8, TX8, 21)) (ci := 5) (q0 := 15) (isC := [15, 16, 17, 18, 19, 20, 21, 22, 23, 24]) (isR := [0, 1, 2, 3, 4, 5, 6, 7, 8, 9, 10, 11, 12, 13, 14, 25]) (perm := [0, 1, 2, 3, 4, 5, 6, 7, 8, 9, 10, 11, 12, 13, 14, 16, 17, 18, 19, 20, 21, 22, 23, 24, 25, 15]) (w' := ((wX7 cy h0 gma sna hia ka ora cha tra ena opa foa gm sn hs qs k0 k1 k2 k3 ch o tr es op fo has) ++ ((wX8 cy mo sa pa kb aa oa wa ca ta na mOp mIk mPa mRu v2.2 mTy mSp mFr mRe mCa mOr mLe rS rP rK rA rO rW rC rT rN) ++ [wL cy ua v1.2]))) ⟨hx, hb, hml, hown, hts⟩ (c_X8_fencesOf l D cy mo sa pa kb aa oa wa ca ta na mOp mIk mPa mRu mLa mTy mSp mFr mRe mCa mOr mLe rS rP rK rA rO rW rC rT rN a v2 hv2) (cwV 1 hts gL_law_X8_fencesOf rfl rfl rfl hd_X8_fencesOf ⟨Nat.le_of_ble_eq_true rfl, Nat.le_of_ble_eq_true rfl⟩) hK hN hP hD hS hA rfl rfl rfl rfl rfl rfl (by decide) rfl rfl rfl hl.1 rfl (Nat.le_of_ble_eq_true rfl) dL_law_381 ⟨hc, hsl⟩ (fun H locs hP hD hS => ?_)
  refine lv_istore (lv' := [(6, .int v2.1), (5, .int v1.1), (4, .int i), (3, .ref ua), (2, .ref mo), (1, .ref h0), (0, .ref b)]) hx hb dL_law_384 hl (by decide) rfl (fun ls hl => ?_)
  refine lv_aload_n hx hb dL_law_386 rfl (lv_at hl 4 rfl) ?_
  obtain ⟨v3, hv3, hf⟩ := k_B hf
  refine k_callHV (As := []) (rest := []) (r := (RX8, TX8, 21)) (ci := 5) (q0 := 15) (isC := [15, 16, 17, 18, 19, 20, 21, 22, 23, 24]) (isR := [0, 1, 2, 3, 4, 5, 6, 7, 8, 9, 10, 11, 12, 13, 14, 25]) (perm := [0, 1, 2, 3, 4, 5, 6, 7, 8, 9, 10, 11, 12, 13, 14, 16, 17, 18, 19, 20, 21, 22, 23, 24, 25, 15]) (w' := ((wX7 cy h0 gma sna hia ka ora cha tra ena opa foa gm sn hs qs k0 k1 k2 k3 ch o tr es op fo has) ++ ((wX8 cy mo sa pa kb aa oa wa ca ta na mOp mIk mPa mRu v2.2 mTy mSp mFr mRe mCa mOr mLe rS rP rK rA rO rW rC rT rN) ++ [wL cy ua v1.2]))) ⟨hx, hb, hml, hown, hts⟩ (c_X8_thrown l D cy mo sa pa kb aa oa wa ca ta na mOp mIk mPa mRu v2.2 mTy mSp mFr mRe mCa mOr mLe rS rP rK rA rO rW rC rT rN  v3 hv3) (cwV 0 hts gL_law_X8_thrown rfl rfl rfl hd_X8_thrown ⟨Nat.le_of_ble_eq_true rfl, Nat.le_of_ble_eq_true rfl⟩) hK hN hP hD hS hA rfl rfl rfl rfl rfl rfl (by decide) rfl rfl rfl hl.1 rfl (Nat.le_of_ble_eq_true rfl) dL_law_387 ⟨hc, hsl⟩ (fun H locs hP hD hS => ?_)
  refine lv_iload hx hb dL_law_390 (lv_at hl 1 rfl) ?_
  refine lv_icmp_eq (tgt := 397) hx hb dL_law_392 (by decide) (fun c4 => ?_) (fun c4 => ?_)
  · have hf := k_T c4 hf
    refine lv_iload hx hb dL_law_397 (lv_at hl 1 rfl) ?_
    refine lv_if_ne (tgt := 414) hx hb dL_law_399 (by decide) (fun c5 => ?_) (fun c5 => ?_)
    · have hf := k_F c5 hf
      refine lv_goto (tgt := 1650) hx hb dL_law_414 (by decide) ?_
      obtain rfl := k_some hf
      exact kk ls H locs (lv_sub hl [2, 3, 4, 5, 6] rfl) hP hD hS
    · have hf := k_T c5 hf
      refine lv_aload_n hx hb dL_law_402 rfl (lv_at hl 3 rfl) ?_
      refine lv_iconst (v := 0) hx hb dL_law_403 (by decide) ?_
      refine va_lald hx hb hK hP 25 3 rfl rfl (k_in (i := 0) (n := 1) (by decide +kernel)) dL_law_404 ?_
      refine k_nameJ (v := v1.2 0) rfl ?_
      refine lv_iload hx hb dL_law_405 (lv_at hl 0 rfl) ?_
      refine lv_i2l hx hb dL_law_407 rfl ?_
      refine W.lcmp hx hb dL_law_408 ?_
      refine lv_if_eq (tgt := 414) hx hb dL_law_409 (by decide) (fun c6 => ?_) (fun c6 => ?_)
      · have hf := k_T c6 hf
        refine lv_goto (tgt := 1650) hx hb dL_law_414 (by decide) ?_
        obtain rfl := k_some hf
        exact kk ls H locs (lv_sub hl [2, 3, 4, 5, 6] rfl) hP hD hS
      · have hf := k_F c6 hf
        refine lv_iconst (v := 0) hx hb dL_law_412 (by decide) ?_
        cases hf
  · have hf := k_F c4 hf
    refine lv_iconst (v := 0) hx hb dL_law_395 (by decide) ?_
    cases hf
def f_case5 (a : Int32) (gm : k_G8) (mLa : Int32) (rS : Nat → Int32) (out : Nat → Int64) : Option (Int32 × (Nat → Int64)) :=
  (f_L_ownerOf a gm out).bind fun v1 =>
  (f_X8_ownerOf a mLa rS).bind fun v2 =>
  (f_X8_thrown v2.2).bind fun v3 =>
  if v3 = v1.1 then
    if v1.1 = 0 then
      if (lg_cmp (v1.2 0) v2.1.toInt64) = 0 then
        some (v2.2, v1.2)
      else
        none
    else
      some (v2.2, v1.2)
  else
    none
set_option maxHeartbeats 4000000 in
set_option maxRecDepth 100000 in
theorem c_case5 (l : Launch) (hl9 : l.stackTraces = false) {p : Program} {e : Env} {s : State} {m : MethodId} {below : List Frame} {meth : Method} {c : Code} {b L : Nat} {xs : Nat → Int32} {D : va_G} {cy : Nat → ClassId} (C : k_LC p s m c b L xs D cy) (Q : State → Prop) (h0 gma sna hia ka ora cha tra ena opa foa mo sa pa kb aa oa wa ca ta na ua : Nat) (gm : k_G8) (sn : k_G8) (hs : Int32) (qs : k_Q4) (k0 : k_G8) (k1 : k_G8) (k2 : k_G8) (k3 : k_G8) (ch : Nat → Int32) (o : k_O5) (tr : k_G8) (es : Int32) (op : Nat → Int32) (fo : Nat → Int32) (has : Int32) (mOp : Int32) (mIk : Int32) (mPa : Int32) (mRu : Int32) (mLa : Int32) (mTy : Int32) (mSp : Int32) (mFr : Int32) (mRe : Int32) (mCa : Int32) (mOr : Int32) (mLe : Int32) (rS : Nat → Int32) (rP : Nat → Int32) (rK : Nat → Int32) (rA : Nat → Int32) (rO : Nat → Int32) (rW : Nat → Int32) (rC : Nat → Int32) (rT : Nat → Int32) (rN : Nat → Int32) (out : Nat → Int64) (i a : Int32) (hi : vp_in (i + 1) L) (ha : a = xs (i + 1).toNatClampNeg) (r : Int32 × (Nat → Int64)) (hf : f_case5 a gm mLa rS out = some r) (cells slots : Nat) (hc : cells + 1 ≤ room_1.cells) (hsl : slots + 6 ≤ room_1.slots) (ls : Array Slot) (H : Heap) (locs : List Loc) (hl : lv_has ls 9 [(4, .int i), (3, .ref ua), (2, .ref mo), (1, .ref h0), (0, .ref b)]) (hP : va_P D vwCl ((wX7 cy h0 gma sna hia ka ora cha tra ena opa foa gm sn hs qs k0 k1 k2 k3 ch o tr es op fo has) ++ ((wX8 cy mo sa pa kb aa oa wa ca ta na mOp mIk mPa mRu mLa mTy mSp mFr mRe mCa mOr mLe rS rP rK rA rO rW rC rT rN) ++ [wL cy ua out])) H) (hD : va_D (k_A s) ((wX7 cy h0 gma sna hia ka ora cha tra ena opa foa gm sn hs qs k0 k1 k2 k3 ch o tr es op fo has) ++ ((wX8 cy mo sa pa kb aa oa wa ca ta na mOp mIk mPa mRu mLa mTy mSp mFr mRe mCa mOr mLe rS rP rK rA rO rW rC rT rN) ++ [wL cy ua out]))) (hS : va_S (k_A s) s.heap H locs) (kk : ∀ (ls : Array Slot) (H : Heap) (locs : List Loc), lv_has ls 9 [(4, .int i), (3, .ref ua), (2, .ref mo), (1, .ref h0), (0, .ref b)] → va_P D vwCl ((wX7 cy h0 gma sna hia ka ora cha tra ena opa foa gm sn hs qs k0 k1 k2 k3 ch o tr es op fo has) ++ ((wX8 cy mo sa pa kb aa oa wa ca ta na mOp mIk mPa mRu r.1 mTy mSp mFr mRe mCa mOr mLe rS rP rK rA rO rW rC rT rN) ++ [wL cy ua r.2])) H → va_D (k_A s) ((wX7 cy h0 gma sna hia ka ora cha tra ena opa foa gm sn hs qs k0 k1 k2 k3 ch o tr es op fo has) ++ ((wX8 cy mo sa pa kb aa oa wa ca ta na mOp mIk mPa mRu r.1 mTy mSp mFr mRe mCa mOr mLe rS rP rK rA rO rW rC rT rN) ++ [wL cy ua r.2])) → va_S (k_A s) s.heap H locs → W p l e room_1 s m #[Value.ref b] below meth c H locs (cells + 1) (slots + 6) Q (F0 m 1650 ls [])) : W p l e room_1 s m #[Value.ref b] below meth c H locs cells slots Q (F0 m 417 ls []) := by
  obtain ⟨hx, hb, hml, hown, hts, hX, hbl, hK, hN, hT, hZ, hCx⟩ := C
  have hA : ∀ q : Nat, s.heap.size ≤ q → k_A s q := fun _ h9 => h9
  unfold f_case5 at hf
  refine lv_aload_n hx hb dL_law_417 rfl (lv_at hl 3 rfl) ?_
  refine lv_aload_n hx hb dL_law_418 rfl (lv_at hl 4 rfl) ?_
  refine lv_iload hx hb dL_law_419 (lv_at hl 0 rfl) ?_
  refine lv_iconst (v := 1) hx hb dL_law_421 (by decide) ?_
  refine lv_iadd hx hb dL_law_422 ?_
  refine va_sld hx hb hX hbl (Nat.not_le.mpr hbl) hS hi dL_law_423 ?_
  refine k_name ha ?_
  refine lv_aload_n hx hb dL_law_424 rfl (lv_at hl 1 rfl) ?_
  obtain ⟨v1, hv1, hf⟩ := k_B hf
  refine k_callLS (As := [.ref h0, .int a, .ref ua]) (rest := []) (isC := [0, 1, 2, 3, 4, 5, 6, 7, 8, 9, 10, 11, 12, 13, 14, 25]) (isR := [15, 16, 17, 18, 19, 20, 21, 22, 23, 24]) (perm := [10, 11, 12, 13, 14, 15, 16, 17, 18, 19, 20, 21, 22, 23, 24, 0, 1, 2, 3, 4, 5, 6, 7, 8, 9, 25]) (w' := ((wX7 cy h0 gma sna hia ka ora cha tra ena opa foa gm sn hs qs k0 k1 k2 k3 ch o tr es op fo has) ++ ((wX8 cy mo sa pa kb aa oa wa ca ta na mOp mIk mPa mRu mLa mTy mSp mFr mRe mCa mOr mLe rS rP rK rA rO rW rC rT rN) ++ [wL cy ua v1.2]))) ⟨hx, hb, hml, hown, hts⟩ (c_L_ownerOf l hl9 D cy h0 gma sna hia ka ora cha tra ena opa foa ua gm sn hs qs k0 k1 k2 k3 ch o tr es op fo has out a v1 hv1) (vx_cwSW 3 hts gL_law_L_ownerOf rfl rfl rfl hd_L_ownerOf ⟨Nat.le_of_ble_eq_true rfl, Nat.le_of_ble_eq_true rfl⟩) hK hN hT hZ hCx hP hD hS (fun _ h9 => h9) rfl rfl rfl (by decide) (by decide) rfl (by decide) rfl hl.1 rfl (Nat.le_of_ble_eq_true rfl) dL_law_425 ⟨hc, hsl⟩ (fun H locs hP hD hS => ?_)
  refine lv_istore (lv' := [(5, .int v1.1), (4, .int i), (3, .ref ua), (2, .ref mo), (1, .ref h0), (0, .ref b)]) hx hb dL_law_428 hl (by decide) rfl (fun ls hl => ?_)
  refine lv_aload_n hx hb dL_law_430 rfl (lv_at hl 3 rfl) ?_
  refine lv_aload_n hx hb dL_law_431 rfl (lv_at hl 5 rfl) ?_
  refine lv_iload hx hb dL_law_432 (lv_at hl 1 rfl) ?_
  refine lv_iconst (v := 1) hx hb dL_law_434 (by decide) ?_
  refine lv_iadd hx hb dL_law_435 ?_
  refine va_sld hx hb hX hbl (Nat.not_le.mpr hbl) hS hi dL_law_436 ?_
  refine k_name ha ?_
  obtain ⟨v2, hv2, hf⟩ := k_B hf
  refine k_callHV (As := [.int a]) (rest := []) (r := (RX8, TX8, 21)) (ci := 5) (q0 := 15) (isC := [15, 16, 17, 18, 19, 20, 21, 22, 23, 24]) (isR := [0, 1, 2, 3, 4, 5, 6, 7, 8, 9, 10, 11, 12, 13, 14, 25]) (perm := [0, 1, 2, 3, 4, 5, 6, 7, 8, 9, 10, 11, 12, 13, 14, 16, 17, 18, 19, 20, 21, 22, 23, 24, 25, 15]) (w' := ((wX7 cy h0 gma sna hia ka ora cha tra ena opa foa gm sn hs qs k0 k1 k2 k3 ch o tr es op fo has) ++ ((wX8 cy mo sa pa kb aa oa wa ca ta na mOp mIk mPa mRu v2.2 mTy mSp mFr mRe mCa mOr mLe rS rP rK rA rO rW rC rT rN) ++ [wL cy ua v1.2]))) ⟨hx, hb, hml, hown, hts⟩ (c_X8_ownerOf l D cy mo sa pa kb aa oa wa ca ta na mOp mIk mPa mRu mLa mTy mSp mFr mRe mCa mOr mLe rS rP rK rA rO rW rC rT rN a v2 hv2) (cwV 1 hts gL_law_X8_ownerOf rfl rfl rfl hd_X8_ownerOf ⟨Nat.le_of_ble_eq_true rfl, Nat.le_of_ble_eq_true rfl⟩) hK hN hP hD hS hA rfl rfl rfl rfl rfl rfl (by decide) rfl rfl rfl hl.1 rfl (Nat.le_of_ble_eq_true rfl) dL_law_437 ⟨hc, hsl⟩ (fun H locs hP hD hS => ?_)
  refine lv_istore (lv' := [(6, .int v2.1), (5, .int v1.1), (4, .int i), (3, .ref ua), (2, .ref mo), (1, .ref h0), (0, .ref b)]) hx hb dL_law_440 hl (by decide) rfl (fun ls hl => ?_)
  refine lv_aload_n hx hb dL_law_442 rfl (lv_at hl 4 rfl) ?_
  obtain ⟨v3, hv3, hf⟩ := k_B hf
  refine k_callHV (As := []) (rest := []) (r := (RX8, TX8, 21)) (ci := 5) (q0 := 15) (isC := [15, 16, 17, 18, 19, 20, 21, 22, 23, 24]) (isR := [0, 1, 2, 3, 4, 5, 6, 7, 8, 9, 10, 11, 12, 13, 14, 25]) (perm := [0, 1, 2, 3, 4, 5, 6, 7, 8, 9, 10, 11, 12, 13, 14, 16, 17, 18, 19, 20, 21, 22, 23, 24, 25, 15]) (w' := ((wX7 cy h0 gma sna hia ka ora cha tra ena opa foa gm sn hs qs k0 k1 k2 k3 ch o tr es op fo has) ++ ((wX8 cy mo sa pa kb aa oa wa ca ta na mOp mIk mPa mRu v2.2 mTy mSp mFr mRe mCa mOr mLe rS rP rK rA rO rW rC rT rN) ++ [wL cy ua v1.2]))) ⟨hx, hb, hml, hown, hts⟩ (c_X8_thrown l D cy mo sa pa kb aa oa wa ca ta na mOp mIk mPa mRu v2.2 mTy mSp mFr mRe mCa mOr mLe rS rP rK rA rO rW rC rT rN  v3 hv3) (cwV 0 hts gL_law_X8_thrown rfl rfl rfl hd_X8_thrown ⟨Nat.le_of_ble_eq_true rfl, Nat.le_of_ble_eq_true rfl⟩) hK hN hP hD hS hA rfl rfl rfl rfl rfl rfl (by decide) rfl rfl rfl hl.1 rfl (Nat.le_of_ble_eq_true rfl) dL_law_443 ⟨hc, hsl⟩ (fun H locs hP hD hS => ?_)
  refine lv_iload hx hb dL_law_446 (lv_at hl 1 rfl) ?_
  refine lv_icmp_eq (tgt := 453) hx hb dL_law_448 (by decide) (fun c4 => ?_) (fun c4 => ?_)
  · have hf := k_T c4 hf
    refine lv_iload hx hb dL_law_453 (lv_at hl 1 rfl) ?_
    refine lv_if_ne (tgt := 470) hx hb dL_law_455 (by decide) (fun c5 => ?_) (fun c5 => ?_)
    · have hf := k_F c5 hf
      refine lv_goto (tgt := 1650) hx hb dL_law_470 (by decide) ?_
      obtain rfl := k_some hf
      exact kk ls H locs (lv_sub hl [2, 3, 4, 5, 6] rfl) hP hD hS
    · have hf := k_T c5 hf
      refine lv_aload_n hx hb dL_law_458 rfl (lv_at hl 3 rfl) ?_
      refine lv_iconst (v := 0) hx hb dL_law_459 (by decide) ?_
      refine va_lald hx hb hK hP 25 3 rfl rfl (k_in (i := 0) (n := 1) (by decide +kernel)) dL_law_460 ?_
      refine k_nameJ (v := v1.2 0) rfl ?_
      refine lv_iload hx hb dL_law_461 (lv_at hl 0 rfl) ?_
      refine lv_i2l hx hb dL_law_463 rfl ?_
      refine W.lcmp hx hb dL_law_464 ?_
      refine lv_if_eq (tgt := 470) hx hb dL_law_465 (by decide) (fun c6 => ?_) (fun c6 => ?_)
      · have hf := k_T c6 hf
        refine lv_goto (tgt := 1650) hx hb dL_law_470 (by decide) ?_
        obtain rfl := k_some hf
        exact kk ls H locs (lv_sub hl [2, 3, 4, 5, 6] rfl) hP hD hS
      · have hf := k_F c6 hf
        refine lv_iconst (v := 0) hx hb dL_law_468 (by decide) ?_
        cases hf
  · have hf := k_F c4 hf
    refine lv_iconst (v := 0) hx hb dL_law_451 (by decide) ?_
    cases hf
def f_case6 (a : Int32) (gm : k_G8) (mLa : Int32) (rS : Nat → Int32) (out : Nat → Int64) : Option (Int32 × (Nat → Int64)) :=
  (f_L_boxesOf a gm out).bind fun v1 =>
  (f_X8_boxesOf a mLa rS).bind fun v2 =>
  (f_X8_thrown v2.2).bind fun v3 =>
  if v3 = v1.1 then
    if v1.1 = 0 then
      if (lg_cmp (v1.2 0) v2.1.toInt64) = 0 then
        some (v2.2, v1.2)
      else
        none
    else
      some (v2.2, v1.2)
  else
    none
set_option maxHeartbeats 4000000 in
set_option maxRecDepth 100000 in
theorem c_case6 (l : Launch) (hl9 : l.stackTraces = false) {p : Program} {e : Env} {s : State} {m : MethodId} {below : List Frame} {meth : Method} {c : Code} {b L : Nat} {xs : Nat → Int32} {D : va_G} {cy : Nat → ClassId} (C : k_LC p s m c b L xs D cy) (Q : State → Prop) (h0 gma sna hia ka ora cha tra ena opa foa mo sa pa kb aa oa wa ca ta na ua : Nat) (gm : k_G8) (sn : k_G8) (hs : Int32) (qs : k_Q4) (k0 : k_G8) (k1 : k_G8) (k2 : k_G8) (k3 : k_G8) (ch : Nat → Int32) (o : k_O5) (tr : k_G8) (es : Int32) (op : Nat → Int32) (fo : Nat → Int32) (has : Int32) (mOp : Int32) (mIk : Int32) (mPa : Int32) (mRu : Int32) (mLa : Int32) (mTy : Int32) (mSp : Int32) (mFr : Int32) (mRe : Int32) (mCa : Int32) (mOr : Int32) (mLe : Int32) (rS : Nat → Int32) (rP : Nat → Int32) (rK : Nat → Int32) (rA : Nat → Int32) (rO : Nat → Int32) (rW : Nat → Int32) (rC : Nat → Int32) (rT : Nat → Int32) (rN : Nat → Int32) (out : Nat → Int64) (i a : Int32) (hi : vp_in (i + 1) L) (ha : a = xs (i + 1).toNatClampNeg) (r : Int32 × (Nat → Int64)) (hf : f_case6 a gm mLa rS out = some r) (cells slots : Nat) (hc : cells + 1 ≤ room_1.cells) (hsl : slots + 6 ≤ room_1.slots) (ls : Array Slot) (H : Heap) (locs : List Loc) (hl : lv_has ls 9 [(4, .int i), (3, .ref ua), (2, .ref mo), (1, .ref h0), (0, .ref b)]) (hP : va_P D vwCl ((wX7 cy h0 gma sna hia ka ora cha tra ena opa foa gm sn hs qs k0 k1 k2 k3 ch o tr es op fo has) ++ ((wX8 cy mo sa pa kb aa oa wa ca ta na mOp mIk mPa mRu mLa mTy mSp mFr mRe mCa mOr mLe rS rP rK rA rO rW rC rT rN) ++ [wL cy ua out])) H) (hD : va_D (k_A s) ((wX7 cy h0 gma sna hia ka ora cha tra ena opa foa gm sn hs qs k0 k1 k2 k3 ch o tr es op fo has) ++ ((wX8 cy mo sa pa kb aa oa wa ca ta na mOp mIk mPa mRu mLa mTy mSp mFr mRe mCa mOr mLe rS rP rK rA rO rW rC rT rN) ++ [wL cy ua out]))) (hS : va_S (k_A s) s.heap H locs) (kk : ∀ (ls : Array Slot) (H : Heap) (locs : List Loc), lv_has ls 9 [(4, .int i), (3, .ref ua), (2, .ref mo), (1, .ref h0), (0, .ref b)] → va_P D vwCl ((wX7 cy h0 gma sna hia ka ora cha tra ena opa foa gm sn hs qs k0 k1 k2 k3 ch o tr es op fo has) ++ ((wX8 cy mo sa pa kb aa oa wa ca ta na mOp mIk mPa mRu r.1 mTy mSp mFr mRe mCa mOr mLe rS rP rK rA rO rW rC rT rN) ++ [wL cy ua r.2])) H → va_D (k_A s) ((wX7 cy h0 gma sna hia ka ora cha tra ena opa foa gm sn hs qs k0 k1 k2 k3 ch o tr es op fo has) ++ ((wX8 cy mo sa pa kb aa oa wa ca ta na mOp mIk mPa mRu r.1 mTy mSp mFr mRe mCa mOr mLe rS rP rK rA rO rW rC rT rN) ++ [wL cy ua r.2])) → va_S (k_A s) s.heap H locs → W p l e room_1 s m #[Value.ref b] below meth c H locs (cells + 1) (slots + 6) Q (F0 m 1650 ls [])) : W p l e room_1 s m #[Value.ref b] below meth c H locs cells slots Q (F0 m 473 ls []) := by
  obtain ⟨hx, hb, hml, hown, hts, hX, hbl, hK, hN, hT, hZ, hCx⟩ := C
  have hA : ∀ q : Nat, s.heap.size ≤ q → k_A s q := fun _ h9 => h9
  unfold f_case6 at hf
  refine lv_aload_n hx hb dL_law_473 rfl (lv_at hl 3 rfl) ?_
  refine lv_aload_n hx hb dL_law_474 rfl (lv_at hl 4 rfl) ?_
  refine lv_iload hx hb dL_law_475 (lv_at hl 0 rfl) ?_
  refine lv_iconst (v := 1) hx hb dL_law_477 (by decide) ?_
  refine lv_iadd hx hb dL_law_478 ?_
  refine va_sld hx hb hX hbl (Nat.not_le.mpr hbl) hS hi dL_law_479 ?_
  refine k_name ha ?_
  refine lv_aload_n hx hb dL_law_480 rfl (lv_at hl 1 rfl) ?_
  obtain ⟨v1, hv1, hf⟩ := k_B hf
  refine k_callLS (As := [.ref h0, .int a, .ref ua]) (rest := []) (isC := [0, 1, 2, 3, 4, 5, 6, 7, 8, 9, 10, 11, 12, 13, 14, 25]) (isR := [15, 16, 17, 18, 19, 20, 21, 22, 23, 24]) (perm := [10, 11, 12, 13, 14, 15, 16, 17, 18, 19, 20, 21, 22, 23, 24, 0, 1, 2, 3, 4, 5, 6, 7, 8, 9, 25]) (w' := ((wX7 cy h0 gma sna hia ka ora cha tra ena opa foa gm sn hs qs k0 k1 k2 k3 ch o tr es op fo has) ++ ((wX8 cy mo sa pa kb aa oa wa ca ta na mOp mIk mPa mRu mLa mTy mSp mFr mRe mCa mOr mLe rS rP rK rA rO rW rC rT rN) ++ [wL cy ua v1.2]))) ⟨hx, hb, hml, hown, hts⟩ (c_L_boxesOf l hl9 D cy h0 gma sna hia ka ora cha tra ena opa foa ua gm sn hs qs k0 k1 k2 k3 ch o tr es op fo has out a v1 hv1) (vx_cwSW 3 hts gL_law_L_boxesOf rfl rfl rfl hd_L_boxesOf ⟨Nat.le_of_ble_eq_true rfl, Nat.le_of_ble_eq_true rfl⟩) hK hN hT hZ hCx hP hD hS (fun _ h9 => h9) rfl rfl rfl (by decide) (by decide) rfl (by decide) rfl hl.1 rfl (Nat.le_of_ble_eq_true rfl) dL_law_481 ⟨hc, hsl⟩ (fun H locs hP hD hS => ?_)
  refine lv_istore (lv' := [(5, .int v1.1), (4, .int i), (3, .ref ua), (2, .ref mo), (1, .ref h0), (0, .ref b)]) hx hb dL_law_484 hl (by decide) rfl (fun ls hl => ?_)
  refine lv_aload_n hx hb dL_law_486 rfl (lv_at hl 3 rfl) ?_
  refine lv_aload_n hx hb dL_law_487 rfl (lv_at hl 5 rfl) ?_
  refine lv_iload hx hb dL_law_488 (lv_at hl 1 rfl) ?_
  refine lv_iconst (v := 1) hx hb dL_law_490 (by decide) ?_
  refine lv_iadd hx hb dL_law_491 ?_
  refine va_sld hx hb hX hbl (Nat.not_le.mpr hbl) hS hi dL_law_492 ?_
  refine k_name ha ?_
  obtain ⟨v2, hv2, hf⟩ := k_B hf
  refine k_callHV (As := [.int a]) (rest := []) (r := (RX8, TX8, 21)) (ci := 5) (q0 := 15) (isC := [15, 16, 17, 18, 19, 20, 21, 22, 23, 24]) (isR := [0, 1, 2, 3, 4, 5, 6, 7, 8, 9, 10, 11, 12, 13, 14, 25]) (perm := [0, 1, 2, 3, 4, 5, 6, 7, 8, 9, 10, 11, 12, 13, 14, 16, 17, 18, 19, 20, 21, 22, 23, 24, 25, 15]) (w' := ((wX7 cy h0 gma sna hia ka ora cha tra ena opa foa gm sn hs qs k0 k1 k2 k3 ch o tr es op fo has) ++ ((wX8 cy mo sa pa kb aa oa wa ca ta na mOp mIk mPa mRu v2.2 mTy mSp mFr mRe mCa mOr mLe rS rP rK rA rO rW rC rT rN) ++ [wL cy ua v1.2]))) ⟨hx, hb, hml, hown, hts⟩ (c_X8_boxesOf l D cy mo sa pa kb aa oa wa ca ta na mOp mIk mPa mRu mLa mTy mSp mFr mRe mCa mOr mLe rS rP rK rA rO rW rC rT rN a v2 hv2) (cwV 1 hts gL_law_X8_boxesOf rfl rfl rfl hd_X8_boxesOf ⟨Nat.le_of_ble_eq_true rfl, Nat.le_of_ble_eq_true rfl⟩) hK hN hP hD hS hA rfl rfl rfl rfl rfl rfl (by decide) rfl rfl rfl hl.1 rfl (Nat.le_of_ble_eq_true rfl) dL_law_493 ⟨hc, hsl⟩ (fun H locs hP hD hS => ?_)
  refine lv_istore (lv' := [(6, .int v2.1), (5, .int v1.1), (4, .int i), (3, .ref ua), (2, .ref mo), (1, .ref h0), (0, .ref b)]) hx hb dL_law_496 hl (by decide) rfl (fun ls hl => ?_)
  refine lv_aload_n hx hb dL_law_498 rfl (lv_at hl 4 rfl) ?_
  obtain ⟨v3, hv3, hf⟩ := k_B hf
  refine k_callHV (As := []) (rest := []) (r := (RX8, TX8, 21)) (ci := 5) (q0 := 15) (isC := [15, 16, 17, 18, 19, 20, 21, 22, 23, 24]) (isR := [0, 1, 2, 3, 4, 5, 6, 7, 8, 9, 10, 11, 12, 13, 14, 25]) (perm := [0, 1, 2, 3, 4, 5, 6, 7, 8, 9, 10, 11, 12, 13, 14, 16, 17, 18, 19, 20, 21, 22, 23, 24, 25, 15]) (w' := ((wX7 cy h0 gma sna hia ka ora cha tra ena opa foa gm sn hs qs k0 k1 k2 k3 ch o tr es op fo has) ++ ((wX8 cy mo sa pa kb aa oa wa ca ta na mOp mIk mPa mRu v2.2 mTy mSp mFr mRe mCa mOr mLe rS rP rK rA rO rW rC rT rN) ++ [wL cy ua v1.2]))) ⟨hx, hb, hml, hown, hts⟩ (c_X8_thrown l D cy mo sa pa kb aa oa wa ca ta na mOp mIk mPa mRu v2.2 mTy mSp mFr mRe mCa mOr mLe rS rP rK rA rO rW rC rT rN  v3 hv3) (cwV 0 hts gL_law_X8_thrown rfl rfl rfl hd_X8_thrown ⟨Nat.le_of_ble_eq_true rfl, Nat.le_of_ble_eq_true rfl⟩) hK hN hP hD hS hA rfl rfl rfl rfl rfl rfl (by decide) rfl rfl rfl hl.1 rfl (Nat.le_of_ble_eq_true rfl) dL_law_499 ⟨hc, hsl⟩ (fun H locs hP hD hS => ?_)
  refine lv_iload hx hb dL_law_502 (lv_at hl 1 rfl) ?_
  refine lv_icmp_eq (tgt := 509) hx hb dL_law_504 (by decide) (fun c4 => ?_) (fun c4 => ?_)
  · have hf := k_T c4 hf
    refine lv_iload hx hb dL_law_509 (lv_at hl 1 rfl) ?_
    refine lv_if_ne (tgt := 526) hx hb dL_law_511 (by decide) (fun c5 => ?_) (fun c5 => ?_)
    · have hf := k_F c5 hf
      refine lv_goto (tgt := 1650) hx hb dL_law_526 (by decide) ?_
      obtain rfl := k_some hf
      exact kk ls H locs (lv_sub hl [2, 3, 4, 5, 6] rfl) hP hD hS
    · have hf := k_T c5 hf
      refine lv_aload_n hx hb dL_law_514 rfl (lv_at hl 3 rfl) ?_
      refine lv_iconst (v := 0) hx hb dL_law_515 (by decide) ?_
      refine va_lald hx hb hK hP 25 3 rfl rfl (k_in (i := 0) (n := 1) (by decide +kernel)) dL_law_516 ?_
      refine k_nameJ (v := v1.2 0) rfl ?_
      refine lv_iload hx hb dL_law_517 (lv_at hl 0 rfl) ?_
      refine lv_i2l hx hb dL_law_519 rfl ?_
      refine W.lcmp hx hb dL_law_520 ?_
      refine lv_if_eq (tgt := 526) hx hb dL_law_521 (by decide) (fun c6 => ?_) (fun c6 => ?_)
      · have hf := k_T c6 hf
        refine lv_goto (tgt := 1650) hx hb dL_law_526 (by decide) ?_
        obtain rfl := k_some hf
        exact kk ls H locs (lv_sub hl [2, 3, 4, 5, 6] rfl) hP hD hS
      · have hf := k_F c6 hf
        refine lv_iconst (v := 0) hx hb dL_law_524 (by decide) ?_
        cases hf
  · have hf := k_F c4 hf
    refine lv_iconst (v := 0) hx hb dL_law_507 (by decide) ?_
    cases hf
def f_case7 (a : Int32) (gm : k_G8) (mLa : Int32) (rS : Nat → Int32) (out : Nat → Int64) : Option (Int32 × (Nat → Int64)) :=
  (f_L_boxesWith a gm out).bind fun v1 =>
  (f_X8_boxesWith a mLa rS).bind fun v2 =>
  (f_X8_thrown v2.2).bind fun v3 =>
  if v3 = v1.1 then
    if v1.1 = 0 then
      if (lg_cmp (v1.2 0) v2.1.toInt64) = 0 then
        some (v2.2, v1.2)
      else
        none
    else
      some (v2.2, v1.2)
  else
    none
set_option maxHeartbeats 4000000 in
set_option maxRecDepth 100000 in
theorem c_case7 (l : Launch) (hl9 : l.stackTraces = false) {p : Program} {e : Env} {s : State} {m : MethodId} {below : List Frame} {meth : Method} {c : Code} {b L : Nat} {xs : Nat → Int32} {D : va_G} {cy : Nat → ClassId} (C : k_LC p s m c b L xs D cy) (Q : State → Prop) (h0 gma sna hia ka ora cha tra ena opa foa mo sa pa kb aa oa wa ca ta na ua : Nat) (gm : k_G8) (sn : k_G8) (hs : Int32) (qs : k_Q4) (k0 : k_G8) (k1 : k_G8) (k2 : k_G8) (k3 : k_G8) (ch : Nat → Int32) (o : k_O5) (tr : k_G8) (es : Int32) (op : Nat → Int32) (fo : Nat → Int32) (has : Int32) (mOp : Int32) (mIk : Int32) (mPa : Int32) (mRu : Int32) (mLa : Int32) (mTy : Int32) (mSp : Int32) (mFr : Int32) (mRe : Int32) (mCa : Int32) (mOr : Int32) (mLe : Int32) (rS : Nat → Int32) (rP : Nat → Int32) (rK : Nat → Int32) (rA : Nat → Int32) (rO : Nat → Int32) (rW : Nat → Int32) (rC : Nat → Int32) (rT : Nat → Int32) (rN : Nat → Int32) (out : Nat → Int64) (i a : Int32) (hi : vp_in (i + 1) L) (ha : a = xs (i + 1).toNatClampNeg) (r : Int32 × (Nat → Int64)) (hf : f_case7 a gm mLa rS out = some r) (cells slots : Nat) (hc : cells + 1 ≤ room_1.cells) (hsl : slots + 6 ≤ room_1.slots) (ls : Array Slot) (H : Heap) (locs : List Loc) (hl : lv_has ls 9 [(4, .int i), (3, .ref ua), (2, .ref mo), (1, .ref h0), (0, .ref b)]) (hP : va_P D vwCl ((wX7 cy h0 gma sna hia ka ora cha tra ena opa foa gm sn hs qs k0 k1 k2 k3 ch o tr es op fo has) ++ ((wX8 cy mo sa pa kb aa oa wa ca ta na mOp mIk mPa mRu mLa mTy mSp mFr mRe mCa mOr mLe rS rP rK rA rO rW rC rT rN) ++ [wL cy ua out])) H) (hD : va_D (k_A s) ((wX7 cy h0 gma sna hia ka ora cha tra ena opa foa gm sn hs qs k0 k1 k2 k3 ch o tr es op fo has) ++ ((wX8 cy mo sa pa kb aa oa wa ca ta na mOp mIk mPa mRu mLa mTy mSp mFr mRe mCa mOr mLe rS rP rK rA rO rW rC rT rN) ++ [wL cy ua out]))) (hS : va_S (k_A s) s.heap H locs) (kk : ∀ (ls : Array Slot) (H : Heap) (locs : List Loc), lv_has ls 9 [(4, .int i), (3, .ref ua), (2, .ref mo), (1, .ref h0), (0, .ref b)] → va_P D vwCl ((wX7 cy h0 gma sna hia ka ora cha tra ena opa foa gm sn hs qs k0 k1 k2 k3 ch o tr es op fo has) ++ ((wX8 cy mo sa pa kb aa oa wa ca ta na mOp mIk mPa mRu r.1 mTy mSp mFr mRe mCa mOr mLe rS rP rK rA rO rW rC rT rN) ++ [wL cy ua r.2])) H → va_D (k_A s) ((wX7 cy h0 gma sna hia ka ora cha tra ena opa foa gm sn hs qs k0 k1 k2 k3 ch o tr es op fo has) ++ ((wX8 cy mo sa pa kb aa oa wa ca ta na mOp mIk mPa mRu r.1 mTy mSp mFr mRe mCa mOr mLe rS rP rK rA rO rW rC rT rN) ++ [wL cy ua r.2])) → va_S (k_A s) s.heap H locs → W p l e room_1 s m #[Value.ref b] below meth c H locs (cells + 1) (slots + 6) Q (F0 m 1650 ls [])) : W p l e room_1 s m #[Value.ref b] below meth c H locs cells slots Q (F0 m 529 ls []) := by
  obtain ⟨hx, hb, hml, hown, hts, hX, hbl, hK, hN, hT, hZ, hCx⟩ := C
  have hA : ∀ q : Nat, s.heap.size ≤ q → k_A s q := fun _ h9 => h9
  unfold f_case7 at hf
  refine lv_aload_n hx hb dL_law_529 rfl (lv_at hl 3 rfl) ?_
  refine lv_aload_n hx hb dL_law_530 rfl (lv_at hl 4 rfl) ?_
  refine lv_iload hx hb dL_law_531 (lv_at hl 0 rfl) ?_
  refine lv_iconst (v := 1) hx hb dL_law_533 (by decide) ?_
  refine lv_iadd hx hb dL_law_534 ?_
  refine va_sld hx hb hX hbl (Nat.not_le.mpr hbl) hS hi dL_law_535 ?_
  refine k_name ha ?_
  refine lv_aload_n hx hb dL_law_536 rfl (lv_at hl 1 rfl) ?_
  obtain ⟨v1, hv1, hf⟩ := k_B hf
  refine k_callLS (As := [.ref h0, .int a, .ref ua]) (rest := []) (isC := [0, 1, 2, 3, 4, 5, 6, 7, 8, 9, 10, 11, 12, 13, 14, 25]) (isR := [15, 16, 17, 18, 19, 20, 21, 22, 23, 24]) (perm := [10, 11, 12, 13, 14, 15, 16, 17, 18, 19, 20, 21, 22, 23, 24, 0, 1, 2, 3, 4, 5, 6, 7, 8, 9, 25]) (w' := ((wX7 cy h0 gma sna hia ka ora cha tra ena opa foa gm sn hs qs k0 k1 k2 k3 ch o tr es op fo has) ++ ((wX8 cy mo sa pa kb aa oa wa ca ta na mOp mIk mPa mRu mLa mTy mSp mFr mRe mCa mOr mLe rS rP rK rA rO rW rC rT rN) ++ [wL cy ua v1.2]))) ⟨hx, hb, hml, hown, hts⟩ (c_L_boxesWith l hl9 D cy h0 gma sna hia ka ora cha tra ena opa foa ua gm sn hs qs k0 k1 k2 k3 ch o tr es op fo has out a v1 hv1) (vx_cwSW 3 hts gL_law_L_boxesWith rfl rfl rfl hd_L_boxesWith ⟨Nat.le_of_ble_eq_true rfl, Nat.le_of_ble_eq_true rfl⟩) hK hN hT hZ hCx hP hD hS (fun _ h9 => h9) rfl rfl rfl (by decide) (by decide) rfl (by decide) rfl hl.1 rfl (Nat.le_of_ble_eq_true rfl) dL_law_537 ⟨hc, hsl⟩ (fun H locs hP hD hS => ?_)
  refine lv_istore (lv' := [(5, .int v1.1), (4, .int i), (3, .ref ua), (2, .ref mo), (1, .ref h0), (0, .ref b)]) hx hb dL_law_540 hl (by decide) rfl (fun ls hl => ?_)
  refine lv_aload_n hx hb dL_law_542 rfl (lv_at hl 3 rfl) ?_
  refine lv_aload_n hx hb dL_law_543 rfl (lv_at hl 5 rfl) ?_
  refine lv_iload hx hb dL_law_544 (lv_at hl 1 rfl) ?_
  refine lv_iconst (v := 1) hx hb dL_law_546 (by decide) ?_
  refine lv_iadd hx hb dL_law_547 ?_
  refine va_sld hx hb hX hbl (Nat.not_le.mpr hbl) hS hi dL_law_548 ?_
  refine k_name ha ?_
  obtain ⟨v2, hv2, hf⟩ := k_B hf
  refine k_callHV (As := [.int a]) (rest := []) (r := (RX8, TX8, 21)) (ci := 5) (q0 := 15) (isC := [15, 16, 17, 18, 19, 20, 21, 22, 23, 24]) (isR := [0, 1, 2, 3, 4, 5, 6, 7, 8, 9, 10, 11, 12, 13, 14, 25]) (perm := [0, 1, 2, 3, 4, 5, 6, 7, 8, 9, 10, 11, 12, 13, 14, 16, 17, 18, 19, 20, 21, 22, 23, 24, 25, 15]) (w' := ((wX7 cy h0 gma sna hia ka ora cha tra ena opa foa gm sn hs qs k0 k1 k2 k3 ch o tr es op fo has) ++ ((wX8 cy mo sa pa kb aa oa wa ca ta na mOp mIk mPa mRu v2.2 mTy mSp mFr mRe mCa mOr mLe rS rP rK rA rO rW rC rT rN) ++ [wL cy ua v1.2]))) ⟨hx, hb, hml, hown, hts⟩ (c_X8_boxesWith l D cy mo sa pa kb aa oa wa ca ta na mOp mIk mPa mRu mLa mTy mSp mFr mRe mCa mOr mLe rS rP rK rA rO rW rC rT rN a v2 hv2) (cwV 1 hts gL_law_X8_boxesWith rfl rfl rfl hd_X8_boxesWith ⟨Nat.le_of_ble_eq_true rfl, Nat.le_of_ble_eq_true rfl⟩) hK hN hP hD hS hA rfl rfl rfl rfl rfl rfl (by decide) rfl rfl rfl hl.1 rfl (Nat.le_of_ble_eq_true rfl) dL_law_549 ⟨hc, hsl⟩ (fun H locs hP hD hS => ?_)
  refine lv_istore (lv' := [(6, .int v2.1), (5, .int v1.1), (4, .int i), (3, .ref ua), (2, .ref mo), (1, .ref h0), (0, .ref b)]) hx hb dL_law_552 hl (by decide) rfl (fun ls hl => ?_)
  refine lv_aload_n hx hb dL_law_554 rfl (lv_at hl 4 rfl) ?_
  obtain ⟨v3, hv3, hf⟩ := k_B hf
  refine k_callHV (As := []) (rest := []) (r := (RX8, TX8, 21)) (ci := 5) (q0 := 15) (isC := [15, 16, 17, 18, 19, 20, 21, 22, 23, 24]) (isR := [0, 1, 2, 3, 4, 5, 6, 7, 8, 9, 10, 11, 12, 13, 14, 25]) (perm := [0, 1, 2, 3, 4, 5, 6, 7, 8, 9, 10, 11, 12, 13, 14, 16, 17, 18, 19, 20, 21, 22, 23, 24, 25, 15]) (w' := ((wX7 cy h0 gma sna hia ka ora cha tra ena opa foa gm sn hs qs k0 k1 k2 k3 ch o tr es op fo has) ++ ((wX8 cy mo sa pa kb aa oa wa ca ta na mOp mIk mPa mRu v2.2 mTy mSp mFr mRe mCa mOr mLe rS rP rK rA rO rW rC rT rN) ++ [wL cy ua v1.2]))) ⟨hx, hb, hml, hown, hts⟩ (c_X8_thrown l D cy mo sa pa kb aa oa wa ca ta na mOp mIk mPa mRu v2.2 mTy mSp mFr mRe mCa mOr mLe rS rP rK rA rO rW rC rT rN  v3 hv3) (cwV 0 hts gL_law_X8_thrown rfl rfl rfl hd_X8_thrown ⟨Nat.le_of_ble_eq_true rfl, Nat.le_of_ble_eq_true rfl⟩) hK hN hP hD hS hA rfl rfl rfl rfl rfl rfl (by decide) rfl rfl rfl hl.1 rfl (Nat.le_of_ble_eq_true rfl) dL_law_555 ⟨hc, hsl⟩ (fun H locs hP hD hS => ?_)
  refine lv_iload hx hb dL_law_558 (lv_at hl 1 rfl) ?_
  refine lv_icmp_eq (tgt := 565) hx hb dL_law_560 (by decide) (fun c4 => ?_) (fun c4 => ?_)
  · have hf := k_T c4 hf
    refine lv_iload hx hb dL_law_565 (lv_at hl 1 rfl) ?_
    refine lv_if_ne (tgt := 582) hx hb dL_law_567 (by decide) (fun c5 => ?_) (fun c5 => ?_)
    · have hf := k_F c5 hf
      refine lv_goto (tgt := 1650) hx hb dL_law_582 (by decide) ?_
      obtain rfl := k_some hf
      exact kk ls H locs (lv_sub hl [2, 3, 4, 5, 6] rfl) hP hD hS
    · have hf := k_T c5 hf
      refine lv_aload_n hx hb dL_law_570 rfl (lv_at hl 3 rfl) ?_
      refine lv_iconst (v := 0) hx hb dL_law_571 (by decide) ?_
      refine va_lald hx hb hK hP 25 3 rfl rfl (k_in (i := 0) (n := 1) (by decide +kernel)) dL_law_572 ?_
      refine k_nameJ (v := v1.2 0) rfl ?_
      refine lv_iload hx hb dL_law_573 (lv_at hl 0 rfl) ?_
      refine lv_i2l hx hb dL_law_575 rfl ?_
      refine W.lcmp hx hb dL_law_576 ?_
      refine lv_if_eq (tgt := 582) hx hb dL_law_577 (by decide) (fun c6 => ?_) (fun c6 => ?_)
      · have hf := k_T c6 hf
        refine lv_goto (tgt := 1650) hx hb dL_law_582 (by decide) ?_
        obtain rfl := k_some hf
        exact kk ls H locs (lv_sub hl [2, 3, 4, 5, 6] rfl) hP hD hS
      · have hf := k_F c6 hf
        refine lv_iconst (v := 0) hx hb dL_law_580 (by decide) ?_
        cases hf
  · have hf := k_F c4 hf
    refine lv_iconst (v := 0) hx hb dL_law_563 (by decide) ?_
    cases hf
def f_case8 (a : Int32) (gm : k_G8) (mLa : Int32) (rS : Nat → Int32) : Option (Int32) :=
  (f_X7_turn gm).bind fun v1 =>
  (f_X8_turn mLa rS).bind fun v2 =>
  if v1 = v2.1 then
    some v2.2
  else
    none
set_option maxHeartbeats 4000000 in
set_option maxRecDepth 100000 in
theorem c_case8 (l : Launch) (hl9 : l.stackTraces = false) {p : Program} {e : Env} {s : State} {m : MethodId} {below : List Frame} {meth : Method} {c : Code} {b L : Nat} {xs : Nat → Int32} {D : va_G} {cy : Nat → ClassId} (C : k_LC p s m c b L xs D cy) (Q : State → Prop) (h0 gma sna hia ka ora cha tra ena opa foa mo sa pa kb aa oa wa ca ta na ua : Nat) (gm : k_G8) (sn : k_G8) (hs : Int32) (qs : k_Q4) (k0 : k_G8) (k1 : k_G8) (k2 : k_G8) (k3 : k_G8) (ch : Nat → Int32) (o : k_O5) (tr : k_G8) (es : Int32) (op : Nat → Int32) (fo : Nat → Int32) (has : Int32) (mOp : Int32) (mIk : Int32) (mPa : Int32) (mRu : Int32) (mLa : Int32) (mTy : Int32) (mSp : Int32) (mFr : Int32) (mRe : Int32) (mCa : Int32) (mOr : Int32) (mLe : Int32) (rS : Nat → Int32) (rP : Nat → Int32) (rK : Nat → Int32) (rA : Nat → Int32) (rO : Nat → Int32) (rW : Nat → Int32) (rC : Nat → Int32) (rT : Nat → Int32) (rN : Nat → Int32) (out : Nat → Int64) (i a : Int32) (hi : vp_in (i + 1) L) (ha : a = xs (i + 1).toNatClampNeg) (r : Int32) (hf : f_case8 a gm mLa rS = some r) (cells slots : Nat) (hc : cells + 1 ≤ room_1.cells) (hsl : slots + 6 ≤ room_1.slots) (ls : Array Slot) (H : Heap) (locs : List Loc) (hl : lv_has ls 9 [(4, .int i), (3, .ref ua), (2, .ref mo), (1, .ref h0), (0, .ref b)]) (hP : va_P D vwCl ((wX7 cy h0 gma sna hia ka ora cha tra ena opa foa gm sn hs qs k0 k1 k2 k3 ch o tr es op fo has) ++ ((wX8 cy mo sa pa kb aa oa wa ca ta na mOp mIk mPa mRu mLa mTy mSp mFr mRe mCa mOr mLe rS rP rK rA rO rW rC rT rN) ++ [wL cy ua out])) H) (hD : va_D (k_A s) ((wX7 cy h0 gma sna hia ka ora cha tra ena opa foa gm sn hs qs k0 k1 k2 k3 ch o tr es op fo has) ++ ((wX8 cy mo sa pa kb aa oa wa ca ta na mOp mIk mPa mRu mLa mTy mSp mFr mRe mCa mOr mLe rS rP rK rA rO rW rC rT rN) ++ [wL cy ua out]))) (hS : va_S (k_A s) s.heap H locs) (kk : ∀ (ls : Array Slot) (H : Heap) (locs : List Loc), lv_has ls 9 [(4, .int i), (3, .ref ua), (2, .ref mo), (1, .ref h0), (0, .ref b)] → va_P D vwCl ((wX7 cy h0 gma sna hia ka ora cha tra ena opa foa gm sn hs qs k0 k1 k2 k3 ch o tr es op fo has) ++ ((wX8 cy mo sa pa kb aa oa wa ca ta na mOp mIk mPa mRu r mTy mSp mFr mRe mCa mOr mLe rS rP rK rA rO rW rC rT rN) ++ [wL cy ua out])) H → va_D (k_A s) ((wX7 cy h0 gma sna hia ka ora cha tra ena opa foa gm sn hs qs k0 k1 k2 k3 ch o tr es op fo has) ++ ((wX8 cy mo sa pa kb aa oa wa ca ta na mOp mIk mPa mRu r mTy mSp mFr mRe mCa mOr mLe rS rP rK rA rO rW rC rT rN) ++ [wL cy ua out])) → va_S (k_A s) s.heap H locs → W p l e room_1 s m #[Value.ref b] below meth c H locs (cells + 1) (slots + 6) Q (F0 m 1650 ls [])) : W p l e room_1 s m #[Value.ref b] below meth c H locs cells slots Q (F0 m 585 ls []) := by
  obtain ⟨hx, hb, hml, hown, hts, hX, hbl, hK, hN, hT, hZ, hCx⟩ := C
  have hA : ∀ q : Nat, s.heap.size ≤ q → k_A s q := fun _ h9 => h9
  unfold f_case8 at hf
  refine lv_aload_n hx hb dL_law_585 rfl (lv_at hl 3 rfl) ?_
  obtain ⟨v1, hv1, hf⟩ := k_B hf
  refine k_callHV (As := []) (rest := []) (r := (RX7, TX7, 6)) (ci := 4) (q0 := 0) (isC := [0, 1, 2, 3, 4, 5, 6, 7, 8, 9, 10, 11, 12, 13, 14]) (isR := [15, 16, 17, 18, 19, 20, 21, 22, 23, 24, 25]) (perm := [11, 12, 13, 14, 15, 16, 17, 18, 19, 20, 21, 22, 23, 24, 25, 0, 1, 2, 3, 4, 5, 6, 7, 8, 9, 10]) (w' := ((wX7 cy h0 gma sna hia ka ora cha tra ena opa foa gm sn hs qs k0 k1 k2 k3 ch o tr es op fo has) ++ ((wX8 cy mo sa pa kb aa oa wa ca ta na mOp mIk mPa mRu mLa mTy mSp mFr mRe mCa mOr mLe rS rP rK rA rO rW rC rT rN) ++ [wL cy ua out]))) ⟨hx, hb, hml, hown, hts⟩ (c_X7_turn l D cy h0 gma sna hia ka ora cha tra ena opa foa gm sn hs qs k0 k1 k2 k3 ch o tr es op fo has  v1 hv1) (cwV 0 hts gL_law_X7_turn rfl rfl rfl hd_X7_turn ⟨Nat.le_of_ble_eq_true rfl, Nat.le_of_ble_eq_true rfl⟩) hK hN hP hD hS hA rfl rfl rfl rfl rfl rfl (by decide) rfl rfl rfl hl.1 rfl (Nat.le_of_ble_eq_true rfl) dL_law_586 ⟨Nat.le_of_succ_le hc, k_le6 hsl⟩ (fun H locs hP hD hS => ?_)
  refine lv_aload_n hx hb dL_law_589 rfl (lv_at hl 2 rfl) ?_
  obtain ⟨v2, hv2, hf⟩ := k_B hf
  refine k_callHV (As := []) (rest := [.int v1]) (r := (RX8, TX8, 21)) (ci := 5) (q0 := 15) (isC := [15, 16, 17, 18, 19, 20, 21, 22, 23, 24]) (isR := [0, 1, 2, 3, 4, 5, 6, 7, 8, 9, 10, 11, 12, 13, 14, 25]) (perm := [0, 1, 2, 3, 4, 5, 6, 7, 8, 9, 10, 11, 12, 13, 14, 16, 17, 18, 19, 20, 21, 22, 23, 24, 25, 15]) (w' := ((wX7 cy h0 gma sna hia ka ora cha tra ena opa foa gm sn hs qs k0 k1 k2 k3 ch o tr es op fo has) ++ ((wX8 cy mo sa pa kb aa oa wa ca ta na mOp mIk mPa mRu v2.2 mTy mSp mFr mRe mCa mOr mLe rS rP rK rA rO rW rC rT rN) ++ [wL cy ua out]))) ⟨hx, hb, hml, hown, hts⟩ (c_X8_turn l D cy mo sa pa kb aa oa wa ca ta na mOp mIk mPa mRu mLa mTy mSp mFr mRe mCa mOr mLe rS rP rK rA rO rW rC rT rN  v2 hv2) (cwV 0 hts gL_law_X8_turn rfl rfl rfl hd_X8_turn ⟨Nat.le_of_ble_eq_true rfl, Nat.le_of_ble_eq_true rfl⟩) hK hN hP hD hS hA rfl rfl rfl rfl rfl rfl (by decide) rfl rfl rfl hl.1 rfl (Nat.le_of_ble_eq_true rfl) dL_law_590 ⟨Nat.le_of_succ_le hc, k_le6 hsl⟩ (fun H locs hP hD hS => ?_)
  refine lv_icmp_eq (tgt := 1650) hx hb dL_law_593 (by decide) (fun c3 => ?_) (fun c3 => ?_)
  · have hf := k_T c3 hf
    obtain rfl := k_some hf
    refine W.widen (Nat.le_succ _) (Nat.le_add_right _ 6) ?_
    exact kk ls H locs (lv_sub hl [0, 1, 2, 3, 4] rfl) hP hD hS
  · have hf := k_F c3 hf
    refine lv_iconst (v := 0) hx hb dL_law_596 (by decide) ?_
    cases hf
def f_case9 (a : Int32) (gm : k_G8) (mLa : Int32) (rS : Nat → Int32) (out : Nat → Int64) : Option (Int32 × (Nat → Int64)) :=
  (f_L_whyNot a gm out).bind fun v1 =>
  (f_X8_whyNot a mLa rS).bind fun v2 =>
  (f_X8_thrown v2.2).bind fun v3 =>
  if v3 = v1.1 then
    if v1.1 = 0 then
      if (lg_cmp (v1.2 0) v2.1.toInt64) = 0 then
        some (v2.2, v1.2)
      else
        none
    else
      some (v2.2, v1.2)
  else
    none
set_option maxHeartbeats 4000000 in
set_option maxRecDepth 100000 in
theorem c_case9 (l : Launch) (hl9 : l.stackTraces = false) {p : Program} {e : Env} {s : State} {m : MethodId} {below : List Frame} {meth : Method} {c : Code} {b L : Nat} {xs : Nat → Int32} {D : va_G} {cy : Nat → ClassId} (C : k_LC p s m c b L xs D cy) (Q : State → Prop) (h0 gma sna hia ka ora cha tra ena opa foa mo sa pa kb aa oa wa ca ta na ua : Nat) (gm : k_G8) (sn : k_G8) (hs : Int32) (qs : k_Q4) (k0 : k_G8) (k1 : k_G8) (k2 : k_G8) (k3 : k_G8) (ch : Nat → Int32) (o : k_O5) (tr : k_G8) (es : Int32) (op : Nat → Int32) (fo : Nat → Int32) (has : Int32) (mOp : Int32) (mIk : Int32) (mPa : Int32) (mRu : Int32) (mLa : Int32) (mTy : Int32) (mSp : Int32) (mFr : Int32) (mRe : Int32) (mCa : Int32) (mOr : Int32) (mLe : Int32) (rS : Nat → Int32) (rP : Nat → Int32) (rK : Nat → Int32) (rA : Nat → Int32) (rO : Nat → Int32) (rW : Nat → Int32) (rC : Nat → Int32) (rT : Nat → Int32) (rN : Nat → Int32) (out : Nat → Int64) (i a : Int32) (hi : vp_in (i + 1) L) (ha : a = xs (i + 1).toNatClampNeg) (r : Int32 × (Nat → Int64)) (hf : f_case9 a gm mLa rS out = some r) (cells slots : Nat) (hc : cells + 1 ≤ room_1.cells) (hsl : slots + 6 ≤ room_1.slots) (ls : Array Slot) (H : Heap) (locs : List Loc) (hl : lv_has ls 9 [(4, .int i), (3, .ref ua), (2, .ref mo), (1, .ref h0), (0, .ref b)]) (hP : va_P D vwCl ((wX7 cy h0 gma sna hia ka ora cha tra ena opa foa gm sn hs qs k0 k1 k2 k3 ch o tr es op fo has) ++ ((wX8 cy mo sa pa kb aa oa wa ca ta na mOp mIk mPa mRu mLa mTy mSp mFr mRe mCa mOr mLe rS rP rK rA rO rW rC rT rN) ++ [wL cy ua out])) H) (hD : va_D (k_A s) ((wX7 cy h0 gma sna hia ka ora cha tra ena opa foa gm sn hs qs k0 k1 k2 k3 ch o tr es op fo has) ++ ((wX8 cy mo sa pa kb aa oa wa ca ta na mOp mIk mPa mRu mLa mTy mSp mFr mRe mCa mOr mLe rS rP rK rA rO rW rC rT rN) ++ [wL cy ua out]))) (hS : va_S (k_A s) s.heap H locs) (kk : ∀ (ls : Array Slot) (H : Heap) (locs : List Loc), lv_has ls 9 [(4, .int i), (3, .ref ua), (2, .ref mo), (1, .ref h0), (0, .ref b)] → va_P D vwCl ((wX7 cy h0 gma sna hia ka ora cha tra ena opa foa gm sn hs qs k0 k1 k2 k3 ch o tr es op fo has) ++ ((wX8 cy mo sa pa kb aa oa wa ca ta na mOp mIk mPa mRu r.1 mTy mSp mFr mRe mCa mOr mLe rS rP rK rA rO rW rC rT rN) ++ [wL cy ua r.2])) H → va_D (k_A s) ((wX7 cy h0 gma sna hia ka ora cha tra ena opa foa gm sn hs qs k0 k1 k2 k3 ch o tr es op fo has) ++ ((wX8 cy mo sa pa kb aa oa wa ca ta na mOp mIk mPa mRu r.1 mTy mSp mFr mRe mCa mOr mLe rS rP rK rA rO rW rC rT rN) ++ [wL cy ua r.2])) → va_S (k_A s) s.heap H locs → W p l e room_1 s m #[Value.ref b] below meth c H locs (cells + 1) (slots + 6) Q (F0 m 1650 ls [])) : W p l e room_1 s m #[Value.ref b] below meth c H locs cells slots Q (F0 m 598 ls []) := by
  obtain ⟨hx, hb, hml, hown, hts, hX, hbl, hK, hN, hT, hZ, hCx⟩ := C
  have hA : ∀ q : Nat, s.heap.size ≤ q → k_A s q := fun _ h9 => h9
  unfold f_case9 at hf
  refine lv_aload_n hx hb dL_law_598 rfl (lv_at hl 3 rfl) ?_
  refine lv_aload_n hx hb dL_law_599 rfl (lv_at hl 4 rfl) ?_
  refine lv_iload hx hb dL_law_600 (lv_at hl 0 rfl) ?_
  refine lv_iconst (v := 1) hx hb dL_law_602 (by decide) ?_
  refine lv_iadd hx hb dL_law_603 ?_
  refine va_sld hx hb hX hbl (Nat.not_le.mpr hbl) hS hi dL_law_604 ?_
  refine k_name ha ?_
  refine lv_aload_n hx hb dL_law_605 rfl (lv_at hl 1 rfl) ?_
  obtain ⟨v1, hv1, hf⟩ := k_B hf
  refine k_callLS (As := [.ref h0, .int a, .ref ua]) (rest := []) (isC := [0, 1, 2, 3, 4, 5, 6, 7, 8, 9, 10, 11, 12, 13, 14, 25]) (isR := [15, 16, 17, 18, 19, 20, 21, 22, 23, 24]) (perm := [10, 11, 12, 13, 14, 15, 16, 17, 18, 19, 20, 21, 22, 23, 24, 0, 1, 2, 3, 4, 5, 6, 7, 8, 9, 25]) (w' := ((wX7 cy h0 gma sna hia ka ora cha tra ena opa foa gm sn hs qs k0 k1 k2 k3 ch o tr es op fo has) ++ ((wX8 cy mo sa pa kb aa oa wa ca ta na mOp mIk mPa mRu mLa mTy mSp mFr mRe mCa mOr mLe rS rP rK rA rO rW rC rT rN) ++ [wL cy ua v1.2]))) ⟨hx, hb, hml, hown, hts⟩ (c_L_whyNot l hl9 D cy h0 gma sna hia ka ora cha tra ena opa foa ua gm sn hs qs k0 k1 k2 k3 ch o tr es op fo has out a v1 hv1) (vx_cwSW 3 hts gL_law_L_whyNot rfl rfl rfl hd_L_whyNot ⟨Nat.le_of_ble_eq_true rfl, Nat.le_of_ble_eq_true rfl⟩) hK hN hT hZ hCx hP hD hS (fun _ h9 => h9) rfl rfl rfl (by decide) (by decide) rfl (by decide) rfl hl.1 rfl (Nat.le_of_ble_eq_true rfl) dL_law_606 ⟨hc, hsl⟩ (fun H locs hP hD hS => ?_)
  refine lv_istore (lv' := [(5, .int v1.1), (4, .int i), (3, .ref ua), (2, .ref mo), (1, .ref h0), (0, .ref b)]) hx hb dL_law_609 hl (by decide) rfl (fun ls hl => ?_)
  refine lv_aload_n hx hb dL_law_611 rfl (lv_at hl 3 rfl) ?_
  refine lv_aload_n hx hb dL_law_612 rfl (lv_at hl 5 rfl) ?_
  refine lv_iload hx hb dL_law_613 (lv_at hl 1 rfl) ?_
  refine lv_iconst (v := 1) hx hb dL_law_615 (by decide) ?_
  refine lv_iadd hx hb dL_law_616 ?_
  refine va_sld hx hb hX hbl (Nat.not_le.mpr hbl) hS hi dL_law_617 ?_
  refine k_name ha ?_
  obtain ⟨v2, hv2, hf⟩ := k_B hf
  refine k_callHV (As := [.int a]) (rest := []) (r := (RX8, TX8, 21)) (ci := 5) (q0 := 15) (isC := [15, 16, 17, 18, 19, 20, 21, 22, 23, 24]) (isR := [0, 1, 2, 3, 4, 5, 6, 7, 8, 9, 10, 11, 12, 13, 14, 25]) (perm := [0, 1, 2, 3, 4, 5, 6, 7, 8, 9, 10, 11, 12, 13, 14, 16, 17, 18, 19, 20, 21, 22, 23, 24, 25, 15]) (w' := ((wX7 cy h0 gma sna hia ka ora cha tra ena opa foa gm sn hs qs k0 k1 k2 k3 ch o tr es op fo has) ++ ((wX8 cy mo sa pa kb aa oa wa ca ta na mOp mIk mPa mRu v2.2 mTy mSp mFr mRe mCa mOr mLe rS rP rK rA rO rW rC rT rN) ++ [wL cy ua v1.2]))) ⟨hx, hb, hml, hown, hts⟩ (c_X8_whyNot l D cy mo sa pa kb aa oa wa ca ta na mOp mIk mPa mRu mLa mTy mSp mFr mRe mCa mOr mLe rS rP rK rA rO rW rC rT rN a v2 hv2) (cwV 1 hts gL_law_X8_whyNot rfl rfl rfl hd_X8_whyNot ⟨Nat.le_of_ble_eq_true rfl, Nat.le_of_ble_eq_true rfl⟩) hK hN hP hD hS hA rfl rfl rfl rfl rfl rfl (by decide) rfl rfl rfl hl.1 rfl (Nat.le_of_ble_eq_true rfl) dL_law_618 ⟨hc, hsl⟩ (fun H locs hP hD hS => ?_)
  refine lv_istore (lv' := [(6, .int v2.1), (5, .int v1.1), (4, .int i), (3, .ref ua), (2, .ref mo), (1, .ref h0), (0, .ref b)]) hx hb dL_law_621 hl (by decide) rfl (fun ls hl => ?_)
  refine lv_aload_n hx hb dL_law_623 rfl (lv_at hl 4 rfl) ?_
  obtain ⟨v3, hv3, hf⟩ := k_B hf
  refine k_callHV (As := []) (rest := []) (r := (RX8, TX8, 21)) (ci := 5) (q0 := 15) (isC := [15, 16, 17, 18, 19, 20, 21, 22, 23, 24]) (isR := [0, 1, 2, 3, 4, 5, 6, 7, 8, 9, 10, 11, 12, 13, 14, 25]) (perm := [0, 1, 2, 3, 4, 5, 6, 7, 8, 9, 10, 11, 12, 13, 14, 16, 17, 18, 19, 20, 21, 22, 23, 24, 25, 15]) (w' := ((wX7 cy h0 gma sna hia ka ora cha tra ena opa foa gm sn hs qs k0 k1 k2 k3 ch o tr es op fo has) ++ ((wX8 cy mo sa pa kb aa oa wa ca ta na mOp mIk mPa mRu v2.2 mTy mSp mFr mRe mCa mOr mLe rS rP rK rA rO rW rC rT rN) ++ [wL cy ua v1.2]))) ⟨hx, hb, hml, hown, hts⟩ (c_X8_thrown l D cy mo sa pa kb aa oa wa ca ta na mOp mIk mPa mRu v2.2 mTy mSp mFr mRe mCa mOr mLe rS rP rK rA rO rW rC rT rN  v3 hv3) (cwV 0 hts gL_law_X8_thrown rfl rfl rfl hd_X8_thrown ⟨Nat.le_of_ble_eq_true rfl, Nat.le_of_ble_eq_true rfl⟩) hK hN hP hD hS hA rfl rfl rfl rfl rfl rfl (by decide) rfl rfl rfl hl.1 rfl (Nat.le_of_ble_eq_true rfl) dL_law_624 ⟨hc, hsl⟩ (fun H locs hP hD hS => ?_)
  refine lv_iload hx hb dL_law_627 (lv_at hl 1 rfl) ?_
  refine lv_icmp_eq (tgt := 634) hx hb dL_law_629 (by decide) (fun c4 => ?_) (fun c4 => ?_)
  · have hf := k_T c4 hf
    refine lv_iload hx hb dL_law_634 (lv_at hl 1 rfl) ?_
    refine lv_if_ne (tgt := 651) hx hb dL_law_636 (by decide) (fun c5 => ?_) (fun c5 => ?_)
    · have hf := k_F c5 hf
      refine lv_goto (tgt := 1650) hx hb dL_law_651 (by decide) ?_
      obtain rfl := k_some hf
      exact kk ls H locs (lv_sub hl [2, 3, 4, 5, 6] rfl) hP hD hS
    · have hf := k_T c5 hf
      refine lv_aload_n hx hb dL_law_639 rfl (lv_at hl 3 rfl) ?_
      refine lv_iconst (v := 0) hx hb dL_law_640 (by decide) ?_
      refine va_lald hx hb hK hP 25 3 rfl rfl (k_in (i := 0) (n := 1) (by decide +kernel)) dL_law_641 ?_
      refine k_nameJ (v := v1.2 0) rfl ?_
      refine lv_iload hx hb dL_law_642 (lv_at hl 0 rfl) ?_
      refine lv_i2l hx hb dL_law_644 rfl ?_
      refine W.lcmp hx hb dL_law_645 ?_
      refine lv_if_eq (tgt := 651) hx hb dL_law_646 (by decide) (fun c6 => ?_) (fun c6 => ?_)
      · have hf := k_T c6 hf
        refine lv_goto (tgt := 1650) hx hb dL_law_651 (by decide) ?_
        obtain rfl := k_some hf
        exact kk ls H locs (lv_sub hl [2, 3, 4, 5, 6] rfl) hP hD hS
      · have hf := k_F c6 hf
        refine lv_iconst (v := 0) hx hb dL_law_649 (by decide) ?_
        cases hf
  · have hf := k_F c4 hf
    refine lv_iconst (v := 0) hx hb dL_law_632 (by decide) ?_
    cases hf
def f_case10 (a : Int32) (gm : k_G8) (mLa : Int32) (rS : Nat → Int32) : Option (Int32) :=
  (f_X7_isOver gm).bind fun v1 =>
  (f_X8_isOver mLa rS).bind fun v2 =>
  if v1 = v2.1 then
    some v2.2
  else
    none
set_option maxHeartbeats 4000000 in
set_option maxRecDepth 100000 in
theorem c_case10 (l : Launch) (hl9 : l.stackTraces = false) {p : Program} {e : Env} {s : State} {m : MethodId} {below : List Frame} {meth : Method} {c : Code} {b L : Nat} {xs : Nat → Int32} {D : va_G} {cy : Nat → ClassId} (C : k_LC p s m c b L xs D cy) (Q : State → Prop) (h0 gma sna hia ka ora cha tra ena opa foa mo sa pa kb aa oa wa ca ta na ua : Nat) (gm : k_G8) (sn : k_G8) (hs : Int32) (qs : k_Q4) (k0 : k_G8) (k1 : k_G8) (k2 : k_G8) (k3 : k_G8) (ch : Nat → Int32) (o : k_O5) (tr : k_G8) (es : Int32) (op : Nat → Int32) (fo : Nat → Int32) (has : Int32) (mOp : Int32) (mIk : Int32) (mPa : Int32) (mRu : Int32) (mLa : Int32) (mTy : Int32) (mSp : Int32) (mFr : Int32) (mRe : Int32) (mCa : Int32) (mOr : Int32) (mLe : Int32) (rS : Nat → Int32) (rP : Nat → Int32) (rK : Nat → Int32) (rA : Nat → Int32) (rO : Nat → Int32) (rW : Nat → Int32) (rC : Nat → Int32) (rT : Nat → Int32) (rN : Nat → Int32) (out : Nat → Int64) (i a : Int32) (hi : vp_in (i + 1) L) (ha : a = xs (i + 1).toNatClampNeg) (r : Int32) (hf : f_case10 a gm mLa rS = some r) (cells slots : Nat) (hc : cells + 1 ≤ room_1.cells) (hsl : slots + 6 ≤ room_1.slots) (ls : Array Slot) (H : Heap) (locs : List Loc) (hl : lv_has ls 9 [(4, .int i), (3, .ref ua), (2, .ref mo), (1, .ref h0), (0, .ref b)]) (hP : va_P D vwCl ((wX7 cy h0 gma sna hia ka ora cha tra ena opa foa gm sn hs qs k0 k1 k2 k3 ch o tr es op fo has) ++ ((wX8 cy mo sa pa kb aa oa wa ca ta na mOp mIk mPa mRu mLa mTy mSp mFr mRe mCa mOr mLe rS rP rK rA rO rW rC rT rN) ++ [wL cy ua out])) H) (hD : va_D (k_A s) ((wX7 cy h0 gma sna hia ka ora cha tra ena opa foa gm sn hs qs k0 k1 k2 k3 ch o tr es op fo has) ++ ((wX8 cy mo sa pa kb aa oa wa ca ta na mOp mIk mPa mRu mLa mTy mSp mFr mRe mCa mOr mLe rS rP rK rA rO rW rC rT rN) ++ [wL cy ua out]))) (hS : va_S (k_A s) s.heap H locs) (kk : ∀ (ls : Array Slot) (H : Heap) (locs : List Loc), lv_has ls 9 [(4, .int i), (3, .ref ua), (2, .ref mo), (1, .ref h0), (0, .ref b)] → va_P D vwCl ((wX7 cy h0 gma sna hia ka ora cha tra ena opa foa gm sn hs qs k0 k1 k2 k3 ch o tr es op fo has) ++ ((wX8 cy mo sa pa kb aa oa wa ca ta na mOp mIk mPa mRu r mTy mSp mFr mRe mCa mOr mLe rS rP rK rA rO rW rC rT rN) ++ [wL cy ua out])) H → va_D (k_A s) ((wX7 cy h0 gma sna hia ka ora cha tra ena opa foa gm sn hs qs k0 k1 k2 k3 ch o tr es op fo has) ++ ((wX8 cy mo sa pa kb aa oa wa ca ta na mOp mIk mPa mRu r mTy mSp mFr mRe mCa mOr mLe rS rP rK rA rO rW rC rT rN) ++ [wL cy ua out])) → va_S (k_A s) s.heap H locs → W p l e room_1 s m #[Value.ref b] below meth c H locs (cells + 1) (slots + 6) Q (F0 m 1650 ls [])) : W p l e room_1 s m #[Value.ref b] below meth c H locs cells slots Q (F0 m 654 ls []) := by
  obtain ⟨hx, hb, hml, hown, hts, hX, hbl, hK, hN, hT, hZ, hCx⟩ := C
  have hA : ∀ q : Nat, s.heap.size ≤ q → k_A s q := fun _ h9 => h9
  unfold f_case10 at hf
  refine lv_aload_n hx hb dL_law_654 rfl (lv_at hl 3 rfl) ?_
  obtain ⟨v1, hv1, hf⟩ := k_B hf
  refine k_callHV (As := []) (rest := []) (r := (RX7, TX7, 6)) (ci := 4) (q0 := 0) (isC := [0, 1, 2, 3, 4, 5, 6, 7, 8, 9, 10, 11, 12, 13, 14]) (isR := [15, 16, 17, 18, 19, 20, 21, 22, 23, 24, 25]) (perm := [11, 12, 13, 14, 15, 16, 17, 18, 19, 20, 21, 22, 23, 24, 25, 0, 1, 2, 3, 4, 5, 6, 7, 8, 9, 10]) (w' := ((wX7 cy h0 gma sna hia ka ora cha tra ena opa foa gm sn hs qs k0 k1 k2 k3 ch o tr es op fo has) ++ ((wX8 cy mo sa pa kb aa oa wa ca ta na mOp mIk mPa mRu mLa mTy mSp mFr mRe mCa mOr mLe rS rP rK rA rO rW rC rT rN) ++ [wL cy ua out]))) ⟨hx, hb, hml, hown, hts⟩ (c_X7_isOver l D cy h0 gma sna hia ka ora cha tra ena opa foa gm sn hs qs k0 k1 k2 k3 ch o tr es op fo has  v1 hv1) (cwV 0 hts gL_law_X7_isOver rfl rfl rfl hd_X7_isOver ⟨Nat.le_of_ble_eq_true rfl, Nat.le_of_ble_eq_true rfl⟩) hK hN hP hD hS hA rfl rfl rfl rfl rfl rfl (by decide) rfl rfl rfl hl.1 rfl (Nat.le_of_ble_eq_true rfl) dL_law_655 ⟨Nat.le_of_succ_le hc, k_le6 hsl⟩ (fun H locs hP hD hS => ?_)
  refine lv_aload_n hx hb dL_law_658 rfl (lv_at hl 2 rfl) ?_
  obtain ⟨v2, hv2, hf⟩ := k_B hf
  refine k_callHV (As := []) (rest := [.int v1]) (r := (RX8, TX8, 21)) (ci := 5) (q0 := 15) (isC := [15, 16, 17, 18, 19, 20, 21, 22, 23, 24]) (isR := [0, 1, 2, 3, 4, 5, 6, 7, 8, 9, 10, 11, 12, 13, 14, 25]) (perm := [0, 1, 2, 3, 4, 5, 6, 7, 8, 9, 10, 11, 12, 13, 14, 16, 17, 18, 19, 20, 21, 22, 23, 24, 25, 15]) (w' := ((wX7 cy h0 gma sna hia ka ora cha tra ena opa foa gm sn hs qs k0 k1 k2 k3 ch o tr es op fo has) ++ ((wX8 cy mo sa pa kb aa oa wa ca ta na mOp mIk mPa mRu v2.2 mTy mSp mFr mRe mCa mOr mLe rS rP rK rA rO rW rC rT rN) ++ [wL cy ua out]))) ⟨hx, hb, hml, hown, hts⟩ (c_X8_isOver l D cy mo sa pa kb aa oa wa ca ta na mOp mIk mPa mRu mLa mTy mSp mFr mRe mCa mOr mLe rS rP rK rA rO rW rC rT rN  v2 hv2) (cwV 0 hts gL_law_X8_isOver rfl rfl rfl hd_X8_isOver ⟨Nat.le_of_ble_eq_true rfl, Nat.le_of_ble_eq_true rfl⟩) hK hN hP hD hS hA rfl rfl rfl rfl rfl rfl (by decide) rfl rfl rfl hl.1 rfl (Nat.le_of_ble_eq_true rfl) dL_law_659 ⟨Nat.le_of_succ_le hc, k_le6 hsl⟩ (fun H locs hP hD hS => ?_)
  refine lv_icmp_eq (tgt := 1650) hx hb dL_law_662 (by decide) (fun c3 => ?_) (fun c3 => ?_)
  · have hf := k_T c3 hf
    obtain rfl := k_some hf
    refine W.widen (Nat.le_succ _) (Nat.le_add_right _ 6) ?_
    exact kk ls H locs (lv_sub hl [0, 1, 2, 3, 4] rfl) hP hD hS
  · have hf := k_F c3 hf
    refine lv_iconst (v := 0) hx hb dL_law_665 (by decide) ?_
    cases hf
def f_case11 (a : Int32) (gm : k_G8) (mLa : Int32) (rS : Nat → Int32) : Option (Int32) :=
  (f_X7_canTake gm).bind fun v1 =>
  (f_X8_canTake mLa rS).bind fun v2 =>
  if v1 = v2.1 then
    some v2.2
  else
    none
set_option maxHeartbeats 4000000 in
set_option maxRecDepth 100000 in
theorem c_case11 (l : Launch) (hl9 : l.stackTraces = false) {p : Program} {e : Env} {s : State} {m : MethodId} {below : List Frame} {meth : Method} {c : Code} {b L : Nat} {xs : Nat → Int32} {D : va_G} {cy : Nat → ClassId} (C : k_LC p s m c b L xs D cy) (Q : State → Prop) (h0 gma sna hia ka ora cha tra ena opa foa mo sa pa kb aa oa wa ca ta na ua : Nat) (gm : k_G8) (sn : k_G8) (hs : Int32) (qs : k_Q4) (k0 : k_G8) (k1 : k_G8) (k2 : k_G8) (k3 : k_G8) (ch : Nat → Int32) (o : k_O5) (tr : k_G8) (es : Int32) (op : Nat → Int32) (fo : Nat → Int32) (has : Int32) (mOp : Int32) (mIk : Int32) (mPa : Int32) (mRu : Int32) (mLa : Int32) (mTy : Int32) (mSp : Int32) (mFr : Int32) (mRe : Int32) (mCa : Int32) (mOr : Int32) (mLe : Int32) (rS : Nat → Int32) (rP : Nat → Int32) (rK : Nat → Int32) (rA : Nat → Int32) (rO : Nat → Int32) (rW : Nat → Int32) (rC : Nat → Int32) (rT : Nat → Int32) (rN : Nat → Int32) (out : Nat → Int64) (i a : Int32) (hi : vp_in (i + 1) L) (ha : a = xs (i + 1).toNatClampNeg) (r : Int32) (hf : f_case11 a gm mLa rS = some r) (cells slots : Nat) (hc : cells + 1 ≤ room_1.cells) (hsl : slots + 6 ≤ room_1.slots) (ls : Array Slot) (H : Heap) (locs : List Loc) (hl : lv_has ls 9 [(4, .int i), (3, .ref ua), (2, .ref mo), (1, .ref h0), (0, .ref b)]) (hP : va_P D vwCl ((wX7 cy h0 gma sna hia ka ora cha tra ena opa foa gm sn hs qs k0 k1 k2 k3 ch o tr es op fo has) ++ ((wX8 cy mo sa pa kb aa oa wa ca ta na mOp mIk mPa mRu mLa mTy mSp mFr mRe mCa mOr mLe rS rP rK rA rO rW rC rT rN) ++ [wL cy ua out])) H) (hD : va_D (k_A s) ((wX7 cy h0 gma sna hia ka ora cha tra ena opa foa gm sn hs qs k0 k1 k2 k3 ch o tr es op fo has) ++ ((wX8 cy mo sa pa kb aa oa wa ca ta na mOp mIk mPa mRu mLa mTy mSp mFr mRe mCa mOr mLe rS rP rK rA rO rW rC rT rN) ++ [wL cy ua out]))) (hS : va_S (k_A s) s.heap H locs) (kk : ∀ (ls : Array Slot) (H : Heap) (locs : List Loc), lv_has ls 9 [(4, .int i), (3, .ref ua), (2, .ref mo), (1, .ref h0), (0, .ref b)] → va_P D vwCl ((wX7 cy h0 gma sna hia ka ora cha tra ena opa foa gm sn hs qs k0 k1 k2 k3 ch o tr es op fo has) ++ ((wX8 cy mo sa pa kb aa oa wa ca ta na mOp mIk mPa mRu r mTy mSp mFr mRe mCa mOr mLe rS rP rK rA rO rW rC rT rN) ++ [wL cy ua out])) H → va_D (k_A s) ((wX7 cy h0 gma sna hia ka ora cha tra ena opa foa gm sn hs qs k0 k1 k2 k3 ch o tr es op fo has) ++ ((wX8 cy mo sa pa kb aa oa wa ca ta na mOp mIk mPa mRu r mTy mSp mFr mRe mCa mOr mLe rS rP rK rA rO rW rC rT rN) ++ [wL cy ua out])) → va_S (k_A s) s.heap H locs → W p l e room_1 s m #[Value.ref b] below meth c H locs (cells + 1) (slots + 6) Q (F0 m 1650 ls [])) : W p l e room_1 s m #[Value.ref b] below meth c H locs cells slots Q (F0 m 667 ls []) := by
  obtain ⟨hx, hb, hml, hown, hts, hX, hbl, hK, hN, hT, hZ, hCx⟩ := C
  have hA : ∀ q : Nat, s.heap.size ≤ q → k_A s q := fun _ h9 => h9
  unfold f_case11 at hf
  refine lv_aload_n hx hb dL_law_667 rfl (lv_at hl 3 rfl) ?_
  obtain ⟨v1, hv1, hf⟩ := k_B hf
  refine k_callHV (As := []) (rest := []) (r := (RX7, TX7, 6)) (ci := 4) (q0 := 0) (isC := [0, 1, 2, 3, 4, 5, 6, 7, 8, 9, 10, 11, 12, 13, 14]) (isR := [15, 16, 17, 18, 19, 20, 21, 22, 23, 24, 25]) (perm := [11, 12, 13, 14, 15, 16, 17, 18, 19, 20, 21, 22, 23, 24, 25, 0, 1, 2, 3, 4, 5, 6, 7, 8, 9, 10]) (w' := ((wX7 cy h0 gma sna hia ka ora cha tra ena opa foa gm sn hs qs k0 k1 k2 k3 ch o tr es op fo has) ++ ((wX8 cy mo sa pa kb aa oa wa ca ta na mOp mIk mPa mRu mLa mTy mSp mFr mRe mCa mOr mLe rS rP rK rA rO rW rC rT rN) ++ [wL cy ua out]))) ⟨hx, hb, hml, hown, hts⟩ (c_X7_canTake l D cy h0 gma sna hia ka ora cha tra ena opa foa gm sn hs qs k0 k1 k2 k3 ch o tr es op fo has  v1 hv1) (cwV 0 hts gL_law_X7_canTake rfl rfl rfl hd_X7_canTake ⟨Nat.le_of_ble_eq_true rfl, Nat.le_of_ble_eq_true rfl⟩) hK hN hP hD hS hA rfl rfl rfl rfl rfl rfl (by decide) rfl rfl rfl hl.1 rfl (Nat.le_of_ble_eq_true rfl) dL_law_668 ⟨Nat.le_of_succ_le hc, k_le6 hsl⟩ (fun H locs hP hD hS => ?_)
  refine lv_aload_n hx hb dL_law_671 rfl (lv_at hl 2 rfl) ?_
  obtain ⟨v2, hv2, hf⟩ := k_B hf
  refine k_callHV (As := []) (rest := [.int v1]) (r := (RX8, TX8, 21)) (ci := 5) (q0 := 15) (isC := [15, 16, 17, 18, 19, 20, 21, 22, 23, 24]) (isR := [0, 1, 2, 3, 4, 5, 6, 7, 8, 9, 10, 11, 12, 13, 14, 25]) (perm := [0, 1, 2, 3, 4, 5, 6, 7, 8, 9, 10, 11, 12, 13, 14, 16, 17, 18, 19, 20, 21, 22, 23, 24, 25, 15]) (w' := ((wX7 cy h0 gma sna hia ka ora cha tra ena opa foa gm sn hs qs k0 k1 k2 k3 ch o tr es op fo has) ++ ((wX8 cy mo sa pa kb aa oa wa ca ta na mOp mIk mPa mRu v2.2 mTy mSp mFr mRe mCa mOr mLe rS rP rK rA rO rW rC rT rN) ++ [wL cy ua out]))) ⟨hx, hb, hml, hown, hts⟩ (c_X8_canTake l D cy mo sa pa kb aa oa wa ca ta na mOp mIk mPa mRu mLa mTy mSp mFr mRe mCa mOr mLe rS rP rK rA rO rW rC rT rN  v2 hv2) (cwV 0 hts gL_law_X8_canTake rfl rfl rfl hd_X8_canTake ⟨Nat.le_of_ble_eq_true rfl, Nat.le_of_ble_eq_true rfl⟩) hK hN hP hD hS hA rfl rfl rfl rfl rfl rfl (by decide) rfl rfl rfl hl.1 rfl (Nat.le_of_ble_eq_true rfl) dL_law_672 ⟨Nat.le_of_succ_le hc, k_le6 hsl⟩ (fun H locs hP hD hS => ?_)
  refine lv_icmp_eq (tgt := 1650) hx hb dL_law_675 (by decide) (fun c3 => ?_) (fun c3 => ?_)
  · have hf := k_T c3 hf
    obtain rfl := k_some hf
    refine W.widen (Nat.le_succ _) (Nat.le_add_right _ 6) ?_
    exact kk ls H locs (lv_sub hl [0, 1, 2, 3, 4] rfl) hP hD hS
  · have hf := k_F c3 hf
    refine lv_iconst (v := 0) hx hb dL_law_678 (by decide) ?_
    cases hf
def f_case12 (a : Int32) (gm : k_G8) (mLa : Int32) (rS : Nat → Int32) : Option (Int32) :=
  (f_X7_canTakeByRounds gm).bind fun v1 =>
  (f_X8_canTakeByRounds mLa rS).bind fun v2 =>
  if v1 = v2.1 then
    some v2.2
  else
    none
set_option maxHeartbeats 4000000 in
set_option maxRecDepth 100000 in
theorem c_case12 (l : Launch) (hl9 : l.stackTraces = false) {p : Program} {e : Env} {s : State} {m : MethodId} {below : List Frame} {meth : Method} {c : Code} {b L : Nat} {xs : Nat → Int32} {D : va_G} {cy : Nat → ClassId} (C : k_LC p s m c b L xs D cy) (Q : State → Prop) (h0 gma sna hia ka ora cha tra ena opa foa mo sa pa kb aa oa wa ca ta na ua : Nat) (gm : k_G8) (sn : k_G8) (hs : Int32) (qs : k_Q4) (k0 : k_G8) (k1 : k_G8) (k2 : k_G8) (k3 : k_G8) (ch : Nat → Int32) (o : k_O5) (tr : k_G8) (es : Int32) (op : Nat → Int32) (fo : Nat → Int32) (has : Int32) (mOp : Int32) (mIk : Int32) (mPa : Int32) (mRu : Int32) (mLa : Int32) (mTy : Int32) (mSp : Int32) (mFr : Int32) (mRe : Int32) (mCa : Int32) (mOr : Int32) (mLe : Int32) (rS : Nat → Int32) (rP : Nat → Int32) (rK : Nat → Int32) (rA : Nat → Int32) (rO : Nat → Int32) (rW : Nat → Int32) (rC : Nat → Int32) (rT : Nat → Int32) (rN : Nat → Int32) (out : Nat → Int64) (i a : Int32) (hi : vp_in (i + 1) L) (ha : a = xs (i + 1).toNatClampNeg) (r : Int32) (hf : f_case12 a gm mLa rS = some r) (cells slots : Nat) (hc : cells + 1 ≤ room_1.cells) (hsl : slots + 6 ≤ room_1.slots) (ls : Array Slot) (H : Heap) (locs : List Loc) (hl : lv_has ls 9 [(4, .int i), (3, .ref ua), (2, .ref mo), (1, .ref h0), (0, .ref b)]) (hP : va_P D vwCl ((wX7 cy h0 gma sna hia ka ora cha tra ena opa foa gm sn hs qs k0 k1 k2 k3 ch o tr es op fo has) ++ ((wX8 cy mo sa pa kb aa oa wa ca ta na mOp mIk mPa mRu mLa mTy mSp mFr mRe mCa mOr mLe rS rP rK rA rO rW rC rT rN) ++ [wL cy ua out])) H) (hD : va_D (k_A s) ((wX7 cy h0 gma sna hia ka ora cha tra ena opa foa gm sn hs qs k0 k1 k2 k3 ch o tr es op fo has) ++ ((wX8 cy mo sa pa kb aa oa wa ca ta na mOp mIk mPa mRu mLa mTy mSp mFr mRe mCa mOr mLe rS rP rK rA rO rW rC rT rN) ++ [wL cy ua out]))) (hS : va_S (k_A s) s.heap H locs) (kk : ∀ (ls : Array Slot) (H : Heap) (locs : List Loc), lv_has ls 9 [(4, .int i), (3, .ref ua), (2, .ref mo), (1, .ref h0), (0, .ref b)] → va_P D vwCl ((wX7 cy h0 gma sna hia ka ora cha tra ena opa foa gm sn hs qs k0 k1 k2 k3 ch o tr es op fo has) ++ ((wX8 cy mo sa pa kb aa oa wa ca ta na mOp mIk mPa mRu r mTy mSp mFr mRe mCa mOr mLe rS rP rK rA rO rW rC rT rN) ++ [wL cy ua out])) H → va_D (k_A s) ((wX7 cy h0 gma sna hia ka ora cha tra ena opa foa gm sn hs qs k0 k1 k2 k3 ch o tr es op fo has) ++ ((wX8 cy mo sa pa kb aa oa wa ca ta na mOp mIk mPa mRu r mTy mSp mFr mRe mCa mOr mLe rS rP rK rA rO rW rC rT rN) ++ [wL cy ua out])) → va_S (k_A s) s.heap H locs → W p l e room_1 s m #[Value.ref b] below meth c H locs (cells + 1) (slots + 6) Q (F0 m 1650 ls [])) : W p l e room_1 s m #[Value.ref b] below meth c H locs cells slots Q (F0 m 680 ls []) := by
  obtain ⟨hx, hb, hml, hown, hts, hX, hbl, hK, hN, hT, hZ, hCx⟩ := C
  have hA : ∀ q : Nat, s.heap.size ≤ q → k_A s q := fun _ h9 => h9
  unfold f_case12 at hf
  refine lv_aload_n hx hb dL_law_680 rfl (lv_at hl 3 rfl) ?_
  obtain ⟨v1, hv1, hf⟩ := k_B hf
  refine k_callHV (As := []) (rest := []) (r := (RX7, TX7, 6)) (ci := 4) (q0 := 0) (isC := [0, 1, 2, 3, 4, 5, 6, 7, 8, 9, 10, 11, 12, 13, 14]) (isR := [15, 16, 17, 18, 19, 20, 21, 22, 23, 24, 25]) (perm := [11, 12, 13, 14, 15, 16, 17, 18, 19, 20, 21, 22, 23, 24, 25, 0, 1, 2, 3, 4, 5, 6, 7, 8, 9, 10]) (w' := ((wX7 cy h0 gma sna hia ka ora cha tra ena opa foa gm sn hs qs k0 k1 k2 k3 ch o tr es op fo has) ++ ((wX8 cy mo sa pa kb aa oa wa ca ta na mOp mIk mPa mRu mLa mTy mSp mFr mRe mCa mOr mLe rS rP rK rA rO rW rC rT rN) ++ [wL cy ua out]))) ⟨hx, hb, hml, hown, hts⟩ (c_X7_canTakeByRounds l D cy h0 gma sna hia ka ora cha tra ena opa foa gm sn hs qs k0 k1 k2 k3 ch o tr es op fo has  v1 hv1) (cwV 0 hts gL_law_X7_canTakeByRounds rfl rfl rfl hd_X7_canTakeByRounds ⟨Nat.le_of_ble_eq_true rfl, Nat.le_of_ble_eq_true rfl⟩) hK hN hP hD hS hA rfl rfl rfl rfl rfl rfl (by decide) rfl rfl rfl hl.1 rfl (Nat.le_of_ble_eq_true rfl) dL_law_681 ⟨Nat.le_of_succ_le hc, k_le6 hsl⟩ (fun H locs hP hD hS => ?_)
  refine lv_aload_n hx hb dL_law_684 rfl (lv_at hl 2 rfl) ?_
  obtain ⟨v2, hv2, hf⟩ := k_B hf
  refine k_callHV (As := []) (rest := [.int v1]) (r := (RX8, TX8, 21)) (ci := 5) (q0 := 15) (isC := [15, 16, 17, 18, 19, 20, 21, 22, 23, 24]) (isR := [0, 1, 2, 3, 4, 5, 6, 7, 8, 9, 10, 11, 12, 13, 14, 25]) (perm := [0, 1, 2, 3, 4, 5, 6, 7, 8, 9, 10, 11, 12, 13, 14, 16, 17, 18, 19, 20, 21, 22, 23, 24, 25, 15]) (w' := ((wX7 cy h0 gma sna hia ka ora cha tra ena opa foa gm sn hs qs k0 k1 k2 k3 ch o tr es op fo has) ++ ((wX8 cy mo sa pa kb aa oa wa ca ta na mOp mIk mPa mRu v2.2 mTy mSp mFr mRe mCa mOr mLe rS rP rK rA rO rW rC rT rN) ++ [wL cy ua out]))) ⟨hx, hb, hml, hown, hts⟩ (c_X8_canTakeByRounds l D cy mo sa pa kb aa oa wa ca ta na mOp mIk mPa mRu mLa mTy mSp mFr mRe mCa mOr mLe rS rP rK rA rO rW rC rT rN  v2 hv2) (cwV 0 hts gL_law_X8_canTakeByRounds rfl rfl rfl hd_X8_canTakeByRounds ⟨Nat.le_of_ble_eq_true rfl, Nat.le_of_ble_eq_true rfl⟩) hK hN hP hD hS hA rfl rfl rfl rfl rfl rfl (by decide) rfl rfl rfl hl.1 rfl (Nat.le_of_ble_eq_true rfl) dL_law_685 ⟨Nat.le_of_succ_le hc, k_le6 hsl⟩ (fun H locs hP hD hS => ?_)
  refine lv_icmp_eq (tgt := 1650) hx hb dL_law_688 (by decide) (fun c3 => ?_) (fun c3 => ?_)
  · have hf := k_T c3 hf
    obtain rfl := k_some hf
    refine W.widen (Nat.le_succ _) (Nat.le_add_right _ 6) ?_
    exact kk ls H locs (lv_sub hl [0, 1, 2, 3, 4] rfl) hP hD hS
  · have hf := k_F c3 hf
    refine lv_iconst (v := 0) hx hb dL_law_691 (by decide) ?_
    cases hf
def f_case13 (a : Int32) (gm : k_G8) (mLa : Int32) (rS : Nat → Int32) (out : Nat → Int64) : Option (Int32 × (Nat → Int64)) :=
  (f_L_takingFence gm out).bind fun v1 =>
  (f_X8_takingFence mLa rS).bind fun v2 =>
  (f_X8_thrown v2.2).bind fun v3 =>
  if v3 = v1.1 then
    if v1.1 = 0 then
      if (lg_cmp (v1.2 0) v2.1.toInt64) = 0 then
        some (v2.2, v1.2)
      else
        none
    else
      some (v2.2, v1.2)
  else
    none
set_option maxHeartbeats 4000000 in
set_option maxRecDepth 100000 in
theorem c_case13 (l : Launch) (hl9 : l.stackTraces = false) {p : Program} {e : Env} {s : State} {m : MethodId} {below : List Frame} {meth : Method} {c : Code} {b L : Nat} {xs : Nat → Int32} {D : va_G} {cy : Nat → ClassId} (C : k_LC p s m c b L xs D cy) (Q : State → Prop) (h0 gma sna hia ka ora cha tra ena opa foa mo sa pa kb aa oa wa ca ta na ua : Nat) (gm : k_G8) (sn : k_G8) (hs : Int32) (qs : k_Q4) (k0 : k_G8) (k1 : k_G8) (k2 : k_G8) (k3 : k_G8) (ch : Nat → Int32) (o : k_O5) (tr : k_G8) (es : Int32) (op : Nat → Int32) (fo : Nat → Int32) (has : Int32) (mOp : Int32) (mIk : Int32) (mPa : Int32) (mRu : Int32) (mLa : Int32) (mTy : Int32) (mSp : Int32) (mFr : Int32) (mRe : Int32) (mCa : Int32) (mOr : Int32) (mLe : Int32) (rS : Nat → Int32) (rP : Nat → Int32) (rK : Nat → Int32) (rA : Nat → Int32) (rO : Nat → Int32) (rW : Nat → Int32) (rC : Nat → Int32) (rT : Nat → Int32) (rN : Nat → Int32) (out : Nat → Int64) (i a : Int32) (hi : vp_in (i + 1) L) (ha : a = xs (i + 1).toNatClampNeg) (r : Int32 × (Nat → Int64)) (hf : f_case13 a gm mLa rS out = some r) (cells slots : Nat) (hc : cells + 1 ≤ room_1.cells) (hsl : slots + 6 ≤ room_1.slots) (ls : Array Slot) (H : Heap) (locs : List Loc) (hl : lv_has ls 9 [(4, .int i), (3, .ref ua), (2, .ref mo), (1, .ref h0), (0, .ref b)]) (hP : va_P D vwCl ((wX7 cy h0 gma sna hia ka ora cha tra ena opa foa gm sn hs qs k0 k1 k2 k3 ch o tr es op fo has) ++ ((wX8 cy mo sa pa kb aa oa wa ca ta na mOp mIk mPa mRu mLa mTy mSp mFr mRe mCa mOr mLe rS rP rK rA rO rW rC rT rN) ++ [wL cy ua out])) H) (hD : va_D (k_A s) ((wX7 cy h0 gma sna hia ka ora cha tra ena opa foa gm sn hs qs k0 k1 k2 k3 ch o tr es op fo has) ++ ((wX8 cy mo sa pa kb aa oa wa ca ta na mOp mIk mPa mRu mLa mTy mSp mFr mRe mCa mOr mLe rS rP rK rA rO rW rC rT rN) ++ [wL cy ua out]))) (hS : va_S (k_A s) s.heap H locs) (kk : ∀ (ls : Array Slot) (H : Heap) (locs : List Loc), lv_has ls 9 [(4, .int i), (3, .ref ua), (2, .ref mo), (1, .ref h0), (0, .ref b)] → va_P D vwCl ((wX7 cy h0 gma sna hia ka ora cha tra ena opa foa gm sn hs qs k0 k1 k2 k3 ch o tr es op fo has) ++ ((wX8 cy mo sa pa kb aa oa wa ca ta na mOp mIk mPa mRu r.1 mTy mSp mFr mRe mCa mOr mLe rS rP rK rA rO rW rC rT rN) ++ [wL cy ua r.2])) H → va_D (k_A s) ((wX7 cy h0 gma sna hia ka ora cha tra ena opa foa gm sn hs qs k0 k1 k2 k3 ch o tr es op fo has) ++ ((wX8 cy mo sa pa kb aa oa wa ca ta na mOp mIk mPa mRu r.1 mTy mSp mFr mRe mCa mOr mLe rS rP rK rA rO rW rC rT rN) ++ [wL cy ua r.2])) → va_S (k_A s) s.heap H locs → W p l e room_1 s m #[Value.ref b] below meth c H locs (cells + 1) (slots + 6) Q (F0 m 1650 ls [])) : W p l e room_1 s m #[Value.ref b] below meth c H locs cells slots Q (F0 m 693 ls []) := by
  obtain ⟨hx, hb, hml, hown, hts, hX, hbl, hK, hN, hT, hZ, hCx⟩ := C
  have hA : ∀ q : Nat, s.heap.size ≤ q → k_A s q := fun _ h9 => h9
  unfold f_case13 at hf
  refine lv_aload_n hx hb dL_law_693 rfl (lv_at hl 3 rfl) ?_
  refine lv_aload_n hx hb dL_law_694 rfl (lv_at hl 1 rfl) ?_
  obtain ⟨v1, hv1, hf⟩ := k_B hf
  refine k_callLS (As := [.ref h0, .ref ua]) (rest := []) (isC := [0, 1, 2, 3, 4, 5, 6, 7, 8, 9, 10, 11, 12, 13, 14, 25]) (isR := [15, 16, 17, 18, 19, 20, 21, 22, 23, 24]) (perm := [10, 11, 12, 13, 14, 15, 16, 17, 18, 19, 20, 21, 22, 23, 24, 0, 1, 2, 3, 4, 5, 6, 7, 8, 9, 25]) (w' := ((wX7 cy h0 gma sna hia ka ora cha tra ena opa foa gm sn hs qs k0 k1 k2 k3 ch o tr es op fo has) ++ ((wX8 cy mo sa pa kb aa oa wa ca ta na mOp mIk mPa mRu mLa mTy mSp mFr mRe mCa mOr mLe rS rP rK rA rO rW rC rT rN) ++ [wL cy ua v1.2]))) ⟨hx, hb, hml, hown, hts⟩ (c_L_takingFence l hl9 D cy h0 gma sna hia ka ora cha tra ena opa foa ua gm sn hs qs k0 k1 k2 k3 ch o tr es op fo has out  v1 hv1) (vx_cwSW 2 hts gL_law_L_takingFence rfl rfl rfl hd_L_takingFence ⟨Nat.le_of_ble_eq_true rfl, Nat.le_of_ble_eq_true rfl⟩) hK hN hT hZ hCx hP hD hS (fun _ h9 => h9) rfl rfl rfl (by decide) (by decide) rfl (by decide) rfl hl.1 rfl (Nat.le_of_ble_eq_true rfl) dL_law_695 ⟨hc, hsl⟩ (fun H locs hP hD hS => ?_)
  refine lv_istore (lv' := [(5, .int v1.1), (4, .int i), (3, .ref ua), (2, .ref mo), (1, .ref h0), (0, .ref b)]) hx hb dL_law_698 hl (by decide) rfl (fun ls hl => ?_)
  refine lv_aload_n hx hb dL_law_700 rfl (lv_at hl 3 rfl) ?_
  obtain ⟨v2, hv2, hf⟩ := k_B hf
  refine k_callHV (As := []) (rest := []) (r := (RX8, TX8, 21)) (ci := 5) (q0 := 15) (isC := [15, 16, 17, 18, 19, 20, 21, 22, 23, 24]) (isR := [0, 1, 2, 3, 4, 5, 6, 7, 8, 9, 10, 11, 12, 13, 14, 25]) (perm := [0, 1, 2, 3, 4, 5, 6, 7, 8, 9, 10, 11, 12, 13, 14, 16, 17, 18, 19, 20, 21, 22, 23, 24, 25, 15]) (w' := ((wX7 cy h0 gma sna hia ka ora cha tra ena opa foa gm sn hs qs k0 k1 k2 k3 ch o tr es op fo has) ++ ((wX8 cy mo sa pa kb aa oa wa ca ta na mOp mIk mPa mRu v2.2 mTy mSp mFr mRe mCa mOr mLe rS rP rK rA rO rW rC rT rN) ++ [wL cy ua v1.2]))) ⟨hx, hb, hml, hown, hts⟩ (c_X8_takingFence l D cy mo sa pa kb aa oa wa ca ta na mOp mIk mPa mRu mLa mTy mSp mFr mRe mCa mOr mLe rS rP rK rA rO rW rC rT rN  v2 hv2) (cwV 0 hts gL_law_X8_takingFence rfl rfl rfl hd_X8_takingFence ⟨Nat.le_of_ble_eq_true rfl, Nat.le_of_ble_eq_true rfl⟩) hK hN hP hD hS hA rfl rfl rfl rfl rfl rfl (by decide) rfl rfl rfl hl.1 rfl (Nat.le_of_ble_eq_true rfl) dL_law_701 ⟨hc, hsl⟩ (fun H locs hP hD hS => ?_)
  refine lv_istore (lv' := [(6, .int v2.1), (5, .int v1.1), (4, .int i), (3, .ref ua), (2, .ref mo), (1, .ref h0), (0, .ref b)]) hx hb dL_law_704 hl (by decide) rfl (fun ls hl => ?_)
  refine lv_aload_n hx hb dL_law_706 rfl (lv_at hl 4 rfl) ?_
  obtain ⟨v3, hv3, hf⟩ := k_B hf
  refine k_callHV (As := []) (rest := []) (r := (RX8, TX8, 21)) (ci := 5) (q0 := 15) (isC := [15, 16, 17, 18, 19, 20, 21, 22, 23, 24]) (isR := [0, 1, 2, 3, 4, 5, 6, 7, 8, 9, 10, 11, 12, 13, 14, 25]) (perm := [0, 1, 2, 3, 4, 5, 6, 7, 8, 9, 10, 11, 12, 13, 14, 16, 17, 18, 19, 20, 21, 22, 23, 24, 25, 15]) (w' := ((wX7 cy h0 gma sna hia ka ora cha tra ena opa foa gm sn hs qs k0 k1 k2 k3 ch o tr es op fo has) ++ ((wX8 cy mo sa pa kb aa oa wa ca ta na mOp mIk mPa mRu v2.2 mTy mSp mFr mRe mCa mOr mLe rS rP rK rA rO rW rC rT rN) ++ [wL cy ua v1.2]))) ⟨hx, hb, hml, hown, hts⟩ (c_X8_thrown l D cy mo sa pa kb aa oa wa ca ta na mOp mIk mPa mRu v2.2 mTy mSp mFr mRe mCa mOr mLe rS rP rK rA rO rW rC rT rN  v3 hv3) (cwV 0 hts gL_law_X8_thrown rfl rfl rfl hd_X8_thrown ⟨Nat.le_of_ble_eq_true rfl, Nat.le_of_ble_eq_true rfl⟩) hK hN hP hD hS hA rfl rfl rfl rfl rfl rfl (by decide) rfl rfl rfl hl.1 rfl (Nat.le_of_ble_eq_true rfl) dL_law_707 ⟨hc, hsl⟩ (fun H locs hP hD hS => ?_)
  refine lv_iload hx hb dL_law_710 (lv_at hl 1 rfl) ?_
  refine lv_icmp_eq (tgt := 717) hx hb dL_law_712 (by decide) (fun c4 => ?_) (fun c4 => ?_)
  · have hf := k_T c4 hf
    refine lv_iload hx hb dL_law_717 (lv_at hl 1 rfl) ?_
    refine lv_if_ne (tgt := 734) hx hb dL_law_719 (by decide) (fun c5 => ?_) (fun c5 => ?_)
    · have hf := k_F c5 hf
      refine lv_goto (tgt := 1650) hx hb dL_law_734 (by decide) ?_
      obtain rfl := k_some hf
      exact kk ls H locs (lv_sub hl [2, 3, 4, 5, 6] rfl) hP hD hS
    · have hf := k_T c5 hf
      refine lv_aload_n hx hb dL_law_722 rfl (lv_at hl 3 rfl) ?_
      refine lv_iconst (v := 0) hx hb dL_law_723 (by decide) ?_
      refine va_lald hx hb hK hP 25 3 rfl rfl (k_in (i := 0) (n := 1) (by decide +kernel)) dL_law_724 ?_
      refine k_nameJ (v := v1.2 0) rfl ?_
      refine lv_iload hx hb dL_law_725 (lv_at hl 0 rfl) ?_
      refine lv_i2l hx hb dL_law_727 rfl ?_
      refine W.lcmp hx hb dL_law_728 ?_
      refine lv_if_eq (tgt := 734) hx hb dL_law_729 (by decide) (fun c6 => ?_) (fun c6 => ?_)
      · have hf := k_T c6 hf
        refine lv_goto (tgt := 1650) hx hb dL_law_734 (by decide) ?_
        obtain rfl := k_some hf
        exact kk ls H locs (lv_sub hl [2, 3, 4, 5, 6] rfl) hP hD hS
      · have hf := k_F c6 hf
        refine lv_iconst (v := 0) hx hb dL_law_732 (by decide) ?_
        cases hf
  · have hf := k_F c4 hf
    refine lv_iconst (v := 0) hx hb dL_law_715 (by decide) ?_
    cases hf
