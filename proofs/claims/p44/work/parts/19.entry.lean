/-! The law's entry: what the tables give, the three objects made, and the whole run. -/
abbrev k_fl (b : Nat) : List Cond := flatC (Jvm.Cond.and given_1 narrow_1)
theorem k_m1 : ∀ q ∈ k_nest, Cond.methodLinkNest q.1 q.2.1 q.2.2.1 q.2.2.2 ∈ lw_tbl := by decide +kernel
theorem k_m2 : ∀ q ∈ k_nestF, Cond.fieldLinkNest q.1 q.2.1 q.2.2.1 q.2.2.2.1 q.2.2.2.2.1 q.2.2.2.2.2 ∈ lw_tbl := by decide +kernel
theorem k_m3 : ∀ w ∈ k_bad, w ∈ lw_tbl := by decide +kernel
theorem k_m4 : ∀ x ∈ k_dec, Cond.declares x ∈ lw_tbl := by decide +kernel
theorem k_m5 : ∀ q ∈ k_texts, Cond.stringRef RX7 q.1 q.2 ∈ lw_tbl := by decide +kernel
theorem k_m6 : ∀ q ∈ k_texts, Cond.exactly (.string RX7 q.1) "java/lang/String" ∈ k_fl 0 := by decide +kernel
theorem k_m7 : ∀ q ∈ k_nc, Cond.not (.castable q.1 q.2) ∈ k_fl 0 := by decide +kernel
theorem k_m8 : Cond.isRef (.static Bundle.tN "UNASSIGNED_STACK" Bundle.steD) ∈ k_fl 0 := by decide +kernel
theorem k_m9 : Cond.isRef (.static Bundle.tN "SUPPRESSED_SENTINEL" Bundle.listD) ∈ k_fl 0 := by decide +kernel
def k_l10 : List Cond := [Cond.laysStatic Bundle.tN "UNASSIGNED_STACK" Bundle.steD, Cond.laysStatic Bundle.tN "SUPPRESSED_SENTINEL" Bundle.listD, Cond.initialized Bundle.tN, Cond.instantiable RX1 3, Cond.instantiable RX2 8, Cond.instantiable RX4 2, Cond.instantiable RX5 7, Cond.instantiable RX7 6, Cond.arrayClass .int, Cond.arrayClass .char, Cond.arrayClass .long, Cond.arrayOver (.object "FencedBoxes$Game")]
theorem k_m10 : ∀ w ∈ k_l10, w ∈ lw_tbl := by decide +kernel
theorem k_castT {C T : String} : (Cond.castable C T).onTables = true := rfl
set_option maxHeartbeats 1000000 in
theorem k_enter {p : Program} {s : State} {m : MethodId} {meth : Method} {c : Code} {b L : Nat} {xs : Nat → Int32} (C0 : lw_At p s m meth c b L xs) : ∃ (D : va_G) (cy : Nat → ClassId), k_LC p s m c b L xs D cy ∧ va_AO "FencedBoxes$Game" s := by
  obtain ⟨hx, hb, hr, hml, hown, htt, hX, hbl, hlocks, hgv⟩ := C0
  have hts : ∀ w ∈ wsL_law, w.before #[Value.ref b] s = true := fun w h => htt w (wsL_law_in w h)
  have hg : ∀ w ∈ k_fl 0, w.before #[Value.ref b] s = true := flat_of_before _ hgv
  have h10 : ∀ w ∈ k_l10, w.before #[Value.ref b] s = true := fun w h => htt w (k_m10 w h)
  obtain ⟨c0, i0, h0⟩ := u_known (C := RX1) (T := TX1) (N := 3) (n := 3) htt inX1 (h10 (.instantiable RX1 3) (by simp [k_l10]))
  obtain ⟨c1, i1, h1⟩ := u_known (C := RX2) (T := TX2) (N := 8) (n := 8) htt inX2 (h10 (.instantiable RX2 8) (by simp [k_l10]))
  obtain ⟨c2, i2, h2⟩ := u_known (C := RX4) (T := TX4) (N := 2) (n := 2) htt inX4 (h10 (.instantiable RX4 2) (by simp [k_l10]))
  obtain ⟨c3, i3, h3⟩ := u_known (C := RX5) (T := TX5) (N := 7) (n := 7) htt inX5 (h10 (.instantiable RX5 7) (by simp [k_l10]))
  obtain ⟨c4, i4, h4⟩ := u_known (C := RX7) (T := TX7) (N := 6) (n := 6) htt inX7 (h10 (.instantiable RX7 6) (by simp [k_l10]))
  obtain ⟨dC, dI, hKc⟩ : ∃ (dC : Nat → ClassId) (dI : Nat → Nat → Nat), ∀ (k : Nat) (q : vw_C), vwCl[k]? = some q → u_Kn s q.1 q.2.1 q.2.2 (dC k) (dI k) := by
    refine ⟨fun k => if k = 0 then c0 else if k = 1 then c1 else if k = 2 then c2 else if k = 3 then c3 else c4, fun k => if k = 0 then i0 else if k = 1 then i1 else if k = 2 then i2 else if k = 3 then i3 else i4, ?_⟩
    intro k q hq
    match k, hq with
    | 0, hq => cases hq; exact h0
    | 1, hq => cases hq; exact h1
    | 2, hq => cases hq; exact h2
    | 3, hq => cases hq; exact h3
    | 4, hq => cases hq; exact h4
    | k + 5, hq => simp [vwCl] at hq
  obtain ⟨cI, aI, rI⟩ := k_arr (ty := .int) (fun _ _ => rfl) (h10 (.arrayClass .int) (by simp [k_l10]))
  obtain ⟨cC, aC, rC⟩ := k_arr (ty := .char) (fun _ _ => rfl) (h10 (.arrayClass .char) (by simp [k_l10]))
  obtain ⟨cL, aL, rL⟩ := k_arr (ty := .long) (fun _ _ => rfl) (h10 (.arrayClass .long) (by simp [k_l10]))
  have hao : (Cond.arrayOver (.object "FencedBoxes$Game")).before #[Value.ref b] s = true := h10 (.arrayOver (.object "FencedBoxes$Game")) (by simp [k_l10])
  obtain ⟨comp, cG, kG, g1, g2, g3, g4, g5⟩ := Cond.arrayOver_spec hao
  have aG : ArrOfT s cG (.object "FencedBoxes$Game") := fun N z => ⟨(fun k h => by cases h), kG, g3, comp, g4⟩
  have rG : va_RA s cG (.object "FencedBoxes$Game") := ⟨kG, comp, g3, g4, g1, g5⟩
  have hK : va_K (dC, dI) vwCl (k_tys (fun k => if k = 0 then cI else if k = 1 then cC else if k = 2 then cG else cL)) s := by
    refine ⟨hKc, fun k q hq => ?_⟩
    match k, hq with
    | 0, hq => cases hq; exact ⟨aI, rI⟩
    | 1, hq => cases hq; exact ⟨aC, rC⟩
    | 2, hq => cases hq; exact ⟨aG, rG⟩
    | 3, hq => cases hq; exact ⟨aL, rL⟩
    | k + 4, hq => simp [k_tys] at hq
  have hN : k_N s := ⟨fun q hq => va_Nw.of rfl (htt _ (k_m1 q hq)), fun q hq => va_Nw.of rfl (htt _ (k_m2 q hq))⟩
  have hT : k_T3 s := by
    refine ⟨fun w hw => ?_, fun x hx => va_Nw.of rfl (htt _ (k_m4 x hx)), fun q hq => ?_⟩
    · have h9 := htt _ (k_m3 w hw)
      simp only [k_bad, List.mem_cons, List.not_mem_nil, or_false] at hw
      rcases hw with rfl | rfl | rfl <;> exact va_Nw.of rfl h9
    · obtain ⟨a, _, _, _, e1, _⟩ := Cond.exactly_spec (hg _ (k_m6 q hq))
      exact ⟨a, vk_R.of (htt _ (k_m5 q hq)) e1⟩
  have hZ : k_Z (k_A s) s s.heap := ⟨vx_Zqof (h10 (.laysStatic Bundle.tN "UNASSIGNED_STACK" Bundle.steD) (by simp [k_l10])) (h10 (.initialized Bundle.tN) (by simp [k_l10])) (hg _ k_m8) (fun a h => Nat.not_le.mpr h), vx_Zqof (h10 (.laysStatic Bundle.tN "SUPPRESSED_SENTINEL" Bundle.listD) (by simp [k_l10])) (h10 (.initialized Bundle.tN) (by simp [k_l10])) (hg _ k_m9) (fun a h => Nat.not_le.mpr h)⟩
  have hC : k_C s := fun q hq => va_Nc.of (hg _ (k_m7 q hq))
  exact ⟨(dC, dI), _, ⟨hx, hb, hml, hown, hts, hX, hbl, hK, hN, hT, hZ, hC⟩, va_AO.of hao⟩
set_option maxHeartbeats 4000000 in
set_option maxRecDepth 100000 in
theorem k_whole {p : Program} {e : Env} {s : State} {m : MethodId} {below : List Frame} {meth : Method} {c : Code} (l : Launch) (hflags : l.flags = flags0) {b L : Nat} {xs : Nat → Int32} (hrun : ∀ qs : k_Q4, f_L_law xs L (0, 0, 0, 0, 0, 0, 0, 0) 0 qs (0, 0, 0, 0, 0, 0, 0, 0) (0, 0, 0, 0, 0, 0, 0, 0) (0, 0, 0, 0, 0, 0, 0, 0) (0, 0, 0, 0, 0, 0, 0, 0) 0 (fun _ => 0) (fun _ => 0) (fun _ => 0) (fun _ => 0) = some 1) (C0 : lw_At p s m meth c b L xs) : W p l e room_1 s m #[Value.ref b] below meth c s.heap [] 0 0 (lw_Z below #[Value.ref b] s) (entryFrame m ([Value.ref b] : List Value).toArray 11) := by
  have hl9 : l.stackTraces = false := by rw [Launch.stackTraces, hflags]; decide +kernel
  obtain ⟨D, cy, hLC, hAO⟩ := k_enter C0
  obtain ⟨hx, hb, hml, hown, hts, hX, hbl, hK, hN, hT, hZ, hCx⟩ := id hLC
  have hr : meth.sig.returnType = ret := C0.2.2.1
  have hlocks : meth.locks = false := C0.2.2.2.2.2.2.2.2.1
  have hE : k_E s := ⟨hN, hAO⟩
  have hA : ∀ q : Nat, s.heap.size ≤ q → k_A s q := fun _ h => h
  have hS : va_S (k_A s) s.heap s.heap [] := va_S.rf
  have hP : va_P D vwCl [] s.heap := fun k q h => by simp at h
  have hD : va_D (k_A s) [] := ⟨fun i j p q h => by simp at h, fun k q h => by simp at h⟩
  have hl := lv_entry ([.ref b]) (n := 11) (Nat.le_of_ble_eq_true rfl)
  rw [lg_entry_eq]
  generalize (lg_sl ([.ref b]) ++ List.replicate (11 - (lg_sl ([.ref b])).length) Slot.unset).toArray = ls at hl ⊢
  have hl : lv_has ls 11 [(0, .ref b)] := hl
  refine va_new (ci := 4) (fs := [.null, .null, .null, .null, .null, .int 0]) (C := RX7) (T := TX7) (N := 6) hx hb hts inlX7 tyX7 tyX7_ok hown (hts (.classLink RL 10 RX7) (by decide +kernel)) (hts (.instantiable RX7 6) (by decide +kernel)) (hts (.initialized RX7) (by decide +kernel)) hK hP hD hS hA rfl (fun j hj => by rcases (show j = 0 ∨ j = 1 ∨ j = 2 ∨ j = 3 ∨ j = 4 ∨ j = 5 by omega) with rfl | rfl | rfl | rfl | rfl | rfl <;> rfl) (Nat.le_of_ble_eq_true rfl) (Nat.le_of_ble_eq_true rfl) dL_law_0 (fun h0 H hP hD hS => ?_)
  have hP : va_P D vwCl [(h0, .inr (4, [.null, .null, .null, .null, .null, .int 0]))] H := hP
  have hD : va_D (k_A s) [(h0, .inr (4, [.null, .null, .null, .null, .null, .int 0]))] := hD
  refine lv_dup hx hb dL_law_3 rfl ?_
  refine k_callCI (rest := [.ref h0]) (isC := [0]) (isR := []) ⟨hx, hb, hml, hown, hts⟩ (c_X7_init l D cy h0 0) (cwI 0 hts gL_law_X7_init rfl rfl rfl (hts (.initialized RX7) (by decide +kernel)) (hts (.methodLink RL 197 yX7_init) (by decide +kernel)) (hts (.instanceMethod yX7_init) (by decide +kernel)) rfl hd_X7_init ⟨Nat.le_of_ble_eq_true rfl, Nat.le_of_ble_eq_true rfl⟩) hK hE hP hD hS hA rfl rfl rfl rfl (by decide) hl.1 rfl (Nat.le_of_ble_eq_true rfl) dL_law_4 ⟨Nat.le_of_ble_eq_true rfl, Nat.le_of_ble_eq_true rfl⟩ (fun w1 H locs hp hP hD hS => ?_)
  obtain ⟨gma, sna, hia, ka, q0, q1, q2, q3, ora, cha, tra, ena, opa, foa, rfl⟩ := hp
  have hP : va_P D vwCl (wX7 cy h0 gma sna hia ka ora cha tra ena opa foa (0, 0, 0, 0, 0, 0, 0, 0) (0, 0, 0, 0, 0, 0, 0, 0) 0 (q0, q1, q2, q3) (0, 0, 0, 0, 0, 0, 0, 0) (0, 0, 0, 0, 0, 0, 0, 0) (0, 0, 0, 0, 0, 0, 0, 0) (0, 0, 0, 0, 0, 0, 0, 0) (fun _ => 0) (0, 0, 0, 0, 0) (0, 0, 0, 0, 0, 0, 0, 0) 0 (fun _ => 0) (fun _ => 0) 0) H := hP
  have hD : va_D (k_A s) (wX7 cy h0 gma sna hia ka ora cha tra ena opa foa (0, 0, 0, 0, 0, 0, 0, 0) (0, 0, 0, 0, 0, 0, 0, 0) 0 (q0, q1, q2, q3) (0, 0, 0, 0, 0, 0, 0, 0) (0, 0, 0, 0, 0, 0, 0, 0) (0, 0, 0, 0, 0, 0, 0, 0) (0, 0, 0, 0, 0, 0, 0, 0) (fun _ => 0) (0, 0, 0, 0, 0) (0, 0, 0, 0, 0, 0, 0, 0) 0 (fun _ => 0) (fun _ => 0) 0) := hD
  refine lv_astore_n (lv' := [(1, .ref h0), (0, .ref b)]) hx hb dL_law_7 rfl hl (by decide) rfl (fun ls hl => ?_)
  refine lv_bipush (v := 12) hx hb dL_law_8 (by decide) ?_
  refine va_newa (atype := .int) (a0 := (12, .inl (fun _ => 0))) hx hb (hts (.arrayClass .int) (by decide +kernel)) rfl hK hP hD hS hA (fun _ => rfl) (by decide) (by decide) (by decide) (Nat.le_of_ble_eq_true rfl) (Nat.le_of_ble_eq_true rfl) dL_law_10 (fun ac cA H hK1 hP hD hS => ?_)
  obtain rfl := k_sameI hK1
  have hP : va_P D vwCl ((wX7 cy h0 gma sna hia ka ora cha tra ena opa foa (0, 0, 0, 0, 0, 0, 0, 0) (0, 0, 0, 0, 0, 0, 0, 0) 0 (q0, q1, q2, q3) (0, 0, 0, 0, 0, 0, 0, 0) (0, 0, 0, 0, 0, 0, 0, 0) (0, 0, 0, 0, 0, 0, 0, 0) (0, 0, 0, 0, 0, 0, 0, 0) (fun _ => 0) (0, 0, 0, 0, 0) (0, 0, 0, 0, 0, 0, 0, 0) 0 (fun _ => 0) (fun _ => 0) 0) ++ [wR cy 0 12 ac (fun _ => 0)]) H := hP
  have hD : va_D (k_A s) ((wX7 cy h0 gma sna hia ka ora cha tra ena opa foa (0, 0, 0, 0, 0, 0, 0, 0) (0, 0, 0, 0, 0, 0, 0, 0) 0 (q0, q1, q2, q3) (0, 0, 0, 0, 0, 0, 0, 0) (0, 0, 0, 0, 0, 0, 0, 0) (0, 0, 0, 0, 0, 0, 0, 0) (0, 0, 0, 0, 0, 0, 0, 0) (fun _ => 0) (0, 0, 0, 0, 0) (0, 0, 0, 0, 0, 0, 0, 0) 0 (fun _ => 0) (fun _ => 0) 0) ++ [wR cy 0 12 ac (fun _ => 0)]) := hD
  refine lv_astore_n (lv' := [(2, .ref ac), (1, .ref h0), (0, .ref b)]) hx hb dL_law_12 rfl hl (by decide) rfl (fun ls hl => ?_)
  refine lv_iconst (v := 5) hx hb dL_law_13 (by decide) ?_
  refine va_newa (atype := .int) (a0 := (5, .inl (fun _ => 0))) hx hb (hts (.arrayClass .int) (by decide +kernel)) rfl hK hP hD hS hA (fun _ => rfl) (by decide) (by decide) (by decide) (Nat.le_of_ble_eq_true rfl) (Nat.le_of_ble_eq_true rfl) dL_law_14 (fun tr5 cA H hK1 hP hD hS => ?_)
  obtain rfl := k_sameI hK1
  have hP : va_P D vwCl ((wX7 cy h0 gma sna hia ka ora cha tra ena opa foa (0, 0, 0, 0, 0, 0, 0, 0) (0, 0, 0, 0, 0, 0, 0, 0) 0 (q0, q1, q2, q3) (0, 0, 0, 0, 0, 0, 0, 0) (0, 0, 0, 0, 0, 0, 0, 0) (0, 0, 0, 0, 0, 0, 0, 0) (0, 0, 0, 0, 0, 0, 0, 0) (fun _ => 0) (0, 0, 0, 0, 0) (0, 0, 0, 0, 0, 0, 0, 0) 0 (fun _ => 0) (fun _ => 0) 0) ++ [wR cy 0 12 ac (fun _ => 0), wR cy 0 5 tr5 (fun _ => 0)]) H := hP
  have hD : va_D (k_A s) ((wX7 cy h0 gma sna hia ka ora cha tra ena opa foa (0, 0, 0, 0, 0, 0, 0, 0) (0, 0, 0, 0, 0, 0, 0, 0) 0 (q0, q1, q2, q3) (0, 0, 0, 0, 0, 0, 0, 0) (0, 0, 0, 0, 0, 0, 0, 0) (0, 0, 0, 0, 0, 0, 0, 0) (0, 0, 0, 0, 0, 0, 0, 0) (fun _ => 0) (0, 0, 0, 0, 0) (0, 0, 0, 0, 0, 0, 0, 0) 0 (fun _ => 0) (fun _ => 0) 0) ++ [wR cy 0 12 ac (fun _ => 0), wR cy 0 5 tr5 (fun _ => 0)]) := hD
  refine lv_astore_n (lv' := [(3, .ref tr5), (2, .ref ac), (1, .ref h0), (0, .ref b)]) hx hb dL_law_16 rfl hl (by decide) rfl (fun ls hl => ?_)
  refine W.widen (k := 1000) (n := 10000) (Nat.le_of_ble_eq_true rfl) (Nat.le_of_ble_eq_true rfl) ?_
  refine c_L_law l hl9 hLC _ h0 gma sna hia ka ora cha tra ena opa foa ac tr5 (0, 0, 0, 0, 0, 0, 0, 0) (0, 0, 0, 0, 0, 0, 0, 0) 0 (q0, q1, q2, q3) (0, 0, 0, 0, 0, 0, 0, 0) (0, 0, 0, 0, 0, 0, 0, 0) (0, 0, 0, 0, 0, 0, 0, 0) (0, 0, 0, 0, 0, 0, 0, 0) (fun _ => 0) (0, 0, 0, 0, 0) (0, 0, 0, 0, 0, 0, 0, 0) 0 (fun _ => 0) (fun _ => 0) 0 (fun _ => 0) (fun _ => 0) 1 (hrun (q0, q1, q2, q3)) 600260 7299910 1000 10000 (Nat.le_of_ble_eq_true rfl) (Nat.le_of_ble_eq_true rfl) (Nat.le_of_ble_eq_true rfl) (Nat.le_of_ble_eq_true rfl) ls H _ hl hP hD hS ?_
  intro ls H locs hsz hS
  refine va_forget (fun q hq => hS.2.2 q hq) ?_
  exact lw_ret (Drawn.sameBut.refl s.drawn lw_cs) hx hb hr hlocks dL_law_500
