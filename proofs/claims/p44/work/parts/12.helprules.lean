/-! The law's helpers: methods with a table of handlers, which return; the call of a method that throws, caught. -/
def k_nc : List (String × String) := [("java/lang/IllegalStateException", "java/lang/IllegalArgumentException"), (k_NS, "java/lang/IllegalArgumentException"), (k_NS, "java/lang/IllegalStateException")]
def k_C (U : State) : Prop := ∀ q ∈ k_nc, va_Nc q.1 q.2 U
theorem k_C.moved {u U : State} (hvm : u.vm.Alike U.vm) (h : k_C u) : k_C U := fun q hq => (h q hq).moved hvm
def k_LPc (D : va_G) (tys : List (ClassId × FieldType)) (as : List Value) (w : va_W) (sz : Nat) : Array Value → State → Prop := va_Pc as (fun U => U.heap.size = sz ∧ va_P D vwCl w U.heap ∧ va_K D vwCl tys U ∧ va_D (fun _ => True) w ∧ k_N U ∧ k_T3 U ∧ k_Z (va_A w sz) U U.heap ∧ k_C U)
/-- a method with handlers, that returns -/
def k_LMet (l : Launch) (y : MethodName) (ws : List Cond) (rm : Room) (D : va_G) (tys : List (ClassId × FieldType)) (as : List Value) (w : va_W) (ov : Option Value) (w' : va_W) (mc ms : Nat) : Prop :=
  ∀ sz : Nat, Met l y ws rm (k_LPc D tys as w sz) (k_HQ D ov w' (va_A w sz)) mc ms (va_A w sz)
theorem k_lawOf {mc ms : Nat} {l : Launch} {y : MethodName} {ws ws' : List Cond} {rm : Room} {D : va_G} {tys : List (ClassId × FieldType)} {as : List Value} {w w' : va_W} {ov : Option Value} {cc : ByteArray} {maxL : Nat} {ret : Option FieldType} {hh : List (Nat × Nat × Nat × Nat)} (hy : plainName y.cls = true) (hw : ws = Cond.codeWith y cc maxL ret hh :: ws') (hnl : (lg_sl as).length ≤ maxL)
    (body : ∀ (p : Program) (e : Env) (s : State) (m : MethodId) (args : Array Value) (below : List Frame) (meth : Method) (c : Code) (ls : Array Slot) (A : Nat → Prop), p.tables.exec = Jvm.exec → c.code = cc → meth.sig.returnType = ret → meth.locks = false → c.maxLocals = maxL → s.vm.findClass y.cls = some m.cls → (∀ w ∈ ws, w.before args s = true) → lv_has ls maxL (lv_args 0 as) → (∀ q : Nat, s.heap.size ≤ q → A q) → va_K D vwCl tys s → va_P D vwCl w s.heap → va_D A w → k_N s → k_T3 s → k_Z A s s.heap → k_C s → c.exceptionTable.toList = tableOf hh →
      W p l e rm s m args below meth c s.heap [] 0 0 (MQ below (k_HQ D ov w' A) args s mc ms A) (F0 m 0 ls [])) : k_LMet l y ws rm D tys as w ov w' mc ms := by
  intro sz
  refine MetFree.of_bodyS (code := cc) (maxLocals := maxL) (ret := ret) hy ?_ ?_
  · intro args s m h hn
    obtain ⟨m9, meth, c, hn9, h1, h2, h3, h4, -, h5, h6, -⟩ := Cond.codeWith_spec (atoms_spec (ws := ws) h _ (by rw [hw]; exact List.mem_cons_self))
    cases hn.symm.trans hn9
    exact ⟨meth, c, h1, h2, h3, h4, h5, h6⟩
  · intro p e s m args below meth c s₁ B hml hv _
    obtain ⟨rfl, rfl, hP, hK, hD0, hN, hT, hZ, hC⟩ := hv
    have hts : ∀ w ∈ ws, w.before as.toArray s = true := atoms_spec B.pre
    have hh0 : s₁.heap = s.heap := by rw [B.state]; rfl
    have h := body p e s m as.toArray below meth c _ (va_A w s.heap.size) B.exec B.bytes B.returns B.notSynchronized hml (findClass_of_methodNamed B.named) hts (lv_entry as hnl) (fun q h => Or.inr h) hK hP hD0.self hN hT hZ hC (vx_table (x := y) B (hts _ (by rw [hw]; exact List.mem_cons_self)))
    rw [← lg_entry_eq] at h
    obtain ⟨t, a1, o, b1, b2, b3⟩ := h s₁ hh0 (Stand.of_body B)
    exact ⟨t, o, a1, b1, b2, b3⟩
theorem k_lawOf0 {mc ms : Nat} {l : Launch} {y : MethodName} {ws ws' : List Cond} {rm : Room} {D : va_G} {tys : List (ClassId × FieldType)} {as : List Value} {w w' : va_W} {ov : Option Value} {cc : ByteArray} {maxL : Nat} {ret : Option FieldType} (hy : plainName y.cls = true) (hw : ws = Cond.code y cc maxL ret :: ws') (hnl : (lg_sl as).length ≤ maxL)
    (body : ∀ (p : Program) (e : Env) (s : State) (m : MethodId) (args : Array Value) (below : List Frame) (meth : Method) (c : Code) (ls : Array Slot) (A : Nat → Prop), p.tables.exec = Jvm.exec → c.code = cc → meth.sig.returnType = ret → meth.locks = false → c.maxLocals = maxL → s.vm.findClass y.cls = some m.cls → (∀ w ∈ ws, w.before args s = true) → lv_has ls maxL (lv_args 0 as) → (∀ q : Nat, s.heap.size ≤ q → A q) → va_K D vwCl tys s → va_P D vwCl w s.heap → va_D A w → k_N s → k_T3 s → k_Z A s s.heap → k_C s →
      W p l e rm s m args below meth c s.heap [] 0 0 (MQ below (k_HQ D ov w' A) args s mc ms A) (F0 m 0 ls [])) : k_LMet l y ws rm D tys as w ov w' mc ms := by
  intro sz
  refine Met.ofW (cc := cc) (maxL := maxL) (ret := ret) hy hw ?_
  intro p e s m args below meth c s₁ B hml hv
  obtain ⟨rfl, rfl, hP, hK, hD0, hN, hT, hZ, hC⟩ := hv
  rw [lg_entry_eq]
  exact body p e s m _ below meth c _ (va_A w s.heap.size) B.exec B.bytes B.returns B.notSynchronized hml (findClass_of_methodNamed B.named) (atoms_spec B.pre) (lv_entry as hnl) (fun q h => Or.inr h) hK hP hD0.self hN hT hZ hC
theorem k_smL {α β γ δ : Type} {f : α → γ} {g : β → δ} {x : α} {q : γ} (h : Sum.map f g (.inl x) = .inl q) : f x = q := Sum.inl.inj h
theorem k_smR {α β γ δ : Type} {f : α → γ} {g : β → δ} {x : β} {q : δ} (h : Sum.map f g (.inr x) = .inr q) : g x = q := Sum.inr.inj h
theorem k_smX {α β γ δ : Type} {f : α → γ} {g : β → δ} {x : β} {q : γ} (h : Sum.map f g (.inr x) = .inl q) : False := by cases h
theorem k_smY {α β γ δ : Type} {f : α → γ} {g : β → δ} {x : α} {q : δ} (h : Sum.map f g (.inl x) = .inr q) : False := by cases h
section KL
variable {p : Program} {l : Launch} {e : Env} {R : Room} {s : State} {m : MethodId} {args : Array Value} {below : List Frame} {meth : Method} {c : Code} {H H0 : Heap} {locs : List Loc} {cells slots : Nat} {Q : State → Prop}
variable {cc bytes : ByteArray} {nL maxL n index pc : Nat} {Ts ws : List Cond} {own C : String} {y : MethodName} {ret : Option FieldType} {rm : Room} {As rest st0 : List Value} {ls : Array Slot} {D : va_G} {tys : List (ClassId × FieldType)} {w wc w1 w' : va_W} {ov : Option Value} {A : Nat → Prop} {b : Nat} {res : k_Res}
theorem k_liret {v : Int32} (hx : p.tables.exec = Jvm.exec) (hb : c.code = cc) (hr : meth.sig.returnType = some .int) (hP : va_P D vwCl w' H) (hD : va_D A w') (hS : va_S A s.heap H locs) (hdg : decode cc pc = .ok (.ireturn, 1)) (hlocks : meth.locks = false) :
    W p l e R s m args below meth c H locs 1 6 (MQ below (k_HQ D (some (.int v)) w' A) args s 1 6 A) (F0 m pc ls [.int v]) :=
  W.iret hx hb hr (fun t ht hW => ⟨⟨rfl, by rw [ht]; exact hP, hD⟩, hS.F ht⟩) hS.2.2 hdg hlocks
theorem k_xblind {as : List Value} {sz : Nat} : FrameBlind (k_XPc D tys as w sz) :=
  fun a U g mk q => by obtain ⟨q0, q1, qP, qK, qD, qN, qT, qZ⟩ := q; exact ⟨q0, q1, qP, va_K.moved (u := U) (U := U.calling g mk a) (Vm.Alike.refl U.vm) qK, qD, qN.call, qT.call, qZ.call⟩
theorem k_lblind {as : List Value} {sz : Nat} : FrameBlind (k_LPc D tys as w sz) :=
  fun a U g mk q => by obtain ⟨q0, q1, qP, qK, qD, qN, qT, qZ, qC⟩ := q; exact ⟨q0, q1, qP, va_K.moved (u := U) (U := U.calling g mk a) (Vm.Alike.refl U.vm) qK, qD, qN.call, qT.call, qZ.call, k_C.moved (u := U) (U := U.calling g mk a) (Vm.Alike.refl U.vm) qC⟩
theorem k_callXV {isC isR perm : List Nat} {ci q0 : Nat} {r : vw_C} {fs : List Value} (S : CallFix p m c cc nL s args Ts own) (hM : k_XMet l y ws rm D tys (.ref b :: As) wc res) (cw : CallW R s args own r.1 index y bytes maxL ret ws rm 1 6 n)
    (hK : va_K D vwCl tys s) (hN : k_N s) (hT3 : k_T3 s) (hZ : k_Z A s H0) (hP : va_P D vwCl w H) (hD : va_D A w) (hS : va_S A H0 H locs) (hA : ∀ q : Nat, H0.size ≤ q → A q)
    (hc : vwCl[ci]? = some r) (he : w[q0]? = some (b, .inr (ci, fs)))
    (hC : isC.map (fun i => w[i]?) = wc.map some) (hR : isR.map (fun i => w[i]?) = (isR.filterMap (fun i => w[i]?)).map some) (hn : va_nd isR = true) (hnC : va_nd isC = true) (hdis : ∀ i ∈ isR, i ∉ isC)
    (hnp : va_nd perm = true)
    (hln : As.length = n) (hsize : ls.size = nL) (hstack : st0 = As.reverse ++ .ref b :: rest) (hW : (rest.map fun v => v.category).sum ≤ 8) (hdg : decode cc pc = .ok (.invokevirtual index, 3)) (hcs : cells + 1 ≤ R.cells ∧ slots + 6 ≤ R.slots)
    (kk : ∀ (q : Option Value × va_W), res = .inl q → ∀ (H1 : Heap) (locs1 : List Loc), (∀ w' : va_W, perm.map (fun i => (isR.filterMap (fun i => w[i]?) ++ q.2)[i]?) = w'.map some → va_P D vwCl w' H1 ∧ va_D A w') → va_S A H0 H1 locs1 → W p l e R s m args below meth c H1 locs1 (cells + 1) (slots + 6) Q (F0 m (pc + 3) ls (q.1.toList ++ rest)))
    (kx : ∀ (E : String × va_W), res = .inr E → ∀ (ce : Cell) (q9 : Addr) (H1 : Heap) (locs1 : List Loc), (∀ w' : va_W, perm.map (fun i => (isR.filterMap (fun i => w[i]?) ++ E.2)[i]?) = w'.map some → va_P D vwCl w' H1 ∧ va_D A w') → va_S A H0 H1 locs1 → H1[q9]? = some ce → ce.vm = .none → s.vm.findClass E.1 = some ce.cls → vx_W p l e R s m args below meth c H1 locs1 (cells + 1) (slots + 6) Q (F0 m pc ls rest) q9) :
    W p l e R s m args below meth c H locs cells slots Q (F0 m pc ls st0) := by
  have hPc := hP.sub isC (k_fmap hC)
  have hDc := hD.sub isC hnC hC
  have hF := va_free hD hS hA isC hC
  have hZc : k_Z (va_A wc H.size) s H := (hZ.kept hS.2.1).narrow hF
  have hr : vx_Run p l e R s m args below meth c H locs cells slots 1 6 (F0 m pc ls st0) rest (k_XQ D res (va_A wc H.size) (Value.ref b :: As).toArray) (k_XX D res (va_A wc H.size)) (va_A wc H.size) :=
    vx_runV (As := As) (rest := rest) S (hM H.size) cw ⟨k_xblind, va_recv hK hP hc he, fun U hU hW => ⟨rfl, by rw [hU], by rw [hU]; exact hPc, va_K.moved hW.alike hK, hDc.weaken (fun _ _ _ _ => trivial), hN.warm hW, hT3.warm hW, by rw [hU]; exact hZc.moved hW.alike⟩⟩ (g := F0 m pc ls st0) rfl hln hsize hstack (lv_room hW) hdg hcs
  have fin : ∀ (L : List Loc) (H1 : Heap) (w1 : va_W), va_P D vwCl w1 H1 → va_D (va_A wc H.size) w1 → H.size ≤ H1.size → (∀ q : Nat, q < H.size → ¬ va_A wc H.size q → H1[q]? = H[q]?) → (∀ q ∈ L, va_A wc H.size q.base) →
      (∀ w' : va_W, perm.map (fun i => (isR.filterMap (fun i => w[i]?) ++ w1)[i]?) = w'.map some → va_P D vwCl w' H1 ∧ va_D A w') ∧ va_S A H0 H1 (locs ++ L) := by
    intro L H1 w1 hP1 hD1 hz hk1 hL
    obtain ⟨j1, j2⟩ := va_join (wr := isR.filterMap (fun i => w[i]?)) hP hD isC isR hC hR hn hdis hk1 hF hP1 hD1
    refine ⟨fun w' hp => ⟨j1.sub perm (k_fmap hp), j2.sub perm hnp hp⟩, Nat.le_trans hS.1 hz, fun q h1 h2 => by rw [hk1 q (Nat.lt_of_lt_of_le h1 hS.1) (fun z => h2 (hF q z))]; exact hS.2.1 q h1 h2, fun q hq => ?_⟩
    rcases List.mem_append.mp hq with h | h
    · exact hS.2.2 q h
    · exact hF _ (hL q h)
  intro T hT X
  rcases hr T hT X with ⟨v, st₀, t, T', L, h0, X', hL, e1, e2, ⟨q, hq, ⟨hv, hP1, hD1⟩, hz, hk⟩, st⟩ | ⟨q, st₀, t, T', L, E, ce, h0, X', hL, e1, e2, ⟨wx, hq, hP1, hD1, hz, hk⟩, hce, hcv, hcl, st⟩
  · cases hv
    rw [h0] at hz hk
    rw [← e1] at hP1 hz
    obtain ⟨f1, f2⟩ := fin L T'.heap q.2 hP1 hD1 hz (fun q h1 h2 => by rw [e1]; exact hk q h1 h2) hL
    obtain ⟨t2, a1, b1⟩ := kk q hq T'.heap (locs ++ L) f1 f2 T' rfl X'
    exact ⟨t2, st t2 a1, b1⟩
  · rw [h0] at hz hk
    rw [← e1] at hP1 hz hce
    obtain ⟨f1, f2⟩ := fin L T'.heap wx hP1 hD1 hz (fun q h1 h2 => by rw [e1]; exact hk q h1 h2) hL
    obtain ⟨t2, a1, b1⟩ := kx (E, wx) hq ce q T'.heap (locs ++ L) f1 f2 hce hcv hcl T' rfl X'
    exact ⟨t2, st.trans a1, b1⟩
theorem k_callLS {mc ms : Nat} {isC isR perm : List Nat} {hh : List (Nat × Nat × Nat × Nat)} (S : CallFix p m c cc nL s args Ts own) (hM : k_LMet l y ws rm D tys As wc ov w1 mc ms) (cw : vx_CSW R s args own index y bytes maxL ret hh ws rm mc ms n)
    (hK : va_K D vwCl tys s) (hN : k_N s) (hT3 : k_T3 s) (hZ : k_Z A s H0) (hCx : k_C s) (hP : va_P D vwCl w H) (hD : va_D A w) (hS : va_S A H0 H locs) (hA : ∀ q : Nat, H0.size ≤ q → A q)
    (hC : isC.map (fun i => w[i]?) = wc.map some) (hR : isR.map (fun i => w[i]?) = (isR.filterMap (fun i => w[i]?)).map some) (hn : va_nd isR = true) (hnC : va_nd isC = true) (hdis : ∀ i ∈ isR, i ∉ isC)
    (hp : perm.map (fun i => (isR.filterMap (fun i => w[i]?) ++ w1)[i]?) = w'.map some) (hnp : va_nd perm = true)
    (hln : As.length = n) (hsize : ls.size = nL) (hstack : st0 = As.reverse ++ rest) (hW : (rest.map fun v => v.category).sum ≤ 8) (hdg : decode cc pc = .ok (.invokestatic index, 3)) (hcs : cells + mc ≤ R.cells ∧ slots + ms ≤ R.slots)
    (k : ∀ (H1 : Heap) (locs1 : List Loc), va_P D vwCl w' H1 → va_D A w' → va_S A H0 H1 locs1 → W p l e R s m args below meth c H1 locs1 (cells + mc) (slots + ms) Q (F0 m (pc + 3) ls (ov.toList ++ rest))) :
    W p l e R s m args below meth c H locs cells slots Q (F0 m pc ls st0) := by
  have hPc := hP.sub isC (k_fmap hC)
  have hDc := hD.sub isC hnC hC
  have hF := va_free hD hS hA isC hC
  have hZc : k_Z (va_A wc H.size) s H := (hZ.kept hS.2.1).narrow hF
  have hr : va_Run p l e R s m args below meth c H locs cells slots mc ms (F0 m pc ls st0) rest (k_HQ D ov w1 (va_A wc H.size) As.toArray) (va_A wc H.size) :=
    vx_runSW (As := As) (rest := rest) S (hM H.size) cw ⟨k_lblind, fun U hU hW => ⟨rfl, by rw [hU], by rw [hU]; exact hPc, va_K.moved hW.alike hK, hDc.weaken (fun _ _ _ _ => trivial), hN.warm hW, hT3.warm hW, by rw [hU]; exact hZc.moved hW.alike, hCx.moved hW.alike⟩⟩ (g := F0 m pc ls st0) rfl hln hsize hstack (lv_room hW) hdg hcs
  intro T hT X
  obtain ⟨v, st₀, t, T', L, h0, X', hL, e1, e2, ⟨⟨hv, hP1, hD1⟩, hz, hk⟩, st⟩ := hr T hT X
  cases hv
  rw [h0] at hz hk
  rw [← e1] at hP1 hz
  have hk1 : ∀ q : Nat, q < H.size → ¬ va_A wc H.size q → T'.heap[q]? = H[q]? := fun q h1 h2 => by rw [e1]; exact hk q h1 h2
  obtain ⟨j1, j2⟩ := va_join (wr := isR.filterMap (fun i => w[i]?)) hP hD isC isR hC hR hn hdis hk1 hF hP1 hD1
  obtain ⟨t2, a1, b1⟩ := k T'.heap (locs ++ L) (j1.sub perm (k_fmap hp)) (j2.sub perm hnp hp) ⟨Nat.le_trans hS.1 hz, fun q h1 h2 => by rw [hk1 q (Nat.lt_of_lt_of_le h1 hS.1) (fun z => h2 (hF q z))]; exact hS.2.1 q h1 h2, fun q hq => by
    rcases List.mem_append.mp hq with h | h
    · exact hS.2.2 q h
    · exact hF _ (hL q h)⟩ T' rfl X'
  exact ⟨t2, st t2 a1, b1⟩
theorem k_callL0 {mc ms : Nat} {isC isR perm : List Nat} (S : CallFix p m c cc nL s args Ts own) (hM : k_LMet l y ws rm D tys As wc ov w1 mc ms) (cw : CallB R s args own index y bytes maxL ret ws rm mc ms n ∧ (Cond.static y).before args s = true)
    (hK : va_K D vwCl tys s) (hN : k_N s) (hT3 : k_T3 s) (hZ : k_Z A s H0) (hCx : k_C s) (hP : va_P D vwCl w H) (hD : va_D A w) (hS : va_S A H0 H locs) (hA : ∀ q : Nat, H0.size ≤ q → A q)
    (hC : isC.map (fun i => w[i]?) = wc.map some) (hR : isR.map (fun i => w[i]?) = (isR.filterMap (fun i => w[i]?)).map some) (hn : va_nd isR = true) (hnC : va_nd isC = true) (hdis : ∀ i ∈ isR, i ∉ isC)
    (hp : perm.map (fun i => (isR.filterMap (fun i => w[i]?) ++ w1)[i]?) = w'.map some) (hnp : va_nd perm = true)
    (hln : As.length = n) (hsize : ls.size = nL) (hstack : st0 = As.reverse ++ rest) (hW : (rest.map fun v => v.category).sum ≤ 8) (hdg : decode cc pc = .ok (.invokestatic index, 3)) (hcs : cells + mc ≤ R.cells ∧ slots + ms ≤ R.slots)
    (k : ∀ (H1 : Heap) (locs1 : List Loc), va_P D vwCl w' H1 → va_D A w' → va_S A H0 H1 locs1 → W p l e R s m args below meth c H1 locs1 (cells + mc) (slots + ms) Q (F0 m (pc + 3) ls (ov.toList ++ rest))) :
    W p l e R s m args below meth c H locs cells slots Q (F0 m pc ls st0) := by
  have hPc := hP.sub isC (k_fmap hC)
  have hDc := hD.sub isC hnC hC
  have hF := va_free hD hS hA isC hC
  have hZc : k_Z (va_A wc H.size) s H := (hZ.kept hS.2.1).narrow hF
  have hr : va_Run p l e R s m args below meth c H locs cells slots mc ms (F0 m pc ls st0) rest (k_HQ D ov w1 (va_A wc H.size) As.toArray) (va_A wc H.size) :=
    va_runS (As := As) (rest := rest) S (hM H.size) cw ⟨k_lblind, fun U hU hW => ⟨rfl, by rw [hU], by rw [hU]; exact hPc, va_K.moved hW.alike hK, hDc.weaken (fun _ _ _ _ => trivial), hN.warm hW, hT3.warm hW, by rw [hU]; exact hZc.moved hW.alike, hCx.moved hW.alike⟩⟩ (g := F0 m pc ls st0) rfl hln hsize hstack (lv_room hW) hdg hcs
  intro T hT X
  obtain ⟨v, st₀, t, T', L, h0, X', hL, e1, e2, ⟨⟨hv, hP1, hD1⟩, hz, hk⟩, st⟩ := hr T hT X
  cases hv
  rw [h0] at hz hk
  rw [← e1] at hP1 hz
  have hk1 : ∀ q : Nat, q < H.size → ¬ va_A wc H.size q → T'.heap[q]? = H[q]? := fun q h1 h2 => by rw [e1]; exact hk q h1 h2
  obtain ⟨j1, j2⟩ := va_join (wr := isR.filterMap (fun i => w[i]?)) hP hD isC isR hC hR hn hdis hk1 hF hP1 hD1
  obtain ⟨t2, a1, b1⟩ := k T'.heap (locs ++ L) (j1.sub perm (k_fmap hp)) (j2.sub perm hnp hp) ⟨Nat.le_trans hS.1 hz, fun q h1 h2 => by rw [hk1 q (Nat.lt_of_lt_of_le h1 hS.1) (fun z => h2 (hF q z))]; exact hS.2.1 q h1 h2, fun q hq => by
    rcases List.mem_append.mp hq with h | h
    · exact hS.2.2 q h
    · exact hF _ (hL q h)⟩ T' rfl X'
  exact ⟨t2, st t2 a1, b1⟩
theorem k_aret {v : Int32} {mc ms : Nat} (hx : p.tables.exec = Jvm.exec) (hb : c.code = cc) (hr : meth.sig.returnType = some .int) (hP : va_P D vwCl w' H) (hD : va_D A w') (hS : va_S A s.heap H locs) (hdg : decode cc pc = .ok (.ireturn, 1)) (hlocks : meth.locks = false) :
    W p l e R s m args below meth c H locs mc ms (MQ below (k_HQ D (some (.int v)) w' A) args s mc ms A) (F0 m pc ls [.int v]) :=
  W.iret hx hb hr (fun t ht hW => ⟨⟨rfl, by rw [ht]; exact hP, hD⟩, hS.F ht⟩) hS.2.2 hdg hlocks
theorem k_azret {v : Int32} {mc ms : Nat} (hx : p.tables.exec = Jvm.exec) (hb : c.code = cc) (hr : meth.sig.returnType = some .boolean) (hn : narrow .boolean (.int v) = .int v) (hP : va_P D vwCl w' H) (hD : va_D A w') (hS : va_S A s.heap H locs) (hdg : decode cc pc = .ok (.ireturn, 1)) (hlocks : meth.locks = false) :
    W p l e R s m args below meth c H locs mc ms (MQ below (k_HQ D (some (.int v)) w' A) args s mc ms A) (F0 m pc ls [.int v]) :=
  W.zret hx hb hr hn (fun t ht hW => ⟨⟨rfl, by rw [ht]; exact hP, hD⟩, hS.F ht⟩) hS.2.2 hdg hlocks
/-- branches that meet again: what comes behind, then the branches -/
theorem k_joinP {J : Nat} {L : List (Nat × Value)} {stk : List Value} (k : ∀ ls : Array Slot, lv_has ls nL L → W p l e R s m args below meth c H locs cells slots Q (F0 m J ls stk)) (br : (∀ ls : Array Slot, lv_has ls nL L → W p l e R s m args below meth c H locs cells slots Q (F0 m J ls stk)) → W p l e R s m args below meth c H locs cells slots Q (F0 m pc ls st0)) : W p l e R s m args below meth c H locs cells slots Q (F0 m pc ls st0) := br k
theorem k_joinH {J cells' slots' : Nat} {L : List (Nat × Value)} {stk : List Value} (k : ∀ (ls : Array Slot) (H : Heap) (locs : List Loc), lv_has ls nL L → va_P D vwCl w' H → va_D A w' → va_S A H0 H locs → W p l e R s m args below meth c H locs cells' slots' Q (F0 m J ls stk)) (br : (∀ (ls : Array Slot) (H : Heap) (locs : List Loc), lv_has ls nL L → va_P D vwCl w' H → va_D A w' → va_S A H0 H locs → W p l e R s m args below meth c H locs cells' slots' Q (F0 m J ls stk)) → W p l e R s m args below meth c H locs cells slots Q (F0 m pc ls st0)) : W p l e R s m args below meth c H locs cells slots Q (F0 m pc ls st0) := br k
end KL
