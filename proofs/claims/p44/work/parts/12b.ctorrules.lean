/-! Constructors: cells come, at addresses that the end tells. -/
def k_E (U : State) : Prop := k_N U ∧ va_AO "FencedBoxes$Game" U
theorem k_E.moved {s U : State} (hW : s.WarmedH U.vm) (h : k_E s) : k_E U := ⟨h.1.warm hW, h.2.moved hW.alike⟩
theorem k_E.call {U : State} {g : JFrame} {mk : MethodId} {a : Array Value} (h : k_E U) : k_E (U.calling g mk a) := ⟨h.1.call, va_AO.moved (u := U) (U := U.calling g mk a) (Vm.Alike.refl U.vm) h.2⟩
def k_CQ (D : va_G) (post : va_W → Prop) (A : Nat → Prop) : Array Value → State → Outcome → State → Prop := fun _ st o t => (o = .returned none ∧ ∃ w', post w' ∧ va_P D vwCl w' t.heap ∧ va_D A w') ∧ va_F A st t
def k_CPc (D : va_G) (tys : List (ClassId × FieldType)) (as : List Value) (w : va_W) (sz : Nat) : Array Value → State → Prop := va_Pc as (fun U => U.heap.size = sz ∧ va_P D vwCl w U.heap ∧ va_K D vwCl tys U ∧ va_D (fun _ => True) w ∧ k_E U)
def k_CMet (l : Launch) (y : MethodName) (ws : List Cond) (rm : Room) (D : va_G) (tys : List (ClassId × FieldType)) (as : List Value) (w : va_W) (post : va_W → Prop) (mc ms : Nat) : Prop :=
  ∀ sz : Nat, Met l y ws rm (k_CPc D tys as w sz) (k_CQ D post (va_A w sz)) mc ms (va_A w sz)
theorem k_ctorOf {l : Launch} {y : MethodName} {ws ws' : List Cond} {rm : Room} {D : va_G} {tys : List (ClassId × FieldType)} {as : List Value} {w : va_W} {post : va_W → Prop} {mc ms : Nat} {cc : ByteArray} {maxL : Nat} {ret : Option FieldType} (hy : plainName y.cls = true) (hw : ws = Cond.code y cc maxL ret :: ws') (hnl : (lg_sl as).length ≤ maxL)
    (body : ∀ (p : Program) (e : Env) (s : State) (m : MethodId) (args : Array Value) (below : List Frame) (meth : Method) (c : Code) (ls : Array Slot) (A : Nat → Prop), p.tables.exec = Jvm.exec → c.code = cc → meth.sig.returnType = ret → meth.locks = false → c.maxLocals = maxL → s.vm.findClass y.cls = some m.cls → (∀ w ∈ ws, w.before args s = true) → lv_has ls maxL (lv_args 0 as) → (∀ q : Nat, s.heap.size ≤ q → A q) → va_K D vwCl tys s → va_P D vwCl w s.heap → va_D A w → k_E s → meth.name = y.name →
      W p l e rm s m args below meth c s.heap [] 0 0 (MQ below (k_CQ D post A) args s mc ms A) (F0 m 0 ls [])) : k_CMet l y ws rm D tys as w post mc ms := by
  intro sz
  refine Met.ofW (cc := cc) (maxL := maxL) (ret := ret) hy hw ?_
  intro p e s m args below meth c s₁ B hml hv
  obtain ⟨rfl, rfl, hP, hK, hD0, hE⟩ := hv
  rw [lg_entry_eq]
  exact body p e s m _ below meth c _ (va_A w s.heap.size) B.exec B.bytes B.returns B.notSynchronized hml (findClass_of_methodNamed B.named) (atoms_spec B.pre) (lv_entry as hnl) (fun q h => Or.inr h) hK hP hD0.self hE (name_of_methodNamed B.named B.method).1
theorem k_arr {args : Array Value} {s : State} {ty : FieldType} (hRA : ∀ (U : State) (cA : ClassId), va_RA U cA ty = (U.vm.findClass ("[" ++ ty.toString) = some cA)) (h : (Cond.arrayClass ty).before args s = true) : ∃ cA : ClassId, ArrOfT s cA ty ∧ va_RA s cA ty := by
  obtain ⟨c, k, comp, h1, h2, h3⟩ := Cond.arrayClass_spec h
  exact ⟨c, fun n z => ⟨fun k h => (by cases h), k, h2, comp, h3⟩, by rw [hRA]; exact h1⟩
section KC
variable {p : Program} {l : Launch} {e : Env} {R : Room} {s : State} {m : MethodId} {args : Array Value} {below : List Frame} {meth : Method} {c : Code} {H H0 : Heap} {locs : List Loc} {cells slots : Nat} {Q : State → Prop}
variable {cc bytes : ByteArray} {nL maxL n index pc mc ms : Nat} {Ts ws : List Cond} {own host : String} {y : MethodName} {ret : Option FieldType} {rm : Room} {As rest st0 : List Value} {ls : Array Slot} {D : va_G} {tys : List (ClassId × FieldType)} {w wc w1 w' : va_W} {A : Nat → Prop} {b : Nat} {post : va_W → Prop}
theorem k_sameI {cl : List vw_C} {cy : Nat → ClassId} {cA : ClassId} (h : va_K D cl (k_tys cy ++ [(cA, .int)]) s) : cA = cy 0 := Option.some.inj ((va_nm_int (h.2 4 _ rfl).2).symm.trans (va_nm_int (h.2 0 _ rfl).2))
theorem k_sameC {cl : List vw_C} {cy : Nat → ClassId} {cA : ClassId} (h : va_K D cl (k_tys cy ++ [(cA, .char)]) s) : cA = cy 1 := Option.some.inj ((va_nm_char (h.2 4 _ rfl).2).symm.trans (va_nm_char (h.2 1 _ rfl).2))
theorem k_sameL {cl : List vw_C} {cy : Nat → ClassId} {cA : ClassId} (h : va_K D cl (k_tys cy ++ [(cA, .long)]) s) : cA = cy 3 := Option.some.inj ((va_nm_long (h.2 4 _ rfl).2).symm.trans (va_nm_long (h.2 3 _ rfl).2))
theorem k_sameG {cl : List vw_C} {cy : Nat → ClassId} {cA : ClassId} (h : va_K D cl (k_tys cy ++ [(cA, .object "FencedBoxes$Game")]) s) : cA = cy 2 := by
  obtain ⟨_, _, _, _, _, h1⟩ := (h.2 4 _ rfl).2
  obtain ⟨_, _, _, _, _, h2⟩ := (h.2 2 _ rfl).2
  exact Option.some.inj (h1.symm.trans h2)
theorem k_cvret (hx : p.tables.exec = Jvm.exec) (hb : c.code = cc) (hr : meth.sig.returnType = none) (hpost : post w') (hP : va_P D vwCl w' H) (hD : va_D A w') (hS : va_S A s.heap H locs) (hdg : decode cc pc = .ok (.return_, 1)) (hlocks : meth.locks = false) :
    W p l e R s m args below meth c H locs cells slots (MQ below (k_CQ D post A) args s cells slots A) (F0 m pc ls []) :=
  W.vret hx hb hr (fun t ht hW => ⟨⟨rfl, _, hpost, by rw [ht]; exact hP, hD⟩, hS.F ht⟩) hS.2.2 hdg hlocks
theorem k_cblind {as : List Value} {sz : Nat} : FrameBlind (k_CPc D tys as w sz) :=
  fun a U g mk q => by obtain ⟨q0, q1, qP, qK, qD, qE⟩ := q; exact ⟨q0, q1, qP, va_K.moved (u := U) (U := U.calling g mk a) (Vm.Alike.refl U.vm) qK, qD, qE.call⟩
theorem k_cafter {a : Array Value} {isC isR : List Nat} (hr : va_Run p l e R s m args below meth c H locs cells slots mc ms (F0 m pc ls st0) rest (k_CQ D post (va_A wc H.size) a) (va_A wc H.size))
    (hP : va_P D vwCl w H) (hD : va_D A w) (hS : va_S A H0 H locs) (hA : ∀ q : Nat, H0.size ≤ q → A q)
    (hC : isC.map (fun i => w[i]?) = wc.map some) (hR : isR.map (fun i => w[i]?) = (isR.filterMap (fun i => w[i]?)).map some) (hn : va_nd isR = true) (hdis : ∀ i ∈ isR, i ∉ isC)
    (k : ∀ (w1 : va_W) (H1 : Heap) (locs1 : List Loc), post w1 → va_P D vwCl (isR.filterMap (fun i => w[i]?) ++ w1) H1 → va_D A (isR.filterMap (fun i => w[i]?) ++ w1) → va_S A H0 H1 locs1 → W p l e R s m args below meth c H1 locs1 (cells + mc) (slots + ms) Q (F0 m (pc + 3) ls rest)) :
    W p l e R s m args below meth c H locs cells slots Q (F0 m pc ls st0) := by
  have hF := va_free hD hS hA isC hC
  intro T hT X
  obtain ⟨v, st₀, t, T', L, h0, X', hL, e1, e2, ⟨⟨hv, w1, hpost, hP1, hD1⟩, hz, hk⟩, st⟩ := hr T hT X
  cases hv
  rw [h0] at hz hk
  rw [← e1] at hP1 hz
  have hk1 : ∀ q : Nat, q < H.size → ¬ va_A wc H.size q → T'.heap[q]? = H[q]? := fun q h1 h2 => by rw [e1]; exact hk q h1 h2
  obtain ⟨j1, j2⟩ := va_join (wr := isR.filterMap (fun i => w[i]?)) hP hD isC isR hC hR hn hdis hk1 hF hP1 hD1
  obtain ⟨t2, a1, b1⟩ := k w1 T'.heap (locs ++ L) hpost j1 j2 ⟨Nat.le_trans hS.1 hz, fun q h1 h2 => by rw [hk1 q (Nat.lt_of_lt_of_le h1 hS.1) (fun z => h2 (hF q z))]; exact hS.2.1 q h1 h2, fun q hq => by
    rcases List.mem_append.mp hq with h | h
    · exact hS.2.2 q h
    · exact hF _ (hL q h)⟩ T' rfl X'
  exact ⟨t2, st t2 a1, b1⟩
theorem k_callCI {isC isR : List Nat} (S : CallFix p m c cc nL s args Ts own) (hM : k_CMet l y ws rm D tys [.ref b] wc post mc ms) (cw : CallB R s args own index y bytes maxL none ws rm mc ms 0 ∧ y.name = "<init>" ∧ (Cond.instanceMethod y).before args s = true)
    (hK : va_K D vwCl tys s) (hE : k_E s) (hP : va_P D vwCl w H) (hD : va_D A w) (hS : va_S A H0 H locs) (hA : ∀ q : Nat, H0.size ≤ q → A q)
    (hC : isC.map (fun i => w[i]?) = wc.map some) (hR : isR.map (fun i => w[i]?) = (isR.filterMap (fun i => w[i]?)).map some) (hn : va_nd isR = true) (hnC : va_nd isC = true) (hdis : ∀ i ∈ isR, i ∉ isC)
    (hsize : ls.size = nL) (hstack : st0 = .ref b :: rest) (hW : (rest.map fun v => v.category).sum ≤ 8) (hdg : decode cc pc = .ok (.invokespecial index, 3)) (hcs : cells + mc ≤ R.cells ∧ slots + ms ≤ R.slots)
    (k : ∀ (w1 : va_W) (H1 : Heap) (locs1 : List Loc), post w1 → va_P D vwCl (isR.filterMap (fun i => w[i]?) ++ w1) H1 → va_D A (isR.filterMap (fun i => w[i]?) ++ w1) → va_S A H0 H1 locs1 → W p l e R s m args below meth c H1 locs1 (cells + mc) (slots + ms) Q (F0 m (pc + 3) ls rest)) :
    W p l e R s m args below meth c H locs cells slots Q (F0 m pc ls st0) := by
  have hPc := hP.sub isC (k_fmap hC)
  have hDc := hD.sub isC hnC hC
  exact k_cafter (va_runI (H := H) (locs := locs) (cells := cells) (slots := slots) (As := []) (rest := rest) S (hM H.size) cw ⟨k_cblind, fun U hU hW => ⟨rfl, by rw [hU], by rw [hU]; exact hPc, va_K.moved hW.alike hK, hDc.weaken (fun _ _ _ _ => trivial), hE.moved hW⟩⟩ (g := F0 m pc ls st0) rfl rfl hsize hstack (lv_room hW) hdg hcs) hP hD hS hA hC hR hn hdis k
theorem k_callCIN {isC isR : List Nat} (S : CallFix p m c cc nL s args Ts own) (hM : k_CMet l y ws rm D tys [.ref b] wc post mc ms) (cw : va_CN R s args own index y host bytes maxL none ws rm mc ms 0 ∧ y.name = "<init>" ∧ (Cond.instanceMethod y).before args s = true)
    (hK : va_K D vwCl tys s) (hE : k_E s) (hP : va_P D vwCl w H) (hD : va_D A w) (hS : va_S A H0 H locs) (hA : ∀ q : Nat, H0.size ≤ q → A q)
    (hC : isC.map (fun i => w[i]?) = wc.map some) (hR : isR.map (fun i => w[i]?) = (isR.filterMap (fun i => w[i]?)).map some) (hn : va_nd isR = true) (hnC : va_nd isC = true) (hdis : ∀ i ∈ isR, i ∉ isC)
    (hsize : ls.size = nL) (hstack : st0 = .ref b :: rest) (hW : (rest.map fun v => v.category).sum ≤ 8) (hdg : decode cc pc = .ok (.invokespecial index, 3)) (hcs : cells + mc ≤ R.cells ∧ slots + ms ≤ R.slots)
    (k : ∀ (w1 : va_W) (H1 : Heap) (locs1 : List Loc), post w1 → va_P D vwCl (isR.filterMap (fun i => w[i]?) ++ w1) H1 → va_D A (isR.filterMap (fun i => w[i]?) ++ w1) → va_S A H0 H1 locs1 → W p l e R s m args below meth c H1 locs1 (cells + mc) (slots + ms) Q (F0 m (pc + 3) ls rest)) :
    W p l e R s m args below meth c H locs cells slots Q (F0 m pc ls st0) := by
  have hPc := hP.sub isC (k_fmap hC)
  have hDc := hD.sub isC hnC hC
  exact k_cafter (va_runIN (H := H) (locs := locs) (cells := cells) (slots := slots) (As := []) (rest := rest) S (hM H.size) cw ⟨k_cblind, fun U hU hW => ⟨rfl, by rw [hU], by rw [hU]; exact hPc, va_K.moved hW.alike hK, hDc.weaken (fun _ _ _ _ => trivial), hE.moved hW⟩⟩ (g := F0 m pc ls st0) rfl rfl hsize hstack (lv_room hW) hdg hcs) hP hD hS hA hC hR hn hdis k
end KC
