/-! Methods with a world: what they need, answer and leave, as one contract; calls keep the other cells. -/
abbrev k_G8 : Type := Int32 × Int32 × Int32 × Int32 × Int32 × Int32 × Int32 × Int32
abbrev k_Q4 : Type := Nat × Nat × Nat × Nat
abbrev k_O5 : Type := Int32 × Int32 × Int32 × Int32 × Int32
def k_tys (cy : Nat → ClassId) : List (ClassId × FieldType) := [(cy 0, .int), (cy 1, .char), (cy 2, .object "FencedBoxes$Game"), (cy 3, .long)]
def k_row4 (q0 q1 q2 q3 : Nat) : Nat → Option Nat := fun j => if j = 0 then some q0 else if j = 1 then some q1 else if j = 2 then some q2 else if j = 3 then some q3 else none
abbrev wG (h : Nat) (g : k_G8) : Nat × va_E := (h, .inr (1, [.int g.1, .int g.2.1, .int g.2.2.1, .int g.2.2.2.1, .int g.2.2.2.2.1, .int g.2.2.2.2.2.1, .int g.2.2.2.2.2.2.1, .int g.2.2.2.2.2.2.2]))
abbrev wR (cy : Nat → ClassId) (t n a : Nat) (f : Nat → Int32) : Nat × va_E := (a, .inl (cy t, n, .inl f))
abbrev wL (cy : Nat → ClassId) (a : Nat) (f : Nat → Int64) : Nat × va_E := (a, .inl (cy 3, 1, .inr (.inl f)))
abbrev wJ (cy : Nat → ClassId) (n a : Nat) (f : Nat → Int64) : Nat × va_E := (a, .inl (cy 3, n, .inr (.inl f)))
abbrev wK (cy : Nat → ClassId) (a : Nat) (q : k_Q4) : Nat × va_E := (a, .inl (cy 2, 4, .inr (.inr (.inr (.inr (k_row4 q.1 q.2.1 q.2.2.1 q.2.2.2))))))
abbrev wH (h ka : Nat) (hs : Int32) : Nat × va_E := (h, .inr (2, [.ref ka, .int hs]))
abbrev wO (h cha tra : Nat) (o : k_O5) : Nat × va_E := (h, .inr (3, [.ref cha, .ref tra, .int o.1, .int o.2.1, .int o.2.2.1, .int o.2.2.2.1, .int o.2.2.2.2]))
abbrev wE (h opa foa : Nat) (es : Int32) : Nat × va_E := (h, .inr (0, [.ref opa, .ref foa, .int es]))
abbrev wF (h gma sna hia ora ena : Nat) (has : Int32) : Nat × va_E := (h, .inr (4, [.ref gma, .ref sna, .ref hia, .ref ora, .ref ena, .int has]))
abbrev wX7 (cy : Nat → ClassId) (h0 gma sna hia ka ora cha tra ena opa foa : Nat) (gm sn : k_G8) (hs : Int32) (qs : k_Q4) (k0 k1 k2 k3 : k_G8) (ch : Nat → Int32) (o : k_O5) (tr : k_G8) (es : Int32) (op fo : Nat → Int32) (has : Int32) : va_W :=
  [wF h0 gma sna hia ora ena has, wG gma gm, wG sna sn, wH hia ka hs, wK cy ka qs, wG qs.1 k0, wG qs.2.1 k1, wG qs.2.2.1 k2, wG qs.2.2.2 k3, wO ora cha tra o, wR cy 1 60 cha ch, wG tra tr, wE ena opa foa es, wR cy 0 8 opa op, wR cy 0 256 foa fo]
/-- the private methods of nest mates that are called -/
def k_nest : List (String × Nat × MethodName × String) := [(RX7, 28, yX5_init, "FencedBoxes"), (RX7, 35, yX1_init, "FencedBoxes"), (RX7, 9, yX2_init, "FencedBoxes"), (RX4, 17, yX2_init, "FencedBoxes"), (RX5, 17, yX2_init, "FencedBoxes")]
/-- the private fields of nest mates that are read or written -/
def k_nestF : List (String × Nat × String × String × String × String) := [(RX7, 120, "FencedBoxes$Game", "mover", "I", "FencedBoxes"), (RX7, 189, "FencedBoxes$Game", "firstWins", "I", "FencedBoxes"), (RX7, 192, "FencedBoxes$Game", "secondWins", "I", "FencedBoxes"), (RX7, 195, "FencedBoxes$Game", "evens", "I", "FencedBoxes"), (RX7, 198, "FencedBoxes$Game", "doubles", "I", "FencedBoxes"), (RX7, 78, "FencedBoxes$Game", "fences", "I", "FencedBoxes")]
def k_N (U : State) : Prop := (∀ q ∈ k_nest, va_Nw (.methodLinkNest q.1 q.2.1 q.2.2.1 q.2.2.2) U) ∧ ∀ q ∈ k_nestF, va_Nw (.fieldLinkNest q.1 q.2.1 q.2.2.1 q.2.2.2.1 q.2.2.2.2.1 q.2.2.2.2.2) U
theorem k_N.warm {s U : State} (hW : s.WarmedH U.vm) (h : k_N s) : k_N U := ⟨fun q hq => (h.1 q hq).warmM hW, fun q hq => (h.2 q hq).warmF hW⟩
theorem k_N.call {U : State} {g : JFrame} {mk : MethodId} {a : Array Value} (h : k_N U) : k_N (U.calling g mk a) := ⟨fun q hq => (h.1 q hq).same rfl rfl, fun q hq => (h.2 q hq).same rfl rfl⟩
def k_HQ (D : va_G) (ov : Option Value) (w' : va_W) (A : Nat → Prop) : Array Value → State → Outcome → State → Prop := fun _ st o t => (o = .returned ov ∧ va_P D vwCl w' t.heap ∧ va_D A w') ∧ va_F A st t
def k_HMet (l : Launch) (y : MethodName) (ws : List Cond) (rm : Room) (D : va_G) (tys : List (ClassId × FieldType)) (as : List Value) (w : va_W) (ov : Option Value) (w' : va_W) : Prop :=
  ∀ sz : Nat, Met l y ws rm (va_Pc as (fun U => U.heap.size = sz ∧ va_P D vwCl w U.heap ∧ va_K D vwCl tys U ∧ va_D (fun _ => True) w ∧ k_N U)) (k_HQ D ov w' (va_A w sz)) 0 0 (va_A w sz)
theorem k_heapOf {l : Launch} {y : MethodName} {ws ws' : List Cond} {rm : Room} {D : va_G} {tys : List (ClassId × FieldType)} {as : List Value} {w w' : va_W} {ov : Option Value} {cc : ByteArray} {maxL : Nat} {ret : Option FieldType} (hy : plainName y.cls = true) (hw : ws = Cond.code y cc maxL ret :: ws') (hnl : (lg_sl as).length ≤ maxL)
    (body : ∀ (p : Program) (e : Env) (s : State) (m : MethodId) (args : Array Value) (below : List Frame) (meth : Method) (c : Code) (ls : Array Slot) (A : Nat → Prop), p.tables.exec = Jvm.exec → c.code = cc → meth.sig.returnType = ret → meth.locks = false → c.maxLocals = maxL → s.vm.findClass y.cls = some m.cls → (∀ w ∈ ws, w.before args s = true) → lv_has ls maxL (lv_args 0 as) → (∀ q : Nat, s.heap.size ≤ q → A q) → va_K D vwCl tys s → va_P D vwCl w s.heap → va_D A w → k_N s →
      W p l e rm s m args below meth c s.heap [] 0 0 (MQ below (k_HQ D ov w' A) args s 0 0 A) (F0 m 0 ls [])) : k_HMet l y ws rm D tys as w ov w' := by
  intro sz
  refine Met.ofW (cc := cc) (maxL := maxL) (ret := ret) hy hw ?_
  intro p e s m args below meth c s₁ B hml hv
  obtain ⟨rfl, rfl, hP, hK, hD0, hN⟩ := hv
  rw [lg_entry_eq]
  exact body p e s m _ below meth c _ (va_A w s.heap.size) B.exec B.bytes B.returns B.notSynchronized hml (findClass_of_methodNamed B.named) (atoms_spec B.pre) (lv_entry as hnl) (fun q h => Or.inr h) hK hP hD0.self hN
theorem k_fmap {w wc : va_W} {is : List Nat} (h : is.map (fun i => w[i]?) = wc.map some) : is.filterMap (fun i => w[i]?) = wc := by
  have h1 : is.filterMap (fun i => w[i]?) = (is.map (fun i => w[i]?)).filterMap id := by rw [List.filterMap_map]; rfl
  rw [h1, h, List.filterMap_map]
  exact List.filterMap_some
theorem k_boolR {α : Type} {v : Int32} {x r : α} (h : (if v = 0 ∨ v = 1 then some x else none) = some r) : x = r ∧ narrow .boolean (.int v) = .int v := by
  by_cases hc : v = 0 ∨ v = 1
  · rw [if_pos hc] at h
    cases h
    exact ⟨rfl, k_nz hc⟩
  · rw [if_neg hc] at h; cases h
theorem k_up4_0 {a b c d x : Nat} : va_up (k_row4 a b c d) (Int32.toNatClampNeg 0) (some x) = k_row4 x b c d := by
  funext j
  by_cases h : j = 0 <;> simp_all [va_up, k_row4]
theorem k_up4_1 {a b c d x : Nat} : va_up (k_row4 a b c d) (Int32.toNatClampNeg 1) (some x) = k_row4 a x c d := by
  have h1 : Int32.toNatClampNeg 1 = 1 := by decide
  funext j
  rw [h1]
  by_cases h : j = 1 <;> by_cases h0 : j = 0 <;> simp_all [va_up, k_row4]
theorem k_up4_2 {a b c d x : Nat} : va_up (k_row4 a b c d) (Int32.toNatClampNeg 2) (some x) = k_row4 a b x d := by
  have h1 : Int32.toNatClampNeg 2 = 2 := by decide
  funext j
  rw [h1]
  by_cases h : j = 2 <;> by_cases h0 : j = 0 <;> by_cases h2 : j = 1 <;> simp_all [va_up, k_row4]
theorem k_up4_3 {a b c d x : Nat} : va_up (k_row4 a b c d) (Int32.toNatClampNeg 3) (some x) = k_row4 a b c x := by
  have h1 : Int32.toNatClampNeg 3 = 3 := by decide
  funext j
  rw [h1]
  by_cases h : j = 3 <;> by_cases h0 : j = 0 <;> by_cases h2 : j = 1 <;> by_cases h3 : j = 2 <;> simp_all [va_up, k_row4]
theorem k_in {i : Int32} {n : Nat} (h : decide (i < 0 ∨ n ≤ i.toNatClampNeg) = false) : vp_in i n := of_decide_eq_false h
theorem k_off2 {x : Int32} (h1 : ¬ x = 102) (h2 : ¬ x = 110) : Op.lookupswitch.offset (#[(102, 45), (110, 28)] : Array (Int × Int)).toList 78 x.toInt = 78 := by
  show Op.lookupswitch.offset [(102, 45), (110, 28)] 78 x.toInt = 78
  have e1 : ¬ (102 : Int) = x.toInt := fun h => h1 (Int32.toInt_inj.mp (by rw [← h]; rfl))
  have e2 : ¬ (110 : Int) = x.toInt := fun h => h2 (Int32.toInt_inj.mp (by rw [← h]; rfl))
  rw [Op.lookupswitch.offset_cons, if_neg e1, Op.lookupswitch.offset_cons, if_neg e2, Op.lookupswitch.offset_nil]
section KH
variable {p : Program} {l : Launch} {e : Env} {R : Room} {s : State} {m : MethodId} {args : Array Value} {below : List Frame} {meth : Method} {c : Code} {H H0 : Heap} {locs : List Loc} {cells slots : Nat} {Q : State → Prop}
variable {cc bytes : ByteArray} {nL maxL n index pc : Nat} {Ts ws : List Cond} {own C : String} {y : MethodName} {ret : Option FieldType} {rm : Room} {As rest st0 : List Value} {ls : Array Slot} {D : va_G} {tys : List (ClassId × FieldType)} {w wc w1 w' : va_W} {ov : Option Value} {A : Nat → Prop} {b : Nat}
theorem k_here {g : JFrame} {cells slots : Nat} (eH : H = s.heap) (el : locs = []) (k : W p l e R s m args below meth c H locs cells slots Q g) : W p l e R s m args below meth c s.heap [] cells slots Q g := by
  subst eH; subst el; exact k
theorem k_nameq {v : Nat} {o : Option Nat} (h : some v = o) (k : W p l e R s m args below meth c H locs cells slots Q (F0 m pc ls (.ref v :: rest))) : W p l e R s m args below meth c H locs cells slots Q (F0 m pc ls (va_rf o :: rest)) := by
  subst h; exact k
theorem k_iret {v : Int32} (hx : p.tables.exec = Jvm.exec) (hb : c.code = cc) (hr : meth.sig.returnType = some .int) (hP : va_P D vwCl w' H) (hD : va_D A w') (hS : va_S A s.heap H locs) (hdg : decode cc pc = .ok (.ireturn, 1)) (hlocks : meth.locks = false) :
    W p l e R s m args below meth c H locs 0 0 (MQ below (k_HQ D (some (.int v)) w' A) args s 0 0 A) (F0 m pc ls [.int v]) :=
  W.iret hx hb hr (fun t ht hW => ⟨⟨rfl, by rw [ht]; exact hP, hD⟩, hS.F ht⟩) hS.2.2 hdg hlocks
theorem k_zret {v : Int32} (hx : p.tables.exec = Jvm.exec) (hb : c.code = cc) (hr : meth.sig.returnType = some .boolean) (hn : narrow .boolean (.int v) = .int v) (hP : va_P D vwCl w' H) (hD : va_D A w') (hS : va_S A s.heap H locs) (hdg : decode cc pc = .ok (.ireturn, 1)) (hlocks : meth.locks = false) :
    W p l e R s m args below meth c H locs 0 0 (MQ below (k_HQ D (some (.int v)) w' A) args s 0 0 A) (F0 m pc ls [.int v]) :=
  W.zret hx hb hr hn (fun t ht hW => ⟨⟨rfl, by rw [ht]; exact hP, hD⟩, hS.F ht⟩) hS.2.2 hdg hlocks
theorem k_vret (hx : p.tables.exec = Jvm.exec) (hb : c.code = cc) (hr : meth.sig.returnType = none) (hP : va_P D vwCl w' H) (hD : va_D A w') (hS : va_S A s.heap H locs) (hdg : decode cc pc = .ok (.return_, 1)) (hlocks : meth.locks = false) :
    W p l e R s m args below meth c H locs 0 0 (MQ below (k_HQ D none w' A) args s 0 0 A) (F0 m pc ls []) :=
  W.vret hx hb hr (fun t ht hW => ⟨⟨rfl, by rw [ht]; exact hP, hD⟩, hS.F ht⟩) hS.2.2 hdg hlocks
theorem k_blind {as : List Value} {sz : Nat} : FrameBlind (va_Pc as (fun U => U.heap.size = sz ∧ va_P D vwCl w U.heap ∧ va_K D vwCl tys U ∧ va_D (fun _ => True) w ∧ k_N U)) :=
  fun a U g mk q => by obtain ⟨q0, q1, qP, qK, qD, qN⟩ := q; exact ⟨q0, q1, qP, va_K.moved (u := U) (U := U.calling g mk a) (Vm.Alike.refl U.vm) qK, qD, qN.call⟩
/-- what a call with a world gives, said once for all kinds of call -/
theorem k_after {a : Array Value} {isC isR perm : List Nat} (hr : va_Run p l e R s m args below meth c H locs cells slots 0 0 (F0 m pc ls st0) rest (k_HQ D ov w1 (va_A wc H.size) a) (va_A wc H.size))
    (hP : va_P D vwCl w H) (hD : va_D A w) (hS : va_S A H0 H locs) (hA : ∀ q : Nat, H0.size ≤ q → A q)
    (hC : isC.map (fun i => w[i]?) = wc.map some) (hR : isR.map (fun i => w[i]?) = (isR.filterMap (fun i => w[i]?)).map some) (hn : va_nd isR = true) (hdis : ∀ i ∈ isR, i ∉ isC)
    (hp : perm.map (fun i => (isR.filterMap (fun i => w[i]?) ++ w1)[i]?) = w'.map some) (hnp : va_nd perm = true)
    (k : ∀ (H1 : Heap) (locs1 : List Loc), va_P D vwCl w' H1 → va_D A w' → va_S A H0 H1 locs1 → W p l e R s m args below meth c H1 locs1 cells slots Q (F0 m (pc + 3) ls (ov.toList ++ rest))) :
    W p l e R s m args below meth c H locs cells slots Q (F0 m pc ls st0) := by
  have hF := va_free hD hS hA isC hC
  intro T hT X
  obtain ⟨v, st₀, t, T', L, h0, X', hL, e1, e2, ⟨⟨hv, hP1, hD1⟩, hz, hk⟩, st⟩ := hr T hT X
  cases hv
  rw [h0] at hz hk
  rw [← e1] at hP1 hz
  have hk1 : ∀ q : Nat, q < H.size → ¬ va_A wc H.size q → T'.heap[q]? = H[q]? := fun q h1 h2 => by rw [e1]; exact hk q h1 h2
  obtain ⟨j1, j2⟩ := va_join (wr := isR.filterMap (fun i => w[i]?)) hP hD isC isR hC hR hn hdis hk1 hF hP1 hD1
  have q1 : va_P D vwCl w' T'.heap := j1.sub perm (k_fmap hp)
  have q2 : va_D A w' := j2.sub perm hnp hp
  have q3 : va_S A H0 T'.heap (locs ++ L) := ⟨Nat.le_trans hS.1 hz, fun q h1 h2 => by rw [hk1 q (Nat.lt_of_lt_of_le h1 hS.1) (fun z => h2 (hF q z))]; exact hS.2.1 q h1 h2, fun q hq => by
    rcases List.mem_append.mp hq with h | h
    · exact hS.2.2 q h
    · exact hF _ (hL q h)⟩
  obtain ⟨t2, a1, b1⟩ := k T'.heap (locs ++ L) q1 q2 q3 T' rfl X'
  exact ⟨t2, st t2 a1, b1⟩
theorem k_callHV {isC isR perm : List Nat} {ci q0 : Nat} {r : vw_C} {fs : List Value} (S : CallFix p m c cc nL s args Ts own) (hM : k_HMet l y ws rm D tys (.ref b :: As) wc ov w1) (cw : CallW R s args own r.1 index y bytes maxL ret ws rm 0 0 n)
    (hK : va_K D vwCl tys s) (hN : k_N s) (hP : va_P D vwCl w H) (hD : va_D A w) (hS : va_S A H0 H locs) (hA : ∀ q : Nat, H0.size ≤ q → A q)
    (hc : vwCl[ci]? = some r) (he : w[q0]? = some (b, .inr (ci, fs)))
    (hC : isC.map (fun i => w[i]?) = wc.map some) (hR : isR.map (fun i => w[i]?) = (isR.filterMap (fun i => w[i]?)).map some) (hn : va_nd isR = true) (hnC : va_nd isC = true) (hdis : ∀ i ∈ isR, i ∉ isC)
    (hp : perm.map (fun i => (isR.filterMap (fun i => w[i]?) ++ w1)[i]?) = w'.map some) (hnp : va_nd perm = true)
    (hln : As.length = n) (hsize : ls.size = nL) (hstack : st0 = As.reverse ++ .ref b :: rest) (hW : (rest.map fun v => v.category).sum ≤ 8) (hdg : decode cc pc = .ok (.invokevirtual index, 3)) (hcs : cells ≤ R.cells ∧ slots ≤ R.slots)
    (k : ∀ (H1 : Heap) (locs1 : List Loc), va_P D vwCl w' H1 → va_D A w' → va_S A H0 H1 locs1 → W p l e R s m args below meth c H1 locs1 cells slots Q (F0 m (pc + 3) ls (ov.toList ++ rest))) :
    W p l e R s m args below meth c H locs cells slots Q (F0 m pc ls st0) := by
  have hPc := hP.sub isC (k_fmap hC)
  have hDc := hD.sub isC hnC hC
  exact k_after (va_runV (H := H) (locs := locs) (cells := cells) (slots := slots) (As := As) (rest := rest) S (hM H.size) cw ⟨k_blind, va_recv hK hP hc he, fun U hU hW => ⟨rfl, by rw [hU], by rw [hU]; exact hPc, va_K.moved hW.alike hK, hDc.weaken (fun _ _ _ _ => trivial), hN.warm hW⟩⟩ (g := F0 m pc ls st0) rfl hln hsize hstack (lv_room hW) hdg hcs) hP hD hS hA hC hR hn hdis hp hnp k
theorem k_callHS {isC isR perm : List Nat} (S : CallFix p m c cc nL s args Ts own) (hM : k_HMet l y ws rm D tys As wc ov w1) (cw : CallB R s args own index y bytes maxL ret ws rm 0 0 n ∧ (Cond.static y).before args s = true)
    (hK : va_K D vwCl tys s) (hN : k_N s) (hP : va_P D vwCl w H) (hD : va_D A w) (hS : va_S A H0 H locs) (hA : ∀ q : Nat, H0.size ≤ q → A q)
    (hC : isC.map (fun i => w[i]?) = wc.map some) (hR : isR.map (fun i => w[i]?) = (isR.filterMap (fun i => w[i]?)).map some) (hn : va_nd isR = true) (hnC : va_nd isC = true) (hdis : ∀ i ∈ isR, i ∉ isC)
    (hp : perm.map (fun i => (isR.filterMap (fun i => w[i]?) ++ w1)[i]?) = w'.map some) (hnp : va_nd perm = true)
    (hln : As.length = n) (hsize : ls.size = nL) (hstack : st0 = As.reverse ++ rest) (hW : (rest.map fun v => v.category).sum ≤ 8) (hdg : decode cc pc = .ok (.invokestatic index, 3)) (hcs : cells ≤ R.cells ∧ slots ≤ R.slots)
    (k : ∀ (H1 : Heap) (locs1 : List Loc), va_P D vwCl w' H1 → va_D A w' → va_S A H0 H1 locs1 → W p l e R s m args below meth c H1 locs1 cells slots Q (F0 m (pc + 3) ls (ov.toList ++ rest))) :
    W p l e R s m args below meth c H locs cells slots Q (F0 m pc ls st0) := by
  have hPc := hP.sub isC (k_fmap hC)
  have hDc := hD.sub isC hnC hC
  exact k_after (va_runS (H := H) (locs := locs) (cells := cells) (slots := slots) (As := As) (rest := rest) S (hM H.size) cw ⟨k_blind, fun U hU hW => ⟨rfl, by rw [hU], by rw [hU]; exact hPc, va_K.moved hW.alike hK, hDc.weaken (fun _ _ _ _ => trivial), hN.warm hW⟩⟩ (g := F0 m pc ls st0) rfl hln hsize hstack (lv_room hW) hdg hcs) hP hD hS hA hC hR hn hdis hp hnp k
theorem k_callSN {host : String} {v : Int32} (S : CallFix p m c cc nL s args Ts own) (hM : k_PMet l y ws rm As v) (cw : va_CN R s args own index y host bytes maxL ret ws rm 0 0 n ∧ (Cond.static y).before args s = true ∧ True) (hn : As.length = n) (hsize : ls.size = nL) (hstack : st0 = As.reverse ++ rest) (hW : (rest.map fun v => v.category).sum ≤ 8) (hdg : decode cc pc = .ok (.invokestatic index, 3)) (hc : cells ≤ R.cells ∧ slots ≤ R.slots)
    (k : W p l e R s m args below meth c H locs cells slots Q (F0 m (pc + 3) ls (.int v :: rest))) : W p l e R s m args below meth c H locs cells slots Q (F0 m pc ls st0) := by
  have hr : va_Run p l e R s m args below meth c H locs cells slots 0 0 (F0 m pc ls st0) rest (k_PQ v As.toArray) (fun _ => False) := va_runSN (As := As) (rest := rest) S hM cw ⟨fun a U g mk q => q, fun U hU hW => rfl⟩ (g := F0 m pc ls st0) rfl hn hsize hstack (lv_room hW) hdg hc
  intro T hT X
  obtain ⟨v', st₀, t, T', L, h0, X', hL, e1, e2, ⟨hv, hh⟩, st⟩ := hr T hT X
  cases hv
  have hLn : L = [] := List.eq_nil_iff_forall_not_mem.mpr (fun q hq => hL q hq)
  subst hLn
  rw [List.append_nil] at X'
  obtain ⟨t2, a1, b1⟩ := k T' (by rw [e1, hh, h0]) X'
  exact ⟨t2, st t2 a1, b1⟩
end KH
