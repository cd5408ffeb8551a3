/-! Rules of my own: functions with 'none' as machine text, calls of methods that touch no heap. -/
theorem k_T {α : Type} {c : Prop} [hc : Decidable c] {a b r : α} (h : c) (hf : (if c then a else b) = r) : a = r := (if_pos h).symm.trans hf
theorem k_F {α : Type} {c : Prop} [hc : Decidable c] {a b r : α} (h : ¬ c) (hf : (if c then a else b) = r) : b = r := (if_neg h).symm.trans hf
theorem k_B {α β : Type} {o : Option α} {k : α → Option β} {r : β} (h : o.bind k = some r) : ∃ v, o = some v ∧ k v = some r := by
  cases o with
  | none => cases h
  | some v => exact ⟨v, rfl, h⟩
theorem k_some {α : Type} {a b : α} (h : some a = some b) : a = b := Option.some.inj h
theorem k_G {α : Type} {c : Prop} [hc : Decidable c] {a : Option α} {r : α} (h : (if c then none else a) = some r) : ¬ c ∧ a = some r := by
  by_cases hc : c
  · rw [if_pos hc] at h; cases h
  · rw [if_neg hc] at h; exact ⟨hc, h⟩
def k_let {α β : Type} (x : α) (k : α → β) : β := k x
theorem k_L {α β : Type} {x : α} {k : α → β} {r : β} (h : k_let x k = r) : ∃ y, y = x ∧ k y = r := ⟨x, rfl, h⟩
def k_loop {S R : Type} (step : S → Option (S ⊕ R)) : Nat → S → Option R
  | 0, _ => none
  | n + 1, s => (step s).bind (fun q => Sum.elim (fun s' => k_loop step n s') (fun r => some r) q)
theorem k_loopE {S R : Type} {step : S → Option (S ⊕ R)} {n : Nat} {s : S} {r : R} (h : k_loop step (n + 1) s = some r) : ∃ q, step s = some q ∧ Sum.elim (fun s' => k_loop step n s') (fun r => some r) q = some r := k_B h
theorem k_loop0 {S R : Type} {step : S → Option (S ⊕ R)} {s : S} {r : R} (h : k_loop step 0 s = some r) : False := by cases h
theorem k_inl {α β γ : Type} {f : α → γ} {g : β → γ} {x : α} {r : γ} (h : Sum.elim f g (.inl x) = r) : f x = r := h
theorem k_inr {α β γ : Type} {f : α → γ} {g : β → γ} {x : β} {r : γ} (h : Sum.elim f g (.inr x) = r) : g x = r := h
/-- a boolean answer: the machine narrows it -/
theorem k_nz {v : Int32} (h : v = 0 ∨ v = 1) : narrow .boolean (.int v) = .int v := by
  rcases h with rfl | rfl <;> rfl
theorem k_bool {v r : Int32} (h : (if v = 0 ∨ v = 1 then some v else none) = some r) : v = r ∧ narrow .boolean (.int r) = .int r := by
  by_cases hc : v = 0 ∨ v = 1
  · rw [if_pos hc] at h
    cases h
    exact ⟨rfl, k_nz hc⟩
  · rw [if_neg hc] at h; cases h
/-- the answer v, and the heap as it was -/
def k_PQ (v : Int32) : Array Value → State → Outcome → State → Prop := fun _ st o t => o = .returned (some (.int v)) ∧ t.heap = st.heap
def k_PMet (l : Launch) (y : MethodName) (ws : List Cond) (rm : Room) (as : List Value) (v : Int32) : Prop := Met l y ws rm (fun a _ => a = as.toArray) (k_PQ v) 0 0 (fun _ => False)
theorem k_pureOf {l : Launch} {y : MethodName} {ws ws' : List Cond} {rm : Room} {as : List Value} {v : Int32} {cc : ByteArray} {maxL : Nat} {ret : Option FieldType} (hy : plainName y.cls = true) (hw : ws = Cond.code y cc maxL ret :: ws') (hnl : (lg_sl as).length ≤ maxL)
    (body : ∀ (p : Program) (e : Env) (s : State) (m : MethodId) (args : Array Value) (below : List Frame) (meth : Method) (c : Code) (ls : Array Slot), p.tables.exec = Jvm.exec → c.code = cc → meth.sig.returnType = ret → meth.locks = false → c.maxLocals = maxL → s.vm.findClass y.cls = some m.cls → (∀ w ∈ ws, w.before args s = true) → lv_has ls maxL (lv_args 0 as) →
      W p l e rm s m args below meth c s.heap [] 0 0 (MQ below (k_PQ v) args s 0 0 (fun _ => False)) (F0 m 0 ls [])) : k_PMet l y ws rm as v := by
  refine Met.ofW (cc := cc) (maxL := maxL) (ret := ret) hy hw ?_
  intro p e s m args below meth c s₁ B hml hv
  subst hv
  rw [lg_entry_eq]
  exact body p e s m _ below meth c _ B.exec B.bytes B.returns B.notSynchronized hml (findClass_of_methodNamed B.named) (atoms_spec B.pre) (lv_entry as hnl)
section KA
variable {p : Program} {l : Launch} {e : Env} {R : Room} {s : State} {m : MethodId} {args : Array Value} {below : List Frame} {meth : Method} {c : Code} {H : Heap} {locs : List Loc} {cells slots : Nat} {Q : State → Prop}
variable {cc bytes : ByteArray} {nL maxL n index pc : Nat} {Ts ws : List Cond} {own : String} {y : MethodName} {ret : Option FieldType} {rm : Room} {As rest st0 : List Value} {v : Int32} {ls : Array Slot}
theorem k_name {x v : Int32} (h : v = x) (k : W p l e R s m args below meth c H locs cells slots Q (F0 m pc ls (.int v :: rest))) : W p l e R s m args below meth c H locs cells slots Q (F0 m pc ls (.int x :: rest)) := by
  subst h; exact k
theorem k_callS (S : CallFix p m c cc nL s args Ts own) (hM : k_PMet l y ws rm As v) (cw : CallB R s args own index y bytes maxL ret ws rm 0 0 n ∧ (Cond.static y).before args s = true) (hn : As.length = n) (hsize : ls.size = nL) (hstack : st0 = As.reverse ++ rest) (hW : (rest.map fun v => v.category).sum ≤ 8) (hdg : decode cc pc = .ok (.invokestatic index, 3)) (hc : cells ≤ R.cells ∧ slots ≤ R.slots)
    (k : W p l e R s m args below meth c H locs cells slots Q (F0 m (pc + 3) ls (.int v :: rest))) : W p l e R s m args below meth c H locs cells slots Q (F0 m pc ls st0) := by
  have hr : va_Run p l e R s m args below meth c H locs cells slots 0 0 (F0 m pc ls st0) rest (k_PQ v As.toArray) (fun _ => False) := va_runS (As := As) (rest := rest) S hM cw ⟨fun a U g mk q => q, fun U hU hW => rfl⟩ (g := F0 m pc ls st0) rfl hn hsize hstack (lv_room hW) hdg hc
  intro T hT X
  obtain ⟨v', st₀, t, T', L, h0, X', hL, e1, e2, ⟨hv, hh⟩, st⟩ := hr T hT X
  cases hv
  have hLn : L = [] := List.eq_nil_iff_forall_not_mem.mpr (fun q hq => hL q hq)
  subst hLn
  rw [List.append_nil] at X'
  obtain ⟨t2, a1, b1⟩ := k T' (by rw [e1, hh, h0]) X'
  exact ⟨t2, st t2 a1, b1⟩
end KA
