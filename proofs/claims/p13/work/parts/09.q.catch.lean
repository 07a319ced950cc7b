/-! ===== a method with handlers: what its callee throws is caught ===== -/
def gtry {α β : Type} (x : gX α) (C : String → gW → gX β) (k : α → gW → gX β) : gX β := match x with
  | none => none
  | some (.inl E, w) => C E w
  | some (.inr v, w) => k v w
theorem gsomeT {α β : Type} {x : gX α} {C : String → gW → gX β} {k : α → gW → gX β} {r : (String ⊕ β) × gW} (h : gtry x C k = some r) : ∃ o, x = some o := by
  cases x with
  | none => cases h
  | some o => exact ⟨o, rfl⟩
theorem gcs {β : Type} {E n : String} {x y : Option β} {r : β} (h : (if E = n then x else y) = some r) : (E = n ∧ x = some r) ∨ (E ≠ n ∧ y = some r) := by
  split at h
  · rename_i hc
    exact Or.inl ⟨hc, h⟩
  · rename_i hc
    exact Or.inr ⟨hc, h⟩
section GCa
variable {e : Env} {f : JFrame} {a : Addr}
/-- one row of the table is looked at: its class is linked, cold or warm; it takes the object, or the search goes on -/
theorem gca_row {s0 S : State} {x : ExceptionTableEntry} {t : List ExceptionTableEntry} {cl : ClassId} {cell : Cell} (hW : s0.WarmedH S.vm) (hx : covers x f.pc = true) (h0 : x.catchType ≠ 0) (hl : s0.vm.ClassLinks e.platform f.method.cls x.catchType cl) (hcell : S.heap[a]? = some cell) (hobj : ∀ k, cell.vm ≠ .statics k) (hk0 : ∃ k, s0.vm.classes[cell.cls]? = some k) :
    ∃ vm', s0.WarmedH vm' ∧ ∀ (Q : Handler → Pre) (E : CtlPost) (d : Bool) (acts : List Action), wp (findHandler.go f a (x :: t)) Q E e d acts S ↔ if s0.vm.assignable cell.cls cl = true then Q (.found x.handlerPc) d acts (S.setVm vm') else wp (findHandler.go f a t) Q E e d acts (S.setVm vm') := by
  obtain ⟨ha, ht⟩ := (resolveClass_links e.toSetting (hW.classLinks hl)).op (op := VmOp.resolveClass f.method.cls x.catchType) rfl
  obtain ⟨dk, _, _, kt, hd, _, _, _, _, hkt, _, hopen⟩ := hl.here
  have hW' := hW.noted hd hopen (State.rightAt_cls hl)
  obtain ⟨k0, hk0⟩ := hk0
  obtain ⟨k1, hk1, -⟩ := hW'.alike.2.2 _ _ hk0
  obtain ⟨k2, hk2, -⟩ := hW'.alike.2.2 _ _ hkt
  have has := hW'.alike.assignable cell.cls cl
  refine ⟨_, hW', fun Q E d acts => ?_⟩
  simp only [covers] at hx
  cases hfit : s0.vm.assignable cell.cls cl <;> rw [hfit] at has <;> simp [findHandler.go, hx, h0, ha, ht, hcell, hobj, hk1, hk2, has, VmOp.dirties, VmOp.acts]
/-- the step into the handler, the tables warmer -/
theorem gca_step {tb : Tables} {s target : State} {g : JFrame} {c : Code} {below : List Frame} {pc : Nat} {vm' : Vm} (h : At s g.method c below)
    (hf : ∀ (Q : Handler → Pre) (E : CtlPost) (d : Bool) (acts : List Action), wp (findHandler g a) Q E e d acts ((s.setTop g).pushFrame (.throwing a)) ↔ Q (.found pc) d acts (((s.setTop g).pushFrame (.throwing a)).setVm vm'))
    (hrest : Steps tb e below ((s.setVm vm').setTop { g with pc := pc, stack := [.ref a] }) target) : Steps tb e below ((s.setTop g).pushFrame (.throwing a)) target := by
  obtain ⟨hgo, hw⟩ := h.throwing a
  have key : ∀ r, (stepThrowing e ((s.setTop g).pushFrame (.throwing a)) a (.java g :: r)).Is ((((s.setTop g).pushFrame (.throwing a)).setVm vm').setFrames (.java { g with pc := pc, stack := [.ref a] } :: r)) [] := by
    intro r
    simp only [stepThrowing, searchFrame, vmDo]
    generalize hr : Sem.go _ e false [] _ = res
    obtain ⟨as, rfl, ha⟩ := Sem.eq_ok_of hr (a := Handler.found pc) (s' := ((s.setTop g).pushFrame (.throwing a)).setVm vm') (acts' := []) (by simp [hf _ _ _ _])
    exact ⟨rfl, ha⟩
  refine Steps.head hgo hw ?_
  rw [stepThread_throwing (frames_entered h.top _), (key _).1]
  obtain ⟨g0, hg⟩ := Option.isSome_iff_exists.mp h.top
  obtain ⟨r, hr⟩ := State.topJava?_eq_some.mp hg
  have hr' : (s.setVm vm').frames = .java g0 :: r := hr
  rw [State.setTop_of_frames _ hr'] at hrest
  have e1 : ∀ (u : State) (F G : List Frame), ((u.setFrames F).setVm vm').setFrames G = (u.setVm vm').setFrames G := by
    intro u F G
    rw [show (u.setFrames F).setVm vm' = (u.setVm vm').setFrames F from rfl, State.setFrames_setFrames]
  rw [hr, List.tail_cons, State.pushFrame, e1, State.setTop_of_frames _ hr, e1]
  exact hrest
end GCa
theorem gself (vm : Vm) (c : ClassId) : vm.assignable c c = true := by
  have h : ∀ n : Nat, vm.assignableAux (n + 1) c c = true := fun n => by
    rw [Vm.assignableAux, beq_self_eq_true, Bool.true_or]
  exact h 255
section GCb
variable {p : Program} {l : Launch} {e : Env} {R : Room} {s : State} {m : MethodId} {args : Array Value} {below : List Frame} {meth : Method} {c : Code} {H : Heap} {locs : List Loc} {cells slots : Nat} {Q : State → Prop}
variable {cc : ByteArray} {pc nL : Nat} {ls : Array Slot} {rest st0 : List Value} {D : gD} {A : Nat → Prop} {w : gW} {g0 : gG} {rm : Room}
/-- the first row takes it -/
theorem gw_catch1 {own E : String} {a1 b1 h1 t1 : Nat} {hh : List (Nat × Nat × Nat × Nat)} {q : Addr} {ce : Cell} (hown : s.vm.findClass own = some m.cls) (hT : gT s) (htab : c.exceptionTable.toList.map (fun h => (h.startPc, h.endPc, h.handlerPc, h.catchType)) = (a1, b1, h1, t1) :: hh) (hl : Cond.classLink own t1 E ∈ gAll) (h0 : t1 ≠ 0) (hc1 : a1 ≤ pc ∧ pc < b1)
    (hq : H[q]? = some ce) (hv : ce.vm = .none) (hE : s.vm.findClass E = some ce.cls) (k : W p l e R s m args below meth c H locs cells slots Q (F0 m h1 ls [.ref q])) : gXW p l e R s m args below meth c H locs cells slots Q (F0 m pc ls rest) q := by
  intro T hT0 X
  obtain ⟨x, xs, hl1, hx1, -⟩ := List.map_eq_cons_iff.mp htab
  obtain ⟨rfl, rfl, rfl, rfl⟩ : x.startPc = a1 ∧ x.endPc = b1 ∧ x.handlerPc = h1 ∧ x.catchType = t1 := by simpa using hx1
  have hpl : e.platform.magicAccessors = ({} : Platform).magicAccessors := by rw [X.admits.platform]
  obtain ⟨cl, hcl, hlk⟩ := Cond.classLink_spec hown (hT _ hl args) e.platform hpl
  cases hE.symm.trans hcl
  obtain ⟨vm', hW', hf⟩ := gca_row (e := e) (f := F0 m pc ls rest) (a := q) (s0 := s) (S := (T.setTop (F0 m pc ls rest)).pushFrame (.throwing q)) (t := xs) X.warmed (by simp only [covers]; simpa using hc1) h0 hlk (show T.heap[q]? = some ce by rw [hT0]; exact hq) (by rw [hv]; intro k h; cases h) (Vm.classAt_of_findClass hE)
  have has : s.vm.assignable ce.cls ce.cls = true := gself _ _
  obtain ⟨t, a1, b1⟩ := k (T.setVm vm') hT0 (X.noted hW')
  refine ⟨t, gca_step (vm' := vm') (pc := x.handlerPc) X.here (fun Q E d acts => ?_) a1, b1⟩
  rw [W.findHandler_eq (meth := meth) (code := c) X.method' X.code, hl1, hf Q E d acts, if_pos has]
/-- the first row does not take it, the second does -/
theorem gw_catch2 {own E E1 : String} {a1 b1 h1 t1 a2 b2 h2 t2 : Nat} {hh : List (Nat × Nat × Nat × Nat)} {q : Addr} {ce : Cell} (hown : s.vm.findClass own = some m.cls) (hT : gT s) (hZ : gZ A s s.heap g0) (htab : c.exceptionTable.toList.map (fun h => (h.startPc, h.endPc, h.handlerPc, h.catchType)) = (a1, b1, h1, t1) :: (a2, b2, h2, t2) :: hh) (hl : Cond.classLink own t1 E1 ∈ gAll) (h0 : t1 ≠ 0) (hc1 : a1 ≤ pc ∧ pc < b1) (hl2 : Cond.classLink own t2 E ∈ gAll) (h02 : t2 ≠ 0) (hc2 : a2 ≤ pc ∧ pc < b2) (hno : (E, E1) ∈ [("java/lang/IllegalArgumentException", "java/lang/IndexOutOfBoundsException"), ("java/lang/IllegalStateException", "java/lang/IndexOutOfBoundsException")])
    (hq : H[q]? = some ce) (hv : ce.vm = .none) (hE : s.vm.findClass E = some ce.cls) (k : W p l e R s m args below meth c H locs cells slots Q (F0 m h2 ls [.ref q])) : gXW p l e R s m args below meth c H locs cells slots Q (F0 m pc ls rest) q := by
  intro T hT0 X
  obtain ⟨x, xs, hl1, hx1, hx9⟩ := List.map_eq_cons_iff.mp htab
  obtain ⟨y, ys, rfl, hy1, -⟩ := List.map_eq_cons_iff.mp hx9
  obtain ⟨rfl, rfl, rfl, rfl⟩ : x.startPc = a1 ∧ x.endPc = b1 ∧ x.handlerPc = h1 ∧ x.catchType = t1 := by simpa using hx1
  obtain ⟨rfl, rfl, rfl, rfl⟩ : y.startPc = a2 ∧ y.endPc = b2 ∧ y.handlerPc = h2 ∧ y.catchType = t2 := by simpa using hy1
  have hpl : e.platform.magicAccessors = ({} : Platform).magicAccessors := by rw [X.admits.platform]
  obtain ⟨cl, hcl, hlk⟩ := Cond.classLink_spec hown (hT _ hl args) e.platform hpl
  obtain ⟨cl2, hcl2, hlk2⟩ := Cond.classLink_spec hown (hT _ hl2 args) e.platform hpl
  cases hE.symm.trans hcl2
  have hn := hZ.2.2.2.2.2 (E, E1) hno _ _ hE hcl
  have hobj : ∀ k, ce.vm ≠ .statics k := by rw [hv]; intro k h; cases h
  obtain ⟨vm1, hW1, hf1⟩ := gca_row (e := e) (f := F0 m pc ls rest) (a := q) (s0 := s) (S := (T.setTop (F0 m pc ls rest)).pushFrame (.throwing q)) (t := y :: ys) X.warmed (by simp only [covers]; simpa using hc1) h0 hlk (show T.heap[q]? = some ce by rw [hT0]; exact hq) hobj (Vm.classAt_of_findClass hE)
  obtain ⟨vm', hW', hf⟩ := gca_row (e := e) (f := F0 m pc ls rest) (a := q) (s0 := s) (S := ((T.setTop (F0 m pc ls rest)).pushFrame (.throwing q)).setVm vm1) (t := ys) hW1 (by simp only [covers]; simpa using hc2) h02 hlk2 (show T.heap[q]? = some ce by rw [hT0]; exact hq) hobj (Vm.classAt_of_findClass hE)
  have has : s.vm.assignable ce.cls ce.cls = true := gself _ _
  obtain ⟨t, a1, b1⟩ := k (T.setVm vm') hT0 (X.noted hW')
  refine ⟨t, gca_step (vm' := vm') (pc := y.handlerPc) X.here (fun Q E d acts => ?_) a1, b1⟩
  rw [W.findHandler_eq (meth := meth) (code := c) X.method' X.code, hl1, hf1 Q E d acts, if_neg (by rw [hn]; decide), hf Q E d acts, if_pos has]
  rfl
theorem gw_tryI {β : Type} {X : gX Int32} {K : Int32 → gW → gX β} {C : String → gW → gX β} {r : (String ⊕ β) × gW} {ov : (String ⊕ Int32) × gW} (e1 : X = some ov) (h : gtry X C K = some r) (hr : gRun p l e R s m args below meth c H locs cells slots (F0 m pc ls st0) rest rm D w (goI ov)) (hI : gI D s A w H locs) (hA : ∀ q : Nat, s.heap.size ≤ q → A q)
    (hcat : ∀ (E : String) (w1 : gW) (H1 : Heap) (locs1 : List Loc) (q : Addr) (ce : Cell), C E w1 = some r → gI D s A w1 H1 locs1 → H1[q]? = some ce → ce.vm = .none → s.vm.findClass E = some ce.cls → gXW p l e R s m args below meth c H1 locs1 (cells + rm.cells) (slots + rm.slots) Q (F0 m pc ls rest) q)
    (kk : ∀ (v : Int32) (w1 : gW) (H1 : Heap) (locs1 : List Loc), K v w1 = some r → gI D s A w1 H1 locs1 → W p l e R s m args below meth c H1 locs1 (cells + rm.cells) (slots + rm.slots) Q (F0 m (pc + 3) ls (.int v :: rest))) : W p l e R s m args below meth c H locs cells slots Q (F0 m pc ls st0) := by
  subst e1
  obtain ⟨ov, w1⟩ := ov
  intro T hT X
  obtain ⟨T', L, X', hL, hE, hout⟩ := hr T hT X
  cases ov with
  | inr v =>
    obtain ⟨t2, a1, b1⟩ := kk v w1 T'.heap (locs ++ L) h (hI.after hA hE hL) T' rfl X'
    exact ⟨t2, hout t2 a1, b1⟩
  | inl E =>
    obtain ⟨q, ce, h1, h2, h3, h4⟩ := hout
    obtain ⟨t2, a1, b1⟩ := hcat E w1 T'.heap (locs ++ L) q ce h (hI.after hA hE hL) h1 h2 h3 T' rfl X'
    exact ⟨t2, h4.trans a1, b1⟩
theorem gw_tryJ {β : Type} {X : gX Int64} {K : Int64 → gW → gX β} {C : String → gW → gX β} {r : (String ⊕ β) × gW} {ov : (String ⊕ Int64) × gW} (e1 : X = some ov) (h : gtry X C K = some r) (hr : gRun p l e R s m args below meth c H locs cells slots (F0 m pc ls st0) rest rm D w (goJ ov)) (hI : gI D s A w H locs) (hA : ∀ q : Nat, s.heap.size ≤ q → A q)
    (hcat : ∀ (E : String) (w1 : gW) (H1 : Heap) (locs1 : List Loc) (q : Addr) (ce : Cell), C E w1 = some r → gI D s A w1 H1 locs1 → H1[q]? = some ce → ce.vm = .none → s.vm.findClass E = some ce.cls → gXW p l e R s m args below meth c H1 locs1 (cells + rm.cells) (slots + rm.slots) Q (F0 m pc ls rest) q)
    (kk : ∀ (v : Int64) (w1 : gW) (H1 : Heap) (locs1 : List Loc), K v w1 = some r → gI D s A w1 H1 locs1 → W p l e R s m args below meth c H1 locs1 (cells + rm.cells) (slots + rm.slots) Q (F0 m (pc + 3) ls (.long v :: rest))) : W p l e R s m args below meth c H locs cells slots Q (F0 m pc ls st0) := by
  subst e1
  obtain ⟨ov, w1⟩ := ov
  intro T hT X
  obtain ⟨T', L, X', hL, hE, hout⟩ := hr T hT X
  cases ov with
  | inr v =>
    obtain ⟨t2, a1, b1⟩ := kk v w1 T'.heap (locs ++ L) h (hI.after hA hE hL) T' rfl X'
    exact ⟨t2, hout t2 a1, b1⟩
  | inl E =>
    obtain ⟨q, ce, h1, h2, h3, h4⟩ := hout
    obtain ⟨t2, a1, b1⟩ := hcat E w1 T'.heap (locs ++ L) q ce h (hI.after hA hE hL) h1 h2 h3 T' rfl X'
    exact ⟨t2, h4.trans a1, b1⟩
end GCb
/-- a contract out of a walk of a body with handlers -/
theorem gw_ofW {l : Launch} {y : MethodName} {cc : ByteArray} {maxL : Nat} {hh : List (Nat × Nat × Nat × Nat)} {rm : Room} {D : gD} {g0 : gG} {av : List Value} {w : gW} {r : (String ⊕ Int32) × gW} (hy : plainFor y = true) (hlen : (lg_sl av).length ≤ maxL)
    (body : ∀ (p : Program) (e : Env) (s : State) (m : MethodId) (below : List Frame) (meth : Method) (c : Code) (ls : Array Slot) (args : Array Value) (A : Nat → Prop) (Q : State → Prop), p.tables.exec = Jvm.exec → c.code = cc → c.maxLocals = maxL → s.vm.findClass y.cls = some m.cls → c.exceptionTable.toList.map (fun h => (h.startPc, h.endPc, h.handlerPc, h.catchType)) = hh → gT s → gK D s → gZ A s s.heap g0 → (∀ q : Nat, s.heap.size ≤ q → A q) → (∀ (v : Int32) (w1 : gW), r = (.inr v, w1) → ∀ (pc : Nat) (ls : Array Slot) (H : Heap) (locs : List Loc), decode cc pc = .ok (.ireturn, 1) → gI D s A w1 H locs → W p l e rm s m args below meth c H locs rm.cells rm.slots Q (F0 m pc ls [.int v])) → gI D s A w s.heap [] → lv_has ls maxL (lv_args 0 av) →
      W p l e rm s m args below meth c s.heap [] 0 0 Q (F0 m 0 ls [])) : gMet l y (.codeWith y cc maxL (some .int) hh) rm D g0 av w (goI r) := by
  refine MetFree.of_bodySF (code := cc) (maxLocals := maxL) (ret := some .int) hy ?_ ?_
  · intro args s m h hn
    obtain ⟨m9, meth, c, hn9, h1, h2, h3, h4, -, h5, h6, -⟩ := Cond.codeWith_spec (atoms_spec (ws := [.codeWith y cc maxL (some .int) hh]) h _ List.mem_cons_self)
    cases hn.symm.trans hn9
    exact ⟨meth, c, h1, h2, h3, h4, h5, h6⟩
  · intro p e s m args below meth c s₁ B hml hP _
    obtain ⟨rfl, q1, q2, q3, q4, q5⟩ := hP
    have hh0 : s₁.heap = s.heap := by rw [B.state]; rfl
    have htab : c.exceptionTable.toList.map (fun h => (h.startPc, h.endPc, h.handlerPc, h.catchType)) = hh := by
      obtain ⟨m9, meth9, c9, hn9, h1, h2, -, -, h7, -⟩ := Cond.codeWith_spec (atoms_spec (ws := [.codeWith y cc maxL (some .int) hh]) B.pre _ List.mem_cons_self)
      cases B.named.symm.trans hn9
      cases Option.some.inj (h1.symm.trans B.method)
      cases Option.some.inj (h2.symm.trans (Stand.of_body B).code)
      exact h7
    have hl := lv_entry av (n := maxL) hlen
    have hW := body p e s m below meth c _ _ _ (gMQ below D w (goI r) rm.cells rm.slots av.toArray s) B.exec B.bytes hml (findClass_of_methodNamed B.named) htab q4 q3 q5 (fun q hq => Or.inr (by rw [← q1]; exact hq)) (gw_retI B.exec B.bytes B.returns B.notSynchronized r) ⟨q1, q2, va_S.rf, fun a e he hr => Or.inl ⟨e, he, hr⟩⟩ hl
    rw [← lg_entry_eq] at hW
    obtain ⟨t, a1, oc, b1, b2, b3⟩ := hW s₁ hh0 (Stand.of_body B)
    exact ⟨t, oc, a1, b1, b2, b3⟩
