/-! ===== ONE CONTRACT FORM: 'o' is how it ends (an exception's name, or the answer) and the world behind ===== -/
abbrev gG : Type := Nat × Nat
/-- a static that holds a reference or null, its cell outside what may change -/
def gSq (C n d : String) (A : Nat → Prop) (U : State) (H : Heap) : Prop := ∃ (c : ClassId) (k : Class) (i : Nat) (f : Field) (a : Nat) (cell : Cell) (v : Value), U.vm.findClass C = some c ∧ U.fieldFound? C n d = some (c, k, i, f) ∧ f.isStatic = true ∧ k.statics = some a ∧ H[a]? = some cell ∧ cell.vm.isStatics = true ∧ cell.cls = c ∧ cell.slots[f.slot]? = some v ∧ v.isRef = true ∧ k.staticTypes[f.slot]? = some f.type ∧ ¬ A a
theorem gSq.moved {C n d : String} {A : Nat → Prop} {u U : State} {H : Heap} (hvm : u.vm.Alike U.vm) (h : gSq C n d A u H) : gSq C n d A U H := by
  obtain ⟨c, k, i, f, a, cell, v, h1, h2, h3, h4, h5, h6, h7, h8, h9, h10, h11⟩ := h
  obtain ⟨k', hi', he⟩ := State.fieldFound?_setVm hvm h2
  exact ⟨c, k', i, f, a, cell, v, by rw [hvm.findClass]; exact h1, hi', h3, by rw [he]; exact h4, h5, h6, h7, h8, h9, by rw [he]; exact h10, h11⟩
theorem gSq.kept {C n d : String} {A : Nat → Prop} {U : State} {H H1 : Heap} (h : gSq C n d A U H) (hq : ∀ a : Nat, a < H.size → ¬ A a → H1[a]? = H[a]?) : gSq C n d A U H1 := by
  obtain ⟨c, k, i, f, a, cell, v, h1, h2, h3, h4, h5, h6, h7, h8, h9, h10, h11⟩ := h
  exact ⟨c, k, i, f, a, cell, v, h1, h2, h3, h4, by rw [hq a (Array.getElem?_eq_some_iff.mp h5).1 h11]; exact h5, h6, h7, h8, h9, h10, h11⟩
theorem gSq.narrow {C n d : String} {A B : Nat → Prop} {U : State} {H : Heap} (h : gSq C n d A U H) (hAB : ∀ q, B q → A q) : gSq C n d B U H := by
  obtain ⟨c, k, i, f, a, cell, v, h1, h2, h3, h4, h5, h6, h7, h8, h9, h10, h11⟩ := h
  exact ⟨c, k, i, f, a, cell, v, h1, h2, h3, h4, h5, h6, h7, h8, h9, h10, fun z => h11 (hAB _ z)⟩
theorem gSq.lays {C n d : String} {A : Nat → Prop} {s : State} {args : Array Value} (h : gSq C n d A s s.heap) : (Cond.laysStatic C n d).before args s = true := by
  obtain ⟨c, k, i, f, a, cell, v, h1, h2, h3, h4, h5, h6, h7, h8, h9, h10, h11⟩ := h
  show (Cond.laysStatic C n d).holds args s none s [] = true
  exact Cond.laysStatic_of h1 h2 h3 h4 h5 h6 h7 (k2_hasslot h8) h10
theorem gSq.isRef {C n d : String} {A : Nat → Prop} {s : State} {args : Array Value} (h : gSq C n d A s s.heap) : (Cond.isRef (.static C n d)).before args s = true := by
  obtain ⟨c, k, i, f, a, cell, v, h1, h2, h3, h4, h5, h6, h7, h8, h9, h10, h11⟩ := h
  have he : (Term.static C n d).eval args s none [] s = some v := by
    simp [Term.eval, State.fieldNamed?, h2, h3, h4, h5, h6, h8]
  simp only [Cond.before, Cond.holds, Cond.value, he]
  cases v <;> simp_all [Value.isRef]
theorem gSq.of {args : Array Value} {s : State} {C n d : String} {A : Nat → Prop} (hl : (Cond.laysStatic C n d).before args s = true) (h : (Cond.isRef (.static C n d)).before args s = true) (hA : ∀ a : Nat, a < s.heap.size → ¬ A a) : gSq C n d A s s.heap := by
  obtain ⟨c, k, i, f, a, cell, h1, h2, h3, h4, h5, h6, h7, h8, h9⟩ := Cond.laysStatic_spec hl
  obtain ⟨v, hv, hr⟩ := Cond.isRef_spec h
  obtain ⟨hst', a', cell', ha', hcell', -, hslot⟩ := Term.static_spec h2 hv
  cases h4.symm.trans ha'
  cases h5.symm.trans hcell'
  exact ⟨c, k, i, f, a, cell, v, h1, h2, h3, h4, h5, h6, h7, hslot, hr, h9, hA a (Array.getElem?_eq_some_iff.mp h5).1⟩
/-- the texts of the exceptions -/
def gTx : List (String × Nat × String) := [("BodySolids", 249, "no such number"), ("BodySolids", 254, "a value is out of its range"), ("BodySolids", 222, "the placement's body is empty")]
/-- an exception's class that is not under another's -/
def gNc (U : State) : Prop := ∀ q ∈ [("java/lang/IllegalArgumentException", "java/lang/IndexOutOfBoundsException"), ("java/lang/IllegalStateException", "java/lang/IndexOutOfBoundsException")], ∀ a b : ClassId, U.vm.findClass q.1 = some a → U.vm.findClass q.2 = some b → U.vm.assignable a b = false
theorem gNc.warm {s U : State} (hW : s.WarmedH U.vm) (h : gNc s) : gNc U := fun q hq a b h1 h2 => by
  rw [hW.alike.findClass] at h1 h2
  rw [hW.alike.assignable]
  exact h q hq a b h1 h2
def gStr (U : State) : Prop := (∀ q ∈ gTx, ∃ a : Nat, vk_R q.1 q.2.1 q.2.2 a U) ∧ gNc U
theorem gStr.warm {s U : State} (hW : s.WarmedH U.vm) (h : gStr s) : gStr U := ⟨fun q hq => (h.1 q hq).elim fun a ha => ⟨a, vk_R.warm hW ha⟩, h.2.warm hW⟩
/-- what holds of statics and texts: outside what may change -/
def gZ (A : Nat → Prop) (U : State) (H : Heap) (g0 : gG) : Prop :=
  va_Z "java/util/ArrayList" "DEFAULTCAPACITY_EMPTY_ELEMENTDATA" "[Ljava/lang/Object;" (.ref g0.1) A U H ∧ va_Mi "[Ljava/lang/Object;" g0.2 U ∧ gSq "java/lang/Throwable" "UNASSIGNED_STACK" "[Ljava/lang/StackTraceElement;" A U H ∧ gSq "java/lang/Throwable" "SUPPRESSED_SENTINEL" "Ljava/util/List;" A U H ∧ gStr U
theorem gZ.warm {A : Nat → Prop} {s U : State} {H : Heap} {g0 : gG} (hW : s.WarmedH U.vm) (h : gZ A s H g0) : gZ A U H g0 := ⟨va_Z.moved hW.alike h.1, va_Mi.moved hW.alike h.2.1, gSq.moved hW.alike h.2.2.1, gSq.moved hW.alike h.2.2.2.1, gStr.warm hW h.2.2.2.2⟩
theorem gZ.kept {A : Nat → Prop} {U : State} {H H1 : Heap} {g0 : gG} (h : gZ A U H g0) (hq : ∀ a : Nat, a < H.size → ¬ A a → H1[a]? = H[a]?) : gZ A U H1 g0 := ⟨va_Z.kept h.1 hq, h.2.1, gSq.kept h.2.2.1 hq, gSq.kept h.2.2.2.1 hq, h.2.2.2.2⟩
theorem gZ.narrow {A B : Nat → Prop} {U : State} {H : Heap} {g0 : gG} (h : gZ A U H g0) (hAB : ∀ q, B q → A q) : gZ B U H g0 := ⟨va_Z.narrow h.1 hAB, h.2.1, gSq.narrow h.2.2.1 hAB, gSq.narrow h.2.2.2.1 hAB, h.2.2.2.2⟩
def gA (w : gW) : Nat → Prop := fun q => (∃ e : gE, w.1 q = some e ∧ gRW e) ∨ w.2 ≤ q
def gPre (D : gD) (g0 : gG) (w : gW) (U : State) : Prop := U.heap.size = w.2 ∧ (∀ (a : Nat) (e : gE), w.1 a = some e → gAt D a e U.heap) ∧ gK D U ∧ gT U ∧ gZ (gA w) U U.heap g0
/-- the world behind, and nothing else moved -/
def gEnd (D : gD) (w w' : gW) (st t : State) : Prop := t.heap.size = w'.2 ∧ (∀ (a : Nat) (e : gE), w'.1 a = some e → gAt D a e t.heap) ∧ (∀ (a : Nat) (e : gE), w'.1 a = some e → gRW e → gA w a) ∧ va_F (gA w) st t
def gQ (D : gD) (w : gW) (o : (String ⊕ Option Value) × gW) (mc ms : Nat) : Array Value → State → Outcome → State → Prop := fun _ st oc t =>
  gEnd D w o.2 st t ∧ st.WarmedH t.vm ∧ (∃ L : List Loc, st.sameButNew ({ t with vm := st.vm } : State) L mc ms ∧ ∀ z ∈ L, gA w z.base) ∧
    match o.1 with
    | .inl E => ∃ (q : Addr) (ce : Cell), oc = .threw q ∧ t.heap[q]? = some ce ∧ ce.vm = .none ∧ st.vm.findClass E = some ce.cls
    | .inr v => oc = .returned v
def gMet (l : Launch) (y : MethodName) (k : Cond) (rm : Room) (D : gD) (g0 : gG) (av : List Value) (w : gW) (o : (String ⊕ Option Value) × gW) : Prop :=
  MetFree l y (headSpec [k] rm) (fun v U => v = av.toArray ∧ gPre D g0 w U) (fun _ _ _ _ _ => True) (gQ D w o rm.cells rm.slots)
theorem gPre.blind {D : gD} {g0 : gG} {w : gW} {U : State} {g : JFrame} {mk : MethodId} {a : Array Value} (h : gPre D g0 w U) : gPre D g0 w (U.calling g mk a) := by
  obtain ⟨h1, h2, h3, h4, h5⟩ := h
  refine ⟨h1, h2, gK.moved (u := U) (U := U.calling g mk a) (Vm.Alike.refl U.vm) h3, gT.warm (s := U) (U := U.calling g mk a) (State.WarmedH.refl U) h4, gZ.warm (s := U) (U := U.calling g mk a) (State.WarmedH.refl U) h5⟩
def gEndH (D : gD) (w w' : gW) (H H' : Heap) : Prop := H'.size = w'.2 ∧ (∀ (a : Nat) (e : gE), w'.1 a = some e → gAt D a e H') ∧ (∀ (a : Nat) (e : gE), w'.1 a = some e → gRW e → gA w a) ∧ H.size ≤ H'.size ∧ ∀ q : Nat, q < H.size → ¬ gA w q → H'[q]? = H[q]?
theorem gEnd.heaps {D : gD} {w w' : gW} {st t : State} (h : gEnd D w w' st t) : gEndH D w w' st.heap t.heap := ⟨h.1, h.2.1, h.2.2.1, h.2.2.2.1, h.2.2.2.2⟩
section GB
variable {l : Launch} {R : Room} {p : Program} {e : Env} {below : List Frame} {s : State} {sargs : Array Value} {y : MethodName} {len W9 : Nat}
/-- a contract used at a call: the callee's frame is laid, it runs, it returns or throws -/
theorem gw_back {k : Cond} {rm : Room} {D : gD} {g0 : gG} {av : List Value} {w : gW} {o : (String ⊕ Option Value) × gW} {maxL : Nat} (hM : gMet l y k rm D g0 av w o) (hframes : rm.frames + 1 ≤ R.frames) (hlocals : W9 + (maxL + 11) + rm.locals ≤ R.locals)
    (hk : ∀ (a' : Array Value) (U : State), s.WarmedH U.vm → k.before a' U = true) (hinit : ∀ (a' : Array Value) (U : State), s.WarmedH U.vm → (Cond.initialized y.cls).before a' U = true)
    (hsp : ∀ (a : Array Value) (U : State) (mk : MethodId), U.methodNamed? y = some mk → k.before a U = true → ∃ methY cY, U.vm.method? mk = some methY ∧ methY.code = some cY ∧ cY.maxLocals = maxL)
    {m : MethodId} {meth : Method} {c : Code} {U : State} {Ls : List Loc} {c0 s0 : Nat} (X : Stand p l e R s m sargs below meth c U Ls c0 s0) {g : JFrame} {ig : Instr} {mk : MethodId} (hg : g.method = m) (hsize : g.locals.size = c.maxLocals) (hdg : decode c.code g.pc = .ok (ig, len))
    (hW : 2 * g.monitorRoom + (g.stack.map fun v => v.category).sum ≤ W9) (hn : U.methodNamed? y = some mk) (hc : c0 + rm.cells ≤ R.cells) (hs : s0 + rm.slots ≤ R.slots) (hP : gPre D g0 w U) :
    ∃ (T' : State) (L : List Loc), Stand p l e R s m sargs below meth c T' (Ls ++ L) (c0 + rm.cells) (s0 + rm.slots) ∧ (∀ z ∈ L, gA w z.base) ∧ gEndH D w o.2 U.heap T'.heap ∧
      match o.1 with
      | .inr v => Steps p.tables e below (doInvoke e (U.setTop g) [] mk av.toArray).1 (T'.setTop { g with pc := g.pc + len, stack := v.toList ++ g.stack })
      | .inl E => ∃ (q : Addr) (ce : Cell), T'.heap[q]? = some ce ∧ ce.vm = .none ∧ U.vm.findClass E = some ce.cls ∧ Steps p.tables e below (doInvoke e (U.setTop g) [] mk av.toArray).1 ((T'.setTop g).pushFrame (.throwing q)) := by
  have h2 : k.before av.toArray U = true := hk _ _ X.warmed
  obtain ⟨methY, cY, hmY, hcY, hlY⟩ := hsp av.toArray U mk hn h2
  obtain ⟨kY, hkY, -⟩ := className_of_methodNamed hn
  have hinitY : kY.init = .initialized := Cond.initialized_spec (findClass_of_methodNamed hn) hkY (hinit av.toArray U X.warmed)
  have h : At U g.method c below := by rw [hg]; exact X.here
  have happ : (headSpec [k] rm).appliesLoose y e.platform (U.calling g mk av.toArray) = true :=
    Spec.appliesLoose_calling (g := g) h hdg hn hkY hinitY
      (X.room_calling (g := g) (R' := (headSpec [k] rm).room) hsize hmY hcY hframes (by rw [hlY]; have q : (headSpec [k] rm).room.locals = rm.locals := rfl; omega) hc hs) (atoms_intro fun z hz => by rw [List.mem_singleton.mp hz]; exact h2)
  obtain ⟨mid, hmid⟩ := h.above
  have hfr : (U.setTop g).frames = (.java g :: mid) ++ below := by rw [State.frames_setTop' g h.top, hmid]; rfl
  obtain ⟨oc, t, hsteps, -, hend, hq⟩ := Steps.callFree hM p X.admits X.cas X.clock (acts := []) hfr happ ⟨rfl, hP.blind⟩ trivial
  have hq' : gQ D w o rm.cells rm.slots av.toArray (U.calling g mk av.toArray) oc t := hq
  rw [State.frames_setTop' g h.top] at hend
  obtain ⟨g₀, hg0⟩ := Option.isSome_iff_exists.mp h.top
  obtain ⟨r, hr⟩ := State.topJava?_eq_some.mp hg0
  obtain ⟨hE, hWt, ⟨L, hsm, hL⟩, hout⟩ := hq'
  have hW' : U.WarmedH t.vm := hWt
  obtain ⟨e1, e2, e3, e4, e5, e6⟩ := id hsm
  obtain ⟨T', hT'⟩ : ∃ T', T' = (({ U with heap := t.heap, slotsUsed := t.slotsUsed } : State).setVm t.vm) := ⟨_, rfl⟩
  have hr' : T'.frames = .java g₀ :: r := by rw [hT']; exact hr
  have ht : t = ({ (U.calling g mk av.toArray).setFrames t.frames with heap := t.heap, slotsUsed := t.slotsUsed } : State).setVm t.vm := by
    have q : t = ({ t with vm := (U.calling g mk av.toArray).vm } : State).setVm t.vm := rfl
    rw [e1] at q
    exact q
  have hsame : U.sameButNew ({ U with heap := t.heap, slotsUsed := t.slotsUsed } : State) L rm.cells rm.slots := by
    refine ⟨?_, e2, e3, e4, e5, e6⟩
    obtain ⟨z, hz, -⟩ := State.frames_cons hr
    show ({ U with heap := t.heap, slotsUsed := t.slotsUsed } : State) = { U.setFrames U.frames with heap := t.heap, slotsUsed := t.slotsUsed }
    rw [State.setFrames_self hz]
  have X' : Stand p l e R s m sargs below meth c T' (Ls ++ L) (c0 + rm.cells) (s0 + rm.slots) := by
    subst hg
    rw [hT']
    exact ⟨X.admits, X.cas, X.clock, X.frames, X.room, X.hears, X.method, X.code, (X.here.setHeapUsed t.heap t.slotsUsed).setVm hW'.alike, X.tail, State.WarmedH.trans X.warmed hW', X.limits, X.bytes, X.same.trans (hsame.setVm s.vm)⟩
  have hheap : T'.heap = t.heap := by rw [hT']; rfl
  refine ⟨T', L, X', hL, by rw [hheap]; exact hE.heaps, ?_⟩
  obtain ⟨o1, o2⟩ := o
  cases o1 with
  | inr v =>
    have hv : oc = .returned v := hout
    subst hv
    obtain ⟨c₂, i₂, len₂, hc₂, hd₂, hf₂⟩ := hend
    have hcc : c₂ = c := by
      have q1 : t.code? g.method = U.code? g.method := by rw [State.code?_eq, State.code?_eq, hW'.alike.method?]
      exact Option.some.inj (hc₂.symm.trans (q1.trans h.code))
    subst hcc
    have hlen : len₂ = len := by rw [hdg] at hd₂; cases hd₂; rfl
    subst hlen
    have hs₂ : t = T'.setTop { g with pc := g.pc + len₂, stack := v.toList ++ g.stack } := by
      refine ht.trans ?_
      rw [hf₂, State.calling_eq h.top, State.setFrames_setFrames, State.setTop_of_frames _ hr', hr, hT']
      rfl
    show Steps p.tables e below _ (T'.setTop { g with pc := g.pc + len₂, stack := v.toList ++ g.stack })
    rw [← hs₂]
    exact hsteps
  | inl E =>
    obtain ⟨q, ce, rfl, hce, hcv, hcl⟩ := hout
    have hf₂ : t.frames = .throwing q :: .java g :: U.frames.tail := hend
    have hs₂ : t = (T'.setTop g).pushFrame (.throwing q) := by
      refine ht.trans ?_
      rw [hf₂, State.calling_eq h.top, State.setFrames_setFrames, State.pushFrame, State.frames_setTop _ hr', State.setTop_of_frames _ hr', State.setFrames_setFrames, hr, hT']
      rfl
    refine ⟨q, ce, by rw [hheap]; exact hce, hcv, hcl, ?_⟩
    rw [← hs₂]
    exact hsteps
end GB
/-- a call as a whole -/
def gRun (p : Program) (l : Launch) (e : Env) (R : Room) (s : State) (m : MethodId) (args : Array Value) (below : List Frame) (meth : Method) (c : Code) (H : Heap) (locs : List Loc) (cells slots : Nat) (g : JFrame) (rest : List Value) (rm : Room) (D : gD) (w : gW) (o : (String ⊕ Option Value) × gW) : Prop :=
  ∀ T : State, T.heap = H → Stand p l e R s m args below meth c T locs cells slots → ∃ (T' : State) (L : List Loc), Stand p l e R s m args below meth c T' (locs ++ L) (cells + rm.cells) (slots + rm.slots) ∧ (∀ z ∈ L, gA w z.base) ∧ gEndH D w o.2 H T'.heap ∧
    match o.1 with
    | .inr v => ∀ tg, Steps p.tables e below (T'.setTop { g with pc := g.pc + 3, stack := v.toList ++ rest }) tg → Steps p.tables e below (T.setTop g) tg
    | .inl E => ∃ (q : Addr) (ce : Cell), T'.heap[q]? = some ce ∧ ce.vm = .none ∧ s.vm.findClass E = some ce.cls ∧ Steps p.tables e below (T.setTop g) ((T'.setTop { g with stack := rest }).pushFrame (.throwing q))
section GC
variable {p : Program} {l : Launch} {e : Env} {R : Room} {s : State} {m : MethodId} {args : Array Value} {below : List Frame} {meth : Method} {c : Code} {H : Heap} {locs : List Loc} {cells slots : Nat}
/-- what a call needs to know of its callee, whoever calls -/
def gCe (y : MethodName) (k : Cond) (maxL n : Nat) (st : Bool) : Prop :=
  (k ∈ gAll ∧ goodWord k = true) ∧ (Cond.initialized y.cls ∈ gAll) ∧ (if st then Cond.static y ∈ gAll else Cond.instanceMethod y ∈ gAll) ∧ (y.cls ≠ "java/lang/invoke/MethodHandle" ∧ y.cls ≠ "java/lang/invoke/VarHandle") ∧ (parseMethodDescriptor y.desc).map (fun d => d.parameters.length) = some n ∧
  (∀ (a : Array Value) (U : State) (mk : MethodId), U.methodNamed? y = some mk → k.before a U = true → ∃ methY cY, U.vm.method? mk = some methY ∧ methY.code = some cY ∧ cY.maxLocals = maxL ∧ parseMethodDescriptor y.desc = some methY.sig)
theorem gCe.code {y : MethodName} {b : ByteArray} {maxL n : Nat} {ret : Option FieldType} {st : Bool} (h1 : Cond.code y b maxL ret ∈ gAll) (h2 : Cond.initialized y.cls ∈ gAll) (h3 : if st then Cond.static y ∈ gAll else Cond.instanceMethod y ∈ gAll) (h4 : y.cls ≠ "java/lang/invoke/MethodHandle" ∧ y.cls ≠ "java/lang/invoke/VarHandle") (h5 : (parseMethodDescriptor y.desc).map (fun d => d.parameters.length) = some n) : gCe y (.code y b maxL ret) maxL n st := by
  refine ⟨⟨h1, rfl⟩, h2, h3, h4, h5, fun a U mk hn hb => ?_⟩
  obtain ⟨methM, cM, hmethM, hcM, -, hlM, -, -, -, hsigM⟩ := Cond.code_spec hn hb
  exact ⟨methM, cM, hmethM, hcM, hlM, hsigM⟩
theorem gCe.codeWith {y : MethodName} {b : ByteArray} {maxL n : Nat} {ret : Option FieldType} {hh : List (Nat × Nat × Nat × Nat)} {st : Bool} (h1 : Cond.codeWith y b maxL ret hh ∈ gAll) (h2 : Cond.initialized y.cls ∈ gAll) (h3 : if st then Cond.static y ∈ gAll else Cond.instanceMethod y ∈ gAll) (h4 : y.cls ≠ "java/lang/invoke/MethodHandle" ∧ y.cls ≠ "java/lang/invoke/VarHandle") (h5 : (parseMethodDescriptor y.desc).map (fun d => d.parameters.length) = some n) : gCe y (.codeWith y b maxL ret hh) maxL n st := by
  refine ⟨⟨h1, rfl⟩, h2, h3, h4, h5, fun a U mk hn hb => ?_⟩
  obtain ⟨m9, methM, cM, hn9, hmethM, hcM, -, hlM, -, -, -, hsigM⟩ := Cond.codeWith_spec hb
  cases hn.symm.trans hn9
  exact ⟨methM, cM, hmethM, hcM, hlM, hsigM⟩
theorem gCe.len {y : MethodName} {k : Cond} {maxL n : Nat} {st : Bool} (h : gCe y k maxL n st) {sig : MethodDescriptor} (hs : parseMethodDescriptor y.desc = some sig) : n = sig.parameters.length := by
  have h2 := h.2.2.2.2.1
  rw [hs] at h2
  exact (Option.some.inj h2).symm
theorem gCe.k {y : MethodName} {k : Cond} {maxL n : Nat} {st : Bool} (h : gCe y k maxL n st) (hT : gT s) : ∀ (a' : Array Value) (U : State), s.WarmedH U.vm → k.before a' U = true := fun a' U hW => word_at hW (good_of_word h.1.2) (hT _ h.1.1 #[])
theorem gCe.i {y : MethodName} {k : Cond} {maxL n : Nat} {st : Bool} (h : gCe y k maxL n st) (hT : gT s) : ∀ (a' : Array Value) (U : State), s.WarmedH U.vm → (Cond.initialized y.cls).before a' U = true := fun a' U hW => word_at hW (good_of_word rfl) (hT _ h.2.1 #[])
theorem gPre.up {D : gD} {g0 : gG} {w : gW} {A : Nat → Prop} {T : State} {vm₁ : Vm} (hT0 : T.heap = H) (hW : s.WarmedH vm₁) (hK : gK D s) (hT : gT s) (hZ : gZ A s s.heap g0) (hA : ∀ q : Nat, s.heap.size ≤ q → A q) (hI : gI D s A w H locs) : gPre D g0 w (T.setVm vm₁) := by
  obtain ⟨h1, h2, h3, h4⟩ := hI
  have hh : (T.setVm vm₁).heap = H := hT0
  have hsub : ∀ q : Nat, gA w q → A q := fun q hq => hq.elim (fun ⟨e, q1, q2⟩ => h4 q e q1 q2) (fun z => hA q (Nat.le_trans h3.1 (by rw [h1]; exact z)))
  refine ⟨by rw [hh]; exact h1, fun a e he => by rw [hh]; exact h2 a e he, gK.moved hW.alike hK, gT.warm (U := T.setVm vm₁) hW hT, ?_⟩
  rw [hh]
  exact gZ.narrow (gZ.warm (U := T.setVm vm₁) hW (gZ.kept hZ h3.2.1)) hsub
variable {y : MethodName} {k : Cond} {maxL n index nL : Nat} {rm : Room} {D : gD} {g0 : gG} {w : gW} {A : Nat → Prop} {o : (String ⊕ Option Value) × gW} {As rest : List Value} {g : JFrame} {cc : ByteArray} {own : String}
theorem gw_runS (hx : p.tables.exec = Jvm.exec) (hb : c.code = cc) (hml : c.maxLocals = nL) (hown : s.vm.findClass own = some m.cls) (hT : gT s) (hK : gK D s) (hZ : gZ A s s.heap g0) (hA : ∀ q : Nat, s.heap.size ≤ q → A q) (hI : gI D s A w H locs)
    (hM : gMet l y k rm D g0 As w o) (hC : gCe y k maxL n true) (hl : Cond.methodLink own index y ∈ gAll) (hR : rm.frames + 1 ≤ R.frames ∧ 8 + (maxL + 11) + rm.locals ≤ R.locals)
    (hg : g.method = m) (hn : As.length = n) (hsize : g.locals.size = nL) (hstack : g.stack = As.reverse ++ rest) (hW : 2 * g.monitorRoom + (rest.map fun v => v.category).sum ≤ 8) (hdg : decode cc g.pc = .ok (.invokestatic index, 3)) (hf : cells + rm.cells ≤ R.cells ∧ slots + rm.slots ≤ R.slots) :
    gRun p l e R s m args below meth c H locs cells slots g rest rm D w o := by
  intro T hT0 X
  obtain ⟨mk, hnamed⟩ : ∃ mk, s.methodNamed? y = some mk := by
    have h := hT _ hC.2.2.1 #[]
    revert h
    simp only [Cond.before, Cond.holds, Cond.value]
    cases s.methodNamed? y with
    | none => simp
    | some mk => exact fun _ => ⟨mk, rfl⟩
  obtain ⟨methM, cM, hmethM, -, -, hsigM⟩ := hC.2.2.2.2.2 #[] s mk hnamed (hT _ hC.1.1 #[])
  have hstatic : methM.isStatic = true := Cond.static_spec hnamed hmethM (hT _ hC.2.2.1 #[])
  obtain ⟨kP, hkP, -⟩ := className_of_methodNamed hnamed
  have hinitP : kP.init = .initialized := Cond.initialized_spec (findClass_of_methodNamed hnamed) hkP (hT _ hC.2.1 #[])
  obtain ⟨vm₁, X₁, hstep₁⟩ := X.invokestatic hx hown (hT _ hl args) hnamed hmethM hstatic hkP hinitP hC.2.2.2.1 (g := g) hg (argsL := As) (rest := rest) (hn.trans (hC.len hsigM)) hstack (by rw [hb]; exact hdg)
  obtain ⟨T', L, X', hL, hE, hout⟩ := gw_back (W9 := 8) (len := 3) (maxL := maxL) hM hR.1 hR.2 (hC.k hT) (hC.i hT) (fun a U mk hn hb => by obtain ⟨q1, q2, q3, q4, q5, -⟩ := hC.2.2.2.2.2 a U mk hn hb; exact ⟨q1, q2, q3, q4, q5⟩) X₁ (g := { g with stack := rest }) (ig := .invokestatic index) hg (hsize.trans hml.symm) (by rw [hb]; exact hdg) hW (X₁.named hnamed) hf.1 hf.2 (gPre.up hT0 X₁.warmed hK hT hZ hA hI)
  refine ⟨T', L, X', hL, by rw [← hT0]; exact hE, ?_⟩
  obtain ⟨o1, o2⟩ := o
  cases o1 with
  | inr v => exact fun tg h => hstep₁ _ fun acts => by rw [doInvoke_state]; exact hout.trans h
  | inl E =>
    obtain ⟨q, ce, h1, h2, h3, h4⟩ := hout
    refine ⟨q, ce, h1, h2, ?_, hstep₁ _ fun acts => by rw [doInvoke_state]; exact h4⟩
    rw [X₁.warmed.alike.findClass] at h3
    exact h3
/-- the receiver of a call -/
theorem gI.recv {b ci : Nat} {C : String} {T : u_T} {N : Nat} {u : Unit} (hK : gK D s) (hI : gI D s A w H locs) (hc : gCl[ci]? = some (C, T, N)) (h : gck w b ci = some u) : ∃ cellB : Cell, H[b]? = some cellB ∧ cellB.vm.isStatics = false ∧ s.vm.findClass C = some cellB.cls := by
  obtain ⟨fs, h1⟩ := gck_some h
  obtain ⟨r, hr, cell, q1, q2, q3, q4⟩ := hI.2.1 b _ h1
  exact ⟨cell, q1, by rw [q3]; rfl, by rw [q2]; exact (hK.1 ci _ hc).2.1⟩
theorem gw_runV {b ci N : Nat} {C : String} {T0 : u_T} {u : Unit} (hx : p.tables.exec = Jvm.exec) (hb : c.code = cc) (hml : c.maxLocals = nL) (hown : s.vm.findClass own = some m.cls) (hT : gT s) (hK : gK D s) (hZ : gZ A s s.heap g0) (hA : ∀ q : Nat, s.heap.size ≤ q → A q) (hI : gI D s A w H locs)
    (hc : gCl[ci]? = some (C, T0, N)) (hck : gck w b ci = some u) (hM : gMet l y k rm D g0 (.ref b :: As) w o) (hC : gCe y k maxL n false) (hl : Cond.methodLink own index y ∈ gAll) (hse : Cond.selects C y y ∈ gAll) (hR : rm.frames + 1 ≤ R.frames ∧ 8 + (maxL + 11) + rm.locals ≤ R.locals)
    (hg : g.method = m) (hn : As.length = n) (hsize : g.locals.size = nL) (hstack : g.stack = As.reverse ++ .ref b :: rest) (hW : 2 * g.monitorRoom + (rest.map fun v => v.category).sum ≤ 8) (hdg : decode cc g.pc = .ok (.invokevirtual index, 3)) (hf : cells + rm.cells ≤ R.cells ∧ slots + rm.slots ≤ R.slots) :
    gRun p l e R s m args below meth c H locs cells slots g rest rm D w o := by
  intro T hT0 X
  obtain ⟨mk, methM, hnamed, hmethM, hstM, habM⟩ := Cond.instanceMethod_spec (hT _ hC.2.2.1 args)
  obtain ⟨methM', cM, hmethM', -, -, hsigM⟩ := hC.2.2.2.2.2 #[] s mk hnamed (hT _ hC.1.1 #[])
  cases hmethM.symm.trans hmethM'
  obtain ⟨cellB, hcB, hoB, hclB⟩ := hI.recv hK hc hck
  obtain ⟨c2, r2, m2, q1, q2, q3, q4, kP, hkP, hkPi⟩ := Cond.selects_spec (hT _ hse args)
  cases hclB.symm.trans q1
  cases (State.methodFound?_of_named hnamed hC.2.2.2.1).symm.trans q2
  cases hnamed.symm.trans q3
  have hselP : selectMethod e.platform s.vm cellB.cls mk = .method mk := by rw [Launch.admits_selectMethod X.admits]; exact q4
  obtain ⟨vm₁, X₁, hstep₁⟩ := X.invokevirtual hx hown (hT _ hl args) hnamed hmethM hstM hkP hkPi hC.2.2.2.1 (a := b) (cell := cellB) (by rw [hT0]; exact hcB)
    (fun z h => by rw [h] at hoB; cases hoB) hselP hmethM habM hkP hkPi (g := g) hg (argsL := As) (rest := rest) (hn.trans (hC.len hsigM)) hstack (by rw [hb]; exact hdg)
  obtain ⟨T', L, X', hL, hE, hout⟩ := gw_back (W9 := 8) (len := 3) (maxL := maxL) hM hR.1 hR.2 (hC.k hT) (hC.i hT) (fun a U mk hn hb => by obtain ⟨q1, q2, q3, q4, q5, -⟩ := hC.2.2.2.2.2 a U mk hn hb; exact ⟨q1, q2, q3, q4, q5⟩) X₁ (g := { g with stack := rest }) (ig := .invokevirtual index) hg (hsize.trans hml.symm) (by rw [hb]; exact hdg) hW (X₁.named hnamed) hf.1 hf.2 (gPre.up hT0 X₁.warmed hK hT hZ hA hI)
  refine ⟨T', L, X', hL, by rw [← hT0]; exact hE, ?_⟩
  obtain ⟨o1, o2⟩ := o
  cases o1 with
  | inr v => exact fun tg h => hstep₁ _ fun acts => by rw [doInvoke_state]; exact hout.trans h
  | inl E =>
    obtain ⟨q, ce, h1, h2, h3, h4⟩ := hout
    refine ⟨q, ce, h1, h2, ?_, hstep₁ _ fun acts => by rw [doInvoke_state]; exact h4⟩
    rw [X₁.warmed.alike.findClass] at h3
    exact h3
theorem gw_runI {b : Nat} {bs : ByteArray} (hx : p.tables.exec = Jvm.exec) (hb : c.code = cc) (hml : c.maxLocals = nL) (hown : s.vm.findClass own = some m.cls) (hT : gT s) (hK : gK D s) (hZ : gZ A s s.heap g0) (hA : ∀ q : Nat, s.heap.size ≤ q → A q) (hI : gI D s A w H locs)
    (hM : gMet l y (.code y bs maxL none) rm D g0 (.ref b :: As) w o) (hC : gCe y (.code y bs maxL none) maxL n false) (hl : Cond.methodLink own index y ∈ gAll) (hy1 : y.name = "<init>") (hR : rm.frames + 1 ≤ R.frames ∧ 8 + (maxL + 11) + rm.locals ≤ R.locals)
    (hg : g.method = m) (hn : As.length = n) (hsize : g.locals.size = nL) (hstack : g.stack = As.reverse ++ .ref b :: rest) (hW : 2 * g.monitorRoom + (rest.map fun v => v.category).sum ≤ 8) (hdg : decode cc g.pc = .ok (.invokespecial index, 3)) (hf : cells + rm.cells ≤ R.cells ∧ slots + rm.slots ≤ R.slots) :
    gRun p l e R s m args below meth c H locs cells slots g rest rm D w o := by
  subst hg
  intro T hT0 X
  have hpl : e.platform.magicAccessors = ({} : Platform).magicAccessors := by rw [X.admits.platform]
  obtain ⟨mk, methM, cM, kP, vm₁, hnamed, hmethM, hcodeM, -, hlocalsM, -, hkP, -, hW₁, hstep₁⟩ := Steps.initColdArgs (e := e) X.here hx X.warmed hpl hown hy1 hC.2.2.2.1 (hT _ hl args) (hT _ hC.2.2.1 args) (hT _ hC.1.1 args) (f := g) rfl (fun sig h => hn.trans (hC.len h)) hstack (by rw [hb]; exact hdg)
  have X₁ := X.noted hW₁
  obtain ⟨T', L, X', hL, hE, hout⟩ := gw_back (W9 := 8) (len := 3) (maxL := maxL) hM hR.1 hR.2 (hC.k hT) (hC.i hT) (fun a U mk hn hb => by obtain ⟨q1, q2, q3, q4, q5, -⟩ := hC.2.2.2.2.2 a U mk hn hb; exact ⟨q1, q2, q3, q4, q5⟩) X₁ (g := { g with stack := rest }) (ig := .invokespecial index) rfl (hsize.trans hml.symm) (by rw [hb]; exact hdg) hW (X₁.named hnamed) hf.1 hf.2 (gPre.up hT0 X₁.warmed hK hT hZ hA hI)
  refine ⟨T', L, X', hL, by rw [← hT0]; exact hE, ?_⟩
  obtain ⟨o1, o2⟩ := o
  cases o1 with
  | inr v => exact fun tg h => hstep₁ _ fun acts => by rw [doInvoke_state]; exact hout.trans h
  | inl E =>
    obtain ⟨q, ce, h1, h2, h3, h4⟩ := hout
    refine ⟨q, ce, h1, h2, ?_, hstep₁ _ fun acts => by rw [doInvoke_state]; exact h4⟩
    rw [X₁.warmed.alike.findClass] at h3
    exact h3
theorem gw_runIN {b : Nat} {bs : ByteArray} {host : String} (hx : p.tables.exec = Jvm.exec) (hb : c.code = cc) (hml : c.maxLocals = nL) (hown : s.vm.findClass own = some m.cls) (hT : gT s) (hK : gK D s) (hZ : gZ A s s.heap g0) (hA : ∀ q : Nat, s.heap.size ≤ q → A q) (hI : gI D s A w H locs)
    (hM : gMet l y (.code y bs maxL none) rm D g0 (.ref b :: As) w o) (hC : gCe y (.code y bs maxL none) maxL n false) (hl : Cond.methodLinkNest own index y host ∈ gAll) (hy1 : y.name = "<init>") (hR : rm.frames + 1 ≤ R.frames ∧ 8 + (maxL + 11) + rm.locals ≤ R.locals)
    (hg : g.method = m) (hn : As.length = n) (hsize : g.locals.size = nL) (hstack : g.stack = As.reverse ++ .ref b :: rest) (hW : 2 * g.monitorRoom + (rest.map fun v => v.category).sum ≤ 8) (hdg : decode cc g.pc = .ok (.invokespecial index, 3)) (hf : cells + rm.cells ≤ R.cells ∧ slots + rm.slots ≤ R.slots) :
    gRun p l e R s m args below meth c H locs cells slots g rest rm D w o := by
  subst hg
  intro T hT0 X
  have hpl : e.platform.magicAccessors = ({} : Platform).magicAccessors := by rw [X.admits.platform]
  obtain ⟨mk, methM, cM, kP, vm₁, hnamed, hmethM, hcodeM, -, hlocalsM, -, hkP, -, hW₁, hstep₁⟩ := Steps.initColdArgsNest (e := e) X.here hx X.warmed hpl hown hy1 hC.2.2.2.1 (hT _ hl args) (hT _ hC.2.2.1 args) (hT _ hC.1.1 args) (f := g) rfl (fun sig h => hn.trans (hC.len h)) hstack (by rw [hb]; exact hdg)
  have X₁ := X.noted hW₁
  obtain ⟨T', L, X', hL, hE, hout⟩ := gw_back (W9 := 8) (len := 3) (maxL := maxL) hM hR.1 hR.2 (hC.k hT) (hC.i hT) (fun a U mk hn hb => by obtain ⟨q1, q2, q3, q4, q5, -⟩ := hC.2.2.2.2.2 a U mk hn hb; exact ⟨q1, q2, q3, q4, q5⟩) X₁ (g := { g with stack := rest }) (ig := .invokespecial index) rfl (hsize.trans hml.symm) (by rw [hb]; exact hdg) hW (X₁.named hnamed) hf.1 hf.2 (gPre.up hT0 X₁.warmed hK hT hZ hA hI)
  refine ⟨T', L, X', hL, by rw [← hT0]; exact hE, ?_⟩
  obtain ⟨o1, o2⟩ := o
  cases o1 with
  | inr v => exact fun tg h => hstep₁ _ fun acts => by rw [doInvoke_state]; exact hout.trans h
  | inl E =>
    obtain ⟨q, ce, h1, h2, h3, h4⟩ := hout
    refine ⟨q, ce, h1, h2, ?_, hstep₁ _ fun acts => by rw [doInvoke_state]; exact h4⟩
    rw [X₁.warmed.alike.findClass] at h3
    exact h3
end GC
