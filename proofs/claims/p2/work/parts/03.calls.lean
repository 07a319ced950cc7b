/-! ===== ONE CONTRACT FORM: 'o' is how it ends (an exception's name, or the answer) and the world behind ===== -/
/-- what holds of statics and texts: outside what may change -/
def gZ (A : Nat → Prop) (U : State) (H : Heap) (g0 : Nat) : Prop :=
  va_Z "java/util/ArrayList" "DEFAULTCAPACITY_EMPTY_ELEMENTDATA" "[Ljava/lang/Object;" (.ref g0) A U H
def gA (w : gW) : Nat → Prop := fun q => (∃ e : gE, w.1 q = some e ∧ gRW e) ∨ w.2 ≤ q
def gPre (D : gD) (g0 : Nat) (w : gW) (U : State) : Prop := U.heap.size = w.2 ∧ (∀ (a : Nat) (e : gE), w.1 a = some e → gAt D a e U.heap) ∧ gK D U ∧ gT U ∧ gZ (gA w) U U.heap g0
/-- the world behind, and nothing else moved -/
def gEnd (D : gD) (w w' : gW) (st t : State) : Prop := t.heap.size = w'.2 ∧ (∀ (a : Nat) (e : gE), w'.1 a = some e → gAt D a e t.heap) ∧ (∀ (a : Nat) (e : gE), w'.1 a = some e → gRW e → gA w a) ∧ va_F (gA w) st t
def gQ (D : gD) (w : gW) (o : (String ⊕ Option Value) × gW) (mc ms : Nat) : Array Value → State → Outcome → State → Prop := fun _ st oc t =>
  gEnd D w o.2 st t ∧ st.WarmedH t.vm ∧ (∃ L : List Loc, st.sameButNew ({ t with vm := st.vm } : State) L mc ms ∧ ∀ z ∈ L, gA w z.base) ∧
    match o.1 with
    | .inl E => ∃ (q : Addr) (ce : Cell), oc = .threw q ∧ t.heap[q]? = some ce ∧ ce.vm = .none ∧ st.vm.findClass E = some ce.cls
    | .inr v => oc = .returned v
def gMet (l : Launch) (y : MethodName) (k : Cond) (rm : Room) (D : gD) (g0 : Nat) (av : List Value) (w : gW) (o : (String ⊕ Option Value) × gW) : Prop :=
  MetFree l y (headSpec [k] rm) (fun v U => v = av.toArray ∧ gPre D g0 w U) (fun _ _ _ _ _ => True) (gQ D w o rm.cells rm.slots)
theorem gPre.blind {D : gD} {g0 : Nat} {w : gW} {U : State} {g : JFrame} {mk : MethodId} {a : Array Value} (h : gPre D g0 w U) : gPre D g0 w (U.calling g mk a) := by
  obtain ⟨h1, h2, h3, h4, h5⟩ := h
  refine ⟨h1, h2, gK.moved (u := U) (U := U.calling g mk a) (Vm.Alike.refl U.vm) h3, gT.warm (s := U) (U := U.calling g mk a) (State.WarmedH.refl U) h4, va_Z.moved (u := U) (U := U.calling g mk a) (Vm.Alike.refl U.vm) h5⟩
