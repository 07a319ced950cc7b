/-! ===== a method's body: how it ends ===== -/
def gMQ (below : List Frame) (D : gD) (w : gW) (o : (String ⊕ Option Value) × gW) (mc ms : Nat) (a : Array Value) (s : State) : State → Prop := fun t => ∃ oc, t.status = .running ∧ Ended t below oc ∧ gQ D w o mc ms a s oc t
/-- the frame g, with q thrown over it -/
def gXW (p : Program) (l : Launch) (e : Env) (R : Room) (s : State) (m : MethodId) (args : Array Value) (below : List Frame) (meth : Method) (c : Code) (H : Heap) (locs : List Loc) (cells slots : Nat) (Q : State → Prop) (g : JFrame) (q : Addr) : Prop :=
  ∀ T : State, T.heap = H → Stand p l e R s m args below meth c T locs cells slots → ∃ t, Steps p.tables e below ((T.setTop g).pushFrame (.throwing q)) t ∧ Q t
def goI (x : (String ⊕ Int32) × gW) : (String ⊕ Option Value) × gW := (match x.1 with | .inl E => .inl E | .inr v => .inr (some (.int v)), x.2)
def goJ (x : (String ⊕ Int64) × gW) : (String ⊕ Option Value) × gW := (match x.1 with | .inl E => .inl E | .inr v => .inr (some (.long v)), x.2)
def goA (x : (String ⊕ Nat) × gW) : (String ⊕ Option Value) × gW := (match x.1 with | .inl E => .inl E | .inr v => .inr (some (.ref v)), x.2)
def goV (x : (String ⊕ Unit) × gW) : (String ⊕ Option Value) × gW := (match x.1 with | .inl E => .inl E | .inr _ => .inr none, x.2)
/-- how an exception leaves -/
abbrev gEx (p : Program) (l : Launch) (e : Env) (R : Room) (s : State) (m : MethodId) (args : Array Value) (below : List Frame) (meth : Method) (c : Code) (Q : State → Prop) (D : gD) (A : Nat → Prop) {α : Type} (r : (String ⊕ α) × gW) : Prop :=
  ∀ (E : String) (w1 : gW), r = (.inl E, w1) → ∀ (pc : Nat) (ls : Array Slot) (rest : List Value) (H : Heap) (locs : List Loc) (q : Addr) (ce : Cell), gI D s A w1 H locs → H[q]? = some ce → ce.vm = .none → s.vm.findClass E = some ce.cls → gXW p l e R s m args below meth c H locs R.cells R.slots Q (F0 m pc ls rest) q
section GM
variable {p : Program} {l : Launch} {e : Env} {R : Room} {s : State} {m : MethodId} {args : Array Value} {below : List Frame} {meth : Method} {c : Code} {H : Heap} {locs : List Loc} {cells slots : Nat} {Q : State → Prop}
variable {pc : Nat} {ls : Array Slot} {rest st0 : List Value} {D : gD} {A : Nat → Prop} {w : gW} {rm : Room}
theorem gI.after {w' : gW} {H' : Heap} {L : List Loc} (hA : ∀ q : Nat, s.heap.size ≤ q → A q) (hI : gI D s A w H locs) (hE : gEndH D w w' H H') (hL : ∀ z ∈ L, gA w z.base) : gI D s A w' H' (locs ++ L) := by
  obtain ⟨h1, h2, h3, h4⟩ := hI
  obtain ⟨g1, g2, g3, g4, g5⟩ := hE
  have hsub : ∀ q : Nat, gA w q → A q := fun q hq => hq.elim (fun ⟨e, q1, q2⟩ => h4 q e q1 q2) (fun z => hA q (Nat.le_trans h3.1 (by rw [h1]; exact z)))
  refine ⟨g1, g2, ⟨Nat.le_trans h3.1 g4, fun q q1 q2 => ?_, fun z hz => ?_⟩, fun a e he hr => hsub _ (g3 a e he hr)⟩
  · rw [g5 q (Nat.lt_of_lt_of_le q1 h3.1) (fun z => q2 (hsub q z))]
    exact h3.2.1 q q1 q2
  · rcases List.mem_append.mp hz with h | h
    · exact h3.2.2 z h
    · exact hsub _ (hL z h)
theorem gw_callI {β : Type} {X : gX Int32} {K : Int32 → gW → gX β} {r : (String ⊕ β) × gW} {ov : (String ⊕ Int32) × gW} (e1 : X = some ov) (h : gbind X K = some r) (hr : gRun p l e R s m args below meth c H locs cells slots (F0 m pc ls st0) rest rm D w (goI ov)) (hI : gI D s A w H locs) (hA : ∀ q : Nat, s.heap.size ≤ q → A q) (hexc : gEx p l e R s m args below meth c Q D A r) (hc : cells + rm.cells ≤ R.cells) (hs : slots + rm.slots ≤ R.slots)
    (kk : ∀ (v : Int32) (w1 : gW) (H1 : Heap) (locs1 : List Loc), K v w1 = some r → gI D s A w1 H1 locs1 → W p l e R s m args below meth c H1 locs1 (cells + rm.cells) (slots + rm.slots) Q (F0 m (pc + 3) ls (.int v :: rest))) : W p l e R s m args below meth c H locs cells slots Q (F0 m pc ls st0) := by
  subst e1
  obtain ⟨ov, w1⟩ := ov
  intro T hT X
  obtain ⟨T', L, X', hL, hE, hout⟩ := hr T hT X
  cases ov with
  | inr v =>
    obtain ⟨t2, a1, b1⟩ := kk v w1 T'.heap (locs ++ L) h (hI.after hA hE hL) T' rfl X'
    exact ⟨t2, hout t2 a1, b1⟩
  | inl E =>
    obtain ⟨q, ce, h1, h2, h3, h4⟩ := hout
    obtain ⟨t2, a1, b1⟩ := hexc E w1 (Option.some.inj h).symm pc ls rest T'.heap (locs ++ L) q ce (hI.after hA hE hL) h1 h2 h3 T' rfl (stand_widen X' hc hs)
    exact ⟨t2, h4.trans a1, b1⟩
theorem gw_callJ {β : Type} {X : gX Int64} {K : Int64 → gW → gX β} {r : (String ⊕ β) × gW} {ov : (String ⊕ Int64) × gW} (e1 : X = some ov) (h : gbind X K = some r) (hr : gRun p l e R s m args below meth c H locs cells slots (F0 m pc ls st0) rest rm D w (goJ ov)) (hI : gI D s A w H locs) (hA : ∀ q : Nat, s.heap.size ≤ q → A q) (hexc : gEx p l e R s m args below meth c Q D A r) (hc : cells + rm.cells ≤ R.cells) (hs : slots + rm.slots ≤ R.slots)
    (kk : ∀ (v : Int64) (w1 : gW) (H1 : Heap) (locs1 : List Loc), K v w1 = some r → gI D s A w1 H1 locs1 → W p l e R s m args below meth c H1 locs1 (cells + rm.cells) (slots + rm.slots) Q (F0 m (pc + 3) ls (.long v :: rest))) : W p l e R s m args below meth c H locs cells slots Q (F0 m pc ls st0) := by
  subst e1
  obtain ⟨ov, w1⟩ := ov
  intro T hT X
  obtain ⟨T', L, X', hL, hE, hout⟩ := hr T hT X
  cases ov with
  | inr v =>
    obtain ⟨t2, a1, b1⟩ := kk v w1 T'.heap (locs ++ L) h (hI.after hA hE hL) T' rfl X'
    exact ⟨t2, hout t2 a1, b1⟩
  | inl E =>
    obtain ⟨q, ce, h1, h2, h3, h4⟩ := hout
    obtain ⟨t2, a1, b1⟩ := hexc E w1 (Option.some.inj h).symm pc ls rest T'.heap (locs ++ L) q ce (hI.after hA hE hL) h1 h2 h3 T' rfl (stand_widen X' hc hs)
    exact ⟨t2, h4.trans a1, b1⟩
theorem gw_callA {β : Type} {X : gX Nat} {K : Nat → gW → gX β} {r : (String ⊕ β) × gW} {ov : (String ⊕ Nat) × gW} (e1 : X = some ov) (h : gbind X K = some r) (hr : gRun p l e R s m args below meth c H locs cells slots (F0 m pc ls st0) rest rm D w (goA ov)) (hI : gI D s A w H locs) (hA : ∀ q : Nat, s.heap.size ≤ q → A q) (hexc : gEx p l e R s m args below meth c Q D A r) (hc : cells + rm.cells ≤ R.cells) (hs : slots + rm.slots ≤ R.slots)
    (kk : ∀ (v : Nat) (w1 : gW) (H1 : Heap) (locs1 : List Loc), K v w1 = some r → gI D s A w1 H1 locs1 → W p l e R s m args below meth c H1 locs1 (cells + rm.cells) (slots + rm.slots) Q (F0 m (pc + 3) ls (.ref v :: rest))) : W p l e R s m args below meth c H locs cells slots Q (F0 m pc ls st0) := by
  subst e1
  obtain ⟨ov, w1⟩ := ov
  intro T hT X
  obtain ⟨T', L, X', hL, hE, hout⟩ := hr T hT X
  cases ov with
  | inr v =>
    obtain ⟨t2, a1, b1⟩ := kk v w1 T'.heap (locs ++ L) h (hI.after hA hE hL) T' rfl X'
    exact ⟨t2, hout t2 a1, b1⟩
  | inl E =>
    obtain ⟨q, ce, h1, h2, h3, h4⟩ := hout
    obtain ⟨t2, a1, b1⟩ := hexc E w1 (Option.some.inj h).symm pc ls rest T'.heap (locs ++ L) q ce (hI.after hA hE hL) h1 h2 h3 T' rfl (stand_widen X' hc hs)
    exact ⟨t2, h4.trans a1, b1⟩
theorem gw_callV {β : Type} {X : gX Unit} {K : Unit → gW → gX β} {r : (String ⊕ β) × gW} {ov : (String ⊕ Unit) × gW} (e1 : X = some ov) (h : gbind X K = some r) (hr : gRun p l e R s m args below meth c H locs cells slots (F0 m pc ls st0) rest rm D w (goV ov)) (hI : gI D s A w H locs) (hA : ∀ q : Nat, s.heap.size ≤ q → A q) (hexc : gEx p l e R s m args below meth c Q D A r) (hc : cells + rm.cells ≤ R.cells) (hs : slots + rm.slots ≤ R.slots)
    (kk : ∀ (v : Unit) (w1 : gW) (H1 : Heap) (locs1 : List Loc), K v w1 = some r → gI D s A w1 H1 locs1 → W p l e R s m args below meth c H1 locs1 (cells + rm.cells) (slots + rm.slots) Q (F0 m (pc + 3) ls rest)) : W p l e R s m args below meth c H locs cells slots Q (F0 m pc ls st0) := by
  subst e1
  obtain ⟨ov, w1⟩ := ov
  intro T hT X
  obtain ⟨T', L, X', hL, hE, hout⟩ := hr T hT X
  cases ov with
  | inr v =>
    obtain ⟨t2, a1, b1⟩ := kk v w1 T'.heap (locs ++ L) h (hI.after hA hE hL) T' rfl X'
    exact ⟨t2, hout t2 a1, b1⟩
  | inl E =>
    obtain ⟨q, ce, h1, h2, h3, h4⟩ := hout
    obtain ⟨t2, a1, b1⟩ := hexc E w1 (Option.some.inj h).symm pc ls rest T'.heap (locs ++ L) q ce (hI.after hA hE hL) h1 h2 h3 T' rfl (stand_widen X' hc hs)
    exact ⟨t2, h4.trans a1, b1⟩
/-- the kit's end of a walk, as this contract's -/
theorem gw_end {y : MethodName} {w0 : gW} {v : Option Value} {w1 : gW} {mc ms : Nat} {g : JFrame} (hI : gI D s (gA w0) w1 H locs)
    (k : W p l e R s m args below meth c H locs mc ms (MQ below (fun _ _ oc t => oc = .returned v ∧ t.heap = H ∧ s.WarmedH t.vm) args s mc ms (gA w0)) g) : W p l e R s m args below meth c H locs mc ms (gMQ below D w0 (.inr v, w1) mc ms args s) g := by
  intro T hT X
  obtain ⟨t, a1, oc, b1, b2, ⟨rfl, hh, hW⟩, L, ⟨-, -, hF⟩, hL⟩ := k T hT X
  obtain ⟨h1, h2, h3, h4⟩ := hI
  refine ⟨t, a1, _, b1, b2, ⟨by rw [hh]; exact h1, fun a e he => by rw [hh]; exact h2 a e he, h4, ⟨by rw [hh]; exact h3.1, fun q q1 q2 => by rw [hh]; exact h3.2.1 q q1 q2⟩⟩, hW, ⟨L, hF, hL⟩, rfl⟩
variable {w0 : gW} {cc : ByteArray}
theorem gw_retI (hx : p.tables.exec = Jvm.exec) (hb : c.code = cc) (hr : meth.sig.returnType = some .int) (hlocks : meth.locks = false) (r : (String ⊕ Int32) × gW) : ∀ (v : Int32) (w1 : gW), r = (.inr v, w1) → ∀ (pc : Nat) (ls : Array Slot) (H : Heap) (locs : List Loc), decode cc pc = .ok (.ireturn, 1) → gI D s (gA w0) w1 H locs → W p l e R s m args below meth c H locs R.cells R.slots (gMQ below D w0 (goI r) R.cells R.slots args s) (F0 m pc ls [.int v]) := by
  intro v w1 h pc ls H locs hdg hI
  subst h
  exact gw_end (y := ⟨"", "", ""⟩) hI (W.iret hx hb hr (fun t ht hW => ⟨rfl, ht, hW⟩) hI.2.2.1.2.2 hdg hlocks)
theorem gw_retZ (hx : p.tables.exec = Jvm.exec) (hb : c.code = cc) (hr : meth.sig.returnType = some .boolean) (hlocks : meth.locks = false) (r : (String ⊕ Int32) × gW) : ∀ {v : Int32}, (v = 0 ∨ v = 1) → ∀ (v' : Int32) (w1 : gW), r = (.inr v, w1) → ∀ (pc : Nat) (ls : Array Slot) (H : Heap) (locs : List Loc), decode cc pc = .ok (.ireturn, 1) → gI D s (gA w0) w1 H locs → W p l e R s m args below meth c H locs R.cells R.slots (gMQ below D w0 (goI r) R.cells R.slots args s) (F0 m pc ls [.int v]) := by
  intro v hv _ w1 h pc ls H locs hdg hI
  subst h
  exact gw_end (y := ⟨"", "", ""⟩) hI (W.zret hx hb hr (by rcases hv with rfl | rfl <;> rfl) (fun t ht hW => ⟨rfl, ht, hW⟩) hI.2.2.1.2.2 hdg hlocks)
theorem gw_retJ (hx : p.tables.exec = Jvm.exec) (hb : c.code = cc) (hr : meth.sig.returnType = some .long) (hlocks : meth.locks = false) (r : (String ⊕ Int64) × gW) : ∀ (v : Int64) (w1 : gW), r = (.inr v, w1) → ∀ (pc : Nat) (ls : Array Slot) (H : Heap) (locs : List Loc), decode cc pc = .ok (.lreturn, 1) → gI D s (gA w0) w1 H locs → W p l e R s m args below meth c H locs R.cells R.slots (gMQ below D w0 (goJ r) R.cells R.slots args s) (F0 m pc ls [.long v]) := by
  intro v w1 h pc ls H locs hdg hI
  subst h
  exact gw_end (y := ⟨"", "", ""⟩) hI (W.lret hx hb hr (fun t ht hW => ⟨rfl, ht, hW⟩) hI.2.2.1.2.2 hdg hlocks)
theorem gw_retV (hx : p.tables.exec = Jvm.exec) (hb : c.code = cc) (hr : meth.sig.returnType = none) (hlocks : meth.locks = false) (r : (String ⊕ Unit) × gW) : ∀ (v : Unit) (w1 : gW), r = (.inr v, w1) → ∀ (pc : Nat) (ls : Array Slot) (H : Heap) (locs : List Loc), decode cc pc = .ok (.return_, 1) → gI D s (gA w0) w1 H locs → W p l e R s m args below meth c H locs R.cells R.slots (gMQ below D w0 (goV r) R.cells R.slots args s) (F0 m pc ls []) := by
  intro v w1 h pc ls H locs hdg hI
  subst h
  exact gw_end (y := ⟨"", "", ""⟩) hI (W.vret hx hb hr (fun t ht hW => ⟨rfl, ht, hW⟩) hI.2.2.1.2.2 hdg hlocks)
theorem gw_retA {rt : FieldType} (hx : p.tables.exec = Jvm.exec) (hb : c.code = cc) (hr : meth.sig.returnType = some rt) (hrt : (∃ n, rt = .object n) ∨ ∃ t, rt = .array t) (hlocks : meth.locks = false) (r : (String ⊕ Nat) × gW) : ∀ (v : Nat) (w1 : gW), r = (.inr v, w1) → ∀ (pc : Nat) (ls : Array Slot) (H : Heap) (locs : List Loc), decode cc pc = .ok (.areturn, 1) → gI D s (gA w0) w1 H locs → W p l e R s m args below meth c H locs R.cells R.slots (gMQ below D w0 (goA r) R.cells R.slots args s) (F0 m pc ls [.ref v]) := by
  intro v w1 h pc ls H locs hdg hI
  subst h
  exact gw_end (y := ⟨"", "", ""⟩) hI (W.aret hx hb hr hrt (Or.inr ⟨v, rfl⟩) (fun t ht hW => ⟨rfl, ht, hW⟩) hI.2.2.1.2.2 hdg hlocks)
/-- an exception leaves a method without handlers -/
theorem gw_exc {α : Type} {r : (String ⊕ α) × gW} {o : (String ⊕ Option Value) × gW} (ho : ∀ (E : String) (w1 : gW), r = (.inl E, w1) → o = (.inl E, w1)) (htab : ∀ x ∈ c.exceptionTable.toList, False) (hlocks : meth.locks = false) : gEx p l e R s m args below meth c (gMQ below D w0 o R.cells R.slots args s) D (gA w0) r := by
  intro E w1 h pc ls rest H locs q ce hI h1 h2 h3 T hT X
  obtain ⟨st1, hrun, hend, hW, hsm⟩ := X.leaveThrown q (g := F0 m pc ls rest) rfl rfl rfl (fun x hx => (htab x hx).elim) hlocks
  rw [ho E w1 h]
  obtain ⟨g1, g2, g3, g4⟩ := hI
  have hh : (T.setFrames (.throwing q :: below)).heap = H := hT
  refine ⟨_, st1, .threw q, hrun, hend, ⟨by rw [hh]; exact g1, fun a e he => by rw [hh]; exact g2 a e he, g4, ⟨by rw [hh]; exact g3.1, fun z q1 q2 => by rw [hh]; exact g3.2.1 z q1 q2⟩⟩, hW, ⟨locs, hsm, g3.2.2⟩, q, ce, rfl, by rw [hh]; exact h1, h2, h3⟩
end GM
/-- a contract out of a walk of the body -/
theorem gw_of {l : Launch} {y : MethodName} {cc : ByteArray} {maxL : Nat} {ret : Option FieldType} {rm : Room} {D : gD} {g0 : gG} {av : List Value} {w : gW} {o : (String ⊕ Option Value) × gW} (hy : plainFor y = true) (hlen : (lg_sl av).length ≤ maxL)
    (body : ∀ (p : Program) (e : Env) (s : State) (m : MethodId) (below : List Frame) (meth : Method) (c : Code) (ls : Array Slot), p.tables.exec = Jvm.exec → c.code = cc → meth.sig.returnType = ret → c.maxLocals = maxL → s.vm.findClass y.cls = some m.cls → meth.locks = false → meth.name = y.name → (∀ x ∈ c.exceptionTable.toList, False) → gT s → gK D s → gZ (gA w) s s.heap g0 → (∀ q : Nat, s.heap.size ≤ q → gA w q) → gI D s (gA w) w s.heap [] → lv_has ls maxL (lv_args 0 av) →
      W p l e rm s m av.toArray below meth c s.heap [] 0 0 (gMQ below D w o rm.cells rm.slots av.toArray s) (F0 m 0 ls [])) : gMet l y (.code y cc maxL ret) rm D g0 av w o := by
  refine MetFree.of_bodySF (code := cc) (maxLocals := maxL) (ret := ret) hy ?_ ?_
  · intro args s m h hn
    obtain ⟨meth, c, h1, h2, h3, h4, h5, h6, -, -⟩ := Cond.code_spec hn (atoms_spec (ws := [.code y cc maxL ret]) h _ List.mem_cons_self)
    exact ⟨meth, c, h1, h2, h3, h4, h5, h6⟩
  · intro p e s m args below meth c s₁ B hml hP _
    obtain ⟨rfl, q1, q2, q3, q4, q5⟩ := hP
    have hh0 : s₁.heap = s.heap := by rw [B.state]; rfl
    have htab : ∀ x ∈ c.exceptionTable.toList, False := by
      obtain ⟨meth9, c9, h1, h2, -, -, -, -, h7, -⟩ := Cond.code_spec B.named (atoms_spec (ws := [.code y cc maxL ret]) B.pre _ List.mem_cons_self)
      cases Option.some.inj (h1.symm.trans B.method)
      cases Option.some.inj (h2.symm.trans (Stand.of_body B).code)
      intro x hx
      rw [Array.isEmpty_iff.mp h7] at hx
      cases hx
    have hl := lv_entry av (n := maxL) hlen
    have hW := body p e s m below meth c _ B.exec B.bytes B.returns hml (findClass_of_methodNamed B.named) B.notSynchronized (name_of_methodNamed B.named B.method).1 htab q4 q3 q5 (fun q hq => Or.inr (by rw [← q1]; exact hq)) ⟨q1, q2, va_S.rf, fun a e he hr => Or.inl ⟨e, he, hr⟩⟩ hl
    rw [← lg_entry_eq] at hW
    obtain ⟨t, a1, oc, b1, b2, b3⟩ := hW s₁ hh0 (Stand.of_body B)
    exact ⟨t, oc, a1, b1, b2, b3⟩
