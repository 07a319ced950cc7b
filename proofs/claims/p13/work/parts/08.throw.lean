/-! ===== a throw of a new exception with a text: the heap grows by just one cell ===== -/
section GT
variable {p : Program} {l : Launch} {e : Env} {R : Room} {s : State} {m : MethodId} {args : Array Value} {below : List Frame} {meth : Method} {c : Code} {H : Heap} {locs : List Loc} {cells slots : Nat} {Q : State → Prop}
variable {cc : ByteArray} {pc nL : Nat} {ls : Array Slot} {rest : List Value} {D : gD} {A : Nat → Prop} {w : gW} {g0 : gG} {T : State}
/-- the same frame, its invocation told anew from the heap as it stands -/
theorem gw_anew0 (X : Stand p l e R s m args below meth c T locs cells slots) {R' : Room} (hf : R'.frames ≤ R.frames) (hl : R'.locals ≤ R.locals) (hc : cells + R'.cells ≤ R.cells) (hs : slots + R'.slots ≤ R.slots) : Stand p l e R' ((T.setVm s.vm).setFrames (.invoking m args :: below)) m args below meth c T [] 0 0 := by
  have htop : (T.setVm s.vm).topJava?.isSome := X.here.top
  have hF : ((T.setVm s.vm).setFrames (.invoking m args :: below)).frames = .invoking m args :: below := State.frames_setFrames _ (State.cur_lt_of_top htop)
  obtain ⟨gt, hgt⟩ := Option.isSome_iff_exists.mp htop
  obtain ⟨r, hr⟩ := State.topJava?_eq_some.mp hgt
  have hlim : e.platform.stackLimits (T.setVm s.vm).me = e.platform.stackLimits s.me := X.limits
  have hbyt : (T.setVm s.vm).me.stackBytes = s.me.stackBytes := X.bytes
  have hloc : ((T.setVm s.vm).setFrames (.invoking m args :: below)).localsInUse = s.localsInUse := by
    rw [State.localsInUse_invoking hF (meth := meth) (c := c) X.method X.code, State.localsInUse_invoking X.frames X.method X.code]
  have hdrop : T.heap.toList.drop T.heap.size = [] := List.drop_eq_nil_of_le (Nat.le_of_eq Array.length_toList)
  have hroom : ((T.setVm s.vm).setFrames (.invoking m args :: below)).hasRoom e.platform R' = true := by
    have h := X.room
    have q1 := X.heapSize
    have q2 := X.used
    simp only [State.hasRoom, Bool.and_eq_true, decide_eq_true_eq] at h ⊢
    obtain ⟨⟨⟨⟨h1, h2, h3, h4, h5, h6⟩, h7⟩, h8⟩, h9⟩ := h
    rw [X.frames, List.length_cons] at h2 h3
    simp only [hF, hloc, List.length_cons, State.stackLimits_setFrames, State.stackBytes_setFrames, hlim, hbyt]
    refine ⟨⟨⟨⟨by omega, by omega, by omega, by omega, by omega, h6⟩, ?_⟩, ?_⟩, X.book⟩
    · show T.heap.size + R'.cells ≤ e.platform.maxCells
      omega
    · show T.slotsUsed + R'.slots ≤ e.platform.maxSlots
      omega
  have hsame : ((T.setVm s.vm).setFrames (.invoking m args :: below)).sameButNew (T.setVm s.vm) [] 0 0 := by
    refine ⟨?_, Nat.le_refl _, Nat.le_refl _, ?_, ?_, fun a z hz => ⟨z, hz, rfl, rfl, fun _ _ => rfl⟩⟩
    · obtain ⟨t, ht, -⟩ := State.frames_cons hr
      show T.setVm s.vm = { ((T.setVm s.vm).setFrames (.invoking m args :: below)).setFrames (T.setVm s.vm).frames with heap := T.heap, slotsUsed := T.slotsUsed }
      rw [State.setFrames_setFrames, State.setFrames_self ht]
      rfl
    · show T.slotsUsed = T.slotsUsed + ((T.heap.toList.drop T.heap.size).map (·.slots.size)).sum
      rw [hdrop]
      rfl
    · show ((T.heap.toList.drop T.heap.size).map (·.slots.size)).sum ≤ 0
      rw [hdrop]
      exact Nat.le_refl _
  exact ⟨X.admits, X.cas, X.clock, hF, hroom, X.hears, X.method, X.code, X.here, X.tail, X.warmed, by rw [State.stackLimits_setFrames]; rfl, by rw [State.stackBytes_setFrames]; rfl, hsame⟩
/-- what a body owes where it has thrown -/
abbrev gTh (s : State) (below : List Frame) (rm : Room) (Q : State → Prop) (D : gD) (A : Nat → Prop) {α : Type} (r : (String ⊕ α) × gW) : Prop :=
  ∀ (E : String) (w1 : gW), r = (.inl E, w1) → ∀ (t : State) (q : Addr) (ce : Cell) (L : List Loc), t.status = .running → Ended t below (.threw q) → s.WarmedH t.vm → s.sameButNew ({ t with vm := s.vm } : State) L rm.cells rm.slots → gI D s A w1 t.heap L → t.heap[q]? = some ce → ce.vm = .none → s.vm.findClass E = some ce.cls → Q t
theorem gw_thr {α : Type} {rm : Room} {w0 : gW} {r : (String ⊕ α) × gW} {o : (String ⊕ Option Value) × gW} (ho : ∀ (E : String) (w1 : gW), r = (.inl E, w1) → o = (.inl E, w1)) : gTh s below rm (gMQ below D w0 o rm.cells rm.slots args s) D (gA w0) r := by
  intro E w1 h t q ce L h1 h2 h3 h4 h5 h6 h7 h8
  rw [ho E w1 h]
  obtain ⟨g1, g2, g3, g4⟩ := h5
  exact ⟨.threw q, h1, h2, ⟨g1, g2, g4, ⟨g3.1, g3.2.1⟩⟩, h3, ⟨L, h4, g3.2.2⟩, q, ce, rfl, h6, h7, h8⟩
def gno (z : Cond) : Bool := decide (z ≠ .isRef (.static Bundle.tN "UNASSIGNED_STACK" Bundle.steD)) && decide (z ≠ .isRef (.static Bundle.tN "SUPPRESSED_SENTINEL" Bundle.listD)) && decide (z ≠ .laysStatic Bundle.tN "UNASSIGNED_STACK" Bundle.steD) && decide (z ≠ .laysStatic Bundle.tN "SUPPRESSED_SENTINEL" Bundle.listD)
theorem gw_throwS {β : Type} {r : (String ⊕ β) × gW} (hx : p.tables.exec = Jvm.exec) (hb : c.code = cc) (hst : l.stackTraces = false) {own cls text : String} {names : List String} {ik is ic : Nat} (hown : s.vm.findClass own = some m.cls) (hT : gT s) (hZ : gZ A s s.heap g0) (hI : gI D s A w H locs) (hsz : ls.size = nL) (hml : c.maxLocals = nL) (hnt : ∀ x ∈ c.exceptionTable.toList, False) (hlocks : meth.locks = false)
    (hcls : Bundle.fit cls = true) (hnames : ∀ n ∈ names, Bundle.fit n = true) (hk : Cond.classLink own ik cls ∈ gAll) (hini : Cond.initialized cls ∈ gAll) (htx : (own, is, text) ∈ gTx) (hat : ∀ z ∈ Bundle.ownAtoms own ic cls names, gno z = true → z ∈ gAll)
    (d0 : decode cc pc = .ok (.new ik, 3)) (d3 : decode cc (pc + 3) = .ok (.dup, 1)) (d4 : decode cc (pc + 4) = .ok (.ldc is, 2)) (d6 : decode cc (pc + 6) = .ok (.invokespecial ic, 3)) (d9 : decode cc (pc + 9) = .ok (.athrow, 1))
    (hRf : names.length + 3 < R.frames) (hRl : (rest.map fun v => v.category).sum + (13 * (names.length + 1) + 43) ≤ R.locals) (hRc : cells + 1 ≤ R.cells) (hRs : slots + 6 ≤ R.slots) (hthr : gTh s below R Q D A r) (h : (gthrow cls w : gX β) = some r) :
    W p l e R s m args below meth c H locs cells slots Q (F0 m pc ls rest) := by
  intro T hT0 X
  have htr : e.platform.stackTraces = false := (show e.platform.stackTraces = l.stackTraces by rw [X.admits.platform]).trans hst
  have Y := gw_anew0 X (R' := { frames := R.frames, locals := R.locals, cells := 1, slots := 6 }) (Nat.le_refl _) (Nat.le_refl _) hRc hRs
  obtain ⟨s', hs'⟩ : ∃ z, z = (T.setVm s.vm).setFrames (.invoking m args :: below) := ⟨_, rfl⟩
  rw [← hs'] at Y
  have hvm : s'.vm = s.vm := by rw [hs']; rfl
  have hhp : s'.heap = H := by rw [hs']; exact hT0
  have hW0 : s.WarmedH s'.vm := by rw [hvm]; exact State.WarmedH.refl s
  have hT' : gT s' := gT.warm hW0 hT
  have hZ' : gZ A s' s'.heap g0 := by rw [hhp]; exact gZ.warm hW0 (gZ.kept hZ hI.2.2.1.2.1)
  have hatoms : ∀ z ∈ Bundle.ownAtoms own ic cls names, z.before args s' = true := by
    intro z hz
    by_cases e1 : z = .isRef (.static Bundle.tN "UNASSIGNED_STACK" Bundle.steD)
    · rw [e1]; exact hZ'.2.2.1.isRef
    · by_cases e2 : z = .isRef (.static Bundle.tN "SUPPRESSED_SENTINEL" Bundle.listD)
      · rw [e2]; exact hZ'.2.2.2.1.isRef
      · by_cases e3 : z = .laysStatic Bundle.tN "UNASSIGNED_STACK" Bundle.steD
        · rw [e3]; exact hZ'.2.2.1.lays
        · by_cases e4 : z = .laysStatic Bundle.tN "SUPPRESSED_SENTINEL" Bundle.listD
          · rw [e4]; exact hZ'.2.2.2.1.lays
          · exact hT' z (hat z hz (by unfold gno; rw [decide_eq_true e1, decide_eq_true e2, decide_eq_true e3, decide_eq_true e4]; rfl)) args
  have hown' : s'.vm.findClass own = some m.cls := by rw [hvm]; exact hown
  obtain ⟨sa, hsa⟩ := hZ'.2.2.2.2.1 _ htx
  obtain ⟨vm₁, cX, kX, hfX, hkX, -, -, X₁, st1⟩ := Y.newCold hx (own := own) (C := cls) (index := ik) (n := 6) hown' (hT' _ hk args) (hatoms _ (by simp [Bundle.ownAtoms])) (hT' _ hini args) (g := F0 m pc ls rest) rfl (by rw [hb]; exact d0) (Nat.le_refl _) (Nat.le_refl _)
  generalize hT1 : (T.setVm vm₁).pushCell { cls := cX, slots := kX.instanceTypes.map defaultValue, vm := .none } = T1 at X₁ st1
  have hcat : (Value.ref T.heap.size).category = 1 := rfl
  have hcellA : T1.heap[T.heap.size]? = some (freshCell cX kX) := by rw [← hT1]; exact State.heap_pushCell_size _ _
  have d3' : decode c.code (pc + 3) = .ok (.dup, 1) := by rw [hb]; exact d3
  have d4' : decode c.code (pc + 4) = .ok (.ldc is, 2) := by rw [hb]; exact d4
  obtain ⟨U, hsteps, hrun, hend, hW, hsame, ce, hce, hO⟩ := X₁.ctorThrowS hx htr (own := own) (cls := cls) (names := names) (ic := ic) hown' hcls hnames hatoms (fun x hx => nomatch hx) hfX hkX hcellA (by rw [hhp, hT0]; exact Nat.le_refl _) (msg := .ref sa) rfl
    (g := { method := m, pc := pc + 6, locals := ls, stack := .ref sa :: .ref T.heap.size :: .ref T.heap.size :: rest, locked := none }) rfl (hsz.trans hml.symm) rfl rfl (rest := rest) rfl
    (by rw [hb]; exact d6) (by rw [hb]; exact d9) (fun x hx => (hnt x hx).elim) hRf (by simp only [List.map_cons, List.sum_cons, hcat]; omega) hlocks
  have hWs : s.WarmedH U.vm := State.WarmedH.trans hW0 hW
  have hsize1 : U.heap.size = H.size + 1 := by
    have q1 : U.heap.size ≤ s'.heap.size + (0 + 1) := hsame.2.2.1
    have q2 : T.heap.size < U.heap.size := (Array.getElem?_eq_some_iff.mp hce).1
    rw [hhp] at q1
    rw [hT0] at q2
    omega
  have hold : ∀ q : Nat, q < H.size → U.heap[q]? = H[q]? := by
    intro q hq
    have hq' : q < s'.heap.size := by rw [hhp]; exact hq
    obtain ⟨c9, e1, e2, e3, e4⟩ := hsame.2.2.2.2.2 q _ (Array.getElem?_eq_getElem hq')
    have hslots : c9.slots = (s'.heap[q]).slots := Array.ext_getElem? fun i => e4 i (fun hm => nomatch hm)
    have h9 : c9 = s'.heap[q] := by rw [hslots] at e2; exact e2
    have e5 : U.heap[q]? = some c9 := e1
    rw [e5, h9, ← Array.getElem?_eq_getElem hq', hhp]
  have hcl : s.vm.findClass cls = some ce.cls := by
    have h9 := hO.cls
    rw [hvm] at h9
    exact h9
  have hall : s.sameButNew ({ U with vm := s.vm } : State) locs R.cells R.slots := by
    subst hs'
    obtain ⟨e1, e2⟩ := hsame
    rw [State.setFrames_setFrames] at e1
    have h2 : (T.setVm s.vm).sameButNew ({ U with vm := s.vm } : State) [] (0 + 1) (0 + 6) := ⟨e1, e2⟩
    have h3 := X.same.trans h2
    rw [List.append_nil] at h3
    exact h3.mono hRc hRs
  obtain ⟨g1, g2, g3, g4⟩ := hI
  have hI' : gI D s A (w.1, w.2 + 1) U.heap locs := ⟨by rw [hsize1, g1], fun a x hx => (g2 a x hx).kept (hold a (g2 a x hx).lt), ⟨by rw [hsize1]; exact Nat.le_trans g3.1 (Nat.le_succ _), fun q q1 q2 => (hold q (Nat.lt_of_lt_of_le q1 g3.1)).trans (g3.2.1 q q1 q2), g3.2.2⟩, g4⟩
  refine ⟨U, ?_, hthr cls (w.1, w.2 + 1) (Option.some.inj h).symm U T.heap.size ce locs hrun hend hWs hall hI' hce hO.vm hcl⟩
  refine st1 _ ?_
  show Steps p.tables e below (T1.setTop { method := m, pc := pc + 3, locals := ls, stack := .ref T.heap.size :: rest, locked := none }) _
  jvm_step X₁.here [X₁.here.top, hx, d3', Value.category]
  exact X₁.ldcString hx (own := own) (text := text) (index := is) (a := sa) hown' hsa.1 hsa.2
    (g := { method := m, pc := pc + 4, locals := ls, stack := .ref T.heap.size :: .ref T.heap.size :: rest, locked := none }) rfl d4' _ hsteps
end GT
