/-! ===== a refutation: the script, the start (the witness's, with this script), and what holds there ===== -/
def rf_cells : Array Value := ⟨rf_xs.map Value.int⟩
def rf_s : State := start1.aboutOf rf_cells
theorem rf_vm (A B : Array Value) : (start1.aboutOf A).vm = (start1.aboutOf B).vm := rfl
theorem rf_warm : start1.about.WarmedH rf_s.vm := by
  have h : rf_s.vm = start1.about.vm := rf_vm _ _
  rw [h]
  exact State.WarmedH.refl start1.about
theorem rf_nest {w : Cond} (h : gNest w = true) {s U : State} (hW : s.WarmedH U.vm) {a : Array Value} (hb : w.before a s = true) (a' : Array Value) : w.before a' U = true := by
  cases w
  case fieldLinkNest => exact va_Nw.use rfl (va_Nw.warmF hW hb)
  case methodLinkNest => exact va_Nw.use rfl (va_Nw.warmM hW hb)
  case castable => exact va_Nw.use rfl (va_Nw.warmC hW hb)
  case declares => exact va_Nw.use rfl (va_Nw.warmD hW hb)
  case arrayOver f =>
    cases f with
    | object C => exact va_AO.use (va_AO.moved hW.alike (va_AO.of hb))
    | _ => exact word_at hW (good_of_word h) hb
  all_goals exact word_at hW (good_of_word h) hb
theorem rf_others : ((Cond.code x code maxLocals ret :: tables_1).filter (fun c => !gNest c)).all (fun c => c.before start1.args0 rf_s) = true := by decide +kernel
theorem rf_words : ∀ c ∈ (Cond.code x code maxLocals ret :: tables_1), c.before start1.args0 rf_s = true := by
  intro c hc
  have hb := start1.words c hc
  cases hg : gNest c with
  | true => exact rf_nest hg rf_warm hb start1.args0
  | false => exact List.all_eq_true.mp rf_others c (List.mem_filter.mpr ⟨hc, by rw [hg]; rfl⟩)
theorem rf_pre : (Cond.and given_1 narrow_1).before start1.args0 rf_s = true := by decide +kernel
theorem rf_rest : rest_1_c.before start1.args0 rf_s = true := by decide +kernel
theorem rf_app : (headSpec (Cond.code x code maxLocals ret :: tables_1) room_1).applies x start1.e0.platform rf_s = true :=
  (Spec.applies_iff rfl).mpr ⟨rfl, rfl, rfl, by decide +kernel, by decide +kernel, by decide +kernel, launch0.hasRoom_least _ room_1 (by decide +kernel) (by decide +kernel) (by decide +kernel) (by decide +kernel) (by decide +kernel) (by decide +kernel), atoms_intro rf_words⟩
theorem rf_atStart : AtStart classFile x code maxLocals ret World_1 tables_1 room_1 Calls_1 rest_1 Pre_1 launch0 start1.p0 start1.e0 rf_s ⟨0, 0⟩ start1.args0 Lib.HandBits.below0 :=
  ⟨lists_1, trivial, launch0.admits_env _ _ _, launch0.least_env, fairChoices_fair.cas, fairChoices_fair.clock, rfl, by decide +kernel, by decide +kernel, rf_app, trivial, rf_rest, rf_pre⟩
theorem rf_size : rf_s.heap.size = 11 := rfl
theorem rf_mi {mi : Nat} (h : va_Mi "[Ljava/lang/Object;" mi rf_s) : mi = 10 := by
  obtain ⟨c, k, h1, h2, h3⟩ := h
  have h4 : ((rf_s.vm.findClass "[Ljava/lang/Object;").bind fun c => (rf_s.vm.classes[c]?).bind fun k => k.mirror) = some 10 := by decide +kernel
  rw [h1, Option.bind_some, h2, Option.bind_some, h3] at h4
  exact Option.some.inj h4
def rf_ref : Option Value → Nat
  | some (.ref a) => a
  | _ => 0
theorem rf_d {d : Nat} {A : Nat → Prop} (h : va_Z "java/util/ArrayList" "DEFAULTCAPACITY_EMPTY_ELEMENTDATA" "[Ljava/lang/Object;" (.ref d) A rf_s rf_s.heap) : d = 3 := by
  obtain ⟨cf, kf, fi, f, a, cell, h1, h2, h3, h4, h5, h6, h7, h8⟩ := h
  have h9 : rf_ref ((rf_s.fieldFound? "java/util/ArrayList" "DEFAULTCAPACITY_EMPTY_ELEMENTDATA" "[Ljava/lang/Object;").bind fun q => q.2.1.statics.bind fun a => (rf_s.heap[a]?).bind fun cell => cell.slots[q.2.2.2.slot]?) = 3 := by decide +kernel
  rw [h1, Option.bind_some, h4, Option.bind_some, h5, Option.bind_some, h7] at h9
  exact h9
theorem rf_ints : rf_s.IntsAt 0 rf_xs := by
  have h0 := flat_of_before _ rf_pre
  have h1 := flat_of_before _ rf_rest
  have harr : (Cond.arrayOf (.arg 0) .int).before start1.args0 rf_s = true := h0 _ (by decide +kernel)
  have hlen : (Cond.isInt (.length (.arg 0))).before start1.args0 rf_s = true := h1 _ (by decide +kernel)
  have hall : (Cond.all (.arg 0) (.isInt (.elem (.arg 0) (.index 0)))).before start1.args0 rf_s = true := h1 _ (by decide +kernel)
  obtain ⟨b, xs, hb, hx⟩ := State.ints_of_pre rfl harr hlen hall
  have hb0 : b = 0 := by
    have h2 : start1.args0[0]? = some (.ref 0) := rfl
    have h3 : start1.args0[0]? = some (.ref b) := hb
    rw [h2] at h3
    cases h3
    rfl
  subst hb0
  obtain ⟨cell, g1, g2, g3, g4⟩ := hx
  obtain ⟨k1, -, -, -⟩ := State.arrayAt?_spec g1
  have k2 : cell.slots.toList = rf_xs.map Value.int := by
    have k3 : rf_s.heap[0]? = some { cls := 34, slots := rf_cells, vm := .none } := rfl
    rw [k3] at k1
    cases k1
    rfl
  have hm : (xs.map Value.int).length = (rf_xs.map Value.int).length := by rw [← g2, k2]
  exact ⟨cell, g1, k2, g3, by rw [List.length_map, List.length_map] at hm; omega⟩
