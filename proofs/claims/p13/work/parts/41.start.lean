/-! THE CLAIM OUT OF ONE WALK OF THE LAW'S BODY. Your part is whole_start (and what it stands on); all else here is the same for every law, but numbers. -/
def R_law : String := "BodySolidsLaw"
def lw_P (b : Addr) (xs : List Int32) (args : Array Value) (s : State) : Prop := args = #[.ref b] ∧ s.IntsAt b xs ∧ xs.length ≤ 7169 ∧ (Jvm.Cond.and given_1 narrow_1).before args s = true
def lw_Q (_ : Array Value) (s : State) (o : Outcome) (t : State) : Prop := o = .returned (some (.int 1)) ∧ Framed s o t [] 601024 7293000
def lw_Z (below : List Frame) (a : Array Value) (s : State) : State → Prop := fun t => ∃ o, t.status = .running ∧ Ended t below o ∧ lw_Q a s o t
/-- the law's own end, with 1 on the stack, nothing written that was there before, its room as the claim has it -/
theorem lw_ret {p : Program} {l : Launch} {e : Env} {s : State} {m : MethodId} {below : List Frame} {meth : Method} {c : Code} {b : Nat} (hx : p.tables.exec = Jvm.exec) (hb : c.code = code) (hr : meth.sig.returnType = ret) (hlocks : meth.locks = false) {pc : Nat} {H : Heap} {ls : Array Slot} (hdg : decode code pc = .ok (.ireturn, 1)) : W p l e room_1 s m #[Value.ref b] below meth c H [] 601024 7293000 (lw_Z below #[Value.ref b] s) (F0 m pc ls [.int 1]) := by
  intro T hT X
  obtain ⟨fs, hret, hrun, hended, hW, hframe⟩ := X.leave (v := some (.int 1)) (hlocks := hlocks) (fun h => by rw [hr] at h; cases h)
  have hmeth' : T.vm.method? m = some meth := X.method'
  refine ⟨T.setFrames fs, ?_, .returned (some (.int 1)), hrun, hended, rfl, ⟨_, rfl⟩, hW, hframe⟩
  jvm_step X.here [X.here.top, hx, hb, hdg, hmeth', hr, ret, narrow_b1]
  (try refine ⟨rfl, ?_⟩); (try refine ⟨rfl, ?_⟩)
  first | (intro acts; rw [hret _ acts rfl rfl rfl]) | rw [hret _ _ rfl rfl rfl]
  exact Steps.refl _
/-- what holds at the law's entry: the machine, the code, the tables' words (any of lw_tbl by 'hts w (by decide +kernel)'), the script of L ints xs at the cell b, what the Statement gives of the start (any of its parts by flat_of_before) -/
def lw_At (p : Program) (s : State) (m : MethodId) (meth : Method) (c : Code) (b L : Nat) (xs : Nat → Int32) : Prop :=
  p.tables.exec = Jvm.exec ∧ c.code = code ∧ meth.sig.returnType = ret ∧ c.maxLocals = 8 ∧ s.vm.findClass R_law = some m.cls ∧ (∀ w ∈ lw_tbl, w.before #[Value.ref b] s = true) ∧ va_X b L xs s s.heap ∧ b < s.heap.size ∧ meth.locks = false ∧ (Jvm.Cond.and given_1 narrow_1).before #[Value.ref b] s = true
/-! ===== the law's entry: the first world ===== -/
theorem gNest_one {w : Cond} (h : gNest w = true) {s : State} {a : Array Value} (hb : w.before a s = true) (a' : Array Value) : w.before a' s = true := by
  have hW : s.WarmedH s.vm := State.WarmedH.refl s
  cases w
  case fieldLinkNest => exact va_Nw.use rfl (va_Nw.warmF hW hb)
  case methodLinkNest => exact va_Nw.use rfl (va_Nw.warmM hW hb)
  case castable => exact va_Nw.use rfl (va_Nw.warmC hW hb)
  case declares => exact va_Nw.use rfl (va_Nw.warmD hW hb)
  case arrayOver f =>
    cases f with
    | object C => exact va_AO.use (va_AO.moved hW.alike (va_AO.of hb))
    | _ => exact word_at hW (good_of_word h) hb
  all_goals exact word_at hW (good_of_word h) hb
abbrev gsD : String := "DEFAULTCAPACITY_EMPTY_ELEMENTDATA"
abbrev gOA : String := "[Ljava/lang/Object;"
theorem gcells {ty ty' : FieldType} {s : State} {cell : Cell} (h : s.isArrayOf cell ty) (h' : s.isArrayOf cell ty') : ty = ty' := by
  obtain ⟨-, k, h1, c1, h2⟩ := h
  obtain ⟨-, k', h3, c2, h4⟩ := h'
  cases h1.symm.trans h3
  have := h2.symm.trans h4
  cases this
  rfl
theorem gle {args : Array Value} {first s : State} {o : Option Outcome} {idx : List Nat} {t : Term} {a : Addr} {cell : Cell} (h : (Cond.eq (.length t) (.int 0)).holds args first o s idx = true) (ht : t.eval args first o idx s = some (.ref a)) (hat : s.arrayAt? a = some cell) : cell.slots.size = 0 := by
  by_cases hb : cell.slots.size < 2 ^ 31
  · have he : (Term.length t).eval args first o idx s = some (.int cell.slots.size.toInt32) := by simp [Term.eval, ht, hat, hb]
    have hv := Cond.eq_ints he (show (Term.int 0).eval args first o idx s = some (.int 0) from rfl)
    have h0 : cell.slots.size.toInt32 = 0 := by simpa [Cond.holds, hv] using h
    exact Nat.le_zero.mp ((Int32.ofNat_le_ofNat hb (by decide)).mp (show Int32.ofNat cell.slots.size ≤ Int32.ofNat 0 by rw [show Int32.ofNat cell.slots.size = 0 from h0]; exact Int32.le_refl _))
  · simp [Cond.holds, Cond.value, Term.eval, ht, hat, hb] at h
set_option maxRecDepth 100000 in
theorem gStart {s : State} {b L : Nat} {xs : Nat → Int32} (hts : ∀ w ∈ lw_tbl, w.before #[Value.ref b] s = true) (hX : va_X b L xs s s.heap) (hgv : (Jvm.Cond.and given_1 narrow_1).before #[Value.ref b] s = true) :
    ∃ (D : gD) (g0 : gG), gT s ∧ gK D s ∧ gZ (fun q => s.heap.size ≤ q) s s.heap g0 ∧ g0.1 ≠ b ∧ gAt D b (.inl (4, L, fun j => .int (xs j))) s.heap ∧ gAt D g0.1 (.inl (5, 0, fun _ => .null)) s.heap := by
  have hT : gT s := fun w hw a => gNest_one (List.mem_filter.mp hw).2 (hts w (List.mem_filter.mp hw).1) a
  have hg : ∀ w ∈ gAll, w.before #[Value.ref b] s = true := fun w hw => hT w hw _
  have hs := flat_of_before _ hgv
  have hA : ∀ a : Nat, a < s.heap.size → ¬ (fun q : Nat => s.heap.size ≤ q) a := fun a h => Nat.not_le.mpr h
  obtain ⟨c0, s0, k0⟩ := u_known hg i_0 (hg _ wd_73)
  obtain ⟨c1, s1, k1⟩ := u_known hg i_1 (hg _ wd_88)
  obtain ⟨c2, s2, k2⟩ := u_known hg i_2 (hg _ wd_117)
  obtain ⟨c3, s3, k3⟩ := u_known hg i_3 (hg _ wd_124)
  obtain ⟨c4, s4, k4⟩ := u_known hg i_4 (hg _ wd_229)
  obtain ⟨c5, s5, k5⟩ := u_known hg i_5 (hg _ wd_646)
  obtain ⟨c6, s6, k6⟩ := u_known hg i_6 (hg _ wd_714)
  obtain ⟨c7, s7, k7⟩ := u_known hg i_7 (hg _ wd_780)
  obtain ⟨aI, kI, pI, hI1, hI2, hI3⟩ := Cond.arrayClass_spec (hg _ wd_179)
  obtain ⟨aJ, kJ, pJ, hJ1, hJ2, hJ3⟩ := Cond.arrayClass_spec (hg _ wd_178)
  obtain ⟨mS, aS, kS, hS1, -, hS3, hS4, hS5⟩ := Cond.arrayOver_spec (hg _ wd_123)
  obtain ⟨mO, aO, kO, hO1, -, hO3, hO4, hO5⟩ := Cond.arrayOver_spec (hg _ wd_298)
  obtain ⟨scr, x1, x2, x3, x4, x5⟩ := id hX
  have hex : (Cond.exactly (.static "java/util/ArrayList" gsD gOA) gOA).before #[Value.ref b] s = true := hs _ (by decide +kernel)
  obtain ⟨d, cd, cell, kd, d1, d2, d3, d4, d5, d6, -⟩ := Cond.exactly_spec hex
  have har : (Cond.arrayOf (.static "java/util/ArrayList" gsD gOA) (.object "java/lang/Object")).before #[Value.ref b] s = true := hs _ (by decide +kernel)
  obtain ⟨a1, a2⟩ := Cond.arrayOf_spec har d1 d3
  have hlen : (Cond.eq (.length (.static "java/util/ArrayList" gsD gOA)) (.int 0)).before #[Value.ref b] s = true := hs _ (by decide +kernel)
  have hcd : cd = aO := Option.some.inj (d2.symm.trans hO5)
  have hdb : d ≠ b := by
    intro h
    rw [h, x1] at d3
    cases d3
    cases gcells x2 a1
  have hat : s.arrayAt? d = some cell := by
    obtain ⟨-, k, g2, comp, g3⟩ := a1
    simp [State.arrayAt?, d3, g2, g3, a2, d5]
  have hsz : cell.slots.size = 0 := gle hlen d1 hat
  obtain ⟨mi, hmi⟩ := va_Mi.of (C := gOA) (s := s) (args := #[Value.ref b]) (hs _ (by decide +kernel))
  have hsx : ∀ q ∈ gTx, ∃ a : Nat, vk_R q.1 q.2.1 q.2.2 a s := by
    intro q hq
    have h1 : (Cond.stringRef q.1 q.2.1 q.2.2).before #[Value.ref b] s = true := hts _ (by revert q; decide +kernel)
    have h2 : (Cond.exactly (.string q.1 q.2.1) "java/lang/String").before #[Value.ref b] s = true := hs _ (by clear h1; revert q; decide +kernel)
    obtain ⟨a, -, -, -, e1, -⟩ := Cond.exactly_spec h2
    exact ⟨a, vk_R.of h1 e1⟩
  have hnc : gNc s := by
    intro q hq a b' h1 h2
    have h3 : (Cond.not (.castable q.1 q.2)).before #[Value.ref b] s = true := hs _ (by clear h1 h2; revert q; decide +kernel)
    have hv := Cond.holds_not_iff.mp h3
    simp only [Cond.value, h1, h2] at hv
    exact Option.some.inj hv
  refine ⟨(fun c => match c with | 0 => c0 | 1 => c1 | 2 => c2 | 3 => c3 | 4 => c4 | 5 => c5 | 6 => c6 | _ => c7, fun c => match c with | 0 => s0 | 1 => s1 | 2 => s2 | 3 => s3 | 4 => s4 | 5 => s5 | 6 => s6 | _ => s7, fun k => match k with | 0 => aI | 1 => aJ | 2 => aS | 3 => aO | 4 => scr.cls | _ => aO), (d, mi), hT, ⟨?_, ?_, ?_, ?_⟩, ⟨?_, hmi, ?_, ?_, hsx, hnc⟩, hdb, ?_, ?_⟩
  · intro c q hq
    match c, hq with
    | 0, hq => cases hq; exact k0
    | 1, hq => cases hq; exact k1
    | 2, hq => cases hq; exact k2
    | 3, hq => cases hq; exact k3
    | 4, hq => cases hq; exact k4
    | 5, hq => cases hq; exact k5
    | 6, hq => cases hq; exact k6
    | 7, hq => cases hq; exact k7
    | c + 8, hq => simp [gCl] at hq
  · intro k ty hk
    match k, hk with
    | 0, hk => cases hk; exact ⟨fun n z => ⟨(fun _ h => by cases h), kI, hI2, pI, hI3⟩, hI1⟩
    | 1, hk => cases hk; exact ⟨fun n z => ⟨(fun _ h => by cases h), kJ, hJ2, pJ, hJ3⟩, hJ1⟩
    | 2, hk => cases hk; exact ⟨fun n z => ⟨(fun _ h => by cases h), kS, hS3, mS, hS4⟩, kS, mS, hS3, hS4, hS1, hS5⟩
    | 3, hk => cases hk; exact ⟨fun n z => ⟨(fun _ h => by cases h), kO, hO3, mO, hO4⟩, kO, mO, hO3, hO4, hO1, hO5⟩
    | k + 4, hk => simp [gTy] at hk
  · exact fun n z => ⟨(fun _ h => by cases h), x2.2⟩
  · exact fun n z => ⟨(fun _ h => by cases h), kO, hO3, mO, hO4⟩
  · exact va_Zof (hts _ (by decide +kernel)) (hts (.initialized "java/util/ArrayList") (by decide +kernel)) d1 hA
  · exact gSq.of (hts _ (by decide +kernel)) (hs _ (by decide +kernel)) hA
  · exact gSq.of (hts _ (by decide +kernel)) (hs _ (by decide +kernel)) hA
  · exact ⟨scr, x1, rfl, x2.1, x3, x4, x5⟩
  · refine ⟨cell, d3, d6.trans hcd, VmData.ne_statics_of d5, a2, hsz, fun j hj => absurd hj (Nat.not_lt_zero j)⟩
/-- the law's walk, out of what its pure function answers on the first world -/
theorem start_of {p : Program} {e : Env} {s : State} {m : MethodId} {below : List Frame} {meth : Method} {c : Code} (l : Launch) (hst : l.stackTraces = false) {b L : Nat} {xs : Nat → Int32} (C0 : lw_At p s m meth c b L xs)
    (hp : ∀ d mi n : Nat, d ≠ b → b < n → d < n → ∃ w1, f_law (d, mi) b (gw0 b L d n xs) = some (.inr 1, w1)) : W p l e room_1 s m #[Value.ref b] below meth c s.heap [] 0 0 (lw_Z below #[Value.ref b] s) (entryFrame m ([Value.ref b] : List Value).toArray 8) := by
  obtain ⟨hx, hb, hr, hml, hown, hts, hX, hbl, hlocks, hgv⟩ := id C0
  obtain ⟨D, ⟨d, mi⟩, hT, hK, hZ, hdb, h4, h5⟩ := gStart hts hX hgv
  obtain ⟨w1, hw⟩ := hp d mi s.heap.size hdb hbl h5.lt
  have hl := lv_entry [Value.ref b] (n := 8) (Nat.le_of_ble_eq_true rfl)
  have hI : gI D s (fun q => s.heap.size ≤ q) (gw0 b L d s.heap.size xs) s.heap [] := by
    refine ⟨rfl, fun a e he => ?_, va_S.rf, fun a e he hrw => ?_⟩
    · simp only [gw0] at he
      split at he
      · rename_i q; cases he; rw [q]; exact h4
      · split at he
        · rename_i q; cases he; rw [q]; exact h5
        · cases he
    · simp only [gw0] at he
      split at he
      · cases he; exact absurd hrw.1 (show ¬ (4 : Nat) < 4 by decide)
      · split at he
        · cases he; exact absurd hrw.1 (show ¬ (5 : Nat) < 4 by decide)
        · cases he
  have K := m_law (p := p) (l := l) (e := e) (s := s) (m := m) (below := below) (meth := meth) (c := c) (args := #[Value.ref b]) (A := fun q => s.heap.size ≤ q) (Q := lw_Z below #[Value.ref b] s) hst D (d, mi) b _ _ hw hx hb hml hown hT hK hZ (fun _ h => h)
    (fun {v} hv v9 w' hr' pc ls H locs hdg hI' => by
      cases hr'
      exact va_forget (fun q hq => hI'.2.2.1.2.2 q hq) (lw_ret hx hb hr hlocks hdg))
    (fun E w' h => by cases h) hI hl
  rw [← lg_entry_eq] at K
  exact K
