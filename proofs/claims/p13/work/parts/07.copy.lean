/-! ===== System.arraycopy between rows of Objects ===== -/
def gelt (w : gW) (v : Value) : Bool := match v with
  | .null => true
  | .ref y => (match w.1 y with
    | some (.inr o) => gok 3 o.1
    | _ => false)
  | _ => false
theorem gelt_some {w : gW} {v : Value} (h : gelt w v = true) : v = .null ∨ ∃ (y : Nat) (o : Nat × List Value), v = .ref y ∧ w.1 y = some (.inr o) ∧ gok 3 o.1 = true := by
  unfold gelt at h
  split at h
  · exact Or.inl rfl
  · rename_i y
    split at h
    · rename_i o ho
      exact Or.inr ⟨y, o, rfl, ho, h⟩
    · cases h
  · cases h
def gcp (w : gW) (a : Nat) (sp : Int32) (b : Nat) (dp n : Int32) : Option gW := match w.1 a, w.1 b with
  | some (.inl x), some (.inl y) => if x.1 = 3 ∧ y.1 = 3 ∧ ¬ sp < 0 ∧ ¬ dp < 0 ∧ ¬ n < 0 ∧ sp.toNatClampNeg + n.toNatClampNeg ≤ x.2.1 ∧ dp.toNatClampNeg + n.toNatClampNeg ≤ y.2.1 ∧ y.2.1 ≠ 0 ∧ (List.range n.toNatClampNeg).all (fun i => gelt w (x.2.2 (sp.toNatClampNeg + i))) = true then some (gup w b (.inl (3, y.2.1, va_cpy x.2.2 y.2.2 sp.toNatClampNeg dp.toNatClampNeg n.toNatClampNeg))) else none
  | _, _ => none
theorem gcp_some {w w' : gW} {a b : Nat} {sp dp n : Int32} (h : gcp w a sp b dp n = some w') : ∃ (n0 n1 : Nat) (f g : Nat → Value), w.1 a = some (.inl (3, n0, f)) ∧ w.1 b = some (.inl (3, n1, g)) ∧ ¬ sp < 0 ∧ ¬ dp < 0 ∧ ¬ n < 0 ∧ sp.toNatClampNeg + n.toNatClampNeg ≤ n0 ∧ dp.toNatClampNeg + n.toNatClampNeg ≤ n1 ∧ n1 ≠ 0 ∧ (∀ i, i < n.toNatClampNeg → gelt w (f (sp.toNatClampNeg + i)) = true) ∧ w' = gup w b (.inl (3, n1, va_cpy f g sp.toNatClampNeg dp.toNatClampNeg n.toNatClampNeg)) := by
  unfold gcp at h
  split at h
  · rename_i x y hx hy
    split at h
    · rename_i hc
      obtain ⟨h1, h2, h3, h4, h5, h6, h7, h8, h9⟩ := hc
      cases h
      refine ⟨x.2.1, y.2.1, x.2.2, y.2.2, by rw [hx, ← h1], by rw [hy, ← h2], h3, h4, h5, h6, h7, h8, fun i hi => List.all_eq_true.mp h9 i (List.mem_range.mpr hi), rfl⟩
    · cases h
  · cases h
section GR3
variable {p : Program} {l : Launch} {e : Env} {R : Room} {s : State} {m : MethodId} {args : Array Value} {below : List Frame} {meth : Method} {c : Code} {H : Heap} {locs : List Loc} {cells slots : Nat} {Q : State → Prop}
variable {cc : ByteArray} {pc : Nat} {ls : Array Slot} {rest : List Value} {D : gD} {A : Nat → Prop} {a b : Nat} {w : gW} {g0 : gG}
theorem gw_copy (hx : p.tables.exec = Jvm.exec) (hb : c.code = cc) (hml : c.maxLocals = ls.size) (hT : gT s) {own : String} (hown : s.vm.findClass own = some m.cls) (hK : gK D s) (hI : gI D s A w H locs) {index : Nat} {sp dp n : Int32} {w' : gW} (hv : gcp w a sp b dp n = some w')
    (hlink : Cond.methodLink own index arraycopyName ∈ gAll) (hnat : Cond.native arraycopyName ∈ gAll) (hstat : Cond.static arraycopyName ∈ gAll) (hini : Cond.initialized "java/lang/System" ∈ gAll)
    (hframes : 1 ≤ R.frames) (hlocals : (rest.map fun v => v.category).sum + (nativeFrameWords "java/lang/System" "arraycopy" 5 + 11) ≤ R.locals) (hdg : decode cc pc = .ok (.invokestatic index, 3))
    (kk : ∀ (H1 : Heap) (locs1 : List Loc), gI D s A w' H1 locs1 → W p l e R s m args below meth c H1 locs1 cells slots Q (F0 m (pc + 3) ls rest)) : W p l e R s m args below meth c H locs cells slots Q (F0 m pc ls (.int n :: .int dp :: .ref b :: .int sp :: .ref a :: rest)) := by
  obtain ⟨n0, n1, f, g, ha0, ha1, h1, h2, h3, h4, h5, h6, hel, rfl⟩ := gcp_some hv
  have nn : ∀ z : Int32, ¬ z < 0 → z.toInt = (z.toNatClampNeg : Int) := by
    intro z hz
    have hz0 : (0 : Int) ≤ z.toInt := by simpa using Int32.le_iff_toInt_le.mp (Int32.not_lt.mp hz)
    show z.toInt = ((z.toInt.toNat : Nat) : Int)
    omega
  have hc0 : H[a]? = some (arrV (D.2.2 3) n0 f) := (hI.2.1 a _ ha0).arr (by decide)
  have hc1 : H[b]? = some (arrV (D.2.2 3) n1 g) := (hI.2.1 b _ ha1).arr (by decide)
  obtain ⟨kA, comp, r1, r2, r3, -⟩ := (hK.2.1 3 _ rfl).2
  obtain ⟨kE, hkE, -⟩ := Vm.findClass_spec r3
  intro T hT0 X
  obtain ⟨vm', X', step⟩ := X.arraycopy hx hown (hT _ hlink args) (hT _ hnat args) (hT _ hstat args) (hT _ hini args) (src := a) (dst := b) (cs := arrV (D.2.2 3) n0 f) (cd := arrV (D.2.2 3) n1 g) (srcPos := sp) (destPos := dp) (n := n) (by rw [hT0]; exact hc0) (by rw [hT0]; exact hc1)
    (fun _ h => by cases h) (fun _ h => by cases h) (fun h => by cases h) (fun h => by cases h) r1 r1 r2 r2 rfl h1 h2 h3
    (by rw [nn sp h1, nn n h3, arrV_size]; omega) (by rw [nn dp h2, nn n h3, arrV_size]; omega)
    (fun vm₁ hal i hi => by
      have e1 : (arrV (D.2.2 3) n0 f).slots.getD (sp.toNatClampNeg + i) .null = f (sp.toNatClampNeg + i) := by
        rw [Array.getD_eq_getD_getElem?, arrV_read _ _ (by omega)]
        rfl
      rw [e1]
      rcases gelt_some (hel i hi) with hy | ⟨y, o, hy, ho, hok⟩
      · rw [hy]; exact ⟨rfl, trivial⟩
      · rw [hy]
        obtain ⟨C, r, hk, hc, hca⟩ := gok_some hok
        cases hk
        obtain ⟨r', hr', cellV, g1, g2, g3, -⟩ := hI.2.1 y _ ho
        have hcls := (hK.1 o.1 r hc).2
        obtain ⟨c0, t1, f1, f2, f3⟩ := Cond.castable_spec (hT _ hca args)
        cases hcls.1.symm.trans f1
        cases r3.symm.trans f2
        obtain ⟨kC, hkC, -⟩ := hcls.2
        obtain ⟨kC', hkC', -⟩ := hal.2.2 _ _ hkC
        obtain ⟨kE', hkE', -⟩ := hal.2.2 _ _ hkE
        refine ⟨rfl, cellV, (show T.heap[y]? = some cellV by rw [hT0]; exact g1), (fun q h => by rw [h] at g3; cases g3), ⟨kC', by rw [g2]; exact hkC'⟩, ⟨kE', hkE'⟩, ?_⟩
        show vm₁.assignable _ _ = true
        rw [hal.assignable, g2]
        exact f3)
    (g := F0 m pc ls (.int n :: .int dp :: .ref b :: .int sp :: .ref a :: rest)) rfl (by rw [hml]) (rest := rest) rfl (by rw [hb]; exact hdg) hframes (by show 2 * 0 + _ + _ ≤ _; omega)
  have e1 : copied (arrV (D.2.2 3) n0 f) (arrV (D.2.2 3) n1 g) sp dp n = arrV (D.2.2 3) n1 (va_cpy f g sp.toNatClampNeg dp.toNatClampNeg n.toNatClampNeg) := va_copied (fun z => z) (D.2.2 3) (D.2.2 3) f g h4
  rw [e1] at X' step
  have hl : b < H.size := (Array.getElem?_eq_some_iff.mp hc1).1
  have hheap : ((T.setVm vm').setCell b (arrV (D.2.2 3) n1 (va_cpy f g sp.toNatClampNeg dp.toNatClampNeg n.toNatClampNeg))).heap = H.setIfInBounds b (arrV (D.2.2 3) n1 (va_cpy f g sp.toNatClampNeg dp.toNatClampNeg n.toNatClampNeg)) := by rw [← hT0]; rfl
  have oq : ∀ q : Nat, q ≠ b → (H.setIfInBounds b (arrV (D.2.2 3) n1 (va_cpy f g sp.toNatClampNeg dp.toNatClampNeg n.toNatClampNeg)))[q]? = H[q]? := fun q hq => by simp [Array.getElem?_setIfInBounds, Ne.symm hq]
  have hA1 : A b := hI.2.2.2 b _ ha1 ⟨(show (3 : Nat) < 4 by decide), h6⟩
  have hI1 := hI.put (k := 0) ha1 (show gRW (.inl (3, n1, g)) from ⟨(show (3 : Nat) < 4 by decide), h6⟩) (e := .inl (3, n1, va_cpy f g sp.toNatClampNeg dp.toNatClampNeg n.toNatClampNeg)) (H1 := H.setIfInBounds b (arrV (D.2.2 3) n1 (va_cpy f g sp.toNatClampNeg dp.toNatClampNeg n.toNatClampNeg))) (by simp) oq (gAt.mk (by decide) (show (H.setIfInBounds b _)[b]? = some _ by simp [Array.getElem?_setIfInBounds, hl]))
  obtain ⟨q1, q2, ⟨q3, q4, -⟩, q5⟩ := hI1
  obtain ⟨t, a1, b1⟩ := kk _ _ ⟨q1, q2, ⟨q3, q4, fun z hz => by
      rcases List.mem_append.mp hz with h | h
      · exact hI.2.2.1.2.2 z h
      · obtain ⟨y, -, hy⟩ := List.mem_map.mp h
        rw [← hy]
        exact hA1⟩, q5⟩ _ hheap X'
  exact ⟨t, step t a1, b1⟩
end GR3
