/-! ===== rows of references: stores, comparisons, statics, casts ===== -/
def gCast : List (String × String) := [("BodySolids$Solid", "BodySolids$Solid"), ("BodySolids$Solid", "java/lang/Object"), ("BodySolids$Body", "java/lang/Object"), ("BodySolids$Placement", "java/lang/Object"), ("BodySolids$KeepOut", "java/lang/Object"), ("BodySolids$Placement", "BodySolids$Placement"), ("BodySolids$KeepOut", "BodySolids$KeepOut"), ("BodySolids$Body", "BodySolids$Body")]
theorem gCast_ok : ∀ q ∈ gCast, Cond.castable q.1 q.2 ∈ gAll := fun q hq => List.mem_filter.mpr ⟨by revert q; decide +kernel, rfl⟩
def gok (k c : Nat) : Bool := match gTy[k]?, gCl[c]? with
  | some (.object C), some r => decide ((r.1, C) ∈ gCast)
  | _, _ => false
theorem gok_some {k c : Nat} (h : gok k c = true) : ∃ (C : String) (r : vw_C), gTy[k]? = some (.object C) ∧ gCl[c]? = some r ∧ Cond.castable r.1 C ∈ gAll := by
  unfold gok at h
  split at h
  · rename_i C r h1 h2
    exact ⟨C, r, h1, h2, gCast_ok (r.1, C) (of_decide_eq_true h)⟩
  · cases h
def gsA (w : gW) (a : Nat) (i : Int32) (v : Nat) : Option gW := (gob w a).bind fun k => match w.1 v with
  | some (.inr o) => if gok k o.1 = true then gas w a k i (.ref v) else none
  | _ => none
theorem gsA_some {w w' : gW} {a v : Nat} {i : Int32} (h : gsA w a i v = some w') : ∃ (k : Nat) (o : Nat × List Value), w.1 v = some (.inr o) ∧ gok k o.1 = true ∧ gas w a k i (.ref v) = some w' := by
  obtain ⟨k, h1, h2⟩ := Option.bind_eq_some_iff.mp h
  split at h2
  · rename_i o ho
    split at h2
    · rename_i hk
      exact ⟨k, o, ho, hk, h2⟩
    · cases h2
  · cases h2
section GR2
variable {p : Program} {l : Launch} {e : Env} {R : Room} {s : State} {m : MethodId} {args : Array Value} {below : List Frame} {meth : Method} {c : Code} {H : Heap} {locs : List Loc} {cells slots : Nat} {Q : State → Prop}
variable {cc : ByteArray} {pc : Nat} {ls : Array Slot} {rest : List Value} {D : gD} {A : Nat → Prop} {a : Nat} {w : gW} {g0 : gG}
theorem gw_astA (hx : p.tables.exec = Jvm.exec) (hb : c.code = cc) (hT : gT s) (hK : gK D s) (hI : gI D s A w H locs) {i : Int32} {x : Nat} {w' : gW} (hv : gsA w a i x = some w') (hdg : decode cc pc = .ok (.aastore, 1))
    (kk : ∀ (H1 : Heap) (locs1 : List Loc), gI D s A w' H1 locs1 → W p l e R s m args below meth c H1 locs1 cells slots Q (F0 m (pc + 1) ls rest)) : W p l e R s m args below meth c H locs cells slots Q (F0 m pc ls (.ref x :: .int i :: .ref a :: rest)) := by
  obtain ⟨k, o, ho, hok, hv⟩ := gsA_some hv
  obtain ⟨C, r, hk, hc, hca⟩ := gok_some hok
  obtain ⟨n, f, h1, hin, rfl⟩ := gas_some hv
  have hlt : i.toNatClampNeg < n := Nat.not_le.mp fun q => hin (Or.inr q)
  have h0 : ¬ i < 0 := fun q => hin (Or.inl q)
  obtain ⟨r', hr', cellV, g1, g2, g3, -⟩ := hI.2.1 x _ ho
  have hcls := (hK.1 o.1 r hc).2
  obtain ⟨kA, comp, k1, k2, k3, -⟩ := (hK.2.1 k _ hk).2
  obtain ⟨kE, hkE, -⟩ := Vm.findClass_spec k3
  obtain ⟨c0, t1, f1, f2, f3⟩ := Cond.castable_spec (hT _ hca args)
  cases hcls.1.symm.trans f1
  cases k3.symm.trans f2
  obtain ⟨kC, hkC, -⟩ := hcls.2
  have hk4 : k < 4 := (List.getElem?_eq_some_iff.mp hk).1
  refine W.aast hx hb ((hI.2.1 a _ h1).arr hk4) (fun q h => by cases h) (fun h => by cases h) k1 k2 rfl hkE ⟨h0, by show _ < (arrV _ _ _).slots.size; rw [arrV_size]; exact hlt⟩ g1 (fun q h => by rw [g3] at h; cases h) (by rw [g2]; exact hkC) (by rw [g2]; exact f3) rfl rfl hdg fun H1 e1 z1 o1 => ?_
  exact kk H1 _ (hI.put h1 ⟨hk4, (fun q => hin (Or.inr (by rw [show n = 0 from q]; exact Nat.zero_le _)))⟩ z1 o1 (gAt.mk hk4 (e1.trans (by show some (Cell.setSlot (arrV _ _ _) _ _) = _; rw [arrV_store]))))
theorem gw_acmp_eq (hx : p.tables.exec = Jvm.exec) (hb : c.code = cc) {x y : Nat} {off : Int} {tgt : Nat} (hdg : decode cc pc = .ok (.if_acmp .eq off, 3)) (ht : (pc : Int) + off = (tgt : Int))
    (kt : x = y → W p l e R s m args below meth c H locs cells slots Q (F0 m tgt ls rest)) (kf : ¬ x = y → W p l e R s m args below meth c H locs cells slots Q (F0 m (pc + 3) ls rest)) : W p l e R s m args below meth c H locs cells slots Q (F0 m pc ls (.ref y :: .ref x :: rest)) :=
  lv_acmp_eq (rx := some x) (ry := some y) hx hb hdg ht (fun h => kt (Option.some.inj h)) (fun h => kf (fun q => h (by rw [q])))
theorem gw_acmp_ne (hx : p.tables.exec = Jvm.exec) (hb : c.code = cc) {x y : Nat} {off : Int} {tgt : Nat} (hdg : decode cc pc = .ok (.if_acmp .ne off, 3)) (ht : (pc : Int) + off = (tgt : Int))
    (kt : ¬ x = y → W p l e R s m args below meth c H locs cells slots Q (F0 m tgt ls rest)) (kf : x = y → W p l e R s m args below meth c H locs cells slots Q (F0 m (pc + 3) ls rest)) : W p l e R s m args below meth c H locs cells slots Q (F0 m pc ls (.ref y :: .ref x :: rest)) :=
  lv_acmp_ne (rx := some x) (ry := some y) hx hb hdg ht (fun h => kt (fun q => h (by rw [q]))) (fun h => kf (Option.some.inj h))
theorem gw_gets (hx : p.tables.exec = Jvm.exec) (hb : c.code = cc) (hT : gT s) {own : String} (hown : s.vm.findClass own = some m.cls) (hZ : gZ A s s.heap g0) (hI : gI D s A w H locs) {index : Nat} (hlink : Cond.fieldLink own index "java/util/ArrayList" "DEFAULTCAPACITY_EMPTY_ELEMENTDATA" "[Ljava/lang/Object;" ∈ gAll) (hdg : decode cc pc = .ok (.getstatic index, 3))
    (kk : W p l e R s m args below meth c H locs cells slots Q (F0 m (pc + 3) ls (.ref g0.1 :: rest))) : W p l e R s m args below meth c H locs cells slots Q (F0 m pc ls rest) :=
  va_gets hx hb hZ.1 hI.2.2.1 hown (hT _ hlink args) (fun _ h => h) hdg kk
theorem gw_cast {ci N : Nat} {C nm : String} {T0 : u_T} {u : Unit} (hx : p.tables.exec = Jvm.exec) (hb : c.code = cc) (hT : gT s) {own : String} (hown : s.vm.findClass own = some m.cls) (hK : gK D s) (hI : gI D s A w H locs) {index : Nat} (hlink : Cond.classLink own index nm ∈ gAll) (hc : gCl[ci]? = some (C, T0, N)) (hca : Cond.castable C nm ∈ gAll) (hv : gck w a ci = some u) (hdg : decode cc pc = .ok (.checkcast index, 3))
    (kk : W p l e R s m args below meth c H locs cells slots Q (F0 m (pc + 3) ls (.ref a :: rest))) : W p l e R s m args below meth c H locs cells slots Q (F0 m pc ls (.ref a :: rest)) :=
  va_castY hx hb hown (hT _ hlink args) (hT _ hca #[]) (hI.recv hK hc hv) hdg kk
/-- a row of objects of any kind -/
def gkd (w : gW) (a k : Nat) : Option Nat := match w.1 a with
  | some (.inl x) => if x.1 = k then some x.2.1 else none
  | _ => none
theorem gkd_some {w : gW} {a k n : Nat} (h : gkd w a k = some n) : ∃ f : Nat → Value, w.1 a = some (.inl (k, n, f)) := by
  unfold gkd at h
  split at h
  · rename_i x hx
    split at h
    · rename_i hk
      subst hk
      cases h
      exact ⟨x.2.2, hx⟩
    · cases h
  · cases h
theorem gw_getC (hx : p.tables.exec = Jvm.exec) (hb : c.code = cc) (hml : c.maxLocals = ls.size) (hT : gT s) {own : String} (hown : s.vm.findClass own = some m.cls) (hK : gK D s) (hZ : gZ A s s.heap g0) (hI : gI D s A w H locs) {index n : Nat} (hv : gkd w a 3 = some n)
    (hlink : Cond.methodLink own index ⟨"java/lang/Object", "getClass", "()Ljava/lang/Class;"⟩ ∈ gAll) (hdecl : Cond.declares ⟨"java/lang/Object", "getClass", "()Ljava/lang/Class;"⟩ ∈ gAll) (hsel : Cond.selects "[Ljava/lang/Object;" ⟨"java/lang/Object", "getClass", "()Ljava/lang/Class;"⟩ ⟨"java/lang/Object", "getClass", "()Ljava/lang/Class;"⟩ ∈ gAll) (hinst : Cond.instanceMethod ⟨"java/lang/Object", "getClass", "()Ljava/lang/Class;"⟩ ∈ gAll) (hnat : Cond.native ⟨"java/lang/Object", "getClass", "()Ljava/lang/Class;"⟩ ∈ gAll)
    (hframes : 1 ≤ R.frames) (hlocals : (rest.map fun v => v.category).sum + 14 ≤ R.locals) (hdg : decode cc pc = .ok (.invokevirtual index, 3))
    (kk : W p l e R s m args below meth c H locs cells slots Q (F0 m (pc + 3) ls (.ref g0.2 :: rest))) : W p l e R s m args below meth c H locs cells slots Q (F0 m pc ls (.ref a :: rest)) := by
  obtain ⟨f, h1⟩ := gkd_some hv
  exact va_getC hx hb hml hown (hT _ hlink args) (hT _ hdecl args) (hT _ hsel args) (hT _ hinst args) (hT _ hnat args) hZ.2.1 ⟨_, (hI.2.1 a _ h1).arr (by decide), rfl, va_nmO (hK.2.1 3 _ rfl).2 rfl⟩ hframes hlocals hdg kk
theorem gw_ldcM (hx : p.tables.exec = Jvm.exec) (hb : c.code = cc) (hT : gT s) {own : String} (hown : s.vm.findClass own = some m.cls) (hZ : gZ A s s.heap g0) {index : Nat} (hlink : Cond.classLink own index "[Ljava/lang/Object;" ∈ gAll) (hdg : decode cc pc = .ok (.ldc index, 2))
    (kk : W p l e R s m args below meth c H locs cells slots Q (F0 m (pc + 2) ls (.ref g0.2 :: rest))) : W p l e R s m args below meth c H locs cells slots Q (F0 m pc ls rest) :=
  va_ldcM hx hb hown (hT _ hlink args) hZ.2.1 hdg kk
end GR2
