/-! ===== a refutation: the law's walk on this script ends with 0 ===== -/
def lz_Z (below : List Frame) : State → Prop := fun t => ∃ o, t.status = .running ∧ Ended t below o ∧ o = .returned (some (.int 0))
theorem lz_ret {p : Program} {l : Launch} {e : Env} {s : State} {m : MethodId} {below : List Frame} {meth : Method} {c : Code} {b : Nat} (hx : p.tables.exec = Jvm.exec) (hb : c.code = code) (hr : meth.sig.returnType = ret) (hlocks : meth.locks = false) {pc : Nat} {H : Heap} {ls : Array Slot} (hdg : decode code pc = .ok (.ireturn, 1)) : W p l e room_1 s m #[Value.ref b] below meth c H [] 601024 7293000 (lz_Z below) (F0 m pc ls [.int 0]) := by
  intro T hT X
  obtain ⟨fs, hret, hrun, hended, hW, hframe⟩ := X.leave (v := some (.int 0)) (hlocks := hlocks) (fun h => by rw [hr] at h; cases h)
  have hmeth' : T.vm.method? m = some meth := X.method'
  refine ⟨T.setFrames fs, ?_, .returned (some (.int 0)), hrun, hended, rfl⟩
  jvm_step X.here [X.here.top, hx, hb, hdg, hmeth', hr, ret, narrow_b0]
  (try refine ⟨rfl, ?_⟩); (try refine ⟨rfl, ?_⟩)
  first | (intro acts; rw [hret _ acts rfl rfl rfl]) | rw [hret _ _ rfl rfl rfl]
  exact Steps.refl _
theorem lz_start {p : Program} {e : Env} {s : State} {m : MethodId} {below : List Frame} {meth : Method} {c : Code} (l : Launch) (hst : l.stackTraces = false) {b L : Nat} {xs : Nat → Int32} (C0 : lw_At p s m meth c b L xs)
    (hp : ∀ (d mi : Nat) (A : Nat → Prop), va_Z "java/util/ArrayList" "DEFAULTCAPACITY_EMPTY_ELEMENTDATA" "[Ljava/lang/Object;" (.ref d) A s s.heap → va_Mi "[Ljava/lang/Object;" mi s → ∃ w1, f_law (d, mi) b (gw0 b L d s.heap.size xs) = some (.inr 0, w1)) : W p l e room_1 s m #[Value.ref b] below meth c s.heap [] 0 0 (lz_Z below) (entryFrame m ([Value.ref b] : List Value).toArray 8) := by
  obtain ⟨hx, hb, hr, hml, hown, hts, hX, hbl, hlocks, hgv⟩ := id C0
  obtain ⟨D, ⟨d, mi⟩, hT, hK, hZ, hdb, h4, h5⟩ := gStart hts hX hgv
  obtain ⟨w1, hw⟩ := hp d mi _ hZ.1 hZ.2.1
  have hl := lv_entry [Value.ref b] (n := 8) (Nat.le_of_ble_eq_true rfl)
  have hI : gI D s (fun q => s.heap.size ≤ q) (gw0 b L d s.heap.size xs) s.heap [] := by
    refine ⟨rfl, fun a e he => ?_, va_S.rf, fun a e he hrw => ?_⟩
    · simp only [gw0] at he
      split at he
      · rename_i q; cases he; rw [q]; exact h4
      · split at he
        · rename_i q; cases he; rw [q]; exact h5
        · cases he
    · simp only [gw0] at he
      split at he
      · cases he; exact absurd hrw.1 (show ¬ (4 : Nat) < 4 by decide)
      · split at he
        · cases he; exact absurd hrw.1 (show ¬ (5 : Nat) < 4 by decide)
        · cases he
  have K := m_law (p := p) (l := l) (e := e) (s := s) (m := m) (below := below) (meth := meth) (c := c) (args := #[Value.ref b]) (A := fun q => s.heap.size ≤ q) (Q := lz_Z below) hst D (d, mi) b _ _ hw hx hb hml hown hT hK hZ (fun _ h => h)
    (fun {v} hv v9 w' hr' pc ls H locs hdg hI' => by
      cases hr'
      exact va_forget (fun q hq => hI'.2.2.1.2.2 q hq) (lz_ret hx hb hr hlocks hdg))
    (fun E w' h => by cases h) hI hl
  rw [← lg_entry_eq] at K
  exact K
set_option maxHeartbeats 4000000 in
theorem lz_walk (l : Launch) (hst : l.stackTraces = false) (b : Addr) (xs : List Int32) (u : State)
    (hp : ∀ (d mi : Nat) (A : Nat → Prop), va_Z "java/util/ArrayList" "DEFAULTCAPACITY_EMPTY_ELEMENTDATA" "[Ljava/lang/Object;" (.ref d) A u u.heap → va_Mi "[Ljava/lang/Object;" mi u → ∃ w1, f_law (d, mi) b (gw0 b xs.length d u.heap.size (fun j => xs.getD j 0)) = some (.inr 0, w1)) :
    MetFree l x (headSpec (Jvm.Cond.code x code maxLocals ret :: tables_1) room_1) (fun args s => lw_P b xs args s ∧ s = u) (fun _ _ _ _ _ => True) (fun _ _ o _ => o = .returned (some (.int 0))) := by
  refine MetFree.of_bodyS (code := code) (maxLocals := maxLocals) (ret := ret) (by decide) ?_ ?_
  · intro args s m h hn
    obtain ⟨meth, c, h1, h2, h3, h4, h5, h6, -, -⟩ := Cond.code_spec hn (atoms_spec (ws := Jvm.Cond.code x code maxLocals ret :: tables_1) h _ List.mem_cons_self)
    exact ⟨meth, c, h1, h2, h3, h4, h5, h6⟩
  · intro p e s m args below meth c s₁ B hml0 hP _
    obtain ⟨⟨rfl, hx, hbd, hgv⟩, hu⟩ := hP
    subst hu
    obtain ⟨scr, harrAt, hlist, hof, hsmall⟩ := hx
    obtain ⟨hcb, hkn, -, -⟩ := State.arrayAt?_spec harrAt
    have hown : s.vm.findClass R_law = some m.cls := findClass_of_methodNamed B.named
    have hts0 : ∀ c ∈ (Jvm.Cond.code x code maxLocals ret :: tables_1), c.before #[Value.ref b] s = true := atoms_spec (ws := Jvm.Cond.code x code maxLocals ret :: tables_1) B.pre
    have hts : ∀ w ∈ lw_tbl, w.before #[Value.ref b] s = true := k2_hts_sels lw_privs (fun w hw => hts0 w (List.mem_cons_of_mem _ hw)) lw_privs_ok
    have hml : c.maxLocals = 8 := B.maxLocals_eq (hts0 _ List.mem_cons_self)
    have X₀ : Stand p l e room_1 s m #[Value.ref b] below meth c s₁ [] 0 0 := Stand.of_body B
    have hh0 : s₁.heap = s.heap := by rw [B.state]; rfl
    have hsz : scr.slots.size = xs.length := by rw [← Array.length_toList, hlist, List.length_map]
    have hval : ∀ j : Nat, j < xs.length → scr.slots[j]? = some (.int (xs.getD j 0)) := fun j hj => by
      rw [← Array.getElem?_toList, hlist]
      simp [hj]
    have hbl : b < s.heap.size := (Array.getElem?_eq_some_iff.mp hcb).1
    have hX : va_X b xs.length (fun j => xs.getD j 0) s s.heap := ⟨scr, hcb, hof, hkn, hsz, hval⟩
    have K : W p l e room_1 s m #[Value.ref b] below meth c s₁.heap [] 0 0 (lz_Z below) (entryFrame m ([Value.ref b] : List Value).toArray 8) := by
      rw [hh0]
      exact lz_start l hst ⟨B.exec, B.bytes, B.returns, hml, hown, hts, hX, hbl, B.notSynchronized, hgv⟩ hp
    obtain ⟨t, a1, o, b1, b2, b3⟩ := K s₁ rfl X₀
    exact ⟨t, o, a1, b1, b2, b3⟩
