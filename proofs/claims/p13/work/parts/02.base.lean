/-! ===== THE TYPED WORLD: a map from addresses to entries, and the heap's size ===== -/
abbrev gE : Type := (Nat × Nat × (Nat → Value)) ⊕ (Nat × List Value)
abbrev gW : Type := (Nat → Option gE) × Nat
abbrev gD : Type := (Nat → ClassId) × (Nat → Nat → Nat) × (Nat → ClassId)
abbrev gX (α : Type) : Type := Option ((String ⊕ α) × gW)
/-- a row that was there before: only read, what else its cell bears is not known -/
def gLo (c : ClassId) (n : Nat) (f : Nat → Value) (a : Nat) (H : Heap) : Prop := ∃ scr : Cell, H[a]? = some scr ∧ scr.cls = c ∧ (∀ k, scr.vm ≠ .statics k) ∧ scr.vm ≠ .unknown ∧ scr.slots.size = n ∧ ∀ j, j < n → scr.slots[j]? = some (f j)
/-- kinds below 4: rows that were made here; 4: ints, 5: objects, that were there before -/
def gAt (D : gD) (a : Nat) (e : gE) (H : Heap) : Prop := match e with
  | .inl x => if x.1 < 4 then H[a]? = some (arrV (D.2.2 x.1) x.2.1 x.2.2) else gLo (D.2.2 x.1) x.2.1 x.2.2 a H
  | .inr o => ∃ r : vw_C, gCl[o.1]? = some r ∧ t_OB a (D.1 o.1) r.2.2 (D.2.1 o.1) H (vp_V o.2)
theorem gAt.mk {D : gD} {a k n : Nat} {f : Nat → Value} {H : Heap} (hk : k < 4) (h : H[a]? = some (arrV (D.2.2 k) n f)) : gAt D a (.inl (k, n, f)) H := by
  show if k < 4 then _ else _
  rw [if_pos hk]
  exact h
theorem gAt.arr {D : gD} {a k n : Nat} {f : Nat → Value} {H : Heap} (hk : k < 4) (h : gAt D a (.inl (k, n, f)) H) : H[a]? = some (arrV (D.2.2 k) n f) := by
  have h : (if k < 4 then H[a]? = some (arrV (D.2.2 k) n f) else gLo (D.2.2 k) n f a H) := h
  rw [if_pos hk] at h
  exact h
theorem gAt.any {D : gD} {a k n : Nat} {f : Nat → Value} {H : Heap} (h : gAt D a (.inl (k, n, f)) H) : gLo (D.2.2 k) n f a H := by
  have h : (if k < 4 then H[a]? = some (arrV (D.2.2 k) n f) else gLo (D.2.2 k) n f a H) := h
  split at h
  · exact ⟨_, h, rfl, (fun _ q => by cases q), (fun q => by cases q), arrV_size _ _ _, fun j hj => arrV_read _ _ hj⟩
  · exact h
theorem gAt.kept {D : gD} {a : Nat} {e : gE} {H H1 : Heap} (h : gAt D a e H) (hq : H1[a]? = H[a]?) : gAt D a e H1 := by
  cases e with
  | inl x =>
    have h : (if x.1 < 4 then H[a]? = some (arrV (D.2.2 x.1) x.2.1 x.2.2) else gLo (D.2.2 x.1) x.2.1 x.2.2 a H) := h
    show if x.1 < 4 then _ else _
    split at h
    · rename_i hk
      rw [if_pos hk]
      exact hq.trans h
    · rename_i hk
      rw [if_neg hk]
      obtain ⟨scr, h1, h2⟩ := h
      exact ⟨scr, hq.trans h1, h2⟩
  | inr o =>
    obtain ⟨r, h1, h2⟩ := h
    exact ⟨r, h1, h2.kept hq⟩
theorem gAt.lt {D : gD} {a : Nat} {e : gE} {H : Heap} (h : gAt D a e H) : a < H.size := by
  cases e with
  | inl x =>
    obtain ⟨scr, h1, -⟩ := gAt.any (k := x.1) (n := x.2.1) (f := x.2.2) h
    exact (Array.getElem?_eq_some_iff.mp h1).1
  | inr o =>
    obtain ⟨r, h1, cell, h2, -⟩ := h
    exact (Array.getElem?_eq_some_iff.mp h2).1
/-- kinds and array kinds as the tables have them -/
def gK (D : gD) (U : State) : Prop := (∀ (c : Nat) (q : vw_C), gCl[c]? = some q → u_Kn U q.1 q.2.1 q.2.2 (D.1 c) (D.2.1 c)) ∧ (∀ (k : Nat) (ty : FieldType), (gTy[k]? = some ty → ArrOfT U (D.2.2 k) ty ∧ va_RA U (D.2.2 k) ty)) ∧ ArrOfT U (D.2.2 4) .int ∧ ArrOfT U (D.2.2 5) (.object "java/lang/Object")
theorem gK.moved {D : gD} {u U : State} (hvm : u.vm.Alike U.vm) (h : gK D u) : gK D U := ⟨fun c q hq => u_Kn_moved hvm (h.1 c q hq), fun k ty hk => ⟨arrOfT_moved hvm (h.2.1 k ty hk).1, (h.2.1 k ty hk).2.moved hvm⟩, arrOfT_moved hvm h.2.2.1, arrOfT_moved hvm h.2.2.2⟩
theorem gK.va {D : gD} {U : State} (h : gK D U) : va_K (D.1, D.2.1) gCl [] U := ⟨h.1, fun k q hq => by simp at hq⟩
theorem gK.arrs {D : gD} {U : State} (h : gK D U) {k : Nat} (hk : k < 6) : ∃ ty, ArrOfT U (D.2.2 k) ty := by
  match k, hk with
  | 0, _ => exact ⟨_, (h.2.1 0 _ rfl).1⟩
  | 1, _ => exact ⟨_, (h.2.1 1 _ rfl).1⟩
  | 2, _ => exact ⟨_, (h.2.1 2 _ rfl).1⟩
  | 3, _ => exact ⟨_, (h.2.1 3 _ rfl).1⟩
  | 4, _ => exact ⟨_, h.2.2.1⟩
  | 5, _ => exact ⟨_, h.2.2.2⟩
theorem garr {U : State} {c : ClassId} {ty : FieldType} (h : ArrOfT U c ty) {scr : Cell} (hc : scr.cls = c) (hv : ∀ k, scr.vm ≠ .statics k) : U.isArrayOf scr ty := ⟨hv, by rw [hc]; exact (h 0 (fun _ => .null)).2⟩
/-- every word of the one list -/
def gT (U : State) : Prop := ∀ w ∈ gAll, ∀ a : Array Value, w.before a U = true
theorem gNest_warm {w : Cond} (h : gNest w = true) {s U : State} (hW : s.WarmedH U.vm) (hb : ∀ a : Array Value, w.before a s = true) (a' : Array Value) : w.before a' U = true := by
  cases w
  case fieldLinkNest => exact va_Nw.use rfl (va_Nw.warmF hW (hb #[]))
  case methodLinkNest => exact va_Nw.use rfl (va_Nw.warmM hW (hb #[]))
  case castable => exact va_Nw.use rfl (va_Nw.warmC hW (hb #[]))
  case declares => exact va_Nw.use rfl (va_Nw.warmD hW (hb #[]))
  case arrayOver f =>
    cases f with
    | object C => exact va_AO.use (va_AO.moved hW.alike (va_AO.of (hb #[])))
    | _ => exact word_at hW (good_of_word h) (hb #[])
  all_goals exact word_at hW (good_of_word h) (hb #[])
theorem gT.warm {s U : State} (hW : s.WarmedH U.vm) (h : gT s) : gT U := fun w hw a => gNest_warm (List.mem_filter.mp hw).2 hW (h w hw) a
/-- an empty row is never written; nor one that was there before -/
def gRW : gE → Prop
  | .inl x => x.1 < 4 ∧ x.2.1 ≠ 0
  | .inr _ => True
/-- between a world and the machine's heap, inside a method: s its start, A what it may change -/
def gI (D : gD) (s : State) (A : Nat → Prop) (w : gW) (H : Heap) (locs : List Loc) : Prop :=
  H.size = w.2 ∧ (∀ (a : Nat) (e : gE), w.1 a = some e → gAt D a e H) ∧ va_S A s.heap H locs ∧ ∀ (a : Nat) (e : gE), w.1 a = some e → gRW e → A a
def gup (w : gW) (a : Nat) (e : gE) : gW := (fun q => if q = a then some e else w.1 q, w.2)
def gpush (w : gW) (e : gE) : gW := (fun q => if q = w.2 then some e else w.1 q, w.2 + 1)
theorem gI.put {D : gD} {s : State} {A : Nat → Prop} {w : gW} {H H1 : Heap} {locs : List Loc} {a k : Nat} {e0 e : gE} (hI : gI D s A w H locs) (hw : w.1 a = some e0) (hrw : gRW e0) (z : H1.size = H.size) (oq : ∀ q : Nat, q ≠ a → H1[q]? = H[q]?) (he : gAt D a e H1) : gI D s A (gup w a e) H1 (locs ++ [⟨a, k⟩]) := by
  obtain ⟨h1, h2, h3, h4⟩ := hI
  refine ⟨z.trans h1, fun b x hb => ?_, h3.put z oq (h4 a e0 hw hrw), fun b x hb hx => ?_⟩
  · by_cases q : b = a
    · subst q
      simp only [gup, if_true] at hb
      cases hb
      exact he
    · simp only [gup, if_neg q] at hb
      exact (h2 b x hb).kept (oq b q)
  · by_cases q : b = a
    · subst q
      exact h4 b e0 hw hrw
    · simp only [gup, if_neg q] at hb
      exact h4 b x hb hx
theorem gI.push {D : gD} {s : State} {A : Nat → Prop} {w : gW} {H H1 : Heap} {locs : List Loc} {e : gE} (hI : gI D s A w H locs) (hA : ∀ q : Nat, s.heap.size ≤ q → A q) (z : H1.size = H.size + 1) (oq : ∀ q : Nat, q < H.size → H1[q]? = H[q]?) (he : gAt D H.size e H1) : gI D s A (gpush w e) H1 locs := by
  obtain ⟨h1, h2, h3, h4⟩ := hI
  refine ⟨by rw [z, h1]; rfl, fun b x hb => ?_, ⟨Nat.le_trans h3.1 (by omega), fun q g1 g2 => (oq q (Nat.lt_of_lt_of_le g1 h3.1)).trans (h3.2.1 q g1 g2), h3.2.2⟩, fun b x hb hx => ?_⟩
  · by_cases q : b = w.2
    · subst q
      simp only [gpush, if_true] at hb
      cases hb
      rw [← h1]
      exact he
    · simp only [gpush, if_neg q] at hb
      have hl := (h2 b x hb).lt
      exact (h2 b x hb).kept (oq b hl)
  · by_cases q : b = w.2
    · subst q
      exact hA _ (by rw [← h1]; exact h3.1)
    · simp only [gpush, if_neg q] at hb
      exact h4 b x hb hx
theorem gI.one {D : gD} {s : State} {A : Nat → Prop} {w : gW} {H : Heap} {locs : List Loc} {a ci : Nat} {fs : List Value} (hI : gI D s A w H locs) (h : w.1 a = some (.inr (ci, fs))) : va_P (D.1, D.2.1) gCl [(a, .inr (ci, fs))] H := by
  intro k q hk
  match k, hk with
  | 0, hk =>
    cases hk
    exact hI.2.1 a _ h
  | k + 1, hk => simp at hk
/-! ===== reads and writes ===== -/
def gf (w : gW) (a c k : Nat) : Option Value := match w.1 a with
  | some (.inr o) => if o.1 = c then o.2[k]? else none
  | _ => none
def gvI : Option Value → Option Int32
  | some (.int x) => some x
  | _ => none
def gvJ : Option Value → Option Int64
  | some (.long x) => some x
  | _ => none
def gvA : Option Value → Option Nat
  | some (.ref x) => some x
  | _ => none
theorem gvI_some {o : Option Value} {x : Int32} (h : gvI o = some x) : o = some (.int x) := by
  unfold gvI at h
  split at h
  · cases h; rfl
  · cases h
theorem gvJ_some {o : Option Value} {x : Int64} (h : gvJ o = some x) : o = some (.long x) := by
  unfold gvJ at h
  split at h
  · cases h; rfl
  · cases h
theorem gvA_some {o : Option Value} {x : Nat} (h : gvA o = some x) : o = some (.ref x) := by
  unfold gvA at h
  split at h
  · cases h; rfl
  · cases h
def gfI (w : gW) (a c k : Nat) : Option Int32 := gvI (gf w a c k)
def gfJ (w : gW) (a c k : Nat) : Option Int64 := gvJ (gf w a c k)
def gfA (w : gW) (a c k : Nat) : Option Nat := gvA (gf w a c k)
theorem gf_some {w : gW} {a c k : Nat} {v : Value} (h : gf w a c k = some v) : ∃ fs : List Value, w.1 a = some (.inr (c, fs)) ∧ fs[k]? = some v := by
  unfold gf at h
  split at h
  · rename_i o ho
    split at h
    · rename_i hc
      subst hc
      exact ⟨o.2, ho, h⟩
    · cases h
  · cases h
def gp (w : gW) (a c k : Nat) (v : Value) : Option gW := match w.1 a with
  | some (.inr o) => if o.1 = c ∧ k < o.2.length then some (gup w a (.inr (c, o.2.set k v))) else none
  | _ => none
theorem gp_some {w w' : gW} {a c k : Nat} {v : Value} (h : gp w a c k v = some w') : ∃ fs : List Value, w.1 a = some (.inr (c, fs)) ∧ k < fs.length ∧ w' = gup w a (.inr (c, fs.set k v)) := by
  unfold gp at h
  split at h
  · rename_i o ho
    split at h
    · rename_i hc
      obtain ⟨hc, hk⟩ := hc
      subst hc
      cases h
      exact ⟨o.2, ho, hk, rfl⟩
    · cases h
  · cases h
/-- the object is of kind c -/
def gck (w : gW) (a c : Nat) : Option Unit := match w.1 a with
  | some (.inr o) => if o.1 = c then some () else none
  | _ => none
theorem gck_some {w : gW} {a c : Nat} {u : Unit} (h : gck w a c = some u) : ∃ fs : List Value, w.1 a = some (.inr (c, fs)) := by
  unfold gck at h
  split at h
  · rename_i o ho
    split at h
    · rename_i hc
      subst hc
      exact ⟨o.2, ho⟩
    · cases h
  · cases h
def gnw (w : gW) (c : Nat) (fs : List Value) : Option (Nat × gW) := some (w.2, gpush w (.inr (c, fs)))
def gna (w : gW) (k : Nat) (n : Int32) (M : Nat) (v : Value) : Option (Nat × gW) := if n < 0 ∨ M < n.toNatClampNeg then none else some (w.2, gpush w (.inl (k, n.toNatClampNeg, fun _ => v)))
theorem gna_some {w w' : gW} {k M a : Nat} {n : Int32} {v : Value} (h : gna w k n M v = some (a, w')) : ¬ n < 0 ∧ n.toNatClampNeg ≤ M ∧ a = w.2 ∧ w' = gpush w (.inl (k, n.toNatClampNeg, fun _ => v)) := by
  unfold gna at h
  split at h
  · cases h
  · rename_i hc
    cases h
    exact ⟨fun q => hc (Or.inl q), Nat.not_lt.mp (fun q => hc (Or.inr q)), rfl, rfl⟩
/-- an array's place: its kind must be k -/
def gar (w : gW) (a k : Nat) (i : Int32) : Option Value := match w.1 a with
  | some (.inl x) => if x.1 = k ∧ ¬ i < 0 ∧ i.toNatClampNeg < x.2.1 then some (x.2.2 i.toNatClampNeg) else none
  | _ => none
theorem gar_some {w : gW} {a k : Nat} {i : Int32} {v : Value} (h : gar w a k i = some v) : ∃ (n : Nat) (f : Nat → Value), w.1 a = some (.inl (k, n, f)) ∧ ¬ (i < 0 ∨ n ≤ i.toNatClampNeg) ∧ f i.toNatClampNeg = v := by
  unfold gar at h
  split at h
  · rename_i x hx
    split at h
    · rename_i hc
      obtain ⟨h1, h2, h3⟩ := hc
      subst h1
      cases h
      exact ⟨x.2.1, x.2.2, hx, fun q => q.elim h2 (fun z => by omega), rfl⟩
    · cases h
  · cases h
def gas (w : gW) (a k : Nat) (i : Int32) (v : Value) : Option gW := match w.1 a with
  | some (.inl x) => if x.1 = k ∧ ¬ i < 0 ∧ i.toNatClampNeg < x.2.1 then some (gup w a (.inl (k, x.2.1, updV x.2.2 i.toNatClampNeg v))) else none
  | _ => none
theorem gas_some {w w' : gW} {a k : Nat} {i : Int32} {v : Value} (h : gas w a k i v = some w') : ∃ (n : Nat) (f : Nat → Value), w.1 a = some (.inl (k, n, f)) ∧ ¬ (i < 0 ∨ n ≤ i.toNatClampNeg) ∧ w' = gup w a (.inl (k, n, updV f i.toNatClampNeg v)) := by
  unfold gas at h
  split at h
  · rename_i x hx
    split at h
    · rename_i hc
      obtain ⟨h1, h2, h3⟩ := hc
      subst h1
      cases h
      exact ⟨x.2.1, x.2.2, hx, fun q => q.elim h2 (fun z => by omega), rfl⟩
    · cases h
  · cases h
def gal (w : gW) (a : Nat) : Option Int32 := match w.1 a with
  | some (.inl x) => if x.1 < 6 then some (nI x.2.1) else none
  | _ => none
theorem gal_some {w : gW} {a : Nat} {x : Int32} (h : gal w a = some x) : ∃ (k n : Nat) (f : Nat → Value), w.1 a = some (.inl (k, n, f)) ∧ k < 6 ∧ x = nI n := by
  unfold gal at h
  split at h
  · rename_i y hy
    split at h
    · rename_i hk
      cases h
      exact ⟨y.1, y.2.1, y.2.2, hy, hk, rfl⟩
    · cases h
  · cases h
/-- ints: kind 0, or 4 (only read) -/
def gki (w : gW) (a : Nat) : Nat := match w.1 a with
  | some (.inl x) => if x.1 = 4 then 4 else 0
  | _ => 0
theorem gki_ty {D : gD} {U : State} (h : gK D U) (w : gW) (a : Nat) : ArrOfT U (D.2.2 (gki w a)) .int := by
  unfold gki
  split
  · split
    · exact h.2.2.1
    · exact (h.2.1 0 _ rfl).1
  · exact (h.2.1 0 _ rfl).1
def gaI (w : gW) (a : Nat) (i : Int32) : Option Int32 := gvI (gar w a (gki w a) i)
def gaJ (w : gW) (a : Nat) (i : Int32) : Option Int64 := gvJ (gar w a 1 i)
/-- a row of references: its number -/
def gob (w : gW) (a : Nat) : Option Nat := match w.1 a with
  | some (.inl x) => match gTy[x.1]? with
    | some (.object _) => some x.1
    | _ => none
  | _ => none
def gaA (w : gW) (a : Nat) (i : Int32) : Option Nat := (gob w a).bind fun k => gvA (gar w a k i)
theorem gob_some {w : gW} {a k : Nat} (h : gob w a = some k) : ∃ C : String, gTy[k]? = some (.object C) := by
  unfold gob at h
  split at h
  · split at h
    · rename_i C hC
      cases h
      exact ⟨C, hC⟩
    · cases h
  · cases h
theorem gaA_some {w : gW} {a x : Nat} {i : Int32} (h : gaA w a i = some x) : ∃ (k : Nat) (C : String), gTy[k]? = some (.object C) ∧ gar w a k i = some (.ref x) := by
  obtain ⟨k, h1, h2⟩ := Option.bind_eq_some_iff.mp h
  obtain ⟨C, hC⟩ := gob_some h1
  exact ⟨k, C, hC, gvA_some h2⟩
def gsI (w : gW) (a : Nat) (i x : Int32) : Option gW := gas w a 0 i (.int x)
def gsJ (w : gW) (a : Nat) (i : Int32) (x : Int64) : Option gW := gas w a 1 i (.long x)
/-! ===== the pure functions' glue ===== -/
def gbind {α β : Type} (x : gX α) (k : α → gW → gX β) : gX β := match x with
  | none => none
  | some (.inl E, w) => some (.inl E, w)
  | some (.inr v, w) => k v w
def gjoin {γ δ : Type} (F : γ → δ) (J : γ) : δ := F J
def gguard {α : Type} (c : Prop) [Decidable c] (x : Option α) : Option α := if c then x else none
def gthrow {α : Type} (E : String) (w : gW) : gX α := some (.inl E, (w.1, w.2 + 1))
theorem gb {α β : Type} {o : Option α} {f : α → Option β} {r : β} (h : o.bind f = some r) : ∃ v, o = some v ∧ f v = some r := Option.bind_eq_some_iff.mp h
def gb2f {β : Type} (x : Option (Nat × gW)) (K : Nat → gW → Option β) : Option β := match x with
  | none => none
  | some q => K q.1 q.2
theorem gb2 {β : Type} {x : Option (Nat × gW)} {K : Nat → gW → Option β} {r : β} (h : gb2f x K = some r) : ∃ (o : Nat) (w : gW), x = some (o, w) ∧ K o w = some r := by
  cases x with
  | none => cases h
  | some q => exact ⟨q.1, q.2, rfl, h⟩
theorem gj {γ β : Type} {F : γ → Option β} {J : γ} {r : β} (h : gjoin F J = some r) : ∃ K, K = J ∧ F K = some r := ⟨J, rfl, h⟩
theorem gif {β : Type} {c : Prop} [Decidable c] {x : Option β} {r : β} (h : gguard c x = some r) : c ∧ x = some r := by
  unfold gguard at h
  split at h
  · rename_i hc
    exact ⟨hc, h⟩
  · cases h
theorem git {β : Type} {c : Prop} [Decidable c] {x y : β} {r : β} (hc : c) (h : (if c then x else y) = r) : x = r := by rw [if_pos hc] at h; exact h
theorem gie {β : Type} {c : Prop} [Decidable c] {x y : β} {r : β} (hc : ¬ c) (h : (if c then x else y) = r) : y = r := by rw [if_neg hc] at h; exact h
theorem gsome {α β : Type} {x : gX α} {k : α → gW → gX β} {r : (String ⊕ β) × gW} (h : gbind x k = some r) : ∃ o, x = some o := by
  cases x with
  | none => cases h
  | some o => exact ⟨o, rfl⟩
theorem gk1 {α0 β : Type} {K J : α0 → β} (e : K = J) {x0 : α0} {r : β} (h : K x0 = r) : J x0 = r := e ▸ h
theorem gk2 {α0 α1 β : Type} {K J : α0 → α1 → β} (e : K = J) {x0 : α0} {x1 : α1} {r : β} (h : K x0 x1 = r) : J x0 x1 = r := e ▸ h
theorem gk3 {α0 α1 α2 β : Type} {K J : α0 → α1 → α2 → β} (e : K = J) {x0 : α0} {x1 : α1} {x2 : α2} {r : β} (h : K x0 x1 x2 = r) : J x0 x1 x2 = r := e ▸ h
theorem gk4 {α0 α1 α2 α3 β : Type} {K J : α0 → α1 → α2 → α3 → β} (e : K = J) {x0 : α0} {x1 : α1} {x2 : α2} {x3 : α3} {r : β} (h : K x0 x1 x2 x3 = r) : J x0 x1 x2 x3 = r := e ▸ h
theorem gk5 {α0 α1 α2 α3 α4 β : Type} {K J : α0 → α1 → α2 → α3 → α4 → β} (e : K = J) {x0 : α0} {x1 : α1} {x2 : α2} {x3 : α3} {x4 : α4} {r : β} (h : K x0 x1 x2 x3 x4 = r) : J x0 x1 x2 x3 x4 = r := e ▸ h
theorem gk6 {α0 α1 α2 α3 α4 α5 β : Type} {K J : α0 → α1 → α2 → α3 → α4 → α5 → β} (e : K = J) {x0 : α0} {x1 : α1} {x2 : α2} {x3 : α3} {x4 : α4} {x5 : α5} {r : β} (h : K x0 x1 x2 x3 x4 x5 = r) : J x0 x1 x2 x3 x4 x5 = r := e ▸ h
theorem gk7 {α0 α1 α2 α3 α4 α5 α6 β : Type} {K J : α0 → α1 → α2 → α3 → α4 → α5 → α6 → β} (e : K = J) {x0 : α0} {x1 : α1} {x2 : α2} {x3 : α3} {x4 : α4} {x5 : α5} {x6 : α6} {r : β} (h : K x0 x1 x2 x3 x4 x5 x6 = r) : J x0 x1 x2 x3 x4 x5 x6 = r := e ▸ h
theorem gk8 {α0 α1 α2 α3 α4 α5 α6 α7 β : Type} {K J : α0 → α1 → α2 → α3 → α4 → α5 → α6 → α7 → β} (e : K = J) {x0 : α0} {x1 : α1} {x2 : α2} {x3 : α3} {x4 : α4} {x5 : α5} {x6 : α6} {x7 : α7} {r : β} (h : K x0 x1 x2 x3 x4 x5 x6 x7 = r) : J x0 x1 x2 x3 x4 x5 x6 x7 = r := e ▸ h
theorem gk9 {α0 α1 α2 α3 α4 α5 α6 α7 α8 β : Type} {K J : α0 → α1 → α2 → α3 → α4 → α5 → α6 → α7 → α8 → β} (e : K = J) {x0 : α0} {x1 : α1} {x2 : α2} {x3 : α3} {x4 : α4} {x5 : α5} {x6 : α6} {x7 : α7} {x8 : α8} {r : β} (h : K x0 x1 x2 x3 x4 x5 x6 x7 x8 = r) : J x0 x1 x2 x3 x4 x5 x6 x7 x8 = r := e ▸ h
theorem gk10 {α0 α1 α2 α3 α4 α5 α6 α7 α8 α9 β : Type} {K J : α0 → α1 → α2 → α3 → α4 → α5 → α6 → α7 → α8 → α9 → β} (e : K = J) {x0 : α0} {x1 : α1} {x2 : α2} {x3 : α3} {x4 : α4} {x5 : α5} {x6 : α6} {x7 : α7} {x8 : α8} {x9 : α9} {r : β} (h : K x0 x1 x2 x3 x4 x5 x6 x7 x8 x9 = r) : J x0 x1 x2 x3 x4 x5 x6 x7 x8 x9 = r := e ▸ h
theorem gk11 {α0 α1 α2 α3 α4 α5 α6 α7 α8 α9 α10 β : Type} {K J : α0 → α1 → α2 → α3 → α4 → α5 → α6 → α7 → α8 → α9 → α10 → β} (e : K = J) {x0 : α0} {x1 : α1} {x2 : α2} {x3 : α3} {x4 : α4} {x5 : α5} {x6 : α6} {x7 : α7} {x8 : α8} {x9 : α9} {x10 : α10} {r : β} (h : K x0 x1 x2 x3 x4 x5 x6 x7 x8 x9 x10 = r) : J x0 x1 x2 x3 x4 x5 x6 x7 x8 x9 x10 = r := e ▸ h
theorem gk12 {α0 α1 α2 α3 α4 α5 α6 α7 α8 α9 α10 α11 β : Type} {K J : α0 → α1 → α2 → α3 → α4 → α5 → α6 → α7 → α8 → α9 → α10 → α11 → β} (e : K = J) {x0 : α0} {x1 : α1} {x2 : α2} {x3 : α3} {x4 : α4} {x5 : α5} {x6 : α6} {x7 : α7} {x8 : α8} {x9 : α9} {x10 : α10} {x11 : α11} {r : β} (h : K x0 x1 x2 x3 x4 x5 x6 x7 x8 x9 x10 x11 = r) : J x0 x1 x2 x3 x4 x5 x6 x7 x8 x9 x10 x11 = r := e ▸ h
theorem gk13 {α0 α1 α2 α3 α4 α5 α6 α7 α8 α9 α10 α11 α12 β : Type} {K J : α0 → α1 → α2 → α3 → α4 → α5 → α6 → α7 → α8 → α9 → α10 → α11 → α12 → β} (e : K = J) {x0 : α0} {x1 : α1} {x2 : α2} {x3 : α3} {x4 : α4} {x5 : α5} {x6 : α6} {x7 : α7} {x8 : α8} {x9 : α9} {x10 : α10} {x11 : α11} {x12 : α12} {r : β} (h : K x0 x1 x2 x3 x4 x5 x6 x7 x8 x9 x10 x11 x12 = r) : J x0 x1 x2 x3 x4 x5 x6 x7 x8 x9 x10 x11 x12 = r := e ▸ h
theorem gk14 {α0 α1 α2 α3 α4 α5 α6 α7 α8 α9 α10 α11 α12 α13 β : Type} {K J : α0 → α1 → α2 → α3 → α4 → α5 → α6 → α7 → α8 → α9 → α10 → α11 → α12 → α13 → β} (e : K = J) {x0 : α0} {x1 : α1} {x2 : α2} {x3 : α3} {x4 : α4} {x5 : α5} {x6 : α6} {x7 : α7} {x8 : α8} {x9 : α9} {x10 : α10} {x11 : α11} {x12 : α12} {x13 : α13} {r : β} (h : K x0 x1 x2 x3 x4 x5 x6 x7 x8 x9 x10 x11 x12 x13 = r) : J x0 x1 x2 x3 x4 x5 x6 x7 x8 x9 x10 x11 x12 x13 = r := e ▸ h
theorem gk15 {α0 α1 α2 α3 α4 α5 α6 α7 α8 α9 α10 α11 α12 α13 α14 β : Type} {K J : α0 → α1 → α2 → α3 → α4 → α5 → α6 → α7 → α8 → α9 → α10 → α11 → α12 → α13 → α14 → β} (e : K = J) {x0 : α0} {x1 : α1} {x2 : α2} {x3 : α3} {x4 : α4} {x5 : α5} {x6 : α6} {x7 : α7} {x8 : α8} {x9 : α9} {x10 : α10} {x11 : α11} {x12 : α12} {x13 : α13} {x14 : α14} {r : β} (h : K x0 x1 x2 x3 x4 x5 x6 x7 x8 x9 x10 x11 x12 x13 x14 = r) : J x0 x1 x2 x3 x4 x5 x6 x7 x8 x9 x10 x11 x12 x13 x14 = r := e ▸ h
theorem gk16 {α0 α1 α2 α3 α4 α5 α6 α7 α8 α9 α10 α11 α12 α13 α14 α15 β : Type} {K J : α0 → α1 → α2 → α3 → α4 → α5 → α6 → α7 → α8 → α9 → α10 → α11 → α12 → α13 → α14 → α15 → β} (e : K = J) {x0 : α0} {x1 : α1} {x2 : α2} {x3 : α3} {x4 : α4} {x5 : α5} {x6 : α6} {x7 : α7} {x8 : α8} {x9 : α9} {x10 : α10} {x11 : α11} {x12 : α12} {x13 : α13} {x14 : α14} {x15 : α15} {r : β} (h : K x0 x1 x2 x3 x4 x5 x6 x7 x8 x9 x10 x11 x12 x13 x14 x15 = r) : J x0 x1 x2 x3 x4 x5 x6 x7 x8 x9 x10 x11 x12 x13 x14 x15 = r := e ▸ h
/-! ===== rows over the world ===== -/
section GR
variable {p : Program} {l : Launch} {e : Env} {R : Room} {s : State} {m : MethodId} {args : Array Value} {below : List Frame} {meth : Method} {c : Code} {H : Heap} {locs : List Loc} {cells slots : Nat} {Q : State → Prop}
variable {cc : ByteArray} {pc : Nat} {ls : Array Slot} {rest : List Value} {D : gD} {A : Nat → Prop} {a : Nat} {w : gW}
theorem gw_get0 (hx : p.tables.exec = Jvm.exec) (hb : c.code = cc) (hT : gT s) {own : String} (hown : s.vm.findClass own = some m.cls) (hK : gK D s) (hI : gI D s A w H locs) {ci : Nat} {C ref : String} {T : u_T} {N index : Nat} (hc : gCl[ci]? = some (C, T, N)) (hin : ∀ z ∈ u_ws C T N, z ∈ gAll) (k : Nat) (hk : k < N) (hlink : Cond.fieldLink own index ref (T k).2.1 (T k).2.2.1 ∈ gAll) (hsame : ∀ x, s.fieldFound? (T k).1 (T k).2.1 (T k).2.2.1 = some x → s.fieldFound? ref (T k).2.1 (T k).2.2.1 = some x) {v : Value} (hv : gf w a ci k = some v) (hdg : decode cc pc = .ok (.getfield index, 3))
    (kk : W p l e R s m args below meth c H locs cells slots Q (F0 m (pc + 3) ls (v :: rest))) : W p l e R s m args below meth c H locs cells slots Q (F0 m pc ls (.ref a :: rest)) := by
  obtain ⟨fs, h1, h2⟩ := gf_some hv
  exact va_get (D := (D.1, D.2.1)) (cl := gCl) (ws := [(a, .inr (ci, fs))]) (tys := []) hx hb (Ts := gAll) (fun z h => hT z h args) hin hown hK.va (hI.one h1) 0 rfl hc k hk (hT _ hlink args) hsame h2 hdg kk
theorem gw_getI (hx : p.tables.exec = Jvm.exec) (hb : c.code = cc) (hT : gT s) {own : String} (hown : s.vm.findClass own = some m.cls) (hK : gK D s) (hI : gI D s A w H locs) {ci : Nat} {C ref : String} {T : u_T} {N index : Nat} (hc : gCl[ci]? = some (C, T, N)) (hin : ∀ z ∈ u_ws C T N, z ∈ gAll) (k : Nat) (hk : k < N) (hlink : Cond.fieldLink own index ref (T k).2.1 (T k).2.2.1 ∈ gAll) (hsame : ∀ x, s.fieldFound? (T k).1 (T k).2.1 (T k).2.2.1 = some x → s.fieldFound? ref (T k).2.1 (T k).2.2.1 = some x) {v : Int32} (hv : gfI w a ci k = some v) (hdg : decode cc pc = .ok (.getfield index, 3))
    (kk : W p l e R s m args below meth c H locs cells slots Q (F0 m (pc + 3) ls (.int v :: rest))) : W p l e R s m args below meth c H locs cells slots Q (F0 m pc ls (.ref a :: rest)) := gw_get0 hx hb hT hown hK hI hc hin k hk hlink hsame (gvI_some hv) hdg kk
theorem gw_getJ (hx : p.tables.exec = Jvm.exec) (hb : c.code = cc) (hT : gT s) {own : String} (hown : s.vm.findClass own = some m.cls) (hK : gK D s) (hI : gI D s A w H locs) {ci : Nat} {C ref : String} {T : u_T} {N index : Nat} (hc : gCl[ci]? = some (C, T, N)) (hin : ∀ z ∈ u_ws C T N, z ∈ gAll) (k : Nat) (hk : k < N) (hlink : Cond.fieldLink own index ref (T k).2.1 (T k).2.2.1 ∈ gAll) (hsame : ∀ x, s.fieldFound? (T k).1 (T k).2.1 (T k).2.2.1 = some x → s.fieldFound? ref (T k).2.1 (T k).2.2.1 = some x) {v : Int64} (hv : gfJ w a ci k = some v) (hdg : decode cc pc = .ok (.getfield index, 3))
    (kk : W p l e R s m args below meth c H locs cells slots Q (F0 m (pc + 3) ls (.long v :: rest))) : W p l e R s m args below meth c H locs cells slots Q (F0 m pc ls (.ref a :: rest)) := gw_get0 hx hb hT hown hK hI hc hin k hk hlink hsame (gvJ_some hv) hdg kk
theorem gw_getA (hx : p.tables.exec = Jvm.exec) (hb : c.code = cc) (hT : gT s) {own : String} (hown : s.vm.findClass own = some m.cls) (hK : gK D s) (hI : gI D s A w H locs) {ci : Nat} {C ref : String} {T : u_T} {N index : Nat} (hc : gCl[ci]? = some (C, T, N)) (hin : ∀ z ∈ u_ws C T N, z ∈ gAll) (k : Nat) (hk : k < N) (hlink : Cond.fieldLink own index ref (T k).2.1 (T k).2.2.1 ∈ gAll) (hsame : ∀ x, s.fieldFound? (T k).1 (T k).2.1 (T k).2.2.1 = some x → s.fieldFound? ref (T k).2.1 (T k).2.2.1 = some x) {v : Nat} (hv : gfA w a ci k = some v) (hdg : decode cc pc = .ok (.getfield index, 3))
    (kk : W p l e R s m args below meth c H locs cells slots Q (F0 m (pc + 3) ls (.ref v :: rest))) : W p l e R s m args below meth c H locs cells slots Q (F0 m pc ls (.ref a :: rest)) := gw_get0 hx hb hT hown hK hI hc hin k hk hlink hsame (gvA_some hv) hdg kk
theorem gw_put (hx : p.tables.exec = Jvm.exec) (hb : c.code = cc) (hT : gT s) {own : String} (hown : s.vm.findClass own = some m.cls) (hK : gK D s) (hI : gI D s A w H locs) {ci : Nat} {C ref : String} {T : u_T} {N index : Nat} (hc : gCl[ci]? = some (C, T, N)) (hin : ∀ z ∈ u_ws C T N, z ∈ gAll) (ty0 : Nat → FieldType) (hty : ∀ k, k < N → parseFieldDescriptor (T k).2.2.1 = some (ty0 k)) (hnm : ∀ a, a < N → ∀ b, b < N → a ≠ b → (T a).2.1 ≠ (T b).2.1) (k : Nat) (hk : k < N) (hlink : Cond.fieldLink own index ref (T k).2.1 (T k).2.2.1 ∈ gAll) (hsame : ∀ x, s.fieldFound? (T k).1 (T k).2.1 (T k).2.2.1 = some x → s.fieldFound? ref (T k).2.1 (T k).2.2.1 = some x) (hfin : (T k).2.2.2 = false) {ty : FieldType} {v : Value} (hd : parseFieldDescriptor (T k).2.2.1 = some ty) (hn : narrow ty v = v) (hfit : fits ty v = true) {w' : gW} (hv : gp w a ci k v = some w') (hdg : decode cc pc = .ok (.putfield index, 3))
    (kk : ∀ (H1 : Heap) (locs1 : List Loc), gI D s A w' H1 locs1 → W p l e R s m args below meth c H1 locs1 cells slots Q (F0 m (pc + 3) ls rest)) : W p l e R s m args below meth c H locs cells slots Q (F0 m pc ls (v :: .ref a :: rest)) := by
  obtain ⟨fs, h1, h2, rfl⟩ := gp_some hv
  have hts : ∀ z ∈ gAll, z.before args s = true := fun z h => hT z h args
  have hap := va_apart (D := (D.1, D.2.1)) (cl := gCl) (tys := []) (own := own) (args := args) hts hin ty0 hty hnm hK.va hc
  obtain ⟨r, hr, cell, q1, q2, q3, q4⟩ := hI.2.1 a _ h1
  cases Option.some.inj (hr.symm.trans hc)
  obtain ⟨hS, hfc, kC, hkC, hkind⟩ := hK.1 ci _ hc
  obtain ⟨cf, kf, fi, f, hi, hsl⟩ := hS k hk
  have hlay := hts _ (hin _ (u_in_lay hk))
  unfold u_lay at hlay
  rw [if_neg (by rw [hfin]; decide)] at hlay
  have hst := (u_facts hfc hkC (u_lays hts hin hk) hi).1
  have h6 := u_store hfc hkC hkind hlay hi hd hn hfit
  refine W.putK hx hb (f := f) ⟨hown, hts _ hlink, ⟨_, _, _, hsame _ hi⟩, hst⟩ (by rw [q2]; exact h6) q1 q3 (by rw [hsl]; exact k2_hasslot (q4 k hk)) rfl rfl hdg fun H' e1 e2 e3 => ?_
  rw [hsl] at e1 ⊢
  exact kk H' _ (hI.put h1 trivial e2 e3 ⟨_, hc, t_OB.to (V := updV (vp_V fs) k v) ⟨_, e1, q2, q3, t_set q4 hap hk v⟩ (fun j _ => vp_updV_set h2 v j)⟩)
theorem gw_putF (hx : p.tables.exec = Jvm.exec) (hb : c.code = cc) (hT : gT s) {own : String} (hown : s.vm.findClass own = some m.cls) (hK : gK D s) (hI : gI D s A w H locs) {ci : Nat} {C ref : String} {T : u_T} {N index : Nat} (hc : gCl[ci]? = some (C, T, N)) (hin : ∀ z ∈ u_ws C T N, z ∈ gAll) (ty0 : Nat → FieldType) (hty : ∀ k, k < N → parseFieldDescriptor (T k).2.2.1 = some (ty0 k)) (hnm : ∀ a, a < N → ∀ b, b < N → a ≠ b → (T a).2.1 ≠ (T b).2.1) (k : Nat) (hk : k < N) (hlink : Cond.fieldLink own index ref (T k).2.1 (T k).2.2.1 ∈ gAll) (hsame : ∀ x, s.fieldFound? (T k).1 (T k).2.1 (T k).2.2.1 = some x → s.fieldFound? ref (T k).2.1 (T k).2.2.1 = some x) (hfin : (T k).2.2.2 = true) (hin2 : meth.name = "<init>") (hdecl : (T k).1 = own) {ty : FieldType} {v : Value} (hd : parseFieldDescriptor (T k).2.2.1 = some ty) (hn : narrow ty v = v) (hfit : fits ty v = true) {w' : gW} (hv : gp w a ci k v = some w') (hdg : decode cc pc = .ok (.putfield index, 3))
    (kk : ∀ (H1 : Heap) (locs1 : List Loc), gI D s A w' H1 locs1 → W p l e R s m args below meth c H1 locs1 cells slots Q (F0 m (pc + 3) ls rest)) : W p l e R s m args below meth c H locs cells slots Q (F0 m pc ls (v :: .ref a :: rest)) := by
  obtain ⟨fs, h1, h2, rfl⟩ := gp_some hv
  have hts : ∀ z ∈ gAll, z.before args s = true := fun z h => hT z h args
  have hap := va_apart (D := (D.1, D.2.1)) (cl := gCl) (tys := []) (own := own) (args := args) hts hin ty0 hty hnm hK.va hc
  obtain ⟨r, hr, cell, q1, q2, q3, q4⟩ := hI.2.1 a _ h1
  cases Option.some.inj (hr.symm.trans hc)
  obtain ⟨hS, hfc, kC, hkC, hkind⟩ := hK.1 ci _ hc
  obtain ⟨cf, kf, fi, f, hi, hsl⟩ := hS k hk
  have hlay := hts _ (hin _ (u_in_lay hk))
  unfold u_lay at hlay
  rw [if_pos hfin] at hlay
  have hst := (u_facts hfc hkC (u_lays hts hin hk) hi).1
  have hcf : m.cls = cf := by
    obtain ⟨_, _, c', _, _, _, -, -, hf', -, -, -, hown2, -⟩ := Cond.laysFinal_spec hlay
    have e1 : c' = cf := by have := hi.symm.trans hf'; simp at this; exact this.1.symm
    rw [hdecl] at hown2
    rw [← e1]; exact Option.some.inj (hown.symm.trans hown2)
  have h6 := u_fits hfc hkC hkind (Or.inr hlay) hi hd hn hfit
  refine W.putFinK hx hb hown (hts _ hlink) (hsame _ hi) hst hcf hin2 (by rw [q2]; exact h6) q1 q3 (by rw [hsl]; exact k2_hasslot (q4 k hk)) rfl rfl hdg fun H' e1 e2 e3 => ?_
  rw [hsl] at e1 ⊢
  exact kk H' _ (hI.put h1 trivial e2 e3 ⟨_, hc, t_OB.to (V := updV (vp_V fs) k v) ⟨_, e1, q2, q3, t_set q4 hap hk v⟩ (fun j _ => vp_updV_set h2 v j)⟩)
theorem gw_new (hx : p.tables.exec = Jvm.exec) (hb : c.code = cc) (hT : gT s) {own : String} (hown : s.vm.findClass own = some m.cls) (hK : gK D s) (hI : gI D s A w H locs) (hA : ∀ q : Nat, s.heap.size ≤ q → A q) {ci : Nat} {C : String} {T : u_T} {N index : Nat} (hc : gCl[ci]? = some (C, T, N)) (hin : ∀ z ∈ u_ws C T N, z ∈ gAll) (ty : Nat → FieldType) (hty : ∀ k, k < N → parseFieldDescriptor (T k).2.2.1 = some (ty k)) {n : Nat} (hcl : Cond.classLink own index C ∈ gAll) (hinst : Cond.instantiable C n ∈ gAll) (hini : Cond.initialized C ∈ gAll) {fs : List Value} (hfs : ∀ j, j < N → defaultValue (ty j) = vp_V fs j) {b : Nat} {w' : gW} (hv : gnw w ci fs = some (b, w')) (hcells : cells + 1 ≤ R.cells) (hslots : slots + n ≤ R.slots) (hdg : decode cc pc = .ok (.new index, 3))
    (kk : ∀ (H1 : Heap), gI D s A w' H1 locs → W p l e R s m args below meth c H1 locs (cells + 1) (slots + n) Q (F0 m (pc + 3) ls (.ref b :: rest))) : W p l e R s m args below meth c H locs cells slots Q (F0 m pc ls rest) := by
  have hts : ∀ z ∈ gAll, z.before args s = true := fun z h => hT z h args
  unfold gnw at hv
  cases hv
  have hKn := hK.1 ci _ hc
  refine W.newcK hx hb hown (hts _ hcl) (hts _ hinst) (hts _ hini) rfl hdg hcells hslots hKn.2.1 hI.1 fun H1 kC hkC e1 z1 o1 => ?_
  rw [← hI.1] at e1 z1 o1
  refine kk H1 (hI.push hA z1 o1 ⟨_, hc, (u_born ty hts hin hKn hkC e1 hty).to hfs⟩)
theorem gw_newa (hx : p.tables.exec = Jvm.exec) (hb : c.code = cc) (hK : gK D s) (hI : gI D s A w H locs) (hA : ∀ q : Nat, s.heap.size ≤ q → A q) {atype : ArrayType} (harr : (Cond.arrayClass (newarray.typeOf atype)).before args s = true) {ty : FieldType} (hty : newarray.typeOf atype = ty) {k : Nat} (hk : gTy[k]? = some ty) (hob : va_RA s (D.2.2 k) ty → s.vm.findClass ("[" ++ ty.toString) = some (D.2.2 k)) {n : Int32} {M b : Nat} {w' : gW} (hv : gna w k n M (defaultValue ty) = some (b, w')) (hcells : cells + 1 ≤ R.cells) (hslots : slots + M ≤ R.slots) (hbytes : M * componentBytes ty ≤ 536870912) (hdg : decode cc pc = .ok (.newarray atype, 2))
    (kk : ∀ (H1 : Heap), gI D s A w' H1 locs → W p l e R s m args below meth c H1 locs (cells + 1) (slots + M) Q (F0 m (pc + 2) ls (.ref b :: rest))) : W p l e R s m args below meth c H locs cells slots Q (F0 m pc ls (.int n :: rest)) := by
  subst hty
  obtain ⟨h1, h2, rfl, rfl⟩ := gna_some hv
  refine va_newaK hx hb harr rfl hdg rfl h1 rfl (Nat.le_trans (Nat.mul_le_mul_right _ h2) hbytes) hcells (Nat.le_trans (Nat.add_le_add_left h2 _) hslots) hI.1 fun H1 cA e1 z1 o1 hAr hNm => ?_
  rw [← hI.1] at e1 z1 o1
  have hcA : cA = D.2.2 k := Option.some.inj (hNm.symm.trans (hob (hK.2.1 k _ hk).2))
  subst hcA
  rw [← hI.1]
  refine W.widen (Nat.le_refl _) (Nat.add_le_add_left h2 _) ?_
  rw [hI.1]
  exact kk H1 (hI.push hA z1 o1 (gAt.mk (show k < 4 from (List.getElem?_eq_some_iff.mp hk).1) e1))
theorem gw_anew (hx : p.tables.exec = Jvm.exec) (hb : c.code = cc) {own : String} (hown : s.vm.findClass own = some m.cls) (hK : gK D s) (hI : gI D s A w H locs) (hA : ∀ q : Nat, s.heap.size ≤ q → A q) {C : String} {index : Nat} (hcl : (Cond.classLink own index C).before args s = true) (hov : (Cond.arrayOver (.object C)).before args s = true) {k : Nat} (hk : gTy[k]? = some (.object C)) {n : Int32} {M b : Nat} {w' : gW} (hv : gna w k n M .null = some (b, w')) (hcells : cells + 1 ≤ R.cells) (hslots : slots + M ≤ R.slots) (hbytes : M * 4 ≤ 536870912) (hdg : decode cc pc = .ok (.anewarray index, 3))
    (kk : ∀ (H1 : Heap), gI D s A w' H1 locs → W p l e R s m args below meth c H1 locs (cells + 1) (slots + M) Q (F0 m (pc + 3) ls (.ref b :: rest))) : W p l e R s m args below meth c H locs cells slots Q (F0 m pc ls (.int n :: rest)) := by
  obtain ⟨h1, h2, rfl, rfl⟩ := gna_some hv
  refine W.anew hx hb hown hcl hov rfl hdg rfl h1 (Nat.le_trans (Nat.mul_le_mul_right _ h2) hbytes) hcells (Nat.le_trans (Nat.add_le_add_left h2 _) hslots) fun cA kA comp f1 f2 f3 f4 => ?_
  obtain ⟨kA', comp', g1, g2, g3, g4⟩ := (hK.2.1 k _ hk).2
  have hcA : cA = D.2.2 k := Option.some.inj (f1.symm.trans g4)
  subst hcA
  generalize hH1 : H.push ({ cls := D.2.2 k, slots := Array.replicate n.toNatClampNeg .null, vm := .none } : Cell) = H1
  have z1 : H1.size = H.size + 1 := by rw [← hH1, Array.size_push]
  have e1 : H1[H.size]? = some (arrV (D.2.2 k) n.toNatClampNeg (fun _ => .null)) := by rw [← hH1, Array.getElem?_push_size, ← arrV_new]
  have o1 : ∀ q : Nat, q < H.size → H1[q]? = H[q]? := fun q hq => by rw [← hH1, Array.getElem?_push, if_neg (Nat.ne_of_lt hq)]
  refine W.widen (Nat.le_refl _) (Nat.add_le_add_left h2 _) ?_
  rw [hI.1]
  exact kk H1 (hI.push hA z1 o1 (gAt.mk (show k < 4 from (List.getElem?_eq_some_iff.mp hk).1) e1))
theorem gw_alen (hx : p.tables.exec = Jvm.exec) (hb : c.code = cc) (hK : gK D s) (hI : gI D s A w H locs) {x : Int32} (hv : gal w a = some x) (hdg : decode cc pc = .ok (.arraylength, 1))
    (kk : W p l e R s m args below meth c H locs cells slots Q (F0 m (pc + 1) ls (.int x :: rest))) : W p l e R s m args below meth c H locs cells slots Q (F0 m pc ls (.ref a :: rest)) := by
  obtain ⟨k, n, f, h1, hk, rfl⟩ := gal_some hv
  obtain ⟨ty, hty⟩ := hK.arrs hk
  obtain ⟨scr, g1, g2, g3, g4, g5, g6⟩ := (hI.2.1 a _ h1).any
  exact W.alen hx hb g1 (garr hty g2 g3) (by rw [g5]; rfl) rfl rfl hdg kk
theorem gw_aldI (hx : p.tables.exec = Jvm.exec) (hb : c.code = cc) (hK : gK D s) (hI : gI D s A w H locs) {i x : Int32} (hv : gaI w a i = some x) (hdg : decode cc pc = .ok (.iaload, 1))
    (kk : W p l e R s m args below meth c H locs cells slots Q (F0 m (pc + 1) ls (.int x :: rest))) : W p l e R s m args below meth c H locs cells slots Q (F0 m pc ls (.int i :: .ref a :: rest)) := by
  obtain ⟨n, f, h1, hin, h2⟩ := gar_some (gvI_some hv)
  have hlt : i.toNatClampNeg < n := Nat.not_le.mp fun q => hin (Or.inr q)
  obtain ⟨scr, g1, g2, g3, g4, g5, g6⟩ := (hI.2.1 a _ h1).any
  exact W.iald (v := .int x) hx hb g1 (garr (gki_ty hK w a) g2 g3) g4 (by rw [g5]; exact hin) (by rw [g6 _ hlt]; exact congrArg some h2) rfl rfl hdg kk
theorem gw_aldJ (hx : p.tables.exec = Jvm.exec) (hb : c.code = cc) (hK : gK D s) (hI : gI D s A w H locs) {i : Int32} {x : Int64} (hv : gaJ w a i = some x) (hdg : decode cc pc = .ok (.laload, 1))
    (kk : W p l e R s m args below meth c H locs cells slots Q (F0 m (pc + 1) ls (.long x :: rest))) : W p l e R s m args below meth c H locs cells slots Q (F0 m pc ls (.int i :: .ref a :: rest)) := by
  obtain ⟨n, f, h1, hin, h2⟩ := gar_some (gvJ_some hv)
  have hlt : i.toNatClampNeg < n := Nat.not_le.mp fun q => hin (Or.inr q)
  exact W.lald (v := .long x) hx hb ((hI.2.1 a _ h1).arr (by decide)) ((hK.2.1 1 .long rfl).1 n f) (fun q => by cases q) (by show ¬ (i < 0 ∨ (arrV _ _ _).slots.size ≤ _); rw [arrV_size]; exact hin) (by show (arrV _ _ _).slots[_]? = _; rw [arrV_read _ _ hlt]; exact congrArg some h2) rfl rfl hdg kk
theorem gw_aldA (hx : p.tables.exec = Jvm.exec) (hb : c.code = cc) (hK : gK D s) (hI : gI D s A w H locs) {i : Int32} {x : Nat} (hv : gaA w a i = some x) (hdg : decode cc pc = .ok (.aaload, 1))
    (kk : W p l e R s m args below meth c H locs cells slots Q (F0 m (pc + 1) ls (.ref x :: rest))) : W p l e R s m args below meth c H locs cells slots Q (F0 m pc ls (.int i :: .ref a :: rest)) := by
  obtain ⟨k, C, hk, hv⟩ := gaA_some hv
  obtain ⟨n, f, h1, hin, h2⟩ := gar_some hv
  have hlt : i.toNatClampNeg < n := Nat.not_le.mp fun q => hin (Or.inr q)
  exact W.aald (v := .ref x) (ty := .object C) hx hb ((hI.2.1 a _ h1).arr (show k < 4 from (List.getElem?_eq_some_iff.mp hk).1)) ((hK.2.1 k _ hk).1 n f) rfl (fun q => by cases q) (by show ¬ (i < 0 ∨ (arrV _ _ _).slots.size ≤ _); rw [arrV_size]; exact hin) (by show (arrV _ _ _).slots[_]? = _; rw [arrV_read _ _ hlt]; exact congrArg some h2) rfl rfl hdg kk
theorem gw_astI (hx : p.tables.exec = Jvm.exec) (hb : c.code = cc) (hK : gK D s) (hI : gI D s A w H locs) {i x : Int32} {w' : gW} (hv : gsI w a i x = some w') (hdg : decode cc pc = .ok (.iastore, 1))
    (kk : ∀ (H1 : Heap) (locs1 : List Loc), gI D s A w' H1 locs1 → W p l e R s m args below meth c H1 locs1 cells slots Q (F0 m (pc + 1) ls rest)) : W p l e R s m args below meth c H locs cells slots Q (F0 m pc ls (.int x :: .int i :: .ref a :: rest)) := by
  obtain ⟨n, f, h1, hin, rfl⟩ := gas_some hv
  refine W.iast hx hb ((hI.2.1 a _ h1).arr (by decide)) ((hK.2.1 0 .int rfl).1 n f) (fun q => by cases q) (by show ¬ (i < 0 ∨ (arrV _ _ _).slots.size ≤ _); rw [arrV_size]; exact hin) rfl rfl hdg fun H1 e1 z1 o1 => ?_
  exact kk H1 _ (hI.put h1 ⟨(show (0 : Nat) < 4 by decide), (fun q => hin (Or.inr (by rw [show n = 0 from q]; exact Nat.zero_le _)))⟩ z1 o1 (gAt.mk (by decide) (e1.trans (by show some (Cell.setSlot (arrV _ _ _) _ _) = _; rw [arrV_store]))))
theorem gw_astJ (hx : p.tables.exec = Jvm.exec) (hb : c.code = cc) (hK : gK D s) (hI : gI D s A w H locs) {i : Int32} {x : Int64} {w' : gW} (hv : gsJ w a i x = some w') (hdg : decode cc pc = .ok (.lastore, 1))
    (kk : ∀ (H1 : Heap) (locs1 : List Loc), gI D s A w' H1 locs1 → W p l e R s m args below meth c H1 locs1 cells slots Q (F0 m (pc + 1) ls rest)) : W p l e R s m args below meth c H locs cells slots Q (F0 m pc ls (.long x :: .int i :: .ref a :: rest)) := by
  obtain ⟨n, f, h1, hin, rfl⟩ := gas_some hv
  refine W.last hx hb ((hI.2.1 a _ h1).arr (by decide)) ((hK.2.1 1 .long rfl).1 n f) (fun q => by cases q) (by show ¬ (i < 0 ∨ (arrV _ _ _).slots.size ≤ _); rw [arrV_size]; exact hin) rfl rfl hdg fun H1 e1 z1 o1 => ?_
  exact kk H1 _ (hI.put h1 ⟨(show (1 : Nat) < 4 by decide), (fun q => hin (Or.inr (by rw [show n = 0 from q]; exact Nat.zero_le _)))⟩ z1 o1 (gAt.mk (by decide) (e1.trans (by show some (Cell.setSlot (arrV _ _ _) _ _) = _; rw [arrV_store]))))
end GR
