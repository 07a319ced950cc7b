section
variable {Γ : gΓ} {w0 w : gW} {a y c k : Nat} {t : Ty} {g0 : gG}
theorem gIv.fld (hI : gIv Γ w0 w) (ha : Γ.T a = some t) {s : FS} (hs : spc t c k = some s) : ∃ v, gf w a c k = some v ∧ vOk Γ s v := by
  have hi := spc_obj hs
  obtain ⟨fs, h1, h2, h3⟩ := (okE_obj hi).mp (hI.ok a t ha)
  unfold spc at hs
  split at hs
  · rename_i hc
    have hk : k < fs.length := by
      have := (List.getElem?_eq_some_iff.mp hs).1
      omega
    refine ⟨fs[k], ?_, h3 k s _ hs (List.getElem?_eq_getElem hk)⟩
    simp [gf, h1, hc, hk]
  · cases hs
theorem gIv.long (hI : gIv Γ w0 w) (ha : Γ.T a = some t) (hs : spc t c k = some FS.j) : ∃ v, gfJ w a c k = some v := by
  obtain ⟨v, h1, h2⟩ := hI.fld ha hs
  cases v <;> simp only [vOk] at h2
  rename_i v
  exact ⟨v, by simp [gfJ, h1, gvJ]⟩
theorem gIv.ref (hI : gIv Γ w0 w) (ha : Γ.T a = some t) {t' : Ty} (hs : spc t c k = some (FS.r t')) : ∃ y, gfA w a c k = some y ∧ Γ.T y = some t' := by
  obtain ⟨v, h1, h2⟩ := hI.fld ha hs
  cases v <;> simp only [vOk] at h2
  exact ⟨_, by simp [gfA, h1, gvA], h2⟩
def tcl (t : Ty) : Nat := if t.1 = 1 then 1 else (specs t).1
theorem gIv.ck (hI : gIv Γ w0 w) (ha : Γ.T a = some t) (hc : tcl t = c) (hn : c ≠ 99) : gck w a c = some () := by
  unfold tcl at hc
  split at hc
  · rename_i h1
    obtain ⟨y, s, m, h, -⟩ := (hI.ok a t ha).2 h1
    simp [gck, h, hc]
  · have hi : isO t := by
      unfold specs at hc
      unfold isO
      split at hc
      all_goals first
        | (rename_i e; omega)
        | (simp at hc; exact absurd hc.symm hn)
    obtain ⟨fs, h, -⟩ := (okE_obj hi).mp (hI.ok a t ha)
    simp [gck, h, hc]
theorem gIv.aJ (hI : gIv Γ w0 w) {n : Nat} (ha : Γ.T a = some (Ty.aj n)) {i : Int32} (h0 : 0 ≤ i.toInt) (hn : i.toInt < n) : ∃ v, gaJ w a i = some v := by
  obtain ⟨⟨e, h1, f, he, h2⟩, -⟩ := hI.ok a _ ha
  subst he
  have hi : i.toNatClampNeg < n := by rw [y_cl]; omega
  obtain ⟨v, hv⟩ := h2 _ hi
  have hz : ¬ i < 0 := by
    rw [Int32.lt_iff_toInt_lt, Int32.toInt_zero]
    omega
  exact ⟨v, by simp [gaJ, gar, h1, hz, hi, hv, gvJ]⟩
theorem gIv.aI (hI : gIv Γ w0 w) {n : Nat} {lo hi : Int} (ha : Γ.T a = some (Ty.ai n lo hi)) {i : Int32} (h0 : 0 ≤ i.toInt) (hn : i.toInt < n) : ∃ v, gaI w a i = some v ∧ lo ≤ v.toInt ∧ v.toInt ≤ hi := by
  obtain ⟨⟨e, h1, f, he, h2⟩, -⟩ := hI.ok a _ ha
  subst he
  have hi' : i.toNatClampNeg < n := by rw [y_cl]; omega
  obtain ⟨v, hv, hr⟩ := h2 _ hi'
  have hz : ¬ i < 0 := by
    rw [Int32.lt_iff_toInt_lt, Int32.toInt_zero]
    omega
  exact ⟨v, by simp [gaI, gki, gar, h1, hz, hi', hv, gvI], hr⟩
theorem gIv.aS (hI : gIv Γ w0 w) (ha : Γ.T a = some Ty.asol) {i : Int32} (h0 : 0 ≤ i.toInt) (hn : i.toInt < 12) : ∃ y, gaA w a i = some y ∧ Γ.T y = some Ty.solid := by
  obtain ⟨⟨e, h1, f, he, h2⟩, -⟩ := hI.ok a _ ha
  subst he
  have hi' : i.toNatClampNeg < 12 := by rw [y_cl]; omega
  obtain ⟨v, hv, hr⟩ := h2 _ hi'
  have hz : ¬ i < 0 := by
    rw [Int32.lt_iff_toInt_lt, Int32.toInt_zero]
    omega
  exact ⟨v, by simp [gaA, gob, gar, h1, hz, hi', hv, gvA], hr⟩
theorem okE.upd {e : gE} {b : Nat} {u : Ty} (hI : gIv Γ w0 w) (hb : Γ.T b = some u) (hne : b ≠ a) (hrow : ∀ o c n, Γ.T a ≠ some (Ty.row o c n)) : okE Γ (gup w a e) b u := by
  obtain ⟨⟨e0, h1, h2⟩, h3⟩ := hI.ok b u hb
  have e1 : (gup w a e).1 b = w.1 b := by simp [gup, hne]
  refine ⟨⟨e0, e1.trans h1, h2⟩, fun hu => ?_⟩
  obtain ⟨y, s, m, g0, g1⟩ := h3 hu
  refine ⟨y, s, m, e1.trans g0, g1.imp id ?_⟩
  rintro ⟨n, f, g1, g2, g3, g4⟩
  have : y ≠ a := by
    intro hy
    rw [hy] at g1
    exact hrow _ _ _ g1
  exact ⟨n, f, g1, g2, by simp [gup, this, g3], g4⟩
theorem gIv.put (hI : gIv Γ w0 w) (ha : Γ.T a = some t) (hq : Γ.Q t = false) (hrow : t.1 ≠ 2) {e : gE} (he : okE Γ (gup w a e) a t) : gIv Γ w0 (gup w a e) := by
  refine ⟨fun b u hb => ?_, hI.lt, hI.le, fun q hq0 hn => ?_, fun b u hb hu => ?_⟩
  · by_cases hba : b = a
    · subst hba
      rw [ha] at hb
      cases hb
      exact he
    · refine okE.upd hI hb hba (fun o c n h => ?_)
      have h' := Option.some.inj (ha.symm.trans h)
      rw [h'] at hrow
      exact hrow rfl
  · have : q ≠ a := by intro h; rw [h, ha] at hn; cases hn
    simp [gup, this, hI.fr q hq0 hn]
  · have : b ≠ a := by
      intro h
      rw [h, ha] at hb
      cases hb
      rw [hq] at hu
      cases hu
    simp [gup, this, hI.fz b u hb hu]
theorem gIv.pf (hI : gIv Γ w0 w) (ha : Γ.T a = some t) {s : FS} {v : Value} (hs : spc t c k = some s) (hv : vOk Γ s v) (hq : Γ.Q t = false) : ∃ w', gp w a c k v = some w' ∧ gIv Γ w0 w' ∧ gf w' a c k = some v ∧ (∀ j, j ≠ k → gf w' a c j = gf w a c j) ∧ (∀ q, q ≠ a → w'.1 q = w.1 q) ∧ w'.2 = w.2 := by
  have hi := spc_obj hs
  obtain ⟨fs, h1, h2, h3⟩ := (okE_obj hi).mp (hI.ok a t ha)
  unfold spc at hs
  split at hs
  · rename_i hc
    have hk : k < fs.length := by
      have := (List.getElem?_eq_some_iff.mp hs).1
      omega
    refine ⟨gup w a (.inr (c, fs.set k v)), by simp [gp, h1, hc, hk], ?_, by simp [gf, gup, hk], fun j hj => ?_, fun q hq => by simp [gup, hq], rfl⟩
    · refine hI.put ha hq hi.n2 ?_
      refine (okE_obj hi).mpr ⟨fs.set k v, by simp [gup, hc], by simp [h2], fun j s' v' hj hv' => ?_⟩
      by_cases hjk : k = j
      · subst hjk
        rw [hs] at hj
        cases hj
        simp [hk] at hv'
        subst hv'
        exact hv
      · rw [List.getElem?_set_ne hjk] at hv'
        exact h3 j s' v' hj hv'
    · simp [gf, gup, h1, hc, List.getElem?_set_ne (Ne.symm hj)]
  · cases hs
theorem gIv.sJ (hI : gIv Γ w0 w) {n : Nat} (ha : Γ.T a = some (Ty.aj n)) {i : Int32} {x : Int64} (h0 : 0 ≤ i.toInt) (hn : i.toInt < n) (hq : Γ.Q (Ty.aj n) = false) : ∃ w', gsJ w a i x = some w' ∧ gIv Γ w0 w' ∧ (∀ q, q ≠ a → w'.1 q = w.1 q) ∧ w'.2 = w.2 := by
  obtain ⟨⟨e, h1, f, he, h2⟩, -⟩ := hI.ok a _ ha
  subst he
  have hi : i.toNatClampNeg < n := by rw [y_cl]; omega
  have hz : ¬ i < 0 := by
    rw [Int32.lt_iff_toInt_lt, Int32.toInt_zero]
    omega
  refine ⟨gup w a (.inl (1, n, updV f i.toNatClampNeg (.long x))), by simp [gsJ, gas, h1, hz, hi], ?_, fun q hq => by simp [gup, hq], rfl⟩
  refine hI.put ha hq (by simp) ⟨⟨_, by simp only [gup, if_true], updV f i.toNatClampNeg (.long x), rfl, fun j hj => ?_⟩, fun e => by cases e⟩
  unfold updV
  split
  · exact ⟨_, rfl⟩
  · exact h2 j hj
theorem gIv.sI (hI : gIv Γ w0 w) {n : Nat} {lo hi : Int} (ha : Γ.T a = some (Ty.ai n lo hi)) {i x : Int32} (h0 : 0 ≤ i.toInt) (hn : i.toInt < n) (hl : lo ≤ x.toInt) (hh : x.toInt ≤ hi) (hq : Γ.Q (Ty.ai n lo hi) = false) : ∃ w', gsI w a i x = some w' ∧ gIv Γ w0 w' ∧ (∀ q, q ≠ a → w'.1 q = w.1 q) ∧ w'.2 = w.2 := by
  obtain ⟨⟨e, h1, f, he, h2⟩, -⟩ := hI.ok a _ ha
  subst he
  have hi' : i.toNatClampNeg < n := by rw [y_cl]; omega
  have hz : ¬ i < 0 := by
    rw [Int32.lt_iff_toInt_lt, Int32.toInt_zero]
    omega
  refine ⟨gup w a (.inl (0, n, updV f i.toNatClampNeg (.int x))), by simp [gsI, gas, h1, hz, hi'], ?_, fun q hq => by simp [gup, hq], rfl⟩
  refine hI.put ha hq (by simp) ⟨⟨_, by simp only [gup, if_true], updV f i.toNatClampNeg (.int x), rfl, fun j hj => ?_⟩, fun e => by cases e⟩
  unfold updV
  split
  · exact ⟨_, rfl, hl, hh⟩
  · exact h2 j hj
theorem gIv.thr (hI : gIv Γ w0 w) : gIv Γ w0 (w.1, w.2 + 1) :=
  ⟨fun b u hb => hI.ok b u hb, fun b u hb => Nat.lt_succ_of_lt (hI.lt b u hb), Nat.le_succ_of_le hI.le, hI.fr, hI.fz⟩
theorem gf_keep {w w' : gW} {a : Nat} {e : Nat × Nat × (Nat → Value)} (ha : w.1 a = some (.inl e)) (h : ∀ q, q ≠ a → w'.1 q = w.1 q) : ∀ b c k x, gf w b c k = some x → gf w' b c k = some x := by
  intro b c k x hx
  by_cases hb : b = a
  · subst hb
    simp [gf, ha] at hx
  · unfold gf at *
    rw [h b hb]
    exact hx
variable {α β : Type} {P : β → gW → Prop} {E : String → gW → Prop}
theorem w_X {v : Int32} {K : Int32 → gX β} (hx : gf w a c k = some (.int v)) (h : gSat (K v) P E) : gSat ((gfI w a c k).bind K) P E := by
  simp only [gfI, hx, gvI, Option.bind_some]; exact h
theorem w_I (hI : gIv Γ w0 w) (ha : Γ.T a = some t) {lo hi : Int} {K : Int32 → gX β} (hs : spc t c k = some (FS.f lo hi)) (h : ∀ v, gf w a c k = some (.int v) → lo ≤ v.toInt → v.toInt ≤ hi → gSat (K v) P E) : gSat ((gfI w a c k).bind K) P E := by
  obtain ⟨v, h1, h2⟩ := hI.fld ha hs
  cases v <;> simp only [vOk] at h2
  exact w_X h1 (h _ h1 h2.1 h2.2)
theorem w_R (hI : gIv Γ w0 w) (ha : Γ.T a = some t) {r : Nat} {K : Int32 → gX β} (hs : spc t c k = some (FS.i r)) (h : ∀ v, gf w a c k = some (.int v) → (Γ.R r).1 ≤ v.toInt → v.toInt ≤ (Γ.R r).2 → gSat (K v) P E) : gSat ((gfI w a c k).bind K) P E := by
  obtain ⟨v, h1, h2⟩ := hI.fld ha hs
  cases v <;> simp only [vOk] at h2
  exact w_X h1 (h _ h1 h2.1 h2.2)
theorem w_J (hI : gIv Γ w0 w) (ha : Γ.T a = some t) {K : Int64 → gX β} (hs : spc t c k = some FS.j) (h : ∀ v, gSat (K v) P E) : gSat ((gfJ w a c k).bind K) P E := by
  obtain ⟨v, h1⟩ := hI.long ha hs
  rw [h1]; exact h v
theorem w_A (hI : gIv Γ w0 w) (ha : Γ.T a = some t) {t' : Ty} {K : Nat → gX β} (hs : spc t c k = some (FS.r t')) (h : ∀ y, gfA w a c k = some y → Γ.T y = some t' → gSat (K y) P E) : gSat ((gfA w a c k).bind K) P E := by
  obtain ⟨v, h1, h2⟩ := hI.ref ha hs
  have := h v h1 h2
  rw [h1]; exact this
theorem w_ck (hI : gIv Γ w0 w) (ha : Γ.T a = some t) {K : Unit → gX β} (hc : tcl t = c) (hn : c ≠ 99) (h : gSat (K ()) P E) : gSat ((gck w a c).bind K) P E := by
  rw [hI.ck ha hc hn]; exact h
theorem w_aJ (hI : gIv Γ w0 w) {n : Nat} (ha : Γ.T a = some (Ty.aj n)) {i : Int32} {K : Int64 → gX β} (h0 : 0 ≤ i.toInt ∧ i.toInt < n) (h : ∀ v, gSat (K v) P E) : gSat ((gaJ w a i).bind K) P E := by
  obtain ⟨v, h1⟩ := hI.aJ ha h0.1 h0.2
  rw [h1]; exact h v
theorem w_aI (hI : gIv Γ w0 w) {n : Nat} {lo hi : Int} (ha : Γ.T a = some (Ty.ai n lo hi)) {i : Int32} {K : Int32 → gX β} (h0 : 0 ≤ i.toInt ∧ i.toInt < n) (h : ∀ v : Int32, gaI w a i = some v → lo ≤ v.toInt → v.toInt ≤ hi → gSat (K v) P E) : gSat ((gaI w a i).bind K) P E := by
  obtain ⟨v, h1, h2, h3⟩ := hI.aI ha h0.1 h0.2
  have := h v h1 h2 h3
  rw [h1]; exact this
theorem w_aS (hI : gIv Γ w0 w) (ha : Γ.T a = some Ty.asol) {i : Int32} {K : Nat → gX β} (h0 : 0 ≤ i.toInt ∧ i.toInt < 12) (h : ∀ y, Γ.T y = some Ty.solid → gSat (K y) P E) : gSat ((gaA w a i).bind K) P E := by
  obtain ⟨v, h1, h2⟩ := hI.aS ha h0.1 h0.2
  rw [h1]; exact h v h2
theorem w_pf (hI : gIv Γ w0 w) (ha : Γ.T a = some t) {s : FS} {v : Value} {K : gW → gX β} (hs : spc t c k = some s) (hv : vOk Γ s v) (hq : Γ.Q t = false) (h : ∀ w', gIv Γ w0 w' → gf w' a c k = some v → (∀ j, j ≠ k → gf w' a c j = gf w a c j) → (∀ q, q ≠ a → w'.1 q = w.1 q) → gSat (K w') P E) : gSat ((gp w a c k v).bind K) P E := by
  obtain ⟨w', h1, h2, h3, h4, h5, h6⟩ := hI.pf ha hs hv hq
  rw [h1]; exact h w' h2 h3 h4 h5
theorem w_sJ (hI : gIv Γ w0 w) {n : Nat} (ha : Γ.T a = some (Ty.aj n)) {i : Int32} {x : Int64} {K : gW → gX β} (h0 : 0 ≤ i.toInt ∧ i.toInt < n) (hq : Γ.Q (Ty.aj n) = false) (h : ∀ w', gIv Γ w0 w' → (∀ q, q ≠ a → w'.1 q = w.1 q) → (∀ b c k x, gf w b c k = some x → gf w' b c k = some x) → gSat (K w') P E) : gSat ((gsJ w a i x).bind K) P E := by
  obtain ⟨w', h1, h2, h3, h4⟩ := hI.sJ ha h0.1 h0.2 hq
  obtain ⟨⟨e, he, f, hf, -⟩, -⟩ := hI.ok a _ ha
  subst hf
  rw [h1]; exact h w' h2 h3 (gf_keep he h3)
theorem w_sI (hI : gIv Γ w0 w) {n : Nat} {lo hi : Int} (ha : Γ.T a = some (Ty.ai n lo hi)) {i x : Int32} {K : gW → gX β} (h0 : 0 ≤ i.toInt ∧ i.toInt < n) (hx : lo ≤ x.toInt ∧ x.toInt ≤ hi) (hq : Γ.Q (Ty.ai n lo hi) = false) (h : ∀ w', gIv Γ w0 w' → (∀ q, q ≠ a → w'.1 q = w.1 q) → (∀ b c k x, gf w b c k = some x → gf w' b c k = some x) → gSat (K w') P E) : gSat ((gsI w a i x).bind K) P E := by
  obtain ⟨w', h1, h2, h3, h4⟩ := hI.sI ha h0.1 h0.2 hx.1 hx.2 hq
  obtain ⟨⟨e, he, f, hf, -⟩, -⟩ := hI.ok a _ ha
  subst hf
  rw [h1]; exact h w' h2 h3 (gf_keep he h3)
theorem w_A0 {K : Nat → gX β} (hx : gfA w a c k = some y) (h : gSat (K y) P E) : gSat ((gfA w a c k).bind K) P E := by
  rw [hx]; exact h
theorem w_aI0 {i v : Int32} {K : Int32 → gX β} (hx : gaI w a i = some v) (h : gSat (K v) P E) : gSat ((gaI w a i).bind K) P E := by
  rw [hx]; exact h
theorem w_j0 {F : (gW → gX β) → gX β} {J : gW → gX β} (W : gW → Prop) (hF : ∀ K, (∀ w, W w → gSat (K w) P E) → gSat (F K) P E) (hJ : ∀ w, W w → gSat (J w) P E) : gSat (gjoin F J) P E := hF J hJ
theorem w_j1 {F : (α → gW → gX β) → gX β} {J : α → gW → gX β} (W : α → gW → Prop) (hF : ∀ K, (∀ y w, W y w → gSat (K y w) P E) → gSat (F K) P E) (hJ : ∀ y w, W y w → gSat (J y w) P E) : gSat (gjoin F J) P E := hF J hJ
theorem w_b {x : gX α} {v : α} {w' : gW} {K : α → gW → gX β} (hx : x = some (.inr v, w')) (h : gSat (K v w') P E) : gSat (gbind x K) P E := by
  rw [hx]; exact h
theorem w_call {x : gX α} {K : α → gW → gX β} {P1 : α → gW → Prop} {E1 : String → gW → Prop} (h : gSat x P1 E1) (hE : ∀ n w, E1 n w → E n w) (hk : ∀ v w, P1 v w → gSat (K v w) P E) : gSat (gbind x K) P E := gSat.call h hk hE
theorem w_jj {γ : Type} {F : γ → gX β} {J : γ} (h : gSat (F J) P E) : gSat (gjoin F J) P E := h
end
