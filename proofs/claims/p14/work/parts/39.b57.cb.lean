section
variable {Γ Γ' : gΓ} {w0 w w' : gW} {g0 : gG}
def gLe (Γ Γ' : gΓ) : Prop := ∀ q t, Γ.T q = some t → Γ'.T q = some t
theorem gLe.rf {Γ : gΓ} : gLe Γ Γ := fun _ _ h => h
theorem gLe.tr {Γ1 Γ2 Γ3 : gΓ} (h : gLe Γ1 Γ2) (h' : gLe Γ2 Γ3) : gLe Γ1 Γ3 := fun q t e => h' q t (h q t e)
theorem vOk.mono {s : FS} {v : Value} (hT : gLe Γ Γ') (hR : s.1 = 1 → Γ'.R s.2.1 = Γ.R s.2.1) (h : vOk Γ s v) : vOk Γ' s v := by
  obtain ⟨n, k, lo, hi, t⟩ := s
  match n with
  | 0 => cases v <;> exact h
  | 1 =>
    have e : Γ'.R k = Γ.R k := hR rfl
    cases v <;> simp only [vOk] at h ⊢
    rw [e]; exact h
  | 2 => cases v <;> exact h
  | 3 =>
    cases v <;> simp only [vOk] at h ⊢
    exact hT _ _ h
  | n + 4 => cases v <;> exact h
theorem okF.mono {ss : List FS} {fs : List Value} (hT : gLe Γ Γ') (hR : ∀ k, k = 0 ∨ 10 ≤ k → Γ'.R k = Γ.R k) (hs : ∀ (j : Nat) (s : FS), ss[j]? = some s → s.1 = 1 → s.2.1 = 0 ∨ 10 ≤ s.2.1) (h : okF Γ ss fs) : okF Γ' ss fs :=
  ⟨h.1, fun k s v e1 e2 => (h.2 k s v e1 e2).mono hT (fun e => hR _ (hs k s e1 e))⟩
theorem specs_k {t : Ty} {j : Nat} {s : FS} (h : (specs t).2[j]? = some s) (e : s.1 = 1) : s.2.1 = 0 ∨ 10 ≤ s.2.1 := by
  have h1 := List.mem_of_getElem? h
  have hd : ∀ n : Nat, n < 13 → ∀ r : Nat × Nat × Nat × Int × Int, ∀ s ∈ (specs (n, r)).2, s.1 = 1 → s.2.1 = 0 ∨ 10 ≤ s.2.1 := by
    intro n hn r
    match n, hn with
    | 0, _ => simp only [specs]; decide
    | 1, _ => simp only [specs]; decide
    | 2, _ => simp only [specs]; decide
    | 3, _ => simp only [specs]; decide
    | 4, _ => simp only [specs]; decide
    | 5, _ => simp only [specs]; decide
    | 6, _ => simp only [specs]; decide
    | 7, _ => simp only [specs]; decide
    | 8, _ => simp only [specs]; decide
    | 9, _ => simp only [specs]; decide
    | 10, _ => simp only [specs]; decide
    | 11, _ => simp only [specs]; decide
    | 12, _ => simp only [specs]; decide
  obtain ⟨n, r⟩ := t
  by_cases hn : n < 13
  · exact hd n hn r s h1 e
  · unfold specs at h1
    split at h1
    all_goals first
      | (rename_i q; simp only at q; omega)
      | (simp at h1)
theorem shp.mono {t : Ty} {e : gE} (hT : gLe Γ Γ') (hR : ∀ k, k = 0 ∨ 10 ≤ k → Γ'.R k = Γ.R k) (hl : t.1 = 1 → Γ'.R t.2.1 = Γ.R t.2.1) (h : shp Γ t e) : shp Γ' t e := by
  obtain ⟨n, b⟩ := t
  have ho : (∃ fs, e = .inr ((specs (n, b)).1, fs) ∧ okF Γ (specs (n, b)).2 fs) → ∃ fs, e = .inr ((specs (n, b)).1, fs) ∧ okF Γ' (specs (n, b)).2 fs := by
    rintro ⟨fs, e1, e2⟩
    exact ⟨fs, e1, e2.mono hT hR (fun j s q1 q2 => specs_k q1 q2)⟩
  match n, h, hl, ho with
  | 0, h, _, ho => exact ho h
  | 1, h, hl, _ =>
    obtain ⟨y, s, m, a1, a2, a3, a4⟩ := h
    have e1 := hl rfl
    exact ⟨y, s, m, a1, by rw [e1]; exact a2, by rw [e1]; exact a3, a4⟩
  | 2, h, _, _ =>
    obtain ⟨f, a1, a2, a3, a4⟩ := h
    refine ⟨f, a1, a2, a3, fun i hi => (a4 i hi).imp id ?_⟩
    rintro ⟨z, z1, z2⟩
    exact ⟨z, z1, hT _ _ z2⟩
  | 3, h, _, ho => exact ho h
  | 4, h, _, ho => exact ho h
  | 5, h, _, ho => exact ho h
  | 6, h, _, ho => exact ho h
  | 7, h, _, ho => exact ho h
  | 8, h, _, ho => exact ho h
  | 9, h, _, _ => exact h
  | 10, h, _, _ => exact h
  | 11, h, _, _ =>
    obtain ⟨f, a1, a2⟩ := h
    refine ⟨f, a1, fun i hi => ?_⟩
    obtain ⟨z, z1, z2⟩ := a2 i hi
    exact ⟨z, z1, hT _ _ z2⟩
  | 12, h, _, _ => exact h
  | n + 13, h, _, ho => exact ho h
theorem okE.mono {a : Nat} {t : Ty} (hT : gLe Γ Γ') (hR : ∀ k, k = 0 ∨ 10 ≤ k → Γ'.R k = Γ.R k) (hw : w'.1 a = w.1 a) (hl : t.1 = 1 → Γ'.R t.2.1 = Γ.R t.2.1 ∧ ∀ y n, Γ.T y = some (Ty.row a t.2.1 n) → w'.1 y = w.1 y) (h : okE Γ w a t) : okE Γ' w' a t := by
  obtain ⟨⟨e, h1, h2⟩, h3⟩ := h
  refine ⟨⟨e, hw.trans h1, h2.mono hT hR (fun q => (hl q).1)⟩, fun hu => ?_⟩
  obtain ⟨y, s, m, g1, g2⟩ := h3 hu
  refine ⟨y, s, m, hw.trans g1, ?_⟩
  rcases g2 with ⟨g1, g2⟩ | ⟨n, f, g1, g2, g3, g4⟩
  · exact Or.inl ⟨hT _ _ g1, g2⟩
  · refine Or.inr ⟨n, f, hT _ _ g1, g2, ((hl hu).2 y n g1).trans g3, fun i hi => ?_⟩
    obtain ⟨z, z1, z2⟩ := g4 i hi
    exact ⟨z, z1, hT _ _ z2⟩
def gIns (Γ : gΓ) (o : Nat) (t : Ty) : gΓ := (fun q => if q = o then some t else Γ.T q, Γ.R, Γ.Q)
theorem gIns.T {o q : Nat} {t : Ty} : (gIns Γ o t).T q = if q = o then some t else Γ.T q := rfl
theorem gIns.le {o : Nat} {t : Ty} (h : Γ.T o = none) : gLe Γ (gIns Γ o t) := by
  intro q u e
  have : q ≠ o := by intro e'; rw [e', h] at e; cases e
  rw [gIns.T, if_neg this]; exact e
theorem gIns.at {o : Nat} {t : Ty} : (gIns Γ o t).T o = some t := by rw [gIns.T, if_pos rfl]
theorem gIv.ins {o : Nat} {t : Ty} (hI : gIv Γ w0 w) (hn : Γ.T o = none) (hlt : o < w.2) (hq : Γ.Q t = false) (hk : okE (gIns Γ o t) w o t) : gIv (gIns Γ o t) w0 w := by
  refine ⟨fun a u h => ?_, fun a u h => ?_, hI.le, fun q h1 h2 => ?_, fun a u h1 h2 => ?_⟩
  · by_cases e : a = o
    · subst e
      rw [gIns.T, if_pos rfl] at h
      cases h
      exact hk
    · have h' : Γ.T a = some u := by rw [gIns.T, if_neg e] at h; exact h
      exact (hI.ok a u h').mono (gIns.le hn) (fun _ _ => rfl) rfl (fun _ => ⟨rfl, fun _ _ _ => rfl⟩)
  · by_cases e : a = o
    · subst e; exact hlt
    · exact hI.lt a u (by rw [gIns.T, if_neg e] at h; exact h)
  · refine hI.fr q h1 ?_
    by_cases e : q = o
    · subst e; exact hn
    · rw [gIns.T, if_neg e] at h2; exact h2
  · by_cases e : a = o
    · subst e
      rw [gIns.T, if_pos rfl] at h1
      cases h1
      have h2' : Γ.Q t = true := h2
      rw [hq] at h2'
      cases h2'
    · exact hI.fz a u (by rw [gIns.T, if_neg e] at h1; exact h1) h2
theorem gIv.push (hI : gIv Γ w0 w) (e : gE) : gIv Γ w0 (gpush w e) ∧ Γ.T w.2 = none := by
  have hn : Γ.T w.2 = none := by
    cases h : Γ.T w.2 with
    | none => rfl
    | some t => exact absurd (hI.lt _ _ h) (Nat.lt_irrefl _)
  refine ⟨⟨fun a u h => ?_, fun a u h => Nat.lt_succ_of_lt (hI.lt a u h), Nat.le_succ_of_le hI.le, fun q h1 h2 => ?_, fun a u h1 h2 => ?_⟩, hn⟩
  · have e1 : ∀ q t, Γ.T q = some t → (gpush w e).1 q = w.1 q := fun q t hq => by
      have := hI.lt q t hq
      have h' : q ≠ w.2 := by omega
      simp [gpush, h']
    exact (hI.ok a u h).mono gLe.rf (fun _ _ => rfl) (e1 a u h) (fun _ => ⟨rfl, fun y n hy => e1 y _ hy⟩)
  · have := hI.le
    have h' : q ≠ w.2 := by omega
    simp [gpush, h', hI.fr q h1 h2]
  · have := hI.lt a u h1
    have h' : a ≠ w.2 := by omega
    simp [gpush, h', hI.fz a u h1 h2]
theorem gIv.raw {o : Nat} {e : gE} (hI : gIv Γ w0 w) (hn : Γ.T o = none) (hlo : w0.2 ≤ o) : gIv Γ w0 (gup w o e) := by
  refine ⟨fun a u h => ?_, hI.lt, hI.le, fun q h1 h2 => ?_, fun a u h1 h2 => ?_⟩
  · have e1 : ∀ q t, Γ.T q = some t → (gup w o e).1 q = w.1 q := fun q t hq => by
      have h' : q ≠ o := by intro e'; rw [e', hn] at hq; cases hq
      simp [gup, h']
    exact (hI.ok a u h).mono gLe.rf (fun _ _ => rfl) (e1 a u h) (fun _ => ⟨rfl, fun y n hy => e1 y _ hy⟩)
  · have h' : q ≠ o := by omega
    simp [gup, h', hI.fr q h1 h2]
  · have h' : a ≠ o := by intro e'; rw [e', hn] at h1; cases h1
    simp [gup, h', hI.fz a u h1 h2]
theorem gIv.l {l c : Nat} (hI : gIv Γ w0 w) (hl : Γ.T l = some (Ty.lst c)) : ∃ (y : Nat) (s m : Int32), w.1 l = some (.inr (1, [.ref y, .int s, .int m])) ∧ (Γ.R c).1 ≤ s.toInt ∧ s.toInt ≤ (Γ.R c).2 ∧ 0 ≤ s.toInt ∧ ((Γ.T y = some Ty.mty ∧ s = 0) ∨ ∃ (n : Nat) (f : Nat → Value), Γ.T y = some (Ty.row l c n) ∧ s.toInt ≤ n ∧ w.1 y = some (.inl (3, n, f)) ∧ ∀ i, i < s.toInt.toNat → ∃ z, f i = .ref z ∧ Γ.T z = some (elemTy c)) := by
  obtain ⟨⟨e, h1, y, s, m, he, h2, h3, h4⟩, h5⟩ := hI.ok l _ hl
  obtain ⟨y', s', m', g1, g2⟩ := h5 rfl
  subst he
  rw [h1] at g1
  cases g1
  exact ⟨y, s, m, h1, h2, h3, h4, g2⟩
theorem okE.mkl {l c y : Nat} {s m : Int32} (h1 : w.1 l = some (.inr (1, [.ref y, .int s, .int m]))) (h2 : (Γ.R c).1 ≤ s.toInt) (h3 : s.toInt ≤ (Γ.R c).2) (h4 : 0 ≤ s.toInt) (h5 : (Γ.T y = some Ty.mty ∧ s = 0) ∨ ∃ (n : Nat) (f : Nat → Value), Γ.T y = some (Ty.row l c n) ∧ s.toInt ≤ n ∧ w.1 y = some (.inl (3, n, f)) ∧ ∀ i, i < s.toInt.toNat → ∃ z, f i = .ref z ∧ Γ.T z = some (elemTy c)) : okE Γ w l (Ty.lst c) :=
  ⟨⟨_, h1, y, s, m, rfl, h2, h3, h4⟩, fun _ => ⟨y, s, m, h1, h5⟩⟩
theorem gIv.rw {l o c n : Nat} (hI : gIv Γ w0 w) (hl : Γ.T l = some (Ty.row o c n)) : ∃ f : Nat → Value, w.1 l = some (.inl (3, n, f)) ∧ 0 < n ∧ n ≤ 64 ∧ ∀ i, i < n → f i = .null ∨ ∃ z, f i = .ref z ∧ Γ.T z = some (elemTy c) := by
  obtain ⟨⟨e, h1, f, he, h2, h3, h4⟩, -⟩ := hI.ok l _ hl
  subst he
  exact ⟨f, h1, h2, h3, h4⟩
theorem okE.mkr {l o c n : Nat} {f : Nat → Value} (h1 : w.1 l = some (.inl (3, n, f))) (h2 : 0 < n) (h3 : n ≤ 64) (h4 : ∀ i, i < n → f i = .null ∨ ∃ z, f i = .ref z ∧ Γ.T z = some (elemTy c)) : okE Γ w l (Ty.row o c n) :=
  ⟨⟨_, h1, f, rfl, h2, h3, h4⟩, fun e => by cases e⟩
theorem gIv.freeze (hI : gIv Γ w0 w) (Q : Ty → Bool) : gIv (Γ.T, Γ.R, Q) w w :=
  ⟨fun a t h => (hI.ok a t h).mono (fun _ _ e => e) (fun _ _ => rfl) rfl (fun _ => ⟨rfl, fun _ _ _ => rfl⟩), hI.lt, Nat.le_refl _, fun _ _ _ => rfl, fun _ _ _ _ => rfl⟩
theorem gIv.thaw (hI : gIv Γ w0 w) {Q : Ty → Bool} (h : gIv (Γ.T, Γ.R, Q) w w') (hQ : ∀ t, Γ.Q t = true → Q t = true) : gIv Γ w0 w' :=
  ⟨fun a t h' => (h.ok a t h').mono (fun _ _ e => e) (fun _ _ => rfl) rfl (fun _ => ⟨rfl, fun _ _ _ => rfl⟩), h.lt, Nat.le_trans hI.le h.le, fun q h1 h2 => (h.fr q (Nat.lt_of_lt_of_le h1 hI.le) h2).trans (hI.fr q h1 h2), fun a t h1 h2 => (h.fz a t h1 (hQ t h2)).trans (hI.fz a t h1 h2)⟩
end
