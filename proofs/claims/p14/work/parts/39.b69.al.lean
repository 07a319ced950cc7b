section
variable {Γ Γ1 Γ2 : gΓ} {w0 w w1 w2 : gW} {g0 : gG}
theorem gIv.ext (hI : gIv Γ w0 w) (hf : ∀ q, q < w.2 → w1.1 q = w.1 q) (hle : w.2 ≤ w1.2) (hT : ∀ q, q < w.2 → Γ1.T q = Γ.T q) (hR : Γ1.R = Γ.R) (hQ : Γ1.Q = Γ.Q) (hn : ∀ q t, w.2 ≤ q → Γ1.T q = some t → okE Γ1 w1 q t ∧ q < w1.2 ∧ Γ.Q t = false) : gIv Γ1 w0 w1 := by
  have hle' : gLe Γ Γ1 := fun q t h => (hT q (hI.lt q t h)).trans h
  refine ⟨fun a t h => ?_, fun a t h => ?_, Nat.le_trans hI.le hle, fun q h1 h2 => ?_, fun a t h1 h2 => ?_⟩
  · by_cases ha : a < w.2
    · have h' : Γ.T a = some t := by rw [← hT a ha]; exact h
      exact (hI.ok a t h').mono hle' (fun k _ => by rw [hR]) (hf a ha) (fun _ => ⟨by rw [hR], fun y n hy => hf y (hI.lt y _ hy)⟩)
    · exact (hn a t (by omega) h).1
  · by_cases ha : a < w.2
    · omega
    · exact (hn a t (by omega) h).2.1
  · have hq : q < w.2 := Nat.lt_of_lt_of_le h1 hI.le
    rw [hf q hq]
    exact hI.fr q h1 (by rw [← hT q hq]; exact h2)
  · rw [hQ] at h2
    by_cases ha : a < w.2
    · rw [hf a ha]
      exact hI.fz a t (by rw [← hT a ha]; exact h1) h2
    · rw [(hn a t (by omega) h1).2.2] at h2
      cases h2
def gAl (Γ : gΓ) (w : gW) (Γ1 : gΓ) (w1 : gW) : Prop := (∀ q, q < w.2 → Γ1.T q = Γ.T q) ∧ (∀ q t, w.2 ≤ q → Γ1.T q = some t → t.1 ≠ 12 ∧ (t.1 = 1 → t.2.1 ≠ 6)) ∧ Γ1.Q = Γ.Q ∧ w.2 ≤ w1.2
theorem gAl.tr (h : gAl Γ w Γ1 w1) (h' : gAl Γ1 w1 Γ2 w2) : gAl Γ w Γ2 w2 := by
  obtain ⟨a1, a2, a3, a4⟩ := h
  obtain ⟨b1, b2, b3, b4⟩ := h'
  refine ⟨fun q hq => (b1 q (by omega)).trans (a1 q hq), fun q t hq ht => ?_, b3.trans a3, by omega⟩
  by_cases hq' : q < w1.2
  · exact a2 q t hq (by rw [← b1 q hq']; exact ht)
  · exact b2 q t (by omega) ht
theorem gAl.same (h : w.2 ≤ w1.2) (hI : gIv Γ w0 w) : gAl Γ w Γ w1 := by
  refine ⟨fun _ _ => rfl, fun q t hq ht => ?_, rfl, h⟩
  have := hI.lt q t ht
  omega
theorem gAl.le (h : gAl Γ w Γ1 w1) (hI : gIv Γ w0 w) : gLe Γ Γ1 := fun q t ht => (h.1 q (hI.lt q t ht)).trans ht
theorem gAl.mt (h : gAl Γ w Γ1 w1) (hE : ∀ y, Γ.T y = some Ty.mty → y = g0.1) : ∀ y, Γ1.T y = some Ty.mty → y = g0.1 := by
  intro y hy
  by_cases hq : y < w.2
  · exact hE y (by rw [← h.1 y hq]; exact hy)
  · exact absurd rfl (h.2.1 y _ (by omega) hy).1
abbrev gS0_ : List Value := [.int 0, .long 0, .long 0, .null, .null, .int 0, .long 0, .long 0, .long 0, .long 0, .long 0, .long 0]
def gSol (Γ : gΓ) (n : Nat) : gΓ := (fun q => if q = n then some Ty.solid else if q = n + 1 ∨ q = n + 1 + 1 then some (Ty.aj 8) else Γ.T q, Γ.R, Γ.Q)
theorem n_solid (hI : gIv Γ w0 w) (q1 : Γ.Q Ty.solid = false) (q2 : Γ.Q (Ty.aj 8) = false) : ∃ (w1 : gW) (Γ1 : gΓ), f_So_init g0 w.2 (gpush w (.inr (3, gS0_))) = some (.inr (), w1) ∧ gIv Γ1 w0 w1 ∧ gAl Γ w Γ1 w1 ∧ Γ1.R = Γ.R ∧ Γ1.T w.2 = some Ty.solid ∧ (∀ q, q < w.2 → w1.1 q = w.1 q) := by
  have e8 : ¬ ((8 : Int32) < 0 ∨ 8 < (8 : Int32).toNatClampNeg) := by decide
  have e8' : (8 : Int32).toNatClampNeg = 8 := by decide
  have n1 : w.2 ≠ w.2 + 1 := by omega
  have n2 : w.2 ≠ w.2 + 1 + 1 := by omega
  have n3 : w.2 + 1 ≠ w.2 := by omega
  have n4 : w.2 + 1 + 1 ≠ w.2 := by omega
  have n5 : w.2 + 1 + 1 ≠ w.2 + 1 := by omega
  have key : ∃ w1, f_So_init g0 w.2 (gpush w (.inr (3, gS0_))) = some (.inr (), w1) ∧ w1.1 w.2 = some (.inr (3, [.int 0, .long 0, .long 0, .ref (w.2 + 1), .ref (w.2 + 1 + 1), .int 0, .long 0, .long 0, .long 0, .long 0, .long 0, .long 0])) ∧ w1.1 (w.2 + 1) = some (.inl (1, 8, fun _ => .long 0)) ∧ w1.1 (w.2 + 1 + 1) = some (.inl (1, 8, fun _ => .long 0)) ∧ (∀ q, q < w.2 → w1.1 q = w.1 q) ∧ w1.2 = w.2 + 3 := by
    generalize hx : f_So_init g0 w.2 (gpush w (.inr (3, gS0_))) = x
    simp [f_So_init, gb2f, gna, gpush, gp, gup, e8, e8', n1, n2, n3, n4] at hx
    subst hx
    refine ⟨_, rfl, by simp, by simp [n3], by simp [n4], fun q hq => ?_, rfl⟩
    have h3 : q ≠ w.2 := by omega
    have h4 : q ≠ w.2 + 1 := by omega
    have h5 : q ≠ w.2 + 1 + 1 := by omega
    simp [h3, h4, h5]
  obtain ⟨w1, e1, e2, e3, e4, e5, e6⟩ := key
  have hT : ∀ q, (gSol Γ w.2).T q = if q = w.2 then some Ty.solid else if q = w.2 + 1 ∨ q = w.2 + 1 + 1 then some (Ty.aj 8) else Γ.T q := fun _ => rfl
  have hold : ∀ q, q < w.2 → (gSol Γ w.2).T q = Γ.T q := by
    intro q hq
    rw [hT, if_neg (by omega), if_neg (by omega)]
  have t0 : (gSol Γ w.2).T w.2 = some Ty.solid := by rw [hT, if_pos rfl]
  have t1 : (gSol Γ w.2).T (w.2 + 1) = some (Ty.aj 8) := by rw [hT, if_neg n3, if_pos (Or.inl rfl)]
  have t2 : (gSol Γ w.2).T (w.2 + 1 + 1) = some (Ty.aj 8) := by rw [hT, if_neg n4, if_pos (Or.inr rfl)]
  have new : ∀ q t, w.2 ≤ q → (gSol Γ w.2).T q = some t → (q = w.2 ∧ t = Ty.solid) ∨ ((q = w.2 + 1 ∨ q = w.2 + 1 + 1) ∧ t = Ty.aj 8) := by
    intro q t hq ht
    rw [hT] at ht
    split at ht
    · exact Or.inl ⟨by assumption, (Option.some.inj ht).symm⟩
    · split at ht
      · exact Or.inr ⟨by assumption, (Option.some.inj ht).symm⟩
      · have := hI.lt q t ht
        omega
  refine ⟨w1, gSol Γ w.2, e1, hI.ext e5 (by omega) hold rfl rfl (fun q t hq ht => ?_), ⟨hold, fun q t hq ht => ?_, rfl, by omega⟩, rfl, t0, e5⟩
  · rcases new q t hq ht with ⟨a, b⟩ | ⟨a, b⟩
    · subst a b
      refine ⟨(okE_obj (by unfold isO; simp)).mpr ⟨_, e2, rfl, fun k s v hk hv => ?_⟩, by omega, q1⟩
      have hk' := (List.getElem?_eq_some_iff.mp hk).1
      have hl : (specs Ty.solid).2.length = 12 := rfl
      rw [hl] at hk'
      match k, hk' with
      | 0, _ => cases hk; cases hv; exact y_any 0
      | 1, _ => cases hk; cases hv; trivial
      | 2, _ => cases hk; cases hv; trivial
      | 3, _ => cases hk; cases hv; exact t1
      | 4, _ => cases hk; cases hv; exact t2
      | 5, _ => cases hk; cases hv; exact ⟨by decide, by decide⟩
      | 6, _ => cases hk; cases hv; trivial
      | 7, _ => cases hk; cases hv; trivial
      | 8, _ => cases hk; cases hv; trivial
      | 9, _ => cases hk; cases hv; trivial
      | 10, _ => cases hk; cases hv; trivial
      | 11, _ => cases hk; cases hv; trivial
    · subst b
      rcases a with a | a
      · subst a
        exact ⟨⟨⟨_, e3, fun _ => .long 0, rfl, fun _ _ => ⟨0, rfl⟩⟩, fun e => by cases e⟩, by omega, q2⟩
      · subst a
        exact ⟨⟨⟨_, e4, fun _ => .long 0, rfl, fun _ _ => ⟨0, rfl⟩⟩, fun e => by cases e⟩, by omega, q2⟩
  · rcases new q t hq ht with ⟨a, b⟩ | ⟨a, b⟩
    · subst b
      exact ⟨by decide, fun e => by cases e⟩
    · subst b
      exact ⟨by decide, fun e => by cases e⟩
end
