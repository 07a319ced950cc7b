section
variable {Γ Γ1 : gΓ} {w0 w w1 : gW} {g0 : gG}
theorem c_lay {o : Nat} (hI : gIv Γ w0 w) (hQ : ∀ t, Γ.Q t = false) (to : Γ.T o = none) (ho0 : w0.2 ≤ o) (ho : w.1 o = some (.inr (2, [.null, .int 0]))) (lo : o < w.2) : ∃ (w' : gW) (Γ' : gΓ), f_La_init g0 o w = some (.inr (), w') ∧ gIv Γ' w0 w' ∧ Γ'.T o = some Ty.layout ∧ (∀ q, q < w.2 → q ≠ o → Γ'.T q = Γ.T q) ∧ (∀ q t, w.2 ≤ q → Γ'.T q = some t → t.1 ≠ 12 ∧ (t.1 = 1 → t.2.1 ≠ 6)) ∧ Γ'.R = Γ.R ∧ Γ'.Q = Γ.Q ∧ w.2 ≤ w'.2 ∧ (∀ q, q < w.2 → q ≠ o → w'.1 q = w.1 q) := by
  obtain ⟨w1, e1, e2, e3, e4, e5⟩ := i_arr (w := w) (a0 := o) (c := 2) (k := 0) (kd := 2) (M := 12) (N := 12) (v := .null) ho lo (by decide) (by decide)
  have tw : Γ.T w.2 = none := (hI.push (.inl (3, 0, fun _ => .null))).2
  have i1 : gIv Γ w0 w1 := by
    refine hI.ext2 (fun q t ht => e4 q ?_ ?_) (fun q h1 h2 => e4 q ?_ ?_) (by omega) (fun _ _ => rfl) rfl rfl (fun q u hq hu => ?_)
    · have := hI.lt q t ht
      omega
    · intro e
      rw [e, to] at ht
      cases ht
    · have := hI.le
      omega
    · omega
    · have := hI.lt q u hu
      omega
  have e6 : gp w1 o 2 1 (.int 0) = some (gup w1 o (.inr (2, [.ref w.2, .int 0]))) := by simp [gp, e2]
  have i2 : gIv Γ w0 (gup w1 o (.inr (2, [.ref w.2, .int 0]))) := i1.raw to ho0
  have n1 : w.2 ≠ o := by omega
  obtain ⟨w3, Γ3, f', a1, a2, a3, a4, a5, a6, a7, a8⟩ := c_layL (g0 := g0) (c0 := o) (r := w.2) (K := fun w => some (.inr (), w)) 13 0 (gup w1 o (.inr (2, [.ref w.2, .int 0]))) Γ _ i2 hQ to tw hI.le (by simp [gup]) (by simp only [gup, if_neg n1]; exact e3) (by simp only [gup]; omega) (by simp only [gup]; omega) (by omega) (fun i hi => by simp at hi) (by decide) (by decide) (by decide)
  have hw2 : (gup w1 o (.inr (2, [.ref w.2, .int 0]))).2 = w.2 + 1 := e5
  have t3 : Γ3.T w.2 = none := (a3.1 w.2 (by omega)).trans tw
  have q3 : ∀ t, Γ3.Q t = false := by intro t; rw [a3.2.2.1]; exact hQ t
  have l3 : w.2 < w3.2 := by have := a3.2.2.2; omega
  have i4 : gIv (gIns Γ3 w.2 Ty.asol) w0 w3 := a2.ins t3 l3 (q3 _) ⟨⟨_, a6, f', rfl, fun i hi => by
    obtain ⟨y, y1, y2⟩ := a7 i hi
    exact ⟨y, y1, gIns.le t3 _ _ y2⟩⟩, fun e => by cases e⟩
  have to4 : (gIns Γ3 w.2 Ty.asol).T o = none := by
    rw [gIns.T, if_neg (by omega)]
    exact (a3.1 o (by omega)).trans to
  have t5 : (gIns (gIns Γ3 w.2 Ty.asol) o Ty.layout).T w.2 = some Ty.asol := by
    rw [gIns.T, if_neg n1, gIns.T, if_pos rfl]
  have i5 : gIv (gIns (gIns Γ3 w.2 Ty.asol) o Ty.layout) w0 w3 := by
    refine i4.ins to4 (by omega) (q3 _) ((okE_obj (by unfold isO; simp)).mpr ⟨_, a5, rfl, fun k s v hk hv => ?_⟩)
    have hk' := (List.getElem?_eq_some_iff.mp hk).1
    have hl : (specs Ty.layout).2.length = 2 := rfl
    rw [hl] at hk'
    match k, hk' with
    | 0, _ => cases hk; cases hv; exact t5
    | 1, _ => cases hk; cases hv; exact ⟨by decide, by decide⟩
  refine ⟨w3, _, ?_, i5, gIns.at, fun q h1 h2 => ?_, fun q t h1 h2 => ?_, a4, a3.2.2.1, by omega, fun q h1 h2 => ?_⟩
  · unfold f_La_init
    rw [e1]
    rw [e6, Option.bind_some]
    exact a1
  · rw [gIns.T, if_neg h2, gIns.T, if_neg (by omega)]
    exact a3.1 q (by omega)
  · rw [gIns.T, if_neg (by omega), gIns.T] at h2
    split at h2
    · cases h2
      exact ⟨by decide, fun e => by cases e⟩
    · by_cases hq : q < (gup w1 o (.inr (2, [.ref w.2, .int 0]))).2
      · rename_i hne
        exfalso
        omega
      · exact a3.2.1 q t (by omega) h2
  · refine (a8 q (by omega) (by omega)).trans ?_
    simp [gup, h2, e4 q (by omega) h2]
end
