section
variable {Γ Γ' : gΓ} {w0 w w' : gW} {g0 : gG}
theorem shp.mono2 {t : Ty} {e : gE} (hT : gLe Γ Γ') (hR : ∀ (j : Nat) (s : FS), (specs t).2[j]? = some s → s.1 = 1 → Γ'.R s.2.1 = Γ.R s.2.1) (hl : t.1 = 1 → Γ'.R t.2.1 = Γ.R t.2.1) (h : shp Γ t e) : shp Γ' t e := by
  obtain ⟨n, b⟩ := t
  have ho : (∃ fs, e = .inr ((specs (n, b)).1, fs) ∧ okF Γ (specs (n, b)).2 fs) → ∃ fs, e = .inr ((specs (n, b)).1, fs) ∧ okF Γ' (specs (n, b)).2 fs := by
    rintro ⟨fs, e1, e2⟩
    exact ⟨fs, e1, e2.1, fun k s v q1 q2 => (e2.2 k s v q1 q2).mono hT (fun q => hR k s q1 q)⟩
  match n, h, hl, ho with
  | 0, h, _, ho => exact ho h
  | 1, h, hl, _ =>
    obtain ⟨y, s, m, a1, a2, a3, a4⟩ := h
    have e1 := hl rfl
    exact ⟨y, s, m, a1, by rw [e1]; exact a2, by rw [e1]; exact a3, a4⟩
  | 2, h, _, _ =>
    obtain ⟨f, a1, a2, a3, a4⟩ := h
    refine ⟨f, a1, a2, a3, fun i hi => (a4 i hi).imp id ?_⟩
    rintro ⟨z, z1, z2⟩
    exact ⟨z, z1, hT _ _ z2⟩
  | 3, h, _, ho => exact ho h
  | 4, h, _, ho => exact ho h
  | 5, h, _, ho => exact ho h
  | 6, h, _, ho => exact ho h
  | 7, h, _, ho => exact ho h
  | 8, h, _, ho => exact ho h
  | 9, h, _, _ => exact h
  | 10, h, _, _ => exact h
  | 11, h, _, _ =>
    obtain ⟨f, a1, a2⟩ := h
    refine ⟨f, a1, fun i hi => ?_⟩
    obtain ⟨z, z1, z2⟩ := a2 i hi
    exact ⟨z, z1, hT _ _ z2⟩
  | 12, h, _, _ => exact h
  | n + 13, h, _, ho => exact ho h
theorem specs_13 {t : Ty} (ht : t.1 ≠ 8) {j : Nat} {s : FS} (h : (specs t).2[j]? = some s) (e : s.1 = 1) : s.2.1 ≠ 13 := by
  have h1 := List.mem_of_getElem? h
  obtain ⟨n, r⟩ := t
  have hd : ∀ n : Nat, n < 13 → n ≠ 8 → ∀ r : Nat × Nat × Nat × Int × Int, ∀ s ∈ (specs (n, r)).2, s.1 = 1 → s.2.1 ≠ 13 := by
    intro n hn h8 r
    match n, hn, h8 with
    | 0, _, _ => simp only [specs]; decide
    | 1, _, _ => simp only [specs]; decide
    | 2, _, _ => simp only [specs]; decide
    | 3, _, _ => simp only [specs]; decide
    | 4, _, _ => simp only [specs]; decide
    | 5, _, _ => simp only [specs]; decide
    | 6, _, _ => simp only [specs]; decide
    | 7, _, _ => simp only [specs]; decide
    | 8, _, h => exact absurd rfl h
    | 9, _, _ => simp only [specs]; decide
    | 10, _, _ => simp only [specs]; decide
    | 11, _, _ => simp only [specs]; decide
    | 12, _, _ => simp only [specs]; decide
  by_cases hn : n < 13
  · exact hd n hn ht r s h1 e
  · unfold specs at h1
    split at h1
    all_goals first
      | (rename_i q; simp only at q; omega)
      | (simp at h1)
theorem specs_18 : ∀ j : Nat, j < 27 → j ≠ 18 → ∀ s : FS, (specs Ty.model).2[j]? = some s → s.1 = 1 → s.2.1 ≠ 13 := by
  intro j hj h18
  have hd : ∀ j : Nat, j < 27 → j ≠ 18 → ((specs Ty.model).2[j]?).all (fun s => !(decide (s.1 = 1) && decide (s.2.1 = 13))) = true := by decide
  intro s hs e1 e2
  have := hd j hj h18
  rw [hs] at this
  simp [e1, e2] at this
def gRm (Γ : gΓ) (μ : Int) : gΓ := (Γ.T, fun k => if k = 13 then (μ, μ) else Γ.R k, Γ.Q)
theorem gRm.R {μ : Int} {k : Nat} (h : k ≠ 13) : (gRm Γ μ).R k = Γ.R k := by
  show (if k = 13 then (μ, μ) else Γ.R k) = Γ.R k
  rw [if_neg h]
variable {β : Type} {P : β → gW → Prop} {E : String → gW → Prop}
theorem w_pfR {a : Nat} {x : Int32} {μ : Int} {K : gW → gX β} (hI : gIv Γ w0 w) (ha : Γ.T a = some Ty.model) (hU : ∀ b u, Γ.T b = some u → u.1 = 8 → b = a) (hnl : ∀ b u, Γ.T b = some u → u.1 ≠ 1) (hx : x.toInt = μ) (hq : Γ.Q Ty.model = false) (h : ∀ w', gIv (gRm Γ μ) w0 w' → (∀ j, j ≠ 18 → gf w' a 7 j = gf w a 7 j) → gSat (K w') P E) : gSat ((gp w a 7 18 (.int x)).bind K) P E := by
  have hi : isO Ty.model := by unfold isO; simp
  have hle : gLe Γ (gRm Γ μ) := fun _ _ e => e
  obtain ⟨fs, h1, h2, h3⟩ := (okE_obj hi).mp (hI.ok a _ ha)
  have hlen : fs.length = 27 := by rw [← h2]; rfl
  have h1' : w.1 a = some (.inr (7, fs)) := h1
  have e0 : gp w a 7 18 (.int x) = some (gup w a (.inr (7, fs.set 18 (.int x)))) := by simp [gp, h1', hlen]
  rw [e0, Option.bind_some]
  refine h _ ?_ (fun j hj => by simp [gf, gup, h1', List.getElem?_set_ne (Ne.symm hj)])
  refine ⟨fun b u hb => ?_, hI.lt, hI.le, fun q h1 h2 => ?_, fun b u hb hu => ?_⟩
  · by_cases hba : b = a
    · subst hba
      have : u = Ty.model := Option.some.inj (hb.symm.trans ha)
      subst this
      refine (okE_obj hi).mpr ⟨fs.set 18 (.int x), by simp only [gup, if_true]; rfl, by simp [h2], fun j s v hj hv => ?_⟩
      by_cases hj18 : j = 18
      · subst hj18
        simp [hlen] at hv
        have hs : s = FS.i 13 := by
          have : (specs Ty.model).2[18]? = some (FS.i 13) := rfl
          rw [this] at hj
          exact (Option.some.inj hj).symm
        subst hs
        subst hv
        show (if (13 : Nat) = 13 then (μ, μ) else Γ.R 13).1 ≤ x.toInt ∧ x.toInt ≤ (if (13 : Nat) = 13 then (μ, μ) else Γ.R 13).2
        simp [hx]
      · rw [List.getElem?_set_ne (Ne.symm hj18)] at hv
        have hjl : j < 27 := by
          have := (List.getElem?_eq_some_iff.mp hv).1
          omega
        exact (h3 j s v hj hv).mono hle (fun e => gRm.R (specs_18 j hjl hj18 s hj e))
    · obtain ⟨⟨e, g1, g2⟩, g3⟩ := hI.ok b u hb
      have hu8 : u.1 ≠ 8 := fun e => hba (hU b u hb e)
      have e1 : (gup w a (.inr (7, fs.set 18 (.int x)))).1 b = w.1 b := by simp [gup, hba]
      exact ⟨⟨e, e1.trans g1, g2.mono2 hle (fun j s q1 q2 => gRm.R (specs_13 hu8 q1 q2)) (fun e => absurd e (hnl b u hb))⟩, fun e => absurd e (hnl b u hb)⟩
  · have : q ≠ a := by
      intro e
      have h2' : Γ.T q = none := h2
      rw [e, ha] at h2'
      cases h2'
    simp [gup, this, hI.fr q h1 h2]
  · have hba : b ≠ a := by
      intro e
      have hb' : Γ.T b = some u := hb
      rw [e, ha] at hb'
      cases hb'
      have hu' : Γ.Q Ty.model = true := hu
      rw [hq] at hu'
      cases hu'
    simp [gup, hba, hI.fz b u hb hu]
end
