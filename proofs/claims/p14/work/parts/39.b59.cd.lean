section
variable {Γ : gΓ} {w0 w : gW} {g0 : gG}
theorem elem_obj {c z : Nat} (hI : gIv Γ w0 w) (hc : 3 ≤ c ∧ c ≤ 6) (h : Γ.T z = some (elemTy c)) : ∃ fs, w.1 z = some (.inr (c, fs)) ∧ gok 3 c = true ∧ z < w.2 := by
  have hlt := hI.lt z _ h
  obtain ⟨⟨e, he, h1⟩, -⟩ := hI.ok z _ h
  obtain ⟨a1, a2⟩ := hc
  have : c = 3 ∨ c = 4 ∨ c = 5 ∨ c = 6 := by omega
  rcases this with rfl | rfl | rfl | rfl
  all_goals
    obtain ⟨fs, e1, -⟩ := h1
    subst e1
    exact ⟨fs, he, by decide, hlt⟩
theorem elem_ne {c z l : Nat} (h : Γ.T z = some (elemTy c)) (hl : Γ.T l = some (Ty.lst c)) (hc : 3 ≤ c ∧ c ≤ 6) : z ≠ l := by
  intro e
  rw [e, hl] at h
  obtain ⟨a1, a2⟩ := hc
  have : c = 3 ∨ c = 4 ∨ c = 5 ∨ c = 6 := by omega
  rcases this with rfl | rfl | rfl | rfl <;> cases h
theorem l_add {l c o : Nat} {s : Int32} {R : Nat → Int × Int} (hI : gIv Γ w0 w) (hl : Γ.T l = some (Ty.lst c)) (hc : 3 ≤ c ∧ c ≤ 6) (ho : Γ.T o = some (elemTy c)) (hs : gf w l 1 1 = some (.int s)) (hb : s.toInt < 41)
    (hE : ∀ y, Γ.T y = some Ty.mty → y = g0.1) (hR : ∀ k, k ≠ c → R k = Γ.R k) (hR' : (R c).1 ≤ s.toInt + 1 ∧ s.toInt + 1 ≤ (R c).2) (hO : R c = Γ.R c ∨ ∀ b u, Γ.T b = some u → u.1 = 1 → u.2.1 = c → b = l)
    (q1 : Γ.Q (Ty.lst c) = false) (q2 : ∀ n, Γ.Q (Ty.row l c n) = false) :
    ∃ w' y n, f_AL_add g0 l o w = some (.inr 1, w') ∧ gIv (gRow Γ y l c n R) w0 w' ∧ gLe Γ (gRow Γ y l c n R) ∧ gf w' l 1 1 = some (.int (s + 1)) ∧ (Γ.T y = some (Ty.row l c n) ∨ y = w.2) ∧ (∀ q, q ≠ l → q ≠ y → w'.1 q = w.1 q) ∧ w.2 ≤ w'.2 := by
  obtain ⟨y, s', m, h1, h2, h3, h4, h5⟩ := hI.l hl
  have e : s' = s := by
    simp [gf, h1] at hs
    exact hs
  subst e
  obtain ⟨fs, o1, o2, o3⟩ := elem_obj hI hc ho
  have hol := elem_ne ho hl hc
  have ll := hI.lt l _ hl
  have hs1 : (s' + 1).toInt = s'.toInt + 1 := by rw [y_add] <;> simp <;> omega
  have gl : ∀ {w' : gW} {y : Nat} {m' : Int32}, w'.1 l = some (.inr (1, [.ref y, .int (s' + 1), .int m'])) → gf w' l 1 1 = some (.int (s' + 1)) := fun h => by simp [gf, h]
  rcases h5 with ⟨g1, g2⟩ | ⟨n, f, g1, g2, g3, g4⟩
  · subst g2
    have hy := hE y g1
    subst hy
    have he : w.1 g0.1 = some (.inl (5, 0, fun _ => .null)) := by
      obtain ⟨⟨e, h1, h2⟩, -⟩ := hI.ok _ _ g1
      rw [h1, show e = .inl (5, 0, fun _ => .null) from h2]
    obtain ⟨w', r1, r2, r3, r4, r5⟩ := y_addA (g0 := g0) h1 he o1 o2 ll (hI.lt _ _ g1) o3 hol
    have r2' : w'.1 l = some (.inr (1, [.ref w.2, .int (0 + 1), .int (m + 1)])) := r2
    refine ⟨w', w.2, 10, r1, ?_, gRow.le (Or.inr (hI.push (.inl (3, 0, fun _ => .null))).2), gl r2', Or.inr rfl, r4, by omega⟩
    refine hI.addl hl hc r2' r3 r4 (by omega) (by omega) (Or.inr rfl) (by decide) (by decide) ?_ ?_ hR (by rw [hs1]; exact hR') hO q1 (q2 _)
    · intro i hi
      unfold updV
      split
      · exact Or.inr ⟨o, rfl, ho⟩
      · exact Or.inl rfl
    · intro i hi
      have : i = 0 := by
        have : ((0 : Int32) + 1).toInt.toNat = 1 := by decide
        omega
      subst this
      exact ⟨o, by simp [updV], ho⟩
  · have hrow := hI.rw g1
    obtain ⟨f', k1, k2, k3, k4⟩ := hrow
    have : f' = f := by
      rw [g3] at k1
      cases k1
      rfl
    subst this
    have ly := hI.lt y _ g1
    by_cases hlt : s'.toInt < n
    · obtain ⟨w', r1, r2, r3, r4, r5⟩ := l_addB (g0 := g0) h1 g3 o1 o2 ⟨h4, hlt⟩ k3
      refine ⟨w', y, n, r1, ?_, gRow.le (Or.inl g1), gl r2, Or.inl g1, r4, by omega⟩
      refine hI.addl hl hc r2 r3 r4 (by omega) (by omega) (Or.inl g1) ⟨k2, k3⟩ (by omega) ?_ ?_ hR (by rw [hs1]; exact hR') hO q1 (q2 _)
      · intro i hi
        unfold updV
        split
        · exact Or.inr ⟨o, rfl, ho⟩
        · exact k4 i hi
      · intro i hi
        unfold updV
        split
        · exact ⟨o, rfl, ho⟩
        · rename_i hne
          refine g4 i ?_
          have : s'.toNatClampNeg = s'.toInt.toNat := rfl
          omega
    · have hsn : s'.toInt = n := by omega
      have hsn' : s' = nI n := by
        rw [← Int32.toInt_inj, nI, Int32.toInt_ofNat_of_lt (by omega)]
        exact hsn
      subst hsn'
      obtain ⟨w', n', r1, r2, r3, r4, r5, r6, r7⟩ := l_addC (g0 := g0) h1 g3 o1 o2 ⟨k2, by omega⟩ ll ly o3 hol (fun i hi => (k4 i hi).imp id (fun ⟨z, z1, z2⟩ => by
        obtain ⟨gs, y1, y2, y3⟩ := elem_obj hI hc z2
        exact ⟨z, c, gs, z1, y1, y2, elem_ne z2 hl hc, y3⟩))
      refine ⟨w', w.2, n', r1, ?_, gRow.le (Or.inr (hI.push (.inl (3, 0, fun _ => .null))).2), gl r4, Or.inr rfl, r6, by omega⟩
      refine hI.addl hl hc r4 r5 r6 (by omega) (by omega) (Or.inr rfl) (by omega) (by omega) ?_ ?_ hR (by rw [hs1]; exact hR') hO q1 (q2 _)
      · intro i hi
        unfold updV va_cpy
        split
        · exact Or.inr ⟨o, rfl, ho⟩
        · split
          · rename_i hh
            have := k4 i (by omega)
            simpa using this
          · exact Or.inl rfl
      · intro i hi
        unfold updV va_cpy
        split
        · exact ⟨o, rfl, ho⟩
        · rename_i hne
          have hi' : i < n := by omega
          rw [if_pos (by omega)]
          have := g4 i (by omega)
          simpa using this
end
