section
theorem y_rem {x m : Int32} (hx : 0 ≤ x.toInt) (hm : 0 < m.toInt) : 0 ≤ (x - x / m * m).toInt ∧ (x - x / m * m).toInt < m.toInt := by
  have hxl := x.toInt_lt
  have hml := m.toInt_lt
  have e1 : (x / m).toInt = x.toInt / m.toInt := by
    rw [Int32.toInt_div, Int.tdiv_eq_ediv_of_nonneg hx]
    apply zbm_
    · have := Int.ediv_nonneg hx (Int.le_of_lt hm)
      omega
    · have := Int.ediv_le_self m.toInt hx
      omega
  have e2 : x.toInt / m.toInt * m.toInt ≤ x.toInt := Int.ediv_mul_le _ (by omega)
  have e3 : 0 ≤ x.toInt / m.toInt * m.toInt := Int.mul_nonneg (Int.ediv_nonneg hx (Int.le_of_lt hm)) (Int.le_of_lt hm)
  have e4 : (x / m * m).toInt = x.toInt / m.toInt * m.toInt := by
    rw [y_mul] <;> rw [e1] <;> omega
  have e5 : x.toInt < x.toInt / m.toInt * m.toInt + m.toInt := by
    have := Int.emod_lt_of_pos x.toInt hm
    rw [Int.emod_def, Int.mul_comm] at this
    omega
  rw [y_sub] <;> rw [e4] <;> omega
theorem y_rix {c x m : Int32} {n : Nat} (hx : 0 ≤ x.toInt) (hm : 0 < m.toInt) (h1 : 0 ≤ c.toInt) (h2 : c.toInt + m.toInt ≤ n) (h3 : n < 2147483648) : 0 ≤ (c + (x - x / m * m)).toInt ∧ (c + (x - x / m * m)).toInt < n := by
  obtain ⟨a1, a2⟩ := y_rem hx hm
  generalize x - x / m * m = r at *
  rw [y_add] <;> omega
theorem y_rem0 {x m : Int32} (hx : 0 ≤ x.toInt) (hm : 0 < m.toInt) : 0 ≤ (x - x / m * m).toInt := (y_rem hx hm).1
theorem y_rem1 {x m : Int32} {k : Int} (hx : 0 ≤ x.toInt) (hm : 0 < m.toInt) (hk : m.toInt ≤ k) : (x - x / m * m).toInt < k := by
  have := (y_rem hx hm).2
  omega
def QM (Γ : gΓ) : Prop := ∀ t, t ≠ Ty.ai 30 0 12 → t ≠ Ty.model → Γ.Q t = false
theorem QM.use {Γ : gΓ} {t : Ty} (h : QM Γ) (h1 : t ≠ Ty.ai 30 0 12) (h2 : t ≠ Ty.model) : Γ.Q t = false := h t h1 h2
theorem fr_A {w w' : gW} {a c k : Nat} (h : w'.1 a = w.1 a) : gfA w' a c k = gfA w a c k := by
  unfold gfA gf
  rw [h]
theorem fr_f {w w' : gW} {a c k : Nat} (h : w'.1 a = w.1 a) : gf w' a c k = gf w a c k := by
  unfold gf
  rw [h]
theorem fr_aI {w w' : gW} {a : Nat} {i : Int32} (h : w'.1 a = w.1 a) : gaI w' a i = gaI w a i := by
  unfold gaI gki gar
  rw [h]
theorem ne_T {Γ : gΓ} {a b : Nat} {t u : Ty} (ha : Γ.T a = some t) (hb : Γ.T b = some u) (h : t ≠ u) : a ≠ b := by
  intro e
  rw [e, hb] at ha
  exact h (Option.some.inj ha).symm
end
