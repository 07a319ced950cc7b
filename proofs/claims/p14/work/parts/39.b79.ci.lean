section
variable {Γ Γ1 : gΓ} {w0 w w1 : gW} {g0 : gG}
theorem gIv.ext2 (hI : gIv Γ w0 w) (hf : ∀ q t, Γ.T q = some t → w1.1 q = w.1 q) (hf0 : ∀ q, q < w0.2 → Γ.T q = none → w1.1 q = w.1 q) (hle : w.2 ≤ w1.2) (hT : ∀ q, q < w.2 → Γ1.T q = Γ.T q) (hR : Γ1.R = Γ.R) (hQ : Γ1.Q = Γ.Q) (hn : ∀ q t, w.2 ≤ q → Γ1.T q = some t → okE Γ1 w1 q t ∧ q < w1.2 ∧ Γ.Q t = false) : gIv Γ1 w0 w1 := by
  have hle' : gLe Γ Γ1 := fun q t h => (hT q (hI.lt q t h)).trans h
  refine ⟨fun a t h => ?_, fun a t h => ?_, Nat.le_trans hI.le hle, fun q h1 h2 => ?_, fun a t h1 h2 => ?_⟩
  · by_cases ha : a < w.2
    · have h' : Γ.T a = some t := by rw [← hT a ha]; exact h
      exact (hI.ok a t h').mono hle' (fun k _ => by rw [hR]) (hf a t h') (fun _ => ⟨by rw [hR], fun y n hy => hf y _ hy⟩)
    · exact (hn a t (by omega) h).1
  · by_cases ha : a < w.2
    · omega
    · exact (hn a t (by omega) h).2.1
  · have hq : q < w.2 := Nat.lt_of_lt_of_le h1 hI.le
    have h2' : Γ.T q = none := by rw [← hT q hq]; exact h2
    rw [hf0 q h1 h2']
    exact hI.fr q h1 h2'
  · rw [hQ] at h2
    by_cases ha : a < w.2
    · have h1' : Γ.T a = some t := by rw [← hT a ha]; exact h1
      rw [hf a t h1']
      exact hI.fz a t h1' h2
    · rw [(hn a t (by omega) h1).2.2] at h2
      cases h2
theorem c_ins {a0 : Nat} {t : Ty} (hI : gIv Γ w0 w) (ha : Γ.T a0 = none) (ha0 : w0.2 ≤ a0) (hf : ∀ q, q ≠ w.2 → q ≠ a0 → w1.1 q = w.1 q) (hl : w1.2 = w.2 + 1) (hq : Γ.Q t = false) (hk : okE (gIns Γ w.2 t) w1 w.2 t) : gIv (gIns Γ w.2 t) w0 w1 := by
  have hne : ∀ q, q < w.2 → q ≠ w.2 := fun q h => by omega
  refine hI.ext2 (fun q t ht => hf q (hne q (hI.lt q t ht)) (fun e => by rw [e, ha] at ht; cases ht)) (fun q h1 h2 => hf q (by have := hI.le; omega) (by omega)) (by omega) (fun q hq => by rw [gIns.T, if_neg (hne q hq)]) rfl rfl (fun q u hq hu => ?_)
  rw [gIns.T] at hu
  split at hu
  · rename_i e
    subst e
    cases hu
    exact ⟨hk, by omega, by assumption⟩
  · have := hI.lt q u hu
    omega
theorem c_raw {a0 : Nat} (hI : gIv Γ w0 w) (ha : Γ.T a0 = none) (ha0 : w0.2 ≤ a0) (hf : ∀ q, q ≠ a0 → w1.1 q = w.1 q) (hl : w.2 ≤ w1.2) : gIv Γ w0 w1 :=
  hI.ext2 (fun q t ht => hf q (fun e => by rw [e, ha] at ht; cases ht)) (fun q h1 h2 => hf q (by omega)) hl (fun _ _ => rfl) rfl rfl (fun q u hq hu => by have := hI.lt q u hu; omega)
theorem c_layL {c0 r : Nat} {K : gW → gX Unit} (n : Nat) : ∀ (z : Int32) (w : gW) (Γ : gΓ) (f : Nat → Value), gIv Γ w0 w → (∀ t, Γ.Q t = false) → Γ.T c0 = none → Γ.T r = none → w0.2 ≤ r → w.1 c0 = some (.inr (2, [.ref r, .int 0])) → w.1 r = some (.inl (2, 12, f)) → c0 < w.2 → r < w.2 → c0 ≠ r → (∀ i, i < z.toInt.toNat → ∃ y, f i = .ref y ∧ Γ.T y = some Ty.solid) → 0 ≤ z.toInt → z.toInt ≤ 12 → 12 < z.toInt + n → ∃ (w' : gW) (Γ' : gΓ) (f' : Nat → Value), f_La_init_L20 g0 c0 K n z w = K w' ∧ gIv Γ' w0 w' ∧ gAl Γ w Γ' w' ∧ Γ'.R = Γ.R ∧ w'.1 c0 = some (.inr (2, [.ref r, .int 0])) ∧ w'.1 r = some (.inl (2, 12, f')) ∧ (∀ i, i < 12 → ∃ y, f' i = .ref y ∧ Γ'.T y = some Ty.solid) ∧ (∀ q, q < w.2 → q ≠ r → w'.1 q = w.1 q) := by
  induction n with
  | zero => intros; omega
  | succ n ih =>
    intro z w Γ f hI hQ tc tr hr0 hc hr lc lr hcr hf h0 h1 h2
    rw [f_La_init_L20.eq_2]
    have e12 : (12 : Int32).toInt = 12 := by decide
    by_cases hz : 12 ≤ z
    · rw [if_pos hz]
      rw [Int32.le_iff_toInt_le, e12] at hz
      exact ⟨w, Γ, f, rfl, hI, gAl.same (Nat.le_refl _) hI, rfl, hc, hr, fun i hi => hf i (by omega), fun _ _ _ => rfl⟩
    · rw [if_neg hz]
      rw [Int32.le_iff_toInt_le, e12] at hz
      have e1 : gfA w c0 2 0 = some r := by simp [gfA, gf, gvA, hc]
      obtain ⟨w1, Γ1, g1, g2, g3, g4, g5, g6⟩ := n_solid (g0 := g0) hI (hQ _) (hQ _)
      obtain ⟨fs, g7, -⟩ := (okE_obj (by unfold isO; simp)).mp (g2.ok _ _ g5)
      have k1 : ¬ z < 0 := by rw [Int32.lt_iff_toInt_lt, Int32.toInt_zero]; omega
      have k2 : z.toNatClampNeg < 12 := by rw [y_cl]; omega
      have hr1 := (g6 r lr).trans hr
      have e6 : gsA w1 r z w.2 = some (gup w1 r (.inl (2, 12, updV f z.toNatClampNeg (.ref w.2)))) := by
        have : gok 2 (specs Ty.solid).1 = true := by decide
        simp [gsA, gob, hr1, g7, this, gas, k1, k2, -Int32.not_lt]
      have hz1 : (z + 1).toInt = z.toInt + 1 := by rw [y_add] <;> simp <;> omega
      have tr1 : Γ1.T r = none := (g3.1 r lr).trans tr
      have i2 : gIv Γ1 w0 (gup w1 r (.inl (2, 12, updV f z.toNatClampNeg (.ref w.2)))) := g2.raw tr1 hr0
      have hle := g3.le hI
      have l1 : w.2 ≤ w1.2 := g3.2.2.2
      obtain ⟨w', Γ', f', a1, a2, a3, a4, a5, a6, a7, a8⟩ := ih (z + 1) (gup w1 r (.inl (2, 12, updV f z.toNatClampNeg (.ref w.2)))) Γ1 (updV f z.toNatClampNeg (.ref w.2)) i2 (by intro t; rw [g3.2.2.1]; exact hQ t) ((g3.1 c0 lc).trans tc) tr1 hr0 (by simp [gup, hcr, g6 c0 lc, hc]) (by simp [gup]) (by simp only [gup]; omega) (by simp only [gup]; omega) hcr (by
        intro i hi
        unfold updV
        split
        · exact ⟨w.2, rfl, g5⟩
        · rename_i hne
          have hcl : z.toNatClampNeg = z.toInt.toNat := rfl
          obtain ⟨y, y1, y2⟩ := hf i (by omega)
          exact ⟨y, y1, hle _ _ y2⟩) (by omega) (by omega) (by omega)
      refine ⟨w', Γ', f', ?_, a2, g3.tr a3, a4.trans g4, a5, a6, a7, fun q q1 q2 => ?_⟩
      · rw [e1, Option.bind_some]
        simp only [gnw, gb2f]
        rw [g1, gb_r, e6, Option.bind_some]
        exact a1
      · refine (a8 q (by simp only [gup]; omega) q2).trans ?_
        simp [gup, q2, g6 q q1]
end
