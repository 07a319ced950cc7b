section
variable {Γ : gΓ} {w0 w : gW} {g0 : gG} {E : String → gW → Prop}
set_option maxHeartbeats 1000000 in
theorem j_L {P : Unit → gW → Prop} {c0 c1 l0 l1 : Nat} {s : Int32} {m : Int} {K : gW → gX Unit} (hl : l0 ≠ l1) (hm : 0 ≤ m) (hms : m + s.toInt ≤ 12) (n : Nat) : ∀ (z : Int32) (w : gW) (Γ : gΓ), gIv Γ w0 w → Γ.T c0 = some Ty.body → Γ.T c1 = some Ty.body → Γ.T l0 = some (Ty.lst 3) → Γ.T l1 = some (Ty.lst 3) → gfA w c0 4 0 = some l0 → gfA w c1 4 0 = some l1 → (∃ t : Int32, gf w l0 1 1 = some (.int t) ∧ t.toInt = m + z.toInt) → gf w l1 1 1 = some (.int s) → 0 ≤ z.toInt → z.toInt ≤ s.toInt → s.toInt < z.toInt + n → (∀ y, Γ.T y = some Ty.mty → y = g0.1) → (Γ.R 0).1 = 0 ∧ (Γ.R 0).2 = 8 ∧ (Γ.R 3).1 = 0 ∧ (Γ.R 3).2 = 12 ∧ (Γ.R 4).1 = 0 ∧ (Γ.R 4).2 = 30 ∧ (Γ.R 5).1 = 0 ∧ (Γ.R 5).2 = 30 ∧ 0 ≤ (Γ.R 6).1 ∧ (Γ.R 6).2 ≤ 10 → (∀ t, Γ.Q t = false) →
    (∀ (w' : gW) (Γ' : gΓ), gIv Γ' w0 w' → gAl Γ w Γ' w' → Γ'.R = Γ.R → (∃ t : Int32, gf w' l0 1 1 = some (.int t) ∧ t.toInt = m + s.toInt) → (∀ q, q < w.2 → q ≠ l0 → (∀ n, Γ.T q ≠ some (Ty.row l0 3 n)) → w'.1 q = w.1 q) → gSat (K w') P E) → gSat (f_By_addAllOf_L2 g0 c0 c1 K n z w) P E := by
  induction n with
  | zero => intros; omega
  | succ n ih =>
    intro z w Γ hI hc0 hc1 hl0 hl1 e0 e1 ht hs z0 z1 z2 hE hR hQ hK
    obtain ⟨t, ht1, ht2⟩ := ht
    rw [f_By_addAllOf_L2.eq_2]
    rw [e1, Option.bind_some]
    refine w_ck hI hl1 rfl (by decide) ?_
    refine w_sizeX hs ?_
    refine gSat.ite ?_ ?_
    · intro hc
      rw [Int32.le_iff_toInt_le] at hc
      exact hK w Γ hI (gAl.same (Nat.le_refl _) hI) rfl ⟨t, ht1, by omega⟩ (fun _ _ _ _ => rfl)
    · intro hc
      rw [Int32.le_iff_toInt_le] at hc
      rw [e0, Option.bind_some, e1, Option.bind_some]
      refine w_ck hI hl1 rfl (by decide) ?_
      refine w_get hI hl1 hs (by omega) ?_
      intro y hy
      refine w_ck hI hy rfl (by decide) ?_
      refine w_ck hI hl0 rfl (by decide) ?_
      obtain ⟨w1, Γ1, g1, g2, g3, g4, g5, g6⟩ := a_add (g0 := g0) (R := Γ.R) hI hl0 (by decide) hy ht1 (by omega) hE (fun _ _ => rfl) (by omega) (Or.inl rfl) hQ
      rw [g1, gb_r]
      have hle := g3.le hI
      have hnr : ∀ {q : Nat} {u : Ty}, Γ.T q = some u → u.1 ≠ 2 → ∀ n, Γ.T q ≠ some (Ty.row l0 3 n) := by
        intro q u hq hu n e
        rw [hq] at e
        cases e
        exact hu rfl
      have n0 : c0 ≠ l0 := ne_T hc0 hl0 (by decide)
      have n1 : c1 ≠ l0 := ne_T hc1 hl0 (by decide)
      have k0 := g6 c0 (hI.lt _ _ hc0) n0 (hnr hc0 (by decide))
      have k1 := g6 c1 (hI.lt _ _ hc1) n1 (hnr hc1 (by decide))
      have k2 := g6 l1 (hI.lt _ _ hl1) (Ne.symm hl) (hnr hl1 (by decide))
      have hz1 : (z + 1).toInt = z.toInt + 1 := by rw [y_add] <;> simp <;> omega
      have ht3 : (t + 1).toInt = t.toInt + 1 := by rw [y_add] <;> simp <;> omega
      refine ih (z + 1) w1 Γ1 g2 (hle _ _ hc0) (hle _ _ hc1) (hle _ _ hl0) (hle _ _ hl1) ((fr_A k0).trans e0) ((fr_A k1).trans e1) ⟨t + 1, g5, by omega⟩ ((fr_f k2).trans hs) (by omega) (by omega) (by omega) (g3.mt hE) (by rw [g4]; exact hR) (by intro u; rw [g3.2.2.1]; exact hQ u) ?_
      intro w' Γ' a1 a2 a3 a4 a5
      refine hK w' Γ' a1 (g3.tr a2) (a3.trans g4) a4 (fun q h1 h2 h3 => ?_)
      refine (a5 q (Nat.lt_of_lt_of_le h1 g3.2.2.2) h2 (fun n e => h3 n ?_)).trans (g6 q h1 h2 h3)
      rw [← g3.1 q h1]
      exact e
set_option maxHeartbeats 1000000 in
theorem j_all {c0 c1 l0 l1 : Nat} {s t : Int32} (hl : l0 ≠ l1) (hI : gIv Γ w0 w) (hc0 : Γ.T c0 = some Ty.body) (hc1 : Γ.T c1 = some Ty.body) (hl0 : Γ.T l0 = some (Ty.lst 3)) (hl1 : Γ.T l1 = some (Ty.lst 3)) (e0 : gfA w c0 4 0 = some l0) (e1 : gfA w c1 4 0 = some l1) (ht : gf w l0 1 1 = some (.int t)) (ht0 : 0 ≤ t.toInt) (hs : gf w l1 1 1 = some (.int s)) (hs0 : 0 ≤ s.toInt) (hts : t.toInt + s.toInt ≤ 12) (hE : ∀ y, Γ.T y = some Ty.mty → y = g0.1) (hR : (Γ.R 0).1 = 0 ∧ (Γ.R 0).2 = 8 ∧ (Γ.R 3).1 = 0 ∧ (Γ.R 3).2 = 12 ∧ (Γ.R 4).1 = 0 ∧ (Γ.R 4).2 = 30 ∧ (Γ.R 5).1 = 0 ∧ (Γ.R 5).2 = 30 ∧ 0 ≤ (Γ.R 6).1 ∧ (Γ.R 6).2 ≤ 10) (hQ : ∀ t, Γ.Q t = false) :
    gSat (f_By_addAllOf g0 c0 c1 w) (fun _ w' => ∃ Γ', gIv Γ' w0 w' ∧ gAl Γ w Γ' w' ∧ Γ'.R = Γ.R ∧ (∃ t' : Int32, gf w' l0 1 1 = some (.int t') ∧ t'.toInt = t.toInt + s.toInt) ∧ gfA w' c0 4 0 = some l0 ∧ (∀ q u, Γ.T q = some u → u.1 ≠ 2 → q ≠ l0 → q ≠ c0 → w'.1 q = w.1 q)) (fun _ _ => False) := by
  unfold f_By_addAllOf
  refine w_jj ?_
  have h13 : ((13 : Nat) : Int) = 13 := rfl
  refine j_L (m := t.toInt) (s := s) hl ht0 hts 13 0 w Γ hI hc0 hc1 hl0 hl1 e0 e1 ⟨t, ht, by simp⟩ hs (by decide) (by simpa using hs0) (by simp; omega) hE hR hQ ?_
  intro w1 Γ1 a1 a2 a3 a4 a5
  have hle := a2.le hI
  have hnr : ∀ {q : Nat} {u : Ty}, Γ.T q = some u → u.1 ≠ 2 → ∀ n, Γ.T q ≠ some (Ty.row l0 3 n) := by
    intro q u hq hu n e
    rw [hq] at e
    cases e
    exact hu rfl
  have n0 : c0 ≠ l0 := ne_T hc0 hl0 (by decide)
  have k0 := a5 c0 (hI.lt _ _ hc0) n0 (hnr hc0 (by decide))
  refine w_J a1 (hle _ _ hc0) rfl ?_
  intro x
  refine w_J a1 (hle _ _ hc1) rfl ?_
  intro y
  refine w_pf a1.rebase (hle _ _ hc0) rfl trivial (by rw [a2.2.2.1]; exact hQ _) ?_
  intro w2 i2 b1 b2 b3
  obtain ⟨t', t1, t2⟩ := a4
  refine gSat.ret ⟨Γ1, a1.chain i2, ⟨a2.1, a2.2.1, a2.2.2.1, Nat.le_trans a2.2.2.2 i2.le⟩, a3, ⟨t', (fr_f (b3 l0 (Ne.symm n0))).trans t1, t2⟩, ?_, fun q u hq hu h1 h2 => (b3 q h2).trans (a5 q (hI.lt _ _ hq) h1 (hnr hq hu))⟩
  have : gfA w1 c0 4 0 = some l0 := (fr_A k0).trans e0
  unfold gfA at this ⊢
  rw [b2 0 (by decide)]
  exact this
set_option maxHeartbeats 1000000 in
theorem t_B_join {a0 : Nat} {p1 : Int32} {p2 : Int32} (hI : gIv Γ w0 w) (ha0 : Γ.T a0 = some Ty.top) (hR : (Γ.R 0).1 = 0 ∧ (Γ.R 0).2 = 8 ∧ (Γ.R 3).1 = 0 ∧ (Γ.R 3).2 = 12 ∧ (Γ.R 4).1 = 0 ∧ (Γ.R 4).2 = 30 ∧ (Γ.R 5).1 = 0 ∧ (Γ.R 5).2 = 30 ∧ 0 ≤ (Γ.R 6).1 ∧ (Γ.R 6).2 ≤ 10) (hQ : ∀ t, Γ.Q t = false) (hE : ∀ y, Γ.T y = some Ty.mty → y = g0.1) (hE0 : Γ.T g0.1 = some Ty.mty) : gSat (f_B_join g0 a0 p1 p2 w) (fun v w' => ∃ Γ', gIv Γ' w0 w' ∧ gAl Γ w Γ' w' ∧ Γ'.R = Γ.R) (fun n w' => (n = "java/lang/IndexOutOfBoundsException") ∧ gIv Γ w0 w') := by
  unfold f_B_join
  refine w_ck hI ha0 rfl (by decide) ?_
  refine w_call (t_B_bodyAt hI ha0 hR) (fun _ _ h => ⟨h.1, h.2⟩) ?_
  rintro v5 w' ⟨e, hv5, -⟩
  rw [e]
  clear e w'
  refine w_ck hI ha0 rfl (by decide) ?_
  refine w_call (t_B_bodyAt hI ha0 hR) (fun _ _ h => ⟨h.1, h.2⟩) ?_
  rintro v10 w' ⟨e, hv10, -⟩
  rw [e]
  clear e w'
  refine w_A hI ha0 rfl ?_
  intro B hB hBT
  refine w_ck hI hBT rfl (by decide) ?_
  refine w_size hI hBT ?_
  intro sB hsB b0 b1 b2
  refine w_jj ?_
  have e30 : (30 : Int32).toInt = 30 := by decide
  have e12 : (12 : Int32).toInt = 12 := by decide
  refine gSat.ite ?_ ?_
  · intro _
    exact gSat.ret ⟨Γ, hI, gAl.same (Nat.le_refl _) hI, rfl⟩
  · intro hc
    rw [Int32.le_iff_toInt_le, e30] at hc
    refine w_A hI hv5 rfl ?_
    intro l1 hl1 hl1T
    refine w_ck hI hl1T rfl (by decide) ?_
    refine w_size hI hl1T ?_
    intro s1 hs1 c0 c1 c2
    refine w_A hI hv10 rfl ?_
    intro l2 hl2 hl2T
    refine w_ck hI hl2T rfl (by decide) ?_
    refine w_size hI hl2T ?_
    intro s2 hs2 d0 d1 d2
    refine gSat.ite ?_ ?_
    · intro hc2
      have hadd : (s1 + s2).toInt = s1.toInt + s2.toInt := by rw [y_add] <;> omega
      rw [Int32.le_iff_toInt_le, e12, hadd] at hc2
      simp only [gnw, gb2f]
      obtain ⟨w1, Γ1, e1, i1, al1, r1, ho, f1, o1, o2, o3⟩ := n_body (g0 := g0) hI hE0 hR hQ
      rw [e1, gb_r]
      have hle1 := al1.le hI
      have hq1 : ∀ t, Γ1.Q t = false := by intro t; rw [al1.2.2.1]; exact hQ t
      have hR1 : (Γ1.R 0).1 = 0 ∧ (Γ1.R 0).2 = 8 ∧ (Γ1.R 3).1 = 0 ∧ (Γ1.R 3).2 = 12 ∧ (Γ1.R 4).1 = 0 ∧ (Γ1.R 4).2 = 30 ∧ (Γ1.R 5).1 = 0 ∧ (Γ1.R 5).2 = 30 ∧ 0 ≤ (Γ1.R 6).1 ∧ (Γ1.R 6).2 ≤ 10 := by rw [r1]; exact hR
      refine w_ck i1 ho rfl (by decide) ?_
      have m1 := hI.lt _ _ hl1T
      have m2 := hI.lt _ _ hl2T
      have m3 := hI.lt _ _ hv10
      have m4 := hI.lt _ _ hBT
      have m5 := hI.lt _ _ ha0
      refine w_call (j_all (t := 0) (s := s1) (by omega) i1 ho (hle1 _ _ hv5) o2 (hle1 _ _ hl1T) o1 ((fr_A (f1 _ (hI.lt _ _ hv5))).trans hl1) o3 (by decide) ((fr_f (f1 _ m1)).trans hs1) c0 (by simp; omega) (al1.mt hE) hR1 hq1) (fun _ _ h => h.elim) ?_
      rintro _ w2 ⟨Γ2, i2, al2, r2, ⟨t2, q1, q2⟩, q3, q4⟩
      have hle2 := al2.le i1
      have hq2 : ∀ t, Γ2.Q t = false := by intro t; rw [al2.2.2.1]; exact hq1 t
      have z0 : (0 : Int32).toInt = 0 := by decide
      have x1 := q4 v10 _ (hle1 _ _ hv10) (by decide) (by omega) (by omega)
      have x2 := q4 l2 _ (hle1 _ _ hl2T) (by decide) (by omega) (by omega)
      have x3 := q4 B _ (hle1 _ _ hBT) (by decide) (by omega) (by omega)
      have x4 := q4 a0 _ (hle1 _ _ ha0) (by decide) (by omega) (by omega)
      refine w_ck i2 (hle2 _ _ ho) rfl (by decide) ?_
      refine w_call (j_all (t := t2) (s := s2) (l0 := w.2 + 1) (by omega) i2 (hle2 _ _ ho) (hle2 _ _ (hle1 _ _ hv10)) (hle2 _ _ o2) (hle2 _ _ (hle1 _ _ hl2T)) q3 ((fr_A x1).trans ((fr_A (f1 _ m3)).trans hl2)) q1 (by omega) ((fr_f x2).trans ((fr_f (f1 _ m2)).trans hs2)) d0 (by omega) (al2.mt (al1.mt hE)) (by rw [r2]; exact hR1) hq2) (fun _ _ h => h.elim) ?_
      rintro _ w3 ⟨Γ3, i3, al3, r3, -, -, q5⟩
      have hle3 := al3.le i2
      have hq3 : ∀ t, Γ3.Q t = false := by intro t; rw [al3.2.2.1]; exact hq2 t
      have x5 := q5 B _ (hle2 _ _ (hle1 _ _ hBT)) (by decide) (by omega) (by omega)
      have x6 := q5 a0 _ (hle2 _ _ (hle1 _ _ ha0)) (by decide) (by omega) (by omega)
      have ha3 := hle3 _ _ (hle2 _ _ (hle1 _ _ ha0))
      refine w_ck i3 ha3 rfl (by decide) ?_
      obtain ⟨v, w4, Γ4, g1, g2, g3, g4⟩ := a_body (g0 := g0) (s := sB) i3 ha3 (hle3 _ _ (hle2 _ _ ho)) ((fr_A x6).trans ((fr_A x4).trans ((fr_A (f1 _ m5)).trans hB))) (hle3 _ _ (hle2 _ _ (hle1 _ _ hBT))) ((fr_f x5).trans ((fr_f x3).trans ((fr_f (f1 _ m4)).trans hsB))) b0 (by omega) (al3.mt (al2.mt (al1.mt hE))) (by rw [r3, r2]; exact hR1) hq3
      rw [g1, gb_r]
      exact gSat.ret ⟨Γ4, g2, al1.tr (al2.tr (al3.tr g3)), g4.trans (r3.trans (r2.trans r1))⟩
    · intro _
      exact gSat.ret ⟨Γ, hI, gAl.same (Nat.le_refl _) hI, rfl⟩
end
