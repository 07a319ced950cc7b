section
variable {Γ : gΓ} {w0 w : gW} {g0 : gG} {E : String → gW → Prop}
set_option maxHeartbeats 1000000 in
theorem t_B_corner {a0 : Nat} {p1 : Int64} {p2 : Int64}  (hI : gIv Γ w0 w) (ha0 : Γ.T a0 = some Ty.top) (q0_ : (Γ.R 0).1 = 0 ∧ (Γ.R 0).2 = 8 ∧ (Γ.R 3).1 = 0 ∧ (Γ.R 3).2 = 12 ∧ (Γ.R 4).1 = 0 ∧ (Γ.R 4).2 = 30 ∧ (Γ.R 5).1 = 0 ∧ (Γ.R 5).2 = 30 ∧ 0 ≤ (Γ.R 6).1 ∧ (Γ.R 6).2 ≤ 10) (q1_ : Γ.Q (Ty.aj 8) = false) (q2_ : Γ.Q Ty.top = false) : gSat (f_B_corner g0 a0 p1 p2 w) (fun v w' => gIv Γ w0 w' ∧ True) (fun n w' => (n = "java/lang/IllegalArgumentException") ∧ gIv Γ w0 w') := by
  unfold f_B_corner
  repeat' (first | ((with_reducible apply gSat.ret); first | exact ⟨rfl, trivial⟩ | exact ⟨by assumption, trivial⟩ | (refine ⟨rfl, ?_⟩; first | assumption | ((try simp only [Int32.le_iff_toInt_le, Int32.lt_iff_toInt_lt, ← Int32.toInt_inj, y_cl, Int32.reduceToInt, ne_eq, Int32.toInt_zero, Int32.toInt_one]) <;> (try simp (disch := (first | ((try simp (disch := (first | ((try simp (disch := (first | ((try simp only [Int32.reduceToInt, Int32.toInt_zero, Int32.toInt_one]) <;> omega) | fail)) only [y_add, y_sub, y_mul, Int32.reduceToInt, Int32.toInt_zero, Int32.toInt_one]) <;> omega) | fail)) only [y_add, y_sub, y_mul, Int32.reduceToInt, Int32.toInt_zero, Int32.toInt_one]) <;> omega) | fail)) only [y_add, y_sub, y_mul, Int32.reduceToInt, Int32.toInt_zero, Int32.toInt_one]) <;> omega) | simp) | (refine ⟨by assumption, ?_⟩; first | assumption | ((try simp only [Int32.le_iff_toInt_le, Int32.lt_iff_toInt_lt, ← Int32.toInt_inj, y_cl, Int32.reduceToInt, ne_eq, Int32.toInt_zero, Int32.toInt_one]) <;> (try simp (disch := (first | ((try simp (disch := (first | ((try simp (disch := (first | ((try simp only [Int32.reduceToInt, Int32.toInt_zero, Int32.toInt_one]) <;> omega) | fail)) only [y_add, y_sub, y_mul, Int32.reduceToInt, Int32.toInt_zero, Int32.toInt_one]) <;> omega) | fail)) only [y_add, y_sub, y_mul, Int32.reduceToInt, Int32.toInt_zero, Int32.toInt_one]) <;> omega) | fail)) only [y_add, y_sub, y_mul, Int32.reduceToInt, Int32.toInt_zero, Int32.toInt_one]) <;> omega) | simp)) | ((with_reducible apply w_X); solve_by_elim) | ((with_reducible apply w_X); assumption) | ((with_reducible apply w_A0); assumption) | ((with_reducible apply w_A); assumption; assumption; rfl; intro _ _ _) | ((with_reducible apply w_I); assumption; assumption; rfl; intro _ _ _ _) | ((with_reducible apply w_R); assumption; assumption; rfl; intro _ _ _ _) | ((with_reducible apply w_sJ); assumption; assumption; ((try simp only [Int32.le_iff_toInt_le, Int32.lt_iff_toInt_lt, ← Int32.toInt_inj, y_cl, Int32.reduceToInt, ne_eq, Int32.toInt_zero, Int32.toInt_one]) <;> (try simp (disch := (first | ((try simp (disch := (first | ((try simp (disch := (first | ((try simp only [Int32.reduceToInt, Int32.toInt_zero, Int32.toInt_one]) <;> omega) | fail)) only [y_add, y_sub, y_mul, Int32.reduceToInt, Int32.toInt_zero, Int32.toInt_one]) <;> omega) | fail)) only [y_add, y_sub, y_mul, Int32.reduceToInt, Int32.toInt_zero, Int32.toInt_one]) <;> omega) | fail)) only [y_add, y_sub, y_mul, Int32.reduceToInt, Int32.toInt_zero, Int32.toInt_one]) <;> omega); (first | assumption | exact QM.use (by assumption) (by decide) (by decide)); intro _ _ _ _) | ((with_reducible apply w_pf); assumption; assumption; rfl; (first | exact trivial | exact y_any _ | (refine ⟨?_, ?_⟩ <;> ((try simp only [Int32.le_iff_toInt_le, Int32.lt_iff_toInt_lt, ← Int32.toInt_inj, y_cl, Int32.reduceToInt, ne_eq, Int32.toInt_zero, Int32.toInt_one]) <;> (try simp (disch := (first | ((try simp (disch := (first | ((try simp (disch := (first | ((try simp only [Int32.reduceToInt, Int32.toInt_zero, Int32.toInt_one]) <;> omega) | fail)) only [y_add, y_sub, y_mul, Int32.reduceToInt, Int32.toInt_zero, Int32.toInt_one]) <;> omega) | fail)) only [y_add, y_sub, y_mul, Int32.reduceToInt, Int32.toInt_zero, Int32.toInt_one]) <;> omega) | fail)) only [y_add, y_sub, y_mul, Int32.reduceToInt, Int32.toInt_zero, Int32.toInt_one]) <;> omega)) | assumption); (first | assumption | exact QM.use (by assumption) (by decide) (by decide)); intro _ _ _ _ _) | ((with_reducible apply gSat.ite) <;> intro hc <;> ((try simp only [Int32.le_iff_toInt_le, Int32.lt_iff_toInt_lt, ← Int32.toInt_inj, y_cl, Int32.reduceToInt, ne_eq, Int32.toInt_zero, Int32.toInt_one] at hc) <;> (try simp (disch := (first | ((try simp (disch := (first | ((try simp (disch := (first | ((try simp only [Int32.reduceToInt, Int32.toInt_zero, Int32.toInt_one]) <;> omega) | fail)) only [y_add, y_sub, y_mul, Int32.reduceToInt, Int32.toInt_zero, Int32.toInt_one]) <;> omega) | fail)) only [y_add, y_sub, y_mul, Int32.reduceToInt, Int32.toInt_zero, Int32.toInt_one]) <;> omega) | fail)) only [y_add, y_sub, y_mul, Int32.reduceToInt, Int32.toInt_zero, Int32.toInt_one] at hc))) | ((with_reducible apply w_call); ((with_reducible apply t_B_needPlace) <;> (first | assumption | ((try simp only [Int32.le_iff_toInt_le, Int32.lt_iff_toInt_lt, ← Int32.toInt_inj, y_cl, Int32.reduceToInt, ne_eq, Int32.toInt_zero, Int32.toInt_one]) <;> (try simp (disch := (first | ((try simp (disch := (first | ((try simp (disch := (first | ((try simp only [Int32.reduceToInt, Int32.toInt_zero, Int32.toInt_one]) <;> omega) | fail)) only [y_add, y_sub, y_mul, Int32.reduceToInt, Int32.toInt_zero, Int32.toInt_one]) <;> omega) | fail)) only [y_add, y_sub, y_mul, Int32.reduceToInt, Int32.toInt_zero, Int32.toInt_one]) <;> omega) | fail)) only [y_add, y_sub, y_mul, Int32.reduceToInt, Int32.toInt_zero, Int32.toInt_one]) <;> omega))); (first | exact fun _ _ h => h.elim | exact fun _ _ h => h | exact fun _ _ h => ⟨Or.inl h.1, h.2⟩ | exact fun _ _ h => ⟨Or.inr h.1, h.2⟩); rintro _ _ ⟨h, _⟩; subst h) | ((with_reducible apply gSat.guard); first | assumption | decide | simp | ((try simp only [Int32.le_iff_toInt_le, Int32.lt_iff_toInt_lt, ← Int32.toInt_inj, y_cl, Int32.reduceToInt, ne_eq, Int32.toInt_zero, Int32.toInt_one]) <;> (try simp (disch := (first | ((try simp (disch := (first | ((try simp (disch := (first | ((try simp only [Int32.reduceToInt, Int32.toInt_zero, Int32.toInt_one]) <;> omega) | fail)) only [y_add, y_sub, y_mul, Int32.reduceToInt, Int32.toInt_zero, Int32.toInt_one]) <;> omega) | fail)) only [y_add, y_sub, y_mul, Int32.reduceToInt, Int32.toInt_zero, Int32.toInt_one]) <;> omega) | fail)) only [y_add, y_sub, y_mul, Int32.reduceToInt, Int32.toInt_zero, Int32.toInt_one]) <;> omega)))
set_option maxHeartbeats 1000000 in
theorem t_B_move {a0 : Nat} {p1 : Int32} {p2 : Int64} {p3 : Int64} {p4 : Int32} {p5 : Int32} (hI : gIv Γ w0 w) (ha0 : Γ.T a0 = some Ty.top) (hR : (Γ.R 0).1 = 0 ∧ (Γ.R 0).2 = 8 ∧ (Γ.R 3).1 = 0 ∧ (Γ.R 3).2 = 12 ∧ (Γ.R 4).1 = 0 ∧ (Γ.R 4).2 = 30 ∧ (Γ.R 5).1 = 0 ∧ (Γ.R 5).2 = 30 ∧ 0 ≤ (Γ.R 6).1 ∧ (Γ.R 6).2 ≤ 10) (hQ : ∀ t, Γ.Q t = false) (hE : ∀ y, Γ.T y = some Ty.mty → y = g0.1)  : gSat (f_B_move g0 a0 p1 p2 p3 p4 p5 w) (fun v w' => ∃ Γ', gIv Γ' w0 w' ∧ gAl Γ w Γ' w' ∧ Γ'.R = Γ.R) (fun n w' => (n = "java/lang/IndexOutOfBoundsException" ∨ n = "java/lang/IllegalArgumentException") ∧ gIv Γ w0 w') := by
  unfold f_B_move
  refine w_ck hI ha0 rfl (by decide) ?_
  refine w_call (t_B_placementAt hI ha0 hR) (fun _ _ h => ⟨Or.inl h.1, h.2⟩) ?_
  rintro v5 w' ⟨e, hv5, h2⟩
  rw [e]
  clear e w'
  have hp : 0 ≤ p1.toInt ∧ p1.toInt < 30 := by
    obtain ⟨P, hP, hPT⟩ := hI.ref (c := 0) (k := 2) ha0 rfl
    obtain ⟨s, -, hs, h0, h1, h3⟩ := l_size (g0 := g0) hI hPT
    have := h2 P s hP hs
    omega
  obtain ⟨hp0, hp1⟩ := hp
  refine w_call (t_B_needPosition hI) (fun _ _ h => ⟨Or.inr h.1, h.2⟩) ?_
  rintro _ w' ⟨e, -⟩
  rw [e]
  clear e w'
  refine w_ck hI hv5 rfl (by decide) ?_
  refine w_call (t_Pl_isAt hI hv5) (fun _ _ h => h.elim) ?_
  rintro v13 w' ⟨e, -⟩
  rw [e]
  clear e w'
  refine gSat.ite ?_ ?_
  · intro _
    refine w_ck hI hv5 rfl (by decide) ?_
    refine w_call (t_Pl_goTo (w0 := w) hI.rebase hv5 (hQ _)) (fun _ _ h => h.elim) ?_
    rintro _ w2 ⟨i2, -⟩
    refine w_ck i2 ha0 rfl (by decide) ?_
    refine w_call (t_B_forgetRelationsAt (w0 := w) i2 ha0 hp0 hp1 (hQ _)) (fun _ _ h => h.elim) ?_
    rintro _ w3 ⟨i3, -⟩
    exact gSat.guard (by simp) (gSat.ret ⟨Γ, hI.chain i3, gAl.same i3.le hI, rfl⟩)
  · intro _
    exact gSat.guard (by simp) (gSat.ret ⟨Γ, hI, gAl.same (Nat.le_refl _) hI, rfl⟩)
def gBod (Γ : gΓ) (n : Nat) : gΓ := (fun q => if q = n then some Ty.body else if q = n + 1 then some (Ty.lst 3) else Γ.T q, Γ.R, Γ.Q)
theorem n_body (hI : gIv Γ w0 w) (hE0 : Γ.T g0.1 = some Ty.mty) (hR : (Γ.R 0).1 = 0 ∧ (Γ.R 0).2 = 8 ∧ (Γ.R 3).1 = 0 ∧ (Γ.R 3).2 = 12 ∧ (Γ.R 4).1 = 0 ∧ (Γ.R 4).2 = 30 ∧ (Γ.R 5).1 = 0 ∧ (Γ.R 5).2 = 30 ∧ 0 ≤ (Γ.R 6).1 ∧ (Γ.R 6).2 ≤ 10) (hQ : ∀ t, Γ.Q t = false) : ∃ (w1 : gW) (Γ1 : gΓ), f_By_init g0 w.2 (gpush w (.inr (4, [.null, .long 0]))) = some (.inr (), w1) ∧ gIv Γ1 w0 w1 ∧ gAl Γ w Γ1 w1 ∧ Γ1.R = Γ.R ∧ Γ1.T w.2 = some Ty.body ∧ (∀ q, q < w.2 → w1.1 q = w.1 q) ∧ gfA w1 w.2 4 0 = some (w.2 + 1) ∧ Γ1.T (w.2 + 1) = some (Ty.lst 3) ∧ gf w1 (w.2 + 1) 1 1 = some (.int 0) := by
  have n1 : w.2 ≠ w.2 + 1 := by omega
  have n3 : w.2 + 1 ≠ w.2 := by omega
  have key : ∃ w1, f_By_init g0 w.2 (gpush w (.inr (4, [.null, .long 0]))) = some (.inr (), w1) ∧ w1.1 w.2 = some (.inr (4, [.ref (w.2 + 1), .long 0])) ∧ w1.1 (w.2 + 1) = some (.inr (1, [.ref g0.1, .int 0, .int 0])) ∧ (∀ q, q < w.2 → w1.1 q = w.1 q) ∧ w1.2 = w.2 + 2 := by
    generalize hx : f_By_init g0 w.2 (gpush w (.inr (4, [.null, .long 0]))) = x
    simp [f_By_init, gb2f, gnw, gpush, f_AL_init, f_AbL_init, f_AbC_init, gbind, gp, gup, n1, n3] at hx
    subst hx
    refine ⟨_, rfl, by simp, by simp [n3], fun q hq => ?_, rfl⟩
    have h3 : q ≠ w.2 := by omega
    have h4 : q ≠ w.2 + 1 := by omega
    simp [h3, h4]
  obtain ⟨w1, e1, e2, e3, e5, e6⟩ := key
  have hT : ∀ q, (gBod Γ w.2).T q = if q = w.2 then some Ty.body else if q = w.2 + 1 then some (Ty.lst 3) else Γ.T q := fun _ => rfl
  have hold : ∀ q, q < w.2 → (gBod Γ w.2).T q = Γ.T q := by
    intro q hq
    rw [hT, if_neg (by omega), if_neg (by omega)]
  have t0 : (gBod Γ w.2).T w.2 = some Ty.body := by rw [hT, if_pos rfl]
  have t1 : (gBod Γ w.2).T (w.2 + 1) = some (Ty.lst 3) := by rw [hT, if_neg n3, if_pos rfl]
  have new : ∀ q t, w.2 ≤ q → (gBod Γ w.2).T q = some t → (q = w.2 ∧ t = Ty.body) ∨ (q = w.2 + 1 ∧ t = Ty.lst 3) := by
    intro q t hq ht
    rw [hT] at ht
    split at ht
    · exact Or.inl ⟨by assumption, (Option.some.inj ht).symm⟩
    · split at ht
      · exact Or.inr ⟨by assumption, (Option.some.inj ht).symm⟩
      · have := hI.lt q t ht
        omega
  have hr3 : (gBod Γ w.2).R 3 = Γ.R 3 := rfl
  refine ⟨w1, gBod Γ w.2, e1, hI.ext e5 (by omega) hold rfl rfl (fun q t hq ht => ?_), ⟨hold, fun q t hq ht => ?_, rfl, by omega⟩, rfl, t0, e5, by simp [gfA, gf, gvA, e2], t1, by simp [gf, e3]⟩
  · rcases new q t hq ht with ⟨a, b⟩ | ⟨a, b⟩
    · subst a b
      refine ⟨(okE_obj (by unfold isO; simp)).mpr ⟨_, e2, rfl, fun k s v hk hv => ?_⟩, by omega, hQ _⟩
      have hk' := (List.getElem?_eq_some_iff.mp hk).1
      have hl : (specs Ty.body).2.length = 2 := rfl
      rw [hl] at hk'
      match k, hk' with
      | 0, _ => cases hk; cases hv; exact t1
      | 1, _ => cases hk; cases hv; trivial
    · subst a b
      refine ⟨okE.mkl e3 ?_ ?_ (by decide) (Or.inl ⟨?_, rfl⟩), by omega, hQ _⟩
      · rw [hr3]
        have : (0 : Int32).toInt = 0 := by decide
        omega
      · rw [hr3]
        have : (0 : Int32).toInt = 0 := by decide
        omega
      · rw [hold _ (hI.lt _ _ hE0)]
        exact hE0
  · rcases new q t hq ht with ⟨a, b⟩ | ⟨a, b⟩
    · subst b
      exact ⟨by decide, fun e => by cases e⟩
    · subst b
      exact ⟨by decide, fun _ => by decide⟩
theorem a_body {a0 a1 B : Nat} {s : Int32} (hI : gIv Γ w0 w) (ha0 : Γ.T a0 = some Ty.top) (ha1 : Γ.T a1 = some Ty.body) (hB : gfA w a0 0 1 = some B) (hBT : Γ.T B = some (Ty.lst 4)) (hs : gf w B 1 1 = some (.int s)) (hs0 : 0 ≤ s.toInt) (hs1 : s.toInt < 30) (hE : ∀ y, Γ.T y = some Ty.mty → y = g0.1) (hR : (Γ.R 0).1 = 0 ∧ (Γ.R 0).2 = 8 ∧ (Γ.R 3).1 = 0 ∧ (Γ.R 3).2 = 12 ∧ (Γ.R 4).1 = 0 ∧ (Γ.R 4).2 = 30 ∧ (Γ.R 5).1 = 0 ∧ (Γ.R 5).2 = 30 ∧ 0 ≤ (Γ.R 6).1 ∧ (Γ.R 6).2 ≤ 10) (hQ : ∀ t, Γ.Q t = false) : ∃ (v : Int32) (w' : gW) (Γ' : gΓ), f_B_addBody g0 a0 a1 w = some (.inr v, w') ∧ gIv Γ' w0 w' ∧ gAl Γ w Γ' w' ∧ Γ'.R = Γ.R := by
  obtain ⟨w1, Γ1, e1, e2, e3, e4, e5, e6⟩ := a_add (g0 := g0) (R := Γ.R) hI hBT (by decide) ha1 hs (by omega) hE (fun _ _ => rfl) (by omega) (Or.inl rfl) hQ
  have ha : Γ1.T a0 = some Ty.top := e3.le hI _ _ ha0
  obtain ⟨B', g1, g2⟩ := e2.ref (c := 0) (k := 1) ha rfl
  obtain ⟨s', g3, -⟩ := l_size (g0 := g0) e2 g2
  refine ⟨s' - 1, w1, Γ1, ?_, e2, e3, e4⟩
  unfold f_B_addBody
  rw [hB, Option.bind_some, hI.ck (c := 1) hBT rfl (by decide), Option.bind_some, e1, gb_r, g1, Option.bind_some, e2.ck (c := 1) g2 rfl (by decide), Option.bind_some, g3, gb_r]
set_option maxHeartbeats 1000000 in
theorem t_B_body {a0 : Nat} (hI : gIv Γ w0 w) (ha0 : Γ.T a0 = some Ty.top) (hR : (Γ.R 0).1 = 0 ∧ (Γ.R 0).2 = 8 ∧ (Γ.R 3).1 = 0 ∧ (Γ.R 3).2 = 12 ∧ (Γ.R 4).1 = 0 ∧ (Γ.R 4).2 = 30 ∧ (Γ.R 5).1 = 0 ∧ (Γ.R 5).2 = 30 ∧ 0 ≤ (Γ.R 6).1 ∧ (Γ.R 6).2 ≤ 10) (hQ : ∀ t, Γ.Q t = false) (hE : ∀ y, Γ.T y = some Ty.mty → y = g0.1) (hE0 : Γ.T g0.1 = some Ty.mty) : gSat (f_B_body g0 a0 w) (fun v w' => ∃ Γ', gIv Γ' w0 w' ∧ gAl Γ w Γ' w' ∧ Γ'.R = Γ.R) (fun _ _ => False) := by
  unfold f_B_body
  refine w_A hI ha0 rfl ?_
  intro B hB hBT
  refine w_ck hI hBT rfl (by decide) ?_
  refine w_size hI hBT ?_
  intro s hs h0 h1 h2
  refine w_jj ?_
  refine gSat.ite ?_ ?_
  · intro _
    exact gSat.ret ⟨Γ, hI, gAl.same (Nat.le_refl _) hI, rfl⟩
  · intro hc
    have e30 : (30 : Int32).toInt = 30 := by decide
    rw [Int32.le_iff_toInt_le, e30] at hc
    simp only [gnw, gb2f]
    obtain ⟨w1, Γ1, e1, i1, al1, r1, hb1, f1, -, -, -⟩ := n_body (g0 := g0) hI hE0 hR hQ
    rw [e1, gb_r]
    have hle := al1.le hI
    refine w_ck i1 (hle _ _ ha0) rfl (by decide) ?_
    obtain ⟨v, w2, Γ2, g1, g2, g3, g4⟩ := a_body (g0 := g0) i1 (hle _ _ ha0) hb1 ((fr_A (f1 _ (hI.lt _ _ ha0))).trans hB) (hle _ _ hBT) ((fr_f (f1 _ (hI.lt _ _ hBT))).trans hs) h0 (by omega) (al1.mt hE) (by rw [r1]; exact hR) (by intro t; rw [al1.2.2.1]; exact hQ t)
    rw [g1, gb_r]
    exact gSat.ret ⟨Γ2, g2, al1.tr g3, g4.trans r1⟩
end
