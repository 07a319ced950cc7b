section
variable {Γ : gΓ} {w0 w : gW} {g0 : gG} {E : String → gW → Prop}
set_option maxHeartbeats 1000000 in
theorem t_B_box {a0 : Nat} {p1 : Int32} {p2 : Int64} {p3 : Int64} {p4 : Int64} {p5 : Int64} {p6 : Int64} {p7 : Int64} (hI : gIv Γ w0 w) (ha0 : Γ.T a0 = some Ty.top) (hR : (Γ.R 0).1 = 0 ∧ (Γ.R 0).2 = 8 ∧ (Γ.R 3).1 = 0 ∧ (Γ.R 3).2 = 12 ∧ (Γ.R 4).1 = 0 ∧ (Γ.R 4).2 = 30 ∧ (Γ.R 5).1 = 0 ∧ (Γ.R 5).2 = 30 ∧ 0 ≤ (Γ.R 6).1 ∧ (Γ.R 6).2 ≤ 10) (hQ : ∀ t, Γ.Q t = false) (hE : ∀ y, Γ.T y = some Ty.mty → y = g0.1)  : gSat (f_B_box g0 a0 p1 p2 p3 p4 p5 p6 p7 w) (fun v w' => ∃ Γ', gIv Γ' w0 w' ∧ gAl Γ w Γ' w' ∧ Γ'.R = Γ.R) (fun n w' => (n = "java/lang/IndexOutOfBoundsException" ∨ n = "java/lang/IllegalArgumentException") ∧ gIv Γ w0 w') := by
  unfold f_B_box
  refine w_ck hI ha0 rfl (by decide) ?_
  refine w_call (t_B_bodyAt hI ha0 hR) (fun _ _ h => ⟨Or.inl h.1, h.2⟩) ?_
  rintro v5 w' ⟨e, hv5, -⟩
  rw [e]
  clear e w'
  refine w_call (t_B_needPlace hI) (fun _ _ h => ⟨Or.inr h.1, h.2⟩) ?_
  rintro _ w' ⟨e, -⟩
  rw [e]
  clear e w'
  refine w_call (t_B_needSize hI) (fun _ _ h => ⟨Or.inr h.1, h.2⟩) ?_
  rintro _ w' ⟨e, -⟩
  rw [e]
  clear e w'
  refine w_call (t_B_needSize hI) (fun _ _ h => ⟨Or.inr h.1, h.2⟩) ?_
  rintro _ w' ⟨e, -⟩
  rw [e]
  clear e w'
  refine w_call (t_B_needPlace hI) (fun _ _ h => ⟨Or.inr h.1, h.2⟩) ?_
  rintro _ w' ⟨e, -⟩
  rw [e]
  clear e w'
  refine w_call (t_B_needUpright hI) (fun _ _ h => ⟨Or.inr h.1, h.2⟩) ?_
  rintro _ w' ⟨e, -⟩
  rw [e]
  clear e w'
  refine w_ck hI hv5 rfl (by decide) ?_
  refine w_call (t_By_isFull hI hv5) (fun _ _ h => h.elim) ?_
  rintro v25 w' ⟨e, l, s, hl, hlT, hs, hs0, hs1⟩
  rw [e]
  clear e w'
  refine gSat.ite ?_ ?_
  case refine_2 => intro _; exact gSat.guard (by simp) (gSat.ret ⟨Γ, hI, gAl.same (Nat.le_refl _) hI, rfl⟩)
  intro hc
  have hs1 := hs1 hc
  simp only [gnw, gb2f]
  obtain ⟨w1, Γ1, e1, i1, al1, r1, ho, f1⟩ := n_solid (g0 := g0) hI (hQ _) (hQ _)
  rw [e1, gb_r]
  have hf := i1.freeze gQs
  have hle1 := al1.le hI
  refine w_ck i1 ho rfl (by decide) ?_
  refine w_call (t_So_begin (Γ := (Γ1.T, Γ1.R, gQs)) hf ho rfl) (fun _ _ h => h.elim) ?_
  rintro _ w2 ⟨i2, -⟩
  refine w_ck i2 ho rfl (by decide) ?_
  refine w_call (t_So_addRectangle (Γ := (Γ1.T, Γ1.R, gQs)) i2 ho rfl rfl) (fun _ _ h => h.elim) ?_
  rintro _ w3 ⟨i3, -⟩
  refine w_ck i3 ho rfl (by decide) ?_
  refine w_call (t_So_setHeights (Γ := (Γ1.T, Γ1.R, gQs)) i3 ho rfl) (fun _ _ h => h.elim) ?_
  rintro _ w4 ⟨i4, -⟩
  refine b_tail (l := l) (s := s) i1 i4 (hle1 _ _ ha0) (hle1 _ _ hv5) ho ((fr_A (f1 _ (hI.lt _ _ hv5))).trans hl) (hle1 _ _ hlT) ((fr_f (f1 _ (hI.lt _ _ hlT))).trans hs) hs0 hs1 (al1.mt hE) (by rw [r1]; exact hR) (by intro t; rw [al1.2.2.1]; exact hQ t) ?_
  intro wz Γ2 iz al2 r2
  have al14 : gAl Γ1 w1 Γ1 w4 := gAl.same i4.le i1
  exact gSat.guard (by simp) (gSat.ret ⟨Γ2, iz, al1.tr (al14.tr al2), r2.trans r1⟩)
set_option maxHeartbeats 1000000 in
theorem t_B_cylinder {a0 : Nat} {p1 : Int32} {p2 : Int64} {p3 : Int64} {p4 : Int64} {p5 : Int64} {p6 : Int64} (hI : gIv Γ w0 w) (ha0 : Γ.T a0 = some Ty.top) (hR : (Γ.R 0).1 = 0 ∧ (Γ.R 0).2 = 8 ∧ (Γ.R 3).1 = 0 ∧ (Γ.R 3).2 = 12 ∧ (Γ.R 4).1 = 0 ∧ (Γ.R 4).2 = 30 ∧ (Γ.R 5).1 = 0 ∧ (Γ.R 5).2 = 30 ∧ 0 ≤ (Γ.R 6).1 ∧ (Γ.R 6).2 ≤ 10) (hQ : ∀ t, Γ.Q t = false) (hE : ∀ y, Γ.T y = some Ty.mty → y = g0.1)  : gSat (f_B_cylinder g0 a0 p1 p2 p3 p4 p5 p6 w) (fun v w' => ∃ Γ', gIv Γ' w0 w' ∧ gAl Γ w Γ' w' ∧ Γ'.R = Γ.R) (fun n w' => (n = "java/lang/IndexOutOfBoundsException" ∨ n = "java/lang/IllegalArgumentException") ∧ gIv Γ w0 w') := by
  unfold f_B_cylinder
  refine w_ck hI ha0 rfl (by decide) ?_
  refine w_call (t_B_bodyAt hI ha0 hR) (fun _ _ h => ⟨Or.inl h.1, h.2⟩) ?_
  rintro v5 w' ⟨e, hv5, -⟩
  rw [e]
  clear e w'
  refine w_call (t_B_needPlace hI) (fun _ _ h => ⟨Or.inr h.1, h.2⟩) ?_
  rintro _ w' ⟨e, -⟩
  rw [e]
  clear e w'
  refine w_call (t_B_needSize hI) (fun _ _ h => ⟨Or.inr h.1, h.2⟩) ?_
  rintro _ w' ⟨e, -⟩
  rw [e]
  clear e w'
  refine w_call (t_B_needUpright hI) (fun _ _ h => ⟨Or.inr h.1, h.2⟩) ?_
  rintro _ w' ⟨e, -⟩
  rw [e]
  clear e w'
  refine w_ck hI hv5 rfl (by decide) ?_
  refine w_call (t_By_isFull hI hv5) (fun _ _ h => h.elim) ?_
  rintro v25 w' ⟨e, l, s, hl, hlT, hs, hs0, hs1⟩
  rw [e]
  clear e w'
  refine gSat.ite ?_ ?_
  case refine_2 => intro _; exact gSat.guard (by simp) (gSat.ret ⟨Γ, hI, gAl.same (Nat.le_refl _) hI, rfl⟩)
  intro hc
  have hs1 := hs1 hc
  simp only [gnw, gb2f]
  obtain ⟨w1, Γ1, e1, i1, al1, r1, ho, f1⟩ := n_solid (g0 := g0) hI (hQ _) (hQ _)
  rw [e1, gb_r]
  have hf := i1.freeze gQs
  have hle1 := al1.le hI
  refine w_ck i1 ho rfl (by decide) ?_
  refine w_call (t_So_begin (Γ := (Γ1.T, Γ1.R, gQs)) hf ho rfl) (fun _ _ h => h.elim) ?_
  rintro _ w2 ⟨i2, -⟩
  refine w_ck i2 ho rfl (by decide) ?_
  refine w_call (t_So_addCorner (Γ := (Γ1.T, Γ1.R, gQs)) i2 ho rfl rfl) (fun _ _ h => h.elim) ?_
  rintro _ w3 ⟨i3, -⟩
  refine w_ck i3 ho rfl (by decide) ?_
  refine w_call (t_So_setHeights (Γ := (Γ1.T, Γ1.R, gQs)) i3 ho rfl) (fun _ _ h => h.elim) ?_
  rintro _ w4 ⟨i4, -⟩
  refine b_tail (l := l) (s := s) i1 i4 (hle1 _ _ ha0) (hle1 _ _ hv5) ho ((fr_A (f1 _ (hI.lt _ _ hv5))).trans hl) (hle1 _ _ hlT) ((fr_f (f1 _ (hI.lt _ _ hlT))).trans hs) hs0 hs1 (al1.mt hE) (by rw [r1]; exact hR) (by intro t; rw [al1.2.2.1]; exact hQ t) ?_
  intro wz Γ2 iz al2 r2
  have al14 : gAl Γ1 w1 Γ1 w4 := gAl.same i4.le i1
  exact gSat.guard (by simp) (gSat.ret ⟨Γ2, iz, al1.tr (al14.tr al2), r2.trans r1⟩)
set_option maxHeartbeats 1000000 in
theorem t_B_tube {a0 : Nat} {p1 : Int32} {p2 : Int64} {p3 : Int64} {p4 : Int64} {p5 : Int64} {p6 : Int32} {p7 : Int64} (hI : gIv Γ w0 w) (ha0 : Γ.T a0 = some Ty.top) (hR : (Γ.R 0).1 = 0 ∧ (Γ.R 0).2 = 8 ∧ (Γ.R 3).1 = 0 ∧ (Γ.R 3).2 = 12 ∧ (Γ.R 4).1 = 0 ∧ (Γ.R 4).2 = 30 ∧ (Γ.R 5).1 = 0 ∧ (Γ.R 5).2 = 30 ∧ 0 ≤ (Γ.R 6).1 ∧ (Γ.R 6).2 ≤ 10) (hQ : ∀ t, Γ.Q t = false) (hE : ∀ y, Γ.T y = some Ty.mty → y = g0.1)  : gSat (f_B_tube g0 a0 p1 p2 p3 p4 p5 p6 p7 w) (fun v w' => ∃ Γ', gIv Γ' w0 w' ∧ gAl Γ w Γ' w' ∧ Γ'.R = Γ.R) (fun n w' => (n = "java/lang/IndexOutOfBoundsException" ∨ n = "java/lang/IllegalArgumentException") ∧ gIv Γ w0 w') := by
  unfold f_B_tube
  refine w_ck hI ha0 rfl (by decide) ?_
  refine w_call (t_B_bodyAt hI ha0 hR) (fun _ _ h => ⟨Or.inl h.1, h.2⟩) ?_
  rintro v5 w' ⟨e, hv5, -⟩
  rw [e]
  clear e w'
  refine w_call (t_B_needWithin hI) (fun _ _ h => ⟨Or.inr h.1, h.2⟩) ?_
  rintro _ w' ⟨e, -⟩
  rw [e]
  clear e w'
  refine w_call (t_B_needWithin hI) (fun _ _ h => ⟨Or.inr h.1, h.2⟩) ?_
  rintro _ w' ⟨e, -⟩
  rw [e]
  clear e w'
  refine w_call (t_B_needWithin hI) (fun _ _ h => ⟨Or.inr h.1, h.2⟩) ?_
  rintro _ w' ⟨e, -⟩
  rw [e]
  clear e w'
  refine w_call (t_B_needPlace hI) (fun _ _ h => ⟨Or.inr h.1, h.2⟩) ?_
  rintro _ w' ⟨e, -⟩
  rw [e]
  clear e w'
  refine w_call (t_B_needWithin hI) (fun _ _ h => ⟨Or.inr h.1, h.2⟩) ?_
  rintro _ w' ⟨e, -⟩
  rw [e]
  clear e w'
  refine w_j1 (fun _ w' => w' = w) ?_ ?_
  · intro K hK
    refine gSat.ite ?_ ?_ <;> intro _ <;> exact hK _ _ rfl
  rintro y21 w' e
  rw [e]
  clear e w'
  refine w_j1 (fun _ w' => w' = w) ?_ ?_
  · intro K hK
    refine gSat.ite ?_ ?_ <;> intro _ <;> exact hK _ _ rfl
  rintro y22 w' e
  rw [e]
  clear e w'
  refine w_j1 (fun _ w' => w' = w) ?_ ?_
  · intro K hK
    refine gSat.ite ?_ ?_ <;> intro _ <;> exact hK _ _ rfl
  rintro y23 w' e
  rw [e]
  clear e w'
  refine w_call (t_B_needPlace hI) (fun _ _ h => ⟨Or.inr h.1, h.2⟩) ?_
  rintro _ w' ⟨e, -⟩
  rw [e]
  clear e w'
  refine w_call (t_B_needWithin hI) (fun _ _ h => ⟨Or.inr h.1, h.2⟩) ?_
  rintro _ w' ⟨e, -⟩
  rw [e]
  clear e w'
  refine w_ck hI hv5 rfl (by decide) ?_
  refine w_call (t_By_isFull hI hv5) (fun _ _ h => h.elim) ?_
  rintro v25 w' ⟨e, l, s, hl, hlT, hs, hs0, hs1⟩
  rw [e]
  clear e w'
  refine gSat.ite ?_ ?_
  case refine_2 => intro _; exact gSat.guard (by simp) (gSat.ret ⟨Γ, hI, gAl.same (Nat.le_refl _) hI, rfl⟩)
  intro hc
  have hs1 := hs1 hc
  simp only [gnw, gb2f]
  obtain ⟨w1, Γ1, e1, i1, al1, r1, ho, f1⟩ := n_solid (g0 := g0) hI (hQ _) (hQ _)
  rw [e1, gb_r]
  have hf := i1.freeze gQs
  have hle1 := al1.le hI
  refine w_ck i1 ho rfl (by decide) ?_
  refine w_call (t_So_begin (Γ := (Γ1.T, Γ1.R, gQs)) hf ho rfl) (fun _ _ h => h.elim) ?_
  rintro _ w2 ⟨i2, -⟩
  refine w_ck i2 ho rfl (by decide) ?_
  refine w_call (t_So_addCorner (Γ := (Γ1.T, Γ1.R, gQs)) i2 ho rfl rfl) (fun _ _ h => h.elim) ?_
  rintro _ w3 ⟨i3, -⟩
  refine w_ck i3 ho rfl (by decide) ?_
  refine w_call (t_So_addCorner (Γ := (Γ1.T, Γ1.R, gQs)) i3 ho rfl rfl) (fun _ _ h => h.elim) ?_
  rintro _ w4 ⟨i4, -⟩
  refine w_call (t_Ma_min2) (fun _ _ h => h.elim) ?_
  rintro _ w' ⟨e, -⟩
  rw [e]
  clear e w'
  refine w_call (t_Ma_max2) (fun _ _ h => h.elim) ?_
  rintro _ w' ⟨e, -⟩
  rw [e]
  clear e w'
  refine w_ck i4 ho rfl (by decide) ?_
  refine w_call (t_So_setHeights (Γ := (Γ1.T, Γ1.R, gQs)) i4 ho rfl) (fun _ _ h => h.elim) ?_
  rintro _ w5 ⟨i5, -⟩
  refine w_call (t_Ma_abs) (fun _ _ h => h.elim) ?_
  rintro _ w' ⟨e, -⟩
  rw [e]
  clear e w'
  refine b_tail (l := l) (s := s) i1 i5 (hle1 _ _ ha0) (hle1 _ _ hv5) ho ((fr_A (f1 _ (hI.lt _ _ hv5))).trans hl) (hle1 _ _ hlT) ((fr_f (f1 _ (hI.lt _ _ hlT))).trans hs) hs0 hs1 (al1.mt hE) (by rw [r1]; exact hR) (by intro t; rw [al1.2.2.1]; exact hQ t) ?_
  intro wz Γ2 iz al2 r2
  have al14 : gAl Γ1 w1 Γ1 w5 := gAl.same i5.le i1
  exact gSat.guard (by simp) (gSat.ret ⟨Γ2, iz, al1.tr (al14.tr al2), r2.trans r1⟩)
set_option maxHeartbeats 1000000 in
theorem t_B_prism_L57 {P : Int32 → gW → Prop} {c0 : Nat} {c2 : Int64} {c4 : Int64} {c6 : Nat} {c7 : Nat} {K98 : gW → gX Int32}  (hc0 : Γ.T c0 = some Ty.top) (hc7 : Γ.T c7 = some Ty.solid) (q0_ : Γ.Q Ty.solid = false) (q1_ : Γ.Q (Ty.aj 8) = false) (q2_ : (Γ.R 0).1 = 0 ∧ (Γ.R 0).2 = 8 ∧ (Γ.R 3).1 = 0 ∧ (Γ.R 3).2 = 12 ∧ (Γ.R 4).1 = 0 ∧ (Γ.R 4).2 = 30 ∧ (Γ.R 5).1 = 0 ∧ (Γ.R 5).2 = 30 ∧ 0 ≤ (Γ.R 6).1 ∧ (Γ.R 6).2 ≤ 10) (hK98 : ∀  (w : gW), gIv Γ w0 w → gSat (K98  w) P E) (n : Nat) : ∀ (z0 : Int32) (w : gW), gIv Γ w0 w → 0 ≤ z0.toInt → z0.toInt ≤ 8 → 8 < z0.toInt + n → gSat (f_B_prism_L57 g0 c0 c2 c4 c6 c7 K98 n z0 w) P E := by
  induction n with
  | zero => intros; omega
  | succ n ih =>
    intro z0 w hI i0_ i1_ i2_
    rw [f_B_prism_L57.eq_2]
    repeat' (first | ((with_reducible apply gSat.ret); first | exact ⟨rfl, trivial⟩ | exact ⟨by assumption, trivial⟩ | (refine ⟨rfl, ?_⟩; first | assumption | ((try simp only [Int32.le_iff_toInt_le, Int32.lt_iff_toInt_lt, ← Int32.toInt_inj, y_cl, Int32.reduceToInt, ne_eq, Int32.toInt_zero, Int32.toInt_one]) <;> (try simp (disch := (first | ((try simp (disch := (first | ((try simp (disch := (first | ((try simp only [Int32.reduceToInt, Int32.toInt_zero, Int32.toInt_one]) <;> omega) | fail)) only [y_add, y_sub, y_mul, Int32.reduceToInt, Int32.toInt_zero, Int32.toInt_one]) <;> omega) | fail)) only [y_add, y_sub, y_mul, Int32.reduceToInt, Int32.toInt_zero, Int32.toInt_one]) <;> omega) | fail)) only [y_add, y_sub, y_mul, Int32.reduceToInt, Int32.toInt_zero, Int32.toInt_one]) <;> omega) | simp) | (refine ⟨by assumption, ?_⟩; first | assumption | ((try simp only [Int32.le_iff_toInt_le, Int32.lt_iff_toInt_lt, ← Int32.toInt_inj, y_cl, Int32.reduceToInt, ne_eq, Int32.toInt_zero, Int32.toInt_one]) <;> (try simp (disch := (first | ((try simp (disch := (first | ((try simp (disch := (first | ((try simp only [Int32.reduceToInt, Int32.toInt_zero, Int32.toInt_one]) <;> omega) | fail)) only [y_add, y_sub, y_mul, Int32.reduceToInt, Int32.toInt_zero, Int32.toInt_one]) <;> omega) | fail)) only [y_add, y_sub, y_mul, Int32.reduceToInt, Int32.toInt_zero, Int32.toInt_one]) <;> omega) | fail)) only [y_add, y_sub, y_mul, Int32.reduceToInt, Int32.toInt_zero, Int32.toInt_one]) <;> omega) | simp)) | ((with_reducible apply w_X); assumption) | ((with_reducible apply w_A0); assumption) | ((with_reducible apply w_A); assumption; assumption; rfl; intro _ _ _) | ((with_reducible apply w_I); assumption; assumption; rfl; intro _ _ _ _) | ((with_reducible apply w_R); assumption; assumption; rfl; intro _ _ _ _) | ((with_reducible apply w_ck); assumption; assumption; rfl; decide) | ((with_reducible apply w_aJ); assumption; assumption; ((try simp only [Int32.le_iff_toInt_le, Int32.lt_iff_toInt_lt, ← Int32.toInt_inj, y_cl, Int32.reduceToInt, ne_eq, Int32.toInt_zero, Int32.toInt_one]) <;> (try simp (disch := (first | ((try simp (disch := (first | ((try simp (disch := (first | ((try simp only [Int32.reduceToInt, Int32.toInt_zero, Int32.toInt_one]) <;> omega) | fail)) only [y_add, y_sub, y_mul, Int32.reduceToInt, Int32.toInt_zero, Int32.toInt_one]) <;> omega) | fail)) only [y_add, y_sub, y_mul, Int32.reduceToInt, Int32.toInt_zero, Int32.toInt_one]) <;> omega) | fail)) only [y_add, y_sub, y_mul, Int32.reduceToInt, Int32.toInt_zero, Int32.toInt_one]) <;> omega); intro _) | ((with_reducible apply gSat.ite) <;> intro hc <;> ((try simp only [Int32.le_iff_toInt_le, Int32.lt_iff_toInt_lt, ← Int32.toInt_inj, y_cl, Int32.reduceToInt, ne_eq, Int32.toInt_zero, Int32.toInt_one] at hc) <;> (try simp (disch := (first | ((try simp (disch := (first | ((try simp (disch := (first | ((try simp only [Int32.reduceToInt, Int32.toInt_zero, Int32.toInt_one]) <;> omega) | fail)) only [y_add, y_sub, y_mul, Int32.reduceToInt, Int32.toInt_zero, Int32.toInt_one]) <;> omega) | fail)) only [y_add, y_sub, y_mul, Int32.reduceToInt, Int32.toInt_zero, Int32.toInt_one]) <;> omega) | fail)) only [y_add, y_sub, y_mul, Int32.reduceToInt, Int32.toInt_zero, Int32.toInt_one] at hc))) | ((with_reducible apply w_call); ((with_reducible apply t_So_addCorner) <;> (first | assumption | ((try simp only [Int32.le_iff_toInt_le, Int32.lt_iff_toInt_lt, ← Int32.toInt_inj, y_cl, Int32.reduceToInt, ne_eq, Int32.toInt_zero, Int32.toInt_one]) <;> (try simp (disch := (first | ((try simp (disch := (first | ((try simp (disch := (first | ((try simp only [Int32.reduceToInt, Int32.toInt_zero, Int32.toInt_one]) <;> omega) | fail)) only [y_add, y_sub, y_mul, Int32.reduceToInt, Int32.toInt_zero, Int32.toInt_one]) <;> omega) | fail)) only [y_add, y_sub, y_mul, Int32.reduceToInt, Int32.toInt_zero, Int32.toInt_one]) <;> omega) | fail)) only [y_add, y_sub, y_mul, Int32.reduceToInt, Int32.toInt_zero, Int32.toInt_one]) <;> omega))); (first | exact fun _ _ h => h.elim | exact fun _ _ h => h | exact fun _ _ h => ⟨Or.inl h.1, h.2⟩ | exact fun _ _ h => ⟨Or.inr h.1, h.2⟩); rintro _ _ ⟨_, _⟩))
    all_goals first
      | exact hK98 _  (by assumption)
      | exact ih _ _ (by assumption) (by ((try simp only [Int32.le_iff_toInt_le, Int32.lt_iff_toInt_lt, ← Int32.toInt_inj, y_cl, Int32.reduceToInt, ne_eq, Int32.toInt_zero, Int32.toInt_one]) <;> (try simp (disch := (first | ((try simp (disch := (first | ((try simp (disch := (first | ((try simp only [Int32.reduceToInt, Int32.toInt_zero, Int32.toInt_one]) <;> omega) | fail)) only [y_add, y_sub, y_mul, Int32.reduceToInt, Int32.toInt_zero, Int32.toInt_one]) <;> omega) | fail)) only [y_add, y_sub, y_mul, Int32.reduceToInt, Int32.toInt_zero, Int32.toInt_one]) <;> omega) | fail)) only [y_add, y_sub, y_mul, Int32.reduceToInt, Int32.toInt_zero, Int32.toInt_one]) <;> omega)) (by ((try simp only [Int32.le_iff_toInt_le, Int32.lt_iff_toInt_lt, ← Int32.toInt_inj, y_cl, Int32.reduceToInt, ne_eq, Int32.toInt_zero, Int32.toInt_one]) <;> (try simp (disch := (first | ((try simp (disch := (first | ((try simp (disch := (first | ((try simp only [Int32.reduceToInt, Int32.toInt_zero, Int32.toInt_one]) <;> omega) | fail)) only [y_add, y_sub, y_mul, Int32.reduceToInt, Int32.toInt_zero, Int32.toInt_one]) <;> omega) | fail)) only [y_add, y_sub, y_mul, Int32.reduceToInt, Int32.toInt_zero, Int32.toInt_one]) <;> omega) | fail)) only [y_add, y_sub, y_mul, Int32.reduceToInt, Int32.toInt_zero, Int32.toInt_one]) <;> omega)) (by ((try simp only [Int32.le_iff_toInt_le, Int32.lt_iff_toInt_lt, ← Int32.toInt_inj, y_cl, Int32.reduceToInt, ne_eq, Int32.toInt_zero, Int32.toInt_one]) <;> (try simp (disch := (first | ((try simp (disch := (first | ((try simp (disch := (first | ((try simp only [Int32.reduceToInt, Int32.toInt_zero, Int32.toInt_one]) <;> omega) | fail)) only [y_add, y_sub, y_mul, Int32.reduceToInt, Int32.toInt_zero, Int32.toInt_one]) <;> omega) | fail)) only [y_add, y_sub, y_mul, Int32.reduceToInt, Int32.toInt_zero, Int32.toInt_one]) <;> omega) | fail)) only [y_add, y_sub, y_mul, Int32.reduceToInt, Int32.toInt_zero, Int32.toInt_one]) <;> omega))
set_option maxHeartbeats 1000000 in
theorem t_B_prism {a0 : Nat} {p1 : Int32} {p2 : Int64} {p3 : Int64} (hI : gIv Γ w0 w) (ha0 : Γ.T a0 = some Ty.top) (hR : (Γ.R 0).1 = 0 ∧ (Γ.R 0).2 = 8 ∧ (Γ.R 3).1 = 0 ∧ (Γ.R 3).2 = 12 ∧ (Γ.R 4).1 = 0 ∧ (Γ.R 4).2 = 30 ∧ (Γ.R 5).1 = 0 ∧ (Γ.R 5).2 = 30 ∧ 0 ≤ (Γ.R 6).1 ∧ (Γ.R 6).2 ≤ 10) (hQ : ∀ t, Γ.Q t = false) (hE : ∀ y, Γ.T y = some Ty.mty → y = g0.1)  : gSat (f_B_prism g0 a0 p1 p2 p3 w) (fun v w' => ∃ Γ', gIv Γ' w0 w' ∧ gAl Γ w Γ' w' ∧ Γ'.R = Γ.R) (fun n w' => (n = "java/lang/IndexOutOfBoundsException" ∨ n = "java/lang/IllegalArgumentException") ∧ gIv Γ w0 w') := by
  unfold f_B_prism
  refine w_ck hI ha0 rfl (by decide) ?_
  refine w_call (t_B_bodyAt hI ha0 hR) (fun _ _ h => ⟨Or.inl h.1, h.2⟩) ?_
  rintro v5 w' ⟨e, hv5, -⟩
  rw [e]
  clear e w'
  refine w_call (t_B_needUpright hI) (fun _ _ h => ⟨Or.inr h.1, h.2⟩) ?_
  rintro _ w' ⟨e, -⟩
  rw [e]
  clear e w'
  refine w_ck hI ha0 rfl (by decide) ?_
  refine w_call (t_B_cornersMakePolygon hI ha0 hR) (fun _ _ h => h.elim) ?_
  rintro v13 w' ⟨e, -⟩
  rw [e]
  clear e w'
  refine gSat.ite ?_ ?_
  · intro _
    refine w_pf hI.rebase ha0 rfl (by refine ⟨?_, ?_⟩ <;> ((try simp only [Int32.le_iff_toInt_le, Int32.lt_iff_toInt_lt, ← Int32.toInt_inj, y_cl, Int32.reduceToInt, ne_eq, Int32.toInt_zero, Int32.toInt_one]) <;> (try simp (disch := (first | ((try simp (disch := (first | ((try simp (disch := (first | ((try simp only [Int32.reduceToInt, Int32.toInt_zero, Int32.toInt_one]) <;> omega) | fail)) only [y_add, y_sub, y_mul, Int32.reduceToInt, Int32.toInt_zero, Int32.toInt_one]) <;> omega) | fail)) only [y_add, y_sub, y_mul, Int32.reduceToInt, Int32.toInt_zero, Int32.toInt_one]) <;> omega) | fail)) only [y_add, y_sub, y_mul, Int32.reduceToInt, Int32.toInt_zero, Int32.toInt_one]) <;> omega)) (hQ _) ?_
    intro w9 i9 _ _ f9
    exact gSat.guard (by simp) (gSat.ret ⟨Γ, hI.chain i9, gAl.same i9.le hI, rfl⟩)
  intro _
  refine w_ck hI hv5 rfl (by decide) ?_
  refine w_call (t_By_isFull hI hv5) (fun _ _ h => h.elim) ?_
  rintro v25 w' ⟨e, l, s, hl, hlT, hs, hs0, hs1⟩
  rw [e]
  clear e w'
  refine gSat.ite ?_ ?_
  case refine_2 => intro _; exact gSat.guard (by simp) (gSat.ret ⟨Γ, hI, gAl.same (Nat.le_refl _) hI, rfl⟩)
  intro hc
  have hs1 := hs1 hc
  simp only [gnw, gb2f]
  obtain ⟨w1, Γ1, e1, i1, al1, r1, ho, f1⟩ := n_solid (g0 := g0) hI (hQ _) (hQ _)
  rw [e1, gb_r]
  have hf := i1.freeze gQs
  have hle1 := al1.le hI
  refine w_ck i1 ho rfl (by decide) ?_
  refine w_call (t_So_begin (Γ := (Γ1.T, Γ1.R, gQs)) hf ho rfl) (fun _ _ h => h.elim) ?_
  rintro _ w2 ⟨i2, -⟩
  refine w_jj ?_
  refine t_B_prism_L57 (Γ := (Γ1.T, Γ1.R, gQs)) (w0 := w1) (hle1 _ _ ha0) ho rfl rfl (by rw [r1]; exact hR) ?_ 64 0 w2 i2 (by ((try simp only [Int32.le_iff_toInt_le, Int32.lt_iff_toInt_lt, ← Int32.toInt_inj, y_cl, Int32.reduceToInt, ne_eq, Int32.toInt_zero, Int32.toInt_one]) <;> (try simp (disch := (first | ((try simp (disch := (first | ((try simp (disch := (first | ((try simp only [Int32.reduceToInt, Int32.toInt_zero, Int32.toInt_one]) <;> omega) | fail)) only [y_add, y_sub, y_mul, Int32.reduceToInt, Int32.toInt_zero, Int32.toInt_one]) <;> omega) | fail)) only [y_add, y_sub, y_mul, Int32.reduceToInt, Int32.toInt_zero, Int32.toInt_one]) <;> omega) | fail)) only [y_add, y_sub, y_mul, Int32.reduceToInt, Int32.toInt_zero, Int32.toInt_one]) <;> omega)) (by ((try simp only [Int32.le_iff_toInt_le, Int32.lt_iff_toInt_lt, ← Int32.toInt_inj, y_cl, Int32.reduceToInt, ne_eq, Int32.toInt_zero, Int32.toInt_one]) <;> (try simp (disch := (first | ((try simp (disch := (first | ((try simp (disch := (first | ((try simp only [Int32.reduceToInt, Int32.toInt_zero, Int32.toInt_one]) <;> omega) | fail)) only [y_add, y_sub, y_mul, Int32.reduceToInt, Int32.toInt_zero, Int32.toInt_one]) <;> omega) | fail)) only [y_add, y_sub, y_mul, Int32.reduceToInt, Int32.toInt_zero, Int32.toInt_one]) <;> omega) | fail)) only [y_add, y_sub, y_mul, Int32.reduceToInt, Int32.toInt_zero, Int32.toInt_one]) <;> omega)) (by ((try simp only [Int32.le_iff_toInt_le, Int32.lt_iff_toInt_lt, ← Int32.toInt_inj, y_cl, Int32.reduceToInt, ne_eq, Int32.toInt_zero, Int32.toInt_one]) <;> (try simp (disch := (first | ((try simp (disch := (first | ((try simp (disch := (first | ((try simp only [Int32.reduceToInt, Int32.toInt_zero, Int32.toInt_one]) <;> omega) | fail)) only [y_add, y_sub, y_mul, Int32.reduceToInt, Int32.toInt_zero, Int32.toInt_one]) <;> omega) | fail)) only [y_add, y_sub, y_mul, Int32.reduceToInt, Int32.toInt_zero, Int32.toInt_one]) <;> omega) | fail)) only [y_add, y_sub, y_mul, Int32.reduceToInt, Int32.toInt_zero, Int32.toInt_one]) <;> omega))
  intro w3 i3
  refine w_ck i3 ho rfl (by decide) ?_
  refine w_call (t_So_setHeights (Γ := (Γ1.T, Γ1.R, gQs)) i3 ho rfl) (fun _ _ h => h.elim) ?_
  rintro _ w4 ⟨i4, -⟩
  refine w_ck i4 (hle1 _ _ ha0) rfl (by decide) ?_
  refine w_call (t_B_twiceAreaOfCorners (Γ := (Γ1.T, Γ1.R, gQs)) i4 (hle1 _ _ ha0) (by rw [r1]; exact hR)) (fun _ _ h => h.elim) ?_
  rintro _ w' ⟨e, -⟩
  rw [e]
  clear e w'
  refine b_tail (l := l) (s := s) i1 i4 (hle1 _ _ ha0) (hle1 _ _ hv5) ho ((fr_A (f1 _ (hI.lt _ _ hv5))).trans hl) (hle1 _ _ hlT) ((fr_f (f1 _ (hI.lt _ _ hlT))).trans hs) hs0 hs1 (al1.mt hE) (by rw [r1]; exact hR) (by intro t; rw [al1.2.2.1]; exact hQ t) ?_
  intro wz Γ2 iz al2 r2
  have al14 : gAl Γ1 w1 Γ1 w4 := gAl.same i4.le i1
  refine w_pf iz.rebase (al2.le (i1.thaw i4 (fun t ht => by rw [al1.2.2.1, hQ t] at ht; cases ht)) _ _ (hle1 _ _ ha0)) rfl (by show (Γ2.R 0).1 ≤ _ ∧ _ ≤ (Γ2.R 0).2; rw [r2, r1]; refine ⟨?_, ?_⟩ <;> ((try simp only [Int32.le_iff_toInt_le, Int32.lt_iff_toInt_lt, ← Int32.toInt_inj, y_cl, Int32.reduceToInt, ne_eq, Int32.toInt_zero, Int32.toInt_one]) <;> (try simp (disch := (first | ((try simp (disch := (first | ((try simp (disch := (first | ((try simp only [Int32.reduceToInt, Int32.toInt_zero, Int32.toInt_one]) <;> omega) | fail)) only [y_add, y_sub, y_mul, Int32.reduceToInt, Int32.toInt_zero, Int32.toInt_one]) <;> omega) | fail)) only [y_add, y_sub, y_mul, Int32.reduceToInt, Int32.toInt_zero, Int32.toInt_one]) <;> omega) | fail)) only [y_add, y_sub, y_mul, Int32.reduceToInt, Int32.toInt_zero, Int32.toInt_one]) <;> omega)) (by rw [al2.2.2.1, al1.2.2.1]; exact hQ _) ?_
  intro w9 i9 _ _ f9
  exact gSat.guard (by simp) (gSat.ret ⟨Γ2, iz.chain i9, al1.tr (al14.tr ⟨al2.1, al2.2.1, al2.2.2.1, Nat.le_trans al2.2.2.2 i9.le⟩), r2.trans r1⟩)
end
