section
section
variable {g0 : gG} {w : gW}
theorem i_lst {a0 k : Nat} {fs : List Value} (hw : w.1 a0 = some (.inr (0, fs))) (hl : a0 < w.2) (hk : k < fs.length) : ∃ w', (∀ {β : Type} (K : Nat → gW → gX β), (gb2f (gnw w 1 [.null, .int 0, .int 0]) fun o w => gbind (f_AL_init g0 o w) fun _ w => (gp w a0 0 k (.ref o)).bind fun w => K o w) = K w.2 w') ∧ w'.1 a0 = some (.inr (0, fs.set k (.ref w.2))) ∧ w'.1 w.2 = some (.inr (1, [.ref g0.1, .int 0, .int 0])) ∧ (∀ q, q ≠ w.2 → q ≠ a0 → w'.1 q = w.1 q) ∧ w'.2 = w.2 + 1 := by
  have n1 : a0 ≠ w.2 := by omega
  have n2 : w.2 ≠ a0 := by omega
  have key : ∃ w1, f_AL_init g0 w.2 (gpush w (.inr (1, [.null, .int 0, .int 0]))) = some (.inr (), w1) ∧ w1.1 w.2 = some (.inr (1, [.ref g0.1, .int 0, .int 0])) ∧ (∀ q, q ≠ w.2 → w1.1 q = w.1 q) ∧ w1.2 = w.2 + 1 := by
    generalize hx : f_AL_init g0 w.2 (gpush w (.inr (1, [.null, .int 0, .int 0]))) = x
    simp [f_AL_init, f_AbL_init, f_AbC_init, gpush, gp, gup, gbind] at hx
    subst hx
    exact ⟨_, rfl, by simp, fun q hq => by simp [hq], rfl⟩
  obtain ⟨w1, e1, e2, e3, e4⟩ := key
  have h1 := (e3 a0 n1).trans hw
  refine ⟨gup w1 a0 (.inr (0, fs.set k (.ref w.2))), fun K => ?_, by simp [gup], by simp [gup, n2, e2], fun q h1 h2 => by simp [gup, h2, e3 q h1], e4⟩
  simp only [gnw, gb2f, e1, gb_r]
  simp [gp, h1, hk]
theorem i_arr {a0 c k kd M : Nat} {N : Int32} {v : Value} {fs : List Value} (hw : w.1 a0 = some (.inr (c, fs))) (hl : a0 < w.2) (hk : k < fs.length) (hN : ¬ (N < 0 ∨ M < N.toNatClampNeg)) : ∃ w', (∀ {β : Type} (K : Nat → gW → gX β), (gb2f (gna w kd N M v) fun o w => (gp w a0 c k (.ref o)).bind fun w => K o w) = K w.2 w') ∧ w'.1 a0 = some (.inr (c, fs.set k (.ref w.2))) ∧ w'.1 w.2 = some (.inl (kd, N.toNatClampNeg, fun _ => v)) ∧ (∀ q, q ≠ w.2 → q ≠ a0 → w'.1 q = w.1 q) ∧ w'.2 = w.2 + 1 := by
  have n1 : a0 ≠ w.2 := by omega
  have n2 : w.2 ≠ a0 := by omega
  refine ⟨gup (gpush w (.inl (kd, N.toNatClampNeg, fun _ => v))) a0 (.inr (c, fs.set k (.ref w.2))), fun K => ?_, by simp [gup], by simp [gup, gpush, n2], fun q h1 h2 => by simp [gup, gpush, h1, h2], rfl⟩
  unfold gna
  rw [if_neg hN]
  simp [gb2f, gp, gpush, n1, hw, hk]
theorem i_fill {r : Nat} {v m : Int32} {K : gW → gX Unit} (hm : m.toInt = 900) (n : Nat) : ∀ (z : Int32) (w : gW) (f : Nat → Value), w.1 r = some (.inl (0, 900, f)) → 0 ≤ z.toInt → z.toInt ≤ 900 → 900 < z.toInt + n → ∃ w' f', f_Ar_fill_L5 g0 r v m K n z w = K w' ∧ (∀ q, q ≠ r → w'.1 q = w.1 q) ∧ w'.2 = w.2 ∧ w'.1 r = some (.inl (0, 900, f')) ∧ (∀ i : Nat, f' i = f i ∨ f' i = .int v) := by
  induction n with
  | zero => intros; omega
  | succ n ih =>
    intro z w f hr h0 h1 h2
    rw [f_Ar_fill_L5.eq_2]
    by_cases hz : m ≤ z
    · rw [if_pos hz]
      exact ⟨w, f, rfl, fun _ _ => rfl, rfl, hr, fun _ => Or.inl rfl⟩
    · rw [if_neg hz]
      rw [Int32.le_iff_toInt_le] at hz
      have k1 : ¬ z < 0 := by rw [Int32.lt_iff_toInt_lt, Int32.toInt_zero]; omega
      have k2 : z.toNatClampNeg < 900 := by rw [z_cl]; omega
      have e : gsI w r z v = some (gup w r (.inl (0, 900, updV f z.toNatClampNeg (.int v)))) := by simp [gsI, gas, hr, k1, k2, -Int32.not_lt]
      rw [e, Option.bind_some]
      have hz1 : (z + 1).toInt = z.toInt + 1 := by rw [z_add] <;> simp <;> omega
      obtain ⟨w', f', r1, r2, r3, r4, r5⟩ := ih (z + 1) (gup w r (.inl (0, 900, updV f z.toNatClampNeg (.int v)))) (updV f z.toNatClampNeg (.int v)) (by simp [gup]) (by omega) (by omega) (by omega)
      refine ⟨w', f', r1, fun q hq => (r2 q hq).trans (by simp [gup, hq]), r3, r4, fun i => ?_⟩
      rcases r5 i with h | h
      · rw [h]
        unfold updV
        split
        · exact Or.inr rfl
        · exact Or.inl rfl
      · exact Or.inr h
theorem i_layL {c0 r n0 : Nat} {K : gW → gX Unit} (n : Nat) : ∀ (z : Int32) (w : gW) (f : Nat → Value), w.1 c0 = some (.inr (2, [.ref r, .int 0])) → w.1 r = some (.inl (2, 12, f)) → c0 < w.2 → r < w.2 → n0 ≤ r → n0 ≤ w.2 → 0 ≤ z.toInt → z.toInt ≤ 12 → 12 < z.toInt + n → ∃ w', f_La_init_L20 g0 c0 K n z w = K w' ∧ (∀ q, q < n0 → w'.1 q = w.1 q) ∧ w.2 ≤ w'.2 := by
  induction n with
  | zero => intros; omega
  | succ n ih =>
    intro z w f hc hr lc lr l1 l2 h0 h1 h2
    rw [f_La_init_L20.eq_2]
    by_cases hz : 12 ≤ z
    · rw [if_pos hz]
      exact ⟨w, rfl, fun _ _ => rfl, Nat.le_refl _⟩
    · rw [if_neg hz]
      rw [Int32.le_iff_toInt_le, show (12 : Int32).toInt = 12 from by decide] at hz
      have e1 : gfA w c0 2 0 = some r := by simp [gfA, gf, gvA, hc]
      obtain ⟨w1, e2, e3, fr, e4⟩ := s_new (g0 := g0) (w := w)
      obtain ⟨kd, fl, ro, x0, y0, z0, x1, y1, z1, X, Y, e5, -⟩ := e3
      have k1 : ¬ z < 0 := by rw [Int32.lt_iff_toInt_lt, Int32.toInt_zero]; omega
      have k2 : z.toNatClampNeg < 12 := by rw [z_cl]; omega
      have hr1 := (fr r lr).trans hr
      have e6 : gsA w1 r z w.2 = some (gup w1 r (.inl (2, 12, updV f z.toNatClampNeg (.ref w.2)))) := by
        have : gok 2 3 = true := by decide
        simp [gsA, gob, hr1, e5, this, gas, k1, k2, -Int32.not_lt]
      have hz1 : (z + 1).toInt = z.toInt + 1 := by rw [z_add] <;> simp <;> omega
      have hcr : c0 ≠ r := by intro e; rw [e, hr] at hc; cases hc
      obtain ⟨w', r1, r2, r3⟩ := ih (z + 1) (gup w1 r (.inl (2, 12, updV f z.toNatClampNeg (.ref w.2)))) _ (by simp [gup, hcr, fr c0 lc, hc]) (by simp only [gup, if_true]; rfl) (by simp only [gup]; omega) (by simp only [gup]; omega) l1 (by simp only [gup]; omega) (by omega) (by omega) (by omega)
      refine ⟨w', ?_, fun q hq => ?_, ?_⟩
      · rw [e1, Option.bind_some]
        simp only [gnw, gb2f]
        rw [e2, gb_r, e6, Option.bind_some]
        exact r1
      · have : q ≠ r := by omega
        refine (r2 q hq).trans ?_
        simp [gup, this, fr q (by omega)]
      · simp only [gup] at r3
        omega
theorem i_lay {o : Nat} (ho : w.1 o = some (.inr (2, [.null, .int 0]))) (lo : o < w.2) : ∃ w', f_La_init g0 o w = some (.inr (), w') ∧ (∀ q, q < w.2 → q ≠ o → w'.1 q = w.1 q) ∧ w.2 ≤ w'.2 := by
  obtain ⟨w1, e1, e2, e3, e4, e5⟩ := i_arr (w := w) (a0 := o) (c := 2) (k := 0) (kd := 2) (M := 12) (N := 12) (v := .null) ho lo (by decide) (by decide)
  have e6 : gp w1 o 2 1 (.int 0) = some (gup w1 o (.inr (2, [.ref w.2, .int 0]))) := by simp [gp, e2]
  have n1 : w.2 ≠ o := by omega
  obtain ⟨w', r1, r2, r3⟩ := i_layL (g0 := g0) (c0 := o) (r := w.2) (n0 := w.2) (K := fun w => some (.inr (), w)) 13 0 (gup w1 o (.inr (2, [.ref w.2, .int 0]))) _ (by simp [gup]) (by simp only [gup, if_neg n1]; exact e3) (by simp only [gup]; omega) (by simp only [gup]; omega) (Nat.le_refl _) (by simp only [gup]; omega) (by decide) (by decide) (by decide)
  refine ⟨w', ?_, fun q h1 h2 => ?_, ?_⟩
  · unfold f_La_init
    rw [e1]
    rw [e6, Option.bind_some]
    exact r1
  · refine (r2 q h1).trans ?_
    have : q ≠ w.2 := by omega
    simp [gup, h2, e4 q this h2]
  · simp only [gup] at r3
    omega
theorem i_B {a0 b L : Nat} {xs : Nat → Int32} {x : Int64} (hw : w.1 a0 = some (.inr (0, [.long 0, .null, .null, .null, .null, .null, .int 0, .null, .null, .null]))) (hl : a0 < w.2) :
    ∃ (w' : gW) (th : Int64) (B P K cx cy rel fi se : Nat) (X Y : Nat → Value), f_B_init g0 a0 x w = some (.inr (), w') ∧ w'.1 a0 = some (.inr (0, [.long th, .ref B, .ref P, .ref K, .ref cx, .ref cy, .int 0, .ref rel, .ref fi, .ref se])) ∧ w'.1 B = some (.inr (1, [.ref g0.1, .int 0, .int 0])) ∧ w'.1 P = some (.inr (1, [.ref g0.1, .int 0, .int 0])) ∧ w'.1 K = some (.inr (1, [.ref g0.1, .int 0, .int 0])) ∧ w'.1 cx = some (.inl (1, 8, X)) ∧ w'.1 cy = some (.inl (1, 8, Y)) ∧ (∀ q, q < w.2 → q ≠ a0 → w'.1 q = w.1 q) ∧ w.2 ≤ w'.2 ∧ B < w'.2 ∧ P < w'.2 ∧ K < w'.2 ∧ cx < w'.2 ∧ cy < w'.2 ∧ w.2 ≤ B ∧ w.2 ≤ K := by
  obtain ⟨v1, e1⟩ := q_min2 (g0 := g0) (x := 1000) (y := x) (w := w)
  obtain ⟨th, e2⟩ := q_max2 (g0 := g0) (x := 0) (y := v1) (w := w)
  have e3 : gp w a0 0 0 (.long th) = some (gup w a0 (.inr (0, [.long th, .null, .null, .null, .null, .null, .int 0, .null, .null, .null]))) := by simp [gp, hw]
  generalize hw1 : gup w a0 (.inr (0, [.long th, .null, .null, .null, .null, .null, .int 0, .null, .null, .null])) = w1 at e3
  have a1 : w1.1 a0 = some (.inr (0, [.long th, .null, .null, .null, .null, .null, .int 0, .null, .null, .null])) := by rw [← hw1]; simp [gup]
  have f1 : ∀ q, q < w.2 → q ≠ a0 → w1.1 q = w.1 q := by intro q _ hq; rw [← hw1]; simp [gup, hq]
  have l1 : w1.2 = w.2 := by rw [← hw1]; rfl
  obtain ⟨w2, s2, a2, b2, f2, l2⟩ := i_lst (g0 := g0) (k := 1) a1 (by omega) (by simp)
  obtain ⟨w3, s3, a3, b3, f3, l3⟩ := i_lst (g0 := g0) (k := 2) a2 (by omega) (by simp)
  obtain ⟨w4, s4, a4, b4, f4, l4⟩ := i_lst (g0 := g0) (k := 3) a3 (by omega) (by simp)
  obtain ⟨w5, s5, a5, b5, f5, l5⟩ := i_arr (k := 4) (kd := 1) (M := 8) (N := 8) (v := .long 0) a4 (by omega) (by simp) (by decide)
  obtain ⟨w6, s6, a6, b6, f6, l6⟩ := i_arr (k := 5) (kd := 1) (M := 8) (N := 8) (v := .long 0) a5 (by omega) (by simp) (by decide)
  simp only [List.set_cons_zero, List.set_cons_succ] at a6
  have e7 : gp w6 a0 0 6 (.int 0) = some (gup w6 a0 (.inr (0, [.long th, .ref w1.2, .ref w2.2, .ref w3.2, .ref w4.2, .ref w5.2, .int 0, .null, .null, .null]))) := by simp [gp, a6]
  generalize hw7 : gup w6 a0 (.inr (0, [.long th, .ref w1.2, .ref w2.2, .ref w3.2, .ref w4.2, .ref w5.2, .int 0, .null, .null, .null])) = w7 at e7
  have a7 : w7.1 a0 = some (.inr (0, [.long th, .ref w1.2, .ref w2.2, .ref w3.2, .ref w4.2, .ref w5.2, .int 0, .null, .null, .null])) := by rw [← hw7]; simp [gup]
  have f7 : ∀ q, q ≠ a0 → w7.1 q = w6.1 q := by intro q hq; rw [← hw7]; simp [gup, hq]
  have l7 : w7.2 = w6.2 := by rw [← hw7]; rfl
  obtain ⟨w8, s8, a8, b8, f8, l8⟩ := i_arr (k := 7) (kd := 0) (M := 900) (N := 900) (v := .int 0) a7 (by omega) (by simp) (by decide)
  simp only [List.set_cons_zero, List.set_cons_succ] at a8
  have e9 : gfA w8 a0 0 7 = some w7.2 := by simp [gfA, gf, gvA, a8]
  have b8' : w8.1 w7.2 = some (.inl (0, 900, fun _ => .int 0)) := b8
  have e10 : gal w8 w7.2 = some (nI 900) := by simp [gal, b8']
  obtain ⟨w9, f', r9, f9, l9, -, -⟩ := i_fill (g0 := g0) (r := w7.2) (v := -1) (m := nI 900) (K := fun w => some (.inr (), w)) (by decide) 1000 0 w8 _ b8' (by decide) (by decide) (by decide)
  have e11 : f_Ar_fill g0 w7.2 (-1) w8 = some (.inr (), w9) := by
    unfold f_Ar_fill
    rw [e10, Option.bind_some]
    exact r9
  have a9 := (f9 a0 (by omega)).trans a8
  have h10 : (gpush w9 (.inr (2, [.null, .int 0]))).1 w9.2 = some (.inr (2, [.null, .int 0])) := by simp [gpush]
  obtain ⟨w10, r10, f10, l10⟩ := i_lay (g0 := g0) h10 (by simp only [gpush]; omega)
  have f10' : ∀ q, q < w9.2 → w10.1 q = w9.1 q := by
    intro q hq
    have hq' : q ≠ w9.2 := by omega
    exact (f10 q (by simp only [gpush]; omega) hq').trans (by simp [gpush, hq'])
  simp only [gpush] at l10
  have a10 := (f10' a0 (by omega)).trans a9
  have e12 : gp w10 a0 0 8 (.ref w9.2) = some (gup w10 a0 (.inr (0, [.long th, .ref w1.2, .ref w2.2, .ref w3.2, .ref w4.2, .ref w5.2, .int 0, .ref w7.2, .ref w9.2, .null]))) := by simp [gp, a10]
  generalize hw11 : gup w10 a0 (.inr (0, [.long th, .ref w1.2, .ref w2.2, .ref w3.2, .ref w4.2, .ref w5.2, .int 0, .ref w7.2, .ref w9.2, .null])) = w11 at e12
  have a11 : w11.1 a0 = some (.inr (0, [.long th, .ref w1.2, .ref w2.2, .ref w3.2, .ref w4.2, .ref w5.2, .int 0, .ref w7.2, .ref w9.2, .null])) := by rw [← hw11]; simp [gup]
  have f11 : ∀ q, q ≠ a0 → w11.1 q = w10.1 q := by intro q hq; rw [← hw11]; simp [gup, hq]
  have l11 : w11.2 = w10.2 := by rw [← hw11]; rfl
  have h12 : (gpush w11 (.inr (2, [.null, .int 0]))).1 w11.2 = some (.inr (2, [.null, .int 0])) := by simp [gpush]
  obtain ⟨w12, r12, f12, l12⟩ := i_lay (g0 := g0) h12 (by simp only [gpush]; omega)
  have f12' : ∀ q, q < w11.2 → w12.1 q = w11.1 q := by
    intro q hq
    have hq' : q ≠ w11.2 := by omega
    exact (f12 q (by simp only [gpush]; omega) hq').trans (by simp [gpush, hq'])
  simp only [gpush] at l12
  have a12 := (f12' a0 (by omega)).trans a11
  have e14 : gp w12 a0 0 9 (.ref w11.2) = some (gup w12 a0 (.inr (0, [.long th, .ref w1.2, .ref w2.2, .ref w3.2, .ref w4.2, .ref w5.2, .int 0, .ref w7.2, .ref w9.2, .ref w11.2]))) := by simp [gp, a12]
  have back : ∀ q, q < w7.2 → q ≠ a0 → (gup w12 a0 (.inr (0, [.long th, .ref w1.2, .ref w2.2, .ref w3.2, .ref w4.2, .ref w5.2, .int 0, .ref w7.2, .ref w9.2, .ref w11.2]))).1 q = w7.1 q := by
    intro q hq hq0
    rw [show (gup w12 a0 (.inr (0, [.long th, .ref w1.2, .ref w2.2, .ref w3.2, .ref w4.2, .ref w5.2, .int 0, .ref w7.2, .ref w9.2, .ref w11.2]))).1 q = w12.1 q from by simp [gup, hq0], f12' q (by omega), f11 q hq0, f10' q (by omega), f9 q (by omega), f8 q (by omega) hq0]
  refine ⟨gup w12 a0 (.inr (0, [.long th, .ref w1.2, .ref w2.2, .ref w3.2, .ref w4.2, .ref w5.2, .int 0, .ref w7.2, .ref w9.2, .ref w11.2])), th, w1.2, w2.2, w3.2, w4.2, w5.2, w7.2, w9.2, w11.2, fun _ => .long 0, fun _ => .long 0, ?_, by simp [gup], ?_, ?_, ?_, ?_, ?_, ?_, ?_, ?_, ?_, ?_, ?_, ?_, ?_, ?_⟩
  · unfold f_B_init
    rw [e1, gb_r, e2, gb_r, e3, Option.bind_some, s2, s3, s4, s5, s6, e7, Option.bind_some, s8, e9, Option.bind_some, e11, gb_r]
    simp only [gnw, gb2f]
    rw [r10, gb_r, e12, Option.bind_some]
    rw [r12, gb_r, e14, Option.bind_some]
  · rw [back _ (by omega) (by omega), f7 _ (by omega), f6 _ (by omega) (by omega), f5 _ (by omega) (by omega), f4 _ (by omega) (by omega), f3 _ (by omega) (by omega)]; exact b2
  · rw [back _ (by omega) (by omega), f7 _ (by omega), f6 _ (by omega) (by omega), f5 _ (by omega) (by omega), f4 _ (by omega) (by omega)]; exact b3
  · rw [back _ (by omega) (by omega), f7 _ (by omega), f6 _ (by omega) (by omega), f5 _ (by omega) (by omega)]; exact b4
  · rw [back _ (by omega) (by omega), f7 _ (by omega), f6 _ (by omega) (by omega)]; exact b5
  · rw [back _ (by omega) (by omega), f7 _ (by omega)]; exact b6
  · intro q h1 h2
    rw [back _ (by omega) h2, f7 _ h2, f6 _ (by omega) h2, f5 _ (by omega) h2, f4 _ (by omega) h2, f3 _ (by omega) h2, f2 _ (by omega) h2]
    exact f1 q h1 h2
  all_goals
    try simp only [gup]
    omega
theorem i_M {a0 : Nat} {x : Int64} (hw : w.1 a0 = some (.inr (7, [.int 0, .long 0, .int 0, .null, .null, .null, .null, .null, .null, .int 0, .null, .null, .int 0, .null, .null, .null, .null, .null, .int 0, .null, .null, .null, .null, .null, .null, .null, .null]))) (hl : a0 < w.2) :
    ∃ (w' : gW) (tm : Int64) (m3 m4 m5 m6 m7 m8 m10 m11 m13 m14 m15 m16 m17 m19 m20 m21 m22 m23 m24 m25 m26 : Nat) (X Y O : Nat → Value), f_M_init g0 a0 x w = some (.inr (), w') ∧ w'.1 a0 = some (.inr (7, [.int 0, .long tm, .int 0, .ref m3, .ref m4, .ref m5, .ref m6, .ref m7, .ref m8, .int 0, .ref m10, .ref m11, .int 0, .ref m13, .ref m14, .ref m15, .ref m16, .ref m17, .int 0, .ref m19, .ref m20, .ref m21, .ref m22, .ref m23, .ref m24, .ref m25, .ref m26])) ∧ w'.1 m10 = some (.inl (1, 8, X)) ∧ w'.1 m11 = some (.inl (1, 8, Y)) ∧ w'.1 m19 = some (.inl (1, 60, O)) ∧ (∀ q, q < w.2 → q ≠ a0 → w'.1 q = w.1 q) ∧ w.2 ≤ w'.2 ∧ w.2 ≤ m10 ∧ w.2 ≤ m11 ∧ m19 < w'.2 ∧ m10 < w'.2 ∧ m11 < w'.2 := by
  obtain ⟨w1, s1, a1, b1, f1, l1⟩ := i_arr (k := 3) (kd := 0) (M := 30) (N := 30) (v := .int 0) hw (by omega) (by simp) (by decide)
  obtain ⟨w2, s2, a2, b2, f2, l2⟩ := i_arr (k := 4) (kd := 0) (M := 360) (N := 360) (v := .int 0) a1 (by omega) (by simp) (by decide)
  obtain ⟨w3, s3, a3, b3, f3, l3⟩ := i_arr (k := 5) (kd := 1) (M := 2160) (N := 2160) (v := .long 0) a2 (by omega) (by simp) (by decide)
  obtain ⟨w4, s4, a4, b4, f4, l4⟩ := i_arr (k := 6) (kd := 0) (M := 360) (N := 360) (v := .int 0) a3 (by omega) (by simp) (by decide)
  obtain ⟨w5, s5, a5, b5, f5, l5⟩ := i_arr (k := 7) (kd := 1) (M := 2880) (N := 2880) (v := .long 0) a4 (by omega) (by simp) (by decide)
  obtain ⟨w6, s6, a6, b6, f6, l6⟩ := i_arr (k := 8) (kd := 1) (M := 2880) (N := 2880) (v := .long 0) a5 (by omega) (by simp) (by decide)
  obtain ⟨w7, s7, a7, b7, f7, l7⟩ := i_arr (k := 10) (kd := 1) (M := 8) (N := 8) (v := .long 0) a6 (by omega) (by simp) (by decide)
  obtain ⟨w8, s8, a8, b8, f8, l8⟩ := i_arr (k := 11) (kd := 1) (M := 8) (N := 8) (v := .long 0) a7 (by omega) (by simp) (by decide)
  obtain ⟨w9, s9, a9, b9, f9, l9⟩ := i_arr (k := 13) (kd := 0) (M := 30) (N := 30) (v := .int 0) a8 (by omega) (by simp) (by decide)
  obtain ⟨w10, s10, a10, b10, f10, l10⟩ := i_arr (k := 14) (kd := 1) (M := 30) (N := 30) (v := .long 0) a9 (by omega) (by simp) (by decide)
  obtain ⟨w11, s11, a11, b11, f11, l11⟩ := i_arr (k := 15) (kd := 1) (M := 30) (N := 30) (v := .long 0) a10 (by omega) (by simp) (by decide)
  obtain ⟨w12, s12, a12, b12, f12, l12⟩ := i_arr (k := 16) (kd := 0) (M := 30) (N := 30) (v := .int 0) a11 (by omega) (by simp) (by decide)
  obtain ⟨w13, s13, a13, b13, f13, l13⟩ := i_arr (k := 17) (kd := 0) (M := 30) (N := 30) (v := .int 0) a12 (by omega) (by simp) (by decide)
  obtain ⟨w14, s14, a14, b14, f14, l14⟩ := i_arr (k := 19) (kd := 1) (M := 60) (N := 60) (v := .long 0) a13 (by omega) (by simp) (by decide)
  obtain ⟨w15, s15, a15, b15, f15, l15⟩ := i_arr (k := 20) (kd := 0) (M := 2) (N := 2) (v := .int 0) a14 (by omega) (by simp) (by decide)
  obtain ⟨w16, s16, a16, b16, f16, l16⟩ := i_arr (k := 21) (kd := 0) (M := 2) (N := 2) (v := .int 0) a15 (by omega) (by simp) (by decide)
  obtain ⟨w17, s17, a17, b17, f17, l17⟩ := i_arr (k := 22) (kd := 1) (M := 16) (N := 16) (v := .long 0) a16 (by omega) (by simp) (by decide)
  obtain ⟨w18, s18, a18, b18, f18, l18⟩ := i_arr (k := 23) (kd := 1) (M := 16) (N := 16) (v := .long 0) a17 (by omega) (by simp) (by decide)
  obtain ⟨w19, s19, a19, b19, f19, l19⟩ := i_arr (k := 24) (kd := 1) (M := 2) (N := 2) (v := .long 0) a18 (by omega) (by simp) (by decide)
  obtain ⟨w20, s20, a20, b20, f20, l20⟩ := i_arr (k := 25) (kd := 1) (M := 2) (N := 2) (v := .long 0) a19 (by omega) (by simp) (by decide)
  obtain ⟨w21, s21, a21, b21, f21, l21⟩ := i_arr (k := 26) (kd := 1) (M := 2) (N := 2) (v := .long 0) a20 (by omega) (by simp) (by decide)
  simp only [List.set_cons_zero, List.set_cons_succ] at a21
  have hg : ∀ tm : Int64, gp w21 a0 7 1 (.long tm) = some (gup w21 a0 (.inr (7, [.int 0, .long tm, .int 0, .ref w.2, .ref w1.2, .ref w2.2, .ref w3.2, .ref w4.2, .ref w5.2, .int 0, .ref w6.2, .ref w7.2, .int 0, .ref w8.2, .ref w9.2, .ref w10.2, .ref w11.2, .ref w12.2, .int 0, .ref w13.2, .ref w14.2, .ref w15.2, .ref w16.2, .ref w17.2, .ref w18.2, .ref w19.2, .ref w20.2]))) := by intro tm; simp [gp, a21]
  have ht : ∃ tm, f_M_init g0 a0 x w = some (.inr (), gup w21 a0 (.inr (7, [.int 0, .long tm, .int 0, .ref w.2, .ref w1.2, .ref w2.2, .ref w3.2, .ref w4.2, .ref w5.2, .int 0, .ref w6.2, .ref w7.2, .int 0, .ref w8.2, .ref w9.2, .ref w10.2, .ref w11.2, .ref w12.2, .int 0, .ref w13.2, .ref w14.2, .ref w15.2, .ref w16.2, .ref w17.2, .ref w18.2, .ref w19.2, .ref w20.2]))) := by
    unfold f_M_init
    rw [s1, s2, s3, s4, s5, s6, s7, s8, s9, s10, s11, s12, s13, s14, s15, s16, s17, s18, s19, s20, s21]
    simp only [gjoin]
    split
    · split
      · exact ⟨_, by rw [hg]; rfl⟩
      · exact ⟨_, by rw [hg]; rfl⟩
    · exact ⟨_, by rw [hg]; rfl⟩
  obtain ⟨tm, ht⟩ := ht
  refine ⟨_, tm, w.2, w1.2, w2.2, w3.2, w4.2, w5.2, w6.2, w7.2, w8.2, w9.2, w10.2, w11.2, w12.2, w13.2, w14.2, w15.2, w16.2, w17.2, w18.2, w19.2, w20.2, fun _ => .long 0, fun _ => .long 0, fun _ => .long 0, ht, by simp [gup], ?_, ?_, ?_, fun q h1 h2 => ?_, by simp only [gup]; omega, by omega, by omega, by simp only [gup]; omega, by simp only [gup]; omega, by simp only [gup]; omega⟩
  · rw [show (gup w21 a0 (.inr (7, [.int 0, .long tm, .int 0, .ref w.2, .ref w1.2, .ref w2.2, .ref w3.2, .ref w4.2, .ref w5.2, .int 0, .ref w6.2, .ref w7.2, .int 0, .ref w8.2, .ref w9.2, .ref w10.2, .ref w11.2, .ref w12.2, .int 0, .ref w13.2, .ref w14.2, .ref w15.2, .ref w16.2, .ref w17.2, .ref w18.2, .ref w19.2, .ref w20.2]))).1 w6.2 = w21.1 w6.2 from by simp only [gup]; rw [if_neg (by omega)], f21 _ (by omega) (by omega), f20 _ (by omega) (by omega), f19 _ (by omega) (by omega), f18 _ (by omega) (by omega), f17 _ (by omega) (by omega), f16 _ (by omega) (by omega), f15 _ (by omega) (by omega), f14 _ (by omega) (by omega), f13 _ (by omega) (by omega), f12 _ (by omega) (by omega), f11 _ (by omega) (by omega), f10 _ (by omega) (by omega), f9 _ (by omega) (by omega), f8 _ (by omega) (by omega)]; exact b7
  · rw [show (gup w21 a0 (.inr (7, [.int 0, .long tm, .int 0, .ref w.2, .ref w1.2, .ref w2.2, .ref w3.2, .ref w4.2, .ref w5.2, .int 0, .ref w6.2, .ref w7.2, .int 0, .ref w8.2, .ref w9.2, .ref w10.2, .ref w11.2, .ref w12.2, .int 0, .ref w13.2, .ref w14.2, .ref w15.2, .ref w16.2, .ref w17.2, .ref w18.2, .ref w19.2, .ref w20.2]))).1 w7.2 = w21.1 w7.2 from by simp only [gup]; rw [if_neg (by omega)], f21 _ (by omega) (by omega), f20 _ (by omega) (by omega), f19 _ (by omega) (by omega), f18 _ (by omega) (by omega), f17 _ (by omega) (by omega), f16 _ (by omega) (by omega), f15 _ (by omega) (by omega), f14 _ (by omega) (by omega), f13 _ (by omega) (by omega), f12 _ (by omega) (by omega), f11 _ (by omega) (by omega), f10 _ (by omega) (by omega), f9 _ (by omega) (by omega)]; exact b8
  · rw [show (gup w21 a0 (.inr (7, [.int 0, .long tm, .int 0, .ref w.2, .ref w1.2, .ref w2.2, .ref w3.2, .ref w4.2, .ref w5.2, .int 0, .ref w6.2, .ref w7.2, .int 0, .ref w8.2, .ref w9.2, .ref w10.2, .ref w11.2, .ref w12.2, .int 0, .ref w13.2, .ref w14.2, .ref w15.2, .ref w16.2, .ref w17.2, .ref w18.2, .ref w19.2, .ref w20.2]))).1 w13.2 = w21.1 w13.2 from by simp only [gup]; rw [if_neg (by omega)], f21 _ (by omega) (by omega), f20 _ (by omega) (by omega), f19 _ (by omega) (by omega), f18 _ (by omega) (by omega), f17 _ (by omega) (by omega), f16 _ (by omega) (by omega), f15 _ (by omega) (by omega)]; exact b14
  · rw [show (gup w21 a0 (.inr (7, [.int 0, .long tm, .int 0, .ref w.2, .ref w1.2, .ref w2.2, .ref w3.2, .ref w4.2, .ref w5.2, .int 0, .ref w6.2, .ref w7.2, .int 0, .ref w8.2, .ref w9.2, .ref w10.2, .ref w11.2, .ref w12.2, .int 0, .ref w13.2, .ref w14.2, .ref w15.2, .ref w16.2, .ref w17.2, .ref w18.2, .ref w19.2, .ref w20.2]))).1 q = w21.1 q from by simp [gup, h2], f21 _ (by omega) h2, f20 _ (by omega) h2, f19 _ (by omega) h2, f18 _ (by omega) h2, f17 _ (by omega) h2, f16 _ (by omega) h2, f15 _ (by omega) h2, f14 _ (by omega) h2, f13 _ (by omega) h2, f12 _ (by omega) h2, f11 _ (by omega) h2, f10 _ (by omega) h2, f9 _ (by omega) h2, f8 _ (by omega) h2, f7 _ (by omega) h2, f6 _ (by omega) h2, f5 _ (by omega) h2, f4 _ (by omega) h2, f3 _ (by omega) h2, f2 _ (by omega) h2, f1 _ (by omega) h2]
end
end
