section
theorem zbm (x : Int) (h1 : -2147483648 ≤ x) (h2 : x < 2147483648) : x.bmod (2 ^ 32) = x := by
  rw [Int.bmod_def]
  have : ((2 ^ 32 : Nat) : Int) = 4294967296 := by decide
  rw [this]
  split <;> omega
theorem z_add (a b : Int32) (h1 : -2147483648 ≤ a.toInt + b.toInt) (h2 : a.toInt + b.toInt < 2147483648) : (a + b).toInt = a.toInt + b.toInt := by rw [Int32.toInt_add, zbm _ h1 h2]
theorem z_cl (a : Int32) : a.toNatClampNeg = a.toInt.toNat := rfl
section
variable {w : gW} {g0 : gG}
theorem l_addA {l o c : Nat} {m : Int32} {fs : List Value} (hl : w.1 l = some (.inr (1, [.ref g0.1, .int 0, .int m]))) (he : w.1 g0.1 = some (.inl (5, 0, fun _ => .null))) (ho : w.1 o = some (.inr (c, fs))) (hk : gok 3 c = true) (ll : l < w.2) (le : g0.1 < w.2) (lo : o < w.2) (hlo : o ≠ l) :
    ∃ w', f_AL_add g0 l o w = some (.inr 1, w') ∧ w'.1 l = some (.inr (1, [.ref w.2, .int 1, .int (m + 1)])) ∧ w'.1 w.2 = some (.inl (3, 10, updV (fun _ => .null) 0 (.ref o))) ∧ (∀ q, q ≠ l → q ≠ w.2 → w'.1 q = w.1 q) ∧ w'.2 = w.2 + 1 := by
  have n1 : l ≠ w.2 := by omega
  have n2 : g0.1 ≠ l := by
    intro h
    rw [h, hl] at he
    cases he
  have n3 : o ≠ w.2 := by omega
  have n4 : w.2 ≠ l := by omega
  have e0 : nI 0 = 0 := rfl
  have e1 : (0 : Int32) + 1 = 1 := by decide
  have e2 : f_Ma_max g0 10 1 = fun w => some (.inr 10, w) := by
    funext w
    simp [f_Ma_max, gjoin]
  have e3 : ¬ ((10 : Int32) < 0 ∨ 64 < (10 : Int32).toNatClampNeg) := by decide
  have e4 : (10 : Int32).toNatClampNeg = 10 := by decide
  generalize hx : f_AL_add g0 l o w = x
  simp [f_AL_add, f_AL_add2, f_AL_grow, f_AL_grow2, gfI, gfA, gf, gvI, gvA, hl, gp, gup, gck, gal, gjoin, gbind, gb2f, gna, gpush, gsA, gob, gas, gguard, n1, n2, n3, n4, he, ho, hk, hlo, e0, e1, e2, e3, e4] at hx
  subst hx
  refine ⟨_, rfl, by simp, by simp [n4], fun q h1 h2 => by simp [h1, h2], rfl⟩
end
section
variable {g0 : gG} {a : pA} {b L : Nat} {xs : Nat → Int32} {c1 c2 c3 : Nat} {w : gW}
theorem q_min2 {x y : Int64} {w : gW} : ∃ v, f_Ma_min2 g0 x y w = some (.inr v, w) := by
  unfold f_Ma_min2 gjoin
  repeat' split
  all_goals exact ⟨_, rfl⟩
theorem q_max2 {x y : Int64} {w : gW} : ∃ v, f_Ma_max2 g0 x y w = some (.inr v, w) := by
  unfold f_Ma_max2 gjoin
  repeat' split
  all_goals exact ⟨_, rfl⟩
theorem q_Byinit {n : Nat} : ∃ w', f_By_init g0 w.2 (gpush w (.inr (4, [.null, .long 0]))) = some (.inr (), w') ∧ w'.1 w.2 = some (.inr (4, [.ref (w.2 + 1), .long 0])) ∧ (∀ q, q < w.2 → w'.1 q = w.1 q) ∧ w'.2 = w.2 + 2 := by
  generalize hx : f_By_init g0 w.2 (gpush w (.inr (4, [.null, .long 0]))) = x
  simp [f_By_init, gb2f, gnw, gpush, f_AL_init, f_AbL_init, f_AbC_init, gbind, gp, gup] at hx
  subst hx
  refine ⟨_, rfl, by simp, fun q hq => ?_, rfl⟩
  have h1 : q ≠ w.2 := by omega
  have h2 : q ≠ w.2 + 1 := by omega
  simp [h1, h2]
theorem q_Bbody (h : pF g0 a b L xs c1 c2 c3 w) : ∃ w', f_B_body g0 c1 w = some (.inr 0, w') ∧ (∀ q, q < w.2 → q ≠ a.B → w'.1 q = w.1 q) := by
  obtain ⟨w1, e1, e2, e3, e4⟩ := q_Byinit (g0 := g0) (w := w) (n := 0)
  have lB : a.B < w.2 := h.lB
  have hB1 : w1.1 a.B = some (.inr (1, [.ref g0.1, .int 0, .int 0])) := (e3 _ lB).trans h.hB
  have he1 := (e3 _ h.le).trans h.he
  obtain ⟨w2, r1, r2, r3, r4, r5⟩ := l_addA (g0 := g0) (w := w1) (l := a.B) (o := w.2) hB1 he1 e2 (by decide) (by omega) (by have := h.le; omega) (by omega) (by omega)
  have hc1 : w1.1 c1 = some (.inr (0, a.ob)) := (e3 _ h.l1).trans h.h1
  have n1 : c1 ≠ a.B := by
    intro e
    have := h.h1
    rw [e, h.hB] at this
    cases this
  have hc2 : w2.1 c1 = some (.inr (0, a.ob)) := (r4 _ n1 (by have := h.l1; omega)).trans hc1
  refine ⟨w2, ?_, fun q h1 h2 => (r4 q h2 (by omega)).trans (e3 q h1)⟩
  have g1 : gfA w c1 0 1 = some a.B := by simp [gfA, gf, gvA, h.h1]
  have g2 : gck w a.B 1 = some () := by simp [gck, h.hB]
  have g3 : f_AL_size g0 a.B w = some (.inr 0, w) := by simp [f_AL_size, gfI, gf, gvI, h.hB]
  have g4 : gck w1 c1 0 = some () := by simp [gck, hc1]
  have g5 : gfA w1 c1 0 1 = some a.B := by simp [gfA, gf, gvA, hc1]
  have g6 : gck w1 a.B 1 = some () := by simp [gck, hB1]
  have g7 : gfA w2 c1 0 1 = some a.B := by simp [gfA, gf, gvA, hc2]
  have g8 : gck w2 a.B 1 = some () := by simp [gck, r2]
  have g9 : f_AL_size g0 a.B w2 = some (.inr 1, w2) := by simp [f_AL_size, gfI, gf, gvI, r2]
  unfold f_B_body f_B_addBody
  simp only [g1, g2, g3, Option.bind_some, gb_r, gjoin]
  rw [if_neg (by decide)]
  simp only [gnw, gb2f, e1, gb_r, g4, g5, g6, g7, g8, g9, r1, Option.bind_some]
  rfl
theorem q_Mbody (h : w.1 c2 = some (.inr (7, a.mo))) : ∃ w', f_M_body g0 c2 w = some (.inr 0, w') ∧ (∀ q, q ≠ c2 → w'.1 q = w.1 q) := by
  generalize hx : f_M_body g0 c2 w = x
  simp [f_M_body, gp, h, gfI, gf, gvI, gup] at hx
  subst hx
  exact ⟨_, rfl, fun q hq => by simp [hq]⟩
theorem q_Wcorner (h : pF g0 a b L xs c1 c2 c3 w) {x y : Int64} : ∃ w', f_W_corner g0 c1 x y c3 w = some (.inr (if dPl x y then 0 else 1), w') ∧ (dPl x y → gaJ w' c3 0 = some 1) ∧ (∀ q, q ≠ c1 → q ≠ a.cx → q ≠ a.cy → q ≠ c3 → w'.1 q = w.1 q) := by
  have m1 : c1 ≠ a.cx := by intro e; have := h.h1; rw [e, h.hX] at this; cases this
  have m2 : c1 ≠ a.cy := by intro e; have := h.h1; rw [e, h.hY] at this; cases this
  have m3 : c1 ≠ c3 := by intro e; have := h.h1; rw [e, h.h3] at this; cases this
  have m4 : c3 ≠ a.cx := by intro e; have := h.h3; rw [e, h.hX] at this; cases this
  have m5 : c3 ≠ a.cy := by intro e; have := h.h3; rw [e, h.hY] at this; cases this
  have m6 : c2 ≠ a.cx := by intro e; have := h.h2; rw [e, h.hX] at this; cases this
  have m7 : c2 ≠ a.cy := by intro e; have := h.h2; rw [e, h.hY] at this; cases this
  have m8 : c2 ≠ c1 := by intro e; have := h.h2; rw [e, h.h1] at this; cases this
  have m9 : c2 ≠ c3 := by intro e; have := h.h2; rw [e, h.h3] at this; cases this
  have m10 : b ≠ a.cx := by intro e; have := h.hb; rw [e, h.hX] at this; cases this
  have m11 : b ≠ a.cy := by intro e; have := h.hb; rw [e, h.hY] at this; cases this
  have m12 : b ≠ c1 := by intro e; have := h.hb; rw [e, h.h1] at this; cases this
  have m13 : b ≠ c3 := by intro e; have := h.hb; rw [e, h.h3] at this; cases this
  by_cases hp : dPl x y
  · rw [if_pos hp]
    have hB : ∃ w1, f_B_corner g0 c1 x y w = some (.inr 1, w1) ∧ (∀ q, q ≠ c1 → q ≠ a.cx → q ≠ a.cy → w1.1 q = w.1 q) := by
      have k1 : gfI w c1 0 6 = some 0 := by simp [gfI, gf, gvI, h.h1]
      have k2 : gfA w c1 0 4 = some a.cx := by simp [gfA, gf, gvA, h.h1]
      have k3 : gsJ w a.cx 0 x = some (gup w a.cx (.inl (1, 8, updV a.X 0 (.long x)))) := by simp [gsJ, gas, h.hX]
      generalize hw1 : gup w a.cx (.inl (1, 8, updV a.X 0 (.long x))) = w1 at k3
      have f1 : ∀ q, q ≠ a.cx → w1.1 q = w.1 q := by intro q hq; rw [← hw1]; simp [gup, hq]
      have f2 : w1.1 c1 = some (.inr (0, a.ob)) := (f1 _ m1).trans h.h1
      have k4 : gfA w1 c1 0 5 = some a.cy := by simp [gfA, gf, gvA, f2]
      have k5 : gfI w1 c1 0 6 = some 0 := by simp [gfI, gf, gvI, f2]
      have f3 : ∃ Y, w1.1 a.cy = some (.inl (1, 8, Y)) := by
        by_cases e : a.cy = a.cx
        · rw [← hw1, e]; exact ⟨updV a.X 0 (.long x), by simp [gup]⟩
        · exact ⟨_, (f1 _ e).trans h.hY⟩
      obtain ⟨Y, f3⟩ := f3
      have k6 : gsJ w1 a.cy 0 y = some (gup w1 a.cy (.inl (1, 8, updV Y 0 (.long y)))) := by simp [gsJ, gas, f3]
      generalize hw2 : gup w1 a.cy (.inl (1, 8, updV Y 0 (.long y))) = w2 at k6
      have f4 : ∀ q, q ≠ a.cy → w2.1 q = w1.1 q := by intro q hq; rw [← hw2]; simp [gup, hq]
      have f5 : w2.1 c1 = some (.inr (0, a.ob)) := (f4 _ m2).trans f2
      have k7 : gfI w2 c1 0 6 = some 0 := by simp [gfI, gf, gvI, f5]
      have k8 : gp w2 c1 0 6 (.int (0 + 1)) = some (gup w2 c1 (.inr (0, a.ob.set 6 (.int (0 + 1))))) := by simp [gp, f5]
      refine ⟨gup w2 c1 (.inr (0, a.ob.set 6 (.int (0 + 1)))), ?_, fun q h1 h2 h3 => by rw [show (gup w2 c1 (.inr (0, a.ob.set 6 (.int (0 + 1))))).1 q = w2.1 q from by simp [gup, h1]]; exact (f4 q h3).trans (f1 q h2)⟩
      unfold f_B_corner
      rw [q_needPlace, if_pos hp, gb_r]
      simp only [k1, k2, k3, k4, k5, k6, k7, k8, Option.bind_some]
      rw [if_pos (by decide)]
      simp [gguard]
    obtain ⟨w1, r1, r2⟩ := hB
    have r3 : w1.1 c3 = some (.inl (1, 1, a.Z)) := (r2 c3 (Ne.symm m3) m4 m5).trans h.h3
    refine ⟨pO a c3 1 w1, ?_, fun _ => by simp [gaJ, gar, gup, gvJ, updV], ?_⟩
    · unfold f_W_corner
      rw [q_ck1 h, Option.bind_some, r1, gt_r]
      simp [gjoin, q_out r3]
    · intro q q1 q2 q3 q4
      simp [gup, q4, r2 q q1 q2 q3]
  · rw [if_neg hp]
    refine ⟨gth w, ?_, fun h' => absurd h' hp, fun _ _ _ _ _ => rfl⟩
    unfold f_W_corner f_B_corner
    rw [q_ck1 h, Option.bind_some, q_needPlace, if_neg hp, gb_l, gt_l]
    simp
theorem q_Mcorner (h : w.1 c2 = some (.inr (7, a.mo))) (hX : w.1 a.m10 = some (.inl (1, 8, a.X'))) (hY : w.1 a.m11 = some (.inl (1, 8, a.Y'))) {x y : Int64} : ∃ w', f_M_corner g0 c2 x y w = some (.inr (if dPl x y then 1 else 0), w') ∧ gfI w' c2 7 0 = some (if dPl x y then 0 else 1) ∧ (∀ q, q ≠ c2 → q ≠ a.m10 → q ≠ a.m11 → w'.1 q = w.1 q) := by
  have m1 : c2 ≠ a.m10 := by intro e; rw [e, hX] at h; cases h
  have m2 : c2 ≠ a.m11 := by intro e; rw [e, hY] at h; cases h
  unfold f_M_corner
  rw [q_isPlace, gb_r]
  by_cases hp : dPl x y
  · simp only [if_pos hp, gjoin]
    rw [if_neg (by decide), q_Mthrow0 h, Option.bind_some, q_Mth0, Option.bind_some, if_pos rfl]
    have f0 : (gup w c2 (.inr (7, a.mo))).1 c2 = some (.inr (7, a.mo)) := by simp [gup]
    generalize hw0 : gup w c2 (.inr (7, a.mo)) = w0 at f0 ⊢
    have f1 : ∀ q, q ≠ c2 → w0.1 q = w.1 q := by intro q hq; rw [← hw0]; simp [gup, hq]
    have k1 : gfI w0 c2 7 9 = some 0 := by simp [gfI, gf, gvI, f0]
    have k2 : gfA w0 c2 7 10 = some a.m10 := by simp [gfA, gf, gvA, f0]
    have f2 := (f1 _ (Ne.symm m1)).trans hX
    have k3 : gsJ w0 a.m10 0 x = some (gup w0 a.m10 (.inl (1, 8, updV a.X' 0 (.long x)))) := by simp [gsJ, gas, f2]
    generalize hw1 : gup w0 a.m10 (.inl (1, 8, updV a.X' 0 (.long x))) = w1 at k3
    have f3 : ∀ q, q ≠ a.m10 → w1.1 q = w0.1 q := by intro q hq; rw [← hw1]; simp [gup, hq]
    have f4 := (f3 _ m1).trans f0
    have k4 : gfA w1 c2 7 11 = some a.m11 := by simp [gfA, gf, gvA, f4]
    have k5 : gfI w1 c2 7 9 = some 0 := by simp [gfI, gf, gvI, f4]
    have f5 : ∃ Y, w1.1 a.m11 = some (.inl (1, 8, Y)) := by
      by_cases e : a.m11 = a.m10
      · rw [← hw1, e]; exact ⟨updV a.X' 0 (.long x), by simp [gup]⟩
      · exact ⟨_, (f3 _ e).trans ((f1 _ (Ne.symm m2)).trans hY)⟩
    obtain ⟨Y, f5⟩ := f5
    have k6 : gsJ w1 a.m11 0 y = some (gup w1 a.m11 (.inl (1, 8, updV Y 0 (.long y)))) := by simp [gsJ, gas, f5]
    generalize hw2 : gup w1 a.m11 (.inl (1, 8, updV Y 0 (.long y))) = w2 at k6
    have f6 : ∀ q, q ≠ a.m11 → w2.1 q = w1.1 q := by intro q hq; rw [← hw2]; simp [gup, hq]
    have f7 := (f6 _ m2).trans f4
    have k7 : gfI w2 c2 7 9 = some 0 := by simp [gfI, gf, gvI, f7]
    have k8 : gp w2 c2 7 9 (.int (0 + 1)) = some (gup w2 c2 (.inr (7, a.mo.set 9 (.int (0 + 1))))) := by simp [gp, f7]
    refine ⟨gup w2 c2 (.inr (7, a.mo.set 9 (.int (0 + 1)))), ?_, by simp [gfI, gf, gvI, gup], fun q h1 h2 h3 => by rw [show (gup w2 c2 (.inr (7, a.mo.set 9 (.int (0 + 1))))).1 q = w2.1 q from by simp [gup, h1]]; exact (f6 q h3).trans ((f3 q h2).trans (f1 q h1))⟩
    simp only [k1, k2, k3, k4, k5, k6, k7, k8, Option.bind_some]
    rw [if_neg (by decide)]
    simp [gguard]
  · simp only [if_neg hp, gjoin, if_true]
    rw [q_Mthrow h, Option.bind_some, q_Mthrown, Option.bind_some, if_neg (by decide)]
    exact ⟨pM a c2 w, by simp [gguard], by simp [gfI, gf, gvI, gup], fun q h1 _ _ => by simp [gup, h1]⟩
end
end
