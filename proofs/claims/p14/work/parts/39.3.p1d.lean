section
section
variable {g0 : gG} {a : pA} {b L : Nat} {xs : Nat → Int32} {c1 c2 c3 : Nat} {w : gW}
abbrev gS0 : List Value := [.int 0, .long 0, .long 0, .null, .null, .int 0, .long 0, .long 0, .long 0, .long 0, .long 0, .long 0]
def pS (o : Nat) (k : Int32) (w : gW) : Prop := ∃ (kd : Int32) (fl ro x0 y0 z0 x1 y1 z1 : Int64) (X Y : Nat → Value), w.1 o = some (.inr (3, [.int kd, .long fl, .long ro, .ref (o + 1), .ref (o + 2), .int k, .long x0, .long y0, .long z0, .long x1, .long y1, .long z1])) ∧ w.1 (o + 1) = some (.inl (1, 8, X)) ∧ w.1 (o + 2) = some (.inl (1, 8, Y))
theorem s_new : ∃ w1, f_So_init g0 w.2 (gpush w (.inr (3, gS0))) = some (.inr (), w1) ∧ pS w.2 0 w1 ∧ (∀ q, q < w.2 → w1.1 q = w.1 q) ∧ w1.2 = w.2 + 3 := by
  have e8 : ¬ ((8 : Int32) < 0 ∨ 8 < (8 : Int32).toNatClampNeg) := by decide
  have e8' : (8 : Int32).toNatClampNeg = 8 := by decide
  have n1 : w.2 ≠ w.2 + 1 := by omega
  have n2 : w.2 ≠ w.2 + 1 + 1 := by omega
  have n3 : w.2 + 1 ≠ w.2 := by omega
  have n4 : w.2 + 1 + 1 ≠ w.2 := by omega
  have n5 : w.2 + 1 ≠ w.2 + 1 + 1 := by omega
  generalize hx : f_So_init g0 w.2 (gpush w (.inr (3, gS0))) = x
  simp [f_So_init, gb2f, gna, gpush, gp, gup, e8, e8', n1, n2, n3, n4] at hx
  subst hx
  refine ⟨_, rfl, ⟨0, 0, 0, 0, 0, 0, 0, 0, 0, fun _ => .long 0, fun _ => .long 0, by simp, by simp [n3], by simp [n4]⟩, fun q hq => ?_, rfl⟩
  have h3 : q ≠ w.2 := by omega
  have h4 : q ≠ w.2 + 1 := by omega
  have h5 : q ≠ w.2 + 1 + 1 := by omega
  simp [h3, h4, h5]
theorem s_min (x y : Int64) (w : gW) : f_Ma_min2 g0 x y w = some (.inr (if y < x then y else x), w) := by
  simp only [f_Ma_min2, gjoin]
  split <;> rfl
theorem s_max (x y : Int64) (w : gW) : f_Ma_max2 g0 x y w = some (.inr (if x < y then y else x), w) := by
  simp only [f_Ma_max2, gjoin]
  split <;> rfl
theorem s_corner {o : Nat} {k : Int32} {x y : Int64} (h : pS o k w) (k1 : ¬ k < 0) (k2 : k < 8) (k3 : k.toNatClampNeg < 8) : ∃ w', f_So_addCorner g0 o x y w = some (.inr (), w') ∧ pS o (k + 1) w' ∧ (∀ q, q < o → w'.1 q = w.1 q) ∧ w'.2 = w.2 := by
  obtain ⟨kd, fl, ro, x0, y0, z0, x1, y1, z1, X, Y, ho, hA, hB⟩ := h
  have n1 : o ≠ o + 1 := by omega
  have n2 : o ≠ o + 2 := by omega
  have n3 : o + 1 ≠ o := by omega
  have n4 : o + 2 ≠ o := by omega
  have n5 : o + 1 ≠ o + 2 := by omega
  have n6 : o + 2 ≠ o + 1 := by omega
  have fin : ∀ u0 v0 u1 v1 : Int64, pS o (k + 1) (gup (gup (gup (gup w o (.inr (3, [.int kd, .long fl, .long ro, .ref (o + 1), .ref (o + 2), .int k, .long u0, .long v0, .long z0, .long u1, .long v1, .long z1]))) (o + 1) (.inl (1, 8, updV X k.toNatClampNeg (.long x)))) (o + 2) (.inl (1, 8, updV Y k.toNatClampNeg (.long y)))) o (.inr (3, [.int kd, .long fl, .long ro, .ref (o + 1), .ref (o + 2), .int (k + 1), .long u0, .long v0, .long z0, .long u1, .long v1, .long z1]))) := by
    intro u0 v0 u1 v1
    exact ⟨kd, fl, ro, u0, v0, z0, u1, v1, z1, updV X k.toNatClampNeg (.long x), updV Y k.toNatClampNeg (.long y), by simp [gup], by simp [gup, n3, n5], by simp [gup, n4]⟩
  have g1 : ∀ (w : gW) (fs : List Value) (j : Nat) (v : Value), w.1 o = some (.inr (3, fs)) → j < fs.length → gp w o 3 j v = some (gup w o (.inr (3, fs.set j v))) := by
    intro w fs j v h1 h2
    simp [gp, h1, h2]
  have gg : ∀ (w : gW) (e e' : gE), gup (gup w o e) o e' = gup w o e' := by
    intro w e e'
    unfold gup
    simp only [Prod.mk.injEq, and_true]
    funext q
    split <;> rfl
  have rI : ∀ (w : gW) (fs : List Value) (j : Nat) (v : Int32), w.1 o = some (.inr (3, fs)) → fs[j]? = some (.int v) → gfI w o 3 j = some v := by
    intro w fs j v h1 h2
    simp [gfI, gf, gvI, h1, h2]
  have rJ : ∀ (w : gW) (fs : List Value) (j : Nat) (v : Int64), w.1 o = some (.inr (3, fs)) → fs[j]? = some (.long v) → gfJ w o 3 j = some v := by
    intro w fs j v h1 h2
    simp [gfJ, gf, gvJ, h1, h2]
  have rA : ∀ (w : gW) (fs : List Value) (j : Nat) (v : Nat), w.1 o = some (.inr (3, fs)) → fs[j]? = some (.ref v) → gfA w o 3 j = some v := by
    intro w fs j v h1 h2
    simp [gfA, gf, gvA, h1, h2]
  have tail : ∀ u0 v0 u1 v1 : Int64, ((gfA (gup w o (.inr (3, [.int kd, .long fl, .long ro, .ref (o + 1), .ref (o + 2), .int k, .long u0, .long v0, .long z0, .long u1, .long v1, .long z1]))) o 3 3).bind fun v20 => (gfI (gup w o (.inr (3, [.int kd, .long fl, .long ro, .ref (o + 1), .ref (o + 2), .int k, .long u0, .long v0, .long z0, .long u1, .long v1, .long z1]))) o 3 5).bind fun v22 => (gsJ (gup w o (.inr (3, [.int kd, .long fl, .long ro, .ref (o + 1), .ref (o + 2), .int k, .long u0, .long v0, .long z0, .long u1, .long v1, .long z1]))) v20 v22 x).bind fun w => (gfA w o 3 4).bind fun v25 => (gfI w o 3 5).bind fun v27 => (gsJ w v25 v27 y).bind fun w => (gfI w o 3 5).bind fun v30 => (gp w o 3 5 (.int (v30 + 1))).bind fun w => (some (.inr (), w) : gX Unit)) = some (.inr (), gup (gup (gup (gup w o (.inr (3, [.int kd, .long fl, .long ro, .ref (o + 1), .ref (o + 2), .int k, .long u0, .long v0, .long z0, .long u1, .long v1, .long z1]))) (o + 1) (.inl (1, 8, updV X k.toNatClampNeg (.long x)))) (o + 2) (.inl (1, 8, updV Y k.toNatClampNeg (.long y)))) o (.inr (3, [.int kd, .long fl, .long ro, .ref (o + 1), .ref (o + 2), .int (k + 1), .long u0, .long v0, .long z0, .long u1, .long v1, .long z1]))) := by
    intro u0 v0 u1 v1
    simp [gfA, gfI, gf, gvA, gvI, gsJ, gas, gp, gup, hA, hB, n1, n2, n3, n4, n5, n6, k1, k3, -Int32.not_lt]
  have fr : ∀ u0 v0 u1 v1 : Int64, ∀ q, q < o → (gup (gup (gup (gup w o (.inr (3, [.int kd, .long fl, .long ro, .ref (o + 1), .ref (o + 2), .int k, .long u0, .long v0, .long z0, .long u1, .long v1, .long z1]))) (o + 1) (.inl (1, 8, updV X k.toNatClampNeg (.long x)))) (o + 2) (.inl (1, 8, updV Y k.toNatClampNeg (.long y)))) o (.inr (3, [.int kd, .long fl, .long ro, .ref (o + 1), .ref (o + 2), .int (k + 1), .long u0, .long v0, .long z0, .long u1, .long v1, .long z1]))).1 q = w.1 q := by
    intro u0 v0 u1 v1 q hq
    have q1 : q ≠ o := by omega
    have q2 : q ≠ o + 1 := by omega
    have q3 : q ≠ o + 2 := by omega
    simp [gup, q1, q2, q3]
  have ok : ∀ (e : List Value), (gup w o (.inr (3, e))).1 o = some (.inr (3, e)) := by
    intro e
    simp [gup]
  have key : ∃ u0 v0 u1 v1 : Int64, f_So_addCorner g0 o x y w = some (.inr (), gup (gup (gup (gup w o (.inr (3, [.int kd, .long fl, .long ro, .ref (o + 1), .ref (o + 2), .int k, .long u0, .long v0, .long z0, .long u1, .long v1, .long z1]))) (o + 1) (.inl (1, 8, updV X k.toNatClampNeg (.long x)))) (o + 2) (.inl (1, 8, updV Y k.toNatClampNeg (.long y)))) o (.inr (3, [.int kd, .long fl, .long ro, .ref (o + 1), .ref (o + 2), .int (k + 1), .long u0, .long v0, .long z0, .long u1, .long v1, .long z1]))) := by
    unfold f_So_addCorner
    rw [rI w _ 5 k ho rfl, Option.bind_some, if_pos k2, Option.bind_some]
    by_cases hk : k = 0
    · refine ⟨x, y, x, y, ?_⟩
      simp only [gjoin, if_pos hk]
      rw [g1 w _ 6 _ ho (by simp), Option.bind_some]
      simp only [List.set_cons_zero, List.set_cons_succ]
      rw [rI _ _ 5 k (ok _) rfl, Option.bind_some, if_pos hk, g1 _ _ 7 _ (ok _) (by simp), Option.bind_some, gg]
      simp only [List.set_cons_zero, List.set_cons_succ]
      rw [rI _ _ 5 k (ok _) rfl, Option.bind_some, if_pos hk, g1 _ _ 9 _ (ok _) (by simp), Option.bind_some, gg]
      simp only [List.set_cons_zero, List.set_cons_succ]
      rw [rI _ _ 5 k (ok _) rfl, Option.bind_some, if_pos hk, g1 _ _ 10 _ (ok _) (by simp), Option.bind_some, gg]
      simp only [List.set_cons_zero, List.set_cons_succ]
      exact tail x y x y
    · refine ⟨if x < x0 then x else x0, if y < y0 then y else y0, if x1 < x then x else x1, if y1 < y then y else y1, ?_⟩
      simp only [gjoin, if_neg hk]
      rw [rJ w _ 6 x0 ho rfl, Option.bind_some, s_min, gb_r, g1 w _ 6 _ ho (by simp), Option.bind_some]
      simp only [List.set_cons_zero, List.set_cons_succ]
      rw [rI _ _ 5 k (ok _) rfl, Option.bind_some, if_neg hk, rJ _ _ 7 y0 (ok _) rfl, Option.bind_some, s_min, gb_r, g1 _ _ 7 _ (ok _) (by simp), Option.bind_some, gg]
      simp only [List.set_cons_zero, List.set_cons_succ]
      rw [rI _ _ 5 k (ok _) rfl, Option.bind_some, if_neg hk, rJ _ _ 9 x1 (ok _) rfl, Option.bind_some, s_max, gb_r, g1 _ _ 9 _ (ok _) (by simp), Option.bind_some, gg]
      simp only [List.set_cons_zero, List.set_cons_succ]
      rw [rI _ _ 5 k (ok _) rfl, Option.bind_some, if_neg hk, rJ _ _ 10 y1 (ok _) rfl, Option.bind_some, s_max, gb_r, g1 _ _ 10 _ (ok _) (by simp), Option.bind_some, gg]
      simp only [List.set_cons_zero, List.set_cons_succ]
      exact tail _ _ _ _
  obtain ⟨u0, v0, u1, v1, hk⟩ := key
  exact ⟨_, hk, fin u0 v0 u1 v1, fr u0 v0 u1 v1, rfl⟩
theorem pS.ck {o : Nat} {k : Int32} (h : pS o k w) : gck w o 3 = some () := by
  obtain ⟨kd, fl, ro, x0, y0, z0, x1, y1, z1, X, Y, ho, -⟩ := h
  simp [gck, ho]
theorem s_rect {o : Nat} {x y x' y' : Int64} (h : pS o 0 w) : ∃ w', f_So_addRectangle g0 o x y x' y' w = some (.inr (), w') ∧ (∃ k, pS o k w') ∧ (∀ q, q < o → w'.1 q = w.1 q) ∧ w'.2 = w.2 := by
  obtain ⟨w1, e1, h1, f1, l1⟩ := s_corner (g0 := g0) (x := x) (y := y) h (by decide) (by decide) (by decide)
  obtain ⟨w2, e2, h2, f2, l2⟩ := s_corner (g0 := g0) (x := x') (y := y) h1 (by decide) (by decide) (by decide)
  obtain ⟨w3, e3, h3, f3, l3⟩ := s_corner (g0 := g0) (x := x') (y := y') h2 (by decide) (by decide) (by decide)
  obtain ⟨w4, e4, h4, f4, l4⟩ := s_corner (g0 := g0) (x := x) (y := y') h3 (by decide) (by decide) (by decide)
  refine ⟨w4, ?_, ⟨_, h4⟩, fun q hq => (f4 q hq).trans ((f3 q hq).trans ((f2 q hq).trans (f1 q hq))), by omega⟩
  unfold f_So_addRectangle
  rw [h.ck, Option.bind_some, e1, gb_r, h1.ck, Option.bind_some, e2, gb_r, h2.ck, Option.bind_some, e3, gb_r, h3.ck, Option.bind_some, e4, gb_r]
theorem s_begin {o : Nat} {k : Int32} {kd : Int32} {fl ro : Int64} (h : pS o k w) : ∃ w', f_So_begin g0 o kd fl ro w = some (.inr (), w') ∧ pS o 0 w' ∧ (∀ q, q < o → w'.1 q = w.1 q) ∧ w'.2 = w.2 := by
  obtain ⟨kd', fl', ro', x0, y0, z0, x1, y1, z1, X, Y, ho, hA, hB⟩ := h
  have n3 : o + 1 ≠ o := by omega
  have n4 : o + 2 ≠ o := by omega
  generalize hx : f_So_begin g0 o kd fl ro w = r
  simp [f_So_begin, gp, gup, ho] at hx
  subst hx
  refine ⟨_, rfl, ⟨kd, fl, ro, x0, y0, z0, x1, y1, z1, X, Y, by simp, by simp [n3, hA], by simp [n4, hB]⟩, fun q hq => ?_, rfl⟩
  have : q ≠ o := by omega
  simp [this]
theorem s_heights {o : Nat} {k : Int32} {u v : Int64} (h : pS o k w) : ∃ w', f_So_setHeights g0 o u v w = some (.inr (), w') ∧ (∀ q, q < o → w'.1 q = w.1 q) ∧ w'.2 = w.2 := by
  obtain ⟨kd', fl', ro', x0, y0, z0, x1, y1, z1, X, Y, ho, hA, hB⟩ := h
  generalize hx : f_So_setHeights g0 o u v w = r
  simp [f_So_setHeights, gp, gup, ho] at hx
  subst hx
  refine ⟨_, rfl, fun q hq => ?_, rfl⟩
  have : q ≠ o := by omega
  simp [this]
end
section
variable {g0 : gG} {a : pA} {b L : Nat} {xs : Nat → Int32} {c1 c2 c3 : Nat} {w : gW}
abbrev dKO (x0 y0 x1 y1 : Int64) (s : Int32) (h : Int64) : Prop := ((-20000) ≤ x0 ∧ x0 ≤ 20000) ∧ ((-20000) ≤ y0 ∧ y0 ≤ 20000) ∧ (x0 + 1 ≤ x1 ∧ x1 ≤ 20000) ∧ (y0 + 1 ≤ y1 ∧ y1 ≤ 20000) ∧ (0 ≤ s.toInt64 ∧ s.toInt64 ≤ 1) ∧ (0 ≤ h ∧ h ≤ 20000)
theorem z64_1 {x : Int64} (h1 : -20000 ≤ x.toInt) (h2 : x.toInt ≤ 20000) : (x + 1).toInt = x.toInt + 1 := by
  rw [Int64.toInt_add, show (1 : Int64).toInt = 1 from by decide]
  apply Int.bmod_eq_of_le <;> simp <;> omega
theorem dKO_iff {x0 y0 x1 y1 : Int64} {s : Int32} {h : Int64} : dKO x0 y0 x1 y1 s h ↔ (((-20000) ≤ x0 ∧ x0 ≤ 20000) ∧ ((-20000) ≤ y0 ∧ y0 ≤ 20000) ∧ ((-20000) ≤ x1 ∧ x1 ≤ 20000) ∧ ((-20000) ≤ y1 ∧ y1 ≤ 20000) ∧ ¬ x1 ≤ x0 ∧ ¬ y1 ≤ y0) ∧ (s = 0 ∨ s = 1) ∧ (0 ≤ h ∧ h ≤ 20000) := by
  unfold dKO
  have e1 : ((-20000 : Int64)).toInt = -20000 := by decide
  have e2 : ((20000 : Int64)).toInt = 20000 := by decide
  have e3 : ((0 : Int64)).toInt = 0 := by decide
  have e4 : ((1 : Int64)).toInt = 1 := by decide
  have e5 : ((0 : Int32)).toInt = 0 := by decide
  have e6 : ((1 : Int32)).toInt = 1 := by decide
  simp only [Int64.le_iff_toInt_le, ← Int32.toInt_inj, e1, e2, e3, e4, e5, e6, Int32.toInt_toInt64]
  constructor
  · rintro ⟨⟨a1, a2⟩, ⟨a3, a4⟩, ⟨a5, a6⟩, ⟨a7, a8⟩, a9, a10⟩
    rw [z64_1 a1 a2] at a5
    rw [z64_1 a3 a4] at a7
    omega
  · rintro ⟨⟨⟨a1, a2⟩, ⟨a3, a4⟩, a5, a6, a7, a8⟩, a9, a10⟩
    rw [z64_1 a1 a2, z64_1 a3 a4]
    omega
theorem q_BkeepNo {x0 y0 x1 y1 : Int64} {s : Int32} {hh : Int64} (hp : ¬ dKO x0 y0 x1 y1 s hh) : f_B_keepOut g0 c1 x0 y0 x1 y1 s hh w = some (.inl xIA, gth w) := by
  unfold f_B_keepOut
  simp only [q_need, gbind_ite, gb_l, gb_r]
  unfold dKO at hp
  by_cases h1 : (-20000) ≤ x0 ∧ x0 ≤ 20000
  · rw [if_pos h1]
    by_cases h2 : (-20000) ≤ y0 ∧ y0 ≤ 20000
    · rw [if_pos h2]
      by_cases h3 : x0 + 1 ≤ x1 ∧ x1 ≤ 20000
      · rw [if_pos h3]
        by_cases h4 : y0 + 1 ≤ y1 ∧ y1 ≤ 20000
        · rw [if_pos h4]
          by_cases h5 : 0 ≤ s.toInt64 ∧ s.toInt64 ≤ 1
          · rw [if_pos h5]
            by_cases h6 : 0 ≤ hh ∧ hh ≤ 20000
            · exact absurd ⟨h1, h2, h3, h4, h5, h6⟩ hp
            · rw [if_neg h6]
          · rw [if_neg h5]
        · rw [if_neg h4]
      · rw [if_neg h3]
    · rw [if_neg h2]
  · rw [if_neg h1]
theorem q_BkeepYes (h : pF g0 a b L xs c1 c2 c3 w) {x0 y0 x1 y1 : Int64} {s : Int32} {hh : Int64} (hp : dKO x0 y0 x1 y1 s hh) : ∃ w', f_B_keepOut g0 c1 x0 y0 x1 y1 s hh w = some (.inr 1, w') ∧ (∀ q, q < w.2 → q ≠ a.K → w'.1 q = w.1 q) := by
  obtain ⟨h1, h2, h3, h4, h5, h6⟩ := id hp
  have k1 : gfA w c1 0 3 = some a.K := by simp [gfA, gf, gvA, h.h1]
  have k2 : gck w a.K 1 = some () := by simp [gck, h.hK]
  have k3 : f_AL_size g0 a.K w = some (.inr 0, w) := by simp [f_AL_size, gfI, gf, gvI, h.hK]
  obtain ⟨w1, e1, p1, f1, l1⟩ := s_new (g0 := g0) (w := w)
  obtain ⟨w2, e2, p2, f2, l2⟩ := s_begin (g0 := g0) (kd := 0) (fl := 0) (ro := 0) p1
  obtain ⟨w3, e3, ⟨k, p3⟩, f3, l3⟩ := s_rect (g0 := g0) (x := x0) (y := y0) (x' := x1) (y' := y1) p2
  have fr3 : ∀ q, q < w.2 → w3.1 q = w.1 q := fun q hq => (f3 q hq).trans ((f2 q hq).trans (f1 q hq))
  have m1 := h.l1
  have mK := h.lK
  have me := h.le
  have fin : ∀ w4 : gW, (∀ q, q < w.2 → w4.1 q = w.1 q) → w4.2 = w.2 + 3 → ∃ w', ((gfA w4 c1 0 3).bind fun v42 => gb2f (gnw w4 6 [.null, .int 0]) fun o44 w5 => gbind (f_Ko_init g0 o44 w.2 s w5) fun v48 w => (gck w v42 1).bind fun _ => gbind (f_AL_add g0 v42 o44 w) fun v53 w => gguard ((1 : Int32) = 0 ∨ (1 : Int32) = 1) (some (.inr 1, w)) : gX Int32) = some (.inr 1, w') ∧ (∀ q, q < w.2 → q ≠ a.K → w'.1 q = w.1 q) := by
    intro w4 fr4 l4
    have hc4 := (fr4 c1 m1).trans h.h1
    have hK4 := (fr4 a.K mK).trans h.hK
    have he4 := (fr4 g0.1 me).trans h.he
    have j1 : gfA w4 c1 0 3 = some a.K := by simp [gfA, gf, gvA, hc4]
    have ki : ∃ w6, f_Ko_init g0 w4.2 w.2 s (gpush w4 (.inr (6, [.null, .int 0]))) = some (.inr (), w6) ∧ w6.1 w4.2 = some (.inr (6, [.ref w.2, .int s])) ∧ (∀ q, q < w4.2 → w6.1 q = w4.1 q) ∧ w6.2 = w4.2 + 1 := by
      generalize hx : f_Ko_init g0 w4.2 w.2 s (gpush w4 (.inr (6, [.null, .int 0]))) = x
      simp [f_Ko_init, gpush, gp, gup] at hx
      subst hx
      refine ⟨_, rfl, by simp, fun q hq => ?_, rfl⟩
      have : q ≠ w4.2 := by omega
      simp [this]
    obtain ⟨w6, r1, r2, r3, r4⟩ := ki
    obtain ⟨w7, s1, s2, s3, s4, s5⟩ := l_addA (g0 := g0) (w := w6) (l := a.K) (o := w4.2) ((r3 _ (by omega)).trans hK4) ((r3 _ (by omega)).trans he4) r2 (by decide) (by omega) (by omega) (by omega) (by omega)
    have j2 : gck w6 a.K 1 = some () := by simp [gck, r3 a.K (by omega), hK4]
    refine ⟨w7, ?_, fun q q1 q2 => (s4 q q2 (by omega)).trans ((r3 q (by omega)).trans (fr4 q q1))⟩
    rw [j1, Option.bind_some]
    simp only [gnw, gb2f]
    rw [r1, gb_r, j2, Option.bind_some, s1, gb_r]
    simp [gguard]
  unfold f_B_keepOut
  simp only [q_need, if_pos h1, if_pos h2, if_pos h3, if_pos h4, if_pos h5, if_pos h6, gb_r, k1, k2, k3, Option.bind_some]
  rw [if_pos (by decide)]
  simp only [gnw, gb2f]
  rw [e1, gb_r, p1.ck, Option.bind_some, e2, gb_r, p2.ck, Option.bind_some, e3, gb_r]
  simp only [gjoin]
  by_cases hs : s = 0
  · rw [if_pos hs, p3.ck, Option.bind_some]
    obtain ⟨w4, e4, f4, l4⟩ := s_heights (g0 := g0) (u := hh) (v := hh + 30000) p3
    rw [e4, gb_r]
    exact fin w4 (fun q hq => (f4 q hq).trans (fr3 q hq)) (by omega)
  · rw [if_neg hs]
    have kj : gfJ w3 c1 0 0 = some a.th := by simp [gfJ, gf, gvJ, fr3 c1 m1, h.h1]
    rw [kj, Option.bind_some, Option.bind_some, p3.ck, Option.bind_some]
    obtain ⟨w4, e4, f4, l4⟩ := s_heights (g0 := g0) (u := -a.th - hh - 30000) (v := -a.th - hh) p3
    rw [e4, gb_r]
    exact fin w4 (fun q hq => (f4 q hq).trans (fr3 q hq)) (by omega)
theorem q_WkeepOut (h : pF g0 a b L xs c1 c2 c3 w) {x0 y0 x1 y1 : Int64} {s : Int32} {hh : Int64} : ∃ w', f_W_keepOut g0 c1 x0 y0 x1 y1 s hh c3 w = some (.inr (if dKO x0 y0 x1 y1 s hh then 0 else 1), w') ∧ (dKO x0 y0 x1 y1 s hh → gaJ w' c3 0 = some 1) ∧ (∀ q, q < w.2 → q ≠ a.K → q ≠ c3 → w'.1 q = w.1 q) := by
  by_cases hp : dKO x0 y0 x1 y1 s hh
  · rw [if_pos hp]
    obtain ⟨w1, r1, r2⟩ := q_BkeepYes h hp
    have nK : c3 ≠ a.K := by intro e; have := h.h3; rw [e, h.hK] at this; cases this
    have r3 := (r2 c3 h.l3 nK).trans h.h3
    refine ⟨pO a c3 1 w1, ?_, fun _ => by simp [gaJ, gar, gup, gvJ, updV], fun q h1 h2 h3 => ?_⟩
    · unfold f_W_keepOut
      rw [q_ck1 h, Option.bind_some, r1, gt_r]
      simp [gjoin, q_out r3]
    · simp [gup, h3, r2 q h1 h2]
  · rw [if_neg hp]
    refine ⟨gth w, ?_, fun h' => absurd h' hp, fun _ _ _ _ => rfl⟩
    unfold f_W_keepOut
    rw [q_ck1 h, Option.bind_some, q_BkeepNo hp, gt_l]
    simp
theorem q_isWide {x : Int64} : f_M_isWide g0 x w = some (.inr (if ((-20000) ≤ x ∧ x ≤ 20000) then 1 else 0), w) := by
  unfold f_M_isWide
  simp only [q_within, gb_r, gguard]
  split <;> simp
theorem q_MkeepOut (h : w.1 c2 = some (.inr (7, a.mo))) (hO : w.1 a.m19 = some (.inl (1, 60, a.O))) {x0 y0 x1 y1 : Int64} {s : Int32} {hh : Int64} : ∃ w', f_M_keepOut g0 c2 x0 y0 x1 y1 s hh w = some (.inr (if dKO x0 y0 x1 y1 s hh then 1 else 0), w') ∧ gfI w' c2 7 0 = some (if dKO x0 y0 x1 y1 s hh then 0 else 1) ∧ (∀ q, q ≠ c2 → q ≠ a.m19 → w'.1 q = w.1 q) := by
  have m1 : c2 ≠ a.m19 := by intro e; rw [e, hO] at h; cases h
  have m2 : a.m19 ≠ c2 := Ne.symm m1
  by_cases hp : dKO x0 y0 x1 y1 s hh
  · simp only [if_pos hp]
    obtain ⟨⟨h1, h2, h3, h4, h5, h6⟩, h7, h8⟩ := dKO_iff.mp hp
    generalize hx : f_M_keepOut g0 c2 x0 y0 x1 y1 s hh w = x
    unfold f_M_keepOut at hx
    simp only [q_isWide, q_within, if_pos h1, if_pos h2, if_pos h3, if_pos h4, if_pos h8, gb_r, gjoin, if_neg h5, if_neg h6] at hx
    have hK68 : ∀ (A B : gX Int32), (if s = 0 then A else if s = 1 then A else B) = A := by
      intro A B
      rcases h7 with h7 | h7
      · rw [if_pos h7]
      · by_cases h0 : s = 0
        · rw [if_pos h0]
        · rw [if_neg h0, if_pos h7]
    simp only [show ((1 : Int32) = 0) = False from by simp, if_false, hK68, q_Mthrow0 h, Option.bind_some, q_Mth0, if_true] at hx
    have i0 : ((6 : Int32) * 0).toNatClampNeg = 0 := by decide
    simp [gfI, gfA, gf, gvI, gvA, gup, gsJ, gas, hO, gp, gguard, m1, m2] at hx
    subst hx
    refine ⟨_, rfl, by simp [gfI, gf, gvI], fun q h1 h2 => by simp [h1, h2]⟩
  · simp only [if_neg hp]
    have key : f_M_keepOut g0 c2 x0 y0 x1 y1 s hh w = some (.inr 0, pM a c2 w) := by
      have hp' := mt dKO_iff.mpr hp
      have c10 : ((1 : Int32) = 0) = False := by simp
      have t1 : ((gp w c2 7 0 (.int 1)).bind fun w => (gfI w c2 7 0).bind fun v7 => if v7 = 0 then ((gfI w c2 7 18).bind fun v11 => if v11 = 10 then (gguard ((0 : Int32) = 0 ∨ (0 : Int32) = 1) (some (.inr 0, w)) : gX Int32) else ((gfI w c2 7 18).bind fun v14 => (gfA w c2 7 19).bind fun v16 => (gsJ w v16 (6 * v14) x0).bind fun w => (gfA w c2 7 19).bind fun v19 => (gsJ w v19 ((6 * v14) + 1) y0).bind fun w => (gfA w c2 7 19).bind fun v22 => (gsJ w v22 ((6 * v14) + 2) x1).bind fun w => (gfA w c2 7 19).bind fun v25 => (gsJ w v25 ((6 * v14) + 3) y1).bind fun w => (gfA w c2 7 19).bind fun v28 => (gsJ w v28 ((6 * v14) + 4) (s.toInt64)).bind fun w => (gfA w c2 7 19).bind fun v31 => (gsJ w v31 ((6 * v14) + 5) hh).bind fun w => (gfI w c2 7 18).bind fun v34 => (gp w c2 7 18 (.int (v34 + 1))).bind fun w => gguard ((1 : Int32) = 0 ∨ (1 : Int32) = 1) (some (.inr 1, w)))) else (gguard ((0 : Int32) = 0 ∨ (0 : Int32) = 1) (some (.inr 0, w)))) = some (.inr 0, pM a c2 w) := by
        simp [q_Mthrow h, q_Mthrown, gguard]
      unfold f_M_keepOut
      simp only [q_isWide, q_within, gb_r, gjoin]
      by_cases h1 : (-20000) ≤ x0 ∧ x0 ≤ 20000
      case neg => simp only [if_neg h1, if_true]; exact t1
      by_cases h2 : (-20000) ≤ y0 ∧ y0 ≤ 20000
      case neg => simp only [if_pos h1, if_neg h2, c10, if_false, if_true]; exact t1
      by_cases h3 : (-20000) ≤ x1 ∧ x1 ≤ 20000
      case neg => simp only [if_pos h1, if_pos h2, if_neg h3, c10, if_false, if_true]; exact t1
      by_cases h4 : (-20000) ≤ y1 ∧ y1 ≤ 20000
      case neg => simp only [if_pos h1, if_pos h2, if_pos h3, if_neg h4, c10, if_false, if_true]; exact t1
      by_cases h5 : x1 ≤ x0
      case pos => simp only [if_pos h1, if_pos h2, if_pos h3, if_pos h4, if_pos h5, c10, if_false, if_true]; exact t1
      by_cases h6 : y1 ≤ y0
      case pos => simp only [if_pos h1, if_pos h2, if_pos h3, if_pos h4, if_neg h5, if_pos h6, c10, if_false, if_true]; exact t1
      simp only [if_pos h1, if_pos h2, if_pos h3, if_pos h4, if_neg h5, if_neg h6, c10, if_false]
      by_cases h8 : 0 ≤ hh ∧ hh ≤ 20000
      · have h7 : ¬ (s = 0 ∨ s = 1) := fun h7 => hp' ⟨⟨h1, h2, h3, h4, h5, h6⟩, h7, h8⟩
        have h7a : ¬ s = 0 := fun e => h7 (Or.inl e)
        have h7b : ¬ s = 1 := fun e => h7 (Or.inr e)
        simp only [if_neg h7a, if_neg h7b]
        exact t1
      · by_cases h7a : s = 0
        · simp only [if_pos h7a, if_neg h8, if_true]; exact t1
        · by_cases h7b : s = 1
          · simp only [if_neg h7a, if_pos h7b, if_neg h8, if_true]; exact t1
          · simp only [if_neg h7a, if_neg h7b]; exact t1
    exact ⟨pM a c2 w, key, by simp [gfI, gf, gvI, gup], fun q h1 _ => by simp [gup, h1]⟩
end
end
