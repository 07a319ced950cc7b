section
section
variable {a : pA} {b L : Nat} {xs : Nat → Int32} {c1 c2 c3 : Nat} {w : gW} {g0 : gG}
theorem rdS (h : w.1 b = some (.inl (4, 15, fun j => .int (xs j)))) {i : Int32} (h0 : ¬ i < 0) (h1 : i.toNatClampNeg < 15) : gaI w b i = some (xs i.toNatClampNeg) := by
  simp [gaI, gki, gar, h, h0, h1, gvI, -Int32.not_lt]
theorem galS (h : w.1 b = some (.inl (4, L, fun j => .int (xs j)))) : gal w b = some (nI L) := by
  simp [gal, h]
theorem pF.th (h : pF g0 a b L xs c1 c2 c3 w)   : pF g0 a b L xs c1 c2 c3 (gth w) := ⟨h.hb, h.he, h.h1, h.hB, h.hP, h.hK, h.hX, h.hY, h.h2, h.hX', h.hY', h.hO, h.h3, Nat.lt_succ_of_lt h.lb, Nat.lt_succ_of_lt h.le, Nat.lt_succ_of_lt h.l1, Nat.lt_succ_of_lt h.lK, Nat.lt_succ_of_lt h.lB, Nat.lt_succ_of_lt h.l19, h.nX, Nat.lt_succ_of_lt h.l2, Nat.lt_succ_of_lt h.l3⟩
theorem pF.n2 (h : pF g0 a b L xs c1 c2 c3 w) : b ≠ c2 := by intro e; have := h.hb; rw [e, h.h2] at this; cases this
theorem pF.n3 (h : pF g0 a b L xs c1 c2 c3 w) : b ≠ c3 := by intro e; have := h.hb; rw [e, h.h3] at this; cases this
theorem pF.nB (h : pF g0 a b L xs c1 c2 c3 w) : b ≠ a.B := by intro e; have := h.hb; rw [e, h.hB] at this; cases this
theorem pF.nK (h : pF g0 a b L xs c1 c2 c3 w) : b ≠ a.K := by intro e; have := h.hb; rw [e, h.hK] at this; cases this
theorem pF.n32 (h : pF g0 a b L xs c1 c2 c3 w) : c3 ≠ c2 := by intro e; have := h.h3; rw [e, h.h2] at this; cases this
theorem pF.n2B (h : pF g0 a b L xs c1 c2 c3 w) : c2 ≠ a.B := by intro e; have := h.h2; rw [e, h.hB] at this; cases this
theorem pF.n2K (h : pF g0 a b L xs c1 c2 c3 w) : c2 ≠ a.K := by intro e; have := h.h2; rw [e, h.hK] at this; cases this
theorem pF.nb1 (h : pF g0 a b L xs c1 c2 c3 w) : b ≠ c1 := by intro e; have := h.hb; rw [e, h.h1] at this; cases this
theorem pF.nbx (h : pF g0 a b L xs c1 c2 c3 w) : b ≠ a.cx := by intro e; have := h.hb; rw [e, h.hX] at this; cases this
theorem pF.nby (h : pF g0 a b L xs c1 c2 c3 w) : b ≠ a.cy := by intro e; have := h.hb; rw [e, h.hY] at this; cases this
theorem pF.n21 (h : pF g0 a b L xs c1 c2 c3 w) : c2 ≠ c1 := by intro e; have := h.h2; rw [e, h.h1] at this; cases this
theorem pF.n2x (h : pF g0 a b L xs c1 c2 c3 w) : c2 ≠ a.cx := by intro e; have := h.h2; rw [e, h.hX] at this; cases this
theorem pF.n2y (h : pF g0 a b L xs c1 c2 c3 w) : c2 ≠ a.cy := by intro e; have := h.h2; rw [e, h.hY] at this; cases this
theorem pF.nb10 (h : pF g0 a b L xs c1 c2 c3 w) : b ≠ a.m10 := by intro e; have := h.hb; rw [e, h.hX'] at this; cases this
theorem pF.nb11 (h : pF g0 a b L xs c1 c2 c3 w) : b ≠ a.m11 := by intro e; have := h.hb; rw [e, h.hY'] at this; cases this
theorem pF.nb19 (h : pF g0 a b L xs c1 c2 c3 w) : b ≠ a.m19 := by intro e; have := h.hb; rw [e, h.hO] at this; cases this
theorem pF.n310 (h : pF g0 a b L xs c1 c2 c3 w) : c3 ≠ a.m10 := by intro e; have := h.h3; rw [e, h.hX'] at this; cases this
theorem pF.n311 (h : pF g0 a b L xs c1 c2 c3 w) : c3 ≠ a.m11 := by intro e; have := h.h3; rw [e, h.hY'] at this; cases this
theorem pF.n19 (h : pF g0 a b L xs c1 c2 c3 w) : a.m19 ≠ c3 := by intro e; have := h.hO; rw [e, h.h3] at this; cases this
theorem pF.n19K (h : pF g0 a b L xs c1 c2 c3 w) : a.m19 ≠ a.K := by intro e; have := h.hO; rw [e, h.hK] at this; cases this
theorem pF.q10 (h : pF g0 a b L xs c1 c2 c3 w) : c1 ≠ a.m10 := by intro e; have := h.h1; rw [e, h.hX'] at this; cases this
theorem pF.q11 (h : pF g0 a b L xs c1 c2 c3 w) : c1 ≠ a.m11 := by intro e; have := h.h1; rw [e, h.hY'] at this; cases this
theorem l_thrown {v : Int32} (h : gfI w c2 7 0 = some v) : f_M_thrown g0 c2 w = some (.inr v, w) := by simp [f_M_thrown, h]
theorem ckM {v : Int32} (h : gfI w c2 7 0 = some v) : gck w c2 7 = some () := by
  unfold gfI gf at h
  unfold gck
  split at h
  · rename_i o e
    split at h
    · rename_i e1
      simp [e, e1]
    · simp [gvI] at h
  · simp [gvI] at h

theorem law_t {K2513 K2486 K2502 K2431 K2447 K2320 K2336 K2272 K2220 K2244 K1932 K1949 K1884 K1851 K1868 K1776 K1800 K1604 K1621 K1432 K1449 K1357 K1381 K1048 K1072 K897 K921 K758 K782 K463 K487 K147 : gW → gX Int32} (h : w.1 b = some (.inl (4, 15, fun j => .int (xs j)))) : f_law_L35 g0 b c1 c2 c3 K2513 K2486 K2502 K2431 K2447 K2320 K2336 K2272 K2220 K2244 K1932 K1949 K1884 K1851 K1868 K1776 K1800 K1604 K1621 K1432 K1449 K1357 K1381 K1048 K1072 K897 K921 K758 K782 K463 K487 K147 512 (1 + 14) w = K2513 w := by
  rw [f_law_L35.eq_2, galS h, Option.bind_some, if_pos (by decide)]
set_option maxRecDepth 20000 in
theorem law_1 {K2513 K2486 K2502 K2431 K2447 K2320 K2336 K2272 K2220 K2244 K1932 K1949 K1884 K1851 K1868 K1776 K1800 K1604 K1621 K1432 K1449 K1357 K1381 K1048 K1072 K897 K921 K758 K782 K463 K487 K147 : gW → gX Int32} (h : pF g0 a b L xs c1 c2 c3 w) (hL : L ≤ 15) : ∃ w', f_law_L35 g0 b c1 c2 c3 K2513 K2486 K2502 K2431 K2447 K2320 K2336 K2272 K2220 K2244 K1932 K1949 K1884 K1851 K1868 K1776 K1800 K1604 K1621 K1432 K1449 K1357 K1381 K1048 K1072 K897 K921 K758 K782 K463 K487 K147 513 1 w = K2513 w' := by
  rw [f_law_L35.eq_2, galS h.hb, Option.bind_some]
  by_cases hl : nI L - 14 < 1
  · rw [if_pos hl]; exact ⟨_, rfl⟩
  · rw [if_neg hl]
    have h15 : L = 15 := by
      have : ∀ n, n ≤ 15 → ¬ nI n - 14 < 1 → n = 15 := by decide
      exact this L hL hl
    subst h15
    have r : ∀ {w : gW}, w.1 b = some (.inl (4, 15, fun j => .int (xs j))) → ∀ i : Int32, ¬ i < 0 → i.toNatClampNeg < 15 → gaI w b i = some (xs i.toNatClampNeg) := fun h i h0 h1 => rdS h h0 h1
    rw [r h.hb 1 (by decide) (by decide), Option.bind_some]
    simp only [gjoin]
    have tl : ∀ w', w'.1 b = some (.inl (4, 15, fun j => .int (xs j))) → ∃ w'', f_law_L35 g0 b c1 c2 c3 K2513 K2486 K2502 K2431 K2447 K2320 K2336 K2272 K2220 K2244 K1932 K1949 K1884 K1851 K1868 K1776 K1800 K1604 K1621 K1432 K1449 K1357 K1381 K1048 K1072 K897 K921 K758 K782 K463 K487 K147 512 (1 + 14) w' = K2513 w'' := fun w' h' => ⟨w', law_t h'⟩
    have ht := h.th
    have hbM : ∀ {w' : gW} {e : gE}, w'.1 b = w.1 b → (gup w' c2 e).1 b = some (.inl (4, 15, fun j => .int (xs j))) := fun {w' e} he => by simp [gup, h.n2, he, h.hb]

    by_cases o0 : (xs 1 &&& 31) = 0
    case pos =>
      rw [if_pos (show (xs (1 : Int32).toNatClampNeg &&& 31) = 0 from o0)]
      obtain ⟨w1, e1, e2⟩ := q_Bbody h
      have hm := (e2 c2 h.l2 h.n2B).trans h.h2
      obtain ⟨w2, e3, e4⟩ := q_Mbody (g0 := g0) hm
      rw [q_ck1 h, Option.bind_some, e1, gb_r, q_ckM hm, Option.bind_some, e3, gb_r, if_pos rfl]
      exact tl _ ((e4 b h.n2).trans ((e2 b h.lb h.nB).trans h.hb))
    rw [if_neg (show ¬ (xs (1 : Int32).toNatClampNeg &&& 31) = 0 from o0)]
    by_cases o1 : (xs 1 &&& 31) = 1
    case pos =>
      rw [if_pos (show (xs (1 : Int32).toNatClampNeg &&& 31) = 1 from o1)]
      rw [r h.hb (1 + 1) (by decide) (by decide), Option.bind_some, r h.hb (1 + 2) (by decide) (by decide), Option.bind_some, r h.hb (1 + 3) (by decide) (by decide), Option.bind_some, r h.hb (1 + 4) (by decide) (by decide), Option.bind_some, r h.hb (1 + 5) (by decide) (by decide), Option.bind_some, r h.hb (1 + 6) (by decide) (by decide), Option.bind_some, r h.hb (1 + 7) (by decide) (by decide), Option.bind_some, r h.hb (1 + 8) (by decide) (by decide), Option.bind_some, r h.hb (1 + 9) (by decide) (by decide), Option.bind_some, r h.hb (1 + 10) (by decide) (by decide), Option.bind_some, r h.hb (1 + 11) (by decide) (by decide), Option.bind_some, r h.hb (1 + 12) (by decide) (by decide), Option.bind_some, r h.hb (1 + 13) (by decide) (by decide), Option.bind_some]
      rw [q_Wbox h, gb_r]
      rw [r ht.hb (1 + 1) (by decide) (by decide), Option.bind_some, r ht.hb (1 + 2) (by decide) (by decide), Option.bind_some, r ht.hb (1 + 3) (by decide) (by decide), Option.bind_some, r ht.hb (1 + 4) (by decide) (by decide), Option.bind_some, r ht.hb (1 + 5) (by decide) (by decide), Option.bind_some, r ht.hb (1 + 6) (by decide) (by decide), Option.bind_some, r ht.hb (1 + 7) (by decide) (by decide), Option.bind_some, r ht.hb (1 + 8) (by decide) (by decide), Option.bind_some, r ht.hb (1 + 9) (by decide) (by decide), Option.bind_some, r ht.hb (1 + 10) (by decide) (by decide), Option.bind_some, r ht.hb (1 + 11) (by decide) (by decide), Option.bind_some, r ht.hb (1 + 12) (by decide) (by decide), Option.bind_some, r ht.hb (1 + 13) (by decide) (by decide), Option.bind_some]
      rw [q_ck2 ht, Option.bind_some, q_Mbox ht.h2, gb_r, ckM q_Mthrown, Option.bind_some, l_thrown q_Mthrown, gb_r, if_pos rfl, if_neg (by decide)]
      exact tl _ (hbM rfl)
    rw [if_neg (show ¬ (xs (1 : Int32).toNatClampNeg &&& 31) = 1 from o1)]
    by_cases o2 : (xs 1 &&& 31) = 2
    case pos =>
      rw [if_pos (show (xs (1 : Int32).toNatClampNeg &&& 31) = 2 from o2)]
      rw [r h.hb (1 + 1) (by decide) (by decide), Option.bind_some, r h.hb (1 + 2) (by decide) (by decide), Option.bind_some, r h.hb (1 + 3) (by decide) (by decide), Option.bind_some, r h.hb (1 + 4) (by decide) (by decide), Option.bind_some, r h.hb (1 + 5) (by decide) (by decide), Option.bind_some, r h.hb (1 + 6) (by decide) (by decide), Option.bind_some, r h.hb (1 + 7) (by decide) (by decide), Option.bind_some, r h.hb (1 + 8) (by decide) (by decide), Option.bind_some, r h.hb (1 + 9) (by decide) (by decide), Option.bind_some, r h.hb (1 + 10) (by decide) (by decide), Option.bind_some, r h.hb (1 + 11) (by decide) (by decide), Option.bind_some]
      rw [q_Wcyl h, gb_r]
      rw [r ht.hb (1 + 1) (by decide) (by decide), Option.bind_some, r ht.hb (1 + 2) (by decide) (by decide), Option.bind_some, r ht.hb (1 + 3) (by decide) (by decide), Option.bind_some, r ht.hb (1 + 4) (by decide) (by decide), Option.bind_some, r ht.hb (1 + 5) (by decide) (by decide), Option.bind_some, r ht.hb (1 + 6) (by decide) (by decide), Option.bind_some, r ht.hb (1 + 7) (by decide) (by decide), Option.bind_some, r ht.hb (1 + 8) (by decide) (by decide), Option.bind_some, r ht.hb (1 + 9) (by decide) (by decide), Option.bind_some, r ht.hb (1 + 10) (by decide) (by decide), Option.bind_some, r ht.hb (1 + 11) (by decide) (by decide), Option.bind_some]
      rw [q_ck2 ht, Option.bind_some, q_Mcyl ht.h2, gb_r, ckM q_Mthrown, Option.bind_some, l_thrown q_Mthrown, gb_r, if_pos rfl, if_neg (by decide)]
      exact tl _ (hbM rfl)
    rw [if_neg (show ¬ (xs (1 : Int32).toNatClampNeg &&& 31) = 2 from o2)]
    by_cases o3 : (xs 1 &&& 31) = 3
    case pos =>
      rw [if_pos (show (xs (1 : Int32).toNatClampNeg &&& 31) = 3 from o3)]
      rw [r h.hb (1 + 1) (by decide) (by decide), Option.bind_some, r h.hb (1 + 2) (by decide) (by decide), Option.bind_some, r h.hb (1 + 3) (by decide) (by decide), Option.bind_some, r h.hb (1 + 4) (by decide) (by decide), Option.bind_some]
      obtain ⟨w1, e1, e2, e5⟩ := q_Wcorner h (x := ((xs (1 + 1 : Int32).toNatClampNeg).toInt64 <<< ((32 : Int32).toInt64 &&& 63) ||| (xs (1 + 2 : Int32).toNatClampNeg).toInt64 &&& 4294967295)) (y := ((xs (1 + 3 : Int32).toNatClampNeg).toInt64 <<< ((32 : Int32).toInt64 &&& 63) ||| (xs (1 + 4 : Int32).toNatClampNeg).toInt64 &&& 4294967295))
      rw [e1, gb_r]
      have hb1 := (e5 b h.nb1 h.nbx h.nby h.n3).trans h.hb
      have hm1 := (e5 c2 h.n21 h.n2x h.n2y (Ne.symm h.n32)).trans h.h2
      rw [r hb1 (1 + 1) (by decide) (by decide), Option.bind_some, r hb1 (1 + 2) (by decide) (by decide), Option.bind_some, r hb1 (1 + 3) (by decide) (by decide), Option.bind_some, r hb1 (1 + 4) (by decide) (by decide), Option.bind_some, q_ckM hm1, Option.bind_some]
      have g1 : w1.1 a.m10 = some (.inl (1, 8, a.X')) := (e5 _ (Ne.symm h.q10) h.nX.1 h.nX.2.1 (Ne.symm h.n310)).trans h.hX'
      have g2 : w1.1 a.m11 = some (.inl (1, 8, a.Y')) := (e5 _ (Ne.symm h.q11) h.nX.2.2.1 h.nX.2.2.2 (Ne.symm h.n311)).trans h.hY'
      obtain ⟨w2, k1, k2, k3⟩ := q_Mcorner (g0 := g0) hm1 g1 g2 (x := ((xs (1 + 1 : Int32).toNatClampNeg).toInt64 <<< ((32 : Int32).toInt64 &&& 63) ||| (xs (1 + 2 : Int32).toNatClampNeg).toInt64 &&& 4294967295)) (y := ((xs (1 + 3 : Int32).toNatClampNeg).toInt64 <<< ((32 : Int32).toInt64 &&& 63) ||| (xs (1 + 4 : Int32).toNatClampNeg).toInt64 &&& 4294967295))
      rw [k1, gb_r, ckM k2, Option.bind_some, l_thrown k2, gb_r]
      have hb2 := (k3 b h.n2 h.nb10 h.nb11).trans hb1
      by_cases hp : dPl ((xs (1 + 1 : Int32).toNatClampNeg).toInt64 <<< ((32 : Int32).toInt64 &&& 63) ||| (xs (1 + 2 : Int32).toNatClampNeg).toInt64 &&& 4294967295) ((xs (1 + 3 : Int32).toNatClampNeg).toInt64 <<< ((32 : Int32).toInt64 &&& 63) ||| (xs (1 + 4 : Int32).toNatClampNeg).toInt64 &&& 4294967295)
      · simp only [if_pos hp, if_true]
        have z2 : gaJ w2 c3 0 = some 1 := by
          have := e2 hp
          unfold gaJ gar at *
          rw [k3 c3 h.n32 h.n310 h.n311]
          exact this
        rw [z2, Option.bind_some, if_neg (by decide), if_pos rfl]
        exact tl _ hb2
      · simp only [if_neg hp, if_true]
        rw [if_neg (by decide)]
        exact tl _ hb2
    rw [if_neg (show ¬ (xs (1 : Int32).toNatClampNeg &&& 31) = 3 from o3)]
    by_cases o4 : (xs 1 &&& 31) = 4
    case pos =>
      rw [if_pos (show (xs (1 : Int32).toNatClampNeg &&& 31) = 4 from o4)]
      rw [r h.hb (1 + 1) (by decide) (by decide), Option.bind_some, r h.hb (1 + 2) (by decide) (by decide), Option.bind_some, r h.hb (1 + 3) (by decide) (by decide), Option.bind_some, r h.hb (1 + 4) (by decide) (by decide), Option.bind_some, r h.hb (1 + 5) (by decide) (by decide), Option.bind_some]
      rw [q_Wprism h, gb_r]
      rw [r ht.hb (1 + 1) (by decide) (by decide), Option.bind_some, r ht.hb (1 + 2) (by decide) (by decide), Option.bind_some, r ht.hb (1 + 3) (by decide) (by decide), Option.bind_some, r ht.hb (1 + 4) (by decide) (by decide), Option.bind_some, r ht.hb (1 + 5) (by decide) (by decide), Option.bind_some]
      rw [q_ck2 ht, Option.bind_some, q_Mprism ht.h2, gb_r, ckM q_Mthrown, Option.bind_some, l_thrown q_Mthrown, gb_r, if_pos rfl, if_neg (by decide)]
      exact tl _ (hbM rfl)
    rw [if_neg (show ¬ (xs (1 : Int32).toNatClampNeg &&& 31) = 4 from o4)]
    by_cases o5 : (xs 1 &&& 31) = 5
    case pos =>
      rw [if_pos (show (xs (1 : Int32).toNatClampNeg &&& 31) = 5 from o5)]
      rw [r h.hb (1 + 1) (by decide) (by decide), Option.bind_some, r h.hb (1 + 2) (by decide) (by decide), Option.bind_some, r h.hb (1 + 3) (by decide) (by decide), Option.bind_some, r h.hb (1 + 4) (by decide) (by decide), Option.bind_some, r h.hb (1 + 5) (by decide) (by decide), Option.bind_some, r h.hb (1 + 6) (by decide) (by decide), Option.bind_some, r h.hb (1 + 7) (by decide) (by decide), Option.bind_some, r h.hb (1 + 8) (by decide) (by decide), Option.bind_some, r h.hb (1 + 9) (by decide) (by decide), Option.bind_some, r h.hb (1 + 10) (by decide) (by decide), Option.bind_some, r h.hb (1 + 11) (by decide) (by decide), Option.bind_some, r h.hb (1 + 12) (by decide) (by decide), Option.bind_some]
      rw [q_Wtube h, gb_r]
      rw [r ht.hb (1 + 1) (by decide) (by decide), Option.bind_some, r ht.hb (1 + 2) (by decide) (by decide), Option.bind_some, r ht.hb (1 + 3) (by decide) (by decide), Option.bind_some, r ht.hb (1 + 4) (by decide) (by decide), Option.bind_some, r ht.hb (1 + 5) (by decide) (by decide), Option.bind_some, r ht.hb (1 + 6) (by decide) (by decide), Option.bind_some, r ht.hb (1 + 7) (by decide) (by decide), Option.bind_some, r ht.hb (1 + 8) (by decide) (by decide), Option.bind_some, r ht.hb (1 + 9) (by decide) (by decide), Option.bind_some, r ht.hb (1 + 10) (by decide) (by decide), Option.bind_some, r ht.hb (1 + 11) (by decide) (by decide), Option.bind_some, r ht.hb (1 + 12) (by decide) (by decide), Option.bind_some]
      rw [q_ck2 ht, Option.bind_some, q_Mtube ht.h2, gb_r, ckM q_Mthrown, Option.bind_some, l_thrown q_Mthrown, gb_r, if_pos rfl, if_neg (by decide)]
      exact tl _ (hbM rfl)
    rw [if_neg (show ¬ (xs (1 : Int32).toNatClampNeg &&& 31) = 5 from o5)]
    by_cases o6 : (xs 1 &&& 31) = 6
    case pos =>
      rw [if_pos (show (xs (1 : Int32).toNatClampNeg &&& 31) = 6 from o6)]
      rw [r h.hb (1 + 1) (by decide) (by decide), Option.bind_some, r h.hb (1 + 2) (by decide) (by decide), Option.bind_some]
      rw [q_Wjoin h, gb_r]
      rw [r ht.hb (1 + 1) (by decide) (by decide), Option.bind_some, r ht.hb (1 + 2) (by decide) (by decide), Option.bind_some]
      rw [q_ck2 ht, Option.bind_some, q_Mjoin ht.h2, gb_r, ckM q_Mthrown, Option.bind_some, l_thrown q_Mthrown, gb_r, if_pos rfl, if_neg (by decide)]
      exact tl _ (hbM rfl)
    rw [if_neg (show ¬ (xs (1 : Int32).toNatClampNeg &&& 31) = 6 from o6)]
    by_cases o7 : (xs 1 &&& 31) = 7
    case pos =>
      rw [if_pos (show (xs (1 : Int32).toNatClampNeg &&& 31) = 7 from o7)]
      rw [r h.hb (1 + 1) (by decide) (by decide), Option.bind_some, r h.hb (1 + 2) (by decide) (by decide), Option.bind_some, r h.hb (1 + 3) (by decide) (by decide), Option.bind_some, r h.hb (1 + 4) (by decide) (by decide), Option.bind_some, r h.hb (1 + 5) (by decide) (by decide), Option.bind_some, r h.hb (1 + 6) (by decide) (by decide), Option.bind_some, r h.hb (1 + 7) (by decide) (by decide), Option.bind_some]
      rw [q_Wplace h, gb_r]
      rw [r ht.hb (1 + 1) (by decide) (by decide), Option.bind_some, r ht.hb (1 + 2) (by decide) (by decide), Option.bind_some, r ht.hb (1 + 3) (by decide) (by decide), Option.bind_some, r ht.hb (1 + 4) (by decide) (by decide), Option.bind_some, r ht.hb (1 + 5) (by decide) (by decide), Option.bind_some, r ht.hb (1 + 6) (by decide) (by decide), Option.bind_some, r ht.hb (1 + 7) (by decide) (by decide), Option.bind_some]
      rw [q_ck2 ht, Option.bind_some, q_Mplace ht.h2, gb_r, ckM q_Mthrown, Option.bind_some, l_thrown q_Mthrown, gb_r, if_pos rfl, if_neg (by decide)]
      exact tl _ (hbM rfl)
    rw [if_neg (show ¬ (xs (1 : Int32).toNatClampNeg &&& 31) = 7 from o7)]
    by_cases o8 : (xs 1 &&& 31) = 8
    case pos =>
      rw [if_pos (show (xs (1 : Int32).toNatClampNeg &&& 31) = 8 from o8)]
      rw [r h.hb (1 + 1) (by decide) (by decide), Option.bind_some, r h.hb (1 + 2) (by decide) (by decide), Option.bind_some, r h.hb (1 + 3) (by decide) (by decide), Option.bind_some, r h.hb (1 + 4) (by decide) (by decide), Option.bind_some, r h.hb (1 + 5) (by decide) (by decide), Option.bind_some, r h.hb (1 + 6) (by decide) (by decide), Option.bind_some, r h.hb (1 + 7) (by decide) (by decide), Option.bind_some]
      rw [q_Wmove h, gb_r]
      rw [r ht.hb (1 + 1) (by decide) (by decide), Option.bind_some, r ht.hb (1 + 2) (by decide) (by decide), Option.bind_some, r ht.hb (1 + 3) (by decide) (by decide), Option.bind_some, r ht.hb (1 + 4) (by decide) (by decide), Option.bind_some, r ht.hb (1 + 5) (by decide) (by decide), Option.bind_some, r ht.hb (1 + 6) (by decide) (by decide), Option.bind_some, r ht.hb (1 + 7) (by decide) (by decide), Option.bind_some]
      rw [q_ck2 ht, Option.bind_some, q_Mmove ht.h2, gb_r, ckM q_Mthrown, Option.bind_some, l_thrown q_Mthrown, gb_r, if_pos rfl, if_neg (by decide)]
      exact tl _ (hbM rfl)
    rw [if_neg (show ¬ (xs (1 : Int32).toNatClampNeg &&& 31) = 8 from o8)]
    by_cases o9 : (xs 1 &&& 31) = 9
    case pos =>
      rw [if_pos (show (xs (1 : Int32).toNatClampNeg &&& 31) = 9 from o9)]
      rw [r h.hb (1 + 1) (by decide) (by decide), Option.bind_some, r h.hb (1 + 2) (by decide) (by decide), Option.bind_some]
      rw [q_Wclash h, gb_r]
      rw [r ht.hb (1 + 1) (by decide) (by decide), Option.bind_some, r ht.hb (1 + 2) (by decide) (by decide), Option.bind_some]
      rw [q_ck2 ht, Option.bind_some, q_Mclash ht.h2, gb_r, ckM q_Mthrown, Option.bind_some, l_thrown q_Mthrown, gb_r, if_pos rfl, if_neg (by decide)]
      exact tl _ (hbM rfl)
    rw [if_neg (show ¬ (xs (1 : Int32).toNatClampNeg &&& 31) = 9 from o9)]
    by_cases o10 : (xs 1 &&& 31) = 10
    case pos =>
      rw [if_pos (show (xs (1 : Int32).toNatClampNeg &&& 31) = 10 from o10)]
      rw [q_ck1 h, Option.bind_some, q_Bclashes h, gb_r, q_ck2 h, Option.bind_some, q_Mclashes h.h2, gb_r, if_pos rfl]
      exact tl _ (hbM rfl)
    rw [if_neg (show ¬ (xs (1 : Int32).toNatClampNeg &&& 31) = 10 from o10)]
    by_cases o11 : (xs 1 &&& 31) = 11
    case pos =>
      rw [if_pos (show (xs (1 : Int32).toNatClampNeg &&& 31) = 11 from o11)]
      rw [r h.hb (1 + 1) (by decide) (by decide), Option.bind_some, r h.hb (1 + 2) (by decide) (by decide), Option.bind_some, q_Wpair h]
      by_cases hp : 0 ≤ xs (1 + 2 : Int32).toNatClampNeg ∧ xs (1 + 2 : Int32).toNatClampNeg < 2
      · rw [if_pos hp, gb_r]
        have hb1 : (pO a c3 (-1) w).1 b = some (.inl (4, 15, fun j => .int (xs j))) := by simp [gup, h.n3, h.hb]
        have hm1 : (pO a c3 (-1) w).1 c2 = some (.inr (7, a.mo)) := by simp [gup, Ne.symm h.n32, h.h2]
        rw [r hb1 (1 + 1) (by decide) (by decide), Option.bind_some, r hb1 (1 + 2) (by decide) (by decide), Option.bind_some, q_ckM hm1, Option.bind_some, q_Mpair hm1, if_pos hp, gb_r, ckM q_Mth0, Option.bind_some, l_thrown q_Mth0, gb_r, if_pos rfl, if_pos rfl]
        have z2 : gaJ (pM0 a c2 (pO a c3 (-1) w)) c3 0 = some (-1) := by simp [gaJ, gar, gup, h.n32, gvJ, updV]
        rw [z2, Option.bind_some, if_pos (by decide)]
        exact tl _ (by simp [gup, h.n2, h.n3, h.hb])
      · rw [if_neg hp, gb_r, r ht.hb (1 + 1) (by decide) (by decide), Option.bind_some, r ht.hb (1 + 2) (by decide) (by decide), Option.bind_some, q_ck2 ht, Option.bind_some, q_Mpair ht.h2, if_neg hp, gb_r, ckM q_Mthrown, Option.bind_some, l_thrown q_Mthrown, gb_r, if_pos rfl, if_neg (by decide)]
        exact tl _ (hbM rfl)
    rw [if_neg (show ¬ (xs (1 : Int32).toNatClampNeg &&& 31) = 11 from o11)]
    by_cases o12 : (xs 1 &&& 31) = 12
    case pos =>
      rw [if_pos (show (xs (1 : Int32).toNatClampNeg &&& 31) = 12 from o12)]
      rw [r h.hb (1 + 1) (by decide) (by decide), Option.bind_some, r h.hb (1 + 2) (by decide) (by decide), Option.bind_some, r h.hb (1 + 3) (by decide) (by decide), Option.bind_some, r h.hb (1 + 4) (by decide) (by decide), Option.bind_some, r h.hb (1 + 5) (by decide) (by decide), Option.bind_some, r h.hb (1 + 6) (by decide) (by decide), Option.bind_some, r h.hb (1 + 7) (by decide) (by decide), Option.bind_some, r h.hb (1 + 8) (by decide) (by decide), Option.bind_some, r h.hb (1 + 9) (by decide) (by decide), Option.bind_some, r h.hb (1 + 10) (by decide) (by decide), Option.bind_some, r h.hb (1 + 11) (by decide) (by decide), Option.bind_some]
      obtain ⟨w1, e1, e2, e3⟩ := q_WkeepOut h (x0 := ((xs (1 + 1 : Int32).toNatClampNeg).toInt64 <<< ((32 : Int32).toInt64 &&& 63) ||| (xs (1 + 2 : Int32).toNatClampNeg).toInt64 &&& 4294967295)) (y0 := ((xs (1 + 3 : Int32).toNatClampNeg).toInt64 <<< ((32 : Int32).toInt64 &&& 63) ||| (xs (1 + 4 : Int32).toNatClampNeg).toInt64 &&& 4294967295)) (x1 := ((xs (1 + 5 : Int32).toNatClampNeg).toInt64 <<< ((32 : Int32).toInt64 &&& 63) ||| (xs (1 + 6 : Int32).toNatClampNeg).toInt64 &&& 4294967295)) (y1 := ((xs (1 + 7 : Int32).toNatClampNeg).toInt64 <<< ((32 : Int32).toInt64 &&& 63) ||| (xs (1 + 8 : Int32).toNatClampNeg).toInt64 &&& 4294967295)) (s := xs (1 + 9 : Int32).toNatClampNeg) (hh := ((xs (1 + 10 : Int32).toNatClampNeg).toInt64 <<< ((32 : Int32).toInt64 &&& 63) ||| (xs (1 + 11 : Int32).toNatClampNeg).toInt64 &&& 4294967295))
      rw [e1, gb_r]
      have hb1 := (e3 b h.lb h.nK h.n3).trans h.hb
      have hm1 := (e3 c2 h.l2 h.n2K (Ne.symm h.n32)).trans h.h2
      rw [r hb1 (1 + 1) (by decide) (by decide), Option.bind_some, r hb1 (1 + 2) (by decide) (by decide), Option.bind_some, r hb1 (1 + 3) (by decide) (by decide), Option.bind_some, r hb1 (1 + 4) (by decide) (by decide), Option.bind_some, r hb1 (1 + 5) (by decide) (by decide), Option.bind_some, r hb1 (1 + 6) (by decide) (by decide), Option.bind_some, r hb1 (1 + 7) (by decide) (by decide), Option.bind_some, r hb1 (1 + 8) (by decide) (by decide), Option.bind_some, r hb1 (1 + 9) (by decide) (by decide), Option.bind_some, r hb1 (1 + 10) (by decide) (by decide), Option.bind_some, r hb1 (1 + 11) (by decide) (by decide), Option.bind_some, q_ckM hm1, Option.bind_some]
      have g1 : w1.1 a.m19 = some (.inl (1, 60, a.O)) := (e3 _ h.l19 h.n19K h.n19).trans h.hO
      obtain ⟨w2, k1, k2, k3⟩ := q_MkeepOut (g0 := g0) hm1 g1 (x0 := ((xs (1 + 1 : Int32).toNatClampNeg).toInt64 <<< ((32 : Int32).toInt64 &&& 63) ||| (xs (1 + 2 : Int32).toNatClampNeg).toInt64 &&& 4294967295)) (y0 := ((xs (1 + 3 : Int32).toNatClampNeg).toInt64 <<< ((32 : Int32).toInt64 &&& 63) ||| (xs (1 + 4 : Int32).toNatClampNeg).toInt64 &&& 4294967295)) (x1 := ((xs (1 + 5 : Int32).toNatClampNeg).toInt64 <<< ((32 : Int32).toInt64 &&& 63) ||| (xs (1 + 6 : Int32).toNatClampNeg).toInt64 &&& 4294967295)) (y1 := ((xs (1 + 7 : Int32).toNatClampNeg).toInt64 <<< ((32 : Int32).toInt64 &&& 63) ||| (xs (1 + 8 : Int32).toNatClampNeg).toInt64 &&& 4294967295)) (s := xs (1 + 9 : Int32).toNatClampNeg) (hh := ((xs (1 + 10 : Int32).toNatClampNeg).toInt64 <<< ((32 : Int32).toInt64 &&& 63) ||| (xs (1 + 11 : Int32).toNatClampNeg).toInt64 &&& 4294967295))
      rw [k1, gb_r, ckM k2, Option.bind_some, l_thrown k2, gb_r]
      have hb2 := (k3 b h.n2 h.nb19).trans hb1
      by_cases hp : dKO ((xs (1 + 1 : Int32).toNatClampNeg).toInt64 <<< ((32 : Int32).toInt64 &&& 63) ||| (xs (1 + 2 : Int32).toNatClampNeg).toInt64 &&& 4294967295) ((xs (1 + 3 : Int32).toNatClampNeg).toInt64 <<< ((32 : Int32).toInt64 &&& 63) ||| (xs (1 + 4 : Int32).toNatClampNeg).toInt64 &&& 4294967295) ((xs (1 + 5 : Int32).toNatClampNeg).toInt64 <<< ((32 : Int32).toInt64 &&& 63) ||| (xs (1 + 6 : Int32).toNatClampNeg).toInt64 &&& 4294967295) ((xs (1 + 7 : Int32).toNatClampNeg).toInt64 <<< ((32 : Int32).toInt64 &&& 63) ||| (xs (1 + 8 : Int32).toNatClampNeg).toInt64 &&& 4294967295) (xs (1 + 9 : Int32).toNatClampNeg) ((xs (1 + 10 : Int32).toNatClampNeg).toInt64 <<< ((32 : Int32).toInt64 &&& 63) ||| (xs (1 + 11 : Int32).toNatClampNeg).toInt64 &&& 4294967295)
      · simp only [if_pos hp, if_true]
        have z2 : gaJ w2 c3 0 = some 1 := by
          have := e2 hp
          unfold gaJ gar at *
          rw [k3 c3 h.n32 (Ne.symm h.n19)]
          exact this
        rw [z2, Option.bind_some, if_neg (by decide), if_pos rfl]
        exact tl _ hb2
      · simp only [if_neg hp, if_true]
        rw [if_neg (by decide)]
        exact tl _ hb2
    rw [if_neg (show ¬ (xs (1 : Int32).toNatClampNeg &&& 31) = 12 from o12)]
    by_cases o13 : (xs 1 &&& 31) = 13
    case pos =>
      rw [if_pos (show (xs (1 : Int32).toNatClampNeg &&& 31) = 13 from o13)]
      rw [r h.hb (1 + 1) (by decide) (by decide), Option.bind_some, q_ck1 h, Option.bind_some, q_Bbreaks h, gb_r, r h.hb (1 + 1) (by decide) (by decide), Option.bind_some, q_ck2 h, Option.bind_some, q_Mbreaks h.h2, gb_r, if_pos rfl]
      exact tl _ (hbM rfl)
    rw [if_neg (show ¬ (xs (1 : Int32).toNatClampNeg &&& 31) = 13 from o13)]
    by_cases o14 : (xs 1 &&& 31) = 14
    case pos =>
      rw [if_pos (show (xs (1 : Int32).toNatClampNeg &&& 31) = 14 from o14)]
      rw [r h.hb (1 + 1) (by decide) (by decide), Option.bind_some, r h.hb (1 + 2) (by decide) (by decide), Option.bind_some]
      rw [q_Wbound h, gb_r]
      rw [r ht.hb (1 + 1) (by decide) (by decide), Option.bind_some, r ht.hb (1 + 2) (by decide) (by decide), Option.bind_some]
      rw [q_ck2 ht, Option.bind_some, q_Mbound ht.h2, gb_r, ckM q_Mthrown, Option.bind_some, l_thrown q_Mthrown, gb_r, if_pos rfl, if_neg (by decide)]
      exact tl _ (hbM rfl)
    rw [if_neg (show ¬ (xs (1 : Int32).toNatClampNeg &&& 31) = 14 from o14)]
    by_cases o15 : (xs 1 &&& 31) = 15
    case pos =>
      rw [if_pos (show (xs (1 : Int32).toNatClampNeg &&& 31) = 15 from o15)]
      rw [r h.hb (1 + 1) (by decide) (by decide), Option.bind_some, r h.hb (1 + 2) (by decide) (by decide), Option.bind_some, r h.hb (1 + 3) (by decide) (by decide), Option.bind_some, r h.hb (1 + 4) (by decide) (by decide), Option.bind_some, q_Wsection h]
      by_cases hp : 0 ≤ xs (1 + 4 : Int32).toNatClampNeg ∧ xs (1 + 4 : Int32).toNatClampNeg < 6
      · rw [if_pos hp, gb_r]
        have hb1 : (pO a c3 (-1) w).1 b = some (.inl (4, 15, fun j => .int (xs j))) := by simp [gup, h.n3, h.hb]
        have hm1 : (pO a c3 (-1) w).1 c2 = some (.inr (7, a.mo)) := by simp [gup, Ne.symm h.n32, h.h2]
        rw [r hb1 (1 + 1) (by decide) (by decide), Option.bind_some, r hb1 (1 + 2) (by decide) (by decide), Option.bind_some, r hb1 (1 + 3) (by decide) (by decide), Option.bind_some, r hb1 (1 + 4) (by decide) (by decide), Option.bind_some, q_ckM hm1, Option.bind_some, q_Msection hm1, if_pos hp, gb_r, ckM q_Mth0, Option.bind_some, l_thrown q_Mth0, gb_r, if_pos rfl, if_pos rfl]
        have z2 : gaJ (pM0 a c2 (pO a c3 (-1) w)) c3 0 = some (-1) := by simp [gaJ, gar, gup, h.n32, gvJ, updV]
        rw [z2, Option.bind_some, if_pos (by decide)]
        exact tl _ (by simp [gup, h.n2, h.n3, h.hb])
      · rw [if_neg hp, gb_r, r ht.hb (1 + 1) (by decide) (by decide), Option.bind_some, r ht.hb (1 + 2) (by decide) (by decide), Option.bind_some, r ht.hb (1 + 3) (by decide) (by decide), Option.bind_some, r ht.hb (1 + 4) (by decide) (by decide), Option.bind_some, q_ck2 ht, Option.bind_some, q_Msection ht.h2, if_neg hp, gb_r, ckM q_Mthrown, Option.bind_some, l_thrown q_Mthrown, gb_r, if_pos rfl, if_neg (by decide)]
        exact tl _ (hbM rfl)
    rw [if_neg (show ¬ (xs (1 : Int32).toNatClampNeg &&& 31) = 15 from o15)]
    by_cases o16 : (xs 1 &&& 31) = 16
    case pos =>
      rw [if_pos (show (xs (1 : Int32).toNatClampNeg &&& 31) = 16 from o16)]
      rw [r h.hb (1 + 1) (by decide) (by decide), Option.bind_some]
      rw [q_Wmass h, gb_r]
      rw [r ht.hb (1 + 1) (by decide) (by decide), Option.bind_some]
      rw [q_ck2 ht, Option.bind_some, q_Mmass ht.h2, gb_r, ckM q_Mthrown, Option.bind_some, l_thrown q_Mthrown, gb_r, if_pos rfl, if_neg (by decide)]
      exact tl _ (hbM rfl)
    rw [if_neg (show ¬ (xs (1 : Int32).toNatClampNeg &&& 31) = 16 from o16)]
    exact tl _ h.hb
end
end
