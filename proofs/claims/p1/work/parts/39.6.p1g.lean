section
section
theorem gb2_r {β : Type} {o : Nat} {w : gW} {K : Nat → gW → Option β} : gb2f (some (o, w)) K = K o w := rfl
theorem q_cell {g0 : gG} {b L : Nat} {xs : Nat → Int32} {w : gW} (h : w.1 b = some (.inl (4, L, fun j => .int (xs j)))) (hL : L ≤ 15) : ∃ v, f_W_cell g0 b 0 w = some (.inr v, w) := by
  unfold f_W_cell
  rw [galS h, Option.bind_some]
  simp only [gjoin]
  split
  · exact ⟨_, rfl⟩
  · rename_i hl
    have h0 : 0 < L := by
      have : ∀ n, n ≤ 15 → ¬ nI n ≤ 0 → 0 < n := by decide
      exact this L hL hl
    have : gaI w b 0 = some (xs 0) := by
      have e : (0 : Int32).toNatClampNeg = 0 := by decide
      simp [gaI, gki, gar, h, gvI, h0]
    rw [this]
    exact ⟨_, rfl⟩
set_option maxRecDepth 20000 in
theorem p1_pure (d mi n b L : Nat) (xs : Nat → Int32) (hL : L ≤ 15) (hdb : d ≠ b) (hb : b < n) (hd : d < n) : ∃ w1, f_law (d, mi) b (gw0 b L d n xs) = some (.inr 1, w1) := by
  have b0 : (gw0 b L d n xs).1 b = some (.inl (4, L, fun j => .int (xs j))) := by simp [gw0]
  have d0 : (gw0 b L d n xs).1 d = some (.inl (5, 0, fun _ => .null)) := by simp [gw0, hdb]
  have n0 : (gw0 b L d n xs).2 = n := rfl
  generalize gw0 b L d n xs = w0 at b0 d0 n0 ⊢
  generalize hw1 : gpush w0 (.inr (0, [.long 0, .null, .null, .null, .null, .null, .int 0, .null, .null, .null])) = w1
  have a1 : w1.1 n = some (.inr (0, [.long 0, .null, .null, .null, .null, .null, .int 0, .null, .null, .null])) := by rw [← hw1]; simp [gpush, n0]
  have f1 : ∀ q, q < n → w1.1 q = w0.1 q := by
    intro q hq
    have : q ≠ w0.2 := by omega
    rw [← hw1]; simp [gpush, this]
  have l1 : w1.2 = n + 1 := by rw [← hw1]; simp [gpush, n0]
  have b1 := (f1 b hb).trans b0
  have d1 := (f1 d hd).trans d0
  obtain ⟨v5, e5⟩ := q_cell (g0 := (d, mi)) b1 hL
  obtain ⟨w2, th, B, P, K, cx, cy, rel, fi, se, X, Y, e6, a2, hB, hP, hK, hX, hY, f2, l2, lB, lP, lK, lx, ly, gB, gK⟩ := i_B (g0 := (d, mi)) (b := b) (L := L) (xs := xs) (x := v5.toInt64) a1 (by omega)
  have b2 := (f2 b (by omega) (by omega)).trans b1
  have d2 := (f2 d (by omega) (by omega)).trans d1
  generalize hw3 : gpush w2 (.inr (7, [.int 0, .long 0, .int 0, .null, .null, .null, .null, .null, .null, .int 0, .null, .null, .int 0, .null, .null, .null, .null, .null, .int 0, .null, .null, .null, .null, .null, .null, .null, .null])) = w3
  have a3 : w3.1 w2.2 = some (.inr (7, [.int 0, .long 0, .int 0, .null, .null, .null, .null, .null, .null, .int 0, .null, .null, .int 0, .null, .null, .null, .null, .null, .int 0, .null, .null, .null, .null, .null, .null, .null, .null])) := by rw [← hw3]; simp [gpush]
  have f3 : ∀ q, q < w2.2 → w3.1 q = w2.1 q := by
    intro q hq
    have : q ≠ w2.2 := by omega
    rw [← hw3]; simp [gpush, this]
  have l3 : w3.2 = w2.2 + 1 := by rw [← hw3]; rfl
  have b3 := (f3 b (by omega)).trans b2
  obtain ⟨v13, e13⟩ := q_cell (g0 := (d, mi)) b3 hL
  obtain ⟨w4, tm, m3, m4, m5, m6, m7, m8, m10, m11, m13, m14, m15, m16, m17, m19, m20, m21, m22, m23, m24, m25, m26, X', Y', O, e14, a4, hX', hY', hO, f4, l4, g10, g11, g19, lt10, lt11⟩ := i_M (g0 := (d, mi)) (x := v13.toInt64) a3 (by omega)
  have fr : ∀ q, q < w2.2 → w4.1 q = w2.1 q := fun q hq => (f4 q (by omega) (by omega)).trans (f3 q hq)
  have e15 : gna w4 1 1 1 (.long 0) = some (w4.2, gpush w4 (.inl (1, 1, fun _ => .long 0))) := by
    unfold gna
    rw [if_neg (by decide)]
    rfl
  generalize hw5 : gpush w4 (.inl (1, 1, fun _ => .long 0)) = w5 at e15
  have f5 : ∀ q, q < w4.2 → w5.1 q = w4.1 q := by
    intro q hq
    have : q ≠ w4.2 := by omega
    rw [← hw5]; simp [gpush, this]
  have l5 : w5.2 = w4.2 + 1 := by rw [← hw5]; rfl
  have a5 : w5.1 w4.2 = some (.inl (1, 1, fun _ => .long 0)) := by rw [← hw5]; simp [gpush]
  have fr5 : ∀ q, q < w2.2 → w5.1 q = w2.1 q := fun q hq => (f5 q (by omega)).trans (fr q hq)
  have hpF : pF (d, mi) (fun k => match k with | 0 => B | 1 => P | 2 => K | 3 => cx | 4 => cy | 5 => rel | 6 => fi | 7 => se | 8 => m3 | 9 => m4 | 10 => m5 | 11 => m6 | 12 => m7 | 13 => m8 | 14 => m10 | 15 => m11 | 16 => m13 | 17 => m14 | 18 => m15 | 19 => m16 | 20 => m17 | 21 => m19 | 22 => m20 | 23 => m21 | 24 => m22 | 25 => m23 | 26 => m24 | 27 => m25 | _ => m26, fun k => match k with | 0 => th | _ => tm, fun k => match k with | 0 => X | 1 => Y | 2 => fun _ => .long 0 | 3 => X' | 4 => Y' | _ => O) b L xs n w2.2 w4.2 w5 :=
    ⟨(fr5 b (by omega)).trans b2, (fr5 d (by omega)).trans d2, (fr5 n (by omega)).trans a2, (fr5 B lB).trans hB, (fr5 P lP).trans hP, (fr5 K lK).trans hK, (fr5 cx lx).trans hX, (fr5 cy ly).trans hY, (f5 _ (by omega)).trans a4, (f5 _ lt10).trans hX', (f5 _ lt11).trans hY', (f5 _ g19).trans hO, a5, by omega, (show d < w5.2 by omega), by omega, (show K < w5.2 by omega), (show B < w5.2 by omega), (show m19 < w5.2 by omega), ⟨(show m10 ≠ cx by omega), (show m10 ≠ cy by omega), (show m11 ≠ cx by omega), (show m11 ≠ cy by omega)⟩, by omega, by omega⟩
  have e0 : gnw w0 0 [.long 0, .null, .null, .null, .null, .null, .int 0, .null, .null, .null] = some (n, w1) := by unfold gnw; rw [n0, hw1]
  have e12 : gnw w2 7 [.int 0, .long 0, .int 0, .null, .null, .null, .null, .null, .null, .int 0, .null, .null, .int 0, .null, .null, .null, .null, .null, .int 0, .null, .null, .null, .null, .null, .null, .null, .null] = some (w2.2, w3) := by unfold gnw; rw [hw3]
  obtain ⟨w', hw'⟩ := law_1 hpF hL
  rw [f_law, e0, gb2_r, e5, gb_r, e6, gb_r, e12, gb2_r, e13, gb_r, e14, gb_r, e15, gb2_r]
  refine ⟨w', Eq.trans hw' ?_⟩
  simp [gguard]
end
end
