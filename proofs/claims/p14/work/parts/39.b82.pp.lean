section
theorem y_b2 {β : Type} {o : Nat} {w : gW} {K : Nat → gW → Option β} : gb2f (some (o, w)) K = K o w := rfl
theorem y_cell {g0 : gG} {b L : Nat} {xs : Nat → Int32} {w : gW} (h : w.1 b = some (.inl (4, L, fun j => .int (xs j)))) (hL : L ≤ 7169) : ∃ v, f_W_cell g0 b 0 w = some (.inr v, w) := by
  have hg : gal w b = some (nI L) := by simp [gal, h]
  unfold f_W_cell
  rw [hg, Option.bind_some]
  simp only [gjoin]
  split
  · exact ⟨_, rfl⟩
  · rename_i hl
    have h0 : 0 < L := by
      have e1 : (nI L).toInt = L := by rw [nI, Int32.toInt_ofNat_of_lt (by omega)]
      rw [Int32.le_iff_toInt_le, e1, Int32.toInt_zero] at hl
      omega
    have : gaI w b 0 = some (xs 0) := by
      have e : (0 : Int32).toNatClampNeg = 0 := by decide
      simp [gaI, gki, gar, h, gvI, h0]
    rw [this]
    exact ⟨_, rfl⟩
def gIni (d : Nat) : gΓ := (fun q => if q = d then some Ty.mty else none, gRR, fun _ => false)
theorem gIni.T {d q : Nat} : (gIni d).T q = if q = d then some Ty.mty else none := rfl
theorem gMod_m {a0 n q : Nat} {t : Ty} (h : (gMod a0 n).T q = some t) : (t.1 = 8 → q = a0) ∧ t.1 ≠ 1 ∧ (q = a0 ∨ (n ≤ q ∧ q < n + 21)) := by
  rcases gMod_inv h with ⟨a, b⟩ | ⟨a, b⟩ | ⟨a, b⟩ | ⟨a, b⟩ | ⟨a, b⟩ | ⟨a, b⟩ | ⟨a, b⟩ | ⟨a, b⟩ | ⟨a, b⟩ | ⟨a, b⟩ | ⟨a, b⟩ | ⟨a, b⟩ | ⟨a, b⟩ | ⟨a, b⟩ | ⟨a, b⟩ | ⟨a, b⟩ | ⟨a, b⟩ | ⟨a, b⟩ | ⟨a, b⟩ | ⟨a, b⟩ | ⟨a, b⟩ | ⟨a, b⟩
  · subst a b
    exact ⟨fun _ => rfl, by decide, Or.inl rfl⟩
  all_goals
    subst a b
    exact ⟨fun e => by simp at e, by simp, Or.inr ⟨by omega, by omega⟩⟩
set_option maxRecDepth 20000 in
set_option maxHeartbeats 1000000 in
theorem p14_pure (d mi n b L : Nat) (xs : Nat → Int32) (hL : L ≤ 7169) (hdb : d ≠ b) (hb : b < n) (hd : d < n) : ∃ w1, f_law (d, mi) b (gw0 b L d n xs) = some (.inr 1, w1) := by
  have b0 : (gw0 b L d n xs).1 b = some (.inl (4, L, fun j => .int (xs j))) := by simp [gw0]
  have d0 : (gw0 b L d n xs).1 d = some (.inl (5, 0, fun _ => .null)) := by simp [gw0, hdb]
  have n0 : (gw0 b L d n xs).2 = n := rfl
  generalize gw0 b L d n xs = w0 at b0 d0 n0 ⊢
  generalize hw1 : gpush w0 (.inr (0, [.long 0, .null, .null, .null, .null, .null, .int 0, .null, .null, .null])) = w1
  have a1 : w1.1 n = some (.inr (0, [.long 0, .null, .null, .null, .null, .null, .int 0, .null, .null, .null])) := by rw [← hw1]; simp [gpush, n0]
  have f1 : ∀ q, q < n → w1.1 q = w0.1 q := by
    intro q hq
    have : q ≠ w0.2 := by omega
    rw [← hw1]; simp [gpush, this]
  have l1 : w1.2 = n + 1 := by rw [← hw1]; simp [gpush, n0]
  have b1 := (f1 b hb).trans b0
  obtain ⟨v5, e5⟩ := y_cell (g0 := (d, mi)) b1 hL
  have iI : gIv (gIni d) w0 w1 := by
    refine ⟨fun q t h => ?_, fun q t h => ?_, by omega, fun q h1 h2 => f1 q (by omega), fun _ _ _ h => by cases h⟩
    · rw [gIni.T] at h
      split at h
      · rename_i e
        cases h
        rw [e]
        exact ⟨⟨_, (f1 d hd).trans d0, rfl⟩, fun e => by cases e⟩
      · cases h
    · rw [gIni.T] at h
      split at h
      · omega
      · cases h
  obtain ⟨w2, Γ1, e6, iB, cB, l2⟩ := c_B (g0 := (d, mi)) (a0 := n) (x := v5.toInt64) iI rfl (fun _ => rfl) (by rw [gIni.T, if_pos rfl]) (by rw [gIni.T, if_neg (by omega)]) (by omega) (by omega) a1
  obtain ⟨k1, k2, k3, k4, k5⟩ := cB
  have tb : (gIns Γ1 n Ty.top).T b = none := by
    rw [gIns.T, if_neg (by omega), k1 b (by omega) (by omega), gIni.T, if_neg (Ne.symm hdb)]
  have td : (gIns Γ1 n Ty.top).T d = some Ty.mty := by
    rw [gIns.T, if_neg (by omega), k1 d (by omega) (by omega), gIni.T, if_pos rfl]
  have b2 := (iB.fr b (by omega) tb).trans b0
  generalize hw3 : gpush w2 (.inr (7, [.int 0, .long 0, .int 0, .null, .null, .null, .null, .null, .null, .int 0, .null, .null, .int 0, .null, .null, .null, .null, .null, .int 0, .null, .null, .null, .null, .null, .null, .null, .null])) = w3
  have a3 : w3.1 w2.2 = some (.inr (7, [.int 0, .long 0, .int 0, .null, .null, .null, .null, .null, .null, .int 0, .null, .null, .int 0, .null, .null, .null, .null, .null, .int 0, .null, .null, .null, .null, .null, .null, .null, .null])) := by rw [← hw3]; simp [gpush]
  have f3 : ∀ q, q < w2.2 → w3.1 q = w2.1 q := by
    intro q hq
    have : q ≠ w2.2 := by omega
    rw [← hw3]; simp [gpush, this]
  have l3 : w3.2 = w2.2 + 1 := by rw [← hw3]; rfl
  have b3 := (f3 b (by omega)).trans b2
  obtain ⟨v13, e13⟩ := y_cell (g0 := (d, mi)) b3 hL
  obtain ⟨w4, tm, e14, a4, m0, m1, m2, m3, m4, m5, m6, m7, m8, m9, m10, m11, m12, m13, m14, m15, m16, m17, m18, m19, m20, f4, l4⟩ := i_M2 (g0 := (d, mi)) (x := v13.toInt64) a3 (by omega)
  have iM := i_Mt (a0 := w2.2) (n := w3.2) (by omega) a4 m0 m1 m2 m3 m4 m5 m6 m7 m8 m9 m10 m11 m12 m13 m14 m15 m16 m17 m18 m19 m20 l4
  have fr : ∀ q, q < w2.2 → w4.1 q = w2.1 q := fun q hq => (f4 q (by omega) (by omega)).trans (f3 q hq)
  have iC4 : gIv (gIns Γ1 n Ty.top) w4 w4 := iB.rebase.keep (fun q t ht => fr q (iB.lt q t ht)) (by omega)
  have e15 : gna w4 1 1 1 (.long 0) = some (w4.2, gpush w4 (.inl (1, 1, fun _ => .long 0))) := by
    unfold gna
    rw [if_neg (by decide)]
    rfl
  obtain ⟨iC5, tn⟩ := iC4.push (.inl (1, 1, fun _ => .long 0))
  have iM5 := (iM.push (.inl (1, 1, fun _ => .long 0))).1.rebase
  have hp5 : (gpush w4 (.inl (1, 1, fun _ => .long 0))).2 = w4.2 + 1 := rfl
  have a5 : (gpush w4 (.inl (1, 1, fun _ => .long 0))).1 w4.2 = some (.inl (1, 1, fun _ => .long 0)) := by simp [gpush]
  have b5 : (gpush w4 (.inl (1, 1, fun _ => .long 0))).1 b = some (.inl (4, L, fun j => .int (xs j))) := by
    have : b ≠ w4.2 := by omega
    simp [gpush, this, fr b (by omega), b2]
  have hQ1 : ∀ t, (gIns Γ1 n Ty.top).Q t = false := by
    intro t
    show Γ1.Q t = false
    rw [k5]
    rfl
  have iC := (iC5.ins (t := Ty.aj 1) tn (by rw [hp5]; omega) (hQ1 _) ⟨⟨_, a5, fun _ => .long 0, rfl, fun _ _ => ⟨0, rfl⟩⟩, fun e => by cases e⟩).rebase
  have hRR : (gIns (gIns Γ1 n Ty.top) w4.2 (Ty.aj 1)).R = gRR := k4
  have cs : CS (d, mi) n w4.2 (w1.2 + 2) 0 (gIns (gIns Γ1 n Ty.top) w4.2 (Ty.aj 1)) := by
    refine ⟨?_, gIns.at, ?_, ?_, fun t => hQ1 t, fun y hy => ?_, ?_, fun q u hq h1 h2 => ?_⟩
    · rw [gIns.T, if_neg (by omega)]
      exact gIns.at
    · rw [hRR]
      decide
    · rw [hRR]
      rfl
    · rw [gIns.T] at hy
      split at hy
      · cases hy
      · rw [gIns.T] at hy
        split at hy
        · cases hy
        · by_cases hyw : y < w1.2
          · rw [k1 y hyw (by assumption), gIni.T] at hy
            split at hy
            · assumption
            · cases hy
          · exact absurd rfl (k3 y _ (by omega) hy).1
    · rw [gIns.T, if_neg (by simp only; omega)]
      exact td
    · rw [gIns.T] at hq
      split at hq
      · cases hq
        cases h1
      · rw [gIns.T] at hq
        split at hq
        · cases hq
          cases h1
        · by_cases hyw : q < w1.2
          · rw [k1 q hyw (by assumption), gIni.T] at hq
            split at hq
            · cases hq
              cases h1
            · cases hq
          · exact (k3 q u (by omega) hq).2 h1 h2
  have ms : MS w2.2 0 (gMod w2.2 w3.2) := by
    refine ⟨?_, fun q u hq h => (gMod_m hq).1 h, fun q u hq => (gMod_m hq).2.1, ?_, rfl, fun _ => rfl⟩
    · show (if w2.2 = w2.2 then _ else _) = _
      rw [if_pos rfl]
    · show ((0 : Int) = 0 ∧ (30 : Int) = 30 ∧ (0 : Int) = 0 ∧ (8 : Int) = 8 ∧ (0 : Int) = 0 ∧ (30 : Int) = 30)
      decide
  have dj : DJ b L xs (gIns (gIns Γ1 n Ty.top) w4.2 (Ty.aj 1)) (gMod w2.2 w3.2) (gpush w4 (.inl (1, 1, fun _ => .long 0))) := by
    refine ⟨fun q t ht => ?_, ?_, ?_, by rw [hp5]; omega, b5⟩
    · have h3 := (gMod_m ht).2.2
      rw [gIns.T, if_neg (by omega)]
      cases h : (gIns Γ1 n Ty.top).T q with
      | none => rfl
      | some u =>
        have := iB.lt q u h
        omega
    · rw [gIns.T, if_neg (by omega)]
      exact tb
    · cases h : (gMod w2.2 w3.2).T b with
      | none => rfl
      | some u =>
        have := (gMod_m h).2.2
        omega
  have e0 : gnw w0 0 [.long 0, .null, .null, .null, .null, .null, .int 0, .null, .null, .null] = some (n, w1) := by unfold gnw; rw [n0, hw1]
  have e12 : gnw w2 7 [.int 0, .long 0, .int 0, .null, .null, .null, .null, .null, .null, .int 0, .null, .null, .int 0, .null, .null, .null, .null, .null, .int 0, .null, .null, .null, .null, .null, .null, .null, .null] = some (w2.2, w3) := by unfold gnw; rw [hw3]
  rw [f_law, e0, y_b2, e5, gb_r, e6, gb_r, e12, y_b2, e13, gb_r, e14, gb_r, e15, y_b2]
  have fin : gSat (f_law_L35 (d, mi) b n w2.2 w4.2 (fun w => gguard ((1 : Int32) = 0 ∨ (1 : Int32) = 1) (some (.inr 1, w))) (fun w => gguard ((0 : Int32) = 0 ∨ (0 : Int32) = 1) (some (.inr 0, w))) (fun w => gguard ((0 : Int32) = 0 ∨ (0 : Int32) = 1) (some (.inr 0, w))) 513 1 (gpush w4 (.inl (1, 1, fun _ => .long 0)))) (fun v _ => v = 1) (fun _ _ => False) := by
    refine law_q hL (fun w => gSat.guard (by simp) (gSat.ret rfl)) 513 1 _ 0 _ _ iC iM5 cs ms dj (by decide) (by decide) (by decide) ?_ ?_
    · have : (1 : Int32).toInt = 1 := by decide
      omega
    · have : (1 : Int32).toInt = 1 := by decide
      omega
  obtain ⟨⟨o, w'⟩, r1, r2⟩ := fin
  cases o with
  | inl n => exact r2.elim
  | inr v =>
    have r2' : v = 1 := r2
    subst r2'
    exact ⟨w', r1⟩
end
