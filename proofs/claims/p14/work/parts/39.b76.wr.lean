section
variable {Γ : gΓ} {w0 w : gW} {g0 : gG} {E : String → gW → Prop}
theorem gAl.st (hI : gIv Γ w0 w) {w1 w2 : gW} {Γ1 : gΓ} (h : gAl Γ w Γ1 w1) (h2 : w1.2 ≤ w2.2) : gAl Γ w Γ1 w2 := ⟨h.1, h.2.1, h.2.2.1, Nat.le_trans h.2.2.2 h2⟩
def gQa : Ty → Bool := fun t => !(decide (t = Ty.solid) || decide (t = Ty.aj 8) || decide (t = Ty.layout) || decide (t = Ty.ai 900 (-2147483648) 2147483647))
theorem ask_of {w' : gW} (hI : gIv Γ w w) (hQ : ∀ t, Γ.Q t = false) (h : gIv (Γ.T, Γ.R, gQa) w w') : gIv Γ w w' := hI.thaw h (fun t ht => by rw [hQ t] at ht; cases ht)
theorem w_out {β : Type} {P : β → gW → Prop} {aO : Nat} {x : Int64} {K : gW → gX β} {Γ1 : gΓ} {w1 : gW} (hI : gIv Γ w w) (hQ : ∀ t, Γ.Q t = false) (haO : Γ.T aO = some (Ty.aj 1)) (i1 : gIv Γ1 w w1) (al : gAl Γ w Γ1 w1) (h : ∀ w2, gIv Γ1 w w2 → gAl Γ w Γ1 w2 → (∀ q, q ≠ aO → w2.1 q = w1.1 q) → gaJ w2 aO 0 = some x → gSat (K w2) P E) : gSat ((gsJ w1 aO 0 x).bind K) P E := by
  have ha1 := al.le hI _ _ haO
  obtain ⟨⟨e, he, f, hf, -⟩, -⟩ := i1.ok _ _ ha1
  subst hf
  have e1 : gsJ w1 aO 0 x = some (gup w1 aO (.inl (1, 1, updV f 0 (.long x)))) := by simp [gsJ, gas, he]
  obtain ⟨w2, g1, g2, g3, g4⟩ := i1.sJ (x := x) ha1 (i := 0) (by decide) (by decide) (by rw [al.2.2.1]; exact hQ _)
  rw [e1] at g1
  cases g1
  rw [e1]
  exact h _ g2 ⟨al.1, al.2.1, al.2.2.1, al.2.2.2⟩ g3 (by simp [gaJ, gar, gup, gvJ, updV])
set_option maxHeartbeats 1000000 in
theorem t_W_box {a0 : Nat} {p1 : Int32} {p2 : Int64} {p3 : Int64} {p4 : Int64} {p5 : Int64} {p6 : Int64} {p7 : Int64} {a8 : Nat} (hI : gIv Γ w w) (ha0 : Γ.T a0 = some Ty.top) (ha8 : Γ.T a8 = some (Ty.aj 1)) (hR : (Γ.R 0).1 = 0 ∧ (Γ.R 0).2 = 8 ∧ (Γ.R 3).1 = 0 ∧ (Γ.R 3).2 = 12 ∧ (Γ.R 4).1 = 0 ∧ (Γ.R 4).2 = 30 ∧ (Γ.R 5).1 = 0 ∧ (Γ.R 5).2 = 30 ∧ 0 ≤ (Γ.R 6).1 ∧ (Γ.R 6).2 ≤ 10) (hQ : ∀ t, Γ.Q t = false) (hE : ∀ y, Γ.T y = some Ty.mty → y = g0.1) (hE0 : Γ.T g0.1 = some Ty.mty) : gSat (f_W_box g0 a0 p1 p2 p3 p4 p5 p6 p7 a8 w) (fun k w' => ∃ Γ', gIv Γ' w w' ∧ gAl Γ w Γ' w' ∧ Γ'.R = Γ.R) (fun _ _ => False) := by
  unfold f_W_box
  refine w_ck hI ha0 rfl (by decide) ?_
  refine gSat.tried (t_B_box hI ha0 hR hQ hE) ?_ ?_
  · rintro v w1 ⟨Γ1, i1, al, r⟩
    refine w_jj ?_
    refine gSat.ite ?_ ?_ <;> intro _
    all_goals
      refine w_out hI hQ ha8 i1 al ?_
      intro w2 i2 al2 _ _
      exact gSat.ret ⟨_, i2, al2, r⟩
  · rintro n w1 ⟨hn, i1'⟩
    have i1 := i1'
    rcases hn with hn | hn
    · rw [hn, if_pos rfl]
      exact gSat.ret ⟨Γ, i1, gAl.same i1.le hI, rfl⟩
    · rw [hn, if_neg (by decide), if_pos rfl]
      exact gSat.ret ⟨Γ, i1, gAl.same i1.le hI, rfl⟩
set_option maxHeartbeats 1000000 in
theorem t_W_cylinder {a0 : Nat} {p1 : Int32} {p2 : Int64} {p3 : Int64} {p4 : Int64} {p5 : Int64} {p6 : Int64} {a7 : Nat} (hI : gIv Γ w w) (ha0 : Γ.T a0 = some Ty.top) (ha7 : Γ.T a7 = some (Ty.aj 1)) (hR : (Γ.R 0).1 = 0 ∧ (Γ.R 0).2 = 8 ∧ (Γ.R 3).1 = 0 ∧ (Γ.R 3).2 = 12 ∧ (Γ.R 4).1 = 0 ∧ (Γ.R 4).2 = 30 ∧ (Γ.R 5).1 = 0 ∧ (Γ.R 5).2 = 30 ∧ 0 ≤ (Γ.R 6).1 ∧ (Γ.R 6).2 ≤ 10) (hQ : ∀ t, Γ.Q t = false) (hE : ∀ y, Γ.T y = some Ty.mty → y = g0.1) (hE0 : Γ.T g0.1 = some Ty.mty) : gSat (f_W_cylinder g0 a0 p1 p2 p3 p4 p5 p6 a7 w) (fun k w' => ∃ Γ', gIv Γ' w w' ∧ gAl Γ w Γ' w' ∧ Γ'.R = Γ.R) (fun _ _ => False) := by
  unfold f_W_cylinder
  refine w_ck hI ha0 rfl (by decide) ?_
  refine gSat.tried (t_B_cylinder hI ha0 hR hQ hE) ?_ ?_
  · rintro v w1 ⟨Γ1, i1, al, r⟩
    refine w_jj ?_
    refine gSat.ite ?_ ?_ <;> intro _
    all_goals
      refine w_out hI hQ ha7 i1 al ?_
      intro w2 i2 al2 _ _
      exact gSat.ret ⟨_, i2, al2, r⟩
  · rintro n w1 ⟨hn, i1'⟩
    have i1 := i1'
    rcases hn with hn | hn
    · rw [hn, if_pos rfl]
      exact gSat.ret ⟨Γ, i1, gAl.same i1.le hI, rfl⟩
    · rw [hn, if_neg (by decide), if_pos rfl]
      exact gSat.ret ⟨Γ, i1, gAl.same i1.le hI, rfl⟩
set_option maxHeartbeats 1000000 in
theorem t_W_prism {a0 : Nat} {p1 : Int32} {p2 : Int64} {p3 : Int64} {a4 : Nat} (hI : gIv Γ w w) (ha0 : Γ.T a0 = some Ty.top) (ha4 : Γ.T a4 = some (Ty.aj 1)) (hR : (Γ.R 0).1 = 0 ∧ (Γ.R 0).2 = 8 ∧ (Γ.R 3).1 = 0 ∧ (Γ.R 3).2 = 12 ∧ (Γ.R 4).1 = 0 ∧ (Γ.R 4).2 = 30 ∧ (Γ.R 5).1 = 0 ∧ (Γ.R 5).2 = 30 ∧ 0 ≤ (Γ.R 6).1 ∧ (Γ.R 6).2 ≤ 10) (hQ : ∀ t, Γ.Q t = false) (hE : ∀ y, Γ.T y = some Ty.mty → y = g0.1) (hE0 : Γ.T g0.1 = some Ty.mty) : gSat (f_W_prism g0 a0 p1 p2 p3 a4 w) (fun k w' => ∃ Γ', gIv Γ' w w' ∧ gAl Γ w Γ' w' ∧ Γ'.R = Γ.R) (fun _ _ => False) := by
  unfold f_W_prism
  refine w_ck hI ha0 rfl (by decide) ?_
  refine gSat.tried (t_B_prism hI ha0 hR hQ hE) ?_ ?_
  · rintro v w1 ⟨Γ1, i1, al, r⟩
    refine w_jj ?_
    refine gSat.ite ?_ ?_ <;> intro _
    all_goals
      refine w_out hI hQ ha4 i1 al ?_
      intro w2 i2 al2 _ _
      exact gSat.ret ⟨_, i2, al2, r⟩
  · rintro n w1 ⟨hn, i1'⟩
    have i1 := i1'
    rcases hn with hn | hn
    · rw [hn, if_pos rfl]
      exact gSat.ret ⟨Γ, i1, gAl.same i1.le hI, rfl⟩
    · rw [hn, if_neg (by decide), if_pos rfl]
      exact gSat.ret ⟨Γ, i1, gAl.same i1.le hI, rfl⟩
set_option maxHeartbeats 1000000 in
theorem t_W_tube {a0 : Nat} {p1 : Int32} {p2 : Int64} {p3 : Int64} {p4 : Int64} {p5 : Int64} {p6 : Int32} {p7 : Int64} {a8 : Nat} (hI : gIv Γ w w) (ha0 : Γ.T a0 = some Ty.top) (ha8 : Γ.T a8 = some (Ty.aj 1)) (hR : (Γ.R 0).1 = 0 ∧ (Γ.R 0).2 = 8 ∧ (Γ.R 3).1 = 0 ∧ (Γ.R 3).2 = 12 ∧ (Γ.R 4).1 = 0 ∧ (Γ.R 4).2 = 30 ∧ (Γ.R 5).1 = 0 ∧ (Γ.R 5).2 = 30 ∧ 0 ≤ (Γ.R 6).1 ∧ (Γ.R 6).2 ≤ 10) (hQ : ∀ t, Γ.Q t = false) (hE : ∀ y, Γ.T y = some Ty.mty → y = g0.1) (hE0 : Γ.T g0.1 = some Ty.mty) : gSat (f_W_tube g0 a0 p1 p2 p3 p4 p5 p6 p7 a8 w) (fun k w' => ∃ Γ', gIv Γ' w w' ∧ gAl Γ w Γ' w' ∧ Γ'.R = Γ.R) (fun _ _ => False) := by
  unfold f_W_tube
  refine w_ck hI ha0 rfl (by decide) ?_
  refine gSat.tried (t_B_tube hI ha0 hR hQ hE) ?_ ?_
  · rintro v w1 ⟨Γ1, i1, al, r⟩
    refine w_jj ?_
    refine gSat.ite ?_ ?_ <;> intro _
    all_goals
      refine w_out hI hQ ha8 i1 al ?_
      intro w2 i2 al2 _ _
      exact gSat.ret ⟨_, i2, al2, r⟩
  · rintro n w1 ⟨hn, i1'⟩
    have i1 := i1'
    rcases hn with hn | hn
    · rw [hn, if_pos rfl]
      exact gSat.ret ⟨Γ, i1, gAl.same i1.le hI, rfl⟩
    · rw [hn, if_neg (by decide), if_pos rfl]
      exact gSat.ret ⟨Γ, i1, gAl.same i1.le hI, rfl⟩
set_option maxHeartbeats 1000000 in
theorem t_W_place {a0 : Nat} {p1 : Int32} {p2 : Int64} {p3 : Int64} {p4 : Int32} {p5 : Int32} {a6 : Nat} (hI : gIv Γ w w) (ha0 : Γ.T a0 = some Ty.top) (ha6 : Γ.T a6 = some (Ty.aj 1)) (hR : (Γ.R 0).1 = 0 ∧ (Γ.R 0).2 = 8 ∧ (Γ.R 3).1 = 0 ∧ (Γ.R 3).2 = 12 ∧ (Γ.R 4).1 = 0 ∧ (Γ.R 4).2 = 30 ∧ (Γ.R 5).1 = 0 ∧ (Γ.R 5).2 = 30 ∧ 0 ≤ (Γ.R 6).1 ∧ (Γ.R 6).2 ≤ 10) (hQ : ∀ t, Γ.Q t = false) (hE : ∀ y, Γ.T y = some Ty.mty → y = g0.1) (hE0 : Γ.T g0.1 = some Ty.mty) : gSat (f_W_place g0 a0 p1 p2 p3 p4 p5 a6 w) (fun k w' => ∃ Γ', gIv Γ' w w' ∧ gAl Γ w Γ' w' ∧ Γ'.R = Γ.R) (fun _ _ => False) := by
  unfold f_W_place
  refine w_ck hI ha0 rfl (by decide) ?_
  refine gSat.tried (t_B_place hI ha0 hR hQ hE) ?_ ?_
  · rintro v w1 ⟨Γ1, i1, al, r⟩
    refine w_out hI hQ ha6 i1 al ?_
    intro w2 i2 al2 _ _
    exact gSat.ret ⟨_, i2, al2, r⟩
  · rintro n w1 ⟨hn, i1'⟩
    have i1 := i1'
    rcases hn with hn | hn
    · rw [hn, if_pos rfl]
      exact gSat.ret ⟨Γ, i1, gAl.same i1.le hI, rfl⟩
    · rw [hn, if_neg (by decide), if_pos rfl]
      exact gSat.ret ⟨Γ, i1, gAl.same i1.le hI, rfl⟩
set_option maxHeartbeats 1000000 in
theorem t_W_move {a0 : Nat} {p1 : Int32} {p2 : Int64} {p3 : Int64} {p4 : Int32} {p5 : Int32} {a6 : Nat} (hI : gIv Γ w w) (ha0 : Γ.T a0 = some Ty.top) (ha6 : Γ.T a6 = some (Ty.aj 1)) (hR : (Γ.R 0).1 = 0 ∧ (Γ.R 0).2 = 8 ∧ (Γ.R 3).1 = 0 ∧ (Γ.R 3).2 = 12 ∧ (Γ.R 4).1 = 0 ∧ (Γ.R 4).2 = 30 ∧ (Γ.R 5).1 = 0 ∧ (Γ.R 5).2 = 30 ∧ 0 ≤ (Γ.R 6).1 ∧ (Γ.R 6).2 ≤ 10) (hQ : ∀ t, Γ.Q t = false) (hE : ∀ y, Γ.T y = some Ty.mty → y = g0.1) (hE0 : Γ.T g0.1 = some Ty.mty) : gSat (f_W_move g0 a0 p1 p2 p3 p4 p5 a6 w) (fun k w' => ∃ Γ', gIv Γ' w w' ∧ gAl Γ w Γ' w' ∧ Γ'.R = Γ.R) (fun _ _ => False) := by
  unfold f_W_move
  refine w_ck hI ha0 rfl (by decide) ?_
  refine gSat.tried (t_B_move hI ha0 hR hQ hE) ?_ ?_
  · rintro v w1 ⟨Γ1, i1, al, r⟩
    refine w_jj ?_
    refine gSat.ite ?_ ?_ <;> intro _
    all_goals
      refine w_out hI hQ ha6 i1 al ?_
      intro w2 i2 al2 _ _
      exact gSat.ret ⟨_, i2, al2, r⟩
  · rintro n w1 ⟨hn, i1'⟩
    have i1 := i1'
    rcases hn with hn | hn
    · rw [hn, if_pos rfl]
      exact gSat.ret ⟨Γ, i1, gAl.same i1.le hI, rfl⟩
    · rw [hn, if_neg (by decide), if_pos rfl]
      exact gSat.ret ⟨Γ, i1, gAl.same i1.le hI, rfl⟩
set_option maxHeartbeats 1000000 in
theorem t_W_join {a0 : Nat} {p1 : Int32} {p2 : Int32} {a3 : Nat} (hI : gIv Γ w w) (ha0 : Γ.T a0 = some Ty.top) (ha3 : Γ.T a3 = some (Ty.aj 1)) (hR : (Γ.R 0).1 = 0 ∧ (Γ.R 0).2 = 8 ∧ (Γ.R 3).1 = 0 ∧ (Γ.R 3).2 = 12 ∧ (Γ.R 4).1 = 0 ∧ (Γ.R 4).2 = 30 ∧ (Γ.R 5).1 = 0 ∧ (Γ.R 5).2 = 30 ∧ 0 ≤ (Γ.R 6).1 ∧ (Γ.R 6).2 ≤ 10) (hQ : ∀ t, Γ.Q t = false) (hE : ∀ y, Γ.T y = some Ty.mty → y = g0.1) (hE0 : Γ.T g0.1 = some Ty.mty) : gSat (f_W_join g0 a0 p1 p2 a3 w) (fun k w' => ∃ Γ', gIv Γ' w w' ∧ gAl Γ w Γ' w' ∧ Γ'.R = Γ.R) (fun _ _ => False) := by
  unfold f_W_join
  refine w_ck hI ha0 rfl (by decide) ?_
  refine gSat.tried (t_B_join hI ha0 hR hQ hE hE0) ?_ ?_
  · rintro v w1 ⟨Γ1, i1, al, r⟩
    refine w_out hI hQ ha3 i1 al ?_
    intro w2 i2 al2 _ _
    exact gSat.ret ⟨_, i2, al2, r⟩
  · rintro n w1 ⟨hn, i1'⟩
    have i1 := i1'
    rw [hn, if_pos rfl]
    exact gSat.ret ⟨Γ, i1, gAl.same i1.le hI, rfl⟩
set_option maxHeartbeats 1000000 in
theorem t_W_corner {a0 : Nat} {p1 : Int64} {p2 : Int64} {a3 : Nat} (hI : gIv Γ w w) (ha0 : Γ.T a0 = some Ty.top) (ha3 : Γ.T a3 = some (Ty.aj 1)) (hR : (Γ.R 0).1 = 0 ∧ (Γ.R 0).2 = 8 ∧ (Γ.R 3).1 = 0 ∧ (Γ.R 3).2 = 12 ∧ (Γ.R 4).1 = 0 ∧ (Γ.R 4).2 = 30 ∧ (Γ.R 5).1 = 0 ∧ (Γ.R 5).2 = 30 ∧ 0 ≤ (Γ.R 6).1 ∧ (Γ.R 6).2 ≤ 10) (hQ : ∀ t, Γ.Q t = false) (hE : ∀ y, Γ.T y = some Ty.mty → y = g0.1) (hE0 : Γ.T g0.1 = some Ty.mty) : gSat (f_W_corner g0 a0 p1 p2 a3 w) (fun k w' => ∃ Γ', gIv Γ' w w' ∧ gAl Γ w Γ' w' ∧ Γ'.R = Γ.R) (fun _ _ => False) := by
  unfold f_W_corner
  refine w_ck hI ha0 rfl (by decide) ?_
  refine gSat.tried (t_B_corner hI ha0 hR (hQ _) (hQ _)) ?_ ?_
  · rintro v w1 ⟨i1', -⟩
    have i1 := i1'
    have al : gAl Γ w Γ w1 := gAl.same i1.le hI
    have r : Γ.R = Γ.R := rfl
    refine w_jj ?_
    refine gSat.ite ?_ ?_ <;> intro _
    all_goals
      refine w_out hI hQ ha3 i1 al ?_
      intro w2 i2 al2 _ _
      exact gSat.ret ⟨_, i2, al2, r⟩
  · rintro n w1 ⟨hn, i1'⟩
    have i1 := i1'
    rw [hn, if_pos rfl]
    exact gSat.ret ⟨Γ, i1, gAl.same i1.le hI, rfl⟩
set_option maxHeartbeats 1000000 in
theorem t_W_bound {a0 : Nat} {p1 : Int32} {p2 : Int32} {a3 : Nat} (hI : gIv Γ w w) (ha0 : Γ.T a0 = some Ty.top) (ha3 : Γ.T a3 = some (Ty.aj 1)) (hR : (Γ.R 0).1 = 0 ∧ (Γ.R 0).2 = 8 ∧ (Γ.R 3).1 = 0 ∧ (Γ.R 3).2 = 12 ∧ (Γ.R 4).1 = 0 ∧ (Γ.R 4).2 = 30 ∧ (Γ.R 5).1 = 0 ∧ (Γ.R 5).2 = 30 ∧ 0 ≤ (Γ.R 6).1 ∧ (Γ.R 6).2 ≤ 10) (hQ : ∀ t, Γ.Q t = false) (hE : ∀ y, Γ.T y = some Ty.mty → y = g0.1) (hE0 : Γ.T g0.1 = some Ty.mty) : gSat (f_W_bound g0 a0 p1 p2 a3 w) (fun k w' => ∃ Γ', gIv Γ' w w' ∧ gAl Γ w Γ' w' ∧ Γ'.R = Γ.R) (fun _ _ => False) := by
  unfold f_W_bound
  refine w_ck hI ha0 rfl (by decide) ?_
  refine gSat.tried (t_B_bound hI ha0 (hQ _) (hQ _) (hQ _) hR) ?_ ?_
  · rintro v w1 ⟨i1', -⟩
    have i1 := i1'
    have al : gAl Γ w Γ w1 := gAl.same i1.le hI
    have r : Γ.R = Γ.R := rfl
    refine w_out hI hQ ha3 i1 al ?_
    intro w2 i2 al2 _ _
    exact gSat.ret ⟨_, i2, al2, r⟩
  · rintro n w1 ⟨hn, i1'⟩
    have i1 := i1'
    rcases hn with hn | hn
    · rw [hn, if_pos rfl]
      exact gSat.ret ⟨Γ, i1, gAl.same i1.le hI, rfl⟩
    · rw [hn, if_neg (by decide), if_pos rfl]
      exact gSat.ret ⟨Γ, i1, gAl.same i1.le hI, rfl⟩
set_option maxHeartbeats 1000000 in
theorem t_W_mass {a0 : Nat} {p1 : Int32} {a2 : Nat} (hI : gIv Γ w w) (ha0 : Γ.T a0 = some Ty.top) (ha2 : Γ.T a2 = some (Ty.aj 1)) (hR : (Γ.R 0).1 = 0 ∧ (Γ.R 0).2 = 8 ∧ (Γ.R 3).1 = 0 ∧ (Γ.R 3).2 = 12 ∧ (Γ.R 4).1 = 0 ∧ (Γ.R 4).2 = 30 ∧ (Γ.R 5).1 = 0 ∧ (Γ.R 5).2 = 30 ∧ 0 ≤ (Γ.R 6).1 ∧ (Γ.R 6).2 ≤ 10) (hQ : ∀ t, Γ.Q t = false) (hE : ∀ y, Γ.T y = some Ty.mty → y = g0.1) (hE0 : Γ.T g0.1 = some Ty.mty) : gSat (f_W_mass g0 a0 p1 a2 w) (fun k w' => ∃ Γ', gIv Γ' w w' ∧ gAl Γ w Γ' w' ∧ Γ'.R = Γ.R) (fun _ _ => False) := by
  unfold f_W_mass
  refine w_ck hI ha0 rfl (by decide) ?_
  refine gSat.tried (t_B_mass hI ha0 hR) ?_ ?_
  · rintro v w1 ⟨e, -⟩
    subst e
    have i1 := hI
    have al : gAl Γ w1 Γ w1 := gAl.same (Nat.le_refl _) hI
    have r : Γ.R = Γ.R := rfl
    refine w_out hI hQ ha2 i1 al ?_
    intro w2 i2 al2 _ _
    exact gSat.ret ⟨_, i2, al2, r⟩
  · rintro n w1 ⟨hn, i1'⟩
    have i1 := i1'
    rw [hn, if_pos rfl]
    exact gSat.ret ⟨Γ, i1, gAl.same i1.le hI, rfl⟩
set_option maxHeartbeats 1000000 in
theorem t_W_clash {a0 : Nat} {p1 : Int32} {p2 : Int32} {a3 : Nat} (hI : gIv Γ w w) (ha0 : Γ.T a0 = some Ty.top) (ha3 : Γ.T a3 = some (Ty.aj 1)) (hR : (Γ.R 0).1 = 0 ∧ (Γ.R 0).2 = 8 ∧ (Γ.R 3).1 = 0 ∧ (Γ.R 3).2 = 12 ∧ (Γ.R 4).1 = 0 ∧ (Γ.R 4).2 = 30 ∧ (Γ.R 5).1 = 0 ∧ (Γ.R 5).2 = 30 ∧ 0 ≤ (Γ.R 6).1 ∧ (Γ.R 6).2 ≤ 10) (hQ : ∀ t, Γ.Q t = false) (hE : ∀ y, Γ.T y = some Ty.mty → y = g0.1) (hE0 : Γ.T g0.1 = some Ty.mty) : gSat (f_W_clash g0 a0 p1 p2 a3 w) (fun k w' => ∃ Γ', gIv Γ' w w' ∧ gAl Γ w Γ' w' ∧ Γ'.R = Γ.R) (fun _ _ => False) := by
  unfold f_W_clash
  refine w_ck hI ha0 rfl (by decide) ?_
  obtain ⟨P0, hP, hPT⟩ := hI.ref (c := 0) (k := 2) ha0 rfl
  obtain ⟨s0, -, hs, h0, h1, h2⟩ := l_size (g0 := g0) hI hPT
  refine gSat.tried (t_B_clash (Γ := (Γ.T, Γ.R, gQa)) (hI.freeze gQa) ha0 rfl rfl rfl rfl rfl rfl hR hP hPT hs (by omega) h0) ?_ ?_
  · rintro v w1 ⟨i1', -⟩
    have i1 := ask_of hI hQ i1'
    have al : gAl Γ w Γ w1 := gAl.same i1.le hI
    have r : Γ.R = Γ.R := rfl
    refine w_out hI hQ ha3 i1 al ?_
    intro w2 i2 al2 _ _
    exact gSat.ret ⟨_, i2, al2, r⟩
  · rintro n w1 ⟨hn, i1'⟩
    have i1 := ask_of hI hQ i1'
    rw [hn, if_pos rfl]
    exact gSat.ret ⟨Γ, i1, gAl.same i1.le hI, rfl⟩
set_option maxHeartbeats 1000000 in
theorem t_W_pair {a0 : Nat} {p1 : Int32} {p2 : Int32} {a3 : Nat} (hI : gIv Γ w w) (ha0 : Γ.T a0 = some Ty.top) (ha3 : Γ.T a3 = some (Ty.aj 1)) (hR : (Γ.R 0).1 = 0 ∧ (Γ.R 0).2 = 8 ∧ (Γ.R 3).1 = 0 ∧ (Γ.R 3).2 = 12 ∧ (Γ.R 4).1 = 0 ∧ (Γ.R 4).2 = 30 ∧ (Γ.R 5).1 = 0 ∧ (Γ.R 5).2 = 30 ∧ 0 ≤ (Γ.R 6).1 ∧ (Γ.R 6).2 ≤ 10) (hQ : ∀ t, Γ.Q t = false) (hE : ∀ y, Γ.T y = some Ty.mty → y = g0.1) (hE0 : Γ.T g0.1 = some Ty.mty) : gSat (f_W_pair g0 a0 p1 p2 a3 w) (fun k w' => ∃ Γ', gIv Γ' w w' ∧ gAl Γ w Γ' w' ∧ Γ'.R = Γ.R) (fun _ _ => False) := by
  unfold f_W_pair
  refine w_ck hI ha0 rfl (by decide) ?_
  obtain ⟨P0, hP, hPT⟩ := hI.ref (c := 0) (k := 2) ha0 rfl
  obtain ⟨s0, -, hs, h0, h1, h2⟩ := l_size (g0 := g0) hI hPT
  refine gSat.tried (t_B_pair (Γ := (Γ.T, Γ.R, gQa)) (hI.freeze gQa) ha0 rfl rfl rfl rfl rfl rfl hR hP hPT hs (by omega) h0) ?_ ?_
  · rintro v w1 ⟨i1', -⟩
    have i1 := ask_of hI hQ i1'
    have al : gAl Γ w Γ w1 := gAl.same i1.le hI
    have r : Γ.R = Γ.R := rfl
    refine w_out hI hQ ha3 i1 al ?_
    intro w2 i2 al2 _ _
    exact gSat.ret ⟨_, i2, al2, r⟩
  · rintro n w1 ⟨hn, i1'⟩
    have i1 := ask_of hI hQ i1'
    rw [hn, if_pos rfl]
    exact gSat.ret ⟨Γ, i1, gAl.same i1.le hI, rfl⟩
set_option maxHeartbeats 1000000 in
theorem t_W_section {a0 : Nat} {p1 : Int64} {p2 : Int32} {p3 : Int32} {a4 : Nat} (hI : gIv Γ w w) (ha0 : Γ.T a0 = some Ty.top) (ha4 : Γ.T a4 = some (Ty.aj 1)) (hR : (Γ.R 0).1 = 0 ∧ (Γ.R 0).2 = 8 ∧ (Γ.R 3).1 = 0 ∧ (Γ.R 3).2 = 12 ∧ (Γ.R 4).1 = 0 ∧ (Γ.R 4).2 = 30 ∧ (Γ.R 5).1 = 0 ∧ (Γ.R 5).2 = 30 ∧ 0 ≤ (Γ.R 6).1 ∧ (Γ.R 6).2 ≤ 10) (hQ : ∀ t, Γ.Q t = false) (hE : ∀ y, Γ.T y = some Ty.mty → y = g0.1) (hE0 : Γ.T g0.1 = some Ty.mty) : gSat (f_W_section g0 a0 p1 p2 p3 a4 w) (fun k w' => ∃ Γ', gIv Γ' w w' ∧ gAl Γ w Γ' w' ∧ Γ'.R = Γ.R) (fun _ _ => False) := by
  unfold f_W_section
  refine w_ck hI ha0 rfl (by decide) ?_
  obtain ⟨P0, hP, hPT⟩ := hI.ref (c := 0) (k := 2) ha0 rfl
  obtain ⟨s0, -, hs, h0, h1, h2⟩ := l_size (g0 := g0) hI hPT
  refine gSat.tried (t_B_section (Γ := (Γ.T, Γ.R, gQa)) (hI.freeze gQa) ha0 rfl rfl rfl rfl rfl rfl hR hP hPT hs (by omega) h0) ?_ ?_
  · rintro v w1 ⟨i1', -⟩
    have i1 := ask_of hI hQ i1'
    have al : gAl Γ w Γ w1 := gAl.same i1.le hI
    have r : Γ.R = Γ.R := rfl
    refine w_out hI hQ ha4 i1 al ?_
    intro w2 i2 al2 _ _
    exact gSat.ret ⟨_, i2, al2, r⟩
  · rintro n w1 ⟨hn, i1'⟩
    have i1 := ask_of hI hQ i1'
    rw [hn, if_pos rfl]
    exact gSat.ret ⟨Γ, i1, gAl.same i1.le hI, rfl⟩
set_option maxHeartbeats 1000000 in
theorem t_V_clashes {a0 : Nat} (hI : gIv Γ w w) (ha0 : Γ.T a0 = some Ty.top) (hR : (Γ.R 0).1 = 0 ∧ (Γ.R 0).2 = 8 ∧ (Γ.R 3).1 = 0 ∧ (Γ.R 3).2 = 12 ∧ (Γ.R 4).1 = 0 ∧ (Γ.R 4).2 = 30 ∧ (Γ.R 5).1 = 0 ∧ (Γ.R 5).2 = 30 ∧ 0 ≤ (Γ.R 6).1 ∧ (Γ.R 6).2 ≤ 10) (hQ : ∀ t, Γ.Q t = false) : gSat (f_B_clashes g0 a0 w) (fun v w' => gIv Γ w w' ∧ True) (fun _ _ => False) := by
  obtain ⟨P0, hP, hPT⟩ := hI.ref (c := 0) (k := 2) ha0 rfl
  obtain ⟨s0, -, hs, h0, h1, h2⟩ := l_size (g0 := g0) hI hPT
  exact (t_B_clashes (Γ := (Γ.T, Γ.R, gQa)) (hI.freeze gQa) ha0 rfl rfl rfl rfl rfl rfl hR hP hPT hs (by omega) h0).mono (fun v w' h => ⟨ask_of hI hQ h.1, trivial⟩) (fun _ _ h => h)
set_option maxHeartbeats 1000000 in
theorem t_V_breaks {a0 : Nat} {p1 : Int32} (hI : gIv Γ w w) (ha0 : Γ.T a0 = some Ty.top) (hR : (Γ.R 0).1 = 0 ∧ (Γ.R 0).2 = 8 ∧ (Γ.R 3).1 = 0 ∧ (Γ.R 3).2 = 12 ∧ (Γ.R 4).1 = 0 ∧ (Γ.R 4).2 = 30 ∧ (Γ.R 5).1 = 0 ∧ (Γ.R 5).2 = 30 ∧ 0 ≤ (Γ.R 6).1 ∧ (Γ.R 6).2 ≤ 10) (hQ : ∀ t, Γ.Q t = false) : gSat (f_B_breaks g0 a0 p1 w) (fun v w' => gIv Γ w w' ∧ True) (fun _ _ => False) := by
  obtain ⟨P0, hP, hPT⟩ := hI.ref (c := 0) (k := 2) ha0 rfl
  obtain ⟨s0, -, hs, h0, h1, h2⟩ := l_size (g0 := g0) hI hPT
  exact (t_B_breaks (Γ := (Γ.T, Γ.R, gQa)) (hI.freeze gQa) ha0 rfl rfl rfl rfl rfl rfl hR hP hPT hs (by omega) h0).mono (fun v w' h => ⟨ask_of hI hQ h.1, trivial⟩) (fun _ _ h => h)
set_option maxHeartbeats 1000000 in
theorem t_W_keepOut {a0 K0 aO : Nat} {x0 y0 x1 y1 : Int64} {s : Int32} {hh : Int64} {κ : Int} (hI : gIv Γ w w) (ha0 : Γ.T a0 = some Ty.top) (haO : Γ.T aO = some (Ty.aj 1)) (hQ : ∀ t, Γ.Q t = false) (hE : ∀ y, Γ.T y = some Ty.mty → y = g0.1) (hU : ∀ b u, Γ.T b = some u → u.1 = 1 → u.2.1 = 6 → b = K0) (hκ : Γ.R 6 = (κ, κ)) (hκ0 : 0 ≤ κ) (hκ1 : κ ≤ 10) :
    gSat (f_W_keepOut g0 a0 x0 y0 x1 y1 s hh aO w) (fun k w' => k = (if dKO x0 y0 x1 y1 s hh then 0 else 1) ∧ ((dKO x0 y0 x1 y1 s hh ∧ κ < 10 ∧ gaJ w' aO 0 = some 1 ∧ ∃ Γ', gIv Γ' w w' ∧ gAl Γ w Γ' w' ∧ Γ'.R = (fun k => if k = 6 then (κ + 1, κ + 1) else Γ.R k)) ∨ ((dKO x0 y0 x1 y1 s hh → gaJ w' aO 0 = some 0) ∧ (¬ dKO x0 y0 x1 y1 s hh ∨ κ = 10) ∧ gIv Γ w w'))) (fun _ _ => False) := by
  unfold f_W_keepOut
  refine w_ck hI ha0 rfl (by decide) ?_
  refine gSat.tried (t_B_keepOut hI ha0 hQ hE hU hκ hκ0 hκ1) ?_ ?_
  · rintro v w1 ⟨hp, h⟩
    simp only [if_pos hp]
    refine w_jj ?_
    rcases h with ⟨h1, h2, Γ1, i1, al, r⟩ | ⟨h1, h2, i1⟩
    · subst h2
      rw [if_neg (by decide)]
      refine w_out hI hQ haO i1 al ?_
      intro w2 i2 al2 _ hx
      exact gSat.ret ⟨rfl, Or.inl ⟨hp, h1, hx, Γ1, i2, al2, r⟩⟩
    · subst h2
      rw [if_pos rfl]
      refine w_out hI hQ haO i1 (gAl.same i1.le hI) ?_
      intro w2 i2 al2 _ hx
      exact gSat.ret ⟨rfl, Or.inr ⟨fun _ => hx, Or.inr h1, i2⟩⟩
  · rintro n w1 ⟨hp, hn, i1⟩
    rw [hn, if_pos rfl]
    simp only [if_neg hp]
    exact gSat.ret ⟨rfl, Or.inr ⟨fun h => absurd h hp, Or.inl hp, i1⟩⟩
end
