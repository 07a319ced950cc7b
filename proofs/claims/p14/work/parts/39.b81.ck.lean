section
variable {Γ Γ1 Γ2 : gΓ} {w0 w w1 : gW} {g0 : gG} {n a0 K0 : Nat}
def gRR : Nat → Int × Int := fun k => if k = 0 then (0, 8) else if k = 3 then (0, 12) else if k = 6 then (0, 0) else (0, 30)
def cInv (Γ Γ1 : gΓ) (n a0 K0 : Nat) : Prop := (∀ q, q < n → q ≠ a0 → Γ1.T q = Γ.T q) ∧ Γ1.T a0 = none ∧ (∀ q t, n ≤ q → Γ1.T q = some t → t.1 ≠ 12 ∧ (t.1 = 1 → t.2.1 = 6 → q = K0)) ∧ Γ1.R = Γ.R ∧ Γ1.Q = Γ.Q
theorem cInv.ins {o : Nat} {t : Ty} (h : cInv Γ Γ1 n a0 K0) (ho : n ≤ o) (ha : a0 < n) (h1 : t.1 ≠ 12) (h2 : t.1 = 1 → t.2.1 = 6 → o = K0) : cInv Γ (gIns Γ1 o t) n a0 K0 := by
  obtain ⟨a1, a2, a3, a4, a5⟩ := h
  refine ⟨fun q q1 q2 => ?_, ?_, fun q u q1 q2 => ?_, a4, a5⟩
  · rw [gIns.T, if_neg (by omega)]
    exact a1 q q1 q2
  · rw [gIns.T, if_neg (by omega)]
    exact a2
  · rw [gIns.T] at q2
    split at q2
    · rename_i e
      cases q2
      exact ⟨h1, fun x y => e.trans (h2 x y)⟩
    · exact a3 q u q1 q2
theorem cInv.lay {o m : Nat} (h : cInv Γ Γ1 n a0 K0) (ho : n ≤ o) (hm : n ≤ m) (hom : o < m) (ha : a0 < n) (h1 : Γ2.T o = some Ty.layout) (h2 : ∀ q, q < m → q ≠ o → Γ2.T q = Γ1.T q) (h3 : ∀ q t, m ≤ q → Γ2.T q = some t → t.1 ≠ 12 ∧ (t.1 = 1 → t.2.1 ≠ 6)) (hR : Γ2.R = Γ1.R) (hQ : Γ2.Q = Γ1.Q) : cInv Γ Γ2 n a0 K0 := by
  obtain ⟨a1, a2, a3, a4, a5⟩ := h
  refine ⟨fun q q1 q2 => (h2 q (by omega) (by omega)).trans (a1 q q1 q2), (h2 a0 (by omega) (by omega)).trans a2, fun q u q1 q2 => ?_, hR.trans a4, hQ.trans a5⟩
  by_cases e : q = o
  · subst e
    rw [h1] at q2
    cases q2
    exact ⟨by decide, fun x => by cases x⟩
  · by_cases hq : q < m
    · exact a3 q u q1 ((h2 q hq e).symm.trans q2)
    · exact ⟨(h3 q u (by omega) q2).1, fun x y => absurd y ((h3 q u (by omega) q2).2 x)⟩
theorem c_new {t : Ty} (hI : gIv Γ w0 w) (hn : Γ.T a0 = none) (ha0 : w0.2 ≤ a0) (hf : ∀ q, q ≠ w.2 → q ≠ a0 → w1.1 q = w.1 q) (hl : w1.2 = w.2 + 1) : gIv Γ w0 w1 := by
  refine hI.ext2 (fun q t ht => hf q ?_ ?_) (fun q h1 h2 => hf q ?_ (by omega)) (by omega) (fun _ _ => rfl) rfl rfl (fun q u hq hu => ?_)
  · have := hI.lt q t ht
    omega
  · intro e
    rw [e, hn] at ht
    cases ht
  · have := hI.le
    omega
  · have := hI.lt q u hu
    omega
set_option maxHeartbeats 1000000 in
theorem c_B {x : Int64} (hI : gIv Γ w0 w) (hR : Γ.R = gRR) (hQ : ∀ t, Γ.Q t = false) (hd : Γ.T g0.1 = some Ty.mty) (na : Γ.T a0 = none) (ha0 : w0.2 ≤ a0) (hl : a0 < w.2) (hw : w.1 a0 = some (.inr (0, [.long 0, .null, .null, .null, .null, .null, .int 0, .null, .null, .null]))) :
    ∃ (w' : gW) (Γ' : gΓ), f_B_init g0 a0 x w = some (.inr (), w') ∧ gIv (gIns Γ' a0 Ty.top) w0 w' ∧ cInv Γ Γ' w.2 a0 (w.2 + 2) ∧ w.2 ≤ w'.2 := by
  have z0 : (0 : Int32).toInt = 0 := by decide
  obtain ⟨v1, e1⟩ := q_min2 (g0 := g0) (x := 1000) (y := x) (w := w)
  obtain ⟨th, e2⟩ := q_max2 (g0 := g0) (x := 0) (y := v1) (w := w)
  have e3 : gp w a0 0 0 (.long th) = some (gup w a0 (.inr (0, [.long th, .null, .null, .null, .null, .null, .int 0, .null, .null, .null]))) := by simp [gp, hw]
  have i1 : gIv Γ w0 (gup w a0 (.inr (0, [.long th, .null, .null, .null, .null, .null, .int 0, .null, .null, .null]))) := hI.raw na ha0
  generalize hw1 : gup w a0 (.inr (0, [.long th, .null, .null, .null, .null, .null, .int 0, .null, .null, .null])) = w1 at e3 i1
  have a1 : w1.1 a0 = some (.inr (0, [.long th, .null, .null, .null, .null, .null, .int 0, .null, .null, .null])) := by rw [← hw1]; simp [gup]
  have l1 : w1.2 = w.2 := by rw [← hw1]; rfl
  have c1 : cInv Γ Γ w.2 a0 (w.2 + 2) := ⟨fun _ _ _ => rfl, na, fun q t h1 h2 => by have := hI.lt q t h2; omega, rfl, rfl⟩
  obtain ⟨w2, s2, a2, b2, f2, l2⟩ := i_lst (g0 := g0) (k := 1) a1 (by omega) (by simp)
  have ml : ∀ {Γk : gΓ} {wk : gW} {l c : Nat}, Γk.T g0.1 = some Ty.mty → Γk.R = gRR → wk.1 l = some (.inr (1, [.ref g0.1, .int 0, .int 0])) → (gRR c).1 ≤ 0 → 0 ≤ (gRR c).2 → okE Γk wk l (Ty.lst c) := by
    intro Γk wk l c h1 h2 h3 h4 h5
    refine okE.mkl h3 ?_ ?_ (by decide) (Or.inl ⟨h1, rfl⟩)
    · rw [h2, z0]; exact h4
    · rw [h2, z0]; exact h5
  have nw : ∀ {Γk : gΓ} {wk : gW}, gIv Γk w0 wk → Γk.T wk.2 = none := fun h => (h.push (.inl (3, 0, fun _ => .null))).2
  have i2 := c_ins (t := Ty.lst 4) i1 na ha0 f2 l2 (hQ _) (ml (gIns.le (nw i1) _ _ hd) hR b2 (by decide) (by decide))
  have c2 := c1.ins (o := w1.2) (t := Ty.lst 4) (by omega) hl (by decide) (fun _ e => by cases e)
  have d2 := gIns.le (t := Ty.lst 4) (nw i1) _ _ hd
  obtain ⟨w3, s3, a3, b3, f3, l3⟩ := i_lst (g0 := g0) (k := 2) a2 (by omega) (by simp)
  have i3 := c_ins (t := Ty.lst 5) i2 c2.2.1 ha0 f3 l3 (hQ _) (ml (gIns.le (nw i2) _ _ d2) hR b3 (by decide) (by decide))
  have c3 := c2.ins (o := w2.2) (t := Ty.lst 5) (by omega) hl (by decide) (fun _ e => by cases e)
  have d3 := gIns.le (t := Ty.lst 5) (nw i2) _ _ d2
  obtain ⟨w4, s4, a4, b4, f4, l4⟩ := i_lst (g0 := g0) (k := 3) a3 (by omega) (by simp)
  have i4 := c_ins (t := Ty.lst 6) i3 c3.2.1 ha0 f4 l4 (hQ _) (ml (gIns.le (nw i3) _ _ d3) hR b4 (by decide) (by decide))
  have c4 := c3.ins (o := w3.2) (t := Ty.lst 6) (by omega) hl (by decide) (fun _ _ => by omega)
  have aj8 : ∀ {Γk : gΓ} {wk : gW} {l : Nat}, wk.1 l = some (.inl (1, (8 : Int32).toNatClampNeg, fun _ => .long 0)) → okE Γk wk l (Ty.aj 8) := fun h => ⟨⟨_, h, fun _ => .long 0, rfl, fun _ _ => ⟨0, rfl⟩⟩, fun e => by cases e⟩
  obtain ⟨w5, s5, a5, b5, f5, l5⟩ := i_arr (k := 4) (kd := 1) (M := 8) (N := 8) (v := .long 0) a4 (by omega) (by simp) (by decide)
  have i5 := c_ins (t := Ty.aj 8) i4 c4.2.1 ha0 f5 l5 (hQ _) (aj8 b5)
  have c5 := c4.ins (o := w4.2) (t := Ty.aj 8) (by omega) hl (by decide) (fun e => by cases e)
  obtain ⟨w6, s6, a6, b6, f6, l6⟩ := i_arr (k := 5) (kd := 1) (M := 8) (N := 8) (v := .long 0) a5 (by omega) (by simp) (by decide)
  have i6 := c_ins (t := Ty.aj 8) i5 c5.2.1 ha0 f6 l6 (hQ _) (aj8 b6)
  have c6 := c5.ins (o := w5.2) (t := Ty.aj 8) (by omega) hl (by decide) (fun e => by cases e)
  simp only [List.set_cons_zero, List.set_cons_succ] at a6
  have hB := gIns.le (t := Ty.aj 8) (nw i5) _ _ (gIns.le (t := Ty.aj 8) (nw i4) _ _ (gIns.le (t := Ty.lst 6) (nw i3) _ _ (gIns.le (t := Ty.lst 5) (nw i2) _ _ (gIns.at (Γ := Γ) (o := w1.2) (t := Ty.lst 4)))))
  have hP := gIns.le (t := Ty.aj 8) (nw i5) _ _ (gIns.le (t := Ty.aj 8) (nw i4) _ _ (gIns.le (t := Ty.lst 6) (nw i3) _ _ (gIns.at (Γ := gIns Γ w1.2 (Ty.lst 4)) (o := w2.2) (t := Ty.lst 5))))
  have hK := gIns.le (t := Ty.aj 8) (nw i5) _ _ (gIns.le (t := Ty.aj 8) (nw i4) _ _ (gIns.at (Γ := gIns (gIns Γ w1.2 (Ty.lst 4)) w2.2 (Ty.lst 5)) (o := w3.2) (t := Ty.lst 6)))
  have hX := gIns.le (t := Ty.aj 8) (nw i5) _ _ (gIns.at (Γ := gIns (gIns (gIns Γ w1.2 (Ty.lst 4)) w2.2 (Ty.lst 5)) w3.2 (Ty.lst 6)) (o := w4.2) (t := Ty.aj 8))
  have hY := gIns.at (Γ := gIns (gIns (gIns (gIns Γ w1.2 (Ty.lst 4)) w2.2 (Ty.lst 5)) w3.2 (Ty.lst 6)) w4.2 (Ty.aj 8)) (o := w5.2) (t := Ty.aj 8)
  generalize gIns (gIns (gIns (gIns (gIns Γ w1.2 (Ty.lst 4)) w2.2 (Ty.lst 5)) w3.2 (Ty.lst 6)) w4.2 (Ty.aj 8)) w5.2 (Ty.aj 8) = Γ6 at i6 c6 hB hP hK hX hY
  have e7 : gp w6 a0 0 6 (.int 0) = some (gup w6 a0 (.inr (0, [.long th, .ref w1.2, .ref w2.2, .ref w3.2, .ref w4.2, .ref w5.2, .int 0, .null, .null, .null]))) := by simp [gp, a6]
  have i7 : gIv Γ6 w0 (gup w6 a0 (.inr (0, [.long th, .ref w1.2, .ref w2.2, .ref w3.2, .ref w4.2, .ref w5.2, .int 0, .null, .null, .null]))) := i6.raw c6.2.1 ha0
  generalize hw7 : gup w6 a0 (.inr (0, [.long th, .ref w1.2, .ref w2.2, .ref w3.2, .ref w4.2, .ref w5.2, .int 0, .null, .null, .null])) = w7 at e7 i7
  have a7 : w7.1 a0 = some (.inr (0, [.long th, .ref w1.2, .ref w2.2, .ref w3.2, .ref w4.2, .ref w5.2, .int 0, .null, .null, .null])) := by rw [← hw7]; simp [gup]
  have l7 : w7.2 = w6.2 := by rw [← hw7]; rfl
  obtain ⟨w8, s8, a8, b8, f8, l8⟩ := i_arr (k := 7) (kd := 0) (M := 900) (N := 900) (v := .int 0) a7 (by omega) (by simp) (by decide)
  simp only [List.set_cons_zero, List.set_cons_succ] at a8
  have i8 := c_new (t := Ty.top) i7 c6.2.1 ha0 f8 l8
  have e9 : gfA w8 a0 0 7 = some w7.2 := by simp [gfA, gf, gvA, a8]
  have b8' : w8.1 w7.2 = some (.inl (0, 900, fun _ => .int 0)) := b8
  have e10 : gal w8 w7.2 = some (nI 900) := by simp [gal, b8']
  obtain ⟨w9, f', r9, f9, l9, b9, v9⟩ := i_fill (g0 := g0) (r := w7.2) (v := -1) (m := nI 900) (K := fun w => some (.inr (), w)) (by decide) 1000 0 w8 _ b8' (by decide) (by decide) (by decide)
  have e11 : f_Ar_fill g0 w7.2 (-1) w8 = some (.inr (), w9) := by
    unfold f_Ar_fill
    rw [e10, Option.bind_some]
    exact r9
  have tr : Γ6.T w7.2 = none := nw i7
  have i9 : gIv Γ6 w0 w9 := c_raw i8 tr (by have := i7.le; omega) f9 (by omega)
  have a9 := (f9 a0 (by omega)).trans a8
  have i10 : gIv (gIns Γ6 w7.2 (Ty.ai 900 (-2147483648) 2147483647)) w0 w9 := i9.ins tr (by omega) (by rw [c6.2.2.2.2]; exact hQ _) ⟨⟨_, b9, f', rfl, fun i _ => by
    rcases v9 i with h | h
    · exact ⟨0, h, by decide, by decide⟩
    · exact ⟨-1, h, by decide, by decide⟩⟩, fun e => by cases e⟩
  have c10 := c6.ins (o := w7.2) (t := Ty.ai 900 (-2147483648) 2147483647) (by omega) hl (by simp) (fun e => by simp at e)
  have le10 := gIns.le (t := Ty.ai 900 (-2147483648) 2147483647) tr
  have hRl := gIns.at (Γ := Γ6) (o := w7.2) (t := Ty.ai 900 (-2147483648) 2147483647)
  generalize gIns Γ6 w7.2 (Ty.ai 900 (-2147483648) 2147483647) = Γ10 at i10 c10 le10 hRl
  have q10 : ∀ t, Γ10.Q t = false := by intro t; rw [c10.2.2.2.2]; exact hQ t
  have h11 : (gpush w9 (.inr (2, [.null, .int 0]))).1 w9.2 = some (.inr (2, [.null, .int 0])) := by simp [gpush]
  have ge9 : w0.2 ≤ w9.2 := i9.le
  have hp9 : (gpush w9 (.inr (2, [.null, .int 0]))).2 = w9.2 + 1 := rfl
  obtain ⟨w10, Γ11, r10, i11, t11, k11, n11, R11, Q11, l11, f11⟩ := c_lay (g0 := g0) (i10.push (.inr (2, [.null, .int 0]))).1 q10 (nw i10) ge9 h11 (by rw [hp9]; omega)
  have c11 := c10.lay (o := w9.2) (m := w9.2 + 1) (by omega) (by omega) (by omega) hl t11 k11 n11 R11 Q11
  have le11 : gLe Γ10 Γ11 := fun q t h => (k11 q (by have := i10.lt q t h; rw [hp9]; omega) (by have := i10.lt q t h; omega)).trans h
  have a10 : w10.1 a0 = some (.inr (0, [.long th, .ref w1.2, .ref w2.2, .ref w3.2, .ref w4.2, .ref w5.2, .int 0, .ref w7.2, .null, .null])) := (f11 a0 (by rw [hp9]; omega) (by omega)).trans ((by simp [gpush, show a0 ≠ w9.2 by omega]; exact a9))
  have e12 : gp w10 a0 0 8 (.ref w9.2) = some (gup w10 a0 (.inr (0, [.long th, .ref w1.2, .ref w2.2, .ref w3.2, .ref w4.2, .ref w5.2, .int 0, .ref w7.2, .ref w9.2, .null]))) := by simp [gp, a10]
  have i12 : gIv Γ11 w0 (gup w10 a0 (.inr (0, [.long th, .ref w1.2, .ref w2.2, .ref w3.2, .ref w4.2, .ref w5.2, .int 0, .ref w7.2, .ref w9.2, .null]))) := i11.raw c11.2.1 ha0
  generalize hw11 : gup w10 a0 (.inr (0, [.long th, .ref w1.2, .ref w2.2, .ref w3.2, .ref w4.2, .ref w5.2, .int 0, .ref w7.2, .ref w9.2, .null])) = w11 at e12 i12
  have a11 : w11.1 a0 = some (.inr (0, [.long th, .ref w1.2, .ref w2.2, .ref w3.2, .ref w4.2, .ref w5.2, .int 0, .ref w7.2, .ref w9.2, .null])) := by rw [← hw11]; simp [gup]
  have l12 : w11.2 = w10.2 := by rw [← hw11]; rfl
  rw [hp9] at l11
  have q11 : ∀ t, Γ11.Q t = false := by intro t; rw [c11.2.2.2.2]; exact hQ t
  have h13 : (gpush w11 (.inr (2, [.null, .int 0]))).1 w11.2 = some (.inr (2, [.null, .int 0])) := by simp [gpush]
  have hp11 : (gpush w11 (.inr (2, [.null, .int 0]))).2 = w11.2 + 1 := rfl
  obtain ⟨w12, Γ13, r12, i13, t13, k13, n13, R13, Q13, l13, f13⟩ := c_lay (g0 := g0) (i12.push (.inr (2, [.null, .int 0]))).1 q11 (nw i12) i12.le h13 (by rw [hp11]; omega)
  have c13 := c11.lay (o := w11.2) (m := w11.2 + 1) (by omega) (by omega) (by omega) hl t13 k13 n13 R13 Q13
  have le13 : gLe Γ11 Γ13 := fun q t h => (k13 q (by have := i12.lt q t h; rw [hp11]; omega) (by have := i12.lt q t h; omega)).trans h
  have a12 : w12.1 a0 = some (.inr (0, [.long th, .ref w1.2, .ref w2.2, .ref w3.2, .ref w4.2, .ref w5.2, .int 0, .ref w7.2, .ref w9.2, .null])) := (f13 a0 (by rw [hp11]; omega) (by omega)).trans ((by simp [gpush, show a0 ≠ w11.2 by omega]; exact a11))
  have e14 : gp w12 a0 0 9 (.ref w11.2) = some (gup w12 a0 (.inr (0, [.long th, .ref w1.2, .ref w2.2, .ref w3.2, .ref w4.2, .ref w5.2, .int 0, .ref w7.2, .ref w9.2, .ref w11.2]))) := by simp [gp, a12]
  have i14 : gIv Γ13 w0 (gup w12 a0 (.inr (0, [.long th, .ref w1.2, .ref w2.2, .ref w3.2, .ref w4.2, .ref w5.2, .int 0, .ref w7.2, .ref w9.2, .ref w11.2]))) := i13.raw c13.2.1 ha0
  rw [hp11] at l13
  have leT := gIns.le (t := Ty.top) c13.2.1
  have up : ∀ {q : Nat} {t : Ty}, Γ6.T q = some t → (gIns Γ13 a0 Ty.top).T q = some t := fun h => leT _ _ (le13 _ _ (le11 _ _ (le10 _ _ h)))
  refine ⟨gup w12 a0 (.inr (0, [.long th, .ref w1.2, .ref w2.2, .ref w3.2, .ref w4.2, .ref w5.2, .int 0, .ref w7.2, .ref w9.2, .ref w11.2])), Γ13, ?_, i14.ins c13.2.1 (by simp only [gup]; omega) (by rw [c13.2.2.2.2]; exact hQ _) ((okE_obj (by unfold isO; simp)).mpr ⟨_, by simp only [gup, if_true]; rfl, rfl, fun k s v hk hv => ?_⟩), c13, by simp only [gup]; omega⟩
  · unfold f_B_init
    rw [e1, gb_r, e2, gb_r, e3, Option.bind_some, s2, s3, s4, s5, s6, e7, Option.bind_some, s8, e9, Option.bind_some, e11, gb_r]
    simp only [gnw, gb2f]
    rw [r10, gb_r, e12, Option.bind_some]
    rw [r12, gb_r, e14, Option.bind_some]
  · have hk' := (List.getElem?_eq_some_iff.mp hk).1
    have hln : (specs Ty.top).2.length = 10 := rfl
    rw [hln] at hk'
    have hR0 : (gIns Γ13 a0 Ty.top).R 0 = (0, 8) := by
      show Γ13.R 0 = _
      rw [c13.2.2.2.1, hR]
      rfl
    match k, hk' with
    | 0, _ => cases hk; cases hv; trivial
    | 1, _ => cases hk; cases hv; exact up hB
    | 2, _ => cases hk; cases hv; exact up hP
    | 3, _ => cases hk; cases hv; exact up hK
    | 4, _ => cases hk; cases hv; exact up hX
    | 5, _ => cases hk; cases hv; exact up hY
    | 6, _ => cases hk; cases hv; show ((gIns Γ13 a0 Ty.top).R 0).1 ≤ _ ∧ _ ≤ ((gIns Γ13 a0 Ty.top).R 0).2; rw [hR0]; decide
    | 7, _ => cases hk; cases hv; exact leT _ _ (le13 _ _ (le11 _ _ hRl))
    | 8, _ => cases hk; cases hv; exact leT _ _ (le13 _ _ t11)
    | 9, _ => cases hk; cases hv; exact leT _ _ t13
end
