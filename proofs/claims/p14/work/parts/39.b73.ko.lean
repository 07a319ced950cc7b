section
variable {Γ : gΓ} {w0 w : gW} {g0 : gG} {E : String → gW → Prop}
def gOne_place (Γ : gΓ) (n : Nat) : gΓ := (fun q => if q = n then some Ty.place else Γ.T q, Γ.R, Γ.Q)
theorem n_place {v5 : Nat} (hI : gIv Γ w0 w) (hv5 : Γ.T v5 = some Ty.body) (hQ : ∀ t, Γ.Q t = false) : ∃ (w1 : gW) (Γ1 : gΓ), f_Pl_init g0 w.2 v5 (gpush w (.inr (5, [.null, .long 0, .long 0, .int 0, .int 0]))) = some (.inr (), w1) ∧ gIv Γ1 w0 w1 ∧ gAl Γ w Γ1 w1 ∧ Γ1.R = Γ.R ∧ Γ1.T w.2 = some Ty.place ∧ (∀ q, q < w.2 → w1.1 q = w.1 q) := by
  have key : ∃ w1, f_Pl_init g0 w.2 v5 (gpush w (.inr (5, [.null, .long 0, .long 0, .int 0, .int 0]))) = some (.inr (), w1) ∧ w1.1 w.2 = some (.inr (5, [.ref v5, .long 0, .long 0, .int 0, .int 0])) ∧ (∀ q, q < w.2 → w1.1 q = w.1 q) ∧ w1.2 = w.2 + 1 := by
    generalize hx : f_Pl_init g0 w.2 v5 (gpush w (.inr (5, [.null, .long 0, .long 0, .int 0, .int 0]))) = x
    simp [f_Pl_init, gpush, gp, gup] at hx
    subst hx
    refine ⟨_, rfl, by simp, fun q hq => ?_, rfl⟩
    have h3 : q ≠ w.2 := by omega
    simp [h3]
  obtain ⟨w1, e1, e2, e5, e6⟩ := key
  have hT : ∀ q, (gOne_place Γ w.2).T q = if q = w.2 then some Ty.place else Γ.T q := fun _ => rfl
  have hold : ∀ q, q < w.2 → (gOne_place Γ w.2).T q = Γ.T q := by
    intro q hq
    rw [hT, if_neg (by omega)]
  have t0 : (gOne_place Γ w.2).T w.2 = some Ty.place := by rw [hT, if_pos rfl]
  have new : ∀ q t, w.2 ≤ q → (gOne_place Γ w.2).T q = some t → q = w.2 ∧ t = Ty.place := by
    intro q t hq ht
    rw [hT] at ht
    split at ht
    · exact ⟨by assumption, (Option.some.inj ht).symm⟩
    · have := hI.lt q t ht
      omega
  refine ⟨w1, gOne_place Γ w.2, e1, hI.ext e5 (by omega) hold rfl rfl (fun q t hq ht => ?_), ⟨hold, fun q t hq ht => ?_, rfl, by omega⟩, rfl, t0, e5⟩
  · obtain ⟨a, b⟩ := new q t hq ht
    subst a b
    refine ⟨(okE_obj (by unfold isO; simp)).mpr ⟨_, e2, rfl, fun k s v hk hv => ?_⟩, by omega, hQ _⟩
    have hk' := (List.getElem?_eq_some_iff.mp hk).1
    have hl : (specs Ty.place).2.length = 5 := rfl
    rw [hl] at hk'
    match k, hk' with
    | 0, _ => cases hk; cases hv; exact (hold _ (hI.lt _ _ hv5)).trans hv5
    | 1, _ => cases hk; cases hv; trivial
    | 2, _ => cases hk; cases hv; trivial
    | 3, _ => cases hk; cases hv; exact y_any 0
    | 4, _ => cases hk; cases hv; exact y_any 0
  · obtain ⟨a, b⟩ := new q t hq ht
    subst b
    exact ⟨by decide, fun e => by cases e⟩
def gOne_keep (Γ : gΓ) (n : Nat) : gΓ := (fun q => if q = n then some Ty.keep else Γ.T q, Γ.R, Γ.Q)
theorem n_keep {o : Nat} {s : Int32} (hI : gIv Γ w0 w) (ho : Γ.T o = some Ty.solid) (hQ : ∀ t, Γ.Q t = false) : ∃ (w1 : gW) (Γ1 : gΓ), f_Ko_init g0 w.2 o s (gpush w (.inr (6, [.null, .int 0]))) = some (.inr (), w1) ∧ gIv Γ1 w0 w1 ∧ gAl Γ w Γ1 w1 ∧ Γ1.R = Γ.R ∧ Γ1.T w.2 = some Ty.keep ∧ (∀ q, q < w.2 → w1.1 q = w.1 q) := by
  have key : ∃ w1, f_Ko_init g0 w.2 o s (gpush w (.inr (6, [.null, .int 0]))) = some (.inr (), w1) ∧ w1.1 w.2 = some (.inr (6, [.ref o, .int s])) ∧ (∀ q, q < w.2 → w1.1 q = w.1 q) ∧ w1.2 = w.2 + 1 := by
    generalize hx : f_Ko_init g0 w.2 o s (gpush w (.inr (6, [.null, .int 0]))) = x
    simp [f_Ko_init, gpush, gp, gup] at hx
    subst hx
    refine ⟨_, rfl, by simp, fun q hq => ?_, rfl⟩
    have h3 : q ≠ w.2 := by omega
    simp [h3]
  obtain ⟨w1, e1, e2, e5, e6⟩ := key
  have hT : ∀ q, (gOne_keep Γ w.2).T q = if q = w.2 then some Ty.keep else Γ.T q := fun _ => rfl
  have hold : ∀ q, q < w.2 → (gOne_keep Γ w.2).T q = Γ.T q := by
    intro q hq
    rw [hT, if_neg (by omega)]
  have t0 : (gOne_keep Γ w.2).T w.2 = some Ty.keep := by rw [hT, if_pos rfl]
  have new : ∀ q t, w.2 ≤ q → (gOne_keep Γ w.2).T q = some t → q = w.2 ∧ t = Ty.keep := by
    intro q t hq ht
    rw [hT] at ht
    split at ht
    · exact ⟨by assumption, (Option.some.inj ht).symm⟩
    · have := hI.lt q t ht
      omega
  refine ⟨w1, gOne_keep Γ w.2, e1, hI.ext e5 (by omega) hold rfl rfl (fun q t hq ht => ?_), ⟨hold, fun q t hq ht => ?_, rfl, by omega⟩, rfl, t0, e5⟩
  · obtain ⟨a, b⟩ := new q t hq ht
    subst a b
    refine ⟨(okE_obj (by unfold isO; simp)).mpr ⟨_, e2, rfl, fun k s v hk hv => ?_⟩, by omega, hQ _⟩
    have hk' := (List.getElem?_eq_some_iff.mp hk).1
    have hl : (specs Ty.keep).2.length = 2 := rfl
    rw [hl] at hk'
    match k, hk' with
    | 0, _ => cases hk; cases hv; exact (hold _ (hI.lt _ _ ho)).trans ho
    | 1, _ => cases hk; cases hv; exact y_any s
  · obtain ⟨a, b⟩ := new q t hq ht
    subst b
    exact ⟨by decide, fun e => by cases e⟩
def gQp : Ty → Bool := fun t => !decide (t = Ty.place)
set_option maxHeartbeats 1000000 in
theorem t_B_place {a0 : Nat} {p1 : Int32} {p2 : Int64} {p3 : Int64} {p4 : Int32} {p5 : Int32} (hI : gIv Γ w0 w) (ha0 : Γ.T a0 = some Ty.top) (hR : (Γ.R 0).1 = 0 ∧ (Γ.R 0).2 = 8 ∧ (Γ.R 3).1 = 0 ∧ (Γ.R 3).2 = 12 ∧ (Γ.R 4).1 = 0 ∧ (Γ.R 4).2 = 30 ∧ (Γ.R 5).1 = 0 ∧ (Γ.R 5).2 = 30 ∧ 0 ≤ (Γ.R 6).1 ∧ (Γ.R 6).2 ≤ 10) (hQ : ∀ t, Γ.Q t = false) (hE : ∀ y, Γ.T y = some Ty.mty → y = g0.1)  : gSat (f_B_place g0 a0 p1 p2 p3 p4 p5 w) (fun v w' => ∃ Γ', gIv Γ' w0 w' ∧ gAl Γ w Γ' w' ∧ Γ'.R = Γ.R) (fun n w' => (n = "java/lang/IndexOutOfBoundsException" ∨ n = "java/lang/IllegalArgumentException") ∧ gIv Γ w0 w') := by
  unfold f_B_place
  refine w_ck hI ha0 rfl (by decide) ?_
  refine w_call (t_B_bodyAt hI ha0 hR) (fun _ _ h => ⟨Or.inl h.1, h.2⟩) ?_
  rintro v5 w' ⟨e, hv5, -⟩
  rw [e]
  clear e w'
  refine w_call (t_B_needPosition hI) (fun _ _ h => ⟨Or.inr h.1, h.2⟩) ?_
  rintro _ w' ⟨e, -⟩
  rw [e]
  clear e w'
  refine w_A hI ha0 rfl ?_
  intro P0 hP hPT
  refine w_ck hI hPT rfl (by decide) ?_
  refine w_size hI hPT ?_
  intro s hs h0 h1 h2
  refine gSat.ite ?_ ?_
  · intro hc
    have e30 : (30 : Int32).toInt = 30 := by decide
    rw [Int32.lt_iff_toInt_lt, e30] at hc
    simp only [gnw, gb2f]
    obtain ⟨w1, Γ1, e1, i1, al1, r1, ho, f1⟩ := n_place (g0 := g0) hI hv5 hQ
    rw [e1, gb_r]
    have hf := i1.freeze gQp
    have hle1 := al1.le hI
    refine w_ck i1 ho rfl (by decide) ?_
    refine w_call (t_Pl_goTo (Γ := (Γ1.T, Γ1.R, gQp)) hf ho rfl) (fun _ _ h => h.elim) ?_
    rintro _ w2 ⟨i2, -⟩
    have hq1 : ∀ t, Γ1.Q t = false := by intro t; rw [al1.2.2.1]; exact hQ t
    have i2' : gIv Γ1 w0 w2 := i1.thaw i2 (fun t ht => by rw [hq1 t] at ht; cases ht)
    have eP : gfA w2 a0 0 2 = some P0 := (fr_A (i2.fz _ _ (hle1 _ _ ha0) rfl)).trans ((fr_A (f1 _ (hI.lt _ _ ha0))).trans hP)
    have eS : gf w2 P0 1 1 = some (.int s) := (fr_f (i2.fz _ _ (hle1 _ _ hPT) rfl)).trans ((fr_f (f1 _ (hI.lt _ _ hPT))).trans hs)
    obtain ⟨w3, Γ2, g1, g2, g3, g4, -, -⟩ := a_add (g0 := g0) (R := Γ1.R) i2' (hle1 _ _ hPT) (by decide) ho eS (by omega) (al1.mt hE) (fun _ _ => rfl) (by rw [r1]; omega) (Or.inl rfl) hq1
    rw [eP, Option.bind_some]
    refine w_ck i2' (hle1 _ _ hPT) rfl (by decide) ?_
    rw [g1, gb_r]
    have al12 : gAl Γ1 w1 Γ1 w2 := gAl.same i2.le i1
    exact gSat.ret ⟨Γ2, g2, al1.tr (al12.tr g3), g4.trans r1⟩
  · intro _
    exact gSat.ret ⟨Γ, hI, gAl.same (Nat.le_refl _) hI, rfl⟩
set_option maxHeartbeats 1000000 in
theorem t_B_keepOut {a0 K0 : Nat} {x0 y0 x1 y1 : Int64} {s : Int32} {hh : Int64} {κ : Int} (hI : gIv Γ w0 w) (ha0 : Γ.T a0 = some Ty.top) (hQ : ∀ t, Γ.Q t = false) (hE : ∀ y, Γ.T y = some Ty.mty → y = g0.1) (hU : ∀ b u, Γ.T b = some u → u.1 = 1 → u.2.1 = 6 → b = K0) (hκ : Γ.R 6 = (κ, κ)) (hκ0 : 0 ≤ κ) (hκ1 : κ ≤ 10) :
    gSat (f_B_keepOut g0 a0 x0 y0 x1 y1 s hh w) (fun v w' => dKO x0 y0 x1 y1 s hh ∧ ((κ < 10 ∧ v = 1 ∧ ∃ Γ', gIv Γ' w0 w' ∧ gAl Γ w Γ' w' ∧ Γ'.R = (fun k => if k = 6 then (κ + 1, κ + 1) else Γ.R k)) ∨ (κ = 10 ∧ v = 0 ∧ gIv Γ w0 w'))) (fun n w' => ¬ dKO x0 y0 x1 y1 s hh ∧ n = "java/lang/IllegalArgumentException" ∧ gIv Γ w0 w') := by
  by_cases hp : dKO x0 y0 x1 y1 s hh
  · obtain ⟨h1, h2, h3, h4, h5, h6⟩ := id hp
    unfold f_B_keepOut
    simp only [q_need, if_pos h1, if_pos h2, if_pos h3, if_pos h4, if_pos h5, if_pos h6, gb_r]
    refine w_A hI ha0 rfl ?_
    intro K1 hK hKT
    have hK1 : K1 = K0 := hU _ _ hKT rfl rfl
    subst hK1
    refine w_ck hI hKT rfl (by decide) ?_
    refine w_size hI hKT ?_
    intro v hv v0 v1 v2
    rw [hκ] at v1 v2
    simp only at v1 v2
    have hvk : v.toInt = κ := by omega
    have e10 : (10 : Int32).toInt = 10 := by decide
    refine gSat.ite ?_ ?_
    · intro hc
      rw [Int32.lt_iff_toInt_lt, e10] at hc
      simp only [gnw, gb2f]
      obtain ⟨w1, Γ1, e1, i1, al1, r1, ho, f1⟩ := n_solid (g0 := g0) hI (hQ _) (hQ _)
      rw [e1, gb_r]
      have hf := i1.freeze gQs
      have hle1 := al1.le hI
      have hq1 : ∀ t, Γ1.Q t = false := by intro t; rw [al1.2.2.1]; exact hQ t
      refine w_ck i1 ho rfl (by decide) ?_
      refine w_call (t_So_begin (Γ := (Γ1.T, Γ1.R, gQs)) hf ho rfl) (fun _ _ h => h.elim) ?_
      rintro _ w2 ⟨i2, -⟩
      refine w_ck i2 ho rfl (by decide) ?_
      refine w_call (t_So_addRectangle (Γ := (Γ1.T, Γ1.R, gQs)) i2 ho rfl rfl) (fun _ _ h => h.elim) ?_
      rintro _ w3 ⟨i3, -⟩
      refine w_j0 (fun w' => gIv (Γ1.T, Γ1.R, gQs) w1 w') ?_ ?_
      · intro K hK'
        refine gSat.ite ?_ ?_
        · intro _
          refine w_ck i3 ho rfl (by decide) ?_
          refine w_call (t_So_setHeights (Γ := (Γ1.T, Γ1.R, gQs)) i3 ho rfl) (fun _ _ h => h.elim) ?_
          rintro _ w4 ⟨i4, -⟩
          exact hK' _ i4
        · intro _
          refine w_J i3 (hle1 _ _ ha0) rfl ?_
          intro _
          refine w_J i3 (hle1 _ _ ha0) rfl ?_
          intro _
          refine w_ck i3 ho rfl (by decide) ?_
          refine w_call (t_So_setHeights (Γ := (Γ1.T, Γ1.R, gQs)) i3 ho rfl) (fun _ _ h => h.elim) ?_
          rintro _ w4 ⟨i4, -⟩
          exact hK' _ i4
      · intro w4 i4
        have i4' : gIv Γ1 w0 w4 := i1.thaw i4 (fun t ht => by rw [hq1 t] at ht; cases ht)
        have eK : gfA w4 a0 0 3 = some K1 := (fr_A (i4.fz _ _ (hle1 _ _ ha0) rfl)).trans ((fr_A (f1 _ (hI.lt _ _ ha0))).trans hK)
        have eS : gf w4 K1 1 1 = some (.int v) := (fr_f (i4.fz _ _ (hle1 _ _ hKT) rfl)).trans ((fr_f (f1 _ (hI.lt _ _ hKT))).trans hv)
        rw [eK, Option.bind_some]
        obtain ⟨w5, Γ2, e5, i5, al2, r2, ho2, f2⟩ := n_keep (g0 := g0) (o := w.2) (s := s) i4' ho hq1
        try simp only [gnw, gb2f]
        rw [e5, gb_r]
        have hle2 := al2.le i4'
        have hq2 : ∀ t, Γ2.Q t = false := by intro t; rw [al2.2.2.1]; exact hq1 t
        have hKT2 := hle2 _ _ (hle1 _ _ hKT)
        refine w_ck i5 hKT2 rfl (by decide) ?_
        have al14 : gAl Γ1 w1 Γ1 w4 := gAl.same i4.le i1
        have al15 := al1.tr (al14.tr al2)
        have hU2 : ∀ b u, Γ2.T b = some u → u.1 = 1 → u.2.1 = 6 → b = K1 := by
          intro b u hb hu1 hu2
          by_cases hbw : b < w.2
          · exact hU b u (by rw [← al15.1 b hbw]; exact hb) hu1 hu2
          · exact absurd hu2 ((al15.2.1 b u (by omega) hb).2 hu1)
        have eS2 : gf w5 K1 1 1 = some (.int v) := (fr_f (f2 _ (i4'.lt _ _ (hle1 _ _ hKT)))).trans eS
        obtain ⟨w6, Γ3, g1, g2, g3, g4, -, -⟩ := a_add (g0 := g0) (R := fun k => if k = 6 then (κ + 1, κ + 1) else Γ2.R k) i5 hKT2 (by decide) ho2 eS2 (by omega) (al2.mt (al1.mt hE)) (fun k hk => by simp [hk]) (by simp; omega) (Or.inr hU2) hq2
        rw [g1, gb_r]
        exact gSat.guard (by simp) (gSat.ret ⟨hp, Or.inl ⟨by omega, rfl, Γ3, g2, al15.tr g3, by rw [g4, r2, r1]⟩⟩)
    · intro hc
      rw [Int32.lt_iff_toInt_lt, e10] at hc
      exact gSat.guard (by simp) (gSat.ret ⟨hp, Or.inr ⟨by omega, rfl, hI⟩⟩)
  · rw [q_BkeepNo hp]
    exact ⟨_, rfl, hp, rfl, hI.thr⟩
end
