section
variable {g0 : gG} {b L c1 c2 c3 K0 : Nat} {xs : Nat → Int32} {κ : Int} {Γc Γm Γ' : gΓ} {w w' : gW}
def CS (g0 : gG) (c1 c3 K0 : Nat) (κ : Int) (Γ : gΓ) : Prop := Γ.T c1 = some Ty.top ∧ Γ.T c3 = some (Ty.aj 1) ∧ ((Γ.R 0).1 = 0 ∧ (Γ.R 0).2 = 8 ∧ (Γ.R 3).1 = 0 ∧ (Γ.R 3).2 = 12 ∧ (Γ.R 4).1 = 0 ∧ (Γ.R 4).2 = 30 ∧ (Γ.R 5).1 = 0 ∧ (Γ.R 5).2 = 30) ∧ Γ.R 6 = (κ, κ) ∧ (∀ t, Γ.Q t = false) ∧ (∀ y, Γ.T y = some Ty.mty → y = g0.1) ∧ Γ.T g0.1 = some Ty.mty ∧ (∀ b u, Γ.T b = some u → u.1 = 1 → u.2.1 = 6 → b = K0)
def MS (c2 : Nat) (κ : Int) (Γ : gΓ) : Prop := Γ.T c2 = some Ty.model ∧ (∀ b u, Γ.T b = some u → u.1 = 8 → b = c2) ∧ (∀ b u, Γ.T b = some u → u.1 ≠ 1) ∧ ((Γ.R 10).1 = 0 ∧ (Γ.R 10).2 = 30 ∧ (Γ.R 11).1 = 0 ∧ (Γ.R 11).2 = 8 ∧ (Γ.R 12).1 = 0 ∧ (Γ.R 12).2 = 30) ∧ Γ.R 13 = (κ, κ) ∧ (∀ t, Γ.Q t = false)
def DJ (b L : Nat) (xs : Nat → Int32) (Γc Γm : gΓ) (w : gW) : Prop := (∀ q t, Γm.T q = some t → Γc.T q = none) ∧ Γc.T b = none ∧ Γm.T b = none ∧ b < w.2 ∧ w.1 b = some (.inl (4, L, fun j => .int (xs j)))
theorem gIv.keep {Γ : gΓ} (h : gIv Γ w w) (hf : ∀ q t, Γ.T q = some t → w'.1 q = w.1 q) (hle : w.2 ≤ w'.2) : gIv Γ w' w' :=
  ⟨fun a t ht => (h.ok a t ht).mono (fun _ _ e => e) (fun _ _ => rfl) (hf a t ht) (fun _ => ⟨rfl, fun y n hy => hf y _ hy⟩), fun a t ht => Nat.lt_of_lt_of_le (h.lt a t ht) hle, Nat.le_refl _, fun _ _ _ => rfl, fun _ _ _ _ => rfl⟩
theorem step_c (hc : gIv Γc w w) (hm : gIv Γm w w) (dj : DJ b L xs Γc Γm w) (i : gIv Γ' w w') (al : gAl Γc w Γ' w') : gIv Γ' w' w' ∧ gIv Γm w' w' ∧ DJ b L xs Γ' Γm w' := by
  obtain ⟨d1, d2, d3, d4, d5⟩ := dj
  have hn : ∀ q t, Γm.T q = some t → Γ'.T q = none := fun q t ht => (al.1 q (hm.lt q t ht)).trans (d1 q t ht)
  have hb : Γ'.T b = none := (al.1 b d4).trans d2
  exact ⟨i.rebase, hm.keep (fun q t ht => i.fr q (hm.lt q t ht) (hn q t ht)) al.2.2.2, hn, hb, d3, Nat.lt_of_lt_of_le d4 al.2.2.2, (i.fr b d4 hb).trans d5⟩
theorem step_m (hc : gIv Γc w w) (hm : gIv Γm w w) (dj : DJ b L xs Γc Γm w) (i : gIv Γ' w w') (hT : Γ'.T = Γm.T) : gIv Γc w' w' ∧ gIv Γ' w' w' ∧ DJ b L xs Γc Γ' w' := by
  obtain ⟨d1, d2, d3, d4, d5⟩ := dj
  have hn : ∀ q t, Γc.T q = some t → Γ'.T q = none := by
    intro q t ht
    rw [hT]
    cases h : Γm.T q with
    | none => rfl
    | some u =>
      rw [d1 q u h] at ht
      cases ht
  have hb : Γ'.T b = none := by rw [hT]; exact d3
  exact ⟨hc.keep (fun q t ht => i.fr q (hc.lt q t ht) (hn q t ht)) i.le, i.rebase, fun q t ht => d1 q t (by rw [← hT]; exact ht), d2, hb, Nat.lt_of_lt_of_le d4 i.le, (i.fr b d4 hb).trans d5⟩
theorem CS.rc {Γ : gΓ} (h : CS g0 c1 c3 K0 κ Γ) (h0 : 0 ≤ κ) (h1 : κ ≤ 10) : (Γ.R 0).1 = 0 ∧ (Γ.R 0).2 = 8 ∧ (Γ.R 3).1 = 0 ∧ (Γ.R 3).2 = 12 ∧ (Γ.R 4).1 = 0 ∧ (Γ.R 4).2 = 30 ∧ (Γ.R 5).1 = 0 ∧ (Γ.R 5).2 = 30 ∧ 0 ≤ (Γ.R 6).1 ∧ (Γ.R 6).2 ≤ 10 := by
  obtain ⟨-, -, ⟨a1, a2, a3, a4, a5, a6, a7, a8⟩, a9, -⟩ := h
  rw [a9]
  exact ⟨a1, a2, a3, a4, a5, a6, a7, a8, h0, h1⟩
theorem MS.rm {Γ : gΓ} (h : MS c2 κ Γ) (h0 : 0 ≤ κ) (h1 : κ ≤ 10) : (Γ.R 10).1 = 0 ∧ (Γ.R 10).2 = 30 ∧ (Γ.R 11).1 = 0 ∧ (Γ.R 11).2 = 8 ∧ (Γ.R 12).1 = 0 ∧ (Γ.R 12).2 = 30 ∧ 0 ≤ (Γ.R 13).1 ∧ (Γ.R 13).2 ≤ 10 := by
  obtain ⟨-, -, -, ⟨a1, a2, a3, a4, a5, a6⟩, a9, -⟩ := h
  rw [a9]
  exact ⟨a1, a2, a3, a4, a5, a6, h0, h1⟩
theorem CS.step {κ' : Int} (hc : gIv Γc w w) (h : CS g0 c1 c3 K0 κ Γc) (al : gAl Γc w Γ' w') (r : ∀ k, k ≠ 6 → Γ'.R k = Γc.R k) (r6 : Γ'.R 6 = (κ', κ')) : CS g0 c1 c3 K0 κ' Γ' := by
  obtain ⟨a1, a2, a3, a4, a5, a6, a7, a8⟩ := h
  have hle := al.le hc
  refine ⟨hle _ _ a1, hle _ _ a2, ?_, r6, by intro t; rw [al.2.2.1]; exact a5 t, al.mt a6, hle _ _ a7, fun b u hb h1 h2 => ?_⟩
  · rw [r 0 (by decide), r 3 (by decide), r 4 (by decide), r 5 (by decide)]
    exact a3
  · by_cases hbw : b < w.2
    · exact a8 b u (by rw [← al.1 b hbw]; exact hb) h1 h2
    · exact absurd h2 ((al.2.1 b u (by omega) hb).2 h1)
theorem y_thrown {v : Int32} (h : gfI w c2 7 0 = some v) : f_M_thrown g0 c2 w = some (.inr v, w) := by simp [f_M_thrown, h]
theorem rdL (dj : DJ b L xs Γc Γm w) {i : Int32} (h0 : 0 ≤ i.toInt) (h1 : i.toInt < L) : gaI w b i = some (xs i.toInt.toNat) := by
  obtain ⟨-, -, -, -, h⟩ := dj
  have k1 : ¬ i < 0 := by rw [Int32.lt_iff_toInt_lt, Int32.toInt_zero]; omega
  have k2 : i.toNatClampNeg < L := by rw [y_cl]; omega
  have k3 : i.toNatClampNeg = i.toInt.toNat := rfl
  simp [gaI, gki, gar, h, k1, k2, gvI, -Int32.not_lt]
set_option maxRecDepth 20000 in
set_option maxHeartbeats 4000000 in
theorem law_q {P : Int32 → gW → Prop} {E : String → gW → Prop} {K1 K2 K3 : gW → gX Int32} (hL : L ≤ 7169) (hK : ∀ w, gSat (K1 w) P E) (n : Nat) : ∀ (z : Int32) (w : gW) (κ : Int) (Γc Γm : gΓ), gIv Γc w w → gIv Γm w w → CS g0 c1 c3 K0 κ Γc → MS c2 κ Γm → DJ b L xs Γc Γm w → 0 ≤ κ → κ ≤ 10 → 1 ≤ z.toInt → z.toInt ≤ (L : Int) + 1 → (L : Int) + 1 < z.toInt + 14 * n → gSat (f_law_L35 g0 b c1 c2 c3 K1 K2 K3 n z w) P E := by
  induction n with
  | zero =>
    intro z w κ Γc Γm hc hm cs ms dj k0 k1 z0 z1 z2
    exfalso
    omega
  | succ n ih =>
    intro z w κ Γc Γm hc hm cs ms dj k0 k1 z0 z1 z2
    have hgal : gal w b = some (nI L) := by
      obtain ⟨-, -, -, -, h⟩ := dj
      simp [gal, h]
    rw [f_law_L35.eq_2, hgal, Option.bind_some]
    have hLi : (nI L - 14).toInt = (L : Int) - 14 := by
      have e1 : (nI L).toInt = L := by rw [nI, Int32.toInt_ofNat_of_lt (by omega)]
      have e2 : (14 : Int32).toInt = 14 := by decide
      rw [y_sub] <;> rw [e1, e2] <;> omega
    refine gSat.ite ?_ ?_
    · intro _
      exact hK w
    · intro hz
      rw [Int32.lt_iff_toInt_lt, hLi] at hz
      have hzk : ∀ k : Int32, 0 ≤ k.toInt → k.toInt ≤ 13 → 0 ≤ (z + k).toInt ∧ (z + k).toInt < L := by
        intro k a1 a2
        rw [y_add] <;> omega
      have hz14 : (z + 14).toInt = z.toInt + 14 := by
        have e2 : (14 : Int32).toInt = 14 := by decide
        rw [y_add] <;> rw [e2] <;> omega
      rw [rdL dj (i := z) (by omega) (by omega), Option.bind_some]
      generalize xs z.toInt.toNat = op
      have hR := cs.rc k0 k1
      obtain ⟨s1, s2, s3, s4, s5, s6, s7, s8⟩ := id cs
      have nxt : ∀ (w : gW) (κ : Int) (Γc Γm : gΓ), gIv Γc w w → gIv Γm w w → CS g0 c1 c3 K0 κ Γc → MS c2 κ Γm → DJ b L xs Γc Γm w → 0 ≤ κ → κ ≤ 10 → gSat (f_law_L35 g0 b c1 c2 c3 K1 K2 K3 n (z + 14) w) P E := by
        intro w κ Γc Γm a1 a2 a3 a4 a5 a6 a7
        exact ih (z + 14) w κ Γc Γm a1 a2 a3 a4 a5 a6 a7 (by omega) (by omega) (by omega)
      have same : ∀ {w' : gW} {Γ' : gΓ}, gAl Γc w Γ' w' → Γ'.R = Γc.R → CS g0 c1 c3 K0 κ Γ' := fun al r => cs.step hc al (fun k _ => by rw [r]) (by rw [r]; exact s4)
      refine w_jj ?_
      refine gSat.ite ?_ ?_ <;> intro ho0
      case refine_1 =>
        refine w_ck hc s1 rfl (by decide) ?_
        refine w_call (t_B_body hc s1 hR s5 s6 s7) (fun _ _ h => h.elim) ?_
        rintro _ w1 ⟨Γ1, i1, al, r⟩
        obtain ⟨hc1, hm1, dj1⟩ := step_c hc hm dj i1 al
        have cs1 := same al r
        have hRm := ms.rm k0 k1
        obtain ⟨u1, u2, u3, u4, u5, u6⟩ := id ms
        refine w_ck hm1 u1 rfl (by decide) ?_
        refine w_call (t_M_body hm1 u1 hRm (fun t _ _ => u6 t) (u6 _)) (fun _ _ h => h.elim) ?_
        rintro _ w2 ⟨i2, -⟩
        obtain ⟨hc2, hm2, dj2⟩ := step_m hc1 hm1 dj1 i2 rfl
        exact nxt w2 κ _ _ hc2 hm2 cs1 ms dj2 k0 k1
      refine gSat.ite ?_ ?_ <;> intro ho1
      case refine_1 =>
        rw [rdL dj (i := z + 1) (hzk 1 (by decide) (by decide)).1 (hzk 1 (by decide) (by decide)).2, Option.bind_some]
        rw [rdL dj (i := z + 2) (hzk 2 (by decide) (by decide)).1 (hzk 2 (by decide) (by decide)).2, Option.bind_some]
        rw [rdL dj (i := z + 3) (hzk 3 (by decide) (by decide)).1 (hzk 3 (by decide) (by decide)).2, Option.bind_some]
        rw [rdL dj (i := z + 4) (hzk 4 (by decide) (by decide)).1 (hzk 4 (by decide) (by decide)).2, Option.bind_some]
        rw [rdL dj (i := z + 5) (hzk 5 (by decide) (by decide)).1 (hzk 5 (by decide) (by decide)).2, Option.bind_some]
        rw [rdL dj (i := z + 6) (hzk 6 (by decide) (by decide)).1 (hzk 6 (by decide) (by decide)).2, Option.bind_some]
        rw [rdL dj (i := z + 7) (hzk 7 (by decide) (by decide)).1 (hzk 7 (by decide) (by decide)).2, Option.bind_some]
        rw [rdL dj (i := z + 8) (hzk 8 (by decide) (by decide)).1 (hzk 8 (by decide) (by decide)).2, Option.bind_some]
        rw [rdL dj (i := z + 9) (hzk 9 (by decide) (by decide)).1 (hzk 9 (by decide) (by decide)).2, Option.bind_some]
        rw [rdL dj (i := z + 10) (hzk 10 (by decide) (by decide)).1 (hzk 10 (by decide) (by decide)).2, Option.bind_some]
        rw [rdL dj (i := z + 11) (hzk 11 (by decide) (by decide)).1 (hzk 11 (by decide) (by decide)).2, Option.bind_some]
        rw [rdL dj (i := z + 12) (hzk 12 (by decide) (by decide)).1 (hzk 12 (by decide) (by decide)).2, Option.bind_some]
        rw [rdL dj (i := z + 13) (hzk 13 (by decide) (by decide)).1 (hzk 13 (by decide) (by decide)).2, Option.bind_some]
        refine w_call (t_W_box hc s1 s2 hR s5 s6 s7) (fun _ _ h => h.elim) ?_
        rintro _ w1 ⟨Γ1, i1, al, r⟩
        obtain ⟨hc1, hm1, dj1⟩ := step_c hc hm dj i1 al
        have cs1 := same al r
        have hRm := ms.rm k0 k1
        obtain ⟨u1, u2, u3, u4, u5, u6⟩ := id ms
        rw [rdL dj1 (i := z + 1) (hzk 1 (by decide) (by decide)).1 (hzk 1 (by decide) (by decide)).2, Option.bind_some]
        rw [rdL dj1 (i := z + 2) (hzk 2 (by decide) (by decide)).1 (hzk 2 (by decide) (by decide)).2, Option.bind_some]
        rw [rdL dj1 (i := z + 3) (hzk 3 (by decide) (by decide)).1 (hzk 3 (by decide) (by decide)).2, Option.bind_some]
        rw [rdL dj1 (i := z + 4) (hzk 4 (by decide) (by decide)).1 (hzk 4 (by decide) (by decide)).2, Option.bind_some]
        rw [rdL dj1 (i := z + 5) (hzk 5 (by decide) (by decide)).1 (hzk 5 (by decide) (by decide)).2, Option.bind_some]
        rw [rdL dj1 (i := z + 6) (hzk 6 (by decide) (by decide)).1 (hzk 6 (by decide) (by decide)).2, Option.bind_some]
        rw [rdL dj1 (i := z + 7) (hzk 7 (by decide) (by decide)).1 (hzk 7 (by decide) (by decide)).2, Option.bind_some]
        rw [rdL dj1 (i := z + 8) (hzk 8 (by decide) (by decide)).1 (hzk 8 (by decide) (by decide)).2, Option.bind_some]
        rw [rdL dj1 (i := z + 9) (hzk 9 (by decide) (by decide)).1 (hzk 9 (by decide) (by decide)).2, Option.bind_some]
        rw [rdL dj1 (i := z + 10) (hzk 10 (by decide) (by decide)).1 (hzk 10 (by decide) (by decide)).2, Option.bind_some]
        rw [rdL dj1 (i := z + 11) (hzk 11 (by decide) (by decide)).1 (hzk 11 (by decide) (by decide)).2, Option.bind_some]
        rw [rdL dj1 (i := z + 12) (hzk 12 (by decide) (by decide)).1 (hzk 12 (by decide) (by decide)).2, Option.bind_some]
        rw [rdL dj1 (i := z + 13) (hzk 13 (by decide) (by decide)).1 (hzk 13 (by decide) (by decide)).2, Option.bind_some]
        refine w_ck hm1 u1 rfl (by decide) ?_
        refine w_call (t_M_box hm1 u1 hRm (fun t _ _ => u6 t) (u6 _) (u6 _)) (fun _ _ h => h.elim) ?_
        rintro _ w2 ⟨i2, -⟩
        obtain ⟨hc2, hm2, dj2⟩ := step_m hc1 hm1 dj1 i2 rfl
        exact nxt w2 κ _ _ hc2 hm2 cs1 ms dj2 k0 k1
      refine gSat.ite ?_ ?_ <;> intro ho2
      case refine_1 =>
        rw [rdL dj (i := z + 1) (hzk 1 (by decide) (by decide)).1 (hzk 1 (by decide) (by decide)).2, Option.bind_some]
        rw [rdL dj (i := z + 2) (hzk 2 (by decide) (by decide)).1 (hzk 2 (by decide) (by decide)).2, Option.bind_some]
        rw [rdL dj (i := z + 3) (hzk 3 (by decide) (by decide)).1 (hzk 3 (by decide) (by decide)).2, Option.bind_some]
        rw [rdL dj (i := z + 4) (hzk 4 (by decide) (by decide)).1 (hzk 4 (by decide) (by decide)).2, Option.bind_some]
        rw [rdL dj (i := z + 5) (hzk 5 (by decide) (by decide)).1 (hzk 5 (by decide) (by decide)).2, Option.bind_some]
        rw [rdL dj (i := z + 6) (hzk 6 (by decide) (by decide)).1 (hzk 6 (by decide) (by decide)).2, Option.bind_some]
        rw [rdL dj (i := z + 7) (hzk 7 (by decide) (by decide)).1 (hzk 7 (by decide) (by decide)).2, Option.bind_some]
        rw [rdL dj (i := z + 8) (hzk 8 (by decide) (by decide)).1 (hzk 8 (by decide) (by decide)).2, Option.bind_some]
        rw [rdL dj (i := z + 9) (hzk 9 (by decide) (by decide)).1 (hzk 9 (by decide) (by decide)).2, Option.bind_some]
        rw [rdL dj (i := z + 10) (hzk 10 (by decide) (by decide)).1 (hzk 10 (by decide) (by decide)).2, Option.bind_some]
        rw [rdL dj (i := z + 11) (hzk 11 (by decide) (by decide)).1 (hzk 11 (by decide) (by decide)).2, Option.bind_some]
        refine w_call (t_W_cylinder hc s1 s2 hR s5 s6 s7) (fun _ _ h => h.elim) ?_
        rintro _ w1 ⟨Γ1, i1, al, r⟩
        obtain ⟨hc1, hm1, dj1⟩ := step_c hc hm dj i1 al
        have cs1 := same al r
        have hRm := ms.rm k0 k1
        obtain ⟨u1, u2, u3, u4, u5, u6⟩ := id ms
        rw [rdL dj1 (i := z + 1) (hzk 1 (by decide) (by decide)).1 (hzk 1 (by decide) (by decide)).2, Option.bind_some]
        rw [rdL dj1 (i := z + 2) (hzk 2 (by decide) (by decide)).1 (hzk 2 (by decide) (by decide)).2, Option.bind_some]
        rw [rdL dj1 (i := z + 3) (hzk 3 (by decide) (by decide)).1 (hzk 3 (by decide) (by decide)).2, Option.bind_some]
        rw [rdL dj1 (i := z + 4) (hzk 4 (by decide) (by decide)).1 (hzk 4 (by decide) (by decide)).2, Option.bind_some]
        rw [rdL dj1 (i := z + 5) (hzk 5 (by decide) (by decide)).1 (hzk 5 (by decide) (by decide)).2, Option.bind_some]
        rw [rdL dj1 (i := z + 6) (hzk 6 (by decide) (by decide)).1 (hzk 6 (by decide) (by decide)).2, Option.bind_some]
        rw [rdL dj1 (i := z + 7) (hzk 7 (by decide) (by decide)).1 (hzk 7 (by decide) (by decide)).2, Option.bind_some]
        rw [rdL dj1 (i := z + 8) (hzk 8 (by decide) (by decide)).1 (hzk 8 (by decide) (by decide)).2, Option.bind_some]
        rw [rdL dj1 (i := z + 9) (hzk 9 (by decide) (by decide)).1 (hzk 9 (by decide) (by decide)).2, Option.bind_some]
        rw [rdL dj1 (i := z + 10) (hzk 10 (by decide) (by decide)).1 (hzk 10 (by decide) (by decide)).2, Option.bind_some]
        rw [rdL dj1 (i := z + 11) (hzk 11 (by decide) (by decide)).1 (hzk 11 (by decide) (by decide)).2, Option.bind_some]
        refine w_ck hm1 u1 rfl (by decide) ?_
        refine w_call (t_M_cylinder hm1 u1 hRm (fun t _ _ => u6 t) (u6 _) (u6 _)) (fun _ _ h => h.elim) ?_
        rintro _ w2 ⟨i2, -⟩
        obtain ⟨hc2, hm2, dj2⟩ := step_m hc1 hm1 dj1 i2 rfl
        exact nxt w2 κ _ _ hc2 hm2 cs1 ms dj2 k0 k1
      refine gSat.ite ?_ ?_ <;> intro ho3
      case refine_1 =>
        rw [rdL dj (i := z + 1) (hzk 1 (by decide) (by decide)).1 (hzk 1 (by decide) (by decide)).2, Option.bind_some]
        rw [rdL dj (i := z + 2) (hzk 2 (by decide) (by decide)).1 (hzk 2 (by decide) (by decide)).2, Option.bind_some]
        rw [rdL dj (i := z + 3) (hzk 3 (by decide) (by decide)).1 (hzk 3 (by decide) (by decide)).2, Option.bind_some]
        rw [rdL dj (i := z + 4) (hzk 4 (by decide) (by decide)).1 (hzk 4 (by decide) (by decide)).2, Option.bind_some]
        refine w_call (t_W_corner hc s1 s2 hR s5 s6 s7) (fun _ _ h => h.elim) ?_
        rintro _ w1 ⟨Γ1, i1, al, r⟩
        obtain ⟨hc1, hm1, dj1⟩ := step_c hc hm dj i1 al
        have cs1 := same al r
        have hRm := ms.rm k0 k1
        obtain ⟨u1, u2, u3, u4, u5, u6⟩ := id ms
        rw [rdL dj1 (i := z + 1) (hzk 1 (by decide) (by decide)).1 (hzk 1 (by decide) (by decide)).2, Option.bind_some]
        rw [rdL dj1 (i := z + 2) (hzk 2 (by decide) (by decide)).1 (hzk 2 (by decide) (by decide)).2, Option.bind_some]
        rw [rdL dj1 (i := z + 3) (hzk 3 (by decide) (by decide)).1 (hzk 3 (by decide) (by decide)).2, Option.bind_some]
        rw [rdL dj1 (i := z + 4) (hzk 4 (by decide) (by decide)).1 (hzk 4 (by decide) (by decide)).2, Option.bind_some]
        refine w_ck hm1 u1 rfl (by decide) ?_
        refine w_call (t_M_corner hm1 u1 hRm (fun t _ _ => u6 t) (u6 _)) (fun _ _ h => h.elim) ?_
        rintro _ w2 ⟨i2, -⟩
        obtain ⟨hc2, hm2, dj2⟩ := step_m hc1 hm1 dj1 i2 rfl
        exact nxt w2 κ _ _ hc2 hm2 cs1 ms dj2 k0 k1
      refine gSat.ite ?_ ?_ <;> intro ho4
      case refine_1 =>
        rw [rdL dj (i := z + 1) (hzk 1 (by decide) (by decide)).1 (hzk 1 (by decide) (by decide)).2, Option.bind_some]
        rw [rdL dj (i := z + 2) (hzk 2 (by decide) (by decide)).1 (hzk 2 (by decide) (by decide)).2, Option.bind_some]
        rw [rdL dj (i := z + 3) (hzk 3 (by decide) (by decide)).1 (hzk 3 (by decide) (by decide)).2, Option.bind_some]
        rw [rdL dj (i := z + 4) (hzk 4 (by decide) (by decide)).1 (hzk 4 (by decide) (by decide)).2, Option.bind_some]
        rw [rdL dj (i := z + 5) (hzk 5 (by decide) (by decide)).1 (hzk 5 (by decide) (by decide)).2, Option.bind_some]
        refine w_call (t_W_prism hc s1 s2 hR s5 s6 s7) (fun _ _ h => h.elim) ?_
        rintro _ w1 ⟨Γ1, i1, al, r⟩
        obtain ⟨hc1, hm1, dj1⟩ := step_c hc hm dj i1 al
        have cs1 := same al r
        have hRm := ms.rm k0 k1
        obtain ⟨u1, u2, u3, u4, u5, u6⟩ := id ms
        rw [rdL dj1 (i := z + 1) (hzk 1 (by decide) (by decide)).1 (hzk 1 (by decide) (by decide)).2, Option.bind_some]
        rw [rdL dj1 (i := z + 2) (hzk 2 (by decide) (by decide)).1 (hzk 2 (by decide) (by decide)).2, Option.bind_some]
        rw [rdL dj1 (i := z + 3) (hzk 3 (by decide) (by decide)).1 (hzk 3 (by decide) (by decide)).2, Option.bind_some]
        rw [rdL dj1 (i := z + 4) (hzk 4 (by decide) (by decide)).1 (hzk 4 (by decide) (by decide)).2, Option.bind_some]
        rw [rdL dj1 (i := z + 5) (hzk 5 (by decide) (by decide)).1 (hzk 5 (by decide) (by decide)).2, Option.bind_some]
        refine w_ck hm1 u1 rfl (by decide) ?_
        refine w_call (t_M_prism hm1 u1 hRm (fun t _ _ => u6 t) (u6 _) (u6 _)) (fun _ _ h => h.elim) ?_
        rintro _ w2 ⟨i2, -⟩
        obtain ⟨hc2, hm2, dj2⟩ := step_m hc1 hm1 dj1 i2 rfl
        exact nxt w2 κ _ _ hc2 hm2 cs1 ms dj2 k0 k1
      refine gSat.ite ?_ ?_ <;> intro ho5
      case refine_1 =>
        rw [rdL dj (i := z + 1) (hzk 1 (by decide) (by decide)).1 (hzk 1 (by decide) (by decide)).2, Option.bind_some]
        rw [rdL dj (i := z + 2) (hzk 2 (by decide) (by decide)).1 (hzk 2 (by decide) (by decide)).2, Option.bind_some]
        rw [rdL dj (i := z + 3) (hzk 3 (by decide) (by decide)).1 (hzk 3 (by decide) (by decide)).2, Option.bind_some]
        rw [rdL dj (i := z + 4) (hzk 4 (by decide) (by decide)).1 (hzk 4 (by decide) (by decide)).2, Option.bind_some]
        rw [rdL dj (i := z + 5) (hzk 5 (by decide) (by decide)).1 (hzk 5 (by decide) (by decide)).2, Option.bind_some]
        rw [rdL dj (i := z + 6) (hzk 6 (by decide) (by decide)).1 (hzk 6 (by decide) (by decide)).2, Option.bind_some]
        rw [rdL dj (i := z + 7) (hzk 7 (by decide) (by decide)).1 (hzk 7 (by decide) (by decide)).2, Option.bind_some]
        rw [rdL dj (i := z + 8) (hzk 8 (by decide) (by decide)).1 (hzk 8 (by decide) (by decide)).2, Option.bind_some]
        rw [rdL dj (i := z + 9) (hzk 9 (by decide) (by decide)).1 (hzk 9 (by decide) (by decide)).2, Option.bind_some]
        rw [rdL dj (i := z + 10) (hzk 10 (by decide) (by decide)).1 (hzk 10 (by decide) (by decide)).2, Option.bind_some]
        rw [rdL dj (i := z + 11) (hzk 11 (by decide) (by decide)).1 (hzk 11 (by decide) (by decide)).2, Option.bind_some]
        rw [rdL dj (i := z + 12) (hzk 12 (by decide) (by decide)).1 (hzk 12 (by decide) (by decide)).2, Option.bind_some]
        refine w_call (t_W_tube hc s1 s2 hR s5 s6 s7) (fun _ _ h => h.elim) ?_
        rintro _ w1 ⟨Γ1, i1, al, r⟩
        obtain ⟨hc1, hm1, dj1⟩ := step_c hc hm dj i1 al
        have cs1 := same al r
        have hRm := ms.rm k0 k1
        obtain ⟨u1, u2, u3, u4, u5, u6⟩ := id ms
        rw [rdL dj1 (i := z + 1) (hzk 1 (by decide) (by decide)).1 (hzk 1 (by decide) (by decide)).2, Option.bind_some]
        rw [rdL dj1 (i := z + 2) (hzk 2 (by decide) (by decide)).1 (hzk 2 (by decide) (by decide)).2, Option.bind_some]
        rw [rdL dj1 (i := z + 3) (hzk 3 (by decide) (by decide)).1 (hzk 3 (by decide) (by decide)).2, Option.bind_some]
        rw [rdL dj1 (i := z + 4) (hzk 4 (by decide) (by decide)).1 (hzk 4 (by decide) (by decide)).2, Option.bind_some]
        rw [rdL dj1 (i := z + 5) (hzk 5 (by decide) (by decide)).1 (hzk 5 (by decide) (by decide)).2, Option.bind_some]
        rw [rdL dj1 (i := z + 6) (hzk 6 (by decide) (by decide)).1 (hzk 6 (by decide) (by decide)).2, Option.bind_some]
        rw [rdL dj1 (i := z + 7) (hzk 7 (by decide) (by decide)).1 (hzk 7 (by decide) (by decide)).2, Option.bind_some]
        rw [rdL dj1 (i := z + 8) (hzk 8 (by decide) (by decide)).1 (hzk 8 (by decide) (by decide)).2, Option.bind_some]
        rw [rdL dj1 (i := z + 9) (hzk 9 (by decide) (by decide)).1 (hzk 9 (by decide) (by decide)).2, Option.bind_some]
        rw [rdL dj1 (i := z + 10) (hzk 10 (by decide) (by decide)).1 (hzk 10 (by decide) (by decide)).2, Option.bind_some]
        rw [rdL dj1 (i := z + 11) (hzk 11 (by decide) (by decide)).1 (hzk 11 (by decide) (by decide)).2, Option.bind_some]
        rw [rdL dj1 (i := z + 12) (hzk 12 (by decide) (by decide)).1 (hzk 12 (by decide) (by decide)).2, Option.bind_some]
        refine w_ck hm1 u1 rfl (by decide) ?_
        refine w_call (t_M_tube hm1 u1 hRm (fun t _ _ => u6 t) (u6 _) (u6 _)) (fun _ _ h => h.elim) ?_
        rintro _ w2 ⟨i2, -⟩
        obtain ⟨hc2, hm2, dj2⟩ := step_m hc1 hm1 dj1 i2 rfl
        exact nxt w2 κ _ _ hc2 hm2 cs1 ms dj2 k0 k1
      refine gSat.ite ?_ ?_ <;> intro ho6
      case refine_1 =>
        rw [rdL dj (i := z + 1) (hzk 1 (by decide) (by decide)).1 (hzk 1 (by decide) (by decide)).2, Option.bind_some]
        rw [rdL dj (i := z + 2) (hzk 2 (by decide) (by decide)).1 (hzk 2 (by decide) (by decide)).2, Option.bind_some]
        refine w_call (t_W_join hc s1 s2 hR s5 s6 s7) (fun _ _ h => h.elim) ?_
        rintro _ w1 ⟨Γ1, i1, al, r⟩
        obtain ⟨hc1, hm1, dj1⟩ := step_c hc hm dj i1 al
        have cs1 := same al r
        have hRm := ms.rm k0 k1
        obtain ⟨u1, u2, u3, u4, u5, u6⟩ := id ms
        rw [rdL dj1 (i := z + 1) (hzk 1 (by decide) (by decide)).1 (hzk 1 (by decide) (by decide)).2, Option.bind_some]
        rw [rdL dj1 (i := z + 2) (hzk 2 (by decide) (by decide)).1 (hzk 2 (by decide) (by decide)).2, Option.bind_some]
        refine w_ck hm1 u1 rfl (by decide) ?_
        refine w_call (t_M_join hm1 u1 hRm (fun t _ _ => u6 t) (u6 _) (u6 _)) (fun _ _ h => h.elim) ?_
        rintro _ w2 ⟨i2, -⟩
        obtain ⟨hc2, hm2, dj2⟩ := step_m hc1 hm1 dj1 i2 rfl
        exact nxt w2 κ _ _ hc2 hm2 cs1 ms dj2 k0 k1
      refine gSat.ite ?_ ?_ <;> intro ho7
      case refine_1 =>
        rw [rdL dj (i := z + 1) (hzk 1 (by decide) (by decide)).1 (hzk 1 (by decide) (by decide)).2, Option.bind_some]
        rw [rdL dj (i := z + 2) (hzk 2 (by decide) (by decide)).1 (hzk 2 (by decide) (by decide)).2, Option.bind_some]
        rw [rdL dj (i := z + 3) (hzk 3 (by decide) (by decide)).1 (hzk 3 (by decide) (by decide)).2, Option.bind_some]
        rw [rdL dj (i := z + 4) (hzk 4 (by decide) (by decide)).1 (hzk 4 (by decide) (by decide)).2, Option.bind_some]
        rw [rdL dj (i := z + 5) (hzk 5 (by decide) (by decide)).1 (hzk 5 (by decide) (by decide)).2, Option.bind_some]
        rw [rdL dj (i := z + 6) (hzk 6 (by decide) (by decide)).1 (hzk 6 (by decide) (by decide)).2, Option.bind_some]
        rw [rdL dj (i := z + 7) (hzk 7 (by decide) (by decide)).1 (hzk 7 (by decide) (by decide)).2, Option.bind_some]
        refine w_call (t_W_place hc s1 s2 hR s5 s6 s7) (fun _ _ h => h.elim) ?_
        rintro _ w1 ⟨Γ1, i1, al, r⟩
        obtain ⟨hc1, hm1, dj1⟩ := step_c hc hm dj i1 al
        have cs1 := same al r
        have hRm := ms.rm k0 k1
        obtain ⟨u1, u2, u3, u4, u5, u6⟩ := id ms
        rw [rdL dj1 (i := z + 1) (hzk 1 (by decide) (by decide)).1 (hzk 1 (by decide) (by decide)).2, Option.bind_some]
        rw [rdL dj1 (i := z + 2) (hzk 2 (by decide) (by decide)).1 (hzk 2 (by decide) (by decide)).2, Option.bind_some]
        rw [rdL dj1 (i := z + 3) (hzk 3 (by decide) (by decide)).1 (hzk 3 (by decide) (by decide)).2, Option.bind_some]
        rw [rdL dj1 (i := z + 4) (hzk 4 (by decide) (by decide)).1 (hzk 4 (by decide) (by decide)).2, Option.bind_some]
        rw [rdL dj1 (i := z + 5) (hzk 5 (by decide) (by decide)).1 (hzk 5 (by decide) (by decide)).2, Option.bind_some]
        rw [rdL dj1 (i := z + 6) (hzk 6 (by decide) (by decide)).1 (hzk 6 (by decide) (by decide)).2, Option.bind_some]
        rw [rdL dj1 (i := z + 7) (hzk 7 (by decide) (by decide)).1 (hzk 7 (by decide) (by decide)).2, Option.bind_some]
        refine w_ck hm1 u1 rfl (by decide) ?_
        refine w_call (t_M_place hm1 u1 hRm (fun t _ _ => u6 t) (u6 _)) (fun _ _ h => h.elim) ?_
        rintro _ w2 ⟨i2, -⟩
        obtain ⟨hc2, hm2, dj2⟩ := step_m hc1 hm1 dj1 i2 rfl
        exact nxt w2 κ _ _ hc2 hm2 cs1 ms dj2 k0 k1
      refine gSat.ite ?_ ?_ <;> intro ho8
      case refine_1 =>
        rw [rdL dj (i := z + 1) (hzk 1 (by decide) (by decide)).1 (hzk 1 (by decide) (by decide)).2, Option.bind_some]
        rw [rdL dj (i := z + 2) (hzk 2 (by decide) (by decide)).1 (hzk 2 (by decide) (by decide)).2, Option.bind_some]
        rw [rdL dj (i := z + 3) (hzk 3 (by decide) (by decide)).1 (hzk 3 (by decide) (by decide)).2, Option.bind_some]
        rw [rdL dj (i := z + 4) (hzk 4 (by decide) (by decide)).1 (hzk 4 (by decide) (by decide)).2, Option.bind_some]
        rw [rdL dj (i := z + 5) (hzk 5 (by decide) (by decide)).1 (hzk 5 (by decide) (by decide)).2, Option.bind_some]
        rw [rdL dj (i := z + 6) (hzk 6 (by decide) (by decide)).1 (hzk 6 (by decide) (by decide)).2, Option.bind_some]
        rw [rdL dj (i := z + 7) (hzk 7 (by decide) (by decide)).1 (hzk 7 (by decide) (by decide)).2, Option.bind_some]
        refine w_call (t_W_move hc s1 s2 hR s5 s6 s7) (fun _ _ h => h.elim) ?_
        rintro _ w1 ⟨Γ1, i1, al, r⟩
        obtain ⟨hc1, hm1, dj1⟩ := step_c hc hm dj i1 al
        have cs1 := same al r
        have hRm := ms.rm k0 k1
        obtain ⟨u1, u2, u3, u4, u5, u6⟩ := id ms
        rw [rdL dj1 (i := z + 1) (hzk 1 (by decide) (by decide)).1 (hzk 1 (by decide) (by decide)).2, Option.bind_some]
        rw [rdL dj1 (i := z + 2) (hzk 2 (by decide) (by decide)).1 (hzk 2 (by decide) (by decide)).2, Option.bind_some]
        rw [rdL dj1 (i := z + 3) (hzk 3 (by decide) (by decide)).1 (hzk 3 (by decide) (by decide)).2, Option.bind_some]
        rw [rdL dj1 (i := z + 4) (hzk 4 (by decide) (by decide)).1 (hzk 4 (by decide) (by decide)).2, Option.bind_some]
        rw [rdL dj1 (i := z + 5) (hzk 5 (by decide) (by decide)).1 (hzk 5 (by decide) (by decide)).2, Option.bind_some]
        rw [rdL dj1 (i := z + 6) (hzk 6 (by decide) (by decide)).1 (hzk 6 (by decide) (by decide)).2, Option.bind_some]
        rw [rdL dj1 (i := z + 7) (hzk 7 (by decide) (by decide)).1 (hzk 7 (by decide) (by decide)).2, Option.bind_some]
        refine w_ck hm1 u1 rfl (by decide) ?_
        refine w_call (t_M_move hm1 u1 hRm (fun t _ _ => u6 t) (u6 _)) (fun _ _ h => h.elim) ?_
        rintro _ w2 ⟨i2, -⟩
        obtain ⟨hc2, hm2, dj2⟩ := step_m hc1 hm1 dj1 i2 rfl
        exact nxt w2 κ _ _ hc2 hm2 cs1 ms dj2 k0 k1
      refine gSat.ite ?_ ?_ <;> intro ho9
      case refine_1 =>
        rw [rdL dj (i := z + 1) (hzk 1 (by decide) (by decide)).1 (hzk 1 (by decide) (by decide)).2, Option.bind_some]
        rw [rdL dj (i := z + 2) (hzk 2 (by decide) (by decide)).1 (hzk 2 (by decide) (by decide)).2, Option.bind_some]
        refine w_call (t_W_clash hc s1 s2 hR s5 s6 s7) (fun _ _ h => h.elim) ?_
        rintro _ w1 ⟨Γ1, i1, al, r⟩
        obtain ⟨hc1, hm1, dj1⟩ := step_c hc hm dj i1 al
        have cs1 := same al r
        have hRm := ms.rm k0 k1
        obtain ⟨u1, u2, u3, u4, u5, u6⟩ := id ms
        rw [rdL dj1 (i := z + 1) (hzk 1 (by decide) (by decide)).1 (hzk 1 (by decide) (by decide)).2, Option.bind_some]
        rw [rdL dj1 (i := z + 2) (hzk 2 (by decide) (by decide)).1 (hzk 2 (by decide) (by decide)).2, Option.bind_some]
        refine w_ck hm1 u1 rfl (by decide) ?_
        refine w_call (t_M_clash hm1 u1 hRm (fun t _ _ => u6 t) (u6 _)) (fun _ _ h => h.elim) ?_
        rintro _ w2 ⟨i2, -⟩
        obtain ⟨hc2, hm2, dj2⟩ := step_m hc1 hm1 dj1 i2 rfl
        exact nxt w2 κ _ _ hc2 hm2 cs1 ms dj2 k0 k1
      refine gSat.ite ?_ ?_ <;> intro ho10
      case refine_1 =>
        refine w_ck hc s1 rfl (by decide) ?_
        refine w_call (t_V_clashes hc s1 hR s5) (fun _ _ h => h.elim) ?_
        rintro _ w1 ⟨i1, -⟩
        have al : gAl Γc w Γc w1 := gAl.same i1.le hc
        have r : Γc.R = Γc.R := rfl
        obtain ⟨hc1, hm1, dj1⟩ := step_c hc hm dj i1 al
        have cs1 := same al r
        have hRm := ms.rm k0 k1
        obtain ⟨u1, u2, u3, u4, u5, u6⟩ := id ms
        refine w_ck hm1 u1 rfl (by decide) ?_
        refine w_call (t_M_clashes hm1 u1 hRm (fun t _ _ => u6 t) (u6 _)) (fun _ _ h => h.elim) ?_
        rintro _ w2 ⟨i2, -⟩
        obtain ⟨hc2, hm2, dj2⟩ := step_m hc1 hm1 dj1 i2 rfl
        exact nxt w2 κ _ _ hc2 hm2 cs1 ms dj2 k0 k1
      refine gSat.ite ?_ ?_ <;> intro ho11
      case refine_1 =>
        rw [rdL dj (i := z + 1) (hzk 1 (by decide) (by decide)).1 (hzk 1 (by decide) (by decide)).2, Option.bind_some]
        rw [rdL dj (i := z + 2) (hzk 2 (by decide) (by decide)).1 (hzk 2 (by decide) (by decide)).2, Option.bind_some]
        refine w_call (t_W_pair hc s1 s2 hR s5 s6 s7) (fun _ _ h => h.elim) ?_
        rintro _ w1 ⟨Γ1, i1, al, r⟩
        obtain ⟨hc1, hm1, dj1⟩ := step_c hc hm dj i1 al
        have cs1 := same al r
        have hRm := ms.rm k0 k1
        obtain ⟨u1, u2, u3, u4, u5, u6⟩ := id ms
        rw [rdL dj1 (i := z + 1) (hzk 1 (by decide) (by decide)).1 (hzk 1 (by decide) (by decide)).2, Option.bind_some]
        rw [rdL dj1 (i := z + 2) (hzk 2 (by decide) (by decide)).1 (hzk 2 (by decide) (by decide)).2, Option.bind_some]
        refine w_ck hm1 u1 rfl (by decide) ?_
        refine w_call (t_M_pair hm1 u1 hRm (fun t _ _ => u6 t) (u6 _)) (fun _ _ h => h.elim) ?_
        rintro _ w2 ⟨i2, -⟩
        obtain ⟨hc2, hm2, dj2⟩ := step_m hc1 hm1 dj1 i2 rfl
        exact nxt w2 κ _ _ hc2 hm2 cs1 ms dj2 k0 k1
      refine gSat.ite ?_ ?_ <;> intro ho12
      case refine_1 =>
        rw [rdL dj (i := z + 1) (hzk 1 (by decide) (by decide)).1 (hzk 1 (by decide) (by decide)).2, Option.bind_some]
        rw [rdL dj (i := z + 2) (hzk 2 (by decide) (by decide)).1 (hzk 2 (by decide) (by decide)).2, Option.bind_some]
        rw [rdL dj (i := z + 3) (hzk 3 (by decide) (by decide)).1 (hzk 3 (by decide) (by decide)).2, Option.bind_some]
        rw [rdL dj (i := z + 4) (hzk 4 (by decide) (by decide)).1 (hzk 4 (by decide) (by decide)).2, Option.bind_some]
        rw [rdL dj (i := z + 5) (hzk 5 (by decide) (by decide)).1 (hzk 5 (by decide) (by decide)).2, Option.bind_some]
        rw [rdL dj (i := z + 6) (hzk 6 (by decide) (by decide)).1 (hzk 6 (by decide) (by decide)).2, Option.bind_some]
        rw [rdL dj (i := z + 7) (hzk 7 (by decide) (by decide)).1 (hzk 7 (by decide) (by decide)).2, Option.bind_some]
        rw [rdL dj (i := z + 8) (hzk 8 (by decide) (by decide)).1 (hzk 8 (by decide) (by decide)).2, Option.bind_some]
        rw [rdL dj (i := z + 9) (hzk 9 (by decide) (by decide)).1 (hzk 9 (by decide) (by decide)).2, Option.bind_some]
        rw [rdL dj (i := z + 10) (hzk 10 (by decide) (by decide)).1 (hzk 10 (by decide) (by decide)).2, Option.bind_some]
        rw [rdL dj (i := z + 11) (hzk 11 (by decide) (by decide)).1 (hzk 11 (by decide) (by decide)).2, Option.bind_some]
        refine w_call (t_W_keepOut hc s1 s2 s5 s6 s8 s4 k0 k1) (fun _ _ h => h.elim) ?_
        rintro kk w1 ⟨hk, h⟩
        have key : ∃ (Γ1 : gΓ) (κ1 : Int), gIv Γ1 w w1 ∧ gAl Γc w Γ1 w1 ∧ CS g0 c1 c3 K0 κ1 Γ1 ∧ 0 ≤ κ1 ∧ κ1 ≤ 10 ∧ (dKO ((xs (z + 1).toInt.toNat).toInt64 <<< ((32 : Int32).toInt64 &&& 63) ||| (xs (z + 2).toInt.toNat).toInt64 &&& 4294967295) ((xs (z + 3).toInt.toNat).toInt64 <<< ((32 : Int32).toInt64 &&& 63) ||| (xs (z + 4).toInt.toNat).toInt64 &&& 4294967295) ((xs (z + 5).toInt.toNat).toInt64 <<< ((32 : Int32).toInt64 &&& 63) ||| (xs (z + 6).toInt.toNat).toInt64 &&& 4294967295) ((xs (z + 7).toInt.toNat).toInt64 <<< ((32 : Int32).toInt64 &&& 63) ||| (xs (z + 8).toInt.toNat).toInt64 &&& 4294967295) (xs (z + 9).toInt.toNat) ((xs (z + 10).toInt.toNat).toInt64 <<< ((32 : Int32).toInt64 &&& 63) ||| (xs (z + 11).toInt.toNat).toInt64 &&& 4294967295) → (κ < 10 ∧ κ1 = κ + 1 ∧ gaJ w1 c3 0 = some 1) ∨ (κ = 10 ∧ κ1 = κ ∧ gaJ w1 c3 0 = some 0)) ∧ (¬ dKO ((xs (z + 1).toInt.toNat).toInt64 <<< ((32 : Int32).toInt64 &&& 63) ||| (xs (z + 2).toInt.toNat).toInt64 &&& 4294967295) ((xs (z + 3).toInt.toNat).toInt64 <<< ((32 : Int32).toInt64 &&& 63) ||| (xs (z + 4).toInt.toNat).toInt64 &&& 4294967295) ((xs (z + 5).toInt.toNat).toInt64 <<< ((32 : Int32).toInt64 &&& 63) ||| (xs (z + 6).toInt.toNat).toInt64 &&& 4294967295) ((xs (z + 7).toInt.toNat).toInt64 <<< ((32 : Int32).toInt64 &&& 63) ||| (xs (z + 8).toInt.toNat).toInt64 &&& 4294967295) (xs (z + 9).toInt.toNat) ((xs (z + 10).toInt.toNat).toInt64 <<< ((32 : Int32).toInt64 &&& 63) ||| (xs (z + 11).toInt.toNat).toInt64 &&& 4294967295) → κ1 = κ) := by
          rcases h with ⟨hp, h9, hx, Γ1, i1, al, r⟩ | ⟨hx, h10, i1⟩
          · exact ⟨Γ1, κ + 1, i1, al, cs.step hc al (fun k hk => by rw [r]; simp [hk]) (by rw [r]; simp), by omega, by omega, fun _ => Or.inl ⟨h9, rfl, hx⟩, fun h => absurd hp h⟩
          · refine ⟨Γc, κ, i1, gAl.same i1.le hc, cs, k0, k1, fun hp => Or.inr ⟨?_, rfl, hx hp⟩, fun _ => rfl⟩
            rcases h10 with h10 | h10
            · exact absurd hp h10
            · exact h10
        obtain ⟨Γ1, κ1, i1, al, cs1, k2, k3, hd, hnd⟩ := key
        obtain ⟨hc1, hm1, dj1⟩ := step_c hc hm dj i1 al
        obtain ⟨u1, u2, u3, u4, u5, u6⟩ := id ms
        rw [rdL dj1 (i := z + 1) (hzk 1 (by decide) (by decide)).1 (hzk 1 (by decide) (by decide)).2, Option.bind_some]
        rw [rdL dj1 (i := z + 2) (hzk 2 (by decide) (by decide)).1 (hzk 2 (by decide) (by decide)).2, Option.bind_some]
        rw [rdL dj1 (i := z + 3) (hzk 3 (by decide) (by decide)).1 (hzk 3 (by decide) (by decide)).2, Option.bind_some]
        rw [rdL dj1 (i := z + 4) (hzk 4 (by decide) (by decide)).1 (hzk 4 (by decide) (by decide)).2, Option.bind_some]
        rw [rdL dj1 (i := z + 5) (hzk 5 (by decide) (by decide)).1 (hzk 5 (by decide) (by decide)).2, Option.bind_some]
        rw [rdL dj1 (i := z + 6) (hzk 6 (by decide) (by decide)).1 (hzk 6 (by decide) (by decide)).2, Option.bind_some]
        rw [rdL dj1 (i := z + 7) (hzk 7 (by decide) (by decide)).1 (hzk 7 (by decide) (by decide)).2, Option.bind_some]
        rw [rdL dj1 (i := z + 8) (hzk 8 (by decide) (by decide)).1 (hzk 8 (by decide) (by decide)).2, Option.bind_some]
        rw [rdL dj1 (i := z + 9) (hzk 9 (by decide) (by decide)).1 (hzk 9 (by decide) (by decide)).2, Option.bind_some]
        rw [rdL dj1 (i := z + 10) (hzk 10 (by decide) (by decide)).1 (hzk 10 (by decide) (by decide)).2, Option.bind_some]
        rw [rdL dj1 (i := z + 11) (hzk 11 (by decide) (by decide)).1 (hzk 11 (by decide) (by decide)).2, Option.bind_some]
        refine w_ck hm1 u1 rfl (by decide) ?_
        refine w_call (t_M_keepOut hm1 u1 u2 u3 (fun t _ _ => u6 t) (u6 _) u5 k0 k1) (fun _ _ h => h.elim) ?_
        rintro v w2 ⟨ht, h'⟩
        have s2' : Γ1.T c3 = some (Ty.aj 1) := cs1.2.1
        have key2 : ∃ Γm2 : gΓ, gIv Γm2 w1 w2 ∧ Γm2.T = Γm.T ∧ MS c2 κ1 Γm2 ∧ (dKO ((xs (z + 1).toInt.toNat).toInt64 <<< ((32 : Int32).toInt64 &&& 63) ||| (xs (z + 2).toInt.toNat).toInt64 &&& 4294967295) ((xs (z + 3).toInt.toNat).toInt64 <<< ((32 : Int32).toInt64 &&& 63) ||| (xs (z + 4).toInt.toNat).toInt64 &&& 4294967295) ((xs (z + 5).toInt.toNat).toInt64 <<< ((32 : Int32).toInt64 &&& 63) ||| (xs (z + 6).toInt.toNat).toInt64 &&& 4294967295) ((xs (z + 7).toInt.toNat).toInt64 <<< ((32 : Int32).toInt64 &&& 63) ||| (xs (z + 8).toInt.toNat).toInt64 &&& 4294967295) (xs (z + 9).toInt.toNat) ((xs (z + 10).toInt.toNat).toInt64 <<< ((32 : Int32).toInt64 &&& 63) ||| (xs (z + 11).toInt.toNat).toInt64 &&& 4294967295) → (κ < 10 ∧ v = 1) ∨ (κ = 10 ∧ v = 0)) := by
          rcases h' with ⟨hp, h9, hv, i2⟩ | ⟨h9, hv, i2⟩
          · have hk1 : κ1 = κ + 1 := by
              rcases hd hp with h | h
              · exact h.2.1
              · omega
            rw [hk1]
            refine ⟨gRm Γm (κ + 1), i2, rfl, ⟨u1, u2, u3, ?_, ?_, u6⟩, fun _ => Or.inl ⟨h9, hv⟩⟩
            · rw [gRm.R (by decide), gRm.R (by decide), gRm.R (by decide)]
              exact u4
            · rfl
          · refine ⟨Γm, i2, rfl, ?_, fun hp => Or.inr ⟨?_, hv⟩⟩
            · have hk1 : κ1 = κ := by
                rcases h9 with h9 | h9
                · exact hnd h9
                · by_cases hp : dKO ((xs (z + 1).toInt.toNat).toInt64 <<< ((32 : Int32).toInt64 &&& 63) ||| (xs (z + 2).toInt.toNat).toInt64 &&& 4294967295) ((xs (z + 3).toInt.toNat).toInt64 <<< ((32 : Int32).toInt64 &&& 63) ||| (xs (z + 4).toInt.toNat).toInt64 &&& 4294967295) ((xs (z + 5).toInt.toNat).toInt64 <<< ((32 : Int32).toInt64 &&& 63) ||| (xs (z + 6).toInt.toNat).toInt64 &&& 4294967295) ((xs (z + 7).toInt.toNat).toInt64 <<< ((32 : Int32).toInt64 &&& 63) ||| (xs (z + 8).toInt.toNat).toInt64 &&& 4294967295) (xs (z + 9).toInt.toNat) ((xs (z + 10).toInt.toNat).toInt64 <<< ((32 : Int32).toInt64 &&& 63) ||| (xs (z + 11).toInt.toNat).toInt64 &&& 4294967295)
                  · rcases hd hp with h | h
                    · omega
                    · exact h.2.1
                  · exact hnd hp
              rw [hk1]
              exact ms
            · rcases h9 with h9 | h9
              · exact absurd hp h9
              · exact h9
        obtain ⟨Γm2, i2, hT2, ms2, hv⟩ := key2
        obtain ⟨hc2, hm2, dj2⟩ := step_m hc1 hm1 dj1 i2 hT2
        refine w_ck hm2 ms2.1 rfl (by decide) ?_
        rw [y_thrown ht, gb_r, hk, if_pos rfl]
        refine w_jj ?_
        have c3n : Γm2.T c3 = none := by
          rw [hT2]
          cases h : Γm.T c3 with
          | none => rfl
          | some u =>
            have := dj1.1 c3 u h
            rw [s2'] at this
            cases this
        have hw3 : w2.1 c3 = w1.1 c3 := i2.fr c3 (i1.lt _ _ s2') c3n
        have hg3 : gaJ w2 c3 0 = gaJ w1 c3 0 := by
          unfold gaJ gar
          rw [hw3]
        by_cases hp : dKO ((xs (z + 1).toInt.toNat).toInt64 <<< ((32 : Int32).toInt64 &&& 63) ||| (xs (z + 2).toInt.toNat).toInt64 &&& 4294967295) ((xs (z + 3).toInt.toNat).toInt64 <<< ((32 : Int32).toInt64 &&& 63) ||| (xs (z + 4).toInt.toNat).toInt64 &&& 4294967295) ((xs (z + 5).toInt.toNat).toInt64 <<< ((32 : Int32).toInt64 &&& 63) ||| (xs (z + 6).toInt.toNat).toInt64 &&& 4294967295) ((xs (z + 7).toInt.toNat).toInt64 <<< ((32 : Int32).toInt64 &&& 63) ||| (xs (z + 8).toInt.toNat).toInt64 &&& 4294967295) (xs (z + 9).toInt.toNat) ((xs (z + 10).toInt.toNat).toInt64 <<< ((32 : Int32).toInt64 &&& 63) ||| (xs (z + 11).toInt.toNat).toInt64 &&& 4294967295)
        · rw [if_pos hp, if_pos rfl, hg3]
          rcases hd hp with ⟨e1, e2, e3⟩ | ⟨e1, e2, e3⟩
          · have hv1 : v = 1 := by
              rcases hv hp with h | h
              · exact h.2
              · omega
            rw [e3, Option.bind_some, hv1]
            refine w_jj ?_
            rw [if_neg (by decide)]
            refine gSat.ite (fun _ => ?_) (fun h => absurd rfl h)
            exact nxt w2 κ1 _ _ hc2 hm2 cs1 ms2 dj2 k2 k3
          · have hv1 : v = 0 := by
              rcases hv hp with h | h
              · omega
              · exact h.2
            rw [e3, Option.bind_some, hv1]
            refine w_jj ?_
            rw [if_pos rfl]
            refine gSat.ite (fun _ => ?_) (fun h => absurd rfl h)
            exact nxt w2 κ1 _ _ hc2 hm2 cs1 ms2 dj2 k2 k3
        · rw [if_neg hp, if_neg (by decide)]
          exact nxt w2 κ1 _ _ hc2 hm2 cs1 ms2 dj2 k2 k3
      refine gSat.ite ?_ ?_ <;> intro ho13
      case refine_1 =>
        rw [rdL dj (i := z + 1) (hzk 1 (by decide) (by decide)).1 (hzk 1 (by decide) (by decide)).2, Option.bind_some]
        refine w_ck hc s1 rfl (by decide) ?_
        refine w_call (t_V_breaks hc s1 hR s5) (fun _ _ h => h.elim) ?_
        rintro _ w1 ⟨i1, -⟩
        have al : gAl Γc w Γc w1 := gAl.same i1.le hc
        have r : Γc.R = Γc.R := rfl
        obtain ⟨hc1, hm1, dj1⟩ := step_c hc hm dj i1 al
        have cs1 := same al r
        have hRm := ms.rm k0 k1
        obtain ⟨u1, u2, u3, u4, u5, u6⟩ := id ms
        rw [rdL dj1 (i := z + 1) (hzk 1 (by decide) (by decide)).1 (hzk 1 (by decide) (by decide)).2, Option.bind_some]
        refine w_ck hm1 u1 rfl (by decide) ?_
        refine w_call (t_M_breaks hm1 u1 hRm (fun t _ _ => u6 t) (u6 _)) (fun _ _ h => h.elim) ?_
        rintro _ w2 ⟨i2, -⟩
        obtain ⟨hc2, hm2, dj2⟩ := step_m hc1 hm1 dj1 i2 rfl
        exact nxt w2 κ _ _ hc2 hm2 cs1 ms dj2 k0 k1
      refine gSat.ite ?_ ?_ <;> intro ho14
      case refine_1 =>
        rw [rdL dj (i := z + 1) (hzk 1 (by decide) (by decide)).1 (hzk 1 (by decide) (by decide)).2, Option.bind_some]
        rw [rdL dj (i := z + 2) (hzk 2 (by decide) (by decide)).1 (hzk 2 (by decide) (by decide)).2, Option.bind_some]
        refine w_call (t_W_bound hc s1 s2 hR s5 s6 s7) (fun _ _ h => h.elim) ?_
        rintro _ w1 ⟨Γ1, i1, al, r⟩
        obtain ⟨hc1, hm1, dj1⟩ := step_c hc hm dj i1 al
        have cs1 := same al r
        have hRm := ms.rm k0 k1
        obtain ⟨u1, u2, u3, u4, u5, u6⟩ := id ms
        rw [rdL dj1 (i := z + 1) (hzk 1 (by decide) (by decide)).1 (hzk 1 (by decide) (by decide)).2, Option.bind_some]
        rw [rdL dj1 (i := z + 2) (hzk 2 (by decide) (by decide)).1 (hzk 2 (by decide) (by decide)).2, Option.bind_some]
        refine w_ck hm1 u1 rfl (by decide) ?_
        refine w_call (t_M_bound hm1 u1 hRm (fun t _ _ => u6 t) (u6 _)) (fun _ _ h => h.elim) ?_
        rintro _ w2 ⟨i2, -⟩
        obtain ⟨hc2, hm2, dj2⟩ := step_m hc1 hm1 dj1 i2 rfl
        exact nxt w2 κ _ _ hc2 hm2 cs1 ms dj2 k0 k1
      refine gSat.ite ?_ ?_ <;> intro ho15
      case refine_1 =>
        rw [rdL dj (i := z + 1) (hzk 1 (by decide) (by decide)).1 (hzk 1 (by decide) (by decide)).2, Option.bind_some]
        rw [rdL dj (i := z + 2) (hzk 2 (by decide) (by decide)).1 (hzk 2 (by decide) (by decide)).2, Option.bind_some]
        rw [rdL dj (i := z + 3) (hzk 3 (by decide) (by decide)).1 (hzk 3 (by decide) (by decide)).2, Option.bind_some]
        rw [rdL dj (i := z + 4) (hzk 4 (by decide) (by decide)).1 (hzk 4 (by decide) (by decide)).2, Option.bind_some]
        refine w_call (t_W_section hc s1 s2 hR s5 s6 s7) (fun _ _ h => h.elim) ?_
        rintro _ w1 ⟨Γ1, i1, al, r⟩
        obtain ⟨hc1, hm1, dj1⟩ := step_c hc hm dj i1 al
        have cs1 := same al r
        have hRm := ms.rm k0 k1
        obtain ⟨u1, u2, u3, u4, u5, u6⟩ := id ms
        rw [rdL dj1 (i := z + 1) (hzk 1 (by decide) (by decide)).1 (hzk 1 (by decide) (by decide)).2, Option.bind_some]
        rw [rdL dj1 (i := z + 2) (hzk 2 (by decide) (by decide)).1 (hzk 2 (by decide) (by decide)).2, Option.bind_some]
        rw [rdL dj1 (i := z + 3) (hzk 3 (by decide) (by decide)).1 (hzk 3 (by decide) (by decide)).2, Option.bind_some]
        rw [rdL dj1 (i := z + 4) (hzk 4 (by decide) (by decide)).1 (hzk 4 (by decide) (by decide)).2, Option.bind_some]
        refine w_ck hm1 u1 rfl (by decide) ?_
        refine w_call (t_M_section hm1 u1 hRm (fun t _ _ => u6 t) (u6 _)) (fun _ _ h => h.elim) ?_
        rintro _ w2 ⟨i2, -⟩
        obtain ⟨hc2, hm2, dj2⟩ := step_m hc1 hm1 dj1 i2 rfl
        exact nxt w2 κ _ _ hc2 hm2 cs1 ms dj2 k0 k1
      refine gSat.ite ?_ ?_ <;> intro ho16
      case refine_1 =>
        rw [rdL dj (i := z + 1) (hzk 1 (by decide) (by decide)).1 (hzk 1 (by decide) (by decide)).2, Option.bind_some]
        refine w_call (t_W_mass hc s1 s2 hR s5 s6 s7) (fun _ _ h => h.elim) ?_
        rintro _ w1 ⟨Γ1, i1, al, r⟩
        obtain ⟨hc1, hm1, dj1⟩ := step_c hc hm dj i1 al
        have cs1 := same al r
        have hRm := ms.rm k0 k1
        obtain ⟨u1, u2, u3, u4, u5, u6⟩ := id ms
        rw [rdL dj1 (i := z + 1) (hzk 1 (by decide) (by decide)).1 (hzk 1 (by decide) (by decide)).2, Option.bind_some]
        refine w_ck hm1 u1 rfl (by decide) ?_
        refine w_call (t_M_mass hm1 u1 hRm (u6 _)) (fun _ _ h => h.elim) ?_
        rintro _ w2 ⟨i2, -⟩
        obtain ⟨hc2, hm2, dj2⟩ := step_m hc1 hm1 dj1 i2 rfl
        exact nxt w2 κ _ _ hc2 hm2 cs1 ms dj2 k0 k1
      exact nxt w κ _ _ hc hm cs ms dj k0 k1
end
