section
variable {Γ : gΓ} {w0 w : gW} {g0 : gG} {E : String → gW → Prop}
theorem gIv.rebase (hI : gIv Γ w0 w) : gIv Γ w w := hI.freeze Γ.Q
theorem gIv.chain {w' : gW} (hI : gIv Γ w0 w) (h : gIv Γ w w') : gIv Γ w0 w' := hI.thaw (Q := Γ.Q) h (fun _ h => h)
theorem a_add {l c o : Nat} {s : Int32} {R : Nat → Int × Int} (hI : gIv Γ w0 w) (hl : Γ.T l = some (Ty.lst c)) (hc : 3 ≤ c ∧ c ≤ 6) (ho : Γ.T o = some (elemTy c)) (hs : gf w l 1 1 = some (.int s)) (hb : s.toInt < 41)
    (hE : ∀ y, Γ.T y = some Ty.mty → y = g0.1) (hR : ∀ k, k ≠ c → R k = Γ.R k) (hR' : (R c).1 ≤ s.toInt + 1 ∧ s.toInt + 1 ≤ (R c).2) (hO : R c = Γ.R c ∨ ∀ b u, Γ.T b = some u → u.1 = 1 → u.2.1 = c → b = l)
    (hQ : ∀ t, Γ.Q t = false) :
    ∃ (w' : gW) (Γ' : gΓ), f_AL_add g0 l o w = some (.inr 1, w') ∧ gIv Γ' w0 w' ∧ gAl Γ w Γ' w' ∧ Γ'.R = R ∧ gf w' l 1 1 = some (.int (s + 1)) ∧ (∀ q, q < w.2 → q ≠ l → (∀ n, Γ.T q ≠ some (Ty.row l c n)) → w'.1 q = w.1 q) := by
  obtain ⟨w', y, n, e1, e2, e3, e4, e5, e6, e7⟩ := l_add (g0 := g0) (R := R) hI hl hc ho hs hb hE hR hR' hO (hQ _) (fun n => hQ _)
  refine ⟨w', gRow Γ y l c n R, e1, e2, ⟨fun q hq => ?_, fun q t hq ht => ?_, rfl, e7⟩, rfl, e4, fun q hq hql hqr => ?_⟩
  · rw [gRow.T]
    split
    · rename_i hy
      subst hy
      rcases e5 with h | h
      · exact h.symm
      · omega
    · rfl
  · rw [gRow.T] at ht
    split at ht
    · cases ht
      exact ⟨by simp, fun e => by simp at e⟩
    · have := hI.lt q t ht
      omega
  · refine e6 q hql ?_
    intro e
    subst e
    rcases e5 with h | h
    · exact hqr n h
    · omega
theorem b_add {a0 a1 l : Nat} {m : Int64} {s : Int32} (hI : gIv Γ w0 w) (ha0 : Γ.T a0 = some Ty.body) (ha1 : Γ.T a1 = some Ty.solid) (hl : gfA w a0 4 0 = some l) (hlT : Γ.T l = some (Ty.lst 3)) (hs : gf w l 1 1 = some (.int s)) (hs0 : 0 ≤ s.toInt) (hs1 : s.toInt < 12) (hE : ∀ y, Γ.T y = some Ty.mty → y = g0.1) (hR : (Γ.R 0).1 = 0 ∧ (Γ.R 0).2 = 8 ∧ (Γ.R 3).1 = 0 ∧ (Γ.R 3).2 = 12 ∧ (Γ.R 4).1 = 0 ∧ (Γ.R 4).2 = 30 ∧ (Γ.R 5).1 = 0 ∧ (Γ.R 5).2 = 30 ∧ 0 ≤ (Γ.R 6).1 ∧ (Γ.R 6).2 ≤ 10) (hQ : ∀ t, Γ.Q t = false) :
    ∃ (w' : gW) (Γ' : gΓ), f_By_add g0 a0 a1 m w = some (.inr (), w') ∧ gIv Γ' w0 w' ∧ gAl Γ w Γ' w' ∧ Γ'.R = Γ.R := by
  obtain ⟨w1, Γ1, e1, e2, e3, e4, e5, e6⟩ := a_add (g0 := g0) (R := Γ.R) hI hlT (by decide) ha1 hs (by omega) hE (fun _ _ => rfl) (by omega) (Or.inl rfl) hQ
  have hb1 : Γ1.T a0 = some Ty.body := e3.le hI _ _ ha0
  obtain ⟨v8, g1⟩ := e2.long (c := 4) (k := 1) hb1 rfl
  obtain ⟨w2, g2, g3, -, -, -, g4⟩ := e2.pf (c := 4) (k := 1) (v := .long (v8 + m)) hb1 rfl trivial (by rw [e3.2.2.1]; exact hQ _)
  refine ⟨w2, Γ1, ?_, g3, ⟨e3.1, e3.2.1, e3.2.2.1, by rw [g4]; exact e3.2.2.2⟩, e4⟩
  unfold f_By_add
  rw [hl, Option.bind_some, hI.ck (c := 1) hlT rfl (by decide), Option.bind_some, e1, gb_r, g1, Option.bind_some, g2, Option.bind_some]
theorem t_By_isFull {a0 : Nat} (hI : gIv Γ w0 w) (ha0 : Γ.T a0 = some Ty.body) : gSat (f_By_isFull g0 a0 w) (fun v w' => w' = w ∧ ∃ l s, gfA w a0 4 0 = some l ∧ Γ.T l = some (Ty.lst 3) ∧ gf w l 1 1 = some (.int s) ∧ 0 ≤ s.toInt ∧ (v = 0 → s.toInt < 12)) (fun _ _ => False) := by
  unfold f_By_isFull
  refine w_A hI ha0 rfl ?_
  intro l hl hlT
  refine w_ck hI hlT rfl (by decide) ?_
  refine w_size hI hlT ?_
  intro s hs h0 h1 h2
  refine w_jj ?_
  refine gSat.ite ?_ ?_
  · intro hc
    refine gSat.guard (by simp) (gSat.ret ⟨rfl, l, s, hl, hlT, hs, h0, fun _ => ?_⟩)
    have e12 : (12 : Int32).toInt = 12 := by decide
    rw [Int32.lt_iff_toInt_lt, e12] at hc
    exact hc
  · intro hc
    exact gSat.guard (by simp) (gSat.ret ⟨rfl, l, s, hl, hlT, hs, h0, fun e => absurd e (by decide)⟩)
def gQs : Ty → Bool := fun t => !(decide (t = Ty.solid) || decide (t = Ty.aj 8))
theorem b_tail {β : Type} {P : β → gW → Prop} {a0 v5 o l : Nat} {m : Int64} {s : Int32} {K : gW → gX β} {w1 w4 : gW} (h1 : gIv Γ w0 w1) (h4 : gIv (Γ.T, Γ.R, gQs) w1 w4) (ha0 : Γ.T a0 = some Ty.top) (hv5 : Γ.T v5 = some Ty.body) (ho : Γ.T o = some Ty.solid) (hl : gfA w1 v5 4 0 = some l) (hlT : Γ.T l = some (Ty.lst 3)) (hs : gf w1 l 1 1 = some (.int s)) (hs0 : 0 ≤ s.toInt) (hs1 : s.toInt < 12) (hE : ∀ y, Γ.T y = some Ty.mty → y = g0.1) (hR : (Γ.R 0).1 = 0 ∧ (Γ.R 0).2 = 8 ∧ (Γ.R 3).1 = 0 ∧ (Γ.R 3).2 = 12 ∧ (Γ.R 4).1 = 0 ∧ (Γ.R 4).2 = 30 ∧ (Γ.R 5).1 = 0 ∧ (Γ.R 5).2 = 30 ∧ 0 ≤ (Γ.R 6).1 ∧ (Γ.R 6).2 ≤ 10) (hQ : ∀ t, Γ.Q t = false)
    (hK : ∀ (w5 : gW) (Γ2 : gΓ), gIv Γ2 w0 w5 → gAl Γ w4 Γ2 w5 → Γ2.R = Γ.R → gSat (K w5) P E) : gSat ((gck w4 v5 4).bind fun _ => gbind (f_By_add g0 v5 o m w4) fun _ w => (gck w a0 0).bind fun _ => gbind (f_B_forgetRelationsOf g0 a0 v5 w) fun _ w => K w) P E := by
  have hI4 : gIv Γ w0 w4 := h1.thaw h4 (fun t ht => by rw [hQ t] at ht; cases ht)
  have e1 : gfA w4 v5 4 0 = some l := (fr_A (h4.fz _ _ hv5 rfl)).trans hl
  have e2 : gf w4 l 1 1 = some (.int s) := (fr_f (h4.fz _ _ hlT rfl)).trans hs
  refine w_ck hI4 hv5 rfl (by decide) ?_
  obtain ⟨w5, Γ2, g1, g2, g3, g4⟩ := b_add (g0 := g0) (m := m) hI4 hv5 ho e1 hlT e2 hs0 hs1 hE hR hQ
  rw [g1, gb_r]
  have ha2 := g3.le hI4 _ _ ha0
  refine w_ck g2 ha2 rfl (by decide) ?_
  refine w_call (t_B_forgetRelationsOf (w0 := w5) (g2.rebase) ha2 (by rw [g4]; exact hR) (by rw [g3.2.2.1]; exact hQ _)) (fun _ _ h => h.elim) ?_
  rintro _ w6 ⟨g5, -⟩
  exact hK w6 Γ2 (g2.chain g5) ⟨g3.1, g3.2.1, g3.2.2.1, Nat.le_trans g3.2.2.2 g5.le⟩ g4
end
