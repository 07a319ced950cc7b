section
variable {Γ : gΓ} {w0 w w' : gW} {g0 : gG}
def gRow (Γ : gΓ) (y l c n : Nat) (R : Nat → Int × Int) : gΓ := (fun q => if q = y then some (Ty.row l c n) else Γ.T q, R, Γ.Q)
theorem gRow.T {y l c n q : Nat} {R : Nat → Int × Int} : (gRow Γ y l c n R).T q = if q = y then some (Ty.row l c n) else Γ.T q := rfl
theorem gRow.le {y l c n : Nat} {R : Nat → Int × Int} (hy : Γ.T y = some (Ty.row l c n) ∨ Γ.T y = none) : gLe Γ (gRow Γ y l c n R) := by
  intro q t h
  by_cases e : q = y
  · subst e
    rcases hy with hy | hy <;> rw [hy] at h <;> cases h
    rw [gRow.T, if_pos rfl]
  · rw [gRow.T, if_neg e]; exact h
theorem gIv.addl {l c y n : Nat} {s m : Int32} {f : Nat → Value} {R : Nat → Int × Int} (hI : gIv Γ w0 w) (hl : Γ.T l = some (Ty.lst c)) (hc : 3 ≤ c ∧ c ≤ 6)
    (e1 : w'.1 l = some (.inr (1, [.ref y, .int s, .int m]))) (e2 : w'.1 y = some (.inl (3, n, f))) (e3 : ∀ q, q ≠ l → q ≠ y → w'.1 q = w.1 q) (e4 : w.2 ≤ w'.2) (e5 : y < w'.2)
    (hy : Γ.T y = some (Ty.row l c n) ∨ (y = w.2)) (hn : 0 < n ∧ n ≤ 64) (hs : 0 ≤ s.toInt ∧ s.toInt ≤ n)
    (hf : ∀ i, i < n → f i = .null ∨ ∃ z, f i = .ref z ∧ Γ.T z = some (elemTy c)) (hf' : ∀ i, i < s.toInt.toNat → ∃ z, f i = .ref z ∧ Γ.T z = some (elemTy c))
    (hR : ∀ k, k ≠ c → R k = Γ.R k) (hR' : (R c).1 ≤ s.toInt ∧ s.toInt ≤ (R c).2) (hO : R c = Γ.R c ∨ ∀ b u, Γ.T b = some u → u.1 = 1 → u.2.1 = c → b = l)
    (q1 : Γ.Q (Ty.lst c) = false) (q2 : Γ.Q (Ty.row l c n) = false) : gIv (gRow Γ y l c n R) w0 w' := by
  have hyn : Γ.T y = some (Ty.row l c n) ∨ Γ.T y = none := by
    rcases hy with h | h
    · exact Or.inl h
    · right
      cases h' : Γ.T y with
      | none => rfl
      | some t => exact absurd (hI.lt _ _ h') (by omega)
  have hle := gRow.le (R := R) hyn
  have hly : l ≠ y := by
    intro e
    rw [← e, hl] at hyn
    rcases hyn with h | h <;> cases h
  have hm : ∀ {z : Nat} {t : Ty}, Γ.T z = some t → (gRow Γ y l c n R).T z = some t := fun h => hle _ _ h
  have hnr : ∀ {b : Nat} {u : Ty}, Γ.T b = some u → b ≠ y → b ≠ l → okE (gRow Γ y l c n R) w' b u := by
    intro b u hb hby hbl
    refine (hI.ok b u hb).mono hle ?_ (e3 b hbl hby) ?_
    · intro k hk
      exact hR k (by omega)
    · intro hc'
      refine ⟨?_, fun y2 n2 h2 => ?_⟩
      · by_cases hcc : u.2.1 = c
        · rcases hO with h | h
          · rw [hcc]; exact h
          · exact absurd (h b u hb hc' hcc) hbl
        · exact hR _ hcc
      · refine e3 y2 ?_ ?_
        · intro e; rw [e, hl] at h2; cases h2
        · intro e
          rw [e] at h2
          rcases hyn with h | h
          · rw [h2] at h
            cases h
            exact hbl rfl
          · rw [h2] at h; cases h
  refine ⟨fun b u hb => ?_, fun b u hb => ?_, Nat.le_trans hI.le e4, fun q h1 h2 => ?_, fun b u hb hu => ?_⟩
  · by_cases hby : b = y
    · subst hby
      rw [gRow.T, if_pos rfl] at hb
      cases hb
      refine okE.mkr e2 hn.1 hn.2 (fun i hi => (hf i hi).imp id ?_)
      rintro ⟨z, z1, z2⟩
      exact ⟨z, z1, hm z2⟩
    · have hb' : Γ.T b = some u := by rw [gRow.T, if_neg hby] at hb; exact hb
      by_cases hbl : b = l
      · subst hbl
        rw [hl] at hb'
        cases hb'
        refine okE.mkl e1 hR'.1 hR'.2 hs.1 (Or.inr ⟨n, f, by rw [gRow.T, if_pos rfl], hs.2, e2, fun i hi => ?_⟩)
        obtain ⟨z, z1, z2⟩ := hf' i hi
        exact ⟨z, z1, hm z2⟩
      · exact hnr hb' hby hbl
  · by_cases hby : b = y
    · subst hby; exact e5
    · exact Nat.lt_of_lt_of_le (hI.lt b u (by rw [gRow.T, if_neg hby] at hb; exact hb)) e4
  · have hqy : q ≠ y := by intro e; subst e; rw [gRow.T, if_pos rfl] at h2; cases h2
    have h2' : Γ.T q = none := by rw [gRow.T, if_neg hqy] at h2; exact h2
    have hql : q ≠ l := by intro e; rw [e, hl] at h2'; cases h2'
    exact (e3 q hql hqy).trans (hI.fr q h1 h2')
  · have hu' : Γ.Q u = true := hu
    have hby : b ≠ y := by
      intro e
      subst e
      rw [gRow.T, if_pos rfl] at hb
      cases hb
      rw [q2] at hu'
      cases hu'
    have hb' : Γ.T b = some u := by rw [gRow.T, if_neg hby] at hb; exact hb
    have hbl : b ≠ l := by
      intro e
      rw [e, hl] at hb'
      cases hb'
      rw [q1] at hu'
      cases hu'
    exact (e3 b hbl hby).trans (hI.fz b u hb' hu')
theorem l_size {l c : Nat} (hI : gIv Γ w0 w) (hl : Γ.T l = some (Ty.lst c)) : ∃ s : Int32, f_AL_size g0 l w = some (.inr s, w) ∧ gf w l 1 1 = some (.int s) ∧ 0 ≤ s.toInt ∧ (Γ.R c).1 ≤ s.toInt ∧ s.toInt ≤ (Γ.R c).2 := by
  obtain ⟨y, s, m, h1, h2, h3, h4, -⟩ := hI.l hl
  exact ⟨s, by simp [f_AL_size, gfI, gf, gvI, h1], by simp [gf, h1], h4, h2, h3⟩
theorem l_get {l c : Nat} {s p : Int32} (hI : gIv Γ w0 w) (hl : Γ.T l = some (Ty.lst c)) (hs : gf w l 1 1 = some (.int s)) (hp : 0 ≤ p.toInt ∧ p.toInt < s.toInt) : ∃ z, f_AL_get g0 l p w = some (.inr z, w) ∧ Γ.T z = some (elemTy c) := by
  obtain ⟨y, s', m, h1, h2, h3, h4, h5⟩ := hI.l hl
  have e : s' = s := by
    simp [gf, h1] at hs
    exact hs
  subst e
  rcases h5 with ⟨g1, g2⟩ | ⟨n, f, g1, g2, g3, g4⟩
  · subst g2
    simp at hp
    omega
  · obtain ⟨z, z1, z2⟩ := g4 p.toInt.toNat (by omega)
    have k1 : ¬ p < 0 := by rw [Int32.lt_iff_toInt_lt, Int32.toInt_zero]; omega
    have k2 : p < s' := Int32.lt_iff_toInt_lt.mpr hp.2
    have k3 : p.toNatClampNeg < n := by rw [y_cl]; omega
    have z1' : f p.toNatClampNeg = .ref z := z1
    refine ⟨z, ?_, z2⟩
    simp [f_AL_get, gfI, gf, gvI, h1, f_Ob_checkIndex, f_Pc_checkIndex, gbind, gjoin, k1, k2, gck, f_AL_elementData, gfA, gvA, gaA, gob, g3, gar, k3, z1', -Int32.not_lt]
theorem y_addA {l o c : Nat} {m : Int32} {fs : List Value} (hl : w.1 l = some (.inr (1, [.ref g0.1, .int 0, .int m]))) (he : w.1 g0.1 = some (.inl (5, 0, fun _ => .null))) (ho : w.1 o = some (.inr (c, fs))) (hk : gok 3 c = true) (ll : l < w.2) (le : g0.1 < w.2) (lo : o < w.2) (hlo : o ≠ l) :
    ∃ w', f_AL_add g0 l o w = some (.inr 1, w') ∧ w'.1 l = some (.inr (1, [.ref w.2, .int 1, .int (m + 1)])) ∧ w'.1 w.2 = some (.inl (3, 10, updV (fun _ => .null) 0 (.ref o))) ∧ (∀ q, q ≠ l → q ≠ w.2 → w'.1 q = w.1 q) ∧ w'.2 = w.2 + 1 := by
  have n1 : l ≠ w.2 := by omega
  have n2 : g0.1 ≠ l := by
    intro h
    rw [h, hl] at he
    cases he
  have n3 : o ≠ w.2 := by omega
  have n4 : w.2 ≠ l := by omega
  have e0 : nI 0 = 0 := rfl
  have e1 : (0 : Int32) + 1 = 1 := by decide
  have e2 : f_Ma_max g0 10 1 = fun w => some (.inr 10, w) := by
    funext w
    simp [f_Ma_max, gjoin]
  have e3 : ¬ ((10 : Int32) < 0 ∨ 64 < (10 : Int32).toNatClampNeg) := by decide
  have e4 : (10 : Int32).toNatClampNeg = 10 := by decide
  generalize hx : f_AL_add g0 l o w = x
  simp [f_AL_add, f_AL_add2, f_AL_grow, f_AL_grow2, gfI, gfA, gf, gvI, gvA, hl, gp, gup, gck, gal, gjoin, gbind, gb2f, gna, gpush, gsA, gob, gas, gguard, n1, n2, n3, n4, he, ho, hk, hlo, e0, e1, e2, e3, e4] at hx
  subst hx
  refine ⟨_, rfl, by simp, by simp [n4], fun q h1 h2 => by simp [h1, h2], rfl⟩
theorem l_addB {l o c y n : Nat} {s m : Int32} {f : Nat → Value} {fs : List Value} (hl : w.1 l = some (.inr (1, [.ref y, .int s, .int m]))) (hy : w.1 y = some (.inl (3, n, f))) (ho : w.1 o = some (.inr (c, fs))) (hk : gok 3 c = true) (hs : 0 ≤ s.toInt ∧ s.toInt < n) (hn : n ≤ 64) :
    ∃ w', f_AL_add g0 l o w = some (.inr 1, w') ∧ w'.1 l = some (.inr (1, [.ref y, .int (s + 1), .int (m + 1)])) ∧ w'.1 y = some (.inl (3, n, updV f s.toNatClampNeg (.ref o))) ∧ (∀ q, q ≠ l → q ≠ y → w'.1 q = w.1 q) ∧ w'.2 = w.2 := by
  have n2 : y ≠ l := by
    intro h
    rw [h, hl] at hy
    cases hy
  have n2' : l ≠ y := Ne.symm n2
  have n3 : o ≠ y := by
    intro h
    rw [h, hy] at ho
    cases ho
  have k1 : ¬ s < 0 := by rw [Int32.lt_iff_toInt_lt, Int32.toInt_zero]; omega
  have k2 : ¬ s = nI n := by
    rw [← Int32.toInt_inj, nI, Int32.toInt_ofNat_of_lt (by omega)]
    omega
  have k3 : s.toNatClampNeg < n := by rw [y_cl]; omega
  have k4 : (if o = l then some (.inr (1, [.ref y, .int s, .int (m + 1)])) else w.1 o : Option gE) = if o = l then some (.inr (1, [.ref y, .int s, .int (m + 1)])) else some (.inr (c, fs)) := by rw [ho]
  generalize hx : f_AL_add g0 l o w = x
  by_cases hol : o = l
  · subst hol
    have hc : c = 1 := by rw [hl] at ho; cases ho; rfl
    subst hc
    simp [f_AL_add, f_AL_add2, gfI, gfA, gf, gvI, gvA, hl, gp, gup, gck, gal, gjoin, gbind, gsA, gob, gas, gguard, n2, n2', n3, hy, hk, k1, k2, k3, -Int32.not_lt] at hx
    subst hx
    refine ⟨_, rfl, by simp, by simp [n2], fun q h1 h2 => by simp [h1, h2], rfl⟩
  · simp [f_AL_add, f_AL_add2, gfI, gfA, gf, gvI, gvA, hl, gp, gup, gck, gal, gjoin, gbind, gsA, gob, gas, gguard, n2, n2', n3, hy, ho, hk, hol, k1, k2, k3, -Int32.not_lt] at hx
    subst hx
    refine ⟨_, rfl, by simp, by simp [n2], fun q h1 h2 => by simp [h1, h2], rfl⟩
def gN (n : Nat) : Int32 := nI n + (if (1 : Int32) < nI n >>> (1 &&& 31) then nI n >>> (1 &&& 31) else 1)
theorem gN_ok : ∀ n, n < 41 → 0 < n → (¬ gN n ≤ 0 ∧ ¬ 2147483639 < gN n ∧ ¬ gN n < 0 ∧ n < (gN n).toNatClampNeg ∧ (gN n).toNatClampNeg ≤ 64 ∧ 0 < nI n ∧ ¬ nI n < 0 ∧ (nI n).toNatClampNeg = n ∧ nI n + 1 - nI n = 1 ∧ ¬ gN n < nI n ∧ (nI n + 1).toInt = n + 1) := by decide +kernel
theorem l_copy {y n : Nat} {f : Nat → Value} (hy : w.1 y = some (.inl (3, n, f))) (hn : 0 < n ∧ n < 41) (ly : y < w.2) (hz : ∀ i, i < n → gelt (gpush w (.inl (3, (gN n).toNatClampNeg, fun _ => .null))) (f i) = true) :
    f_Ar_copyOf g0 y (gN n) w = some (.inr w.2, (fun q => if q = w.2 then some (.inl (3, (gN n).toNatClampNeg, va_cpy f (fun _ => .null) 0 0 n)) else w.1 q, w.2 + 1)) := by
  obtain ⟨a1, a2, a3, a4, a5, a6, a7, a8, a9, a10, a11⟩ := gN_ok n hn.2 hn.1
  have n5 : y ≠ w.2 := by omega
  have e2 : ∀ w : gW, f_Ma_min g0 (nI n) (gN n) w = some (.inr (nI n), w) := by
    intro w
    simp only [f_Ma_min, gjoin]
    rw [if_neg a10]
  have e3 : ¬ (gN n < 0 ∨ 64 < (gN n).toNatClampNeg) := by
    rintro (h | h)
    · exact a3 h
    · omega
  have e4 : n ≤ (gN n).toNatClampNeg := by omega
  have e5 : (gN n).toNatClampNeg ≠ 0 := by omega
  have h1 : gal (gpush w (.inl (3, (gN n).toNatClampNeg, fun _ => .null))) y = some (nI n) := by simp [gal, gpush, n5, hy]
  have h0 : (0 : Int32).toNatClampNeg = 0 := by decide
  have h2 : gcp (gpush w (.inl (3, (gN n).toNatClampNeg, fun _ => .null))) y 0 w.2 0 (nI n) = some (gup (gpush w (.inl (3, (gN n).toNatClampNeg, fun _ => .null))) w.2 (.inl (3, (gN n).toNatClampNeg, va_cpy f (fun _ => .null) 0 0 n))) := by
    have hall : ((List.range n).all fun i => gelt (gpush w (.inl (3, (gN n).toNatClampNeg, fun _ => .null))) (f (0 + i))) = true := by
      rw [List.all_eq_true]
      intro i hi
      rw [Nat.zero_add]
      exact hz i (List.mem_range.mp hi)
    have hw1 : (gpush w (.inl (3, (gN n).toNatClampNeg, fun _ => .null))).1 y = some (.inl (3, n, f)) := by simp [gpush, n5, hy]
    have hw2 : (gpush w (.inl (3, (gN n).toNatClampNeg, fun _ => .null))).1 w.2 = some (.inl (3, (gN n).toNatClampNeg, fun _ => .null)) := by simp [gpush]
    unfold gcp
    rw [hw1, hw2]
    simp only [a8, h0]
    rw [if_pos]
    exact ⟨trivial, trivial, by decide, by decide, a7, by omega, by omega, e5, hall⟩
  have h3 : gkd w y 3 = some n := by simp [gkd, hy]
  have h4 : gna w 3 (gN n) 64 .null = some (w.2, gpush w (.inl (3, (gN n).toNatClampNeg, fun _ => .null))) := by
    unfold gna
    rw [if_neg e3]
  unfold f_Ar_copyOf f_Ar_copyOf2
  simp only [h3, Option.bind_some, if_true, h4, gb2f, h1, e2, gb_r, h2]
  congr 3
  unfold gup gpush
  simp only [Prod.mk.injEq, and_true]
  funext q
  split <;> rfl
theorem l_addC {l o c y n : Nat} {m : Int32} {f : Nat → Value} {fs : List Value} (hl : w.1 l = some (.inr (1, [.ref y, .int (nI n), .int m]))) (hy : w.1 y = some (.inl (3, n, f))) (ho : w.1 o = some (.inr (c, fs))) (hk : gok 3 c = true) (hn : 0 < n ∧ n < 41) (ll : l < w.2) (ly : y < w.2) (lo : o < w.2) (hlo : o ≠ l)
    (hf : ∀ i, i < n → f i = .null ∨ ∃ z k gs, f i = .ref z ∧ w.1 z = some (.inr (k, gs)) ∧ gok 3 k = true ∧ z ≠ l ∧ z < w.2) :
    ∃ w' n', f_AL_add g0 l o w = some (.inr 1, w') ∧ n < n' ∧ n' ≤ 64 ∧ w'.1 l = some (.inr (1, [.ref w.2, .int (nI n + 1), .int (m + 1)])) ∧ w'.1 w.2 = some (.inl (3, n', updV (va_cpy f (fun _ => .null) 0 0 n) n (.ref o))) ∧ (∀ q, q ≠ l → q ≠ w.2 → w'.1 q = w.1 q) ∧ w'.2 = w.2 + 1 := by
  obtain ⟨a1, a2, a3, a4, a5, a6, a7, a8, a9, a10, a11⟩ := gN_ok n hn.2 hn.1
  have n1 : l ≠ w.2 := by omega
  have n2 : y ≠ l := by
    intro h
    rw [h, hl] at hy
    cases hy
  have n2' : l ≠ y := Ne.symm n2
  have n3 : o ≠ w.2 := by omega
  have n4 : w.2 ≠ l := by omega
  have n5 : y ≠ w.2 := by omega
  have e1 : ∀ w : gW, f_As_newLength g0 (nI n) 1 (nI n >>> (1 &&& 31)) w = some (.inr (gN n), w) := by
    intro w
    have : f_Ma_max g0 1 (nI n >>> (1 &&& 31)) w = some (.inr (if (1 : Int32) < nI n >>> (1 &&& 31) then nI n >>> (1 &&& 31) else 1), w) := by
      simp only [f_Ma_max, gjoin]
      split <;> rfl
    simp only [f_As_newLength, this, gbind, gjoin]
    rw [show nI n + (if (1 : Int32) < nI n >>> (1 &&& 31) then nI n >>> (1 &&& 31) else 1) = gN n from rfl, if_neg a1, if_neg a2]
  have hz : ∀ i, i < n → gelt (gpush (gup w l (.inr (1, [.ref y, .int (nI n), .int (m + 1)]))) (.inl (3, (gN n).toNatClampNeg, fun _ => .null))) (f i) = true := by
    intro i hi
    rcases hf i hi with h | ⟨z, k, gs, h1, h2, h3, h4, h5⟩
    · simp [gelt, h]
    · have : z ≠ w.2 := Nat.ne_of_lt h5
      simp [gelt, h1, h2, h3, h4, this, gpush, gup]
  have e6 := l_copy (g0 := g0) (w := gup w l (.inr (1, [.ref y, .int (nI n), .int (m + 1)]))) (y := y) (by simp [gup, n2, hy]) hn ly hz
  simp only [gup] at e6
  generalize hx : f_AL_add g0 l o w = x
  simp [f_AL_add, f_AL_add2, f_AL_grow, f_AL_grow2, e6, gfI, gfA, gf, gvI, gvA, hl, gp, gup, gck, gal, gjoin, gbind, gsA, gob, gas, gguard, n1, n2, n2', n3, n4, n5, hy, ho, hk, hlo, a6, a7, a8, a9, a4, e1, -Int32.not_lt, -Int32.not_le] at hx
  subst hx
  refine ⟨_, _, rfl, a4, a5, by simp, by simp [n4], fun q h1 h2 => by simp [h1, h2], rfl⟩
end
