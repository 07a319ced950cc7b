section
theorem zbm_ (x : Int) (h1 : -2147483648 ≤ x) (h2 : x < 2147483648) : x.bmod (2 ^ 32) = x := by
  rw [Int.bmod_def]
  have : ((2 ^ 32 : Nat) : Int) = 4294967296 := by decide
  rw [this]
  split <;> omega
theorem y_add (a b : Int32) (h1 : -2147483648 ≤ a.toInt + b.toInt) (h2 : a.toInt + b.toInt < 2147483648) : (a + b).toInt = a.toInt + b.toInt := by rw [Int32.toInt_add, zbm_ _ h1 h2]
theorem y_sub (a b : Int32) (h1 : -2147483648 ≤ a.toInt - b.toInt) (h2 : a.toInt - b.toInt < 2147483648) : (a - b).toInt = a.toInt - b.toInt := by rw [Int32.toInt_sub, zbm_ _ h1 h2]
theorem y_mul (a b : Int32) (h1 : -2147483648 ≤ a.toInt * b.toInt) (h2 : a.toInt * b.toInt < 2147483648) : (a * b).toInt = a.toInt * b.toInt := by rw [Int32.toInt_mul, zbm_ _ h1 h2]
theorem y_cl (a : Int32) : a.toNatClampNeg = a.toInt.toNat := rfl
theorem y_any (v : Int32) : (-2147483648 : Int) ≤ v.toInt ∧ v.toInt ≤ 2147483647 := by
  have h1 := v.le_toInt
  have h2 := v.toInt_lt
  constructor <;> omega
abbrev Ty : Type := Nat × Nat × Nat × Nat × Int × Int
abbrev Ty.top : Ty := (0, 0, 0, 0, 0, 0)
abbrev Ty.lst (c : Nat) : Ty := (1, c, 0, 0, 0, 0)
abbrev Ty.row (o c n : Nat) : Ty := (2, o, c, n, 0, 0)
abbrev Ty.layout : Ty := (3, 0, 0, 0, 0, 0)
abbrev Ty.solid : Ty := (4, 0, 0, 0, 0, 0)
abbrev Ty.body : Ty := (5, 0, 0, 0, 0, 0)
abbrev Ty.place : Ty := (6, 0, 0, 0, 0, 0)
abbrev Ty.keep : Ty := (7, 0, 0, 0, 0, 0)
abbrev Ty.model : Ty := (8, 0, 0, 0, 0, 0)
abbrev Ty.aj (n : Nat) : Ty := (9, n, 0, 0, 0, 0)
abbrev Ty.ai (n : Nat) (lo hi : Int) : Ty := (10, n, 0, 0, lo, hi)
abbrev Ty.asol : Ty := (11, 0, 0, 0, 0, 0)
abbrev Ty.mty : Ty := (12, 0, 0, 0, 0, 0)
abbrev FS : Type := Nat × Nat × Int × Int × Ty
abbrev FS.f (lo hi : Int) : FS := (0, 0, lo, hi, Ty.top)
abbrev FS.i (k : Nat) : FS := (1, k, 0, 0, Ty.top)
abbrev FS.j : FS := (2, 0, 0, 0, Ty.top)
abbrev FS.r (t : Ty) : FS := (3, 0, 0, 0, t)
abbrev gΓ : Type := (Nat → Option Ty) × (Nat → Int × Int) × (Ty → Bool)
abbrev gΓ.T (Γ : gΓ) : Nat → Option Ty := Γ.1
abbrev gΓ.R (Γ : gΓ) : Nat → Int × Int := Γ.2.1
abbrev gΓ.Q (Γ : gΓ) : Ty → Bool := Γ.2.2
def elemTy (c : Nat) : Ty := match c with
  | 3 => Ty.solid
  | 4 => Ty.body
  | 5 => Ty.place
  | _ => Ty.keep
def specs (t : Ty) : Nat × List FS := match t.1 with
  | 0 => (0, [FS.j, FS.r (Ty.lst 4), FS.r (Ty.lst 5), FS.r (Ty.lst 6), FS.r (Ty.aj 8), FS.r (Ty.aj 8), FS.i 0, FS.r (Ty.ai 900 (-2147483648) 2147483647), FS.r Ty.layout, FS.r Ty.layout])
  | 3 => (2, [FS.r Ty.asol, FS.f 0 12])
  | 4 => (3, [FS.f (-2147483648) 2147483647, FS.j, FS.j, FS.r (Ty.aj 8), FS.r (Ty.aj 8), FS.f 0 8, FS.j, FS.j, FS.j, FS.j, FS.j, FS.j])
  | 5 => (4, [FS.r (Ty.lst 3), FS.j])
  | 6 => (5, [FS.r Ty.body, FS.j, FS.j, FS.f (-2147483648) 2147483647, FS.f (-2147483648) 2147483647])
  | 7 => (6, [FS.r Ty.solid, FS.f (-2147483648) 2147483647])
  | 8 => (7, [FS.f (-2147483648) 2147483647, FS.j, FS.i 10, FS.r (Ty.ai 30 0 12), FS.r (Ty.ai 360 (-2147483648) 2147483647), FS.r (Ty.aj 2160), FS.r (Ty.ai 360 0 8), FS.r (Ty.aj 2880), FS.r (Ty.aj 2880), FS.i 11, FS.r (Ty.aj 8), FS.r (Ty.aj 8), FS.i 12, FS.r (Ty.ai 30 0 29), FS.r (Ty.aj 30), FS.r (Ty.aj 30), FS.r (Ty.ai 30 (-2147483648) 2147483647), FS.r (Ty.ai 30 (-2147483648) 2147483647), FS.i 13, FS.r (Ty.aj 60), FS.r (Ty.ai 2 (-2147483648) 2147483647), FS.r (Ty.ai 2 0 8), FS.r (Ty.aj 16), FS.r (Ty.aj 16), FS.r (Ty.aj 2), FS.r (Ty.aj 2), FS.r (Ty.aj 2)])
  | _ => (99, [])
def spc (t : Ty) (c k : Nat) : Option FS := if (specs t).1 = c then (specs t).2[k]? else none
def vOk (Γ : gΓ) (s : FS) (v : Value) : Prop := match s.1, v with
  | 0, .int x => s.2.2.1 ≤ x.toInt ∧ x.toInt ≤ s.2.2.2.1
  | 1, .int x => (Γ.R s.2.1).1 ≤ x.toInt ∧ x.toInt ≤ (Γ.R s.2.1).2
  | 2, .long _ => True
  | 3, .ref y => Γ.T y = some s.2.2.2.2
  | _, _ => False
def okF (Γ : gΓ) (ss : List FS) (fs : List Value) : Prop := ss.length = fs.length ∧ ∀ (k : Nat) (s : FS) (v : Value), ss[k]? = some s → fs[k]? = some v → vOk Γ s v
def shp (Γ : gΓ) (t : Ty) (e : gE) : Prop := match t.1 with
  | 1 => ∃ (y : Nat) (s m : Int32), e = .inr (1, [.ref y, .int s, .int m]) ∧ (Γ.R t.2.1).1 ≤ s.toInt ∧ s.toInt ≤ (Γ.R t.2.1).2 ∧ 0 ≤ s.toInt
  | 2 => ∃ f : Nat → Value, e = .inl (3, t.2.2.2.1, f) ∧ 0 < t.2.2.2.1 ∧ t.2.2.2.1 ≤ 64 ∧ ∀ i, i < t.2.2.2.1 → f i = .null ∨ ∃ z, f i = .ref z ∧ Γ.T z = some (elemTy t.2.2.1)
  | 9 => ∃ f : Nat → Value, e = .inl (1, t.2.1, f) ∧ ∀ i, i < t.2.1 → ∃ v, f i = .long v
  | 10 => ∃ f : Nat → Value, e = .inl (0, t.2.1, f) ∧ ∀ i, i < t.2.1 → ∃ v : Int32, f i = .int v ∧ t.2.2.2.2.1 ≤ v.toInt ∧ v.toInt ≤ t.2.2.2.2.2
  | 11 => ∃ f : Nat → Value, e = .inl (2, 12, f) ∧ ∀ i, i < 12 → ∃ z, f i = .ref z ∧ Γ.T z = some Ty.solid
  | 12 => e = .inl (5, 0, fun _ => .null)
  | _ => ∃ fs, e = .inr ((specs t).1, fs) ∧ okF Γ (specs t).2 fs
def lcl (Γ : gΓ) (w : gW) (a c : Nat) : Prop := ∃ (y : Nat) (s m : Int32), w.1 a = some (.inr (1, [.ref y, .int s, .int m])) ∧ ((Γ.T y = some Ty.mty ∧ s = 0) ∨ ∃ (n : Nat) (f : Nat → Value), Γ.T y = some (Ty.row a c n) ∧ s.toInt ≤ n ∧ w.1 y = some (.inl (3, n, f)) ∧ ∀ i, i < s.toInt.toNat → ∃ z, f i = .ref z ∧ Γ.T z = some (elemTy c))
def okE (Γ : gΓ) (w : gW) (a : Nat) (t : Ty) : Prop := (∃ e, w.1 a = some e ∧ shp Γ t e) ∧ (t.1 = 1 → lcl Γ w a t.2.1)
def gIv (Γ : gΓ) (w0 w : gW) : Prop := (∀ a t, Γ.T a = some t → okE Γ w a t) ∧ (∀ a t, Γ.T a = some t → a < w.2) ∧ w0.2 ≤ w.2 ∧ (∀ q, q < w0.2 → Γ.T q = none → w.1 q = w0.1 q) ∧ (∀ a t, Γ.T a = some t → Γ.Q t = true → w.1 a = w0.1 a)
theorem gIv.ok {Γ : gΓ} {w0 w : gW} (h : gIv Γ w0 w) : ∀ a t, Γ.T a = some t → okE Γ w a t := h.1
theorem gIv.lt {Γ : gΓ} {w0 w : gW} (h : gIv Γ w0 w) : ∀ a t, Γ.T a = some t → a < w.2 := h.2.1
theorem gIv.le {Γ : gΓ} {w0 w : gW} (h : gIv Γ w0 w) : w0.2 ≤ w.2 := h.2.2.1
theorem gIv.fr {Γ : gΓ} {w0 w : gW} (h : gIv Γ w0 w) : ∀ q, q < w0.2 → Γ.T q = none → w.1 q = w0.1 q := h.2.2.2.1
theorem gIv.fz {Γ : gΓ} {w0 w : gW} (h : gIv Γ w0 w) : ∀ a t, Γ.T a = some t → Γ.Q t = true → w.1 a = w0.1 a := h.2.2.2.2
def isO (t : Ty) : Prop := t.1 = 0 ∨ t.1 = 3 ∨ t.1 = 4 ∨ t.1 = 5 ∨ t.1 = 6 ∨ t.1 = 7 ∨ t.1 = 8
theorem shp_obj {Γ : gΓ} {t : Ty} {e : gE} (h : isO t) : shp Γ t e ↔ ∃ fs, e = .inr ((specs t).1, fs) ∧ okF Γ (specs t).2 fs := by
  unfold shp
  rcases h with h | h | h | h | h | h | h <;> rw [h] <;> exact Iff.rfl
theorem isO.n1 {t : Ty} (h : isO t) : t.1 ≠ 1 := by
  unfold isO at h
  omega
theorem isO.n2 {t : Ty} (h : isO t) : t.1 ≠ 2 := by
  unfold isO at h
  omega
theorem okE_obj {Γ : gΓ} {w : gW} {a : Nat} {t : Ty} (h : isO t) : okE Γ w a t ↔ ∃ fs, w.1 a = some (.inr ((specs t).1, fs)) ∧ okF Γ (specs t).2 fs := by
  constructor
  · rintro ⟨⟨e, h1, h2⟩, -⟩
    obtain ⟨fs, h3, h4⟩ := (shp_obj h).mp h2
    exact ⟨fs, by rw [h1, h3], h4⟩
  · rintro ⟨fs, h1, h2⟩
    exact ⟨⟨_, h1, (shp_obj h).mpr ⟨fs, rfl, h2⟩⟩, fun e => absurd e h.n1⟩
theorem spc_obj {t : Ty} {c k : Nat} {s : FS} (h : spc t c k = some s) : isO t := by
  unfold spc at h
  split at h
  · unfold specs at h
    unfold isO
    split at h
    all_goals first
      | (rename_i e; omega)
      | (simp at h)
  · cases h
end
