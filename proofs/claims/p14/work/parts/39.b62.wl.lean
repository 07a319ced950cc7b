section
variable {Γ : gΓ} {w0 w : gW} {g0 : gG} {β : Type} {P : β → gW → Prop} {E : String → gW → Prop}
theorem w_size {l c : Nat} {K : Int32 → gW → gX β} (hI : gIv Γ w0 w) (hl : Γ.T l = some (Ty.lst c)) (h : ∀ s : Int32, gf w l 1 1 = some (.int s) → 0 ≤ s.toInt → (Γ.R c).1 ≤ s.toInt → s.toInt ≤ (Γ.R c).2 → gSat (K s w) P E) : gSat (gbind (f_AL_size g0 l w) K) P E := by
  obtain ⟨s, e1, e2, e3, e4, e5⟩ := l_size (g0 := g0) hI hl
  rw [e1]
  exact h s e2 e3 e4 e5
theorem w_sizeX {l : Nat} {s : Int32} {K : Int32 → gW → gX β} (hs : gf w l 1 1 = some (.int s)) (h : gSat (K s w) P E) : gSat (gbind (f_AL_size g0 l w) K) P E := by
  have : f_AL_size g0 l w = some (.inr s, w) := by simp [f_AL_size, gfI, hs, gvI]
  rw [this]
  exact h
theorem w_get {l c : Nat} {s p : Int32} {K : Nat → gW → gX β} (hI : gIv Γ w0 w) (hl : Γ.T l = some (Ty.lst c)) (hs : gf w l 1 1 = some (.int s)) (hp : 0 ≤ p.toInt ∧ p.toInt < s.toInt) (h : ∀ y, Γ.T y = some (elemTy c) → gSat (K y w) P E) : gSat (gbind (f_AL_get g0 l p w) K) P E := by
  obtain ⟨z, e1, e2⟩ := l_get (g0 := g0) hI hl hs hp
  rw [e1]
  exact h z e2
theorem w_thr {α : Type} {P : α → gW → Prop} {n : String} (hI : gIv Γ w0 w) (h : E n (w.1, w.2 + 1)) : gSat (gthrow n w : gX α) P E := gSat.thr h
end
