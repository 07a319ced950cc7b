/-! ===== the pure level: a run that does not come out 'none' ===== -/
def gSat {α : Type} (x : gX α) (P : α → gW → Prop) (E : String → gW → Prop) : Prop := ∃ o, x = some o ∧ match o.1 with
  | .inl n => E n o.2
  | .inr v => P v o.2
theorem gSat.ret {α : Type} {v : α} {w : gW} {P : α → gW → Prop} {E : String → gW → Prop} (h : P v w) : gSat (some (.inr v, w)) P E := ⟨_, rfl, h⟩
theorem gSat.thr {α : Type} {n : String} {w : gW} {P : α → gW → Prop} {E : String → gW → Prop} (h : E n (w.1, w.2 + 1)) : gSat (gthrow n w : gX α) P E := ⟨_, rfl, h⟩
theorem gSat.mono {α : Type} {x : gX α} {P P' : α → gW → Prop} {E E' : String → gW → Prop} (h : gSat x P E) (hP : ∀ v w, P v w → P' v w) (hE : ∀ n w, E n w → E' n w) : gSat x P' E' := by
  obtain ⟨⟨o, w⟩, h1, h2⟩ := h
  cases o with
  | inl n => exact ⟨_, h1, hE n w h2⟩
  | inr v => exact ⟨_, h1, hP v w h2⟩
theorem gSat.call {α β : Type} {x : gX α} {k : α → gW → gX β} {P : β → gW → Prop} {E : String → gW → Prop} {P1 : α → gW → Prop} {E1 : String → gW → Prop} (h : gSat x P1 E1) (hk : ∀ v w, P1 v w → gSat (k v w) P E) (hE : ∀ n w, E1 n w → E n w) : gSat (gbind x k) P E := by
  obtain ⟨⟨o, w⟩, rfl, h2⟩ := h
  cases o with
  | inl n => exact ⟨_, rfl, hE n w h2⟩
  | inr v => exact hk v w h2
theorem gSat.tried {α β : Type} {x : gX α} {C : String → gW → gX β} {k : α → gW → gX β} {P : β → gW → Prop} {E : String → gW → Prop} {P1 : α → gW → Prop} {E1 : String → gW → Prop} (h : gSat x P1 E1) (hk : ∀ v w, P1 v w → gSat (k v w) P E) (hC : ∀ n w, E1 n w → gSat (C n w) P E) : gSat (gtry x C k) P E := by
  obtain ⟨⟨o, w⟩, rfl, h2⟩ := h
  cases o with
  | inl n => exact hC n w h2
  | inr v => exact hk v w h2
theorem gSat.read {α β : Type} {x : Option α} {v : α} {k : α → gX β} {P : β → gW → Prop} {E : String → gW → Prop} (hx : x = some v) (h : gSat (k v) P E) : gSat (x.bind k) P E := by
  subst hx
  exact h
theorem gSat.guard {β : Type} {c : Prop} [Decidable c] {x : gX β} {P : β → gW → Prop} {E : String → gW → Prop} (hc : c) (h : gSat x P E) : gSat (gguard c x) P E := by
  unfold gguard
  rw [if_pos hc]
  exact h
theorem gSat.join {γ β : Type} {F : γ → gX β} {J : γ} {P : β → gW → Prop} {E : String → gW → Prop} (h : ∀ K, K = J → gSat (F K) P E) : gSat (gjoin F J) P E := h J rfl
theorem gSat.ite {β : Type} {c : Prop} [Decidable c] {x y : gX β} {P : β → gW → Prop} {E : String → gW → Prop} (h1 : c → gSat x P E) (h2 : ¬ c → gSat y P E) : gSat (if c then x else y) P E := by
  split
  · exact h1 ‹_›
  · exact h2 ‹_›
