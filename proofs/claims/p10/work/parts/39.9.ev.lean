/-! ===== a refutation: the script, and what the law's pure function answers on it (evaluated by the kernel) ===== -/
def rf_xs : List Int32 := [0, 0, 0, 0, 0, 0, 0, 0, 0, 0, 0, 0, 0, 0, 0, 1, 0, 0, 0, 0, 0, 0, 0, 0, 1, 0, 1, 0, 1, 1, 0, 0, 0, 0, 0, 0, 0, 0, 1, 0, 1, 0, 1, 1, 0, 0, 0, 0, 0, 0, 0, 0, 1, 0, 1, 0, 1, 6, 0, 0, 0, 0, 0, 0, 0, 0, 0, 0, 0, 0, 0, 6, 1, 1, 0, 0, 0, 0, 0, 0, 0, 0, 0, 0, 0, 3, 0, 0, 0, 0, 0, 0, 0, 0, 0, 0, 0, 0, 0, 4, 2, 0, 0, 0, 2, 0, 0, 0, 0, 0, 0, 0, 0, 3, 0, 0, 0, 1, 0, 0, 0, 0, 0, 0, 0, 0, 0, 3, 0, 0, 0, 0, 0, 0, 0, 0, 0, 0, 0, 0, 0, 3, 0, 1, 0, 0, 0, 0, 0, 0, 0, 0, 0, 0, 0, 4, 1, 0, 0, 0, 2, 0, 0, 0, 0, 0, 0, 0, 0, 6, 1, 1, 0, 0, 0, 0, 0, 0, 0, 0, 0, 0, 0, 7, 3, 0, 0, 0, 0, 0, 0, 0, 0, 0, 0, 0, 0, 8, 0, 0, 1, 0, 0, 0, 0, 0, 0, 0, 0, 0, 0]
def rf_is (r : gX Int32) : Bool := match r with
  | some (.inr v, _) => decide (v = 0)
  | _ => false
theorem rf_is_spec : ∀ r : gX Int32, rf_is r = true → ∃ w1, r = some (.inr 0, w1)
  | some (.inr v, w1), h => ⟨w1, by rw [of_decide_eq_true h]⟩
  | some (.inl _, _), h => by cases h
  | none, h => by cases h
theorem rf_ev : rf_is (f_law (3, 10) 0 (gw0 0 rf_xs.length 3 11 (fun j => rf_xs.getD j 0))) = true := by decide +kernel
theorem rf_f : ∃ w1, f_law (3, 10) 0 (gw0 0 rf_xs.length 3 11 (fun j => rf_xs.getD j 0)) = some (.inr 0, w1) := rf_is_spec _ rf_ev
