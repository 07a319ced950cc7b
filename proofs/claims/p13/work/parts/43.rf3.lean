/-! ===== THE REFUTATION: a start that the statement allows, from which the law's method ends with 0 ===== -/
theorem rf_P (h : rf_xs.length ≤ 7169) : lw_P 0 rf_xs start1.args0 rf_s := ⟨rfl, rf_ints, h, rf_pre⟩
theorem rf_end : ∃ (n : Nat) (o : Outcome), (∀ k, k < n → Within (stepsAlone start1.p0.tables start1.e0 k rf_s) Lib.HandBits.below0) ∧ (stepsAlone start1.p0.tables start1.e0 n rf_s).status = .running ∧ Ended (stepsAlone start1.p0.tables start1.e0 n rf_s) Lib.HandBits.below0 o ∧ o = .returned (some (.int 0)) := by
  have hst : launch0.stackTraces = false := by decide +kernel
  have hw := lz_walk launch0 hst 0 rf_xs rf_s (fun d mi A h1 h2 => by
    cases rf_d h1
    cases rf_mi h2
    rw [rf_size]
    exact rf_f)
  exact hw start1.p0 start1.e0 (launch0.admits_env _ _ _) fairChoices_fair.cas fairChoices_fair.clock rf_s ⟨0, 0⟩ start1.args0 Lib.HandBits.below0 rfl ((Spec.applies_iff_loose rfl).mp rf_app).1 ⟨rf_P (by decide +kernel), rfl⟩ trivial
theorem rf_post {tb : Tables} {e : Env} {a : Array Value} {s t : State} : ¬ Post_1_2 tb e a s (.returned (some (.int 0))) t := by
  intro h
  have h1 : limb_1_2.after a s (.returned (some (.int 0))) t = true := h.1
  have h2 := Cond.after_iff.mp h1
  rw [show limb_1_2 = Cond.eq .result (.int 1) from rfl, Cond.eq_ints (x := 0) (y := 1) rfl rfl] at h2
  simp at h2
theorem rf_flags : launch0.flags = flags0 := by decide +kernel
/-- the refutation in the Statement's own form -/
theorem refuted_1_2 : RefutedClaimed_1_2 := by
  obtain ⟨n, o, h1, h2, h3, rfl⟩ := rf_end
  exact ⟨launch0, start1.p0, start1.e0, rf_s, ⟨0, 0⟩, start1.args0, Lib.HandBits.below0, rf_flags, rf_atStart, n, _, h1, h2, h3, rf_post⟩
/-- what was to be proved is false -/
theorem not_claimed_1_2 : ¬ Claimed_1_2 := by
  intro h
  obtain ⟨n, o, b1, b2, b3, hb⟩ := rf_end
  have happ := rf_atStart
  obtain ⟨c1, c2, c3, c4, c5, c6, c7, c8, c9, c10, c11, c12, c13⟩ := happ
  obtain ⟨k, o', a1, a2, a3, a4⟩ := h launch0 rf_flags c1 c2 start1.p0 start1.e0 c3 c5 c6 rf_s ⟨0, 0⟩ start1.args0 Lib.HandBits.below0 c7 c8 c9 c10 ⟨c11, c12, c13⟩
  have hnk : n = k := by
    rcases Nat.lt_trichotomy n k with q | q | q
    · exact absurd (a1 n q) b3.not_within
    · exact q
    · exact absurd (b1 k q) a3.not_within
  subst hnk
  have ho := a3.outcome_unique b3
  rw [ho, hb] at a4
  exact rf_post a4
theorem not_vc : ¬ (Claimed_1_1 ∧ Claimed_1_2) := fun h => not_claimed_1_2 h.2
