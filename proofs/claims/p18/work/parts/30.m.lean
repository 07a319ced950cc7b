abbrev b_W_mass : ByteArray := method_16_code
def y_W_mass : MethodName := ⟨"BodySolidsLaw", "mass", "(LBodySolids;I[J)I"⟩
theorem d_W_mass_0 : decode b_W_mass 0 = .ok (.aload_n 2, 1) := by decide +kernel
theorem d_W_mass_1 : decode b_W_mass 1 = .ok (.iconst 0, 1) := by decide +kernel
theorem d_W_mass_2 : decode b_W_mass 2 = .ok (.aload_n 0, 1) := by decide +kernel
theorem d_W_mass_3 : decode b_W_mass 3 = .ok (.iload_n 1, 1) := by decide +kernel
theorem d_W_mass_4 : decode b_W_mass 4 = .ok (.invokevirtual 65, 3) := by decide +kernel
theorem d_W_mass_7 : decode b_W_mass 7 = .ok (.lastore, 1) := by decide +kernel
theorem d_W_mass_8 : decode b_W_mass 8 = .ok (.goto 6, 3) := by decide +kernel
theorem d_W_mass_11 : decode b_W_mass 11 = .ok (.astore_n 3, 1) := by decide +kernel
theorem d_W_mass_12 : decode b_W_mass 12 = .ok (.iconst 1, 1) := by decide +kernel
theorem d_W_mass_13 : decode b_W_mass 13 = .ok (.ireturn, 1) := by decide +kernel
theorem d_W_mass_14 : decode b_W_mass 14 = .ok (.iconst 0, 1) := by decide +kernel
theorem d_W_mass_15 : decode b_W_mass 15 = .ok (.ireturn, 1) := by decide +kernel
abbrev rm_W_mass : Room := { frames := 10, cells := 1, slots := 6, locals := 153 }
theorem ce_W_mass : gCe y_W_mass (.codeWith y_W_mass b_W_mass 4 (some .int) [(0, 8, 11, 13)]) 4 3 true := gCe.codeWith wd_774 wd_48 wd_773 (by decide) (by decide +kernel)
def f_W_mass (g0 : gG) (a0 : Nat) (p1 : Int32) (a2 : Nat) (w : gW) : gX Int32 := (gck w a0 0).bind fun _ => gtry (f_B_mass g0 a0 p1 w) (fun E w => if E = "java/lang/IndexOutOfBoundsException" then some (.inr 1, w) else none) fun v5 w => (gsJ w a2 0 v5).bind fun w => some (.inr 0, w)
set_option maxHeartbeats 4000000 in
set_option maxRecDepth 100000 in
theorem m_W_mass (l : Launch) (hst : l.stackTraces = false) (D : gD) (g0 : gG) (a0 : Nat) (p1 : Int32) (a2 : Nat) (w : gW) (r : (String ⊕ Int32) × gW) (h : f_W_mass g0 a0 p1 a2 w = some r) : gMet l y_W_mass (.codeWith y_W_mass b_W_mass 4 (some .int) [(0, 8, 11, 13)]) rm_W_mass D g0 [.ref a0, .int p1, .ref a2] w (goI r) := by
  refine gw_ofW (by decide +kernel) (Nat.le_of_ble_eq_true rfl) ?_
  intro p e s m below meth c ls args A Q hx hb hml hown htab hT hK hZ hA hret hI hl
  obtain ⟨H, hH⟩ : ∃ H, H = s.heap := ⟨_, rfl⟩
  rw [← hH] at hI ⊢
  obtain ⟨locs, hlocs⟩ : ∃ z : List Loc, z = [] := ⟨_, rfl⟩
  rw [← hlocs] at hI ⊢
  have hl : lv_has ls 4 [(0, .ref a0), (1, .int p1), (2, .ref a2)] := hl
  unfold f_W_mass at h
  refine lv_aload_n hx hb d_W_mass_0 rfl (lv_at hl 2 rfl) ?_
  refine lv_iconst (v := 0) hx hb d_W_mass_1 (by decide) ?_
  refine lv_aload_n hx hb d_W_mass_2 rfl (lv_at hl 0 rfl) ?_
  refine lv_iload_n hx hb d_W_mass_3 rfl (lv_at hl 1 rfl) ?_
  obtain ⟨q3, e4, h⟩ := gb h
  obtain ⟨u1, e2⟩ := gsomeT h
  refine gw_tryJ e2 h (gw_runV (As := [.int p1]) (rest := [.int 0, .ref a2]) hx hb hml hown hT hK hZ hA hI (ci := 0) rfl e4 (m_B_mass l hst D g0 a0 p1 w u1 e2) ce_B_mass wd_775 wd_777 ⟨by decide, by decide⟩ rfl rfl hl.1 rfl (lv_room (Nat.le_of_ble_eq_true rfl)) d_W_mass_4 ⟨(show 0 + 1 ≤ 1 by omega), (show 0 + 6 ≤ 6 by omega)⟩) hI hA (fun E w H locs q ce h hI hq hv hE => ?_) (fun v5 w H locs h hI => ?_)
  · skip
    rcases gcs h with ⟨rfl, h⟩ | ⟨-, h⟩
    · refine gw_catch1 hown hT htab wd_430 (by decide) (by decide) hq hv hE ?_
      refine lv_astore_n (lv' := [(3, .ref q), (0, .ref a0), (1, .int p1), (2, .ref a2)]) hx hb d_W_mass_11 rfl hl (by decide) rfl (fun ls hl => ?_)
      refine lv_iconst (v := 1) hx hb d_W_mass_12 (by decide) ?_
      exact W.widen (show 1 ≤ 1 by omega) (show 6 ≤ 6 by omega) (hret _ _ (Option.some.inj h).symm _ _ _ _ d_W_mass_13 hI)
    exact absurd h (by simp)
  refine W.widen (k := 1) (n := 6) (show 0 + 1 ≤ 1 by omega) (show 0 + 6 ≤ 6 by omega) ?_
  obtain ⟨w, e6, h⟩ := gb h
  refine gw_astJ hx hb hK hI e6 d_W_mass_7 (fun H locs hI => ?_)
  refine lv_goto (tgt := 14) hx hb d_W_mass_8 (by decide) ?_
  refine lv_iconst (v := 0) hx hb d_W_mass_14 (by decide) ?_
  exact W.widen (show 1 ≤ 1 by omega) (show 6 ≤ 6 by omega) (hret _ _ (Option.some.inj h).symm _ _ _ _ d_W_mass_15 hI)
