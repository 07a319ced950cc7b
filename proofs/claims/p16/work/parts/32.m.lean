abbrev b_W_bound : ByteArray := method_14_code
def y_W_bound : MethodName := ⟨"BodySolidsLaw", "bound", "(LBodySolids;II[J)I"⟩
theorem d_W_bound_0 : decode b_W_bound 0 = .ok (.aload_n 3, 1) := by decide +kernel
theorem d_W_bound_1 : decode b_W_bound 1 = .ok (.iconst 0, 1) := by decide +kernel
theorem d_W_bound_2 : decode b_W_bound 2 = .ok (.aload_n 0, 1) := by decide +kernel
theorem d_W_bound_3 : decode b_W_bound 3 = .ok (.iload_n 1, 1) := by decide +kernel
theorem d_W_bound_4 : decode b_W_bound 4 = .ok (.iload_n 2, 1) := by decide +kernel
theorem d_W_bound_5 : decode b_W_bound 5 = .ok (.invokevirtual 55, 3) := by decide +kernel
theorem d_W_bound_8 : decode b_W_bound 8 = .ok (.lastore, 1) := by decide +kernel
theorem d_W_bound_9 : decode b_W_bound 9 = .ok (.goto 11, 3) := by decide +kernel
theorem d_W_bound_12 : decode b_W_bound 12 = .ok (.astore 4, 2) := by decide +kernel
theorem d_W_bound_14 : decode b_W_bound 14 = .ok (.iconst 1, 1) := by decide +kernel
theorem d_W_bound_15 : decode b_W_bound 15 = .ok (.ireturn, 1) := by decide +kernel
theorem d_W_bound_16 : decode b_W_bound 16 = .ok (.astore 4, 2) := by decide +kernel
theorem d_W_bound_18 : decode b_W_bound 18 = .ok (.iconst 2, 1) := by decide +kernel
theorem d_W_bound_19 : decode b_W_bound 19 = .ok (.ireturn, 1) := by decide +kernel
theorem d_W_bound_20 : decode b_W_bound 20 = .ok (.iconst 0, 1) := by decide +kernel
theorem d_W_bound_21 : decode b_W_bound 21 = .ok (.ireturn, 1) := by decide +kernel
abbrev rm_W_bound : Room := { frames := 10, cells := 3, slots := 18, locals := 160 }
theorem ce_W_bound : gCe y_W_bound (.codeWith y_W_bound b_W_bound 5 (some .int) [(0, 9, 12, 13), (0, 9, 16, 59)]) 5 4 true := gCe.codeWith wd_730 wd_48 wd_729 (by decide) (by decide +kernel)
def f_W_bound (g0 : gG) (a0 : Nat) (p1 : Int32) (p2 : Int32) (a3 : Nat) (w : gW) : gX Int32 := (gck w a0 0).bind fun _ => gtry (f_B_bound g0 a0 p1 p2 w) (fun E w => if E = "java/lang/IndexOutOfBoundsException" then some (.inr 1, w) else if E = "java/lang/IllegalStateException" then some (.inr 2, w) else none) fun v5 w => (gsJ w a3 0 v5).bind fun w => some (.inr 0, w)
set_option maxHeartbeats 4000000 in
set_option maxRecDepth 100000 in
theorem m_W_bound (l : Launch) (hst : l.stackTraces = false) (D : gD) (g0 : gG) (a0 : Nat) (p1 : Int32) (p2 : Int32) (a3 : Nat) (w : gW) (r : (String ⊕ Int32) × gW) (h : f_W_bound g0 a0 p1 p2 a3 w = some r) : gMet l y_W_bound (.codeWith y_W_bound b_W_bound 5 (some .int) [(0, 9, 12, 13), (0, 9, 16, 59)]) rm_W_bound D g0 [.ref a0, .int p1, .int p2, .ref a3] w (goI r) := by
  refine gw_ofW (by decide +kernel) (Nat.le_of_ble_eq_true rfl) ?_
  intro p e s m below meth c ls args A Q hx hb hml hown htab hT hK hZ hA hret hI hl
  obtain ⟨H, hH⟩ : ∃ H, H = s.heap := ⟨_, rfl⟩
  rw [← hH] at hI ⊢
  obtain ⟨locs, hlocs⟩ : ∃ z : List Loc, z = [] := ⟨_, rfl⟩
  rw [← hlocs] at hI ⊢
  have hl : lv_has ls 5 [(0, .ref a0), (1, .int p1), (2, .int p2), (3, .ref a3)] := hl
  unfold f_W_bound at h
  refine lv_aload_n hx hb d_W_bound_0 rfl (lv_at hl 3 rfl) ?_
  refine lv_iconst (v := 0) hx hb d_W_bound_1 (by decide) ?_
  refine lv_aload_n hx hb d_W_bound_2 rfl (lv_at hl 0 rfl) ?_
  refine lv_iload_n hx hb d_W_bound_3 rfl (lv_at hl 1 rfl) ?_
  refine lv_iload_n hx hb d_W_bound_4 rfl (lv_at hl 2 rfl) ?_
  obtain ⟨q3, e4, h⟩ := gb h
  obtain ⟨u1, e2⟩ := gsomeT h
  refine gw_tryJ e2 h (gw_runV (As := [.int p1, .int p2]) (rest := [.int 0, .ref a3]) hx hb hml hown hT hK hZ hA hI (ci := 0) rfl e4 (m_B_bound l hst D g0 a0 p1 p2 w u1 e2) ce_B_bound wd_732 wd_734 ⟨by decide, by decide⟩ rfl rfl hl.1 rfl (lv_room (Nat.le_of_ble_eq_true rfl)) d_W_bound_5 ⟨(show 0 + 3 ≤ 3 by omega), (show 0 + 18 ≤ 18 by omega)⟩) hI hA (fun E w H locs q ce h hI hq hv hE => ?_) (fun v5 w H locs h hI => ?_)
  · skip
    rcases gcs h with ⟨rfl, h⟩ | ⟨-, h⟩
    · refine gw_catch1 hown hT htab wd_430 (by decide) (by decide) hq hv hE ?_
      refine lv_astore (lv' := [(4, .ref q), (0, .ref a0), (1, .int p1), (2, .int p2), (3, .ref a3)]) hx hb d_W_bound_12 hl (by decide) rfl (fun ls hl => ?_)
      refine lv_iconst (v := 1) hx hb d_W_bound_14 (by decide) ?_
      exact W.widen (show 3 ≤ 3 by omega) (show 18 ≤ 18 by omega) (hret _ _ (Option.some.inj h).symm _ _ _ _ d_W_bound_15 hI)
    rcases gcs h with ⟨rfl, h⟩ | ⟨-, h⟩
    · refine gw_catch2 hown hT hZ htab wd_430 (by decide) (by decide) wd_731 (by decide) (by decide) (by decide) hq hv hE ?_
      refine lv_astore (lv' := [(4, .ref q), (0, .ref a0), (1, .int p1), (2, .int p2), (3, .ref a3)]) hx hb d_W_bound_16 hl (by decide) rfl (fun ls hl => ?_)
      refine lv_iconst (v := 2) hx hb d_W_bound_18 (by decide) ?_
      exact W.widen (show 3 ≤ 3 by omega) (show 18 ≤ 18 by omega) (hret _ _ (Option.some.inj h).symm _ _ _ _ d_W_bound_19 hI)
    exact absurd h (by simp)
  refine W.widen (k := 3) (n := 18) (show 0 + 3 ≤ 3 by omega) (show 0 + 18 ≤ 18 by omega) ?_
  obtain ⟨w, e6, h⟩ := gb h
  refine gw_astJ hx hb hK hI e6 d_W_bound_8 (fun H locs hI => ?_)
  refine lv_goto (tgt := 20) hx hb d_W_bound_9 (by decide) ?_
  refine lv_iconst (v := 0) hx hb d_W_bound_20 (by decide) ?_
  exact W.widen (show 3 ≤ 3 by omega) (show 18 ≤ 18 by omega) (hret _ _ (Option.some.inj h).symm _ _ _ _ d_W_bound_21 hI)
