abbrev b_W_section : ByteArray := method_15_code
def y_W_section : MethodName := ⟨"BodySolidsLaw", "section", "(LBodySolids;JII[J)I"⟩
theorem d_W_section_0 : decode b_W_section 0 = .ok (.aload 5, 2) := by decide +kernel
theorem d_W_section_2 : decode b_W_section 2 = .ok (.iconst 0, 1) := by decide +kernel
theorem d_W_section_3 : decode b_W_section 3 = .ok (.aload_n 0, 1) := by decide +kernel
theorem d_W_section_4 : decode b_W_section 4 = .ok (.lload_n 1, 1) := by decide +kernel
theorem d_W_section_5 : decode b_W_section 5 = .ok (.iload_n 3, 1) := by decide +kernel
theorem d_W_section_6 : decode b_W_section 6 = .ok (.iload 4, 2) := by decide +kernel
theorem d_W_section_8 : decode b_W_section 8 = .ok (.invokevirtual 61, 3) := by decide +kernel
theorem d_W_section_11 : decode b_W_section 11 = .ok (.lastore, 1) := by decide +kernel
theorem d_W_section_12 : decode b_W_section 12 = .ok (.goto 7, 3) := by decide +kernel
theorem d_W_section_15 : decode b_W_section 15 = .ok (.astore 6, 2) := by decide +kernel
theorem d_W_section_17 : decode b_W_section 17 = .ok (.iconst 1, 1) := by decide +kernel
theorem d_W_section_18 : decode b_W_section 18 = .ok (.ireturn, 1) := by decide +kernel
theorem d_W_section_19 : decode b_W_section 19 = .ok (.iconst 0, 1) := by decide +kernel
theorem d_W_section_20 : decode b_W_section 20 = .ok (.ireturn, 1) := by decide +kernel
abbrev rm_W_section : Room := { frames := 9, cells := 1, slots := 6, locals := 138 }
theorem ce_W_section : gCe y_W_section (.codeWith y_W_section b_W_section 7 (some .int) [(0, 12, 15, 13)]) 7 5 true := gCe.codeWith wd_758 wd_48 wd_757 (by decide) (by decide +kernel)
def f_W_section (g0 : gG) (a0 : Nat) (p1 : Int64) (p2 : Int32) (p3 : Int32) (a4 : Nat) (w : gW) : gX Int32 := (gck w a0 0).bind fun _ => gtry (f_B_section g0 a0 p1 p2 p3 w) (fun E w => if E = "java/lang/IndexOutOfBoundsException" then some (.inr 1, w) else none) fun v5 w => (gsJ w a4 0 v5).bind fun w => some (.inr 0, w)
set_option maxHeartbeats 4000000 in
set_option maxRecDepth 100000 in
theorem m_W_section (l : Launch) (hst : l.stackTraces = false) (D : gD) (g0 : gG) (a0 : Nat) (p1 : Int64) (p2 : Int32) (p3 : Int32) (a4 : Nat) (w : gW) (r : (String ⊕ Int32) × gW) (h : f_W_section g0 a0 p1 p2 p3 a4 w = some r) : gMet l y_W_section (.codeWith y_W_section b_W_section 7 (some .int) [(0, 12, 15, 13)]) rm_W_section D g0 [.ref a0, .long p1, .int p2, .int p3, .ref a4] w (goI r) := by
  refine gw_ofW (by decide +kernel) (Nat.le_of_ble_eq_true rfl) ?_
  intro p e s m below meth c ls args A Q hx hb hml hown htab hT hK hZ hA hret hI hl
  obtain ⟨H, hH⟩ : ∃ H, H = s.heap := ⟨_, rfl⟩
  rw [← hH] at hI ⊢
  obtain ⟨locs, hlocs⟩ : ∃ z : List Loc, z = [] := ⟨_, rfl⟩
  rw [← hlocs] at hI ⊢
  have hl : lv_has ls 7 [(0, .ref a0), (1, .long p1), (3, .int p2), (4, .int p3), (5, .ref a4)] := hl
  unfold f_W_section at h
  refine lv_aload hx hb d_W_section_0 (lv_at hl 4 rfl) ?_
  refine lv_iconst (v := 0) hx hb d_W_section_2 (by decide) ?_
  refine lv_aload_n hx hb d_W_section_3 rfl (lv_at hl 0 rfl) ?_
  refine lv_lload_n hx hb d_W_section_4 rfl (lv_at hl 1 rfl) ?_
  refine lv_iload_n hx hb d_W_section_5 rfl (lv_at hl 2 rfl) ?_
  refine lv_iload hx hb d_W_section_6 (lv_at hl 3 rfl) ?_
  obtain ⟨q3, e4, h⟩ := gb h
  obtain ⟨u1, e2⟩ := gsomeT h
  refine gw_tryJ e2 h (gw_runV (As := [.long p1, .int p2, .int p3]) (rest := [.int 0, .ref a4]) hx hb hml hown hT hK hZ hA hI (ci := 0) rfl e4 (m_B_section l hst D g0 a0 p1 p2 p3 w u1 e2) ce_B_section wd_759 wd_761 ⟨by decide, by decide⟩ rfl rfl hl.1 rfl (lv_room (Nat.le_of_ble_eq_true rfl)) d_W_section_8 ⟨(show 0 + 1 ≤ 1 by omega), (show 0 + 6 ≤ 6 by omega)⟩) hI hA (fun E w H locs q ce h hI hq hv hE => ?_) (fun v5 w H locs h hI => ?_)
  · skip
    rcases gcs h with ⟨rfl, h⟩ | ⟨-, h⟩
    · refine gw_catch1 hown hT htab wd_430 (by decide) (by decide) hq hv hE ?_
      refine lv_astore (lv' := [(6, .ref q), (0, .ref a0), (1, .long p1), (3, .int p2), (4, .int p3), (5, .ref a4)]) hx hb d_W_section_15 hl (by decide) rfl (fun ls hl => ?_)
      refine lv_iconst (v := 1) hx hb d_W_section_17 (by decide) ?_
      exact W.widen (show 1 ≤ 1 by omega) (show 6 ≤ 6 by omega) (hret _ _ (Option.some.inj h).symm _ _ _ _ d_W_section_18 hI)
    exact absurd h (by simp)
  refine W.widen (k := 1) (n := 6) (show 0 + 1 ≤ 1 by omega) (show 0 + 6 ≤ 6 by omega) ?_
  obtain ⟨w, e6, h⟩ := gb h
  refine gw_astJ hx hb hK hI e6 d_W_section_11 (fun H locs hI => ?_)
  refine lv_goto (tgt := 19) hx hb d_W_section_12 (by decide) ?_
  refine lv_iconst (v := 0) hx hb d_W_section_19 (by decide) ?_
  exact W.widen (show 1 ≤ 1 by omega) (show 6 ≤ 6 by omega) (hret _ _ (Option.some.inj h).symm _ _ _ _ d_W_section_20 hI)
