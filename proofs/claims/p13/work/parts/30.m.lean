abbrev b_W_place : ByteArray := method_9_code
def y_W_place : MethodName := ⟨"BodySolidsLaw", "place", "(LBodySolids;IJJII[J)I"⟩
theorem d_W_place_0 : decode b_W_place 0 = .ok (.aload 8, 2) := by decide +kernel
theorem d_W_place_2 : decode b_W_place 2 = .ok (.iconst 0, 1) := by decide +kernel
theorem d_W_place_3 : decode b_W_place 3 = .ok (.aload_n 0, 1) := by decide +kernel
theorem d_W_place_4 : decode b_W_place 4 = .ok (.iload_n 1, 1) := by decide +kernel
theorem d_W_place_5 : decode b_W_place 5 = .ok (.lload_n 2, 1) := by decide +kernel
theorem d_W_place_6 : decode b_W_place 6 = .ok (.lload 4, 2) := by decide +kernel
theorem d_W_place_8 : decode b_W_place 8 = .ok (.iload 6, 2) := by decide +kernel
theorem d_W_place_10 : decode b_W_place 10 = .ok (.iload 7, 2) := by decide +kernel
theorem d_W_place_12 : decode b_W_place 12 = .ok (.invokevirtual 37, 3) := by decide +kernel
theorem d_W_place_15 : decode b_W_place 15 = .ok (.i2l, 1) := by decide +kernel
theorem d_W_place_16 : decode b_W_place 16 = .ok (.lastore, 1) := by decide +kernel
theorem d_W_place_17 : decode b_W_place 17 = .ok (.goto 11, 3) := by decide +kernel
theorem d_W_place_20 : decode b_W_place 20 = .ok (.astore 9, 2) := by decide +kernel
theorem d_W_place_22 : decode b_W_place 22 = .ok (.iconst 1, 1) := by decide +kernel
theorem d_W_place_23 : decode b_W_place 23 = .ok (.ireturn, 1) := by decide +kernel
theorem d_W_place_24 : decode b_W_place 24 = .ok (.astore 9, 2) := by decide +kernel
theorem d_W_place_26 : decode b_W_place 26 = .ok (.iconst 2, 1) := by decide +kernel
theorem d_W_place_27 : decode b_W_place 27 = .ok (.ireturn, 1) := by decide +kernel
theorem d_W_place_28 : decode b_W_place 28 = .ok (.iconst 0, 1) := by decide +kernel
theorem d_W_place_29 : decode b_W_place 29 = .ok (.ireturn, 1) := by decide +kernel
abbrev rm_W_place : Room := { frames := 10, cells := 7, slots := 99, locals := 209 }
theorem ce_W_place : gCe y_W_place (.codeWith y_W_place b_W_place 10 (some .int) [(0, 17, 20, 13), (0, 17, 24, 15)]) 10 7 true := gCe.codeWith wd_637 wd_48 wd_636 (by decide) (by decide +kernel)
def f_W_place (g0 : gG) (a0 : Nat) (p1 : Int32) (p2 : Int64) (p3 : Int64) (p4 : Int32) (p5 : Int32) (a6 : Nat) (w : gW) : gX Int32 := (gck w a0 0).bind fun _ => gtry (f_B_place g0 a0 p1 p2 p3 p4 p5 w) (fun E w => if E = "java/lang/IndexOutOfBoundsException" then some (.inr 1, w) else if E = "java/lang/IllegalArgumentException" then some (.inr 2, w) else none) fun v5 w => (gsJ w a6 0 (v5.toInt64)).bind fun w => some (.inr 0, w)
set_option maxHeartbeats 4000000 in
set_option maxRecDepth 100000 in
theorem m_W_place (l : Launch) (hst : l.stackTraces = false) (D : gD) (g0 : gG) (a0 : Nat) (p1 : Int32) (p2 : Int64) (p3 : Int64) (p4 : Int32) (p5 : Int32) (a6 : Nat) (w : gW) (r : (String ⊕ Int32) × gW) (h : f_W_place g0 a0 p1 p2 p3 p4 p5 a6 w = some r) : gMet l y_W_place (.codeWith y_W_place b_W_place 10 (some .int) [(0, 17, 20, 13), (0, 17, 24, 15)]) rm_W_place D g0 [.ref a0, .int p1, .long p2, .long p3, .int p4, .int p5, .ref a6] w (goI r) := by
  refine gw_ofW (by decide +kernel) (Nat.le_of_ble_eq_true rfl) ?_
  intro p e s m below meth c ls args A Q hx hb hml hown htab hT hK hZ hA hret hI hl
  obtain ⟨H, hH⟩ : ∃ H, H = s.heap := ⟨_, rfl⟩
  rw [← hH] at hI ⊢
  obtain ⟨locs, hlocs⟩ : ∃ z : List Loc, z = [] := ⟨_, rfl⟩
  rw [← hlocs] at hI ⊢
  have hl : lv_has ls 10 [(0, .ref a0), (1, .int p1), (2, .long p2), (4, .long p3), (6, .int p4), (7, .int p5), (8, .ref a6)] := hl
  unfold f_W_place at h
  refine lv_aload hx hb d_W_place_0 (lv_at hl 6 rfl) ?_
  refine lv_iconst (v := 0) hx hb d_W_place_2 (by decide) ?_
  refine lv_aload_n hx hb d_W_place_3 rfl (lv_at hl 0 rfl) ?_
  refine lv_iload_n hx hb d_W_place_4 rfl (lv_at hl 1 rfl) ?_
  refine lv_lload_n hx hb d_W_place_5 rfl (lv_at hl 2 rfl) ?_
  refine lv_lload hx hb d_W_place_6 (lv_at hl 3 rfl) ?_
  refine lv_iload hx hb d_W_place_8 (lv_at hl 4 rfl) ?_
  refine lv_iload hx hb d_W_place_10 (lv_at hl 5 rfl) ?_
  obtain ⟨q3, e4, h⟩ := gb h
  obtain ⟨u1, e2⟩ := gsomeT h
  refine gw_tryI e2 h (gw_runV (As := [.int p1, .long p2, .long p3, .int p4, .int p5]) (rest := [.int 0, .ref a6]) hx hb hml hown hT hK hZ hA hI (ci := 0) rfl e4 (m_B_place l hst D g0 a0 p1 p2 p3 p4 p5 w u1 e2) ce_B_place wd_638 wd_640 ⟨by decide, by decide⟩ rfl rfl hl.1 rfl (lv_room (Nat.le_of_ble_eq_true rfl)) d_W_place_12 ⟨(show 0 + 7 ≤ 7 by omega), (show 0 + 99 ≤ 99 by omega)⟩) hI hA (fun E w H locs q ce h hI hq hv hE => ?_) (fun v5 w H locs h hI => ?_)
  · skip
    rcases gcs h with ⟨rfl, h⟩ | ⟨-, h⟩
    · refine gw_catch1 hown hT htab wd_430 (by decide) (by decide) hq hv hE ?_
      refine lv_astore (lv' := [(9, .ref q), (0, .ref a0), (1, .int p1), (2, .long p2), (4, .long p3), (6, .int p4), (7, .int p5), (8, .ref a6)]) hx hb d_W_place_20 hl (by decide) rfl (fun ls hl => ?_)
      refine lv_iconst (v := 1) hx hb d_W_place_22 (by decide) ?_
      exact W.widen (show 7 ≤ 7 by omega) (show 99 ≤ 99 by omega) (hret _ _ (Option.some.inj h).symm _ _ _ _ d_W_place_23 hI)
    rcases gcs h with ⟨rfl, h⟩ | ⟨-, h⟩
    · refine gw_catch2 hown hT hZ htab wd_430 (by decide) (by decide) wd_431 (by decide) (by decide) (by decide) hq hv hE ?_
      refine lv_astore (lv' := [(9, .ref q), (0, .ref a0), (1, .int p1), (2, .long p2), (4, .long p3), (6, .int p4), (7, .int p5), (8, .ref a6)]) hx hb d_W_place_24 hl (by decide) rfl (fun ls hl => ?_)
      refine lv_iconst (v := 2) hx hb d_W_place_26 (by decide) ?_
      exact W.widen (show 7 ≤ 7 by omega) (show 99 ≤ 99 by omega) (hret _ _ (Option.some.inj h).symm _ _ _ _ d_W_place_27 hI)
    exact absurd h (by simp)
  refine W.widen (k := 7) (n := 99) (show 0 + 7 ≤ 7 by omega) (show 0 + 99 ≤ 99 by omega) ?_
  refine lv_i2l (v := v5.toInt64) hx hb d_W_place_15 rfl ?_
  obtain ⟨w, e6, h⟩ := gb h
  refine gw_astJ hx hb hK hI e6 d_W_place_16 (fun H locs hI => ?_)
  refine lv_goto (tgt := 28) hx hb d_W_place_17 (by decide) ?_
  refine lv_iconst (v := 0) hx hb d_W_place_28 (by decide) ?_
  exact W.widen (show 7 ≤ 7 by omega) (show 99 ≤ 99 by omega) (hret _ _ (Option.some.inj h).symm _ _ _ _ d_W_place_29 hI)
