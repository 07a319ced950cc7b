abbrev b_W_clash : ByteArray := method_11_code
def y_W_clash : MethodName := ⟨"BodySolidsLaw", "clash", "(LBodySolids;II[J)I"⟩
theorem d_W_clash_0 : decode b_W_clash 0 = .ok (.aload_n 3, 1) := by decide +kernel
theorem d_W_clash_1 : decode b_W_clash 1 = .ok (.iconst 0, 1) := by decide +kernel
theorem d_W_clash_2 : decode b_W_clash 2 = .ok (.aload_n 0, 1) := by decide +kernel
theorem d_W_clash_3 : decode b_W_clash 3 = .ok (.iload_n 1, 1) := by decide +kernel
theorem d_W_clash_4 : decode b_W_clash 4 = .ok (.iload_n 2, 1) := by decide +kernel
theorem d_W_clash_5 : decode b_W_clash 5 = .ok (.invokevirtual 45, 3) := by decide +kernel
theorem d_W_clash_8 : decode b_W_clash 8 = .ok (.i2l, 1) := by decide +kernel
theorem d_W_clash_9 : decode b_W_clash 9 = .ok (.lastore, 1) := by decide +kernel
theorem d_W_clash_10 : decode b_W_clash 10 = .ok (.goto 7, 3) := by decide +kernel
theorem d_W_clash_13 : decode b_W_clash 13 = .ok (.astore 4, 2) := by decide +kernel
theorem d_W_clash_15 : decode b_W_clash 15 = .ok (.iconst 1, 1) := by decide +kernel
theorem d_W_clash_16 : decode b_W_clash 16 = .ok (.ireturn, 1) := by decide +kernel
theorem d_W_clash_17 : decode b_W_clash 17 = .ok (.iconst 0, 1) := by decide +kernel
theorem d_W_clash_18 : decode b_W_clash 18 = .ok (.ireturn, 1) := by decide +kernel
abbrev rm_W_clash : Room := { frames := 10, cells := 2, slots := 12, locals := 216 }
theorem ce_W_clash : gCe y_W_clash (.codeWith y_W_clash b_W_clash 5 (some .int) [(0, 10, 13, 13)]) 5 4 true := gCe.codeWith wd_692 wd_48 wd_691 (by decide) (by decide +kernel)
def f_W_clash (g0 : gG) (a0 : Nat) (p1 : Int32) (p2 : Int32) (a3 : Nat) (w : gW) : gX Int32 := (gck w a0 0).bind fun _ => gtry (f_B_clash g0 a0 p1 p2 w) (fun E w => if E = "java/lang/IndexOutOfBoundsException" then some (.inr 1, w) else none) fun v5 w => (gsJ w a3 0 (v5.toInt64)).bind fun w => some (.inr 0, w)
set_option maxHeartbeats 4000000 in
set_option maxRecDepth 100000 in
theorem m_W_clash (l : Launch) (hst : l.stackTraces = false) (D : gD) (g0 : gG) (a0 : Nat) (p1 : Int32) (p2 : Int32) (a3 : Nat) (w : gW) (r : (String ⊕ Int32) × gW) (h : f_W_clash g0 a0 p1 p2 a3 w = some r) : gMet l y_W_clash (.codeWith y_W_clash b_W_clash 5 (some .int) [(0, 10, 13, 13)]) rm_W_clash D g0 [.ref a0, .int p1, .int p2, .ref a3] w (goI r) := by
  refine gw_ofW (by decide +kernel) (Nat.le_of_ble_eq_true rfl) ?_
  intro p e s m below meth c ls args A Q hx hb hml hown htab hT hK hZ hA hret hI hl
  obtain ⟨H, hH⟩ : ∃ H, H = s.heap := ⟨_, rfl⟩
  rw [← hH] at hI ⊢
  obtain ⟨locs, hlocs⟩ : ∃ z : List Loc, z = [] := ⟨_, rfl⟩
  rw [← hlocs] at hI ⊢
  have hl : lv_has ls 5 [(0, .ref a0), (1, .int p1), (2, .int p2), (3, .ref a3)] := hl
  unfold f_W_clash at h
  refine lv_aload_n hx hb d_W_clash_0 rfl (lv_at hl 3 rfl) ?_
  refine lv_iconst (v := 0) hx hb d_W_clash_1 (by decide) ?_
  refine lv_aload_n hx hb d_W_clash_2 rfl (lv_at hl 0 rfl) ?_
  refine lv_iload_n hx hb d_W_clash_3 rfl (lv_at hl 1 rfl) ?_
  refine lv_iload_n hx hb d_W_clash_4 rfl (lv_at hl 2 rfl) ?_
  obtain ⟨q3, e4, h⟩ := gb h
  obtain ⟨u1, e2⟩ := gsomeT h
  refine gw_tryI e2 h (gw_runV (As := [.int p1, .int p2]) (rest := [.int 0, .ref a3]) hx hb hml hown hT hK hZ hA hI (ci := 0) rfl e4 (m_B_clash l hst D g0 a0 p1 p2 w u1 e2) ce_B_clash wd_693 wd_695 ⟨by decide, by decide⟩ rfl rfl hl.1 rfl (lv_room (Nat.le_of_ble_eq_true rfl)) d_W_clash_5 ⟨(show 0 + 2 ≤ 2 by omega), (show 0 + 12 ≤ 12 by omega)⟩) hI hA (fun E w H locs q ce h hI hq hv hE => ?_) (fun v5 w H locs h hI => ?_)
  · skip
    rcases gcs h with ⟨rfl, h⟩ | ⟨-, h⟩
    · refine gw_catch1 hown hT htab wd_430 (by decide) (by decide) hq hv hE ?_
      refine lv_astore (lv' := [(4, .ref q), (0, .ref a0), (1, .int p1), (2, .int p2), (3, .ref a3)]) hx hb d_W_clash_13 hl (by decide) rfl (fun ls hl => ?_)
      refine lv_iconst (v := 1) hx hb d_W_clash_15 (by decide) ?_
      exact W.widen (show 2 ≤ 2 by omega) (show 12 ≤ 12 by omega) (hret _ _ (Option.some.inj h).symm _ _ _ _ d_W_clash_16 hI)
    exact absurd h (by simp)
  refine W.widen (k := 2) (n := 12) (show 0 + 2 ≤ 2 by omega) (show 0 + 12 ≤ 12 by omega) ?_
  refine lv_i2l (v := v5.toInt64) hx hb d_W_clash_8 rfl ?_
  obtain ⟨w, e6, h⟩ := gb h
  refine gw_astJ hx hb hK hI e6 d_W_clash_9 (fun H locs hI => ?_)
  refine lv_goto (tgt := 17) hx hb d_W_clash_10 (by decide) ?_
  refine lv_iconst (v := 0) hx hb d_W_clash_17 (by decide) ?_
  exact W.widen (show 2 ≤ 2 by omega) (show 12 ≤ 12 by omega) (hret _ _ (Option.some.inj h).symm _ _ _ _ d_W_clash_18 hI)

abbrev b_W_corner : ByteArray := method_5_code
def y_W_corner : MethodName := ⟨"BodySolidsLaw", "corner", "(LBodySolids;JJ[J)I"⟩
theorem d_W_corner_0 : decode b_W_corner 0 = .ok (.aload 5, 2) := by decide +kernel
theorem d_W_corner_2 : decode b_W_corner 2 = .ok (.iconst 0, 1) := by decide +kernel
theorem d_W_corner_3 : decode b_W_corner 3 = .ok (.aload_n 0, 1) := by decide +kernel
theorem d_W_corner_4 : decode b_W_corner 4 = .ok (.lload_n 1, 1) := by decide +kernel
theorem d_W_corner_5 : decode b_W_corner 5 = .ok (.lload_n 3, 1) := by decide +kernel
theorem d_W_corner_6 : decode b_W_corner 6 = .ok (.invokevirtual 21, 3) := by decide +kernel
theorem d_W_corner_9 : decode b_W_corner 9 = .ok (.ifCond .eq 7, 3) := by decide +kernel
theorem d_W_corner_12 : decode b_W_corner 12 = .ok (.lconst 1, 1) := by decide +kernel
theorem d_W_corner_13 : decode b_W_corner 13 = .ok (.goto 4, 3) := by decide +kernel
theorem d_W_corner_16 : decode b_W_corner 16 = .ok (.lconst 0, 1) := by decide +kernel
theorem d_W_corner_17 : decode b_W_corner 17 = .ok (.lastore, 1) := by decide +kernel
theorem d_W_corner_18 : decode b_W_corner 18 = .ok (.goto 7, 3) := by decide +kernel
theorem d_W_corner_21 : decode b_W_corner 21 = .ok (.astore 6, 2) := by decide +kernel
theorem d_W_corner_23 : decode b_W_corner 23 = .ok (.iconst 1, 1) := by decide +kernel
theorem d_W_corner_24 : decode b_W_corner 24 = .ok (.ireturn, 1) := by decide +kernel
theorem d_W_corner_25 : decode b_W_corner 25 = .ok (.iconst 0, 1) := by decide +kernel
theorem d_W_corner_26 : decode b_W_corner 26 = .ok (.ireturn, 1) := by decide +kernel
abbrev rm_W_corner : Room := { frames := 10, cells := 2, slots := 12, locals := 162 }
theorem ce_W_corner : gCe y_W_corner (.codeWith y_W_corner b_W_corner 7 (some .int) [(0, 18, 21, 15)]) 7 4 true := gCe.codeWith wd_579 wd_48 wd_578 (by decide) (by decide +kernel)
def f_W_corner (g0 : gG) (a0 : Nat) (p1 : Int64) (p2 : Int64) (a3 : Nat) (w : gW) : gX Int32 := (gck w a0 0).bind fun _ => gtry (f_B_corner g0 a0 p1 p2 w) (fun E w => if E = "java/lang/IllegalArgumentException" then some (.inr 1, w) else none) fun v5 w => gjoin (fun K17 => if v5 = 0 then (K17 0 w) else (K17 1 w)) (fun (y6 : Int64) (w : gW) => (gsJ w a3 0 y6).bind fun w => some (.inr 0, w))
set_option maxHeartbeats 4000000 in
set_option maxRecDepth 100000 in
theorem m_W_corner (l : Launch) (hst : l.stackTraces = false) (D : gD) (g0 : gG) (a0 : Nat) (p1 : Int64) (p2 : Int64) (a3 : Nat) (w : gW) (r : (String ⊕ Int32) × gW) (h : f_W_corner g0 a0 p1 p2 a3 w = some r) : gMet l y_W_corner (.codeWith y_W_corner b_W_corner 7 (some .int) [(0, 18, 21, 15)]) rm_W_corner D g0 [.ref a0, .long p1, .long p2, .ref a3] w (goI r) := by
  refine gw_ofW (by decide +kernel) (Nat.le_of_ble_eq_true rfl) ?_
  intro p e s m below meth c ls args A Q hx hb hml hown htab hT hK hZ hA hret hI hl
  obtain ⟨H, hH⟩ : ∃ H, H = s.heap := ⟨_, rfl⟩
  rw [← hH] at hI ⊢
  obtain ⟨locs, hlocs⟩ : ∃ z : List Loc, z = [] := ⟨_, rfl⟩
  rw [← hlocs] at hI ⊢
  have hl : lv_has ls 7 [(0, .ref a0), (1, .long p1), (3, .long p2), (5, .ref a3)] := hl
  unfold f_W_corner at h
  refine lv_aload hx hb d_W_corner_0 (lv_at hl 3 rfl) ?_
  refine lv_iconst (v := 0) hx hb d_W_corner_2 (by decide) ?_
  refine lv_aload_n hx hb d_W_corner_3 rfl (lv_at hl 0 rfl) ?_
  refine lv_lload_n hx hb d_W_corner_4 rfl (lv_at hl 1 rfl) ?_
  refine lv_lload_n hx hb d_W_corner_5 rfl (lv_at hl 2 rfl) ?_
  obtain ⟨q3, e4, h⟩ := gb h
  obtain ⟨u1, e2⟩ := gsomeT h
  refine gw_tryI e2 h (gw_runV (As := [.long p1, .long p2]) (rest := [.int 0, .ref a3]) hx hb hml hown hT hK hZ hA hI (ci := 0) rfl e4 (m_B_corner l hst D g0 a0 p1 p2 w u1 e2) ce_B_corner wd_580 wd_582 ⟨by decide, by decide⟩ rfl rfl hl.1 rfl (lv_room (Nat.le_of_ble_eq_true rfl)) d_W_corner_6 ⟨(show 0 + 2 ≤ 2 by omega), (show 0 + 12 ≤ 12 by omega)⟩) hI hA (fun E w H locs q ce h hI hq hv hE => ?_) (fun v5 w H locs h hI => ?_)
  · skip
    rcases gcs h with ⟨rfl, h⟩ | ⟨-, h⟩
    · refine gw_catch1 hown hT htab wd_431 (by decide) (by decide) hq hv hE ?_
      refine lv_astore (lv' := [(6, .ref q), (0, .ref a0), (1, .long p1), (3, .long p2), (5, .ref a3)]) hx hb d_W_corner_21 hl (by decide) rfl (fun ls hl => ?_)
      refine lv_iconst (v := 1) hx hb d_W_corner_23 (by decide) ?_
      exact W.widen (show 2 ≤ 2 by omega) (show 12 ≤ 12 by omega) (hret _ _ (Option.some.inj h).symm _ _ _ _ d_W_corner_24 hI)
    exact absurd h (by simp)
  refine W.widen (k := 2) (n := 12) (show 0 + 2 ≤ 2 by omega) (show 0 + 12 ≤ 12 by omega) ?_
  obtain ⟨K17, eK17, h⟩ := gj h
  have hK17 : ∀ (y6 : Int64) (w : gW) (H : Heap) (locs : List Loc) (ls : Array Slot), K17 y6 w = some r → gI D s A w H locs → lv_has ls 7 [] → W p l e rm_W_corner s m args below meth c H locs 2 12 Q (F0 m 17 ls [.long y6, .int 0, .ref a3]) := by
    intro y6 w H locs ls h hI hl
    have h := gk2 eK17 h
    obtain ⟨w, e7, h⟩ := gb h
    refine gw_astJ hx hb hK hI e7 d_W_corner_17 (fun H locs hI => ?_)
    refine lv_goto (tgt := 25) hx hb d_W_corner_18 (by decide) ?_
    refine lv_iconst (v := 0) hx hb d_W_corner_25 (by decide) ?_
    exact W.widen (show 2 ≤ 2 by omega) (show 12 ≤ 12 by omega) (hret _ _ (Option.some.inj h).symm _ _ _ _ d_W_corner_26 hI)
  refine lv_if_eq (tgt := 16) hx hb d_W_corner_9 (by decide) (fun c8 => ?_) (fun c8 => ?_)
  · skip
    have h := git c8 h
    refine lv_lconst (v := 0) hx hb d_W_corner_16 (by decide) ?_
    exact hK17 _ w H locs ls h hI (lv_sub hl [] rfl)
  · skip
    have h := gie c8 h
    refine lv_lconst (v := 1) hx hb d_W_corner_12 (by decide) ?_
    refine lv_goto (tgt := 17) hx hb d_W_corner_13 (by decide) ?_
    exact hK17 _ w H locs ls h hI (lv_sub hl [] rfl)

abbrev b_W_cylinder : ByteArray := method_4_code
def y_W_cylinder : MethodName := ⟨"BodySolidsLaw", "cylinder", "(LBodySolids;IJJJJJ[J)I"⟩
theorem d_W_cylinder_0 : decode b_W_cylinder 0 = .ok (.aload 12, 2) := by decide +kernel
theorem d_W_cylinder_2 : decode b_W_cylinder 2 = .ok (.iconst 0, 1) := by decide +kernel
theorem d_W_cylinder_3 : decode b_W_cylinder 3 = .ok (.aload_n 0, 1) := by decide +kernel
theorem d_W_cylinder_4 : decode b_W_cylinder 4 = .ok (.iload_n 1, 1) := by decide +kernel
theorem d_W_cylinder_5 : decode b_W_cylinder 5 = .ok (.lload_n 2, 1) := by decide +kernel
theorem d_W_cylinder_6 : decode b_W_cylinder 6 = .ok (.lload 4, 2) := by decide +kernel
theorem d_W_cylinder_8 : decode b_W_cylinder 8 = .ok (.lload 6, 2) := by decide +kernel
theorem d_W_cylinder_10 : decode b_W_cylinder 10 = .ok (.lload 8, 2) := by decide +kernel
theorem d_W_cylinder_12 : decode b_W_cylinder 12 = .ok (.lload 10, 2) := by decide +kernel
theorem d_W_cylinder_14 : decode b_W_cylinder 14 = .ok (.invokevirtual 17, 3) := by decide +kernel
theorem d_W_cylinder_17 : decode b_W_cylinder 17 = .ok (.ifCond .eq 7, 3) := by decide +kernel
theorem d_W_cylinder_20 : decode b_W_cylinder 20 = .ok (.lconst 1, 1) := by decide +kernel
theorem d_W_cylinder_21 : decode b_W_cylinder 21 = .ok (.goto 4, 3) := by decide +kernel
theorem d_W_cylinder_24 : decode b_W_cylinder 24 = .ok (.lconst 0, 1) := by decide +kernel
theorem d_W_cylinder_25 : decode b_W_cylinder 25 = .ok (.lastore, 1) := by decide +kernel
theorem d_W_cylinder_26 : decode b_W_cylinder 26 = .ok (.goto 11, 3) := by decide +kernel
theorem d_W_cylinder_29 : decode b_W_cylinder 29 = .ok (.astore 13, 2) := by decide +kernel
theorem d_W_cylinder_31 : decode b_W_cylinder 31 = .ok (.iconst 1, 1) := by decide +kernel
theorem d_W_cylinder_32 : decode b_W_cylinder 32 = .ok (.ireturn, 1) := by decide +kernel
theorem d_W_cylinder_33 : decode b_W_cylinder 33 = .ok (.astore 13, 2) := by decide +kernel
theorem d_W_cylinder_35 : decode b_W_cylinder 35 = .ok (.iconst 2, 1) := by decide +kernel
theorem d_W_cylinder_36 : decode b_W_cylinder 36 = .ok (.ireturn, 1) := by decide +kernel
theorem d_W_cylinder_37 : decode b_W_cylinder 37 = .ok (.iconst 0, 1) := by decide +kernel
theorem d_W_cylinder_38 : decode b_W_cylinder 38 = .ok (.ireturn, 1) := by decide +kernel
abbrev rm_W_cylinder : Room := { frames := 11, cells := 11, slots := 134, locals := 235 }
theorem ce_W_cylinder : gCe y_W_cylinder (.codeWith y_W_cylinder b_W_cylinder 14 (some .int) [(0, 26, 29, 13), (0, 26, 33, 15)]) 14 8 true := gCe.codeWith wd_570 wd_48 wd_569 (by decide) (by decide +kernel)
def f_W_cylinder (g0 : gG) (a0 : Nat) (p1 : Int32) (p2 : Int64) (p3 : Int64) (p4 : Int64) (p5 : Int64) (p6 : Int64) (a7 : Nat) (w : gW) : gX Int32 := (gck w a0 0).bind fun _ => gtry (f_B_cylinder g0 a0 p1 p2 p3 p4 p5 p6 w) (fun E w => if E = "java/lang/IndexOutOfBoundsException" then some (.inr 1, w) else if E = "java/lang/IllegalArgumentException" then some (.inr 2, w) else none) fun v5 w => gjoin (fun K25 => if v5 = 0 then (K25 0 w) else (K25 1 w)) (fun (y6 : Int64) (w : gW) => (gsJ w a7 0 y6).bind fun w => some (.inr 0, w))
set_option maxHeartbeats 4000000 in
set_option maxRecDepth 100000 in
theorem m_W_cylinder (l : Launch) (hst : l.stackTraces = false) (D : gD) (g0 : gG) (a0 : Nat) (p1 : Int32) (p2 : Int64) (p3 : Int64) (p4 : Int64) (p5 : Int64) (p6 : Int64) (a7 : Nat) (w : gW) (r : (String ⊕ Int32) × gW) (h : f_W_cylinder g0 a0 p1 p2 p3 p4 p5 p6 a7 w = some r) : gMet l y_W_cylinder (.codeWith y_W_cylinder b_W_cylinder 14 (some .int) [(0, 26, 29, 13), (0, 26, 33, 15)]) rm_W_cylinder D g0 [.ref a0, .int p1, .long p2, .long p3, .long p4, .long p5, .long p6, .ref a7] w (goI r) := by
  refine gw_ofW (by decide +kernel) (Nat.le_of_ble_eq_true rfl) ?_
  intro p e s m below meth c ls args A Q hx hb hml hown htab hT hK hZ hA hret hI hl
  obtain ⟨H, hH⟩ : ∃ H, H = s.heap := ⟨_, rfl⟩
  rw [← hH] at hI ⊢
  obtain ⟨locs, hlocs⟩ : ∃ z : List Loc, z = [] := ⟨_, rfl⟩
  rw [← hlocs] at hI ⊢
  have hl : lv_has ls 14 [(0, .ref a0), (1, .int p1), (2, .long p2), (4, .long p3), (6, .long p4), (8, .long p5), (10, .long p6), (12, .ref a7)] := hl
  unfold f_W_cylinder at h
  refine lv_aload hx hb d_W_cylinder_0 (lv_at hl 7 rfl) ?_
  refine lv_iconst (v := 0) hx hb d_W_cylinder_2 (by decide) ?_
  refine lv_aload_n hx hb d_W_cylinder_3 rfl (lv_at hl 0 rfl) ?_
  refine lv_iload_n hx hb d_W_cylinder_4 rfl (lv_at hl 1 rfl) ?_
  refine lv_lload_n hx hb d_W_cylinder_5 rfl (lv_at hl 2 rfl) ?_
  refine lv_lload hx hb d_W_cylinder_6 (lv_at hl 3 rfl) ?_
  refine lv_lload hx hb d_W_cylinder_8 (lv_at hl 4 rfl) ?_
  refine lv_lload hx hb d_W_cylinder_10 (lv_at hl 5 rfl) ?_
  refine lv_lload hx hb d_W_cylinder_12 (lv_at hl 6 rfl) ?_
  obtain ⟨q3, e4, h⟩ := gb h
  obtain ⟨u1, e2⟩ := gsomeT h
  refine gw_tryI e2 h (gw_runV (As := [.int p1, .long p2, .long p3, .long p4, .long p5, .long p6]) (rest := [.int 0, .ref a7]) hx hb hml hown hT hK hZ hA hI (ci := 0) rfl e4 (m_B_cylinder l hst D g0 a0 p1 p2 p3 p4 p5 p6 w u1 e2) ce_B_cylinder wd_571 wd_573 ⟨by decide, by decide⟩ rfl rfl hl.1 rfl (lv_room (Nat.le_of_ble_eq_true rfl)) d_W_cylinder_14 ⟨(show 0 + 11 ≤ 11 by omega), (show 0 + 134 ≤ 134 by omega)⟩) hI hA (fun E w H locs q ce h hI hq hv hE => ?_) (fun v5 w H locs h hI => ?_)
  · skip
    rcases gcs h with ⟨rfl, h⟩ | ⟨-, h⟩
    · refine gw_catch1 hown hT htab wd_430 (by decide) (by decide) hq hv hE ?_
      refine lv_astore (lv' := [(13, .ref q), (0, .ref a0), (1, .int p1), (2, .long p2), (4, .long p3), (6, .long p4), (8, .long p5), (10, .long p6), (12, .ref a7)]) hx hb d_W_cylinder_29 hl (by decide) rfl (fun ls hl => ?_)
      refine lv_iconst (v := 1) hx hb d_W_cylinder_31 (by decide) ?_
      exact W.widen (show 11 ≤ 11 by omega) (show 134 ≤ 134 by omega) (hret _ _ (Option.some.inj h).symm _ _ _ _ d_W_cylinder_32 hI)
    rcases gcs h with ⟨rfl, h⟩ | ⟨-, h⟩
    · refine gw_catch2 hown hT hZ htab wd_430 (by decide) (by decide) wd_431 (by decide) (by decide) (by decide) hq hv hE ?_
      refine lv_astore (lv' := [(13, .ref q), (0, .ref a0), (1, .int p1), (2, .long p2), (4, .long p3), (6, .long p4), (8, .long p5), (10, .long p6), (12, .ref a7)]) hx hb d_W_cylinder_33 hl (by decide) rfl (fun ls hl => ?_)
      refine lv_iconst (v := 2) hx hb d_W_cylinder_35 (by decide) ?_
      exact W.widen (show 11 ≤ 11 by omega) (show 134 ≤ 134 by omega) (hret _ _ (Option.some.inj h).symm _ _ _ _ d_W_cylinder_36 hI)
    exact absurd h (by simp)
  refine W.widen (k := 11) (n := 134) (show 0 + 11 ≤ 11 by omega) (show 0 + 134 ≤ 134 by omega) ?_
  obtain ⟨K25, eK25, h⟩ := gj h
  have hK25 : ∀ (y6 : Int64) (w : gW) (H : Heap) (locs : List Loc) (ls : Array Slot), K25 y6 w = some r → gI D s A w H locs → lv_has ls 14 [] → W p l e rm_W_cylinder s m args below meth c H locs 11 134 Q (F0 m 25 ls [.long y6, .int 0, .ref a7]) := by
    intro y6 w H locs ls h hI hl
    have h := gk2 eK25 h
    obtain ⟨w, e7, h⟩ := gb h
    refine gw_astJ hx hb hK hI e7 d_W_cylinder_25 (fun H locs hI => ?_)
    refine lv_goto (tgt := 37) hx hb d_W_cylinder_26 (by decide) ?_
    refine lv_iconst (v := 0) hx hb d_W_cylinder_37 (by decide) ?_
    exact W.widen (show 11 ≤ 11 by omega) (show 134 ≤ 134 by omega) (hret _ _ (Option.some.inj h).symm _ _ _ _ d_W_cylinder_38 hI)
  refine lv_if_eq (tgt := 24) hx hb d_W_cylinder_17 (by decide) (fun c8 => ?_) (fun c8 => ?_)
  · skip
    have h := git c8 h
    refine lv_lconst (v := 0) hx hb d_W_cylinder_24 (by decide) ?_
    exact hK25 _ w H locs ls h hI (lv_sub hl [] rfl)
  · skip
    have h := gie c8 h
    refine lv_lconst (v := 1) hx hb d_W_cylinder_20 (by decide) ?_
    refine lv_goto (tgt := 25) hx hb d_W_cylinder_21 (by decide) ?_
    exact hK25 _ w H locs ls h hI (lv_sub hl [] rfl)

abbrev b_W_join : ByteArray := method_8_code
def y_W_join : MethodName := ⟨"BodySolidsLaw", "join", "(LBodySolids;II[J)I"⟩
theorem d_W_join_0 : decode b_W_join 0 = .ok (.aload_n 3, 1) := by decide +kernel
theorem d_W_join_1 : decode b_W_join 1 = .ok (.iconst 0, 1) := by decide +kernel
theorem d_W_join_2 : decode b_W_join 2 = .ok (.aload_n 0, 1) := by decide +kernel
theorem d_W_join_3 : decode b_W_join 3 = .ok (.iload_n 1, 1) := by decide +kernel
theorem d_W_join_4 : decode b_W_join 4 = .ok (.iload_n 2, 1) := by decide +kernel
theorem d_W_join_5 : decode b_W_join 5 = .ok (.invokevirtual 33, 3) := by decide +kernel
theorem d_W_join_8 : decode b_W_join 8 = .ok (.i2l, 1) := by decide +kernel
theorem d_W_join_9 : decode b_W_join 9 = .ok (.lastore, 1) := by decide +kernel
theorem d_W_join_10 : decode b_W_join 10 = .ok (.goto 7, 3) := by decide +kernel
theorem d_W_join_13 : decode b_W_join 13 = .ok (.astore 4, 2) := by decide +kernel
theorem d_W_join_15 : decode b_W_join 15 = .ok (.iconst 1, 1) := by decide +kernel
theorem d_W_join_16 : decode b_W_join 16 = .ok (.ireturn, 1) := by decide +kernel
theorem d_W_join_17 : decode b_W_join 17 = .ok (.iconst 0, 1) := by decide +kernel
theorem d_W_join_18 : decode b_W_join 18 = .ok (.ireturn, 1) := by decide +kernel
abbrev rm_W_join : Room := { frames := 10, cells := 31, slots := 1745, locals := 226 }
theorem ce_W_join : gCe y_W_join (.codeWith y_W_join b_W_join 5 (some .int) [(0, 10, 13, 13)]) 5 4 true := gCe.codeWith wd_624 wd_48 wd_623 (by decide) (by decide +kernel)
def f_W_join (g0 : gG) (a0 : Nat) (p1 : Int32) (p2 : Int32) (a3 : Nat) (w : gW) : gX Int32 := (gck w a0 0).bind fun _ => gtry (f_B_join g0 a0 p1 p2 w) (fun E w => if E = "java/lang/IndexOutOfBoundsException" then some (.inr 1, w) else none) fun v5 w => (gsJ w a3 0 (v5.toInt64)).bind fun w => some (.inr 0, w)
set_option maxHeartbeats 4000000 in
set_option maxRecDepth 100000 in
theorem m_W_join (l : Launch) (hst : l.stackTraces = false) (D : gD) (g0 : gG) (a0 : Nat) (p1 : Int32) (p2 : Int32) (a3 : Nat) (w : gW) (r : (String ⊕ Int32) × gW) (h : f_W_join g0 a0 p1 p2 a3 w = some r) : gMet l y_W_join (.codeWith y_W_join b_W_join 5 (some .int) [(0, 10, 13, 13)]) rm_W_join D g0 [.ref a0, .int p1, .int p2, .ref a3] w (goI r) := by
  refine gw_ofW (by decide +kernel) (Nat.le_of_ble_eq_true rfl) ?_
  intro p e s m below meth c ls args A Q hx hb hml hown htab hT hK hZ hA hret hI hl
  obtain ⟨H, hH⟩ : ∃ H, H = s.heap := ⟨_, rfl⟩
  rw [← hH] at hI ⊢
  obtain ⟨locs, hlocs⟩ : ∃ z : List Loc, z = [] := ⟨_, rfl⟩
  rw [← hlocs] at hI ⊢
  have hl : lv_has ls 5 [(0, .ref a0), (1, .int p1), (2, .int p2), (3, .ref a3)] := hl
  unfold f_W_join at h
  refine lv_aload_n hx hb d_W_join_0 rfl (lv_at hl 3 rfl) ?_
  refine lv_iconst (v := 0) hx hb d_W_join_1 (by decide) ?_
  refine lv_aload_n hx hb d_W_join_2 rfl (lv_at hl 0 rfl) ?_
  refine lv_iload_n hx hb d_W_join_3 rfl (lv_at hl 1 rfl) ?_
  refine lv_iload_n hx hb d_W_join_4 rfl (lv_at hl 2 rfl) ?_
  obtain ⟨q3, e4, h⟩ := gb h
  obtain ⟨u1, e2⟩ := gsomeT h
  refine gw_tryI e2 h (gw_runV (As := [.int p1, .int p2]) (rest := [.int 0, .ref a3]) hx hb hml hown hT hK hZ hA hI (ci := 0) rfl e4 (m_B_join l hst D g0 a0 p1 p2 w u1 e2) ce_B_join wd_625 wd_627 ⟨by decide, by decide⟩ rfl rfl hl.1 rfl (lv_room (Nat.le_of_ble_eq_true rfl)) d_W_join_5 ⟨(show 0 + 31 ≤ 31 by omega), (show 0 + 1745 ≤ 1745 by omega)⟩) hI hA (fun E w H locs q ce h hI hq hv hE => ?_) (fun v5 w H locs h hI => ?_)
  · skip
    rcases gcs h with ⟨rfl, h⟩ | ⟨-, h⟩
    · refine gw_catch1 hown hT htab wd_430 (by decide) (by decide) hq hv hE ?_
      refine lv_astore (lv' := [(4, .ref q), (0, .ref a0), (1, .int p1), (2, .int p2), (3, .ref a3)]) hx hb d_W_join_13 hl (by decide) rfl (fun ls hl => ?_)
      refine lv_iconst (v := 1) hx hb d_W_join_15 (by decide) ?_
      exact W.widen (show 31 ≤ 31 by omega) (show 1745 ≤ 1745 by omega) (hret _ _ (Option.some.inj h).symm _ _ _ _ d_W_join_16 hI)
    exact absurd h (by simp)
  refine W.widen (k := 31) (n := 1745) (show 0 + 31 ≤ 31 by omega) (show 0 + 1745 ≤ 1745 by omega) ?_
  refine lv_i2l (v := v5.toInt64) hx hb d_W_join_8 rfl ?_
  obtain ⟨w, e6, h⟩ := gb h
  refine gw_astJ hx hb hK hI e6 d_W_join_9 (fun H locs hI => ?_)
  refine lv_goto (tgt := 17) hx hb d_W_join_10 (by decide) ?_
  refine lv_iconst (v := 0) hx hb d_W_join_17 (by decide) ?_
  exact W.widen (show 31 ≤ 31 by omega) (show 1745 ≤ 1745 by omega) (hret _ _ (Option.some.inj h).symm _ _ _ _ d_W_join_18 hI)

abbrev b_W_keepOut : ByteArray := method_13_code
def y_W_keepOut : MethodName := ⟨"BodySolidsLaw", "keepOut", "(LBodySolids;JJJJIJ[J)I"⟩
theorem d_W_keepOut_0 : decode b_W_keepOut 0 = .ok (.aload 12, 2) := by decide +kernel
theorem d_W_keepOut_2 : decode b_W_keepOut 2 = .ok (.iconst 0, 1) := by decide +kernel
theorem d_W_keepOut_3 : decode b_W_keepOut 3 = .ok (.aload_n 0, 1) := by decide +kernel
theorem d_W_keepOut_4 : decode b_W_keepOut 4 = .ok (.lload_n 1, 1) := by decide +kernel
theorem d_W_keepOut_5 : decode b_W_keepOut 5 = .ok (.lload_n 3, 1) := by decide +kernel
theorem d_W_keepOut_6 : decode b_W_keepOut 6 = .ok (.lload 5, 2) := by decide +kernel
theorem d_W_keepOut_8 : decode b_W_keepOut 8 = .ok (.lload 7, 2) := by decide +kernel
theorem d_W_keepOut_10 : decode b_W_keepOut 10 = .ok (.iload 9, 2) := by decide +kernel
theorem d_W_keepOut_12 : decode b_W_keepOut 12 = .ok (.lload 10, 2) := by decide +kernel
theorem d_W_keepOut_14 : decode b_W_keepOut 14 = .ok (.invokevirtual 51, 3) := by decide +kernel
theorem d_W_keepOut_17 : decode b_W_keepOut 17 = .ok (.ifCond .eq 7, 3) := by decide +kernel
theorem d_W_keepOut_20 : decode b_W_keepOut 20 = .ok (.lconst 1, 1) := by decide +kernel
theorem d_W_keepOut_21 : decode b_W_keepOut 21 = .ok (.goto 4, 3) := by decide +kernel
theorem d_W_keepOut_24 : decode b_W_keepOut 24 = .ok (.lconst 0, 1) := by decide +kernel
theorem d_W_keepOut_25 : decode b_W_keepOut 25 = .ok (.lastore, 1) := by decide +kernel
theorem d_W_keepOut_26 : decode b_W_keepOut 26 = .ok (.goto 7, 3) := by decide +kernel
theorem d_W_keepOut_29 : decode b_W_keepOut 29 = .ok (.astore 13, 2) := by decide +kernel
theorem d_W_keepOut_31 : decode b_W_keepOut 31 = .ok (.iconst 1, 1) := by decide +kernel
theorem d_W_keepOut_32 : decode b_W_keepOut 32 = .ok (.ireturn, 1) := by decide +kernel
theorem d_W_keepOut_33 : decode b_W_keepOut 33 = .ok (.iconst 0, 1) := by decide +kernel
theorem d_W_keepOut_34 : decode b_W_keepOut 34 = .ok (.ireturn, 1) := by decide +kernel
abbrev rm_W_keepOut : Room := { frames := 9, cells := 11, slots := 130, locals := 211 }
theorem ce_W_keepOut : gCe y_W_keepOut (.codeWith y_W_keepOut b_W_keepOut 14 (some .int) [(0, 26, 29, 15)]) 14 8 true := gCe.codeWith wd_706 wd_48 wd_705 (by decide) (by decide +kernel)
def f_W_keepOut (g0 : gG) (a0 : Nat) (p1 : Int64) (p2 : Int64) (p3 : Int64) (p4 : Int64) (p5 : Int32) (p6 : Int64) (a7 : Nat) (w : gW) : gX Int32 := (gck w a0 0).bind fun _ => gtry (f_B_keepOut g0 a0 p1 p2 p3 p4 p5 p6 w) (fun E w => if E = "java/lang/IllegalArgumentException" then some (.inr 1, w) else none) fun v5 w => gjoin (fun K25 => if v5 = 0 then (K25 0 w) else (K25 1 w)) (fun (y6 : Int64) (w : gW) => (gsJ w a7 0 y6).bind fun w => some (.inr 0, w))
set_option maxHeartbeats 4000000 in
set_option maxRecDepth 100000 in
theorem m_W_keepOut (l : Launch) (hst : l.stackTraces = false) (D : gD) (g0 : gG) (a0 : Nat) (p1 : Int64) (p2 : Int64) (p3 : Int64) (p4 : Int64) (p5 : Int32) (p6 : Int64) (a7 : Nat) (w : gW) (r : (String ⊕ Int32) × gW) (h : f_W_keepOut g0 a0 p1 p2 p3 p4 p5 p6 a7 w = some r) : gMet l y_W_keepOut (.codeWith y_W_keepOut b_W_keepOut 14 (some .int) [(0, 26, 29, 15)]) rm_W_keepOut D g0 [.ref a0, .long p1, .long p2, .long p3, .long p4, .int p5, .long p6, .ref a7] w (goI r) := by
  refine gw_ofW (by decide +kernel) (Nat.le_of_ble_eq_true rfl) ?_
  intro p e s m below meth c ls args A Q hx hb hml hown htab hT hK hZ hA hret hI hl
  obtain ⟨H, hH⟩ : ∃ H, H = s.heap := ⟨_, rfl⟩
  rw [← hH] at hI ⊢
  obtain ⟨locs, hlocs⟩ : ∃ z : List Loc, z = [] := ⟨_, rfl⟩
  rw [← hlocs] at hI ⊢
  have hl : lv_has ls 14 [(0, .ref a0), (1, .long p1), (3, .long p2), (5, .long p3), (7, .long p4), (9, .int p5), (10, .long p6), (12, .ref a7)] := hl
  unfold f_W_keepOut at h
  refine lv_aload hx hb d_W_keepOut_0 (lv_at hl 7 rfl) ?_
  refine lv_iconst (v := 0) hx hb d_W_keepOut_2 (by decide) ?_
  refine lv_aload_n hx hb d_W_keepOut_3 rfl (lv_at hl 0 rfl) ?_
  refine lv_lload_n hx hb d_W_keepOut_4 rfl (lv_at hl 1 rfl) ?_
  refine lv_lload_n hx hb d_W_keepOut_5 rfl (lv_at hl 2 rfl) ?_
  refine lv_lload hx hb d_W_keepOut_6 (lv_at hl 3 rfl) ?_
  refine lv_lload hx hb d_W_keepOut_8 (lv_at hl 4 rfl) ?_
  refine lv_iload hx hb d_W_keepOut_10 (lv_at hl 5 rfl) ?_
  refine lv_lload hx hb d_W_keepOut_12 (lv_at hl 6 rfl) ?_
  obtain ⟨q3, e4, h⟩ := gb h
  obtain ⟨u1, e2⟩ := gsomeT h
  refine gw_tryI e2 h (gw_runV (As := [.long p1, .long p2, .long p3, .long p4, .int p5, .long p6]) (rest := [.int 0, .ref a7]) hx hb hml hown hT hK hZ hA hI (ci := 0) rfl e4 (m_B_keepOut l hst D g0 a0 p1 p2 p3 p4 p5 p6 w u1 e2) ce_B_keepOut wd_707 wd_709 ⟨by decide, by decide⟩ rfl rfl hl.1 rfl (lv_room (Nat.le_of_ble_eq_true rfl)) d_W_keepOut_14 ⟨(show 0 + 11 ≤ 11 by omega), (show 0 + 130 ≤ 130 by omega)⟩) hI hA (fun E w H locs q ce h hI hq hv hE => ?_) (fun v5 w H locs h hI => ?_)
  · skip
    rcases gcs h with ⟨rfl, h⟩ | ⟨-, h⟩
    · refine gw_catch1 hown hT htab wd_431 (by decide) (by decide) hq hv hE ?_
      refine lv_astore (lv' := [(13, .ref q), (0, .ref a0), (1, .long p1), (3, .long p2), (5, .long p3), (7, .long p4), (9, .int p5), (10, .long p6), (12, .ref a7)]) hx hb d_W_keepOut_29 hl (by decide) rfl (fun ls hl => ?_)
      refine lv_iconst (v := 1) hx hb d_W_keepOut_31 (by decide) ?_
      exact W.widen (show 11 ≤ 11 by omega) (show 130 ≤ 130 by omega) (hret _ _ (Option.some.inj h).symm _ _ _ _ d_W_keepOut_32 hI)
    exact absurd h (by simp)
  refine W.widen (k := 11) (n := 130) (show 0 + 11 ≤ 11 by omega) (show 0 + 130 ≤ 130 by omega) ?_
  obtain ⟨K25, eK25, h⟩ := gj h
  have hK25 : ∀ (y6 : Int64) (w : gW) (H : Heap) (locs : List Loc) (ls : Array Slot), K25 y6 w = some r → gI D s A w H locs → lv_has ls 14 [] → W p l e rm_W_keepOut s m args below meth c H locs 11 130 Q (F0 m 25 ls [.long y6, .int 0, .ref a7]) := by
    intro y6 w H locs ls h hI hl
    have h := gk2 eK25 h
    obtain ⟨w, e7, h⟩ := gb h
    refine gw_astJ hx hb hK hI e7 d_W_keepOut_25 (fun H locs hI => ?_)
    refine lv_goto (tgt := 33) hx hb d_W_keepOut_26 (by decide) ?_
    refine lv_iconst (v := 0) hx hb d_W_keepOut_33 (by decide) ?_
    exact W.widen (show 11 ≤ 11 by omega) (show 130 ≤ 130 by omega) (hret _ _ (Option.some.inj h).symm _ _ _ _ d_W_keepOut_34 hI)
  refine lv_if_eq (tgt := 24) hx hb d_W_keepOut_17 (by decide) (fun c8 => ?_) (fun c8 => ?_)
  · skip
    have h := git c8 h
    refine lv_lconst (v := 0) hx hb d_W_keepOut_24 (by decide) ?_
    exact hK25 _ w H locs ls h hI (lv_sub hl [] rfl)
  · skip
    have h := gie c8 h
    refine lv_lconst (v := 1) hx hb d_W_keepOut_20 (by decide) ?_
    refine lv_goto (tgt := 25) hx hb d_W_keepOut_21 (by decide) ?_
    exact hK25 _ w H locs ls h hI (lv_sub hl [] rfl)

abbrev b_W_mass : ByteArray := method_16_code
def y_W_mass : MethodName := ⟨"BodySolidsLaw", "mass", "(LBodySolids;I[J)I"⟩
theorem d_W_mass_0 : decode b_W_mass 0 = .ok (.aload_n 2, 1) := by decide +kernel
theorem d_W_mass_1 : decode b_W_mass 1 = .ok (.iconst 0, 1) := by decide +kernel
theorem d_W_mass_2 : decode b_W_mass 2 = .ok (.aload_n 0, 1) := by decide +kernel
theorem d_W_mass_3 : decode b_W_mass 3 = .ok (.iload_n 1, 1) := by decide +kernel
theorem d_W_mass_4 : decode b_W_mass 4 = .ok (.invokevirtual 65, 3) := by decide +kernel
theorem d_W_mass_7 : decode b_W_mass 7 = .ok (.lastore, 1) := by decide +kernel
theorem d_W_mass_8 : decode b_W_mass 8 = .ok (.goto 6, 3) := by decide +kernel
theorem d_W_mass_11 : decode b_W_mass 11 = .ok (.astore_n 3, 1) := by decide +kernel
theorem d_W_mass_12 : decode b_W_mass 12 = .ok (.iconst 1, 1) := by decide +kernel
theorem d_W_mass_13 : decode b_W_mass 13 = .ok (.ireturn, 1) := by decide +kernel
theorem d_W_mass_14 : decode b_W_mass 14 = .ok (.iconst 0, 1) := by decide +kernel
theorem d_W_mass_15 : decode b_W_mass 15 = .ok (.ireturn, 1) := by decide +kernel
abbrev rm_W_mass : Room := { frames := 10, cells := 1, slots := 6, locals := 153 }
theorem ce_W_mass : gCe y_W_mass (.codeWith y_W_mass b_W_mass 4 (some .int) [(0, 8, 11, 13)]) 4 3 true := gCe.codeWith wd_774 wd_48 wd_773 (by decide) (by decide +kernel)
def f_W_mass (g0 : gG) (a0 : Nat) (p1 : Int32) (a2 : Nat) (w : gW) : gX Int32 := (gck w a0 0).bind fun _ => gtry (f_B_mass g0 a0 p1 w) (fun E w => if E = "java/lang/IndexOutOfBoundsException" then some (.inr 1, w) else none) fun v5 w => (gsJ w a2 0 v5).bind fun w => some (.inr 0, w)
set_option maxHeartbeats 4000000 in
set_option maxRecDepth 100000 in
theorem m_W_mass (l : Launch) (hst : l.stackTraces = false) (D : gD) (g0 : gG) (a0 : Nat) (p1 : Int32) (a2 : Nat) (w : gW) (r : (String ⊕ Int32) × gW) (h : f_W_mass g0 a0 p1 a2 w = some r) : gMet l y_W_mass (.codeWith y_W_mass b_W_mass 4 (some .int) [(0, 8, 11, 13)]) rm_W_mass D g0 [.ref a0, .int p1, .ref a2] w (goI r) := by
  refine gw_ofW (by decide +kernel) (Nat.le_of_ble_eq_true rfl) ?_
  intro p e s m below meth c ls args A Q hx hb hml hown htab hT hK hZ hA hret hI hl
  obtain ⟨H, hH⟩ : ∃ H, H = s.heap := ⟨_, rfl⟩
  rw [← hH] at hI ⊢
  obtain ⟨locs, hlocs⟩ : ∃ z : List Loc, z = [] := ⟨_, rfl⟩
  rw [← hlocs] at hI ⊢
  have hl : lv_has ls 4 [(0, .ref a0), (1, .int p1), (2, .ref a2)] := hl
  unfold f_W_mass at h
  refine lv_aload_n hx hb d_W_mass_0 rfl (lv_at hl 2 rfl) ?_
  refine lv_iconst (v := 0) hx hb d_W_mass_1 (by decide) ?_
  refine lv_aload_n hx hb d_W_mass_2 rfl (lv_at hl 0 rfl) ?_
  refine lv_iload_n hx hb d_W_mass_3 rfl (lv_at hl 1 rfl) ?_
  obtain ⟨q3, e4, h⟩ := gb h
  obtain ⟨u1, e2⟩ := gsomeT h
  refine gw_tryJ e2 h (gw_runV (As := [.int p1]) (rest := [.int 0, .ref a2]) hx hb hml hown hT hK hZ hA hI (ci := 0) rfl e4 (m_B_mass l hst D g0 a0 p1 w u1 e2) ce_B_mass wd_775 wd_777 ⟨by decide, by decide⟩ rfl rfl hl.1 rfl (lv_room (Nat.le_of_ble_eq_true rfl)) d_W_mass_4 ⟨(show 0 + 1 ≤ 1 by omega), (show 0 + 6 ≤ 6 by omega)⟩) hI hA (fun E w H locs q ce h hI hq hv hE => ?_) (fun v5 w H locs h hI => ?_)
  · skip
    rcases gcs h with ⟨rfl, h⟩ | ⟨-, h⟩
    · refine gw_catch1 hown hT htab wd_430 (by decide) (by decide) hq hv hE ?_
      refine lv_astore_n (lv' := [(3, .ref q), (0, .ref a0), (1, .int p1), (2, .ref a2)]) hx hb d_W_mass_11 rfl hl (by decide) rfl (fun ls hl => ?_)
      refine lv_iconst (v := 1) hx hb d_W_mass_12 (by decide) ?_
      exact W.widen (show 1 ≤ 1 by omega) (show 6 ≤ 6 by omega) (hret _ _ (Option.some.inj h).symm _ _ _ _ d_W_mass_13 hI)
    exact absurd h (by simp)
  refine W.widen (k := 1) (n := 6) (show 0 + 1 ≤ 1 by omega) (show 0 + 6 ≤ 6 by omega) ?_
  obtain ⟨w, e6, h⟩ := gb h
  refine gw_astJ hx hb hK hI e6 d_W_mass_7 (fun H locs hI => ?_)
  refine lv_goto (tgt := 14) hx hb d_W_mass_8 (by decide) ?_
  refine lv_iconst (v := 0) hx hb d_W_mass_14 (by decide) ?_
  exact W.widen (show 1 ≤ 1 by omega) (show 6 ≤ 6 by omega) (hret _ _ (Option.some.inj h).symm _ _ _ _ d_W_mass_15 hI)

abbrev b_W_move : ByteArray := method_10_code
def y_W_move : MethodName := ⟨"BodySolidsLaw", "move", "(LBodySolids;IJJII[J)I"⟩
theorem d_W_move_0 : decode b_W_move 0 = .ok (.aload 8, 2) := by decide +kernel
theorem d_W_move_2 : decode b_W_move 2 = .ok (.iconst 0, 1) := by decide +kernel
theorem d_W_move_3 : decode b_W_move 3 = .ok (.aload_n 0, 1) := by decide +kernel
theorem d_W_move_4 : decode b_W_move 4 = .ok (.iload_n 1, 1) := by decide +kernel
theorem d_W_move_5 : decode b_W_move 5 = .ok (.lload_n 2, 1) := by decide +kernel
theorem d_W_move_6 : decode b_W_move 6 = .ok (.lload 4, 2) := by decide +kernel
theorem d_W_move_8 : decode b_W_move 8 = .ok (.iload 6, 2) := by decide +kernel
theorem d_W_move_10 : decode b_W_move 10 = .ok (.iload 7, 2) := by decide +kernel
theorem d_W_move_12 : decode b_W_move 12 = .ok (.invokevirtual 41, 3) := by decide +kernel
theorem d_W_move_15 : decode b_W_move 15 = .ok (.ifCond .eq 7, 3) := by decide +kernel
theorem d_W_move_18 : decode b_W_move 18 = .ok (.lconst 1, 1) := by decide +kernel
theorem d_W_move_19 : decode b_W_move 19 = .ok (.goto 4, 3) := by decide +kernel
theorem d_W_move_22 : decode b_W_move 22 = .ok (.lconst 0, 1) := by decide +kernel
theorem d_W_move_23 : decode b_W_move 23 = .ok (.lastore, 1) := by decide +kernel
theorem d_W_move_24 : decode b_W_move 24 = .ok (.goto 11, 3) := by decide +kernel
theorem d_W_move_27 : decode b_W_move 27 = .ok (.astore 9, 2) := by decide +kernel
theorem d_W_move_29 : decode b_W_move 29 = .ok (.iconst 1, 1) := by decide +kernel
theorem d_W_move_30 : decode b_W_move 30 = .ok (.ireturn, 1) := by decide +kernel
theorem d_W_move_31 : decode b_W_move 31 = .ok (.astore 9, 2) := by decide +kernel
theorem d_W_move_33 : decode b_W_move 33 = .ok (.iconst 2, 1) := by decide +kernel
theorem d_W_move_34 : decode b_W_move 34 = .ok (.ireturn, 1) := by decide +kernel
theorem d_W_move_35 : decode b_W_move 35 = .ok (.iconst 0, 1) := by decide +kernel
theorem d_W_move_36 : decode b_W_move 36 = .ok (.ireturn, 1) := by decide +kernel
abbrev rm_W_move : Room := { frames := 10, cells := 5, slots := 30, locals := 168 }
theorem ce_W_move : gCe y_W_move (.codeWith y_W_move b_W_move 10 (some .int) [(0, 24, 27, 13), (0, 24, 31, 15)]) 10 7 true := gCe.codeWith wd_677 wd_48 wd_676 (by decide) (by decide +kernel)
def f_W_move (g0 : gG) (a0 : Nat) (p1 : Int32) (p2 : Int64) (p3 : Int64) (p4 : Int32) (p5 : Int32) (a6 : Nat) (w : gW) : gX Int32 := (gck w a0 0).bind fun _ => gtry (f_B_move g0 a0 p1 p2 p3 p4 p5 w) (fun E w => if E = "java/lang/IndexOutOfBoundsException" then some (.inr 1, w) else if E = "java/lang/IllegalArgumentException" then some (.inr 2, w) else none) fun v5 w => gjoin (fun K23 => if v5 = 0 then (K23 0 w) else (K23 1 w)) (fun (y6 : Int64) (w : gW) => (gsJ w a6 0 y6).bind fun w => some (.inr 0, w))
set_option maxHeartbeats 4000000 in
set_option maxRecDepth 100000 in
theorem m_W_move (l : Launch) (hst : l.stackTraces = false) (D : gD) (g0 : gG) (a0 : Nat) (p1 : Int32) (p2 : Int64) (p3 : Int64) (p4 : Int32) (p5 : Int32) (a6 : Nat) (w : gW) (r : (String ⊕ Int32) × gW) (h : f_W_move g0 a0 p1 p2 p3 p4 p5 a6 w = some r) : gMet l y_W_move (.codeWith y_W_move b_W_move 10 (some .int) [(0, 24, 27, 13), (0, 24, 31, 15)]) rm_W_move D g0 [.ref a0, .int p1, .long p2, .long p3, .int p4, .int p5, .ref a6] w (goI r) := by
  refine gw_ofW (by decide +kernel) (Nat.le_of_ble_eq_true rfl) ?_
  intro p e s m below meth c ls args A Q hx hb hml hown htab hT hK hZ hA hret hI hl
  obtain ⟨H, hH⟩ : ∃ H, H = s.heap := ⟨_, rfl⟩
  rw [← hH] at hI ⊢
  obtain ⟨locs, hlocs⟩ : ∃ z : List Loc, z = [] := ⟨_, rfl⟩
  rw [← hlocs] at hI ⊢
  have hl : lv_has ls 10 [(0, .ref a0), (1, .int p1), (2, .long p2), (4, .long p3), (6, .int p4), (7, .int p5), (8, .ref a6)] := hl
  unfold f_W_move at h
  refine lv_aload hx hb d_W_move_0 (lv_at hl 6 rfl) ?_
  refine lv_iconst (v := 0) hx hb d_W_move_2 (by decide) ?_
  refine lv_aload_n hx hb d_W_move_3 rfl (lv_at hl 0 rfl) ?_
  refine lv_iload_n hx hb d_W_move_4 rfl (lv_at hl 1 rfl) ?_
  refine lv_lload_n hx hb d_W_move_5 rfl (lv_at hl 2 rfl) ?_
  refine lv_lload hx hb d_W_move_6 (lv_at hl 3 rfl) ?_
  refine lv_iload hx hb d_W_move_8 (lv_at hl 4 rfl) ?_
  refine lv_iload hx hb d_W_move_10 (lv_at hl 5 rfl) ?_
  obtain ⟨q3, e4, h⟩ := gb h
  obtain ⟨u1, e2⟩ := gsomeT h
  refine gw_tryI e2 h (gw_runV (As := [.int p1, .long p2, .long p3, .int p4, .int p5]) (rest := [.int 0, .ref a6]) hx hb hml hown hT hK hZ hA hI (ci := 0) rfl e4 (m_B_move l hst D g0 a0 p1 p2 p3 p4 p5 w u1 e2) ce_B_move wd_678 wd_680 ⟨by decide, by decide⟩ rfl rfl hl.1 rfl (lv_room (Nat.le_of_ble_eq_true rfl)) d_W_move_12 ⟨(show 0 + 5 ≤ 5 by omega), (show 0 + 30 ≤ 30 by omega)⟩) hI hA (fun E w H locs q ce h hI hq hv hE => ?_) (fun v5 w H locs h hI => ?_)
  · skip
    rcases gcs h with ⟨rfl, h⟩ | ⟨-, h⟩
    · refine gw_catch1 hown hT htab wd_430 (by decide) (by decide) hq hv hE ?_
      refine lv_astore (lv' := [(9, .ref q), (0, .ref a0), (1, .int p1), (2, .long p2), (4, .long p3), (6, .int p4), (7, .int p5), (8, .ref a6)]) hx hb d_W_move_27 hl (by decide) rfl (fun ls hl => ?_)
      refine lv_iconst (v := 1) hx hb d_W_move_29 (by decide) ?_
      exact W.widen (show 5 ≤ 5 by omega) (show 30 ≤ 30 by omega) (hret _ _ (Option.some.inj h).symm _ _ _ _ d_W_move_30 hI)
    rcases gcs h with ⟨rfl, h⟩ | ⟨-, h⟩
    · refine gw_catch2 hown hT hZ htab wd_430 (by decide) (by decide) wd_431 (by decide) (by decide) (by decide) hq hv hE ?_
      refine lv_astore (lv' := [(9, .ref q), (0, .ref a0), (1, .int p1), (2, .long p2), (4, .long p3), (6, .int p4), (7, .int p5), (8, .ref a6)]) hx hb d_W_move_31 hl (by decide) rfl (fun ls hl => ?_)
      refine lv_iconst (v := 2) hx hb d_W_move_33 (by decide) ?_
      exact W.widen (show 5 ≤ 5 by omega) (show 30 ≤ 30 by omega) (hret _ _ (Option.some.inj h).symm _ _ _ _ d_W_move_34 hI)
    exact absurd h (by simp)
  refine W.widen (k := 5) (n := 30) (show 0 + 5 ≤ 5 by omega) (show 0 + 30 ≤ 30 by omega) ?_
  obtain ⟨K23, eK23, h⟩ := gj h
  have hK23 : ∀ (y6 : Int64) (w : gW) (H : Heap) (locs : List Loc) (ls : Array Slot), K23 y6 w = some r → gI D s A w H locs → lv_has ls 10 [] → W p l e rm_W_move s m args below meth c H locs 5 30 Q (F0 m 23 ls [.long y6, .int 0, .ref a6]) := by
    intro y6 w H locs ls h hI hl
    have h := gk2 eK23 h
    obtain ⟨w, e7, h⟩ := gb h
    refine gw_astJ hx hb hK hI e7 d_W_move_23 (fun H locs hI => ?_)
    refine lv_goto (tgt := 35) hx hb d_W_move_24 (by decide) ?_
    refine lv_iconst (v := 0) hx hb d_W_move_35 (by decide) ?_
    exact W.widen (show 5 ≤ 5 by omega) (show 30 ≤ 30 by omega) (hret _ _ (Option.some.inj h).symm _ _ _ _ d_W_move_36 hI)
  refine lv_if_eq (tgt := 22) hx hb d_W_move_15 (by decide) (fun c8 => ?_) (fun c8 => ?_)
  · skip
    have h := git c8 h
    refine lv_lconst (v := 0) hx hb d_W_move_22 (by decide) ?_
    exact hK23 _ w H locs ls h hI (lv_sub hl [] rfl)
  · skip
    have h := gie c8 h
    refine lv_lconst (v := 1) hx hb d_W_move_18 (by decide) ?_
    refine lv_goto (tgt := 23) hx hb d_W_move_19 (by decide) ?_
    exact hK23 _ w H locs ls h hI (lv_sub hl [] rfl)

abbrev b_W_pair : ByteArray := method_12_code
def y_W_pair : MethodName := ⟨"BodySolidsLaw", "pair", "(LBodySolids;II[J)I"⟩
theorem d_W_pair_0 : decode b_W_pair 0 = .ok (.aload_n 3, 1) := by decide +kernel
theorem d_W_pair_1 : decode b_W_pair 1 = .ok (.iconst 0, 1) := by decide +kernel
theorem d_W_pair_2 : decode b_W_pair 2 = .ok (.aload_n 0, 1) := by decide +kernel
theorem d_W_pair_3 : decode b_W_pair 3 = .ok (.iload_n 1, 1) := by decide +kernel
theorem d_W_pair_4 : decode b_W_pair 4 = .ok (.iload_n 2, 1) := by decide +kernel
theorem d_W_pair_5 : decode b_W_pair 5 = .ok (.invokevirtual 48, 3) := by decide +kernel
theorem d_W_pair_8 : decode b_W_pair 8 = .ok (.i2l, 1) := by decide +kernel
theorem d_W_pair_9 : decode b_W_pair 9 = .ok (.lastore, 1) := by decide +kernel
theorem d_W_pair_10 : decode b_W_pair 10 = .ok (.goto 7, 3) := by decide +kernel
theorem d_W_pair_13 : decode b_W_pair 13 = .ok (.astore 4, 2) := by decide +kernel
theorem d_W_pair_15 : decode b_W_pair 15 = .ok (.iconst 1, 1) := by decide +kernel
theorem d_W_pair_16 : decode b_W_pair 16 = .ok (.ireturn, 1) := by decide +kernel
theorem d_W_pair_17 : decode b_W_pair 17 = .ok (.iconst 0, 1) := by decide +kernel
theorem d_W_pair_18 : decode b_W_pair 18 = .ok (.ireturn, 1) := by decide +kernel
abbrev rm_W_pair : Room := { frames := 9, cells := 1, slots := 6, locals := 219 }
theorem ce_W_pair : gCe y_W_pair (.codeWith y_W_pair b_W_pair 5 (some .int) [(0, 10, 13, 13)]) 5 4 true := gCe.codeWith wd_699 wd_48 wd_698 (by decide) (by decide +kernel)
def f_W_pair (g0 : gG) (a0 : Nat) (p1 : Int32) (p2 : Int32) (a3 : Nat) (w : gW) : gX Int32 := (gck w a0 0).bind fun _ => gtry (f_B_pair g0 a0 p1 p2 w) (fun E w => if E = "java/lang/IndexOutOfBoundsException" then some (.inr 1, w) else none) fun v5 w => (gsJ w a3 0 (v5.toInt64)).bind fun w => some (.inr 0, w)
set_option maxHeartbeats 4000000 in
set_option maxRecDepth 100000 in
theorem m_W_pair (l : Launch) (hst : l.stackTraces = false) (D : gD) (g0 : gG) (a0 : Nat) (p1 : Int32) (p2 : Int32) (a3 : Nat) (w : gW) (r : (String ⊕ Int32) × gW) (h : f_W_pair g0 a0 p1 p2 a3 w = some r) : gMet l y_W_pair (.codeWith y_W_pair b_W_pair 5 (some .int) [(0, 10, 13, 13)]) rm_W_pair D g0 [.ref a0, .int p1, .int p2, .ref a3] w (goI r) := by
  refine gw_ofW (by decide +kernel) (Nat.le_of_ble_eq_true rfl) ?_
  intro p e s m below meth c ls args A Q hx hb hml hown htab hT hK hZ hA hret hI hl
  obtain ⟨H, hH⟩ : ∃ H, H = s.heap := ⟨_, rfl⟩
  rw [← hH] at hI ⊢
  obtain ⟨locs, hlocs⟩ : ∃ z : List Loc, z = [] := ⟨_, rfl⟩
  rw [← hlocs] at hI ⊢
  have hl : lv_has ls 5 [(0, .ref a0), (1, .int p1), (2, .int p2), (3, .ref a3)] := hl
  unfold f_W_pair at h
  refine lv_aload_n hx hb d_W_pair_0 rfl (lv_at hl 3 rfl) ?_
  refine lv_iconst (v := 0) hx hb d_W_pair_1 (by decide) ?_
  refine lv_aload_n hx hb d_W_pair_2 rfl (lv_at hl 0 rfl) ?_
  refine lv_iload_n hx hb d_W_pair_3 rfl (lv_at hl 1 rfl) ?_
  refine lv_iload_n hx hb d_W_pair_4 rfl (lv_at hl 2 rfl) ?_
  obtain ⟨q3, e4, h⟩ := gb h
  obtain ⟨u1, e2⟩ := gsomeT h
  refine gw_tryI e2 h (gw_runV (As := [.int p1, .int p2]) (rest := [.int 0, .ref a3]) hx hb hml hown hT hK hZ hA hI (ci := 0) rfl e4 (m_B_pair l hst D g0 a0 p1 p2 w u1 e2) ce_B_pair wd_700 wd_702 ⟨by decide, by decide⟩ rfl rfl hl.1 rfl (lv_room (Nat.le_of_ble_eq_true rfl)) d_W_pair_5 ⟨(show 0 + 1 ≤ 1 by omega), (show 0 + 6 ≤ 6 by omega)⟩) hI hA (fun E w H locs q ce h hI hq hv hE => ?_) (fun v5 w H locs h hI => ?_)
  · skip
    rcases gcs h with ⟨rfl, h⟩ | ⟨-, h⟩
    · refine gw_catch1 hown hT htab wd_430 (by decide) (by decide) hq hv hE ?_
      refine lv_astore (lv' := [(4, .ref q), (0, .ref a0), (1, .int p1), (2, .int p2), (3, .ref a3)]) hx hb d_W_pair_13 hl (by decide) rfl (fun ls hl => ?_)
      refine lv_iconst (v := 1) hx hb d_W_pair_15 (by decide) ?_
      exact W.widen (show 1 ≤ 1 by omega) (show 6 ≤ 6 by omega) (hret _ _ (Option.some.inj h).symm _ _ _ _ d_W_pair_16 hI)
    exact absurd h (by simp)
  refine W.widen (k := 1) (n := 6) (show 0 + 1 ≤ 1 by omega) (show 0 + 6 ≤ 6 by omega) ?_
  refine lv_i2l (v := v5.toInt64) hx hb d_W_pair_8 rfl ?_
  obtain ⟨w, e6, h⟩ := gb h
  refine gw_astJ hx hb hK hI e6 d_W_pair_9 (fun H locs hI => ?_)
  refine lv_goto (tgt := 17) hx hb d_W_pair_10 (by decide) ?_
  refine lv_iconst (v := 0) hx hb d_W_pair_17 (by decide) ?_
  exact W.widen (show 1 ≤ 1 by omega) (show 6 ≤ 6 by omega) (hret _ _ (Option.some.inj h).symm _ _ _ _ d_W_pair_18 hI)

abbrev b_W_place : ByteArray := method_9_code
def y_W_place : MethodName := ⟨"BodySolidsLaw", "place", "(LBodySolids;IJJII[J)I"⟩
theorem d_W_place_0 : decode b_W_place 0 = .ok (.aload 8, 2) := by decide +kernel
theorem d_W_place_2 : decode b_W_place 2 = .ok (.iconst 0, 1) := by decide +kernel
theorem d_W_place_3 : decode b_W_place 3 = .ok (.aload_n 0, 1) := by decide +kernel
theorem d_W_place_4 : decode b_W_place 4 = .ok (.iload_n 1, 1) := by decide +kernel
theorem d_W_place_5 : decode b_W_place 5 = .ok (.lload_n 2, 1) := by decide +kernel
theorem d_W_place_6 : decode b_W_place 6 = .ok (.lload 4, 2) := by decide +kernel
theorem d_W_place_8 : decode b_W_place 8 = .ok (.iload 6, 2) := by decide +kernel
theorem d_W_place_10 : decode b_W_place 10 = .ok (.iload 7, 2) := by decide +kernel
theorem d_W_place_12 : decode b_W_place 12 = .ok (.invokevirtual 37, 3) := by decide +kernel
theorem d_W_place_15 : decode b_W_place 15 = .ok (.i2l, 1) := by decide +kernel
theorem d_W_place_16 : decode b_W_place 16 = .ok (.lastore, 1) := by decide +kernel
theorem d_W_place_17 : decode b_W_place 17 = .ok (.goto 11, 3) := by decide +kernel
theorem d_W_place_20 : decode b_W_place 20 = .ok (.astore 9, 2) := by decide +kernel
theorem d_W_place_22 : decode b_W_place 22 = .ok (.iconst 1, 1) := by decide +kernel
theorem d_W_place_23 : decode b_W_place 23 = .ok (.ireturn, 1) := by decide +kernel
theorem d_W_place_24 : decode b_W_place 24 = .ok (.astore 9, 2) := by decide +kernel
theorem d_W_place_26 : decode b_W_place 26 = .ok (.iconst 2, 1) := by decide +kernel
theorem d_W_place_27 : decode b_W_place 27 = .ok (.ireturn, 1) := by decide +kernel
theorem d_W_place_28 : decode b_W_place 28 = .ok (.iconst 0, 1) := by decide +kernel
theorem d_W_place_29 : decode b_W_place 29 = .ok (.ireturn, 1) := by decide +kernel
abbrev rm_W_place : Room := { frames := 10, cells := 7, slots := 99, locals := 209 }
theorem ce_W_place : gCe y_W_place (.codeWith y_W_place b_W_place 10 (some .int) [(0, 17, 20, 13), (0, 17, 24, 15)]) 10 7 true := gCe.codeWith wd_637 wd_48 wd_636 (by decide) (by decide +kernel)
def f_W_place (g0 : gG) (a0 : Nat) (p1 : Int32) (p2 : Int64) (p3 : Int64) (p4 : Int32) (p5 : Int32) (a6 : Nat) (w : gW) : gX Int32 := (gck w a0 0).bind fun _ => gtry (f_B_place g0 a0 p1 p2 p3 p4 p5 w) (fun E w => if E = "java/lang/IndexOutOfBoundsException" then some (.inr 1, w) else if E = "java/lang/IllegalArgumentException" then some (.inr 2, w) else none) fun v5 w => (gsJ w a6 0 (v5.toInt64)).bind fun w => some (.inr 0, w)
set_option maxHeartbeats 4000000 in
set_option maxRecDepth 100000 in
theorem m_W_place (l : Launch) (hst : l.stackTraces = false) (D : gD) (g0 : gG) (a0 : Nat) (p1 : Int32) (p2 : Int64) (p3 : Int64) (p4 : Int32) (p5 : Int32) (a6 : Nat) (w : gW) (r : (String ⊕ Int32) × gW) (h : f_W_place g0 a0 p1 p2 p3 p4 p5 a6 w = some r) : gMet l y_W_place (.codeWith y_W_place b_W_place 10 (some .int) [(0, 17, 20, 13), (0, 17, 24, 15)]) rm_W_place D g0 [.ref a0, .int p1, .long p2, .long p3, .int p4, .int p5, .ref a6] w (goI r) := by
  refine gw_ofW (by decide +kernel) (Nat.le_of_ble_eq_true rfl) ?_
  intro p e s m below meth c ls args A Q hx hb hml hown htab hT hK hZ hA hret hI hl
  obtain ⟨H, hH⟩ : ∃ H, H = s.heap := ⟨_, rfl⟩
  rw [← hH] at hI ⊢
  obtain ⟨locs, hlocs⟩ : ∃ z : List Loc, z = [] := ⟨_, rfl⟩
  rw [← hlocs] at hI ⊢
  have hl : lv_has ls 10 [(0, .ref a0), (1, .int p1), (2, .long p2), (4, .long p3), (6, .int p4), (7, .int p5), (8, .ref a6)] := hl
  unfold f_W_place at h
  refine lv_aload hx hb d_W_place_0 (lv_at hl 6 rfl) ?_
  refine lv_iconst (v := 0) hx hb d_W_place_2 (by decide) ?_
  refine lv_aload_n hx hb d_W_place_3 rfl (lv_at hl 0 rfl) ?_
  refine lv_iload_n hx hb d_W_place_4 rfl (lv_at hl 1 rfl) ?_
  refine lv_lload_n hx hb d_W_place_5 rfl (lv_at hl 2 rfl) ?_
  refine lv_lload hx hb d_W_place_6 (lv_at hl 3 rfl) ?_
  refine lv_iload hx hb d_W_place_8 (lv_at hl 4 rfl) ?_
  refine lv_iload hx hb d_W_place_10 (lv_at hl 5 rfl) ?_
  obtain ⟨q3, e4, h⟩ := gb h
  obtain ⟨u1, e2⟩ := gsomeT h
  refine gw_tryI e2 h (gw_runV (As := [.int p1, .long p2, .long p3, .int p4, .int p5]) (rest := [.int 0, .ref a6]) hx hb hml hown hT hK hZ hA hI (ci := 0) rfl e4 (m_B_place l hst D g0 a0 p1 p2 p3 p4 p5 w u1 e2) ce_B_place wd_638 wd_640 ⟨by decide, by decide⟩ rfl rfl hl.1 rfl (lv_room (Nat.le_of_ble_eq_true rfl)) d_W_place_12 ⟨(show 0 + 7 ≤ 7 by omega), (show 0 + 99 ≤ 99 by omega)⟩) hI hA (fun E w H locs q ce h hI hq hv hE => ?_) (fun v5 w H locs h hI => ?_)
  · skip
    rcases gcs h with ⟨rfl, h⟩ | ⟨-, h⟩
    · refine gw_catch1 hown hT htab wd_430 (by decide) (by decide) hq hv hE ?_
      refine lv_astore (lv' := [(9, .ref q), (0, .ref a0), (1, .int p1), (2, .long p2), (4, .long p3), (6, .int p4), (7, .int p5), (8, .ref a6)]) hx hb d_W_place_20 hl (by decide) rfl (fun ls hl => ?_)
      refine lv_iconst (v := 1) hx hb d_W_place_22 (by decide) ?_
      exact W.widen (show 7 ≤ 7 by omega) (show 99 ≤ 99 by omega) (hret _ _ (Option.some.inj h).symm _ _ _ _ d_W_place_23 hI)
    rcases gcs h with ⟨rfl, h⟩ | ⟨-, h⟩
    · refine gw_catch2 hown hT hZ htab wd_430 (by decide) (by decide) wd_431 (by decide) (by decide) (by decide) hq hv hE ?_
      refine lv_astore (lv' := [(9, .ref q), (0, .ref a0), (1, .int p1), (2, .long p2), (4, .long p3), (6, .int p4), (7, .int p5), (8, .ref a6)]) hx hb d_W_place_24 hl (by decide) rfl (fun ls hl => ?_)
      refine lv_iconst (v := 2) hx hb d_W_place_26 (by decide) ?_
      exact W.widen (show 7 ≤ 7 by omega) (show 99 ≤ 99 by omega) (hret _ _ (Option.some.inj h).symm _ _ _ _ d_W_place_27 hI)
    exact absurd h (by simp)
  refine W.widen (k := 7) (n := 99) (show 0 + 7 ≤ 7 by omega) (show 0 + 99 ≤ 99 by omega) ?_
  refine lv_i2l (v := v5.toInt64) hx hb d_W_place_15 rfl ?_
  obtain ⟨w, e6, h⟩ := gb h
  refine gw_astJ hx hb hK hI e6 d_W_place_16 (fun H locs hI => ?_)
  refine lv_goto (tgt := 28) hx hb d_W_place_17 (by decide) ?_
  refine lv_iconst (v := 0) hx hb d_W_place_28 (by decide) ?_
  exact W.widen (show 7 ≤ 7 by omega) (show 99 ≤ 99 by omega) (hret _ _ (Option.some.inj h).symm _ _ _ _ d_W_place_29 hI)

abbrev b_W_prism : ByteArray := method_6_code
def y_W_prism : MethodName := ⟨"BodySolidsLaw", "prism", "(LBodySolids;IJJ[J)I"⟩
theorem d_W_prism_0 : decode b_W_prism 0 = .ok (.aload 6, 2) := by decide +kernel
theorem d_W_prism_2 : decode b_W_prism 2 = .ok (.iconst 0, 1) := by decide +kernel
theorem d_W_prism_3 : decode b_W_prism 3 = .ok (.aload_n 0, 1) := by decide +kernel
theorem d_W_prism_4 : decode b_W_prism 4 = .ok (.iload_n 1, 1) := by decide +kernel
theorem d_W_prism_5 : decode b_W_prism 5 = .ok (.lload_n 2, 1) := by decide +kernel
theorem d_W_prism_6 : decode b_W_prism 6 = .ok (.lload 4, 2) := by decide +kernel
theorem d_W_prism_8 : decode b_W_prism 8 = .ok (.invokevirtual 25, 3) := by decide +kernel
theorem d_W_prism_11 : decode b_W_prism 11 = .ok (.ifCond .eq 7, 3) := by decide +kernel
theorem d_W_prism_14 : decode b_W_prism 14 = .ok (.lconst 1, 1) := by decide +kernel
theorem d_W_prism_15 : decode b_W_prism 15 = .ok (.goto 4, 3) := by decide +kernel
theorem d_W_prism_18 : decode b_W_prism 18 = .ok (.lconst 0, 1) := by decide +kernel
theorem d_W_prism_19 : decode b_W_prism 19 = .ok (.lastore, 1) := by decide +kernel
theorem d_W_prism_20 : decode b_W_prism 20 = .ok (.goto 11, 3) := by decide +kernel
theorem d_W_prism_23 : decode b_W_prism 23 = .ok (.astore 7, 2) := by decide +kernel
theorem d_W_prism_25 : decode b_W_prism 25 = .ok (.iconst 1, 1) := by decide +kernel
theorem d_W_prism_26 : decode b_W_prism 26 = .ok (.ireturn, 1) := by decide +kernel
theorem d_W_prism_27 : decode b_W_prism 27 = .ok (.astore 7, 2) := by decide +kernel
theorem d_W_prism_29 : decode b_W_prism 29 = .ok (.iconst 2, 1) := by decide +kernel
theorem d_W_prism_30 : decode b_W_prism 30 = .ok (.ireturn, 1) := by decide +kernel
theorem d_W_prism_31 : decode b_W_prism 31 = .ok (.iconst 0, 1) := by decide +kernel
theorem d_W_prism_32 : decode b_W_prism 32 = .ok (.ireturn, 1) := by decide +kernel
abbrev rm_W_prism : Room := { frames := 11, cells := 8, slots := 116, locals := 230 }
theorem ce_W_prism : gCe y_W_prism (.codeWith y_W_prism b_W_prism 8 (some .int) [(0, 20, 23, 13), (0, 20, 27, 15)]) 8 5 true := gCe.codeWith wd_586 wd_48 wd_585 (by decide) (by decide +kernel)
def f_W_prism (g0 : gG) (a0 : Nat) (p1 : Int32) (p2 : Int64) (p3 : Int64) (a4 : Nat) (w : gW) : gX Int32 := (gck w a0 0).bind fun _ => gtry (f_B_prism g0 a0 p1 p2 p3 w) (fun E w => if E = "java/lang/IndexOutOfBoundsException" then some (.inr 1, w) else if E = "java/lang/IllegalArgumentException" then some (.inr 2, w) else none) fun v5 w => gjoin (fun K19 => if v5 = 0 then (K19 0 w) else (K19 1 w)) (fun (y6 : Int64) (w : gW) => (gsJ w a4 0 y6).bind fun w => some (.inr 0, w))
set_option maxHeartbeats 4000000 in
set_option maxRecDepth 100000 in
theorem m_W_prism (l : Launch) (hst : l.stackTraces = false) (D : gD) (g0 : gG) (a0 : Nat) (p1 : Int32) (p2 : Int64) (p3 : Int64) (a4 : Nat) (w : gW) (r : (String ⊕ Int32) × gW) (h : f_W_prism g0 a0 p1 p2 p3 a4 w = some r) : gMet l y_W_prism (.codeWith y_W_prism b_W_prism 8 (some .int) [(0, 20, 23, 13), (0, 20, 27, 15)]) rm_W_prism D g0 [.ref a0, .int p1, .long p2, .long p3, .ref a4] w (goI r) := by
  refine gw_ofW (by decide +kernel) (Nat.le_of_ble_eq_true rfl) ?_
  intro p e s m below meth c ls args A Q hx hb hml hown htab hT hK hZ hA hret hI hl
  obtain ⟨H, hH⟩ : ∃ H, H = s.heap := ⟨_, rfl⟩
  rw [← hH] at hI ⊢
  obtain ⟨locs, hlocs⟩ : ∃ z : List Loc, z = [] := ⟨_, rfl⟩
  rw [← hlocs] at hI ⊢
  have hl : lv_has ls 8 [(0, .ref a0), (1, .int p1), (2, .long p2), (4, .long p3), (6, .ref a4)] := hl
  unfold f_W_prism at h
  refine lv_aload hx hb d_W_prism_0 (lv_at hl 4 rfl) ?_
  refine lv_iconst (v := 0) hx hb d_W_prism_2 (by decide) ?_
  refine lv_aload_n hx hb d_W_prism_3 rfl (lv_at hl 0 rfl) ?_
  refine lv_iload_n hx hb d_W_prism_4 rfl (lv_at hl 1 rfl) ?_
  refine lv_lload_n hx hb d_W_prism_5 rfl (lv_at hl 2 rfl) ?_
  refine lv_lload hx hb d_W_prism_6 (lv_at hl 3 rfl) ?_
  obtain ⟨q3, e4, h⟩ := gb h
  obtain ⟨u1, e2⟩ := gsomeT h
  refine gw_tryI e2 h (gw_runV (As := [.int p1, .long p2, .long p3]) (rest := [.int 0, .ref a4]) hx hb hml hown hT hK hZ hA hI (ci := 0) rfl e4 (m_B_prism l hst D g0 a0 p1 p2 p3 w u1 e2) ce_B_prism wd_587 wd_589 ⟨by decide, by decide⟩ rfl rfl hl.1 rfl (lv_room (Nat.le_of_ble_eq_true rfl)) d_W_prism_8 ⟨(show 0 + 8 ≤ 8 by omega), (show 0 + 116 ≤ 116 by omega)⟩) hI hA (fun E w H locs q ce h hI hq hv hE => ?_) (fun v5 w H locs h hI => ?_)
  · skip
    rcases gcs h with ⟨rfl, h⟩ | ⟨-, h⟩
    · refine gw_catch1 hown hT htab wd_430 (by decide) (by decide) hq hv hE ?_
      refine lv_astore (lv' := [(7, .ref q), (0, .ref a0), (1, .int p1), (2, .long p2), (4, .long p3), (6, .ref a4)]) hx hb d_W_prism_23 hl (by decide) rfl (fun ls hl => ?_)
      refine lv_iconst (v := 1) hx hb d_W_prism_25 (by decide) ?_
      exact W.widen (show 8 ≤ 8 by omega) (show 116 ≤ 116 by omega) (hret _ _ (Option.some.inj h).symm _ _ _ _ d_W_prism_26 hI)
    rcases gcs h with ⟨rfl, h⟩ | ⟨-, h⟩
    · refine gw_catch2 hown hT hZ htab wd_430 (by decide) (by decide) wd_431 (by decide) (by decide) (by decide) hq hv hE ?_
      refine lv_astore (lv' := [(7, .ref q), (0, .ref a0), (1, .int p1), (2, .long p2), (4, .long p3), (6, .ref a4)]) hx hb d_W_prism_27 hl (by decide) rfl (fun ls hl => ?_)
      refine lv_iconst (v := 2) hx hb d_W_prism_29 (by decide) ?_
      exact W.widen (show 8 ≤ 8 by omega) (show 116 ≤ 116 by omega) (hret _ _ (Option.some.inj h).symm _ _ _ _ d_W_prism_30 hI)
    exact absurd h (by simp)
  refine W.widen (k := 8) (n := 116) (show 0 + 8 ≤ 8 by omega) (show 0 + 116 ≤ 116 by omega) ?_
  obtain ⟨K19, eK19, h⟩ := gj h
  have hK19 : ∀ (y6 : Int64) (w : gW) (H : Heap) (locs : List Loc) (ls : Array Slot), K19 y6 w = some r → gI D s A w H locs → lv_has ls 8 [] → W p l e rm_W_prism s m args below meth c H locs 8 116 Q (F0 m 19 ls [.long y6, .int 0, .ref a4]) := by
    intro y6 w H locs ls h hI hl
    have h := gk2 eK19 h
    obtain ⟨w, e7, h⟩ := gb h
    refine gw_astJ hx hb hK hI e7 d_W_prism_19 (fun H locs hI => ?_)
    refine lv_goto (tgt := 31) hx hb d_W_prism_20 (by decide) ?_
    refine lv_iconst (v := 0) hx hb d_W_prism_31 (by decide) ?_
    exact W.widen (show 8 ≤ 8 by omega) (show 116 ≤ 116 by omega) (hret _ _ (Option.some.inj h).symm _ _ _ _ d_W_prism_32 hI)
  refine lv_if_eq (tgt := 18) hx hb d_W_prism_11 (by decide) (fun c8 => ?_) (fun c8 => ?_)
  · skip
    have h := git c8 h
    refine lv_lconst (v := 0) hx hb d_W_prism_18 (by decide) ?_
    exact hK19 _ w H locs ls h hI (lv_sub hl [] rfl)
  · skip
    have h := gie c8 h
    refine lv_lconst (v := 1) hx hb d_W_prism_14 (by decide) ?_
    refine lv_goto (tgt := 19) hx hb d_W_prism_15 (by decide) ?_
    exact hK19 _ w H locs ls h hI (lv_sub hl [] rfl)

abbrev b_W_section : ByteArray := method_15_code
def y_W_section : MethodName := ⟨"BodySolidsLaw", "section", "(LBodySolids;JII[J)I"⟩
theorem d_W_section_0 : decode b_W_section 0 = .ok (.aload 5, 2) := by decide +kernel
theorem d_W_section_2 : decode b_W_section 2 = .ok (.iconst 0, 1) := by decide +kernel
theorem d_W_section_3 : decode b_W_section 3 = .ok (.aload_n 0, 1) := by decide +kernel
theorem d_W_section_4 : decode b_W_section 4 = .ok (.lload_n 1, 1) := by decide +kernel
theorem d_W_section_5 : decode b_W_section 5 = .ok (.iload_n 3, 1) := by decide +kernel
theorem d_W_section_6 : decode b_W_section 6 = .ok (.iload 4, 2) := by decide +kernel
theorem d_W_section_8 : decode b_W_section 8 = .ok (.invokevirtual 61, 3) := by decide +kernel
theorem d_W_section_11 : decode b_W_section 11 = .ok (.lastore, 1) := by decide +kernel
theorem d_W_section_12 : decode b_W_section 12 = .ok (.goto 7, 3) := by decide +kernel
theorem d_W_section_15 : decode b_W_section 15 = .ok (.astore 6, 2) := by decide +kernel
theorem d_W_section_17 : decode b_W_section 17 = .ok (.iconst 1, 1) := by decide +kernel
theorem d_W_section_18 : decode b_W_section 18 = .ok (.ireturn, 1) := by decide +kernel
theorem d_W_section_19 : decode b_W_section 19 = .ok (.iconst 0, 1) := by decide +kernel
theorem d_W_section_20 : decode b_W_section 20 = .ok (.ireturn, 1) := by decide +kernel
abbrev rm_W_section : Room := { frames := 9, cells := 1, slots := 6, locals := 138 }
theorem ce_W_section : gCe y_W_section (.codeWith y_W_section b_W_section 7 (some .int) [(0, 12, 15, 13)]) 7 5 true := gCe.codeWith wd_758 wd_48 wd_757 (by decide) (by decide +kernel)
def f_W_section (g0 : gG) (a0 : Nat) (p1 : Int64) (p2 : Int32) (p3 : Int32) (a4 : Nat) (w : gW) : gX Int32 := (gck w a0 0).bind fun _ => gtry (f_B_section g0 a0 p1 p2 p3 w) (fun E w => if E = "java/lang/IndexOutOfBoundsException" then some (.inr 1, w) else none) fun v5 w => (gsJ w a4 0 v5).bind fun w => some (.inr 0, w)
set_option maxHeartbeats 4000000 in
set_option maxRecDepth 100000 in
theorem m_W_section (l : Launch) (hst : l.stackTraces = false) (D : gD) (g0 : gG) (a0 : Nat) (p1 : Int64) (p2 : Int32) (p3 : Int32) (a4 : Nat) (w : gW) (r : (String ⊕ Int32) × gW) (h : f_W_section g0 a0 p1 p2 p3 a4 w = some r) : gMet l y_W_section (.codeWith y_W_section b_W_section 7 (some .int) [(0, 12, 15, 13)]) rm_W_section D g0 [.ref a0, .long p1, .int p2, .int p3, .ref a4] w (goI r) := by
  refine gw_ofW (by decide +kernel) (Nat.le_of_ble_eq_true rfl) ?_
  intro p e s m below meth c ls args A Q hx hb hml hown htab hT hK hZ hA hret hI hl
  obtain ⟨H, hH⟩ : ∃ H, H = s.heap := ⟨_, rfl⟩
  rw [← hH] at hI ⊢
  obtain ⟨locs, hlocs⟩ : ∃ z : List Loc, z = [] := ⟨_, rfl⟩
  rw [← hlocs] at hI ⊢
  have hl : lv_has ls 7 [(0, .ref a0), (1, .long p1), (3, .int p2), (4, .int p3), (5, .ref a4)] := hl
  unfold f_W_section at h
  refine lv_aload hx hb d_W_section_0 (lv_at hl 4 rfl) ?_
  refine lv_iconst (v := 0) hx hb d_W_section_2 (by decide) ?_
  refine lv_aload_n hx hb d_W_section_3 rfl (lv_at hl 0 rfl) ?_
  refine lv_lload_n hx hb d_W_section_4 rfl (lv_at hl 1 rfl) ?_
  refine lv_iload_n hx hb d_W_section_5 rfl (lv_at hl 2 rfl) ?_
  refine lv_iload hx hb d_W_section_6 (lv_at hl 3 rfl) ?_
  obtain ⟨q3, e4, h⟩ := gb h
  obtain ⟨u1, e2⟩ := gsomeT h
  refine gw_tryJ e2 h (gw_runV (As := [.long p1, .int p2, .int p3]) (rest := [.int 0, .ref a4]) hx hb hml hown hT hK hZ hA hI (ci := 0) rfl e4 (m_B_section l hst D g0 a0 p1 p2 p3 w u1 e2) ce_B_section wd_759 wd_761 ⟨by decide, by decide⟩ rfl rfl hl.1 rfl (lv_room (Nat.le_of_ble_eq_true rfl)) d_W_section_8 ⟨(show 0 + 1 ≤ 1 by omega), (show 0 + 6 ≤ 6 by omega)⟩) hI hA (fun E w H locs q ce h hI hq hv hE => ?_) (fun v5 w H locs h hI => ?_)
  · skip
    rcases gcs h with ⟨rfl, h⟩ | ⟨-, h⟩
    · refine gw_catch1 hown hT htab wd_430 (by decide) (by decide) hq hv hE ?_
      refine lv_astore (lv' := [(6, .ref q), (0, .ref a0), (1, .long p1), (3, .int p2), (4, .int p3), (5, .ref a4)]) hx hb d_W_section_15 hl (by decide) rfl (fun ls hl => ?_)
      refine lv_iconst (v := 1) hx hb d_W_section_17 (by decide) ?_
      exact W.widen (show 1 ≤ 1 by omega) (show 6 ≤ 6 by omega) (hret _ _ (Option.some.inj h).symm _ _ _ _ d_W_section_18 hI)
    exact absurd h (by simp)
  refine W.widen (k := 1) (n := 6) (show 0 + 1 ≤ 1 by omega) (show 0 + 6 ≤ 6 by omega) ?_
  obtain ⟨w, e6, h⟩ := gb h
  refine gw_astJ hx hb hK hI e6 d_W_section_11 (fun H locs hI => ?_)
  refine lv_goto (tgt := 19) hx hb d_W_section_12 (by decide) ?_
  refine lv_iconst (v := 0) hx hb d_W_section_19 (by decide) ?_
  exact W.widen (show 1 ≤ 1 by omega) (show 6 ≤ 6 by omega) (hret _ _ (Option.some.inj h).symm _ _ _ _ d_W_section_20 hI)

abbrev b_W_tube : ByteArray := method_7_code
def y_W_tube : MethodName := ⟨"BodySolidsLaw", "tube", "(LBodySolids;IJJJJIJ[J)I"⟩
theorem d_W_tube_0 : decode b_W_tube 0 = .ok (.aload 13, 2) := by decide +kernel
theorem d_W_tube_2 : decode b_W_tube 2 = .ok (.iconst 0, 1) := by decide +kernel
theorem d_W_tube_3 : decode b_W_tube 3 = .ok (.aload_n 0, 1) := by decide +kernel
theorem d_W_tube_4 : decode b_W_tube 4 = .ok (.iload_n 1, 1) := by decide +kernel
theorem d_W_tube_5 : decode b_W_tube 5 = .ok (.lload_n 2, 1) := by decide +kernel
theorem d_W_tube_6 : decode b_W_tube 6 = .ok (.lload 4, 2) := by decide +kernel
theorem d_W_tube_8 : decode b_W_tube 8 = .ok (.lload 6, 2) := by decide +kernel
theorem d_W_tube_10 : decode b_W_tube 10 = .ok (.lload 8, 2) := by decide +kernel
theorem d_W_tube_12 : decode b_W_tube 12 = .ok (.iload 10, 2) := by decide +kernel
theorem d_W_tube_14 : decode b_W_tube 14 = .ok (.lload 11, 2) := by decide +kernel
theorem d_W_tube_16 : decode b_W_tube 16 = .ok (.invokevirtual 29, 3) := by decide +kernel
theorem d_W_tube_19 : decode b_W_tube 19 = .ok (.ifCond .eq 7, 3) := by decide +kernel
theorem d_W_tube_22 : decode b_W_tube 22 = .ok (.lconst 1, 1) := by decide +kernel
theorem d_W_tube_23 : decode b_W_tube 23 = .ok (.goto 4, 3) := by decide +kernel
theorem d_W_tube_26 : decode b_W_tube 26 = .ok (.lconst 0, 1) := by decide +kernel
theorem d_W_tube_27 : decode b_W_tube 27 = .ok (.lastore, 1) := by decide +kernel
theorem d_W_tube_28 : decode b_W_tube 28 = .ok (.goto 11, 3) := by decide +kernel
theorem d_W_tube_31 : decode b_W_tube 31 = .ok (.astore 14, 2) := by decide +kernel
theorem d_W_tube_33 : decode b_W_tube 33 = .ok (.iconst 1, 1) := by decide +kernel
theorem d_W_tube_34 : decode b_W_tube 34 = .ok (.ireturn, 1) := by decide +kernel
theorem d_W_tube_35 : decode b_W_tube 35 = .ok (.astore 14, 2) := by decide +kernel
theorem d_W_tube_37 : decode b_W_tube 37 = .ok (.iconst 2, 1) := by decide +kernel
theorem d_W_tube_38 : decode b_W_tube 38 = .ok (.ireturn, 1) := by decide +kernel
theorem d_W_tube_39 : decode b_W_tube 39 = .ok (.iconst 0, 1) := by decide +kernel
theorem d_W_tube_40 : decode b_W_tube 40 = .ok (.ireturn, 1) := by decide +kernel
abbrev rm_W_tube : Room := { frames := 10, cells := 14, slots := 152, locals := 242 }
theorem ce_W_tube : gCe y_W_tube (.codeWith y_W_tube b_W_tube 15 (some .int) [(0, 28, 31, 13), (0, 28, 35, 15)]) 15 9 true := gCe.codeWith wd_610 wd_48 wd_609 (by decide) (by decide +kernel)
def f_W_tube (g0 : gG) (a0 : Nat) (p1 : Int32) (p2 : Int64) (p3 : Int64) (p4 : Int64) (p5 : Int64) (p6 : Int32) (p7 : Int64) (a8 : Nat) (w : gW) : gX Int32 := (gck w a0 0).bind fun _ => gtry (f_B_tube g0 a0 p1 p2 p3 p4 p5 p6 p7 w) (fun E w => if E = "java/lang/IndexOutOfBoundsException" then some (.inr 1, w) else if E = "java/lang/IllegalArgumentException" then some (.inr 2, w) else none) fun v5 w => gjoin (fun K27 => if v5 = 0 then (K27 0 w) else (K27 1 w)) (fun (y6 : Int64) (w : gW) => (gsJ w a8 0 y6).bind fun w => some (.inr 0, w))
set_option maxHeartbeats 4000000 in
set_option maxRecDepth 100000 in
theorem m_W_tube (l : Launch) (hst : l.stackTraces = false) (D : gD) (g0 : gG) (a0 : Nat) (p1 : Int32) (p2 : Int64) (p3 : Int64) (p4 : Int64) (p5 : Int64) (p6 : Int32) (p7 : Int64) (a8 : Nat) (w : gW) (r : (String ⊕ Int32) × gW) (h : f_W_tube g0 a0 p1 p2 p3 p4 p5 p6 p7 a8 w = some r) : gMet l y_W_tube (.codeWith y_W_tube b_W_tube 15 (some .int) [(0, 28, 31, 13), (0, 28, 35, 15)]) rm_W_tube D g0 [.ref a0, .int p1, .long p2, .long p3, .long p4, .long p5, .int p6, .long p7, .ref a8] w (goI r) := by
  refine gw_ofW (by decide +kernel) (Nat.le_of_ble_eq_true rfl) ?_
  intro p e s m below meth c ls args A Q hx hb hml hown htab hT hK hZ hA hret hI hl
  obtain ⟨H, hH⟩ : ∃ H, H = s.heap := ⟨_, rfl⟩
  rw [← hH] at hI ⊢
  obtain ⟨locs, hlocs⟩ : ∃ z : List Loc, z = [] := ⟨_, rfl⟩
  rw [← hlocs] at hI ⊢
  have hl : lv_has ls 15 [(0, .ref a0), (1, .int p1), (2, .long p2), (4, .long p3), (6, .long p4), (8, .long p5), (10, .int p6), (11, .long p7), (13, .ref a8)] := hl
  unfold f_W_tube at h
  refine lv_aload hx hb d_W_tube_0 (lv_at hl 8 rfl) ?_
  refine lv_iconst (v := 0) hx hb d_W_tube_2 (by decide) ?_
  refine lv_aload_n hx hb d_W_tube_3 rfl (lv_at hl 0 rfl) ?_
  refine lv_iload_n hx hb d_W_tube_4 rfl (lv_at hl 1 rfl) ?_
  refine lv_lload_n hx hb d_W_tube_5 rfl (lv_at hl 2 rfl) ?_
  refine lv_lload hx hb d_W_tube_6 (lv_at hl 3 rfl) ?_
  refine lv_lload hx hb d_W_tube_8 (lv_at hl 4 rfl) ?_
  refine lv_lload hx hb d_W_tube_10 (lv_at hl 5 rfl) ?_
  refine lv_iload hx hb d_W_tube_12 (lv_at hl 6 rfl) ?_
  refine lv_lload hx hb d_W_tube_14 (lv_at hl 7 rfl) ?_
  obtain ⟨q3, e4, h⟩ := gb h
  obtain ⟨u1, e2⟩ := gsomeT h
  refine gw_tryI e2 h (gw_runV (As := [.int p1, .long p2, .long p3, .long p4, .long p5, .int p6, .long p7]) (rest := [.int 0, .ref a8]) hx hb hml hown hT hK hZ hA hI (ci := 0) rfl e4 (m_B_tube l hst D g0 a0 p1 p2 p3 p4 p5 p6 p7 w u1 e2) ce_B_tube wd_611 wd_613 ⟨by decide, by decide⟩ rfl rfl hl.1 rfl (lv_room (Nat.le_of_ble_eq_true rfl)) d_W_tube_16 ⟨(show 0 + 14 ≤ 14 by omega), (show 0 + 152 ≤ 152 by omega)⟩) hI hA (fun E w H locs q ce h hI hq hv hE => ?_) (fun v5 w H locs h hI => ?_)
  · skip
    rcases gcs h with ⟨rfl, h⟩ | ⟨-, h⟩
    · refine gw_catch1 hown hT htab wd_430 (by decide) (by decide) hq hv hE ?_
      refine lv_astore (lv' := [(14, .ref q), (0, .ref a0), (1, .int p1), (2, .long p2), (4, .long p3), (6, .long p4), (8, .long p5), (10, .int p6), (11, .long p7), (13, .ref a8)]) hx hb d_W_tube_31 hl (by decide) rfl (fun ls hl => ?_)
      refine lv_iconst (v := 1) hx hb d_W_tube_33 (by decide) ?_
      exact W.widen (show 14 ≤ 14 by omega) (show 152 ≤ 152 by omega) (hret _ _ (Option.some.inj h).symm _ _ _ _ d_W_tube_34 hI)
    rcases gcs h with ⟨rfl, h⟩ | ⟨-, h⟩
    · refine gw_catch2 hown hT hZ htab wd_430 (by decide) (by decide) wd_431 (by decide) (by decide) (by decide) hq hv hE ?_
      refine lv_astore (lv' := [(14, .ref q), (0, .ref a0), (1, .int p1), (2, .long p2), (4, .long p3), (6, .long p4), (8, .long p5), (10, .int p6), (11, .long p7), (13, .ref a8)]) hx hb d_W_tube_35 hl (by decide) rfl (fun ls hl => ?_)
      refine lv_iconst (v := 2) hx hb d_W_tube_37 (by decide) ?_
      exact W.widen (show 14 ≤ 14 by omega) (show 152 ≤ 152 by omega) (hret _ _ (Option.some.inj h).symm _ _ _ _ d_W_tube_38 hI)
    exact absurd h (by simp)
  refine W.widen (k := 14) (n := 152) (show 0 + 14 ≤ 14 by omega) (show 0 + 152 ≤ 152 by omega) ?_
  obtain ⟨K27, eK27, h⟩ := gj h
  have hK27 : ∀ (y6 : Int64) (w : gW) (H : Heap) (locs : List Loc) (ls : Array Slot), K27 y6 w = some r → gI D s A w H locs → lv_has ls 15 [] → W p l e rm_W_tube s m args below meth c H locs 14 152 Q (F0 m 27 ls [.long y6, .int 0, .ref a8]) := by
    intro y6 w H locs ls h hI hl
    have h := gk2 eK27 h
    obtain ⟨w, e7, h⟩ := gb h
    refine gw_astJ hx hb hK hI e7 d_W_tube_27 (fun H locs hI => ?_)
    refine lv_goto (tgt := 39) hx hb d_W_tube_28 (by decide) ?_
    refine lv_iconst (v := 0) hx hb d_W_tube_39 (by decide) ?_
    exact W.widen (show 14 ≤ 14 by omega) (show 152 ≤ 152 by omega) (hret _ _ (Option.some.inj h).symm _ _ _ _ d_W_tube_40 hI)
  refine lv_if_eq (tgt := 26) hx hb d_W_tube_19 (by decide) (fun c8 => ?_) (fun c8 => ?_)
  · skip
    have h := git c8 h
    refine lv_lconst (v := 0) hx hb d_W_tube_26 (by decide) ?_
    exact hK27 _ w H locs ls h hI (lv_sub hl [] rfl)
  · skip
    have h := gie c8 h
    refine lv_lconst (v := 1) hx hb d_W_tube_22 (by decide) ?_
    refine lv_goto (tgt := 27) hx hb d_W_tube_23 (by decide) ?_
    exact hK27 _ w H locs ls h hI (lv_sub hl [] rfl)
