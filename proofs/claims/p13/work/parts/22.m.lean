abbrev b_W_box : ByteArray := method_3_code
def y_W_box : MethodName := ⟨"BodySolidsLaw", "box", "(LBodySolids;IJJJJJJ[J)I"⟩
theorem d_W_box_0 : decode b_W_box 0 = .ok (.aload 14, 2) := by decide +kernel
theorem d_W_box_2 : decode b_W_box 2 = .ok (.iconst 0, 1) := by decide +kernel
theorem d_W_box_3 : decode b_W_box 3 = .ok (.aload_n 0, 1) := by decide +kernel
theorem d_W_box_4 : decode b_W_box 4 = .ok (.iload_n 1, 1) := by decide +kernel
theorem d_W_box_5 : decode b_W_box 5 = .ok (.lload_n 2, 1) := by decide +kernel
theorem d_W_box_6 : decode b_W_box 6 = .ok (.lload 4, 2) := by decide +kernel
theorem d_W_box_8 : decode b_W_box 8 = .ok (.lload 6, 2) := by decide +kernel
theorem d_W_box_10 : decode b_W_box 10 = .ok (.lload 8, 2) := by decide +kernel
theorem d_W_box_12 : decode b_W_box 12 = .ok (.lload 10, 2) := by decide +kernel
theorem d_W_box_14 : decode b_W_box 14 = .ok (.lload 12, 2) := by decide +kernel
theorem d_W_box_16 : decode b_W_box 16 = .ok (.invokevirtual 7, 3) := by decide +kernel
theorem d_W_box_19 : decode b_W_box 19 = .ok (.ifCond .eq 7, 3) := by decide +kernel
theorem d_W_box_22 : decode b_W_box 22 = .ok (.lconst 1, 1) := by decide +kernel
theorem d_W_box_23 : decode b_W_box 23 = .ok (.goto 4, 3) := by decide +kernel
theorem d_W_box_26 : decode b_W_box 26 = .ok (.lconst 0, 1) := by decide +kernel
theorem d_W_box_27 : decode b_W_box 27 = .ok (.lastore, 1) := by decide +kernel
theorem d_W_box_28 : decode b_W_box 28 = .ok (.goto 11, 3) := by decide +kernel
theorem d_W_box_31 : decode b_W_box 31 = .ok (.astore 15, 2) := by decide +kernel
theorem d_W_box_33 : decode b_W_box 33 = .ok (.iconst 1, 1) := by decide +kernel
theorem d_W_box_34 : decode b_W_box 34 = .ok (.ireturn, 1) := by decide +kernel
theorem d_W_box_35 : decode b_W_box 35 = .ok (.astore 15, 2) := by decide +kernel
theorem d_W_box_37 : decode b_W_box 37 = .ok (.iconst 2, 1) := by decide +kernel
theorem d_W_box_38 : decode b_W_box 38 = .ok (.ireturn, 1) := by decide +kernel
theorem d_W_box_39 : decode b_W_box 39 = .ok (.iconst 0, 1) := by decide +kernel
theorem d_W_box_40 : decode b_W_box 40 = .ok (.ireturn, 1) := by decide +kernel
abbrev rm_W_box : Room := { frames := 11, cells := 14, slots := 152, locals := 237 }
theorem ce_W_box : gCe y_W_box (.codeWith y_W_box b_W_box 16 (some .int) [(0, 28, 31, 13), (0, 28, 35, 15)]) 16 9 true := gCe.codeWith wd_429 wd_48 wd_428 (by decide) (by decide +kernel)
def f_W_box (g0 : gG) (a0 : Nat) (p1 : Int32) (p2 : Int64) (p3 : Int64) (p4 : Int64) (p5 : Int64) (p6 : Int64) (p7 : Int64) (a8 : Nat) (w : gW) : gX Int32 := (gck w a0 0).bind fun _ => gtry (f_B_box g0 a0 p1 p2 p3 p4 p5 p6 p7 w) (fun E w => if E = "java/lang/IndexOutOfBoundsException" then some (.inr 1, w) else if E = "java/lang/IllegalArgumentException" then some (.inr 2, w) else none) fun v5 w => gjoin (fun K27 => if v5 = 0 then (K27 0 w) else (K27 1 w)) (fun (y6 : Int64) (w : gW) => (gsJ w a8 0 y6).bind fun w => some (.inr 0, w))
set_option maxHeartbeats 4000000 in
set_option maxRecDepth 100000 in
theorem m_W_box (l : Launch) (hst : l.stackTraces = false) (D : gD) (g0 : gG) (a0 : Nat) (p1 : Int32) (p2 : Int64) (p3 : Int64) (p4 : Int64) (p5 : Int64) (p6 : Int64) (p7 : Int64) (a8 : Nat) (w : gW) (r : (String ⊕ Int32) × gW) (h : f_W_box g0 a0 p1 p2 p3 p4 p5 p6 p7 a8 w = some r) : gMet l y_W_box (.codeWith y_W_box b_W_box 16 (some .int) [(0, 28, 31, 13), (0, 28, 35, 15)]) rm_W_box D g0 [.ref a0, .int p1, .long p2, .long p3, .long p4, .long p5, .long p6, .long p7, .ref a8] w (goI r) := by
  refine gw_ofW (by decide +kernel) (Nat.le_of_ble_eq_true rfl) ?_
  intro p e s m below meth c ls args A Q hx hb hml hown htab hT hK hZ hA hret hI hl
  obtain ⟨H, hH⟩ : ∃ H, H = s.heap := ⟨_, rfl⟩
  rw [← hH] at hI ⊢
  obtain ⟨locs, hlocs⟩ : ∃ z : List Loc, z = [] := ⟨_, rfl⟩
  rw [← hlocs] at hI ⊢
  have hl : lv_has ls 16 [(0, .ref a0), (1, .int p1), (2, .long p2), (4, .long p3), (6, .long p4), (8, .long p5), (10, .long p6), (12, .long p7), (14, .ref a8)] := hl
  unfold f_W_box at h
  refine lv_aload hx hb d_W_box_0 (lv_at hl 8 rfl) ?_
  refine lv_iconst (v := 0) hx hb d_W_box_2 (by decide) ?_
  refine lv_aload_n hx hb d_W_box_3 rfl (lv_at hl 0 rfl) ?_
  refine lv_iload_n hx hb d_W_box_4 rfl (lv_at hl 1 rfl) ?_
  refine lv_lload_n hx hb d_W_box_5 rfl (lv_at hl 2 rfl) ?_
  refine lv_lload hx hb d_W_box_6 (lv_at hl 3 rfl) ?_
  refine lv_lload hx hb d_W_box_8 (lv_at hl 4 rfl) ?_
  refine lv_lload hx hb d_W_box_10 (lv_at hl 5 rfl) ?_
  refine lv_lload hx hb d_W_box_12 (lv_at hl 6 rfl) ?_
  refine lv_lload hx hb d_W_box_14 (lv_at hl 7 rfl) ?_
  obtain ⟨q3, e4, h⟩ := gb h
  obtain ⟨u1, e2⟩ := gsomeT h
  refine gw_tryI e2 h (gw_runV (As := [.int p1, .long p2, .long p3, .long p4, .long p5, .long p6, .long p7]) (rest := [.int 0, .ref a8]) hx hb hml hown hT hK hZ hA hI (ci := 0) rfl e4 (m_B_box l hst D g0 a0 p1 p2 p3 p4 p5 p6 p7 w u1 e2) ce_B_box wd_432 wd_434 ⟨by decide, by decide⟩ rfl rfl hl.1 rfl (lv_room (Nat.le_of_ble_eq_true rfl)) d_W_box_16 ⟨(show 0 + 14 ≤ 14 by omega), (show 0 + 152 ≤ 152 by omega)⟩) hI hA (fun E w H locs q ce h hI hq hv hE => ?_) (fun v5 w H locs h hI => ?_)
  · skip
    rcases gcs h with ⟨rfl, h⟩ | ⟨-, h⟩
    · refine gw_catch1 hown hT htab wd_430 (by decide) (by decide) hq hv hE ?_
      refine lv_astore (lv' := [(15, .ref q), (0, .ref a0), (1, .int p1), (2, .long p2), (4, .long p3), (6, .long p4), (8, .long p5), (10, .long p6), (12, .long p7), (14, .ref a8)]) hx hb d_W_box_31 hl (by decide) rfl (fun ls hl => ?_)
      refine lv_iconst (v := 1) hx hb d_W_box_33 (by decide) ?_
      exact W.widen (show 14 ≤ 14 by omega) (show 152 ≤ 152 by omega) (hret _ _ (Option.some.inj h).symm _ _ _ _ d_W_box_34 hI)
    rcases gcs h with ⟨rfl, h⟩ | ⟨-, h⟩
    · refine gw_catch2 hown hT hZ htab wd_430 (by decide) (by decide) wd_431 (by decide) (by decide) (by decide) hq hv hE ?_
      refine lv_astore (lv' := [(15, .ref q), (0, .ref a0), (1, .int p1), (2, .long p2), (4, .long p3), (6, .long p4), (8, .long p5), (10, .long p6), (12, .long p7), (14, .ref a8)]) hx hb d_W_box_35 hl (by decide) rfl (fun ls hl => ?_)
      refine lv_iconst (v := 2) hx hb d_W_box_37 (by decide) ?_
      exact W.widen (show 14 ≤ 14 by omega) (show 152 ≤ 152 by omega) (hret _ _ (Option.some.inj h).symm _ _ _ _ d_W_box_38 hI)
    exact absurd h (by simp)
  refine W.widen (k := 14) (n := 152) (show 0 + 14 ≤ 14 by omega) (show 0 + 152 ≤ 152 by omega) ?_
  obtain ⟨K27, eK27, h⟩ := gj h
  have hK27 : ∀ (y6 : Int64) (w : gW) (H : Heap) (locs : List Loc) (ls : Array Slot), K27 y6 w = some r → gI D s A w H locs → lv_has ls 16 [] → W p l e rm_W_box s m args below meth c H locs 14 152 Q (F0 m 27 ls [.long y6, .int 0, .ref a8]) := by
    intro y6 w H locs ls h hI hl
    have h := gk2 eK27 h
    obtain ⟨w, e7, h⟩ := gb h
    refine gw_astJ hx hb hK hI e7 d_W_box_27 (fun H locs hI => ?_)
    refine lv_goto (tgt := 39) hx hb d_W_box_28 (by decide) ?_
    refine lv_iconst (v := 0) hx hb d_W_box_39 (by decide) ?_
    exact W.widen (show 14 ≤ 14 by omega) (show 152 ≤ 152 by omega) (hret _ _ (Option.some.inj h).symm _ _ _ _ d_W_box_40 hI)
  refine lv_if_eq (tgt := 26) hx hb d_W_box_19 (by decide) (fun c8 => ?_) (fun c8 => ?_)
  · skip
    have h := git c8 h
    refine lv_lconst (v := 0) hx hb d_W_box_26 (by decide) ?_
    exact hK27 _ w H locs ls h hI (lv_sub hl [] rfl)
  · skip
    have h := gie c8 h
    refine lv_lconst (v := 1) hx hb d_W_box_22 (by decide) ?_
    refine lv_goto (tgt := 27) hx hb d_W_box_23 (by decide) ?_
    exact hK27 _ w H locs ls h hI (lv_sub hl [] rfl)
