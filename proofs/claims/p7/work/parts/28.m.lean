abbrev b_W_tube : ByteArray := method_7_code
def y_W_tube : MethodName := ⟨"BodySolidsLaw", "tube", "(LBodySolids;IJJJJIJ[J)I"⟩
theorem d_W_tube_0 : decode b_W_tube 0 = .ok (.aload 13, 2) := by decide +kernel
theorem d_W_tube_2 : decode b_W_tube 2 = .ok (.iconst 0, 1) := by decide +kernel
theorem d_W_tube_3 : decode b_W_tube 3 = .ok (.aload_n 0, 1) := by decide +kernel
theorem d_W_tube_4 : decode b_W_tube 4 = .ok (.iload_n 1, 1) := by decide +kernel
theorem d_W_tube_5 : decode b_W_tube 5 = .ok (.lload_n 2, 1) := by decide +kernel
theorem d_W_tube_6 : decode b_W_tube 6 = .ok (.lload 4, 2) := by decide +kernel
theorem d_W_tube_8 : decode b_W_tube 8 = .ok (.lload 6, 2) := by decide +kernel
theorem d_W_tube_10 : decode b_W_tube 10 = .ok (.lload 8, 2) := by decide +kernel
theorem d_W_tube_12 : decode b_W_tube 12 = .ok (.iload 10, 2) := by decide +kernel
theorem d_W_tube_14 : decode b_W_tube 14 = .ok (.lload 11, 2) := by decide +kernel
theorem d_W_tube_16 : decode b_W_tube 16 = .ok (.invokevirtual 29, 3) := by decide +kernel
theorem d_W_tube_19 : decode b_W_tube 19 = .ok (.ifCond .eq 7, 3) := by decide +kernel
theorem d_W_tube_22 : decode b_W_tube 22 = .ok (.lconst 1, 1) := by decide +kernel
theorem d_W_tube_23 : decode b_W_tube 23 = .ok (.goto 4, 3) := by decide +kernel
theorem d_W_tube_26 : decode b_W_tube 26 = .ok (.lconst 0, 1) := by decide +kernel
theorem d_W_tube_27 : decode b_W_tube 27 = .ok (.lastore, 1) := by decide +kernel
theorem d_W_tube_28 : decode b_W_tube 28 = .ok (.goto 11, 3) := by decide +kernel
theorem d_W_tube_31 : decode b_W_tube 31 = .ok (.astore 14, 2) := by decide +kernel
theorem d_W_tube_33 : decode b_W_tube 33 = .ok (.iconst 1, 1) := by decide +kernel
theorem d_W_tube_34 : decode b_W_tube 34 = .ok (.ireturn, 1) := by decide +kernel
theorem d_W_tube_35 : decode b_W_tube 35 = .ok (.astore 14, 2) := by decide +kernel
theorem d_W_tube_37 : decode b_W_tube 37 = .ok (.iconst 2, 1) := by decide +kernel
theorem d_W_tube_38 : decode b_W_tube 38 = .ok (.ireturn, 1) := by decide +kernel
theorem d_W_tube_39 : decode b_W_tube 39 = .ok (.iconst 0, 1) := by decide +kernel
theorem d_W_tube_40 : decode b_W_tube 40 = .ok (.ireturn, 1) := by decide +kernel
abbrev rm_W_tube : Room := { frames := 10, cells := 14, slots := 152, locals := 242 }
theorem ce_W_tube : gCe y_W_tube (.codeWith y_W_tube b_W_tube 15 (some .int) [(0, 28, 31, 13), (0, 28, 35, 15)]) 15 9 true := gCe.codeWith wd_610 wd_48 wd_609 (by decide) (by decide +kernel)
def f_W_tube (g0 : gG) (a0 : Nat) (p1 : Int32) (p2 : Int64) (p3 : Int64) (p4 : Int64) (p5 : Int64) (p6 : Int32) (p7 : Int64) (a8 : Nat) (w : gW) : gX Int32 := (gck w a0 0).bind fun _ => gtry (f_B_tube g0 a0 p1 p2 p3 p4 p5 p6 p7 w) (fun E w => if E = "java/lang/IndexOutOfBoundsException" then some (.inr 1, w) else if E = "java/lang/IllegalArgumentException" then some (.inr 2, w) else none) fun v5 w => gjoin (fun K27 => if v5 = 0 then (K27 0 w) else (K27 1 w)) (fun (y6 : Int64) (w : gW) => (gsJ w a8 0 y6).bind fun w => some (.inr 0, w))
set_option maxHeartbeats 4000000 in
set_option maxRecDepth 100000 in
theorem m_W_tube (l : Launch) (hst : l.stackTraces = false) (D : gD) (g0 : gG) (a0 : Nat) (p1 : Int32) (p2 : Int64) (p3 : Int64) (p4 : Int64) (p5 : Int64) (p6 : Int32) (p7 : Int64) (a8 : Nat) (w : gW) (r : (String ⊕ Int32) × gW) (h : f_W_tube g0 a0 p1 p2 p3 p4 p5 p6 p7 a8 w = some r) : gMet l y_W_tube (.codeWith y_W_tube b_W_tube 15 (some .int) [(0, 28, 31, 13), (0, 28, 35, 15)]) rm_W_tube D g0 [.ref a0, .int p1, .long p2, .long p3, .long p4, .long p5, .int p6, .long p7, .ref a8] w (goI r) := by
  refine gw_ofW (by decide +kernel) (Nat.le_of_ble_eq_true rfl) ?_
  intro p e s m below meth c ls args A Q hx hb hml hown htab hT hK hZ hA hret hI hl
  obtain ⟨H, hH⟩ : ∃ H, H = s.heap := ⟨_, rfl⟩
  rw [← hH] at hI ⊢
  obtain ⟨locs, hlocs⟩ : ∃ z : List Loc, z = [] := ⟨_, rfl⟩
  rw [← hlocs] at hI ⊢
  have hl : lv_has ls 15 [(0, .ref a0), (1, .int p1), (2, .long p2), (4, .long p3), (6, .long p4), (8, .long p5), (10, .int p6), (11, .long p7), (13, .ref a8)] := hl
  unfold f_W_tube at h
  refine lv_aload hx hb d_W_tube_0 (lv_at hl 8 rfl) ?_
  refine lv_iconst (v := 0) hx hb d_W_tube_2 (by decide) ?_
  refine lv_aload_n hx hb d_W_tube_3 rfl (lv_at hl 0 rfl) ?_
  refine lv_iload_n hx hb d_W_tube_4 rfl (lv_at hl 1 rfl) ?_
  refine lv_lload_n hx hb d_W_tube_5 rfl (lv_at hl 2 rfl) ?_
  refine lv_lload hx hb d_W_tube_6 (lv_at hl 3 rfl) ?_
  refine lv_lload hx hb d_W_tube_8 (lv_at hl 4 rfl) ?_
  refine lv_lload hx hb d_W_tube_10 (lv_at hl 5 rfl) ?_
  refine lv_iload hx hb d_W_tube_12 (lv_at hl 6 rfl) ?_
  refine lv_lload hx hb d_W_tube_14 (lv_at hl 7 rfl) ?_
  obtain ⟨q3, e4, h⟩ := gb h
  obtain ⟨u1, e2⟩ := gsomeT h
  refine gw_tryI e2 h (gw_runV (As := [.int p1, .long p2, .long p3, .long p4, .long p5, .int p6, .long p7]) (rest := [.int 0, .ref a8]) hx hb hml hown hT hK hZ hA hI (ci := 0) rfl e4 (m_B_tube l hst D g0 a0 p1 p2 p3 p4 p5 p6 p7 w u1 e2) ce_B_tube wd_611 wd_613 ⟨by decide, by decide⟩ rfl rfl hl.1 rfl (lv_room (Nat.le_of_ble_eq_true rfl)) d_W_tube_16 ⟨(show 0 + 14 ≤ 14 by omega), (show 0 + 152 ≤ 152 by omega)⟩) hI hA (fun E w H locs q ce h hI hq hv hE => ?_) (fun v5 w H locs h hI => ?_)
  · skip
    rcases gcs h with ⟨rfl, h⟩ | ⟨-, h⟩
    · refine gw_catch1 hown hT htab wd_430 (by decide) (by decide) hq hv hE ?_
      refine lv_astore (lv' := [(14, .ref q), (0, .ref a0), (1, .int p1), (2, .long p2), (4, .long p3), (6, .long p4), (8, .long p5), (10, .int p6), (11, .long p7), (13, .ref a8)]) hx hb d_W_tube_31 hl (by decide) rfl (fun ls hl => ?_)
      refine lv_iconst (v := 1) hx hb d_W_tube_33 (by decide) ?_
      exact W.widen (show 14 ≤ 14 by omega) (show 152 ≤ 152 by omega) (hret _ _ (Option.some.inj h).symm _ _ _ _ d_W_tube_34 hI)
    rcases gcs h with ⟨rfl, h⟩ | ⟨-, h⟩
    · refine gw_catch2 hown hT hZ htab wd_430 (by decide) (by decide) wd_431 (by decide) (by decide) (by decide) hq hv hE ?_
      refine lv_astore (lv' := [(14, .ref q), (0, .ref a0), (1, .int p1), (2, .long p2), (4, .long p3), (6, .long p4), (8, .long p5), (10, .int p6), (11, .long p7), (13, .ref a8)]) hx hb d_W_tube_35 hl (by decide) rfl (fun ls hl => ?_)
      refine lv_iconst (v := 2) hx hb d_W_tube_37 (by decide) ?_
      exact W.widen (show 14 ≤ 14 by omega) (show 152 ≤ 152 by omega) (hret _ _ (Option.some.inj h).symm _ _ _ _ d_W_tube_38 hI)
    exact absurd h (by simp)
  refine W.widen (k := 14) (n := 152) (show 0 + 14 ≤ 14 by omega) (show 0 + 152 ≤ 152 by omega) ?_
  obtain ⟨K27, eK27, h⟩ := gj h
  have hK27 : ∀ (y6 : Int64) (w : gW) (H : Heap) (locs : List Loc) (ls : Array Slot), K27 y6 w = some r → gI D s A w H locs → lv_has ls 15 [] → W p l e rm_W_tube s m args below meth c H locs 14 152 Q (F0 m 27 ls [.long y6, .int 0, .ref a8]) := by
    intro y6 w H locs ls h hI hl
    have h := gk2 eK27 h
    obtain ⟨w, e7, h⟩ := gb h
    refine gw_astJ hx hb hK hI e7 d_W_tube_27 (fun H locs hI => ?_)
    refine lv_goto (tgt := 39) hx hb d_W_tube_28 (by decide) ?_
    refine lv_iconst (v := 0) hx hb d_W_tube_39 (by decide) ?_
    exact W.widen (show 14 ≤ 14 by omega) (show 152 ≤ 152 by omega) (hret _ _ (Option.some.inj h).symm _ _ _ _ d_W_tube_40 hI)
  refine lv_if_eq (tgt := 26) hx hb d_W_tube_19 (by decide) (fun c8 => ?_) (fun c8 => ?_)
  · skip
    have h := git c8 h
    refine lv_lconst (v := 0) hx hb d_W_tube_26 (by decide) ?_
    exact hK27 _ w H locs ls h hI (lv_sub hl [] rfl)
  · skip
    have h := gie c8 h
    refine lv_lconst (v := 1) hx hb d_W_tube_22 (by decide) ?_
    refine lv_goto (tgt := 27) hx hb d_W_tube_23 (by decide) ?_
    exact hK27 _ w H locs ls h hI (lv_sub hl [] rfl)
