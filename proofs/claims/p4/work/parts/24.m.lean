abbrev b_W_cylinder : ByteArray := method_4_code
def y_W_cylinder : MethodName := ⟨"BodySolidsLaw", "cylinder", "(LBodySolids;IJJJJJ[J)I"⟩
theorem d_W_cylinder_0 : decode b_W_cylinder 0 = .ok (.aload 12, 2) := by decide +kernel
theorem d_W_cylinder_2 : decode b_W_cylinder 2 = .ok (.iconst 0, 1) := by decide +kernel
theorem d_W_cylinder_3 : decode b_W_cylinder 3 = .ok (.aload_n 0, 1) := by decide +kernel
theorem d_W_cylinder_4 : decode b_W_cylinder 4 = .ok (.iload_n 1, 1) := by decide +kernel
theorem d_W_cylinder_5 : decode b_W_cylinder 5 = .ok (.lload_n 2, 1) := by decide +kernel
theorem d_W_cylinder_6 : decode b_W_cylinder 6 = .ok (.lload 4, 2) := by decide +kernel
theorem d_W_cylinder_8 : decode b_W_cylinder 8 = .ok (.lload 6, 2) := by decide +kernel
theorem d_W_cylinder_10 : decode b_W_cylinder 10 = .ok (.lload 8, 2) := by decide +kernel
theorem d_W_cylinder_12 : decode b_W_cylinder 12 = .ok (.lload 10, 2) := by decide +kernel
theorem d_W_cylinder_14 : decode b_W_cylinder 14 = .ok (.invokevirtual 17, 3) := by decide +kernel
theorem d_W_cylinder_17 : decode b_W_cylinder 17 = .ok (.ifCond .eq 7, 3) := by decide +kernel
theorem d_W_cylinder_20 : decode b_W_cylinder 20 = .ok (.lconst 1, 1) := by decide +kernel
theorem d_W_cylinder_21 : decode b_W_cylinder 21 = .ok (.goto 4, 3) := by decide +kernel
theorem d_W_cylinder_24 : decode b_W_cylinder 24 = .ok (.lconst 0, 1) := by decide +kernel
theorem d_W_cylinder_25 : decode b_W_cylinder 25 = .ok (.lastore, 1) := by decide +kernel
theorem d_W_cylinder_26 : decode b_W_cylinder 26 = .ok (.goto 11, 3) := by decide +kernel
theorem d_W_cylinder_29 : decode b_W_cylinder 29 = .ok (.astore 13, 2) := by decide +kernel
theorem d_W_cylinder_31 : decode b_W_cylinder 31 = .ok (.iconst 1, 1) := by decide +kernel
theorem d_W_cylinder_32 : decode b_W_cylinder 32 = .ok (.ireturn, 1) := by decide +kernel
theorem d_W_cylinder_33 : decode b_W_cylinder 33 = .ok (.astore 13, 2) := by decide +kernel
theorem d_W_cylinder_35 : decode b_W_cylinder 35 = .ok (.iconst 2, 1) := by decide +kernel
theorem d_W_cylinder_36 : decode b_W_cylinder 36 = .ok (.ireturn, 1) := by decide +kernel
theorem d_W_cylinder_37 : decode b_W_cylinder 37 = .ok (.iconst 0, 1) := by decide +kernel
theorem d_W_cylinder_38 : decode b_W_cylinder 38 = .ok (.ireturn, 1) := by decide +kernel
abbrev rm_W_cylinder : Room := { frames := 11, cells := 11, slots := 134, locals := 235 }
theorem ce_W_cylinder : gCe y_W_cylinder (.codeWith y_W_cylinder b_W_cylinder 14 (some .int) [(0, 26, 29, 13), (0, 26, 33, 15)]) 14 8 true := gCe.codeWith wd_570 wd_48 wd_569 (by decide) (by decide +kernel)
def f_W_cylinder (g0 : gG) (a0 : Nat) (p1 : Int32) (p2 : Int64) (p3 : Int64) (p4 : Int64) (p5 : Int64) (p6 : Int64) (a7 : Nat) (w : gW) : gX Int32 := (gck w a0 0).bind fun _ => gtry (f_B_cylinder g0 a0 p1 p2 p3 p4 p5 p6 w) (fun E w => if E = "java/lang/IndexOutOfBoundsException" then some (.inr 1, w) else if E = "java/lang/IllegalArgumentException" then some (.inr 2, w) else none) fun v5 w => gjoin (fun K25 => if v5 = 0 then (K25 0 w) else (K25 1 w)) (fun (y6 : Int64) (w : gW) => (gsJ w a7 0 y6).bind fun w => some (.inr 0, w))
set_option maxHeartbeats 4000000 in
set_option maxRecDepth 100000 in
theorem m_W_cylinder (l : Launch) (hst : l.stackTraces = false) (D : gD) (g0 : gG) (a0 : Nat) (p1 : Int32) (p2 : Int64) (p3 : Int64) (p4 : Int64) (p5 : Int64) (p6 : Int64) (a7 : Nat) (w : gW) (r : (String ⊕ Int32) × gW) (h : f_W_cylinder g0 a0 p1 p2 p3 p4 p5 p6 a7 w = some r) : gMet l y_W_cylinder (.codeWith y_W_cylinder b_W_cylinder 14 (some .int) [(0, 26, 29, 13), (0, 26, 33, 15)]) rm_W_cylinder D g0 [.ref a0, .int p1, .long p2, .long p3, .long p4, .long p5, .long p6, .ref a7] w (goI r) := by
  refine gw_ofW (by decide +kernel) (Nat.le_of_ble_eq_true rfl) ?_
  intro p e s m below meth c ls args A Q hx hb hml hown htab hT hK hZ hA hret hI hl
  obtain ⟨H, hH⟩ : ∃ H, H = s.heap := ⟨_, rfl⟩
  rw [← hH] at hI ⊢
  obtain ⟨locs, hlocs⟩ : ∃ z : List Loc, z = [] := ⟨_, rfl⟩
  rw [← hlocs] at hI ⊢
  have hl : lv_has ls 14 [(0, .ref a0), (1, .int p1), (2, .long p2), (4, .long p3), (6, .long p4), (8, .long p5), (10, .long p6), (12, .ref a7)] := hl
  unfold f_W_cylinder at h
  refine lv_aload hx hb d_W_cylinder_0 (lv_at hl 7 rfl) ?_
  refine lv_iconst (v := 0) hx hb d_W_cylinder_2 (by decide) ?_
  refine lv_aload_n hx hb d_W_cylinder_3 rfl (lv_at hl 0 rfl) ?_
  refine lv_iload_n hx hb d_W_cylinder_4 rfl (lv_at hl 1 rfl) ?_
  refine lv_lload_n hx hb d_W_cylinder_5 rfl (lv_at hl 2 rfl) ?_
  refine lv_lload hx hb d_W_cylinder_6 (lv_at hl 3 rfl) ?_
  refine lv_lload hx hb d_W_cylinder_8 (lv_at hl 4 rfl) ?_
  refine lv_lload hx hb d_W_cylinder_10 (lv_at hl 5 rfl) ?_
  refine lv_lload hx hb d_W_cylinder_12 (lv_at hl 6 rfl) ?_
  obtain ⟨q3, e4, h⟩ := gb h
  obtain ⟨u1, e2⟩ := gsomeT h
  refine gw_tryI e2 h (gw_runV (As := [.int p1, .long p2, .long p3, .long p4, .long p5, .long p6]) (rest := [.int 0, .ref a7]) hx hb hml hown hT hK hZ hA hI (ci := 0) rfl e4 (m_B_cylinder l hst D g0 a0 p1 p2 p3 p4 p5 p6 w u1 e2) ce_B_cylinder wd_571 wd_573 ⟨by decide, by decide⟩ rfl rfl hl.1 rfl (lv_room (Nat.le_of_ble_eq_true rfl)) d_W_cylinder_14 ⟨(show 0 + 11 ≤ 11 by omega), (show 0 + 134 ≤ 134 by omega)⟩) hI hA (fun E w H locs q ce h hI hq hv hE => ?_) (fun v5 w H locs h hI => ?_)
  · skip
    rcases gcs h with ⟨rfl, h⟩ | ⟨-, h⟩
    · refine gw_catch1 hown hT htab wd_430 (by decide) (by decide) hq hv hE ?_
      refine lv_astore (lv' := [(13, .ref q), (0, .ref a0), (1, .int p1), (2, .long p2), (4, .long p3), (6, .long p4), (8, .long p5), (10, .long p6), (12, .ref a7)]) hx hb d_W_cylinder_29 hl (by decide) rfl (fun ls hl => ?_)
      refine lv_iconst (v := 1) hx hb d_W_cylinder_31 (by decide) ?_
      exact W.widen (show 11 ≤ 11 by omega) (show 134 ≤ 134 by omega) (hret _ _ (Option.some.inj h).symm _ _ _ _ d_W_cylinder_32 hI)
    rcases gcs h with ⟨rfl, h⟩ | ⟨-, h⟩
    · refine gw_catch2 hown hT hZ htab wd_430 (by decide) (by decide) wd_431 (by decide) (by decide) (by decide) hq hv hE ?_
      refine lv_astore (lv' := [(13, .ref q), (0, .ref a0), (1, .int p1), (2, .long p2), (4, .long p3), (6, .long p4), (8, .long p5), (10, .long p6), (12, .ref a7)]) hx hb d_W_cylinder_33 hl (by decide) rfl (fun ls hl => ?_)
      refine lv_iconst (v := 2) hx hb d_W_cylinder_35 (by decide) ?_
      exact W.widen (show 11 ≤ 11 by omega) (show 134 ≤ 134 by omega) (hret _ _ (Option.some.inj h).symm _ _ _ _ d_W_cylinder_36 hI)
    exact absurd h (by simp)
  refine W.widen (k := 11) (n := 134) (show 0 + 11 ≤ 11 by omega) (show 0 + 134 ≤ 134 by omega) ?_
  obtain ⟨K25, eK25, h⟩ := gj h
  have hK25 : ∀ (y6 : Int64) (w : gW) (H : Heap) (locs : List Loc) (ls : Array Slot), K25 y6 w = some r → gI D s A w H locs → lv_has ls 14 [] → W p l e rm_W_cylinder s m args below meth c H locs 11 134 Q (F0 m 25 ls [.long y6, .int 0, .ref a7]) := by
    intro y6 w H locs ls h hI hl
    have h := gk2 eK25 h
    obtain ⟨w, e7, h⟩ := gb h
    refine gw_astJ hx hb hK hI e7 d_W_cylinder_25 (fun H locs hI => ?_)
    refine lv_goto (tgt := 37) hx hb d_W_cylinder_26 (by decide) ?_
    refine lv_iconst (v := 0) hx hb d_W_cylinder_37 (by decide) ?_
    exact W.widen (show 11 ≤ 11 by omega) (show 134 ≤ 134 by omega) (hret _ _ (Option.some.inj h).symm _ _ _ _ d_W_cylinder_38 hI)
  refine lv_if_eq (tgt := 24) hx hb d_W_cylinder_17 (by decide) (fun c8 => ?_) (fun c8 => ?_)
  · skip
    have h := git c8 h
    refine lv_lconst (v := 0) hx hb d_W_cylinder_24 (by decide) ?_
    exact hK25 _ w H locs ls h hI (lv_sub hl [] rfl)
  · skip
    have h := gie c8 h
    refine lv_lconst (v := 1) hx hb d_W_cylinder_20 (by decide) ?_
    refine lv_goto (tgt := 25) hx hb d_W_cylinder_21 (by decide) ?_
    exact hK25 _ w H locs ls h hI (lv_sub hl [] rfl)
