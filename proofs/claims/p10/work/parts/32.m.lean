abbrev b_W_move : ByteArray := method_10_code
def y_W_move : MethodName := ⟨"BodySolidsLaw", "move", "(LBodySolids;IJJII[J)I"⟩
theorem d_W_move_0 : decode b_W_move 0 = .ok (.aload 8, 2) := by decide +kernel
theorem d_W_move_2 : decode b_W_move 2 = .ok (.iconst 0, 1) := by decide +kernel
theorem d_W_move_3 : decode b_W_move 3 = .ok (.aload_n 0, 1) := by decide +kernel
theorem d_W_move_4 : decode b_W_move 4 = .ok (.iload_n 1, 1) := by decide +kernel
theorem d_W_move_5 : decode b_W_move 5 = .ok (.lload_n 2, 1) := by decide +kernel
theorem d_W_move_6 : decode b_W_move 6 = .ok (.lload 4, 2) := by decide +kernel
theorem d_W_move_8 : decode b_W_move 8 = .ok (.iload 6, 2) := by decide +kernel
theorem d_W_move_10 : decode b_W_move 10 = .ok (.iload 7, 2) := by decide +kernel
theorem d_W_move_12 : decode b_W_move 12 = .ok (.invokevirtual 41, 3) := by decide +kernel
theorem d_W_move_15 : decode b_W_move 15 = .ok (.ifCond .eq 7, 3) := by decide +kernel
theorem d_W_move_18 : decode b_W_move 18 = .ok (.lconst 1, 1) := by decide +kernel
theorem d_W_move_19 : decode b_W_move 19 = .ok (.goto 4, 3) := by decide +kernel
theorem d_W_move_22 : decode b_W_move 22 = .ok (.lconst 0, 1) := by decide +kernel
theorem d_W_move_23 : decode b_W_move 23 = .ok (.lastore, 1) := by decide +kernel
theorem d_W_move_24 : decode b_W_move 24 = .ok (.goto 11, 3) := by decide +kernel
theorem d_W_move_27 : decode b_W_move 27 = .ok (.astore 9, 2) := by decide +kernel
theorem d_W_move_29 : decode b_W_move 29 = .ok (.iconst 1, 1) := by decide +kernel
theorem d_W_move_30 : decode b_W_move 30 = .ok (.ireturn, 1) := by decide +kernel
theorem d_W_move_31 : decode b_W_move 31 = .ok (.astore 9, 2) := by decide +kernel
theorem d_W_move_33 : decode b_W_move 33 = .ok (.iconst 2, 1) := by decide +kernel
theorem d_W_move_34 : decode b_W_move 34 = .ok (.ireturn, 1) := by decide +kernel
theorem d_W_move_35 : decode b_W_move 35 = .ok (.iconst 0, 1) := by decide +kernel
theorem d_W_move_36 : decode b_W_move 36 = .ok (.ireturn, 1) := by decide +kernel
abbrev rm_W_move : Room := { frames := 10, cells := 5, slots := 30, locals := 168 }
theorem ce_W_move : gCe y_W_move (.codeWith y_W_move b_W_move 10 (some .int) [(0, 24, 27, 13), (0, 24, 31, 15)]) 10 7 true := gCe.codeWith wd_677 wd_48 wd_676 (by decide) (by decide +kernel)
def f_W_move (g0 : gG) (a0 : Nat) (p1 : Int32) (p2 : Int64) (p3 : Int64) (p4 : Int32) (p5 : Int32) (a6 : Nat) (w : gW) : gX Int32 := (gck w a0 0).bind fun _ => gtry (f_B_move g0 a0 p1 p2 p3 p4 p5 w) (fun E w => if E = "java/lang/IndexOutOfBoundsException" then some (.inr 1, w) else if E = "java/lang/IllegalArgumentException" then some (.inr 2, w) else none) fun v5 w => gjoin (fun K23 => if v5 = 0 then (K23 0 w) else (K23 1 w)) (fun (y6 : Int64) (w : gW) => (gsJ w a6 0 y6).bind fun w => some (.inr 0, w))
set_option maxHeartbeats 4000000 in
set_option maxRecDepth 100000 in
theorem m_W_move (l : Launch) (hst : l.stackTraces = false) (D : gD) (g0 : gG) (a0 : Nat) (p1 : Int32) (p2 : Int64) (p3 : Int64) (p4 : Int32) (p5 : Int32) (a6 : Nat) (w : gW) (r : (String ⊕ Int32) × gW) (h : f_W_move g0 a0 p1 p2 p3 p4 p5 a6 w = some r) : gMet l y_W_move (.codeWith y_W_move b_W_move 10 (some .int) [(0, 24, 27, 13), (0, 24, 31, 15)]) rm_W_move D g0 [.ref a0, .int p1, .long p2, .long p3, .int p4, .int p5, .ref a6] w (goI r) := by
  refine gw_ofW (by decide +kernel) (Nat.le_of_ble_eq_true rfl) ?_
  intro p e s m below meth c ls args A Q hx hb hml hown htab hT hK hZ hA hret hI hl
  obtain ⟨H, hH⟩ : ∃ H, H = s.heap := ⟨_, rfl⟩
  rw [← hH] at hI ⊢
  obtain ⟨locs, hlocs⟩ : ∃ z : List Loc, z = [] := ⟨_, rfl⟩
  rw [← hlocs] at hI ⊢
  have hl : lv_has ls 10 [(0, .ref a0), (1, .int p1), (2, .long p2), (4, .long p3), (6, .int p4), (7, .int p5), (8, .ref a6)] := hl
  unfold f_W_move at h
  refine lv_aload hx hb d_W_move_0 (lv_at hl 6 rfl) ?_
  refine lv_iconst (v := 0) hx hb d_W_move_2 (by decide) ?_
  refine lv_aload_n hx hb d_W_move_3 rfl (lv_at hl 0 rfl) ?_
  refine lv_iload_n hx hb d_W_move_4 rfl (lv_at hl 1 rfl) ?_
  refine lv_lload_n hx hb d_W_move_5 rfl (lv_at hl 2 rfl) ?_
  refine lv_lload hx hb d_W_move_6 (lv_at hl 3 rfl) ?_
  refine lv_iload hx hb d_W_move_8 (lv_at hl 4 rfl) ?_
  refine lv_iload hx hb d_W_move_10 (lv_at hl 5 rfl) ?_
  obtain ⟨q3, e4, h⟩ := gb h
  obtain ⟨u1, e2⟩ := gsomeT h
  refine gw_tryI e2 h (gw_runV (As := [.int p1, .long p2, .long p3, .int p4, .int p5]) (rest := [.int 0, .ref a6]) hx hb hml hown hT hK hZ hA hI (ci := 0) rfl e4 (m_B_move l hst D g0 a0 p1 p2 p3 p4 p5 w u1 e2) ce_B_move wd_678 wd_680 ⟨by decide, by decide⟩ rfl rfl hl.1 rfl (lv_room (Nat.le_of_ble_eq_true rfl)) d_W_move_12 ⟨(show 0 + 5 ≤ 5 by omega), (show 0 + 30 ≤ 30 by omega)⟩) hI hA (fun E w H locs q ce h hI hq hv hE => ?_) (fun v5 w H locs h hI => ?_)
  · skip
    rcases gcs h with ⟨rfl, h⟩ | ⟨-, h⟩
    · refine gw_catch1 hown hT htab wd_430 (by decide) (by decide) hq hv hE ?_
      refine lv_astore (lv' := [(9, .ref q), (0, .ref a0), (1, .int p1), (2, .long p2), (4, .long p3), (6, .int p4), (7, .int p5), (8, .ref a6)]) hx hb d_W_move_27 hl (by decide) rfl (fun ls hl => ?_)
      refine lv_iconst (v := 1) hx hb d_W_move_29 (by decide) ?_
      exact W.widen (show 5 ≤ 5 by omega) (show 30 ≤ 30 by omega) (hret _ _ (Option.some.inj h).symm _ _ _ _ d_W_move_30 hI)
    rcases gcs h with ⟨rfl, h⟩ | ⟨-, h⟩
    · refine gw_catch2 hown hT hZ htab wd_430 (by decide) (by decide) wd_431 (by decide) (by decide) (by decide) hq hv hE ?_
      refine lv_astore (lv' := [(9, .ref q), (0, .ref a0), (1, .int p1), (2, .long p2), (4, .long p3), (6, .int p4), (7, .int p5), (8, .ref a6)]) hx hb d_W_move_31 hl (by decide) rfl (fun ls hl => ?_)
      refine lv_iconst (v := 2) hx hb d_W_move_33 (by decide) ?_
      exact W.widen (show 5 ≤ 5 by omega) (show 30 ≤ 30 by omega) (hret _ _ (Option.some.inj h).symm _ _ _ _ d_W_move_34 hI)
    exact absurd h (by simp)
  refine W.widen (k := 5) (n := 30) (show 0 + 5 ≤ 5 by omega) (show 0 + 30 ≤ 30 by omega) ?_
  obtain ⟨K23, eK23, h⟩ := gj h
  have hK23 : ∀ (y6 : Int64) (w : gW) (H : Heap) (locs : List Loc) (ls : Array Slot), K23 y6 w = some r → gI D s A w H locs → lv_has ls 10 [] → W p l e rm_W_move s m args below meth c H locs 5 30 Q (F0 m 23 ls [.long y6, .int 0, .ref a6]) := by
    intro y6 w H locs ls h hI hl
    have h := gk2 eK23 h
    obtain ⟨w, e7, h⟩ := gb h
    refine gw_astJ hx hb hK hI e7 d_W_move_23 (fun H locs hI => ?_)
    refine lv_goto (tgt := 35) hx hb d_W_move_24 (by decide) ?_
    refine lv_iconst (v := 0) hx hb d_W_move_35 (by decide) ?_
    exact W.widen (show 5 ≤ 5 by omega) (show 30 ≤ 30 by omega) (hret _ _ (Option.some.inj h).symm _ _ _ _ d_W_move_36 hI)
  refine lv_if_eq (tgt := 22) hx hb d_W_move_15 (by decide) (fun c8 => ?_) (fun c8 => ?_)
  · skip
    have h := git c8 h
    refine lv_lconst (v := 0) hx hb d_W_move_22 (by decide) ?_
    exact hK23 _ w H locs ls h hI (lv_sub hl [] rfl)
  · skip
    have h := gie c8 h
    refine lv_lconst (v := 1) hx hb d_W_move_18 (by decide) ?_
    refine lv_goto (tgt := 23) hx hb d_W_move_19 (by decide) ?_
    exact hK23 _ w H locs ls h hI (lv_sub hl [] rfl)
