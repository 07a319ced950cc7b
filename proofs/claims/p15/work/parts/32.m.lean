abbrev b_W_keepOut : ByteArray := method_13_code
def y_W_keepOut : MethodName := ⟨"BodySolidsLaw", "keepOut", "(LBodySolids;JJJJIJ[J)I"⟩
theorem d_W_keepOut_0 : decode b_W_keepOut 0 = .ok (.aload 12, 2) := by decide +kernel
theorem d_W_keepOut_2 : decode b_W_keepOut 2 = .ok (.iconst 0, 1) := by decide +kernel
theorem d_W_keepOut_3 : decode b_W_keepOut 3 = .ok (.aload_n 0, 1) := by decide +kernel
theorem d_W_keepOut_4 : decode b_W_keepOut 4 = .ok (.lload_n 1, 1) := by decide +kernel
theorem d_W_keepOut_5 : decode b_W_keepOut 5 = .ok (.lload_n 3, 1) := by decide +kernel
theorem d_W_keepOut_6 : decode b_W_keepOut 6 = .ok (.lload 5, 2) := by decide +kernel
theorem d_W_keepOut_8 : decode b_W_keepOut 8 = .ok (.lload 7, 2) := by decide +kernel
theorem d_W_keepOut_10 : decode b_W_keepOut 10 = .ok (.iload 9, 2) := by decide +kernel
theorem d_W_keepOut_12 : decode b_W_keepOut 12 = .ok (.lload 10, 2) := by decide +kernel
theorem d_W_keepOut_14 : decode b_W_keepOut 14 = .ok (.invokevirtual 51, 3) := by decide +kernel
theorem d_W_keepOut_17 : decode b_W_keepOut 17 = .ok (.ifCond .eq 7, 3) := by decide +kernel
theorem d_W_keepOut_20 : decode b_W_keepOut 20 = .ok (.lconst 1, 1) := by decide +kernel
theorem d_W_keepOut_21 : decode b_W_keepOut 21 = .ok (.goto 4, 3) := by decide +kernel
theorem d_W_keepOut_24 : decode b_W_keepOut 24 = .ok (.lconst 0, 1) := by decide +kernel
theorem d_W_keepOut_25 : decode b_W_keepOut 25 = .ok (.lastore, 1) := by decide +kernel
theorem d_W_keepOut_26 : decode b_W_keepOut 26 = .ok (.goto 7, 3) := by decide +kernel
theorem d_W_keepOut_29 : decode b_W_keepOut 29 = .ok (.astore 13, 2) := by decide +kernel
theorem d_W_keepOut_31 : decode b_W_keepOut 31 = .ok (.iconst 1, 1) := by decide +kernel
theorem d_W_keepOut_32 : decode b_W_keepOut 32 = .ok (.ireturn, 1) := by decide +kernel
theorem d_W_keepOut_33 : decode b_W_keepOut 33 = .ok (.iconst 0, 1) := by decide +kernel
theorem d_W_keepOut_34 : decode b_W_keepOut 34 = .ok (.ireturn, 1) := by decide +kernel
abbrev rm_W_keepOut : Room := { frames := 9, cells := 11, slots := 130, locals := 211 }
theorem ce_W_keepOut : gCe y_W_keepOut (.codeWith y_W_keepOut b_W_keepOut 14 (some .int) [(0, 26, 29, 15)]) 14 8 true := gCe.codeWith wd_706 wd_48 wd_705 (by decide) (by decide +kernel)
def f_W_keepOut (g0 : gG) (a0 : Nat) (p1 : Int64) (p2 : Int64) (p3 : Int64) (p4 : Int64) (p5 : Int32) (p6 : Int64) (a7 : Nat) (w : gW) : gX Int32 := (gck w a0 0).bind fun _ => gtry (f_B_keepOut g0 a0 p1 p2 p3 p4 p5 p6 w) (fun E w => if E = "java/lang/IllegalArgumentException" then some (.inr 1, w) else none) fun v5 w => gjoin (fun K25 => if v5 = 0 then (K25 0 w) else (K25 1 w)) (fun (y6 : Int64) (w : gW) => (gsJ w a7 0 y6).bind fun w => some (.inr 0, w))
set_option maxHeartbeats 4000000 in
set_option maxRecDepth 100000 in
theorem m_W_keepOut (l : Launch) (hst : l.stackTraces = false) (D : gD) (g0 : gG) (a0 : Nat) (p1 : Int64) (p2 : Int64) (p3 : Int64) (p4 : Int64) (p5 : Int32) (p6 : Int64) (a7 : Nat) (w : gW) (r : (String ⊕ Int32) × gW) (h : f_W_keepOut g0 a0 p1 p2 p3 p4 p5 p6 a7 w = some r) : gMet l y_W_keepOut (.codeWith y_W_keepOut b_W_keepOut 14 (some .int) [(0, 26, 29, 15)]) rm_W_keepOut D g0 [.ref a0, .long p1, .long p2, .long p3, .long p4, .int p5, .long p6, .ref a7] w (goI r) := by
  refine gw_ofW (by decide +kernel) (Nat.le_of_ble_eq_true rfl) ?_
  intro p e s m below meth c ls args A Q hx hb hml hown htab hT hK hZ hA hret hI hl
  obtain ⟨H, hH⟩ : ∃ H, H = s.heap := ⟨_, rfl⟩
  rw [← hH] at hI ⊢
  obtain ⟨locs, hlocs⟩ : ∃ z : List Loc, z = [] := ⟨_, rfl⟩
  rw [← hlocs] at hI ⊢
  have hl : lv_has ls 14 [(0, .ref a0), (1, .long p1), (3, .long p2), (5, .long p3), (7, .long p4), (9, .int p5), (10, .long p6), (12, .ref a7)] := hl
  unfold f_W_keepOut at h
  refine lv_aload hx hb d_W_keepOut_0 (lv_at hl 7 rfl) ?_
  refine lv_iconst (v := 0) hx hb d_W_keepOut_2 (by decide) ?_
  refine lv_aload_n hx hb d_W_keepOut_3 rfl (lv_at hl 0 rfl) ?_
  refine lv_lload_n hx hb d_W_keepOut_4 rfl (lv_at hl 1 rfl) ?_
  refine lv_lload_n hx hb d_W_keepOut_5 rfl (lv_at hl 2 rfl) ?_
  refine lv_lload hx hb d_W_keepOut_6 (lv_at hl 3 rfl) ?_
  refine lv_lload hx hb d_W_keepOut_8 (lv_at hl 4 rfl) ?_
  refine lv_iload hx hb d_W_keepOut_10 (lv_at hl 5 rfl) ?_
  refine lv_lload hx hb d_W_keepOut_12 (lv_at hl 6 rfl) ?_
  obtain ⟨q3, e4, h⟩ := gb h
  obtain ⟨u1, e2⟩ := gsomeT h
  refine gw_tryI e2 h (gw_runV (As := [.long p1, .long p2, .long p3, .long p4, .int p5, .long p6]) (rest := [.int 0, .ref a7]) hx hb hml hown hT hK hZ hA hI (ci := 0) rfl e4 (m_B_keepOut l hst D g0 a0 p1 p2 p3 p4 p5 p6 w u1 e2) ce_B_keepOut wd_707 wd_709 ⟨by decide, by decide⟩ rfl rfl hl.1 rfl (lv_room (Nat.le_of_ble_eq_true rfl)) d_W_keepOut_14 ⟨(show 0 + 11 ≤ 11 by omega), (show 0 + 130 ≤ 130 by omega)⟩) hI hA (fun E w H locs q ce h hI hq hv hE => ?_) (fun v5 w H locs h hI => ?_)
  · skip
    rcases gcs h with ⟨rfl, h⟩ | ⟨-, h⟩
    · refine gw_catch1 hown hT htab wd_431 (by decide) (by decide) hq hv hE ?_
      refine lv_astore (lv' := [(13, .ref q), (0, .ref a0), (1, .long p1), (3, .long p2), (5, .long p3), (7, .long p4), (9, .int p5), (10, .long p6), (12, .ref a7)]) hx hb d_W_keepOut_29 hl (by decide) rfl (fun ls hl => ?_)
      refine lv_iconst (v := 1) hx hb d_W_keepOut_31 (by decide) ?_
      exact W.widen (show 11 ≤ 11 by omega) (show 130 ≤ 130 by omega) (hret _ _ (Option.some.inj h).symm _ _ _ _ d_W_keepOut_32 hI)
    exact absurd h (by simp)
  refine W.widen (k := 11) (n := 130) (show 0 + 11 ≤ 11 by omega) (show 0 + 130 ≤ 130 by omega) ?_
  obtain ⟨K25, eK25, h⟩ := gj h
  have hK25 : ∀ (y6 : Int64) (w : gW) (H : Heap) (locs : List Loc) (ls : Array Slot), K25 y6 w = some r → gI D s A w H locs → lv_has ls 14 [] → W p l e rm_W_keepOut s m args below meth c H locs 11 130 Q (F0 m 25 ls [.long y6, .int 0, .ref a7]) := by
    intro y6 w H locs ls h hI hl
    have h := gk2 eK25 h
    obtain ⟨w, e7, h⟩ := gb h
    refine gw_astJ hx hb hK hI e7 d_W_keepOut_25 (fun H locs hI => ?_)
    refine lv_goto (tgt := 33) hx hb d_W_keepOut_26 (by decide) ?_
    refine lv_iconst (v := 0) hx hb d_W_keepOut_33 (by decide) ?_
    exact W.widen (show 11 ≤ 11 by omega) (show 130 ≤ 130 by omega) (hret _ _ (Option.some.inj h).symm _ _ _ _ d_W_keepOut_34 hI)
  refine lv_if_eq (tgt := 24) hx hb d_W_keepOut_17 (by decide) (fun c8 => ?_) (fun c8 => ?_)
  · skip
    have h := git c8 h
    refine lv_lconst (v := 0) hx hb d_W_keepOut_24 (by decide) ?_
    exact hK25 _ w H locs ls h hI (lv_sub hl [] rfl)
  · skip
    have h := gie c8 h
    refine lv_lconst (v := 1) hx hb d_W_keepOut_20 (by decide) ?_
    refine lv_goto (tgt := 25) hx hb d_W_keepOut_21 (by decide) ?_
    exact hK25 _ w H locs ls h hI (lv_sub hl [] rfl)
