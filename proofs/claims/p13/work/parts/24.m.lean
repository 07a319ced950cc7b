abbrev b_W_corner : ByteArray := method_5_code
def y_W_corner : MethodName := ⟨"BodySolidsLaw", "corner", "(LBodySolids;JJ[J)I"⟩
theorem d_W_corner_0 : decode b_W_corner 0 = .ok (.aload 5, 2) := by decide +kernel
theorem d_W_corner_2 : decode b_W_corner 2 = .ok (.iconst 0, 1) := by decide +kernel
theorem d_W_corner_3 : decode b_W_corner 3 = .ok (.aload_n 0, 1) := by decide +kernel
theorem d_W_corner_4 : decode b_W_corner 4 = .ok (.lload_n 1, 1) := by decide +kernel
theorem d_W_corner_5 : decode b_W_corner 5 = .ok (.lload_n 3, 1) := by decide +kernel
theorem d_W_corner_6 : decode b_W_corner 6 = .ok (.invokevirtual 21, 3) := by decide +kernel
theorem d_W_corner_9 : decode b_W_corner 9 = .ok (.ifCond .eq 7, 3) := by decide +kernel
theorem d_W_corner_12 : decode b_W_corner 12 = .ok (.lconst 1, 1) := by decide +kernel
theorem d_W_corner_13 : decode b_W_corner 13 = .ok (.goto 4, 3) := by decide +kernel
theorem d_W_corner_16 : decode b_W_corner 16 = .ok (.lconst 0, 1) := by decide +kernel
theorem d_W_corner_17 : decode b_W_corner 17 = .ok (.lastore, 1) := by decide +kernel
theorem d_W_corner_18 : decode b_W_corner 18 = .ok (.goto 7, 3) := by decide +kernel
theorem d_W_corner_21 : decode b_W_corner 21 = .ok (.astore 6, 2) := by decide +kernel
theorem d_W_corner_23 : decode b_W_corner 23 = .ok (.iconst 1, 1) := by decide +kernel
theorem d_W_corner_24 : decode b_W_corner 24 = .ok (.ireturn, 1) := by decide +kernel
theorem d_W_corner_25 : decode b_W_corner 25 = .ok (.iconst 0, 1) := by decide +kernel
theorem d_W_corner_26 : decode b_W_corner 26 = .ok (.ireturn, 1) := by decide +kernel
abbrev rm_W_corner : Room := { frames := 10, cells := 2, slots := 12, locals := 162 }
theorem ce_W_corner : gCe y_W_corner (.codeWith y_W_corner b_W_corner 7 (some .int) [(0, 18, 21, 15)]) 7 4 true := gCe.codeWith wd_579 wd_48 wd_578 (by decide) (by decide +kernel)
def f_W_corner (g0 : gG) (a0 : Nat) (p1 : Int64) (p2 : Int64) (a3 : Nat) (w : gW) : gX Int32 := (gck w a0 0).bind fun _ => gtry (f_B_corner g0 a0 p1 p2 w) (fun E w => if E = "java/lang/IllegalArgumentException" then some (.inr 1, w) else none) fun v5 w => gjoin (fun K17 => if v5 = 0 then (K17 0 w) else (K17 1 w)) (fun (y6 : Int64) (w : gW) => (gsJ w a3 0 y6).bind fun w => some (.inr 0, w))
set_option maxHeartbeats 4000000 in
set_option maxRecDepth 100000 in
theorem m_W_corner (l : Launch) (hst : l.stackTraces = false) (D : gD) (g0 : gG) (a0 : Nat) (p1 : Int64) (p2 : Int64) (a3 : Nat) (w : gW) (r : (String ⊕ Int32) × gW) (h : f_W_corner g0 a0 p1 p2 a3 w = some r) : gMet l y_W_corner (.codeWith y_W_corner b_W_corner 7 (some .int) [(0, 18, 21, 15)]) rm_W_corner D g0 [.ref a0, .long p1, .long p2, .ref a3] w (goI r) := by
  refine gw_ofW (by decide +kernel) (Nat.le_of_ble_eq_true rfl) ?_
  intro p e s m below meth c ls args A Q hx hb hml hown htab hT hK hZ hA hret hI hl
  obtain ⟨H, hH⟩ : ∃ H, H = s.heap := ⟨_, rfl⟩
  rw [← hH] at hI ⊢
  obtain ⟨locs, hlocs⟩ : ∃ z : List Loc, z = [] := ⟨_, rfl⟩
  rw [← hlocs] at hI ⊢
  have hl : lv_has ls 7 [(0, .ref a0), (1, .long p1), (3, .long p2), (5, .ref a3)] := hl
  unfold f_W_corner at h
  refine lv_aload hx hb d_W_corner_0 (lv_at hl 3 rfl) ?_
  refine lv_iconst (v := 0) hx hb d_W_corner_2 (by decide) ?_
  refine lv_aload_n hx hb d_W_corner_3 rfl (lv_at hl 0 rfl) ?_
  refine lv_lload_n hx hb d_W_corner_4 rfl (lv_at hl 1 rfl) ?_
  refine lv_lload_n hx hb d_W_corner_5 rfl (lv_at hl 2 rfl) ?_
  obtain ⟨q3, e4, h⟩ := gb h
  obtain ⟨u1, e2⟩ := gsomeT h
  refine gw_tryI e2 h (gw_runV (As := [.long p1, .long p2]) (rest := [.int 0, .ref a3]) hx hb hml hown hT hK hZ hA hI (ci := 0) rfl e4 (m_B_corner l hst D g0 a0 p1 p2 w u1 e2) ce_B_corner wd_580 wd_582 ⟨by decide, by decide⟩ rfl rfl hl.1 rfl (lv_room (Nat.le_of_ble_eq_true rfl)) d_W_corner_6 ⟨(show 0 + 2 ≤ 2 by omega), (show 0 + 12 ≤ 12 by omega)⟩) hI hA (fun E w H locs q ce h hI hq hv hE => ?_) (fun v5 w H locs h hI => ?_)
  · skip
    rcases gcs h with ⟨rfl, h⟩ | ⟨-, h⟩
    · refine gw_catch1 hown hT htab wd_431 (by decide) (by decide) hq hv hE ?_
      refine lv_astore (lv' := [(6, .ref q), (0, .ref a0), (1, .long p1), (3, .long p2), (5, .ref a3)]) hx hb d_W_corner_21 hl (by decide) rfl (fun ls hl => ?_)
      refine lv_iconst (v := 1) hx hb d_W_corner_23 (by decide) ?_
      exact W.widen (show 2 ≤ 2 by omega) (show 12 ≤ 12 by omega) (hret _ _ (Option.some.inj h).symm _ _ _ _ d_W_corner_24 hI)
    exact absurd h (by simp)
  refine W.widen (k := 2) (n := 12) (show 0 + 2 ≤ 2 by omega) (show 0 + 12 ≤ 12 by omega) ?_
  obtain ⟨K17, eK17, h⟩ := gj h
  have hK17 : ∀ (y6 : Int64) (w : gW) (H : Heap) (locs : List Loc) (ls : Array Slot), K17 y6 w = some r → gI D s A w H locs → lv_has ls 7 [] → W p l e rm_W_corner s m args below meth c H locs 2 12 Q (F0 m 17 ls [.long y6, .int 0, .ref a3]) := by
    intro y6 w H locs ls h hI hl
    have h := gk2 eK17 h
    obtain ⟨w, e7, h⟩ := gb h
    refine gw_astJ hx hb hK hI e7 d_W_corner_17 (fun H locs hI => ?_)
    refine lv_goto (tgt := 25) hx hb d_W_corner_18 (by decide) ?_
    refine lv_iconst (v := 0) hx hb d_W_corner_25 (by decide) ?_
    exact W.widen (show 2 ≤ 2 by omega) (show 12 ≤ 12 by omega) (hret _ _ (Option.some.inj h).symm _ _ _ _ d_W_corner_26 hI)
  refine lv_if_eq (tgt := 16) hx hb d_W_corner_9 (by decide) (fun c8 => ?_) (fun c8 => ?_)
  · skip
    have h := git c8 h
    refine lv_lconst (v := 0) hx hb d_W_corner_16 (by decide) ?_
    exact hK17 _ w H locs ls h hI (lv_sub hl [] rfl)
  · skip
    have h := gie c8 h
    refine lv_lconst (v := 1) hx hb d_W_corner_12 (by decide) ?_
    refine lv_goto (tgt := 17) hx hb d_W_corner_13 (by decide) ?_
    exact hK17 _ w H locs ls h hI (lv_sub hl [] rfl)
