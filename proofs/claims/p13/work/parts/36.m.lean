abbrev b_M_lesser : ByteArray := prog_9_method_44_code
def y_M_lesser : MethodName := ⟨"BodySolidsModel", "lesser", "(JJ)J"⟩
theorem d_M_lesser_0 : decode b_M_lesser 0 = .ok (.lload_n 0, 1) := by decide +kernel
theorem d_M_lesser_1 : decode b_M_lesser 1 = .ok (.lload_n 2, 1) := by decide +kernel
theorem d_M_lesser_2 : decode b_M_lesser 2 = .ok (.lcmp, 1) := by decide +kernel
theorem d_M_lesser_3 : decode b_M_lesser 3 = .ok (.ifCond .ge 7, 3) := by decide +kernel
theorem d_M_lesser_6 : decode b_M_lesser 6 = .ok (.lload_n 0, 1) := by decide +kernel
theorem d_M_lesser_7 : decode b_M_lesser 7 = .ok (.goto 4, 3) := by decide +kernel
theorem d_M_lesser_10 : decode b_M_lesser 10 = .ok (.lload_n 2, 1) := by decide +kernel
theorem d_M_lesser_11 : decode b_M_lesser 11 = .ok (.lreturn, 1) := by decide +kernel
abbrev rm_M_lesser : Room := { frames := 0, cells := 0, slots := 0, locals := 0 }
theorem ce_M_lesser : gCe y_M_lesser (.code y_M_lesser b_M_lesser 4 (some .long)) 4 2 true := gCe.code wd_1010 wd_57 wd_1009 (by decide) (by decide +kernel)
def f_M_lesser (g0 : gG) (p0 : Int64) (p1 : Int64) (w : gW) : gX Int64 := gjoin (fun K11 => if p1 ≤ p0 then (K11 p1 w) else (K11 p0 w)) (fun (y1 : Int64) (w : gW) => some (.inr y1, w))
set_option maxHeartbeats 4000000 in
set_option maxRecDepth 100000 in
theorem m_M_lesser (l : Launch) (hst : l.stackTraces = false) (D : gD) (g0 : gG) (p0 : Int64) (p1 : Int64) (w : gW) (r : (String ⊕ Int64) × gW) (h : f_M_lesser g0 p0 p1 w = some r) : gMet l y_M_lesser (.code y_M_lesser b_M_lesser 4 (some .long)) rm_M_lesser D g0 [.long p0, .long p1] w (goJ r) := by
  refine gw_ofJ (by decide +kernel) (Nat.le_of_ble_eq_true rfl) ?_
  intro p e s m below meth c ls args A Q hx hb hml hown hlocks hin hnt hT hK hZ hA hret hexc hthr hI hl
  obtain ⟨H, hH⟩ : ∃ H, H = s.heap := ⟨_, rfl⟩
  rw [← hH] at hI ⊢
  obtain ⟨locs, hlocs⟩ : ∃ z : List Loc, z = [] := ⟨_, rfl⟩
  rw [← hlocs] at hI ⊢
  have hl : lv_has ls 4 [(0, .long p0), (2, .long p1)] := hl
  unfold f_M_lesser at h
  refine lv_lload_n hx hb d_M_lesser_0 rfl (lv_at hl 0 rfl) ?_
  refine lv_lload_n hx hb d_M_lesser_1 rfl (lv_at hl 1 rfl) ?_
  refine W.lcmp hx hb d_M_lesser_2 ?_
  obtain ⟨K11, eK11, h⟩ := gj h
  have hK11 : ∀ (y1 : Int64) (w : gW) (H : Heap) (locs : List Loc) (ls : Array Slot), K11 y1 w = some r → gI D s A w H locs → lv_has ls 4 [] → W p l e rm_M_lesser s m args below meth c H locs 0 0 Q (F0 m 11 ls [.long y1]) := by
    intro y1 w H locs ls h hI hl
    have h := gk2 eK11 h
    exact W.widen (show 0 ≤ 0 by omega) (show 0 ≤ 0 by omega) (hret _ _ (Option.some.inj h).symm _ _ _ _ d_M_lesser_11 hI)
  refine lv_if_ge (tgt := 10) hx hb d_M_lesser_3 (by decide) (fun c2 => ?_) (fun c2 => ?_)
  · have c2 := (lg_cmp_ge _ _).mp c2
    have h := git c2 h
    refine lv_lload_n hx hb d_M_lesser_10 rfl (lv_at hl 1 rfl) ?_
    exact hK11 _ w H locs ls h hI (lv_sub hl [] rfl)
  · have c2 := mt (lg_cmp_ge _ _).mpr c2
    have h := gie c2 h
    refine lv_lload_n hx hb d_M_lesser_6 rfl (lv_at hl 0 rfl) ?_
    refine lv_goto (tgt := 11) hx hb d_M_lesser_7 (by decide) ?_
    exact hK11 _ w H locs ls h hI (lv_sub hl [] rfl)

abbrev b_M_greater : ByteArray := prog_9_method_45_code
def y_M_greater : MethodName := ⟨"BodySolidsModel", "greater", "(JJ)J"⟩
theorem d_M_greater_0 : decode b_M_greater 0 = .ok (.lload_n 0, 1) := by decide +kernel
theorem d_M_greater_1 : decode b_M_greater 1 = .ok (.lload_n 2, 1) := by decide +kernel
theorem d_M_greater_2 : decode b_M_greater 2 = .ok (.lcmp, 1) := by decide +kernel
theorem d_M_greater_3 : decode b_M_greater 3 = .ok (.ifCond .ge 7, 3) := by decide +kernel
theorem d_M_greater_6 : decode b_M_greater 6 = .ok (.lload_n 2, 1) := by decide +kernel
theorem d_M_greater_7 : decode b_M_greater 7 = .ok (.goto 4, 3) := by decide +kernel
theorem d_M_greater_10 : decode b_M_greater 10 = .ok (.lload_n 0, 1) := by decide +kernel
theorem d_M_greater_11 : decode b_M_greater 11 = .ok (.lreturn, 1) := by decide +kernel
abbrev rm_M_greater : Room := { frames := 0, cells := 0, slots := 0, locals := 0 }
theorem ce_M_greater : gCe y_M_greater (.code y_M_greater b_M_greater 4 (some .long)) 4 2 true := gCe.code wd_1013 wd_57 wd_1012 (by decide) (by decide +kernel)
def f_M_greater (g0 : gG) (p0 : Int64) (p1 : Int64) (w : gW) : gX Int64 := gjoin (fun K11 => if p1 ≤ p0 then (K11 p0 w) else (K11 p1 w)) (fun (y1 : Int64) (w : gW) => some (.inr y1, w))
set_option maxHeartbeats 4000000 in
set_option maxRecDepth 100000 in
theorem m_M_greater (l : Launch) (hst : l.stackTraces = false) (D : gD) (g0 : gG) (p0 : Int64) (p1 : Int64) (w : gW) (r : (String ⊕ Int64) × gW) (h : f_M_greater g0 p0 p1 w = some r) : gMet l y_M_greater (.code y_M_greater b_M_greater 4 (some .long)) rm_M_greater D g0 [.long p0, .long p1] w (goJ r) := by
  refine gw_ofJ (by decide +kernel) (Nat.le_of_ble_eq_true rfl) ?_
  intro p e s m below meth c ls args A Q hx hb hml hown hlocks hin hnt hT hK hZ hA hret hexc hthr hI hl
  obtain ⟨H, hH⟩ : ∃ H, H = s.heap := ⟨_, rfl⟩
  rw [← hH] at hI ⊢
  obtain ⟨locs, hlocs⟩ : ∃ z : List Loc, z = [] := ⟨_, rfl⟩
  rw [← hlocs] at hI ⊢
  have hl : lv_has ls 4 [(0, .long p0), (2, .long p1)] := hl
  unfold f_M_greater at h
  refine lv_lload_n hx hb d_M_greater_0 rfl (lv_at hl 0 rfl) ?_
  refine lv_lload_n hx hb d_M_greater_1 rfl (lv_at hl 1 rfl) ?_
  refine W.lcmp hx hb d_M_greater_2 ?_
  obtain ⟨K11, eK11, h⟩ := gj h
  have hK11 : ∀ (y1 : Int64) (w : gW) (H : Heap) (locs : List Loc) (ls : Array Slot), K11 y1 w = some r → gI D s A w H locs → lv_has ls 4 [] → W p l e rm_M_greater s m args below meth c H locs 0 0 Q (F0 m 11 ls [.long y1]) := by
    intro y1 w H locs ls h hI hl
    have h := gk2 eK11 h
    exact W.widen (show 0 ≤ 0 by omega) (show 0 ≤ 0 by omega) (hret _ _ (Option.some.inj h).symm _ _ _ _ d_M_greater_11 hI)
  refine lv_if_ge (tgt := 10) hx hb d_M_greater_3 (by decide) (fun c2 => ?_) (fun c2 => ?_)
  · have c2 := (lg_cmp_ge _ _).mp c2
    have h := git c2 h
    refine lv_lload_n hx hb d_M_greater_10 rfl (lv_at hl 0 rfl) ?_
    exact hK11 _ w H locs ls h hI (lv_sub hl [] rfl)
  · have c2 := mt (lg_cmp_ge _ _).mpr c2
    have h := gie c2 h
    refine lv_lload_n hx hb d_M_greater_6 rfl (lv_at hl 1 rfl) ?_
    refine lv_goto (tgt := 11) hx hb d_M_greater_7 (by decide) ?_
    exact hK11 _ w H locs ls h hI (lv_sub hl [] rfl)

abbrev b_M_gap : ByteArray := prog_9_method_43_code
def y_M_gap : MethodName := ⟨"BodySolidsModel", "gap", "(JJJJ)J"⟩
theorem d_M_gap_0 : decode b_M_gap 0 = .ok (.lload 4, 2) := by decide +kernel
theorem d_M_gap_2 : decode b_M_gap 2 = .ok (.lload_n 2, 1) := by decide +kernel
theorem d_M_gap_3 : decode b_M_gap 3 = .ok (.lcmp, 1) := by decide +kernel
theorem d_M_gap_4 : decode b_M_gap 4 = .ok (.ifCond .le 10, 3) := by decide +kernel
theorem d_M_gap_7 : decode b_M_gap 7 = .ok (.lload 4, 2) := by decide +kernel
theorem d_M_gap_9 : decode b_M_gap 9 = .ok (.lload_n 2, 1) := by decide +kernel
theorem d_M_gap_10 : decode b_M_gap 10 = .ok (.lsub, 1) := by decide +kernel
theorem d_M_gap_11 : decode b_M_gap 11 = .ok (.goto 18, 3) := by decide +kernel
theorem d_M_gap_14 : decode b_M_gap 14 = .ok (.lload_n 0, 1) := by decide +kernel
theorem d_M_gap_15 : decode b_M_gap 15 = .ok (.lload 6, 2) := by decide +kernel
theorem d_M_gap_17 : decode b_M_gap 17 = .ok (.lcmp, 1) := by decide +kernel
theorem d_M_gap_18 : decode b_M_gap 18 = .ok (.ifCond .le 10, 3) := by decide +kernel
theorem d_M_gap_21 : decode b_M_gap 21 = .ok (.lload_n 0, 1) := by decide +kernel
theorem d_M_gap_22 : decode b_M_gap 22 = .ok (.lload 6, 2) := by decide +kernel
theorem d_M_gap_24 : decode b_M_gap 24 = .ok (.lsub, 1) := by decide +kernel
theorem d_M_gap_25 : decode b_M_gap 25 = .ok (.goto 4, 3) := by decide +kernel
theorem d_M_gap_28 : decode b_M_gap 28 = .ok (.lconst 0, 1) := by decide +kernel
theorem d_M_gap_29 : decode b_M_gap 29 = .ok (.lreturn, 1) := by decide +kernel
abbrev rm_M_gap : Room := { frames := 0, cells := 0, slots := 0, locals := 0 }
theorem ce_M_gap : gCe y_M_gap (.code y_M_gap b_M_gap 8 (some .long)) 8 4 true := gCe.code wd_1020 wd_57 wd_1019 (by decide) (by decide +kernel)
def f_M_gap (g0 : gG) (p0 : Int64) (p1 : Int64) (p2 : Int64) (p3 : Int64) (w : gW) : gX Int64 := gjoin (fun K29 => if p2 ≤ p1 then (if p0 ≤ p3 then (K29 0 w) else (K29 (p0 - p3) w)) else (K29 (p2 - p1) w)) (fun (y1 : Int64) (w : gW) => some (.inr y1, w))
set_option maxHeartbeats 4000000 in
set_option maxRecDepth 100000 in
theorem m_M_gap (l : Launch) (hst : l.stackTraces = false) (D : gD) (g0 : gG) (p0 : Int64) (p1 : Int64) (p2 : Int64) (p3 : Int64) (w : gW) (r : (String ⊕ Int64) × gW) (h : f_M_gap g0 p0 p1 p2 p3 w = some r) : gMet l y_M_gap (.code y_M_gap b_M_gap 8 (some .long)) rm_M_gap D g0 [.long p0, .long p1, .long p2, .long p3] w (goJ r) := by
  refine gw_ofJ (by decide +kernel) (Nat.le_of_ble_eq_true rfl) ?_
  intro p e s m below meth c ls args A Q hx hb hml hown hlocks hin hnt hT hK hZ hA hret hexc hthr hI hl
  obtain ⟨H, hH⟩ : ∃ H, H = s.heap := ⟨_, rfl⟩
  rw [← hH] at hI ⊢
  obtain ⟨locs, hlocs⟩ : ∃ z : List Loc, z = [] := ⟨_, rfl⟩
  rw [← hlocs] at hI ⊢
  have hl : lv_has ls 8 [(0, .long p0), (2, .long p1), (4, .long p2), (6, .long p3)] := hl
  unfold f_M_gap at h
  refine lv_lload hx hb d_M_gap_0 (lv_at hl 2 rfl) ?_
  refine lv_lload_n hx hb d_M_gap_2 rfl (lv_at hl 1 rfl) ?_
  refine W.lcmp hx hb d_M_gap_3 ?_
  obtain ⟨K29, eK29, h⟩ := gj h
  have hK29 : ∀ (y1 : Int64) (w : gW) (H : Heap) (locs : List Loc) (ls : Array Slot), K29 y1 w = some r → gI D s A w H locs → lv_has ls 8 [] → W p l e rm_M_gap s m args below meth c H locs 0 0 Q (F0 m 29 ls [.long y1]) := by
    intro y1 w H locs ls h hI hl
    have h := gk2 eK29 h
    exact W.widen (show 0 ≤ 0 by omega) (show 0 ≤ 0 by omega) (hret _ _ (Option.some.inj h).symm _ _ _ _ d_M_gap_29 hI)
  refine lv_if_le (tgt := 14) hx hb d_M_gap_4 (by decide) (fun c2 => ?_) (fun c2 => ?_)
  · have c2 := (lg_cmp_le _ _).mp c2
    have h := git c2 h
    refine lv_lload_n hx hb d_M_gap_14 rfl (lv_at hl 0 rfl) ?_
    refine lv_lload hx hb d_M_gap_15 (lv_at hl 3 rfl) ?_
    refine W.lcmp hx hb d_M_gap_17 ?_
    refine lv_if_le (tgt := 28) hx hb d_M_gap_18 (by decide) (fun c3 => ?_) (fun c3 => ?_)
    · have c3 := (lg_cmp_le _ _).mp c3
      have h := git c3 h
      refine lv_lconst (v := 0) hx hb d_M_gap_28 (by decide) ?_
      exact hK29 _ w H locs ls h hI (lv_sub hl [] rfl)
    · have c3 := mt (lg_cmp_le _ _).mpr c3
      have h := gie c3 h
      refine lv_lload_n hx hb d_M_gap_21 rfl (lv_at hl 0 rfl) ?_
      refine lv_lload hx hb d_M_gap_22 (lv_at hl 3 rfl) ?_
      refine lv_lsub hx hb d_M_gap_24 ?_
      refine lv_goto (tgt := 29) hx hb d_M_gap_25 (by decide) ?_
      exact hK29 _ w H locs ls h hI (lv_sub hl [] rfl)
  · have c2 := mt (lg_cmp_le _ _).mpr c2
    have h := gie c2 h
    refine lv_lload hx hb d_M_gap_7 (lv_at hl 2 rfl) ?_
    refine lv_lload_n hx hb d_M_gap_9 rfl (lv_at hl 1 rfl) ?_
    refine lv_lsub hx hb d_M_gap_10 ?_
    refine lv_goto (tgt := 29) hx hb d_M_gap_11 (by decide) ?_
    exact hK29 _ w H locs ls h hI (lv_sub hl [] rfl)

abbrev b_M_heightGap : ByteArray := prog_9_method_46_code
def y_M_heightGap : MethodName := ⟨"BodySolidsModel", "heightGap", "()J"⟩
theorem d_M_heightGap_0 : decode b_M_heightGap 0 = .ok (.aload_n 0, 1) := by decide +kernel
theorem d_M_heightGap_1 : decode b_M_heightGap 1 = .ok (.getfield 68, 3) := by decide +kernel
theorem d_M_heightGap_4 : decode b_M_heightGap 4 = .ok (.iconst 0, 1) := by decide +kernel
theorem d_M_heightGap_5 : decode b_M_heightGap 5 = .ok (.laload, 1) := by decide +kernel
theorem d_M_heightGap_6 : decode b_M_heightGap 6 = .ok (.aload_n 0, 1) := by decide +kernel
theorem d_M_heightGap_7 : decode b_M_heightGap 7 = .ok (.getfield 71, 3) := by decide +kernel
theorem d_M_heightGap_10 : decode b_M_heightGap 10 = .ok (.iconst 0, 1) := by decide +kernel
theorem d_M_heightGap_11 : decode b_M_heightGap 11 = .ok (.laload, 1) := by decide +kernel
theorem d_M_heightGap_12 : decode b_M_heightGap 12 = .ok (.aload_n 0, 1) := by decide +kernel
theorem d_M_heightGap_13 : decode b_M_heightGap 13 = .ok (.getfield 68, 3) := by decide +kernel
theorem d_M_heightGap_16 : decode b_M_heightGap 16 = .ok (.iconst 1, 1) := by decide +kernel
theorem d_M_heightGap_17 : decode b_M_heightGap 17 = .ok (.laload, 1) := by decide +kernel
theorem d_M_heightGap_18 : decode b_M_heightGap 18 = .ok (.aload_n 0, 1) := by decide +kernel
theorem d_M_heightGap_19 : decode b_M_heightGap 19 = .ok (.getfield 71, 3) := by decide +kernel
theorem d_M_heightGap_22 : decode b_M_heightGap 22 = .ok (.iconst 1, 1) := by decide +kernel
theorem d_M_heightGap_23 : decode b_M_heightGap 23 = .ok (.laload, 1) := by decide +kernel
theorem d_M_heightGap_24 : decode b_M_heightGap 24 = .ok (.invokestatic 215, 3) := by decide +kernel
theorem d_M_heightGap_27 : decode b_M_heightGap 27 = .ok (.lreturn, 1) := by decide +kernel
abbrev rm_M_heightGap : Room := { frames := 1, cells := 0, slots := 0, locals := 27 }
theorem ce_M_heightGap : gCe y_M_heightGap (.code y_M_heightGap b_M_heightGap 1 (some .long)) 1 0 false := gCe.code wd_1017 wd_57 wd_1016 (by decide) (by decide +kernel)
def f_M_heightGap (g0 : gG) (a0 : Nat) (w : gW) : gX Int64 := (gfA w a0 7 25).bind fun v1 => (gaJ w v1 0).bind fun v3 => (gfA w a0 7 26).bind fun v5 => (gaJ w v5 0).bind fun v7 => (gfA w a0 7 25).bind fun v9 => (gaJ w v9 1).bind fun v11 => (gfA w a0 7 26).bind fun v13 => (gaJ w v13 1).bind fun v15 => gbind (f_M_gap g0 v3 v7 v11 v15 w) fun v19 w => some (.inr v19, w)
set_option maxHeartbeats 4000000 in
set_option maxRecDepth 100000 in
theorem m_M_heightGap (l : Launch) (hst : l.stackTraces = false) (D : gD) (g0 : gG) (a0 : Nat) (w : gW) (r : (String ⊕ Int64) × gW) (h : f_M_heightGap g0 a0 w = some r) : gMet l y_M_heightGap (.code y_M_heightGap b_M_heightGap 1 (some .long)) rm_M_heightGap D g0 [.ref a0] w (goJ r) := by
  refine gw_ofJ (by decide +kernel) (Nat.le_of_ble_eq_true rfl) ?_
  intro p e s m below meth c ls args A Q hx hb hml hown hlocks hin hnt hT hK hZ hA hret hexc hthr hI hl
  obtain ⟨H, hH⟩ : ∃ H, H = s.heap := ⟨_, rfl⟩
  rw [← hH] at hI ⊢
  obtain ⟨locs, hlocs⟩ : ∃ z : List Loc, z = [] := ⟨_, rfl⟩
  rw [← hlocs] at hI ⊢
  have hl : lv_has ls 1 [(0, .ref a0)] := hl
  unfold f_M_heightGap at h
  refine lv_aload_n hx hb d_M_heightGap_0 rfl (lv_at hl 0 rfl) ?_
  obtain ⟨v1, e2, h⟩ := gb h
  refine gw_getA hx hb hT hown hK hI (ci := 7) rfl i_7 25 (by decide) wd_811 (fun _ h9 => h9) e2 d_M_heightGap_1 ?_
  refine lv_iconst (v := 0) hx hb d_M_heightGap_4 (by decide) ?_
  obtain ⟨v3, e4, h⟩ := gb h
  refine gw_aldJ hx hb hK hI e4 d_M_heightGap_5 ?_
  refine lv_aload_n hx hb d_M_heightGap_6 rfl (lv_at hl 0 rfl) ?_
  obtain ⟨v5, e6, h⟩ := gb h
  refine gw_getA hx hb hT hown hK hI (ci := 7) rfl i_7 26 (by decide) wd_812 (fun _ h9 => h9) e6 d_M_heightGap_7 ?_
  refine lv_iconst (v := 0) hx hb d_M_heightGap_10 (by decide) ?_
  obtain ⟨v7, e8, h⟩ := gb h
  refine gw_aldJ hx hb hK hI e8 d_M_heightGap_11 ?_
  refine lv_aload_n hx hb d_M_heightGap_12 rfl (lv_at hl 0 rfl) ?_
  obtain ⟨v9, e10, h⟩ := gb h
  refine gw_getA hx hb hT hown hK hI (ci := 7) rfl i_7 25 (by decide) wd_811 (fun _ h9 => h9) e10 d_M_heightGap_13 ?_
  refine lv_iconst (v := 1) hx hb d_M_heightGap_16 (by decide) ?_
  obtain ⟨v11, e12, h⟩ := gb h
  refine gw_aldJ hx hb hK hI e12 d_M_heightGap_17 ?_
  refine lv_aload_n hx hb d_M_heightGap_18 rfl (lv_at hl 0 rfl) ?_
  obtain ⟨v13, e14, h⟩ := gb h
  refine gw_getA hx hb hT hown hK hI (ci := 7) rfl i_7 26 (by decide) wd_812 (fun _ h9 => h9) e14 d_M_heightGap_19 ?_
  refine lv_iconst (v := 1) hx hb d_M_heightGap_22 (by decide) ?_
  obtain ⟨v15, e16, h⟩ := gb h
  refine gw_aldJ hx hb hK hI e16 d_M_heightGap_23 ?_
  obtain ⟨u17, e18⟩ := gsome h
  refine gw_callJ e18 h (gw_runS (As := [.long v3, .long v7, .long v11, .long v15]) (rest := []) hx hb hml hown hT hK hZ hA hI (m_M_gap l hst D g0 v3 v7 v11 v15 w u17 e18) ce_M_gap wd_1018 ⟨by decide, by decide⟩ rfl rfl hl.1 rfl (lv_room (Nat.le_of_ble_eq_true rfl)) d_M_heightGap_24 ⟨(show 0 + 0 ≤ 0 by omega), (show 0 + 0 ≤ 0 by omega)⟩) hI hA hexc (show 0 + 0 ≤ 0 by omega) (show 0 + 0 ≤ 0 by omega) (fun v19 w H locs h hI => ?_)
  exact W.widen (show 0 ≤ 0 by omega) (show 0 ≤ 0 by omega) (hret _ _ (Option.some.inj h).symm _ _ _ _ d_M_heightGap_27 hI)

abbrev b_M_coreGap : ByteArray := prog_9_method_47_code
def y_M_coreGap : MethodName := ⟨"BodySolidsModel", "coreGap", "(IZJJ)J"⟩
theorem d_M_coreGap_0 : decode b_M_coreGap 0 = .ok (.iload_n 2, 1) := by decide +kernel
theorem d_M_coreGap_1 : decode b_M_coreGap 1 = .ok (.ifCond .eq 15, 3) := by decide +kernel
theorem d_M_coreGap_4 : decode b_M_coreGap 4 = .ok (.aload_n 0, 1) := by decide +kernel
theorem d_M_coreGap_5 : decode b_M_coreGap 5 = .ok (.getfield 59, 3) := by decide +kernel
theorem d_M_coreGap_8 : decode b_M_coreGap 8 = .ok (.bipush 8, 2) := by decide +kernel
theorem d_M_coreGap_10 : decode b_M_coreGap 10 = .ok (.iload_n 1, 1) := by decide +kernel
theorem d_M_coreGap_11 : decode b_M_coreGap 11 = .ok (.imul, 1) := by decide +kernel
theorem d_M_coreGap_12 : decode b_M_coreGap 12 = .ok (.laload, 1) := by decide +kernel
theorem d_M_coreGap_13 : decode b_M_coreGap 13 = .ok (.goto 12, 3) := by decide +kernel
theorem d_M_coreGap_16 : decode b_M_coreGap 16 = .ok (.aload_n 0, 1) := by decide +kernel
theorem d_M_coreGap_17 : decode b_M_coreGap 17 = .ok (.getfield 62, 3) := by decide +kernel
theorem d_M_coreGap_20 : decode b_M_coreGap 20 = .ok (.bipush 8, 2) := by decide +kernel
theorem d_M_coreGap_22 : decode b_M_coreGap 22 = .ok (.iload_n 1, 1) := by decide +kernel
theorem d_M_coreGap_23 : decode b_M_coreGap 23 = .ok (.imul, 1) := by decide +kernel
theorem d_M_coreGap_24 : decode b_M_coreGap 24 = .ok (.laload, 1) := by decide +kernel
theorem d_M_coreGap_25 : decode b_M_coreGap 25 = .ok (.lstore 7, 2) := by decide +kernel
theorem d_M_coreGap_27 : decode b_M_coreGap 27 = .ok (.iload_n 2, 1) := by decide +kernel
theorem d_M_coreGap_28 : decode b_M_coreGap 28 = .ok (.ifCond .eq 17, 3) := by decide +kernel
theorem d_M_coreGap_31 : decode b_M_coreGap 31 = .ok (.aload_n 0, 1) := by decide +kernel
theorem d_M_coreGap_32 : decode b_M_coreGap 32 = .ok (.getfield 59, 3) := by decide +kernel
theorem d_M_coreGap_35 : decode b_M_coreGap 35 = .ok (.bipush 8, 2) := by decide +kernel
theorem d_M_coreGap_37 : decode b_M_coreGap 37 = .ok (.iload_n 1, 1) := by decide +kernel
theorem d_M_coreGap_38 : decode b_M_coreGap 38 = .ok (.imul, 1) := by decide +kernel
theorem d_M_coreGap_39 : decode b_M_coreGap 39 = .ok (.iconst 1, 1) := by decide +kernel
theorem d_M_coreGap_40 : decode b_M_coreGap 40 = .ok (.iadd, 1) := by decide +kernel
theorem d_M_coreGap_41 : decode b_M_coreGap 41 = .ok (.laload, 1) := by decide +kernel
theorem d_M_coreGap_42 : decode b_M_coreGap 42 = .ok (.goto 14, 3) := by decide +kernel
theorem d_M_coreGap_45 : decode b_M_coreGap 45 = .ok (.aload_n 0, 1) := by decide +kernel
theorem d_M_coreGap_46 : decode b_M_coreGap 46 = .ok (.getfield 62, 3) := by decide +kernel
theorem d_M_coreGap_49 : decode b_M_coreGap 49 = .ok (.bipush 8, 2) := by decide +kernel
theorem d_M_coreGap_51 : decode b_M_coreGap 51 = .ok (.iload_n 1, 1) := by decide +kernel
theorem d_M_coreGap_52 : decode b_M_coreGap 52 = .ok (.imul, 1) := by decide +kernel
theorem d_M_coreGap_53 : decode b_M_coreGap 53 = .ok (.iconst 1, 1) := by decide +kernel
theorem d_M_coreGap_54 : decode b_M_coreGap 54 = .ok (.iadd, 1) := by decide +kernel
theorem d_M_coreGap_55 : decode b_M_coreGap 55 = .ok (.laload, 1) := by decide +kernel
theorem d_M_coreGap_56 : decode b_M_coreGap 56 = .ok (.lstore 9, 2) := by decide +kernel
theorem d_M_coreGap_58 : decode b_M_coreGap 58 = .ok (.lload 7, 2) := by decide +kernel
theorem d_M_coreGap_60 : decode b_M_coreGap 60 = .ok (.lload 9, 2) := by decide +kernel
theorem d_M_coreGap_62 : decode b_M_coreGap 62 = .ok (.invokestatic 219, 3) := by decide +kernel
theorem d_M_coreGap_65 : decode b_M_coreGap 65 = .ok (.lload 7, 2) := by decide +kernel
theorem d_M_coreGap_67 : decode b_M_coreGap 67 = .ok (.lload 9, 2) := by decide +kernel
theorem d_M_coreGap_69 : decode b_M_coreGap 69 = .ok (.invokestatic 222, 3) := by decide +kernel
theorem d_M_coreGap_72 : decode b_M_coreGap 72 = .ok (.lload_n 3, 1) := by decide +kernel
theorem d_M_coreGap_73 : decode b_M_coreGap 73 = .ok (.lload 5, 2) := by decide +kernel
theorem d_M_coreGap_75 : decode b_M_coreGap 75 = .ok (.invokestatic 215, 3) := by decide +kernel
theorem d_M_coreGap_78 : decode b_M_coreGap 78 = .ok (.lreturn, 1) := by decide +kernel
abbrev rm_M_coreGap : Room := { frames := 1, cells := 0, slots := 0, locals := 27 }
theorem ce_M_coreGap : gCe y_M_coreGap (.code y_M_coreGap b_M_coreGap 11 (some .long)) 11 4 false := gCe.code wd_1024 wd_57 wd_1023 (by decide) (by decide +kernel)
def f_M_coreGap (g0 : gG) (a0 : Nat) (p1 : Int32) (p2 : Int32) (p3 : Int64) (p4 : Int64) (w : gW) : gX Int64 := gjoin (fun K25 => if p2 = 0 then ((gfA w a0 7 23).bind fun v22 => (gaJ w v22 (8 * p1)).bind fun v24 => K25 v24 w) else ((gfA w a0 7 22).bind fun v26 => (gaJ w v26 (8 * p1)).bind fun v28 => K25 v28 w)) (fun (y1 : Int64) (w : gW) => gjoin (fun K56 => if p2 = 0 then ((gfA w a0 7 23).bind fun v13 => (gaJ w v13 ((8 * p1) + 1)).bind fun v15 => K56 v15 w) else ((gfA w a0 7 22).bind fun v17 => (gaJ w v17 ((8 * p1) + 1)).bind fun v19 => K56 v19 w)) (fun (y2 : Int64) (w : gW) => gbind (f_M_lesser g0 y1 y2 w) fun v5 w => gbind (f_M_greater g0 y1 y2 w) fun v8 w => gbind (f_M_gap g0 v5 v8 p3 p4 w) fun v11 w => some (.inr v11, w)))
set_option maxHeartbeats 4000000 in
set_option maxRecDepth 100000 in
theorem m_M_coreGap (l : Launch) (hst : l.stackTraces = false) (D : gD) (g0 : gG) (a0 : Nat) (p1 : Int32) (p2 : Int32) (p3 : Int64) (p4 : Int64) (w : gW) (r : (String ⊕ Int64) × gW) (h : f_M_coreGap g0 a0 p1 p2 p3 p4 w = some r) : gMet l y_M_coreGap (.code y_M_coreGap b_M_coreGap 11 (some .long)) rm_M_coreGap D g0 [.ref a0, .int p1, .int p2, .long p3, .long p4] w (goJ r) := by
  refine gw_ofJ (by decide +kernel) (Nat.le_of_ble_eq_true rfl) ?_
  intro p e s m below meth c ls args A Q hx hb hml hown hlocks hin hnt hT hK hZ hA hret hexc hthr hI hl
  obtain ⟨H, hH⟩ : ∃ H, H = s.heap := ⟨_, rfl⟩
  rw [← hH] at hI ⊢
  obtain ⟨locs, hlocs⟩ : ∃ z : List Loc, z = [] := ⟨_, rfl⟩
  rw [← hlocs] at hI ⊢
  have hl : lv_has ls 11 [(0, .ref a0), (1, .int p1), (2, .int p2), (3, .long p3), (5, .long p4)] := hl
  unfold f_M_coreGap at h
  refine lv_iload_n hx hb d_M_coreGap_0 rfl (lv_at hl 2 rfl) ?_
  obtain ⟨K25, eK25, h⟩ := gj h
  have hK25 : ∀ (y1 : Int64) (w : gW) (H : Heap) (locs : List Loc) (ls : Array Slot), K25 y1 w = some r → gI D s A w H locs → lv_has ls 11 [(0, .ref a0), (1, .int p1), (2, .int p2), (3, .long p3), (5, .long p4)] → W p l e rm_M_coreGap s m args below meth c H locs 0 0 Q (F0 m 25 ls [.long y1]) := by
    intro y1 w H locs ls h hI hl
    have h := gk2 eK25 h
    refine lv_lstore (lv' := [(7, .long y1), (0, .ref a0), (1, .int p1), (2, .int p2), (3, .long p3), (5, .long p4)]) hx hb d_M_coreGap_25 hl (by decide) rfl (fun ls hl => ?_)
    refine lv_iload_n hx hb d_M_coreGap_27 rfl (lv_at hl 3 rfl) ?_
    obtain ⟨K56, eK56, h⟩ := gj h
    have hK56 : ∀ (y2 : Int64) (w : gW) (H : Heap) (locs : List Loc) (ls : Array Slot), K56 y2 w = some r → gI D s A w H locs → lv_has ls 11 [(3, .long p3), (5, .long p4), (7, .long y1)] → W p l e rm_M_coreGap s m args below meth c H locs 0 0 Q (F0 m 56 ls [.long y2]) := by
      intro y2 w H locs ls h hI hl
      have h := gk2 eK56 h
      refine lv_lstore (lv' := [(9, .long y2), (3, .long p3), (5, .long p4), (7, .long y1)]) hx hb d_M_coreGap_56 hl (by decide) rfl (fun ls hl => ?_)
      refine lv_lload hx hb d_M_coreGap_58 (lv_at hl 3 rfl) ?_
      refine lv_lload hx hb d_M_coreGap_60 (lv_at hl 0 rfl) ?_
      obtain ⟨u3, e4⟩ := gsome h
      refine gw_callJ e4 h (gw_runS (As := [.long y1, .long y2]) (rest := []) hx hb hml hown hT hK hZ hA hI (m_M_lesser l hst D g0 y1 y2 w u3 e4) ce_M_lesser wd_1008 ⟨by decide, by decide⟩ rfl rfl hl.1 rfl (lv_room (Nat.le_of_ble_eq_true rfl)) d_M_coreGap_62 ⟨(show 0 + 0 ≤ 0 by omega), (show 0 + 0 ≤ 0 by omega)⟩) hI hA hexc (show 0 + 0 ≤ 0 by omega) (show 0 + 0 ≤ 0 by omega) (fun v5 w H locs h hI => ?_)
      refine lv_lload hx hb d_M_coreGap_65 (lv_at hl 3 rfl) ?_
      refine lv_lload hx hb d_M_coreGap_67 (lv_at hl 0 rfl) ?_
      obtain ⟨u6, e7⟩ := gsome h
      refine gw_callJ e7 h (gw_runS (As := [.long y1, .long y2]) (rest := [.long v5]) hx hb hml hown hT hK hZ hA hI (m_M_greater l hst D g0 y1 y2 w u6 e7) ce_M_greater wd_1011 ⟨by decide, by decide⟩ rfl rfl hl.1 rfl (lv_room (Nat.le_of_ble_eq_true rfl)) d_M_coreGap_69 ⟨(show 0 + 0 ≤ 0 by omega), (show 0 + 0 ≤ 0 by omega)⟩) hI hA hexc (show 0 + 0 ≤ 0 by omega) (show 0 + 0 ≤ 0 by omega) (fun v8 w H locs h hI => ?_)
      refine lv_lload_n hx hb d_M_coreGap_72 rfl (lv_at hl 1 rfl) ?_
      refine lv_lload hx hb d_M_coreGap_73 (lv_at hl 2 rfl) ?_
      obtain ⟨u9, e10⟩ := gsome h
      refine gw_callJ e10 h (gw_runS (As := [.long v5, .long v8, .long p3, .long p4]) (rest := []) hx hb hml hown hT hK hZ hA hI (m_M_gap l hst D g0 v5 v8 p3 p4 w u9 e10) ce_M_gap wd_1018 ⟨by decide, by decide⟩ rfl rfl hl.1 rfl (lv_room (Nat.le_of_ble_eq_true rfl)) d_M_coreGap_75 ⟨(show 0 + 0 ≤ 0 by omega), (show 0 + 0 ≤ 0 by omega)⟩) hI hA hexc (show 0 + 0 ≤ 0 by omega) (show 0 + 0 ≤ 0 by omega) (fun v11 w H locs h hI => ?_)
      exact W.widen (show 0 ≤ 0 by omega) (show 0 ≤ 0 by omega) (hret _ _ (Option.some.inj h).symm _ _ _ _ d_M_coreGap_78 hI)
    refine lv_if_eq (tgt := 45) hx hb d_M_coreGap_28 (by decide) (fun c12 => ?_) (fun c12 => ?_)
    · skip
      have h := git c12 h
      refine lv_aload_n hx hb d_M_coreGap_45 rfl (lv_at hl 1 rfl) ?_
      obtain ⟨v13, e14, h⟩ := gb h
      refine gw_getA hx hb hT hown hK hI (ci := 7) rfl i_7 23 (by decide) wd_809 (fun _ h9 => h9) e14 d_M_coreGap_46 ?_
      refine lv_bipush (v := 8) hx hb d_M_coreGap_49 (by decide) ?_
      refine lv_iload_n hx hb d_M_coreGap_51 rfl (lv_at hl 2 rfl) ?_
      refine lv_imul hx hb d_M_coreGap_52 ?_
      refine lv_iconst (v := 1) hx hb d_M_coreGap_53 (by decide) ?_
      refine lv_iadd hx hb d_M_coreGap_54 ?_
      obtain ⟨v15, e16, h⟩ := gb h
      refine gw_aldJ hx hb hK hI e16 d_M_coreGap_55 ?_
      exact hK56 _ w H locs ls h hI (lv_sub hl [4, 5, 0] rfl)
    · skip
      have h := gie c12 h
      refine lv_aload_n hx hb d_M_coreGap_31 rfl (lv_at hl 1 rfl) ?_
      obtain ⟨v17, e18, h⟩ := gb h
      refine gw_getA hx hb hT hown hK hI (ci := 7) rfl i_7 22 (by decide) wd_808 (fun _ h9 => h9) e18 d_M_coreGap_32 ?_
      refine lv_bipush (v := 8) hx hb d_M_coreGap_35 (by decide) ?_
      refine lv_iload_n hx hb d_M_coreGap_37 rfl (lv_at hl 2 rfl) ?_
      refine lv_imul hx hb d_M_coreGap_38 ?_
      refine lv_iconst (v := 1) hx hb d_M_coreGap_39 (by decide) ?_
      refine lv_iadd hx hb d_M_coreGap_40 ?_
      obtain ⟨v19, e20, h⟩ := gb h
      refine gw_aldJ hx hb hK hI e20 d_M_coreGap_41 ?_
      refine lv_goto (tgt := 56) hx hb d_M_coreGap_42 (by decide) ?_
      exact hK56 _ w H locs ls h hI (lv_sub hl [4, 5, 0] rfl)
  refine lv_if_eq (tgt := 16) hx hb d_M_coreGap_1 (by decide) (fun c21 => ?_) (fun c21 => ?_)
  · skip
    have h := git c21 h
    refine lv_aload_n hx hb d_M_coreGap_16 rfl (lv_at hl 0 rfl) ?_
    obtain ⟨v22, e23, h⟩ := gb h
    refine gw_getA hx hb hT hown hK hI (ci := 7) rfl i_7 23 (by decide) wd_809 (fun _ h9 => h9) e23 d_M_coreGap_17 ?_
    refine lv_bipush (v := 8) hx hb d_M_coreGap_20 (by decide) ?_
    refine lv_iload_n hx hb d_M_coreGap_22 rfl (lv_at hl 1 rfl) ?_
    refine lv_imul hx hb d_M_coreGap_23 ?_
    obtain ⟨v24, e25, h⟩ := gb h
    refine gw_aldJ hx hb hK hI e25 d_M_coreGap_24 ?_
    exact hK25 _ w H locs ls h hI (lv_sub hl [0, 1, 2, 3, 4] rfl)
  · skip
    have h := gie c21 h
    refine lv_aload_n hx hb d_M_coreGap_4 rfl (lv_at hl 0 rfl) ?_
    obtain ⟨v26, e27, h⟩ := gb h
    refine gw_getA hx hb hT hown hK hI (ci := 7) rfl i_7 22 (by decide) wd_808 (fun _ h9 => h9) e27 d_M_coreGap_5 ?_
    refine lv_bipush (v := 8) hx hb d_M_coreGap_8 (by decide) ?_
    refine lv_iload_n hx hb d_M_coreGap_10 rfl (lv_at hl 1 rfl) ?_
    refine lv_imul hx hb d_M_coreGap_11 ?_
    obtain ⟨v28, e29, h⟩ := gb h
    refine gw_aldJ hx hb hK hI e29 d_M_coreGap_12 ?_
    refine lv_goto (tgt := 25) hx hb d_M_coreGap_13 (by decide) ?_
    exact hK25 _ w H locs ls h hI (lv_sub hl [0, 1, 2, 3, 4] rfl)

abbrev b_M_square : ByteArray := prog_9_method_35_code
def y_M_square : MethodName := ⟨"BodySolidsModel", "square", "(JJ)J"⟩
theorem d_M_square_0 : decode b_M_square 0 = .ok (.lload_n 0, 1) := by decide +kernel
theorem d_M_square_1 : decode b_M_square 1 = .ok (.lload_n 0, 1) := by decide +kernel
theorem d_M_square_2 : decode b_M_square 2 = .ok (.lmul, 1) := by decide +kernel
theorem d_M_square_3 : decode b_M_square 3 = .ok (.lload_n 2, 1) := by decide +kernel
theorem d_M_square_4 : decode b_M_square 4 = .ok (.lload_n 2, 1) := by decide +kernel
theorem d_M_square_5 : decode b_M_square 5 = .ok (.lmul, 1) := by decide +kernel
theorem d_M_square_6 : decode b_M_square 6 = .ok (.ladd, 1) := by decide +kernel
theorem d_M_square_7 : decode b_M_square 7 = .ok (.lreturn, 1) := by decide +kernel
abbrev rm_M_square : Room := { frames := 0, cells := 0, slots := 0, locals := 0 }
theorem ce_M_square : gCe y_M_square (.code y_M_square b_M_square 4 (some .long)) 4 2 true := gCe.code wd_1027 wd_57 wd_1026 (by decide) (by decide +kernel)
def f_M_square (g0 : gG) (p0 : Int64) (p1 : Int64) (w : gW) : gX Int64 := some (.inr ((p0 * p0) + (p1 * p1)), w)
set_option maxHeartbeats 4000000 in
set_option maxRecDepth 100000 in
theorem m_M_square (l : Launch) (hst : l.stackTraces = false) (D : gD) (g0 : gG) (p0 : Int64) (p1 : Int64) (w : gW) (r : (String ⊕ Int64) × gW) (h : f_M_square g0 p0 p1 w = some r) : gMet l y_M_square (.code y_M_square b_M_square 4 (some .long)) rm_M_square D g0 [.long p0, .long p1] w (goJ r) := by
  refine gw_ofJ (by decide +kernel) (Nat.le_of_ble_eq_true rfl) ?_
  intro p e s m below meth c ls args A Q hx hb hml hown hlocks hin hnt hT hK hZ hA hret hexc hthr hI hl
  obtain ⟨H, hH⟩ : ∃ H, H = s.heap := ⟨_, rfl⟩
  rw [← hH] at hI ⊢
  obtain ⟨locs, hlocs⟩ : ∃ z : List Loc, z = [] := ⟨_, rfl⟩
  rw [← hlocs] at hI ⊢
  have hl : lv_has ls 4 [(0, .long p0), (2, .long p1)] := hl
  unfold f_M_square at h
  refine lv_lload_n hx hb d_M_square_0 rfl (lv_at hl 0 rfl) ?_
  refine lv_lload_n hx hb d_M_square_1 rfl (lv_at hl 0 rfl) ?_
  refine lv_lmul hx hb d_M_square_2 ?_
  refine lv_lload_n hx hb d_M_square_3 rfl (lv_at hl 1 rfl) ?_
  refine lv_lload_n hx hb d_M_square_4 rfl (lv_at hl 1 rfl) ?_
  refine lv_lmul hx hb d_M_square_5 ?_
  refine lv_ladd hx hb d_M_square_6 ?_
  exact W.widen (show 0 ≤ 0 by omega) (show 0 ≤ 0 by omega) (hret _ _ (Option.some.inj h).symm _ _ _ _ d_M_square_7 hI)

abbrev b_M_common : ByteArray := prog_9_method_34_code
def y_M_common : MethodName := ⟨"BodySolidsModel", "common", "(J)I"⟩
theorem d_M_common_0 : decode b_M_common 0 = .ok (.lload_n 0, 1) := by decide +kernel
theorem d_M_common_1 : decode b_M_common 1 = .ok (.lconst 0, 1) := by decide +kernel
theorem d_M_common_2 : decode b_M_common 2 = .ok (.lcmp, 1) := by decide +kernel
theorem d_M_common_3 : decode b_M_common 3 = .ok (.ifCond .ge 7, 3) := by decide +kernel
theorem d_M_common_6 : decode b_M_common 6 = .ok (.iconst 2, 1) := by decide +kernel
theorem d_M_common_7 : decode b_M_common 7 = .ok (.goto 14, 3) := by decide +kernel
theorem d_M_common_10 : decode b_M_common 10 = .ok (.lload_n 0, 1) := by decide +kernel
theorem d_M_common_11 : decode b_M_common 11 = .ok (.lconst 0, 1) := by decide +kernel
theorem d_M_common_12 : decode b_M_common 12 = .ok (.lcmp, 1) := by decide +kernel
theorem d_M_common_13 : decode b_M_common 13 = .ok (.ifCond .ne 7, 3) := by decide +kernel
theorem d_M_common_16 : decode b_M_common 16 = .ok (.iconst 1, 1) := by decide +kernel
theorem d_M_common_17 : decode b_M_common 17 = .ok (.goto 4, 3) := by decide +kernel
theorem d_M_common_20 : decode b_M_common 20 = .ok (.iconst 0, 1) := by decide +kernel
theorem d_M_common_21 : decode b_M_common 21 = .ok (.ireturn, 1) := by decide +kernel
abbrev rm_M_common : Room := { frames := 0, cells := 0, slots := 0, locals := 0 }
theorem ce_M_common : gCe y_M_common (.code y_M_common b_M_common 2 (some .int)) 2 1 true := gCe.code wd_1030 wd_57 wd_1029 (by decide) (by decide +kernel)
def f_M_common (g0 : gG) (p0 : Int64) (w : gW) : gX Int32 := gjoin (fun K21 => if 0 ≤ p0 then (if p0 = 0 then (K21 1 w) else (K21 0 w)) else (K21 2 w)) (fun (y1 : Int32) (w : gW) => some (.inr y1, w))
set_option maxHeartbeats 4000000 in
set_option maxRecDepth 100000 in
theorem m_M_common (l : Launch) (hst : l.stackTraces = false) (D : gD) (g0 : gG) (p0 : Int64) (w : gW) (r : (String ⊕ Int32) × gW) (h : f_M_common g0 p0 w = some r) : gMet l y_M_common (.code y_M_common b_M_common 2 (some .int)) rm_M_common D g0 [.long p0] w (goI r) := by
  refine gw_ofI (by decide +kernel) (Nat.le_of_ble_eq_true rfl) ?_
  intro p e s m below meth c ls args A Q hx hb hml hown hlocks hin hnt hT hK hZ hA hret hexc hthr hI hl
  obtain ⟨H, hH⟩ : ∃ H, H = s.heap := ⟨_, rfl⟩
  rw [← hH] at hI ⊢
  obtain ⟨locs, hlocs⟩ : ∃ z : List Loc, z = [] := ⟨_, rfl⟩
  rw [← hlocs] at hI ⊢
  have hl : lv_has ls 2 [(0, .long p0)] := hl
  unfold f_M_common at h
  refine lv_lload_n hx hb d_M_common_0 rfl (lv_at hl 0 rfl) ?_
  refine lv_lconst (v := 0) hx hb d_M_common_1 (by decide) ?_
  refine W.lcmp hx hb d_M_common_2 ?_
  obtain ⟨K21, eK21, h⟩ := gj h
  have hK21 : ∀ (y1 : Int32) (w : gW) (H : Heap) (locs : List Loc) (ls : Array Slot), K21 y1 w = some r → gI D s A w H locs → lv_has ls 2 [] → W p l e rm_M_common s m args below meth c H locs 0 0 Q (F0 m 21 ls [.int y1]) := by
    intro y1 w H locs ls h hI hl
    have h := gk2 eK21 h
    exact W.widen (show 0 ≤ 0 by omega) (show 0 ≤ 0 by omega) (hret _ _ (Option.some.inj h).symm _ _ _ _ d_M_common_21 hI)
  refine lv_if_ge (tgt := 10) hx hb d_M_common_3 (by decide) (fun c2 => ?_) (fun c2 => ?_)
  · have c2 := (lg_cmp_ge _ _).mp c2
    have h := git c2 h
    refine lv_lload_n hx hb d_M_common_10 rfl (lv_at hl 0 rfl) ?_
    refine lv_lconst (v := 0) hx hb d_M_common_11 (by decide) ?_
    refine W.lcmp hx hb d_M_common_12 ?_
    refine lv_if_ne (tgt := 20) hx hb d_M_common_13 (by decide) (fun c3 => ?_) (fun c3 => ?_)
    · have c3 := mt (lg_cmp_eq _ _).mpr c3
      have h := gie c3 h
      refine lv_iconst (v := 0) hx hb d_M_common_20 (by decide) ?_
      exact hK21 _ w H locs ls h hI (lv_sub hl [] rfl)
    · have c3 := (lg_cmp_eq _ _).mp c3
      have h := git c3 h
      refine lv_iconst (v := 1) hx hb d_M_common_16 (by decide) ?_
      refine lv_goto (tgt := 21) hx hb d_M_common_17 (by decide) ?_
      exact hK21 _ w H locs ls h hI (lv_sub hl [] rfl)
  · have c2 := mt (lg_cmp_ge _ _).mpr c2
    have h := gie c2 h
    refine lv_iconst (v := 2) hx hb d_M_common_6 (by decide) ?_
    refine lv_goto (tgt := 21) hx hb d_M_common_7 (by decide) ?_
    exact hK21 _ w H locs ls h hI (lv_sub hl [] rfl)

abbrev b_M_tubes : ByteArray := prog_9_method_49_code
def y_M_tubes : MethodName := ⟨"BodySolidsModel", "tubes", "()I"⟩
theorem d_M_tubes_0 : decode b_M_tubes 0 = .ok (.aload_n 0, 1) := by decide +kernel
theorem d_M_tubes_1 : decode b_M_tubes 1 = .ok (.getfield 59, 3) := by decide +kernel
theorem d_M_tubes_4 : decode b_M_tubes 4 = .ok (.bipush 8, 2) := by decide +kernel
theorem d_M_tubes_6 : decode b_M_tubes 6 = .ok (.laload, 1) := by decide +kernel
theorem d_M_tubes_7 : decode b_M_tubes 7 = .ok (.aload_n 0, 1) := by decide +kernel
theorem d_M_tubes_8 : decode b_M_tubes 8 = .ok (.getfield 59, 3) := by decide +kernel
theorem d_M_tubes_11 : decode b_M_tubes 11 = .ok (.bipush 9, 2) := by decide +kernel
theorem d_M_tubes_13 : decode b_M_tubes 13 = .ok (.laload, 1) := by decide +kernel
theorem d_M_tubes_14 : decode b_M_tubes 14 = .ok (.invokestatic 219, 3) := by decide +kernel
theorem d_M_tubes_17 : decode b_M_tubes 17 = .ok (.lstore_n 1, 1) := by decide +kernel
theorem d_M_tubes_18 : decode b_M_tubes 18 = .ok (.aload_n 0, 1) := by decide +kernel
theorem d_M_tubes_19 : decode b_M_tubes 19 = .ok (.getfield 59, 3) := by decide +kernel
theorem d_M_tubes_22 : decode b_M_tubes 22 = .ok (.bipush 8, 2) := by decide +kernel
theorem d_M_tubes_24 : decode b_M_tubes 24 = .ok (.laload, 1) := by decide +kernel
theorem d_M_tubes_25 : decode b_M_tubes 25 = .ok (.aload_n 0, 1) := by decide +kernel
theorem d_M_tubes_26 : decode b_M_tubes 26 = .ok (.getfield 59, 3) := by decide +kernel
theorem d_M_tubes_29 : decode b_M_tubes 29 = .ok (.bipush 9, 2) := by decide +kernel
theorem d_M_tubes_31 : decode b_M_tubes 31 = .ok (.laload, 1) := by decide +kernel
theorem d_M_tubes_32 : decode b_M_tubes 32 = .ok (.invokestatic 222, 3) := by decide +kernel
theorem d_M_tubes_35 : decode b_M_tubes 35 = .ok (.lstore_n 3, 1) := by decide +kernel
theorem d_M_tubes_36 : decode b_M_tubes 36 = .ok (.aload_n 0, 1) := by decide +kernel
theorem d_M_tubes_37 : decode b_M_tubes 37 = .ok (.getfield 62, 3) := by decide +kernel
theorem d_M_tubes_40 : decode b_M_tubes 40 = .ok (.bipush 8, 2) := by decide +kernel
theorem d_M_tubes_42 : decode b_M_tubes 42 = .ok (.laload, 1) := by decide +kernel
theorem d_M_tubes_43 : decode b_M_tubes 43 = .ok (.aload_n 0, 1) := by decide +kernel
theorem d_M_tubes_44 : decode b_M_tubes 44 = .ok (.getfield 62, 3) := by decide +kernel
theorem d_M_tubes_47 : decode b_M_tubes 47 = .ok (.bipush 9, 2) := by decide +kernel
theorem d_M_tubes_49 : decode b_M_tubes 49 = .ok (.laload, 1) := by decide +kernel
theorem d_M_tubes_50 : decode b_M_tubes 50 = .ok (.invokestatic 219, 3) := by decide +kernel
theorem d_M_tubes_53 : decode b_M_tubes 53 = .ok (.lstore 5, 2) := by decide +kernel
theorem d_M_tubes_55 : decode b_M_tubes 55 = .ok (.aload_n 0, 1) := by decide +kernel
theorem d_M_tubes_56 : decode b_M_tubes 56 = .ok (.getfield 62, 3) := by decide +kernel
theorem d_M_tubes_59 : decode b_M_tubes 59 = .ok (.bipush 8, 2) := by decide +kernel
theorem d_M_tubes_61 : decode b_M_tubes 61 = .ok (.laload, 1) := by decide +kernel
theorem d_M_tubes_62 : decode b_M_tubes 62 = .ok (.aload_n 0, 1) := by decide +kernel
theorem d_M_tubes_63 : decode b_M_tubes 63 = .ok (.getfield 62, 3) := by decide +kernel
theorem d_M_tubes_66 : decode b_M_tubes 66 = .ok (.bipush 9, 2) := by decide +kernel
theorem d_M_tubes_68 : decode b_M_tubes 68 = .ok (.laload, 1) := by decide +kernel
theorem d_M_tubes_69 : decode b_M_tubes 69 = .ok (.invokestatic 222, 3) := by decide +kernel
theorem d_M_tubes_72 : decode b_M_tubes 72 = .ok (.lstore 7, 2) := by decide +kernel
theorem d_M_tubes_74 : decode b_M_tubes 74 = .ok (.aload_n 0, 1) := by decide +kernel
theorem d_M_tubes_75 : decode b_M_tubes 75 = .ok (.invokevirtual 231, 3) := by decide +kernel
theorem d_M_tubes_78 : decode b_M_tubes 78 = .ok (.lstore 9, 2) := by decide +kernel
theorem d_M_tubes_80 : decode b_M_tubes 80 = .ok (.aload_n 0, 1) := by decide +kernel
theorem d_M_tubes_81 : decode b_M_tubes 81 = .ok (.getfield 65, 3) := by decide +kernel
theorem d_M_tubes_84 : decode b_M_tubes 84 = .ok (.iconst 0, 1) := by decide +kernel
theorem d_M_tubes_85 : decode b_M_tubes 85 = .ok (.laload, 1) := by decide +kernel
theorem d_M_tubes_86 : decode b_M_tubes 86 = .ok (.aload_n 0, 1) := by decide +kernel
theorem d_M_tubes_87 : decode b_M_tubes 87 = .ok (.getfield 65, 3) := by decide +kernel
theorem d_M_tubes_90 : decode b_M_tubes 90 = .ok (.iconst 1, 1) := by decide +kernel
theorem d_M_tubes_91 : decode b_M_tubes 91 = .ok (.laload, 1) := by decide +kernel
theorem d_M_tubes_92 : decode b_M_tubes 92 = .ok (.ladd, 1) := by decide +kernel
theorem d_M_tubes_93 : decode b_M_tubes 93 = .ok (.lstore 11, 2) := by decide +kernel
theorem d_M_tubes_95 : decode b_M_tubes 95 = .ok (.aload_n 0, 1) := by decide +kernel
theorem d_M_tubes_96 : decode b_M_tubes 96 = .ok (.iconst 0, 1) := by decide +kernel
theorem d_M_tubes_97 : decode b_M_tubes 97 = .ok (.iconst 1, 1) := by decide +kernel
theorem d_M_tubes_98 : decode b_M_tubes 98 = .ok (.lload_n 1, 1) := by decide +kernel
theorem d_M_tubes_99 : decode b_M_tubes 99 = .ok (.lload_n 3, 1) := by decide +kernel
theorem d_M_tubes_100 : decode b_M_tubes 100 = .ok (.invokevirtual 225, 3) := by decide +kernel
theorem d_M_tubes_103 : decode b_M_tubes 103 = .ok (.aload_n 0, 1) := by decide +kernel
theorem d_M_tubes_104 : decode b_M_tubes 104 = .ok (.iconst 0, 1) := by decide +kernel
theorem d_M_tubes_105 : decode b_M_tubes 105 = .ok (.iconst 0, 1) := by decide +kernel
theorem d_M_tubes_106 : decode b_M_tubes 106 = .ok (.lload 5, 2) := by decide +kernel
theorem d_M_tubes_108 : decode b_M_tubes 108 = .ok (.lload 7, 2) := by decide +kernel
theorem d_M_tubes_110 : decode b_M_tubes 110 = .ok (.invokevirtual 225, 3) := by decide +kernel
theorem d_M_tubes_113 : decode b_M_tubes 113 = .ok (.invokestatic 194, 3) := by decide +kernel
theorem d_M_tubes_116 : decode b_M_tubes 116 = .ok (.lload 9, 2) := by decide +kernel
theorem d_M_tubes_118 : decode b_M_tubes 118 = .ok (.lload 9, 2) := by decide +kernel
theorem d_M_tubes_120 : decode b_M_tubes 120 = .ok (.lmul, 1) := by decide +kernel
theorem d_M_tubes_121 : decode b_M_tubes 121 = .ok (.ladd, 1) := by decide +kernel
theorem d_M_tubes_122 : decode b_M_tubes 122 = .ok (.lload 11, 2) := by decide +kernel
theorem d_M_tubes_124 : decode b_M_tubes 124 = .ok (.lload 11, 2) := by decide +kernel
theorem d_M_tubes_126 : decode b_M_tubes 126 = .ok (.lmul, 1) := by decide +kernel
theorem d_M_tubes_127 : decode b_M_tubes 127 = .ok (.lsub, 1) := by decide +kernel
theorem d_M_tubes_128 : decode b_M_tubes 128 = .ok (.invokestatic 186, 3) := by decide +kernel
theorem d_M_tubes_131 : decode b_M_tubes 131 = .ok (.ireturn, 1) := by decide +kernel
abbrev rm_M_tubes : Room := { frames := 2, cells := 0, slots := 0, locals := 57 }
theorem ce_M_tubes : gCe y_M_tubes (.code y_M_tubes b_M_tubes 13 (some .int)) 13 0 false := gCe.code wd_1007 wd_57 wd_1006 (by decide) (by decide +kernel)
def f_M_tubes (g0 : gG) (a0 : Nat) (w : gW) : gX Int32 := (gfA w a0 7 22).bind fun v1 => (gaJ w v1 8).bind fun v3 => (gfA w a0 7 22).bind fun v5 => (gaJ w v5 9).bind fun v7 => gbind (f_M_lesser g0 v3 v7 w) fun v11 w => (gfA w a0 7 22).bind fun v12 => (gaJ w v12 8).bind fun v14 => (gfA w a0 7 22).bind fun v16 => (gaJ w v16 9).bind fun v18 => gbind (f_M_greater g0 v14 v18 w) fun v22 w => (gfA w a0 7 23).bind fun v23 => (gaJ w v23 8).bind fun v25 => (gfA w a0 7 23).bind fun v27 => (gaJ w v27 9).bind fun v29 => gbind (f_M_lesser g0 v25 v29 w) fun v33 w => (gfA w a0 7 23).bind fun v34 => (gaJ w v34 8).bind fun v36 => (gfA w a0 7 23).bind fun v38 => (gaJ w v38 9).bind fun v40 => gbind (f_M_greater g0 v36 v40 w) fun v44 w => (gck w a0 7).bind fun _ => gbind (f_M_heightGap g0 a0 w) fun v49 w => (gfA w a0 7 24).bind fun v50 => (gaJ w v50 0).bind fun v52 => (gfA w a0 7 24).bind fun v54 => (gaJ w v54 1).bind fun v56 => (gck w a0 7).bind fun _ => gbind (f_M_coreGap g0 a0 0 1 v11 v22 w) fun v62 w => (gck w a0 7).bind fun _ => gbind (f_M_coreGap g0 a0 0 0 v33 v44 w) fun v67 w => gbind (f_M_square g0 v62 v67 w) fun v70 w => gbind (f_M_common g0 ((v70 + (v49 * v49)) - ((v52 + v56) * (v52 + v56))) w) fun v73 w => some (.inr v73, w)
set_option maxHeartbeats 4000000 in
set_option maxRecDepth 100000 in
theorem m_M_tubes (l : Launch) (hst : l.stackTraces = false) (D : gD) (g0 : gG) (a0 : Nat) (w : gW) (r : (String ⊕ Int32) × gW) (h : f_M_tubes g0 a0 w = some r) : gMet l y_M_tubes (.code y_M_tubes b_M_tubes 13 (some .int)) rm_M_tubes D g0 [.ref a0] w (goI r) := by
  refine gw_ofI (by decide +kernel) (Nat.le_of_ble_eq_true rfl) ?_
  intro p e s m below meth c ls args A Q hx hb hml hown hlocks hin hnt hT hK hZ hA hret hexc hthr hI hl
  obtain ⟨H, hH⟩ : ∃ H, H = s.heap := ⟨_, rfl⟩
  rw [← hH] at hI ⊢
  obtain ⟨locs, hlocs⟩ : ∃ z : List Loc, z = [] := ⟨_, rfl⟩
  rw [← hlocs] at hI ⊢
  have hl : lv_has ls 13 [(0, .ref a0)] := hl
  unfold f_M_tubes at h
  refine lv_aload_n hx hb d_M_tubes_0 rfl (lv_at hl 0 rfl) ?_
  obtain ⟨v1, e2, h⟩ := gb h
  refine gw_getA hx hb hT hown hK hI (ci := 7) rfl i_7 22 (by decide) wd_808 (fun _ h9 => h9) e2 d_M_tubes_1 ?_
  refine lv_bipush (v := 8) hx hb d_M_tubes_4 (by decide) ?_
  obtain ⟨v3, e4, h⟩ := gb h
  refine gw_aldJ hx hb hK hI e4 d_M_tubes_6 ?_
  refine lv_aload_n hx hb d_M_tubes_7 rfl (lv_at hl 0 rfl) ?_
  obtain ⟨v5, e6, h⟩ := gb h
  refine gw_getA hx hb hT hown hK hI (ci := 7) rfl i_7 22 (by decide) wd_808 (fun _ h9 => h9) e6 d_M_tubes_8 ?_
  refine lv_bipush (v := 9) hx hb d_M_tubes_11 (by decide) ?_
  obtain ⟨v7, e8, h⟩ := gb h
  refine gw_aldJ hx hb hK hI e8 d_M_tubes_13 ?_
  obtain ⟨u9, e10⟩ := gsome h
  refine gw_callJ e10 h (gw_runS (As := [.long v3, .long v7]) (rest := []) hx hb hml hown hT hK hZ hA hI (m_M_lesser l hst D g0 v3 v7 w u9 e10) ce_M_lesser wd_1008 ⟨by decide, by decide⟩ rfl rfl hl.1 rfl (lv_room (Nat.le_of_ble_eq_true rfl)) d_M_tubes_14 ⟨(show 0 + 0 ≤ 0 by omega), (show 0 + 0 ≤ 0 by omega)⟩) hI hA hexc (show 0 + 0 ≤ 0 by omega) (show 0 + 0 ≤ 0 by omega) (fun v11 w H locs h hI => ?_)
  refine lv_lstore_n (lv' := [(1, .long v11), (0, .ref a0)]) hx hb d_M_tubes_17 rfl hl (by decide) rfl (fun ls hl => ?_)
  refine lv_aload_n hx hb d_M_tubes_18 rfl (lv_at hl 1 rfl) ?_
  obtain ⟨v12, e13, h⟩ := gb h
  refine gw_getA hx hb hT hown hK hI (ci := 7) rfl i_7 22 (by decide) wd_808 (fun _ h9 => h9) e13 d_M_tubes_19 ?_
  refine lv_bipush (v := 8) hx hb d_M_tubes_22 (by decide) ?_
  obtain ⟨v14, e15, h⟩ := gb h
  refine gw_aldJ hx hb hK hI e15 d_M_tubes_24 ?_
  refine lv_aload_n hx hb d_M_tubes_25 rfl (lv_at hl 1 rfl) ?_
  obtain ⟨v16, e17, h⟩ := gb h
  refine gw_getA hx hb hT hown hK hI (ci := 7) rfl i_7 22 (by decide) wd_808 (fun _ h9 => h9) e17 d_M_tubes_26 ?_
  refine lv_bipush (v := 9) hx hb d_M_tubes_29 (by decide) ?_
  obtain ⟨v18, e19, h⟩ := gb h
  refine gw_aldJ hx hb hK hI e19 d_M_tubes_31 ?_
  obtain ⟨u20, e21⟩ := gsome h
  refine gw_callJ e21 h (gw_runS (As := [.long v14, .long v18]) (rest := []) hx hb hml hown hT hK hZ hA hI (m_M_greater l hst D g0 v14 v18 w u20 e21) ce_M_greater wd_1011 ⟨by decide, by decide⟩ rfl rfl hl.1 rfl (lv_room (Nat.le_of_ble_eq_true rfl)) d_M_tubes_32 ⟨(show 0 + 0 ≤ 0 by omega), (show 0 + 0 ≤ 0 by omega)⟩) hI hA hexc (show 0 + 0 ≤ 0 by omega) (show 0 + 0 ≤ 0 by omega) (fun v22 w H locs h hI => ?_)
  refine lv_lstore_n (lv' := [(3, .long v22), (1, .long v11), (0, .ref a0)]) hx hb d_M_tubes_35 rfl hl (by decide) rfl (fun ls hl => ?_)
  refine lv_aload_n hx hb d_M_tubes_36 rfl (lv_at hl 2 rfl) ?_
  obtain ⟨v23, e24, h⟩ := gb h
  refine gw_getA hx hb hT hown hK hI (ci := 7) rfl i_7 23 (by decide) wd_809 (fun _ h9 => h9) e24 d_M_tubes_37 ?_
  refine lv_bipush (v := 8) hx hb d_M_tubes_40 (by decide) ?_
  obtain ⟨v25, e26, h⟩ := gb h
  refine gw_aldJ hx hb hK hI e26 d_M_tubes_42 ?_
  refine lv_aload_n hx hb d_M_tubes_43 rfl (lv_at hl 2 rfl) ?_
  obtain ⟨v27, e28, h⟩ := gb h
  refine gw_getA hx hb hT hown hK hI (ci := 7) rfl i_7 23 (by decide) wd_809 (fun _ h9 => h9) e28 d_M_tubes_44 ?_
  refine lv_bipush (v := 9) hx hb d_M_tubes_47 (by decide) ?_
  obtain ⟨v29, e30, h⟩ := gb h
  refine gw_aldJ hx hb hK hI e30 d_M_tubes_49 ?_
  obtain ⟨u31, e32⟩ := gsome h
  refine gw_callJ e32 h (gw_runS (As := [.long v25, .long v29]) (rest := []) hx hb hml hown hT hK hZ hA hI (m_M_lesser l hst D g0 v25 v29 w u31 e32) ce_M_lesser wd_1008 ⟨by decide, by decide⟩ rfl rfl hl.1 rfl (lv_room (Nat.le_of_ble_eq_true rfl)) d_M_tubes_50 ⟨(show 0 + 0 ≤ 0 by omega), (show 0 + 0 ≤ 0 by omega)⟩) hI hA hexc (show 0 + 0 ≤ 0 by omega) (show 0 + 0 ≤ 0 by omega) (fun v33 w H locs h hI => ?_)
  refine lv_lstore (lv' := [(5, .long v33), (3, .long v22), (1, .long v11), (0, .ref a0)]) hx hb d_M_tubes_53 hl (by decide) rfl (fun ls hl => ?_)
  refine lv_aload_n hx hb d_M_tubes_55 rfl (lv_at hl 3 rfl) ?_
  obtain ⟨v34, e35, h⟩ := gb h
  refine gw_getA hx hb hT hown hK hI (ci := 7) rfl i_7 23 (by decide) wd_809 (fun _ h9 => h9) e35 d_M_tubes_56 ?_
  refine lv_bipush (v := 8) hx hb d_M_tubes_59 (by decide) ?_
  obtain ⟨v36, e37, h⟩ := gb h
  refine gw_aldJ hx hb hK hI e37 d_M_tubes_61 ?_
  refine lv_aload_n hx hb d_M_tubes_62 rfl (lv_at hl 3 rfl) ?_
  obtain ⟨v38, e39, h⟩ := gb h
  refine gw_getA hx hb hT hown hK hI (ci := 7) rfl i_7 23 (by decide) wd_809 (fun _ h9 => h9) e39 d_M_tubes_63 ?_
  refine lv_bipush (v := 9) hx hb d_M_tubes_66 (by decide) ?_
  obtain ⟨v40, e41, h⟩ := gb h
  refine gw_aldJ hx hb hK hI e41 d_M_tubes_68 ?_
  obtain ⟨u42, e43⟩ := gsome h
  refine gw_callJ e43 h (gw_runS (As := [.long v36, .long v40]) (rest := []) hx hb hml hown hT hK hZ hA hI (m_M_greater l hst D g0 v36 v40 w u42 e43) ce_M_greater wd_1011 ⟨by decide, by decide⟩ rfl rfl hl.1 rfl (lv_room (Nat.le_of_ble_eq_true rfl)) d_M_tubes_69 ⟨(show 0 + 0 ≤ 0 by omega), (show 0 + 0 ≤ 0 by omega)⟩) hI hA hexc (show 0 + 0 ≤ 0 by omega) (show 0 + 0 ≤ 0 by omega) (fun v44 w H locs h hI => ?_)
  refine lv_lstore (lv' := [(7, .long v44), (5, .long v33), (3, .long v22), (1, .long v11), (0, .ref a0)]) hx hb d_M_tubes_72 hl (by decide) rfl (fun ls hl => ?_)
  refine lv_aload_n hx hb d_M_tubes_74 rfl (lv_at hl 4 rfl) ?_
  obtain ⟨q47, e48, h⟩ := gb h
  obtain ⟨u45, e46⟩ := gsome h
  refine gw_callJ e46 h (gw_runV (As := []) (rest := []) hx hb hml hown hT hK hZ hA hI (ci := 7) rfl e48 (m_M_heightGap l hst D g0 a0 w u45 e46) ce_M_heightGap wd_1014 wd_35 ⟨by decide, by decide⟩ rfl rfl hl.1 rfl (lv_room (Nat.le_of_ble_eq_true rfl)) d_M_tubes_75 ⟨(show 0 + 0 ≤ 0 by omega), (show 0 + 0 ≤ 0 by omega)⟩) hI hA hexc (show 0 + 0 ≤ 0 by omega) (show 0 + 0 ≤ 0 by omega) (fun v49 w H locs h hI => ?_)
  refine lv_lstore (lv' := [(9, .long v49), (7, .long v44), (5, .long v33), (3, .long v22), (1, .long v11), (0, .ref a0)]) hx hb d_M_tubes_78 hl (by decide) rfl (fun ls hl => ?_)
  refine lv_aload_n hx hb d_M_tubes_80 rfl (lv_at hl 5 rfl) ?_
  obtain ⟨v50, e51, h⟩ := gb h
  refine gw_getA hx hb hT hown hK hI (ci := 7) rfl i_7 24 (by decide) wd_810 (fun _ h9 => h9) e51 d_M_tubes_81 ?_
  refine lv_iconst (v := 0) hx hb d_M_tubes_84 (by decide) ?_
  obtain ⟨v52, e53, h⟩ := gb h
  refine gw_aldJ hx hb hK hI e53 d_M_tubes_85 ?_
  refine lv_aload_n hx hb d_M_tubes_86 rfl (lv_at hl 5 rfl) ?_
  obtain ⟨v54, e55, h⟩ := gb h
  refine gw_getA hx hb hT hown hK hI (ci := 7) rfl i_7 24 (by decide) wd_810 (fun _ h9 => h9) e55 d_M_tubes_87 ?_
  refine lv_iconst (v := 1) hx hb d_M_tubes_90 (by decide) ?_
  obtain ⟨v56, e57, h⟩ := gb h
  refine gw_aldJ hx hb hK hI e57 d_M_tubes_91 ?_
  refine lv_ladd hx hb d_M_tubes_92 ?_
  refine lv_lstore (lv' := [(11, .long (v52 + v56)), (9, .long v49), (7, .long v44), (5, .long v33), (3, .long v22), (1, .long v11), (0, .ref a0)]) hx hb d_M_tubes_93 hl (by decide) rfl (fun ls hl => ?_)
  refine lv_aload_n hx hb d_M_tubes_95 rfl (lv_at hl 6 rfl) ?_
  refine lv_iconst (v := 0) hx hb d_M_tubes_96 (by decide) ?_
  refine lv_iconst (v := 1) hx hb d_M_tubes_97 (by decide) ?_
  refine lv_lload_n hx hb d_M_tubes_98 rfl (lv_at hl 5 rfl) ?_
  refine lv_lload_n hx hb d_M_tubes_99 rfl (lv_at hl 4 rfl) ?_
  obtain ⟨q60, e61, h⟩ := gb h
  obtain ⟨u58, e59⟩ := gsome h
  refine gw_callJ e59 h (gw_runV (As := [.int 0, .int 1, .long v11, .long v22]) (rest := []) hx hb hml hown hT hK hZ hA hI (ci := 7) rfl e61 (m_M_coreGap l hst D g0 a0 0 1 v11 v22 w u58 e59) ce_M_coreGap wd_1021 wd_36 ⟨by decide, by decide⟩ rfl rfl hl.1 rfl (lv_room (Nat.le_of_ble_eq_true rfl)) d_M_tubes_100 ⟨(show 0 + 0 ≤ 0 by omega), (show 0 + 0 ≤ 0 by omega)⟩) hI hA hexc (show 0 + 0 ≤ 0 by omega) (show 0 + 0 ≤ 0 by omega) (fun v62 w H locs h hI => ?_)
  refine lv_aload_n hx hb d_M_tubes_103 rfl (lv_at hl 6 rfl) ?_
  refine lv_iconst (v := 0) hx hb d_M_tubes_104 (by decide) ?_
  refine lv_iconst (v := 0) hx hb d_M_tubes_105 (by decide) ?_
  refine lv_lload hx hb d_M_tubes_106 (lv_at hl 3 rfl) ?_
  refine lv_lload hx hb d_M_tubes_108 (lv_at hl 2 rfl) ?_
  obtain ⟨q65, e66, h⟩ := gb h
  obtain ⟨u63, e64⟩ := gsome h
  refine gw_callJ e64 h (gw_runV (As := [.int 0, .int 0, .long v33, .long v44]) (rest := [.long v62]) hx hb hml hown hT hK hZ hA hI (ci := 7) rfl e66 (m_M_coreGap l hst D g0 a0 0 0 v33 v44 w u63 e64) ce_M_coreGap wd_1021 wd_36 ⟨by decide, by decide⟩ rfl rfl hl.1 rfl (lv_room (Nat.le_of_ble_eq_true rfl)) d_M_tubes_110 ⟨(show 0 + 0 ≤ 0 by omega), (show 0 + 0 ≤ 0 by omega)⟩) hI hA hexc (show 0 + 0 ≤ 0 by omega) (show 0 + 0 ≤ 0 by omega) (fun v67 w H locs h hI => ?_)
  obtain ⟨u68, e69⟩ := gsome h
  refine gw_callJ e69 h (gw_runS (As := [.long v62, .long v67]) (rest := []) hx hb hml hown hT hK hZ hA hI (m_M_square l hst D g0 v62 v67 w u68 e69) ce_M_square wd_1025 ⟨by decide, by decide⟩ rfl rfl hl.1 rfl (lv_room (Nat.le_of_ble_eq_true rfl)) d_M_tubes_113 ⟨(show 0 + 0 ≤ 0 by omega), (show 0 + 0 ≤ 0 by omega)⟩) hI hA hexc (show 0 + 0 ≤ 0 by omega) (show 0 + 0 ≤ 0 by omega) (fun v70 w H locs h hI => ?_)
  refine lv_lload hx hb d_M_tubes_116 (lv_at hl 1 rfl) ?_
  refine lv_lload hx hb d_M_tubes_118 (lv_at hl 1 rfl) ?_
  refine lv_lmul hx hb d_M_tubes_120 ?_
  refine lv_ladd hx hb d_M_tubes_121 ?_
  refine lv_lload hx hb d_M_tubes_122 (lv_at hl 0 rfl) ?_
  refine lv_lload hx hb d_M_tubes_124 (lv_at hl 0 rfl) ?_
  refine lv_lmul hx hb d_M_tubes_126 ?_
  refine lv_lsub hx hb d_M_tubes_127 ?_
  obtain ⟨u71, e72⟩ := gsome h
  refine gw_callI e72 h (gw_runS (As := [.long ((v70 + (v49 * v49)) - ((v52 + v56) * (v52 + v56)))]) (rest := []) hx hb hml hown hT hK hZ hA hI (m_M_common l hst D g0 ((v70 + (v49 * v49)) - ((v52 + v56) * (v52 + v56))) w u71 e72) ce_M_common wd_1028 ⟨by decide, by decide⟩ rfl rfl hl.1 rfl (lv_room (Nat.le_of_ble_eq_true rfl)) d_M_tubes_128 ⟨(show 0 + 0 ≤ 0 by omega), (show 0 + 0 ≤ 0 by omega)⟩) hI hA hexc (show 0 + 0 ≤ 0 by omega) (show 0 + 0 ≤ 0 by omega) (fun v73 w H locs h hI => ?_)
  exact W.widen (show 0 ≤ 0 by omega) (show 0 ≤ 0 by omega) (hret _ _ (Option.some.inj h).symm _ _ _ _ d_M_tubes_131 hI)

abbrev b_M_coreAndDisc : ByteArray := prog_9_method_48_code
def y_M_coreAndDisc : MethodName := ⟨"BodySolidsModel", "coreAndDisc", "(IJ)I"⟩
theorem d_M_coreAndDisc_0 : decode b_M_coreAndDisc 0 = .ok (.iconst 1, 1) := by decide +kernel
theorem d_M_coreAndDisc_1 : decode b_M_coreAndDisc 1 = .ok (.iload_n 1, 1) := by decide +kernel
theorem d_M_coreAndDisc_2 : decode b_M_coreAndDisc 2 = .ok (.isub, 1) := by decide +kernel
theorem d_M_coreAndDisc_3 : decode b_M_coreAndDisc 3 = .ok (.istore 4, 2) := by decide +kernel
theorem d_M_coreAndDisc_5 : decode b_M_coreAndDisc 5 = .ok (.aload_n 0, 1) := by decide +kernel
theorem d_M_coreAndDisc_6 : decode b_M_coreAndDisc 6 = .ok (.getfield 65, 3) := by decide +kernel
theorem d_M_coreAndDisc_9 : decode b_M_coreAndDisc 9 = .ok (.iload 4, 2) := by decide +kernel
theorem d_M_coreAndDisc_11 : decode b_M_coreAndDisc 11 = .ok (.laload, 1) := by decide +kernel
theorem d_M_coreAndDisc_12 : decode b_M_coreAndDisc 12 = .ok (.lstore 5, 2) := by decide +kernel
theorem d_M_coreAndDisc_14 : decode b_M_coreAndDisc 14 = .ok (.aload_n 0, 1) := by decide +kernel
theorem d_M_coreAndDisc_15 : decode b_M_coreAndDisc 15 = .ok (.iload_n 1, 1) := by decide +kernel
theorem d_M_coreAndDisc_16 : decode b_M_coreAndDisc 16 = .ok (.iconst 1, 1) := by decide +kernel
theorem d_M_coreAndDisc_17 : decode b_M_coreAndDisc 17 = .ok (.aload_n 0, 1) := by decide +kernel
theorem d_M_coreAndDisc_18 : decode b_M_coreAndDisc 18 = .ok (.getfield 59, 3) := by decide +kernel
theorem d_M_coreAndDisc_21 : decode b_M_coreAndDisc 21 = .ok (.bipush 8, 2) := by decide +kernel
theorem d_M_coreAndDisc_23 : decode b_M_coreAndDisc 23 = .ok (.iload 4, 2) := by decide +kernel
theorem d_M_coreAndDisc_25 : decode b_M_coreAndDisc 25 = .ok (.imul, 1) := by decide +kernel
theorem d_M_coreAndDisc_26 : decode b_M_coreAndDisc 26 = .ok (.laload, 1) := by decide +kernel
theorem d_M_coreAndDisc_27 : decode b_M_coreAndDisc 27 = .ok (.aload_n 0, 1) := by decide +kernel
theorem d_M_coreAndDisc_28 : decode b_M_coreAndDisc 28 = .ok (.getfield 59, 3) := by decide +kernel
theorem d_M_coreAndDisc_31 : decode b_M_coreAndDisc 31 = .ok (.bipush 8, 2) := by decide +kernel
theorem d_M_coreAndDisc_33 : decode b_M_coreAndDisc 33 = .ok (.iload 4, 2) := by decide +kernel
theorem d_M_coreAndDisc_35 : decode b_M_coreAndDisc 35 = .ok (.imul, 1) := by decide +kernel
theorem d_M_coreAndDisc_36 : decode b_M_coreAndDisc 36 = .ok (.laload, 1) := by decide +kernel
theorem d_M_coreAndDisc_37 : decode b_M_coreAndDisc 37 = .ok (.invokevirtual 225, 3) := by decide +kernel
theorem d_M_coreAndDisc_40 : decode b_M_coreAndDisc 40 = .ok (.aload_n 0, 1) := by decide +kernel
theorem d_M_coreAndDisc_41 : decode b_M_coreAndDisc 41 = .ok (.iload_n 1, 1) := by decide +kernel
theorem d_M_coreAndDisc_42 : decode b_M_coreAndDisc 42 = .ok (.iconst 0, 1) := by decide +kernel
theorem d_M_coreAndDisc_43 : decode b_M_coreAndDisc 43 = .ok (.aload_n 0, 1) := by decide +kernel
theorem d_M_coreAndDisc_44 : decode b_M_coreAndDisc 44 = .ok (.getfield 62, 3) := by decide +kernel
theorem d_M_coreAndDisc_47 : decode b_M_coreAndDisc 47 = .ok (.bipush 8, 2) := by decide +kernel
theorem d_M_coreAndDisc_49 : decode b_M_coreAndDisc 49 = .ok (.iload 4, 2) := by decide +kernel
theorem d_M_coreAndDisc_51 : decode b_M_coreAndDisc 51 = .ok (.imul, 1) := by decide +kernel
theorem d_M_coreAndDisc_52 : decode b_M_coreAndDisc 52 = .ok (.laload, 1) := by decide +kernel
theorem d_M_coreAndDisc_53 : decode b_M_coreAndDisc 53 = .ok (.aload_n 0, 1) := by decide +kernel
theorem d_M_coreAndDisc_54 : decode b_M_coreAndDisc 54 = .ok (.getfield 62, 3) := by decide +kernel
theorem d_M_coreAndDisc_57 : decode b_M_coreAndDisc 57 = .ok (.bipush 8, 2) := by decide +kernel
theorem d_M_coreAndDisc_59 : decode b_M_coreAndDisc 59 = .ok (.iload 4, 2) := by decide +kernel
theorem d_M_coreAndDisc_61 : decode b_M_coreAndDisc 61 = .ok (.imul, 1) := by decide +kernel
theorem d_M_coreAndDisc_62 : decode b_M_coreAndDisc 62 = .ok (.laload, 1) := by decide +kernel
theorem d_M_coreAndDisc_63 : decode b_M_coreAndDisc 63 = .ok (.invokevirtual 225, 3) := by decide +kernel
theorem d_M_coreAndDisc_66 : decode b_M_coreAndDisc 66 = .ok (.invokestatic 194, 3) := by decide +kernel
theorem d_M_coreAndDisc_69 : decode b_M_coreAndDisc 69 = .ok (.lstore 7, 2) := by decide +kernel
theorem d_M_coreAndDisc_71 : decode b_M_coreAndDisc 71 = .ok (.lload 7, 2) := by decide +kernel
theorem d_M_coreAndDisc_73 : decode b_M_coreAndDisc 73 = .ok (.lload 5, 2) := by decide +kernel
theorem d_M_coreAndDisc_75 : decode b_M_coreAndDisc 75 = .ok (.lload 5, 2) := by decide +kernel
theorem d_M_coreAndDisc_77 : decode b_M_coreAndDisc 77 = .ok (.lmul, 1) := by decide +kernel
theorem d_M_coreAndDisc_78 : decode b_M_coreAndDisc 78 = .ok (.lcmp, 1) := by decide +kernel
theorem d_M_coreAndDisc_79 : decode b_M_coreAndDisc 79 = .ok (.ifCond .gt 10, 3) := by decide +kernel
theorem d_M_coreAndDisc_82 : decode b_M_coreAndDisc 82 = .ok (.lconst 0, 1) := by decide +kernel
theorem d_M_coreAndDisc_83 : decode b_M_coreAndDisc 83 = .ok (.lload_n 2, 1) := by decide +kernel
theorem d_M_coreAndDisc_84 : decode b_M_coreAndDisc 84 = .ok (.lsub, 1) := by decide +kernel
theorem d_M_coreAndDisc_85 : decode b_M_coreAndDisc 85 = .ok (.invokestatic 186, 3) := by decide +kernel
theorem d_M_coreAndDisc_88 : decode b_M_coreAndDisc 88 = .ok (.ireturn, 1) := by decide +kernel
theorem d_M_coreAndDisc_89 : decode b_M_coreAndDisc 89 = .ok (.lload 7, 2) := by decide +kernel
theorem d_M_coreAndDisc_91 : decode b_M_coreAndDisc 91 = .ok (.lload 5, 2) := by decide +kernel
theorem d_M_coreAndDisc_93 : decode b_M_coreAndDisc 93 = .ok (.lload 5, 2) := by decide +kernel
theorem d_M_coreAndDisc_95 : decode b_M_coreAndDisc 95 = .ok (.lmul, 1) := by decide +kernel
theorem d_M_coreAndDisc_96 : decode b_M_coreAndDisc 96 = .ok (.lsub, 1) := by decide +kernel
theorem d_M_coreAndDisc_97 : decode b_M_coreAndDisc 97 = .ok (.lload_n 2, 1) := by decide +kernel
theorem d_M_coreAndDisc_98 : decode b_M_coreAndDisc 98 = .ok (.lsub, 1) := by decide +kernel
theorem d_M_coreAndDisc_99 : decode b_M_coreAndDisc 99 = .ok (.lstore 9, 2) := by decide +kernel
theorem d_M_coreAndDisc_101 : decode b_M_coreAndDisc 101 = .ok (.lload 9, 2) := by decide +kernel
theorem d_M_coreAndDisc_103 : decode b_M_coreAndDisc 103 = .ok (.lconst 0, 1) := by decide +kernel
theorem d_M_coreAndDisc_104 : decode b_M_coreAndDisc 104 = .ok (.lcmp, 1) := by decide +kernel
theorem d_M_coreAndDisc_105 : decode b_M_coreAndDisc 105 = .ok (.ifCond .ge 7, 3) := by decide +kernel
theorem d_M_coreAndDisc_108 : decode b_M_coreAndDisc 108 = .ok (.iconst 2, 1) := by decide +kernel
theorem d_M_coreAndDisc_109 : decode b_M_coreAndDisc 109 = .ok (.goto 23, 3) := by decide +kernel
theorem d_M_coreAndDisc_112 : decode b_M_coreAndDisc 112 = .ok (.lload 9, 2) := by decide +kernel
theorem d_M_coreAndDisc_114 : decode b_M_coreAndDisc 114 = .ok (.lload 9, 2) := by decide +kernel
theorem d_M_coreAndDisc_116 : decode b_M_coreAndDisc 116 = .ok (.lmul, 1) := by decide +kernel
theorem d_M_coreAndDisc_117 : decode b_M_coreAndDisc 117 = .ok (.ldc2_w 229, 3) := by decide +kernel
theorem d_M_coreAndDisc_120 : decode b_M_coreAndDisc 120 = .ok (.lload 5, 2) := by decide +kernel
theorem d_M_coreAndDisc_122 : decode b_M_coreAndDisc 122 = .ok (.lmul, 1) := by decide +kernel
theorem d_M_coreAndDisc_123 : decode b_M_coreAndDisc 123 = .ok (.lload 5, 2) := by decide +kernel
theorem d_M_coreAndDisc_125 : decode b_M_coreAndDisc 125 = .ok (.lmul, 1) := by decide +kernel
theorem d_M_coreAndDisc_126 : decode b_M_coreAndDisc 126 = .ok (.lload_n 2, 1) := by decide +kernel
theorem d_M_coreAndDisc_127 : decode b_M_coreAndDisc 127 = .ok (.lmul, 1) := by decide +kernel
theorem d_M_coreAndDisc_128 : decode b_M_coreAndDisc 128 = .ok (.lsub, 1) := by decide +kernel
theorem d_M_coreAndDisc_129 : decode b_M_coreAndDisc 129 = .ok (.invokestatic 186, 3) := by decide +kernel
theorem d_M_coreAndDisc_132 : decode b_M_coreAndDisc 132 = .ok (.ireturn, 1) := by decide +kernel
abbrev rm_M_coreAndDisc : Room := { frames := 2, cells := 0, slots := 0, locals := 57 }
theorem ce_M_coreAndDisc : gCe y_M_coreAndDisc (.code y_M_coreAndDisc b_M_coreAndDisc 11 (some .int)) 11 2 false := gCe.code wd_1034 wd_57 wd_1033 (by decide) (by decide +kernel)
def f_M_coreAndDisc (g0 : gG) (a0 : Nat) (p1 : Int32) (p2 : Int64) (w : gW) : gX Int32 := (gfA w a0 7 24).bind fun v1 => (gaJ w v1 (1 - p1)).bind fun v3 => (gfA w a0 7 22).bind fun v5 => (gaJ w v5 (8 * (1 - p1))).bind fun v7 => (gfA w a0 7 22).bind fun v9 => (gaJ w v9 (8 * (1 - p1))).bind fun v11 => (gck w a0 7).bind fun _ => gbind (f_M_coreGap g0 a0 p1 1 v7 v11 w) fun v17 w => (gfA w a0 7 23).bind fun v18 => (gaJ w v18 (8 * (1 - p1))).bind fun v20 => (gfA w a0 7 23).bind fun v22 => (gaJ w v22 (8 * (1 - p1))).bind fun v24 => (gck w a0 7).bind fun _ => gbind (f_M_coreGap g0 a0 p1 0 v20 v24 w) fun v30 w => gbind (f_M_square g0 v17 v30 w) fun v33 w => if (v3 * v3) < v33 then (gjoin (fun K132 => if 0 ≤ ((v33 - (v3 * v3)) - p2) then (gbind (f_M_common g0 ((((v33 - (v3 * v3)) - p2) * ((v33 - (v3 * v3)) - p2)) - (((4 * v3) * v3) * p2)) w) fun v39 w => K132 v39 w) else (K132 2 w)) (fun (y35 : Int32) (w : gW) => some (.inr y35, w))) else (gbind (f_M_common g0 (0 - p2) w) fun v42 w => some (.inr v42, w))
set_option maxHeartbeats 4000000 in
set_option maxRecDepth 100000 in
theorem m_M_coreAndDisc (l : Launch) (hst : l.stackTraces = false) (D : gD) (g0 : gG) (a0 : Nat) (p1 : Int32) (p2 : Int64) (w : gW) (r : (String ⊕ Int32) × gW) (h : f_M_coreAndDisc g0 a0 p1 p2 w = some r) : gMet l y_M_coreAndDisc (.code y_M_coreAndDisc b_M_coreAndDisc 11 (some .int)) rm_M_coreAndDisc D g0 [.ref a0, .int p1, .long p2] w (goI r) := by
  refine gw_ofI (by decide +kernel) (Nat.le_of_ble_eq_true rfl) ?_
  intro p e s m below meth c ls args A Q hx hb hml hown hlocks hin hnt hT hK hZ hA hret hexc hthr hI hl
  obtain ⟨H, hH⟩ : ∃ H, H = s.heap := ⟨_, rfl⟩
  rw [← hH] at hI ⊢
  obtain ⟨locs, hlocs⟩ : ∃ z : List Loc, z = [] := ⟨_, rfl⟩
  rw [← hlocs] at hI ⊢
  have hl : lv_has ls 11 [(0, .ref a0), (1, .int p1), (2, .long p2)] := hl
  unfold f_M_coreAndDisc at h
  refine lv_iconst (v := 1) hx hb d_M_coreAndDisc_0 (by decide) ?_
  refine lv_iload_n hx hb d_M_coreAndDisc_1 rfl (lv_at hl 1 rfl) ?_
  refine lv_isub hx hb d_M_coreAndDisc_2 ?_
  refine lv_istore (lv' := [(4, .int (1 - p1)), (0, .ref a0), (1, .int p1), (2, .long p2)]) hx hb d_M_coreAndDisc_3 hl (by decide) rfl (fun ls hl => ?_)
  refine lv_aload_n hx hb d_M_coreAndDisc_5 rfl (lv_at hl 1 rfl) ?_
  obtain ⟨v1, e2, h⟩ := gb h
  refine gw_getA hx hb hT hown hK hI (ci := 7) rfl i_7 24 (by decide) wd_810 (fun _ h9 => h9) e2 d_M_coreAndDisc_6 ?_
  refine lv_iload hx hb d_M_coreAndDisc_9 (lv_at hl 0 rfl) ?_
  obtain ⟨v3, e4, h⟩ := gb h
  refine gw_aldJ hx hb hK hI e4 d_M_coreAndDisc_11 ?_
  refine lv_lstore (lv' := [(5, .long v3), (4, .int (1 - p1)), (0, .ref a0), (1, .int p1), (2, .long p2)]) hx hb d_M_coreAndDisc_12 hl (by decide) rfl (fun ls hl => ?_)
  refine lv_aload_n hx hb d_M_coreAndDisc_14 rfl (lv_at hl 2 rfl) ?_
  refine lv_iload_n hx hb d_M_coreAndDisc_15 rfl (lv_at hl 3 rfl) ?_
  refine lv_iconst (v := 1) hx hb d_M_coreAndDisc_16 (by decide) ?_
  refine lv_aload_n hx hb d_M_coreAndDisc_17 rfl (lv_at hl 2 rfl) ?_
  obtain ⟨v5, e6, h⟩ := gb h
  refine gw_getA hx hb hT hown hK hI (ci := 7) rfl i_7 22 (by decide) wd_808 (fun _ h9 => h9) e6 d_M_coreAndDisc_18 ?_
  refine lv_bipush (v := 8) hx hb d_M_coreAndDisc_21 (by decide) ?_
  refine lv_iload hx hb d_M_coreAndDisc_23 (lv_at hl 1 rfl) ?_
  refine lv_imul hx hb d_M_coreAndDisc_25 ?_
  obtain ⟨v7, e8, h⟩ := gb h
  refine gw_aldJ hx hb hK hI e8 d_M_coreAndDisc_26 ?_
  refine lv_aload_n hx hb d_M_coreAndDisc_27 rfl (lv_at hl 2 rfl) ?_
  obtain ⟨v9, e10, h⟩ := gb h
  refine gw_getA hx hb hT hown hK hI (ci := 7) rfl i_7 22 (by decide) wd_808 (fun _ h9 => h9) e10 d_M_coreAndDisc_28 ?_
  refine lv_bipush (v := 8) hx hb d_M_coreAndDisc_31 (by decide) ?_
  refine lv_iload hx hb d_M_coreAndDisc_33 (lv_at hl 1 rfl) ?_
  refine lv_imul hx hb d_M_coreAndDisc_35 ?_
  obtain ⟨v11, e12, h⟩ := gb h
  refine gw_aldJ hx hb hK hI e12 d_M_coreAndDisc_36 ?_
  obtain ⟨q15, e16, h⟩ := gb h
  obtain ⟨u13, e14⟩ := gsome h
  refine gw_callJ e14 h (gw_runV (As := [.int p1, .int 1, .long v7, .long v11]) (rest := []) hx hb hml hown hT hK hZ hA hI (ci := 7) rfl e16 (m_M_coreGap l hst D g0 a0 p1 1 v7 v11 w u13 e14) ce_M_coreGap wd_1021 wd_36 ⟨by decide, by decide⟩ rfl rfl hl.1 rfl (lv_room (Nat.le_of_ble_eq_true rfl)) d_M_coreAndDisc_37 ⟨(show 0 + 0 ≤ 0 by omega), (show 0 + 0 ≤ 0 by omega)⟩) hI hA hexc (show 0 + 0 ≤ 0 by omega) (show 0 + 0 ≤ 0 by omega) (fun v17 w H locs h hI => ?_)
  refine lv_aload_n hx hb d_M_coreAndDisc_40 rfl (lv_at hl 2 rfl) ?_
  refine lv_iload_n hx hb d_M_coreAndDisc_41 rfl (lv_at hl 3 rfl) ?_
  refine lv_iconst (v := 0) hx hb d_M_coreAndDisc_42 (by decide) ?_
  refine lv_aload_n hx hb d_M_coreAndDisc_43 rfl (lv_at hl 2 rfl) ?_
  obtain ⟨v18, e19, h⟩ := gb h
  refine gw_getA hx hb hT hown hK hI (ci := 7) rfl i_7 23 (by decide) wd_809 (fun _ h9 => h9) e19 d_M_coreAndDisc_44 ?_
  refine lv_bipush (v := 8) hx hb d_M_coreAndDisc_47 (by decide) ?_
  refine lv_iload hx hb d_M_coreAndDisc_49 (lv_at hl 1 rfl) ?_
  refine lv_imul hx hb d_M_coreAndDisc_51 ?_
  obtain ⟨v20, e21, h⟩ := gb h
  refine gw_aldJ hx hb hK hI e21 d_M_coreAndDisc_52 ?_
  refine lv_aload_n hx hb d_M_coreAndDisc_53 rfl (lv_at hl 2 rfl) ?_
  obtain ⟨v22, e23, h⟩ := gb h
  refine gw_getA hx hb hT hown hK hI (ci := 7) rfl i_7 23 (by decide) wd_809 (fun _ h9 => h9) e23 d_M_coreAndDisc_54 ?_
  refine lv_bipush (v := 8) hx hb d_M_coreAndDisc_57 (by decide) ?_
  refine lv_iload hx hb d_M_coreAndDisc_59 (lv_at hl 1 rfl) ?_
  refine lv_imul hx hb d_M_coreAndDisc_61 ?_
  obtain ⟨v24, e25, h⟩ := gb h
  refine gw_aldJ hx hb hK hI e25 d_M_coreAndDisc_62 ?_
  obtain ⟨q28, e29, h⟩ := gb h
  obtain ⟨u26, e27⟩ := gsome h
  refine gw_callJ e27 h (gw_runV (As := [.int p1, .int 0, .long v20, .long v24]) (rest := [.long v17]) hx hb hml hown hT hK hZ hA hI (ci := 7) rfl e29 (m_M_coreGap l hst D g0 a0 p1 0 v20 v24 w u26 e27) ce_M_coreGap wd_1021 wd_36 ⟨by decide, by decide⟩ rfl rfl hl.1 rfl (lv_room (Nat.le_of_ble_eq_true rfl)) d_M_coreAndDisc_63 ⟨(show 0 + 0 ≤ 0 by omega), (show 0 + 0 ≤ 0 by omega)⟩) hI hA hexc (show 0 + 0 ≤ 0 by omega) (show 0 + 0 ≤ 0 by omega) (fun v30 w H locs h hI => ?_)
  obtain ⟨u31, e32⟩ := gsome h
  refine gw_callJ e32 h (gw_runS (As := [.long v17, .long v30]) (rest := []) hx hb hml hown hT hK hZ hA hI (m_M_square l hst D g0 v17 v30 w u31 e32) ce_M_square wd_1025 ⟨by decide, by decide⟩ rfl rfl hl.1 rfl (lv_room (Nat.le_of_ble_eq_true rfl)) d_M_coreAndDisc_66 ⟨(show 0 + 0 ≤ 0 by omega), (show 0 + 0 ≤ 0 by omega)⟩) hI hA hexc (show 0 + 0 ≤ 0 by omega) (show 0 + 0 ≤ 0 by omega) (fun v33 w H locs h hI => ?_)
  refine lv_lstore (lv' := [(7, .long v33), (5, .long v3), (4, .int (1 - p1)), (0, .ref a0), (1, .int p1), (2, .long p2)]) hx hb d_M_coreAndDisc_69 hl (by decide) rfl (fun ls hl => ?_)
  refine lv_lload hx hb d_M_coreAndDisc_71 (lv_at hl 0 rfl) ?_
  refine lv_lload hx hb d_M_coreAndDisc_73 (lv_at hl 1 rfl) ?_
  refine lv_lload hx hb d_M_coreAndDisc_75 (lv_at hl 1 rfl) ?_
  refine lv_lmul hx hb d_M_coreAndDisc_77 ?_
  refine W.lcmp hx hb d_M_coreAndDisc_78 ?_
  refine lv_if_gt (tgt := 89) hx hb d_M_coreAndDisc_79 (by decide) (fun c34 => ?_) (fun c34 => ?_)
  · have c34 := (lg_cmp_gt _ _).mp c34
    have h := git c34 h
    refine lv_lload hx hb d_M_coreAndDisc_89 (lv_at hl 0 rfl) ?_
    refine lv_lload hx hb d_M_coreAndDisc_91 (lv_at hl 1 rfl) ?_
    refine lv_lload hx hb d_M_coreAndDisc_93 (lv_at hl 1 rfl) ?_
    refine lv_lmul hx hb d_M_coreAndDisc_95 ?_
    refine lv_lsub hx hb d_M_coreAndDisc_96 ?_
    refine lv_lload_n hx hb d_M_coreAndDisc_97 rfl (lv_at hl 5 rfl) ?_
    refine lv_lsub hx hb d_M_coreAndDisc_98 ?_
    refine lv_lstore (lv' := [(9, .long ((v33 - (v3 * v3)) - p2)), (7, .long v33), (5, .long v3), (4, .int (1 - p1)), (0, .ref a0), (1, .int p1), (2, .long p2)]) hx hb d_M_coreAndDisc_99 hl (by decide) rfl (fun ls hl => ?_)
    refine lv_lload hx hb d_M_coreAndDisc_101 (lv_at hl 0 rfl) ?_
    refine lv_lconst (v := 0) hx hb d_M_coreAndDisc_103 (by decide) ?_
    refine W.lcmp hx hb d_M_coreAndDisc_104 ?_
    obtain ⟨K132, eK132, h⟩ := gj h
    have hK132 : ∀ (y35 : Int32) (w : gW) (H : Heap) (locs : List Loc) (ls : Array Slot), K132 y35 w = some r → gI D s A w H locs → lv_has ls 11 [] → W p l e rm_M_coreAndDisc s m args below meth c H locs 0 0 Q (F0 m 132 ls [.int y35]) := by
      intro y35 w H locs ls h hI hl
      have h := gk2 eK132 h
      exact W.widen (show 0 ≤ 0 by omega) (show 0 ≤ 0 by omega) (hret _ _ (Option.some.inj h).symm _ _ _ _ d_M_coreAndDisc_132 hI)
    refine lv_if_ge (tgt := 112) hx hb d_M_coreAndDisc_105 (by decide) (fun c36 => ?_) (fun c36 => ?_)
    · have c36 := (lg_cmp_ge _ _).mp c36
      have h := git c36 h
      refine lv_lload hx hb d_M_coreAndDisc_112 (lv_at hl 0 rfl) ?_
      refine lv_lload hx hb d_M_coreAndDisc_114 (lv_at hl 0 rfl) ?_
      refine lv_lmul hx hb d_M_coreAndDisc_116 ?_
      refine lv_ldc2 (v := 4) hx hb hown (hT _ wd_1035 args) d_M_coreAndDisc_117 ?_
      refine lv_lload hx hb d_M_coreAndDisc_120 (lv_at hl 2 rfl) ?_
      refine lv_lmul hx hb d_M_coreAndDisc_122 ?_
      refine lv_lload hx hb d_M_coreAndDisc_123 (lv_at hl 2 rfl) ?_
      refine lv_lmul hx hb d_M_coreAndDisc_125 ?_
      refine lv_lload_n hx hb d_M_coreAndDisc_126 rfl (lv_at hl 6 rfl) ?_
      refine lv_lmul hx hb d_M_coreAndDisc_127 ?_
      refine lv_lsub hx hb d_M_coreAndDisc_128 ?_
      obtain ⟨u37, e38⟩ := gsome h
      refine gw_callI e38 h (gw_runS (As := [.long ((((v33 - (v3 * v3)) - p2) * ((v33 - (v3 * v3)) - p2)) - (((4 * v3) * v3) * p2))]) (rest := []) hx hb hml hown hT hK hZ hA hI (m_M_common l hst D g0 ((((v33 - (v3 * v3)) - p2) * ((v33 - (v3 * v3)) - p2)) - (((4 * v3) * v3) * p2)) w u37 e38) ce_M_common wd_1028 ⟨by decide, by decide⟩ rfl rfl hl.1 rfl (lv_room (Nat.le_of_ble_eq_true rfl)) d_M_coreAndDisc_129 ⟨(show 0 + 0 ≤ 0 by omega), (show 0 + 0 ≤ 0 by omega)⟩) hI hA hexc (show 0 + 0 ≤ 0 by omega) (show 0 + 0 ≤ 0 by omega) (fun v39 w H locs h hI => ?_)
      exact hK132 _ w H locs ls h hI (lv_sub hl [] rfl)
    · have c36 := mt (lg_cmp_ge _ _).mpr c36
      have h := gie c36 h
      refine lv_iconst (v := 2) hx hb d_M_coreAndDisc_108 (by decide) ?_
      refine lv_goto (tgt := 132) hx hb d_M_coreAndDisc_109 (by decide) ?_
      exact hK132 _ w H locs ls h hI (lv_sub hl [] rfl)
  · have c34 := mt (lg_cmp_gt _ _).mpr c34
    have h := gie c34 h
    refine lv_lconst (v := 0) hx hb d_M_coreAndDisc_82 (by decide) ?_
    refine lv_lload_n hx hb d_M_coreAndDisc_83 rfl (lv_at hl 5 rfl) ?_
    refine lv_lsub hx hb d_M_coreAndDisc_84 ?_
    obtain ⟨u40, e41⟩ := gsome h
    refine gw_callI e41 h (gw_runS (As := [.long (0 - p2)]) (rest := []) hx hb hml hown hT hK hZ hA hI (m_M_common l hst D g0 (0 - p2) w u40 e41) ce_M_common wd_1028 ⟨by decide, by decide⟩ rfl rfl hl.1 rfl (lv_room (Nat.le_of_ble_eq_true rfl)) d_M_coreAndDisc_85 ⟨(show 0 + 0 ≤ 0 by omega), (show 0 + 0 ≤ 0 by omega)⟩) hI hA hexc (show 0 + 0 ≤ 0 by omega) (show 0 + 0 ≤ 0 by omega) (fun v42 w H locs h hI => ?_)
    exact W.widen (show 0 ≤ 0 by omega) (show 0 ≤ 0 by omega) (hret _ _ (Option.some.inj h).symm _ _ _ _ d_M_coreAndDisc_88 hI)

abbrev b_M_isIn : ByteArray := prog_9_method_38_code
def y_M_isIn : MethodName := ⟨"BodySolidsModel", "isIn", "(IJJ)Z"⟩
theorem d_M_isIn_0 : decode b_M_isIn 0 = .ok (.iconst 0, 1) := by decide +kernel
theorem d_M_isIn_1 : decode b_M_isIn 1 = .ok (.istore 6, 2) := by decide +kernel
theorem d_M_isIn_3 : decode b_M_isIn 3 = .ok (.iconst 0, 1) := by decide +kernel
theorem d_M_isIn_4 : decode b_M_isIn 4 = .ok (.istore 7, 2) := by decide +kernel
theorem d_M_isIn_6 : decode b_M_isIn 6 = .ok (.iconst 0, 1) := by decide +kernel
theorem d_M_isIn_7 : decode b_M_isIn 7 = .ok (.istore 8, 2) := by decide +kernel
theorem d_M_isIn_9 : decode b_M_isIn 9 = .ok (.iload 8, 2) := by decide +kernel
theorem d_M_isIn_11 : decode b_M_isIn 11 = .ok (.aload_n 0, 1) := by decide +kernel
theorem d_M_isIn_12 : decode b_M_isIn 12 = .ok (.getfield 56, 3) := by decide +kernel
theorem d_M_isIn_15 : decode b_M_isIn 15 = .ok (.iload_n 1, 1) := by decide +kernel
theorem d_M_isIn_16 : decode b_M_isIn 16 = .ok (.iaload, 1) := by decide +kernel
theorem d_M_isIn_17 : decode b_M_isIn 17 = .ok (.if_icmp .ge 116, 3) := by decide +kernel
theorem d_M_isIn_20 : decode b_M_isIn 20 = .ok (.iload 8, 2) := by decide +kernel
theorem d_M_isIn_22 : decode b_M_isIn 22 = .ok (.iconst 1, 1) := by decide +kernel
theorem d_M_isIn_23 : decode b_M_isIn 23 = .ok (.iadd, 1) := by decide +kernel
theorem d_M_isIn_24 : decode b_M_isIn 24 = .ok (.aload_n 0, 1) := by decide +kernel
theorem d_M_isIn_25 : decode b_M_isIn 25 = .ok (.getfield 56, 3) := by decide +kernel
theorem d_M_isIn_28 : decode b_M_isIn 28 = .ok (.iload_n 1, 1) := by decide +kernel
theorem d_M_isIn_29 : decode b_M_isIn 29 = .ok (.iaload, 1) := by decide +kernel
theorem d_M_isIn_30 : decode b_M_isIn 30 = .ok (.irem, 1) := by decide +kernel
theorem d_M_isIn_31 : decode b_M_isIn 31 = .ok (.istore 9, 2) := by decide +kernel
theorem d_M_isIn_33 : decode b_M_isIn 33 = .ok (.aload_n 0, 1) := by decide +kernel
theorem d_M_isIn_34 : decode b_M_isIn 34 = .ok (.getfield 59, 3) := by decide +kernel
theorem d_M_isIn_37 : decode b_M_isIn 37 = .ok (.bipush 8, 2) := by decide +kernel
theorem d_M_isIn_39 : decode b_M_isIn 39 = .ok (.iload_n 1, 1) := by decide +kernel
theorem d_M_isIn_40 : decode b_M_isIn 40 = .ok (.imul, 1) := by decide +kernel
theorem d_M_isIn_41 : decode b_M_isIn 41 = .ok (.iload 8, 2) := by decide +kernel
theorem d_M_isIn_43 : decode b_M_isIn 43 = .ok (.iadd, 1) := by decide +kernel
theorem d_M_isIn_44 : decode b_M_isIn 44 = .ok (.laload, 1) := by decide +kernel
theorem d_M_isIn_45 : decode b_M_isIn 45 = .ok (.aload_n 0, 1) := by decide +kernel
theorem d_M_isIn_46 : decode b_M_isIn 46 = .ok (.getfield 62, 3) := by decide +kernel
theorem d_M_isIn_49 : decode b_M_isIn 49 = .ok (.bipush 8, 2) := by decide +kernel
theorem d_M_isIn_51 : decode b_M_isIn 51 = .ok (.iload_n 1, 1) := by decide +kernel
theorem d_M_isIn_52 : decode b_M_isIn 52 = .ok (.imul, 1) := by decide +kernel
theorem d_M_isIn_53 : decode b_M_isIn 53 = .ok (.iload 8, 2) := by decide +kernel
theorem d_M_isIn_55 : decode b_M_isIn 55 = .ok (.iadd, 1) := by decide +kernel
theorem d_M_isIn_56 : decode b_M_isIn 56 = .ok (.laload, 1) := by decide +kernel
theorem d_M_isIn_57 : decode b_M_isIn 57 = .ok (.aload_n 0, 1) := by decide +kernel
theorem d_M_isIn_58 : decode b_M_isIn 58 = .ok (.getfield 59, 3) := by decide +kernel
theorem d_M_isIn_61 : decode b_M_isIn 61 = .ok (.bipush 8, 2) := by decide +kernel
theorem d_M_isIn_63 : decode b_M_isIn 63 = .ok (.iload_n 1, 1) := by decide +kernel
theorem d_M_isIn_64 : decode b_M_isIn 64 = .ok (.imul, 1) := by decide +kernel
theorem d_M_isIn_65 : decode b_M_isIn 65 = .ok (.iload 9, 2) := by decide +kernel
theorem d_M_isIn_67 : decode b_M_isIn 67 = .ok (.iadd, 1) := by decide +kernel
theorem d_M_isIn_68 : decode b_M_isIn 68 = .ok (.laload, 1) := by decide +kernel
theorem d_M_isIn_69 : decode b_M_isIn 69 = .ok (.aload_n 0, 1) := by decide +kernel
theorem d_M_isIn_70 : decode b_M_isIn 70 = .ok (.getfield 62, 3) := by decide +kernel
theorem d_M_isIn_73 : decode b_M_isIn 73 = .ok (.bipush 8, 2) := by decide +kernel
theorem d_M_isIn_75 : decode b_M_isIn 75 = .ok (.iload_n 1, 1) := by decide +kernel
theorem d_M_isIn_76 : decode b_M_isIn 76 = .ok (.imul, 1) := by decide +kernel
theorem d_M_isIn_77 : decode b_M_isIn 77 = .ok (.iload 9, 2) := by decide +kernel
theorem d_M_isIn_79 : decode b_M_isIn 79 = .ok (.iadd, 1) := by decide +kernel
theorem d_M_isIn_80 : decode b_M_isIn 80 = .ok (.laload, 1) := by decide +kernel
theorem d_M_isIn_81 : decode b_M_isIn 81 = .ok (.lload_n 2, 1) := by decide +kernel
theorem d_M_isIn_82 : decode b_M_isIn 82 = .ok (.lload 4, 2) := by decide +kernel
theorem d_M_isIn_84 : decode b_M_isIn 84 = .ok (.invokestatic 124, 3) := by decide +kernel
theorem d_M_isIn_87 : decode b_M_isIn 87 = .ok (.lstore 10, 2) := by decide +kernel
theorem d_M_isIn_89 : decode b_M_isIn 89 = .ok (.iload 6, 2) := by decide +kernel
theorem d_M_isIn_91 : decode b_M_isIn 91 = .ok (.ifCond .ne 10, 3) := by decide +kernel
theorem d_M_isIn_94 : decode b_M_isIn 94 = .ok (.lload 10, 2) := by decide +kernel
theorem d_M_isIn_96 : decode b_M_isIn 96 = .ok (.lconst 0, 1) := by decide +kernel
theorem d_M_isIn_97 : decode b_M_isIn 97 = .ok (.lcmp, 1) := by decide +kernel
theorem d_M_isIn_98 : decode b_M_isIn 98 = .ok (.ifCond .le 7, 3) := by decide +kernel
theorem d_M_isIn_101 : decode b_M_isIn 101 = .ok (.iconst 1, 1) := by decide +kernel
theorem d_M_isIn_102 : decode b_M_isIn 102 = .ok (.goto 4, 3) := by decide +kernel
theorem d_M_isIn_105 : decode b_M_isIn 105 = .ok (.iconst 0, 1) := by decide +kernel
theorem d_M_isIn_106 : decode b_M_isIn 106 = .ok (.istore 6, 2) := by decide +kernel
theorem d_M_isIn_108 : decode b_M_isIn 108 = .ok (.iload 7, 2) := by decide +kernel
theorem d_M_isIn_110 : decode b_M_isIn 110 = .ok (.ifCond .ne 10, 3) := by decide +kernel
theorem d_M_isIn_113 : decode b_M_isIn 113 = .ok (.lload 10, 2) := by decide +kernel
theorem d_M_isIn_115 : decode b_M_isIn 115 = .ok (.lconst 0, 1) := by decide +kernel
theorem d_M_isIn_116 : decode b_M_isIn 116 = .ok (.lcmp, 1) := by decide +kernel
theorem d_M_isIn_117 : decode b_M_isIn 117 = .ok (.ifCond .ge 7, 3) := by decide +kernel
theorem d_M_isIn_120 : decode b_M_isIn 120 = .ok (.iconst 1, 1) := by decide +kernel
theorem d_M_isIn_121 : decode b_M_isIn 121 = .ok (.goto 4, 3) := by decide +kernel
theorem d_M_isIn_124 : decode b_M_isIn 124 = .ok (.iconst 0, 1) := by decide +kernel
theorem d_M_isIn_125 : decode b_M_isIn 125 = .ok (.istore 7, 2) := by decide +kernel
theorem d_M_isIn_127 : decode b_M_isIn 127 = .ok (.iinc 8 1, 3) := by decide +kernel
theorem d_M_isIn_130 : decode b_M_isIn 130 = .ok (.goto (-121), 3) := by decide +kernel
theorem d_M_isIn_133 : decode b_M_isIn 133 = .ok (.iload 6, 2) := by decide +kernel
theorem d_M_isIn_135 : decode b_M_isIn 135 = .ok (.ifCond .eq 8, 3) := by decide +kernel
theorem d_M_isIn_138 : decode b_M_isIn 138 = .ok (.iload 7, 2) := by decide +kernel
theorem d_M_isIn_140 : decode b_M_isIn 140 = .ok (.ifCond .ne 7, 3) := by decide +kernel
theorem d_M_isIn_143 : decode b_M_isIn 143 = .ok (.iconst 1, 1) := by decide +kernel
theorem d_M_isIn_144 : decode b_M_isIn 144 = .ok (.goto 4, 3) := by decide +kernel
theorem d_M_isIn_147 : decode b_M_isIn 147 = .ok (.iconst 0, 1) := by decide +kernel
theorem d_M_isIn_148 : decode b_M_isIn 148 = .ok (.ireturn, 1) := by decide +kernel
abbrev rm_M_isIn : Room := { frames := 1, cells := 0, slots := 0, locals := 31 }
theorem ce_M_isIn : gCe y_M_isIn (.code y_M_isIn b_M_isIn 12 (some .boolean)) 12 3 false := gCe.code wd_1047 wd_57 wd_1046 (by decide) (by decide +kernel)
def f_M_isIn_L9 (g0 : gG) (c0 : Nat) (c1 : Int32) (c2 : Int64) (c4 : Int64) (K133 : Int32 → Int32 → gW → gX Int32) : Nat → Int32 → Int32 → Int32 → gW → gX Int32
  | 0, _, _, _, _ => none
  | n + 1, z6, z7, z8, w => (gfA w c0 7 21).bind fun v7 => (gaI w v7 c1).bind fun v9 => if v9 ≤ z8 then (K133 z6 z7 w) else ((gfA w c0 7 21).bind fun v12 => (gaI w v12 c1).bind fun v14 => gguard (¬ v14 = 0) ((gfA w c0 7 22).bind fun v17 => (gaJ w v17 ((8 * c1) + z8)).bind fun v19 => (gfA w c0 7 23).bind fun v21 => (gaJ w v21 ((8 * c1) + z8)).bind fun v23 => (gfA w c0 7 22).bind fun v25 => (gaJ w v25 ((8 * c1) + ((z8 + 1) - (z8 + 1) / v14 * v14))).bind fun v27 => (gfA w c0 7 23).bind fun v29 => (gaJ w v29 ((8 * c1) + ((z8 + 1) - (z8 + 1) / v14 * v14))).bind fun v31 => gbind (f_M_cross g0 v19 v23 v27 v31 c2 c4 w) fun v35 w => gjoin (fun K106 => gjoin (fun K101 => if z6 = 0 then (if v35 ≤ 0 then (K106 0 w) else (K101 w)) else (K101 w)) (fun (w : gW) => K106 1 w)) (fun (y36 : Int32) (w : gW) => gjoin (fun K125 => gjoin (fun K120 => if z7 = 0 then (if 0 ≤ v35 then (K125 0 w) else (K120 w)) else (K120 w)) (fun (w : gW) => K125 1 w)) (fun (y37 : Int32) (w : gW) => f_M_isIn_L9 g0 c0 c1 c2 c4 K133 n y36 y37 (z8 + 1) w))))
def f_M_isIn (g0 : gG) (a0 : Nat) (p1 : Int32) (p2 : Int64) (p3 : Int64) (w : gW) : gX Int32 := gjoin (fun K133 => f_M_isIn_L9 g0 a0 p1 p2 p3 K133 64 0 0 0 w) (fun (x1 : Int32) (x2 : Int32) (w : gW) => gjoin (fun K148 => gjoin (fun K143 => if x1 = 0 then (K143 w) else (if x2 = 0 then (K143 w) else (K148 0 w))) (fun (w : gW) => K148 1 w)) (fun (y3 : Int32) (w : gW) => gguard (y3 = 0 ∨ y3 = 1) (some (.inr y3, w))))
set_option maxHeartbeats 4000000 in
set_option maxRecDepth 100000 in
theorem m_M_isIn (l : Launch) (hst : l.stackTraces = false) (D : gD) (g0 : gG) (a0 : Nat) (p1 : Int32) (p2 : Int64) (p3 : Int64) (w : gW) (r : (String ⊕ Int32) × gW) (h : f_M_isIn g0 a0 p1 p2 p3 w = some r) : gMet l y_M_isIn (.code y_M_isIn b_M_isIn 12 (some .boolean)) rm_M_isIn D g0 [.ref a0, .int p1, .long p2, .long p3] w (goI r) := by
  refine gw_ofZ (by decide +kernel) (Nat.le_of_ble_eq_true rfl) ?_
  intro p e s m below meth c ls args A Q hx hb hml hown hlocks hin hnt hT hK hZ hA hret hexc hthr hI hl
  obtain ⟨H, hH⟩ : ∃ H, H = s.heap := ⟨_, rfl⟩
  rw [← hH] at hI ⊢
  obtain ⟨locs, hlocs⟩ : ∃ z : List Loc, z = [] := ⟨_, rfl⟩
  rw [← hlocs] at hI ⊢
  have hl : lv_has ls 12 [(0, .ref a0), (1, .int p1), (2, .long p2), (4, .long p3)] := hl
  unfold f_M_isIn at h
  refine lv_iconst (v := 0) hx hb d_M_isIn_0 (by decide) ?_
  refine lv_istore (lv' := [(6, .int 0), (0, .ref a0), (1, .int p1), (2, .long p2), (4, .long p3)]) hx hb d_M_isIn_1 hl (by decide) rfl (fun ls hl => ?_)
  refine lv_iconst (v := 0) hx hb d_M_isIn_3 (by decide) ?_
  refine lv_istore (lv' := [(7, .int 0), (6, .int 0), (0, .ref a0), (1, .int p1), (2, .long p2), (4, .long p3)]) hx hb d_M_isIn_4 hl (by decide) rfl (fun ls hl => ?_)
  refine lv_iconst (v := 0) hx hb d_M_isIn_6 (by decide) ?_
  refine lv_istore (lv' := [(8, .int 0), (7, .int 0), (6, .int 0), (0, .ref a0), (1, .int p1), (2, .long p2), (4, .long p3)]) hx hb d_M_isIn_7 hl (by decide) rfl (fun ls hl => ?_)
  obtain ⟨K133, eK133, h⟩ := gj h
  have hK133 : ∀ (x1 : Int32) (x2 : Int32) (w : gW) (H : Heap) (locs : List Loc) (ls : Array Slot), K133 x1 x2 w = some r → gI D s A w H locs → lv_has ls 12 [(6, .int x1), (7, .int x2)] → W p l e rm_M_isIn s m args below meth c H locs 0 0 Q (F0 m 133 ls []) := by
    intro x1 x2 w H locs ls h hI hl
    have h := gk3 eK133 h
    refine lv_iload hx hb d_M_isIn_133 (lv_at hl 0 rfl) ?_
    obtain ⟨K148, eK148, h⟩ := gj h
    have hK148 : ∀ (y3 : Int32) (w : gW) (H : Heap) (locs : List Loc) (ls : Array Slot), K148 y3 w = some r → gI D s A w H locs → lv_has ls 12 [] → W p l e rm_M_isIn s m args below meth c H locs 0 0 Q (F0 m 148 ls [.int y3]) := by
      intro y3 w H locs ls h hI hl
      have h := gk2 eK148 h
      obtain ⟨g4, h⟩ := gif h
      exact W.widen (show 0 ≤ 0 by omega) (show 0 ≤ 0 by omega) (hret g4 0 _ (Option.some.inj h).symm _ _ _ _ d_M_isIn_148 hI)
    obtain ⟨K143, eK143, h⟩ := gj h
    have hK143 : ∀ (w : gW) (H : Heap) (locs : List Loc) (ls : Array Slot), K143 w = some r → gI D s A w H locs → lv_has ls 12 [] → W p l e rm_M_isIn s m args below meth c H locs 0 0 Q (F0 m 143 ls []) := by
      intro w H locs ls h hI hl
      have h := gk1 eK143 h
      refine lv_iconst (v := 1) hx hb d_M_isIn_143 (by decide) ?_
      refine lv_goto (tgt := 148) hx hb d_M_isIn_144 (by decide) ?_
      exact hK148 _ w H locs ls h hI (lv_sub hl [] rfl)
    refine lv_if_eq (tgt := 143) hx hb d_M_isIn_135 (by decide) (fun c5 => ?_) (fun c5 => ?_)
    · skip
      have h := git c5 h
      exact hK143 w H locs ls h hI (lv_sub hl [] rfl)
    · skip
      have h := gie c5 h
      refine lv_iload hx hb d_M_isIn_138 (lv_at hl 1 rfl) ?_
      refine lv_if_ne (tgt := 147) hx hb d_M_isIn_140 (by decide) (fun c6 => ?_) (fun c6 => ?_)
      · skip
        have h := gie c6 h
        refine lv_iconst (v := 0) hx hb d_M_isIn_147 (by decide) ?_
        exact hK148 _ w H locs ls h hI (lv_sub hl [] rfl)
      · skip
        have h := git c6 h
        exact hK143 w H locs ls h hI (lv_sub hl [] rfl)
  have hL9 : ∀ (n : Nat), ∀ (z7 : Int32) (z8 : Int32) (z9 : Int32) (w : gW) (H : Heap) (locs : List Loc) (ls : Array Slot), f_M_isIn_L9 g0 a0 p1 p2 p3 K133 n z7 z8 z9 w = some r → gI D s A w H locs → lv_has ls 12 [(0, .ref a0), (1, .int p1), (2, .long p2), (4, .long p3), (6, .int z7), (7, .int z8), (8, .int z9)] → W p l e rm_M_isIn s m args below meth c H locs 0 0 Q (F0 m 9 ls []) := by
    intro n
    induction n with
    | zero => intro z7 z8 z9 w H locs ls h hI hl; exact absurd h (by simp [f_M_isIn_L9])
    | succ n ih =>
      intro z7 z8 z9 w H locs ls h hI hl
      rw [f_M_isIn_L9] at h
      refine lv_iload hx hb d_M_isIn_9 (lv_at hl 6 rfl) ?_
      refine lv_aload_n hx hb d_M_isIn_11 rfl (lv_at hl 0 rfl) ?_
      obtain ⟨v10, e11, h⟩ := gb h
      refine gw_getA hx hb hT hown hK hI (ci := 7) rfl i_7 21 (by decide) wd_807 (fun _ h9 => h9) e11 d_M_isIn_12 ?_
      refine lv_iload_n hx hb d_M_isIn_15 rfl (lv_at hl 1 rfl) ?_
      obtain ⟨v12, e13, h⟩ := gb h
      refine gw_aldI hx hb hK hI e13 d_M_isIn_16 ?_
      refine lv_icmp_ge (tgt := 133) hx hb d_M_isIn_17 (by decide) (fun c14 => ?_) (fun c14 => ?_)
      · skip
        have h := git c14 h
        exact hK133 _ _ w H locs ls h hI (lv_sub hl [4, 5] rfl)
      · skip
        have h := gie c14 h
        refine lv_iload hx hb d_M_isIn_20 (lv_at hl 6 rfl) ?_
        refine lv_iconst (v := 1) hx hb d_M_isIn_22 (by decide) ?_
        refine lv_iadd hx hb d_M_isIn_23 ?_
        refine lv_aload_n hx hb d_M_isIn_24 rfl (lv_at hl 0 rfl) ?_
        obtain ⟨v15, e16, h⟩ := gb h
        refine gw_getA hx hb hT hown hK hI (ci := 7) rfl i_7 21 (by decide) wd_807 (fun _ h9 => h9) e16 d_M_isIn_25 ?_
        refine lv_iload_n hx hb d_M_isIn_28 rfl (lv_at hl 1 rfl) ?_
        obtain ⟨v17, e18, h⟩ := gb h
        refine gw_aldI hx hb hK hI e18 d_M_isIn_29 ?_
        obtain ⟨g19, h⟩ := gif h
        refine lv_irem hx hb d_M_isIn_30 g19 ?_
        refine lv_istore (lv' := [(9, .int ((z9 + 1) - (z9 + 1) / v17 * v17)), (0, .ref a0), (1, .int p1), (2, .long p2), (4, .long p3), (6, .int z7), (7, .int z8), (8, .int z9)]) hx hb d_M_isIn_31 hl (by decide) rfl (fun ls hl => ?_)
        refine lv_aload_n hx hb d_M_isIn_33 rfl (lv_at hl 1 rfl) ?_
        obtain ⟨v20, e21, h⟩ := gb h
        refine gw_getA hx hb hT hown hK hI (ci := 7) rfl i_7 22 (by decide) wd_808 (fun _ h9 => h9) e21 d_M_isIn_34 ?_
        refine lv_bipush (v := 8) hx hb d_M_isIn_37 (by decide) ?_
        refine lv_iload_n hx hb d_M_isIn_39 rfl (lv_at hl 2 rfl) ?_
        refine lv_imul hx hb d_M_isIn_40 ?_
        refine lv_iload hx hb d_M_isIn_41 (lv_at hl 7 rfl) ?_
        refine lv_iadd hx hb d_M_isIn_43 ?_
        obtain ⟨v22, e23, h⟩ := gb h
        refine gw_aldJ hx hb hK hI e23 d_M_isIn_44 ?_
        refine lv_aload_n hx hb d_M_isIn_45 rfl (lv_at hl 1 rfl) ?_
        obtain ⟨v24, e25, h⟩ := gb h
        refine gw_getA hx hb hT hown hK hI (ci := 7) rfl i_7 23 (by decide) wd_809 (fun _ h9 => h9) e25 d_M_isIn_46 ?_
        refine lv_bipush (v := 8) hx hb d_M_isIn_49 (by decide) ?_
        refine lv_iload_n hx hb d_M_isIn_51 rfl (lv_at hl 2 rfl) ?_
        refine lv_imul hx hb d_M_isIn_52 ?_
        refine lv_iload hx hb d_M_isIn_53 (lv_at hl 7 rfl) ?_
        refine lv_iadd hx hb d_M_isIn_55 ?_
        obtain ⟨v26, e27, h⟩ := gb h
        refine gw_aldJ hx hb hK hI e27 d_M_isIn_56 ?_
        refine lv_aload_n hx hb d_M_isIn_57 rfl (lv_at hl 1 rfl) ?_
        obtain ⟨v28, e29, h⟩ := gb h
        refine gw_getA hx hb hT hown hK hI (ci := 7) rfl i_7 22 (by decide) wd_808 (fun _ h9 => h9) e29 d_M_isIn_58 ?_
        refine lv_bipush (v := 8) hx hb d_M_isIn_61 (by decide) ?_
        refine lv_iload_n hx hb d_M_isIn_63 rfl (lv_at hl 2 rfl) ?_
        refine lv_imul hx hb d_M_isIn_64 ?_
        refine lv_iload hx hb d_M_isIn_65 (lv_at hl 0 rfl) ?_
        refine lv_iadd hx hb d_M_isIn_67 ?_
        obtain ⟨v30, e31, h⟩ := gb h
        refine gw_aldJ hx hb hK hI e31 d_M_isIn_68 ?_
        refine lv_aload_n hx hb d_M_isIn_69 rfl (lv_at hl 1 rfl) ?_
        obtain ⟨v32, e33, h⟩ := gb h
        refine gw_getA hx hb hT hown hK hI (ci := 7) rfl i_7 23 (by decide) wd_809 (fun _ h9 => h9) e33 d_M_isIn_70 ?_
        refine lv_bipush (v := 8) hx hb d_M_isIn_73 (by decide) ?_
        refine lv_iload_n hx hb d_M_isIn_75 rfl (lv_at hl 2 rfl) ?_
        refine lv_imul hx hb d_M_isIn_76 ?_
        refine lv_iload hx hb d_M_isIn_77 (lv_at hl 0 rfl) ?_
        refine lv_iadd hx hb d_M_isIn_79 ?_
        obtain ⟨v34, e35, h⟩ := gb h
        refine gw_aldJ hx hb hK hI e35 d_M_isIn_80 ?_
        refine lv_lload_n hx hb d_M_isIn_81 rfl (lv_at hl 3 rfl) ?_
        refine lv_lload hx hb d_M_isIn_82 (lv_at hl 4 rfl) ?_
        obtain ⟨u36, e37⟩ := gsome h
        refine gw_callJ e37 h (gw_runS (As := [.long v22, .long v26, .long v30, .long v34, .long p2, .long p3]) (rest := []) hx hb hml hown hT hK hZ hA hI (m_M_cross l hst D g0 v22 v26 v30 v34 p2 p3 w u36 e37) ce_M_cross wd_922 ⟨by decide, by decide⟩ rfl rfl hl.1 rfl (lv_room (Nat.le_of_ble_eq_true rfl)) d_M_isIn_84 ⟨(show 0 + 0 ≤ 0 by omega), (show 0 + 0 ≤ 0 by omega)⟩) hI hA hexc (show 0 + 0 ≤ 0 by omega) (show 0 + 0 ≤ 0 by omega) (fun v38 w H locs h hI => ?_)
        refine lv_lstore (lv' := [(10, .long v38), (9, .int ((z9 + 1) - (z9 + 1) / v17 * v17)), (0, .ref a0), (1, .int p1), (2, .long p2), (4, .long p3), (6, .int z7), (7, .int z8), (8, .int z9)]) hx hb d_M_isIn_87 hl (by decide) rfl (fun ls hl => ?_)
        refine lv_iload hx hb d_M_isIn_89 (lv_at hl 6 rfl) ?_
        obtain ⟨K106, eK106, h⟩ := gj h
        have hK106 : ∀ (y39 : Int32) (w : gW) (H : Heap) (locs : List Loc) (ls : Array Slot), K106 y39 w = some r → gI D s A w H locs → lv_has ls 12 [(0, .ref a0), (1, .int p1), (2, .long p2), (4, .long p3), (7, .int z8), (8, .int z9), (10, .long v38)] → W p l e rm_M_isIn s m args below meth c H locs 0 0 Q (F0 m 106 ls [.int y39]) := by
          intro y39 w H locs ls h hI hl
          have h := gk2 eK106 h
          refine lv_istore (lv' := [(6, .int y39), (0, .ref a0), (1, .int p1), (2, .long p2), (4, .long p3), (7, .int z8), (8, .int z9), (10, .long v38)]) hx hb d_M_isIn_106 hl (by decide) rfl (fun ls hl => ?_)
          refine lv_iload hx hb d_M_isIn_108 (lv_at hl 5 rfl) ?_
          obtain ⟨K125, eK125, h⟩ := gj h
          have hK125 : ∀ (y40 : Int32) (w : gW) (H : Heap) (locs : List Loc) (ls : Array Slot), K125 y40 w = some r → gI D s A w H locs → lv_has ls 12 [(0, .ref a0), (1, .int p1), (2, .long p2), (4, .long p3), (6, .int y39), (8, .int z9)] → W p l e rm_M_isIn s m args below meth c H locs 0 0 Q (F0 m 125 ls [.int y40]) := by
            intro y40 w H locs ls h hI hl
            have h := gk2 eK125 h
            refine lv_istore (lv' := [(7, .int y40), (0, .ref a0), (1, .int p1), (2, .long p2), (4, .long p3), (6, .int y39), (8, .int z9)]) hx hb d_M_isIn_125 hl (by decide) rfl (fun ls hl => ?_)
            refine lv_iinc (v := z9 + 1) (lv' := [(8, .int (z9 + 1)), (7, .int y40), (0, .ref a0), (1, .int p1), (2, .long p2), (4, .long p3), (6, .int y39)]) hx hb d_M_isIn_127 hl (k := 6) rfl rfl (by decide) rfl (fun ls hl => ?_)
            refine lv_goto (tgt := 9) hx hb d_M_isIn_130 (by decide) ?_
            exact ih _ _ _ w H locs ls h hI (lv_sub hl [2, 3, 4, 5, 6, 1, 0] rfl)
          obtain ⟨K120, eK120, h⟩ := gj h
          have hK120 : ∀ (w : gW) (H : Heap) (locs : List Loc) (ls : Array Slot), K120 w = some r → gI D s A w H locs → lv_has ls 12 [(0, .ref a0), (1, .int p1), (2, .long p2), (4, .long p3), (6, .int y39), (8, .int z9)] → W p l e rm_M_isIn s m args below meth c H locs 0 0 Q (F0 m 120 ls []) := by
            intro w H locs ls h hI hl
            have h := gk1 eK120 h
            refine lv_iconst (v := 1) hx hb d_M_isIn_120 (by decide) ?_
            refine lv_goto (tgt := 125) hx hb d_M_isIn_121 (by decide) ?_
            exact hK125 _ w H locs ls h hI (lv_sub hl [0, 1, 2, 3, 4, 5] rfl)
          refine lv_if_ne (tgt := 120) hx hb d_M_isIn_110 (by decide) (fun c41 => ?_) (fun c41 => ?_)
          · skip
            have h := gie c41 h
            exact hK120 w H locs ls h hI (lv_sub hl [1, 2, 3, 4, 0, 6] rfl)
          · skip
            have h := git c41 h
            refine lv_lload hx hb d_M_isIn_113 (lv_at hl 7 rfl) ?_
            refine lv_lconst (v := 0) hx hb d_M_isIn_115 (by decide) ?_
            refine W.lcmp hx hb d_M_isIn_116 ?_
            refine lv_if_ge (tgt := 124) hx hb d_M_isIn_117 (by decide) (fun c42 => ?_) (fun c42 => ?_)
            · have c42 := (lg_cmp_ge _ _).mp c42
              have h := git c42 h
              refine lv_iconst (v := 0) hx hb d_M_isIn_124 (by decide) ?_
              exact hK125 _ w H locs ls h hI (lv_sub hl [1, 2, 3, 4, 0, 6] rfl)
            · have c42 := mt (lg_cmp_ge _ _).mpr c42
              have h := gie c42 h
              exact hK120 w H locs ls h hI (lv_sub hl [1, 2, 3, 4, 0, 6] rfl)
        obtain ⟨K101, eK101, h⟩ := gj h
        have hK101 : ∀ (w : gW) (H : Heap) (locs : List Loc) (ls : Array Slot), K101 w = some r → gI D s A w H locs → lv_has ls 12 [(0, .ref a0), (1, .int p1), (2, .long p2), (4, .long p3), (7, .int z8), (8, .int z9), (10, .long v38)] → W p l e rm_M_isIn s m args below meth c H locs 0 0 Q (F0 m 101 ls []) := by
          intro w H locs ls h hI hl
          have h := gk1 eK101 h
          refine lv_iconst (v := 1) hx hb d_M_isIn_101 (by decide) ?_
          refine lv_goto (tgt := 106) hx hb d_M_isIn_102 (by decide) ?_
          exact hK106 _ w H locs ls h hI (lv_sub hl [0, 1, 2, 3, 4, 5, 6] rfl)
        refine lv_if_ne (tgt := 101) hx hb d_M_isIn_91 (by decide) (fun c43 => ?_) (fun c43 => ?_)
        · skip
          have h := gie c43 h
          exact hK101 w H locs ls h hI (lv_sub hl [2, 3, 4, 5, 7, 8, 0] rfl)
        · skip
          have h := git c43 h
          refine lv_lload hx hb d_M_isIn_94 (lv_at hl 0 rfl) ?_
          refine lv_lconst (v := 0) hx hb d_M_isIn_96 (by decide) ?_
          refine W.lcmp hx hb d_M_isIn_97 ?_
          refine lv_if_le (tgt := 105) hx hb d_M_isIn_98 (by decide) (fun c44 => ?_) (fun c44 => ?_)
          · have c44 := (lg_cmp_le _ _).mp c44
            have h := git c44 h
            refine lv_iconst (v := 0) hx hb d_M_isIn_105 (by decide) ?_
            exact hK106 _ w H locs ls h hI (lv_sub hl [2, 3, 4, 5, 7, 8, 0] rfl)
          · have c44 := mt (lg_cmp_le _ _).mpr c44
            have h := gie c44 h
            exact hK101 w H locs ls h hI (lv_sub hl [2, 3, 4, 5, 7, 8, 0] rfl)
  exact hL9 64 _ _ _ w H locs ls h hI (lv_sub hl [3, 4, 5, 6, 2, 1, 0] rfl)
