abbrev b_Ma_max2 : ByteArray := prog_17_method_66_code
def y_Ma_max2 : MethodName := ⟨"java/lang/Math", "max", "(JJ)J"⟩
theorem d_Ma_max2_0 : decode b_Ma_max2 0 = .ok (.lload_n 0, 1) := by decide +kernel
theorem d_Ma_max2_1 : decode b_Ma_max2 1 = .ok (.lload_n 2, 1) := by decide +kernel
theorem d_Ma_max2_2 : decode b_Ma_max2 2 = .ok (.lcmp, 1) := by decide +kernel
theorem d_Ma_max2_3 : decode b_Ma_max2 3 = .ok (.ifCond .lt 7, 3) := by decide +kernel
theorem d_Ma_max2_6 : decode b_Ma_max2 6 = .ok (.lload_n 0, 1) := by decide +kernel
theorem d_Ma_max2_7 : decode b_Ma_max2 7 = .ok (.goto 4, 3) := by decide +kernel
theorem d_Ma_max2_10 : decode b_Ma_max2 10 = .ok (.lload_n 2, 1) := by decide +kernel
theorem d_Ma_max2_11 : decode b_Ma_max2 11 = .ok (.lreturn, 1) := by decide +kernel
abbrev rm_Ma_max2 : Room := { frames := 0, cells := 0, slots := 0, locals := 0 }
theorem ce_Ma_max2 : gCe y_Ma_max2 (.code y_Ma_max2 b_Ma_max2 4 (some .long)) 4 2 true := gCe.code wd_86 wd_50 wd_85 (by decide) (by decide +kernel)
def f_Ma_max2 (g0 : Nat) (p0 : Int64) (p1 : Int64) (w : gW) : gX Int64 := gjoin (fun K11 => if p0 < p1 then (K11 p1 w) else (K11 p0 w)) (fun (y1 : Int64) (w : gW) => some (.inr y1, w))
set_option maxHeartbeats 4000000 in
set_option maxRecDepth 100000 in
theorem m_Ma_max2 (l : Launch) (D : gD) (g0 : Nat) (p0 : Int64) (p1 : Int64) (w : gW) (r : (String ⊕ Int64) × gW) (h : f_Ma_max2 g0 p0 p1 w = some r) : gMet l y_Ma_max2 (.code y_Ma_max2 b_Ma_max2 4 (some .long)) rm_Ma_max2 D g0 [.long p0, .long p1] w (goJ r) := by
  refine gw_ofJ (by decide +kernel) (Nat.le_of_ble_eq_true rfl) ?_
  intro p e s m below meth c ls args A Q hx hb hml hown hlocks hin hnt hT hK hZ hA hret hexc hI hl
  obtain ⟨H, hH⟩ : ∃ H, H = s.heap := ⟨_, rfl⟩
  rw [← hH] at hI ⊢
  obtain ⟨locs, hlocs⟩ : ∃ z : List Loc, z = [] := ⟨_, rfl⟩
  rw [← hlocs] at hI ⊢
  have hl : lv_has ls 4 [(0, .long p0), (2, .long p1)] := hl
  unfold f_Ma_max2 at h
  refine lv_lload_n hx hb d_Ma_max2_0 rfl (lv_at hl 0 rfl) ?_
  refine lv_lload_n hx hb d_Ma_max2_1 rfl (lv_at hl 1 rfl) ?_
  refine W.lcmp hx hb d_Ma_max2_2 ?_
  obtain ⟨K11, eK11, h⟩ := gj h
  have hK11 : ∀ (y1 : Int64) (w : gW) (H : Heap) (locs : List Loc) (ls : Array Slot), K11 y1 w = some r → gI D s A w H locs → lv_has ls 4 [] → W p l e rm_Ma_max2 s m args below meth c H locs 0 0 Q (F0 m 11 ls [.long y1]) := by
    intro y1 w H locs ls h hI hl
    have h := gk2 eK11 h
    exact W.widen (show 0 ≤ 0 by omega) (show 0 ≤ 0 by omega) (hret _ _ (Option.some.inj h).symm _ _ _ _ d_Ma_max2_11 hI)
  refine lv_if_lt (tgt := 10) hx hb d_Ma_max2_3 (by decide) (fun c2 => ?_) (fun c2 => ?_)
  · have c2 := (lg_cmp_lt _ _).mp c2
    have h := git c2 h
    refine lv_lload_n hx hb d_Ma_max2_10 rfl (lv_at hl 1 rfl) ?_
    exact hK11 _ w H locs ls h hI (lv_sub hl [] rfl)
  · have c2 := mt (lg_cmp_lt _ _).mpr c2
    have h := gie c2 h
    refine lv_lload_n hx hb d_Ma_max2_6 rfl (lv_at hl 0 rfl) ?_
    refine lv_goto (tgt := 11) hx hb d_Ma_max2_7 (by decide) ?_
    exact hK11 _ w H locs ls h hI (lv_sub hl [] rfl)

abbrev b_Me_gap : ByteArray := prog_5_method_3_code
def y_Me_gap : MethodName := ⟨"BodySolids$Meeting", "gap", "(JJJJ)J"⟩
theorem d_Me_gap_0 : decode b_Me_gap 0 = .ok (.lload 4, 2) := by decide +kernel
theorem d_Me_gap_2 : decode b_Me_gap 2 = .ok (.lload_n 2, 1) := by decide +kernel
theorem d_Me_gap_3 : decode b_Me_gap 3 = .ok (.lsub, 1) := by decide +kernel
theorem d_Me_gap_4 : decode b_Me_gap 4 = .ok (.lload_n 0, 1) := by decide +kernel
theorem d_Me_gap_5 : decode b_Me_gap 5 = .ok (.lload 6, 2) := by decide +kernel
theorem d_Me_gap_7 : decode b_Me_gap 7 = .ok (.lsub, 1) := by decide +kernel
theorem d_Me_gap_8 : decode b_Me_gap 8 = .ok (.invokestatic 68, 3) := by decide +kernel
theorem d_Me_gap_11 : decode b_Me_gap 11 = .ok (.lreturn, 1) := by decide +kernel
abbrev rm_Me_gap : Room := { frames := 1, cells := 0, slots := 0, locals := 23 }
theorem ce_Me_gap : gCe y_Me_gap (.code y_Me_gap b_Me_gap 8 (some .long)) 8 4 true := gCe.code wd_378 wd_69 wd_377 (by decide) (by decide +kernel)
def f_Me_gap (g0 : Nat) (p0 : Int64) (p1 : Int64) (p2 : Int64) (p3 : Int64) (w : gW) : gX Int64 := gbind (f_Ma_max2 g0 (p2 - p1) (p0 - p3) w) fun v3 w => some (.inr v3, w)
set_option maxHeartbeats 4000000 in
set_option maxRecDepth 100000 in
theorem m_Me_gap (l : Launch) (D : gD) (g0 : Nat) (p0 : Int64) (p1 : Int64) (p2 : Int64) (p3 : Int64) (w : gW) (r : (String ⊕ Int64) × gW) (h : f_Me_gap g0 p0 p1 p2 p3 w = some r) : gMet l y_Me_gap (.code y_Me_gap b_Me_gap 8 (some .long)) rm_Me_gap D g0 [.long p0, .long p1, .long p2, .long p3] w (goJ r) := by
  refine gw_ofJ (by decide +kernel) (Nat.le_of_ble_eq_true rfl) ?_
  intro p e s m below meth c ls args A Q hx hb hml hown hlocks hin hnt hT hK hZ hA hret hexc hI hl
  obtain ⟨H, hH⟩ : ∃ H, H = s.heap := ⟨_, rfl⟩
  rw [← hH] at hI ⊢
  obtain ⟨locs, hlocs⟩ : ∃ z : List Loc, z = [] := ⟨_, rfl⟩
  rw [← hlocs] at hI ⊢
  have hl : lv_has ls 8 [(0, .long p0), (2, .long p1), (4, .long p2), (6, .long p3)] := hl
  unfold f_Me_gap at h
  refine lv_lload hx hb d_Me_gap_0 (lv_at hl 2 rfl) ?_
  refine lv_lload_n hx hb d_Me_gap_2 rfl (lv_at hl 1 rfl) ?_
  refine lv_lsub hx hb d_Me_gap_3 ?_
  refine lv_lload_n hx hb d_Me_gap_4 rfl (lv_at hl 0 rfl) ?_
  refine lv_lload hx hb d_Me_gap_5 (lv_at hl 3 rfl) ?_
  refine lv_lsub hx hb d_Me_gap_7 ?_
  obtain ⟨u1, e2⟩ := gsome h
  refine gw_callJ e2 h (gw_runS (As := [.long (p2 - p1), .long (p0 - p3)]) (rest := []) hx hb hml hown hT hK hZ hA hI (m_Ma_max2 l D g0 (p2 - p1) (p0 - p3) w u1 e2) ce_Ma_max2 wd_379 ⟨by decide, by decide⟩ rfl rfl hl.1 rfl (lv_room (Nat.le_of_ble_eq_true rfl)) d_Me_gap_8 ⟨(show 0 + 0 ≤ 0 by omega), (show 0 + 0 ≤ 0 by omega)⟩) hI hA hexc (show 0 + 0 ≤ 0 by omega) (show 0 + 0 ≤ 0 by omega) (fun v3 w H locs h hI => ?_)
  exact W.widen (show 0 ≤ 0 by omega) (show 0 ≤ 0 by omega) (hret _ _ (Option.some.inj h).symm _ _ _ _ d_Me_gap_11 hI)

abbrev b_Me_sign : ByteArray := prog_5_method_4_code
def y_Me_sign : MethodName := ⟨"BodySolids$Meeting", "sign", "(J)I"⟩
theorem d_Me_sign_0 : decode b_Me_sign 0 = .ok (.lload_n 0, 1) := by decide +kernel
theorem d_Me_sign_1 : decode b_Me_sign 1 = .ok (.lconst 0, 1) := by decide +kernel
theorem d_Me_sign_2 : decode b_Me_sign 2 = .ok (.lcmp, 1) := by decide +kernel
theorem d_Me_sign_3 : decode b_Me_sign 3 = .ok (.ifCond .le 7, 3) := by decide +kernel
theorem d_Me_sign_6 : decode b_Me_sign 6 = .ok (.iconst 1, 1) := by decide +kernel
theorem d_Me_sign_7 : decode b_Me_sign 7 = .ok (.goto 14, 3) := by decide +kernel
theorem d_Me_sign_10 : decode b_Me_sign 10 = .ok (.lload_n 0, 1) := by decide +kernel
theorem d_Me_sign_11 : decode b_Me_sign 11 = .ok (.lconst 0, 1) := by decide +kernel
theorem d_Me_sign_12 : decode b_Me_sign 12 = .ok (.lcmp, 1) := by decide +kernel
theorem d_Me_sign_13 : decode b_Me_sign 13 = .ok (.ifCond .ge 7, 3) := by decide +kernel
theorem d_Me_sign_16 : decode b_Me_sign 16 = .ok (.iconst (-1), 1) := by decide +kernel
theorem d_Me_sign_17 : decode b_Me_sign 17 = .ok (.goto 4, 3) := by decide +kernel
theorem d_Me_sign_20 : decode b_Me_sign 20 = .ok (.iconst 0, 1) := by decide +kernel
theorem d_Me_sign_21 : decode b_Me_sign 21 = .ok (.ireturn, 1) := by decide +kernel
abbrev rm_Me_sign : Room := { frames := 0, cells := 0, slots := 0, locals := 0 }
theorem ce_Me_sign : gCe y_Me_sign (.code y_Me_sign b_Me_sign 2 (some .int)) 2 1 true := gCe.code wd_385 wd_69 wd_384 (by decide) (by decide +kernel)
def f_Me_sign (g0 : Nat) (p0 : Int64) (w : gW) : gX Int32 := gjoin (fun K21 => if p0 ≤ 0 then (if 0 ≤ p0 then (K21 0 w) else (K21 (-1) w)) else (K21 1 w)) (fun (y1 : Int32) (w : gW) => some (.inr y1, w))
set_option maxHeartbeats 4000000 in
set_option maxRecDepth 100000 in
theorem m_Me_sign (l : Launch) (D : gD) (g0 : Nat) (p0 : Int64) (w : gW) (r : (String ⊕ Int32) × gW) (h : f_Me_sign g0 p0 w = some r) : gMet l y_Me_sign (.code y_Me_sign b_Me_sign 2 (some .int)) rm_Me_sign D g0 [.long p0] w (goI r) := by
  refine gw_ofI (by decide +kernel) (Nat.le_of_ble_eq_true rfl) ?_
  intro p e s m below meth c ls args A Q hx hb hml hown hlocks hin hnt hT hK hZ hA hret hexc hI hl
  obtain ⟨H, hH⟩ : ∃ H, H = s.heap := ⟨_, rfl⟩
  rw [← hH] at hI ⊢
  obtain ⟨locs, hlocs⟩ : ∃ z : List Loc, z = [] := ⟨_, rfl⟩
  rw [← hlocs] at hI ⊢
  have hl : lv_has ls 2 [(0, .long p0)] := hl
  unfold f_Me_sign at h
  refine lv_lload_n hx hb d_Me_sign_0 rfl (lv_at hl 0 rfl) ?_
  refine lv_lconst (v := 0) hx hb d_Me_sign_1 (by decide) ?_
  refine W.lcmp hx hb d_Me_sign_2 ?_
  obtain ⟨K21, eK21, h⟩ := gj h
  have hK21 : ∀ (y1 : Int32) (w : gW) (H : Heap) (locs : List Loc) (ls : Array Slot), K21 y1 w = some r → gI D s A w H locs → lv_has ls 2 [] → W p l e rm_Me_sign s m args below meth c H locs 0 0 Q (F0 m 21 ls [.int y1]) := by
    intro y1 w H locs ls h hI hl
    have h := gk2 eK21 h
    exact W.widen (show 0 ≤ 0 by omega) (show 0 ≤ 0 by omega) (hret _ _ (Option.some.inj h).symm _ _ _ _ d_Me_sign_21 hI)
  refine lv_if_le (tgt := 10) hx hb d_Me_sign_3 (by decide) (fun c2 => ?_) (fun c2 => ?_)
  · have c2 := (lg_cmp_le _ _).mp c2
    have h := git c2 h
    refine lv_lload_n hx hb d_Me_sign_10 rfl (lv_at hl 0 rfl) ?_
    refine lv_lconst (v := 0) hx hb d_Me_sign_11 (by decide) ?_
    refine W.lcmp hx hb d_Me_sign_12 ?_
    refine lv_if_ge (tgt := 20) hx hb d_Me_sign_13 (by decide) (fun c3 => ?_) (fun c3 => ?_)
    · have c3 := (lg_cmp_ge _ _).mp c3
      have h := git c3 h
      refine lv_iconst (v := 0) hx hb d_Me_sign_20 (by decide) ?_
      exact hK21 _ w H locs ls h hI (lv_sub hl [] rfl)
    · have c3 := mt (lg_cmp_ge _ _).mpr c3
      have h := gie c3 h
      refine lv_iconst (v := -1) hx hb d_Me_sign_16 (by decide) ?_
      refine lv_goto (tgt := 21) hx hb d_Me_sign_17 (by decide) ?_
      exact hK21 _ w H locs ls h hI (lv_sub hl [] rfl)
  · have c2 := mt (lg_cmp_le _ _).mpr c2
    have h := gie c2 h
    refine lv_iconst (v := 1) hx hb d_Me_sign_6 (by decide) ?_
    refine lv_goto (tgt := 21) hx hb d_Me_sign_7 (by decide) ?_
    exact hK21 _ w H locs ls h hI (lv_sub hl [] rfl)

abbrev b_Me_squareIfAbove : ByteArray := prog_5_method_5_code
def y_Me_squareIfAbove : MethodName := ⟨"BodySolids$Meeting", "squareIfAbove", "(J)J"⟩
theorem d_Me_squareIfAbove_0 : decode b_Me_squareIfAbove 0 = .ok (.lload_n 0, 1) := by decide +kernel
theorem d_Me_squareIfAbove_1 : decode b_Me_squareIfAbove 1 = .ok (.lconst 0, 1) := by decide +kernel
theorem d_Me_squareIfAbove_2 : decode b_Me_squareIfAbove 2 = .ok (.lcmp, 1) := by decide +kernel
theorem d_Me_squareIfAbove_3 : decode b_Me_squareIfAbove 3 = .ok (.ifCond .le 9, 3) := by decide +kernel
theorem d_Me_squareIfAbove_6 : decode b_Me_squareIfAbove 6 = .ok (.lload_n 0, 1) := by decide +kernel
theorem d_Me_squareIfAbove_7 : decode b_Me_squareIfAbove 7 = .ok (.lload_n 0, 1) := by decide +kernel
theorem d_Me_squareIfAbove_8 : decode b_Me_squareIfAbove 8 = .ok (.lmul, 1) := by decide +kernel
theorem d_Me_squareIfAbove_9 : decode b_Me_squareIfAbove 9 = .ok (.goto 4, 3) := by decide +kernel
theorem d_Me_squareIfAbove_12 : decode b_Me_squareIfAbove 12 = .ok (.lconst 0, 1) := by decide +kernel
theorem d_Me_squareIfAbove_13 : decode b_Me_squareIfAbove 13 = .ok (.lreturn, 1) := by decide +kernel
abbrev rm_Me_squareIfAbove : Room := { frames := 0, cells := 0, slots := 0, locals := 0 }
theorem ce_Me_squareIfAbove : gCe y_Me_squareIfAbove (.code y_Me_squareIfAbove b_Me_squareIfAbove 2 (some .long)) 2 1 true := gCe.code wd_399 wd_69 wd_398 (by decide) (by decide +kernel)
def f_Me_squareIfAbove (g0 : Nat) (p0 : Int64) (w : gW) : gX Int64 := gjoin (fun K13 => if p0 ≤ 0 then (K13 0 w) else (K13 (p0 * p0) w)) (fun (y1 : Int64) (w : gW) => some (.inr y1, w))
set_option maxHeartbeats 4000000 in
set_option maxRecDepth 100000 in
theorem m_Me_squareIfAbove (l : Launch) (D : gD) (g0 : Nat) (p0 : Int64) (w : gW) (r : (String ⊕ Int64) × gW) (h : f_Me_squareIfAbove g0 p0 w = some r) : gMet l y_Me_squareIfAbove (.code y_Me_squareIfAbove b_Me_squareIfAbove 2 (some .long)) rm_Me_squareIfAbove D g0 [.long p0] w (goJ r) := by
  refine gw_ofJ (by decide +kernel) (Nat.le_of_ble_eq_true rfl) ?_
  intro p e s m below meth c ls args A Q hx hb hml hown hlocks hin hnt hT hK hZ hA hret hexc hI hl
  obtain ⟨H, hH⟩ : ∃ H, H = s.heap := ⟨_, rfl⟩
  rw [← hH] at hI ⊢
  obtain ⟨locs, hlocs⟩ : ∃ z : List Loc, z = [] := ⟨_, rfl⟩
  rw [← hlocs] at hI ⊢
  have hl : lv_has ls 2 [(0, .long p0)] := hl
  unfold f_Me_squareIfAbove at h
  refine lv_lload_n hx hb d_Me_squareIfAbove_0 rfl (lv_at hl 0 rfl) ?_
  refine lv_lconst (v := 0) hx hb d_Me_squareIfAbove_1 (by decide) ?_
  refine W.lcmp hx hb d_Me_squareIfAbove_2 ?_
  obtain ⟨K13, eK13, h⟩ := gj h
  have hK13 : ∀ (y1 : Int64) (w : gW) (H : Heap) (locs : List Loc) (ls : Array Slot), K13 y1 w = some r → gI D s A w H locs → lv_has ls 2 [] → W p l e rm_Me_squareIfAbove s m args below meth c H locs 0 0 Q (F0 m 13 ls [.long y1]) := by
    intro y1 w H locs ls h hI hl
    have h := gk2 eK13 h
    exact W.widen (show 0 ≤ 0 by omega) (show 0 ≤ 0 by omega) (hret _ _ (Option.some.inj h).symm _ _ _ _ d_Me_squareIfAbove_13 hI)
  refine lv_if_le (tgt := 12) hx hb d_Me_squareIfAbove_3 (by decide) (fun c2 => ?_) (fun c2 => ?_)
  · have c2 := (lg_cmp_le _ _).mp c2
    have h := git c2 h
    refine lv_lconst (v := 0) hx hb d_Me_squareIfAbove_12 (by decide) ?_
    exact hK13 _ w H locs ls h hI (lv_sub hl [] rfl)
  · have c2 := mt (lg_cmp_le _ _).mpr c2
    have h := gie c2 h
    refine lv_lload_n hx hb d_Me_squareIfAbove_6 rfl (lv_at hl 0 rfl) ?_
    refine lv_lload_n hx hb d_Me_squareIfAbove_7 rfl (lv_at hl 0 rfl) ?_
    refine lv_lmul hx hb d_Me_squareIfAbove_8 ?_
    refine lv_goto (tgt := 13) hx hb d_Me_squareIfAbove_9 (by decide) ?_
    exact hK13 _ w H locs ls h hI (lv_sub hl [] rfl)
