abbrev b_Ma_max : ByteArray := prog_17_method_65_code
def y_Ma_max : MethodName := ⟨"java/lang/Math", "max", "(II)I"⟩
theorem d_Ma_max_0 : decode b_Ma_max 0 = .ok (.iload_n 0, 1) := by decide +kernel
theorem d_Ma_max_1 : decode b_Ma_max 1 = .ok (.iload_n 1, 1) := by decide +kernel
theorem d_Ma_max_2 : decode b_Ma_max 2 = .ok (.if_icmp .lt 7, 3) := by decide +kernel
theorem d_Ma_max_5 : decode b_Ma_max 5 = .ok (.iload_n 0, 1) := by decide +kernel
theorem d_Ma_max_6 : decode b_Ma_max 6 = .ok (.goto 4, 3) := by decide +kernel
theorem d_Ma_max_9 : decode b_Ma_max 9 = .ok (.iload_n 1, 1) := by decide +kernel
theorem d_Ma_max_10 : decode b_Ma_max 10 = .ok (.ireturn, 1) := by decide +kernel
abbrev rm_Ma_max : Room := { frames := 0, cells := 0, slots := 0, locals := 0 }
theorem ce_Ma_max : gCe y_Ma_max (.code y_Ma_max b_Ma_max 2 (some .int)) 2 2 true := gCe.code wd_271 wd_50 wd_270 (by decide) (by decide +kernel)
def f_Ma_max (g0 : gG) (p0 : Int32) (p1 : Int32) (w : gW) : gX Int32 := gjoin (fun K10 => if p0 < p1 then (K10 p1 w) else (K10 p0 w)) (fun (y1 : Int32) (w : gW) => some (.inr y1, w))
set_option maxHeartbeats 4000000 in
set_option maxRecDepth 100000 in
theorem m_Ma_max (l : Launch) (hst : l.stackTraces = false) (D : gD) (g0 : gG) (p0 : Int32) (p1 : Int32) (w : gW) (r : (String ⊕ Int32) × gW) (h : f_Ma_max g0 p0 p1 w = some r) : gMet l y_Ma_max (.code y_Ma_max b_Ma_max 2 (some .int)) rm_Ma_max D g0 [.int p0, .int p1] w (goI r) := by
  refine gw_ofI (by decide +kernel) (Nat.le_of_ble_eq_true rfl) ?_
  intro p e s m below meth c ls args A Q hx hb hml hown hlocks hin hnt hT hK hZ hA hret hexc hthr hI hl
  obtain ⟨H, hH⟩ : ∃ H, H = s.heap := ⟨_, rfl⟩
  rw [← hH] at hI ⊢
  obtain ⟨locs, hlocs⟩ : ∃ z : List Loc, z = [] := ⟨_, rfl⟩
  rw [← hlocs] at hI ⊢
  have hl : lv_has ls 2 [(0, .int p0), (1, .int p1)] := hl
  unfold f_Ma_max at h
  refine lv_iload_n hx hb d_Ma_max_0 rfl (lv_at hl 0 rfl) ?_
  refine lv_iload_n hx hb d_Ma_max_1 rfl (lv_at hl 1 rfl) ?_
  obtain ⟨K10, eK10, h⟩ := gj h
  have hK10 : ∀ (y1 : Int32) (w : gW) (H : Heap) (locs : List Loc) (ls : Array Slot), K10 y1 w = some r → gI D s A w H locs → lv_has ls 2 [] → W p l e rm_Ma_max s m args below meth c H locs 0 0 Q (F0 m 10 ls [.int y1]) := by
    intro y1 w H locs ls h hI hl
    have h := gk2 eK10 h
    exact W.widen (show 0 ≤ 0 by omega) (show 0 ≤ 0 by omega) (hret _ _ (Option.some.inj h).symm _ _ _ _ d_Ma_max_10 hI)
  refine lv_icmp_lt (tgt := 9) hx hb d_Ma_max_2 (by decide) (fun c2 => ?_) (fun c2 => ?_)
  · skip
    have h := git c2 h
    refine lv_iload_n hx hb d_Ma_max_9 rfl (lv_at hl 1 rfl) ?_
    exact hK10 _ w H locs ls h hI (lv_sub hl [] rfl)
  · skip
    have h := gie c2 h
    refine lv_iload_n hx hb d_Ma_max_5 rfl (lv_at hl 0 rfl) ?_
    refine lv_goto (tgt := 10) hx hb d_Ma_max_6 (by decide) ?_
    exact hK10 _ w H locs ls h hI (lv_sub hl [] rfl)

abbrev b_As_hugeLength : ByteArray := prog_31_method_28_code
def y_As_hugeLength : MethodName := ⟨"jdk/internal/util/ArraysSupport", "hugeLength", "(II)I"⟩
theorem d_As_hugeLength_0 : decode b_As_hugeLength 0 = .ok (.iload_n 0, 1) := by decide +kernel
theorem d_As_hugeLength_1 : decode b_As_hugeLength 1 = .ok (.iload_n 1, 1) := by decide +kernel
theorem d_As_hugeLength_2 : decode b_As_hugeLength 2 = .ok (.iadd, 1) := by decide +kernel
theorem d_As_hugeLength_3 : decode b_As_hugeLength 3 = .ok (.istore_n 2, 1) := by decide +kernel
theorem d_As_hugeLength_4 : decode b_As_hugeLength 4 = .ok (.iload_n 2, 1) := by decide +kernel
theorem d_As_hugeLength_5 : decode b_As_hugeLength 5 = .ok (.ifCond .ge 44, 3) := by decide +kernel
theorem d_As_hugeLength_8 : decode b_As_hugeLength 8 = .ok (.new 204, 3) := by decide +kernel
theorem d_As_hugeLength_49 : decode b_As_hugeLength 49 = .ok (.iload_n 2, 1) := by decide +kernel
theorem d_As_hugeLength_50 : decode b_As_hugeLength 50 = .ok (.ldc 200, 2) := by decide +kernel
theorem d_As_hugeLength_52 : decode b_As_hugeLength 52 = .ok (.if_icmp .gt 6, 3) := by decide +kernel
theorem d_As_hugeLength_55 : decode b_As_hugeLength 55 = .ok (.ldc 200, 2) := by decide +kernel
theorem d_As_hugeLength_57 : decode b_As_hugeLength 57 = .ok (.ireturn, 1) := by decide +kernel
theorem d_As_hugeLength_58 : decode b_As_hugeLength 58 = .ok (.iload_n 2, 1) := by decide +kernel
theorem d_As_hugeLength_59 : decode b_As_hugeLength 59 = .ok (.ireturn, 1) := by decide +kernel
abbrev rm_As_hugeLength : Room := { frames := 0, cells := 0, slots := 0, locals := 0 }
theorem ce_As_hugeLength : gCe y_As_hugeLength (.code y_As_hugeLength b_As_hugeLength 3 (some .int)) 3 2 true := gCe.code wd_275 wd_59 wd_274 (by decide) (by decide +kernel)
def f_As_hugeLength (g0 : gG) (p0 : Int32) (p1 : Int32) (w : gW) : gX Int32 := if 0 ≤ (p0 + p1) then (if 2147483639 < (p0 + p1) then (some (.inr (p0 + p1), w)) else (some (.inr 2147483639, w))) else (none)
set_option maxHeartbeats 4000000 in
set_option maxRecDepth 100000 in
theorem m_As_hugeLength (l : Launch) (hst : l.stackTraces = false) (D : gD) (g0 : gG) (p0 : Int32) (p1 : Int32) (w : gW) (r : (String ⊕ Int32) × gW) (h : f_As_hugeLength g0 p0 p1 w = some r) : gMet l y_As_hugeLength (.code y_As_hugeLength b_As_hugeLength 3 (some .int)) rm_As_hugeLength D g0 [.int p0, .int p1] w (goI r) := by
  refine gw_ofI (by decide +kernel) (Nat.le_of_ble_eq_true rfl) ?_
  intro p e s m below meth c ls args A Q hx hb hml hown hlocks hin hnt hT hK hZ hA hret hexc hthr hI hl
  obtain ⟨H, hH⟩ : ∃ H, H = s.heap := ⟨_, rfl⟩
  rw [← hH] at hI ⊢
  obtain ⟨locs, hlocs⟩ : ∃ z : List Loc, z = [] := ⟨_, rfl⟩
  rw [← hlocs] at hI ⊢
  have hl : lv_has ls 3 [(0, .int p0), (1, .int p1)] := hl
  unfold f_As_hugeLength at h
  refine lv_iload_n hx hb d_As_hugeLength_0 rfl (lv_at hl 0 rfl) ?_
  refine lv_iload_n hx hb d_As_hugeLength_1 rfl (lv_at hl 1 rfl) ?_
  refine lv_iadd hx hb d_As_hugeLength_2 ?_
  refine lv_istore_n (lv' := [(2, .int (p0 + p1)), (0, .int p0), (1, .int p1)]) hx hb d_As_hugeLength_3 rfl hl (by decide) rfl (fun ls hl => ?_)
  refine lv_iload_n hx hb d_As_hugeLength_4 rfl (lv_at hl 0 rfl) ?_
  refine lv_if_ge (tgt := 49) hx hb d_As_hugeLength_5 (by decide) (fun c1 => ?_) (fun c1 => ?_)
  · skip
    have h := git c1 h
    refine lv_iload_n hx hb d_As_hugeLength_49 rfl (lv_at hl 0 rfl) ?_
    refine lv_ldc (v := 2147483639) hx hb hown (hT _ wd_272 args) d_As_hugeLength_50 ?_
    refine lv_icmp_gt (tgt := 58) hx hb d_As_hugeLength_52 (by decide) (fun c2 => ?_) (fun c2 => ?_)
    · skip
      have h := git c2 h
      refine lv_iload_n hx hb d_As_hugeLength_58 rfl (lv_at hl 0 rfl) ?_
      exact W.widen (show 0 ≤ 0 by omega) (show 0 ≤ 0 by omega) (hret _ _ (Option.some.inj h).symm _ _ _ _ d_As_hugeLength_59 hI)
    · skip
      have h := gie c2 h
      refine lv_ldc (v := 2147483639) hx hb hown (hT _ wd_272 args) d_As_hugeLength_55 ?_
      exact W.widen (show 0 ≤ 0 by omega) (show 0 ≤ 0 by omega) (hret _ _ (Option.some.inj h).symm _ _ _ _ d_As_hugeLength_57 hI)
  · skip
    have h := gie c1 h
    exact absurd h (by simp)

abbrev b_As_newLength : ByteArray := prog_31_method_27_code
def y_As_newLength : MethodName := ⟨"jdk/internal/util/ArraysSupport", "newLength", "(III)I"⟩
theorem d_As_newLength_0 : decode b_As_newLength 0 = .ok (.iload_n 0, 1) := by decide +kernel
theorem d_As_newLength_1 : decode b_As_newLength 1 = .ok (.iload_n 1, 1) := by decide +kernel
theorem d_As_newLength_2 : decode b_As_newLength 2 = .ok (.iload_n 2, 1) := by decide +kernel
theorem d_As_newLength_3 : decode b_As_newLength 3 = .ok (.invokestatic 194, 3) := by decide +kernel
theorem d_As_newLength_6 : decode b_As_newLength 6 = .ok (.iadd, 1) := by decide +kernel
theorem d_As_newLength_7 : decode b_As_newLength 7 = .ok (.istore_n 3, 1) := by decide +kernel
theorem d_As_newLength_8 : decode b_As_newLength 8 = .ok (.iconst 0, 1) := by decide +kernel
theorem d_As_newLength_9 : decode b_As_newLength 9 = .ok (.iload_n 3, 1) := by decide +kernel
theorem d_As_newLength_10 : decode b_As_newLength 10 = .ok (.if_icmp .ge 11, 3) := by decide +kernel
theorem d_As_newLength_13 : decode b_As_newLength 13 = .ok (.iload_n 3, 1) := by decide +kernel
theorem d_As_newLength_14 : decode b_As_newLength 14 = .ok (.ldc 200, 2) := by decide +kernel
theorem d_As_newLength_16 : decode b_As_newLength 16 = .ok (.if_icmp .gt 5, 3) := by decide +kernel
theorem d_As_newLength_19 : decode b_As_newLength 19 = .ok (.iload_n 3, 1) := by decide +kernel
theorem d_As_newLength_20 : decode b_As_newLength 20 = .ok (.ireturn, 1) := by decide +kernel
theorem d_As_newLength_21 : decode b_As_newLength 21 = .ok (.iload_n 0, 1) := by decide +kernel
theorem d_As_newLength_22 : decode b_As_newLength 22 = .ok (.iload_n 1, 1) := by decide +kernel
theorem d_As_newLength_23 : decode b_As_newLength 23 = .ok (.invokestatic 201, 3) := by decide +kernel
theorem d_As_newLength_26 : decode b_As_newLength 26 = .ok (.ireturn, 1) := by decide +kernel
abbrev rm_As_newLength : Room := { frames := 1, cells := 0, slots := 0, locals := 22 }
theorem ce_As_newLength : gCe y_As_newLength (.code y_As_newLength b_As_newLength 4 (some .int)) 4 3 true := gCe.code wd_268 wd_59 wd_267 (by decide) (by decide +kernel)
def f_As_newLength (g0 : gG) (p0 : Int32) (p1 : Int32) (p2 : Int32) (w : gW) : gX Int32 := gbind (f_Ma_max g0 p1 p2 w) fun v3 w => gjoin (fun K21 => if (p0 + v3) ≤ (0 : Int32) then (K21 w) else (if 2147483639 < (p0 + v3) then (K21 w) else (some (.inr (p0 + v3), w)))) (fun (w : gW) => gbind (f_As_hugeLength g0 p0 p1 w) fun v6 w => some (.inr v6, w))
set_option maxHeartbeats 4000000 in
set_option maxRecDepth 100000 in
theorem m_As_newLength (l : Launch) (hst : l.stackTraces = false) (D : gD) (g0 : gG) (p0 : Int32) (p1 : Int32) (p2 : Int32) (w : gW) (r : (String ⊕ Int32) × gW) (h : f_As_newLength g0 p0 p1 p2 w = some r) : gMet l y_As_newLength (.code y_As_newLength b_As_newLength 4 (some .int)) rm_As_newLength D g0 [.int p0, .int p1, .int p2] w (goI r) := by
  refine gw_ofI (by decide +kernel) (Nat.le_of_ble_eq_true rfl) ?_
  intro p e s m below meth c ls args A Q hx hb hml hown hlocks hin hnt hT hK hZ hA hret hexc hthr hI hl
  obtain ⟨H, hH⟩ : ∃ H, H = s.heap := ⟨_, rfl⟩
  rw [← hH] at hI ⊢
  obtain ⟨locs, hlocs⟩ : ∃ z : List Loc, z = [] := ⟨_, rfl⟩
  rw [← hlocs] at hI ⊢
  have hl : lv_has ls 4 [(0, .int p0), (1, .int p1), (2, .int p2)] := hl
  unfold f_As_newLength at h
  refine lv_iload_n hx hb d_As_newLength_0 rfl (lv_at hl 0 rfl) ?_
  refine lv_iload_n hx hb d_As_newLength_1 rfl (lv_at hl 1 rfl) ?_
  refine lv_iload_n hx hb d_As_newLength_2 rfl (lv_at hl 2 rfl) ?_
  obtain ⟨u1, e2⟩ := gsome h
  refine gw_callI e2 h (gw_runS (As := [.int p1, .int p2]) (rest := [.int p0]) hx hb hml hown hT hK hZ hA hI (m_Ma_max l hst D g0 p1 p2 w u1 e2) ce_Ma_max wd_269 ⟨by decide, by decide⟩ rfl rfl hl.1 rfl (lv_room (Nat.le_of_ble_eq_true rfl)) d_As_newLength_3 ⟨(show 0 + 0 ≤ 0 by omega), (show 0 + 0 ≤ 0 by omega)⟩) hI hA hexc (show 0 + 0 ≤ 0 by omega) (show 0 + 0 ≤ 0 by omega) (fun v3 w H locs h hI => ?_)
  refine lv_iadd hx hb d_As_newLength_6 ?_
  refine lv_istore_n (lv' := [(3, .int (p0 + v3)), (0, .int p0), (1, .int p1), (2, .int p2)]) hx hb d_As_newLength_7 rfl hl (by decide) rfl (fun ls hl => ?_)
  refine lv_iconst (v := 0) hx hb d_As_newLength_8 (by decide) ?_
  refine lv_iload_n hx hb d_As_newLength_9 rfl (lv_at hl 0 rfl) ?_
  obtain ⟨K21, eK21, h⟩ := gj h
  have hK21 : ∀ (w : gW) (H : Heap) (locs : List Loc) (ls : Array Slot), K21 w = some r → gI D s A w H locs → lv_has ls 4 [(0, .int p0), (1, .int p1)] → W p l e rm_As_newLength s m args below meth c H locs 0 0 Q (F0 m 21 ls []) := by
    intro w H locs ls h hI hl
    have h := gk1 eK21 h
    refine lv_iload_n hx hb d_As_newLength_21 rfl (lv_at hl 0 rfl) ?_
    refine lv_iload_n hx hb d_As_newLength_22 rfl (lv_at hl 1 rfl) ?_
    obtain ⟨u4, e5⟩ := gsome h
    refine gw_callI e5 h (gw_runS (As := [.int p0, .int p1]) (rest := []) hx hb hml hown hT hK hZ hA hI (m_As_hugeLength l hst D g0 p0 p1 w u4 e5) ce_As_hugeLength wd_273 ⟨by decide, by decide⟩ rfl rfl hl.1 rfl (lv_room (Nat.le_of_ble_eq_true rfl)) d_As_newLength_23 ⟨(show 0 + 0 ≤ 0 by omega), (show 0 + 0 ≤ 0 by omega)⟩) hI hA hexc (show 0 + 0 ≤ 0 by omega) (show 0 + 0 ≤ 0 by omega) (fun v6 w H locs h hI => ?_)
    exact W.widen (show 0 ≤ 0 by omega) (show 0 ≤ 0 by omega) (hret _ _ (Option.some.inj h).symm _ _ _ _ d_As_newLength_26 hI)
  refine lv_icmp_ge (tgt := 21) hx hb d_As_newLength_10 (by decide) (fun c7 => ?_) (fun c7 => ?_)
  · skip
    have h := git c7 h
    exact hK21 w H locs ls h hI (lv_sub hl [1, 2] rfl)
  · skip
    have h := gie c7 h
    refine lv_iload_n hx hb d_As_newLength_13 rfl (lv_at hl 0 rfl) ?_
    refine lv_ldc (v := 2147483639) hx hb hown (hT _ wd_272 args) d_As_newLength_14 ?_
    refine lv_icmp_gt (tgt := 21) hx hb d_As_newLength_16 (by decide) (fun c8 => ?_) (fun c8 => ?_)
    · skip
      have h := git c8 h
      exact hK21 w H locs ls h hI (lv_sub hl [1, 2] rfl)
    · skip
      have h := gie c8 h
      refine lv_iload_n hx hb d_As_newLength_19 rfl (lv_at hl 0 rfl) ?_
      exact W.widen (show 0 ≤ 0 by omega) (show 0 ≤ 0 by omega) (hret _ _ (Option.some.inj h).symm _ _ _ _ d_As_newLength_20 hI)

abbrev b_Ma_min : ByteArray := prog_17_method_69_code
def y_Ma_min : MethodName := ⟨"java/lang/Math", "min", "(II)I"⟩
theorem d_Ma_min_0 : decode b_Ma_min 0 = .ok (.iload_n 0, 1) := by decide +kernel
theorem d_Ma_min_1 : decode b_Ma_min 1 = .ok (.iload_n 1, 1) := by decide +kernel
theorem d_Ma_min_2 : decode b_Ma_min 2 = .ok (.if_icmp .gt 7, 3) := by decide +kernel
theorem d_Ma_min_5 : decode b_Ma_min 5 = .ok (.iload_n 0, 1) := by decide +kernel
theorem d_Ma_min_6 : decode b_Ma_min 6 = .ok (.goto 4, 3) := by decide +kernel
theorem d_Ma_min_9 : decode b_Ma_min 9 = .ok (.iload_n 1, 1) := by decide +kernel
theorem d_Ma_min_10 : decode b_Ma_min 10 = .ok (.ireturn, 1) := by decide +kernel
abbrev rm_Ma_min : Room := { frames := 0, cells := 0, slots := 0, locals := 0 }
theorem ce_Ma_min : gCe y_Ma_min (.code y_Ma_min b_Ma_min 2 (some .int)) 2 2 true := gCe.code wd_302 wd_50 wd_301 (by decide) (by decide +kernel)
def f_Ma_min (g0 : gG) (p0 : Int32) (p1 : Int32) (w : gW) : gX Int32 := gjoin (fun K10 => if p1 < p0 then (K10 p1 w) else (K10 p0 w)) (fun (y1 : Int32) (w : gW) => some (.inr y1, w))
set_option maxHeartbeats 4000000 in
set_option maxRecDepth 100000 in
theorem m_Ma_min (l : Launch) (hst : l.stackTraces = false) (D : gD) (g0 : gG) (p0 : Int32) (p1 : Int32) (w : gW) (r : (String ⊕ Int32) × gW) (h : f_Ma_min g0 p0 p1 w = some r) : gMet l y_Ma_min (.code y_Ma_min b_Ma_min 2 (some .int)) rm_Ma_min D g0 [.int p0, .int p1] w (goI r) := by
  refine gw_ofI (by decide +kernel) (Nat.le_of_ble_eq_true rfl) ?_
  intro p e s m below meth c ls args A Q hx hb hml hown hlocks hin hnt hT hK hZ hA hret hexc hthr hI hl
  obtain ⟨H, hH⟩ : ∃ H, H = s.heap := ⟨_, rfl⟩
  rw [← hH] at hI ⊢
  obtain ⟨locs, hlocs⟩ : ∃ z : List Loc, z = [] := ⟨_, rfl⟩
  rw [← hlocs] at hI ⊢
  have hl : lv_has ls 2 [(0, .int p0), (1, .int p1)] := hl
  unfold f_Ma_min at h
  refine lv_iload_n hx hb d_Ma_min_0 rfl (lv_at hl 0 rfl) ?_
  refine lv_iload_n hx hb d_Ma_min_1 rfl (lv_at hl 1 rfl) ?_
  obtain ⟨K10, eK10, h⟩ := gj h
  have hK10 : ∀ (y1 : Int32) (w : gW) (H : Heap) (locs : List Loc) (ls : Array Slot), K10 y1 w = some r → gI D s A w H locs → lv_has ls 2 [] → W p l e rm_Ma_min s m args below meth c H locs 0 0 Q (F0 m 10 ls [.int y1]) := by
    intro y1 w H locs ls h hI hl
    have h := gk2 eK10 h
    exact W.widen (show 0 ≤ 0 by omega) (show 0 ≤ 0 by omega) (hret _ _ (Option.some.inj h).symm _ _ _ _ d_Ma_min_10 hI)
  refine lv_icmp_gt (tgt := 9) hx hb d_Ma_min_2 (by decide) (fun c2 => ?_) (fun c2 => ?_)
  · skip
    have h := git c2 h
    refine lv_iload_n hx hb d_Ma_min_9 rfl (lv_at hl 1 rfl) ?_
    exact hK10 _ w H locs ls h hI (lv_sub hl [] rfl)
  · skip
    have h := gie c2 h
    refine lv_iload_n hx hb d_Ma_min_5 rfl (lv_at hl 0 rfl) ?_
    refine lv_goto (tgt := 10) hx hb d_Ma_min_6 (by decide) ?_
    exact hK10 _ w H locs ls h hI (lv_sub hl [] rfl)

abbrev b_Ar_copyOf2 : ByteArray := prog_25_method_120_code
def y_Ar_copyOf2 : MethodName := ⟨"java/util/Arrays", "copyOf", "([Ljava/lang/Object;ILjava/lang/Class;)[Ljava/lang/Object;"⟩
theorem d_Ar_copyOf2_0 : decode b_Ar_copyOf2 0 = .ok (.aload_n 2, 1) := by decide +kernel
theorem d_Ar_copyOf2_1 : decode b_Ar_copyOf2 1 = .ok (.ldc 110, 2) := by decide +kernel
theorem d_Ar_copyOf2_3 : decode b_Ar_copyOf2 3 = .ok (.if_acmp .ne 10, 3) := by decide +kernel
theorem d_Ar_copyOf2_6 : decode b_Ar_copyOf2 6 = .ok (.iload_n 1, 1) := by decide +kernel
theorem d_Ar_copyOf2_7 : decode b_Ar_copyOf2 7 = .ok (.anewarray 2, 3) := by decide +kernel
theorem d_Ar_copyOf2_10 : decode b_Ar_copyOf2 10 = .ok (.goto 14, 3) := by decide +kernel
theorem d_Ar_copyOf2_13 : decode b_Ar_copyOf2 13 = .ok (.aload_n 2, 1) := by decide +kernel
theorem d_Ar_copyOf2_14 : decode b_Ar_copyOf2 14 = .ok (.invokevirtual 90, 3) := by decide +kernel
theorem d_Ar_copyOf2_24 : decode b_Ar_copyOf2 24 = .ok (.astore_n 3, 1) := by decide +kernel
theorem d_Ar_copyOf2_25 : decode b_Ar_copyOf2 25 = .ok (.aload_n 0, 1) := by decide +kernel
theorem d_Ar_copyOf2_26 : decode b_Ar_copyOf2 26 = .ok (.iconst 0, 1) := by decide +kernel
theorem d_Ar_copyOf2_27 : decode b_Ar_copyOf2 27 = .ok (.aload_n 3, 1) := by decide +kernel
theorem d_Ar_copyOf2_28 : decode b_Ar_copyOf2 28 = .ok (.iconst 0, 1) := by decide +kernel
theorem d_Ar_copyOf2_29 : decode b_Ar_copyOf2 29 = .ok (.aload_n 0, 1) := by decide +kernel
theorem d_Ar_copyOf2_30 : decode b_Ar_copyOf2 30 = .ok (.arraylength, 1) := by decide +kernel
theorem d_Ar_copyOf2_31 : decode b_Ar_copyOf2 31 = .ok (.iload_n 1, 1) := by decide +kernel
theorem d_Ar_copyOf2_32 : decode b_Ar_copyOf2 32 = .ok (.invokestatic 304, 3) := by decide +kernel
theorem d_Ar_copyOf2_35 : decode b_Ar_copyOf2 35 = .ok (.invokestatic 150, 3) := by decide +kernel
theorem d_Ar_copyOf2_38 : decode b_Ar_copyOf2 38 = .ok (.aload_n 3, 1) := by decide +kernel
theorem d_Ar_copyOf2_39 : decode b_Ar_copyOf2 39 = .ok (.areturn, 1) := by decide +kernel
abbrev rm_Ar_copyOf2 : Room := { frames := 1, cells := 1, slots := 64, locals := 48 }
theorem ce_Ar_copyOf2 : gCe y_Ar_copyOf2 (.code y_Ar_copyOf2 b_Ar_copyOf2 4 (some (.array (.object "java/lang/Object")))) 4 3 true := gCe.code wd_296 wd_54 wd_295 (by decide) (by decide +kernel)
def f_Ar_copyOf2 (g0 : gG) (a0 : Nat) (p1 : Int32) (a2 : Nat) (w : gW) : gX Nat := if a2 = (g0.2) then (gb2f (gna w 3 p1 64 .null) fun o2 w => (gal w a0).bind fun v4 => gbind (f_Ma_min g0 v4 p1 w) fun v8 w => (gcp w a0 0 o2 0 v8).bind fun w => some (.inr o2, w)) else (none)
set_option maxHeartbeats 4000000 in
set_option maxRecDepth 100000 in
theorem m_Ar_copyOf2 (l : Launch) (hst : l.stackTraces = false) (D : gD) (g0 : gG) (a0 : Nat) (p1 : Int32) (a2 : Nat) (w : gW) (r : (String ⊕ Nat) × gW) (h : f_Ar_copyOf2 g0 a0 p1 a2 w = some r) : gMet l y_Ar_copyOf2 (.code y_Ar_copyOf2 b_Ar_copyOf2 4 (some (.array (.object "java/lang/Object")))) rm_Ar_copyOf2 D g0 [.ref a0, .int p1, .ref a2] w (goA r) := by
  refine gw_ofA (by decide +kernel) (Nat.le_of_ble_eq_true rfl) (Or.inr ⟨_, rfl⟩) ?_
  intro p e s m below meth c ls args A Q hx hb hml hown hlocks hin hnt hT hK hZ hA hret hexc hthr hI hl
  obtain ⟨H, hH⟩ : ∃ H, H = s.heap := ⟨_, rfl⟩
  rw [← hH] at hI ⊢
  obtain ⟨locs, hlocs⟩ : ∃ z : List Loc, z = [] := ⟨_, rfl⟩
  rw [← hlocs] at hI ⊢
  have hl : lv_has ls 4 [(0, .ref a0), (1, .int p1), (2, .ref a2)] := hl
  unfold f_Ar_copyOf2 at h
  refine lv_aload_n hx hb d_Ar_copyOf2_0 rfl (lv_at hl 2 rfl) ?_
  refine gw_ldcM hx hb hT hown hZ wd_297 d_Ar_copyOf2_1 ?_
  refine gw_acmp_ne (tgt := 13) hx hb d_Ar_copyOf2_3 (by decide) (fun c1 => ?_) (fun c1 => ?_)
  · skip
    have h := gie c1 h
    exact absurd h (by simp)
  · skip
    have h := git c1 h
    refine lv_iload_n hx hb d_Ar_copyOf2_6 rfl (lv_at hl 1 rfl) ?_
    obtain ⟨o2, w, e3, h⟩ := gb2 h
    refine gw_anew (M := 64) hx hb hown hK hI hA (hT _ wd_299 args) (hT _ wd_298 args) (k := 3) rfl e3 (show 0 + 1 ≤ 1 by omega) (show 0 + 64 ≤ 64 by omega) (show 64 * 4 ≤ 536870912 by omega) d_Ar_copyOf2_7 (fun H hI => ?_)
    refine W.widen (k := 1) (n := 64) (show 0 + 1 ≤ 1 by omega) (show 0 + 64 ≤ 64 by omega) ?_
    refine lv_goto (tgt := 24) hx hb d_Ar_copyOf2_10 (by decide) ?_
    refine lv_astore_n (lv' := [(3, .ref o2), (0, .ref a0), (1, .int p1), (2, .ref a2)]) hx hb d_Ar_copyOf2_24 rfl hl (by decide) rfl (fun ls hl => ?_)
    refine lv_aload_n hx hb d_Ar_copyOf2_25 rfl (lv_at hl 1 rfl) ?_
    refine lv_iconst (v := 0) hx hb d_Ar_copyOf2_26 (by decide) ?_
    refine lv_aload_n hx hb d_Ar_copyOf2_27 rfl (lv_at hl 0 rfl) ?_
    refine lv_iconst (v := 0) hx hb d_Ar_copyOf2_28 (by decide) ?_
    refine lv_aload_n hx hb d_Ar_copyOf2_29 rfl (lv_at hl 1 rfl) ?_
    obtain ⟨v4, e5, h⟩ := gb h
    refine gw_alen hx hb hK hI e5 d_Ar_copyOf2_30 ?_
    refine lv_iload_n hx hb d_Ar_copyOf2_31 rfl (lv_at hl 2 rfl) ?_
    obtain ⟨u6, e7⟩ := gsome h
    refine gw_callI e7 h (gw_runS (As := [.int v4, .int p1]) (rest := [.int 0, .ref o2, .int 0, .ref a0]) hx hb hml hown hT hK hZ hA hI (m_Ma_min l hst D g0 v4 p1 w u6 e7) ce_Ma_min wd_300 ⟨by decide, by decide⟩ rfl rfl hl.1 rfl (lv_room (Nat.le_of_ble_eq_true rfl)) d_Ar_copyOf2_32 ⟨(show 1 + 0 ≤ 1 by omega), (show 64 + 0 ≤ 64 by omega)⟩) hI hA hexc (show 1 + 0 ≤ 1 by omega) (show 64 + 0 ≤ 64 by omega) (fun v8 w H locs h hI => ?_)
    obtain ⟨w, e9, h⟩ := gb h
    refine gw_copy hx hb (hml.trans hl.1.symm) hT hown hK hI e9 wd_303 wd_305 wd_304 wd_60 (Nat.le_of_ble_eq_true rfl) (by decide) d_Ar_copyOf2_35 (fun H locs hI => ?_)
    refine lv_aload_n hx hb d_Ar_copyOf2_38 rfl (lv_at hl 0 rfl) ?_
    exact W.widen (show 1 ≤ 1 by omega) (show 64 ≤ 64 by omega) (hret _ _ (Option.some.inj h).symm _ _ _ _ d_Ar_copyOf2_39 hI)

abbrev b_Ar_copyOf : ByteArray := prog_25_method_119_code
def y_Ar_copyOf : MethodName := ⟨"java/util/Arrays", "copyOf", "([Ljava/lang/Object;I)[Ljava/lang/Object;"⟩
theorem d_Ar_copyOf_0 : decode b_Ar_copyOf 0 = .ok (.aload_n 0, 1) := by decide +kernel
theorem d_Ar_copyOf_1 : decode b_Ar_copyOf 1 = .ok (.iload_n 1, 1) := by decide +kernel
theorem d_Ar_copyOf_2 : decode b_Ar_copyOf 2 = .ok (.aload_n 0, 1) := by decide +kernel
theorem d_Ar_copyOf_3 : decode b_Ar_copyOf 3 = .ok (.invokevirtual 86, 3) := by decide +kernel
theorem d_Ar_copyOf_6 : decode b_Ar_copyOf 6 = .ok (.invokestatic 300, 3) := by decide +kernel
theorem d_Ar_copyOf_9 : decode b_Ar_copyOf 9 = .ok (.areturn, 1) := by decide +kernel
abbrev rm_Ar_copyOf : Room := { frames := 2, cells := 1, slots := 64, locals := 71 }
theorem ce_Ar_copyOf : gCe y_Ar_copyOf (.code y_Ar_copyOf b_Ar_copyOf 2 (some (.array (.object "java/lang/Object")))) 2 2 true := gCe.code wd_278 wd_54 wd_277 (by decide) (by decide +kernel)
def f_Ar_copyOf (g0 : gG) (a0 : Nat) (p1 : Int32) (w : gW) : gX Nat := (gkd w a0 3).bind fun _ => gbind (f_Ar_copyOf2 g0 a0 p1 (g0.2) w) fun v5 w => some (.inr v5, w)
set_option maxHeartbeats 4000000 in
set_option maxRecDepth 100000 in
theorem m_Ar_copyOf (l : Launch) (hst : l.stackTraces = false) (D : gD) (g0 : gG) (a0 : Nat) (p1 : Int32) (w : gW) (r : (String ⊕ Nat) × gW) (h : f_Ar_copyOf g0 a0 p1 w = some r) : gMet l y_Ar_copyOf (.code y_Ar_copyOf b_Ar_copyOf 2 (some (.array (.object "java/lang/Object")))) rm_Ar_copyOf D g0 [.ref a0, .int p1] w (goA r) := by
  refine gw_ofA (by decide +kernel) (Nat.le_of_ble_eq_true rfl) (Or.inr ⟨_, rfl⟩) ?_
  intro p e s m below meth c ls args A Q hx hb hml hown hlocks hin hnt hT hK hZ hA hret hexc hthr hI hl
  obtain ⟨H, hH⟩ : ∃ H, H = s.heap := ⟨_, rfl⟩
  rw [← hH] at hI ⊢
  obtain ⟨locs, hlocs⟩ : ∃ z : List Loc, z = [] := ⟨_, rfl⟩
  rw [← hlocs] at hI ⊢
  have hl : lv_has ls 2 [(0, .ref a0), (1, .int p1)] := hl
  unfold f_Ar_copyOf at h
  refine lv_aload_n hx hb d_Ar_copyOf_0 rfl (lv_at hl 0 rfl) ?_
  refine lv_iload_n hx hb d_Ar_copyOf_1 rfl (lv_at hl 1 rfl) ?_
  refine lv_aload_n hx hb d_Ar_copyOf_2 rfl (lv_at hl 0 rfl) ?_
  obtain ⟨q1, e2, h⟩ := gb h
  refine gw_getC hx hb (hml.trans hl.1.symm) hT hown hK hZ hI e2 wd_279 wd_1129 wd_1128 wd_280 wd_293 (Nat.le_of_ble_eq_true rfl) (Nat.le_of_ble_eq_true rfl) d_Ar_copyOf_3 ?_
  obtain ⟨u3, e4⟩ := gsome h
  refine gw_callA e4 h (gw_runS (As := [.ref a0, .int p1, .ref (g0.2)]) (rest := []) hx hb hml hown hT hK hZ hA hI (m_Ar_copyOf2 l hst D g0 a0 p1 (g0.2) w u3 e4) ce_Ar_copyOf2 wd_294 ⟨by decide, by decide⟩ rfl rfl hl.1 rfl (lv_room (Nat.le_of_ble_eq_true rfl)) d_Ar_copyOf_6 ⟨(show 0 + 1 ≤ 1 by omega), (show 0 + 64 ≤ 64 by omega)⟩) hI hA hexc (show 0 + 1 ≤ 1 by omega) (show 0 + 64 ≤ 64 by omega) (fun v5 w H locs h hI => ?_)
  refine W.widen (k := 1) (n := 64) (show 0 + 1 ≤ 1 by omega) (show 0 + 64 ≤ 64 by omega) ?_
  exact W.widen (show 1 ≤ 1 by omega) (show 64 ≤ 64 by omega) (hret _ _ (Option.some.inj h).symm _ _ _ _ d_Ar_copyOf_9 hI)

abbrev b_AL_grow2 : ByteArray := prog_24_method_6_code
def y_AL_grow2 : MethodName := ⟨"java/util/ArrayList", "grow", "(I)[Ljava/lang/Object;"⟩
theorem d_AL_grow2_0 : decode b_AL_grow2 0 = .ok (.aload_n 0, 1) := by decide +kernel
theorem d_AL_grow2_1 : decode b_AL_grow2 1 = .ok (.getfield 9, 3) := by decide +kernel
theorem d_AL_grow2_4 : decode b_AL_grow2 4 = .ok (.arraylength, 1) := by decide +kernel
theorem d_AL_grow2_5 : decode b_AL_grow2 5 = .ok (.istore_n 2, 1) := by decide +kernel
theorem d_AL_grow2_6 : decode b_AL_grow2 6 = .ok (.iload_n 2, 1) := by decide +kernel
theorem d_AL_grow2_7 : decode b_AL_grow2 7 = .ok (.ifCond .gt 13, 3) := by decide +kernel
theorem d_AL_grow2_10 : decode b_AL_grow2 10 = .ok (.aload_n 0, 1) := by decide +kernel
theorem d_AL_grow2_11 : decode b_AL_grow2 11 = .ok (.getfield 9, 3) := by decide +kernel
theorem d_AL_grow2_14 : decode b_AL_grow2 14 = .ok (.getstatic 39, 3) := by decide +kernel
theorem d_AL_grow2_17 : decode b_AL_grow2 17 = .ok (.if_acmp .eq 28, 3) := by decide +kernel
theorem d_AL_grow2_20 : decode b_AL_grow2 20 = .ok (.iload_n 2, 1) := by decide +kernel
theorem d_AL_grow2_21 : decode b_AL_grow2 21 = .ok (.iload_n 1, 1) := by decide +kernel
theorem d_AL_grow2_22 : decode b_AL_grow2 22 = .ok (.iload_n 2, 1) := by decide +kernel
theorem d_AL_grow2_23 : decode b_AL_grow2 23 = .ok (.isub, 1) := by decide +kernel
theorem d_AL_grow2_24 : decode b_AL_grow2 24 = .ok (.iload_n 2, 1) := by decide +kernel
theorem d_AL_grow2_25 : decode b_AL_grow2 25 = .ok (.iconst 1, 1) := by decide +kernel
theorem d_AL_grow2_26 : decode b_AL_grow2 26 = .ok (.ishr, 1) := by decide +kernel
theorem d_AL_grow2_27 : decode b_AL_grow2 27 = .ok (.invokestatic 73, 3) := by decide +kernel
theorem d_AL_grow2_30 : decode b_AL_grow2 30 = .ok (.istore_n 3, 1) := by decide +kernel
theorem d_AL_grow2_31 : decode b_AL_grow2 31 = .ok (.aload_n 0, 1) := by decide +kernel
theorem d_AL_grow2_32 : decode b_AL_grow2 32 = .ok (.aload_n 0, 1) := by decide +kernel
theorem d_AL_grow2_33 : decode b_AL_grow2 33 = .ok (.getfield 9, 3) := by decide +kernel
theorem d_AL_grow2_36 : decode b_AL_grow2 36 = .ok (.iload_n 3, 1) := by decide +kernel
theorem d_AL_grow2_37 : decode b_AL_grow2 37 = .ok (.invokestatic 66, 3) := by decide +kernel
theorem d_AL_grow2_40 : decode b_AL_grow2 40 = .ok (.dup_x1, 1) := by decide +kernel
theorem d_AL_grow2_41 : decode b_AL_grow2 41 = .ok (.putfield 9, 3) := by decide +kernel
theorem d_AL_grow2_44 : decode b_AL_grow2 44 = .ok (.areturn, 1) := by decide +kernel
theorem d_AL_grow2_45 : decode b_AL_grow2 45 = .ok (.aload_n 0, 1) := by decide +kernel
theorem d_AL_grow2_46 : decode b_AL_grow2 46 = .ok (.bipush 10, 2) := by decide +kernel
theorem d_AL_grow2_48 : decode b_AL_grow2 48 = .ok (.iload_n 1, 1) := by decide +kernel
theorem d_AL_grow2_49 : decode b_AL_grow2 49 = .ok (.invokestatic 79, 3) := by decide +kernel
theorem d_AL_grow2_52 : decode b_AL_grow2 52 = .ok (.anewarray 7, 3) := by decide +kernel
theorem d_AL_grow2_55 : decode b_AL_grow2 55 = .ok (.dup_x1, 1) := by decide +kernel
theorem d_AL_grow2_56 : decode b_AL_grow2 56 = .ok (.putfield 9, 3) := by decide +kernel
theorem d_AL_grow2_59 : decode b_AL_grow2 59 = .ok (.areturn, 1) := by decide +kernel
abbrev rm_AL_grow2 : Room := { frames := 3, cells := 1, slots := 64, locals := 92 }
theorem ce_AL_grow2 : gCe y_AL_grow2 (.code y_AL_grow2 b_AL_grow2 4 (some (.array (.object "java/lang/Object")))) 4 1 false := gCe.code wd_265 wd_53 wd_264 (by decide) (by decide +kernel)
def f_AL_grow2 (g0 : gG) (a0 : Nat) (p1 : Int32) (w : gW) : gX Nat := (gfA w a0 1 0).bind fun v1 => (gal w v1).bind fun v3 => gjoin (fun K20 => if 0 < v3 then (K20 w) else ((gfA w a0 1 0).bind fun v15 => if v15 = (g0.1) then (gbind (f_Ma_max g0 10 p1 w) fun v20 w => gb2f (gna w 3 v20 64 .null) fun o21 w => (gp w a0 1 0 (.ref o21)).bind fun w => some (.inr o21, w)) else (K20 w))) (fun (w : gW) => gbind (f_As_newLength g0 v3 (p1 - v3) (v3 >>> (1 &&& 31)) w) fun v7 w => (gfA w a0 1 0).bind fun v8 => gbind (f_Ar_copyOf g0 v8 v7 w) fun v12 w => (gp w a0 1 0 (.ref v12)).bind fun w => some (.inr v12, w))
set_option maxHeartbeats 4000000 in
set_option maxRecDepth 100000 in
theorem m_AL_grow2 (l : Launch) (hst : l.stackTraces = false) (D : gD) (g0 : gG) (a0 : Nat) (p1 : Int32) (w : gW) (r : (String ⊕ Nat) × gW) (h : f_AL_grow2 g0 a0 p1 w = some r) : gMet l y_AL_grow2 (.code y_AL_grow2 b_AL_grow2 4 (some (.array (.object "java/lang/Object")))) rm_AL_grow2 D g0 [.ref a0, .int p1] w (goA r) := by
  refine gw_ofA (by decide +kernel) (Nat.le_of_ble_eq_true rfl) (Or.inr ⟨_, rfl⟩) ?_
  intro p e s m below meth c ls args A Q hx hb hml hown hlocks hin hnt hT hK hZ hA hret hexc hthr hI hl
  obtain ⟨H, hH⟩ : ∃ H, H = s.heap := ⟨_, rfl⟩
  rw [← hH] at hI ⊢
  obtain ⟨locs, hlocs⟩ : ∃ z : List Loc, z = [] := ⟨_, rfl⟩
  rw [← hlocs] at hI ⊢
  have hl : lv_has ls 4 [(0, .ref a0), (1, .int p1)] := hl
  unfold f_AL_grow2 at h
  refine lv_aload_n hx hb d_AL_grow2_0 rfl (lv_at hl 0 rfl) ?_
  obtain ⟨v1, e2, h⟩ := gb h
  refine gw_getA hx hb hT hown hK hI (ci := 1) rfl i_1 0 (by decide) wd_101 (fun _ h9 => h9) e2 d_AL_grow2_1 ?_
  obtain ⟨v3, e4, h⟩ := gb h
  refine gw_alen hx hb hK hI e4 d_AL_grow2_4 ?_
  refine lv_istore_n (lv' := [(2, .int v3), (0, .ref a0), (1, .int p1)]) hx hb d_AL_grow2_5 rfl hl (by decide) rfl (fun ls hl => ?_)
  refine lv_iload_n hx hb d_AL_grow2_6 rfl (lv_at hl 0 rfl) ?_
  obtain ⟨K20, eK20, h⟩ := gj h
  have hK20 : ∀ (w : gW) (H : Heap) (locs : List Loc) (ls : Array Slot), K20 w = some r → gI D s A w H locs → lv_has ls 4 [(0, .ref a0), (1, .int p1), (2, .int v3)] → W p l e rm_AL_grow2 s m args below meth c H locs 0 0 Q (F0 m 20 ls []) := by
    intro w H locs ls h hI hl
    have h := gk1 eK20 h
    refine lv_iload_n hx hb d_AL_grow2_20 rfl (lv_at hl 2 rfl) ?_
    refine lv_iload_n hx hb d_AL_grow2_21 rfl (lv_at hl 1 rfl) ?_
    refine lv_iload_n hx hb d_AL_grow2_22 rfl (lv_at hl 2 rfl) ?_
    refine lv_isub hx hb d_AL_grow2_23 ?_
    refine lv_iload_n hx hb d_AL_grow2_24 rfl (lv_at hl 2 rfl) ?_
    refine lv_iconst (v := 1) hx hb d_AL_grow2_25 (by decide) ?_
    refine lv_ishr hx hb d_AL_grow2_26 ?_
    obtain ⟨u5, e6⟩ := gsome h
    refine gw_callI e6 h (gw_runS (As := [.int v3, .int (p1 - v3), .int (v3 >>> (1 &&& 31))]) (rest := []) hx hb hml hown hT hK hZ hA hI (m_As_newLength l hst D g0 v3 (p1 - v3) (v3 >>> (1 &&& 31)) w u5 e6) ce_As_newLength wd_266 ⟨by decide, by decide⟩ rfl rfl hl.1 rfl (lv_room (Nat.le_of_ble_eq_true rfl)) d_AL_grow2_27 ⟨(show 0 + 0 ≤ 1 by omega), (show 0 + 0 ≤ 64 by omega)⟩) hI hA hexc (show 0 + 0 ≤ 1 by omega) (show 0 + 0 ≤ 64 by omega) (fun v7 w H locs h hI => ?_)
    refine lv_istore_n (lv' := [(3, .int v7), (0, .ref a0), (1, .int p1), (2, .int v3)]) hx hb d_AL_grow2_30 rfl hl (by decide) rfl (fun ls hl => ?_)
    refine lv_aload_n hx hb d_AL_grow2_31 rfl (lv_at hl 1 rfl) ?_
    refine lv_aload_n hx hb d_AL_grow2_32 rfl (lv_at hl 1 rfl) ?_
    obtain ⟨v8, e9, h⟩ := gb h
    refine gw_getA hx hb hT hown hK hI (ci := 1) rfl i_1 0 (by decide) wd_101 (fun _ h9 => h9) e9 d_AL_grow2_33 ?_
    refine lv_iload_n hx hb d_AL_grow2_36 rfl (lv_at hl 0 rfl) ?_
    obtain ⟨u10, e11⟩ := gsome h
    refine gw_callA e11 h (gw_runS (As := [.ref v8, .int v7]) (rest := [.ref a0]) hx hb hml hown hT hK hZ hA hI (m_Ar_copyOf l hst D g0 v8 v7 w u10 e11) ce_Ar_copyOf wd_276 ⟨by decide, by decide⟩ rfl rfl hl.1 rfl (lv_room (Nat.le_of_ble_eq_true rfl)) d_AL_grow2_37 ⟨(show 0 + 1 ≤ 1 by omega), (show 0 + 64 ≤ 64 by omega)⟩) hI hA hexc (show 0 + 1 ≤ 1 by omega) (show 0 + 64 ≤ 64 by omega) (fun v12 w H locs h hI => ?_)
    refine W.widen (k := 1) (n := 64) (show 0 + 1 ≤ 1 by omega) (show 0 + 64 ≤ 64 by omega) ?_
    refine lv_dup_x1 hx hb d_AL_grow2_40 rfl rfl ?_
    obtain ⟨w, e13, h⟩ := gb h
    refine gw_put hx hb hT hown hK hI (ci := 1) rfl i_1 t_1 t_1_ok n_1 0 (by decide) wd_101 (fun _ h9 => h9) rfl (ty := .array (.object "java/lang/Object")) (by decide +kernel) rfl rfl e13 d_AL_grow2_41 (fun H locs hI => ?_)
    exact W.widen (show 1 ≤ 1 by omega) (show 64 ≤ 64 by omega) (hret _ _ (Option.some.inj h).symm _ _ _ _ d_AL_grow2_44 hI)
  refine lv_if_gt (tgt := 20) hx hb d_AL_grow2_7 (by decide) (fun c14 => ?_) (fun c14 => ?_)
  · skip
    have h := git c14 h
    exact hK20 w H locs ls h hI (lv_sub hl [1, 2, 0] rfl)
  · skip
    have h := gie c14 h
    refine lv_aload_n hx hb d_AL_grow2_10 rfl (lv_at hl 1 rfl) ?_
    obtain ⟨v15, e16, h⟩ := gb h
    refine gw_getA hx hb hT hown hK hI (ci := 1) rfl i_1 0 (by decide) wd_101 (fun _ h9 => h9) e16 d_AL_grow2_11 ?_
    refine gw_gets hx hb hT hown hZ hI wd_99 d_AL_grow2_14 ?_
    refine gw_acmp_eq (tgt := 45) hx hb d_AL_grow2_17 (by decide) (fun c17 => ?_) (fun c17 => ?_)
    · skip
      have h := git c17 h
      refine lv_aload_n hx hb d_AL_grow2_45 rfl (lv_at hl 1 rfl) ?_
      refine lv_bipush (v := 10) hx hb d_AL_grow2_46 (by decide) ?_
      refine lv_iload_n hx hb d_AL_grow2_48 rfl (lv_at hl 2 rfl) ?_
      obtain ⟨u18, e19⟩ := gsome h
      refine gw_callI e19 h (gw_runS (As := [.int 10, .int p1]) (rest := [.ref a0]) hx hb hml hown hT hK hZ hA hI (m_Ma_max l hst D g0 10 p1 w u18 e19) ce_Ma_max wd_306 ⟨by decide, by decide⟩ rfl rfl hl.1 rfl (lv_room (Nat.le_of_ble_eq_true rfl)) d_AL_grow2_49 ⟨(show 0 + 0 ≤ 1 by omega), (show 0 + 0 ≤ 64 by omega)⟩) hI hA hexc (show 0 + 0 ≤ 1 by omega) (show 0 + 0 ≤ 64 by omega) (fun v20 w H locs h hI => ?_)
      obtain ⟨o21, w, e22, h⟩ := gb2 h
      refine gw_anew (M := 64) hx hb hown hK hI hA (hT _ wd_307 args) (hT _ wd_298 args) (k := 3) rfl e22 (show 0 + 1 ≤ 1 by omega) (show 0 + 64 ≤ 64 by omega) (show 64 * 4 ≤ 536870912 by omega) d_AL_grow2_52 (fun H hI => ?_)
      refine W.widen (k := 1) (n := 64) (show 0 + 1 ≤ 1 by omega) (show 0 + 64 ≤ 64 by omega) ?_
      refine lv_dup_x1 hx hb d_AL_grow2_55 rfl rfl ?_
      obtain ⟨w, e23, h⟩ := gb h
      refine gw_put hx hb hT hown hK hI (ci := 1) rfl i_1 t_1 t_1_ok n_1 0 (by decide) wd_101 (fun _ h9 => h9) rfl (ty := .array (.object "java/lang/Object")) (by decide +kernel) rfl rfl e23 d_AL_grow2_56 (fun H locs hI => ?_)
      exact W.widen (show 1 ≤ 1 by omega) (show 64 ≤ 64 by omega) (hret _ _ (Option.some.inj h).symm _ _ _ _ d_AL_grow2_59 hI)
    · skip
      have h := gie c17 h
      exact hK20 w H locs ls h hI (lv_sub hl [1, 2, 0] rfl)

abbrev b_AL_grow : ByteArray := prog_24_method_7_code
def y_AL_grow : MethodName := ⟨"java/util/ArrayList", "grow", "()[Ljava/lang/Object;"⟩
theorem d_AL_grow_0 : decode b_AL_grow 0 = .ok (.aload_n 0, 1) := by decide +kernel
theorem d_AL_grow_1 : decode b_AL_grow 1 = .ok (.aload_n 0, 1) := by decide +kernel
theorem d_AL_grow_2 : decode b_AL_grow 2 = .ok (.getfield 48, 3) := by decide +kernel
theorem d_AL_grow_5 : decode b_AL_grow 5 = .ok (.iconst 1, 1) := by decide +kernel
theorem d_AL_grow_6 : decode b_AL_grow 6 = .ok (.iadd, 1) := by decide +kernel
theorem d_AL_grow_7 : decode b_AL_grow 7 = .ok (.invokevirtual 69, 3) := by decide +kernel
theorem d_AL_grow_10 : decode b_AL_grow 10 = .ok (.areturn, 1) := by decide +kernel
abbrev rm_AL_grow : Room := { frames := 4, cells := 1, slots := 64, locals := 115 }
theorem ce_AL_grow : gCe y_AL_grow (.code y_AL_grow b_AL_grow 1 (some (.array (.object "java/lang/Object")))) 1 0 false := gCe.code wd_261 wd_53 wd_260 (by decide) (by decide +kernel)
def f_AL_grow (g0 : gG) (a0 : Nat) (w : gW) : gX Nat := (gfI w a0 1 1).bind fun v1 => (gck w a0 1).bind fun _ => gbind (f_AL_grow2 g0 a0 (v1 + 1) w) fun v7 w => some (.inr v7, w)
set_option maxHeartbeats 4000000 in
set_option maxRecDepth 100000 in
theorem m_AL_grow (l : Launch) (hst : l.stackTraces = false) (D : gD) (g0 : gG) (a0 : Nat) (w : gW) (r : (String ⊕ Nat) × gW) (h : f_AL_grow g0 a0 w = some r) : gMet l y_AL_grow (.code y_AL_grow b_AL_grow 1 (some (.array (.object "java/lang/Object")))) rm_AL_grow D g0 [.ref a0] w (goA r) := by
  refine gw_ofA (by decide +kernel) (Nat.le_of_ble_eq_true rfl) (Or.inr ⟨_, rfl⟩) ?_
  intro p e s m below meth c ls args A Q hx hb hml hown hlocks hin hnt hT hK hZ hA hret hexc hthr hI hl
  obtain ⟨H, hH⟩ : ∃ H, H = s.heap := ⟨_, rfl⟩
  rw [← hH] at hI ⊢
  obtain ⟨locs, hlocs⟩ : ∃ z : List Loc, z = [] := ⟨_, rfl⟩
  rw [← hlocs] at hI ⊢
  have hl : lv_has ls 1 [(0, .ref a0)] := hl
  unfold f_AL_grow at h
  refine lv_aload_n hx hb d_AL_grow_0 rfl (lv_at hl 0 rfl) ?_
  refine lv_aload_n hx hb d_AL_grow_1 rfl (lv_at hl 0 rfl) ?_
  obtain ⟨v1, e2, h⟩ := gb h
  refine gw_getI hx hb hT hown hK hI (ci := 1) rfl i_1 1 (by decide) wd_102 (fun _ h9 => h9) e2 d_AL_grow_2 ?_
  refine lv_iconst (v := 1) hx hb d_AL_grow_5 (by decide) ?_
  refine lv_iadd hx hb d_AL_grow_6 ?_
  obtain ⟨q5, e6, h⟩ := gb h
  obtain ⟨u3, e4⟩ := gsome h
  refine gw_callA e4 h (gw_runV (As := [.int (v1 + 1)]) (rest := []) hx hb hml hown hT hK hZ hA hI (ci := 1) rfl e6 (m_AL_grow2 l hst D g0 a0 (v1 + 1) w u3 e4) ce_AL_grow2 wd_262 wd_3 ⟨by decide, by decide⟩ rfl rfl hl.1 rfl (lv_room (Nat.le_of_ble_eq_true rfl)) d_AL_grow_7 ⟨(show 0 + 1 ≤ 1 by omega), (show 0 + 64 ≤ 64 by omega)⟩) hI hA hexc (show 0 + 1 ≤ 1 by omega) (show 0 + 64 ≤ 64 by omega) (fun v7 w H locs h hI => ?_)
  refine W.widen (k := 1) (n := 64) (show 0 + 1 ≤ 1 by omega) (show 0 + 64 ≤ 64 by omega) ?_
  exact W.widen (show 1 ≤ 1 by omega) (show 64 ≤ 64 by omega) (hret _ _ (Option.some.inj h).symm _ _ _ _ d_AL_grow_10 hI)

abbrev b_AL_add2 : ByteArray := prog_24_method_24_code
def y_AL_add2 : MethodName := ⟨"java/util/ArrayList", "add", "(Ljava/lang/Object;[Ljava/lang/Object;I)V"⟩
theorem d_AL_add2_0 : decode b_AL_add2 0 = .ok (.iload_n 3, 1) := by decide +kernel
theorem d_AL_add2_1 : decode b_AL_add2 1 = .ok (.aload_n 2, 1) := by decide +kernel
theorem d_AL_add2_2 : decode b_AL_add2 2 = .ok (.arraylength, 1) := by decide +kernel
theorem d_AL_add2_3 : decode b_AL_add2 3 = .ok (.if_icmp .ne 8, 3) := by decide +kernel
theorem d_AL_add2_6 : decode b_AL_add2 6 = .ok (.aload_n 0, 1) := by decide +kernel
theorem d_AL_add2_7 : decode b_AL_add2 7 = .ok (.invokevirtual 129, 3) := by decide +kernel
theorem d_AL_add2_10 : decode b_AL_add2 10 = .ok (.astore_n 2, 1) := by decide +kernel
theorem d_AL_add2_11 : decode b_AL_add2 11 = .ok (.aload_n 2, 1) := by decide +kernel
theorem d_AL_add2_12 : decode b_AL_add2 12 = .ok (.iload_n 3, 1) := by decide +kernel
theorem d_AL_add2_13 : decode b_AL_add2 13 = .ok (.aload_n 1, 1) := by decide +kernel
theorem d_AL_add2_14 : decode b_AL_add2 14 = .ok (.aastore, 1) := by decide +kernel
theorem d_AL_add2_15 : decode b_AL_add2 15 = .ok (.aload_n 0, 1) := by decide +kernel
theorem d_AL_add2_16 : decode b_AL_add2 16 = .ok (.iload_n 3, 1) := by decide +kernel
theorem d_AL_add2_17 : decode b_AL_add2 17 = .ok (.iconst 1, 1) := by decide +kernel
theorem d_AL_add2_18 : decode b_AL_add2 18 = .ok (.iadd, 1) := by decide +kernel
theorem d_AL_add2_19 : decode b_AL_add2 19 = .ok (.putfield 48, 3) := by decide +kernel
theorem d_AL_add2_22 : decode b_AL_add2 22 = .ok (.return_, 1) := by decide +kernel
abbrev rm_AL_add2 : Room := { frames := 5, cells := 1, slots := 64, locals := 135 }
theorem ce_AL_add2 : gCe y_AL_add2 (.code y_AL_add2 b_AL_add2 4 none) 4 3 false := gCe.code wd_257 wd_53 wd_256 (by decide) (by decide +kernel)
def f_AL_add2 (g0 : gG) (a0 : Nat) (a1 : Nat) (a2 : Nat) (p3 : Int32) (w : gW) : gX Unit := (gal w a2).bind fun v1 => gjoin (fun K11 => if p3 = v1 then ((gck w a0 1).bind fun _ => gbind (f_AL_grow g0 a0 w) fun v11 w => K11 v11 w) else (K11 a2 w)) (fun (x3 : Nat) (w : gW) => (gsA w x3 p3 a1).bind fun w => (gp w a0 1 1 (.int (p3 + 1))).bind fun w => some (.inr (), w))
set_option maxHeartbeats 4000000 in
set_option maxRecDepth 100000 in
theorem m_AL_add2 (l : Launch) (hst : l.stackTraces = false) (D : gD) (g0 : gG) (a0 : Nat) (a1 : Nat) (a2 : Nat) (p3 : Int32) (w : gW) (r : (String ⊕ Unit) × gW) (h : f_AL_add2 g0 a0 a1 a2 p3 w = some r) : gMet l y_AL_add2 (.code y_AL_add2 b_AL_add2 4 none) rm_AL_add2 D g0 [.ref a0, .ref a1, .ref a2, .int p3] w (goV r) := by
  refine gw_ofV (by decide +kernel) (Nat.le_of_ble_eq_true rfl) ?_
  intro p e s m below meth c ls args A Q hx hb hml hown hlocks hin hnt hT hK hZ hA hret hexc hthr hI hl
  obtain ⟨H, hH⟩ : ∃ H, H = s.heap := ⟨_, rfl⟩
  rw [← hH] at hI ⊢
  obtain ⟨locs, hlocs⟩ : ∃ z : List Loc, z = [] := ⟨_, rfl⟩
  rw [← hlocs] at hI ⊢
  have hl : lv_has ls 4 [(0, .ref a0), (1, .ref a1), (2, .ref a2), (3, .int p3)] := hl
  unfold f_AL_add2 at h
  refine lv_iload_n hx hb d_AL_add2_0 rfl (lv_at hl 3 rfl) ?_
  refine lv_aload_n hx hb d_AL_add2_1 rfl (lv_at hl 2 rfl) ?_
  obtain ⟨v1, e2, h⟩ := gb h
  refine gw_alen hx hb hK hI e2 d_AL_add2_2 ?_
  obtain ⟨K11, eK11, h⟩ := gj h
  have hK11 : ∀ (x3 : Nat) (w : gW) (H : Heap) (locs : List Loc) (ls : Array Slot), K11 x3 w = some r → gI D s A w H locs → lv_has ls 4 [(0, .ref a0), (1, .ref a1), (2, .ref x3), (3, .int p3)] → W p l e rm_AL_add2 s m args below meth c H locs 1 64 Q (F0 m 11 ls []) := by
    intro x3 w H locs ls h hI hl
    have h := gk2 eK11 h
    refine lv_aload_n hx hb d_AL_add2_11 rfl (lv_at hl 2 rfl) ?_
    refine lv_iload_n hx hb d_AL_add2_12 rfl (lv_at hl 3 rfl) ?_
    refine lv_aload_n hx hb d_AL_add2_13 rfl (lv_at hl 1 rfl) ?_
    obtain ⟨w, e4, h⟩ := gb h
    refine gw_astA hx hb hT hK hI e4 d_AL_add2_14 (fun H locs hI => ?_)
    refine lv_aload_n hx hb d_AL_add2_15 rfl (lv_at hl 0 rfl) ?_
    refine lv_iload_n hx hb d_AL_add2_16 rfl (lv_at hl 3 rfl) ?_
    refine lv_iconst (v := 1) hx hb d_AL_add2_17 (by decide) ?_
    refine lv_iadd hx hb d_AL_add2_18 ?_
    obtain ⟨w, e5, h⟩ := gb h
    refine gw_put hx hb hT hown hK hI (ci := 1) rfl i_1 t_1 t_1_ok n_1 1 (by decide) wd_102 (fun _ h9 => h9) rfl (ty := .int) (by decide +kernel) rfl rfl e5 d_AL_add2_19 (fun H locs hI => ?_)
    exact W.widen (show 1 ≤ 1 by omega) (show 64 ≤ 64 by omega) (hret _ _ (Option.some.inj h).symm _ _ _ _ d_AL_add2_22 hI)
  refine lv_icmp_ne (tgt := 11) hx hb d_AL_add2_3 (by decide) (fun c6 => ?_) (fun c6 => ?_)
  · skip
    have h := gie c6 h
    refine W.widen (k := 1) (n := 64) (show 0 ≤ 1 by omega) (show 0 ≤ 64 by omega) ?_
    exact hK11 _ w H locs ls h hI (lv_sub hl [0, 1, 2, 3] rfl)
  · skip
    have h := git c6 h
    refine lv_aload_n hx hb d_AL_add2_6 rfl (lv_at hl 0 rfl) ?_
    obtain ⟨q9, e10, h⟩ := gb h
    obtain ⟨u7, e8⟩ := gsome h
    refine gw_callA e8 h (gw_runV (As := []) (rest := []) hx hb hml hown hT hK hZ hA hI (ci := 1) rfl e10 (m_AL_grow l hst D g0 a0 w u7 e8) ce_AL_grow wd_258 wd_2 ⟨by decide, by decide⟩ rfl rfl hl.1 rfl (lv_room (Nat.le_of_ble_eq_true rfl)) d_AL_add2_7 ⟨(show 0 + 1 ≤ 1 by omega), (show 0 + 64 ≤ 64 by omega)⟩) hI hA hexc (show 0 + 1 ≤ 1 by omega) (show 0 + 64 ≤ 64 by omega) (fun v11 w H locs h hI => ?_)
    refine W.widen (k := 1) (n := 64) (show 0 + 1 ≤ 1 by omega) (show 0 + 64 ≤ 64 by omega) ?_
    refine lv_astore_n (lv' := [(2, .ref v11), (0, .ref a0), (1, .ref a1), (3, .int p3)]) hx hb d_AL_add2_10 rfl hl (by decide) rfl (fun ls hl => ?_)
    exact hK11 _ w H locs ls h hI (lv_sub hl [1, 2, 0, 3] rfl)

abbrev b_AL_add : ByteArray := prog_24_method_25_code
def y_AL_add : MethodName := ⟨"java/util/ArrayList", "add", "(Ljava/lang/Object;)Z"⟩
theorem d_AL_add_0 : decode b_AL_add 0 = .ok (.aload_n 0, 1) := by decide +kernel
theorem d_AL_add_1 : decode b_AL_add 1 = .ok (.dup, 1) := by decide +kernel
theorem d_AL_add_2 : decode b_AL_add 2 = .ok (.getfield 63, 3) := by decide +kernel
theorem d_AL_add_5 : decode b_AL_add 5 = .ok (.iconst 1, 1) := by decide +kernel
theorem d_AL_add_6 : decode b_AL_add 6 = .ok (.iadd, 1) := by decide +kernel
theorem d_AL_add_7 : decode b_AL_add 7 = .ok (.putfield 63, 3) := by decide +kernel
theorem d_AL_add_10 : decode b_AL_add 10 = .ok (.aload_n 0, 1) := by decide +kernel
theorem d_AL_add_11 : decode b_AL_add 11 = .ok (.aload_n 1, 1) := by decide +kernel
theorem d_AL_add_12 : decode b_AL_add 12 = .ok (.aload_n 0, 1) := by decide +kernel
theorem d_AL_add_13 : decode b_AL_add 13 = .ok (.getfield 9, 3) := by decide +kernel
theorem d_AL_add_16 : decode b_AL_add 16 = .ok (.aload_n 0, 1) := by decide +kernel
theorem d_AL_add_17 : decode b_AL_add 17 = .ok (.getfield 48, 3) := by decide +kernel
theorem d_AL_add_20 : decode b_AL_add 20 = .ok (.invokevirtual 131, 3) := by decide +kernel
theorem d_AL_add_23 : decode b_AL_add 23 = .ok (.iconst 1, 1) := by decide +kernel
theorem d_AL_add_24 : decode b_AL_add 24 = .ok (.ireturn, 1) := by decide +kernel
abbrev rm_AL_add : Room := { frames := 6, cells := 1, slots := 64, locals := 158 }
theorem ce_AL_add : gCe y_AL_add (.code y_AL_add b_AL_add 2 (some .boolean)) 2 1 false := gCe.code wd_253 wd_53 wd_251 (by decide) (by decide +kernel)
def f_AL_add (g0 : gG) (a0 : Nat) (a1 : Nat) (w : gW) : gX Int32 := (gfI w a0 1 2).bind fun v1 => (gp w a0 1 2 (.int (v1 + 1))).bind fun w => (gfA w a0 1 0).bind fun v4 => (gfI w a0 1 1).bind fun v6 => (gck w a0 1).bind fun _ => gbind (f_AL_add2 g0 a0 a1 v4 v6 w) fun v12 w => gguard ((1 : Int32) = 0 ∨ (1 : Int32) = 1) (some (.inr 1, w))
set_option maxHeartbeats 4000000 in
set_option maxRecDepth 100000 in
theorem m_AL_add (l : Launch) (hst : l.stackTraces = false) (D : gD) (g0 : gG) (a0 : Nat) (a1 : Nat) (w : gW) (r : (String ⊕ Int32) × gW) (h : f_AL_add g0 a0 a1 w = some r) : gMet l y_AL_add (.code y_AL_add b_AL_add 2 (some .boolean)) rm_AL_add D g0 [.ref a0, .ref a1] w (goI r) := by
  refine gw_ofZ (by decide +kernel) (Nat.le_of_ble_eq_true rfl) ?_
  intro p e s m below meth c ls args A Q hx hb hml hown hlocks hin hnt hT hK hZ hA hret hexc hthr hI hl
  obtain ⟨H, hH⟩ : ∃ H, H = s.heap := ⟨_, rfl⟩
  rw [← hH] at hI ⊢
  obtain ⟨locs, hlocs⟩ : ∃ z : List Loc, z = [] := ⟨_, rfl⟩
  rw [← hlocs] at hI ⊢
  have hl : lv_has ls 2 [(0, .ref a0), (1, .ref a1)] := hl
  unfold f_AL_add at h
  refine lv_aload_n hx hb d_AL_add_0 rfl (lv_at hl 0 rfl) ?_
  refine lv_dup hx hb d_AL_add_1 rfl ?_
  obtain ⟨v1, e2, h⟩ := gb h
  refine gw_getI hx hb hT hown hK hI (ci := 1) rfl i_1 2 (by decide) wd_104 (u_same (hT _ wd_105 args)) e2 d_AL_add_2 ?_
  refine lv_iconst (v := 1) hx hb d_AL_add_5 (by decide) ?_
  refine lv_iadd hx hb d_AL_add_6 ?_
  obtain ⟨w, e3, h⟩ := gb h
  refine gw_put hx hb hT hown hK hI (ci := 1) rfl i_1 t_1 t_1_ok n_1 2 (by decide) wd_104 (u_same (hT _ wd_105 args)) rfl (ty := .int) (by decide +kernel) rfl rfl e3 d_AL_add_7 (fun H locs hI => ?_)
  refine lv_aload_n hx hb d_AL_add_10 rfl (lv_at hl 0 rfl) ?_
  refine lv_aload_n hx hb d_AL_add_11 rfl (lv_at hl 1 rfl) ?_
  refine lv_aload_n hx hb d_AL_add_12 rfl (lv_at hl 0 rfl) ?_
  obtain ⟨v4, e5, h⟩ := gb h
  refine gw_getA hx hb hT hown hK hI (ci := 1) rfl i_1 0 (by decide) wd_101 (fun _ h9 => h9) e5 d_AL_add_13 ?_
  refine lv_aload_n hx hb d_AL_add_16 rfl (lv_at hl 0 rfl) ?_
  obtain ⟨v6, e7, h⟩ := gb h
  refine gw_getI hx hb hT hown hK hI (ci := 1) rfl i_1 1 (by decide) wd_102 (fun _ h9 => h9) e7 d_AL_add_17 ?_
  obtain ⟨q10, e11, h⟩ := gb h
  obtain ⟨u8, e9⟩ := gsome h
  refine gw_callV e9 h (gw_runV (As := [.ref a1, .ref v4, .int v6]) (rest := []) hx hb hml hown hT hK hZ hA hI (ci := 1) rfl e11 (m_AL_add2 l hst D g0 a0 a1 v4 v6 w u8 e9) ce_AL_add2 wd_254 wd_1 ⟨by decide, by decide⟩ rfl rfl hl.1 rfl (lv_room (Nat.le_of_ble_eq_true rfl)) d_AL_add_20 ⟨(show 0 + 1 ≤ 1 by omega), (show 0 + 64 ≤ 64 by omega)⟩) hI hA hexc (show 0 + 1 ≤ 1 by omega) (show 0 + 64 ≤ 64 by omega) (fun v12 w H locs h hI => ?_)
  refine W.widen (k := 1) (n := 64) (show 0 + 1 ≤ 1 by omega) (show 0 + 64 ≤ 64 by omega) ?_
  refine lv_iconst (v := 1) hx hb d_AL_add_23 (by decide) ?_
  obtain ⟨g13, h⟩ := gif h
  exact W.widen (show 1 ≤ 1 by omega) (show 64 ≤ 64 by omega) (hret g13 0 _ (Option.some.inj h).symm _ _ _ _ d_AL_add_24 hI)

abbrev b_Pc_checkIndex : ByteArray := prog_32_method_11_code
def y_Pc_checkIndex : MethodName := ⟨"jdk/internal/util/Preconditions", "checkIndex", "(IILjava/util/function/BiFunction;)I"⟩
theorem d_Pc_checkIndex_0 : decode b_Pc_checkIndex 0 = .ok (.iload_n 0, 1) := by decide +kernel
theorem d_Pc_checkIndex_1 : decode b_Pc_checkIndex 1 = .ok (.ifCond .lt 8, 3) := by decide +kernel
theorem d_Pc_checkIndex_4 : decode b_Pc_checkIndex 4 = .ok (.iload_n 0, 1) := by decide +kernel
theorem d_Pc_checkIndex_5 : decode b_Pc_checkIndex 5 = .ok (.iload_n 1, 1) := by decide +kernel
theorem d_Pc_checkIndex_6 : decode b_Pc_checkIndex 6 = .ok (.if_icmp .lt 10, 3) := by decide +kernel
theorem d_Pc_checkIndex_9 : decode b_Pc_checkIndex 9 = .ok (.aload_n 2, 1) := by decide +kernel
theorem d_Pc_checkIndex_10 : decode b_Pc_checkIndex 10 = .ok (.iload_n 0, 1) := by decide +kernel
theorem d_Pc_checkIndex_11 : decode b_Pc_checkIndex 11 = .ok (.iload_n 1, 1) := by decide +kernel
theorem d_Pc_checkIndex_12 : decode b_Pc_checkIndex 12 = .ok (.invokestatic 95, 3) := by decide +kernel
theorem d_Pc_checkIndex_16 : decode b_Pc_checkIndex 16 = .ok (.iload_n 0, 1) := by decide +kernel
theorem d_Pc_checkIndex_17 : decode b_Pc_checkIndex 17 = .ok (.ireturn, 1) := by decide +kernel
abbrev rm_Pc_checkIndex : Room := { frames := 0, cells := 0, slots := 0, locals := 0 }
theorem ce_Pc_checkIndex : gCe y_Pc_checkIndex (.code y_Pc_checkIndex b_Pc_checkIndex 3 (some .int)) 3 3 true := gCe.code wd_330 wd_66 wd_329 (by decide) (by decide +kernel)
def f_Pc_checkIndex (g0 : gG) (p0 : Int32) (p1 : Int32) (w : gW) : gX Int32 := gjoin (fun K9 => if p0 < 0 then (K9 w) else (if p0 < p1 then (some (.inr p0, w)) else (K9 w))) (fun (w : gW) => none)
set_option maxHeartbeats 4000000 in
set_option maxRecDepth 100000 in
theorem m_Pc_checkIndex (l : Launch) (hst : l.stackTraces = false) (D : gD) (g0 : gG) (p0 : Int32) (p1 : Int32) (w : gW) (r : (String ⊕ Int32) × gW) (h : f_Pc_checkIndex g0 p0 p1 w = some r) : gMet l y_Pc_checkIndex (.code y_Pc_checkIndex b_Pc_checkIndex 3 (some .int)) rm_Pc_checkIndex D g0 [.int p0, .int p1, .null] w (goI r) := by
  refine gw_ofI (by decide +kernel) (Nat.le_of_ble_eq_true rfl) ?_
  intro p e s m below meth c ls args A Q hx hb hml hown hlocks hin hnt hT hK hZ hA hret hexc hthr hI hl
  obtain ⟨H, hH⟩ : ∃ H, H = s.heap := ⟨_, rfl⟩
  rw [← hH] at hI ⊢
  obtain ⟨locs, hlocs⟩ : ∃ z : List Loc, z = [] := ⟨_, rfl⟩
  rw [← hlocs] at hI ⊢
  have hl : lv_has ls 3 [(0, .int p0), (1, .int p1), (2, .null)] := hl
  unfold f_Pc_checkIndex at h
  refine lv_iload_n hx hb d_Pc_checkIndex_0 rfl (lv_at hl 0 rfl) ?_
  obtain ⟨K9, eK9, h⟩ := gj h
  have hK9 : ∀ (w : gW) (H : Heap) (locs : List Loc) (ls : Array Slot), K9 w = some r → gI D s A w H locs → lv_has ls 3 [(0, .int p0), (1, .int p1), (2, .null)] → W p l e rm_Pc_checkIndex s m args below meth c H locs 0 0 Q (F0 m 9 ls []) := by
    intro w H locs ls h hI hl
    have h := gk1 eK9 h
    exact absurd h (by simp)
  refine lv_if_lt (tgt := 9) hx hb d_Pc_checkIndex_1 (by decide) (fun c1 => ?_) (fun c1 => ?_)
  · skip
    have h := git c1 h
    exact hK9 w H locs ls h hI (lv_sub hl [0, 1, 2] rfl)
  · skip
    have h := gie c1 h
    refine lv_iload_n hx hb d_Pc_checkIndex_4 rfl (lv_at hl 0 rfl) ?_
    refine lv_iload_n hx hb d_Pc_checkIndex_5 rfl (lv_at hl 1 rfl) ?_
    refine lv_icmp_lt (tgt := 16) hx hb d_Pc_checkIndex_6 (by decide) (fun c2 => ?_) (fun c2 => ?_)
    · skip
      have h := git c2 h
      refine lv_iload_n hx hb d_Pc_checkIndex_16 rfl (lv_at hl 0 rfl) ?_
      exact W.widen (show 0 ≤ 0 by omega) (show 0 ≤ 0 by omega) (hret _ _ (Option.some.inj h).symm _ _ _ _ d_Pc_checkIndex_17 hI)
    · skip
      have h := gie c2 h
      exact hK9 w H locs ls h hI (lv_sub hl [0, 1, 2] rfl)

abbrev b_Ob_checkIndex : ByteArray := prog_28_method_17_code
def y_Ob_checkIndex : MethodName := ⟨"java/util/Objects", "checkIndex", "(II)I"⟩
theorem d_Ob_checkIndex_0 : decode b_Ob_checkIndex 0 = .ok (.iload_n 0, 1) := by decide +kernel
theorem d_Ob_checkIndex_1 : decode b_Ob_checkIndex 1 = .ok (.iload_n 1, 1) := by decide +kernel
theorem d_Ob_checkIndex_2 : decode b_Ob_checkIndex 2 = .ok (.aconst_null, 1) := by decide +kernel
theorem d_Ob_checkIndex_3 : decode b_Ob_checkIndex 3 = .ok (.invokestatic 105, 3) := by decide +kernel
theorem d_Ob_checkIndex_6 : decode b_Ob_checkIndex 6 = .ok (.ireturn, 1) := by decide +kernel
abbrev rm_Ob_checkIndex : Room := { frames := 1, cells := 0, slots := 0, locals := 22 }
theorem ce_Ob_checkIndex : gCe y_Ob_checkIndex (.code y_Ob_checkIndex b_Ob_checkIndex 2 (some .int)) 2 2 true := gCe.code wd_327 wd_65 wd_326 (by decide) (by decide +kernel)
def f_Ob_checkIndex (g0 : gG) (p0 : Int32) (p1 : Int32) (w : gW) : gX Int32 := gbind (f_Pc_checkIndex g0 p0 p1 w) fun v3 w => some (.inr v3, w)
set_option maxHeartbeats 4000000 in
set_option maxRecDepth 100000 in
theorem m_Ob_checkIndex (l : Launch) (hst : l.stackTraces = false) (D : gD) (g0 : gG) (p0 : Int32) (p1 : Int32) (w : gW) (r : (String ⊕ Int32) × gW) (h : f_Ob_checkIndex g0 p0 p1 w = some r) : gMet l y_Ob_checkIndex (.code y_Ob_checkIndex b_Ob_checkIndex 2 (some .int)) rm_Ob_checkIndex D g0 [.int p0, .int p1] w (goI r) := by
  refine gw_ofI (by decide +kernel) (Nat.le_of_ble_eq_true rfl) ?_
  intro p e s m below meth c ls args A Q hx hb hml hown hlocks hin hnt hT hK hZ hA hret hexc hthr hI hl
  obtain ⟨H, hH⟩ : ∃ H, H = s.heap := ⟨_, rfl⟩
  rw [← hH] at hI ⊢
  obtain ⟨locs, hlocs⟩ : ∃ z : List Loc, z = [] := ⟨_, rfl⟩
  rw [← hlocs] at hI ⊢
  have hl : lv_has ls 2 [(0, .int p0), (1, .int p1)] := hl
  unfold f_Ob_checkIndex at h
  refine lv_iload_n hx hb d_Ob_checkIndex_0 rfl (lv_at hl 0 rfl) ?_
  refine lv_iload_n hx hb d_Ob_checkIndex_1 rfl (lv_at hl 1 rfl) ?_
  refine lv_null hx hb d_Ob_checkIndex_2 ?_
  obtain ⟨u1, e2⟩ := gsome h
  refine gw_callI e2 h (gw_runS (As := [.int p0, .int p1, .null]) (rest := []) hx hb hml hown hT hK hZ hA hI (m_Pc_checkIndex l hst D g0 p0 p1 w u1 e2) ce_Pc_checkIndex wd_328 ⟨by decide, by decide⟩ rfl rfl hl.1 rfl (lv_room (Nat.le_of_ble_eq_true rfl)) d_Ob_checkIndex_3 ⟨(show 0 + 0 ≤ 0 by omega), (show 0 + 0 ≤ 0 by omega)⟩) hI hA hexc (show 0 + 0 ≤ 0 by omega) (show 0 + 0 ≤ 0 by omega) (fun v3 w H locs h hI => ?_)
  exact W.widen (show 0 ≤ 0 by omega) (show 0 ≤ 0 by omega) (hret _ _ (Option.some.inj h).symm _ _ _ _ d_Ob_checkIndex_6 hI)

abbrev b_AL_elementData : ByteArray := prog_24_method_18_code
def y_AL_elementData : MethodName := ⟨"java/util/ArrayList", "elementData", "(I)Ljava/lang/Object;"⟩
theorem d_AL_elementData_0 : decode b_AL_elementData 0 = .ok (.aload_n 0, 1) := by decide +kernel
theorem d_AL_elementData_1 : decode b_AL_elementData 1 = .ok (.getfield 9, 3) := by decide +kernel
theorem d_AL_elementData_4 : decode b_AL_elementData 4 = .ok (.iload_n 1, 1) := by decide +kernel
theorem d_AL_elementData_5 : decode b_AL_elementData 5 = .ok (.aaload, 1) := by decide +kernel
theorem d_AL_elementData_6 : decode b_AL_elementData 6 = .ok (.areturn, 1) := by decide +kernel
abbrev rm_AL_elementData : Room := { frames := 0, cells := 0, slots := 0, locals := 0 }
theorem ce_AL_elementData : gCe y_AL_elementData (.code y_AL_elementData b_AL_elementData 2 (some (.object "java/lang/Object"))) 2 1 false := gCe.code wd_334 wd_53 wd_332 (by decide) (by decide +kernel)
def f_AL_elementData (g0 : gG) (a0 : Nat) (p1 : Int32) (w : gW) : gX Nat := (gfA w a0 1 0).bind fun v1 => (gaA w v1 p1).bind fun v3 => some (.inr v3, w)
set_option maxHeartbeats 4000000 in
set_option maxRecDepth 100000 in
theorem m_AL_elementData (l : Launch) (hst : l.stackTraces = false) (D : gD) (g0 : gG) (a0 : Nat) (p1 : Int32) (w : gW) (r : (String ⊕ Nat) × gW) (h : f_AL_elementData g0 a0 p1 w = some r) : gMet l y_AL_elementData (.code y_AL_elementData b_AL_elementData 2 (some (.object "java/lang/Object"))) rm_AL_elementData D g0 [.ref a0, .int p1] w (goA r) := by
  refine gw_ofA (by decide +kernel) (Nat.le_of_ble_eq_true rfl) (Or.inl ⟨_, rfl⟩) ?_
  intro p e s m below meth c ls args A Q hx hb hml hown hlocks hin hnt hT hK hZ hA hret hexc hthr hI hl
  obtain ⟨H, hH⟩ : ∃ H, H = s.heap := ⟨_, rfl⟩
  rw [← hH] at hI ⊢
  obtain ⟨locs, hlocs⟩ : ∃ z : List Loc, z = [] := ⟨_, rfl⟩
  rw [← hlocs] at hI ⊢
  have hl : lv_has ls 2 [(0, .ref a0), (1, .int p1)] := hl
  unfold f_AL_elementData at h
  refine lv_aload_n hx hb d_AL_elementData_0 rfl (lv_at hl 0 rfl) ?_
  obtain ⟨v1, e2, h⟩ := gb h
  refine gw_getA hx hb hT hown hK hI (ci := 1) rfl i_1 0 (by decide) wd_101 (fun _ h9 => h9) e2 d_AL_elementData_1 ?_
  refine lv_iload_n hx hb d_AL_elementData_4 rfl (lv_at hl 1 rfl) ?_
  obtain ⟨v3, e4, h⟩ := gb h
  refine gw_aldA hx hb hK hI e4 d_AL_elementData_5 ?_
  exact W.widen (show 0 ≤ 0 by omega) (show 0 ≤ 0 by omega) (hret _ _ (Option.some.inj h).symm _ _ _ _ d_AL_elementData_6 hI)

abbrev b_AL_get : ByteArray := prog_24_method_20_code
def y_AL_get : MethodName := ⟨"java/util/ArrayList", "get", "(I)Ljava/lang/Object;"⟩
theorem d_AL_get_0 : decode b_AL_get 0 = .ok (.iload_n 1, 1) := by decide +kernel
theorem d_AL_get_1 : decode b_AL_get 1 = .ok (.aload_n 0, 1) := by decide +kernel
theorem d_AL_get_2 : decode b_AL_get 2 = .ok (.getfield 48, 3) := by decide +kernel
theorem d_AL_get_5 : decode b_AL_get 5 = .ok (.invokestatic 118, 3) := by decide +kernel
theorem d_AL_get_8 : decode b_AL_get 8 = .ok (.pop, 1) := by decide +kernel
theorem d_AL_get_9 : decode b_AL_get 9 = .ok (.aload_n 0, 1) := by decide +kernel
theorem d_AL_get_10 : decode b_AL_get 10 = .ok (.iload_n 1, 1) := by decide +kernel
theorem d_AL_get_11 : decode b_AL_get 11 = .ok (.invokevirtual 123, 3) := by decide +kernel
theorem d_AL_get_14 : decode b_AL_get 14 = .ok (.areturn, 1) := by decide +kernel
abbrev rm_AL_get : Room := { frames := 2, cells := 0, slots := 0, locals := 43 }
theorem ce_AL_get : gCe y_AL_get (.code y_AL_get b_AL_get 2 (some (.object "java/lang/Object"))) 2 1 false := gCe.code wd_324 wd_53 wd_322 (by decide) (by decide +kernel)
def f_AL_get (g0 : gG) (a0 : Nat) (p1 : Int32) (w : gW) : gX Nat := (gfI w a0 1 1).bind fun v1 => gbind (f_Ob_checkIndex g0 p1 v1 w) fun v5 w => (gck w a0 1).bind fun _ => gbind (f_AL_elementData g0 a0 p1 w) fun v10 w => some (.inr v10, w)
set_option maxHeartbeats 4000000 in
set_option maxRecDepth 100000 in
theorem m_AL_get (l : Launch) (hst : l.stackTraces = false) (D : gD) (g0 : gG) (a0 : Nat) (p1 : Int32) (w : gW) (r : (String ⊕ Nat) × gW) (h : f_AL_get g0 a0 p1 w = some r) : gMet l y_AL_get (.code y_AL_get b_AL_get 2 (some (.object "java/lang/Object"))) rm_AL_get D g0 [.ref a0, .int p1] w (goA r) := by
  refine gw_ofA (by decide +kernel) (Nat.le_of_ble_eq_true rfl) (Or.inl ⟨_, rfl⟩) ?_
  intro p e s m below meth c ls args A Q hx hb hml hown hlocks hin hnt hT hK hZ hA hret hexc hthr hI hl
  obtain ⟨H, hH⟩ : ∃ H, H = s.heap := ⟨_, rfl⟩
  rw [← hH] at hI ⊢
  obtain ⟨locs, hlocs⟩ : ∃ z : List Loc, z = [] := ⟨_, rfl⟩
  rw [← hlocs] at hI ⊢
  have hl : lv_has ls 2 [(0, .ref a0), (1, .int p1)] := hl
  unfold f_AL_get at h
  refine lv_iload_n hx hb d_AL_get_0 rfl (lv_at hl 1 rfl) ?_
  refine lv_aload_n hx hb d_AL_get_1 rfl (lv_at hl 0 rfl) ?_
  obtain ⟨v1, e2, h⟩ := gb h
  refine gw_getI hx hb hT hown hK hI (ci := 1) rfl i_1 1 (by decide) wd_102 (fun _ h9 => h9) e2 d_AL_get_2 ?_
  obtain ⟨u3, e4⟩ := gsome h
  refine gw_callI e4 h (gw_runS (As := [.int p1, .int v1]) (rest := []) hx hb hml hown hT hK hZ hA hI (m_Ob_checkIndex l hst D g0 p1 v1 w u3 e4) ce_Ob_checkIndex wd_325 ⟨by decide, by decide⟩ rfl rfl hl.1 rfl (lv_room (Nat.le_of_ble_eq_true rfl)) d_AL_get_5 ⟨(show 0 + 0 ≤ 0 by omega), (show 0 + 0 ≤ 0 by omega)⟩) hI hA hexc (show 0 + 0 ≤ 0 by omega) (show 0 + 0 ≤ 0 by omega) (fun v5 w H locs h hI => ?_)
  refine lv_pop hx hb d_AL_get_8 rfl ?_
  refine lv_aload_n hx hb d_AL_get_9 rfl (lv_at hl 0 rfl) ?_
  refine lv_iload_n hx hb d_AL_get_10 rfl (lv_at hl 1 rfl) ?_
  obtain ⟨q8, e9, h⟩ := gb h
  obtain ⟨u6, e7⟩ := gsome h
  refine gw_callA e7 h (gw_runV (As := [.int p1]) (rest := []) hx hb hml hown hT hK hZ hA hI (ci := 1) rfl e9 (m_AL_elementData l hst D g0 a0 p1 w u6 e7) ce_AL_elementData wd_331 wd_333 ⟨by decide, by decide⟩ rfl rfl hl.1 rfl (lv_room (Nat.le_of_ble_eq_true rfl)) d_AL_get_11 ⟨(show 0 + 0 ≤ 0 by omega), (show 0 + 0 ≤ 0 by omega)⟩) hI hA hexc (show 0 + 0 ≤ 0 by omega) (show 0 + 0 ≤ 0 by omega) (fun v10 w H locs h hI => ?_)
  exact W.widen (show 0 ≤ 0 by omega) (show 0 ≤ 0 by omega) (hret _ _ (Option.some.inj h).symm _ _ _ _ d_AL_get_14 hI)

abbrev b_AL_size : ByteArray := prog_24_method_8_code
def y_AL_size : MethodName := ⟨"java/util/ArrayList", "size", "()I"⟩
theorem d_AL_size_0 : decode b_AL_size 0 = .ok (.aload_n 0, 1) := by decide +kernel
theorem d_AL_size_1 : decode b_AL_size 1 = .ok (.getfield 48, 3) := by decide +kernel
theorem d_AL_size_4 : decode b_AL_size 4 = .ok (.ireturn, 1) := by decide +kernel
abbrev rm_AL_size : Room := { frames := 0, cells := 0, slots := 0, locals := 0 }
theorem ce_AL_size : gCe y_AL_size (.code y_AL_size b_AL_size 1 (some .int)) 1 0 false := gCe.code wd_227 wd_53 wd_225 (by decide) (by decide +kernel)
def f_AL_size (g0 : gG) (a0 : Nat) (w : gW) : gX Int32 := (gfI w a0 1 1).bind fun v1 => some (.inr v1, w)
set_option maxHeartbeats 4000000 in
set_option maxRecDepth 100000 in
theorem m_AL_size (l : Launch) (hst : l.stackTraces = false) (D : gD) (g0 : gG) (a0 : Nat) (w : gW) (r : (String ⊕ Int32) × gW) (h : f_AL_size g0 a0 w = some r) : gMet l y_AL_size (.code y_AL_size b_AL_size 1 (some .int)) rm_AL_size D g0 [.ref a0] w (goI r) := by
  refine gw_ofI (by decide +kernel) (Nat.le_of_ble_eq_true rfl) ?_
  intro p e s m below meth c ls args A Q hx hb hml hown hlocks hin hnt hT hK hZ hA hret hexc hthr hI hl
  obtain ⟨H, hH⟩ : ∃ H, H = s.heap := ⟨_, rfl⟩
  rw [← hH] at hI ⊢
  obtain ⟨locs, hlocs⟩ : ∃ z : List Loc, z = [] := ⟨_, rfl⟩
  rw [← hlocs] at hI ⊢
  have hl : lv_has ls 1 [(0, .ref a0)] := hl
  unfold f_AL_size at h
  refine lv_aload_n hx hb d_AL_size_0 rfl (lv_at hl 0 rfl) ?_
  obtain ⟨v1, e2, h⟩ := gb h
  refine gw_getI hx hb hT hown hK hI (ci := 1) rfl i_1 1 (by decide) wd_102 (fun _ h9 => h9) e2 d_AL_size_1 ?_
  exact W.widen (show 0 ≤ 0 by omega) (show 0 ≤ 0 by omega) (hret _ _ (Option.some.inj h).symm _ _ _ _ d_AL_size_4 hI)

abbrev b_AbC_init : ByteArray := prog_22_method_1_code
def y_AbC_init : MethodName := ⟨"java/util/AbstractCollection", "<init>", "()V"⟩
theorem d_AbC_init_0 : decode b_AbC_init 0 = .ok (.aload_n 0, 1) := by decide +kernel
theorem d_AbC_init_1 : decode b_AbC_init 1 = .ok (.invokespecial 1, 3) := by decide +kernel
theorem d_AbC_init_4 : decode b_AbC_init 4 = .ok (.return_, 1) := by decide +kernel
abbrev rm_AbC_init : Room := { frames := 1, cells := 0, slots := 0, locals := 22 }
theorem ce_AbC_init : gCe y_AbC_init (.code y_AbC_init b_AbC_init 1 none) 1 0 false := gCe.code wd_97 wd_51 wd_96 (by decide) (by decide +kernel)
def f_AbC_init (g0 : gG) (a0 : Nat) (w : gW) : gX Unit := some (.inr (), w)
set_option maxHeartbeats 4000000 in
set_option maxRecDepth 100000 in
theorem m_AbC_init (l : Launch) (hst : l.stackTraces = false) (D : gD) (g0 : gG) (a0 : Nat) (w : gW) (r : (String ⊕ Unit) × gW) (h : f_AbC_init g0 a0 w = some r) : gMet l y_AbC_init (.code y_AbC_init b_AbC_init 1 none) rm_AbC_init D g0 [.ref a0] w (goV r) := by
  refine gw_ofV (by decide +kernel) (Nat.le_of_ble_eq_true rfl) ?_
  intro p e s m below meth c ls args A Q hx hb hml hown hlocks hin hnt hT hK hZ hA hret hexc hthr hI hl
  obtain ⟨H, hH⟩ : ∃ H, H = s.heap := ⟨_, rfl⟩
  rw [← hH] at hI ⊢
  obtain ⟨locs, hlocs⟩ : ∃ z : List Loc, z = [] := ⟨_, rfl⟩
  rw [← hlocs] at hI ⊢
  have hl : lv_has ls 1 [(0, .ref a0)] := hl
  unfold f_AbC_init at h
  refine lv_aload_n hx hb d_AbC_init_0 rfl (lv_at hl 0 rfl) ?_
  refine W.objInit hx hb hown (hT _ wd_98 args) (hT _ wd_78 args) (hT _ wd_79 args) rfl (by rw [hml]; exact hl.1) rfl d_AbC_init_1 (Nat.le_of_ble_eq_true rfl) (Nat.le_of_ble_eq_true rfl) ?_
  refine W.eq (g2 := F0 m 4 ls []) rfl ?_
  exact W.widen (show 0 ≤ 0 by omega) (show 0 ≤ 0 by omega) (hret _ _ (Option.some.inj h).symm _ _ _ _ d_AbC_init_4 hI)

abbrev b_AbL_init : ByteArray := prog_23_method_1_code
def y_AbL_init : MethodName := ⟨"java/util/AbstractList", "<init>", "()V"⟩
theorem d_AbL_init_0 : decode b_AbL_init 0 = .ok (.aload_n 0, 1) := by decide +kernel
theorem d_AbL_init_1 : decode b_AbL_init 1 = .ok (.invokespecial 1, 3) := by decide +kernel
theorem d_AbL_init_4 : decode b_AbL_init 4 = .ok (.aload_n 0, 1) := by decide +kernel
theorem d_AbL_init_5 : decode b_AbL_init 5 = .ok (.iconst 0, 1) := by decide +kernel
theorem d_AbL_init_6 : decode b_AbL_init 6 = .ok (.putfield 7, 3) := by decide +kernel
theorem d_AbL_init_9 : decode b_AbL_init 9 = .ok (.return_, 1) := by decide +kernel
abbrev rm_AbL_init : Room := { frames := 2, cells := 0, slots := 0, locals := 42 }
theorem ce_AbL_init : gCe y_AbL_init (.code y_AbL_init b_AbL_init 1 none) 1 0 false := gCe.code wd_94 wd_52 wd_93 (by decide) (by decide +kernel)
def f_AbL_init (g0 : gG) (a0 : Nat) (w : gW) : gX Unit := gbind (f_AbC_init g0 a0 w) fun v3 w => (gp w a0 1 2 (.int 0)).bind fun w => some (.inr (), w)
set_option maxHeartbeats 4000000 in
set_option maxRecDepth 100000 in
theorem m_AbL_init (l : Launch) (hst : l.stackTraces = false) (D : gD) (g0 : gG) (a0 : Nat) (w : gW) (r : (String ⊕ Unit) × gW) (h : f_AbL_init g0 a0 w = some r) : gMet l y_AbL_init (.code y_AbL_init b_AbL_init 1 none) rm_AbL_init D g0 [.ref a0] w (goV r) := by
  refine gw_ofV (by decide +kernel) (Nat.le_of_ble_eq_true rfl) ?_
  intro p e s m below meth c ls args A Q hx hb hml hown hlocks hin hnt hT hK hZ hA hret hexc hthr hI hl
  obtain ⟨H, hH⟩ : ∃ H, H = s.heap := ⟨_, rfl⟩
  rw [← hH] at hI ⊢
  obtain ⟨locs, hlocs⟩ : ∃ z : List Loc, z = [] := ⟨_, rfl⟩
  rw [← hlocs] at hI ⊢
  have hl : lv_has ls 1 [(0, .ref a0)] := hl
  unfold f_AbL_init at h
  refine lv_aload_n hx hb d_AbL_init_0 rfl (lv_at hl 0 rfl) ?_
  obtain ⟨u1, e2⟩ := gsome h
  refine gw_callV e2 h (gw_runI (As := []) (rest := []) hx hb hml hown hT hK hZ hA hI (m_AbC_init l hst D g0 a0 w u1 e2) ce_AbC_init wd_95 rfl ⟨by decide, by decide⟩ rfl rfl hl.1 rfl (lv_room (Nat.le_of_ble_eq_true rfl)) d_AbL_init_1 ⟨(show 0 + 0 ≤ 0 by omega), (show 0 + 0 ≤ 0 by omega)⟩) hI hA hexc (show 0 + 0 ≤ 0 by omega) (show 0 + 0 ≤ 0 by omega) (fun v3 w H locs h hI => ?_)
  refine lv_aload_n hx hb d_AbL_init_4 rfl (lv_at hl 0 rfl) ?_
  refine lv_iconst (v := 0) hx hb d_AbL_init_5 (by decide) ?_
  obtain ⟨w, e4, h⟩ := gb h
  refine gw_put hx hb hT hown hK hI (ci := 1) rfl i_1 t_1 t_1_ok n_1 2 (by decide) wd_103 (fun _ h9 => h9) rfl (ty := .int) (by decide +kernel) rfl rfl e4 d_AbL_init_6 (fun H locs hI => ?_)
  exact W.widen (show 0 ≤ 0 by omega) (show 0 ≤ 0 by omega) (hret _ _ (Option.some.inj h).symm _ _ _ _ d_AbL_init_9 hI)

abbrev b_AL_init : ByteArray := prog_24_method_2_code
def y_AL_init : MethodName := ⟨"java/util/ArrayList", "<init>", "()V"⟩
theorem d_AL_init_0 : decode b_AL_init 0 = .ok (.aload_n 0, 1) := by decide +kernel
theorem d_AL_init_1 : decode b_AL_init 1 = .ok (.invokespecial 1, 3) := by decide +kernel
theorem d_AL_init_4 : decode b_AL_init 4 = .ok (.aload_n 0, 1) := by decide +kernel
theorem d_AL_init_5 : decode b_AL_init 5 = .ok (.getstatic 39, 3) := by decide +kernel
theorem d_AL_init_8 : decode b_AL_init 8 = .ok (.putfield 9, 3) := by decide +kernel
theorem d_AL_init_11 : decode b_AL_init 11 = .ok (.return_, 1) := by decide +kernel
abbrev rm_AL_init : Room := { frames := 3, cells := 0, slots := 0, locals := 62 }
theorem ce_AL_init : gCe y_AL_init (.code y_AL_init b_AL_init 1 none) 1 0 false := gCe.code wd_91 wd_53 wd_90 (by decide) (by decide +kernel)
def f_AL_init (g0 : gG) (a0 : Nat) (w : gW) : gX Unit := gbind (f_AbL_init g0 a0 w) fun v3 w => (gp w a0 1 0 (.ref (g0.1))).bind fun w => some (.inr (), w)
set_option maxHeartbeats 4000000 in
set_option maxRecDepth 100000 in
theorem m_AL_init (l : Launch) (hst : l.stackTraces = false) (D : gD) (g0 : gG) (a0 : Nat) (w : gW) (r : (String ⊕ Unit) × gW) (h : f_AL_init g0 a0 w = some r) : gMet l y_AL_init (.code y_AL_init b_AL_init 1 none) rm_AL_init D g0 [.ref a0] w (goV r) := by
  refine gw_ofV (by decide +kernel) (Nat.le_of_ble_eq_true rfl) ?_
  intro p e s m below meth c ls args A Q hx hb hml hown hlocks hin hnt hT hK hZ hA hret hexc hthr hI hl
  obtain ⟨H, hH⟩ : ∃ H, H = s.heap := ⟨_, rfl⟩
  rw [← hH] at hI ⊢
  obtain ⟨locs, hlocs⟩ : ∃ z : List Loc, z = [] := ⟨_, rfl⟩
  rw [← hlocs] at hI ⊢
  have hl : lv_has ls 1 [(0, .ref a0)] := hl
  unfold f_AL_init at h
  refine lv_aload_n hx hb d_AL_init_0 rfl (lv_at hl 0 rfl) ?_
  obtain ⟨u1, e2⟩ := gsome h
  refine gw_callV e2 h (gw_runI (As := []) (rest := []) hx hb hml hown hT hK hZ hA hI (m_AbL_init l hst D g0 a0 w u1 e2) ce_AbL_init wd_92 rfl ⟨by decide, by decide⟩ rfl rfl hl.1 rfl (lv_room (Nat.le_of_ble_eq_true rfl)) d_AL_init_1 ⟨(show 0 + 0 ≤ 0 by omega), (show 0 + 0 ≤ 0 by omega)⟩) hI hA hexc (show 0 + 0 ≤ 0 by omega) (show 0 + 0 ≤ 0 by omega) (fun v3 w H locs h hI => ?_)
  refine lv_aload_n hx hb d_AL_init_4 rfl (lv_at hl 0 rfl) ?_
  refine gw_gets hx hb hT hown hZ hI wd_99 d_AL_init_5 ?_
  obtain ⟨w, e4, h⟩ := gb h
  refine gw_put hx hb hT hown hK hI (ci := 1) rfl i_1 t_1 t_1_ok n_1 0 (by decide) wd_101 (fun _ h9 => h9) rfl (ty := .array (.object "java/lang/Object")) (by decide +kernel) rfl rfl e4 d_AL_init_8 (fun H locs hI => ?_)
  exact W.widen (show 0 ≤ 0 by omega) (show 0 ≤ 0 by omega) (hret _ _ (Option.some.inj h).symm _ _ _ _ d_AL_init_11 hI)

abbrev b_Ar_fill : ByteArray := prog_25_method_103_code
def y_Ar_fill : MethodName := ⟨"java/util/Arrays", "fill", "([II)V"⟩
theorem d_Ar_fill_0 : decode b_Ar_fill 0 = .ok (.iconst 0, 1) := by decide +kernel
theorem d_Ar_fill_1 : decode b_Ar_fill 1 = .ok (.istore_n 2, 1) := by decide +kernel
theorem d_Ar_fill_2 : decode b_Ar_fill 2 = .ok (.aload_n 0, 1) := by decide +kernel
theorem d_Ar_fill_3 : decode b_Ar_fill 3 = .ok (.arraylength, 1) := by decide +kernel
theorem d_Ar_fill_4 : decode b_Ar_fill 4 = .ok (.istore_n 3, 1) := by decide +kernel
theorem d_Ar_fill_5 : decode b_Ar_fill 5 = .ok (.iload_n 2, 1) := by decide +kernel
theorem d_Ar_fill_6 : decode b_Ar_fill 6 = .ok (.iload_n 3, 1) := by decide +kernel
theorem d_Ar_fill_7 : decode b_Ar_fill 7 = .ok (.if_icmp .ge 13, 3) := by decide +kernel
theorem d_Ar_fill_10 : decode b_Ar_fill 10 = .ok (.aload_n 0, 1) := by decide +kernel
theorem d_Ar_fill_11 : decode b_Ar_fill 11 = .ok (.iload_n 2, 1) := by decide +kernel
theorem d_Ar_fill_12 : decode b_Ar_fill 12 = .ok (.iload_n 1, 1) := by decide +kernel
theorem d_Ar_fill_13 : decode b_Ar_fill 13 = .ok (.iastore, 1) := by decide +kernel
theorem d_Ar_fill_14 : decode b_Ar_fill 14 = .ok (.iinc 2 1, 3) := by decide +kernel
theorem d_Ar_fill_17 : decode b_Ar_fill 17 = .ok (.goto (-12), 3) := by decide +kernel
theorem d_Ar_fill_20 : decode b_Ar_fill 20 = .ok (.return_, 1) := by decide +kernel
abbrev rm_Ar_fill : Room := { frames := 0, cells := 0, slots := 0, locals := 0 }
theorem ce_Ar_fill : gCe y_Ar_fill (.code y_Ar_fill b_Ar_fill 4 none) 4 2 true := gCe.code wd_115 wd_54 wd_114 (by decide) (by decide +kernel)
def f_Ar_fill_L5 (g0 : gG) (c0 : Nat) (c1 : Int32) (c3 : Int32) (K20 : gW → gX Unit) : Nat → Int32 → gW → gX Unit
  | 0, _, _ => none
  | n + 1, z2, w => if c3 ≤ z2 then (K20 w) else ((gsI w c0 z2 c1).bind fun w => f_Ar_fill_L5 g0 c0 c1 c3 K20 n (z2 + 1) w)
def f_Ar_fill (g0 : gG) (a0 : Nat) (p1 : Int32) (w : gW) : gX Unit := (gal w a0).bind fun v1 => gjoin (fun K20 => f_Ar_fill_L5 g0 a0 p1 v1 K20 1000 0 w) (fun (w : gW) => some (.inr (), w))
set_option maxHeartbeats 4000000 in
set_option maxRecDepth 100000 in
theorem m_Ar_fill (l : Launch) (hst : l.stackTraces = false) (D : gD) (g0 : gG) (a0 : Nat) (p1 : Int32) (w : gW) (r : (String ⊕ Unit) × gW) (h : f_Ar_fill g0 a0 p1 w = some r) : gMet l y_Ar_fill (.code y_Ar_fill b_Ar_fill 4 none) rm_Ar_fill D g0 [.ref a0, .int p1] w (goV r) := by
  refine gw_ofV (by decide +kernel) (Nat.le_of_ble_eq_true rfl) ?_
  intro p e s m below meth c ls args A Q hx hb hml hown hlocks hin hnt hT hK hZ hA hret hexc hthr hI hl
  obtain ⟨H, hH⟩ : ∃ H, H = s.heap := ⟨_, rfl⟩
  rw [← hH] at hI ⊢
  obtain ⟨locs, hlocs⟩ : ∃ z : List Loc, z = [] := ⟨_, rfl⟩
  rw [← hlocs] at hI ⊢
  have hl : lv_has ls 4 [(0, .ref a0), (1, .int p1)] := hl
  unfold f_Ar_fill at h
  refine lv_iconst (v := 0) hx hb d_Ar_fill_0 (by decide) ?_
  refine lv_istore_n (lv' := [(2, .int 0), (0, .ref a0), (1, .int p1)]) hx hb d_Ar_fill_1 rfl hl (by decide) rfl (fun ls hl => ?_)
  refine lv_aload_n hx hb d_Ar_fill_2 rfl (lv_at hl 1 rfl) ?_
  obtain ⟨v1, e2, h⟩ := gb h
  refine gw_alen hx hb hK hI e2 d_Ar_fill_3 ?_
  refine lv_istore_n (lv' := [(3, .int v1), (2, .int 0), (0, .ref a0), (1, .int p1)]) hx hb d_Ar_fill_4 rfl hl (by decide) rfl (fun ls hl => ?_)
  obtain ⟨K20, eK20, h⟩ := gj h
  have hK20 : ∀ (w : gW) (H : Heap) (locs : List Loc) (ls : Array Slot), K20 w = some r → gI D s A w H locs → lv_has ls 4 [] → W p l e rm_Ar_fill s m args below meth c H locs 0 0 Q (F0 m 20 ls []) := by
    intro w H locs ls h hI hl
    have h := gk1 eK20 h
    exact W.widen (show 0 ≤ 0 by omega) (show 0 ≤ 0 by omega) (hret _ _ (Option.some.inj h).symm _ _ _ _ d_Ar_fill_20 hI)
  have hL5 : ∀ (n : Nat), ∀ (z3 : Int32) (w : gW) (H : Heap) (locs : List Loc) (ls : Array Slot), f_Ar_fill_L5 g0 a0 p1 v1 K20 n z3 w = some r → gI D s A w H locs → lv_has ls 4 [(0, .ref a0), (1, .int p1), (3, .int v1), (2, .int z3)] → W p l e rm_Ar_fill s m args below meth c H locs 0 0 Q (F0 m 5 ls []) := by
    intro n
    induction n with
    | zero => intro z3 w H locs ls h hI hl; exact absurd h (by simp [f_Ar_fill_L5])
    | succ n ih =>
      intro z3 w H locs ls h hI hl
      rw [f_Ar_fill_L5] at h
      refine lv_iload_n hx hb d_Ar_fill_5 rfl (lv_at hl 3 rfl) ?_
      refine lv_iload_n hx hb d_Ar_fill_6 rfl (lv_at hl 2 rfl) ?_
      refine lv_icmp_ge (tgt := 20) hx hb d_Ar_fill_7 (by decide) (fun c4 => ?_) (fun c4 => ?_)
      · skip
        have h := git c4 h
        exact hK20 w H locs ls h hI (lv_sub hl [] rfl)
      · skip
        have h := gie c4 h
        refine lv_aload_n hx hb d_Ar_fill_10 rfl (lv_at hl 0 rfl) ?_
        refine lv_iload_n hx hb d_Ar_fill_11 rfl (lv_at hl 3 rfl) ?_
        refine lv_iload_n hx hb d_Ar_fill_12 rfl (lv_at hl 1 rfl) ?_
        obtain ⟨w, e5, h⟩ := gb h
        refine gw_astI hx hb hK hI e5 d_Ar_fill_13 (fun H locs hI => ?_)
        refine lv_iinc (v := z3 + 1) (lv' := [(2, .int (z3 + 1)), (0, .ref a0), (1, .int p1), (3, .int v1)]) hx hb d_Ar_fill_14 hl (k := 3) rfl rfl (by decide) rfl (fun ls hl => ?_)
        refine lv_goto (tgt := 5) hx hb d_Ar_fill_17 (by decide) ?_
        exact ih _ w H locs ls h hI (lv_sub hl [1, 2, 3, 0] rfl)
  exact hL5 1000 _ w H locs ls h hI (lv_sub hl [2, 3, 0, 1] rfl)

abbrev b_So_init : ByteArray := prog_7_method_1_code
def y_So_init : MethodName := ⟨"BodySolids$Solid", "<init>", "()V"⟩
theorem d_So_init_0 : decode b_So_init 0 = .ok (.aload_n 0, 1) := by decide +kernel
theorem d_So_init_1 : decode b_So_init 1 = .ok (.invokespecial 3, 3) := by decide +kernel
theorem d_So_init_4 : decode b_So_init 4 = .ok (.aload_n 0, 1) := by decide +kernel
theorem d_So_init_5 : decode b_So_init 5 = .ok (.bipush 8, 2) := by decide +kernel
theorem d_So_init_7 : decode b_So_init 7 = .ok (.newarray .long, 2) := by decide +kernel
theorem d_So_init_9 : decode b_So_init 9 = .ok (.putfield 9, 3) := by decide +kernel
theorem d_So_init_12 : decode b_So_init 12 = .ok (.aload_n 0, 1) := by decide +kernel
theorem d_So_init_13 : decode b_So_init 13 = .ok (.bipush 8, 2) := by decide +kernel
theorem d_So_init_15 : decode b_So_init 15 = .ok (.newarray .long, 2) := by decide +kernel
theorem d_So_init_17 : decode b_So_init 17 = .ok (.putfield 15, 3) := by decide +kernel
theorem d_So_init_20 : decode b_So_init 20 = .ok (.return_, 1) := by decide +kernel
abbrev rm_So_init : Room := { frames := 1, cells := 2, slots := 16, locals := 22 }
theorem ce_So_init : gCe y_So_init (.code y_So_init b_So_init 1 none) 1 0 false := gCe.code wd_127 wd_56 wd_126 (by decide) (by decide +kernel)
def f_So_init (g0 : gG) (a0 : Nat) (w : gW) : gX Unit := gb2f (gna w 1 8 8 (.long 0)) fun o1 w => (gp w a0 3 3 (.ref o1)).bind fun w => gb2f (gna w 1 8 8 (.long 0)) fun o4 w => (gp w a0 3 4 (.ref o4)).bind fun w => some (.inr (), w)
set_option maxHeartbeats 4000000 in
set_option maxRecDepth 100000 in
theorem m_So_init (l : Launch) (hst : l.stackTraces = false) (D : gD) (g0 : gG) (a0 : Nat) (w : gW) (r : (String ⊕ Unit) × gW) (h : f_So_init g0 a0 w = some r) : gMet l y_So_init (.code y_So_init b_So_init 1 none) rm_So_init D g0 [.ref a0] w (goV r) := by
  refine gw_ofV (by decide +kernel) (Nat.le_of_ble_eq_true rfl) ?_
  intro p e s m below meth c ls args A Q hx hb hml hown hlocks hin hnt hT hK hZ hA hret hexc hthr hI hl
  obtain ⟨H, hH⟩ : ∃ H, H = s.heap := ⟨_, rfl⟩
  rw [← hH] at hI ⊢
  obtain ⟨locs, hlocs⟩ : ∃ z : List Loc, z = [] := ⟨_, rfl⟩
  rw [← hlocs] at hI ⊢
  have hl : lv_has ls 1 [(0, .ref a0)] := hl
  unfold f_So_init at h
  refine lv_aload_n hx hb d_So_init_0 rfl (lv_at hl 0 rfl) ?_
  refine W.objInit hx hb hown (hT _ wd_128 args) (hT _ wd_78 args) (hT _ wd_79 args) rfl (by rw [hml]; exact hl.1) rfl d_So_init_1 (Nat.le_of_ble_eq_true rfl) (Nat.le_of_ble_eq_true rfl) ?_
  refine W.eq (g2 := F0 m 4 ls []) rfl ?_
  refine lv_aload_n hx hb d_So_init_4 rfl (lv_at hl 0 rfl) ?_
  refine lv_bipush (v := 8) hx hb d_So_init_5 (by decide) ?_
  obtain ⟨o1, w, e2, h⟩ := gb2 h
  refine gw_newa (atype := .long) (ty := .long) (M := 8) hx hb hK hI hA (hT _ wd_178 args) rfl (k := 1) rfl (fun h9 => h9) e2 (show 0 + 1 ≤ 2 by omega) (show 0 + 8 ≤ 16 by omega) (show 8 * 8 ≤ 536870912 by omega) d_So_init_7 (fun H hI => ?_)
  refine W.widen (k := 1) (n := 8) (show 0 + 1 ≤ 1 by omega) (show 0 + 8 ≤ 8 by omega) ?_
  obtain ⟨w, e3, h⟩ := gb h
  refine gw_putF hx hb hT hown hK hI (ci := 3) rfl i_3 t_3 t_3_ok n_3 3 (by decide) wd_135 (fun _ h9 => h9) rfl hin rfl (ty := .array .long) (by decide +kernel) rfl rfl e3 d_So_init_9 (fun H locs hI => ?_)
  refine lv_aload_n hx hb d_So_init_12 rfl (lv_at hl 0 rfl) ?_
  refine lv_bipush (v := 8) hx hb d_So_init_13 (by decide) ?_
  obtain ⟨o4, w, e5, h⟩ := gb2 h
  refine gw_newa (atype := .long) (ty := .long) (M := 8) hx hb hK hI hA (hT _ wd_178 args) rfl (k := 1) rfl (fun h9 => h9) e5 (show 1 + 1 ≤ 2 by omega) (show 8 + 8 ≤ 16 by omega) (show 8 * 8 ≤ 536870912 by omega) d_So_init_15 (fun H hI => ?_)
  refine W.widen (k := 2) (n := 16) (show 1 + 1 ≤ 2 by omega) (show 8 + 8 ≤ 16 by omega) ?_
  obtain ⟨w, e6, h⟩ := gb h
  refine gw_putF hx hb hT hown hK hI (ci := 3) rfl i_3 t_3 t_3_ok n_3 4 (by decide) wd_137 (fun _ h9 => h9) rfl hin rfl (ty := .array .long) (by decide +kernel) rfl rfl e6 d_So_init_17 (fun H locs hI => ?_)
  exact W.widen (show 2 ≤ 2 by omega) (show 16 ≤ 16 by omega) (hret _ _ (Option.some.inj h).symm _ _ _ _ d_So_init_20 hI)

abbrev b_La_init : ByteArray := prog_4_method_1_code
def y_La_init : MethodName := ⟨"BodySolids$Layout", "<init>", "()V"⟩
theorem d_La_init_0 : decode b_La_init 0 = .ok (.aload_n 0, 1) := by decide +kernel
theorem d_La_init_1 : decode b_La_init 1 = .ok (.invokespecial 3, 3) := by decide +kernel
theorem d_La_init_4 : decode b_La_init 4 = .ok (.aload_n 0, 1) := by decide +kernel
theorem d_La_init_5 : decode b_La_init 5 = .ok (.bipush 12, 2) := by decide +kernel
theorem d_La_init_7 : decode b_La_init 7 = .ok (.anewarray 9, 3) := by decide +kernel
theorem d_La_init_10 : decode b_La_init 10 = .ok (.putfield 11, 3) := by decide +kernel
theorem d_La_init_13 : decode b_La_init 13 = .ok (.aload_n 0, 1) := by decide +kernel
theorem d_La_init_14 : decode b_La_init 14 = .ok (.iconst 0, 1) := by decide +kernel
theorem d_La_init_15 : decode b_La_init 15 = .ok (.putfield 17, 3) := by decide +kernel
theorem d_La_init_18 : decode b_La_init 18 = .ok (.iconst 0, 1) := by decide +kernel
theorem d_La_init_19 : decode b_La_init 19 = .ok (.istore_n 1, 1) := by decide +kernel
theorem d_La_init_20 : decode b_La_init 20 = .ok (.iload_n 1, 1) := by decide +kernel
theorem d_La_init_21 : decode b_La_init 21 = .ok (.bipush 12, 2) := by decide +kernel
theorem d_La_init_23 : decode b_La_init 23 = .ok (.if_icmp .ge 22, 3) := by decide +kernel
theorem d_La_init_26 : decode b_La_init 26 = .ok (.aload_n 0, 1) := by decide +kernel
theorem d_La_init_27 : decode b_La_init 27 = .ok (.getfield 11, 3) := by decide +kernel
theorem d_La_init_30 : decode b_La_init 30 = .ok (.iload_n 1, 1) := by decide +kernel
theorem d_La_init_31 : decode b_La_init 31 = .ok (.new 9, 3) := by decide +kernel
theorem d_La_init_34 : decode b_La_init 34 = .ok (.dup, 1) := by decide +kernel
theorem d_La_init_35 : decode b_La_init 35 = .ok (.invokespecial 21, 3) := by decide +kernel
theorem d_La_init_38 : decode b_La_init 38 = .ok (.aastore, 1) := by decide +kernel
theorem d_La_init_39 : decode b_La_init 39 = .ok (.iinc 1 1, 3) := by decide +kernel
theorem d_La_init_42 : decode b_La_init 42 = .ok (.goto (-22), 3) := by decide +kernel
theorem d_La_init_45 : decode b_La_init 45 = .ok (.return_, 1) := by decide +kernel
abbrev rm_La_init : Room := { frames := 2, cells := 40, slots := 376, locals := 42 }
theorem ce_La_init : gCe y_La_init (.code y_La_init b_La_init 2 none) 2 0 false := gCe.code wd_120 wd_55 wd_119 (by decide) (by decide +kernel)
def f_La_init_L20 (g0 : gG) (c0 : Nat) (K45 : gW → gX Unit) : Nat → Int32 → gW → gX Unit
  | 0, _, _ => none
  | n + 1, z1, w => if 12 ≤ z1 then (K45 w) else ((gfA w c0 2 0).bind fun v6 => gb2f (gnw w 3 [.int 0, .long 0, .long 0, .null, .null, .int 0, .long 0, .long 0, .long 0, .long 0, .long 0, .long 0]) fun o8 w => gbind (f_So_init g0 o8 w) fun v12 w => (gsA w v6 z1 o8).bind fun w => f_La_init_L20 g0 c0 K45 n (z1 + 1) w)
def f_La_init (g0 : gG) (a0 : Nat) (w : gW) : gX Unit := gb2f (gna w 2 12 12 .null) fun o1 w => (gp w a0 2 0 (.ref o1)).bind fun w => (gp w a0 2 1 (.int 0)).bind fun w => gjoin (fun K45 => f_La_init_L20 g0 a0 K45 13 0 w) (fun (w : gW) => some (.inr (), w))
set_option maxHeartbeats 4000000 in
set_option maxRecDepth 100000 in
theorem m_La_init (l : Launch) (hst : l.stackTraces = false) (D : gD) (g0 : gG) (a0 : Nat) (w : gW) (r : (String ⊕ Unit) × gW) (h : f_La_init g0 a0 w = some r) : gMet l y_La_init (.code y_La_init b_La_init 2 none) rm_La_init D g0 [.ref a0] w (goV r) := by
  refine gw_ofV (by decide +kernel) (Nat.le_of_ble_eq_true rfl) ?_
  intro p e s m below meth c ls args A Q hx hb hml hown hlocks hin hnt hT hK hZ hA hret hexc hthr hI hl
  obtain ⟨H, hH⟩ : ∃ H, H = s.heap := ⟨_, rfl⟩
  rw [← hH] at hI ⊢
  obtain ⟨locs, hlocs⟩ : ∃ z : List Loc, z = [] := ⟨_, rfl⟩
  rw [← hlocs] at hI ⊢
  have hl : lv_has ls 2 [(0, .ref a0)] := hl
  unfold f_La_init at h
  refine lv_aload_n hx hb d_La_init_0 rfl (lv_at hl 0 rfl) ?_
  refine W.objInit hx hb hown (hT _ wd_121 args) (hT _ wd_78 args) (hT _ wd_79 args) rfl (by rw [hml]; exact hl.1) rfl d_La_init_1 (Nat.le_of_ble_eq_true rfl) (Nat.le_of_ble_eq_true rfl) ?_
  refine W.eq (g2 := F0 m 4 ls []) rfl ?_
  refine lv_aload_n hx hb d_La_init_4 rfl (lv_at hl 0 rfl) ?_
  refine lv_bipush (v := 12) hx hb d_La_init_5 (by decide) ?_
  obtain ⟨o1, w, e2, h⟩ := gb2 h
  refine gw_anew (M := 12) hx hb hown hK hI hA (hT _ wd_122 args) (hT _ wd_123 args) (k := 2) rfl e2 (show 0 + 1 ≤ 40 by omega) (show 0 + 12 ≤ 376 by omega) (show 12 * 4 ≤ 536870912 by omega) d_La_init_7 (fun H hI => ?_)
  refine W.widen (k := 1) (n := 12) (show 0 + 1 ≤ 1 by omega) (show 0 + 12 ≤ 12 by omega) ?_
  obtain ⟨w, e3, h⟩ := gb h
  refine gw_putF hx hb hT hown hK hI (ci := 2) rfl i_2 t_2 t_2_ok n_2 0 (by decide) wd_180 (fun _ h9 => h9) rfl hin rfl (ty := .array (.object "BodySolids$Solid")) (by decide +kernel) rfl rfl e3 d_La_init_10 (fun H locs hI => ?_)
  refine lv_aload_n hx hb d_La_init_13 rfl (lv_at hl 0 rfl) ?_
  refine lv_iconst (v := 0) hx hb d_La_init_14 (by decide) ?_
  obtain ⟨w, e4, h⟩ := gb h
  refine gw_put hx hb hT hown hK hI (ci := 2) rfl i_2 t_2 t_2_ok n_2 1 (by decide) wd_182 (fun _ h9 => h9) rfl (ty := .int) (by decide +kernel) rfl rfl e4 d_La_init_15 (fun H locs hI => ?_)
  refine lv_iconst (v := 0) hx hb d_La_init_18 (by decide) ?_
  refine lv_istore_n (lv' := [(1, .int 0), (0, .ref a0)]) hx hb d_La_init_19 rfl hl (by decide) rfl (fun ls hl => ?_)
  obtain ⟨K45, eK45, h⟩ := gj h
  have hK45 : ∀ (w : gW) (H : Heap) (locs : List Loc) (ls : Array Slot), K45 w = some r → gI D s A w H locs → lv_has ls 2 [] → W p l e rm_La_init s m args below meth c H locs 40 376 Q (F0 m 45 ls []) := by
    intro w H locs ls h hI hl
    have h := gk1 eK45 h
    exact W.widen (show 40 ≤ 40 by omega) (show 376 ≤ 376 by omega) (hret _ _ (Option.some.inj h).symm _ _ _ _ d_La_init_45 hI)
  have hL20 : ∀ (n : Nat), n ≤ 13 → ∀ (z5 : Int32) (w : gW) (H : Heap) (locs : List Loc) (ls : Array Slot), f_La_init_L20 g0 a0 K45 n z5 w = some r → gI D s A w H locs → lv_has ls 2 [(0, .ref a0), (1, .int z5)] → W p l e rm_La_init s m args below meth c H locs (40 - n * 3) (376 - n * 28) Q (F0 m 20 ls []) := by
    intro n
    induction n with
    | zero => intro hn z5 w H locs ls h hI hl; exact absurd h (by simp [f_La_init_L20])
    | succ n ih =>
      intro hn z5 w H locs ls h hI hl
      rw [f_La_init_L20] at h
      refine lv_iload_n hx hb d_La_init_20 rfl (lv_at hl 1 rfl) ?_
      refine lv_bipush (v := 12) hx hb d_La_init_21 (by decide) ?_
      refine lv_icmp_ge (tgt := 45) hx hb d_La_init_23 (by decide) (fun c6 => ?_) (fun c6 => ?_)
      · skip
        have h := git c6 h
        refine W.widen (k := 40) (n := 376) (show (40 - (n + 1) * 3) ≤ 40 by omega) (show (376 - (n + 1) * 28) ≤ 376 by omega) ?_
        exact hK45 w H locs ls h hI (lv_sub hl [] rfl)
      · skip
        have h := gie c6 h
        refine lv_aload_n hx hb d_La_init_26 rfl (lv_at hl 0 rfl) ?_
        obtain ⟨v7, e8, h⟩ := gb h
        refine gw_getA hx hb hT hown hK hI (ci := 2) rfl i_2 0 (by decide) wd_180 (fun _ h9 => h9) e8 d_La_init_27 ?_
        refine lv_iload_n hx hb d_La_init_30 rfl (lv_at hl 1 rfl) ?_
        obtain ⟨o9, w, e10, h⟩ := gb2 h
        refine gw_new hx hb hT hown hK hI hA (ci := 3) rfl i_3 t_3 t_3_ok wd_122 wd_124 wd_56 (fs := [.int 0, .long 0, .long 0, .null, .null, .int 0, .long 0, .long 0, .long 0, .long 0, .long 0, .long 0]) df_3 e10 (show (40 - (n + 1) * 3) + 1 ≤ 40 by omega) (show (376 - (n + 1) * 28) + 12 ≤ 376 by omega) d_La_init_31 (fun H hI => ?_)
        refine W.widen (k := ((40 - (n + 1) * 3) + 1)) (n := ((376 - (n + 1) * 28) + 12)) (show (40 - (n + 1) * 3) + 1 ≤ ((40 - (n + 1) * 3) + 1) by omega) (show (376 - (n + 1) * 28) + 12 ≤ ((376 - (n + 1) * 28) + 12) by omega) ?_
        refine lv_dup hx hb d_La_init_34 rfl ?_
        obtain ⟨u11, e12⟩ := gsome h
        refine gw_callV e12 h (gw_runIN (As := []) (rest := [.ref o9, .int z5, .ref v7]) hx hb hml hown hT hK hZ hA hI (m_So_init l hst D g0 o9 w u11 e12) ce_So_init wd_125 rfl ⟨by decide, by decide⟩ rfl rfl hl.1 rfl (lv_room (Nat.le_of_ble_eq_true rfl)) d_La_init_35 ⟨(show ((40 - (n + 1) * 3) + 1) + 2 ≤ 40 by omega), (show ((376 - (n + 1) * 28) + 12) + 16 ≤ 376 by omega)⟩) hI hA hexc (show ((40 - (n + 1) * 3) + 1) + 2 ≤ 40 by omega) (show ((376 - (n + 1) * 28) + 12) + 16 ≤ 376 by omega) (fun v13 w H locs h hI => ?_)
        refine W.widen (k := ((40 - (n + 1) * 3) + 3)) (n := ((376 - (n + 1) * 28) + 28)) (show ((40 - (n + 1) * 3) + 1) + 2 ≤ ((40 - (n + 1) * 3) + 3) by omega) (show ((376 - (n + 1) * 28) + 12) + 16 ≤ ((376 - (n + 1) * 28) + 28) by omega) ?_
        obtain ⟨w, e14, h⟩ := gb h
        refine gw_astA hx hb hT hK hI e14 d_La_init_38 (fun H locs hI => ?_)
        refine lv_iinc (v := z5 + 1) (lv' := [(1, .int (z5 + 1)), (0, .ref a0)]) hx hb d_La_init_39 hl (k := 1) rfl rfl (by decide) rfl (fun ls hl => ?_)
        refine lv_goto (tgt := 20) hx hb d_La_init_42 (by decide) ?_
        refine W.widen (k := (40 - n * 3)) (n := (376 - n * 28)) (show ((40 - (n + 1) * 3) + 3) ≤ (40 - n * 3) by omega) (show ((376 - (n + 1) * 28) + 28) ≤ (376 - n * 28) by omega) ?_
        exact ih (by omega) _ w H locs ls h hI (lv_sub hl [1, 0] rfl)
  refine W.widen (k := (40 - 13 * 3)) (n := (376 - 13 * 28)) (show 1 ≤ (40 - 13 * 3) by omega) (show 12 ≤ (376 - 13 * 28) by omega) ?_
  exact hL20 13 (Nat.le_refl _) _ w H locs ls h hI (lv_sub hl [1, 0] rfl)

abbrev b_So_begin : ByteArray := prog_7_method_2_code
def y_So_begin : MethodName := ⟨"BodySolids$Solid", "begin", "(IJJ)V"⟩
theorem d_So_begin_0 : decode b_So_begin 0 = .ok (.aload_n 0, 1) := by decide +kernel
theorem d_So_begin_1 : decode b_So_begin 1 = .ok (.iload_n 1, 1) := by decide +kernel
theorem d_So_begin_2 : decode b_So_begin 2 = .ok (.putfield 18, 3) := by decide +kernel
theorem d_So_begin_5 : decode b_So_begin 5 = .ok (.aload_n 0, 1) := by decide +kernel
theorem d_So_begin_6 : decode b_So_begin 6 = .ok (.lload_n 2, 1) := by decide +kernel
theorem d_So_begin_7 : decode b_So_begin 7 = .ok (.putfield 22, 3) := by decide +kernel
theorem d_So_begin_10 : decode b_So_begin 10 = .ok (.aload_n 0, 1) := by decide +kernel
theorem d_So_begin_11 : decode b_So_begin 11 = .ok (.lload 4, 2) := by decide +kernel
theorem d_So_begin_13 : decode b_So_begin 13 = .ok (.putfield 26, 3) := by decide +kernel
theorem d_So_begin_16 : decode b_So_begin 16 = .ok (.aload_n 0, 1) := by decide +kernel
theorem d_So_begin_17 : decode b_So_begin 17 = .ok (.iconst 0, 1) := by decide +kernel
theorem d_So_begin_18 : decode b_So_begin 18 = .ok (.putfield 29, 3) := by decide +kernel
theorem d_So_begin_21 : decode b_So_begin 21 = .ok (.return_, 1) := by decide +kernel
abbrev rm_So_begin : Room := { frames := 0, cells := 0, slots := 0, locals := 0 }
theorem ce_So_begin : gCe y_So_begin (.code y_So_begin b_So_begin 6 none) 6 3 false := gCe.code wd_350 wd_56 wd_348 (by decide) (by decide +kernel)
def f_So_begin (g0 : gG) (a0 : Nat) (p1 : Int32) (p2 : Int64) (p3 : Int64) (w : gW) : gX Unit := (gp w a0 3 0 (.int p1)).bind fun w => (gp w a0 3 1 (.long p2)).bind fun w => (gp w a0 3 2 (.long p3)).bind fun w => (gp w a0 3 5 (.int 0)).bind fun w => some (.inr (), w)
set_option maxHeartbeats 4000000 in
set_option maxRecDepth 100000 in
theorem m_So_begin (l : Launch) (hst : l.stackTraces = false) (D : gD) (g0 : gG) (a0 : Nat) (p1 : Int32) (p2 : Int64) (p3 : Int64) (w : gW) (r : (String ⊕ Unit) × gW) (h : f_So_begin g0 a0 p1 p2 p3 w = some r) : gMet l y_So_begin (.code y_So_begin b_So_begin 6 none) rm_So_begin D g0 [.ref a0, .int p1, .long p2, .long p3] w (goV r) := by
  refine gw_ofV (by decide +kernel) (Nat.le_of_ble_eq_true rfl) ?_
  intro p e s m below meth c ls args A Q hx hb hml hown hlocks hin hnt hT hK hZ hA hret hexc hthr hI hl
  obtain ⟨H, hH⟩ : ∃ H, H = s.heap := ⟨_, rfl⟩
  rw [← hH] at hI ⊢
  obtain ⟨locs, hlocs⟩ : ∃ z : List Loc, z = [] := ⟨_, rfl⟩
  rw [← hlocs] at hI ⊢
  have hl : lv_has ls 6 [(0, .ref a0), (1, .int p1), (2, .long p2), (4, .long p3)] := hl
  unfold f_So_begin at h
  refine lv_aload_n hx hb d_So_begin_0 rfl (lv_at hl 0 rfl) ?_
  refine lv_iload_n hx hb d_So_begin_1 rfl (lv_at hl 1 rfl) ?_
  obtain ⟨w, e1, h⟩ := gb h
  refine gw_put hx hb hT hown hK hI (ci := 3) rfl i_3 t_3 t_3_ok n_3 0 (by decide) wd_129 (fun _ h9 => h9) rfl (ty := .int) (by decide +kernel) rfl rfl e1 d_So_begin_2 (fun H locs hI => ?_)
  refine lv_aload_n hx hb d_So_begin_5 rfl (lv_at hl 0 rfl) ?_
  refine lv_lload_n hx hb d_So_begin_6 rfl (lv_at hl 2 rfl) ?_
  obtain ⟨w, e2, h⟩ := gb h
  refine gw_put hx hb hT hown hK hI (ci := 3) rfl i_3 t_3 t_3_ok n_3 1 (by decide) wd_132 (fun _ h9 => h9) rfl (ty := .long) (by decide +kernel) rfl rfl e2 d_So_begin_7 (fun H locs hI => ?_)
  refine lv_aload_n hx hb d_So_begin_10 rfl (lv_at hl 0 rfl) ?_
  refine lv_lload hx hb d_So_begin_11 (lv_at hl 3 rfl) ?_
  obtain ⟨w, e3, h⟩ := gb h
  refine gw_put hx hb hT hown hK hI (ci := 3) rfl i_3 t_3 t_3_ok n_3 2 (by decide) wd_134 (fun _ h9 => h9) rfl (ty := .long) (by decide +kernel) rfl rfl e3 d_So_begin_13 (fun H locs hI => ?_)
  refine lv_aload_n hx hb d_So_begin_16 rfl (lv_at hl 0 rfl) ?_
  refine lv_iconst (v := 0) hx hb d_So_begin_17 (by decide) ?_
  obtain ⟨w, e4, h⟩ := gb h
  refine gw_put hx hb hT hown hK hI (ci := 3) rfl i_3 t_3 t_3_ok n_3 5 (by decide) wd_139 (fun _ h9 => h9) rfl (ty := .int) (by decide +kernel) rfl rfl e4 d_So_begin_18 (fun H locs hI => ?_)
  exact W.widen (show 0 ≤ 0 by omega) (show 0 ≤ 0 by omega) (hret _ _ (Option.some.inj h).symm _ _ _ _ d_So_begin_21 hI)

abbrev b_Pl_boardX : ByteArray := prog_6_method_4_code
def y_Pl_boardX : MethodName := ⟨"BodySolids$Placement", "boardX", "(JJ)J"⟩
theorem d_Pl_boardX_0 : decode b_Pl_boardX 0 = .ok (.aload_n 0, 1) := by decide +kernel
theorem d_Pl_boardX_1 : decode b_Pl_boardX 1 = .ok (.getfield 24, 3) := by decide +kernel
theorem d_Pl_boardX_4 : decode b_Pl_boardX 4 = .ok (.iconst 1, 1) := by decide +kernel
theorem d_Pl_boardX_5 : decode b_Pl_boardX 5 = .ok (.if_icmp .ne 8, 3) := by decide +kernel
theorem d_Pl_boardX_8 : decode b_Pl_boardX 8 = .ok (.lload_n 1, 1) := by decide +kernel
theorem d_Pl_boardX_9 : decode b_Pl_boardX 9 = .ok (.lneg, 1) := by decide +kernel
theorem d_Pl_boardX_10 : decode b_Pl_boardX 10 = .ok (.goto 4, 3) := by decide +kernel
theorem d_Pl_boardX_13 : decode b_Pl_boardX 13 = .ok (.lload_n 1, 1) := by decide +kernel
theorem d_Pl_boardX_14 : decode b_Pl_boardX 14 = .ok (.lstore 5, 2) := by decide +kernel
theorem d_Pl_boardX_16 : decode b_Pl_boardX 16 = .ok (.aload_n 0, 1) := by decide +kernel
theorem d_Pl_boardX_17 : decode b_Pl_boardX 17 = .ok (.getfield 20, 3) := by decide +kernel
theorem d_Pl_boardX_20 : decode b_Pl_boardX 20 = .ok (.tableswitch 51 0 2 #[28, 36, 43], 28) := by decide +kernel
theorem d_Pl_boardX_48 : decode b_Pl_boardX 48 = .ok (.aload_n 0, 1) := by decide +kernel
theorem d_Pl_boardX_49 : decode b_Pl_boardX 49 = .ok (.getfield 13, 3) := by decide +kernel
theorem d_Pl_boardX_52 : decode b_Pl_boardX 52 = .ok (.lload 5, 2) := by decide +kernel
theorem d_Pl_boardX_54 : decode b_Pl_boardX 54 = .ok (.ladd, 1) := by decide +kernel
theorem d_Pl_boardX_55 : decode b_Pl_boardX 55 = .ok (.lreturn, 1) := by decide +kernel
theorem d_Pl_boardX_56 : decode b_Pl_boardX 56 = .ok (.aload_n 0, 1) := by decide +kernel
theorem d_Pl_boardX_57 : decode b_Pl_boardX 57 = .ok (.getfield 13, 3) := by decide +kernel
theorem d_Pl_boardX_60 : decode b_Pl_boardX 60 = .ok (.lload_n 3, 1) := by decide +kernel
theorem d_Pl_boardX_61 : decode b_Pl_boardX 61 = .ok (.lsub, 1) := by decide +kernel
theorem d_Pl_boardX_62 : decode b_Pl_boardX 62 = .ok (.lreturn, 1) := by decide +kernel
theorem d_Pl_boardX_63 : decode b_Pl_boardX 63 = .ok (.aload_n 0, 1) := by decide +kernel
theorem d_Pl_boardX_64 : decode b_Pl_boardX 64 = .ok (.getfield 13, 3) := by decide +kernel
theorem d_Pl_boardX_67 : decode b_Pl_boardX 67 = .ok (.lload 5, 2) := by decide +kernel
theorem d_Pl_boardX_69 : decode b_Pl_boardX 69 = .ok (.lsub, 1) := by decide +kernel
theorem d_Pl_boardX_70 : decode b_Pl_boardX 70 = .ok (.lreturn, 1) := by decide +kernel
theorem d_Pl_boardX_71 : decode b_Pl_boardX 71 = .ok (.aload_n 0, 1) := by decide +kernel
theorem d_Pl_boardX_72 : decode b_Pl_boardX 72 = .ok (.getfield 13, 3) := by decide +kernel
theorem d_Pl_boardX_75 : decode b_Pl_boardX 75 = .ok (.lload_n 3, 1) := by decide +kernel
theorem d_Pl_boardX_76 : decode b_Pl_boardX 76 = .ok (.ladd, 1) := by decide +kernel
theorem d_Pl_boardX_77 : decode b_Pl_boardX 77 = .ok (.lreturn, 1) := by decide +kernel
abbrev rm_Pl_boardX : Room := { frames := 0, cells := 0, slots := 0, locals := 0 }
theorem ce_Pl_boardX : gCe y_Pl_boardX (.code y_Pl_boardX b_Pl_boardX 7 (some .long)) 7 2 false := gCe.code wd_354 wd_68 wd_352 (by decide) (by decide +kernel)
def f_Pl_boardX (g0 : gG) (a0 : Nat) (p1 : Int64) (p2 : Int64) (w : gW) : gX Int64 := (gfI w a0 5 4).bind fun v1 => gjoin (fun K14 => if v1 = 1 then (K14 (-p1) w) else (K14 p1 w)) (fun (y3 : Int64) (w : gW) => (gfI w a0 5 3).bind fun v4 => if v4 = 0 then ((gfJ w a0 5 1).bind fun v7 => some (.inr (v7 + y3), w)) else (if v4 = 1 then ((gfJ w a0 5 1).bind fun v10 => some (.inr (v10 - p2), w)) else (if v4 = 2 then ((gfJ w a0 5 1).bind fun v13 => some (.inr (v13 - y3), w)) else ((gfJ w a0 5 1).bind fun v15 => some (.inr (v15 + p2), w)))))
set_option maxHeartbeats 4000000 in
set_option maxRecDepth 100000 in
theorem m_Pl_boardX (l : Launch) (hst : l.stackTraces = false) (D : gD) (g0 : gG) (a0 : Nat) (p1 : Int64) (p2 : Int64) (w : gW) (r : (String ⊕ Int64) × gW) (h : f_Pl_boardX g0 a0 p1 p2 w = some r) : gMet l y_Pl_boardX (.code y_Pl_boardX b_Pl_boardX 7 (some .long)) rm_Pl_boardX D g0 [.ref a0, .long p1, .long p2] w (goJ r) := by
  refine gw_ofJ (by decide +kernel) (Nat.le_of_ble_eq_true rfl) ?_
  intro p e s m below meth c ls args A Q hx hb hml hown hlocks hin hnt hT hK hZ hA hret hexc hthr hI hl
  obtain ⟨H, hH⟩ : ∃ H, H = s.heap := ⟨_, rfl⟩
  rw [← hH] at hI ⊢
  obtain ⟨locs, hlocs⟩ : ∃ z : List Loc, z = [] := ⟨_, rfl⟩
  rw [← hlocs] at hI ⊢
  have hl : lv_has ls 7 [(0, .ref a0), (1, .long p1), (3, .long p2)] := hl
  unfold f_Pl_boardX at h
  refine lv_aload_n hx hb d_Pl_boardX_0 rfl (lv_at hl 0 rfl) ?_
  obtain ⟨v1, e2, h⟩ := gb h
  refine gw_getI hx hb hT hown hK hI (ci := 5) rfl i_5 4 (by decide) wd_657 (fun _ h9 => h9) e2 d_Pl_boardX_1 ?_
  refine lv_iconst (v := 1) hx hb d_Pl_boardX_4 (by decide) ?_
  obtain ⟨K14, eK14, h⟩ := gj h
  have hK14 : ∀ (y3 : Int64) (w : gW) (H : Heap) (locs : List Loc) (ls : Array Slot), K14 y3 w = some r → gI D s A w H locs → lv_has ls 7 [(0, .ref a0), (3, .long p2)] → W p l e rm_Pl_boardX s m args below meth c H locs 0 0 Q (F0 m 14 ls [.long y3]) := by
    intro y3 w H locs ls h hI hl
    have h := gk2 eK14 h
    refine lv_lstore (lv' := [(5, .long y3), (0, .ref a0), (3, .long p2)]) hx hb d_Pl_boardX_14 hl (by decide) rfl (fun ls hl => ?_)
    refine lv_aload_n hx hb d_Pl_boardX_16 rfl (lv_at hl 1 rfl) ?_
    obtain ⟨v4, e5, h⟩ := gb h
    refine gw_getI hx hb hT hown hK hI (ci := 5) rfl i_5 3 (by decide) wd_656 (fun _ h9 => h9) e5 d_Pl_boardX_17 ?_
    rcases Decidable.em (v4 = 0) with c6 | c6
    · have h := git c6 h
      refine lv_tableIn (off := 28) (tgt := 48) hx hb d_Pl_boardX_20 (by rw [c6]; decide) (by rw [c6]; decide) (by rw [c6]; decide) (by decide) ?_
      refine lv_aload_n hx hb d_Pl_boardX_48 rfl (lv_at hl 1 rfl) ?_
      obtain ⟨v7, e8, h⟩ := gb h
      refine gw_getJ hx hb hT hown hK hI (ci := 5) rfl i_5 1 (by decide) wd_654 (fun _ h9 => h9) e8 d_Pl_boardX_49 ?_
      refine lv_lload hx hb d_Pl_boardX_52 (lv_at hl 0 rfl) ?_
      refine lv_ladd hx hb d_Pl_boardX_54 ?_
      exact W.widen (show 0 ≤ 0 by omega) (show 0 ≤ 0 by omega) (hret _ _ (Option.some.inj h).symm _ _ _ _ d_Pl_boardX_55 hI)
    have h := gie c6 h
    rcases Decidable.em (v4 = 1) with c9 | c9
    · have h := git c9 h
      refine lv_tableIn (off := 36) (tgt := 56) hx hb d_Pl_boardX_20 (by rw [c9]; decide) (by rw [c9]; decide) (by rw [c9]; decide) (by decide) ?_
      refine lv_aload_n hx hb d_Pl_boardX_56 rfl (lv_at hl 1 rfl) ?_
      obtain ⟨v10, e11, h⟩ := gb h
      refine gw_getJ hx hb hT hown hK hI (ci := 5) rfl i_5 1 (by decide) wd_654 (fun _ h9 => h9) e11 d_Pl_boardX_57 ?_
      refine lv_lload_n hx hb d_Pl_boardX_60 rfl (lv_at hl 2 rfl) ?_
      refine lv_lsub hx hb d_Pl_boardX_61 ?_
      exact W.widen (show 0 ≤ 0 by omega) (show 0 ≤ 0 by omega) (hret _ _ (Option.some.inj h).symm _ _ _ _ d_Pl_boardX_62 hI)
    have h := gie c9 h
    rcases Decidable.em (v4 = 2) with c12 | c12
    · have h := git c12 h
      refine lv_tableIn (off := 43) (tgt := 63) hx hb d_Pl_boardX_20 (by rw [c12]; decide) (by rw [c12]; decide) (by rw [c12]; decide) (by decide) ?_
      refine lv_aload_n hx hb d_Pl_boardX_63 rfl (lv_at hl 1 rfl) ?_
      obtain ⟨v13, e14, h⟩ := gb h
      refine gw_getJ hx hb hT hown hK hI (ci := 5) rfl i_5 1 (by decide) wd_654 (fun _ h9 => h9) e14 d_Pl_boardX_64 ?_
      refine lv_lload hx hb d_Pl_boardX_67 (lv_at hl 0 rfl) ?_
      refine lv_lsub hx hb d_Pl_boardX_69 ?_
      exact W.widen (show 0 ≤ 0 by omega) (show 0 ≤ 0 by omega) (hret _ _ (Option.some.inj h).symm _ _ _ _ d_Pl_boardX_70 hI)
    have h := gie c12 h
    refine lv_tableOut (tgt := 71) hx hb d_Pl_boardX_20 (by have q0 := lv_neT c6 (show (0 : Int32).toInt = 0 by decide); have q1 := lv_neT c9 (show (1 : Int32).toInt = 1 by decide); have q2 := lv_neT c12 (show (2 : Int32).toInt = 2 by decide); omega) (by decide) ?_
    refine lv_aload_n hx hb d_Pl_boardX_71 rfl (lv_at hl 1 rfl) ?_
    obtain ⟨v15, e16, h⟩ := gb h
    refine gw_getJ hx hb hT hown hK hI (ci := 5) rfl i_5 1 (by decide) wd_654 (fun _ h9 => h9) e16 d_Pl_boardX_72 ?_
    refine lv_lload_n hx hb d_Pl_boardX_75 rfl (lv_at hl 2 rfl) ?_
    refine lv_ladd hx hb d_Pl_boardX_76 ?_
    exact W.widen (show 0 ≤ 0 by omega) (show 0 ≤ 0 by omega) (hret _ _ (Option.some.inj h).symm _ _ _ _ d_Pl_boardX_77 hI)
  refine lv_icmp_ne (tgt := 13) hx hb d_Pl_boardX_5 (by decide) (fun c17 => ?_) (fun c17 => ?_)
  · skip
    have h := gie c17 h
    refine lv_lload_n hx hb d_Pl_boardX_13 rfl (lv_at hl 1 rfl) ?_
    exact hK14 _ w H locs ls h hI (lv_sub hl [0, 2] rfl)
  · skip
    have h := git c17 h
    refine lv_lload_n hx hb d_Pl_boardX_8 rfl (lv_at hl 1 rfl) ?_
    refine lv_lneg hx hb d_Pl_boardX_9 ?_
    refine lv_goto (tgt := 14) hx hb d_Pl_boardX_10 (by decide) ?_
    exact hK14 _ w H locs ls h hI (lv_sub hl [0, 2] rfl)

abbrev b_Pl_boardY : ByteArray := prog_6_method_5_code
def y_Pl_boardY : MethodName := ⟨"BodySolids$Placement", "boardY", "(JJ)J"⟩
theorem d_Pl_boardY_0 : decode b_Pl_boardY 0 = .ok (.aload_n 0, 1) := by decide +kernel
theorem d_Pl_boardY_1 : decode b_Pl_boardY 1 = .ok (.getfield 24, 3) := by decide +kernel
theorem d_Pl_boardY_4 : decode b_Pl_boardY 4 = .ok (.iconst 1, 1) := by decide +kernel
theorem d_Pl_boardY_5 : decode b_Pl_boardY 5 = .ok (.if_icmp .ne 8, 3) := by decide +kernel
theorem d_Pl_boardY_8 : decode b_Pl_boardY 8 = .ok (.lload_n 1, 1) := by decide +kernel
theorem d_Pl_boardY_9 : decode b_Pl_boardY 9 = .ok (.lneg, 1) := by decide +kernel
theorem d_Pl_boardY_10 : decode b_Pl_boardY 10 = .ok (.goto 4, 3) := by decide +kernel
theorem d_Pl_boardY_13 : decode b_Pl_boardY 13 = .ok (.lload_n 1, 1) := by decide +kernel
theorem d_Pl_boardY_14 : decode b_Pl_boardY 14 = .ok (.lstore 5, 2) := by decide +kernel
theorem d_Pl_boardY_16 : decode b_Pl_boardY 16 = .ok (.aload_n 0, 1) := by decide +kernel
theorem d_Pl_boardY_17 : decode b_Pl_boardY 17 = .ok (.getfield 20, 3) := by decide +kernel
theorem d_Pl_boardY_20 : decode b_Pl_boardY 20 = .ok (.tableswitch 50 0 2 #[28, 35, 43], 28) := by decide +kernel
theorem d_Pl_boardY_48 : decode b_Pl_boardY 48 = .ok (.aload_n 0, 1) := by decide +kernel
theorem d_Pl_boardY_49 : decode b_Pl_boardY 49 = .ok (.getfield 17, 3) := by decide +kernel
theorem d_Pl_boardY_52 : decode b_Pl_boardY 52 = .ok (.lload_n 3, 1) := by decide +kernel
theorem d_Pl_boardY_53 : decode b_Pl_boardY 53 = .ok (.ladd, 1) := by decide +kernel
theorem d_Pl_boardY_54 : decode b_Pl_boardY 54 = .ok (.lreturn, 1) := by decide +kernel
theorem d_Pl_boardY_55 : decode b_Pl_boardY 55 = .ok (.aload_n 0, 1) := by decide +kernel
theorem d_Pl_boardY_56 : decode b_Pl_boardY 56 = .ok (.getfield 17, 3) := by decide +kernel
theorem d_Pl_boardY_59 : decode b_Pl_boardY 59 = .ok (.lload 5, 2) := by decide +kernel
theorem d_Pl_boardY_61 : decode b_Pl_boardY 61 = .ok (.ladd, 1) := by decide +kernel
theorem d_Pl_boardY_62 : decode b_Pl_boardY 62 = .ok (.lreturn, 1) := by decide +kernel
theorem d_Pl_boardY_63 : decode b_Pl_boardY 63 = .ok (.aload_n 0, 1) := by decide +kernel
theorem d_Pl_boardY_64 : decode b_Pl_boardY 64 = .ok (.getfield 17, 3) := by decide +kernel
theorem d_Pl_boardY_67 : decode b_Pl_boardY 67 = .ok (.lload_n 3, 1) := by decide +kernel
theorem d_Pl_boardY_68 : decode b_Pl_boardY 68 = .ok (.lsub, 1) := by decide +kernel
theorem d_Pl_boardY_69 : decode b_Pl_boardY 69 = .ok (.lreturn, 1) := by decide +kernel
theorem d_Pl_boardY_70 : decode b_Pl_boardY 70 = .ok (.aload_n 0, 1) := by decide +kernel
theorem d_Pl_boardY_71 : decode b_Pl_boardY 71 = .ok (.getfield 17, 3) := by decide +kernel
theorem d_Pl_boardY_74 : decode b_Pl_boardY 74 = .ok (.lload 5, 2) := by decide +kernel
theorem d_Pl_boardY_76 : decode b_Pl_boardY 76 = .ok (.lsub, 1) := by decide +kernel
theorem d_Pl_boardY_77 : decode b_Pl_boardY 77 = .ok (.lreturn, 1) := by decide +kernel
abbrev rm_Pl_boardY : Room := { frames := 0, cells := 0, slots := 0, locals := 0 }
theorem ce_Pl_boardY : gCe y_Pl_boardY (.code y_Pl_boardY b_Pl_boardY 7 (some .long)) 7 2 false := gCe.code wd_358 wd_68 wd_356 (by decide) (by decide +kernel)
def f_Pl_boardY (g0 : gG) (a0 : Nat) (p1 : Int64) (p2 : Int64) (w : gW) : gX Int64 := (gfI w a0 5 4).bind fun v1 => gjoin (fun K14 => if v1 = 1 then (K14 (-p1) w) else (K14 p1 w)) (fun (y3 : Int64) (w : gW) => (gfI w a0 5 3).bind fun v4 => if v4 = 0 then ((gfJ w a0 5 2).bind fun v7 => some (.inr (v7 + p2), w)) else (if v4 = 1 then ((gfJ w a0 5 2).bind fun v10 => some (.inr (v10 + y3), w)) else (if v4 = 2 then ((gfJ w a0 5 2).bind fun v13 => some (.inr (v13 - p2), w)) else ((gfJ w a0 5 2).bind fun v15 => some (.inr (v15 - y3), w)))))
set_option maxHeartbeats 4000000 in
set_option maxRecDepth 100000 in
theorem m_Pl_boardY (l : Launch) (hst : l.stackTraces = false) (D : gD) (g0 : gG) (a0 : Nat) (p1 : Int64) (p2 : Int64) (w : gW) (r : (String ⊕ Int64) × gW) (h : f_Pl_boardY g0 a0 p1 p2 w = some r) : gMet l y_Pl_boardY (.code y_Pl_boardY b_Pl_boardY 7 (some .long)) rm_Pl_boardY D g0 [.ref a0, .long p1, .long p2] w (goJ r) := by
  refine gw_ofJ (by decide +kernel) (Nat.le_of_ble_eq_true rfl) ?_
  intro p e s m below meth c ls args A Q hx hb hml hown hlocks hin hnt hT hK hZ hA hret hexc hthr hI hl
  obtain ⟨H, hH⟩ : ∃ H, H = s.heap := ⟨_, rfl⟩
  rw [← hH] at hI ⊢
  obtain ⟨locs, hlocs⟩ : ∃ z : List Loc, z = [] := ⟨_, rfl⟩
  rw [← hlocs] at hI ⊢
  have hl : lv_has ls 7 [(0, .ref a0), (1, .long p1), (3, .long p2)] := hl
  unfold f_Pl_boardY at h
  refine lv_aload_n hx hb d_Pl_boardY_0 rfl (lv_at hl 0 rfl) ?_
  obtain ⟨v1, e2, h⟩ := gb h
  refine gw_getI hx hb hT hown hK hI (ci := 5) rfl i_5 4 (by decide) wd_657 (fun _ h9 => h9) e2 d_Pl_boardY_1 ?_
  refine lv_iconst (v := 1) hx hb d_Pl_boardY_4 (by decide) ?_
  obtain ⟨K14, eK14, h⟩ := gj h
  have hK14 : ∀ (y3 : Int64) (w : gW) (H : Heap) (locs : List Loc) (ls : Array Slot), K14 y3 w = some r → gI D s A w H locs → lv_has ls 7 [(0, .ref a0), (3, .long p2)] → W p l e rm_Pl_boardY s m args below meth c H locs 0 0 Q (F0 m 14 ls [.long y3]) := by
    intro y3 w H locs ls h hI hl
    have h := gk2 eK14 h
    refine lv_lstore (lv' := [(5, .long y3), (0, .ref a0), (3, .long p2)]) hx hb d_Pl_boardY_14 hl (by decide) rfl (fun ls hl => ?_)
    refine lv_aload_n hx hb d_Pl_boardY_16 rfl (lv_at hl 1 rfl) ?_
    obtain ⟨v4, e5, h⟩ := gb h
    refine gw_getI hx hb hT hown hK hI (ci := 5) rfl i_5 3 (by decide) wd_656 (fun _ h9 => h9) e5 d_Pl_boardY_17 ?_
    rcases Decidable.em (v4 = 0) with c6 | c6
    · have h := git c6 h
      refine lv_tableIn (off := 28) (tgt := 48) hx hb d_Pl_boardY_20 (by rw [c6]; decide) (by rw [c6]; decide) (by rw [c6]; decide) (by decide) ?_
      refine lv_aload_n hx hb d_Pl_boardY_48 rfl (lv_at hl 1 rfl) ?_
      obtain ⟨v7, e8, h⟩ := gb h
      refine gw_getJ hx hb hT hown hK hI (ci := 5) rfl i_5 2 (by decide) wd_655 (fun _ h9 => h9) e8 d_Pl_boardY_49 ?_
      refine lv_lload_n hx hb d_Pl_boardY_52 rfl (lv_at hl 2 rfl) ?_
      refine lv_ladd hx hb d_Pl_boardY_53 ?_
      exact W.widen (show 0 ≤ 0 by omega) (show 0 ≤ 0 by omega) (hret _ _ (Option.some.inj h).symm _ _ _ _ d_Pl_boardY_54 hI)
    have h := gie c6 h
    rcases Decidable.em (v4 = 1) with c9 | c9
    · have h := git c9 h
      refine lv_tableIn (off := 35) (tgt := 55) hx hb d_Pl_boardY_20 (by rw [c9]; decide) (by rw [c9]; decide) (by rw [c9]; decide) (by decide) ?_
      refine lv_aload_n hx hb d_Pl_boardY_55 rfl (lv_at hl 1 rfl) ?_
      obtain ⟨v10, e11, h⟩ := gb h
      refine gw_getJ hx hb hT hown hK hI (ci := 5) rfl i_5 2 (by decide) wd_655 (fun _ h9 => h9) e11 d_Pl_boardY_56 ?_
      refine lv_lload hx hb d_Pl_boardY_59 (lv_at hl 0 rfl) ?_
      refine lv_ladd hx hb d_Pl_boardY_61 ?_
      exact W.widen (show 0 ≤ 0 by omega) (show 0 ≤ 0 by omega) (hret _ _ (Option.some.inj h).symm _ _ _ _ d_Pl_boardY_62 hI)
    have h := gie c9 h
    rcases Decidable.em (v4 = 2) with c12 | c12
    · have h := git c12 h
      refine lv_tableIn (off := 43) (tgt := 63) hx hb d_Pl_boardY_20 (by rw [c12]; decide) (by rw [c12]; decide) (by rw [c12]; decide) (by decide) ?_
      refine lv_aload_n hx hb d_Pl_boardY_63 rfl (lv_at hl 1 rfl) ?_
      obtain ⟨v13, e14, h⟩ := gb h
      refine gw_getJ hx hb hT hown hK hI (ci := 5) rfl i_5 2 (by decide) wd_655 (fun _ h9 => h9) e14 d_Pl_boardY_64 ?_
      refine lv_lload_n hx hb d_Pl_boardY_67 rfl (lv_at hl 2 rfl) ?_
      refine lv_lsub hx hb d_Pl_boardY_68 ?_
      exact W.widen (show 0 ≤ 0 by omega) (show 0 ≤ 0 by omega) (hret _ _ (Option.some.inj h).symm _ _ _ _ d_Pl_boardY_69 hI)
    have h := gie c12 h
    refine lv_tableOut (tgt := 70) hx hb d_Pl_boardY_20 (by have q0 := lv_neT c6 (show (0 : Int32).toInt = 0 by decide); have q1 := lv_neT c9 (show (1 : Int32).toInt = 1 by decide); have q2 := lv_neT c12 (show (2 : Int32).toInt = 2 by decide); omega) (by decide) ?_
    refine lv_aload_n hx hb d_Pl_boardY_70 rfl (lv_at hl 1 rfl) ?_
    obtain ⟨v15, e16, h⟩ := gb h
    refine gw_getJ hx hb hT hown hK hI (ci := 5) rfl i_5 2 (by decide) wd_655 (fun _ h9 => h9) e16 d_Pl_boardY_71 ?_
    refine lv_lload hx hb d_Pl_boardY_74 (lv_at hl 0 rfl) ?_
    refine lv_lsub hx hb d_Pl_boardY_76 ?_
    exact W.widen (show 0 ≤ 0 by omega) (show 0 ≤ 0 by omega) (hret _ _ (Option.some.inj h).symm _ _ _ _ d_Pl_boardY_77 hI)
  refine lv_icmp_ne (tgt := 13) hx hb d_Pl_boardY_5 (by decide) (fun c17 => ?_) (fun c17 => ?_)
  · skip
    have h := gie c17 h
    refine lv_lload_n hx hb d_Pl_boardY_13 rfl (lv_at hl 1 rfl) ?_
    exact hK14 _ w H locs ls h hI (lv_sub hl [0, 2] rfl)
  · skip
    have h := git c17 h
    refine lv_lload_n hx hb d_Pl_boardY_8 rfl (lv_at hl 1 rfl) ?_
    refine lv_lneg hx hb d_Pl_boardY_9 ?_
    refine lv_goto (tgt := 14) hx hb d_Pl_boardY_10 (by decide) ?_
    exact hK14 _ w H locs ls h hI (lv_sub hl [0, 2] rfl)

abbrev b_Ma_min2 : ByteArray := prog_17_method_70_code
def y_Ma_min2 : MethodName := ⟨"java/lang/Math", "min", "(JJ)J"⟩
theorem d_Ma_min2_0 : decode b_Ma_min2 0 = .ok (.lload_n 0, 1) := by decide +kernel
theorem d_Ma_min2_1 : decode b_Ma_min2 1 = .ok (.lload_n 2, 1) := by decide +kernel
theorem d_Ma_min2_2 : decode b_Ma_min2 2 = .ok (.lcmp, 1) := by decide +kernel
theorem d_Ma_min2_3 : decode b_Ma_min2 3 = .ok (.ifCond .gt 7, 3) := by decide +kernel
theorem d_Ma_min2_6 : decode b_Ma_min2 6 = .ok (.lload_n 0, 1) := by decide +kernel
theorem d_Ma_min2_7 : decode b_Ma_min2 7 = .ok (.goto 4, 3) := by decide +kernel
theorem d_Ma_min2_10 : decode b_Ma_min2 10 = .ok (.lload_n 2, 1) := by decide +kernel
theorem d_Ma_min2_11 : decode b_Ma_min2 11 = .ok (.lreturn, 1) := by decide +kernel
abbrev rm_Ma_min2 : Room := { frames := 0, cells := 0, slots := 0, locals := 0 }
theorem ce_Ma_min2 : gCe y_Ma_min2 (.code y_Ma_min2 b_Ma_min2 4 (some .long)) 4 2 true := gCe.code wd_83 wd_50 wd_82 (by decide) (by decide +kernel)
def f_Ma_min2 (g0 : gG) (p0 : Int64) (p1 : Int64) (w : gW) : gX Int64 := gjoin (fun K11 => if p1 < p0 then (K11 p1 w) else (K11 p0 w)) (fun (y1 : Int64) (w : gW) => some (.inr y1, w))
set_option maxHeartbeats 4000000 in
set_option maxRecDepth 100000 in
theorem m_Ma_min2 (l : Launch) (hst : l.stackTraces = false) (D : gD) (g0 : gG) (p0 : Int64) (p1 : Int64) (w : gW) (r : (String ⊕ Int64) × gW) (h : f_Ma_min2 g0 p0 p1 w = some r) : gMet l y_Ma_min2 (.code y_Ma_min2 b_Ma_min2 4 (some .long)) rm_Ma_min2 D g0 [.long p0, .long p1] w (goJ r) := by
  refine gw_ofJ (by decide +kernel) (Nat.le_of_ble_eq_true rfl) ?_
  intro p e s m below meth c ls args A Q hx hb hml hown hlocks hin hnt hT hK hZ hA hret hexc hthr hI hl
  obtain ⟨H, hH⟩ : ∃ H, H = s.heap := ⟨_, rfl⟩
  rw [← hH] at hI ⊢
  obtain ⟨locs, hlocs⟩ : ∃ z : List Loc, z = [] := ⟨_, rfl⟩
  rw [← hlocs] at hI ⊢
  have hl : lv_has ls 4 [(0, .long p0), (2, .long p1)] := hl
  unfold f_Ma_min2 at h
  refine lv_lload_n hx hb d_Ma_min2_0 rfl (lv_at hl 0 rfl) ?_
  refine lv_lload_n hx hb d_Ma_min2_1 rfl (lv_at hl 1 rfl) ?_
  refine W.lcmp hx hb d_Ma_min2_2 ?_
  obtain ⟨K11, eK11, h⟩ := gj h
  have hK11 : ∀ (y1 : Int64) (w : gW) (H : Heap) (locs : List Loc) (ls : Array Slot), K11 y1 w = some r → gI D s A w H locs → lv_has ls 4 [] → W p l e rm_Ma_min2 s m args below meth c H locs 0 0 Q (F0 m 11 ls [.long y1]) := by
    intro y1 w H locs ls h hI hl
    have h := gk2 eK11 h
    exact W.widen (show 0 ≤ 0 by omega) (show 0 ≤ 0 by omega) (hret _ _ (Option.some.inj h).symm _ _ _ _ d_Ma_min2_11 hI)
  refine lv_if_gt (tgt := 10) hx hb d_Ma_min2_3 (by decide) (fun c2 => ?_) (fun c2 => ?_)
  · have c2 := (lg_cmp_gt _ _).mp c2
    have h := git c2 h
    refine lv_lload_n hx hb d_Ma_min2_10 rfl (lv_at hl 1 rfl) ?_
    exact hK11 _ w H locs ls h hI (lv_sub hl [] rfl)
  · have c2 := mt (lg_cmp_gt _ _).mpr c2
    have h := gie c2 h
    refine lv_lload_n hx hb d_Ma_min2_6 rfl (lv_at hl 0 rfl) ?_
    refine lv_goto (tgt := 11) hx hb d_Ma_min2_7 (by decide) ?_
    exact hK11 _ w H locs ls h hI (lv_sub hl [] rfl)

abbrev b_Ma_max2 : ByteArray := prog_17_method_66_code
def y_Ma_max2 : MethodName := ⟨"java/lang/Math", "max", "(JJ)J"⟩
theorem d_Ma_max2_0 : decode b_Ma_max2 0 = .ok (.lload_n 0, 1) := by decide +kernel
theorem d_Ma_max2_1 : decode b_Ma_max2 1 = .ok (.lload_n 2, 1) := by decide +kernel
theorem d_Ma_max2_2 : decode b_Ma_max2 2 = .ok (.lcmp, 1) := by decide +kernel
theorem d_Ma_max2_3 : decode b_Ma_max2 3 = .ok (.ifCond .lt 7, 3) := by decide +kernel
theorem d_Ma_max2_6 : decode b_Ma_max2 6 = .ok (.lload_n 0, 1) := by decide +kernel
theorem d_Ma_max2_7 : decode b_Ma_max2 7 = .ok (.goto 4, 3) := by decide +kernel
theorem d_Ma_max2_10 : decode b_Ma_max2 10 = .ok (.lload_n 2, 1) := by decide +kernel
theorem d_Ma_max2_11 : decode b_Ma_max2 11 = .ok (.lreturn, 1) := by decide +kernel
abbrev rm_Ma_max2 : Room := { frames := 0, cells := 0, slots := 0, locals := 0 }
theorem ce_Ma_max2 : gCe y_Ma_max2 (.code y_Ma_max2 b_Ma_max2 4 (some .long)) 4 2 true := gCe.code wd_86 wd_50 wd_85 (by decide) (by decide +kernel)
def f_Ma_max2 (g0 : gG) (p0 : Int64) (p1 : Int64) (w : gW) : gX Int64 := gjoin (fun K11 => if p0 < p1 then (K11 p1 w) else (K11 p0 w)) (fun (y1 : Int64) (w : gW) => some (.inr y1, w))
set_option maxHeartbeats 4000000 in
set_option maxRecDepth 100000 in
theorem m_Ma_max2 (l : Launch) (hst : l.stackTraces = false) (D : gD) (g0 : gG) (p0 : Int64) (p1 : Int64) (w : gW) (r : (String ⊕ Int64) × gW) (h : f_Ma_max2 g0 p0 p1 w = some r) : gMet l y_Ma_max2 (.code y_Ma_max2 b_Ma_max2 4 (some .long)) rm_Ma_max2 D g0 [.long p0, .long p1] w (goJ r) := by
  refine gw_ofJ (by decide +kernel) (Nat.le_of_ble_eq_true rfl) ?_
  intro p e s m below meth c ls args A Q hx hb hml hown hlocks hin hnt hT hK hZ hA hret hexc hthr hI hl
  obtain ⟨H, hH⟩ : ∃ H, H = s.heap := ⟨_, rfl⟩
  rw [← hH] at hI ⊢
  obtain ⟨locs, hlocs⟩ : ∃ z : List Loc, z = [] := ⟨_, rfl⟩
  rw [← hlocs] at hI ⊢
  have hl : lv_has ls 4 [(0, .long p0), (2, .long p1)] := hl
  unfold f_Ma_max2 at h
  refine lv_lload_n hx hb d_Ma_max2_0 rfl (lv_at hl 0 rfl) ?_
  refine lv_lload_n hx hb d_Ma_max2_1 rfl (lv_at hl 1 rfl) ?_
  refine W.lcmp hx hb d_Ma_max2_2 ?_
  obtain ⟨K11, eK11, h⟩ := gj h
  have hK11 : ∀ (y1 : Int64) (w : gW) (H : Heap) (locs : List Loc) (ls : Array Slot), K11 y1 w = some r → gI D s A w H locs → lv_has ls 4 [] → W p l e rm_Ma_max2 s m args below meth c H locs 0 0 Q (F0 m 11 ls [.long y1]) := by
    intro y1 w H locs ls h hI hl
    have h := gk2 eK11 h
    exact W.widen (show 0 ≤ 0 by omega) (show 0 ≤ 0 by omega) (hret _ _ (Option.some.inj h).symm _ _ _ _ d_Ma_max2_11 hI)
  refine lv_if_lt (tgt := 10) hx hb d_Ma_max2_3 (by decide) (fun c2 => ?_) (fun c2 => ?_)
  · have c2 := (lg_cmp_lt _ _).mp c2
    have h := git c2 h
    refine lv_lload_n hx hb d_Ma_max2_10 rfl (lv_at hl 1 rfl) ?_
    exact hK11 _ w H locs ls h hI (lv_sub hl [] rfl)
  · have c2 := mt (lg_cmp_lt _ _).mpr c2
    have h := gie c2 h
    refine lv_lload_n hx hb d_Ma_max2_6 rfl (lv_at hl 0 rfl) ?_
    refine lv_goto (tgt := 11) hx hb d_Ma_max2_7 (by decide) ?_
    exact hK11 _ w H locs ls h hI (lv_sub hl [] rfl)
