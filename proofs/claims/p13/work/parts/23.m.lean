abbrev b_M_within : ByteArray := prog_9_method_3_code
def y_M_within : MethodName := ⟨"BodySolidsModel", "within", "(JJJ)Z"⟩
theorem d_M_within_0 : decode b_M_within 0 = .ok (.lload_n 0, 1) := by decide +kernel
theorem d_M_within_1 : decode b_M_within 1 = .ok (.lload_n 2, 1) := by decide +kernel
theorem d_M_within_2 : decode b_M_within 2 = .ok (.lcmp, 1) := by decide +kernel
theorem d_M_within_3 : decode b_M_within 3 = .ok (.ifCond .lt 14, 3) := by decide +kernel
theorem d_M_within_6 : decode b_M_within 6 = .ok (.lload_n 0, 1) := by decide +kernel
theorem d_M_within_7 : decode b_M_within 7 = .ok (.lload 4, 2) := by decide +kernel
theorem d_M_within_9 : decode b_M_within 9 = .ok (.lcmp, 1) := by decide +kernel
theorem d_M_within_10 : decode b_M_within 10 = .ok (.ifCond .gt 7, 3) := by decide +kernel
theorem d_M_within_13 : decode b_M_within 13 = .ok (.iconst 1, 1) := by decide +kernel
theorem d_M_within_14 : decode b_M_within 14 = .ok (.goto 4, 3) := by decide +kernel
theorem d_M_within_17 : decode b_M_within 17 = .ok (.iconst 0, 1) := by decide +kernel
theorem d_M_within_18 : decode b_M_within 18 = .ok (.ireturn, 1) := by decide +kernel
abbrev rm_M_within : Room := { frames := 0, cells := 0, slots := 0, locals := 0 }
theorem ce_M_within : gCe y_M_within (.code y_M_within b_M_within 6 (some .boolean)) 6 3 true := gCe.code wd_887 wd_57 wd_886 (by decide) (by decide +kernel)
def f_M_within (g0 : gG) (p0 : Int64) (p1 : Int64) (p2 : Int64) (w : gW) : gX Int32 := gjoin (fun K18 => gjoin (fun K17 => if p0 < p1 then (K17 w) else (if p2 < p0 then (K17 w) else (K18 1 w))) (fun (w : gW) => K18 0 w)) (fun (y1 : Int32) (w : gW) => gguard (y1 = 0 ∨ y1 = 1) (some (.inr y1, w)))
set_option maxHeartbeats 4000000 in
set_option maxRecDepth 100000 in
theorem m_M_within (l : Launch) (hst : l.stackTraces = false) (D : gD) (g0 : gG) (p0 : Int64) (p1 : Int64) (p2 : Int64) (w : gW) (r : (String ⊕ Int32) × gW) (h : f_M_within g0 p0 p1 p2 w = some r) : gMet l y_M_within (.code y_M_within b_M_within 6 (some .boolean)) rm_M_within D g0 [.long p0, .long p1, .long p2] w (goI r) := by
  refine gw_ofZ (by decide +kernel) (Nat.le_of_ble_eq_true rfl) ?_
  intro p e s m below meth c ls args A Q hx hb hml hown hlocks hin hnt hT hK hZ hA hret hexc hthr hI hl
  obtain ⟨H, hH⟩ : ∃ H, H = s.heap := ⟨_, rfl⟩
  rw [← hH] at hI ⊢
  obtain ⟨locs, hlocs⟩ : ∃ z : List Loc, z = [] := ⟨_, rfl⟩
  rw [← hlocs] at hI ⊢
  have hl : lv_has ls 6 [(0, .long p0), (2, .long p1), (4, .long p2)] := hl
  unfold f_M_within at h
  refine lv_lload_n hx hb d_M_within_0 rfl (lv_at hl 0 rfl) ?_
  refine lv_lload_n hx hb d_M_within_1 rfl (lv_at hl 1 rfl) ?_
  refine W.lcmp hx hb d_M_within_2 ?_
  obtain ⟨K18, eK18, h⟩ := gj h
  have hK18 : ∀ (y1 : Int32) (w : gW) (H : Heap) (locs : List Loc) (ls : Array Slot), K18 y1 w = some r → gI D s A w H locs → lv_has ls 6 [] → W p l e rm_M_within s m args below meth c H locs 0 0 Q (F0 m 18 ls [.int y1]) := by
    intro y1 w H locs ls h hI hl
    have h := gk2 eK18 h
    obtain ⟨g2, h⟩ := gif h
    exact W.widen (show 0 ≤ 0 by omega) (show 0 ≤ 0 by omega) (hret g2 0 _ (Option.some.inj h).symm _ _ _ _ d_M_within_18 hI)
  obtain ⟨K17, eK17, h⟩ := gj h
  have hK17 : ∀ (w : gW) (H : Heap) (locs : List Loc) (ls : Array Slot), K17 w = some r → gI D s A w H locs → lv_has ls 6 [] → W p l e rm_M_within s m args below meth c H locs 0 0 Q (F0 m 17 ls []) := by
    intro w H locs ls h hI hl
    have h := gk1 eK17 h
    refine lv_iconst (v := 0) hx hb d_M_within_17 (by decide) ?_
    exact hK18 _ w H locs ls h hI (lv_sub hl [] rfl)
  refine lv_if_lt (tgt := 17) hx hb d_M_within_3 (by decide) (fun c3 => ?_) (fun c3 => ?_)
  · have c3 := (lg_cmp_lt _ _).mp c3
    have h := git c3 h
    exact hK17 w H locs ls h hI (lv_sub hl [] rfl)
  · have c3 := mt (lg_cmp_lt _ _).mpr c3
    have h := gie c3 h
    refine lv_lload_n hx hb d_M_within_6 rfl (lv_at hl 0 rfl) ?_
    refine lv_lload hx hb d_M_within_7 (lv_at hl 2 rfl) ?_
    refine W.lcmp hx hb d_M_within_9 ?_
    refine lv_if_gt (tgt := 17) hx hb d_M_within_10 (by decide) (fun c4 => ?_) (fun c4 => ?_)
    · have c4 := (lg_cmp_gt _ _).mp c4
      have h := git c4 h
      exact hK17 w H locs ls h hI (lv_sub hl [] rfl)
    · have c4 := mt (lg_cmp_gt _ _).mpr c4
      have h := gie c4 h
      refine lv_iconst (v := 1) hx hb d_M_within_13 (by decide) ?_
      refine lv_goto (tgt := 18) hx hb d_M_within_14 (by decide) ?_
      exact hK18 _ w H locs ls h hI (lv_sub hl [] rfl)

abbrev b_M_isPlace : ByteArray := prog_9_method_4_code
def y_M_isPlace : MethodName := ⟨"BodySolidsModel", "isPlace", "(JJ)Z"⟩
theorem d_M_isPlace_0 : decode b_M_isPlace 0 = .ok (.lload_n 0, 1) := by decide +kernel
theorem d_M_isPlace_1 : decode b_M_isPlace 1 = .ok (.ldc2_w 84, 3) := by decide +kernel
theorem d_M_isPlace_4 : decode b_M_isPlace 4 = .ok (.ldc2_w 86, 3) := by decide +kernel
theorem d_M_isPlace_7 : decode b_M_isPlace 7 = .ok (.invokestatic 88, 3) := by decide +kernel
theorem d_M_isPlace_10 : decode b_M_isPlace 10 = .ok (.ifCond .eq 20, 3) := by decide +kernel
theorem d_M_isPlace_13 : decode b_M_isPlace 13 = .ok (.lload_n 2, 1) := by decide +kernel
theorem d_M_isPlace_14 : decode b_M_isPlace 14 = .ok (.ldc2_w 84, 3) := by decide +kernel
theorem d_M_isPlace_17 : decode b_M_isPlace 17 = .ok (.ldc2_w 86, 3) := by decide +kernel
theorem d_M_isPlace_20 : decode b_M_isPlace 20 = .ok (.invokestatic 88, 3) := by decide +kernel
theorem d_M_isPlace_23 : decode b_M_isPlace 23 = .ok (.ifCond .eq 7, 3) := by decide +kernel
theorem d_M_isPlace_26 : decode b_M_isPlace 26 = .ok (.iconst 1, 1) := by decide +kernel
theorem d_M_isPlace_27 : decode b_M_isPlace 27 = .ok (.goto 4, 3) := by decide +kernel
theorem d_M_isPlace_30 : decode b_M_isPlace 30 = .ok (.iconst 0, 1) := by decide +kernel
theorem d_M_isPlace_31 : decode b_M_isPlace 31 = .ok (.ireturn, 1) := by decide +kernel
abbrev rm_M_isPlace : Room := { frames := 1, cells := 0, slots := 0, locals := 25 }
theorem ce_M_isPlace : gCe y_M_isPlace (.code y_M_isPlace b_M_isPlace 4 (some .boolean)) 4 2 true := gCe.code wd_882 wd_57 wd_881 (by decide) (by decide +kernel)
def f_M_isPlace (g0 : gG) (p0 : Int64) (p1 : Int64) (w : gW) : gX Int32 := gbind (f_M_within g0 p0 (-5000) 5000 w) fun v3 w => gjoin (fun K31 => gjoin (fun K30 => if v3 = 0 then (K30 w) else (gbind (f_M_within g0 p1 (-5000) 5000 w) fun v9 w => if v9 = 0 then (K30 w) else (K31 1 w))) (fun (w : gW) => K31 0 w)) (fun (y4 : Int32) (w : gW) => gguard (y4 = 0 ∨ y4 = 1) (some (.inr y4, w)))
set_option maxHeartbeats 4000000 in
set_option maxRecDepth 100000 in
theorem m_M_isPlace (l : Launch) (hst : l.stackTraces = false) (D : gD) (g0 : gG) (p0 : Int64) (p1 : Int64) (w : gW) (r : (String ⊕ Int32) × gW) (h : f_M_isPlace g0 p0 p1 w = some r) : gMet l y_M_isPlace (.code y_M_isPlace b_M_isPlace 4 (some .boolean)) rm_M_isPlace D g0 [.long p0, .long p1] w (goI r) := by
  refine gw_ofZ (by decide +kernel) (Nat.le_of_ble_eq_true rfl) ?_
  intro p e s m below meth c ls args A Q hx hb hml hown hlocks hin hnt hT hK hZ hA hret hexc hthr hI hl
  obtain ⟨H, hH⟩ : ∃ H, H = s.heap := ⟨_, rfl⟩
  rw [← hH] at hI ⊢
  obtain ⟨locs, hlocs⟩ : ∃ z : List Loc, z = [] := ⟨_, rfl⟩
  rw [← hlocs] at hI ⊢
  have hl : lv_has ls 4 [(0, .long p0), (2, .long p1)] := hl
  unfold f_M_isPlace at h
  refine lv_lload_n hx hb d_M_isPlace_0 rfl (lv_at hl 0 rfl) ?_
  refine lv_ldc2 (v := (-5000)) hx hb hown (hT _ wd_883 args) d_M_isPlace_1 ?_
  refine lv_ldc2 (v := 5000) hx hb hown (hT _ wd_884 args) d_M_isPlace_4 ?_
  obtain ⟨u1, e2⟩ := gsome h
  refine gw_callI e2 h (gw_runS (As := [.long p0, .long (-5000), .long 5000]) (rest := []) hx hb hml hown hT hK hZ hA hI (m_M_within l hst D g0 p0 (-5000) 5000 w u1 e2) ce_M_within wd_885 ⟨by decide, by decide⟩ rfl rfl hl.1 rfl (lv_room (Nat.le_of_ble_eq_true rfl)) d_M_isPlace_7 ⟨(show 0 + 0 ≤ 0 by omega), (show 0 + 0 ≤ 0 by omega)⟩) hI hA hexc (show 0 + 0 ≤ 0 by omega) (show 0 + 0 ≤ 0 by omega) (fun v3 w H locs h hI => ?_)
  obtain ⟨K31, eK31, h⟩ := gj h
  have hK31 : ∀ (y4 : Int32) (w : gW) (H : Heap) (locs : List Loc) (ls : Array Slot), K31 y4 w = some r → gI D s A w H locs → lv_has ls 4 [] → W p l e rm_M_isPlace s m args below meth c H locs 0 0 Q (F0 m 31 ls [.int y4]) := by
    intro y4 w H locs ls h hI hl
    have h := gk2 eK31 h
    obtain ⟨g5, h⟩ := gif h
    exact W.widen (show 0 ≤ 0 by omega) (show 0 ≤ 0 by omega) (hret g5 0 _ (Option.some.inj h).symm _ _ _ _ d_M_isPlace_31 hI)
  obtain ⟨K30, eK30, h⟩ := gj h
  have hK30 : ∀ (w : gW) (H : Heap) (locs : List Loc) (ls : Array Slot), K30 w = some r → gI D s A w H locs → lv_has ls 4 [] → W p l e rm_M_isPlace s m args below meth c H locs 0 0 Q (F0 m 30 ls []) := by
    intro w H locs ls h hI hl
    have h := gk1 eK30 h
    refine lv_iconst (v := 0) hx hb d_M_isPlace_30 (by decide) ?_
    exact hK31 _ w H locs ls h hI (lv_sub hl [] rfl)
  refine lv_if_eq (tgt := 30) hx hb d_M_isPlace_10 (by decide) (fun c6 => ?_) (fun c6 => ?_)
  · skip
    have h := git c6 h
    exact hK30 w H locs ls h hI (lv_sub hl [] rfl)
  · skip
    have h := gie c6 h
    refine lv_lload_n hx hb d_M_isPlace_13 rfl (lv_at hl 1 rfl) ?_
    refine lv_ldc2 (v := (-5000)) hx hb hown (hT _ wd_883 args) d_M_isPlace_14 ?_
    refine lv_ldc2 (v := 5000) hx hb hown (hT _ wd_884 args) d_M_isPlace_17 ?_
    obtain ⟨u7, e8⟩ := gsome h
    refine gw_callI e8 h (gw_runS (As := [.long p1, .long (-5000), .long 5000]) (rest := []) hx hb hml hown hT hK hZ hA hI (m_M_within l hst D g0 p1 (-5000) 5000 w u7 e8) ce_M_within wd_885 ⟨by decide, by decide⟩ rfl rfl hl.1 rfl (lv_room (Nat.le_of_ble_eq_true rfl)) d_M_isPlace_20 ⟨(show 0 + 0 ≤ 0 by omega), (show 0 + 0 ≤ 0 by omega)⟩) hI hA hexc (show 0 + 0 ≤ 0 by omega) (show 0 + 0 ≤ 0 by omega) (fun v9 w H locs h hI => ?_)
    refine lv_if_eq (tgt := 30) hx hb d_M_isPlace_23 (by decide) (fun c10 => ?_) (fun c10 => ?_)
    · skip
      have h := git c10 h
      exact hK30 w H locs ls h hI (lv_sub hl [] rfl)
    · skip
      have h := gie c10 h
      refine lv_iconst (v := 1) hx hb d_M_isPlace_26 (by decide) ?_
      refine lv_goto (tgt := 31) hx hb d_M_isPlace_27 (by decide) ?_
      exact hK31 _ w H locs ls h hI (lv_sub hl [] rfl)

abbrev b_M_isLong : ByteArray := prog_9_method_11_code
def y_M_isLong : MethodName := ⟨"BodySolidsModel", "isLong", "(J)Z"⟩
theorem d_M_isLong_0 : decode b_M_isLong 0 = .ok (.lload_n 0, 1) := by decide +kernel
theorem d_M_isLong_1 : decode b_M_isLong 1 = .ok (.lconst 1, 1) := by decide +kernel
theorem d_M_isLong_2 : decode b_M_isLong 2 = .ok (.ldc2_w 86, 3) := by decide +kernel
theorem d_M_isLong_5 : decode b_M_isLong 5 = .ok (.invokestatic 88, 3) := by decide +kernel
theorem d_M_isLong_8 : decode b_M_isLong 8 = .ok (.ireturn, 1) := by decide +kernel
abbrev rm_M_isLong : Room := { frames := 1, cells := 0, slots := 0, locals := 25 }
theorem ce_M_isLong : gCe y_M_isLong (.code y_M_isLong b_M_isLong 2 (some .boolean)) 2 1 true := gCe.code wd_890 wd_57 wd_889 (by decide) (by decide +kernel)
def f_M_isLong (g0 : gG) (p0 : Int64) (w : gW) : gX Int32 := gbind (f_M_within g0 p0 1 5000 w) fun v3 w => gguard (v3 = 0 ∨ v3 = 1) (some (.inr v3, w))
set_option maxHeartbeats 4000000 in
set_option maxRecDepth 100000 in
theorem m_M_isLong (l : Launch) (hst : l.stackTraces = false) (D : gD) (g0 : gG) (p0 : Int64) (w : gW) (r : (String ⊕ Int32) × gW) (h : f_M_isLong g0 p0 w = some r) : gMet l y_M_isLong (.code y_M_isLong b_M_isLong 2 (some .boolean)) rm_M_isLong D g0 [.long p0] w (goI r) := by
  refine gw_ofZ (by decide +kernel) (Nat.le_of_ble_eq_true rfl) ?_
  intro p e s m below meth c ls args A Q hx hb hml hown hlocks hin hnt hT hK hZ hA hret hexc hthr hI hl
  obtain ⟨H, hH⟩ : ∃ H, H = s.heap := ⟨_, rfl⟩
  rw [← hH] at hI ⊢
  obtain ⟨locs, hlocs⟩ : ∃ z : List Loc, z = [] := ⟨_, rfl⟩
  rw [← hlocs] at hI ⊢
  have hl : lv_has ls 2 [(0, .long p0)] := hl
  unfold f_M_isLong at h
  refine lv_lload_n hx hb d_M_isLong_0 rfl (lv_at hl 0 rfl) ?_
  refine lv_lconst (v := 1) hx hb d_M_isLong_1 (by decide) ?_
  refine lv_ldc2 (v := 5000) hx hb hown (hT _ wd_884 args) d_M_isLong_2 ?_
  obtain ⟨u1, e2⟩ := gsome h
  refine gw_callI e2 h (gw_runS (As := [.long p0, .long 1, .long 5000]) (rest := []) hx hb hml hown hT hK hZ hA hI (m_M_within l hst D g0 p0 1 5000 w u1 e2) ce_M_within wd_885 ⟨by decide, by decide⟩ rfl rfl hl.1 rfl (lv_room (Nat.le_of_ble_eq_true rfl)) d_M_isLong_5 ⟨(show 0 + 0 ≤ 0 by omega), (show 0 + 0 ≤ 0 by omega)⟩) hI hA hexc (show 0 + 0 ≤ 0 by omega) (show 0 + 0 ≤ 0 by omega) (fun v3 w H locs h hI => ?_)
  obtain ⟨g4, h⟩ := gif h
  exact W.widen (show 0 ≤ 0 by omega) (show 0 ≤ 0 by omega) (hret g4 0 _ (Option.some.inj h).symm _ _ _ _ d_M_isLong_8 hI)

abbrev b_M_isUpright : ByteArray := prog_9_method_12_code
def y_M_isUpright : MethodName := ⟨"BodySolidsModel", "isUpright", "(JJ)Z"⟩
theorem d_M_isUpright_0 : decode b_M_isUpright 0 = .ok (.lload_n 0, 1) := by decide +kernel
theorem d_M_isUpright_1 : decode b_M_isUpright 1 = .ok (.lconst 0, 1) := by decide +kernel
theorem d_M_isUpright_2 : decode b_M_isUpright 2 = .ok (.ldc2_w 86, 3) := by decide +kernel
theorem d_M_isUpright_5 : decode b_M_isUpright 5 = .ok (.invokestatic 88, 3) := by decide +kernel
theorem d_M_isUpright_8 : decode b_M_isUpright 8 = .ok (.ifCond .eq 24, 3) := by decide +kernel
theorem d_M_isUpright_11 : decode b_M_isUpright 11 = .ok (.lload_n 2, 1) := by decide +kernel
theorem d_M_isUpright_12 : decode b_M_isUpright 12 = .ok (.invokestatic 98, 3) := by decide +kernel
theorem d_M_isUpright_15 : decode b_M_isUpright 15 = .ok (.ifCond .eq 17, 3) := by decide +kernel
theorem d_M_isUpright_18 : decode b_M_isUpright 18 = .ok (.lload_n 0, 1) := by decide +kernel
theorem d_M_isUpright_19 : decode b_M_isUpright 19 = .ok (.lload_n 2, 1) := by decide +kernel
theorem d_M_isUpright_20 : decode b_M_isUpright 20 = .ok (.ladd, 1) := by decide +kernel
theorem d_M_isUpright_21 : decode b_M_isUpright 21 = .ok (.ldc2_w 86, 3) := by decide +kernel
theorem d_M_isUpright_24 : decode b_M_isUpright 24 = .ok (.lcmp, 1) := by decide +kernel
theorem d_M_isUpright_25 : decode b_M_isUpright 25 = .ok (.ifCond .gt 7, 3) := by decide +kernel
theorem d_M_isUpright_28 : decode b_M_isUpright 28 = .ok (.iconst 1, 1) := by decide +kernel
theorem d_M_isUpright_29 : decode b_M_isUpright 29 = .ok (.goto 4, 3) := by decide +kernel
theorem d_M_isUpright_32 : decode b_M_isUpright 32 = .ok (.iconst 0, 1) := by decide +kernel
theorem d_M_isUpright_33 : decode b_M_isUpright 33 = .ok (.ireturn, 1) := by decide +kernel
abbrev rm_M_isUpright : Room := { frames := 2, cells := 0, slots := 0, locals := 46 }
theorem ce_M_isUpright : gCe y_M_isUpright (.code y_M_isUpright b_M_isUpright 4 (some .boolean)) 4 2 true := gCe.code wd_893 wd_57 wd_892 (by decide) (by decide +kernel)
def f_M_isUpright (g0 : gG) (p0 : Int64) (p1 : Int64) (w : gW) : gX Int32 := gbind (f_M_within g0 p0 0 5000 w) fun v3 w => gjoin (fun K33 => gjoin (fun K32 => if v3 = 0 then (K32 w) else (gbind (f_M_isLong g0 p1 w) fun v9 w => if v9 = 0 then (K32 w) else (if 5000 < (p0 + p1) then (K32 w) else (K33 1 w)))) (fun (w : gW) => K33 0 w)) (fun (y4 : Int32) (w : gW) => gguard (y4 = 0 ∨ y4 = 1) (some (.inr y4, w)))
set_option maxHeartbeats 4000000 in
set_option maxRecDepth 100000 in
theorem m_M_isUpright (l : Launch) (hst : l.stackTraces = false) (D : gD) (g0 : gG) (p0 : Int64) (p1 : Int64) (w : gW) (r : (String ⊕ Int32) × gW) (h : f_M_isUpright g0 p0 p1 w = some r) : gMet l y_M_isUpright (.code y_M_isUpright b_M_isUpright 4 (some .boolean)) rm_M_isUpright D g0 [.long p0, .long p1] w (goI r) := by
  refine gw_ofZ (by decide +kernel) (Nat.le_of_ble_eq_true rfl) ?_
  intro p e s m below meth c ls args A Q hx hb hml hown hlocks hin hnt hT hK hZ hA hret hexc hthr hI hl
  obtain ⟨H, hH⟩ : ∃ H, H = s.heap := ⟨_, rfl⟩
  rw [← hH] at hI ⊢
  obtain ⟨locs, hlocs⟩ : ∃ z : List Loc, z = [] := ⟨_, rfl⟩
  rw [← hlocs] at hI ⊢
  have hl : lv_has ls 4 [(0, .long p0), (2, .long p1)] := hl
  unfold f_M_isUpright at h
  refine lv_lload_n hx hb d_M_isUpright_0 rfl (lv_at hl 0 rfl) ?_
  refine lv_lconst (v := 0) hx hb d_M_isUpright_1 (by decide) ?_
  refine lv_ldc2 (v := 5000) hx hb hown (hT _ wd_884 args) d_M_isUpright_2 ?_
  obtain ⟨u1, e2⟩ := gsome h
  refine gw_callI e2 h (gw_runS (As := [.long p0, .long 0, .long 5000]) (rest := []) hx hb hml hown hT hK hZ hA hI (m_M_within l hst D g0 p0 0 5000 w u1 e2) ce_M_within wd_885 ⟨by decide, by decide⟩ rfl rfl hl.1 rfl (lv_room (Nat.le_of_ble_eq_true rfl)) d_M_isUpright_5 ⟨(show 0 + 0 ≤ 0 by omega), (show 0 + 0 ≤ 0 by omega)⟩) hI hA hexc (show 0 + 0 ≤ 0 by omega) (show 0 + 0 ≤ 0 by omega) (fun v3 w H locs h hI => ?_)
  obtain ⟨K33, eK33, h⟩ := gj h
  have hK33 : ∀ (y4 : Int32) (w : gW) (H : Heap) (locs : List Loc) (ls : Array Slot), K33 y4 w = some r → gI D s A w H locs → lv_has ls 4 [] → W p l e rm_M_isUpright s m args below meth c H locs 0 0 Q (F0 m 33 ls [.int y4]) := by
    intro y4 w H locs ls h hI hl
    have h := gk2 eK33 h
    obtain ⟨g5, h⟩ := gif h
    exact W.widen (show 0 ≤ 0 by omega) (show 0 ≤ 0 by omega) (hret g5 0 _ (Option.some.inj h).symm _ _ _ _ d_M_isUpright_33 hI)
  obtain ⟨K32, eK32, h⟩ := gj h
  have hK32 : ∀ (w : gW) (H : Heap) (locs : List Loc) (ls : Array Slot), K32 w = some r → gI D s A w H locs → lv_has ls 4 [] → W p l e rm_M_isUpright s m args below meth c H locs 0 0 Q (F0 m 32 ls []) := by
    intro w H locs ls h hI hl
    have h := gk1 eK32 h
    refine lv_iconst (v := 0) hx hb d_M_isUpright_32 (by decide) ?_
    exact hK33 _ w H locs ls h hI (lv_sub hl [] rfl)
  refine lv_if_eq (tgt := 32) hx hb d_M_isUpright_8 (by decide) (fun c6 => ?_) (fun c6 => ?_)
  · skip
    have h := git c6 h
    exact hK32 w H locs ls h hI (lv_sub hl [] rfl)
  · skip
    have h := gie c6 h
    refine lv_lload_n hx hb d_M_isUpright_11 rfl (lv_at hl 1 rfl) ?_
    obtain ⟨u7, e8⟩ := gsome h
    refine gw_callI e8 h (gw_runS (As := [.long p1]) (rest := []) hx hb hml hown hT hK hZ hA hI (m_M_isLong l hst D g0 p1 w u7 e8) ce_M_isLong wd_888 ⟨by decide, by decide⟩ rfl rfl hl.1 rfl (lv_room (Nat.le_of_ble_eq_true rfl)) d_M_isUpright_12 ⟨(show 0 + 0 ≤ 0 by omega), (show 0 + 0 ≤ 0 by omega)⟩) hI hA hexc (show 0 + 0 ≤ 0 by omega) (show 0 + 0 ≤ 0 by omega) (fun v9 w H locs h hI => ?_)
    refine lv_if_eq (tgt := 32) hx hb d_M_isUpright_15 (by decide) (fun c10 => ?_) (fun c10 => ?_)
    · skip
      have h := git c10 h
      exact hK32 w H locs ls h hI (lv_sub hl [] rfl)
    · skip
      have h := gie c10 h
      refine lv_lload_n hx hb d_M_isUpright_18 rfl (lv_at hl 0 rfl) ?_
      refine lv_lload_n hx hb d_M_isUpright_19 rfl (lv_at hl 1 rfl) ?_
      refine lv_ladd hx hb d_M_isUpright_20 ?_
      refine lv_ldc2 (v := 5000) hx hb hown (hT _ wd_884 args) d_M_isUpright_21 ?_
      refine W.lcmp hx hb d_M_isUpright_24 ?_
      refine lv_if_gt (tgt := 32) hx hb d_M_isUpright_25 (by decide) (fun c11 => ?_) (fun c11 => ?_)
      · have c11 := (lg_cmp_gt _ _).mp c11
        have h := git c11 h
        exact hK32 w H locs ls h hI (lv_sub hl [] rfl)
      · have c11 := mt (lg_cmp_gt _ _).mpr c11
        have h := gie c11 h
        refine lv_iconst (v := 1) hx hb d_M_isUpright_28 (by decide) ?_
        refine lv_goto (tgt := 33) hx hb d_M_isUpright_29 (by decide) ?_
        exact hK33 _ w H locs ls h hI (lv_sub hl [] rfl)

abbrev b_M_isBody : ByteArray := prog_9_method_5_code
def y_M_isBody : MethodName := ⟨"BodySolidsModel", "isBody", "(I)Z"⟩
theorem d_M_isBody_0 : decode b_M_isBody 0 = .ok (.iload_n 1, 1) := by decide +kernel
theorem d_M_isBody_1 : decode b_M_isBody 1 = .ok (.ifCond .lt 15, 3) := by decide +kernel
theorem d_M_isBody_4 : decode b_M_isBody 4 = .ok (.iload_n 1, 1) := by decide +kernel
theorem d_M_isBody_5 : decode b_M_isBody 5 = .ok (.aload_n 0, 1) := by decide +kernel
theorem d_M_isBody_6 : decode b_M_isBody 6 = .ok (.getfield 92, 3) := by decide +kernel
theorem d_M_isBody_9 : decode b_M_isBody 9 = .ok (.if_icmp .ge 7, 3) := by decide +kernel
theorem d_M_isBody_12 : decode b_M_isBody 12 = .ok (.iconst 1, 1) := by decide +kernel
theorem d_M_isBody_13 : decode b_M_isBody 13 = .ok (.goto 4, 3) := by decide +kernel
theorem d_M_isBody_16 : decode b_M_isBody 16 = .ok (.iconst 0, 1) := by decide +kernel
theorem d_M_isBody_17 : decode b_M_isBody 17 = .ok (.ireturn, 1) := by decide +kernel
abbrev rm_M_isBody : Room := { frames := 0, cells := 0, slots := 0, locals := 0 }
theorem ce_M_isBody : gCe y_M_isBody (.code y_M_isBody b_M_isBody 2 (some .boolean)) 2 1 false := gCe.code wd_897 wd_57 wd_896 (by decide) (by decide +kernel)
def f_M_isBody (g0 : gG) (a0 : Nat) (p1 : Int32) (w : gW) : gX Int32 := gjoin (fun K17 => gjoin (fun K16 => if p1 < 0 then (K16 w) else ((gfI w a0 7 2).bind fun v4 => if v4 ≤ p1 then (K16 w) else (K17 1 w))) (fun (w : gW) => K17 0 w)) (fun (y1 : Int32) (w : gW) => gguard (y1 = 0 ∨ y1 = 1) (some (.inr y1, w)))
set_option maxHeartbeats 4000000 in
set_option maxRecDepth 100000 in
theorem m_M_isBody (l : Launch) (hst : l.stackTraces = false) (D : gD) (g0 : gG) (a0 : Nat) (p1 : Int32) (w : gW) (r : (String ⊕ Int32) × gW) (h : f_M_isBody g0 a0 p1 w = some r) : gMet l y_M_isBody (.code y_M_isBody b_M_isBody 2 (some .boolean)) rm_M_isBody D g0 [.ref a0, .int p1] w (goI r) := by
  refine gw_ofZ (by decide +kernel) (Nat.le_of_ble_eq_true rfl) ?_
  intro p e s m below meth c ls args A Q hx hb hml hown hlocks hin hnt hT hK hZ hA hret hexc hthr hI hl
  obtain ⟨H, hH⟩ : ∃ H, H = s.heap := ⟨_, rfl⟩
  rw [← hH] at hI ⊢
  obtain ⟨locs, hlocs⟩ : ∃ z : List Loc, z = [] := ⟨_, rfl⟩
  rw [← hlocs] at hI ⊢
  have hl : lv_has ls 2 [(0, .ref a0), (1, .int p1)] := hl
  unfold f_M_isBody at h
  refine lv_iload_n hx hb d_M_isBody_0 rfl (lv_at hl 1 rfl) ?_
  obtain ⟨K17, eK17, h⟩ := gj h
  have hK17 : ∀ (y1 : Int32) (w : gW) (H : Heap) (locs : List Loc) (ls : Array Slot), K17 y1 w = some r → gI D s A w H locs → lv_has ls 2 [] → W p l e rm_M_isBody s m args below meth c H locs 0 0 Q (F0 m 17 ls [.int y1]) := by
    intro y1 w H locs ls h hI hl
    have h := gk2 eK17 h
    obtain ⟨g2, h⟩ := gif h
    exact W.widen (show 0 ≤ 0 by omega) (show 0 ≤ 0 by omega) (hret g2 0 _ (Option.some.inj h).symm _ _ _ _ d_M_isBody_17 hI)
  obtain ⟨K16, eK16, h⟩ := gj h
  have hK16 : ∀ (w : gW) (H : Heap) (locs : List Loc) (ls : Array Slot), K16 w = some r → gI D s A w H locs → lv_has ls 2 [] → W p l e rm_M_isBody s m args below meth c H locs 0 0 Q (F0 m 16 ls []) := by
    intro w H locs ls h hI hl
    have h := gk1 eK16 h
    refine lv_iconst (v := 0) hx hb d_M_isBody_16 (by decide) ?_
    exact hK17 _ w H locs ls h hI (lv_sub hl [] rfl)
  refine lv_if_lt (tgt := 16) hx hb d_M_isBody_1 (by decide) (fun c3 => ?_) (fun c3 => ?_)
  · skip
    have h := git c3 h
    exact hK16 w H locs ls h hI (lv_sub hl [] rfl)
  · skip
    have h := gie c3 h
    refine lv_iload_n hx hb d_M_isBody_4 rfl (lv_at hl 1 rfl) ?_
    refine lv_aload_n hx hb d_M_isBody_5 rfl (lv_at hl 0 rfl) ?_
    obtain ⟨v4, e5, h⟩ := gb h
    refine gw_getI hx hb hT hown hK hI (ci := 7) rfl i_7 2 (by decide) wd_788 (fun _ h9 => h9) e5 d_M_isBody_6 ?_
    refine lv_icmp_ge (tgt := 16) hx hb d_M_isBody_9 (by decide) (fun c6 => ?_) (fun c6 => ?_)
    · skip
      have h := git c6 h
      exact hK16 w H locs ls h hI (lv_sub hl [] rfl)
    · skip
      have h := gie c6 h
      refine lv_iconst (v := 1) hx hb d_M_isBody_12 (by decide) ?_
      refine lv_goto (tgt := 17) hx hb d_M_isBody_13 (by decide) ?_
      exact hK17 _ w H locs ls h hI (lv_sub hl [] rfl)

abbrev b_M_fresh : ByteArray := prog_9_method_8_code
def y_M_fresh : MethodName := ⟨"BodySolidsModel", "fresh", "(II)I"⟩
theorem d_M_fresh_0 : decode b_M_fresh 0 = .ok (.aload_n 0, 1) := by decide +kernel
theorem d_M_fresh_1 : decode b_M_fresh 1 = .ok (.getfield 7, 3) := by decide +kernel
theorem d_M_fresh_4 : decode b_M_fresh 4 = .ok (.iload_n 1, 1) := by decide +kernel
theorem d_M_fresh_5 : decode b_M_fresh 5 = .ok (.iaload, 1) := by decide +kernel
theorem d_M_fresh_6 : decode b_M_fresh 6 = .ok (.bipush 12, 2) := by decide +kernel
theorem d_M_fresh_8 : decode b_M_fresh 8 = .ok (.if_icmp .ne 5, 3) := by decide +kernel
theorem d_M_fresh_11 : decode b_M_fresh 11 = .ok (.iconst (-1), 1) := by decide +kernel
theorem d_M_fresh_12 : decode b_M_fresh 12 = .ok (.ireturn, 1) := by decide +kernel
theorem d_M_fresh_13 : decode b_M_fresh 13 = .ok (.bipush 12, 2) := by decide +kernel
theorem d_M_fresh_15 : decode b_M_fresh 15 = .ok (.iload_n 1, 1) := by decide +kernel
theorem d_M_fresh_16 : decode b_M_fresh 16 = .ok (.imul, 1) := by decide +kernel
theorem d_M_fresh_17 : decode b_M_fresh 17 = .ok (.aload_n 0, 1) := by decide +kernel
theorem d_M_fresh_18 : decode b_M_fresh 18 = .ok (.getfield 7, 3) := by decide +kernel
theorem d_M_fresh_21 : decode b_M_fresh 21 = .ok (.iload_n 1, 1) := by decide +kernel
theorem d_M_fresh_22 : decode b_M_fresh 22 = .ok (.iaload, 1) := by decide +kernel
theorem d_M_fresh_23 : decode b_M_fresh 23 = .ok (.iadd, 1) := by decide +kernel
theorem d_M_fresh_24 : decode b_M_fresh 24 = .ok (.istore_n 3, 1) := by decide +kernel
theorem d_M_fresh_25 : decode b_M_fresh 25 = .ok (.aload_n 0, 1) := by decide +kernel
theorem d_M_fresh_26 : decode b_M_fresh 26 = .ok (.getfield 13, 3) := by decide +kernel
theorem d_M_fresh_29 : decode b_M_fresh 29 = .ok (.iload_n 3, 1) := by decide +kernel
theorem d_M_fresh_30 : decode b_M_fresh 30 = .ok (.iload_n 2, 1) := by decide +kernel
theorem d_M_fresh_31 : decode b_M_fresh 31 = .ok (.iastore, 1) := by decide +kernel
theorem d_M_fresh_32 : decode b_M_fresh 32 = .ok (.aload_n 0, 1) := by decide +kernel
theorem d_M_fresh_33 : decode b_M_fresh 33 = .ok (.getfield 7, 3) := by decide +kernel
theorem d_M_fresh_36 : decode b_M_fresh 36 = .ok (.iload_n 1, 1) := by decide +kernel
theorem d_M_fresh_37 : decode b_M_fresh 37 = .ok (.dup2, 1) := by decide +kernel
theorem d_M_fresh_38 : decode b_M_fresh 38 = .ok (.iaload, 1) := by decide +kernel
theorem d_M_fresh_39 : decode b_M_fresh 39 = .ok (.iconst 1, 1) := by decide +kernel
theorem d_M_fresh_40 : decode b_M_fresh 40 = .ok (.iadd, 1) := by decide +kernel
theorem d_M_fresh_41 : decode b_M_fresh 41 = .ok (.iastore, 1) := by decide +kernel
theorem d_M_fresh_42 : decode b_M_fresh 42 = .ok (.iload_n 3, 1) := by decide +kernel
theorem d_M_fresh_43 : decode b_M_fresh 43 = .ok (.ireturn, 1) := by decide +kernel
abbrev rm_M_fresh : Room := { frames := 0, cells := 0, slots := 0, locals := 0 }
theorem ce_M_fresh : gCe y_M_fresh (.code y_M_fresh b_M_fresh 4 (some .int)) 4 2 false := gCe.code wd_901 wd_57 wd_900 (by decide) (by decide +kernel)
def f_M_fresh (g0 : gG) (a0 : Nat) (p1 : Int32) (p2 : Int32) (w : gW) : gX Int32 := (gfA w a0 7 3).bind fun v1 => (gaI w v1 p1).bind fun v3 => if v3 = 12 then (some (.inr (-1), w)) else ((gfA w a0 7 3).bind fun v6 => (gaI w v6 p1).bind fun v8 => (gfA w a0 7 4).bind fun v10 => (gsI w v10 ((12 * p1) + v8) p2).bind fun w => (gfA w a0 7 3).bind fun v13 => (gaI w v13 p1).bind fun v15 => (gsI w v13 p1 (v15 + 1)).bind fun w => some (.inr ((12 * p1) + v8), w))
set_option maxHeartbeats 4000000 in
set_option maxRecDepth 100000 in
theorem m_M_fresh (l : Launch) (hst : l.stackTraces = false) (D : gD) (g0 : gG) (a0 : Nat) (p1 : Int32) (p2 : Int32) (w : gW) (r : (String ⊕ Int32) × gW) (h : f_M_fresh g0 a0 p1 p2 w = some r) : gMet l y_M_fresh (.code y_M_fresh b_M_fresh 4 (some .int)) rm_M_fresh D g0 [.ref a0, .int p1, .int p2] w (goI r) := by
  refine gw_ofI (by decide +kernel) (Nat.le_of_ble_eq_true rfl) ?_
  intro p e s m below meth c ls args A Q hx hb hml hown hlocks hin hnt hT hK hZ hA hret hexc hthr hI hl
  obtain ⟨H, hH⟩ : ∃ H, H = s.heap := ⟨_, rfl⟩
  rw [← hH] at hI ⊢
  obtain ⟨locs, hlocs⟩ : ∃ z : List Loc, z = [] := ⟨_, rfl⟩
  rw [← hlocs] at hI ⊢
  have hl : lv_has ls 4 [(0, .ref a0), (1, .int p1), (2, .int p2)] := hl
  unfold f_M_fresh at h
  refine lv_aload_n hx hb d_M_fresh_0 rfl (lv_at hl 0 rfl) ?_
  obtain ⟨v1, e2, h⟩ := gb h
  refine gw_getA hx hb hT hown hK hI (ci := 7) rfl i_7 3 (by decide) wd_789 (fun _ h9 => h9) e2 d_M_fresh_1 ?_
  refine lv_iload_n hx hb d_M_fresh_4 rfl (lv_at hl 1 rfl) ?_
  obtain ⟨v3, e4, h⟩ := gb h
  refine gw_aldI hx hb hK hI e4 d_M_fresh_5 ?_
  refine lv_bipush (v := 12) hx hb d_M_fresh_6 (by decide) ?_
  refine lv_icmp_ne (tgt := 13) hx hb d_M_fresh_8 (by decide) (fun c5 => ?_) (fun c5 => ?_)
  · skip
    have h := gie c5 h
    refine lv_bipush (v := 12) hx hb d_M_fresh_13 (by decide) ?_
    refine lv_iload_n hx hb d_M_fresh_15 rfl (lv_at hl 1 rfl) ?_
    refine lv_imul hx hb d_M_fresh_16 ?_
    refine lv_aload_n hx hb d_M_fresh_17 rfl (lv_at hl 0 rfl) ?_
    obtain ⟨v6, e7, h⟩ := gb h
    refine gw_getA hx hb hT hown hK hI (ci := 7) rfl i_7 3 (by decide) wd_789 (fun _ h9 => h9) e7 d_M_fresh_18 ?_
    refine lv_iload_n hx hb d_M_fresh_21 rfl (lv_at hl 1 rfl) ?_
    obtain ⟨v8, e9, h⟩ := gb h
    refine gw_aldI hx hb hK hI e9 d_M_fresh_22 ?_
    refine lv_iadd hx hb d_M_fresh_23 ?_
    refine lv_istore_n (lv' := [(3, .int ((12 * p1) + v8)), (0, .ref a0), (1, .int p1), (2, .int p2)]) hx hb d_M_fresh_24 rfl hl (by decide) rfl (fun ls hl => ?_)
    refine lv_aload_n hx hb d_M_fresh_25 rfl (lv_at hl 1 rfl) ?_
    obtain ⟨v10, e11, h⟩ := gb h
    refine gw_getA hx hb hT hown hK hI (ci := 7) rfl i_7 4 (by decide) wd_790 (fun _ h9 => h9) e11 d_M_fresh_26 ?_
    refine lv_iload_n hx hb d_M_fresh_29 rfl (lv_at hl 0 rfl) ?_
    refine lv_iload_n hx hb d_M_fresh_30 rfl (lv_at hl 3 rfl) ?_
    obtain ⟨w, e12, h⟩ := gb h
    refine gw_astI hx hb hK hI e12 d_M_fresh_31 (fun H locs hI => ?_)
    refine lv_aload_n hx hb d_M_fresh_32 rfl (lv_at hl 1 rfl) ?_
    obtain ⟨v13, e14, h⟩ := gb h
    refine gw_getA hx hb hT hown hK hI (ci := 7) rfl i_7 3 (by decide) wd_789 (fun _ h9 => h9) e14 d_M_fresh_33 ?_
    refine lv_iload_n hx hb d_M_fresh_36 rfl (lv_at hl 2 rfl) ?_
    refine lv_dup2_11 hx hb d_M_fresh_37 rfl rfl ?_
    obtain ⟨v15, e16, h⟩ := gb h
    refine gw_aldI hx hb hK hI e16 d_M_fresh_38 ?_
    refine lv_iconst (v := 1) hx hb d_M_fresh_39 (by decide) ?_
    refine lv_iadd hx hb d_M_fresh_40 ?_
    obtain ⟨w, e17, h⟩ := gb h
    refine gw_astI hx hb hK hI e17 d_M_fresh_41 (fun H locs hI => ?_)
    refine lv_iload_n hx hb d_M_fresh_42 rfl (lv_at hl 0 rfl) ?_
    exact W.widen (show 0 ≤ 0 by omega) (show 0 ≤ 0 by omega) (hret _ _ (Option.some.inj h).symm _ _ _ _ d_M_fresh_43 hI)
  · skip
    have h := git c5 h
    refine lv_iconst (v := -1) hx hb d_M_fresh_11 (by decide) ?_
    exact W.widen (show 0 ≤ 0 by omega) (show 0 ≤ 0 by omega) (hret _ _ (Option.some.inj h).symm _ _ _ _ d_M_fresh_12 hI)

abbrev b_M_tell : ByteArray := prog_9_method_9_code
def y_M_tell : MethodName := ⟨"BodySolidsModel", "tell", "(IIJ)V"⟩
theorem d_M_tell_0 : decode b_M_tell 0 = .ok (.aload_n 0, 1) := by decide +kernel
theorem d_M_tell_1 : decode b_M_tell 1 = .ok (.getfield 16, 3) := by decide +kernel
theorem d_M_tell_4 : decode b_M_tell 4 = .ok (.bipush 6, 2) := by decide +kernel
theorem d_M_tell_6 : decode b_M_tell 6 = .ok (.iload_n 1, 1) := by decide +kernel
theorem d_M_tell_7 : decode b_M_tell 7 = .ok (.imul, 1) := by decide +kernel
theorem d_M_tell_8 : decode b_M_tell 8 = .ok (.iload_n 2, 1) := by decide +kernel
theorem d_M_tell_9 : decode b_M_tell 9 = .ok (.iadd, 1) := by decide +kernel
theorem d_M_tell_10 : decode b_M_tell 10 = .ok (.lload_n 3, 1) := by decide +kernel
theorem d_M_tell_11 : decode b_M_tell 11 = .ok (.lastore, 1) := by decide +kernel
theorem d_M_tell_12 : decode b_M_tell 12 = .ok (.return_, 1) := by decide +kernel
abbrev rm_M_tell : Room := { frames := 0, cells := 0, slots := 0, locals := 0 }
theorem ce_M_tell : gCe y_M_tell (.code y_M_tell b_M_tell 5 none) 5 3 false := gCe.code wd_905 wd_57 wd_904 (by decide) (by decide +kernel)
def f_M_tell (g0 : gG) (a0 : Nat) (p1 : Int32) (p2 : Int32) (p3 : Int64) (w : gW) : gX Unit := (gfA w a0 7 5).bind fun v1 => (gsJ w v1 ((6 * p1) + p2) p3).bind fun w => some (.inr (), w)
set_option maxHeartbeats 4000000 in
set_option maxRecDepth 100000 in
theorem m_M_tell (l : Launch) (hst : l.stackTraces = false) (D : gD) (g0 : gG) (a0 : Nat) (p1 : Int32) (p2 : Int32) (p3 : Int64) (w : gW) (r : (String ⊕ Unit) × gW) (h : f_M_tell g0 a0 p1 p2 p3 w = some r) : gMet l y_M_tell (.code y_M_tell b_M_tell 5 none) rm_M_tell D g0 [.ref a0, .int p1, .int p2, .long p3] w (goV r) := by
  refine gw_ofV (by decide +kernel) (Nat.le_of_ble_eq_true rfl) ?_
  intro p e s m below meth c ls args A Q hx hb hml hown hlocks hin hnt hT hK hZ hA hret hexc hthr hI hl
  obtain ⟨H, hH⟩ : ∃ H, H = s.heap := ⟨_, rfl⟩
  rw [← hH] at hI ⊢
  obtain ⟨locs, hlocs⟩ : ∃ z : List Loc, z = [] := ⟨_, rfl⟩
  rw [← hlocs] at hI ⊢
  have hl : lv_has ls 5 [(0, .ref a0), (1, .int p1), (2, .int p2), (3, .long p3)] := hl
  unfold f_M_tell at h
  refine lv_aload_n hx hb d_M_tell_0 rfl (lv_at hl 0 rfl) ?_
  obtain ⟨v1, e2, h⟩ := gb h
  refine gw_getA hx hb hT hown hK hI (ci := 7) rfl i_7 5 (by decide) wd_791 (fun _ h9 => h9) e2 d_M_tell_1 ?_
  refine lv_bipush (v := 6) hx hb d_M_tell_4 (by decide) ?_
  refine lv_iload_n hx hb d_M_tell_6 rfl (lv_at hl 1 rfl) ?_
  refine lv_imul hx hb d_M_tell_7 ?_
  refine lv_iload_n hx hb d_M_tell_8 rfl (lv_at hl 2 rfl) ?_
  refine lv_iadd hx hb d_M_tell_9 ?_
  refine lv_lload_n hx hb d_M_tell_10 rfl (lv_at hl 3 rfl) ?_
  obtain ⟨w, e3, h⟩ := gb h
  refine gw_astJ hx hb hK hI e3 d_M_tell_11 (fun H locs hI => ?_)
  exact W.widen (show 0 ≤ 0 by omega) (show 0 ≤ 0 by omega) (hret _ _ (Option.some.inj h).symm _ _ _ _ d_M_tell_12 hI)

abbrev b_M_box : ByteArray := prog_9_method_13_code
def y_M_box : MethodName := ⟨"BodySolidsModel", "box", "(IJJJJJJ)Z"⟩
theorem d_M_box_0 : decode b_M_box 0 = .ok (.lload_n 2, 1) := by decide +kernel
theorem d_M_box_1 : decode b_M_box 1 = .ok (.lload 4, 2) := by decide +kernel
theorem d_M_box_3 : decode b_M_box 3 = .ok (.invokestatic 102, 3) := by decide +kernel
theorem d_M_box_6 : decode b_M_box 6 = .ok (.ifCond .eq 48, 3) := by decide +kernel
theorem d_M_box_9 : decode b_M_box 9 = .ok (.lload 8, 2) := by decide +kernel
theorem d_M_box_11 : decode b_M_box 11 = .ok (.invokestatic 98, 3) := by decide +kernel
theorem d_M_box_14 : decode b_M_box 14 = .ok (.ifCond .eq 40, 3) := by decide +kernel
theorem d_M_box_17 : decode b_M_box 17 = .ok (.lload 10, 2) := by decide +kernel
theorem d_M_box_19 : decode b_M_box 19 = .ok (.invokestatic 98, 3) := by decide +kernel
theorem d_M_box_22 : decode b_M_box 22 = .ok (.ifCond .eq 32, 3) := by decide +kernel
theorem d_M_box_25 : decode b_M_box 25 = .ok (.lload_n 2, 1) := by decide +kernel
theorem d_M_box_26 : decode b_M_box 26 = .ok (.lload 8, 2) := by decide +kernel
theorem d_M_box_28 : decode b_M_box 28 = .ok (.ladd, 1) := by decide +kernel
theorem d_M_box_29 : decode b_M_box 29 = .ok (.lload 4, 2) := by decide +kernel
theorem d_M_box_31 : decode b_M_box 31 = .ok (.lload 10, 2) := by decide +kernel
theorem d_M_box_33 : decode b_M_box 33 = .ok (.ladd, 1) := by decide +kernel
theorem d_M_box_34 : decode b_M_box 34 = .ok (.invokestatic 102, 3) := by decide +kernel
theorem d_M_box_37 : decode b_M_box 37 = .ok (.ifCond .eq 17, 3) := by decide +kernel
theorem d_M_box_40 : decode b_M_box 40 = .ok (.lload 6, 2) := by decide +kernel
theorem d_M_box_42 : decode b_M_box 42 = .ok (.lload 12, 2) := by decide +kernel
theorem d_M_box_44 : decode b_M_box 44 = .ok (.invokestatic 106, 3) := by decide +kernel
theorem d_M_box_47 : decode b_M_box 47 = .ok (.ifCond .eq 7, 3) := by decide +kernel
theorem d_M_box_50 : decode b_M_box 50 = .ok (.iconst 1, 1) := by decide +kernel
theorem d_M_box_51 : decode b_M_box 51 = .ok (.goto 4, 3) := by decide +kernel
theorem d_M_box_54 : decode b_M_box 54 = .ok (.iconst 0, 1) := by decide +kernel
theorem d_M_box_55 : decode b_M_box 55 = .ok (.istore 14, 2) := by decide +kernel
theorem d_M_box_57 : decode b_M_box 57 = .ok (.aload_n 0, 1) := by decide +kernel
theorem d_M_box_58 : decode b_M_box 58 = .ok (.aload_n 0, 1) := by decide +kernel
theorem d_M_box_59 : decode b_M_box 59 = .ok (.iload_n 1, 1) := by decide +kernel
theorem d_M_box_60 : decode b_M_box 60 = .ok (.invokevirtual 109, 3) := by decide +kernel
theorem d_M_box_63 : decode b_M_box 63 = .ok (.ifCond .ne 7, 3) := by decide +kernel
theorem d_M_box_66 : decode b_M_box 66 = .ok (.iconst 1, 1) := by decide +kernel
theorem d_M_box_67 : decode b_M_box 67 = .ok (.goto 13, 3) := by decide +kernel
theorem d_M_box_70 : decode b_M_box 70 = .ok (.iload 14, 2) := by decide +kernel
theorem d_M_box_72 : decode b_M_box 72 = .ok (.ifCond .eq 7, 3) := by decide +kernel
theorem d_M_box_75 : decode b_M_box 75 = .ok (.iconst 0, 1) := by decide +kernel
theorem d_M_box_76 : decode b_M_box 76 = .ok (.goto 4, 3) := by decide +kernel
theorem d_M_box_79 : decode b_M_box 79 = .ok (.iconst 2, 1) := by decide +kernel
theorem d_M_box_80 : decode b_M_box 80 = .ok (.putfield 80, 3) := by decide +kernel
theorem d_M_box_83 : decode b_M_box 83 = .ok (.aload_n 0, 1) := by decide +kernel
theorem d_M_box_84 : decode b_M_box 84 = .ok (.getfield 80, 3) := by decide +kernel
theorem d_M_box_87 : decode b_M_box 87 = .ok (.ifCond .eq 5, 3) := by decide +kernel
theorem d_M_box_90 : decode b_M_box 90 = .ok (.iconst 0, 1) := by decide +kernel
theorem d_M_box_91 : decode b_M_box 91 = .ok (.ireturn, 1) := by decide +kernel
theorem d_M_box_92 : decode b_M_box 92 = .ok (.aload_n 0, 1) := by decide +kernel
theorem d_M_box_93 : decode b_M_box 93 = .ok (.iload_n 1, 1) := by decide +kernel
theorem d_M_box_94 : decode b_M_box 94 = .ok (.iconst 0, 1) := by decide +kernel
theorem d_M_box_95 : decode b_M_box 95 = .ok (.invokevirtual 113, 3) := by decide +kernel
theorem d_M_box_98 : decode b_M_box 98 = .ok (.istore 15, 2) := by decide +kernel
theorem d_M_box_100 : decode b_M_box 100 = .ok (.iload 15, 2) := by decide +kernel
theorem d_M_box_102 : decode b_M_box 102 = .ok (.iconst (-1), 1) := by decide +kernel
theorem d_M_box_103 : decode b_M_box 103 = .ok (.if_icmp .ne 5, 3) := by decide +kernel
theorem d_M_box_106 : decode b_M_box 106 = .ok (.iconst 0, 1) := by decide +kernel
theorem d_M_box_107 : decode b_M_box 107 = .ok (.ireturn, 1) := by decide +kernel
theorem d_M_box_108 : decode b_M_box 108 = .ok (.aload_n 0, 1) := by decide +kernel
theorem d_M_box_109 : decode b_M_box 109 = .ok (.iload 15, 2) := by decide +kernel
theorem d_M_box_111 : decode b_M_box 111 = .ok (.iconst 0, 1) := by decide +kernel
theorem d_M_box_112 : decode b_M_box 112 = .ok (.lload_n 2, 1) := by decide +kernel
theorem d_M_box_113 : decode b_M_box 113 = .ok (.invokevirtual 117, 3) := by decide +kernel
theorem d_M_box_116 : decode b_M_box 116 = .ok (.aload_n 0, 1) := by decide +kernel
theorem d_M_box_117 : decode b_M_box 117 = .ok (.iload 15, 2) := by decide +kernel
theorem d_M_box_119 : decode b_M_box 119 = .ok (.iconst 1, 1) := by decide +kernel
theorem d_M_box_120 : decode b_M_box 120 = .ok (.lload 4, 2) := by decide +kernel
theorem d_M_box_122 : decode b_M_box 122 = .ok (.invokevirtual 117, 3) := by decide +kernel
theorem d_M_box_125 : decode b_M_box 125 = .ok (.aload_n 0, 1) := by decide +kernel
theorem d_M_box_126 : decode b_M_box 126 = .ok (.iload 15, 2) := by decide +kernel
theorem d_M_box_128 : decode b_M_box 128 = .ok (.iconst 2, 1) := by decide +kernel
theorem d_M_box_129 : decode b_M_box 129 = .ok (.lload 6, 2) := by decide +kernel
theorem d_M_box_131 : decode b_M_box 131 = .ok (.invokevirtual 117, 3) := by decide +kernel
theorem d_M_box_134 : decode b_M_box 134 = .ok (.aload_n 0, 1) := by decide +kernel
theorem d_M_box_135 : decode b_M_box 135 = .ok (.iload 15, 2) := by decide +kernel
theorem d_M_box_137 : decode b_M_box 137 = .ok (.iconst 3, 1) := by decide +kernel
theorem d_M_box_138 : decode b_M_box 138 = .ok (.lload 8, 2) := by decide +kernel
theorem d_M_box_140 : decode b_M_box 140 = .ok (.invokevirtual 117, 3) := by decide +kernel
theorem d_M_box_143 : decode b_M_box 143 = .ok (.aload_n 0, 1) := by decide +kernel
theorem d_M_box_144 : decode b_M_box 144 = .ok (.iload 15, 2) := by decide +kernel
theorem d_M_box_146 : decode b_M_box 146 = .ok (.iconst 4, 1) := by decide +kernel
theorem d_M_box_147 : decode b_M_box 147 = .ok (.lload 10, 2) := by decide +kernel
theorem d_M_box_149 : decode b_M_box 149 = .ok (.invokevirtual 117, 3) := by decide +kernel
theorem d_M_box_152 : decode b_M_box 152 = .ok (.aload_n 0, 1) := by decide +kernel
theorem d_M_box_153 : decode b_M_box 153 = .ok (.iload 15, 2) := by decide +kernel
theorem d_M_box_155 : decode b_M_box 155 = .ok (.iconst 5, 1) := by decide +kernel
theorem d_M_box_156 : decode b_M_box 156 = .ok (.lload 12, 2) := by decide +kernel
theorem d_M_box_158 : decode b_M_box 158 = .ok (.invokevirtual 117, 3) := by decide +kernel
theorem d_M_box_161 : decode b_M_box 161 = .ok (.iconst 1, 1) := by decide +kernel
theorem d_M_box_162 : decode b_M_box 162 = .ok (.ireturn, 1) := by decide +kernel
abbrev rm_M_box : Room := { frames := 3, cells := 0, slots := 0, locals := 69 }
theorem ce_M_box : gCe y_M_box (.code y_M_box b_M_box 16 (some .boolean)) 16 7 false := gCe.code wd_879 wd_57 wd_877 (by decide) (by decide +kernel)
def f_M_box (g0 : gG) (a0 : Nat) (p1 : Int32) (p2 : Int64) (p3 : Int64) (p4 : Int64) (p5 : Int64) (p6 : Int64) (p7 : Int64) (w : gW) : gX Int32 := gbind (f_M_isPlace g0 p2 p3 w) fun v3 w => gjoin (fun K55 => gjoin (fun K54 => if v3 = 0 then (K54 w) else (gbind (f_M_isLong g0 p5 w) fun v59 w => if v59 = 0 then (K54 w) else (gbind (f_M_isLong g0 p6 w) fun v63 w => if v63 = 0 then (K54 w) else (gbind (f_M_isPlace g0 (p2 + p5) (p3 + p6) w) fun v67 w => if v67 = 0 then (K54 w) else (gbind (f_M_isUpright g0 p4 p7 w) fun v71 w => if v71 = 0 then (K54 w) else (K55 1 w)))))) (fun (w : gW) => K55 0 w)) (fun (y4 : Int32) (w : gW) => (gck w a0 7).bind fun _ => gbind (f_M_isBody g0 a0 p1 w) fun v9 w => gjoin (fun K80 => if v9 = 0 then (K80 1 w) else (if y4 = 0 then (K80 2 w) else (K80 0 w))) (fun (y10 : Int32) (w : gW) => (gp w a0 7 0 (.int y10)).bind fun w => (gfI w a0 7 0).bind fun v12 => if v12 = 0 then ((gck w a0 7).bind fun _ => gbind (f_M_fresh g0 a0 p1 0 w) fun v19 w => if v19 = (-1) then (gguard ((0 : Int32) = 0 ∨ (0 : Int32) = 1) (some (.inr 0, w))) else ((gck w a0 7).bind fun _ => gbind (f_M_tell g0 a0 v19 0 p2 w) fun v25 w => (gck w a0 7).bind fun _ => gbind (f_M_tell g0 a0 v19 1 p3 w) fun v30 w => (gck w a0 7).bind fun _ => gbind (f_M_tell g0 a0 v19 2 p4 w) fun v35 w => (gck w a0 7).bind fun _ => gbind (f_M_tell g0 a0 v19 3 p5 w) fun v40 w => (gck w a0 7).bind fun _ => gbind (f_M_tell g0 a0 v19 4 p6 w) fun v45 w => (gck w a0 7).bind fun _ => gbind (f_M_tell g0 a0 v19 5 p7 w) fun v50 w => gguard ((1 : Int32) = 0 ∨ (1 : Int32) = 1) (some (.inr 1, w)))) else (gguard ((0 : Int32) = 0 ∨ (0 : Int32) = 1) (some (.inr 0, w)))))
set_option maxHeartbeats 4000000 in
set_option maxRecDepth 100000 in
theorem m_M_box (l : Launch) (hst : l.stackTraces = false) (D : gD) (g0 : gG) (a0 : Nat) (p1 : Int32) (p2 : Int64) (p3 : Int64) (p4 : Int64) (p5 : Int64) (p6 : Int64) (p7 : Int64) (w : gW) (r : (String ⊕ Int32) × gW) (h : f_M_box g0 a0 p1 p2 p3 p4 p5 p6 p7 w = some r) : gMet l y_M_box (.code y_M_box b_M_box 16 (some .boolean)) rm_M_box D g0 [.ref a0, .int p1, .long p2, .long p3, .long p4, .long p5, .long p6, .long p7] w (goI r) := by
  refine gw_ofZ (by decide +kernel) (Nat.le_of_ble_eq_true rfl) ?_
  intro p e s m below meth c ls args A Q hx hb hml hown hlocks hin hnt hT hK hZ hA hret hexc hthr hI hl
  obtain ⟨H, hH⟩ : ∃ H, H = s.heap := ⟨_, rfl⟩
  rw [← hH] at hI ⊢
  obtain ⟨locs, hlocs⟩ : ∃ z : List Loc, z = [] := ⟨_, rfl⟩
  rw [← hlocs] at hI ⊢
  have hl : lv_has ls 16 [(0, .ref a0), (1, .int p1), (2, .long p2), (4, .long p3), (6, .long p4), (8, .long p5), (10, .long p6), (12, .long p7)] := hl
  unfold f_M_box at h
  refine lv_lload_n hx hb d_M_box_0 rfl (lv_at hl 2 rfl) ?_
  refine lv_lload hx hb d_M_box_1 (lv_at hl 3 rfl) ?_
  obtain ⟨u1, e2⟩ := gsome h
  refine gw_callI e2 h (gw_runS (As := [.long p2, .long p3]) (rest := []) hx hb hml hown hT hK hZ hA hI (m_M_isPlace l hst D g0 p2 p3 w u1 e2) ce_M_isPlace wd_880 ⟨by decide, by decide⟩ rfl rfl hl.1 rfl (lv_room (Nat.le_of_ble_eq_true rfl)) d_M_box_3 ⟨(show 0 + 0 ≤ 0 by omega), (show 0 + 0 ≤ 0 by omega)⟩) hI hA hexc (show 0 + 0 ≤ 0 by omega) (show 0 + 0 ≤ 0 by omega) (fun v3 w H locs h hI => ?_)
  obtain ⟨K55, eK55, h⟩ := gj h
  have hK55 : ∀ (y4 : Int32) (w : gW) (H : Heap) (locs : List Loc) (ls : Array Slot), K55 y4 w = some r → gI D s A w H locs → lv_has ls 16 [(0, .ref a0), (1, .int p1), (2, .long p2), (4, .long p3), (6, .long p4), (8, .long p5), (10, .long p6), (12, .long p7)] → W p l e rm_M_box s m args below meth c H locs 0 0 Q (F0 m 55 ls [.int y4]) := by
    intro y4 w H locs ls h hI hl
    have h := gk2 eK55 h
    refine lv_istore (lv' := [(14, .int y4), (0, .ref a0), (1, .int p1), (2, .long p2), (4, .long p3), (6, .long p4), (8, .long p5), (10, .long p6), (12, .long p7)]) hx hb d_M_box_55 hl (by decide) rfl (fun ls hl => ?_)
    refine lv_aload_n hx hb d_M_box_57 rfl (lv_at hl 1 rfl) ?_
    refine lv_aload_n hx hb d_M_box_58 rfl (lv_at hl 1 rfl) ?_
    refine lv_iload_n hx hb d_M_box_59 rfl (lv_at hl 2 rfl) ?_
    obtain ⟨q7, e8, h⟩ := gb h
    obtain ⟨u5, e6⟩ := gsome h
    refine gw_callI e6 h (gw_runV (As := [.int p1]) (rest := [.ref a0]) hx hb hml hown hT hK hZ hA hI (ci := 7) rfl e8 (m_M_isBody l hst D g0 a0 p1 w u5 e6) ce_M_isBody wd_894 wd_17 ⟨by decide, by decide⟩ rfl rfl hl.1 rfl (lv_room (Nat.le_of_ble_eq_true rfl)) d_M_box_60 ⟨(show 0 + 0 ≤ 0 by omega), (show 0 + 0 ≤ 0 by omega)⟩) hI hA hexc (show 0 + 0 ≤ 0 by omega) (show 0 + 0 ≤ 0 by omega) (fun v9 w H locs h hI => ?_)
    obtain ⟨K80, eK80, h⟩ := gj h
    have hK80 : ∀ (y10 : Int32) (w : gW) (H : Heap) (locs : List Loc) (ls : Array Slot), K80 y10 w = some r → gI D s A w H locs → lv_has ls 16 [(0, .ref a0), (1, .int p1), (2, .long p2), (4, .long p3), (6, .long p4), (8, .long p5), (10, .long p6), (12, .long p7)] → W p l e rm_M_box s m args below meth c H locs 0 0 Q (F0 m 80 ls [.int y10, .ref a0]) := by
      intro y10 w H locs ls h hI hl
      have h := gk2 eK80 h
      obtain ⟨w, e11, h⟩ := gb h
      refine gw_put hx hb hT hown hK hI (ci := 7) rfl i_7 t_7 t_7_ok n_7 0 (by decide) wd_786 (fun _ h9 => h9) rfl (ty := .int) (by decide +kernel) rfl rfl e11 d_M_box_80 (fun H locs hI => ?_)
      refine lv_aload_n hx hb d_M_box_83 rfl (lv_at hl 0 rfl) ?_
      obtain ⟨v12, e13, h⟩ := gb h
      refine gw_getI hx hb hT hown hK hI (ci := 7) rfl i_7 0 (by decide) wd_786 (fun _ h9 => h9) e13 d_M_box_84 ?_
      refine lv_if_eq (tgt := 92) hx hb d_M_box_87 (by decide) (fun c14 => ?_) (fun c14 => ?_)
      · skip
        have h := git c14 h
        refine lv_aload_n hx hb d_M_box_92 rfl (lv_at hl 0 rfl) ?_
        refine lv_iload_n hx hb d_M_box_93 rfl (lv_at hl 1 rfl) ?_
        refine lv_iconst (v := 0) hx hb d_M_box_94 (by decide) ?_
        obtain ⟨q17, e18, h⟩ := gb h
        obtain ⟨u15, e16⟩ := gsome h
        refine gw_callI e16 h (gw_runV (As := [.int p1, .int 0]) (rest := []) hx hb hml hown hT hK hZ hA hI (ci := 7) rfl e18 (m_M_fresh l hst D g0 a0 p1 0 w u15 e16) ce_M_fresh wd_898 wd_18 ⟨by decide, by decide⟩ rfl rfl hl.1 rfl (lv_room (Nat.le_of_ble_eq_true rfl)) d_M_box_95 ⟨(show 0 + 0 ≤ 0 by omega), (show 0 + 0 ≤ 0 by omega)⟩) hI hA hexc (show 0 + 0 ≤ 0 by omega) (show 0 + 0 ≤ 0 by omega) (fun v19 w H locs h hI => ?_)
        refine lv_istore (lv' := [(15, .int v19), (0, .ref a0), (1, .int p1), (2, .long p2), (4, .long p3), (6, .long p4), (8, .long p5), (10, .long p6), (12, .long p7)]) hx hb d_M_box_98 hl (by decide) rfl (fun ls hl => ?_)
        refine lv_iload hx hb d_M_box_100 (lv_at hl 0 rfl) ?_
        refine lv_iconst (v := -1) hx hb d_M_box_102 (by decide) ?_
        refine lv_icmp_ne (tgt := 108) hx hb d_M_box_103 (by decide) (fun c20 => ?_) (fun c20 => ?_)
        · skip
          have h := gie c20 h
          refine lv_aload_n hx hb d_M_box_108 rfl (lv_at hl 1 rfl) ?_
          refine lv_iload hx hb d_M_box_109 (lv_at hl 0 rfl) ?_
          refine lv_iconst (v := 0) hx hb d_M_box_111 (by decide) ?_
          refine lv_lload_n hx hb d_M_box_112 rfl (lv_at hl 3 rfl) ?_
          obtain ⟨q23, e24, h⟩ := gb h
          obtain ⟨u21, e22⟩ := gsome h
          refine gw_callV e22 h (gw_runV (As := [.int v19, .int 0, .long p2]) (rest := []) hx hb hml hown hT hK hZ hA hI (ci := 7) rfl e24 (m_M_tell l hst D g0 a0 v19 0 p2 w u21 e22) ce_M_tell wd_902 wd_19 ⟨by decide, by decide⟩ rfl rfl hl.1 rfl (lv_room (Nat.le_of_ble_eq_true rfl)) d_M_box_113 ⟨(show 0 + 0 ≤ 0 by omega), (show 0 + 0 ≤ 0 by omega)⟩) hI hA hexc (show 0 + 0 ≤ 0 by omega) (show 0 + 0 ≤ 0 by omega) (fun v25 w H locs h hI => ?_)
          refine lv_aload_n hx hb d_M_box_116 rfl (lv_at hl 1 rfl) ?_
          refine lv_iload hx hb d_M_box_117 (lv_at hl 0 rfl) ?_
          refine lv_iconst (v := 1) hx hb d_M_box_119 (by decide) ?_
          refine lv_lload hx hb d_M_box_120 (lv_at hl 4 rfl) ?_
          obtain ⟨q28, e29, h⟩ := gb h
          obtain ⟨u26, e27⟩ := gsome h
          refine gw_callV e27 h (gw_runV (As := [.int v19, .int 1, .long p3]) (rest := []) hx hb hml hown hT hK hZ hA hI (ci := 7) rfl e29 (m_M_tell l hst D g0 a0 v19 1 p3 w u26 e27) ce_M_tell wd_902 wd_19 ⟨by decide, by decide⟩ rfl rfl hl.1 rfl (lv_room (Nat.le_of_ble_eq_true rfl)) d_M_box_122 ⟨(show 0 + 0 ≤ 0 by omega), (show 0 + 0 ≤ 0 by omega)⟩) hI hA hexc (show 0 + 0 ≤ 0 by omega) (show 0 + 0 ≤ 0 by omega) (fun v30 w H locs h hI => ?_)
          refine lv_aload_n hx hb d_M_box_125 rfl (lv_at hl 1 rfl) ?_
          refine lv_iload hx hb d_M_box_126 (lv_at hl 0 rfl) ?_
          refine lv_iconst (v := 2) hx hb d_M_box_128 (by decide) ?_
          refine lv_lload hx hb d_M_box_129 (lv_at hl 5 rfl) ?_
          obtain ⟨q33, e34, h⟩ := gb h
          obtain ⟨u31, e32⟩ := gsome h
          refine gw_callV e32 h (gw_runV (As := [.int v19, .int 2, .long p4]) (rest := []) hx hb hml hown hT hK hZ hA hI (ci := 7) rfl e34 (m_M_tell l hst D g0 a0 v19 2 p4 w u31 e32) ce_M_tell wd_902 wd_19 ⟨by decide, by decide⟩ rfl rfl hl.1 rfl (lv_room (Nat.le_of_ble_eq_true rfl)) d_M_box_131 ⟨(show 0 + 0 ≤ 0 by omega), (show 0 + 0 ≤ 0 by omega)⟩) hI hA hexc (show 0 + 0 ≤ 0 by omega) (show 0 + 0 ≤ 0 by omega) (fun v35 w H locs h hI => ?_)
          refine lv_aload_n hx hb d_M_box_134 rfl (lv_at hl 1 rfl) ?_
          refine lv_iload hx hb d_M_box_135 (lv_at hl 0 rfl) ?_
          refine lv_iconst (v := 3) hx hb d_M_box_137 (by decide) ?_
          refine lv_lload hx hb d_M_box_138 (lv_at hl 6 rfl) ?_
          obtain ⟨q38, e39, h⟩ := gb h
          obtain ⟨u36, e37⟩ := gsome h
          refine gw_callV e37 h (gw_runV (As := [.int v19, .int 3, .long p5]) (rest := []) hx hb hml hown hT hK hZ hA hI (ci := 7) rfl e39 (m_M_tell l hst D g0 a0 v19 3 p5 w u36 e37) ce_M_tell wd_902 wd_19 ⟨by decide, by decide⟩ rfl rfl hl.1 rfl (lv_room (Nat.le_of_ble_eq_true rfl)) d_M_box_140 ⟨(show 0 + 0 ≤ 0 by omega), (show 0 + 0 ≤ 0 by omega)⟩) hI hA hexc (show 0 + 0 ≤ 0 by omega) (show 0 + 0 ≤ 0 by omega) (fun v40 w H locs h hI => ?_)
          refine lv_aload_n hx hb d_M_box_143 rfl (lv_at hl 1 rfl) ?_
          refine lv_iload hx hb d_M_box_144 (lv_at hl 0 rfl) ?_
          refine lv_iconst (v := 4) hx hb d_M_box_146 (by decide) ?_
          refine lv_lload hx hb d_M_box_147 (lv_at hl 7 rfl) ?_
          obtain ⟨q43, e44, h⟩ := gb h
          obtain ⟨u41, e42⟩ := gsome h
          refine gw_callV e42 h (gw_runV (As := [.int v19, .int 4, .long p6]) (rest := []) hx hb hml hown hT hK hZ hA hI (ci := 7) rfl e44 (m_M_tell l hst D g0 a0 v19 4 p6 w u41 e42) ce_M_tell wd_902 wd_19 ⟨by decide, by decide⟩ rfl rfl hl.1 rfl (lv_room (Nat.le_of_ble_eq_true rfl)) d_M_box_149 ⟨(show 0 + 0 ≤ 0 by omega), (show 0 + 0 ≤ 0 by omega)⟩) hI hA hexc (show 0 + 0 ≤ 0 by omega) (show 0 + 0 ≤ 0 by omega) (fun v45 w H locs h hI => ?_)
          refine lv_aload_n hx hb d_M_box_152 rfl (lv_at hl 1 rfl) ?_
          refine lv_iload hx hb d_M_box_153 (lv_at hl 0 rfl) ?_
          refine lv_iconst (v := 5) hx hb d_M_box_155 (by decide) ?_
          refine lv_lload hx hb d_M_box_156 (lv_at hl 8 rfl) ?_
          obtain ⟨q48, e49, h⟩ := gb h
          obtain ⟨u46, e47⟩ := gsome h
          refine gw_callV e47 h (gw_runV (As := [.int v19, .int 5, .long p7]) (rest := []) hx hb hml hown hT hK hZ hA hI (ci := 7) rfl e49 (m_M_tell l hst D g0 a0 v19 5 p7 w u46 e47) ce_M_tell wd_902 wd_19 ⟨by decide, by decide⟩ rfl rfl hl.1 rfl (lv_room (Nat.le_of_ble_eq_true rfl)) d_M_box_158 ⟨(show 0 + 0 ≤ 0 by omega), (show 0 + 0 ≤ 0 by omega)⟩) hI hA hexc (show 0 + 0 ≤ 0 by omega) (show 0 + 0 ≤ 0 by omega) (fun v50 w H locs h hI => ?_)
          refine lv_iconst (v := 1) hx hb d_M_box_161 (by decide) ?_
          obtain ⟨g51, h⟩ := gif h
          exact W.widen (show 0 ≤ 0 by omega) (show 0 ≤ 0 by omega) (hret g51 0 _ (Option.some.inj h).symm _ _ _ _ d_M_box_162 hI)
        · skip
          have h := git c20 h
          refine lv_iconst (v := 0) hx hb d_M_box_106 (by decide) ?_
          obtain ⟨g52, h⟩ := gif h
          exact W.widen (show 0 ≤ 0 by omega) (show 0 ≤ 0 by omega) (hret g52 0 _ (Option.some.inj h).symm _ _ _ _ d_M_box_107 hI)
      · skip
        have h := gie c14 h
        refine lv_iconst (v := 0) hx hb d_M_box_90 (by decide) ?_
        obtain ⟨g53, h⟩ := gif h
        exact W.widen (show 0 ≤ 0 by omega) (show 0 ≤ 0 by omega) (hret g53 0 _ (Option.some.inj h).symm _ _ _ _ d_M_box_91 hI)
    refine lv_if_ne (tgt := 70) hx hb d_M_box_63 (by decide) (fun c54 => ?_) (fun c54 => ?_)
    · skip
      have h := gie c54 h
      refine lv_iload hx hb d_M_box_70 (lv_at hl 0 rfl) ?_
      refine lv_if_eq (tgt := 79) hx hb d_M_box_72 (by decide) (fun c55 => ?_) (fun c55 => ?_)
      · skip
        have h := git c55 h
        refine lv_iconst (v := 2) hx hb d_M_box_79 (by decide) ?_
        exact hK80 _ w H locs ls h hI (lv_sub hl [1, 2, 3, 4, 5, 6, 7, 8] rfl)
      · skip
        have h := gie c55 h
        refine lv_iconst (v := 0) hx hb d_M_box_75 (by decide) ?_
        refine lv_goto (tgt := 80) hx hb d_M_box_76 (by decide) ?_
        exact hK80 _ w H locs ls h hI (lv_sub hl [1, 2, 3, 4, 5, 6, 7, 8] rfl)
    · skip
      have h := git c54 h
      refine lv_iconst (v := 1) hx hb d_M_box_66 (by decide) ?_
      refine lv_goto (tgt := 80) hx hb d_M_box_67 (by decide) ?_
      exact hK80 _ w H locs ls h hI (lv_sub hl [1, 2, 3, 4, 5, 6, 7, 8] rfl)
  obtain ⟨K54, eK54, h⟩ := gj h
  have hK54 : ∀ (w : gW) (H : Heap) (locs : List Loc) (ls : Array Slot), K54 w = some r → gI D s A w H locs → lv_has ls 16 [(0, .ref a0), (1, .int p1), (2, .long p2), (4, .long p3), (6, .long p4), (8, .long p5), (10, .long p6), (12, .long p7)] → W p l e rm_M_box s m args below meth c H locs 0 0 Q (F0 m 54 ls []) := by
    intro w H locs ls h hI hl
    have h := gk1 eK54 h
    refine lv_iconst (v := 0) hx hb d_M_box_54 (by decide) ?_
    exact hK55 _ w H locs ls h hI (lv_sub hl [0, 1, 2, 3, 4, 5, 6, 7] rfl)
  refine lv_if_eq (tgt := 54) hx hb d_M_box_6 (by decide) (fun c56 => ?_) (fun c56 => ?_)
  · skip
    have h := git c56 h
    exact hK54 w H locs ls h hI (lv_sub hl [0, 1, 2, 3, 4, 5, 6, 7] rfl)
  · skip
    have h := gie c56 h
    refine lv_lload hx hb d_M_box_9 (lv_at hl 5 rfl) ?_
    obtain ⟨u57, e58⟩ := gsome h
    refine gw_callI e58 h (gw_runS (As := [.long p5]) (rest := []) hx hb hml hown hT hK hZ hA hI (m_M_isLong l hst D g0 p5 w u57 e58) ce_M_isLong wd_888 ⟨by decide, by decide⟩ rfl rfl hl.1 rfl (lv_room (Nat.le_of_ble_eq_true rfl)) d_M_box_11 ⟨(show 0 + 0 ≤ 0 by omega), (show 0 + 0 ≤ 0 by omega)⟩) hI hA hexc (show 0 + 0 ≤ 0 by omega) (show 0 + 0 ≤ 0 by omega) (fun v59 w H locs h hI => ?_)
    refine lv_if_eq (tgt := 54) hx hb d_M_box_14 (by decide) (fun c60 => ?_) (fun c60 => ?_)
    · skip
      have h := git c60 h
      exact hK54 w H locs ls h hI (lv_sub hl [0, 1, 2, 3, 4, 5, 6, 7] rfl)
    · skip
      have h := gie c60 h
      refine lv_lload hx hb d_M_box_17 (lv_at hl 6 rfl) ?_
      obtain ⟨u61, e62⟩ := gsome h
      refine gw_callI e62 h (gw_runS (As := [.long p6]) (rest := []) hx hb hml hown hT hK hZ hA hI (m_M_isLong l hst D g0 p6 w u61 e62) ce_M_isLong wd_888 ⟨by decide, by decide⟩ rfl rfl hl.1 rfl (lv_room (Nat.le_of_ble_eq_true rfl)) d_M_box_19 ⟨(show 0 + 0 ≤ 0 by omega), (show 0 + 0 ≤ 0 by omega)⟩) hI hA hexc (show 0 + 0 ≤ 0 by omega) (show 0 + 0 ≤ 0 by omega) (fun v63 w H locs h hI => ?_)
      refine lv_if_eq (tgt := 54) hx hb d_M_box_22 (by decide) (fun c64 => ?_) (fun c64 => ?_)
      · skip
        have h := git c64 h
        exact hK54 w H locs ls h hI (lv_sub hl [0, 1, 2, 3, 4, 5, 6, 7] rfl)
      · skip
        have h := gie c64 h
        refine lv_lload_n hx hb d_M_box_25 rfl (lv_at hl 2 rfl) ?_
        refine lv_lload hx hb d_M_box_26 (lv_at hl 5 rfl) ?_
        refine lv_ladd hx hb d_M_box_28 ?_
        refine lv_lload hx hb d_M_box_29 (lv_at hl 3 rfl) ?_
        refine lv_lload hx hb d_M_box_31 (lv_at hl 6 rfl) ?_
        refine lv_ladd hx hb d_M_box_33 ?_
        obtain ⟨u65, e66⟩ := gsome h
        refine gw_callI e66 h (gw_runS (As := [.long (p2 + p5), .long (p3 + p6)]) (rest := []) hx hb hml hown hT hK hZ hA hI (m_M_isPlace l hst D g0 (p2 + p5) (p3 + p6) w u65 e66) ce_M_isPlace wd_880 ⟨by decide, by decide⟩ rfl rfl hl.1 rfl (lv_room (Nat.le_of_ble_eq_true rfl)) d_M_box_34 ⟨(show 0 + 0 ≤ 0 by omega), (show 0 + 0 ≤ 0 by omega)⟩) hI hA hexc (show 0 + 0 ≤ 0 by omega) (show 0 + 0 ≤ 0 by omega) (fun v67 w H locs h hI => ?_)
        refine lv_if_eq (tgt := 54) hx hb d_M_box_37 (by decide) (fun c68 => ?_) (fun c68 => ?_)
        · skip
          have h := git c68 h
          exact hK54 w H locs ls h hI (lv_sub hl [0, 1, 2, 3, 4, 5, 6, 7] rfl)
        · skip
          have h := gie c68 h
          refine lv_lload hx hb d_M_box_40 (lv_at hl 4 rfl) ?_
          refine lv_lload hx hb d_M_box_42 (lv_at hl 7 rfl) ?_
          obtain ⟨u69, e70⟩ := gsome h
          refine gw_callI e70 h (gw_runS (As := [.long p4, .long p7]) (rest := []) hx hb hml hown hT hK hZ hA hI (m_M_isUpright l hst D g0 p4 p7 w u69 e70) ce_M_isUpright wd_891 ⟨by decide, by decide⟩ rfl rfl hl.1 rfl (lv_room (Nat.le_of_ble_eq_true rfl)) d_M_box_44 ⟨(show 0 + 0 ≤ 0 by omega), (show 0 + 0 ≤ 0 by omega)⟩) hI hA hexc (show 0 + 0 ≤ 0 by omega) (show 0 + 0 ≤ 0 by omega) (fun v71 w H locs h hI => ?_)
          refine lv_if_eq (tgt := 54) hx hb d_M_box_47 (by decide) (fun c72 => ?_) (fun c72 => ?_)
          · skip
            have h := git c72 h
            exact hK54 w H locs ls h hI (lv_sub hl [0, 1, 2, 3, 4, 5, 6, 7] rfl)
          · skip
            have h := gie c72 h
            refine lv_iconst (v := 1) hx hb d_M_box_50 (by decide) ?_
            refine lv_goto (tgt := 55) hx hb d_M_box_51 (by decide) ?_
            exact hK55 _ w H locs ls h hI (lv_sub hl [0, 1, 2, 3, 4, 5, 6, 7] rfl)

abbrev b_B_corner : ByteArray := prog_1_method_5_code
def y_B_corner : MethodName := ⟨"BodySolids", "corner", "(JJ)Z"⟩
theorem d_B_corner_0 : decode b_B_corner 0 = .ok (.lload_n 1, 1) := by decide +kernel
theorem d_B_corner_1 : decode b_B_corner 1 = .ok (.lload_n 3, 1) := by decide +kernel
theorem d_B_corner_2 : decode b_B_corner 2 = .ok (.invokestatic 83, 3) := by decide +kernel
theorem d_B_corner_5 : decode b_B_corner 5 = .ok (.aload_n 0, 1) := by decide +kernel
theorem d_B_corner_6 : decode b_B_corner 6 = .ok (.getfield 44, 3) := by decide +kernel
theorem d_B_corner_9 : decode b_B_corner 9 = .ok (.bipush 8, 2) := by decide +kernel
theorem d_B_corner_11 : decode b_B_corner 11 = .ok (.if_icmp .lt 5, 3) := by decide +kernel
theorem d_B_corner_14 : decode b_B_corner 14 = .ok (.iconst 0, 1) := by decide +kernel
theorem d_B_corner_15 : decode b_B_corner 15 = .ok (.ireturn, 1) := by decide +kernel
theorem d_B_corner_16 : decode b_B_corner 16 = .ok (.aload_n 0, 1) := by decide +kernel
theorem d_B_corner_17 : decode b_B_corner 17 = .ok (.getfield 37, 3) := by decide +kernel
theorem d_B_corner_20 : decode b_B_corner 20 = .ok (.aload_n 0, 1) := by decide +kernel
theorem d_B_corner_21 : decode b_B_corner 21 = .ok (.getfield 44, 3) := by decide +kernel
theorem d_B_corner_24 : decode b_B_corner 24 = .ok (.lload_n 1, 1) := by decide +kernel
theorem d_B_corner_25 : decode b_B_corner 25 = .ok (.lastore, 1) := by decide +kernel
theorem d_B_corner_26 : decode b_B_corner 26 = .ok (.aload_n 0, 1) := by decide +kernel
theorem d_B_corner_27 : decode b_B_corner 27 = .ok (.getfield 41, 3) := by decide +kernel
theorem d_B_corner_30 : decode b_B_corner 30 = .ok (.aload_n 0, 1) := by decide +kernel
theorem d_B_corner_31 : decode b_B_corner 31 = .ok (.getfield 44, 3) := by decide +kernel
theorem d_B_corner_34 : decode b_B_corner 34 = .ok (.lload_n 3, 1) := by decide +kernel
theorem d_B_corner_35 : decode b_B_corner 35 = .ok (.lastore, 1) := by decide +kernel
theorem d_B_corner_36 : decode b_B_corner 36 = .ok (.aload_n 0, 1) := by decide +kernel
theorem d_B_corner_37 : decode b_B_corner 37 = .ok (.dup, 1) := by decide +kernel
theorem d_B_corner_38 : decode b_B_corner 38 = .ok (.getfield 44, 3) := by decide +kernel
theorem d_B_corner_41 : decode b_B_corner 41 = .ok (.iconst 1, 1) := by decide +kernel
theorem d_B_corner_42 : decode b_B_corner 42 = .ok (.iadd, 1) := by decide +kernel
theorem d_B_corner_43 : decode b_B_corner 43 = .ok (.putfield 44, 3) := by decide +kernel
theorem d_B_corner_46 : decode b_B_corner 46 = .ok (.iconst 1, 1) := by decide +kernel
theorem d_B_corner_47 : decode b_B_corner 47 = .ok (.ireturn, 1) := by decide +kernel
abbrev rm_B_corner : Room := { frames := 9, cells := 2, slots := 12, locals := 138 }
theorem ce_B_corner : gCe y_B_corner (.code y_B_corner b_B_corner 5 (some .boolean)) 5 2 false := gCe.code wd_583 wd_49 wd_581 (by decide) (by decide +kernel)
def f_B_corner (g0 : gG) (a0 : Nat) (p1 : Int64) (p2 : Int64) (w : gW) : gX Int32 := gbind (f_B_needPlace g0 p1 p2 w) fun v3 w => (gfI w a0 0 6).bind fun v4 => if v4 < 8 then ((gfA w a0 0 4).bind fun v7 => (gfI w a0 0 6).bind fun v9 => (gsJ w v7 v9 p1).bind fun w => (gfA w a0 0 5).bind fun v12 => (gfI w a0 0 6).bind fun v14 => (gsJ w v12 v14 p2).bind fun w => (gfI w a0 0 6).bind fun v17 => (gp w a0 0 6 (.int (v17 + 1))).bind fun w => gguard ((1 : Int32) = 0 ∨ (1 : Int32) = 1) (some (.inr 1, w))) else (gguard ((0 : Int32) = 0 ∨ (0 : Int32) = 1) (some (.inr 0, w)))
set_option maxHeartbeats 4000000 in
set_option maxRecDepth 100000 in
theorem m_B_corner (l : Launch) (hst : l.stackTraces = false) (D : gD) (g0 : gG) (a0 : Nat) (p1 : Int64) (p2 : Int64) (w : gW) (r : (String ⊕ Int32) × gW) (h : f_B_corner g0 a0 p1 p2 w = some r) : gMet l y_B_corner (.code y_B_corner b_B_corner 5 (some .boolean)) rm_B_corner D g0 [.ref a0, .long p1, .long p2] w (goI r) := by
  refine gw_ofZ (by decide +kernel) (Nat.le_of_ble_eq_true rfl) ?_
  intro p e s m below meth c ls args A Q hx hb hml hown hlocks hin hnt hT hK hZ hA hret hexc hthr hI hl
  obtain ⟨H, hH⟩ : ∃ H, H = s.heap := ⟨_, rfl⟩
  rw [← hH] at hI ⊢
  obtain ⟨locs, hlocs⟩ : ∃ z : List Loc, z = [] := ⟨_, rfl⟩
  rw [← hlocs] at hI ⊢
  have hl : lv_has ls 5 [(0, .ref a0), (1, .long p1), (3, .long p2)] := hl
  unfold f_B_corner at h
  refine lv_lload_n hx hb d_B_corner_0 rfl (lv_at hl 1 rfl) ?_
  refine lv_lload_n hx hb d_B_corner_1 rfl (lv_at hl 2 rfl) ?_
  obtain ⟨u1, e2⟩ := gsome h
  refine gw_callV e2 h (gw_runS (As := [.long p1, .long p2]) (rest := []) hx hb hml hown hT hK hZ hA hI (m_B_needPlace l hst D g0 p1 p2 w u1 e2) ce_B_needPlace wd_511 ⟨by decide, by decide⟩ rfl rfl hl.1 rfl (lv_room (Nat.le_of_ble_eq_true rfl)) d_B_corner_2 ⟨(show 0 + 2 ≤ 2 by omega), (show 0 + 12 ≤ 12 by omega)⟩) hI hA hexc (show 0 + 2 ≤ 2 by omega) (show 0 + 12 ≤ 12 by omega) (fun v3 w H locs h hI => ?_)
  refine W.widen (k := 2) (n := 12) (show 0 + 2 ≤ 2 by omega) (show 0 + 12 ≤ 12 by omega) ?_
  refine lv_aload_n hx hb d_B_corner_5 rfl (lv_at hl 0 rfl) ?_
  obtain ⟨v4, e5, h⟩ := gb h
  refine gw_getI hx hb hT hown hK hI (ci := 0) rfl i_0 6 (by decide) wd_195 (fun _ h9 => h9) e5 d_B_corner_6 ?_
  refine lv_bipush (v := 8) hx hb d_B_corner_9 (by decide) ?_
  refine lv_icmp_lt (tgt := 16) hx hb d_B_corner_11 (by decide) (fun c6 => ?_) (fun c6 => ?_)
  · skip
    have h := git c6 h
    refine lv_aload_n hx hb d_B_corner_16 rfl (lv_at hl 0 rfl) ?_
    obtain ⟨v7, e8, h⟩ := gb h
    refine gw_getA hx hb hT hown hK hI (ci := 0) rfl i_0 4 (by decide) wd_193 (fun _ h9 => h9) e8 d_B_corner_17 ?_
    refine lv_aload_n hx hb d_B_corner_20 rfl (lv_at hl 0 rfl) ?_
    obtain ⟨v9, e10, h⟩ := gb h
    refine gw_getI hx hb hT hown hK hI (ci := 0) rfl i_0 6 (by decide) wd_195 (fun _ h9 => h9) e10 d_B_corner_21 ?_
    refine lv_lload_n hx hb d_B_corner_24 rfl (lv_at hl 1 rfl) ?_
    obtain ⟨w, e11, h⟩ := gb h
    refine gw_astJ hx hb hK hI e11 d_B_corner_25 (fun H locs hI => ?_)
    refine lv_aload_n hx hb d_B_corner_26 rfl (lv_at hl 0 rfl) ?_
    obtain ⟨v12, e13, h⟩ := gb h
    refine gw_getA hx hb hT hown hK hI (ci := 0) rfl i_0 5 (by decide) wd_194 (fun _ h9 => h9) e13 d_B_corner_27 ?_
    refine lv_aload_n hx hb d_B_corner_30 rfl (lv_at hl 0 rfl) ?_
    obtain ⟨v14, e15, h⟩ := gb h
    refine gw_getI hx hb hT hown hK hI (ci := 0) rfl i_0 6 (by decide) wd_195 (fun _ h9 => h9) e15 d_B_corner_31 ?_
    refine lv_lload_n hx hb d_B_corner_34 rfl (lv_at hl 2 rfl) ?_
    obtain ⟨w, e16, h⟩ := gb h
    refine gw_astJ hx hb hK hI e16 d_B_corner_35 (fun H locs hI => ?_)
    refine lv_aload_n hx hb d_B_corner_36 rfl (lv_at hl 0 rfl) ?_
    refine lv_dup hx hb d_B_corner_37 rfl ?_
    obtain ⟨v17, e18, h⟩ := gb h
    refine gw_getI hx hb hT hown hK hI (ci := 0) rfl i_0 6 (by decide) wd_195 (fun _ h9 => h9) e18 d_B_corner_38 ?_
    refine lv_iconst (v := 1) hx hb d_B_corner_41 (by decide) ?_
    refine lv_iadd hx hb d_B_corner_42 ?_
    obtain ⟨w, e19, h⟩ := gb h
    refine gw_put hx hb hT hown hK hI (ci := 0) rfl i_0 t_0 t_0_ok n_0 6 (by decide) wd_195 (fun _ h9 => h9) rfl (ty := .int) (by decide +kernel) rfl rfl e19 d_B_corner_43 (fun H locs hI => ?_)
    refine lv_iconst (v := 1) hx hb d_B_corner_46 (by decide) ?_
    obtain ⟨g20, h⟩ := gif h
    exact W.widen (show 2 ≤ 2 by omega) (show 12 ≤ 12 by omega) (hret g20 0 _ (Option.some.inj h).symm _ _ _ _ d_B_corner_47 hI)
  · skip
    have h := gie c6 h
    refine lv_iconst (v := 0) hx hb d_B_corner_14 (by decide) ?_
    obtain ⟨g21, h⟩ := gif h
    exact W.widen (show 2 ≤ 2 by omega) (show 12 ≤ 12 by omega) (hret g21 0 _ (Option.some.inj h).symm _ _ _ _ d_B_corner_15 hI)
