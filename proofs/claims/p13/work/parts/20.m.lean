abbrev b_W_cell : ByteArray := method_2_code
def y_W_cell : MethodName := ⟨"BodySolidsLaw", "cell", "([II)I"⟩
theorem d_W_cell_0 : decode b_W_cell 0 = .ok (.iload_n 1, 1) := by decide +kernel
theorem d_W_cell_1 : decode b_W_cell 1 = .ok (.aload_n 0, 1) := by decide +kernel
theorem d_W_cell_2 : decode b_W_cell 2 = .ok (.arraylength, 1) := by decide +kernel
theorem d_W_cell_3 : decode b_W_cell 3 = .ok (.if_icmp .ge 9, 3) := by decide +kernel
theorem d_W_cell_6 : decode b_W_cell 6 = .ok (.aload_n 0, 1) := by decide +kernel
theorem d_W_cell_7 : decode b_W_cell 7 = .ok (.iload_n 1, 1) := by decide +kernel
theorem d_W_cell_8 : decode b_W_cell 8 = .ok (.iaload, 1) := by decide +kernel
theorem d_W_cell_9 : decode b_W_cell 9 = .ok (.goto 4, 3) := by decide +kernel
theorem d_W_cell_12 : decode b_W_cell 12 = .ok (.iconst 0, 1) := by decide +kernel
theorem d_W_cell_13 : decode b_W_cell 13 = .ok (.ireturn, 1) := by decide +kernel
abbrev rm_W_cell : Room := { frames := 0, cells := 0, slots := 0, locals := 0 }
theorem ce_W_cell : gCe y_W_cell (.code y_W_cell b_W_cell 2 (some .int)) 2 2 true := gCe.code wd_426 wd_48 wd_425 (by decide) (by decide +kernel)
def f_W_cell (g0 : gG) (a0 : Nat) (p1 : Int32) (w : gW) : gX Int32 := (gal w a0).bind fun v1 => gjoin (fun K13 => if v1 ≤ p1 then (K13 0 w) else ((gaI w a0 p1).bind fun v5 => K13 v5 w)) (fun (y3 : Int32) (w : gW) => some (.inr y3, w))
set_option maxHeartbeats 4000000 in
set_option maxRecDepth 100000 in
theorem m_W_cell (l : Launch) (hst : l.stackTraces = false) (D : gD) (g0 : gG) (a0 : Nat) (p1 : Int32) (w : gW) (r : (String ⊕ Int32) × gW) (h : f_W_cell g0 a0 p1 w = some r) : gMet l y_W_cell (.code y_W_cell b_W_cell 2 (some .int)) rm_W_cell D g0 [.ref a0, .int p1] w (goI r) := by
  refine gw_ofI (by decide +kernel) (Nat.le_of_ble_eq_true rfl) ?_
  intro p e s m below meth c ls args A Q hx hb hml hown hlocks hin hnt hT hK hZ hA hret hexc hthr hI hl
  obtain ⟨H, hH⟩ : ∃ H, H = s.heap := ⟨_, rfl⟩
  rw [← hH] at hI ⊢
  obtain ⟨locs, hlocs⟩ : ∃ z : List Loc, z = [] := ⟨_, rfl⟩
  rw [← hlocs] at hI ⊢
  have hl : lv_has ls 2 [(0, .ref a0), (1, .int p1)] := hl
  unfold f_W_cell at h
  refine lv_iload_n hx hb d_W_cell_0 rfl (lv_at hl 1 rfl) ?_
  refine lv_aload_n hx hb d_W_cell_1 rfl (lv_at hl 0 rfl) ?_
  obtain ⟨v1, e2, h⟩ := gb h
  refine gw_alen hx hb hK hI e2 d_W_cell_2 ?_
  obtain ⟨K13, eK13, h⟩ := gj h
  have hK13 : ∀ (y3 : Int32) (w : gW) (H : Heap) (locs : List Loc) (ls : Array Slot), K13 y3 w = some r → gI D s A w H locs → lv_has ls 2 [] → W p l e rm_W_cell s m args below meth c H locs 0 0 Q (F0 m 13 ls [.int y3]) := by
    intro y3 w H locs ls h hI hl
    have h := gk2 eK13 h
    exact W.widen (show 0 ≤ 0 by omega) (show 0 ≤ 0 by omega) (hret _ _ (Option.some.inj h).symm _ _ _ _ d_W_cell_13 hI)
  refine lv_icmp_ge (tgt := 12) hx hb d_W_cell_3 (by decide) (fun c4 => ?_) (fun c4 => ?_)
  · skip
    have h := git c4 h
    refine lv_iconst (v := 0) hx hb d_W_cell_12 (by decide) ?_
    exact hK13 _ w H locs ls h hI (lv_sub hl [] rfl)
  · skip
    have h := gie c4 h
    refine lv_aload_n hx hb d_W_cell_6 rfl (lv_at hl 0 rfl) ?_
    refine lv_iload_n hx hb d_W_cell_7 rfl (lv_at hl 1 rfl) ?_
    obtain ⟨v5, e6, h⟩ := gb h
    refine gw_aldI hx hb hK hI e6 d_W_cell_8 ?_
    refine lv_goto (tgt := 13) hx hb d_W_cell_9 (by decide) ?_
    exact hK13 _ w H locs ls h hI (lv_sub hl [] rfl)

abbrev b_Ma_min2 : ByteArray := prog_17_method_70_code
def y_Ma_min2 : MethodName := ⟨"java/lang/Math", "min", "(JJ)J"⟩
theorem d_Ma_min2_0 : decode b_Ma_min2 0 = .ok (.lload_n 0, 1) := by decide +kernel
theorem d_Ma_min2_1 : decode b_Ma_min2 1 = .ok (.lload_n 2, 1) := by decide +kernel
theorem d_Ma_min2_2 : decode b_Ma_min2 2 = .ok (.lcmp, 1) := by decide +kernel
theorem d_Ma_min2_3 : decode b_Ma_min2 3 = .ok (.ifCond .gt 7, 3) := by decide +kernel
theorem d_Ma_min2_6 : decode b_Ma_min2 6 = .ok (.lload_n 0, 1) := by decide +kernel
theorem d_Ma_min2_7 : decode b_Ma_min2 7 = .ok (.goto 4, 3) := by decide +kernel
theorem d_Ma_min2_10 : decode b_Ma_min2 10 = .ok (.lload_n 2, 1) := by decide +kernel
theorem d_Ma_min2_11 : decode b_Ma_min2 11 = .ok (.lreturn, 1) := by decide +kernel
abbrev rm_Ma_min2 : Room := { frames := 0, cells := 0, slots := 0, locals := 0 }
theorem ce_Ma_min2 : gCe y_Ma_min2 (.code y_Ma_min2 b_Ma_min2 4 (some .long)) 4 2 true := gCe.code wd_83 wd_50 wd_82 (by decide) (by decide +kernel)
def f_Ma_min2 (g0 : gG) (p0 : Int64) (p1 : Int64) (w : gW) : gX Int64 := gjoin (fun K11 => if p1 < p0 then (K11 p1 w) else (K11 p0 w)) (fun (y1 : Int64) (w : gW) => some (.inr y1, w))
set_option maxHeartbeats 4000000 in
set_option maxRecDepth 100000 in
theorem m_Ma_min2 (l : Launch) (hst : l.stackTraces = false) (D : gD) (g0 : gG) (p0 : Int64) (p1 : Int64) (w : gW) (r : (String ⊕ Int64) × gW) (h : f_Ma_min2 g0 p0 p1 w = some r) : gMet l y_Ma_min2 (.code y_Ma_min2 b_Ma_min2 4 (some .long)) rm_Ma_min2 D g0 [.long p0, .long p1] w (goJ r) := by
  refine gw_ofJ (by decide +kernel) (Nat.le_of_ble_eq_true rfl) ?_
  intro p e s m below meth c ls args A Q hx hb hml hown hlocks hin hnt hT hK hZ hA hret hexc hthr hI hl
  obtain ⟨H, hH⟩ : ∃ H, H = s.heap := ⟨_, rfl⟩
  rw [← hH] at hI ⊢
  obtain ⟨locs, hlocs⟩ : ∃ z : List Loc, z = [] := ⟨_, rfl⟩
  rw [← hlocs] at hI ⊢
  have hl : lv_has ls 4 [(0, .long p0), (2, .long p1)] := hl
  unfold f_Ma_min2 at h
  refine lv_lload_n hx hb d_Ma_min2_0 rfl (lv_at hl 0 rfl) ?_
  refine lv_lload_n hx hb d_Ma_min2_1 rfl (lv_at hl 1 rfl) ?_
  refine W.lcmp hx hb d_Ma_min2_2 ?_
  obtain ⟨K11, eK11, h⟩ := gj h
  have hK11 : ∀ (y1 : Int64) (w : gW) (H : Heap) (locs : List Loc) (ls : Array Slot), K11 y1 w = some r → gI D s A w H locs → lv_has ls 4 [] → W p l e rm_Ma_min2 s m args below meth c H locs 0 0 Q (F0 m 11 ls [.long y1]) := by
    intro y1 w H locs ls h hI hl
    have h := gk2 eK11 h
    exact W.widen (show 0 ≤ 0 by omega) (show 0 ≤ 0 by omega) (hret _ _ (Option.some.inj h).symm _ _ _ _ d_Ma_min2_11 hI)
  refine lv_if_gt (tgt := 10) hx hb d_Ma_min2_3 (by decide) (fun c2 => ?_) (fun c2 => ?_)
  · have c2 := (lg_cmp_gt _ _).mp c2
    have h := git c2 h
    refine lv_lload_n hx hb d_Ma_min2_10 rfl (lv_at hl 1 rfl) ?_
    exact hK11 _ w H locs ls h hI (lv_sub hl [] rfl)
  · have c2 := mt (lg_cmp_gt _ _).mpr c2
    have h := gie c2 h
    refine lv_lload_n hx hb d_Ma_min2_6 rfl (lv_at hl 0 rfl) ?_
    refine lv_goto (tgt := 11) hx hb d_Ma_min2_7 (by decide) ?_
    exact hK11 _ w H locs ls h hI (lv_sub hl [] rfl)

abbrev b_Ma_max2 : ByteArray := prog_17_method_66_code
def y_Ma_max2 : MethodName := ⟨"java/lang/Math", "max", "(JJ)J"⟩
theorem d_Ma_max2_0 : decode b_Ma_max2 0 = .ok (.lload_n 0, 1) := by decide +kernel
theorem d_Ma_max2_1 : decode b_Ma_max2 1 = .ok (.lload_n 2, 1) := by decide +kernel
theorem d_Ma_max2_2 : decode b_Ma_max2 2 = .ok (.lcmp, 1) := by decide +kernel
theorem d_Ma_max2_3 : decode b_Ma_max2 3 = .ok (.ifCond .lt 7, 3) := by decide +kernel
theorem d_Ma_max2_6 : decode b_Ma_max2 6 = .ok (.lload_n 0, 1) := by decide +kernel
theorem d_Ma_max2_7 : decode b_Ma_max2 7 = .ok (.goto 4, 3) := by decide +kernel
theorem d_Ma_max2_10 : decode b_Ma_max2 10 = .ok (.lload_n 2, 1) := by decide +kernel
theorem d_Ma_max2_11 : decode b_Ma_max2 11 = .ok (.lreturn, 1) := by decide +kernel
abbrev rm_Ma_max2 : Room := { frames := 0, cells := 0, slots := 0, locals := 0 }
theorem ce_Ma_max2 : gCe y_Ma_max2 (.code y_Ma_max2 b_Ma_max2 4 (some .long)) 4 2 true := gCe.code wd_86 wd_50 wd_85 (by decide) (by decide +kernel)
def f_Ma_max2 (g0 : gG) (p0 : Int64) (p1 : Int64) (w : gW) : gX Int64 := gjoin (fun K11 => if p0 < p1 then (K11 p1 w) else (K11 p0 w)) (fun (y1 : Int64) (w : gW) => some (.inr y1, w))
set_option maxHeartbeats 4000000 in
set_option maxRecDepth 100000 in
theorem m_Ma_max2 (l : Launch) (hst : l.stackTraces = false) (D : gD) (g0 : gG) (p0 : Int64) (p1 : Int64) (w : gW) (r : (String ⊕ Int64) × gW) (h : f_Ma_max2 g0 p0 p1 w = some r) : gMet l y_Ma_max2 (.code y_Ma_max2 b_Ma_max2 4 (some .long)) rm_Ma_max2 D g0 [.long p0, .long p1] w (goJ r) := by
  refine gw_ofJ (by decide +kernel) (Nat.le_of_ble_eq_true rfl) ?_
  intro p e s m below meth c ls args A Q hx hb hml hown hlocks hin hnt hT hK hZ hA hret hexc hthr hI hl
  obtain ⟨H, hH⟩ : ∃ H, H = s.heap := ⟨_, rfl⟩
  rw [← hH] at hI ⊢
  obtain ⟨locs, hlocs⟩ : ∃ z : List Loc, z = [] := ⟨_, rfl⟩
  rw [← hlocs] at hI ⊢
  have hl : lv_has ls 4 [(0, .long p0), (2, .long p1)] := hl
  unfold f_Ma_max2 at h
  refine lv_lload_n hx hb d_Ma_max2_0 rfl (lv_at hl 0 rfl) ?_
  refine lv_lload_n hx hb d_Ma_max2_1 rfl (lv_at hl 1 rfl) ?_
  refine W.lcmp hx hb d_Ma_max2_2 ?_
  obtain ⟨K11, eK11, h⟩ := gj h
  have hK11 : ∀ (y1 : Int64) (w : gW) (H : Heap) (locs : List Loc) (ls : Array Slot), K11 y1 w = some r → gI D s A w H locs → lv_has ls 4 [] → W p l e rm_Ma_max2 s m args below meth c H locs 0 0 Q (F0 m 11 ls [.long y1]) := by
    intro y1 w H locs ls h hI hl
    have h := gk2 eK11 h
    exact W.widen (show 0 ≤ 0 by omega) (show 0 ≤ 0 by omega) (hret _ _ (Option.some.inj h).symm _ _ _ _ d_Ma_max2_11 hI)
  refine lv_if_lt (tgt := 10) hx hb d_Ma_max2_3 (by decide) (fun c2 => ?_) (fun c2 => ?_)
  · have c2 := (lg_cmp_lt _ _).mp c2
    have h := git c2 h
    refine lv_lload_n hx hb d_Ma_max2_10 rfl (lv_at hl 1 rfl) ?_
    exact hK11 _ w H locs ls h hI (lv_sub hl [] rfl)
  · have c2 := mt (lg_cmp_lt _ _).mpr c2
    have h := gie c2 h
    refine lv_lload_n hx hb d_Ma_max2_6 rfl (lv_at hl 0 rfl) ?_
    refine lv_goto (tgt := 11) hx hb d_Ma_max2_7 (by decide) ?_
    exact hK11 _ w H locs ls h hI (lv_sub hl [] rfl)

abbrev b_AbC_init : ByteArray := prog_22_method_1_code
def y_AbC_init : MethodName := ⟨"java/util/AbstractCollection", "<init>", "()V"⟩
theorem d_AbC_init_0 : decode b_AbC_init 0 = .ok (.aload_n 0, 1) := by decide +kernel
theorem d_AbC_init_1 : decode b_AbC_init 1 = .ok (.invokespecial 1, 3) := by decide +kernel
theorem d_AbC_init_4 : decode b_AbC_init 4 = .ok (.return_, 1) := by decide +kernel
abbrev rm_AbC_init : Room := { frames := 1, cells := 0, slots := 0, locals := 22 }
theorem ce_AbC_init : gCe y_AbC_init (.code y_AbC_init b_AbC_init 1 none) 1 0 false := gCe.code wd_97 wd_51 wd_96 (by decide) (by decide +kernel)
def f_AbC_init (g0 : gG) (a0 : Nat) (w : gW) : gX Unit := some (.inr (), w)
set_option maxHeartbeats 4000000 in
set_option maxRecDepth 100000 in
theorem m_AbC_init (l : Launch) (hst : l.stackTraces = false) (D : gD) (g0 : gG) (a0 : Nat) (w : gW) (r : (String ⊕ Unit) × gW) (h : f_AbC_init g0 a0 w = some r) : gMet l y_AbC_init (.code y_AbC_init b_AbC_init 1 none) rm_AbC_init D g0 [.ref a0] w (goV r) := by
  refine gw_ofV (by decide +kernel) (Nat.le_of_ble_eq_true rfl) ?_
  intro p e s m below meth c ls args A Q hx hb hml hown hlocks hin hnt hT hK hZ hA hret hexc hthr hI hl
  obtain ⟨H, hH⟩ : ∃ H, H = s.heap := ⟨_, rfl⟩
  rw [← hH] at hI ⊢
  obtain ⟨locs, hlocs⟩ : ∃ z : List Loc, z = [] := ⟨_, rfl⟩
  rw [← hlocs] at hI ⊢
  have hl : lv_has ls 1 [(0, .ref a0)] := hl
  unfold f_AbC_init at h
  refine lv_aload_n hx hb d_AbC_init_0 rfl (lv_at hl 0 rfl) ?_
  refine W.objInit hx hb hown (hT _ wd_98 args) (hT _ wd_78 args) (hT _ wd_79 args) rfl (by rw [hml]; exact hl.1) rfl d_AbC_init_1 (Nat.le_of_ble_eq_true rfl) (Nat.le_of_ble_eq_true rfl) ?_
  refine W.eq (g2 := F0 m 4 ls []) rfl ?_
  exact W.widen (show 0 ≤ 0 by omega) (show 0 ≤ 0 by omega) (hret _ _ (Option.some.inj h).symm _ _ _ _ d_AbC_init_4 hI)

abbrev b_AbL_init : ByteArray := prog_23_method_1_code
def y_AbL_init : MethodName := ⟨"java/util/AbstractList", "<init>", "()V"⟩
theorem d_AbL_init_0 : decode b_AbL_init 0 = .ok (.aload_n 0, 1) := by decide +kernel
theorem d_AbL_init_1 : decode b_AbL_init 1 = .ok (.invokespecial 1, 3) := by decide +kernel
theorem d_AbL_init_4 : decode b_AbL_init 4 = .ok (.aload_n 0, 1) := by decide +kernel
theorem d_AbL_init_5 : decode b_AbL_init 5 = .ok (.iconst 0, 1) := by decide +kernel
theorem d_AbL_init_6 : decode b_AbL_init 6 = .ok (.putfield 7, 3) := by decide +kernel
theorem d_AbL_init_9 : decode b_AbL_init 9 = .ok (.return_, 1) := by decide +kernel
abbrev rm_AbL_init : Room := { frames := 2, cells := 0, slots := 0, locals := 42 }
theorem ce_AbL_init : gCe y_AbL_init (.code y_AbL_init b_AbL_init 1 none) 1 0 false := gCe.code wd_94 wd_52 wd_93 (by decide) (by decide +kernel)
def f_AbL_init (g0 : gG) (a0 : Nat) (w : gW) : gX Unit := gbind (f_AbC_init g0 a0 w) fun v3 w => (gp w a0 1 2 (.int 0)).bind fun w => some (.inr (), w)
set_option maxHeartbeats 4000000 in
set_option maxRecDepth 100000 in
theorem m_AbL_init (l : Launch) (hst : l.stackTraces = false) (D : gD) (g0 : gG) (a0 : Nat) (w : gW) (r : (String ⊕ Unit) × gW) (h : f_AbL_init g0 a0 w = some r) : gMet l y_AbL_init (.code y_AbL_init b_AbL_init 1 none) rm_AbL_init D g0 [.ref a0] w (goV r) := by
  refine gw_ofV (by decide +kernel) (Nat.le_of_ble_eq_true rfl) ?_
  intro p e s m below meth c ls args A Q hx hb hml hown hlocks hin hnt hT hK hZ hA hret hexc hthr hI hl
  obtain ⟨H, hH⟩ : ∃ H, H = s.heap := ⟨_, rfl⟩
  rw [← hH] at hI ⊢
  obtain ⟨locs, hlocs⟩ : ∃ z : List Loc, z = [] := ⟨_, rfl⟩
  rw [← hlocs] at hI ⊢
  have hl : lv_has ls 1 [(0, .ref a0)] := hl
  unfold f_AbL_init at h
  refine lv_aload_n hx hb d_AbL_init_0 rfl (lv_at hl 0 rfl) ?_
  obtain ⟨u1, e2⟩ := gsome h
  refine gw_callV e2 h (gw_runI (As := []) (rest := []) hx hb hml hown hT hK hZ hA hI (m_AbC_init l hst D g0 a0 w u1 e2) ce_AbC_init wd_95 rfl ⟨by decide, by decide⟩ rfl rfl hl.1 rfl (lv_room (Nat.le_of_ble_eq_true rfl)) d_AbL_init_1 ⟨(show 0 + 0 ≤ 0 by omega), (show 0 + 0 ≤ 0 by omega)⟩) hI hA hexc (show 0 + 0 ≤ 0 by omega) (show 0 + 0 ≤ 0 by omega) (fun v3 w H locs h hI => ?_)
  refine lv_aload_n hx hb d_AbL_init_4 rfl (lv_at hl 0 rfl) ?_
  refine lv_iconst (v := 0) hx hb d_AbL_init_5 (by decide) ?_
  obtain ⟨w, e4, h⟩ := gb h
  refine gw_put hx hb hT hown hK hI (ci := 1) rfl i_1 t_1 t_1_ok n_1 2 (by decide) wd_103 (fun _ h9 => h9) rfl (ty := .int) (by decide +kernel) rfl rfl e4 d_AbL_init_6 (fun H locs hI => ?_)
  exact W.widen (show 0 ≤ 0 by omega) (show 0 ≤ 0 by omega) (hret _ _ (Option.some.inj h).symm _ _ _ _ d_AbL_init_9 hI)

abbrev b_AL_init : ByteArray := prog_24_method_2_code
def y_AL_init : MethodName := ⟨"java/util/ArrayList", "<init>", "()V"⟩
theorem d_AL_init_0 : decode b_AL_init 0 = .ok (.aload_n 0, 1) := by decide +kernel
theorem d_AL_init_1 : decode b_AL_init 1 = .ok (.invokespecial 1, 3) := by decide +kernel
theorem d_AL_init_4 : decode b_AL_init 4 = .ok (.aload_n 0, 1) := by decide +kernel
theorem d_AL_init_5 : decode b_AL_init 5 = .ok (.getstatic 39, 3) := by decide +kernel
theorem d_AL_init_8 : decode b_AL_init 8 = .ok (.putfield 9, 3) := by decide +kernel
theorem d_AL_init_11 : decode b_AL_init 11 = .ok (.return_, 1) := by decide +kernel
abbrev rm_AL_init : Room := { frames := 3, cells := 0, slots := 0, locals := 62 }
theorem ce_AL_init : gCe y_AL_init (.code y_AL_init b_AL_init 1 none) 1 0 false := gCe.code wd_91 wd_53 wd_90 (by decide) (by decide +kernel)
def f_AL_init (g0 : gG) (a0 : Nat) (w : gW) : gX Unit := gbind (f_AbL_init g0 a0 w) fun v3 w => (gp w a0 1 0 (.ref (g0.1))).bind fun w => some (.inr (), w)
set_option maxHeartbeats 4000000 in
set_option maxRecDepth 100000 in
theorem m_AL_init (l : Launch) (hst : l.stackTraces = false) (D : gD) (g0 : gG) (a0 : Nat) (w : gW) (r : (String ⊕ Unit) × gW) (h : f_AL_init g0 a0 w = some r) : gMet l y_AL_init (.code y_AL_init b_AL_init 1 none) rm_AL_init D g0 [.ref a0] w (goV r) := by
  refine gw_ofV (by decide +kernel) (Nat.le_of_ble_eq_true rfl) ?_
  intro p e s m below meth c ls args A Q hx hb hml hown hlocks hin hnt hT hK hZ hA hret hexc hthr hI hl
  obtain ⟨H, hH⟩ : ∃ H, H = s.heap := ⟨_, rfl⟩
  rw [← hH] at hI ⊢
  obtain ⟨locs, hlocs⟩ : ∃ z : List Loc, z = [] := ⟨_, rfl⟩
  rw [← hlocs] at hI ⊢
  have hl : lv_has ls 1 [(0, .ref a0)] := hl
  unfold f_AL_init at h
  refine lv_aload_n hx hb d_AL_init_0 rfl (lv_at hl 0 rfl) ?_
  obtain ⟨u1, e2⟩ := gsome h
  refine gw_callV e2 h (gw_runI (As := []) (rest := []) hx hb hml hown hT hK hZ hA hI (m_AbL_init l hst D g0 a0 w u1 e2) ce_AbL_init wd_92 rfl ⟨by decide, by decide⟩ rfl rfl hl.1 rfl (lv_room (Nat.le_of_ble_eq_true rfl)) d_AL_init_1 ⟨(show 0 + 0 ≤ 0 by omega), (show 0 + 0 ≤ 0 by omega)⟩) hI hA hexc (show 0 + 0 ≤ 0 by omega) (show 0 + 0 ≤ 0 by omega) (fun v3 w H locs h hI => ?_)
  refine lv_aload_n hx hb d_AL_init_4 rfl (lv_at hl 0 rfl) ?_
  refine gw_gets hx hb hT hown hZ hI wd_99 d_AL_init_5 ?_
  obtain ⟨w, e4, h⟩ := gb h
  refine gw_put hx hb hT hown hK hI (ci := 1) rfl i_1 t_1 t_1_ok n_1 0 (by decide) wd_101 (fun _ h9 => h9) rfl (ty := .array (.object "java/lang/Object")) (by decide +kernel) rfl rfl e4 d_AL_init_8 (fun H locs hI => ?_)
  exact W.widen (show 0 ≤ 0 by omega) (show 0 ≤ 0 by omega) (hret _ _ (Option.some.inj h).symm _ _ _ _ d_AL_init_11 hI)

abbrev b_Ar_fill : ByteArray := prog_25_method_103_code
def y_Ar_fill : MethodName := ⟨"java/util/Arrays", "fill", "([II)V"⟩
theorem d_Ar_fill_0 : decode b_Ar_fill 0 = .ok (.iconst 0, 1) := by decide +kernel
theorem d_Ar_fill_1 : decode b_Ar_fill 1 = .ok (.istore_n 2, 1) := by decide +kernel
theorem d_Ar_fill_2 : decode b_Ar_fill 2 = .ok (.aload_n 0, 1) := by decide +kernel
theorem d_Ar_fill_3 : decode b_Ar_fill 3 = .ok (.arraylength, 1) := by decide +kernel
theorem d_Ar_fill_4 : decode b_Ar_fill 4 = .ok (.istore_n 3, 1) := by decide +kernel
theorem d_Ar_fill_5 : decode b_Ar_fill 5 = .ok (.iload_n 2, 1) := by decide +kernel
theorem d_Ar_fill_6 : decode b_Ar_fill 6 = .ok (.iload_n 3, 1) := by decide +kernel
theorem d_Ar_fill_7 : decode b_Ar_fill 7 = .ok (.if_icmp .ge 13, 3) := by decide +kernel
theorem d_Ar_fill_10 : decode b_Ar_fill 10 = .ok (.aload_n 0, 1) := by decide +kernel
theorem d_Ar_fill_11 : decode b_Ar_fill 11 = .ok (.iload_n 2, 1) := by decide +kernel
theorem d_Ar_fill_12 : decode b_Ar_fill 12 = .ok (.iload_n 1, 1) := by decide +kernel
theorem d_Ar_fill_13 : decode b_Ar_fill 13 = .ok (.iastore, 1) := by decide +kernel
theorem d_Ar_fill_14 : decode b_Ar_fill 14 = .ok (.iinc 2 1, 3) := by decide +kernel
theorem d_Ar_fill_17 : decode b_Ar_fill 17 = .ok (.goto (-12), 3) := by decide +kernel
theorem d_Ar_fill_20 : decode b_Ar_fill 20 = .ok (.return_, 1) := by decide +kernel
abbrev rm_Ar_fill : Room := { frames := 0, cells := 0, slots := 0, locals := 0 }
theorem ce_Ar_fill : gCe y_Ar_fill (.code y_Ar_fill b_Ar_fill 4 none) 4 2 true := gCe.code wd_115 wd_54 wd_114 (by decide) (by decide +kernel)
def f_Ar_fill_L5 (g0 : gG) (c0 : Nat) (c1 : Int32) (c3 : Int32) (K20 : gW → gX Unit) : Nat → Int32 → gW → gX Unit
  | 0, _, _ => none
  | n + 1, z2, w => if c3 ≤ z2 then (K20 w) else ((gsI w c0 z2 c1).bind fun w => f_Ar_fill_L5 g0 c0 c1 c3 K20 n (z2 + 1) w)
def f_Ar_fill (g0 : gG) (a0 : Nat) (p1 : Int32) (w : gW) : gX Unit := (gal w a0).bind fun v1 => gjoin (fun K20 => f_Ar_fill_L5 g0 a0 p1 v1 K20 1000 0 w) (fun (w : gW) => some (.inr (), w))
set_option maxHeartbeats 4000000 in
set_option maxRecDepth 100000 in
theorem m_Ar_fill (l : Launch) (hst : l.stackTraces = false) (D : gD) (g0 : gG) (a0 : Nat) (p1 : Int32) (w : gW) (r : (String ⊕ Unit) × gW) (h : f_Ar_fill g0 a0 p1 w = some r) : gMet l y_Ar_fill (.code y_Ar_fill b_Ar_fill 4 none) rm_Ar_fill D g0 [.ref a0, .int p1] w (goV r) := by
  refine gw_ofV (by decide +kernel) (Nat.le_of_ble_eq_true rfl) ?_
  intro p e s m below meth c ls args A Q hx hb hml hown hlocks hin hnt hT hK hZ hA hret hexc hthr hI hl
  obtain ⟨H, hH⟩ : ∃ H, H = s.heap := ⟨_, rfl⟩
  rw [← hH] at hI ⊢
  obtain ⟨locs, hlocs⟩ : ∃ z : List Loc, z = [] := ⟨_, rfl⟩
  rw [← hlocs] at hI ⊢
  have hl : lv_has ls 4 [(0, .ref a0), (1, .int p1)] := hl
  unfold f_Ar_fill at h
  refine lv_iconst (v := 0) hx hb d_Ar_fill_0 (by decide) ?_
  refine lv_istore_n (lv' := [(2, .int 0), (0, .ref a0), (1, .int p1)]) hx hb d_Ar_fill_1 rfl hl (by decide) rfl (fun ls hl => ?_)
  refine lv_aload_n hx hb d_Ar_fill_2 rfl (lv_at hl 1 rfl) ?_
  obtain ⟨v1, e2, h⟩ := gb h
  refine gw_alen hx hb hK hI e2 d_Ar_fill_3 ?_
  refine lv_istore_n (lv' := [(3, .int v1), (2, .int 0), (0, .ref a0), (1, .int p1)]) hx hb d_Ar_fill_4 rfl hl (by decide) rfl (fun ls hl => ?_)
  obtain ⟨K20, eK20, h⟩ := gj h
  have hK20 : ∀ (w : gW) (H : Heap) (locs : List Loc) (ls : Array Slot), K20 w = some r → gI D s A w H locs → lv_has ls 4 [] → W p l e rm_Ar_fill s m args below meth c H locs 0 0 Q (F0 m 20 ls []) := by
    intro w H locs ls h hI hl
    have h := gk1 eK20 h
    exact W.widen (show 0 ≤ 0 by omega) (show 0 ≤ 0 by omega) (hret _ _ (Option.some.inj h).symm _ _ _ _ d_Ar_fill_20 hI)
  have hL5 : ∀ (n : Nat), ∀ (z3 : Int32) (w : gW) (H : Heap) (locs : List Loc) (ls : Array Slot), f_Ar_fill_L5 g0 a0 p1 v1 K20 n z3 w = some r → gI D s A w H locs → lv_has ls 4 [(0, .ref a0), (1, .int p1), (3, .int v1), (2, .int z3)] → W p l e rm_Ar_fill s m args below meth c H locs 0 0 Q (F0 m 5 ls []) := by
    intro n
    induction n with
    | zero => intro z3 w H locs ls h hI hl; exact absurd h (by simp [f_Ar_fill_L5])
    | succ n ih =>
      intro z3 w H locs ls h hI hl
      rw [f_Ar_fill_L5] at h
      refine lv_iload_n hx hb d_Ar_fill_5 rfl (lv_at hl 3 rfl) ?_
      refine lv_iload_n hx hb d_Ar_fill_6 rfl (lv_at hl 2 rfl) ?_
      refine lv_icmp_ge (tgt := 20) hx hb d_Ar_fill_7 (by decide) (fun c4 => ?_) (fun c4 => ?_)
      · skip
        have h := git c4 h
        exact hK20 w H locs ls h hI (lv_sub hl [] rfl)
      · skip
        have h := gie c4 h
        refine lv_aload_n hx hb d_Ar_fill_10 rfl (lv_at hl 0 rfl) ?_
        refine lv_iload_n hx hb d_Ar_fill_11 rfl (lv_at hl 3 rfl) ?_
        refine lv_iload_n hx hb d_Ar_fill_12 rfl (lv_at hl 1 rfl) ?_
        obtain ⟨w, e5, h⟩ := gb h
        refine gw_astI hx hb hK hI e5 d_Ar_fill_13 (fun H locs hI => ?_)
        refine lv_iinc (v := z3 + 1) (lv' := [(2, .int (z3 + 1)), (0, .ref a0), (1, .int p1), (3, .int v1)]) hx hb d_Ar_fill_14 hl (k := 3) rfl rfl (by decide) rfl (fun ls hl => ?_)
        refine lv_goto (tgt := 5) hx hb d_Ar_fill_17 (by decide) ?_
        exact ih _ w H locs ls h hI (lv_sub hl [1, 2, 3, 0] rfl)
  exact hL5 1000 _ w H locs ls h hI (lv_sub hl [2, 3, 0, 1] rfl)

abbrev b_So_init : ByteArray := prog_7_method_1_code
def y_So_init : MethodName := ⟨"BodySolids$Solid", "<init>", "()V"⟩
theorem d_So_init_0 : decode b_So_init 0 = .ok (.aload_n 0, 1) := by decide +kernel
theorem d_So_init_1 : decode b_So_init 1 = .ok (.invokespecial 3, 3) := by decide +kernel
theorem d_So_init_4 : decode b_So_init 4 = .ok (.aload_n 0, 1) := by decide +kernel
theorem d_So_init_5 : decode b_So_init 5 = .ok (.bipush 8, 2) := by decide +kernel
theorem d_So_init_7 : decode b_So_init 7 = .ok (.newarray .long, 2) := by decide +kernel
theorem d_So_init_9 : decode b_So_init 9 = .ok (.putfield 9, 3) := by decide +kernel
theorem d_So_init_12 : decode b_So_init 12 = .ok (.aload_n 0, 1) := by decide +kernel
theorem d_So_init_13 : decode b_So_init 13 = .ok (.bipush 8, 2) := by decide +kernel
theorem d_So_init_15 : decode b_So_init 15 = .ok (.newarray .long, 2) := by decide +kernel
theorem d_So_init_17 : decode b_So_init 17 = .ok (.putfield 15, 3) := by decide +kernel
theorem d_So_init_20 : decode b_So_init 20 = .ok (.return_, 1) := by decide +kernel
abbrev rm_So_init : Room := { frames := 1, cells := 2, slots := 16, locals := 22 }
theorem ce_So_init : gCe y_So_init (.code y_So_init b_So_init 1 none) 1 0 false := gCe.code wd_127 wd_56 wd_126 (by decide) (by decide +kernel)
def f_So_init (g0 : gG) (a0 : Nat) (w : gW) : gX Unit := gb2f (gna w 1 8 8 (.long 0)) fun o1 w => (gp w a0 3 3 (.ref o1)).bind fun w => gb2f (gna w 1 8 8 (.long 0)) fun o4 w => (gp w a0 3 4 (.ref o4)).bind fun w => some (.inr (), w)
set_option maxHeartbeats 4000000 in
set_option maxRecDepth 100000 in
theorem m_So_init (l : Launch) (hst : l.stackTraces = false) (D : gD) (g0 : gG) (a0 : Nat) (w : gW) (r : (String ⊕ Unit) × gW) (h : f_So_init g0 a0 w = some r) : gMet l y_So_init (.code y_So_init b_So_init 1 none) rm_So_init D g0 [.ref a0] w (goV r) := by
  refine gw_ofV (by decide +kernel) (Nat.le_of_ble_eq_true rfl) ?_
  intro p e s m below meth c ls args A Q hx hb hml hown hlocks hin hnt hT hK hZ hA hret hexc hthr hI hl
  obtain ⟨H, hH⟩ : ∃ H, H = s.heap := ⟨_, rfl⟩
  rw [← hH] at hI ⊢
  obtain ⟨locs, hlocs⟩ : ∃ z : List Loc, z = [] := ⟨_, rfl⟩
  rw [← hlocs] at hI ⊢
  have hl : lv_has ls 1 [(0, .ref a0)] := hl
  unfold f_So_init at h
  refine lv_aload_n hx hb d_So_init_0 rfl (lv_at hl 0 rfl) ?_
  refine W.objInit hx hb hown (hT _ wd_128 args) (hT _ wd_78 args) (hT _ wd_79 args) rfl (by rw [hml]; exact hl.1) rfl d_So_init_1 (Nat.le_of_ble_eq_true rfl) (Nat.le_of_ble_eq_true rfl) ?_
  refine W.eq (g2 := F0 m 4 ls []) rfl ?_
  refine lv_aload_n hx hb d_So_init_4 rfl (lv_at hl 0 rfl) ?_
  refine lv_bipush (v := 8) hx hb d_So_init_5 (by decide) ?_
  obtain ⟨o1, w, e2, h⟩ := gb2 h
  refine gw_newa (atype := .long) (ty := .long) (M := 8) hx hb hK hI hA (hT _ wd_178 args) rfl (k := 1) rfl (fun h9 => h9) e2 (show 0 + 1 ≤ 2 by omega) (show 0 + 8 ≤ 16 by omega) (show 8 * 8 ≤ 536870912 by omega) d_So_init_7 (fun H hI => ?_)
  refine W.widen (k := 1) (n := 8) (show 0 + 1 ≤ 1 by omega) (show 0 + 8 ≤ 8 by omega) ?_
  obtain ⟨w, e3, h⟩ := gb h
  refine gw_putF hx hb hT hown hK hI (ci := 3) rfl i_3 t_3 t_3_ok n_3 3 (by decide) wd_135 (fun _ h9 => h9) rfl hin rfl (ty := .array .long) (by decide +kernel) rfl rfl e3 d_So_init_9 (fun H locs hI => ?_)
  refine lv_aload_n hx hb d_So_init_12 rfl (lv_at hl 0 rfl) ?_
  refine lv_bipush (v := 8) hx hb d_So_init_13 (by decide) ?_
  obtain ⟨o4, w, e5, h⟩ := gb2 h
  refine gw_newa (atype := .long) (ty := .long) (M := 8) hx hb hK hI hA (hT _ wd_178 args) rfl (k := 1) rfl (fun h9 => h9) e5 (show 1 + 1 ≤ 2 by omega) (show 8 + 8 ≤ 16 by omega) (show 8 * 8 ≤ 536870912 by omega) d_So_init_15 (fun H hI => ?_)
  refine W.widen (k := 2) (n := 16) (show 1 + 1 ≤ 2 by omega) (show 8 + 8 ≤ 16 by omega) ?_
  obtain ⟨w, e6, h⟩ := gb h
  refine gw_putF hx hb hT hown hK hI (ci := 3) rfl i_3 t_3 t_3_ok n_3 4 (by decide) wd_137 (fun _ h9 => h9) rfl hin rfl (ty := .array .long) (by decide +kernel) rfl rfl e6 d_So_init_17 (fun H locs hI => ?_)
  exact W.widen (show 2 ≤ 2 by omega) (show 16 ≤ 16 by omega) (hret _ _ (Option.some.inj h).symm _ _ _ _ d_So_init_20 hI)

abbrev b_La_init : ByteArray := prog_4_method_1_code
def y_La_init : MethodName := ⟨"BodySolids$Layout", "<init>", "()V"⟩
theorem d_La_init_0 : decode b_La_init 0 = .ok (.aload_n 0, 1) := by decide +kernel
theorem d_La_init_1 : decode b_La_init 1 = .ok (.invokespecial 3, 3) := by decide +kernel
theorem d_La_init_4 : decode b_La_init 4 = .ok (.aload_n 0, 1) := by decide +kernel
theorem d_La_init_5 : decode b_La_init 5 = .ok (.bipush 12, 2) := by decide +kernel
theorem d_La_init_7 : decode b_La_init 7 = .ok (.anewarray 9, 3) := by decide +kernel
theorem d_La_init_10 : decode b_La_init 10 = .ok (.putfield 11, 3) := by decide +kernel
theorem d_La_init_13 : decode b_La_init 13 = .ok (.aload_n 0, 1) := by decide +kernel
theorem d_La_init_14 : decode b_La_init 14 = .ok (.iconst 0, 1) := by decide +kernel
theorem d_La_init_15 : decode b_La_init 15 = .ok (.putfield 17, 3) := by decide +kernel
theorem d_La_init_18 : decode b_La_init 18 = .ok (.iconst 0, 1) := by decide +kernel
theorem d_La_init_19 : decode b_La_init 19 = .ok (.istore_n 1, 1) := by decide +kernel
theorem d_La_init_20 : decode b_La_init 20 = .ok (.iload_n 1, 1) := by decide +kernel
theorem d_La_init_21 : decode b_La_init 21 = .ok (.bipush 12, 2) := by decide +kernel
theorem d_La_init_23 : decode b_La_init 23 = .ok (.if_icmp .ge 22, 3) := by decide +kernel
theorem d_La_init_26 : decode b_La_init 26 = .ok (.aload_n 0, 1) := by decide +kernel
theorem d_La_init_27 : decode b_La_init 27 = .ok (.getfield 11, 3) := by decide +kernel
theorem d_La_init_30 : decode b_La_init 30 = .ok (.iload_n 1, 1) := by decide +kernel
theorem d_La_init_31 : decode b_La_init 31 = .ok (.new 9, 3) := by decide +kernel
theorem d_La_init_34 : decode b_La_init 34 = .ok (.dup, 1) := by decide +kernel
theorem d_La_init_35 : decode b_La_init 35 = .ok (.invokespecial 21, 3) := by decide +kernel
theorem d_La_init_38 : decode b_La_init 38 = .ok (.aastore, 1) := by decide +kernel
theorem d_La_init_39 : decode b_La_init 39 = .ok (.iinc 1 1, 3) := by decide +kernel
theorem d_La_init_42 : decode b_La_init 42 = .ok (.goto (-22), 3) := by decide +kernel
theorem d_La_init_45 : decode b_La_init 45 = .ok (.return_, 1) := by decide +kernel
abbrev rm_La_init : Room := { frames := 2, cells := 40, slots := 376, locals := 42 }
theorem ce_La_init : gCe y_La_init (.code y_La_init b_La_init 2 none) 2 0 false := gCe.code wd_120 wd_55 wd_119 (by decide) (by decide +kernel)
def f_La_init_L20 (g0 : gG) (c0 : Nat) (K45 : gW → gX Unit) : Nat → Int32 → gW → gX Unit
  | 0, _, _ => none
  | n + 1, z1, w => if 12 ≤ z1 then (K45 w) else ((gfA w c0 2 0).bind fun v6 => gb2f (gnw w 3 [.int 0, .long 0, .long 0, .null, .null, .int 0, .long 0, .long 0, .long 0, .long 0, .long 0, .long 0]) fun o8 w => gbind (f_So_init g0 o8 w) fun v12 w => (gsA w v6 z1 o8).bind fun w => f_La_init_L20 g0 c0 K45 n (z1 + 1) w)
def f_La_init (g0 : gG) (a0 : Nat) (w : gW) : gX Unit := gb2f (gna w 2 12 12 .null) fun o1 w => (gp w a0 2 0 (.ref o1)).bind fun w => (gp w a0 2 1 (.int 0)).bind fun w => gjoin (fun K45 => f_La_init_L20 g0 a0 K45 13 0 w) (fun (w : gW) => some (.inr (), w))
set_option maxHeartbeats 4000000 in
set_option maxRecDepth 100000 in
theorem m_La_init (l : Launch) (hst : l.stackTraces = false) (D : gD) (g0 : gG) (a0 : Nat) (w : gW) (r : (String ⊕ Unit) × gW) (h : f_La_init g0 a0 w = some r) : gMet l y_La_init (.code y_La_init b_La_init 2 none) rm_La_init D g0 [.ref a0] w (goV r) := by
  refine gw_ofV (by decide +kernel) (Nat.le_of_ble_eq_true rfl) ?_
  intro p e s m below meth c ls args A Q hx hb hml hown hlocks hin hnt hT hK hZ hA hret hexc hthr hI hl
  obtain ⟨H, hH⟩ : ∃ H, H = s.heap := ⟨_, rfl⟩
  rw [← hH] at hI ⊢
  obtain ⟨locs, hlocs⟩ : ∃ z : List Loc, z = [] := ⟨_, rfl⟩
  rw [← hlocs] at hI ⊢
  have hl : lv_has ls 2 [(0, .ref a0)] := hl
  unfold f_La_init at h
  refine lv_aload_n hx hb d_La_init_0 rfl (lv_at hl 0 rfl) ?_
  refine W.objInit hx hb hown (hT _ wd_121 args) (hT _ wd_78 args) (hT _ wd_79 args) rfl (by rw [hml]; exact hl.1) rfl d_La_init_1 (Nat.le_of_ble_eq_true rfl) (Nat.le_of_ble_eq_true rfl) ?_
  refine W.eq (g2 := F0 m 4 ls []) rfl ?_
  refine lv_aload_n hx hb d_La_init_4 rfl (lv_at hl 0 rfl) ?_
  refine lv_bipush (v := 12) hx hb d_La_init_5 (by decide) ?_
  obtain ⟨o1, w, e2, h⟩ := gb2 h
  refine gw_anew (M := 12) hx hb hown hK hI hA (hT _ wd_122 args) (hT _ wd_123 args) (k := 2) rfl e2 (show 0 + 1 ≤ 40 by omega) (show 0 + 12 ≤ 376 by omega) (show 12 * 4 ≤ 536870912 by omega) d_La_init_7 (fun H hI => ?_)
  refine W.widen (k := 1) (n := 12) (show 0 + 1 ≤ 1 by omega) (show 0 + 12 ≤ 12 by omega) ?_
  obtain ⟨w, e3, h⟩ := gb h
  refine gw_putF hx hb hT hown hK hI (ci := 2) rfl i_2 t_2 t_2_ok n_2 0 (by decide) wd_180 (fun _ h9 => h9) rfl hin rfl (ty := .array (.object "BodySolids$Solid")) (by decide +kernel) rfl rfl e3 d_La_init_10 (fun H locs hI => ?_)
  refine lv_aload_n hx hb d_La_init_13 rfl (lv_at hl 0 rfl) ?_
  refine lv_iconst (v := 0) hx hb d_La_init_14 (by decide) ?_
  obtain ⟨w, e4, h⟩ := gb h
  refine gw_put hx hb hT hown hK hI (ci := 2) rfl i_2 t_2 t_2_ok n_2 1 (by decide) wd_182 (fun _ h9 => h9) rfl (ty := .int) (by decide +kernel) rfl rfl e4 d_La_init_15 (fun H locs hI => ?_)
  refine lv_iconst (v := 0) hx hb d_La_init_18 (by decide) ?_
  refine lv_istore_n (lv' := [(1, .int 0), (0, .ref a0)]) hx hb d_La_init_19 rfl hl (by decide) rfl (fun ls hl => ?_)
  obtain ⟨K45, eK45, h⟩ := gj h
  have hK45 : ∀ (w : gW) (H : Heap) (locs : List Loc) (ls : Array Slot), K45 w = some r → gI D s A w H locs → lv_has ls 2 [] → W p l e rm_La_init s m args below meth c H locs 40 376 Q (F0 m 45 ls []) := by
    intro w H locs ls h hI hl
    have h := gk1 eK45 h
    exact W.widen (show 40 ≤ 40 by omega) (show 376 ≤ 376 by omega) (hret _ _ (Option.some.inj h).symm _ _ _ _ d_La_init_45 hI)
  have hL20 : ∀ (n : Nat), n ≤ 13 → ∀ (z5 : Int32) (w : gW) (H : Heap) (locs : List Loc) (ls : Array Slot), f_La_init_L20 g0 a0 K45 n z5 w = some r → gI D s A w H locs → lv_has ls 2 [(0, .ref a0), (1, .int z5)] → W p l e rm_La_init s m args below meth c H locs (40 - n * 3) (376 - n * 28) Q (F0 m 20 ls []) := by
    intro n
    induction n with
    | zero => intro hn z5 w H locs ls h hI hl; exact absurd h (by simp [f_La_init_L20])
    | succ n ih =>
      intro hn z5 w H locs ls h hI hl
      rw [f_La_init_L20] at h
      refine lv_iload_n hx hb d_La_init_20 rfl (lv_at hl 1 rfl) ?_
      refine lv_bipush (v := 12) hx hb d_La_init_21 (by decide) ?_
      refine lv_icmp_ge (tgt := 45) hx hb d_La_init_23 (by decide) (fun c6 => ?_) (fun c6 => ?_)
      · skip
        have h := git c6 h
        refine W.widen (k := 40) (n := 376) (show (40 - (n + 1) * 3) ≤ 40 by omega) (show (376 - (n + 1) * 28) ≤ 376 by omega) ?_
        exact hK45 w H locs ls h hI (lv_sub hl [] rfl)
      · skip
        have h := gie c6 h
        refine lv_aload_n hx hb d_La_init_26 rfl (lv_at hl 0 rfl) ?_
        obtain ⟨v7, e8, h⟩ := gb h
        refine gw_getA hx hb hT hown hK hI (ci := 2) rfl i_2 0 (by decide) wd_180 (fun _ h9 => h9) e8 d_La_init_27 ?_
        refine lv_iload_n hx hb d_La_init_30 rfl (lv_at hl 1 rfl) ?_
        obtain ⟨o9, w, e10, h⟩ := gb2 h
        refine gw_new hx hb hT hown hK hI hA (ci := 3) rfl i_3 t_3 t_3_ok wd_122 wd_124 wd_56 (fs := [.int 0, .long 0, .long 0, .null, .null, .int 0, .long 0, .long 0, .long 0, .long 0, .long 0, .long 0]) df_3 e10 (show (40 - (n + 1) * 3) + 1 ≤ 40 by omega) (show (376 - (n + 1) * 28) + 12 ≤ 376 by omega) d_La_init_31 (fun H hI => ?_)
        refine W.widen (k := ((40 - (n + 1) * 3) + 1)) (n := ((376 - (n + 1) * 28) + 12)) (show (40 - (n + 1) * 3) + 1 ≤ ((40 - (n + 1) * 3) + 1) by omega) (show (376 - (n + 1) * 28) + 12 ≤ ((376 - (n + 1) * 28) + 12) by omega) ?_
        refine lv_dup hx hb d_La_init_34 rfl ?_
        obtain ⟨u11, e12⟩ := gsome h
        refine gw_callV e12 h (gw_runIN (As := []) (rest := [.ref o9, .int z5, .ref v7]) hx hb hml hown hT hK hZ hA hI (m_So_init l hst D g0 o9 w u11 e12) ce_So_init wd_125 rfl ⟨by decide, by decide⟩ rfl rfl hl.1 rfl (lv_room (Nat.le_of_ble_eq_true rfl)) d_La_init_35 ⟨(show ((40 - (n + 1) * 3) + 1) + 2 ≤ 40 by omega), (show ((376 - (n + 1) * 28) + 12) + 16 ≤ 376 by omega)⟩) hI hA hexc (show ((40 - (n + 1) * 3) + 1) + 2 ≤ 40 by omega) (show ((376 - (n + 1) * 28) + 12) + 16 ≤ 376 by omega) (fun v13 w H locs h hI => ?_)
        refine W.widen (k := ((40 - (n + 1) * 3) + 3)) (n := ((376 - (n + 1) * 28) + 28)) (show ((40 - (n + 1) * 3) + 1) + 2 ≤ ((40 - (n + 1) * 3) + 3) by omega) (show ((376 - (n + 1) * 28) + 12) + 16 ≤ ((376 - (n + 1) * 28) + 28) by omega) ?_
        obtain ⟨w, e14, h⟩ := gb h
        refine gw_astA hx hb hT hK hI e14 d_La_init_38 (fun H locs hI => ?_)
        refine lv_iinc (v := z5 + 1) (lv' := [(1, .int (z5 + 1)), (0, .ref a0)]) hx hb d_La_init_39 hl (k := 1) rfl rfl (by decide) rfl (fun ls hl => ?_)
        refine lv_goto (tgt := 20) hx hb d_La_init_42 (by decide) ?_
        refine W.widen (k := (40 - n * 3)) (n := (376 - n * 28)) (show ((40 - (n + 1) * 3) + 3) ≤ (40 - n * 3) by omega) (show ((376 - (n + 1) * 28) + 28) ≤ (376 - n * 28) by omega) ?_
        exact ih (by omega) _ w H locs ls h hI (lv_sub hl [1, 0] rfl)
  refine W.widen (k := (40 - 13 * 3)) (n := (376 - 13 * 28)) (show 1 ≤ (40 - 13 * 3) by omega) (show 12 ≤ (376 - 13 * 28) by omega) ?_
  exact hL20 13 (Nat.le_refl _) _ w H locs ls h hI (lv_sub hl [1, 0] rfl)

abbrev b_B_init : ByteArray := prog_1_method_1_code
def y_B_init : MethodName := ⟨"BodySolids", "<init>", "(J)V"⟩
theorem d_B_init_0 : decode b_B_init 0 = .ok (.aload_n 0, 1) := by decide +kernel
theorem d_B_init_1 : decode b_B_init 1 = .ok (.invokespecial 1, 3) := by decide +kernel
theorem d_B_init_4 : decode b_B_init 4 = .ok (.aload_n 0, 1) := by decide +kernel
theorem d_B_init_5 : decode b_B_init 5 = .ok (.lconst 0, 1) := by decide +kernel
theorem d_B_init_6 : decode b_B_init 6 = .ok (.ldc2_w 9, 3) := by decide +kernel
theorem d_B_init_9 : decode b_B_init 9 = .ok (.lload_n 1, 1) := by decide +kernel
theorem d_B_init_10 : decode b_B_init 10 = .ok (.invokestatic 11, 3) := by decide +kernel
theorem d_B_init_13 : decode b_B_init 13 = .ok (.invokestatic 17, 3) := by decide +kernel
theorem d_B_init_16 : decode b_B_init 16 = .ok (.putfield 20, 3) := by decide +kernel
theorem d_B_init_19 : decode b_B_init 19 = .ok (.aload_n 0, 1) := by decide +kernel
theorem d_B_init_20 : decode b_B_init 20 = .ok (.new 24, 3) := by decide +kernel
theorem d_B_init_23 : decode b_B_init 23 = .ok (.dup, 1) := by decide +kernel
theorem d_B_init_24 : decode b_B_init 24 = .ok (.invokespecial 26, 3) := by decide +kernel
theorem d_B_init_27 : decode b_B_init 27 = .ok (.putfield 27, 3) := by decide +kernel
theorem d_B_init_30 : decode b_B_init 30 = .ok (.aload_n 0, 1) := by decide +kernel
theorem d_B_init_31 : decode b_B_init 31 = .ok (.new 24, 3) := by decide +kernel
theorem d_B_init_34 : decode b_B_init 34 = .ok (.dup, 1) := by decide +kernel
theorem d_B_init_35 : decode b_B_init 35 = .ok (.invokespecial 26, 3) := by decide +kernel
theorem d_B_init_38 : decode b_B_init 38 = .ok (.putfield 31, 3) := by decide +kernel
theorem d_B_init_41 : decode b_B_init 41 = .ok (.aload_n 0, 1) := by decide +kernel
theorem d_B_init_42 : decode b_B_init 42 = .ok (.new 24, 3) := by decide +kernel
theorem d_B_init_45 : decode b_B_init 45 = .ok (.dup, 1) := by decide +kernel
theorem d_B_init_46 : decode b_B_init 46 = .ok (.invokespecial 26, 3) := by decide +kernel
theorem d_B_init_49 : decode b_B_init 49 = .ok (.putfield 34, 3) := by decide +kernel
theorem d_B_init_52 : decode b_B_init 52 = .ok (.aload_n 0, 1) := by decide +kernel
theorem d_B_init_53 : decode b_B_init 53 = .ok (.bipush 8, 2) := by decide +kernel
theorem d_B_init_55 : decode b_B_init 55 = .ok (.newarray .long, 2) := by decide +kernel
theorem d_B_init_57 : decode b_B_init 57 = .ok (.putfield 37, 3) := by decide +kernel
theorem d_B_init_60 : decode b_B_init 60 = .ok (.aload_n 0, 1) := by decide +kernel
theorem d_B_init_61 : decode b_B_init 61 = .ok (.bipush 8, 2) := by decide +kernel
theorem d_B_init_63 : decode b_B_init 63 = .ok (.newarray .long, 2) := by decide +kernel
theorem d_B_init_65 : decode b_B_init 65 = .ok (.putfield 41, 3) := by decide +kernel
theorem d_B_init_68 : decode b_B_init 68 = .ok (.aload_n 0, 1) := by decide +kernel
theorem d_B_init_69 : decode b_B_init 69 = .ok (.iconst 0, 1) := by decide +kernel
theorem d_B_init_70 : decode b_B_init 70 = .ok (.putfield 44, 3) := by decide +kernel
theorem d_B_init_73 : decode b_B_init 73 = .ok (.aload_n 0, 1) := by decide +kernel
theorem d_B_init_74 : decode b_B_init 74 = .ok (.sipush 900, 3) := by decide +kernel
theorem d_B_init_77 : decode b_B_init 77 = .ok (.newarray .int, 2) := by decide +kernel
theorem d_B_init_79 : decode b_B_init 79 = .ok (.putfield 48, 3) := by decide +kernel
theorem d_B_init_82 : decode b_B_init 82 = .ok (.aload_n 0, 1) := by decide +kernel
theorem d_B_init_83 : decode b_B_init 83 = .ok (.getfield 48, 3) := by decide +kernel
theorem d_B_init_86 : decode b_B_init 86 = .ok (.iconst (-1), 1) := by decide +kernel
theorem d_B_init_87 : decode b_B_init 87 = .ok (.invokestatic 52, 3) := by decide +kernel
theorem d_B_init_90 : decode b_B_init 90 = .ok (.aload_n 0, 1) := by decide +kernel
theorem d_B_init_91 : decode b_B_init 91 = .ok (.new 58, 3) := by decide +kernel
theorem d_B_init_94 : decode b_B_init 94 = .ok (.dup, 1) := by decide +kernel
theorem d_B_init_95 : decode b_B_init 95 = .ok (.invokespecial 60, 3) := by decide +kernel
theorem d_B_init_98 : decode b_B_init 98 = .ok (.putfield 61, 3) := by decide +kernel
theorem d_B_init_101 : decode b_B_init 101 = .ok (.aload_n 0, 1) := by decide +kernel
theorem d_B_init_102 : decode b_B_init 102 = .ok (.new 58, 3) := by decide +kernel
theorem d_B_init_105 : decode b_B_init 105 = .ok (.dup, 1) := by decide +kernel
theorem d_B_init_106 : decode b_B_init 106 = .ok (.invokespecial 60, 3) := by decide +kernel
theorem d_B_init_109 : decode b_B_init 109 = .ok (.putfield 65, 3) := by decide +kernel
theorem d_B_init_112 : decode b_B_init 112 = .ok (.return_, 1) := by decide +kernel
abbrev rm_B_init : Room := { frames := 4, cells := 88, slots := 1681, locals := 82 }
theorem ce_B_init : gCe y_B_init (.code y_B_init b_B_init 3 none) 3 1 false := gCe.code wd_76 wd_49 wd_75 (by decide) (by decide +kernel)
def f_B_init (g0 : gG) (a0 : Nat) (p1 : Int64) (w : gW) : gX Unit := gbind (f_Ma_min2 g0 1000 p1 w) fun v3 w => gbind (f_Ma_max2 g0 0 v3 w) fun v6 w => (gp w a0 0 0 (.long v6)).bind fun w => gb2f (gnw w 1 [.null, .int 0, .int 0]) fun o8 w => gbind (f_AL_init g0 o8 w) fun v12 w => (gp w a0 0 1 (.ref o8)).bind fun w => gb2f (gnw w 1 [.null, .int 0, .int 0]) fun o14 w => gbind (f_AL_init g0 o14 w) fun v18 w => (gp w a0 0 2 (.ref o14)).bind fun w => gb2f (gnw w 1 [.null, .int 0, .int 0]) fun o20 w => gbind (f_AL_init g0 o20 w) fun v24 w => (gp w a0 0 3 (.ref o20)).bind fun w => gb2f (gna w 1 8 8 (.long 0)) fun o26 w => (gp w a0 0 4 (.ref o26)).bind fun w => gb2f (gna w 1 8 8 (.long 0)) fun o29 w => (gp w a0 0 5 (.ref o29)).bind fun w => (gp w a0 0 6 (.int 0)).bind fun w => gb2f (gna w 0 900 900 (.int 0)) fun o33 w => (gp w a0 0 7 (.ref o33)).bind fun w => (gfA w a0 0 7).bind fun v36 => gbind (f_Ar_fill g0 v36 (-1) w) fun v40 w => gb2f (gnw w 2 [.null, .int 0]) fun o41 w => gbind (f_La_init g0 o41 w) fun v45 w => (gp w a0 0 8 (.ref o41)).bind fun w => gb2f (gnw w 2 [.null, .int 0]) fun o47 w => gbind (f_La_init g0 o47 w) fun v51 w => (gp w a0 0 9 (.ref o47)).bind fun w => some (.inr (), w)
set_option maxHeartbeats 4000000 in
set_option maxRecDepth 100000 in
theorem m_B_init (l : Launch) (hst : l.stackTraces = false) (D : gD) (g0 : gG) (a0 : Nat) (p1 : Int64) (w : gW) (r : (String ⊕ Unit) × gW) (h : f_B_init g0 a0 p1 w = some r) : gMet l y_B_init (.code y_B_init b_B_init 3 none) rm_B_init D g0 [.ref a0, .long p1] w (goV r) := by
  refine gw_ofV (by decide +kernel) (Nat.le_of_ble_eq_true rfl) ?_
  intro p e s m below meth c ls args A Q hx hb hml hown hlocks hin hnt hT hK hZ hA hret hexc hthr hI hl
  obtain ⟨H, hH⟩ : ∃ H, H = s.heap := ⟨_, rfl⟩
  rw [← hH] at hI ⊢
  obtain ⟨locs, hlocs⟩ : ∃ z : List Loc, z = [] := ⟨_, rfl⟩
  rw [← hlocs] at hI ⊢
  have hl : lv_has ls 3 [(0, .ref a0), (1, .long p1)] := hl
  unfold f_B_init at h
  refine lv_aload_n hx hb d_B_init_0 rfl (lv_at hl 0 rfl) ?_
  refine W.objInit hx hb hown (hT _ wd_77 args) (hT _ wd_78 args) (hT _ wd_79 args) rfl (by rw [hml]; exact hl.1) rfl d_B_init_1 (Nat.le_of_ble_eq_true rfl) (Nat.le_of_ble_eq_true rfl) ?_
  refine W.eq (g2 := F0 m 4 ls []) rfl ?_
  refine lv_aload_n hx hb d_B_init_4 rfl (lv_at hl 0 rfl) ?_
  refine lv_lconst (v := 0) hx hb d_B_init_5 (by decide) ?_
  refine lv_ldc2 (v := 1000) hx hb hown (hT _ wd_80 args) d_B_init_6 ?_
  refine lv_lload_n hx hb d_B_init_9 rfl (lv_at hl 1 rfl) ?_
  obtain ⟨u1, e2⟩ := gsome h
  refine gw_callJ e2 h (gw_runS (As := [.long 1000, .long p1]) (rest := [.long 0, .ref a0]) hx hb hml hown hT hK hZ hA hI (m_Ma_min2 l hst D g0 1000 p1 w u1 e2) ce_Ma_min2 wd_81 ⟨by decide, by decide⟩ rfl rfl hl.1 rfl (lv_room (Nat.le_of_ble_eq_true rfl)) d_B_init_10 ⟨(show 0 + 0 ≤ 88 by omega), (show 0 + 0 ≤ 1681 by omega)⟩) hI hA hexc (show 0 + 0 ≤ 88 by omega) (show 0 + 0 ≤ 1681 by omega) (fun v3 w H locs h hI => ?_)
  obtain ⟨u4, e5⟩ := gsome h
  refine gw_callJ e5 h (gw_runS (As := [.long 0, .long v3]) (rest := [.ref a0]) hx hb hml hown hT hK hZ hA hI (m_Ma_max2 l hst D g0 0 v3 w u4 e5) ce_Ma_max2 wd_84 ⟨by decide, by decide⟩ rfl rfl hl.1 rfl (lv_room (Nat.le_of_ble_eq_true rfl)) d_B_init_13 ⟨(show 0 + 0 ≤ 88 by omega), (show 0 + 0 ≤ 1681 by omega)⟩) hI hA hexc (show 0 + 0 ≤ 88 by omega) (show 0 + 0 ≤ 1681 by omega) (fun v6 w H locs h hI => ?_)
  obtain ⟨w, e7, h⟩ := gb h
  refine gw_putF hx hb hT hown hK hI (ci := 0) rfl i_0 t_0 t_0_ok n_0 0 (by decide) wd_189 (fun _ h9 => h9) rfl hin rfl (ty := .long) (by decide +kernel) rfl rfl e7 d_B_init_16 (fun H locs hI => ?_)
  refine lv_aload_n hx hb d_B_init_19 rfl (lv_at hl 0 rfl) ?_
  obtain ⟨o8, w, e9, h⟩ := gb2 h
  refine gw_new hx hb hT hown hK hI hA (ci := 1) rfl i_1 t_1 t_1_ok wd_87 wd_88 wd_53 (fs := [.null, .int 0, .int 0]) df_1 e9 (show 0 + 1 ≤ 88 by omega) (show 0 + 3 ≤ 1681 by omega) d_B_init_20 (fun H hI => ?_)
  refine W.widen (k := 1) (n := 3) (show 0 + 1 ≤ 1 by omega) (show 0 + 3 ≤ 3 by omega) ?_
  refine lv_dup hx hb d_B_init_23 rfl ?_
  obtain ⟨u10, e11⟩ := gsome h
  refine gw_callV e11 h (gw_runI (As := []) (rest := [.ref o8, .ref a0]) hx hb hml hown hT hK hZ hA hI (m_AL_init l hst D g0 o8 w u10 e11) ce_AL_init wd_89 rfl ⟨by decide, by decide⟩ rfl rfl hl.1 rfl (lv_room (Nat.le_of_ble_eq_true rfl)) d_B_init_24 ⟨(show 1 + 0 ≤ 88 by omega), (show 3 + 0 ≤ 1681 by omega)⟩) hI hA hexc (show 1 + 0 ≤ 88 by omega) (show 3 + 0 ≤ 1681 by omega) (fun v12 w H locs h hI => ?_)
  obtain ⟨w, e13, h⟩ := gb h
  refine gw_putF hx hb hT hown hK hI (ci := 0) rfl i_0 t_0 t_0_ok n_0 1 (by decide) wd_190 (fun _ h9 => h9) rfl hin rfl (ty := .object "java/util/ArrayList") (by decide +kernel) rfl rfl e13 d_B_init_27 (fun H locs hI => ?_)
  refine lv_aload_n hx hb d_B_init_30 rfl (lv_at hl 0 rfl) ?_
  obtain ⟨o14, w, e15, h⟩ := gb2 h
  refine gw_new hx hb hT hown hK hI hA (ci := 1) rfl i_1 t_1 t_1_ok wd_87 wd_88 wd_53 (fs := [.null, .int 0, .int 0]) df_1 e15 (show 1 + 1 ≤ 88 by omega) (show 3 + 3 ≤ 1681 by omega) d_B_init_31 (fun H hI => ?_)
  refine W.widen (k := 2) (n := 6) (show 1 + 1 ≤ 2 by omega) (show 3 + 3 ≤ 6 by omega) ?_
  refine lv_dup hx hb d_B_init_34 rfl ?_
  obtain ⟨u16, e17⟩ := gsome h
  refine gw_callV e17 h (gw_runI (As := []) (rest := [.ref o14, .ref a0]) hx hb hml hown hT hK hZ hA hI (m_AL_init l hst D g0 o14 w u16 e17) ce_AL_init wd_89 rfl ⟨by decide, by decide⟩ rfl rfl hl.1 rfl (lv_room (Nat.le_of_ble_eq_true rfl)) d_B_init_35 ⟨(show 2 + 0 ≤ 88 by omega), (show 6 + 0 ≤ 1681 by omega)⟩) hI hA hexc (show 2 + 0 ≤ 88 by omega) (show 6 + 0 ≤ 1681 by omega) (fun v18 w H locs h hI => ?_)
  obtain ⟨w, e19, h⟩ := gb h
  refine gw_putF hx hb hT hown hK hI (ci := 0) rfl i_0 t_0 t_0_ok n_0 2 (by decide) wd_191 (fun _ h9 => h9) rfl hin rfl (ty := .object "java/util/ArrayList") (by decide +kernel) rfl rfl e19 d_B_init_38 (fun H locs hI => ?_)
  refine lv_aload_n hx hb d_B_init_41 rfl (lv_at hl 0 rfl) ?_
  obtain ⟨o20, w, e21, h⟩ := gb2 h
  refine gw_new hx hb hT hown hK hI hA (ci := 1) rfl i_1 t_1 t_1_ok wd_87 wd_88 wd_53 (fs := [.null, .int 0, .int 0]) df_1 e21 (show 2 + 1 ≤ 88 by omega) (show 6 + 3 ≤ 1681 by omega) d_B_init_42 (fun H hI => ?_)
  refine W.widen (k := 3) (n := 9) (show 2 + 1 ≤ 3 by omega) (show 6 + 3 ≤ 9 by omega) ?_
  refine lv_dup hx hb d_B_init_45 rfl ?_
  obtain ⟨u22, e23⟩ := gsome h
  refine gw_callV e23 h (gw_runI (As := []) (rest := [.ref o20, .ref a0]) hx hb hml hown hT hK hZ hA hI (m_AL_init l hst D g0 o20 w u22 e23) ce_AL_init wd_89 rfl ⟨by decide, by decide⟩ rfl rfl hl.1 rfl (lv_room (Nat.le_of_ble_eq_true rfl)) d_B_init_46 ⟨(show 3 + 0 ≤ 88 by omega), (show 9 + 0 ≤ 1681 by omega)⟩) hI hA hexc (show 3 + 0 ≤ 88 by omega) (show 9 + 0 ≤ 1681 by omega) (fun v24 w H locs h hI => ?_)
  obtain ⟨w, e25, h⟩ := gb h
  refine gw_putF hx hb hT hown hK hI (ci := 0) rfl i_0 t_0 t_0_ok n_0 3 (by decide) wd_192 (fun _ h9 => h9) rfl hin rfl (ty := .object "java/util/ArrayList") (by decide +kernel) rfl rfl e25 d_B_init_49 (fun H locs hI => ?_)
  refine lv_aload_n hx hb d_B_init_52 rfl (lv_at hl 0 rfl) ?_
  refine lv_bipush (v := 8) hx hb d_B_init_53 (by decide) ?_
  obtain ⟨o26, w, e27, h⟩ := gb2 h
  refine gw_newa (atype := .long) (ty := .long) (M := 8) hx hb hK hI hA (hT _ wd_178 args) rfl (k := 1) rfl (fun h9 => h9) e27 (show 3 + 1 ≤ 88 by omega) (show 9 + 8 ≤ 1681 by omega) (show 8 * 8 ≤ 536870912 by omega) d_B_init_55 (fun H hI => ?_)
  refine W.widen (k := 4) (n := 17) (show 3 + 1 ≤ 4 by omega) (show 9 + 8 ≤ 17 by omega) ?_
  obtain ⟨w, e28, h⟩ := gb h
  refine gw_putF hx hb hT hown hK hI (ci := 0) rfl i_0 t_0 t_0_ok n_0 4 (by decide) wd_193 (fun _ h9 => h9) rfl hin rfl (ty := .array .long) (by decide +kernel) rfl rfl e28 d_B_init_57 (fun H locs hI => ?_)
  refine lv_aload_n hx hb d_B_init_60 rfl (lv_at hl 0 rfl) ?_
  refine lv_bipush (v := 8) hx hb d_B_init_61 (by decide) ?_
  obtain ⟨o29, w, e30, h⟩ := gb2 h
  refine gw_newa (atype := .long) (ty := .long) (M := 8) hx hb hK hI hA (hT _ wd_178 args) rfl (k := 1) rfl (fun h9 => h9) e30 (show 4 + 1 ≤ 88 by omega) (show 17 + 8 ≤ 1681 by omega) (show 8 * 8 ≤ 536870912 by omega) d_B_init_63 (fun H hI => ?_)
  refine W.widen (k := 5) (n := 25) (show 4 + 1 ≤ 5 by omega) (show 17 + 8 ≤ 25 by omega) ?_
  obtain ⟨w, e31, h⟩ := gb h
  refine gw_putF hx hb hT hown hK hI (ci := 0) rfl i_0 t_0 t_0_ok n_0 5 (by decide) wd_194 (fun _ h9 => h9) rfl hin rfl (ty := .array .long) (by decide +kernel) rfl rfl e31 d_B_init_65 (fun H locs hI => ?_)
  refine lv_aload_n hx hb d_B_init_68 rfl (lv_at hl 0 rfl) ?_
  refine lv_iconst (v := 0) hx hb d_B_init_69 (by decide) ?_
  obtain ⟨w, e32, h⟩ := gb h
  refine gw_put hx hb hT hown hK hI (ci := 0) rfl i_0 t_0 t_0_ok n_0 6 (by decide) wd_195 (fun _ h9 => h9) rfl (ty := .int) (by decide +kernel) rfl rfl e32 d_B_init_70 (fun H locs hI => ?_)
  refine lv_aload_n hx hb d_B_init_73 rfl (lv_at hl 0 rfl) ?_
  refine lv_sipush (v := 900) hx hb d_B_init_74 (by decide) ?_
  obtain ⟨o33, w, e34, h⟩ := gb2 h
  refine gw_newa (atype := .int) (ty := .int) (M := 900) hx hb hK hI hA (hT _ wd_179 args) rfl (k := 0) rfl (fun h9 => h9) e34 (show 5 + 1 ≤ 88 by omega) (show 25 + 900 ≤ 1681 by omega) (show 900 * 4 ≤ 536870912 by omega) d_B_init_77 (fun H hI => ?_)
  refine W.widen (k := 6) (n := 925) (show 5 + 1 ≤ 6 by omega) (show 25 + 900 ≤ 925 by omega) ?_
  obtain ⟨w, e35, h⟩ := gb h
  refine gw_putF hx hb hT hown hK hI (ci := 0) rfl i_0 t_0 t_0_ok n_0 7 (by decide) wd_196 (fun _ h9 => h9) rfl hin rfl (ty := .array .int) (by decide +kernel) rfl rfl e35 d_B_init_79 (fun H locs hI => ?_)
  refine lv_aload_n hx hb d_B_init_82 rfl (lv_at hl 0 rfl) ?_
  obtain ⟨v36, e37, h⟩ := gb h
  refine gw_getA hx hb hT hown hK hI (ci := 0) rfl i_0 7 (by decide) wd_196 (fun _ h9 => h9) e37 d_B_init_83 ?_
  refine lv_iconst (v := -1) hx hb d_B_init_86 (by decide) ?_
  obtain ⟨u38, e39⟩ := gsome h
  refine gw_callV e39 h (gw_runS (As := [.ref v36, .int (-1)]) (rest := []) hx hb hml hown hT hK hZ hA hI (m_Ar_fill l hst D g0 v36 (-1) w u38 e39) ce_Ar_fill wd_113 ⟨by decide, by decide⟩ rfl rfl hl.1 rfl (lv_room (Nat.le_of_ble_eq_true rfl)) d_B_init_87 ⟨(show 6 + 0 ≤ 88 by omega), (show 925 + 0 ≤ 1681 by omega)⟩) hI hA hexc (show 6 + 0 ≤ 88 by omega) (show 925 + 0 ≤ 1681 by omega) (fun v40 w H locs h hI => ?_)
  refine lv_aload_n hx hb d_B_init_90 rfl (lv_at hl 0 rfl) ?_
  obtain ⟨o41, w, e42, h⟩ := gb2 h
  refine gw_new hx hb hT hown hK hI hA (ci := 2) rfl i_2 t_2 t_2_ok wd_116 wd_117 wd_55 (fs := [.null, .int 0]) df_2 e42 (show 6 + 1 ≤ 88 by omega) (show 925 + 2 ≤ 1681 by omega) d_B_init_91 (fun H hI => ?_)
  refine W.widen (k := 7) (n := 927) (show 6 + 1 ≤ 7 by omega) (show 925 + 2 ≤ 927 by omega) ?_
  refine lv_dup hx hb d_B_init_94 rfl ?_
  obtain ⟨u43, e44⟩ := gsome h
  refine gw_callV e44 h (gw_runI (As := []) (rest := [.ref o41, .ref a0]) hx hb hml hown hT hK hZ hA hI (m_La_init l hst D g0 o41 w u43 e44) ce_La_init wd_118 rfl ⟨by decide, by decide⟩ rfl rfl hl.1 rfl (lv_room (Nat.le_of_ble_eq_true rfl)) d_B_init_95 ⟨(show 7 + 40 ≤ 88 by omega), (show 927 + 376 ≤ 1681 by omega)⟩) hI hA hexc (show 7 + 40 ≤ 88 by omega) (show 927 + 376 ≤ 1681 by omega) (fun v45 w H locs h hI => ?_)
  refine W.widen (k := 47) (n := 1303) (show 7 + 40 ≤ 47 by omega) (show 927 + 376 ≤ 1303 by omega) ?_
  obtain ⟨w, e46, h⟩ := gb h
  refine gw_putF hx hb hT hown hK hI (ci := 0) rfl i_0 t_0 t_0_ok n_0 8 (by decide) wd_197 (fun _ h9 => h9) rfl hin rfl (ty := .object "BodySolids$Layout") (by decide +kernel) rfl rfl e46 d_B_init_98 (fun H locs hI => ?_)
  refine lv_aload_n hx hb d_B_init_101 rfl (lv_at hl 0 rfl) ?_
  obtain ⟨o47, w, e48, h⟩ := gb2 h
  refine gw_new hx hb hT hown hK hI hA (ci := 2) rfl i_2 t_2 t_2_ok wd_116 wd_117 wd_55 (fs := [.null, .int 0]) df_2 e48 (show 47 + 1 ≤ 88 by omega) (show 1303 + 2 ≤ 1681 by omega) d_B_init_102 (fun H hI => ?_)
  refine W.widen (k := 48) (n := 1305) (show 47 + 1 ≤ 48 by omega) (show 1303 + 2 ≤ 1305 by omega) ?_
  refine lv_dup hx hb d_B_init_105 rfl ?_
  obtain ⟨u49, e50⟩ := gsome h
  refine gw_callV e50 h (gw_runI (As := []) (rest := [.ref o47, .ref a0]) hx hb hml hown hT hK hZ hA hI (m_La_init l hst D g0 o47 w u49 e50) ce_La_init wd_118 rfl ⟨by decide, by decide⟩ rfl rfl hl.1 rfl (lv_room (Nat.le_of_ble_eq_true rfl)) d_B_init_106 ⟨(show 48 + 40 ≤ 88 by omega), (show 1305 + 376 ≤ 1681 by omega)⟩) hI hA hexc (show 48 + 40 ≤ 88 by omega) (show 1305 + 376 ≤ 1681 by omega) (fun v51 w H locs h hI => ?_)
  refine W.widen (k := 88) (n := 1681) (show 48 + 40 ≤ 88 by omega) (show 1305 + 376 ≤ 1681 by omega) ?_
  obtain ⟨w, e52, h⟩ := gb h
  refine gw_putF hx hb hT hown hK hI (ci := 0) rfl i_0 t_0 t_0_ok n_0 9 (by decide) wd_198 (fun _ h9 => h9) rfl hin rfl (ty := .object "BodySolids$Layout") (by decide +kernel) rfl rfl e52 d_B_init_109 (fun H locs hI => ?_)
  exact W.widen (show 88 ≤ 88 by omega) (show 1681 ≤ 1681 by omega) (hret _ _ (Option.some.inj h).symm _ _ _ _ d_B_init_112 hI)

abbrev b_M_init : ByteArray := prog_9_method_1_code
def y_M_init : MethodName := ⟨"BodySolidsModel", "<init>", "(J)V"⟩
theorem d_M_init_0 : decode b_M_init 0 = .ok (.aload_n 0, 1) := by decide +kernel
theorem d_M_init_1 : decode b_M_init 1 = .ok (.invokespecial 1, 3) := by decide +kernel
theorem d_M_init_4 : decode b_M_init 4 = .ok (.aload_n 0, 1) := by decide +kernel
theorem d_M_init_5 : decode b_M_init 5 = .ok (.bipush 30, 2) := by decide +kernel
theorem d_M_init_7 : decode b_M_init 7 = .ok (.newarray .int, 2) := by decide +kernel
theorem d_M_init_9 : decode b_M_init 9 = .ok (.putfield 7, 3) := by decide +kernel
theorem d_M_init_12 : decode b_M_init 12 = .ok (.aload_n 0, 1) := by decide +kernel
theorem d_M_init_13 : decode b_M_init 13 = .ok (.sipush 360, 3) := by decide +kernel
theorem d_M_init_16 : decode b_M_init 16 = .ok (.newarray .int, 2) := by decide +kernel
theorem d_M_init_18 : decode b_M_init 18 = .ok (.putfield 13, 3) := by decide +kernel
theorem d_M_init_21 : decode b_M_init 21 = .ok (.aload_n 0, 1) := by decide +kernel
theorem d_M_init_22 : decode b_M_init 22 = .ok (.sipush 2160, 3) := by decide +kernel
theorem d_M_init_25 : decode b_M_init 25 = .ok (.newarray .long, 2) := by decide +kernel
theorem d_M_init_27 : decode b_M_init 27 = .ok (.putfield 16, 3) := by decide +kernel
theorem d_M_init_30 : decode b_M_init 30 = .ok (.aload_n 0, 1) := by decide +kernel
theorem d_M_init_31 : decode b_M_init 31 = .ok (.sipush 360, 3) := by decide +kernel
theorem d_M_init_34 : decode b_M_init 34 = .ok (.newarray .int, 2) := by decide +kernel
theorem d_M_init_36 : decode b_M_init 36 = .ok (.putfield 20, 3) := by decide +kernel
theorem d_M_init_39 : decode b_M_init 39 = .ok (.aload_n 0, 1) := by decide +kernel
theorem d_M_init_40 : decode b_M_init 40 = .ok (.sipush 2880, 3) := by decide +kernel
theorem d_M_init_43 : decode b_M_init 43 = .ok (.newarray .long, 2) := by decide +kernel
theorem d_M_init_45 : decode b_M_init 45 = .ok (.putfield 23, 3) := by decide +kernel
theorem d_M_init_48 : decode b_M_init 48 = .ok (.aload_n 0, 1) := by decide +kernel
theorem d_M_init_49 : decode b_M_init 49 = .ok (.sipush 2880, 3) := by decide +kernel
theorem d_M_init_52 : decode b_M_init 52 = .ok (.newarray .long, 2) := by decide +kernel
theorem d_M_init_54 : decode b_M_init 54 = .ok (.putfield 26, 3) := by decide +kernel
theorem d_M_init_57 : decode b_M_init 57 = .ok (.aload_n 0, 1) := by decide +kernel
theorem d_M_init_58 : decode b_M_init 58 = .ok (.bipush 8, 2) := by decide +kernel
theorem d_M_init_60 : decode b_M_init 60 = .ok (.newarray .long, 2) := by decide +kernel
theorem d_M_init_62 : decode b_M_init 62 = .ok (.putfield 29, 3) := by decide +kernel
theorem d_M_init_65 : decode b_M_init 65 = .ok (.aload_n 0, 1) := by decide +kernel
theorem d_M_init_66 : decode b_M_init 66 = .ok (.bipush 8, 2) := by decide +kernel
theorem d_M_init_68 : decode b_M_init 68 = .ok (.newarray .long, 2) := by decide +kernel
theorem d_M_init_70 : decode b_M_init 70 = .ok (.putfield 32, 3) := by decide +kernel
theorem d_M_init_73 : decode b_M_init 73 = .ok (.aload_n 0, 1) := by decide +kernel
theorem d_M_init_74 : decode b_M_init 74 = .ok (.bipush 30, 2) := by decide +kernel
theorem d_M_init_76 : decode b_M_init 76 = .ok (.newarray .int, 2) := by decide +kernel
theorem d_M_init_78 : decode b_M_init 78 = .ok (.putfield 35, 3) := by decide +kernel
theorem d_M_init_81 : decode b_M_init 81 = .ok (.aload_n 0, 1) := by decide +kernel
theorem d_M_init_82 : decode b_M_init 82 = .ok (.bipush 30, 2) := by decide +kernel
theorem d_M_init_84 : decode b_M_init 84 = .ok (.newarray .long, 2) := by decide +kernel
theorem d_M_init_86 : decode b_M_init 86 = .ok (.putfield 38, 3) := by decide +kernel
theorem d_M_init_89 : decode b_M_init 89 = .ok (.aload_n 0, 1) := by decide +kernel
theorem d_M_init_90 : decode b_M_init 90 = .ok (.bipush 30, 2) := by decide +kernel
theorem d_M_init_92 : decode b_M_init 92 = .ok (.newarray .long, 2) := by decide +kernel
theorem d_M_init_94 : decode b_M_init 94 = .ok (.putfield 41, 3) := by decide +kernel
theorem d_M_init_97 : decode b_M_init 97 = .ok (.aload_n 0, 1) := by decide +kernel
theorem d_M_init_98 : decode b_M_init 98 = .ok (.bipush 30, 2) := by decide +kernel
theorem d_M_init_100 : decode b_M_init 100 = .ok (.newarray .int, 2) := by decide +kernel
theorem d_M_init_102 : decode b_M_init 102 = .ok (.putfield 44, 3) := by decide +kernel
theorem d_M_init_105 : decode b_M_init 105 = .ok (.aload_n 0, 1) := by decide +kernel
theorem d_M_init_106 : decode b_M_init 106 = .ok (.bipush 30, 2) := by decide +kernel
theorem d_M_init_108 : decode b_M_init 108 = .ok (.newarray .int, 2) := by decide +kernel
theorem d_M_init_110 : decode b_M_init 110 = .ok (.putfield 47, 3) := by decide +kernel
theorem d_M_init_113 : decode b_M_init 113 = .ok (.aload_n 0, 1) := by decide +kernel
theorem d_M_init_114 : decode b_M_init 114 = .ok (.bipush 60, 2) := by decide +kernel
theorem d_M_init_116 : decode b_M_init 116 = .ok (.newarray .long, 2) := by decide +kernel
theorem d_M_init_118 : decode b_M_init 118 = .ok (.putfield 50, 3) := by decide +kernel
theorem d_M_init_121 : decode b_M_init 121 = .ok (.aload_n 0, 1) := by decide +kernel
theorem d_M_init_122 : decode b_M_init 122 = .ok (.iconst 2, 1) := by decide +kernel
theorem d_M_init_123 : decode b_M_init 123 = .ok (.newarray .int, 2) := by decide +kernel
theorem d_M_init_125 : decode b_M_init 125 = .ok (.putfield 53, 3) := by decide +kernel
theorem d_M_init_128 : decode b_M_init 128 = .ok (.aload_n 0, 1) := by decide +kernel
theorem d_M_init_129 : decode b_M_init 129 = .ok (.iconst 2, 1) := by decide +kernel
theorem d_M_init_130 : decode b_M_init 130 = .ok (.newarray .int, 2) := by decide +kernel
theorem d_M_init_132 : decode b_M_init 132 = .ok (.putfield 56, 3) := by decide +kernel
theorem d_M_init_135 : decode b_M_init 135 = .ok (.aload_n 0, 1) := by decide +kernel
theorem d_M_init_136 : decode b_M_init 136 = .ok (.bipush 16, 2) := by decide +kernel
theorem d_M_init_138 : decode b_M_init 138 = .ok (.newarray .long, 2) := by decide +kernel
theorem d_M_init_140 : decode b_M_init 140 = .ok (.putfield 59, 3) := by decide +kernel
theorem d_M_init_143 : decode b_M_init 143 = .ok (.aload_n 0, 1) := by decide +kernel
theorem d_M_init_144 : decode b_M_init 144 = .ok (.bipush 16, 2) := by decide +kernel
theorem d_M_init_146 : decode b_M_init 146 = .ok (.newarray .long, 2) := by decide +kernel
theorem d_M_init_148 : decode b_M_init 148 = .ok (.putfield 62, 3) := by decide +kernel
theorem d_M_init_151 : decode b_M_init 151 = .ok (.aload_n 0, 1) := by decide +kernel
theorem d_M_init_152 : decode b_M_init 152 = .ok (.iconst 2, 1) := by decide +kernel
theorem d_M_init_153 : decode b_M_init 153 = .ok (.newarray .long, 2) := by decide +kernel
theorem d_M_init_155 : decode b_M_init 155 = .ok (.putfield 65, 3) := by decide +kernel
theorem d_M_init_158 : decode b_M_init 158 = .ok (.aload_n 0, 1) := by decide +kernel
theorem d_M_init_159 : decode b_M_init 159 = .ok (.iconst 2, 1) := by decide +kernel
theorem d_M_init_160 : decode b_M_init 160 = .ok (.newarray .long, 2) := by decide +kernel
theorem d_M_init_162 : decode b_M_init 162 = .ok (.putfield 68, 3) := by decide +kernel
theorem d_M_init_165 : decode b_M_init 165 = .ok (.aload_n 0, 1) := by decide +kernel
theorem d_M_init_166 : decode b_M_init 166 = .ok (.iconst 2, 1) := by decide +kernel
theorem d_M_init_167 : decode b_M_init 167 = .ok (.newarray .long, 2) := by decide +kernel
theorem d_M_init_169 : decode b_M_init 169 = .ok (.putfield 71, 3) := by decide +kernel
theorem d_M_init_172 : decode b_M_init 172 = .ok (.aload_n 0, 1) := by decide +kernel
theorem d_M_init_173 : decode b_M_init 173 = .ok (.lload_n 1, 1) := by decide +kernel
theorem d_M_init_174 : decode b_M_init 174 = .ok (.lconst 0, 1) := by decide +kernel
theorem d_M_init_175 : decode b_M_init 175 = .ok (.lcmp, 1) := by decide +kernel
theorem d_M_init_176 : decode b_M_init 176 = .ok (.ifCond .ge 7, 3) := by decide +kernel
theorem d_M_init_179 : decode b_M_init 179 = .ok (.lconst 0, 1) := by decide +kernel
theorem d_M_init_180 : decode b_M_init 180 = .ok (.goto 18, 3) := by decide +kernel
theorem d_M_init_183 : decode b_M_init 183 = .ok (.lload_n 1, 1) := by decide +kernel
theorem d_M_init_184 : decode b_M_init 184 = .ok (.ldc2_w 74, 3) := by decide +kernel
theorem d_M_init_187 : decode b_M_init 187 = .ok (.lcmp, 1) := by decide +kernel
theorem d_M_init_188 : decode b_M_init 188 = .ok (.ifCond .le 9, 3) := by decide +kernel
theorem d_M_init_191 : decode b_M_init 191 = .ok (.ldc2_w 74, 3) := by decide +kernel
theorem d_M_init_194 : decode b_M_init 194 = .ok (.goto 4, 3) := by decide +kernel
theorem d_M_init_197 : decode b_M_init 197 = .ok (.lload_n 1, 1) := by decide +kernel
theorem d_M_init_198 : decode b_M_init 198 = .ok (.putfield 76, 3) := by decide +kernel
theorem d_M_init_201 : decode b_M_init 201 = .ok (.return_, 1) := by decide +kernel
abbrev rm_M_init : Room := { frames := 1, cells := 21, slots := 8938, locals := 22 }
theorem ce_M_init : gCe y_M_init (.code y_M_init b_M_init 3 none) 3 1 false := gCe.code wd_783 wd_57 wd_782 (by decide) (by decide +kernel)
def f_M_init (g0 : gG) (a0 : Nat) (p1 : Int64) (w : gW) : gX Unit := gb2f (gna w 0 30 30 (.int 0)) fun o1 w => (gp w a0 7 3 (.ref o1)).bind fun w => gb2f (gna w 0 360 360 (.int 0)) fun o4 w => (gp w a0 7 4 (.ref o4)).bind fun w => gb2f (gna w 1 2160 2160 (.long 0)) fun o7 w => (gp w a0 7 5 (.ref o7)).bind fun w => gb2f (gna w 0 360 360 (.int 0)) fun o10 w => (gp w a0 7 6 (.ref o10)).bind fun w => gb2f (gna w 1 2880 2880 (.long 0)) fun o13 w => (gp w a0 7 7 (.ref o13)).bind fun w => gb2f (gna w 1 2880 2880 (.long 0)) fun o16 w => (gp w a0 7 8 (.ref o16)).bind fun w => gb2f (gna w 1 8 8 (.long 0)) fun o19 w => (gp w a0 7 10 (.ref o19)).bind fun w => gb2f (gna w 1 8 8 (.long 0)) fun o22 w => (gp w a0 7 11 (.ref o22)).bind fun w => gb2f (gna w 0 30 30 (.int 0)) fun o25 w => (gp w a0 7 13 (.ref o25)).bind fun w => gb2f (gna w 1 30 30 (.long 0)) fun o28 w => (gp w a0 7 14 (.ref o28)).bind fun w => gb2f (gna w 1 30 30 (.long 0)) fun o31 w => (gp w a0 7 15 (.ref o31)).bind fun w => gb2f (gna w 0 30 30 (.int 0)) fun o34 w => (gp w a0 7 16 (.ref o34)).bind fun w => gb2f (gna w 0 30 30 (.int 0)) fun o37 w => (gp w a0 7 17 (.ref o37)).bind fun w => gb2f (gna w 1 60 60 (.long 0)) fun o40 w => (gp w a0 7 19 (.ref o40)).bind fun w => gb2f (gna w 0 2 2 (.int 0)) fun o43 w => (gp w a0 7 20 (.ref o43)).bind fun w => gb2f (gna w 0 2 2 (.int 0)) fun o46 w => (gp w a0 7 21 (.ref o46)).bind fun w => gb2f (gna w 1 16 16 (.long 0)) fun o49 w => (gp w a0 7 22 (.ref o49)).bind fun w => gb2f (gna w 1 16 16 (.long 0)) fun o52 w => (gp w a0 7 23 (.ref o52)).bind fun w => gb2f (gna w 1 2 2 (.long 0)) fun o55 w => (gp w a0 7 24 (.ref o55)).bind fun w => gb2f (gna w 1 2 2 (.long 0)) fun o58 w => (gp w a0 7 25 (.ref o58)).bind fun w => gb2f (gna w 1 2 2 (.long 0)) fun o61 w => (gp w a0 7 26 (.ref o61)).bind fun w => gjoin (fun K198 => if 0 ≤ p1 then (if p1 ≤ 1000 then (K198 p1 w) else (K198 1000 w)) else (K198 0 w)) (fun (y64 : Int64) (w : gW) => (gp w a0 7 1 (.long y64)).bind fun w => some (.inr (), w))
set_option maxHeartbeats 4000000 in
set_option maxRecDepth 100000 in
theorem m_M_init (l : Launch) (hst : l.stackTraces = false) (D : gD) (g0 : gG) (a0 : Nat) (p1 : Int64) (w : gW) (r : (String ⊕ Unit) × gW) (h : f_M_init g0 a0 p1 w = some r) : gMet l y_M_init (.code y_M_init b_M_init 3 none) rm_M_init D g0 [.ref a0, .long p1] w (goV r) := by
  refine gw_ofV (by decide +kernel) (Nat.le_of_ble_eq_true rfl) ?_
  intro p e s m below meth c ls args A Q hx hb hml hown hlocks hin hnt hT hK hZ hA hret hexc hthr hI hl
  obtain ⟨H, hH⟩ : ∃ H, H = s.heap := ⟨_, rfl⟩
  rw [← hH] at hI ⊢
  obtain ⟨locs, hlocs⟩ : ∃ z : List Loc, z = [] := ⟨_, rfl⟩
  rw [← hlocs] at hI ⊢
  have hl : lv_has ls 3 [(0, .ref a0), (1, .long p1)] := hl
  unfold f_M_init at h
  refine lv_aload_n hx hb d_M_init_0 rfl (lv_at hl 0 rfl) ?_
  refine W.objInit hx hb hown (hT _ wd_784 args) (hT _ wd_78 args) (hT _ wd_79 args) rfl (by rw [hml]; exact hl.1) rfl d_M_init_1 (Nat.le_of_ble_eq_true rfl) (Nat.le_of_ble_eq_true rfl) ?_
  refine W.eq (g2 := F0 m 4 ls []) rfl ?_
  refine lv_aload_n hx hb d_M_init_4 rfl (lv_at hl 0 rfl) ?_
  refine lv_bipush (v := 30) hx hb d_M_init_5 (by decide) ?_
  obtain ⟨o1, w, e2, h⟩ := gb2 h
  refine gw_newa (atype := .int) (ty := .int) (M := 30) hx hb hK hI hA (hT _ wd_179 args) rfl (k := 0) rfl (fun h9 => h9) e2 (show 0 + 1 ≤ 21 by omega) (show 0 + 30 ≤ 8938 by omega) (show 30 * 4 ≤ 536870912 by omega) d_M_init_7 (fun H hI => ?_)
  refine W.widen (k := 1) (n := 30) (show 0 + 1 ≤ 1 by omega) (show 0 + 30 ≤ 30 by omega) ?_
  obtain ⟨w, e3, h⟩ := gb h
  refine gw_putF hx hb hT hown hK hI (ci := 7) rfl i_7 t_7 t_7_ok n_7 3 (by decide) wd_789 (fun _ h9 => h9) rfl hin rfl (ty := .array .int) (by decide +kernel) rfl rfl e3 d_M_init_9 (fun H locs hI => ?_)
  refine lv_aload_n hx hb d_M_init_12 rfl (lv_at hl 0 rfl) ?_
  refine lv_sipush (v := 360) hx hb d_M_init_13 (by decide) ?_
  obtain ⟨o4, w, e5, h⟩ := gb2 h
  refine gw_newa (atype := .int) (ty := .int) (M := 360) hx hb hK hI hA (hT _ wd_179 args) rfl (k := 0) rfl (fun h9 => h9) e5 (show 1 + 1 ≤ 21 by omega) (show 30 + 360 ≤ 8938 by omega) (show 360 * 4 ≤ 536870912 by omega) d_M_init_16 (fun H hI => ?_)
  refine W.widen (k := 2) (n := 390) (show 1 + 1 ≤ 2 by omega) (show 30 + 360 ≤ 390 by omega) ?_
  obtain ⟨w, e6, h⟩ := gb h
  refine gw_putF hx hb hT hown hK hI (ci := 7) rfl i_7 t_7 t_7_ok n_7 4 (by decide) wd_790 (fun _ h9 => h9) rfl hin rfl (ty := .array .int) (by decide +kernel) rfl rfl e6 d_M_init_18 (fun H locs hI => ?_)
  refine lv_aload_n hx hb d_M_init_21 rfl (lv_at hl 0 rfl) ?_
  refine lv_sipush (v := 2160) hx hb d_M_init_22 (by decide) ?_
  obtain ⟨o7, w, e8, h⟩ := gb2 h
  refine gw_newa (atype := .long) (ty := .long) (M := 2160) hx hb hK hI hA (hT _ wd_178 args) rfl (k := 1) rfl (fun h9 => h9) e8 (show 2 + 1 ≤ 21 by omega) (show 390 + 2160 ≤ 8938 by omega) (show 2160 * 8 ≤ 536870912 by omega) d_M_init_25 (fun H hI => ?_)
  refine W.widen (k := 3) (n := 2550) (show 2 + 1 ≤ 3 by omega) (show 390 + 2160 ≤ 2550 by omega) ?_
  obtain ⟨w, e9, h⟩ := gb h
  refine gw_putF hx hb hT hown hK hI (ci := 7) rfl i_7 t_7 t_7_ok n_7 5 (by decide) wd_791 (fun _ h9 => h9) rfl hin rfl (ty := .array .long) (by decide +kernel) rfl rfl e9 d_M_init_27 (fun H locs hI => ?_)
  refine lv_aload_n hx hb d_M_init_30 rfl (lv_at hl 0 rfl) ?_
  refine lv_sipush (v := 360) hx hb d_M_init_31 (by decide) ?_
  obtain ⟨o10, w, e11, h⟩ := gb2 h
  refine gw_newa (atype := .int) (ty := .int) (M := 360) hx hb hK hI hA (hT _ wd_179 args) rfl (k := 0) rfl (fun h9 => h9) e11 (show 3 + 1 ≤ 21 by omega) (show 2550 + 360 ≤ 8938 by omega) (show 360 * 4 ≤ 536870912 by omega) d_M_init_34 (fun H hI => ?_)
  refine W.widen (k := 4) (n := 2910) (show 3 + 1 ≤ 4 by omega) (show 2550 + 360 ≤ 2910 by omega) ?_
  obtain ⟨w, e12, h⟩ := gb h
  refine gw_putF hx hb hT hown hK hI (ci := 7) rfl i_7 t_7 t_7_ok n_7 6 (by decide) wd_792 (fun _ h9 => h9) rfl hin rfl (ty := .array .int) (by decide +kernel) rfl rfl e12 d_M_init_36 (fun H locs hI => ?_)
  refine lv_aload_n hx hb d_M_init_39 rfl (lv_at hl 0 rfl) ?_
  refine lv_sipush (v := 2880) hx hb d_M_init_40 (by decide) ?_
  obtain ⟨o13, w, e14, h⟩ := gb2 h
  refine gw_newa (atype := .long) (ty := .long) (M := 2880) hx hb hK hI hA (hT _ wd_178 args) rfl (k := 1) rfl (fun h9 => h9) e14 (show 4 + 1 ≤ 21 by omega) (show 2910 + 2880 ≤ 8938 by omega) (show 2880 * 8 ≤ 536870912 by omega) d_M_init_43 (fun H hI => ?_)
  refine W.widen (k := 5) (n := 5790) (show 4 + 1 ≤ 5 by omega) (show 2910 + 2880 ≤ 5790 by omega) ?_
  obtain ⟨w, e15, h⟩ := gb h
  refine gw_putF hx hb hT hown hK hI (ci := 7) rfl i_7 t_7 t_7_ok n_7 7 (by decide) wd_793 (fun _ h9 => h9) rfl hin rfl (ty := .array .long) (by decide +kernel) rfl rfl e15 d_M_init_45 (fun H locs hI => ?_)
  refine lv_aload_n hx hb d_M_init_48 rfl (lv_at hl 0 rfl) ?_
  refine lv_sipush (v := 2880) hx hb d_M_init_49 (by decide) ?_
  obtain ⟨o16, w, e17, h⟩ := gb2 h
  refine gw_newa (atype := .long) (ty := .long) (M := 2880) hx hb hK hI hA (hT _ wd_178 args) rfl (k := 1) rfl (fun h9 => h9) e17 (show 5 + 1 ≤ 21 by omega) (show 5790 + 2880 ≤ 8938 by omega) (show 2880 * 8 ≤ 536870912 by omega) d_M_init_52 (fun H hI => ?_)
  refine W.widen (k := 6) (n := 8670) (show 5 + 1 ≤ 6 by omega) (show 5790 + 2880 ≤ 8670 by omega) ?_
  obtain ⟨w, e18, h⟩ := gb h
  refine gw_putF hx hb hT hown hK hI (ci := 7) rfl i_7 t_7 t_7_ok n_7 8 (by decide) wd_794 (fun _ h9 => h9) rfl hin rfl (ty := .array .long) (by decide +kernel) rfl rfl e18 d_M_init_54 (fun H locs hI => ?_)
  refine lv_aload_n hx hb d_M_init_57 rfl (lv_at hl 0 rfl) ?_
  refine lv_bipush (v := 8) hx hb d_M_init_58 (by decide) ?_
  obtain ⟨o19, w, e20, h⟩ := gb2 h
  refine gw_newa (atype := .long) (ty := .long) (M := 8) hx hb hK hI hA (hT _ wd_178 args) rfl (k := 1) rfl (fun h9 => h9) e20 (show 6 + 1 ≤ 21 by omega) (show 8670 + 8 ≤ 8938 by omega) (show 8 * 8 ≤ 536870912 by omega) d_M_init_60 (fun H hI => ?_)
  refine W.widen (k := 7) (n := 8678) (show 6 + 1 ≤ 7 by omega) (show 8670 + 8 ≤ 8678 by omega) ?_
  obtain ⟨w, e21, h⟩ := gb h
  refine gw_putF hx hb hT hown hK hI (ci := 7) rfl i_7 t_7 t_7_ok n_7 10 (by decide) wd_796 (fun _ h9 => h9) rfl hin rfl (ty := .array .long) (by decide +kernel) rfl rfl e21 d_M_init_62 (fun H locs hI => ?_)
  refine lv_aload_n hx hb d_M_init_65 rfl (lv_at hl 0 rfl) ?_
  refine lv_bipush (v := 8) hx hb d_M_init_66 (by decide) ?_
  obtain ⟨o22, w, e23, h⟩ := gb2 h
  refine gw_newa (atype := .long) (ty := .long) (M := 8) hx hb hK hI hA (hT _ wd_178 args) rfl (k := 1) rfl (fun h9 => h9) e23 (show 7 + 1 ≤ 21 by omega) (show 8678 + 8 ≤ 8938 by omega) (show 8 * 8 ≤ 536870912 by omega) d_M_init_68 (fun H hI => ?_)
  refine W.widen (k := 8) (n := 8686) (show 7 + 1 ≤ 8 by omega) (show 8678 + 8 ≤ 8686 by omega) ?_
  obtain ⟨w, e24, h⟩ := gb h
  refine gw_putF hx hb hT hown hK hI (ci := 7) rfl i_7 t_7 t_7_ok n_7 11 (by decide) wd_797 (fun _ h9 => h9) rfl hin rfl (ty := .array .long) (by decide +kernel) rfl rfl e24 d_M_init_70 (fun H locs hI => ?_)
  refine lv_aload_n hx hb d_M_init_73 rfl (lv_at hl 0 rfl) ?_
  refine lv_bipush (v := 30) hx hb d_M_init_74 (by decide) ?_
  obtain ⟨o25, w, e26, h⟩ := gb2 h
  refine gw_newa (atype := .int) (ty := .int) (M := 30) hx hb hK hI hA (hT _ wd_179 args) rfl (k := 0) rfl (fun h9 => h9) e26 (show 8 + 1 ≤ 21 by omega) (show 8686 + 30 ≤ 8938 by omega) (show 30 * 4 ≤ 536870912 by omega) d_M_init_76 (fun H hI => ?_)
  refine W.widen (k := 9) (n := 8716) (show 8 + 1 ≤ 9 by omega) (show 8686 + 30 ≤ 8716 by omega) ?_
  obtain ⟨w, e27, h⟩ := gb h
  refine gw_putF hx hb hT hown hK hI (ci := 7) rfl i_7 t_7 t_7_ok n_7 13 (by decide) wd_799 (fun _ h9 => h9) rfl hin rfl (ty := .array .int) (by decide +kernel) rfl rfl e27 d_M_init_78 (fun H locs hI => ?_)
  refine lv_aload_n hx hb d_M_init_81 rfl (lv_at hl 0 rfl) ?_
  refine lv_bipush (v := 30) hx hb d_M_init_82 (by decide) ?_
  obtain ⟨o28, w, e29, h⟩ := gb2 h
  refine gw_newa (atype := .long) (ty := .long) (M := 30) hx hb hK hI hA (hT _ wd_178 args) rfl (k := 1) rfl (fun h9 => h9) e29 (show 9 + 1 ≤ 21 by omega) (show 8716 + 30 ≤ 8938 by omega) (show 30 * 8 ≤ 536870912 by omega) d_M_init_84 (fun H hI => ?_)
  refine W.widen (k := 10) (n := 8746) (show 9 + 1 ≤ 10 by omega) (show 8716 + 30 ≤ 8746 by omega) ?_
  obtain ⟨w, e30, h⟩ := gb h
  refine gw_putF hx hb hT hown hK hI (ci := 7) rfl i_7 t_7 t_7_ok n_7 14 (by decide) wd_800 (fun _ h9 => h9) rfl hin rfl (ty := .array .long) (by decide +kernel) rfl rfl e30 d_M_init_86 (fun H locs hI => ?_)
  refine lv_aload_n hx hb d_M_init_89 rfl (lv_at hl 0 rfl) ?_
  refine lv_bipush (v := 30) hx hb d_M_init_90 (by decide) ?_
  obtain ⟨o31, w, e32, h⟩ := gb2 h
  refine gw_newa (atype := .long) (ty := .long) (M := 30) hx hb hK hI hA (hT _ wd_178 args) rfl (k := 1) rfl (fun h9 => h9) e32 (show 10 + 1 ≤ 21 by omega) (show 8746 + 30 ≤ 8938 by omega) (show 30 * 8 ≤ 536870912 by omega) d_M_init_92 (fun H hI => ?_)
  refine W.widen (k := 11) (n := 8776) (show 10 + 1 ≤ 11 by omega) (show 8746 + 30 ≤ 8776 by omega) ?_
  obtain ⟨w, e33, h⟩ := gb h
  refine gw_putF hx hb hT hown hK hI (ci := 7) rfl i_7 t_7 t_7_ok n_7 15 (by decide) wd_801 (fun _ h9 => h9) rfl hin rfl (ty := .array .long) (by decide +kernel) rfl rfl e33 d_M_init_94 (fun H locs hI => ?_)
  refine lv_aload_n hx hb d_M_init_97 rfl (lv_at hl 0 rfl) ?_
  refine lv_bipush (v := 30) hx hb d_M_init_98 (by decide) ?_
  obtain ⟨o34, w, e35, h⟩ := gb2 h
  refine gw_newa (atype := .int) (ty := .int) (M := 30) hx hb hK hI hA (hT _ wd_179 args) rfl (k := 0) rfl (fun h9 => h9) e35 (show 11 + 1 ≤ 21 by omega) (show 8776 + 30 ≤ 8938 by omega) (show 30 * 4 ≤ 536870912 by omega) d_M_init_100 (fun H hI => ?_)
  refine W.widen (k := 12) (n := 8806) (show 11 + 1 ≤ 12 by omega) (show 8776 + 30 ≤ 8806 by omega) ?_
  obtain ⟨w, e36, h⟩ := gb h
  refine gw_putF hx hb hT hown hK hI (ci := 7) rfl i_7 t_7 t_7_ok n_7 16 (by decide) wd_802 (fun _ h9 => h9) rfl hin rfl (ty := .array .int) (by decide +kernel) rfl rfl e36 d_M_init_102 (fun H locs hI => ?_)
  refine lv_aload_n hx hb d_M_init_105 rfl (lv_at hl 0 rfl) ?_
  refine lv_bipush (v := 30) hx hb d_M_init_106 (by decide) ?_
  obtain ⟨o37, w, e38, h⟩ := gb2 h
  refine gw_newa (atype := .int) (ty := .int) (M := 30) hx hb hK hI hA (hT _ wd_179 args) rfl (k := 0) rfl (fun h9 => h9) e38 (show 12 + 1 ≤ 21 by omega) (show 8806 + 30 ≤ 8938 by omega) (show 30 * 4 ≤ 536870912 by omega) d_M_init_108 (fun H hI => ?_)
  refine W.widen (k := 13) (n := 8836) (show 12 + 1 ≤ 13 by omega) (show 8806 + 30 ≤ 8836 by omega) ?_
  obtain ⟨w, e39, h⟩ := gb h
  refine gw_putF hx hb hT hown hK hI (ci := 7) rfl i_7 t_7 t_7_ok n_7 17 (by decide) wd_803 (fun _ h9 => h9) rfl hin rfl (ty := .array .int) (by decide +kernel) rfl rfl e39 d_M_init_110 (fun H locs hI => ?_)
  refine lv_aload_n hx hb d_M_init_113 rfl (lv_at hl 0 rfl) ?_
  refine lv_bipush (v := 60) hx hb d_M_init_114 (by decide) ?_
  obtain ⟨o40, w, e41, h⟩ := gb2 h
  refine gw_newa (atype := .long) (ty := .long) (M := 60) hx hb hK hI hA (hT _ wd_178 args) rfl (k := 1) rfl (fun h9 => h9) e41 (show 13 + 1 ≤ 21 by omega) (show 8836 + 60 ≤ 8938 by omega) (show 60 * 8 ≤ 536870912 by omega) d_M_init_116 (fun H hI => ?_)
  refine W.widen (k := 14) (n := 8896) (show 13 + 1 ≤ 14 by omega) (show 8836 + 60 ≤ 8896 by omega) ?_
  obtain ⟨w, e42, h⟩ := gb h
  refine gw_putF hx hb hT hown hK hI (ci := 7) rfl i_7 t_7 t_7_ok n_7 19 (by decide) wd_805 (fun _ h9 => h9) rfl hin rfl (ty := .array .long) (by decide +kernel) rfl rfl e42 d_M_init_118 (fun H locs hI => ?_)
  refine lv_aload_n hx hb d_M_init_121 rfl (lv_at hl 0 rfl) ?_
  refine lv_iconst (v := 2) hx hb d_M_init_122 (by decide) ?_
  obtain ⟨o43, w, e44, h⟩ := gb2 h
  refine gw_newa (atype := .int) (ty := .int) (M := 2) hx hb hK hI hA (hT _ wd_179 args) rfl (k := 0) rfl (fun h9 => h9) e44 (show 14 + 1 ≤ 21 by omega) (show 8896 + 2 ≤ 8938 by omega) (show 2 * 4 ≤ 536870912 by omega) d_M_init_123 (fun H hI => ?_)
  refine W.widen (k := 15) (n := 8898) (show 14 + 1 ≤ 15 by omega) (show 8896 + 2 ≤ 8898 by omega) ?_
  obtain ⟨w, e45, h⟩ := gb h
  refine gw_putF hx hb hT hown hK hI (ci := 7) rfl i_7 t_7 t_7_ok n_7 20 (by decide) wd_806 (fun _ h9 => h9) rfl hin rfl (ty := .array .int) (by decide +kernel) rfl rfl e45 d_M_init_125 (fun H locs hI => ?_)
  refine lv_aload_n hx hb d_M_init_128 rfl (lv_at hl 0 rfl) ?_
  refine lv_iconst (v := 2) hx hb d_M_init_129 (by decide) ?_
  obtain ⟨o46, w, e47, h⟩ := gb2 h
  refine gw_newa (atype := .int) (ty := .int) (M := 2) hx hb hK hI hA (hT _ wd_179 args) rfl (k := 0) rfl (fun h9 => h9) e47 (show 15 + 1 ≤ 21 by omega) (show 8898 + 2 ≤ 8938 by omega) (show 2 * 4 ≤ 536870912 by omega) d_M_init_130 (fun H hI => ?_)
  refine W.widen (k := 16) (n := 8900) (show 15 + 1 ≤ 16 by omega) (show 8898 + 2 ≤ 8900 by omega) ?_
  obtain ⟨w, e48, h⟩ := gb h
  refine gw_putF hx hb hT hown hK hI (ci := 7) rfl i_7 t_7 t_7_ok n_7 21 (by decide) wd_807 (fun _ h9 => h9) rfl hin rfl (ty := .array .int) (by decide +kernel) rfl rfl e48 d_M_init_132 (fun H locs hI => ?_)
  refine lv_aload_n hx hb d_M_init_135 rfl (lv_at hl 0 rfl) ?_
  refine lv_bipush (v := 16) hx hb d_M_init_136 (by decide) ?_
  obtain ⟨o49, w, e50, h⟩ := gb2 h
  refine gw_newa (atype := .long) (ty := .long) (M := 16) hx hb hK hI hA (hT _ wd_178 args) rfl (k := 1) rfl (fun h9 => h9) e50 (show 16 + 1 ≤ 21 by omega) (show 8900 + 16 ≤ 8938 by omega) (show 16 * 8 ≤ 536870912 by omega) d_M_init_138 (fun H hI => ?_)
  refine W.widen (k := 17) (n := 8916) (show 16 + 1 ≤ 17 by omega) (show 8900 + 16 ≤ 8916 by omega) ?_
  obtain ⟨w, e51, h⟩ := gb h
  refine gw_putF hx hb hT hown hK hI (ci := 7) rfl i_7 t_7 t_7_ok n_7 22 (by decide) wd_808 (fun _ h9 => h9) rfl hin rfl (ty := .array .long) (by decide +kernel) rfl rfl e51 d_M_init_140 (fun H locs hI => ?_)
  refine lv_aload_n hx hb d_M_init_143 rfl (lv_at hl 0 rfl) ?_
  refine lv_bipush (v := 16) hx hb d_M_init_144 (by decide) ?_
  obtain ⟨o52, w, e53, h⟩ := gb2 h
  refine gw_newa (atype := .long) (ty := .long) (M := 16) hx hb hK hI hA (hT _ wd_178 args) rfl (k := 1) rfl (fun h9 => h9) e53 (show 17 + 1 ≤ 21 by omega) (show 8916 + 16 ≤ 8938 by omega) (show 16 * 8 ≤ 536870912 by omega) d_M_init_146 (fun H hI => ?_)
  refine W.widen (k := 18) (n := 8932) (show 17 + 1 ≤ 18 by omega) (show 8916 + 16 ≤ 8932 by omega) ?_
  obtain ⟨w, e54, h⟩ := gb h
  refine gw_putF hx hb hT hown hK hI (ci := 7) rfl i_7 t_7 t_7_ok n_7 23 (by decide) wd_809 (fun _ h9 => h9) rfl hin rfl (ty := .array .long) (by decide +kernel) rfl rfl e54 d_M_init_148 (fun H locs hI => ?_)
  refine lv_aload_n hx hb d_M_init_151 rfl (lv_at hl 0 rfl) ?_
  refine lv_iconst (v := 2) hx hb d_M_init_152 (by decide) ?_
  obtain ⟨o55, w, e56, h⟩ := gb2 h
  refine gw_newa (atype := .long) (ty := .long) (M := 2) hx hb hK hI hA (hT _ wd_178 args) rfl (k := 1) rfl (fun h9 => h9) e56 (show 18 + 1 ≤ 21 by omega) (show 8932 + 2 ≤ 8938 by omega) (show 2 * 8 ≤ 536870912 by omega) d_M_init_153 (fun H hI => ?_)
  refine W.widen (k := 19) (n := 8934) (show 18 + 1 ≤ 19 by omega) (show 8932 + 2 ≤ 8934 by omega) ?_
  obtain ⟨w, e57, h⟩ := gb h
  refine gw_putF hx hb hT hown hK hI (ci := 7) rfl i_7 t_7 t_7_ok n_7 24 (by decide) wd_810 (fun _ h9 => h9) rfl hin rfl (ty := .array .long) (by decide +kernel) rfl rfl e57 d_M_init_155 (fun H locs hI => ?_)
  refine lv_aload_n hx hb d_M_init_158 rfl (lv_at hl 0 rfl) ?_
  refine lv_iconst (v := 2) hx hb d_M_init_159 (by decide) ?_
  obtain ⟨o58, w, e59, h⟩ := gb2 h
  refine gw_newa (atype := .long) (ty := .long) (M := 2) hx hb hK hI hA (hT _ wd_178 args) rfl (k := 1) rfl (fun h9 => h9) e59 (show 19 + 1 ≤ 21 by omega) (show 8934 + 2 ≤ 8938 by omega) (show 2 * 8 ≤ 536870912 by omega) d_M_init_160 (fun H hI => ?_)
  refine W.widen (k := 20) (n := 8936) (show 19 + 1 ≤ 20 by omega) (show 8934 + 2 ≤ 8936 by omega) ?_
  obtain ⟨w, e60, h⟩ := gb h
  refine gw_putF hx hb hT hown hK hI (ci := 7) rfl i_7 t_7 t_7_ok n_7 25 (by decide) wd_811 (fun _ h9 => h9) rfl hin rfl (ty := .array .long) (by decide +kernel) rfl rfl e60 d_M_init_162 (fun H locs hI => ?_)
  refine lv_aload_n hx hb d_M_init_165 rfl (lv_at hl 0 rfl) ?_
  refine lv_iconst (v := 2) hx hb d_M_init_166 (by decide) ?_
  obtain ⟨o61, w, e62, h⟩ := gb2 h
  refine gw_newa (atype := .long) (ty := .long) (M := 2) hx hb hK hI hA (hT _ wd_178 args) rfl (k := 1) rfl (fun h9 => h9) e62 (show 20 + 1 ≤ 21 by omega) (show 8936 + 2 ≤ 8938 by omega) (show 2 * 8 ≤ 536870912 by omega) d_M_init_167 (fun H hI => ?_)
  refine W.widen (k := 21) (n := 8938) (show 20 + 1 ≤ 21 by omega) (show 8936 + 2 ≤ 8938 by omega) ?_
  obtain ⟨w, e63, h⟩ := gb h
  refine gw_putF hx hb hT hown hK hI (ci := 7) rfl i_7 t_7 t_7_ok n_7 26 (by decide) wd_812 (fun _ h9 => h9) rfl hin rfl (ty := .array .long) (by decide +kernel) rfl rfl e63 d_M_init_169 (fun H locs hI => ?_)
  refine lv_aload_n hx hb d_M_init_172 rfl (lv_at hl 0 rfl) ?_
  refine lv_lload_n hx hb d_M_init_173 rfl (lv_at hl 1 rfl) ?_
  refine lv_lconst (v := 0) hx hb d_M_init_174 (by decide) ?_
  refine W.lcmp hx hb d_M_init_175 ?_
  obtain ⟨K198, eK198, h⟩ := gj h
  have hK198 : ∀ (y64 : Int64) (w : gW) (H : Heap) (locs : List Loc) (ls : Array Slot), K198 y64 w = some r → gI D s A w H locs → lv_has ls 3 [] → W p l e rm_M_init s m args below meth c H locs 21 8938 Q (F0 m 198 ls [.long y64, .ref a0]) := by
    intro y64 w H locs ls h hI hl
    have h := gk2 eK198 h
    obtain ⟨w, e65, h⟩ := gb h
    refine gw_putF hx hb hT hown hK hI (ci := 7) rfl i_7 t_7 t_7_ok n_7 1 (by decide) wd_787 (fun _ h9 => h9) rfl hin rfl (ty := .long) (by decide +kernel) rfl rfl e65 d_M_init_198 (fun H locs hI => ?_)
    exact W.widen (show 21 ≤ 21 by omega) (show 8938 ≤ 8938 by omega) (hret _ _ (Option.some.inj h).symm _ _ _ _ d_M_init_201 hI)
  refine lv_if_ge (tgt := 183) hx hb d_M_init_176 (by decide) (fun c66 => ?_) (fun c66 => ?_)
  · have c66 := (lg_cmp_ge _ _).mp c66
    have h := git c66 h
    refine lv_lload_n hx hb d_M_init_183 rfl (lv_at hl 1 rfl) ?_
    refine lv_ldc2 (v := 1000) hx hb hown (hT _ wd_785 args) d_M_init_184 ?_
    refine W.lcmp hx hb d_M_init_187 ?_
    refine lv_if_le (tgt := 197) hx hb d_M_init_188 (by decide) (fun c67 => ?_) (fun c67 => ?_)
    · have c67 := (lg_cmp_le _ _).mp c67
      have h := git c67 h
      refine lv_lload_n hx hb d_M_init_197 rfl (lv_at hl 1 rfl) ?_
      exact hK198 _ w H locs ls h hI (lv_sub hl [] rfl)
    · have c67 := mt (lg_cmp_le _ _).mpr c67
      have h := gie c67 h
      refine lv_ldc2 (v := 1000) hx hb hown (hT _ wd_785 args) d_M_init_191 ?_
      refine lv_goto (tgt := 198) hx hb d_M_init_194 (by decide) ?_
      exact hK198 _ w H locs ls h hI (lv_sub hl [] rfl)
  · have c66 := mt (lg_cmp_ge _ _).mpr c66
    have h := gie c66 h
    refine lv_lconst (v := 0) hx hb d_M_init_179 (by decide) ?_
    refine lv_goto (tgt := 198) hx hb d_M_init_180 (by decide) ?_
    exact hK198 _ w H locs ls h hI (lv_sub hl [] rfl)

abbrev b_AL_size : ByteArray := prog_24_method_8_code
def y_AL_size : MethodName := ⟨"java/util/ArrayList", "size", "()I"⟩
theorem d_AL_size_0 : decode b_AL_size 0 = .ok (.aload_n 0, 1) := by decide +kernel
theorem d_AL_size_1 : decode b_AL_size 1 = .ok (.getfield 48, 3) := by decide +kernel
theorem d_AL_size_4 : decode b_AL_size 4 = .ok (.ireturn, 1) := by decide +kernel
abbrev rm_AL_size : Room := { frames := 0, cells := 0, slots := 0, locals := 0 }
theorem ce_AL_size : gCe y_AL_size (.code y_AL_size b_AL_size 1 (some .int)) 1 0 false := gCe.code wd_227 wd_53 wd_225 (by decide) (by decide +kernel)
def f_AL_size (g0 : gG) (a0 : Nat) (w : gW) : gX Int32 := (gfI w a0 1 1).bind fun v1 => some (.inr v1, w)
set_option maxHeartbeats 4000000 in
set_option maxRecDepth 100000 in
theorem m_AL_size (l : Launch) (hst : l.stackTraces = false) (D : gD) (g0 : gG) (a0 : Nat) (w : gW) (r : (String ⊕ Int32) × gW) (h : f_AL_size g0 a0 w = some r) : gMet l y_AL_size (.code y_AL_size b_AL_size 1 (some .int)) rm_AL_size D g0 [.ref a0] w (goI r) := by
  refine gw_ofI (by decide +kernel) (Nat.le_of_ble_eq_true rfl) ?_
  intro p e s m below meth c ls args A Q hx hb hml hown hlocks hin hnt hT hK hZ hA hret hexc hthr hI hl
  obtain ⟨H, hH⟩ : ∃ H, H = s.heap := ⟨_, rfl⟩
  rw [← hH] at hI ⊢
  obtain ⟨locs, hlocs⟩ : ∃ z : List Loc, z = [] := ⟨_, rfl⟩
  rw [← hlocs] at hI ⊢
  have hl : lv_has ls 1 [(0, .ref a0)] := hl
  unfold f_AL_size at h
  refine lv_aload_n hx hb d_AL_size_0 rfl (lv_at hl 0 rfl) ?_
  obtain ⟨v1, e2, h⟩ := gb h
  refine gw_getI hx hb hT hown hK hI (ci := 1) rfl i_1 1 (by decide) wd_102 (fun _ h9 => h9) e2 d_AL_size_1 ?_
  exact W.widen (show 0 ≤ 0 by omega) (show 0 ≤ 0 by omega) (hret _ _ (Option.some.inj h).symm _ _ _ _ d_AL_size_4 hI)

abbrev b_By_init : ByteArray := prog_2_method_1_code
def y_By_init : MethodName := ⟨"BodySolids$Body", "<init>", "()V"⟩
theorem d_By_init_0 : decode b_By_init 0 = .ok (.aload_n 0, 1) := by decide +kernel
theorem d_By_init_1 : decode b_By_init 1 = .ok (.invokespecial 3, 3) := by decide +kernel
theorem d_By_init_4 : decode b_By_init 4 = .ok (.aload_n 0, 1) := by decide +kernel
theorem d_By_init_5 : decode b_By_init 5 = .ok (.new 9, 3) := by decide +kernel
theorem d_By_init_8 : decode b_By_init 8 = .ok (.dup, 1) := by decide +kernel
theorem d_By_init_9 : decode b_By_init 9 = .ok (.invokespecial 11, 3) := by decide +kernel
theorem d_By_init_12 : decode b_By_init 12 = .ok (.putfield 12, 3) := by decide +kernel
theorem d_By_init_15 : decode b_By_init 15 = .ok (.aload_n 0, 1) := by decide +kernel
theorem d_By_init_16 : decode b_By_init 16 = .ok (.lconst 0, 1) := by decide +kernel
theorem d_By_init_17 : decode b_By_init 17 = .ok (.putfield 18, 3) := by decide +kernel
theorem d_By_init_20 : decode b_By_init 20 = .ok (.return_, 1) := by decide +kernel
abbrev rm_By_init : Room := { frames := 4, cells := 1, slots := 3, locals := 82 }
theorem ce_By_init : gCe y_By_init (.code y_By_init b_By_init 1 none) 1 0 false := gCe.code wd_232 wd_58 wd_231 (by decide) (by decide +kernel)
def f_By_init (g0 : gG) (a0 : Nat) (w : gW) : gX Unit := gb2f (gnw w 1 [.null, .int 0, .int 0]) fun o1 w => gbind (f_AL_init g0 o1 w) fun v5 w => (gp w a0 4 0 (.ref o1)).bind fun w => (gp w a0 4 1 (.long 0)).bind fun w => some (.inr (), w)
set_option maxHeartbeats 4000000 in
set_option maxRecDepth 100000 in
theorem m_By_init (l : Launch) (hst : l.stackTraces = false) (D : gD) (g0 : gG) (a0 : Nat) (w : gW) (r : (String ⊕ Unit) × gW) (h : f_By_init g0 a0 w = some r) : gMet l y_By_init (.code y_By_init b_By_init 1 none) rm_By_init D g0 [.ref a0] w (goV r) := by
  refine gw_ofV (by decide +kernel) (Nat.le_of_ble_eq_true rfl) ?_
  intro p e s m below meth c ls args A Q hx hb hml hown hlocks hin hnt hT hK hZ hA hret hexc hthr hI hl
  obtain ⟨H, hH⟩ : ∃ H, H = s.heap := ⟨_, rfl⟩
  rw [← hH] at hI ⊢
  obtain ⟨locs, hlocs⟩ : ∃ z : List Loc, z = [] := ⟨_, rfl⟩
  rw [← hlocs] at hI ⊢
  have hl : lv_has ls 1 [(0, .ref a0)] := hl
  unfold f_By_init at h
  refine lv_aload_n hx hb d_By_init_0 rfl (lv_at hl 0 rfl) ?_
  refine W.objInit hx hb hown (hT _ wd_233 args) (hT _ wd_78 args) (hT _ wd_79 args) rfl (by rw [hml]; exact hl.1) rfl d_By_init_1 (Nat.le_of_ble_eq_true rfl) (Nat.le_of_ble_eq_true rfl) ?_
  refine W.eq (g2 := F0 m 4 ls []) rfl ?_
  refine lv_aload_n hx hb d_By_init_4 rfl (lv_at hl 0 rfl) ?_
  obtain ⟨o1, w, e2, h⟩ := gb2 h
  refine gw_new hx hb hT hown hK hI hA (ci := 1) rfl i_1 t_1 t_1_ok wd_234 wd_88 wd_53 (fs := [.null, .int 0, .int 0]) df_1 e2 (show 0 + 1 ≤ 1 by omega) (show 0 + 3 ≤ 3 by omega) d_By_init_5 (fun H hI => ?_)
  refine W.widen (k := 1) (n := 3) (show 0 + 1 ≤ 1 by omega) (show 0 + 3 ≤ 3 by omega) ?_
  refine lv_dup hx hb d_By_init_8 rfl ?_
  obtain ⟨u3, e4⟩ := gsome h
  refine gw_callV e4 h (gw_runI (As := []) (rest := [.ref o1, .ref a0]) hx hb hml hown hT hK hZ hA hI (m_AL_init l hst D g0 o1 w u3 e4) ce_AL_init wd_235 rfl ⟨by decide, by decide⟩ rfl rfl hl.1 rfl (lv_room (Nat.le_of_ble_eq_true rfl)) d_By_init_9 ⟨(show 1 + 0 ≤ 1 by omega), (show 3 + 0 ≤ 3 by omega)⟩) hI hA hexc (show 1 + 0 ≤ 1 by omega) (show 3 + 0 ≤ 3 by omega) (fun v5 w H locs h hI => ?_)
  obtain ⟨w, e6, h⟩ := gb h
  refine gw_putF hx hb hT hown hK hI (ci := 4) rfl i_4 t_4 t_4_ok n_4 0 (by decide) wd_236 (fun _ h9 => h9) rfl hin rfl (ty := .object "java/util/ArrayList") (by decide +kernel) rfl rfl e6 d_By_init_12 (fun H locs hI => ?_)
  refine lv_aload_n hx hb d_By_init_15 rfl (lv_at hl 0 rfl) ?_
  refine lv_lconst (v := 0) hx hb d_By_init_16 (by decide) ?_
  obtain ⟨w, e7, h⟩ := gb h
  refine gw_put hx hb hT hown hK hI (ci := 4) rfl i_4 t_4 t_4_ok n_4 1 (by decide) wd_239 (fun _ h9 => h9) rfl (ty := .long) (by decide +kernel) rfl rfl e7 d_By_init_17 (fun H locs hI => ?_)
  exact W.widen (show 1 ≤ 1 by omega) (show 3 ≤ 3 by omega) (hret _ _ (Option.some.inj h).symm _ _ _ _ d_By_init_20 hI)

abbrev b_Ma_max : ByteArray := prog_17_method_65_code
def y_Ma_max : MethodName := ⟨"java/lang/Math", "max", "(II)I"⟩
theorem d_Ma_max_0 : decode b_Ma_max 0 = .ok (.iload_n 0, 1) := by decide +kernel
theorem d_Ma_max_1 : decode b_Ma_max 1 = .ok (.iload_n 1, 1) := by decide +kernel
theorem d_Ma_max_2 : decode b_Ma_max 2 = .ok (.if_icmp .lt 7, 3) := by decide +kernel
theorem d_Ma_max_5 : decode b_Ma_max 5 = .ok (.iload_n 0, 1) := by decide +kernel
theorem d_Ma_max_6 : decode b_Ma_max 6 = .ok (.goto 4, 3) := by decide +kernel
theorem d_Ma_max_9 : decode b_Ma_max 9 = .ok (.iload_n 1, 1) := by decide +kernel
theorem d_Ma_max_10 : decode b_Ma_max 10 = .ok (.ireturn, 1) := by decide +kernel
abbrev rm_Ma_max : Room := { frames := 0, cells := 0, slots := 0, locals := 0 }
theorem ce_Ma_max : gCe y_Ma_max (.code y_Ma_max b_Ma_max 2 (some .int)) 2 2 true := gCe.code wd_271 wd_50 wd_270 (by decide) (by decide +kernel)
def f_Ma_max (g0 : gG) (p0 : Int32) (p1 : Int32) (w : gW) : gX Int32 := gjoin (fun K10 => if p0 < p1 then (K10 p1 w) else (K10 p0 w)) (fun (y1 : Int32) (w : gW) => some (.inr y1, w))
set_option maxHeartbeats 4000000 in
set_option maxRecDepth 100000 in
theorem m_Ma_max (l : Launch) (hst : l.stackTraces = false) (D : gD) (g0 : gG) (p0 : Int32) (p1 : Int32) (w : gW) (r : (String ⊕ Int32) × gW) (h : f_Ma_max g0 p0 p1 w = some r) : gMet l y_Ma_max (.code y_Ma_max b_Ma_max 2 (some .int)) rm_Ma_max D g0 [.int p0, .int p1] w (goI r) := by
  refine gw_ofI (by decide +kernel) (Nat.le_of_ble_eq_true rfl) ?_
  intro p e s m below meth c ls args A Q hx hb hml hown hlocks hin hnt hT hK hZ hA hret hexc hthr hI hl
  obtain ⟨H, hH⟩ : ∃ H, H = s.heap := ⟨_, rfl⟩
  rw [← hH] at hI ⊢
  obtain ⟨locs, hlocs⟩ : ∃ z : List Loc, z = [] := ⟨_, rfl⟩
  rw [← hlocs] at hI ⊢
  have hl : lv_has ls 2 [(0, .int p0), (1, .int p1)] := hl
  unfold f_Ma_max at h
  refine lv_iload_n hx hb d_Ma_max_0 rfl (lv_at hl 0 rfl) ?_
  refine lv_iload_n hx hb d_Ma_max_1 rfl (lv_at hl 1 rfl) ?_
  obtain ⟨K10, eK10, h⟩ := gj h
  have hK10 : ∀ (y1 : Int32) (w : gW) (H : Heap) (locs : List Loc) (ls : Array Slot), K10 y1 w = some r → gI D s A w H locs → lv_has ls 2 [] → W p l e rm_Ma_max s m args below meth c H locs 0 0 Q (F0 m 10 ls [.int y1]) := by
    intro y1 w H locs ls h hI hl
    have h := gk2 eK10 h
    exact W.widen (show 0 ≤ 0 by omega) (show 0 ≤ 0 by omega) (hret _ _ (Option.some.inj h).symm _ _ _ _ d_Ma_max_10 hI)
  refine lv_icmp_lt (tgt := 9) hx hb d_Ma_max_2 (by decide) (fun c2 => ?_) (fun c2 => ?_)
  · skip
    have h := git c2 h
    refine lv_iload_n hx hb d_Ma_max_9 rfl (lv_at hl 1 rfl) ?_
    exact hK10 _ w H locs ls h hI (lv_sub hl [] rfl)
  · skip
    have h := gie c2 h
    refine lv_iload_n hx hb d_Ma_max_5 rfl (lv_at hl 0 rfl) ?_
    refine lv_goto (tgt := 10) hx hb d_Ma_max_6 (by decide) ?_
    exact hK10 _ w H locs ls h hI (lv_sub hl [] rfl)

abbrev b_As_hugeLength : ByteArray := prog_31_method_28_code
def y_As_hugeLength : MethodName := ⟨"jdk/internal/util/ArraysSupport", "hugeLength", "(II)I"⟩
theorem d_As_hugeLength_0 : decode b_As_hugeLength 0 = .ok (.iload_n 0, 1) := by decide +kernel
theorem d_As_hugeLength_1 : decode b_As_hugeLength 1 = .ok (.iload_n 1, 1) := by decide +kernel
theorem d_As_hugeLength_2 : decode b_As_hugeLength 2 = .ok (.iadd, 1) := by decide +kernel
theorem d_As_hugeLength_3 : decode b_As_hugeLength 3 = .ok (.istore_n 2, 1) := by decide +kernel
theorem d_As_hugeLength_4 : decode b_As_hugeLength 4 = .ok (.iload_n 2, 1) := by decide +kernel
theorem d_As_hugeLength_5 : decode b_As_hugeLength 5 = .ok (.ifCond .ge 44, 3) := by decide +kernel
theorem d_As_hugeLength_8 : decode b_As_hugeLength 8 = .ok (.new 204, 3) := by decide +kernel
theorem d_As_hugeLength_49 : decode b_As_hugeLength 49 = .ok (.iload_n 2, 1) := by decide +kernel
theorem d_As_hugeLength_50 : decode b_As_hugeLength 50 = .ok (.ldc 200, 2) := by decide +kernel
theorem d_As_hugeLength_52 : decode b_As_hugeLength 52 = .ok (.if_icmp .gt 6, 3) := by decide +kernel
theorem d_As_hugeLength_55 : decode b_As_hugeLength 55 = .ok (.ldc 200, 2) := by decide +kernel
theorem d_As_hugeLength_57 : decode b_As_hugeLength 57 = .ok (.ireturn, 1) := by decide +kernel
theorem d_As_hugeLength_58 : decode b_As_hugeLength 58 = .ok (.iload_n 2, 1) := by decide +kernel
theorem d_As_hugeLength_59 : decode b_As_hugeLength 59 = .ok (.ireturn, 1) := by decide +kernel
abbrev rm_As_hugeLength : Room := { frames := 0, cells := 0, slots := 0, locals := 0 }
theorem ce_As_hugeLength : gCe y_As_hugeLength (.code y_As_hugeLength b_As_hugeLength 3 (some .int)) 3 2 true := gCe.code wd_275 wd_59 wd_274 (by decide) (by decide +kernel)
def f_As_hugeLength (g0 : gG) (p0 : Int32) (p1 : Int32) (w : gW) : gX Int32 := if 0 ≤ (p0 + p1) then (if 2147483639 < (p0 + p1) then (some (.inr (p0 + p1), w)) else (some (.inr 2147483639, w))) else (none)
set_option maxHeartbeats 4000000 in
set_option maxRecDepth 100000 in
theorem m_As_hugeLength (l : Launch) (hst : l.stackTraces = false) (D : gD) (g0 : gG) (p0 : Int32) (p1 : Int32) (w : gW) (r : (String ⊕ Int32) × gW) (h : f_As_hugeLength g0 p0 p1 w = some r) : gMet l y_As_hugeLength (.code y_As_hugeLength b_As_hugeLength 3 (some .int)) rm_As_hugeLength D g0 [.int p0, .int p1] w (goI r) := by
  refine gw_ofI (by decide +kernel) (Nat.le_of_ble_eq_true rfl) ?_
  intro p e s m below meth c ls args A Q hx hb hml hown hlocks hin hnt hT hK hZ hA hret hexc hthr hI hl
  obtain ⟨H, hH⟩ : ∃ H, H = s.heap := ⟨_, rfl⟩
  rw [← hH] at hI ⊢
  obtain ⟨locs, hlocs⟩ : ∃ z : List Loc, z = [] := ⟨_, rfl⟩
  rw [← hlocs] at hI ⊢
  have hl : lv_has ls 3 [(0, .int p0), (1, .int p1)] := hl
  unfold f_As_hugeLength at h
  refine lv_iload_n hx hb d_As_hugeLength_0 rfl (lv_at hl 0 rfl) ?_
  refine lv_iload_n hx hb d_As_hugeLength_1 rfl (lv_at hl 1 rfl) ?_
  refine lv_iadd hx hb d_As_hugeLength_2 ?_
  refine lv_istore_n (lv' := [(2, .int (p0 + p1)), (0, .int p0), (1, .int p1)]) hx hb d_As_hugeLength_3 rfl hl (by decide) rfl (fun ls hl => ?_)
  refine lv_iload_n hx hb d_As_hugeLength_4 rfl (lv_at hl 0 rfl) ?_
  refine lv_if_ge (tgt := 49) hx hb d_As_hugeLength_5 (by decide) (fun c1 => ?_) (fun c1 => ?_)
  · skip
    have h := git c1 h
    refine lv_iload_n hx hb d_As_hugeLength_49 rfl (lv_at hl 0 rfl) ?_
    refine lv_ldc (v := 2147483639) hx hb hown (hT _ wd_272 args) d_As_hugeLength_50 ?_
    refine lv_icmp_gt (tgt := 58) hx hb d_As_hugeLength_52 (by decide) (fun c2 => ?_) (fun c2 => ?_)
    · skip
      have h := git c2 h
      refine lv_iload_n hx hb d_As_hugeLength_58 rfl (lv_at hl 0 rfl) ?_
      exact W.widen (show 0 ≤ 0 by omega) (show 0 ≤ 0 by omega) (hret _ _ (Option.some.inj h).symm _ _ _ _ d_As_hugeLength_59 hI)
    · skip
      have h := gie c2 h
      refine lv_ldc (v := 2147483639) hx hb hown (hT _ wd_272 args) d_As_hugeLength_55 ?_
      exact W.widen (show 0 ≤ 0 by omega) (show 0 ≤ 0 by omega) (hret _ _ (Option.some.inj h).symm _ _ _ _ d_As_hugeLength_57 hI)
  · skip
    have h := gie c1 h
    exact absurd h (by simp)

abbrev b_As_newLength : ByteArray := prog_31_method_27_code
def y_As_newLength : MethodName := ⟨"jdk/internal/util/ArraysSupport", "newLength", "(III)I"⟩
theorem d_As_newLength_0 : decode b_As_newLength 0 = .ok (.iload_n 0, 1) := by decide +kernel
theorem d_As_newLength_1 : decode b_As_newLength 1 = .ok (.iload_n 1, 1) := by decide +kernel
theorem d_As_newLength_2 : decode b_As_newLength 2 = .ok (.iload_n 2, 1) := by decide +kernel
theorem d_As_newLength_3 : decode b_As_newLength 3 = .ok (.invokestatic 194, 3) := by decide +kernel
theorem d_As_newLength_6 : decode b_As_newLength 6 = .ok (.iadd, 1) := by decide +kernel
theorem d_As_newLength_7 : decode b_As_newLength 7 = .ok (.istore_n 3, 1) := by decide +kernel
theorem d_As_newLength_8 : decode b_As_newLength 8 = .ok (.iconst 0, 1) := by decide +kernel
theorem d_As_newLength_9 : decode b_As_newLength 9 = .ok (.iload_n 3, 1) := by decide +kernel
theorem d_As_newLength_10 : decode b_As_newLength 10 = .ok (.if_icmp .ge 11, 3) := by decide +kernel
theorem d_As_newLength_13 : decode b_As_newLength 13 = .ok (.iload_n 3, 1) := by decide +kernel
theorem d_As_newLength_14 : decode b_As_newLength 14 = .ok (.ldc 200, 2) := by decide +kernel
theorem d_As_newLength_16 : decode b_As_newLength 16 = .ok (.if_icmp .gt 5, 3) := by decide +kernel
theorem d_As_newLength_19 : decode b_As_newLength 19 = .ok (.iload_n 3, 1) := by decide +kernel
theorem d_As_newLength_20 : decode b_As_newLength 20 = .ok (.ireturn, 1) := by decide +kernel
theorem d_As_newLength_21 : decode b_As_newLength 21 = .ok (.iload_n 0, 1) := by decide +kernel
theorem d_As_newLength_22 : decode b_As_newLength 22 = .ok (.iload_n 1, 1) := by decide +kernel
theorem d_As_newLength_23 : decode b_As_newLength 23 = .ok (.invokestatic 201, 3) := by decide +kernel
theorem d_As_newLength_26 : decode b_As_newLength 26 = .ok (.ireturn, 1) := by decide +kernel
abbrev rm_As_newLength : Room := { frames := 1, cells := 0, slots := 0, locals := 22 }
theorem ce_As_newLength : gCe y_As_newLength (.code y_As_newLength b_As_newLength 4 (some .int)) 4 3 true := gCe.code wd_268 wd_59 wd_267 (by decide) (by decide +kernel)
def f_As_newLength (g0 : gG) (p0 : Int32) (p1 : Int32) (p2 : Int32) (w : gW) : gX Int32 := gbind (f_Ma_max g0 p1 p2 w) fun v3 w => gjoin (fun K21 => if (p0 + v3) ≤ (0 : Int32) then (K21 w) else (if 2147483639 < (p0 + v3) then (K21 w) else (some (.inr (p0 + v3), w)))) (fun (w : gW) => gbind (f_As_hugeLength g0 p0 p1 w) fun v6 w => some (.inr v6, w))
set_option maxHeartbeats 4000000 in
set_option maxRecDepth 100000 in
theorem m_As_newLength (l : Launch) (hst : l.stackTraces = false) (D : gD) (g0 : gG) (p0 : Int32) (p1 : Int32) (p2 : Int32) (w : gW) (r : (String ⊕ Int32) × gW) (h : f_As_newLength g0 p0 p1 p2 w = some r) : gMet l y_As_newLength (.code y_As_newLength b_As_newLength 4 (some .int)) rm_As_newLength D g0 [.int p0, .int p1, .int p2] w (goI r) := by
  refine gw_ofI (by decide +kernel) (Nat.le_of_ble_eq_true rfl) ?_
  intro p e s m below meth c ls args A Q hx hb hml hown hlocks hin hnt hT hK hZ hA hret hexc hthr hI hl
  obtain ⟨H, hH⟩ : ∃ H, H = s.heap := ⟨_, rfl⟩
  rw [← hH] at hI ⊢
  obtain ⟨locs, hlocs⟩ : ∃ z : List Loc, z = [] := ⟨_, rfl⟩
  rw [← hlocs] at hI ⊢
  have hl : lv_has ls 4 [(0, .int p0), (1, .int p1), (2, .int p2)] := hl
  unfold f_As_newLength at h
  refine lv_iload_n hx hb d_As_newLength_0 rfl (lv_at hl 0 rfl) ?_
  refine lv_iload_n hx hb d_As_newLength_1 rfl (lv_at hl 1 rfl) ?_
  refine lv_iload_n hx hb d_As_newLength_2 rfl (lv_at hl 2 rfl) ?_
  obtain ⟨u1, e2⟩ := gsome h
  refine gw_callI e2 h (gw_runS (As := [.int p1, .int p2]) (rest := [.int p0]) hx hb hml hown hT hK hZ hA hI (m_Ma_max l hst D g0 p1 p2 w u1 e2) ce_Ma_max wd_269 ⟨by decide, by decide⟩ rfl rfl hl.1 rfl (lv_room (Nat.le_of_ble_eq_true rfl)) d_As_newLength_3 ⟨(show 0 + 0 ≤ 0 by omega), (show 0 + 0 ≤ 0 by omega)⟩) hI hA hexc (show 0 + 0 ≤ 0 by omega) (show 0 + 0 ≤ 0 by omega) (fun v3 w H locs h hI => ?_)
  refine lv_iadd hx hb d_As_newLength_6 ?_
  refine lv_istore_n (lv' := [(3, .int (p0 + v3)), (0, .int p0), (1, .int p1), (2, .int p2)]) hx hb d_As_newLength_7 rfl hl (by decide) rfl (fun ls hl => ?_)
  refine lv_iconst (v := 0) hx hb d_As_newLength_8 (by decide) ?_
  refine lv_iload_n hx hb d_As_newLength_9 rfl (lv_at hl 0 rfl) ?_
  obtain ⟨K21, eK21, h⟩ := gj h
  have hK21 : ∀ (w : gW) (H : Heap) (locs : List Loc) (ls : Array Slot), K21 w = some r → gI D s A w H locs → lv_has ls 4 [(0, .int p0), (1, .int p1)] → W p l e rm_As_newLength s m args below meth c H locs 0 0 Q (F0 m 21 ls []) := by
    intro w H locs ls h hI hl
    have h := gk1 eK21 h
    refine lv_iload_n hx hb d_As_newLength_21 rfl (lv_at hl 0 rfl) ?_
    refine lv_iload_n hx hb d_As_newLength_22 rfl (lv_at hl 1 rfl) ?_
    obtain ⟨u4, e5⟩ := gsome h
    refine gw_callI e5 h (gw_runS (As := [.int p0, .int p1]) (rest := []) hx hb hml hown hT hK hZ hA hI (m_As_hugeLength l hst D g0 p0 p1 w u4 e5) ce_As_hugeLength wd_273 ⟨by decide, by decide⟩ rfl rfl hl.1 rfl (lv_room (Nat.le_of_ble_eq_true rfl)) d_As_newLength_23 ⟨(show 0 + 0 ≤ 0 by omega), (show 0 + 0 ≤ 0 by omega)⟩) hI hA hexc (show 0 + 0 ≤ 0 by omega) (show 0 + 0 ≤ 0 by omega) (fun v6 w H locs h hI => ?_)
    exact W.widen (show 0 ≤ 0 by omega) (show 0 ≤ 0 by omega) (hret _ _ (Option.some.inj h).symm _ _ _ _ d_As_newLength_26 hI)
  refine lv_icmp_ge (tgt := 21) hx hb d_As_newLength_10 (by decide) (fun c7 => ?_) (fun c7 => ?_)
  · skip
    have h := git c7 h
    exact hK21 w H locs ls h hI (lv_sub hl [1, 2] rfl)
  · skip
    have h := gie c7 h
    refine lv_iload_n hx hb d_As_newLength_13 rfl (lv_at hl 0 rfl) ?_
    refine lv_ldc (v := 2147483639) hx hb hown (hT _ wd_272 args) d_As_newLength_14 ?_
    refine lv_icmp_gt (tgt := 21) hx hb d_As_newLength_16 (by decide) (fun c8 => ?_) (fun c8 => ?_)
    · skip
      have h := git c8 h
      exact hK21 w H locs ls h hI (lv_sub hl [1, 2] rfl)
    · skip
      have h := gie c8 h
      refine lv_iload_n hx hb d_As_newLength_19 rfl (lv_at hl 0 rfl) ?_
      exact W.widen (show 0 ≤ 0 by omega) (show 0 ≤ 0 by omega) (hret _ _ (Option.some.inj h).symm _ _ _ _ d_As_newLength_20 hI)

abbrev b_Ma_min : ByteArray := prog_17_method_69_code
def y_Ma_min : MethodName := ⟨"java/lang/Math", "min", "(II)I"⟩
theorem d_Ma_min_0 : decode b_Ma_min 0 = .ok (.iload_n 0, 1) := by decide +kernel
theorem d_Ma_min_1 : decode b_Ma_min 1 = .ok (.iload_n 1, 1) := by decide +kernel
theorem d_Ma_min_2 : decode b_Ma_min 2 = .ok (.if_icmp .gt 7, 3) := by decide +kernel
theorem d_Ma_min_5 : decode b_Ma_min 5 = .ok (.iload_n 0, 1) := by decide +kernel
theorem d_Ma_min_6 : decode b_Ma_min 6 = .ok (.goto 4, 3) := by decide +kernel
theorem d_Ma_min_9 : decode b_Ma_min 9 = .ok (.iload_n 1, 1) := by decide +kernel
theorem d_Ma_min_10 : decode b_Ma_min 10 = .ok (.ireturn, 1) := by decide +kernel
abbrev rm_Ma_min : Room := { frames := 0, cells := 0, slots := 0, locals := 0 }
theorem ce_Ma_min : gCe y_Ma_min (.code y_Ma_min b_Ma_min 2 (some .int)) 2 2 true := gCe.code wd_302 wd_50 wd_301 (by decide) (by decide +kernel)
def f_Ma_min (g0 : gG) (p0 : Int32) (p1 : Int32) (w : gW) : gX Int32 := gjoin (fun K10 => if p1 < p0 then (K10 p1 w) else (K10 p0 w)) (fun (y1 : Int32) (w : gW) => some (.inr y1, w))
set_option maxHeartbeats 4000000 in
set_option maxRecDepth 100000 in
theorem m_Ma_min (l : Launch) (hst : l.stackTraces = false) (D : gD) (g0 : gG) (p0 : Int32) (p1 : Int32) (w : gW) (r : (String ⊕ Int32) × gW) (h : f_Ma_min g0 p0 p1 w = some r) : gMet l y_Ma_min (.code y_Ma_min b_Ma_min 2 (some .int)) rm_Ma_min D g0 [.int p0, .int p1] w (goI r) := by
  refine gw_ofI (by decide +kernel) (Nat.le_of_ble_eq_true rfl) ?_
  intro p e s m below meth c ls args A Q hx hb hml hown hlocks hin hnt hT hK hZ hA hret hexc hthr hI hl
  obtain ⟨H, hH⟩ : ∃ H, H = s.heap := ⟨_, rfl⟩
  rw [← hH] at hI ⊢
  obtain ⟨locs, hlocs⟩ : ∃ z : List Loc, z = [] := ⟨_, rfl⟩
  rw [← hlocs] at hI ⊢
  have hl : lv_has ls 2 [(0, .int p0), (1, .int p1)] := hl
  unfold f_Ma_min at h
  refine lv_iload_n hx hb d_Ma_min_0 rfl (lv_at hl 0 rfl) ?_
  refine lv_iload_n hx hb d_Ma_min_1 rfl (lv_at hl 1 rfl) ?_
  obtain ⟨K10, eK10, h⟩ := gj h
  have hK10 : ∀ (y1 : Int32) (w : gW) (H : Heap) (locs : List Loc) (ls : Array Slot), K10 y1 w = some r → gI D s A w H locs → lv_has ls 2 [] → W p l e rm_Ma_min s m args below meth c H locs 0 0 Q (F0 m 10 ls [.int y1]) := by
    intro y1 w H locs ls h hI hl
    have h := gk2 eK10 h
    exact W.widen (show 0 ≤ 0 by omega) (show 0 ≤ 0 by omega) (hret _ _ (Option.some.inj h).symm _ _ _ _ d_Ma_min_10 hI)
  refine lv_icmp_gt (tgt := 9) hx hb d_Ma_min_2 (by decide) (fun c2 => ?_) (fun c2 => ?_)
  · skip
    have h := git c2 h
    refine lv_iload_n hx hb d_Ma_min_9 rfl (lv_at hl 1 rfl) ?_
    exact hK10 _ w H locs ls h hI (lv_sub hl [] rfl)
  · skip
    have h := gie c2 h
    refine lv_iload_n hx hb d_Ma_min_5 rfl (lv_at hl 0 rfl) ?_
    refine lv_goto (tgt := 10) hx hb d_Ma_min_6 (by decide) ?_
    exact hK10 _ w H locs ls h hI (lv_sub hl [] rfl)

abbrev b_Ar_copyOf2 : ByteArray := prog_25_method_120_code
def y_Ar_copyOf2 : MethodName := ⟨"java/util/Arrays", "copyOf", "([Ljava/lang/Object;ILjava/lang/Class;)[Ljava/lang/Object;"⟩
theorem d_Ar_copyOf2_0 : decode b_Ar_copyOf2 0 = .ok (.aload_n 2, 1) := by decide +kernel
theorem d_Ar_copyOf2_1 : decode b_Ar_copyOf2 1 = .ok (.ldc 110, 2) := by decide +kernel
theorem d_Ar_copyOf2_3 : decode b_Ar_copyOf2 3 = .ok (.if_acmp .ne 10, 3) := by decide +kernel
theorem d_Ar_copyOf2_6 : decode b_Ar_copyOf2 6 = .ok (.iload_n 1, 1) := by decide +kernel
theorem d_Ar_copyOf2_7 : decode b_Ar_copyOf2 7 = .ok (.anewarray 2, 3) := by decide +kernel
theorem d_Ar_copyOf2_10 : decode b_Ar_copyOf2 10 = .ok (.goto 14, 3) := by decide +kernel
theorem d_Ar_copyOf2_13 : decode b_Ar_copyOf2 13 = .ok (.aload_n 2, 1) := by decide +kernel
theorem d_Ar_copyOf2_14 : decode b_Ar_copyOf2 14 = .ok (.invokevirtual 90, 3) := by decide +kernel
theorem d_Ar_copyOf2_24 : decode b_Ar_copyOf2 24 = .ok (.astore_n 3, 1) := by decide +kernel
theorem d_Ar_copyOf2_25 : decode b_Ar_copyOf2 25 = .ok (.aload_n 0, 1) := by decide +kernel
theorem d_Ar_copyOf2_26 : decode b_Ar_copyOf2 26 = .ok (.iconst 0, 1) := by decide +kernel
theorem d_Ar_copyOf2_27 : decode b_Ar_copyOf2 27 = .ok (.aload_n 3, 1) := by decide +kernel
theorem d_Ar_copyOf2_28 : decode b_Ar_copyOf2 28 = .ok (.iconst 0, 1) := by decide +kernel
theorem d_Ar_copyOf2_29 : decode b_Ar_copyOf2 29 = .ok (.aload_n 0, 1) := by decide +kernel
theorem d_Ar_copyOf2_30 : decode b_Ar_copyOf2 30 = .ok (.arraylength, 1) := by decide +kernel
theorem d_Ar_copyOf2_31 : decode b_Ar_copyOf2 31 = .ok (.iload_n 1, 1) := by decide +kernel
theorem d_Ar_copyOf2_32 : decode b_Ar_copyOf2 32 = .ok (.invokestatic 304, 3) := by decide +kernel
theorem d_Ar_copyOf2_35 : decode b_Ar_copyOf2 35 = .ok (.invokestatic 150, 3) := by decide +kernel
theorem d_Ar_copyOf2_38 : decode b_Ar_copyOf2 38 = .ok (.aload_n 3, 1) := by decide +kernel
theorem d_Ar_copyOf2_39 : decode b_Ar_copyOf2 39 = .ok (.areturn, 1) := by decide +kernel
abbrev rm_Ar_copyOf2 : Room := { frames := 1, cells := 1, slots := 64, locals := 48 }
theorem ce_Ar_copyOf2 : gCe y_Ar_copyOf2 (.code y_Ar_copyOf2 b_Ar_copyOf2 4 (some (.array (.object "java/lang/Object")))) 4 3 true := gCe.code wd_296 wd_54 wd_295 (by decide) (by decide +kernel)
def f_Ar_copyOf2 (g0 : gG) (a0 : Nat) (p1 : Int32) (a2 : Nat) (w : gW) : gX Nat := if a2 = (g0.2) then (gb2f (gna w 3 p1 64 .null) fun o2 w => (gal w a0).bind fun v4 => gbind (f_Ma_min g0 v4 p1 w) fun v8 w => (gcp w a0 0 o2 0 v8).bind fun w => some (.inr o2, w)) else (none)
set_option maxHeartbeats 4000000 in
set_option maxRecDepth 100000 in
theorem m_Ar_copyOf2 (l : Launch) (hst : l.stackTraces = false) (D : gD) (g0 : gG) (a0 : Nat) (p1 : Int32) (a2 : Nat) (w : gW) (r : (String ⊕ Nat) × gW) (h : f_Ar_copyOf2 g0 a0 p1 a2 w = some r) : gMet l y_Ar_copyOf2 (.code y_Ar_copyOf2 b_Ar_copyOf2 4 (some (.array (.object "java/lang/Object")))) rm_Ar_copyOf2 D g0 [.ref a0, .int p1, .ref a2] w (goA r) := by
  refine gw_ofA (by decide +kernel) (Nat.le_of_ble_eq_true rfl) (Or.inr ⟨_, rfl⟩) ?_
  intro p e s m below meth c ls args A Q hx hb hml hown hlocks hin hnt hT hK hZ hA hret hexc hthr hI hl
  obtain ⟨H, hH⟩ : ∃ H, H = s.heap := ⟨_, rfl⟩
  rw [← hH] at hI ⊢
  obtain ⟨locs, hlocs⟩ : ∃ z : List Loc, z = [] := ⟨_, rfl⟩
  rw [← hlocs] at hI ⊢
  have hl : lv_has ls 4 [(0, .ref a0), (1, .int p1), (2, .ref a2)] := hl
  unfold f_Ar_copyOf2 at h
  refine lv_aload_n hx hb d_Ar_copyOf2_0 rfl (lv_at hl 2 rfl) ?_
  refine gw_ldcM hx hb hT hown hZ wd_297 d_Ar_copyOf2_1 ?_
  refine gw_acmp_ne (tgt := 13) hx hb d_Ar_copyOf2_3 (by decide) (fun c1 => ?_) (fun c1 => ?_)
  · skip
    have h := gie c1 h
    exact absurd h (by simp)
  · skip
    have h := git c1 h
    refine lv_iload_n hx hb d_Ar_copyOf2_6 rfl (lv_at hl 1 rfl) ?_
    obtain ⟨o2, w, e3, h⟩ := gb2 h
    refine gw_anew (M := 64) hx hb hown hK hI hA (hT _ wd_299 args) (hT _ wd_298 args) (k := 3) rfl e3 (show 0 + 1 ≤ 1 by omega) (show 0 + 64 ≤ 64 by omega) (show 64 * 4 ≤ 536870912 by omega) d_Ar_copyOf2_7 (fun H hI => ?_)
    refine W.widen (k := 1) (n := 64) (show 0 + 1 ≤ 1 by omega) (show 0 + 64 ≤ 64 by omega) ?_
    refine lv_goto (tgt := 24) hx hb d_Ar_copyOf2_10 (by decide) ?_
    refine lv_astore_n (lv' := [(3, .ref o2), (0, .ref a0), (1, .int p1), (2, .ref a2)]) hx hb d_Ar_copyOf2_24 rfl hl (by decide) rfl (fun ls hl => ?_)
    refine lv_aload_n hx hb d_Ar_copyOf2_25 rfl (lv_at hl 1 rfl) ?_
    refine lv_iconst (v := 0) hx hb d_Ar_copyOf2_26 (by decide) ?_
    refine lv_aload_n hx hb d_Ar_copyOf2_27 rfl (lv_at hl 0 rfl) ?_
    refine lv_iconst (v := 0) hx hb d_Ar_copyOf2_28 (by decide) ?_
    refine lv_aload_n hx hb d_Ar_copyOf2_29 rfl (lv_at hl 1 rfl) ?_
    obtain ⟨v4, e5, h⟩ := gb h
    refine gw_alen hx hb hK hI e5 d_Ar_copyOf2_30 ?_
    refine lv_iload_n hx hb d_Ar_copyOf2_31 rfl (lv_at hl 2 rfl) ?_
    obtain ⟨u6, e7⟩ := gsome h
    refine gw_callI e7 h (gw_runS (As := [.int v4, .int p1]) (rest := [.int 0, .ref o2, .int 0, .ref a0]) hx hb hml hown hT hK hZ hA hI (m_Ma_min l hst D g0 v4 p1 w u6 e7) ce_Ma_min wd_300 ⟨by decide, by decide⟩ rfl rfl hl.1 rfl (lv_room (Nat.le_of_ble_eq_true rfl)) d_Ar_copyOf2_32 ⟨(show 1 + 0 ≤ 1 by omega), (show 64 + 0 ≤ 64 by omega)⟩) hI hA hexc (show 1 + 0 ≤ 1 by omega) (show 64 + 0 ≤ 64 by omega) (fun v8 w H locs h hI => ?_)
    obtain ⟨w, e9, h⟩ := gb h
    refine gw_copy hx hb (hml.trans hl.1.symm) hT hown hK hI e9 wd_303 wd_305 wd_304 wd_60 (Nat.le_of_ble_eq_true rfl) (by decide) d_Ar_copyOf2_35 (fun H locs hI => ?_)
    refine lv_aload_n hx hb d_Ar_copyOf2_38 rfl (lv_at hl 0 rfl) ?_
    exact W.widen (show 1 ≤ 1 by omega) (show 64 ≤ 64 by omega) (hret _ _ (Option.some.inj h).symm _ _ _ _ d_Ar_copyOf2_39 hI)

abbrev b_Ar_copyOf : ByteArray := prog_25_method_119_code
def y_Ar_copyOf : MethodName := ⟨"java/util/Arrays", "copyOf", "([Ljava/lang/Object;I)[Ljava/lang/Object;"⟩
theorem d_Ar_copyOf_0 : decode b_Ar_copyOf 0 = .ok (.aload_n 0, 1) := by decide +kernel
theorem d_Ar_copyOf_1 : decode b_Ar_copyOf 1 = .ok (.iload_n 1, 1) := by decide +kernel
theorem d_Ar_copyOf_2 : decode b_Ar_copyOf 2 = .ok (.aload_n 0, 1) := by decide +kernel
theorem d_Ar_copyOf_3 : decode b_Ar_copyOf 3 = .ok (.invokevirtual 86, 3) := by decide +kernel
theorem d_Ar_copyOf_6 : decode b_Ar_copyOf 6 = .ok (.invokestatic 300, 3) := by decide +kernel
theorem d_Ar_copyOf_9 : decode b_Ar_copyOf 9 = .ok (.areturn, 1) := by decide +kernel
abbrev rm_Ar_copyOf : Room := { frames := 2, cells := 1, slots := 64, locals := 71 }
theorem ce_Ar_copyOf : gCe y_Ar_copyOf (.code y_Ar_copyOf b_Ar_copyOf 2 (some (.array (.object "java/lang/Object")))) 2 2 true := gCe.code wd_278 wd_54 wd_277 (by decide) (by decide +kernel)
def f_Ar_copyOf (g0 : gG) (a0 : Nat) (p1 : Int32) (w : gW) : gX Nat := (gkd w a0 3).bind fun _ => gbind (f_Ar_copyOf2 g0 a0 p1 (g0.2) w) fun v5 w => some (.inr v5, w)
set_option maxHeartbeats 4000000 in
set_option maxRecDepth 100000 in
theorem m_Ar_copyOf (l : Launch) (hst : l.stackTraces = false) (D : gD) (g0 : gG) (a0 : Nat) (p1 : Int32) (w : gW) (r : (String ⊕ Nat) × gW) (h : f_Ar_copyOf g0 a0 p1 w = some r) : gMet l y_Ar_copyOf (.code y_Ar_copyOf b_Ar_copyOf 2 (some (.array (.object "java/lang/Object")))) rm_Ar_copyOf D g0 [.ref a0, .int p1] w (goA r) := by
  refine gw_ofA (by decide +kernel) (Nat.le_of_ble_eq_true rfl) (Or.inr ⟨_, rfl⟩) ?_
  intro p e s m below meth c ls args A Q hx hb hml hown hlocks hin hnt hT hK hZ hA hret hexc hthr hI hl
  obtain ⟨H, hH⟩ : ∃ H, H = s.heap := ⟨_, rfl⟩
  rw [← hH] at hI ⊢
  obtain ⟨locs, hlocs⟩ : ∃ z : List Loc, z = [] := ⟨_, rfl⟩
  rw [← hlocs] at hI ⊢
  have hl : lv_has ls 2 [(0, .ref a0), (1, .int p1)] := hl
  unfold f_Ar_copyOf at h
  refine lv_aload_n hx hb d_Ar_copyOf_0 rfl (lv_at hl 0 rfl) ?_
  refine lv_iload_n hx hb d_Ar_copyOf_1 rfl (lv_at hl 1 rfl) ?_
  refine lv_aload_n hx hb d_Ar_copyOf_2 rfl (lv_at hl 0 rfl) ?_
  obtain ⟨q1, e2, h⟩ := gb h
  refine gw_getC hx hb (hml.trans hl.1.symm) hT hown hK hZ hI e2 wd_279 wd_1129 wd_1128 wd_280 wd_293 (Nat.le_of_ble_eq_true rfl) (Nat.le_of_ble_eq_true rfl) d_Ar_copyOf_3 ?_
  obtain ⟨u3, e4⟩ := gsome h
  refine gw_callA e4 h (gw_runS (As := [.ref a0, .int p1, .ref (g0.2)]) (rest := []) hx hb hml hown hT hK hZ hA hI (m_Ar_copyOf2 l hst D g0 a0 p1 (g0.2) w u3 e4) ce_Ar_copyOf2 wd_294 ⟨by decide, by decide⟩ rfl rfl hl.1 rfl (lv_room (Nat.le_of_ble_eq_true rfl)) d_Ar_copyOf_6 ⟨(show 0 + 1 ≤ 1 by omega), (show 0 + 64 ≤ 64 by omega)⟩) hI hA hexc (show 0 + 1 ≤ 1 by omega) (show 0 + 64 ≤ 64 by omega) (fun v5 w H locs h hI => ?_)
  refine W.widen (k := 1) (n := 64) (show 0 + 1 ≤ 1 by omega) (show 0 + 64 ≤ 64 by omega) ?_
  exact W.widen (show 1 ≤ 1 by omega) (show 64 ≤ 64 by omega) (hret _ _ (Option.some.inj h).symm _ _ _ _ d_Ar_copyOf_9 hI)

abbrev b_AL_grow2 : ByteArray := prog_24_method_6_code
def y_AL_grow2 : MethodName := ⟨"java/util/ArrayList", "grow", "(I)[Ljava/lang/Object;"⟩
theorem d_AL_grow2_0 : decode b_AL_grow2 0 = .ok (.aload_n 0, 1) := by decide +kernel
theorem d_AL_grow2_1 : decode b_AL_grow2 1 = .ok (.getfield 9, 3) := by decide +kernel
theorem d_AL_grow2_4 : decode b_AL_grow2 4 = .ok (.arraylength, 1) := by decide +kernel
theorem d_AL_grow2_5 : decode b_AL_grow2 5 = .ok (.istore_n 2, 1) := by decide +kernel
theorem d_AL_grow2_6 : decode b_AL_grow2 6 = .ok (.iload_n 2, 1) := by decide +kernel
theorem d_AL_grow2_7 : decode b_AL_grow2 7 = .ok (.ifCond .gt 13, 3) := by decide +kernel
theorem d_AL_grow2_10 : decode b_AL_grow2 10 = .ok (.aload_n 0, 1) := by decide +kernel
theorem d_AL_grow2_11 : decode b_AL_grow2 11 = .ok (.getfield 9, 3) := by decide +kernel
theorem d_AL_grow2_14 : decode b_AL_grow2 14 = .ok (.getstatic 39, 3) := by decide +kernel
theorem d_AL_grow2_17 : decode b_AL_grow2 17 = .ok (.if_acmp .eq 28, 3) := by decide +kernel
theorem d_AL_grow2_20 : decode b_AL_grow2 20 = .ok (.iload_n 2, 1) := by decide +kernel
theorem d_AL_grow2_21 : decode b_AL_grow2 21 = .ok (.iload_n 1, 1) := by decide +kernel
theorem d_AL_grow2_22 : decode b_AL_grow2 22 = .ok (.iload_n 2, 1) := by decide +kernel
theorem d_AL_grow2_23 : decode b_AL_grow2 23 = .ok (.isub, 1) := by decide +kernel
theorem d_AL_grow2_24 : decode b_AL_grow2 24 = .ok (.iload_n 2, 1) := by decide +kernel
theorem d_AL_grow2_25 : decode b_AL_grow2 25 = .ok (.iconst 1, 1) := by decide +kernel
theorem d_AL_grow2_26 : decode b_AL_grow2 26 = .ok (.ishr, 1) := by decide +kernel
theorem d_AL_grow2_27 : decode b_AL_grow2 27 = .ok (.invokestatic 73, 3) := by decide +kernel
theorem d_AL_grow2_30 : decode b_AL_grow2 30 = .ok (.istore_n 3, 1) := by decide +kernel
theorem d_AL_grow2_31 : decode b_AL_grow2 31 = .ok (.aload_n 0, 1) := by decide +kernel
theorem d_AL_grow2_32 : decode b_AL_grow2 32 = .ok (.aload_n 0, 1) := by decide +kernel
theorem d_AL_grow2_33 : decode b_AL_grow2 33 = .ok (.getfield 9, 3) := by decide +kernel
theorem d_AL_grow2_36 : decode b_AL_grow2 36 = .ok (.iload_n 3, 1) := by decide +kernel
theorem d_AL_grow2_37 : decode b_AL_grow2 37 = .ok (.invokestatic 66, 3) := by decide +kernel
theorem d_AL_grow2_40 : decode b_AL_grow2 40 = .ok (.dup_x1, 1) := by decide +kernel
theorem d_AL_grow2_41 : decode b_AL_grow2 41 = .ok (.putfield 9, 3) := by decide +kernel
theorem d_AL_grow2_44 : decode b_AL_grow2 44 = .ok (.areturn, 1) := by decide +kernel
theorem d_AL_grow2_45 : decode b_AL_grow2 45 = .ok (.aload_n 0, 1) := by decide +kernel
theorem d_AL_grow2_46 : decode b_AL_grow2 46 = .ok (.bipush 10, 2) := by decide +kernel
theorem d_AL_grow2_48 : decode b_AL_grow2 48 = .ok (.iload_n 1, 1) := by decide +kernel
theorem d_AL_grow2_49 : decode b_AL_grow2 49 = .ok (.invokestatic 79, 3) := by decide +kernel
theorem d_AL_grow2_52 : decode b_AL_grow2 52 = .ok (.anewarray 7, 3) := by decide +kernel
theorem d_AL_grow2_55 : decode b_AL_grow2 55 = .ok (.dup_x1, 1) := by decide +kernel
theorem d_AL_grow2_56 : decode b_AL_grow2 56 = .ok (.putfield 9, 3) := by decide +kernel
theorem d_AL_grow2_59 : decode b_AL_grow2 59 = .ok (.areturn, 1) := by decide +kernel
abbrev rm_AL_grow2 : Room := { frames := 3, cells := 1, slots := 64, locals := 92 }
theorem ce_AL_grow2 : gCe y_AL_grow2 (.code y_AL_grow2 b_AL_grow2 4 (some (.array (.object "java/lang/Object")))) 4 1 false := gCe.code wd_265 wd_53 wd_264 (by decide) (by decide +kernel)
def f_AL_grow2 (g0 : gG) (a0 : Nat) (p1 : Int32) (w : gW) : gX Nat := (gfA w a0 1 0).bind fun v1 => (gal w v1).bind fun v3 => gjoin (fun K20 => if 0 < v3 then (K20 w) else ((gfA w a0 1 0).bind fun v15 => if v15 = (g0.1) then (gbind (f_Ma_max g0 10 p1 w) fun v20 w => gb2f (gna w 3 v20 64 .null) fun o21 w => (gp w a0 1 0 (.ref o21)).bind fun w => some (.inr o21, w)) else (K20 w))) (fun (w : gW) => gbind (f_As_newLength g0 v3 (p1 - v3) (v3 >>> (1 &&& 31)) w) fun v7 w => (gfA w a0 1 0).bind fun v8 => gbind (f_Ar_copyOf g0 v8 v7 w) fun v12 w => (gp w a0 1 0 (.ref v12)).bind fun w => some (.inr v12, w))
set_option maxHeartbeats 4000000 in
set_option maxRecDepth 100000 in
theorem m_AL_grow2 (l : Launch) (hst : l.stackTraces = false) (D : gD) (g0 : gG) (a0 : Nat) (p1 : Int32) (w : gW) (r : (String ⊕ Nat) × gW) (h : f_AL_grow2 g0 a0 p1 w = some r) : gMet l y_AL_grow2 (.code y_AL_grow2 b_AL_grow2 4 (some (.array (.object "java/lang/Object")))) rm_AL_grow2 D g0 [.ref a0, .int p1] w (goA r) := by
  refine gw_ofA (by decide +kernel) (Nat.le_of_ble_eq_true rfl) (Or.inr ⟨_, rfl⟩) ?_
  intro p e s m below meth c ls args A Q hx hb hml hown hlocks hin hnt hT hK hZ hA hret hexc hthr hI hl
  obtain ⟨H, hH⟩ : ∃ H, H = s.heap := ⟨_, rfl⟩
  rw [← hH] at hI ⊢
  obtain ⟨locs, hlocs⟩ : ∃ z : List Loc, z = [] := ⟨_, rfl⟩
  rw [← hlocs] at hI ⊢
  have hl : lv_has ls 4 [(0, .ref a0), (1, .int p1)] := hl
  unfold f_AL_grow2 at h
  refine lv_aload_n hx hb d_AL_grow2_0 rfl (lv_at hl 0 rfl) ?_
  obtain ⟨v1, e2, h⟩ := gb h
  refine gw_getA hx hb hT hown hK hI (ci := 1) rfl i_1 0 (by decide) wd_101 (fun _ h9 => h9) e2 d_AL_grow2_1 ?_
  obtain ⟨v3, e4, h⟩ := gb h
  refine gw_alen hx hb hK hI e4 d_AL_grow2_4 ?_
  refine lv_istore_n (lv' := [(2, .int v3), (0, .ref a0), (1, .int p1)]) hx hb d_AL_grow2_5 rfl hl (by decide) rfl (fun ls hl => ?_)
  refine lv_iload_n hx hb d_AL_grow2_6 rfl (lv_at hl 0 rfl) ?_
  obtain ⟨K20, eK20, h⟩ := gj h
  have hK20 : ∀ (w : gW) (H : Heap) (locs : List Loc) (ls : Array Slot), K20 w = some r → gI D s A w H locs → lv_has ls 4 [(0, .ref a0), (1, .int p1), (2, .int v3)] → W p l e rm_AL_grow2 s m args below meth c H locs 0 0 Q (F0 m 20 ls []) := by
    intro w H locs ls h hI hl
    have h := gk1 eK20 h
    refine lv_iload_n hx hb d_AL_grow2_20 rfl (lv_at hl 2 rfl) ?_
    refine lv_iload_n hx hb d_AL_grow2_21 rfl (lv_at hl 1 rfl) ?_
    refine lv_iload_n hx hb d_AL_grow2_22 rfl (lv_at hl 2 rfl) ?_
    refine lv_isub hx hb d_AL_grow2_23 ?_
    refine lv_iload_n hx hb d_AL_grow2_24 rfl (lv_at hl 2 rfl) ?_
    refine lv_iconst (v := 1) hx hb d_AL_grow2_25 (by decide) ?_
    refine lv_ishr hx hb d_AL_grow2_26 ?_
    obtain ⟨u5, e6⟩ := gsome h
    refine gw_callI e6 h (gw_runS (As := [.int v3, .int (p1 - v3), .int (v3 >>> (1 &&& 31))]) (rest := []) hx hb hml hown hT hK hZ hA hI (m_As_newLength l hst D g0 v3 (p1 - v3) (v3 >>> (1 &&& 31)) w u5 e6) ce_As_newLength wd_266 ⟨by decide, by decide⟩ rfl rfl hl.1 rfl (lv_room (Nat.le_of_ble_eq_true rfl)) d_AL_grow2_27 ⟨(show 0 + 0 ≤ 1 by omega), (show 0 + 0 ≤ 64 by omega)⟩) hI hA hexc (show 0 + 0 ≤ 1 by omega) (show 0 + 0 ≤ 64 by omega) (fun v7 w H locs h hI => ?_)
    refine lv_istore_n (lv' := [(3, .int v7), (0, .ref a0), (1, .int p1), (2, .int v3)]) hx hb d_AL_grow2_30 rfl hl (by decide) rfl (fun ls hl => ?_)
    refine lv_aload_n hx hb d_AL_grow2_31 rfl (lv_at hl 1 rfl) ?_
    refine lv_aload_n hx hb d_AL_grow2_32 rfl (lv_at hl 1 rfl) ?_
    obtain ⟨v8, e9, h⟩ := gb h
    refine gw_getA hx hb hT hown hK hI (ci := 1) rfl i_1 0 (by decide) wd_101 (fun _ h9 => h9) e9 d_AL_grow2_33 ?_
    refine lv_iload_n hx hb d_AL_grow2_36 rfl (lv_at hl 0 rfl) ?_
    obtain ⟨u10, e11⟩ := gsome h
    refine gw_callA e11 h (gw_runS (As := [.ref v8, .int v7]) (rest := [.ref a0]) hx hb hml hown hT hK hZ hA hI (m_Ar_copyOf l hst D g0 v8 v7 w u10 e11) ce_Ar_copyOf wd_276 ⟨by decide, by decide⟩ rfl rfl hl.1 rfl (lv_room (Nat.le_of_ble_eq_true rfl)) d_AL_grow2_37 ⟨(show 0 + 1 ≤ 1 by omega), (show 0 + 64 ≤ 64 by omega)⟩) hI hA hexc (show 0 + 1 ≤ 1 by omega) (show 0 + 64 ≤ 64 by omega) (fun v12 w H locs h hI => ?_)
    refine W.widen (k := 1) (n := 64) (show 0 + 1 ≤ 1 by omega) (show 0 + 64 ≤ 64 by omega) ?_
    refine lv_dup_x1 hx hb d_AL_grow2_40 rfl rfl ?_
    obtain ⟨w, e13, h⟩ := gb h
    refine gw_put hx hb hT hown hK hI (ci := 1) rfl i_1 t_1 t_1_ok n_1 0 (by decide) wd_101 (fun _ h9 => h9) rfl (ty := .array (.object "java/lang/Object")) (by decide +kernel) rfl rfl e13 d_AL_grow2_41 (fun H locs hI => ?_)
    exact W.widen (show 1 ≤ 1 by omega) (show 64 ≤ 64 by omega) (hret _ _ (Option.some.inj h).symm _ _ _ _ d_AL_grow2_44 hI)
  refine lv_if_gt (tgt := 20) hx hb d_AL_grow2_7 (by decide) (fun c14 => ?_) (fun c14 => ?_)
  · skip
    have h := git c14 h
    exact hK20 w H locs ls h hI (lv_sub hl [1, 2, 0] rfl)
  · skip
    have h := gie c14 h
    refine lv_aload_n hx hb d_AL_grow2_10 rfl (lv_at hl 1 rfl) ?_
    obtain ⟨v15, e16, h⟩ := gb h
    refine gw_getA hx hb hT hown hK hI (ci := 1) rfl i_1 0 (by decide) wd_101 (fun _ h9 => h9) e16 d_AL_grow2_11 ?_
    refine gw_gets hx hb hT hown hZ hI wd_99 d_AL_grow2_14 ?_
    refine gw_acmp_eq (tgt := 45) hx hb d_AL_grow2_17 (by decide) (fun c17 => ?_) (fun c17 => ?_)
    · skip
      have h := git c17 h
      refine lv_aload_n hx hb d_AL_grow2_45 rfl (lv_at hl 1 rfl) ?_
      refine lv_bipush (v := 10) hx hb d_AL_grow2_46 (by decide) ?_
      refine lv_iload_n hx hb d_AL_grow2_48 rfl (lv_at hl 2 rfl) ?_
      obtain ⟨u18, e19⟩ := gsome h
      refine gw_callI e19 h (gw_runS (As := [.int 10, .int p1]) (rest := [.ref a0]) hx hb hml hown hT hK hZ hA hI (m_Ma_max l hst D g0 10 p1 w u18 e19) ce_Ma_max wd_306 ⟨by decide, by decide⟩ rfl rfl hl.1 rfl (lv_room (Nat.le_of_ble_eq_true rfl)) d_AL_grow2_49 ⟨(show 0 + 0 ≤ 1 by omega), (show 0 + 0 ≤ 64 by omega)⟩) hI hA hexc (show 0 + 0 ≤ 1 by omega) (show 0 + 0 ≤ 64 by omega) (fun v20 w H locs h hI => ?_)
      obtain ⟨o21, w, e22, h⟩ := gb2 h
      refine gw_anew (M := 64) hx hb hown hK hI hA (hT _ wd_307 args) (hT _ wd_298 args) (k := 3) rfl e22 (show 0 + 1 ≤ 1 by omega) (show 0 + 64 ≤ 64 by omega) (show 64 * 4 ≤ 536870912 by omega) d_AL_grow2_52 (fun H hI => ?_)
      refine W.widen (k := 1) (n := 64) (show 0 + 1 ≤ 1 by omega) (show 0 + 64 ≤ 64 by omega) ?_
      refine lv_dup_x1 hx hb d_AL_grow2_55 rfl rfl ?_
      obtain ⟨w, e23, h⟩ := gb h
      refine gw_put hx hb hT hown hK hI (ci := 1) rfl i_1 t_1 t_1_ok n_1 0 (by decide) wd_101 (fun _ h9 => h9) rfl (ty := .array (.object "java/lang/Object")) (by decide +kernel) rfl rfl e23 d_AL_grow2_56 (fun H locs hI => ?_)
      exact W.widen (show 1 ≤ 1 by omega) (show 64 ≤ 64 by omega) (hret _ _ (Option.some.inj h).symm _ _ _ _ d_AL_grow2_59 hI)
    · skip
      have h := gie c17 h
      exact hK20 w H locs ls h hI (lv_sub hl [1, 2, 0] rfl)

abbrev b_AL_grow : ByteArray := prog_24_method_7_code
def y_AL_grow : MethodName := ⟨"java/util/ArrayList", "grow", "()[Ljava/lang/Object;"⟩
theorem d_AL_grow_0 : decode b_AL_grow 0 = .ok (.aload_n 0, 1) := by decide +kernel
theorem d_AL_grow_1 : decode b_AL_grow 1 = .ok (.aload_n 0, 1) := by decide +kernel
theorem d_AL_grow_2 : decode b_AL_grow 2 = .ok (.getfield 48, 3) := by decide +kernel
theorem d_AL_grow_5 : decode b_AL_grow 5 = .ok (.iconst 1, 1) := by decide +kernel
theorem d_AL_grow_6 : decode b_AL_grow 6 = .ok (.iadd, 1) := by decide +kernel
theorem d_AL_grow_7 : decode b_AL_grow 7 = .ok (.invokevirtual 69, 3) := by decide +kernel
theorem d_AL_grow_10 : decode b_AL_grow 10 = .ok (.areturn, 1) := by decide +kernel
abbrev rm_AL_grow : Room := { frames := 4, cells := 1, slots := 64, locals := 115 }
theorem ce_AL_grow : gCe y_AL_grow (.code y_AL_grow b_AL_grow 1 (some (.array (.object "java/lang/Object")))) 1 0 false := gCe.code wd_261 wd_53 wd_260 (by decide) (by decide +kernel)
def f_AL_grow (g0 : gG) (a0 : Nat) (w : gW) : gX Nat := (gfI w a0 1 1).bind fun v1 => (gck w a0 1).bind fun _ => gbind (f_AL_grow2 g0 a0 (v1 + 1) w) fun v7 w => some (.inr v7, w)
set_option maxHeartbeats 4000000 in
set_option maxRecDepth 100000 in
theorem m_AL_grow (l : Launch) (hst : l.stackTraces = false) (D : gD) (g0 : gG) (a0 : Nat) (w : gW) (r : (String ⊕ Nat) × gW) (h : f_AL_grow g0 a0 w = some r) : gMet l y_AL_grow (.code y_AL_grow b_AL_grow 1 (some (.array (.object "java/lang/Object")))) rm_AL_grow D g0 [.ref a0] w (goA r) := by
  refine gw_ofA (by decide +kernel) (Nat.le_of_ble_eq_true rfl) (Or.inr ⟨_, rfl⟩) ?_
  intro p e s m below meth c ls args A Q hx hb hml hown hlocks hin hnt hT hK hZ hA hret hexc hthr hI hl
  obtain ⟨H, hH⟩ : ∃ H, H = s.heap := ⟨_, rfl⟩
  rw [← hH] at hI ⊢
  obtain ⟨locs, hlocs⟩ : ∃ z : List Loc, z = [] := ⟨_, rfl⟩
  rw [← hlocs] at hI ⊢
  have hl : lv_has ls 1 [(0, .ref a0)] := hl
  unfold f_AL_grow at h
  refine lv_aload_n hx hb d_AL_grow_0 rfl (lv_at hl 0 rfl) ?_
  refine lv_aload_n hx hb d_AL_grow_1 rfl (lv_at hl 0 rfl) ?_
  obtain ⟨v1, e2, h⟩ := gb h
  refine gw_getI hx hb hT hown hK hI (ci := 1) rfl i_1 1 (by decide) wd_102 (fun _ h9 => h9) e2 d_AL_grow_2 ?_
  refine lv_iconst (v := 1) hx hb d_AL_grow_5 (by decide) ?_
  refine lv_iadd hx hb d_AL_grow_6 ?_
  obtain ⟨q5, e6, h⟩ := gb h
  obtain ⟨u3, e4⟩ := gsome h
  refine gw_callA e4 h (gw_runV (As := [.int (v1 + 1)]) (rest := []) hx hb hml hown hT hK hZ hA hI (ci := 1) rfl e6 (m_AL_grow2 l hst D g0 a0 (v1 + 1) w u3 e4) ce_AL_grow2 wd_262 wd_3 ⟨by decide, by decide⟩ rfl rfl hl.1 rfl (lv_room (Nat.le_of_ble_eq_true rfl)) d_AL_grow_7 ⟨(show 0 + 1 ≤ 1 by omega), (show 0 + 64 ≤ 64 by omega)⟩) hI hA hexc (show 0 + 1 ≤ 1 by omega) (show 0 + 64 ≤ 64 by omega) (fun v7 w H locs h hI => ?_)
  refine W.widen (k := 1) (n := 64) (show 0 + 1 ≤ 1 by omega) (show 0 + 64 ≤ 64 by omega) ?_
  exact W.widen (show 1 ≤ 1 by omega) (show 64 ≤ 64 by omega) (hret _ _ (Option.some.inj h).symm _ _ _ _ d_AL_grow_10 hI)

abbrev b_AL_add2 : ByteArray := prog_24_method_24_code
def y_AL_add2 : MethodName := ⟨"java/util/ArrayList", "add", "(Ljava/lang/Object;[Ljava/lang/Object;I)V"⟩
theorem d_AL_add2_0 : decode b_AL_add2 0 = .ok (.iload_n 3, 1) := by decide +kernel
theorem d_AL_add2_1 : decode b_AL_add2 1 = .ok (.aload_n 2, 1) := by decide +kernel
theorem d_AL_add2_2 : decode b_AL_add2 2 = .ok (.arraylength, 1) := by decide +kernel
theorem d_AL_add2_3 : decode b_AL_add2 3 = .ok (.if_icmp .ne 8, 3) := by decide +kernel
theorem d_AL_add2_6 : decode b_AL_add2 6 = .ok (.aload_n 0, 1) := by decide +kernel
theorem d_AL_add2_7 : decode b_AL_add2 7 = .ok (.invokevirtual 129, 3) := by decide +kernel
theorem d_AL_add2_10 : decode b_AL_add2 10 = .ok (.astore_n 2, 1) := by decide +kernel
theorem d_AL_add2_11 : decode b_AL_add2 11 = .ok (.aload_n 2, 1) := by decide +kernel
theorem d_AL_add2_12 : decode b_AL_add2 12 = .ok (.iload_n 3, 1) := by decide +kernel
theorem d_AL_add2_13 : decode b_AL_add2 13 = .ok (.aload_n 1, 1) := by decide +kernel
theorem d_AL_add2_14 : decode b_AL_add2 14 = .ok (.aastore, 1) := by decide +kernel
theorem d_AL_add2_15 : decode b_AL_add2 15 = .ok (.aload_n 0, 1) := by decide +kernel
theorem d_AL_add2_16 : decode b_AL_add2 16 = .ok (.iload_n 3, 1) := by decide +kernel
theorem d_AL_add2_17 : decode b_AL_add2 17 = .ok (.iconst 1, 1) := by decide +kernel
theorem d_AL_add2_18 : decode b_AL_add2 18 = .ok (.iadd, 1) := by decide +kernel
theorem d_AL_add2_19 : decode b_AL_add2 19 = .ok (.putfield 48, 3) := by decide +kernel
theorem d_AL_add2_22 : decode b_AL_add2 22 = .ok (.return_, 1) := by decide +kernel
abbrev rm_AL_add2 : Room := { frames := 5, cells := 1, slots := 64, locals := 135 }
theorem ce_AL_add2 : gCe y_AL_add2 (.code y_AL_add2 b_AL_add2 4 none) 4 3 false := gCe.code wd_257 wd_53 wd_256 (by decide) (by decide +kernel)
def f_AL_add2 (g0 : gG) (a0 : Nat) (a1 : Nat) (a2 : Nat) (p3 : Int32) (w : gW) : gX Unit := (gal w a2).bind fun v1 => gjoin (fun K11 => if p3 = v1 then ((gck w a0 1).bind fun _ => gbind (f_AL_grow g0 a0 w) fun v11 w => K11 v11 w) else (K11 a2 w)) (fun (x3 : Nat) (w : gW) => (gsA w x3 p3 a1).bind fun w => (gp w a0 1 1 (.int (p3 + 1))).bind fun w => some (.inr (), w))
set_option maxHeartbeats 4000000 in
set_option maxRecDepth 100000 in
theorem m_AL_add2 (l : Launch) (hst : l.stackTraces = false) (D : gD) (g0 : gG) (a0 : Nat) (a1 : Nat) (a2 : Nat) (p3 : Int32) (w : gW) (r : (String ⊕ Unit) × gW) (h : f_AL_add2 g0 a0 a1 a2 p3 w = some r) : gMet l y_AL_add2 (.code y_AL_add2 b_AL_add2 4 none) rm_AL_add2 D g0 [.ref a0, .ref a1, .ref a2, .int p3] w (goV r) := by
  refine gw_ofV (by decide +kernel) (Nat.le_of_ble_eq_true rfl) ?_
  intro p e s m below meth c ls args A Q hx hb hml hown hlocks hin hnt hT hK hZ hA hret hexc hthr hI hl
  obtain ⟨H, hH⟩ : ∃ H, H = s.heap := ⟨_, rfl⟩
  rw [← hH] at hI ⊢
  obtain ⟨locs, hlocs⟩ : ∃ z : List Loc, z = [] := ⟨_, rfl⟩
  rw [← hlocs] at hI ⊢
  have hl : lv_has ls 4 [(0, .ref a0), (1, .ref a1), (2, .ref a2), (3, .int p3)] := hl
  unfold f_AL_add2 at h
  refine lv_iload_n hx hb d_AL_add2_0 rfl (lv_at hl 3 rfl) ?_
  refine lv_aload_n hx hb d_AL_add2_1 rfl (lv_at hl 2 rfl) ?_
  obtain ⟨v1, e2, h⟩ := gb h
  refine gw_alen hx hb hK hI e2 d_AL_add2_2 ?_
  obtain ⟨K11, eK11, h⟩ := gj h
  have hK11 : ∀ (x3 : Nat) (w : gW) (H : Heap) (locs : List Loc) (ls : Array Slot), K11 x3 w = some r → gI D s A w H locs → lv_has ls 4 [(0, .ref a0), (1, .ref a1), (2, .ref x3), (3, .int p3)] → W p l e rm_AL_add2 s m args below meth c H locs 1 64 Q (F0 m 11 ls []) := by
    intro x3 w H locs ls h hI hl
    have h := gk2 eK11 h
    refine lv_aload_n hx hb d_AL_add2_11 rfl (lv_at hl 2 rfl) ?_
    refine lv_iload_n hx hb d_AL_add2_12 rfl (lv_at hl 3 rfl) ?_
    refine lv_aload_n hx hb d_AL_add2_13 rfl (lv_at hl 1 rfl) ?_
    obtain ⟨w, e4, h⟩ := gb h
    refine gw_astA hx hb hT hK hI e4 d_AL_add2_14 (fun H locs hI => ?_)
    refine lv_aload_n hx hb d_AL_add2_15 rfl (lv_at hl 0 rfl) ?_
    refine lv_iload_n hx hb d_AL_add2_16 rfl (lv_at hl 3 rfl) ?_
    refine lv_iconst (v := 1) hx hb d_AL_add2_17 (by decide) ?_
    refine lv_iadd hx hb d_AL_add2_18 ?_
    obtain ⟨w, e5, h⟩ := gb h
    refine gw_put hx hb hT hown hK hI (ci := 1) rfl i_1 t_1 t_1_ok n_1 1 (by decide) wd_102 (fun _ h9 => h9) rfl (ty := .int) (by decide +kernel) rfl rfl e5 d_AL_add2_19 (fun H locs hI => ?_)
    exact W.widen (show 1 ≤ 1 by omega) (show 64 ≤ 64 by omega) (hret _ _ (Option.some.inj h).symm _ _ _ _ d_AL_add2_22 hI)
  refine lv_icmp_ne (tgt := 11) hx hb d_AL_add2_3 (by decide) (fun c6 => ?_) (fun c6 => ?_)
  · skip
    have h := gie c6 h
    refine W.widen (k := 1) (n := 64) (show 0 ≤ 1 by omega) (show 0 ≤ 64 by omega) ?_
    exact hK11 _ w H locs ls h hI (lv_sub hl [0, 1, 2, 3] rfl)
  · skip
    have h := git c6 h
    refine lv_aload_n hx hb d_AL_add2_6 rfl (lv_at hl 0 rfl) ?_
    obtain ⟨q9, e10, h⟩ := gb h
    obtain ⟨u7, e8⟩ := gsome h
    refine gw_callA e8 h (gw_runV (As := []) (rest := []) hx hb hml hown hT hK hZ hA hI (ci := 1) rfl e10 (m_AL_grow l hst D g0 a0 w u7 e8) ce_AL_grow wd_258 wd_2 ⟨by decide, by decide⟩ rfl rfl hl.1 rfl (lv_room (Nat.le_of_ble_eq_true rfl)) d_AL_add2_7 ⟨(show 0 + 1 ≤ 1 by omega), (show 0 + 64 ≤ 64 by omega)⟩) hI hA hexc (show 0 + 1 ≤ 1 by omega) (show 0 + 64 ≤ 64 by omega) (fun v11 w H locs h hI => ?_)
    refine W.widen (k := 1) (n := 64) (show 0 + 1 ≤ 1 by omega) (show 0 + 64 ≤ 64 by omega) ?_
    refine lv_astore_n (lv' := [(2, .ref v11), (0, .ref a0), (1, .ref a1), (3, .int p3)]) hx hb d_AL_add2_10 rfl hl (by decide) rfl (fun ls hl => ?_)
    exact hK11 _ w H locs ls h hI (lv_sub hl [1, 2, 0, 3] rfl)
