abbrev b_B_box : ByteArray := prog_1_method_3_code
def y_B_box : MethodName := ⟨"BodySolids", "box", "(IJJJJJJ)Z"⟩
theorem d_B_box_0 : decode b_B_box 0 = .ok (.aload_n 0, 1) := by decide +kernel
theorem d_B_box_1 : decode b_B_box 1 = .ok (.iload_n 1, 1) := by decide +kernel
theorem d_B_box_2 : decode b_B_box 2 = .ok (.invokevirtual 79, 3) := by decide +kernel
theorem d_B_box_5 : decode b_B_box 5 = .ok (.astore 14, 2) := by decide +kernel
theorem d_B_box_7 : decode b_B_box 7 = .ok (.lload_n 2, 1) := by decide +kernel
theorem d_B_box_8 : decode b_B_box 8 = .ok (.lload 4, 2) := by decide +kernel
theorem d_B_box_10 : decode b_B_box 10 = .ok (.invokestatic 83, 3) := by decide +kernel
theorem d_B_box_13 : decode b_B_box 13 = .ok (.lload 8, 2) := by decide +kernel
theorem d_B_box_15 : decode b_B_box 15 = .ok (.invokestatic 87, 3) := by decide +kernel
theorem d_B_box_18 : decode b_B_box 18 = .ok (.lload 10, 2) := by decide +kernel
theorem d_B_box_20 : decode b_B_box 20 = .ok (.invokestatic 87, 3) := by decide +kernel
theorem d_B_box_23 : decode b_B_box 23 = .ok (.lload_n 2, 1) := by decide +kernel
theorem d_B_box_24 : decode b_B_box 24 = .ok (.lload 8, 2) := by decide +kernel
theorem d_B_box_26 : decode b_B_box 26 = .ok (.ladd, 1) := by decide +kernel
theorem d_B_box_27 : decode b_B_box 27 = .ok (.lload 4, 2) := by decide +kernel
theorem d_B_box_29 : decode b_B_box 29 = .ok (.lload 10, 2) := by decide +kernel
theorem d_B_box_31 : decode b_B_box 31 = .ok (.ladd, 1) := by decide +kernel
theorem d_B_box_32 : decode b_B_box 32 = .ok (.invokestatic 83, 3) := by decide +kernel
theorem d_B_box_35 : decode b_B_box 35 = .ok (.lload 6, 2) := by decide +kernel
theorem d_B_box_37 : decode b_B_box 37 = .ok (.lload 12, 2) := by decide +kernel
theorem d_B_box_39 : decode b_B_box 39 = .ok (.invokestatic 91, 3) := by decide +kernel
theorem d_B_box_42 : decode b_B_box 42 = .ok (.aload 14, 2) := by decide +kernel
theorem d_B_box_44 : decode b_B_box 44 = .ok (.invokevirtual 94, 3) := by decide +kernel
theorem d_B_box_47 : decode b_B_box 47 = .ok (.ifCond .eq 5, 3) := by decide +kernel
theorem d_B_box_50 : decode b_B_box 50 = .ok (.iconst 0, 1) := by decide +kernel
theorem d_B_box_51 : decode b_B_box 51 = .ok (.ireturn, 1) := by decide +kernel
theorem d_B_box_52 : decode b_B_box 52 = .ok (.new 98, 3) := by decide +kernel
theorem d_B_box_55 : decode b_B_box 55 = .ok (.dup, 1) := by decide +kernel
theorem d_B_box_56 : decode b_B_box 56 = .ok (.invokespecial 100, 3) := by decide +kernel
theorem d_B_box_59 : decode b_B_box 59 = .ok (.astore 15, 2) := by decide +kernel
theorem d_B_box_61 : decode b_B_box 61 = .ok (.aload 15, 2) := by decide +kernel
theorem d_B_box_63 : decode b_B_box 63 = .ok (.iconst 0, 1) := by decide +kernel
theorem d_B_box_64 : decode b_B_box 64 = .ok (.lconst 0, 1) := by decide +kernel
theorem d_B_box_65 : decode b_B_box 65 = .ok (.lconst 0, 1) := by decide +kernel
theorem d_B_box_66 : decode b_B_box 66 = .ok (.invokevirtual 101, 3) := by decide +kernel
theorem d_B_box_69 : decode b_B_box 69 = .ok (.aload 15, 2) := by decide +kernel
theorem d_B_box_71 : decode b_B_box 71 = .ok (.lload_n 2, 1) := by decide +kernel
theorem d_B_box_72 : decode b_B_box 72 = .ok (.lload 4, 2) := by decide +kernel
theorem d_B_box_74 : decode b_B_box 74 = .ok (.lload_n 2, 1) := by decide +kernel
theorem d_B_box_75 : decode b_B_box 75 = .ok (.lload 8, 2) := by decide +kernel
theorem d_B_box_77 : decode b_B_box 77 = .ok (.ladd, 1) := by decide +kernel
theorem d_B_box_78 : decode b_B_box 78 = .ok (.lload 4, 2) := by decide +kernel
theorem d_B_box_80 : decode b_B_box 80 = .ok (.lload 10, 2) := by decide +kernel
theorem d_B_box_82 : decode b_B_box 82 = .ok (.ladd, 1) := by decide +kernel
theorem d_B_box_83 : decode b_B_box 83 = .ok (.invokevirtual 105, 3) := by decide +kernel
theorem d_B_box_86 : decode b_B_box 86 = .ok (.aload 15, 2) := by decide +kernel
theorem d_B_box_88 : decode b_B_box 88 = .ok (.lload 6, 2) := by decide +kernel
theorem d_B_box_90 : decode b_B_box 90 = .ok (.lload 6, 2) := by decide +kernel
theorem d_B_box_92 : decode b_B_box 92 = .ok (.lload 12, 2) := by decide +kernel
theorem d_B_box_94 : decode b_B_box 94 = .ok (.ladd, 1) := by decide +kernel
theorem d_B_box_95 : decode b_B_box 95 = .ok (.invokevirtual 109, 3) := by decide +kernel
theorem d_B_box_98 : decode b_B_box 98 = .ok (.aload 14, 2) := by decide +kernel
theorem d_B_box_100 : decode b_B_box 100 = .ok (.aload 15, 2) := by decide +kernel
theorem d_B_box_102 : decode b_B_box 102 = .ok (.ldc2_w 112, 3) := by decide +kernel
theorem d_B_box_105 : decode b_B_box 105 = .ok (.lload 8, 2) := by decide +kernel
theorem d_B_box_107 : decode b_B_box 107 = .ok (.lmul, 1) := by decide +kernel
theorem d_B_box_108 : decode b_B_box 108 = .ok (.lload 10, 2) := by decide +kernel
theorem d_B_box_110 : decode b_B_box 110 = .ok (.lmul, 1) := by decide +kernel
theorem d_B_box_111 : decode b_B_box 111 = .ok (.lload 12, 2) := by decide +kernel
theorem d_B_box_113 : decode b_B_box 113 = .ok (.lmul, 1) := by decide +kernel
theorem d_B_box_114 : decode b_B_box 114 = .ok (.invokevirtual 114, 3) := by decide +kernel
theorem d_B_box_117 : decode b_B_box 117 = .ok (.aload_n 0, 1) := by decide +kernel
theorem d_B_box_118 : decode b_B_box 118 = .ok (.aload 14, 2) := by decide +kernel
theorem d_B_box_120 : decode b_B_box 120 = .ok (.invokevirtual 118, 3) := by decide +kernel
theorem d_B_box_123 : decode b_B_box 123 = .ok (.iconst 1, 1) := by decide +kernel
theorem d_B_box_124 : decode b_B_box 124 = .ok (.ireturn, 1) := by decide +kernel
abbrev rm_B_box : Room := { frames := 10, cells := 14, slots := 152, locals := 202 }
theorem ce_B_box : gCe y_B_box (.code y_B_box b_B_box 16 (some .boolean)) 16 7 false := gCe.code wd_435 wd_49 wd_433 (by decide) (by decide +kernel)
def f_B_box (g0 : gG) (a0 : Nat) (p1 : Int32) (p2 : Int64) (p3 : Int64) (p4 : Int64) (p5 : Int64) (p6 : Int64) (p7 : Int64) (w : gW) : gX Int32 := (gck w a0 0).bind fun _ => gbind (f_B_bodyAt g0 a0 p1 w) fun v5 w => gbind (f_B_needPlace g0 p2 p3 w) fun v8 w => gbind (f_B_needSize g0 p5 w) fun v11 w => gbind (f_B_needSize g0 p6 w) fun v14 w => gbind (f_B_needPlace g0 (p2 + p5) (p3 + p6) w) fun v17 w => gbind (f_B_needUpright g0 p4 p7 w) fun v20 w => (gck w v5 4).bind fun _ => gbind (f_By_isFull g0 v5 w) fun v25 w => if v25 = 0 then (gb2f (gnw w 3 [.int 0, .long 0, .long 0, .null, .null, .int 0, .long 0, .long 0, .long 0, .long 0, .long 0, .long 0]) fun o27 w => gbind (f_So_init g0 o27 w) fun v31 w => (gck w o27 3).bind fun _ => gbind (f_So_begin g0 o27 0 0 0 w) fun v36 w => (gck w o27 3).bind fun _ => gbind (f_So_addRectangle g0 o27 p2 p3 (p2 + p5) (p3 + p6) w) fun v41 w => (gck w o27 3).bind fun _ => gbind (f_So_setHeights g0 o27 p4 (p4 + p7) w) fun v46 w => (gck w v5 4).bind fun _ => gbind (f_By_add g0 v5 o27 (((226 * p5) * p6) * p7) w) fun v51 w => (gck w a0 0).bind fun _ => gbind (f_B_forgetRelationsOf g0 a0 v5 w) fun v56 w => gguard ((1 : Int32) = 0 ∨ (1 : Int32) = 1) (some (.inr 1, w))) else (gguard ((0 : Int32) = 0 ∨ (0 : Int32) = 1) (some (.inr 0, w)))
set_option maxHeartbeats 4000000 in
set_option maxRecDepth 100000 in
theorem m_B_box (l : Launch) (hst : l.stackTraces = false) (D : gD) (g0 : gG) (a0 : Nat) (p1 : Int32) (p2 : Int64) (p3 : Int64) (p4 : Int64) (p5 : Int64) (p6 : Int64) (p7 : Int64) (w : gW) (r : (String ⊕ Int32) × gW) (h : f_B_box g0 a0 p1 p2 p3 p4 p5 p6 p7 w = some r) : gMet l y_B_box (.code y_B_box b_B_box 16 (some .boolean)) rm_B_box D g0 [.ref a0, .int p1, .long p2, .long p3, .long p4, .long p5, .long p6, .long p7] w (goI r) := by
  refine gw_ofZ (by decide +kernel) (Nat.le_of_ble_eq_true rfl) ?_
  intro p e s m below meth c ls args A Q hx hb hml hown hlocks hin hnt hT hK hZ hA hret hexc hthr hI hl
  obtain ⟨H, hH⟩ : ∃ H, H = s.heap := ⟨_, rfl⟩
  rw [← hH] at hI ⊢
  obtain ⟨locs, hlocs⟩ : ∃ z : List Loc, z = [] := ⟨_, rfl⟩
  rw [← hlocs] at hI ⊢
  have hl : lv_has ls 16 [(0, .ref a0), (1, .int p1), (2, .long p2), (4, .long p3), (6, .long p4), (8, .long p5), (10, .long p6), (12, .long p7)] := hl
  unfold f_B_box at h
  refine lv_aload_n hx hb d_B_box_0 rfl (lv_at hl 0 rfl) ?_
  refine lv_iload_n hx hb d_B_box_1 rfl (lv_at hl 1 rfl) ?_
  obtain ⟨q3, e4, h⟩ := gb h
  obtain ⟨u1, e2⟩ := gsome h
  refine gw_callA e2 h (gw_runV (As := [.int p1]) (rest := []) hx hb hml hown hT hK hZ hA hI (ci := 0) rfl e4 (m_B_bodyAt l hst D g0 a0 p1 w u1 e2) ce_B_bodyAt wd_436 wd_7 ⟨by decide, by decide⟩ rfl rfl hl.1 rfl (lv_room (Nat.le_of_ble_eq_true rfl)) d_B_box_2 ⟨(show 0 + 1 ≤ 14 by omega), (show 0 + 6 ≤ 152 by omega)⟩) hI hA hexc (show 0 + 1 ≤ 14 by omega) (show 0 + 6 ≤ 152 by omega) (fun v5 w H locs h hI => ?_)
  refine W.widen (k := 1) (n := 6) (show 0 + 1 ≤ 1 by omega) (show 0 + 6 ≤ 6 by omega) ?_
  refine lv_astore (lv' := [(14, .ref v5), (0, .ref a0), (1, .int p1), (2, .long p2), (4, .long p3), (6, .long p4), (8, .long p5), (10, .long p6), (12, .long p7)]) hx hb d_B_box_5 hl (by decide) rfl (fun ls hl => ?_)
  refine lv_lload_n hx hb d_B_box_7 rfl (lv_at hl 3 rfl) ?_
  refine lv_lload hx hb d_B_box_8 (lv_at hl 4 rfl) ?_
  obtain ⟨u6, e7⟩ := gsome h
  refine gw_callV e7 h (gw_runS (As := [.long p2, .long p3]) (rest := []) hx hb hml hown hT hK hZ hA hI (m_B_needPlace l hst D g0 p2 p3 w u6 e7) ce_B_needPlace wd_511 ⟨by decide, by decide⟩ rfl rfl hl.1 rfl (lv_room (Nat.le_of_ble_eq_true rfl)) d_B_box_10 ⟨(show 1 + 2 ≤ 14 by omega), (show 6 + 12 ≤ 152 by omega)⟩) hI hA hexc (show 1 + 2 ≤ 14 by omega) (show 6 + 12 ≤ 152 by omega) (fun v8 w H locs h hI => ?_)
  refine W.widen (k := 3) (n := 18) (show 1 + 2 ≤ 3 by omega) (show 6 + 12 ≤ 18 by omega) ?_
  refine lv_lload hx hb d_B_box_13 (lv_at hl 6 rfl) ?_
  obtain ⟨u9, e10⟩ := gsome h
  refine gw_callV e10 h (gw_runS (As := [.long p5]) (rest := []) hx hb hml hown hT hK hZ hA hI (m_B_needSize l hst D g0 p5 w u9 e10) ce_B_needSize wd_535 ⟨by decide, by decide⟩ rfl rfl hl.1 rfl (lv_room (Nat.le_of_ble_eq_true rfl)) d_B_box_15 ⟨(show 3 + 1 ≤ 14 by omega), (show 18 + 6 ≤ 152 by omega)⟩) hI hA hexc (show 3 + 1 ≤ 14 by omega) (show 18 + 6 ≤ 152 by omega) (fun v11 w H locs h hI => ?_)
  refine W.widen (k := 4) (n := 24) (show 3 + 1 ≤ 4 by omega) (show 18 + 6 ≤ 24 by omega) ?_
  refine lv_lload hx hb d_B_box_18 (lv_at hl 7 rfl) ?_
  obtain ⟨u12, e13⟩ := gsome h
  refine gw_callV e13 h (gw_runS (As := [.long p6]) (rest := []) hx hb hml hown hT hK hZ hA hI (m_B_needSize l hst D g0 p6 w u12 e13) ce_B_needSize wd_535 ⟨by decide, by decide⟩ rfl rfl hl.1 rfl (lv_room (Nat.le_of_ble_eq_true rfl)) d_B_box_20 ⟨(show 4 + 1 ≤ 14 by omega), (show 24 + 6 ≤ 152 by omega)⟩) hI hA hexc (show 4 + 1 ≤ 14 by omega) (show 24 + 6 ≤ 152 by omega) (fun v14 w H locs h hI => ?_)
  refine W.widen (k := 5) (n := 30) (show 4 + 1 ≤ 5 by omega) (show 24 + 6 ≤ 30 by omega) ?_
  refine lv_lload_n hx hb d_B_box_23 rfl (lv_at hl 3 rfl) ?_
  refine lv_lload hx hb d_B_box_24 (lv_at hl 6 rfl) ?_
  refine lv_ladd hx hb d_B_box_26 ?_
  refine lv_lload hx hb d_B_box_27 (lv_at hl 4 rfl) ?_
  refine lv_lload hx hb d_B_box_29 (lv_at hl 7 rfl) ?_
  refine lv_ladd hx hb d_B_box_31 ?_
  obtain ⟨u15, e16⟩ := gsome h
  refine gw_callV e16 h (gw_runS (As := [.long (p2 + p5), .long (p3 + p6)]) (rest := []) hx hb hml hown hT hK hZ hA hI (m_B_needPlace l hst D g0 (p2 + p5) (p3 + p6) w u15 e16) ce_B_needPlace wd_511 ⟨by decide, by decide⟩ rfl rfl hl.1 rfl (lv_room (Nat.le_of_ble_eq_true rfl)) d_B_box_32 ⟨(show 5 + 2 ≤ 14 by omega), (show 30 + 12 ≤ 152 by omega)⟩) hI hA hexc (show 5 + 2 ≤ 14 by omega) (show 30 + 12 ≤ 152 by omega) (fun v17 w H locs h hI => ?_)
  refine W.widen (k := 7) (n := 42) (show 5 + 2 ≤ 7 by omega) (show 30 + 12 ≤ 42 by omega) ?_
  refine lv_lload hx hb d_B_box_35 (lv_at hl 5 rfl) ?_
  refine lv_lload hx hb d_B_box_37 (lv_at hl 8 rfl) ?_
  obtain ⟨u18, e19⟩ := gsome h
  refine gw_callV e19 h (gw_runS (As := [.long p4, .long p7]) (rest := []) hx hb hml hown hT hK hZ hA hI (m_B_needUpright l hst D g0 p4 p7 w u18 e19) ce_B_needUpright wd_538 ⟨by decide, by decide⟩ rfl rfl hl.1 rfl (lv_room (Nat.le_of_ble_eq_true rfl)) d_B_box_39 ⟨(show 7 + 3 ≤ 14 by omega), (show 42 + 18 ≤ 152 by omega)⟩) hI hA hexc (show 7 + 3 ≤ 14 by omega) (show 42 + 18 ≤ 152 by omega) (fun v20 w H locs h hI => ?_)
  refine W.widen (k := 10) (n := 60) (show 7 + 3 ≤ 10 by omega) (show 42 + 18 ≤ 60 by omega) ?_
  refine lv_aload hx hb d_B_box_42 (lv_at hl 0 rfl) ?_
  obtain ⟨q23, e24, h⟩ := gb h
  obtain ⟨u21, e22⟩ := gsome h
  refine gw_callI e22 h (gw_runV (As := []) (rest := []) hx hb hml hown hT hK hZ hA hI (ci := 4) rfl e24 (m_By_isFull l hst D g0 v5 w u21 e22) ce_By_isFull wd_541 wd_543 ⟨by decide, by decide⟩ rfl rfl hl.1 rfl (lv_room (Nat.le_of_ble_eq_true rfl)) d_B_box_44 ⟨(show 10 + 0 ≤ 14 by omega), (show 60 + 0 ≤ 152 by omega)⟩) hI hA hexc (show 10 + 0 ≤ 14 by omega) (show 60 + 0 ≤ 152 by omega) (fun v25 w H locs h hI => ?_)
  refine lv_if_eq (tgt := 52) hx hb d_B_box_47 (by decide) (fun c26 => ?_) (fun c26 => ?_)
  · skip
    have h := git c26 h
    obtain ⟨o27, w, e28, h⟩ := gb2 h
    refine gw_new hx hb hT hown hK hI hA (ci := 3) rfl i_3 t_3 t_3_ok wd_546 wd_124 wd_56 (fs := [.int 0, .long 0, .long 0, .null, .null, .int 0, .long 0, .long 0, .long 0, .long 0, .long 0, .long 0]) df_3 e28 (show 10 + 1 ≤ 14 by omega) (show 60 + 12 ≤ 152 by omega) d_B_box_52 (fun H hI => ?_)
    refine W.widen (k := 11) (n := 72) (show 10 + 1 ≤ 11 by omega) (show 60 + 12 ≤ 72 by omega) ?_
    refine lv_dup hx hb d_B_box_55 rfl ?_
    obtain ⟨u29, e30⟩ := gsome h
    refine gw_callV e30 h (gw_runIN (As := []) (rest := [.ref o27]) hx hb hml hown hT hK hZ hA hI (m_So_init l hst D g0 o27 w u29 e30) ce_So_init wd_547 rfl ⟨by decide, by decide⟩ rfl rfl hl.1 rfl (lv_room (Nat.le_of_ble_eq_true rfl)) d_B_box_56 ⟨(show 11 + 2 ≤ 14 by omega), (show 72 + 16 ≤ 152 by omega)⟩) hI hA hexc (show 11 + 2 ≤ 14 by omega) (show 72 + 16 ≤ 152 by omega) (fun v31 w H locs h hI => ?_)
    refine W.widen (k := 13) (n := 88) (show 11 + 2 ≤ 13 by omega) (show 72 + 16 ≤ 88 by omega) ?_
    refine lv_astore (lv' := [(15, .ref o27), (14, .ref v5), (0, .ref a0), (1, .int p1), (2, .long p2), (4, .long p3), (6, .long p4), (8, .long p5), (10, .long p6), (12, .long p7)]) hx hb d_B_box_59 hl (by decide) rfl (fun ls hl => ?_)
    refine lv_aload hx hb d_B_box_61 (lv_at hl 0 rfl) ?_
    refine lv_iconst (v := 0) hx hb d_B_box_63 (by decide) ?_
    refine lv_lconst (v := 0) hx hb d_B_box_64 (by decide) ?_
    refine lv_lconst (v := 0) hx hb d_B_box_65 (by decide) ?_
    obtain ⟨q34, e35, h⟩ := gb h
    obtain ⟨u32, e33⟩ := gsome h
    refine gw_callV e33 h (gw_runV (As := [.int 0, .long 0, .long 0]) (rest := []) hx hb hml hown hT hK hZ hA hI (ci := 3) rfl e35 (m_So_begin l hst D g0 o27 0 0 0 w u32 e33) ce_So_begin wd_548 wd_349 ⟨by decide, by decide⟩ rfl rfl hl.1 rfl (lv_room (Nat.le_of_ble_eq_true rfl)) d_B_box_66 ⟨(show 13 + 0 ≤ 14 by omega), (show 88 + 0 ≤ 152 by omega)⟩) hI hA hexc (show 13 + 0 ≤ 14 by omega) (show 88 + 0 ≤ 152 by omega) (fun v36 w H locs h hI => ?_)
    refine lv_aload hx hb d_B_box_69 (lv_at hl 0 rfl) ?_
    refine lv_lload_n hx hb d_B_box_71 rfl (lv_at hl 4 rfl) ?_
    refine lv_lload hx hb d_B_box_72 (lv_at hl 5 rfl) ?_
    refine lv_lload_n hx hb d_B_box_74 rfl (lv_at hl 4 rfl) ?_
    refine lv_lload hx hb d_B_box_75 (lv_at hl 7 rfl) ?_
    refine lv_ladd hx hb d_B_box_77 ?_
    refine lv_lload hx hb d_B_box_78 (lv_at hl 5 rfl) ?_
    refine lv_lload hx hb d_B_box_80 (lv_at hl 8 rfl) ?_
    refine lv_ladd hx hb d_B_box_82 ?_
    obtain ⟨q39, e40, h⟩ := gb h
    obtain ⟨u37, e38⟩ := gsome h
    refine gw_callV e38 h (gw_runV (As := [.long p2, .long p3, .long (p2 + p5), .long (p3 + p6)]) (rest := []) hx hb hml hown hT hK hZ hA hI (ci := 3) rfl e40 (m_So_addRectangle l hst D g0 o27 p2 p3 (p2 + p5) (p3 + p6) w u37 e38) ce_So_addRectangle wd_549 wd_551 ⟨by decide, by decide⟩ rfl rfl hl.1 rfl (lv_room (Nat.le_of_ble_eq_true rfl)) d_B_box_83 ⟨(show 13 + 0 ≤ 14 by omega), (show 88 + 0 ≤ 152 by omega)⟩) hI hA hexc (show 13 + 0 ≤ 14 by omega) (show 88 + 0 ≤ 152 by omega) (fun v41 w H locs h hI => ?_)
    refine lv_aload hx hb d_B_box_86 (lv_at hl 0 rfl) ?_
    refine lv_lload hx hb d_B_box_88 (lv_at hl 6 rfl) ?_
    refine lv_lload hx hb d_B_box_90 (lv_at hl 6 rfl) ?_
    refine lv_lload hx hb d_B_box_92 (lv_at hl 9 rfl) ?_
    refine lv_ladd hx hb d_B_box_94 ?_
    obtain ⟨q44, e45, h⟩ := gb h
    obtain ⟨u42, e43⟩ := gsome h
    refine gw_callV e43 h (gw_runV (As := [.long p4, .long (p4 + p7)]) (rest := []) hx hb hml hown hT hK hZ hA hI (ci := 3) rfl e45 (m_So_setHeights l hst D g0 o27 p4 (p4 + p7) w u42 e43) ce_So_setHeights wd_553 wd_367 ⟨by decide, by decide⟩ rfl rfl hl.1 rfl (lv_room (Nat.le_of_ble_eq_true rfl)) d_B_box_95 ⟨(show 13 + 0 ≤ 14 by omega), (show 88 + 0 ≤ 152 by omega)⟩) hI hA hexc (show 13 + 0 ≤ 14 by omega) (show 88 + 0 ≤ 152 by omega) (fun v46 w H locs h hI => ?_)
    refine lv_aload hx hb d_B_box_98 (lv_at hl 1 rfl) ?_
    refine lv_aload hx hb d_B_box_100 (lv_at hl 0 rfl) ?_
    refine lv_ldc2 (v := 226) hx hb hown (hT _ wd_554 args) d_B_box_102 ?_
    refine lv_lload hx hb d_B_box_105 (lv_at hl 7 rfl) ?_
    refine lv_lmul hx hb d_B_box_107 ?_
    refine lv_lload hx hb d_B_box_108 (lv_at hl 8 rfl) ?_
    refine lv_lmul hx hb d_B_box_110 ?_
    refine lv_lload hx hb d_B_box_111 (lv_at hl 9 rfl) ?_
    refine lv_lmul hx hb d_B_box_113 ?_
    obtain ⟨q49, e50, h⟩ := gb h
    obtain ⟨u47, e48⟩ := gsome h
    refine gw_callV e48 h (gw_runV (As := [.ref o27, .long (((226 * p5) * p6) * p7)]) (rest := []) hx hb hml hown hT hK hZ hA hI (ci := 4) rfl e50 (m_By_add l hst D g0 v5 o27 (((226 * p5) * p6) * p7) w u47 e48) ce_By_add wd_555 wd_557 ⟨by decide, by decide⟩ rfl rfl hl.1 rfl (lv_room (Nat.le_of_ble_eq_true rfl)) d_B_box_114 ⟨(show 13 + 1 ≤ 14 by omega), (show 88 + 64 ≤ 152 by omega)⟩) hI hA hexc (show 13 + 1 ≤ 14 by omega) (show 88 + 64 ≤ 152 by omega) (fun v51 w H locs h hI => ?_)
    refine W.widen (k := 14) (n := 152) (show 13 + 1 ≤ 14 by omega) (show 88 + 64 ≤ 152 by omega) ?_
    refine lv_aload_n hx hb d_B_box_117 rfl (lv_at hl 2 rfl) ?_
    refine lv_aload hx hb d_B_box_118 (lv_at hl 1 rfl) ?_
    obtain ⟨q54, e55, h⟩ := gb h
    obtain ⟨u52, e53⟩ := gsome h
    refine gw_callV e53 h (gw_runV (As := [.ref v5]) (rest := []) hx hb hml hown hT hK hZ hA hI (ci := 0) rfl e55 (m_B_forgetRelationsOf l hst D g0 a0 v5 w u52 e53) ce_B_forgetRelationsOf wd_560 wd_9 ⟨by decide, by decide⟩ rfl rfl hl.1 rfl (lv_room (Nat.le_of_ble_eq_true rfl)) d_B_box_120 ⟨(show 14 + 0 ≤ 14 by omega), (show 152 + 0 ≤ 152 by omega)⟩) hI hA hexc (show 14 + 0 ≤ 14 by omega) (show 152 + 0 ≤ 152 by omega) (fun v56 w H locs h hI => ?_)
    refine lv_iconst (v := 1) hx hb d_B_box_123 (by decide) ?_
    obtain ⟨g57, h⟩ := gif h
    exact W.widen (show 14 ≤ 14 by omega) (show 152 ≤ 152 by omega) (hret g57 0 _ (Option.some.inj h).symm _ _ _ _ d_B_box_124 hI)
  · skip
    have h := gie c26 h
    refine lv_iconst (v := 0) hx hb d_B_box_50 (by decide) ?_
    obtain ⟨g58, h⟩ := gif h
    exact W.widen (show 10 ≤ 14 by omega) (show 60 ≤ 152 by omega) (hret g58 0 _ (Option.some.inj h).symm _ _ _ _ d_B_box_51 hI)

abbrev b_B_breaksSome : ByteArray := prog_1_method_37_code
def y_B_breaksSome : MethodName := ⟨"BodySolids", "breaksSome", "(LBodySolids$Placement;)Z"⟩
theorem d_B_breaksSome_0 : decode b_B_breaksSome 0 = .ok (.aload_n 0, 1) := by decide +kernel
theorem d_B_breaksSome_1 : decode b_B_breaksSome 1 = .ok (.getfield 61, 3) := by decide +kernel
theorem d_B_breaksSome_4 : decode b_B_breaksSome 4 = .ok (.aload_n 1, 1) := by decide +kernel
theorem d_B_breaksSome_5 : decode b_B_breaksSome 5 = .ok (.aload_n 0, 1) := by decide +kernel
theorem d_B_breaksSome_6 : decode b_B_breaksSome 6 = .ok (.getfield 20, 3) := by decide +kernel
theorem d_B_breaksSome_9 : decode b_B_breaksSome 9 = .ok (.invokevirtual 213, 3) := by decide +kernel
theorem d_B_breaksSome_12 : decode b_B_breaksSome 12 = .ok (.iconst 0, 1) := by decide +kernel
theorem d_B_breaksSome_13 : decode b_B_breaksSome 13 = .ok (.istore_n 2, 1) := by decide +kernel
theorem d_B_breaksSome_14 : decode b_B_breaksSome 14 = .ok (.iload_n 2, 1) := by decide +kernel
theorem d_B_breaksSome_15 : decode b_B_breaksSome 15 = .ok (.aload_n 0, 1) := by decide +kernel
theorem d_B_breaksSome_16 : decode b_B_breaksSome 16 = .ok (.getfield 34, 3) := by decide +kernel
theorem d_B_breaksSome_19 : decode b_B_breaksSome 19 = .ok (.invokevirtual 68, 3) := by decide +kernel
theorem d_B_breaksSome_22 : decode b_B_breaksSome 22 = .ok (.if_icmp .ge 48, 3) := by decide +kernel
theorem d_B_breaksSome_25 : decode b_B_breaksSome 25 = .ok (.aload_n 0, 1) := by decide +kernel
theorem d_B_breaksSome_26 : decode b_B_breaksSome 26 = .ok (.getfield 34, 3) := by decide +kernel
theorem d_B_breaksSome_29 : decode b_B_breaksSome 29 = .ok (.iload_n 2, 1) := by decide +kernel
theorem d_B_breaksSome_30 : decode b_B_breaksSome 30 = .ok (.invokevirtual 205, 3) := by decide +kernel
theorem d_B_breaksSome_33 : decode b_B_breaksSome 33 = .ok (.checkcast 200, 3) := by decide +kernel
theorem d_B_breaksSome_36 : decode b_B_breaksSome 36 = .ok (.astore_n 3, 1) := by decide +kernel
theorem d_B_breaksSome_37 : decode b_B_breaksSome 37 = .ok (.aload_n 3, 1) := by decide +kernel
theorem d_B_breaksSome_38 : decode b_B_breaksSome 38 = .ok (.getfield 288, 3) := by decide +kernel
theorem d_B_breaksSome_41 : decode b_B_breaksSome 41 = .ok (.aload_n 1, 1) := by decide +kernel
theorem d_B_breaksSome_42 : decode b_B_breaksSome 42 = .ok (.getfield 291, 3) := by decide +kernel
theorem d_B_breaksSome_45 : decode b_B_breaksSome 45 = .ok (.if_icmp .ne 19, 3) := by decide +kernel
theorem d_B_breaksSome_48 : decode b_B_breaksSome 48 = .ok (.aload_n 0, 1) := by decide +kernel
theorem d_B_breaksSome_49 : decode b_B_breaksSome 49 = .ok (.getfield 61, 3) := by decide +kernel
theorem d_B_breaksSome_52 : decode b_B_breaksSome 52 = .ok (.aload_n 3, 1) := by decide +kernel
theorem d_B_breaksSome_53 : decode b_B_breaksSome 53 = .ok (.getfield 292, 3) := by decide +kernel
theorem d_B_breaksSome_56 : decode b_B_breaksSome 56 = .ok (.invokevirtual 296, 3) := by decide +kernel
theorem d_B_breaksSome_59 : decode b_B_breaksSome 59 = .ok (.ifCond .eq 5, 3) := by decide +kernel
theorem d_B_breaksSome_62 : decode b_B_breaksSome 62 = .ok (.iconst 1, 1) := by decide +kernel
theorem d_B_breaksSome_63 : decode b_B_breaksSome 63 = .ok (.ireturn, 1) := by decide +kernel
theorem d_B_breaksSome_64 : decode b_B_breaksSome 64 = .ok (.iinc 2 1, 3) := by decide +kernel
theorem d_B_breaksSome_67 : decode b_B_breaksSome 67 = .ok (.goto (-53), 3) := by decide +kernel
theorem d_B_breaksSome_70 : decode b_B_breaksSome 70 = .ok (.iconst 0, 1) := by decide +kernel
theorem d_B_breaksSome_71 : decode b_B_breaksSome 71 = .ok (.ireturn, 1) := by decide +kernel
abbrev rm_B_breaksSome : Room := { frames := 6, cells := 0, slots := 0, locals := 169 }
theorem ce_B_breaksSome : gCe y_B_breaksSome (.code y_B_breaksSome b_B_breaksSome 4 (some .boolean)) 4 1 false := gCe.code wd_417 wd_49 wd_416 (by decide) (by decide +kernel)
def f_B_breaksSome_L14 (g0 : gG) (c0 : Nat) (c1 : Nat) (K70 : gW → gX Int32) (K62 : gW → gX Int32) : Nat → Int32 → gW → gX Int32
  | 0, _, _ => none
  | n + 1, z2, w => (gfA w c0 0 3).bind fun v12 => (gck w v12 1).bind fun _ => gbind (f_AL_size g0 v12 w) fun v18 w => if v18 ≤ z2 then (K70 w) else ((gfA w c0 0 3).bind fun v20 => (gck w v20 1).bind fun _ => gbind (f_AL_get g0 v20 z2 w) fun v26 w => (gck w v26 6).bind fun _ => (gfI w v26 6 1).bind fun v29 => (gfI w c1 5 4).bind fun v31 => gjoin (fun K64 => if v29 = v31 then ((gfA w c0 0 8).bind fun v34 => (gfA w v26 6 0).bind fun v36 => (gck w v34 2).bind fun _ => gbind (f_La_reachesInto g0 v34 v36 w) fun v42 w => if v42 = 0 then (K64 w) else (K62 w)) else (K64 w)) (fun (w : gW) => f_B_breaksSome_L14 g0 c0 c1 K70 K62 n (z2 + 1) w))
def f_B_breaksSome (g0 : gG) (a0 : Nat) (a1 : Nat) (w : gW) : gX Int32 := (gfA w a0 0 8).bind fun v1 => (gfJ w a0 0 0).bind fun v3 => (gck w v1 2).bind fun _ => gbind (f_La_lay g0 v1 a1 v3 w) fun v9 w => gjoin (fun K70 => gjoin (fun K62 => f_B_breaksSome_L14 g0 a0 a1 K70 K62 64 0 w) (fun (w : gW) => gguard ((1 : Int32) = 0 ∨ (1 : Int32) = 1) (some (.inr 1, w)))) (fun (w : gW) => gguard ((0 : Int32) = 0 ∨ (0 : Int32) = 1) (some (.inr 0, w)))
set_option maxHeartbeats 4000000 in
set_option maxRecDepth 100000 in
theorem m_B_breaksSome (l : Launch) (hst : l.stackTraces = false) (D : gD) (g0 : gG) (a0 : Nat) (a1 : Nat) (w : gW) (r : (String ⊕ Int32) × gW) (h : f_B_breaksSome g0 a0 a1 w = some r) : gMet l y_B_breaksSome (.code y_B_breaksSome b_B_breaksSome 4 (some .boolean)) rm_B_breaksSome D g0 [.ref a0, .ref a1] w (goI r) := by
  refine gw_ofZ (by decide +kernel) (Nat.le_of_ble_eq_true rfl) ?_
  intro p e s m below meth c ls args A Q hx hb hml hown hlocks hin hnt hT hK hZ hA hret hexc hthr hI hl
  obtain ⟨H, hH⟩ : ∃ H, H = s.heap := ⟨_, rfl⟩
  rw [← hH] at hI ⊢
  obtain ⟨locs, hlocs⟩ : ∃ z : List Loc, z = [] := ⟨_, rfl⟩
  rw [← hlocs] at hI ⊢
  have hl : lv_has ls 4 [(0, .ref a0), (1, .ref a1)] := hl
  unfold f_B_breaksSome at h
  refine lv_aload_n hx hb d_B_breaksSome_0 rfl (lv_at hl 0 rfl) ?_
  obtain ⟨v1, e2, h⟩ := gb h
  refine gw_getA hx hb hT hown hK hI (ci := 0) rfl i_0 8 (by decide) wd_197 (fun _ h9 => h9) e2 d_B_breaksSome_1 ?_
  refine lv_aload_n hx hb d_B_breaksSome_4 rfl (lv_at hl 1 rfl) ?_
  refine lv_aload_n hx hb d_B_breaksSome_5 rfl (lv_at hl 0 rfl) ?_
  obtain ⟨v3, e4, h⟩ := gb h
  refine gw_getJ hx hb hT hown hK hI (ci := 0) rfl i_0 0 (by decide) wd_189 (fun _ h9 => h9) e4 d_B_breaksSome_6 ?_
  obtain ⟨q7, e8, h⟩ := gb h
  obtain ⟨u5, e6⟩ := gsome h
  refine gw_callV e6 h (gw_runV (As := [.ref a1, .long v3]) (rest := []) hx hb hml hown hT hK hZ hA hI (ci := 2) rfl e8 (m_La_lay l hst D g0 v1 a1 v3 w u5 e6) ce_La_lay wd_336 wd_338 ⟨by decide, by decide⟩ rfl rfl hl.1 rfl (lv_room (Nat.le_of_ble_eq_true rfl)) d_B_breaksSome_9 ⟨(show 0 + 0 ≤ 0 by omega), (show 0 + 0 ≤ 0 by omega)⟩) hI hA hexc (show 0 + 0 ≤ 0 by omega) (show 0 + 0 ≤ 0 by omega) (fun v9 w H locs h hI => ?_)
  refine lv_iconst (v := 0) hx hb d_B_breaksSome_12 (by decide) ?_
  refine lv_istore_n (lv' := [(2, .int 0), (0, .ref a0), (1, .ref a1)]) hx hb d_B_breaksSome_13 rfl hl (by decide) rfl (fun ls hl => ?_)
  obtain ⟨K70, eK70, h⟩ := gj h
  have hK70 : ∀ (w : gW) (H : Heap) (locs : List Loc) (ls : Array Slot), K70 w = some r → gI D s A w H locs → lv_has ls 4 [] → W p l e rm_B_breaksSome s m args below meth c H locs 0 0 Q (F0 m 70 ls []) := by
    intro w H locs ls h hI hl
    have h := gk1 eK70 h
    refine lv_iconst (v := 0) hx hb d_B_breaksSome_70 (by decide) ?_
    obtain ⟨g10, h⟩ := gif h
    exact W.widen (show 0 ≤ 0 by omega) (show 0 ≤ 0 by omega) (hret g10 0 _ (Option.some.inj h).symm _ _ _ _ d_B_breaksSome_71 hI)
  obtain ⟨K62, eK62, h⟩ := gj h
  have hK62 : ∀ (w : gW) (H : Heap) (locs : List Loc) (ls : Array Slot), K62 w = some r → gI D s A w H locs → lv_has ls 4 [] → W p l e rm_B_breaksSome s m args below meth c H locs 0 0 Q (F0 m 62 ls []) := by
    intro w H locs ls h hI hl
    have h := gk1 eK62 h
    refine lv_iconst (v := 1) hx hb d_B_breaksSome_62 (by decide) ?_
    obtain ⟨g11, h⟩ := gif h
    exact W.widen (show 0 ≤ 0 by omega) (show 0 ≤ 0 by omega) (hret g11 0 _ (Option.some.inj h).symm _ _ _ _ d_B_breaksSome_63 hI)
  have hL14 : ∀ (n : Nat), ∀ (z12 : Int32) (w : gW) (H : Heap) (locs : List Loc) (ls : Array Slot), f_B_breaksSome_L14 g0 a0 a1 K70 K62 n z12 w = some r → gI D s A w H locs → lv_has ls 4 [(0, .ref a0), (1, .ref a1), (2, .int z12)] → W p l e rm_B_breaksSome s m args below meth c H locs 0 0 Q (F0 m 14 ls []) := by
    intro n
    induction n with
    | zero => intro z12 w H locs ls h hI hl; exact absurd h (by simp [f_B_breaksSome_L14])
    | succ n ih =>
      intro z12 w H locs ls h hI hl
      rw [f_B_breaksSome_L14] at h
      refine lv_iload_n hx hb d_B_breaksSome_14 rfl (lv_at hl 2 rfl) ?_
      refine lv_aload_n hx hb d_B_breaksSome_15 rfl (lv_at hl 0 rfl) ?_
      obtain ⟨v13, e14, h⟩ := gb h
      refine gw_getA hx hb hT hown hK hI (ci := 0) rfl i_0 3 (by decide) wd_192 (fun _ h9 => h9) e14 d_B_breaksSome_16 ?_
      obtain ⟨q17, e18, h⟩ := gb h
      obtain ⟨u15, e16⟩ := gsome h
      refine gw_callI e16 h (gw_runV (As := []) (rest := [.int z12]) hx hb hml hown hT hK hZ hA hI (ci := 1) rfl e18 (m_AL_size l hst D g0 v13 w u15 e16) ce_AL_size wd_224 wd_226 ⟨by decide, by decide⟩ rfl rfl hl.1 rfl (lv_room (Nat.le_of_ble_eq_true rfl)) d_B_breaksSome_19 ⟨(show 0 + 0 ≤ 0 by omega), (show 0 + 0 ≤ 0 by omega)⟩) hI hA hexc (show 0 + 0 ≤ 0 by omega) (show 0 + 0 ≤ 0 by omega) (fun v19 w H locs h hI => ?_)
      refine lv_icmp_ge (tgt := 70) hx hb d_B_breaksSome_22 (by decide) (fun c20 => ?_) (fun c20 => ?_)
      · skip
        have h := git c20 h
        exact hK70 w H locs ls h hI (lv_sub hl [] rfl)
      · skip
        have h := gie c20 h
        refine lv_aload_n hx hb d_B_breaksSome_25 rfl (lv_at hl 0 rfl) ?_
        obtain ⟨v21, e22, h⟩ := gb h
        refine gw_getA hx hb hT hown hK hI (ci := 0) rfl i_0 3 (by decide) wd_192 (fun _ h9 => h9) e22 d_B_breaksSome_26 ?_
        refine lv_iload_n hx hb d_B_breaksSome_29 rfl (lv_at hl 2 rfl) ?_
        obtain ⟨q25, e26, h⟩ := gb h
        obtain ⟨u23, e24⟩ := gsome h
        refine gw_callA e24 h (gw_runV (As := [.int z12]) (rest := []) hx hb hml hown hT hK hZ hA hI (ci := 1) rfl e26 (m_AL_get l hst D g0 v21 z12 w u23 e24) ce_AL_get wd_321 wd_323 ⟨by decide, by decide⟩ rfl rfl hl.1 rfl (lv_room (Nat.le_of_ble_eq_true rfl)) d_B_breaksSome_30 ⟨(show 0 + 0 ≤ 0 by omega), (show 0 + 0 ≤ 0 by omega)⟩) hI hA hexc (show 0 + 0 ≤ 0 by omega) (show 0 + 0 ≤ 0 by omega) (fun v27 w H locs h hI => ?_)
        obtain ⟨q29, e28, h⟩ := gb h
        refine gw_cast hx hb hT hown hK hI wd_418 (ci := 6) rfl wd_1125 e28 d_B_breaksSome_33 ?_
        refine lv_astore_n (lv' := [(3, .ref v27), (0, .ref a0), (1, .ref a1), (2, .int z12)]) hx hb d_B_breaksSome_36 rfl hl (by decide) rfl (fun ls hl => ?_)
        refine lv_aload_n hx hb d_B_breaksSome_37 rfl (lv_at hl 0 rfl) ?_
        obtain ⟨v30, e31, h⟩ := gb h
        refine gw_getI hx hb hT hown hK hI (ci := 6) rfl i_6 1 (by decide) wd_722 (fun _ h9 => h9) e31 d_B_breaksSome_38 ?_
        refine lv_aload_n hx hb d_B_breaksSome_41 rfl (lv_at hl 2 rfl) ?_
        obtain ⟨v32, e33, h⟩ := gb h
        refine gw_getI hx hb hT hown hK hI (ci := 5) rfl i_5 4 (by decide) wd_659 (fun _ h9 => h9) e33 d_B_breaksSome_42 ?_
        obtain ⟨K64, eK64, h⟩ := gj h
        have hK64 : ∀ (w : gW) (H : Heap) (locs : List Loc) (ls : Array Slot), K64 w = some r → gI D s A w H locs → lv_has ls 4 [(0, .ref a0), (1, .ref a1), (2, .int z12)] → W p l e rm_B_breaksSome s m args below meth c H locs 0 0 Q (F0 m 64 ls []) := by
          intro w H locs ls h hI hl
          have h := gk1 eK64 h
          refine lv_iinc (v := z12 + 1) (lv' := [(2, .int (z12 + 1)), (0, .ref a0), (1, .ref a1)]) hx hb d_B_breaksSome_64 hl (k := 2) rfl rfl (by decide) rfl (fun ls hl => ?_)
          refine lv_goto (tgt := 14) hx hb d_B_breaksSome_67 (by decide) ?_
          exact ih _ w H locs ls h hI (lv_sub hl [1, 2, 0] rfl)
        refine lv_icmp_ne (tgt := 64) hx hb d_B_breaksSome_45 (by decide) (fun c34 => ?_) (fun c34 => ?_)
        · skip
          have h := gie c34 h
          exact hK64 w H locs ls h hI (lv_sub hl [1, 2, 3] rfl)
        · skip
          have h := git c34 h
          refine lv_aload_n hx hb d_B_breaksSome_48 rfl (lv_at hl 1 rfl) ?_
          obtain ⟨v35, e36, h⟩ := gb h
          refine gw_getA hx hb hT hown hK hI (ci := 0) rfl i_0 8 (by decide) wd_197 (fun _ h9 => h9) e36 d_B_breaksSome_49 ?_
          refine lv_aload_n hx hb d_B_breaksSome_52 rfl (lv_at hl 0 rfl) ?_
          obtain ⟨v37, e38, h⟩ := gb h
          refine gw_getA hx hb hT hown hK hI (ci := 6) rfl i_6 0 (by decide) wd_720 (fun _ h9 => h9) e38 d_B_breaksSome_53 ?_
          obtain ⟨q41, e42, h⟩ := gb h
          obtain ⟨u39, e40⟩ := gsome h
          refine gw_callI e40 h (gw_runV (As := [.ref v37]) (rest := []) hx hb hml hown hT hK hZ hA hI (ci := 2) rfl e42 (m_La_reachesInto l hst D g0 v35 v37 w u39 e40) ce_La_reachesInto wd_419 wd_421 ⟨by decide, by decide⟩ rfl rfl hl.1 rfl (lv_room (Nat.le_of_ble_eq_true rfl)) d_B_breaksSome_56 ⟨(show 0 + 0 ≤ 0 by omega), (show 0 + 0 ≤ 0 by omega)⟩) hI hA hexc (show 0 + 0 ≤ 0 by omega) (show 0 + 0 ≤ 0 by omega) (fun v43 w H locs h hI => ?_)
          refine lv_if_eq (tgt := 64) hx hb d_B_breaksSome_59 (by decide) (fun c44 => ?_) (fun c44 => ?_)
          · skip
            have h := git c44 h
            exact hK64 w H locs ls h hI (lv_sub hl [1, 2, 3] rfl)
          · skip
            have h := gie c44 h
            exact hK62 w H locs ls h hI (lv_sub hl [] rfl)
  exact hL14 64 _ w H locs ls h hI (lv_sub hl [1, 2, 0] rfl)

abbrev b_B_breaks : ByteArray := prog_1_method_15_code
def y_B_breaks : MethodName := ⟨"BodySolids", "breaks", "(I)I"⟩
theorem d_B_breaks_0 : decode b_B_breaks 0 = .ok (.iconst 0, 1) := by decide +kernel
theorem d_B_breaks_1 : decode b_B_breaks 1 = .ok (.istore_n 2, 1) := by decide +kernel
theorem d_B_breaks_2 : decode b_B_breaks 2 = .ok (.iconst 0, 1) := by decide +kernel
theorem d_B_breaks_3 : decode b_B_breaks 3 = .ok (.istore_n 3, 1) := by decide +kernel
theorem d_B_breaks_4 : decode b_B_breaks 4 = .ok (.iload_n 3, 1) := by decide +kernel
theorem d_B_breaks_5 : decode b_B_breaks 5 = .ok (.aload_n 0, 1) := by decide +kernel
theorem d_B_breaks_6 : decode b_B_breaks 6 = .ok (.getfield 31, 3) := by decide +kernel
theorem d_B_breaks_9 : decode b_B_breaks 9 = .ok (.invokevirtual 68, 3) := by decide +kernel
theorem d_B_breaks_12 : decode b_B_breaks 12 = .ok (.if_icmp .ge 37, 3) := by decide +kernel
theorem d_B_breaks_15 : decode b_B_breaks 15 = .ok (.aload_n 0, 1) := by decide +kernel
theorem d_B_breaks_16 : decode b_B_breaks 16 = .ok (.aload_n 0, 1) := by decide +kernel
theorem d_B_breaks_17 : decode b_B_breaks 17 = .ok (.getfield 31, 3) := by decide +kernel
theorem d_B_breaks_20 : decode b_B_breaks 20 = .ok (.iload_n 3, 1) := by decide +kernel
theorem d_B_breaks_21 : decode b_B_breaks 21 = .ok (.invokevirtual 205, 3) := by decide +kernel
theorem d_B_breaks_24 : decode b_B_breaks 24 = .ok (.checkcast 164, 3) := by decide +kernel
theorem d_B_breaks_27 : decode b_B_breaks 27 = .ok (.invokevirtual 209, 3) := by decide +kernel
theorem d_B_breaks_30 : decode b_B_breaks 30 = .ok (.ifCond .eq 13, 3) := by decide +kernel
theorem d_B_breaks_33 : decode b_B_breaks 33 = .ok (.iload_n 2, 1) := by decide +kernel
theorem d_B_breaks_34 : decode b_B_breaks 34 = .ok (.iload_n 1, 1) := by decide +kernel
theorem d_B_breaks_35 : decode b_B_breaks 35 = .ok (.if_icmp .ne 5, 3) := by decide +kernel
theorem d_B_breaks_38 : decode b_B_breaks 38 = .ok (.iload_n 3, 1) := by decide +kernel
theorem d_B_breaks_39 : decode b_B_breaks 39 = .ok (.ireturn, 1) := by decide +kernel
theorem d_B_breaks_40 : decode b_B_breaks 40 = .ok (.iinc 2 1, 3) := by decide +kernel
theorem d_B_breaks_43 : decode b_B_breaks 43 = .ok (.iinc 3 1, 3) := by decide +kernel
theorem d_B_breaks_46 : decode b_B_breaks 46 = .ok (.goto (-42), 3) := by decide +kernel
theorem d_B_breaks_49 : decode b_B_breaks 49 = .ok (.iconst (-1), 1) := by decide +kernel
theorem d_B_breaks_50 : decode b_B_breaks 50 = .ok (.ireturn, 1) := by decide +kernel
abbrev rm_B_breaks : Room := { frames := 7, cells := 0, slots := 0, locals := 192 }
theorem ce_B_breaks : gCe y_B_breaks (.code y_B_breaks b_B_breaks 4 (some .int)) 4 1 false := gCe.code wd_413 wd_49 wd_411 (by decide) (by decide +kernel)
def f_B_breaks_L4 (g0 : gG) (c0 : Nat) (c1 : Int32) (K49 : gW → gX Int32) (K38 : Int32 → gW → gX Int32) : Nat → Int32 → Int32 → gW → gX Int32
  | 0, _, _, _ => none
  | n + 1, z2, z3, w => (gfA w c0 0 2).bind fun v2 => (gck w v2 1).bind fun _ => gbind (f_AL_size g0 v2 w) fun v8 w => if v8 ≤ z3 then (K49 w) else ((gfA w c0 0 2).bind fun v10 => (gck w v10 1).bind fun _ => gbind (f_AL_get g0 v10 z3 w) fun v16 w => (gck w v16 5).bind fun _ => (gck w c0 0).bind fun _ => gbind (f_B_breaksSome g0 c0 v16 w) fun v23 w => gjoin (fun K43 => if v23 = 0 then (K43 z2 w) else (if z2 = c1 then (K38 z3 w) else (K43 (z2 + 1) w))) (fun (x24 : Int32) (w : gW) => f_B_breaks_L4 g0 c0 c1 K49 K38 n x24 (z3 + 1) w))
def f_B_breaks (g0 : gG) (a0 : Nat) (p1 : Int32) (w : gW) : gX Int32 := gjoin (fun K49 => gjoin (fun K38 => f_B_breaks_L4 g0 a0 p1 K49 K38 64 0 0 w) (fun (x1 : Int32) (w : gW) => some (.inr x1, w))) (fun (w : gW) => some (.inr (-1), w))
set_option maxHeartbeats 4000000 in
set_option maxRecDepth 100000 in
theorem m_B_breaks (l : Launch) (hst : l.stackTraces = false) (D : gD) (g0 : gG) (a0 : Nat) (p1 : Int32) (w : gW) (r : (String ⊕ Int32) × gW) (h : f_B_breaks g0 a0 p1 w = some r) : gMet l y_B_breaks (.code y_B_breaks b_B_breaks 4 (some .int)) rm_B_breaks D g0 [.ref a0, .int p1] w (goI r) := by
  refine gw_ofI (by decide +kernel) (Nat.le_of_ble_eq_true rfl) ?_
  intro p e s m below meth c ls args A Q hx hb hml hown hlocks hin hnt hT hK hZ hA hret hexc hthr hI hl
  obtain ⟨H, hH⟩ : ∃ H, H = s.heap := ⟨_, rfl⟩
  rw [← hH] at hI ⊢
  obtain ⟨locs, hlocs⟩ : ∃ z : List Loc, z = [] := ⟨_, rfl⟩
  rw [← hlocs] at hI ⊢
  have hl : lv_has ls 4 [(0, .ref a0), (1, .int p1)] := hl
  unfold f_B_breaks at h
  refine lv_iconst (v := 0) hx hb d_B_breaks_0 (by decide) ?_
  refine lv_istore_n (lv' := [(2, .int 0), (0, .ref a0), (1, .int p1)]) hx hb d_B_breaks_1 rfl hl (by decide) rfl (fun ls hl => ?_)
  refine lv_iconst (v := 0) hx hb d_B_breaks_2 (by decide) ?_
  refine lv_istore_n (lv' := [(3, .int 0), (2, .int 0), (0, .ref a0), (1, .int p1)]) hx hb d_B_breaks_3 rfl hl (by decide) rfl (fun ls hl => ?_)
  obtain ⟨K49, eK49, h⟩ := gj h
  have hK49 : ∀ (w : gW) (H : Heap) (locs : List Loc) (ls : Array Slot), K49 w = some r → gI D s A w H locs → lv_has ls 4 [] → W p l e rm_B_breaks s m args below meth c H locs 0 0 Q (F0 m 49 ls []) := by
    intro w H locs ls h hI hl
    have h := gk1 eK49 h
    refine lv_iconst (v := -1) hx hb d_B_breaks_49 (by decide) ?_
    exact W.widen (show 0 ≤ 0 by omega) (show 0 ≤ 0 by omega) (hret _ _ (Option.some.inj h).symm _ _ _ _ d_B_breaks_50 hI)
  obtain ⟨K38, eK38, h⟩ := gj h
  have hK38 : ∀ (x1 : Int32) (w : gW) (H : Heap) (locs : List Loc) (ls : Array Slot), K38 x1 w = some r → gI D s A w H locs → lv_has ls 4 [(3, .int x1)] → W p l e rm_B_breaks s m args below meth c H locs 0 0 Q (F0 m 38 ls []) := by
    intro x1 w H locs ls h hI hl
    have h := gk2 eK38 h
    refine lv_iload_n hx hb d_B_breaks_38 rfl (lv_at hl 0 rfl) ?_
    exact W.widen (show 0 ≤ 0 by omega) (show 0 ≤ 0 by omega) (hret _ _ (Option.some.inj h).symm _ _ _ _ d_B_breaks_39 hI)
  have hL4 : ∀ (n : Nat), ∀ (z2 : Int32) (z3 : Int32) (w : gW) (H : Heap) (locs : List Loc) (ls : Array Slot), f_B_breaks_L4 g0 a0 p1 K49 K38 n z2 z3 w = some r → gI D s A w H locs → lv_has ls 4 [(0, .ref a0), (1, .int p1), (2, .int z2), (3, .int z3)] → W p l e rm_B_breaks s m args below meth c H locs 0 0 Q (F0 m 4 ls []) := by
    intro n
    induction n with
    | zero => intro z2 z3 w H locs ls h hI hl; exact absurd h (by simp [f_B_breaks_L4])
    | succ n ih =>
      intro z2 z3 w H locs ls h hI hl
      rw [f_B_breaks_L4] at h
      refine lv_iload_n hx hb d_B_breaks_4 rfl (lv_at hl 3 rfl) ?_
      refine lv_aload_n hx hb d_B_breaks_5 rfl (lv_at hl 0 rfl) ?_
      obtain ⟨v4, e5, h⟩ := gb h
      refine gw_getA hx hb hT hown hK hI (ci := 0) rfl i_0 2 (by decide) wd_191 (fun _ h9 => h9) e5 d_B_breaks_6 ?_
      obtain ⟨q8, e9, h⟩ := gb h
      obtain ⟨u6, e7⟩ := gsome h
      refine gw_callI e7 h (gw_runV (As := []) (rest := [.int z3]) hx hb hml hown hT hK hZ hA hI (ci := 1) rfl e9 (m_AL_size l hst D g0 v4 w u6 e7) ce_AL_size wd_224 wd_226 ⟨by decide, by decide⟩ rfl rfl hl.1 rfl (lv_room (Nat.le_of_ble_eq_true rfl)) d_B_breaks_9 ⟨(show 0 + 0 ≤ 0 by omega), (show 0 + 0 ≤ 0 by omega)⟩) hI hA hexc (show 0 + 0 ≤ 0 by omega) (show 0 + 0 ≤ 0 by omega) (fun v10 w H locs h hI => ?_)
      refine lv_icmp_ge (tgt := 49) hx hb d_B_breaks_12 (by decide) (fun c11 => ?_) (fun c11 => ?_)
      · skip
        have h := git c11 h
        exact hK49 w H locs ls h hI (lv_sub hl [] rfl)
      · skip
        have h := gie c11 h
        refine lv_aload_n hx hb d_B_breaks_15 rfl (lv_at hl 0 rfl) ?_
        refine lv_aload_n hx hb d_B_breaks_16 rfl (lv_at hl 0 rfl) ?_
        obtain ⟨v12, e13, h⟩ := gb h
        refine gw_getA hx hb hT hown hK hI (ci := 0) rfl i_0 2 (by decide) wd_191 (fun _ h9 => h9) e13 d_B_breaks_17 ?_
        refine lv_iload_n hx hb d_B_breaks_20 rfl (lv_at hl 3 rfl) ?_
        obtain ⟨q16, e17, h⟩ := gb h
        obtain ⟨u14, e15⟩ := gsome h
        refine gw_callA e15 h (gw_runV (As := [.int z3]) (rest := [.ref a0]) hx hb hml hown hT hK hZ hA hI (ci := 1) rfl e17 (m_AL_get l hst D g0 v12 z3 w u14 e15) ce_AL_get wd_321 wd_323 ⟨by decide, by decide⟩ rfl rfl hl.1 rfl (lv_room (Nat.le_of_ble_eq_true rfl)) d_B_breaks_21 ⟨(show 0 + 0 ≤ 0 by omega), (show 0 + 0 ≤ 0 by omega)⟩) hI hA hexc (show 0 + 0 ≤ 0 by omega) (show 0 + 0 ≤ 0 by omega) (fun v18 w H locs h hI => ?_)
        obtain ⟨q20, e19, h⟩ := gb h
        refine gw_cast hx hb hT hown hK hI wd_335 (ci := 5) rfl wd_1123 e19 d_B_breaks_24 ?_
        obtain ⟨q23, e24, h⟩ := gb h
        obtain ⟨u21, e22⟩ := gsome h
        refine gw_callI e22 h (gw_runV (As := [.ref v18]) (rest := []) hx hb hml hown hT hK hZ hA hI (ci := 0) rfl e24 (m_B_breaksSome l hst D g0 a0 v18 w u21 e22) ce_B_breaksSome wd_414 wd_6 ⟨by decide, by decide⟩ rfl rfl hl.1 rfl (lv_room (Nat.le_of_ble_eq_true rfl)) d_B_breaks_27 ⟨(show 0 + 0 ≤ 0 by omega), (show 0 + 0 ≤ 0 by omega)⟩) hI hA hexc (show 0 + 0 ≤ 0 by omega) (show 0 + 0 ≤ 0 by omega) (fun v25 w H locs h hI => ?_)
        obtain ⟨K43, eK43, h⟩ := gj h
        have hK43 : ∀ (x26 : Int32) (w : gW) (H : Heap) (locs : List Loc) (ls : Array Slot), K43 x26 w = some r → gI D s A w H locs → lv_has ls 4 [(0, .ref a0), (1, .int p1), (2, .int x26), (3, .int z3)] → W p l e rm_B_breaks s m args below meth c H locs 0 0 Q (F0 m 43 ls []) := by
          intro x26 w H locs ls h hI hl
          have h := gk2 eK43 h
          refine lv_iinc (v := z3 + 1) (lv' := [(3, .int (z3 + 1)), (0, .ref a0), (1, .int p1), (2, .int x26)]) hx hb d_B_breaks_43 hl (k := 3) rfl rfl (by decide) rfl (fun ls hl => ?_)
          refine lv_goto (tgt := 4) hx hb d_B_breaks_46 (by decide) ?_
          exact ih _ _ w H locs ls h hI (lv_sub hl [1, 2, 3, 0] rfl)
        refine lv_if_eq (tgt := 43) hx hb d_B_breaks_30 (by decide) (fun c27 => ?_) (fun c27 => ?_)
        · skip
          have h := git c27 h
          exact hK43 _ w H locs ls h hI (lv_sub hl [0, 1, 2, 3] rfl)
        · skip
          have h := gie c27 h
          refine lv_iload_n hx hb d_B_breaks_33 rfl (lv_at hl 2 rfl) ?_
          refine lv_iload_n hx hb d_B_breaks_34 rfl (lv_at hl 1 rfl) ?_
          refine lv_icmp_ne (tgt := 40) hx hb d_B_breaks_35 (by decide) (fun c28 => ?_) (fun c28 => ?_)
          · skip
            have h := gie c28 h
            refine lv_iinc (v := z2 + 1) (lv' := [(2, .int (z2 + 1)), (0, .ref a0), (1, .int p1), (3, .int z3)]) hx hb d_B_breaks_40 hl (k := 2) rfl rfl (by decide) rfl (fun ls hl => ?_)
            exact hK43 _ w H locs ls h hI (lv_sub hl [1, 2, 0, 3] rfl)
          · skip
            have h := git c28 h
            exact hK38 _ w H locs ls h hI (lv_sub hl [3] rfl)
  exact hL4 64 _ _ w H locs ls h hI (lv_sub hl [2, 3, 1, 0] rfl)

abbrev b_B_relationOfLayouts : ByteArray := prog_1_method_36_code
def y_B_relationOfLayouts : MethodName := ⟨"BodySolids", "relationOfLayouts", "()I"⟩
theorem d_B_relationOfLayouts_0 : decode b_B_relationOfLayouts 0 = .ok (.iconst 0, 1) := by decide +kernel
theorem d_B_relationOfLayouts_1 : decode b_B_relationOfLayouts 1 = .ok (.istore_n 1, 1) := by decide +kernel
theorem d_B_relationOfLayouts_2 : decode b_B_relationOfLayouts 2 = .ok (.iconst 0, 1) := by decide +kernel
theorem d_B_relationOfLayouts_3 : decode b_B_relationOfLayouts 3 = .ok (.istore_n 2, 1) := by decide +kernel
theorem d_B_relationOfLayouts_4 : decode b_B_relationOfLayouts 4 = .ok (.iload_n 2, 1) := by decide +kernel
theorem d_B_relationOfLayouts_5 : decode b_B_relationOfLayouts 5 = .ok (.aload_n 0, 1) := by decide +kernel
theorem d_B_relationOfLayouts_6 : decode b_B_relationOfLayouts 6 = .ok (.getfield 61, 3) := by decide +kernel
theorem d_B_relationOfLayouts_9 : decode b_B_relationOfLayouts 9 = .ok (.getfield 217, 3) := by decide +kernel
theorem d_B_relationOfLayouts_12 : decode b_B_relationOfLayouts 12 = .ok (.if_icmp .ge 66, 3) := by decide +kernel
theorem d_B_relationOfLayouts_15 : decode b_B_relationOfLayouts 15 = .ok (.iconst 0, 1) := by decide +kernel
theorem d_B_relationOfLayouts_16 : decode b_B_relationOfLayouts 16 = .ok (.istore_n 3, 1) := by decide +kernel
theorem d_B_relationOfLayouts_17 : decode b_B_relationOfLayouts 17 = .ok (.iload_n 3, 1) := by decide +kernel
theorem d_B_relationOfLayouts_18 : decode b_B_relationOfLayouts 18 = .ok (.aload_n 0, 1) := by decide +kernel
theorem d_B_relationOfLayouts_19 : decode b_B_relationOfLayouts 19 = .ok (.getfield 65, 3) := by decide +kernel
theorem d_B_relationOfLayouts_22 : decode b_B_relationOfLayouts 22 = .ok (.getfield 217, 3) := by decide +kernel
theorem d_B_relationOfLayouts_25 : decode b_B_relationOfLayouts 25 = .ok (.if_icmp .ge 47, 3) := by decide +kernel
theorem d_B_relationOfLayouts_28 : decode b_B_relationOfLayouts 28 = .ok (.aload_n 0, 1) := by decide +kernel
theorem d_B_relationOfLayouts_29 : decode b_B_relationOfLayouts 29 = .ok (.getfield 61, 3) := by decide +kernel
theorem d_B_relationOfLayouts_32 : decode b_B_relationOfLayouts 32 = .ok (.getfield 227, 3) := by decide +kernel
theorem d_B_relationOfLayouts_35 : decode b_B_relationOfLayouts 35 = .ok (.iload_n 2, 1) := by decide +kernel
theorem d_B_relationOfLayouts_36 : decode b_B_relationOfLayouts 36 = .ok (.aaload, 1) := by decide +kernel
theorem d_B_relationOfLayouts_37 : decode b_B_relationOfLayouts 37 = .ok (.aload_n 0, 1) := by decide +kernel
theorem d_B_relationOfLayouts_38 : decode b_B_relationOfLayouts 38 = .ok (.getfield 65, 3) := by decide +kernel
theorem d_B_relationOfLayouts_41 : decode b_B_relationOfLayouts 41 = .ok (.getfield 227, 3) := by decide +kernel
theorem d_B_relationOfLayouts_44 : decode b_B_relationOfLayouts 44 = .ok (.iload_n 3, 1) := by decide +kernel
theorem d_B_relationOfLayouts_45 : decode b_B_relationOfLayouts 45 = .ok (.aaload, 1) := by decide +kernel
theorem d_B_relationOfLayouts_46 : decode b_B_relationOfLayouts 46 = .ok (.invokestatic 282, 3) := by decide +kernel
theorem d_B_relationOfLayouts_49 : decode b_B_relationOfLayouts 49 = .ok (.istore 4, 2) := by decide +kernel
theorem d_B_relationOfLayouts_51 : decode b_B_relationOfLayouts 51 = .ok (.iload 4, 2) := by decide +kernel
theorem d_B_relationOfLayouts_53 : decode b_B_relationOfLayouts 53 = .ok (.iconst (-1), 1) := by decide +kernel
theorem d_B_relationOfLayouts_54 : decode b_B_relationOfLayouts 54 = .ok (.if_icmp .ne 5, 3) := by decide +kernel
theorem d_B_relationOfLayouts_57 : decode b_B_relationOfLayouts 57 = .ok (.iconst 1, 1) := by decide +kernel
theorem d_B_relationOfLayouts_58 : decode b_B_relationOfLayouts 58 = .ok (.ireturn, 1) := by decide +kernel
theorem d_B_relationOfLayouts_59 : decode b_B_relationOfLayouts 59 = .ok (.iload 4, 2) := by decide +kernel
theorem d_B_relationOfLayouts_61 : decode b_B_relationOfLayouts 61 = .ok (.ifCond .ne 5, 3) := by decide +kernel
theorem d_B_relationOfLayouts_64 : decode b_B_relationOfLayouts 64 = .ok (.iconst 2, 1) := by decide +kernel
theorem d_B_relationOfLayouts_65 : decode b_B_relationOfLayouts 65 = .ok (.istore_n 1, 1) := by decide +kernel
theorem d_B_relationOfLayouts_66 : decode b_B_relationOfLayouts 66 = .ok (.iinc 3 1, 3) := by decide +kernel
theorem d_B_relationOfLayouts_69 : decode b_B_relationOfLayouts 69 = .ok (.goto (-52), 3) := by decide +kernel
theorem d_B_relationOfLayouts_72 : decode b_B_relationOfLayouts 72 = .ok (.iinc 2 1, 3) := by decide +kernel
theorem d_B_relationOfLayouts_75 : decode b_B_relationOfLayouts 75 = .ok (.goto (-71), 3) := by decide +kernel
theorem d_B_relationOfLayouts_78 : decode b_B_relationOfLayouts 78 = .ok (.iload_n 1, 1) := by decide +kernel
theorem d_B_relationOfLayouts_79 : decode b_B_relationOfLayouts 79 = .ok (.ireturn, 1) := by decide +kernel
abbrev rm_B_relationOfLayouts : Room := { frames := 5, cells := 0, slots := 0, locals := 147 }
theorem ce_B_relationOfLayouts : gCe y_B_relationOfLayouts (.code y_B_relationOfLayouts b_B_relationOfLayouts 5 (some .int)) 5 0 false := gCe.code wd_372 wd_49 wd_371 (by decide) (by decide +kernel)
def f_B_relationOfLayouts_L17 (g0 : gG) (c0 : Nat) (c2 : Int32) (K72 : Int32 → gW → gX Int32) (K57 : gW → gX Int32) : Nat → Int32 → Int32 → gW → gX Int32
  | 0, _, _, _ => none
  | n + 1, z1, z3, w => (gfA w c0 0 9).bind fun v8 => (gfI w v8 2 1).bind fun v10 => if v10 ≤ z3 then (K72 z1 w) else ((gfA w c0 0 8).bind fun v13 => (gfA w v13 2 0).bind fun v15 => (gaA w v15 c2).bind fun v17 => (gfA w c0 0 9).bind fun v19 => (gfA w v19 2 0).bind fun v21 => (gaA w v21 z3).bind fun v23 => gbind (f_Me_of g0 v17 v23 w) fun v27 w => if v27 = (-1) then (K57 w) else (gjoin (fun K66 => if v27 = 0 then (K66 2 w) else (K66 z1 w)) (fun (x29 : Int32) (w : gW) => f_B_relationOfLayouts_L17 g0 c0 c2 K72 K57 n x29 (z3 + 1) w)))
def f_B_relationOfLayouts_L4 (g0 : gG) (c0 : Nat) (K78 : Int32 → gW → gX Int32) (K57 : gW → gX Int32) : Nat → Int32 → Int32 → gW → gX Int32
  | 0, _, _, _ => none
  | n + 1, z1, z2, w => (gfA w c0 0 8).bind fun v2 => (gfI w v2 2 1).bind fun v4 => if v4 ≤ z2 then (K78 z1 w) else (gjoin (fun K72 => f_B_relationOfLayouts_L17 g0 c0 z2 K72 K57 64 z1 0 w) (fun (x7 : Int32) (w : gW) => f_B_relationOfLayouts_L4 g0 c0 K78 K57 n x7 (z2 + 1) w))
def f_B_relationOfLayouts (g0 : gG) (a0 : Nat) (w : gW) : gX Int32 := gjoin (fun K78 => gjoin (fun K57 => f_B_relationOfLayouts_L4 g0 a0 K78 K57 64 0 0 w) (fun (w : gW) => some (.inr 1, w))) (fun (x1 : Int32) (w : gW) => some (.inr x1, w))
set_option maxHeartbeats 4000000 in
set_option maxRecDepth 100000 in
theorem m_B_relationOfLayouts (l : Launch) (hst : l.stackTraces = false) (D : gD) (g0 : gG) (a0 : Nat) (w : gW) (r : (String ⊕ Int32) × gW) (h : f_B_relationOfLayouts g0 a0 w = some r) : gMet l y_B_relationOfLayouts (.code y_B_relationOfLayouts b_B_relationOfLayouts 5 (some .int)) rm_B_relationOfLayouts D g0 [.ref a0] w (goI r) := by
  refine gw_ofI (by decide +kernel) (Nat.le_of_ble_eq_true rfl) ?_
  intro p e s m below meth c ls args A Q hx hb hml hown hlocks hin hnt hT hK hZ hA hret hexc hthr hI hl
  obtain ⟨H, hH⟩ : ∃ H, H = s.heap := ⟨_, rfl⟩
  rw [← hH] at hI ⊢
  obtain ⟨locs, hlocs⟩ : ∃ z : List Loc, z = [] := ⟨_, rfl⟩
  rw [← hlocs] at hI ⊢
  have hl : lv_has ls 5 [(0, .ref a0)] := hl
  unfold f_B_relationOfLayouts at h
  refine lv_iconst (v := 0) hx hb d_B_relationOfLayouts_0 (by decide) ?_
  refine lv_istore_n (lv' := [(1, .int 0), (0, .ref a0)]) hx hb d_B_relationOfLayouts_1 rfl hl (by decide) rfl (fun ls hl => ?_)
  refine lv_iconst (v := 0) hx hb d_B_relationOfLayouts_2 (by decide) ?_
  refine lv_istore_n (lv' := [(2, .int 0), (1, .int 0), (0, .ref a0)]) hx hb d_B_relationOfLayouts_3 rfl hl (by decide) rfl (fun ls hl => ?_)
  obtain ⟨K78, eK78, h⟩ := gj h
  have hK78 : ∀ (x1 : Int32) (w : gW) (H : Heap) (locs : List Loc) (ls : Array Slot), K78 x1 w = some r → gI D s A w H locs → lv_has ls 5 [(1, .int x1)] → W p l e rm_B_relationOfLayouts s m args below meth c H locs 0 0 Q (F0 m 78 ls []) := by
    intro x1 w H locs ls h hI hl
    have h := gk2 eK78 h
    refine lv_iload_n hx hb d_B_relationOfLayouts_78 rfl (lv_at hl 0 rfl) ?_
    exact W.widen (show 0 ≤ 0 by omega) (show 0 ≤ 0 by omega) (hret _ _ (Option.some.inj h).symm _ _ _ _ d_B_relationOfLayouts_79 hI)
  obtain ⟨K57, eK57, h⟩ := gj h
  have hK57 : ∀ (w : gW) (H : Heap) (locs : List Loc) (ls : Array Slot), K57 w = some r → gI D s A w H locs → lv_has ls 5 [] → W p l e rm_B_relationOfLayouts s m args below meth c H locs 0 0 Q (F0 m 57 ls []) := by
    intro w H locs ls h hI hl
    have h := gk1 eK57 h
    refine lv_iconst (v := 1) hx hb d_B_relationOfLayouts_57 (by decide) ?_
    exact W.widen (show 0 ≤ 0 by omega) (show 0 ≤ 0 by omega) (hret _ _ (Option.some.inj h).symm _ _ _ _ d_B_relationOfLayouts_58 hI)
  have hL4 : ∀ (n : Nat), ∀ (z2 : Int32) (z3 : Int32) (w : gW) (H : Heap) (locs : List Loc) (ls : Array Slot), f_B_relationOfLayouts_L4 g0 a0 K78 K57 n z2 z3 w = some r → gI D s A w H locs → lv_has ls 5 [(0, .ref a0), (1, .int z2), (2, .int z3)] → W p l e rm_B_relationOfLayouts s m args below meth c H locs 0 0 Q (F0 m 4 ls []) := by
    intro n
    induction n with
    | zero => intro z2 z3 w H locs ls h hI hl; exact absurd h (by simp [f_B_relationOfLayouts_L4])
    | succ n ih =>
      intro z2 z3 w H locs ls h hI hl
      rw [f_B_relationOfLayouts_L4] at h
      refine lv_iload_n hx hb d_B_relationOfLayouts_4 rfl (lv_at hl 2 rfl) ?_
      refine lv_aload_n hx hb d_B_relationOfLayouts_5 rfl (lv_at hl 0 rfl) ?_
      obtain ⟨v4, e5, h⟩ := gb h
      refine gw_getA hx hb hT hown hK hI (ci := 0) rfl i_0 8 (by decide) wd_197 (fun _ h9 => h9) e5 d_B_relationOfLayouts_6 ?_
      obtain ⟨v6, e7, h⟩ := gb h
      refine gw_getI hx hb hT hown hK hI (ci := 2) rfl i_2 1 (by decide) wd_183 (fun _ h9 => h9) e7 d_B_relationOfLayouts_9 ?_
      refine lv_icmp_ge (tgt := 78) hx hb d_B_relationOfLayouts_12 (by decide) (fun c8 => ?_) (fun c8 => ?_)
      · skip
        have h := git c8 h
        exact hK78 _ w H locs ls h hI (lv_sub hl [1] rfl)
      · skip
        have h := gie c8 h
        refine lv_iconst (v := 0) hx hb d_B_relationOfLayouts_15 (by decide) ?_
        refine lv_istore_n (lv' := [(3, .int 0), (0, .ref a0), (1, .int z2), (2, .int z3)]) hx hb d_B_relationOfLayouts_16 rfl hl (by decide) rfl (fun ls hl => ?_)
        obtain ⟨K72, eK72, h⟩ := gj h
        have hK72 : ∀ (x9 : Int32) (w : gW) (H : Heap) (locs : List Loc) (ls : Array Slot), K72 x9 w = some r → gI D s A w H locs → lv_has ls 5 [(0, .ref a0), (1, .int x9), (2, .int z3)] → W p l e rm_B_relationOfLayouts s m args below meth c H locs 0 0 Q (F0 m 72 ls []) := by
          intro x9 w H locs ls h hI hl
          have h := gk2 eK72 h
          refine lv_iinc (v := z3 + 1) (lv' := [(2, .int (z3 + 1)), (0, .ref a0), (1, .int x9)]) hx hb d_B_relationOfLayouts_72 hl (k := 2) rfl rfl (by decide) rfl (fun ls hl => ?_)
          refine lv_goto (tgt := 4) hx hb d_B_relationOfLayouts_75 (by decide) ?_
          exact ih _ _ w H locs ls h hI (lv_sub hl [1, 2, 0] rfl)
        have hL17 : ∀ (n : Nat), ∀ (z10 : Int32) (z11 : Int32) (w : gW) (H : Heap) (locs : List Loc) (ls : Array Slot), f_B_relationOfLayouts_L17 g0 a0 z3 K72 K57 n z10 z11 w = some r → gI D s A w H locs → lv_has ls 5 [(0, .ref a0), (2, .int z3), (1, .int z10), (3, .int z11)] → W p l e rm_B_relationOfLayouts s m args below meth c H locs 0 0 Q (F0 m 17 ls []) := by
          intro n
          induction n with
          | zero => intro z10 z11 w H locs ls h hI hl; exact absurd h (by simp [f_B_relationOfLayouts_L17])
          | succ n ih =>
            intro z10 z11 w H locs ls h hI hl
            rw [f_B_relationOfLayouts_L17] at h
            refine lv_iload_n hx hb d_B_relationOfLayouts_17 rfl (lv_at hl 3 rfl) ?_
            refine lv_aload_n hx hb d_B_relationOfLayouts_18 rfl (lv_at hl 0 rfl) ?_
            obtain ⟨v12, e13, h⟩ := gb h
            refine gw_getA hx hb hT hown hK hI (ci := 0) rfl i_0 9 (by decide) wd_198 (fun _ h9 => h9) e13 d_B_relationOfLayouts_19 ?_
            obtain ⟨v14, e15, h⟩ := gb h
            refine gw_getI hx hb hT hown hK hI (ci := 2) rfl i_2 1 (by decide) wd_183 (fun _ h9 => h9) e15 d_B_relationOfLayouts_22 ?_
            refine lv_icmp_ge (tgt := 72) hx hb d_B_relationOfLayouts_25 (by decide) (fun c16 => ?_) (fun c16 => ?_)
            · skip
              have h := git c16 h
              exact hK72 _ w H locs ls h hI (lv_sub hl [0, 2, 1] rfl)
            · skip
              have h := gie c16 h
              refine lv_aload_n hx hb d_B_relationOfLayouts_28 rfl (lv_at hl 0 rfl) ?_
              obtain ⟨v17, e18, h⟩ := gb h
              refine gw_getA hx hb hT hown hK hI (ci := 0) rfl i_0 8 (by decide) wd_197 (fun _ h9 => h9) e18 d_B_relationOfLayouts_29 ?_
              obtain ⟨v19, e20, h⟩ := gb h
              refine gw_getA hx hb hT hown hK hI (ci := 2) rfl i_2 0 (by decide) wd_181 (fun _ h9 => h9) e20 d_B_relationOfLayouts_32 ?_
              refine lv_iload_n hx hb d_B_relationOfLayouts_35 rfl (lv_at hl 1 rfl) ?_
              obtain ⟨v21, e22, h⟩ := gb h
              refine gw_aldA hx hb hK hI e22 d_B_relationOfLayouts_36 ?_
              refine lv_aload_n hx hb d_B_relationOfLayouts_37 rfl (lv_at hl 0 rfl) ?_
              obtain ⟨v23, e24, h⟩ := gb h
              refine gw_getA hx hb hT hown hK hI (ci := 0) rfl i_0 9 (by decide) wd_198 (fun _ h9 => h9) e24 d_B_relationOfLayouts_38 ?_
              obtain ⟨v25, e26, h⟩ := gb h
              refine gw_getA hx hb hT hown hK hI (ci := 2) rfl i_2 0 (by decide) wd_181 (fun _ h9 => h9) e26 d_B_relationOfLayouts_41 ?_
              refine lv_iload_n hx hb d_B_relationOfLayouts_44 rfl (lv_at hl 3 rfl) ?_
              obtain ⟨v27, e28, h⟩ := gb h
              refine gw_aldA hx hb hK hI e28 d_B_relationOfLayouts_45 ?_
              obtain ⟨u29, e30⟩ := gsome h
              refine gw_callI e30 h (gw_runS (As := [.ref v21, .ref v27]) (rest := []) hx hb hml hown hT hK hZ hA hI (m_Me_of l hst D g0 v21 v27 w u29 e30) ce_Me_of wd_373 ⟨by decide, by decide⟩ rfl rfl hl.1 rfl (lv_room (Nat.le_of_ble_eq_true rfl)) d_B_relationOfLayouts_46 ⟨(show 0 + 0 ≤ 0 by omega), (show 0 + 0 ≤ 0 by omega)⟩) hI hA hexc (show 0 + 0 ≤ 0 by omega) (show 0 + 0 ≤ 0 by omega) (fun v31 w H locs h hI => ?_)
              refine lv_istore (lv' := [(4, .int v31), (0, .ref a0), (2, .int z3), (1, .int z10), (3, .int z11)]) hx hb d_B_relationOfLayouts_49 hl (by decide) rfl (fun ls hl => ?_)
              refine lv_iload hx hb d_B_relationOfLayouts_51 (lv_at hl 0 rfl) ?_
              refine lv_iconst (v := -1) hx hb d_B_relationOfLayouts_53 (by decide) ?_
              refine lv_icmp_ne (tgt := 59) hx hb d_B_relationOfLayouts_54 (by decide) (fun c32 => ?_) (fun c32 => ?_)
              · skip
                have h := gie c32 h
                refine lv_iload hx hb d_B_relationOfLayouts_59 (lv_at hl 0 rfl) ?_
                obtain ⟨K66, eK66, h⟩ := gj h
                have hK66 : ∀ (x33 : Int32) (w : gW) (H : Heap) (locs : List Loc) (ls : Array Slot), K66 x33 w = some r → gI D s A w H locs → lv_has ls 5 [(0, .ref a0), (1, .int x33), (2, .int z3), (3, .int z11)] → W p l e rm_B_relationOfLayouts s m args below meth c H locs 0 0 Q (F0 m 66 ls []) := by
                  intro x33 w H locs ls h hI hl
                  have h := gk2 eK66 h
                  refine lv_iinc (v := z11 + 1) (lv' := [(3, .int (z11 + 1)), (0, .ref a0), (1, .int x33), (2, .int z3)]) hx hb d_B_relationOfLayouts_66 hl (k := 3) rfl rfl (by decide) rfl (fun ls hl => ?_)
                  refine lv_goto (tgt := 17) hx hb d_B_relationOfLayouts_69 (by decide) ?_
                  exact ih _ _ w H locs ls h hI (lv_sub hl [1, 3, 2, 0] rfl)
                refine lv_if_ne (tgt := 66) hx hb d_B_relationOfLayouts_61 (by decide) (fun c34 => ?_) (fun c34 => ?_)
                · skip
                  have h := gie c34 h
                  exact hK66 _ w H locs ls h hI (lv_sub hl [1, 3, 2, 4] rfl)
                · skip
                  have h := git c34 h
                  refine lv_iconst (v := 2) hx hb d_B_relationOfLayouts_64 (by decide) ?_
                  refine lv_istore_n (lv' := [(1, .int 2), (4, .int v31), (0, .ref a0), (2, .int z3), (3, .int z11)]) hx hb d_B_relationOfLayouts_65 rfl hl (by decide) rfl (fun ls hl => ?_)
                  exact hK66 _ w H locs ls h hI (lv_sub hl [2, 0, 3, 4] rfl)
              · skip
                have h := git c32 h
                exact hK57 w H locs ls h hI (lv_sub hl [] rfl)
        exact hL17 64 _ _ w H locs ls h hI (lv_sub hl [1, 3, 2, 0] rfl)
  exact hL4 64 _ _ w H locs ls h hI (lv_sub hl [2, 1, 0] rfl)

abbrev b_B_relation : ByteArray := prog_1_method_35_code
def y_B_relation : MethodName := ⟨"BodySolids", "relation", "(II)I"⟩
theorem d_B_relation_0 : decode b_B_relation 0 = .ok (.iload_n 1, 1) := by decide +kernel
theorem d_B_relation_1 : decode b_B_relation 1 = .ok (.iload_n 2, 1) := by decide +kernel
theorem d_B_relation_2 : decode b_B_relation 2 = .ok (.invokestatic 272, 3) := by decide +kernel
theorem d_B_relation_5 : decode b_B_relation 5 = .ok (.istore_n 3, 1) := by decide +kernel
theorem d_B_relation_6 : decode b_B_relation 6 = .ok (.aload_n 0, 1) := by decide +kernel
theorem d_B_relation_7 : decode b_B_relation 7 = .ok (.getfield 48, 3) := by decide +kernel
theorem d_B_relation_10 : decode b_B_relation 10 = .ok (.iload_n 3, 1) := by decide +kernel
theorem d_B_relation_11 : decode b_B_relation 11 = .ok (.iaload, 1) := by decide +kernel
theorem d_B_relation_12 : decode b_B_relation 12 = .ok (.iconst (-1), 1) := by decide +kernel
theorem d_B_relation_13 : decode b_B_relation 13 = .ok (.if_icmp .ne 57, 3) := by decide +kernel
theorem d_B_relation_16 : decode b_B_relation 16 = .ok (.aload_n 0, 1) := by decide +kernel
theorem d_B_relation_17 : decode b_B_relation 17 = .ok (.getfield 61, 3) := by decide +kernel
theorem d_B_relation_20 : decode b_B_relation 20 = .ok (.aload_n 0, 1) := by decide +kernel
theorem d_B_relation_21 : decode b_B_relation 21 = .ok (.getfield 31, 3) := by decide +kernel
theorem d_B_relation_24 : decode b_B_relation 24 = .ok (.iload_n 1, 1) := by decide +kernel
theorem d_B_relation_25 : decode b_B_relation 25 = .ok (.invokevirtual 205, 3) := by decide +kernel
theorem d_B_relation_28 : decode b_B_relation 28 = .ok (.checkcast 164, 3) := by decide +kernel
theorem d_B_relation_31 : decode b_B_relation 31 = .ok (.aload_n 0, 1) := by decide +kernel
theorem d_B_relation_32 : decode b_B_relation 32 = .ok (.getfield 20, 3) := by decide +kernel
theorem d_B_relation_35 : decode b_B_relation 35 = .ok (.invokevirtual 213, 3) := by decide +kernel
theorem d_B_relation_38 : decode b_B_relation 38 = .ok (.aload_n 0, 1) := by decide +kernel
theorem d_B_relation_39 : decode b_B_relation 39 = .ok (.getfield 65, 3) := by decide +kernel
theorem d_B_relation_42 : decode b_B_relation 42 = .ok (.aload_n 0, 1) := by decide +kernel
theorem d_B_relation_43 : decode b_B_relation 43 = .ok (.getfield 31, 3) := by decide +kernel
theorem d_B_relation_46 : decode b_B_relation 46 = .ok (.iload_n 2, 1) := by decide +kernel
theorem d_B_relation_47 : decode b_B_relation 47 = .ok (.invokevirtual 205, 3) := by decide +kernel
theorem d_B_relation_50 : decode b_B_relation 50 = .ok (.checkcast 164, 3) := by decide +kernel
theorem d_B_relation_53 : decode b_B_relation 53 = .ok (.aload_n 0, 1) := by decide +kernel
theorem d_B_relation_54 : decode b_B_relation 54 = .ok (.getfield 20, 3) := by decide +kernel
theorem d_B_relation_57 : decode b_B_relation 57 = .ok (.invokevirtual 213, 3) := by decide +kernel
theorem d_B_relation_60 : decode b_B_relation 60 = .ok (.aload_n 0, 1) := by decide +kernel
theorem d_B_relation_61 : decode b_B_relation 61 = .ok (.getfield 48, 3) := by decide +kernel
theorem d_B_relation_64 : decode b_B_relation 64 = .ok (.iload_n 3, 1) := by decide +kernel
theorem d_B_relation_65 : decode b_B_relation 65 = .ok (.aload_n 0, 1) := by decide +kernel
theorem d_B_relation_66 : decode b_B_relation 66 = .ok (.invokevirtual 279, 3) := by decide +kernel
theorem d_B_relation_69 : decode b_B_relation 69 = .ok (.iastore, 1) := by decide +kernel
theorem d_B_relation_70 : decode b_B_relation 70 = .ok (.aload_n 0, 1) := by decide +kernel
theorem d_B_relation_71 : decode b_B_relation 71 = .ok (.getfield 48, 3) := by decide +kernel
theorem d_B_relation_74 : decode b_B_relation 74 = .ok (.iload_n 3, 1) := by decide +kernel
theorem d_B_relation_75 : decode b_B_relation 75 = .ok (.iaload, 1) := by decide +kernel
theorem d_B_relation_76 : decode b_B_relation 76 = .ok (.ireturn, 1) := by decide +kernel
abbrev rm_B_relation : Room := { frames := 6, cells := 0, slots := 0, locals := 171 }
theorem ce_B_relation : gCe y_B_relation (.code y_B_relation b_B_relation 4 (some .int)) 4 2 false := gCe.code wd_315 wd_49 wd_314 (by decide) (by decide +kernel)
def f_B_relation (g0 : gG) (a0 : Nat) (p1 : Int32) (p2 : Int32) (w : gW) : gX Int32 := gbind (f_B_relationSlot g0 p1 p2 w) fun v3 w => (gfA w a0 0 7).bind fun v4 => (gaI w v4 v3).bind fun v6 => gjoin (fun K70 => if v6 = (-1) then ((gfA w a0 0 8).bind fun v13 => (gfA w a0 0 2).bind fun v15 => (gck w v15 1).bind fun _ => gbind (f_AL_get g0 v15 p1 w) fun v21 w => (gck w v21 5).bind fun _ => (gfJ w a0 0 0).bind fun v24 => (gck w v13 2).bind fun _ => gbind (f_La_lay g0 v13 v21 v24 w) fun v30 w => (gfA w a0 0 9).bind fun v31 => (gfA w a0 0 2).bind fun v33 => (gck w v33 1).bind fun _ => gbind (f_AL_get g0 v33 p2 w) fun v39 w => (gck w v39 5).bind fun _ => (gfJ w a0 0 0).bind fun v42 => (gck w v31 2).bind fun _ => gbind (f_La_lay g0 v31 v39 v42 w) fun v48 w => (gfA w a0 0 7).bind fun v49 => (gck w a0 0).bind fun _ => gbind (f_B_relationOfLayouts g0 a0 w) fun v55 w => (gsI w v49 v3 v55).bind fun w => K70 w) else (K70 w)) (fun (w : gW) => (gfA w a0 0 7).bind fun v8 => (gaI w v8 v3).bind fun v10 => some (.inr v10, w))
set_option maxHeartbeats 4000000 in
set_option maxRecDepth 100000 in
theorem m_B_relation (l : Launch) (hst : l.stackTraces = false) (D : gD) (g0 : gG) (a0 : Nat) (p1 : Int32) (p2 : Int32) (w : gW) (r : (String ⊕ Int32) × gW) (h : f_B_relation g0 a0 p1 p2 w = some r) : gMet l y_B_relation (.code y_B_relation b_B_relation 4 (some .int)) rm_B_relation D g0 [.ref a0, .int p1, .int p2] w (goI r) := by
  refine gw_ofI (by decide +kernel) (Nat.le_of_ble_eq_true rfl) ?_
  intro p e s m below meth c ls args A Q hx hb hml hown hlocks hin hnt hT hK hZ hA hret hexc hthr hI hl
  obtain ⟨H, hH⟩ : ∃ H, H = s.heap := ⟨_, rfl⟩
  rw [← hH] at hI ⊢
  obtain ⟨locs, hlocs⟩ : ∃ z : List Loc, z = [] := ⟨_, rfl⟩
  rw [← hlocs] at hI ⊢
  have hl : lv_has ls 4 [(0, .ref a0), (1, .int p1), (2, .int p2)] := hl
  unfold f_B_relation at h
  refine lv_iload_n hx hb d_B_relation_0 rfl (lv_at hl 1 rfl) ?_
  refine lv_iload_n hx hb d_B_relation_1 rfl (lv_at hl 2 rfl) ?_
  obtain ⟨u1, e2⟩ := gsome h
  refine gw_callI e2 h (gw_runS (As := [.int p1, .int p2]) (rest := []) hx hb hml hown hT hK hZ hA hI (m_B_relationSlot l hst D g0 p1 p2 w u1 e2) ce_B_relationSlot wd_316 ⟨by decide, by decide⟩ rfl rfl hl.1 rfl (lv_room (Nat.le_of_ble_eq_true rfl)) d_B_relation_2 ⟨(show 0 + 0 ≤ 0 by omega), (show 0 + 0 ≤ 0 by omega)⟩) hI hA hexc (show 0 + 0 ≤ 0 by omega) (show 0 + 0 ≤ 0 by omega) (fun v3 w H locs h hI => ?_)
  refine lv_istore_n (lv' := [(3, .int v3), (0, .ref a0), (1, .int p1), (2, .int p2)]) hx hb d_B_relation_5 rfl hl (by decide) rfl (fun ls hl => ?_)
  refine lv_aload_n hx hb d_B_relation_6 rfl (lv_at hl 1 rfl) ?_
  obtain ⟨v4, e5, h⟩ := gb h
  refine gw_getA hx hb hT hown hK hI (ci := 0) rfl i_0 7 (by decide) wd_196 (fun _ h9 => h9) e5 d_B_relation_7 ?_
  refine lv_iload_n hx hb d_B_relation_10 rfl (lv_at hl 0 rfl) ?_
  obtain ⟨v6, e7, h⟩ := gb h
  refine gw_aldI hx hb hK hI e7 d_B_relation_11 ?_
  refine lv_iconst (v := -1) hx hb d_B_relation_12 (by decide) ?_
  obtain ⟨K70, eK70, h⟩ := gj h
  have hK70 : ∀ (w : gW) (H : Heap) (locs : List Loc) (ls : Array Slot), K70 w = some r → gI D s A w H locs → lv_has ls 4 [(0, .ref a0), (3, .int v3)] → W p l e rm_B_relation s m args below meth c H locs 0 0 Q (F0 m 70 ls []) := by
    intro w H locs ls h hI hl
    have h := gk1 eK70 h
    refine lv_aload_n hx hb d_B_relation_70 rfl (lv_at hl 0 rfl) ?_
    obtain ⟨v8, e9, h⟩ := gb h
    refine gw_getA hx hb hT hown hK hI (ci := 0) rfl i_0 7 (by decide) wd_196 (fun _ h9 => h9) e9 d_B_relation_71 ?_
    refine lv_iload_n hx hb d_B_relation_74 rfl (lv_at hl 1 rfl) ?_
    obtain ⟨v10, e11, h⟩ := gb h
    refine gw_aldI hx hb hK hI e11 d_B_relation_75 ?_
    exact W.widen (show 0 ≤ 0 by omega) (show 0 ≤ 0 by omega) (hret _ _ (Option.some.inj h).symm _ _ _ _ d_B_relation_76 hI)
  refine lv_icmp_ne (tgt := 70) hx hb d_B_relation_13 (by decide) (fun c12 => ?_) (fun c12 => ?_)
  · skip
    have h := gie c12 h
    exact hK70 w H locs ls h hI (lv_sub hl [1, 0] rfl)
  · skip
    have h := git c12 h
    refine lv_aload_n hx hb d_B_relation_16 rfl (lv_at hl 1 rfl) ?_
    obtain ⟨v13, e14, h⟩ := gb h
    refine gw_getA hx hb hT hown hK hI (ci := 0) rfl i_0 8 (by decide) wd_197 (fun _ h9 => h9) e14 d_B_relation_17 ?_
    refine lv_aload_n hx hb d_B_relation_20 rfl (lv_at hl 1 rfl) ?_
    obtain ⟨v15, e16, h⟩ := gb h
    refine gw_getA hx hb hT hown hK hI (ci := 0) rfl i_0 2 (by decide) wd_191 (fun _ h9 => h9) e16 d_B_relation_21 ?_
    refine lv_iload_n hx hb d_B_relation_24 rfl (lv_at hl 2 rfl) ?_
    obtain ⟨q19, e20, h⟩ := gb h
    obtain ⟨u17, e18⟩ := gsome h
    refine gw_callA e18 h (gw_runV (As := [.int p1]) (rest := [.ref v13]) hx hb hml hown hT hK hZ hA hI (ci := 1) rfl e20 (m_AL_get l hst D g0 v15 p1 w u17 e18) ce_AL_get wd_321 wd_323 ⟨by decide, by decide⟩ rfl rfl hl.1 rfl (lv_room (Nat.le_of_ble_eq_true rfl)) d_B_relation_25 ⟨(show 0 + 0 ≤ 0 by omega), (show 0 + 0 ≤ 0 by omega)⟩) hI hA hexc (show 0 + 0 ≤ 0 by omega) (show 0 + 0 ≤ 0 by omega) (fun v21 w H locs h hI => ?_)
    obtain ⟨q23, e22, h⟩ := gb h
    refine gw_cast hx hb hT hown hK hI wd_335 (ci := 5) rfl wd_1123 e22 d_B_relation_28 ?_
    refine lv_aload_n hx hb d_B_relation_31 rfl (lv_at hl 1 rfl) ?_
    obtain ⟨v24, e25, h⟩ := gb h
    refine gw_getJ hx hb hT hown hK hI (ci := 0) rfl i_0 0 (by decide) wd_189 (fun _ h9 => h9) e25 d_B_relation_32 ?_
    obtain ⟨q28, e29, h⟩ := gb h
    obtain ⟨u26, e27⟩ := gsome h
    refine gw_callV e27 h (gw_runV (As := [.ref v21, .long v24]) (rest := []) hx hb hml hown hT hK hZ hA hI (ci := 2) rfl e29 (m_La_lay l hst D g0 v13 v21 v24 w u26 e27) ce_La_lay wd_336 wd_338 ⟨by decide, by decide⟩ rfl rfl hl.1 rfl (lv_room (Nat.le_of_ble_eq_true rfl)) d_B_relation_35 ⟨(show 0 + 0 ≤ 0 by omega), (show 0 + 0 ≤ 0 by omega)⟩) hI hA hexc (show 0 + 0 ≤ 0 by omega) (show 0 + 0 ≤ 0 by omega) (fun v30 w H locs h hI => ?_)
    refine lv_aload_n hx hb d_B_relation_38 rfl (lv_at hl 1 rfl) ?_
    obtain ⟨v31, e32, h⟩ := gb h
    refine gw_getA hx hb hT hown hK hI (ci := 0) rfl i_0 9 (by decide) wd_198 (fun _ h9 => h9) e32 d_B_relation_39 ?_
    refine lv_aload_n hx hb d_B_relation_42 rfl (lv_at hl 1 rfl) ?_
    obtain ⟨v33, e34, h⟩ := gb h
    refine gw_getA hx hb hT hown hK hI (ci := 0) rfl i_0 2 (by decide) wd_191 (fun _ h9 => h9) e34 d_B_relation_43 ?_
    refine lv_iload_n hx hb d_B_relation_46 rfl (lv_at hl 3 rfl) ?_
    obtain ⟨q37, e38, h⟩ := gb h
    obtain ⟨u35, e36⟩ := gsome h
    refine gw_callA e36 h (gw_runV (As := [.int p2]) (rest := [.ref v31]) hx hb hml hown hT hK hZ hA hI (ci := 1) rfl e38 (m_AL_get l hst D g0 v33 p2 w u35 e36) ce_AL_get wd_321 wd_323 ⟨by decide, by decide⟩ rfl rfl hl.1 rfl (lv_room (Nat.le_of_ble_eq_true rfl)) d_B_relation_47 ⟨(show 0 + 0 ≤ 0 by omega), (show 0 + 0 ≤ 0 by omega)⟩) hI hA hexc (show 0 + 0 ≤ 0 by omega) (show 0 + 0 ≤ 0 by omega) (fun v39 w H locs h hI => ?_)
    obtain ⟨q41, e40, h⟩ := gb h
    refine gw_cast hx hb hT hown hK hI wd_335 (ci := 5) rfl wd_1123 e40 d_B_relation_50 ?_
    refine lv_aload_n hx hb d_B_relation_53 rfl (lv_at hl 1 rfl) ?_
    obtain ⟨v42, e43, h⟩ := gb h
    refine gw_getJ hx hb hT hown hK hI (ci := 0) rfl i_0 0 (by decide) wd_189 (fun _ h9 => h9) e43 d_B_relation_54 ?_
    obtain ⟨q46, e47, h⟩ := gb h
    obtain ⟨u44, e45⟩ := gsome h
    refine gw_callV e45 h (gw_runV (As := [.ref v39, .long v42]) (rest := []) hx hb hml hown hT hK hZ hA hI (ci := 2) rfl e47 (m_La_lay l hst D g0 v31 v39 v42 w u44 e45) ce_La_lay wd_336 wd_338 ⟨by decide, by decide⟩ rfl rfl hl.1 rfl (lv_room (Nat.le_of_ble_eq_true rfl)) d_B_relation_57 ⟨(show 0 + 0 ≤ 0 by omega), (show 0 + 0 ≤ 0 by omega)⟩) hI hA hexc (show 0 + 0 ≤ 0 by omega) (show 0 + 0 ≤ 0 by omega) (fun v48 w H locs h hI => ?_)
    refine lv_aload_n hx hb d_B_relation_60 rfl (lv_at hl 1 rfl) ?_
    obtain ⟨v49, e50, h⟩ := gb h
    refine gw_getA hx hb hT hown hK hI (ci := 0) rfl i_0 7 (by decide) wd_196 (fun _ h9 => h9) e50 d_B_relation_61 ?_
    refine lv_iload_n hx hb d_B_relation_64 rfl (lv_at hl 0 rfl) ?_
    refine lv_aload_n hx hb d_B_relation_65 rfl (lv_at hl 1 rfl) ?_
    obtain ⟨q53, e54, h⟩ := gb h
    obtain ⟨u51, e52⟩ := gsome h
    refine gw_callI e52 h (gw_runV (As := []) (rest := [.int v3, .ref v49]) hx hb hml hown hT hK hZ hA hI (ci := 0) rfl e54 (m_B_relationOfLayouts l hst D g0 a0 w u51 e52) ce_B_relationOfLayouts wd_369 wd_5 ⟨by decide, by decide⟩ rfl rfl hl.1 rfl (lv_room (Nat.le_of_ble_eq_true rfl)) d_B_relation_66 ⟨(show 0 + 0 ≤ 0 by omega), (show 0 + 0 ≤ 0 by omega)⟩) hI hA hexc (show 0 + 0 ≤ 0 by omega) (show 0 + 0 ≤ 0 by omega) (fun v55 w H locs h hI => ?_)
    obtain ⟨w, e56, h⟩ := gb h
    refine gw_astI hx hb hK hI e56 d_B_relation_69 (fun H locs hI => ?_)
    exact hK70 w H locs ls h hI (lv_sub hl [1, 0] rfl)

abbrev b_B_clash : ByteArray := prog_1_method_11_code
def y_B_clash : MethodName := ⟨"BodySolids", "clash", "(II)I"⟩
theorem d_B_clash_0 : decode b_B_clash 0 = .ok (.aload_n 0, 1) := by decide +kernel
theorem d_B_clash_1 : decode b_B_clash 1 = .ok (.iload_n 1, 1) := by decide +kernel
theorem d_B_clash_2 : decode b_B_clash 2 = .ok (.invokevirtual 174, 3) := by decide +kernel
theorem d_B_clash_5 : decode b_B_clash 5 = .ok (.pop, 1) := by decide +kernel
theorem d_B_clash_6 : decode b_B_clash 6 = .ok (.aload_n 0, 1) := by decide +kernel
theorem d_B_clash_7 : decode b_B_clash 7 = .ok (.iload_n 2, 1) := by decide +kernel
theorem d_B_clash_8 : decode b_B_clash 8 = .ok (.invokevirtual 174, 3) := by decide +kernel
theorem d_B_clash_11 : decode b_B_clash 11 = .ok (.pop, 1) := by decide +kernel
theorem d_B_clash_12 : decode b_B_clash 12 = .ok (.iload_n 1, 1) := by decide +kernel
theorem d_B_clash_13 : decode b_B_clash 13 = .ok (.iload_n 2, 1) := by decide +kernel
theorem d_B_clash_14 : decode b_B_clash 14 = .ok (.if_icmp .ne 7, 3) := by decide +kernel
theorem d_B_clash_17 : decode b_B_clash 17 = .ok (.iconst 0, 1) := by decide +kernel
theorem d_B_clash_18 : decode b_B_clash 18 = .ok (.goto 9, 3) := by decide +kernel
theorem d_B_clash_21 : decode b_B_clash 21 = .ok (.aload_n 0, 1) := by decide +kernel
theorem d_B_clash_22 : decode b_B_clash 22 = .ok (.iload_n 1, 1) := by decide +kernel
theorem d_B_clash_23 : decode b_B_clash 23 = .ok (.iload_n 2, 1) := by decide +kernel
theorem d_B_clash_24 : decode b_B_clash 24 = .ok (.invokevirtual 186, 3) := by decide +kernel
theorem d_B_clash_27 : decode b_B_clash 27 = .ok (.ireturn, 1) := by decide +kernel
abbrev rm_B_clash : Room := { frames := 9, cells := 2, slots := 12, locals := 194 }
theorem ce_B_clash : gCe y_B_clash (.code y_B_clash b_B_clash 3 (some .int)) 3 2 false := gCe.code wd_696 wd_49 wd_694 (by decide) (by decide +kernel)
def f_B_clash (g0 : gG) (a0 : Nat) (p1 : Int32) (p2 : Int32) (w : gW) : gX Int32 := (gck w a0 0).bind fun _ => gbind (f_B_placementAt g0 a0 p1 w) fun v5 w => (gck w a0 0).bind fun _ => gbind (f_B_placementAt g0 a0 p2 w) fun v10 w => gjoin (fun K27 => if p1 = p2 then (K27 0 w) else ((gck w a0 0).bind fun _ => gbind (f_B_relation g0 a0 p1 p2 w) fun v17 w => K27 v17 w)) (fun (y11 : Int32) (w : gW) => some (.inr y11, w))
set_option maxHeartbeats 4000000 in
set_option maxRecDepth 100000 in
theorem m_B_clash (l : Launch) (hst : l.stackTraces = false) (D : gD) (g0 : gG) (a0 : Nat) (p1 : Int32) (p2 : Int32) (w : gW) (r : (String ⊕ Int32) × gW) (h : f_B_clash g0 a0 p1 p2 w = some r) : gMet l y_B_clash (.code y_B_clash b_B_clash 3 (some .int)) rm_B_clash D g0 [.ref a0, .int p1, .int p2] w (goI r) := by
  refine gw_ofI (by decide +kernel) (Nat.le_of_ble_eq_true rfl) ?_
  intro p e s m below meth c ls args A Q hx hb hml hown hlocks hin hnt hT hK hZ hA hret hexc hthr hI hl
  obtain ⟨H, hH⟩ : ∃ H, H = s.heap := ⟨_, rfl⟩
  rw [← hH] at hI ⊢
  obtain ⟨locs, hlocs⟩ : ∃ z : List Loc, z = [] := ⟨_, rfl⟩
  rw [← hlocs] at hI ⊢
  have hl : lv_has ls 3 [(0, .ref a0), (1, .int p1), (2, .int p2)] := hl
  unfold f_B_clash at h
  refine lv_aload_n hx hb d_B_clash_0 rfl (lv_at hl 0 rfl) ?_
  refine lv_iload_n hx hb d_B_clash_1 rfl (lv_at hl 1 rfl) ?_
  obtain ⟨q3, e4, h⟩ := gb h
  obtain ⟨u1, e2⟩ := gsome h
  refine gw_callA e2 h (gw_runV (As := [.int p1]) (rest := []) hx hb hml hown hT hK hZ hA hI (ci := 0) rfl e4 (m_B_placementAt l hst D g0 a0 p1 w u1 e2) ce_B_placementAt wd_682 wd_15 ⟨by decide, by decide⟩ rfl rfl hl.1 rfl (lv_room (Nat.le_of_ble_eq_true rfl)) d_B_clash_2 ⟨(show 0 + 1 ≤ 2 by omega), (show 0 + 6 ≤ 12 by omega)⟩) hI hA hexc (show 0 + 1 ≤ 2 by omega) (show 0 + 6 ≤ 12 by omega) (fun v5 w H locs h hI => ?_)
  refine W.widen (k := 1) (n := 6) (show 0 + 1 ≤ 1 by omega) (show 0 + 6 ≤ 6 by omega) ?_
  refine lv_pop hx hb d_B_clash_5 rfl ?_
  refine lv_aload_n hx hb d_B_clash_6 rfl (lv_at hl 0 rfl) ?_
  refine lv_iload_n hx hb d_B_clash_7 rfl (lv_at hl 2 rfl) ?_
  obtain ⟨q8, e9, h⟩ := gb h
  obtain ⟨u6, e7⟩ := gsome h
  refine gw_callA e7 h (gw_runV (As := [.int p2]) (rest := []) hx hb hml hown hT hK hZ hA hI (ci := 0) rfl e9 (m_B_placementAt l hst D g0 a0 p2 w u6 e7) ce_B_placementAt wd_682 wd_15 ⟨by decide, by decide⟩ rfl rfl hl.1 rfl (lv_room (Nat.le_of_ble_eq_true rfl)) d_B_clash_8 ⟨(show 1 + 1 ≤ 2 by omega), (show 6 + 6 ≤ 12 by omega)⟩) hI hA hexc (show 1 + 1 ≤ 2 by omega) (show 6 + 6 ≤ 12 by omega) (fun v10 w H locs h hI => ?_)
  refine W.widen (k := 2) (n := 12) (show 1 + 1 ≤ 2 by omega) (show 6 + 6 ≤ 12 by omega) ?_
  refine lv_pop hx hb d_B_clash_11 rfl ?_
  refine lv_iload_n hx hb d_B_clash_12 rfl (lv_at hl 1 rfl) ?_
  refine lv_iload_n hx hb d_B_clash_13 rfl (lv_at hl 2 rfl) ?_
  obtain ⟨K27, eK27, h⟩ := gj h
  have hK27 : ∀ (y11 : Int32) (w : gW) (H : Heap) (locs : List Loc) (ls : Array Slot), K27 y11 w = some r → gI D s A w H locs → lv_has ls 3 [] → W p l e rm_B_clash s m args below meth c H locs 2 12 Q (F0 m 27 ls [.int y11]) := by
    intro y11 w H locs ls h hI hl
    have h := gk2 eK27 h
    exact W.widen (show 2 ≤ 2 by omega) (show 12 ≤ 12 by omega) (hret _ _ (Option.some.inj h).symm _ _ _ _ d_B_clash_27 hI)
  refine lv_icmp_ne (tgt := 21) hx hb d_B_clash_14 (by decide) (fun c12 => ?_) (fun c12 => ?_)
  · skip
    have h := gie c12 h
    refine lv_aload_n hx hb d_B_clash_21 rfl (lv_at hl 0 rfl) ?_
    refine lv_iload_n hx hb d_B_clash_22 rfl (lv_at hl 1 rfl) ?_
    refine lv_iload_n hx hb d_B_clash_23 rfl (lv_at hl 2 rfl) ?_
    obtain ⟨q15, e16, h⟩ := gb h
    obtain ⟨u13, e14⟩ := gsome h
    refine gw_callI e14 h (gw_runV (As := [.int p1, .int p2]) (rest := []) hx hb hml hown hT hK hZ hA hI (ci := 0) rfl e16 (m_B_relation l hst D g0 a0 p1 p2 w u13 e14) ce_B_relation wd_312 wd_4 ⟨by decide, by decide⟩ rfl rfl hl.1 rfl (lv_room (Nat.le_of_ble_eq_true rfl)) d_B_clash_24 ⟨(show 2 + 0 ≤ 2 by omega), (show 12 + 0 ≤ 12 by omega)⟩) hI hA hexc (show 2 + 0 ≤ 2 by omega) (show 12 + 0 ≤ 12 by omega) (fun v17 w H locs h hI => ?_)
    exact hK27 _ w H locs ls h hI (lv_sub hl [] rfl)
  · skip
    have h := git c12 h
    refine lv_iconst (v := 0) hx hb d_B_clash_17 (by decide) ?_
    refine lv_goto (tgt := 27) hx hb d_B_clash_18 (by decide) ?_
    exact hK27 _ w H locs ls h hI (lv_sub hl [] rfl)

abbrev b_B_clashes : ByteArray := prog_1_method_12_code
def y_B_clashes : MethodName := ⟨"BodySolids", "clashes", "()I"⟩
theorem d_B_clashes_0 : decode b_B_clashes 0 = .ok (.iconst 0, 1) := by decide +kernel
theorem d_B_clashes_1 : decode b_B_clashes 1 = .ok (.istore_n 1, 1) := by decide +kernel
theorem d_B_clashes_2 : decode b_B_clashes 2 = .ok (.iconst 0, 1) := by decide +kernel
theorem d_B_clashes_3 : decode b_B_clashes 3 = .ok (.istore_n 2, 1) := by decide +kernel
theorem d_B_clashes_4 : decode b_B_clashes 4 = .ok (.iload_n 2, 1) := by decide +kernel
theorem d_B_clashes_5 : decode b_B_clashes 5 = .ok (.aload_n 0, 1) := by decide +kernel
theorem d_B_clashes_6 : decode b_B_clashes 6 = .ok (.getfield 31, 3) := by decide +kernel
theorem d_B_clashes_9 : decode b_B_clashes 9 = .ok (.invokevirtual 68, 3) := by decide +kernel
theorem d_B_clashes_12 : decode b_B_clashes 12 = .ok (.if_icmp .ge 43, 3) := by decide +kernel
theorem d_B_clashes_15 : decode b_B_clashes 15 = .ok (.iload_n 2, 1) := by decide +kernel
theorem d_B_clashes_16 : decode b_B_clashes 16 = .ok (.iconst 1, 1) := by decide +kernel
theorem d_B_clashes_17 : decode b_B_clashes 17 = .ok (.iadd, 1) := by decide +kernel
theorem d_B_clashes_18 : decode b_B_clashes 18 = .ok (.istore_n 3, 1) := by decide +kernel
theorem d_B_clashes_19 : decode b_B_clashes 19 = .ok (.iload_n 3, 1) := by decide +kernel
theorem d_B_clashes_20 : decode b_B_clashes 20 = .ok (.aload_n 0, 1) := by decide +kernel
theorem d_B_clashes_21 : decode b_B_clashes 21 = .ok (.getfield 31, 3) := by decide +kernel
theorem d_B_clashes_24 : decode b_B_clashes 24 = .ok (.invokevirtual 68, 3) := by decide +kernel
theorem d_B_clashes_27 : decode b_B_clashes 27 = .ok (.if_icmp .ge 22, 3) := by decide +kernel
theorem d_B_clashes_30 : decode b_B_clashes 30 = .ok (.aload_n 0, 1) := by decide +kernel
theorem d_B_clashes_31 : decode b_B_clashes 31 = .ok (.iload_n 2, 1) := by decide +kernel
theorem d_B_clashes_32 : decode b_B_clashes 32 = .ok (.iload_n 3, 1) := by decide +kernel
theorem d_B_clashes_33 : decode b_B_clashes 33 = .ok (.invokevirtual 186, 3) := by decide +kernel
theorem d_B_clashes_36 : decode b_B_clashes 36 = .ok (.iconst 1, 1) := by decide +kernel
theorem d_B_clashes_37 : decode b_B_clashes 37 = .ok (.if_icmp .ne 6, 3) := by decide +kernel
theorem d_B_clashes_40 : decode b_B_clashes 40 = .ok (.iinc 1 1, 3) := by decide +kernel
theorem d_B_clashes_43 : decode b_B_clashes 43 = .ok (.iinc 3 1, 3) := by decide +kernel
theorem d_B_clashes_46 : decode b_B_clashes 46 = .ok (.goto (-27), 3) := by decide +kernel
theorem d_B_clashes_49 : decode b_B_clashes 49 = .ok (.iinc 2 1, 3) := by decide +kernel
theorem d_B_clashes_52 : decode b_B_clashes 52 = .ok (.goto (-48), 3) := by decide +kernel
theorem d_B_clashes_55 : decode b_B_clashes 55 = .ok (.iload_n 1, 1) := by decide +kernel
theorem d_B_clashes_56 : decode b_B_clashes 56 = .ok (.ireturn, 1) := by decide +kernel
abbrev rm_B_clashes : Room := { frames := 7, cells := 0, slots := 0, locals := 194 }
theorem ce_B_clashes : gCe y_B_clashes (.code y_B_clashes b_B_clashes 4 (some .int)) 4 0 false := gCe.code wd_311 wd_49 wd_309 (by decide) (by decide +kernel)
def f_B_clashes_L19 (g0 : gG) (c0 : Nat) (c2 : Int32) (K49 : Int32 → gW → gX Int32) : Nat → Int32 → Int32 → gW → gX Int32
  | 0, _, _, _ => none
  | n + 1, z1, z3, w => (gfA w c0 0 2).bind fun v11 => (gck w v11 1).bind fun _ => gbind (f_AL_size g0 v11 w) fun v17 w => if v17 ≤ z3 then (K49 z1 w) else ((gck w c0 0).bind fun _ => gbind (f_B_relation g0 c0 c2 z3 w) fun v23 w => gjoin (fun K43 => if v23 = 1 then (K43 (z1 + 1) w) else (K43 z1 w)) (fun (x24 : Int32) (w : gW) => f_B_clashes_L19 g0 c0 c2 K49 n x24 (z3 + 1) w))
def f_B_clashes_L4 (g0 : gG) (c0 : Nat) (K55 : Int32 → gW → gX Int32) : Nat → Int32 → Int32 → gW → gX Int32
  | 0, _, _, _ => none
  | n + 1, z1, z2, w => (gfA w c0 0 2).bind fun v2 => (gck w v2 1).bind fun _ => gbind (f_AL_size g0 v2 w) fun v8 w => if v8 ≤ z2 then (K55 z1 w) else (gjoin (fun K49 => f_B_clashes_L19 g0 c0 z2 K49 64 z1 (z2 + 1) w) (fun (x10 : Int32) (w : gW) => f_B_clashes_L4 g0 c0 K55 n x10 (z2 + 1) w))
def f_B_clashes (g0 : gG) (a0 : Nat) (w : gW) : gX Int32 := gjoin (fun K55 => f_B_clashes_L4 g0 a0 K55 64 0 0 w) (fun (x1 : Int32) (w : gW) => some (.inr x1, w))
set_option maxHeartbeats 4000000 in
set_option maxRecDepth 100000 in
theorem m_B_clashes (l : Launch) (hst : l.stackTraces = false) (D : gD) (g0 : gG) (a0 : Nat) (w : gW) (r : (String ⊕ Int32) × gW) (h : f_B_clashes g0 a0 w = some r) : gMet l y_B_clashes (.code y_B_clashes b_B_clashes 4 (some .int)) rm_B_clashes D g0 [.ref a0] w (goI r) := by
  refine gw_ofI (by decide +kernel) (Nat.le_of_ble_eq_true rfl) ?_
  intro p e s m below meth c ls args A Q hx hb hml hown hlocks hin hnt hT hK hZ hA hret hexc hthr hI hl
  obtain ⟨H, hH⟩ : ∃ H, H = s.heap := ⟨_, rfl⟩
  rw [← hH] at hI ⊢
  obtain ⟨locs, hlocs⟩ : ∃ z : List Loc, z = [] := ⟨_, rfl⟩
  rw [← hlocs] at hI ⊢
  have hl : lv_has ls 4 [(0, .ref a0)] := hl
  unfold f_B_clashes at h
  refine lv_iconst (v := 0) hx hb d_B_clashes_0 (by decide) ?_
  refine lv_istore_n (lv' := [(1, .int 0), (0, .ref a0)]) hx hb d_B_clashes_1 rfl hl (by decide) rfl (fun ls hl => ?_)
  refine lv_iconst (v := 0) hx hb d_B_clashes_2 (by decide) ?_
  refine lv_istore_n (lv' := [(2, .int 0), (1, .int 0), (0, .ref a0)]) hx hb d_B_clashes_3 rfl hl (by decide) rfl (fun ls hl => ?_)
  obtain ⟨K55, eK55, h⟩ := gj h
  have hK55 : ∀ (x1 : Int32) (w : gW) (H : Heap) (locs : List Loc) (ls : Array Slot), K55 x1 w = some r → gI D s A w H locs → lv_has ls 4 [(1, .int x1)] → W p l e rm_B_clashes s m args below meth c H locs 0 0 Q (F0 m 55 ls []) := by
    intro x1 w H locs ls h hI hl
    have h := gk2 eK55 h
    refine lv_iload_n hx hb d_B_clashes_55 rfl (lv_at hl 0 rfl) ?_
    exact W.widen (show 0 ≤ 0 by omega) (show 0 ≤ 0 by omega) (hret _ _ (Option.some.inj h).symm _ _ _ _ d_B_clashes_56 hI)
  have hL4 : ∀ (n : Nat), ∀ (z2 : Int32) (z3 : Int32) (w : gW) (H : Heap) (locs : List Loc) (ls : Array Slot), f_B_clashes_L4 g0 a0 K55 n z2 z3 w = some r → gI D s A w H locs → lv_has ls 4 [(0, .ref a0), (1, .int z2), (2, .int z3)] → W p l e rm_B_clashes s m args below meth c H locs 0 0 Q (F0 m 4 ls []) := by
    intro n
    induction n with
    | zero => intro z2 z3 w H locs ls h hI hl; exact absurd h (by simp [f_B_clashes_L4])
    | succ n ih =>
      intro z2 z3 w H locs ls h hI hl
      rw [f_B_clashes_L4] at h
      refine lv_iload_n hx hb d_B_clashes_4 rfl (lv_at hl 2 rfl) ?_
      refine lv_aload_n hx hb d_B_clashes_5 rfl (lv_at hl 0 rfl) ?_
      obtain ⟨v4, e5, h⟩ := gb h
      refine gw_getA hx hb hT hown hK hI (ci := 0) rfl i_0 2 (by decide) wd_191 (fun _ h9 => h9) e5 d_B_clashes_6 ?_
      obtain ⟨q8, e9, h⟩ := gb h
      obtain ⟨u6, e7⟩ := gsome h
      refine gw_callI e7 h (gw_runV (As := []) (rest := [.int z3]) hx hb hml hown hT hK hZ hA hI (ci := 1) rfl e9 (m_AL_size l hst D g0 v4 w u6 e7) ce_AL_size wd_224 wd_226 ⟨by decide, by decide⟩ rfl rfl hl.1 rfl (lv_room (Nat.le_of_ble_eq_true rfl)) d_B_clashes_9 ⟨(show 0 + 0 ≤ 0 by omega), (show 0 + 0 ≤ 0 by omega)⟩) hI hA hexc (show 0 + 0 ≤ 0 by omega) (show 0 + 0 ≤ 0 by omega) (fun v10 w H locs h hI => ?_)
      refine lv_icmp_ge (tgt := 55) hx hb d_B_clashes_12 (by decide) (fun c11 => ?_) (fun c11 => ?_)
      · skip
        have h := git c11 h
        exact hK55 _ w H locs ls h hI (lv_sub hl [1] rfl)
      · skip
        have h := gie c11 h
        refine lv_iload_n hx hb d_B_clashes_15 rfl (lv_at hl 2 rfl) ?_
        refine lv_iconst (v := 1) hx hb d_B_clashes_16 (by decide) ?_
        refine lv_iadd hx hb d_B_clashes_17 ?_
        refine lv_istore_n (lv' := [(3, .int (z3 + 1)), (0, .ref a0), (1, .int z2), (2, .int z3)]) hx hb d_B_clashes_18 rfl hl (by decide) rfl (fun ls hl => ?_)
        obtain ⟨K49, eK49, h⟩ := gj h
        have hK49 : ∀ (x12 : Int32) (w : gW) (H : Heap) (locs : List Loc) (ls : Array Slot), K49 x12 w = some r → gI D s A w H locs → lv_has ls 4 [(0, .ref a0), (1, .int x12), (2, .int z3)] → W p l e rm_B_clashes s m args below meth c H locs 0 0 Q (F0 m 49 ls []) := by
          intro x12 w H locs ls h hI hl
          have h := gk2 eK49 h
          refine lv_iinc (v := z3 + 1) (lv' := [(2, .int (z3 + 1)), (0, .ref a0), (1, .int x12)]) hx hb d_B_clashes_49 hl (k := 2) rfl rfl (by decide) rfl (fun ls hl => ?_)
          refine lv_goto (tgt := 4) hx hb d_B_clashes_52 (by decide) ?_
          exact ih _ _ w H locs ls h hI (lv_sub hl [1, 2, 0] rfl)
        have hL19 : ∀ (n : Nat), ∀ (z13 : Int32) (z14 : Int32) (w : gW) (H : Heap) (locs : List Loc) (ls : Array Slot), f_B_clashes_L19 g0 a0 z3 K49 n z13 z14 w = some r → gI D s A w H locs → lv_has ls 4 [(0, .ref a0), (2, .int z3), (1, .int z13), (3, .int z14)] → W p l e rm_B_clashes s m args below meth c H locs 0 0 Q (F0 m 19 ls []) := by
          intro n
          induction n with
          | zero => intro z13 z14 w H locs ls h hI hl; exact absurd h (by simp [f_B_clashes_L19])
          | succ n ih =>
            intro z13 z14 w H locs ls h hI hl
            rw [f_B_clashes_L19] at h
            refine lv_iload_n hx hb d_B_clashes_19 rfl (lv_at hl 3 rfl) ?_
            refine lv_aload_n hx hb d_B_clashes_20 rfl (lv_at hl 0 rfl) ?_
            obtain ⟨v15, e16, h⟩ := gb h
            refine gw_getA hx hb hT hown hK hI (ci := 0) rfl i_0 2 (by decide) wd_191 (fun _ h9 => h9) e16 d_B_clashes_21 ?_
            obtain ⟨q19, e20, h⟩ := gb h
            obtain ⟨u17, e18⟩ := gsome h
            refine gw_callI e18 h (gw_runV (As := []) (rest := [.int z14]) hx hb hml hown hT hK hZ hA hI (ci := 1) rfl e20 (m_AL_size l hst D g0 v15 w u17 e18) ce_AL_size wd_224 wd_226 ⟨by decide, by decide⟩ rfl rfl hl.1 rfl (lv_room (Nat.le_of_ble_eq_true rfl)) d_B_clashes_24 ⟨(show 0 + 0 ≤ 0 by omega), (show 0 + 0 ≤ 0 by omega)⟩) hI hA hexc (show 0 + 0 ≤ 0 by omega) (show 0 + 0 ≤ 0 by omega) (fun v21 w H locs h hI => ?_)
            refine lv_icmp_ge (tgt := 49) hx hb d_B_clashes_27 (by decide) (fun c22 => ?_) (fun c22 => ?_)
            · skip
              have h := git c22 h
              exact hK49 _ w H locs ls h hI (lv_sub hl [0, 2, 1] rfl)
            · skip
              have h := gie c22 h
              refine lv_aload_n hx hb d_B_clashes_30 rfl (lv_at hl 0 rfl) ?_
              refine lv_iload_n hx hb d_B_clashes_31 rfl (lv_at hl 1 rfl) ?_
              refine lv_iload_n hx hb d_B_clashes_32 rfl (lv_at hl 3 rfl) ?_
              obtain ⟨q25, e26, h⟩ := gb h
              obtain ⟨u23, e24⟩ := gsome h
              refine gw_callI e24 h (gw_runV (As := [.int z3, .int z14]) (rest := []) hx hb hml hown hT hK hZ hA hI (ci := 0) rfl e26 (m_B_relation l hst D g0 a0 z3 z14 w u23 e24) ce_B_relation wd_312 wd_4 ⟨by decide, by decide⟩ rfl rfl hl.1 rfl (lv_room (Nat.le_of_ble_eq_true rfl)) d_B_clashes_33 ⟨(show 0 + 0 ≤ 0 by omega), (show 0 + 0 ≤ 0 by omega)⟩) hI hA hexc (show 0 + 0 ≤ 0 by omega) (show 0 + 0 ≤ 0 by omega) (fun v27 w H locs h hI => ?_)
              refine lv_iconst (v := 1) hx hb d_B_clashes_36 (by decide) ?_
              obtain ⟨K43, eK43, h⟩ := gj h
              have hK43 : ∀ (x28 : Int32) (w : gW) (H : Heap) (locs : List Loc) (ls : Array Slot), K43 x28 w = some r → gI D s A w H locs → lv_has ls 4 [(0, .ref a0), (1, .int x28), (2, .int z3), (3, .int z14)] → W p l e rm_B_clashes s m args below meth c H locs 0 0 Q (F0 m 43 ls []) := by
                intro x28 w H locs ls h hI hl
                have h := gk2 eK43 h
                refine lv_iinc (v := z14 + 1) (lv' := [(3, .int (z14 + 1)), (0, .ref a0), (1, .int x28), (2, .int z3)]) hx hb d_B_clashes_43 hl (k := 3) rfl rfl (by decide) rfl (fun ls hl => ?_)
                refine lv_goto (tgt := 19) hx hb d_B_clashes_46 (by decide) ?_
                exact ih _ _ w H locs ls h hI (lv_sub hl [1, 3, 2, 0] rfl)
              refine lv_icmp_ne (tgt := 43) hx hb d_B_clashes_37 (by decide) (fun c29 => ?_) (fun c29 => ?_)
              · skip
                have h := gie c29 h
                exact hK43 _ w H locs ls h hI (lv_sub hl [0, 2, 1, 3] rfl)
              · skip
                have h := git c29 h
                refine lv_iinc (v := z13 + 1) (lv' := [(1, .int (z13 + 1)), (0, .ref a0), (2, .int z3), (3, .int z14)]) hx hb d_B_clashes_40 hl (k := 2) rfl rfl (by decide) rfl (fun ls hl => ?_)
                exact hK43 _ w H locs ls h hI (lv_sub hl [1, 0, 2, 3] rfl)
        exact hL19 64 _ _ w H locs ls h hI (lv_sub hl [1, 3, 2, 0] rfl)
  exact hL4 64 _ _ w H locs ls h hI (lv_sub hl [2, 1, 0] rfl)

abbrev b_B_corner : ByteArray := prog_1_method_5_code
def y_B_corner : MethodName := ⟨"BodySolids", "corner", "(JJ)Z"⟩
theorem d_B_corner_0 : decode b_B_corner 0 = .ok (.lload_n 1, 1) := by decide +kernel
theorem d_B_corner_1 : decode b_B_corner 1 = .ok (.lload_n 3, 1) := by decide +kernel
theorem d_B_corner_2 : decode b_B_corner 2 = .ok (.invokestatic 83, 3) := by decide +kernel
theorem d_B_corner_5 : decode b_B_corner 5 = .ok (.aload_n 0, 1) := by decide +kernel
theorem d_B_corner_6 : decode b_B_corner 6 = .ok (.getfield 44, 3) := by decide +kernel
theorem d_B_corner_9 : decode b_B_corner 9 = .ok (.bipush 8, 2) := by decide +kernel
theorem d_B_corner_11 : decode b_B_corner 11 = .ok (.if_icmp .lt 5, 3) := by decide +kernel
theorem d_B_corner_14 : decode b_B_corner 14 = .ok (.iconst 0, 1) := by decide +kernel
theorem d_B_corner_15 : decode b_B_corner 15 = .ok (.ireturn, 1) := by decide +kernel
theorem d_B_corner_16 : decode b_B_corner 16 = .ok (.aload_n 0, 1) := by decide +kernel
theorem d_B_corner_17 : decode b_B_corner 17 = .ok (.getfield 37, 3) := by decide +kernel
theorem d_B_corner_20 : decode b_B_corner 20 = .ok (.aload_n 0, 1) := by decide +kernel
theorem d_B_corner_21 : decode b_B_corner 21 = .ok (.getfield 44, 3) := by decide +kernel
theorem d_B_corner_24 : decode b_B_corner 24 = .ok (.lload_n 1, 1) := by decide +kernel
theorem d_B_corner_25 : decode b_B_corner 25 = .ok (.lastore, 1) := by decide +kernel
theorem d_B_corner_26 : decode b_B_corner 26 = .ok (.aload_n 0, 1) := by decide +kernel
theorem d_B_corner_27 : decode b_B_corner 27 = .ok (.getfield 41, 3) := by decide +kernel
theorem d_B_corner_30 : decode b_B_corner 30 = .ok (.aload_n 0, 1) := by decide +kernel
theorem d_B_corner_31 : decode b_B_corner 31 = .ok (.getfield 44, 3) := by decide +kernel
theorem d_B_corner_34 : decode b_B_corner 34 = .ok (.lload_n 3, 1) := by decide +kernel
theorem d_B_corner_35 : decode b_B_corner 35 = .ok (.lastore, 1) := by decide +kernel
theorem d_B_corner_36 : decode b_B_corner 36 = .ok (.aload_n 0, 1) := by decide +kernel
theorem d_B_corner_37 : decode b_B_corner 37 = .ok (.dup, 1) := by decide +kernel
theorem d_B_corner_38 : decode b_B_corner 38 = .ok (.getfield 44, 3) := by decide +kernel
theorem d_B_corner_41 : decode b_B_corner 41 = .ok (.iconst 1, 1) := by decide +kernel
theorem d_B_corner_42 : decode b_B_corner 42 = .ok (.iadd, 1) := by decide +kernel
theorem d_B_corner_43 : decode b_B_corner 43 = .ok (.putfield 44, 3) := by decide +kernel
theorem d_B_corner_46 : decode b_B_corner 46 = .ok (.iconst 1, 1) := by decide +kernel
theorem d_B_corner_47 : decode b_B_corner 47 = .ok (.ireturn, 1) := by decide +kernel
abbrev rm_B_corner : Room := { frames := 9, cells := 2, slots := 12, locals := 138 }
theorem ce_B_corner : gCe y_B_corner (.code y_B_corner b_B_corner 5 (some .boolean)) 5 2 false := gCe.code wd_583 wd_49 wd_581 (by decide) (by decide +kernel)
def f_B_corner (g0 : gG) (a0 : Nat) (p1 : Int64) (p2 : Int64) (w : gW) : gX Int32 := gbind (f_B_needPlace g0 p1 p2 w) fun v3 w => (gfI w a0 0 6).bind fun v4 => if v4 < 8 then ((gfA w a0 0 4).bind fun v7 => (gfI w a0 0 6).bind fun v9 => (gsJ w v7 v9 p1).bind fun w => (gfA w a0 0 5).bind fun v12 => (gfI w a0 0 6).bind fun v14 => (gsJ w v12 v14 p2).bind fun w => (gfI w a0 0 6).bind fun v17 => (gp w a0 0 6 (.int (v17 + 1))).bind fun w => gguard ((1 : Int32) = 0 ∨ (1 : Int32) = 1) (some (.inr 1, w))) else (gguard ((0 : Int32) = 0 ∨ (0 : Int32) = 1) (some (.inr 0, w)))
set_option maxHeartbeats 4000000 in
set_option maxRecDepth 100000 in
theorem m_B_corner (l : Launch) (hst : l.stackTraces = false) (D : gD) (g0 : gG) (a0 : Nat) (p1 : Int64) (p2 : Int64) (w : gW) (r : (String ⊕ Int32) × gW) (h : f_B_corner g0 a0 p1 p2 w = some r) : gMet l y_B_corner (.code y_B_corner b_B_corner 5 (some .boolean)) rm_B_corner D g0 [.ref a0, .long p1, .long p2] w (goI r) := by
  refine gw_ofZ (by decide +kernel) (Nat.le_of_ble_eq_true rfl) ?_
  intro p e s m below meth c ls args A Q hx hb hml hown hlocks hin hnt hT hK hZ hA hret hexc hthr hI hl
  obtain ⟨H, hH⟩ : ∃ H, H = s.heap := ⟨_, rfl⟩
  rw [← hH] at hI ⊢
  obtain ⟨locs, hlocs⟩ : ∃ z : List Loc, z = [] := ⟨_, rfl⟩
  rw [← hlocs] at hI ⊢
  have hl : lv_has ls 5 [(0, .ref a0), (1, .long p1), (3, .long p2)] := hl
  unfold f_B_corner at h
  refine lv_lload_n hx hb d_B_corner_0 rfl (lv_at hl 1 rfl) ?_
  refine lv_lload_n hx hb d_B_corner_1 rfl (lv_at hl 2 rfl) ?_
  obtain ⟨u1, e2⟩ := gsome h
  refine gw_callV e2 h (gw_runS (As := [.long p1, .long p2]) (rest := []) hx hb hml hown hT hK hZ hA hI (m_B_needPlace l hst D g0 p1 p2 w u1 e2) ce_B_needPlace wd_511 ⟨by decide, by decide⟩ rfl rfl hl.1 rfl (lv_room (Nat.le_of_ble_eq_true rfl)) d_B_corner_2 ⟨(show 0 + 2 ≤ 2 by omega), (show 0 + 12 ≤ 12 by omega)⟩) hI hA hexc (show 0 + 2 ≤ 2 by omega) (show 0 + 12 ≤ 12 by omega) (fun v3 w H locs h hI => ?_)
  refine W.widen (k := 2) (n := 12) (show 0 + 2 ≤ 2 by omega) (show 0 + 12 ≤ 12 by omega) ?_
  refine lv_aload_n hx hb d_B_corner_5 rfl (lv_at hl 0 rfl) ?_
  obtain ⟨v4, e5, h⟩ := gb h
  refine gw_getI hx hb hT hown hK hI (ci := 0) rfl i_0 6 (by decide) wd_195 (fun _ h9 => h9) e5 d_B_corner_6 ?_
  refine lv_bipush (v := 8) hx hb d_B_corner_9 (by decide) ?_
  refine lv_icmp_lt (tgt := 16) hx hb d_B_corner_11 (by decide) (fun c6 => ?_) (fun c6 => ?_)
  · skip
    have h := git c6 h
    refine lv_aload_n hx hb d_B_corner_16 rfl (lv_at hl 0 rfl) ?_
    obtain ⟨v7, e8, h⟩ := gb h
    refine gw_getA hx hb hT hown hK hI (ci := 0) rfl i_0 4 (by decide) wd_193 (fun _ h9 => h9) e8 d_B_corner_17 ?_
    refine lv_aload_n hx hb d_B_corner_20 rfl (lv_at hl 0 rfl) ?_
    obtain ⟨v9, e10, h⟩ := gb h
    refine gw_getI hx hb hT hown hK hI (ci := 0) rfl i_0 6 (by decide) wd_195 (fun _ h9 => h9) e10 d_B_corner_21 ?_
    refine lv_lload_n hx hb d_B_corner_24 rfl (lv_at hl 1 rfl) ?_
    obtain ⟨w, e11, h⟩ := gb h
    refine gw_astJ hx hb hK hI e11 d_B_corner_25 (fun H locs hI => ?_)
    refine lv_aload_n hx hb d_B_corner_26 rfl (lv_at hl 0 rfl) ?_
    obtain ⟨v12, e13, h⟩ := gb h
    refine gw_getA hx hb hT hown hK hI (ci := 0) rfl i_0 5 (by decide) wd_194 (fun _ h9 => h9) e13 d_B_corner_27 ?_
    refine lv_aload_n hx hb d_B_corner_30 rfl (lv_at hl 0 rfl) ?_
    obtain ⟨v14, e15, h⟩ := gb h
    refine gw_getI hx hb hT hown hK hI (ci := 0) rfl i_0 6 (by decide) wd_195 (fun _ h9 => h9) e15 d_B_corner_31 ?_
    refine lv_lload_n hx hb d_B_corner_34 rfl (lv_at hl 2 rfl) ?_
    obtain ⟨w, e16, h⟩ := gb h
    refine gw_astJ hx hb hK hI e16 d_B_corner_35 (fun H locs hI => ?_)
    refine lv_aload_n hx hb d_B_corner_36 rfl (lv_at hl 0 rfl) ?_
    refine lv_dup hx hb d_B_corner_37 rfl ?_
    obtain ⟨v17, e18, h⟩ := gb h
    refine gw_getI hx hb hT hown hK hI (ci := 0) rfl i_0 6 (by decide) wd_195 (fun _ h9 => h9) e18 d_B_corner_38 ?_
    refine lv_iconst (v := 1) hx hb d_B_corner_41 (by decide) ?_
    refine lv_iadd hx hb d_B_corner_42 ?_
    obtain ⟨w, e19, h⟩ := gb h
    refine gw_put hx hb hT hown hK hI (ci := 0) rfl i_0 t_0 t_0_ok n_0 6 (by decide) wd_195 (fun _ h9 => h9) rfl (ty := .int) (by decide +kernel) rfl rfl e19 d_B_corner_43 (fun H locs hI => ?_)
    refine lv_iconst (v := 1) hx hb d_B_corner_46 (by decide) ?_
    obtain ⟨g20, h⟩ := gif h
    exact W.widen (show 2 ≤ 2 by omega) (show 12 ≤ 12 by omega) (hret g20 0 _ (Option.some.inj h).symm _ _ _ _ d_B_corner_47 hI)
  · skip
    have h := gie c6 h
    refine lv_iconst (v := 0) hx hb d_B_corner_14 (by decide) ?_
    obtain ⟨g21, h⟩ := gif h
    exact W.widen (show 2 ≤ 2 by omega) (show 12 ≤ 12 by omega) (hret g21 0 _ (Option.some.inj h).symm _ _ _ _ d_B_corner_15 hI)

abbrev b_B_turnAt : ByteArray := prog_1_method_31_code
def y_B_turnAt : MethodName := ⟨"BodySolids", "turnAt", "(III)J"⟩
theorem d_B_turnAt_0 : decode b_B_turnAt 0 = .ok (.aload_n 0, 1) := by decide +kernel
theorem d_B_turnAt_1 : decode b_B_turnAt 1 = .ok (.getfield 37, 3) := by decide +kernel
theorem d_B_turnAt_4 : decode b_B_turnAt 4 = .ok (.iload_n 2, 1) := by decide +kernel
theorem d_B_turnAt_5 : decode b_B_turnAt 5 = .ok (.laload, 1) := by decide +kernel
theorem d_B_turnAt_6 : decode b_B_turnAt 6 = .ok (.aload_n 0, 1) := by decide +kernel
theorem d_B_turnAt_7 : decode b_B_turnAt 7 = .ok (.getfield 37, 3) := by decide +kernel
theorem d_B_turnAt_10 : decode b_B_turnAt 10 = .ok (.iload_n 1, 1) := by decide +kernel
theorem d_B_turnAt_11 : decode b_B_turnAt 11 = .ok (.laload, 1) := by decide +kernel
theorem d_B_turnAt_12 : decode b_B_turnAt 12 = .ok (.lsub, 1) := by decide +kernel
theorem d_B_turnAt_13 : decode b_B_turnAt 13 = .ok (.aload_n 0, 1) := by decide +kernel
theorem d_B_turnAt_14 : decode b_B_turnAt 14 = .ok (.getfield 41, 3) := by decide +kernel
theorem d_B_turnAt_17 : decode b_B_turnAt 17 = .ok (.iload_n 3, 1) := by decide +kernel
theorem d_B_turnAt_18 : decode b_B_turnAt 18 = .ok (.laload, 1) := by decide +kernel
theorem d_B_turnAt_19 : decode b_B_turnAt 19 = .ok (.aload_n 0, 1) := by decide +kernel
theorem d_B_turnAt_20 : decode b_B_turnAt 20 = .ok (.getfield 41, 3) := by decide +kernel
theorem d_B_turnAt_23 : decode b_B_turnAt 23 = .ok (.iload_n 1, 1) := by decide +kernel
theorem d_B_turnAt_24 : decode b_B_turnAt 24 = .ok (.laload, 1) := by decide +kernel
theorem d_B_turnAt_25 : decode b_B_turnAt 25 = .ok (.lsub, 1) := by decide +kernel
theorem d_B_turnAt_26 : decode b_B_turnAt 26 = .ok (.lmul, 1) := by decide +kernel
theorem d_B_turnAt_27 : decode b_B_turnAt 27 = .ok (.aload_n 0, 1) := by decide +kernel
theorem d_B_turnAt_28 : decode b_B_turnAt 28 = .ok (.getfield 41, 3) := by decide +kernel
theorem d_B_turnAt_31 : decode b_B_turnAt 31 = .ok (.iload_n 2, 1) := by decide +kernel
theorem d_B_turnAt_32 : decode b_B_turnAt 32 = .ok (.laload, 1) := by decide +kernel
theorem d_B_turnAt_33 : decode b_B_turnAt 33 = .ok (.aload_n 0, 1) := by decide +kernel
theorem d_B_turnAt_34 : decode b_B_turnAt 34 = .ok (.getfield 41, 3) := by decide +kernel
theorem d_B_turnAt_37 : decode b_B_turnAt 37 = .ok (.iload_n 1, 1) := by decide +kernel
theorem d_B_turnAt_38 : decode b_B_turnAt 38 = .ok (.laload, 1) := by decide +kernel
theorem d_B_turnAt_39 : decode b_B_turnAt 39 = .ok (.lsub, 1) := by decide +kernel
theorem d_B_turnAt_40 : decode b_B_turnAt 40 = .ok (.aload_n 0, 1) := by decide +kernel
theorem d_B_turnAt_41 : decode b_B_turnAt 41 = .ok (.getfield 37, 3) := by decide +kernel
theorem d_B_turnAt_44 : decode b_B_turnAt 44 = .ok (.iload_n 3, 1) := by decide +kernel
theorem d_B_turnAt_45 : decode b_B_turnAt 45 = .ok (.laload, 1) := by decide +kernel
theorem d_B_turnAt_46 : decode b_B_turnAt 46 = .ok (.aload_n 0, 1) := by decide +kernel
theorem d_B_turnAt_47 : decode b_B_turnAt 47 = .ok (.getfield 37, 3) := by decide +kernel
theorem d_B_turnAt_50 : decode b_B_turnAt 50 = .ok (.iload_n 1, 1) := by decide +kernel
theorem d_B_turnAt_51 : decode b_B_turnAt 51 = .ok (.laload, 1) := by decide +kernel
theorem d_B_turnAt_52 : decode b_B_turnAt 52 = .ok (.lsub, 1) := by decide +kernel
theorem d_B_turnAt_53 : decode b_B_turnAt 53 = .ok (.lmul, 1) := by decide +kernel
theorem d_B_turnAt_54 : decode b_B_turnAt 54 = .ok (.lsub, 1) := by decide +kernel
theorem d_B_turnAt_55 : decode b_B_turnAt 55 = .ok (.lreturn, 1) := by decide +kernel
abbrev rm_B_turnAt : Room := { frames := 0, cells := 0, slots := 0, locals := 0 }
theorem ce_B_turnAt : gCe y_B_turnAt (.code y_B_turnAt b_B_turnAt 4 (some .long)) 4 3 false := gCe.code wd_602 wd_49 wd_601 (by decide) (by decide +kernel)
def f_B_turnAt (g0 : gG) (a0 : Nat) (p1 : Int32) (p2 : Int32) (p3 : Int32) (w : gW) : gX Int64 := (gfA w a0 0 4).bind fun v1 => (gaJ w v1 p2).bind fun v3 => (gfA w a0 0 4).bind fun v5 => (gaJ w v5 p1).bind fun v7 => (gfA w a0 0 5).bind fun v9 => (gaJ w v9 p3).bind fun v11 => (gfA w a0 0 5).bind fun v13 => (gaJ w v13 p1).bind fun v15 => (gfA w a0 0 5).bind fun v17 => (gaJ w v17 p2).bind fun v19 => (gfA w a0 0 5).bind fun v21 => (gaJ w v21 p1).bind fun v23 => (gfA w a0 0 4).bind fun v25 => (gaJ w v25 p3).bind fun v27 => (gfA w a0 0 4).bind fun v29 => (gaJ w v29 p1).bind fun v31 => some (.inr (((v3 - v7) * (v11 - v15)) - ((v19 - v23) * (v27 - v31))), w)
set_option maxHeartbeats 4000000 in
set_option maxRecDepth 100000 in
theorem m_B_turnAt (l : Launch) (hst : l.stackTraces = false) (D : gD) (g0 : gG) (a0 : Nat) (p1 : Int32) (p2 : Int32) (p3 : Int32) (w : gW) (r : (String ⊕ Int64) × gW) (h : f_B_turnAt g0 a0 p1 p2 p3 w = some r) : gMet l y_B_turnAt (.code y_B_turnAt b_B_turnAt 4 (some .long)) rm_B_turnAt D g0 [.ref a0, .int p1, .int p2, .int p3] w (goJ r) := by
  refine gw_ofJ (by decide +kernel) (Nat.le_of_ble_eq_true rfl) ?_
  intro p e s m below meth c ls args A Q hx hb hml hown hlocks hin hnt hT hK hZ hA hret hexc hthr hI hl
  obtain ⟨H, hH⟩ : ∃ H, H = s.heap := ⟨_, rfl⟩
  rw [← hH] at hI ⊢
  obtain ⟨locs, hlocs⟩ : ∃ z : List Loc, z = [] := ⟨_, rfl⟩
  rw [← hlocs] at hI ⊢
  have hl : lv_has ls 4 [(0, .ref a0), (1, .int p1), (2, .int p2), (3, .int p3)] := hl
  unfold f_B_turnAt at h
  refine lv_aload_n hx hb d_B_turnAt_0 rfl (lv_at hl 0 rfl) ?_
  obtain ⟨v1, e2, h⟩ := gb h
  refine gw_getA hx hb hT hown hK hI (ci := 0) rfl i_0 4 (by decide) wd_193 (fun _ h9 => h9) e2 d_B_turnAt_1 ?_
  refine lv_iload_n hx hb d_B_turnAt_4 rfl (lv_at hl 2 rfl) ?_
  obtain ⟨v3, e4, h⟩ := gb h
  refine gw_aldJ hx hb hK hI e4 d_B_turnAt_5 ?_
  refine lv_aload_n hx hb d_B_turnAt_6 rfl (lv_at hl 0 rfl) ?_
  obtain ⟨v5, e6, h⟩ := gb h
  refine gw_getA hx hb hT hown hK hI (ci := 0) rfl i_0 4 (by decide) wd_193 (fun _ h9 => h9) e6 d_B_turnAt_7 ?_
  refine lv_iload_n hx hb d_B_turnAt_10 rfl (lv_at hl 1 rfl) ?_
  obtain ⟨v7, e8, h⟩ := gb h
  refine gw_aldJ hx hb hK hI e8 d_B_turnAt_11 ?_
  refine lv_lsub hx hb d_B_turnAt_12 ?_
  refine lv_aload_n hx hb d_B_turnAt_13 rfl (lv_at hl 0 rfl) ?_
  obtain ⟨v9, e10, h⟩ := gb h
  refine gw_getA hx hb hT hown hK hI (ci := 0) rfl i_0 5 (by decide) wd_194 (fun _ h9 => h9) e10 d_B_turnAt_14 ?_
  refine lv_iload_n hx hb d_B_turnAt_17 rfl (lv_at hl 3 rfl) ?_
  obtain ⟨v11, e12, h⟩ := gb h
  refine gw_aldJ hx hb hK hI e12 d_B_turnAt_18 ?_
  refine lv_aload_n hx hb d_B_turnAt_19 rfl (lv_at hl 0 rfl) ?_
  obtain ⟨v13, e14, h⟩ := gb h
  refine gw_getA hx hb hT hown hK hI (ci := 0) rfl i_0 5 (by decide) wd_194 (fun _ h9 => h9) e14 d_B_turnAt_20 ?_
  refine lv_iload_n hx hb d_B_turnAt_23 rfl (lv_at hl 1 rfl) ?_
  obtain ⟨v15, e16, h⟩ := gb h
  refine gw_aldJ hx hb hK hI e16 d_B_turnAt_24 ?_
  refine lv_lsub hx hb d_B_turnAt_25 ?_
  refine lv_lmul hx hb d_B_turnAt_26 ?_
  refine lv_aload_n hx hb d_B_turnAt_27 rfl (lv_at hl 0 rfl) ?_
  obtain ⟨v17, e18, h⟩ := gb h
  refine gw_getA hx hb hT hown hK hI (ci := 0) rfl i_0 5 (by decide) wd_194 (fun _ h9 => h9) e18 d_B_turnAt_28 ?_
  refine lv_iload_n hx hb d_B_turnAt_31 rfl (lv_at hl 2 rfl) ?_
  obtain ⟨v19, e20, h⟩ := gb h
  refine gw_aldJ hx hb hK hI e20 d_B_turnAt_32 ?_
  refine lv_aload_n hx hb d_B_turnAt_33 rfl (lv_at hl 0 rfl) ?_
  obtain ⟨v21, e22, h⟩ := gb h
  refine gw_getA hx hb hT hown hK hI (ci := 0) rfl i_0 5 (by decide) wd_194 (fun _ h9 => h9) e22 d_B_turnAt_34 ?_
  refine lv_iload_n hx hb d_B_turnAt_37 rfl (lv_at hl 1 rfl) ?_
  obtain ⟨v23, e24, h⟩ := gb h
  refine gw_aldJ hx hb hK hI e24 d_B_turnAt_38 ?_
  refine lv_lsub hx hb d_B_turnAt_39 ?_
  refine lv_aload_n hx hb d_B_turnAt_40 rfl (lv_at hl 0 rfl) ?_
  obtain ⟨v25, e26, h⟩ := gb h
  refine gw_getA hx hb hT hown hK hI (ci := 0) rfl i_0 4 (by decide) wd_193 (fun _ h9 => h9) e26 d_B_turnAt_41 ?_
  refine lv_iload_n hx hb d_B_turnAt_44 rfl (lv_at hl 3 rfl) ?_
  obtain ⟨v27, e28, h⟩ := gb h
  refine gw_aldJ hx hb hK hI e28 d_B_turnAt_45 ?_
  refine lv_aload_n hx hb d_B_turnAt_46 rfl (lv_at hl 0 rfl) ?_
  obtain ⟨v29, e30, h⟩ := gb h
  refine gw_getA hx hb hT hown hK hI (ci := 0) rfl i_0 4 (by decide) wd_193 (fun _ h9 => h9) e30 d_B_turnAt_47 ?_
  refine lv_iload_n hx hb d_B_turnAt_50 rfl (lv_at hl 1 rfl) ?_
  obtain ⟨v31, e32, h⟩ := gb h
  refine gw_aldJ hx hb hK hI e32 d_B_turnAt_51 ?_
  refine lv_lsub hx hb d_B_turnAt_52 ?_
  refine lv_lmul hx hb d_B_turnAt_53 ?_
  refine lv_lsub hx hb d_B_turnAt_54 ?_
  exact W.widen (show 0 ≤ 0 by omega) (show 0 ≤ 0 by omega) (hret _ _ (Option.some.inj h).symm _ _ _ _ d_B_turnAt_55 hI)

abbrev b_B_othersLieLeftOfSide : ByteArray := prog_1_method_29_code
def y_B_othersLieLeftOfSide : MethodName := ⟨"BodySolids", "othersLieLeftOfSide", "(II)Z"⟩
theorem d_B_othersLieLeftOfSide_0 : decode b_B_othersLieLeftOfSide 0 = .ok (.iconst 0, 1) := by decide +kernel
theorem d_B_othersLieLeftOfSide_1 : decode b_B_othersLieLeftOfSide 1 = .ok (.istore_n 3, 1) := by decide +kernel
theorem d_B_othersLieLeftOfSide_2 : decode b_B_othersLieLeftOfSide 2 = .ok (.iload_n 3, 1) := by decide +kernel
theorem d_B_othersLieLeftOfSide_3 : decode b_B_othersLieLeftOfSide 3 = .ok (.aload_n 0, 1) := by decide +kernel
theorem d_B_othersLieLeftOfSide_4 : decode b_B_othersLieLeftOfSide 4 = .ok (.getfield 44, 3) := by decide +kernel
theorem d_B_othersLieLeftOfSide_7 : decode b_B_othersLieLeftOfSide 7 = .ok (.if_icmp .ge 33, 3) := by decide +kernel
theorem d_B_othersLieLeftOfSide_10 : decode b_B_othersLieLeftOfSide 10 = .ok (.iload_n 3, 1) := by decide +kernel
theorem d_B_othersLieLeftOfSide_11 : decode b_B_othersLieLeftOfSide 11 = .ok (.iload_n 1, 1) := by decide +kernel
theorem d_B_othersLieLeftOfSide_12 : decode b_B_othersLieLeftOfSide 12 = .ok (.if_icmp .eq 22, 3) := by decide +kernel
theorem d_B_othersLieLeftOfSide_15 : decode b_B_othersLieLeftOfSide 15 = .ok (.iload_n 3, 1) := by decide +kernel
theorem d_B_othersLieLeftOfSide_16 : decode b_B_othersLieLeftOfSide 16 = .ok (.iload_n 2, 1) := by decide +kernel
theorem d_B_othersLieLeftOfSide_17 : decode b_B_othersLieLeftOfSide 17 = .ok (.if_icmp .eq 17, 3) := by decide +kernel
theorem d_B_othersLieLeftOfSide_20 : decode b_B_othersLieLeftOfSide 20 = .ok (.aload_n 0, 1) := by decide +kernel
theorem d_B_othersLieLeftOfSide_21 : decode b_B_othersLieLeftOfSide 21 = .ok (.iload_n 1, 1) := by decide +kernel
theorem d_B_othersLieLeftOfSide_22 : decode b_B_othersLieLeftOfSide 22 = .ok (.iload_n 2, 1) := by decide +kernel
theorem d_B_othersLieLeftOfSide_23 : decode b_B_othersLieLeftOfSide 23 = .ok (.iload_n 3, 1) := by decide +kernel
theorem d_B_othersLieLeftOfSide_24 : decode b_B_othersLieLeftOfSide 24 = .ok (.invokevirtual 265, 3) := by decide +kernel
theorem d_B_othersLieLeftOfSide_27 : decode b_B_othersLieLeftOfSide 27 = .ok (.lconst 0, 1) := by decide +kernel
theorem d_B_othersLieLeftOfSide_28 : decode b_B_othersLieLeftOfSide 28 = .ok (.lcmp, 1) := by decide +kernel
theorem d_B_othersLieLeftOfSide_29 : decode b_B_othersLieLeftOfSide 29 = .ok (.ifCond .gt 5, 3) := by decide +kernel
theorem d_B_othersLieLeftOfSide_32 : decode b_B_othersLieLeftOfSide 32 = .ok (.iconst 0, 1) := by decide +kernel
theorem d_B_othersLieLeftOfSide_33 : decode b_B_othersLieLeftOfSide 33 = .ok (.ireturn, 1) := by decide +kernel
theorem d_B_othersLieLeftOfSide_34 : decode b_B_othersLieLeftOfSide 34 = .ok (.iinc 3 1, 3) := by decide +kernel
theorem d_B_othersLieLeftOfSide_37 : decode b_B_othersLieLeftOfSide 37 = .ok (.goto (-35), 3) := by decide +kernel
theorem d_B_othersLieLeftOfSide_40 : decode b_B_othersLieLeftOfSide 40 = .ok (.iconst 1, 1) := by decide +kernel
theorem d_B_othersLieLeftOfSide_41 : decode b_B_othersLieLeftOfSide 41 = .ok (.ireturn, 1) := by decide +kernel
abbrev rm_B_othersLieLeftOfSide : Room := { frames := 1, cells := 0, slots := 0, locals := 23 }
theorem ce_B_othersLieLeftOfSide : gCe y_B_othersLieLeftOfSide (.code y_B_othersLieLeftOfSide b_B_othersLieLeftOfSide 4 (some .boolean)) 4 2 false := gCe.code wd_598 wd_49 wd_597 (by decide) (by decide +kernel)
def f_B_othersLieLeftOfSide_L2 (g0 : gG) (c0 : Nat) (c1 : Int32) (c2 : Int32) (K40 : gW → gX Int32) (K32 : gW → gX Int32) : Nat → Int32 → gW → gX Int32
  | 0, _, _ => none
  | n + 1, z3, w => (gfI w c0 0 6).bind fun v3 => if v3 ≤ z3 then (K40 w) else (gjoin (fun K34 => if z3 = c1 then (K34 w) else (if z3 = c2 then (K34 w) else ((gck w c0 0).bind fun _ => gbind (f_B_turnAt g0 c0 c1 c2 z3 w) fun v12 w => if 0 < v12 then (K34 w) else (K32 w)))) (fun (w : gW) => f_B_othersLieLeftOfSide_L2 g0 c0 c1 c2 K40 K32 n (z3 + 1) w))
def f_B_othersLieLeftOfSide (g0 : gG) (a0 : Nat) (p1 : Int32) (p2 : Int32) (w : gW) : gX Int32 := gjoin (fun K40 => gjoin (fun K32 => f_B_othersLieLeftOfSide_L2 g0 a0 p1 p2 K40 K32 64 0 w) (fun (w : gW) => gguard ((0 : Int32) = 0 ∨ (0 : Int32) = 1) (some (.inr 0, w)))) (fun (w : gW) => gguard ((1 : Int32) = 0 ∨ (1 : Int32) = 1) (some (.inr 1, w)))
set_option maxHeartbeats 4000000 in
set_option maxRecDepth 100000 in
theorem m_B_othersLieLeftOfSide (l : Launch) (hst : l.stackTraces = false) (D : gD) (g0 : gG) (a0 : Nat) (p1 : Int32) (p2 : Int32) (w : gW) (r : (String ⊕ Int32) × gW) (h : f_B_othersLieLeftOfSide g0 a0 p1 p2 w = some r) : gMet l y_B_othersLieLeftOfSide (.code y_B_othersLieLeftOfSide b_B_othersLieLeftOfSide 4 (some .boolean)) rm_B_othersLieLeftOfSide D g0 [.ref a0, .int p1, .int p2] w (goI r) := by
  refine gw_ofZ (by decide +kernel) (Nat.le_of_ble_eq_true rfl) ?_
  intro p e s m below meth c ls args A Q hx hb hml hown hlocks hin hnt hT hK hZ hA hret hexc hthr hI hl
  obtain ⟨H, hH⟩ : ∃ H, H = s.heap := ⟨_, rfl⟩
  rw [← hH] at hI ⊢
  obtain ⟨locs, hlocs⟩ : ∃ z : List Loc, z = [] := ⟨_, rfl⟩
  rw [← hlocs] at hI ⊢
  have hl : lv_has ls 4 [(0, .ref a0), (1, .int p1), (2, .int p2)] := hl
  unfold f_B_othersLieLeftOfSide at h
  refine lv_iconst (v := 0) hx hb d_B_othersLieLeftOfSide_0 (by decide) ?_
  refine lv_istore_n (lv' := [(3, .int 0), (0, .ref a0), (1, .int p1), (2, .int p2)]) hx hb d_B_othersLieLeftOfSide_1 rfl hl (by decide) rfl (fun ls hl => ?_)
  obtain ⟨K40, eK40, h⟩ := gj h
  have hK40 : ∀ (w : gW) (H : Heap) (locs : List Loc) (ls : Array Slot), K40 w = some r → gI D s A w H locs → lv_has ls 4 [] → W p l e rm_B_othersLieLeftOfSide s m args below meth c H locs 0 0 Q (F0 m 40 ls []) := by
    intro w H locs ls h hI hl
    have h := gk1 eK40 h
    refine lv_iconst (v := 1) hx hb d_B_othersLieLeftOfSide_40 (by decide) ?_
    obtain ⟨g1, h⟩ := gif h
    exact W.widen (show 0 ≤ 0 by omega) (show 0 ≤ 0 by omega) (hret g1 0 _ (Option.some.inj h).symm _ _ _ _ d_B_othersLieLeftOfSide_41 hI)
  obtain ⟨K32, eK32, h⟩ := gj h
  have hK32 : ∀ (w : gW) (H : Heap) (locs : List Loc) (ls : Array Slot), K32 w = some r → gI D s A w H locs → lv_has ls 4 [] → W p l e rm_B_othersLieLeftOfSide s m args below meth c H locs 0 0 Q (F0 m 32 ls []) := by
    intro w H locs ls h hI hl
    have h := gk1 eK32 h
    refine lv_iconst (v := 0) hx hb d_B_othersLieLeftOfSide_32 (by decide) ?_
    obtain ⟨g2, h⟩ := gif h
    exact W.widen (show 0 ≤ 0 by omega) (show 0 ≤ 0 by omega) (hret g2 0 _ (Option.some.inj h).symm _ _ _ _ d_B_othersLieLeftOfSide_33 hI)
  have hL2 : ∀ (n : Nat), ∀ (z3 : Int32) (w : gW) (H : Heap) (locs : List Loc) (ls : Array Slot), f_B_othersLieLeftOfSide_L2 g0 a0 p1 p2 K40 K32 n z3 w = some r → gI D s A w H locs → lv_has ls 4 [(0, .ref a0), (1, .int p1), (2, .int p2), (3, .int z3)] → W p l e rm_B_othersLieLeftOfSide s m args below meth c H locs 0 0 Q (F0 m 2 ls []) := by
    intro n
    induction n with
    | zero => intro z3 w H locs ls h hI hl; exact absurd h (by simp [f_B_othersLieLeftOfSide_L2])
    | succ n ih =>
      intro z3 w H locs ls h hI hl
      rw [f_B_othersLieLeftOfSide_L2] at h
      refine lv_iload_n hx hb d_B_othersLieLeftOfSide_2 rfl (lv_at hl 3 rfl) ?_
      refine lv_aload_n hx hb d_B_othersLieLeftOfSide_3 rfl (lv_at hl 0 rfl) ?_
      obtain ⟨v4, e5, h⟩ := gb h
      refine gw_getI hx hb hT hown hK hI (ci := 0) rfl i_0 6 (by decide) wd_195 (fun _ h9 => h9) e5 d_B_othersLieLeftOfSide_4 ?_
      refine lv_icmp_ge (tgt := 40) hx hb d_B_othersLieLeftOfSide_7 (by decide) (fun c6 => ?_) (fun c6 => ?_)
      · skip
        have h := git c6 h
        exact hK40 w H locs ls h hI (lv_sub hl [] rfl)
      · skip
        have h := gie c6 h
        refine lv_iload_n hx hb d_B_othersLieLeftOfSide_10 rfl (lv_at hl 3 rfl) ?_
        refine lv_iload_n hx hb d_B_othersLieLeftOfSide_11 rfl (lv_at hl 1 rfl) ?_
        obtain ⟨K34, eK34, h⟩ := gj h
        have hK34 : ∀ (w : gW) (H : Heap) (locs : List Loc) (ls : Array Slot), K34 w = some r → gI D s A w H locs → lv_has ls 4 [(0, .ref a0), (1, .int p1), (2, .int p2), (3, .int z3)] → W p l e rm_B_othersLieLeftOfSide s m args below meth c H locs 0 0 Q (F0 m 34 ls []) := by
          intro w H locs ls h hI hl
          have h := gk1 eK34 h
          refine lv_iinc (v := z3 + 1) (lv' := [(3, .int (z3 + 1)), (0, .ref a0), (1, .int p1), (2, .int p2)]) hx hb d_B_othersLieLeftOfSide_34 hl (k := 3) rfl rfl (by decide) rfl (fun ls hl => ?_)
          refine lv_goto (tgt := 2) hx hb d_B_othersLieLeftOfSide_37 (by decide) ?_
          exact ih _ w H locs ls h hI (lv_sub hl [1, 2, 3, 0] rfl)
        refine lv_icmp_eq (tgt := 34) hx hb d_B_othersLieLeftOfSide_12 (by decide) (fun c7 => ?_) (fun c7 => ?_)
        · skip
          have h := git c7 h
          exact hK34 w H locs ls h hI (lv_sub hl [0, 1, 2, 3] rfl)
        · skip
          have h := gie c7 h
          refine lv_iload_n hx hb d_B_othersLieLeftOfSide_15 rfl (lv_at hl 3 rfl) ?_
          refine lv_iload_n hx hb d_B_othersLieLeftOfSide_16 rfl (lv_at hl 2 rfl) ?_
          refine lv_icmp_eq (tgt := 34) hx hb d_B_othersLieLeftOfSide_17 (by decide) (fun c8 => ?_) (fun c8 => ?_)
          · skip
            have h := git c8 h
            exact hK34 w H locs ls h hI (lv_sub hl [0, 1, 2, 3] rfl)
          · skip
            have h := gie c8 h
            refine lv_aload_n hx hb d_B_othersLieLeftOfSide_20 rfl (lv_at hl 0 rfl) ?_
            refine lv_iload_n hx hb d_B_othersLieLeftOfSide_21 rfl (lv_at hl 1 rfl) ?_
            refine lv_iload_n hx hb d_B_othersLieLeftOfSide_22 rfl (lv_at hl 2 rfl) ?_
            refine lv_iload_n hx hb d_B_othersLieLeftOfSide_23 rfl (lv_at hl 3 rfl) ?_
            obtain ⟨q11, e12, h⟩ := gb h
            obtain ⟨u9, e10⟩ := gsome h
            refine gw_callJ e10 h (gw_runV (As := [.int p1, .int p2, .int z3]) (rest := []) hx hb hml hown hT hK hZ hA hI (ci := 0) rfl e12 (m_B_turnAt l hst D g0 a0 p1 p2 z3 w u9 e10) ce_B_turnAt wd_599 wd_13 ⟨by decide, by decide⟩ rfl rfl hl.1 rfl (lv_room (Nat.le_of_ble_eq_true rfl)) d_B_othersLieLeftOfSide_24 ⟨(show 0 + 0 ≤ 0 by omega), (show 0 + 0 ≤ 0 by omega)⟩) hI hA hexc (show 0 + 0 ≤ 0 by omega) (show 0 + 0 ≤ 0 by omega) (fun v13 w H locs h hI => ?_)
            refine lv_lconst (v := 0) hx hb d_B_othersLieLeftOfSide_27 (by decide) ?_
            refine W.lcmp hx hb d_B_othersLieLeftOfSide_28 ?_
            refine lv_if_gt (tgt := 34) hx hb d_B_othersLieLeftOfSide_29 (by decide) (fun c14 => ?_) (fun c14 => ?_)
            · have c14 := (lg_cmp_gt _ _).mp c14
              have h := git c14 h
              exact hK34 w H locs ls h hI (lv_sub hl [0, 1, 2, 3] rfl)
            · have c14 := mt (lg_cmp_gt _ _).mpr c14
              have h := gie c14 h
              exact hK32 w H locs ls h hI (lv_sub hl [] rfl)
  exact hL2 64 _ w H locs ls h hI (lv_sub hl [1, 2, 3, 0] rfl)

abbrev b_B_cornersMakePolygon : ByteArray := prog_1_method_28_code
def y_B_cornersMakePolygon : MethodName := ⟨"BodySolids", "cornersMakePolygon", "()Z"⟩
theorem d_B_cornersMakePolygon_0 : decode b_B_cornersMakePolygon 0 = .ok (.aload_n 0, 1) := by decide +kernel
theorem d_B_cornersMakePolygon_1 : decode b_B_cornersMakePolygon 1 = .ok (.getfield 44, 3) := by decide +kernel
theorem d_B_cornersMakePolygon_4 : decode b_B_cornersMakePolygon 4 = .ok (.iconst 3, 1) := by decide +kernel
theorem d_B_cornersMakePolygon_5 : decode b_B_cornersMakePolygon 5 = .ok (.if_icmp .ge 5, 3) := by decide +kernel
theorem d_B_cornersMakePolygon_8 : decode b_B_cornersMakePolygon 8 = .ok (.iconst 0, 1) := by decide +kernel
theorem d_B_cornersMakePolygon_9 : decode b_B_cornersMakePolygon 9 = .ok (.ireturn, 1) := by decide +kernel
theorem d_B_cornersMakePolygon_10 : decode b_B_cornersMakePolygon 10 = .ok (.iconst 0, 1) := by decide +kernel
theorem d_B_cornersMakePolygon_11 : decode b_B_cornersMakePolygon 11 = .ok (.istore_n 1, 1) := by decide +kernel
theorem d_B_cornersMakePolygon_12 : decode b_B_cornersMakePolygon 12 = .ok (.iload_n 1, 1) := by decide +kernel
theorem d_B_cornersMakePolygon_13 : decode b_B_cornersMakePolygon 13 = .ok (.aload_n 0, 1) := by decide +kernel
theorem d_B_cornersMakePolygon_14 : decode b_B_cornersMakePolygon 14 = .ok (.getfield 44, 3) := by decide +kernel
theorem d_B_cornersMakePolygon_17 : decode b_B_cornersMakePolygon 17 = .ok (.if_icmp .ge 36, 3) := by decide +kernel
theorem d_B_cornersMakePolygon_20 : decode b_B_cornersMakePolygon 20 = .ok (.aload_n 0, 1) := by decide +kernel
theorem d_B_cornersMakePolygon_21 : decode b_B_cornersMakePolygon 21 = .ok (.iload_n 1, 1) := by decide +kernel
theorem d_B_cornersMakePolygon_22 : decode b_B_cornersMakePolygon 22 = .ok (.iload_n 1, 1) := by decide +kernel
theorem d_B_cornersMakePolygon_23 : decode b_B_cornersMakePolygon 23 = .ok (.iconst 1, 1) := by decide +kernel
theorem d_B_cornersMakePolygon_24 : decode b_B_cornersMakePolygon 24 = .ok (.iadd, 1) := by decide +kernel
theorem d_B_cornersMakePolygon_25 : decode b_B_cornersMakePolygon 25 = .ok (.aload_n 0, 1) := by decide +kernel
theorem d_B_cornersMakePolygon_26 : decode b_B_cornersMakePolygon 26 = .ok (.getfield 44, 3) := by decide +kernel
theorem d_B_cornersMakePolygon_29 : decode b_B_cornersMakePolygon 29 = .ok (.if_icmp .ge 9, 3) := by decide +kernel
theorem d_B_cornersMakePolygon_32 : decode b_B_cornersMakePolygon 32 = .ok (.iload_n 1, 1) := by decide +kernel
theorem d_B_cornersMakePolygon_33 : decode b_B_cornersMakePolygon 33 = .ok (.iconst 1, 1) := by decide +kernel
theorem d_B_cornersMakePolygon_34 : decode b_B_cornersMakePolygon 34 = .ok (.iadd, 1) := by decide +kernel
theorem d_B_cornersMakePolygon_35 : decode b_B_cornersMakePolygon 35 = .ok (.goto 4, 3) := by decide +kernel
theorem d_B_cornersMakePolygon_38 : decode b_B_cornersMakePolygon 38 = .ok (.iconst 0, 1) := by decide +kernel
theorem d_B_cornersMakePolygon_39 : decode b_B_cornersMakePolygon 39 = .ok (.invokevirtual 261, 3) := by decide +kernel
theorem d_B_cornersMakePolygon_42 : decode b_B_cornersMakePolygon 42 = .ok (.ifCond .ne 5, 3) := by decide +kernel
theorem d_B_cornersMakePolygon_45 : decode b_B_cornersMakePolygon 45 = .ok (.iconst 0, 1) := by decide +kernel
theorem d_B_cornersMakePolygon_46 : decode b_B_cornersMakePolygon 46 = .ok (.ireturn, 1) := by decide +kernel
theorem d_B_cornersMakePolygon_47 : decode b_B_cornersMakePolygon 47 = .ok (.iinc 1 1, 3) := by decide +kernel
theorem d_B_cornersMakePolygon_50 : decode b_B_cornersMakePolygon 50 = .ok (.goto (-38), 3) := by decide +kernel
theorem d_B_cornersMakePolygon_53 : decode b_B_cornersMakePolygon 53 = .ok (.iconst 1, 1) := by decide +kernel
theorem d_B_cornersMakePolygon_54 : decode b_B_cornersMakePolygon 54 = .ok (.ireturn, 1) := by decide +kernel
abbrev rm_B_cornersMakePolygon : Room := { frames := 2, cells := 0, slots := 0, locals := 46 }
theorem ce_B_cornersMakePolygon : gCe y_B_cornersMakePolygon (.code y_B_cornersMakePolygon b_B_cornersMakePolygon 2 (some .boolean)) 2 0 false := gCe.code wd_594 wd_49 wd_593 (by decide) (by decide +kernel)
def f_B_cornersMakePolygon_L12 (g0 : gG) (c0 : Nat) (K53 : gW → gX Int32) (K45 : gW → gX Int32) : Nat → Int32 → gW → gX Int32
  | 0, _, _ => none
  | n + 1, z1, w => (gfI w c0 0 6).bind fun v6 => if v6 ≤ z1 then (K53 w) else ((gfI w c0 0 6).bind fun v9 => gjoin (fun K39 => if v9 ≤ (z1 + 1) then (K39 0 w) else (K39 (z1 + 1) w)) (fun (y11 : Int32) (w : gW) => (gck w c0 0).bind fun _ => gbind (f_B_othersLieLeftOfSide g0 c0 z1 y11 w) fun v16 w => if v16 = 0 then (K45 w) else (f_B_cornersMakePolygon_L12 g0 c0 K53 K45 n (z1 + 1) w)))
def f_B_cornersMakePolygon (g0 : gG) (a0 : Nat) (w : gW) : gX Int32 := (gfI w a0 0 6).bind fun v1 => if 3 ≤ v1 then (gjoin (fun K53 => gjoin (fun K45 => f_B_cornersMakePolygon_L12 g0 a0 K53 K45 64 0 w) (fun (w : gW) => gguard ((0 : Int32) = 0 ∨ (0 : Int32) = 1) (some (.inr 0, w)))) (fun (w : gW) => gguard ((1 : Int32) = 0 ∨ (1 : Int32) = 1) (some (.inr 1, w)))) else (gguard ((0 : Int32) = 0 ∨ (0 : Int32) = 1) (some (.inr 0, w)))
set_option maxHeartbeats 4000000 in
set_option maxRecDepth 100000 in
theorem m_B_cornersMakePolygon (l : Launch) (hst : l.stackTraces = false) (D : gD) (g0 : gG) (a0 : Nat) (w : gW) (r : (String ⊕ Int32) × gW) (h : f_B_cornersMakePolygon g0 a0 w = some r) : gMet l y_B_cornersMakePolygon (.code y_B_cornersMakePolygon b_B_cornersMakePolygon 2 (some .boolean)) rm_B_cornersMakePolygon D g0 [.ref a0] w (goI r) := by
  refine gw_ofZ (by decide +kernel) (Nat.le_of_ble_eq_true rfl) ?_
  intro p e s m below meth c ls args A Q hx hb hml hown hlocks hin hnt hT hK hZ hA hret hexc hthr hI hl
  obtain ⟨H, hH⟩ : ∃ H, H = s.heap := ⟨_, rfl⟩
  rw [← hH] at hI ⊢
  obtain ⟨locs, hlocs⟩ : ∃ z : List Loc, z = [] := ⟨_, rfl⟩
  rw [← hlocs] at hI ⊢
  have hl : lv_has ls 2 [(0, .ref a0)] := hl
  unfold f_B_cornersMakePolygon at h
  refine lv_aload_n hx hb d_B_cornersMakePolygon_0 rfl (lv_at hl 0 rfl) ?_
  obtain ⟨v1, e2, h⟩ := gb h
  refine gw_getI hx hb hT hown hK hI (ci := 0) rfl i_0 6 (by decide) wd_195 (fun _ h9 => h9) e2 d_B_cornersMakePolygon_1 ?_
  refine lv_iconst (v := 3) hx hb d_B_cornersMakePolygon_4 (by decide) ?_
  refine lv_icmp_ge (tgt := 10) hx hb d_B_cornersMakePolygon_5 (by decide) (fun c3 => ?_) (fun c3 => ?_)
  · skip
    have h := git c3 h
    refine lv_iconst (v := 0) hx hb d_B_cornersMakePolygon_10 (by decide) ?_
    refine lv_istore_n (lv' := [(1, .int 0), (0, .ref a0)]) hx hb d_B_cornersMakePolygon_11 rfl hl (by decide) rfl (fun ls hl => ?_)
    obtain ⟨K53, eK53, h⟩ := gj h
    have hK53 : ∀ (w : gW) (H : Heap) (locs : List Loc) (ls : Array Slot), K53 w = some r → gI D s A w H locs → lv_has ls 2 [] → W p l e rm_B_cornersMakePolygon s m args below meth c H locs 0 0 Q (F0 m 53 ls []) := by
      intro w H locs ls h hI hl
      have h := gk1 eK53 h
      refine lv_iconst (v := 1) hx hb d_B_cornersMakePolygon_53 (by decide) ?_
      obtain ⟨g4, h⟩ := gif h
      exact W.widen (show 0 ≤ 0 by omega) (show 0 ≤ 0 by omega) (hret g4 0 _ (Option.some.inj h).symm _ _ _ _ d_B_cornersMakePolygon_54 hI)
    obtain ⟨K45, eK45, h⟩ := gj h
    have hK45 : ∀ (w : gW) (H : Heap) (locs : List Loc) (ls : Array Slot), K45 w = some r → gI D s A w H locs → lv_has ls 2 [] → W p l e rm_B_cornersMakePolygon s m args below meth c H locs 0 0 Q (F0 m 45 ls []) := by
      intro w H locs ls h hI hl
      have h := gk1 eK45 h
      refine lv_iconst (v := 0) hx hb d_B_cornersMakePolygon_45 (by decide) ?_
      obtain ⟨g5, h⟩ := gif h
      exact W.widen (show 0 ≤ 0 by omega) (show 0 ≤ 0 by omega) (hret g5 0 _ (Option.some.inj h).symm _ _ _ _ d_B_cornersMakePolygon_46 hI)
    have hL12 : ∀ (n : Nat), ∀ (z6 : Int32) (w : gW) (H : Heap) (locs : List Loc) (ls : Array Slot), f_B_cornersMakePolygon_L12 g0 a0 K53 K45 n z6 w = some r → gI D s A w H locs → lv_has ls 2 [(0, .ref a0), (1, .int z6)] → W p l e rm_B_cornersMakePolygon s m args below meth c H locs 0 0 Q (F0 m 12 ls []) := by
      intro n
      induction n with
      | zero => intro z6 w H locs ls h hI hl; exact absurd h (by simp [f_B_cornersMakePolygon_L12])
      | succ n ih =>
        intro z6 w H locs ls h hI hl
        rw [f_B_cornersMakePolygon_L12] at h
        refine lv_iload_n hx hb d_B_cornersMakePolygon_12 rfl (lv_at hl 1 rfl) ?_
        refine lv_aload_n hx hb d_B_cornersMakePolygon_13 rfl (lv_at hl 0 rfl) ?_
        obtain ⟨v7, e8, h⟩ := gb h
        refine gw_getI hx hb hT hown hK hI (ci := 0) rfl i_0 6 (by decide) wd_195 (fun _ h9 => h9) e8 d_B_cornersMakePolygon_14 ?_
        refine lv_icmp_ge (tgt := 53) hx hb d_B_cornersMakePolygon_17 (by decide) (fun c9 => ?_) (fun c9 => ?_)
        · skip
          have h := git c9 h
          exact hK53 w H locs ls h hI (lv_sub hl [] rfl)
        · skip
          have h := gie c9 h
          refine lv_aload_n hx hb d_B_cornersMakePolygon_20 rfl (lv_at hl 0 rfl) ?_
          refine lv_iload_n hx hb d_B_cornersMakePolygon_21 rfl (lv_at hl 1 rfl) ?_
          refine lv_iload_n hx hb d_B_cornersMakePolygon_22 rfl (lv_at hl 1 rfl) ?_
          refine lv_iconst (v := 1) hx hb d_B_cornersMakePolygon_23 (by decide) ?_
          refine lv_iadd hx hb d_B_cornersMakePolygon_24 ?_
          refine lv_aload_n hx hb d_B_cornersMakePolygon_25 rfl (lv_at hl 0 rfl) ?_
          obtain ⟨v10, e11, h⟩ := gb h
          refine gw_getI hx hb hT hown hK hI (ci := 0) rfl i_0 6 (by decide) wd_195 (fun _ h9 => h9) e11 d_B_cornersMakePolygon_26 ?_
          obtain ⟨K39, eK39, h⟩ := gj h
          have hK39 : ∀ (y12 : Int32) (w : gW) (H : Heap) (locs : List Loc) (ls : Array Slot), K39 y12 w = some r → gI D s A w H locs → lv_has ls 2 [(0, .ref a0), (1, .int z6)] → W p l e rm_B_cornersMakePolygon s m args below meth c H locs 0 0 Q (F0 m 39 ls [.int y12, .int z6, .ref a0]) := by
            intro y12 w H locs ls h hI hl
            have h := gk2 eK39 h
            obtain ⟨q15, e16, h⟩ := gb h
            obtain ⟨u13, e14⟩ := gsome h
            refine gw_callI e14 h (gw_runV (As := [.int z6, .int y12]) (rest := []) hx hb hml hown hT hK hZ hA hI (ci := 0) rfl e16 (m_B_othersLieLeftOfSide l hst D g0 a0 z6 y12 w u13 e14) ce_B_othersLieLeftOfSide wd_595 wd_12 ⟨by decide, by decide⟩ rfl rfl hl.1 rfl (lv_room (Nat.le_of_ble_eq_true rfl)) d_B_cornersMakePolygon_39 ⟨(show 0 + 0 ≤ 0 by omega), (show 0 + 0 ≤ 0 by omega)⟩) hI hA hexc (show 0 + 0 ≤ 0 by omega) (show 0 + 0 ≤ 0 by omega) (fun v17 w H locs h hI => ?_)
            refine lv_if_ne (tgt := 47) hx hb d_B_cornersMakePolygon_42 (by decide) (fun c18 => ?_) (fun c18 => ?_)
            · skip
              have h := gie c18 h
              refine lv_iinc (v := z6 + 1) (lv' := [(1, .int (z6 + 1)), (0, .ref a0)]) hx hb d_B_cornersMakePolygon_47 hl (k := 1) rfl rfl (by decide) rfl (fun ls hl => ?_)
              refine lv_goto (tgt := 12) hx hb d_B_cornersMakePolygon_50 (by decide) ?_
              exact ih _ w H locs ls h hI (lv_sub hl [1, 0] rfl)
            · skip
              have h := git c18 h
              exact hK45 w H locs ls h hI (lv_sub hl [] rfl)
          refine lv_icmp_ge (tgt := 38) hx hb d_B_cornersMakePolygon_29 (by decide) (fun c19 => ?_) (fun c19 => ?_)
          · skip
            have h := git c19 h
            refine lv_iconst (v := 0) hx hb d_B_cornersMakePolygon_38 (by decide) ?_
            exact hK39 _ w H locs ls h hI (lv_sub hl [0, 1] rfl)
          · skip
            have h := gie c19 h
            refine lv_iload_n hx hb d_B_cornersMakePolygon_32 rfl (lv_at hl 1 rfl) ?_
            refine lv_iconst (v := 1) hx hb d_B_cornersMakePolygon_33 (by decide) ?_
            refine lv_iadd hx hb d_B_cornersMakePolygon_34 ?_
            refine lv_goto (tgt := 39) hx hb d_B_cornersMakePolygon_35 (by decide) ?_
            exact hK39 _ w H locs ls h hI (lv_sub hl [0, 1] rfl)
    exact hL12 64 _ w H locs ls h hI (lv_sub hl [1, 0] rfl)
  · skip
    have h := gie c3 h
    refine lv_iconst (v := 0) hx hb d_B_cornersMakePolygon_8 (by decide) ?_
    obtain ⟨g20, h⟩ := gif h
    exact W.widen (show 0 ≤ 0 by omega) (show 0 ≤ 0 by omega) (hret g20 0 _ (Option.some.inj h).symm _ _ _ _ d_B_cornersMakePolygon_9 hI)
