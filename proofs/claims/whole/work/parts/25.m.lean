abbrev b_B_cylinder : ByteArray := prog_1_method_4_code
def y_B_cylinder : MethodName := ⟨"BodySolids", "cylinder", "(IJJJJJ)Z"⟩
theorem d_B_cylinder_0 : decode b_B_cylinder 0 = .ok (.aload_n 0, 1) := by decide +kernel
theorem d_B_cylinder_1 : decode b_B_cylinder 1 = .ok (.iload_n 1, 1) := by decide +kernel
theorem d_B_cylinder_2 : decode b_B_cylinder 2 = .ok (.invokevirtual 79, 3) := by decide +kernel
theorem d_B_cylinder_5 : decode b_B_cylinder 5 = .ok (.astore 12, 2) := by decide +kernel
theorem d_B_cylinder_7 : decode b_B_cylinder 7 = .ok (.lload_n 2, 1) := by decide +kernel
theorem d_B_cylinder_8 : decode b_B_cylinder 8 = .ok (.lload 4, 2) := by decide +kernel
theorem d_B_cylinder_10 : decode b_B_cylinder 10 = .ok (.invokestatic 83, 3) := by decide +kernel
theorem d_B_cylinder_13 : decode b_B_cylinder 13 = .ok (.lload 8, 2) := by decide +kernel
theorem d_B_cylinder_15 : decode b_B_cylinder 15 = .ok (.invokestatic 87, 3) := by decide +kernel
theorem d_B_cylinder_18 : decode b_B_cylinder 18 = .ok (.lload 6, 2) := by decide +kernel
theorem d_B_cylinder_20 : decode b_B_cylinder 20 = .ok (.lload 10, 2) := by decide +kernel
theorem d_B_cylinder_22 : decode b_B_cylinder 22 = .ok (.invokestatic 91, 3) := by decide +kernel
theorem d_B_cylinder_25 : decode b_B_cylinder 25 = .ok (.aload 12, 2) := by decide +kernel
theorem d_B_cylinder_27 : decode b_B_cylinder 27 = .ok (.invokevirtual 94, 3) := by decide +kernel
theorem d_B_cylinder_30 : decode b_B_cylinder 30 = .ok (.ifCond .eq 5, 3) := by decide +kernel
theorem d_B_cylinder_33 : decode b_B_cylinder 33 = .ok (.iconst 0, 1) := by decide +kernel
theorem d_B_cylinder_34 : decode b_B_cylinder 34 = .ok (.ireturn, 1) := by decide +kernel
theorem d_B_cylinder_35 : decode b_B_cylinder 35 = .ok (.new 98, 3) := by decide +kernel
theorem d_B_cylinder_38 : decode b_B_cylinder 38 = .ok (.dup, 1) := by decide +kernel
theorem d_B_cylinder_39 : decode b_B_cylinder 39 = .ok (.invokespecial 100, 3) := by decide +kernel
theorem d_B_cylinder_42 : decode b_B_cylinder 42 = .ok (.astore 13, 2) := by decide +kernel
theorem d_B_cylinder_44 : decode b_B_cylinder 44 = .ok (.aload 13, 2) := by decide +kernel
theorem d_B_cylinder_46 : decode b_B_cylinder 46 = .ok (.iconst 1, 1) := by decide +kernel
theorem d_B_cylinder_47 : decode b_B_cylinder 47 = .ok (.lload 8, 2) := by decide +kernel
theorem d_B_cylinder_49 : decode b_B_cylinder 49 = .ok (.lconst 0, 1) := by decide +kernel
theorem d_B_cylinder_50 : decode b_B_cylinder 50 = .ok (.invokevirtual 101, 3) := by decide +kernel
theorem d_B_cylinder_53 : decode b_B_cylinder 53 = .ok (.aload 13, 2) := by decide +kernel
theorem d_B_cylinder_55 : decode b_B_cylinder 55 = .ok (.lload_n 2, 1) := by decide +kernel
theorem d_B_cylinder_56 : decode b_B_cylinder 56 = .ok (.lload 4, 2) := by decide +kernel
theorem d_B_cylinder_58 : decode b_B_cylinder 58 = .ok (.invokevirtual 122, 3) := by decide +kernel
theorem d_B_cylinder_61 : decode b_B_cylinder 61 = .ok (.aload 13, 2) := by decide +kernel
theorem d_B_cylinder_63 : decode b_B_cylinder 63 = .ok (.lload 6, 2) := by decide +kernel
theorem d_B_cylinder_65 : decode b_B_cylinder 65 = .ok (.lload 6, 2) := by decide +kernel
theorem d_B_cylinder_67 : decode b_B_cylinder 67 = .ok (.lload 10, 2) := by decide +kernel
theorem d_B_cylinder_69 : decode b_B_cylinder 69 = .ok (.ladd, 1) := by decide +kernel
theorem d_B_cylinder_70 : decode b_B_cylinder 70 = .ok (.invokevirtual 109, 3) := by decide +kernel
theorem d_B_cylinder_73 : decode b_B_cylinder 73 = .ok (.aload 12, 2) := by decide +kernel
theorem d_B_cylinder_75 : decode b_B_cylinder 75 = .ok (.aload 13, 2) := by decide +kernel
theorem d_B_cylinder_77 : decode b_B_cylinder 77 = .ok (.ldc2_w 125, 3) := by decide +kernel
theorem d_B_cylinder_80 : decode b_B_cylinder 80 = .ok (.lload 8, 2) := by decide +kernel
theorem d_B_cylinder_82 : decode b_B_cylinder 82 = .ok (.lmul, 1) := by decide +kernel
theorem d_B_cylinder_83 : decode b_B_cylinder 83 = .ok (.lload 8, 2) := by decide +kernel
theorem d_B_cylinder_85 : decode b_B_cylinder 85 = .ok (.lmul, 1) := by decide +kernel
theorem d_B_cylinder_86 : decode b_B_cylinder 86 = .ok (.lload 10, 2) := by decide +kernel
theorem d_B_cylinder_88 : decode b_B_cylinder 88 = .ok (.lmul, 1) := by decide +kernel
theorem d_B_cylinder_89 : decode b_B_cylinder 89 = .ok (.invokevirtual 114, 3) := by decide +kernel
theorem d_B_cylinder_92 : decode b_B_cylinder 92 = .ok (.aload_n 0, 1) := by decide +kernel
theorem d_B_cylinder_93 : decode b_B_cylinder 93 = .ok (.aload 12, 2) := by decide +kernel
theorem d_B_cylinder_95 : decode b_B_cylinder 95 = .ok (.invokevirtual 118, 3) := by decide +kernel
theorem d_B_cylinder_98 : decode b_B_cylinder 98 = .ok (.iconst 1, 1) := by decide +kernel
theorem d_B_cylinder_99 : decode b_B_cylinder 99 = .ok (.ireturn, 1) := by decide +kernel
abbrev rm_B_cylinder : Room := { frames := 10, cells := 11, slots := 134, locals := 202 }
theorem ce_B_cylinder : gCe y_B_cylinder (.code y_B_cylinder b_B_cylinder 14 (some .boolean)) 14 6 false := gCe.code wd_574 wd_49 wd_572 (by decide) (by decide +kernel)
def f_B_cylinder (g0 : gG) (a0 : Nat) (p1 : Int32) (p2 : Int64) (p3 : Int64) (p4 : Int64) (p5 : Int64) (p6 : Int64) (w : gW) : gX Int32 := (gck w a0 0).bind fun _ => gbind (f_B_bodyAt g0 a0 p1 w) fun v5 w => gbind (f_B_needPlace g0 p2 p3 w) fun v8 w => gbind (f_B_needSize g0 p5 w) fun v11 w => gbind (f_B_needUpright g0 p4 p6 w) fun v14 w => (gck w v5 4).bind fun _ => gbind (f_By_isFull g0 v5 w) fun v19 w => if v19 = 0 then (gb2f (gnw w 3 [.int 0, .long 0, .long 0, .null, .null, .int 0, .long 0, .long 0, .long 0, .long 0, .long 0, .long 0]) fun o21 w => gbind (f_So_init g0 o21 w) fun v25 w => (gck w o21 3).bind fun _ => gbind (f_So_begin g0 o21 1 p5 0 w) fun v30 w => (gck w o21 3).bind fun _ => gbind (f_So_addCorner g0 o21 p2 p3 w) fun v35 w => (gck w o21 3).bind fun _ => gbind (f_So_setHeights g0 o21 p4 (p4 + p6) w) fun v40 w => (gck w v5 4).bind fun _ => gbind (f_By_add g0 v5 o21 (((710 * p5) * p5) * p6) w) fun v45 w => (gck w a0 0).bind fun _ => gbind (f_B_forgetRelationsOf g0 a0 v5 w) fun v50 w => gguard ((1 : Int32) = 0 ∨ (1 : Int32) = 1) (some (.inr 1, w))) else (gguard ((0 : Int32) = 0 ∨ (0 : Int32) = 1) (some (.inr 0, w)))
set_option maxHeartbeats 4000000 in
set_option maxRecDepth 100000 in
theorem m_B_cylinder (l : Launch) (hst : l.stackTraces = false) (D : gD) (g0 : gG) (a0 : Nat) (p1 : Int32) (p2 : Int64) (p3 : Int64) (p4 : Int64) (p5 : Int64) (p6 : Int64) (w : gW) (r : (String ⊕ Int32) × gW) (h : f_B_cylinder g0 a0 p1 p2 p3 p4 p5 p6 w = some r) : gMet l y_B_cylinder (.code y_B_cylinder b_B_cylinder 14 (some .boolean)) rm_B_cylinder D g0 [.ref a0, .int p1, .long p2, .long p3, .long p4, .long p5, .long p6] w (goI r) := by
  refine gw_ofZ (by decide +kernel) (Nat.le_of_ble_eq_true rfl) ?_
  intro p e s m below meth c ls args A Q hx hb hml hown hlocks hin hnt hT hK hZ hA hret hexc hthr hI hl
  obtain ⟨H, hH⟩ : ∃ H, H = s.heap := ⟨_, rfl⟩
  rw [← hH] at hI ⊢
  obtain ⟨locs, hlocs⟩ : ∃ z : List Loc, z = [] := ⟨_, rfl⟩
  rw [← hlocs] at hI ⊢
  have hl : lv_has ls 14 [(0, .ref a0), (1, .int p1), (2, .long p2), (4, .long p3), (6, .long p4), (8, .long p5), (10, .long p6)] := hl
  unfold f_B_cylinder at h
  refine lv_aload_n hx hb d_B_cylinder_0 rfl (lv_at hl 0 rfl) ?_
  refine lv_iload_n hx hb d_B_cylinder_1 rfl (lv_at hl 1 rfl) ?_
  obtain ⟨q3, e4, h⟩ := gb h
  obtain ⟨u1, e2⟩ := gsome h
  refine gw_callA e2 h (gw_runV (As := [.int p1]) (rest := []) hx hb hml hown hT hK hZ hA hI (ci := 0) rfl e4 (m_B_bodyAt l hst D g0 a0 p1 w u1 e2) ce_B_bodyAt wd_436 wd_7 ⟨by decide, by decide⟩ rfl rfl hl.1 rfl (lv_room (Nat.le_of_ble_eq_true rfl)) d_B_cylinder_2 ⟨(show 0 + 1 ≤ 11 by omega), (show 0 + 6 ≤ 134 by omega)⟩) hI hA hexc (show 0 + 1 ≤ 11 by omega) (show 0 + 6 ≤ 134 by omega) (fun v5 w H locs h hI => ?_)
  refine W.widen (k := 1) (n := 6) (show 0 + 1 ≤ 1 by omega) (show 0 + 6 ≤ 6 by omega) ?_
  refine lv_astore (lv' := [(12, .ref v5), (0, .ref a0), (1, .int p1), (2, .long p2), (4, .long p3), (6, .long p4), (8, .long p5), (10, .long p6)]) hx hb d_B_cylinder_5 hl (by decide) rfl (fun ls hl => ?_)
  refine lv_lload_n hx hb d_B_cylinder_7 rfl (lv_at hl 3 rfl) ?_
  refine lv_lload hx hb d_B_cylinder_8 (lv_at hl 4 rfl) ?_
  obtain ⟨u6, e7⟩ := gsome h
  refine gw_callV e7 h (gw_runS (As := [.long p2, .long p3]) (rest := []) hx hb hml hown hT hK hZ hA hI (m_B_needPlace l hst D g0 p2 p3 w u6 e7) ce_B_needPlace wd_511 ⟨by decide, by decide⟩ rfl rfl hl.1 rfl (lv_room (Nat.le_of_ble_eq_true rfl)) d_B_cylinder_10 ⟨(show 1 + 2 ≤ 11 by omega), (show 6 + 12 ≤ 134 by omega)⟩) hI hA hexc (show 1 + 2 ≤ 11 by omega) (show 6 + 12 ≤ 134 by omega) (fun v8 w H locs h hI => ?_)
  refine W.widen (k := 3) (n := 18) (show 1 + 2 ≤ 3 by omega) (show 6 + 12 ≤ 18 by omega) ?_
  refine lv_lload hx hb d_B_cylinder_13 (lv_at hl 6 rfl) ?_
  obtain ⟨u9, e10⟩ := gsome h
  refine gw_callV e10 h (gw_runS (As := [.long p5]) (rest := []) hx hb hml hown hT hK hZ hA hI (m_B_needSize l hst D g0 p5 w u9 e10) ce_B_needSize wd_535 ⟨by decide, by decide⟩ rfl rfl hl.1 rfl (lv_room (Nat.le_of_ble_eq_true rfl)) d_B_cylinder_15 ⟨(show 3 + 1 ≤ 11 by omega), (show 18 + 6 ≤ 134 by omega)⟩) hI hA hexc (show 3 + 1 ≤ 11 by omega) (show 18 + 6 ≤ 134 by omega) (fun v11 w H locs h hI => ?_)
  refine W.widen (k := 4) (n := 24) (show 3 + 1 ≤ 4 by omega) (show 18 + 6 ≤ 24 by omega) ?_
  refine lv_lload hx hb d_B_cylinder_18 (lv_at hl 5 rfl) ?_
  refine lv_lload hx hb d_B_cylinder_20 (lv_at hl 7 rfl) ?_
  obtain ⟨u12, e13⟩ := gsome h
  refine gw_callV e13 h (gw_runS (As := [.long p4, .long p6]) (rest := []) hx hb hml hown hT hK hZ hA hI (m_B_needUpright l hst D g0 p4 p6 w u12 e13) ce_B_needUpright wd_538 ⟨by decide, by decide⟩ rfl rfl hl.1 rfl (lv_room (Nat.le_of_ble_eq_true rfl)) d_B_cylinder_22 ⟨(show 4 + 3 ≤ 11 by omega), (show 24 + 18 ≤ 134 by omega)⟩) hI hA hexc (show 4 + 3 ≤ 11 by omega) (show 24 + 18 ≤ 134 by omega) (fun v14 w H locs h hI => ?_)
  refine W.widen (k := 7) (n := 42) (show 4 + 3 ≤ 7 by omega) (show 24 + 18 ≤ 42 by omega) ?_
  refine lv_aload hx hb d_B_cylinder_25 (lv_at hl 0 rfl) ?_
  obtain ⟨q17, e18, h⟩ := gb h
  obtain ⟨u15, e16⟩ := gsome h
  refine gw_callI e16 h (gw_runV (As := []) (rest := []) hx hb hml hown hT hK hZ hA hI (ci := 4) rfl e18 (m_By_isFull l hst D g0 v5 w u15 e16) ce_By_isFull wd_541 wd_543 ⟨by decide, by decide⟩ rfl rfl hl.1 rfl (lv_room (Nat.le_of_ble_eq_true rfl)) d_B_cylinder_27 ⟨(show 7 + 0 ≤ 11 by omega), (show 42 + 0 ≤ 134 by omega)⟩) hI hA hexc (show 7 + 0 ≤ 11 by omega) (show 42 + 0 ≤ 134 by omega) (fun v19 w H locs h hI => ?_)
  refine lv_if_eq (tgt := 35) hx hb d_B_cylinder_30 (by decide) (fun c20 => ?_) (fun c20 => ?_)
  · skip
    have h := git c20 h
    obtain ⟨o21, w, e22, h⟩ := gb2 h
    refine gw_new hx hb hT hown hK hI hA (ci := 3) rfl i_3 t_3 t_3_ok wd_546 wd_124 wd_56 (fs := [.int 0, .long 0, .long 0, .null, .null, .int 0, .long 0, .long 0, .long 0, .long 0, .long 0, .long 0]) df_3 e22 (show 7 + 1 ≤ 11 by omega) (show 42 + 12 ≤ 134 by omega) d_B_cylinder_35 (fun H hI => ?_)
    refine W.widen (k := 8) (n := 54) (show 7 + 1 ≤ 8 by omega) (show 42 + 12 ≤ 54 by omega) ?_
    refine lv_dup hx hb d_B_cylinder_38 rfl ?_
    obtain ⟨u23, e24⟩ := gsome h
    refine gw_callV e24 h (gw_runIN (As := []) (rest := [.ref o21]) hx hb hml hown hT hK hZ hA hI (m_So_init l hst D g0 o21 w u23 e24) ce_So_init wd_547 rfl ⟨by decide, by decide⟩ rfl rfl hl.1 rfl (lv_room (Nat.le_of_ble_eq_true rfl)) d_B_cylinder_39 ⟨(show 8 + 2 ≤ 11 by omega), (show 54 + 16 ≤ 134 by omega)⟩) hI hA hexc (show 8 + 2 ≤ 11 by omega) (show 54 + 16 ≤ 134 by omega) (fun v25 w H locs h hI => ?_)
    refine W.widen (k := 10) (n := 70) (show 8 + 2 ≤ 10 by omega) (show 54 + 16 ≤ 70 by omega) ?_
    refine lv_astore (lv' := [(13, .ref o21), (12, .ref v5), (0, .ref a0), (1, .int p1), (2, .long p2), (4, .long p3), (6, .long p4), (8, .long p5), (10, .long p6)]) hx hb d_B_cylinder_42 hl (by decide) rfl (fun ls hl => ?_)
    refine lv_aload hx hb d_B_cylinder_44 (lv_at hl 0 rfl) ?_
    refine lv_iconst (v := 1) hx hb d_B_cylinder_46 (by decide) ?_
    refine lv_lload hx hb d_B_cylinder_47 (lv_at hl 7 rfl) ?_
    refine lv_lconst (v := 0) hx hb d_B_cylinder_49 (by decide) ?_
    obtain ⟨q28, e29, h⟩ := gb h
    obtain ⟨u26, e27⟩ := gsome h
    refine gw_callV e27 h (gw_runV (As := [.int 1, .long p5, .long 0]) (rest := []) hx hb hml hown hT hK hZ hA hI (ci := 3) rfl e29 (m_So_begin l hst D g0 o21 1 p5 0 w u26 e27) ce_So_begin wd_548 wd_349 ⟨by decide, by decide⟩ rfl rfl hl.1 rfl (lv_room (Nat.le_of_ble_eq_true rfl)) d_B_cylinder_50 ⟨(show 10 + 0 ≤ 11 by omega), (show 70 + 0 ≤ 134 by omega)⟩) hI hA hexc (show 10 + 0 ≤ 11 by omega) (show 70 + 0 ≤ 134 by omega) (fun v30 w H locs h hI => ?_)
    refine lv_aload hx hb d_B_cylinder_53 (lv_at hl 0 rfl) ?_
    refine lv_lload_n hx hb d_B_cylinder_55 rfl (lv_at hl 4 rfl) ?_
    refine lv_lload hx hb d_B_cylinder_56 (lv_at hl 5 rfl) ?_
    obtain ⟨q33, e34, h⟩ := gb h
    obtain ⟨u31, e32⟩ := gsome h
    refine gw_callV e32 h (gw_runV (As := [.long p2, .long p3]) (rest := []) hx hb hml hown hT hK hZ hA hI (ci := 3) rfl e34 (m_So_addCorner l hst D g0 o21 p2 p3 w u31 e32) ce_So_addCorner wd_575 wd_361 ⟨by decide, by decide⟩ rfl rfl hl.1 rfl (lv_room (Nat.le_of_ble_eq_true rfl)) d_B_cylinder_58 ⟨(show 10 + 0 ≤ 11 by omega), (show 70 + 0 ≤ 134 by omega)⟩) hI hA hexc (show 10 + 0 ≤ 11 by omega) (show 70 + 0 ≤ 134 by omega) (fun v35 w H locs h hI => ?_)
    refine lv_aload hx hb d_B_cylinder_61 (lv_at hl 0 rfl) ?_
    refine lv_lload hx hb d_B_cylinder_63 (lv_at hl 6 rfl) ?_
    refine lv_lload hx hb d_B_cylinder_65 (lv_at hl 6 rfl) ?_
    refine lv_lload hx hb d_B_cylinder_67 (lv_at hl 8 rfl) ?_
    refine lv_ladd hx hb d_B_cylinder_69 ?_
    obtain ⟨q38, e39, h⟩ := gb h
    obtain ⟨u36, e37⟩ := gsome h
    refine gw_callV e37 h (gw_runV (As := [.long p4, .long (p4 + p6)]) (rest := []) hx hb hml hown hT hK hZ hA hI (ci := 3) rfl e39 (m_So_setHeights l hst D g0 o21 p4 (p4 + p6) w u36 e37) ce_So_setHeights wd_553 wd_367 ⟨by decide, by decide⟩ rfl rfl hl.1 rfl (lv_room (Nat.le_of_ble_eq_true rfl)) d_B_cylinder_70 ⟨(show 10 + 0 ≤ 11 by omega), (show 70 + 0 ≤ 134 by omega)⟩) hI hA hexc (show 10 + 0 ≤ 11 by omega) (show 70 + 0 ≤ 134 by omega) (fun v40 w H locs h hI => ?_)
    refine lv_aload hx hb d_B_cylinder_73 (lv_at hl 1 rfl) ?_
    refine lv_aload hx hb d_B_cylinder_75 (lv_at hl 0 rfl) ?_
    refine lv_ldc2 (v := 710) hx hb hown (hT _ wd_576 args) d_B_cylinder_77 ?_
    refine lv_lload hx hb d_B_cylinder_80 (lv_at hl 7 rfl) ?_
    refine lv_lmul hx hb d_B_cylinder_82 ?_
    refine lv_lload hx hb d_B_cylinder_83 (lv_at hl 7 rfl) ?_
    refine lv_lmul hx hb d_B_cylinder_85 ?_
    refine lv_lload hx hb d_B_cylinder_86 (lv_at hl 8 rfl) ?_
    refine lv_lmul hx hb d_B_cylinder_88 ?_
    obtain ⟨q43, e44, h⟩ := gb h
    obtain ⟨u41, e42⟩ := gsome h
    refine gw_callV e42 h (gw_runV (As := [.ref o21, .long (((710 * p5) * p5) * p6)]) (rest := []) hx hb hml hown hT hK hZ hA hI (ci := 4) rfl e44 (m_By_add l hst D g0 v5 o21 (((710 * p5) * p5) * p6) w u41 e42) ce_By_add wd_555 wd_557 ⟨by decide, by decide⟩ rfl rfl hl.1 rfl (lv_room (Nat.le_of_ble_eq_true rfl)) d_B_cylinder_89 ⟨(show 10 + 1 ≤ 11 by omega), (show 70 + 64 ≤ 134 by omega)⟩) hI hA hexc (show 10 + 1 ≤ 11 by omega) (show 70 + 64 ≤ 134 by omega) (fun v45 w H locs h hI => ?_)
    refine W.widen (k := 11) (n := 134) (show 10 + 1 ≤ 11 by omega) (show 70 + 64 ≤ 134 by omega) ?_
    refine lv_aload_n hx hb d_B_cylinder_92 rfl (lv_at hl 2 rfl) ?_
    refine lv_aload hx hb d_B_cylinder_93 (lv_at hl 1 rfl) ?_
    obtain ⟨q48, e49, h⟩ := gb h
    obtain ⟨u46, e47⟩ := gsome h
    refine gw_callV e47 h (gw_runV (As := [.ref v5]) (rest := []) hx hb hml hown hT hK hZ hA hI (ci := 0) rfl e49 (m_B_forgetRelationsOf l hst D g0 a0 v5 w u46 e47) ce_B_forgetRelationsOf wd_560 wd_9 ⟨by decide, by decide⟩ rfl rfl hl.1 rfl (lv_room (Nat.le_of_ble_eq_true rfl)) d_B_cylinder_95 ⟨(show 11 + 0 ≤ 11 by omega), (show 134 + 0 ≤ 134 by omega)⟩) hI hA hexc (show 11 + 0 ≤ 11 by omega) (show 134 + 0 ≤ 134 by omega) (fun v50 w H locs h hI => ?_)
    refine lv_iconst (v := 1) hx hb d_B_cylinder_98 (by decide) ?_
    obtain ⟨g51, h⟩ := gif h
    exact W.widen (show 11 ≤ 11 by omega) (show 134 ≤ 134 by omega) (hret g51 0 _ (Option.some.inj h).symm _ _ _ _ d_B_cylinder_99 hI)
  · skip
    have h := gie c20 h
    refine lv_iconst (v := 0) hx hb d_B_cylinder_33 (by decide) ?_
    obtain ⟨g52, h⟩ := gif h
    exact W.widen (show 7 ≤ 11 by omega) (show 42 ≤ 134 by omega) (hret g52 0 _ (Option.some.inj h).symm _ _ _ _ d_B_cylinder_34 hI)

abbrev b_B_join : ByteArray := prog_1_method_8_code
def y_B_join : MethodName := ⟨"BodySolids", "join", "(II)I"⟩
theorem d_B_join_0 : decode b_B_join 0 = .ok (.aload_n 0, 1) := by decide +kernel
theorem d_B_join_1 : decode b_B_join 1 = .ok (.iload_n 1, 1) := by decide +kernel
theorem d_B_join_2 : decode b_B_join 2 = .ok (.invokevirtual 79, 3) := by decide +kernel
theorem d_B_join_5 : decode b_B_join 5 = .ok (.astore_n 3, 1) := by decide +kernel
theorem d_B_join_6 : decode b_B_join 6 = .ok (.aload_n 0, 1) := by decide +kernel
theorem d_B_join_7 : decode b_B_join 7 = .ok (.iload_n 2, 1) := by decide +kernel
theorem d_B_join_8 : decode b_B_join 8 = .ok (.invokevirtual 79, 3) := by decide +kernel
theorem d_B_join_11 : decode b_B_join 11 = .ok (.astore 4, 2) := by decide +kernel
theorem d_B_join_13 : decode b_B_join 13 = .ok (.aload_n 0, 1) := by decide +kernel
theorem d_B_join_14 : decode b_B_join 14 = .ok (.getfield 27, 3) := by decide +kernel
theorem d_B_join_17 : decode b_B_join 17 = .ok (.invokevirtual 68, 3) := by decide +kernel
theorem d_B_join_20 : decode b_B_join 20 = .ok (.bipush 30, 2) := by decide +kernel
theorem d_B_join_22 : decode b_B_join 22 = .ok (.if_icmp .ge 24, 3) := by decide +kernel
theorem d_B_join_25 : decode b_B_join 25 = .ok (.aload_n 3, 1) := by decide +kernel
theorem d_B_join_26 : decode b_B_join 26 = .ok (.getfield 154, 3) := by decide +kernel
theorem d_B_join_29 : decode b_B_join 29 = .ok (.invokevirtual 68, 3) := by decide +kernel
theorem d_B_join_32 : decode b_B_join 32 = .ok (.aload 4, 2) := by decide +kernel
theorem d_B_join_34 : decode b_B_join 34 = .ok (.getfield 154, 3) := by decide +kernel
theorem d_B_join_37 : decode b_B_join 37 = .ok (.invokevirtual 68, 3) := by decide +kernel
theorem d_B_join_40 : decode b_B_join 40 = .ok (.iadd, 1) := by decide +kernel
theorem d_B_join_41 : decode b_B_join 41 = .ok (.bipush 12, 2) := by decide +kernel
theorem d_B_join_43 : decode b_B_join 43 = .ok (.if_icmp .le 5, 3) := by decide +kernel
theorem d_B_join_46 : decode b_B_join 46 = .ok (.iconst (-1), 1) := by decide +kernel
theorem d_B_join_47 : decode b_B_join 47 = .ok (.ireturn, 1) := by decide +kernel
theorem d_B_join_48 : decode b_B_join 48 = .ok (.new 72, 3) := by decide +kernel
theorem d_B_join_51 : decode b_B_join 51 = .ok (.dup, 1) := by decide +kernel
theorem d_B_join_52 : decode b_B_join 52 = .ok (.invokespecial 74, 3) := by decide +kernel
theorem d_B_join_55 : decode b_B_join 55 = .ok (.astore 5, 2) := by decide +kernel
theorem d_B_join_57 : decode b_B_join 57 = .ok (.aload 5, 2) := by decide +kernel
theorem d_B_join_59 : decode b_B_join 59 = .ok (.aload_n 3, 1) := by decide +kernel
theorem d_B_join_60 : decode b_B_join 60 = .ok (.invokevirtual 157, 3) := by decide +kernel
theorem d_B_join_63 : decode b_B_join 63 = .ok (.aload 5, 2) := by decide +kernel
theorem d_B_join_65 : decode b_B_join 65 = .ok (.aload 4, 2) := by decide +kernel
theorem d_B_join_67 : decode b_B_join 67 = .ok (.invokevirtual 157, 3) := by decide +kernel
theorem d_B_join_70 : decode b_B_join 70 = .ok (.aload_n 0, 1) := by decide +kernel
theorem d_B_join_71 : decode b_B_join 71 = .ok (.aload 5, 2) := by decide +kernel
theorem d_B_join_73 : decode b_B_join 73 = .ok (.invokevirtual 75, 3) := by decide +kernel
theorem d_B_join_76 : decode b_B_join 76 = .ok (.ireturn, 1) := by decide +kernel
abbrev rm_B_join : Room := { frames := 9, cells := 31, slots := 1745, locals := 201 }
theorem ce_B_join : gCe y_B_join (.code y_B_join b_B_join 6 (some .int)) 6 2 false := gCe.code wd_628 wd_49 wd_626 (by decide) (by decide +kernel)
def f_B_join (g0 : gG) (a0 : Nat) (p1 : Int32) (p2 : Int32) (w : gW) : gX Int32 := (gck w a0 0).bind fun _ => gbind (f_B_bodyAt g0 a0 p1 w) fun v5 w => (gck w a0 0).bind fun _ => gbind (f_B_bodyAt g0 a0 p2 w) fun v10 w => (gfA w a0 0 1).bind fun v11 => (gck w v11 1).bind fun _ => gbind (f_AL_size g0 v11 w) fun v17 w => gjoin (fun K46 => if 30 ≤ v17 then (K46 w) else ((gfA w v5 4 0).bind fun v19 => (gck w v19 1).bind fun _ => gbind (f_AL_size g0 v19 w) fun v25 w => (gfA w v10 4 0).bind fun v26 => (gck w v26 1).bind fun _ => gbind (f_AL_size g0 v26 w) fun v32 w => if (v25 + v32) ≤ 12 then (gb2f (gnw w 4 [.null, .long 0]) fun o34 w => gbind (f_By_init g0 o34 w) fun v38 w => (gck w o34 4).bind fun _ => gbind (f_By_addAllOf g0 o34 v5 w) fun v43 w => (gck w o34 4).bind fun _ => gbind (f_By_addAllOf g0 o34 v10 w) fun v48 w => (gck w a0 0).bind fun _ => gbind (f_B_addBody g0 a0 o34 w) fun v53 w => some (.inr v53, w)) else (K46 w))) (fun (w : gW) => some (.inr (-1), w))
set_option maxHeartbeats 4000000 in
set_option maxRecDepth 100000 in
theorem m_B_join (l : Launch) (hst : l.stackTraces = false) (D : gD) (g0 : gG) (a0 : Nat) (p1 : Int32) (p2 : Int32) (w : gW) (r : (String ⊕ Int32) × gW) (h : f_B_join g0 a0 p1 p2 w = some r) : gMet l y_B_join (.code y_B_join b_B_join 6 (some .int)) rm_B_join D g0 [.ref a0, .int p1, .int p2] w (goI r) := by
  refine gw_ofI (by decide +kernel) (Nat.le_of_ble_eq_true rfl) ?_
  intro p e s m below meth c ls args A Q hx hb hml hown hlocks hin hnt hT hK hZ hA hret hexc hthr hI hl
  obtain ⟨H, hH⟩ : ∃ H, H = s.heap := ⟨_, rfl⟩
  rw [← hH] at hI ⊢
  obtain ⟨locs, hlocs⟩ : ∃ z : List Loc, z = [] := ⟨_, rfl⟩
  rw [← hlocs] at hI ⊢
  have hl : lv_has ls 6 [(0, .ref a0), (1, .int p1), (2, .int p2)] := hl
  unfold f_B_join at h
  refine lv_aload_n hx hb d_B_join_0 rfl (lv_at hl 0 rfl) ?_
  refine lv_iload_n hx hb d_B_join_1 rfl (lv_at hl 1 rfl) ?_
  obtain ⟨q3, e4, h⟩ := gb h
  obtain ⟨u1, e2⟩ := gsome h
  refine gw_callA e2 h (gw_runV (As := [.int p1]) (rest := []) hx hb hml hown hT hK hZ hA hI (ci := 0) rfl e4 (m_B_bodyAt l hst D g0 a0 p1 w u1 e2) ce_B_bodyAt wd_436 wd_7 ⟨by decide, by decide⟩ rfl rfl hl.1 rfl (lv_room (Nat.le_of_ble_eq_true rfl)) d_B_join_2 ⟨(show 0 + 1 ≤ 31 by omega), (show 0 + 6 ≤ 1745 by omega)⟩) hI hA hexc (show 0 + 1 ≤ 31 by omega) (show 0 + 6 ≤ 1745 by omega) (fun v5 w H locs h hI => ?_)
  refine W.widen (k := 1) (n := 6) (show 0 + 1 ≤ 1 by omega) (show 0 + 6 ≤ 6 by omega) ?_
  refine lv_astore_n (lv' := [(3, .ref v5), (0, .ref a0), (1, .int p1), (2, .int p2)]) hx hb d_B_join_5 rfl hl (by decide) rfl (fun ls hl => ?_)
  refine lv_aload_n hx hb d_B_join_6 rfl (lv_at hl 1 rfl) ?_
  refine lv_iload_n hx hb d_B_join_7 rfl (lv_at hl 3 rfl) ?_
  obtain ⟨q8, e9, h⟩ := gb h
  obtain ⟨u6, e7⟩ := gsome h
  refine gw_callA e7 h (gw_runV (As := [.int p2]) (rest := []) hx hb hml hown hT hK hZ hA hI (ci := 0) rfl e9 (m_B_bodyAt l hst D g0 a0 p2 w u6 e7) ce_B_bodyAt wd_436 wd_7 ⟨by decide, by decide⟩ rfl rfl hl.1 rfl (lv_room (Nat.le_of_ble_eq_true rfl)) d_B_join_8 ⟨(show 1 + 1 ≤ 31 by omega), (show 6 + 6 ≤ 1745 by omega)⟩) hI hA hexc (show 1 + 1 ≤ 31 by omega) (show 6 + 6 ≤ 1745 by omega) (fun v10 w H locs h hI => ?_)
  refine W.widen (k := 2) (n := 12) (show 1 + 1 ≤ 2 by omega) (show 6 + 6 ≤ 12 by omega) ?_
  refine lv_astore (lv' := [(4, .ref v10), (3, .ref v5), (0, .ref a0), (1, .int p1), (2, .int p2)]) hx hb d_B_join_11 hl (by decide) rfl (fun ls hl => ?_)
  refine lv_aload_n hx hb d_B_join_13 rfl (lv_at hl 2 rfl) ?_
  obtain ⟨v11, e12, h⟩ := gb h
  refine gw_getA hx hb hT hown hK hI (ci := 0) rfl i_0 1 (by decide) wd_190 (fun _ h9 => h9) e12 d_B_join_14 ?_
  obtain ⟨q15, e16, h⟩ := gb h
  obtain ⟨u13, e14⟩ := gsome h
  refine gw_callI e14 h (gw_runV (As := []) (rest := []) hx hb hml hown hT hK hZ hA hI (ci := 1) rfl e16 (m_AL_size l hst D g0 v11 w u13 e14) ce_AL_size wd_224 wd_226 ⟨by decide, by decide⟩ rfl rfl hl.1 rfl (lv_room (Nat.le_of_ble_eq_true rfl)) d_B_join_17 ⟨(show 2 + 0 ≤ 31 by omega), (show 12 + 0 ≤ 1745 by omega)⟩) hI hA hexc (show 2 + 0 ≤ 31 by omega) (show 12 + 0 ≤ 1745 by omega) (fun v17 w H locs h hI => ?_)
  refine lv_bipush (v := 30) hx hb d_B_join_20 (by decide) ?_
  obtain ⟨K46, eK46, h⟩ := gj h
  have hK46 : ∀ (w : gW) (H : Heap) (locs : List Loc) (ls : Array Slot), K46 w = some r → gI D s A w H locs → lv_has ls 6 [] → W p l e rm_B_join s m args below meth c H locs 2 12 Q (F0 m 46 ls []) := by
    intro w H locs ls h hI hl
    have h := gk1 eK46 h
    refine lv_iconst (v := -1) hx hb d_B_join_46 (by decide) ?_
    exact W.widen (show 2 ≤ 31 by omega) (show 12 ≤ 1745 by omega) (hret _ _ (Option.some.inj h).symm _ _ _ _ d_B_join_47 hI)
  refine lv_icmp_ge (tgt := 46) hx hb d_B_join_22 (by decide) (fun c18 => ?_) (fun c18 => ?_)
  · skip
    have h := git c18 h
    exact hK46 w H locs ls h hI (lv_sub hl [] rfl)
  · skip
    have h := gie c18 h
    refine lv_aload_n hx hb d_B_join_25 rfl (lv_at hl 1 rfl) ?_
    obtain ⟨v19, e20, h⟩ := gb h
    refine gw_getA hx hb hT hown hK hI (ci := 4) rfl i_4 0 (by decide) wd_238 (fun _ h9 => h9) e20 d_B_join_26 ?_
    obtain ⟨q23, e24, h⟩ := gb h
    obtain ⟨u21, e22⟩ := gsome h
    refine gw_callI e22 h (gw_runV (As := []) (rest := []) hx hb hml hown hT hK hZ hA hI (ci := 1) rfl e24 (m_AL_size l hst D g0 v19 w u21 e22) ce_AL_size wd_224 wd_226 ⟨by decide, by decide⟩ rfl rfl hl.1 rfl (lv_room (Nat.le_of_ble_eq_true rfl)) d_B_join_29 ⟨(show 2 + 0 ≤ 31 by omega), (show 12 + 0 ≤ 1745 by omega)⟩) hI hA hexc (show 2 + 0 ≤ 31 by omega) (show 12 + 0 ≤ 1745 by omega) (fun v25 w H locs h hI => ?_)
    refine lv_aload hx hb d_B_join_32 (lv_at hl 0 rfl) ?_
    obtain ⟨v26, e27, h⟩ := gb h
    refine gw_getA hx hb hT hown hK hI (ci := 4) rfl i_4 0 (by decide) wd_238 (fun _ h9 => h9) e27 d_B_join_34 ?_
    obtain ⟨q30, e31, h⟩ := gb h
    obtain ⟨u28, e29⟩ := gsome h
    refine gw_callI e29 h (gw_runV (As := []) (rest := [.int v25]) hx hb hml hown hT hK hZ hA hI (ci := 1) rfl e31 (m_AL_size l hst D g0 v26 w u28 e29) ce_AL_size wd_224 wd_226 ⟨by decide, by decide⟩ rfl rfl hl.1 rfl (lv_room (Nat.le_of_ble_eq_true rfl)) d_B_join_37 ⟨(show 2 + 0 ≤ 31 by omega), (show 12 + 0 ≤ 1745 by omega)⟩) hI hA hexc (show 2 + 0 ≤ 31 by omega) (show 12 + 0 ≤ 1745 by omega) (fun v32 w H locs h hI => ?_)
    refine lv_iadd hx hb d_B_join_40 ?_
    refine lv_bipush (v := 12) hx hb d_B_join_41 (by decide) ?_
    refine lv_icmp_le (tgt := 48) hx hb d_B_join_43 (by decide) (fun c33 => ?_) (fun c33 => ?_)
    · skip
      have h := git c33 h
      obtain ⟨o34, w, e35, h⟩ := gb2 h
      refine gw_new hx hb hT hown hK hI hA (ci := 4) rfl i_4 t_4 t_4_ok wd_228 wd_229 wd_58 (fs := [.null, .long 0]) df_4 e35 (show 2 + 1 ≤ 31 by omega) (show 12 + 2 ≤ 1745 by omega) d_B_join_48 (fun H hI => ?_)
      refine W.widen (k := 3) (n := 14) (show 2 + 1 ≤ 3 by omega) (show 12 + 2 ≤ 14 by omega) ?_
      refine lv_dup hx hb d_B_join_51 rfl ?_
      obtain ⟨u36, e37⟩ := gsome h
      refine gw_callV e37 h (gw_runIN (As := []) (rest := [.ref o34]) hx hb hml hown hT hK hZ hA hI (m_By_init l hst D g0 o34 w u36 e37) ce_By_init wd_230 rfl ⟨by decide, by decide⟩ rfl rfl hl.1 rfl (lv_room (Nat.le_of_ble_eq_true rfl)) d_B_join_52 ⟨(show 3 + 1 ≤ 31 by omega), (show 14 + 3 ≤ 1745 by omega)⟩) hI hA hexc (show 3 + 1 ≤ 31 by omega) (show 14 + 3 ≤ 1745 by omega) (fun v38 w H locs h hI => ?_)
      refine W.widen (k := 4) (n := 17) (show 3 + 1 ≤ 4 by omega) (show 14 + 3 ≤ 17 by omega) ?_
      refine lv_astore (lv' := [(5, .ref o34), (4, .ref v10), (3, .ref v5), (0, .ref a0), (1, .int p1), (2, .int p2)]) hx hb d_B_join_55 hl (by decide) rfl (fun ls hl => ?_)
      refine lv_aload hx hb d_B_join_57 (lv_at hl 0 rfl) ?_
      refine lv_aload_n hx hb d_B_join_59 rfl (lv_at hl 2 rfl) ?_
      obtain ⟨q41, e42, h⟩ := gb h
      obtain ⟨u39, e40⟩ := gsome h
      refine gw_callV e40 h (gw_runV (As := [.ref v5]) (rest := []) hx hb hml hown hT hK hZ hA hI (ci := 4) rfl e42 (m_By_addAllOf l hst D g0 o34 v5 w u39 e40) ce_By_addAllOf wd_629 wd_631 ⟨by decide, by decide⟩ rfl rfl hl.1 rfl (lv_room (Nat.le_of_ble_eq_true rfl)) d_B_join_60 ⟨(show 4 + 13 ≤ 31 by omega), (show 17 + 832 ≤ 1745 by omega)⟩) hI hA hexc (show 4 + 13 ≤ 31 by omega) (show 17 + 832 ≤ 1745 by omega) (fun v43 w H locs h hI => ?_)
      refine W.widen (k := 17) (n := 849) (show 4 + 13 ≤ 17 by omega) (show 17 + 832 ≤ 849 by omega) ?_
      refine lv_aload hx hb d_B_join_63 (lv_at hl 0 rfl) ?_
      refine lv_aload hx hb d_B_join_65 (lv_at hl 1 rfl) ?_
      obtain ⟨q46, e47, h⟩ := gb h
      obtain ⟨u44, e45⟩ := gsome h
      refine gw_callV e45 h (gw_runV (As := [.ref v10]) (rest := []) hx hb hml hown hT hK hZ hA hI (ci := 4) rfl e47 (m_By_addAllOf l hst D g0 o34 v10 w u44 e45) ce_By_addAllOf wd_629 wd_631 ⟨by decide, by decide⟩ rfl rfl hl.1 rfl (lv_room (Nat.le_of_ble_eq_true rfl)) d_B_join_67 ⟨(show 17 + 13 ≤ 31 by omega), (show 849 + 832 ≤ 1745 by omega)⟩) hI hA hexc (show 17 + 13 ≤ 31 by omega) (show 849 + 832 ≤ 1745 by omega) (fun v48 w H locs h hI => ?_)
      refine W.widen (k := 30) (n := 1681) (show 17 + 13 ≤ 30 by omega) (show 849 + 832 ≤ 1681 by omega) ?_
      refine lv_aload_n hx hb d_B_join_70 rfl (lv_at hl 3 rfl) ?_
      refine lv_aload hx hb d_B_join_71 (lv_at hl 0 rfl) ?_
      obtain ⟨q51, e52, h⟩ := gb h
      obtain ⟨u49, e50⟩ := gsome h
      refine gw_callI e50 h (gw_runV (As := [.ref o34]) (rest := []) hx hb hml hown hT hK hZ hA hI (ci := 0) rfl e52 (m_B_addBody l hst D g0 a0 o34 w u49 e50) ce_B_addBody wd_246 wd_0 ⟨by decide, by decide⟩ rfl rfl hl.1 rfl (lv_room (Nat.le_of_ble_eq_true rfl)) d_B_join_73 ⟨(show 30 + 1 ≤ 31 by omega), (show 1681 + 64 ≤ 1745 by omega)⟩) hI hA hexc (show 30 + 1 ≤ 31 by omega) (show 1681 + 64 ≤ 1745 by omega) (fun v53 w H locs h hI => ?_)
      refine W.widen (k := 31) (n := 1745) (show 30 + 1 ≤ 31 by omega) (show 1681 + 64 ≤ 1745 by omega) ?_
      exact W.widen (show 31 ≤ 31 by omega) (show 1745 ≤ 1745 by omega) (hret _ _ (Option.some.inj h).symm _ _ _ _ d_B_join_76 hI)
    · skip
      have h := gie c33 h
      exact hK46 w H locs ls h hI (lv_sub hl [] rfl)

abbrev b_B_keepOut : ByteArray := prog_1_method_14_code
def y_B_keepOut : MethodName := ⟨"BodySolids", "keepOut", "(JJJJIJ)Z"⟩
theorem d_B_keepOut_0 : decode b_B_keepOut 0 = .ok (.lload_n 1, 1) := by decide +kernel
theorem d_B_keepOut_1 : decode b_B_keepOut 1 = .ok (.ldc2_w 194, 3) := by decide +kernel
theorem d_B_keepOut_4 : decode b_B_keepOut 4 = .ok (.ldc2_w 196, 3) := by decide +kernel
theorem d_B_keepOut_7 : decode b_B_keepOut 7 = .ok (.invokestatic 138, 3) := by decide +kernel
theorem d_B_keepOut_10 : decode b_B_keepOut 10 = .ok (.lload_n 3, 1) := by decide +kernel
theorem d_B_keepOut_11 : decode b_B_keepOut 11 = .ok (.ldc2_w 194, 3) := by decide +kernel
theorem d_B_keepOut_14 : decode b_B_keepOut 14 = .ok (.ldc2_w 196, 3) := by decide +kernel
theorem d_B_keepOut_17 : decode b_B_keepOut 17 = .ok (.invokestatic 138, 3) := by decide +kernel
theorem d_B_keepOut_20 : decode b_B_keepOut 20 = .ok (.lload 5, 2) := by decide +kernel
theorem d_B_keepOut_22 : decode b_B_keepOut 22 = .ok (.lload_n 1, 1) := by decide +kernel
theorem d_B_keepOut_23 : decode b_B_keepOut 23 = .ok (.lconst 1, 1) := by decide +kernel
theorem d_B_keepOut_24 : decode b_B_keepOut 24 = .ok (.ladd, 1) := by decide +kernel
theorem d_B_keepOut_25 : decode b_B_keepOut 25 = .ok (.ldc2_w 196, 3) := by decide +kernel
theorem d_B_keepOut_28 : decode b_B_keepOut 28 = .ok (.invokestatic 138, 3) := by decide +kernel
theorem d_B_keepOut_31 : decode b_B_keepOut 31 = .ok (.lload 7, 2) := by decide +kernel
theorem d_B_keepOut_33 : decode b_B_keepOut 33 = .ok (.lload_n 3, 1) := by decide +kernel
theorem d_B_keepOut_34 : decode b_B_keepOut 34 = .ok (.lconst 1, 1) := by decide +kernel
theorem d_B_keepOut_35 : decode b_B_keepOut 35 = .ok (.ladd, 1) := by decide +kernel
theorem d_B_keepOut_36 : decode b_B_keepOut 36 = .ok (.ldc2_w 196, 3) := by decide +kernel
theorem d_B_keepOut_39 : decode b_B_keepOut 39 = .ok (.invokestatic 138, 3) := by decide +kernel
theorem d_B_keepOut_42 : decode b_B_keepOut 42 = .ok (.iload 9, 2) := by decide +kernel
theorem d_B_keepOut_44 : decode b_B_keepOut 44 = .ok (.i2l, 1) := by decide +kernel
theorem d_B_keepOut_45 : decode b_B_keepOut 45 = .ok (.lconst 0, 1) := by decide +kernel
theorem d_B_keepOut_46 : decode b_B_keepOut 46 = .ok (.lconst 1, 1) := by decide +kernel
theorem d_B_keepOut_47 : decode b_B_keepOut 47 = .ok (.invokestatic 138, 3) := by decide +kernel
theorem d_B_keepOut_50 : decode b_B_keepOut 50 = .ok (.lload 10, 2) := by decide +kernel
theorem d_B_keepOut_52 : decode b_B_keepOut 52 = .ok (.lconst 0, 1) := by decide +kernel
theorem d_B_keepOut_53 : decode b_B_keepOut 53 = .ok (.ldc2_w 196, 3) := by decide +kernel
theorem d_B_keepOut_56 : decode b_B_keepOut 56 = .ok (.invokestatic 138, 3) := by decide +kernel
theorem d_B_keepOut_59 : decode b_B_keepOut 59 = .ok (.aload_n 0, 1) := by decide +kernel
theorem d_B_keepOut_60 : decode b_B_keepOut 60 = .ok (.getfield 34, 3) := by decide +kernel
theorem d_B_keepOut_63 : decode b_B_keepOut 63 = .ok (.invokevirtual 68, 3) := by decide +kernel
theorem d_B_keepOut_66 : decode b_B_keepOut 66 = .ok (.bipush 10, 2) := by decide +kernel
theorem d_B_keepOut_68 : decode b_B_keepOut 68 = .ok (.if_icmp .lt 5, 3) := by decide +kernel
theorem d_B_keepOut_71 : decode b_B_keepOut 71 = .ok (.iconst 0, 1) := by decide +kernel
theorem d_B_keepOut_72 : decode b_B_keepOut 72 = .ok (.ireturn, 1) := by decide +kernel
theorem d_B_keepOut_73 : decode b_B_keepOut 73 = .ok (.new 98, 3) := by decide +kernel
theorem d_B_keepOut_76 : decode b_B_keepOut 76 = .ok (.dup, 1) := by decide +kernel
theorem d_B_keepOut_77 : decode b_B_keepOut 77 = .ok (.invokespecial 100, 3) := by decide +kernel
theorem d_B_keepOut_80 : decode b_B_keepOut 80 = .ok (.astore 12, 2) := by decide +kernel
theorem d_B_keepOut_82 : decode b_B_keepOut 82 = .ok (.aload 12, 2) := by decide +kernel
theorem d_B_keepOut_84 : decode b_B_keepOut 84 = .ok (.iconst 0, 1) := by decide +kernel
theorem d_B_keepOut_85 : decode b_B_keepOut 85 = .ok (.lconst 0, 1) := by decide +kernel
theorem d_B_keepOut_86 : decode b_B_keepOut 86 = .ok (.lconst 0, 1) := by decide +kernel
theorem d_B_keepOut_87 : decode b_B_keepOut 87 = .ok (.invokevirtual 101, 3) := by decide +kernel
theorem d_B_keepOut_90 : decode b_B_keepOut 90 = .ok (.aload 12, 2) := by decide +kernel
theorem d_B_keepOut_92 : decode b_B_keepOut 92 = .ok (.lload_n 1, 1) := by decide +kernel
theorem d_B_keepOut_93 : decode b_B_keepOut 93 = .ok (.lload_n 3, 1) := by decide +kernel
theorem d_B_keepOut_94 : decode b_B_keepOut 94 = .ok (.lload 5, 2) := by decide +kernel
theorem d_B_keepOut_96 : decode b_B_keepOut 96 = .ok (.lload 7, 2) := by decide +kernel
theorem d_B_keepOut_98 : decode b_B_keepOut 98 = .ok (.invokevirtual 105, 3) := by decide +kernel
theorem d_B_keepOut_101 : decode b_B_keepOut 101 = .ok (.iload 9, 2) := by decide +kernel
theorem d_B_keepOut_103 : decode b_B_keepOut 103 = .ok (.ifCond .ne 19, 3) := by decide +kernel
theorem d_B_keepOut_106 : decode b_B_keepOut 106 = .ok (.aload 12, 2) := by decide +kernel
theorem d_B_keepOut_108 : decode b_B_keepOut 108 = .ok (.lload 10, 2) := by decide +kernel
theorem d_B_keepOut_110 : decode b_B_keepOut 110 = .ok (.lload 10, 2) := by decide +kernel
theorem d_B_keepOut_112 : decode b_B_keepOut 112 = .ok (.ldc2_w 198, 3) := by decide +kernel
theorem d_B_keepOut_115 : decode b_B_keepOut 115 = .ok (.ladd, 1) := by decide +kernel
theorem d_B_keepOut_116 : decode b_B_keepOut 116 = .ok (.invokevirtual 109, 3) := by decide +kernel
theorem d_B_keepOut_119 : decode b_B_keepOut 119 = .ok (.goto 28, 3) := by decide +kernel
theorem d_B_keepOut_122 : decode b_B_keepOut 122 = .ok (.aload 12, 2) := by decide +kernel
theorem d_B_keepOut_124 : decode b_B_keepOut 124 = .ok (.aload_n 0, 1) := by decide +kernel
theorem d_B_keepOut_125 : decode b_B_keepOut 125 = .ok (.getfield 20, 3) := by decide +kernel
theorem d_B_keepOut_128 : decode b_B_keepOut 128 = .ok (.lneg, 1) := by decide +kernel
theorem d_B_keepOut_129 : decode b_B_keepOut 129 = .ok (.lload 10, 2) := by decide +kernel
theorem d_B_keepOut_131 : decode b_B_keepOut 131 = .ok (.lsub, 1) := by decide +kernel
theorem d_B_keepOut_132 : decode b_B_keepOut 132 = .ok (.ldc2_w 198, 3) := by decide +kernel
theorem d_B_keepOut_135 : decode b_B_keepOut 135 = .ok (.lsub, 1) := by decide +kernel
theorem d_B_keepOut_136 : decode b_B_keepOut 136 = .ok (.aload_n 0, 1) := by decide +kernel
theorem d_B_keepOut_137 : decode b_B_keepOut 137 = .ok (.getfield 20, 3) := by decide +kernel
theorem d_B_keepOut_140 : decode b_B_keepOut 140 = .ok (.lneg, 1) := by decide +kernel
theorem d_B_keepOut_141 : decode b_B_keepOut 141 = .ok (.lload 10, 2) := by decide +kernel
theorem d_B_keepOut_143 : decode b_B_keepOut 143 = .ok (.lsub, 1) := by decide +kernel
theorem d_B_keepOut_144 : decode b_B_keepOut 144 = .ok (.invokevirtual 109, 3) := by decide +kernel
theorem d_B_keepOut_147 : decode b_B_keepOut 147 = .ok (.aload_n 0, 1) := by decide +kernel
theorem d_B_keepOut_148 : decode b_B_keepOut 148 = .ok (.getfield 34, 3) := by decide +kernel
theorem d_B_keepOut_151 : decode b_B_keepOut 151 = .ok (.new 200, 3) := by decide +kernel
theorem d_B_keepOut_154 : decode b_B_keepOut 154 = .ok (.dup, 1) := by decide +kernel
theorem d_B_keepOut_155 : decode b_B_keepOut 155 = .ok (.aload 12, 2) := by decide +kernel
theorem d_B_keepOut_157 : decode b_B_keepOut 157 = .ok (.iload 9, 2) := by decide +kernel
theorem d_B_keepOut_159 : decode b_B_keepOut 159 = .ok (.invokespecial 202, 3) := by decide +kernel
theorem d_B_keepOut_162 : decode b_B_keepOut 162 = .ok (.invokevirtual 171, 3) := by decide +kernel
theorem d_B_keepOut_165 : decode b_B_keepOut 165 = .ok (.pop, 1) := by decide +kernel
theorem d_B_keepOut_166 : decode b_B_keepOut 166 = .ok (.iconst 1, 1) := by decide +kernel
theorem d_B_keepOut_167 : decode b_B_keepOut 167 = .ok (.ireturn, 1) := by decide +kernel
abbrev rm_B_keepOut : Room := { frames := 8, cells := 11, slots := 130, locals := 179 }
theorem ce_B_keepOut : gCe y_B_keepOut (.code y_B_keepOut b_B_keepOut 13 (some .boolean)) 13 6 false := gCe.code wd_710 wd_49 wd_708 (by decide) (by decide +kernel)
def f_B_keepOut (g0 : gG) (a0 : Nat) (p1 : Int64) (p2 : Int64) (p3 : Int64) (p4 : Int64) (p5 : Int32) (p6 : Int64) (w : gW) : gX Int32 := gbind (f_B_needWithin g0 p1 (-20000) 20000 w) fun v3 w => gbind (f_B_needWithin g0 p2 (-20000) 20000 w) fun v6 w => gbind (f_B_needWithin g0 p3 (p1 + 1) 20000 w) fun v9 w => gbind (f_B_needWithin g0 p4 (p2 + 1) 20000 w) fun v12 w => gbind (f_B_needWithin g0 (p5.toInt64) 0 1 w) fun v15 w => gbind (f_B_needWithin g0 p6 0 20000 w) fun v18 w => (gfA w a0 0 3).bind fun v19 => (gck w v19 1).bind fun _ => gbind (f_AL_size g0 v19 w) fun v25 w => if v25 < 10 then (gb2f (gnw w 3 [.int 0, .long 0, .long 0, .null, .null, .int 0, .long 0, .long 0, .long 0, .long 0, .long 0, .long 0]) fun o27 w => gbind (f_So_init g0 o27 w) fun v31 w => (gck w o27 3).bind fun _ => gbind (f_So_begin g0 o27 0 0 0 w) fun v36 w => (gck w o27 3).bind fun _ => gbind (f_So_addRectangle g0 o27 p1 p2 p3 p4 w) fun v41 w => gjoin (fun K147 => if p5 = 0 then ((gck w o27 3).bind fun _ => gbind (f_So_setHeights g0 o27 p6 (p6 + 30000) w) fun v69 w => K147 w) else ((gfJ w a0 0 0).bind fun v56 => (gfJ w a0 0 0).bind fun v58 => (gck w o27 3).bind fun _ => gbind (f_So_setHeights g0 o27 (((-v56) - p6) - 30000) ((-v58) - p6) w) fun v64 w => K147 w)) (fun (w : gW) => (gfA w a0 0 3).bind fun v42 => gb2f (gnw w 6 [.null, .int 0]) fun o44 w => gbind (f_Ko_init g0 o44 o27 p5 w) fun v48 w => (gck w v42 1).bind fun _ => gbind (f_AL_add g0 v42 o44 w) fun v53 w => gguard ((1 : Int32) = 0 ∨ (1 : Int32) = 1) (some (.inr 1, w)))) else (gguard ((0 : Int32) = 0 ∨ (0 : Int32) = 1) (some (.inr 0, w)))
set_option maxHeartbeats 4000000 in
set_option maxRecDepth 100000 in
theorem m_B_keepOut (l : Launch) (hst : l.stackTraces = false) (D : gD) (g0 : gG) (a0 : Nat) (p1 : Int64) (p2 : Int64) (p3 : Int64) (p4 : Int64) (p5 : Int32) (p6 : Int64) (w : gW) (r : (String ⊕ Int32) × gW) (h : f_B_keepOut g0 a0 p1 p2 p3 p4 p5 p6 w = some r) : gMet l y_B_keepOut (.code y_B_keepOut b_B_keepOut 13 (some .boolean)) rm_B_keepOut D g0 [.ref a0, .long p1, .long p2, .long p3, .long p4, .int p5, .long p6] w (goI r) := by
  refine gw_ofZ (by decide +kernel) (Nat.le_of_ble_eq_true rfl) ?_
  intro p e s m below meth c ls args A Q hx hb hml hown hlocks hin hnt hT hK hZ hA hret hexc hthr hI hl
  obtain ⟨H, hH⟩ : ∃ H, H = s.heap := ⟨_, rfl⟩
  rw [← hH] at hI ⊢
  obtain ⟨locs, hlocs⟩ : ∃ z : List Loc, z = [] := ⟨_, rfl⟩
  rw [← hlocs] at hI ⊢
  have hl : lv_has ls 13 [(0, .ref a0), (1, .long p1), (3, .long p2), (5, .long p3), (7, .long p4), (9, .int p5), (10, .long p6)] := hl
  unfold f_B_keepOut at h
  refine lv_lload_n hx hb d_B_keepOut_0 rfl (lv_at hl 1 rfl) ?_
  refine lv_ldc2 (v := (-20000)) hx hb hown (hT _ wd_711 args) d_B_keepOut_1 ?_
  refine lv_ldc2 (v := 20000) hx hb hown (hT _ wd_712 args) d_B_keepOut_4 ?_
  obtain ⟨u1, e2⟩ := gsome h
  refine gw_callV e2 h (gw_runS (As := [.long p1, .long (-20000), .long 20000]) (rest := []) hx hb hml hown hT hK hZ hA hI (m_B_needWithin l hst D g0 p1 (-20000) 20000 w u1 e2) ce_B_needWithin wd_516 ⟨by decide, by decide⟩ rfl rfl hl.1 rfl (lv_room (Nat.le_of_ble_eq_true rfl)) d_B_keepOut_7 ⟨(show 0 + 1 ≤ 11 by omega), (show 0 + 6 ≤ 130 by omega)⟩) hI hA hexc (show 0 + 1 ≤ 11 by omega) (show 0 + 6 ≤ 130 by omega) (fun v3 w H locs h hI => ?_)
  refine W.widen (k := 1) (n := 6) (show 0 + 1 ≤ 1 by omega) (show 0 + 6 ≤ 6 by omega) ?_
  refine lv_lload_n hx hb d_B_keepOut_10 rfl (lv_at hl 2 rfl) ?_
  refine lv_ldc2 (v := (-20000)) hx hb hown (hT _ wd_711 args) d_B_keepOut_11 ?_
  refine lv_ldc2 (v := 20000) hx hb hown (hT _ wd_712 args) d_B_keepOut_14 ?_
  obtain ⟨u4, e5⟩ := gsome h
  refine gw_callV e5 h (gw_runS (As := [.long p2, .long (-20000), .long 20000]) (rest := []) hx hb hml hown hT hK hZ hA hI (m_B_needWithin l hst D g0 p2 (-20000) 20000 w u4 e5) ce_B_needWithin wd_516 ⟨by decide, by decide⟩ rfl rfl hl.1 rfl (lv_room (Nat.le_of_ble_eq_true rfl)) d_B_keepOut_17 ⟨(show 1 + 1 ≤ 11 by omega), (show 6 + 6 ≤ 130 by omega)⟩) hI hA hexc (show 1 + 1 ≤ 11 by omega) (show 6 + 6 ≤ 130 by omega) (fun v6 w H locs h hI => ?_)
  refine W.widen (k := 2) (n := 12) (show 1 + 1 ≤ 2 by omega) (show 6 + 6 ≤ 12 by omega) ?_
  refine lv_lload hx hb d_B_keepOut_20 (lv_at hl 3 rfl) ?_
  refine lv_lload_n hx hb d_B_keepOut_22 rfl (lv_at hl 1 rfl) ?_
  refine lv_lconst (v := 1) hx hb d_B_keepOut_23 (by decide) ?_
  refine lv_ladd hx hb d_B_keepOut_24 ?_
  refine lv_ldc2 (v := 20000) hx hb hown (hT _ wd_712 args) d_B_keepOut_25 ?_
  obtain ⟨u7, e8⟩ := gsome h
  refine gw_callV e8 h (gw_runS (As := [.long p3, .long (p1 + 1), .long 20000]) (rest := []) hx hb hml hown hT hK hZ hA hI (m_B_needWithin l hst D g0 p3 (p1 + 1) 20000 w u7 e8) ce_B_needWithin wd_516 ⟨by decide, by decide⟩ rfl rfl hl.1 rfl (lv_room (Nat.le_of_ble_eq_true rfl)) d_B_keepOut_28 ⟨(show 2 + 1 ≤ 11 by omega), (show 12 + 6 ≤ 130 by omega)⟩) hI hA hexc (show 2 + 1 ≤ 11 by omega) (show 12 + 6 ≤ 130 by omega) (fun v9 w H locs h hI => ?_)
  refine W.widen (k := 3) (n := 18) (show 2 + 1 ≤ 3 by omega) (show 12 + 6 ≤ 18 by omega) ?_
  refine lv_lload hx hb d_B_keepOut_31 (lv_at hl 4 rfl) ?_
  refine lv_lload_n hx hb d_B_keepOut_33 rfl (lv_at hl 2 rfl) ?_
  refine lv_lconst (v := 1) hx hb d_B_keepOut_34 (by decide) ?_
  refine lv_ladd hx hb d_B_keepOut_35 ?_
  refine lv_ldc2 (v := 20000) hx hb hown (hT _ wd_712 args) d_B_keepOut_36 ?_
  obtain ⟨u10, e11⟩ := gsome h
  refine gw_callV e11 h (gw_runS (As := [.long p4, .long (p2 + 1), .long 20000]) (rest := []) hx hb hml hown hT hK hZ hA hI (m_B_needWithin l hst D g0 p4 (p2 + 1) 20000 w u10 e11) ce_B_needWithin wd_516 ⟨by decide, by decide⟩ rfl rfl hl.1 rfl (lv_room (Nat.le_of_ble_eq_true rfl)) d_B_keepOut_39 ⟨(show 3 + 1 ≤ 11 by omega), (show 18 + 6 ≤ 130 by omega)⟩) hI hA hexc (show 3 + 1 ≤ 11 by omega) (show 18 + 6 ≤ 130 by omega) (fun v12 w H locs h hI => ?_)
  refine W.widen (k := 4) (n := 24) (show 3 + 1 ≤ 4 by omega) (show 18 + 6 ≤ 24 by omega) ?_
  refine lv_iload hx hb d_B_keepOut_42 (lv_at hl 5 rfl) ?_
  refine lv_i2l (v := p5.toInt64) hx hb d_B_keepOut_44 rfl ?_
  refine lv_lconst (v := 0) hx hb d_B_keepOut_45 (by decide) ?_
  refine lv_lconst (v := 1) hx hb d_B_keepOut_46 (by decide) ?_
  obtain ⟨u13, e14⟩ := gsome h
  refine gw_callV e14 h (gw_runS (As := [.long (p5.toInt64), .long 0, .long 1]) (rest := []) hx hb hml hown hT hK hZ hA hI (m_B_needWithin l hst D g0 (p5.toInt64) 0 1 w u13 e14) ce_B_needWithin wd_516 ⟨by decide, by decide⟩ rfl rfl hl.1 rfl (lv_room (Nat.le_of_ble_eq_true rfl)) d_B_keepOut_47 ⟨(show 4 + 1 ≤ 11 by omega), (show 24 + 6 ≤ 130 by omega)⟩) hI hA hexc (show 4 + 1 ≤ 11 by omega) (show 24 + 6 ≤ 130 by omega) (fun v15 w H locs h hI => ?_)
  refine W.widen (k := 5) (n := 30) (show 4 + 1 ≤ 5 by omega) (show 24 + 6 ≤ 30 by omega) ?_
  refine lv_lload hx hb d_B_keepOut_50 (lv_at hl 6 rfl) ?_
  refine lv_lconst (v := 0) hx hb d_B_keepOut_52 (by decide) ?_
  refine lv_ldc2 (v := 20000) hx hb hown (hT _ wd_712 args) d_B_keepOut_53 ?_
  obtain ⟨u16, e17⟩ := gsome h
  refine gw_callV e17 h (gw_runS (As := [.long p6, .long 0, .long 20000]) (rest := []) hx hb hml hown hT hK hZ hA hI (m_B_needWithin l hst D g0 p6 0 20000 w u16 e17) ce_B_needWithin wd_516 ⟨by decide, by decide⟩ rfl rfl hl.1 rfl (lv_room (Nat.le_of_ble_eq_true rfl)) d_B_keepOut_56 ⟨(show 5 + 1 ≤ 11 by omega), (show 30 + 6 ≤ 130 by omega)⟩) hI hA hexc (show 5 + 1 ≤ 11 by omega) (show 30 + 6 ≤ 130 by omega) (fun v18 w H locs h hI => ?_)
  refine W.widen (k := 6) (n := 36) (show 5 + 1 ≤ 6 by omega) (show 30 + 6 ≤ 36 by omega) ?_
  refine lv_aload_n hx hb d_B_keepOut_59 rfl (lv_at hl 0 rfl) ?_
  obtain ⟨v19, e20, h⟩ := gb h
  refine gw_getA hx hb hT hown hK hI (ci := 0) rfl i_0 3 (by decide) wd_192 (fun _ h9 => h9) e20 d_B_keepOut_60 ?_
  obtain ⟨q23, e24, h⟩ := gb h
  obtain ⟨u21, e22⟩ := gsome h
  refine gw_callI e22 h (gw_runV (As := []) (rest := []) hx hb hml hown hT hK hZ hA hI (ci := 1) rfl e24 (m_AL_size l hst D g0 v19 w u21 e22) ce_AL_size wd_224 wd_226 ⟨by decide, by decide⟩ rfl rfl hl.1 rfl (lv_room (Nat.le_of_ble_eq_true rfl)) d_B_keepOut_63 ⟨(show 6 + 0 ≤ 11 by omega), (show 36 + 0 ≤ 130 by omega)⟩) hI hA hexc (show 6 + 0 ≤ 11 by omega) (show 36 + 0 ≤ 130 by omega) (fun v25 w H locs h hI => ?_)
  refine lv_bipush (v := 10) hx hb d_B_keepOut_66 (by decide) ?_
  refine lv_icmp_lt (tgt := 73) hx hb d_B_keepOut_68 (by decide) (fun c26 => ?_) (fun c26 => ?_)
  · skip
    have h := git c26 h
    obtain ⟨o27, w, e28, h⟩ := gb2 h
    refine gw_new hx hb hT hown hK hI hA (ci := 3) rfl i_3 t_3 t_3_ok wd_546 wd_124 wd_56 (fs := [.int 0, .long 0, .long 0, .null, .null, .int 0, .long 0, .long 0, .long 0, .long 0, .long 0, .long 0]) df_3 e28 (show 6 + 1 ≤ 11 by omega) (show 36 + 12 ≤ 130 by omega) d_B_keepOut_73 (fun H hI => ?_)
    refine W.widen (k := 7) (n := 48) (show 6 + 1 ≤ 7 by omega) (show 36 + 12 ≤ 48 by omega) ?_
    refine lv_dup hx hb d_B_keepOut_76 rfl ?_
    obtain ⟨u29, e30⟩ := gsome h
    refine gw_callV e30 h (gw_runIN (As := []) (rest := [.ref o27]) hx hb hml hown hT hK hZ hA hI (m_So_init l hst D g0 o27 w u29 e30) ce_So_init wd_547 rfl ⟨by decide, by decide⟩ rfl rfl hl.1 rfl (lv_room (Nat.le_of_ble_eq_true rfl)) d_B_keepOut_77 ⟨(show 7 + 2 ≤ 11 by omega), (show 48 + 16 ≤ 130 by omega)⟩) hI hA hexc (show 7 + 2 ≤ 11 by omega) (show 48 + 16 ≤ 130 by omega) (fun v31 w H locs h hI => ?_)
    refine W.widen (k := 9) (n := 64) (show 7 + 2 ≤ 9 by omega) (show 48 + 16 ≤ 64 by omega) ?_
    refine lv_astore (lv' := [(12, .ref o27), (0, .ref a0), (1, .long p1), (3, .long p2), (5, .long p3), (7, .long p4), (9, .int p5), (10, .long p6)]) hx hb d_B_keepOut_80 hl (by decide) rfl (fun ls hl => ?_)
    refine lv_aload hx hb d_B_keepOut_82 (lv_at hl 0 rfl) ?_
    refine lv_iconst (v := 0) hx hb d_B_keepOut_84 (by decide) ?_
    refine lv_lconst (v := 0) hx hb d_B_keepOut_85 (by decide) ?_
    refine lv_lconst (v := 0) hx hb d_B_keepOut_86 (by decide) ?_
    obtain ⟨q34, e35, h⟩ := gb h
    obtain ⟨u32, e33⟩ := gsome h
    refine gw_callV e33 h (gw_runV (As := [.int 0, .long 0, .long 0]) (rest := []) hx hb hml hown hT hK hZ hA hI (ci := 3) rfl e35 (m_So_begin l hst D g0 o27 0 0 0 w u32 e33) ce_So_begin wd_548 wd_349 ⟨by decide, by decide⟩ rfl rfl hl.1 rfl (lv_room (Nat.le_of_ble_eq_true rfl)) d_B_keepOut_87 ⟨(show 9 + 0 ≤ 11 by omega), (show 64 + 0 ≤ 130 by omega)⟩) hI hA hexc (show 9 + 0 ≤ 11 by omega) (show 64 + 0 ≤ 130 by omega) (fun v36 w H locs h hI => ?_)
    refine lv_aload hx hb d_B_keepOut_90 (lv_at hl 0 rfl) ?_
    refine lv_lload_n hx hb d_B_keepOut_92 rfl (lv_at hl 2 rfl) ?_
    refine lv_lload_n hx hb d_B_keepOut_93 rfl (lv_at hl 3 rfl) ?_
    refine lv_lload hx hb d_B_keepOut_94 (lv_at hl 4 rfl) ?_
    refine lv_lload hx hb d_B_keepOut_96 (lv_at hl 5 rfl) ?_
    obtain ⟨q39, e40, h⟩ := gb h
    obtain ⟨u37, e38⟩ := gsome h
    refine gw_callV e38 h (gw_runV (As := [.long p1, .long p2, .long p3, .long p4]) (rest := []) hx hb hml hown hT hK hZ hA hI (ci := 3) rfl e40 (m_So_addRectangle l hst D g0 o27 p1 p2 p3 p4 w u37 e38) ce_So_addRectangle wd_549 wd_551 ⟨by decide, by decide⟩ rfl rfl hl.1 rfl (lv_room (Nat.le_of_ble_eq_true rfl)) d_B_keepOut_98 ⟨(show 9 + 0 ≤ 11 by omega), (show 64 + 0 ≤ 130 by omega)⟩) hI hA hexc (show 9 + 0 ≤ 11 by omega) (show 64 + 0 ≤ 130 by omega) (fun v41 w H locs h hI => ?_)
    refine lv_iload hx hb d_B_keepOut_101 (lv_at hl 6 rfl) ?_
    obtain ⟨K147, eK147, h⟩ := gj h
    have hK147 : ∀ (w : gW) (H : Heap) (locs : List Loc) (ls : Array Slot), K147 w = some r → gI D s A w H locs → lv_has ls 13 [(0, .ref a0), (9, .int p5), (12, .ref o27)] → W p l e rm_B_keepOut s m args below meth c H locs 9 64 Q (F0 m 147 ls []) := by
      intro w H locs ls h hI hl
      have h := gk1 eK147 h
      refine lv_aload_n hx hb d_B_keepOut_147 rfl (lv_at hl 0 rfl) ?_
      obtain ⟨v42, e43, h⟩ := gb h
      refine gw_getA hx hb hT hown hK hI (ci := 0) rfl i_0 3 (by decide) wd_192 (fun _ h9 => h9) e43 d_B_keepOut_148 ?_
      obtain ⟨o44, w, e45, h⟩ := gb2 h
      refine gw_new hx hb hT hown hK hI hA (ci := 6) rfl i_6 t_6 t_6_ok wd_418 wd_714 wd_70 (fs := [.null, .int 0]) df_6 e45 (show 9 + 1 ≤ 11 by omega) (show 64 + 2 ≤ 130 by omega) d_B_keepOut_151 (fun H hI => ?_)
      refine W.widen (k := 10) (n := 66) (show 9 + 1 ≤ 10 by omega) (show 64 + 2 ≤ 66 by omega) ?_
      refine lv_dup hx hb d_B_keepOut_154 rfl ?_
      refine lv_aload hx hb d_B_keepOut_155 (lv_at hl 2 rfl) ?_
      refine lv_iload hx hb d_B_keepOut_157 (lv_at hl 1 rfl) ?_
      obtain ⟨u46, e47⟩ := gsome h
      refine gw_callV e47 h (gw_runI (As := [.ref o27, .int p5]) (rest := [.ref o44, .ref v42]) hx hb hml hown hT hK hZ hA hI (m_Ko_init l hst D g0 o44 o27 p5 w u46 e47) ce_Ko_init wd_715 rfl ⟨by decide, by decide⟩ rfl rfl hl.1 rfl (lv_room (Nat.le_of_ble_eq_true rfl)) d_B_keepOut_159 ⟨(show 10 + 0 ≤ 11 by omega), (show 66 + 0 ≤ 130 by omega)⟩) hI hA hexc (show 10 + 0 ≤ 11 by omega) (show 66 + 0 ≤ 130 by omega) (fun v48 w H locs h hI => ?_)
      obtain ⟨q51, e52, h⟩ := gb h
      obtain ⟨u49, e50⟩ := gsome h
      refine gw_callI e50 h (gw_runV (As := [.ref o44]) (rest := []) hx hb hml hown hT hK hZ hA hI (ci := 1) rfl e52 (m_AL_add l hst D g0 v42 o44 w u49 e50) ce_AL_add wd_250 wd_252 ⟨by decide, by decide⟩ rfl rfl hl.1 rfl (lv_room (Nat.le_of_ble_eq_true rfl)) d_B_keepOut_162 ⟨(show 10 + 1 ≤ 11 by omega), (show 66 + 64 ≤ 130 by omega)⟩) hI hA hexc (show 10 + 1 ≤ 11 by omega) (show 66 + 64 ≤ 130 by omega) (fun v53 w H locs h hI => ?_)
      refine W.widen (k := 11) (n := 130) (show 10 + 1 ≤ 11 by omega) (show 66 + 64 ≤ 130 by omega) ?_
      refine lv_pop hx hb d_B_keepOut_165 rfl ?_
      refine lv_iconst (v := 1) hx hb d_B_keepOut_166 (by decide) ?_
      obtain ⟨g54, h⟩ := gif h
      exact W.widen (show 11 ≤ 11 by omega) (show 130 ≤ 130 by omega) (hret g54 0 _ (Option.some.inj h).symm _ _ _ _ d_B_keepOut_167 hI)
    refine lv_if_ne (tgt := 122) hx hb d_B_keepOut_103 (by decide) (fun c55 => ?_) (fun c55 => ?_)
    · skip
      have h := gie c55 h
      refine lv_aload hx hb d_B_keepOut_122 (lv_at hl 0 rfl) ?_
      refine lv_aload_n hx hb d_B_keepOut_124 rfl (lv_at hl 1 rfl) ?_
      obtain ⟨v56, e57, h⟩ := gb h
      refine gw_getJ hx hb hT hown hK hI (ci := 0) rfl i_0 0 (by decide) wd_189 (fun _ h9 => h9) e57 d_B_keepOut_125 ?_
      refine lv_lneg hx hb d_B_keepOut_128 ?_
      refine lv_lload hx hb d_B_keepOut_129 (lv_at hl 7 rfl) ?_
      refine lv_lsub hx hb d_B_keepOut_131 ?_
      refine lv_ldc2 (v := 30000) hx hb hown (hT _ wd_713 args) d_B_keepOut_132 ?_
      refine lv_lsub hx hb d_B_keepOut_135 ?_
      refine lv_aload_n hx hb d_B_keepOut_136 rfl (lv_at hl 1 rfl) ?_
      obtain ⟨v58, e59, h⟩ := gb h
      refine gw_getJ hx hb hT hown hK hI (ci := 0) rfl i_0 0 (by decide) wd_189 (fun _ h9 => h9) e59 d_B_keepOut_137 ?_
      refine lv_lneg hx hb d_B_keepOut_140 ?_
      refine lv_lload hx hb d_B_keepOut_141 (lv_at hl 7 rfl) ?_
      refine lv_lsub hx hb d_B_keepOut_143 ?_
      obtain ⟨q62, e63, h⟩ := gb h
      obtain ⟨u60, e61⟩ := gsome h
      refine gw_callV e61 h (gw_runV (As := [.long (((-v56) - p6) - 30000), .long ((-v58) - p6)]) (rest := []) hx hb hml hown hT hK hZ hA hI (ci := 3) rfl e63 (m_So_setHeights l hst D g0 o27 (((-v56) - p6) - 30000) ((-v58) - p6) w u60 e61) ce_So_setHeights wd_553 wd_367 ⟨by decide, by decide⟩ rfl rfl hl.1 rfl (lv_room (Nat.le_of_ble_eq_true rfl)) d_B_keepOut_144 ⟨(show 9 + 0 ≤ 11 by omega), (show 64 + 0 ≤ 130 by omega)⟩) hI hA hexc (show 9 + 0 ≤ 11 by omega) (show 64 + 0 ≤ 130 by omega) (fun v64 w H locs h hI => ?_)
      exact hK147 w H locs ls h hI (lv_sub hl [1, 6, 0] rfl)
    · skip
      have h := git c55 h
      refine lv_aload hx hb d_B_keepOut_106 (lv_at hl 0 rfl) ?_
      refine lv_lload hx hb d_B_keepOut_108 (lv_at hl 7 rfl) ?_
      refine lv_lload hx hb d_B_keepOut_110 (lv_at hl 7 rfl) ?_
      refine lv_ldc2 (v := 30000) hx hb hown (hT _ wd_713 args) d_B_keepOut_112 ?_
      refine lv_ladd hx hb d_B_keepOut_115 ?_
      obtain ⟨q67, e68, h⟩ := gb h
      obtain ⟨u65, e66⟩ := gsome h
      refine gw_callV e66 h (gw_runV (As := [.long p6, .long (p6 + 30000)]) (rest := []) hx hb hml hown hT hK hZ hA hI (ci := 3) rfl e68 (m_So_setHeights l hst D g0 o27 p6 (p6 + 30000) w u65 e66) ce_So_setHeights wd_553 wd_367 ⟨by decide, by decide⟩ rfl rfl hl.1 rfl (lv_room (Nat.le_of_ble_eq_true rfl)) d_B_keepOut_116 ⟨(show 9 + 0 ≤ 11 by omega), (show 64 + 0 ≤ 130 by omega)⟩) hI hA hexc (show 9 + 0 ≤ 11 by omega) (show 64 + 0 ≤ 130 by omega) (fun v69 w H locs h hI => ?_)
      refine lv_goto (tgt := 147) hx hb d_B_keepOut_119 (by decide) ?_
      exact hK147 w H locs ls h hI (lv_sub hl [1, 6, 0] rfl)
  · skip
    have h := gie c26 h
    refine lv_iconst (v := 0) hx hb d_B_keepOut_71 (by decide) ?_
    obtain ⟨g70, h⟩ := gif h
    exact W.widen (show 6 ≤ 11 by omega) (show 36 ≤ 130 by omega) (hret g70 0 _ (Option.some.inj h).symm _ _ _ _ d_B_keepOut_72 hI)

abbrev b_B_mass : ByteArray := prog_1_method_18_code
def y_B_mass : MethodName := ⟨"BodySolids", "mass", "(I)J"⟩
theorem d_B_mass_0 : decode b_B_mass 0 = .ok (.aload_n 0, 1) := by decide +kernel
theorem d_B_mass_1 : decode b_B_mass 1 = .ok (.iload_n 1, 1) := by decide +kernel
theorem d_B_mass_2 : decode b_B_mass 2 = .ok (.invokevirtual 79, 3) := by decide +kernel
theorem d_B_mass_5 : decode b_B_mass 5 = .ok (.getfield 244, 3) := by decide +kernel
theorem d_B_mass_8 : decode b_B_mass 8 = .ok (.lreturn, 1) := by decide +kernel
abbrev rm_B_mass : Room := { frames := 9, cells := 1, slots := 6, locals := 132 }
theorem ce_B_mass : gCe y_B_mass (.code y_B_mass b_B_mass 2 (some .long)) 2 1 false := gCe.code wd_778 wd_49 wd_776 (by decide) (by decide +kernel)
def f_B_mass (g0 : gG) (a0 : Nat) (p1 : Int32) (w : gW) : gX Int64 := (gck w a0 0).bind fun _ => gbind (f_B_bodyAt g0 a0 p1 w) fun v5 w => (gfJ w v5 4 1).bind fun v6 => some (.inr v6, w)
set_option maxHeartbeats 4000000 in
set_option maxRecDepth 100000 in
theorem m_B_mass (l : Launch) (hst : l.stackTraces = false) (D : gD) (g0 : gG) (a0 : Nat) (p1 : Int32) (w : gW) (r : (String ⊕ Int64) × gW) (h : f_B_mass g0 a0 p1 w = some r) : gMet l y_B_mass (.code y_B_mass b_B_mass 2 (some .long)) rm_B_mass D g0 [.ref a0, .int p1] w (goJ r) := by
  refine gw_ofJ (by decide +kernel) (Nat.le_of_ble_eq_true rfl) ?_
  intro p e s m below meth c ls args A Q hx hb hml hown hlocks hin hnt hT hK hZ hA hret hexc hthr hI hl
  obtain ⟨H, hH⟩ : ∃ H, H = s.heap := ⟨_, rfl⟩
  rw [← hH] at hI ⊢
  obtain ⟨locs, hlocs⟩ : ∃ z : List Loc, z = [] := ⟨_, rfl⟩
  rw [← hlocs] at hI ⊢
  have hl : lv_has ls 2 [(0, .ref a0), (1, .int p1)] := hl
  unfold f_B_mass at h
  refine lv_aload_n hx hb d_B_mass_0 rfl (lv_at hl 0 rfl) ?_
  refine lv_iload_n hx hb d_B_mass_1 rfl (lv_at hl 1 rfl) ?_
  obtain ⟨q3, e4, h⟩ := gb h
  obtain ⟨u1, e2⟩ := gsome h
  refine gw_callA e2 h (gw_runV (As := [.int p1]) (rest := []) hx hb hml hown hT hK hZ hA hI (ci := 0) rfl e4 (m_B_bodyAt l hst D g0 a0 p1 w u1 e2) ce_B_bodyAt wd_436 wd_7 ⟨by decide, by decide⟩ rfl rfl hl.1 rfl (lv_room (Nat.le_of_ble_eq_true rfl)) d_B_mass_2 ⟨(show 0 + 1 ≤ 1 by omega), (show 0 + 6 ≤ 6 by omega)⟩) hI hA hexc (show 0 + 1 ≤ 1 by omega) (show 0 + 6 ≤ 6 by omega) (fun v5 w H locs h hI => ?_)
  refine W.widen (k := 1) (n := 6) (show 0 + 1 ≤ 1 by omega) (show 0 + 6 ≤ 6 by omega) ?_
  obtain ⟨v6, e7, h⟩ := gb h
  refine gw_getJ hx hb hT hown hK hI (ci := 4) rfl i_4 1 (by decide) wd_240 (fun _ h9 => h9) e7 d_B_mass_5 ?_
  exact W.widen (show 1 ≤ 1 by omega) (show 6 ≤ 6 by omega) (hret _ _ (Option.some.inj h).symm _ _ _ _ d_B_mass_8 hI)

abbrev b_B_needPosition : ByteArray := prog_1_method_24_code
def y_B_needPosition : MethodName := ⟨"BodySolids", "needPosition", "(JJII)V"⟩
theorem d_B_needPosition_0 : decode b_B_needPosition 0 = .ok (.lload_n 0, 1) := by decide +kernel
theorem d_B_needPosition_1 : decode b_B_needPosition 1 = .ok (.ldc2_w 144, 3) := by decide +kernel
theorem d_B_needPosition_4 : decode b_B_needPosition 4 = .ok (.ldc2_w 146, 3) := by decide +kernel
theorem d_B_needPosition_7 : decode b_B_needPosition 7 = .ok (.invokestatic 138, 3) := by decide +kernel
theorem d_B_needPosition_10 : decode b_B_needPosition 10 = .ok (.lload_n 2, 1) := by decide +kernel
theorem d_B_needPosition_11 : decode b_B_needPosition 11 = .ok (.ldc2_w 144, 3) := by decide +kernel
theorem d_B_needPosition_14 : decode b_B_needPosition 14 = .ok (.ldc2_w 146, 3) := by decide +kernel
theorem d_B_needPosition_17 : decode b_B_needPosition 17 = .ok (.invokestatic 138, 3) := by decide +kernel
theorem d_B_needPosition_20 : decode b_B_needPosition 20 = .ok (.iload 4, 2) := by decide +kernel
theorem d_B_needPosition_22 : decode b_B_needPosition 22 = .ok (.i2l, 1) := by decide +kernel
theorem d_B_needPosition_23 : decode b_B_needPosition 23 = .ok (.lconst 0, 1) := by decide +kernel
theorem d_B_needPosition_24 : decode b_B_needPosition 24 = .ok (.ldc2_w 259, 3) := by decide +kernel
theorem d_B_needPosition_27 : decode b_B_needPosition 27 = .ok (.invokestatic 138, 3) := by decide +kernel
theorem d_B_needPosition_30 : decode b_B_needPosition 30 = .ok (.iload 5, 2) := by decide +kernel
theorem d_B_needPosition_32 : decode b_B_needPosition 32 = .ok (.i2l, 1) := by decide +kernel
theorem d_B_needPosition_33 : decode b_B_needPosition 33 = .ok (.lconst 0, 1) := by decide +kernel
theorem d_B_needPosition_34 : decode b_B_needPosition 34 = .ok (.lconst 1, 1) := by decide +kernel
theorem d_B_needPosition_35 : decode b_B_needPosition 35 = .ok (.invokestatic 138, 3) := by decide +kernel
theorem d_B_needPosition_38 : decode b_B_needPosition 38 = .ok (.return_, 1) := by decide +kernel
abbrev rm_B_needPosition : Room := { frames := 8, cells := 4, slots := 24, locals := 115 }
theorem ce_B_needPosition : gCe y_B_needPosition (.code y_B_needPosition b_B_needPosition 6 none) 6 4 true := gCe.code wd_644 wd_49 wd_643 (by decide) (by decide +kernel)
def f_B_needPosition (g0 : gG) (p0 : Int64) (p1 : Int64) (p2 : Int32) (p3 : Int32) (w : gW) : gX Unit := gbind (f_B_needWithin g0 p0 (-10000) 10000 w) fun v3 w => gbind (f_B_needWithin g0 p1 (-10000) 10000 w) fun v6 w => gbind (f_B_needWithin g0 (p2.toInt64) 0 3 w) fun v9 w => gbind (f_B_needWithin g0 (p3.toInt64) 0 1 w) fun v12 w => some (.inr (), w)
set_option maxHeartbeats 4000000 in
set_option maxRecDepth 100000 in
theorem m_B_needPosition (l : Launch) (hst : l.stackTraces = false) (D : gD) (g0 : gG) (p0 : Int64) (p1 : Int64) (p2 : Int32) (p3 : Int32) (w : gW) (r : (String ⊕ Unit) × gW) (h : f_B_needPosition g0 p0 p1 p2 p3 w = some r) : gMet l y_B_needPosition (.code y_B_needPosition b_B_needPosition 6 none) rm_B_needPosition D g0 [.long p0, .long p1, .int p2, .int p3] w (goV r) := by
  refine gw_ofV (by decide +kernel) (Nat.le_of_ble_eq_true rfl) ?_
  intro p e s m below meth c ls args A Q hx hb hml hown hlocks hin hnt hT hK hZ hA hret hexc hthr hI hl
  obtain ⟨H, hH⟩ : ∃ H, H = s.heap := ⟨_, rfl⟩
  rw [← hH] at hI ⊢
  obtain ⟨locs, hlocs⟩ : ∃ z : List Loc, z = [] := ⟨_, rfl⟩
  rw [← hlocs] at hI ⊢
  have hl : lv_has ls 6 [(0, .long p0), (2, .long p1), (4, .int p2), (5, .int p3)] := hl
  unfold f_B_needPosition at h
  refine lv_lload_n hx hb d_B_needPosition_0 rfl (lv_at hl 0 rfl) ?_
  refine lv_ldc2 (v := (-10000)) hx hb hown (hT _ wd_617 args) d_B_needPosition_1 ?_
  refine lv_ldc2 (v := 10000) hx hb hown (hT _ wd_618 args) d_B_needPosition_4 ?_
  obtain ⟨u1, e2⟩ := gsome h
  refine gw_callV e2 h (gw_runS (As := [.long p0, .long (-10000), .long 10000]) (rest := []) hx hb hml hown hT hK hZ hA hI (m_B_needWithin l hst D g0 p0 (-10000) 10000 w u1 e2) ce_B_needWithin wd_516 ⟨by decide, by decide⟩ rfl rfl hl.1 rfl (lv_room (Nat.le_of_ble_eq_true rfl)) d_B_needPosition_7 ⟨(show 0 + 1 ≤ 4 by omega), (show 0 + 6 ≤ 24 by omega)⟩) hI hA hexc (show 0 + 1 ≤ 4 by omega) (show 0 + 6 ≤ 24 by omega) (fun v3 w H locs h hI => ?_)
  refine W.widen (k := 1) (n := 6) (show 0 + 1 ≤ 1 by omega) (show 0 + 6 ≤ 6 by omega) ?_
  refine lv_lload_n hx hb d_B_needPosition_10 rfl (lv_at hl 1 rfl) ?_
  refine lv_ldc2 (v := (-10000)) hx hb hown (hT _ wd_617 args) d_B_needPosition_11 ?_
  refine lv_ldc2 (v := 10000) hx hb hown (hT _ wd_618 args) d_B_needPosition_14 ?_
  obtain ⟨u4, e5⟩ := gsome h
  refine gw_callV e5 h (gw_runS (As := [.long p1, .long (-10000), .long 10000]) (rest := []) hx hb hml hown hT hK hZ hA hI (m_B_needWithin l hst D g0 p1 (-10000) 10000 w u4 e5) ce_B_needWithin wd_516 ⟨by decide, by decide⟩ rfl rfl hl.1 rfl (lv_room (Nat.le_of_ble_eq_true rfl)) d_B_needPosition_17 ⟨(show 1 + 1 ≤ 4 by omega), (show 6 + 6 ≤ 24 by omega)⟩) hI hA hexc (show 1 + 1 ≤ 4 by omega) (show 6 + 6 ≤ 24 by omega) (fun v6 w H locs h hI => ?_)
  refine W.widen (k := 2) (n := 12) (show 1 + 1 ≤ 2 by omega) (show 6 + 6 ≤ 12 by omega) ?_
  refine lv_iload hx hb d_B_needPosition_20 (lv_at hl 2 rfl) ?_
  refine lv_i2l (v := p2.toInt64) hx hb d_B_needPosition_22 rfl ?_
  refine lv_lconst (v := 0) hx hb d_B_needPosition_23 (by decide) ?_
  refine lv_ldc2 (v := 3) hx hb hown (hT _ wd_645 args) d_B_needPosition_24 ?_
  obtain ⟨u7, e8⟩ := gsome h
  refine gw_callV e8 h (gw_runS (As := [.long (p2.toInt64), .long 0, .long 3]) (rest := []) hx hb hml hown hT hK hZ hA hI (m_B_needWithin l hst D g0 (p2.toInt64) 0 3 w u7 e8) ce_B_needWithin wd_516 ⟨by decide, by decide⟩ rfl rfl hl.1 rfl (lv_room (Nat.le_of_ble_eq_true rfl)) d_B_needPosition_27 ⟨(show 2 + 1 ≤ 4 by omega), (show 12 + 6 ≤ 24 by omega)⟩) hI hA hexc (show 2 + 1 ≤ 4 by omega) (show 12 + 6 ≤ 24 by omega) (fun v9 w H locs h hI => ?_)
  refine W.widen (k := 3) (n := 18) (show 2 + 1 ≤ 3 by omega) (show 12 + 6 ≤ 18 by omega) ?_
  refine lv_iload hx hb d_B_needPosition_30 (lv_at hl 3 rfl) ?_
  refine lv_i2l (v := p3.toInt64) hx hb d_B_needPosition_32 rfl ?_
  refine lv_lconst (v := 0) hx hb d_B_needPosition_33 (by decide) ?_
  refine lv_lconst (v := 1) hx hb d_B_needPosition_34 (by decide) ?_
  obtain ⟨u10, e11⟩ := gsome h
  refine gw_callV e11 h (gw_runS (As := [.long (p3.toInt64), .long 0, .long 1]) (rest := []) hx hb hml hown hT hK hZ hA hI (m_B_needWithin l hst D g0 (p3.toInt64) 0 1 w u10 e11) ce_B_needWithin wd_516 ⟨by decide, by decide⟩ rfl rfl hl.1 rfl (lv_room (Nat.le_of_ble_eq_true rfl)) d_B_needPosition_35 ⟨(show 3 + 1 ≤ 4 by omega), (show 18 + 6 ≤ 24 by omega)⟩) hI hA hexc (show 3 + 1 ≤ 4 by omega) (show 18 + 6 ≤ 24 by omega) (fun v12 w H locs h hI => ?_)
  refine W.widen (k := 4) (n := 24) (show 3 + 1 ≤ 4 by omega) (show 18 + 6 ≤ 24 by omega) ?_
  exact W.widen (show 4 ≤ 4 by omega) (show 24 ≤ 24 by omega) (hret _ _ (Option.some.inj h).symm _ _ _ _ d_B_needPosition_38 hI)

abbrev b_B_move : ByteArray := prog_1_method_10_code
def y_B_move : MethodName := ⟨"BodySolids", "move", "(IJJII)Z"⟩
theorem d_B_move_0 : decode b_B_move 0 = .ok (.aload_n 0, 1) := by decide +kernel
theorem d_B_move_1 : decode b_B_move 1 = .ok (.iload_n 1, 1) := by decide +kernel
theorem d_B_move_2 : decode b_B_move 2 = .ok (.invokevirtual 174, 3) := by decide +kernel
theorem d_B_move_5 : decode b_B_move 5 = .ok (.astore 8, 2) := by decide +kernel
theorem d_B_move_7 : decode b_B_move 7 = .ok (.lload_n 2, 1) := by decide +kernel
theorem d_B_move_8 : decode b_B_move 8 = .ok (.lload 4, 2) := by decide +kernel
theorem d_B_move_10 : decode b_B_move 10 = .ok (.iload 6, 2) := by decide +kernel
theorem d_B_move_12 : decode b_B_move 12 = .ok (.iload 7, 2) := by decide +kernel
theorem d_B_move_14 : decode b_B_move 14 = .ok (.invokestatic 160, 3) := by decide +kernel
theorem d_B_move_17 : decode b_B_move 17 = .ok (.aload 8, 2) := by decide +kernel
theorem d_B_move_19 : decode b_B_move 19 = .ok (.lload_n 2, 1) := by decide +kernel
theorem d_B_move_20 : decode b_B_move 20 = .ok (.lload 4, 2) := by decide +kernel
theorem d_B_move_22 : decode b_B_move 22 = .ok (.iload 6, 2) := by decide +kernel
theorem d_B_move_24 : decode b_B_move 24 = .ok (.iload 7, 2) := by decide +kernel
theorem d_B_move_26 : decode b_B_move 26 = .ok (.invokevirtual 178, 3) := by decide +kernel
theorem d_B_move_29 : decode b_B_move 29 = .ok (.ifCond .eq 5, 3) := by decide +kernel
theorem d_B_move_32 : decode b_B_move 32 = .ok (.iconst 0, 1) := by decide +kernel
theorem d_B_move_33 : decode b_B_move 33 = .ok (.ireturn, 1) := by decide +kernel
theorem d_B_move_34 : decode b_B_move 34 = .ok (.aload 8, 2) := by decide +kernel
theorem d_B_move_36 : decode b_B_move 36 = .ok (.lload_n 2, 1) := by decide +kernel
theorem d_B_move_37 : decode b_B_move 37 = .ok (.lload 4, 2) := by decide +kernel
theorem d_B_move_39 : decode b_B_move 39 = .ok (.iload 6, 2) := by decide +kernel
theorem d_B_move_41 : decode b_B_move 41 = .ok (.iload 7, 2) := by decide +kernel
theorem d_B_move_43 : decode b_B_move 43 = .ok (.invokevirtual 168, 3) := by decide +kernel
theorem d_B_move_46 : decode b_B_move 46 = .ok (.aload_n 0, 1) := by decide +kernel
theorem d_B_move_47 : decode b_B_move 47 = .ok (.iload_n 1, 1) := by decide +kernel
theorem d_B_move_48 : decode b_B_move 48 = .ok (.invokevirtual 182, 3) := by decide +kernel
theorem d_B_move_51 : decode b_B_move 51 = .ok (.iconst 1, 1) := by decide +kernel
theorem d_B_move_52 : decode b_B_move 52 = .ok (.ireturn, 1) := by decide +kernel
abbrev rm_B_move : Room := { frames := 9, cells := 5, slots := 30, locals := 140 }
theorem ce_B_move : gCe y_B_move (.code y_B_move b_B_move 9 (some .boolean)) 9 5 false := gCe.code wd_681 wd_49 wd_679 (by decide) (by decide +kernel)
def f_B_move (g0 : gG) (a0 : Nat) (p1 : Int32) (p2 : Int64) (p3 : Int64) (p4 : Int32) (p5 : Int32) (w : gW) : gX Int32 := (gck w a0 0).bind fun _ => gbind (f_B_placementAt g0 a0 p1 w) fun v5 w => gbind (f_B_needPosition g0 p2 p3 p4 p5 w) fun v8 w => (gck w v5 5).bind fun _ => gbind (f_Pl_isAt g0 v5 p2 p3 p4 p5 w) fun v13 w => if v13 = 0 then ((gck w v5 5).bind fun _ => gbind (f_Pl_goTo g0 v5 p2 p3 p4 p5 w) fun v19 w => (gck w a0 0).bind fun _ => gbind (f_B_forgetRelationsAt g0 a0 p1 w) fun v24 w => gguard ((1 : Int32) = 0 ∨ (1 : Int32) = 1) (some (.inr 1, w))) else (gguard ((0 : Int32) = 0 ∨ (0 : Int32) = 1) (some (.inr 0, w)))
set_option maxHeartbeats 4000000 in
set_option maxRecDepth 100000 in
theorem m_B_move (l : Launch) (hst : l.stackTraces = false) (D : gD) (g0 : gG) (a0 : Nat) (p1 : Int32) (p2 : Int64) (p3 : Int64) (p4 : Int32) (p5 : Int32) (w : gW) (r : (String ⊕ Int32) × gW) (h : f_B_move g0 a0 p1 p2 p3 p4 p5 w = some r) : gMet l y_B_move (.code y_B_move b_B_move 9 (some .boolean)) rm_B_move D g0 [.ref a0, .int p1, .long p2, .long p3, .int p4, .int p5] w (goI r) := by
  refine gw_ofZ (by decide +kernel) (Nat.le_of_ble_eq_true rfl) ?_
  intro p e s m below meth c ls args A Q hx hb hml hown hlocks hin hnt hT hK hZ hA hret hexc hthr hI hl
  obtain ⟨H, hH⟩ : ∃ H, H = s.heap := ⟨_, rfl⟩
  rw [← hH] at hI ⊢
  obtain ⟨locs, hlocs⟩ : ∃ z : List Loc, z = [] := ⟨_, rfl⟩
  rw [← hlocs] at hI ⊢
  have hl : lv_has ls 9 [(0, .ref a0), (1, .int p1), (2, .long p2), (4, .long p3), (6, .int p4), (7, .int p5)] := hl
  unfold f_B_move at h
  refine lv_aload_n hx hb d_B_move_0 rfl (lv_at hl 0 rfl) ?_
  refine lv_iload_n hx hb d_B_move_1 rfl (lv_at hl 1 rfl) ?_
  obtain ⟨q3, e4, h⟩ := gb h
  obtain ⟨u1, e2⟩ := gsome h
  refine gw_callA e2 h (gw_runV (As := [.int p1]) (rest := []) hx hb hml hown hT hK hZ hA hI (ci := 0) rfl e4 (m_B_placementAt l hst D g0 a0 p1 w u1 e2) ce_B_placementAt wd_682 wd_15 ⟨by decide, by decide⟩ rfl rfl hl.1 rfl (lv_room (Nat.le_of_ble_eq_true rfl)) d_B_move_2 ⟨(show 0 + 1 ≤ 5 by omega), (show 0 + 6 ≤ 30 by omega)⟩) hI hA hexc (show 0 + 1 ≤ 5 by omega) (show 0 + 6 ≤ 30 by omega) (fun v5 w H locs h hI => ?_)
  refine W.widen (k := 1) (n := 6) (show 0 + 1 ≤ 1 by omega) (show 0 + 6 ≤ 6 by omega) ?_
  refine lv_astore (lv' := [(8, .ref v5), (0, .ref a0), (1, .int p1), (2, .long p2), (4, .long p3), (6, .int p4), (7, .int p5)]) hx hb d_B_move_5 hl (by decide) rfl (fun ls hl => ?_)
  refine lv_lload_n hx hb d_B_move_7 rfl (lv_at hl 3 rfl) ?_
  refine lv_lload hx hb d_B_move_8 (lv_at hl 4 rfl) ?_
  refine lv_iload hx hb d_B_move_10 (lv_at hl 5 rfl) ?_
  refine lv_iload hx hb d_B_move_12 (lv_at hl 6 rfl) ?_
  obtain ⟨u6, e7⟩ := gsome h
  refine gw_callV e7 h (gw_runS (As := [.long p2, .long p3, .int p4, .int p5]) (rest := []) hx hb hml hown hT hK hZ hA hI (m_B_needPosition l hst D g0 p2 p3 p4 p5 w u6 e7) ce_B_needPosition wd_642 ⟨by decide, by decide⟩ rfl rfl hl.1 rfl (lv_room (Nat.le_of_ble_eq_true rfl)) d_B_move_14 ⟨(show 1 + 4 ≤ 5 by omega), (show 6 + 24 ≤ 30 by omega)⟩) hI hA hexc (show 1 + 4 ≤ 5 by omega) (show 6 + 24 ≤ 30 by omega) (fun v8 w H locs h hI => ?_)
  refine W.widen (k := 5) (n := 30) (show 1 + 4 ≤ 5 by omega) (show 6 + 24 ≤ 30 by omega) ?_
  refine lv_aload hx hb d_B_move_17 (lv_at hl 0 rfl) ?_
  refine lv_lload_n hx hb d_B_move_19 rfl (lv_at hl 3 rfl) ?_
  refine lv_lload hx hb d_B_move_20 (lv_at hl 4 rfl) ?_
  refine lv_iload hx hb d_B_move_22 (lv_at hl 5 rfl) ?_
  refine lv_iload hx hb d_B_move_24 (lv_at hl 6 rfl) ?_
  obtain ⟨q11, e12, h⟩ := gb h
  obtain ⟨u9, e10⟩ := gsome h
  refine gw_callI e10 h (gw_runV (As := [.long p2, .long p3, .int p4, .int p5]) (rest := []) hx hb hml hown hT hK hZ hA hI (ci := 5) rfl e12 (m_Pl_isAt l hst D g0 v5 p2 p3 p4 p5 w u9 e10) ce_Pl_isAt wd_686 wd_688 ⟨by decide, by decide⟩ rfl rfl hl.1 rfl (lv_room (Nat.le_of_ble_eq_true rfl)) d_B_move_26 ⟨(show 5 + 0 ≤ 5 by omega), (show 30 + 0 ≤ 30 by omega)⟩) hI hA hexc (show 5 + 0 ≤ 5 by omega) (show 30 + 0 ≤ 30 by omega) (fun v13 w H locs h hI => ?_)
  refine lv_if_eq (tgt := 34) hx hb d_B_move_29 (by decide) (fun c14 => ?_) (fun c14 => ?_)
  · skip
    have h := git c14 h
    refine lv_aload hx hb d_B_move_34 (lv_at hl 0 rfl) ?_
    refine lv_lload_n hx hb d_B_move_36 rfl (lv_at hl 3 rfl) ?_
    refine lv_lload hx hb d_B_move_37 (lv_at hl 4 rfl) ?_
    refine lv_iload hx hb d_B_move_39 (lv_at hl 5 rfl) ?_
    refine lv_iload hx hb d_B_move_41 (lv_at hl 6 rfl) ?_
    obtain ⟨q17, e18, h⟩ := gb h
    obtain ⟨u15, e16⟩ := gsome h
    refine gw_callV e16 h (gw_runV (As := [.long p2, .long p3, .int p4, .int p5]) (rest := []) hx hb hml hown hT hK hZ hA hI (ci := 5) rfl e18 (m_Pl_goTo l hst D g0 v5 p2 p3 p4 p5 w u15 e16) ce_Pl_goTo wd_671 wd_673 ⟨by decide, by decide⟩ rfl rfl hl.1 rfl (lv_room (Nat.le_of_ble_eq_true rfl)) d_B_move_43 ⟨(show 5 + 0 ≤ 5 by omega), (show 30 + 0 ≤ 30 by omega)⟩) hI hA hexc (show 5 + 0 ≤ 5 by omega) (show 30 + 0 ≤ 30 by omega) (fun v19 w H locs h hI => ?_)
    refine lv_aload_n hx hb d_B_move_46 rfl (lv_at hl 1 rfl) ?_
    refine lv_iload_n hx hb d_B_move_47 rfl (lv_at hl 2 rfl) ?_
    obtain ⟨q22, e23, h⟩ := gb h
    obtain ⟨u20, e21⟩ := gsome h
    refine gw_callV e21 h (gw_runV (As := [.int p1]) (rest := []) hx hb hml hown hT hK hZ hA hI (ci := 0) rfl e23 (m_B_forgetRelationsAt l hst D g0 a0 p1 w u20 e21) ce_B_forgetRelationsAt wd_564 wd_10 ⟨by decide, by decide⟩ rfl rfl hl.1 rfl (lv_room (Nat.le_of_ble_eq_true rfl)) d_B_move_48 ⟨(show 5 + 0 ≤ 5 by omega), (show 30 + 0 ≤ 30 by omega)⟩) hI hA hexc (show 5 + 0 ≤ 5 by omega) (show 30 + 0 ≤ 30 by omega) (fun v24 w H locs h hI => ?_)
    refine lv_iconst (v := 1) hx hb d_B_move_51 (by decide) ?_
    obtain ⟨g25, h⟩ := gif h
    exact W.widen (show 5 ≤ 5 by omega) (show 30 ≤ 30 by omega) (hret g25 0 _ (Option.some.inj h).symm _ _ _ _ d_B_move_52 hI)
  · skip
    have h := gie c14 h
    refine lv_iconst (v := 0) hx hb d_B_move_32 (by decide) ?_
    obtain ⟨g26, h⟩ := gif h
    exact W.widen (show 5 ≤ 5 by omega) (show 30 ≤ 30 by omega) (hret g26 0 _ (Option.some.inj h).symm _ _ _ _ d_B_move_33 hI)

abbrev b_B_pair : ByteArray := prog_1_method_13_code
def y_B_pair : MethodName := ⟨"BodySolids", "pair", "(II)I"⟩
theorem d_B_pair_0 : decode b_B_pair 0 = .ok (.iload_n 2, 1) := by decide +kernel
theorem d_B_pair_1 : decode b_B_pair 1 = .ok (.iconst 2, 1) := by decide +kernel
theorem d_B_pair_2 : decode b_B_pair 2 = .ok (.invokestatic 190, 3) := by decide +kernel
theorem d_B_pair_5 : decode b_B_pair 5 = .ok (.iconst 0, 1) := by decide +kernel
theorem d_B_pair_6 : decode b_B_pair 6 = .ok (.istore_n 3, 1) := by decide +kernel
theorem d_B_pair_7 : decode b_B_pair 7 = .ok (.iconst 0, 1) := by decide +kernel
theorem d_B_pair_8 : decode b_B_pair 8 = .ok (.istore 4, 2) := by decide +kernel
theorem d_B_pair_10 : decode b_B_pair 10 = .ok (.iload 4, 2) := by decide +kernel
theorem d_B_pair_12 : decode b_B_pair 12 = .ok (.aload_n 0, 1) := by decide +kernel
theorem d_B_pair_13 : decode b_B_pair 13 = .ok (.getfield 31, 3) := by decide +kernel
theorem d_B_pair_16 : decode b_B_pair 16 = .ok (.invokevirtual 68, 3) := by decide +kernel
theorem d_B_pair_19 : decode b_B_pair 19 = .ok (.if_icmp .ge 65, 3) := by decide +kernel
theorem d_B_pair_22 : decode b_B_pair 22 = .ok (.iload 4, 2) := by decide +kernel
theorem d_B_pair_24 : decode b_B_pair 24 = .ok (.iconst 1, 1) := by decide +kernel
theorem d_B_pair_25 : decode b_B_pair 25 = .ok (.iadd, 1) := by decide +kernel
theorem d_B_pair_26 : decode b_B_pair 26 = .ok (.istore 5, 2) := by decide +kernel
theorem d_B_pair_28 : decode b_B_pair 28 = .ok (.iload 5, 2) := by decide +kernel
theorem d_B_pair_30 : decode b_B_pair 30 = .ok (.aload_n 0, 1) := by decide +kernel
theorem d_B_pair_31 : decode b_B_pair 31 = .ok (.getfield 31, 3) := by decide +kernel
theorem d_B_pair_34 : decode b_B_pair 34 = .ok (.invokevirtual 68, 3) := by decide +kernel
theorem d_B_pair_37 : decode b_B_pair 37 = .ok (.if_icmp .ge 41, 3) := by decide +kernel
theorem d_B_pair_40 : decode b_B_pair 40 = .ok (.aload_n 0, 1) := by decide +kernel
theorem d_B_pair_41 : decode b_B_pair 41 = .ok (.iload 4, 2) := by decide +kernel
theorem d_B_pair_43 : decode b_B_pair 43 = .ok (.iload 5, 2) := by decide +kernel
theorem d_B_pair_45 : decode b_B_pair 45 = .ok (.invokevirtual 186, 3) := by decide +kernel
theorem d_B_pair_48 : decode b_B_pair 48 = .ok (.iconst 1, 1) := by decide +kernel
theorem d_B_pair_49 : decode b_B_pair 49 = .ok (.if_icmp .ne 23, 3) := by decide +kernel
theorem d_B_pair_52 : decode b_B_pair 52 = .ok (.iload_n 3, 1) := by decide +kernel
theorem d_B_pair_53 : decode b_B_pair 53 = .ok (.iload_n 1, 1) := by decide +kernel
theorem d_B_pair_54 : decode b_B_pair 54 = .ok (.if_icmp .ne 15, 3) := by decide +kernel
theorem d_B_pair_57 : decode b_B_pair 57 = .ok (.iload_n 2, 1) := by decide +kernel
theorem d_B_pair_58 : decode b_B_pair 58 = .ok (.ifCond .ne 8, 3) := by decide +kernel
theorem d_B_pair_61 : decode b_B_pair 61 = .ok (.iload 4, 2) := by decide +kernel
theorem d_B_pair_63 : decode b_B_pair 63 = .ok (.goto 5, 3) := by decide +kernel
theorem d_B_pair_66 : decode b_B_pair 66 = .ok (.iload 5, 2) := by decide +kernel
theorem d_B_pair_68 : decode b_B_pair 68 = .ok (.ireturn, 1) := by decide +kernel
theorem d_B_pair_69 : decode b_B_pair 69 = .ok (.iinc 3 1, 3) := by decide +kernel
theorem d_B_pair_72 : decode b_B_pair 72 = .ok (.iinc 5 1, 3) := by decide +kernel
theorem d_B_pair_75 : decode b_B_pair 75 = .ok (.goto (-47), 3) := by decide +kernel
theorem d_B_pair_78 : decode b_B_pair 78 = .ok (.iinc 4 1, 3) := by decide +kernel
theorem d_B_pair_81 : decode b_B_pair 81 = .ok (.goto (-71), 3) := by decide +kernel
theorem d_B_pair_84 : decode b_B_pair 84 = .ok (.iconst (-1), 1) := by decide +kernel
theorem d_B_pair_85 : decode b_B_pair 85 = .ok (.ireturn, 1) := by decide +kernel
abbrev rm_B_pair : Room := { frames := 8, cells := 1, slots := 6, locals := 194 }
theorem ce_B_pair : gCe y_B_pair (.code y_B_pair b_B_pair 6 (some .int)) 6 2 false := gCe.code wd_703 wd_49 wd_701 (by decide) (by decide +kernel)
def f_B_pair_L28 (g0 : gG) (c0 : Nat) (c1 : Int32) (c2 : Int32) (c4 : Int32) (K78 : Int32 → gW → gX Int32) (K57 : Int32 → Int32 → gW → gX Int32) : Nat → Int32 → Int32 → gW → gX Int32
  | 0, _, _, _ => none
  | n + 1, z3, z5, w => (gfA w c0 0 2).bind fun v17 => (gck w v17 1).bind fun _ => gbind (f_AL_size g0 v17 w) fun v23 w => if v23 ≤ z5 then (K78 z3 w) else ((gck w c0 0).bind fun _ => gbind (f_B_relation g0 c0 c4 z5 w) fun v29 w => gjoin (fun K72 => if v29 = 1 then (if z3 = c1 then (K57 c4 z5 w) else (K72 (z3 + 1) w)) else (K72 z3 w)) (fun (x30 : Int32) (w : gW) => f_B_pair_L28 g0 c0 c1 c2 c4 K78 K57 n x30 (z5 + 1) w))
def f_B_pair_L10 (g0 : gG) (c0 : Nat) (c1 : Int32) (c2 : Int32) (K84 : gW → gX Int32) (K57 : Int32 → Int32 → gW → gX Int32) : Nat → Int32 → Int32 → gW → gX Int32
  | 0, _, _, _ => none
  | n + 1, z3, z4, w => (gfA w c0 0 2).bind fun v8 => (gck w v8 1).bind fun _ => gbind (f_AL_size g0 v8 w) fun v14 w => if v14 ≤ z4 then (K84 w) else (gjoin (fun K78 => f_B_pair_L28 g0 c0 c1 c2 z4 K78 K57 64 z3 (z4 + 1) w) (fun (x16 : Int32) (w : gW) => f_B_pair_L10 g0 c0 c1 c2 K84 K57 n x16 (z4 + 1) w))
def f_B_pair (g0 : gG) (a0 : Nat) (p1 : Int32) (p2 : Int32) (w : gW) : gX Int32 := gbind (f_B_needIndex g0 p2 2 w) fun v3 w => gjoin (fun K84 => gjoin (fun K57 => f_B_pair_L10 g0 a0 p1 p2 K84 K57 64 0 0 w) (fun (x4 : Int32) (x5 : Int32) (w : gW) => gjoin (fun K68 => if p2 = 0 then (K68 x4 w) else (K68 x5 w)) (fun (y6 : Int32) (w : gW) => some (.inr y6, w)))) (fun (w : gW) => some (.inr (-1), w))
set_option maxHeartbeats 4000000 in
set_option maxRecDepth 100000 in
theorem m_B_pair (l : Launch) (hst : l.stackTraces = false) (D : gD) (g0 : gG) (a0 : Nat) (p1 : Int32) (p2 : Int32) (w : gW) (r : (String ⊕ Int32) × gW) (h : f_B_pair g0 a0 p1 p2 w = some r) : gMet l y_B_pair (.code y_B_pair b_B_pair 6 (some .int)) rm_B_pair D g0 [.ref a0, .int p1, .int p2] w (goI r) := by
  refine gw_ofI (by decide +kernel) (Nat.le_of_ble_eq_true rfl) ?_
  intro p e s m below meth c ls args A Q hx hb hml hown hlocks hin hnt hT hK hZ hA hret hexc hthr hI hl
  obtain ⟨H, hH⟩ : ∃ H, H = s.heap := ⟨_, rfl⟩
  rw [← hH] at hI ⊢
  obtain ⟨locs, hlocs⟩ : ∃ z : List Loc, z = [] := ⟨_, rfl⟩
  rw [← hlocs] at hI ⊢
  have hl : lv_has ls 6 [(0, .ref a0), (1, .int p1), (2, .int p2)] := hl
  unfold f_B_pair at h
  refine lv_iload_n hx hb d_B_pair_0 rfl (lv_at hl 2 rfl) ?_
  refine lv_iconst (v := 2) hx hb d_B_pair_1 (by decide) ?_
  obtain ⟨u1, e2⟩ := gsome h
  refine gw_callV e2 h (gw_runS (As := [.int p2, .int 2]) (rest := []) hx hb hml hown hT hK hZ hA hI (m_B_needIndex l hst D g0 p2 2 w u1 e2) ce_B_needIndex wd_440 ⟨by decide, by decide⟩ rfl rfl hl.1 rfl (lv_room (Nat.le_of_ble_eq_true rfl)) d_B_pair_2 ⟨(show 0 + 1 ≤ 1 by omega), (show 0 + 6 ≤ 6 by omega)⟩) hI hA hexc (show 0 + 1 ≤ 1 by omega) (show 0 + 6 ≤ 6 by omega) (fun v3 w H locs h hI => ?_)
  refine W.widen (k := 1) (n := 6) (show 0 + 1 ≤ 1 by omega) (show 0 + 6 ≤ 6 by omega) ?_
  refine lv_iconst (v := 0) hx hb d_B_pair_5 (by decide) ?_
  refine lv_istore_n (lv' := [(3, .int 0), (0, .ref a0), (1, .int p1), (2, .int p2)]) hx hb d_B_pair_6 rfl hl (by decide) rfl (fun ls hl => ?_)
  refine lv_iconst (v := 0) hx hb d_B_pair_7 (by decide) ?_
  refine lv_istore (lv' := [(4, .int 0), (3, .int 0), (0, .ref a0), (1, .int p1), (2, .int p2)]) hx hb d_B_pair_8 hl (by decide) rfl (fun ls hl => ?_)
  obtain ⟨K84, eK84, h⟩ := gj h
  have hK84 : ∀ (w : gW) (H : Heap) (locs : List Loc) (ls : Array Slot), K84 w = some r → gI D s A w H locs → lv_has ls 6 [] → W p l e rm_B_pair s m args below meth c H locs 1 6 Q (F0 m 84 ls []) := by
    intro w H locs ls h hI hl
    have h := gk1 eK84 h
    refine lv_iconst (v := -1) hx hb d_B_pair_84 (by decide) ?_
    exact W.widen (show 1 ≤ 1 by omega) (show 6 ≤ 6 by omega) (hret _ _ (Option.some.inj h).symm _ _ _ _ d_B_pair_85 hI)
  obtain ⟨K57, eK57, h⟩ := gj h
  have hK57 : ∀ (x4 : Int32) (x5 : Int32) (w : gW) (H : Heap) (locs : List Loc) (ls : Array Slot), K57 x4 x5 w = some r → gI D s A w H locs → lv_has ls 6 [(2, .int p2), (4, .int x4), (5, .int x5)] → W p l e rm_B_pair s m args below meth c H locs 1 6 Q (F0 m 57 ls []) := by
    intro x4 x5 w H locs ls h hI hl
    have h := gk3 eK57 h
    refine lv_iload_n hx hb d_B_pair_57 rfl (lv_at hl 0 rfl) ?_
    obtain ⟨K68, eK68, h⟩ := gj h
    have hK68 : ∀ (y6 : Int32) (w : gW) (H : Heap) (locs : List Loc) (ls : Array Slot), K68 y6 w = some r → gI D s A w H locs → lv_has ls 6 [] → W p l e rm_B_pair s m args below meth c H locs 1 6 Q (F0 m 68 ls [.int y6]) := by
      intro y6 w H locs ls h hI hl
      have h := gk2 eK68 h
      exact W.widen (show 1 ≤ 1 by omega) (show 6 ≤ 6 by omega) (hret _ _ (Option.some.inj h).symm _ _ _ _ d_B_pair_68 hI)
    refine lv_if_ne (tgt := 66) hx hb d_B_pair_58 (by decide) (fun c7 => ?_) (fun c7 => ?_)
    · skip
      have h := gie c7 h
      refine lv_iload hx hb d_B_pair_66 (lv_at hl 2 rfl) ?_
      exact hK68 _ w H locs ls h hI (lv_sub hl [] rfl)
    · skip
      have h := git c7 h
      refine lv_iload hx hb d_B_pair_61 (lv_at hl 1 rfl) ?_
      refine lv_goto (tgt := 68) hx hb d_B_pair_63 (by decide) ?_
      exact hK68 _ w H locs ls h hI (lv_sub hl [] rfl)
  have hL10 : ∀ (n : Nat), ∀ (z8 : Int32) (z9 : Int32) (w : gW) (H : Heap) (locs : List Loc) (ls : Array Slot), f_B_pair_L10 g0 a0 p1 p2 K84 K57 n z8 z9 w = some r → gI D s A w H locs → lv_has ls 6 [(0, .ref a0), (1, .int p1), (2, .int p2), (3, .int z8), (4, .int z9)] → W p l e rm_B_pair s m args below meth c H locs 1 6 Q (F0 m 10 ls []) := by
    intro n
    induction n with
    | zero => intro z8 z9 w H locs ls h hI hl; exact absurd h (by simp [f_B_pair_L10])
    | succ n ih =>
      intro z8 z9 w H locs ls h hI hl
      rw [f_B_pair_L10] at h
      refine lv_iload hx hb d_B_pair_10 (lv_at hl 4 rfl) ?_
      refine lv_aload_n hx hb d_B_pair_12 rfl (lv_at hl 0 rfl) ?_
      obtain ⟨v10, e11, h⟩ := gb h
      refine gw_getA hx hb hT hown hK hI (ci := 0) rfl i_0 2 (by decide) wd_191 (fun _ h9 => h9) e11 d_B_pair_13 ?_
      obtain ⟨q14, e15, h⟩ := gb h
      obtain ⟨u12, e13⟩ := gsome h
      refine gw_callI e13 h (gw_runV (As := []) (rest := [.int z9]) hx hb hml hown hT hK hZ hA hI (ci := 1) rfl e15 (m_AL_size l hst D g0 v10 w u12 e13) ce_AL_size wd_224 wd_226 ⟨by decide, by decide⟩ rfl rfl hl.1 rfl (lv_room (Nat.le_of_ble_eq_true rfl)) d_B_pair_16 ⟨(show 1 + 0 ≤ 1 by omega), (show 6 + 0 ≤ 6 by omega)⟩) hI hA hexc (show 1 + 0 ≤ 1 by omega) (show 6 + 0 ≤ 6 by omega) (fun v16 w H locs h hI => ?_)
      refine lv_icmp_ge (tgt := 84) hx hb d_B_pair_19 (by decide) (fun c17 => ?_) (fun c17 => ?_)
      · skip
        have h := git c17 h
        exact hK84 w H locs ls h hI (lv_sub hl [] rfl)
      · skip
        have h := gie c17 h
        refine lv_iload hx hb d_B_pair_22 (lv_at hl 4 rfl) ?_
        refine lv_iconst (v := 1) hx hb d_B_pair_24 (by decide) ?_
        refine lv_iadd hx hb d_B_pair_25 ?_
        refine lv_istore (lv' := [(5, .int (z9 + 1)), (0, .ref a0), (1, .int p1), (2, .int p2), (3, .int z8), (4, .int z9)]) hx hb d_B_pair_26 hl (by decide) rfl (fun ls hl => ?_)
        obtain ⟨K78, eK78, h⟩ := gj h
        have hK78 : ∀ (x18 : Int32) (w : gW) (H : Heap) (locs : List Loc) (ls : Array Slot), K78 x18 w = some r → gI D s A w H locs → lv_has ls 6 [(0, .ref a0), (1, .int p1), (2, .int p2), (3, .int x18), (4, .int z9)] → W p l e rm_B_pair s m args below meth c H locs 1 6 Q (F0 m 78 ls []) := by
          intro x18 w H locs ls h hI hl
          have h := gk2 eK78 h
          refine lv_iinc (v := z9 + 1) (lv' := [(4, .int (z9 + 1)), (0, .ref a0), (1, .int p1), (2, .int p2), (3, .int x18)]) hx hb d_B_pair_78 hl (k := 4) rfl rfl (by decide) rfl (fun ls hl => ?_)
          refine lv_goto (tgt := 10) hx hb d_B_pair_81 (by decide) ?_
          exact ih _ _ w H locs ls h hI (lv_sub hl [1, 2, 3, 4, 0] rfl)
        have hL28 : ∀ (n : Nat), ∀ (z19 : Int32) (z20 : Int32) (w : gW) (H : Heap) (locs : List Loc) (ls : Array Slot), f_B_pair_L28 g0 a0 p1 p2 z9 K78 K57 n z19 z20 w = some r → gI D s A w H locs → lv_has ls 6 [(0, .ref a0), (1, .int p1), (2, .int p2), (4, .int z9), (3, .int z19), (5, .int z20)] → W p l e rm_B_pair s m args below meth c H locs 1 6 Q (F0 m 28 ls []) := by
          intro n
          induction n with
          | zero => intro z19 z20 w H locs ls h hI hl; exact absurd h (by simp [f_B_pair_L28])
          | succ n ih =>
            intro z19 z20 w H locs ls h hI hl
            rw [f_B_pair_L28] at h
            refine lv_iload hx hb d_B_pair_28 (lv_at hl 5 rfl) ?_
            refine lv_aload_n hx hb d_B_pair_30 rfl (lv_at hl 0 rfl) ?_
            obtain ⟨v21, e22, h⟩ := gb h
            refine gw_getA hx hb hT hown hK hI (ci := 0) rfl i_0 2 (by decide) wd_191 (fun _ h9 => h9) e22 d_B_pair_31 ?_
            obtain ⟨q25, e26, h⟩ := gb h
            obtain ⟨u23, e24⟩ := gsome h
            refine gw_callI e24 h (gw_runV (As := []) (rest := [.int z20]) hx hb hml hown hT hK hZ hA hI (ci := 1) rfl e26 (m_AL_size l hst D g0 v21 w u23 e24) ce_AL_size wd_224 wd_226 ⟨by decide, by decide⟩ rfl rfl hl.1 rfl (lv_room (Nat.le_of_ble_eq_true rfl)) d_B_pair_34 ⟨(show 1 + 0 ≤ 1 by omega), (show 6 + 0 ≤ 6 by omega)⟩) hI hA hexc (show 1 + 0 ≤ 1 by omega) (show 6 + 0 ≤ 6 by omega) (fun v27 w H locs h hI => ?_)
            refine lv_icmp_ge (tgt := 78) hx hb d_B_pair_37 (by decide) (fun c28 => ?_) (fun c28 => ?_)
            · skip
              have h := git c28 h
              exact hK78 _ w H locs ls h hI (lv_sub hl [0, 1, 2, 4, 3] rfl)
            · skip
              have h := gie c28 h
              refine lv_aload_n hx hb d_B_pair_40 rfl (lv_at hl 0 rfl) ?_
              refine lv_iload hx hb d_B_pair_41 (lv_at hl 3 rfl) ?_
              refine lv_iload hx hb d_B_pair_43 (lv_at hl 5 rfl) ?_
              obtain ⟨q31, e32, h⟩ := gb h
              obtain ⟨u29, e30⟩ := gsome h
              refine gw_callI e30 h (gw_runV (As := [.int z9, .int z20]) (rest := []) hx hb hml hown hT hK hZ hA hI (ci := 0) rfl e32 (m_B_relation l hst D g0 a0 z9 z20 w u29 e30) ce_B_relation wd_312 wd_4 ⟨by decide, by decide⟩ rfl rfl hl.1 rfl (lv_room (Nat.le_of_ble_eq_true rfl)) d_B_pair_45 ⟨(show 1 + 0 ≤ 1 by omega), (show 6 + 0 ≤ 6 by omega)⟩) hI hA hexc (show 1 + 0 ≤ 1 by omega) (show 6 + 0 ≤ 6 by omega) (fun v33 w H locs h hI => ?_)
              refine lv_iconst (v := 1) hx hb d_B_pair_48 (by decide) ?_
              obtain ⟨K72, eK72, h⟩ := gj h
              have hK72 : ∀ (x34 : Int32) (w : gW) (H : Heap) (locs : List Loc) (ls : Array Slot), K72 x34 w = some r → gI D s A w H locs → lv_has ls 6 [(0, .ref a0), (1, .int p1), (2, .int p2), (3, .int x34), (4, .int z9), (5, .int z20)] → W p l e rm_B_pair s m args below meth c H locs 1 6 Q (F0 m 72 ls []) := by
                intro x34 w H locs ls h hI hl
                have h := gk2 eK72 h
                refine lv_iinc (v := z20 + 1) (lv' := [(5, .int (z20 + 1)), (0, .ref a0), (1, .int p1), (2, .int p2), (3, .int x34), (4, .int z9)]) hx hb d_B_pair_72 hl (k := 5) rfl rfl (by decide) rfl (fun ls hl => ?_)
                refine lv_goto (tgt := 28) hx hb d_B_pair_75 (by decide) ?_
                exact ih _ _ w H locs ls h hI (lv_sub hl [1, 2, 3, 5, 4, 0] rfl)
              refine lv_icmp_ne (tgt := 72) hx hb d_B_pair_49 (by decide) (fun c35 => ?_) (fun c35 => ?_)
              · skip
                have h := gie c35 h
                exact hK72 _ w H locs ls h hI (lv_sub hl [0, 1, 2, 4, 3, 5] rfl)
              · skip
                have h := git c35 h
                refine lv_iload_n hx hb d_B_pair_52 rfl (lv_at hl 4 rfl) ?_
                refine lv_iload_n hx hb d_B_pair_53 rfl (lv_at hl 1 rfl) ?_
                refine lv_icmp_ne (tgt := 69) hx hb d_B_pair_54 (by decide) (fun c36 => ?_) (fun c36 => ?_)
                · skip
                  have h := gie c36 h
                  refine lv_iinc (v := z19 + 1) (lv' := [(3, .int (z19 + 1)), (0, .ref a0), (1, .int p1), (2, .int p2), (4, .int z9), (5, .int z20)]) hx hb d_B_pair_69 hl (k := 4) rfl rfl (by decide) rfl (fun ls hl => ?_)
                  exact hK72 _ w H locs ls h hI (lv_sub hl [1, 2, 3, 0, 4, 5] rfl)
                · skip
                  have h := git c36 h
                  exact hK57 _ _ w H locs ls h hI (lv_sub hl [2, 3, 5] rfl)
        exact hL28 64 _ _ w H locs ls h hI (lv_sub hl [1, 2, 3, 5, 4, 0] rfl)
  exact hL10 64 _ _ w H locs ls h hI (lv_sub hl [2, 3, 4, 1, 0] rfl)

abbrev b_B_place : ByteArray := prog_1_method_9_code
def y_B_place : MethodName := ⟨"BodySolids", "place", "(IJJII)I"⟩
theorem d_B_place_0 : decode b_B_place 0 = .ok (.aload_n 0, 1) := by decide +kernel
theorem d_B_place_1 : decode b_B_place 1 = .ok (.iload_n 1, 1) := by decide +kernel
theorem d_B_place_2 : decode b_B_place 2 = .ok (.invokevirtual 79, 3) := by decide +kernel
theorem d_B_place_5 : decode b_B_place 5 = .ok (.astore 8, 2) := by decide +kernel
theorem d_B_place_7 : decode b_B_place 7 = .ok (.lload_n 2, 1) := by decide +kernel
theorem d_B_place_8 : decode b_B_place 8 = .ok (.lload 4, 2) := by decide +kernel
theorem d_B_place_10 : decode b_B_place 10 = .ok (.iload 6, 2) := by decide +kernel
theorem d_B_place_12 : decode b_B_place 12 = .ok (.iload 7, 2) := by decide +kernel
theorem d_B_place_14 : decode b_B_place 14 = .ok (.invokestatic 160, 3) := by decide +kernel
theorem d_B_place_17 : decode b_B_place 17 = .ok (.aload_n 0, 1) := by decide +kernel
theorem d_B_place_18 : decode b_B_place 18 = .ok (.getfield 31, 3) := by decide +kernel
theorem d_B_place_21 : decode b_B_place 21 = .ok (.invokevirtual 68, 3) := by decide +kernel
theorem d_B_place_24 : decode b_B_place 24 = .ok (.istore 9, 2) := by decide +kernel
theorem d_B_place_26 : decode b_B_place 26 = .ok (.iload 9, 2) := by decide +kernel
theorem d_B_place_28 : decode b_B_place 28 = .ok (.bipush 30, 2) := by decide +kernel
theorem d_B_place_30 : decode b_B_place 30 = .ok (.if_icmp .lt 5, 3) := by decide +kernel
theorem d_B_place_33 : decode b_B_place 33 = .ok (.iconst (-1), 1) := by decide +kernel
theorem d_B_place_34 : decode b_B_place 34 = .ok (.ireturn, 1) := by decide +kernel
theorem d_B_place_35 : decode b_B_place 35 = .ok (.new 164, 3) := by decide +kernel
theorem d_B_place_38 : decode b_B_place 38 = .ok (.dup, 1) := by decide +kernel
theorem d_B_place_39 : decode b_B_place 39 = .ok (.aload 8, 2) := by decide +kernel
theorem d_B_place_41 : decode b_B_place 41 = .ok (.invokespecial 166, 3) := by decide +kernel
theorem d_B_place_44 : decode b_B_place 44 = .ok (.astore 10, 2) := by decide +kernel
theorem d_B_place_46 : decode b_B_place 46 = .ok (.aload 10, 2) := by decide +kernel
theorem d_B_place_48 : decode b_B_place 48 = .ok (.lload_n 2, 1) := by decide +kernel
theorem d_B_place_49 : decode b_B_place 49 = .ok (.lload 4, 2) := by decide +kernel
theorem d_B_place_51 : decode b_B_place 51 = .ok (.iload 6, 2) := by decide +kernel
theorem d_B_place_53 : decode b_B_place 53 = .ok (.iload 7, 2) := by decide +kernel
theorem d_B_place_55 : decode b_B_place 55 = .ok (.invokevirtual 168, 3) := by decide +kernel
theorem d_B_place_58 : decode b_B_place 58 = .ok (.aload_n 0, 1) := by decide +kernel
theorem d_B_place_59 : decode b_B_place 59 = .ok (.getfield 31, 3) := by decide +kernel
theorem d_B_place_62 : decode b_B_place 62 = .ok (.aload 10, 2) := by decide +kernel
theorem d_B_place_64 : decode b_B_place 64 = .ok (.invokevirtual 171, 3) := by decide +kernel
theorem d_B_place_67 : decode b_B_place 67 = .ok (.pop, 1) := by decide +kernel
theorem d_B_place_68 : decode b_B_place 68 = .ok (.iload 9, 2) := by decide +kernel
theorem d_B_place_70 : decode b_B_place 70 = .ok (.ireturn, 1) := by decide +kernel
abbrev rm_B_place : Room := { frames := 9, cells := 7, slots := 99, locals := 179 }
theorem ce_B_place : gCe y_B_place (.code y_B_place b_B_place 11 (some .int)) 11 5 false := gCe.code wd_641 wd_49 wd_639 (by decide) (by decide +kernel)
def f_B_place (g0 : gG) (a0 : Nat) (p1 : Int32) (p2 : Int64) (p3 : Int64) (p4 : Int32) (p5 : Int32) (w : gW) : gX Int32 := (gck w a0 0).bind fun _ => gbind (f_B_bodyAt g0 a0 p1 w) fun v5 w => gbind (f_B_needPosition g0 p2 p3 p4 p5 w) fun v8 w => (gfA w a0 0 2).bind fun v9 => (gck w v9 1).bind fun _ => gbind (f_AL_size g0 v9 w) fun v15 w => if v15 < 30 then (gb2f (gnw w 5 [.null, .long 0, .long 0, .int 0, .int 0]) fun o17 w => gbind (f_Pl_init g0 o17 v5 w) fun v21 w => (gck w o17 5).bind fun _ => gbind (f_Pl_goTo g0 o17 p2 p3 p4 p5 w) fun v26 w => (gfA w a0 0 2).bind fun v27 => (gck w v27 1).bind fun _ => gbind (f_AL_add g0 v27 o17 w) fun v33 w => some (.inr v15, w)) else (some (.inr (-1), w))
set_option maxHeartbeats 4000000 in
set_option maxRecDepth 100000 in
theorem m_B_place (l : Launch) (hst : l.stackTraces = false) (D : gD) (g0 : gG) (a0 : Nat) (p1 : Int32) (p2 : Int64) (p3 : Int64) (p4 : Int32) (p5 : Int32) (w : gW) (r : (String ⊕ Int32) × gW) (h : f_B_place g0 a0 p1 p2 p3 p4 p5 w = some r) : gMet l y_B_place (.code y_B_place b_B_place 11 (some .int)) rm_B_place D g0 [.ref a0, .int p1, .long p2, .long p3, .int p4, .int p5] w (goI r) := by
  refine gw_ofI (by decide +kernel) (Nat.le_of_ble_eq_true rfl) ?_
  intro p e s m below meth c ls args A Q hx hb hml hown hlocks hin hnt hT hK hZ hA hret hexc hthr hI hl
  obtain ⟨H, hH⟩ : ∃ H, H = s.heap := ⟨_, rfl⟩
  rw [← hH] at hI ⊢
  obtain ⟨locs, hlocs⟩ : ∃ z : List Loc, z = [] := ⟨_, rfl⟩
  rw [← hlocs] at hI ⊢
  have hl : lv_has ls 11 [(0, .ref a0), (1, .int p1), (2, .long p2), (4, .long p3), (6, .int p4), (7, .int p5)] := hl
  unfold f_B_place at h
  refine lv_aload_n hx hb d_B_place_0 rfl (lv_at hl 0 rfl) ?_
  refine lv_iload_n hx hb d_B_place_1 rfl (lv_at hl 1 rfl) ?_
  obtain ⟨q3, e4, h⟩ := gb h
  obtain ⟨u1, e2⟩ := gsome h
  refine gw_callA e2 h (gw_runV (As := [.int p1]) (rest := []) hx hb hml hown hT hK hZ hA hI (ci := 0) rfl e4 (m_B_bodyAt l hst D g0 a0 p1 w u1 e2) ce_B_bodyAt wd_436 wd_7 ⟨by decide, by decide⟩ rfl rfl hl.1 rfl (lv_room (Nat.le_of_ble_eq_true rfl)) d_B_place_2 ⟨(show 0 + 1 ≤ 7 by omega), (show 0 + 6 ≤ 99 by omega)⟩) hI hA hexc (show 0 + 1 ≤ 7 by omega) (show 0 + 6 ≤ 99 by omega) (fun v5 w H locs h hI => ?_)
  refine W.widen (k := 1) (n := 6) (show 0 + 1 ≤ 1 by omega) (show 0 + 6 ≤ 6 by omega) ?_
  refine lv_astore (lv' := [(8, .ref v5), (0, .ref a0), (1, .int p1), (2, .long p2), (4, .long p3), (6, .int p4), (7, .int p5)]) hx hb d_B_place_5 hl (by decide) rfl (fun ls hl => ?_)
  refine lv_lload_n hx hb d_B_place_7 rfl (lv_at hl 3 rfl) ?_
  refine lv_lload hx hb d_B_place_8 (lv_at hl 4 rfl) ?_
  refine lv_iload hx hb d_B_place_10 (lv_at hl 5 rfl) ?_
  refine lv_iload hx hb d_B_place_12 (lv_at hl 6 rfl) ?_
  obtain ⟨u6, e7⟩ := gsome h
  refine gw_callV e7 h (gw_runS (As := [.long p2, .long p3, .int p4, .int p5]) (rest := []) hx hb hml hown hT hK hZ hA hI (m_B_needPosition l hst D g0 p2 p3 p4 p5 w u6 e7) ce_B_needPosition wd_642 ⟨by decide, by decide⟩ rfl rfl hl.1 rfl (lv_room (Nat.le_of_ble_eq_true rfl)) d_B_place_14 ⟨(show 1 + 4 ≤ 7 by omega), (show 6 + 24 ≤ 99 by omega)⟩) hI hA hexc (show 1 + 4 ≤ 7 by omega) (show 6 + 24 ≤ 99 by omega) (fun v8 w H locs h hI => ?_)
  refine W.widen (k := 5) (n := 30) (show 1 + 4 ≤ 5 by omega) (show 6 + 24 ≤ 30 by omega) ?_
  refine lv_aload_n hx hb d_B_place_17 rfl (lv_at hl 1 rfl) ?_
  obtain ⟨v9, e10, h⟩ := gb h
  refine gw_getA hx hb hT hown hK hI (ci := 0) rfl i_0 2 (by decide) wd_191 (fun _ h9 => h9) e10 d_B_place_18 ?_
  obtain ⟨q13, e14, h⟩ := gb h
  obtain ⟨u11, e12⟩ := gsome h
  refine gw_callI e12 h (gw_runV (As := []) (rest := []) hx hb hml hown hT hK hZ hA hI (ci := 1) rfl e14 (m_AL_size l hst D g0 v9 w u11 e12) ce_AL_size wd_224 wd_226 ⟨by decide, by decide⟩ rfl rfl hl.1 rfl (lv_room (Nat.le_of_ble_eq_true rfl)) d_B_place_21 ⟨(show 5 + 0 ≤ 7 by omega), (show 30 + 0 ≤ 99 by omega)⟩) hI hA hexc (show 5 + 0 ≤ 7 by omega) (show 30 + 0 ≤ 99 by omega) (fun v15 w H locs h hI => ?_)
  refine lv_istore (lv' := [(9, .int v15), (8, .ref v5), (0, .ref a0), (1, .int p1), (2, .long p2), (4, .long p3), (6, .int p4), (7, .int p5)]) hx hb d_B_place_24 hl (by decide) rfl (fun ls hl => ?_)
  refine lv_iload hx hb d_B_place_26 (lv_at hl 0 rfl) ?_
  refine lv_bipush (v := 30) hx hb d_B_place_28 (by decide) ?_
  refine lv_icmp_lt (tgt := 35) hx hb d_B_place_30 (by decide) (fun c16 => ?_) (fun c16 => ?_)
  · skip
    have h := git c16 h
    obtain ⟨o17, w, e18, h⟩ := gb2 h
    refine gw_new hx hb hT hown hK hI hA (ci := 5) rfl i_5 t_5 t_5_ok wd_335 wd_646 wd_68 (fs := [.null, .long 0, .long 0, .int 0, .int 0]) df_5 e18 (show 5 + 1 ≤ 7 by omega) (show 30 + 5 ≤ 99 by omega) d_B_place_35 (fun H hI => ?_)
    refine W.widen (k := 6) (n := 35) (show 5 + 1 ≤ 6 by omega) (show 30 + 5 ≤ 35 by omega) ?_
    refine lv_dup hx hb d_B_place_38 rfl ?_
    refine lv_aload hx hb d_B_place_39 (lv_at hl 1 rfl) ?_
    obtain ⟨u19, e20⟩ := gsome h
    refine gw_callV e20 h (gw_runI (As := [.ref v5]) (rest := [.ref o17]) hx hb hml hown hT hK hZ hA hI (m_Pl_init l hst D g0 o17 v5 w u19 e20) ce_Pl_init wd_647 rfl ⟨by decide, by decide⟩ rfl rfl hl.1 rfl (lv_room (Nat.le_of_ble_eq_true rfl)) d_B_place_41 ⟨(show 6 + 0 ≤ 7 by omega), (show 35 + 0 ≤ 99 by omega)⟩) hI hA hexc (show 6 + 0 ≤ 7 by omega) (show 35 + 0 ≤ 99 by omega) (fun v21 w H locs h hI => ?_)
    refine lv_astore (lv' := [(10, .ref o17), (9, .int v15), (8, .ref v5), (0, .ref a0), (1, .int p1), (2, .long p2), (4, .long p3), (6, .int p4), (7, .int p5)]) hx hb d_B_place_44 hl (by decide) rfl (fun ls hl => ?_)
    refine lv_aload hx hb d_B_place_46 (lv_at hl 0 rfl) ?_
    refine lv_lload_n hx hb d_B_place_48 rfl (lv_at hl 5 rfl) ?_
    refine lv_lload hx hb d_B_place_49 (lv_at hl 6 rfl) ?_
    refine lv_iload hx hb d_B_place_51 (lv_at hl 7 rfl) ?_
    refine lv_iload hx hb d_B_place_53 (lv_at hl 8 rfl) ?_
    obtain ⟨q24, e25, h⟩ := gb h
    obtain ⟨u22, e23⟩ := gsome h
    refine gw_callV e23 h (gw_runV (As := [.long p2, .long p3, .int p4, .int p5]) (rest := []) hx hb hml hown hT hK hZ hA hI (ci := 5) rfl e25 (m_Pl_goTo l hst D g0 o17 p2 p3 p4 p5 w u22 e23) ce_Pl_goTo wd_671 wd_673 ⟨by decide, by decide⟩ rfl rfl hl.1 rfl (lv_room (Nat.le_of_ble_eq_true rfl)) d_B_place_55 ⟨(show 6 + 0 ≤ 7 by omega), (show 35 + 0 ≤ 99 by omega)⟩) hI hA hexc (show 6 + 0 ≤ 7 by omega) (show 35 + 0 ≤ 99 by omega) (fun v26 w H locs h hI => ?_)
    refine lv_aload_n hx hb d_B_place_58 rfl (lv_at hl 3 rfl) ?_
    obtain ⟨v27, e28, h⟩ := gb h
    refine gw_getA hx hb hT hown hK hI (ci := 0) rfl i_0 2 (by decide) wd_191 (fun _ h9 => h9) e28 d_B_place_59 ?_
    refine lv_aload hx hb d_B_place_62 (lv_at hl 0 rfl) ?_
    obtain ⟨q31, e32, h⟩ := gb h
    obtain ⟨u29, e30⟩ := gsome h
    refine gw_callI e30 h (gw_runV (As := [.ref o17]) (rest := []) hx hb hml hown hT hK hZ hA hI (ci := 1) rfl e32 (m_AL_add l hst D g0 v27 o17 w u29 e30) ce_AL_add wd_250 wd_252 ⟨by decide, by decide⟩ rfl rfl hl.1 rfl (lv_room (Nat.le_of_ble_eq_true rfl)) d_B_place_64 ⟨(show 6 + 1 ≤ 7 by omega), (show 35 + 64 ≤ 99 by omega)⟩) hI hA hexc (show 6 + 1 ≤ 7 by omega) (show 35 + 64 ≤ 99 by omega) (fun v33 w H locs h hI => ?_)
    refine W.widen (k := 7) (n := 99) (show 6 + 1 ≤ 7 by omega) (show 35 + 64 ≤ 99 by omega) ?_
    refine lv_pop hx hb d_B_place_67 rfl ?_
    refine lv_iload hx hb d_B_place_68 (lv_at hl 1 rfl) ?_
    exact W.widen (show 7 ≤ 7 by omega) (show 99 ≤ 99 by omega) (hret _ _ (Option.some.inj h).symm _ _ _ _ d_B_place_70 hI)
  · skip
    have h := gie c16 h
    refine lv_iconst (v := -1) hx hb d_B_place_33 (by decide) ?_
    exact W.widen (show 5 ≤ 7 by omega) (show 30 ≤ 99 by omega) (hret _ _ (Option.some.inj h).symm _ _ _ _ d_B_place_34 hI)

abbrev b_B_twiceAreaOfCorners : ByteArray := prog_1_method_30_code
def y_B_twiceAreaOfCorners : MethodName := ⟨"BodySolids", "twiceAreaOfCorners", "()J"⟩
theorem d_B_twiceAreaOfCorners_0 : decode b_B_twiceAreaOfCorners 0 = .ok (.lconst 0, 1) := by decide +kernel
theorem d_B_twiceAreaOfCorners_1 : decode b_B_twiceAreaOfCorners 1 = .ok (.lstore_n 1, 1) := by decide +kernel
theorem d_B_twiceAreaOfCorners_2 : decode b_B_twiceAreaOfCorners 2 = .ok (.iconst 2, 1) := by decide +kernel
theorem d_B_twiceAreaOfCorners_3 : decode b_B_twiceAreaOfCorners 3 = .ok (.istore_n 3, 1) := by decide +kernel
theorem d_B_twiceAreaOfCorners_4 : decode b_B_twiceAreaOfCorners 4 = .ok (.iload_n 3, 1) := by decide +kernel
theorem d_B_twiceAreaOfCorners_5 : decode b_B_twiceAreaOfCorners 5 = .ok (.aload_n 0, 1) := by decide +kernel
theorem d_B_twiceAreaOfCorners_6 : decode b_B_twiceAreaOfCorners 6 = .ok (.getfield 44, 3) := by decide +kernel
theorem d_B_twiceAreaOfCorners_9 : decode b_B_twiceAreaOfCorners 9 = .ok (.if_icmp .ge 21, 3) := by decide +kernel
theorem d_B_twiceAreaOfCorners_12 : decode b_B_twiceAreaOfCorners 12 = .ok (.lload_n 1, 1) := by decide +kernel
theorem d_B_twiceAreaOfCorners_13 : decode b_B_twiceAreaOfCorners 13 = .ok (.aload_n 0, 1) := by decide +kernel
theorem d_B_twiceAreaOfCorners_14 : decode b_B_twiceAreaOfCorners 14 = .ok (.iconst 0, 1) := by decide +kernel
theorem d_B_twiceAreaOfCorners_15 : decode b_B_twiceAreaOfCorners 15 = .ok (.iload_n 3, 1) := by decide +kernel
theorem d_B_twiceAreaOfCorners_16 : decode b_B_twiceAreaOfCorners 16 = .ok (.iconst 1, 1) := by decide +kernel
theorem d_B_twiceAreaOfCorners_17 : decode b_B_twiceAreaOfCorners 17 = .ok (.isub, 1) := by decide +kernel
theorem d_B_twiceAreaOfCorners_18 : decode b_B_twiceAreaOfCorners 18 = .ok (.iload_n 3, 1) := by decide +kernel
theorem d_B_twiceAreaOfCorners_19 : decode b_B_twiceAreaOfCorners 19 = .ok (.invokevirtual 265, 3) := by decide +kernel
theorem d_B_twiceAreaOfCorners_22 : decode b_B_twiceAreaOfCorners 22 = .ok (.ladd, 1) := by decide +kernel
theorem d_B_twiceAreaOfCorners_23 : decode b_B_twiceAreaOfCorners 23 = .ok (.lstore_n 1, 1) := by decide +kernel
theorem d_B_twiceAreaOfCorners_24 : decode b_B_twiceAreaOfCorners 24 = .ok (.iinc 3 1, 3) := by decide +kernel
theorem d_B_twiceAreaOfCorners_27 : decode b_B_twiceAreaOfCorners 27 = .ok (.goto (-23), 3) := by decide +kernel
theorem d_B_twiceAreaOfCorners_30 : decode b_B_twiceAreaOfCorners 30 = .ok (.lload_n 1, 1) := by decide +kernel
theorem d_B_twiceAreaOfCorners_31 : decode b_B_twiceAreaOfCorners 31 = .ok (.lreturn, 1) := by decide +kernel
abbrev rm_B_twiceAreaOfCorners : Room := { frames := 1, cells := 0, slots := 0, locals := 23 }
theorem ce_B_twiceAreaOfCorners : gCe y_B_twiceAreaOfCorners (.code y_B_twiceAreaOfCorners b_B_twiceAreaOfCorners 4 (some .long)) 4 0 false := gCe.code wd_607 wd_49 wd_606 (by decide) (by decide +kernel)
def f_B_twiceAreaOfCorners_L4 (g0 : gG) (c0 : Nat) (K30 : Int64 → gW → gX Int64) : Nat → Int64 → Int32 → gW → gX Int64
  | 0, _, _, _ => none
  | n + 1, z1, z3, w => (gfI w c0 0 6).bind fun v2 => if v2 ≤ z3 then (K30 z1 w) else ((gck w c0 0).bind fun _ => gbind (f_B_turnAt g0 c0 0 (z3 - 1) z3 w) fun v9 w => f_B_twiceAreaOfCorners_L4 g0 c0 K30 n (z1 + v9) (z3 + 1) w)
def f_B_twiceAreaOfCorners (g0 : gG) (a0 : Nat) (w : gW) : gX Int64 := gjoin (fun K30 => f_B_twiceAreaOfCorners_L4 g0 a0 K30 64 0 2 w) (fun (x1 : Int64) (w : gW) => some (.inr x1, w))
set_option maxHeartbeats 4000000 in
set_option maxRecDepth 100000 in
theorem m_B_twiceAreaOfCorners (l : Launch) (hst : l.stackTraces = false) (D : gD) (g0 : gG) (a0 : Nat) (w : gW) (r : (String ⊕ Int64) × gW) (h : f_B_twiceAreaOfCorners g0 a0 w = some r) : gMet l y_B_twiceAreaOfCorners (.code y_B_twiceAreaOfCorners b_B_twiceAreaOfCorners 4 (some .long)) rm_B_twiceAreaOfCorners D g0 [.ref a0] w (goJ r) := by
  refine gw_ofJ (by decide +kernel) (Nat.le_of_ble_eq_true rfl) ?_
  intro p e s m below meth c ls args A Q hx hb hml hown hlocks hin hnt hT hK hZ hA hret hexc hthr hI hl
  obtain ⟨H, hH⟩ : ∃ H, H = s.heap := ⟨_, rfl⟩
  rw [← hH] at hI ⊢
  obtain ⟨locs, hlocs⟩ : ∃ z : List Loc, z = [] := ⟨_, rfl⟩
  rw [← hlocs] at hI ⊢
  have hl : lv_has ls 4 [(0, .ref a0)] := hl
  unfold f_B_twiceAreaOfCorners at h
  refine lv_lconst (v := 0) hx hb d_B_twiceAreaOfCorners_0 (by decide) ?_
  refine lv_lstore_n (lv' := [(1, .long 0), (0, .ref a0)]) hx hb d_B_twiceAreaOfCorners_1 rfl hl (by decide) rfl (fun ls hl => ?_)
  refine lv_iconst (v := 2) hx hb d_B_twiceAreaOfCorners_2 (by decide) ?_
  refine lv_istore_n (lv' := [(3, .int 2), (1, .long 0), (0, .ref a0)]) hx hb d_B_twiceAreaOfCorners_3 rfl hl (by decide) rfl (fun ls hl => ?_)
  obtain ⟨K30, eK30, h⟩ := gj h
  have hK30 : ∀ (x1 : Int64) (w : gW) (H : Heap) (locs : List Loc) (ls : Array Slot), K30 x1 w = some r → gI D s A w H locs → lv_has ls 4 [(1, .long x1)] → W p l e rm_B_twiceAreaOfCorners s m args below meth c H locs 0 0 Q (F0 m 30 ls []) := by
    intro x1 w H locs ls h hI hl
    have h := gk2 eK30 h
    refine lv_lload_n hx hb d_B_twiceAreaOfCorners_30 rfl (lv_at hl 0 rfl) ?_
    exact W.widen (show 0 ≤ 0 by omega) (show 0 ≤ 0 by omega) (hret _ _ (Option.some.inj h).symm _ _ _ _ d_B_twiceAreaOfCorners_31 hI)
  have hL4 : ∀ (n : Nat), ∀ (z2 : Int64) (z3 : Int32) (w : gW) (H : Heap) (locs : List Loc) (ls : Array Slot), f_B_twiceAreaOfCorners_L4 g0 a0 K30 n z2 z3 w = some r → gI D s A w H locs → lv_has ls 4 [(0, .ref a0), (1, .long z2), (3, .int z3)] → W p l e rm_B_twiceAreaOfCorners s m args below meth c H locs 0 0 Q (F0 m 4 ls []) := by
    intro n
    induction n with
    | zero => intro z2 z3 w H locs ls h hI hl; exact absurd h (by simp [f_B_twiceAreaOfCorners_L4])
    | succ n ih =>
      intro z2 z3 w H locs ls h hI hl
      rw [f_B_twiceAreaOfCorners_L4] at h
      refine lv_iload_n hx hb d_B_twiceAreaOfCorners_4 rfl (lv_at hl 2 rfl) ?_
      refine lv_aload_n hx hb d_B_twiceAreaOfCorners_5 rfl (lv_at hl 0 rfl) ?_
      obtain ⟨v4, e5, h⟩ := gb h
      refine gw_getI hx hb hT hown hK hI (ci := 0) rfl i_0 6 (by decide) wd_195 (fun _ h9 => h9) e5 d_B_twiceAreaOfCorners_6 ?_
      refine lv_icmp_ge (tgt := 30) hx hb d_B_twiceAreaOfCorners_9 (by decide) (fun c6 => ?_) (fun c6 => ?_)
      · skip
        have h := git c6 h
        exact hK30 _ w H locs ls h hI (lv_sub hl [1] rfl)
      · skip
        have h := gie c6 h
        refine lv_lload_n hx hb d_B_twiceAreaOfCorners_12 rfl (lv_at hl 1 rfl) ?_
        refine lv_aload_n hx hb d_B_twiceAreaOfCorners_13 rfl (lv_at hl 0 rfl) ?_
        refine lv_iconst (v := 0) hx hb d_B_twiceAreaOfCorners_14 (by decide) ?_
        refine lv_iload_n hx hb d_B_twiceAreaOfCorners_15 rfl (lv_at hl 2 rfl) ?_
        refine lv_iconst (v := 1) hx hb d_B_twiceAreaOfCorners_16 (by decide) ?_
        refine lv_isub hx hb d_B_twiceAreaOfCorners_17 ?_
        refine lv_iload_n hx hb d_B_twiceAreaOfCorners_18 rfl (lv_at hl 2 rfl) ?_
        obtain ⟨q9, e10, h⟩ := gb h
        obtain ⟨u7, e8⟩ := gsome h
        refine gw_callJ e8 h (gw_runV (As := [.int 0, .int (z3 - 1), .int z3]) (rest := [.long z2]) hx hb hml hown hT hK hZ hA hI (ci := 0) rfl e10 (m_B_turnAt l hst D g0 a0 0 (z3 - 1) z3 w u7 e8) ce_B_turnAt wd_599 wd_13 ⟨by decide, by decide⟩ rfl rfl hl.1 rfl (lv_room (Nat.le_of_ble_eq_true rfl)) d_B_twiceAreaOfCorners_19 ⟨(show 0 + 0 ≤ 0 by omega), (show 0 + 0 ≤ 0 by omega)⟩) hI hA hexc (show 0 + 0 ≤ 0 by omega) (show 0 + 0 ≤ 0 by omega) (fun v11 w H locs h hI => ?_)
        refine lv_ladd hx hb d_B_twiceAreaOfCorners_22 ?_
        refine lv_lstore_n (lv' := [(1, .long (z2 + v11)), (0, .ref a0), (3, .int z3)]) hx hb d_B_twiceAreaOfCorners_23 rfl hl (by decide) rfl (fun ls hl => ?_)
        refine lv_iinc (v := z3 + 1) (lv' := [(3, .int (z3 + 1)), (1, .long (z2 + v11)), (0, .ref a0)]) hx hb d_B_twiceAreaOfCorners_24 hl (k := 2) rfl rfl (by decide) rfl (fun ls hl => ?_)
        refine lv_goto (tgt := 4) hx hb d_B_twiceAreaOfCorners_27 (by decide) ?_
        exact ih _ _ w H locs ls h hI (lv_sub hl [2, 1, 0] rfl)
  exact hL4 64 _ _ w H locs ls h hI (lv_sub hl [2, 1, 0] rfl)

abbrev b_B_prism : ByteArray := prog_1_method_6_code
def y_B_prism : MethodName := ⟨"BodySolids", "prism", "(IJJ)Z"⟩
theorem d_B_prism_0 : decode b_B_prism 0 = .ok (.aload_n 0, 1) := by decide +kernel
theorem d_B_prism_1 : decode b_B_prism 1 = .ok (.iload_n 1, 1) := by decide +kernel
theorem d_B_prism_2 : decode b_B_prism 2 = .ok (.invokevirtual 79, 3) := by decide +kernel
theorem d_B_prism_5 : decode b_B_prism 5 = .ok (.astore 6, 2) := by decide +kernel
theorem d_B_prism_7 : decode b_B_prism 7 = .ok (.lload_n 2, 1) := by decide +kernel
theorem d_B_prism_8 : decode b_B_prism 8 = .ok (.lload 4, 2) := by decide +kernel
theorem d_B_prism_10 : decode b_B_prism 10 = .ok (.invokestatic 91, 3) := by decide +kernel
theorem d_B_prism_13 : decode b_B_prism 13 = .ok (.aload_n 0, 1) := by decide +kernel
theorem d_B_prism_14 : decode b_B_prism 14 = .ok (.invokevirtual 127, 3) := by decide +kernel
theorem d_B_prism_17 : decode b_B_prism 17 = .ok (.ifCond .ne 10, 3) := by decide +kernel
theorem d_B_prism_20 : decode b_B_prism 20 = .ok (.aload_n 0, 1) := by decide +kernel
theorem d_B_prism_21 : decode b_B_prism 21 = .ok (.iconst 0, 1) := by decide +kernel
theorem d_B_prism_22 : decode b_B_prism 22 = .ok (.putfield 44, 3) := by decide +kernel
theorem d_B_prism_25 : decode b_B_prism 25 = .ok (.iconst 0, 1) := by decide +kernel
theorem d_B_prism_26 : decode b_B_prism 26 = .ok (.ireturn, 1) := by decide +kernel
theorem d_B_prism_27 : decode b_B_prism 27 = .ok (.aload 6, 2) := by decide +kernel
theorem d_B_prism_29 : decode b_B_prism 29 = .ok (.invokevirtual 94, 3) := by decide +kernel
theorem d_B_prism_32 : decode b_B_prism 32 = .ok (.ifCond .eq 5, 3) := by decide +kernel
theorem d_B_prism_35 : decode b_B_prism 35 = .ok (.iconst 0, 1) := by decide +kernel
theorem d_B_prism_36 : decode b_B_prism 36 = .ok (.ireturn, 1) := by decide +kernel
theorem d_B_prism_37 : decode b_B_prism 37 = .ok (.new 98, 3) := by decide +kernel
theorem d_B_prism_40 : decode b_B_prism 40 = .ok (.dup, 1) := by decide +kernel
theorem d_B_prism_41 : decode b_B_prism 41 = .ok (.invokespecial 100, 3) := by decide +kernel
theorem d_B_prism_44 : decode b_B_prism 44 = .ok (.astore 7, 2) := by decide +kernel
theorem d_B_prism_46 : decode b_B_prism 46 = .ok (.aload 7, 2) := by decide +kernel
theorem d_B_prism_48 : decode b_B_prism 48 = .ok (.iconst 2, 1) := by decide +kernel
theorem d_B_prism_49 : decode b_B_prism 49 = .ok (.lconst 0, 1) := by decide +kernel
theorem d_B_prism_50 : decode b_B_prism 50 = .ok (.lconst 0, 1) := by decide +kernel
theorem d_B_prism_51 : decode b_B_prism 51 = .ok (.invokevirtual 101, 3) := by decide +kernel
theorem d_B_prism_54 : decode b_B_prism 54 = .ok (.iconst 0, 1) := by decide +kernel
theorem d_B_prism_55 : decode b_B_prism 55 = .ok (.istore 8, 2) := by decide +kernel
theorem d_B_prism_57 : decode b_B_prism 57 = .ok (.iload 8, 2) := by decide +kernel
theorem d_B_prism_59 : decode b_B_prism 59 = .ok (.aload_n 0, 1) := by decide +kernel
theorem d_B_prism_60 : decode b_B_prism 60 = .ok (.getfield 44, 3) := by decide +kernel
theorem d_B_prism_63 : decode b_B_prism 63 = .ok (.if_icmp .ge 35, 3) := by decide +kernel
theorem d_B_prism_66 : decode b_B_prism 66 = .ok (.iload 8, 2) := by decide +kernel
theorem d_B_prism_68 : decode b_B_prism 68 = .ok (.bipush 8, 2) := by decide +kernel
theorem d_B_prism_70 : decode b_B_prism 70 = .ok (.if_icmp .ge 28, 3) := by decide +kernel
theorem d_B_prism_73 : decode b_B_prism 73 = .ok (.aload 7, 2) := by decide +kernel
theorem d_B_prism_75 : decode b_B_prism 75 = .ok (.aload_n 0, 1) := by decide +kernel
theorem d_B_prism_76 : decode b_B_prism 76 = .ok (.getfield 37, 3) := by decide +kernel
theorem d_B_prism_79 : decode b_B_prism 79 = .ok (.iload 8, 2) := by decide +kernel
theorem d_B_prism_81 : decode b_B_prism 81 = .ok (.laload, 1) := by decide +kernel
theorem d_B_prism_82 : decode b_B_prism 82 = .ok (.aload_n 0, 1) := by decide +kernel
theorem d_B_prism_83 : decode b_B_prism 83 = .ok (.getfield 41, 3) := by decide +kernel
theorem d_B_prism_86 : decode b_B_prism 86 = .ok (.iload 8, 2) := by decide +kernel
theorem d_B_prism_88 : decode b_B_prism 88 = .ok (.laload, 1) := by decide +kernel
theorem d_B_prism_89 : decode b_B_prism 89 = .ok (.invokevirtual 122, 3) := by decide +kernel
theorem d_B_prism_92 : decode b_B_prism 92 = .ok (.iinc 8 1, 3) := by decide +kernel
theorem d_B_prism_95 : decode b_B_prism 95 = .ok (.goto (-38), 3) := by decide +kernel
theorem d_B_prism_98 : decode b_B_prism 98 = .ok (.aload 7, 2) := by decide +kernel
theorem d_B_prism_100 : decode b_B_prism 100 = .ok (.lload_n 2, 1) := by decide +kernel
theorem d_B_prism_101 : decode b_B_prism 101 = .ok (.lload_n 2, 1) := by decide +kernel
theorem d_B_prism_102 : decode b_B_prism 102 = .ok (.lload 4, 2) := by decide +kernel
theorem d_B_prism_104 : decode b_B_prism 104 = .ok (.ladd, 1) := by decide +kernel
theorem d_B_prism_105 : decode b_B_prism 105 = .ok (.invokevirtual 109, 3) := by decide +kernel
theorem d_B_prism_108 : decode b_B_prism 108 = .ok (.aload 6, 2) := by decide +kernel
theorem d_B_prism_110 : decode b_B_prism 110 = .ok (.aload 7, 2) := by decide +kernel
theorem d_B_prism_112 : decode b_B_prism 112 = .ok (.ldc2_w 130, 3) := by decide +kernel
theorem d_B_prism_115 : decode b_B_prism 115 = .ok (.aload_n 0, 1) := by decide +kernel
theorem d_B_prism_116 : decode b_B_prism 116 = .ok (.invokevirtual 132, 3) := by decide +kernel
theorem d_B_prism_119 : decode b_B_prism 119 = .ok (.lmul, 1) := by decide +kernel
theorem d_B_prism_120 : decode b_B_prism 120 = .ok (.lload 4, 2) := by decide +kernel
theorem d_B_prism_122 : decode b_B_prism 122 = .ok (.lmul, 1) := by decide +kernel
theorem d_B_prism_123 : decode b_B_prism 123 = .ok (.invokevirtual 114, 3) := by decide +kernel
theorem d_B_prism_126 : decode b_B_prism 126 = .ok (.aload_n 0, 1) := by decide +kernel
theorem d_B_prism_127 : decode b_B_prism 127 = .ok (.aload 6, 2) := by decide +kernel
theorem d_B_prism_129 : decode b_B_prism 129 = .ok (.invokevirtual 118, 3) := by decide +kernel
theorem d_B_prism_132 : decode b_B_prism 132 = .ok (.aload_n 0, 1) := by decide +kernel
theorem d_B_prism_133 : decode b_B_prism 133 = .ok (.iconst 0, 1) := by decide +kernel
theorem d_B_prism_134 : decode b_B_prism 134 = .ok (.putfield 44, 3) := by decide +kernel
theorem d_B_prism_137 : decode b_B_prism 137 = .ok (.iconst 1, 1) := by decide +kernel
theorem d_B_prism_138 : decode b_B_prism 138 = .ok (.ireturn, 1) := by decide +kernel
abbrev rm_B_prism : Room := { frames := 10, cells := 8, slots := 116, locals := 202 }
theorem ce_B_prism : gCe y_B_prism (.code y_B_prism b_B_prism 9 (some .boolean)) 9 3 false := gCe.code wd_590 wd_49 wd_588 (by decide) (by decide +kernel)
def f_B_prism_L57 (g0 : gG) (c0 : Nat) (c2 : Int64) (c4 : Int64) (c6 : Nat) (c7 : Nat) (K98 : gW → gX Int32) : Nat → Int32 → gW → gX Int32
  | 0, _, _ => none
  | n + 1, z8, w => (gfI w c0 0 6).bind fun v53 => if v53 ≤ z8 then (K98 w) else (if 8 ≤ z8 then (K98 w) else ((gfA w c0 0 4).bind fun v57 => (gaJ w v57 z8).bind fun v59 => (gfA w c0 0 5).bind fun v61 => (gaJ w v61 z8).bind fun v63 => (gck w c7 3).bind fun _ => gbind (f_So_addCorner g0 c7 v59 v63 w) fun v69 w => f_B_prism_L57 g0 c0 c2 c4 c6 c7 K98 n (z8 + 1) w))
def f_B_prism (g0 : gG) (a0 : Nat) (p1 : Int32) (p2 : Int64) (p3 : Int64) (w : gW) : gX Int32 := (gck w a0 0).bind fun _ => gbind (f_B_bodyAt g0 a0 p1 w) fun v5 w => gbind (f_B_needUpright g0 p2 p3 w) fun v8 w => (gck w a0 0).bind fun _ => gbind (f_B_cornersMakePolygon g0 a0 w) fun v13 w => if v13 = 0 then ((gp w a0 0 6 (.int 0)).bind fun w => gguard ((0 : Int32) = 0 ∨ (0 : Int32) = 1) (some (.inr 0, w))) else ((gck w v5 4).bind fun _ => gbind (f_By_isFull g0 v5 w) fun v19 w => if v19 = 0 then (gb2f (gnw w 3 [.int 0, .long 0, .long 0, .null, .null, .int 0, .long 0, .long 0, .long 0, .long 0, .long 0, .long 0]) fun o21 w => gbind (f_So_init g0 o21 w) fun v25 w => (gck w o21 3).bind fun _ => gbind (f_So_begin g0 o21 2 0 0 w) fun v30 w => gjoin (fun K98 => f_B_prism_L57 g0 a0 p2 p3 v5 o21 K98 64 0 w) (fun (w : gW) => (gck w o21 3).bind fun _ => gbind (f_So_setHeights g0 o21 p2 (p2 + p3) w) fun v35 w => (gck w a0 0).bind fun _ => gbind (f_B_twiceAreaOfCorners g0 a0 w) fun v40 w => (gck w v5 4).bind fun _ => gbind (f_By_add g0 v5 o21 ((113 * v40) * p3) w) fun v45 w => (gck w a0 0).bind fun _ => gbind (f_B_forgetRelationsOf g0 a0 v5 w) fun v50 w => (gp w a0 0 6 (.int 0)).bind fun w => gguard ((1 : Int32) = 0 ∨ (1 : Int32) = 1) (some (.inr 1, w)))) else (gguard ((0 : Int32) = 0 ∨ (0 : Int32) = 1) (some (.inr 0, w))))
set_option maxHeartbeats 4000000 in
set_option maxRecDepth 100000 in
theorem m_B_prism (l : Launch) (hst : l.stackTraces = false) (D : gD) (g0 : gG) (a0 : Nat) (p1 : Int32) (p2 : Int64) (p3 : Int64) (w : gW) (r : (String ⊕ Int32) × gW) (h : f_B_prism g0 a0 p1 p2 p3 w = some r) : gMet l y_B_prism (.code y_B_prism b_B_prism 9 (some .boolean)) rm_B_prism D g0 [.ref a0, .int p1, .long p2, .long p3] w (goI r) := by
  refine gw_ofZ (by decide +kernel) (Nat.le_of_ble_eq_true rfl) ?_
  intro p e s m below meth c ls args A Q hx hb hml hown hlocks hin hnt hT hK hZ hA hret hexc hthr hI hl
  obtain ⟨H, hH⟩ : ∃ H, H = s.heap := ⟨_, rfl⟩
  rw [← hH] at hI ⊢
  obtain ⟨locs, hlocs⟩ : ∃ z : List Loc, z = [] := ⟨_, rfl⟩
  rw [← hlocs] at hI ⊢
  have hl : lv_has ls 9 [(0, .ref a0), (1, .int p1), (2, .long p2), (4, .long p3)] := hl
  unfold f_B_prism at h
  refine lv_aload_n hx hb d_B_prism_0 rfl (lv_at hl 0 rfl) ?_
  refine lv_iload_n hx hb d_B_prism_1 rfl (lv_at hl 1 rfl) ?_
  obtain ⟨q3, e4, h⟩ := gb h
  obtain ⟨u1, e2⟩ := gsome h
  refine gw_callA e2 h (gw_runV (As := [.int p1]) (rest := []) hx hb hml hown hT hK hZ hA hI (ci := 0) rfl e4 (m_B_bodyAt l hst D g0 a0 p1 w u1 e2) ce_B_bodyAt wd_436 wd_7 ⟨by decide, by decide⟩ rfl rfl hl.1 rfl (lv_room (Nat.le_of_ble_eq_true rfl)) d_B_prism_2 ⟨(show 0 + 1 ≤ 8 by omega), (show 0 + 6 ≤ 116 by omega)⟩) hI hA hexc (show 0 + 1 ≤ 8 by omega) (show 0 + 6 ≤ 116 by omega) (fun v5 w H locs h hI => ?_)
  refine W.widen (k := 1) (n := 6) (show 0 + 1 ≤ 1 by omega) (show 0 + 6 ≤ 6 by omega) ?_
  refine lv_astore (lv' := [(6, .ref v5), (0, .ref a0), (1, .int p1), (2, .long p2), (4, .long p3)]) hx hb d_B_prism_5 hl (by decide) rfl (fun ls hl => ?_)
  refine lv_lload_n hx hb d_B_prism_7 rfl (lv_at hl 3 rfl) ?_
  refine lv_lload hx hb d_B_prism_8 (lv_at hl 4 rfl) ?_
  obtain ⟨u6, e7⟩ := gsome h
  refine gw_callV e7 h (gw_runS (As := [.long p2, .long p3]) (rest := []) hx hb hml hown hT hK hZ hA hI (m_B_needUpright l hst D g0 p2 p3 w u6 e7) ce_B_needUpright wd_538 ⟨by decide, by decide⟩ rfl rfl hl.1 rfl (lv_room (Nat.le_of_ble_eq_true rfl)) d_B_prism_10 ⟨(show 1 + 3 ≤ 8 by omega), (show 6 + 18 ≤ 116 by omega)⟩) hI hA hexc (show 1 + 3 ≤ 8 by omega) (show 6 + 18 ≤ 116 by omega) (fun v8 w H locs h hI => ?_)
  refine W.widen (k := 4) (n := 24) (show 1 + 3 ≤ 4 by omega) (show 6 + 18 ≤ 24 by omega) ?_
  refine lv_aload_n hx hb d_B_prism_13 rfl (lv_at hl 1 rfl) ?_
  obtain ⟨q11, e12, h⟩ := gb h
  obtain ⟨u9, e10⟩ := gsome h
  refine gw_callI e10 h (gw_runV (As := []) (rest := []) hx hb hml hown hT hK hZ hA hI (ci := 0) rfl e12 (m_B_cornersMakePolygon l hst D g0 a0 w u9 e10) ce_B_cornersMakePolygon wd_591 wd_11 ⟨by decide, by decide⟩ rfl rfl hl.1 rfl (lv_room (Nat.le_of_ble_eq_true rfl)) d_B_prism_14 ⟨(show 4 + 0 ≤ 8 by omega), (show 24 + 0 ≤ 116 by omega)⟩) hI hA hexc (show 4 + 0 ≤ 8 by omega) (show 24 + 0 ≤ 116 by omega) (fun v13 w H locs h hI => ?_)
  refine lv_if_ne (tgt := 27) hx hb d_B_prism_17 (by decide) (fun c14 => ?_) (fun c14 => ?_)
  · skip
    have h := gie c14 h
    refine lv_aload hx hb d_B_prism_27 (lv_at hl 0 rfl) ?_
    obtain ⟨q17, e18, h⟩ := gb h
    obtain ⟨u15, e16⟩ := gsome h
    refine gw_callI e16 h (gw_runV (As := []) (rest := []) hx hb hml hown hT hK hZ hA hI (ci := 4) rfl e18 (m_By_isFull l hst D g0 v5 w u15 e16) ce_By_isFull wd_541 wd_543 ⟨by decide, by decide⟩ rfl rfl hl.1 rfl (lv_room (Nat.le_of_ble_eq_true rfl)) d_B_prism_29 ⟨(show 4 + 0 ≤ 8 by omega), (show 24 + 0 ≤ 116 by omega)⟩) hI hA hexc (show 4 + 0 ≤ 8 by omega) (show 24 + 0 ≤ 116 by omega) (fun v19 w H locs h hI => ?_)
    refine lv_if_eq (tgt := 37) hx hb d_B_prism_32 (by decide) (fun c20 => ?_) (fun c20 => ?_)
    · skip
      have h := git c20 h
      obtain ⟨o21, w, e22, h⟩ := gb2 h
      refine gw_new hx hb hT hown hK hI hA (ci := 3) rfl i_3 t_3 t_3_ok wd_546 wd_124 wd_56 (fs := [.int 0, .long 0, .long 0, .null, .null, .int 0, .long 0, .long 0, .long 0, .long 0, .long 0, .long 0]) df_3 e22 (show 4 + 1 ≤ 8 by omega) (show 24 + 12 ≤ 116 by omega) d_B_prism_37 (fun H hI => ?_)
      refine W.widen (k := 5) (n := 36) (show 4 + 1 ≤ 5 by omega) (show 24 + 12 ≤ 36 by omega) ?_
      refine lv_dup hx hb d_B_prism_40 rfl ?_
      obtain ⟨u23, e24⟩ := gsome h
      refine gw_callV e24 h (gw_runIN (As := []) (rest := [.ref o21]) hx hb hml hown hT hK hZ hA hI (m_So_init l hst D g0 o21 w u23 e24) ce_So_init wd_547 rfl ⟨by decide, by decide⟩ rfl rfl hl.1 rfl (lv_room (Nat.le_of_ble_eq_true rfl)) d_B_prism_41 ⟨(show 5 + 2 ≤ 8 by omega), (show 36 + 16 ≤ 116 by omega)⟩) hI hA hexc (show 5 + 2 ≤ 8 by omega) (show 36 + 16 ≤ 116 by omega) (fun v25 w H locs h hI => ?_)
      refine W.widen (k := 7) (n := 52) (show 5 + 2 ≤ 7 by omega) (show 36 + 16 ≤ 52 by omega) ?_
      refine lv_astore (lv' := [(7, .ref o21), (6, .ref v5), (0, .ref a0), (1, .int p1), (2, .long p2), (4, .long p3)]) hx hb d_B_prism_44 hl (by decide) rfl (fun ls hl => ?_)
      refine lv_aload hx hb d_B_prism_46 (lv_at hl 0 rfl) ?_
      refine lv_iconst (v := 2) hx hb d_B_prism_48 (by decide) ?_
      refine lv_lconst (v := 0) hx hb d_B_prism_49 (by decide) ?_
      refine lv_lconst (v := 0) hx hb d_B_prism_50 (by decide) ?_
      obtain ⟨q28, e29, h⟩ := gb h
      obtain ⟨u26, e27⟩ := gsome h
      refine gw_callV e27 h (gw_runV (As := [.int 2, .long 0, .long 0]) (rest := []) hx hb hml hown hT hK hZ hA hI (ci := 3) rfl e29 (m_So_begin l hst D g0 o21 2 0 0 w u26 e27) ce_So_begin wd_548 wd_349 ⟨by decide, by decide⟩ rfl rfl hl.1 rfl (lv_room (Nat.le_of_ble_eq_true rfl)) d_B_prism_51 ⟨(show 7 + 0 ≤ 8 by omega), (show 52 + 0 ≤ 116 by omega)⟩) hI hA hexc (show 7 + 0 ≤ 8 by omega) (show 52 + 0 ≤ 116 by omega) (fun v30 w H locs h hI => ?_)
      refine lv_iconst (v := 0) hx hb d_B_prism_54 (by decide) ?_
      refine lv_istore (lv' := [(8, .int 0), (7, .ref o21), (6, .ref v5), (0, .ref a0), (1, .int p1), (2, .long p2), (4, .long p3)]) hx hb d_B_prism_55 hl (by decide) rfl (fun ls hl => ?_)
      obtain ⟨K98, eK98, h⟩ := gj h
      have hK98 : ∀ (w : gW) (H : Heap) (locs : List Loc) (ls : Array Slot), K98 w = some r → gI D s A w H locs → lv_has ls 9 [(0, .ref a0), (2, .long p2), (4, .long p3), (6, .ref v5), (7, .ref o21)] → W p l e rm_B_prism s m args below meth c H locs 7 52 Q (F0 m 98 ls []) := by
        intro w H locs ls h hI hl
        have h := gk1 eK98 h
        refine lv_aload hx hb d_B_prism_98 (lv_at hl 4 rfl) ?_
        refine lv_lload_n hx hb d_B_prism_100 rfl (lv_at hl 1 rfl) ?_
        refine lv_lload_n hx hb d_B_prism_101 rfl (lv_at hl 1 rfl) ?_
        refine lv_lload hx hb d_B_prism_102 (lv_at hl 2 rfl) ?_
        refine lv_ladd hx hb d_B_prism_104 ?_
        obtain ⟨q33, e34, h⟩ := gb h
        obtain ⟨u31, e32⟩ := gsome h
        refine gw_callV e32 h (gw_runV (As := [.long p2, .long (p2 + p3)]) (rest := []) hx hb hml hown hT hK hZ hA hI (ci := 3) rfl e34 (m_So_setHeights l hst D g0 o21 p2 (p2 + p3) w u31 e32) ce_So_setHeights wd_553 wd_367 ⟨by decide, by decide⟩ rfl rfl hl.1 rfl (lv_room (Nat.le_of_ble_eq_true rfl)) d_B_prism_105 ⟨(show 7 + 0 ≤ 8 by omega), (show 52 + 0 ≤ 116 by omega)⟩) hI hA hexc (show 7 + 0 ≤ 8 by omega) (show 52 + 0 ≤ 116 by omega) (fun v35 w H locs h hI => ?_)
        refine lv_aload hx hb d_B_prism_108 (lv_at hl 3 rfl) ?_
        refine lv_aload hx hb d_B_prism_110 (lv_at hl 4 rfl) ?_
        refine lv_ldc2 (v := 113) hx hb hown (hT _ wd_603 args) d_B_prism_112 ?_
        refine lv_aload_n hx hb d_B_prism_115 rfl (lv_at hl 0 rfl) ?_
        obtain ⟨q38, e39, h⟩ := gb h
        obtain ⟨u36, e37⟩ := gsome h
        refine gw_callJ e37 h (gw_runV (As := []) (rest := [.long 113, .ref o21, .ref v5]) hx hb hml hown hT hK hZ hA hI (ci := 0) rfl e39 (m_B_twiceAreaOfCorners l hst D g0 a0 w u36 e37) ce_B_twiceAreaOfCorners wd_604 wd_14 ⟨by decide, by decide⟩ rfl rfl hl.1 rfl (lv_room (Nat.le_of_ble_eq_true rfl)) d_B_prism_116 ⟨(show 7 + 0 ≤ 8 by omega), (show 52 + 0 ≤ 116 by omega)⟩) hI hA hexc (show 7 + 0 ≤ 8 by omega) (show 52 + 0 ≤ 116 by omega) (fun v40 w H locs h hI => ?_)
        refine lv_lmul hx hb d_B_prism_119 ?_
        refine lv_lload hx hb d_B_prism_120 (lv_at hl 2 rfl) ?_
        refine lv_lmul hx hb d_B_prism_122 ?_
        obtain ⟨q43, e44, h⟩ := gb h
        obtain ⟨u41, e42⟩ := gsome h
        refine gw_callV e42 h (gw_runV (As := [.ref o21, .long ((113 * v40) * p3)]) (rest := []) hx hb hml hown hT hK hZ hA hI (ci := 4) rfl e44 (m_By_add l hst D g0 v5 o21 ((113 * v40) * p3) w u41 e42) ce_By_add wd_555 wd_557 ⟨by decide, by decide⟩ rfl rfl hl.1 rfl (lv_room (Nat.le_of_ble_eq_true rfl)) d_B_prism_123 ⟨(show 7 + 1 ≤ 8 by omega), (show 52 + 64 ≤ 116 by omega)⟩) hI hA hexc (show 7 + 1 ≤ 8 by omega) (show 52 + 64 ≤ 116 by omega) (fun v45 w H locs h hI => ?_)
        refine W.widen (k := 8) (n := 116) (show 7 + 1 ≤ 8 by omega) (show 52 + 64 ≤ 116 by omega) ?_
        refine lv_aload_n hx hb d_B_prism_126 rfl (lv_at hl 0 rfl) ?_
        refine lv_aload hx hb d_B_prism_127 (lv_at hl 3 rfl) ?_
        obtain ⟨q48, e49, h⟩ := gb h
        obtain ⟨u46, e47⟩ := gsome h
        refine gw_callV e47 h (gw_runV (As := [.ref v5]) (rest := []) hx hb hml hown hT hK hZ hA hI (ci := 0) rfl e49 (m_B_forgetRelationsOf l hst D g0 a0 v5 w u46 e47) ce_B_forgetRelationsOf wd_560 wd_9 ⟨by decide, by decide⟩ rfl rfl hl.1 rfl (lv_room (Nat.le_of_ble_eq_true rfl)) d_B_prism_129 ⟨(show 8 + 0 ≤ 8 by omega), (show 116 + 0 ≤ 116 by omega)⟩) hI hA hexc (show 8 + 0 ≤ 8 by omega) (show 116 + 0 ≤ 116 by omega) (fun v50 w H locs h hI => ?_)
        refine lv_aload_n hx hb d_B_prism_132 rfl (lv_at hl 0 rfl) ?_
        refine lv_iconst (v := 0) hx hb d_B_prism_133 (by decide) ?_
        obtain ⟨w, e51, h⟩ := gb h
        refine gw_put hx hb hT hown hK hI (ci := 0) rfl i_0 t_0 t_0_ok n_0 6 (by decide) wd_195 (fun _ h9 => h9) rfl (ty := .int) (by decide +kernel) rfl rfl e51 d_B_prism_134 (fun H locs hI => ?_)
        refine lv_iconst (v := 1) hx hb d_B_prism_137 (by decide) ?_
        obtain ⟨g52, h⟩ := gif h
        exact W.widen (show 8 ≤ 8 by omega) (show 116 ≤ 116 by omega) (hret g52 0 _ (Option.some.inj h).symm _ _ _ _ d_B_prism_138 hI)
      have hL57 : ∀ (n : Nat), ∀ (z53 : Int32) (w : gW) (H : Heap) (locs : List Loc) (ls : Array Slot), f_B_prism_L57 g0 a0 p2 p3 v5 o21 K98 n z53 w = some r → gI D s A w H locs → lv_has ls 9 [(0, .ref a0), (2, .long p2), (4, .long p3), (6, .ref v5), (7, .ref o21), (8, .int z53)] → W p l e rm_B_prism s m args below meth c H locs 7 52 Q (F0 m 57 ls []) := by
        intro n
        induction n with
        | zero => intro z53 w H locs ls h hI hl; exact absurd h (by simp [f_B_prism_L57])
        | succ n ih =>
          intro z53 w H locs ls h hI hl
          rw [f_B_prism_L57] at h
          refine lv_iload hx hb d_B_prism_57 (lv_at hl 5 rfl) ?_
          refine lv_aload_n hx hb d_B_prism_59 rfl (lv_at hl 0 rfl) ?_
          obtain ⟨v54, e55, h⟩ := gb h
          refine gw_getI hx hb hT hown hK hI (ci := 0) rfl i_0 6 (by decide) wd_195 (fun _ h9 => h9) e55 d_B_prism_60 ?_
          refine lv_icmp_ge (tgt := 98) hx hb d_B_prism_63 (by decide) (fun c56 => ?_) (fun c56 => ?_)
          · skip
            have h := git c56 h
            exact hK98 w H locs ls h hI (lv_sub hl [0, 1, 2, 3, 4] rfl)
          · skip
            have h := gie c56 h
            refine lv_iload hx hb d_B_prism_66 (lv_at hl 5 rfl) ?_
            refine lv_bipush (v := 8) hx hb d_B_prism_68 (by decide) ?_
            refine lv_icmp_ge (tgt := 98) hx hb d_B_prism_70 (by decide) (fun c57 => ?_) (fun c57 => ?_)
            · skip
              have h := git c57 h
              exact hK98 w H locs ls h hI (lv_sub hl [0, 1, 2, 3, 4] rfl)
            · skip
              have h := gie c57 h
              refine lv_aload hx hb d_B_prism_73 (lv_at hl 4 rfl) ?_
              refine lv_aload_n hx hb d_B_prism_75 rfl (lv_at hl 0 rfl) ?_
              obtain ⟨v58, e59, h⟩ := gb h
              refine gw_getA hx hb hT hown hK hI (ci := 0) rfl i_0 4 (by decide) wd_193 (fun _ h9 => h9) e59 d_B_prism_76 ?_
              refine lv_iload hx hb d_B_prism_79 (lv_at hl 5 rfl) ?_
              obtain ⟨v60, e61, h⟩ := gb h
              refine gw_aldJ hx hb hK hI e61 d_B_prism_81 ?_
              refine lv_aload_n hx hb d_B_prism_82 rfl (lv_at hl 0 rfl) ?_
              obtain ⟨v62, e63, h⟩ := gb h
              refine gw_getA hx hb hT hown hK hI (ci := 0) rfl i_0 5 (by decide) wd_194 (fun _ h9 => h9) e63 d_B_prism_83 ?_
              refine lv_iload hx hb d_B_prism_86 (lv_at hl 5 rfl) ?_
              obtain ⟨v64, e65, h⟩ := gb h
              refine gw_aldJ hx hb hK hI e65 d_B_prism_88 ?_
              obtain ⟨q68, e69, h⟩ := gb h
              obtain ⟨u66, e67⟩ := gsome h
              refine gw_callV e67 h (gw_runV (As := [.long v60, .long v64]) (rest := []) hx hb hml hown hT hK hZ hA hI (ci := 3) rfl e69 (m_So_addCorner l hst D g0 o21 v60 v64 w u66 e67) ce_So_addCorner wd_575 wd_361 ⟨by decide, by decide⟩ rfl rfl hl.1 rfl (lv_room (Nat.le_of_ble_eq_true rfl)) d_B_prism_89 ⟨(show 7 + 0 ≤ 8 by omega), (show 52 + 0 ≤ 116 by omega)⟩) hI hA hexc (show 7 + 0 ≤ 8 by omega) (show 52 + 0 ≤ 116 by omega) (fun v70 w H locs h hI => ?_)
              refine lv_iinc (v := z53 + 1) (lv' := [(8, .int (z53 + 1)), (0, .ref a0), (2, .long p2), (4, .long p3), (6, .ref v5), (7, .ref o21)]) hx hb d_B_prism_92 hl (k := 5) rfl rfl (by decide) rfl (fun ls hl => ?_)
              refine lv_goto (tgt := 57) hx hb d_B_prism_95 (by decide) ?_
              exact ih _ w H locs ls h hI (lv_sub hl [1, 2, 3, 4, 5, 0] rfl)
      exact hL57 64 _ w H locs ls h hI (lv_sub hl [3, 5, 6, 2, 1, 0] rfl)
    · skip
      have h := gie c20 h
      refine lv_iconst (v := 0) hx hb d_B_prism_35 (by decide) ?_
      obtain ⟨g71, h⟩ := gif h
      exact W.widen (show 4 ≤ 8 by omega) (show 24 ≤ 116 by omega) (hret g71 0 _ (Option.some.inj h).symm _ _ _ _ d_B_prism_36 hI)
  · skip
    have h := git c14 h
    refine lv_aload_n hx hb d_B_prism_20 rfl (lv_at hl 1 rfl) ?_
    refine lv_iconst (v := 0) hx hb d_B_prism_21 (by decide) ?_
    obtain ⟨w, e72, h⟩ := gb h
    refine gw_put hx hb hT hown hK hI (ci := 0) rfl i_0 t_0 t_0_ok n_0 6 (by decide) wd_195 (fun _ h9 => h9) rfl (ty := .int) (by decide +kernel) rfl rfl e72 d_B_prism_22 (fun H locs hI => ?_)
    refine lv_iconst (v := 0) hx hb d_B_prism_25 (by decide) ?_
    obtain ⟨g73, h⟩ := gif h
    exact W.widen (show 4 ≤ 8 by omega) (show 24 ≤ 116 by omega) (hret g73 0 _ (Option.some.inj h).symm _ _ _ _ d_B_prism_26 hI)
