abbrev b_M_coreAndDisc : ByteArray := prog_9_method_48_code
def y_M_coreAndDisc : MethodName := ⟨"BodySolidsModel", "coreAndDisc", "(IJ)I"⟩
theorem d_M_coreAndDisc_0 : decode b_M_coreAndDisc 0 = .ok (.iconst 1, 1) := by decide +kernel
theorem d_M_coreAndDisc_1 : decode b_M_coreAndDisc 1 = .ok (.iload_n 1, 1) := by decide +kernel
theorem d_M_coreAndDisc_2 : decode b_M_coreAndDisc 2 = .ok (.isub, 1) := by decide +kernel
theorem d_M_coreAndDisc_3 : decode b_M_coreAndDisc 3 = .ok (.istore 4, 2) := by decide +kernel
theorem d_M_coreAndDisc_5 : decode b_M_coreAndDisc 5 = .ok (.aload_n 0, 1) := by decide +kernel
theorem d_M_coreAndDisc_6 : decode b_M_coreAndDisc 6 = .ok (.getfield 65, 3) := by decide +kernel
theorem d_M_coreAndDisc_9 : decode b_M_coreAndDisc 9 = .ok (.iload 4, 2) := by decide +kernel
theorem d_M_coreAndDisc_11 : decode b_M_coreAndDisc 11 = .ok (.laload, 1) := by decide +kernel
theorem d_M_coreAndDisc_12 : decode b_M_coreAndDisc 12 = .ok (.lstore 5, 2) := by decide +kernel
theorem d_M_coreAndDisc_14 : decode b_M_coreAndDisc 14 = .ok (.aload_n 0, 1) := by decide +kernel
theorem d_M_coreAndDisc_15 : decode b_M_coreAndDisc 15 = .ok (.iload_n 1, 1) := by decide +kernel
theorem d_M_coreAndDisc_16 : decode b_M_coreAndDisc 16 = .ok (.iconst 1, 1) := by decide +kernel
theorem d_M_coreAndDisc_17 : decode b_M_coreAndDisc 17 = .ok (.aload_n 0, 1) := by decide +kernel
theorem d_M_coreAndDisc_18 : decode b_M_coreAndDisc 18 = .ok (.getfield 59, 3) := by decide +kernel
theorem d_M_coreAndDisc_21 : decode b_M_coreAndDisc 21 = .ok (.bipush 8, 2) := by decide +kernel
theorem d_M_coreAndDisc_23 : decode b_M_coreAndDisc 23 = .ok (.iload 4, 2) := by decide +kernel
theorem d_M_coreAndDisc_25 : decode b_M_coreAndDisc 25 = .ok (.imul, 1) := by decide +kernel
theorem d_M_coreAndDisc_26 : decode b_M_coreAndDisc 26 = .ok (.laload, 1) := by decide +kernel
theorem d_M_coreAndDisc_27 : decode b_M_coreAndDisc 27 = .ok (.aload_n 0, 1) := by decide +kernel
theorem d_M_coreAndDisc_28 : decode b_M_coreAndDisc 28 = .ok (.getfield 59, 3) := by decide +kernel
theorem d_M_coreAndDisc_31 : decode b_M_coreAndDisc 31 = .ok (.bipush 8, 2) := by decide +kernel
theorem d_M_coreAndDisc_33 : decode b_M_coreAndDisc 33 = .ok (.iload 4, 2) := by decide +kernel
theorem d_M_coreAndDisc_35 : decode b_M_coreAndDisc 35 = .ok (.imul, 1) := by decide +kernel
theorem d_M_coreAndDisc_36 : decode b_M_coreAndDisc 36 = .ok (.laload, 1) := by decide +kernel
theorem d_M_coreAndDisc_37 : decode b_M_coreAndDisc 37 = .ok (.invokevirtual 225, 3) := by decide +kernel
theorem d_M_coreAndDisc_40 : decode b_M_coreAndDisc 40 = .ok (.aload_n 0, 1) := by decide +kernel
theorem d_M_coreAndDisc_41 : decode b_M_coreAndDisc 41 = .ok (.iload_n 1, 1) := by decide +kernel
theorem d_M_coreAndDisc_42 : decode b_M_coreAndDisc 42 = .ok (.iconst 0, 1) := by decide +kernel
theorem d_M_coreAndDisc_43 : decode b_M_coreAndDisc 43 = .ok (.aload_n 0, 1) := by decide +kernel
theorem d_M_coreAndDisc_44 : decode b_M_coreAndDisc 44 = .ok (.getfield 62, 3) := by decide +kernel
theorem d_M_coreAndDisc_47 : decode b_M_coreAndDisc 47 = .ok (.bipush 8, 2) := by decide +kernel
theorem d_M_coreAndDisc_49 : decode b_M_coreAndDisc 49 = .ok (.iload 4, 2) := by decide +kernel
theorem d_M_coreAndDisc_51 : decode b_M_coreAndDisc 51 = .ok (.imul, 1) := by decide +kernel
theorem d_M_coreAndDisc_52 : decode b_M_coreAndDisc 52 = .ok (.laload, 1) := by decide +kernel
theorem d_M_coreAndDisc_53 : decode b_M_coreAndDisc 53 = .ok (.aload_n 0, 1) := by decide +kernel
theorem d_M_coreAndDisc_54 : decode b_M_coreAndDisc 54 = .ok (.getfield 62, 3) := by decide +kernel
theorem d_M_coreAndDisc_57 : decode b_M_coreAndDisc 57 = .ok (.bipush 8, 2) := by decide +kernel
theorem d_M_coreAndDisc_59 : decode b_M_coreAndDisc 59 = .ok (.iload 4, 2) := by decide +kernel
theorem d_M_coreAndDisc_61 : decode b_M_coreAndDisc 61 = .ok (.imul, 1) := by decide +kernel
theorem d_M_coreAndDisc_62 : decode b_M_coreAndDisc 62 = .ok (.laload, 1) := by decide +kernel
theorem d_M_coreAndDisc_63 : decode b_M_coreAndDisc 63 = .ok (.invokevirtual 225, 3) := by decide +kernel
theorem d_M_coreAndDisc_66 : decode b_M_coreAndDisc 66 = .ok (.invokestatic 194, 3) := by decide +kernel
theorem d_M_coreAndDisc_69 : decode b_M_coreAndDisc 69 = .ok (.lstore 7, 2) := by decide +kernel
theorem d_M_coreAndDisc_71 : decode b_M_coreAndDisc 71 = .ok (.lload 7, 2) := by decide +kernel
theorem d_M_coreAndDisc_73 : decode b_M_coreAndDisc 73 = .ok (.lload 5, 2) := by decide +kernel
theorem d_M_coreAndDisc_75 : decode b_M_coreAndDisc 75 = .ok (.lload 5, 2) := by decide +kernel
theorem d_M_coreAndDisc_77 : decode b_M_coreAndDisc 77 = .ok (.lmul, 1) := by decide +kernel
theorem d_M_coreAndDisc_78 : decode b_M_coreAndDisc 78 = .ok (.lcmp, 1) := by decide +kernel
theorem d_M_coreAndDisc_79 : decode b_M_coreAndDisc 79 = .ok (.ifCond .gt 10, 3) := by decide +kernel
theorem d_M_coreAndDisc_82 : decode b_M_coreAndDisc 82 = .ok (.lconst 0, 1) := by decide +kernel
theorem d_M_coreAndDisc_83 : decode b_M_coreAndDisc 83 = .ok (.lload_n 2, 1) := by decide +kernel
theorem d_M_coreAndDisc_84 : decode b_M_coreAndDisc 84 = .ok (.lsub, 1) := by decide +kernel
theorem d_M_coreAndDisc_85 : decode b_M_coreAndDisc 85 = .ok (.invokestatic 186, 3) := by decide +kernel
theorem d_M_coreAndDisc_88 : decode b_M_coreAndDisc 88 = .ok (.ireturn, 1) := by decide +kernel
theorem d_M_coreAndDisc_89 : decode b_M_coreAndDisc 89 = .ok (.lload 7, 2) := by decide +kernel
theorem d_M_coreAndDisc_91 : decode b_M_coreAndDisc 91 = .ok (.lload 5, 2) := by decide +kernel
theorem d_M_coreAndDisc_93 : decode b_M_coreAndDisc 93 = .ok (.lload 5, 2) := by decide +kernel
theorem d_M_coreAndDisc_95 : decode b_M_coreAndDisc 95 = .ok (.lmul, 1) := by decide +kernel
theorem d_M_coreAndDisc_96 : decode b_M_coreAndDisc 96 = .ok (.lsub, 1) := by decide +kernel
theorem d_M_coreAndDisc_97 : decode b_M_coreAndDisc 97 = .ok (.lload_n 2, 1) := by decide +kernel
theorem d_M_coreAndDisc_98 : decode b_M_coreAndDisc 98 = .ok (.lsub, 1) := by decide +kernel
theorem d_M_coreAndDisc_99 : decode b_M_coreAndDisc 99 = .ok (.lstore 9, 2) := by decide +kernel
theorem d_M_coreAndDisc_101 : decode b_M_coreAndDisc 101 = .ok (.lload 9, 2) := by decide +kernel
theorem d_M_coreAndDisc_103 : decode b_M_coreAndDisc 103 = .ok (.lconst 0, 1) := by decide +kernel
theorem d_M_coreAndDisc_104 : decode b_M_coreAndDisc 104 = .ok (.lcmp, 1) := by decide +kernel
theorem d_M_coreAndDisc_105 : decode b_M_coreAndDisc 105 = .ok (.ifCond .ge 7, 3) := by decide +kernel
theorem d_M_coreAndDisc_108 : decode b_M_coreAndDisc 108 = .ok (.iconst 2, 1) := by decide +kernel
theorem d_M_coreAndDisc_109 : decode b_M_coreAndDisc 109 = .ok (.goto 23, 3) := by decide +kernel
theorem d_M_coreAndDisc_112 : decode b_M_coreAndDisc 112 = .ok (.lload 9, 2) := by decide +kernel
theorem d_M_coreAndDisc_114 : decode b_M_coreAndDisc 114 = .ok (.lload 9, 2) := by decide +kernel
theorem d_M_coreAndDisc_116 : decode b_M_coreAndDisc 116 = .ok (.lmul, 1) := by decide +kernel
theorem d_M_coreAndDisc_117 : decode b_M_coreAndDisc 117 = .ok (.ldc2_w 229, 3) := by decide +kernel
theorem d_M_coreAndDisc_120 : decode b_M_coreAndDisc 120 = .ok (.lload 5, 2) := by decide +kernel
theorem d_M_coreAndDisc_122 : decode b_M_coreAndDisc 122 = .ok (.lmul, 1) := by decide +kernel
theorem d_M_coreAndDisc_123 : decode b_M_coreAndDisc 123 = .ok (.lload 5, 2) := by decide +kernel
theorem d_M_coreAndDisc_125 : decode b_M_coreAndDisc 125 = .ok (.lmul, 1) := by decide +kernel
theorem d_M_coreAndDisc_126 : decode b_M_coreAndDisc 126 = .ok (.lload_n 2, 1) := by decide +kernel
theorem d_M_coreAndDisc_127 : decode b_M_coreAndDisc 127 = .ok (.lmul, 1) := by decide +kernel
theorem d_M_coreAndDisc_128 : decode b_M_coreAndDisc 128 = .ok (.lsub, 1) := by decide +kernel
theorem d_M_coreAndDisc_129 : decode b_M_coreAndDisc 129 = .ok (.invokestatic 186, 3) := by decide +kernel
theorem d_M_coreAndDisc_132 : decode b_M_coreAndDisc 132 = .ok (.ireturn, 1) := by decide +kernel
abbrev rm_M_coreAndDisc : Room := { frames := 2, cells := 0, slots := 0, locals := 57 }
theorem ce_M_coreAndDisc : gCe y_M_coreAndDisc (.code y_M_coreAndDisc b_M_coreAndDisc 11 (some .int)) 11 2 false := gCe.code wd_1034 wd_57 wd_1033 (by decide) (by decide +kernel)
def f_M_coreAndDisc (g0 : gG) (a0 : Nat) (p1 : Int32) (p2 : Int64) (w : gW) : gX Int32 := (gfA w a0 7 24).bind fun v1 => (gaJ w v1 (1 - p1)).bind fun v3 => (gfA w a0 7 22).bind fun v5 => (gaJ w v5 (8 * (1 - p1))).bind fun v7 => (gfA w a0 7 22).bind fun v9 => (gaJ w v9 (8 * (1 - p1))).bind fun v11 => (gck w a0 7).bind fun _ => gbind (f_M_coreGap g0 a0 p1 1 v7 v11 w) fun v17 w => (gfA w a0 7 23).bind fun v18 => (gaJ w v18 (8 * (1 - p1))).bind fun v20 => (gfA w a0 7 23).bind fun v22 => (gaJ w v22 (8 * (1 - p1))).bind fun v24 => (gck w a0 7).bind fun _ => gbind (f_M_coreGap g0 a0 p1 0 v20 v24 w) fun v30 w => gbind (f_M_square g0 v17 v30 w) fun v33 w => if (v3 * v3) < v33 then (gjoin (fun K132 => if 0 ≤ ((v33 - (v3 * v3)) - p2) then (gbind (f_M_common g0 ((((v33 - (v3 * v3)) - p2) * ((v33 - (v3 * v3)) - p2)) - (((4 * v3) * v3) * p2)) w) fun v39 w => K132 v39 w) else (K132 2 w)) (fun (y35 : Int32) (w : gW) => some (.inr y35, w))) else (gbind (f_M_common g0 (0 - p2) w) fun v42 w => some (.inr v42, w))
set_option maxHeartbeats 4000000 in
set_option maxRecDepth 100000 in
theorem m_M_coreAndDisc (l : Launch) (hst : l.stackTraces = false) (D : gD) (g0 : gG) (a0 : Nat) (p1 : Int32) (p2 : Int64) (w : gW) (r : (String ⊕ Int32) × gW) (h : f_M_coreAndDisc g0 a0 p1 p2 w = some r) : gMet l y_M_coreAndDisc (.code y_M_coreAndDisc b_M_coreAndDisc 11 (some .int)) rm_M_coreAndDisc D g0 [.ref a0, .int p1, .long p2] w (goI r) := by
  refine gw_ofI (by decide +kernel) (Nat.le_of_ble_eq_true rfl) ?_
  intro p e s m below meth c ls args A Q hx hb hml hown hlocks hin hnt hT hK hZ hA hret hexc hthr hI hl
  obtain ⟨H, hH⟩ : ∃ H, H = s.heap := ⟨_, rfl⟩
  rw [← hH] at hI ⊢
  obtain ⟨locs, hlocs⟩ : ∃ z : List Loc, z = [] := ⟨_, rfl⟩
  rw [← hlocs] at hI ⊢
  have hl : lv_has ls 11 [(0, .ref a0), (1, .int p1), (2, .long p2)] := hl
  unfold f_M_coreAndDisc at h
  refine lv_iconst (v := 1) hx hb d_M_coreAndDisc_0 (by decide) ?_
  refine lv_iload_n hx hb d_M_coreAndDisc_1 rfl (lv_at hl 1 rfl) ?_
  refine lv_isub hx hb d_M_coreAndDisc_2 ?_
  refine lv_istore (lv' := [(4, .int (1 - p1)), (0, .ref a0), (1, .int p1), (2, .long p2)]) hx hb d_M_coreAndDisc_3 hl (by decide) rfl (fun ls hl => ?_)
  refine lv_aload_n hx hb d_M_coreAndDisc_5 rfl (lv_at hl 1 rfl) ?_
  obtain ⟨v1, e2, h⟩ := gb h
  refine gw_getA hx hb hT hown hK hI (ci := 7) rfl i_7 24 (by decide) wd_810 (fun _ h9 => h9) e2 d_M_coreAndDisc_6 ?_
  refine lv_iload hx hb d_M_coreAndDisc_9 (lv_at hl 0 rfl) ?_
  obtain ⟨v3, e4, h⟩ := gb h
  refine gw_aldJ hx hb hK hI e4 d_M_coreAndDisc_11 ?_
  refine lv_lstore (lv' := [(5, .long v3), (4, .int (1 - p1)), (0, .ref a0), (1, .int p1), (2, .long p2)]) hx hb d_M_coreAndDisc_12 hl (by decide) rfl (fun ls hl => ?_)
  refine lv_aload_n hx hb d_M_coreAndDisc_14 rfl (lv_at hl 2 rfl) ?_
  refine lv_iload_n hx hb d_M_coreAndDisc_15 rfl (lv_at hl 3 rfl) ?_
  refine lv_iconst (v := 1) hx hb d_M_coreAndDisc_16 (by decide) ?_
  refine lv_aload_n hx hb d_M_coreAndDisc_17 rfl (lv_at hl 2 rfl) ?_
  obtain ⟨v5, e6, h⟩ := gb h
  refine gw_getA hx hb hT hown hK hI (ci := 7) rfl i_7 22 (by decide) wd_808 (fun _ h9 => h9) e6 d_M_coreAndDisc_18 ?_
  refine lv_bipush (v := 8) hx hb d_M_coreAndDisc_21 (by decide) ?_
  refine lv_iload hx hb d_M_coreAndDisc_23 (lv_at hl 1 rfl) ?_
  refine lv_imul hx hb d_M_coreAndDisc_25 ?_
  obtain ⟨v7, e8, h⟩ := gb h
  refine gw_aldJ hx hb hK hI e8 d_M_coreAndDisc_26 ?_
  refine lv_aload_n hx hb d_M_coreAndDisc_27 rfl (lv_at hl 2 rfl) ?_
  obtain ⟨v9, e10, h⟩ := gb h
  refine gw_getA hx hb hT hown hK hI (ci := 7) rfl i_7 22 (by decide) wd_808 (fun _ h9 => h9) e10 d_M_coreAndDisc_28 ?_
  refine lv_bipush (v := 8) hx hb d_M_coreAndDisc_31 (by decide) ?_
  refine lv_iload hx hb d_M_coreAndDisc_33 (lv_at hl 1 rfl) ?_
  refine lv_imul hx hb d_M_coreAndDisc_35 ?_
  obtain ⟨v11, e12, h⟩ := gb h
  refine gw_aldJ hx hb hK hI e12 d_M_coreAndDisc_36 ?_
  obtain ⟨q15, e16, h⟩ := gb h
  obtain ⟨u13, e14⟩ := gsome h
  refine gw_callJ e14 h (gw_runV (As := [.int p1, .int 1, .long v7, .long v11]) (rest := []) hx hb hml hown hT hK hZ hA hI (ci := 7) rfl e16 (m_M_coreGap l hst D g0 a0 p1 1 v7 v11 w u13 e14) ce_M_coreGap wd_1021 wd_36 ⟨by decide, by decide⟩ rfl rfl hl.1 rfl (lv_room (Nat.le_of_ble_eq_true rfl)) d_M_coreAndDisc_37 ⟨(show 0 + 0 ≤ 0 by omega), (show 0 + 0 ≤ 0 by omega)⟩) hI hA hexc (show 0 + 0 ≤ 0 by omega) (show 0 + 0 ≤ 0 by omega) (fun v17 w H locs h hI => ?_)
  refine lv_aload_n hx hb d_M_coreAndDisc_40 rfl (lv_at hl 2 rfl) ?_
  refine lv_iload_n hx hb d_M_coreAndDisc_41 rfl (lv_at hl 3 rfl) ?_
  refine lv_iconst (v := 0) hx hb d_M_coreAndDisc_42 (by decide) ?_
  refine lv_aload_n hx hb d_M_coreAndDisc_43 rfl (lv_at hl 2 rfl) ?_
  obtain ⟨v18, e19, h⟩ := gb h
  refine gw_getA hx hb hT hown hK hI (ci := 7) rfl i_7 23 (by decide) wd_809 (fun _ h9 => h9) e19 d_M_coreAndDisc_44 ?_
  refine lv_bipush (v := 8) hx hb d_M_coreAndDisc_47 (by decide) ?_
  refine lv_iload hx hb d_M_coreAndDisc_49 (lv_at hl 1 rfl) ?_
  refine lv_imul hx hb d_M_coreAndDisc_51 ?_
  obtain ⟨v20, e21, h⟩ := gb h
  refine gw_aldJ hx hb hK hI e21 d_M_coreAndDisc_52 ?_
  refine lv_aload_n hx hb d_M_coreAndDisc_53 rfl (lv_at hl 2 rfl) ?_
  obtain ⟨v22, e23, h⟩ := gb h
  refine gw_getA hx hb hT hown hK hI (ci := 7) rfl i_7 23 (by decide) wd_809 (fun _ h9 => h9) e23 d_M_coreAndDisc_54 ?_
  refine lv_bipush (v := 8) hx hb d_M_coreAndDisc_57 (by decide) ?_
  refine lv_iload hx hb d_M_coreAndDisc_59 (lv_at hl 1 rfl) ?_
  refine lv_imul hx hb d_M_coreAndDisc_61 ?_
  obtain ⟨v24, e25, h⟩ := gb h
  refine gw_aldJ hx hb hK hI e25 d_M_coreAndDisc_62 ?_
  obtain ⟨q28, e29, h⟩ := gb h
  obtain ⟨u26, e27⟩ := gsome h
  refine gw_callJ e27 h (gw_runV (As := [.int p1, .int 0, .long v20, .long v24]) (rest := [.long v17]) hx hb hml hown hT hK hZ hA hI (ci := 7) rfl e29 (m_M_coreGap l hst D g0 a0 p1 0 v20 v24 w u26 e27) ce_M_coreGap wd_1021 wd_36 ⟨by decide, by decide⟩ rfl rfl hl.1 rfl (lv_room (Nat.le_of_ble_eq_true rfl)) d_M_coreAndDisc_63 ⟨(show 0 + 0 ≤ 0 by omega), (show 0 + 0 ≤ 0 by omega)⟩) hI hA hexc (show 0 + 0 ≤ 0 by omega) (show 0 + 0 ≤ 0 by omega) (fun v30 w H locs h hI => ?_)
  obtain ⟨u31, e32⟩ := gsome h
  refine gw_callJ e32 h (gw_runS (As := [.long v17, .long v30]) (rest := []) hx hb hml hown hT hK hZ hA hI (m_M_square l hst D g0 v17 v30 w u31 e32) ce_M_square wd_1025 ⟨by decide, by decide⟩ rfl rfl hl.1 rfl (lv_room (Nat.le_of_ble_eq_true rfl)) d_M_coreAndDisc_66 ⟨(show 0 + 0 ≤ 0 by omega), (show 0 + 0 ≤ 0 by omega)⟩) hI hA hexc (show 0 + 0 ≤ 0 by omega) (show 0 + 0 ≤ 0 by omega) (fun v33 w H locs h hI => ?_)
  refine lv_lstore (lv' := [(7, .long v33), (5, .long v3), (4, .int (1 - p1)), (0, .ref a0), (1, .int p1), (2, .long p2)]) hx hb d_M_coreAndDisc_69 hl (by decide) rfl (fun ls hl => ?_)
  refine lv_lload hx hb d_M_coreAndDisc_71 (lv_at hl 0 rfl) ?_
  refine lv_lload hx hb d_M_coreAndDisc_73 (lv_at hl 1 rfl) ?_
  refine lv_lload hx hb d_M_coreAndDisc_75 (lv_at hl 1 rfl) ?_
  refine lv_lmul hx hb d_M_coreAndDisc_77 ?_
  refine W.lcmp hx hb d_M_coreAndDisc_78 ?_
  refine lv_if_gt (tgt := 89) hx hb d_M_coreAndDisc_79 (by decide) (fun c34 => ?_) (fun c34 => ?_)
  · have c34 := (lg_cmp_gt _ _).mp c34
    have h := git c34 h
    refine lv_lload hx hb d_M_coreAndDisc_89 (lv_at hl 0 rfl) ?_
    refine lv_lload hx hb d_M_coreAndDisc_91 (lv_at hl 1 rfl) ?_
    refine lv_lload hx hb d_M_coreAndDisc_93 (lv_at hl 1 rfl) ?_
    refine lv_lmul hx hb d_M_coreAndDisc_95 ?_
    refine lv_lsub hx hb d_M_coreAndDisc_96 ?_
    refine lv_lload_n hx hb d_M_coreAndDisc_97 rfl (lv_at hl 5 rfl) ?_
    refine lv_lsub hx hb d_M_coreAndDisc_98 ?_
    refine lv_lstore (lv' := [(9, .long ((v33 - (v3 * v3)) - p2)), (7, .long v33), (5, .long v3), (4, .int (1 - p1)), (0, .ref a0), (1, .int p1), (2, .long p2)]) hx hb d_M_coreAndDisc_99 hl (by decide) rfl (fun ls hl => ?_)
    refine lv_lload hx hb d_M_coreAndDisc_101 (lv_at hl 0 rfl) ?_
    refine lv_lconst (v := 0) hx hb d_M_coreAndDisc_103 (by decide) ?_
    refine W.lcmp hx hb d_M_coreAndDisc_104 ?_
    obtain ⟨K132, eK132, h⟩ := gj h
    have hK132 : ∀ (y35 : Int32) (w : gW) (H : Heap) (locs : List Loc) (ls : Array Slot), K132 y35 w = some r → gI D s A w H locs → lv_has ls 11 [] → W p l e rm_M_coreAndDisc s m args below meth c H locs 0 0 Q (F0 m 132 ls [.int y35]) := by
      intro y35 w H locs ls h hI hl
      have h := gk2 eK132 h
      exact W.widen (show 0 ≤ 0 by omega) (show 0 ≤ 0 by omega) (hret _ _ (Option.some.inj h).symm _ _ _ _ d_M_coreAndDisc_132 hI)
    refine lv_if_ge (tgt := 112) hx hb d_M_coreAndDisc_105 (by decide) (fun c36 => ?_) (fun c36 => ?_)
    · have c36 := (lg_cmp_ge _ _).mp c36
      have h := git c36 h
      refine lv_lload hx hb d_M_coreAndDisc_112 (lv_at hl 0 rfl) ?_
      refine lv_lload hx hb d_M_coreAndDisc_114 (lv_at hl 0 rfl) ?_
      refine lv_lmul hx hb d_M_coreAndDisc_116 ?_
      refine lv_ldc2 (v := 4) hx hb hown (hT _ wd_1035 args) d_M_coreAndDisc_117 ?_
      refine lv_lload hx hb d_M_coreAndDisc_120 (lv_at hl 2 rfl) ?_
      refine lv_lmul hx hb d_M_coreAndDisc_122 ?_
      refine lv_lload hx hb d_M_coreAndDisc_123 (lv_at hl 2 rfl) ?_
      refine lv_lmul hx hb d_M_coreAndDisc_125 ?_
      refine lv_lload_n hx hb d_M_coreAndDisc_126 rfl (lv_at hl 6 rfl) ?_
      refine lv_lmul hx hb d_M_coreAndDisc_127 ?_
      refine lv_lsub hx hb d_M_coreAndDisc_128 ?_
      obtain ⟨u37, e38⟩ := gsome h
      refine gw_callI e38 h (gw_runS (As := [.long ((((v33 - (v3 * v3)) - p2) * ((v33 - (v3 * v3)) - p2)) - (((4 * v3) * v3) * p2))]) (rest := []) hx hb hml hown hT hK hZ hA hI (m_M_common l hst D g0 ((((v33 - (v3 * v3)) - p2) * ((v33 - (v3 * v3)) - p2)) - (((4 * v3) * v3) * p2)) w u37 e38) ce_M_common wd_1028 ⟨by decide, by decide⟩ rfl rfl hl.1 rfl (lv_room (Nat.le_of_ble_eq_true rfl)) d_M_coreAndDisc_129 ⟨(show 0 + 0 ≤ 0 by omega), (show 0 + 0 ≤ 0 by omega)⟩) hI hA hexc (show 0 + 0 ≤ 0 by omega) (show 0 + 0 ≤ 0 by omega) (fun v39 w H locs h hI => ?_)
      exact hK132 _ w H locs ls h hI (lv_sub hl [] rfl)
    · have c36 := mt (lg_cmp_ge _ _).mpr c36
      have h := gie c36 h
      refine lv_iconst (v := 2) hx hb d_M_coreAndDisc_108 (by decide) ?_
      refine lv_goto (tgt := 132) hx hb d_M_coreAndDisc_109 (by decide) ?_
      exact hK132 _ w H locs ls h hI (lv_sub hl [] rfl)
  · have c34 := mt (lg_cmp_gt _ _).mpr c34
    have h := gie c34 h
    refine lv_lconst (v := 0) hx hb d_M_coreAndDisc_82 (by decide) ?_
    refine lv_lload_n hx hb d_M_coreAndDisc_83 rfl (lv_at hl 5 rfl) ?_
    refine lv_lsub hx hb d_M_coreAndDisc_84 ?_
    obtain ⟨u40, e41⟩ := gsome h
    refine gw_callI e41 h (gw_runS (As := [.long (0 - p2)]) (rest := []) hx hb hml hown hT hK hZ hA hI (m_M_common l hst D g0 (0 - p2) w u40 e41) ce_M_common wd_1028 ⟨by decide, by decide⟩ rfl rfl hl.1 rfl (lv_room (Nat.le_of_ble_eq_true rfl)) d_M_coreAndDisc_85 ⟨(show 0 + 0 ≤ 0 by omega), (show 0 + 0 ≤ 0 by omega)⟩) hI hA hexc (show 0 + 0 ≤ 0 by omega) (show 0 + 0 ≤ 0 by omega) (fun v42 w H locs h hI => ?_)
    exact W.widen (show 0 ≤ 0 by omega) (show 0 ≤ 0 by omega) (hret _ _ (Option.some.inj h).symm _ _ _ _ d_M_coreAndDisc_88 hI)

abbrev b_M_turn : ByteArray := prog_9_method_41_code
def y_M_turn : MethodName := ⟨"BodySolidsModel", "turn", "(JJJJJJ)J"⟩
theorem d_M_turn_0 : decode b_M_turn 0 = .ok (.lload_n 0, 1) := by decide +kernel
theorem d_M_turn_1 : decode b_M_turn 1 = .ok (.lload_n 2, 1) := by decide +kernel
theorem d_M_turn_2 : decode b_M_turn 2 = .ok (.lload 4, 2) := by decide +kernel
theorem d_M_turn_4 : decode b_M_turn 4 = .ok (.lload 6, 2) := by decide +kernel
theorem d_M_turn_6 : decode b_M_turn 6 = .ok (.lload 8, 2) := by decide +kernel
theorem d_M_turn_8 : decode b_M_turn 8 = .ok (.lload 10, 2) := by decide +kernel
theorem d_M_turn_10 : decode b_M_turn 10 = .ok (.invokestatic 124, 3) := by decide +kernel
theorem d_M_turn_13 : decode b_M_turn 13 = .ok (.lstore 12, 2) := by decide +kernel
theorem d_M_turn_15 : decode b_M_turn 15 = .ok (.lload 12, 2) := by decide +kernel
theorem d_M_turn_17 : decode b_M_turn 17 = .ok (.lconst 0, 1) := by decide +kernel
theorem d_M_turn_18 : decode b_M_turn 18 = .ok (.lcmp, 1) := by decide +kernel
theorem d_M_turn_19 : decode b_M_turn 19 = .ok (.ifCond .ge 9, 3) := by decide +kernel
theorem d_M_turn_22 : decode b_M_turn 22 = .ok (.ldc2_w 206, 3) := by decide +kernel
theorem d_M_turn_25 : decode b_M_turn 25 = .ok (.goto 15, 3) := by decide +kernel
theorem d_M_turn_28 : decode b_M_turn 28 = .ok (.lload 12, 2) := by decide +kernel
theorem d_M_turn_30 : decode b_M_turn 30 = .ok (.lconst 0, 1) := by decide +kernel
theorem d_M_turn_31 : decode b_M_turn 31 = .ok (.lcmp, 1) := by decide +kernel
theorem d_M_turn_32 : decode b_M_turn 32 = .ok (.ifCond .le 7, 3) := by decide +kernel
theorem d_M_turn_35 : decode b_M_turn 35 = .ok (.lconst 1, 1) := by decide +kernel
theorem d_M_turn_36 : decode b_M_turn 36 = .ok (.goto 4, 3) := by decide +kernel
theorem d_M_turn_39 : decode b_M_turn 39 = .ok (.lconst 0, 1) := by decide +kernel
theorem d_M_turn_40 : decode b_M_turn 40 = .ok (.lreturn, 1) := by decide +kernel
abbrev rm_M_turn : Room := { frames := 1, cells := 0, slots := 0, locals := 31 }
theorem ce_M_turn : gCe y_M_turn (.code y_M_turn b_M_turn 14 (some .long)) 14 6 true := gCe.code wd_1053 wd_57 wd_1052 (by decide) (by decide +kernel)
def f_M_turn (g0 : gG) (p0 : Int64) (p1 : Int64) (p2 : Int64) (p3 : Int64) (p4 : Int64) (p5 : Int64) (w : gW) : gX Int64 := gbind (f_M_cross g0 p0 p1 p2 p3 p4 p5 w) fun v3 w => gjoin (fun K40 => if 0 ≤ v3 then (if v3 ≤ 0 then (K40 0 w) else (K40 1 w)) else (K40 (-1) w)) (fun (y4 : Int64) (w : gW) => some (.inr y4, w))
set_option maxHeartbeats 4000000 in
set_option maxRecDepth 100000 in
theorem m_M_turn (l : Launch) (hst : l.stackTraces = false) (D : gD) (g0 : gG) (p0 : Int64) (p1 : Int64) (p2 : Int64) (p3 : Int64) (p4 : Int64) (p5 : Int64) (w : gW) (r : (String ⊕ Int64) × gW) (h : f_M_turn g0 p0 p1 p2 p3 p4 p5 w = some r) : gMet l y_M_turn (.code y_M_turn b_M_turn 14 (some .long)) rm_M_turn D g0 [.long p0, .long p1, .long p2, .long p3, .long p4, .long p5] w (goJ r) := by
  refine gw_ofJ (by decide +kernel) (Nat.le_of_ble_eq_true rfl) ?_
  intro p e s m below meth c ls args A Q hx hb hml hown hlocks hin hnt hT hK hZ hA hret hexc hthr hI hl
  obtain ⟨H, hH⟩ : ∃ H, H = s.heap := ⟨_, rfl⟩
  rw [← hH] at hI ⊢
  obtain ⟨locs, hlocs⟩ : ∃ z : List Loc, z = [] := ⟨_, rfl⟩
  rw [← hlocs] at hI ⊢
  have hl : lv_has ls 14 [(0, .long p0), (2, .long p1), (4, .long p2), (6, .long p3), (8, .long p4), (10, .long p5)] := hl
  unfold f_M_turn at h
  refine lv_lload_n hx hb d_M_turn_0 rfl (lv_at hl 0 rfl) ?_
  refine lv_lload_n hx hb d_M_turn_1 rfl (lv_at hl 1 rfl) ?_
  refine lv_lload hx hb d_M_turn_2 (lv_at hl 2 rfl) ?_
  refine lv_lload hx hb d_M_turn_4 (lv_at hl 3 rfl) ?_
  refine lv_lload hx hb d_M_turn_6 (lv_at hl 4 rfl) ?_
  refine lv_lload hx hb d_M_turn_8 (lv_at hl 5 rfl) ?_
  obtain ⟨u1, e2⟩ := gsome h
  refine gw_callJ e2 h (gw_runS (As := [.long p0, .long p1, .long p2, .long p3, .long p4, .long p5]) (rest := []) hx hb hml hown hT hK hZ hA hI (m_M_cross l hst D g0 p0 p1 p2 p3 p4 p5 w u1 e2) ce_M_cross wd_922 ⟨by decide, by decide⟩ rfl rfl hl.1 rfl (lv_room (Nat.le_of_ble_eq_true rfl)) d_M_turn_10 ⟨(show 0 + 0 ≤ 0 by omega), (show 0 + 0 ≤ 0 by omega)⟩) hI hA hexc (show 0 + 0 ≤ 0 by omega) (show 0 + 0 ≤ 0 by omega) (fun v3 w H locs h hI => ?_)
  refine lv_lstore (lv' := [(12, .long v3), (0, .long p0), (2, .long p1), (4, .long p2), (6, .long p3), (8, .long p4), (10, .long p5)]) hx hb d_M_turn_13 hl (by decide) rfl (fun ls hl => ?_)
  refine lv_lload hx hb d_M_turn_15 (lv_at hl 0 rfl) ?_
  refine lv_lconst (v := 0) hx hb d_M_turn_17 (by decide) ?_
  refine W.lcmp hx hb d_M_turn_18 ?_
  obtain ⟨K40, eK40, h⟩ := gj h
  have hK40 : ∀ (y4 : Int64) (w : gW) (H : Heap) (locs : List Loc) (ls : Array Slot), K40 y4 w = some r → gI D s A w H locs → lv_has ls 14 [] → W p l e rm_M_turn s m args below meth c H locs 0 0 Q (F0 m 40 ls [.long y4]) := by
    intro y4 w H locs ls h hI hl
    have h := gk2 eK40 h
    exact W.widen (show 0 ≤ 0 by omega) (show 0 ≤ 0 by omega) (hret _ _ (Option.some.inj h).symm _ _ _ _ d_M_turn_40 hI)
  refine lv_if_ge (tgt := 28) hx hb d_M_turn_19 (by decide) (fun c5 => ?_) (fun c5 => ?_)
  · have c5 := (lg_cmp_ge _ _).mp c5
    have h := git c5 h
    refine lv_lload hx hb d_M_turn_28 (lv_at hl 0 rfl) ?_
    refine lv_lconst (v := 0) hx hb d_M_turn_30 (by decide) ?_
    refine W.lcmp hx hb d_M_turn_31 ?_
    refine lv_if_le (tgt := 39) hx hb d_M_turn_32 (by decide) (fun c6 => ?_) (fun c6 => ?_)
    · have c6 := (lg_cmp_le _ _).mp c6
      have h := git c6 h
      refine lv_lconst (v := 0) hx hb d_M_turn_39 (by decide) ?_
      exact hK40 _ w H locs ls h hI (lv_sub hl [] rfl)
    · have c6 := mt (lg_cmp_le _ _).mpr c6
      have h := gie c6 h
      refine lv_lconst (v := 1) hx hb d_M_turn_35 (by decide) ?_
      refine lv_goto (tgt := 40) hx hb d_M_turn_36 (by decide) ?_
      exact hK40 _ w H locs ls h hI (lv_sub hl [] rfl)
  · have c5 := mt (lg_cmp_ge _ _).mpr c5
    have h := gie c5 h
    refine lv_ldc2 (v := (-1)) hx hb hown (hT _ wd_1054 args) d_M_turn_22 ?_
    refine lv_goto (tgt := 40) hx hb d_M_turn_25 (by decide) ?_
    exact hK40 _ w H locs ls h hI (lv_sub hl [] rfl)

abbrev b_M_coreAndPolygon : ByteArray := prog_9_method_42_code
def y_M_coreAndPolygon : MethodName := ⟨"BodySolidsModel", "coreAndPolygon", "(IJ)I"⟩
theorem d_M_coreAndPolygon_0 : decode b_M_coreAndPolygon 0 = .ok (.iconst 1, 1) := by decide +kernel
theorem d_M_coreAndPolygon_1 : decode b_M_coreAndPolygon 1 = .ok (.iload_n 1, 1) := by decide +kernel
theorem d_M_coreAndPolygon_2 : decode b_M_coreAndPolygon 2 = .ok (.isub, 1) := by decide +kernel
theorem d_M_coreAndPolygon_3 : decode b_M_coreAndPolygon 3 = .ok (.istore 4, 2) := by decide +kernel
theorem d_M_coreAndPolygon_5 : decode b_M_coreAndPolygon 5 = .ok (.aload_n 0, 1) := by decide +kernel
theorem d_M_coreAndPolygon_6 : decode b_M_coreAndPolygon 6 = .ok (.getfield 59, 3) := by decide +kernel
theorem d_M_coreAndPolygon_9 : decode b_M_coreAndPolygon 9 = .ok (.bipush 8, 2) := by decide +kernel
theorem d_M_coreAndPolygon_11 : decode b_M_coreAndPolygon 11 = .ok (.iload_n 1, 1) := by decide +kernel
theorem d_M_coreAndPolygon_12 : decode b_M_coreAndPolygon 12 = .ok (.imul, 1) := by decide +kernel
theorem d_M_coreAndPolygon_13 : decode b_M_coreAndPolygon 13 = .ok (.laload, 1) := by decide +kernel
theorem d_M_coreAndPolygon_14 : decode b_M_coreAndPolygon 14 = .ok (.lstore 5, 2) := by decide +kernel
theorem d_M_coreAndPolygon_16 : decode b_M_coreAndPolygon 16 = .ok (.aload_n 0, 1) := by decide +kernel
theorem d_M_coreAndPolygon_17 : decode b_M_coreAndPolygon 17 = .ok (.getfield 62, 3) := by decide +kernel
theorem d_M_coreAndPolygon_20 : decode b_M_coreAndPolygon 20 = .ok (.bipush 8, 2) := by decide +kernel
theorem d_M_coreAndPolygon_22 : decode b_M_coreAndPolygon 22 = .ok (.iload_n 1, 1) := by decide +kernel
theorem d_M_coreAndPolygon_23 : decode b_M_coreAndPolygon 23 = .ok (.imul, 1) := by decide +kernel
theorem d_M_coreAndPolygon_24 : decode b_M_coreAndPolygon 24 = .ok (.laload, 1) := by decide +kernel
theorem d_M_coreAndPolygon_25 : decode b_M_coreAndPolygon 25 = .ok (.lstore 7, 2) := by decide +kernel
theorem d_M_coreAndPolygon_27 : decode b_M_coreAndPolygon 27 = .ok (.aload_n 0, 1) := by decide +kernel
theorem d_M_coreAndPolygon_28 : decode b_M_coreAndPolygon 28 = .ok (.getfield 59, 3) := by decide +kernel
theorem d_M_coreAndPolygon_31 : decode b_M_coreAndPolygon 31 = .ok (.bipush 8, 2) := by decide +kernel
theorem d_M_coreAndPolygon_33 : decode b_M_coreAndPolygon 33 = .ok (.iload_n 1, 1) := by decide +kernel
theorem d_M_coreAndPolygon_34 : decode b_M_coreAndPolygon 34 = .ok (.imul, 1) := by decide +kernel
theorem d_M_coreAndPolygon_35 : decode b_M_coreAndPolygon 35 = .ok (.iconst 1, 1) := by decide +kernel
theorem d_M_coreAndPolygon_36 : decode b_M_coreAndPolygon 36 = .ok (.iadd, 1) := by decide +kernel
theorem d_M_coreAndPolygon_37 : decode b_M_coreAndPolygon 37 = .ok (.laload, 1) := by decide +kernel
theorem d_M_coreAndPolygon_38 : decode b_M_coreAndPolygon 38 = .ok (.lstore 9, 2) := by decide +kernel
theorem d_M_coreAndPolygon_40 : decode b_M_coreAndPolygon 40 = .ok (.aload_n 0, 1) := by decide +kernel
theorem d_M_coreAndPolygon_41 : decode b_M_coreAndPolygon 41 = .ok (.getfield 62, 3) := by decide +kernel
theorem d_M_coreAndPolygon_44 : decode b_M_coreAndPolygon 44 = .ok (.bipush 8, 2) := by decide +kernel
theorem d_M_coreAndPolygon_46 : decode b_M_coreAndPolygon 46 = .ok (.iload_n 1, 1) := by decide +kernel
theorem d_M_coreAndPolygon_47 : decode b_M_coreAndPolygon 47 = .ok (.imul, 1) := by decide +kernel
theorem d_M_coreAndPolygon_48 : decode b_M_coreAndPolygon 48 = .ok (.iconst 1, 1) := by decide +kernel
theorem d_M_coreAndPolygon_49 : decode b_M_coreAndPolygon 49 = .ok (.iadd, 1) := by decide +kernel
theorem d_M_coreAndPolygon_50 : decode b_M_coreAndPolygon 50 = .ok (.laload, 1) := by decide +kernel
theorem d_M_coreAndPolygon_51 : decode b_M_coreAndPolygon 51 = .ok (.lstore 11, 2) := by decide +kernel
theorem d_M_coreAndPolygon_53 : decode b_M_coreAndPolygon 53 = .ok (.aload_n 0, 1) := by decide +kernel
theorem d_M_coreAndPolygon_54 : decode b_M_coreAndPolygon 54 = .ok (.iload 4, 2) := by decide +kernel
theorem d_M_coreAndPolygon_56 : decode b_M_coreAndPolygon 56 = .ok (.lload 5, 2) := by decide +kernel
theorem d_M_coreAndPolygon_58 : decode b_M_coreAndPolygon 58 = .ok (.lload 7, 2) := by decide +kernel
theorem d_M_coreAndPolygon_60 : decode b_M_coreAndPolygon 60 = .ok (.lload_n 2, 1) := by decide +kernel
theorem d_M_coreAndPolygon_61 : decode b_M_coreAndPolygon 61 = .ok (.invokevirtual 208, 3) := by decide +kernel
theorem d_M_coreAndPolygon_64 : decode b_M_coreAndPolygon 64 = .ok (.istore 13, 2) := by decide +kernel
theorem d_M_coreAndPolygon_66 : decode b_M_coreAndPolygon 66 = .ok (.aload_n 0, 1) := by decide +kernel
theorem d_M_coreAndPolygon_67 : decode b_M_coreAndPolygon 67 = .ok (.iload 4, 2) := by decide +kernel
theorem d_M_coreAndPolygon_69 : decode b_M_coreAndPolygon 69 = .ok (.lload 9, 2) := by decide +kernel
theorem d_M_coreAndPolygon_71 : decode b_M_coreAndPolygon 71 = .ok (.lload 11, 2) := by decide +kernel
theorem d_M_coreAndPolygon_73 : decode b_M_coreAndPolygon 73 = .ok (.lload_n 2, 1) := by decide +kernel
theorem d_M_coreAndPolygon_74 : decode b_M_coreAndPolygon 74 = .ok (.invokevirtual 208, 3) := by decide +kernel
theorem d_M_coreAndPolygon_77 : decode b_M_coreAndPolygon 77 = .ok (.istore 14, 2) := by decide +kernel
theorem d_M_coreAndPolygon_79 : decode b_M_coreAndPolygon 79 = .ok (.iload 14, 2) := by decide +kernel
theorem d_M_coreAndPolygon_81 : decode b_M_coreAndPolygon 81 = .ok (.iload 13, 2) := by decide +kernel
theorem d_M_coreAndPolygon_83 : decode b_M_coreAndPolygon 83 = .ok (.if_icmp .le 8, 3) := by decide +kernel
theorem d_M_coreAndPolygon_86 : decode b_M_coreAndPolygon 86 = .ok (.iload 14, 2) := by decide +kernel
theorem d_M_coreAndPolygon_88 : decode b_M_coreAndPolygon 88 = .ok (.goto 5, 3) := by decide +kernel
theorem d_M_coreAndPolygon_91 : decode b_M_coreAndPolygon 91 = .ok (.iload 13, 2) := by decide +kernel
theorem d_M_coreAndPolygon_93 : decode b_M_coreAndPolygon 93 = .ok (.istore 13, 2) := by decide +kernel
theorem d_M_coreAndPolygon_95 : decode b_M_coreAndPolygon 95 = .ok (.bipush 8, 2) := by decide +kernel
theorem d_M_coreAndPolygon_97 : decode b_M_coreAndPolygon 97 = .ok (.iload 4, 2) := by decide +kernel
theorem d_M_coreAndPolygon_99 : decode b_M_coreAndPolygon 99 = .ok (.imul, 1) := by decide +kernel
theorem d_M_coreAndPolygon_100 : decode b_M_coreAndPolygon 100 = .ok (.istore 15, 2) := by decide +kernel
theorem d_M_coreAndPolygon_102 : decode b_M_coreAndPolygon 102 = .ok (.iload 15, 2) := by decide +kernel
theorem d_M_coreAndPolygon_104 : decode b_M_coreAndPolygon 104 = .ok (.bipush 8, 2) := by decide +kernel
theorem d_M_coreAndPolygon_106 : decode b_M_coreAndPolygon 106 = .ok (.iload 4, 2) := by decide +kernel
theorem d_M_coreAndPolygon_108 : decode b_M_coreAndPolygon 108 = .ok (.imul, 1) := by decide +kernel
theorem d_M_coreAndPolygon_109 : decode b_M_coreAndPolygon 109 = .ok (.aload_n 0, 1) := by decide +kernel
theorem d_M_coreAndPolygon_110 : decode b_M_coreAndPolygon 110 = .ok (.getfield 56, 3) := by decide +kernel
theorem d_M_coreAndPolygon_113 : decode b_M_coreAndPolygon 113 = .ok (.iload 4, 2) := by decide +kernel
theorem d_M_coreAndPolygon_115 : decode b_M_coreAndPolygon 115 = .ok (.iaload, 1) := by decide +kernel
theorem d_M_coreAndPolygon_116 : decode b_M_coreAndPolygon 116 = .ok (.iadd, 1) := by decide +kernel
theorem d_M_coreAndPolygon_117 : decode b_M_coreAndPolygon 117 = .ok (.if_icmp .ge 231, 3) := by decide +kernel
theorem d_M_coreAndPolygon_120 : decode b_M_coreAndPolygon 120 = .ok (.bipush 8, 2) := by decide +kernel
theorem d_M_coreAndPolygon_122 : decode b_M_coreAndPolygon 122 = .ok (.iload 4, 2) := by decide +kernel
theorem d_M_coreAndPolygon_124 : decode b_M_coreAndPolygon 124 = .ok (.imul, 1) := by decide +kernel
theorem d_M_coreAndPolygon_125 : decode b_M_coreAndPolygon 125 = .ok (.iload 15, 2) := by decide +kernel
theorem d_M_coreAndPolygon_127 : decode b_M_coreAndPolygon 127 = .ok (.bipush 8, 2) := by decide +kernel
theorem d_M_coreAndPolygon_129 : decode b_M_coreAndPolygon 129 = .ok (.iload 4, 2) := by decide +kernel
theorem d_M_coreAndPolygon_131 : decode b_M_coreAndPolygon 131 = .ok (.imul, 1) := by decide +kernel
theorem d_M_coreAndPolygon_132 : decode b_M_coreAndPolygon 132 = .ok (.isub, 1) := by decide +kernel
theorem d_M_coreAndPolygon_133 : decode b_M_coreAndPolygon 133 = .ok (.iconst 1, 1) := by decide +kernel
theorem d_M_coreAndPolygon_134 : decode b_M_coreAndPolygon 134 = .ok (.iadd, 1) := by decide +kernel
theorem d_M_coreAndPolygon_135 : decode b_M_coreAndPolygon 135 = .ok (.aload_n 0, 1) := by decide +kernel
theorem d_M_coreAndPolygon_136 : decode b_M_coreAndPolygon 136 = .ok (.getfield 56, 3) := by decide +kernel
theorem d_M_coreAndPolygon_139 : decode b_M_coreAndPolygon 139 = .ok (.iload 4, 2) := by decide +kernel
theorem d_M_coreAndPolygon_141 : decode b_M_coreAndPolygon 141 = .ok (.iaload, 1) := by decide +kernel
theorem d_M_coreAndPolygon_142 : decode b_M_coreAndPolygon 142 = .ok (.irem, 1) := by decide +kernel
theorem d_M_coreAndPolygon_143 : decode b_M_coreAndPolygon 143 = .ok (.iadd, 1) := by decide +kernel
theorem d_M_coreAndPolygon_144 : decode b_M_coreAndPolygon 144 = .ok (.istore 16, 2) := by decide +kernel
theorem d_M_coreAndPolygon_146 : decode b_M_coreAndPolygon 146 = .ok (.aload_n 0, 1) := by decide +kernel
theorem d_M_coreAndPolygon_147 : decode b_M_coreAndPolygon 147 = .ok (.getfield 59, 3) := by decide +kernel
theorem d_M_coreAndPolygon_150 : decode b_M_coreAndPolygon 150 = .ok (.iload 15, 2) := by decide +kernel
theorem d_M_coreAndPolygon_152 : decode b_M_coreAndPolygon 152 = .ok (.laload, 1) := by decide +kernel
theorem d_M_coreAndPolygon_153 : decode b_M_coreAndPolygon 153 = .ok (.aload_n 0, 1) := by decide +kernel
theorem d_M_coreAndPolygon_154 : decode b_M_coreAndPolygon 154 = .ok (.getfield 62, 3) := by decide +kernel
theorem d_M_coreAndPolygon_157 : decode b_M_coreAndPolygon 157 = .ok (.iload 15, 2) := by decide +kernel
theorem d_M_coreAndPolygon_159 : decode b_M_coreAndPolygon 159 = .ok (.laload, 1) := by decide +kernel
theorem d_M_coreAndPolygon_160 : decode b_M_coreAndPolygon 160 = .ok (.lload 5, 2) := by decide +kernel
theorem d_M_coreAndPolygon_162 : decode b_M_coreAndPolygon 162 = .ok (.lload 7, 2) := by decide +kernel
theorem d_M_coreAndPolygon_164 : decode b_M_coreAndPolygon 164 = .ok (.lload 9, 2) := by decide +kernel
theorem d_M_coreAndPolygon_166 : decode b_M_coreAndPolygon 166 = .ok (.lload 11, 2) := by decide +kernel
theorem d_M_coreAndPolygon_168 : decode b_M_coreAndPolygon 168 = .ok (.lload_n 2, 1) := by decide +kernel
theorem d_M_coreAndPolygon_169 : decode b_M_coreAndPolygon 169 = .ok (.invokestatic 202, 3) := by decide +kernel
theorem d_M_coreAndPolygon_172 : decode b_M_coreAndPolygon 172 = .ok (.istore 14, 2) := by decide +kernel
theorem d_M_coreAndPolygon_174 : decode b_M_coreAndPolygon 174 = .ok (.lload 5, 2) := by decide +kernel
theorem d_M_coreAndPolygon_176 : decode b_M_coreAndPolygon 176 = .ok (.lload 7, 2) := by decide +kernel
theorem d_M_coreAndPolygon_178 : decode b_M_coreAndPolygon 178 = .ok (.lload 9, 2) := by decide +kernel
theorem d_M_coreAndPolygon_180 : decode b_M_coreAndPolygon 180 = .ok (.lload 11, 2) := by decide +kernel
theorem d_M_coreAndPolygon_182 : decode b_M_coreAndPolygon 182 = .ok (.aload_n 0, 1) := by decide +kernel
theorem d_M_coreAndPolygon_183 : decode b_M_coreAndPolygon 183 = .ok (.getfield 59, 3) := by decide +kernel
theorem d_M_coreAndPolygon_186 : decode b_M_coreAndPolygon 186 = .ok (.iload 15, 2) := by decide +kernel
theorem d_M_coreAndPolygon_188 : decode b_M_coreAndPolygon 188 = .ok (.laload, 1) := by decide +kernel
theorem d_M_coreAndPolygon_189 : decode b_M_coreAndPolygon 189 = .ok (.aload_n 0, 1) := by decide +kernel
theorem d_M_coreAndPolygon_190 : decode b_M_coreAndPolygon 190 = .ok (.getfield 62, 3) := by decide +kernel
theorem d_M_coreAndPolygon_193 : decode b_M_coreAndPolygon 193 = .ok (.iload 15, 2) := by decide +kernel
theorem d_M_coreAndPolygon_195 : decode b_M_coreAndPolygon 195 = .ok (.laload, 1) := by decide +kernel
theorem d_M_coreAndPolygon_196 : decode b_M_coreAndPolygon 196 = .ok (.invokestatic 212, 3) := by decide +kernel
theorem d_M_coreAndPolygon_199 : decode b_M_coreAndPolygon 199 = .ok (.lload 5, 2) := by decide +kernel
theorem d_M_coreAndPolygon_201 : decode b_M_coreAndPolygon 201 = .ok (.lload 7, 2) := by decide +kernel
theorem d_M_coreAndPolygon_203 : decode b_M_coreAndPolygon 203 = .ok (.lload 9, 2) := by decide +kernel
theorem d_M_coreAndPolygon_205 : decode b_M_coreAndPolygon 205 = .ok (.lload 11, 2) := by decide +kernel
theorem d_M_coreAndPolygon_207 : decode b_M_coreAndPolygon 207 = .ok (.aload_n 0, 1) := by decide +kernel
theorem d_M_coreAndPolygon_208 : decode b_M_coreAndPolygon 208 = .ok (.getfield 59, 3) := by decide +kernel
theorem d_M_coreAndPolygon_211 : decode b_M_coreAndPolygon 211 = .ok (.iload 16, 2) := by decide +kernel
theorem d_M_coreAndPolygon_213 : decode b_M_coreAndPolygon 213 = .ok (.laload, 1) := by decide +kernel
theorem d_M_coreAndPolygon_214 : decode b_M_coreAndPolygon 214 = .ok (.aload_n 0, 1) := by decide +kernel
theorem d_M_coreAndPolygon_215 : decode b_M_coreAndPolygon 215 = .ok (.getfield 62, 3) := by decide +kernel
theorem d_M_coreAndPolygon_218 : decode b_M_coreAndPolygon 218 = .ok (.iload 16, 2) := by decide +kernel
theorem d_M_coreAndPolygon_220 : decode b_M_coreAndPolygon 220 = .ok (.laload, 1) := by decide +kernel
theorem d_M_coreAndPolygon_221 : decode b_M_coreAndPolygon 221 = .ok (.invokestatic 212, 3) := by decide +kernel
theorem d_M_coreAndPolygon_224 : decode b_M_coreAndPolygon 224 = .ok (.lmul, 1) := by decide +kernel
theorem d_M_coreAndPolygon_225 : decode b_M_coreAndPolygon 225 = .ok (.lconst 0, 1) := by decide +kernel
theorem d_M_coreAndPolygon_226 : decode b_M_coreAndPolygon 226 = .ok (.lcmp, 1) := by decide +kernel
theorem d_M_coreAndPolygon_227 : decode b_M_coreAndPolygon 227 = .ok (.ifCond .ge 83, 3) := by decide +kernel
theorem d_M_coreAndPolygon_230 : decode b_M_coreAndPolygon 230 = .ok (.aload_n 0, 1) := by decide +kernel
theorem d_M_coreAndPolygon_231 : decode b_M_coreAndPolygon 231 = .ok (.getfield 59, 3) := by decide +kernel
theorem d_M_coreAndPolygon_234 : decode b_M_coreAndPolygon 234 = .ok (.iload 15, 2) := by decide +kernel
theorem d_M_coreAndPolygon_236 : decode b_M_coreAndPolygon 236 = .ok (.laload, 1) := by decide +kernel
theorem d_M_coreAndPolygon_237 : decode b_M_coreAndPolygon 237 = .ok (.aload_n 0, 1) := by decide +kernel
theorem d_M_coreAndPolygon_238 : decode b_M_coreAndPolygon 238 = .ok (.getfield 62, 3) := by decide +kernel
theorem d_M_coreAndPolygon_241 : decode b_M_coreAndPolygon 241 = .ok (.iload 15, 2) := by decide +kernel
theorem d_M_coreAndPolygon_243 : decode b_M_coreAndPolygon 243 = .ok (.laload, 1) := by decide +kernel
theorem d_M_coreAndPolygon_244 : decode b_M_coreAndPolygon 244 = .ok (.aload_n 0, 1) := by decide +kernel
theorem d_M_coreAndPolygon_245 : decode b_M_coreAndPolygon 245 = .ok (.getfield 59, 3) := by decide +kernel
theorem d_M_coreAndPolygon_248 : decode b_M_coreAndPolygon 248 = .ok (.iload 16, 2) := by decide +kernel
theorem d_M_coreAndPolygon_250 : decode b_M_coreAndPolygon 250 = .ok (.laload, 1) := by decide +kernel
theorem d_M_coreAndPolygon_251 : decode b_M_coreAndPolygon 251 = .ok (.aload_n 0, 1) := by decide +kernel
theorem d_M_coreAndPolygon_252 : decode b_M_coreAndPolygon 252 = .ok (.getfield 62, 3) := by decide +kernel
theorem d_M_coreAndPolygon_255 : decode b_M_coreAndPolygon 255 = .ok (.iload 16, 2) := by decide +kernel
theorem d_M_coreAndPolygon_257 : decode b_M_coreAndPolygon 257 = .ok (.laload, 1) := by decide +kernel
theorem d_M_coreAndPolygon_258 : decode b_M_coreAndPolygon 258 = .ok (.lload 5, 2) := by decide +kernel
theorem d_M_coreAndPolygon_260 : decode b_M_coreAndPolygon 260 = .ok (.lload 7, 2) := by decide +kernel
theorem d_M_coreAndPolygon_262 : decode b_M_coreAndPolygon 262 = .ok (.invokestatic 212, 3) := by decide +kernel
theorem d_M_coreAndPolygon_265 : decode b_M_coreAndPolygon 265 = .ok (.aload_n 0, 1) := by decide +kernel
theorem d_M_coreAndPolygon_266 : decode b_M_coreAndPolygon 266 = .ok (.getfield 59, 3) := by decide +kernel
theorem d_M_coreAndPolygon_269 : decode b_M_coreAndPolygon 269 = .ok (.iload 15, 2) := by decide +kernel
theorem d_M_coreAndPolygon_271 : decode b_M_coreAndPolygon 271 = .ok (.laload, 1) := by decide +kernel
theorem d_M_coreAndPolygon_272 : decode b_M_coreAndPolygon 272 = .ok (.aload_n 0, 1) := by decide +kernel
theorem d_M_coreAndPolygon_273 : decode b_M_coreAndPolygon 273 = .ok (.getfield 62, 3) := by decide +kernel
theorem d_M_coreAndPolygon_276 : decode b_M_coreAndPolygon 276 = .ok (.iload 15, 2) := by decide +kernel
theorem d_M_coreAndPolygon_278 : decode b_M_coreAndPolygon 278 = .ok (.laload, 1) := by decide +kernel
theorem d_M_coreAndPolygon_279 : decode b_M_coreAndPolygon 279 = .ok (.aload_n 0, 1) := by decide +kernel
theorem d_M_coreAndPolygon_280 : decode b_M_coreAndPolygon 280 = .ok (.getfield 59, 3) := by decide +kernel
theorem d_M_coreAndPolygon_283 : decode b_M_coreAndPolygon 283 = .ok (.iload 16, 2) := by decide +kernel
theorem d_M_coreAndPolygon_285 : decode b_M_coreAndPolygon 285 = .ok (.laload, 1) := by decide +kernel
theorem d_M_coreAndPolygon_286 : decode b_M_coreAndPolygon 286 = .ok (.aload_n 0, 1) := by decide +kernel
theorem d_M_coreAndPolygon_287 : decode b_M_coreAndPolygon 287 = .ok (.getfield 62, 3) := by decide +kernel
theorem d_M_coreAndPolygon_290 : decode b_M_coreAndPolygon 290 = .ok (.iload 16, 2) := by decide +kernel
theorem d_M_coreAndPolygon_292 : decode b_M_coreAndPolygon 292 = .ok (.laload, 1) := by decide +kernel
theorem d_M_coreAndPolygon_293 : decode b_M_coreAndPolygon 293 = .ok (.lload 9, 2) := by decide +kernel
theorem d_M_coreAndPolygon_295 : decode b_M_coreAndPolygon 295 = .ok (.lload 11, 2) := by decide +kernel
theorem d_M_coreAndPolygon_297 : decode b_M_coreAndPolygon 297 = .ok (.invokestatic 212, 3) := by decide +kernel
theorem d_M_coreAndPolygon_300 : decode b_M_coreAndPolygon 300 = .ok (.lmul, 1) := by decide +kernel
theorem d_M_coreAndPolygon_301 : decode b_M_coreAndPolygon 301 = .ok (.lconst 0, 1) := by decide +kernel
theorem d_M_coreAndPolygon_302 : decode b_M_coreAndPolygon 302 = .ok (.lcmp, 1) := by decide +kernel
theorem d_M_coreAndPolygon_303 : decode b_M_coreAndPolygon 303 = .ok (.ifCond .ge 7, 3) := by decide +kernel
theorem d_M_coreAndPolygon_306 : decode b_M_coreAndPolygon 306 = .ok (.iconst 1, 1) := by decide +kernel
theorem d_M_coreAndPolygon_307 : decode b_M_coreAndPolygon 307 = .ok (.goto 4, 3) := by decide +kernel
theorem d_M_coreAndPolygon_310 : decode b_M_coreAndPolygon 310 = .ok (.iconst 0, 1) := by decide +kernel
theorem d_M_coreAndPolygon_311 : decode b_M_coreAndPolygon 311 = .ok (.istore 17, 2) := by decide +kernel
theorem d_M_coreAndPolygon_313 : decode b_M_coreAndPolygon 313 = .ok (.iload 17, 2) := by decide +kernel
theorem d_M_coreAndPolygon_315 : decode b_M_coreAndPolygon 315 = .ok (.ifCond .eq 11, 3) := by decide +kernel
theorem d_M_coreAndPolygon_318 : decode b_M_coreAndPolygon 318 = .ok (.lconst 0, 1) := by decide +kernel
theorem d_M_coreAndPolygon_319 : decode b_M_coreAndPolygon 319 = .ok (.lload_n 2, 1) := by decide +kernel
theorem d_M_coreAndPolygon_320 : decode b_M_coreAndPolygon 320 = .ok (.lsub, 1) := by decide +kernel
theorem d_M_coreAndPolygon_321 : decode b_M_coreAndPolygon 321 = .ok (.invokestatic 186, 3) := by decide +kernel
theorem d_M_coreAndPolygon_324 : decode b_M_coreAndPolygon 324 = .ok (.istore 14, 2) := by decide +kernel
theorem d_M_coreAndPolygon_326 : decode b_M_coreAndPolygon 326 = .ok (.iload 14, 2) := by decide +kernel
theorem d_M_coreAndPolygon_328 : decode b_M_coreAndPolygon 328 = .ok (.iload 13, 2) := by decide +kernel
theorem d_M_coreAndPolygon_330 : decode b_M_coreAndPolygon 330 = .ok (.if_icmp .le 8, 3) := by decide +kernel
theorem d_M_coreAndPolygon_333 : decode b_M_coreAndPolygon 333 = .ok (.iload 14, 2) := by decide +kernel
theorem d_M_coreAndPolygon_335 : decode b_M_coreAndPolygon 335 = .ok (.goto 5, 3) := by decide +kernel
theorem d_M_coreAndPolygon_338 : decode b_M_coreAndPolygon 338 = .ok (.iload 13, 2) := by decide +kernel
theorem d_M_coreAndPolygon_340 : decode b_M_coreAndPolygon 340 = .ok (.istore 13, 2) := by decide +kernel
theorem d_M_coreAndPolygon_342 : decode b_M_coreAndPolygon 342 = .ok (.iinc 15 1, 3) := by decide +kernel
theorem d_M_coreAndPolygon_345 : decode b_M_coreAndPolygon 345 = .ok (.goto (-243), 3) := by decide +kernel
theorem d_M_coreAndPolygon_348 : decode b_M_coreAndPolygon 348 = .ok (.iload 13, 2) := by decide +kernel
theorem d_M_coreAndPolygon_350 : decode b_M_coreAndPolygon 350 = .ok (.ireturn, 1) := by decide +kernel
abbrev rm_M_coreAndPolygon : Room := { frames := 3, cells := 0, slots := 0, locals := 101 }
theorem ce_M_coreAndPolygon : gCe y_M_coreAndPolygon (.code y_M_coreAndPolygon b_M_coreAndPolygon 18 (some .int)) 18 2 false := gCe.code wd_1039 wd_57 wd_1038 (by decide) (by decide +kernel)
def f_M_coreAndPolygon_L102 (g0 : gG) (c0 : Nat) (c2 : Int64) (c4 : Int32) (c5 : Int64) (c7 : Int64) (c9 : Int64) (c11 : Int64) (K348 : Int32 → gW → gX Int32) : Nat → Int32 → Int32 → gW → gX Int32
  | 0, _, _, _ => none
  | n + 1, z13, z15, w => (gfA w c0 7 21).bind fun v29 => (gaI w v29 c4).bind fun v31 => if ((8 * c4) + v31) ≤ z15 then (K348 z13 w) else ((gfA w c0 7 21).bind fun v34 => (gaI w v34 c4).bind fun v36 => gguard (¬ v36 = 0) ((gfA w c0 7 22).bind fun v39 => (gaJ w v39 z15).bind fun v41 => (gfA w c0 7 23).bind fun v43 => (gaJ w v43 z15).bind fun v45 => gbind (f_M_fromPiece g0 v41 v45 c5 c7 c9 c11 c2 w) fun v49 w => (gfA w c0 7 22).bind fun v50 => (gaJ w v50 z15).bind fun v52 => (gfA w c0 7 23).bind fun v54 => (gaJ w v54 z15).bind fun v56 => gbind (f_M_turn g0 c5 c7 c9 c11 v52 v56 w) fun v60 w => (gfA w c0 7 22).bind fun v61 => (gaJ w v61 ((8 * c4) + (((z15 - (8 * c4)) + 1) - ((z15 - (8 * c4)) + 1) / v36 * v36))).bind fun v63 => (gfA w c0 7 23).bind fun v65 => (gaJ w v65 ((8 * c4) + (((z15 - (8 * c4)) + 1) - ((z15 - (8 * c4)) + 1) / v36 * v36))).bind fun v67 => gbind (f_M_turn g0 c5 c7 c9 c11 v63 v67 w) fun v71 w => gjoin (fun K311 => gjoin (fun K310 => if 0 ≤ (v60 * v71) then (K310 w) else ((gfA w c0 7 22).bind fun v81 => (gaJ w v81 z15).bind fun v83 => (gfA w c0 7 23).bind fun v85 => (gaJ w v85 z15).bind fun v87 => (gfA w c0 7 22).bind fun v89 => (gaJ w v89 ((8 * c4) + (((z15 - (8 * c4)) + 1) - ((z15 - (8 * c4)) + 1) / v36 * v36))).bind fun v91 => (gfA w c0 7 23).bind fun v93 => (gaJ w v93 ((8 * c4) + (((z15 - (8 * c4)) + 1) - ((z15 - (8 * c4)) + 1) / v36 * v36))).bind fun v95 => gbind (f_M_turn g0 v83 v87 v91 v95 c5 c7 w) fun v99 w => (gfA w c0 7 22).bind fun v100 => (gaJ w v100 z15).bind fun v102 => (gfA w c0 7 23).bind fun v104 => (gaJ w v104 z15).bind fun v106 => (gfA w c0 7 22).bind fun v108 => (gaJ w v108 ((8 * c4) + (((z15 - (8 * c4)) + 1) - ((z15 - (8 * c4)) + 1) / v36 * v36))).bind fun v110 => (gfA w c0 7 23).bind fun v112 => (gaJ w v112 ((8 * c4) + (((z15 - (8 * c4)) + 1) - ((z15 - (8 * c4)) + 1) / v36 * v36))).bind fun v114 => gbind (f_M_turn g0 v102 v106 v110 v114 c9 c11 w) fun v118 w => if 0 ≤ (v99 * v118) then (K310 w) else (K311 1 w))) (fun (w : gW) => K311 0 w)) (fun (y72 : Int32) (w : gW) => gjoin (fun K326 => if y72 = 0 then (K326 v49 w) else (gbind (f_M_common g0 (0 - c2) w) fun v79 w => K326 v79 w)) (fun (x73 : Int32) (w : gW) => gjoin (fun K340 => if x73 ≤ z13 then (K340 z13 w) else (K340 x73 w)) (fun (y74 : Int32) (w : gW) => f_M_coreAndPolygon_L102 g0 c0 c2 c4 c5 c7 c9 c11 K348 n y74 (z15 + 1) w)))))
def f_M_coreAndPolygon (g0 : gG) (a0 : Nat) (p1 : Int32) (p2 : Int64) (w : gW) : gX Int32 := (gfA w a0 7 22).bind fun v1 => (gaJ w v1 (8 * p1)).bind fun v3 => (gfA w a0 7 23).bind fun v5 => (gaJ w v5 (8 * p1)).bind fun v7 => (gfA w a0 7 22).bind fun v9 => (gaJ w v9 ((8 * p1) + 1)).bind fun v11 => (gfA w a0 7 23).bind fun v13 => (gaJ w v13 ((8 * p1) + 1)).bind fun v15 => (gck w a0 7).bind fun _ => gbind (f_M_fromPolygon g0 a0 (1 - p1) v3 v7 p2 w) fun v21 w => (gck w a0 7).bind fun _ => gbind (f_M_fromPolygon g0 a0 (1 - p1) v11 v15 p2 w) fun v26 w => gjoin (fun K93 => if v26 ≤ v21 then (K93 v21 w) else (K93 v26 w)) (fun (y27 : Int32) (w : gW) => gjoin (fun K348 => f_M_coreAndPolygon_L102 g0 a0 p2 (1 - p1) v3 v7 v11 v15 K348 64 y27 (8 * (1 - p1)) w) (fun (x28 : Int32) (w : gW) => some (.inr x28, w)))
set_option maxHeartbeats 4000000 in
set_option maxRecDepth 100000 in
theorem m_M_coreAndPolygon (l : Launch) (hst : l.stackTraces = false) (D : gD) (g0 : gG) (a0 : Nat) (p1 : Int32) (p2 : Int64) (w : gW) (r : (String ⊕ Int32) × gW) (h : f_M_coreAndPolygon g0 a0 p1 p2 w = some r) : gMet l y_M_coreAndPolygon (.code y_M_coreAndPolygon b_M_coreAndPolygon 18 (some .int)) rm_M_coreAndPolygon D g0 [.ref a0, .int p1, .long p2] w (goI r) := by
  refine gw_ofI (by decide +kernel) (Nat.le_of_ble_eq_true rfl) ?_
  intro p e s m below meth c ls args A Q hx hb hml hown hlocks hin hnt hT hK hZ hA hret hexc hthr hI hl
  obtain ⟨H, hH⟩ : ∃ H, H = s.heap := ⟨_, rfl⟩
  rw [← hH] at hI ⊢
  obtain ⟨locs, hlocs⟩ : ∃ z : List Loc, z = [] := ⟨_, rfl⟩
  rw [← hlocs] at hI ⊢
  have hl : lv_has ls 18 [(0, .ref a0), (1, .int p1), (2, .long p2)] := hl
  unfold f_M_coreAndPolygon at h
  refine lv_iconst (v := 1) hx hb d_M_coreAndPolygon_0 (by decide) ?_
  refine lv_iload_n hx hb d_M_coreAndPolygon_1 rfl (lv_at hl 1 rfl) ?_
  refine lv_isub hx hb d_M_coreAndPolygon_2 ?_
  refine lv_istore (lv' := [(4, .int (1 - p1)), (0, .ref a0), (1, .int p1), (2, .long p2)]) hx hb d_M_coreAndPolygon_3 hl (by decide) rfl (fun ls hl => ?_)
  refine lv_aload_n hx hb d_M_coreAndPolygon_5 rfl (lv_at hl 1 rfl) ?_
  obtain ⟨v1, e2, h⟩ := gb h
  refine gw_getA hx hb hT hown hK hI (ci := 7) rfl i_7 22 (by decide) wd_808 (fun _ h9 => h9) e2 d_M_coreAndPolygon_6 ?_
  refine lv_bipush (v := 8) hx hb d_M_coreAndPolygon_9 (by decide) ?_
  refine lv_iload_n hx hb d_M_coreAndPolygon_11 rfl (lv_at hl 2 rfl) ?_
  refine lv_imul hx hb d_M_coreAndPolygon_12 ?_
  obtain ⟨v3, e4, h⟩ := gb h
  refine gw_aldJ hx hb hK hI e4 d_M_coreAndPolygon_13 ?_
  refine lv_lstore (lv' := [(5, .long v3), (4, .int (1 - p1)), (0, .ref a0), (1, .int p1), (2, .long p2)]) hx hb d_M_coreAndPolygon_14 hl (by decide) rfl (fun ls hl => ?_)
  refine lv_aload_n hx hb d_M_coreAndPolygon_16 rfl (lv_at hl 2 rfl) ?_
  obtain ⟨v5, e6, h⟩ := gb h
  refine gw_getA hx hb hT hown hK hI (ci := 7) rfl i_7 23 (by decide) wd_809 (fun _ h9 => h9) e6 d_M_coreAndPolygon_17 ?_
  refine lv_bipush (v := 8) hx hb d_M_coreAndPolygon_20 (by decide) ?_
  refine lv_iload_n hx hb d_M_coreAndPolygon_22 rfl (lv_at hl 3 rfl) ?_
  refine lv_imul hx hb d_M_coreAndPolygon_23 ?_
  obtain ⟨v7, e8, h⟩ := gb h
  refine gw_aldJ hx hb hK hI e8 d_M_coreAndPolygon_24 ?_
  refine lv_lstore (lv' := [(7, .long v7), (5, .long v3), (4, .int (1 - p1)), (0, .ref a0), (1, .int p1), (2, .long p2)]) hx hb d_M_coreAndPolygon_25 hl (by decide) rfl (fun ls hl => ?_)
  refine lv_aload_n hx hb d_M_coreAndPolygon_27 rfl (lv_at hl 3 rfl) ?_
  obtain ⟨v9, e10, h⟩ := gb h
  refine gw_getA hx hb hT hown hK hI (ci := 7) rfl i_7 22 (by decide) wd_808 (fun _ h9 => h9) e10 d_M_coreAndPolygon_28 ?_
  refine lv_bipush (v := 8) hx hb d_M_coreAndPolygon_31 (by decide) ?_
  refine lv_iload_n hx hb d_M_coreAndPolygon_33 rfl (lv_at hl 4 rfl) ?_
  refine lv_imul hx hb d_M_coreAndPolygon_34 ?_
  refine lv_iconst (v := 1) hx hb d_M_coreAndPolygon_35 (by decide) ?_
  refine lv_iadd hx hb d_M_coreAndPolygon_36 ?_
  obtain ⟨v11, e12, h⟩ := gb h
  refine gw_aldJ hx hb hK hI e12 d_M_coreAndPolygon_37 ?_
  refine lv_lstore (lv' := [(9, .long v11), (7, .long v7), (5, .long v3), (4, .int (1 - p1)), (0, .ref a0), (1, .int p1), (2, .long p2)]) hx hb d_M_coreAndPolygon_38 hl (by decide) rfl (fun ls hl => ?_)
  refine lv_aload_n hx hb d_M_coreAndPolygon_40 rfl (lv_at hl 4 rfl) ?_
  obtain ⟨v13, e14, h⟩ := gb h
  refine gw_getA hx hb hT hown hK hI (ci := 7) rfl i_7 23 (by decide) wd_809 (fun _ h9 => h9) e14 d_M_coreAndPolygon_41 ?_
  refine lv_bipush (v := 8) hx hb d_M_coreAndPolygon_44 (by decide) ?_
  refine lv_iload_n hx hb d_M_coreAndPolygon_46 rfl (lv_at hl 5 rfl) ?_
  refine lv_imul hx hb d_M_coreAndPolygon_47 ?_
  refine lv_iconst (v := 1) hx hb d_M_coreAndPolygon_48 (by decide) ?_
  refine lv_iadd hx hb d_M_coreAndPolygon_49 ?_
  obtain ⟨v15, e16, h⟩ := gb h
  refine gw_aldJ hx hb hK hI e16 d_M_coreAndPolygon_50 ?_
  refine lv_lstore (lv' := [(11, .long v15), (9, .long v11), (7, .long v7), (5, .long v3), (4, .int (1 - p1)), (0, .ref a0), (1, .int p1), (2, .long p2)]) hx hb d_M_coreAndPolygon_51 hl (by decide) rfl (fun ls hl => ?_)
  refine lv_aload_n hx hb d_M_coreAndPolygon_53 rfl (lv_at hl 5 rfl) ?_
  refine lv_iload hx hb d_M_coreAndPolygon_54 (lv_at hl 4 rfl) ?_
  refine lv_lload hx hb d_M_coreAndPolygon_56 (lv_at hl 3 rfl) ?_
  refine lv_lload hx hb d_M_coreAndPolygon_58 (lv_at hl 2 rfl) ?_
  refine lv_lload_n hx hb d_M_coreAndPolygon_60 rfl (lv_at hl 7 rfl) ?_
  obtain ⟨q19, e20, h⟩ := gb h
  obtain ⟨u17, e18⟩ := gsome h
  refine gw_callI e18 h (gw_runV (As := [.int (1 - p1), .long v3, .long v7, .long p2]) (rest := []) hx hb hml hown hT hK hZ hA hI (ci := 7) rfl e20 (m_M_fromPolygon l hst D g0 a0 (1 - p1) v3 v7 p2 w u17 e18) ce_M_fromPolygon wd_1040 wd_39 ⟨by decide, by decide⟩ rfl rfl hl.1 rfl (lv_room (Nat.le_of_ble_eq_true rfl)) d_M_coreAndPolygon_61 ⟨(show 0 + 0 ≤ 0 by omega), (show 0 + 0 ≤ 0 by omega)⟩) hI hA hexc (show 0 + 0 ≤ 0 by omega) (show 0 + 0 ≤ 0 by omega) (fun v21 w H locs h hI => ?_)
  refine lv_istore (lv' := [(13, .int v21), (11, .long v15), (9, .long v11), (7, .long v7), (5, .long v3), (4, .int (1 - p1)), (0, .ref a0), (1, .int p1), (2, .long p2)]) hx hb d_M_coreAndPolygon_64 hl (by decide) rfl (fun ls hl => ?_)
  refine lv_aload_n hx hb d_M_coreAndPolygon_66 rfl (lv_at hl 6 rfl) ?_
  refine lv_iload hx hb d_M_coreAndPolygon_67 (lv_at hl 5 rfl) ?_
  refine lv_lload hx hb d_M_coreAndPolygon_69 (lv_at hl 2 rfl) ?_
  refine lv_lload hx hb d_M_coreAndPolygon_71 (lv_at hl 1 rfl) ?_
  refine lv_lload_n hx hb d_M_coreAndPolygon_73 rfl (lv_at hl 8 rfl) ?_
  obtain ⟨q24, e25, h⟩ := gb h
  obtain ⟨u22, e23⟩ := gsome h
  refine gw_callI e23 h (gw_runV (As := [.int (1 - p1), .long v11, .long v15, .long p2]) (rest := []) hx hb hml hown hT hK hZ hA hI (ci := 7) rfl e25 (m_M_fromPolygon l hst D g0 a0 (1 - p1) v11 v15 p2 w u22 e23) ce_M_fromPolygon wd_1040 wd_39 ⟨by decide, by decide⟩ rfl rfl hl.1 rfl (lv_room (Nat.le_of_ble_eq_true rfl)) d_M_coreAndPolygon_74 ⟨(show 0 + 0 ≤ 0 by omega), (show 0 + 0 ≤ 0 by omega)⟩) hI hA hexc (show 0 + 0 ≤ 0 by omega) (show 0 + 0 ≤ 0 by omega) (fun v26 w H locs h hI => ?_)
  refine lv_istore (lv' := [(14, .int v26), (13, .int v21), (11, .long v15), (9, .long v11), (7, .long v7), (5, .long v3), (4, .int (1 - p1)), (0, .ref a0), (1, .int p1), (2, .long p2)]) hx hb d_M_coreAndPolygon_77 hl (by decide) rfl (fun ls hl => ?_)
  refine lv_iload hx hb d_M_coreAndPolygon_79 (lv_at hl 0 rfl) ?_
  refine lv_iload hx hb d_M_coreAndPolygon_81 (lv_at hl 1 rfl) ?_
  obtain ⟨K93, eK93, h⟩ := gj h
  have hK93 : ∀ (y27 : Int32) (w : gW) (H : Heap) (locs : List Loc) (ls : Array Slot), K93 y27 w = some r → gI D s A w H locs → lv_has ls 18 [(0, .ref a0), (2, .long p2), (4, .int (1 - p1)), (5, .long v3), (7, .long v7), (9, .long v11), (11, .long v15)] → W p l e rm_M_coreAndPolygon s m args below meth c H locs 0 0 Q (F0 m 93 ls [.int y27]) := by
    intro y27 w H locs ls h hI hl
    have h := gk2 eK93 h
    refine lv_istore (lv' := [(13, .int y27), (0, .ref a0), (2, .long p2), (4, .int (1 - p1)), (5, .long v3), (7, .long v7), (9, .long v11), (11, .long v15)]) hx hb d_M_coreAndPolygon_93 hl (by decide) rfl (fun ls hl => ?_)
    refine lv_bipush (v := 8) hx hb d_M_coreAndPolygon_95 (by decide) ?_
    refine lv_iload hx hb d_M_coreAndPolygon_97 (lv_at hl 3 rfl) ?_
    refine lv_imul hx hb d_M_coreAndPolygon_99 ?_
    refine lv_istore (lv' := [(15, .int (8 * (1 - p1))), (13, .int y27), (0, .ref a0), (2, .long p2), (4, .int (1 - p1)), (5, .long v3), (7, .long v7), (9, .long v11), (11, .long v15)]) hx hb d_M_coreAndPolygon_100 hl (by decide) rfl (fun ls hl => ?_)
    obtain ⟨K348, eK348, h⟩ := gj h
    have hK348 : ∀ (x28 : Int32) (w : gW) (H : Heap) (locs : List Loc) (ls : Array Slot), K348 x28 w = some r → gI D s A w H locs → lv_has ls 18 [(13, .int x28)] → W p l e rm_M_coreAndPolygon s m args below meth c H locs 0 0 Q (F0 m 348 ls []) := by
      intro x28 w H locs ls h hI hl
      have h := gk2 eK348 h
      refine lv_iload hx hb d_M_coreAndPolygon_348 (lv_at hl 0 rfl) ?_
      exact W.widen (show 0 ≤ 0 by omega) (show 0 ≤ 0 by omega) (hret _ _ (Option.some.inj h).symm _ _ _ _ d_M_coreAndPolygon_350 hI)
    have hL102 : ∀ (n : Nat), ∀ (z29 : Int32) (z30 : Int32) (w : gW) (H : Heap) (locs : List Loc) (ls : Array Slot), f_M_coreAndPolygon_L102 g0 a0 p2 (1 - p1) v3 v7 v11 v15 K348 n z29 z30 w = some r → gI D s A w H locs → lv_has ls 18 [(0, .ref a0), (2, .long p2), (4, .int (1 - p1)), (5, .long v3), (7, .long v7), (9, .long v11), (11, .long v15), (13, .int z29), (15, .int z30)] → W p l e rm_M_coreAndPolygon s m args below meth c H locs 0 0 Q (F0 m 102 ls []) := by
      intro n
      induction n with
      | zero => intro z29 z30 w H locs ls h hI hl; exact absurd h (by simp [f_M_coreAndPolygon_L102])
      | succ n ih =>
        intro z29 z30 w H locs ls h hI hl
        rw [f_M_coreAndPolygon_L102] at h
        refine lv_iload hx hb d_M_coreAndPolygon_102 (lv_at hl 8 rfl) ?_
        refine lv_bipush (v := 8) hx hb d_M_coreAndPolygon_104 (by decide) ?_
        refine lv_iload hx hb d_M_coreAndPolygon_106 (lv_at hl 2 rfl) ?_
        refine lv_imul hx hb d_M_coreAndPolygon_108 ?_
        refine lv_aload_n hx hb d_M_coreAndPolygon_109 rfl (lv_at hl 0 rfl) ?_
        obtain ⟨v31, e32, h⟩ := gb h
        refine gw_getA hx hb hT hown hK hI (ci := 7) rfl i_7 21 (by decide) wd_807 (fun _ h9 => h9) e32 d_M_coreAndPolygon_110 ?_
        refine lv_iload hx hb d_M_coreAndPolygon_113 (lv_at hl 2 rfl) ?_
        obtain ⟨v33, e34, h⟩ := gb h
        refine gw_aldI hx hb hK hI e34 d_M_coreAndPolygon_115 ?_
        refine lv_iadd hx hb d_M_coreAndPolygon_116 ?_
        refine lv_icmp_ge (tgt := 348) hx hb d_M_coreAndPolygon_117 (by decide) (fun c35 => ?_) (fun c35 => ?_)
        · skip
          have h := git c35 h
          exact hK348 _ w H locs ls h hI (lv_sub hl [7] rfl)
        · skip
          have h := gie c35 h
          refine lv_bipush (v := 8) hx hb d_M_coreAndPolygon_120 (by decide) ?_
          refine lv_iload hx hb d_M_coreAndPolygon_122 (lv_at hl 2 rfl) ?_
          refine lv_imul hx hb d_M_coreAndPolygon_124 ?_
          refine lv_iload hx hb d_M_coreAndPolygon_125 (lv_at hl 8 rfl) ?_
          refine lv_bipush (v := 8) hx hb d_M_coreAndPolygon_127 (by decide) ?_
          refine lv_iload hx hb d_M_coreAndPolygon_129 (lv_at hl 2 rfl) ?_
          refine lv_imul hx hb d_M_coreAndPolygon_131 ?_
          refine lv_isub hx hb d_M_coreAndPolygon_132 ?_
          refine lv_iconst (v := 1) hx hb d_M_coreAndPolygon_133 (by decide) ?_
          refine lv_iadd hx hb d_M_coreAndPolygon_134 ?_
          refine lv_aload_n hx hb d_M_coreAndPolygon_135 rfl (lv_at hl 0 rfl) ?_
          obtain ⟨v36, e37, h⟩ := gb h
          refine gw_getA hx hb hT hown hK hI (ci := 7) rfl i_7 21 (by decide) wd_807 (fun _ h9 => h9) e37 d_M_coreAndPolygon_136 ?_
          refine lv_iload hx hb d_M_coreAndPolygon_139 (lv_at hl 2 rfl) ?_
          obtain ⟨v38, e39, h⟩ := gb h
          refine gw_aldI hx hb hK hI e39 d_M_coreAndPolygon_141 ?_
          obtain ⟨g40, h⟩ := gif h
          refine lv_irem hx hb d_M_coreAndPolygon_142 g40 ?_
          refine lv_iadd hx hb d_M_coreAndPolygon_143 ?_
          refine lv_istore (lv' := [(16, .int ((8 * (1 - p1)) + (((z30 - (8 * (1 - p1))) + 1) - ((z30 - (8 * (1 - p1))) + 1) / v38 * v38))), (0, .ref a0), (2, .long p2), (4, .int (1 - p1)), (5, .long v3), (7, .long v7), (9, .long v11), (11, .long v15), (13, .int z29), (15, .int z30)]) hx hb d_M_coreAndPolygon_144 hl (by decide) rfl (fun ls hl => ?_)
          refine lv_aload_n hx hb d_M_coreAndPolygon_146 rfl (lv_at hl 1 rfl) ?_
          obtain ⟨v41, e42, h⟩ := gb h
          refine gw_getA hx hb hT hown hK hI (ci := 7) rfl i_7 22 (by decide) wd_808 (fun _ h9 => h9) e42 d_M_coreAndPolygon_147 ?_
          refine lv_iload hx hb d_M_coreAndPolygon_150 (lv_at hl 9 rfl) ?_
          obtain ⟨v43, e44, h⟩ := gb h
          refine gw_aldJ hx hb hK hI e44 d_M_coreAndPolygon_152 ?_
          refine lv_aload_n hx hb d_M_coreAndPolygon_153 rfl (lv_at hl 1 rfl) ?_
          obtain ⟨v45, e46, h⟩ := gb h
          refine gw_getA hx hb hT hown hK hI (ci := 7) rfl i_7 23 (by decide) wd_809 (fun _ h9 => h9) e46 d_M_coreAndPolygon_154 ?_
          refine lv_iload hx hb d_M_coreAndPolygon_157 (lv_at hl 9 rfl) ?_
          obtain ⟨v47, e48, h⟩ := gb h
          refine gw_aldJ hx hb hK hI e48 d_M_coreAndPolygon_159 ?_
          refine lv_lload hx hb d_M_coreAndPolygon_160 (lv_at hl 4 rfl) ?_
          refine lv_lload hx hb d_M_coreAndPolygon_162 (lv_at hl 5 rfl) ?_
          refine lv_lload hx hb d_M_coreAndPolygon_164 (lv_at hl 6 rfl) ?_
          refine lv_lload hx hb d_M_coreAndPolygon_166 (lv_at hl 7 rfl) ?_
          refine lv_lload_n hx hb d_M_coreAndPolygon_168 rfl (lv_at hl 2 rfl) ?_
          obtain ⟨u49, e50⟩ := gsome h
          refine gw_callI e50 h (gw_runS (As := [.long v43, .long v47, .long v3, .long v7, .long v11, .long v15, .long p2]) (rest := []) hx hb hml hown hT hK hZ hA hI (m_M_fromPiece l hst D g0 v43 v47 v3 v7 v11 v15 p2 w u49 e50) ce_M_fromPiece wd_1048 ⟨by decide, by decide⟩ rfl rfl hl.1 rfl (lv_room (Nat.le_of_ble_eq_true rfl)) d_M_coreAndPolygon_169 ⟨(show 0 + 0 ≤ 0 by omega), (show 0 + 0 ≤ 0 by omega)⟩) hI hA hexc (show 0 + 0 ≤ 0 by omega) (show 0 + 0 ≤ 0 by omega) (fun v51 w H locs h hI => ?_)
          refine lv_istore (lv' := [(14, .int v51), (16, .int ((8 * (1 - p1)) + (((z30 - (8 * (1 - p1))) + 1) - ((z30 - (8 * (1 - p1))) + 1) / v38 * v38))), (0, .ref a0), (2, .long p2), (4, .int (1 - p1)), (5, .long v3), (7, .long v7), (9, .long v11), (11, .long v15), (13, .int z29), (15, .int z30)]) hx hb d_M_coreAndPolygon_172 hl (by decide) rfl (fun ls hl => ?_)
          refine lv_lload hx hb d_M_coreAndPolygon_174 (lv_at hl 5 rfl) ?_
          refine lv_lload hx hb d_M_coreAndPolygon_176 (lv_at hl 6 rfl) ?_
          refine lv_lload hx hb d_M_coreAndPolygon_178 (lv_at hl 7 rfl) ?_
          refine lv_lload hx hb d_M_coreAndPolygon_180 (lv_at hl 8 rfl) ?_
          refine lv_aload_n hx hb d_M_coreAndPolygon_182 rfl (lv_at hl 2 rfl) ?_
          obtain ⟨v52, e53, h⟩ := gb h
          refine gw_getA hx hb hT hown hK hI (ci := 7) rfl i_7 22 (by decide) wd_808 (fun _ h9 => h9) e53 d_M_coreAndPolygon_183 ?_
          refine lv_iload hx hb d_M_coreAndPolygon_186 (lv_at hl 10 rfl) ?_
          obtain ⟨v54, e55, h⟩ := gb h
          refine gw_aldJ hx hb hK hI e55 d_M_coreAndPolygon_188 ?_
          refine lv_aload_n hx hb d_M_coreAndPolygon_189 rfl (lv_at hl 2 rfl) ?_
          obtain ⟨v56, e57, h⟩ := gb h
          refine gw_getA hx hb hT hown hK hI (ci := 7) rfl i_7 23 (by decide) wd_809 (fun _ h9 => h9) e57 d_M_coreAndPolygon_190 ?_
          refine lv_iload hx hb d_M_coreAndPolygon_193 (lv_at hl 10 rfl) ?_
          obtain ⟨v58, e59, h⟩ := gb h
          refine gw_aldJ hx hb hK hI e59 d_M_coreAndPolygon_195 ?_
          obtain ⟨u60, e61⟩ := gsome h
          refine gw_callJ e61 h (gw_runS (As := [.long v3, .long v7, .long v11, .long v15, .long v54, .long v58]) (rest := []) hx hb hml hown hT hK hZ hA hI (m_M_turn l hst D g0 v3 v7 v11 v15 v54 v58 w u60 e61) ce_M_turn wd_1051 ⟨by decide, by decide⟩ rfl rfl hl.1 rfl (lv_room (Nat.le_of_ble_eq_true rfl)) d_M_coreAndPolygon_196 ⟨(show 0 + 0 ≤ 0 by omega), (show 0 + 0 ≤ 0 by omega)⟩) hI hA hexc (show 0 + 0 ≤ 0 by omega) (show 0 + 0 ≤ 0 by omega) (fun v62 w H locs h hI => ?_)
          refine lv_lload hx hb d_M_coreAndPolygon_199 (lv_at hl 5 rfl) ?_
          refine lv_lload hx hb d_M_coreAndPolygon_201 (lv_at hl 6 rfl) ?_
          refine lv_lload hx hb d_M_coreAndPolygon_203 (lv_at hl 7 rfl) ?_
          refine lv_lload hx hb d_M_coreAndPolygon_205 (lv_at hl 8 rfl) ?_
          refine lv_aload_n hx hb d_M_coreAndPolygon_207 rfl (lv_at hl 2 rfl) ?_
          obtain ⟨v63, e64, h⟩ := gb h
          refine gw_getA hx hb hT hown hK hI (ci := 7) rfl i_7 22 (by decide) wd_808 (fun _ h9 => h9) e64 d_M_coreAndPolygon_208 ?_
          refine lv_iload hx hb d_M_coreAndPolygon_211 (lv_at hl 1 rfl) ?_
          obtain ⟨v65, e66, h⟩ := gb h
          refine gw_aldJ hx hb hK hI e66 d_M_coreAndPolygon_213 ?_
          refine lv_aload_n hx hb d_M_coreAndPolygon_214 rfl (lv_at hl 2 rfl) ?_
          obtain ⟨v67, e68, h⟩ := gb h
          refine gw_getA hx hb hT hown hK hI (ci := 7) rfl i_7 23 (by decide) wd_809 (fun _ h9 => h9) e68 d_M_coreAndPolygon_215 ?_
          refine lv_iload hx hb d_M_coreAndPolygon_218 (lv_at hl 1 rfl) ?_
          obtain ⟨v69, e70, h⟩ := gb h
          refine gw_aldJ hx hb hK hI e70 d_M_coreAndPolygon_220 ?_
          obtain ⟨u71, e72⟩ := gsome h
          refine gw_callJ e72 h (gw_runS (As := [.long v3, .long v7, .long v11, .long v15, .long v65, .long v69]) (rest := [.long v62]) hx hb hml hown hT hK hZ hA hI (m_M_turn l hst D g0 v3 v7 v11 v15 v65 v69 w u71 e72) ce_M_turn wd_1051 ⟨by decide, by decide⟩ rfl rfl hl.1 rfl (lv_room (Nat.le_of_ble_eq_true rfl)) d_M_coreAndPolygon_221 ⟨(show 0 + 0 ≤ 0 by omega), (show 0 + 0 ≤ 0 by omega)⟩) hI hA hexc (show 0 + 0 ≤ 0 by omega) (show 0 + 0 ≤ 0 by omega) (fun v73 w H locs h hI => ?_)
          refine lv_lmul hx hb d_M_coreAndPolygon_224 ?_
          refine lv_lconst (v := 0) hx hb d_M_coreAndPolygon_225 (by decide) ?_
          refine W.lcmp hx hb d_M_coreAndPolygon_226 ?_
          obtain ⟨K311, eK311, h⟩ := gj h
          have hK311 : ∀ (y74 : Int32) (w : gW) (H : Heap) (locs : List Loc) (ls : Array Slot), K311 y74 w = some r → gI D s A w H locs → lv_has ls 18 [(0, .ref a0), (2, .long p2), (4, .int (1 - p1)), (5, .long v3), (7, .long v7), (9, .long v11), (11, .long v15), (13, .int z29), (14, .int v51), (15, .int z30)] → W p l e rm_M_coreAndPolygon s m args below meth c H locs 0 0 Q (F0 m 311 ls [.int y74]) := by
            intro y74 w H locs ls h hI hl
            have h := gk2 eK311 h
            refine lv_istore (lv' := [(17, .int y74), (0, .ref a0), (2, .long p2), (4, .int (1 - p1)), (5, .long v3), (7, .long v7), (9, .long v11), (11, .long v15), (13, .int z29), (14, .int v51), (15, .int z30)]) hx hb d_M_coreAndPolygon_311 hl (by decide) rfl (fun ls hl => ?_)
            refine lv_iload hx hb d_M_coreAndPolygon_313 (lv_at hl 0 rfl) ?_
            obtain ⟨K326, eK326, h⟩ := gj h
            have hK326 : ∀ (x75 : Int32) (w : gW) (H : Heap) (locs : List Loc) (ls : Array Slot), K326 x75 w = some r → gI D s A w H locs → lv_has ls 18 [(0, .ref a0), (2, .long p2), (4, .int (1 - p1)), (5, .long v3), (7, .long v7), (9, .long v11), (11, .long v15), (13, .int z29), (14, .int x75), (15, .int z30)] → W p l e rm_M_coreAndPolygon s m args below meth c H locs 0 0 Q (F0 m 326 ls []) := by
              intro x75 w H locs ls h hI hl
              have h := gk2 eK326 h
              refine lv_iload hx hb d_M_coreAndPolygon_326 (lv_at hl 8 rfl) ?_
              refine lv_iload hx hb d_M_coreAndPolygon_328 (lv_at hl 7 rfl) ?_
              obtain ⟨K340, eK340, h⟩ := gj h
              have hK340 : ∀ (y76 : Int32) (w : gW) (H : Heap) (locs : List Loc) (ls : Array Slot), K340 y76 w = some r → gI D s A w H locs → lv_has ls 18 [(0, .ref a0), (2, .long p2), (4, .int (1 - p1)), (5, .long v3), (7, .long v7), (9, .long v11), (11, .long v15), (15, .int z30)] → W p l e rm_M_coreAndPolygon s m args below meth c H locs 0 0 Q (F0 m 340 ls [.int y76]) := by
                intro y76 w H locs ls h hI hl
                have h := gk2 eK340 h
                refine lv_istore (lv' := [(13, .int y76), (0, .ref a0), (2, .long p2), (4, .int (1 - p1)), (5, .long v3), (7, .long v7), (9, .long v11), (11, .long v15), (15, .int z30)]) hx hb d_M_coreAndPolygon_340 hl (by decide) rfl (fun ls hl => ?_)
                refine lv_iinc (v := z30 + 1) (lv' := [(15, .int (z30 + 1)), (13, .int y76), (0, .ref a0), (2, .long p2), (4, .int (1 - p1)), (5, .long v3), (7, .long v7), (9, .long v11), (11, .long v15)]) hx hb d_M_coreAndPolygon_342 hl (k := 8) rfl rfl (by decide) rfl (fun ls hl => ?_)
                refine lv_goto (tgt := 102) hx hb d_M_coreAndPolygon_345 (by decide) ?_
                exact ih _ _ w H locs ls h hI (lv_sub hl [2, 3, 4, 5, 6, 7, 8, 1, 0] rfl)
              refine lv_icmp_le (tgt := 338) hx hb d_M_coreAndPolygon_330 (by decide) (fun c77 => ?_) (fun c77 => ?_)
              · skip
                have h := git c77 h
                refine lv_iload hx hb d_M_coreAndPolygon_338 (lv_at hl 7 rfl) ?_
                exact hK340 _ w H locs ls h hI (lv_sub hl [0, 1, 2, 3, 4, 5, 6, 9] rfl)
              · skip
                have h := gie c77 h
                refine lv_iload hx hb d_M_coreAndPolygon_333 (lv_at hl 8 rfl) ?_
                refine lv_goto (tgt := 340) hx hb d_M_coreAndPolygon_335 (by decide) ?_
                exact hK340 _ w H locs ls h hI (lv_sub hl [0, 1, 2, 3, 4, 5, 6, 9] rfl)
            refine lv_if_eq (tgt := 326) hx hb d_M_coreAndPolygon_315 (by decide) (fun c78 => ?_) (fun c78 => ?_)
            · skip
              have h := git c78 h
              exact hK326 _ w H locs ls h hI (lv_sub hl [1, 2, 3, 4, 5, 6, 7, 8, 9, 10] rfl)
            · skip
              have h := gie c78 h
              refine lv_lconst (v := 0) hx hb d_M_coreAndPolygon_318 (by decide) ?_
              refine lv_lload_n hx hb d_M_coreAndPolygon_319 rfl (lv_at hl 2 rfl) ?_
              refine lv_lsub hx hb d_M_coreAndPolygon_320 ?_
              obtain ⟨u79, e80⟩ := gsome h
              refine gw_callI e80 h (gw_runS (As := [.long (0 - p2)]) (rest := []) hx hb hml hown hT hK hZ hA hI (m_M_common l hst D g0 (0 - p2) w u79 e80) ce_M_common wd_1028 ⟨by decide, by decide⟩ rfl rfl hl.1 rfl (lv_room (Nat.le_of_ble_eq_true rfl)) d_M_coreAndPolygon_321 ⟨(show 0 + 0 ≤ 0 by omega), (show 0 + 0 ≤ 0 by omega)⟩) hI hA hexc (show 0 + 0 ≤ 0 by omega) (show 0 + 0 ≤ 0 by omega) (fun v81 w H locs h hI => ?_)
              refine lv_istore (lv' := [(14, .int v81), (17, .int y74), (0, .ref a0), (2, .long p2), (4, .int (1 - p1)), (5, .long v3), (7, .long v7), (9, .long v11), (11, .long v15), (13, .int z29), (15, .int z30)]) hx hb d_M_coreAndPolygon_324 hl (by decide) rfl (fun ls hl => ?_)
              exact hK326 _ w H locs ls h hI (lv_sub hl [2, 3, 4, 5, 6, 7, 8, 9, 0, 10] rfl)
          obtain ⟨K310, eK310, h⟩ := gj h
          have hK310 : ∀ (w : gW) (H : Heap) (locs : List Loc) (ls : Array Slot), K310 w = some r → gI D s A w H locs → lv_has ls 18 [(0, .ref a0), (2, .long p2), (4, .int (1 - p1)), (5, .long v3), (7, .long v7), (9, .long v11), (11, .long v15), (13, .int z29), (14, .int v51), (15, .int z30)] → W p l e rm_M_coreAndPolygon s m args below meth c H locs 0 0 Q (F0 m 310 ls []) := by
            intro w H locs ls h hI hl
            have h := gk1 eK310 h
            refine lv_iconst (v := 0) hx hb d_M_coreAndPolygon_310 (by decide) ?_
            exact hK311 _ w H locs ls h hI (lv_sub hl [0, 1, 2, 3, 4, 5, 6, 7, 8, 9] rfl)
          refine lv_if_ge (tgt := 310) hx hb d_M_coreAndPolygon_227 (by decide) (fun c82 => ?_) (fun c82 => ?_)
          · have c82 := (lg_cmp_ge _ _).mp c82
            have h := git c82 h
            exact hK310 w H locs ls h hI (lv_sub hl [2, 3, 4, 5, 6, 7, 8, 9, 0, 10] rfl)
          · have c82 := mt (lg_cmp_ge _ _).mpr c82
            have h := gie c82 h
            refine lv_aload_n hx hb d_M_coreAndPolygon_230 rfl (lv_at hl 2 rfl) ?_
            obtain ⟨v83, e84, h⟩ := gb h
            refine gw_getA hx hb hT hown hK hI (ci := 7) rfl i_7 22 (by decide) wd_808 (fun _ h9 => h9) e84 d_M_coreAndPolygon_231 ?_
            refine lv_iload hx hb d_M_coreAndPolygon_234 (lv_at hl 10 rfl) ?_
            obtain ⟨v85, e86, h⟩ := gb h
            refine gw_aldJ hx hb hK hI e86 d_M_coreAndPolygon_236 ?_
            refine lv_aload_n hx hb d_M_coreAndPolygon_237 rfl (lv_at hl 2 rfl) ?_
            obtain ⟨v87, e88, h⟩ := gb h
            refine gw_getA hx hb hT hown hK hI (ci := 7) rfl i_7 23 (by decide) wd_809 (fun _ h9 => h9) e88 d_M_coreAndPolygon_238 ?_
            refine lv_iload hx hb d_M_coreAndPolygon_241 (lv_at hl 10 rfl) ?_
            obtain ⟨v89, e90, h⟩ := gb h
            refine gw_aldJ hx hb hK hI e90 d_M_coreAndPolygon_243 ?_
            refine lv_aload_n hx hb d_M_coreAndPolygon_244 rfl (lv_at hl 2 rfl) ?_
            obtain ⟨v91, e92, h⟩ := gb h
            refine gw_getA hx hb hT hown hK hI (ci := 7) rfl i_7 22 (by decide) wd_808 (fun _ h9 => h9) e92 d_M_coreAndPolygon_245 ?_
            refine lv_iload hx hb d_M_coreAndPolygon_248 (lv_at hl 1 rfl) ?_
            obtain ⟨v93, e94, h⟩ := gb h
            refine gw_aldJ hx hb hK hI e94 d_M_coreAndPolygon_250 ?_
            refine lv_aload_n hx hb d_M_coreAndPolygon_251 rfl (lv_at hl 2 rfl) ?_
            obtain ⟨v95, e96, h⟩ := gb h
            refine gw_getA hx hb hT hown hK hI (ci := 7) rfl i_7 23 (by decide) wd_809 (fun _ h9 => h9) e96 d_M_coreAndPolygon_252 ?_
            refine lv_iload hx hb d_M_coreAndPolygon_255 (lv_at hl 1 rfl) ?_
            obtain ⟨v97, e98, h⟩ := gb h
            refine gw_aldJ hx hb hK hI e98 d_M_coreAndPolygon_257 ?_
            refine lv_lload hx hb d_M_coreAndPolygon_258 (lv_at hl 5 rfl) ?_
            refine lv_lload hx hb d_M_coreAndPolygon_260 (lv_at hl 6 rfl) ?_
            obtain ⟨u99, e100⟩ := gsome h
            refine gw_callJ e100 h (gw_runS (As := [.long v85, .long v89, .long v93, .long v97, .long v3, .long v7]) (rest := []) hx hb hml hown hT hK hZ hA hI (m_M_turn l hst D g0 v85 v89 v93 v97 v3 v7 w u99 e100) ce_M_turn wd_1051 ⟨by decide, by decide⟩ rfl rfl hl.1 rfl (lv_room (Nat.le_of_ble_eq_true rfl)) d_M_coreAndPolygon_262 ⟨(show 0 + 0 ≤ 0 by omega), (show 0 + 0 ≤ 0 by omega)⟩) hI hA hexc (show 0 + 0 ≤ 0 by omega) (show 0 + 0 ≤ 0 by omega) (fun v101 w H locs h hI => ?_)
            refine lv_aload_n hx hb d_M_coreAndPolygon_265 rfl (lv_at hl 2 rfl) ?_
            obtain ⟨v102, e103, h⟩ := gb h
            refine gw_getA hx hb hT hown hK hI (ci := 7) rfl i_7 22 (by decide) wd_808 (fun _ h9 => h9) e103 d_M_coreAndPolygon_266 ?_
            refine lv_iload hx hb d_M_coreAndPolygon_269 (lv_at hl 10 rfl) ?_
            obtain ⟨v104, e105, h⟩ := gb h
            refine gw_aldJ hx hb hK hI e105 d_M_coreAndPolygon_271 ?_
            refine lv_aload_n hx hb d_M_coreAndPolygon_272 rfl (lv_at hl 2 rfl) ?_
            obtain ⟨v106, e107, h⟩ := gb h
            refine gw_getA hx hb hT hown hK hI (ci := 7) rfl i_7 23 (by decide) wd_809 (fun _ h9 => h9) e107 d_M_coreAndPolygon_273 ?_
            refine lv_iload hx hb d_M_coreAndPolygon_276 (lv_at hl 10 rfl) ?_
            obtain ⟨v108, e109, h⟩ := gb h
            refine gw_aldJ hx hb hK hI e109 d_M_coreAndPolygon_278 ?_
            refine lv_aload_n hx hb d_M_coreAndPolygon_279 rfl (lv_at hl 2 rfl) ?_
            obtain ⟨v110, e111, h⟩ := gb h
            refine gw_getA hx hb hT hown hK hI (ci := 7) rfl i_7 22 (by decide) wd_808 (fun _ h9 => h9) e111 d_M_coreAndPolygon_280 ?_
            refine lv_iload hx hb d_M_coreAndPolygon_283 (lv_at hl 1 rfl) ?_
            obtain ⟨v112, e113, h⟩ := gb h
            refine gw_aldJ hx hb hK hI e113 d_M_coreAndPolygon_285 ?_
            refine lv_aload_n hx hb d_M_coreAndPolygon_286 rfl (lv_at hl 2 rfl) ?_
            obtain ⟨v114, e115, h⟩ := gb h
            refine gw_getA hx hb hT hown hK hI (ci := 7) rfl i_7 23 (by decide) wd_809 (fun _ h9 => h9) e115 d_M_coreAndPolygon_287 ?_
            refine lv_iload hx hb d_M_coreAndPolygon_290 (lv_at hl 1 rfl) ?_
            obtain ⟨v116, e117, h⟩ := gb h
            refine gw_aldJ hx hb hK hI e117 d_M_coreAndPolygon_292 ?_
            refine lv_lload hx hb d_M_coreAndPolygon_293 (lv_at hl 7 rfl) ?_
            refine lv_lload hx hb d_M_coreAndPolygon_295 (lv_at hl 8 rfl) ?_
            obtain ⟨u118, e119⟩ := gsome h
            refine gw_callJ e119 h (gw_runS (As := [.long v104, .long v108, .long v112, .long v116, .long v11, .long v15]) (rest := [.long v101]) hx hb hml hown hT hK hZ hA hI (m_M_turn l hst D g0 v104 v108 v112 v116 v11 v15 w u118 e119) ce_M_turn wd_1051 ⟨by decide, by decide⟩ rfl rfl hl.1 rfl (lv_room (Nat.le_of_ble_eq_true rfl)) d_M_coreAndPolygon_297 ⟨(show 0 + 0 ≤ 0 by omega), (show 0 + 0 ≤ 0 by omega)⟩) hI hA hexc (show 0 + 0 ≤ 0 by omega) (show 0 + 0 ≤ 0 by omega) (fun v120 w H locs h hI => ?_)
            refine lv_lmul hx hb d_M_coreAndPolygon_300 ?_
            refine lv_lconst (v := 0) hx hb d_M_coreAndPolygon_301 (by decide) ?_
            refine W.lcmp hx hb d_M_coreAndPolygon_302 ?_
            refine lv_if_ge (tgt := 310) hx hb d_M_coreAndPolygon_303 (by decide) (fun c121 => ?_) (fun c121 => ?_)
            · have c121 := (lg_cmp_ge _ _).mp c121
              have h := git c121 h
              exact hK310 w H locs ls h hI (lv_sub hl [2, 3, 4, 5, 6, 7, 8, 9, 0, 10] rfl)
            · have c121 := mt (lg_cmp_ge _ _).mpr c121
              have h := gie c121 h
              refine lv_iconst (v := 1) hx hb d_M_coreAndPolygon_306 (by decide) ?_
              refine lv_goto (tgt := 311) hx hb d_M_coreAndPolygon_307 (by decide) ?_
              exact hK311 _ w H locs ls h hI (lv_sub hl [2, 3, 4, 5, 6, 7, 8, 9, 0, 10] rfl)
    exact hL102 64 _ _ w H locs ls h hI (lv_sub hl [2, 3, 4, 5, 6, 7, 8, 1, 0] rfl)
  refine lv_icmp_le (tgt := 91) hx hb d_M_coreAndPolygon_83 (by decide) (fun c122 => ?_) (fun c122 => ?_)
  · skip
    have h := git c122 h
    refine lv_iload hx hb d_M_coreAndPolygon_91 (lv_at hl 1 rfl) ?_
    exact hK93 _ w H locs ls h hI (lv_sub hl [7, 9, 6, 5, 4, 3, 2] rfl)
  · skip
    have h := gie c122 h
    refine lv_iload hx hb d_M_coreAndPolygon_86 (lv_at hl 0 rfl) ?_
    refine lv_goto (tgt := 93) hx hb d_M_coreAndPolygon_88 (by decide) ?_
    exact hK93 _ w H locs ls h hI (lv_sub hl [7, 9, 6, 5, 4, 3, 2] rfl)

abbrev b_M_both : ByteArray := prog_9_method_51_code
def y_M_both : MethodName := ⟨"BodySolidsModel", "both", "()I"⟩
theorem d_M_both_0 : decode b_M_both 0 = .ok (.aload_n 0, 1) := by decide +kernel
theorem d_M_both_1 : decode b_M_both 1 = .ok (.getfield 53, 3) := by decide +kernel
theorem d_M_both_4 : decode b_M_both 4 = .ok (.iconst 0, 1) := by decide +kernel
theorem d_M_both_5 : decode b_M_both 5 = .ok (.iaload, 1) := by decide +kernel
theorem d_M_both_6 : decode b_M_both 6 = .ok (.iconst 3, 1) := by decide +kernel
theorem d_M_both_7 : decode b_M_both 7 = .ok (.if_icmp .ne 18, 3) := by decide +kernel
theorem d_M_both_10 : decode b_M_both 10 = .ok (.aload_n 0, 1) := by decide +kernel
theorem d_M_both_11 : decode b_M_both 11 = .ok (.getfield 53, 3) := by decide +kernel
theorem d_M_both_14 : decode b_M_both 14 = .ok (.iconst 1, 1) := by decide +kernel
theorem d_M_both_15 : decode b_M_both 15 = .ok (.iaload, 1) := by decide +kernel
theorem d_M_both_16 : decode b_M_both 16 = .ok (.iconst 3, 1) := by decide +kernel
theorem d_M_both_17 : decode b_M_both 17 = .ok (.if_icmp .ne 8, 3) := by decide +kernel
theorem d_M_both_20 : decode b_M_both 20 = .ok (.aload_n 0, 1) := by decide +kernel
theorem d_M_both_21 : decode b_M_both 21 = .ok (.invokevirtual 239, 3) := by decide +kernel
theorem d_M_both_24 : decode b_M_both 24 = .ok (.ireturn, 1) := by decide +kernel
theorem d_M_both_25 : decode b_M_both 25 = .ok (.aload_n 0, 1) := by decide +kernel
theorem d_M_both_26 : decode b_M_both 26 = .ok (.getfield 53, 3) := by decide +kernel
theorem d_M_both_29 : decode b_M_both 29 = .ok (.iconst 0, 1) := by decide +kernel
theorem d_M_both_30 : decode b_M_both 30 = .ok (.iaload, 1) := by decide +kernel
theorem d_M_both_31 : decode b_M_both 31 = .ok (.iconst 3, 1) := by decide +kernel
theorem d_M_both_32 : decode b_M_both 32 = .ok (.if_icmp .eq 13, 3) := by decide +kernel
theorem d_M_both_35 : decode b_M_both 35 = .ok (.aload_n 0, 1) := by decide +kernel
theorem d_M_both_36 : decode b_M_both 36 = .ok (.getfield 53, 3) := by decide +kernel
theorem d_M_both_39 : decode b_M_both 39 = .ok (.iconst 1, 1) := by decide +kernel
theorem d_M_both_40 : decode b_M_both 40 = .ok (.iaload, 1) := by decide +kernel
theorem d_M_both_41 : decode b_M_both 41 = .ok (.iconst 3, 1) := by decide +kernel
theorem d_M_both_42 : decode b_M_both 42 = .ok (.if_icmp .ne 82, 3) := by decide +kernel
theorem d_M_both_45 : decode b_M_both 45 = .ok (.aload_n 0, 1) := by decide +kernel
theorem d_M_both_46 : decode b_M_both 46 = .ok (.getfield 53, 3) := by decide +kernel
theorem d_M_both_49 : decode b_M_both 49 = .ok (.iconst 0, 1) := by decide +kernel
theorem d_M_both_50 : decode b_M_both 50 = .ok (.iaload, 1) := by decide +kernel
theorem d_M_both_51 : decode b_M_both 51 = .ok (.iconst 3, 1) := by decide +kernel
theorem d_M_both_52 : decode b_M_both 52 = .ok (.if_icmp .ne 7, 3) := by decide +kernel
theorem d_M_both_55 : decode b_M_both 55 = .ok (.iconst 0, 1) := by decide +kernel
theorem d_M_both_56 : decode b_M_both 56 = .ok (.goto 4, 3) := by decide +kernel
theorem d_M_both_59 : decode b_M_both 59 = .ok (.iconst 1, 1) := by decide +kernel
theorem d_M_both_60 : decode b_M_both 60 = .ok (.istore_n 1, 1) := by decide +kernel
theorem d_M_both_61 : decode b_M_both 61 = .ok (.aload_n 0, 1) := by decide +kernel
theorem d_M_both_62 : decode b_M_both 62 = .ok (.invokevirtual 231, 3) := by decide +kernel
theorem d_M_both_65 : decode b_M_both 65 = .ok (.lstore_n 2, 1) := by decide +kernel
theorem d_M_both_66 : decode b_M_both 66 = .ok (.aload_n 0, 1) := by decide +kernel
theorem d_M_both_67 : decode b_M_both 67 = .ok (.getfield 65, 3) := by decide +kernel
theorem d_M_both_70 : decode b_M_both 70 = .ok (.iload_n 1, 1) := by decide +kernel
theorem d_M_both_71 : decode b_M_both 71 = .ok (.laload, 1) := by decide +kernel
theorem d_M_both_72 : decode b_M_both 72 = .ok (.aload_n 0, 1) := by decide +kernel
theorem d_M_both_73 : decode b_M_both 73 = .ok (.getfield 65, 3) := by decide +kernel
theorem d_M_both_76 : decode b_M_both 76 = .ok (.iload_n 1, 1) := by decide +kernel
theorem d_M_both_77 : decode b_M_both 77 = .ok (.laload, 1) := by decide +kernel
theorem d_M_both_78 : decode b_M_both 78 = .ok (.lmul, 1) := by decide +kernel
theorem d_M_both_79 : decode b_M_both 79 = .ok (.lload_n 2, 1) := by decide +kernel
theorem d_M_both_80 : decode b_M_both 80 = .ok (.lload_n 2, 1) := by decide +kernel
theorem d_M_both_81 : decode b_M_both 81 = .ok (.lmul, 1) := by decide +kernel
theorem d_M_both_82 : decode b_M_both 82 = .ok (.lsub, 1) := by decide +kernel
theorem d_M_both_83 : decode b_M_both 83 = .ok (.lstore 4, 2) := by decide +kernel
theorem d_M_both_85 : decode b_M_both 85 = .ok (.lload 4, 2) := by decide +kernel
theorem d_M_both_87 : decode b_M_both 87 = .ok (.lconst 0, 1) := by decide +kernel
theorem d_M_both_88 : decode b_M_both 88 = .ok (.lcmp, 1) := by decide +kernel
theorem d_M_both_89 : decode b_M_both 89 = .ok (.ifCond .ge 5, 3) := by decide +kernel
theorem d_M_both_92 : decode b_M_both 92 = .ok (.iconst 0, 1) := by decide +kernel
theorem d_M_both_93 : decode b_M_both 93 = .ok (.ireturn, 1) := by decide +kernel
theorem d_M_both_94 : decode b_M_both 94 = .ok (.aload_n 0, 1) := by decide +kernel
theorem d_M_both_95 : decode b_M_both 95 = .ok (.getfield 53, 3) := by decide +kernel
theorem d_M_both_98 : decode b_M_both 98 = .ok (.iconst 1, 1) := by decide +kernel
theorem d_M_both_99 : decode b_M_both 99 = .ok (.iload_n 1, 1) := by decide +kernel
theorem d_M_both_100 : decode b_M_both 100 = .ok (.isub, 1) := by decide +kernel
theorem d_M_both_101 : decode b_M_both 101 = .ok (.iaload, 1) := by decide +kernel
theorem d_M_both_102 : decode b_M_both 102 = .ok (.iconst 1, 1) := by decide +kernel
theorem d_M_both_103 : decode b_M_both 103 = .ok (.if_icmp .ne 13, 3) := by decide +kernel
theorem d_M_both_106 : decode b_M_both 106 = .ok (.aload_n 0, 1) := by decide +kernel
theorem d_M_both_107 : decode b_M_both 107 = .ok (.iload_n 1, 1) := by decide +kernel
theorem d_M_both_108 : decode b_M_both 108 = .ok (.lload 4, 2) := by decide +kernel
theorem d_M_both_110 : decode b_M_both 110 = .ok (.invokevirtual 242, 3) := by decide +kernel
theorem d_M_both_113 : decode b_M_both 113 = .ok (.goto 10, 3) := by decide +kernel
theorem d_M_both_116 : decode b_M_both 116 = .ok (.aload_n 0, 1) := by decide +kernel
theorem d_M_both_117 : decode b_M_both 117 = .ok (.iload_n 1, 1) := by decide +kernel
theorem d_M_both_118 : decode b_M_both 118 = .ok (.lload 4, 2) := by decide +kernel
theorem d_M_both_120 : decode b_M_both 120 = .ok (.invokevirtual 246, 3) := by decide +kernel
theorem d_M_both_123 : decode b_M_both 123 = .ok (.ireturn, 1) := by decide +kernel
theorem d_M_both_124 : decode b_M_both 124 = .ok (.aload_n 0, 1) := by decide +kernel
theorem d_M_both_125 : decode b_M_both 125 = .ok (.getfield 68, 3) := by decide +kernel
theorem d_M_both_128 : decode b_M_both 128 = .ok (.iconst 0, 1) := by decide +kernel
theorem d_M_both_129 : decode b_M_both 129 = .ok (.laload, 1) := by decide +kernel
theorem d_M_both_130 : decode b_M_both 130 = .ok (.aload_n 0, 1) := by decide +kernel
theorem d_M_both_131 : decode b_M_both 131 = .ok (.getfield 68, 3) := by decide +kernel
theorem d_M_both_134 : decode b_M_both 134 = .ok (.iconst 1, 1) := by decide +kernel
theorem d_M_both_135 : decode b_M_both 135 = .ok (.laload, 1) := by decide +kernel
theorem d_M_both_136 : decode b_M_both 136 = .ok (.invokestatic 222, 3) := by decide +kernel
theorem d_M_both_139 : decode b_M_both 139 = .ok (.aload_n 0, 1) := by decide +kernel
theorem d_M_both_140 : decode b_M_both 140 = .ok (.getfield 71, 3) := by decide +kernel
theorem d_M_both_143 : decode b_M_both 143 = .ok (.iconst 0, 1) := by decide +kernel
theorem d_M_both_144 : decode b_M_both 144 = .ok (.laload, 1) := by decide +kernel
theorem d_M_both_145 : decode b_M_both 145 = .ok (.aload_n 0, 1) := by decide +kernel
theorem d_M_both_146 : decode b_M_both 146 = .ok (.getfield 71, 3) := by decide +kernel
theorem d_M_both_149 : decode b_M_both 149 = .ok (.iconst 1, 1) := by decide +kernel
theorem d_M_both_150 : decode b_M_both 150 = .ok (.laload, 1) := by decide +kernel
theorem d_M_both_151 : decode b_M_both 151 = .ok (.invokestatic 219, 3) := by decide +kernel
theorem d_M_both_154 : decode b_M_both 154 = .ok (.lsub, 1) := by decide +kernel
theorem d_M_both_155 : decode b_M_both 155 = .ok (.invokestatic 186, 3) := by decide +kernel
theorem d_M_both_158 : decode b_M_both 158 = .ok (.istore_n 1, 1) := by decide +kernel
theorem d_M_both_159 : decode b_M_both 159 = .ok (.aload_n 0, 1) := by decide +kernel
theorem d_M_both_160 : decode b_M_both 160 = .ok (.invokevirtual 249, 3) := by decide +kernel
theorem d_M_both_163 : decode b_M_both 163 = .ok (.istore_n 2, 1) := by decide +kernel
theorem d_M_both_164 : decode b_M_both 164 = .ok (.iload_n 1, 1) := by decide +kernel
theorem d_M_both_165 : decode b_M_both 165 = .ok (.iload_n 2, 1) := by decide +kernel
theorem d_M_both_166 : decode b_M_both 166 = .ok (.if_icmp .ge 7, 3) := by decide +kernel
theorem d_M_both_169 : decode b_M_both 169 = .ok (.iload_n 1, 1) := by decide +kernel
theorem d_M_both_170 : decode b_M_both 170 = .ok (.goto 4, 3) := by decide +kernel
theorem d_M_both_173 : decode b_M_both 173 = .ok (.iload_n 2, 1) := by decide +kernel
theorem d_M_both_174 : decode b_M_both 174 = .ok (.ireturn, 1) := by decide +kernel
abbrev rm_M_both : Room := { frames := 4, cells := 0, slots := 0, locals := 138 }
theorem ce_M_both : gCe y_M_both (.code y_M_both b_M_both 6 (some .int)) 6 0 false := gCe.code wd_1003 wd_57 wd_1002 (by decide) (by decide +kernel)
def f_M_both (g0 : gG) (a0 : Nat) (w : gW) : gX Int32 := (gfA w a0 7 20).bind fun v1 => (gaI w v1 0).bind fun v3 => gjoin (fun K25 => if v3 = 3 then ((gfA w a0 7 20).bind fun v84 => (gaI w v84 1).bind fun v86 => if v86 = 3 then ((gck w a0 7).bind fun _ => gbind (f_M_tubes g0 a0 w) fun v93 w => some (.inr v93, w)) else (K25 w)) else (K25 w)) (fun (w : gW) => (gfA w a0 7 20).bind fun v5 => (gaI w v5 0).bind fun v7 => gjoin (fun K45 => if v7 = 3 then (K45 w) else ((gfA w a0 7 20).bind fun v46 => (gaI w v46 1).bind fun v48 => if v48 = 3 then (K45 w) else ((gfA w a0 7 25).bind fun v51 => (gaJ w v51 0).bind fun v53 => (gfA w a0 7 25).bind fun v55 => (gaJ w v55 1).bind fun v57 => gbind (f_M_greater g0 v53 v57 w) fun v61 w => (gfA w a0 7 26).bind fun v62 => (gaJ w v62 0).bind fun v64 => (gfA w a0 7 26).bind fun v66 => (gaJ w v66 1).bind fun v68 => gbind (f_M_lesser g0 v64 v68 w) fun v72 w => gbind (f_M_common g0 (v61 - v72) w) fun v75 w => (gck w a0 7).bind fun _ => gbind (f_M_bases g0 a0 w) fun v80 w => gjoin (fun K174 => if v80 ≤ v75 then (K174 v80 w) else (K174 v75 w)) (fun (y81 : Int32) (w : gW) => some (.inr y81, w))))) (fun (w : gW) => (gfA w a0 7 20).bind fun v9 => (gaI w v9 0).bind fun v11 => gjoin (fun K60 => if v11 = 3 then (K60 0 w) else (K60 1 w)) (fun (y13 : Int32) (w : gW) => (gck w a0 7).bind fun _ => gbind (f_M_heightGap g0 a0 w) fun v18 w => (gfA w a0 7 24).bind fun v19 => (gaJ w v19 y13).bind fun v21 => (gfA w a0 7 24).bind fun v23 => (gaJ w v23 y13).bind fun v25 => if 0 ≤ ((v21 * v25) - (v18 * v18)) then ((gfA w a0 7 20).bind fun v28 => (gaI w v28 (1 - y13)).bind fun v30 => gjoin (fun K123 => if v30 = 1 then ((gck w a0 7).bind fun _ => gbind (f_M_coreAndDisc g0 a0 y13 ((v21 * v25) - (v18 * v18)) w) fun v43 w => K123 v43 w) else ((gck w a0 7).bind fun _ => gbind (f_M_coreAndPolygon g0 a0 y13 ((v21 * v25) - (v18 * v18)) w) fun v38 w => K123 v38 w)) (fun (y32 : Int32) (w : gW) => some (.inr y32, w))) else (some (.inr 0, w)))))
set_option maxHeartbeats 4000000 in
set_option maxRecDepth 100000 in
theorem m_M_both (l : Launch) (hst : l.stackTraces = false) (D : gD) (g0 : gG) (a0 : Nat) (w : gW) (r : (String ⊕ Int32) × gW) (h : f_M_both g0 a0 w = some r) : gMet l y_M_both (.code y_M_both b_M_both 6 (some .int)) rm_M_both D g0 [.ref a0] w (goI r) := by
  refine gw_ofI (by decide +kernel) (Nat.le_of_ble_eq_true rfl) ?_
  intro p e s m below meth c ls args A Q hx hb hml hown hlocks hin hnt hT hK hZ hA hret hexc hthr hI hl
  obtain ⟨H, hH⟩ : ∃ H, H = s.heap := ⟨_, rfl⟩
  rw [← hH] at hI ⊢
  obtain ⟨locs, hlocs⟩ : ∃ z : List Loc, z = [] := ⟨_, rfl⟩
  rw [← hlocs] at hI ⊢
  have hl : lv_has ls 6 [(0, .ref a0)] := hl
  unfold f_M_both at h
  refine lv_aload_n hx hb d_M_both_0 rfl (lv_at hl 0 rfl) ?_
  obtain ⟨v1, e2, h⟩ := gb h
  refine gw_getA hx hb hT hown hK hI (ci := 7) rfl i_7 20 (by decide) wd_806 (fun _ h9 => h9) e2 d_M_both_1 ?_
  refine lv_iconst (v := 0) hx hb d_M_both_4 (by decide) ?_
  obtain ⟨v3, e4, h⟩ := gb h
  refine gw_aldI hx hb hK hI e4 d_M_both_5 ?_
  refine lv_iconst (v := 3) hx hb d_M_both_6 (by decide) ?_
  obtain ⟨K25, eK25, h⟩ := gj h
  have hK25 : ∀ (w : gW) (H : Heap) (locs : List Loc) (ls : Array Slot), K25 w = some r → gI D s A w H locs → lv_has ls 6 [(0, .ref a0)] → W p l e rm_M_both s m args below meth c H locs 0 0 Q (F0 m 25 ls []) := by
    intro w H locs ls h hI hl
    have h := gk1 eK25 h
    refine lv_aload_n hx hb d_M_both_25 rfl (lv_at hl 0 rfl) ?_
    obtain ⟨v5, e6, h⟩ := gb h
    refine gw_getA hx hb hT hown hK hI (ci := 7) rfl i_7 20 (by decide) wd_806 (fun _ h9 => h9) e6 d_M_both_26 ?_
    refine lv_iconst (v := 0) hx hb d_M_both_29 (by decide) ?_
    obtain ⟨v7, e8, h⟩ := gb h
    refine gw_aldI hx hb hK hI e8 d_M_both_30 ?_
    refine lv_iconst (v := 3) hx hb d_M_both_31 (by decide) ?_
    obtain ⟨K45, eK45, h⟩ := gj h
    have hK45 : ∀ (w : gW) (H : Heap) (locs : List Loc) (ls : Array Slot), K45 w = some r → gI D s A w H locs → lv_has ls 6 [(0, .ref a0)] → W p l e rm_M_both s m args below meth c H locs 0 0 Q (F0 m 45 ls []) := by
      intro w H locs ls h hI hl
      have h := gk1 eK45 h
      refine lv_aload_n hx hb d_M_both_45 rfl (lv_at hl 0 rfl) ?_
      obtain ⟨v9, e10, h⟩ := gb h
      refine gw_getA hx hb hT hown hK hI (ci := 7) rfl i_7 20 (by decide) wd_806 (fun _ h9 => h9) e10 d_M_both_46 ?_
      refine lv_iconst (v := 0) hx hb d_M_both_49 (by decide) ?_
      obtain ⟨v11, e12, h⟩ := gb h
      refine gw_aldI hx hb hK hI e12 d_M_both_50 ?_
      refine lv_iconst (v := 3) hx hb d_M_both_51 (by decide) ?_
      obtain ⟨K60, eK60, h⟩ := gj h
      have hK60 : ∀ (y13 : Int32) (w : gW) (H : Heap) (locs : List Loc) (ls : Array Slot), K60 y13 w = some r → gI D s A w H locs → lv_has ls 6 [(0, .ref a0)] → W p l e rm_M_both s m args below meth c H locs 0 0 Q (F0 m 60 ls [.int y13]) := by
        intro y13 w H locs ls h hI hl
        have h := gk2 eK60 h
        refine lv_istore_n (lv' := [(1, .int y13), (0, .ref a0)]) hx hb d_M_both_60 rfl hl (by decide) rfl (fun ls hl => ?_)
        refine lv_aload_n hx hb d_M_both_61 rfl (lv_at hl 1 rfl) ?_
        obtain ⟨q16, e17, h⟩ := gb h
        obtain ⟨u14, e15⟩ := gsome h
        refine gw_callJ e15 h (gw_runV (As := []) (rest := []) hx hb hml hown hT hK hZ hA hI (ci := 7) rfl e17 (m_M_heightGap l hst D g0 a0 w u14 e15) ce_M_heightGap wd_1014 wd_35 ⟨by decide, by decide⟩ rfl rfl hl.1 rfl (lv_room (Nat.le_of_ble_eq_true rfl)) d_M_both_62 ⟨(show 0 + 0 ≤ 0 by omega), (show 0 + 0 ≤ 0 by omega)⟩) hI hA hexc (show 0 + 0 ≤ 0 by omega) (show 0 + 0 ≤ 0 by omega) (fun v18 w H locs h hI => ?_)
        refine lv_lstore_n (lv' := [(2, .long v18), (1, .int y13), (0, .ref a0)]) hx hb d_M_both_65 rfl hl (by decide) rfl (fun ls hl => ?_)
        refine lv_aload_n hx hb d_M_both_66 rfl (lv_at hl 2 rfl) ?_
        obtain ⟨v19, e20, h⟩ := gb h
        refine gw_getA hx hb hT hown hK hI (ci := 7) rfl i_7 24 (by decide) wd_810 (fun _ h9 => h9) e20 d_M_both_67 ?_
        refine lv_iload_n hx hb d_M_both_70 rfl (lv_at hl 1 rfl) ?_
        obtain ⟨v21, e22, h⟩ := gb h
        refine gw_aldJ hx hb hK hI e22 d_M_both_71 ?_
        refine lv_aload_n hx hb d_M_both_72 rfl (lv_at hl 2 rfl) ?_
        obtain ⟨v23, e24, h⟩ := gb h
        refine gw_getA hx hb hT hown hK hI (ci := 7) rfl i_7 24 (by decide) wd_810 (fun _ h9 => h9) e24 d_M_both_73 ?_
        refine lv_iload_n hx hb d_M_both_76 rfl (lv_at hl 1 rfl) ?_
        obtain ⟨v25, e26, h⟩ := gb h
        refine gw_aldJ hx hb hK hI e26 d_M_both_77 ?_
        refine lv_lmul hx hb d_M_both_78 ?_
        refine lv_lload_n hx hb d_M_both_79 rfl (lv_at hl 0 rfl) ?_
        refine lv_lload_n hx hb d_M_both_80 rfl (lv_at hl 0 rfl) ?_
        refine lv_lmul hx hb d_M_both_81 ?_
        refine lv_lsub hx hb d_M_both_82 ?_
        refine lv_lstore (lv' := [(4, .long ((v21 * v25) - (v18 * v18))), (2, .long v18), (1, .int y13), (0, .ref a0)]) hx hb d_M_both_83 hl (by decide) rfl (fun ls hl => ?_)
        refine lv_lload hx hb d_M_both_85 (lv_at hl 0 rfl) ?_
        refine lv_lconst (v := 0) hx hb d_M_both_87 (by decide) ?_
        refine W.lcmp hx hb d_M_both_88 ?_
        refine lv_if_ge (tgt := 94) hx hb d_M_both_89 (by decide) (fun c27 => ?_) (fun c27 => ?_)
        · have c27 := (lg_cmp_ge _ _).mp c27
          have h := git c27 h
          refine lv_aload_n hx hb d_M_both_94 rfl (lv_at hl 3 rfl) ?_
          obtain ⟨v28, e29, h⟩ := gb h
          refine gw_getA hx hb hT hown hK hI (ci := 7) rfl i_7 20 (by decide) wd_806 (fun _ h9 => h9) e29 d_M_both_95 ?_
          refine lv_iconst (v := 1) hx hb d_M_both_98 (by decide) ?_
          refine lv_iload_n hx hb d_M_both_99 rfl (lv_at hl 2 rfl) ?_
          refine lv_isub hx hb d_M_both_100 ?_
          obtain ⟨v30, e31, h⟩ := gb h
          refine gw_aldI hx hb hK hI e31 d_M_both_101 ?_
          refine lv_iconst (v := 1) hx hb d_M_both_102 (by decide) ?_
          obtain ⟨K123, eK123, h⟩ := gj h
          have hK123 : ∀ (y32 : Int32) (w : gW) (H : Heap) (locs : List Loc) (ls : Array Slot), K123 y32 w = some r → gI D s A w H locs → lv_has ls 6 [] → W p l e rm_M_both s m args below meth c H locs 0 0 Q (F0 m 123 ls [.int y32]) := by
            intro y32 w H locs ls h hI hl
            have h := gk2 eK123 h
            exact W.widen (show 0 ≤ 0 by omega) (show 0 ≤ 0 by omega) (hret _ _ (Option.some.inj h).symm _ _ _ _ d_M_both_123 hI)
          refine lv_icmp_ne (tgt := 116) hx hb d_M_both_103 (by decide) (fun c33 => ?_) (fun c33 => ?_)
          · skip
            have h := gie c33 h
            refine lv_aload_n hx hb d_M_both_116 rfl (lv_at hl 3 rfl) ?_
            refine lv_iload_n hx hb d_M_both_117 rfl (lv_at hl 2 rfl) ?_
            refine lv_lload hx hb d_M_both_118 (lv_at hl 0 rfl) ?_
            obtain ⟨q36, e37, h⟩ := gb h
            obtain ⟨u34, e35⟩ := gsome h
            refine gw_callI e35 h (gw_runV (As := [.int y13, .long ((v21 * v25) - (v18 * v18))]) (rest := []) hx hb hml hown hT hK hZ hA hI (ci := 7) rfl e37 (m_M_coreAndPolygon l hst D g0 a0 y13 ((v21 * v25) - (v18 * v18)) w u34 e35) ce_M_coreAndPolygon wd_1036 wd_38 ⟨by decide, by decide⟩ rfl rfl hl.1 rfl (lv_room (Nat.le_of_ble_eq_true rfl)) d_M_both_120 ⟨(show 0 + 0 ≤ 0 by omega), (show 0 + 0 ≤ 0 by omega)⟩) hI hA hexc (show 0 + 0 ≤ 0 by omega) (show 0 + 0 ≤ 0 by omega) (fun v38 w H locs h hI => ?_)
            exact hK123 _ w H locs ls h hI (lv_sub hl [] rfl)
          · skip
            have h := git c33 h
            refine lv_aload_n hx hb d_M_both_106 rfl (lv_at hl 3 rfl) ?_
            refine lv_iload_n hx hb d_M_both_107 rfl (lv_at hl 2 rfl) ?_
            refine lv_lload hx hb d_M_both_108 (lv_at hl 0 rfl) ?_
            obtain ⟨q41, e42, h⟩ := gb h
            obtain ⟨u39, e40⟩ := gsome h
            refine gw_callI e40 h (gw_runV (As := [.int y13, .long ((v21 * v25) - (v18 * v18))]) (rest := []) hx hb hml hown hT hK hZ hA hI (ci := 7) rfl e42 (m_M_coreAndDisc l hst D g0 a0 y13 ((v21 * v25) - (v18 * v18)) w u39 e40) ce_M_coreAndDisc wd_1031 wd_37 ⟨by decide, by decide⟩ rfl rfl hl.1 rfl (lv_room (Nat.le_of_ble_eq_true rfl)) d_M_both_110 ⟨(show 0 + 0 ≤ 0 by omega), (show 0 + 0 ≤ 0 by omega)⟩) hI hA hexc (show 0 + 0 ≤ 0 by omega) (show 0 + 0 ≤ 0 by omega) (fun v43 w H locs h hI => ?_)
            refine lv_goto (tgt := 123) hx hb d_M_both_113 (by decide) ?_
            exact hK123 _ w H locs ls h hI (lv_sub hl [] rfl)
        · have c27 := mt (lg_cmp_ge _ _).mpr c27
          have h := gie c27 h
          refine lv_iconst (v := 0) hx hb d_M_both_92 (by decide) ?_
          exact W.widen (show 0 ≤ 0 by omega) (show 0 ≤ 0 by omega) (hret _ _ (Option.some.inj h).symm _ _ _ _ d_M_both_93 hI)
      refine lv_icmp_ne (tgt := 59) hx hb d_M_both_52 (by decide) (fun c44 => ?_) (fun c44 => ?_)
      · skip
        have h := gie c44 h
        refine lv_iconst (v := 1) hx hb d_M_both_59 (by decide) ?_
        exact hK60 _ w H locs ls h hI (lv_sub hl [0] rfl)
      · skip
        have h := git c44 h
        refine lv_iconst (v := 0) hx hb d_M_both_55 (by decide) ?_
        refine lv_goto (tgt := 60) hx hb d_M_both_56 (by decide) ?_
        exact hK60 _ w H locs ls h hI (lv_sub hl [0] rfl)
    refine lv_icmp_eq (tgt := 45) hx hb d_M_both_32 (by decide) (fun c45 => ?_) (fun c45 => ?_)
    · skip
      have h := git c45 h
      exact hK45 w H locs ls h hI (lv_sub hl [0] rfl)
    · skip
      have h := gie c45 h
      refine lv_aload_n hx hb d_M_both_35 rfl (lv_at hl 0 rfl) ?_
      obtain ⟨v46, e47, h⟩ := gb h
      refine gw_getA hx hb hT hown hK hI (ci := 7) rfl i_7 20 (by decide) wd_806 (fun _ h9 => h9) e47 d_M_both_36 ?_
      refine lv_iconst (v := 1) hx hb d_M_both_39 (by decide) ?_
      obtain ⟨v48, e49, h⟩ := gb h
      refine gw_aldI hx hb hK hI e49 d_M_both_40 ?_
      refine lv_iconst (v := 3) hx hb d_M_both_41 (by decide) ?_
      refine lv_icmp_ne (tgt := 124) hx hb d_M_both_42 (by decide) (fun c50 => ?_) (fun c50 => ?_)
      · skip
        have h := gie c50 h
        refine lv_aload_n hx hb d_M_both_124 rfl (lv_at hl 0 rfl) ?_
        obtain ⟨v51, e52, h⟩ := gb h
        refine gw_getA hx hb hT hown hK hI (ci := 7) rfl i_7 25 (by decide) wd_811 (fun _ h9 => h9) e52 d_M_both_125 ?_
        refine lv_iconst (v := 0) hx hb d_M_both_128 (by decide) ?_
        obtain ⟨v53, e54, h⟩ := gb h
        refine gw_aldJ hx hb hK hI e54 d_M_both_129 ?_
        refine lv_aload_n hx hb d_M_both_130 rfl (lv_at hl 0 rfl) ?_
        obtain ⟨v55, e56, h⟩ := gb h
        refine gw_getA hx hb hT hown hK hI (ci := 7) rfl i_7 25 (by decide) wd_811 (fun _ h9 => h9) e56 d_M_both_131 ?_
        refine lv_iconst (v := 1) hx hb d_M_both_134 (by decide) ?_
        obtain ⟨v57, e58, h⟩ := gb h
        refine gw_aldJ hx hb hK hI e58 d_M_both_135 ?_
        obtain ⟨u59, e60⟩ := gsome h
        refine gw_callJ e60 h (gw_runS (As := [.long v53, .long v57]) (rest := []) hx hb hml hown hT hK hZ hA hI (m_M_greater l hst D g0 v53 v57 w u59 e60) ce_M_greater wd_1011 ⟨by decide, by decide⟩ rfl rfl hl.1 rfl (lv_room (Nat.le_of_ble_eq_true rfl)) d_M_both_136 ⟨(show 0 + 0 ≤ 0 by omega), (show 0 + 0 ≤ 0 by omega)⟩) hI hA hexc (show 0 + 0 ≤ 0 by omega) (show 0 + 0 ≤ 0 by omega) (fun v61 w H locs h hI => ?_)
        refine lv_aload_n hx hb d_M_both_139 rfl (lv_at hl 0 rfl) ?_
        obtain ⟨v62, e63, h⟩ := gb h
        refine gw_getA hx hb hT hown hK hI (ci := 7) rfl i_7 26 (by decide) wd_812 (fun _ h9 => h9) e63 d_M_both_140 ?_
        refine lv_iconst (v := 0) hx hb d_M_both_143 (by decide) ?_
        obtain ⟨v64, e65, h⟩ := gb h
        refine gw_aldJ hx hb hK hI e65 d_M_both_144 ?_
        refine lv_aload_n hx hb d_M_both_145 rfl (lv_at hl 0 rfl) ?_
        obtain ⟨v66, e67, h⟩ := gb h
        refine gw_getA hx hb hT hown hK hI (ci := 7) rfl i_7 26 (by decide) wd_812 (fun _ h9 => h9) e67 d_M_both_146 ?_
        refine lv_iconst (v := 1) hx hb d_M_both_149 (by decide) ?_
        obtain ⟨v68, e69, h⟩ := gb h
        refine gw_aldJ hx hb hK hI e69 d_M_both_150 ?_
        obtain ⟨u70, e71⟩ := gsome h
        refine gw_callJ e71 h (gw_runS (As := [.long v64, .long v68]) (rest := [.long v61]) hx hb hml hown hT hK hZ hA hI (m_M_lesser l hst D g0 v64 v68 w u70 e71) ce_M_lesser wd_1008 ⟨by decide, by decide⟩ rfl rfl hl.1 rfl (lv_room (Nat.le_of_ble_eq_true rfl)) d_M_both_151 ⟨(show 0 + 0 ≤ 0 by omega), (show 0 + 0 ≤ 0 by omega)⟩) hI hA hexc (show 0 + 0 ≤ 0 by omega) (show 0 + 0 ≤ 0 by omega) (fun v72 w H locs h hI => ?_)
        refine lv_lsub hx hb d_M_both_154 ?_
        obtain ⟨u73, e74⟩ := gsome h
        refine gw_callI e74 h (gw_runS (As := [.long (v61 - v72)]) (rest := []) hx hb hml hown hT hK hZ hA hI (m_M_common l hst D g0 (v61 - v72) w u73 e74) ce_M_common wd_1028 ⟨by decide, by decide⟩ rfl rfl hl.1 rfl (lv_room (Nat.le_of_ble_eq_true rfl)) d_M_both_155 ⟨(show 0 + 0 ≤ 0 by omega), (show 0 + 0 ≤ 0 by omega)⟩) hI hA hexc (show 0 + 0 ≤ 0 by omega) (show 0 + 0 ≤ 0 by omega) (fun v75 w H locs h hI => ?_)
        refine lv_istore_n (lv' := [(1, .int v75), (0, .ref a0)]) hx hb d_M_both_158 rfl hl (by decide) rfl (fun ls hl => ?_)
        refine lv_aload_n hx hb d_M_both_159 rfl (lv_at hl 1 rfl) ?_
        obtain ⟨q78, e79, h⟩ := gb h
        obtain ⟨u76, e77⟩ := gsome h
        refine gw_callI e77 h (gw_runV (As := []) (rest := []) hx hb hml hown hT hK hZ hA hI (ci := 7) rfl e79 (m_M_bases l hst D g0 a0 w u76 e77) ce_M_bases wd_1055 wd_41 ⟨by decide, by decide⟩ rfl rfl hl.1 rfl (lv_room (Nat.le_of_ble_eq_true rfl)) d_M_both_160 ⟨(show 0 + 0 ≤ 0 by omega), (show 0 + 0 ≤ 0 by omega)⟩) hI hA hexc (show 0 + 0 ≤ 0 by omega) (show 0 + 0 ≤ 0 by omega) (fun v80 w H locs h hI => ?_)
        refine lv_istore_n (lv' := [(2, .int v80), (1, .int v75), (0, .ref a0)]) hx hb d_M_both_163 rfl hl (by decide) rfl (fun ls hl => ?_)
        refine lv_iload_n hx hb d_M_both_164 rfl (lv_at hl 1 rfl) ?_
        refine lv_iload_n hx hb d_M_both_165 rfl (lv_at hl 0 rfl) ?_
        obtain ⟨K174, eK174, h⟩ := gj h
        have hK174 : ∀ (y81 : Int32) (w : gW) (H : Heap) (locs : List Loc) (ls : Array Slot), K174 y81 w = some r → gI D s A w H locs → lv_has ls 6 [] → W p l e rm_M_both s m args below meth c H locs 0 0 Q (F0 m 174 ls [.int y81]) := by
          intro y81 w H locs ls h hI hl
          have h := gk2 eK174 h
          exact W.widen (show 0 ≤ 0 by omega) (show 0 ≤ 0 by omega) (hret _ _ (Option.some.inj h).symm _ _ _ _ d_M_both_174 hI)
        refine lv_icmp_ge (tgt := 173) hx hb d_M_both_166 (by decide) (fun c82 => ?_) (fun c82 => ?_)
        · skip
          have h := git c82 h
          refine lv_iload_n hx hb d_M_both_173 rfl (lv_at hl 0 rfl) ?_
          exact hK174 _ w H locs ls h hI (lv_sub hl [] rfl)
        · skip
          have h := gie c82 h
          refine lv_iload_n hx hb d_M_both_169 rfl (lv_at hl 1 rfl) ?_
          refine lv_goto (tgt := 174) hx hb d_M_both_170 (by decide) ?_
          exact hK174 _ w H locs ls h hI (lv_sub hl [] rfl)
      · skip
        have h := git c50 h
        exact hK45 w H locs ls h hI (lv_sub hl [0] rfl)
  refine lv_icmp_ne (tgt := 25) hx hb d_M_both_7 (by decide) (fun c83 => ?_) (fun c83 => ?_)
  · skip
    have h := gie c83 h
    exact hK25 w H locs ls h hI (lv_sub hl [0] rfl)
  · skip
    have h := git c83 h
    refine lv_aload_n hx hb d_M_both_10 rfl (lv_at hl 0 rfl) ?_
    obtain ⟨v84, e85, h⟩ := gb h
    refine gw_getA hx hb hT hown hK hI (ci := 7) rfl i_7 20 (by decide) wd_806 (fun _ h9 => h9) e85 d_M_both_11 ?_
    refine lv_iconst (v := 1) hx hb d_M_both_14 (by decide) ?_
    obtain ⟨v86, e87, h⟩ := gb h
    refine gw_aldI hx hb hK hI e87 d_M_both_15 ?_
    refine lv_iconst (v := 3) hx hb d_M_both_16 (by decide) ?_
    refine lv_icmp_ne (tgt := 25) hx hb d_M_both_17 (by decide) (fun c88 => ?_) (fun c88 => ?_)
    · skip
      have h := gie c88 h
      exact hK25 w H locs ls h hI (lv_sub hl [0] rfl)
    · skip
      have h := git c88 h
      refine lv_aload_n hx hb d_M_both_20 rfl (lv_at hl 0 rfl) ?_
      obtain ⟨q91, e92, h⟩ := gb h
      obtain ⟨u89, e90⟩ := gsome h
      refine gw_callI e90 h (gw_runV (As := []) (rest := []) hx hb hml hown hT hK hZ hA hI (ci := 7) rfl e92 (m_M_tubes l hst D g0 a0 w u89 e90) ce_M_tubes wd_1004 wd_34 ⟨by decide, by decide⟩ rfl rfl hl.1 rfl (lv_room (Nat.le_of_ble_eq_true rfl)) d_M_both_21 ⟨(show 0 + 0 ≤ 0 by omega), (show 0 + 0 ≤ 0 by omega)⟩) hI hA hexc (show 0 + 0 ≤ 0 by omega) (show 0 + 0 ≤ 0 by omega) (fun v93 w H locs h hI => ?_)
      exact W.widen (show 0 ≤ 0 by omega) (show 0 ≤ 0 by omega) (hret _ _ (Option.some.inj h).symm _ _ _ _ d_M_both_24 hI)

abbrev b_M_isPlaced : ByteArray := prog_9_method_6_code
def y_M_isPlaced : MethodName := ⟨"BodySolidsModel", "isPlaced", "(I)Z"⟩
theorem d_M_isPlaced_0 : decode b_M_isPlaced 0 = .ok (.iload_n 1, 1) := by decide +kernel
theorem d_M_isPlaced_1 : decode b_M_isPlaced 1 = .ok (.ifCond .lt 15, 3) := by decide +kernel
theorem d_M_isPlaced_4 : decode b_M_isPlaced 4 = .ok (.iload_n 1, 1) := by decide +kernel
theorem d_M_isPlaced_5 : decode b_M_isPlaced 5 = .ok (.aload_n 0, 1) := by decide +kernel
theorem d_M_isPlaced_6 : decode b_M_isPlaced 6 = .ok (.getfield 95, 3) := by decide +kernel
theorem d_M_isPlaced_9 : decode b_M_isPlaced 9 = .ok (.if_icmp .ge 7, 3) := by decide +kernel
theorem d_M_isPlaced_12 : decode b_M_isPlaced 12 = .ok (.iconst 1, 1) := by decide +kernel
theorem d_M_isPlaced_13 : decode b_M_isPlaced 13 = .ok (.goto 4, 3) := by decide +kernel
theorem d_M_isPlaced_16 : decode b_M_isPlaced 16 = .ok (.iconst 0, 1) := by decide +kernel
theorem d_M_isPlaced_17 : decode b_M_isPlaced 17 = .ok (.ireturn, 1) := by decide +kernel
abbrev rm_M_isPlaced : Room := { frames := 0, cells := 0, slots := 0, locals := 0 }
theorem ce_M_isPlaced : gCe y_M_isPlaced (.code y_M_isPlaced b_M_isPlaced 2 (some .boolean)) 2 1 false := gCe.code wd_958 wd_57 wd_957 (by decide) (by decide +kernel)
def f_M_isPlaced (g0 : gG) (a0 : Nat) (p1 : Int32) (w : gW) : gX Int32 := gjoin (fun K17 => gjoin (fun K16 => if p1 < 0 then (K16 w) else ((gfI w a0 7 12).bind fun v4 => if v4 ≤ p1 then (K16 w) else (K17 1 w))) (fun (w : gW) => K17 0 w)) (fun (y1 : Int32) (w : gW) => gguard (y1 = 0 ∨ y1 = 1) (some (.inr y1, w)))
set_option maxHeartbeats 4000000 in
set_option maxRecDepth 100000 in
theorem m_M_isPlaced (l : Launch) (hst : l.stackTraces = false) (D : gD) (g0 : gG) (a0 : Nat) (p1 : Int32) (w : gW) (r : (String ⊕ Int32) × gW) (h : f_M_isPlaced g0 a0 p1 w = some r) : gMet l y_M_isPlaced (.code y_M_isPlaced b_M_isPlaced 2 (some .boolean)) rm_M_isPlaced D g0 [.ref a0, .int p1] w (goI r) := by
  refine gw_ofZ (by decide +kernel) (Nat.le_of_ble_eq_true rfl) ?_
  intro p e s m below meth c ls args A Q hx hb hml hown hlocks hin hnt hT hK hZ hA hret hexc hthr hI hl
  obtain ⟨H, hH⟩ : ∃ H, H = s.heap := ⟨_, rfl⟩
  rw [← hH] at hI ⊢
  obtain ⟨locs, hlocs⟩ : ∃ z : List Loc, z = [] := ⟨_, rfl⟩
  rw [← hlocs] at hI ⊢
  have hl : lv_has ls 2 [(0, .ref a0), (1, .int p1)] := hl
  unfold f_M_isPlaced at h
  refine lv_iload_n hx hb d_M_isPlaced_0 rfl (lv_at hl 1 rfl) ?_
  obtain ⟨K17, eK17, h⟩ := gj h
  have hK17 : ∀ (y1 : Int32) (w : gW) (H : Heap) (locs : List Loc) (ls : Array Slot), K17 y1 w = some r → gI D s A w H locs → lv_has ls 2 [] → W p l e rm_M_isPlaced s m args below meth c H locs 0 0 Q (F0 m 17 ls [.int y1]) := by
    intro y1 w H locs ls h hI hl
    have h := gk2 eK17 h
    obtain ⟨g2, h⟩ := gif h
    exact W.widen (show 0 ≤ 0 by omega) (show 0 ≤ 0 by omega) (hret g2 0 _ (Option.some.inj h).symm _ _ _ _ d_M_isPlaced_17 hI)
  obtain ⟨K16, eK16, h⟩ := gj h
  have hK16 : ∀ (w : gW) (H : Heap) (locs : List Loc) (ls : Array Slot), K16 w = some r → gI D s A w H locs → lv_has ls 2 [] → W p l e rm_M_isPlaced s m args below meth c H locs 0 0 Q (F0 m 16 ls []) := by
    intro w H locs ls h hI hl
    have h := gk1 eK16 h
    refine lv_iconst (v := 0) hx hb d_M_isPlaced_16 (by decide) ?_
    exact hK17 _ w H locs ls h hI (lv_sub hl [] rfl)
  refine lv_if_lt (tgt := 16) hx hb d_M_isPlaced_1 (by decide) (fun c3 => ?_) (fun c3 => ?_)
  · skip
    have h := git c3 h
    exact hK16 w H locs ls h hI (lv_sub hl [] rfl)
  · skip
    have h := gie c3 h
    refine lv_iload_n hx hb d_M_isPlaced_4 rfl (lv_at hl 1 rfl) ?_
    refine lv_aload_n hx hb d_M_isPlaced_5 rfl (lv_at hl 0 rfl) ?_
    obtain ⟨v4, e5, h⟩ := gb h
    refine gw_getI hx hb hT hown hK hI (ci := 7) rfl i_7 12 (by decide) wd_798 (fun _ h9 => h9) e5 d_M_isPlaced_6 ?_
    refine lv_icmp_ge (tgt := 16) hx hb d_M_isPlaced_9 (by decide) (fun c6 => ?_) (fun c6 => ?_)
    · skip
      have h := git c6 h
      exact hK16 w H locs ls h hI (lv_sub hl [] rfl)
    · skip
      have h := gie c6 h
      refine lv_iconst (v := 1) hx hb d_M_isPlaced_12 (by decide) ?_
      refine lv_goto (tgt := 17) hx hb d_M_isPlaced_13 (by decide) ?_
      exact hK17 _ w H locs ls h hI (lv_sub hl [] rfl)
