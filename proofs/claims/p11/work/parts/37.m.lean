abbrev b_M_tubes : ByteArray := prog_9_method_49_code
def y_M_tubes : MethodName := ⟨"BodySolidsModel", "tubes", "()I"⟩
theorem d_M_tubes_0 : decode b_M_tubes 0 = .ok (.aload_n 0, 1) := by decide +kernel
theorem d_M_tubes_1 : decode b_M_tubes 1 = .ok (.getfield 59, 3) := by decide +kernel
theorem d_M_tubes_4 : decode b_M_tubes 4 = .ok (.bipush 8, 2) := by decide +kernel
theorem d_M_tubes_6 : decode b_M_tubes 6 = .ok (.laload, 1) := by decide +kernel
theorem d_M_tubes_7 : decode b_M_tubes 7 = .ok (.aload_n 0, 1) := by decide +kernel
theorem d_M_tubes_8 : decode b_M_tubes 8 = .ok (.getfield 59, 3) := by decide +kernel
theorem d_M_tubes_11 : decode b_M_tubes 11 = .ok (.bipush 9, 2) := by decide +kernel
theorem d_M_tubes_13 : decode b_M_tubes 13 = .ok (.laload, 1) := by decide +kernel
theorem d_M_tubes_14 : decode b_M_tubes 14 = .ok (.invokestatic 219, 3) := by decide +kernel
theorem d_M_tubes_17 : decode b_M_tubes 17 = .ok (.lstore_n 1, 1) := by decide +kernel
theorem d_M_tubes_18 : decode b_M_tubes 18 = .ok (.aload_n 0, 1) := by decide +kernel
theorem d_M_tubes_19 : decode b_M_tubes 19 = .ok (.getfield 59, 3) := by decide +kernel
theorem d_M_tubes_22 : decode b_M_tubes 22 = .ok (.bipush 8, 2) := by decide +kernel
theorem d_M_tubes_24 : decode b_M_tubes 24 = .ok (.laload, 1) := by decide +kernel
theorem d_M_tubes_25 : decode b_M_tubes 25 = .ok (.aload_n 0, 1) := by decide +kernel
theorem d_M_tubes_26 : decode b_M_tubes 26 = .ok (.getfield 59, 3) := by decide +kernel
theorem d_M_tubes_29 : decode b_M_tubes 29 = .ok (.bipush 9, 2) := by decide +kernel
theorem d_M_tubes_31 : decode b_M_tubes 31 = .ok (.laload, 1) := by decide +kernel
theorem d_M_tubes_32 : decode b_M_tubes 32 = .ok (.invokestatic 222, 3) := by decide +kernel
theorem d_M_tubes_35 : decode b_M_tubes 35 = .ok (.lstore_n 3, 1) := by decide +kernel
theorem d_M_tubes_36 : decode b_M_tubes 36 = .ok (.aload_n 0, 1) := by decide +kernel
theorem d_M_tubes_37 : decode b_M_tubes 37 = .ok (.getfield 62, 3) := by decide +kernel
theorem d_M_tubes_40 : decode b_M_tubes 40 = .ok (.bipush 8, 2) := by decide +kernel
theorem d_M_tubes_42 : decode b_M_tubes 42 = .ok (.laload, 1) := by decide +kernel
theorem d_M_tubes_43 : decode b_M_tubes 43 = .ok (.aload_n 0, 1) := by decide +kernel
theorem d_M_tubes_44 : decode b_M_tubes 44 = .ok (.getfield 62, 3) := by decide +kernel
theorem d_M_tubes_47 : decode b_M_tubes 47 = .ok (.bipush 9, 2) := by decide +kernel
theorem d_M_tubes_49 : decode b_M_tubes 49 = .ok (.laload, 1) := by decide +kernel
theorem d_M_tubes_50 : decode b_M_tubes 50 = .ok (.invokestatic 219, 3) := by decide +kernel
theorem d_M_tubes_53 : decode b_M_tubes 53 = .ok (.lstore 5, 2) := by decide +kernel
theorem d_M_tubes_55 : decode b_M_tubes 55 = .ok (.aload_n 0, 1) := by decide +kernel
theorem d_M_tubes_56 : decode b_M_tubes 56 = .ok (.getfield 62, 3) := by decide +kernel
theorem d_M_tubes_59 : decode b_M_tubes 59 = .ok (.bipush 8, 2) := by decide +kernel
theorem d_M_tubes_61 : decode b_M_tubes 61 = .ok (.laload, 1) := by decide +kernel
theorem d_M_tubes_62 : decode b_M_tubes 62 = .ok (.aload_n 0, 1) := by decide +kernel
theorem d_M_tubes_63 : decode b_M_tubes 63 = .ok (.getfield 62, 3) := by decide +kernel
theorem d_M_tubes_66 : decode b_M_tubes 66 = .ok (.bipush 9, 2) := by decide +kernel
theorem d_M_tubes_68 : decode b_M_tubes 68 = .ok (.laload, 1) := by decide +kernel
theorem d_M_tubes_69 : decode b_M_tubes 69 = .ok (.invokestatic 222, 3) := by decide +kernel
theorem d_M_tubes_72 : decode b_M_tubes 72 = .ok (.lstore 7, 2) := by decide +kernel
theorem d_M_tubes_74 : decode b_M_tubes 74 = .ok (.aload_n 0, 1) := by decide +kernel
theorem d_M_tubes_75 : decode b_M_tubes 75 = .ok (.invokevirtual 231, 3) := by decide +kernel
theorem d_M_tubes_78 : decode b_M_tubes 78 = .ok (.lstore 9, 2) := by decide +kernel
theorem d_M_tubes_80 : decode b_M_tubes 80 = .ok (.aload_n 0, 1) := by decide +kernel
theorem d_M_tubes_81 : decode b_M_tubes 81 = .ok (.getfield 65, 3) := by decide +kernel
theorem d_M_tubes_84 : decode b_M_tubes 84 = .ok (.iconst 0, 1) := by decide +kernel
theorem d_M_tubes_85 : decode b_M_tubes 85 = .ok (.laload, 1) := by decide +kernel
theorem d_M_tubes_86 : decode b_M_tubes 86 = .ok (.aload_n 0, 1) := by decide +kernel
theorem d_M_tubes_87 : decode b_M_tubes 87 = .ok (.getfield 65, 3) := by decide +kernel
theorem d_M_tubes_90 : decode b_M_tubes 90 = .ok (.iconst 1, 1) := by decide +kernel
theorem d_M_tubes_91 : decode b_M_tubes 91 = .ok (.laload, 1) := by decide +kernel
theorem d_M_tubes_92 : decode b_M_tubes 92 = .ok (.ladd, 1) := by decide +kernel
theorem d_M_tubes_93 : decode b_M_tubes 93 = .ok (.lstore 11, 2) := by decide +kernel
theorem d_M_tubes_95 : decode b_M_tubes 95 = .ok (.aload_n 0, 1) := by decide +kernel
theorem d_M_tubes_96 : decode b_M_tubes 96 = .ok (.iconst 0, 1) := by decide +kernel
theorem d_M_tubes_97 : decode b_M_tubes 97 = .ok (.iconst 1, 1) := by decide +kernel
theorem d_M_tubes_98 : decode b_M_tubes 98 = .ok (.lload_n 1, 1) := by decide +kernel
theorem d_M_tubes_99 : decode b_M_tubes 99 = .ok (.lload_n 3, 1) := by decide +kernel
theorem d_M_tubes_100 : decode b_M_tubes 100 = .ok (.invokevirtual 225, 3) := by decide +kernel
theorem d_M_tubes_103 : decode b_M_tubes 103 = .ok (.aload_n 0, 1) := by decide +kernel
theorem d_M_tubes_104 : decode b_M_tubes 104 = .ok (.iconst 0, 1) := by decide +kernel
theorem d_M_tubes_105 : decode b_M_tubes 105 = .ok (.iconst 0, 1) := by decide +kernel
theorem d_M_tubes_106 : decode b_M_tubes 106 = .ok (.lload 5, 2) := by decide +kernel
theorem d_M_tubes_108 : decode b_M_tubes 108 = .ok (.lload 7, 2) := by decide +kernel
theorem d_M_tubes_110 : decode b_M_tubes 110 = .ok (.invokevirtual 225, 3) := by decide +kernel
theorem d_M_tubes_113 : decode b_M_tubes 113 = .ok (.invokestatic 194, 3) := by decide +kernel
theorem d_M_tubes_116 : decode b_M_tubes 116 = .ok (.lload 9, 2) := by decide +kernel
theorem d_M_tubes_118 : decode b_M_tubes 118 = .ok (.lload 9, 2) := by decide +kernel
theorem d_M_tubes_120 : decode b_M_tubes 120 = .ok (.lmul, 1) := by decide +kernel
theorem d_M_tubes_121 : decode b_M_tubes 121 = .ok (.ladd, 1) := by decide +kernel
theorem d_M_tubes_122 : decode b_M_tubes 122 = .ok (.lload 11, 2) := by decide +kernel
theorem d_M_tubes_124 : decode b_M_tubes 124 = .ok (.lload 11, 2) := by decide +kernel
theorem d_M_tubes_126 : decode b_M_tubes 126 = .ok (.lmul, 1) := by decide +kernel
theorem d_M_tubes_127 : decode b_M_tubes 127 = .ok (.lsub, 1) := by decide +kernel
theorem d_M_tubes_128 : decode b_M_tubes 128 = .ok (.invokestatic 186, 3) := by decide +kernel
theorem d_M_tubes_131 : decode b_M_tubes 131 = .ok (.ireturn, 1) := by decide +kernel
abbrev rm_M_tubes : Room := { frames := 2, cells := 0, slots := 0, locals := 57 }
theorem ce_M_tubes : gCe y_M_tubes (.code y_M_tubes b_M_tubes 13 (some .int)) 13 0 false := gCe.code wd_1007 wd_57 wd_1006 (by decide) (by decide +kernel)
def f_M_tubes (g0 : gG) (a0 : Nat) (w : gW) : gX Int32 := (gfA w a0 7 22).bind fun v1 => (gaJ w v1 8).bind fun v3 => (gfA w a0 7 22).bind fun v5 => (gaJ w v5 9).bind fun v7 => gbind (f_M_lesser g0 v3 v7 w) fun v11 w => (gfA w a0 7 22).bind fun v12 => (gaJ w v12 8).bind fun v14 => (gfA w a0 7 22).bind fun v16 => (gaJ w v16 9).bind fun v18 => gbind (f_M_greater g0 v14 v18 w) fun v22 w => (gfA w a0 7 23).bind fun v23 => (gaJ w v23 8).bind fun v25 => (gfA w a0 7 23).bind fun v27 => (gaJ w v27 9).bind fun v29 => gbind (f_M_lesser g0 v25 v29 w) fun v33 w => (gfA w a0 7 23).bind fun v34 => (gaJ w v34 8).bind fun v36 => (gfA w a0 7 23).bind fun v38 => (gaJ w v38 9).bind fun v40 => gbind (f_M_greater g0 v36 v40 w) fun v44 w => (gck w a0 7).bind fun _ => gbind (f_M_heightGap g0 a0 w) fun v49 w => (gfA w a0 7 24).bind fun v50 => (gaJ w v50 0).bind fun v52 => (gfA w a0 7 24).bind fun v54 => (gaJ w v54 1).bind fun v56 => (gck w a0 7).bind fun _ => gbind (f_M_coreGap g0 a0 0 1 v11 v22 w) fun v62 w => (gck w a0 7).bind fun _ => gbind (f_M_coreGap g0 a0 0 0 v33 v44 w) fun v67 w => gbind (f_M_square g0 v62 v67 w) fun v70 w => gbind (f_M_common g0 ((v70 + (v49 * v49)) - ((v52 + v56) * (v52 + v56))) w) fun v73 w => some (.inr v73, w)
set_option maxHeartbeats 4000000 in
set_option maxRecDepth 100000 in
theorem m_M_tubes (l : Launch) (hst : l.stackTraces = false) (D : gD) (g0 : gG) (a0 : Nat) (w : gW) (r : (String ⊕ Int32) × gW) (h : f_M_tubes g0 a0 w = some r) : gMet l y_M_tubes (.code y_M_tubes b_M_tubes 13 (some .int)) rm_M_tubes D g0 [.ref a0] w (goI r) := by
  refine gw_ofI (by decide +kernel) (Nat.le_of_ble_eq_true rfl) ?_
  intro p e s m below meth c ls args A Q hx hb hml hown hlocks hin hnt hT hK hZ hA hret hexc hthr hI hl
  obtain ⟨H, hH⟩ : ∃ H, H = s.heap := ⟨_, rfl⟩
  rw [← hH] at hI ⊢
  obtain ⟨locs, hlocs⟩ : ∃ z : List Loc, z = [] := ⟨_, rfl⟩
  rw [← hlocs] at hI ⊢
  have hl : lv_has ls 13 [(0, .ref a0)] := hl
  unfold f_M_tubes at h
  refine lv_aload_n hx hb d_M_tubes_0 rfl (lv_at hl 0 rfl) ?_
  obtain ⟨v1, e2, h⟩ := gb h
  refine gw_getA hx hb hT hown hK hI (ci := 7) rfl i_7 22 (by decide) wd_808 (fun _ h9 => h9) e2 d_M_tubes_1 ?_
  refine lv_bipush (v := 8) hx hb d_M_tubes_4 (by decide) ?_
  obtain ⟨v3, e4, h⟩ := gb h
  refine gw_aldJ hx hb hK hI e4 d_M_tubes_6 ?_
  refine lv_aload_n hx hb d_M_tubes_7 rfl (lv_at hl 0 rfl) ?_
  obtain ⟨v5, e6, h⟩ := gb h
  refine gw_getA hx hb hT hown hK hI (ci := 7) rfl i_7 22 (by decide) wd_808 (fun _ h9 => h9) e6 d_M_tubes_8 ?_
  refine lv_bipush (v := 9) hx hb d_M_tubes_11 (by decide) ?_
  obtain ⟨v7, e8, h⟩ := gb h
  refine gw_aldJ hx hb hK hI e8 d_M_tubes_13 ?_
  obtain ⟨u9, e10⟩ := gsome h
  refine gw_callJ e10 h (gw_runS (As := [.long v3, .long v7]) (rest := []) hx hb hml hown hT hK hZ hA hI (m_M_lesser l hst D g0 v3 v7 w u9 e10) ce_M_lesser wd_1008 ⟨by decide, by decide⟩ rfl rfl hl.1 rfl (lv_room (Nat.le_of_ble_eq_true rfl)) d_M_tubes_14 ⟨(show 0 + 0 ≤ 0 by omega), (show 0 + 0 ≤ 0 by omega)⟩) hI hA hexc (show 0 + 0 ≤ 0 by omega) (show 0 + 0 ≤ 0 by omega) (fun v11 w H locs h hI => ?_)
  refine lv_lstore_n (lv' := [(1, .long v11), (0, .ref a0)]) hx hb d_M_tubes_17 rfl hl (by decide) rfl (fun ls hl => ?_)
  refine lv_aload_n hx hb d_M_tubes_18 rfl (lv_at hl 1 rfl) ?_
  obtain ⟨v12, e13, h⟩ := gb h
  refine gw_getA hx hb hT hown hK hI (ci := 7) rfl i_7 22 (by decide) wd_808 (fun _ h9 => h9) e13 d_M_tubes_19 ?_
  refine lv_bipush (v := 8) hx hb d_M_tubes_22 (by decide) ?_
  obtain ⟨v14, e15, h⟩ := gb h
  refine gw_aldJ hx hb hK hI e15 d_M_tubes_24 ?_
  refine lv_aload_n hx hb d_M_tubes_25 rfl (lv_at hl 1 rfl) ?_
  obtain ⟨v16, e17, h⟩ := gb h
  refine gw_getA hx hb hT hown hK hI (ci := 7) rfl i_7 22 (by decide) wd_808 (fun _ h9 => h9) e17 d_M_tubes_26 ?_
  refine lv_bipush (v := 9) hx hb d_M_tubes_29 (by decide) ?_
  obtain ⟨v18, e19, h⟩ := gb h
  refine gw_aldJ hx hb hK hI e19 d_M_tubes_31 ?_
  obtain ⟨u20, e21⟩ := gsome h
  refine gw_callJ e21 h (gw_runS (As := [.long v14, .long v18]) (rest := []) hx hb hml hown hT hK hZ hA hI (m_M_greater l hst D g0 v14 v18 w u20 e21) ce_M_greater wd_1011 ⟨by decide, by decide⟩ rfl rfl hl.1 rfl (lv_room (Nat.le_of_ble_eq_true rfl)) d_M_tubes_32 ⟨(show 0 + 0 ≤ 0 by omega), (show 0 + 0 ≤ 0 by omega)⟩) hI hA hexc (show 0 + 0 ≤ 0 by omega) (show 0 + 0 ≤ 0 by omega) (fun v22 w H locs h hI => ?_)
  refine lv_lstore_n (lv' := [(3, .long v22), (1, .long v11), (0, .ref a0)]) hx hb d_M_tubes_35 rfl hl (by decide) rfl (fun ls hl => ?_)
  refine lv_aload_n hx hb d_M_tubes_36 rfl (lv_at hl 2 rfl) ?_
  obtain ⟨v23, e24, h⟩ := gb h
  refine gw_getA hx hb hT hown hK hI (ci := 7) rfl i_7 23 (by decide) wd_809 (fun _ h9 => h9) e24 d_M_tubes_37 ?_
  refine lv_bipush (v := 8) hx hb d_M_tubes_40 (by decide) ?_
  obtain ⟨v25, e26, h⟩ := gb h
  refine gw_aldJ hx hb hK hI e26 d_M_tubes_42 ?_
  refine lv_aload_n hx hb d_M_tubes_43 rfl (lv_at hl 2 rfl) ?_
  obtain ⟨v27, e28, h⟩ := gb h
  refine gw_getA hx hb hT hown hK hI (ci := 7) rfl i_7 23 (by decide) wd_809 (fun _ h9 => h9) e28 d_M_tubes_44 ?_
  refine lv_bipush (v := 9) hx hb d_M_tubes_47 (by decide) ?_
  obtain ⟨v29, e30, h⟩ := gb h
  refine gw_aldJ hx hb hK hI e30 d_M_tubes_49 ?_
  obtain ⟨u31, e32⟩ := gsome h
  refine gw_callJ e32 h (gw_runS (As := [.long v25, .long v29]) (rest := []) hx hb hml hown hT hK hZ hA hI (m_M_lesser l hst D g0 v25 v29 w u31 e32) ce_M_lesser wd_1008 ⟨by decide, by decide⟩ rfl rfl hl.1 rfl (lv_room (Nat.le_of_ble_eq_true rfl)) d_M_tubes_50 ⟨(show 0 + 0 ≤ 0 by omega), (show 0 + 0 ≤ 0 by omega)⟩) hI hA hexc (show 0 + 0 ≤ 0 by omega) (show 0 + 0 ≤ 0 by omega) (fun v33 w H locs h hI => ?_)
  refine lv_lstore (lv' := [(5, .long v33), (3, .long v22), (1, .long v11), (0, .ref a0)]) hx hb d_M_tubes_53 hl (by decide) rfl (fun ls hl => ?_)
  refine lv_aload_n hx hb d_M_tubes_55 rfl (lv_at hl 3 rfl) ?_
  obtain ⟨v34, e35, h⟩ := gb h
  refine gw_getA hx hb hT hown hK hI (ci := 7) rfl i_7 23 (by decide) wd_809 (fun _ h9 => h9) e35 d_M_tubes_56 ?_
  refine lv_bipush (v := 8) hx hb d_M_tubes_59 (by decide) ?_
  obtain ⟨v36, e37, h⟩ := gb h
  refine gw_aldJ hx hb hK hI e37 d_M_tubes_61 ?_
  refine lv_aload_n hx hb d_M_tubes_62 rfl (lv_at hl 3 rfl) ?_
  obtain ⟨v38, e39, h⟩ := gb h
  refine gw_getA hx hb hT hown hK hI (ci := 7) rfl i_7 23 (by decide) wd_809 (fun _ h9 => h9) e39 d_M_tubes_63 ?_
  refine lv_bipush (v := 9) hx hb d_M_tubes_66 (by decide) ?_
  obtain ⟨v40, e41, h⟩ := gb h
  refine gw_aldJ hx hb hK hI e41 d_M_tubes_68 ?_
  obtain ⟨u42, e43⟩ := gsome h
  refine gw_callJ e43 h (gw_runS (As := [.long v36, .long v40]) (rest := []) hx hb hml hown hT hK hZ hA hI (m_M_greater l hst D g0 v36 v40 w u42 e43) ce_M_greater wd_1011 ⟨by decide, by decide⟩ rfl rfl hl.1 rfl (lv_room (Nat.le_of_ble_eq_true rfl)) d_M_tubes_69 ⟨(show 0 + 0 ≤ 0 by omega), (show 0 + 0 ≤ 0 by omega)⟩) hI hA hexc (show 0 + 0 ≤ 0 by omega) (show 0 + 0 ≤ 0 by omega) (fun v44 w H locs h hI => ?_)
  refine lv_lstore (lv' := [(7, .long v44), (5, .long v33), (3, .long v22), (1, .long v11), (0, .ref a0)]) hx hb d_M_tubes_72 hl (by decide) rfl (fun ls hl => ?_)
  refine lv_aload_n hx hb d_M_tubes_74 rfl (lv_at hl 4 rfl) ?_
  obtain ⟨q47, e48, h⟩ := gb h
  obtain ⟨u45, e46⟩ := gsome h
  refine gw_callJ e46 h (gw_runV (As := []) (rest := []) hx hb hml hown hT hK hZ hA hI (ci := 7) rfl e48 (m_M_heightGap l hst D g0 a0 w u45 e46) ce_M_heightGap wd_1014 wd_35 ⟨by decide, by decide⟩ rfl rfl hl.1 rfl (lv_room (Nat.le_of_ble_eq_true rfl)) d_M_tubes_75 ⟨(show 0 + 0 ≤ 0 by omega), (show 0 + 0 ≤ 0 by omega)⟩) hI hA hexc (show 0 + 0 ≤ 0 by omega) (show 0 + 0 ≤ 0 by omega) (fun v49 w H locs h hI => ?_)
  refine lv_lstore (lv' := [(9, .long v49), (7, .long v44), (5, .long v33), (3, .long v22), (1, .long v11), (0, .ref a0)]) hx hb d_M_tubes_78 hl (by decide) rfl (fun ls hl => ?_)
  refine lv_aload_n hx hb d_M_tubes_80 rfl (lv_at hl 5 rfl) ?_
  obtain ⟨v50, e51, h⟩ := gb h
  refine gw_getA hx hb hT hown hK hI (ci := 7) rfl i_7 24 (by decide) wd_810 (fun _ h9 => h9) e51 d_M_tubes_81 ?_
  refine lv_iconst (v := 0) hx hb d_M_tubes_84 (by decide) ?_
  obtain ⟨v52, e53, h⟩ := gb h
  refine gw_aldJ hx hb hK hI e53 d_M_tubes_85 ?_
  refine lv_aload_n hx hb d_M_tubes_86 rfl (lv_at hl 5 rfl) ?_
  obtain ⟨v54, e55, h⟩ := gb h
  refine gw_getA hx hb hT hown hK hI (ci := 7) rfl i_7 24 (by decide) wd_810 (fun _ h9 => h9) e55 d_M_tubes_87 ?_
  refine lv_iconst (v := 1) hx hb d_M_tubes_90 (by decide) ?_
  obtain ⟨v56, e57, h⟩ := gb h
  refine gw_aldJ hx hb hK hI e57 d_M_tubes_91 ?_
  refine lv_ladd hx hb d_M_tubes_92 ?_
  refine lv_lstore (lv' := [(11, .long (v52 + v56)), (9, .long v49), (7, .long v44), (5, .long v33), (3, .long v22), (1, .long v11), (0, .ref a0)]) hx hb d_M_tubes_93 hl (by decide) rfl (fun ls hl => ?_)
  refine lv_aload_n hx hb d_M_tubes_95 rfl (lv_at hl 6 rfl) ?_
  refine lv_iconst (v := 0) hx hb d_M_tubes_96 (by decide) ?_
  refine lv_iconst (v := 1) hx hb d_M_tubes_97 (by decide) ?_
  refine lv_lload_n hx hb d_M_tubes_98 rfl (lv_at hl 5 rfl) ?_
  refine lv_lload_n hx hb d_M_tubes_99 rfl (lv_at hl 4 rfl) ?_
  obtain ⟨q60, e61, h⟩ := gb h
  obtain ⟨u58, e59⟩ := gsome h
  refine gw_callJ e59 h (gw_runV (As := [.int 0, .int 1, .long v11, .long v22]) (rest := []) hx hb hml hown hT hK hZ hA hI (ci := 7) rfl e61 (m_M_coreGap l hst D g0 a0 0 1 v11 v22 w u58 e59) ce_M_coreGap wd_1021 wd_36 ⟨by decide, by decide⟩ rfl rfl hl.1 rfl (lv_room (Nat.le_of_ble_eq_true rfl)) d_M_tubes_100 ⟨(show 0 + 0 ≤ 0 by omega), (show 0 + 0 ≤ 0 by omega)⟩) hI hA hexc (show 0 + 0 ≤ 0 by omega) (show 0 + 0 ≤ 0 by omega) (fun v62 w H locs h hI => ?_)
  refine lv_aload_n hx hb d_M_tubes_103 rfl (lv_at hl 6 rfl) ?_
  refine lv_iconst (v := 0) hx hb d_M_tubes_104 (by decide) ?_
  refine lv_iconst (v := 0) hx hb d_M_tubes_105 (by decide) ?_
  refine lv_lload hx hb d_M_tubes_106 (lv_at hl 3 rfl) ?_
  refine lv_lload hx hb d_M_tubes_108 (lv_at hl 2 rfl) ?_
  obtain ⟨q65, e66, h⟩ := gb h
  obtain ⟨u63, e64⟩ := gsome h
  refine gw_callJ e64 h (gw_runV (As := [.int 0, .int 0, .long v33, .long v44]) (rest := [.long v62]) hx hb hml hown hT hK hZ hA hI (ci := 7) rfl e66 (m_M_coreGap l hst D g0 a0 0 0 v33 v44 w u63 e64) ce_M_coreGap wd_1021 wd_36 ⟨by decide, by decide⟩ rfl rfl hl.1 rfl (lv_room (Nat.le_of_ble_eq_true rfl)) d_M_tubes_110 ⟨(show 0 + 0 ≤ 0 by omega), (show 0 + 0 ≤ 0 by omega)⟩) hI hA hexc (show 0 + 0 ≤ 0 by omega) (show 0 + 0 ≤ 0 by omega) (fun v67 w H locs h hI => ?_)
  obtain ⟨u68, e69⟩ := gsome h
  refine gw_callJ e69 h (gw_runS (As := [.long v62, .long v67]) (rest := []) hx hb hml hown hT hK hZ hA hI (m_M_square l hst D g0 v62 v67 w u68 e69) ce_M_square wd_1025 ⟨by decide, by decide⟩ rfl rfl hl.1 rfl (lv_room (Nat.le_of_ble_eq_true rfl)) d_M_tubes_113 ⟨(show 0 + 0 ≤ 0 by omega), (show 0 + 0 ≤ 0 by omega)⟩) hI hA hexc (show 0 + 0 ≤ 0 by omega) (show 0 + 0 ≤ 0 by omega) (fun v70 w H locs h hI => ?_)
  refine lv_lload hx hb d_M_tubes_116 (lv_at hl 1 rfl) ?_
  refine lv_lload hx hb d_M_tubes_118 (lv_at hl 1 rfl) ?_
  refine lv_lmul hx hb d_M_tubes_120 ?_
  refine lv_ladd hx hb d_M_tubes_121 ?_
  refine lv_lload hx hb d_M_tubes_122 (lv_at hl 0 rfl) ?_
  refine lv_lload hx hb d_M_tubes_124 (lv_at hl 0 rfl) ?_
  refine lv_lmul hx hb d_M_tubes_126 ?_
  refine lv_lsub hx hb d_M_tubes_127 ?_
  obtain ⟨u71, e72⟩ := gsome h
  refine gw_callI e72 h (gw_runS (As := [.long ((v70 + (v49 * v49)) - ((v52 + v56) * (v52 + v56)))]) (rest := []) hx hb hml hown hT hK hZ hA hI (m_M_common l hst D g0 ((v70 + (v49 * v49)) - ((v52 + v56) * (v52 + v56))) w u71 e72) ce_M_common wd_1028 ⟨by decide, by decide⟩ rfl rfl hl.1 rfl (lv_room (Nat.le_of_ble_eq_true rfl)) d_M_tubes_128 ⟨(show 0 + 0 ≤ 0 by omega), (show 0 + 0 ≤ 0 by omega)⟩) hI hA hexc (show 0 + 0 ≤ 0 by omega) (show 0 + 0 ≤ 0 by omega) (fun v73 w H locs h hI => ?_)
  exact W.widen (show 0 ≤ 0 by omega) (show 0 ≤ 0 by omega) (hret _ _ (Option.some.inj h).symm _ _ _ _ d_M_tubes_131 hI)

abbrev b_M_coreAndDisc : ByteArray := prog_9_method_48_code
def y_M_coreAndDisc : MethodName := ⟨"BodySolidsModel", "coreAndDisc", "(IJ)I"⟩
theorem d_M_coreAndDisc_0 : decode b_M_coreAndDisc 0 = .ok (.iconst 1, 1) := by decide +kernel
theorem d_M_coreAndDisc_1 : decode b_M_coreAndDisc 1 = .ok (.iload_n 1, 1) := by decide +kernel
theorem d_M_coreAndDisc_2 : decode b_M_coreAndDisc 2 = .ok (.isub, 1) := by decide +kernel
theorem d_M_coreAndDisc_3 : decode b_M_coreAndDisc 3 = .ok (.istore 4, 2) := by decide +kernel
theorem d_M_coreAndDisc_5 : decode b_M_coreAndDisc 5 = .ok (.aload_n 0, 1) := by decide +kernel
theorem d_M_coreAndDisc_6 : decode b_M_coreAndDisc 6 = .ok (.getfield 65, 3) := by decide +kernel
theorem d_M_coreAndDisc_9 : decode b_M_coreAndDisc 9 = .ok (.iload 4, 2) := by decide +kernel
theorem d_M_coreAndDisc_11 : decode b_M_coreAndDisc 11 = .ok (.laload, 1) := by decide +kernel
theorem d_M_coreAndDisc_12 : decode b_M_coreAndDisc 12 = .ok (.lstore 5, 2) := by decide +kernel
theorem d_M_coreAndDisc_14 : decode b_M_coreAndDisc 14 = .ok (.aload_n 0, 1) := by decide +kernel
theorem d_M_coreAndDisc_15 : decode b_M_coreAndDisc 15 = .ok (.iload_n 1, 1) := by decide +kernel
theorem d_M_coreAndDisc_16 : decode b_M_coreAndDisc 16 = .ok (.iconst 1, 1) := by decide +kernel
theorem d_M_coreAndDisc_17 : decode b_M_coreAndDisc 17 = .ok (.aload_n 0, 1) := by decide +kernel
theorem d_M_coreAndDisc_18 : decode b_M_coreAndDisc 18 = .ok (.getfield 59, 3) := by decide +kernel
theorem d_M_coreAndDisc_21 : decode b_M_coreAndDisc 21 = .ok (.bipush 8, 2) := by decide +kernel
theorem d_M_coreAndDisc_23 : decode b_M_coreAndDisc 23 = .ok (.iload 4, 2) := by decide +kernel
theorem d_M_coreAndDisc_25 : decode b_M_coreAndDisc 25 = .ok (.imul, 1) := by decide +kernel
theorem d_M_coreAndDisc_26 : decode b_M_coreAndDisc 26 = .ok (.laload, 1) := by decide +kernel
theorem d_M_coreAndDisc_27 : decode b_M_coreAndDisc 27 = .ok (.aload_n 0, 1) := by decide +kernel
theorem d_M_coreAndDisc_28 : decode b_M_coreAndDisc 28 = .ok (.getfield 59, 3) := by decide +kernel
theorem d_M_coreAndDisc_31 : decode b_M_coreAndDisc 31 = .ok (.bipush 8, 2) := by decide +kernel
theorem d_M_coreAndDisc_33 : decode b_M_coreAndDisc 33 = .ok (.iload 4, 2) := by decide +kernel
theorem d_M_coreAndDisc_35 : decode b_M_coreAndDisc 35 = .ok (.imul, 1) := by decide +kernel
theorem d_M_coreAndDisc_36 : decode b_M_coreAndDisc 36 = .ok (.laload, 1) := by decide +kernel
theorem d_M_coreAndDisc_37 : decode b_M_coreAndDisc 37 = .ok (.invokevirtual 225, 3) := by decide +kernel
theorem d_M_coreAndDisc_40 : decode b_M_coreAndDisc 40 = .ok (.aload_n 0, 1) := by decide +kernel
theorem d_M_coreAndDisc_41 : decode b_M_coreAndDisc 41 = .ok (.iload_n 1, 1) := by decide +kernel
theorem d_M_coreAndDisc_42 : decode b_M_coreAndDisc 42 = .ok (.iconst 0, 1) := by decide +kernel
theorem d_M_coreAndDisc_43 : decode b_M_coreAndDisc 43 = .ok (.aload_n 0, 1) := by decide +kernel
theorem d_M_coreAndDisc_44 : decode b_M_coreAndDisc 44 = .ok (.getfield 62, 3) := by decide +kernel
theorem d_M_coreAndDisc_47 : decode b_M_coreAndDisc 47 = .ok (.bipush 8, 2) := by decide +kernel
theorem d_M_coreAndDisc_49 : decode b_M_coreAndDisc 49 = .ok (.iload 4, 2) := by decide +kernel
theorem d_M_coreAndDisc_51 : decode b_M_coreAndDisc 51 = .ok (.imul, 1) := by decide +kernel
theorem d_M_coreAndDisc_52 : decode b_M_coreAndDisc 52 = .ok (.laload, 1) := by decide +kernel
theorem d_M_coreAndDisc_53 : decode b_M_coreAndDisc 53 = .ok (.aload_n 0, 1) := by decide +kernel
theorem d_M_coreAndDisc_54 : decode b_M_coreAndDisc 54 = .ok (.getfield 62, 3) := by decide +kernel
theorem d_M_coreAndDisc_57 : decode b_M_coreAndDisc 57 = .ok (.bipush 8, 2) := by decide +kernel
theorem d_M_coreAndDisc_59 : decode b_M_coreAndDisc 59 = .ok (.iload 4, 2) := by decide +kernel
theorem d_M_coreAndDisc_61 : decode b_M_coreAndDisc 61 = .ok (.imul, 1) := by decide +kernel
theorem d_M_coreAndDisc_62 : decode b_M_coreAndDisc 62 = .ok (.laload, 1) := by decide +kernel
theorem d_M_coreAndDisc_63 : decode b_M_coreAndDisc 63 = .ok (.invokevirtual 225, 3) := by decide +kernel
theorem d_M_coreAndDisc_66 : decode b_M_coreAndDisc 66 = .ok (.invokestatic 194, 3) := by decide +kernel
theorem d_M_coreAndDisc_69 : decode b_M_coreAndDisc 69 = .ok (.lstore 7, 2) := by decide +kernel
theorem d_M_coreAndDisc_71 : decode b_M_coreAndDisc 71 = .ok (.lload 7, 2) := by decide +kernel
theorem d_M_coreAndDisc_73 : decode b_M_coreAndDisc 73 = .ok (.lload 5, 2) := by decide +kernel
theorem d_M_coreAndDisc_75 : decode b_M_coreAndDisc 75 = .ok (.lload 5, 2) := by decide +kernel
theorem d_M_coreAndDisc_77 : decode b_M_coreAndDisc 77 = .ok (.lmul, 1) := by decide +kernel
theorem d_M_coreAndDisc_78 : decode b_M_coreAndDisc 78 = .ok (.lcmp, 1) := by decide +kernel
theorem d_M_coreAndDisc_79 : decode b_M_coreAndDisc 79 = .ok (.ifCond .gt 10, 3) := by decide +kernel
theorem d_M_coreAndDisc_82 : decode b_M_coreAndDisc 82 = .ok (.lconst 0, 1) := by decide +kernel
theorem d_M_coreAndDisc_83 : decode b_M_coreAndDisc 83 = .ok (.lload_n 2, 1) := by decide +kernel
theorem d_M_coreAndDisc_84 : decode b_M_coreAndDisc 84 = .ok (.lsub, 1) := by decide +kernel
theorem d_M_coreAndDisc_85 : decode b_M_coreAndDisc 85 = .ok (.invokestatic 186, 3) := by decide +kernel
theorem d_M_coreAndDisc_88 : decode b_M_coreAndDisc 88 = .ok (.ireturn, 1) := by decide +kernel
theorem d_M_coreAndDisc_89 : decode b_M_coreAndDisc 89 = .ok (.lload 7, 2) := by decide +kernel
theorem d_M_coreAndDisc_91 : decode b_M_coreAndDisc 91 = .ok (.lload 5, 2) := by decide +kernel
theorem d_M_coreAndDisc_93 : decode b_M_coreAndDisc 93 = .ok (.lload 5, 2) := by decide +kernel
theorem d_M_coreAndDisc_95 : decode b_M_coreAndDisc 95 = .ok (.lmul, 1) := by decide +kernel
theorem d_M_coreAndDisc_96 : decode b_M_coreAndDisc 96 = .ok (.lsub, 1) := by decide +kernel
theorem d_M_coreAndDisc_97 : decode b_M_coreAndDisc 97 = .ok (.lload_n 2, 1) := by decide +kernel
theorem d_M_coreAndDisc_98 : decode b_M_coreAndDisc 98 = .ok (.lsub, 1) := by decide +kernel
theorem d_M_coreAndDisc_99 : decode b_M_coreAndDisc 99 = .ok (.lstore 9, 2) := by decide +kernel
theorem d_M_coreAndDisc_101 : decode b_M_coreAndDisc 101 = .ok (.lload 9, 2) := by decide +kernel
theorem d_M_coreAndDisc_103 : decode b_M_coreAndDisc 103 = .ok (.lconst 0, 1) := by decide +kernel
theorem d_M_coreAndDisc_104 : decode b_M_coreAndDisc 104 = .ok (.lcmp, 1) := by decide +kernel
theorem d_M_coreAndDisc_105 : decode b_M_coreAndDisc 105 = .ok (.ifCond .ge 7, 3) := by decide +kernel
theorem d_M_coreAndDisc_108 : decode b_M_coreAndDisc 108 = .ok (.iconst 2, 1) := by decide +kernel
theorem d_M_coreAndDisc_109 : decode b_M_coreAndDisc 109 = .ok (.goto 23, 3) := by decide +kernel
theorem d_M_coreAndDisc_112 : decode b_M_coreAndDisc 112 = .ok (.lload 9, 2) := by decide +kernel
theorem d_M_coreAndDisc_114 : decode b_M_coreAndDisc 114 = .ok (.lload 9, 2) := by decide +kernel
theorem d_M_coreAndDisc_116 : decode b_M_coreAndDisc 116 = .ok (.lmul, 1) := by decide +kernel
theorem d_M_coreAndDisc_117 : decode b_M_coreAndDisc 117 = .ok (.ldc2_w 229, 3) := by decide +kernel
theorem d_M_coreAndDisc_120 : decode b_M_coreAndDisc 120 = .ok (.lload 5, 2) := by decide +kernel
theorem d_M_coreAndDisc_122 : decode b_M_coreAndDisc 122 = .ok (.lmul, 1) := by decide +kernel
theorem d_M_coreAndDisc_123 : decode b_M_coreAndDisc 123 = .ok (.lload 5, 2) := by decide +kernel
theorem d_M_coreAndDisc_125 : decode b_M_coreAndDisc 125 = .ok (.lmul, 1) := by decide +kernel
theorem d_M_coreAndDisc_126 : decode b_M_coreAndDisc 126 = .ok (.lload_n 2, 1) := by decide +kernel
theorem d_M_coreAndDisc_127 : decode b_M_coreAndDisc 127 = .ok (.lmul, 1) := by decide +kernel
theorem d_M_coreAndDisc_128 : decode b_M_coreAndDisc 128 = .ok (.lsub, 1) := by decide +kernel
theorem d_M_coreAndDisc_129 : decode b_M_coreAndDisc 129 = .ok (.invokestatic 186, 3) := by decide +kernel
theorem d_M_coreAndDisc_132 : decode b_M_coreAndDisc 132 = .ok (.ireturn, 1) := by decide +kernel
abbrev rm_M_coreAndDisc : Room := { frames := 2, cells := 0, slots := 0, locals := 57 }
theorem ce_M_coreAndDisc : gCe y_M_coreAndDisc (.code y_M_coreAndDisc b_M_coreAndDisc 11 (some .int)) 11 2 false := gCe.code wd_1034 wd_57 wd_1033 (by decide) (by decide +kernel)
def f_M_coreAndDisc (g0 : gG) (a0 : Nat) (p1 : Int32) (p2 : Int64) (w : gW) : gX Int32 := (gfA w a0 7 24).bind fun v1 => (gaJ w v1 (1 - p1)).bind fun v3 => (gfA w a0 7 22).bind fun v5 => (gaJ w v5 (8 * (1 - p1))).bind fun v7 => (gfA w a0 7 22).bind fun v9 => (gaJ w v9 (8 * (1 - p1))).bind fun v11 => (gck w a0 7).bind fun _ => gbind (f_M_coreGap g0 a0 p1 1 v7 v11 w) fun v17 w => (gfA w a0 7 23).bind fun v18 => (gaJ w v18 (8 * (1 - p1))).bind fun v20 => (gfA w a0 7 23).bind fun v22 => (gaJ w v22 (8 * (1 - p1))).bind fun v24 => (gck w a0 7).bind fun _ => gbind (f_M_coreGap g0 a0 p1 0 v20 v24 w) fun v30 w => gbind (f_M_square g0 v17 v30 w) fun v33 w => if (v3 * v3) < v33 then (gjoin (fun K132 => if 0 ≤ ((v33 - (v3 * v3)) - p2) then (gbind (f_M_common g0 ((((v33 - (v3 * v3)) - p2) * ((v33 - (v3 * v3)) - p2)) - (((4 * v3) * v3) * p2)) w) fun v39 w => K132 v39 w) else (K132 2 w)) (fun (y35 : Int32) (w : gW) => some (.inr y35, w))) else (gbind (f_M_common g0 (0 - p2) w) fun v42 w => some (.inr v42, w))
set_option maxHeartbeats 4000000 in
set_option maxRecDepth 100000 in
theorem m_M_coreAndDisc (l : Launch) (hst : l.stackTraces = false) (D : gD) (g0 : gG) (a0 : Nat) (p1 : Int32) (p2 : Int64) (w : gW) (r : (String ⊕ Int32) × gW) (h : f_M_coreAndDisc g0 a0 p1 p2 w = some r) : gMet l y_M_coreAndDisc (.code y_M_coreAndDisc b_M_coreAndDisc 11 (some .int)) rm_M_coreAndDisc D g0 [.ref a0, .int p1, .long p2] w (goI r) := by
  refine gw_ofI (by decide +kernel) (Nat.le_of_ble_eq_true rfl) ?_
  intro p e s m below meth c ls args A Q hx hb hml hown hlocks hin hnt hT hK hZ hA hret hexc hthr hI hl
  obtain ⟨H, hH⟩ : ∃ H, H = s.heap := ⟨_, rfl⟩
  rw [← hH] at hI ⊢
  obtain ⟨locs, hlocs⟩ : ∃ z : List Loc, z = [] := ⟨_, rfl⟩
  rw [← hlocs] at hI ⊢
  have hl : lv_has ls 11 [(0, .ref a0), (1, .int p1), (2, .long p2)] := hl
  unfold f_M_coreAndDisc at h
  refine lv_iconst (v := 1) hx hb d_M_coreAndDisc_0 (by decide) ?_
  refine lv_iload_n hx hb d_M_coreAndDisc_1 rfl (lv_at hl 1 rfl) ?_
  refine lv_isub hx hb d_M_coreAndDisc_2 ?_
  refine lv_istore (lv' := [(4, .int (1 - p1)), (0, .ref a0), (1, .int p1), (2, .long p2)]) hx hb d_M_coreAndDisc_3 hl (by decide) rfl (fun ls hl => ?_)
  refine lv_aload_n hx hb d_M_coreAndDisc_5 rfl (lv_at hl 1 rfl) ?_
  obtain ⟨v1, e2, h⟩ := gb h
  refine gw_getA hx hb hT hown hK hI (ci := 7) rfl i_7 24 (by decide) wd_810 (fun _ h9 => h9) e2 d_M_coreAndDisc_6 ?_
  refine lv_iload hx hb d_M_coreAndDisc_9 (lv_at hl 0 rfl) ?_
  obtain ⟨v3, e4, h⟩ := gb h
  refine gw_aldJ hx hb hK hI e4 d_M_coreAndDisc_11 ?_
  refine lv_lstore (lv' := [(5, .long v3), (4, .int (1 - p1)), (0, .ref a0), (1, .int p1), (2, .long p2)]) hx hb d_M_coreAndDisc_12 hl (by decide) rfl (fun ls hl => ?_)
  refine lv_aload_n hx hb d_M_coreAndDisc_14 rfl (lv_at hl 2 rfl) ?_
  refine lv_iload_n hx hb d_M_coreAndDisc_15 rfl (lv_at hl 3 rfl) ?_
  refine lv_iconst (v := 1) hx hb d_M_coreAndDisc_16 (by decide) ?_
  refine lv_aload_n hx hb d_M_coreAndDisc_17 rfl (lv_at hl 2 rfl) ?_
  obtain ⟨v5, e6, h⟩ := gb h
  refine gw_getA hx hb hT hown hK hI (ci := 7) rfl i_7 22 (by decide) wd_808 (fun _ h9 => h9) e6 d_M_coreAndDisc_18 ?_
  refine lv_bipush (v := 8) hx hb d_M_coreAndDisc_21 (by decide) ?_
  refine lv_iload hx hb d_M_coreAndDisc_23 (lv_at hl 1 rfl) ?_
  refine lv_imul hx hb d_M_coreAndDisc_25 ?_
  obtain ⟨v7, e8, h⟩ := gb h
  refine gw_aldJ hx hb hK hI e8 d_M_coreAndDisc_26 ?_
  refine lv_aload_n hx hb d_M_coreAndDisc_27 rfl (lv_at hl 2 rfl) ?_
  obtain ⟨v9, e10, h⟩ := gb h
  refine gw_getA hx hb hT hown hK hI (ci := 7) rfl i_7 22 (by decide) wd_808 (fun _ h9 => h9) e10 d_M_coreAndDisc_28 ?_
  refine lv_bipush (v := 8) hx hb d_M_coreAndDisc_31 (by decide) ?_
  refine lv_iload hx hb d_M_coreAndDisc_33 (lv_at hl 1 rfl) ?_
  refine lv_imul hx hb d_M_coreAndDisc_35 ?_
  obtain ⟨v11, e12, h⟩ := gb h
  refine gw_aldJ hx hb hK hI e12 d_M_coreAndDisc_36 ?_
  obtain ⟨q15, e16, h⟩ := gb h
  obtain ⟨u13, e14⟩ := gsome h
  refine gw_callJ e14 h (gw_runV (As := [.int p1, .int 1, .long v7, .long v11]) (rest := []) hx hb hml hown hT hK hZ hA hI (ci := 7) rfl e16 (m_M_coreGap l hst D g0 a0 p1 1 v7 v11 w u13 e14) ce_M_coreGap wd_1021 wd_36 ⟨by decide, by decide⟩ rfl rfl hl.1 rfl (lv_room (Nat.le_of_ble_eq_true rfl)) d_M_coreAndDisc_37 ⟨(show 0 + 0 ≤ 0 by omega), (show 0 + 0 ≤ 0 by omega)⟩) hI hA hexc (show 0 + 0 ≤ 0 by omega) (show 0 + 0 ≤ 0 by omega) (fun v17 w H locs h hI => ?_)
  refine lv_aload_n hx hb d_M_coreAndDisc_40 rfl (lv_at hl 2 rfl) ?_
  refine lv_iload_n hx hb d_M_coreAndDisc_41 rfl (lv_at hl 3 rfl) ?_
  refine lv_iconst (v := 0) hx hb d_M_coreAndDisc_42 (by decide) ?_
  refine lv_aload_n hx hb d_M_coreAndDisc_43 rfl (lv_at hl 2 rfl) ?_
  obtain ⟨v18, e19, h⟩ := gb h
  refine gw_getA hx hb hT hown hK hI (ci := 7) rfl i_7 23 (by decide) wd_809 (fun _ h9 => h9) e19 d_M_coreAndDisc_44 ?_
  refine lv_bipush (v := 8) hx hb d_M_coreAndDisc_47 (by decide) ?_
  refine lv_iload hx hb d_M_coreAndDisc_49 (lv_at hl 1 rfl) ?_
  refine lv_imul hx hb d_M_coreAndDisc_51 ?_
  obtain ⟨v20, e21, h⟩ := gb h
  refine gw_aldJ hx hb hK hI e21 d_M_coreAndDisc_52 ?_
  refine lv_aload_n hx hb d_M_coreAndDisc_53 rfl (lv_at hl 2 rfl) ?_
  obtain ⟨v22, e23, h⟩ := gb h
  refine gw_getA hx hb hT hown hK hI (ci := 7) rfl i_7 23 (by decide) wd_809 (fun _ h9 => h9) e23 d_M_coreAndDisc_54 ?_
  refine lv_bipush (v := 8) hx hb d_M_coreAndDisc_57 (by decide) ?_
  refine lv_iload hx hb d_M_coreAndDisc_59 (lv_at hl 1 rfl) ?_
  refine lv_imul hx hb d_M_coreAndDisc_61 ?_
  obtain ⟨v24, e25, h⟩ := gb h
  refine gw_aldJ hx hb hK hI e25 d_M_coreAndDisc_62 ?_
  obtain ⟨q28, e29, h⟩ := gb h
  obtain ⟨u26, e27⟩ := gsome h
  refine gw_callJ e27 h (gw_runV (As := [.int p1, .int 0, .long v20, .long v24]) (rest := [.long v17]) hx hb hml hown hT hK hZ hA hI (ci := 7) rfl e29 (m_M_coreGap l hst D g0 a0 p1 0 v20 v24 w u26 e27) ce_M_coreGap wd_1021 wd_36 ⟨by decide, by decide⟩ rfl rfl hl.1 rfl (lv_room (Nat.le_of_ble_eq_true rfl)) d_M_coreAndDisc_63 ⟨(show 0 + 0 ≤ 0 by omega), (show 0 + 0 ≤ 0 by omega)⟩) hI hA hexc (show 0 + 0 ≤ 0 by omega) (show 0 + 0 ≤ 0 by omega) (fun v30 w H locs h hI => ?_)
  obtain ⟨u31, e32⟩ := gsome h
  refine gw_callJ e32 h (gw_runS (As := [.long v17, .long v30]) (rest := []) hx hb hml hown hT hK hZ hA hI (m_M_square l hst D g0 v17 v30 w u31 e32) ce_M_square wd_1025 ⟨by decide, by decide⟩ rfl rfl hl.1 rfl (lv_room (Nat.le_of_ble_eq_true rfl)) d_M_coreAndDisc_66 ⟨(show 0 + 0 ≤ 0 by omega), (show 0 + 0 ≤ 0 by omega)⟩) hI hA hexc (show 0 + 0 ≤ 0 by omega) (show 0 + 0 ≤ 0 by omega) (fun v33 w H locs h hI => ?_)
  refine lv_lstore (lv' := [(7, .long v33), (5, .long v3), (4, .int (1 - p1)), (0, .ref a0), (1, .int p1), (2, .long p2)]) hx hb d_M_coreAndDisc_69 hl (by decide) rfl (fun ls hl => ?_)
  refine lv_lload hx hb d_M_coreAndDisc_71 (lv_at hl 0 rfl) ?_
  refine lv_lload hx hb d_M_coreAndDisc_73 (lv_at hl 1 rfl) ?_
  refine lv_lload hx hb d_M_coreAndDisc_75 (lv_at hl 1 rfl) ?_
  refine lv_lmul hx hb d_M_coreAndDisc_77 ?_
  refine W.lcmp hx hb d_M_coreAndDisc_78 ?_
  refine lv_if_gt (tgt := 89) hx hb d_M_coreAndDisc_79 (by decide) (fun c34 => ?_) (fun c34 => ?_)
  · have c34 := (lg_cmp_gt _ _).mp c34
    have h := git c34 h
    refine lv_lload hx hb d_M_coreAndDisc_89 (lv_at hl 0 rfl) ?_
    refine lv_lload hx hb d_M_coreAndDisc_91 (lv_at hl 1 rfl) ?_
    refine lv_lload hx hb d_M_coreAndDisc_93 (lv_at hl 1 rfl) ?_
    refine lv_lmul hx hb d_M_coreAndDisc_95 ?_
    refine lv_lsub hx hb d_M_coreAndDisc_96 ?_
    refine lv_lload_n hx hb d_M_coreAndDisc_97 rfl (lv_at hl 5 rfl) ?_
    refine lv_lsub hx hb d_M_coreAndDisc_98 ?_
    refine lv_lstore (lv' := [(9, .long ((v33 - (v3 * v3)) - p2)), (7, .long v33), (5, .long v3), (4, .int (1 - p1)), (0, .ref a0), (1, .int p1), (2, .long p2)]) hx hb d_M_coreAndDisc_99 hl (by decide) rfl (fun ls hl => ?_)
    refine lv_lload hx hb d_M_coreAndDisc_101 (lv_at hl 0 rfl) ?_
    refine lv_lconst (v := 0) hx hb d_M_coreAndDisc_103 (by decide) ?_
    refine W.lcmp hx hb d_M_coreAndDisc_104 ?_
    obtain ⟨K132, eK132, h⟩ := gj h
    have hK132 : ∀ (y35 : Int32) (w : gW) (H : Heap) (locs : List Loc) (ls : Array Slot), K132 y35 w = some r → gI D s A w H locs → lv_has ls 11 [] → W p l e rm_M_coreAndDisc s m args below meth c H locs 0 0 Q (F0 m 132 ls [.int y35]) := by
      intro y35 w H locs ls h hI hl
      have h := gk2 eK132 h
      exact W.widen (show 0 ≤ 0 by omega) (show 0 ≤ 0 by omega) (hret _ _ (Option.some.inj h).symm _ _ _ _ d_M_coreAndDisc_132 hI)
    refine lv_if_ge (tgt := 112) hx hb d_M_coreAndDisc_105 (by decide) (fun c36 => ?_) (fun c36 => ?_)
    · have c36 := (lg_cmp_ge _ _).mp c36
      have h := git c36 h
      refine lv_lload hx hb d_M_coreAndDisc_112 (lv_at hl 0 rfl) ?_
      refine lv_lload hx hb d_M_coreAndDisc_114 (lv_at hl 0 rfl) ?_
      refine lv_lmul hx hb d_M_coreAndDisc_116 ?_
      refine lv_ldc2 (v := 4) hx hb hown (hT _ wd_1035 args) d_M_coreAndDisc_117 ?_
      refine lv_lload hx hb d_M_coreAndDisc_120 (lv_at hl 2 rfl) ?_
      refine lv_lmul hx hb d_M_coreAndDisc_122 ?_
      refine lv_lload hx hb d_M_coreAndDisc_123 (lv_at hl 2 rfl) ?_
      refine lv_lmul hx hb d_M_coreAndDisc_125 ?_
      refine lv_lload_n hx hb d_M_coreAndDisc_126 rfl (lv_at hl 6 rfl) ?_
      refine lv_lmul hx hb d_M_coreAndDisc_127 ?_
      refine lv_lsub hx hb d_M_coreAndDisc_128 ?_
      obtain ⟨u37, e38⟩ := gsome h
      refine gw_callI e38 h (gw_runS (As := [.long ((((v33 - (v3 * v3)) - p2) * ((v33 - (v3 * v3)) - p2)) - (((4 * v3) * v3) * p2))]) (rest := []) hx hb hml hown hT hK hZ hA hI (m_M_common l hst D g0 ((((v33 - (v3 * v3)) - p2) * ((v33 - (v3 * v3)) - p2)) - (((4 * v3) * v3) * p2)) w u37 e38) ce_M_common wd_1028 ⟨by decide, by decide⟩ rfl rfl hl.1 rfl (lv_room (Nat.le_of_ble_eq_true rfl)) d_M_coreAndDisc_129 ⟨(show 0 + 0 ≤ 0 by omega), (show 0 + 0 ≤ 0 by omega)⟩) hI hA hexc (show 0 + 0 ≤ 0 by omega) (show 0 + 0 ≤ 0 by omega) (fun v39 w H locs h hI => ?_)
      exact hK132 _ w H locs ls h hI (lv_sub hl [] rfl)
    · have c36 := mt (lg_cmp_ge _ _).mpr c36
      have h := gie c36 h
      refine lv_iconst (v := 2) hx hb d_M_coreAndDisc_108 (by decide) ?_
      refine lv_goto (tgt := 132) hx hb d_M_coreAndDisc_109 (by decide) ?_
      exact hK132 _ w H locs ls h hI (lv_sub hl [] rfl)
  · have c34 := mt (lg_cmp_gt _ _).mpr c34
    have h := gie c34 h
    refine lv_lconst (v := 0) hx hb d_M_coreAndDisc_82 (by decide) ?_
    refine lv_lload_n hx hb d_M_coreAndDisc_83 rfl (lv_at hl 5 rfl) ?_
    refine lv_lsub hx hb d_M_coreAndDisc_84 ?_
    obtain ⟨u40, e41⟩ := gsome h
    refine gw_callI e41 h (gw_runS (As := [.long (0 - p2)]) (rest := []) hx hb hml hown hT hK hZ hA hI (m_M_common l hst D g0 (0 - p2) w u40 e41) ce_M_common wd_1028 ⟨by decide, by decide⟩ rfl rfl hl.1 rfl (lv_room (Nat.le_of_ble_eq_true rfl)) d_M_coreAndDisc_85 ⟨(show 0 + 0 ≤ 0 by omega), (show 0 + 0 ≤ 0 by omega)⟩) hI hA hexc (show 0 + 0 ≤ 0 by omega) (show 0 + 0 ≤ 0 by omega) (fun v42 w H locs h hI => ?_)
    exact W.widen (show 0 ≤ 0 by omega) (show 0 ≤ 0 by omega) (hret _ _ (Option.some.inj h).symm _ _ _ _ d_M_coreAndDisc_88 hI)

abbrev b_M_isIn : ByteArray := prog_9_method_38_code
def y_M_isIn : MethodName := ⟨"BodySolidsModel", "isIn", "(IJJ)Z"⟩
theorem d_M_isIn_0 : decode b_M_isIn 0 = .ok (.iconst 0, 1) := by decide +kernel
theorem d_M_isIn_1 : decode b_M_isIn 1 = .ok (.istore 6, 2) := by decide +kernel
theorem d_M_isIn_3 : decode b_M_isIn 3 = .ok (.iconst 0, 1) := by decide +kernel
theorem d_M_isIn_4 : decode b_M_isIn 4 = .ok (.istore 7, 2) := by decide +kernel
theorem d_M_isIn_6 : decode b_M_isIn 6 = .ok (.iconst 0, 1) := by decide +kernel
theorem d_M_isIn_7 : decode b_M_isIn 7 = .ok (.istore 8, 2) := by decide +kernel
theorem d_M_isIn_9 : decode b_M_isIn 9 = .ok (.iload 8, 2) := by decide +kernel
theorem d_M_isIn_11 : decode b_M_isIn 11 = .ok (.aload_n 0, 1) := by decide +kernel
theorem d_M_isIn_12 : decode b_M_isIn 12 = .ok (.getfield 56, 3) := by decide +kernel
theorem d_M_isIn_15 : decode b_M_isIn 15 = .ok (.iload_n 1, 1) := by decide +kernel
theorem d_M_isIn_16 : decode b_M_isIn 16 = .ok (.iaload, 1) := by decide +kernel
theorem d_M_isIn_17 : decode b_M_isIn 17 = .ok (.if_icmp .ge 116, 3) := by decide +kernel
theorem d_M_isIn_20 : decode b_M_isIn 20 = .ok (.iload 8, 2) := by decide +kernel
theorem d_M_isIn_22 : decode b_M_isIn 22 = .ok (.iconst 1, 1) := by decide +kernel
theorem d_M_isIn_23 : decode b_M_isIn 23 = .ok (.iadd, 1) := by decide +kernel
theorem d_M_isIn_24 : decode b_M_isIn 24 = .ok (.aload_n 0, 1) := by decide +kernel
theorem d_M_isIn_25 : decode b_M_isIn 25 = .ok (.getfield 56, 3) := by decide +kernel
theorem d_M_isIn_28 : decode b_M_isIn 28 = .ok (.iload_n 1, 1) := by decide +kernel
theorem d_M_isIn_29 : decode b_M_isIn 29 = .ok (.iaload, 1) := by decide +kernel
theorem d_M_isIn_30 : decode b_M_isIn 30 = .ok (.irem, 1) := by decide +kernel
theorem d_M_isIn_31 : decode b_M_isIn 31 = .ok (.istore 9, 2) := by decide +kernel
theorem d_M_isIn_33 : decode b_M_isIn 33 = .ok (.aload_n 0, 1) := by decide +kernel
theorem d_M_isIn_34 : decode b_M_isIn 34 = .ok (.getfield 59, 3) := by decide +kernel
theorem d_M_isIn_37 : decode b_M_isIn 37 = .ok (.bipush 8, 2) := by decide +kernel
theorem d_M_isIn_39 : decode b_M_isIn 39 = .ok (.iload_n 1, 1) := by decide +kernel
theorem d_M_isIn_40 : decode b_M_isIn 40 = .ok (.imul, 1) := by decide +kernel
theorem d_M_isIn_41 : decode b_M_isIn 41 = .ok (.iload 8, 2) := by decide +kernel
theorem d_M_isIn_43 : decode b_M_isIn 43 = .ok (.iadd, 1) := by decide +kernel
theorem d_M_isIn_44 : decode b_M_isIn 44 = .ok (.laload, 1) := by decide +kernel
theorem d_M_isIn_45 : decode b_M_isIn 45 = .ok (.aload_n 0, 1) := by decide +kernel
theorem d_M_isIn_46 : decode b_M_isIn 46 = .ok (.getfield 62, 3) := by decide +kernel
theorem d_M_isIn_49 : decode b_M_isIn 49 = .ok (.bipush 8, 2) := by decide +kernel
theorem d_M_isIn_51 : decode b_M_isIn 51 = .ok (.iload_n 1, 1) := by decide +kernel
theorem d_M_isIn_52 : decode b_M_isIn 52 = .ok (.imul, 1) := by decide +kernel
theorem d_M_isIn_53 : decode b_M_isIn 53 = .ok (.iload 8, 2) := by decide +kernel
theorem d_M_isIn_55 : decode b_M_isIn 55 = .ok (.iadd, 1) := by decide +kernel
theorem d_M_isIn_56 : decode b_M_isIn 56 = .ok (.laload, 1) := by decide +kernel
theorem d_M_isIn_57 : decode b_M_isIn 57 = .ok (.aload_n 0, 1) := by decide +kernel
theorem d_M_isIn_58 : decode b_M_isIn 58 = .ok (.getfield 59, 3) := by decide +kernel
theorem d_M_isIn_61 : decode b_M_isIn 61 = .ok (.bipush 8, 2) := by decide +kernel
theorem d_M_isIn_63 : decode b_M_isIn 63 = .ok (.iload_n 1, 1) := by decide +kernel
theorem d_M_isIn_64 : decode b_M_isIn 64 = .ok (.imul, 1) := by decide +kernel
theorem d_M_isIn_65 : decode b_M_isIn 65 = .ok (.iload 9, 2) := by decide +kernel
theorem d_M_isIn_67 : decode b_M_isIn 67 = .ok (.iadd, 1) := by decide +kernel
theorem d_M_isIn_68 : decode b_M_isIn 68 = .ok (.laload, 1) := by decide +kernel
theorem d_M_isIn_69 : decode b_M_isIn 69 = .ok (.aload_n 0, 1) := by decide +kernel
theorem d_M_isIn_70 : decode b_M_isIn 70 = .ok (.getfield 62, 3) := by decide +kernel
theorem d_M_isIn_73 : decode b_M_isIn 73 = .ok (.bipush 8, 2) := by decide +kernel
theorem d_M_isIn_75 : decode b_M_isIn 75 = .ok (.iload_n 1, 1) := by decide +kernel
theorem d_M_isIn_76 : decode b_M_isIn 76 = .ok (.imul, 1) := by decide +kernel
theorem d_M_isIn_77 : decode b_M_isIn 77 = .ok (.iload 9, 2) := by decide +kernel
theorem d_M_isIn_79 : decode b_M_isIn 79 = .ok (.iadd, 1) := by decide +kernel
theorem d_M_isIn_80 : decode b_M_isIn 80 = .ok (.laload, 1) := by decide +kernel
theorem d_M_isIn_81 : decode b_M_isIn 81 = .ok (.lload_n 2, 1) := by decide +kernel
theorem d_M_isIn_82 : decode b_M_isIn 82 = .ok (.lload 4, 2) := by decide +kernel
theorem d_M_isIn_84 : decode b_M_isIn 84 = .ok (.invokestatic 124, 3) := by decide +kernel
theorem d_M_isIn_87 : decode b_M_isIn 87 = .ok (.lstore 10, 2) := by decide +kernel
theorem d_M_isIn_89 : decode b_M_isIn 89 = .ok (.iload 6, 2) := by decide +kernel
theorem d_M_isIn_91 : decode b_M_isIn 91 = .ok (.ifCond .ne 10, 3) := by decide +kernel
theorem d_M_isIn_94 : decode b_M_isIn 94 = .ok (.lload 10, 2) := by decide +kernel
theorem d_M_isIn_96 : decode b_M_isIn 96 = .ok (.lconst 0, 1) := by decide +kernel
theorem d_M_isIn_97 : decode b_M_isIn 97 = .ok (.lcmp, 1) := by decide +kernel
theorem d_M_isIn_98 : decode b_M_isIn 98 = .ok (.ifCond .le 7, 3) := by decide +kernel
theorem d_M_isIn_101 : decode b_M_isIn 101 = .ok (.iconst 1, 1) := by decide +kernel
theorem d_M_isIn_102 : decode b_M_isIn 102 = .ok (.goto 4, 3) := by decide +kernel
theorem d_M_isIn_105 : decode b_M_isIn 105 = .ok (.iconst 0, 1) := by decide +kernel
theorem d_M_isIn_106 : decode b_M_isIn 106 = .ok (.istore 6, 2) := by decide +kernel
theorem d_M_isIn_108 : decode b_M_isIn 108 = .ok (.iload 7, 2) := by decide +kernel
theorem d_M_isIn_110 : decode b_M_isIn 110 = .ok (.ifCond .ne 10, 3) := by decide +kernel
theorem d_M_isIn_113 : decode b_M_isIn 113 = .ok (.lload 10, 2) := by decide +kernel
theorem d_M_isIn_115 : decode b_M_isIn 115 = .ok (.lconst 0, 1) := by decide +kernel
theorem d_M_isIn_116 : decode b_M_isIn 116 = .ok (.lcmp, 1) := by decide +kernel
theorem d_M_isIn_117 : decode b_M_isIn 117 = .ok (.ifCond .ge 7, 3) := by decide +kernel
theorem d_M_isIn_120 : decode b_M_isIn 120 = .ok (.iconst 1, 1) := by decide +kernel
theorem d_M_isIn_121 : decode b_M_isIn 121 = .ok (.goto 4, 3) := by decide +kernel
theorem d_M_isIn_124 : decode b_M_isIn 124 = .ok (.iconst 0, 1) := by decide +kernel
theorem d_M_isIn_125 : decode b_M_isIn 125 = .ok (.istore 7, 2) := by decide +kernel
theorem d_M_isIn_127 : decode b_M_isIn 127 = .ok (.iinc 8 1, 3) := by decide +kernel
theorem d_M_isIn_130 : decode b_M_isIn 130 = .ok (.goto (-121), 3) := by decide +kernel
theorem d_M_isIn_133 : decode b_M_isIn 133 = .ok (.iload 6, 2) := by decide +kernel
theorem d_M_isIn_135 : decode b_M_isIn 135 = .ok (.ifCond .eq 8, 3) := by decide +kernel
theorem d_M_isIn_138 : decode b_M_isIn 138 = .ok (.iload 7, 2) := by decide +kernel
theorem d_M_isIn_140 : decode b_M_isIn 140 = .ok (.ifCond .ne 7, 3) := by decide +kernel
theorem d_M_isIn_143 : decode b_M_isIn 143 = .ok (.iconst 1, 1) := by decide +kernel
theorem d_M_isIn_144 : decode b_M_isIn 144 = .ok (.goto 4, 3) := by decide +kernel
theorem d_M_isIn_147 : decode b_M_isIn 147 = .ok (.iconst 0, 1) := by decide +kernel
theorem d_M_isIn_148 : decode b_M_isIn 148 = .ok (.ireturn, 1) := by decide +kernel
abbrev rm_M_isIn : Room := { frames := 1, cells := 0, slots := 0, locals := 31 }
theorem ce_M_isIn : gCe y_M_isIn (.code y_M_isIn b_M_isIn 12 (some .boolean)) 12 3 false := gCe.code wd_1047 wd_57 wd_1046 (by decide) (by decide +kernel)
def f_M_isIn_L9 (g0 : gG) (c0 : Nat) (c1 : Int32) (c2 : Int64) (c4 : Int64) (K133 : Int32 → Int32 → gW → gX Int32) : Nat → Int32 → Int32 → Int32 → gW → gX Int32
  | 0, _, _, _, _ => none
  | n + 1, z6, z7, z8, w => (gfA w c0 7 21).bind fun v7 => (gaI w v7 c1).bind fun v9 => if v9 ≤ z8 then (K133 z6 z7 w) else ((gfA w c0 7 21).bind fun v12 => (gaI w v12 c1).bind fun v14 => gguard (¬ v14 = 0) ((gfA w c0 7 22).bind fun v17 => (gaJ w v17 ((8 * c1) + z8)).bind fun v19 => (gfA w c0 7 23).bind fun v21 => (gaJ w v21 ((8 * c1) + z8)).bind fun v23 => (gfA w c0 7 22).bind fun v25 => (gaJ w v25 ((8 * c1) + ((z8 + 1) - (z8 + 1) / v14 * v14))).bind fun v27 => (gfA w c0 7 23).bind fun v29 => (gaJ w v29 ((8 * c1) + ((z8 + 1) - (z8 + 1) / v14 * v14))).bind fun v31 => gbind (f_M_cross g0 v19 v23 v27 v31 c2 c4 w) fun v35 w => gjoin (fun K106 => gjoin (fun K101 => if z6 = 0 then (if v35 ≤ 0 then (K106 0 w) else (K101 w)) else (K101 w)) (fun (w : gW) => K106 1 w)) (fun (y36 : Int32) (w : gW) => gjoin (fun K125 => gjoin (fun K120 => if z7 = 0 then (if 0 ≤ v35 then (K125 0 w) else (K120 w)) else (K120 w)) (fun (w : gW) => K125 1 w)) (fun (y37 : Int32) (w : gW) => f_M_isIn_L9 g0 c0 c1 c2 c4 K133 n y36 y37 (z8 + 1) w))))
def f_M_isIn (g0 : gG) (a0 : Nat) (p1 : Int32) (p2 : Int64) (p3 : Int64) (w : gW) : gX Int32 := gjoin (fun K133 => f_M_isIn_L9 g0 a0 p1 p2 p3 K133 64 0 0 0 w) (fun (x1 : Int32) (x2 : Int32) (w : gW) => gjoin (fun K148 => gjoin (fun K143 => if x1 = 0 then (K143 w) else (if x2 = 0 then (K143 w) else (K148 0 w))) (fun (w : gW) => K148 1 w)) (fun (y3 : Int32) (w : gW) => gguard (y3 = 0 ∨ y3 = 1) (some (.inr y3, w))))
set_option maxHeartbeats 4000000 in
set_option maxRecDepth 100000 in
theorem m_M_isIn (l : Launch) (hst : l.stackTraces = false) (D : gD) (g0 : gG) (a0 : Nat) (p1 : Int32) (p2 : Int64) (p3 : Int64) (w : gW) (r : (String ⊕ Int32) × gW) (h : f_M_isIn g0 a0 p1 p2 p3 w = some r) : gMet l y_M_isIn (.code y_M_isIn b_M_isIn 12 (some .boolean)) rm_M_isIn D g0 [.ref a0, .int p1, .long p2, .long p3] w (goI r) := by
  refine gw_ofZ (by decide +kernel) (Nat.le_of_ble_eq_true rfl) ?_
  intro p e s m below meth c ls args A Q hx hb hml hown hlocks hin hnt hT hK hZ hA hret hexc hthr hI hl
  obtain ⟨H, hH⟩ : ∃ H, H = s.heap := ⟨_, rfl⟩
  rw [← hH] at hI ⊢
  obtain ⟨locs, hlocs⟩ : ∃ z : List Loc, z = [] := ⟨_, rfl⟩
  rw [← hlocs] at hI ⊢
  have hl : lv_has ls 12 [(0, .ref a0), (1, .int p1), (2, .long p2), (4, .long p3)] := hl
  unfold f_M_isIn at h
  refine lv_iconst (v := 0) hx hb d_M_isIn_0 (by decide) ?_
  refine lv_istore (lv' := [(6, .int 0), (0, .ref a0), (1, .int p1), (2, .long p2), (4, .long p3)]) hx hb d_M_isIn_1 hl (by decide) rfl (fun ls hl => ?_)
  refine lv_iconst (v := 0) hx hb d_M_isIn_3 (by decide) ?_
  refine lv_istore (lv' := [(7, .int 0), (6, .int 0), (0, .ref a0), (1, .int p1), (2, .long p2), (4, .long p3)]) hx hb d_M_isIn_4 hl (by decide) rfl (fun ls hl => ?_)
  refine lv_iconst (v := 0) hx hb d_M_isIn_6 (by decide) ?_
  refine lv_istore (lv' := [(8, .int 0), (7, .int 0), (6, .int 0), (0, .ref a0), (1, .int p1), (2, .long p2), (4, .long p3)]) hx hb d_M_isIn_7 hl (by decide) rfl (fun ls hl => ?_)
  obtain ⟨K133, eK133, h⟩ := gj h
  have hK133 : ∀ (x1 : Int32) (x2 : Int32) (w : gW) (H : Heap) (locs : List Loc) (ls : Array Slot), K133 x1 x2 w = some r → gI D s A w H locs → lv_has ls 12 [(6, .int x1), (7, .int x2)] → W p l e rm_M_isIn s m args below meth c H locs 0 0 Q (F0 m 133 ls []) := by
    intro x1 x2 w H locs ls h hI hl
    have h := gk3 eK133 h
    refine lv_iload hx hb d_M_isIn_133 (lv_at hl 0 rfl) ?_
    obtain ⟨K148, eK148, h⟩ := gj h
    have hK148 : ∀ (y3 : Int32) (w : gW) (H : Heap) (locs : List Loc) (ls : Array Slot), K148 y3 w = some r → gI D s A w H locs → lv_has ls 12 [] → W p l e rm_M_isIn s m args below meth c H locs 0 0 Q (F0 m 148 ls [.int y3]) := by
      intro y3 w H locs ls h hI hl
      have h := gk2 eK148 h
      obtain ⟨g4, h⟩ := gif h
      exact W.widen (show 0 ≤ 0 by omega) (show 0 ≤ 0 by omega) (hret g4 0 _ (Option.some.inj h).symm _ _ _ _ d_M_isIn_148 hI)
    obtain ⟨K143, eK143, h⟩ := gj h
    have hK143 : ∀ (w : gW) (H : Heap) (locs : List Loc) (ls : Array Slot), K143 w = some r → gI D s A w H locs → lv_has ls 12 [] → W p l e rm_M_isIn s m args below meth c H locs 0 0 Q (F0 m 143 ls []) := by
      intro w H locs ls h hI hl
      have h := gk1 eK143 h
      refine lv_iconst (v := 1) hx hb d_M_isIn_143 (by decide) ?_
      refine lv_goto (tgt := 148) hx hb d_M_isIn_144 (by decide) ?_
      exact hK148 _ w H locs ls h hI (lv_sub hl [] rfl)
    refine lv_if_eq (tgt := 143) hx hb d_M_isIn_135 (by decide) (fun c5 => ?_) (fun c5 => ?_)
    · skip
      have h := git c5 h
      exact hK143 w H locs ls h hI (lv_sub hl [] rfl)
    · skip
      have h := gie c5 h
      refine lv_iload hx hb d_M_isIn_138 (lv_at hl 1 rfl) ?_
      refine lv_if_ne (tgt := 147) hx hb d_M_isIn_140 (by decide) (fun c6 => ?_) (fun c6 => ?_)
      · skip
        have h := gie c6 h
        refine lv_iconst (v := 0) hx hb d_M_isIn_147 (by decide) ?_
        exact hK148 _ w H locs ls h hI (lv_sub hl [] rfl)
      · skip
        have h := git c6 h
        exact hK143 w H locs ls h hI (lv_sub hl [] rfl)
  have hL9 : ∀ (n : Nat), ∀ (z7 : Int32) (z8 : Int32) (z9 : Int32) (w : gW) (H : Heap) (locs : List Loc) (ls : Array Slot), f_M_isIn_L9 g0 a0 p1 p2 p3 K133 n z7 z8 z9 w = some r → gI D s A w H locs → lv_has ls 12 [(0, .ref a0), (1, .int p1), (2, .long p2), (4, .long p3), (6, .int z7), (7, .int z8), (8, .int z9)] → W p l e rm_M_isIn s m args below meth c H locs 0 0 Q (F0 m 9 ls []) := by
    intro n
    induction n with
    | zero => intro z7 z8 z9 w H locs ls h hI hl; exact absurd h (by simp [f_M_isIn_L9])
    | succ n ih =>
      intro z7 z8 z9 w H locs ls h hI hl
      rw [f_M_isIn_L9] at h
      refine lv_iload hx hb d_M_isIn_9 (lv_at hl 6 rfl) ?_
      refine lv_aload_n hx hb d_M_isIn_11 rfl (lv_at hl 0 rfl) ?_
      obtain ⟨v10, e11, h⟩ := gb h
      refine gw_getA hx hb hT hown hK hI (ci := 7) rfl i_7 21 (by decide) wd_807 (fun _ h9 => h9) e11 d_M_isIn_12 ?_
      refine lv_iload_n hx hb d_M_isIn_15 rfl (lv_at hl 1 rfl) ?_
      obtain ⟨v12, e13, h⟩ := gb h
      refine gw_aldI hx hb hK hI e13 d_M_isIn_16 ?_
      refine lv_icmp_ge (tgt := 133) hx hb d_M_isIn_17 (by decide) (fun c14 => ?_) (fun c14 => ?_)
      · skip
        have h := git c14 h
        exact hK133 _ _ w H locs ls h hI (lv_sub hl [4, 5] rfl)
      · skip
        have h := gie c14 h
        refine lv_iload hx hb d_M_isIn_20 (lv_at hl 6 rfl) ?_
        refine lv_iconst (v := 1) hx hb d_M_isIn_22 (by decide) ?_
        refine lv_iadd hx hb d_M_isIn_23 ?_
        refine lv_aload_n hx hb d_M_isIn_24 rfl (lv_at hl 0 rfl) ?_
        obtain ⟨v15, e16, h⟩ := gb h
        refine gw_getA hx hb hT hown hK hI (ci := 7) rfl i_7 21 (by decide) wd_807 (fun _ h9 => h9) e16 d_M_isIn_25 ?_
        refine lv_iload_n hx hb d_M_isIn_28 rfl (lv_at hl 1 rfl) ?_
        obtain ⟨v17, e18, h⟩ := gb h
        refine gw_aldI hx hb hK hI e18 d_M_isIn_29 ?_
        obtain ⟨g19, h⟩ := gif h
        refine lv_irem hx hb d_M_isIn_30 g19 ?_
        refine lv_istore (lv' := [(9, .int ((z9 + 1) - (z9 + 1) / v17 * v17)), (0, .ref a0), (1, .int p1), (2, .long p2), (4, .long p3), (6, .int z7), (7, .int z8), (8, .int z9)]) hx hb d_M_isIn_31 hl (by decide) rfl (fun ls hl => ?_)
        refine lv_aload_n hx hb d_M_isIn_33 rfl (lv_at hl 1 rfl) ?_
        obtain ⟨v20, e21, h⟩ := gb h
        refine gw_getA hx hb hT hown hK hI (ci := 7) rfl i_7 22 (by decide) wd_808 (fun _ h9 => h9) e21 d_M_isIn_34 ?_
        refine lv_bipush (v := 8) hx hb d_M_isIn_37 (by decide) ?_
        refine lv_iload_n hx hb d_M_isIn_39 rfl (lv_at hl 2 rfl) ?_
        refine lv_imul hx hb d_M_isIn_40 ?_
        refine lv_iload hx hb d_M_isIn_41 (lv_at hl 7 rfl) ?_
        refine lv_iadd hx hb d_M_isIn_43 ?_
        obtain ⟨v22, e23, h⟩ := gb h
        refine gw_aldJ hx hb hK hI e23 d_M_isIn_44 ?_
        refine lv_aload_n hx hb d_M_isIn_45 rfl (lv_at hl 1 rfl) ?_
        obtain ⟨v24, e25, h⟩ := gb h
        refine gw_getA hx hb hT hown hK hI (ci := 7) rfl i_7 23 (by decide) wd_809 (fun _ h9 => h9) e25 d_M_isIn_46 ?_
        refine lv_bipush (v := 8) hx hb d_M_isIn_49 (by decide) ?_
        refine lv_iload_n hx hb d_M_isIn_51 rfl (lv_at hl 2 rfl) ?_
        refine lv_imul hx hb d_M_isIn_52 ?_
        refine lv_iload hx hb d_M_isIn_53 (lv_at hl 7 rfl) ?_
        refine lv_iadd hx hb d_M_isIn_55 ?_
        obtain ⟨v26, e27, h⟩ := gb h
        refine gw_aldJ hx hb hK hI e27 d_M_isIn_56 ?_
        refine lv_aload_n hx hb d_M_isIn_57 rfl (lv_at hl 1 rfl) ?_
        obtain ⟨v28, e29, h⟩ := gb h
        refine gw_getA hx hb hT hown hK hI (ci := 7) rfl i_7 22 (by decide) wd_808 (fun _ h9 => h9) e29 d_M_isIn_58 ?_
        refine lv_bipush (v := 8) hx hb d_M_isIn_61 (by decide) ?_
        refine lv_iload_n hx hb d_M_isIn_63 rfl (lv_at hl 2 rfl) ?_
        refine lv_imul hx hb d_M_isIn_64 ?_
        refine lv_iload hx hb d_M_isIn_65 (lv_at hl 0 rfl) ?_
        refine lv_iadd hx hb d_M_isIn_67 ?_
        obtain ⟨v30, e31, h⟩ := gb h
        refine gw_aldJ hx hb hK hI e31 d_M_isIn_68 ?_
        refine lv_aload_n hx hb d_M_isIn_69 rfl (lv_at hl 1 rfl) ?_
        obtain ⟨v32, e33, h⟩ := gb h
        refine gw_getA hx hb hT hown hK hI (ci := 7) rfl i_7 23 (by decide) wd_809 (fun _ h9 => h9) e33 d_M_isIn_70 ?_
        refine lv_bipush (v := 8) hx hb d_M_isIn_73 (by decide) ?_
        refine lv_iload_n hx hb d_M_isIn_75 rfl (lv_at hl 2 rfl) ?_
        refine lv_imul hx hb d_M_isIn_76 ?_
        refine lv_iload hx hb d_M_isIn_77 (lv_at hl 0 rfl) ?_
        refine lv_iadd hx hb d_M_isIn_79 ?_
        obtain ⟨v34, e35, h⟩ := gb h
        refine gw_aldJ hx hb hK hI e35 d_M_isIn_80 ?_
        refine lv_lload_n hx hb d_M_isIn_81 rfl (lv_at hl 3 rfl) ?_
        refine lv_lload hx hb d_M_isIn_82 (lv_at hl 4 rfl) ?_
        obtain ⟨u36, e37⟩ := gsome h
        refine gw_callJ e37 h (gw_runS (As := [.long v22, .long v26, .long v30, .long v34, .long p2, .long p3]) (rest := []) hx hb hml hown hT hK hZ hA hI (m_M_cross l hst D g0 v22 v26 v30 v34 p2 p3 w u36 e37) ce_M_cross wd_922 ⟨by decide, by decide⟩ rfl rfl hl.1 rfl (lv_room (Nat.le_of_ble_eq_true rfl)) d_M_isIn_84 ⟨(show 0 + 0 ≤ 0 by omega), (show 0 + 0 ≤ 0 by omega)⟩) hI hA hexc (show 0 + 0 ≤ 0 by omega) (show 0 + 0 ≤ 0 by omega) (fun v38 w H locs h hI => ?_)
        refine lv_lstore (lv' := [(10, .long v38), (9, .int ((z9 + 1) - (z9 + 1) / v17 * v17)), (0, .ref a0), (1, .int p1), (2, .long p2), (4, .long p3), (6, .int z7), (7, .int z8), (8, .int z9)]) hx hb d_M_isIn_87 hl (by decide) rfl (fun ls hl => ?_)
        refine lv_iload hx hb d_M_isIn_89 (lv_at hl 6 rfl) ?_
        obtain ⟨K106, eK106, h⟩ := gj h
        have hK106 : ∀ (y39 : Int32) (w : gW) (H : Heap) (locs : List Loc) (ls : Array Slot), K106 y39 w = some r → gI D s A w H locs → lv_has ls 12 [(0, .ref a0), (1, .int p1), (2, .long p2), (4, .long p3), (7, .int z8), (8, .int z9), (10, .long v38)] → W p l e rm_M_isIn s m args below meth c H locs 0 0 Q (F0 m 106 ls [.int y39]) := by
          intro y39 w H locs ls h hI hl
          have h := gk2 eK106 h
          refine lv_istore (lv' := [(6, .int y39), (0, .ref a0), (1, .int p1), (2, .long p2), (4, .long p3), (7, .int z8), (8, .int z9), (10, .long v38)]) hx hb d_M_isIn_106 hl (by decide) rfl (fun ls hl => ?_)
          refine lv_iload hx hb d_M_isIn_108 (lv_at hl 5 rfl) ?_
          obtain ⟨K125, eK125, h⟩ := gj h
          have hK125 : ∀ (y40 : Int32) (w : gW) (H : Heap) (locs : List Loc) (ls : Array Slot), K125 y40 w = some r → gI D s A w H locs → lv_has ls 12 [(0, .ref a0), (1, .int p1), (2, .long p2), (4, .long p3), (6, .int y39), (8, .int z9)] → W p l e rm_M_isIn s m args below meth c H locs 0 0 Q (F0 m 125 ls [.int y40]) := by
            intro y40 w H locs ls h hI hl
            have h := gk2 eK125 h
            refine lv_istore (lv' := [(7, .int y40), (0, .ref a0), (1, .int p1), (2, .long p2), (4, .long p3), (6, .int y39), (8, .int z9)]) hx hb d_M_isIn_125 hl (by decide) rfl (fun ls hl => ?_)
            refine lv_iinc (v := z9 + 1) (lv' := [(8, .int (z9 + 1)), (7, .int y40), (0, .ref a0), (1, .int p1), (2, .long p2), (4, .long p3), (6, .int y39)]) hx hb d_M_isIn_127 hl (k := 6) rfl rfl (by decide) rfl (fun ls hl => ?_)
            refine lv_goto (tgt := 9) hx hb d_M_isIn_130 (by decide) ?_
            exact ih _ _ _ w H locs ls h hI (lv_sub hl [2, 3, 4, 5, 6, 1, 0] rfl)
          obtain ⟨K120, eK120, h⟩ := gj h
          have hK120 : ∀ (w : gW) (H : Heap) (locs : List Loc) (ls : Array Slot), K120 w = some r → gI D s A w H locs → lv_has ls 12 [(0, .ref a0), (1, .int p1), (2, .long p2), (4, .long p3), (6, .int y39), (8, .int z9)] → W p l e rm_M_isIn s m args below meth c H locs 0 0 Q (F0 m 120 ls []) := by
            intro w H locs ls h hI hl
            have h := gk1 eK120 h
            refine lv_iconst (v := 1) hx hb d_M_isIn_120 (by decide) ?_
            refine lv_goto (tgt := 125) hx hb d_M_isIn_121 (by decide) ?_
            exact hK125 _ w H locs ls h hI (lv_sub hl [0, 1, 2, 3, 4, 5] rfl)
          refine lv_if_ne (tgt := 120) hx hb d_M_isIn_110 (by decide) (fun c41 => ?_) (fun c41 => ?_)
          · skip
            have h := gie c41 h
            exact hK120 w H locs ls h hI (lv_sub hl [1, 2, 3, 4, 0, 6] rfl)
          · skip
            have h := git c41 h
            refine lv_lload hx hb d_M_isIn_113 (lv_at hl 7 rfl) ?_
            refine lv_lconst (v := 0) hx hb d_M_isIn_115 (by decide) ?_
            refine W.lcmp hx hb d_M_isIn_116 ?_
            refine lv_if_ge (tgt := 124) hx hb d_M_isIn_117 (by decide) (fun c42 => ?_) (fun c42 => ?_)
            · have c42 := (lg_cmp_ge _ _).mp c42
              have h := git c42 h
              refine lv_iconst (v := 0) hx hb d_M_isIn_124 (by decide) ?_
              exact hK125 _ w H locs ls h hI (lv_sub hl [1, 2, 3, 4, 0, 6] rfl)
            · have c42 := mt (lg_cmp_ge _ _).mpr c42
              have h := gie c42 h
              exact hK120 w H locs ls h hI (lv_sub hl [1, 2, 3, 4, 0, 6] rfl)
        obtain ⟨K101, eK101, h⟩ := gj h
        have hK101 : ∀ (w : gW) (H : Heap) (locs : List Loc) (ls : Array Slot), K101 w = some r → gI D s A w H locs → lv_has ls 12 [(0, .ref a0), (1, .int p1), (2, .long p2), (4, .long p3), (7, .int z8), (8, .int z9), (10, .long v38)] → W p l e rm_M_isIn s m args below meth c H locs 0 0 Q (F0 m 101 ls []) := by
          intro w H locs ls h hI hl
          have h := gk1 eK101 h
          refine lv_iconst (v := 1) hx hb d_M_isIn_101 (by decide) ?_
          refine lv_goto (tgt := 106) hx hb d_M_isIn_102 (by decide) ?_
          exact hK106 _ w H locs ls h hI (lv_sub hl [0, 1, 2, 3, 4, 5, 6] rfl)
        refine lv_if_ne (tgt := 101) hx hb d_M_isIn_91 (by decide) (fun c43 => ?_) (fun c43 => ?_)
        · skip
          have h := gie c43 h
          exact hK101 w H locs ls h hI (lv_sub hl [2, 3, 4, 5, 7, 8, 0] rfl)
        · skip
          have h := git c43 h
          refine lv_lload hx hb d_M_isIn_94 (lv_at hl 0 rfl) ?_
          refine lv_lconst (v := 0) hx hb d_M_isIn_96 (by decide) ?_
          refine W.lcmp hx hb d_M_isIn_97 ?_
          refine lv_if_le (tgt := 105) hx hb d_M_isIn_98 (by decide) (fun c44 => ?_) (fun c44 => ?_)
          · have c44 := (lg_cmp_le _ _).mp c44
            have h := git c44 h
            refine lv_iconst (v := 0) hx hb d_M_isIn_105 (by decide) ?_
            exact hK106 _ w H locs ls h hI (lv_sub hl [2, 3, 4, 5, 7, 8, 0] rfl)
          · have c44 := mt (lg_cmp_le _ _).mpr c44
            have h := gie c44 h
            exact hK101 w H locs ls h hI (lv_sub hl [2, 3, 4, 5, 7, 8, 0] rfl)
  exact hL9 64 _ _ _ w H locs ls h hI (lv_sub hl [3, 4, 5, 6, 2, 1, 0] rfl)

abbrev b_M_fromPiece : ByteArray := prog_9_method_39_code
def y_M_fromPiece : MethodName := ⟨"BodySolidsModel", "fromPiece", "(JJJJJJJ)I"⟩
theorem d_M_fromPiece_0 : decode b_M_fromPiece 0 = .ok (.lload_n 0, 1) := by decide +kernel
theorem d_M_fromPiece_1 : decode b_M_fromPiece 1 = .ok (.lload 4, 2) := by decide +kernel
theorem d_M_fromPiece_3 : decode b_M_fromPiece 3 = .ok (.lsub, 1) := by decide +kernel
theorem d_M_fromPiece_4 : decode b_M_fromPiece 4 = .ok (.lload 8, 2) := by decide +kernel
theorem d_M_fromPiece_6 : decode b_M_fromPiece 6 = .ok (.lload 4, 2) := by decide +kernel
theorem d_M_fromPiece_8 : decode b_M_fromPiece 8 = .ok (.lsub, 1) := by decide +kernel
theorem d_M_fromPiece_9 : decode b_M_fromPiece 9 = .ok (.lmul, 1) := by decide +kernel
theorem d_M_fromPiece_10 : decode b_M_fromPiece 10 = .ok (.lload_n 2, 1) := by decide +kernel
theorem d_M_fromPiece_11 : decode b_M_fromPiece 11 = .ok (.lload 6, 2) := by decide +kernel
theorem d_M_fromPiece_13 : decode b_M_fromPiece 13 = .ok (.lsub, 1) := by decide +kernel
theorem d_M_fromPiece_14 : decode b_M_fromPiece 14 = .ok (.lload 10, 2) := by decide +kernel
theorem d_M_fromPiece_16 : decode b_M_fromPiece 16 = .ok (.lload 6, 2) := by decide +kernel
theorem d_M_fromPiece_18 : decode b_M_fromPiece 18 = .ok (.lsub, 1) := by decide +kernel
theorem d_M_fromPiece_19 : decode b_M_fromPiece 19 = .ok (.lmul, 1) := by decide +kernel
theorem d_M_fromPiece_20 : decode b_M_fromPiece 20 = .ok (.ladd, 1) := by decide +kernel
theorem d_M_fromPiece_21 : decode b_M_fromPiece 21 = .ok (.lstore 14, 2) := by decide +kernel
theorem d_M_fromPiece_23 : decode b_M_fromPiece 23 = .ok (.lload 8, 2) := by decide +kernel
theorem d_M_fromPiece_25 : decode b_M_fromPiece 25 = .ok (.lload 4, 2) := by decide +kernel
theorem d_M_fromPiece_27 : decode b_M_fromPiece 27 = .ok (.lsub, 1) := by decide +kernel
theorem d_M_fromPiece_28 : decode b_M_fromPiece 28 = .ok (.lload 10, 2) := by decide +kernel
theorem d_M_fromPiece_30 : decode b_M_fromPiece 30 = .ok (.lload 6, 2) := by decide +kernel
theorem d_M_fromPiece_32 : decode b_M_fromPiece 32 = .ok (.lsub, 1) := by decide +kernel
theorem d_M_fromPiece_33 : decode b_M_fromPiece 33 = .ok (.invokestatic 194, 3) := by decide +kernel
theorem d_M_fromPiece_36 : decode b_M_fromPiece 36 = .ok (.lstore 16, 2) := by decide +kernel
theorem d_M_fromPiece_38 : decode b_M_fromPiece 38 = .ok (.lload 14, 2) := by decide +kernel
theorem d_M_fromPiece_40 : decode b_M_fromPiece 40 = .ok (.lconst 0, 1) := by decide +kernel
theorem d_M_fromPiece_41 : decode b_M_fromPiece 41 = .ok (.lcmp, 1) := by decide +kernel
theorem d_M_fromPiece_42 : decode b_M_fromPiece 42 = .ok (.ifCond .gt 21, 3) := by decide +kernel
theorem d_M_fromPiece_45 : decode b_M_fromPiece 45 = .ok (.lload_n 0, 1) := by decide +kernel
theorem d_M_fromPiece_46 : decode b_M_fromPiece 46 = .ok (.lload 4, 2) := by decide +kernel
theorem d_M_fromPiece_48 : decode b_M_fromPiece 48 = .ok (.lsub, 1) := by decide +kernel
theorem d_M_fromPiece_49 : decode b_M_fromPiece 49 = .ok (.lload_n 2, 1) := by decide +kernel
theorem d_M_fromPiece_50 : decode b_M_fromPiece 50 = .ok (.lload 6, 2) := by decide +kernel
theorem d_M_fromPiece_52 : decode b_M_fromPiece 52 = .ok (.lsub, 1) := by decide +kernel
theorem d_M_fromPiece_53 : decode b_M_fromPiece 53 = .ok (.invokestatic 194, 3) := by decide +kernel
theorem d_M_fromPiece_56 : decode b_M_fromPiece 56 = .ok (.lload 12, 2) := by decide +kernel
theorem d_M_fromPiece_58 : decode b_M_fromPiece 58 = .ok (.lsub, 1) := by decide +kernel
theorem d_M_fromPiece_59 : decode b_M_fromPiece 59 = .ok (.invokestatic 186, 3) := by decide +kernel
theorem d_M_fromPiece_62 : decode b_M_fromPiece 62 = .ok (.ireturn, 1) := by decide +kernel
theorem d_M_fromPiece_63 : decode b_M_fromPiece 63 = .ok (.lload 14, 2) := by decide +kernel
theorem d_M_fromPiece_65 : decode b_M_fromPiece 65 = .ok (.lload 16, 2) := by decide +kernel
theorem d_M_fromPiece_67 : decode b_M_fromPiece 67 = .ok (.lcmp, 1) := by decide +kernel
theorem d_M_fromPiece_68 : decode b_M_fromPiece 68 = .ok (.ifCond .lt 21, 3) := by decide +kernel
theorem d_M_fromPiece_71 : decode b_M_fromPiece 71 = .ok (.lload_n 0, 1) := by decide +kernel
theorem d_M_fromPiece_72 : decode b_M_fromPiece 72 = .ok (.lload 8, 2) := by decide +kernel
theorem d_M_fromPiece_74 : decode b_M_fromPiece 74 = .ok (.lsub, 1) := by decide +kernel
theorem d_M_fromPiece_75 : decode b_M_fromPiece 75 = .ok (.lload_n 2, 1) := by decide +kernel
theorem d_M_fromPiece_76 : decode b_M_fromPiece 76 = .ok (.lload 10, 2) := by decide +kernel
theorem d_M_fromPiece_78 : decode b_M_fromPiece 78 = .ok (.lsub, 1) := by decide +kernel
theorem d_M_fromPiece_79 : decode b_M_fromPiece 79 = .ok (.invokestatic 194, 3) := by decide +kernel
theorem d_M_fromPiece_82 : decode b_M_fromPiece 82 = .ok (.lload 12, 2) := by decide +kernel
theorem d_M_fromPiece_84 : decode b_M_fromPiece 84 = .ok (.lsub, 1) := by decide +kernel
theorem d_M_fromPiece_85 : decode b_M_fromPiece 85 = .ok (.invokestatic 186, 3) := by decide +kernel
theorem d_M_fromPiece_88 : decode b_M_fromPiece 88 = .ok (.ireturn, 1) := by decide +kernel
theorem d_M_fromPiece_89 : decode b_M_fromPiece 89 = .ok (.lload 4, 2) := by decide +kernel
theorem d_M_fromPiece_91 : decode b_M_fromPiece 91 = .ok (.lload 6, 2) := by decide +kernel
theorem d_M_fromPiece_93 : decode b_M_fromPiece 93 = .ok (.lload 8, 2) := by decide +kernel
theorem d_M_fromPiece_95 : decode b_M_fromPiece 95 = .ok (.lload 10, 2) := by decide +kernel
theorem d_M_fromPiece_97 : decode b_M_fromPiece 97 = .ok (.lload_n 0, 1) := by decide +kernel
theorem d_M_fromPiece_98 : decode b_M_fromPiece 98 = .ok (.lload_n 2, 1) := by decide +kernel
theorem d_M_fromPiece_99 : decode b_M_fromPiece 99 = .ok (.invokestatic 124, 3) := by decide +kernel
theorem d_M_fromPiece_102 : decode b_M_fromPiece 102 = .ok (.lstore 18, 2) := by decide +kernel
theorem d_M_fromPiece_104 : decode b_M_fromPiece 104 = .ok (.lload 18, 2) := by decide +kernel
theorem d_M_fromPiece_106 : decode b_M_fromPiece 106 = .ok (.lload 18, 2) := by decide +kernel
theorem d_M_fromPiece_108 : decode b_M_fromPiece 108 = .ok (.lmul, 1) := by decide +kernel
theorem d_M_fromPiece_109 : decode b_M_fromPiece 109 = .ok (.lload 12, 2) := by decide +kernel
theorem d_M_fromPiece_111 : decode b_M_fromPiece 111 = .ok (.lload 16, 2) := by decide +kernel
theorem d_M_fromPiece_113 : decode b_M_fromPiece 113 = .ok (.lmul, 1) := by decide +kernel
theorem d_M_fromPiece_114 : decode b_M_fromPiece 114 = .ok (.lsub, 1) := by decide +kernel
theorem d_M_fromPiece_115 : decode b_M_fromPiece 115 = .ok (.invokestatic 186, 3) := by decide +kernel
theorem d_M_fromPiece_118 : decode b_M_fromPiece 118 = .ok (.ireturn, 1) := by decide +kernel
abbrev rm_M_fromPiece : Room := { frames := 1, cells := 0, slots := 0, locals := 31 }
theorem ce_M_fromPiece : gCe y_M_fromPiece (.code y_M_fromPiece b_M_fromPiece 20 (some .int)) 20 7 true := gCe.code wd_1050 wd_57 wd_1049 (by decide) (by decide +kernel)
def f_M_fromPiece (g0 : gG) (p0 : Int64) (p1 : Int64) (p2 : Int64) (p3 : Int64) (p4 : Int64) (p5 : Int64) (p6 : Int64) (w : gW) : gX Int32 := gbind (f_M_square g0 (p4 - p2) (p5 - p3) w) fun v3 w => if 0 < (((p0 - p2) * (p4 - p2)) + ((p1 - p3) * (p5 - p3))) then (if (((p0 - p2) * (p4 - p2)) + ((p1 - p3) * (p5 - p3))) < v3 then (gbind (f_M_cross g0 p2 p3 p4 p5 p0 p1 w) fun v8 w => gbind (f_M_common g0 ((v8 * v8) - (p6 * v3)) w) fun v11 w => some (.inr v11, w)) else (gbind (f_M_square g0 (p0 - p4) (p1 - p5) w) fun v14 w => gbind (f_M_common g0 (v14 - p6) w) fun v17 w => some (.inr v17, w))) else (gbind (f_M_square g0 (p0 - p2) (p1 - p3) w) fun v20 w => gbind (f_M_common g0 (v20 - p6) w) fun v23 w => some (.inr v23, w))
set_option maxHeartbeats 4000000 in
set_option maxRecDepth 100000 in
theorem m_M_fromPiece (l : Launch) (hst : l.stackTraces = false) (D : gD) (g0 : gG) (p0 : Int64) (p1 : Int64) (p2 : Int64) (p3 : Int64) (p4 : Int64) (p5 : Int64) (p6 : Int64) (w : gW) (r : (String ⊕ Int32) × gW) (h : f_M_fromPiece g0 p0 p1 p2 p3 p4 p5 p6 w = some r) : gMet l y_M_fromPiece (.code y_M_fromPiece b_M_fromPiece 20 (some .int)) rm_M_fromPiece D g0 [.long p0, .long p1, .long p2, .long p3, .long p4, .long p5, .long p6] w (goI r) := by
  refine gw_ofI (by decide +kernel) (Nat.le_of_ble_eq_true rfl) ?_
  intro p e s m below meth c ls args A Q hx hb hml hown hlocks hin hnt hT hK hZ hA hret hexc hthr hI hl
  obtain ⟨H, hH⟩ : ∃ H, H = s.heap := ⟨_, rfl⟩
  rw [← hH] at hI ⊢
  obtain ⟨locs, hlocs⟩ : ∃ z : List Loc, z = [] := ⟨_, rfl⟩
  rw [← hlocs] at hI ⊢
  have hl : lv_has ls 20 [(0, .long p0), (2, .long p1), (4, .long p2), (6, .long p3), (8, .long p4), (10, .long p5), (12, .long p6)] := hl
  unfold f_M_fromPiece at h
  refine lv_lload_n hx hb d_M_fromPiece_0 rfl (lv_at hl 0 rfl) ?_
  refine lv_lload hx hb d_M_fromPiece_1 (lv_at hl 2 rfl) ?_
  refine lv_lsub hx hb d_M_fromPiece_3 ?_
  refine lv_lload hx hb d_M_fromPiece_4 (lv_at hl 4 rfl) ?_
  refine lv_lload hx hb d_M_fromPiece_6 (lv_at hl 2 rfl) ?_
  refine lv_lsub hx hb d_M_fromPiece_8 ?_
  refine lv_lmul hx hb d_M_fromPiece_9 ?_
  refine lv_lload_n hx hb d_M_fromPiece_10 rfl (lv_at hl 1 rfl) ?_
  refine lv_lload hx hb d_M_fromPiece_11 (lv_at hl 3 rfl) ?_
  refine lv_lsub hx hb d_M_fromPiece_13 ?_
  refine lv_lload hx hb d_M_fromPiece_14 (lv_at hl 5 rfl) ?_
  refine lv_lload hx hb d_M_fromPiece_16 (lv_at hl 3 rfl) ?_
  refine lv_lsub hx hb d_M_fromPiece_18 ?_
  refine lv_lmul hx hb d_M_fromPiece_19 ?_
  refine lv_ladd hx hb d_M_fromPiece_20 ?_
  refine lv_lstore (lv' := [(14, .long (((p0 - p2) * (p4 - p2)) + ((p1 - p3) * (p5 - p3)))), (0, .long p0), (2, .long p1), (4, .long p2), (6, .long p3), (8, .long p4), (10, .long p5), (12, .long p6)]) hx hb d_M_fromPiece_21 hl (by decide) rfl (fun ls hl => ?_)
  refine lv_lload hx hb d_M_fromPiece_23 (lv_at hl 5 rfl) ?_
  refine lv_lload hx hb d_M_fromPiece_25 (lv_at hl 3 rfl) ?_
  refine lv_lsub hx hb d_M_fromPiece_27 ?_
  refine lv_lload hx hb d_M_fromPiece_28 (lv_at hl 6 rfl) ?_
  refine lv_lload hx hb d_M_fromPiece_30 (lv_at hl 4 rfl) ?_
  refine lv_lsub hx hb d_M_fromPiece_32 ?_
  obtain ⟨u1, e2⟩ := gsome h
  refine gw_callJ e2 h (gw_runS (As := [.long (p4 - p2), .long (p5 - p3)]) (rest := []) hx hb hml hown hT hK hZ hA hI (m_M_square l hst D g0 (p4 - p2) (p5 - p3) w u1 e2) ce_M_square wd_1025 ⟨by decide, by decide⟩ rfl rfl hl.1 rfl (lv_room (Nat.le_of_ble_eq_true rfl)) d_M_fromPiece_33 ⟨(show 0 + 0 ≤ 0 by omega), (show 0 + 0 ≤ 0 by omega)⟩) hI hA hexc (show 0 + 0 ≤ 0 by omega) (show 0 + 0 ≤ 0 by omega) (fun v3 w H locs h hI => ?_)
  refine lv_lstore (lv' := [(16, .long v3), (14, .long (((p0 - p2) * (p4 - p2)) + ((p1 - p3) * (p5 - p3)))), (0, .long p0), (2, .long p1), (4, .long p2), (6, .long p3), (8, .long p4), (10, .long p5), (12, .long p6)]) hx hb d_M_fromPiece_36 hl (by decide) rfl (fun ls hl => ?_)
  refine lv_lload hx hb d_M_fromPiece_38 (lv_at hl 1 rfl) ?_
  refine lv_lconst (v := 0) hx hb d_M_fromPiece_40 (by decide) ?_
  refine W.lcmp hx hb d_M_fromPiece_41 ?_
  refine lv_if_gt (tgt := 63) hx hb d_M_fromPiece_42 (by decide) (fun c4 => ?_) (fun c4 => ?_)
  · have c4 := (lg_cmp_gt _ _).mp c4
    have h := git c4 h
    refine lv_lload hx hb d_M_fromPiece_63 (lv_at hl 1 rfl) ?_
    refine lv_lload hx hb d_M_fromPiece_65 (lv_at hl 0 rfl) ?_
    refine W.lcmp hx hb d_M_fromPiece_67 ?_
    refine lv_if_lt (tgt := 89) hx hb d_M_fromPiece_68 (by decide) (fun c5 => ?_) (fun c5 => ?_)
    · have c5 := (lg_cmp_lt _ _).mp c5
      have h := git c5 h
      refine lv_lload hx hb d_M_fromPiece_89 (lv_at hl 4 rfl) ?_
      refine lv_lload hx hb d_M_fromPiece_91 (lv_at hl 5 rfl) ?_
      refine lv_lload hx hb d_M_fromPiece_93 (lv_at hl 6 rfl) ?_
      refine lv_lload hx hb d_M_fromPiece_95 (lv_at hl 7 rfl) ?_
      refine lv_lload_n hx hb d_M_fromPiece_97 rfl (lv_at hl 2 rfl) ?_
      refine lv_lload_n hx hb d_M_fromPiece_98 rfl (lv_at hl 3 rfl) ?_
      obtain ⟨u6, e7⟩ := gsome h
      refine gw_callJ e7 h (gw_runS (As := [.long p2, .long p3, .long p4, .long p5, .long p0, .long p1]) (rest := []) hx hb hml hown hT hK hZ hA hI (m_M_cross l hst D g0 p2 p3 p4 p5 p0 p1 w u6 e7) ce_M_cross wd_922 ⟨by decide, by decide⟩ rfl rfl hl.1 rfl (lv_room (Nat.le_of_ble_eq_true rfl)) d_M_fromPiece_99 ⟨(show 0 + 0 ≤ 0 by omega), (show 0 + 0 ≤ 0 by omega)⟩) hI hA hexc (show 0 + 0 ≤ 0 by omega) (show 0 + 0 ≤ 0 by omega) (fun v8 w H locs h hI => ?_)
      refine lv_lstore (lv' := [(18, .long v8), (16, .long v3), (14, .long (((p0 - p2) * (p4 - p2)) + ((p1 - p3) * (p5 - p3)))), (0, .long p0), (2, .long p1), (4, .long p2), (6, .long p3), (8, .long p4), (10, .long p5), (12, .long p6)]) hx hb d_M_fromPiece_102 hl (by decide) rfl (fun ls hl => ?_)
      refine lv_lload hx hb d_M_fromPiece_104 (lv_at hl 0 rfl) ?_
      refine lv_lload hx hb d_M_fromPiece_106 (lv_at hl 0 rfl) ?_
      refine lv_lmul hx hb d_M_fromPiece_108 ?_
      refine lv_lload hx hb d_M_fromPiece_109 (lv_at hl 9 rfl) ?_
      refine lv_lload hx hb d_M_fromPiece_111 (lv_at hl 1 rfl) ?_
      refine lv_lmul hx hb d_M_fromPiece_113 ?_
      refine lv_lsub hx hb d_M_fromPiece_114 ?_
      obtain ⟨u9, e10⟩ := gsome h
      refine gw_callI e10 h (gw_runS (As := [.long ((v8 * v8) - (p6 * v3))]) (rest := []) hx hb hml hown hT hK hZ hA hI (m_M_common l hst D g0 ((v8 * v8) - (p6 * v3)) w u9 e10) ce_M_common wd_1028 ⟨by decide, by decide⟩ rfl rfl hl.1 rfl (lv_room (Nat.le_of_ble_eq_true rfl)) d_M_fromPiece_115 ⟨(show 0 + 0 ≤ 0 by omega), (show 0 + 0 ≤ 0 by omega)⟩) hI hA hexc (show 0 + 0 ≤ 0 by omega) (show 0 + 0 ≤ 0 by omega) (fun v11 w H locs h hI => ?_)
      exact W.widen (show 0 ≤ 0 by omega) (show 0 ≤ 0 by omega) (hret _ _ (Option.some.inj h).symm _ _ _ _ d_M_fromPiece_118 hI)
    · have c5 := mt (lg_cmp_lt _ _).mpr c5
      have h := gie c5 h
      refine lv_lload_n hx hb d_M_fromPiece_71 rfl (lv_at hl 2 rfl) ?_
      refine lv_lload hx hb d_M_fromPiece_72 (lv_at hl 6 rfl) ?_
      refine lv_lsub hx hb d_M_fromPiece_74 ?_
      refine lv_lload_n hx hb d_M_fromPiece_75 rfl (lv_at hl 3 rfl) ?_
      refine lv_lload hx hb d_M_fromPiece_76 (lv_at hl 7 rfl) ?_
      refine lv_lsub hx hb d_M_fromPiece_78 ?_
      obtain ⟨u12, e13⟩ := gsome h
      refine gw_callJ e13 h (gw_runS (As := [.long (p0 - p4), .long (p1 - p5)]) (rest := []) hx hb hml hown hT hK hZ hA hI (m_M_square l hst D g0 (p0 - p4) (p1 - p5) w u12 e13) ce_M_square wd_1025 ⟨by decide, by decide⟩ rfl rfl hl.1 rfl (lv_room (Nat.le_of_ble_eq_true rfl)) d_M_fromPiece_79 ⟨(show 0 + 0 ≤ 0 by omega), (show 0 + 0 ≤ 0 by omega)⟩) hI hA hexc (show 0 + 0 ≤ 0 by omega) (show 0 + 0 ≤ 0 by omega) (fun v14 w H locs h hI => ?_)
      refine lv_lload hx hb d_M_fromPiece_82 (lv_at hl 8 rfl) ?_
      refine lv_lsub hx hb d_M_fromPiece_84 ?_
      obtain ⟨u15, e16⟩ := gsome h
      refine gw_callI e16 h (gw_runS (As := [.long (v14 - p6)]) (rest := []) hx hb hml hown hT hK hZ hA hI (m_M_common l hst D g0 (v14 - p6) w u15 e16) ce_M_common wd_1028 ⟨by decide, by decide⟩ rfl rfl hl.1 rfl (lv_room (Nat.le_of_ble_eq_true rfl)) d_M_fromPiece_85 ⟨(show 0 + 0 ≤ 0 by omega), (show 0 + 0 ≤ 0 by omega)⟩) hI hA hexc (show 0 + 0 ≤ 0 by omega) (show 0 + 0 ≤ 0 by omega) (fun v17 w H locs h hI => ?_)
      exact W.widen (show 0 ≤ 0 by omega) (show 0 ≤ 0 by omega) (hret _ _ (Option.some.inj h).symm _ _ _ _ d_M_fromPiece_88 hI)
  · have c4 := mt (lg_cmp_gt _ _).mpr c4
    have h := gie c4 h
    refine lv_lload_n hx hb d_M_fromPiece_45 rfl (lv_at hl 2 rfl) ?_
    refine lv_lload hx hb d_M_fromPiece_46 (lv_at hl 4 rfl) ?_
    refine lv_lsub hx hb d_M_fromPiece_48 ?_
    refine lv_lload_n hx hb d_M_fromPiece_49 rfl (lv_at hl 3 rfl) ?_
    refine lv_lload hx hb d_M_fromPiece_50 (lv_at hl 5 rfl) ?_
    refine lv_lsub hx hb d_M_fromPiece_52 ?_
    obtain ⟨u18, e19⟩ := gsome h
    refine gw_callJ e19 h (gw_runS (As := [.long (p0 - p2), .long (p1 - p3)]) (rest := []) hx hb hml hown hT hK hZ hA hI (m_M_square l hst D g0 (p0 - p2) (p1 - p3) w u18 e19) ce_M_square wd_1025 ⟨by decide, by decide⟩ rfl rfl hl.1 rfl (lv_room (Nat.le_of_ble_eq_true rfl)) d_M_fromPiece_53 ⟨(show 0 + 0 ≤ 0 by omega), (show 0 + 0 ≤ 0 by omega)⟩) hI hA hexc (show 0 + 0 ≤ 0 by omega) (show 0 + 0 ≤ 0 by omega) (fun v20 w H locs h hI => ?_)
    refine lv_lload hx hb d_M_fromPiece_56 (lv_at hl 8 rfl) ?_
    refine lv_lsub hx hb d_M_fromPiece_58 ?_
    obtain ⟨u21, e22⟩ := gsome h
    refine gw_callI e22 h (gw_runS (As := [.long (v20 - p6)]) (rest := []) hx hb hml hown hT hK hZ hA hI (m_M_common l hst D g0 (v20 - p6) w u21 e22) ce_M_common wd_1028 ⟨by decide, by decide⟩ rfl rfl hl.1 rfl (lv_room (Nat.le_of_ble_eq_true rfl)) d_M_fromPiece_59 ⟨(show 0 + 0 ≤ 0 by omega), (show 0 + 0 ≤ 0 by omega)⟩) hI hA hexc (show 0 + 0 ≤ 0 by omega) (show 0 + 0 ≤ 0 by omega) (fun v23 w H locs h hI => ?_)
    exact W.widen (show 0 ≤ 0 by omega) (show 0 ≤ 0 by omega) (hret _ _ (Option.some.inj h).symm _ _ _ _ d_M_fromPiece_62 hI)

abbrev b_M_fromPolygon : ByteArray := prog_9_method_40_code
def y_M_fromPolygon : MethodName := ⟨"BodySolidsModel", "fromPolygon", "(IJJJ)I"⟩
theorem d_M_fromPolygon_0 : decode b_M_fromPolygon 0 = .ok (.aload_n 0, 1) := by decide +kernel
theorem d_M_fromPolygon_1 : decode b_M_fromPolygon 1 = .ok (.iload_n 1, 1) := by decide +kernel
theorem d_M_fromPolygon_2 : decode b_M_fromPolygon 2 = .ok (.lload_n 2, 1) := by decide +kernel
theorem d_M_fromPolygon_3 : decode b_M_fromPolygon 3 = .ok (.lload 4, 2) := by decide +kernel
theorem d_M_fromPolygon_5 : decode b_M_fromPolygon 5 = .ok (.invokevirtual 198, 3) := by decide +kernel
theorem d_M_fromPolygon_8 : decode b_M_fromPolygon 8 = .ok (.ifCond .eq 11, 3) := by decide +kernel
theorem d_M_fromPolygon_11 : decode b_M_fromPolygon 11 = .ok (.lconst 0, 1) := by decide +kernel
theorem d_M_fromPolygon_12 : decode b_M_fromPolygon 12 = .ok (.lload 6, 2) := by decide +kernel
theorem d_M_fromPolygon_14 : decode b_M_fromPolygon 14 = .ok (.lsub, 1) := by decide +kernel
theorem d_M_fromPolygon_15 : decode b_M_fromPolygon 15 = .ok (.invokestatic 186, 3) := by decide +kernel
theorem d_M_fromPolygon_18 : decode b_M_fromPolygon 18 = .ok (.ireturn, 1) := by decide +kernel
theorem d_M_fromPolygon_19 : decode b_M_fromPolygon 19 = .ok (.iconst 0, 1) := by decide +kernel
theorem d_M_fromPolygon_20 : decode b_M_fromPolygon 20 = .ok (.istore 8, 2) := by decide +kernel
theorem d_M_fromPolygon_22 : decode b_M_fromPolygon 22 = .ok (.iconst 0, 1) := by decide +kernel
theorem d_M_fromPolygon_23 : decode b_M_fromPolygon 23 = .ok (.istore 9, 2) := by decide +kernel
theorem d_M_fromPolygon_25 : decode b_M_fromPolygon 25 = .ok (.iload 9, 2) := by decide +kernel
theorem d_M_fromPolygon_27 : decode b_M_fromPolygon 27 = .ok (.aload_n 0, 1) := by decide +kernel
theorem d_M_fromPolygon_28 : decode b_M_fromPolygon 28 = .ok (.getfield 56, 3) := by decide +kernel
theorem d_M_fromPolygon_31 : decode b_M_fromPolygon 31 = .ok (.iload_n 1, 1) := by decide +kernel
theorem d_M_fromPolygon_32 : decode b_M_fromPolygon 32 = .ok (.iaload, 1) := by decide +kernel
theorem d_M_fromPolygon_33 : decode b_M_fromPolygon 33 = .ok (.if_icmp .ge 96, 3) := by decide +kernel
theorem d_M_fromPolygon_36 : decode b_M_fromPolygon 36 = .ok (.iload 9, 2) := by decide +kernel
theorem d_M_fromPolygon_38 : decode b_M_fromPolygon 38 = .ok (.iconst 1, 1) := by decide +kernel
theorem d_M_fromPolygon_39 : decode b_M_fromPolygon 39 = .ok (.iadd, 1) := by decide +kernel
theorem d_M_fromPolygon_40 : decode b_M_fromPolygon 40 = .ok (.aload_n 0, 1) := by decide +kernel
theorem d_M_fromPolygon_41 : decode b_M_fromPolygon 41 = .ok (.getfield 56, 3) := by decide +kernel
theorem d_M_fromPolygon_44 : decode b_M_fromPolygon 44 = .ok (.iload_n 1, 1) := by decide +kernel
theorem d_M_fromPolygon_45 : decode b_M_fromPolygon 45 = .ok (.iaload, 1) := by decide +kernel
theorem d_M_fromPolygon_46 : decode b_M_fromPolygon 46 = .ok (.irem, 1) := by decide +kernel
theorem d_M_fromPolygon_47 : decode b_M_fromPolygon 47 = .ok (.istore 10, 2) := by decide +kernel
theorem d_M_fromPolygon_49 : decode b_M_fromPolygon 49 = .ok (.lload_n 2, 1) := by decide +kernel
theorem d_M_fromPolygon_50 : decode b_M_fromPolygon 50 = .ok (.lload 4, 2) := by decide +kernel
theorem d_M_fromPolygon_52 : decode b_M_fromPolygon 52 = .ok (.aload_n 0, 1) := by decide +kernel
theorem d_M_fromPolygon_53 : decode b_M_fromPolygon 53 = .ok (.getfield 59, 3) := by decide +kernel
theorem d_M_fromPolygon_56 : decode b_M_fromPolygon 56 = .ok (.bipush 8, 2) := by decide +kernel
theorem d_M_fromPolygon_58 : decode b_M_fromPolygon 58 = .ok (.iload_n 1, 1) := by decide +kernel
theorem d_M_fromPolygon_59 : decode b_M_fromPolygon 59 = .ok (.imul, 1) := by decide +kernel
theorem d_M_fromPolygon_60 : decode b_M_fromPolygon 60 = .ok (.iload 9, 2) := by decide +kernel
theorem d_M_fromPolygon_62 : decode b_M_fromPolygon 62 = .ok (.iadd, 1) := by decide +kernel
theorem d_M_fromPolygon_63 : decode b_M_fromPolygon 63 = .ok (.laload, 1) := by decide +kernel
theorem d_M_fromPolygon_64 : decode b_M_fromPolygon 64 = .ok (.aload_n 0, 1) := by decide +kernel
theorem d_M_fromPolygon_65 : decode b_M_fromPolygon 65 = .ok (.getfield 62, 3) := by decide +kernel
theorem d_M_fromPolygon_68 : decode b_M_fromPolygon 68 = .ok (.bipush 8, 2) := by decide +kernel
theorem d_M_fromPolygon_70 : decode b_M_fromPolygon 70 = .ok (.iload_n 1, 1) := by decide +kernel
theorem d_M_fromPolygon_71 : decode b_M_fromPolygon 71 = .ok (.imul, 1) := by decide +kernel
theorem d_M_fromPolygon_72 : decode b_M_fromPolygon 72 = .ok (.iload 9, 2) := by decide +kernel
theorem d_M_fromPolygon_74 : decode b_M_fromPolygon 74 = .ok (.iadd, 1) := by decide +kernel
theorem d_M_fromPolygon_75 : decode b_M_fromPolygon 75 = .ok (.laload, 1) := by decide +kernel
theorem d_M_fromPolygon_76 : decode b_M_fromPolygon 76 = .ok (.aload_n 0, 1) := by decide +kernel
theorem d_M_fromPolygon_77 : decode b_M_fromPolygon 77 = .ok (.getfield 59, 3) := by decide +kernel
theorem d_M_fromPolygon_80 : decode b_M_fromPolygon 80 = .ok (.bipush 8, 2) := by decide +kernel
theorem d_M_fromPolygon_82 : decode b_M_fromPolygon 82 = .ok (.iload_n 1, 1) := by decide +kernel
theorem d_M_fromPolygon_83 : decode b_M_fromPolygon 83 = .ok (.imul, 1) := by decide +kernel
theorem d_M_fromPolygon_84 : decode b_M_fromPolygon 84 = .ok (.iload 10, 2) := by decide +kernel
theorem d_M_fromPolygon_86 : decode b_M_fromPolygon 86 = .ok (.iadd, 1) := by decide +kernel
theorem d_M_fromPolygon_87 : decode b_M_fromPolygon 87 = .ok (.laload, 1) := by decide +kernel
theorem d_M_fromPolygon_88 : decode b_M_fromPolygon 88 = .ok (.aload_n 0, 1) := by decide +kernel
theorem d_M_fromPolygon_89 : decode b_M_fromPolygon 89 = .ok (.getfield 62, 3) := by decide +kernel
theorem d_M_fromPolygon_92 : decode b_M_fromPolygon 92 = .ok (.bipush 8, 2) := by decide +kernel
theorem d_M_fromPolygon_94 : decode b_M_fromPolygon 94 = .ok (.iload_n 1, 1) := by decide +kernel
theorem d_M_fromPolygon_95 : decode b_M_fromPolygon 95 = .ok (.imul, 1) := by decide +kernel
theorem d_M_fromPolygon_96 : decode b_M_fromPolygon 96 = .ok (.iload 10, 2) := by decide +kernel
theorem d_M_fromPolygon_98 : decode b_M_fromPolygon 98 = .ok (.iadd, 1) := by decide +kernel
theorem d_M_fromPolygon_99 : decode b_M_fromPolygon 99 = .ok (.laload, 1) := by decide +kernel
theorem d_M_fromPolygon_100 : decode b_M_fromPolygon 100 = .ok (.lload 6, 2) := by decide +kernel
theorem d_M_fromPolygon_102 : decode b_M_fromPolygon 102 = .ok (.invokestatic 202, 3) := by decide +kernel
theorem d_M_fromPolygon_105 : decode b_M_fromPolygon 105 = .ok (.istore 11, 2) := by decide +kernel
theorem d_M_fromPolygon_107 : decode b_M_fromPolygon 107 = .ok (.iload 11, 2) := by decide +kernel
theorem d_M_fromPolygon_109 : decode b_M_fromPolygon 109 = .ok (.iload 8, 2) := by decide +kernel
theorem d_M_fromPolygon_111 : decode b_M_fromPolygon 111 = .ok (.if_icmp .le 8, 3) := by decide +kernel
theorem d_M_fromPolygon_114 : decode b_M_fromPolygon 114 = .ok (.iload 11, 2) := by decide +kernel
theorem d_M_fromPolygon_116 : decode b_M_fromPolygon 116 = .ok (.goto 5, 3) := by decide +kernel
theorem d_M_fromPolygon_119 : decode b_M_fromPolygon 119 = .ok (.iload 8, 2) := by decide +kernel
theorem d_M_fromPolygon_121 : decode b_M_fromPolygon 121 = .ok (.istore 8, 2) := by decide +kernel
theorem d_M_fromPolygon_123 : decode b_M_fromPolygon 123 = .ok (.iinc 9 1, 3) := by decide +kernel
theorem d_M_fromPolygon_126 : decode b_M_fromPolygon 126 = .ok (.goto (-101), 3) := by decide +kernel
theorem d_M_fromPolygon_129 : decode b_M_fromPolygon 129 = .ok (.iload 8, 2) := by decide +kernel
theorem d_M_fromPolygon_131 : decode b_M_fromPolygon 131 = .ok (.ireturn, 1) := by decide +kernel
abbrev rm_M_fromPolygon : Room := { frames := 2, cells := 0, slots := 0, locals := 70 }
theorem ce_M_fromPolygon : gCe y_M_fromPolygon (.code y_M_fromPolygon b_M_fromPolygon 12 (some .int)) 12 4 false := gCe.code wd_1043 wd_57 wd_1042 (by decide) (by decide +kernel)
def f_M_fromPolygon_L25 (g0 : gG) (c0 : Nat) (c1 : Int32) (c2 : Int64) (c4 : Int64) (c6 : Int64) (K129 : Int32 → gW → gX Int32) : Nat → Int32 → Int32 → gW → gX Int32
  | 0, _, _, _ => none
  | n + 1, z8, z9, w => (gfA w c0 7 21).bind fun v8 => (gaI w v8 c1).bind fun v10 => if v10 ≤ z9 then (K129 z8 w) else ((gfA w c0 7 21).bind fun v13 => (gaI w v13 c1).bind fun v15 => gguard (¬ v15 = 0) ((gfA w c0 7 22).bind fun v18 => (gaJ w v18 ((8 * c1) + z9)).bind fun v20 => (gfA w c0 7 23).bind fun v22 => (gaJ w v22 ((8 * c1) + z9)).bind fun v24 => (gfA w c0 7 22).bind fun v26 => (gaJ w v26 ((8 * c1) + ((z9 + 1) - (z9 + 1) / v15 * v15))).bind fun v28 => (gfA w c0 7 23).bind fun v30 => (gaJ w v30 ((8 * c1) + ((z9 + 1) - (z9 + 1) / v15 * v15))).bind fun v32 => gbind (f_M_fromPiece g0 c2 c4 v20 v24 v28 v32 c6 w) fun v36 w => gjoin (fun K121 => if v36 ≤ z8 then (K121 z8 w) else (K121 v36 w)) (fun (y37 : Int32) (w : gW) => f_M_fromPolygon_L25 g0 c0 c1 c2 c4 c6 K129 n y37 (z9 + 1) w)))
def f_M_fromPolygon (g0 : gG) (a0 : Nat) (p1 : Int32) (p2 : Int64) (p3 : Int64) (p4 : Int64) (w : gW) : gX Int32 := (gck w a0 7).bind fun _ => gbind (f_M_isIn g0 a0 p1 p2 p3 w) fun v5 w => if v5 = 0 then (gjoin (fun K129 => f_M_fromPolygon_L25 g0 a0 p1 p2 p3 p4 K129 64 0 0 w) (fun (x7 : Int32) (w : gW) => some (.inr x7, w))) else (gbind (f_M_common g0 (0 - p4) w) fun v43 w => some (.inr v43, w))
set_option maxHeartbeats 4000000 in
set_option maxRecDepth 100000 in
theorem m_M_fromPolygon (l : Launch) (hst : l.stackTraces = false) (D : gD) (g0 : gG) (a0 : Nat) (p1 : Int32) (p2 : Int64) (p3 : Int64) (p4 : Int64) (w : gW) (r : (String ⊕ Int32) × gW) (h : f_M_fromPolygon g0 a0 p1 p2 p3 p4 w = some r) : gMet l y_M_fromPolygon (.code y_M_fromPolygon b_M_fromPolygon 12 (some .int)) rm_M_fromPolygon D g0 [.ref a0, .int p1, .long p2, .long p3, .long p4] w (goI r) := by
  refine gw_ofI (by decide +kernel) (Nat.le_of_ble_eq_true rfl) ?_
  intro p e s m below meth c ls args A Q hx hb hml hown hlocks hin hnt hT hK hZ hA hret hexc hthr hI hl
  obtain ⟨H, hH⟩ : ∃ H, H = s.heap := ⟨_, rfl⟩
  rw [← hH] at hI ⊢
  obtain ⟨locs, hlocs⟩ : ∃ z : List Loc, z = [] := ⟨_, rfl⟩
  rw [← hlocs] at hI ⊢
  have hl : lv_has ls 12 [(0, .ref a0), (1, .int p1), (2, .long p2), (4, .long p3), (6, .long p4)] := hl
  unfold f_M_fromPolygon at h
  refine lv_aload_n hx hb d_M_fromPolygon_0 rfl (lv_at hl 0 rfl) ?_
  refine lv_iload_n hx hb d_M_fromPolygon_1 rfl (lv_at hl 1 rfl) ?_
  refine lv_lload_n hx hb d_M_fromPolygon_2 rfl (lv_at hl 2 rfl) ?_
  refine lv_lload hx hb d_M_fromPolygon_3 (lv_at hl 3 rfl) ?_
  obtain ⟨q3, e4, h⟩ := gb h
  obtain ⟨u1, e2⟩ := gsome h
  refine gw_callI e2 h (gw_runV (As := [.int p1, .long p2, .long p3]) (rest := []) hx hb hml hown hT hK hZ hA hI (ci := 7) rfl e4 (m_M_isIn l hst D g0 a0 p1 p2 p3 w u1 e2) ce_M_isIn wd_1044 wd_40 ⟨by decide, by decide⟩ rfl rfl hl.1 rfl (lv_room (Nat.le_of_ble_eq_true rfl)) d_M_fromPolygon_5 ⟨(show 0 + 0 ≤ 0 by omega), (show 0 + 0 ≤ 0 by omega)⟩) hI hA hexc (show 0 + 0 ≤ 0 by omega) (show 0 + 0 ≤ 0 by omega) (fun v5 w H locs h hI => ?_)
  refine lv_if_eq (tgt := 19) hx hb d_M_fromPolygon_8 (by decide) (fun c6 => ?_) (fun c6 => ?_)
  · skip
    have h := git c6 h
    refine lv_iconst (v := 0) hx hb d_M_fromPolygon_19 (by decide) ?_
    refine lv_istore (lv' := [(8, .int 0), (0, .ref a0), (1, .int p1), (2, .long p2), (4, .long p3), (6, .long p4)]) hx hb d_M_fromPolygon_20 hl (by decide) rfl (fun ls hl => ?_)
    refine lv_iconst (v := 0) hx hb d_M_fromPolygon_22 (by decide) ?_
    refine lv_istore (lv' := [(9, .int 0), (8, .int 0), (0, .ref a0), (1, .int p1), (2, .long p2), (4, .long p3), (6, .long p4)]) hx hb d_M_fromPolygon_23 hl (by decide) rfl (fun ls hl => ?_)
    obtain ⟨K129, eK129, h⟩ := gj h
    have hK129 : ∀ (x7 : Int32) (w : gW) (H : Heap) (locs : List Loc) (ls : Array Slot), K129 x7 w = some r → gI D s A w H locs → lv_has ls 12 [(8, .int x7)] → W p l e rm_M_fromPolygon s m args below meth c H locs 0 0 Q (F0 m 129 ls []) := by
      intro x7 w H locs ls h hI hl
      have h := gk2 eK129 h
      refine lv_iload hx hb d_M_fromPolygon_129 (lv_at hl 0 rfl) ?_
      exact W.widen (show 0 ≤ 0 by omega) (show 0 ≤ 0 by omega) (hret _ _ (Option.some.inj h).symm _ _ _ _ d_M_fromPolygon_131 hI)
    have hL25 : ∀ (n : Nat), ∀ (z8 : Int32) (z9 : Int32) (w : gW) (H : Heap) (locs : List Loc) (ls : Array Slot), f_M_fromPolygon_L25 g0 a0 p1 p2 p3 p4 K129 n z8 z9 w = some r → gI D s A w H locs → lv_has ls 12 [(0, .ref a0), (1, .int p1), (2, .long p2), (4, .long p3), (6, .long p4), (8, .int z8), (9, .int z9)] → W p l e rm_M_fromPolygon s m args below meth c H locs 0 0 Q (F0 m 25 ls []) := by
      intro n
      induction n with
      | zero => intro z8 z9 w H locs ls h hI hl; exact absurd h (by simp [f_M_fromPolygon_L25])
      | succ n ih =>
        intro z8 z9 w H locs ls h hI hl
        rw [f_M_fromPolygon_L25] at h
        refine lv_iload hx hb d_M_fromPolygon_25 (lv_at hl 6 rfl) ?_
        refine lv_aload_n hx hb d_M_fromPolygon_27 rfl (lv_at hl 0 rfl) ?_
        obtain ⟨v10, e11, h⟩ := gb h
        refine gw_getA hx hb hT hown hK hI (ci := 7) rfl i_7 21 (by decide) wd_807 (fun _ h9 => h9) e11 d_M_fromPolygon_28 ?_
        refine lv_iload_n hx hb d_M_fromPolygon_31 rfl (lv_at hl 1 rfl) ?_
        obtain ⟨v12, e13, h⟩ := gb h
        refine gw_aldI hx hb hK hI e13 d_M_fromPolygon_32 ?_
        refine lv_icmp_ge (tgt := 129) hx hb d_M_fromPolygon_33 (by decide) (fun c14 => ?_) (fun c14 => ?_)
        · skip
          have h := git c14 h
          exact hK129 _ w H locs ls h hI (lv_sub hl [5] rfl)
        · skip
          have h := gie c14 h
          refine lv_iload hx hb d_M_fromPolygon_36 (lv_at hl 6 rfl) ?_
          refine lv_iconst (v := 1) hx hb d_M_fromPolygon_38 (by decide) ?_
          refine lv_iadd hx hb d_M_fromPolygon_39 ?_
          refine lv_aload_n hx hb d_M_fromPolygon_40 rfl (lv_at hl 0 rfl) ?_
          obtain ⟨v15, e16, h⟩ := gb h
          refine gw_getA hx hb hT hown hK hI (ci := 7) rfl i_7 21 (by decide) wd_807 (fun _ h9 => h9) e16 d_M_fromPolygon_41 ?_
          refine lv_iload_n hx hb d_M_fromPolygon_44 rfl (lv_at hl 1 rfl) ?_
          obtain ⟨v17, e18, h⟩ := gb h
          refine gw_aldI hx hb hK hI e18 d_M_fromPolygon_45 ?_
          obtain ⟨g19, h⟩ := gif h
          refine lv_irem hx hb d_M_fromPolygon_46 g19 ?_
          refine lv_istore (lv' := [(10, .int ((z9 + 1) - (z9 + 1) / v17 * v17)), (0, .ref a0), (1, .int p1), (2, .long p2), (4, .long p3), (6, .long p4), (8, .int z8), (9, .int z9)]) hx hb d_M_fromPolygon_47 hl (by decide) rfl (fun ls hl => ?_)
          refine lv_lload_n hx hb d_M_fromPolygon_49 rfl (lv_at hl 3 rfl) ?_
          refine lv_lload hx hb d_M_fromPolygon_50 (lv_at hl 4 rfl) ?_
          refine lv_aload_n hx hb d_M_fromPolygon_52 rfl (lv_at hl 1 rfl) ?_
          obtain ⟨v20, e21, h⟩ := gb h
          refine gw_getA hx hb hT hown hK hI (ci := 7) rfl i_7 22 (by decide) wd_808 (fun _ h9 => h9) e21 d_M_fromPolygon_53 ?_
          refine lv_bipush (v := 8) hx hb d_M_fromPolygon_56 (by decide) ?_
          refine lv_iload_n hx hb d_M_fromPolygon_58 rfl (lv_at hl 2 rfl) ?_
          refine lv_imul hx hb d_M_fromPolygon_59 ?_
          refine lv_iload hx hb d_M_fromPolygon_60 (lv_at hl 7 rfl) ?_
          refine lv_iadd hx hb d_M_fromPolygon_62 ?_
          obtain ⟨v22, e23, h⟩ := gb h
          refine gw_aldJ hx hb hK hI e23 d_M_fromPolygon_63 ?_
          refine lv_aload_n hx hb d_M_fromPolygon_64 rfl (lv_at hl 1 rfl) ?_
          obtain ⟨v24, e25, h⟩ := gb h
          refine gw_getA hx hb hT hown hK hI (ci := 7) rfl i_7 23 (by decide) wd_809 (fun _ h9 => h9) e25 d_M_fromPolygon_65 ?_
          refine lv_bipush (v := 8) hx hb d_M_fromPolygon_68 (by decide) ?_
          refine lv_iload_n hx hb d_M_fromPolygon_70 rfl (lv_at hl 2 rfl) ?_
          refine lv_imul hx hb d_M_fromPolygon_71 ?_
          refine lv_iload hx hb d_M_fromPolygon_72 (lv_at hl 7 rfl) ?_
          refine lv_iadd hx hb d_M_fromPolygon_74 ?_
          obtain ⟨v26, e27, h⟩ := gb h
          refine gw_aldJ hx hb hK hI e27 d_M_fromPolygon_75 ?_
          refine lv_aload_n hx hb d_M_fromPolygon_76 rfl (lv_at hl 1 rfl) ?_
          obtain ⟨v28, e29, h⟩ := gb h
          refine gw_getA hx hb hT hown hK hI (ci := 7) rfl i_7 22 (by decide) wd_808 (fun _ h9 => h9) e29 d_M_fromPolygon_77 ?_
          refine lv_bipush (v := 8) hx hb d_M_fromPolygon_80 (by decide) ?_
          refine lv_iload_n hx hb d_M_fromPolygon_82 rfl (lv_at hl 2 rfl) ?_
          refine lv_imul hx hb d_M_fromPolygon_83 ?_
          refine lv_iload hx hb d_M_fromPolygon_84 (lv_at hl 0 rfl) ?_
          refine lv_iadd hx hb d_M_fromPolygon_86 ?_
          obtain ⟨v30, e31, h⟩ := gb h
          refine gw_aldJ hx hb hK hI e31 d_M_fromPolygon_87 ?_
          refine lv_aload_n hx hb d_M_fromPolygon_88 rfl (lv_at hl 1 rfl) ?_
          obtain ⟨v32, e33, h⟩ := gb h
          refine gw_getA hx hb hT hown hK hI (ci := 7) rfl i_7 23 (by decide) wd_809 (fun _ h9 => h9) e33 d_M_fromPolygon_89 ?_
          refine lv_bipush (v := 8) hx hb d_M_fromPolygon_92 (by decide) ?_
          refine lv_iload_n hx hb d_M_fromPolygon_94 rfl (lv_at hl 2 rfl) ?_
          refine lv_imul hx hb d_M_fromPolygon_95 ?_
          refine lv_iload hx hb d_M_fromPolygon_96 (lv_at hl 0 rfl) ?_
          refine lv_iadd hx hb d_M_fromPolygon_98 ?_
          obtain ⟨v34, e35, h⟩ := gb h
          refine gw_aldJ hx hb hK hI e35 d_M_fromPolygon_99 ?_
          refine lv_lload hx hb d_M_fromPolygon_100 (lv_at hl 5 rfl) ?_
          obtain ⟨u36, e37⟩ := gsome h
          refine gw_callI e37 h (gw_runS (As := [.long p2, .long p3, .long v22, .long v26, .long v30, .long v34, .long p4]) (rest := []) hx hb hml hown hT hK hZ hA hI (m_M_fromPiece l hst D g0 p2 p3 v22 v26 v30 v34 p4 w u36 e37) ce_M_fromPiece wd_1048 ⟨by decide, by decide⟩ rfl rfl hl.1 rfl (lv_room (Nat.le_of_ble_eq_true rfl)) d_M_fromPolygon_102 ⟨(show 0 + 0 ≤ 0 by omega), (show 0 + 0 ≤ 0 by omega)⟩) hI hA hexc (show 0 + 0 ≤ 0 by omega) (show 0 + 0 ≤ 0 by omega) (fun v38 w H locs h hI => ?_)
          refine lv_istore (lv' := [(11, .int v38), (10, .int ((z9 + 1) - (z9 + 1) / v17 * v17)), (0, .ref a0), (1, .int p1), (2, .long p2), (4, .long p3), (6, .long p4), (8, .int z8), (9, .int z9)]) hx hb d_M_fromPolygon_105 hl (by decide) rfl (fun ls hl => ?_)
          refine lv_iload hx hb d_M_fromPolygon_107 (lv_at hl 0 rfl) ?_
          refine lv_iload hx hb d_M_fromPolygon_109 (lv_at hl 7 rfl) ?_
          obtain ⟨K121, eK121, h⟩ := gj h
          have hK121 : ∀ (y39 : Int32) (w : gW) (H : Heap) (locs : List Loc) (ls : Array Slot), K121 y39 w = some r → gI D s A w H locs → lv_has ls 12 [(0, .ref a0), (1, .int p1), (2, .long p2), (4, .long p3), (6, .long p4), (9, .int z9)] → W p l e rm_M_fromPolygon s m args below meth c H locs 0 0 Q (F0 m 121 ls [.int y39]) := by
            intro y39 w H locs ls h hI hl
            have h := gk2 eK121 h
            refine lv_istore (lv' := [(8, .int y39), (0, .ref a0), (1, .int p1), (2, .long p2), (4, .long p3), (6, .long p4), (9, .int z9)]) hx hb d_M_fromPolygon_121 hl (by decide) rfl (fun ls hl => ?_)
            refine lv_iinc (v := z9 + 1) (lv' := [(9, .int (z9 + 1)), (8, .int y39), (0, .ref a0), (1, .int p1), (2, .long p2), (4, .long p3), (6, .long p4)]) hx hb d_M_fromPolygon_123 hl (k := 6) rfl rfl (by decide) rfl (fun ls hl => ?_)
            refine lv_goto (tgt := 25) hx hb d_M_fromPolygon_126 (by decide) ?_
            exact ih _ _ w H locs ls h hI (lv_sub hl [2, 3, 4, 5, 6, 1, 0] rfl)
          refine lv_icmp_le (tgt := 119) hx hb d_M_fromPolygon_111 (by decide) (fun c40 => ?_) (fun c40 => ?_)
          · skip
            have h := git c40 h
            refine lv_iload hx hb d_M_fromPolygon_119 (lv_at hl 7 rfl) ?_
            exact hK121 _ w H locs ls h hI (lv_sub hl [2, 3, 4, 5, 6, 8] rfl)
          · skip
            have h := gie c40 h
            refine lv_iload hx hb d_M_fromPolygon_114 (lv_at hl 0 rfl) ?_
            refine lv_goto (tgt := 121) hx hb d_M_fromPolygon_116 (by decide) ?_
            exact hK121 _ w H locs ls h hI (lv_sub hl [2, 3, 4, 5, 6, 8] rfl)
    exact hL25 64 _ _ w H locs ls h hI (lv_sub hl [2, 3, 4, 5, 6, 1, 0] rfl)
  · skip
    have h := gie c6 h
    refine lv_lconst (v := 0) hx hb d_M_fromPolygon_11 (by decide) ?_
    refine lv_lload hx hb d_M_fromPolygon_12 (lv_at hl 4 rfl) ?_
    refine lv_lsub hx hb d_M_fromPolygon_14 ?_
    obtain ⟨u41, e42⟩ := gsome h
    refine gw_callI e42 h (gw_runS (As := [.long (0 - p4)]) (rest := []) hx hb hml hown hT hK hZ hA hI (m_M_common l hst D g0 (0 - p4) w u41 e42) ce_M_common wd_1028 ⟨by decide, by decide⟩ rfl rfl hl.1 rfl (lv_room (Nat.le_of_ble_eq_true rfl)) d_M_fromPolygon_15 ⟨(show 0 + 0 ≤ 0 by omega), (show 0 + 0 ≤ 0 by omega)⟩) hI hA hexc (show 0 + 0 ≤ 0 by omega) (show 0 + 0 ≤ 0 by omega) (fun v43 w H locs h hI => ?_)
    exact W.widen (show 0 ≤ 0 by omega) (show 0 ≤ 0 by omega) (hret _ _ (Option.some.inj h).symm _ _ _ _ d_M_fromPolygon_18 hI)

abbrev b_M_turn : ByteArray := prog_9_method_41_code
def y_M_turn : MethodName := ⟨"BodySolidsModel", "turn", "(JJJJJJ)J"⟩
theorem d_M_turn_0 : decode b_M_turn 0 = .ok (.lload_n 0, 1) := by decide +kernel
theorem d_M_turn_1 : decode b_M_turn 1 = .ok (.lload_n 2, 1) := by decide +kernel
theorem d_M_turn_2 : decode b_M_turn 2 = .ok (.lload 4, 2) := by decide +kernel
theorem d_M_turn_4 : decode b_M_turn 4 = .ok (.lload 6, 2) := by decide +kernel
theorem d_M_turn_6 : decode b_M_turn 6 = .ok (.lload 8, 2) := by decide +kernel
theorem d_M_turn_8 : decode b_M_turn 8 = .ok (.lload 10, 2) := by decide +kernel
theorem d_M_turn_10 : decode b_M_turn 10 = .ok (.invokestatic 124, 3) := by decide +kernel
theorem d_M_turn_13 : decode b_M_turn 13 = .ok (.lstore 12, 2) := by decide +kernel
theorem d_M_turn_15 : decode b_M_turn 15 = .ok (.lload 12, 2) := by decide +kernel
theorem d_M_turn_17 : decode b_M_turn 17 = .ok (.lconst 0, 1) := by decide +kernel
theorem d_M_turn_18 : decode b_M_turn 18 = .ok (.lcmp, 1) := by decide +kernel
theorem d_M_turn_19 : decode b_M_turn 19 = .ok (.ifCond .ge 9, 3) := by decide +kernel
theorem d_M_turn_22 : decode b_M_turn 22 = .ok (.ldc2_w 206, 3) := by decide +kernel
theorem d_M_turn_25 : decode b_M_turn 25 = .ok (.goto 15, 3) := by decide +kernel
theorem d_M_turn_28 : decode b_M_turn 28 = .ok (.lload 12, 2) := by decide +kernel
theorem d_M_turn_30 : decode b_M_turn 30 = .ok (.lconst 0, 1) := by decide +kernel
theorem d_M_turn_31 : decode b_M_turn 31 = .ok (.lcmp, 1) := by decide +kernel
theorem d_M_turn_32 : decode b_M_turn 32 = .ok (.ifCond .le 7, 3) := by decide +kernel
theorem d_M_turn_35 : decode b_M_turn 35 = .ok (.lconst 1, 1) := by decide +kernel
theorem d_M_turn_36 : decode b_M_turn 36 = .ok (.goto 4, 3) := by decide +kernel
theorem d_M_turn_39 : decode b_M_turn 39 = .ok (.lconst 0, 1) := by decide +kernel
theorem d_M_turn_40 : decode b_M_turn 40 = .ok (.lreturn, 1) := by decide +kernel
abbrev rm_M_turn : Room := { frames := 1, cells := 0, slots := 0, locals := 31 }
theorem ce_M_turn : gCe y_M_turn (.code y_M_turn b_M_turn 14 (some .long)) 14 6 true := gCe.code wd_1053 wd_57 wd_1052 (by decide) (by decide +kernel)
def f_M_turn (g0 : gG) (p0 : Int64) (p1 : Int64) (p2 : Int64) (p3 : Int64) (p4 : Int64) (p5 : Int64) (w : gW) : gX Int64 := gbind (f_M_cross g0 p0 p1 p2 p3 p4 p5 w) fun v3 w => gjoin (fun K40 => if 0 ≤ v3 then (if v3 ≤ 0 then (K40 0 w) else (K40 1 w)) else (K40 (-1) w)) (fun (y4 : Int64) (w : gW) => some (.inr y4, w))
set_option maxHeartbeats 4000000 in
set_option maxRecDepth 100000 in
theorem m_M_turn (l : Launch) (hst : l.stackTraces = false) (D : gD) (g0 : gG) (p0 : Int64) (p1 : Int64) (p2 : Int64) (p3 : Int64) (p4 : Int64) (p5 : Int64) (w : gW) (r : (String ⊕ Int64) × gW) (h : f_M_turn g0 p0 p1 p2 p3 p4 p5 w = some r) : gMet l y_M_turn (.code y_M_turn b_M_turn 14 (some .long)) rm_M_turn D g0 [.long p0, .long p1, .long p2, .long p3, .long p4, .long p5] w (goJ r) := by
  refine gw_ofJ (by decide +kernel) (Nat.le_of_ble_eq_true rfl) ?_
  intro p e s m below meth c ls args A Q hx hb hml hown hlocks hin hnt hT hK hZ hA hret hexc hthr hI hl
  obtain ⟨H, hH⟩ : ∃ H, H = s.heap := ⟨_, rfl⟩
  rw [← hH] at hI ⊢
  obtain ⟨locs, hlocs⟩ : ∃ z : List Loc, z = [] := ⟨_, rfl⟩
  rw [← hlocs] at hI ⊢
  have hl : lv_has ls 14 [(0, .long p0), (2, .long p1), (4, .long p2), (6, .long p3), (8, .long p4), (10, .long p5)] := hl
  unfold f_M_turn at h
  refine lv_lload_n hx hb d_M_turn_0 rfl (lv_at hl 0 rfl) ?_
  refine lv_lload_n hx hb d_M_turn_1 rfl (lv_at hl 1 rfl) ?_
  refine lv_lload hx hb d_M_turn_2 (lv_at hl 2 rfl) ?_
  refine lv_lload hx hb d_M_turn_4 (lv_at hl 3 rfl) ?_
  refine lv_lload hx hb d_M_turn_6 (lv_at hl 4 rfl) ?_
  refine lv_lload hx hb d_M_turn_8 (lv_at hl 5 rfl) ?_
  obtain ⟨u1, e2⟩ := gsome h
  refine gw_callJ e2 h (gw_runS (As := [.long p0, .long p1, .long p2, .long p3, .long p4, .long p5]) (rest := []) hx hb hml hown hT hK hZ hA hI (m_M_cross l hst D g0 p0 p1 p2 p3 p4 p5 w u1 e2) ce_M_cross wd_922 ⟨by decide, by decide⟩ rfl rfl hl.1 rfl (lv_room (Nat.le_of_ble_eq_true rfl)) d_M_turn_10 ⟨(show 0 + 0 ≤ 0 by omega), (show 0 + 0 ≤ 0 by omega)⟩) hI hA hexc (show 0 + 0 ≤ 0 by omega) (show 0 + 0 ≤ 0 by omega) (fun v3 w H locs h hI => ?_)
  refine lv_lstore (lv' := [(12, .long v3), (0, .long p0), (2, .long p1), (4, .long p2), (6, .long p3), (8, .long p4), (10, .long p5)]) hx hb d_M_turn_13 hl (by decide) rfl (fun ls hl => ?_)
  refine lv_lload hx hb d_M_turn_15 (lv_at hl 0 rfl) ?_
  refine lv_lconst (v := 0) hx hb d_M_turn_17 (by decide) ?_
  refine W.lcmp hx hb d_M_turn_18 ?_
  obtain ⟨K40, eK40, h⟩ := gj h
  have hK40 : ∀ (y4 : Int64) (w : gW) (H : Heap) (locs : List Loc) (ls : Array Slot), K40 y4 w = some r → gI D s A w H locs → lv_has ls 14 [] → W p l e rm_M_turn s m args below meth c H locs 0 0 Q (F0 m 40 ls [.long y4]) := by
    intro y4 w H locs ls h hI hl
    have h := gk2 eK40 h
    exact W.widen (show 0 ≤ 0 by omega) (show 0 ≤ 0 by omega) (hret _ _ (Option.some.inj h).symm _ _ _ _ d_M_turn_40 hI)
  refine lv_if_ge (tgt := 28) hx hb d_M_turn_19 (by decide) (fun c5 => ?_) (fun c5 => ?_)
  · have c5 := (lg_cmp_ge _ _).mp c5
    have h := git c5 h
    refine lv_lload hx hb d_M_turn_28 (lv_at hl 0 rfl) ?_
    refine lv_lconst (v := 0) hx hb d_M_turn_30 (by decide) ?_
    refine W.lcmp hx hb d_M_turn_31 ?_
    refine lv_if_le (tgt := 39) hx hb d_M_turn_32 (by decide) (fun c6 => ?_) (fun c6 => ?_)
    · have c6 := (lg_cmp_le _ _).mp c6
      have h := git c6 h
      refine lv_lconst (v := 0) hx hb d_M_turn_39 (by decide) ?_
      exact hK40 _ w H locs ls h hI (lv_sub hl [] rfl)
    · have c6 := mt (lg_cmp_le _ _).mpr c6
      have h := gie c6 h
      refine lv_lconst (v := 1) hx hb d_M_turn_35 (by decide) ?_
      refine lv_goto (tgt := 40) hx hb d_M_turn_36 (by decide) ?_
      exact hK40 _ w H locs ls h hI (lv_sub hl [] rfl)
  · have c5 := mt (lg_cmp_ge _ _).mpr c5
    have h := gie c5 h
    refine lv_ldc2 (v := (-1)) hx hb hown (hT _ wd_1054 args) d_M_turn_22 ?_
    refine lv_goto (tgt := 40) hx hb d_M_turn_25 (by decide) ?_
    exact hK40 _ w H locs ls h hI (lv_sub hl [] rfl)
