abbrev b_M_fromPiece : ByteArray := prog_9_method_39_code
def y_M_fromPiece : MethodName := ⟨"BodySolidsModel", "fromPiece", "(JJJJJJJ)I"⟩
theorem d_M_fromPiece_0 : decode b_M_fromPiece 0 = .ok (.lload_n 0, 1) := by decide +kernel
theorem d_M_fromPiece_1 : decode b_M_fromPiece 1 = .ok (.lload 4, 2) := by decide +kernel
theorem d_M_fromPiece_3 : decode b_M_fromPiece 3 = .ok (.lsub, 1) := by decide +kernel
theorem d_M_fromPiece_4 : decode b_M_fromPiece 4 = .ok (.lload 8, 2) := by decide +kernel
theorem d_M_fromPiece_6 : decode b_M_fromPiece 6 = .ok (.lload 4, 2) := by decide +kernel
theorem d_M_fromPiece_8 : decode b_M_fromPiece 8 = .ok (.lsub, 1) := by decide +kernel
theorem d_M_fromPiece_9 : decode b_M_fromPiece 9 = .ok (.lmul, 1) := by decide +kernel
theorem d_M_fromPiece_10 : decode b_M_fromPiece 10 = .ok (.lload_n 2, 1) := by decide +kernel
theorem d_M_fromPiece_11 : decode b_M_fromPiece 11 = .ok (.lload 6, 2) := by decide +kernel
theorem d_M_fromPiece_13 : decode b_M_fromPiece 13 = .ok (.lsub, 1) := by decide +kernel
theorem d_M_fromPiece_14 : decode b_M_fromPiece 14 = .ok (.lload 10, 2) := by decide +kernel
theorem d_M_fromPiece_16 : decode b_M_fromPiece 16 = .ok (.lload 6, 2) := by decide +kernel
theorem d_M_fromPiece_18 : decode b_M_fromPiece 18 = .ok (.lsub, 1) := by decide +kernel
theorem d_M_fromPiece_19 : decode b_M_fromPiece 19 = .ok (.lmul, 1) := by decide +kernel
theorem d_M_fromPiece_20 : decode b_M_fromPiece 20 = .ok (.ladd, 1) := by decide +kernel
theorem d_M_fromPiece_21 : decode b_M_fromPiece 21 = .ok (.lstore 14, 2) := by decide +kernel
theorem d_M_fromPiece_23 : decode b_M_fromPiece 23 = .ok (.lload 8, 2) := by decide +kernel
theorem d_M_fromPiece_25 : decode b_M_fromPiece 25 = .ok (.lload 4, 2) := by decide +kernel
theorem d_M_fromPiece_27 : decode b_M_fromPiece 27 = .ok (.lsub, 1) := by decide +kernel
theorem d_M_fromPiece_28 : decode b_M_fromPiece 28 = .ok (.lload 10, 2) := by decide +kernel
theorem d_M_fromPiece_30 : decode b_M_fromPiece 30 = .ok (.lload 6, 2) := by decide +kernel
theorem d_M_fromPiece_32 : decode b_M_fromPiece 32 = .ok (.lsub, 1) := by decide +kernel
theorem d_M_fromPiece_33 : decode b_M_fromPiece 33 = .ok (.invokestatic 194, 3) := by decide +kernel
theorem d_M_fromPiece_36 : decode b_M_fromPiece 36 = .ok (.lstore 16, 2) := by decide +kernel
theorem d_M_fromPiece_38 : decode b_M_fromPiece 38 = .ok (.lload 14, 2) := by decide +kernel
theorem d_M_fromPiece_40 : decode b_M_fromPiece 40 = .ok (.lconst 0, 1) := by decide +kernel
theorem d_M_fromPiece_41 : decode b_M_fromPiece 41 = .ok (.lcmp, 1) := by decide +kernel
theorem d_M_fromPiece_42 : decode b_M_fromPiece 42 = .ok (.ifCond .gt 21, 3) := by decide +kernel
theorem d_M_fromPiece_45 : decode b_M_fromPiece 45 = .ok (.lload_n 0, 1) := by decide +kernel
theorem d_M_fromPiece_46 : decode b_M_fromPiece 46 = .ok (.lload 4, 2) := by decide +kernel
theorem d_M_fromPiece_48 : decode b_M_fromPiece 48 = .ok (.lsub, 1) := by decide +kernel
theorem d_M_fromPiece_49 : decode b_M_fromPiece 49 = .ok (.lload_n 2, 1) := by decide +kernel
theorem d_M_fromPiece_50 : decode b_M_fromPiece 50 = .ok (.lload 6, 2) := by decide +kernel
theorem d_M_fromPiece_52 : decode b_M_fromPiece 52 = .ok (.lsub, 1) := by decide +kernel
theorem d_M_fromPiece_53 : decode b_M_fromPiece 53 = .ok (.invokestatic 194, 3) := by decide +kernel
theorem d_M_fromPiece_56 : decode b_M_fromPiece 56 = .ok (.lload 12, 2) := by decide +kernel
theorem d_M_fromPiece_58 : decode b_M_fromPiece 58 = .ok (.lsub, 1) := by decide +kernel
theorem d_M_fromPiece_59 : decode b_M_fromPiece 59 = .ok (.invokestatic 186, 3) := by decide +kernel
theorem d_M_fromPiece_62 : decode b_M_fromPiece 62 = .ok (.ireturn, 1) := by decide +kernel
theorem d_M_fromPiece_63 : decode b_M_fromPiece 63 = .ok (.lload 14, 2) := by decide +kernel
theorem d_M_fromPiece_65 : decode b_M_fromPiece 65 = .ok (.lload 16, 2) := by decide +kernel
theorem d_M_fromPiece_67 : decode b_M_fromPiece 67 = .ok (.lcmp, 1) := by decide +kernel
theorem d_M_fromPiece_68 : decode b_M_fromPiece 68 = .ok (.ifCond .lt 21, 3) := by decide +kernel
theorem d_M_fromPiece_71 : decode b_M_fromPiece 71 = .ok (.lload_n 0, 1) := by decide +kernel
theorem d_M_fromPiece_72 : decode b_M_fromPiece 72 = .ok (.lload 8, 2) := by decide +kernel
theorem d_M_fromPiece_74 : decode b_M_fromPiece 74 = .ok (.lsub, 1) := by decide +kernel
theorem d_M_fromPiece_75 : decode b_M_fromPiece 75 = .ok (.lload_n 2, 1) := by decide +kernel
theorem d_M_fromPiece_76 : decode b_M_fromPiece 76 = .ok (.lload 10, 2) := by decide +kernel
theorem d_M_fromPiece_78 : decode b_M_fromPiece 78 = .ok (.lsub, 1) := by decide +kernel
theorem d_M_fromPiece_79 : decode b_M_fromPiece 79 = .ok (.invokestatic 194, 3) := by decide +kernel
theorem d_M_fromPiece_82 : decode b_M_fromPiece 82 = .ok (.lload 12, 2) := by decide +kernel
theorem d_M_fromPiece_84 : decode b_M_fromPiece 84 = .ok (.lsub, 1) := by decide +kernel
theorem d_M_fromPiece_85 : decode b_M_fromPiece 85 = .ok (.invokestatic 186, 3) := by decide +kernel
theorem d_M_fromPiece_88 : decode b_M_fromPiece 88 = .ok (.ireturn, 1) := by decide +kernel
theorem d_M_fromPiece_89 : decode b_M_fromPiece 89 = .ok (.lload 4, 2) := by decide +kernel
theorem d_M_fromPiece_91 : decode b_M_fromPiece 91 = .ok (.lload 6, 2) := by decide +kernel
theorem d_M_fromPiece_93 : decode b_M_fromPiece 93 = .ok (.lload 8, 2) := by decide +kernel
theorem d_M_fromPiece_95 : decode b_M_fromPiece 95 = .ok (.lload 10, 2) := by decide +kernel
theorem d_M_fromPiece_97 : decode b_M_fromPiece 97 = .ok (.lload_n 0, 1) := by decide +kernel
theorem d_M_fromPiece_98 : decode b_M_fromPiece 98 = .ok (.lload_n 2, 1) := by decide +kernel
theorem d_M_fromPiece_99 : decode b_M_fromPiece 99 = .ok (.invokestatic 124, 3) := by decide +kernel
theorem d_M_fromPiece_102 : decode b_M_fromPiece 102 = .ok (.lstore 18, 2) := by decide +kernel
theorem d_M_fromPiece_104 : decode b_M_fromPiece 104 = .ok (.lload 18, 2) := by decide +kernel
theorem d_M_fromPiece_106 : decode b_M_fromPiece 106 = .ok (.lload 18, 2) := by decide +kernel
theorem d_M_fromPiece_108 : decode b_M_fromPiece 108 = .ok (.lmul, 1) := by decide +kernel
theorem d_M_fromPiece_109 : decode b_M_fromPiece 109 = .ok (.lload 12, 2) := by decide +kernel
theorem d_M_fromPiece_111 : decode b_M_fromPiece 111 = .ok (.lload 16, 2) := by decide +kernel
theorem d_M_fromPiece_113 : decode b_M_fromPiece 113 = .ok (.lmul, 1) := by decide +kernel
theorem d_M_fromPiece_114 : decode b_M_fromPiece 114 = .ok (.lsub, 1) := by decide +kernel
theorem d_M_fromPiece_115 : decode b_M_fromPiece 115 = .ok (.invokestatic 186, 3) := by decide +kernel
theorem d_M_fromPiece_118 : decode b_M_fromPiece 118 = .ok (.ireturn, 1) := by decide +kernel
abbrev rm_M_fromPiece : Room := { frames := 1, cells := 0, slots := 0, locals := 31 }
theorem ce_M_fromPiece : gCe y_M_fromPiece (.code y_M_fromPiece b_M_fromPiece 20 (some .int)) 20 7 true := gCe.code wd_1050 wd_57 wd_1049 (by decide) (by decide +kernel)
def f_M_fromPiece (g0 : gG) (p0 : Int64) (p1 : Int64) (p2 : Int64) (p3 : Int64) (p4 : Int64) (p5 : Int64) (p6 : Int64) (w : gW) : gX Int32 := gbind (f_M_square g0 (p4 - p2) (p5 - p3) w) fun v3 w => if 0 < (((p0 - p2) * (p4 - p2)) + ((p1 - p3) * (p5 - p3))) then (if (((p0 - p2) * (p4 - p2)) + ((p1 - p3) * (p5 - p3))) < v3 then (gbind (f_M_cross g0 p2 p3 p4 p5 p0 p1 w) fun v8 w => gbind (f_M_common g0 ((v8 * v8) - (p6 * v3)) w) fun v11 w => some (.inr v11, w)) else (gbind (f_M_square g0 (p0 - p4) (p1 - p5) w) fun v14 w => gbind (f_M_common g0 (v14 - p6) w) fun v17 w => some (.inr v17, w))) else (gbind (f_M_square g0 (p0 - p2) (p1 - p3) w) fun v20 w => gbind (f_M_common g0 (v20 - p6) w) fun v23 w => some (.inr v23, w))
set_option maxHeartbeats 4000000 in
set_option maxRecDepth 100000 in
theorem m_M_fromPiece (l : Launch) (hst : l.stackTraces = false) (D : gD) (g0 : gG) (p0 : Int64) (p1 : Int64) (p2 : Int64) (p3 : Int64) (p4 : Int64) (p5 : Int64) (p6 : Int64) (w : gW) (r : (String ⊕ Int32) × gW) (h : f_M_fromPiece g0 p0 p1 p2 p3 p4 p5 p6 w = some r) : gMet l y_M_fromPiece (.code y_M_fromPiece b_M_fromPiece 20 (some .int)) rm_M_fromPiece D g0 [.long p0, .long p1, .long p2, .long p3, .long p4, .long p5, .long p6] w (goI r) := by
  refine gw_ofI (by decide +kernel) (Nat.le_of_ble_eq_true rfl) ?_
  intro p e s m below meth c ls args A Q hx hb hml hown hlocks hin hnt hT hK hZ hA hret hexc hthr hI hl
  obtain ⟨H, hH⟩ : ∃ H, H = s.heap := ⟨_, rfl⟩
  rw [← hH] at hI ⊢
  obtain ⟨locs, hlocs⟩ : ∃ z : List Loc, z = [] := ⟨_, rfl⟩
  rw [← hlocs] at hI ⊢
  have hl : lv_has ls 20 [(0, .long p0), (2, .long p1), (4, .long p2), (6, .long p3), (8, .long p4), (10, .long p5), (12, .long p6)] := hl
  unfold f_M_fromPiece at h
  refine lv_lload_n hx hb d_M_fromPiece_0 rfl (lv_at hl 0 rfl) ?_
  refine lv_lload hx hb d_M_fromPiece_1 (lv_at hl 2 rfl) ?_
  refine lv_lsub hx hb d_M_fromPiece_3 ?_
  refine lv_lload hx hb d_M_fromPiece_4 (lv_at hl 4 rfl) ?_
  refine lv_lload hx hb d_M_fromPiece_6 (lv_at hl 2 rfl) ?_
  refine lv_lsub hx hb d_M_fromPiece_8 ?_
  refine lv_lmul hx hb d_M_fromPiece_9 ?_
  refine lv_lload_n hx hb d_M_fromPiece_10 rfl (lv_at hl 1 rfl) ?_
  refine lv_lload hx hb d_M_fromPiece_11 (lv_at hl 3 rfl) ?_
  refine lv_lsub hx hb d_M_fromPiece_13 ?_
  refine lv_lload hx hb d_M_fromPiece_14 (lv_at hl 5 rfl) ?_
  refine lv_lload hx hb d_M_fromPiece_16 (lv_at hl 3 rfl) ?_
  refine lv_lsub hx hb d_M_fromPiece_18 ?_
  refine lv_lmul hx hb d_M_fromPiece_19 ?_
  refine lv_ladd hx hb d_M_fromPiece_20 ?_
  refine lv_lstore (lv' := [(14, .long (((p0 - p2) * (p4 - p2)) + ((p1 - p3) * (p5 - p3)))), (0, .long p0), (2, .long p1), (4, .long p2), (6, .long p3), (8, .long p4), (10, .long p5), (12, .long p6)]) hx hb d_M_fromPiece_21 hl (by decide) rfl (fun ls hl => ?_)
  refine lv_lload hx hb d_M_fromPiece_23 (lv_at hl 5 rfl) ?_
  refine lv_lload hx hb d_M_fromPiece_25 (lv_at hl 3 rfl) ?_
  refine lv_lsub hx hb d_M_fromPiece_27 ?_
  refine lv_lload hx hb d_M_fromPiece_28 (lv_at hl 6 rfl) ?_
  refine lv_lload hx hb d_M_fromPiece_30 (lv_at hl 4 rfl) ?_
  refine lv_lsub hx hb d_M_fromPiece_32 ?_
  obtain ⟨u1, e2⟩ := gsome h
  refine gw_callJ e2 h (gw_runS (As := [.long (p4 - p2), .long (p5 - p3)]) (rest := []) hx hb hml hown hT hK hZ hA hI (m_M_square l hst D g0 (p4 - p2) (p5 - p3) w u1 e2) ce_M_square wd_1025 ⟨by decide, by decide⟩ rfl rfl hl.1 rfl (lv_room (Nat.le_of_ble_eq_true rfl)) d_M_fromPiece_33 ⟨(show 0 + 0 ≤ 0 by omega), (show 0 + 0 ≤ 0 by omega)⟩) hI hA hexc (show 0 + 0 ≤ 0 by omega) (show 0 + 0 ≤ 0 by omega) (fun v3 w H locs h hI => ?_)
  refine lv_lstore (lv' := [(16, .long v3), (14, .long (((p0 - p2) * (p4 - p2)) + ((p1 - p3) * (p5 - p3)))), (0, .long p0), (2, .long p1), (4, .long p2), (6, .long p3), (8, .long p4), (10, .long p5), (12, .long p6)]) hx hb d_M_fromPiece_36 hl (by decide) rfl (fun ls hl => ?_)
  refine lv_lload hx hb d_M_fromPiece_38 (lv_at hl 1 rfl) ?_
  refine lv_lconst (v := 0) hx hb d_M_fromPiece_40 (by decide) ?_
  refine W.lcmp hx hb d_M_fromPiece_41 ?_
  refine lv_if_gt (tgt := 63) hx hb d_M_fromPiece_42 (by decide) (fun c4 => ?_) (fun c4 => ?_)
  · have c4 := (lg_cmp_gt _ _).mp c4
    have h := git c4 h
    refine lv_lload hx hb d_M_fromPiece_63 (lv_at hl 1 rfl) ?_
    refine lv_lload hx hb d_M_fromPiece_65 (lv_at hl 0 rfl) ?_
    refine W.lcmp hx hb d_M_fromPiece_67 ?_
    refine lv_if_lt (tgt := 89) hx hb d_M_fromPiece_68 (by decide) (fun c5 => ?_) (fun c5 => ?_)
    · have c5 := (lg_cmp_lt _ _).mp c5
      have h := git c5 h
      refine lv_lload hx hb d_M_fromPiece_89 (lv_at hl 4 rfl) ?_
      refine lv_lload hx hb d_M_fromPiece_91 (lv_at hl 5 rfl) ?_
      refine lv_lload hx hb d_M_fromPiece_93 (lv_at hl 6 rfl) ?_
      refine lv_lload hx hb d_M_fromPiece_95 (lv_at hl 7 rfl) ?_
      refine lv_lload_n hx hb d_M_fromPiece_97 rfl (lv_at hl 2 rfl) ?_
      refine lv_lload_n hx hb d_M_fromPiece_98 rfl (lv_at hl 3 rfl) ?_
      obtain ⟨u6, e7⟩ := gsome h
      refine gw_callJ e7 h (gw_runS (As := [.long p2, .long p3, .long p4, .long p5, .long p0, .long p1]) (rest := []) hx hb hml hown hT hK hZ hA hI (m_M_cross l hst D g0 p2 p3 p4 p5 p0 p1 w u6 e7) ce_M_cross wd_922 ⟨by decide, by decide⟩ rfl rfl hl.1 rfl (lv_room (Nat.le_of_ble_eq_true rfl)) d_M_fromPiece_99 ⟨(show 0 + 0 ≤ 0 by omega), (show 0 + 0 ≤ 0 by omega)⟩) hI hA hexc (show 0 + 0 ≤ 0 by omega) (show 0 + 0 ≤ 0 by omega) (fun v8 w H locs h hI => ?_)
      refine lv_lstore (lv' := [(18, .long v8), (16, .long v3), (14, .long (((p0 - p2) * (p4 - p2)) + ((p1 - p3) * (p5 - p3)))), (0, .long p0), (2, .long p1), (4, .long p2), (6, .long p3), (8, .long p4), (10, .long p5), (12, .long p6)]) hx hb d_M_fromPiece_102 hl (by decide) rfl (fun ls hl => ?_)
      refine lv_lload hx hb d_M_fromPiece_104 (lv_at hl 0 rfl) ?_
      refine lv_lload hx hb d_M_fromPiece_106 (lv_at hl 0 rfl) ?_
      refine lv_lmul hx hb d_M_fromPiece_108 ?_
      refine lv_lload hx hb d_M_fromPiece_109 (lv_at hl 9 rfl) ?_
      refine lv_lload hx hb d_M_fromPiece_111 (lv_at hl 1 rfl) ?_
      refine lv_lmul hx hb d_M_fromPiece_113 ?_
      refine lv_lsub hx hb d_M_fromPiece_114 ?_
      obtain ⟨u9, e10⟩ := gsome h
      refine gw_callI e10 h (gw_runS (As := [.long ((v8 * v8) - (p6 * v3))]) (rest := []) hx hb hml hown hT hK hZ hA hI (m_M_common l hst D g0 ((v8 * v8) - (p6 * v3)) w u9 e10) ce_M_common wd_1028 ⟨by decide, by decide⟩ rfl rfl hl.1 rfl (lv_room (Nat.le_of_ble_eq_true rfl)) d_M_fromPiece_115 ⟨(show 0 + 0 ≤ 0 by omega), (show 0 + 0 ≤ 0 by omega)⟩) hI hA hexc (show 0 + 0 ≤ 0 by omega) (show 0 + 0 ≤ 0 by omega) (fun v11 w H locs h hI => ?_)
      exact W.widen (show 0 ≤ 0 by omega) (show 0 ≤ 0 by omega) (hret _ _ (Option.some.inj h).symm _ _ _ _ d_M_fromPiece_118 hI)
    · have c5 := mt (lg_cmp_lt _ _).mpr c5
      have h := gie c5 h
      refine lv_lload_n hx hb d_M_fromPiece_71 rfl (lv_at hl 2 rfl) ?_
      refine lv_lload hx hb d_M_fromPiece_72 (lv_at hl 6 rfl) ?_
      refine lv_lsub hx hb d_M_fromPiece_74 ?_
      refine lv_lload_n hx hb d_M_fromPiece_75 rfl (lv_at hl 3 rfl) ?_
      refine lv_lload hx hb d_M_fromPiece_76 (lv_at hl 7 rfl) ?_
      refine lv_lsub hx hb d_M_fromPiece_78 ?_
      obtain ⟨u12, e13⟩ := gsome h
      refine gw_callJ e13 h (gw_runS (As := [.long (p0 - p4), .long (p1 - p5)]) (rest := []) hx hb hml hown hT hK hZ hA hI (m_M_square l hst D g0 (p0 - p4) (p1 - p5) w u12 e13) ce_M_square wd_1025 ⟨by decide, by decide⟩ rfl rfl hl.1 rfl (lv_room (Nat.le_of_ble_eq_true rfl)) d_M_fromPiece_79 ⟨(show 0 + 0 ≤ 0 by omega), (show 0 + 0 ≤ 0 by omega)⟩) hI hA hexc (show 0 + 0 ≤ 0 by omega) (show 0 + 0 ≤ 0 by omega) (fun v14 w H locs h hI => ?_)
      refine lv_lload hx hb d_M_fromPiece_82 (lv_at hl 8 rfl) ?_
      refine lv_lsub hx hb d_M_fromPiece_84 ?_
      obtain ⟨u15, e16⟩ := gsome h
      refine gw_callI e16 h (gw_runS (As := [.long (v14 - p6)]) (rest := []) hx hb hml hown hT hK hZ hA hI (m_M_common l hst D g0 (v14 - p6) w u15 e16) ce_M_common wd_1028 ⟨by decide, by decide⟩ rfl rfl hl.1 rfl (lv_room (Nat.le_of_ble_eq_true rfl)) d_M_fromPiece_85 ⟨(show 0 + 0 ≤ 0 by omega), (show 0 + 0 ≤ 0 by omega)⟩) hI hA hexc (show 0 + 0 ≤ 0 by omega) (show 0 + 0 ≤ 0 by omega) (fun v17 w H locs h hI => ?_)
      exact W.widen (show 0 ≤ 0 by omega) (show 0 ≤ 0 by omega) (hret _ _ (Option.some.inj h).symm _ _ _ _ d_M_fromPiece_88 hI)
  · have c4 := mt (lg_cmp_gt _ _).mpr c4
    have h := gie c4 h
    refine lv_lload_n hx hb d_M_fromPiece_45 rfl (lv_at hl 2 rfl) ?_
    refine lv_lload hx hb d_M_fromPiece_46 (lv_at hl 4 rfl) ?_
    refine lv_lsub hx hb d_M_fromPiece_48 ?_
    refine lv_lload_n hx hb d_M_fromPiece_49 rfl (lv_at hl 3 rfl) ?_
    refine lv_lload hx hb d_M_fromPiece_50 (lv_at hl 5 rfl) ?_
    refine lv_lsub hx hb d_M_fromPiece_52 ?_
    obtain ⟨u18, e19⟩ := gsome h
    refine gw_callJ e19 h (gw_runS (As := [.long (p0 - p2), .long (p1 - p3)]) (rest := []) hx hb hml hown hT hK hZ hA hI (m_M_square l hst D g0 (p0 - p2) (p1 - p3) w u18 e19) ce_M_square wd_1025 ⟨by decide, by decide⟩ rfl rfl hl.1 rfl (lv_room (Nat.le_of_ble_eq_true rfl)) d_M_fromPiece_53 ⟨(show 0 + 0 ≤ 0 by omega), (show 0 + 0 ≤ 0 by omega)⟩) hI hA hexc (show 0 + 0 ≤ 0 by omega) (show 0 + 0 ≤ 0 by omega) (fun v20 w H locs h hI => ?_)
    refine lv_lload hx hb d_M_fromPiece_56 (lv_at hl 8 rfl) ?_
    refine lv_lsub hx hb d_M_fromPiece_58 ?_
    obtain ⟨u21, e22⟩ := gsome h
    refine gw_callI e22 h (gw_runS (As := [.long (v20 - p6)]) (rest := []) hx hb hml hown hT hK hZ hA hI (m_M_common l hst D g0 (v20 - p6) w u21 e22) ce_M_common wd_1028 ⟨by decide, by decide⟩ rfl rfl hl.1 rfl (lv_room (Nat.le_of_ble_eq_true rfl)) d_M_fromPiece_59 ⟨(show 0 + 0 ≤ 0 by omega), (show 0 + 0 ≤ 0 by omega)⟩) hI hA hexc (show 0 + 0 ≤ 0 by omega) (show 0 + 0 ≤ 0 by omega) (fun v23 w H locs h hI => ?_)
    exact W.widen (show 0 ≤ 0 by omega) (show 0 ≤ 0 by omega) (hret _ _ (Option.some.inj h).symm _ _ _ _ d_M_fromPiece_62 hI)

abbrev b_M_fromPolygon : ByteArray := prog_9_method_40_code
def y_M_fromPolygon : MethodName := ⟨"BodySolidsModel", "fromPolygon", "(IJJJ)I"⟩
theorem d_M_fromPolygon_0 : decode b_M_fromPolygon 0 = .ok (.aload_n 0, 1) := by decide +kernel
theorem d_M_fromPolygon_1 : decode b_M_fromPolygon 1 = .ok (.iload_n 1, 1) := by decide +kernel
theorem d_M_fromPolygon_2 : decode b_M_fromPolygon 2 = .ok (.lload_n 2, 1) := by decide +kernel
theorem d_M_fromPolygon_3 : decode b_M_fromPolygon 3 = .ok (.lload 4, 2) := by decide +kernel
theorem d_M_fromPolygon_5 : decode b_M_fromPolygon 5 = .ok (.invokevirtual 198, 3) := by decide +kernel
theorem d_M_fromPolygon_8 : decode b_M_fromPolygon 8 = .ok (.ifCond .eq 11, 3) := by decide +kernel
theorem d_M_fromPolygon_11 : decode b_M_fromPolygon 11 = .ok (.lconst 0, 1) := by decide +kernel
theorem d_M_fromPolygon_12 : decode b_M_fromPolygon 12 = .ok (.lload 6, 2) := by decide +kernel
theorem d_M_fromPolygon_14 : decode b_M_fromPolygon 14 = .ok (.lsub, 1) := by decide +kernel
theorem d_M_fromPolygon_15 : decode b_M_fromPolygon 15 = .ok (.invokestatic 186, 3) := by decide +kernel
theorem d_M_fromPolygon_18 : decode b_M_fromPolygon 18 = .ok (.ireturn, 1) := by decide +kernel
theorem d_M_fromPolygon_19 : decode b_M_fromPolygon 19 = .ok (.iconst 0, 1) := by decide +kernel
theorem d_M_fromPolygon_20 : decode b_M_fromPolygon 20 = .ok (.istore 8, 2) := by decide +kernel
theorem d_M_fromPolygon_22 : decode b_M_fromPolygon 22 = .ok (.iconst 0, 1) := by decide +kernel
theorem d_M_fromPolygon_23 : decode b_M_fromPolygon 23 = .ok (.istore 9, 2) := by decide +kernel
theorem d_M_fromPolygon_25 : decode b_M_fromPolygon 25 = .ok (.iload 9, 2) := by decide +kernel
theorem d_M_fromPolygon_27 : decode b_M_fromPolygon 27 = .ok (.aload_n 0, 1) := by decide +kernel
theorem d_M_fromPolygon_28 : decode b_M_fromPolygon 28 = .ok (.getfield 56, 3) := by decide +kernel
theorem d_M_fromPolygon_31 : decode b_M_fromPolygon 31 = .ok (.iload_n 1, 1) := by decide +kernel
theorem d_M_fromPolygon_32 : decode b_M_fromPolygon 32 = .ok (.iaload, 1) := by decide +kernel
theorem d_M_fromPolygon_33 : decode b_M_fromPolygon 33 = .ok (.if_icmp .ge 96, 3) := by decide +kernel
theorem d_M_fromPolygon_36 : decode b_M_fromPolygon 36 = .ok (.iload 9, 2) := by decide +kernel
theorem d_M_fromPolygon_38 : decode b_M_fromPolygon 38 = .ok (.iconst 1, 1) := by decide +kernel
theorem d_M_fromPolygon_39 : decode b_M_fromPolygon 39 = .ok (.iadd, 1) := by decide +kernel
theorem d_M_fromPolygon_40 : decode b_M_fromPolygon 40 = .ok (.aload_n 0, 1) := by decide +kernel
theorem d_M_fromPolygon_41 : decode b_M_fromPolygon 41 = .ok (.getfield 56, 3) := by decide +kernel
theorem d_M_fromPolygon_44 : decode b_M_fromPolygon 44 = .ok (.iload_n 1, 1) := by decide +kernel
theorem d_M_fromPolygon_45 : decode b_M_fromPolygon 45 = .ok (.iaload, 1) := by decide +kernel
theorem d_M_fromPolygon_46 : decode b_M_fromPolygon 46 = .ok (.irem, 1) := by decide +kernel
theorem d_M_fromPolygon_47 : decode b_M_fromPolygon 47 = .ok (.istore 10, 2) := by decide +kernel
theorem d_M_fromPolygon_49 : decode b_M_fromPolygon 49 = .ok (.lload_n 2, 1) := by decide +kernel
theorem d_M_fromPolygon_50 : decode b_M_fromPolygon 50 = .ok (.lload 4, 2) := by decide +kernel
theorem d_M_fromPolygon_52 : decode b_M_fromPolygon 52 = .ok (.aload_n 0, 1) := by decide +kernel
theorem d_M_fromPolygon_53 : decode b_M_fromPolygon 53 = .ok (.getfield 59, 3) := by decide +kernel
theorem d_M_fromPolygon_56 : decode b_M_fromPolygon 56 = .ok (.bipush 8, 2) := by decide +kernel
theorem d_M_fromPolygon_58 : decode b_M_fromPolygon 58 = .ok (.iload_n 1, 1) := by decide +kernel
theorem d_M_fromPolygon_59 : decode b_M_fromPolygon 59 = .ok (.imul, 1) := by decide +kernel
theorem d_M_fromPolygon_60 : decode b_M_fromPolygon 60 = .ok (.iload 9, 2) := by decide +kernel
theorem d_M_fromPolygon_62 : decode b_M_fromPolygon 62 = .ok (.iadd, 1) := by decide +kernel
theorem d_M_fromPolygon_63 : decode b_M_fromPolygon 63 = .ok (.laload, 1) := by decide +kernel
theorem d_M_fromPolygon_64 : decode b_M_fromPolygon 64 = .ok (.aload_n 0, 1) := by decide +kernel
theorem d_M_fromPolygon_65 : decode b_M_fromPolygon 65 = .ok (.getfield 62, 3) := by decide +kernel
theorem d_M_fromPolygon_68 : decode b_M_fromPolygon 68 = .ok (.bipush 8, 2) := by decide +kernel
theorem d_M_fromPolygon_70 : decode b_M_fromPolygon 70 = .ok (.iload_n 1, 1) := by decide +kernel
theorem d_M_fromPolygon_71 : decode b_M_fromPolygon 71 = .ok (.imul, 1) := by decide +kernel
theorem d_M_fromPolygon_72 : decode b_M_fromPolygon 72 = .ok (.iload 9, 2) := by decide +kernel
theorem d_M_fromPolygon_74 : decode b_M_fromPolygon 74 = .ok (.iadd, 1) := by decide +kernel
theorem d_M_fromPolygon_75 : decode b_M_fromPolygon 75 = .ok (.laload, 1) := by decide +kernel
theorem d_M_fromPolygon_76 : decode b_M_fromPolygon 76 = .ok (.aload_n 0, 1) := by decide +kernel
theorem d_M_fromPolygon_77 : decode b_M_fromPolygon 77 = .ok (.getfield 59, 3) := by decide +kernel
theorem d_M_fromPolygon_80 : decode b_M_fromPolygon 80 = .ok (.bipush 8, 2) := by decide +kernel
theorem d_M_fromPolygon_82 : decode b_M_fromPolygon 82 = .ok (.iload_n 1, 1) := by decide +kernel
theorem d_M_fromPolygon_83 : decode b_M_fromPolygon 83 = .ok (.imul, 1) := by decide +kernel
theorem d_M_fromPolygon_84 : decode b_M_fromPolygon 84 = .ok (.iload 10, 2) := by decide +kernel
theorem d_M_fromPolygon_86 : decode b_M_fromPolygon 86 = .ok (.iadd, 1) := by decide +kernel
theorem d_M_fromPolygon_87 : decode b_M_fromPolygon 87 = .ok (.laload, 1) := by decide +kernel
theorem d_M_fromPolygon_88 : decode b_M_fromPolygon 88 = .ok (.aload_n 0, 1) := by decide +kernel
theorem d_M_fromPolygon_89 : decode b_M_fromPolygon 89 = .ok (.getfield 62, 3) := by decide +kernel
theorem d_M_fromPolygon_92 : decode b_M_fromPolygon 92 = .ok (.bipush 8, 2) := by decide +kernel
theorem d_M_fromPolygon_94 : decode b_M_fromPolygon 94 = .ok (.iload_n 1, 1) := by decide +kernel
theorem d_M_fromPolygon_95 : decode b_M_fromPolygon 95 = .ok (.imul, 1) := by decide +kernel
theorem d_M_fromPolygon_96 : decode b_M_fromPolygon 96 = .ok (.iload 10, 2) := by decide +kernel
theorem d_M_fromPolygon_98 : decode b_M_fromPolygon 98 = .ok (.iadd, 1) := by decide +kernel
theorem d_M_fromPolygon_99 : decode b_M_fromPolygon 99 = .ok (.laload, 1) := by decide +kernel
theorem d_M_fromPolygon_100 : decode b_M_fromPolygon 100 = .ok (.lload 6, 2) := by decide +kernel
theorem d_M_fromPolygon_102 : decode b_M_fromPolygon 102 = .ok (.invokestatic 202, 3) := by decide +kernel
theorem d_M_fromPolygon_105 : decode b_M_fromPolygon 105 = .ok (.istore 11, 2) := by decide +kernel
theorem d_M_fromPolygon_107 : decode b_M_fromPolygon 107 = .ok (.iload 11, 2) := by decide +kernel
theorem d_M_fromPolygon_109 : decode b_M_fromPolygon 109 = .ok (.iload 8, 2) := by decide +kernel
theorem d_M_fromPolygon_111 : decode b_M_fromPolygon 111 = .ok (.if_icmp .le 8, 3) := by decide +kernel
theorem d_M_fromPolygon_114 : decode b_M_fromPolygon 114 = .ok (.iload 11, 2) := by decide +kernel
theorem d_M_fromPolygon_116 : decode b_M_fromPolygon 116 = .ok (.goto 5, 3) := by decide +kernel
theorem d_M_fromPolygon_119 : decode b_M_fromPolygon 119 = .ok (.iload 8, 2) := by decide +kernel
theorem d_M_fromPolygon_121 : decode b_M_fromPolygon 121 = .ok (.istore 8, 2) := by decide +kernel
theorem d_M_fromPolygon_123 : decode b_M_fromPolygon 123 = .ok (.iinc 9 1, 3) := by decide +kernel
theorem d_M_fromPolygon_126 : decode b_M_fromPolygon 126 = .ok (.goto (-101), 3) := by decide +kernel
theorem d_M_fromPolygon_129 : decode b_M_fromPolygon 129 = .ok (.iload 8, 2) := by decide +kernel
theorem d_M_fromPolygon_131 : decode b_M_fromPolygon 131 = .ok (.ireturn, 1) := by decide +kernel
abbrev rm_M_fromPolygon : Room := { frames := 2, cells := 0, slots := 0, locals := 70 }
theorem ce_M_fromPolygon : gCe y_M_fromPolygon (.code y_M_fromPolygon b_M_fromPolygon 12 (some .int)) 12 4 false := gCe.code wd_1043 wd_57 wd_1042 (by decide) (by decide +kernel)
def f_M_fromPolygon_L25 (g0 : gG) (c0 : Nat) (c1 : Int32) (c2 : Int64) (c4 : Int64) (c6 : Int64) (K129 : Int32 → gW → gX Int32) : Nat → Int32 → Int32 → gW → gX Int32
  | 0, _, _, _ => none
  | n + 1, z8, z9, w => (gfA w c0 7 21).bind fun v8 => (gaI w v8 c1).bind fun v10 => if v10 ≤ z9 then (K129 z8 w) else ((gfA w c0 7 21).bind fun v13 => (gaI w v13 c1).bind fun v15 => gguard (¬ v15 = 0) ((gfA w c0 7 22).bind fun v18 => (gaJ w v18 ((8 * c1) + z9)).bind fun v20 => (gfA w c0 7 23).bind fun v22 => (gaJ w v22 ((8 * c1) + z9)).bind fun v24 => (gfA w c0 7 22).bind fun v26 => (gaJ w v26 ((8 * c1) + ((z9 + 1) - (z9 + 1) / v15 * v15))).bind fun v28 => (gfA w c0 7 23).bind fun v30 => (gaJ w v30 ((8 * c1) + ((z9 + 1) - (z9 + 1) / v15 * v15))).bind fun v32 => gbind (f_M_fromPiece g0 c2 c4 v20 v24 v28 v32 c6 w) fun v36 w => gjoin (fun K121 => if v36 ≤ z8 then (K121 z8 w) else (K121 v36 w)) (fun (y37 : Int32) (w : gW) => f_M_fromPolygon_L25 g0 c0 c1 c2 c4 c6 K129 n y37 (z9 + 1) w)))
def f_M_fromPolygon (g0 : gG) (a0 : Nat) (p1 : Int32) (p2 : Int64) (p3 : Int64) (p4 : Int64) (w : gW) : gX Int32 := (gck w a0 7).bind fun _ => gbind (f_M_isIn g0 a0 p1 p2 p3 w) fun v5 w => if v5 = 0 then (gjoin (fun K129 => f_M_fromPolygon_L25 g0 a0 p1 p2 p3 p4 K129 64 0 0 w) (fun (x7 : Int32) (w : gW) => some (.inr x7, w))) else (gbind (f_M_common g0 (0 - p4) w) fun v43 w => some (.inr v43, w))
set_option maxHeartbeats 4000000 in
set_option maxRecDepth 100000 in
theorem m_M_fromPolygon (l : Launch) (hst : l.stackTraces = false) (D : gD) (g0 : gG) (a0 : Nat) (p1 : Int32) (p2 : Int64) (p3 : Int64) (p4 : Int64) (w : gW) (r : (String ⊕ Int32) × gW) (h : f_M_fromPolygon g0 a0 p1 p2 p3 p4 w = some r) : gMet l y_M_fromPolygon (.code y_M_fromPolygon b_M_fromPolygon 12 (some .int)) rm_M_fromPolygon D g0 [.ref a0, .int p1, .long p2, .long p3, .long p4] w (goI r) := by
  refine gw_ofI (by decide +kernel) (Nat.le_of_ble_eq_true rfl) ?_
  intro p e s m below meth c ls args A Q hx hb hml hown hlocks hin hnt hT hK hZ hA hret hexc hthr hI hl
  obtain ⟨H, hH⟩ : ∃ H, H = s.heap := ⟨_, rfl⟩
  rw [← hH] at hI ⊢
  obtain ⟨locs, hlocs⟩ : ∃ z : List Loc, z = [] := ⟨_, rfl⟩
  rw [← hlocs] at hI ⊢
  have hl : lv_has ls 12 [(0, .ref a0), (1, .int p1), (2, .long p2), (4, .long p3), (6, .long p4)] := hl
  unfold f_M_fromPolygon at h
  refine lv_aload_n hx hb d_M_fromPolygon_0 rfl (lv_at hl 0 rfl) ?_
  refine lv_iload_n hx hb d_M_fromPolygon_1 rfl (lv_at hl 1 rfl) ?_
  refine lv_lload_n hx hb d_M_fromPolygon_2 rfl (lv_at hl 2 rfl) ?_
  refine lv_lload hx hb d_M_fromPolygon_3 (lv_at hl 3 rfl) ?_
  obtain ⟨q3, e4, h⟩ := gb h
  obtain ⟨u1, e2⟩ := gsome h
  refine gw_callI e2 h (gw_runV (As := [.int p1, .long p2, .long p3]) (rest := []) hx hb hml hown hT hK hZ hA hI (ci := 7) rfl e4 (m_M_isIn l hst D g0 a0 p1 p2 p3 w u1 e2) ce_M_isIn wd_1044 wd_40 ⟨by decide, by decide⟩ rfl rfl hl.1 rfl (lv_room (Nat.le_of_ble_eq_true rfl)) d_M_fromPolygon_5 ⟨(show 0 + 0 ≤ 0 by omega), (show 0 + 0 ≤ 0 by omega)⟩) hI hA hexc (show 0 + 0 ≤ 0 by omega) (show 0 + 0 ≤ 0 by omega) (fun v5 w H locs h hI => ?_)
  refine lv_if_eq (tgt := 19) hx hb d_M_fromPolygon_8 (by decide) (fun c6 => ?_) (fun c6 => ?_)
  · skip
    have h := git c6 h
    refine lv_iconst (v := 0) hx hb d_M_fromPolygon_19 (by decide) ?_
    refine lv_istore (lv' := [(8, .int 0), (0, .ref a0), (1, .int p1), (2, .long p2), (4, .long p3), (6, .long p4)]) hx hb d_M_fromPolygon_20 hl (by decide) rfl (fun ls hl => ?_)
    refine lv_iconst (v := 0) hx hb d_M_fromPolygon_22 (by decide) ?_
    refine lv_istore (lv' := [(9, .int 0), (8, .int 0), (0, .ref a0), (1, .int p1), (2, .long p2), (4, .long p3), (6, .long p4)]) hx hb d_M_fromPolygon_23 hl (by decide) rfl (fun ls hl => ?_)
    obtain ⟨K129, eK129, h⟩ := gj h
    have hK129 : ∀ (x7 : Int32) (w : gW) (H : Heap) (locs : List Loc) (ls : Array Slot), K129 x7 w = some r → gI D s A w H locs → lv_has ls 12 [(8, .int x7)] → W p l e rm_M_fromPolygon s m args below meth c H locs 0 0 Q (F0 m 129 ls []) := by
      intro x7 w H locs ls h hI hl
      have h := gk2 eK129 h
      refine lv_iload hx hb d_M_fromPolygon_129 (lv_at hl 0 rfl) ?_
      exact W.widen (show 0 ≤ 0 by omega) (show 0 ≤ 0 by omega) (hret _ _ (Option.some.inj h).symm _ _ _ _ d_M_fromPolygon_131 hI)
    have hL25 : ∀ (n : Nat), ∀ (z8 : Int32) (z9 : Int32) (w : gW) (H : Heap) (locs : List Loc) (ls : Array Slot), f_M_fromPolygon_L25 g0 a0 p1 p2 p3 p4 K129 n z8 z9 w = some r → gI D s A w H locs → lv_has ls 12 [(0, .ref a0), (1, .int p1), (2, .long p2), (4, .long p3), (6, .long p4), (8, .int z8), (9, .int z9)] → W p l e rm_M_fromPolygon s m args below meth c H locs 0 0 Q (F0 m 25 ls []) := by
      intro n
      induction n with
      | zero => intro z8 z9 w H locs ls h hI hl; exact absurd h (by simp [f_M_fromPolygon_L25])
      | succ n ih =>
        intro z8 z9 w H locs ls h hI hl
        rw [f_M_fromPolygon_L25] at h
        refine lv_iload hx hb d_M_fromPolygon_25 (lv_at hl 6 rfl) ?_
        refine lv_aload_n hx hb d_M_fromPolygon_27 rfl (lv_at hl 0 rfl) ?_
        obtain ⟨v10, e11, h⟩ := gb h
        refine gw_getA hx hb hT hown hK hI (ci := 7) rfl i_7 21 (by decide) wd_807 (fun _ h9 => h9) e11 d_M_fromPolygon_28 ?_
        refine lv_iload_n hx hb d_M_fromPolygon_31 rfl (lv_at hl 1 rfl) ?_
        obtain ⟨v12, e13, h⟩ := gb h
        refine gw_aldI hx hb hK hI e13 d_M_fromPolygon_32 ?_
        refine lv_icmp_ge (tgt := 129) hx hb d_M_fromPolygon_33 (by decide) (fun c14 => ?_) (fun c14 => ?_)
        · skip
          have h := git c14 h
          exact hK129 _ w H locs ls h hI (lv_sub hl [5] rfl)
        · skip
          have h := gie c14 h
          refine lv_iload hx hb d_M_fromPolygon_36 (lv_at hl 6 rfl) ?_
          refine lv_iconst (v := 1) hx hb d_M_fromPolygon_38 (by decide) ?_
          refine lv_iadd hx hb d_M_fromPolygon_39 ?_
          refine lv_aload_n hx hb d_M_fromPolygon_40 rfl (lv_at hl 0 rfl) ?_
          obtain ⟨v15, e16, h⟩ := gb h
          refine gw_getA hx hb hT hown hK hI (ci := 7) rfl i_7 21 (by decide) wd_807 (fun _ h9 => h9) e16 d_M_fromPolygon_41 ?_
          refine lv_iload_n hx hb d_M_fromPolygon_44 rfl (lv_at hl 1 rfl) ?_
          obtain ⟨v17, e18, h⟩ := gb h
          refine gw_aldI hx hb hK hI e18 d_M_fromPolygon_45 ?_
          obtain ⟨g19, h⟩ := gif h
          refine lv_irem hx hb d_M_fromPolygon_46 g19 ?_
          refine lv_istore (lv' := [(10, .int ((z9 + 1) - (z9 + 1) / v17 * v17)), (0, .ref a0), (1, .int p1), (2, .long p2), (4, .long p3), (6, .long p4), (8, .int z8), (9, .int z9)]) hx hb d_M_fromPolygon_47 hl (by decide) rfl (fun ls hl => ?_)
          refine lv_lload_n hx hb d_M_fromPolygon_49 rfl (lv_at hl 3 rfl) ?_
          refine lv_lload hx hb d_M_fromPolygon_50 (lv_at hl 4 rfl) ?_
          refine lv_aload_n hx hb d_M_fromPolygon_52 rfl (lv_at hl 1 rfl) ?_
          obtain ⟨v20, e21, h⟩ := gb h
          refine gw_getA hx hb hT hown hK hI (ci := 7) rfl i_7 22 (by decide) wd_808 (fun _ h9 => h9) e21 d_M_fromPolygon_53 ?_
          refine lv_bipush (v := 8) hx hb d_M_fromPolygon_56 (by decide) ?_
          refine lv_iload_n hx hb d_M_fromPolygon_58 rfl (lv_at hl 2 rfl) ?_
          refine lv_imul hx hb d_M_fromPolygon_59 ?_
          refine lv_iload hx hb d_M_fromPolygon_60 (lv_at hl 7 rfl) ?_
          refine lv_iadd hx hb d_M_fromPolygon_62 ?_
          obtain ⟨v22, e23, h⟩ := gb h
          refine gw_aldJ hx hb hK hI e23 d_M_fromPolygon_63 ?_
          refine lv_aload_n hx hb d_M_fromPolygon_64 rfl (lv_at hl 1 rfl) ?_
          obtain ⟨v24, e25, h⟩ := gb h
          refine gw_getA hx hb hT hown hK hI (ci := 7) rfl i_7 23 (by decide) wd_809 (fun _ h9 => h9) e25 d_M_fromPolygon_65 ?_
          refine lv_bipush (v := 8) hx hb d_M_fromPolygon_68 (by decide) ?_
          refine lv_iload_n hx hb d_M_fromPolygon_70 rfl (lv_at hl 2 rfl) ?_
          refine lv_imul hx hb d_M_fromPolygon_71 ?_
          refine lv_iload hx hb d_M_fromPolygon_72 (lv_at hl 7 rfl) ?_
          refine lv_iadd hx hb d_M_fromPolygon_74 ?_
          obtain ⟨v26, e27, h⟩ := gb h
          refine gw_aldJ hx hb hK hI e27 d_M_fromPolygon_75 ?_
          refine lv_aload_n hx hb d_M_fromPolygon_76 rfl (lv_at hl 1 rfl) ?_
          obtain ⟨v28, e29, h⟩ := gb h
          refine gw_getA hx hb hT hown hK hI (ci := 7) rfl i_7 22 (by decide) wd_808 (fun _ h9 => h9) e29 d_M_fromPolygon_77 ?_
          refine lv_bipush (v := 8) hx hb d_M_fromPolygon_80 (by decide) ?_
          refine lv_iload_n hx hb d_M_fromPolygon_82 rfl (lv_at hl 2 rfl) ?_
          refine lv_imul hx hb d_M_fromPolygon_83 ?_
          refine lv_iload hx hb d_M_fromPolygon_84 (lv_at hl 0 rfl) ?_
          refine lv_iadd hx hb d_M_fromPolygon_86 ?_
          obtain ⟨v30, e31, h⟩ := gb h
          refine gw_aldJ hx hb hK hI e31 d_M_fromPolygon_87 ?_
          refine lv_aload_n hx hb d_M_fromPolygon_88 rfl (lv_at hl 1 rfl) ?_
          obtain ⟨v32, e33, h⟩ := gb h
          refine gw_getA hx hb hT hown hK hI (ci := 7) rfl i_7 23 (by decide) wd_809 (fun _ h9 => h9) e33 d_M_fromPolygon_89 ?_
          refine lv_bipush (v := 8) hx hb d_M_fromPolygon_92 (by decide) ?_
          refine lv_iload_n hx hb d_M_fromPolygon_94 rfl (lv_at hl 2 rfl) ?_
          refine lv_imul hx hb d_M_fromPolygon_95 ?_
          refine lv_iload hx hb d_M_fromPolygon_96 (lv_at hl 0 rfl) ?_
          refine lv_iadd hx hb d_M_fromPolygon_98 ?_
          obtain ⟨v34, e35, h⟩ := gb h
          refine gw_aldJ hx hb hK hI e35 d_M_fromPolygon_99 ?_
          refine lv_lload hx hb d_M_fromPolygon_100 (lv_at hl 5 rfl) ?_
          obtain ⟨u36, e37⟩ := gsome h
          refine gw_callI e37 h (gw_runS (As := [.long p2, .long p3, .long v22, .long v26, .long v30, .long v34, .long p4]) (rest := []) hx hb hml hown hT hK hZ hA hI (m_M_fromPiece l hst D g0 p2 p3 v22 v26 v30 v34 p4 w u36 e37) ce_M_fromPiece wd_1048 ⟨by decide, by decide⟩ rfl rfl hl.1 rfl (lv_room (Nat.le_of_ble_eq_true rfl)) d_M_fromPolygon_102 ⟨(show 0 + 0 ≤ 0 by omega), (show 0 + 0 ≤ 0 by omega)⟩) hI hA hexc (show 0 + 0 ≤ 0 by omega) (show 0 + 0 ≤ 0 by omega) (fun v38 w H locs h hI => ?_)
          refine lv_istore (lv' := [(11, .int v38), (10, .int ((z9 + 1) - (z9 + 1) / v17 * v17)), (0, .ref a0), (1, .int p1), (2, .long p2), (4, .long p3), (6, .long p4), (8, .int z8), (9, .int z9)]) hx hb d_M_fromPolygon_105 hl (by decide) rfl (fun ls hl => ?_)
          refine lv_iload hx hb d_M_fromPolygon_107 (lv_at hl 0 rfl) ?_
          refine lv_iload hx hb d_M_fromPolygon_109 (lv_at hl 7 rfl) ?_
          obtain ⟨K121, eK121, h⟩ := gj h
          have hK121 : ∀ (y39 : Int32) (w : gW) (H : Heap) (locs : List Loc) (ls : Array Slot), K121 y39 w = some r → gI D s A w H locs → lv_has ls 12 [(0, .ref a0), (1, .int p1), (2, .long p2), (4, .long p3), (6, .long p4), (9, .int z9)] → W p l e rm_M_fromPolygon s m args below meth c H locs 0 0 Q (F0 m 121 ls [.int y39]) := by
            intro y39 w H locs ls h hI hl
            have h := gk2 eK121 h
            refine lv_istore (lv' := [(8, .int y39), (0, .ref a0), (1, .int p1), (2, .long p2), (4, .long p3), (6, .long p4), (9, .int z9)]) hx hb d_M_fromPolygon_121 hl (by decide) rfl (fun ls hl => ?_)
            refine lv_iinc (v := z9 + 1) (lv' := [(9, .int (z9 + 1)), (8, .int y39), (0, .ref a0), (1, .int p1), (2, .long p2), (4, .long p3), (6, .long p4)]) hx hb d_M_fromPolygon_123 hl (k := 6) rfl rfl (by decide) rfl (fun ls hl => ?_)
            refine lv_goto (tgt := 25) hx hb d_M_fromPolygon_126 (by decide) ?_
            exact ih _ _ w H locs ls h hI (lv_sub hl [2, 3, 4, 5, 6, 1, 0] rfl)
          refine lv_icmp_le (tgt := 119) hx hb d_M_fromPolygon_111 (by decide) (fun c40 => ?_) (fun c40 => ?_)
          · skip
            have h := git c40 h
            refine lv_iload hx hb d_M_fromPolygon_119 (lv_at hl 7 rfl) ?_
            exact hK121 _ w H locs ls h hI (lv_sub hl [2, 3, 4, 5, 6, 8] rfl)
          · skip
            have h := gie c40 h
            refine lv_iload hx hb d_M_fromPolygon_114 (lv_at hl 0 rfl) ?_
            refine lv_goto (tgt := 121) hx hb d_M_fromPolygon_116 (by decide) ?_
            exact hK121 _ w H locs ls h hI (lv_sub hl [2, 3, 4, 5, 6, 8] rfl)
    exact hL25 64 _ _ w H locs ls h hI (lv_sub hl [2, 3, 4, 5, 6, 1, 0] rfl)
  · skip
    have h := gie c6 h
    refine lv_lconst (v := 0) hx hb d_M_fromPolygon_11 (by decide) ?_
    refine lv_lload hx hb d_M_fromPolygon_12 (lv_at hl 4 rfl) ?_
    refine lv_lsub hx hb d_M_fromPolygon_14 ?_
    obtain ⟨u41, e42⟩ := gsome h
    refine gw_callI e42 h (gw_runS (As := [.long (0 - p4)]) (rest := []) hx hb hml hown hT hK hZ hA hI (m_M_common l hst D g0 (0 - p4) w u41 e42) ce_M_common wd_1028 ⟨by decide, by decide⟩ rfl rfl hl.1 rfl (lv_room (Nat.le_of_ble_eq_true rfl)) d_M_fromPolygon_15 ⟨(show 0 + 0 ≤ 0 by omega), (show 0 + 0 ≤ 0 by omega)⟩) hI hA hexc (show 0 + 0 ≤ 0 by omega) (show 0 + 0 ≤ 0 by omega) (fun v43 w H locs h hI => ?_)
    exact W.widen (show 0 ≤ 0 by omega) (show 0 ≤ 0 by omega) (hret _ _ (Option.some.inj h).symm _ _ _ _ d_M_fromPolygon_18 hI)

abbrev b_M_turn : ByteArray := prog_9_method_41_code
def y_M_turn : MethodName := ⟨"BodySolidsModel", "turn", "(JJJJJJ)J"⟩
theorem d_M_turn_0 : decode b_M_turn 0 = .ok (.lload_n 0, 1) := by decide +kernel
theorem d_M_turn_1 : decode b_M_turn 1 = .ok (.lload_n 2, 1) := by decide +kernel
theorem d_M_turn_2 : decode b_M_turn 2 = .ok (.lload 4, 2) := by decide +kernel
theorem d_M_turn_4 : decode b_M_turn 4 = .ok (.lload 6, 2) := by decide +kernel
theorem d_M_turn_6 : decode b_M_turn 6 = .ok (.lload 8, 2) := by decide +kernel
theorem d_M_turn_8 : decode b_M_turn 8 = .ok (.lload 10, 2) := by decide +kernel
theorem d_M_turn_10 : decode b_M_turn 10 = .ok (.invokestatic 124, 3) := by decide +kernel
theorem d_M_turn_13 : decode b_M_turn 13 = .ok (.lstore 12, 2) := by decide +kernel
theorem d_M_turn_15 : decode b_M_turn 15 = .ok (.lload 12, 2) := by decide +kernel
theorem d_M_turn_17 : decode b_M_turn 17 = .ok (.lconst 0, 1) := by decide +kernel
theorem d_M_turn_18 : decode b_M_turn 18 = .ok (.lcmp, 1) := by decide +kernel
theorem d_M_turn_19 : decode b_M_turn 19 = .ok (.ifCond .ge 9, 3) := by decide +kernel
theorem d_M_turn_22 : decode b_M_turn 22 = .ok (.ldc2_w 206, 3) := by decide +kernel
theorem d_M_turn_25 : decode b_M_turn 25 = .ok (.goto 15, 3) := by decide +kernel
theorem d_M_turn_28 : decode b_M_turn 28 = .ok (.lload 12, 2) := by decide +kernel
theorem d_M_turn_30 : decode b_M_turn 30 = .ok (.lconst 0, 1) := by decide +kernel
theorem d_M_turn_31 : decode b_M_turn 31 = .ok (.lcmp, 1) := by decide +kernel
theorem d_M_turn_32 : decode b_M_turn 32 = .ok (.ifCond .le 7, 3) := by decide +kernel
theorem d_M_turn_35 : decode b_M_turn 35 = .ok (.lconst 1, 1) := by decide +kernel
theorem d_M_turn_36 : decode b_M_turn 36 = .ok (.goto 4, 3) := by decide +kernel
theorem d_M_turn_39 : decode b_M_turn 39 = .ok (.lconst 0, 1) := by decide +kernel
theorem d_M_turn_40 : decode b_M_turn 40 = .ok (.lreturn, 1) := by decide +kernel
abbrev rm_M_turn : Room := { frames := 1, cells := 0, slots := 0, locals := 31 }
theorem ce_M_turn : gCe y_M_turn (.code y_M_turn b_M_turn 14 (some .long)) 14 6 true := gCe.code wd_1053 wd_57 wd_1052 (by decide) (by decide +kernel)
def f_M_turn (g0 : gG) (p0 : Int64) (p1 : Int64) (p2 : Int64) (p3 : Int64) (p4 : Int64) (p5 : Int64) (w : gW) : gX Int64 := gbind (f_M_cross g0 p0 p1 p2 p3 p4 p5 w) fun v3 w => gjoin (fun K40 => if 0 ≤ v3 then (if v3 ≤ 0 then (K40 0 w) else (K40 1 w)) else (K40 (-1) w)) (fun (y4 : Int64) (w : gW) => some (.inr y4, w))
set_option maxHeartbeats 4000000 in
set_option maxRecDepth 100000 in
theorem m_M_turn (l : Launch) (hst : l.stackTraces = false) (D : gD) (g0 : gG) (p0 : Int64) (p1 : Int64) (p2 : Int64) (p3 : Int64) (p4 : Int64) (p5 : Int64) (w : gW) (r : (String ⊕ Int64) × gW) (h : f_M_turn g0 p0 p1 p2 p3 p4 p5 w = some r) : gMet l y_M_turn (.code y_M_turn b_M_turn 14 (some .long)) rm_M_turn D g0 [.long p0, .long p1, .long p2, .long p3, .long p4, .long p5] w (goJ r) := by
  refine gw_ofJ (by decide +kernel) (Nat.le_of_ble_eq_true rfl) ?_
  intro p e s m below meth c ls args A Q hx hb hml hown hlocks hin hnt hT hK hZ hA hret hexc hthr hI hl
  obtain ⟨H, hH⟩ : ∃ H, H = s.heap := ⟨_, rfl⟩
  rw [← hH] at hI ⊢
  obtain ⟨locs, hlocs⟩ : ∃ z : List Loc, z = [] := ⟨_, rfl⟩
  rw [← hlocs] at hI ⊢
  have hl : lv_has ls 14 [(0, .long p0), (2, .long p1), (4, .long p2), (6, .long p3), (8, .long p4), (10, .long p5)] := hl
  unfold f_M_turn at h
  refine lv_lload_n hx hb d_M_turn_0 rfl (lv_at hl 0 rfl) ?_
  refine lv_lload_n hx hb d_M_turn_1 rfl (lv_at hl 1 rfl) ?_
  refine lv_lload hx hb d_M_turn_2 (lv_at hl 2 rfl) ?_
  refine lv_lload hx hb d_M_turn_4 (lv_at hl 3 rfl) ?_
  refine lv_lload hx hb d_M_turn_6 (lv_at hl 4 rfl) ?_
  refine lv_lload hx hb d_M_turn_8 (lv_at hl 5 rfl) ?_
  obtain ⟨u1, e2⟩ := gsome h
  refine gw_callJ e2 h (gw_runS (As := [.long p0, .long p1, .long p2, .long p3, .long p4, .long p5]) (rest := []) hx hb hml hown hT hK hZ hA hI (m_M_cross l hst D g0 p0 p1 p2 p3 p4 p5 w u1 e2) ce_M_cross wd_922 ⟨by decide, by decide⟩ rfl rfl hl.1 rfl (lv_room (Nat.le_of_ble_eq_true rfl)) d_M_turn_10 ⟨(show 0 + 0 ≤ 0 by omega), (show 0 + 0 ≤ 0 by omega)⟩) hI hA hexc (show 0 + 0 ≤ 0 by omega) (show 0 + 0 ≤ 0 by omega) (fun v3 w H locs h hI => ?_)
  refine lv_lstore (lv' := [(12, .long v3), (0, .long p0), (2, .long p1), (4, .long p2), (6, .long p3), (8, .long p4), (10, .long p5)]) hx hb d_M_turn_13 hl (by decide) rfl (fun ls hl => ?_)
  refine lv_lload hx hb d_M_turn_15 (lv_at hl 0 rfl) ?_
  refine lv_lconst (v := 0) hx hb d_M_turn_17 (by decide) ?_
  refine W.lcmp hx hb d_M_turn_18 ?_
  obtain ⟨K40, eK40, h⟩ := gj h
  have hK40 : ∀ (y4 : Int64) (w : gW) (H : Heap) (locs : List Loc) (ls : Array Slot), K40 y4 w = some r → gI D s A w H locs → lv_has ls 14 [] → W p l e rm_M_turn s m args below meth c H locs 0 0 Q (F0 m 40 ls [.long y4]) := by
    intro y4 w H locs ls h hI hl
    have h := gk2 eK40 h
    exact W.widen (show 0 ≤ 0 by omega) (show 0 ≤ 0 by omega) (hret _ _ (Option.some.inj h).symm _ _ _ _ d_M_turn_40 hI)
  refine lv_if_ge (tgt := 28) hx hb d_M_turn_19 (by decide) (fun c5 => ?_) (fun c5 => ?_)
  · have c5 := (lg_cmp_ge _ _).mp c5
    have h := git c5 h
    refine lv_lload hx hb d_M_turn_28 (lv_at hl 0 rfl) ?_
    refine lv_lconst (v := 0) hx hb d_M_turn_30 (by decide) ?_
    refine W.lcmp hx hb d_M_turn_31 ?_
    refine lv_if_le (tgt := 39) hx hb d_M_turn_32 (by decide) (fun c6 => ?_) (fun c6 => ?_)
    · have c6 := (lg_cmp_le _ _).mp c6
      have h := git c6 h
      refine lv_lconst (v := 0) hx hb d_M_turn_39 (by decide) ?_
      exact hK40 _ w H locs ls h hI (lv_sub hl [] rfl)
    · have c6 := mt (lg_cmp_le _ _).mpr c6
      have h := gie c6 h
      refine lv_lconst (v := 1) hx hb d_M_turn_35 (by decide) ?_
      refine lv_goto (tgt := 40) hx hb d_M_turn_36 (by decide) ?_
      exact hK40 _ w H locs ls h hI (lv_sub hl [] rfl)
  · have c5 := mt (lg_cmp_ge _ _).mpr c5
    have h := gie c5 h
    refine lv_ldc2 (v := (-1)) hx hb hown (hT _ wd_1054 args) d_M_turn_22 ?_
    refine lv_goto (tgt := 40) hx hb d_M_turn_25 (by decide) ?_
    exact hK40 _ w H locs ls h hI (lv_sub hl [] rfl)

abbrev b_M_coreAndPolygon : ByteArray := prog_9_method_42_code
def y_M_coreAndPolygon : MethodName := ⟨"BodySolidsModel", "coreAndPolygon", "(IJ)I"⟩
theorem d_M_coreAndPolygon_0 : decode b_M_coreAndPolygon 0 = .ok (.iconst 1, 1) := by decide +kernel
theorem d_M_coreAndPolygon_1 : decode b_M_coreAndPolygon 1 = .ok (.iload_n 1, 1) := by decide +kernel
theorem d_M_coreAndPolygon_2 : decode b_M_coreAndPolygon 2 = .ok (.isub, 1) := by decide +kernel
theorem d_M_coreAndPolygon_3 : decode b_M_coreAndPolygon 3 = .ok (.istore 4, 2) := by decide +kernel
theorem d_M_coreAndPolygon_5 : decode b_M_coreAndPolygon 5 = .ok (.aload_n 0, 1) := by decide +kernel
theorem d_M_coreAndPolygon_6 : decode b_M_coreAndPolygon 6 = .ok (.getfield 59, 3) := by decide +kernel
theorem d_M_coreAndPolygon_9 : decode b_M_coreAndPolygon 9 = .ok (.bipush 8, 2) := by decide +kernel
theorem d_M_coreAndPolygon_11 : decode b_M_coreAndPolygon 11 = .ok (.iload_n 1, 1) := by decide +kernel
theorem d_M_coreAndPolygon_12 : decode b_M_coreAndPolygon 12 = .ok (.imul, 1) := by decide +kernel
theorem d_M_coreAndPolygon_13 : decode b_M_coreAndPolygon 13 = .ok (.laload, 1) := by decide +kernel
theorem d_M_coreAndPolygon_14 : decode b_M_coreAndPolygon 14 = .ok (.lstore 5, 2) := by decide +kernel
theorem d_M_coreAndPolygon_16 : decode b_M_coreAndPolygon 16 = .ok (.aload_n 0, 1) := by decide +kernel
theorem d_M_coreAndPolygon_17 : decode b_M_coreAndPolygon 17 = .ok (.getfield 62, 3) := by decide +kernel
theorem d_M_coreAndPolygon_20 : decode b_M_coreAndPolygon 20 = .ok (.bipush 8, 2) := by decide +kernel
theorem d_M_coreAndPolygon_22 : decode b_M_coreAndPolygon 22 = .ok (.iload_n 1, 1) := by decide +kernel
theorem d_M_coreAndPolygon_23 : decode b_M_coreAndPolygon 23 = .ok (.imul, 1) := by decide +kernel
theorem d_M_coreAndPolygon_24 : decode b_M_coreAndPolygon 24 = .ok (.laload, 1) := by decide +kernel
theorem d_M_coreAndPolygon_25 : decode b_M_coreAndPolygon 25 = .ok (.lstore 7, 2) := by decide +kernel
theorem d_M_coreAndPolygon_27 : decode b_M_coreAndPolygon 27 = .ok (.aload_n 0, 1) := by decide +kernel
theorem d_M_coreAndPolygon_28 : decode b_M_coreAndPolygon 28 = .ok (.getfield 59, 3) := by decide +kernel
theorem d_M_coreAndPolygon_31 : decode b_M_coreAndPolygon 31 = .ok (.bipush 8, 2) := by decide +kernel
theorem d_M_coreAndPolygon_33 : decode b_M_coreAndPolygon 33 = .ok (.iload_n 1, 1) := by decide +kernel
theorem d_M_coreAndPolygon_34 : decode b_M_coreAndPolygon 34 = .ok (.imul, 1) := by decide +kernel
theorem d_M_coreAndPolygon_35 : decode b_M_coreAndPolygon 35 = .ok (.iconst 1, 1) := by decide +kernel
theorem d_M_coreAndPolygon_36 : decode b_M_coreAndPolygon 36 = .ok (.iadd, 1) := by decide +kernel
theorem d_M_coreAndPolygon_37 : decode b_M_coreAndPolygon 37 = .ok (.laload, 1) := by decide +kernel
theorem d_M_coreAndPolygon_38 : decode b_M_coreAndPolygon 38 = .ok (.lstore 9, 2) := by decide +kernel
theorem d_M_coreAndPolygon_40 : decode b_M_coreAndPolygon 40 = .ok (.aload_n 0, 1) := by decide +kernel
theorem d_M_coreAndPolygon_41 : decode b_M_coreAndPolygon 41 = .ok (.getfield 62, 3) := by decide +kernel
theorem d_M_coreAndPolygon_44 : decode b_M_coreAndPolygon 44 = .ok (.bipush 8, 2) := by decide +kernel
theorem d_M_coreAndPolygon_46 : decode b_M_coreAndPolygon 46 = .ok (.iload_n 1, 1) := by decide +kernel
theorem d_M_coreAndPolygon_47 : decode b_M_coreAndPolygon 47 = .ok (.imul, 1) := by decide +kernel
theorem d_M_coreAndPolygon_48 : decode b_M_coreAndPolygon 48 = .ok (.iconst 1, 1) := by decide +kernel
theorem d_M_coreAndPolygon_49 : decode b_M_coreAndPolygon 49 = .ok (.iadd, 1) := by decide +kernel
theorem d_M_coreAndPolygon_50 : decode b_M_coreAndPolygon 50 = .ok (.laload, 1) := by decide +kernel
theorem d_M_coreAndPolygon_51 : decode b_M_coreAndPolygon 51 = .ok (.lstore 11, 2) := by decide +kernel
theorem d_M_coreAndPolygon_53 : decode b_M_coreAndPolygon 53 = .ok (.aload_n 0, 1) := by decide +kernel
theorem d_M_coreAndPolygon_54 : decode b_M_coreAndPolygon 54 = .ok (.iload 4, 2) := by decide +kernel
theorem d_M_coreAndPolygon_56 : decode b_M_coreAndPolygon 56 = .ok (.lload 5, 2) := by decide +kernel
theorem d_M_coreAndPolygon_58 : decode b_M_coreAndPolygon 58 = .ok (.lload 7, 2) := by decide +kernel
theorem d_M_coreAndPolygon_60 : decode b_M_coreAndPolygon 60 = .ok (.lload_n 2, 1) := by decide +kernel
theorem d_M_coreAndPolygon_61 : decode b_M_coreAndPolygon 61 = .ok (.invokevirtual 208, 3) := by decide +kernel
theorem d_M_coreAndPolygon_64 : decode b_M_coreAndPolygon 64 = .ok (.istore 13, 2) := by decide +kernel
theorem d_M_coreAndPolygon_66 : decode b_M_coreAndPolygon 66 = .ok (.aload_n 0, 1) := by decide +kernel
theorem d_M_coreAndPolygon_67 : decode b_M_coreAndPolygon 67 = .ok (.iload 4, 2) := by decide +kernel
theorem d_M_coreAndPolygon_69 : decode b_M_coreAndPolygon 69 = .ok (.lload 9, 2) := by decide +kernel
theorem d_M_coreAndPolygon_71 : decode b_M_coreAndPolygon 71 = .ok (.lload 11, 2) := by decide +kernel
theorem d_M_coreAndPolygon_73 : decode b_M_coreAndPolygon 73 = .ok (.lload_n 2, 1) := by decide +kernel
theorem d_M_coreAndPolygon_74 : decode b_M_coreAndPolygon 74 = .ok (.invokevirtual 208, 3) := by decide +kernel
theorem d_M_coreAndPolygon_77 : decode b_M_coreAndPolygon 77 = .ok (.istore 14, 2) := by decide +kernel
theorem d_M_coreAndPolygon_79 : decode b_M_coreAndPolygon 79 = .ok (.iload 14, 2) := by decide +kernel
theorem d_M_coreAndPolygon_81 : decode b_M_coreAndPolygon 81 = .ok (.iload 13, 2) := by decide +kernel
theorem d_M_coreAndPolygon_83 : decode b_M_coreAndPolygon 83 = .ok (.if_icmp .le 8, 3) := by decide +kernel
theorem d_M_coreAndPolygon_86 : decode b_M_coreAndPolygon 86 = .ok (.iload 14, 2) := by decide +kernel
theorem d_M_coreAndPolygon_88 : decode b_M_coreAndPolygon 88 = .ok (.goto 5, 3) := by decide +kernel
theorem d_M_coreAndPolygon_91 : decode b_M_coreAndPolygon 91 = .ok (.iload 13, 2) := by decide +kernel
theorem d_M_coreAndPolygon_93 : decode b_M_coreAndPolygon 93 = .ok (.istore 13, 2) := by decide +kernel
theorem d_M_coreAndPolygon_95 : decode b_M_coreAndPolygon 95 = .ok (.bipush 8, 2) := by decide +kernel
theorem d_M_coreAndPolygon_97 : decode b_M_coreAndPolygon 97 = .ok (.iload 4, 2) := by decide +kernel
theorem d_M_coreAndPolygon_99 : decode b_M_coreAndPolygon 99 = .ok (.imul, 1) := by decide +kernel
theorem d_M_coreAndPolygon_100 : decode b_M_coreAndPolygon 100 = .ok (.istore 15, 2) := by decide +kernel
theorem d_M_coreAndPolygon_102 : decode b_M_coreAndPolygon 102 = .ok (.iload 15, 2) := by decide +kernel
theorem d_M_coreAndPolygon_104 : decode b_M_coreAndPolygon 104 = .ok (.bipush 8, 2) := by decide +kernel
theorem d_M_coreAndPolygon_106 : decode b_M_coreAndPolygon 106 = .ok (.iload 4, 2) := by decide +kernel
theorem d_M_coreAndPolygon_108 : decode b_M_coreAndPolygon 108 = .ok (.imul, 1) := by decide +kernel
theorem d_M_coreAndPolygon_109 : decode b_M_coreAndPolygon 109 = .ok (.aload_n 0, 1) := by decide +kernel
theorem d_M_coreAndPolygon_110 : decode b_M_coreAndPolygon 110 = .ok (.getfield 56, 3) := by decide +kernel
theorem d_M_coreAndPolygon_113 : decode b_M_coreAndPolygon 113 = .ok (.iload 4, 2) := by decide +kernel
theorem d_M_coreAndPolygon_115 : decode b_M_coreAndPolygon 115 = .ok (.iaload, 1) := by decide +kernel
theorem d_M_coreAndPolygon_116 : decode b_M_coreAndPolygon 116 = .ok (.iadd, 1) := by decide +kernel
theorem d_M_coreAndPolygon_117 : decode b_M_coreAndPolygon 117 = .ok (.if_icmp .ge 231, 3) := by decide +kernel
theorem d_M_coreAndPolygon_120 : decode b_M_coreAndPolygon 120 = .ok (.bipush 8, 2) := by decide +kernel
theorem d_M_coreAndPolygon_122 : decode b_M_coreAndPolygon 122 = .ok (.iload 4, 2) := by decide +kernel
theorem d_M_coreAndPolygon_124 : decode b_M_coreAndPolygon 124 = .ok (.imul, 1) := by decide +kernel
theorem d_M_coreAndPolygon_125 : decode b_M_coreAndPolygon 125 = .ok (.iload 15, 2) := by decide +kernel
theorem d_M_coreAndPolygon_127 : decode b_M_coreAndPolygon 127 = .ok (.bipush 8, 2) := by decide +kernel
theorem d_M_coreAndPolygon_129 : decode b_M_coreAndPolygon 129 = .ok (.iload 4, 2) := by decide +kernel
theorem d_M_coreAndPolygon_131 : decode b_M_coreAndPolygon 131 = .ok (.imul, 1) := by decide +kernel
theorem d_M_coreAndPolygon_132 : decode b_M_coreAndPolygon 132 = .ok (.isub, 1) := by decide +kernel
theorem d_M_coreAndPolygon_133 : decode b_M_coreAndPolygon 133 = .ok (.iconst 1, 1) := by decide +kernel
theorem d_M_coreAndPolygon_134 : decode b_M_coreAndPolygon 134 = .ok (.iadd, 1) := by decide +kernel
theorem d_M_coreAndPolygon_135 : decode b_M_coreAndPolygon 135 = .ok (.aload_n 0, 1) := by decide +kernel
theorem d_M_coreAndPolygon_136 : decode b_M_coreAndPolygon 136 = .ok (.getfield 56, 3) := by decide +kernel
theorem d_M_coreAndPolygon_139 : decode b_M_coreAndPolygon 139 = .ok (.iload 4, 2) := by decide +kernel
theorem d_M_coreAndPolygon_141 : decode b_M_coreAndPolygon 141 = .ok (.iaload, 1) := by decide +kernel
theorem d_M_coreAndPolygon_142 : decode b_M_coreAndPolygon 142 = .ok (.irem, 1) := by decide +kernel
theorem d_M_coreAndPolygon_143 : decode b_M_coreAndPolygon 143 = .ok (.iadd, 1) := by decide +kernel
theorem d_M_coreAndPolygon_144 : decode b_M_coreAndPolygon 144 = .ok (.istore 16, 2) := by decide +kernel
theorem d_M_coreAndPolygon_146 : decode b_M_coreAndPolygon 146 = .ok (.aload_n 0, 1) := by decide +kernel
theorem d_M_coreAndPolygon_147 : decode b_M_coreAndPolygon 147 = .ok (.getfield 59, 3) := by decide +kernel
theorem d_M_coreAndPolygon_150 : decode b_M_coreAndPolygon 150 = .ok (.iload 15, 2) := by decide +kernel
theorem d_M_coreAndPolygon_152 : decode b_M_coreAndPolygon 152 = .ok (.laload, 1) := by decide +kernel
theorem d_M_coreAndPolygon_153 : decode b_M_coreAndPolygon 153 = .ok (.aload_n 0, 1) := by decide +kernel
theorem d_M_coreAndPolygon_154 : decode b_M_coreAndPolygon 154 = .ok (.getfield 62, 3) := by decide +kernel
theorem d_M_coreAndPolygon_157 : decode b_M_coreAndPolygon 157 = .ok (.iload 15, 2) := by decide +kernel
theorem d_M_coreAndPolygon_159 : decode b_M_coreAndPolygon 159 = .ok (.laload, 1) := by decide +kernel
theorem d_M_coreAndPolygon_160 : decode b_M_coreAndPolygon 160 = .ok (.lload 5, 2) := by decide +kernel
theorem d_M_coreAndPolygon_162 : decode b_M_coreAndPolygon 162 = .ok (.lload 7, 2) := by decide +kernel
theorem d_M_coreAndPolygon_164 : decode b_M_coreAndPolygon 164 = .ok (.lload 9, 2) := by decide +kernel
theorem d_M_coreAndPolygon_166 : decode b_M_coreAndPolygon 166 = .ok (.lload 11, 2) := by decide +kernel
theorem d_M_coreAndPolygon_168 : decode b_M_coreAndPolygon 168 = .ok (.lload_n 2, 1) := by decide +kernel
theorem d_M_coreAndPolygon_169 : decode b_M_coreAndPolygon 169 = .ok (.invokestatic 202, 3) := by decide +kernel
theorem d_M_coreAndPolygon_172 : decode b_M_coreAndPolygon 172 = .ok (.istore 14, 2) := by decide +kernel
theorem d_M_coreAndPolygon_174 : decode b_M_coreAndPolygon 174 = .ok (.lload 5, 2) := by decide +kernel
theorem d_M_coreAndPolygon_176 : decode b_M_coreAndPolygon 176 = .ok (.lload 7, 2) := by decide +kernel
theorem d_M_coreAndPolygon_178 : decode b_M_coreAndPolygon 178 = .ok (.lload 9, 2) := by decide +kernel
theorem d_M_coreAndPolygon_180 : decode b_M_coreAndPolygon 180 = .ok (.lload 11, 2) := by decide +kernel
theorem d_M_coreAndPolygon_182 : decode b_M_coreAndPolygon 182 = .ok (.aload_n 0, 1) := by decide +kernel
theorem d_M_coreAndPolygon_183 : decode b_M_coreAndPolygon 183 = .ok (.getfield 59, 3) := by decide +kernel
theorem d_M_coreAndPolygon_186 : decode b_M_coreAndPolygon 186 = .ok (.iload 15, 2) := by decide +kernel
theorem d_M_coreAndPolygon_188 : decode b_M_coreAndPolygon 188 = .ok (.laload, 1) := by decide +kernel
theorem d_M_coreAndPolygon_189 : decode b_M_coreAndPolygon 189 = .ok (.aload_n 0, 1) := by decide +kernel
theorem d_M_coreAndPolygon_190 : decode b_M_coreAndPolygon 190 = .ok (.getfield 62, 3) := by decide +kernel
theorem d_M_coreAndPolygon_193 : decode b_M_coreAndPolygon 193 = .ok (.iload 15, 2) := by decide +kernel
theorem d_M_coreAndPolygon_195 : decode b_M_coreAndPolygon 195 = .ok (.laload, 1) := by decide +kernel
theorem d_M_coreAndPolygon_196 : decode b_M_coreAndPolygon 196 = .ok (.invokestatic 212, 3) := by decide +kernel
theorem d_M_coreAndPolygon_199 : decode b_M_coreAndPolygon 199 = .ok (.lload 5, 2) := by decide +kernel
theorem d_M_coreAndPolygon_201 : decode b_M_coreAndPolygon 201 = .ok (.lload 7, 2) := by decide +kernel
theorem d_M_coreAndPolygon_203 : decode b_M_coreAndPolygon 203 = .ok (.lload 9, 2) := by decide +kernel
theorem d_M_coreAndPolygon_205 : decode b_M_coreAndPolygon 205 = .ok (.lload 11, 2) := by decide +kernel
theorem d_M_coreAndPolygon_207 : decode b_M_coreAndPolygon 207 = .ok (.aload_n 0, 1) := by decide +kernel
theorem d_M_coreAndPolygon_208 : decode b_M_coreAndPolygon 208 = .ok (.getfield 59, 3) := by decide +kernel
theorem d_M_coreAndPolygon_211 : decode b_M_coreAndPolygon 211 = .ok (.iload 16, 2) := by decide +kernel
theorem d_M_coreAndPolygon_213 : decode b_M_coreAndPolygon 213 = .ok (.laload, 1) := by decide +kernel
theorem d_M_coreAndPolygon_214 : decode b_M_coreAndPolygon 214 = .ok (.aload_n 0, 1) := by decide +kernel
theorem d_M_coreAndPolygon_215 : decode b_M_coreAndPolygon 215 = .ok (.getfield 62, 3) := by decide +kernel
theorem d_M_coreAndPolygon_218 : decode b_M_coreAndPolygon 218 = .ok (.iload 16, 2) := by decide +kernel
theorem d_M_coreAndPolygon_220 : decode b_M_coreAndPolygon 220 = .ok (.laload, 1) := by decide +kernel
theorem d_M_coreAndPolygon_221 : decode b_M_coreAndPolygon 221 = .ok (.invokestatic 212, 3) := by decide +kernel
theorem d_M_coreAndPolygon_224 : decode b_M_coreAndPolygon 224 = .ok (.lmul, 1) := by decide +kernel
theorem d_M_coreAndPolygon_225 : decode b_M_coreAndPolygon 225 = .ok (.lconst 0, 1) := by decide +kernel
theorem d_M_coreAndPolygon_226 : decode b_M_coreAndPolygon 226 = .ok (.lcmp, 1) := by decide +kernel
theorem d_M_coreAndPolygon_227 : decode b_M_coreAndPolygon 227 = .ok (.ifCond .ge 83, 3) := by decide +kernel
theorem d_M_coreAndPolygon_230 : decode b_M_coreAndPolygon 230 = .ok (.aload_n 0, 1) := by decide +kernel
theorem d_M_coreAndPolygon_231 : decode b_M_coreAndPolygon 231 = .ok (.getfield 59, 3) := by decide +kernel
theorem d_M_coreAndPolygon_234 : decode b_M_coreAndPolygon 234 = .ok (.iload 15, 2) := by decide +kernel
theorem d_M_coreAndPolygon_236 : decode b_M_coreAndPolygon 236 = .ok (.laload, 1) := by decide +kernel
theorem d_M_coreAndPolygon_237 : decode b_M_coreAndPolygon 237 = .ok (.aload_n 0, 1) := by decide +kernel
theorem d_M_coreAndPolygon_238 : decode b_M_coreAndPolygon 238 = .ok (.getfield 62, 3) := by decide +kernel
theorem d_M_coreAndPolygon_241 : decode b_M_coreAndPolygon 241 = .ok (.iload 15, 2) := by decide +kernel
theorem d_M_coreAndPolygon_243 : decode b_M_coreAndPolygon 243 = .ok (.laload, 1) := by decide +kernel
theorem d_M_coreAndPolygon_244 : decode b_M_coreAndPolygon 244 = .ok (.aload_n 0, 1) := by decide +kernel
theorem d_M_coreAndPolygon_245 : decode b_M_coreAndPolygon 245 = .ok (.getfield 59, 3) := by decide +kernel
theorem d_M_coreAndPolygon_248 : decode b_M_coreAndPolygon 248 = .ok (.iload 16, 2) := by decide +kernel
theorem d_M_coreAndPolygon_250 : decode b_M_coreAndPolygon 250 = .ok (.laload, 1) := by decide +kernel
theorem d_M_coreAndPolygon_251 : decode b_M_coreAndPolygon 251 = .ok (.aload_n 0, 1) := by decide +kernel
theorem d_M_coreAndPolygon_252 : decode b_M_coreAndPolygon 252 = .ok (.getfield 62, 3) := by decide +kernel
theorem d_M_coreAndPolygon_255 : decode b_M_coreAndPolygon 255 = .ok (.iload 16, 2) := by decide +kernel
theorem d_M_coreAndPolygon_257 : decode b_M_coreAndPolygon 257 = .ok (.laload, 1) := by decide +kernel
theorem d_M_coreAndPolygon_258 : decode b_M_coreAndPolygon 258 = .ok (.lload 5, 2) := by decide +kernel
theorem d_M_coreAndPolygon_260 : decode b_M_coreAndPolygon 260 = .ok (.lload 7, 2) := by decide +kernel
theorem d_M_coreAndPolygon_262 : decode b_M_coreAndPolygon 262 = .ok (.invokestatic 212, 3) := by decide +kernel
theorem d_M_coreAndPolygon_265 : decode b_M_coreAndPolygon 265 = .ok (.aload_n 0, 1) := by decide +kernel
theorem d_M_coreAndPolygon_266 : decode b_M_coreAndPolygon 266 = .ok (.getfield 59, 3) := by decide +kernel
theorem d_M_coreAndPolygon_269 : decode b_M_coreAndPolygon 269 = .ok (.iload 15, 2) := by decide +kernel
theorem d_M_coreAndPolygon_271 : decode b_M_coreAndPolygon 271 = .ok (.laload, 1) := by decide +kernel
theorem d_M_coreAndPolygon_272 : decode b_M_coreAndPolygon 272 = .ok (.aload_n 0, 1) := by decide +kernel
theorem d_M_coreAndPolygon_273 : decode b_M_coreAndPolygon 273 = .ok (.getfield 62, 3) := by decide +kernel
theorem d_M_coreAndPolygon_276 : decode b_M_coreAndPolygon 276 = .ok (.iload 15, 2) := by decide +kernel
theorem d_M_coreAndPolygon_278 : decode b_M_coreAndPolygon 278 = .ok (.laload, 1) := by decide +kernel
theorem d_M_coreAndPolygon_279 : decode b_M_coreAndPolygon 279 = .ok (.aload_n 0, 1) := by decide +kernel
theorem d_M_coreAndPolygon_280 : decode b_M_coreAndPolygon 280 = .ok (.getfield 59, 3) := by decide +kernel
theorem d_M_coreAndPolygon_283 : decode b_M_coreAndPolygon 283 = .ok (.iload 16, 2) := by decide +kernel
theorem d_M_coreAndPolygon_285 : decode b_M_coreAndPolygon 285 = .ok (.laload, 1) := by decide +kernel
theorem d_M_coreAndPolygon_286 : decode b_M_coreAndPolygon 286 = .ok (.aload_n 0, 1) := by decide +kernel
theorem d_M_coreAndPolygon_287 : decode b_M_coreAndPolygon 287 = .ok (.getfield 62, 3) := by decide +kernel
theorem d_M_coreAndPolygon_290 : decode b_M_coreAndPolygon 290 = .ok (.iload 16, 2) := by decide +kernel
theorem d_M_coreAndPolygon_292 : decode b_M_coreAndPolygon 292 = .ok (.laload, 1) := by decide +kernel
theorem d_M_coreAndPolygon_293 : decode b_M_coreAndPolygon 293 = .ok (.lload 9, 2) := by decide +kernel
theorem d_M_coreAndPolygon_295 : decode b_M_coreAndPolygon 295 = .ok (.lload 11, 2) := by decide +kernel
theorem d_M_coreAndPolygon_297 : decode b_M_coreAndPolygon 297 = .ok (.invokestatic 212, 3) := by decide +kernel
theorem d_M_coreAndPolygon_300 : decode b_M_coreAndPolygon 300 = .ok (.lmul, 1) := by decide +kernel
theorem d_M_coreAndPolygon_301 : decode b_M_coreAndPolygon 301 = .ok (.lconst 0, 1) := by decide +kernel
theorem d_M_coreAndPolygon_302 : decode b_M_coreAndPolygon 302 = .ok (.lcmp, 1) := by decide +kernel
theorem d_M_coreAndPolygon_303 : decode b_M_coreAndPolygon 303 = .ok (.ifCond .ge 7, 3) := by decide +kernel
theorem d_M_coreAndPolygon_306 : decode b_M_coreAndPolygon 306 = .ok (.iconst 1, 1) := by decide +kernel
theorem d_M_coreAndPolygon_307 : decode b_M_coreAndPolygon 307 = .ok (.goto 4, 3) := by decide +kernel
theorem d_M_coreAndPolygon_310 : decode b_M_coreAndPolygon 310 = .ok (.iconst 0, 1) := by decide +kernel
theorem d_M_coreAndPolygon_311 : decode b_M_coreAndPolygon 311 = .ok (.istore 17, 2) := by decide +kernel
theorem d_M_coreAndPolygon_313 : decode b_M_coreAndPolygon 313 = .ok (.iload 17, 2) := by decide +kernel
theorem d_M_coreAndPolygon_315 : decode b_M_coreAndPolygon 315 = .ok (.ifCond .eq 11, 3) := by decide +kernel
theorem d_M_coreAndPolygon_318 : decode b_M_coreAndPolygon 318 = .ok (.lconst 0, 1) := by decide +kernel
theorem d_M_coreAndPolygon_319 : decode b_M_coreAndPolygon 319 = .ok (.lload_n 2, 1) := by decide +kernel
theorem d_M_coreAndPolygon_320 : decode b_M_coreAndPolygon 320 = .ok (.lsub, 1) := by decide +kernel
theorem d_M_coreAndPolygon_321 : decode b_M_coreAndPolygon 321 = .ok (.invokestatic 186, 3) := by decide +kernel
theorem d_M_coreAndPolygon_324 : decode b_M_coreAndPolygon 324 = .ok (.istore 14, 2) := by decide +kernel
theorem d_M_coreAndPolygon_326 : decode b_M_coreAndPolygon 326 = .ok (.iload 14, 2) := by decide +kernel
theorem d_M_coreAndPolygon_328 : decode b_M_coreAndPolygon 328 = .ok (.iload 13, 2) := by decide +kernel
theorem d_M_coreAndPolygon_330 : decode b_M_coreAndPolygon 330 = .ok (.if_icmp .le 8, 3) := by decide +kernel
theorem d_M_coreAndPolygon_333 : decode b_M_coreAndPolygon 333 = .ok (.iload 14, 2) := by decide +kernel
theorem d_M_coreAndPolygon_335 : decode b_M_coreAndPolygon 335 = .ok (.goto 5, 3) := by decide +kernel
theorem d_M_coreAndPolygon_338 : decode b_M_coreAndPolygon 338 = .ok (.iload 13, 2) := by decide +kernel
theorem d_M_coreAndPolygon_340 : decode b_M_coreAndPolygon 340 = .ok (.istore 13, 2) := by decide +kernel
theorem d_M_coreAndPolygon_342 : decode b_M_coreAndPolygon 342 = .ok (.iinc 15 1, 3) := by decide +kernel
theorem d_M_coreAndPolygon_345 : decode b_M_coreAndPolygon 345 = .ok (.goto (-243), 3) := by decide +kernel
theorem d_M_coreAndPolygon_348 : decode b_M_coreAndPolygon 348 = .ok (.iload 13, 2) := by decide +kernel
theorem d_M_coreAndPolygon_350 : decode b_M_coreAndPolygon 350 = .ok (.ireturn, 1) := by decide +kernel
abbrev rm_M_coreAndPolygon : Room := { frames := 3, cells := 0, slots := 0, locals := 101 }
theorem ce_M_coreAndPolygon : gCe y_M_coreAndPolygon (.code y_M_coreAndPolygon b_M_coreAndPolygon 18 (some .int)) 18 2 false := gCe.code wd_1039 wd_57 wd_1038 (by decide) (by decide +kernel)
def f_M_coreAndPolygon_L102 (g0 : gG) (c0 : Nat) (c2 : Int64) (c4 : Int32) (c5 : Int64) (c7 : Int64) (c9 : Int64) (c11 : Int64) (K348 : Int32 → gW → gX Int32) : Nat → Int32 → Int32 → gW → gX Int32
  | 0, _, _, _ => none
  | n + 1, z13, z15, w => (gfA w c0 7 21).bind fun v29 => (gaI w v29 c4).bind fun v31 => if ((8 * c4) + v31) ≤ z15 then (K348 z13 w) else ((gfA w c0 7 21).bind fun v34 => (gaI w v34 c4).bind fun v36 => gguard (¬ v36 = 0) ((gfA w c0 7 22).bind fun v39 => (gaJ w v39 z15).bind fun v41 => (gfA w c0 7 23).bind fun v43 => (gaJ w v43 z15).bind fun v45 => gbind (f_M_fromPiece g0 v41 v45 c5 c7 c9 c11 c2 w) fun v49 w => (gfA w c0 7 22).bind fun v50 => (gaJ w v50 z15).bind fun v52 => (gfA w c0 7 23).bind fun v54 => (gaJ w v54 z15).bind fun v56 => gbind (f_M_turn g0 c5 c7 c9 c11 v52 v56 w) fun v60 w => (gfA w c0 7 22).bind fun v61 => (gaJ w v61 ((8 * c4) + (((z15 - (8 * c4)) + 1) - ((z15 - (8 * c4)) + 1) / v36 * v36))).bind fun v63 => (gfA w c0 7 23).bind fun v65 => (gaJ w v65 ((8 * c4) + (((z15 - (8 * c4)) + 1) - ((z15 - (8 * c4)) + 1) / v36 * v36))).bind fun v67 => gbind (f_M_turn g0 c5 c7 c9 c11 v63 v67 w) fun v71 w => gjoin (fun K311 => gjoin (fun K310 => if 0 ≤ (v60 * v71) then (K310 w) else ((gfA w c0 7 22).bind fun v81 => (gaJ w v81 z15).bind fun v83 => (gfA w c0 7 23).bind fun v85 => (gaJ w v85 z15).bind fun v87 => (gfA w c0 7 22).bind fun v89 => (gaJ w v89 ((8 * c4) + (((z15 - (8 * c4)) + 1) - ((z15 - (8 * c4)) + 1) / v36 * v36))).bind fun v91 => (gfA w c0 7 23).bind fun v93 => (gaJ w v93 ((8 * c4) + (((z15 - (8 * c4)) + 1) - ((z15 - (8 * c4)) + 1) / v36 * v36))).bind fun v95 => gbind (f_M_turn g0 v83 v87 v91 v95 c5 c7 w) fun v99 w => (gfA w c0 7 22).bind fun v100 => (gaJ w v100 z15).bind fun v102 => (gfA w c0 7 23).bind fun v104 => (gaJ w v104 z15).bind fun v106 => (gfA w c0 7 22).bind fun v108 => (gaJ w v108 ((8 * c4) + (((z15 - (8 * c4)) + 1) - ((z15 - (8 * c4)) + 1) / v36 * v36))).bind fun v110 => (gfA w c0 7 23).bind fun v112 => (gaJ w v112 ((8 * c4) + (((z15 - (8 * c4)) + 1) - ((z15 - (8 * c4)) + 1) / v36 * v36))).bind fun v114 => gbind (f_M_turn g0 v102 v106 v110 v114 c9 c11 w) fun v118 w => if 0 ≤ (v99 * v118) then (K310 w) else (K311 1 w))) (fun (w : gW) => K311 0 w)) (fun (y72 : Int32) (w : gW) => gjoin (fun K326 => if y72 = 0 then (K326 v49 w) else (gbind (f_M_common g0 (0 - c2) w) fun v79 w => K326 v79 w)) (fun (x73 : Int32) (w : gW) => gjoin (fun K340 => if x73 ≤ z13 then (K340 z13 w) else (K340 x73 w)) (fun (y74 : Int32) (w : gW) => f_M_coreAndPolygon_L102 g0 c0 c2 c4 c5 c7 c9 c11 K348 n y74 (z15 + 1) w)))))
def f_M_coreAndPolygon (g0 : gG) (a0 : Nat) (p1 : Int32) (p2 : Int64) (w : gW) : gX Int32 := (gfA w a0 7 22).bind fun v1 => (gaJ w v1 (8 * p1)).bind fun v3 => (gfA w a0 7 23).bind fun v5 => (gaJ w v5 (8 * p1)).bind fun v7 => (gfA w a0 7 22).bind fun v9 => (gaJ w v9 ((8 * p1) + 1)).bind fun v11 => (gfA w a0 7 23).bind fun v13 => (gaJ w v13 ((8 * p1) + 1)).bind fun v15 => (gck w a0 7).bind fun _ => gbind (f_M_fromPolygon g0 a0 (1 - p1) v3 v7 p2 w) fun v21 w => (gck w a0 7).bind fun _ => gbind (f_M_fromPolygon g0 a0 (1 - p1) v11 v15 p2 w) fun v26 w => gjoin (fun K93 => if v26 ≤ v21 then (K93 v21 w) else (K93 v26 w)) (fun (y27 : Int32) (w : gW) => gjoin (fun K348 => f_M_coreAndPolygon_L102 g0 a0 p2 (1 - p1) v3 v7 v11 v15 K348 64 y27 (8 * (1 - p1)) w) (fun (x28 : Int32) (w : gW) => some (.inr x28, w)))
set_option maxHeartbeats 4000000 in
set_option maxRecDepth 100000 in
theorem m_M_coreAndPolygon (l : Launch) (hst : l.stackTraces = false) (D : gD) (g0 : gG) (a0 : Nat) (p1 : Int32) (p2 : Int64) (w : gW) (r : (String ⊕ Int32) × gW) (h : f_M_coreAndPolygon g0 a0 p1 p2 w = some r) : gMet l y_M_coreAndPolygon (.code y_M_coreAndPolygon b_M_coreAndPolygon 18 (some .int)) rm_M_coreAndPolygon D g0 [.ref a0, .int p1, .long p2] w (goI r) := by
  refine gw_ofI (by decide +kernel) (Nat.le_of_ble_eq_true rfl) ?_
  intro p e s m below meth c ls args A Q hx hb hml hown hlocks hin hnt hT hK hZ hA hret hexc hthr hI hl
  obtain ⟨H, hH⟩ : ∃ H, H = s.heap := ⟨_, rfl⟩
  rw [← hH] at hI ⊢
  obtain ⟨locs, hlocs⟩ : ∃ z : List Loc, z = [] := ⟨_, rfl⟩
  rw [← hlocs] at hI ⊢
  have hl : lv_has ls 18 [(0, .ref a0), (1, .int p1), (2, .long p2)] := hl
  unfold f_M_coreAndPolygon at h
  refine lv_iconst (v := 1) hx hb d_M_coreAndPolygon_0 (by decide) ?_
  refine lv_iload_n hx hb d_M_coreAndPolygon_1 rfl (lv_at hl 1 rfl) ?_
  refine lv_isub hx hb d_M_coreAndPolygon_2 ?_
  refine lv_istore (lv' := [(4, .int (1 - p1)), (0, .ref a0), (1, .int p1), (2, .long p2)]) hx hb d_M_coreAndPolygon_3 hl (by decide) rfl (fun ls hl => ?_)
  refine lv_aload_n hx hb d_M_coreAndPolygon_5 rfl (lv_at hl 1 rfl) ?_
  obtain ⟨v1, e2, h⟩ := gb h
  refine gw_getA hx hb hT hown hK hI (ci := 7) rfl i_7 22 (by decide) wd_808 (fun _ h9 => h9) e2 d_M_coreAndPolygon_6 ?_
  refine lv_bipush (v := 8) hx hb d_M_coreAndPolygon_9 (by decide) ?_
  refine lv_iload_n hx hb d_M_coreAndPolygon_11 rfl (lv_at hl 2 rfl) ?_
  refine lv_imul hx hb d_M_coreAndPolygon_12 ?_
  obtain ⟨v3, e4, h⟩ := gb h
  refine gw_aldJ hx hb hK hI e4 d_M_coreAndPolygon_13 ?_
  refine lv_lstore (lv' := [(5, .long v3), (4, .int (1 - p1)), (0, .ref a0), (1, .int p1), (2, .long p2)]) hx hb d_M_coreAndPolygon_14 hl (by decide) rfl (fun ls hl => ?_)
  refine lv_aload_n hx hb d_M_coreAndPolygon_16 rfl (lv_at hl 2 rfl) ?_
  obtain ⟨v5, e6, h⟩ := gb h
  refine gw_getA hx hb hT hown hK hI (ci := 7) rfl i_7 23 (by decide) wd_809 (fun _ h9 => h9) e6 d_M_coreAndPolygon_17 ?_
  refine lv_bipush (v := 8) hx hb d_M_coreAndPolygon_20 (by decide) ?_
  refine lv_iload_n hx hb d_M_coreAndPolygon_22 rfl (lv_at hl 3 rfl) ?_
  refine lv_imul hx hb d_M_coreAndPolygon_23 ?_
  obtain ⟨v7, e8, h⟩ := gb h
  refine gw_aldJ hx hb hK hI e8 d_M_coreAndPolygon_24 ?_
  refine lv_lstore (lv' := [(7, .long v7), (5, .long v3), (4, .int (1 - p1)), (0, .ref a0), (1, .int p1), (2, .long p2)]) hx hb d_M_coreAndPolygon_25 hl (by decide) rfl (fun ls hl => ?_)
  refine lv_aload_n hx hb d_M_coreAndPolygon_27 rfl (lv_at hl 3 rfl) ?_
  obtain ⟨v9, e10, h⟩ := gb h
  refine gw_getA hx hb hT hown hK hI (ci := 7) rfl i_7 22 (by decide) wd_808 (fun _ h9 => h9) e10 d_M_coreAndPolygon_28 ?_
  refine lv_bipush (v := 8) hx hb d_M_coreAndPolygon_31 (by decide) ?_
  refine lv_iload_n hx hb d_M_coreAndPolygon_33 rfl (lv_at hl 4 rfl) ?_
  refine lv_imul hx hb d_M_coreAndPolygon_34 ?_
  refine lv_iconst (v := 1) hx hb d_M_coreAndPolygon_35 (by decide) ?_
  refine lv_iadd hx hb d_M_coreAndPolygon_36 ?_
  obtain ⟨v11, e12, h⟩ := gb h
  refine gw_aldJ hx hb hK hI e12 d_M_coreAndPolygon_37 ?_
  refine lv_lstore (lv' := [(9, .long v11), (7, .long v7), (5, .long v3), (4, .int (1 - p1)), (0, .ref a0), (1, .int p1), (2, .long p2)]) hx hb d_M_coreAndPolygon_38 hl (by decide) rfl (fun ls hl => ?_)
  refine lv_aload_n hx hb d_M_coreAndPolygon_40 rfl (lv_at hl 4 rfl) ?_
  obtain ⟨v13, e14, h⟩ := gb h
  refine gw_getA hx hb hT hown hK hI (ci := 7) rfl i_7 23 (by decide) wd_809 (fun _ h9 => h9) e14 d_M_coreAndPolygon_41 ?_
  refine lv_bipush (v := 8) hx hb d_M_coreAndPolygon_44 (by decide) ?_
  refine lv_iload_n hx hb d_M_coreAndPolygon_46 rfl (lv_at hl 5 rfl) ?_
  refine lv_imul hx hb d_M_coreAndPolygon_47 ?_
  refine lv_iconst (v := 1) hx hb d_M_coreAndPolygon_48 (by decide) ?_
  refine lv_iadd hx hb d_M_coreAndPolygon_49 ?_
  obtain ⟨v15, e16, h⟩ := gb h
  refine gw_aldJ hx hb hK hI e16 d_M_coreAndPolygon_50 ?_
  refine lv_lstore (lv' := [(11, .long v15), (9, .long v11), (7, .long v7), (5, .long v3), (4, .int (1 - p1)), (0, .ref a0), (1, .int p1), (2, .long p2)]) hx hb d_M_coreAndPolygon_51 hl (by decide) rfl (fun ls hl => ?_)
  refine lv_aload_n hx hb d_M_coreAndPolygon_53 rfl (lv_at hl 5 rfl) ?_
  refine lv_iload hx hb d_M_coreAndPolygon_54 (lv_at hl 4 rfl) ?_
  refine lv_lload hx hb d_M_coreAndPolygon_56 (lv_at hl 3 rfl) ?_
  refine lv_lload hx hb d_M_coreAndPolygon_58 (lv_at hl 2 rfl) ?_
  refine lv_lload_n hx hb d_M_coreAndPolygon_60 rfl (lv_at hl 7 rfl) ?_
  obtain ⟨q19, e20, h⟩ := gb h
  obtain ⟨u17, e18⟩ := gsome h
  refine gw_callI e18 h (gw_runV (As := [.int (1 - p1), .long v3, .long v7, .long p2]) (rest := []) hx hb hml hown hT hK hZ hA hI (ci := 7) rfl e20 (m_M_fromPolygon l hst D g0 a0 (1 - p1) v3 v7 p2 w u17 e18) ce_M_fromPolygon wd_1040 wd_39 ⟨by decide, by decide⟩ rfl rfl hl.1 rfl (lv_room (Nat.le_of_ble_eq_true rfl)) d_M_coreAndPolygon_61 ⟨(show 0 + 0 ≤ 0 by omega), (show 0 + 0 ≤ 0 by omega)⟩) hI hA hexc (show 0 + 0 ≤ 0 by omega) (show 0 + 0 ≤ 0 by omega) (fun v21 w H locs h hI => ?_)
  refine lv_istore (lv' := [(13, .int v21), (11, .long v15), (9, .long v11), (7, .long v7), (5, .long v3), (4, .int (1 - p1)), (0, .ref a0), (1, .int p1), (2, .long p2)]) hx hb d_M_coreAndPolygon_64 hl (by decide) rfl (fun ls hl => ?_)
  refine lv_aload_n hx hb d_M_coreAndPolygon_66 rfl (lv_at hl 6 rfl) ?_
  refine lv_iload hx hb d_M_coreAndPolygon_67 (lv_at hl 5 rfl) ?_
  refine lv_lload hx hb d_M_coreAndPolygon_69 (lv_at hl 2 rfl) ?_
  refine lv_lload hx hb d_M_coreAndPolygon_71 (lv_at hl 1 rfl) ?_
  refine lv_lload_n hx hb d_M_coreAndPolygon_73 rfl (lv_at hl 8 rfl) ?_
  obtain ⟨q24, e25, h⟩ := gb h
  obtain ⟨u22, e23⟩ := gsome h
  refine gw_callI e23 h (gw_runV (As := [.int (1 - p1), .long v11, .long v15, .long p2]) (rest := []) hx hb hml hown hT hK hZ hA hI (ci := 7) rfl e25 (m_M_fromPolygon l hst D g0 a0 (1 - p1) v11 v15 p2 w u22 e23) ce_M_fromPolygon wd_1040 wd_39 ⟨by decide, by decide⟩ rfl rfl hl.1 rfl (lv_room (Nat.le_of_ble_eq_true rfl)) d_M_coreAndPolygon_74 ⟨(show 0 + 0 ≤ 0 by omega), (show 0 + 0 ≤ 0 by omega)⟩) hI hA hexc (show 0 + 0 ≤ 0 by omega) (show 0 + 0 ≤ 0 by omega) (fun v26 w H locs h hI => ?_)
  refine lv_istore (lv' := [(14, .int v26), (13, .int v21), (11, .long v15), (9, .long v11), (7, .long v7), (5, .long v3), (4, .int (1 - p1)), (0, .ref a0), (1, .int p1), (2, .long p2)]) hx hb d_M_coreAndPolygon_77 hl (by decide) rfl (fun ls hl => ?_)
  refine lv_iload hx hb d_M_coreAndPolygon_79 (lv_at hl 0 rfl) ?_
  refine lv_iload hx hb d_M_coreAndPolygon_81 (lv_at hl 1 rfl) ?_
  obtain ⟨K93, eK93, h⟩ := gj h
  have hK93 : ∀ (y27 : Int32) (w : gW) (H : Heap) (locs : List Loc) (ls : Array Slot), K93 y27 w = some r → gI D s A w H locs → lv_has ls 18 [(0, .ref a0), (2, .long p2), (4, .int (1 - p1)), (5, .long v3), (7, .long v7), (9, .long v11), (11, .long v15)] → W p l e rm_M_coreAndPolygon s m args below meth c H locs 0 0 Q (F0 m 93 ls [.int y27]) := by
    intro y27 w H locs ls h hI hl
    have h := gk2 eK93 h
    refine lv_istore (lv' := [(13, .int y27), (0, .ref a0), (2, .long p2), (4, .int (1 - p1)), (5, .long v3), (7, .long v7), (9, .long v11), (11, .long v15)]) hx hb d_M_coreAndPolygon_93 hl (by decide) rfl (fun ls hl => ?_)
    refine lv_bipush (v := 8) hx hb d_M_coreAndPolygon_95 (by decide) ?_
    refine lv_iload hx hb d_M_coreAndPolygon_97 (lv_at hl 3 rfl) ?_
    refine lv_imul hx hb d_M_coreAndPolygon_99 ?_
    refine lv_istore (lv' := [(15, .int (8 * (1 - p1))), (13, .int y27), (0, .ref a0), (2, .long p2), (4, .int (1 - p1)), (5, .long v3), (7, .long v7), (9, .long v11), (11, .long v15)]) hx hb d_M_coreAndPolygon_100 hl (by decide) rfl (fun ls hl => ?_)
    obtain ⟨K348, eK348, h⟩ := gj h
    have hK348 : ∀ (x28 : Int32) (w : gW) (H : Heap) (locs : List Loc) (ls : Array Slot), K348 x28 w = some r → gI D s A w H locs → lv_has ls 18 [(13, .int x28)] → W p l e rm_M_coreAndPolygon s m args below meth c H locs 0 0 Q (F0 m 348 ls []) := by
      intro x28 w H locs ls h hI hl
      have h := gk2 eK348 h
      refine lv_iload hx hb d_M_coreAndPolygon_348 (lv_at hl 0 rfl) ?_
      exact W.widen (show 0 ≤ 0 by omega) (show 0 ≤ 0 by omega) (hret _ _ (Option.some.inj h).symm _ _ _ _ d_M_coreAndPolygon_350 hI)
    have hL102 : ∀ (n : Nat), ∀ (z29 : Int32) (z30 : Int32) (w : gW) (H : Heap) (locs : List Loc) (ls : Array Slot), f_M_coreAndPolygon_L102 g0 a0 p2 (1 - p1) v3 v7 v11 v15 K348 n z29 z30 w = some r → gI D s A w H locs → lv_has ls 18 [(0, .ref a0), (2, .long p2), (4, .int (1 - p1)), (5, .long v3), (7, .long v7), (9, .long v11), (11, .long v15), (13, .int z29), (15, .int z30)] → W p l e rm_M_coreAndPolygon s m args below meth c H locs 0 0 Q (F0 m 102 ls []) := by
      intro n
      induction n with
      | zero => intro z29 z30 w H locs ls h hI hl; exact absurd h (by simp [f_M_coreAndPolygon_L102])
      | succ n ih =>
        intro z29 z30 w H locs ls h hI hl
        rw [f_M_coreAndPolygon_L102] at h
        refine lv_iload hx hb d_M_coreAndPolygon_102 (lv_at hl 8 rfl) ?_
        refine lv_bipush (v := 8) hx hb d_M_coreAndPolygon_104 (by decide) ?_
        refine lv_iload hx hb d_M_coreAndPolygon_106 (lv_at hl 2 rfl) ?_
        refine lv_imul hx hb d_M_coreAndPolygon_108 ?_
        refine lv_aload_n hx hb d_M_coreAndPolygon_109 rfl (lv_at hl 0 rfl) ?_
        obtain ⟨v31, e32, h⟩ := gb h
        refine gw_getA hx hb hT hown hK hI (ci := 7) rfl i_7 21 (by decide) wd_807 (fun _ h9 => h9) e32 d_M_coreAndPolygon_110 ?_
        refine lv_iload hx hb d_M_coreAndPolygon_113 (lv_at hl 2 rfl) ?_
        obtain ⟨v33, e34, h⟩ := gb h
        refine gw_aldI hx hb hK hI e34 d_M_coreAndPolygon_115 ?_
        refine lv_iadd hx hb d_M_coreAndPolygon_116 ?_
        refine lv_icmp_ge (tgt := 348) hx hb d_M_coreAndPolygon_117 (by decide) (fun c35 => ?_) (fun c35 => ?_)
        · skip
          have h := git c35 h
          exact hK348 _ w H locs ls h hI (lv_sub hl [7] rfl)
        · skip
          have h := gie c35 h
          refine lv_bipush (v := 8) hx hb d_M_coreAndPolygon_120 (by decide) ?_
          refine lv_iload hx hb d_M_coreAndPolygon_122 (lv_at hl 2 rfl) ?_
          refine lv_imul hx hb d_M_coreAndPolygon_124 ?_
          refine lv_iload hx hb d_M_coreAndPolygon_125 (lv_at hl 8 rfl) ?_
          refine lv_bipush (v := 8) hx hb d_M_coreAndPolygon_127 (by decide) ?_
          refine lv_iload hx hb d_M_coreAndPolygon_129 (lv_at hl 2 rfl) ?_
          refine lv_imul hx hb d_M_coreAndPolygon_131 ?_
          refine lv_isub hx hb d_M_coreAndPolygon_132 ?_
          refine lv_iconst (v := 1) hx hb d_M_coreAndPolygon_133 (by decide) ?_
          refine lv_iadd hx hb d_M_coreAndPolygon_134 ?_
          refine lv_aload_n hx hb d_M_coreAndPolygon_135 rfl (lv_at hl 0 rfl) ?_
          obtain ⟨v36, e37, h⟩ := gb h
          refine gw_getA hx hb hT hown hK hI (ci := 7) rfl i_7 21 (by decide) wd_807 (fun _ h9 => h9) e37 d_M_coreAndPolygon_136 ?_
          refine lv_iload hx hb d_M_coreAndPolygon_139 (lv_at hl 2 rfl) ?_
          obtain ⟨v38, e39, h⟩ := gb h
          refine gw_aldI hx hb hK hI e39 d_M_coreAndPolygon_141 ?_
          obtain ⟨g40, h⟩ := gif h
          refine lv_irem hx hb d_M_coreAndPolygon_142 g40 ?_
          refine lv_iadd hx hb d_M_coreAndPolygon_143 ?_
          refine lv_istore (lv' := [(16, .int ((8 * (1 - p1)) + (((z30 - (8 * (1 - p1))) + 1) - ((z30 - (8 * (1 - p1))) + 1) / v38 * v38))), (0, .ref a0), (2, .long p2), (4, .int (1 - p1)), (5, .long v3), (7, .long v7), (9, .long v11), (11, .long v15), (13, .int z29), (15, .int z30)]) hx hb d_M_coreAndPolygon_144 hl (by decide) rfl (fun ls hl => ?_)
          refine lv_aload_n hx hb d_M_coreAndPolygon_146 rfl (lv_at hl 1 rfl) ?_
          obtain ⟨v41, e42, h⟩ := gb h
          refine gw_getA hx hb hT hown hK hI (ci := 7) rfl i_7 22 (by decide) wd_808 (fun _ h9 => h9) e42 d_M_coreAndPolygon_147 ?_
          refine lv_iload hx hb d_M_coreAndPolygon_150 (lv_at hl 9 rfl) ?_
          obtain ⟨v43, e44, h⟩ := gb h
          refine gw_aldJ hx hb hK hI e44 d_M_coreAndPolygon_152 ?_
          refine lv_aload_n hx hb d_M_coreAndPolygon_153 rfl (lv_at hl 1 rfl) ?_
          obtain ⟨v45, e46, h⟩ := gb h
          refine gw_getA hx hb hT hown hK hI (ci := 7) rfl i_7 23 (by decide) wd_809 (fun _ h9 => h9) e46 d_M_coreAndPolygon_154 ?_
          refine lv_iload hx hb d_M_coreAndPolygon_157 (lv_at hl 9 rfl) ?_
          obtain ⟨v47, e48, h⟩ := gb h
          refine gw_aldJ hx hb hK hI e48 d_M_coreAndPolygon_159 ?_
          refine lv_lload hx hb d_M_coreAndPolygon_160 (lv_at hl 4 rfl) ?_
          refine lv_lload hx hb d_M_coreAndPolygon_162 (lv_at hl 5 rfl) ?_
          refine lv_lload hx hb d_M_coreAndPolygon_164 (lv_at hl 6 rfl) ?_
          refine lv_lload hx hb d_M_coreAndPolygon_166 (lv_at hl 7 rfl) ?_
          refine lv_lload_n hx hb d_M_coreAndPolygon_168 rfl (lv_at hl 2 rfl) ?_
          obtain ⟨u49, e50⟩ := gsome h
          refine gw_callI e50 h (gw_runS (As := [.long v43, .long v47, .long v3, .long v7, .long v11, .long v15, .long p2]) (rest := []) hx hb hml hown hT hK hZ hA hI (m_M_fromPiece l hst D g0 v43 v47 v3 v7 v11 v15 p2 w u49 e50) ce_M_fromPiece wd_1048 ⟨by decide, by decide⟩ rfl rfl hl.1 rfl (lv_room (Nat.le_of_ble_eq_true rfl)) d_M_coreAndPolygon_169 ⟨(show 0 + 0 ≤ 0 by omega), (show 0 + 0 ≤ 0 by omega)⟩) hI hA hexc (show 0 + 0 ≤ 0 by omega) (show 0 + 0 ≤ 0 by omega) (fun v51 w H locs h hI => ?_)
          refine lv_istore (lv' := [(14, .int v51), (16, .int ((8 * (1 - p1)) + (((z30 - (8 * (1 - p1))) + 1) - ((z30 - (8 * (1 - p1))) + 1) / v38 * v38))), (0, .ref a0), (2, .long p2), (4, .int (1 - p1)), (5, .long v3), (7, .long v7), (9, .long v11), (11, .long v15), (13, .int z29), (15, .int z30)]) hx hb d_M_coreAndPolygon_172 hl (by decide) rfl (fun ls hl => ?_)
          refine lv_lload hx hb d_M_coreAndPolygon_174 (lv_at hl 5 rfl) ?_
          refine lv_lload hx hb d_M_coreAndPolygon_176 (lv_at hl 6 rfl) ?_
          refine lv_lload hx hb d_M_coreAndPolygon_178 (lv_at hl 7 rfl) ?_
          refine lv_lload hx hb d_M_coreAndPolygon_180 (lv_at hl 8 rfl) ?_
          refine lv_aload_n hx hb d_M_coreAndPolygon_182 rfl (lv_at hl 2 rfl) ?_
          obtain ⟨v52, e53, h⟩ := gb h
          refine gw_getA hx hb hT hown hK hI (ci := 7) rfl i_7 22 (by decide) wd_808 (fun _ h9 => h9) e53 d_M_coreAndPolygon_183 ?_
          refine lv_iload hx hb d_M_coreAndPolygon_186 (lv_at hl 10 rfl) ?_
          obtain ⟨v54, e55, h⟩ := gb h
          refine gw_aldJ hx hb hK hI e55 d_M_coreAndPolygon_188 ?_
          refine lv_aload_n hx hb d_M_coreAndPolygon_189 rfl (lv_at hl 2 rfl) ?_
          obtain ⟨v56, e57, h⟩ := gb h
          refine gw_getA hx hb hT hown hK hI (ci := 7) rfl i_7 23 (by decide) wd_809 (fun _ h9 => h9) e57 d_M_coreAndPolygon_190 ?_
          refine lv_iload hx hb d_M_coreAndPolygon_193 (lv_at hl 10 rfl) ?_
          obtain ⟨v58, e59, h⟩ := gb h
          refine gw_aldJ hx hb hK hI e59 d_M_coreAndPolygon_195 ?_
          obtain ⟨u60, e61⟩ := gsome h
          refine gw_callJ e61 h (gw_runS (As := [.long v3, .long v7, .long v11, .long v15, .long v54, .long v58]) (rest := []) hx hb hml hown hT hK hZ hA hI (m_M_turn l hst D g0 v3 v7 v11 v15 v54 v58 w u60 e61) ce_M_turn wd_1051 ⟨by decide, by decide⟩ rfl rfl hl.1 rfl (lv_room (Nat.le_of_ble_eq_true rfl)) d_M_coreAndPolygon_196 ⟨(show 0 + 0 ≤ 0 by omega), (show 0 + 0 ≤ 0 by omega)⟩) hI hA hexc (show 0 + 0 ≤ 0 by omega) (show 0 + 0 ≤ 0 by omega) (fun v62 w H locs h hI => ?_)
          refine lv_lload hx hb d_M_coreAndPolygon_199 (lv_at hl 5 rfl) ?_
          refine lv_lload hx hb d_M_coreAndPolygon_201 (lv_at hl 6 rfl) ?_
          refine lv_lload hx hb d_M_coreAndPolygon_203 (lv_at hl 7 rfl) ?_
          refine lv_lload hx hb d_M_coreAndPolygon_205 (lv_at hl 8 rfl) ?_
          refine lv_aload_n hx hb d_M_coreAndPolygon_207 rfl (lv_at hl 2 rfl) ?_
          obtain ⟨v63, e64, h⟩ := gb h
          refine gw_getA hx hb hT hown hK hI (ci := 7) rfl i_7 22 (by decide) wd_808 (fun _ h9 => h9) e64 d_M_coreAndPolygon_208 ?_
          refine lv_iload hx hb d_M_coreAndPolygon_211 (lv_at hl 1 rfl) ?_
          obtain ⟨v65, e66, h⟩ := gb h
          refine gw_aldJ hx hb hK hI e66 d_M_coreAndPolygon_213 ?_
          refine lv_aload_n hx hb d_M_coreAndPolygon_214 rfl (lv_at hl 2 rfl) ?_
          obtain ⟨v67, e68, h⟩ := gb h
          refine gw_getA hx hb hT hown hK hI (ci := 7) rfl i_7 23 (by decide) wd_809 (fun _ h9 => h9) e68 d_M_coreAndPolygon_215 ?_
          refine lv_iload hx hb d_M_coreAndPolygon_218 (lv_at hl 1 rfl) ?_
          obtain ⟨v69, e70, h⟩ := gb h
          refine gw_aldJ hx hb hK hI e70 d_M_coreAndPolygon_220 ?_
          obtain ⟨u71, e72⟩ := gsome h
          refine gw_callJ e72 h (gw_runS (As := [.long v3, .long v7, .long v11, .long v15, .long v65, .long v69]) (rest := [.long v62]) hx hb hml hown hT hK hZ hA hI (m_M_turn l hst D g0 v3 v7 v11 v15 v65 v69 w u71 e72) ce_M_turn wd_1051 ⟨by decide, by decide⟩ rfl rfl hl.1 rfl (lv_room (Nat.le_of_ble_eq_true rfl)) d_M_coreAndPolygon_221 ⟨(show 0 + 0 ≤ 0 by omega), (show 0 + 0 ≤ 0 by omega)⟩) hI hA hexc (show 0 + 0 ≤ 0 by omega) (show 0 + 0 ≤ 0 by omega) (fun v73 w H locs h hI => ?_)
          refine lv_lmul hx hb d_M_coreAndPolygon_224 ?_
          refine lv_lconst (v := 0) hx hb d_M_coreAndPolygon_225 (by decide) ?_
          refine W.lcmp hx hb d_M_coreAndPolygon_226 ?_
          obtain ⟨K311, eK311, h⟩ := gj h
          have hK311 : ∀ (y74 : Int32) (w : gW) (H : Heap) (locs : List Loc) (ls : Array Slot), K311 y74 w = some r → gI D s A w H locs → lv_has ls 18 [(0, .ref a0), (2, .long p2), (4, .int (1 - p1)), (5, .long v3), (7, .long v7), (9, .long v11), (11, .long v15), (13, .int z29), (14, .int v51), (15, .int z30)] → W p l e rm_M_coreAndPolygon s m args below meth c H locs 0 0 Q (F0 m 311 ls [.int y74]) := by
            intro y74 w H locs ls h hI hl
            have h := gk2 eK311 h
            refine lv_istore (lv' := [(17, .int y74), (0, .ref a0), (2, .long p2), (4, .int (1 - p1)), (5, .long v3), (7, .long v7), (9, .long v11), (11, .long v15), (13, .int z29), (14, .int v51), (15, .int z30)]) hx hb d_M_coreAndPolygon_311 hl (by decide) rfl (fun ls hl => ?_)
            refine lv_iload hx hb d_M_coreAndPolygon_313 (lv_at hl 0 rfl) ?_
            obtain ⟨K326, eK326, h⟩ := gj h
            have hK326 : ∀ (x75 : Int32) (w : gW) (H : Heap) (locs : List Loc) (ls : Array Slot), K326 x75 w = some r → gI D s A w H locs → lv_has ls 18 [(0, .ref a0), (2, .long p2), (4, .int (1 - p1)), (5, .long v3), (7, .long v7), (9, .long v11), (11, .long v15), (13, .int z29), (14, .int x75), (15, .int z30)] → W p l e rm_M_coreAndPolygon s m args below meth c H locs 0 0 Q (F0 m 326 ls []) := by
              intro x75 w H locs ls h hI hl
              have h := gk2 eK326 h
              refine lv_iload hx hb d_M_coreAndPolygon_326 (lv_at hl 8 rfl) ?_
              refine lv_iload hx hb d_M_coreAndPolygon_328 (lv_at hl 7 rfl) ?_
              obtain ⟨K340, eK340, h⟩ := gj h
              have hK340 : ∀ (y76 : Int32) (w : gW) (H : Heap) (locs : List Loc) (ls : Array Slot), K340 y76 w = some r → gI D s A w H locs → lv_has ls 18 [(0, .ref a0), (2, .long p2), (4, .int (1 - p1)), (5, .long v3), (7, .long v7), (9, .long v11), (11, .long v15), (15, .int z30)] → W p l e rm_M_coreAndPolygon s m args below meth c H locs 0 0 Q (F0 m 340 ls [.int y76]) := by
                intro y76 w H locs ls h hI hl
                have h := gk2 eK340 h
                refine lv_istore (lv' := [(13, .int y76), (0, .ref a0), (2, .long p2), (4, .int (1 - p1)), (5, .long v3), (7, .long v7), (9, .long v11), (11, .long v15), (15, .int z30)]) hx hb d_M_coreAndPolygon_340 hl (by decide) rfl (fun ls hl => ?_)
                refine lv_iinc (v := z30 + 1) (lv' := [(15, .int (z30 + 1)), (13, .int y76), (0, .ref a0), (2, .long p2), (4, .int (1 - p1)), (5, .long v3), (7, .long v7), (9, .long v11), (11, .long v15)]) hx hb d_M_coreAndPolygon_342 hl (k := 8) rfl rfl (by decide) rfl (fun ls hl => ?_)
                refine lv_goto (tgt := 102) hx hb d_M_coreAndPolygon_345 (by decide) ?_
                exact ih _ _ w H locs ls h hI (lv_sub hl [2, 3, 4, 5, 6, 7, 8, 1, 0] rfl)
              refine lv_icmp_le (tgt := 338) hx hb d_M_coreAndPolygon_330 (by decide) (fun c77 => ?_) (fun c77 => ?_)
              · skip
                have h := git c77 h
                refine lv_iload hx hb d_M_coreAndPolygon_338 (lv_at hl 7 rfl) ?_
                exact hK340 _ w H locs ls h hI (lv_sub hl [0, 1, 2, 3, 4, 5, 6, 9] rfl)
              · skip
                have h := gie c77 h
                refine lv_iload hx hb d_M_coreAndPolygon_333 (lv_at hl 8 rfl) ?_
                refine lv_goto (tgt := 340) hx hb d_M_coreAndPolygon_335 (by decide) ?_
                exact hK340 _ w H locs ls h hI (lv_sub hl [0, 1, 2, 3, 4, 5, 6, 9] rfl)
            refine lv_if_eq (tgt := 326) hx hb d_M_coreAndPolygon_315 (by decide) (fun c78 => ?_) (fun c78 => ?_)
            · skip
              have h := git c78 h
              exact hK326 _ w H locs ls h hI (lv_sub hl [1, 2, 3, 4, 5, 6, 7, 8, 9, 10] rfl)
            · skip
              have h := gie c78 h
              refine lv_lconst (v := 0) hx hb d_M_coreAndPolygon_318 (by decide) ?_
              refine lv_lload_n hx hb d_M_coreAndPolygon_319 rfl (lv_at hl 2 rfl) ?_
              refine lv_lsub hx hb d_M_coreAndPolygon_320 ?_
              obtain ⟨u79, e80⟩ := gsome h
              refine gw_callI e80 h (gw_runS (As := [.long (0 - p2)]) (rest := []) hx hb hml hown hT hK hZ hA hI (m_M_common l hst D g0 (0 - p2) w u79 e80) ce_M_common wd_1028 ⟨by decide, by decide⟩ rfl rfl hl.1 rfl (lv_room (Nat.le_of_ble_eq_true rfl)) d_M_coreAndPolygon_321 ⟨(show 0 + 0 ≤ 0 by omega), (show 0 + 0 ≤ 0 by omega)⟩) hI hA hexc (show 0 + 0 ≤ 0 by omega) (show 0 + 0 ≤ 0 by omega) (fun v81 w H locs h hI => ?_)
              refine lv_istore (lv' := [(14, .int v81), (17, .int y74), (0, .ref a0), (2, .long p2), (4, .int (1 - p1)), (5, .long v3), (7, .long v7), (9, .long v11), (11, .long v15), (13, .int z29), (15, .int z30)]) hx hb d_M_coreAndPolygon_324 hl (by decide) rfl (fun ls hl => ?_)
              exact hK326 _ w H locs ls h hI (lv_sub hl [2, 3, 4, 5, 6, 7, 8, 9, 0, 10] rfl)
          obtain ⟨K310, eK310, h⟩ := gj h
          have hK310 : ∀ (w : gW) (H : Heap) (locs : List Loc) (ls : Array Slot), K310 w = some r → gI D s A w H locs → lv_has ls 18 [(0, .ref a0), (2, .long p2), (4, .int (1 - p1)), (5, .long v3), (7, .long v7), (9, .long v11), (11, .long v15), (13, .int z29), (14, .int v51), (15, .int z30)] → W p l e rm_M_coreAndPolygon s m args below meth c H locs 0 0 Q (F0 m 310 ls []) := by
            intro w H locs ls h hI hl
            have h := gk1 eK310 h
            refine lv_iconst (v := 0) hx hb d_M_coreAndPolygon_310 (by decide) ?_
            exact hK311 _ w H locs ls h hI (lv_sub hl [0, 1, 2, 3, 4, 5, 6, 7, 8, 9] rfl)
          refine lv_if_ge (tgt := 310) hx hb d_M_coreAndPolygon_227 (by decide) (fun c82 => ?_) (fun c82 => ?_)
          · have c82 := (lg_cmp_ge _ _).mp c82
            have h := git c82 h
            exact hK310 w H locs ls h hI (lv_sub hl [2, 3, 4, 5, 6, 7, 8, 9, 0, 10] rfl)
          · have c82 := mt (lg_cmp_ge _ _).mpr c82
            have h := gie c82 h
            refine lv_aload_n hx hb d_M_coreAndPolygon_230 rfl (lv_at hl 2 rfl) ?_
            obtain ⟨v83, e84, h⟩ := gb h
            refine gw_getA hx hb hT hown hK hI (ci := 7) rfl i_7 22 (by decide) wd_808 (fun _ h9 => h9) e84 d_M_coreAndPolygon_231 ?_
            refine lv_iload hx hb d_M_coreAndPolygon_234 (lv_at hl 10 rfl) ?_
            obtain ⟨v85, e86, h⟩ := gb h
            refine gw_aldJ hx hb hK hI e86 d_M_coreAndPolygon_236 ?_
            refine lv_aload_n hx hb d_M_coreAndPolygon_237 rfl (lv_at hl 2 rfl) ?_
            obtain ⟨v87, e88, h⟩ := gb h
            refine gw_getA hx hb hT hown hK hI (ci := 7) rfl i_7 23 (by decide) wd_809 (fun _ h9 => h9) e88 d_M_coreAndPolygon_238 ?_
            refine lv_iload hx hb d_M_coreAndPolygon_241 (lv_at hl 10 rfl) ?_
            obtain ⟨v89, e90, h⟩ := gb h
            refine gw_aldJ hx hb hK hI e90 d_M_coreAndPolygon_243 ?_
            refine lv_aload_n hx hb d_M_coreAndPolygon_244 rfl (lv_at hl 2 rfl) ?_
            obtain ⟨v91, e92, h⟩ := gb h
            refine gw_getA hx hb hT hown hK hI (ci := 7) rfl i_7 22 (by decide) wd_808 (fun _ h9 => h9) e92 d_M_coreAndPolygon_245 ?_
            refine lv_iload hx hb d_M_coreAndPolygon_248 (lv_at hl 1 rfl) ?_
            obtain ⟨v93, e94, h⟩ := gb h
            refine gw_aldJ hx hb hK hI e94 d_M_coreAndPolygon_250 ?_
            refine lv_aload_n hx hb d_M_coreAndPolygon_251 rfl (lv_at hl 2 rfl) ?_
            obtain ⟨v95, e96, h⟩ := gb h
            refine gw_getA hx hb hT hown hK hI (ci := 7) rfl i_7 23 (by decide) wd_809 (fun _ h9 => h9) e96 d_M_coreAndPolygon_252 ?_
            refine lv_iload hx hb d_M_coreAndPolygon_255 (lv_at hl 1 rfl) ?_
            obtain ⟨v97, e98, h⟩ := gb h
            refine gw_aldJ hx hb hK hI e98 d_M_coreAndPolygon_257 ?_
            refine lv_lload hx hb d_M_coreAndPolygon_258 (lv_at hl 5 rfl) ?_
            refine lv_lload hx hb d_M_coreAndPolygon_260 (lv_at hl 6 rfl) ?_
            obtain ⟨u99, e100⟩ := gsome h
            refine gw_callJ e100 h (gw_runS (As := [.long v85, .long v89, .long v93, .long v97, .long v3, .long v7]) (rest := []) hx hb hml hown hT hK hZ hA hI (m_M_turn l hst D g0 v85 v89 v93 v97 v3 v7 w u99 e100) ce_M_turn wd_1051 ⟨by decide, by decide⟩ rfl rfl hl.1 rfl (lv_room (Nat.le_of_ble_eq_true rfl)) d_M_coreAndPolygon_262 ⟨(show 0 + 0 ≤ 0 by omega), (show 0 + 0 ≤ 0 by omega)⟩) hI hA hexc (show 0 + 0 ≤ 0 by omega) (show 0 + 0 ≤ 0 by omega) (fun v101 w H locs h hI => ?_)
            refine lv_aload_n hx hb d_M_coreAndPolygon_265 rfl (lv_at hl 2 rfl) ?_
            obtain ⟨v102, e103, h⟩ := gb h
            refine gw_getA hx hb hT hown hK hI (ci := 7) rfl i_7 22 (by decide) wd_808 (fun _ h9 => h9) e103 d_M_coreAndPolygon_266 ?_
            refine lv_iload hx hb d_M_coreAndPolygon_269 (lv_at hl 10 rfl) ?_
            obtain ⟨v104, e105, h⟩ := gb h
            refine gw_aldJ hx hb hK hI e105 d_M_coreAndPolygon_271 ?_
            refine lv_aload_n hx hb d_M_coreAndPolygon_272 rfl (lv_at hl 2 rfl) ?_
            obtain ⟨v106, e107, h⟩ := gb h
            refine gw_getA hx hb hT hown hK hI (ci := 7) rfl i_7 23 (by decide) wd_809 (fun _ h9 => h9) e107 d_M_coreAndPolygon_273 ?_
            refine lv_iload hx hb d_M_coreAndPolygon_276 (lv_at hl 10 rfl) ?_
            obtain ⟨v108, e109, h⟩ := gb h
            refine gw_aldJ hx hb hK hI e109 d_M_coreAndPolygon_278 ?_
            refine lv_aload_n hx hb d_M_coreAndPolygon_279 rfl (lv_at hl 2 rfl) ?_
            obtain ⟨v110, e111, h⟩ := gb h
            refine gw_getA hx hb hT hown hK hI (ci := 7) rfl i_7 22 (by decide) wd_808 (fun _ h9 => h9) e111 d_M_coreAndPolygon_280 ?_
            refine lv_iload hx hb d_M_coreAndPolygon_283 (lv_at hl 1 rfl) ?_
            obtain ⟨v112, e113, h⟩ := gb h
            refine gw_aldJ hx hb hK hI e113 d_M_coreAndPolygon_285 ?_
            refine lv_aload_n hx hb d_M_coreAndPolygon_286 rfl (lv_at hl 2 rfl) ?_
            obtain ⟨v114, e115, h⟩ := gb h
            refine gw_getA hx hb hT hown hK hI (ci := 7) rfl i_7 23 (by decide) wd_809 (fun _ h9 => h9) e115 d_M_coreAndPolygon_287 ?_
            refine lv_iload hx hb d_M_coreAndPolygon_290 (lv_at hl 1 rfl) ?_
            obtain ⟨v116, e117, h⟩ := gb h
            refine gw_aldJ hx hb hK hI e117 d_M_coreAndPolygon_292 ?_
            refine lv_lload hx hb d_M_coreAndPolygon_293 (lv_at hl 7 rfl) ?_
            refine lv_lload hx hb d_M_coreAndPolygon_295 (lv_at hl 8 rfl) ?_
            obtain ⟨u118, e119⟩ := gsome h
            refine gw_callJ e119 h (gw_runS (As := [.long v104, .long v108, .long v112, .long v116, .long v11, .long v15]) (rest := [.long v101]) hx hb hml hown hT hK hZ hA hI (m_M_turn l hst D g0 v104 v108 v112 v116 v11 v15 w u118 e119) ce_M_turn wd_1051 ⟨by decide, by decide⟩ rfl rfl hl.1 rfl (lv_room (Nat.le_of_ble_eq_true rfl)) d_M_coreAndPolygon_297 ⟨(show 0 + 0 ≤ 0 by omega), (show 0 + 0 ≤ 0 by omega)⟩) hI hA hexc (show 0 + 0 ≤ 0 by omega) (show 0 + 0 ≤ 0 by omega) (fun v120 w H locs h hI => ?_)
            refine lv_lmul hx hb d_M_coreAndPolygon_300 ?_
            refine lv_lconst (v := 0) hx hb d_M_coreAndPolygon_301 (by decide) ?_
            refine W.lcmp hx hb d_M_coreAndPolygon_302 ?_
            refine lv_if_ge (tgt := 310) hx hb d_M_coreAndPolygon_303 (by decide) (fun c121 => ?_) (fun c121 => ?_)
            · have c121 := (lg_cmp_ge _ _).mp c121
              have h := git c121 h
              exact hK310 w H locs ls h hI (lv_sub hl [2, 3, 4, 5, 6, 7, 8, 9, 0, 10] rfl)
            · have c121 := mt (lg_cmp_ge _ _).mpr c121
              have h := gie c121 h
              refine lv_iconst (v := 1) hx hb d_M_coreAndPolygon_306 (by decide) ?_
              refine lv_goto (tgt := 311) hx hb d_M_coreAndPolygon_307 (by decide) ?_
              exact hK311 _ w H locs ls h hI (lv_sub hl [2, 3, 4, 5, 6, 7, 8, 9, 0, 10] rfl)
    exact hL102 64 _ _ w H locs ls h hI (lv_sub hl [2, 3, 4, 5, 6, 7, 8, 1, 0] rfl)
  refine lv_icmp_le (tgt := 91) hx hb d_M_coreAndPolygon_83 (by decide) (fun c122 => ?_) (fun c122 => ?_)
  · skip
    have h := git c122 h
    refine lv_iload hx hb d_M_coreAndPolygon_91 (lv_at hl 1 rfl) ?_
    exact hK93 _ w H locs ls h hI (lv_sub hl [7, 9, 6, 5, 4, 3, 2] rfl)
  · skip
    have h := gie c122 h
    refine lv_iload hx hb d_M_coreAndPolygon_86 (lv_at hl 0 rfl) ?_
    refine lv_goto (tgt := 93) hx hb d_M_coreAndPolygon_88 (by decide) ?_
    exact hK93 _ w H locs ls h hI (lv_sub hl [7, 9, 6, 5, 4, 3, 2] rfl)
